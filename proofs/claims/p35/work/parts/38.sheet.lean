/-! ===== the program: a sheet ===== -/
def SH (h : xH) (a : Nat) (ln : Option Nat) (n : Nat) (f : Nat → Int32) : Prop := h[a]? = some (.inr (5, [.ref (a + 1), .int (oC ln), .int (Int32.ofNat n)])) ∧ (∃ g, h[a + 1]? = some (.inl (0, 50, .inl g)) ∧ ∀ c, c < 50 → g c = f c) ∧ 2 ≤ a ∧ n ≤ 50 ∧ ∀ x, ln = some x → x < 3
theorem SH.fr {h h' : xH} {a n : Nat} {ln : Option Nat} {f : Nat → Int32} (H : SH h a ln n f) {P : Nat → Prop} {k m : Nat} (F : FR P k m h h') (hq : ¬ P a) (he : ¬ P (a + 1)) : SH h' a ln n f := ⟨F.at H.1 hq, H.2.1.imp fun _ z => ⟨F.at z.1 he, z.2⟩, H.2.2⟩
theorem SH.cls {h : xH} {a n : Nat} {ln : Option Nat} {f : Nat → Int32} (H : SH h a ln n f) : y_cls h a 5 := by unfold y_cls; rw [H.1]; exact ⟨H.2.2.1, rfl⟩
/-- a condition in four parts, as the program asks it -/
def hldB (n : Nat) (i k : Int32) : Bool := decide (0 ≤ i ∧ i ≤ Int32.ofNat n ∧ 0 ≤ k ∧ k ≤ Int32.ofNat n - i)
def cvt (ln : Option Nat) (v : Int32) : Int32 := if ln = some 0 then v.toInt8.toInt32 else if ln = some 1 then v.toInt16.toInt32 else v
section
variable {d : Nat} {h : xH} {K : Option Value → xH → Prop} {a n : Nat} {ln : Option Nat} {f : Nat → Int32}
theorem oC_9 {o : Option Nat} (ho : ∀ x, o = some x → x < 1000) : (oC o = -9) = (o = none) := by
  cases o with
  | none => simp [oC]
  | some z => exact propext ⟨fun e => (n_ne9 (by have := ho z rfl; omega) e).elim, fun e => by cases e⟩
theorem wp_isNothing (H : SH h a ln n f) : wp d 27 0 [some (.ref a)] [] h K ↔ K (some (.int (bi ln.isNone))) h := by
  have e := oC_9 (o := ln) (fun x hx => by have := H.2.2.2.2 x hx; omega)
  simp only [w27_0, w27_0n, w27_1, w27_4, w27_6, w27_9, w27_10, w27_13, w27_14, xk_n, xk_i, xk_r, xk_z, xk_l, xcs_0, xcs_i, xcs_r, xcs_z, xcs_l, Nat.reduceAdd, Nat.reduceLeDiff, Nat.reduceLT, true_and, and_true, Option.toList_some, Option.toList_none, List.nil_append, List.cons_append, List.getElem?_cons_zero, List.getElem?_cons_succ, List.set_cons_zero, List.set_cons_succ, List.length_cons, List.length_nil, y_bool0, y_bool1, not_true_eq_false, not_false_eq_true, false_implies, true_implies, true_or, or_true, false_or, or_false, if_true, if_false, ite_true, ite_false, y_get, H.1, e]
  cases ln <;> simp [bi, y_bool0, y_bool1]
theorem wp_renew {ln' n' : Nat} (H : SH h a ln n f) (hl : ln' < 3) (hn' : n' ≤ 50) (hK : ∀ h', SH h' a (some ln') n' (fun _ => 0) → FR (fun b => b = a ∨ b = a + 1) 0 0 h h' → K none h') : wp (d + 1) 29 0 [some (.ref a), some (.int (Int32.ofNat ln')), some (.int (Int32.ofNat n'))] [] h K := by
  have hal := h_lt H.1
  obtain ⟨g, hg, hgf⟩ := H.2.1
  have z1 : (if Int32.ofNat 50 < Int32.ofNat n' then Int32.ofNat 50 else Int32.ofNat n') = Int32.ofNat n' := by
    rw [if_neg]
    rw [n_lt (by omega) (by omega)]; omega
  have z2 : (a = a + 1) = False := eq_false (by omega)
  simp only [w29_0, w29_0n, w29_1, w29_2, w29_5, w29_5n, w29_6, w29_7, w29_7n, w29_8, w29_11, w29_12, w29_15, w29_18, w29_18n, w29_19, w29_22, w29_23, w29_26, xk_n, xk_i, xk_r, xk_z, xk_l, xcs_0, xcs_i, xcs_r, xcs_z, xcs_l, Nat.reduceAdd, Nat.reduceLeDiff, Nat.reduceLT, true_and, and_true, Option.toList_some, Option.toList_none, List.nil_append, List.cons_append, List.getElem?_cons_zero, List.getElem?_cons_succ, List.set_cons_zero, List.set_cons_succ, List.length_cons, List.length_nil, y_bool0, y_bool1, not_true_eq_false, not_false_eq_true, false_implies, true_implies, true_or, or_true, false_or, or_false, if_true, if_false, ite_true, ite_false, y_get, y_put, y_alen, H.1, hg, H.2.2.1, List.getElem?_set, List.length_set, hal, set_set, z1, z2]
  have F1 := FR.set (c := .inr (5, [.ref (a + 1), .int (Int32.ofNat ln'), .int (Int32.ofNat n')])) H.1 rfl
  have L1 : (h.set a (.inr (5, [.ref (a + 1), .int (Int32.ofNat ln'), .int (Int32.ofNat n')])))[a + 1]? = _ := h_set_ne hg (by omega)
  refine wp_fill0 (f := g) (n := 50) (by omega) (show 2 ≤ a + 1 by have := H.2.2.1; omega) L1 fun f' hf' => ?_
  simp only [w29_0, w29_0n, w29_1, w29_2, w29_5, w29_5n, w29_6, w29_7, w29_7n, w29_8, w29_11, w29_12, w29_15, w29_18, w29_18n, w29_19, w29_22, w29_23, w29_26, xk_n, xk_i, xk_r, xk_z, xk_l, xcs_0, xcs_i, xcs_r, xcs_z, xcs_l, Nat.reduceAdd, Nat.reduceLeDiff, Nat.reduceLT, true_and, and_true, Option.toList_some, Option.toList_none, List.nil_append, List.cons_append, List.getElem?_cons_zero, List.getElem?_cons_succ, List.set_cons_zero, List.set_cons_succ, List.length_cons, List.length_nil, y_bool0, y_bool1, not_true_eq_false, not_false_eq_true, false_implies, true_implies, true_or, or_true, false_or, or_false, if_true, if_false, ite_true, ite_false]
  refine hK _ ⟨h_set_ne (h_set_at H.1) (by omega), ⟨f', h_set_at L1, hf'⟩, H.2.2.1, hn', fun x hx => by cases hx; exact hl⟩ ?_
  exact F1.trans (FR.set L1 rfl) (fun _ _ z => Or.inl z) (fun _ _ z => Or.inr z) (Nat.le_refl _) (Nat.le_refl _)
theorem wp_fot {w : Int32} (H : SH h a ln n f) : wp (d + 1) 30 0 [some (.ref a), some (.int w)] [] h K ↔ K (some (.int (if ln = none then 1 else if oC ln = w then 0 else 2))) h := by
  have z10 : ((1 : Int32) = 0) = False := eq_false (by decide)
  simp only [w30_0, w30_0n, w30_1, w30_4, w30_7, w30_8, w30_9, w30_9n, w30_10, w30_13, w30_14, w30_17, w30_18, w30_21, w30_22, xk_n, xk_i, xk_r, xk_z, xk_l, xcs_0, xcs_i, xcs_r, xcs_z, xcs_l, Nat.reduceAdd, Nat.reduceLeDiff, Nat.reduceLT, true_and, and_true, Option.toList_some, Option.toList_none, List.nil_append, List.cons_append, List.getElem?_cons_zero, List.getElem?_cons_succ, List.set_cons_zero, List.set_cons_succ, List.length_cons, List.length_nil, y_bool0, y_bool1, not_true_eq_false, not_false_eq_true, false_implies, true_implies, true_or, or_true, false_or, or_false, if_true, if_false, ite_true, ite_false, y_get, H.1, H.cls, wp_isNothing H]
  cases ln with
  | none => simp only [Option.isNone_none, bi_t, z10, xk_n, xk_i, xk_r, xk_z, xk_l, xcs_0, xcs_i, xcs_r, xcs_z, xcs_l, Nat.reduceAdd, Nat.reduceLeDiff, Nat.reduceLT, true_and, and_true, Option.toList_some, Option.toList_none, List.nil_append, List.cons_append, List.getElem?_cons_zero, List.getElem?_cons_succ, List.set_cons_zero, List.set_cons_succ, List.length_cons, List.length_nil, y_bool0, y_bool1, not_true_eq_false, not_false_eq_true, false_implies, true_implies, true_or, or_true, false_or, or_false, if_true, if_false, ite_true, ite_false]
  | some x =>
    have e : (some x = none) = False := by simp
    simp only [Option.isNone_some, bi_f, xk_n, xk_i, xk_r, xk_z, xk_l, xcs_0, xcs_i, xcs_r, xcs_z, xcs_l, Nat.reduceAdd, Nat.reduceLeDiff, Nat.reduceLT, true_and, and_true, Option.toList_some, Option.toList_none, List.nil_append, List.cons_append, List.getElem?_cons_zero, List.getElem?_cons_succ, List.set_cons_zero, List.set_cons_succ, List.length_cons, List.length_nil, y_bool0, y_bool1, not_true_eq_false, not_false_eq_true, false_implies, true_implies, true_or, or_true, false_or, or_false, if_true, if_false, ite_true, ite_false, e]
    by_cases q : oC (some x) = w
    · simp only [q, xk_n, xk_i, xk_r, xk_z, xk_l, xcs_0, xcs_i, xcs_r, xcs_z, xcs_l, Nat.reduceAdd, Nat.reduceLeDiff, Nat.reduceLT, true_and, and_true, Option.toList_some, Option.toList_none, List.nil_append, List.cons_append, List.getElem?_cons_zero, List.getElem?_cons_succ, List.set_cons_zero, List.set_cons_succ, List.length_cons, List.length_nil, y_bool0, y_bool1, not_true_eq_false, not_false_eq_true, false_implies, true_implies, true_or, or_true, false_or, or_false, if_true, if_false, ite_true, ite_false]
    · simp only [q, xk_n, xk_i, xk_r, xk_z, xk_l, xcs_0, xcs_i, xcs_r, xcs_z, xcs_l, Nat.reduceAdd, Nat.reduceLeDiff, Nat.reduceLT, true_and, and_true, Option.toList_some, Option.toList_none, List.nil_append, List.cons_append, List.getElem?_cons_zero, List.getElem?_cons_succ, List.set_cons_zero, List.set_cons_succ, List.length_cons, List.length_nil, y_bool0, y_bool1, not_true_eq_false, not_false_eq_true, false_implies, true_implies, true_or, or_true, false_or, or_false, if_true, if_false, ite_true, ite_false]
theorem wp_hasPlace {i : Int32} (H : SH h a ln n f) : wp d 31 0 [some (.ref a), some (.int i)] [] h K ↔ K (some (.int (bi (decide (0 ≤ i ∧ i < Int32.ofNat n))))) h := by
  simp only [w31_0, w31_1, w31_4, w31_5, w31_5n, w31_6, w31_9, w31_12, w31_13, w31_16, w31_17, xk_n, xk_i, xk_r, xk_z, xk_l, xcs_0, xcs_i, xcs_r, xcs_z, xcs_l, Nat.reduceAdd, Nat.reduceLeDiff, Nat.reduceLT, true_and, and_true, Option.toList_some, Option.toList_none, List.nil_append, List.cons_append, List.getElem?_cons_zero, List.getElem?_cons_succ, List.set_cons_zero, List.set_cons_succ, List.length_cons, List.length_nil, y_bool0, y_bool1, not_true_eq_false, not_false_eq_true, false_implies, true_implies, true_or, or_true, false_or, or_false, if_true, if_false, ite_true, ite_false, y_get, H.1]
  by_cases h1 : i < 0
  · have : ¬ 0 ≤ i := by rw [Int32.not_le]; exact h1
    simp only [h1, this, xk_n, xk_i, xk_r, xk_z, xk_l, xcs_0, xcs_i, xcs_r, xcs_z, xcs_l, Nat.reduceAdd, Nat.reduceLeDiff, Nat.reduceLT, true_and, and_true, Option.toList_some, Option.toList_none, List.nil_append, List.cons_append, List.getElem?_cons_zero, List.getElem?_cons_succ, List.set_cons_zero, List.set_cons_succ, List.length_cons, List.length_nil, y_bool0, y_bool1, not_true_eq_false, not_false_eq_true, false_implies, true_implies, true_or, or_true, false_or, or_false, if_true, if_false, ite_true, ite_false, false_and, decide_false, bi, Bool.false_eq_true]
  · have : 0 ≤ i := by rw [← Int32.not_lt]; exact h1
    by_cases h2 : Int32.ofNat n ≤ i
    · have h3 : ¬ i < Int32.ofNat n := by rw [Int32.not_lt]; exact h2
      simp only [h1, h2, h3, this, xk_n, xk_i, xk_r, xk_z, xk_l, xcs_0, xcs_i, xcs_r, xcs_z, xcs_l, Nat.reduceAdd, Nat.reduceLeDiff, Nat.reduceLT, true_and, and_true, Option.toList_some, Option.toList_none, List.nil_append, List.cons_append, List.getElem?_cons_zero, List.getElem?_cons_succ, List.set_cons_zero, List.set_cons_succ, List.length_cons, List.length_nil, y_bool0, y_bool1, not_true_eq_false, not_false_eq_true, false_implies, true_implies, true_or, or_true, false_or, or_false, if_true, if_false, ite_true, ite_false, and_false, decide_false, bi, Bool.false_eq_true]
    · have h3 : i < Int32.ofNat n := by rw [← Int32.not_le]; exact h2
      simp only [h1, h2, h3, this, xk_n, xk_i, xk_r, xk_z, xk_l, xcs_0, xcs_i, xcs_r, xcs_z, xcs_l, Nat.reduceAdd, Nat.reduceLeDiff, Nat.reduceLT, true_and, and_true, Option.toList_some, Option.toList_none, List.nil_append, List.cons_append, List.getElem?_cons_zero, List.getElem?_cons_succ, List.set_cons_zero, List.set_cons_succ, List.length_cons, List.length_nil, y_bool0, y_bool1, not_true_eq_false, not_false_eq_true, false_implies, true_implies, true_or, or_true, false_or, or_false, if_true, if_false, ite_true, ite_false, and_true, decide_true, bi]
theorem wp_holds {i k : Int32} (H : SH h a ln n f) : wp d 32 0 [some (.ref a), some (.int i), some (.int k)] [] h K ↔ K (some (.int (bi (hldB n i k)))) h := by
  have nle : ∀ x y : Int32, (x ≤ y) = ¬ (y < x) := fun x y => by rw [Int32.not_lt]
  unfold hldB
  simp only [w32_0, w32_1, w32_4, w32_5, w32_5n, w32_6, w32_9, w32_12, w32_13, w32_16, w32_17, w32_17n, w32_18, w32_21, w32_22, w32_23, w32_26, w32_27, w32_30, w32_31, xk_n, xk_i, xk_r, xk_z, xk_l, xcs_0, xcs_i, xcs_r, xcs_z, xcs_l, Nat.reduceAdd, Nat.reduceLeDiff, Nat.reduceLT, true_and, and_true, Option.toList_some, Option.toList_none, List.nil_append, List.cons_append, List.getElem?_cons_zero, List.getElem?_cons_succ, List.set_cons_zero, List.set_cons_succ, List.length_cons, List.length_nil, y_bool0, y_bool1, not_true_eq_false, not_false_eq_true, false_implies, true_implies, true_or, or_true, false_or, or_false, if_true, if_false, ite_true, ite_false, y_get, H.1]
  simp only [nle]
  by_cases h1 : i < 0
  · simp [h1, bi, y_bool0, y_bool1]
  · by_cases h2 : Int32.ofNat n < i
    · simp [h1, h2, bi, y_bool0, y_bool1]
    · by_cases h3 : k < 0
      · simp [h1, h2, h3, bi, y_bool0, y_bool1]
      · by_cases h4 : Int32.ofNat n - i < k
        · simp [h1, h2, h3, h4, bi, y_bool0, y_bool1]
        · simp [h1, h2, h3, h4, bi, y_bool0, y_bool1]
theorem plc {i n : Nat} (hi : i < n) (hn : n ≤ 50) : decide (0 ≤ Int32.ofNat i ∧ Int32.ofNat i < Int32.ofNat n) = true := by
  apply decide_eq_true
  exact ⟨(n_lle (m := 0) (by omega) (by omega)).mpr (by omega), (n_lt (by omega) (by omega)).mpr hi⟩
theorem wp_read {i : Nat} (H : SH h a ln n f) (hi : i < n) : wp (d + 1) 33 0 [some (.ref a), some (.int (Int32.ofNat i))] [] h K ↔ K (some (.int (f i))) h := by
  have hn := H.2.2.2.1
  obtain ⟨g, hg, hgf⟩ := H.2.1
  have z10 : ((1 : Int32) = 0) = False := eq_false (by decide)
  have z6 : (Int32.ofNat 50 ≤ Int32.ofNat i) = False := eq_false (by rw [n_le (by omega) (by omega)]; omega)
  have e8 : vp_in (Int32.ofNat i) 50 := (n_in (by omega)).mpr (by omega)
  have e9 : (Int32.ofNat i).toNatClampNeg = i := n_cl (by omega)
  simp only [w33_0, w33_0n, w33_1, w33_2, w33_5, w33_8, w33_9, w33_9n, w33_10, w33_13, w33_14, w33_17, w33_17n, w33_18, w33_21, w33_22, w33_23, w33_26, w33_27, xk_n, xk_i, xk_r, xk_z, xk_l, xcs_0, xcs_i, xcs_r, xcs_z, xcs_l, Nat.reduceAdd, Nat.reduceLeDiff, Nat.reduceLT, true_and, and_true, Option.toList_some, Option.toList_none, List.nil_append, List.cons_append, List.getElem?_cons_zero, List.getElem?_cons_succ, List.set_cons_zero, List.set_cons_succ, List.length_cons, List.length_nil, y_bool0, y_bool1, not_true_eq_false, not_false_eq_true, false_implies, true_implies, true_or, or_true, false_or, or_false, if_true, if_false, ite_true, ite_false, y_get, H.1, hg, H.cls, wp_hasPlace H, plc hi hn, bi_t, z10, y_alen, z6, y_iald, e8, e9, hgf i (show i < 50 by omega)]
theorem wp_write {i : Nat} {v : Int32} (H : SH h a ln n f) (hi : i < n) (hK : ∀ h', SH h' a ln n (upd f i (cvt ln v)) → FR (fun b => b = a + 1) 0 0 h h' → K none h') : wp (d + 1) 34 0 [some (.ref a), some (.int (Int32.ofNat i)), some (.int v)] [] h K := by
  have hn := H.2.2.2.1
  obtain ⟨g, hg, hgf⟩ := H.2.1
  have z10 : ((1 : Int32) = 0) = False := eq_false (by decide)
  have z6 : (Int32.ofNat 50 ≤ Int32.ofNat i) = False := eq_false (by rw [n_le (by omega) (by omega)]; omega)
  have e8 : vp_in (Int32.ofNat i) 50 := (n_in (by omega)).mpr (by omega)
  have e9 : (Int32.ofNat i).toNatClampNeg = i := n_cl (by omega)
  have h2 : 2 ≤ a + 1 := by have := H.2.2.1; omega
  have key : ∀ x, K none (h.set (a + 1) (.inl (0, 50, .inl (upd g i x)))) ∨ x ≠ cvt ln v := by
    intro x
    by_cases q : x = cvt ln v
    · subst q
      refine Or.inl (hK _ ⟨h_set_ne H.1 (by omega), ⟨_, h_set_at hg, fun c hc => ?_⟩, H.2.2⟩ (FR.set hg rfl))
      unfold upd
      split
      · rfl
      · exact hgf c hc
    · exact Or.inr q
  have c0 : (oC ln = 0) = (ln = some 0) := by
    cases ln with
    | none => simp [oC]
    | some x =>
      have := H.2.2.2.2 x rfl
      have e : (Int32.ofNat x = 0) = (x = 0) := propext (n_eql (m := 0) (by omega) (by omega))
      show (Int32.ofNat x = 0) = _
      rw [e]; simp
  have c1 : (oC ln = 1) = (ln = some 1) := by
    cases ln with
    | none => simp [oC]
    | some x =>
      have := H.2.2.2.2 x rfl
      have e : (Int32.ofNat x = 1) = (x = 1) := propext (n_eql (m := 1) (by omega) (by omega))
      show (Int32.ofNat x = 1) = _
      rw [e]; simp
  simp only [w34_0, w34_0n, w34_1, w34_2, w34_5, w34_8, w34_9, w34_9n, w34_10, w34_13, w34_14, w34_17, w34_17n, w34_18, w34_21, w34_22, w34_22n, w34_23, w34_26, w34_29, w34_30, w34_31, w34_34, w34_34n, w34_35, w34_38, w34_39, w34_42, w34_43, w34_44, w34_47, w34_48, w34_49, xk_n, xk_i, xk_r, xk_z, xk_l, xcs_0, xcs_i, xcs_r, xcs_z, xcs_l, Nat.reduceAdd, Nat.reduceLeDiff, Nat.reduceLT, true_and, and_true, Option.toList_some, Option.toList_none, List.nil_append, List.cons_append, List.getElem?_cons_zero, List.getElem?_cons_succ, List.set_cons_zero, List.set_cons_succ, List.length_cons, List.length_nil, y_bool0, y_bool1, not_true_eq_false, not_false_eq_true, false_implies, true_implies, true_or, or_true, false_or, or_false, if_true, if_false, ite_true, ite_false, y_get, H.1, hg, H.cls, wp_hasPlace H, plc hi hn, bi_t, z10, y_alen, z6, y_iast, e8, e9, h2, c0, c1]
  by_cases q0 : ln = some 0
  · refine ⟨fun z => absurd q0 z, fun _ => (key _).resolve_right fun z => z ?_⟩
    unfold cvt; rw [if_pos q0]
  · refine ⟨fun _ => ?_, fun z => absurd z q0⟩
    by_cases q1 : ln = some 1
    · refine ⟨fun z => absurd q1 z, fun _ => (key _).resolve_right fun z => z ?_⟩
      unfold cvt; rw [if_neg q0, if_pos q1]
    · refine ⟨fun _ => (key _).resolve_right fun z => z ?_, fun z => absurd z q1⟩
      unfold cvt; rw [if_neg q0, if_neg q1]
end
