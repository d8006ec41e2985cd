/-! ===== the program: frosts ===== -/
def PF (h : xH) (a : Nat) (fr : Nat → Bool) : Prop := h[a]? = some (.inr (2, [.ref (a + 1)])) ∧ 2 ≤ a ∧ ∃ f, h[a + 1]? = some (.inl (1, 80, .inl f)) ∧ ∀ d, d < 80 → f d = bi (fr d)
theorem PF.fr {h h' : xH} {a : Nat} {fr : Nat → Bool} (H : PF h a fr) {P : Nat → Prop} {k m : Nat} (F : FR P k m h h') (hq : ¬ P a) (he : ¬ P (a + 1)) : PF h' a fr := by
  obtain ⟨a1, a2, f, a3, a4⟩ := H
  exact ⟨F.at a1 hq, a2, f, F.at a3 he, a4⟩
theorem wp_isOn {d : Nat} {h : xH} {K : Option Value → xH → Prop} {a x : Nat} {fr : Nat → Bool} (H : PF h a fr) (hx : x < 80) : wp d 11 0 [some (.ref a), some (.int (Int32.ofNat x))] [] h K ↔ K (some (.int (bi (fr x)))) h := by
  obtain ⟨a1, a2, f, a3, a4⟩ := H
  have e1 : (Int32.ofNat x < 0) = False := eq_false (n_lt0 (by omega))
  have e2 : (Int32.ofNat 80 ≤ Int32.ofNat x) = False := eq_false (by rw [n_le (by omega) (by omega)]; omega)
  have e4 : vp_in (Int32.ofNat x) 80 := (n_in (by omega)).mpr (by omega)
  have e5 : (Int32.ofNat x).toNatClampNeg = x := n_cl (by omega)
  have e6 : 2 ≤ a + 1 := by omega
  simp only [w11_0, w11_1, w11_4, w11_5, w11_5n, w11_6, w11_9, w11_10, w11_13, w11_13n, w11_14, w11_17, w11_18, w11_19, w11_22, w11_23, w11_26, w11_27, xk_n, xk_i, xk_r, xk_z, xk_l, xcs_0, xcs_i, xcs_r, xcs_z, xcs_l, Nat.reduceAdd, Nat.reduceLeDiff, Nat.reduceLT, true_and, and_true, Option.toList_some, Option.toList_none, List.nil_append, List.cons_append, List.getElem?_cons_zero, List.getElem?_cons_succ, List.set_cons_zero, List.set_cons_succ, List.length_cons, List.length_nil, y_bool0, y_bool1, not_true_eq_false, not_false_eq_true, false_implies, true_implies, true_or, or_true, false_or, or_false, if_true, if_false, ite_true, ite_false, y_get, a1, a3, y_alen, y_zald, e1, e2, e4, e5, e6, a4 x hx, Nat.reduceLT]
  cases fr x <;> simp [bi, y_bool0, y_bool1]
def upB (s : Nat → Bool) (c : Nat) (x : Bool) : Nat → Bool := fun i => if i = c then x else s i
theorem nar_bi (b : Bool) : vp_nar .boolean (bi b) = bi b := by cases b <;> rfl
theorem wp_fmark {d : Nat} {h : xH} {K : Option Value → xH → Prop} {a x : Nat} {b : Bool} {fr : Nat → Bool} (H : PF h a fr) (hx : x < 80) (hK : ∀ h', PF h' a (upB fr x b) → FR (fun c => c = a + 1) 0 0 h h' → K (some (.int (bi (fr x != b)))) h') : wp d 12 0 [some (.ref a), some (.int (Int32.ofNat x)), some (.int (bi b))] [] h K := by
  have H' := H
  obtain ⟨a1, a2, f, a3, a4⟩ := H
  have e1 : (Int32.ofNat x < 0) = False := eq_false (n_lt0 (by omega))
  have e2 : (Int32.ofNat 80 ≤ Int32.ofNat x) = False := eq_false (by rw [n_le (by omega) (by omega)]; omega)
  have e4 : vp_in (Int32.ofNat x) 80 := (n_in (by omega)).mpr (by omega)
  have e5 : (Int32.ofNat x).toNatClampNeg = x := n_cl (by omega)
  have e6 : 2 ≤ a + 1 := by omega
  by_cases q : fr x = b
  · have e7 : bi (fr x) = bi b := by rw [q]
    simp only [w12_0, w12_1, w12_4, w12_5, w12_5n, w12_6, w12_9, w12_10, w12_13, w12_13n, w12_14, w12_17, w12_18, w12_19, w12_20, w12_23, w12_24, w12_25, w12_25n, w12_26, w12_29, w12_30, w12_31, w12_32, w12_33, xk_n, xk_i, xk_r, xk_z, xk_l, xcs_0, xcs_i, xcs_r, xcs_z, xcs_l, Nat.reduceAdd, Nat.reduceLeDiff, Nat.reduceLT, true_and, and_true, Option.toList_some, Option.toList_none, List.nil_append, List.cons_append, List.getElem?_cons_zero, List.getElem?_cons_succ, List.set_cons_zero, List.set_cons_succ, List.length_cons, List.length_nil, y_bool0, y_bool1, not_true_eq_false, not_false_eq_true, false_implies, true_implies, true_or, or_true, false_or, or_false, if_true, if_false, ite_true, ite_false, y_get, a1, a3, y_alen, y_zald, y_zast, e1, e2, e4, e5, e6, a4 x hx, e7, Nat.reduceLT]
    have e8 : (fr x != b) = false := by rw [q]; simp
    rw [e8] at hK
    refine hK h ⟨a1, a2, f, a3, fun i hi => ?_⟩ FR.rfl'
    unfold upB
    split
    · rename_i z
      rw [z, a4 x hx, e7]
    · exact a4 i hi
  · have e7 : (bi (fr x) = bi b) = False := eq_false (fun z => q (bi_inj.mp z))
    simp only [w12_0, w12_1, w12_4, w12_5, w12_5n, w12_6, w12_9, w12_10, w12_13, w12_13n, w12_14, w12_17, w12_18, w12_19, w12_20, w12_23, w12_24, w12_25, w12_25n, w12_26, w12_29, w12_30, w12_31, w12_32, w12_33, xk_n, xk_i, xk_r, xk_z, xk_l, xcs_0, xcs_i, xcs_r, xcs_z, xcs_l, Nat.reduceAdd, Nat.reduceLeDiff, Nat.reduceLT, true_and, and_true, Option.toList_some, Option.toList_none, List.nil_append, List.cons_append, List.getElem?_cons_zero, List.getElem?_cons_succ, List.set_cons_zero, List.set_cons_succ, List.length_cons, List.length_nil, y_bool0, y_bool1, not_true_eq_false, not_false_eq_true, false_implies, true_implies, true_or, or_true, false_or, or_false, if_true, if_false, ite_true, ite_false, y_get, a1, a3, y_alen, y_zald, y_zast, e1, e2, e4, e5, e6, a4 x hx, e7, nar_bi, Nat.reduceLT]
    have e8 : (fr x != b) = true := by simp [q]
    rw [e8] at hK
    refine hK _ ⟨h_set_ne a1 (by omega), a2, _, h_set_at a3, fun i hi => ?_⟩ (FR.set a3 rfl)
    unfold upB upd
    split
    · rfl
    · exact a4 i hi
theorem wp_fclr {d : Nat} {K : Option Value → xH → Prop} {a : Nat} : ∀ (k i : Nat) (h : xH) (fr : Nat → Bool), i + k = 80 → PF h a fr → (∀ c, c < i → fr c = false) → (∀ h', PF h' a (fun _ => false) → FR (fun c => c = a + 1) 0 0 h h' → K none h') → wp d 13 2 [some (.ref a), some (.int (Int32.ofNat i))] [] h K
  | 0, i, h, fr, hi, ⟨a1, a2, f, a3, a4⟩, hf, hK => by
    have z6 : Int32.ofNat 80 ≤ Int32.ofNat i := (n_le (by omega) (by omega)).mpr (by omega)
    rw [w13_2]
    simp only [w13_0, w13_1, w13_3, w13_3n, w13_4, w13_7, w13_8, w13_11, w13_11n, w13_12, w13_15, w13_16, w13_17, w13_18, w13_21, w13_24, xk_n, xk_i, xk_r, xk_z, xk_l, xcs_0, xcs_i, xcs_r, xcs_z, xcs_l, Nat.reduceAdd, Nat.reduceLeDiff, Nat.reduceLT, true_and, and_true, Option.toList_some, Option.toList_none, List.nil_append, List.cons_append, List.getElem?_cons_zero, List.getElem?_cons_succ, List.set_cons_zero, List.set_cons_succ, List.length_cons, List.length_nil, y_bool0, y_bool1, not_true_eq_false, not_false_eq_true, false_implies, true_implies, true_or, or_true, false_or, or_false, if_true, if_false, ite_true, ite_false, y_get, a1, a3, y_alen, z6, Nat.reduceLT]
    exact hK h ⟨a1, a2, f, a3, fun c hc => by rw [a4 c hc, hf c (by omega)]⟩ FR.rfl'
  | k + 1, i, h, fr, hi, ⟨a1, a2, f, a3, a4⟩, hf, hK => by
    have z6 : (Int32.ofNat 80 ≤ Int32.ofNat i) = False := eq_false (by rw [n_le (by omega) (by omega)]; omega)
    have e8 : vp_in (Int32.ofNat i) 80 := (n_in (by omega)).mpr (by omega)
    have e9 : (Int32.ofNat i).toNatClampNeg = i := n_cl (by omega)
    have z5 : Int32.ofNat i + 1 = Int32.ofNat (i + 1) := n_addl i 1
    have z7 : vp_nar .boolean 0 = 0 := rfl
    have e6 : 2 ≤ a + 1 := by omega
    rw [w13_2]
    simp only [w13_0, w13_1, w13_3, w13_3n, w13_4, w13_7, w13_8, w13_11, w13_11n, w13_12, w13_15, w13_16, w13_17, w13_18, w13_21, w13_24, xk_n, xk_i, xk_r, xk_z, xk_l, xcs_0, xcs_i, xcs_r, xcs_z, xcs_l, Nat.reduceAdd, Nat.reduceLeDiff, Nat.reduceLT, true_and, and_true, Option.toList_some, Option.toList_none, List.nil_append, List.cons_append, List.getElem?_cons_zero, List.getElem?_cons_succ, List.set_cons_zero, List.set_cons_succ, List.length_cons, List.length_nil, y_bool0, y_bool1, not_true_eq_false, not_false_eq_true, false_implies, true_implies, true_or, or_true, false_or, or_false, if_true, if_false, ite_true, ite_false, y_get, a1, a3, y_alen, z6, y_zast, e8, e9, z5, z7, e6, Nat.reduceLT]
    refine wp_fclr k (i + 1) _ (upB fr i false) (by omega) ⟨h_set_ne a1 (by omega), a2, _, h_set_at a3, ?_⟩ ?_ fun h' H' F' => hK h' H' ((FR.set (c := .inl (1, 80, .inl (upd f i 0))) a3 rfl).tr F')
    · intro c hc
      unfold upd upB
      split
      · rfl
      · exact a4 c hc
    · intro c hc
      unfold upB
      split
      · rfl
      · exact hf c (by omega)
theorem wp_fclear {d : Nat} {h : xH} {K : Option Value → xH → Prop} {a : Nat} {fr : Nat → Bool} (H : PF h a fr) (hK : ∀ h', PF h' a (fun _ => false) → FR (fun c => c = a + 1) 0 0 h h' → K none h') : wp d 13 0 [some (.ref a), none] [] h K := by
  simp only [w13_0, w13_1, w13_3, w13_3n, w13_4, w13_7, w13_8, w13_11, w13_11n, w13_12, w13_15, w13_16, w13_17, w13_18, w13_21, w13_24, xk_n, xk_i, xk_r, xk_z, xk_l, xcs_0, xcs_i, xcs_r, xcs_z, xcs_l, Nat.reduceAdd, Nat.reduceLeDiff, Nat.reduceLT, true_and, and_true, Option.toList_some, Option.toList_none, List.nil_append, List.cons_append, List.getElem?_cons_zero, List.getElem?_cons_succ, List.set_cons_zero, List.set_cons_succ, List.length_cons, List.length_nil, y_bool0, y_bool1, not_true_eq_false, not_false_eq_true, false_implies, true_implies, true_or, or_true, false_or, or_false, if_true, if_false, ite_true, ite_false]
  exact wp_fclr 80 0 h fr (by omega) H (fun c hc => by omega) hK
theorem mild_le (fr : Nat → Bool) {i j : Nat} (h : i ≤ j) : mild fr i ≤ mild fr j := by
  induction h with
  | refl => exact Nat.le_refl _
  | step _ ih =>
    refine Nat.le_trans ih ?_
    show _ ≤ if fr _ then mild fr _ else mild fr _ + 1
    split <;> omega
theorem mild_k (fr : Nat → Bool) : ∀ k, mild fr k ≤ k
  | 0 => Nat.le_refl _
  | k + 1 => by
    have := mild_k fr k
    show (if fr k then mild fr k else mild fr k + 1) ≤ k + 1
    split <;> omega
theorem mild_t {fr : Nat → Bool} {k : Nat} (h : fr k = true) : mild fr (k + 1) = mild fr k := if_pos h
theorem mild_f {fr : Nat → Bool} {k : Nat} (h : fr k = false) : mild fr (k + 1) = mild fr k + 1 := if_neg (by rw [h]; simp)
theorem dayOf_some {fr : Nat → Bool} {m d : Nat} (hd : fr d = false) (hm : mild fr d = m) : ∀ k, d < k → dayOf fr m k = some d
  | k + 1, h => by
    unfold dayOf
    by_cases q : d < k
    · rw [dayOf_some hd hm k q]
    · have : d = k := by omega
      subst this
      have : ∀ j, j ≤ d → dayOf fr m j = none := by
        intro j
        induction j with
        | zero => intro _; rfl
        | succ j ih =>
          intro hj
          unfold dayOf
          rw [ih (by omega)]
          dsimp only
          by_cases z : fr j = true
          · rw [if_pos z]
          · rw [if_neg z, if_neg]
            have h1 := mild_le fr (show j + 1 ≤ d by omega)
            rw [mild_f (by simpa using z)] at h1
            omega
      rw [this d (Nat.le_refl _)]
      dsimp only
      rw [if_neg (by rw [hd]; simp), if_pos hm]
theorem dayOf_none {fr : Nat → Bool} {m : Nat} : ∀ k, mild fr k ≤ m → dayOf fr m k = none
  | 0, _ => rfl
  | k + 1, h => by
    unfold dayOf
    by_cases q : fr k = true
    · rw [mild_t q] at h
      rw [dayOf_none k h]
      exact if_pos q
    · rw [mild_f (by simpa using q)] at h
      rw [dayOf_none k (by omega)]
      dsimp only
      rw [if_neg q, if_neg (by omega)]
theorem n_addm1 {a : Nat} (h : 0 < a) : Int32.ofNat a + (-1) = Int32.ofNat (a - 1) := by
  rw [← n_subl (m := 1) h, Int32.sub_eq_add_neg]
theorem PF.cls {h : xH} {a : Nat} {fr : Nat → Bool} (H : PF h a fr) : y_cls h a 2 := by
  unfold y_cls
  rw [H.1]
  exact ⟨H.2.1, rfl⟩
theorem PL.cls {h : xH} {a w n : Nat} {s : Nat → Nat} (H : PL h a w n s) : y_cls h a 3 := by
  unfold y_cls
  rw [H.1]
  exact ⟨H.2.1, rfl⟩
theorem AL.cls {h : xH} {q e n : Nat} {f : Nat → Nat} (H : AL h q e n f) : y_cls h q 0 := by
  obtain ⟨⟨mc, a1⟩, a2, a3, a4⟩ := H
  unfold y_cls
  rw [a1]
  exact ⟨a3, rfl⟩
theorem wp_mo {d : Nat} {h : xH} {K : Option Value → xH → Prop} {a n : Nat} {fr : Nat → Bool} (H : PF h a fr) (hn : n < 80) (x : Int32) : ∀ (k i m : Nat), n + 1 - i = k → m + k < 1000 → i < 1000 → (wp (d + 1) 14 5 [some (.ref a), some (.int x), some (.int (Int32.ofNat n)), some (.int (Int32.ofNat m)), some (.int (Int32.ofNat i))] [] h K ↔ K (some (.int (Int32.ofNat (m + (mild fr (n + 1) - mild fr i))))) h)
  | 0, i, m, hi, hm, hj => by
    have z6 : Int32.ofNat n < Int32.ofNat i := (n_lt (by omega) (by omega)).mpr (by omega)
    have z7 : mild fr (n + 1) - mild fr i = 0 := by have := mild_le fr (show n + 1 ≤ i by omega); omega
    rw [w14_5]
    simp only [w14_0, w14_1, w14_2, w14_3, w14_7, w14_8, w14_11, w14_13, w14_15, w14_18, w14_18n, w14_19, w14_21, w14_24, w14_27, w14_30, w14_33, w14_36, w14_37, xk_n, xk_i, xk_r, xk_z, xk_l, xcs_0, xcs_i, xcs_r, xcs_z, xcs_l, Nat.reduceAdd, Nat.reduceLeDiff, Nat.reduceLT, true_and, and_true, Option.toList_some, Option.toList_none, List.nil_append, List.cons_append, List.getElem?_cons_zero, List.getElem?_cons_succ, List.set_cons_zero, List.set_cons_succ, List.length_cons, List.length_nil, y_bool0, y_bool1, not_true_eq_false, not_false_eq_true, false_implies, true_implies, true_or, or_true, false_or, or_false, if_true, if_false, ite_true, ite_false, z6, z7, Nat.add_zero]
  | k + 1, i, m, hi, hm, hj => by
    have z6 : (Int32.ofNat n < Int32.ofNat i) = False := eq_false (by rw [n_lt (by omega) (by omega)]; omega)
    have z7 : (80 ≤ Int32.ofNat i) = False := eq_false (by have := n_lle (a := i) (m := 80) (by omega) (by omega); rw [this]; omega)
    have z8 : Int32.ofNat i + 1 = Int32.ofNat (i + 1) := n_addl i 1
    have z9 : Int32.ofNat m + 1 = Int32.ofNat (m + 1) := n_addl m 1
    have h2 := mild_le fr (show i + 1 ≤ n + 1 by omega)
    rw [w14_5]
    simp only [w14_0, w14_1, w14_2, w14_3, w14_7, w14_8, w14_11, w14_13, w14_15, w14_18, w14_18n, w14_19, w14_21, w14_24, w14_27, w14_30, w14_33, w14_36, w14_37, xk_n, xk_i, xk_r, xk_z, xk_l, xcs_0, xcs_i, xcs_r, xcs_z, xcs_l, Nat.reduceAdd, Nat.reduceLeDiff, Nat.reduceLT, true_and, and_true, Option.toList_some, Option.toList_none, List.nil_append, List.cons_append, List.getElem?_cons_zero, List.getElem?_cons_succ, List.set_cons_zero, List.set_cons_succ, List.length_cons, List.length_nil, y_bool0, y_bool1, not_true_eq_false, not_false_eq_true, false_implies, true_implies, true_or, or_true, false_or, or_false, if_true, if_false, ite_true, ite_false, z6, z7, H.cls, wp_isOn H (show i < 80 by omega)]
    cases q : fr i
    · rw [mild_f q] at h2
      simp only [w14_0, w14_1, w14_2, w14_3, w14_7, w14_8, w14_11, w14_13, w14_15, w14_18, w14_18n, w14_19, w14_21, w14_24, w14_27, w14_30, w14_33, w14_36, w14_37, xk_n, xk_i, xk_r, xk_z, xk_l, xcs_0, xcs_i, xcs_r, xcs_z, xcs_l, Nat.reduceAdd, Nat.reduceLeDiff, Nat.reduceLT, true_and, and_true, Option.toList_some, Option.toList_none, List.nil_append, List.cons_append, List.getElem?_cons_zero, List.getElem?_cons_succ, List.set_cons_zero, List.set_cons_succ, List.length_cons, List.length_nil, y_bool0, y_bool1, not_true_eq_false, not_false_eq_true, false_implies, true_implies, true_or, or_true, false_or, or_false, if_true, if_false, ite_true, ite_false, bi, Bool.false_eq_true, z9, z8]
      rw [wp_mo H hn x k (i + 1) (m + 1) (by omega) (by omega) (by omega), mild_f q]
      rw [show m + 1 + (mild fr (n + 1) - (mild fr i + 1)) = m + (mild fr (n + 1) - mild fr i) by omega]
    · have z10 : ((1 : Int32) = 0) = False := eq_false (by decide)
      simp only [w14_0, w14_1, w14_2, w14_3, w14_7, w14_8, w14_11, w14_13, w14_15, w14_18, w14_18n, w14_19, w14_21, w14_24, w14_27, w14_30, w14_33, w14_36, w14_37, xk_n, xk_i, xk_r, xk_z, xk_l, xcs_0, xcs_i, xcs_r, xcs_z, xcs_l, Nat.reduceAdd, Nat.reduceLeDiff, Nat.reduceLT, true_and, and_true, Option.toList_some, Option.toList_none, List.nil_append, List.cons_append, List.getElem?_cons_zero, List.getElem?_cons_succ, List.set_cons_zero, List.set_cons_succ, List.length_cons, List.length_nil, y_bool0, y_bool1, not_true_eq_false, not_false_eq_true, false_implies, true_implies, true_or, or_true, false_or, or_false, if_true, if_false, ite_true, ite_false, bi, z10, z9, z8]
      rw [wp_mo H hn x k (i + 1) m (by omega) (by omega) (by omega), mild_t q]
theorem wp_movesOn {d : Nat} {h : xH} {K : Option Value → xH → Prop} {a n i : Nat} {fr : Nat → Bool} (H : PF h a fr) (hn : n < 80) (hi : i < 80) : wp (d + 1) 14 0 [some (.ref a), some (.int (Int32.ofNat i)), some (.int (Int32.ofNat n)), none, none] [] h K ↔ K (some (.int (Int32.ofNat (mild fr (n + 1) - mild fr i)))) h := by
  have := wp_mo (d := d) (K := K) H hn (Int32.ofNat i) _ i 0 rfl (by omega) (by omega)
  rw [Nat.zero_add] at this
  rw [← this]
  have z : (0 : Int32) = Int32.ofNat 0 := rfl
  simp only [w14_0, w14_1, w14_2, w14_3, w14_7, w14_8, w14_11, w14_13, w14_15, w14_18, w14_18n, w14_19, w14_21, w14_24, w14_27, w14_30, w14_33, w14_36, w14_37, xk_n, xk_i, xk_r, xk_z, xk_l, xcs_0, xcs_i, xcs_r, xcs_z, xcs_l, Nat.reduceAdd, Nat.reduceLeDiff, Nat.reduceLT, true_and, and_true, Option.toList_some, Option.toList_none, List.nil_append, List.cons_append, List.getElem?_cons_zero, List.getElem?_cons_succ, List.set_cons_zero, List.set_cons_succ, List.length_cons, List.length_nil, y_bool0, y_bool1, not_true_eq_false, not_false_eq_true, false_implies, true_implies, true_or, or_true, false_or, or_false, if_true, if_false, ite_true, ite_false, z]
/-- a move, or none, as the program has it -/
def oM : Option Nat → Int32
  | some t => Int32.ofNat t
  | none => -1
/-- the day of a move, or none -/
def dayM (fr : Nat → Bool) : Option Nat → Option Nat
  | some m => dayOf fr m 80
  | none => none
theorem wp_dm {d : Nat} {h : xH} {K : Option Value → xH → Prop} {a : Nat} {fr : Nat → Bool} (H : PF h a fr) (x : Int32) : ∀ (k i m : Nat), i + k = 80 → m < 1000 → (wp (d + 1) 15 4 [some (.ref a), some (.int x), some (.int (Int32.ofNat m)), some (.int (Int32.ofNat i))] [] h K ↔ K (some (.int (oC (dayOf fr (m + mild fr i) 80)))) h)
  | 0, i, m, hi, hm => by
    have z6 : 80 ≤ Int32.ofNat i := (n_lle (m := 80) (by omega) (by omega)).mpr (by omega)
    have : i = 80 := by omega
    subst this
    rw [w15_4, dayOf_none (fr := fr) (m := m + mild fr 80) 80 (by omega)]
    simp only [w15_0, w15_1, w15_2, w15_3, w15_5, w15_7, w15_10, w15_11, w15_14, w15_14n, w15_15, w15_16, w15_19, w15_22, w15_23, w15_26, w15_27, w15_28, w15_31, w15_34, w15_37, w15_39, xk_n, xk_i, xk_r, xk_z, xk_l, xcs_0, xcs_i, xcs_r, xcs_z, xcs_l, Nat.reduceAdd, Nat.reduceLeDiff, Nat.reduceLT, true_and, and_true, Option.toList_some, Option.toList_none, List.nil_append, List.cons_append, List.getElem?_cons_zero, List.getElem?_cons_succ, List.set_cons_zero, List.set_cons_succ, List.length_cons, List.length_nil, y_bool0, y_bool1, not_true_eq_false, not_false_eq_true, false_implies, true_implies, true_or, or_true, false_or, or_false, if_true, if_false, ite_true, ite_false, z6, oC]
  | k + 1, i, m, hi, hm => by
    have z7 : (80 ≤ Int32.ofNat i) = False := eq_false (by have := n_lle (a := i) (m := 80) (by omega) (by omega); rw [this]; omega)
    have z8 : Int32.ofNat i + 1 = Int32.ofNat (i + 1) := n_addl i 1
    have z9 : (Int32.ofNat m < 0) = False := eq_false (n_lt0 (by omega))
    have z10 : ((1 : Int32) = 0) = False := eq_false (by decide)
    have z11 : (Int32.ofNat m = 0) ↔ m = 0 := n_eql (m := 0) (by omega) (by omega)
    rw [w15_4]
    simp only [w15_0, w15_1, w15_2, w15_3, w15_5, w15_7, w15_10, w15_11, w15_14, w15_14n, w15_15, w15_16, w15_19, w15_22, w15_23, w15_26, w15_27, w15_28, w15_31, w15_34, w15_37, w15_39, xk_n, xk_i, xk_r, xk_z, xk_l, xcs_0, xcs_i, xcs_r, xcs_z, xcs_l, Nat.reduceAdd, Nat.reduceLeDiff, Nat.reduceLT, true_and, and_true, Option.toList_some, Option.toList_none, List.nil_append, List.cons_append, List.getElem?_cons_zero, List.getElem?_cons_succ, List.set_cons_zero, List.set_cons_succ, List.length_cons, List.length_nil, y_bool0, y_bool1, not_true_eq_false, not_false_eq_true, false_implies, true_implies, true_or, or_true, false_or, or_false, if_true, if_false, ite_true, ite_false, z7, z9, H.cls, wp_isOn H (show i < 80 by omega)]
    cases q : fr i
    · simp only [w15_0, w15_1, w15_2, w15_3, w15_5, w15_7, w15_10, w15_11, w15_14, w15_14n, w15_15, w15_16, w15_19, w15_22, w15_23, w15_26, w15_27, w15_28, w15_31, w15_34, w15_37, w15_39, xk_n, xk_i, xk_r, xk_z, xk_l, xcs_0, xcs_i, xcs_r, xcs_z, xcs_l, Nat.reduceAdd, Nat.reduceLeDiff, Nat.reduceLT, true_and, and_true, Option.toList_some, Option.toList_none, List.nil_append, List.cons_append, List.getElem?_cons_zero, List.getElem?_cons_succ, List.set_cons_zero, List.set_cons_succ, List.length_cons, List.length_nil, y_bool0, y_bool1, not_true_eq_false, not_false_eq_true, false_implies, true_implies, true_or, or_true, false_or, or_false, if_true, if_false, ite_true, ite_false, bi, Bool.false_eq_true, z8, z11]
      by_cases qm : m = 0
      · subst qm
        rw [Nat.zero_add, dayOf_some q rfl 80 (by omega)]
        simp only [xk_n, xk_i, xk_r, xk_z, xk_l, xcs_0, xcs_i, xcs_r, xcs_z, xcs_l, Nat.reduceAdd, Nat.reduceLeDiff, Nat.reduceLT, true_and, and_true, Option.toList_some, Option.toList_none, List.nil_append, List.cons_append, List.getElem?_cons_zero, List.getElem?_cons_succ, List.set_cons_zero, List.set_cons_succ, List.length_cons, List.length_nil, y_bool0, y_bool1, not_true_eq_false, not_false_eq_true, false_implies, true_implies, true_or, or_true, false_or, or_false, if_true, if_false, ite_true, ite_false, oC]
      · simp only [w15_0, w15_1, w15_2, w15_3, w15_5, w15_7, w15_10, w15_11, w15_14, w15_14n, w15_15, w15_16, w15_19, w15_22, w15_23, w15_26, w15_27, w15_28, w15_31, w15_34, w15_37, w15_39, xk_n, xk_i, xk_r, xk_z, xk_l, xcs_0, xcs_i, xcs_r, xcs_z, xcs_l, Nat.reduceAdd, Nat.reduceLeDiff, Nat.reduceLT, true_and, and_true, Option.toList_some, Option.toList_none, List.nil_append, List.cons_append, List.getElem?_cons_zero, List.getElem?_cons_succ, List.set_cons_zero, List.set_cons_succ, List.length_cons, List.length_nil, y_bool0, y_bool1, not_true_eq_false, not_false_eq_true, false_implies, true_implies, true_or, or_true, false_or, or_false, if_true, if_false, ite_true, ite_false, qm, n_addm1 (show 0 < m by omega), z8]
        rw [wp_dm H x k (i + 1) (m - 1) (by omega) (by omega), mild_f q, show m - 1 + (mild fr i + 1) = m + mild fr i by omega]
    · simp only [w15_0, w15_1, w15_2, w15_3, w15_5, w15_7, w15_10, w15_11, w15_14, w15_14n, w15_15, w15_16, w15_19, w15_22, w15_23, w15_26, w15_27, w15_28, w15_31, w15_34, w15_37, w15_39, xk_n, xk_i, xk_r, xk_z, xk_l, xcs_0, xcs_i, xcs_r, xcs_z, xcs_l, Nat.reduceAdd, Nat.reduceLeDiff, Nat.reduceLT, true_and, and_true, Option.toList_some, Option.toList_none, List.nil_append, List.cons_append, List.getElem?_cons_zero, List.getElem?_cons_succ, List.set_cons_zero, List.set_cons_succ, List.length_cons, List.length_nil, y_bool0, y_bool1, not_true_eq_false, not_false_eq_true, false_implies, true_implies, true_or, or_true, false_or, or_false, if_true, if_false, ite_true, ite_false, bi, z10, z8]
      rw [wp_dm H x k (i + 1) m (by omega) (by omega), mild_t q]
theorem wp_dayOfMove {d : Nat} {h : xH} {K : Option Value → xH → Prop} {a : Nat} {o : Option Nat} {fr : Nat → Bool} (H : PF h a fr) (ho : ∀ m, o = some m → m < 1000) : wp (d + 1) 15 0 [some (.ref a), some (.int (oM o)), none, none] [] h K ↔ K (some (.int (oC (dayM fr o)))) h := by
  have z : (0 : Int32) = Int32.ofNat 0 := rfl
  cases o with
  | none =>
    have z1 : (80 ≤ Int32.ofNat 0) = False := eq_false (by decide)
    have z2 : ((-1 : Int32) < 0) := by decide
    rw [z] at z2
    simp only [w15_0, w15_1, w15_2, w15_3, w15_4, w15_5, w15_7, w15_10, w15_11, w15_14, w15_14n, w15_15, w15_16, w15_19, w15_22, w15_23, w15_26, w15_27, w15_28, w15_31, w15_34, w15_37, w15_39, xk_n, xk_i, xk_r, xk_z, xk_l, xcs_0, xcs_i, xcs_r, xcs_z, xcs_l, Nat.reduceAdd, Nat.reduceLeDiff, Nat.reduceLT, true_and, and_true, Option.toList_some, Option.toList_none, List.nil_append, List.cons_append, List.getElem?_cons_zero, List.getElem?_cons_succ, List.set_cons_zero, List.set_cons_succ, List.length_cons, List.length_nil, y_bool0, y_bool1, not_true_eq_false, not_false_eq_true, false_implies, true_implies, true_or, or_true, false_or, or_false, if_true, if_false, ite_true, ite_false, oM, z, z1, z2, dayM, oC]
  | some m =>
    have := wp_dm (d := d) (K := K) H (Int32.ofNat m) 80 0 m (by omega) (ho m rfl)
    show _ ↔ K (some (.int (oC (dayOf fr m 80)))) h
    rw [show m = m + mild fr 0 from rfl, ← this]
    simp only [w15_0, w15_1, w15_2, w15_3, w15_5, w15_7, w15_10, w15_11, w15_14, w15_14n, w15_15, w15_16, w15_19, w15_22, w15_23, w15_26, w15_27, w15_28, w15_31, w15_34, w15_37, w15_39, xk_n, xk_i, xk_r, xk_z, xk_l, xcs_0, xcs_i, xcs_r, xcs_z, xcs_l, Nat.reduceAdd, Nat.reduceLeDiff, Nat.reduceLT, true_and, and_true, Option.toList_some, Option.toList_none, List.nil_append, List.cons_append, List.getElem?_cons_zero, List.getElem?_cons_succ, List.set_cons_zero, List.set_cons_succ, List.length_cons, List.length_nil, y_bool0, y_bool1, not_true_eq_false, not_false_eq_true, false_implies, true_implies, true_or, or_true, false_or, or_false, if_true, if_false, ite_true, ite_false, oM, z]
    rfl
