/-! ===== lists ===== -/
/-- an array of references -/
abbrev oA (n : Nat) (g : Nat → Option Nat) : xC := .inl (2, n, .inr (.inr (.inr (.inr g))))
/-- the list at q, its array at e (1: the empty one), has the n references f 0, f 1, .. -/
def AL (h : xH) (q e n : Nat) (f : Nat → Nat) : Prop := (∃ mc, h[q]? = some (.inr (0, [.int mc, .ref e, .int (Int32.ofNat n)]))) ∧ n ≤ 10 ∧ 2 ≤ q ∧ ((e = 1 ∧ n = 0 ∧ h[1]? = some (oA 0 (fun _ => none))) ∨ (2 ≤ e ∧ ∃ g, h[e]? = some (oA 10 g) ∧ ∀ i, i < n → g i = some (f i)))
theorem AL.fr {h h' : xH} {q e n : Nat} {f : Nat → Nat} (H : AL h q e n f) {P : Nat → Prop} {k m : Nat} (F : FR P k m h h') (hq : ¬ P q) (he : ¬ P e) : AL h' q e n f := by
  obtain ⟨⟨mc, a1⟩, a2, a3, a4⟩ := H
  refine ⟨⟨mc, F.at a1 hq⟩, a2, a3, ?_⟩
  rcases a4 with ⟨rfl, b2, b3⟩ | ⟨b1, g, b2, b3⟩
  · exact Or.inl ⟨rfl, b2, F.at b3 he⟩
  · exact Or.inr ⟨b1, g, F.at b2 he, b3⟩
theorem AL.ext {h : xH} {q e n : Nat} {f g : Nat → Nat} (H : AL h q e n f) (hg : ∀ i, i < n → g i = f i) : AL h q e n g := by
  obtain ⟨a1, a2, a3, a4⟩ := H
  refine ⟨a1, a2, a3, a4.imp id ?_⟩
  rintro ⟨b1, g', b2, b3⟩
  exact ⟨b1, g', b2, fun i hi => by rw [b3 i hi, hg i hi]⟩
theorem wp_size {d : Nat} {h : xH} {K : Option Value → xH → Prop} {q e n : Nat} {f : Nat → Nat} (H : AL h q e n f) : wp d 160 0 [some (.ref q)] [] h K ↔ K (some (.int (Int32.ofNat n))) h := by
  obtain ⟨⟨mc, a1⟩, a2, a3, a4⟩ := H
  simp only [w160_0, w160_0n, w160_1, w160_4, xk_n, xk_i, xk_r, xk_z, xk_l, xcs_0, xcs_i, xcs_r, xcs_z, xcs_l, Nat.reduceAdd, Nat.reduceLeDiff, Nat.reduceLT, true_and, and_true, Option.toList_some, Option.toList_none, List.nil_append, List.cons_append, List.getElem?_cons_zero, List.getElem?_cons_succ, List.set_cons_zero, List.set_cons_succ, List.length_cons, List.length_nil, y_bool0, y_bool1, not_true_eq_false, not_false_eq_true, false_implies, true_implies, true_or, or_true, false_or, or_false, if_true, if_false, ite_true, ite_false, y_get, a1]
theorem wp_ck {d : Nat} {h : xH} {K : Option Value → xH → Prop} {k n : Nat} (hk : k < n) (hn : n < 2147483648) : wp (d + 1) 171 0 [some (.int (Int32.ofNat k)), some (.int (Int32.ofNat n))] [] h K ↔ K (some (.int (Int32.ofNat k))) h := by
  have e1 : (Int32.ofNat n ≤ Int32.ofNat k) = False := eq_false (by rw [n_le hn (by omega)]; omega)
  have e2 : (Int32.ofNat k < 0) = False := eq_false (n_lt0 (by omega))
  have e3 : (Int32.ofNat k < Int32.ofNat n) = True := eq_true (by rw [n_lt (by omega) hn]; omega)
  simp only [w171_0, w171_1, w171_2, w171_3, w171_6, w174_0, w174_1, w174_4, w174_5, w174_6, w174_9, w174_9n, w174_10, w174_11, w174_16, w174_17, xk_n, xk_i, xk_r, xk_z, xk_l, xcs_0, xcs_i, xcs_r, xcs_z, xcs_l, Nat.reduceAdd, Nat.reduceLeDiff, Nat.reduceLT, true_and, and_true, Option.toList_some, Option.toList_none, List.nil_append, List.cons_append, List.getElem?_cons_zero, List.getElem?_cons_succ, List.set_cons_zero, List.set_cons_succ, List.length_cons, List.length_nil, y_bool0, y_bool1, not_true_eq_false, not_false_eq_true, false_implies, true_implies, true_or, or_true, false_or, or_false, if_true, if_false, ite_true, ite_false, e1, e2, e3]
theorem wp_get {d : Nat} {h : xH} {K : Option Value → xH → Prop} {q e n k : Nat} {f : Nat → Nat} (H : AL h q e n f) (hk : k < n) : wp (d + 2) 162 0 [some (.ref q), some (.int (Int32.ofNat k))] [] h K ↔ K (some (.ref (f k))) h := by
  obtain ⟨⟨mc, a1⟩, a2, a3, a4⟩ := H
  rcases a4 with ⟨rfl, b2, b3⟩ | ⟨b1, g, b2, b3⟩
  · omega
  · have e1 := n_cl (a := k) (by omega)
    have e2 : vp_in (Int32.ofNat k) 10 = True := eq_true ((n_in (by omega)).mpr (by omega))
    have e4 : (2 = 2 ∨ 2 = 3) = True := by simp
    simp only [w162_0, w162_1, w162_1n, w162_2, w162_5, w162_8, w162_8r, w162_8n, w162_9, w162_9n, w162_10, w162_11, w162_14, w162_14n, w161_0, w161_0n, w161_1, w161_4, w161_5, w161_6, w161_6n, xk_n, xk_i, xk_r, xk_z, xk_l, xcs_0, xcs_i, xcs_r, xcs_z, xcs_l, Nat.reduceAdd, Nat.reduceLeDiff, Nat.reduceLT, true_and, and_true, Option.toList_some, Option.toList_none, List.nil_append, List.cons_append, List.getElem?_cons_zero, List.getElem?_cons_succ, List.set_cons_zero, List.set_cons_succ, List.length_cons, List.length_nil, y_bool0, y_bool1, not_true_eq_false, not_false_eq_true, false_implies, true_implies, true_or, or_true, false_or, or_false, if_true, if_false, ite_true, ite_false, y_get, a1, wp_ck hk (show n < 2147483648 by omega), y_cls, y_aald, b2, e1, e2, b1, b3 k hk, va_rf, e4, a3]
theorem set_set {h : xH} {a : Nat} {x y : xC} : (h.set a x).set a y = h.set a y := List.set_set ..
theorem AL.lt {h : xH} {q e n : Nat} {f : Nat → Nat} (H : AL h q e n f) : e < h.length := by
  obtain ⟨a1, a2, a3, a4⟩ := H
  rcases a4 with ⟨rfl, b2, b3⟩ | ⟨b1, g, b2, b3⟩
  · exact h_lt b3
  · exact h_lt b2
def adF (f : Nat → Nat) (n b : Nat) : Nat → Nat := fun i => if i = n then b else f i
theorem wp_add {d : Nat} {h : xH} {K : Option Value → xH → Prop} {q e n b cj : Nat} {fs : List Value} {f : Nat → Nat} (H : AL h q e n f) (hn : n < 10) (hb : 2 ≤ b) (hb2 : h[b]? = some (.inr (cj, fs))) (hcj : cj < 9) (hbq : b ≠ q) (hK : ∀ h' e', AL h' q e' (n + 1) (adF f n b) → (e' = e ∨ e' = h.length) → FR (fun a => a = q ∨ (a = e ∧ 2 ≤ a)) 1 10 h h' → K (some (.int 1)) h') : wp (d + 3) 164 0 [some (.ref q), some (.ref b)] [] h K := by
  have hel := H.lt
  obtain ⟨⟨mc, a1⟩, a2, a3, a4⟩ := H
  have hql := h_lt a1
  have hbl := h_lt hb2
  have hne : (q = h.length) = False := eq_false (by omega)
  have hne2 : (h.length = q) = False := eq_false (by omega)
  have hne3 : (h.length = b) = False := eq_false (by omega)
  have hne4 : (q = b) = False := eq_false (fun z => hbq z.symm)
  rcases a4 with ⟨rfl, b2, b3⟩ | ⟨b1, g, b2, b3⟩
  · subst b2
    have hne5 : (q = 1) = False := eq_false (by omega)
    have e0 : ¬ (0 : Int32) < 0 := by decide
    have e5 : (10 : Int32).toNatClampNeg = 10 := by decide
    have e6 : (10 : Int32) < 0 ↔ False := by decide
    have e7 : (if (10 : Int32) < Int32.ofNat 0 + 1 then Int32.ofNat 0 + 1 else 10) = (10 : Int32) := by decide
    have e8 : vp_in 0 10 := (n_in (a := 0) (by omega)).mpr (by omega)
    have e9 : (0 : Int32).toNatClampNeg = 0 := by decide
    have z0 : Int32.ofNat 0 = 0 := rfl
    have z1 : ((0 : Int32) < 0) = False := eq_false (by decide)
    have z2 : ((10 : Int32) < 0) = False := eq_false (by decide)
    have z3 : (0 : Int32) + 1 = 1 := by decide
    have z4 : ((10 : Int32) < 1) = False := eq_false (by decide)
    have z5 : (1 = q) = False := eq_false (by omega)
    have z6 : (1 < h.length) = True := eq_true hel
    have z7 : (10 ≤ 1000) = True := by simp
    have z8 : (h.length < h.length + 1) = True := by simp
    have z9 : (h.length < h.length) = False := by simp
    rw [z0] at a1
    have z10 : (b < h.length) = True := eq_true hbl
    have z11 : (2 ≤ h.length) = True := eq_true (by omega)
    have z12 : (q < h.length + 1) = True := eq_true (by omega)
    simp only [w164_0, w164_0n, w164_1, w164_1r, w164_2, w164_5, w164_6, w164_7, w164_10, w164_10n, w164_11, w164_11n, w164_12, w164_12n, w164_13, w164_16, w164_16n, w164_17, w164_20, w164_23, w164_24, w163_0, w163_1, w163_1n, w163_2, w163_3, w163_6, w163_6n, w163_7, w163_10, w163_10n, w163_11, w163_11n, w163_12, w163_13, w163_13n, w163_14, w163_14n, w163_15, w163_15n, w163_16, w163_17, w163_18, w163_19, w163_22, w159_0, w159_0n, w159_1, w159_1n, w159_2, w159_5, w159_6, w159_7, w159_10, w159_10n, w158_0, w158_0n, w158_1, w158_4, w158_5, w158_6, w158_7, w158_10, w158_10n, w158_11, w158_14, w158_17, w158_20, w158_21, w158_22, w158_23, w158_24, w158_25, w158_26, w158_27, w158_30, w158_31, w158_31n, w158_32, w158_32n, w158_33, w158_36, w158_37, w158_40, w158_40r, w158_41, w158_44, w158_44n, w158_45, w158_45n, w158_46, w158_48, w158_49, w158_52, w158_55, w158_55r, w158_56, w158_59, w158_59n, xk_n, xk_i, xk_r, xk_z, xk_l, xcs_0, xcs_i, xcs_r, xcs_z, xcs_l, Nat.reduceAdd, Nat.reduceLeDiff, Nat.reduceLT, true_and, and_true, Option.toList_some, Option.toList_none, List.nil_append, List.cons_append, List.getElem?_cons_zero, List.getElem?_cons_succ, List.set_cons_zero, List.set_cons_succ, List.length_cons, List.length_nil, y_bool0, y_bool1, not_true_eq_false, not_false_eq_true, false_implies, true_implies, true_or, or_true, false_or, or_false, if_true, if_false, ite_true, ite_false, y_get, y_put, a1, y_cls, y_alen, y_aast, List.getElem?_set, List.length_set, List.length_append, List.getElem?_append, hql, if_pos, if_neg, hne5, b3, a3, z0, z1, z2, z3, z4, z5, z6, z7, hne, hne2, hne3, hne4, e5, z8, z9, z10, z11, z12, Nat.sub_self, hb, hb2, hcj, e8, e9]
    refine hK _ h.length ?_ (Or.inr rfl) ?_
    · refine ⟨⟨mc + 1, ?_⟩, by omega, a3, Or.inr ⟨by omega, va_up (fun _ => none) 0 (some b), ?_, ?_⟩⟩
      · rw [List.getElem?_set_self (by simp; omega)]
        try rfl
      · rw [List.getElem?_set_ne (by omega), List.getElem?_set_self (by simp)]
      · intro i hi
        have : i = 0 := by omega
        subst this
        rfl
    · have F1 := FR.set (c := .inr (0, [.int (mc + 1), .ref 1, .int 0])) a1 rfl
      have F2 := F1.trans (FR.app (h := h.set q (.inr (0, [.int (mc + 1), .ref 1, .int 0]))) (oA 10 fun _ => none)) (R := fun x => x = q) (fun _ _ z => z) (fun _ _ z => z.elim) (Nat.le_refl _) (Nat.le_refl _)
      have L1 : (h.set q (.inr (0, [.int (mc + 1), .ref 1, .int 0])) ++ [oA 10 fun _ => none])[q]? = some (.inr (0, [.int (mc + 1), .ref 1, .int 0])) := h_app_at (h_set_at a1)
      have F3 := F2.trans (FR.set (c := .inr (0, [.int (mc + 1), .ref h.length, .int 0])) L1 rfl) (R := fun x => x = q) (fun _ _ z => z) (fun _ _ z => z) (Nat.le_refl _) (Nat.le_refl _)
      have L2 : ((h.set q (.inr (0, [.int (mc + 1), .ref 1, .int 0])) ++ [oA 10 fun _ => none]).set q (.inr (0, [.int (mc + 1), .ref h.length, .int 0])))[h.length]? = some (oA 10 fun _ => none) := by
        refine h_set_ne ?_ (by omega)
        have : h.length = (h.set q (.inr (0, [.int (mc + 1), .ref 1, .int 0]))).length := by simp
        rw [this]
        exact h_app_new
      have F4 := F3.trans (FR.set (c := oA 10 (va_up (fun _ => none) 0 (some b))) L2 rfl) (R := fun x => x = q ∨ x = h.length) (fun _ _ z => Or.inl z) (fun _ _ z => Or.inr z) (Nat.le_refl _) (Nat.le_refl _)
      refine (F4.trans (FR.set (c := .inr (0, [.int (mc + 1), .ref h.length, .int 1])) (h_set_ne (h_set_at L1) (by omega)) rfl) (R := fun x => x = q ∨ x = h.length) (fun _ _ z => z) (fun _ _ z => Or.inl z) (Nat.le_refl _) (Nat.le_refl _)).mono (fun x hx z => z.elim Or.inl (fun z => by omega)) (by omega) (by simp [xsz])
  · have hbe : b ≠ e := (h_dif hb2 b2 (by intro z; cases z))
    have hqe : q ≠ e := (h_dif a1 b2 (by intro z; cases z))
    have e8 : vp_in (Int32.ofNat n) 10 := (n_in (by omega)).mpr (by omega)
    have e9 : (Int32.ofNat n).toNatClampNeg = n := n_cl (by omega)
    have z1 : (Int32.ofNat n = Int32.ofNat 10) = False := eq_false (by rw [n_eq (by omega) (by omega)]; omega)
    have z2 : (q = e) = False := eq_false hqe
    have z3 : (e = q) = False := eq_false (fun z => hqe z.symm)
    have z4 : (e = b) = False := eq_false (fun z => hbe z.symm)
    have z5 : Int32.ofNat n + 1 = Int32.ofNat (n + 1) := n_addl n 1
    simp only [w164_0, w164_0n, w164_1, w164_1r, w164_2, w164_5, w164_6, w164_7, w164_10, w164_10n, w164_11, w164_11n, w164_12, w164_12n, w164_13, w164_16, w164_16n, w164_17, w164_20, w164_23, w164_24, w163_0, w163_1, w163_1n, w163_2, w163_3, w163_6, w163_6n, w163_7, w163_10, w163_10n, w163_11, w163_11n, w163_12, w163_13, w163_13n, w163_14, w163_14n, w163_15, w163_15n, w163_16, w163_17, w163_18, w163_19, w163_22, xk_n, xk_i, xk_r, xk_z, xk_l, xcs_0, xcs_i, xcs_r, xcs_z, xcs_l, Nat.reduceAdd, Nat.reduceLeDiff, Nat.reduceLT, true_and, and_true, Option.toList_some, Option.toList_none, List.nil_append, List.cons_append, List.getElem?_cons_zero, List.getElem?_cons_succ, List.set_cons_zero, List.set_cons_succ, List.length_cons, List.length_nil, y_bool0, y_bool1, not_true_eq_false, not_false_eq_true, false_implies, true_implies, true_or, or_true, false_or, or_false, if_true, if_false, ite_true, ite_false, y_get, y_put, a1, y_cls, y_alen, y_aast, List.getElem?_set, List.length_set, hql, b2, a3, z1, z2, z3, z4, z5, hne4, hb, b1, hb2, hcj, e8, e9]
    refine hK _ e ?_ (Or.inl rfl) ?_
    · refine ⟨⟨mc + 1, ?_⟩, by omega, a3, Or.inr ⟨b1, va_up g n (some b), ?_, ?_⟩⟩
      · rw [List.getElem?_set_self (by simp; omega)]
        try rfl
      · rw [List.getElem?_set_ne hqe, List.getElem?_set_self (by simp; omega)]
      · intro i hi
        unfold va_up adF
        split
        · rfl
        · exact b3 i (by omega)
    · have F1 := FR.set (c := .inr (0, [.int (mc + 1), .ref e, .int (Int32.ofNat n)])) a1 rfl
      have F2 := F1.trans (FR.set (c := oA 10 (va_up g n (some b))) (h_set_ne b2 hqe) rfl) (R := fun x => x = q ∨ x = e) (fun _ _ z => Or.inl z) (fun _ _ z => Or.inr z) (Nat.le_refl _) (Nat.le_refl _)
      refine (F2.trans (FR.set (c := .inr (0, [.int (mc + 1), .ref e, .int (Int32.ofNat (n + 1))])) (h_set_ne (h_set_at a1) (fun z => hqe z.symm)) rfl) (R := fun x => x = q ∨ x = e) (fun _ _ z => z) (fun _ _ z => Or.inl z) (Nat.le_refl _) (Nat.le_refl _)).mono (fun x hx z => z.elim Or.inl (fun z => Or.inr ⟨z, by omega⟩)) (by omega) (by omega)
/-- the last one is taken away -/
theorem wp_rem {d : Nat} {h : xH} {K : Option Value → xH → Prop} {q e n : Nat} {f : Nat → Nat} (H : AL h q e (n + 1) f) (hK : ∀ h' x, AL h' q e n f → FR (fun a => a = q ∨ a = e) 0 0 h h' → K (some (.ref x)) h') : wp (d + 2) 165 0 [some (.ref q), some (.int (Int32.ofNat n)), none, none] [] h K := by
  obtain ⟨⟨mc, a1⟩, a2, a3, a4⟩ := H
  have hql := h_lt a1
  rcases a4 with ⟨rfl, b2, b3⟩ | ⟨b1, g, b2, b3⟩
  · omega
  · have hqe : q ≠ e := (h_dif a1 b2 (by intro z; cases z))
    have e8 : vp_in (Int32.ofNat n) 10 := (n_in (by omega)).mpr (by omega)
    have e9 : (Int32.ofNat n).toNatClampNeg = n := n_cl (by omega)
    have z2 : (q = e) = False := eq_false hqe
    have z3 : (e = q) = False := eq_false (fun z => hqe z.symm)
    have z5 : Int32.ofNat (n + 1) - 1 = Int32.ofNat n := n_subl (a := n + 1) (m := 1) (by omega)
    have z6 : Int32.ofNat n ≤ Int32.ofNat n := (n_le (by omega) (by omega)).mpr (by omega)
    have z7 : (Int32.ofNat n < Int32.ofNat n) = False := eq_false (by rw [n_lt (by omega) (by omega)]; omega)
    have e4 : (2 = 2 ∨ 2 = 3) = True := by simp
    simp only [w165_0, w165_1, w165_1n, w165_2, w165_5, w165_8, w165_8r, w165_8n, w165_9, w165_9n, w165_10, w165_13, w165_13n, w165_14, w165_14n, w165_15, w165_16, w165_17, w165_17n, w165_18, w165_18n, w165_19, w165_19n, w165_20, w165_21, w165_24, w165_24n, w165_25, w165_25n, w166_0, w166_0n, w166_1, w166_1r, w166_2, w166_5, w166_6, w166_7, w166_10, w166_10n, w166_11, w166_14, w166_15, w166_16, w166_16r, w166_17, w166_18, w166_19, w166_22, w166_22n, w166_23, w166_24, w166_25, w166_26, w166_26n, w166_27, w166_28, w166_29, w166_30, w166_34, w166_34n, w166_35, w166_35n, w166_36, w166_37, w166_37r, w166_38, w166_41, w166_42, w166_42n, w166_43, xk_n, xk_i, xk_r, xk_z, xk_l, xcs_0, xcs_i, xcs_r, xcs_z, xcs_l, Nat.reduceAdd, Nat.reduceLeDiff, Nat.reduceLT, true_and, and_true, Option.toList_some, Option.toList_none, List.nil_append, List.cons_append, List.getElem?_cons_zero, List.getElem?_cons_succ, List.set_cons_zero, List.set_cons_succ, List.length_cons, List.length_nil, y_bool0, y_bool1, not_true_eq_false, not_false_eq_true, false_implies, true_implies, true_or, or_true, false_or, or_false, if_true, if_false, ite_true, ite_false, y_get, y_put, a1, y_cls, y_alen, y_aald, y_aastN, List.getElem?_set, List.length_set, hql, b2, a3, z2, z3, z5, z6, z7, b1, e8, e9, wp_ck (show n < n + 1 by omega) (show n + 1 < 2147483648 by omega), b3 n (by omega), va_rf]
    refine hK _ _ ?_ ?_
    · refine ⟨⟨mc + 1, ?_⟩, by omega, a3, Or.inr ⟨b1, va_up g n none, ?_, ?_⟩⟩
      · rw [List.getElem?_set_ne (Ne.symm hqe), List.getElem?_set_self (by simp; omega)]
      · rw [List.getElem?_set_self (by simp; exact h_lt b2)]
      · intro i hi
        unfold va_up
        rw [if_neg (by omega)]
        exact b3 i (by omega)
    · have F1 := FR.set (c := .inr (0, [.int (mc + 1), .ref e, .int (Int32.ofNat (n + 1))])) a1 rfl
      have F2 := F1.tr (FR.set (c := .inr (0, [.int (mc + 1), .ref e, .int (Int32.ofNat n)])) (h_set_at a1) rfl)
      exact F2.trans (FR.set (c := oA 10 (va_up g n none)) (h_set_ne (h_set_ne b2 hqe) hqe) rfl) (fun _ _ z => Or.inl z) (fun _ _ z => Or.inr z) (Nat.le_refl _) (Nat.le_refl _)
theorem h_same {h : xH} {a : Nat} {c : xC} (ha : h[a]? = some c) : h.set a c = h := by
  apply List.ext_getElem?
  intro i
  rw [List.getElem?_set]
  split
  · rename_i q
    subst q
    rw [if_pos (h_lt ha), ha]
  · rfl
theorem wp_clr_loop {d : Nat} {K : Option Value → xH → Prop} {q e n c : Nat} (hn : n ≤ c) (hc : c < 2147483648) (he : 2 ≤ e) : ∀ (k i : Nat) (h : xH) (g : Nat → Option Nat), i + k = n → h[e]? = some (oA c g) → (∀ g', K none (h.set e (oA c g'))) → wp d 167 27 [some (.ref q), some (.ref e), some (.int (Int32.ofNat n)), some (.int (Int32.ofNat i))] [] h K
  | 0, i, h, g, hi, hg, hK => by
    have z6 : Int32.ofNat n ≤ Int32.ofNat i := (n_le (by omega) (by omega)).mpr (by omega)
    rw [w167_27]
    simp only [w167_0, w167_0n, w167_1, w167_1r, w167_2, w167_5, w167_6, w167_7, w167_10, w167_10n, w167_11, w167_14, w167_14n, w167_15, w167_15n, w167_16, w167_19, w167_20, w167_20n, w167_21, w167_22, w167_22r, w167_23, w167_26, w167_28, w167_29, w167_32, w167_32n, w167_33, w167_34, w167_35, w167_35n, w167_36, w167_39, w167_42, xk_n, xk_i, xk_r, xk_z, xk_l, xcs_0, xcs_i, xcs_r, xcs_z, xcs_l, Nat.reduceAdd, Nat.reduceLeDiff, Nat.reduceLT, true_and, and_true, Option.toList_some, Option.toList_none, List.nil_append, List.cons_append, List.getElem?_cons_zero, List.getElem?_cons_succ, List.set_cons_zero, List.set_cons_succ, List.length_cons, List.length_nil, y_bool0, y_bool1, not_true_eq_false, not_false_eq_true, false_implies, true_implies, true_or, or_true, false_or, or_false, if_true, if_false, ite_true, ite_false, z6]
    have := hK g
    rwa [h_same hg] at this
  | k + 1, i, h, g, hi, hg, hK => by
    have z6 : (Int32.ofNat n ≤ Int32.ofNat i) = False := eq_false (by rw [n_le (by omega) (by omega)]; omega)
    have e8 : vp_in (Int32.ofNat i) c := (n_in (by omega)).mpr (by omega)
    have e9 : (Int32.ofNat i).toNatClampNeg = i := n_cl (by omega)
    have z5 : Int32.ofNat i + 1 = Int32.ofNat (i + 1) := n_addl i 1
    rw [w167_27]
    simp only [w167_0, w167_0n, w167_1, w167_1r, w167_2, w167_5, w167_6, w167_7, w167_10, w167_10n, w167_11, w167_14, w167_14n, w167_15, w167_15n, w167_16, w167_19, w167_20, w167_20n, w167_21, w167_22, w167_22r, w167_23, w167_26, w167_28, w167_29, w167_32, w167_32n, w167_33, w167_34, w167_35, w167_35n, w167_36, w167_39, w167_42, xk_n, xk_i, xk_r, xk_z, xk_l, xcs_0, xcs_i, xcs_r, xcs_z, xcs_l, Nat.reduceAdd, Nat.reduceLeDiff, Nat.reduceLT, true_and, and_true, Option.toList_some, Option.toList_none, List.nil_append, List.cons_append, List.getElem?_cons_zero, List.getElem?_cons_succ, List.set_cons_zero, List.set_cons_succ, List.length_cons, List.length_nil, y_bool0, y_bool1, not_true_eq_false, not_false_eq_true, false_implies, true_implies, true_or, or_true, false_or, or_false, if_true, if_false, ite_true, ite_false, z6, y_aastN, hg, e8, e9, he, z5]
    refine wp_clr_loop hn hc he k (i + 1) _ (va_up g i none) (by omega) (h_set_at hg) fun g' => ?_
    rw [set_set]
    exact hK g'
theorem wp_clr {d : Nat} {h : xH} {K : Option Value → xH → Prop} {q e n : Nat} {f : Nat → Nat} (H : AL h q e n f) (hK : ∀ h', (∀ f', AL h' q e 0 f') → FR (fun a => a = q ∨ (a = e ∧ 2 ≤ a)) 0 0 h h' → K none h') : wp d 167 0 [some (.ref q), none, none, none] [] h K := by
  obtain ⟨⟨mc, a1⟩, a2, a3, a4⟩ := H
  have hql := h_lt a1
  have zz : Int32.ofNat 0 = 0 := rfl
  have L0 := h_set_at (c := .inr (0, [.int (mc + 1), .ref e, .int (Int32.ofNat n)])) a1
  have F1 := FR.set (c := .inr (0, [.int (mc + 1), .ref e, .int (Int32.ofNat n)])) a1 rfl
  have F2 := F1.tr (FR.set (c := .inr (0, [.int (mc + 1), .ref e, .int 0])) L0 rfl)
  rw [set_set] at F2
  simp only [w167_0, w167_0n, w167_1, w167_1r, w167_2, w167_5, w167_6, w167_7, w167_10, w167_10n, w167_11, w167_14, w167_14n, w167_15, w167_15n, w167_16, w167_19, w167_20, w167_20n, w167_21, w167_22, w167_22r, w167_23, w167_26, w167_28, w167_29, w167_32, w167_32n, w167_33, w167_34, w167_35, w167_35n, w167_36, w167_39, w167_42, xk_n, xk_i, xk_r, xk_z, xk_l, xcs_0, xcs_i, xcs_r, xcs_z, xcs_l, Nat.reduceAdd, Nat.reduceLeDiff, Nat.reduceLT, true_and, and_true, Option.toList_some, Option.toList_none, List.nil_append, List.cons_append, List.getElem?_cons_zero, List.getElem?_cons_succ, List.set_cons_zero, List.set_cons_succ, List.length_cons, List.length_nil, y_bool0, y_bool1, not_true_eq_false, not_false_eq_true, false_implies, true_implies, true_or, or_true, false_or, or_false, if_true, if_false, ite_true, ite_false, y_get, y_put, a1, a3, List.getElem?_set, List.length_set, hql, set_set]
  rw [← zz]
  rcases a4 with ⟨rfl, rfl, b3⟩ | ⟨b1, g, b2, b3⟩
  · have z6 : Int32.ofNat 0 ≤ Int32.ofNat 0 := by decide
    rw [w167_27]
    simp only [w167_0, w167_0n, w167_1, w167_1r, w167_2, w167_5, w167_6, w167_7, w167_10, w167_10n, w167_11, w167_14, w167_14n, w167_15, w167_15n, w167_16, w167_19, w167_20, w167_20n, w167_21, w167_22, w167_22r, w167_23, w167_26, w167_28, w167_29, w167_32, w167_32n, w167_33, w167_34, w167_35, w167_35n, w167_36, w167_39, w167_42, xk_n, xk_i, xk_r, xk_z, xk_l, xcs_0, xcs_i, xcs_r, xcs_z, xcs_l, Nat.reduceAdd, Nat.reduceLeDiff, Nat.reduceLT, true_and, and_true, Option.toList_some, Option.toList_none, List.nil_append, List.cons_append, List.getElem?_cons_zero, List.getElem?_cons_succ, List.set_cons_zero, List.set_cons_succ, List.length_cons, List.length_nil, y_bool0, y_bool1, not_true_eq_false, not_false_eq_true, false_implies, true_implies, true_or, or_true, false_or, or_false, if_true, if_false, ite_true, ite_false, z6]
    refine hK _ (fun f' => ⟨⟨mc + 1, h_set_at a1⟩, by omega, a3, Or.inl ⟨rfl, rfl, h_set_ne b3 (by omega)⟩⟩) (F2.mono (fun _ _ z => Or.inl z) (by omega) (by omega))
  · have hqe : q ≠ e := (h_dif a1 b2 (by intro z; cases z))
    refine wp_clr_loop a2 (by omega) b1 n 0 _ g (by omega) (h_set_ne b2 hqe) fun g' => ?_
    refine hK _ (fun f' => ⟨⟨mc + 1, h_set_ne (h_set_at a1) (Ne.symm hqe)⟩, by omega, a3, Or.inr ⟨b1, g', h_set_at (h_set_ne b2 hqe), fun i hi => by omega⟩⟩) ?_
    exact F2.trans (FR.set (h_set_ne b2 hqe) rfl) (fun _ _ z => Or.inl z) (fun _ _ z => Or.inr ⟨z, by omega⟩) (Nat.le_refl _) (Nat.le_refl _)
/-- one is taken away, what is behind it moves up -/
theorem wp_remk {d : Nat} {h : xH} {K : Option Value → xH → Prop} {q e n k ce : Nat} {f : Nat → Nat} (H : AL h q e (n + 1) f) (hk : k < n + 1) (hce : 0 < ce ∧ ce < 9) (hall : ∀ i, i < n + 1 → 2 ≤ f i ∧ ∃ fs, h[f i]? = some (.inr (ce, fs))) (hK : ∀ h' x, AL h' q e n (fun i => if i < k then f i else f (i + 1)) → FR (fun a => a = q ∨ a = e) 0 0 h h' → K (some (.ref x)) h') : wp (d + 2) 165 0 [some (.ref q), some (.int (Int32.ofNat k)), none, none] [] h K := by
  by_cases hkn : k = n
  · subst hkn
    exact wp_rem H fun h' v HA F => hK h' v (HA.ext fun i hi => if_pos hi) F
  have H' := H
  obtain ⟨⟨mc, a1⟩, a2, a3, a4⟩ := H
  have hql := h_lt a1
  rcases a4 with ⟨rfl, b2, b3⟩ | ⟨b1, g, b2, b3⟩
  · omega
  · have hqe : q ≠ e := (h_dif a1 b2 (by intro z; cases z))
    have e8 : vp_in (Int32.ofNat k) 10 := (n_in (by omega)).mpr (by omega)
    have e9 : (Int32.ofNat k).toNatClampNeg = k := n_cl (by omega)
    have e10 : vp_in (Int32.ofNat n) 10 := (n_in (by omega)).mpr (by omega)
    have e11 : (Int32.ofNat n).toNatClampNeg = n := n_cl (by omega)
    have z2 : (q = e) = False := eq_false hqe
    have z3 : (e = q) = False := eq_false (fun z => hqe z.symm)
    have z5 : Int32.ofNat (n + 1) - 1 = Int32.ofNat n := n_subl (a := n + 1) (m := 1) (by omega)
    have z6 : (Int32.ofNat n ≤ Int32.ofNat k) = False := eq_false (by rw [n_le (by omega) (by omega)]; omega)
    have z7 : Int32.ofNat k < Int32.ofNat n := (n_lt (by omega) (by omega)).mpr (by omega)
    have z8 : Int32.ofNat k + 1 = Int32.ofNat (k + 1) := n_addl k 1
    have z9 : Int32.ofNat n - Int32.ofNat k = Int32.ofNat (n - k) := n_sub (by omega)
    simp only [w165_0, w165_1, w165_1n, w165_2, w165_5, w165_8, w165_8r, w165_8n, w165_9, w165_9n, w165_10, w165_13, w165_13n, w165_14, w165_14n, w165_15, w165_16, w165_17, w165_17n, w165_18, w165_18n, w165_19, w165_19n, w165_20, w165_21, w165_24, w165_24n, w165_25, w165_25n, w166_0, w166_0n, w166_1, w166_1r, w166_2, w166_5, w166_6, w166_7, w166_10, w166_10n, w166_11, w166_14, w166_15, w166_16, w166_16r, w166_17, w166_18, w166_19, w166_22, w166_22n, w166_23, w166_24, w166_25, w166_26, w166_26n, w166_27, w166_28, w166_29, w166_30, w166_34, w166_34n, w166_35, w166_35n, w166_36, w166_37, w166_37r, w166_38, w166_41, w166_42, w166_42n, w166_43, xk_n, xk_i, xk_r, xk_z, xk_l, xcs_0, xcs_i, xcs_r, xcs_z, xcs_l, Nat.reduceAdd, Nat.reduceLeDiff, Nat.reduceLT, true_and, and_true, Option.toList_some, Option.toList_none, List.nil_append, List.cons_append, List.getElem?_cons_zero, List.getElem?_cons_succ, List.set_cons_zero, List.set_cons_succ, List.length_cons, List.length_nil, y_bool0, y_bool1, not_true_eq_false, not_false_eq_true, false_implies, true_implies, true_or, or_true, false_or, or_false, if_true, if_false, ite_true, ite_false, y_get, y_put, a1, y_cls, y_alen, y_aald, y_aastN, List.getElem?_set, List.length_set, hql, b2, a3, z2, z3, z5, z6, z7, z8, z9, b1, e8, e9, wp_ck hk (show n + 1 < 2147483648 by omega), b3 k (by omega), va_rf]
    apply w166_31
    unfold y_copy
    have L1 : (h.set q (.inr (0, [.int (mc + 1), .ref e, .int (Int32.ofNat (n + 1))])))[e]? = some (oA 10 g) := h_set_ne b2 hqe
    rw [L1]
    simp only [w165_0, w165_1, w165_1n, w165_2, w165_5, w165_8, w165_8r, w165_8n, w165_9, w165_9n, w165_10, w165_13, w165_13n, w165_14, w165_14n, w165_15, w165_16, w165_17, w165_17n, w165_18, w165_18n, w165_19, w165_19n, w165_20, w165_21, w165_24, w165_24n, w165_25, w165_25n, w166_0, w166_0n, w166_1, w166_1r, w166_2, w166_5, w166_6, w166_7, w166_10, w166_10n, w166_11, w166_14, w166_15, w166_16, w166_16r, w166_17, w166_18, w166_19, w166_22, w166_22n, w166_23, w166_24, w166_25, w166_26, w166_26n, w166_27, w166_28, w166_29, w166_30, w166_34, w166_34n, w166_35, w166_35n, w166_36, w166_37, w166_37r, w166_38, w166_41, w166_42, w166_42n, w166_43, xk_n, xk_i, xk_r, xk_z, xk_l, xcs_0, xcs_i, xcs_r, xcs_z, xcs_l, Nat.reduceAdd, Nat.reduceLeDiff, Nat.reduceLT, true_and, and_true, Option.toList_some, Option.toList_none, List.nil_append, List.cons_append, List.getElem?_cons_zero, List.getElem?_cons_succ, List.set_cons_zero, List.set_cons_succ, List.length_cons, List.length_nil, y_bool0, y_bool1, not_true_eq_false, not_false_eq_true, false_implies, true_implies, true_or, or_true, false_or, or_false, if_true, if_false, ite_true, ite_false, y_get, y_put, a3, y_alen, y_aald, y_aastN, List.getElem?_set, List.length_set, hql, z2, z3, b1, e8, e9, e10, e11, n_cl (show k + 1 < 2147483648 by omega), n_cl (show n - k < 2147483648 by omega)]
    have hel : e < h.length := h_lt b2
    refine ⟨n_lt0 (by omega), n_lt0 (by omega), n_lt0 (by omega), by omega, by omega, ⟨ce, hce.2, fun i hi y hy => ?_⟩, ?_⟩
    · rw [show k + 1 + i = k + i + 1 by omega, b3 (k + i + 1) (by omega)] at hy
      cases hy
      obtain ⟨y1, fs, y2⟩ := hall (k + i + 1) (by omega)
      refine ⟨y1, fs, ?_⟩
      rw [if_neg (h_dif a1 y2 (by intro z; cases z; omega)), y2]
    · rw [if_pos hel]
      refine ⟨e10, Or.inl rfl, hK _ _ ?_ ?_⟩
      · refine ⟨⟨mc + 1, ?_⟩, by omega, a3, Or.inr ⟨b1, va_up (va_cpy g g (k + 1) k (n - k)) n none, ?_, ?_⟩⟩
        · rw [List.getElem?_set_ne (Ne.symm hqe), List.getElem?_set_self (by simp; omega)]
        · rw [List.getElem?_set_self (by simp; omega)]
        · intro i hi
          unfold va_up va_cpy
          rw [if_neg (by omega)]
          by_cases q : i < k
          · rw [if_neg (by omega), b3 i (by omega)]; exact congrArg some (if_pos q).symm
          · rw [if_pos (by omega), show k + 1 + (i - k) = i + 1 by omega, b3 (i + 1) (by omega)]; exact congrArg some (if_neg q).symm
      · have F1 := FR.set (c := .inr (0, [.int (mc + 1), .ref e, .int (Int32.ofNat (n + 1))])) a1 rfl
        have F2 := F1.trans (FR.set (c := oA 10 (va_cpy g g (k + 1) k (n - k))) L1 rfl) (R := fun a => a = q ∨ a = e) (fun _ _ z => Or.inl z) (fun _ _ z => Or.inr z) (Nat.le_refl _) (Nat.le_refl _)
        have F3 := F2.trans (FR.set (c := .inr (0, [.int (mc + 1), .ref e, .int (Int32.ofNat n)])) (h_set_ne (h_set_at a1) (Ne.symm hqe)) rfl) (R := fun a => a = q ∨ a = e) (fun _ _ z => z) (fun _ _ z => Or.inl z) (Nat.le_refl _) (Nat.le_refl _)
        exact F3.trans (FR.set (c := oA 10 (va_up (va_cpy g g (k + 1) k (n - k)) n none)) (h_set_ne (h_set_at L1) hqe) rfl) (fun _ _ z => z) (fun _ _ z => Or.inr z) (Nat.le_refl _) (Nat.le_refl _)
