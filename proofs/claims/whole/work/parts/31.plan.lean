/-! ===== the class: a plan ===== -/
/-- a plan's signs, as the array has them -/
def sgA (n : Nat) (s : Nat → Nat) (f : Nat → Int32) : Prop := n ≤ 30 ∧ ∀ c, c < n → f c = Int32.ofNat (s c) ∧ s c < 4
def PL (h : xH) (a w n : Nat) (s : Nat → Nat) : Prop := h[a]? = some (.inr (3, [.ref (a + 1), .int (Int32.ofNat w), .int (Int32.ofNat n)])) ∧ 2 ≤ a ∧ w ≤ 6 ∧ ∃ f, h[a + 1]? = some (.inl (0, 30, .inl f)) ∧ sgA n s f
theorem PL.fr {h h' : xH} {a w n : Nat} {s : Nat → Nat} (H : PL h a w n s) {P : Nat → Prop} {k m : Nat} (F : FR P k m h h') (hq : ¬ P a) (he : ¬ P (a + 1)) : PL h' a w n s := by
  obtain ⟨a1, a2, a0, f, a3, a4⟩ := H
  exact ⟨F.at a1 hq, a2, a0, f, F.at a3 he, a4⟩
/-- a sign, by what may be no cell -/
def sgO (s : Nat → Nat) : Option Nat → Nat
  | some c => s c
  | none => 1
/-- the number of a cell, or of none -/
def oC : Option Nat → Int32
  | some c => Int32.ofNat c
  | none => -9
theorem n_neg {c : Int32} {n : Nat} (h : c < 0) : (Int32.ofNat n ≤ c) = False ∨ 2147483648 ≤ n := by
  by_cases q : n < 2147483648
  · refine Or.inl (eq_false fun z => ?_)
    rw [Int32.le_iff_toInt_le, n_toInt q] at z
    rw [Int32.lt_iff_toInt_lt, show (0 : Int32).toInt = 0 from by decide] at h
    omega
  · exact Or.inr (by omega)
theorem wp_hasCell {d : Nat} {h : xH} {K : Option Value → xH → Prop} {a w n : Nat} {c : Int32} {s : Nat → Nat} (H : PL h a w n s) : wp d 18 0 [some (.ref a), some (.int c)] [] h K ↔ K (some (.int (bi (decide (0 ≤ c ∧ c < Int32.ofNat n))))) h := by
  obtain ⟨a1, a2, a0, f, a3, a4, a5⟩ := H
  simp only [w18_0, w18_1, w18_4, w18_5, w18_5n, w18_6, w18_9, w18_12, w18_13, w18_16, w18_17, xk_n, xk_i, xk_r, xk_z, xk_l, xcs_0, xcs_i, xcs_r, xcs_z, xcs_l, Nat.reduceAdd, Nat.reduceLeDiff, Nat.reduceLT, true_and, and_true, Option.toList_some, Option.toList_none, List.nil_append, List.cons_append, List.getElem?_cons_zero, List.getElem?_cons_succ, List.set_cons_zero, List.set_cons_succ, List.length_cons, List.length_nil, y_bool0, y_bool1, not_true_eq_false, not_false_eq_true, false_implies, true_implies, true_or, or_true, false_or, or_false, if_true, if_false, ite_true, ite_false, y_get, a1]
  by_cases h1 : c < 0
  · have : ¬ 0 ≤ c := by rw [Int32.not_le]; exact h1
    simp only [h1, this, xk_n, xk_i, xk_r, xk_z, xk_l, xcs_0, xcs_i, xcs_r, xcs_z, xcs_l, Nat.reduceAdd, Nat.reduceLeDiff, Nat.reduceLT, true_and, and_true, Option.toList_some, Option.toList_none, List.nil_append, List.cons_append, List.getElem?_cons_zero, List.getElem?_cons_succ, List.set_cons_zero, List.set_cons_succ, List.length_cons, List.length_nil, y_bool0, y_bool1, not_true_eq_false, not_false_eq_true, false_implies, true_implies, true_or, or_true, false_or, or_false, if_true, if_false, ite_true, ite_false, false_and, decide_false, bi, Bool.false_eq_true]
  · have : 0 ≤ c := by rw [← Int32.not_lt]; exact h1
    by_cases h2 : Int32.ofNat n ≤ c
    · have h3 : ¬ c < Int32.ofNat n := by rw [Int32.not_lt]; exact h2
      simp only [h1, h2, h3, this, xk_n, xk_i, xk_r, xk_z, xk_l, xcs_0, xcs_i, xcs_r, xcs_z, xcs_l, Nat.reduceAdd, Nat.reduceLeDiff, Nat.reduceLT, true_and, and_true, Option.toList_some, Option.toList_none, List.nil_append, List.cons_append, List.getElem?_cons_zero, List.getElem?_cons_succ, List.set_cons_zero, List.set_cons_succ, List.length_cons, List.length_nil, y_bool0, y_bool1, not_true_eq_false, not_false_eq_true, false_implies, true_implies, true_or, or_true, false_or, or_false, if_true, if_false, ite_true, ite_false, and_false, decide_false, bi, Bool.false_eq_true]
    · have h3 : c < Int32.ofNat n := by rw [← Int32.not_le]; exact h2
      simp only [h1, h2, h3, this, xk_n, xk_i, xk_r, xk_z, xk_l, xcs_0, xcs_i, xcs_r, xcs_z, xcs_l, Nat.reduceAdd, Nat.reduceLeDiff, Nat.reduceLT, true_and, and_true, Option.toList_some, Option.toList_none, List.nil_append, List.cons_append, List.getElem?_cons_zero, List.getElem?_cons_succ, List.set_cons_zero, List.set_cons_succ, List.length_cons, List.length_nil, y_bool0, y_bool1, not_true_eq_false, not_false_eq_true, false_implies, true_implies, true_or, or_true, false_or, or_false, if_true, if_false, ite_true, ite_false, and_true, decide_true, bi]
theorem wp_isMissing {d : Nat} {h : xH} {K : Option Value → xH → Prop} {a w n : Nat} {s : Nat → Nat} (H : PL h a w n s) : wp d 17 0 [some (.ref a)] [] h K ↔ K (some (.int (bi (decide (n = 0))))) h := by
  obtain ⟨a1, a2, a0, f, a3, a4, a5⟩ := H
  have e : (Int32.ofNat n = 0) ↔ n = 0 := n_eql (m := 0) (by omega) (by omega)
  simp only [w17_0, w17_0n, w17_1, w17_4, w17_7, w17_8, w17_11, w17_12, xk_n, xk_i, xk_r, xk_z, xk_l, xcs_0, xcs_i, xcs_r, xcs_z, xcs_l, Nat.reduceAdd, Nat.reduceLeDiff, Nat.reduceLT, true_and, and_true, Option.toList_some, Option.toList_none, List.nil_append, List.cons_append, List.getElem?_cons_zero, List.getElem?_cons_succ, List.set_cons_zero, List.set_cons_succ, List.length_cons, List.length_nil, y_bool0, y_bool1, not_true_eq_false, not_false_eq_true, false_implies, true_implies, true_or, or_true, false_or, or_false, if_true, if_false, ite_true, ite_false, y_get, a1, e]
  by_cases h1 : n = 0
  · simp only [h1, xk_n, xk_i, xk_r, xk_z, xk_l, xcs_0, xcs_i, xcs_r, xcs_z, xcs_l, Nat.reduceAdd, Nat.reduceLeDiff, Nat.reduceLT, true_and, and_true, Option.toList_some, Option.toList_none, List.nil_append, List.cons_append, List.getElem?_cons_zero, List.getElem?_cons_succ, List.set_cons_zero, List.set_cons_succ, List.length_cons, List.length_nil, y_bool0, y_bool1, not_true_eq_false, not_false_eq_true, false_implies, true_implies, true_or, or_true, false_or, or_false, if_true, if_false, ite_true, ite_false, decide_true, bi]
  · simp only [h1, xk_n, xk_i, xk_r, xk_z, xk_l, xcs_0, xcs_i, xcs_r, xcs_z, xcs_l, Nat.reduceAdd, Nat.reduceLeDiff, Nat.reduceLT, true_and, and_true, Option.toList_some, Option.toList_none, List.nil_append, List.cons_append, List.getElem?_cons_zero, List.getElem?_cons_succ, List.set_cons_zero, List.set_cons_succ, List.length_cons, List.length_nil, y_bool0, y_bool1, not_true_eq_false, not_false_eq_true, false_implies, true_implies, true_or, or_true, false_or, or_false, if_true, if_false, ite_true, ite_false, decide_false, bi, Bool.false_eq_true]
theorem wp_signOf {d : Nat} {h : xH} {K : Option Value → xH → Prop} {a w n : Nat} {o : Option Nat} {c : Int32} {s : Nat → Nat} (H : PL h a w n s) (hc : (∃ x, o = some x ∧ x < n ∧ c = Int32.ofNat x) ∨ (o = none ∧ (c < 0 ∨ Int32.ofNat n ≤ c))) : wp d 19 0 [some (.ref a), some (.int c)] [] h K ↔ K (some (.int (Int32.ofNat (sgO s o)))) h := by
  obtain ⟨a1, a2, a0, f, a3, a4, a5⟩ := H
  rcases hc with ⟨x, rfl, h1, rfl⟩ | ⟨rfl, hc⟩
  · have e1 : (Int32.ofNat x < 0) = False := eq_false (n_lt0 (by omega))
    have e2 : (Int32.ofNat n ≤ Int32.ofNat x) = False := eq_false (by rw [n_le (by omega) (by omega)]; omega)
    have e3 : (Int32.ofNat 30 ≤ Int32.ofNat x) = False := eq_false (by rw [n_le (by omega) (by omega)]; omega)
    have e4 : vp_in (Int32.ofNat x) 30 := (n_in (by omega)).mpr (by omega)
    have e5 : (Int32.ofNat x).toNatClampNeg = x := n_cl (by omega)
    simp only [w19_0, w19_1, w19_4, w19_5, w19_5n, w19_6, w19_9, w19_12, w19_13, w19_13n, w19_14, w19_17, w19_18, w19_21, w19_21n, w19_22, w19_25, w19_26, w19_27, w19_30, w19_31, xk_n, xk_i, xk_r, xk_z, xk_l, xcs_0, xcs_i, xcs_r, xcs_z, xcs_l, Nat.reduceAdd, Nat.reduceLeDiff, Nat.reduceLT, true_and, and_true, Option.toList_some, Option.toList_none, List.nil_append, List.cons_append, List.getElem?_cons_zero, List.getElem?_cons_succ, List.set_cons_zero, List.set_cons_succ, List.length_cons, List.length_nil, y_bool0, y_bool1, not_true_eq_false, not_false_eq_true, false_implies, true_implies, true_or, or_true, false_or, or_false, if_true, if_false, ite_true, ite_false, y_get, a1, a3, y_alen, y_iald, e1, e2, e3, e4, e5, (a5 x h1).1, sgO, Nat.reduceLT]
  · have z : (1 : Int32) = Int32.ofNat 1 := rfl
    rcases hc with hc | hc
    · simp only [w19_0, w19_1, w19_4, w19_5, w19_5n, w19_6, w19_9, w19_12, w19_13, w19_13n, w19_14, w19_17, w19_18, w19_21, w19_21n, w19_22, w19_25, w19_26, w19_27, w19_30, w19_31, xk_n, xk_i, xk_r, xk_z, xk_l, xcs_0, xcs_i, xcs_r, xcs_z, xcs_l, Nat.reduceAdd, Nat.reduceLeDiff, Nat.reduceLT, true_and, and_true, Option.toList_some, Option.toList_none, List.nil_append, List.cons_append, List.getElem?_cons_zero, List.getElem?_cons_succ, List.set_cons_zero, List.set_cons_succ, List.length_cons, List.length_nil, y_bool0, y_bool1, not_true_eq_false, not_false_eq_true, false_implies, true_implies, true_or, or_true, false_or, or_false, if_true, if_false, ite_true, ite_false, y_get, a1, a3, y_alen, y_iald, hc, sgO, z]
    · by_cases h0 : c < 0
      · simp only [w19_0, w19_1, w19_4, w19_5, w19_5n, w19_6, w19_9, w19_12, w19_13, w19_13n, w19_14, w19_17, w19_18, w19_21, w19_21n, w19_22, w19_25, w19_26, w19_27, w19_30, w19_31, xk_n, xk_i, xk_r, xk_z, xk_l, xcs_0, xcs_i, xcs_r, xcs_z, xcs_l, Nat.reduceAdd, Nat.reduceLeDiff, Nat.reduceLT, true_and, and_true, Option.toList_some, Option.toList_none, List.nil_append, List.cons_append, List.getElem?_cons_zero, List.getElem?_cons_succ, List.set_cons_zero, List.set_cons_succ, List.length_cons, List.length_nil, y_bool0, y_bool1, not_true_eq_false, not_false_eq_true, false_implies, true_implies, true_or, or_true, false_or, or_false, if_true, if_false, ite_true, ite_false, y_get, a1, a3, y_alen, y_iald, h0, sgO, z]
      · simp only [w19_0, w19_1, w19_4, w19_5, w19_5n, w19_6, w19_9, w19_12, w19_13, w19_13n, w19_14, w19_17, w19_18, w19_21, w19_21n, w19_22, w19_25, w19_26, w19_27, w19_30, w19_31, xk_n, xk_i, xk_r, xk_z, xk_l, xcs_0, xcs_i, xcs_r, xcs_z, xcs_l, Nat.reduceAdd, Nat.reduceLeDiff, Nat.reduceLT, true_and, and_true, Option.toList_some, Option.toList_none, List.nil_append, List.cons_append, List.getElem?_cons_zero, List.getElem?_cons_succ, List.set_cons_zero, List.set_cons_succ, List.length_cons, List.length_nil, y_bool0, y_bool1, not_true_eq_false, not_false_eq_true, false_implies, true_implies, true_or, or_true, false_or, or_false, if_true, if_false, ite_true, ite_false, y_get, a1, a3, y_alen, y_iald, h0, hc, sgO, z]
