/-! ===== the program: a plan ===== -/
/-- a plan's signs, as the array has them -/
def sgA (n : Nat) (s : Nat → Nat) (f : Nat → Int32) : Prop := n ≤ 30 ∧ ∀ c, c < n → f c = Int32.ofNat (s c) ∧ s c < 4
def PL (h : xH) (a w n : Nat) (s : Nat → Nat) : Prop := h[a]? = some (.inr (3, [.ref (a + 1), .int (Int32.ofNat w), .int (Int32.ofNat n)])) ∧ 2 ≤ a ∧ w ≤ 6 ∧ ∃ f, h[a + 1]? = some (.inl (0, 30, .inl f)) ∧ sgA n s f
theorem PL.fr {h h' : xH} {a w n : Nat} {s : Nat → Nat} (H : PL h a w n s) {P : Nat → Prop} {k m : Nat} (F : FR P k m h h') (hq : ¬ P a) (he : ¬ P (a + 1)) : PL h' a w n s := by
  obtain ⟨a1, a2, a0, f, a3, a4⟩ := H
  exact ⟨F.at a1 hq, a2, a0, f, F.at a3 he, a4⟩
/-- a sign, by what may be no cell -/
def sgO (s : Nat → Nat) : Option Nat → Nat
  | some c => s c
  | none => 1
/-- the number of a cell, or of none -/
def oC : Option Nat → Int32
  | some c => Int32.ofNat c
  | none => -9
theorem n_neg {c : Int32} {n : Nat} (h : c < 0) : (Int32.ofNat n ≤ c) = False ∨ 2147483648 ≤ n := by
  by_cases q : n < 2147483648
  · refine Or.inl (eq_false fun z => ?_)
    rw [Int32.le_iff_toInt_le, n_toInt q] at z
    rw [Int32.lt_iff_toInt_lt, show (0 : Int32).toInt = 0 from by decide] at h
    omega
  · exact Or.inr (by omega)
theorem wp_hasCell {d : Nat} {h : xH} {K : Option Value → xH → Prop} {a w n : Nat} {c : Int32} {s : Nat → Nat} (H : PL h a w n s) : wp d 18 0 [some (.ref a), some (.int c)] [] h K ↔ K (some (.int (bi (decide (0 ≤ c ∧ c < Int32.ofNat n))))) h := by
  obtain ⟨a1, a2, a0, f, a3, a4, a5⟩ := H
  simp only [w18_0, w18_1, w18_4, w18_5, w18_5n, w18_6, w18_9, w18_12, w18_13, w18_16, w18_17, xk_n, xk_i, xk_r, xk_z, xk_l, xcs_0, xcs_i, xcs_r, xcs_z, xcs_l, Nat.reduceAdd, Nat.reduceLeDiff, Nat.reduceLT, true_and, and_true, Option.toList_some, Option.toList_none, List.nil_append, List.cons_append, List.getElem?_cons_zero, List.getElem?_cons_succ, List.set_cons_zero, List.set_cons_succ, List.length_cons, List.length_nil, y_bool0, y_bool1, not_true_eq_false, not_false_eq_true, false_implies, true_implies, true_or, or_true, false_or, or_false, if_true, if_false, ite_true, ite_false, y_get, a1]
  by_cases h1 : c < 0
  · have : ¬ 0 ≤ c := by rw [Int32.not_le]; exact h1
    simp only [h1, this, xk_n, xk_i, xk_r, xk_z, xk_l, xcs_0, xcs_i, xcs_r, xcs_z, xcs_l, Nat.reduceAdd, Nat.reduceLeDiff, Nat.reduceLT, true_and, and_true, Option.toList_some, Option.toList_none, List.nil_append, List.cons_append, List.getElem?_cons_zero, List.getElem?_cons_succ, List.set_cons_zero, List.set_cons_succ, List.length_cons, List.length_nil, y_bool0, y_bool1, not_true_eq_false, not_false_eq_true, false_implies, true_implies, true_or, or_true, false_or, or_false, if_true, if_false, ite_true, ite_false, false_and, decide_false, bi, Bool.false_eq_true]
  · have : 0 ≤ c := by rw [← Int32.not_lt]; exact h1
    by_cases h2 : Int32.ofNat n ≤ c
    · have h3 : ¬ c < Int32.ofNat n := by rw [Int32.not_lt]; exact h2
      simp only [h1, h2, h3, this, xk_n, xk_i, xk_r, xk_z, xk_l, xcs_0, xcs_i, xcs_r, xcs_z, xcs_l, Nat.reduceAdd, Nat.reduceLeDiff, Nat.reduceLT, true_and, and_true, Option.toList_some, Option.toList_none, List.nil_append, List.cons_append, List.getElem?_cons_zero, List.getElem?_cons_succ, List.set_cons_zero, List.set_cons_succ, List.length_cons, List.length_nil, y_bool0, y_bool1, not_true_eq_false, not_false_eq_true, false_implies, true_implies, true_or, or_true, false_or, or_false, if_true, if_false, ite_true, ite_false, and_false, decide_false, bi, Bool.false_eq_true]
    · have h3 : c < Int32.ofNat n := by rw [← Int32.not_le]; exact h2
      simp only [h1, h2, h3, this, xk_n, xk_i, xk_r, xk_z, xk_l, xcs_0, xcs_i, xcs_r, xcs_z, xcs_l, Nat.reduceAdd, Nat.reduceLeDiff, Nat.reduceLT, true_and, and_true, Option.toList_some, Option.toList_none, List.nil_append, List.cons_append, List.getElem?_cons_zero, List.getElem?_cons_succ, List.set_cons_zero, List.set_cons_succ, List.length_cons, List.length_nil, y_bool0, y_bool1, not_true_eq_false, not_false_eq_true, false_implies, true_implies, true_or, or_true, false_or, or_false, if_true, if_false, ite_true, ite_false, and_true, decide_true, bi]
theorem wp_isMissing {d : Nat} {h : xH} {K : Option Value → xH → Prop} {a w n : Nat} {s : Nat → Nat} (H : PL h a w n s) : wp d 17 0 [some (.ref a)] [] h K ↔ K (some (.int (bi (decide (n = 0))))) h := by
  obtain ⟨a1, a2, a0, f, a3, a4, a5⟩ := H
  have e : (Int32.ofNat n = 0) ↔ n = 0 := n_eql (m := 0) (by omega) (by omega)
  simp only [w17_0, w17_0n, w17_1, w17_4, w17_7, w17_8, w17_11, w17_12, xk_n, xk_i, xk_r, xk_z, xk_l, xcs_0, xcs_i, xcs_r, xcs_z, xcs_l, Nat.reduceAdd, Nat.reduceLeDiff, Nat.reduceLT, true_and, and_true, Option.toList_some, Option.toList_none, List.nil_append, List.cons_append, List.getElem?_cons_zero, List.getElem?_cons_succ, List.set_cons_zero, List.set_cons_succ, List.length_cons, List.length_nil, y_bool0, y_bool1, not_true_eq_false, not_false_eq_true, false_implies, true_implies, true_or, or_true, false_or, or_false, if_true, if_false, ite_true, ite_false, y_get, a1, e]
  by_cases h1 : n = 0
  · simp only [h1, xk_n, xk_i, xk_r, xk_z, xk_l, xcs_0, xcs_i, xcs_r, xcs_z, xcs_l, Nat.reduceAdd, Nat.reduceLeDiff, Nat.reduceLT, true_and, and_true, Option.toList_some, Option.toList_none, List.nil_append, List.cons_append, List.getElem?_cons_zero, List.getElem?_cons_succ, List.set_cons_zero, List.set_cons_succ, List.length_cons, List.length_nil, y_bool0, y_bool1, not_true_eq_false, not_false_eq_true, false_implies, true_implies, true_or, or_true, false_or, or_false, if_true, if_false, ite_true, ite_false, decide_true, bi]
  · simp only [h1, xk_n, xk_i, xk_r, xk_z, xk_l, xcs_0, xcs_i, xcs_r, xcs_z, xcs_l, Nat.reduceAdd, Nat.reduceLeDiff, Nat.reduceLT, true_and, and_true, Option.toList_some, Option.toList_none, List.nil_append, List.cons_append, List.getElem?_cons_zero, List.getElem?_cons_succ, List.set_cons_zero, List.set_cons_succ, List.length_cons, List.length_nil, y_bool0, y_bool1, not_true_eq_false, not_false_eq_true, false_implies, true_implies, true_or, or_true, false_or, or_false, if_true, if_false, ite_true, ite_false, decide_false, bi, Bool.false_eq_true]
theorem wp_signOf {d : Nat} {h : xH} {K : Option Value → xH → Prop} {a w n : Nat} {o : Option Nat} {c : Int32} {s : Nat → Nat} (H : PL h a w n s) (hc : (∃ x, o = some x ∧ x < n ∧ c = Int32.ofNat x) ∨ (o = none ∧ (c < 0 ∨ Int32.ofNat n ≤ c))) : wp d 19 0 [some (.ref a), some (.int c)] [] h K ↔ K (some (.int (Int32.ofNat (sgO s o)))) h := by
  obtain ⟨a1, a2, a0, f, a3, a4, a5⟩ := H
  rcases hc with ⟨x, rfl, h1, rfl⟩ | ⟨rfl, hc⟩
  · have e1 : (Int32.ofNat x < 0) = False := eq_false (n_lt0 (by omega))
    have e2 : (Int32.ofNat n ≤ Int32.ofNat x) = False := eq_false (by rw [n_le (by omega) (by omega)]; omega)
    have e3 : (Int32.ofNat 30 ≤ Int32.ofNat x) = False := eq_false (by rw [n_le (by omega) (by omega)]; omega)
    have e4 : vp_in (Int32.ofNat x) 30 := (n_in (by omega)).mpr (by omega)
    have e5 : (Int32.ofNat x).toNatClampNeg = x := n_cl (by omega)
    simp only [w19_0, w19_1, w19_4, w19_5, w19_5n, w19_6, w19_9, w19_12, w19_13, w19_13n, w19_14, w19_17, w19_18, w19_21, w19_21n, w19_22, w19_25, w19_26, w19_27, w19_30, w19_31, xk_n, xk_i, xk_r, xk_z, xk_l, xcs_0, xcs_i, xcs_r, xcs_z, xcs_l, Nat.reduceAdd, Nat.reduceLeDiff, Nat.reduceLT, true_and, and_true, Option.toList_some, Option.toList_none, List.nil_append, List.cons_append, List.getElem?_cons_zero, List.getElem?_cons_succ, List.set_cons_zero, List.set_cons_succ, List.length_cons, List.length_nil, y_bool0, y_bool1, not_true_eq_false, not_false_eq_true, false_implies, true_implies, true_or, or_true, false_or, or_false, if_true, if_false, ite_true, ite_false, y_get, a1, a3, y_alen, y_iald, e1, e2, e3, e4, e5, (a5 x h1).1, sgO, Nat.reduceLT]
  · have z : (1 : Int32) = Int32.ofNat 1 := rfl
    rcases hc with hc | hc
    · simp only [w19_0, w19_1, w19_4, w19_5, w19_5n, w19_6, w19_9, w19_12, w19_13, w19_13n, w19_14, w19_17, w19_18, w19_21, w19_21n, w19_22, w19_25, w19_26, w19_27, w19_30, w19_31, xk_n, xk_i, xk_r, xk_z, xk_l, xcs_0, xcs_i, xcs_r, xcs_z, xcs_l, Nat.reduceAdd, Nat.reduceLeDiff, Nat.reduceLT, true_and, and_true, Option.toList_some, Option.toList_none, List.nil_append, List.cons_append, List.getElem?_cons_zero, List.getElem?_cons_succ, List.set_cons_zero, List.set_cons_succ, List.length_cons, List.length_nil, y_bool0, y_bool1, not_true_eq_false, not_false_eq_true, false_implies, true_implies, true_or, or_true, false_or, or_false, if_true, if_false, ite_true, ite_false, y_get, a1, a3, y_alen, y_iald, hc, sgO, z]
    · by_cases h0 : c < 0
      · simp only [w19_0, w19_1, w19_4, w19_5, w19_5n, w19_6, w19_9, w19_12, w19_13, w19_13n, w19_14, w19_17, w19_18, w19_21, w19_21n, w19_22, w19_25, w19_26, w19_27, w19_30, w19_31, xk_n, xk_i, xk_r, xk_z, xk_l, xcs_0, xcs_i, xcs_r, xcs_z, xcs_l, Nat.reduceAdd, Nat.reduceLeDiff, Nat.reduceLT, true_and, and_true, Option.toList_some, Option.toList_none, List.nil_append, List.cons_append, List.getElem?_cons_zero, List.getElem?_cons_succ, List.set_cons_zero, List.set_cons_succ, List.length_cons, List.length_nil, y_bool0, y_bool1, not_true_eq_false, not_false_eq_true, false_implies, true_implies, true_or, or_true, false_or, or_false, if_true, if_false, ite_true, ite_false, y_get, a1, a3, y_alen, y_iald, h0, sgO, z]
      · simp only [w19_0, w19_1, w19_4, w19_5, w19_5n, w19_6, w19_9, w19_12, w19_13, w19_13n, w19_14, w19_17, w19_18, w19_21, w19_21n, w19_22, w19_25, w19_26, w19_27, w19_30, w19_31, xk_n, xk_i, xk_r, xk_z, xk_l, xcs_0, xcs_i, xcs_r, xcs_z, xcs_l, Nat.reduceAdd, Nat.reduceLeDiff, Nat.reduceLT, true_and, and_true, Option.toList_some, Option.toList_none, List.nil_append, List.cons_append, List.getElem?_cons_zero, List.getElem?_cons_succ, List.set_cons_zero, List.set_cons_succ, List.length_cons, List.length_nil, y_bool0, y_bool1, not_true_eq_false, not_false_eq_true, false_implies, true_implies, true_or, or_true, false_or, or_false, if_true, if_false, ite_true, ite_false, y_get, a1, a3, y_alen, y_iald, h0, hc, sgO, z]
def besI (w c d : Nat) : Int32 := match d with
  | 0 => Int32.ofNat c - Int32.ofNat w
  | 1 => if c % w + 1 < w then Int32.ofNat (c + 1) else -9
  | 2 => Int32.ofNat (c + w)
  | _ => if 0 < c % w then Int32.ofNat (c - 1) else -9
theorem bes_I {w n c d : Nat} (hw : okW w n) (hc : c < n) (hd : d < 4) : (∃ x, bes w n c d = some x ∧ x < n ∧ besI w c d = Int32.ofNat x) ∨ (bes w n c d = none ∧ (besI w c d < 0 ∨ Int32.ofNat n ≤ besI w c d)) := by
  have hl := fun x => bes_lt (d := d) (x := x) hw hc
  obtain ⟨w2, w6, n30, hi, hn⟩ := hw
  have z9 : ((-9 : Int32) < 0) := by decide
  match d, hd with
  | 0, _ =>
    by_cases q : w ≤ c
    · exact Or.inl ⟨c - w, if_pos q, by omega, n_sub q⟩
    · refine Or.inr ⟨if_neg q, Or.inl ?_⟩
      show Int32.ofNat c - Int32.ofNat w < 0
      have : ∀ c, c < 30 → ∀ w, w < 7 → c < w → Int32.ofNat c - Int32.ofNat w < 0 := by decide +kernel
      exact this c (by omega) w (by omega) (by omega)
  | 1, _ =>
    by_cases q : c % w + 1 < w
    · have e : bes w n c 1 = some (c + 1) := if_pos q
      exact Or.inl ⟨c + 1, e, hl _ e, if_pos q⟩
    · exact Or.inr ⟨if_neg q, Or.inl (by show (if c % w + 1 < w then Int32.ofNat (c + 1) else -9) < 0; rw [if_neg q]; exact z9)⟩
  | 2, _ =>
    by_cases q : c + w < n
    · exact Or.inl ⟨c + w, if_pos q, q, rfl⟩
    · exact Or.inr ⟨if_neg q, Or.inr ((n_le (by omega) (by omega)).mpr (by omega))⟩
  | 3, _ =>
    by_cases q : 0 < c % w
    · have e : bes w n c 3 = some (c - 1) := if_pos q
      exact Or.inl ⟨c - 1, e, hl _ e, if_pos q⟩
    · exact Or.inr ⟨if_neg q, Or.inl (by show (if 0 < c % w then Int32.ofNat (c - 1) else -9) < 0; rw [if_neg q]; exact z9)⟩
theorem wp_beside {d : Nat} {h : xH} {K : Option Value → xH → Prop} {a w n c dd : Nat} {s : Nat → Nat} (H : PL h a w n s) (hw : okW w n) (hc : c < n) (hd : dd < 4) : wp d 22 0 [some (.ref a), some (.int (Int32.ofNat c)), some (.int (Int32.ofNat dd)), none] [] h K ↔ K (some (.int (besI w c dd))) h := by
  obtain ⟨w2, w6, n30, hi, hn⟩ := hw
  obtain ⟨a1, a2, a0, f, a3, a4, a5⟩ := H
  have hm : c % w < w := Nat.mod_lt _ (by omega)
  have z1 : (0 : Int32) < Int32.ofNat w := (n_llt (m := 0) (by omega) (by omega)).mpr (by omega)
  have z2 : (Int32.ofNat w = 0) = False := eq_false (by have := n_eql (a := w) (m := 0) (by omega) (by omega); rw [this]; omega)
  have z3 := n_mod (a := c) (b := w) (by omega) (by omega)
  have z4 : (Int32.ofNat dd).toInt = dd := n_toInt (by omega)
  have z5 : (Int32.ofNat w ≤ Int32.ofNat (c % w + 1)) = ¬ (c % w + 1 < w) := by rw [n_le (by omega) (by omega)]; exact propext (by omega)
  have z6 : (Int32.ofNat (c % w) ≤ 0) = ¬ (0 < c % w) := by have := n_lel (a := c % w) (m := 0) (by omega) (by omega); rw [this]; exact propext (by omega)
  have z7 : Int32.ofNat (c % w) + 1 = Int32.ofNat (c % w + 1) := n_addl _ 1
  have z8 : Int32.ofNat c + 1 = Int32.ofNat (c + 1) := n_addl _ 1
  match dd, hd with
  | 0, _ =>
    simp only [w22_0, w22_0n, w22_1, w22_4, w22_7, w22_9, w22_10, w22_11, w22_11n, w22_12, w22_15, w22_16, w22_17, w22_18, w22_44, w22_45, w22_45n, w22_46, w22_49, w22_50, w22_51, w22_52, w22_53, w22_54, w22_54n, w22_55, w22_58, w22_61, w22_62, w22_63, w22_64, w22_67, w22_69, w22_70, w22_71, w22_71n, w22_72, w22_75, w22_76, w22_77, w22_78, w22_81, w22_82, w22_83, w22_84, w22_87, w22_89, xk_n, xk_i, xk_r, xk_z, xk_l, xcs_0, xcs_i, xcs_r, xcs_z, xcs_l, Nat.reduceAdd, Nat.reduceLeDiff, Nat.reduceLT, true_and, and_true, Option.toList_some, Option.toList_none, List.nil_append, List.cons_append, List.getElem?_cons_zero, List.getElem?_cons_succ, List.set_cons_zero, List.set_cons_succ, List.length_cons, List.length_nil, y_bool0, y_bool1, not_true_eq_false, not_false_eq_true, false_implies, true_implies, true_or, or_true, false_or, or_false, if_true, if_false, ite_true, ite_false, y_get, a1, z1, z2, z3, z4]
    simp [besI]
  | 1, _ =>
    simp only [w22_0, w22_0n, w22_1, w22_4, w22_7, w22_9, w22_10, w22_11, w22_11n, w22_12, w22_15, w22_16, w22_17, w22_18, w22_44, w22_45, w22_45n, w22_46, w22_49, w22_50, w22_51, w22_52, w22_53, w22_54, w22_54n, w22_55, w22_58, w22_61, w22_62, w22_63, w22_64, w22_67, w22_69, w22_70, w22_71, w22_71n, w22_72, w22_75, w22_76, w22_77, w22_78, w22_81, w22_82, w22_83, w22_84, w22_87, w22_89, xk_n, xk_i, xk_r, xk_z, xk_l, xcs_0, xcs_i, xcs_r, xcs_z, xcs_l, Nat.reduceAdd, Nat.reduceLeDiff, Nat.reduceLT, true_and, and_true, Option.toList_some, Option.toList_none, List.nil_append, List.cons_append, List.getElem?_cons_zero, List.getElem?_cons_succ, List.set_cons_zero, List.set_cons_succ, List.length_cons, List.length_nil, y_bool0, y_bool1, not_true_eq_false, not_false_eq_true, false_implies, true_implies, true_or, or_true, false_or, or_false, if_true, if_false, ite_true, ite_false, y_get, a1, z1, z2, z3, z4, z5, z6, z7, z8]
    by_cases q : c % w + 1 < w <;> simp [besI, q]
  | 2, _ =>
    simp only [w22_0, w22_0n, w22_1, w22_4, w22_7, w22_9, w22_10, w22_11, w22_11n, w22_12, w22_15, w22_16, w22_17, w22_18, w22_44, w22_45, w22_45n, w22_46, w22_49, w22_50, w22_51, w22_52, w22_53, w22_54, w22_54n, w22_55, w22_58, w22_61, w22_62, w22_63, w22_64, w22_67, w22_69, w22_70, w22_71, w22_71n, w22_72, w22_75, w22_76, w22_77, w22_78, w22_81, w22_82, w22_83, w22_84, w22_87, w22_89, xk_n, xk_i, xk_r, xk_z, xk_l, xcs_0, xcs_i, xcs_r, xcs_z, xcs_l, Nat.reduceAdd, Nat.reduceLeDiff, Nat.reduceLT, true_and, and_true, Option.toList_some, Option.toList_none, List.nil_append, List.cons_append, List.getElem?_cons_zero, List.getElem?_cons_succ, List.set_cons_zero, List.set_cons_succ, List.length_cons, List.length_nil, y_bool0, y_bool1, not_true_eq_false, not_false_eq_true, false_implies, true_implies, true_or, or_true, false_or, or_false, if_true, if_false, ite_true, ite_false, y_get, a1, z1, z2, z3, z4, z5, z6, z7, z8, n_add]
    simp [besI]
  | 3, _ =>
    simp only [w22_0, w22_0n, w22_1, w22_4, w22_7, w22_9, w22_10, w22_11, w22_11n, w22_12, w22_15, w22_16, w22_17, w22_18, w22_44, w22_45, w22_45n, w22_46, w22_49, w22_50, w22_51, w22_52, w22_53, w22_54, w22_54n, w22_55, w22_58, w22_61, w22_62, w22_63, w22_64, w22_67, w22_69, w22_70, w22_71, w22_71n, w22_72, w22_75, w22_76, w22_77, w22_78, w22_81, w22_82, w22_83, w22_84, w22_87, w22_89, xk_n, xk_i, xk_r, xk_z, xk_l, xcs_0, xcs_i, xcs_r, xcs_z, xcs_l, Nat.reduceAdd, Nat.reduceLeDiff, Nat.reduceLT, true_and, and_true, Option.toList_some, Option.toList_none, List.nil_append, List.cons_append, List.getElem?_cons_zero, List.getElem?_cons_succ, List.set_cons_zero, List.set_cons_succ, List.length_cons, List.length_nil, y_bool0, y_bool1, not_true_eq_false, not_false_eq_true, false_implies, true_implies, true_or, or_true, false_or, or_false, if_true, if_false, ite_true, ite_false, y_get, a1, z1, z2, z3, z4, z5, z6, z7, z8]
    by_cases q : 0 < c % w
    · have z9 : Int32.ofNat c - 1 = Int32.ofNat (c - 1) := n_subl (m := 1) (by have := Nat.mod_le c w; omega)
      simp [besI, q, z9]
    · simp [besI, q]
/-- a function changed at one place -/
def upN (s : Nat → Nat) (c x : Nat) : Nat → Nat := fun i => if i = c then x else s i
theorem PL.set {h : xH} {a w n c x : Nat} {s : Nat → Nat} {f : Nat → Int32} (a1 : h[a]? = some (.inr (3, [.ref (a + 1), .int (Int32.ofNat w), .int (Int32.ofNat n)]))) (a2 : 2 ≤ a) (a0 : w ≤ 6) (a3 : h[a + 1]? = some (.inl (0, 30, .inl f))) (a4 : sgA n s f) (hx : x < 4) : PL (h.set (a + 1) (.inl (0, 30, .inl (upd f c (Int32.ofNat x))))) a w n (upN s c x) := by
  refine ⟨h_set_ne a1 (by omega), a2, a0, _, h_set_at a3, a4.1, fun i hi => ?_⟩
  unfold upd upN
  by_cases q : i = c
  · rw [if_pos q, if_pos q]; exact ⟨rfl, hx⟩
  · rw [if_neg q, if_neg q]; exact a4.2 i hi
theorem wp_mark {d : Nat} {h : xH} {K : Option Value → xH → Prop} {a w n c x : Nat} {s : Nat → Nat} (H : PL h a w n s) (hc : c < n) (hx : x < 4) (hK : ∀ h', PL h' a w n (upN s c x) → FR (fun b => b = a + 1) 0 0 h h' → K none h') : wp d 20 0 [some (.ref a), some (.int (Int32.ofNat c)), some (.int (Int32.ofNat x))] [] h K := by
  obtain ⟨a1, a2, a0, f, a3, a4⟩ := H
  have n30 := a4.1
  have e1 : (Int32.ofNat c < 0) = False := eq_false (n_lt0 (by omega))
  have e3 : (Int32.ofNat 30 ≤ Int32.ofNat c) = False := eq_false (by rw [n_le (by omega) (by omega)]; omega)
  have e4 : vp_in (Int32.ofNat c) 30 := (n_in (by omega)).mpr (by omega)
  have e5 : (Int32.ofNat c).toNatClampNeg = c := n_cl (by omega)
  have e6 : 2 ≤ a + 1 := by omega
  simp only [w20_0, w20_1, w20_4, w20_5, w20_5n, w20_6, w20_9, w20_10, w20_13, w20_13n, w20_14, w20_17, w20_18, w20_19, w20_20, xk_n, xk_i, xk_r, xk_z, xk_l, xcs_0, xcs_i, xcs_r, xcs_z, xcs_l, Nat.reduceAdd, Nat.reduceLeDiff, Nat.reduceLT, true_and, and_true, Option.toList_some, Option.toList_none, List.nil_append, List.cons_append, List.getElem?_cons_zero, List.getElem?_cons_succ, List.set_cons_zero, List.set_cons_succ, List.length_cons, List.length_nil, y_bool0, y_bool1, not_true_eq_false, not_false_eq_true, false_implies, true_implies, true_or, or_true, false_or, or_false, if_true, if_false, ite_true, ite_false, y_get, a1, a3, y_alen, y_iast, e1, e3, e4, e5, e6]
  exact hK _ (PL.set a1 a2 a0 a3 a4 hx) (FR.set a3 rfl)
theorem wp_fill {d : Nat} {K : Option Value → xH → Prop} {sa n : Nat} {v : Int32} (hn : n < 2147483648) (he : 2 ≤ sa) : ∀ (k i : Nat) (h : xH) (f : Nat → Int32), i + k = n → h[sa]? = some (.inl (0, n, .inl f)) → (∀ c, c < i → f c = v) → (∀ f', (∀ c, c < n → f' c = v) → K none (h.set sa (.inl (0, n, .inl f')))) → wp d 168 5 [some (.ref sa), some (.int v), some (.int (Int32.ofNat i)), some (.int (Int32.ofNat n))] [] h K
  | 0, i, h, f, hi, hg, hf, hK => by
    have z6 : Int32.ofNat n ≤ Int32.ofNat i := (n_le (by omega) (by omega)).mpr (by omega)
    rw [w168_5]
    simp only [w168_0, w168_1, w168_2, w168_2n, w168_3, w168_4, w168_6, w168_7, w168_10, w168_10n, w168_11, w168_12, w168_13, w168_14, w168_17, w168_20, xk_n, xk_i, xk_r, xk_z, xk_l, xcs_0, xcs_i, xcs_r, xcs_z, xcs_l, Nat.reduceAdd, Nat.reduceLeDiff, Nat.reduceLT, true_and, and_true, Option.toList_some, Option.toList_none, List.nil_append, List.cons_append, List.getElem?_cons_zero, List.getElem?_cons_succ, List.set_cons_zero, List.set_cons_succ, List.length_cons, List.length_nil, y_bool0, y_bool1, not_true_eq_false, not_false_eq_true, false_implies, true_implies, true_or, or_true, false_or, or_false, if_true, if_false, ite_true, ite_false, z6]
    have := hK f (fun c hc => hf c (by omega))
    rwa [h_same hg] at this
  | k + 1, i, h, f, hi, hg, hf, hK => by
    have z6 : (Int32.ofNat n ≤ Int32.ofNat i) = False := eq_false (by rw [n_le (by omega) (by omega)]; omega)
    have e8 : vp_in (Int32.ofNat i) n := (n_in (by omega)).mpr (by omega)
    have e9 : (Int32.ofNat i).toNatClampNeg = i := n_cl (by omega)
    have z5 : Int32.ofNat i + 1 = Int32.ofNat (i + 1) := n_addl i 1
    rw [w168_5]
    simp only [w168_0, w168_1, w168_2, w168_2n, w168_3, w168_4, w168_6, w168_7, w168_10, w168_10n, w168_11, w168_12, w168_13, w168_14, w168_17, w168_20, xk_n, xk_i, xk_r, xk_z, xk_l, xcs_0, xcs_i, xcs_r, xcs_z, xcs_l, Nat.reduceAdd, Nat.reduceLeDiff, Nat.reduceLT, true_and, and_true, Option.toList_some, Option.toList_none, List.nil_append, List.cons_append, List.getElem?_cons_zero, List.getElem?_cons_succ, List.set_cons_zero, List.set_cons_succ, List.length_cons, List.length_nil, y_bool0, y_bool1, not_true_eq_false, not_false_eq_true, false_implies, true_implies, true_or, or_true, false_or, or_false, if_true, if_false, ite_true, ite_false, z6, y_iast, hg, e8, e9, he, z5]
    refine wp_fill hn he k (i + 1) _ _ (by omega) (h_set_at hg) ?_ fun f' hf' => ?_
    · intro c hc
      unfold upd
      split
      · rfl
      · exact hf c (by omega)
    · rw [set_set]
      exact hK f' hf'
theorem wp_fill0 {d : Nat} {h : xH} {K : Option Value → xH → Prop} {sa n : Nat} {v : Int32} {f : Nat → Int32} (hn : n < 2147483648) (he : 2 ≤ sa) (hg : h[sa]? = some (.inl (0, n, .inl f))) (hK : ∀ f', (∀ c, c < n → f' c = v) → K none (h.set sa (.inl (0, n, .inl f')))) : wp d 168 0 [some (.ref sa), some (.int v), none, none] [] h K := by
  simp only [w168_0, w168_1, w168_2, w168_2n, w168_3, w168_4, w168_6, w168_7, w168_10, w168_10n, w168_11, w168_12, w168_13, w168_14, w168_17, w168_20, xk_n, xk_i, xk_r, xk_z, xk_l, xcs_0, xcs_i, xcs_r, xcs_z, xcs_l, Nat.reduceAdd, Nat.reduceLeDiff, Nat.reduceLT, true_and, and_true, Option.toList_some, Option.toList_none, List.nil_append, List.cons_append, List.getElem?_cons_zero, List.getElem?_cons_succ, List.set_cons_zero, List.set_cons_succ, List.length_cons, List.length_nil, y_bool0, y_bool1, not_true_eq_false, not_false_eq_true, false_implies, true_implies, true_or, or_true, false_or, or_false, if_true, if_false, ite_true, ite_false, y_alen, hg]
  exact wp_fill hn he n 0 h f (by omega) hg (fun c hc => by omega) hK
theorem wp_pclear {d : Nat} {h : xH} {K : Option Value → xH → Prop} {a w n hi w1 : Nat} {s : Nat → Nat} (H : PL h a w n s) (h1 : hi ≤ 5) (h2 : w1 ≤ 6) (hK : ∀ h', PL h' a w1 (hi * w1) (fun _ => 1) → FR (fun b => b = a ∨ b = a + 1) 0 0 h h' → K none h') : wp (d + 1) 21 0 [some (.ref a), some (.int (Int32.ofNat hi)), some (.int (Int32.ofNat w1))] [] h K := by
  obtain ⟨a1, a2, a0, f, a3, a4⟩ := H
  have hal := h_lt a1
  have hn : hi * w1 ≤ 30 := Nat.mul_le_mul h1 h2
  simp only [w21_0, w21_0n, w21_1, w21_2, w21_5, w21_5n, w21_6, w21_7, w21_8, w21_9, w21_12, w21_12n, w21_13, w21_16, w21_17, w21_20, xk_n, xk_i, xk_r, xk_z, xk_l, xcs_0, xcs_i, xcs_r, xcs_z, xcs_l, Nat.reduceAdd, Nat.reduceLeDiff, Nat.reduceLT, true_and, and_true, Option.toList_some, Option.toList_none, List.nil_append, List.cons_append, List.getElem?_cons_zero, List.getElem?_cons_succ, List.set_cons_zero, List.set_cons_succ, List.length_cons, List.length_nil, y_bool0, y_bool1, not_true_eq_false, not_false_eq_true, false_implies, true_implies, true_or, or_true, false_or, or_false, if_true, if_false, ite_true, ite_false, y_get, y_put, a1, a2, List.getElem?_set, List.length_set, hal, set_set, n_mul]
  refine wp_fill0 (f := f) (n := 30) (by omega) (by omega) (h_set_ne a3 (by omega)) fun f' hf' => ?_
  simp only [w21_0, w21_0n, w21_1, w21_2, w21_5, w21_5n, w21_6, w21_7, w21_8, w21_9, w21_12, w21_12n, w21_13, w21_16, w21_17, w21_20, xk_n, xk_i, xk_r, xk_z, xk_l, xcs_0, xcs_i, xcs_r, xcs_z, xcs_l, Nat.reduceAdd, Nat.reduceLeDiff, Nat.reduceLT, true_and, and_true, Option.toList_some, Option.toList_none, List.nil_append, List.cons_append, List.getElem?_cons_zero, List.getElem?_cons_succ, List.set_cons_zero, List.set_cons_succ, List.length_cons, List.length_nil, y_bool0, y_bool1, not_true_eq_false, not_false_eq_true, false_implies, true_implies, true_or, or_true, false_or, or_false, if_true, if_false, ite_true, ite_false]
  refine hK _ ⟨h_set_ne (h_set_at a1) (by omega), a2, h2, f', h_set_at (h_set_ne a3 (by omega)), hn, fun c hc => ⟨hf' c (by omega), by show 1 < 4; omega⟩⟩ ?_
  have F1 := FR.set (c := .inr (3, [.ref (a + 1), .int (Int32.ofNat w1), .int (Int32.ofNat (hi * w1))])) a1 rfl
  exact F1.trans (FR.set (c := .inl (0, 30, .inl f')) (h_set_ne a3 (show a ≠ a + 1 by omega)) rfl) (fun _ _ z => Or.inl z) (fun _ _ z => Or.inr z) (Nat.le_refl _) (Nat.le_refl _)
