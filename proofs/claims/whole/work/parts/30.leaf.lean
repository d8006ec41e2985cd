/-! ===== the class: leaves ===== -/
/-- a condition as an answer -/
def bi (c : Bool) : Int32 := if c then 1 else 0
theorem bi_t : bi true = 1 := rfl
theorem bi_f : bi false = 0 := rfl
theorem bi_b (c : Bool) : y_bool (bi c) := by cases c <;> rfl
theorem bi_0 (c : Bool) : bi c = 0 ↔ c = false := by cases c <;> decide
theorem wp_signOf {d : Nat} {h : xH} {K : Option Value → xH → Prop} {a sa : Nat} {c w n : Int32} {f : Nat → Int32} (hp : h[a]? = some (.inr (3, [.ref sa, .int w, .int n]))) (hs : h[sa]? = some (.inl (0, 30, .inl f))) : wp d 19 0 [some (.ref a), some (.int c)] [] h K ↔ K (some (.int (if 0 ≤ c ∧ c < n ∧ c < 30 then f c.toNatClampNeg else 1))) h := by
  simp only [w19_0, w19_1, w19_4, w19_5, w19_5n, w19_6, w19_9, w19_12, w19_13, w19_13n, w19_14, w19_17, w19_18, w19_21, w19_21n, w19_22, w19_25, w19_26, w19_27, w19_30, w19_31, xk_n, xk_i, xk_r, xk_z, xk_l, xcs_0, xcs_i, xcs_r, xcs_z, xcs_l, Nat.reduceAdd, Nat.reduceLeDiff, Nat.reduceLT, true_and, and_true, Option.toList, List.nil_append, List.cons_append, List.getElem?_cons_zero, List.getElem?_cons_succ, List.set_cons_zero, List.set_cons_succ, List.length_cons, List.length_nil, y_bool0, y_bool1, not_true_eq_false, not_false_eq_true, false_implies, true_implies, y_get, hp, hs, y_alen, y_iald]
  skip
