/-! ===== the program's pull, where it is refused ===== -/
theorem cop_pullNo {d : Nat} {h : xH} {K : Option Value → xH → Prop} {s : St} (H : RX h s) (k : Int32) (hk : k = -1 ∨ ∃ a, gv (sE s) < a ∧ a < 1000 ∧ k = Int32.ofNat a) (hK : K (some (.int (-2))) h) : wp (d + 3) 47 0 [some (.ref 2), some (.int k), none, none] [] h K := by
  obtain ⟨hO, e, em, er, vs, rs, H⟩ := H
  obtain ⟨X, L, B⟩ := H.2.1
  have hv3 := hO.v3
  rcases hk with rfl | ⟨a, h1, h2, rfl⟩
  · have e1 : ((-1 : Int32) < 0) = True := eq_true (by decide)
    simp only [w47_0, w47_0n, w47_1, w47_4, w47_7, w47_10, w47_11, w47_12, w47_13, w47_14, w47_17, w47_18, w47_21, w47_23, w47_24, w47_24n, w47_25, w47_28, xk_n, xk_i, xk_r, xk_z, xk_l, xcs_0, xcs_i, xcs_r, xcs_z, xcs_l, Nat.reduceAdd, Nat.reduceLeDiff, Nat.reduceLT, true_and, and_true, Option.toList_some, Option.toList_none, List.nil_append, List.cons_append, List.getElem?_cons_zero, List.getElem?_cons_succ, List.set_cons_zero, List.set_cons_succ, List.length_cons, List.length_nil, y_bool0, y_bool1, not_true_eq_false, not_false_eq_true, false_implies, true_implies, true_or, or_true, false_or, or_false, if_true, if_false, ite_true, ite_false, y_get, H.1, B.bed, B.al.cls, wp_size B.al, e1]
    exact hK
  · have e1 : (Int32.ofNat a < 0) = False := eq_false (n_lt0 (by omega))
    have e2 : (0 ≤ Int32.ofNat (gv (sE s)) - Int32.ofNat a) = False := eq_false (Int32.not_le.mpr (n_subneg h1 (by omega)))
    simp only [w47_0, w47_0n, w47_1, w47_4, w47_7, w47_10, w47_11, w47_12, w47_13, w47_14, w47_17, w47_18, w47_21, w47_23, w47_24, w47_24n, w47_25, w47_28, xk_n, xk_i, xk_r, xk_z, xk_l, xcs_0, xcs_i, xcs_r, xcs_z, xcs_l, Nat.reduceAdd, Nat.reduceLeDiff, Nat.reduceLT, true_and, and_true, Option.toList_some, Option.toList_none, List.nil_append, List.cons_append, List.getElem?_cons_zero, List.getElem?_cons_succ, List.set_cons_zero, List.set_cons_succ, List.length_cons, List.length_nil, y_bool0, y_bool1, not_true_eq_false, not_false_eq_true, false_implies, true_implies, true_or, or_true, false_or, or_false, if_true, if_false, ite_true, ite_false, y_get, H.1, B.bed, B.al.cls, wp_size B.al, e1, e2]
    exact hK
