/-! ===== the two objects are made ===== -/
section
variable {d : Nat} {K : Option Value → xH → Prop} {g : xH}
theorem gk_at (r : xH) (k : Nat) : (g ++ r)[g.length + k]? = r[k]? := by
  rw [List.getElem?_append_right (by omega)]
  congr 1
  omega
theorem gk_a0 (r : xH) : (g ++ r)[g.length]? = r[0]? := gk_at r 0
theorem gk_st (r : xH) (k : Nat) (c : xC) : (g ++ r).set (g.length + k) c = g ++ r.set k c := by
  have := List.set_append_right (s := g) (t := r) (g.length + k) c (Nat.le_add_right _ _)
  rw [Nat.add_sub_cancel_left] at this
  exact this
theorem gk_s0 (r : xH) (c : xC) : (g ++ r).set g.length c = g ++ r.set 0 c := gk_st r 0 c
theorem gk_ln (r : xH) : (g ++ r).length = g.length + r.length := List.length_append
abbrev zI (n : Nat) : xC := .inl (0, n, .inl (fun _ => 0))
abbrev zB (n : Nat) : xC := .inl (1, n, .inl (fun _ => 0))
/-- a bed, as it is made, at q -/
abbrev nbed (q : Nat) : xH := [.inr (1, [.ref (q + 1), .ref (q + 3), .ref (q + 5), .long 0]), .inr (3, [.ref (q + 2), .int 0, .int 0]), zI 30, .inr (2, [.ref (q + 4)]), zB 80, .inr (0, [.int 0, .ref 1, .int 0])]
theorem wp_nbed {q : Nat} (hg : q = g.length) (h2 : 2 ≤ g.length) (hK : K none (g ++ nbed q)) : wp (d + 3) 0 0 [some (.ref q)] [] (g ++ [.inr (1, [.null, .null, .null, .long 0])]) K := by
  subst hg
  have G2 : ∀ k, (2 ≤ g.length + k) = True := fun k => eq_true (by omega)
  have G0 : (2 ≤ g.length) = True := eq_true h2
  have e1 : ((30 : Int32) < 0) = False := eq_false (by decide)
  have e2 : (30 : Int32).toNatClampNeg = 30 := by decide
  have e3 : ((80 : Int32) < 0) = False := eq_false (by decide)
  have e4 : (80 : Int32).toNatClampNeg = 80 := by decide
  have e5 : (30 ≤ 1000) = True := by simp
  have e6 : (80 ≤ 1000) = True := by simp
  simp only [w0_0, w0_0n, w0_1, w0_4, w0_4n, w0_5, w0_8, w0_8r, w0_9, w0_12, w0_15, w0_15n, w0_16, w0_19, w0_19r, w0_20, w0_23, w0_26, w0_26n, w0_27, w0_30, w0_30r, w0_31, w0_34, w0_37, w16_0, w16_0n, w16_1, w16_4, w16_4n, w16_5, w16_7, w16_9, w16_12, w10_0, w10_0n, w10_1, w10_4, w10_4n, w10_5, w10_7, w10_9, w10_12, w157_0, w157_0n, w157_1, w157_4, w157_4n, w157_5, w157_8, w157_11, w156_0, w156_0n, w156_1, w156_4, w156_4n, w156_5, w156_6, w156_9, w155_0, w155_0n, w155_1, w155_4, xk_n, xk_i, xk_r, xk_z, xk_l, xcs_0, xcs_i, xcs_r, xcs_z, xcs_l, Nat.reduceAdd, Nat.reduceLeDiff, Nat.reduceLT, true_and, and_true, Option.toList_some, Option.toList_none, List.nil_append, List.cons_append, List.getElem?_cons_zero, List.getElem?_cons_succ, List.set_cons_zero, List.set_cons_succ, List.length_cons, List.length_nil, y_bool0, y_bool1, not_true_eq_false, not_false_eq_true, false_implies, true_implies, true_or, or_true, false_or, or_false, if_true, if_false, ite_true, ite_false, gk_at, gk_a0, gk_st, gk_s0, gk_ln, List.append_assoc, y_put, y_get, G2, G0, e1, e2, e3, e4, e5, e6, List.length_append, Nat.add_assoc]
  exact hK
end
