/-! ===== the two objects are made ===== -/
section
variable {d : Nat} {K : Option Value → xH → Prop} {g : xH}
theorem gk_at (r : xH) (k : Nat) : (g ++ r)[g.length + k]? = r[k]? := by
  rw [List.getElem?_append_right (by omega)]
  congr 1
  omega
theorem gk_a0 (r : xH) : (g ++ r)[g.length]? = r[0]? := gk_at r 0
theorem gk_st (r : xH) (k : Nat) (c : xC) : (g ++ r).set (g.length + k) c = g ++ r.set k c := by
  have := List.set_append_right (s := g) (t := r) (g.length + k) c (Nat.le_add_right _ _)
  rw [Nat.add_sub_cancel_left] at this
  exact this
theorem gk_s0 (r : xH) (c : xC) : (g ++ r).set g.length c = g ++ r.set 0 c := gk_st r 0 c
theorem gk_ln (r : xH) : (g ++ r).length = g.length + r.length := List.length_append
abbrev zI (n : Nat) : xC := .inl (0, n, .inl (fun _ => 0))
abbrev zB (n : Nat) : xC := .inl (1, n, .inl (fun _ => 0))
/-- a bed, as it is made, at q -/
abbrev nbed (q : Nat) : xH := [.inr (1, [.ref (q + 1), .ref (q + 3), .ref (q + 5), .long 0]), .inr (3, [.ref (q + 2), .int 0, .int 0]), zI 30, .inr (2, [.ref (q + 4)]), zB 80, .inr (0, [.int 0, .ref 1, .int 0])]
theorem wp_nbed {q : Nat} (hg : q = g.length) (h2 : 2 ≤ g.length) (hK : K none (g ++ nbed q)) : wp (d + 3) 0 0 [some (.ref q)] [] (g ++ [.inr (1, [.null, .null, .null, .long 0])]) K := by
  subst hg
  have G2 : ∀ k, (2 ≤ g.length + k) = True := fun k => eq_true (by omega)
  have G0 : (2 ≤ g.length) = True := eq_true h2
  have e1 : ((30 : Int32) < 0) = False := eq_false (by decide)
  have e2 : (30 : Int32).toNatClampNeg = 30 := by decide
  have e3 : ((80 : Int32) < 0) = False := eq_false (by decide)
  have e4 : (80 : Int32).toNatClampNeg = 80 := by decide
  have e5 : (30 ≤ 1000) = True := by simp
  have e6 : (80 ≤ 1000) = True := by simp
  simp only [w0_0, w0_0n, w0_1, w0_4, w0_4n, w0_5, w0_8, w0_8r, w0_9, w0_12, w0_15, w0_15n, w0_16, w0_19, w0_19r, w0_20, w0_23, w0_26, w0_26n, w0_27, w0_30, w0_30r, w0_31, w0_34, w0_37, w16_0, w16_0n, w16_1, w16_4, w16_4n, w16_5, w16_7, w16_9, w16_12, w10_0, w10_0n, w10_1, w10_4, w10_4n, w10_5, w10_7, w10_9, w10_12, w157_0, w157_0n, w157_1, w157_4, w157_4n, w157_5, w157_8, w157_11, w156_0, w156_0n, w156_1, w156_4, w156_4n, w156_5, w156_6, w156_9, w155_0, w155_0n, w155_1, w155_4, xk_n, xk_i, xk_r, xk_z, xk_l, xcs_0, xcs_i, xcs_r, xcs_z, xcs_l, Nat.reduceAdd, Nat.reduceLeDiff, Nat.reduceLT, true_and, and_true, Option.toList_some, Option.toList_none, List.nil_append, List.cons_append, List.getElem?_cons_zero, List.getElem?_cons_succ, List.set_cons_zero, List.set_cons_succ, List.length_cons, List.length_nil, y_bool0, y_bool1, not_true_eq_false, not_false_eq_true, false_implies, true_implies, true_or, or_true, false_or, or_false, if_true, if_false, ite_true, ite_false, gk_at, gk_a0, gk_st, gk_s0, gk_ln, List.append_assoc, y_put, y_get, G2, G0, e1, e2, e3, e4, e5, e6, List.length_append, Nat.add_assoc]
  exact hK
end
section
variable {d : Nat} {K : Option Value → xH → Prop} {g : xH}
theorem wp_nbed2 {q : Nat} {r : xH} (hq : q = g.length + r.length) (h2 : 2 ≤ g.length) (hK : K none (g ++ (r ++ nbed q))) : wp (d + 3) 0 0 [some (.ref q)] [] (g ++ (r ++ [.inr (1, [.null, .null, .null, .long 0])])) K := by
  rw [← List.append_assoc] at hK ⊢
  exact wp_nbed (by rw [hq]; exact (gk_ln r).symm) (by rw [gk_ln]; omega) hK
abbrev nsh (q : Nat) : xH := [.inr (5, [.ref (q + 1), .int (-9), .int 0]), zI 50]
/-- the garden's object, as it is made, at q -/
abbrev nvg (q : Nat) (f : Nat → Option Nat) : xH := [.inr (7, [.ref (q + 1), .ref (q + 7), .ref (q + 13), .ref (q + 14), .int 0, .int 0])] ++ (nbed (q + 1) ++ (nbed (q + 7) ++ [.inr (0, [.int 0, .ref 1, .int 0]), .inl (3, 4, .inr (.inr (.inr (.inr f)))), .inr (5, [.ref (q + 16), .int (-9), .int 0]), zI 50, .inr (5, [.ref (q + 18), .int (-9), .int 0]), zI 50, .inr (5, [.ref (q + 20), .int (-9), .int 0]), zI 50, .inr (5, [.ref (q + 22), .int (-9), .int 0]), zI 50]))
def shF (q : Nat) : Nat → Option Nat := va_up (va_up (va_up (va_up (fun _ => none) 0 (some (q + 15))) 1 (some (q + 17))) 2 (some (q + 19))) 3 (some (q + 21))
theorem wp_nvg (h2 : 2 ≤ g.length) (hK : K none (g ++ nvg g.length (shF g.length))) : wp (d + 4) 41 0 [some (.ref g.length), none] [] (g ++ [.inr (7, [.null, .null, .null, .null, .int 0, .int 0])]) K := by
  have G2 : ∀ k, (2 ≤ g.length + k) = True := fun k => eq_true (by omega)
  have G0 : (2 ≤ g.length) = True := eq_true h2
  have e1 : ((50 : Int32) < 0) = False := eq_false (by decide)
  have e2 : (50 : Int32).toNatClampNeg = 50 := by decide
  have e3 : ((4 : Int32) < 0) = False := eq_false (by decide)
  have e4 : (4 : Int32).toNatClampNeg = 4 := by decide
  have e5 : (50 ≤ 1000) = True := by simp
  have e6 : (4 ≤ 1000) = True := by simp
  have i1 : (0 : Int32) + 1 = 1 := by decide
  have i2 : (1 : Int32) + 1 = 2 := by decide
  have i3 : (2 : Int32) + 1 = 3 := by decide
  have i4 : (3 : Int32) + 1 = 4 := by decide
  have c0 : (Int32.ofNat 4 ≤ 0) = False := eq_false (by decide)
  have c1 : (Int32.ofNat 4 ≤ 1) = False := eq_false (by decide)
  have c2 : (Int32.ofNat 4 ≤ 2) = False := eq_false (by decide)
  have c3 : (Int32.ofNat 4 ≤ 3) = False := eq_false (by decide)
  have c4 : (Int32.ofNat 4 ≤ 4) = True := eq_true (by decide)
  have v0 : vp_in 0 4 = True := eq_true ((n_in (a := 0) (by omega)).mpr (by omega))
  have v1 : vp_in 1 4 = True := eq_true ((n_in (a := 1) (by omega)).mpr (by omega))
  have v2 : vp_in 2 4 = True := eq_true ((n_in (a := 2) (by omega)).mpr (by omega))
  have v3 : vp_in 3 4 = True := eq_true ((n_in (a := 3) (by omega)).mpr (by omega))
  have t0 : (0 : Int32).toNatClampNeg = 0 := by decide
  have t1 : (1 : Int32).toNatClampNeg = 1 := by decide
  have t2 : (2 : Int32).toNatClampNeg = 2 := by decide
  have t3 : (3 : Int32).toNatClampNeg = 3 := by decide
  simp only [w41_0, w41_0n, w41_1, w41_4, w41_4n, w41_5, w41_8, w41_8r, w41_9, w41_12, w41_15, w41_15n, w41_16, w41_19, w41_19r, w41_20, w41_23, w41_26, w41_26n, w41_27, w41_30, w41_30r, w41_31, w41_34, w41_37, w41_37n, w41_38, w41_39, w41_42, w41_45, w41_46, w41_48, w41_48n, w41_49, w41_52, w41_53, w41_56, w41_56n, w41_57, w41_60, w41_61, w41_64, w41_64r, w41_65, w41_68, w41_68n, w41_69, w41_72, w41_75, xk_n, xk_i, xk_r, xk_z, xk_l, xcs_0, xcs_i, xcs_r, xcs_z, xcs_l, Nat.reduceAdd, Nat.reduceLeDiff, Nat.reduceLT, true_and, and_true, Option.toList_some, Option.toList_none, List.nil_append, List.cons_append, List.getElem?_cons_zero, List.getElem?_cons_succ, List.set_cons_zero, List.set_cons_succ, List.length_cons, List.length_nil, y_bool0, y_bool1, not_true_eq_false, not_false_eq_true, false_implies, true_implies, true_or, or_true, false_or, or_false, if_true, if_false, ite_true, ite_false, gk_at, gk_a0, gk_st, gk_s0, gk_ln, List.append_assoc, y_put, y_get, G2, G0, Nat.add_assoc]
  refine wp_nbed2 (g := g) (r := [.inr (7, [.null, .null, .null, .null, .int 0, .int 0])]) rfl h2 ?_
  simp only [w41_0, w41_0n, w41_1, w41_4, w41_4n, w41_5, w41_8, w41_8r, w41_9, w41_12, w41_15, w41_15n, w41_16, w41_19, w41_19r, w41_20, w41_23, w41_26, w41_26n, w41_27, w41_30, w41_30r, w41_31, w41_34, w41_37, w41_37n, w41_38, w41_39, w41_42, w41_45, w41_46, w41_48, w41_48n, w41_49, w41_52, w41_53, w41_56, w41_56n, w41_57, w41_60, w41_61, w41_64, w41_64r, w41_65, w41_68, w41_68n, w41_69, w41_72, w41_75, xk_n, xk_i, xk_r, xk_z, xk_l, xcs_0, xcs_i, xcs_r, xcs_z, xcs_l, Nat.reduceAdd, Nat.reduceLeDiff, Nat.reduceLT, true_and, and_true, Option.toList_some, Option.toList_none, List.nil_append, List.cons_append, List.getElem?_cons_zero, List.getElem?_cons_succ, List.set_cons_zero, List.set_cons_succ, List.length_cons, List.length_nil, y_bool0, y_bool1, not_true_eq_false, not_false_eq_true, false_implies, true_implies, true_or, or_true, false_or, or_false, if_true, if_false, ite_true, ite_false, gk_at, gk_a0, gk_st, gk_s0, gk_ln, List.append_assoc, y_put, y_get, G2, G0, Nat.add_assoc, nbed]
  refine wp_nbed2 (g := g) (r := [.inr (7, [.ref (g.length + 1), .null, .null, .null, .int 0, .int 0]), .inr (1, [.ref (g.length + 2), .ref (g.length + 4), .ref (g.length + 6), .long 0]), .inr (3, [.ref (g.length + 3), .int 0, .int 0]), zI 30, .inr (2, [.ref (g.length + 5)]), zB 80, .inr (0, [.int 0, .ref 1, .int 0])]) rfl h2 ?_
  simp only [w41_0, w41_0n, w41_1, w41_4, w41_4n, w41_5, w41_8, w41_8r, w41_9, w41_12, w41_15, w41_15n, w41_16, w41_19, w41_19r, w41_20, w41_23, w41_26, w41_26n, w41_27, w41_30, w41_30r, w41_31, w41_34, w41_37, w41_37n, w41_38, w41_39, w41_42, w41_45, w41_46, w41_48, w41_48n, w41_49, w41_52, w41_53, w41_56, w41_56n, w41_57, w41_60, w41_61, w41_64, w41_64r, w41_65, w41_68, w41_68n, w41_69, w41_72, w41_75, w26_0, w26_0n, w26_1, w26_4, w26_4n, w26_5, w26_7, w26_9, w26_12, w26_12n, w26_13, w26_15, w26_18, w157_0, w157_0n, w157_1, w157_4, w157_4n, w157_5, w157_8, w157_11, w156_0, w156_0n, w156_1, w156_4, w156_4n, w156_5, w156_6, w156_9, w155_0, w155_0n, w155_1, w155_4, xk_n, xk_i, xk_r, xk_z, xk_l, xcs_0, xcs_i, xcs_r, xcs_z, xcs_l, Nat.reduceAdd, Nat.reduceLeDiff, Nat.reduceLT, true_and, and_true, Option.toList_some, Option.toList_none, List.nil_append, List.cons_append, List.getElem?_cons_zero, List.getElem?_cons_succ, List.set_cons_zero, List.set_cons_succ, List.length_cons, List.length_nil, y_bool0, y_bool1, not_true_eq_false, not_false_eq_true, false_implies, true_implies, true_or, or_true, false_or, or_false, if_true, if_false, ite_true, ite_false, gk_at, gk_a0, gk_st, gk_s0, gk_ln, List.append_assoc, y_put, y_get, y_alen, y_aast, G2, G0, Nat.add_assoc, nbed, e1, e2, e3, e4, e5, e6, i1, i2, i3, i4, c0, c1, c2, c3, c4, v0, v1, v2, v3, t0, t1, t2, t3]
  rw [w41_47]
  simp only [w41_0, w41_0n, w41_1, w41_4, w41_4n, w41_5, w41_8, w41_8r, w41_9, w41_12, w41_15, w41_15n, w41_16, w41_19, w41_19r, w41_20, w41_23, w41_26, w41_26n, w41_27, w41_30, w41_30r, w41_31, w41_34, w41_37, w41_37n, w41_38, w41_39, w41_42, w41_45, w41_46, w41_48, w41_48n, w41_49, w41_52, w41_53, w41_56, w41_56n, w41_57, w41_60, w41_61, w41_64, w41_64r, w41_65, w41_68, w41_68n, w41_69, w41_72, w41_75, w26_0, w26_0n, w26_1, w26_4, w26_4n, w26_5, w26_7, w26_9, w26_12, w26_12n, w26_13, w26_15, w26_18, w157_0, w157_0n, w157_1, w157_4, w157_4n, w157_5, w157_8, w157_11, w156_0, w156_0n, w156_1, w156_4, w156_4n, w156_5, w156_6, w156_9, w155_0, w155_0n, w155_1, w155_4, xk_n, xk_i, xk_r, xk_z, xk_l, xcs_0, xcs_i, xcs_r, xcs_z, xcs_l, Nat.reduceAdd, Nat.reduceLeDiff, Nat.reduceLT, true_and, and_true, Option.toList_some, Option.toList_none, List.nil_append, List.cons_append, List.getElem?_cons_zero, List.getElem?_cons_succ, List.set_cons_zero, List.set_cons_succ, List.length_cons, List.length_nil, y_bool0, y_bool1, not_true_eq_false, not_false_eq_true, false_implies, true_implies, true_or, or_true, false_or, or_false, if_true, if_false, ite_true, ite_false, gk_at, gk_a0, gk_st, gk_s0, gk_ln, List.append_assoc, y_put, y_get, y_alen, y_aast, G2, G0, Nat.add_assoc, nbed, e1, e2, e3, e4, e5, e6, i1, i2, i3, i4, c0, c1, c2, c3, c4, v0, v1, v2, v3, t0, t1, t2, t3]
  rw [w41_47]
  simp only [w41_0, w41_0n, w41_1, w41_4, w41_4n, w41_5, w41_8, w41_8r, w41_9, w41_12, w41_15, w41_15n, w41_16, w41_19, w41_19r, w41_20, w41_23, w41_26, w41_26n, w41_27, w41_30, w41_30r, w41_31, w41_34, w41_37, w41_37n, w41_38, w41_39, w41_42, w41_45, w41_46, w41_48, w41_48n, w41_49, w41_52, w41_53, w41_56, w41_56n, w41_57, w41_60, w41_61, w41_64, w41_64r, w41_65, w41_68, w41_68n, w41_69, w41_72, w41_75, w26_0, w26_0n, w26_1, w26_4, w26_4n, w26_5, w26_7, w26_9, w26_12, w26_12n, w26_13, w26_15, w26_18, w157_0, w157_0n, w157_1, w157_4, w157_4n, w157_5, w157_8, w157_11, w156_0, w156_0n, w156_1, w156_4, w156_4n, w156_5, w156_6, w156_9, w155_0, w155_0n, w155_1, w155_4, xk_n, xk_i, xk_r, xk_z, xk_l, xcs_0, xcs_i, xcs_r, xcs_z, xcs_l, Nat.reduceAdd, Nat.reduceLeDiff, Nat.reduceLT, true_and, and_true, Option.toList_some, Option.toList_none, List.nil_append, List.cons_append, List.getElem?_cons_zero, List.getElem?_cons_succ, List.set_cons_zero, List.set_cons_succ, List.length_cons, List.length_nil, y_bool0, y_bool1, not_true_eq_false, not_false_eq_true, false_implies, true_implies, true_or, or_true, false_or, or_false, if_true, if_false, ite_true, ite_false, gk_at, gk_a0, gk_st, gk_s0, gk_ln, List.append_assoc, y_put, y_get, y_alen, y_aast, G2, G0, Nat.add_assoc, nbed, e1, e2, e3, e4, e5, e6, i1, i2, i3, i4, c0, c1, c2, c3, c4, v0, v1, v2, v3, t0, t1, t2, t3]
  rw [w41_47]
  simp only [w41_0, w41_0n, w41_1, w41_4, w41_4n, w41_5, w41_8, w41_8r, w41_9, w41_12, w41_15, w41_15n, w41_16, w41_19, w41_19r, w41_20, w41_23, w41_26, w41_26n, w41_27, w41_30, w41_30r, w41_31, w41_34, w41_37, w41_37n, w41_38, w41_39, w41_42, w41_45, w41_46, w41_48, w41_48n, w41_49, w41_52, w41_53, w41_56, w41_56n, w41_57, w41_60, w41_61, w41_64, w41_64r, w41_65, w41_68, w41_68n, w41_69, w41_72, w41_75, w26_0, w26_0n, w26_1, w26_4, w26_4n, w26_5, w26_7, w26_9, w26_12, w26_12n, w26_13, w26_15, w26_18, w157_0, w157_0n, w157_1, w157_4, w157_4n, w157_5, w157_8, w157_11, w156_0, w156_0n, w156_1, w156_4, w156_4n, w156_5, w156_6, w156_9, w155_0, w155_0n, w155_1, w155_4, xk_n, xk_i, xk_r, xk_z, xk_l, xcs_0, xcs_i, xcs_r, xcs_z, xcs_l, Nat.reduceAdd, Nat.reduceLeDiff, Nat.reduceLT, true_and, and_true, Option.toList_some, Option.toList_none, List.nil_append, List.cons_append, List.getElem?_cons_zero, List.getElem?_cons_succ, List.set_cons_zero, List.set_cons_succ, List.length_cons, List.length_nil, y_bool0, y_bool1, not_true_eq_false, not_false_eq_true, false_implies, true_implies, true_or, or_true, false_or, or_false, if_true, if_false, ite_true, ite_false, gk_at, gk_a0, gk_st, gk_s0, gk_ln, List.append_assoc, y_put, y_get, y_alen, y_aast, G2, G0, Nat.add_assoc, nbed, e1, e2, e3, e4, e5, e6, i1, i2, i3, i4, c0, c1, c2, c3, c4, v0, v1, v2, v3, t0, t1, t2, t3]
  rw [w41_47]
  simp only [w41_0, w41_0n, w41_1, w41_4, w41_4n, w41_5, w41_8, w41_8r, w41_9, w41_12, w41_15, w41_15n, w41_16, w41_19, w41_19r, w41_20, w41_23, w41_26, w41_26n, w41_27, w41_30, w41_30r, w41_31, w41_34, w41_37, w41_37n, w41_38, w41_39, w41_42, w41_45, w41_46, w41_48, w41_48n, w41_49, w41_52, w41_53, w41_56, w41_56n, w41_57, w41_60, w41_61, w41_64, w41_64r, w41_65, w41_68, w41_68n, w41_69, w41_72, w41_75, w26_0, w26_0n, w26_1, w26_4, w26_4n, w26_5, w26_7, w26_9, w26_12, w26_12n, w26_13, w26_15, w26_18, w157_0, w157_0n, w157_1, w157_4, w157_4n, w157_5, w157_8, w157_11, w156_0, w156_0n, w156_1, w156_4, w156_4n, w156_5, w156_6, w156_9, w155_0, w155_0n, w155_1, w155_4, xk_n, xk_i, xk_r, xk_z, xk_l, xcs_0, xcs_i, xcs_r, xcs_z, xcs_l, Nat.reduceAdd, Nat.reduceLeDiff, Nat.reduceLT, true_and, and_true, Option.toList_some, Option.toList_none, List.nil_append, List.cons_append, List.getElem?_cons_zero, List.getElem?_cons_succ, List.set_cons_zero, List.set_cons_succ, List.length_cons, List.length_nil, y_bool0, y_bool1, not_true_eq_false, not_false_eq_true, false_implies, true_implies, true_or, or_true, false_or, or_false, if_true, if_false, ite_true, ite_false, gk_at, gk_a0, gk_st, gk_s0, gk_ln, List.append_assoc, y_put, y_get, y_alen, y_aast, G2, G0, Nat.add_assoc, nbed, e1, e2, e3, e4, e5, e6, i1, i2, i3, i4, c0, c1, c2, c3, c4, v0, v1, v2, v3, t0, t1, t2, t3]
  rw [w41_47]
  simp only [w41_0, w41_0n, w41_1, w41_4, w41_4n, w41_5, w41_8, w41_8r, w41_9, w41_12, w41_15, w41_15n, w41_16, w41_19, w41_19r, w41_20, w41_23, w41_26, w41_26n, w41_27, w41_30, w41_30r, w41_31, w41_34, w41_37, w41_37n, w41_38, w41_39, w41_42, w41_45, w41_46, w41_48, w41_48n, w41_49, w41_52, w41_53, w41_56, w41_56n, w41_57, w41_60, w41_61, w41_64, w41_64r, w41_65, w41_68, w41_68n, w41_69, w41_72, w41_75, w26_0, w26_0n, w26_1, w26_4, w26_4n, w26_5, w26_7, w26_9, w26_12, w26_12n, w26_13, w26_15, w26_18, w157_0, w157_0n, w157_1, w157_4, w157_4n, w157_5, w157_8, w157_11, w156_0, w156_0n, w156_1, w156_4, w156_4n, w156_5, w156_6, w156_9, w155_0, w155_0n, w155_1, w155_4, xk_n, xk_i, xk_r, xk_z, xk_l, xcs_0, xcs_i, xcs_r, xcs_z, xcs_l, Nat.reduceAdd, Nat.reduceLeDiff, Nat.reduceLT, true_and, and_true, Option.toList_some, Option.toList_none, List.nil_append, List.cons_append, List.getElem?_cons_zero, List.getElem?_cons_succ, List.set_cons_zero, List.set_cons_succ, List.length_cons, List.length_nil, y_bool0, y_bool1, not_true_eq_false, not_false_eq_true, false_implies, true_implies, true_or, or_true, false_or, or_false, if_true, if_false, ite_true, ite_false, gk_at, gk_a0, gk_st, gk_s0, gk_ln, List.append_assoc, y_put, y_get, y_alen, y_aast, G2, G0, Nat.add_assoc, nbed, e1, e2, e3, e4, e5, e6, i1, i2, i3, i4, c0, c1, c2, c3, c4, v0, v1, v2, v3, t0, t1, t2, t3]
  exact hK
end
