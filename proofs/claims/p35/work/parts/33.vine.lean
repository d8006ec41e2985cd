/-! ===== the program: a vine ===== -/
/-- a vine's cell: how it was planted, and the rest -/
abbrev vcell (p k hd : Nat) (X : List Value) : xC := .inr (6, .int (Int32.ofNat p) :: .int (Int32.ofNat k) :: .int (Int32.ofNat hd) :: X)
/-- how far it is -/
def vsX (x : Vs) : List Value := [.int (Int32.ofNat (vt x)), .int (Int32.ofNat (vh x)), .int (Int32.ofNat (vd x)), .int (oM (vo x)), .int (oM (vx x)), .long (Int64.ofNat (vl x)), .long (Int64.ofNat (vc x))]
theorem len7 {X : List Value} (h : X.length = 7) : ∃ a b c d e f g, X = [a, b, c, d, e, f, g] := by
  match X, h with
  | [a, b, c, d, e, f, g], _ => exact ⟨a, b, c, d, e, f, g, rfl⟩
theorem wp_vrestart {d : Nat} {h : xH} {K : Option Value → xH → Prop} {a p k hd : Nat} {X : List Value} (ha : h[a]? = some (vcell p k hd X)) (hX : X.length = 7) (h2 : 2 ≤ a) (hp : p < 30) : wp d 36 0 [some (.ref a)] [] h K ↔ K none (h.set a (vcell p k hd (vsX (p, hd, 0, 2 ^ p, 0, none, none)))) := by
  obtain ⟨x1, x2, x3, x4, x5, x6, x7, rfl⟩ := len7 hX
  have hal := h_lt ha
  have z1 : (1 : Int64) <<< ((Int32.ofNat p).toInt64 &&& 63) = Int64.ofNat (2 ^ p) := by
    have h1 : 2 ^ p ≤ 2 ^ 30 := Nat.pow_le_pow_right (by omega) (by omega)
    have := l_shl (L := 1) (c := p) (by rw [Nat.one_mul]; omega) (by omega)
    rw [Nat.one_mul] at this
    exact this
  simp only [w36_0, w36_0n, w36_1, w36_1n, w36_2, w36_5, w36_8, w36_8n, w36_9, w36_9n, w36_10, w36_13, w36_16, w36_16n, w36_17, w36_18, w36_21, w36_21n, w36_22, w36_23, w36_26, w36_26n, w36_27, w36_28, w36_31, w36_31n, w36_32, w36_33, w36_33n, w36_34, w36_37, w36_38, w36_41, w36_41n, w36_42, w36_43, w36_46, xk_n, xk_i, xk_r, xk_z, xk_l, xcs_0, xcs_i, xcs_r, xcs_z, xcs_l, Nat.reduceAdd, Nat.reduceLeDiff, Nat.reduceLT, true_and, and_true, Option.toList_some, Option.toList_none, List.nil_append, List.cons_append, List.getElem?_cons_zero, List.getElem?_cons_succ, List.set_cons_zero, List.set_cons_succ, List.length_cons, List.length_nil, y_bool0, y_bool1, not_true_eq_false, not_false_eq_true, false_implies, true_implies, true_or, or_true, false_or, or_false, if_true, if_false, ite_true, ite_false, y_get, y_put, ha, h2, List.getElem?_set, List.length_set, hal, set_set, z1]
  exact Iff.rfl
theorem wp_isGrowing {d : Nat} {h : xH} {K : Option Value → xH → Prop} {a p k hd : Nat} {x : Vs} (ha : h[a]? = some (vcell p k hd (vsX x))) (h2 : 2 ≤ a) (ho : ∀ m, vo x = some m → m < 1000) (hx : ∀ m, vx x = some m → m < 1000) : wp d 37 0 [some (.ref a)] [] h K ↔ K (some (.int (bi ((vo x).isNone && (vx x).isNone)))) h := by
  obtain ⟨t, hh, db, L, cm, o, x⟩ := x
  have key : ∀ o : Option Nat, (∀ m, o = some m → m < 1000) → (oM o = -1) = (o.isNone = true) := by
    intro o ho
    cases o with
    | none => exact propext ⟨fun _ => rfl, fun _ => rfl⟩
    | some m => exact propext ⟨fun z => (n_ne1 (by have := ho m rfl; omega) z).elim, fun z => by cases z⟩
  have k1 := key o ho
  have k2 := key x hx
  simp only [w37_0, w37_0n, w37_1, w37_4, w37_5, w37_8, w37_8n, w37_9, w37_12, w37_13, w37_16, w37_17, w37_20, w37_21, xk_n, xk_i, xk_r, xk_z, xk_l, xcs_0, xcs_i, xcs_r, xcs_z, xcs_l, Nat.reduceAdd, Nat.reduceLeDiff, Nat.reduceLT, true_and, and_true, Option.toList_some, Option.toList_none, List.nil_append, List.cons_append, List.getElem?_cons_zero, List.getElem?_cons_succ, List.set_cons_zero, List.set_cons_succ, List.length_cons, List.length_nil, y_bool0, y_bool1, not_true_eq_false, not_false_eq_true, false_implies, true_implies, true_or, or_true, false_or, or_false, if_true, if_false, ite_true, ite_false, y_get, ha, vsX, k1, k2]
  cases o <;> cases x <;> simp [bi, y_bool0, y_bool1]
theorem wp_goOn {d : Nat} {h : xH} {K : Option Value → xH → Prop} {a p k hd dd c : Nat} {x : Vs} (ha : h[a]? = some (vcell p k hd (vsX x))) (h2 : 2 ≤ a) (hd4 : dd < 4) (hc : c < 30) (hL : vl x < 1073741824) (hC : vc x < 1152921504606846976) : wp d 38 0 [some (.ref a), some (.int (Int32.ofNat dd)), some (.int (Int32.ofNat c))] [] h K ↔ K none (h.set a (vcell p k hd (vsX (c, dd, vd x, vl x ||| 2 ^ c, vc x ||| dd * 4 ^ c, vo x, vx x)))) := by
  obtain ⟨t, hh, db, L, cm, o, x⟩ := x
  have hal := h_lt ha
  have p1 : 2 ^ c ≤ 2 ^ 29 := Nat.pow_le_pow_right (by omega) (by omega)
  have p2 : 2 ^ (2 * c) ≤ 2 ^ 58 := Nat.pow_le_pow_right (by omega) (by omega)
  have p3 : (4 : Nat) ^ c = 2 ^ (2 * c) := by rw [Nat.pow_mul]
  have p4 : dd * 2 ^ (2 * c) ≤ 3 * 2 ^ 58 := Nat.mul_le_mul (by omega) p2
  have z1 : (1 : Int64) <<< ((Int32.ofNat c).toInt64 &&& 63) = Int64.ofNat (2 ^ c) := by
    have := l_shl (L := 1) (c := c) (by rw [Nat.one_mul]; omega) (by omega)
    rw [Nat.one_mul] at this
    exact this
  have z2 : Int64.ofNat L ||| Int64.ofNat (2 ^ c) = Int64.ofNat (L ||| 2 ^ c) := l_or (by have : L < 1073741824 := hL; omega) (by omega)
  have z3 : (2 : Int32) * Int32.ofNat c = Int32.ofNat (2 * c) := n_lmul c 2
  have z4 : (Int32.ofNat dd).toInt64 = Int64.ofNat dd := i2l_n (by omega)
  have z5 : Int64.ofNat dd <<< ((Int32.ofNat (2 * c)).toInt64 &&& 63) = Int64.ofNat (dd * 4 ^ c) := by rw [p3]; exact l_shl (by omega) (by omega)
  have z6 : Int64.ofNat cm ||| Int64.ofNat (dd * 4 ^ c) = Int64.ofNat (cm ||| dd * 4 ^ c) := l_or (by have : cm < 1152921504606846976 := hC; omega) (by rw [p3]; omega)
  simp only [w38_0, w38_0n, w38_1, w38_2, w38_5, w38_5n, w38_6, w38_7, w38_10, w38_10n, w38_11, w38_11r, w38_12, w38_15, w38_16, w38_17, w38_18, w38_19, w38_22, w38_22n, w38_23, w38_23r, w38_24, w38_27, w38_28, w38_29, w38_30, w38_31, w38_32, w38_33, w38_34, w38_37, xk_n, xk_i, xk_r, xk_z, xk_l, xcs_0, xcs_i, xcs_r, xcs_z, xcs_l, Nat.reduceAdd, Nat.reduceLeDiff, Nat.reduceLT, true_and, and_true, Option.toList_some, Option.toList_none, List.nil_append, List.cons_append, List.getElem?_cons_zero, List.getElem?_cons_succ, List.set_cons_zero, List.set_cons_succ, List.length_cons, List.length_nil, y_bool0, y_bool1, not_true_eq_false, not_false_eq_true, false_implies, true_implies, true_or, or_true, false_or, or_false, if_true, if_false, ite_true, ite_false, y_get, y_put, ha, h2, List.getElem?_set, List.length_set, hal, set_set, vsX, z1, z2, z3, z4, z5, z6]
theorem wp_wayBack {d : Nat} {h : xH} {K : Option Value → xH → Prop} {a p k hd : Nat} {x : Vs} (ha : h[a]? = some (vcell p k hd (vsX x))) (h2 : 2 ≤ a) (ht : vt x < 30) (hC : vc x < 1152921504606846976) : wp d 39 0 [some (.ref a)] [] h K ↔ K (some (.int (Int32.ofNat ((vc x / 4 ^ vt x + 2) % 4)))) h := by
  obtain ⟨t, hh, db, L, cm, o, x⟩ := x
  replace ht : t < 30 := ht
  have p3 : (4 : Nat) ^ t = 2 ^ (2 * t) := by rw [Nat.pow_mul]
  have z3 : (2 : Int32) * Int32.ofNat t = Int32.ofNat (2 * t) := n_lmul t 2
  have z4 : Int64.ofNat cm >>> ((Int32.ofNat (2 * t)).toInt64 &&& 63) = Int64.ofNat (cm / 4 ^ t) := by rw [p3]; exact l_shr (by have : cm < 1152921504606846976 := hC; omega) (by omega)
  have z5 : Int32.ofNat (cm / 4 ^ t) + 2 = Int32.ofNat (cm / 4 ^ t + 2) := n_addl _ 2
  simp only [w39_0, w39_0n, w39_1, w39_4, w39_5, w39_5n, w39_6, w39_9, w39_10, w39_11, w39_12, w39_13, w39_14, w39_15, w39_16, xk_n, xk_i, xk_r, xk_z, xk_l, xcs_0, xcs_i, xcs_r, xcs_z, xcs_l, Nat.reduceAdd, Nat.reduceLeDiff, Nat.reduceLT, true_and, and_true, Option.toList_some, Option.toList_none, List.nil_append, List.cons_append, List.getElem?_cons_zero, List.getElem?_cons_succ, List.set_cons_zero, List.set_cons_succ, List.length_cons, List.length_nil, y_bool0, y_bool1, not_true_eq_false, not_false_eq_true, false_implies, true_implies, true_or, or_true, false_or, or_false, if_true, if_false, ite_true, ite_false, y_get, ha, vsX, z3, z4, l2i_n, z5, i_and3m]
theorem wp_doubleBack {d : Nat} {h : xH} {K : Option Value → xH → Prop} {a p k hd dd c : Nat} {x : Vs} (ha : h[a]? = some (vcell p k hd (vsX x))) (h2 : 2 ≤ a) : wp d 40 0 [some (.ref a), some (.int (Int32.ofNat dd)), some (.int (Int32.ofNat c))] [] h K ↔ K none (h.set a (vcell p k hd (vsX (c, dd, vd x + 1, vl x, vc x, vo x, vx x)))) := by
  obtain ⟨t, hh, db, L, cm, o, x⟩ := x
  have hal := h_lt ha
  have z5 : Int32.ofNat db + 1 = Int32.ofNat (db + 1) := n_addl _ 1
  simp only [w40_0, w40_0n, w40_1, w40_2, w40_5, w40_5n, w40_6, w40_7, w40_10, w40_10n, w40_11, w40_11r, w40_12, w40_15, w40_16, w40_17, w40_20, xk_n, xk_i, xk_r, xk_z, xk_l, xcs_0, xcs_i, xcs_r, xcs_z, xcs_l, Nat.reduceAdd, Nat.reduceLeDiff, Nat.reduceLT, true_and, and_true, Option.toList_some, Option.toList_none, List.nil_append, List.cons_append, List.getElem?_cons_zero, List.getElem?_cons_succ, List.set_cons_zero, List.set_cons_succ, List.length_cons, List.length_nil, y_bool0, y_bool1, not_true_eq_false, not_false_eq_true, false_implies, true_implies, true_or, or_true, false_or, or_false, if_true, if_false, ite_true, ite_false, y_get, y_put, ha, h2, List.getElem?_set, List.length_set, hal, set_set, vsX, z5]
