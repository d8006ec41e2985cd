/-! ===== the program: the shortest way, by rings ===== -/
def spI (E : Gd) (c : Nat) (N d : Nat) : Nat := match bes (gw E) (gn E) c d with
  | some x => if gs E x = 1 then N else N ||| 2 ^ x
  | none => N
def spD (E : Gd) (c : Nat) : Nat → Nat → Nat → Nat
  | 0, _, N => N
  | j + 1, d, N => spD E c j (d + 1) (spI E c N d)
def spC (E : Gd) (R c N : Nat) : Nat := if R.testBit c = true then spD E c 4 0 N else N
def spO (E : Gd) (R : Nat) : Nat → Nat → Nat → Nat
  | 0, _, N => N
  | j + 1, c, N => spO E R j (c + 1) (spC E R c N)
def rg (E : Gd) (s : Nat) : Nat → Nat
  | 0 => 2 ^ s
  | k + 1 => spO E (rg E s k) (gn E) 0 (rg E s k)
def hit (E : Gd) (s R : Nat) : Nat → Nat → Bool
  | 0, _ => false
  | j + 1, c => (c != s && R.testBit c && gs E c == 3) || hit E s R j (c + 1)
def stO (E : Gd) (s : Nat) : Nat → Nat → Option Nat
  | 0, _ => none
  | j + 1, k => if hit E s (rg E s k) (gn E) 0 then some k else stO E s j (k + 1)
theorem or_b30 {A x : Nat} (hA : A < 1073741824) (hx : x < 30) : A ||| 2 ^ x < 1073741824 := Nat.or_lt_two_pow (n := 30) hA (Nat.pow_lt_pow_right (by omega) hx)
theorem spI_b {E : Gd} {c N d : Nat} (hw : okW (gw E) (gn E)) (hc : c < gn E) (hN : N < 1073741824) : spI E c N d < 1073741824 := by
  unfold spI
  split
  · rename_i x hx
    have := bes_lt hw hc hx
    have := hw.2.2.1
    split
    · exact hN
    · exact or_b30 hN (by omega)
  · exact hN
theorem spD_b {E : Gd} {c : Nat} (hw : okW (gw E) (gn E)) (hc : c < gn E) : ∀ {j d N : Nat}, N < 1073741824 → spD E c j d N < 1073741824
  | 0, _, _, h => h
  | j + 1, d, N, h => spD_b hw hc (j := j) (spI_b hw hc h)
theorem spO_b {E : Gd} {R : Nat} (hw : okW (gw E) (gn E)) : ∀ {j c N : Nat}, c + j = gn E → N < 1073741824 → spO E R j c N < 1073741824
  | 0, _, _, _, h => h
  | j + 1, c, N, hc, h => spO_b hw (j := j) (by omega) (by unfold spC; split; exact spD_b hw (by omega) h; exact h)
theorem rg_b {E : Gd} {s : Nat} (hw : okW (gw E) (gn E)) (hs : s < gn E) : ∀ k, rg E s k < 1073741824
  | 0 => Nat.pow_lt_pow_right (n := 30) (by omega) (by have := hw.2.2.1; omega)
  | k + 1 => spO_b hw (by omega) (rg_b hw hs k)
section
variable {d : Nat} {h : xH} {K : Option Value → xH → Prop} {a : Nat} {E : Gd}
theorem l_bit {R c : Nat} (hR : R < 1073741824) (hc : c < 30) : (lg_cmp (Int64.ofNat R >>> ((Int32.ofNat c).toInt64 &&& 63) &&& 1) 1 = 0) = (R.testBit c = true) := by
  rw [l_shr (by omega) (by omega), l_and1 (by have := Nat.div_le_self R (2 ^ c); omega), l_tst]
  have h2 : R / 2 ^ c % 2 < 2 := Nat.mod_lt _ (by omega)
  have : R / 2 ^ c % 2 = 0 ∨ R / 2 ^ c % 2 = 1 := by omega
  rcases this with e | e <;> rw [e] <;> decide
theorem l_orx {N x : Nat} (hN : N < 1073741824) (hx : x < 30) : Int64.ofNat N ||| (1 : Int64) <<< ((Int32.ofNat x).toInt64 &&& 63) = Int64.ofNat (N ||| 2 ^ x) := by
  have p1 : 2 ^ x < 1073741824 := Nat.pow_lt_pow_right (n := 30) (by omega) hx
  have := l_shl (L := 1) (c := x) (by rw [Nat.one_mul]; omega) (by omega)
  rw [Nat.one_mul] at this
  have e : (1 : Int64) = Int64.ofNat 1 := rfl
  rw [e, this, l_or (by omega) (by omega)]
theorem wp_spD {R c : Nat} (hP : PL h a (gw E) (gn E) (gs E)) (hw : okW (gw E) (gn E)) (hc : c < gn E) (hR : R < 1073741824) (hb : R.testBit c = true) : ∀ (j dd N : Nat) (l7 : Option Value), dd + j = 4 → N < 1073741824 → (∀ l6 l7, wp (d + 1) 24 5 [some (.ref a), some (.long (Int64.ofNat R)), none, some (.long (Int64.ofNat (spD E c j dd N))), none, some (.int (Int32.ofNat (c + 1))), l6, l7] [] h K) → wp (d + 1) 24 17 [some (.ref a), some (.long (Int64.ofNat R)), none, some (.long (Int64.ofNat N)), none, some (.int (Int32.ofNat c)), some (.int (Int32.ofNat dd)), l7] [] h K
  | 0, dd, N, l7, hd, hN, hK => by
    have z6 : 4 ≤ Int32.ofNat dd := (n_lle (m := 4) (by omega) (by omega)).mpr (by omega)
    have hn := hw.2.2.1
    have z8 : Int32.ofNat c + 1 = Int32.ofNat (c + 1) := n_addl c 1
    rw [w24_17]
    simp only [w24_0, w24_1, w24_2, w24_3, w24_7, w24_7n, w24_8, w24_11, w24_14, w24_15, w24_19, w24_20, w24_23, w24_24, w24_26, w24_27, w24_28, w24_29, w24_30, w24_31, w24_34, w24_34n, w24_35, w24_37, w24_39, w24_42, w24_44, w24_44n, w24_45, w24_47, w24_50, w24_51, w24_54, w24_55, w24_56, w24_58, w24_59, w24_60, w24_61, w24_64, w24_67, w24_70, w24_73, w24_74, xk_n, xk_i, xk_r, xk_z, xk_l, xcs_0, xcs_i, xcs_r, xcs_z, xcs_l, Nat.reduceAdd, Nat.reduceLeDiff, Nat.reduceLT, true_and, and_true, Option.toList_some, Option.toList_none, List.nil_append, List.cons_append, List.getElem?_cons_zero, List.getElem?_cons_succ, List.set_cons_zero, List.set_cons_succ, List.length_cons, List.length_nil, y_bool0, y_bool1, not_true_eq_false, not_false_eq_true, false_implies, true_implies, true_or, or_true, false_or, or_false, if_true, if_false, ite_true, ite_false, z6, z8]
    exact hK _ _
  | j + 1, dd, N, l7, hd, hN, hK => by
    have hn := hw.2.2.1
    have hd4 : dd < 4 := by omega
    have z6 : (4 ≤ Int32.ofNat dd) = False := eq_false (by have := n_lle (m := 4) (a := dd) (by omega) (by omega); rw [this]; omega)
    have z8 : Int32.ofNat dd + 1 = Int32.ofNat (dd + 1) := n_addl dd 1
    have hbit := (l_bit hR (show c < 30 by omega)).trans (eq_true hb)
    have hbI := bes_I hw hc hd4
    rw [w24_17]
    rcases hbI with ⟨y, y1, y2, y3⟩ | ⟨y1, y2⟩
    · have hs4 : gs E y < 4 := by
        obtain ⟨a1, a2, a0, f, a3, a4, a5⟩ := hP
        exact (a5 y y2).2
      have z3 : (Int32.ofNat (gs E y) = 1) = (gs E y = 1) := propext (n_eql (m := 1) (by omega) (by omega))
      have e1 : spI E c N dd = if gs E y = 1 then N else N ||| 2 ^ y := by unfold spI; rw [y1]
      simp only [w24_0, w24_1, w24_2, w24_3, w24_7, w24_7n, w24_8, w24_11, w24_14, w24_15, w24_19, w24_20, w24_23, w24_24, w24_26, w24_27, w24_28, w24_29, w24_30, w24_31, w24_34, w24_34n, w24_35, w24_37, w24_39, w24_42, w24_44, w24_44n, w24_45, w24_47, w24_50, w24_51, w24_54, w24_55, w24_56, w24_58, w24_59, w24_60, w24_61, w24_64, w24_67, w24_70, w24_73, w24_74, xk_n, xk_i, xk_r, xk_z, xk_l, xcs_0, xcs_i, xcs_r, xcs_z, xcs_l, Nat.reduceAdd, Nat.reduceLeDiff, Nat.reduceLT, true_and, and_true, Option.toList_some, Option.toList_none, List.nil_append, List.cons_append, List.getElem?_cons_zero, List.getElem?_cons_succ, List.set_cons_zero, List.set_cons_succ, List.length_cons, List.length_nil, y_bool0, y_bool1, not_true_eq_false, not_false_eq_true, false_implies, true_implies, true_or, or_true, false_or, or_false, if_true, if_false, ite_true, ite_false, z6, z8, hbit, hP.cls, wp_beside hP hw hc hd4, y3, wp_signOf (o := some y) hP (Or.inl ⟨y, rfl, y2, rfl⟩), sgO_s, z3, l_orx hN (show y < 30 by omega)]
      by_cases c1 : gs E y = 1
      · rw [if_pos c1] at e1
        refine ⟨fun _ => ?_, fun z => absurd c1 z⟩
        exact wp_spD hP hw hc hR hb j (dd + 1) N _ (by omega) hN (by rw [← e1]; exact hK)
      · rw [if_neg c1] at e1
        refine ⟨fun z => absurd z c1, fun _ => ?_⟩
        exact wp_spD hP hw hc hR hb j (dd + 1) _ _ (by omega) (or_b30 hN (by omega)) (by rw [← e1]; exact hK)
    · have e1 : spI E c N dd = N := by unfold spI; rw [y1]
      have z3 : Int32.ofNat 1 = 1 := rfl
      have z4 : sgO (gs E) none = 1 := rfl
      simp only [w24_0, w24_1, w24_2, w24_3, w24_7, w24_7n, w24_8, w24_11, w24_14, w24_15, w24_19, w24_20, w24_23, w24_24, w24_26, w24_27, w24_28, w24_29, w24_30, w24_31, w24_34, w24_34n, w24_35, w24_37, w24_39, w24_42, w24_44, w24_44n, w24_45, w24_47, w24_50, w24_51, w24_54, w24_55, w24_56, w24_58, w24_59, w24_60, w24_61, w24_64, w24_67, w24_70, w24_73, w24_74, xk_n, xk_i, xk_r, xk_z, xk_l, xcs_0, xcs_i, xcs_r, xcs_z, xcs_l, Nat.reduceAdd, Nat.reduceLeDiff, Nat.reduceLT, true_and, and_true, Option.toList_some, Option.toList_none, List.nil_append, List.cons_append, List.getElem?_cons_zero, List.getElem?_cons_succ, List.set_cons_zero, List.set_cons_succ, List.length_cons, List.length_nil, y_bool0, y_bool1, not_true_eq_false, not_false_eq_true, false_implies, true_implies, true_or, or_true, false_or, or_false, if_true, if_false, ite_true, ite_false, z6, z8, hbit, hP.cls, wp_beside hP hw hc hd4, wp_signOf (o := none) hP (Or.inr ⟨rfl, y2⟩), z3, z4]
      exact wp_spD hP hw hc hR hb j (dd + 1) N _ (by omega) hN (by rw [← e1]; exact hK)
theorem wp_spO {R : Nat} (hP : PL h a (gw E) (gn E) (gs E)) (hw : okW (gw E) (gn E)) (hR : R < 1073741824) : ∀ (j c N : Nat) (l6 l7 : Option Value), c + j = gn E → N < 1073741824 → K (some (.long (Int64.ofNat (spO E R j c N)))) h → wp (d + 1) 24 5 [some (.ref a), some (.long (Int64.ofNat R)), none, some (.long (Int64.ofNat N)), none, some (.int (Int32.ofNat c)), l6, l7] [] h K
  | 0, c, N, l6, l7, hc, hN, hK => by
    have hn := hw.2.2.1
    have z6 : Int32.ofNat (gn E) ≤ Int32.ofNat c := (n_le (by omega) (by omega)).mpr (by omega)
    rw [w24_5]
    simp only [w24_0, w24_1, w24_2, w24_3, w24_7, w24_7n, w24_8, w24_11, w24_14, w24_15, w24_19, w24_20, w24_23, w24_24, w24_26, w24_27, w24_28, w24_29, w24_30, w24_31, w24_34, w24_34n, w24_35, w24_37, w24_39, w24_42, w24_44, w24_44n, w24_45, w24_47, w24_50, w24_51, w24_54, w24_55, w24_56, w24_58, w24_59, w24_60, w24_61, w24_64, w24_67, w24_70, w24_73, w24_74, xk_n, xk_i, xk_r, xk_z, xk_l, xcs_0, xcs_i, xcs_r, xcs_z, xcs_l, Nat.reduceAdd, Nat.reduceLeDiff, Nat.reduceLT, true_and, and_true, Option.toList_some, Option.toList_none, List.nil_append, List.cons_append, List.getElem?_cons_zero, List.getElem?_cons_succ, List.set_cons_zero, List.set_cons_succ, List.length_cons, List.length_nil, y_bool0, y_bool1, not_true_eq_false, not_false_eq_true, false_implies, true_implies, true_or, or_true, false_or, or_false, if_true, if_false, ite_true, ite_false, y_get, hP.1, z6]
    exact hK
  | j + 1, c, N, l6, l7, hc, hN, hK => by
    have hn := hw.2.2.1
    have hcn : c < gn E := by omega
    have z6 : (Int32.ofNat (gn E) ≤ Int32.ofNat c) = False := eq_false (by rw [n_le (by omega) (by omega)]; omega)
    have z8 : Int32.ofNat c + 1 = Int32.ofNat (c + 1) := n_addl c 1
    have z0 : (0 : Int32) = Int32.ofNat 0 := rfl
    rw [w24_5]
    simp only [w24_0, w24_1, w24_2, w24_3, w24_7, w24_7n, w24_8, w24_11, w24_14, w24_15, w24_19, w24_20, w24_23, w24_24, w24_26, w24_27, w24_28, w24_29, w24_30, w24_31, w24_34, w24_34n, w24_35, w24_37, w24_39, w24_42, w24_44, w24_44n, w24_45, w24_47, w24_50, w24_51, w24_54, w24_55, w24_56, w24_58, w24_59, w24_60, w24_61, w24_64, w24_67, w24_70, w24_73, w24_74, xk_n, xk_i, xk_r, xk_z, xk_l, xcs_0, xcs_i, xcs_r, xcs_z, xcs_l, Nat.reduceAdd, Nat.reduceLeDiff, Nat.reduceLT, true_and, and_true, Option.toList_some, Option.toList_none, List.nil_append, List.cons_append, List.getElem?_cons_zero, List.getElem?_cons_succ, List.set_cons_zero, List.set_cons_succ, List.length_cons, List.length_nil, y_bool0, y_bool1, not_true_eq_false, not_false_eq_true, false_implies, true_implies, true_or, or_true, false_or, or_false, if_true, if_false, ite_true, ite_false, y_get, hP.1, z6, z0]
    by_cases q : R.testBit c = true
    · refine wp_spD hP hw hcn hR q 4 0 N _ (by omega) hN fun m6 m7 => ?_
      refine wp_spO hP hw hR j (c + 1) _ _ _ (by omega) (spD_b hw hcn hN) ?_
      have e1 : spO E R (j + 1) c N = spO E R j (c + 1) (spD E c 4 0 N) := by
        show spO E R j (c + 1) (spC E R c N) = _
        unfold spC; rw [if_pos q]
      rw [← e1]; exact hK
    · have hbit := (l_bit hR (show c < 30 by omega)).trans (eq_false q)
      have z7 : (4 ≤ Int32.ofNat 0) = False := eq_false (by decide)
      rw [w24_17]
      simp only [w24_0, w24_1, w24_2, w24_3, w24_7, w24_7n, w24_8, w24_11, w24_14, w24_15, w24_19, w24_20, w24_23, w24_24, w24_26, w24_27, w24_28, w24_29, w24_30, w24_31, w24_34, w24_34n, w24_35, w24_37, w24_39, w24_42, w24_44, w24_44n, w24_45, w24_47, w24_50, w24_51, w24_54, w24_55, w24_56, w24_58, w24_59, w24_60, w24_61, w24_64, w24_67, w24_70, w24_73, w24_74, xk_n, xk_i, xk_r, xk_z, xk_l, xcs_0, xcs_i, xcs_r, xcs_z, xcs_l, Nat.reduceAdd, Nat.reduceLeDiff, Nat.reduceLT, true_and, and_true, Option.toList_some, Option.toList_none, List.nil_append, List.cons_append, List.getElem?_cons_zero, List.getElem?_cons_succ, List.set_cons_zero, List.set_cons_succ, List.length_cons, List.length_nil, y_bool0, y_bool1, not_true_eq_false, not_false_eq_true, false_implies, true_implies, true_or, or_true, false_or, or_false, if_true, if_false, ite_true, ite_false, z7, hbit, z8]
      refine wp_spO hP hw hR j (c + 1) _ _ _ (by omega) hN ?_
      have e1 : spO E R (j + 1) c N = spO E R j (c + 1) N := by
        show spO E R j (c + 1) (spC E R c N) = _
        unfold spC; rw [if_neg q]
      rw [← e1]; exact hK
theorem wp_spread {R : Nat} (hP : PL h a (gw E) (gn E) (gs E)) (hw : okW (gw E) (gn E)) (hR : R < 1073741824) (hK : K (some (.long (Int64.ofNat (spO E R (gn E) 0 R)))) h) : wp (d + 1) 24 0 [some (.ref a), some (.long (Int64.ofNat R)), none, none, none, none, none, none] [] h K := by
  have z0 : (0 : Int32) = Int32.ofNat 0 := rfl
  simp only [w24_0, w24_1, w24_2, w24_3, w24_7, w24_7n, w24_8, w24_11, w24_14, w24_15, w24_19, w24_20, w24_23, w24_24, w24_26, w24_27, w24_28, w24_29, w24_30, w24_31, w24_34, w24_34n, w24_35, w24_37, w24_39, w24_42, w24_44, w24_44n, w24_45, w24_47, w24_50, w24_51, w24_54, w24_55, w24_56, w24_58, w24_59, w24_60, w24_61, w24_64, w24_67, w24_70, w24_73, w24_74, xk_n, xk_i, xk_r, xk_z, xk_l, xcs_0, xcs_i, xcs_r, xcs_z, xcs_l, Nat.reduceAdd, Nat.reduceLeDiff, Nat.reduceLT, true_and, and_true, Option.toList_some, Option.toList_none, List.nil_append, List.cons_append, List.getElem?_cons_zero, List.getElem?_cons_succ, List.set_cons_zero, List.set_cons_succ, List.length_cons, List.length_nil, y_bool0, y_bool1, not_true_eq_false, not_false_eq_true, false_implies, true_implies, true_or, or_true, false_or, or_false, if_true, if_false, ite_true, ite_false, z0]
  exact wp_spO hP hw hR (gn E) 0 R _ _ (by omega) hR hK
end
section
variable {d : Nat} {h : xH} {K : Option Value → xH → Prop} {a : Nat} {E : Gd}
theorem wp_hit {s R k : Nat} {l2 : Option Value} (hP : PL h a (gw E) (gn E) (gs E)) (hw : okW (gw E) (gn E)) (hs : s < gn E) (hR : R < 1073741824) : ∀ (j c : Nat), c + j = gn E → (hit E s R j c = true → K (some (.int (Int32.ofNat k))) h) → (hit E s R j c = false → ∀ l7, wp (d + 2) 23 72 [some (.ref a), some (.int (Int32.ofNat s)), l2, none, some (.int (Int32.ofNat k)), some (.long (Int64.ofNat R)), none, l7] [] h K) → wp (d + 2) 23 26 [some (.ref a), some (.int (Int32.ofNat s)), l2, none, some (.int (Int32.ofNat k)), some (.long (Int64.ofNat R)), none, some (.int (Int32.ofNat c))] [] h K
  | 0, c, hc, h1, h2 => by
    have hn := hw.2.2.1
    have z6 : Int32.ofNat (gn E) ≤ Int32.ofNat c := (n_le (by omega) (by omega)).mpr (by omega)
    rw [w23_26]
    simp only [w23_0, w23_1, w23_2, w23_3, w23_4, w23_5, w23_7, w23_9, w23_9n, w23_10, w23_13, w23_16, w23_16n, w23_17, w23_18, w23_21, w23_23, w23_24, w23_28, w23_28n, w23_29, w23_32, w23_35, w23_37, w23_38, w23_41, w23_43, w23_45, w23_46, w23_47, w23_48, w23_49, w23_50, w23_53, w23_53n, w23_54, w23_56, w23_59, w23_60, w23_63, w23_65, w23_66, w23_69, w23_74, w23_75, w23_78, w23_81, w23_83, xk_n, xk_i, xk_r, xk_z, xk_l, xcs_0, xcs_i, xcs_r, xcs_z, xcs_l, Nat.reduceAdd, Nat.reduceLeDiff, Nat.reduceLT, true_and, and_true, Option.toList_some, Option.toList_none, List.nil_append, List.cons_append, List.getElem?_cons_zero, List.getElem?_cons_succ, List.set_cons_zero, List.set_cons_succ, List.length_cons, List.length_nil, y_bool0, y_bool1, not_true_eq_false, not_false_eq_true, false_implies, true_implies, true_or, or_true, false_or, or_false, if_true, if_false, ite_true, ite_false, y_get, hP.1, z6]
    exact h2 rfl _
  | j + 1, c, hc, h1, h2 => by
    have hn := hw.2.2.1
    have hcn : c < gn E := by omega
    have z6 : (Int32.ofNat (gn E) ≤ Int32.ofNat c) = False := eq_false (by rw [n_le (by omega) (by omega)]; omega)
    have z8 : Int32.ofNat c + 1 = Int32.ofNat (c + 1) := n_addl c 1
    have hbit := l_bit hR (show c < 30 by omega)
    have z5 : (Int32.ofNat c = Int32.ofNat s) = (c = s) := propext (n_eq (by omega) (by omega))
    have hs4 : gs E c < 4 := by
      obtain ⟨a1, a2, a0, f, a3, a4, a5⟩ := hP
      exact (a5 c hcn).2
    have z3 : (Int32.ofNat (gs E c) = 3) = (gs E c = 3) := propext (n_eql (m := 3) (by omega) (by omega))
    have ih := wp_hit (k := k) (l2 := l2) hP hw hs hR j (c + 1) (by omega)
    have hcl := hP.cls
    have e1 : hit E s R (j + 1) c = ((c != s && R.testBit c && gs E c == 3) || hit E s R j (c + 1)) := rfl
    rw [e1] at h1 h2
    rw [w23_26]
    simp only [w23_0, w23_1, w23_2, w23_3, w23_4, w23_5, w23_7, w23_9, w23_9n, w23_10, w23_13, w23_16, w23_16n, w23_17, w23_18, w23_21, w23_23, w23_24, w23_28, w23_28n, w23_29, w23_32, w23_35, w23_37, w23_38, w23_41, w23_43, w23_45, w23_46, w23_47, w23_48, w23_49, w23_50, w23_53, w23_53n, w23_54, w23_56, w23_59, w23_60, w23_63, w23_65, w23_66, w23_69, w23_74, w23_75, w23_78, w23_81, w23_83, xk_n, xk_i, xk_r, xk_z, xk_l, xcs_0, xcs_i, xcs_r, xcs_z, xcs_l, Nat.reduceAdd, Nat.reduceLeDiff, Nat.reduceLT, true_and, and_true, Option.toList_some, Option.toList_none, List.nil_append, List.cons_append, List.getElem?_cons_zero, List.getElem?_cons_succ, List.set_cons_zero, List.set_cons_succ, List.length_cons, List.length_nil, y_bool0, y_bool1, not_true_eq_false, not_false_eq_true, false_implies, true_implies, true_or, or_true, false_or, or_false, if_true, if_false, ite_true, ite_false, y_get, hP.1, z6, z5, hbit, hcl, wp_signOf (o := some c) hP (Or.inl ⟨c, rfl, hcn, rfl⟩), sgO_s, z3, z8]
    by_cases c1 : c = s
    · have : (c != s) = false := by simpa using c1
      rw [this, Bool.false_and, Bool.false_and, Bool.false_or] at h1 h2
      exact ⟨fun _ => ih h1 h2, fun z => absurd c1 z⟩
    · have t1 : (c != s) = true := by simpa using c1
      refine ⟨fun z => absurd z c1, fun _ => ?_⟩
      cases c2 : R.testBit c
      · rw [c2, Bool.and_false, Bool.false_and, Bool.false_or] at h1 h2
        exact ⟨fun _ => ih h1 h2, fun z => by cases z⟩
      · refine ⟨fun z => absurd rfl z, fun _ => ?_⟩
        by_cases c3 : gs E c = 3
        · refine ⟨fun z => absurd c3 z, fun _ => ?_⟩
          exact h1 (by rw [t1, c2]; simp [c3])
        · have t3 : (gs E c == 3) = false := by simpa using c3
          rw [t3, Bool.and_false, Bool.false_or] at h1 h2
          exact ⟨fun _ => ih h1 h2, fun z => absurd z c3⟩
theorem wp_stO {s : Nat} (hP : PL h a (gw E) (gn E) (gs E)) (hw : okW (gw E) (gn E)) (hs : s < gn E) : ∀ (j k : Nat) (l5 l6 l7 : Option Value), k + 1 + j = gn E → K (some (.int (oC (stO E s j (k + 1))))) h → wp (d + 2) 23 7 [some (.ref a), some (.int (Int32.ofNat s)), some (.long (Int64.ofNat (rg E s k))), none, some (.int (Int32.ofNat (k + 1))), l5, l6, l7] [] h K
  | 0, k, l5, l6, l7, hk, hK => by
    have hn := hw.2.2.1
    have z6 : Int32.ofNat (gn E) ≤ Int32.ofNat (k + 1) := (n_le (by omega) (by omega)).mpr (by omega)
    rw [w23_7]
    simp only [w23_0, w23_1, w23_2, w23_3, w23_4, w23_5, w23_9, w23_9n, w23_10, w23_13, w23_16, w23_16n, w23_17, w23_18, w23_21, w23_23, w23_24, w23_28, w23_28n, w23_29, w23_32, w23_35, w23_37, w23_38, w23_41, w23_43, w23_45, w23_46, w23_47, w23_48, w23_49, w23_50, w23_53, w23_53n, w23_54, w23_56, w23_59, w23_60, w23_63, w23_65, w23_66, w23_69, w23_72, w23_74, w23_75, w23_78, w23_81, w23_83, xk_n, xk_i, xk_r, xk_z, xk_l, xcs_0, xcs_i, xcs_r, xcs_z, xcs_l, Nat.reduceAdd, Nat.reduceLeDiff, Nat.reduceLT, true_and, and_true, Option.toList_some, Option.toList_none, List.nil_append, List.cons_append, List.getElem?_cons_zero, List.getElem?_cons_succ, List.set_cons_zero, List.set_cons_succ, List.length_cons, List.length_nil, y_bool0, y_bool1, not_true_eq_false, not_false_eq_true, false_implies, true_implies, true_or, or_true, false_or, or_false, if_true, if_false, ite_true, ite_false, y_get, hP.1, z6]
    exact hK
  | j + 1, k, l5, l6, l7, hk, hK => by
    have hn := hw.2.2.1
    have z6 : (Int32.ofNat (gn E) ≤ Int32.ofNat (k + 1)) = False := eq_false (by rw [n_le (by omega) (by omega)]; omega)
    have z8 : Int32.ofNat (k + 1) + 1 = Int32.ofNat (k + 1 + 1) := n_addl (k + 1) 1
    have z0 : (0 : Int32) = Int32.ofNat 0 := rfl
    have hb := rg_b hw hs k
    have e0 : rg E s (k + 1) = spO E (rg E s k) (gn E) 0 (rg E s k) := rfl
    have e1 : stO E s (j + 1) (k + 1) = if hit E s (rg E s (k + 1)) (gn E) 0 then some (k + 1) else stO E s j (k + 1 + 1) := rfl
    rw [e1] at hK
    rw [w23_7]
    simp only [w23_0, w23_1, w23_2, w23_3, w23_4, w23_5, w23_9, w23_9n, w23_10, w23_13, w23_16, w23_16n, w23_17, w23_18, w23_21, w23_23, w23_24, w23_28, w23_28n, w23_29, w23_32, w23_35, w23_37, w23_38, w23_41, w23_43, w23_45, w23_46, w23_47, w23_48, w23_49, w23_50, w23_53, w23_53n, w23_54, w23_56, w23_59, w23_60, w23_63, w23_65, w23_66, w23_69, w23_72, w23_74, w23_75, w23_78, w23_81, w23_83, xk_n, xk_i, xk_r, xk_z, xk_l, xcs_0, xcs_i, xcs_r, xcs_z, xcs_l, Nat.reduceAdd, Nat.reduceLeDiff, Nat.reduceLT, true_and, and_true, Option.toList_some, Option.toList_none, List.nil_append, List.cons_append, List.getElem?_cons_zero, List.getElem?_cons_succ, List.set_cons_zero, List.set_cons_succ, List.length_cons, List.length_nil, y_bool0, y_bool1, not_true_eq_false, not_false_eq_true, false_implies, true_implies, true_or, or_true, false_or, or_false, if_true, if_false, ite_true, ite_false, y_get, hP.1, z6, hP.cls]
    refine wp_spread hP hw hb ?_
    rw [← e0]
    simp only [w23_0, w23_1, w23_2, w23_3, w23_4, w23_5, w23_9, w23_9n, w23_10, w23_13, w23_16, w23_16n, w23_17, w23_18, w23_21, w23_23, w23_24, w23_28, w23_28n, w23_29, w23_32, w23_35, w23_37, w23_38, w23_41, w23_43, w23_45, w23_46, w23_47, w23_48, w23_49, w23_50, w23_53, w23_53n, w23_54, w23_56, w23_59, w23_60, w23_63, w23_65, w23_66, w23_69, w23_72, w23_74, w23_75, w23_78, w23_81, w23_83, xk_n, xk_i, xk_r, xk_z, xk_l, xcs_0, xcs_i, xcs_r, xcs_z, xcs_l, Nat.reduceAdd, Nat.reduceLeDiff, Nat.reduceLT, true_and, and_true, Option.toList_some, Option.toList_none, List.nil_append, List.cons_append, List.getElem?_cons_zero, List.getElem?_cons_succ, List.set_cons_zero, List.set_cons_succ, List.length_cons, List.length_nil, y_bool0, y_bool1, not_true_eq_false, not_false_eq_true, false_implies, true_implies, true_or, or_true, false_or, or_false, if_true, if_false, ite_true, ite_false, z0]
    refine wp_hit hP hw hs (rg_b hw hs (k + 1)) (gn E) 0 (by omega) (fun hh => ?_) (fun hh m7 => ?_)
    · rw [if_pos hh] at hK
      exact hK
    · rw [hh] at hK
      simp only [w23_0, w23_1, w23_2, w23_3, w23_4, w23_5, w23_9, w23_9n, w23_10, w23_13, w23_16, w23_16n, w23_17, w23_18, w23_21, w23_23, w23_24, w23_28, w23_28n, w23_29, w23_32, w23_35, w23_37, w23_38, w23_41, w23_43, w23_45, w23_46, w23_47, w23_48, w23_49, w23_50, w23_53, w23_53n, w23_54, w23_56, w23_59, w23_60, w23_63, w23_65, w23_66, w23_69, w23_72, w23_74, w23_75, w23_78, w23_81, w23_83, xk_n, xk_i, xk_r, xk_z, xk_l, xcs_0, xcs_i, xcs_r, xcs_z, xcs_l, Nat.reduceAdd, Nat.reduceLeDiff, Nat.reduceLT, true_and, and_true, Option.toList_some, Option.toList_none, List.nil_append, List.cons_append, List.getElem?_cons_zero, List.getElem?_cons_succ, List.set_cons_zero, List.set_cons_succ, List.length_cons, List.length_nil, y_bool0, y_bool1, not_true_eq_false, not_false_eq_true, false_implies, true_implies, true_or, or_true, false_or, or_false, if_true, if_false, ite_true, ite_false, z8]
      exact wp_stO hP hw hs j (k + 1) _ _ _ (by omega) hK
theorem wp_stepsOut {s : Nat} (hP : PL h a (gw E) (gn E) (gs E)) (hw : okW (gw E) (gn E)) (hs : s < gn E) (hK : K (some (.int (oC (stO E s (gn E - 1) 1)))) h) : wp (d + 2) 23 0 [some (.ref a), some (.int (Int32.ofNat s)), none, none, none, none, none, none] [] h K := by
  have hn := hw.2.2.1
  have z0 : (1 : Int32) = Int32.ofNat (0 + 1) := rfl
  have p1 : 2 ^ s < 1073741824 := Nat.pow_lt_pow_right (n := 30) (by omega) (by omega)
  have e : (1 : Int64) <<< ((Int32.ofNat s).toInt64 &&& 63) = Int64.ofNat (rg E s 0) := by
    have := l_shl (L := 1) (c := s) (by rw [Nat.one_mul]; omega) (by omega)
    rw [Nat.one_mul] at this
    exact this
  simp only [w23_0, w23_1, w23_2, w23_3, w23_4, w23_5, w23_9, w23_9n, w23_10, w23_13, w23_16, w23_16n, w23_17, w23_18, w23_21, w23_23, w23_24, w23_28, w23_28n, w23_29, w23_32, w23_35, w23_37, w23_38, w23_41, w23_43, w23_45, w23_46, w23_47, w23_48, w23_49, w23_50, w23_53, w23_53n, w23_54, w23_56, w23_59, w23_60, w23_63, w23_65, w23_66, w23_69, w23_72, w23_74, w23_75, w23_78, w23_81, w23_83, xk_n, xk_i, xk_r, xk_z, xk_l, xcs_0, xcs_i, xcs_r, xcs_z, xcs_l, Nat.reduceAdd, Nat.reduceLeDiff, Nat.reduceLT, true_and, and_true, Option.toList_some, Option.toList_none, List.nil_append, List.cons_append, List.getElem?_cons_zero, List.getElem?_cons_succ, List.set_cons_zero, List.set_cons_succ, List.length_cons, List.length_nil, y_bool0, y_bool1, not_true_eq_false, not_false_eq_true, false_implies, true_implies, true_or, or_true, false_or, or_false, if_true, if_false, ite_true, ite_false, e, z0]
  exact wp_stO hP hw hs (gn E - 1) 0 _ _ _ (by omega) hK
end
