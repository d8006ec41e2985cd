/-! ===== the law's last checks, its three turns, its start ===== -/
section
variable {d : Nat} {h : xH} {s : St} {hi L t : Nat} {xs fr fw : Nat → Int32} {l5 l11 l12 l13 l14 l15 l16 l17 l18 : Option Value}
theorem bi_tt : (1 : Int32) = bi true := rfl
theorem wp_end1 (V : LV h s hi L xs fr fw t) (ht : t ≤ 10) : wp (d + 6) 182 766 [some (.ref 0), some (.ref 2), some (.ref 25), some (.ref 26), some (.ref 27), l5, some (.int (Int32.ofNat (gn (sE s)))), some (.ref 28), some (.ref 29), some (.long (-9223372036854775808)), none, l11, l12, l13, l14, l15, l16, l17, l18] [] h (lwK L) := by
  have hv3 := V.2.1.1.2.2.2.2.2
  have n20 := V.2.1.n20
  have w1 : ((-1 : Int32) = -1) = True := eq_self _
  have w2 : ((-2 : Int32) = -2) = True := eq_self _
  have w0 : ((0 : Int32) = 0) = True := eq_self _
  have e1 : Int32.ofNat (gv (sE s)) + 1 = Int32.ofNat (gv (sE s) + 1) := n_addl _ 1
  have f80 : opFrost s 80 true = (-1, s) := by unfold opFrost; rw [show nb 80 80 = none from nb_N (m := 80) (by omega)]
  have fm : opFrost s (-1) true = (-1, s) := by unfold opFrost; rw [nb_M]
  have tg : opTip s (Int32.ofNat (gv (sE s))) 0 = -1 := by unfold opTip; rw [nb_N (by omega)]
  have lg : opLeaves s (Int32.ofNat (gv (sE s))) 0 = -9223372036854775808 := by unfold opLeaves; rw [nb_N (by omega)]
  have dm : opDoubts s (-1) 0 = -1 := by unfold opDoubts; rw [nb_M]
  have eg : opEnds s (Int32.ofNat (gv (sE s))) 0 = -1 := by unfold opEnds; rw [nb_N (by omega)]
  have sg : opShort s (Int32.ofNat (gv (sE s))) = -1 := by unfold opShort; rw [nb_N (by omega)]
  simp only [w182_766, w182_766n, w182_767, w182_767n, w182_768, w182_769, w182_770, w182_771, w182_772, xk_n, xk_i, xk_r, xk_z, xk_l, xcs_0, xcs_i, xcs_r, xcs_z, xcs_l, Nat.reduceAdd, Nat.reduceLeDiff, Nat.reduceLT, true_and, and_true, Option.toList_some, Option.toList_none, List.nil_append, List.cons_append, List.getElem?_cons_zero, List.getElem?_cons_succ, List.set_cons_zero, List.set_cons_succ, List.length_cons, List.length_nil, y_bool0, y_bool1, not_true_eq_false, not_false_eq_true, false_implies, true_implies, true_or, or_true, false_or, or_false, if_true, if_false, ite_true, ite_false, V.2.1.v, e1, V.1.cls]
  refine cop_pullNo V.1 _ (Or.inr ⟨gv (sE s) + 1, by omega, by omega, rfl⟩) ?_
  simp only [w182_775, w182_777, w182_780, w182_780n, w182_781, w182_782, xk_n, xk_i, xk_r, xk_z, xk_l, xcs_0, xcs_i, xcs_r, xcs_z, xcs_l, Nat.reduceAdd, Nat.reduceLeDiff, Nat.reduceLT, true_and, and_true, Option.toList_some, Option.toList_none, List.nil_append, List.cons_append, List.getElem?_cons_zero, List.getElem?_cons_succ, List.set_cons_zero, List.set_cons_succ, List.length_cons, List.length_nil, y_bool0, y_bool1, not_true_eq_false, not_false_eq_true, false_implies, true_implies, true_or, or_true, false_or, or_false, if_true, if_false, ite_true, ite_false, w2, V.1.cls]
  refine cop_pullNo V.1 _ (Or.inl rfl) ?_
  simp only [w182_785, w182_787, w182_790, w182_790n, w182_791, w182_793, w182_794, xk_n, xk_i, xk_r, xk_z, xk_l, xcs_0, xcs_i, xcs_r, xcs_z, xcs_l, Nat.reduceAdd, Nat.reduceLeDiff, Nat.reduceLT, true_and, and_true, Option.toList_some, Option.toList_none, List.nil_append, List.cons_append, List.getElem?_cons_zero, List.getElem?_cons_succ, List.set_cons_zero, List.set_cons_succ, List.length_cons, List.length_nil, y_bool0, y_bool1, not_true_eq_false, not_false_eq_true, false_implies, true_implies, true_or, or_true, false_or, or_false, if_true, if_false, ite_true, ite_false, w2, V.1.cls]
  rw [bi_tt]
  refine cop_frost V.1 80 true fun h1 R1 F1 => ?_
  rw [f80] at R1 ⊢
  have V1 := V.cp R1 F1
  simp only [w182_797, w182_798, w182_801, w182_801n, w182_802, w182_803, w182_804, xk_n, xk_i, xk_r, xk_z, xk_l, xcs_0, xcs_i, xcs_r, xcs_z, xcs_l, Nat.reduceAdd, Nat.reduceLeDiff, Nat.reduceLT, true_and, and_true, Option.toList_some, Option.toList_none, List.nil_append, List.cons_append, List.getElem?_cons_zero, List.getElem?_cons_succ, List.set_cons_zero, List.set_cons_succ, List.length_cons, List.length_nil, y_bool0, y_bool1, not_true_eq_false, not_false_eq_true, false_implies, true_implies, true_or, or_true, false_or, or_false, if_true, if_false, ite_true, ite_false, w1, V1.1.cls]
  rw [bi_tt]
  refine cop_frost V1.1 (-1) true fun h2 R2 F2 => ?_
  rw [fm] at R2 ⊢
  have V2 := V1.cp R2 F2
  simp only [w182_807, w182_808, w182_811, w182_811n, w182_812, w182_812n, w182_813, w182_814, w182_815, w182_816, xk_n, xk_i, xk_r, xk_z, xk_l, xcs_0, xcs_i, xcs_r, xcs_z, xcs_l, Nat.reduceAdd, Nat.reduceLeDiff, Nat.reduceLT, true_and, and_true, Option.toList_some, Option.toList_none, List.nil_append, List.cons_append, List.getElem?_cons_zero, List.getElem?_cons_succ, List.set_cons_zero, List.set_cons_succ, List.length_cons, List.length_nil, y_bool0, y_bool1, not_true_eq_false, not_false_eq_true, false_implies, true_implies, true_or, or_true, false_or, or_false, if_true, if_false, ite_true, ite_false, w1, V2.2.1.v, V2.1.cls]
  refine cop_tip V2.1 (Int32.ofNat (gv (sE s))) 0 fun h3 R3 F3 => ?_
  have V3 := V2.cp R3 F3
  rw [tg]
  simp only [w182_819, w182_820, w182_823, w182_823n, w182_824, w182_824n, w182_825, w182_826, w182_827, w182_828, xk_n, xk_i, xk_r, xk_z, xk_l, xcs_0, xcs_i, xcs_r, xcs_z, xcs_l, Nat.reduceAdd, Nat.reduceLeDiff, Nat.reduceLT, true_and, and_true, Option.toList_some, Option.toList_none, List.nil_append, List.cons_append, List.getElem?_cons_zero, List.getElem?_cons_succ, List.set_cons_zero, List.set_cons_succ, List.length_cons, List.length_nil, y_bool0, y_bool1, not_true_eq_false, not_false_eq_true, false_implies, true_implies, true_or, or_true, false_or, or_false, if_true, if_false, ite_true, ite_false, w1, V3.2.1.v, V3.1.cls]
  refine cop_leaves V3.1 (Int32.ofNat (gv (sE s))) 0 fun h4 R4 F4 => ?_
  have V4 := V3.cp R4 F4
  rw [lg]
  have lsm : lg_cmp (-9223372036854775808) (-9223372036854775808) = 0 := lg_same _
  simp only [w182_831, w182_833, w182_834, w182_837, w182_837n, w182_838, w182_839, w182_840, xk_n, xk_i, xk_r, xk_z, xk_l, xcs_0, xcs_i, xcs_r, xcs_z, xcs_l, Nat.reduceAdd, Nat.reduceLeDiff, Nat.reduceLT, true_and, and_true, Option.toList_some, Option.toList_none, List.nil_append, List.cons_append, List.getElem?_cons_zero, List.getElem?_cons_succ, List.set_cons_zero, List.set_cons_succ, List.length_cons, List.length_nil, y_bool0, y_bool1, not_true_eq_false, not_false_eq_true, false_implies, true_implies, true_or, or_true, false_or, or_false, if_true, if_false, ite_true, ite_false, w0, lsm, V4.1.cls]
  refine cop_doubts V4.1 (-1) 0 fun h5 R5 F5 => ?_
  have V5 := V4.cp R5 F5
  rw [dm]
  simp only [w182_843, w182_844, w182_847, w182_847n, w182_848, w182_848n, w182_849, w182_850, w182_851, w182_852, xk_n, xk_i, xk_r, xk_z, xk_l, xcs_0, xcs_i, xcs_r, xcs_z, xcs_l, Nat.reduceAdd, Nat.reduceLeDiff, Nat.reduceLT, true_and, and_true, Option.toList_some, Option.toList_none, List.nil_append, List.cons_append, List.getElem?_cons_zero, List.getElem?_cons_succ, List.set_cons_zero, List.set_cons_succ, List.length_cons, List.length_nil, y_bool0, y_bool1, not_true_eq_false, not_false_eq_true, false_implies, true_implies, true_or, or_true, false_or, or_false, if_true, if_false, ite_true, ite_false, w1, V5.2.1.v, V5.1.cls]
  refine cop_ends V5.1 (Int32.ofNat (gv (sE s))) 0 fun h6 R6 F6 => ?_
  have V6 := V5.cp R6 F6
  rw [eg]
  simp only [w182_855, w182_856, w182_859, w182_859n, w182_860, w182_860n, w182_861, w182_862, w182_863, xk_n, xk_i, xk_r, xk_z, xk_l, xcs_0, xcs_i, xcs_r, xcs_z, xcs_l, Nat.reduceAdd, Nat.reduceLeDiff, Nat.reduceLT, true_and, and_true, Option.toList_some, Option.toList_none, List.nil_append, List.cons_append, List.getElem?_cons_zero, List.getElem?_cons_succ, List.set_cons_zero, List.set_cons_succ, List.length_cons, List.length_nil, y_bool0, y_bool1, not_true_eq_false, not_false_eq_true, false_implies, true_implies, true_or, or_true, false_or, or_false, if_true, if_false, ite_true, ite_false, w1, V6.2.1.v, V6.1.cls]
  refine cop_shortest V6.1 (Int32.ofNat (gv (sE s))) ?_
  rw [sg]
  simp only [w182_866, w182_867, w182_870, w182_871, w182_874, w182_875, xk_n, xk_i, xk_r, xk_z, xk_l, xcs_0, xcs_i, xcs_r, xcs_z, xcs_l, Nat.reduceAdd, Nat.reduceLeDiff, Nat.reduceLT, true_and, and_true, Option.toList_some, Option.toList_none, List.nil_append, List.cons_append, List.getElem?_cons_zero, List.getElem?_cons_succ, List.set_cons_zero, List.set_cons_succ, List.length_cons, List.length_nil, y_bool0, y_bool1, not_true_eq_false, not_false_eq_true, false_implies, true_implies, true_or, or_true, false_or, or_false, if_true, if_false, ite_true, ite_false, w1]
  have b1 := V6.2.2.2.2.2.2.1
  have b2 := V6.2.2.2.2.2.2.2.1
  exact ⟨rfl, by omega, by omega⟩
theorem wp_end0 (V : LV h s hi L xs fr fw t) (h30 : 30 ≤ h.length) (ht : t ≤ 3) : wp (d + 6) 182 636 [some (.ref 0), some (.ref 2), some (.ref 25), some (.ref 26), some (.ref 27), l5, some (.int (Int32.ofNat (gn (sE s)))), some (.ref 28), some (.ref 29), some (.long (-9223372036854775808)), none, l11, l12, l13, l14, l15, l16, l17, l18] [] h (lwK L) := by
  have hv3 := V.2.1.1.2.2.2.2.2
  have n20 := V.2.1.n20
  have n1 := V.n1
  have w1 : ((-1 : Int32) = -1) = True := eq_self _
  have w2 : ((-2 : Int32) = -2) = True := eq_self _
  have z0 : nb 0 (gn (sE s)) = some 0 := nb_t (a := 0) (by omega) (by omega)
  have s1 : opSign s (Int32.ofNat (gn (sE s))) = -1 := by unfold opSign; rw [nb_N (by omega)]
  have s2 : opSet s (Int32.ofNat (gn (sE s))) 0 = (-1, s) := by unfold opSet; rw [nb_N (by omega)]
  have s3 : opSet s 0 4 = (-2, s) := by
    unfold opSet
    rw [z0]
    dsimp only
    rw [show nb 4 4 = none from nb_N (m := 4) (by omega)]
  have s4 : opSet s 0 (-1) = (-2, s) := by
    unfold opSet
    rw [z0]
    dsimp only
    rw [nb_M]
  have v1 : opVine s 0 (Int32.ofNat (gn (sE s))) 0 = (-1, s) := by unfold opVine; rw [nb_N (by omega)]
  have v2 : opVine s 3 0 0 = (-2, s) := by
    unfold opVine
    rw [z0]
    dsimp only
    rw [show nb 3 3 = none from nb_N (m := 3) (by omega)]
  have v3 : opVine s 0 0 4 = (-2, s) := by
    unfold opVine
    rw [z0]
    dsimp only
    rw [show nb 0 3 = some 0 from nb_t (a := 0) (by omega) (by omega)]
    dsimp only
    rw [show nb 4 4 = none from nb_N (m := 4) (by omega)]
  have o1 : opOfVine s (Int32.ofNat (gv (sE s))) 0 = -1 := by unfold opOfVine; rw [nb_N (by omega)]
  -- a vine call that is refused makes no cell
  have nov : ∀ (t : Nat) (h : xH) (k c g z : Int32), LV h s hi L xs fr fw t → opVine s k c g = (z, s) → ∀ K : Option Value → xH → Prop, (∀ h', LV h' s hi L xs fr fw (t + 1) → K (some (.int z)) h') → wp (d + 5) 45 0 [some (.ref 2), some (.int k), some (.int c), some (.int g), none] [] h K := by
    intro t h k c g z V hop K hK
    refine cop_vine V.2.2.2.2.2.1 V.1 k c g fun h' R F => ?_
    rw [hop] at R ⊢
    obtain ⟨a, b, c, d, e, f, g, i, l⟩ := V
    have := F.1
    have := F.2.1
    have := F.2.2.1
    exact hK h' ⟨R, b.fr F (CP_no (by omega)) (CP_no (by omega)) (CP_no (by omega)), F.at c (CP_no (by omega)), F.at d (CP_no (by omega)), F.at e (CP_no (by omega)), by omega, by omega, by omega, l⟩
  simp only [w182_636, w182_636n, w182_637, w182_639, xk_n, xk_i, xk_r, xk_z, xk_l, xcs_0, xcs_i, xcs_r, xcs_z, xcs_l, Nat.reduceAdd, Nat.reduceLeDiff, Nat.reduceLT, true_and, and_true, Option.toList_some, Option.toList_none, List.nil_append, List.cons_append, List.getElem?_cons_zero, List.getElem?_cons_succ, List.set_cons_zero, List.set_cons_succ, List.length_cons, List.length_nil, y_bool0, y_bool1, not_true_eq_false, not_false_eq_true, false_implies, true_implies, true_or, or_true, false_or, or_false, if_true, if_false, ite_true, ite_false, V.1.cls]
  refine cop_sign V.1 _ ?_
  rw [s1]
  simp only [w182_642, w182_643, w182_646, w182_646n, w182_647, w182_649, w182_650, xk_n, xk_i, xk_r, xk_z, xk_l, xcs_0, xcs_i, xcs_r, xcs_z, xcs_l, Nat.reduceAdd, Nat.reduceLeDiff, Nat.reduceLT, true_and, and_true, Option.toList_some, Option.toList_none, List.nil_append, List.cons_append, List.getElem?_cons_zero, List.getElem?_cons_succ, List.set_cons_zero, List.set_cons_succ, List.length_cons, List.length_nil, y_bool0, y_bool1, not_true_eq_false, not_false_eq_true, false_implies, true_implies, true_or, or_true, false_or, or_false, if_true, if_false, ite_true, ite_false, w1, V.1.cls]
  refine cop_set V.1 _ 0 fun h1 R1 F1 => ?_
  rw [s2] at R1 ⊢
  have V1 := V.cp R1 F1
  simp only [w182_653, w182_654, w182_657, w182_657n, w182_658, w182_659, w182_660, xk_n, xk_i, xk_r, xk_z, xk_l, xcs_0, xcs_i, xcs_r, xcs_z, xcs_l, Nat.reduceAdd, Nat.reduceLeDiff, Nat.reduceLT, true_and, and_true, Option.toList_some, Option.toList_none, List.nil_append, List.cons_append, List.getElem?_cons_zero, List.getElem?_cons_succ, List.set_cons_zero, List.set_cons_succ, List.length_cons, List.length_nil, y_bool0, y_bool1, not_true_eq_false, not_false_eq_true, false_implies, true_implies, true_or, or_true, false_or, or_false, if_true, if_false, ite_true, ite_false, w1, V1.1.cls]
  refine cop_set V1.1 0 4 fun h2 R2 F2 => ?_
  rw [s3] at R2 ⊢
  have V2 := V1.cp R2 F2
  simp only [w182_663, w182_665, w182_668, w182_668n, w182_669, w182_670, w182_671, xk_n, xk_i, xk_r, xk_z, xk_l, xcs_0, xcs_i, xcs_r, xcs_z, xcs_l, Nat.reduceAdd, Nat.reduceLeDiff, Nat.reduceLT, true_and, and_true, Option.toList_some, Option.toList_none, List.nil_append, List.cons_append, List.getElem?_cons_zero, List.getElem?_cons_succ, List.set_cons_zero, List.set_cons_succ, List.length_cons, List.length_nil, y_bool0, y_bool1, not_true_eq_false, not_false_eq_true, false_implies, true_implies, true_or, or_true, false_or, or_false, if_true, if_false, ite_true, ite_false, w2, V2.1.cls]
  refine cop_set V2.1 0 (-1) fun h3 R3 F3 => ?_
  rw [s4] at R3 ⊢
  have V3 := V2.cp R3 F3
  simp only [w182_674, w182_676, w182_679, w182_679n, w182_680, w182_681, w182_683, w182_684, xk_n, xk_i, xk_r, xk_z, xk_l, xcs_0, xcs_i, xcs_r, xcs_z, xcs_l, Nat.reduceAdd, Nat.reduceLeDiff, Nat.reduceLT, true_and, and_true, Option.toList_some, Option.toList_none, List.nil_append, List.cons_append, List.getElem?_cons_zero, List.getElem?_cons_succ, List.set_cons_zero, List.set_cons_succ, List.length_cons, List.length_nil, y_bool0, y_bool1, not_true_eq_false, not_false_eq_true, false_implies, true_implies, true_or, or_true, false_or, or_false, if_true, if_false, ite_true, ite_false, w2, V3.1.cls]
  refine nov t h3 _ _ _ _ V3 v1 _ fun h4 V4 => ?_
  simp only [w182_687, w182_688, w182_691, w182_691n, w182_692, w182_693, w182_694, w182_695, xk_n, xk_i, xk_r, xk_z, xk_l, xcs_0, xcs_i, xcs_r, xcs_z, xcs_l, Nat.reduceAdd, Nat.reduceLeDiff, Nat.reduceLT, true_and, and_true, Option.toList_some, Option.toList_none, List.nil_append, List.cons_append, List.getElem?_cons_zero, List.getElem?_cons_succ, List.set_cons_zero, List.set_cons_succ, List.length_cons, List.length_nil, y_bool0, y_bool1, not_true_eq_false, not_false_eq_true, false_implies, true_implies, true_or, or_true, false_or, or_false, if_true, if_false, ite_true, ite_false, w1, V4.1.cls]
  refine nov (t + 1) h4 _ _ _ _ V4 v2 _ fun h5 V5 => ?_
  simp only [w182_698, w182_700, w182_703, w182_703n, w182_704, w182_705, w182_706, w182_707, xk_n, xk_i, xk_r, xk_z, xk_l, xcs_0, xcs_i, xcs_r, xcs_z, xcs_l, Nat.reduceAdd, Nat.reduceLeDiff, Nat.reduceLT, true_and, and_true, Option.toList_some, Option.toList_none, List.nil_append, List.cons_append, List.getElem?_cons_zero, List.getElem?_cons_succ, List.set_cons_zero, List.set_cons_succ, List.length_cons, List.length_nil, y_bool0, y_bool1, not_true_eq_false, not_false_eq_true, false_implies, true_implies, true_or, or_true, false_or, or_false, if_true, if_false, ite_true, ite_false, w2, V5.1.cls]
  refine nov (t + 1 + 1) h5 _ _ _ _ V5 v3 _ fun h6 V6 => ?_
  simp only [w182_710, w182_712, w182_715, w182_715n, w182_716, w182_716n, w182_717, w182_718, w182_719, w182_720, xk_n, xk_i, xk_r, xk_z, xk_l, xcs_0, xcs_i, xcs_r, xcs_z, xcs_l, Nat.reduceAdd, Nat.reduceLeDiff, Nat.reduceLT, true_and, and_true, Option.toList_some, Option.toList_none, List.nil_append, List.cons_append, List.getElem?_cons_zero, List.getElem?_cons_succ, List.set_cons_zero, List.set_cons_succ, List.length_cons, List.length_nil, y_bool0, y_bool1, not_true_eq_false, not_false_eq_true, false_implies, true_implies, true_or, or_true, false_or, or_false, if_true, if_false, ite_true, ite_false, w2, V6.2.1.v, V6.1.cls]
  refine cop_ofVine V6.1 _ 0 ?_
  rw [o1]
  have g0 : (Int32.ofNat (gv (sE s)) = 0) = (gv (sE s) = 0) := propext (n_eql (m := 0) (by omega) (by omega))
  simp only [w182_723, w182_724, w182_727, w182_727n, w182_728, w182_729, w182_730, w182_733, w182_733n, w182_734, w182_735, w182_736, xk_n, xk_i, xk_r, xk_z, xk_l, xcs_0, xcs_i, xcs_r, xcs_z, xcs_l, Nat.reduceAdd, Nat.reduceLeDiff, Nat.reduceLT, true_and, and_true, Option.toList_some, Option.toList_none, List.nil_append, List.cons_append, List.getElem?_cons_zero, List.getElem?_cons_succ, List.set_cons_zero, List.set_cons_succ, List.length_cons, List.length_nil, y_bool0, y_bool1, not_true_eq_false, not_false_eq_true, false_implies, true_implies, true_or, or_true, false_or, or_false, if_true, if_false, ite_true, ite_false, w1, V6.2.1.v, g0, V6.1.cls]
  refine ⟨fun _ => wp_end1 V6 (by omega), fun hv => ?_⟩
  have y0 : nb 0 (gv (sE s)) = some 0 := nb_t (a := 0) (by omega) (by omega)
  have o2 : opOfVine s 0 3 = -2 := by
    unfold opOfVine
    rw [y0]
    rfl
  have t1 : opTip s 0 80 = -1 := by
    unfold opTip
    rw [y0, show nb 80 80 = none from nb_N (m := 80) (by omega)]
  have e2 : opEnds s 0 2 = -2 := by
    unfold opEnds
    rw [y0, show nb 2 2 = none from nb_N (m := 2) (by omega)]
  refine cop_ofVine V6.1 0 3 ?_
  rw [o2]
  simp only [w182_739, w182_741, w182_744, w182_744n, w182_745, w182_746, w182_748, xk_n, xk_i, xk_r, xk_z, xk_l, xcs_0, xcs_i, xcs_r, xcs_z, xcs_l, Nat.reduceAdd, Nat.reduceLeDiff, Nat.reduceLT, true_and, and_true, Option.toList_some, Option.toList_none, List.nil_append, List.cons_append, List.getElem?_cons_zero, List.getElem?_cons_succ, List.set_cons_zero, List.set_cons_succ, List.length_cons, List.length_nil, y_bool0, y_bool1, not_true_eq_false, not_false_eq_true, false_implies, true_implies, true_or, or_true, false_or, or_false, if_true, if_false, ite_true, ite_false, w2, V6.1.cls]
  refine cop_tip V6.1 0 80 fun h7 R7 F7 => ?_
  have V7 := V6.cp R7 F7
  rw [t1]
  simp only [w182_751, w182_752, w182_755, w182_755n, w182_756, w182_757, w182_758, xk_n, xk_i, xk_r, xk_z, xk_l, xcs_0, xcs_i, xcs_r, xcs_z, xcs_l, Nat.reduceAdd, Nat.reduceLeDiff, Nat.reduceLT, true_and, and_true, Option.toList_some, Option.toList_none, List.nil_append, List.cons_append, List.getElem?_cons_zero, List.getElem?_cons_succ, List.set_cons_zero, List.set_cons_succ, List.length_cons, List.length_nil, y_bool0, y_bool1, not_true_eq_false, not_false_eq_true, false_implies, true_implies, true_or, or_true, false_or, or_false, if_true, if_false, ite_true, ite_false, w1, V7.1.cls]
  refine cop_ends V7.1 0 2 fun h8 R8 F8 => ?_
  have V8 := V7.cp R8 F8
  rw [e2]
  simp only [w182_761, w182_763, xk_n, xk_i, xk_r, xk_z, xk_l, xcs_0, xcs_i, xcs_r, xcs_z, xcs_l, Nat.reduceAdd, Nat.reduceLeDiff, Nat.reduceLT, true_and, and_true, Option.toList_some, Option.toList_none, List.nil_append, List.cons_append, List.getElem?_cons_zero, List.getElem?_cons_succ, List.set_cons_zero, List.set_cons_succ, List.length_cons, List.length_nil, y_bool0, y_bool1, not_true_eq_false, not_false_eq_true, false_implies, true_implies, true_or, or_true, false_or, or_false, if_true, if_false, ite_true, ite_false, w2]
  exact wp_end1 V8 (by omega)
end
section
variable {d hi L : Nat} {xs : Nat → Int32} {l5 : Option Value}
/-- the three turns -/
theorem wp_turns : ∀ (j tu : Nat) (h : xH) (s : St) (fr fw : Nat → Int32) (l10 l11 l12 l13 l14 l15 l16 l17 l18 : Option Value), tu + j = 3 → LV h s hi L xs fr fw tu → wp (d + 6) 182 80 [some (.ref 0), some (.ref 2), some (.ref 25), some (.ref 26), some (.ref 27), l5, some (.int (Int32.ofNat (gn (sE s)))), some (.ref 28), some (.ref 29), some (.int (Int32.ofNat tu)), l10, l11, l12, l13, l14, l15, l16, l17, l18] [] h (lwK L)
  | 0, tu, h, s, fr, fw, l10, l11, l12, l13, l14, l15, l16, l17, l18, hj, V => by
    have q : 3 ≤ Int32.ofNat tu := (n_lle (m := 3) (by omega) (by omega)).mpr (by omega)
    rw [w182_80]
    simp only [w182_82, w182_83, w182_631, w182_634, xk_n, xk_i, xk_r, xk_z, xk_l, xcs_0, xcs_i, xcs_r, xcs_z, xcs_l, Nat.reduceAdd, Nat.reduceLeDiff, Nat.reduceLT, true_and, and_true, Option.toList_some, Option.toList_none, List.nil_append, List.cons_append, List.getElem?_cons_zero, List.getElem?_cons_succ, List.set_cons_zero, List.set_cons_succ, List.length_cons, List.length_nil, y_bool0, y_bool1, not_true_eq_false, not_false_eq_true, false_implies, true_implies, true_or, or_true, false_or, or_false, if_true, if_false, ite_true, ite_false, q]
    exact wp_end0 V V.2.2.2.2.2.1 (by omega)
  | j + 1, tu, h, s, fr, fw, l10, l11, l12, l13, l14, l15, l16, l17, l18, hj, V => by
    have q : (3 ≤ Int32.ofNat tu) = False := eq_false (by rw [n_lle (m := 3) (by omega) (by omega)]; omega)
    have z8 : Int32.ofNat tu + 1 = Int32.ofNat (tu + 1) := n_addl tu 1
    have hL := V.2.2.2.2.2.2.2.2
    have w1 : ((1 : Int32) = 0) = False := eq_false (by decide)
    rw [w182_80]
    simp only [w182_82, w182_83, w182_86, w182_86n, w182_87, w182_87n, w182_88, w182_89, w182_91, w182_92, xk_n, xk_i, xk_r, xk_z, xk_l, xcs_0, xcs_i, xcs_r, xcs_z, xcs_l, Nat.reduceAdd, Nat.reduceLeDiff, Nat.reduceLT, true_and, and_true, Option.toList_some, Option.toList_none, List.nil_append, List.cons_append, List.getElem?_cons_zero, List.getElem?_cons_succ, List.set_cons_zero, List.set_cons_succ, List.length_cons, List.length_nil, y_bool0, y_bool1, not_true_eq_false, not_false_eq_true, false_implies, true_implies, true_or, or_true, false_or, or_false, if_true, if_false, ite_true, ite_false, q]
    refine wp_cell (k := 4 + tu) V.2.2.1 hL (n_ladd tu 4) (by omega) fun x => ?_
    simp only [w182_95, w182_95n, w182_96, w182_98, w182_100, w182_101, xk_n, xk_i, xk_r, xk_z, xk_l, xcs_0, xcs_i, xcs_r, xcs_z, xcs_l, Nat.reduceAdd, Nat.reduceLeDiff, Nat.reduceLT, true_and, and_true, Option.toList_some, Option.toList_none, List.nil_append, List.cons_append, List.getElem?_cons_zero, List.getElem?_cons_succ, List.set_cons_zero, List.set_cons_succ, List.length_cons, List.length_nil, y_bool0, y_bool1, not_true_eq_false, not_false_eq_true, false_implies, true_implies, true_or, or_true, false_or, or_false, if_true, if_false, ite_true, ite_false]
    refine wp_cell (k := 7 + tu) V.2.2.1 hL (n_ladd tu 7) (by omega) fun y => ?_
    simp only [w182_104, w182_104n, w182_105, w182_105n, w182_106, w182_106n, w182_108, xk_n, xk_i, xk_r, xk_z, xk_l, xcs_0, xcs_i, xcs_r, xcs_z, xcs_l, Nat.reduceAdd, Nat.reduceLeDiff, Nat.reduceLT, true_and, and_true, Option.toList_some, Option.toList_none, List.nil_append, List.cons_append, List.getElem?_cons_zero, List.getElem?_cons_succ, List.set_cons_zero, List.set_cons_succ, List.length_cons, List.length_nil, y_bool0, y_bool1, not_true_eq_false, not_false_eq_true, false_implies, true_implies, true_or, or_true, false_or, or_false, if_true, if_false, ite_true, ite_false]
    refine wp_lchange V.1 V.2.1 V.2.2.2.2.2.1 fun h1 s1 R1 H1 hn1 F1 => ?_
    obtain ⟨a, b, c, d0, e, f, g, i, l⟩ := V
    have f1 := F1.1
    have f2 := F1.2.1
    have f3 := F1.2.2.1
    have V1 : LV h1 s1 hi L xs fr fw (tu + 1) := ⟨R1, H1, F1.at c (fun z => by rcases z with z | z <;> omega), F1.at d0 (fun z => by rcases z with z | z <;> omega), F1.at e (fun z => by rcases z with z | z <;> omega), by omega, by omega, by omega, l⟩
    rw [← hn1]
    simp only [w182_111, xk_n, xk_i, xk_r, xk_z, xk_l, xcs_0, xcs_i, xcs_r, xcs_z, xcs_l, Nat.reduceAdd, Nat.reduceLeDiff, Nat.reduceLT, true_and, and_true, Option.toList_some, Option.toList_none, List.nil_append, List.cons_append, List.getElem?_cons_zero, List.getElem?_cons_succ, List.set_cons_zero, List.set_cons_succ, List.length_cons, List.length_nil, y_bool0, y_bool1, not_true_eq_false, not_false_eq_true, false_implies, true_implies, true_or, or_true, false_or, or_false, if_true, if_false, ite_true, ite_false, w1]
    refine wp_turn V1 (fun h2 fr2 fw2 l10 l11 l12 l13 l14 l15 l16 l17 l18 V2 => ?_) (by omega)
    simp only [w182_625, w182_628, xk_n, xk_i, xk_r, xk_z, xk_l, xcs_0, xcs_i, xcs_r, xcs_z, xcs_l, Nat.reduceAdd, Nat.reduceLeDiff, Nat.reduceLT, true_and, and_true, Option.toList_some, Option.toList_none, List.nil_append, List.cons_append, List.getElem?_cons_zero, List.getElem?_cons_succ, List.set_cons_zero, List.set_cons_succ, List.length_cons, List.length_nil, y_bool0, y_bool1, not_true_eq_false, not_false_eq_true, false_implies, true_implies, true_or, or_true, false_or, or_false, if_true, if_false, ite_true, ite_false, z8]
    exact wp_turns j (tu + 1) h2 s1 fr2 fw2 _ _ _ _ _ _ _ _ _ (by omega) V2
end
