/-! ===== the model: put, cell, copy ===== -/
theorem SA.row {sh : Nat → Option Nat × Nat × (Nat → Int32)} {A : Nat → Nat → Int32} (S : SA sh A) {k : Nat} (hk : k < 4) {f c' : Nat → Int32} (h1 : ∀ x, x < 50 → c' (50 * k + x) = f x) (h2 : ∀ y, (y < 50 * k ∨ 50 * k + 50 ≤ y) → c' y = A 2 y) : SA (fun j => if j = k then ((sh k).1, (sh k).2.1, f) else sh j) (upA A 2 c') := by
  intro j hj
  obtain ⟨s1, s2, s3, s4, s5⟩ := S j hj
  by_cases q : j = k
  · subst q
    show A 0 j = oC (if j = j then ((sh j).1, (sh j).2.1, f) else sh j).1 ∧ ((if j = j then ((sh j).1, (sh j).2.1, f) else sh j).1 ≠ none → A 1 j = Int32.ofNat (if j = j then ((sh j).1, (sh j).2.1, f) else sh j).2.1) ∧ (if j = j then ((sh j).1, (sh j).2.1, f) else sh j).2.1 ≤ 50 ∧ (∀ x, (if j = j then ((sh j).1, (sh j).2.1, f) else sh j).1 = some x → x < 3) ∧ ∀ i, i < 50 → c' (50 * j + i) = (if j = j then ((sh j).1, (sh j).2.1, f) else sh j).2.2 i
    rw [if_pos rfl]
    exact ⟨s1, s2, s3, s4, h1⟩
  · show A 0 j = oC (if j = k then ((sh k).1, (sh k).2.1, f) else sh j).1 ∧ ((if j = k then ((sh k).1, (sh k).2.1, f) else sh j).1 ≠ none → A 1 j = Int32.ofNat (if j = k then ((sh k).1, (sh k).2.1, f) else sh j).2.1) ∧ (if j = k then ((sh k).1, (sh k).2.1, f) else sh j).2.1 ≤ 50 ∧ (∀ x, (if j = k then ((sh k).1, (sh k).2.1, f) else sh j).1 = some x → x < 3) ∧ ∀ i, i < 50 → c' (50 * j + i) = (if j = k then ((sh k).1, (sh k).2.1, f) else sh j).2.2 i
    rw [if_neg q]
    exact ⟨s1, s2, s3, s4, fun i hi => by rw [h2 _ (by omega)]; exact s5 i hi⟩
section
variable {d : Nat} {h : xH} {K : Option Value → xH → Prop} {s : St}
theorem mop_put (H : RM h s) (k i v : Int32) (hK : ∀ h', RM h' (opPut s k i v).2 → FR MP 0 0 h h' → K (some (.int (opPut s k i v).1)) h') : wp (d + 2) 142 0 [some (.ref 25), some (.int k), some (.int i), some (.int v)] [] h K := by
  obtain ⟨hi, p, rH, rW, A, hg, h5, H, G, S, R⟩ := H
  have z10 : ((1 : Int32) = 0) = False := eq_false (by decide)
  simp only [w142_0, w142_0n, w142_1, w142_2, w142_6, w142_9, w142_12, w142_13, w142_14, w142_14n, w142_15, w142_18, w142_19, w142_20, w142_22, w142_25, w142_25n, w142_26, w142_27, w142_30, w142_31, w142_32, w142_33, w142_33n, w142_34, w142_37, w142_38, w142_39, w142_40, w142_41, w142_44, w142_47, w142_47n, w142_48, w142_49, w142_52, w142_53, w142_53n, w142_54, w142_57, w142_59, w142_60, w142_61, w142_62, w142_63, w142_63n, w142_64, w142_67, w142_68, w142_69, w142_72, w142_73, w142_74, w142_77, w142_77n, w142_78, w142_81, w142_82, w142_83, w142_84, w142_87, w142_88, w142_89, w142_92, w142_93, w142_94, w142_95, xk_n, xk_i, xk_r, xk_z, xk_l, xcs_0, xcs_i, xcs_r, xcs_z, xcs_l, Nat.reduceAdd, Nat.reduceLeDiff, Nat.reduceLT, true_and, and_true, Option.toList_some, Option.toList_none, List.nil_append, List.cons_append, List.getElem?_cons_zero, List.getElem?_cons_succ, List.set_cons_zero, List.set_cons_succ, List.length_cons, List.length_nil, y_bool0, y_bool1, not_true_eq_false, not_false_eq_true, false_implies, true_implies, true_or, or_true, false_or, or_false, if_true, if_false, ite_true, ite_false]
  refine H.p_fa fun h1 H1 F1 => ?_
  rcases nb_cas k (m := 4) (by omega) with ⟨a, ha, rfl, hn⟩ | ⟨hc, hn⟩
  · have e1 : opPut s (Int32.ofNat a) i v = if (sSh s a).1.isNone then ((-10 - 1 : Int32), stF s 1) else match nb i (sSh s a).2.1 with
      | none => (-10 - 3, stF s 3)
      | some i => (1, stH (stF s 0) a ((sSh s a).1, (sSh s a).2.1, upd (sSh s a).2.2 i (cvt (sSh s a).1 v))) := by unfold opPut; rw [hn]; rfl
    rw [e1] at hK
    have S0 := S
    obtain ⟨s1, s2, s3, s4, s5⟩ := S a ha
    have t9 := oC_9 (o := (sSh s a).1) (fun x hx => by have := s4 x hx; omega)
    simp only [w142_0, w142_0n, w142_1, w142_2, w142_5, w142_6, w142_9, w142_12, w142_13, w142_14, w142_14n, w142_15, w142_18, w142_19, w142_20, w142_22, w142_25, w142_25n, w142_26, w142_27, w142_30, w142_32, w142_33, w142_33n, w142_34, w142_37, w142_38, w142_39, w142_40, w142_41, w142_44, w142_47, w142_47n, w142_48, w142_49, w142_52, w142_54, w142_57, w142_59, w142_60, w142_61, w142_62, w142_63, w142_63n, w142_64, w142_67, w142_68, w142_69, w142_72, w142_73, w142_74, w142_77, w142_77n, w142_78, w142_81, w142_82, w142_83, w142_84, w142_87, w142_88, w142_89, w142_92, w142_93, w142_94, w142_95, xk_n, xk_i, xk_r, xk_z, xk_l, xcs_0, xcs_i, xcs_r, xcs_z, xcs_l, Nat.reduceAdd, Nat.reduceLeDiff, Nat.reduceLT, true_and, and_true, Option.toList_some, Option.toList_none, List.nil_append, List.cons_append, List.getElem?_cons_zero, List.getElem?_cons_succ, List.set_cons_zero, List.set_cons_succ, List.length_cons, List.length_nil, y_bool0, y_bool1, not_true_eq_false, not_false_eq_true, false_implies, true_implies, true_or, or_true, false_or, or_false, if_true, if_false, ite_true, ite_false, wp_msh_t ha, z10, y_get, H1.o, H1.ld0 ha, s1, t9, H1.cls]
    by_cases q : (sSh s a).1 = none
    · rw [if_pos (by rw [q]; rfl)] at hK
      refine ⟨fun z => absurd q z, fun _ => ?_⟩
      refine wp_mfails H1 fun h2 H2 F2 => ?_
      simp only [w142_0, w142_0n, w142_1, w142_2, w142_5, w142_6, w142_9, w142_12, w142_13, w142_14, w142_14n, w142_15, w142_18, w142_19, w142_20, w142_22, w142_25, w142_25n, w142_26, w142_27, w142_30, w142_31, w142_32, w142_33, w142_33n, w142_34, w142_37, w142_38, w142_39, w142_40, w142_41, w142_44, w142_47, w142_47n, w142_48, w142_49, w142_52, w142_53, w142_53n, w142_54, w142_57, w142_59, w142_60, w142_61, w142_62, w142_63, w142_63n, w142_64, w142_67, w142_68, w142_69, w142_72, w142_73, w142_74, w142_77, w142_77n, w142_78, w142_81, w142_82, w142_83, w142_84, w142_87, w142_88, w142_89, w142_92, w142_93, w142_94, w142_95, xk_n, xk_i, xk_r, xk_z, xk_l, xcs_0, xcs_i, xcs_r, xcs_z, xcs_l, Nat.reduceAdd, Nat.reduceLeDiff, Nat.reduceLT, true_and, and_true, Option.toList_some, Option.toList_none, List.nil_append, List.cons_append, List.getElem?_cons_zero, List.getElem?_cons_succ, List.set_cons_zero, List.set_cons_succ, List.length_cons, List.length_nil, y_bool0, y_bool1, not_true_eq_false, not_false_eq_true, false_implies, true_implies, true_or, or_true, false_or, or_false, if_true, if_false, ite_true, ite_false]
      exact hK h2 ⟨hi, p, rH, rW, A, hg, h5, H2, G, S0, R⟩ (F1.tr F2)
    · rw [if_neg (by cases z : (sSh s a).1; exact absurd z q; simp)] at hK
      refine ⟨fun _ => ?_, fun z => absurd z q⟩
      rcases nb_cas i (m := (sSh s a).2.1) (by omega) with ⟨b, hb, rfl, hn2⟩ | ⟨hc2, hn2⟩
      · rw [hn2] at hK
        simp only [w142_0, w142_0n, w142_1, w142_2, w142_5, w142_6, w142_9, w142_12, w142_13, w142_14, w142_14n, w142_15, w142_18, w142_19, w142_20, w142_22, w142_25, w142_25n, w142_26, w142_27, w142_30, w142_31, w142_32, w142_33, w142_33n, w142_34, w142_37, w142_38, w142_39, w142_40, w142_41, w142_44, w142_47, w142_47n, w142_48, w142_49, w142_52, w142_54, w142_57, w142_59, w142_60, w142_61, w142_62, w142_63, w142_63n, w142_64, w142_67, w142_68, w142_69, w142_72, w142_73, w142_74, w142_77, w142_77n, w142_78, w142_81, w142_82, w142_83, w142_84, w142_87, w142_88, w142_89, w142_92, w142_93, w142_94, w142_95, xk_n, xk_i, xk_r, xk_z, xk_l, xcs_0, xcs_i, xcs_r, xcs_z, xcs_l, Nat.reduceAdd, Nat.reduceLeDiff, Nat.reduceLT, true_and, and_true, Option.toList_some, Option.toList_none, List.nil_append, List.cons_append, List.getElem?_cons_zero, List.getElem?_cons_succ, List.set_cons_zero, List.set_cons_succ, List.length_cons, List.length_nil, y_bool0, y_bool1, not_true_eq_false, not_false_eq_true, false_implies, true_implies, true_or, or_true, false_or, or_false, if_true, if_false, ite_true, ite_false, y_get, H1.o, H1.ld1 ha, s2 q, wp_wm_t (m := (sSh s a).2.1) (by omega) hb, z10]
        have z1 : (50 : Int32) * Int32.ofNat a = Int32.ofNat (50 * a) := n_lmul a 50
        have z2 : Int32.ofNat (50 * a) + Int32.ofNat b = Int32.ofNat (50 * a + b) := n_add _ _
        have t0 : (oC (sSh s a).1 = 0) = ((sSh s a).1 = some 0) := oC_eq (b := 0) (fun x hx => by have := s4 x hx; omega) (by omega)
        have t1 : (oC (sSh s a).1 = 1) = ((sSh s a).1 = some 1) := oC_eq (b := 1) (fun x hx => by have := s4 x hx; omega) (by omega)
        have fin : ∀ x : Int32, x = cvt (sSh s a).1 v → y_iast h1 28 (Int32.ofNat (50 * a + b)) x (fun h2 => K (some (.int 1)) h2) := by
          intro x hx
          refine H1.st2 (show 50 * a + b < 200 by omega) fun h2 H2 F2 => ?_
          rw [hx] at H2
          refine hK h2 ⟨hi, p, rH, rW, _, hg, h5, H2, G, ?_, R⟩ (F1.tr F2)
          refine S0.row ha (fun x hx' => ?_) (fun y hy => upd_ne _ _ (by omega))
          by_cases z : x = b
          · rw [z, upd_at, upd_at]
          · rw [upd_ne _ _ (by omega), upd_ne _ _ z]; exact s5 x hx'
        simp only [w142_0, w142_0n, w142_1, w142_2, w142_5, w142_6, w142_9, w142_12, w142_13, w142_14, w142_14n, w142_15, w142_18, w142_19, w142_20, w142_22, w142_25, w142_25n, w142_26, w142_27, w142_30, w142_31, w142_32, w142_33, w142_33n, w142_34, w142_37, w142_38, w142_39, w142_40, w142_41, w142_44, w142_47, w142_47n, w142_48, w142_49, w142_52, w142_53, w142_53n, w142_54, w142_57, w142_59, w142_60, w142_61, w142_62, w142_63, w142_63n, w142_64, w142_67, w142_68, w142_69, w142_72, w142_73, w142_74, w142_77, w142_77n, w142_78, w142_81, w142_82, w142_83, w142_84, w142_87, w142_88, w142_89, w142_92, w142_93, w142_94, w142_95, xk_n, xk_i, xk_r, xk_z, xk_l, xcs_0, xcs_i, xcs_r, xcs_z, xcs_l, Nat.reduceAdd, Nat.reduceLeDiff, Nat.reduceLT, true_and, and_true, Option.toList_some, Option.toList_none, List.nil_append, List.cons_append, List.getElem?_cons_zero, List.getElem?_cons_succ, List.set_cons_zero, List.set_cons_succ, List.length_cons, List.length_nil, y_bool0, y_bool1, not_true_eq_false, not_false_eq_true, false_implies, true_implies, true_or, or_true, false_or, or_false, if_true, if_false, ite_true, ite_false, y_get, H1.o, H1.ld0 ha, s1, z1, z2, t0, t1]
        by_cases c0 : (sSh s a).1 = some 0
        · refine ⟨fun z => absurd c0 z, fun _ => fin _ ?_⟩
          unfold cvt
          rw [if_pos c0]
        · refine ⟨fun _ => ?_, fun z => absurd z c0⟩
          by_cases c1 : (sSh s a).1 = some 1
          · refine ⟨fun z => absurd c1 z, fun _ => fin _ ?_⟩
            unfold cvt
            rw [if_neg c0, if_pos c1]
          · refine ⟨fun _ => fin _ ?_, fun z => absurd z c1⟩
            unfold cvt
            rw [if_neg c0, if_neg c1]
      · rw [hn2] at hK
        simp only [w142_0, w142_0n, w142_1, w142_2, w142_5, w142_6, w142_9, w142_12, w142_13, w142_14, w142_14n, w142_15, w142_18, w142_19, w142_20, w142_22, w142_25, w142_25n, w142_26, w142_27, w142_30, w142_31, w142_32, w142_33, w142_33n, w142_34, w142_37, w142_38, w142_39, w142_40, w142_41, w142_44, w142_47, w142_47n, w142_48, w142_49, w142_52, w142_54, w142_57, w142_59, w142_60, w142_61, w142_62, w142_63, w142_63n, w142_64, w142_67, w142_68, w142_69, w142_72, w142_73, w142_74, w142_77, w142_77n, w142_78, w142_81, w142_82, w142_83, w142_84, w142_87, w142_88, w142_89, w142_92, w142_93, w142_94, w142_95, xk_n, xk_i, xk_r, xk_z, xk_l, xcs_0, xcs_i, xcs_r, xcs_z, xcs_l, Nat.reduceAdd, Nat.reduceLeDiff, Nat.reduceLT, true_and, and_true, Option.toList_some, Option.toList_none, List.nil_append, List.cons_append, List.getElem?_cons_zero, List.getElem?_cons_succ, List.set_cons_zero, List.set_cons_succ, List.length_cons, List.length_nil, y_bool0, y_bool1, not_true_eq_false, not_false_eq_true, false_implies, true_implies, true_or, or_true, false_or, or_false, if_true, if_false, ite_true, ite_false, y_get, H1.o, H1.ld1 ha, s2 q, wp_wm_f (m := (sSh s a).2.1) (by omega) hc2, H1.cls]
        refine wp_mfails H1 fun h2 H2 F2 => ?_
        simp only [w142_0, w142_0n, w142_1, w142_2, w142_5, w142_6, w142_9, w142_12, w142_13, w142_14, w142_14n, w142_15, w142_18, w142_19, w142_20, w142_22, w142_25, w142_25n, w142_26, w142_27, w142_30, w142_31, w142_32, w142_33, w142_33n, w142_34, w142_37, w142_38, w142_39, w142_40, w142_41, w142_44, w142_47, w142_47n, w142_48, w142_49, w142_52, w142_53, w142_53n, w142_54, w142_57, w142_59, w142_60, w142_61, w142_62, w142_63, w142_63n, w142_64, w142_67, w142_68, w142_69, w142_72, w142_73, w142_74, w142_77, w142_77n, w142_78, w142_81, w142_82, w142_83, w142_84, w142_87, w142_88, w142_89, w142_92, w142_93, w142_94, w142_95, xk_n, xk_i, xk_r, xk_z, xk_l, xcs_0, xcs_i, xcs_r, xcs_z, xcs_l, Nat.reduceAdd, Nat.reduceLeDiff, Nat.reduceLT, true_and, and_true, Option.toList_some, Option.toList_none, List.nil_append, List.cons_append, List.getElem?_cons_zero, List.getElem?_cons_succ, List.set_cons_zero, List.set_cons_succ, List.length_cons, List.length_nil, y_bool0, y_bool1, not_true_eq_false, not_false_eq_true, false_implies, true_implies, true_or, or_true, false_or, or_false, if_true, if_false, ite_true, ite_false]
        exact hK h2 ⟨hi, p, rH, rW, A, hg, h5, H2, G, S0, R⟩ (F1.tr F2)
  · have e1 : opPut s k i v = (-1, stF s 0) := by unfold opPut; rw [hn]
    rw [e1] at hK
    simp only [w142_0, w142_0n, w142_1, w142_2, w142_5, w142_6, w142_9, w142_12, w142_13, w142_14, w142_14n, w142_15, w142_18, w142_19, w142_20, w142_22, w142_25, w142_25n, w142_26, w142_27, w142_30, w142_31, w142_32, w142_33, w142_33n, w142_34, w142_37, w142_38, w142_39, w142_40, w142_41, w142_44, w142_47, w142_47n, w142_48, w142_49, w142_52, w142_53, w142_53n, w142_54, w142_57, w142_59, w142_60, w142_61, w142_62, w142_63, w142_63n, w142_64, w142_67, w142_68, w142_69, w142_72, w142_73, w142_74, w142_77, w142_77n, w142_78, w142_81, w142_82, w142_83, w142_84, w142_87, w142_88, w142_89, w142_92, w142_93, w142_94, w142_95, xk_n, xk_i, xk_r, xk_z, xk_l, xcs_0, xcs_i, xcs_r, xcs_z, xcs_l, Nat.reduceAdd, Nat.reduceLeDiff, Nat.reduceLT, true_and, and_true, Option.toList_some, Option.toList_none, List.nil_append, List.cons_append, List.getElem?_cons_zero, List.getElem?_cons_succ, List.set_cons_zero, List.set_cons_succ, List.length_cons, List.length_nil, y_bool0, y_bool1, not_true_eq_false, not_false_eq_true, false_implies, true_implies, true_or, or_true, false_or, or_false, if_true, if_false, ite_true, ite_false, wp_msh_f hc]
    exact hK h1 ⟨hi, p, rH, rW, A, hg, h5, H1, G, S, R⟩ F1
theorem mop_cell (H : RM h s) (k i l : Int32) (hK : ∀ h', RM h' (opCell s k i l).2 → FR MP 0 0 h h' → K (some (.long (opCell s k i l).1)) h') : wp (d + 2) 143 0 [some (.ref 25), some (.int k), some (.int i), some (.int l)] [] h K := by
  obtain ⟨hi, p, rH, rW, A, hg, h5, H, G, S, R⟩ := H
  have z10 : ((1 : Int32) = 0) = False := eq_false (by decide)
  simp only [w143_0, w143_0n, w143_1, w143_2, w143_6, w143_9, w143_12, w143_13, w143_16, w143_19, w143_22, w143_23, w143_23n, w143_24, w143_27, w143_28, w143_29, w143_31, w143_34, w143_34n, w143_35, w143_38, w143_39, w143_40, w143_41, w143_44, w143_44n, w143_45, w143_46, w143_49, w143_50, w143_50n, w143_51, w143_54, w143_55, w143_56, w143_58, w143_61, w143_61n, w143_62, w143_63, w143_66, w143_67, w143_68, w143_69, w143_69n, w143_70, w143_73, w143_74, w143_75, w143_76, w143_77, w143_80, w143_83, w143_83n, w143_84, w143_85, w143_88, w143_89, w143_89n, w143_90, w143_93, w143_95, w143_96, w143_97, w143_98, w143_99, w143_100, w143_101, xk_n, xk_i, xk_r, xk_z, xk_l, xcs_0, xcs_i, xcs_r, xcs_z, xcs_l, Nat.reduceAdd, Nat.reduceLeDiff, Nat.reduceLT, true_and, and_true, Option.toList_some, Option.toList_none, List.nil_append, List.cons_append, List.getElem?_cons_zero, List.getElem?_cons_succ, List.set_cons_zero, List.set_cons_succ, List.length_cons, List.length_nil, y_bool0, y_bool1, not_true_eq_false, not_false_eq_true, false_implies, true_implies, true_or, or_true, false_or, or_false, if_true, if_false, ite_true, ite_false]
  refine H.p_fa fun h1 H1 F1 => ?_
  rcases nb_cas k (m := 4) (by omega) with ⟨a, ha, rfl, hn⟩ | ⟨hc, hn⟩
  · rcases nb_cas l (m := 3) (by omega) with ⟨b, hb, rfl, hn2⟩ | ⟨hc2, hn2⟩
    · have e1 : opCell s (Int32.ofNat a) i (Int32.ofNat b) = if (sSh s a).1 = none then ((-9223372036854775808 : Int64), stF s 1) else if (sSh s a).1 = some b then (match nb i (sSh s a).2.1 with
        | none => (-9223372036854775808, stF s 3)
        | some i => (((sSh s a).2.2 i).toInt64, stF s 0)) else (-9223372036854775808, stF s 2) := by unfold opCell; rw [hn]; dsimp only; rw [hn2]; rfl
      rw [e1] at hK
      have S0 := S
      obtain ⟨s1, s2, s3, s4, s5⟩ := S a ha
      have t9 := oC_9 (o := (sSh s a).1) (fun x hx => by have := s4 x hx; omega)
      have e2 := oC_eq (o := (sSh s a).1) (b := b) (fun x hx => by have := s4 x hx; omega) (by omega)
      simp only [w143_0, w143_0n, w143_1, w143_2, w143_5, w143_6, w143_9, w143_12, w143_13, w143_16, w143_19, w143_22, w143_23, w143_23n, w143_24, w143_27, w143_28, w143_29, w143_31, w143_34, w143_34n, w143_35, w143_38, w143_39, w143_40, w143_41, w143_44, w143_44n, w143_45, w143_46, w143_49, w143_50, w143_50n, w143_51, w143_54, w143_55, w143_56, w143_58, w143_61, w143_61n, w143_62, w143_63, w143_66, w143_68, w143_69, w143_69n, w143_70, w143_73, w143_74, w143_75, w143_76, w143_77, w143_80, w143_83, w143_83n, w143_84, w143_85, w143_88, w143_89, w143_89n, w143_90, w143_93, w143_95, w143_96, w143_97, w143_98, w143_99, w143_100, w143_101, xk_n, xk_i, xk_r, xk_z, xk_l, xcs_0, xcs_i, xcs_r, xcs_z, xcs_l, Nat.reduceAdd, Nat.reduceLeDiff, Nat.reduceLT, true_and, and_true, Option.toList_some, Option.toList_none, List.nil_append, List.cons_append, List.getElem?_cons_zero, List.getElem?_cons_succ, List.set_cons_zero, List.set_cons_succ, List.length_cons, List.length_nil, y_bool0, y_bool1, not_true_eq_false, not_false_eq_true, false_implies, true_implies, true_or, or_true, false_or, or_false, if_true, if_false, ite_true, ite_false, wp_msh_t ha, wp_mso_t hb, z10, y_get, H1.o, H1.ld0 ha, s1, t9, e2, H1.cls]
      by_cases q : (sSh s a).1 = none
      · rw [if_pos q] at hK
        have x2 : wp (d + 1) 93 0 [some (.ref 25), some (.int 1)] [] h1 (fun v h2 => wp (d + 1 + 1) 143 66 [some (.ref 25), some (.int (Int32.ofNat a)), some (.int i), some (.int (Int32.ofNat b))] (v.toList ++ []) h2 K) := by
          refine wp_mlost H1 fun h2 H2 F2 => ?_
          simp only [w143_0, w143_0n, w143_1, w143_2, w143_5, w143_6, w143_9, w143_12, w143_13, w143_16, w143_19, w143_22, w143_23, w143_23n, w143_24, w143_27, w143_28, w143_29, w143_31, w143_34, w143_34n, w143_35, w143_38, w143_39, w143_40, w143_41, w143_44, w143_44n, w143_45, w143_46, w143_49, w143_50, w143_50n, w143_51, w143_54, w143_55, w143_56, w143_58, w143_61, w143_61n, w143_62, w143_63, w143_66, w143_67, w143_68, w143_69, w143_69n, w143_70, w143_73, w143_74, w143_75, w143_76, w143_77, w143_80, w143_83, w143_83n, w143_84, w143_85, w143_88, w143_89, w143_89n, w143_90, w143_93, w143_95, w143_96, w143_97, w143_98, w143_99, w143_100, w143_101, xk_n, xk_i, xk_r, xk_z, xk_l, xcs_0, xcs_i, xcs_r, xcs_z, xcs_l, Nat.reduceAdd, Nat.reduceLeDiff, Nat.reduceLT, true_and, and_true, Option.toList_some, Option.toList_none, List.nil_append, List.cons_append, List.getElem?_cons_zero, List.getElem?_cons_succ, List.set_cons_zero, List.set_cons_succ, List.length_cons, List.length_nil, y_bool0, y_bool1, not_true_eq_false, not_false_eq_true, false_implies, true_implies, true_or, or_true, false_or, or_false, if_true, if_false, ite_true, ite_false]
          exact hK h2 ⟨hi, p, rH, rW, A, hg, h5, H2, G, S0, R⟩ (F1.tr F2)
        refine ⟨fun _ => ⟨fun z => absurd q z, fun _ => x2⟩, fun z => absurd q z⟩
      · rw [if_neg q] at hK
        refine ⟨fun z => absurd z q, fun _ => ?_⟩
        by_cases q2 : (sSh s a).1 = some b
        · rw [if_pos q2] at hK
          refine ⟨fun _ => ⟨fun _ => ?_, fun z => absurd z q⟩, fun z => absurd q2 z⟩
          rcases nb_cas i (m := (sSh s a).2.1) (by omega) with ⟨c, hc, rfl, hn3⟩ | ⟨hc3, hn3⟩
          · rw [hn3] at hK
            have z1 : (50 : Int32) * Int32.ofNat a = Int32.ofNat (50 * a) := n_lmul a 50
            have z2 : Int32.ofNat (50 * a) + Int32.ofNat c = Int32.ofNat (50 * a + c) := n_add _ _
            simp only [w143_0, w143_0n, w143_1, w143_2, w143_5, w143_6, w143_9, w143_12, w143_13, w143_16, w143_19, w143_22, w143_23, w143_23n, w143_24, w143_27, w143_28, w143_29, w143_31, w143_34, w143_34n, w143_35, w143_38, w143_39, w143_40, w143_41, w143_44, w143_44n, w143_45, w143_46, w143_49, w143_50, w143_50n, w143_51, w143_54, w143_55, w143_56, w143_58, w143_61, w143_61n, w143_62, w143_63, w143_66, w143_67, w143_68, w143_69, w143_69n, w143_70, w143_73, w143_74, w143_75, w143_76, w143_77, w143_80, w143_83, w143_83n, w143_84, w143_85, w143_88, w143_89, w143_89n, w143_90, w143_93, w143_95, w143_96, w143_97, w143_98, w143_99, w143_100, w143_101, xk_n, xk_i, xk_r, xk_z, xk_l, xcs_0, xcs_i, xcs_r, xcs_z, xcs_l, Nat.reduceAdd, Nat.reduceLeDiff, Nat.reduceLT, true_and, and_true, Option.toList_some, Option.toList_none, List.nil_append, List.cons_append, List.getElem?_cons_zero, List.getElem?_cons_succ, List.set_cons_zero, List.set_cons_succ, List.length_cons, List.length_nil, y_bool0, y_bool1, not_true_eq_false, not_false_eq_true, false_implies, true_implies, true_or, or_true, false_or, or_false, if_true, if_false, ite_true, ite_false, y_get, H1.o, H1.ld1 ha, s2 q, wp_wm_t (m := (sSh s a).2.1) (by omega) hc, z10, z1, z2, H1.ld2 (show 50 * a + c < 200 by omega), s5 c (by omega)]
            exact hK h1 ⟨hi, p, rH, rW, A, hg, h5, H1, G, S0, R⟩ F1
          · rw [hn3] at hK
            simp only [w143_0, w143_0n, w143_1, w143_2, w143_5, w143_6, w143_9, w143_12, w143_13, w143_16, w143_19, w143_22, w143_23, w143_23n, w143_24, w143_27, w143_28, w143_29, w143_31, w143_34, w143_34n, w143_35, w143_38, w143_39, w143_40, w143_41, w143_44, w143_44n, w143_45, w143_46, w143_49, w143_50, w143_50n, w143_51, w143_54, w143_55, w143_56, w143_58, w143_61, w143_61n, w143_62, w143_63, w143_66, w143_67, w143_68, w143_69, w143_69n, w143_70, w143_73, w143_74, w143_75, w143_76, w143_77, w143_80, w143_83, w143_83n, w143_84, w143_85, w143_88, w143_89, w143_89n, w143_90, w143_93, w143_95, w143_96, w143_97, w143_98, w143_99, w143_100, w143_101, xk_n, xk_i, xk_r, xk_z, xk_l, xcs_0, xcs_i, xcs_r, xcs_z, xcs_l, Nat.reduceAdd, Nat.reduceLeDiff, Nat.reduceLT, true_and, and_true, Option.toList_some, Option.toList_none, List.nil_append, List.cons_append, List.getElem?_cons_zero, List.getElem?_cons_succ, List.set_cons_zero, List.set_cons_succ, List.length_cons, List.length_nil, y_bool0, y_bool1, not_true_eq_false, not_false_eq_true, false_implies, true_implies, true_or, or_true, false_or, or_false, if_true, if_false, ite_true, ite_false, y_get, H1.o, H1.ld1 ha, s2 q, wp_wm_f (m := (sSh s a).2.1) (by omega) hc3, H1.cls]
            refine wp_mlost H1 fun h2 H2 F2 => ?_
            simp only [w143_0, w143_0n, w143_1, w143_2, w143_5, w143_6, w143_9, w143_12, w143_13, w143_16, w143_19, w143_22, w143_23, w143_23n, w143_24, w143_27, w143_28, w143_29, w143_31, w143_34, w143_34n, w143_35, w143_38, w143_39, w143_40, w143_41, w143_44, w143_44n, w143_45, w143_46, w143_49, w143_50, w143_50n, w143_51, w143_54, w143_55, w143_56, w143_58, w143_61, w143_61n, w143_62, w143_63, w143_66, w143_67, w143_68, w143_69, w143_69n, w143_70, w143_73, w143_74, w143_75, w143_76, w143_77, w143_80, w143_83, w143_83n, w143_84, w143_85, w143_88, w143_89, w143_89n, w143_90, w143_93, w143_95, w143_96, w143_97, w143_98, w143_99, w143_100, w143_101, xk_n, xk_i, xk_r, xk_z, xk_l, xcs_0, xcs_i, xcs_r, xcs_z, xcs_l, Nat.reduceAdd, Nat.reduceLeDiff, Nat.reduceLT, true_and, and_true, Option.toList_some, Option.toList_none, List.nil_append, List.cons_append, List.getElem?_cons_zero, List.getElem?_cons_succ, List.set_cons_zero, List.set_cons_succ, List.length_cons, List.length_nil, y_bool0, y_bool1, not_true_eq_false, not_false_eq_true, false_implies, true_implies, true_or, or_true, false_or, or_false, if_true, if_false, ite_true, ite_false]
            exact hK h2 ⟨hi, p, rH, rW, A, hg, h5, H2, G, S0, R⟩ (F1.tr F2)
        · rw [if_neg q2] at hK
          refine ⟨fun z => absurd z q2, fun _ => ?_⟩
          refine wp_mlost H1 fun h2 H2 F2 => ?_
          simp only [w143_0, w143_0n, w143_1, w143_2, w143_5, w143_6, w143_9, w143_12, w143_13, w143_16, w143_19, w143_22, w143_23, w143_23n, w143_24, w143_27, w143_28, w143_29, w143_31, w143_34, w143_34n, w143_35, w143_38, w143_39, w143_40, w143_41, w143_44, w143_44n, w143_45, w143_46, w143_49, w143_50, w143_50n, w143_51, w143_54, w143_55, w143_56, w143_58, w143_61, w143_61n, w143_62, w143_63, w143_66, w143_67, w143_68, w143_69, w143_69n, w143_70, w143_73, w143_74, w143_75, w143_76, w143_77, w143_80, w143_83, w143_83n, w143_84, w143_85, w143_88, w143_89, w143_89n, w143_90, w143_93, w143_95, w143_96, w143_97, w143_98, w143_99, w143_100, w143_101, xk_n, xk_i, xk_r, xk_z, xk_l, xcs_0, xcs_i, xcs_r, xcs_z, xcs_l, Nat.reduceAdd, Nat.reduceLeDiff, Nat.reduceLT, true_and, and_true, Option.toList_some, Option.toList_none, List.nil_append, List.cons_append, List.getElem?_cons_zero, List.getElem?_cons_succ, List.set_cons_zero, List.set_cons_succ, List.length_cons, List.length_nil, y_bool0, y_bool1, not_true_eq_false, not_false_eq_true, false_implies, true_implies, true_or, or_true, false_or, or_false, if_true, if_false, ite_true, ite_false]
          exact hK h2 ⟨hi, p, rH, rW, A, hg, h5, H2, G, S0, R⟩ (F1.tr F2)
    · have e1 : opCell s (Int32.ofNat a) i l = (-9223372036854775808, stF s 0) := by unfold opCell; rw [hn]; dsimp only; rw [hn2]
      rw [e1] at hK
      simp only [w143_0, w143_0n, w143_1, w143_2, w143_5, w143_6, w143_9, w143_12, w143_13, w143_16, w143_19, w143_22, w143_23, w143_23n, w143_24, w143_27, w143_28, w143_29, w143_31, w143_34, w143_34n, w143_35, w143_38, w143_39, w143_40, w143_41, w143_44, w143_44n, w143_45, w143_46, w143_49, w143_50, w143_50n, w143_51, w143_54, w143_55, w143_56, w143_58, w143_61, w143_61n, w143_62, w143_63, w143_66, w143_67, w143_68, w143_69, w143_69n, w143_70, w143_73, w143_74, w143_75, w143_76, w143_77, w143_80, w143_83, w143_83n, w143_84, w143_85, w143_88, w143_89, w143_89n, w143_90, w143_93, w143_95, w143_96, w143_97, w143_98, w143_99, w143_100, w143_101, xk_n, xk_i, xk_r, xk_z, xk_l, xcs_0, xcs_i, xcs_r, xcs_z, xcs_l, Nat.reduceAdd, Nat.reduceLeDiff, Nat.reduceLT, true_and, and_true, Option.toList_some, Option.toList_none, List.nil_append, List.cons_append, List.getElem?_cons_zero, List.getElem?_cons_succ, List.set_cons_zero, List.set_cons_succ, List.length_cons, List.length_nil, y_bool0, y_bool1, not_true_eq_false, not_false_eq_true, false_implies, true_implies, true_or, or_true, false_or, or_false, if_true, if_false, ite_true, ite_false, wp_msh_t ha, wp_mso_f hc2, z10]
      exact hK h1 ⟨hi, p, rH, rW, A, hg, h5, H1, G, S, R⟩ F1
  · have e1 : opCell s k i l = (-9223372036854775808, stF s 0) := by unfold opCell; rw [hn]
    rw [e1] at hK
    simp only [w143_0, w143_0n, w143_1, w143_2, w143_5, w143_6, w143_9, w143_12, w143_13, w143_16, w143_19, w143_22, w143_23, w143_23n, w143_24, w143_27, w143_28, w143_29, w143_31, w143_34, w143_34n, w143_35, w143_38, w143_39, w143_40, w143_41, w143_44, w143_44n, w143_45, w143_46, w143_49, w143_50, w143_50n, w143_51, w143_54, w143_55, w143_56, w143_58, w143_61, w143_61n, w143_62, w143_63, w143_66, w143_67, w143_68, w143_69, w143_69n, w143_70, w143_73, w143_74, w143_75, w143_76, w143_77, w143_80, w143_83, w143_83n, w143_84, w143_85, w143_88, w143_89, w143_89n, w143_90, w143_93, w143_95, w143_96, w143_97, w143_98, w143_99, w143_100, w143_101, xk_n, xk_i, xk_r, xk_z, xk_l, xcs_0, xcs_i, xcs_r, xcs_z, xcs_l, Nat.reduceAdd, Nat.reduceLeDiff, Nat.reduceLT, true_and, and_true, Option.toList_some, Option.toList_none, List.nil_append, List.cons_append, List.getElem?_cons_zero, List.getElem?_cons_succ, List.set_cons_zero, List.set_cons_succ, List.length_cons, List.length_nil, y_bool0, y_bool1, not_true_eq_false, not_false_eq_true, false_implies, true_implies, true_or, or_true, false_or, or_false, if_true, if_false, ite_true, ite_false, wp_msh_f hc]
    exact hK h1 ⟨hi, p, rH, rW, A, hg, h5, H1, G, S, R⟩ F1
end
section
variable {d : Nat} {K : Option Value → xH → Prop}
theorem wp_mcp {fa tr hi w nv p rH rW nr : Int32} {A : Nat → Nat → Int32} {k i o j n : Nat} {l6 : Option Value} {ah : Bool} (hk : k < 4) (ho : o < 4) (hi' : i + n ≤ 50) (hj' : j + n ≤ 50) (hah : ah = decide (i < j)) : ∀ (r q : Nat) (h : xH) (c : Nat → Int32) (l9 : Option Value), q + r = n → MH h fa tr hi w nv p rH rW nr (upA A 2 c) → (∀ x, x < n → (if ah then n - q ≤ x else x < q) → c (50 * o + j + x) = A 2 (50 * k + i + x)) → (∀ y, (∀ x, x < n → (if ah then n - q ≤ x else x < q) → y ≠ 50 * o + j + x) → c y = A 2 y) → (∀ h' c', MH h' fa tr hi w nv p rH rW nr (upA A 2 c') → (∀ x, x < n → c' (50 * o + j + x) = A 2 (50 * k + i + x)) → (∀ y, (∀ x, x < n → y ≠ 50 * o + j + x) → c' y = A 2 y) → FR MP 0 0 h h' → K (some (.int (Int32.ofNat n))) h') → wp d 144 166 [some (.ref 25), some (.int (Int32.ofNat k)), some (.int (Int32.ofNat i)), some (.int (Int32.ofNat o)), some (.int (Int32.ofNat j)), some (.int (Int32.ofNat n)), l6, some (.int (bi ah)), some (.int (Int32.ofNat q)), l9] [] h K
  | 0, q, h, c, l9, hr, H, c1, c2, hK => by
    have hq : q = n := by omega
    subst hq
    have e : Int32.ofNat q ≤ Int32.ofNat q := (n_le (by omega) (by omega)).mpr (by omega)
    rw [w144_166]
    simp only [w144_0, w144_0n, w144_1, w144_2, w144_5, w144_6, w144_9, w144_12, w144_13, w144_16, w144_19, w144_20, w144_21, w144_21n, w144_22, w144_25, w144_26, w144_27, w144_29, w144_32, w144_32n, w144_33, w144_36, w144_37, w144_38, w144_40, w144_43, w144_43n, w144_44, w144_45, w144_48, w144_49, w144_49n, w144_50, w144_53, w144_54, w144_55, w144_55n, w144_56, w144_59, w144_60, w144_61, w144_64, w144_64n, w144_65, w144_66, w144_69, w144_70, w144_71, w144_74, w144_76, w144_79, w144_81, w144_84, w144_85, w144_85n, w144_86, w144_89, w144_90, w144_91, w144_94, w144_96, w144_96n, w144_97, w144_100, w144_101, w144_102, w144_105, w144_106, w144_109, w144_110, w144_112, w144_114, w144_117, w144_119, w144_119n, w144_120, w144_123, w144_124, w144_125, w144_126, w144_127, w144_130, w144_132, w144_132n, w144_133, w144_136, w144_137, w144_138, w144_140, w144_141, w144_144, w144_144n, w144_145, w144_146, w144_149, w144_150, w144_151, w144_153, w144_156, w144_157, w144_160, w144_161, w144_163, w144_164, w144_168, w144_170, w144_173, w144_175, w144_178, w144_180, w144_181, w144_182, w144_184, w144_185, w144_188, w144_190, w144_192, w144_192n, w144_193, w144_196, w144_198, w144_199, w144_200, w144_202, w144_203, w144_205, w144_206, w144_206n, w144_207, w144_210, w144_212, w144_213, w144_214, w144_215, w144_216, w144_218, w144_219, w144_220, w144_221, w144_224, w144_227, w144_229, xk_n, xk_i, xk_r, xk_z, xk_l, xcs_0, xcs_i, xcs_r, xcs_z, xcs_l, Nat.reduceAdd, Nat.reduceLeDiff, Nat.reduceLT, true_and, and_true, Option.toList_some, Option.toList_none, List.nil_append, List.cons_append, List.getElem?_cons_zero, List.getElem?_cons_succ, List.set_cons_zero, List.set_cons_succ, List.length_cons, List.length_nil, y_bool0, y_bool1, not_true_eq_false, not_false_eq_true, false_implies, true_implies, true_or, or_true, false_or, or_false, if_true, if_false, ite_true, ite_false, e]
    refine hK h c H (fun x hx => c1 x hx ?_) (fun y hy => c2 y fun x hx _ => hy x hx) FR.rfl'
    cases ah
    · simp only [Bool.false_eq_true, if_false]; exact hx
    · simp only [if_true]; omega
  | r + 1, q, h, c, l9, hr, H, c1, c2, hK => by
    have e : (Int32.ofNat n ≤ Int32.ofNat q) = False := eq_false (by rw [n_le (by omega) (by omega)]; omega)
    have z1 : (50 : Int32) * Int32.ofNat k = Int32.ofNat (50 * k) := n_lmul k 50
    have z2 : (50 : Int32) * Int32.ofNat o = Int32.ofNat (50 * o) := n_lmul o 50
    have z8 : Int32.ofNat q + 1 = Int32.ofNat (q + 1) := n_addl q 1
    have z10 : ((1 : Int32) = 0) = False := eq_false (by decide)
    have z3 : Int32.ofNat n - 1 = Int32.ofNat (n - 1) := n_subl (m := 1) (by omega)
    have z4 : Int32.ofNat (n - 1) - Int32.ofNat q = Int32.ofNat (n - 1 - q) := n_sub (by omega)
    have z5 : Int32.ofNat (50 * k) + Int32.ofNat i = Int32.ofNat (50 * k + i) := n_add _ _
    have z6 : Int32.ofNat (50 * o) + Int32.ofNat j = Int32.ofNat (50 * o + j) := n_add _ _
    have go : ∀ (t : Nat) (l8 l9 : Option Value), t < n → (ah = true → t = n - 1 - q) → (ah = false → t = q) → y_iald h 28 (Int32.ofNat (50 * k + i + t)) (fun v => y_iast h 28 (Int32.ofNat (50 * o + j + t)) v (fun h1 => wp d 144 166 [some (.ref 25), some (.int (Int32.ofNat k)), some (.int (Int32.ofNat i)), some (.int (Int32.ofNat o)), some (.int (Int32.ofNat j)), some (.int (Int32.ofNat n)), l6, some (.int (bi ah)), some (.int (Int32.ofNat (q + 1))), l9] [] h1 K)) := by
      intro t l8 l9 ht t1 t2
      rw [H.ld2 (show 50 * k + i + t < 200 by omega)]
      refine H.st2 (show 50 * o + j + t < 200 by omega) fun h1 H1 F1 => ?_
      rw [upA_up, upA_at] at H1
      have hold : c (50 * k + i + t) = A 2 (50 * k + i + t) := by
        refine c2 _ fun x hx hxa hxx => ?_
        cases ah
        · simp only [Bool.false_eq_true, if_false] at hxa
          have := t2 rfl
          have : ¬ i < j := of_decide_eq_false hah.symm
          omega
        · simp only [if_true] at hxa
          have := t1 rfl
          have : i < j := of_decide_eq_true hah.symm
          omega
      rw [hold] at H1
      have key : ∀ x, x < n → ((if ah then n - (q + 1) ≤ x else x < q + 1) ↔ (x = t ∨ (if ah then n - q ≤ x else x < q))) := by
        intro x hx
        cases ah
        · simp only [Bool.false_eq_true, if_false]
          have := t2 rfl
          omega
        · simp only [if_true]
          have := t1 rfl
          omega
      refine wp_mcp hk ho hi' hj' hah r (q + 1) h1 _ l9 (by omega) H1 (fun x hx hxa => ?_) (fun y hy => ?_) fun h' c' a1 a2 a3 a4 => hK h' c' a1 a2 a3 (F1.tr a4)
      · by_cases z : x = t
        · rw [z, upd_at]
        · rw [upd_ne _ _ (by omega)]
          exact c1 x hx (((key x hx).mp hxa).resolve_left z)
      · rw [upd_ne _ _ (hy t ht ((key t ht).mpr (Or.inl rfl)))]
        exact c2 y fun x hx hxa => hy x hx ((key x hx).mpr (Or.inr hxa))
    rw [w144_166]
    simp only [w144_0, w144_0n, w144_1, w144_2, w144_5, w144_6, w144_9, w144_12, w144_13, w144_16, w144_19, w144_20, w144_21, w144_21n, w144_22, w144_25, w144_26, w144_27, w144_29, w144_32, w144_32n, w144_33, w144_36, w144_37, w144_38, w144_40, w144_43, w144_43n, w144_44, w144_45, w144_48, w144_49, w144_49n, w144_50, w144_53, w144_54, w144_55, w144_55n, w144_56, w144_59, w144_60, w144_61, w144_64, w144_64n, w144_65, w144_66, w144_69, w144_70, w144_71, w144_74, w144_76, w144_79, w144_81, w144_84, w144_85, w144_85n, w144_86, w144_89, w144_90, w144_91, w144_94, w144_96, w144_96n, w144_97, w144_100, w144_101, w144_102, w144_105, w144_106, w144_109, w144_110, w144_112, w144_114, w144_117, w144_119, w144_119n, w144_120, w144_123, w144_124, w144_125, w144_126, w144_127, w144_130, w144_132, w144_132n, w144_133, w144_136, w144_137, w144_138, w144_140, w144_141, w144_144, w144_144n, w144_145, w144_146, w144_149, w144_150, w144_151, w144_153, w144_156, w144_157, w144_160, w144_161, w144_163, w144_164, w144_168, w144_170, w144_173, w144_175, w144_178, w144_180, w144_181, w144_182, w144_184, w144_185, w144_188, w144_190, w144_192, w144_192n, w144_193, w144_196, w144_198, w144_199, w144_200, w144_202, w144_203, w144_205, w144_206, w144_206n, w144_207, w144_210, w144_212, w144_213, w144_214, w144_215, w144_216, w144_218, w144_219, w144_220, w144_221, w144_224, w144_227, w144_229, xk_n, xk_i, xk_r, xk_z, xk_l, xcs_0, xcs_i, xcs_r, xcs_z, xcs_l, Nat.reduceAdd, Nat.reduceLeDiff, Nat.reduceLT, true_and, and_true, Option.toList_some, Option.toList_none, List.nil_append, List.cons_append, List.getElem?_cons_zero, List.getElem?_cons_succ, List.set_cons_zero, List.set_cons_succ, List.length_cons, List.length_nil, y_bool0, y_bool1, not_true_eq_false, not_false_eq_true, false_implies, true_implies, true_or, or_true, false_or, or_false, if_true, if_false, ite_true, ite_false, e, y_get, H.o, z1, z2, z3, z4, z5, z6, z8]
    cases hb : ah
    · simp only [bi_f, xk_n, xk_i, xk_r, xk_z, xk_l, xcs_0, xcs_i, xcs_r, xcs_z, xcs_l, Nat.reduceAdd, Nat.reduceLeDiff, Nat.reduceLT, true_and, and_true, Option.toList_some, Option.toList_none, List.nil_append, List.cons_append, List.getElem?_cons_zero, List.getElem?_cons_succ, List.set_cons_zero, List.set_cons_succ, List.length_cons, List.length_nil, y_bool0, y_bool1, not_true_eq_false, not_false_eq_true, false_implies, true_implies, true_or, or_true, false_or, or_false, if_true, if_false, ite_true, ite_false, n_add]
      have := go q none (some (.int (Int32.ofNat q))) (by omega) (fun z => by rw [hb] at z; cases z) (fun _ => rfl)
      rw [hb] at this
      exact this
    · simp only [bi_t, z10, xk_n, xk_i, xk_r, xk_z, xk_l, xcs_0, xcs_i, xcs_r, xcs_z, xcs_l, Nat.reduceAdd, Nat.reduceLeDiff, Nat.reduceLT, true_and, and_true, Option.toList_some, Option.toList_none, List.nil_append, List.cons_append, List.getElem?_cons_zero, List.getElem?_cons_succ, List.set_cons_zero, List.set_cons_succ, List.length_cons, List.length_nil, y_bool0, y_bool1, not_true_eq_false, not_false_eq_true, false_implies, true_implies, true_or, or_true, false_or, or_false, if_true, if_false, ite_true, ite_false, n_add]
      have := go (n - 1 - q) none (some (.int (Int32.ofNat (n - 1 - q)))) (by omega) (fun _ => rfl) (fun z => by rw [hb] at z; cases z)
      rw [hb] at this
      exact this
end
