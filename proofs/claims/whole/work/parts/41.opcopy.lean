/-! ===== the program's calls: copy ===== -/
def opCopy (s : St) (k i o j n : Int32) : Int32 × St := match nb k 4, nb o 4 with
  | some k, some o => if (sSh s k).1.isNone then (-10 - 1, stF s 1) else if (sSh s o).1.isNone then (-10 - 1, stF s 1) else if (sSh s k).1 = (sSh s o).1 then (if hldB (sSh s k).2.1 i n then (if hldB (sSh s o).2.1 j n then (n, stH (stF s 0) o ((sSh s o).1, (sSh s o).2.1, va_cpy (sSh s k).2.2 (sSh s o).2.2 i.toNatClampNeg j.toNatClampNeg n.toNatClampNeg)) else (-10 - 3, stF s 3)) else (-10 - 3, stF s 3)) else (-10 - 2, stF s 2)
  | _, _ => (-1, stF s 0)
theorem hldB_t {n : Nat} {i k : Int32} (hn : n ≤ 1000) (h : hldB n i k = true) : ∃ a b, i = Int32.ofNat a ∧ k = Int32.ofNat b ∧ a + b ≤ n := by
  unfold hldB at h
  obtain ⟨h1, h2, h3, h4⟩ := of_decide_eq_true h
  obtain ⟨a, ha, rfl⟩ := n_of (Int32.not_lt.mpr h1)
  obtain ⟨b, hb, rfl⟩ := n_of (Int32.not_lt.mpr h3)
  have h5 : a ≤ n := (n_le (by omega) (by omega)).mp h2
  rw [n_sub h5, n_le (by omega) (by omega)] at h4
  exact ⟨a, b, rfl, rfl, by omega⟩
section
variable {d : Nat} {h : xH} {K : Option Value → xH → Prop} {s : St}
theorem cop_copy (H : RX h s) (k i o j n : Int32) (hK : ∀ h', RX h' (opCopy s k i o j n).2 → FR CP 0 0 h h' → K (some (.int (opCopy s k i o j n).1)) h') : wp (d + 2) 67 0 [some (.ref 2), some (.int k), some (.int i), some (.int o), some (.int j), some (.int n), none, none] [] h K := by
  obtain ⟨hO, e, em, er, vs, rs, H⟩ := H
  obtain ⟨H1, F1⟩ := H.F 0
  have z10 : ((1 : Int32) = 0) = False := eq_false (by decide)
  simp only [w67_0, w67_0n, w67_1, w67_2, w67_5, w67_5n, w67_6, w67_7, w67_10, w67_10n, w67_12, w67_12n, w67_13, w67_14, w67_17, w67_17n, w67_19, w67_19n, w67_21, w67_21n, w67_24, w67_24n, w67_26, w67_26n, w67_29, w67_30, w67_31, w67_31n, w67_33, w67_36, w67_39, w67_39n, w67_41, w67_44, w67_47, w67_47n, w67_48, w67_49, w67_52, w67_53, w67_53n, w67_55, w67_58, w67_58n, w67_60, w67_63, w67_66, w67_66n, w67_67, w67_68, w67_71, w67_72, w67_72n, w67_74, w67_75, w67_77, w67_80, w67_83, w67_83n, w67_85, w67_87, w67_89, w67_92, w67_95, w67_95n, w67_96, w67_97, w67_100, w67_101, w67_101n, w67_103, w67_106, w67_107, w67_107n, w67_109, w67_112, w67_114, w67_119, w67_121, xk_n, xk_i, xk_r, xk_z, xk_l, xcs_0, xcs_i, xcs_r, xcs_z, xcs_l, Nat.reduceAdd, Nat.reduceLeDiff, Nat.reduceLT, true_and, and_true, Option.toList_some, Option.toList_none, List.nil_append, List.cons_append, List.getElem?_cons_zero, List.getElem?_cons_succ, List.set_cons_zero, List.set_cons_succ, List.length_cons, List.length_nil, y_bool0, y_bool1, not_true_eq_false, not_false_eq_true, false_implies, true_implies, true_or, or_true, false_or, or_false, if_true, if_false, ite_true, ite_false, y_put, H.1]
  generalize h.set 2 (.inr (7, [.ref 3, .ref 9, .ref 15, .ref 16, .int (sTr s), .int 0])) = h1 at H1 F1
  have hX1 : RX h1 (stF s 0) := ⟨hO, e, em, er, vs, rs, H1⟩
  rcases nb_cas k (m := 4) (by omega) with ⟨a, ha, rfl, hn⟩ | ⟨hc, hn⟩
  · rcases nb_cas o (m := 4) (by omega) with ⟨b, hb, rfl, hn2⟩ | ⟨hc2, hn2⟩
    · have hS : SH h1 (17 + 2 * a) (sSh s a).1 (sSh s a).2.1 (sSh s a).2.2 := H1.sh ha
      have hT : SH h1 (17 + 2 * b) (sSh s b).1 (sSh s b).2.1 (sSh s b).2.2 := H1.sh hb
      have e1 : opCopy s (Int32.ofNat a) i (Int32.ofNat b) j n = if (sSh s a).1.isNone then ((-10 - 1 : Int32), stF s 1) else if (sSh s b).1.isNone then (-10 - 1, stF s 1) else if (sSh s a).1 = (sSh s b).1 then (if hldB (sSh s a).2.1 i n then (if hldB (sSh s b).2.1 j n then (n, stH (stF s 0) b ((sSh s b).1, (sSh s b).2.1, va_cpy (sSh s a).2.2 (sSh s b).2.2 i.toNatClampNeg j.toNatClampNeg n.toNatClampNeg)) else (-10 - 3, stF s 3)) else (-10 - 3, stF s 3)) else (-10 - 2, stF s 2) := by unfold opCopy; rw [hn, hn2]
      rw [e1] at hK
      have e2 : (oC (sSh s a).1 = oC (sSh s b).1) = ((sSh s a).1 = (sSh s b).1) := by
        cases qb : (sSh s b).1 with
        | none => exact oC_9 (fun x hx => by have := hS.2.2.2.2 x hx; omega)
        | some y => exact oC_eq (fun x hx => by have := hS.2.2.2.2 x hx; omega) (by have := hT.2.2.2.2 y qb; omega)
      simp only [w67_0, w67_0n, w67_1, w67_2, w67_5, w67_5n, w67_6, w67_7, w67_10, w67_10n, w67_12, w67_12n, w67_13, w67_14, w67_17, w67_17n, w67_19, w67_19n, w67_21, w67_21n, w67_24, w67_24n, w67_26, w67_26n, w67_29, w67_30, w67_31, w67_31n, w67_33, w67_36, w67_39, w67_39n, w67_41, w67_44, w67_47, w67_47n, w67_48, w67_49, w67_52, w67_53, w67_53n, w67_55, w67_58, w67_58n, w67_60, w67_63, w67_66, w67_66n, w67_67, w67_68, w67_71, w67_72, w67_72n, w67_74, w67_75, w67_77, w67_80, w67_83, w67_83n, w67_85, w67_87, w67_89, w67_92, w67_95, w67_95n, w67_96, w67_97, w67_100, w67_101, w67_101n, w67_103, w67_106, w67_107, w67_107n, w67_109, w67_112, w67_114, w67_119, w67_121, xk_n, xk_i, xk_r, xk_z, xk_l, xcs_0, xcs_i, xcs_r, xcs_z, xcs_l, Nat.reduceAdd, Nat.reduceLeDiff, Nat.reduceLT, true_and, and_true, Option.toList_some, Option.toList_none, List.nil_append, List.cons_append, List.getElem?_cons_zero, List.getElem?_cons_succ, List.set_cons_zero, List.set_cons_succ, List.length_cons, List.length_nil, y_bool0, y_bool1, not_true_eq_false, not_false_eq_true, false_implies, true_implies, true_or, or_true, false_or, or_false, if_true, if_false, ite_true, ite_false, H1.cls, wp_sheetAt H1 ha, wp_sheetAt H1 hb, hS.cls, hT.cls, wp_isNothing hS, wp_isNothing hT, y_get, hS.1, hT.1, e2, wp_holds hS, wp_holds hT]
      have fl : ∀ f, (∀ h', RX h' (stF s f) → FR CP 0 0 h h' → K (some (.int (-10 - f))) h') → wp (d + 1) 76 0 [some (.ref 2), some (.int f)] [] h1 (fun v h1 => wp (d + 1 + 1) 67 52 [some (.ref 2), some (.int (Int32.ofNat a)), some (.int i), some (.int (Int32.ofNat b)), some (.int j), some (.int n), some (.ref (17 + 2 * a)), some (.ref (17 + 2 * b))] (v.toList ++ []) h1 K) := by
        intro f hK
        refine wp_failed H1 fun h' H' F' => ?_
        simp only [w67_0, w67_0n, w67_1, w67_2, w67_5, w67_5n, w67_6, w67_7, w67_10, w67_10n, w67_12, w67_12n, w67_13, w67_14, w67_17, w67_17n, w67_19, w67_19n, w67_21, w67_21n, w67_24, w67_24n, w67_26, w67_26n, w67_29, w67_30, w67_31, w67_31n, w67_33, w67_36, w67_39, w67_39n, w67_41, w67_44, w67_47, w67_47n, w67_48, w67_49, w67_52, w67_53, w67_53n, w67_55, w67_58, w67_58n, w67_60, w67_63, w67_66, w67_66n, w67_67, w67_68, w67_71, w67_72, w67_72n, w67_74, w67_75, w67_77, w67_80, w67_83, w67_83n, w67_85, w67_87, w67_89, w67_92, w67_95, w67_95n, w67_96, w67_97, w67_100, w67_101, w67_101n, w67_103, w67_106, w67_107, w67_107n, w67_109, w67_112, w67_114, w67_119, w67_121, xk_n, xk_i, xk_r, xk_z, xk_l, xcs_0, xcs_i, xcs_r, xcs_z, xcs_l, Nat.reduceAdd, Nat.reduceLeDiff, Nat.reduceLT, true_and, and_true, Option.toList_some, Option.toList_none, List.nil_append, List.cons_append, List.getElem?_cons_zero, List.getElem?_cons_succ, List.set_cons_zero, List.set_cons_succ, List.length_cons, List.length_nil, y_bool0, y_bool1, not_true_eq_false, not_false_eq_true, false_implies, true_implies, true_or, or_true, false_or, or_false, if_true, if_false, ite_true, ite_false]
        exact hK h' ⟨hO, e, em, er, vs, rs, H'⟩ (F1.tr F')
      have fl2 : ∀ f, (∀ h', RX h' (stF s f) → FR CP 0 0 h h' → K (some (.int (-10 - f))) h') → wp (d + 1) 76 0 [some (.ref 2), some (.int f)] [] h1 (fun v h1 => wp (d + 1 + 1) 67 71 [some (.ref 2), some (.int (Int32.ofNat a)), some (.int i), some (.int (Int32.ofNat b)), some (.int j), some (.int n), some (.ref (17 + 2 * a)), some (.ref (17 + 2 * b))] (v.toList ++ []) h1 K) := by
        intro f hK
        refine wp_failed H1 fun h' H' F' => ?_
        simp only [w67_0, w67_0n, w67_1, w67_2, w67_5, w67_5n, w67_6, w67_7, w67_10, w67_10n, w67_12, w67_12n, w67_13, w67_14, w67_17, w67_17n, w67_19, w67_19n, w67_21, w67_21n, w67_24, w67_24n, w67_26, w67_26n, w67_29, w67_30, w67_31, w67_31n, w67_33, w67_36, w67_39, w67_39n, w67_41, w67_44, w67_47, w67_47n, w67_48, w67_49, w67_52, w67_53, w67_53n, w67_55, w67_58, w67_58n, w67_60, w67_63, w67_66, w67_66n, w67_67, w67_68, w67_71, w67_72, w67_72n, w67_74, w67_75, w67_77, w67_80, w67_83, w67_83n, w67_85, w67_87, w67_89, w67_92, w67_95, w67_95n, w67_96, w67_97, w67_100, w67_101, w67_101n, w67_103, w67_106, w67_107, w67_107n, w67_109, w67_112, w67_114, w67_119, w67_121, xk_n, xk_i, xk_r, xk_z, xk_l, xcs_0, xcs_i, xcs_r, xcs_z, xcs_l, Nat.reduceAdd, Nat.reduceLeDiff, Nat.reduceLT, true_and, and_true, Option.toList_some, Option.toList_none, List.nil_append, List.cons_append, List.getElem?_cons_zero, List.getElem?_cons_succ, List.set_cons_zero, List.set_cons_succ, List.length_cons, List.length_nil, y_bool0, y_bool1, not_true_eq_false, not_false_eq_true, false_implies, true_implies, true_or, or_true, false_or, or_false, if_true, if_false, ite_true, ite_false]
        exact hK h' ⟨hO, e, em, er, vs, rs, H'⟩ (F1.tr F')
      have fl3 : ∀ f, (∀ h', RX h' (stF s f) → FR CP 0 0 h h' → K (some (.int (-10 - f))) h') → wp (d + 1) 76 0 [some (.ref 2), some (.int f)] [] h1 (fun v h1 => wp (d + 1 + 1) 67 100 [some (.ref 2), some (.int (Int32.ofNat a)), some (.int i), some (.int (Int32.ofNat b)), some (.int j), some (.int n), some (.ref (17 + 2 * a)), some (.ref (17 + 2 * b))] (v.toList ++ []) h1 K) := by
        intro f hK
        refine wp_failed H1 fun h' H' F' => ?_
        simp only [w67_0, w67_0n, w67_1, w67_2, w67_5, w67_5n, w67_6, w67_7, w67_10, w67_10n, w67_12, w67_12n, w67_13, w67_14, w67_17, w67_17n, w67_19, w67_19n, w67_21, w67_21n, w67_24, w67_24n, w67_26, w67_26n, w67_29, w67_30, w67_31, w67_31n, w67_33, w67_36, w67_39, w67_39n, w67_41, w67_44, w67_47, w67_47n, w67_48, w67_49, w67_52, w67_53, w67_53n, w67_55, w67_58, w67_58n, w67_60, w67_63, w67_66, w67_66n, w67_67, w67_68, w67_71, w67_72, w67_72n, w67_74, w67_75, w67_77, w67_80, w67_83, w67_83n, w67_85, w67_87, w67_89, w67_92, w67_95, w67_95n, w67_96, w67_97, w67_100, w67_101, w67_101n, w67_103, w67_106, w67_107, w67_107n, w67_109, w67_112, w67_114, w67_119, w67_121, xk_n, xk_i, xk_r, xk_z, xk_l, xcs_0, xcs_i, xcs_r, xcs_z, xcs_l, Nat.reduceAdd, Nat.reduceLeDiff, Nat.reduceLT, true_and, and_true, Option.toList_some, Option.toList_none, List.nil_append, List.cons_append, List.getElem?_cons_zero, List.getElem?_cons_succ, List.set_cons_zero, List.set_cons_succ, List.length_cons, List.length_nil, y_bool0, y_bool1, not_true_eq_false, not_false_eq_true, false_implies, true_implies, true_or, or_true, false_or, or_false, if_true, if_false, ite_true, ite_false]
        exact hK h' ⟨hO, e, em, er, vs, rs, H'⟩ (F1.tr F')
      cases q : (sSh s a).1.isNone
      · rw [q] at hK
        cases q2 : (sSh s b).1.isNone
        · rw [q2] at hK
          simp only [bi_f, z10, xk_n, xk_i, xk_r, xk_z, xk_l, xcs_0, xcs_i, xcs_r, xcs_z, xcs_l, Nat.reduceAdd, Nat.reduceLeDiff, Nat.reduceLT, true_and, and_true, Option.toList_some, Option.toList_none, List.nil_append, List.cons_append, List.getElem?_cons_zero, List.getElem?_cons_succ, List.set_cons_zero, List.set_cons_succ, List.length_cons, List.length_nil, y_bool0, y_bool1, not_true_eq_false, not_false_eq_true, false_implies, true_implies, true_or, or_true, false_or, or_false, if_true, if_false, ite_true, ite_false]
          by_cases q3 : (sSh s a).1 = (sSh s b).1
          · refine ⟨fun _ => ?_, fun z => absurd q3 z⟩
            simp only [q3, xk_n, xk_i, xk_r, xk_z, xk_l, xcs_0, xcs_i, xcs_r, xcs_z, xcs_l, Nat.reduceAdd, Nat.reduceLeDiff, Nat.reduceLT, true_and, and_true, Option.toList_some, Option.toList_none, List.nil_append, List.cons_append, List.getElem?_cons_zero, List.getElem?_cons_succ, List.set_cons_zero, List.set_cons_succ, List.length_cons, List.length_nil, y_bool0, y_bool1, not_true_eq_false, not_false_eq_true, false_implies, true_implies, true_or, or_true, false_or, or_false, if_true, if_false, ite_true, ite_false, Bool.false_eq_true] at hK
            cases q4 : hldB (sSh s a).2.1 i n
            · rw [q4] at hK
              simp only [bi_f, xk_n, xk_i, xk_r, xk_z, xk_l, xcs_0, xcs_i, xcs_r, xcs_z, xcs_l, Nat.reduceAdd, Nat.reduceLeDiff, Nat.reduceLT, true_and, and_true, Option.toList_some, Option.toList_none, List.nil_append, List.cons_append, List.getElem?_cons_zero, List.getElem?_cons_succ, List.set_cons_zero, List.set_cons_succ, List.length_cons, List.length_nil, y_bool0, y_bool1, not_true_eq_false, not_false_eq_true, false_implies, true_implies, true_or, or_true, false_or, or_false, if_true, if_false, ite_true, ite_false, z10]
              exact fl3 3 hK
            · rw [q4] at hK
              cases q5 : hldB (sSh s b).2.1 j n
              · rw [q5] at hK
                simp only [bi_f, bi_t, xk_n, xk_i, xk_r, xk_z, xk_l, xcs_0, xcs_i, xcs_r, xcs_z, xcs_l, Nat.reduceAdd, Nat.reduceLeDiff, Nat.reduceLT, true_and, and_true, Option.toList_some, Option.toList_none, List.nil_append, List.cons_append, List.getElem?_cons_zero, List.getElem?_cons_succ, List.set_cons_zero, List.set_cons_succ, List.length_cons, List.length_nil, y_bool0, y_bool1, not_true_eq_false, not_false_eq_true, false_implies, true_implies, true_or, or_true, false_or, or_false, if_true, if_false, ite_true, ite_false, z10]
                exact fl3 3 hK
              · rw [q5] at hK
                obtain ⟨i', n', rfl, rfl, hin⟩ := hldB_t (by have := hS.2.2.2.1; omega) q4
                obtain ⟨j', n2, rfl, hnn, hjn⟩ := hldB_t (by have := hT.2.2.2.1; omega) q5
                have hs5 := hS.2.2.2.1
                have ht5 := hT.2.2.2.1
                have : n' = n2 := by
                  have := congrArg Int32.toInt hnn
                  rw [n_toInt (by omega), n_toInt (by omega)] at this
                  omega
                subst this
                rw [n_cl (by omega), n_cl (by omega), n_cl (by omega)] at hK
                simp only [bi_t, xk_n, xk_i, xk_r, xk_z, xk_l, xcs_0, xcs_i, xcs_r, xcs_z, xcs_l, Nat.reduceAdd, Nat.reduceLeDiff, Nat.reduceLT, true_and, and_true, Option.toList_some, Option.toList_none, List.nil_append, List.cons_append, List.getElem?_cons_zero, List.getElem?_cons_succ, List.set_cons_zero, List.set_cons_succ, List.length_cons, List.length_nil, y_bool0, y_bool1, not_true_eq_false, not_false_eq_true, false_implies, true_implies, true_or, or_true, false_or, or_false, if_true, if_false, ite_true, ite_false, z10]
                obtain ⟨g, hg, hgf⟩ := hS.2.1
                obtain ⟨g2, hg2, hgf2⟩ := hT.2.1
                apply w67_116
                refine ⟨by simp only [xk_n, xk_i, xk_r, xk_z, xk_l, xcs_0, xcs_i, xcs_r, xcs_z, xcs_l, Nat.reduceAdd, Nat.reduceLeDiff, Nat.reduceLT, true_and, and_true, Option.toList_some, Option.toList_none, List.nil_append, List.cons_append, List.getElem?_cons_zero, List.getElem?_cons_succ, List.set_cons_zero, List.set_cons_succ, List.length_cons, List.length_nil, y_bool0, y_bool1, not_true_eq_false, not_false_eq_true, false_implies, true_implies, true_or, or_true, false_or, or_false, if_true, if_false, ite_true, ite_false], ?_⟩
                unfold y_copy
                rw [hg, hg2]
                refine ⟨by omega, by omega, n_lt0 (by omega), n_lt0 (by omega), n_lt0 (by omega), ?_⟩
                dsimp only
                rw [n_cl (by omega), n_cl (by omega), n_cl (by omega)]
                refine ⟨by omega, by omega, ?_⟩
                simp only [w67_0, w67_0n, w67_1, w67_2, w67_5, w67_5n, w67_6, w67_7, w67_10, w67_10n, w67_12, w67_12n, w67_13, w67_14, w67_17, w67_17n, w67_19, w67_19n, w67_21, w67_21n, w67_24, w67_24n, w67_26, w67_26n, w67_29, w67_30, w67_31, w67_31n, w67_33, w67_36, w67_39, w67_39n, w67_41, w67_44, w67_47, w67_47n, w67_48, w67_49, w67_52, w67_53, w67_53n, w67_55, w67_58, w67_58n, w67_60, w67_63, w67_66, w67_66n, w67_67, w67_68, w67_71, w67_72, w67_72n, w67_74, w67_75, w67_77, w67_80, w67_83, w67_83n, w67_85, w67_87, w67_89, w67_92, w67_95, w67_95n, w67_96, w67_97, w67_100, w67_101, w67_101n, w67_103, w67_106, w67_107, w67_107n, w67_109, w67_112, w67_114, w67_119, w67_121, xk_n, xk_i, xk_r, xk_z, xk_l, xcs_0, xcs_i, xcs_r, xcs_z, xcs_l, Nat.reduceAdd, Nat.reduceLeDiff, Nat.reduceLT, true_and, and_true, Option.toList_some, Option.toList_none, List.nil_append, List.cons_append, List.getElem?_cons_zero, List.getElem?_cons_succ, List.set_cons_zero, List.set_cons_succ, List.length_cons, List.length_nil, y_bool0, y_bool1, not_true_eq_false, not_false_eq_true, false_implies, true_implies, true_or, or_true, false_or, or_false, if_true, if_false, ite_true, ite_false]
                have HT : SH (h1.set (17 + 2 * b + 1) (.inl (0, 50, .inl (va_cpy g g2 i' j' n')))) (17 + 2 * b) (sSh s b).1 (sSh s b).2.1 (va_cpy (sSh s a).2.2 (sSh s b).2.2 i' j' n') := by
                  refine ⟨h_set_ne hT.1 (by omega), ⟨_, h_set_at hg2, fun c hc => ?_⟩, hT.2.2⟩
                  unfold va_cpy
                  split
                  · exact hgf _ (by omega)
                  · exact hgf2 _ hc
                have := H1.H hb HT ((FR.set (c := .inl (0, 50, .inl (va_cpy g g2 i' j' n'))) hg2 rfl).mono (fun _ _ z => Or.inr z) (Nat.le_refl _) (Nat.le_refl _))
                exact hK _ ⟨hO, e, em, er, vs, rs, this.1⟩ (F1.tr this.2)
          · refine ⟨fun z => absurd z q3, fun _ => ?_⟩
            simp only [q3, xk_n, xk_i, xk_r, xk_z, xk_l, xcs_0, xcs_i, xcs_r, xcs_z, xcs_l, Nat.reduceAdd, Nat.reduceLeDiff, Nat.reduceLT, true_and, and_true, Option.toList_some, Option.toList_none, List.nil_append, List.cons_append, List.getElem?_cons_zero, List.getElem?_cons_succ, List.set_cons_zero, List.set_cons_succ, List.length_cons, List.length_nil, y_bool0, y_bool1, not_true_eq_false, not_false_eq_true, false_implies, true_implies, true_or, or_true, false_or, or_false, if_true, if_false, ite_true, ite_false, Bool.false_eq_true] at hK
            exact fl2 2 hK
        · rw [q2] at hK
          simp only [bi_t, bi_f, z10, xk_n, xk_i, xk_r, xk_z, xk_l, xcs_0, xcs_i, xcs_r, xcs_z, xcs_l, Nat.reduceAdd, Nat.reduceLeDiff, Nat.reduceLT, true_and, and_true, Option.toList_some, Option.toList_none, List.nil_append, List.cons_append, List.getElem?_cons_zero, List.getElem?_cons_succ, List.set_cons_zero, List.set_cons_succ, List.length_cons, List.length_nil, y_bool0, y_bool1, not_true_eq_false, not_false_eq_true, false_implies, true_implies, true_or, or_true, false_or, or_false, if_true, if_false, ite_true, ite_false]
          simp only [xk_n, xk_i, xk_r, xk_z, xk_l, xcs_0, xcs_i, xcs_r, xcs_z, xcs_l, Nat.reduceAdd, Nat.reduceLeDiff, Nat.reduceLT, true_and, and_true, Option.toList_some, Option.toList_none, List.nil_append, List.cons_append, List.getElem?_cons_zero, List.getElem?_cons_succ, List.set_cons_zero, List.set_cons_succ, List.length_cons, List.length_nil, y_bool0, y_bool1, not_true_eq_false, not_false_eq_true, false_implies, true_implies, true_or, or_true, false_or, or_false, if_true, if_false, ite_true, ite_false, Bool.false_eq_true] at hK
          exact fl 1 hK
      · rw [q] at hK
        simp only [bi_t, z10, xk_n, xk_i, xk_r, xk_z, xk_l, xcs_0, xcs_i, xcs_r, xcs_z, xcs_l, Nat.reduceAdd, Nat.reduceLeDiff, Nat.reduceLT, true_and, and_true, Option.toList_some, Option.toList_none, List.nil_append, List.cons_append, List.getElem?_cons_zero, List.getElem?_cons_succ, List.set_cons_zero, List.set_cons_succ, List.length_cons, List.length_nil, y_bool0, y_bool1, not_true_eq_false, not_false_eq_true, false_implies, true_implies, true_or, or_true, false_or, or_false, if_true, if_false, ite_true, ite_false]
        exact fl 1 hK
    · have e1 : opCopy s (Int32.ofNat a) i o j n = (-1, stF s 0) := by unfold opCopy; rw [hn, hn2]
      rw [e1] at hK
      simp only [w67_0, w67_0n, w67_1, w67_2, w67_5, w67_5n, w67_6, w67_7, w67_10, w67_10n, w67_12, w67_12n, w67_13, w67_14, w67_17, w67_17n, w67_19, w67_19n, w67_21, w67_21n, w67_24, w67_24n, w67_26, w67_26n, w67_29, w67_30, w67_31, w67_31n, w67_33, w67_36, w67_39, w67_39n, w67_41, w67_44, w67_47, w67_47n, w67_48, w67_49, w67_52, w67_53, w67_53n, w67_55, w67_58, w67_58n, w67_60, w67_63, w67_66, w67_66n, w67_67, w67_68, w67_71, w67_72, w67_72n, w67_74, w67_75, w67_77, w67_80, w67_83, w67_83n, w67_85, w67_87, w67_89, w67_92, w67_95, w67_95n, w67_96, w67_97, w67_100, w67_101, w67_101n, w67_103, w67_106, w67_107, w67_107n, w67_109, w67_112, w67_114, w67_119, w67_121, xk_n, xk_i, xk_r, xk_z, xk_l, xcs_0, xcs_i, xcs_r, xcs_z, xcs_l, Nat.reduceAdd, Nat.reduceLeDiff, Nat.reduceLT, true_and, and_true, Option.toList_some, Option.toList_none, List.nil_append, List.cons_append, List.getElem?_cons_zero, List.getElem?_cons_succ, List.set_cons_zero, List.set_cons_succ, List.length_cons, List.length_nil, y_bool0, y_bool1, not_true_eq_false, not_false_eq_true, false_implies, true_implies, true_or, or_true, false_or, or_false, if_true, if_false, ite_true, ite_false, H1.cls, wp_sheetAt H1 ha, wp_sheetNo H1 hc2]
      exact hK h1 hX1 F1
  · have e1 : opCopy s k i o j n = (-1, stF s 0) := by unfold opCopy; rw [hn]
    rw [e1] at hK
    rcases nb_cas o (m := 4) (by omega) with ⟨b, hb, rfl, hn2⟩ | ⟨hc2, hn2⟩
    · simp only [w67_0, w67_0n, w67_1, w67_2, w67_5, w67_5n, w67_6, w67_7, w67_10, w67_10n, w67_12, w67_12n, w67_13, w67_14, w67_17, w67_17n, w67_19, w67_19n, w67_21, w67_21n, w67_24, w67_24n, w67_26, w67_26n, w67_29, w67_30, w67_31, w67_31n, w67_33, w67_36, w67_39, w67_39n, w67_41, w67_44, w67_47, w67_47n, w67_48, w67_49, w67_52, w67_53, w67_53n, w67_55, w67_58, w67_58n, w67_60, w67_63, w67_66, w67_66n, w67_67, w67_68, w67_71, w67_72, w67_72n, w67_74, w67_75, w67_77, w67_80, w67_83, w67_83n, w67_85, w67_87, w67_89, w67_92, w67_95, w67_95n, w67_96, w67_97, w67_100, w67_101, w67_101n, w67_103, w67_106, w67_107, w67_107n, w67_109, w67_112, w67_114, w67_119, w67_121, xk_n, xk_i, xk_r, xk_z, xk_l, xcs_0, xcs_i, xcs_r, xcs_z, xcs_l, Nat.reduceAdd, Nat.reduceLeDiff, Nat.reduceLT, true_and, and_true, Option.toList_some, Option.toList_none, List.nil_append, List.cons_append, List.getElem?_cons_zero, List.getElem?_cons_succ, List.set_cons_zero, List.set_cons_succ, List.length_cons, List.length_nil, y_bool0, y_bool1, not_true_eq_false, not_false_eq_true, false_implies, true_implies, true_or, or_true, false_or, or_false, if_true, if_false, ite_true, ite_false, H1.cls, wp_sheetNo H1 hc, wp_sheetAt H1 hb]
      exact hK h1 hX1 F1
    · simp only [w67_0, w67_0n, w67_1, w67_2, w67_5, w67_5n, w67_6, w67_7, w67_10, w67_10n, w67_12, w67_12n, w67_13, w67_14, w67_17, w67_17n, w67_19, w67_19n, w67_21, w67_21n, w67_24, w67_24n, w67_26, w67_26n, w67_29, w67_30, w67_31, w67_31n, w67_33, w67_36, w67_39, w67_39n, w67_41, w67_44, w67_47, w67_47n, w67_48, w67_49, w67_52, w67_53, w67_53n, w67_55, w67_58, w67_58n, w67_60, w67_63, w67_66, w67_66n, w67_67, w67_68, w67_71, w67_72, w67_72n, w67_74, w67_75, w67_77, w67_80, w67_83, w67_83n, w67_85, w67_87, w67_89, w67_92, w67_95, w67_95n, w67_96, w67_97, w67_100, w67_101, w67_101n, w67_103, w67_106, w67_107, w67_107n, w67_109, w67_112, w67_114, w67_119, w67_121, xk_n, xk_i, xk_r, xk_z, xk_l, xcs_0, xcs_i, xcs_r, xcs_z, xcs_l, Nat.reduceAdd, Nat.reduceLeDiff, Nat.reduceLT, true_and, and_true, Option.toList_some, Option.toList_none, List.nil_append, List.cons_append, List.getElem?_cons_zero, List.getElem?_cons_succ, List.set_cons_zero, List.set_cons_succ, List.length_cons, List.length_nil, y_bool0, y_bool1, not_true_eq_false, not_false_eq_true, false_implies, true_implies, true_or, or_true, false_or, or_false, if_true, if_false, ite_true, ite_false, H1.cls, wp_sheetNo H1 hc, wp_sheetNo H1 hc2]
      exact hK h1 hX1 F1
end
