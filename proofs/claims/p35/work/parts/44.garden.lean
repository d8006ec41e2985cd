def opGarden (s : St) (k l i n : Int32) : Int32 × St := match nb k 4 with
  | none => (-1, stF s 0)
  | some k => match nb l 3 with
    | none => (-2, stF s 0)
    | some l => if (sSh s k).1 = none then (-10 - 1, stF s 1) else if (sSh s k).1 = some l then (if n < 0 then (-10 - 4, stF s 4) else if hldB (sSh s k).2.1 i n then (match wrgW (cdA (sSh s k).2.2 i.toNatClampNeg n.toNatClampNeg) n.toNatClampNeg with
      | some q => (-100 - Int32.ofNat q, stF s 0)
      | none => (Int32.ofNat (((dgt ((sSh s k).2.2 (i.toNatClampNeg + 1)) 1 5).getD 0) * ((dgt ((sSh s k).2.2 (i.toNatClampNeg + 2)) 2 6).getD 0)), gdT (stF s 0) (sSh s k).2.2 i.toNatClampNeg ((dgt ((sSh s k).2.2 (i.toNatClampNeg + 1)) 1 5).getD 0) ((dgt ((sSh s k).2.2 (i.toNatClampNeg + 2)) 2 6).getD 0))) else (-10 - 3, stF s 3)) else (-10 - 2, stF s 2)
theorem colW_lt {cd : Nat → Int32} : ∀ {j p q : Nat}, colW cd j p = some q → q < p + j
  | 0, _, _, h => by cases h
  | j + 1, p, q, h => by
    have e1 : colW cd (j + 1) p = if (sgC (cd p)).isNone then some p else colW cd j (p + 1) := rfl
    rw [e1] at h
    split at h
    · cases h; omega
    · have := colW_lt h; omega
theorem rowW_lt {cd : Nat → Int32} {w : Nat} : ∀ {j p q : Nat}, rowW cd w j p = some q → q < p + j * (w + 1)
  | 0, _, _, h => by cases h
  | j + 1, p, q, h => by
    have e1 : rowW cd w (j + 1) p = if cd p = 59 then (match colW cd w (p + 1) with
      | some q => some q
      | none => rowW cd w j (p + 1 + w)) else some p := rfl
    rw [e1] at h
    rw [Nat.succ_mul]
    split at h
    · split at h
      · rename_i q' hq
        cases h
        have := colW_lt hq
        omega
      · have := rowW_lt h; omega
    · cases h; omega
theorem dgt_le {x : Int32} {lo hi a : Nat} (hh : hi ≤ 9) (lh : lo ≤ hi) (h : dgt x lo hi = some a) : a ≤ hi := by
  rcases dgt_cas x hh lh with ⟨b, b1, b2, b3, b4⟩ | ⟨b1, b2⟩
  · rw [b4] at h; cases h; exact b2
  · rw [b1] at h; cases h
theorem wrgW_lt {cd : Nat → Int32} {n q : Nat} (h : wrgW cd n = some q) : q < 100 := by
  unfold wrgW at h
  split at h
  · split at h
    · cases h; omega
    · rename_i hi hd
      have h5 := dgt_le (by omega) (by omega) hd
      split at h
      · cases h; omega
      · rename_i w hw
        have h6 := dgt_le (by omega) (by omega) hw
        have hm : hi * (w + 1) ≤ 5 * 7 := Nat.mul_le_mul h5 (by omega)
        split at h
        · rename_i q' hq
          cases h
          have := rowW_lt hq
          omega
        · split at h
          · cases h; omega
          · cases h
  · cases h; omega
theorem cop_garden {d : Nat} {h : xH} {K : Option Value → xH → Prop} {s : St} (H : RX h s) (k l i n : Int32) (hK : ∀ h', RX h' (opGarden s k l i n).2 → FR CP 0 0 h h' → K (some (.int (opGarden s k l i n).1)) h') : wp (d + 4) 42 0 [some (.ref 2), some (.int k), some (.int l), some (.int i), some (.int n), none, none, none] [] h K := by
  obtain ⟨hO, e, em, er, vs, rs, H⟩ := H
  obtain ⟨H1, F1⟩ := H.F 0
  have z10 : ((1 : Int32) = 0) = False := eq_false (by decide)
  have z11 : ((2 : Int32) = 0) = False := eq_false (by decide)
  have z12 : ((3 : Int32) = 0) = False := eq_false (by decide)
  have z13 : ((4 : Int32) = 0) = False := eq_false (by decide)
  simp only [w42_0, w42_0n, w42_1, w42_2, w42_5, w42_5n, w42_6, w42_7, w42_10, w42_10n, w42_12, w42_12n, w42_14, w42_14n, w42_17, w42_18, w42_19, w42_20, w42_21, w42_24, w42_27, w42_29, w42_30, w42_30n, w42_32, w42_33, w42_36, w42_38, w42_40, w42_43, w42_45, w42_48, w42_49, w42_51, w42_53, w42_56, w42_56n, w42_58, w42_59, w42_61, w42_64, w42_67, w42_68, w42_70, w42_72, w42_75, w42_75n, w42_76, w42_78, w42_81, w42_82, w42_82n, w42_84, w42_85, w42_87, w42_90, w42_92, w42_94, w42_96, w42_99, w42_101, w42_103, w42_104, w42_105, w42_105n, w42_106, w42_106n, w42_108, w42_109, w42_112, w42_112n, w42_113, w42_116, w42_119, w42_122, xk_n, xk_i, xk_r, xk_z, xk_l, xcs_0, xcs_i, xcs_r, xcs_z, xcs_l, Nat.reduceAdd, Nat.reduceLeDiff, Nat.reduceLT, true_and, and_true, Option.toList_some, Option.toList_none, List.nil_append, List.cons_append, List.getElem?_cons_zero, List.getElem?_cons_succ, List.set_cons_zero, List.set_cons_succ, List.length_cons, List.length_nil, y_bool0, y_bool1, not_true_eq_false, not_false_eq_true, false_implies, true_implies, true_or, or_true, false_or, or_false, if_true, if_false, ite_true, ite_false, y_put, H.1]
  generalize h.set 2 (.inr (7, [.ref 3, .ref 9, .ref 15, .ref 16, .int (sTr s), .int 0])) = h1 at H1 F1
  have hX1 : RX h1 (stF s 0) := ⟨hO, e, em, er, vs, rs, H1⟩
  rcases nb_cas k (m := 4) (by omega) with ⟨a, ha, rfl, hn⟩ | ⟨hc, hn⟩
  · rcases nb_cas l (m := 3) (by omega) with ⟨b, hb, rfl, hn2⟩ | ⟨hc2, hn2⟩
    · have hS : SH h1 (17 + 2 * a) (sSh s a).1 (sSh s a).2.1 (sSh s a).2.2 := H1.sh ha
      have hn50 := hS.2.2.2.1
      have e1 : opGarden s (Int32.ofNat a) (Int32.ofNat b) i n = if (sSh s a).1 = none then ((-10 - 1 : Int32), stF s 1) else if (sSh s a).1 = some b then (if n < 0 then (-10 - 4, stF s 4) else if hldB (sSh s a).2.1 i n then (match wrgW (cdA (sSh s a).2.2 i.toNatClampNeg n.toNatClampNeg) n.toNatClampNeg with
        | some q => (-100 - Int32.ofNat q, stF s 0)
        | none => (Int32.ofNat (((dgt ((sSh s a).2.2 (i.toNatClampNeg + 1)) 1 5).getD 0) * ((dgt ((sSh s a).2.2 (i.toNatClampNeg + 2)) 2 6).getD 0)), gdT (stF s 0) (sSh s a).2.2 i.toNatClampNeg ((dgt ((sSh s a).2.2 (i.toNatClampNeg + 1)) 1 5).getD 0) ((dgt ((sSh s a).2.2 (i.toNatClampNeg + 2)) 2 6).getD 0))) else (-10 - 3, stF s 3)) else (-10 - 2, stF s 2) := by unfold opGarden; rw [hn]; dsimp only; rw [hn2]
      rw [e1] at hK
      have e2 := oC_eq (o := (sSh s a).1) (b := b) (fun x hx => by have := hS.2.2.2.2 x hx; omega) (by omega)
      have nle2 : (0 ≤ n) = ¬ (n < 0) := by rw [Int32.not_lt]
      have fl : ∀ f x5 x6 x7, (∀ h', RX h' (stF s f) → FR CP 0 0 h h' → K (some (.int (-10 - f))) h') → wp (d + 3) 76 0 [some (.ref 2), some (.int f)] [] h1 (fun v h1 => wp (d + 3 + 1) 42 81 [some (.ref 2), some (.int (Int32.ofNat a)), some (.int (Int32.ofNat b)), some (.int i), some (.int n), x5, x6, x7] (v.toList ++ []) h1 K) := by
        intro f x5 x6 x7 hK
        refine wp_failed H1 fun h' H' F' => ?_
        simp only [w42_0, w42_0n, w42_1, w42_2, w42_5, w42_5n, w42_6, w42_7, w42_10, w42_10n, w42_12, w42_12n, w42_14, w42_14n, w42_17, w42_18, w42_19, w42_20, w42_21, w42_24, w42_27, w42_29, w42_30, w42_30n, w42_32, w42_33, w42_36, w42_38, w42_40, w42_43, w42_45, w42_48, w42_49, w42_51, w42_53, w42_56, w42_56n, w42_58, w42_59, w42_61, w42_64, w42_67, w42_68, w42_70, w42_72, w42_75, w42_75n, w42_76, w42_78, w42_81, w42_82, w42_82n, w42_84, w42_85, w42_87, w42_90, w42_92, w42_94, w42_96, w42_99, w42_101, w42_103, w42_104, w42_105, w42_105n, w42_106, w42_106n, w42_108, w42_109, w42_112, w42_112n, w42_113, w42_116, w42_119, w42_122, xk_n, xk_i, xk_r, xk_z, xk_l, xcs_0, xcs_i, xcs_r, xcs_z, xcs_l, Nat.reduceAdd, Nat.reduceLeDiff, Nat.reduceLT, true_and, and_true, Option.toList_some, Option.toList_none, List.nil_append, List.cons_append, List.getElem?_cons_zero, List.getElem?_cons_succ, List.set_cons_zero, List.set_cons_succ, List.length_cons, List.length_nil, y_bool0, y_bool1, not_true_eq_false, not_false_eq_true, false_implies, true_implies, true_or, or_true, false_or, or_false, if_true, if_false, ite_true, ite_false]
        exact hK h' ⟨hO, e, em, er, vs, rs, H'⟩ (F1.tr F')
      simp only [w42_0, w42_0n, w42_1, w42_2, w42_5, w42_5n, w42_6, w42_7, w42_10, w42_10n, w42_12, w42_12n, w42_14, w42_14n, w42_17, w42_18, w42_19, w42_20, w42_21, w42_24, w42_27, w42_29, w42_30, w42_30n, w42_32, w42_33, w42_36, w42_38, w42_40, w42_43, w42_45, w42_48, w42_49, w42_51, w42_53, w42_56, w42_56n, w42_58, w42_59, w42_61, w42_64, w42_67, w42_68, w42_70, w42_72, w42_75, w42_75n, w42_76, w42_78, w42_81, w42_82, w42_82n, w42_84, w42_85, w42_87, w42_90, w42_92, w42_94, w42_96, w42_99, w42_101, w42_103, w42_104, w42_105, w42_105n, w42_106, w42_106n, w42_108, w42_109, w42_112, w42_112n, w42_113, w42_116, w42_119, w42_122, xk_n, xk_i, xk_r, xk_z, xk_l, xcs_0, xcs_i, xcs_r, xcs_z, xcs_l, Nat.reduceAdd, Nat.reduceLeDiff, Nat.reduceLT, true_and, and_true, Option.toList_some, Option.toList_none, List.nil_append, List.cons_append, List.getElem?_cons_zero, List.getElem?_cons_succ, List.set_cons_zero, List.set_cons_succ, List.length_cons, List.length_nil, y_bool0, y_bool1, not_true_eq_false, not_false_eq_true, false_implies, true_implies, true_or, or_true, false_or, or_false, if_true, if_false, ite_true, ite_false, H1.cls, wp_sheetAt H1 ha, wp_below_t (m := 3) (by omega) hb, z10, hS.cls, wp_fot hS, e2]
      by_cases q : (sSh s a).1 = none
      · rw [if_pos q] at hK
        simp only [q, xk_n, xk_i, xk_r, xk_z, xk_l, xcs_0, xcs_i, xcs_r, xcs_z, xcs_l, Nat.reduceAdd, Nat.reduceLeDiff, Nat.reduceLT, true_and, and_true, Option.toList_some, Option.toList_none, List.nil_append, List.cons_append, List.getElem?_cons_zero, List.getElem?_cons_succ, List.set_cons_zero, List.set_cons_succ, List.length_cons, List.length_nil, y_bool0, y_bool1, not_true_eq_false, not_false_eq_true, false_implies, true_implies, true_or, or_true, false_or, or_false, if_true, if_false, ite_true, ite_false, w42_0, w42_0n, w42_1, w42_2, w42_5, w42_5n, w42_6, w42_7, w42_10, w42_10n, w42_12, w42_12n, w42_14, w42_14n, w42_17, w42_18, w42_19, w42_20, w42_21, w42_24, w42_27, w42_29, w42_30, w42_30n, w42_32, w42_33, w42_36, w42_38, w42_40, w42_43, w42_45, w42_48, w42_49, w42_51, w42_53, w42_56, w42_56n, w42_58, w42_59, w42_61, w42_64, w42_67, w42_68, w42_70, w42_72, w42_75, w42_75n, w42_76, w42_78, w42_81, w42_82, w42_82n, w42_84, w42_85, w42_87, w42_90, w42_92, w42_94, w42_96, w42_99, w42_101, w42_103, w42_104, w42_105, w42_105n, w42_106, w42_106n, w42_108, w42_109, w42_112, w42_112n, w42_113, w42_116, w42_119, w42_122, z10]
        exact fl 1 _ _ _ hK
      · rw [if_neg q] at hK
        by_cases q2 : (sSh s a).1 = some b
        · rw [if_pos q2] at hK
          simp only [if_neg q, if_pos q2, w42_0, w42_0n, w42_1, w42_2, w42_5, w42_5n, w42_6, w42_7, w42_10, w42_10n, w42_12, w42_12n, w42_14, w42_14n, w42_17, w42_18, w42_19, w42_20, w42_21, w42_24, w42_27, w42_29, w42_30, w42_30n, w42_32, w42_33, w42_36, w42_38, w42_40, w42_43, w42_45, w42_48, w42_49, w42_51, w42_53, w42_56, w42_56n, w42_58, w42_59, w42_61, w42_64, w42_67, w42_68, w42_70, w42_72, w42_75, w42_75n, w42_76, w42_78, w42_81, w42_82, w42_82n, w42_84, w42_85, w42_87, w42_90, w42_92, w42_94, w42_96, w42_99, w42_101, w42_103, w42_104, w42_105, w42_105n, w42_106, w42_106n, w42_108, w42_109, w42_112, w42_112n, w42_113, w42_116, w42_119, w42_122, xk_n, xk_i, xk_r, xk_z, xk_l, xcs_0, xcs_i, xcs_r, xcs_z, xcs_l, Nat.reduceAdd, Nat.reduceLeDiff, Nat.reduceLT, true_and, and_true, Option.toList_some, Option.toList_none, List.nil_append, List.cons_append, List.getElem?_cons_zero, List.getElem?_cons_succ, List.set_cons_zero, List.set_cons_succ, List.length_cons, List.length_nil, y_bool0, y_bool1, not_true_eq_false, not_false_eq_true, false_implies, true_implies, true_or, or_true, false_or, or_false, if_true, if_false, ite_true, ite_false, nle2]
          by_cases q3 : n < 0
          · rw [if_pos q3] at hK
            simp only [q3, w42_0, w42_0n, w42_1, w42_2, w42_5, w42_5n, w42_6, w42_7, w42_10, w42_10n, w42_12, w42_12n, w42_14, w42_14n, w42_17, w42_18, w42_19, w42_20, w42_21, w42_24, w42_27, w42_29, w42_30, w42_30n, w42_32, w42_33, w42_36, w42_38, w42_40, w42_43, w42_45, w42_48, w42_49, w42_51, w42_53, w42_56, w42_56n, w42_58, w42_59, w42_61, w42_64, w42_67, w42_68, w42_70, w42_72, w42_75, w42_75n, w42_76, w42_78, w42_81, w42_82, w42_82n, w42_84, w42_85, w42_87, w42_90, w42_92, w42_94, w42_96, w42_99, w42_101, w42_103, w42_104, w42_105, w42_105n, w42_106, w42_106n, w42_108, w42_109, w42_112, w42_112n, w42_113, w42_116, w42_119, w42_122, xk_n, xk_i, xk_r, xk_z, xk_l, xcs_0, xcs_i, xcs_r, xcs_z, xcs_l, Nat.reduceAdd, Nat.reduceLeDiff, Nat.reduceLT, true_and, and_true, Option.toList_some, Option.toList_none, List.nil_append, List.cons_append, List.getElem?_cons_zero, List.getElem?_cons_succ, List.set_cons_zero, List.set_cons_succ, List.length_cons, List.length_nil, y_bool0, y_bool1, not_true_eq_false, not_false_eq_true, false_implies, true_implies, true_or, or_true, false_or, or_false, if_true, if_false, ite_true, ite_false, z13]
            exact fl 4 _ _ _ hK
          · rw [if_neg q3] at hK
            simp only [q3, w42_0, w42_0n, w42_1, w42_2, w42_5, w42_5n, w42_6, w42_7, w42_10, w42_10n, w42_12, w42_12n, w42_14, w42_14n, w42_17, w42_18, w42_19, w42_20, w42_21, w42_24, w42_27, w42_29, w42_30, w42_30n, w42_32, w42_33, w42_36, w42_38, w42_40, w42_43, w42_45, w42_48, w42_49, w42_51, w42_53, w42_56, w42_56n, w42_58, w42_59, w42_61, w42_64, w42_67, w42_68, w42_70, w42_72, w42_75, w42_75n, w42_76, w42_78, w42_81, w42_82, w42_82n, w42_84, w42_85, w42_87, w42_90, w42_92, w42_94, w42_96, w42_99, w42_101, w42_103, w42_104, w42_105, w42_105n, w42_106, w42_106n, w42_108, w42_109, w42_112, w42_112n, w42_113, w42_116, w42_119, w42_122, xk_n, xk_i, xk_r, xk_z, xk_l, xcs_0, xcs_i, xcs_r, xcs_z, xcs_l, Nat.reduceAdd, Nat.reduceLeDiff, Nat.reduceLT, true_and, and_true, Option.toList_some, Option.toList_none, List.nil_append, List.cons_append, List.getElem?_cons_zero, List.getElem?_cons_succ, List.set_cons_zero, List.set_cons_succ, List.length_cons, List.length_nil, y_bool0, y_bool1, not_true_eq_false, not_false_eq_true, false_implies, true_implies, true_or, or_true, false_or, or_false, if_true, if_false, ite_true, ite_false, hS.cls, wp_holds hS]
            cases q4 : hldB (sSh s a).2.1 i n
            · rw [q4] at hK
              simp only [w42_0, w42_0n, w42_1, w42_2, w42_5, w42_5n, w42_6, w42_7, w42_10, w42_10n, w42_12, w42_12n, w42_14, w42_14n, w42_17, w42_18, w42_19, w42_20, w42_21, w42_24, w42_27, w42_29, w42_30, w42_30n, w42_32, w42_33, w42_36, w42_38, w42_40, w42_43, w42_45, w42_48, w42_49, w42_51, w42_53, w42_56, w42_56n, w42_58, w42_59, w42_61, w42_64, w42_67, w42_68, w42_70, w42_72, w42_75, w42_75n, w42_76, w42_78, w42_81, w42_82, w42_82n, w42_84, w42_85, w42_87, w42_90, w42_92, w42_94, w42_96, w42_99, w42_101, w42_103, w42_104, w42_105, w42_105n, w42_106, w42_106n, w42_108, w42_109, w42_112, w42_112n, w42_113, w42_116, w42_119, w42_122, xk_n, xk_i, xk_r, xk_z, xk_l, xcs_0, xcs_i, xcs_r, xcs_z, xcs_l, Nat.reduceAdd, Nat.reduceLeDiff, Nat.reduceLT, true_and, and_true, Option.toList_some, Option.toList_none, List.nil_append, List.cons_append, List.getElem?_cons_zero, List.getElem?_cons_succ, List.set_cons_zero, List.set_cons_succ, List.length_cons, List.length_nil, y_bool0, y_bool1, not_true_eq_false, not_false_eq_true, false_implies, true_implies, true_or, or_true, false_or, or_false, if_true, if_false, ite_true, ite_false, bi_f, z12]
              exact ⟨H1.cls, fl 3 _ _ _ hK⟩
            · rw [q4] at hK
              obtain ⟨i', n', rfl, rfl, hin⟩ := hldB_t (by omega) q4
              rw [n_cl (by omega), n_cl (by omega)] at hK
              simp only [w42_0, w42_0n, w42_1, w42_2, w42_5, w42_5n, w42_6, w42_7, w42_10, w42_10n, w42_12, w42_12n, w42_14, w42_14n, w42_17, w42_18, w42_19, w42_20, w42_21, w42_24, w42_27, w42_29, w42_30, w42_30n, w42_32, w42_33, w42_36, w42_38, w42_40, w42_43, w42_45, w42_48, w42_49, w42_51, w42_53, w42_56, w42_56n, w42_58, w42_59, w42_61, w42_64, w42_67, w42_68, w42_70, w42_72, w42_75, w42_75n, w42_76, w42_78, w42_81, w42_82, w42_82n, w42_84, w42_85, w42_87, w42_90, w42_92, w42_94, w42_96, w42_99, w42_101, w42_103, w42_104, w42_105, w42_105n, w42_106, w42_106n, w42_108, w42_109, w42_112, w42_112n, w42_113, w42_116, w42_119, w42_122, xk_n, xk_i, xk_r, xk_z, xk_l, xcs_0, xcs_i, xcs_r, xcs_z, xcs_l, Nat.reduceAdd, Nat.reduceLeDiff, Nat.reduceLT, true_and, and_true, Option.toList_some, Option.toList_none, List.nil_append, List.cons_append, List.getElem?_cons_zero, List.getElem?_cons_succ, List.set_cons_zero, List.set_cons_succ, List.length_cons, List.length_nil, y_bool0, y_bool1, not_true_eq_false, not_false_eq_true, false_implies, true_implies, true_or, or_true, false_or, or_false, if_true, if_false, ite_true, ite_false, bi_t, z10]
              refine wp_firstWrong hS hin ?_
              have z9 := oC_9 (o := wrgW (cdA (sSh s a).2.2 i' n') n') (fun x hx => by have := wrgW_lt hx; omega)
              simp only [w42_0, w42_0n, w42_1, w42_2, w42_5, w42_5n, w42_6, w42_7, w42_10, w42_10n, w42_12, w42_12n, w42_14, w42_14n, w42_17, w42_18, w42_19, w42_20, w42_21, w42_24, w42_27, w42_29, w42_30, w42_30n, w42_32, w42_33, w42_36, w42_38, w42_40, w42_43, w42_45, w42_48, w42_49, w42_51, w42_53, w42_56, w42_56n, w42_58, w42_59, w42_61, w42_64, w42_67, w42_68, w42_70, w42_72, w42_75, w42_75n, w42_76, w42_78, w42_81, w42_82, w42_82n, w42_84, w42_85, w42_87, w42_90, w42_92, w42_94, w42_96, w42_99, w42_101, w42_103, w42_104, w42_105, w42_105n, w42_106, w42_106n, w42_108, w42_109, w42_112, w42_112n, w42_113, w42_116, w42_119, w42_122, xk_n, xk_i, xk_r, xk_z, xk_l, xcs_0, xcs_i, xcs_r, xcs_z, xcs_l, Nat.reduceAdd, Nat.reduceLeDiff, Nat.reduceLT, true_and, and_true, Option.toList_some, Option.toList_none, List.nil_append, List.cons_append, List.getElem?_cons_zero, List.getElem?_cons_succ, List.set_cons_zero, List.set_cons_succ, List.length_cons, List.length_nil, y_bool0, y_bool1, not_true_eq_false, not_false_eq_true, false_implies, true_implies, true_or, or_true, false_or, or_false, if_true, if_false, ite_true, ite_false, z9]
              cases q5 : wrgW (cdA (sSh s a).2.2 i' n') n' with
              | some x =>
                rw [q5] at hK
                refine ⟨fun z => (by cases z), fun _ => ?_⟩
                exact hK h1 hX1 F1
              | none =>
                rw [q5] at hK
                refine ⟨fun _ => ?_, fun z => absurd rfl z⟩
                obtain ⟨hi, w, g1, g5, w2, w6, m2, f1, f2, hT⟩ := wrgW_n q5
                have d1 : (dgt ((sSh s a).2.2 (i' + 1)) 1 5).getD 0 = hi := by
                  rcases dgt_cas ((sSh s a).2.2 (i' + 1)) (lo := 1) (hi := 5) (by omega) (by omega) with ⟨y, y1, y2, y3, y4⟩ | ⟨y1, y2⟩
                  · rw [y4]
                    rw [y3, n_eq (by omega) (by omega)] at f1
                    show y = hi
                    omega
                  · exfalso
                    unfold dgt at y1
                    rw [f1, decide_eq_true ((n_le (by omega) (by omega)).mpr (by omega)), decide_eq_true ((n_le (by omega) (by omega)).mpr (by omega))] at y1
                    cases y1
                have d2 : (dgt ((sSh s a).2.2 (i' + 2)) 2 6).getD 0 = w := by
                  rcases dgt_cas ((sSh s a).2.2 (i' + 2)) (lo := 2) (hi := 6) (by omega) (by omega) with ⟨y, y1, y2, y3, y4⟩ | ⟨y1, y2⟩
                  · rw [y4]
                    rw [y3, n_eq (by omega) (by omega)] at f2
                    show y = w
                    omega
                  · exfalso
                    unfold dgt at y1
                    rw [f2, decide_eq_true ((n_le (by omega) (by omega)).mpr (by omega)), decide_eq_true ((n_le (by omega) (by omega)).mpr (by omega))] at y1
                    cases y1
                rw [d1, d2] at hK
                simp only [H1.cls, xk_n, xk_i, xk_r, xk_z, xk_l, xcs_0, xcs_i, xcs_r, xcs_z, xcs_l, Nat.reduceAdd, Nat.reduceLeDiff, Nat.reduceLT, true_and, and_true, Option.toList_some, Option.toList_none, List.nil_append, List.cons_append, List.getElem?_cons_zero, List.getElem?_cons_succ, List.set_cons_zero, List.set_cons_succ, List.length_cons, List.length_nil, y_bool0, y_bool1, not_true_eq_false, not_false_eq_true, false_implies, true_implies, true_or, or_true, false_or, or_false, if_true, if_false, ite_true, ite_false]
                refine wp_layOut H1 ha hin g1 g5 w2 w6 m2 f1 f2 hT fun h' H' F' => ?_
                have H'' := H'
                obtain ⟨a1, ⟨X, L, c1, c2, c3, c4⟩, a3⟩ := H'
                simp only [w42_0, w42_0n, w42_1, w42_2, w42_5, w42_5n, w42_6, w42_7, w42_10, w42_10n, w42_12, w42_12n, w42_14, w42_14n, w42_17, w42_18, w42_19, w42_20, w42_21, w42_24, w42_27, w42_29, w42_30, w42_30n, w42_32, w42_33, w42_36, w42_38, w42_40, w42_43, w42_45, w42_48, w42_49, w42_51, w42_53, w42_56, w42_56n, w42_58, w42_59, w42_61, w42_64, w42_67, w42_68, w42_70, w42_72, w42_75, w42_75n, w42_76, w42_78, w42_81, w42_82, w42_82n, w42_84, w42_85, w42_87, w42_90, w42_92, w42_94, w42_96, w42_99, w42_101, w42_103, w42_104, w42_105, w42_105n, w42_106, w42_106n, w42_108, w42_109, w42_112, w42_112n, w42_113, w42_116, w42_119, w42_122, xk_n, xk_i, xk_r, xk_z, xk_l, xcs_0, xcs_i, xcs_r, xcs_z, xcs_l, Nat.reduceAdd, Nat.reduceLeDiff, Nat.reduceLT, true_and, and_true, Option.toList_some, Option.toList_none, List.nil_append, List.cons_append, List.getElem?_cons_zero, List.getElem?_cons_succ, List.set_cons_zero, List.set_cons_succ, List.length_cons, List.length_nil, y_bool0, y_bool1, not_true_eq_false, not_false_eq_true, false_implies, true_implies, true_or, or_true, false_or, or_false, if_true, if_false, ite_true, ite_false, y_get, a1, c2, c3.1]
                refine hK h' ⟨⟨Or.inl ⟨⟨w2, w6, Nat.mul_le_mul g5 w6, hi, rfl⟩, by show 0 ≤ 3; omega, fun v hv => absurd hv (Nat.not_lt_zero v)⟩, by show 0 ≤ 8; omega, fun r hr => absurd hr (Nat.not_lt_zero r), fun c hc => ?_⟩, e, em, er, vs, rs, H''⟩ (F1.tr F')
                obtain ⟨f, p1, p2, p3⟩ := c3.2.2.2
                exact (p3 c hc).2
        · rw [if_neg q2] at hK
          simp only [if_neg q, if_neg q2, w42_0, w42_0n, w42_1, w42_2, w42_5, w42_5n, w42_6, w42_7, w42_10, w42_10n, w42_12, w42_12n, w42_14, w42_14n, w42_17, w42_18, w42_19, w42_20, w42_21, w42_24, w42_27, w42_29, w42_30, w42_30n, w42_32, w42_33, w42_36, w42_38, w42_40, w42_43, w42_45, w42_48, w42_49, w42_51, w42_53, w42_56, w42_56n, w42_58, w42_59, w42_61, w42_64, w42_67, w42_68, w42_70, w42_72, w42_75, w42_75n, w42_76, w42_78, w42_81, w42_82, w42_82n, w42_84, w42_85, w42_87, w42_90, w42_92, w42_94, w42_96, w42_99, w42_101, w42_103, w42_104, w42_105, w42_105n, w42_106, w42_106n, w42_108, w42_109, w42_112, w42_112n, w42_113, w42_116, w42_119, w42_122, xk_n, xk_i, xk_r, xk_z, xk_l, xcs_0, xcs_i, xcs_r, xcs_z, xcs_l, Nat.reduceAdd, Nat.reduceLeDiff, Nat.reduceLT, true_and, and_true, Option.toList_some, Option.toList_none, List.nil_append, List.cons_append, List.getElem?_cons_zero, List.getElem?_cons_succ, List.set_cons_zero, List.set_cons_succ, List.length_cons, List.length_nil, y_bool0, y_bool1, not_true_eq_false, not_false_eq_true, false_implies, true_implies, true_or, or_true, false_or, or_false, if_true, if_false, ite_true, ite_false, z11]
          exact fl 2 _ _ _ hK
    · have e1 : opGarden s (Int32.ofNat a) l i n = (-2, stF s 0) := by unfold opGarden; rw [hn]; dsimp only; rw [hn2]
      rw [e1] at hK
      simp only [w42_0, w42_0n, w42_1, w42_2, w42_5, w42_5n, w42_6, w42_7, w42_10, w42_10n, w42_12, w42_12n, w42_14, w42_14n, w42_17, w42_18, w42_19, w42_20, w42_21, w42_24, w42_27, w42_29, w42_30, w42_30n, w42_32, w42_33, w42_36, w42_38, w42_40, w42_43, w42_45, w42_48, w42_49, w42_51, w42_53, w42_56, w42_56n, w42_58, w42_59, w42_61, w42_64, w42_67, w42_68, w42_70, w42_72, w42_75, w42_75n, w42_76, w42_78, w42_81, w42_82, w42_82n, w42_84, w42_85, w42_87, w42_90, w42_92, w42_94, w42_96, w42_99, w42_101, w42_103, w42_104, w42_105, w42_105n, w42_106, w42_106n, w42_108, w42_109, w42_112, w42_112n, w42_113, w42_116, w42_119, w42_122, xk_n, xk_i, xk_r, xk_z, xk_l, xcs_0, xcs_i, xcs_r, xcs_z, xcs_l, Nat.reduceAdd, Nat.reduceLeDiff, Nat.reduceLT, true_and, and_true, Option.toList_some, Option.toList_none, List.nil_append, List.cons_append, List.getElem?_cons_zero, List.getElem?_cons_succ, List.set_cons_zero, List.set_cons_succ, List.length_cons, List.length_nil, y_bool0, y_bool1, not_true_eq_false, not_false_eq_true, false_implies, true_implies, true_or, or_true, false_or, or_false, if_true, if_false, ite_true, ite_false, H1.cls, wp_sheetAt H1 ha, wp_below_f (m := 3) hc2, z10]
      exact hK h1 hX1 F1
  · have e1 : opGarden s k l i n = (-1, stF s 0) := by unfold opGarden; rw [hn]
    rw [e1] at hK
    simp only [w42_0, w42_0n, w42_1, w42_2, w42_5, w42_5n, w42_6, w42_7, w42_10, w42_10n, w42_12, w42_12n, w42_14, w42_14n, w42_17, w42_18, w42_19, w42_20, w42_21, w42_24, w42_27, w42_29, w42_30, w42_30n, w42_32, w42_33, w42_36, w42_38, w42_40, w42_43, w42_45, w42_48, w42_49, w42_51, w42_53, w42_56, w42_56n, w42_58, w42_59, w42_61, w42_64, w42_67, w42_68, w42_70, w42_72, w42_75, w42_75n, w42_76, w42_78, w42_81, w42_82, w42_82n, w42_84, w42_85, w42_87, w42_90, w42_92, w42_94, w42_96, w42_99, w42_101, w42_103, w42_104, w42_105, w42_105n, w42_106, w42_106n, w42_108, w42_109, w42_112, w42_112n, w42_113, w42_116, w42_119, w42_122, xk_n, xk_i, xk_r, xk_z, xk_l, xcs_0, xcs_i, xcs_r, xcs_z, xcs_l, Nat.reduceAdd, Nat.reduceLeDiff, Nat.reduceLT, true_and, and_true, Option.toList_some, Option.toList_none, List.nil_append, List.cons_append, List.getElem?_cons_zero, List.getElem?_cons_succ, List.set_cons_zero, List.set_cons_succ, List.length_cons, List.length_nil, y_bool0, y_bool1, not_true_eq_false, not_false_eq_true, false_implies, true_implies, true_or, or_true, false_or, or_false, if_true, if_false, ite_true, ite_false, H1.cls, wp_sheetNo H1 hc]
    exact hK h1 hX1 F1
