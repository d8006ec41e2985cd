/-! ===== the model: fits, odds ===== -/
section
variable {d : Nat} {K : Option Value → xH → Prop} {fa tr p rH rW : Int32} {hi : Nat} {E : Gd} {fr : Nat → Bool} {v n : Nat} {rd : Nat → Nat × Nat × Nat} {A0 : Nat → Nat → Int32}
theorem wp_mar {h0 : xH} (hv : v < gv E) (hgn : gn E = hi * gw E) (hE : okE E) (hs4 : ∀ c, c < gn E → gs E c < 4) (hn8 : n ≤ 8) (R : RA n rd A0) (hrd : ∀ r, r < n → (rd r).1 < 3 ∧ (rd r).2.1 < 80 ∧ (rd r).2.2 < 30) (hK : ∀ h' A', MH h' fa tr (Int32.ofNat hi) (Int32.ofNat (gw E)) (Int32.ofNat (gv E)) p rH rW (Int32.ofNat n) A' → GA E fr A' → KP A' A0 → FR MP 0 0 h0 h' → K (some (.int (bi (asB E fr n rd v)))) h') : ∀ (j q : Nat) (h : xH) (A : Nat → Nat → Int32), q + j = n → MH h fa tr (Int32.ofNat hi) (Int32.ofNat (gw E)) (Int32.ofNat (gv E)) p rH rW (Int32.ofNat n) A → GA E fr A → KP A A0 → FR MP 0 0 h0 h → (∀ r, r < q → (rd r).1 = v → vt (runM E (mild fr ((rd r).2.1 + 1)) v) = (rd r).2.2) → wp (d + 5) 138 2 [some (.ref 25), some (.int (Int32.ofNat v)), some (.int (Int32.ofNat q))] [] h K
  | 0, q, h, A, hq, H, G, HK, F0, HD => by
    have hqn : q = n := by omega
    subst hqn
    have e : Int32.ofNat q ≤ Int32.ofNat q := (n_le (by omega) (by omega)).mpr (by omega)
    have fin := hK h A H G HK F0
    have : asB E fr q rd v = true := decide_eq_true HD
    rw [this] at fin
    rw [w138_2]
    simp only [w138_0, w138_1, w138_3, w138_3n, w138_4, w138_7, w138_10, w138_10n, w138_11, w138_14, w138_15, w138_16, w138_17, w138_20, w138_20n, w138_21, w138_21n, w138_22, w138_25, w138_26, w138_27, w138_30, w138_30n, w138_31, w138_34, w138_35, w138_36, w138_36n, w138_37, w138_40, w138_41, w138_42, w138_45, w138_46, w138_47, w138_50, w138_53, w138_54, xk_n, xk_i, xk_r, xk_z, xk_l, xcs_0, xcs_i, xcs_r, xcs_z, xcs_l, Nat.reduceAdd, Nat.reduceLeDiff, Nat.reduceLT, true_and, and_true, Option.toList_some, Option.toList_none, List.nil_append, List.cons_append, List.getElem?_cons_zero, List.getElem?_cons_succ, List.set_cons_zero, List.set_cons_succ, List.length_cons, List.length_nil, y_bool0, y_bool1, not_true_eq_false, not_false_eq_true, false_implies, true_implies, true_or, or_true, false_or, or_false, if_true, if_false, ite_true, ite_false, y_get, H.o, e]
    exact fin
  | j + 1, q, h, A, hq, H, G, HK, F0, HD => by
    have hv3 := hE.2.1
    have hn30 := hE.1.2.2.1
    have hqn : q < n := by omega
    have e : (Int32.ofNat n ≤ Int32.ofNat q) = False := eq_false (by rw [n_le (by omega) (by omega)]; omega)
    obtain ⟨r1, r2, r3⟩ := (R.kp HK) q hqn
    obtain ⟨b1, b2, b3⟩ := hrd q hqn
    have t1 : (Int32.ofNat (rd q).1 = Int32.ofNat v) = ((rd q).1 = v) := propext (n_eq (by omega) (by omega))
    have z8 : Int32.ofNat q + 1 = Int32.ofNat (q + 1) := n_addl q 1
    rw [w138_2]
    simp only [w138_0, w138_1, w138_3, w138_3n, w138_4, w138_7, w138_10, w138_10n, w138_11, w138_14, w138_15, w138_16, w138_17, w138_21, w138_21n, w138_22, w138_25, w138_26, w138_27, w138_30, w138_30n, w138_31, w138_34, w138_35, w138_36, w138_36n, w138_37, w138_40, w138_41, w138_42, w138_45, w138_46, w138_47, w138_50, w138_53, w138_54, xk_n, xk_i, xk_r, xk_z, xk_l, xcs_0, xcs_i, xcs_r, xcs_z, xcs_l, Nat.reduceAdd, Nat.reduceLeDiff, Nat.reduceLT, true_and, and_true, Option.toList_some, Option.toList_none, List.nil_append, List.cons_append, List.getElem?_cons_zero, List.getElem?_cons_succ, List.set_cons_zero, List.set_cons_succ, List.length_cons, List.length_nil, y_bool0, y_bool1, not_true_eq_false, not_false_eq_true, false_implies, true_implies, true_or, or_true, false_or, or_false, if_true, if_false, ite_true, ite_false, y_get, H.o, e, H.ld20 (show q < 8 by omega), r1, t1, z8]
    by_cases c1 : (rd q).1 = v
    · refine ⟨fun z => absurd c1 z, fun _ => ?_⟩
      simp only [w138_0, w138_1, w138_3, w138_3n, w138_4, w138_7, w138_10, w138_10n, w138_11, w138_14, w138_15, w138_16, w138_17, w138_20, w138_20n, w138_21, w138_21n, w138_22, w138_25, w138_26, w138_27, w138_30, w138_30n, w138_31, w138_34, w138_35, w138_36, w138_36n, w138_37, w138_40, w138_41, w138_42, w138_45, w138_46, w138_47, w138_50, w138_53, w138_54, xk_n, xk_i, xk_r, xk_z, xk_l, xcs_0, xcs_i, xcs_r, xcs_z, xcs_l, Nat.reduceAdd, Nat.reduceLeDiff, Nat.reduceLT, true_and, and_true, Option.toList_some, Option.toList_none, List.nil_append, List.cons_append, List.getElem?_cons_zero, List.getElem?_cons_succ, List.set_cons_zero, List.set_cons_succ, List.length_cons, List.length_nil, y_bool0, y_bool1, not_true_eq_false, not_false_eq_true, false_implies, true_implies, true_or, or_true, false_or, or_false, if_true, if_false, ite_true, ite_false, y_get, H.o, H.ld21 (show q < 8 by omega), r2, H.cls]
      refine wp_mgt b2 H hgn G hE hs4 fun h1 A1 H1 G1 K1 R1 _ F1 => ?_
      have hO := (runM_ok hE (mild fr ((rd q).2.1 + 1)) (by have := mild_k fr ((rd q).2.1 + 1); omega) v hv).tip
      have t3 : (Int32.ofNat (vt (runM E (mild fr ((rd q).2.1 + 1)) v)) = Int32.ofNat (rd q).2.2) = (vt (runM E (mild fr ((rd q).2.1 + 1)) v) = (rd q).2.2) := propext (n_eq (by omega) (by omega))
      have r3' := ((R.kp (HK.tr K1)) q hqn).2.2
      simp only [w138_0, w138_1, w138_3, w138_3n, w138_4, w138_7, w138_10, w138_10n, w138_11, w138_14, w138_15, w138_16, w138_17, w138_20, w138_20n, w138_21, w138_21n, w138_22, w138_25, w138_26, w138_27, w138_30, w138_30n, w138_31, w138_34, w138_35, w138_36, w138_36n, w138_37, w138_40, w138_41, w138_42, w138_45, w138_46, w138_47, w138_50, w138_53, w138_54, xk_n, xk_i, xk_r, xk_z, xk_l, xcs_0, xcs_i, xcs_r, xcs_z, xcs_l, Nat.reduceAdd, Nat.reduceLeDiff, Nat.reduceLT, true_and, and_true, Option.toList_some, Option.toList_none, List.nil_append, List.cons_append, List.getElem?_cons_zero, List.getElem?_cons_succ, List.set_cons_zero, List.set_cons_succ, List.length_cons, List.length_nil, y_bool0, y_bool1, not_true_eq_false, not_false_eq_true, false_implies, true_implies, true_or, or_true, false_or, or_false, if_true, if_false, ite_true, ite_false, y_get, H1.o, H1.ld9 (show v < 3 by omega), (R1 v hv).1, H1.ld22 (show q < 8 by omega), r3', t3, z8]
      by_cases c2 : vt (runM E (mild fr ((rd q).2.1 + 1)) v) = (rd q).2.2
      · refine ⟨fun _ => ?_, fun z => absurd c2 z⟩
        refine wp_mar hv hgn hE hs4 hn8 R hrd hK j (q + 1) h1 A1 (by omega) H1 G1 (HK.tr K1) (F0.tr F1) fun r hr hrv => ?_
        by_cases z : r = q
        · rw [z]; exact c2
        · exact HD r (by omega) hrv
      · refine ⟨fun z => absurd z c2, fun _ => ?_⟩
        have fin := hK h1 A1 H1 G1 (HK.tr K1) (F0.tr F1)
        have : asB E fr n rd v = false := decide_eq_false fun z => c2 (z q hqn c1)
        rw [this] at fin
        exact fin
    · refine ⟨fun _ => ?_, fun z => absurd z c1⟩
      refine wp_mar hv hgn hE hs4 hn8 R hrd hK j (q + 1) h A (by omega) H G HK F0 fun r hr hrv => ?_
      by_cases z : r = q
      · rw [z] at hrv; exact absurd hrv c1
      · exact HD r (by omega) hrv
theorem wp_mft {h0 : xH} {i2 i3 : Int32} {bb : Nat → Bool} (hv : v < gv E) (hgn : gn E = hi * gw E) (hE : okE E) (hs4 : ∀ c, c < gn E → gs E c < 4) (hn8 : n ≤ 8) (R : RA n rd A0) (hrd : ∀ r, r < n → (rd r).1 < 3 ∧ (rd r).2.1 < 80 ∧ (rd r).2.2 < 30) (hbb : ∀ c, c < 12 → asB (edH (edK E v (c / 4)) v (c % 4)) fr n rd v = bb c) (hK : ∀ h' A' (l5 : Option Value), MH h' fa tr (Int32.ofNat hi) (Int32.ofNat (gw E)) (Int32.ofNat (gv E)) p rH rW (Int32.ofNat n) A' → (∃ a b, GA (edH (edK E v a) v b) fr A') → KP A' A0 → FR MP 0 0 h0 h' → wp (d + 6) 139 84 [some (.ref 25), some (.int (Int32.ofNat v)), some (.int i2), some (.int i3), some (.int (Int32.ofNat (ftF bb 12))), l5] [] h' K) : ∀ (j c : Nat) (h : xH) (A : Nat → Nat → Int32), c + j = 12 → MH h fa tr (Int32.ofNat hi) (Int32.ofNat (gw E)) (Int32.ofNat (gv E)) p rH rW (Int32.ofNat n) A → (∃ a b, GA (edH (edK E v a) v b) fr A) → KP A A0 → FR MP 0 0 h0 h → wp (d + 6) 139 30 [some (.ref 25), some (.int (Int32.ofNat v)), some (.int i2), some (.int i3), some (.int (Int32.ofNat (ftF bb c))), some (.int (Int32.ofNat c))] [] h K
  | 0, c, h, A, hc, H, G, HK, F0 => by
    have hc12 : c = 12 := by omega
    subst hc12
    have e : (12 : Int32) ≤ Int32.ofNat 12 := by decide
    rw [w139_30]
    simp only [w139_0, w139_0n, w139_1, w139_2, w139_5, w139_8, w139_9, w139_10, w139_10n, w139_11, w139_14, w139_15, w139_16, w139_17, w139_17n, w139_18, w139_21, w139_22, w139_23, w139_24, w139_25, w139_27, w139_28, w139_32, w139_34, w139_37, w139_37n, w139_38, w139_41, w139_42, w139_44, w139_45, w139_46, w139_47, w139_47n, w139_48, w139_51, w139_52, w139_54, w139_55, w139_56, w139_57, w139_59, w139_59n, w139_60, w139_61, w139_64, w139_67, w139_68, w139_70, w139_71, w139_74, w139_75, w139_76, w139_78, w139_81, w139_85, w139_88, w139_89, w139_90, w139_91, w139_91n, w139_92, w139_95, w139_96, w139_97, w139_98, w139_100, xk_n, xk_i, xk_r, xk_z, xk_l, xcs_0, xcs_i, xcs_r, xcs_z, xcs_l, Nat.reduceAdd, Nat.reduceLeDiff, Nat.reduceLT, true_and, and_true, Option.toList_some, Option.toList_none, List.nil_append, List.cons_append, List.getElem?_cons_zero, List.getElem?_cons_succ, List.set_cons_zero, List.set_cons_succ, List.length_cons, List.length_nil, y_bool0, y_bool1, not_true_eq_false, not_false_eq_true, false_implies, true_implies, true_or, or_true, false_or, or_false, if_true, if_false, ite_true, ite_false, e]
    exact hK h A _ H G HK F0
  | j + 1, c, h, A, hc, H, ⟨a, b, G⟩, HK, F0 => by
    have hv3 := hE.2.1
    have hv' : v < 3 := by omega
    have e : ((12 : Int32) ≤ Int32.ofNat c) = False := eq_false (by have := n_lle (m := 12) (a := c) (by omega) (by omega); rw [this]; omega)
    have z5 : ((4 : Int32) = 0) = False := eq_false (by decide)
    have z6 : Int32.ofNat c / 4 = Int32.ofNat (c / 4) := by
      have := n_div (a := c) (b := 4) (by omega) (by omega)
      exact this
    have z7 : Int32.ofNat c - Int32.ofNat (c / 4) * 4 = Int32.ofNat (c % 4) := by
      have := n_mod (a := c) (b := 4) (by omega) (by omega)
      rw [n_div (by omega) (by omega)] at this
      exact this
    have z8 : Int32.ofNat c + 1 = Int32.ofNat (c + 1) := n_addl c 1
    have z10 : ((1 : Int32) = 0) = False := eq_false (by decide)
    have z0 : (0 : Int32) = Int32.ofNat 0 := rfl
    rw [w139_30]
    simp only [w139_0, w139_0n, w139_1, w139_2, w139_5, w139_8, w139_9, w139_10, w139_10n, w139_11, w139_14, w139_15, w139_16, w139_17, w139_17n, w139_18, w139_21, w139_22, w139_23, w139_24, w139_25, w139_27, w139_28, w139_32, w139_34, w139_37, w139_37n, w139_38, w139_41, w139_42, w139_44, w139_45, w139_46, w139_47, w139_47n, w139_48, w139_51, w139_52, w139_54, w139_55, w139_56, w139_57, w139_59, w139_59n, w139_60, w139_61, w139_64, w139_67, w139_68, w139_70, w139_71, w139_74, w139_75, w139_76, w139_78, w139_81, w139_85, w139_88, w139_89, w139_90, w139_91, w139_91n, w139_92, w139_95, w139_96, w139_97, w139_98, w139_100, xk_n, xk_i, xk_r, xk_z, xk_l, xcs_0, xcs_i, xcs_r, xcs_z, xcs_l, Nat.reduceAdd, Nat.reduceLeDiff, Nat.reduceLT, true_and, and_true, Option.toList_some, Option.toList_none, List.nil_append, List.cons_append, List.getElem?_cons_zero, List.getElem?_cons_succ, List.set_cons_zero, List.set_cons_succ, List.length_cons, List.length_nil, y_bool0, y_bool1, not_true_eq_false, not_false_eq_true, false_implies, true_implies, true_or, or_true, false_or, or_false, if_true, if_false, ite_true, ite_false, e, y_get, H.o, z5, z6, z7]
    refine H.st4 hv' fun h1 H1 F1 => ?_
    have G1 := G.k4 v (c / 4)
    rw [edK_edH, edK_edK] at G1
    simp only [w139_0, w139_0n, w139_1, w139_2, w139_5, w139_8, w139_9, w139_10, w139_10n, w139_11, w139_14, w139_15, w139_16, w139_17, w139_17n, w139_18, w139_21, w139_22, w139_23, w139_24, w139_25, w139_27, w139_28, w139_32, w139_34, w139_37, w139_37n, w139_38, w139_41, w139_42, w139_44, w139_45, w139_46, w139_47, w139_47n, w139_48, w139_51, w139_52, w139_54, w139_55, w139_56, w139_57, w139_59, w139_59n, w139_60, w139_61, w139_64, w139_67, w139_68, w139_70, w139_71, w139_74, w139_75, w139_76, w139_78, w139_81, w139_85, w139_88, w139_89, w139_90, w139_91, w139_91n, w139_92, w139_95, w139_96, w139_97, w139_98, w139_100, xk_n, xk_i, xk_r, xk_z, xk_l, xcs_0, xcs_i, xcs_r, xcs_z, xcs_l, Nat.reduceAdd, Nat.reduceLeDiff, Nat.reduceLT, true_and, and_true, Option.toList_some, Option.toList_none, List.nil_append, List.cons_append, List.getElem?_cons_zero, List.getElem?_cons_succ, List.set_cons_zero, List.set_cons_succ, List.length_cons, List.length_nil, y_bool0, y_bool1, not_true_eq_false, not_false_eq_true, false_implies, true_implies, true_or, or_true, false_or, or_false, if_true, if_false, ite_true, ite_false, y_get, H1.o, z5, z6, z7]
    refine H1.st6 hv' fun h2 H2 F2 => ?_
    have G2 := G1.h6 v (c % 4)
    rw [edH_edH] at G2
    have K2 := (HK.tr (KP.up (A := A) (j := 4) (upd (A 4) v (Int32.ofNat (c / 4))) (by omega) (by omega))).tr (KP.up (A := upA A 4 (upd (A 4) v (Int32.ofNat (c / 4)))) (j := 6) (upd (upA A 4 (upd (A 4) v (Int32.ofNat (c / 4))) 6) v (Int32.ofNat (c % 4))) (by omega) (by omega))
    simp only [w139_0, w139_0n, w139_1, w139_2, w139_5, w139_8, w139_9, w139_10, w139_10n, w139_11, w139_14, w139_15, w139_16, w139_17, w139_17n, w139_18, w139_21, w139_22, w139_23, w139_24, w139_25, w139_27, w139_28, w139_32, w139_34, w139_37, w139_37n, w139_38, w139_41, w139_42, w139_44, w139_45, w139_46, w139_47, w139_47n, w139_48, w139_51, w139_52, w139_54, w139_55, w139_56, w139_57, w139_59, w139_59n, w139_60, w139_61, w139_64, w139_67, w139_68, w139_70, w139_71, w139_74, w139_75, w139_76, w139_78, w139_81, w139_85, w139_88, w139_89, w139_90, w139_91, w139_91n, w139_92, w139_95, w139_96, w139_97, w139_98, w139_100, xk_n, xk_i, xk_r, xk_z, xk_l, xcs_0, xcs_i, xcs_r, xcs_z, xcs_l, Nat.reduceAdd, Nat.reduceLeDiff, Nat.reduceLT, true_and, and_true, Option.toList_some, Option.toList_none, List.nil_append, List.cons_append, List.getElem?_cons_zero, List.getElem?_cons_succ, List.set_cons_zero, List.set_cons_succ, List.length_cons, List.length_nil, y_bool0, y_bool1, not_true_eq_false, not_false_eq_true, false_implies, true_implies, true_or, or_true, false_or, or_false, if_true, if_false, ite_true, ite_false, H2.cls]
    have lt := ftF_lt bb c
    have pc : 2 ^ c ≤ 2 ^ 11 := Nat.pow_le_pow_right (by omega) (by omega)
    have z3 : (1 : Int32) <<< (Int32.ofNat c &&& 31) = Int32.ofNat (2 ^ c) := by
      have := i_shl (L := 1) (c := c) (by omega) (by omega)
      rw [Nat.one_mul] at this
      exact this
    have z4 : Int32.ofNat (ftF bb c) ||| Int32.ofNat (2 ^ c) = Int32.ofNat (ftF bb c ||| 2 ^ c) := i_or (by omega) (by omega)
    have z40 : Int32.ofNat (ftF bb c) ||| 0 = Int32.ofNat (ftF bb c) := by
      have := i_or (A := ftF bb c) (B := 0) (by omega) (by omega)
      rw [Nat.or_zero] at this
      exact this
    have go : wp (d + 5) 138 2 [some (.ref 25), some (.int (Int32.ofNat v)), some (.int (Int32.ofNat 0))] [] h2 (fun x h1 => wp (d + 5 + 1) 139 64 [some (.ref 25), some (.int (Int32.ofNat v)), some (.int i2), some (.int i3), some (.int (Int32.ofNat (ftF bb c))), some (.int (Int32.ofNat c))] (x.toList ++ [.int (Int32.ofNat (ftF bb c))]) h1 K) := by
      refine wp_mar (E := edH (edK E v (c / 4)) v (c % 4)) (fr := fr) (h0 := h0) (A0 := A0) hv hgn (okE_H (okE_K hE (by omega)) (Nat.mod_lt _ (by omega))) hs4 hn8 R hrd (fun h3 A3 H3 G3 K3 F3 => ?_) n 0 h2 _ (by omega) H2 G2 K2 ((F0.tr F1).tr F2) (fun r hr => by omega)
      have ls := ftF_s bb c
      rw [hbb c (by omega)]
      have nx := wp_mft (i2 := i2) (i3 := i3) hv hgn hE hs4 hn8 R hrd hbb hK j (c + 1) h3 A3 (by omega) H3 ⟨_, _, G3⟩ K3 F3
      cases q2 : bb c
      · rw [q2, if_neg (by simp)] at ls
        simp only [w139_0, w139_0n, w139_1, w139_2, w139_5, w139_8, w139_9, w139_10, w139_10n, w139_11, w139_14, w139_15, w139_16, w139_17, w139_17n, w139_18, w139_21, w139_22, w139_23, w139_24, w139_25, w139_27, w139_28, w139_32, w139_34, w139_37, w139_37n, w139_38, w139_41, w139_42, w139_44, w139_45, w139_46, w139_47, w139_47n, w139_48, w139_51, w139_52, w139_54, w139_55, w139_56, w139_57, w139_59, w139_59n, w139_60, w139_61, w139_64, w139_67, w139_68, w139_70, w139_71, w139_74, w139_75, w139_76, w139_78, w139_81, w139_85, w139_88, w139_89, w139_90, w139_91, w139_91n, w139_92, w139_95, w139_96, w139_97, w139_98, w139_100, xk_n, xk_i, xk_r, xk_z, xk_l, xcs_0, xcs_i, xcs_r, xcs_z, xcs_l, Nat.reduceAdd, Nat.reduceLeDiff, Nat.reduceLT, true_and, and_true, Option.toList_some, Option.toList_none, List.nil_append, List.cons_append, List.getElem?_cons_zero, List.getElem?_cons_succ, List.set_cons_zero, List.set_cons_succ, List.length_cons, List.length_nil, y_bool0, y_bool1, not_true_eq_false, not_false_eq_true, false_implies, true_implies, true_or, or_true, false_or, or_false, if_true, if_false, ite_true, ite_false, bi_f, z8, z40]
        rw [ls] at nx
        exact nx
      · rw [q2, if_pos rfl] at ls
        simp only [w139_0, w139_0n, w139_1, w139_2, w139_5, w139_8, w139_9, w139_10, w139_10n, w139_11, w139_14, w139_15, w139_16, w139_17, w139_17n, w139_18, w139_21, w139_22, w139_23, w139_24, w139_25, w139_27, w139_28, w139_32, w139_34, w139_37, w139_37n, w139_38, w139_41, w139_42, w139_44, w139_45, w139_46, w139_47, w139_47n, w139_48, w139_51, w139_52, w139_54, w139_55, w139_56, w139_57, w139_59, w139_59n, w139_60, w139_61, w139_64, w139_67, w139_68, w139_70, w139_71, w139_74, w139_75, w139_76, w139_78, w139_81, w139_85, w139_88, w139_89, w139_90, w139_91, w139_91n, w139_92, w139_95, w139_96, w139_97, w139_98, w139_100, xk_n, xk_i, xk_r, xk_z, xk_l, xcs_0, xcs_i, xcs_r, xcs_z, xcs_l, Nat.reduceAdd, Nat.reduceLeDiff, Nat.reduceLT, true_and, and_true, Option.toList_some, Option.toList_none, List.nil_append, List.cons_append, List.getElem?_cons_zero, List.getElem?_cons_succ, List.set_cons_zero, List.set_cons_succ, List.length_cons, List.length_nil, y_bool0, y_bool1, not_true_eq_false, not_false_eq_true, false_implies, true_implies, true_or, or_true, false_or, or_false, if_true, if_false, ite_true, ite_false, bi_t, z10, z8, z3, z4]
        rw [ls] at nx
        exact nx
    have z0' : wp (d + 5) 138 0 [some (.ref 25), some (.int (Int32.ofNat v)), none] [] h2 (fun x h1 => wp (d + 5 + 1) 139 64 [some (.ref 25), some (.int (Int32.ofNat v)), some (.int i2), some (.int i3), some (.int (Int32.ofNat (ftF bb c))), some (.int (Int32.ofNat c))] (x.toList ++ [.int (Int32.ofNat (ftF bb c))]) h1 K) := by
      simp only [w138_0, w138_1, w138_3, w138_3n, w138_4, w138_7, w138_10, w138_10n, w138_11, w138_14, w138_15, w138_16, w138_17, w138_20, w138_20n, w138_21, w138_21n, w138_22, w138_25, w138_26, w138_27, w138_30, w138_30n, w138_31, w138_34, w138_35, w138_36, w138_36n, w138_37, w138_40, w138_41, w138_42, w138_45, w138_46, w138_47, w138_50, w138_53, w138_54, xk_n, xk_i, xk_r, xk_z, xk_l, xcs_0, xcs_i, xcs_r, xcs_z, xcs_l, Nat.reduceAdd, Nat.reduceLeDiff, Nat.reduceLT, true_and, and_true, Option.toList_some, Option.toList_none, List.nil_append, List.cons_append, List.getElem?_cons_zero, List.getElem?_cons_succ, List.set_cons_zero, List.set_cons_succ, List.length_cons, List.length_nil, y_bool0, y_bool1, not_true_eq_false, not_false_eq_true, false_implies, true_implies, true_or, or_true, false_or, or_false, if_true, if_false, ite_true, ite_false]
      exact go
    exact z0'
end
section
variable {d : Nat} {h : xH} {K : Option Value → xH → Prop} {s : St}
theorem mop_fits (hO : okS s) (H : RM h s) (v : Int32) (hK : ∀ h', RM h' s → FR MP 0 0 h h' → K (some (.int (opFits s v))) h') : wp (d + 6) 139 0 [some (.ref 25), some (.int v), none, none, none, none] [] h K := by
  have HX := H
  obtain ⟨hi, p, rH, rW, A, hg, h5, H, G, S, R⟩ := H
  have hv3 := hO.v3
  have hn30 := hO.n30
  have z10 : ((1 : Int32) = 0) = False := eq_false (by decide)
  rcases nb_cas v (m := gv (sE s)) (by omega) with ⟨a, ha, rfl, hnb⟩ | ⟨hc, hnb⟩
  · have hE := hO.ok ha
    have e1 : opFits s (Int32.ofNat a) = Int32.ofNat (ftF (fitB s a) 12) := by unfold opFits; rw [hnb]
    rw [e1] at hK
    have z0 : (0 : Int32) = Int32.ofNat 0 := rfl
    obtain ⟨k1, k2, k3⟩ := G.2.1 a ha
    simp only [w139_0, w139_0n, w139_1, w139_2, w139_5, w139_8, w139_9, w139_10, w139_10n, w139_11, w139_14, w139_15, w139_16, w139_17, w139_17n, w139_18, w139_21, w139_22, w139_23, w139_24, w139_25, w139_27, w139_28, w139_32, w139_34, w139_37, w139_37n, w139_38, w139_41, w139_42, w139_44, w139_45, w139_46, w139_47, w139_47n, w139_48, w139_51, w139_52, w139_54, w139_55, w139_56, w139_57, w139_59, w139_59n, w139_60, w139_61, w139_64, w139_67, w139_68, w139_70, w139_71, w139_74, w139_75, w139_76, w139_78, w139_81, w139_84, w139_84n, w139_85, w139_88, w139_89, w139_90, w139_91, w139_91n, w139_92, w139_95, w139_96, w139_97, w139_98, w139_100, xk_n, xk_i, xk_r, xk_z, xk_l, xcs_0, xcs_i, xcs_r, xcs_z, xcs_l, Nat.reduceAdd, Nat.reduceLeDiff, Nat.reduceLT, true_and, and_true, Option.toList_some, Option.toList_none, List.nil_append, List.cons_append, List.getElem?_cons_zero, List.getElem?_cons_succ, List.set_cons_zero, List.set_cons_succ, List.length_cons, List.length_nil, y_bool0, y_bool1, not_true_eq_false, not_false_eq_true, false_implies, true_implies, true_or, or_true, false_or, or_false, if_true, if_false, ite_true, ite_false, y_get, H.o, H.cls, wp_mvi_t H hv3 ha, z10, H.ld4 (show a < 3 by omega), H.ld6 (show a < 3 by omega), k1, k3]
    rw [z0]
    refine wp_mft (bb := fitB s a) (fr := sFr s) (rd := sRd s) (n := sRn s) (h0 := h) (A0 := A) ha hg hE hO.2.2.2 hO.2.1 R (fun r hr => by have := hO.2.2.1 r hr; omega) (fun c hc => rfl) (fun h1 A1 l5 H1 ⟨ka, kb, G1⟩ K1 F1 => ?_) 12 0 h A (by omega) H ⟨gk (sE s) a, gh (sE s) a, by rw [edK_sm, edH_sm]; exact G⟩ KP.rfl' FR.rfl'
    simp only [w139_0, w139_0n, w139_1, w139_2, w139_5, w139_8, w139_9, w139_10, w139_10n, w139_11, w139_14, w139_15, w139_16, w139_17, w139_17n, w139_18, w139_21, w139_22, w139_23, w139_24, w139_25, w139_27, w139_28, w139_32, w139_34, w139_37, w139_37n, w139_38, w139_41, w139_42, w139_44, w139_45, w139_46, w139_47, w139_47n, w139_48, w139_51, w139_52, w139_54, w139_55, w139_56, w139_57, w139_59, w139_59n, w139_60, w139_61, w139_64, w139_67, w139_68, w139_70, w139_71, w139_74, w139_75, w139_76, w139_78, w139_81, w139_84, w139_84n, w139_85, w139_88, w139_89, w139_90, w139_91, w139_91n, w139_92, w139_95, w139_96, w139_97, w139_98, w139_100, xk_n, xk_i, xk_r, xk_z, xk_l, xcs_0, xcs_i, xcs_r, xcs_z, xcs_l, Nat.reduceAdd, Nat.reduceLeDiff, Nat.reduceLT, true_and, and_true, Option.toList_some, Option.toList_none, List.nil_append, List.cons_append, List.getElem?_cons_zero, List.getElem?_cons_succ, List.set_cons_zero, List.set_cons_succ, List.length_cons, List.length_nil, y_bool0, y_bool1, not_true_eq_false, not_false_eq_true, false_implies, true_implies, true_or, or_true, false_or, or_false, if_true, if_false, ite_true, ite_false, y_get, H1.o]
    refine H1.st4 (show a < 3 by omega) fun h2 H2 F2 => ?_
    have G2 := G1.k4 a (gk (sE s) a)
    rw [edK_edH, edK_edK, edK_sm] at G2
    simp only [w139_0, w139_0n, w139_1, w139_2, w139_5, w139_8, w139_9, w139_10, w139_10n, w139_11, w139_14, w139_15, w139_16, w139_17, w139_17n, w139_18, w139_21, w139_22, w139_23, w139_24, w139_25, w139_27, w139_28, w139_32, w139_34, w139_37, w139_37n, w139_38, w139_41, w139_42, w139_44, w139_45, w139_46, w139_47, w139_47n, w139_48, w139_51, w139_52, w139_54, w139_55, w139_56, w139_57, w139_59, w139_59n, w139_60, w139_61, w139_64, w139_67, w139_68, w139_70, w139_71, w139_74, w139_75, w139_76, w139_78, w139_81, w139_84, w139_84n, w139_85, w139_88, w139_89, w139_90, w139_91, w139_91n, w139_92, w139_95, w139_96, w139_97, w139_98, w139_100, xk_n, xk_i, xk_r, xk_z, xk_l, xcs_0, xcs_i, xcs_r, xcs_z, xcs_l, Nat.reduceAdd, Nat.reduceLeDiff, Nat.reduceLT, true_and, and_true, Option.toList_some, Option.toList_none, List.nil_append, List.cons_append, List.getElem?_cons_zero, List.getElem?_cons_succ, List.set_cons_zero, List.set_cons_succ, List.length_cons, List.length_nil, y_bool0, y_bool1, not_true_eq_false, not_false_eq_true, false_implies, true_implies, true_or, or_true, false_or, or_false, if_true, if_false, ite_true, ite_false, y_get, H2.o]
    refine H2.st6 (show a < 3 by omega) fun h3 H3 F3 => ?_
    have G3 := G2.h6 a (gh (sE s) a)
    rw [edH_edH, edH_sm] at G3
    have K3 := (K1.tr (KP.up (A := A1) (j := 4) (upd (A1 4) a (Int32.ofNat (gk (sE s) a))) (by omega) (by omega))).tr (KP.up (A := upA A1 4 (upd (A1 4) a (Int32.ofNat (gk (sE s) a)))) (j := 6) (upd (upA A1 4 (upd (A1 4) a (Int32.ofNat (gk (sE s) a))) 6) a (Int32.ofNat (gh (sE s) a))) (by omega) (by omega))
    exact hK h3 ⟨hi, p, rH, rW, _, hg, h5, H3, G3, S.kp K3, R.kp K3⟩ ((F1.tr F2).tr F3)
  · have e1 : opFits s v = -1 := by unfold opFits; rw [hnb]
    rw [e1] at hK
    simp only [w139_0, w139_0n, w139_1, w139_2, w139_5, w139_8, w139_9, w139_10, w139_10n, w139_11, w139_14, w139_15, w139_16, w139_17, w139_17n, w139_18, w139_21, w139_22, w139_23, w139_24, w139_25, w139_27, w139_28, w139_30, w139_32, w139_34, w139_37, w139_37n, w139_38, w139_41, w139_42, w139_44, w139_45, w139_46, w139_47, w139_47n, w139_48, w139_51, w139_52, w139_54, w139_55, w139_56, w139_57, w139_59, w139_59n, w139_60, w139_61, w139_64, w139_67, w139_68, w139_70, w139_71, w139_74, w139_75, w139_76, w139_78, w139_81, w139_84, w139_84n, w139_85, w139_88, w139_89, w139_90, w139_91, w139_91n, w139_92, w139_95, w139_96, w139_97, w139_98, w139_100, xk_n, xk_i, xk_r, xk_z, xk_l, xcs_0, xcs_i, xcs_r, xcs_z, xcs_l, Nat.reduceAdd, Nat.reduceLeDiff, Nat.reduceLT, true_and, and_true, Option.toList_some, Option.toList_none, List.nil_append, List.cons_append, List.getElem?_cons_zero, List.getElem?_cons_succ, List.set_cons_zero, List.set_cons_succ, List.length_cons, List.length_nil, y_bool0, y_bool1, not_true_eq_false, not_false_eq_true, false_implies, true_implies, true_or, or_true, false_or, or_false, if_true, if_false, ite_true, ite_false, H.cls, wp_mvi_f H hc]
    exact hK h HX FR.rfl'
end
