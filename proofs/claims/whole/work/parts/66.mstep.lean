/-! ===== the model: a step, the way back, all days to one ===== -/
theorem RV.ot {E : Gd} {A A' : Nat → Nat → Int32} {u v : Nat} {x : Vs} (R : RV E A u x) (O : OT v A A') (hu : u ≠ v) (hx : ∀ c, (vl x).testBit c = true → c < 30) : RV E A' u x := by
  obtain ⟨r1, r2, r3, r4, r5, r6, r7⟩ := R
  refine ⟨?_, ?_, ?_, ?_, ?_, ?_, fun c hc hcp => ?_⟩
  · rw [O.2.1 9 (by omega) (by omega) u hu]; exact r1
  · rw [O.2.1 10 (by omega) (by omega) u hu]; exact r2
  · rw [O.2.1 11 (by omega) (by omega) u hu]; exact r3
  · rw [O.2.1 12 (by omega) (by omega) u hu]; exact r4
  · rw [O.2.1 13 (by omega) (by omega) u hu]; exact r5
  · rw [O.2.1 14 (by omega) (by omega) u hu]; exact r6
  · obtain ⟨c', h1, h2⟩ := r7 c hc hcp
    exact ⟨c', h1, by rw [O.2.2 u c hu (hx c hc)]; exact h2⟩
theorem RG.up {E : Gd} {A A' : Nat → Nat → Int32} {D : Nat → Vs} {v : Nat} {x : Vs} (hE : okE E) (hG : okG E D) (R : RG E A D) (O : OT v A A') (hx : RV E A' v x) : RG E A' (upG D v x) := by
  intro u hu
  by_cases q : u = v
  · subst q
    rw [upG_at]; exact hx
  · rw [upG_ne _ _ q]
    refine (R u hu).ot O q fun c hc => ?_
    have := ((hG u hu).1 c hc).1
    have := hE.1.2.2.1
    omega
theorem GA.ot {E : Gd} {fr : Nat → Bool} {A A' : Nat → Nat → Int32} (G : GA E fr A) (h : ∀ j, j < 9 → A' j = A j) : GA E fr A' := by
  refine ⟨fun c hc => ?_, fun v hv => ?_, fun d hd => ?_⟩
  · rw [h 3 (by omega)]; exact G.1 c hc
  · rw [h 4 (by omega), h 5 (by omega), h 6 (by omega)]; exact G.2.1 v hv
  · rw [h 7 (by omega)]; exact G.2.2 d hd
section
variable {d : Nat} {K : Option Value → xH → Prop} {fa tr p rH rW nr : Int32} {hi : Nat} {E : Gd} {fr : Nat → Bool} {v : Nat}
theorem wp_mhd {nv : Int32} {c t : Nat} {A0 : Nat → Nat → Int32} {x0 : Int32} {l2 : Option Value} (hw : okW (gw E) (gn E)) (hgn : gn E = hi * gw E) (hv : v < 3) (ht : t < gn E) (hcn : c < 30) {dd : Nat} (hdd : dd < 4) (hb : bes (gw E) (gn E) t dd = some c) : ∀ (j k : Nat) (h : xH) (A : Nat → Nat → Int32), k + j = 4 → MH h fa tr (Int32.ofNat hi) (Int32.ofNat (gw E)) nv p rH rW nr A → OT v A0 A → (∀ i, i ≠ 10 → A i = A0 i) → A 10 v = (if dd < k then Int32.ofNat dd else x0) → (∀ h' A', MH h' fa tr (Int32.ofNat hi) (Int32.ofNat (gw E)) nv p rH rW nr A' → OT v A0 A' → (∀ i, i ≠ 10 → A' i = A0 i) → A' 10 v = Int32.ofNat dd → FR MP 0 0 h h' → ∀ l5, wp (d + 1) 117 82 [some (.ref 25), some (.int (Int32.ofNat v)), l2, some (.int (Int32.ofNat t)), some (.int (Int32.ofNat c)), l5] [] h' K) → wp (d + 1) 117 41 [some (.ref 25), some (.int (Int32.ofNat v)), l2, some (.int (Int32.ofNat t)), some (.int (Int32.ofNat c)), some (.int (Int32.ofNat k))] [] h K
  | 0, k, h, A, hk, H, O, HA, HX, hK => by
    have e : (4 : Int32) ≤ Int32.ofNat k := (n_lle (m := 4) (by omega) (by omega)).mpr (by omega)
    rw [w117_41]
    simp only [w117_0, w117_0n, w117_1, w117_4, w117_5, w117_6, w117_7, w117_8, w117_8n, w117_9, w117_12, w117_13, w117_14, w117_17, w117_17n, w117_18, w117_21, w117_22, w117_23, w117_24, w117_25, w117_25n, w117_26, w117_29, w117_31, w117_32, w117_33, w117_34, w117_35, w117_36, w117_38, w117_39, w117_43, w117_44, w117_47, w117_47n, w117_48, w117_51, w117_52, w117_52n, w117_53, w117_54, w117_56, w117_59, w117_61, w117_64, w117_66, w117_69, w117_69n, w117_70, w117_73, w117_74, w117_75, w117_76, w117_79, w117_83, w117_86, w117_87, w117_89, w117_90, w117_90n, w117_91, w117_94, w117_95, w117_96, w117_97, w117_98, w117_99, w117_100, xk_n, xk_i, xk_r, xk_z, xk_l, xcs_0, xcs_i, xcs_r, xcs_z, xcs_l, Nat.reduceAdd, Nat.reduceLeDiff, Nat.reduceLT, true_and, and_true, Option.toList_some, Option.toList_none, List.nil_append, List.cons_append, List.getElem?_cons_zero, List.getElem?_cons_succ, List.set_cons_zero, List.set_cons_succ, List.length_cons, List.length_nil, y_bool0, y_bool1, not_true_eq_false, not_false_eq_true, false_implies, true_implies, true_or, or_true, false_or, or_false, if_true, if_false, ite_true, ite_false, e]
    rw [if_pos (by omega)] at HX
    exact hK h A H O HA HX FR.rfl' _
  | j + 1, k, h, A, hk, H, O, HA, HX, hK => by
    have e : ((4 : Int32) ≤ Int32.ofNat k) = False := eq_false (by have := n_lle (m := 4) (a := k) (by omega) (by omega); rw [this]; omega)
    have z8 : Int32.ofNat k + 1 = Int32.ofNat (k + 1) := n_addl k 1
    have t1 : (oC (bes (gw E) (gn E) t k) = Int32.ofNat c) = (bes (gw E) (gn E) t k = some c) := oC_eq (fun x hx => by have := bes_lt hw ht hx; have := hw.2.2.1; omega) (by omega)
    have t2 : (bes (gw E) (gn E) t k = some c) = (k = dd) := propext ⟨fun z => bes_inj hw ht (by omega) hdd z hb, fun z => by rw [z]; exact hb⟩
    have go : ∀ x : Int32, x = (if dd < k + 1 then Int32.ofNat dd else x0) → y_iast h 36 (Int32.ofNat v) x (fun h1 => wp (d + 1) 117 41 [some (.ref 25), some (.int (Int32.ofNat v)), l2, some (.int (Int32.ofNat t)), some (.int (Int32.ofNat c)), some (.int (Int32.ofNat (k + 1)))] [] h1 K) := by
      intro x hx
      refine H.st10 hv fun h1 H1 F1 => ?_
      refine wp_mhd (x0 := x0) hw hgn hv ht hcn hdd hb j (k + 1) h1 _ (by omega) H1 (O.tr (OT.st x (by omega) (by omega))) (fun i hi' => by rw [upA_ne _ _ hi']; exact HA i hi') ?_ fun h' A' a1 a2 a3 a4 a5 => hK h' A' a1 a2 a3 a4 (F1.tr a5)
      rw [upA_at, upd_at]; exact hx
    rw [w117_41]
    simp only [w117_0, w117_0n, w117_1, w117_4, w117_5, w117_6, w117_7, w117_8, w117_8n, w117_9, w117_12, w117_13, w117_14, w117_17, w117_17n, w117_18, w117_21, w117_22, w117_23, w117_24, w117_25, w117_25n, w117_26, w117_29, w117_31, w117_32, w117_33, w117_34, w117_35, w117_36, w117_38, w117_39, w117_43, w117_44, w117_47, w117_47n, w117_48, w117_51, w117_52, w117_52n, w117_53, w117_54, w117_56, w117_59, w117_61, w117_64, w117_66, w117_69, w117_69n, w117_70, w117_73, w117_74, w117_75, w117_76, w117_79, w117_83, w117_86, w117_87, w117_89, w117_90, w117_90n, w117_91, w117_94, w117_95, w117_96, w117_97, w117_98, w117_99, w117_100, xk_n, xk_i, xk_r, xk_z, xk_l, xcs_0, xcs_i, xcs_r, xcs_z, xcs_l, Nat.reduceAdd, Nat.reduceLeDiff, Nat.reduceLT, true_and, and_true, Option.toList_some, Option.toList_none, List.nil_append, List.cons_append, List.getElem?_cons_zero, List.getElem?_cons_succ, List.set_cons_zero, List.set_cons_succ, List.length_cons, List.length_nil, y_bool0, y_bool1, not_true_eq_false, not_false_eq_true, false_implies, true_implies, true_or, or_true, false_or, or_false, if_true, if_false, ite_true, ite_false, y_get, H.o, e, H.cls, wp_mbes H hw hgn ht (show k < 4 by omega), t1, t2, H.ld10 hv, HX, z8]
    by_cases q : k = dd
    · refine ⟨fun z => absurd q z, fun _ => go _ ?_⟩
      rw [if_pos (by omega), q]
    · refine ⟨fun _ => go _ ?_, fun z => absurd z q⟩
      by_cases z : dd < k
      · rw [if_pos z, if_pos (by omega)]
      · rw [if_neg z, if_neg (by omega)]
end
section
variable {d : Nat} {h : xH} {K : Option Value → xH → Prop} {fa tr p rH rW nr : Int32} {A : Nat → Nat → Int32} {hi : Nat} {E : Gd} {fr : Nat → Bool} {D : Nat → Vs} {v : Nat}
theorem wp_mdb {t : Nat} (H : MH h fa tr (Int32.ofNat hi) (Int32.ofNat (gw E)) (Int32.ofNat (gv E)) p rH rW nr A) (hgn : gn E = hi * gw E) (G : GA E fr A) (hE : okE E) (hG : okG E D) (R : RG E A D) (hv : v < gv E) (ho : vo (D v) = none) (hx : vx (D v) = none) (hw : wayOf E (allL D (gv E)) (gk E v) (vt (D v)) (vh (D v)) = none) (hK : ∀ h' A', MH h' fa tr (Int32.ofNat hi) (Int32.ofNat (gw E)) (Int32.ofNat (gv E)) p rH rW nr A' → OT v A A' → RV E A' v (stepV E (allL D (gv E)) t v (D v)) → FR MP 0 0 h h' → K none h') : wp (d + 1) 117 0 [some (.ref 25), some (.int (Int32.ofNat v)), some (.int (Int32.ofNat t)), none, none, none] [] h K := by
  have hv3 := hE.2.1
  have hV := hG v hv
  have ht := hV.tip
  have hn := hE.1.2.2.1
  have hp := (hE.2.2 v hv).2.1
  obtain ⟨r1, r2, r3, r4, r5, r6, r7⟩ := R v hv
  have t1 : (Int32.ofNat (vt (D v)) = Int32.ofNat (gp E v)) = (vt (D v) = gp E v) := propext (n_eq (by omega) (by omega))
  simp only [w117_0, w117_0n, w117_1, w117_4, w117_5, w117_6, w117_7, w117_8, w117_8n, w117_9, w117_12, w117_13, w117_14, w117_17, w117_17n, w117_18, w117_21, w117_22, w117_23, w117_24, w117_26, w117_29, w117_31, w117_32, w117_33, w117_34, w117_35, w117_36, w117_38, w117_39, w117_43, w117_44, w117_47, w117_47n, w117_48, w117_51, w117_52, w117_52n, w117_53, w117_54, w117_56, w117_59, w117_61, w117_64, w117_66, w117_69, w117_69n, w117_70, w117_73, w117_74, w117_75, w117_76, w117_79, w117_82, w117_82n, w117_83, w117_86, w117_87, w117_89, w117_90, w117_90n, w117_91, w117_94, w117_95, w117_96, w117_97, w117_98, w117_99, w117_100, xk_n, xk_i, xk_r, xk_z, xk_l, xcs_0, xcs_i, xcs_r, xcs_z, xcs_l, Nat.reduceAdd, Nat.reduceLeDiff, Nat.reduceLT, true_and, and_true, Option.toList_some, Option.toList_none, List.nil_append, List.cons_append, List.getElem?_cons_zero, List.getElem?_cons_succ, List.set_cons_zero, List.set_cons_succ, List.length_cons, List.length_nil, y_bool0, y_bool1, not_true_eq_false, not_false_eq_true, false_implies, true_implies, true_or, or_true, false_or, or_false, if_true, if_false, ite_true, ite_false, y_get, H.o, H.ld9 (show v < 3 by omega), H.ld5 (show v < 3 by omega), r1, (G.2.1 v hv).2.1, t1]
  by_cases q : vt (D v) = gp E v
  · refine ⟨fun z => absurd q z, fun _ => ?_⟩
    have hst : stepV E (allL D (gv E)) t v (D v) = (vt (D v), vh (D v), vd (D v), vl (D v), vc (D v), none, some t) := by
      unfold stepV
      rw [hw]
      exact if_pos q
    rw [hst] at hK
    refine H.st14 (show v < 3 by omega) fun h1 H1 F1 => ?_
    refine hK h1 _ H1 (OT.st _ (by omega) (by omega)) ⟨r1, r2, r3, r4, ?_, ?_, r7⟩ F1
    · show A 13 v = oC none
      rw [r5, ho]
    · show upd (A 14) v (Int32.ofNat t) v = _
      rw [upd_at]; rfl
  · refine ⟨fun _ => ?_, fun z => absurd z q⟩
    obtain ⟨c, b1, b2⟩ := r7 (vt (D v)) hV.2.1 q
    have hcn := bes_lt hE.1 ht b1
    have hst : stepV E (allL D (gv E)) t v (D v) = (c, (vc (D v) / 4 ^ vt (D v) + 2) % 4, vd (D v) + 1, vl (D v), vc (D v), none, none) := by
      unfold stepV
      rw [hw]
      dsimp only
      rw [if_neg q, b1]
    rw [hst] at hK
    have z1 : (30 : Int32) * Int32.ofNat v = Int32.ofNat (30 * v) := n_lmul v 30
    have z2 : Int32.ofNat (30 * v) + Int32.ofNat (vt (D v)) = Int32.ofNat (30 * v + vt (D v)) := n_add _ _
    have z0 : (0 : Int32) = Int32.ofNat 0 := rfl
    simp only [w117_0, w117_0n, w117_1, w117_4, w117_5, w117_6, w117_7, w117_8, w117_8n, w117_9, w117_12, w117_13, w117_14, w117_17, w117_17n, w117_18, w117_21, w117_22, w117_23, w117_24, w117_25, w117_25n, w117_26, w117_29, w117_31, w117_32, w117_33, w117_34, w117_35, w117_36, w117_38, w117_39, w117_43, w117_44, w117_47, w117_47n, w117_48, w117_51, w117_52, w117_52n, w117_53, w117_54, w117_56, w117_59, w117_61, w117_64, w117_66, w117_69, w117_69n, w117_70, w117_73, w117_74, w117_75, w117_76, w117_79, w117_82, w117_82n, w117_83, w117_86, w117_87, w117_89, w117_90, w117_90n, w117_91, w117_94, w117_95, w117_96, w117_97, w117_98, w117_99, w117_100, xk_n, xk_i, xk_r, xk_z, xk_l, xcs_0, xcs_i, xcs_r, xcs_z, xcs_l, Nat.reduceAdd, Nat.reduceLeDiff, Nat.reduceLT, true_and, and_true, Option.toList_some, Option.toList_none, List.nil_append, List.cons_append, List.getElem?_cons_zero, List.getElem?_cons_succ, List.set_cons_zero, List.set_cons_succ, List.length_cons, List.length_nil, y_bool0, y_bool1, not_true_eq_false, not_false_eq_true, false_implies, true_implies, true_or, or_true, false_or, or_false, if_true, if_false, ite_true, ite_false, y_get, H.o, z1, z2, H.ld15 (show 30 * v + vt (D v) < 90 by omega), b2]
    rw [z0]
    refine wp_mhd (A0 := A) (x0 := A 10 v) hE.1 hgn (show v < 3 by omega) ht (show c < 30 by omega) (Nat.mod_lt _ (by omega)) b1 4 0 h A (by omega) H OT.rfl' (fun _ _ => rfl) (if_neg (by omega)).symm fun h1 A1 H1 O1 HA1 HX1 F1 l5 => ?_
    simp only [w117_0, w117_0n, w117_1, w117_4, w117_5, w117_6, w117_7, w117_8, w117_8n, w117_9, w117_12, w117_13, w117_14, w117_17, w117_17n, w117_18, w117_21, w117_22, w117_23, w117_24, w117_25, w117_25n, w117_26, w117_29, w117_31, w117_32, w117_33, w117_34, w117_35, w117_36, w117_38, w117_39, w117_43, w117_44, w117_47, w117_47n, w117_48, w117_51, w117_52, w117_52n, w117_53, w117_54, w117_56, w117_59, w117_61, w117_64, w117_66, w117_69, w117_69n, w117_70, w117_73, w117_74, w117_75, w117_76, w117_79, w117_82, w117_82n, w117_83, w117_86, w117_87, w117_89, w117_90, w117_90n, w117_91, w117_94, w117_95, w117_96, w117_97, w117_98, w117_99, w117_100, xk_n, xk_i, xk_r, xk_z, xk_l, xcs_0, xcs_i, xcs_r, xcs_z, xcs_l, Nat.reduceAdd, Nat.reduceLeDiff, Nat.reduceLT, true_and, and_true, Option.toList_some, Option.toList_none, List.nil_append, List.cons_append, List.getElem?_cons_zero, List.getElem?_cons_succ, List.set_cons_zero, List.set_cons_succ, List.length_cons, List.length_nil, y_bool0, y_bool1, not_true_eq_false, not_false_eq_true, false_implies, true_implies, true_or, or_true, false_or, or_false, if_true, if_false, ite_true, ite_false, y_get, H1.o]
    refine H1.st9 (show v < 3 by omega) fun h2 H2 F2 => ?_
    have e12 : upA A1 9 (upd (A1 9) v (Int32.ofNat c)) 12 v = Int32.ofNat (vd (D v)) := by
      show A1 12 v = _
      rw [HA1 12 (by omega)]; exact r4
    have z9 : Int32.ofNat (vd (D v)) + 1 = Int32.ofNat (vd (D v) + 1) := n_addl _ 1
    simp only [w117_0, w117_0n, w117_1, w117_4, w117_5, w117_6, w117_7, w117_8, w117_8n, w117_9, w117_12, w117_13, w117_14, w117_17, w117_17n, w117_18, w117_21, w117_22, w117_23, w117_24, w117_25, w117_25n, w117_26, w117_29, w117_31, w117_32, w117_33, w117_34, w117_35, w117_36, w117_38, w117_39, w117_43, w117_44, w117_47, w117_47n, w117_48, w117_51, w117_52, w117_52n, w117_53, w117_54, w117_56, w117_59, w117_61, w117_64, w117_66, w117_69, w117_69n, w117_70, w117_73, w117_74, w117_75, w117_76, w117_79, w117_82, w117_82n, w117_83, w117_86, w117_87, w117_89, w117_90, w117_90n, w117_91, w117_94, w117_95, w117_96, w117_97, w117_98, w117_99, w117_100, xk_n, xk_i, xk_r, xk_z, xk_l, xcs_0, xcs_i, xcs_r, xcs_z, xcs_l, Nat.reduceAdd, Nat.reduceLeDiff, Nat.reduceLT, true_and, and_true, Option.toList_some, Option.toList_none, List.nil_append, List.cons_append, List.getElem?_cons_zero, List.getElem?_cons_succ, List.set_cons_zero, List.set_cons_succ, List.length_cons, List.length_nil, y_bool0, y_bool1, not_true_eq_false, not_false_eq_true, false_implies, true_implies, true_or, or_true, false_or, or_false, if_true, if_false, ite_true, ite_false, y_get, H2.o, H2.ld12 (show v < 3 by omega), e12, z9]
    refine H2.st12 (show v < 3 by omega) fun h3 H3 F3 => ?_
    refine hK h3 _ H3 ((O1.tr (OT.st _ (by omega) (by omega))).tr (OT.st _ (by omega) (by omega))) ⟨?_, ?_, ?_, ?_, ?_, ?_, ?_⟩ ((F1.tr F2).tr F3)
    · show upd (A1 9) v (Int32.ofNat c) v = _
      rw [upd_at]
    · show A1 10 v = _
      exact HX1
    · show A1 11 v = _
      rw [HA1 11 (by omega)]; exact r3
    · show upd _ v (Int32.ofNat (vd (D v) + 1)) v = _
      rw [upd_at]
    · show A1 13 v = oC none
      rw [HA1 13 (by omega), r5, ho]
    · show A1 14 v = oC none
      rw [HA1 14 (by omega), r6, hx]
    · intro c1 hc1 hcp
      obtain ⟨c', k1, k2⟩ := r7 c1 hc1 hcp
      refine ⟨c', k1, ?_⟩
      show A1 15 (30 * v + c1) = _
      rw [HA1 15 (by omega)]; exact k2
theorem wp_mgrow {t : Nat} (H : MH h fa tr (Int32.ofNat hi) (Int32.ofNat (gw E)) (Int32.ofNat (gv E)) p rH rW nr A) (hgn : gn E = hi * gw E) (G : GA E fr A) (hE : okE E) (hs4 : ∀ c, c < gn E → gs E c < 4) (hG : okG E D) (R : RG E A D) (hv : v < gv E) (ho : vo (D v) = none) (hx : vx (D v) = none) (hK : ∀ h' A', MH h' fa tr (Int32.ofNat hi) (Int32.ofNat (gw E)) (Int32.ofNat (gv E)) p rH rW nr A' → OT v A A' → RV E A' v (stepV E (allL D (gv E)) t v (D v)) → FR MP 0 0 h h' → K none h') : wp (d + 3) 118 0 [some (.ref 25), some (.int (Int32.ofNat v)), some (.int (Int32.ofNat t)), none, none] [] h K := by
  have hv3 := hE.2.1
  have hV := hG v hv
  have ht := hV.tip
  have hn := hE.1.2.2.1
  have hl := hV.leaf hn
  simp only [w118_0, w118_0n, w118_1, w118_2, w118_5, w118_6, w118_7, w118_9, w118_12, w118_12n, w118_13, w118_14, w118_15, w118_18, w118_20, w118_20n, w118_21, w118_24, w118_25, w118_26, w118_27, w118_30, w118_32, w118_32n, w118_33, w118_36, w118_38, w118_39, w118_40, w118_42, w118_43, w118_43n, w118_44, w118_47, w118_48, w118_49, w118_50, w118_50n, w118_51, w118_54, w118_55, w118_56, w118_57, w118_58, w118_60, w118_61, w118_62, w118_63, w118_63n, w118_64, w118_67, w118_68, w118_69, w118_70, w118_70n, w118_71, w118_74, w118_75, w118_77, w118_78, w118_78n, w118_79, w118_82, w118_84, w118_85, w118_86, w118_89, w118_89n, w118_90, w118_93, w118_94, w118_95, w118_96, xk_n, xk_i, xk_r, xk_z, xk_l, xcs_0, xcs_i, xcs_r, xcs_z, xcs_l, Nat.reduceAdd, Nat.reduceLeDiff, Nat.reduceLT, true_and, and_true, Option.toList_some, Option.toList_none, List.nil_append, List.cons_append, List.getElem?_cons_zero, List.getElem?_cons_succ, List.set_cons_zero, List.set_cons_succ, List.length_cons, List.length_nil, y_bool0, y_bool1, not_true_eq_false, not_false_eq_true, false_implies, true_implies, true_or, or_true, false_or, or_false, if_true, if_false, ite_true, ite_false, H.cls, wp_mgo H hgn G hE hs4 hG R hv]
  cases hway : wayOf E (allL D (gv E)) (gk E v) (vt (D v)) (vh (D v)) with
  | none =>
    have z0 : oC none = -9 := rfl
    simp only [z0, xk_n, xk_i, xk_r, xk_z, xk_l, xcs_0, xcs_i, xcs_r, xcs_z, xcs_l, Nat.reduceAdd, Nat.reduceLeDiff, Nat.reduceLT, true_and, and_true, Option.toList_some, Option.toList_none, List.nil_append, List.cons_append, List.getElem?_cons_zero, List.getElem?_cons_succ, List.set_cons_zero, List.set_cons_succ, List.length_cons, List.length_nil, y_bool0, y_bool1, not_true_eq_false, not_false_eq_true, false_implies, true_implies, true_or, or_true, false_or, or_false, if_true, if_false, ite_true, ite_false, H.cls]
    refine wp_mdb (t := t) H hgn G hE hG R hv ho hx hway fun h' A' a1 a2 a3 a4 => ?_
    simp only [w118_0, w118_0n, w118_1, w118_2, w118_5, w118_6, w118_7, w118_9, w118_12, w118_12n, w118_13, w118_14, w118_15, w118_18, w118_19, w118_19n, w118_20, w118_20n, w118_21, w118_24, w118_25, w118_26, w118_27, w118_30, w118_32, w118_32n, w118_33, w118_36, w118_38, w118_39, w118_40, w118_42, w118_43, w118_43n, w118_44, w118_47, w118_48, w118_49, w118_50, w118_50n, w118_51, w118_54, w118_55, w118_56, w118_57, w118_58, w118_60, w118_61, w118_62, w118_63, w118_63n, w118_64, w118_67, w118_68, w118_69, w118_70, w118_70n, w118_71, w118_74, w118_75, w118_77, w118_78, w118_78n, w118_79, w118_82, w118_84, w118_85, w118_86, w118_89, w118_89n, w118_90, w118_93, w118_94, w118_95, w118_96, xk_n, xk_i, xk_r, xk_z, xk_l, xcs_0, xcs_i, xcs_r, xcs_z, xcs_l, Nat.reduceAdd, Nat.reduceLeDiff, Nat.reduceLT, true_and, and_true, Option.toList_some, Option.toList_none, List.nil_append, List.cons_append, List.getElem?_cons_zero, List.getElem?_cons_succ, List.set_cons_zero, List.set_cons_succ, List.length_cons, List.length_nil, y_bool0, y_bool1, not_true_eq_false, not_false_eq_true, false_implies, true_implies, true_or, or_true, false_or, or_false, if_true, if_false, ite_true, ite_false]
    exact hK h' A' a1 a2 a3 a4
  | some dd =>
    obtain ⟨d4, hf⟩ := wayOf_some hV.2.2.2.2.2.1 hway
    obtain ⟨c, c1, c2, c3⟩ := isFr_some hf
    have hcn := bes_lt hE.1 ht c1
    obtain ⟨r1, r2, r3, r4, r5, r6, r7⟩ := R v hv
    have hcl : (vl (D v)).testBit c = false := by
      cases q : (vl (D v)).testBit c
      · rfl
      · rw [allL_bit.mpr ⟨v, hv, q⟩] at c3; cases c3
    have z0 : oC (some dd) = Int32.ofNat dd := rfl
    have z9 : (Int32.ofNat dd = -9) = False := eq_false (n_ne9 (by omega))
    have o1 : oC (some c) = Int32.ofNat c := rfl
    have z1 : (30 : Int32) * Int32.ofNat v = Int32.ofNat (30 * v) := n_lmul v 30
    have z2 : Int32.ofNat (30 * v) + Int32.ofNat c = Int32.ofNat (30 * v + c) := n_add _ _
    have hst : stepV E (allL D (gv E)) t v (D v) = (c, dd, vd (D v), vl (D v) ||| 2 ^ c, vc (D v) ||| dd * 4 ^ c, if gs E c = 3 then some t else none, none) := by
      unfold stepV
      rw [hway]
      dsimp only
      rw [c1]
    rw [hst] at hK
    simp only [z0, z9, xk_n, xk_i, xk_r, xk_z, xk_l, xcs_0, xcs_i, xcs_r, xcs_z, xcs_l, Nat.reduceAdd, Nat.reduceLeDiff, Nat.reduceLT, true_and, and_true, Option.toList_some, Option.toList_none, List.nil_append, List.cons_append, List.getElem?_cons_zero, List.getElem?_cons_succ, List.set_cons_zero, List.set_cons_succ, List.length_cons, List.length_nil, y_bool0, y_bool1, not_true_eq_false, not_false_eq_true, false_implies, true_implies, true_or, or_true, false_or, or_false, if_true, if_false, ite_true, ite_false, w118_0, w118_0n, w118_1, w118_2, w118_5, w118_6, w118_7, w118_9, w118_12, w118_12n, w118_13, w118_14, w118_15, w118_18, w118_19, w118_19n, w118_20, w118_20n, w118_21, w118_24, w118_25, w118_26, w118_27, w118_30, w118_32, w118_32n, w118_33, w118_36, w118_38, w118_39, w118_40, w118_42, w118_43, w118_43n, w118_44, w118_47, w118_48, w118_49, w118_50, w118_50n, w118_51, w118_54, w118_55, w118_56, w118_57, w118_58, w118_60, w118_61, w118_62, w118_63, w118_63n, w118_64, w118_67, w118_68, w118_69, w118_70, w118_70n, w118_71, w118_74, w118_75, w118_77, w118_78, w118_78n, w118_79, w118_82, w118_84, w118_85, w118_86, w118_89, w118_89n, w118_90, w118_93, w118_94, w118_95, w118_96, y_get, H.o, H.cls, H.ld9 (show v < 3 by omega), r1, wp_mbes H hE.1 hgn ht d4, c1, o1, z1, z2]
    refine H.st15 (show 30 * v + c < 90 by omega) fun h1 H1 F1 => ?_
    have pc : 2 ^ c < 2 ^ 30 := Nat.pow_lt_pow_right (by omega) (by omega)
    have z3 : (1 : Int32) <<< (Int32.ofNat c &&& 31) = Int32.ofNat (2 ^ c) := by
      have := i_shl (L := 1) (c := c) (by omega) (by omega)
      rw [Nat.one_mul] at this
      exact this
    have z4 : Int32.ofNat (vl (D v)) ||| Int32.ofNat (2 ^ c) = Int32.ofNat (vl (D v) ||| 2 ^ c) := i_or (by omega) (by omega)
    have e11 : upA A 15 (upd (A 15) (30 * v + c) (Int32.ofNat (vt (D v)))) 11 v = Int32.ofNat (vl (D v)) := r3
    simp only [w118_0, w118_0n, w118_1, w118_2, w118_5, w118_6, w118_7, w118_9, w118_12, w118_12n, w118_13, w118_14, w118_15, w118_18, w118_19, w118_19n, w118_20, w118_20n, w118_21, w118_24, w118_25, w118_26, w118_27, w118_30, w118_32, w118_32n, w118_33, w118_36, w118_38, w118_39, w118_40, w118_42, w118_43, w118_43n, w118_44, w118_47, w118_48, w118_49, w118_50, w118_50n, w118_51, w118_54, w118_55, w118_56, w118_57, w118_58, w118_60, w118_61, w118_62, w118_63, w118_63n, w118_64, w118_67, w118_68, w118_69, w118_70, w118_70n, w118_71, w118_74, w118_75, w118_77, w118_78, w118_78n, w118_79, w118_82, w118_84, w118_85, w118_86, w118_89, w118_89n, w118_90, w118_93, w118_94, w118_95, w118_96, xk_n, xk_i, xk_r, xk_z, xk_l, xcs_0, xcs_i, xcs_r, xcs_z, xcs_l, Nat.reduceAdd, Nat.reduceLeDiff, Nat.reduceLT, true_and, and_true, Option.toList_some, Option.toList_none, List.nil_append, List.cons_append, List.getElem?_cons_zero, List.getElem?_cons_succ, List.set_cons_zero, List.set_cons_succ, List.length_cons, List.length_nil, y_bool0, y_bool1, not_true_eq_false, not_false_eq_true, false_implies, true_implies, true_or, or_true, false_or, or_false, if_true, if_false, ite_true, ite_false, y_get, H1.o, H1.ld11 (show v < 3 by omega), e11, z3, z4]
    refine H1.st11 (show v < 3 by omega) fun h2 H2 F2 => ?_
    simp only [w118_0, w118_0n, w118_1, w118_2, w118_5, w118_6, w118_7, w118_9, w118_12, w118_12n, w118_13, w118_14, w118_15, w118_18, w118_19, w118_19n, w118_20, w118_20n, w118_21, w118_24, w118_25, w118_26, w118_27, w118_30, w118_32, w118_32n, w118_33, w118_36, w118_38, w118_39, w118_40, w118_42, w118_43, w118_43n, w118_44, w118_47, w118_48, w118_49, w118_50, w118_50n, w118_51, w118_54, w118_55, w118_56, w118_57, w118_58, w118_60, w118_61, w118_62, w118_63, w118_63n, w118_64, w118_67, w118_68, w118_69, w118_70, w118_70n, w118_71, w118_74, w118_75, w118_77, w118_78, w118_78n, w118_79, w118_82, w118_84, w118_85, w118_86, w118_89, w118_89n, w118_90, w118_93, w118_94, w118_95, w118_96, xk_n, xk_i, xk_r, xk_z, xk_l, xcs_0, xcs_i, xcs_r, xcs_z, xcs_l, Nat.reduceAdd, Nat.reduceLeDiff, Nat.reduceLT, true_and, and_true, Option.toList_some, Option.toList_none, List.nil_append, List.cons_append, List.getElem?_cons_zero, List.getElem?_cons_succ, List.set_cons_zero, List.set_cons_succ, List.length_cons, List.length_nil, y_bool0, y_bool1, not_true_eq_false, not_false_eq_true, false_implies, true_implies, true_or, or_true, false_or, or_false, if_true, if_false, ite_true, ite_false, y_get, H2.o]
    refine H2.st10 (show v < 3 by omega) fun h3 H3 F3 => ?_
    simp only [w118_0, w118_0n, w118_1, w118_2, w118_5, w118_6, w118_7, w118_9, w118_12, w118_12n, w118_13, w118_14, w118_15, w118_18, w118_19, w118_19n, w118_20, w118_20n, w118_21, w118_24, w118_25, w118_26, w118_27, w118_30, w118_32, w118_32n, w118_33, w118_36, w118_38, w118_39, w118_40, w118_42, w118_43, w118_43n, w118_44, w118_47, w118_48, w118_49, w118_50, w118_50n, w118_51, w118_54, w118_55, w118_56, w118_57, w118_58, w118_60, w118_61, w118_62, w118_63, w118_63n, w118_64, w118_67, w118_68, w118_69, w118_70, w118_70n, w118_71, w118_74, w118_75, w118_77, w118_78, w118_78n, w118_79, w118_82, w118_84, w118_85, w118_86, w118_89, w118_89n, w118_90, w118_93, w118_94, w118_95, w118_96, xk_n, xk_i, xk_r, xk_z, xk_l, xcs_0, xcs_i, xcs_r, xcs_z, xcs_l, Nat.reduceAdd, Nat.reduceLeDiff, Nat.reduceLT, true_and, and_true, Option.toList_some, Option.toList_none, List.nil_append, List.cons_append, List.getElem?_cons_zero, List.getElem?_cons_succ, List.set_cons_zero, List.set_cons_succ, List.length_cons, List.length_nil, y_bool0, y_bool1, not_true_eq_false, not_false_eq_true, false_implies, true_implies, true_or, or_true, false_or, or_false, if_true, if_false, ite_true, ite_false, y_get, H3.o]
    refine H3.st9 (show v < 3 by omega) fun h4 H4 F4 => ?_
    have hs := hs4 c hcn
    have t3 : (Int32.ofNat (gs E c) = 3) = (gs E c = 3) := propext (n_eql (m := 3) (by omega) (by omega))
    have e3 : ∀ X, X = upA A 15 (upd (A 15) (30 * v + c) (Int32.ofNat (vt (D v)))) → X 3 = A 3 := fun X hX => by rw [hX]; rfl
    generalize hA1 : upA A 15 (upd (A 15) (30 * v + c) (Int32.ofNat (vt (D v)))) = A1 at H1 H2 H3 H4
    generalize hA2 : upA A1 11 (upd (A1 11) v (Int32.ofNat (vl (D v) ||| 2 ^ c))) = A2 at H2 H3 H4
    generalize hA3 : upA A2 10 (upd (A2 10) v (Int32.ofNat dd)) = A3 at H3 H4
    generalize hA4 : upA A3 9 (upd (A3 9) v (Int32.ofNat c)) = A4 at H4
    have g3 : A4 3 c = Int32.ofNat (gs E c) := by
      subst hA4 hA3 hA2 hA1
      exact G.1 c hcn
    have O4 : OT v A A4 := by
      subst hA4 hA3 hA2 hA1
      exact (((OT.s15 _ (by omega)).tr (OT.st _ (by omega) (by omega))).tr (OT.st _ (by omega) (by omega))).tr (OT.st _ (by omega) (by omega))
    have k9 : A4 9 v = Int32.ofNat c := by
      subst hA4
      show upd _ v (Int32.ofNat c) v = _
      rw [upd_at]
    have k10 : A4 10 v = Int32.ofNat dd := by
      subst hA4 hA3
      show upd _ v (Int32.ofNat dd) v = _
      rw [upd_at]
    have k11 : A4 11 v = Int32.ofNat (vl (D v) ||| 2 ^ c) := by
      subst hA4 hA3 hA2
      show upd _ v (Int32.ofNat (vl (D v) ||| 2 ^ c)) v = _
      rw [upd_at]
    have k12 : A4 12 v = Int32.ofNat (vd (D v)) := by subst hA4 hA3 hA2 hA1; exact r4
    have k13 : A4 13 v = oC none := by subst hA4 hA3 hA2 hA1; show A 13 v = _; rw [r5, ho]
    have k14 : A4 14 v = oC none := by subst hA4 hA3 hA2 hA1; show A 14 v = _; rw [r6, hx]
    have k15 : ∀ c1, (vl (D v) ||| 2 ^ c).testBit c1 = true → c1 ≠ gp E v → ∃ c', bes (gw E) (gn E) c1 (((vc (D v) ||| dd * 4 ^ c) / 4 ^ c1 + 2) % 4) = some c' ∧ A4 15 (30 * v + c1) = Int32.ofNat c' := by
      intro c1' hc1 hcp
      have e15 : A4 15 = upd (A 15) (30 * v + c) (Int32.ofNat (vt (D v))) := by subst hA4 hA3 hA2 hA1; rfl
      have hm : ∀ z, (z + 2) % 4 = (z % 4 + 2) % 4 := fun z => by omega
      rw [e15, hm, dig_or]
      by_cases q : c1' = c
      · subst q
        rw [upd_at, dig_at _ d4, hV.2.2.2.1 _ hcl, Nat.zero_or]
        exact ⟨_, bes_back hE.1 ht d4 c1, rfl⟩
      · rw [upd_ne _ _ (by omega), dig_ne d4 q, Nat.or_zero, ← hm]
        rw [Nat.testBit_or, Nat.testBit_two_pow, decide_eq_false (fun z => q z.symm), Bool.or_false] at hc1
        exact r7 c1' hc1 hcp
    simp only [w118_0, w118_0n, w118_1, w118_2, w118_5, w118_6, w118_7, w118_9, w118_12, w118_12n, w118_13, w118_14, w118_15, w118_18, w118_19, w118_19n, w118_20, w118_20n, w118_21, w118_24, w118_25, w118_26, w118_27, w118_30, w118_32, w118_32n, w118_33, w118_36, w118_38, w118_39, w118_40, w118_42, w118_43, w118_43n, w118_44, w118_47, w118_48, w118_49, w118_50, w118_50n, w118_51, w118_54, w118_55, w118_56, w118_57, w118_58, w118_60, w118_61, w118_62, w118_63, w118_63n, w118_64, w118_67, w118_68, w118_69, w118_70, w118_70n, w118_71, w118_74, w118_75, w118_77, w118_78, w118_78n, w118_79, w118_82, w118_84, w118_85, w118_86, w118_89, w118_89n, w118_90, w118_93, w118_94, w118_95, w118_96, xk_n, xk_i, xk_r, xk_z, xk_l, xcs_0, xcs_i, xcs_r, xcs_z, xcs_l, Nat.reduceAdd, Nat.reduceLeDiff, Nat.reduceLT, true_and, and_true, Option.toList_some, Option.toList_none, List.nil_append, List.cons_append, List.getElem?_cons_zero, List.getElem?_cons_succ, List.set_cons_zero, List.set_cons_succ, List.length_cons, List.length_nil, y_bool0, y_bool1, not_true_eq_false, not_false_eq_true, false_implies, true_implies, true_or, or_true, false_or, or_false, if_true, if_false, ite_true, ite_false, y_get, H4.o, H4.ld3 (show c < 30 by omega), g3, t3]
    by_cases q3 : gs E c = 3
    · rw [if_pos q3] at hK
      refine ⟨fun z => absurd q3 z, fun _ => ?_⟩
      refine H4.st13 (show v < 3 by omega) fun h5 H5 F5 => ?_
      refine hK h5 _ H5 (O4.tr (OT.st _ (by omega) (by omega))) ⟨k9, k10, k11, k12, ?_, k14, k15⟩ ((((F1.tr F2).tr F3).tr F4).tr F5)
      show upd _ v (Int32.ofNat t) v = _
      rw [upd_at]; rfl
    · rw [if_neg q3] at hK
      refine ⟨fun _ => ?_, fun z => absurd z q3⟩
      exact hK h4 _ H4 O4 ⟨k9, k10, k11, k12, k13, k14, k15⟩ (((F1.tr F2).tr F3).tr F4)
end
