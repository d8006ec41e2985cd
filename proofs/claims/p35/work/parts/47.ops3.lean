/-! ===== the program's calls: tip, leaves, doubts, ends, shortest ===== -/
/-- where a vine is at the end of a day -/
def atD (s : St) (v day : Nat) : Vs := runM (sE s) (mild (sFr s) (day + 1)) v
def opTip (s : St) (v day : Int32) : Int32 := match nb v (gv (sE s)), nb day 80 with
  | some v, some day => Int32.ofNat (vt (atD s v day))
  | _, _ => -1
def opLeaves (s : St) (v day : Int32) : Int64 := match nb v (gv (sE s)), nb day 80 with
  | some v, some day => Int64.ofNat (vl (atD s v day))
  | _, _ => -9223372036854775808
def opDoubts (s : St) (v day : Int32) : Int32 := match nb v (gv (sE s)), nb day 80 with
  | some v, some day => Int32.ofNat (vd (atD s v day))
  | _, _ => -1
def opEnds (s : St) (v w : Int32) : Int32 := match nb v (gv (sE s)), nb w 2 with
  | none, _ => -1
  | some _, none => -2
  | some v, some w => oC (dayM (sFr s) (if w = 0 then vo (atD s v 79) else vx (atD s v 79)))
def opShort (s : St) (v : Int32) : Int32 := match nb v (gv (sE s)) with
  | none => -1
  | some v => oC (stO (sE s) (gp (sE s) v) (gn (sE s) - 1) 1)
section
variable {d : Nat} {h : xH} {K : Option Value → xH → Prop} {s : St}
theorem RC.G {h h' : xH} {s : St} {e em er : Nat} {vs rs : Nat → Nat} (H : RC h s e em er vs rs) {k m : Nat} (B : BX h' 3 e (sE s) (sFr s) vs) (F : FR (GP 3 (gv (sE s)) vs) k m h h') : RC h' s e em er vs rs ∧ FR CP k m h h' := H.B (E' := sE s) (fr' := sFr s) rfl B F (fun x hx => hx.imp (fun z => by omega) id)
theorem cop_tip (H : RX h s) (v day : Int32) (hK : ∀ h', RX h' s → FR CP 0 0 h h' → K (some (.int (opTip s v day))) h') : wp (d + 5) 49 0 [some (.ref 2), some (.int v), some (.int day), none] [] h K := by
  obtain ⟨hO, e, em, er, vs, rs, H⟩ := H
  have H0 := H
  obtain ⟨X, L, B⟩ := H.2.1
  have hv3 := hO.v3
  have z10 : ((1 : Int32) = 0) = False := eq_false (by decide)
  rcases nb_cas v (m := gv (sE s)) (by omega) with ⟨a, ha, rfl, hnb⟩ | ⟨hc, hnb⟩
  · rcases nb_cas day (m := 80) (by omega) with ⟨b, hb, rfl, hnb2⟩ | ⟨hc2, hnb2⟩
    · have e1 : opTip s (Int32.ofNat a) (Int32.ofNat b) = Int32.ofNat (vt (atD s a b)) := by unfold opTip; rw [hnb, hnb2]
      rw [e1] at hK
      simp only [w49_0, w49_0n, w49_1, w49_4, w49_5, w49_8, w49_8n, w49_9, w49_9n, w49_10, w49_10n, w49_13, w49_14, w49_16, w49_19, w49_22, w49_23, w49_24, w49_24n, w49_25, w49_28, w49_29, w49_32, w49_32n, w49_33, w49_36, xk_n, xk_i, xk_r, xk_z, xk_l, xcs_0, xcs_i, xcs_r, xcs_z, xcs_l, Nat.reduceAdd, Nat.reduceLeDiff, Nat.reduceLT, true_and, and_true, Option.toList_some, Option.toList_none, List.nil_append, List.cons_append, List.getElem?_cons_zero, List.getElem?_cons_succ, List.set_cons_zero, List.set_cons_succ, List.length_cons, List.length_nil, y_bool0, y_bool1, not_true_eq_false, not_false_eq_true, false_implies, true_implies, true_or, or_true, false_or, or_false, if_true, if_false, ite_true, ite_false, y_get, H.1, B.bed, B.cls, wp_vineAt B hv3 ha, wp_below_t (m := 80) (by omega) hb, z10]
      refine wp_growTo (hO.ok ha) ⟨X, L, B⟩ hb fun h' H' F' => ?_
      have R := H0.G H'.x F'
      simp only [w49_0, w49_0n, w49_1, w49_4, w49_5, w49_8, w49_8n, w49_9, w49_9n, w49_10, w49_10n, w49_13, w49_14, w49_16, w49_19, w49_22, w49_23, w49_24, w49_24n, w49_25, w49_28, w49_29, w49_32, w49_32n, w49_33, w49_36, xk_n, xk_i, xk_r, xk_z, xk_l, xcs_0, xcs_i, xcs_r, xcs_z, xcs_l, Nat.reduceAdd, Nat.reduceLeDiff, Nat.reduceLT, true_and, and_true, Option.toList_some, Option.toList_none, List.nil_append, List.cons_append, List.getElem?_cons_zero, List.getElem?_cons_succ, List.set_cons_zero, List.set_cons_succ, List.length_cons, List.length_nil, y_bool0, y_bool1, not_true_eq_false, not_false_eq_true, false_implies, true_implies, true_or, or_true, false_or, or_false, if_true, if_false, ite_true, ite_false, y_get, H'.at ha, vsX]
      exact hK h' ⟨hO, e, em, er, vs, rs, R.1⟩ R.2
    · have e1 : opTip s (Int32.ofNat a) day = -1 := by unfold opTip; rw [hnb, hnb2]
      rw [e1] at hK
      simp only [w49_0, w49_0n, w49_1, w49_4, w49_5, w49_8, w49_8n, w49_9, w49_9n, w49_10, w49_10n, w49_13, w49_14, w49_16, w49_19, w49_22, w49_23, w49_24, w49_24n, w49_25, w49_28, w49_29, w49_32, w49_32n, w49_33, w49_36, xk_n, xk_i, xk_r, xk_z, xk_l, xcs_0, xcs_i, xcs_r, xcs_z, xcs_l, Nat.reduceAdd, Nat.reduceLeDiff, Nat.reduceLT, true_and, and_true, Option.toList_some, Option.toList_none, List.nil_append, List.cons_append, List.getElem?_cons_zero, List.getElem?_cons_succ, List.set_cons_zero, List.set_cons_succ, List.length_cons, List.length_nil, y_bool0, y_bool1, not_true_eq_false, not_false_eq_true, false_implies, true_implies, true_or, or_true, false_or, or_false, if_true, if_false, ite_true, ite_false, y_get, H.1, B.bed, B.cls, wp_vineAt B hv3 ha, wp_below_f (m := 80) hc2]
      exact hK h ⟨hO, e, em, er, vs, rs, H0⟩ FR.rfl'
  · have e1 : opTip s v day = -1 := by unfold opTip; rw [hnb]
    rw [e1] at hK
    simp only [w49_0, w49_0n, w49_1, w49_4, w49_5, w49_8, w49_8n, w49_9, w49_9n, w49_10, w49_10n, w49_13, w49_14, w49_16, w49_19, w49_22, w49_23, w49_24, w49_24n, w49_25, w49_28, w49_29, w49_32, w49_32n, w49_33, w49_36, xk_n, xk_i, xk_r, xk_z, xk_l, xcs_0, xcs_i, xcs_r, xcs_z, xcs_l, Nat.reduceAdd, Nat.reduceLeDiff, Nat.reduceLT, true_and, and_true, Option.toList_some, Option.toList_none, List.nil_append, List.cons_append, List.getElem?_cons_zero, List.getElem?_cons_succ, List.set_cons_zero, List.set_cons_succ, List.length_cons, List.length_nil, y_bool0, y_bool1, not_true_eq_false, not_false_eq_true, false_implies, true_implies, true_or, or_true, false_or, or_false, if_true, if_false, ite_true, ite_false, y_get, H.1, B.bed, B.cls, wp_vineNo B hc]
    exact hK h ⟨hO, e, em, er, vs, rs, H0⟩ FR.rfl'
theorem cop_leaves (H : RX h s) (v day : Int32) (hK : ∀ h', RX h' s → FR CP 0 0 h h' → K (some (.long (opLeaves s v day))) h') : wp (d + 5) 50 0 [some (.ref 2), some (.int v), some (.int day), none] [] h K := by
  obtain ⟨hO, e, em, er, vs, rs, H⟩ := H
  have H0 := H
  obtain ⟨X, L, B⟩ := H.2.1
  have hv3 := hO.v3
  have z10 : ((1 : Int32) = 0) = False := eq_false (by decide)
  rcases nb_cas v (m := gv (sE s)) (by omega) with ⟨a, ha, rfl, hnb⟩ | ⟨hc, hnb⟩
  · rcases nb_cas day (m := 80) (by omega) with ⟨b, hb, rfl, hnb2⟩ | ⟨hc2, hnb2⟩
    · have e1 : opLeaves s (Int32.ofNat a) (Int32.ofNat b) = Int64.ofNat (vl (atD s a b)) := by unfold opLeaves; rw [hnb, hnb2]
      rw [e1] at hK
      simp only [w50_0, w50_0n, w50_1, w50_4, w50_5, w50_8, w50_8n, w50_9, w50_9n, w50_10, w50_10n, w50_13, w50_14, w50_16, w50_19, w50_22, w50_25, w50_26, w50_26n, w50_27, w50_30, w50_31, w50_34, w50_34n, w50_35, w50_38, xk_n, xk_i, xk_r, xk_z, xk_l, xcs_0, xcs_i, xcs_r, xcs_z, xcs_l, Nat.reduceAdd, Nat.reduceLeDiff, Nat.reduceLT, true_and, and_true, Option.toList_some, Option.toList_none, List.nil_append, List.cons_append, List.getElem?_cons_zero, List.getElem?_cons_succ, List.set_cons_zero, List.set_cons_succ, List.length_cons, List.length_nil, y_bool0, y_bool1, not_true_eq_false, not_false_eq_true, false_implies, true_implies, true_or, or_true, false_or, or_false, if_true, if_false, ite_true, ite_false, y_get, H.1, B.bed, B.cls, wp_vineAt B hv3 ha, wp_below_t (m := 80) (by omega) hb, z10]
      refine wp_growTo (hO.ok ha) ⟨X, L, B⟩ hb fun h' H' F' => ?_
      have R := H0.G H'.x F'
      simp only [w50_0, w50_0n, w50_1, w50_4, w50_5, w50_8, w50_8n, w50_9, w50_9n, w50_10, w50_10n, w50_13, w50_14, w50_16, w50_19, w50_22, w50_25, w50_26, w50_26n, w50_27, w50_30, w50_31, w50_34, w50_34n, w50_35, w50_38, xk_n, xk_i, xk_r, xk_z, xk_l, xcs_0, xcs_i, xcs_r, xcs_z, xcs_l, Nat.reduceAdd, Nat.reduceLeDiff, Nat.reduceLT, true_and, and_true, Option.toList_some, Option.toList_none, List.nil_append, List.cons_append, List.getElem?_cons_zero, List.getElem?_cons_succ, List.set_cons_zero, List.set_cons_succ, List.length_cons, List.length_nil, y_bool0, y_bool1, not_true_eq_false, not_false_eq_true, false_implies, true_implies, true_or, or_true, false_or, or_false, if_true, if_false, ite_true, ite_false, y_get, H'.at ha, vsX]
      exact hK h' ⟨hO, e, em, er, vs, rs, R.1⟩ R.2
    · have e1 : opLeaves s (Int32.ofNat a) day = -9223372036854775808 := by unfold opLeaves; rw [hnb, hnb2]
      rw [e1] at hK
      simp only [w50_0, w50_0n, w50_1, w50_4, w50_5, w50_8, w50_8n, w50_9, w50_9n, w50_10, w50_10n, w50_13, w50_14, w50_16, w50_19, w50_22, w50_25, w50_26, w50_26n, w50_27, w50_30, w50_31, w50_34, w50_34n, w50_35, w50_38, xk_n, xk_i, xk_r, xk_z, xk_l, xcs_0, xcs_i, xcs_r, xcs_z, xcs_l, Nat.reduceAdd, Nat.reduceLeDiff, Nat.reduceLT, true_and, and_true, Option.toList_some, Option.toList_none, List.nil_append, List.cons_append, List.getElem?_cons_zero, List.getElem?_cons_succ, List.set_cons_zero, List.set_cons_succ, List.length_cons, List.length_nil, y_bool0, y_bool1, not_true_eq_false, not_false_eq_true, false_implies, true_implies, true_or, or_true, false_or, or_false, if_true, if_false, ite_true, ite_false, y_get, H.1, B.bed, B.cls, wp_vineAt B hv3 ha, wp_below_f (m := 80) hc2]
      exact hK h ⟨hO, e, em, er, vs, rs, H0⟩ FR.rfl'
  · have e1 : opLeaves s v day = -9223372036854775808 := by unfold opLeaves; rw [hnb]
    rw [e1] at hK
    simp only [w50_0, w50_0n, w50_1, w50_4, w50_5, w50_8, w50_8n, w50_9, w50_9n, w50_10, w50_10n, w50_13, w50_14, w50_16, w50_19, w50_22, w50_25, w50_26, w50_26n, w50_27, w50_30, w50_31, w50_34, w50_34n, w50_35, w50_38, xk_n, xk_i, xk_r, xk_z, xk_l, xcs_0, xcs_i, xcs_r, xcs_z, xcs_l, Nat.reduceAdd, Nat.reduceLeDiff, Nat.reduceLT, true_and, and_true, Option.toList_some, Option.toList_none, List.nil_append, List.cons_append, List.getElem?_cons_zero, List.getElem?_cons_succ, List.set_cons_zero, List.set_cons_succ, List.length_cons, List.length_nil, y_bool0, y_bool1, not_true_eq_false, not_false_eq_true, false_implies, true_implies, true_or, or_true, false_or, or_false, if_true, if_false, ite_true, ite_false, y_get, H.1, B.bed, B.cls, wp_vineNo B hc]
    exact hK h ⟨hO, e, em, er, vs, rs, H0⟩ FR.rfl'
theorem cop_doubts (H : RX h s) (v day : Int32) (hK : ∀ h', RX h' s → FR CP 0 0 h h' → K (some (.int (opDoubts s v day))) h') : wp (d + 5) 51 0 [some (.ref 2), some (.int v), some (.int day), none] [] h K := by
  obtain ⟨hO, e, em, er, vs, rs, H⟩ := H
  have H0 := H
  obtain ⟨X, L, B⟩ := H.2.1
  have hv3 := hO.v3
  have z10 : ((1 : Int32) = 0) = False := eq_false (by decide)
  rcases nb_cas v (m := gv (sE s)) (by omega) with ⟨a, ha, rfl, hnb⟩ | ⟨hc, hnb⟩
  · rcases nb_cas day (m := 80) (by omega) with ⟨b, hb, rfl, hnb2⟩ | ⟨hc2, hnb2⟩
    · have e1 : opDoubts s (Int32.ofNat a) (Int32.ofNat b) = Int32.ofNat (vd (atD s a b)) := by unfold opDoubts; rw [hnb, hnb2]
      rw [e1] at hK
      simp only [w51_0, w51_0n, w51_1, w51_4, w51_5, w51_8, w51_8n, w51_9, w51_9n, w51_10, w51_10n, w51_13, w51_14, w51_16, w51_19, w51_22, w51_23, w51_24, w51_24n, w51_25, w51_28, w51_29, w51_32, w51_32n, w51_33, w51_36, xk_n, xk_i, xk_r, xk_z, xk_l, xcs_0, xcs_i, xcs_r, xcs_z, xcs_l, Nat.reduceAdd, Nat.reduceLeDiff, Nat.reduceLT, true_and, and_true, Option.toList_some, Option.toList_none, List.nil_append, List.cons_append, List.getElem?_cons_zero, List.getElem?_cons_succ, List.set_cons_zero, List.set_cons_succ, List.length_cons, List.length_nil, y_bool0, y_bool1, not_true_eq_false, not_false_eq_true, false_implies, true_implies, true_or, or_true, false_or, or_false, if_true, if_false, ite_true, ite_false, y_get, H.1, B.bed, B.cls, wp_vineAt B hv3 ha, wp_below_t (m := 80) (by omega) hb, z10]
      refine wp_growTo (hO.ok ha) ⟨X, L, B⟩ hb fun h' H' F' => ?_
      have R := H0.G H'.x F'
      simp only [w51_0, w51_0n, w51_1, w51_4, w51_5, w51_8, w51_8n, w51_9, w51_9n, w51_10, w51_10n, w51_13, w51_14, w51_16, w51_19, w51_22, w51_23, w51_24, w51_24n, w51_25, w51_28, w51_29, w51_32, w51_32n, w51_33, w51_36, xk_n, xk_i, xk_r, xk_z, xk_l, xcs_0, xcs_i, xcs_r, xcs_z, xcs_l, Nat.reduceAdd, Nat.reduceLeDiff, Nat.reduceLT, true_and, and_true, Option.toList_some, Option.toList_none, List.nil_append, List.cons_append, List.getElem?_cons_zero, List.getElem?_cons_succ, List.set_cons_zero, List.set_cons_succ, List.length_cons, List.length_nil, y_bool0, y_bool1, not_true_eq_false, not_false_eq_true, false_implies, true_implies, true_or, or_true, false_or, or_false, if_true, if_false, ite_true, ite_false, y_get, H'.at ha, vsX]
      exact hK h' ⟨hO, e, em, er, vs, rs, R.1⟩ R.2
    · have e1 : opDoubts s (Int32.ofNat a) day = -1 := by unfold opDoubts; rw [hnb, hnb2]
      rw [e1] at hK
      simp only [w51_0, w51_0n, w51_1, w51_4, w51_5, w51_8, w51_8n, w51_9, w51_9n, w51_10, w51_10n, w51_13, w51_14, w51_16, w51_19, w51_22, w51_23, w51_24, w51_24n, w51_25, w51_28, w51_29, w51_32, w51_32n, w51_33, w51_36, xk_n, xk_i, xk_r, xk_z, xk_l, xcs_0, xcs_i, xcs_r, xcs_z, xcs_l, Nat.reduceAdd, Nat.reduceLeDiff, Nat.reduceLT, true_and, and_true, Option.toList_some, Option.toList_none, List.nil_append, List.cons_append, List.getElem?_cons_zero, List.getElem?_cons_succ, List.set_cons_zero, List.set_cons_succ, List.length_cons, List.length_nil, y_bool0, y_bool1, not_true_eq_false, not_false_eq_true, false_implies, true_implies, true_or, or_true, false_or, or_false, if_true, if_false, ite_true, ite_false, y_get, H.1, B.bed, B.cls, wp_vineAt B hv3 ha, wp_below_f (m := 80) hc2]
      exact hK h ⟨hO, e, em, er, vs, rs, H0⟩ FR.rfl'
  · have e1 : opDoubts s v day = -1 := by unfold opDoubts; rw [hnb]
    rw [e1] at hK
    simp only [w51_0, w51_0n, w51_1, w51_4, w51_5, w51_8, w51_8n, w51_9, w51_9n, w51_10, w51_10n, w51_13, w51_14, w51_16, w51_19, w51_22, w51_23, w51_24, w51_24n, w51_25, w51_28, w51_29, w51_32, w51_32n, w51_33, w51_36, xk_n, xk_i, xk_r, xk_z, xk_l, xcs_0, xcs_i, xcs_r, xcs_z, xcs_l, Nat.reduceAdd, Nat.reduceLeDiff, Nat.reduceLT, true_and, and_true, Option.toList_some, Option.toList_none, List.nil_append, List.cons_append, List.getElem?_cons_zero, List.getElem?_cons_succ, List.set_cons_zero, List.set_cons_succ, List.length_cons, List.length_nil, y_bool0, y_bool1, not_true_eq_false, not_false_eq_true, false_implies, true_implies, true_or, or_true, false_or, or_false, if_true, if_false, ite_true, ite_false, y_get, H.1, B.bed, B.cls, wp_vineNo B hc]
    exact hK h ⟨hO, e, em, er, vs, rs, H0⟩ FR.rfl'
theorem cop_shortest (H : RX h s) (v : Int32) (hK : K (some (.int (opShort s v))) h) : wp (d + 4) 53 0 [some (.ref 2), some (.int v), none] [] h K := by
  obtain ⟨hO, e, em, er, vs, rs, H⟩ := H
  obtain ⟨X, L, B⟩ := H.2.1
  have hv3 := hO.v3
  rcases nb_cas v (m := gv (sE s)) (by omega) with ⟨a, ha, rfl, hnb⟩ | ⟨hc, hnb⟩
  · have e1 : opShort s (Int32.ofNat a) = oC (stO (sE s) (gp (sE s) a) (gn (sE s) - 1) 1) := by unfold opShort; rw [hnb]
    rw [e1] at hK
    have hE := hO.ok ha
    simp only [w53_0, w53_0n, w53_1, w53_4, w53_5, w53_8, w53_8n, w53_9, w53_9n, w53_10, w53_10n, w53_13, w53_14, w53_17, w53_17n, w53_18, w53_21, w53_24, w53_24n, w53_25, w53_28, w53_31, xk_n, xk_i, xk_r, xk_z, xk_l, xcs_0, xcs_i, xcs_r, xcs_z, xcs_l, Nat.reduceAdd, Nat.reduceLeDiff, Nat.reduceLT, true_and, and_true, Option.toList_some, Option.toList_none, List.nil_append, List.cons_append, List.getElem?_cons_zero, List.getElem?_cons_succ, List.set_cons_zero, List.set_cons_succ, List.length_cons, List.length_nil, y_bool0, y_bool1, not_true_eq_false, not_false_eq_true, false_implies, true_implies, true_or, or_true, false_or, or_false, if_true, if_false, ite_true, ite_false, y_get, H.1, B.bed, B.cls, wp_vineAt B hv3 ha, B.at ha, B.pl.cls]
    refine wp_stepsOut B.pl hE.1 (hE.2.2 a ha).2.1 ?_
    simp only [w53_0, w53_0n, w53_1, w53_4, w53_5, w53_8, w53_8n, w53_9, w53_9n, w53_10, w53_10n, w53_13, w53_14, w53_17, w53_17n, w53_18, w53_21, w53_24, w53_24n, w53_25, w53_28, w53_31, xk_n, xk_i, xk_r, xk_z, xk_l, xcs_0, xcs_i, xcs_r, xcs_z, xcs_l, Nat.reduceAdd, Nat.reduceLeDiff, Nat.reduceLT, true_and, and_true, Option.toList_some, Option.toList_none, List.nil_append, List.cons_append, List.getElem?_cons_zero, List.getElem?_cons_succ, List.set_cons_zero, List.set_cons_succ, List.length_cons, List.length_nil, y_bool0, y_bool1, not_true_eq_false, not_false_eq_true, false_implies, true_implies, true_or, or_true, false_or, or_false, if_true, if_false, ite_true, ite_false]
    exact hK
  · have e1 : opShort s v = -1 := by unfold opShort; rw [hnb]
    rw [e1] at hK
    simp only [w53_0, w53_0n, w53_1, w53_4, w53_5, w53_8, w53_8n, w53_9, w53_9n, w53_10, w53_10n, w53_13, w53_14, w53_17, w53_17n, w53_18, w53_21, w53_24, w53_24n, w53_25, w53_28, w53_31, xk_n, xk_i, xk_r, xk_z, xk_l, xcs_0, xcs_i, xcs_r, xcs_z, xcs_l, Nat.reduceAdd, Nat.reduceLeDiff, Nat.reduceLT, true_and, and_true, Option.toList_some, Option.toList_none, List.nil_append, List.cons_append, List.getElem?_cons_zero, List.getElem?_cons_succ, List.set_cons_zero, List.set_cons_succ, List.length_cons, List.length_nil, y_bool0, y_bool1, not_true_eq_false, not_false_eq_true, false_implies, true_implies, true_or, or_true, false_or, or_false, if_true, if_false, ite_true, ite_false, y_get, H.1, B.bed, B.cls, wp_vineNo B hc]
    exact hK
end
theorem cop_ends {d : Nat} {h : xH} {K : Option Value → xH → Prop} {s : St} (H : RX h s) (v w : Int32) (hK : ∀ h', RX h' s → FR CP 0 0 h h' → K (some (.int (opEnds s v w))) h') : wp (d + 5) 52 0 [some (.ref 2), some (.int v), some (.int w), none] [] h K := by
  obtain ⟨hO, e, em, er, vs, rs, H⟩ := H
  have H0 := H
  obtain ⟨X, L, B⟩ := H.2.1
  have hv3 := hO.v3
  have z10 : ((1 : Int32) = 0) = False := eq_false (by decide)
  rcases nb_cas v (m := gv (sE s)) (by omega) with ⟨a, ha, rfl, hnb⟩ | ⟨hc, hnb⟩
  · rcases nb_cas w (m := 2) (by omega) with ⟨b, hb, rfl, hnb2⟩ | ⟨hc2, hnb2⟩
    · have hE := hO.ok ha
      have e1 : opEnds s (Int32.ofNat a) (Int32.ofNat b) = oC (dayM (sFr s) (if b = 0 then vo (atD s a 79) else vx (atD s a 79))) := by unfold opEnds; rw [hnb, hnb2]
      rw [e1] at hK
      have z79 : (79 : Int32) = Int32.ofNat 79 := rfl
      have t0 : (Int32.ofNat b = 0) = (b = 0) := propext (n_eql (m := 0) (by omega) (by omega))
      simp only [w52_0, w52_0n, w52_1, w52_4, w52_5, w52_8, w52_8n, w52_9, w52_9n, w52_10, w52_10n, w52_13, w52_14, w52_15, w52_16, w52_17, w52_20, w52_23, w52_25, w52_26, w52_26n, w52_27, w52_30, w52_32, w52_35, w52_35n, w52_36, w52_39, w52_42, w52_43, w52_46, w52_46n, w52_47, w52_50, w52_53, w52_53n, w52_54, w52_57, w52_60, xk_n, xk_i, xk_r, xk_z, xk_l, xcs_0, xcs_i, xcs_r, xcs_z, xcs_l, Nat.reduceAdd, Nat.reduceLeDiff, Nat.reduceLT, true_and, and_true, Option.toList_some, Option.toList_none, List.nil_append, List.cons_append, List.getElem?_cons_zero, List.getElem?_cons_succ, List.set_cons_zero, List.set_cons_succ, List.length_cons, List.length_nil, y_bool0, y_bool1, not_true_eq_false, not_false_eq_true, false_implies, true_implies, true_or, or_true, false_or, or_false, if_true, if_false, ite_true, ite_false, y_get, H.1, B.bed, B.cls, wp_vineAt B hv3 ha, wp_below_t (m := 2) (by omega) hb, z10]
      rw [z79]
      refine wp_growTo hE ⟨X, L, B⟩ (show 79 < 80 by omega) fun h' H' F' => ?_
      have R := H0.G H'.x F'
      have hOk := runM_ok hE (mild (sFr s) (79 + 1)) (by have := mild_k (sFr s) (79 + 1); omega) a ha
      have fin := hK h' ⟨hO, e, em, er, vs, rs, R.1⟩ R.2
      simp only [w52_0, w52_0n, w52_1, w52_4, w52_5, w52_8, w52_8n, w52_9, w52_9n, w52_10, w52_10n, w52_13, w52_14, w52_15, w52_16, w52_17, w52_20, w52_23, w52_25, w52_26, w52_26n, w52_27, w52_30, w52_32, w52_35, w52_35n, w52_36, w52_39, w52_42, w52_43, w52_46, w52_46n, w52_47, w52_50, w52_53, w52_53n, w52_54, w52_57, w52_60, xk_n, xk_i, xk_r, xk_z, xk_l, xcs_0, xcs_i, xcs_r, xcs_z, xcs_l, Nat.reduceAdd, Nat.reduceLeDiff, Nat.reduceLT, true_and, and_true, Option.toList_some, Option.toList_none, List.nil_append, List.cons_append, List.getElem?_cons_zero, List.getElem?_cons_succ, List.set_cons_zero, List.set_cons_succ, List.length_cons, List.length_nil, y_bool0, y_bool1, not_true_eq_false, not_false_eq_true, false_implies, true_implies, true_or, or_true, false_or, or_false, if_true, if_false, ite_true, ite_false, y_get, R.1.1, H'.bed, H'.at ha, vsX, t0, H'.pf.cls]
      by_cases q : b = 0
      · rw [if_pos q] at fin
        refine ⟨fun z => absurd q z, fun _ => ?_⟩
        rw [wp_dayOfMove H'.pf hOk.2.2.2.2.2.2.1]
        simp only [w52_0, w52_0n, w52_1, w52_4, w52_5, w52_8, w52_8n, w52_9, w52_9n, w52_10, w52_10n, w52_13, w52_14, w52_15, w52_16, w52_17, w52_20, w52_23, w52_25, w52_26, w52_26n, w52_27, w52_30, w52_32, w52_35, w52_35n, w52_36, w52_39, w52_42, w52_43, w52_46, w52_46n, w52_47, w52_50, w52_53, w52_53n, w52_54, w52_57, w52_60, xk_n, xk_i, xk_r, xk_z, xk_l, xcs_0, xcs_i, xcs_r, xcs_z, xcs_l, Nat.reduceAdd, Nat.reduceLeDiff, Nat.reduceLT, true_and, and_true, Option.toList_some, Option.toList_none, List.nil_append, List.cons_append, List.getElem?_cons_zero, List.getElem?_cons_succ, List.set_cons_zero, List.set_cons_succ, List.length_cons, List.length_nil, y_bool0, y_bool1, not_true_eq_false, not_false_eq_true, false_implies, true_implies, true_or, or_true, false_or, or_false, if_true, if_false, ite_true, ite_false]
        exact fin
      · rw [if_neg q] at fin
        refine ⟨fun _ => ?_, fun z => absurd z q⟩
        rw [wp_dayOfMove H'.pf hOk.2.2.2.2.2.2.2]
        simp only [w52_0, w52_0n, w52_1, w52_4, w52_5, w52_8, w52_8n, w52_9, w52_9n, w52_10, w52_10n, w52_13, w52_14, w52_15, w52_16, w52_17, w52_20, w52_23, w52_25, w52_26, w52_26n, w52_27, w52_30, w52_32, w52_35, w52_35n, w52_36, w52_39, w52_42, w52_43, w52_46, w52_46n, w52_47, w52_50, w52_53, w52_53n, w52_54, w52_57, w52_60, xk_n, xk_i, xk_r, xk_z, xk_l, xcs_0, xcs_i, xcs_r, xcs_z, xcs_l, Nat.reduceAdd, Nat.reduceLeDiff, Nat.reduceLT, true_and, and_true, Option.toList_some, Option.toList_none, List.nil_append, List.cons_append, List.getElem?_cons_zero, List.getElem?_cons_succ, List.set_cons_zero, List.set_cons_succ, List.length_cons, List.length_nil, y_bool0, y_bool1, not_true_eq_false, not_false_eq_true, false_implies, true_implies, true_or, or_true, false_or, or_false, if_true, if_false, ite_true, ite_false]
        exact fin
    · have e1 : opEnds s (Int32.ofNat a) w = -2 := by unfold opEnds; rw [hnb, hnb2]
      rw [e1] at hK
      simp only [w52_0, w52_0n, w52_1, w52_4, w52_5, w52_8, w52_8n, w52_9, w52_9n, w52_10, w52_10n, w52_13, w52_14, w52_15, w52_16, w52_17, w52_20, w52_23, w52_25, w52_26, w52_26n, w52_27, w52_30, w52_32, w52_35, w52_35n, w52_36, w52_39, w52_42, w52_43, w52_46, w52_46n, w52_47, w52_50, w52_53, w52_53n, w52_54, w52_57, w52_60, xk_n, xk_i, xk_r, xk_z, xk_l, xcs_0, xcs_i, xcs_r, xcs_z, xcs_l, Nat.reduceAdd, Nat.reduceLeDiff, Nat.reduceLT, true_and, and_true, Option.toList_some, Option.toList_none, List.nil_append, List.cons_append, List.getElem?_cons_zero, List.getElem?_cons_succ, List.set_cons_zero, List.set_cons_succ, List.length_cons, List.length_nil, y_bool0, y_bool1, not_true_eq_false, not_false_eq_true, false_implies, true_implies, true_or, or_true, false_or, or_false, if_true, if_false, ite_true, ite_false, y_get, H.1, B.bed, B.cls, wp_vineAt B hv3 ha, wp_below_f (m := 2) hc2]
      exact hK h ⟨hO, e, em, er, vs, rs, H0⟩ FR.rfl'
  · have e1 : opEnds s v w = -1 := by unfold opEnds; rw [hnb]
    rw [e1] at hK
    simp only [w52_0, w52_0n, w52_1, w52_4, w52_5, w52_8, w52_8n, w52_9, w52_9n, w52_10, w52_10n, w52_13, w52_14, w52_15, w52_16, w52_17, w52_20, w52_23, w52_25, w52_26, w52_26n, w52_27, w52_30, w52_32, w52_35, w52_35n, w52_36, w52_39, w52_42, w52_43, w52_46, w52_46n, w52_47, w52_50, w52_53, w52_53n, w52_54, w52_57, w52_60, xk_n, xk_i, xk_r, xk_z, xk_l, xcs_0, xcs_i, xcs_r, xcs_z, xcs_l, Nat.reduceAdd, Nat.reduceLeDiff, Nat.reduceLT, true_and, and_true, Option.toList_some, Option.toList_none, List.nil_append, List.cons_append, List.getElem?_cons_zero, List.getElem?_cons_succ, List.set_cons_zero, List.set_cons_succ, List.length_cons, List.length_nil, y_bool0, y_bool1, not_true_eq_false, not_false_eq_true, false_implies, true_implies, true_or, or_true, false_or, or_false, if_true, if_false, ite_true, ite_false, y_get, H.1, B.bed, B.cls, wp_vineNo B hc]
    exact hK h ⟨hO, e, em, er, vs, rs, H0⟩ FR.rfl'
