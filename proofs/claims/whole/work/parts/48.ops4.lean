/-! ===== the program's calls: as, tie, tell ===== -/
def stT (s : St) (n : Int32) : St := (sE s, sFr s, sRn s, sRd s, sSh s, 31 * sTr s + n, sFa s)
def opAs (s : St) (v k : Int32) : Int32 × St := match nb v (gv (sE s)) with
  | none => (-1, stF s 0)
  | some v => match nb k 3 with
    | none => (-2, stF s 0)
    | some k => if gk (sE s) v < k then (-10 - 2, stF s 2) else (1, stF s 0)
def opTie (s : St) (v : Int32) : Int32 × St := match nb v (gv (sE s)) with
  | none => (-1, s)
  | some x => if gk (sE s) x = 2 then (30, stT s 5) else (v, stT s 4)
section
variable {d : Nat} {h : xH} {K : Option Value → xH → Prop} {s : St} {e em er : Nat} {vs rs : Nat → Nat}
theorem wp_leave (H : RC h s e em er vs rs) {n : Int32} (hK : ∀ h', RC h' (stT s n) e em er vs rs → FR CP 0 0 h h' → K none h') : wp d 85 0 [some (.ref 2), some (.int n)] [] h K := by
  have hal := h_lt H.1
  have R := H.set2 (31 * sTr s + n) (sFa s)
  simp only [w85_0, w85_0n, w85_1, w85_3, w85_3n, w85_4, w85_7, w85_8, w85_9, w85_10, w85_13, xk_n, xk_i, xk_r, xk_z, xk_l, xcs_0, xcs_i, xcs_r, xcs_z, xcs_l, Nat.reduceAdd, Nat.reduceLeDiff, Nat.reduceLT, true_and, and_true, Option.toList_some, Option.toList_none, List.nil_append, List.cons_append, List.getElem?_cons_zero, List.getElem?_cons_succ, List.set_cons_zero, List.set_cons_succ, List.length_cons, List.length_nil, y_bool0, y_bool1, not_true_eq_false, not_false_eq_true, false_implies, true_implies, true_or, or_true, false_or, or_false, if_true, if_false, ite_true, ite_false, y_get, y_put, H.1, List.getElem?_set, List.length_set, hal, set_set]
  exact hK _ R.1 (R.2.mono (fun _ _ z => CP2 z) (Nat.le_refl _) (Nat.le_refl _))
theorem cop_as (H : RX h s) (v k : Int32) (hK : ∀ h', RX h' (opAs s v k).2 → FR CP 0 0 h h' → K (some (.int (opAs s v k).1)) h') : wp (d + 4) 70 0 [some (.ref 2), some (.int v), some (.int k), none] [] h K := by
  obtain ⟨hO, e, em, er, vs, rs, H⟩ := H
  obtain ⟨H1, F1⟩ := H.F 0
  have z10 : ((1 : Int32) = 0) = False := eq_false (by decide)
  have hv3 := hO.v3
  simp only [w70_0, w70_0n, w70_1, w70_2, w70_5, w70_5n, w70_6, w70_9, w70_10, w70_13, w70_13n, w70_14, w70_14n, w70_15, w70_15n, w70_18, w70_19, w70_20, w70_21, w70_22, w70_25, w70_28, w70_30, w70_31, w70_31n, w70_32, w70_35, w70_36, w70_39, w70_39n, w70_40, w70_41, w70_44, w70_47, w70_48, xk_n, xk_i, xk_r, xk_z, xk_l, xcs_0, xcs_i, xcs_r, xcs_z, xcs_l, Nat.reduceAdd, Nat.reduceLeDiff, Nat.reduceLT, true_and, and_true, Option.toList_some, Option.toList_none, List.nil_append, List.cons_append, List.getElem?_cons_zero, List.getElem?_cons_succ, List.set_cons_zero, List.set_cons_succ, List.length_cons, List.length_nil, y_bool0, y_bool1, not_true_eq_false, not_false_eq_true, false_implies, true_implies, true_or, or_true, false_or, or_false, if_true, if_false, ite_true, ite_false, y_put, H.1]
  generalize h.set 2 (.inr (7, [.ref 3, .ref 9, .ref 15, .ref 16, .int (sTr s), .int 0])) = h1 at H1 F1
  have hX1 : RX h1 (stF s 0) := ⟨hO, e, em, er, vs, rs, H1⟩
  have H1' := H1
  obtain ⟨X, L, B⟩ := H1'.2.1
  replace B : BD h1 3 e (sE s) (sFr s) vs X L := B
  rcases nb_cas v (m := gv (sE s)) (by omega) with ⟨a, ha, rfl, hnb⟩ | ⟨hc, hnb⟩
  · rcases nb_cas k (m := 3) (by omega) with ⟨b, hb, rfl, hnb2⟩ | ⟨hc2, hnb2⟩
    · have e1 : opAs s (Int32.ofNat a) (Int32.ofNat b) = if gk (sE s) a < b then ((-10 - 2 : Int32), stF s 2) else (1, stF s 0) := by unfold opAs; rw [hnb]; dsimp only; rw [hnb2]
      rw [e1] at hK
      have hk3 := ((hO.ok ha).2.2 a ha).1
      have t1 : (Int32.ofNat b ≤ Int32.ofNat (gk (sE s) a)) = (b ≤ gk (sE s) a) := propext (n_le (by omega) (by omega))
      simp only [w70_0, w70_0n, w70_1, w70_2, w70_5, w70_5n, w70_6, w70_9, w70_10, w70_13, w70_13n, w70_14, w70_14n, w70_15, w70_15n, w70_18, w70_19, w70_20, w70_21, w70_22, w70_25, w70_28, w70_30, w70_31, w70_31n, w70_32, w70_35, w70_36, w70_39, w70_39n, w70_40, w70_41, w70_44, w70_47, w70_48, xk_n, xk_i, xk_r, xk_z, xk_l, xcs_0, xcs_i, xcs_r, xcs_z, xcs_l, Nat.reduceAdd, Nat.reduceLeDiff, Nat.reduceLT, true_and, and_true, Option.toList_some, Option.toList_none, List.nil_append, List.cons_append, List.getElem?_cons_zero, List.getElem?_cons_succ, List.set_cons_zero, List.set_cons_succ, List.length_cons, List.length_nil, y_bool0, y_bool1, not_true_eq_false, not_false_eq_true, false_implies, true_implies, true_or, or_true, false_or, or_false, if_true, if_false, ite_true, ite_false, y_get, H1.1, B.bed, B.cls, wp_vineAt B hv3 ha, wp_below_t (m := 3) (by omega) hb, z10, B.at ha, t1, H1.cls]
      by_cases q : gk (sE s) a < b
      · rw [if_pos q] at hK
        refine ⟨fun z => by omega, fun _ => ?_⟩
        refine wp_failed H1 fun h' H' F' => ?_
        simp only [w70_0, w70_0n, w70_1, w70_2, w70_5, w70_5n, w70_6, w70_9, w70_10, w70_13, w70_13n, w70_14, w70_14n, w70_15, w70_15n, w70_18, w70_19, w70_20, w70_21, w70_22, w70_25, w70_28, w70_30, w70_31, w70_31n, w70_32, w70_35, w70_36, w70_39, w70_39n, w70_40, w70_41, w70_44, w70_47, w70_48, xk_n, xk_i, xk_r, xk_z, xk_l, xcs_0, xcs_i, xcs_r, xcs_z, xcs_l, Nat.reduceAdd, Nat.reduceLeDiff, Nat.reduceLT, true_and, and_true, Option.toList_some, Option.toList_none, List.nil_append, List.cons_append, List.getElem?_cons_zero, List.getElem?_cons_succ, List.set_cons_zero, List.set_cons_succ, List.length_cons, List.length_nil, y_bool0, y_bool1, not_true_eq_false, not_false_eq_true, false_implies, true_implies, true_or, or_true, false_or, or_false, if_true, if_false, ite_true, ite_false]
        exact hK h' ⟨hO, e, em, er, vs, rs, H'⟩ (F1.tr F')
      · rw [if_neg q] at hK
        exact ⟨fun _ => hK h1 hX1 F1, fun z => by omega⟩
    · have e1 : opAs s (Int32.ofNat a) k = (-2, stF s 0) := by unfold opAs; rw [hnb]; dsimp only; rw [hnb2]
      rw [e1] at hK
      simp only [w70_0, w70_0n, w70_1, w70_2, w70_5, w70_5n, w70_6, w70_9, w70_10, w70_13, w70_13n, w70_14, w70_14n, w70_15, w70_15n, w70_18, w70_19, w70_20, w70_21, w70_22, w70_25, w70_28, w70_30, w70_31, w70_31n, w70_32, w70_35, w70_36, w70_39, w70_39n, w70_40, w70_41, w70_44, w70_47, w70_48, xk_n, xk_i, xk_r, xk_z, xk_l, xcs_0, xcs_i, xcs_r, xcs_z, xcs_l, Nat.reduceAdd, Nat.reduceLeDiff, Nat.reduceLT, true_and, and_true, Option.toList_some, Option.toList_none, List.nil_append, List.cons_append, List.getElem?_cons_zero, List.getElem?_cons_succ, List.set_cons_zero, List.set_cons_succ, List.length_cons, List.length_nil, y_bool0, y_bool1, not_true_eq_false, not_false_eq_true, false_implies, true_implies, true_or, or_true, false_or, or_false, if_true, if_false, ite_true, ite_false, y_get, H1.1, B.bed, B.cls, wp_vineAt B hv3 ha, wp_below_f (m := 3) hc2, z10]
      exact hK h1 hX1 F1
  · have e1 : opAs s v k = (-1, stF s 0) := by unfold opAs; rw [hnb]
    rw [e1] at hK
    simp only [w70_0, w70_0n, w70_1, w70_2, w70_5, w70_5n, w70_6, w70_9, w70_10, w70_13, w70_13n, w70_14, w70_14n, w70_15, w70_15n, w70_18, w70_19, w70_20, w70_21, w70_22, w70_25, w70_28, w70_30, w70_31, w70_31n, w70_32, w70_35, w70_36, w70_39, w70_39n, w70_40, w70_41, w70_44, w70_47, w70_48, xk_n, xk_i, xk_r, xk_z, xk_l, xcs_0, xcs_i, xcs_r, xcs_z, xcs_l, Nat.reduceAdd, Nat.reduceLeDiff, Nat.reduceLT, true_and, and_true, Option.toList_some, Option.toList_none, List.nil_append, List.cons_append, List.getElem?_cons_zero, List.getElem?_cons_succ, List.set_cons_zero, List.set_cons_succ, List.length_cons, List.length_nil, y_bool0, y_bool1, not_true_eq_false, not_false_eq_true, false_implies, true_implies, true_or, or_true, false_or, or_false, if_true, if_false, ite_true, ite_false, y_get, H1.1, B.bed, B.cls, wp_vineNo B hc]
    exact hK h1 hX1 F1
theorem cop_tie (H : RX h s) (v : Int32) (hK : ∀ h', RX h' (opTie s v).2 → FR CP 0 0 h h' → K (some (.int (opTie s v).1)) h') : wp (d + 4) 69 0 [some (.ref 2), some (.int v), none] [] h K := by
  obtain ⟨hO, e, em, er, vs, rs, H⟩ := H
  have H0 := H
  obtain ⟨X, L, B⟩ := H.2.1
  have hv3 := hO.v3
  rcases nb_cas v (m := gv (sE s)) (by omega) with ⟨a, ha, rfl, hnb⟩ | ⟨hc, hnb⟩
  · have e1 : opTie s (Int32.ofNat a) = if gk (sE s) a = 2 then ((30 : Int32), stT s 5) else (Int32.ofNat a, stT s 4) := by unfold opTie; rw [hnb]
    rw [e1] at hK
    have hk3 := ((hO.ok ha).2.2 a ha).1
    have t1 : (Int32.ofNat (gk (sE s) a) = 2) = (gk (sE s) a = 2) := propext (n_eql (m := 2) (by omega) (by omega))
    simp only [w69_0, w69_0n, w69_1, w69_4, w69_5, w69_8, w69_8n, w69_9, w69_9n, w69_10, w69_10n, w69_13, w69_14, w69_15, w69_15n, w69_16, w69_19, w69_20, w69_23, w69_23n, w69_24, w69_27, w69_30, w69_30n, w69_31, w69_32, w69_35, xk_n, xk_i, xk_r, xk_z, xk_l, xcs_0, xcs_i, xcs_r, xcs_z, xcs_l, Nat.reduceAdd, Nat.reduceLeDiff, Nat.reduceLT, true_and, and_true, Option.toList_some, Option.toList_none, List.nil_append, List.cons_append, List.getElem?_cons_zero, List.getElem?_cons_succ, List.set_cons_zero, List.set_cons_succ, List.length_cons, List.length_nil, y_bool0, y_bool1, not_true_eq_false, not_false_eq_true, false_implies, true_implies, true_or, or_true, false_or, or_false, if_true, if_false, ite_true, ite_false, y_get, H.1, B.bed, B.cls, wp_vineAt B hv3 ha, B.at ha, t1, H0.cls, w89_0, w89_0n, w89_1, w89_2, w89_5, w89_6, w90_0, w90_0n, w90_1, w90_2, w90_5, w90_7]
    by_cases q : gk (sE s) a = 2
    · rw [if_pos q] at hK
      refine ⟨fun z => absurd q z, fun _ => ?_⟩
      refine wp_leave H0 fun h' H' F' => ?_
      simp only [w69_0, w69_0n, w69_1, w69_4, w69_5, w69_8, w69_8n, w69_9, w69_9n, w69_10, w69_10n, w69_13, w69_14, w69_15, w69_15n, w69_16, w69_19, w69_20, w69_23, w69_23n, w69_24, w69_27, w69_30, w69_30n, w69_31, w69_32, w69_35, w90_0, w90_0n, w90_1, w90_2, w90_5, w90_7, xk_n, xk_i, xk_r, xk_z, xk_l, xcs_0, xcs_i, xcs_r, xcs_z, xcs_l, Nat.reduceAdd, Nat.reduceLeDiff, Nat.reduceLT, true_and, and_true, Option.toList_some, Option.toList_none, List.nil_append, List.cons_append, List.getElem?_cons_zero, List.getElem?_cons_succ, List.set_cons_zero, List.set_cons_succ, List.length_cons, List.length_nil, y_bool0, y_bool1, not_true_eq_false, not_false_eq_true, false_implies, true_implies, true_or, or_true, false_or, or_false, if_true, if_false, ite_true, ite_false]
      exact hK h' ⟨hO, e, em, er, vs, rs, H'⟩ F'
    · rw [if_neg q] at hK
      refine ⟨fun _ => ?_, fun z => absurd z q⟩
      refine wp_leave H0 fun h' H' F' => ?_
      simp only [w69_0, w69_0n, w69_1, w69_4, w69_5, w69_8, w69_8n, w69_9, w69_9n, w69_10, w69_10n, w69_13, w69_14, w69_15, w69_15n, w69_16, w69_19, w69_20, w69_23, w69_23n, w69_24, w69_27, w69_30, w69_30n, w69_31, w69_32, w69_35, w89_0, w89_0n, w89_1, w89_2, w89_5, w89_6, xk_n, xk_i, xk_r, xk_z, xk_l, xcs_0, xcs_i, xcs_r, xcs_z, xcs_l, Nat.reduceAdd, Nat.reduceLeDiff, Nat.reduceLT, true_and, and_true, Option.toList_some, Option.toList_none, List.nil_append, List.cons_append, List.getElem?_cons_zero, List.getElem?_cons_succ, List.set_cons_zero, List.set_cons_succ, List.length_cons, List.length_nil, y_bool0, y_bool1, not_true_eq_false, not_false_eq_true, false_implies, true_implies, true_or, or_true, false_or, or_false, if_true, if_false, ite_true, ite_false]
      exact hK h' ⟨hO, e, em, er, vs, rs, H'⟩ F'
  · have e1 : opTie s v = (-1, s) := by unfold opTie; rw [hnb]
    rw [e1] at hK
    simp only [w69_0, w69_0n, w69_1, w69_4, w69_5, w69_8, w69_8n, w69_9, w69_9n, w69_10, w69_10n, w69_13, w69_14, w69_15, w69_15n, w69_16, w69_19, w69_20, w69_23, w69_23n, w69_24, w69_27, w69_30, w69_30n, w69_31, w69_32, w69_35, xk_n, xk_i, xk_r, xk_z, xk_l, xcs_0, xcs_i, xcs_r, xcs_z, xcs_l, Nat.reduceAdd, Nat.reduceLeDiff, Nat.reduceLT, true_and, and_true, Option.toList_some, Option.toList_none, List.nil_append, List.cons_append, List.getElem?_cons_zero, List.getElem?_cons_succ, List.set_cons_zero, List.set_cons_succ, List.length_cons, List.length_nil, y_bool0, y_bool1, not_true_eq_false, not_false_eq_true, false_implies, true_implies, true_or, or_true, false_or, or_false, if_true, if_false, ite_true, ite_false, y_get, H.1, B.bed, B.cls, wp_vineNo B hc]
    exact hK h ⟨hO, e, em, er, vs, rs, H0⟩ FR.rfl'
end
def opTell (s : St) (v : Int32) : Int32 × St := match nb v (gv (sE s)) with
  | none => (-1, s)
  | some x => if gk (sE s) x = 1 then (Int32.ofNat (gp (sE s) x + 100), stT (stT s 2) 1) else if gk (sE s) x = 2 then (Int32.ofNat (gp (sE s) x + 100 + gp (sE s) x), stT (stT (stT (stT s 3) 2) 1) 1) else (Int32.ofNat (gp (sE s) x), stT s 1)
section
variable {d : Nat} {h : xH} {K : Option Value → xH → Prop} {s : St} {e em er a : Nat} {vs rs : Nat → Nat}
theorem wp_tV (hO : okS s) (H : RC h s e em er vs rs) (ha : a < gv (sE s)) (hK : ∀ h', RC h' (stT s 1) e em er vs rs → FR CP 0 0 h h' → K (some (.int (Int32.ofNat (gp (sE s) a)))) h') : wp (d + 1) 86 0 [some (.ref 2), some (.ref (vs a))] [] h K := by
  simp only [w86_0, w86_0n, w86_1, w86_2, w86_5, w86_5n, w86_6, w86_9, xk_n, xk_i, xk_r, xk_z, xk_l, xcs_0, xcs_i, xcs_r, xcs_z, xcs_l, Nat.reduceAdd, Nat.reduceLeDiff, Nat.reduceLT, true_and, and_true, Option.toList_some, Option.toList_none, List.nil_append, List.cons_append, List.getElem?_cons_zero, List.getElem?_cons_succ, List.set_cons_zero, List.set_cons_succ, List.length_cons, List.length_nil, y_bool0, y_bool1, not_true_eq_false, not_false_eq_true, false_implies, true_implies, true_or, or_true, false_or, or_false, if_true, if_false, ite_true, ite_false, H.cls]
  refine wp_leave H fun h' H' F' => ?_
  obtain ⟨X, L, B⟩ := H'.2.1
  replace B : BD h' 3 e (sE s) (sFr s) vs X L := B
  simp only [w86_0, w86_0n, w86_1, w86_2, w86_5, w86_5n, w86_6, w86_9, xk_n, xk_i, xk_r, xk_z, xk_l, xcs_0, xcs_i, xcs_r, xcs_z, xcs_l, Nat.reduceAdd, Nat.reduceLeDiff, Nat.reduceLT, true_and, and_true, Option.toList_some, Option.toList_none, List.nil_append, List.cons_append, List.getElem?_cons_zero, List.getElem?_cons_succ, List.set_cons_zero, List.set_cons_succ, List.length_cons, List.length_nil, y_bool0, y_bool1, not_true_eq_false, not_false_eq_true, false_implies, true_implies, true_or, or_true, false_or, or_false, if_true, if_false, ite_true, ite_false, y_get, B.at ha]
  exact hK h' H' F'
theorem wp_tC (hO : okS s) (H : RC h s e em er vs rs) (ha : a < gv (sE s)) (hK : ∀ h', RC h' (stT (stT s 2) 1) e em er vs rs → FR CP 0 0 h h' → K (some (.int (Int32.ofNat (gp (sE s) a + 100)))) h') : wp (d + 2) 87 0 [some (.ref 2), some (.ref (vs a))] [] h K := by
  simp only [w87_0, w87_0n, w87_1, w87_2, w87_5, w87_5n, w87_6, w87_6n, w87_7, w87_10, w87_12, w87_13, xk_n, xk_i, xk_r, xk_z, xk_l, xcs_0, xcs_i, xcs_r, xcs_z, xcs_l, Nat.reduceAdd, Nat.reduceLeDiff, Nat.reduceLT, true_and, and_true, Option.toList_some, Option.toList_none, List.nil_append, List.cons_append, List.getElem?_cons_zero, List.getElem?_cons_succ, List.set_cons_zero, List.set_cons_succ, List.length_cons, List.length_nil, y_bool0, y_bool1, not_true_eq_false, not_false_eq_true, false_implies, true_implies, true_or, or_true, false_or, or_false, if_true, if_false, ite_true, ite_false, H.cls]
  refine wp_leave H fun h1 H1 F1 => ?_
  simp only [w87_0, w87_0n, w87_1, w87_2, w87_5, w87_5n, w87_6, w87_6n, w87_7, w87_10, w87_12, w87_13, xk_n, xk_i, xk_r, xk_z, xk_l, xcs_0, xcs_i, xcs_r, xcs_z, xcs_l, Nat.reduceAdd, Nat.reduceLeDiff, Nat.reduceLT, true_and, and_true, Option.toList_some, Option.toList_none, List.nil_append, List.cons_append, List.getElem?_cons_zero, List.getElem?_cons_succ, List.set_cons_zero, List.set_cons_succ, List.length_cons, List.length_nil, y_bool0, y_bool1, not_true_eq_false, not_false_eq_true, false_implies, true_implies, true_or, or_true, false_or, or_false, if_true, if_false, ite_true, ite_false, H1.cls]
  refine wp_tV (s := stT s 2) hO H1 ha fun h2 H2 F2 => ?_
  have z : Int32.ofNat (gp (sE s) a) + 100 = Int32.ofNat (gp (sE s) a + 100) := n_addl _ 100
  simp only [w87_0, w87_0n, w87_1, w87_2, w87_5, w87_5n, w87_6, w87_6n, w87_7, w87_10, w87_12, w87_13, xk_n, xk_i, xk_r, xk_z, xk_l, xcs_0, xcs_i, xcs_r, xcs_z, xcs_l, Nat.reduceAdd, Nat.reduceLeDiff, Nat.reduceLT, true_and, and_true, Option.toList_some, Option.toList_none, List.nil_append, List.cons_append, List.getElem?_cons_zero, List.getElem?_cons_succ, List.set_cons_zero, List.set_cons_succ, List.length_cons, List.length_nil, y_bool0, y_bool1, not_true_eq_false, not_false_eq_true, false_implies, true_implies, true_or, or_true, false_or, or_false, if_true, if_false, ite_true, ite_false]
  have := hK h2 H2 (F1.tr F2)
  rw [← z] at this
  exact this
theorem wp_tR (hO : okS s) (H : RC h s e em er vs rs) (ha : a < gv (sE s)) (hK : ∀ h', RC h' (stT (stT (stT (stT s 3) 2) 1) 1) e em er vs rs → FR CP 0 0 h h' → K (some (.int (Int32.ofNat (gp (sE s) a + 100 + gp (sE s) a)))) h') : wp (d + 3) 88 0 [some (.ref 2), some (.ref (vs a)), none] [] h K := by
  simp only [w88_0, w88_0n, w88_1, w88_2, w88_5, w88_5n, w88_6, w88_6n, w88_7, w88_10, w88_11, w88_12, w88_12n, w88_13, w88_13n, w88_14, w88_17, w88_18, xk_n, xk_i, xk_r, xk_z, xk_l, xcs_0, xcs_i, xcs_r, xcs_z, xcs_l, Nat.reduceAdd, Nat.reduceLeDiff, Nat.reduceLT, true_and, and_true, Option.toList_some, Option.toList_none, List.nil_append, List.cons_append, List.getElem?_cons_zero, List.getElem?_cons_succ, List.set_cons_zero, List.set_cons_succ, List.length_cons, List.length_nil, y_bool0, y_bool1, not_true_eq_false, not_false_eq_true, false_implies, true_implies, true_or, or_true, false_or, or_false, if_true, if_false, ite_true, ite_false, H.cls]
  refine wp_leave H fun h1 H1 F1 => ?_
  simp only [w88_0, w88_0n, w88_1, w88_2, w88_5, w88_5n, w88_6, w88_6n, w88_7, w88_10, w88_11, w88_12, w88_12n, w88_13, w88_13n, w88_14, w88_17, w88_18, xk_n, xk_i, xk_r, xk_z, xk_l, xcs_0, xcs_i, xcs_r, xcs_z, xcs_l, Nat.reduceAdd, Nat.reduceLeDiff, Nat.reduceLT, true_and, and_true, Option.toList_some, Option.toList_none, List.nil_append, List.cons_append, List.getElem?_cons_zero, List.getElem?_cons_succ, List.set_cons_zero, List.set_cons_succ, List.length_cons, List.length_nil, y_bool0, y_bool1, not_true_eq_false, not_false_eq_true, false_implies, true_implies, true_or, or_true, false_or, or_false, if_true, if_false, ite_true, ite_false, H1.cls]
  refine wp_tC (s := stT s 3) hO H1 ha fun h2 H2 F2 => ?_
  simp only [w88_0, w88_0n, w88_1, w88_2, w88_5, w88_5n, w88_6, w88_6n, w88_7, w88_10, w88_11, w88_12, w88_12n, w88_13, w88_13n, w88_14, w88_17, w88_18, xk_n, xk_i, xk_r, xk_z, xk_l, xcs_0, xcs_i, xcs_r, xcs_z, xcs_l, Nat.reduceAdd, Nat.reduceLeDiff, Nat.reduceLT, true_and, and_true, Option.toList_some, Option.toList_none, List.nil_append, List.cons_append, List.getElem?_cons_zero, List.getElem?_cons_succ, List.set_cons_zero, List.set_cons_succ, List.length_cons, List.length_nil, y_bool0, y_bool1, not_true_eq_false, not_false_eq_true, false_implies, true_implies, true_or, or_true, false_or, or_false, if_true, if_false, ite_true, ite_false, H2.cls]
  refine wp_tV (s := stT (stT (stT s 3) 2) 1) hO H2 ha fun h3 H3 F3 => ?_
  simp only [w88_0, w88_0n, w88_1, w88_2, w88_5, w88_5n, w88_6, w88_6n, w88_7, w88_10, w88_11, w88_12, w88_12n, w88_13, w88_13n, w88_14, w88_17, w88_18, xk_n, xk_i, xk_r, xk_z, xk_l, xcs_0, xcs_i, xcs_r, xcs_z, xcs_l, Nat.reduceAdd, Nat.reduceLeDiff, Nat.reduceLT, true_and, and_true, Option.toList_some, Option.toList_none, List.nil_append, List.cons_append, List.getElem?_cons_zero, List.getElem?_cons_succ, List.set_cons_zero, List.set_cons_succ, List.length_cons, List.length_nil, y_bool0, y_bool1, not_true_eq_false, not_false_eq_true, false_implies, true_implies, true_or, or_true, false_or, or_false, if_true, if_false, ite_true, ite_false]
  have := hK h3 H3 ((F1.tr F2).tr F3)
  rw [← n_add] at this
  exact this
theorem cop_tell (H : RX h s) (v : Int32) (hK : ∀ h', RX h' (opTell s v).2 → FR CP 0 0 h h' → K (some (.int (opTell s v).1)) h') : wp (d + 4) 68 0 [some (.ref 2), some (.int v), none] [] h K := by
  obtain ⟨hO, e, em, er, vs, rs, H⟩ := H
  have H0 := H
  obtain ⟨X, L, B⟩ := H.2.1
  have hv3 := hO.v3
  rcases nb_cas v (m := gv (sE s)) (by omega) with ⟨a, ha, rfl, hnb⟩ | ⟨hc, hnb⟩
  · have e1 : opTell s (Int32.ofNat a) = if gk (sE s) a = 1 then (Int32.ofNat (gp (sE s) a + 100), stT (stT s 2) 1) else if gk (sE s) a = 2 then (Int32.ofNat (gp (sE s) a + 100 + gp (sE s) a), stT (stT (stT (stT s 3) 2) 1) 1) else (Int32.ofNat (gp (sE s) a), stT s 1) := by unfold opTell; rw [hnb]
    rw [e1] at hK
    have hk3 := ((hO.ok ha).2.2 a ha).1
    have t1 : ((Int32.ofNat (gk (sE s) a)).toInt = 1) = (gk (sE s) a = 1) := by rw [n_toInt (by omega)]; exact propext (by omega)
    have t2 : ((Int32.ofNat (gk (sE s) a)).toInt = 2) = (gk (sE s) a = 2) := by rw [n_toInt (by omega)]; exact propext (by omega)
    simp only [w68_0, w68_0n, w68_1, w68_4, w68_5, w68_8, w68_8n, w68_9, w68_9n, w68_10, w68_10n, w68_13, w68_14, w68_15, w68_15n, w68_16, w68_19, w68_44, w68_44n, w68_45, w68_45n, w68_46, w68_49, w68_50, w68_50n, w68_51, w68_51n, w68_52, w68_55, w68_56, w68_56n, w68_57, w68_57n, w68_58, w68_61, xk_n, xk_i, xk_r, xk_z, xk_l, xcs_0, xcs_i, xcs_r, xcs_z, xcs_l, Nat.reduceAdd, Nat.reduceLeDiff, Nat.reduceLT, true_and, and_true, Option.toList_some, Option.toList_none, List.nil_append, List.cons_append, List.getElem?_cons_zero, List.getElem?_cons_succ, List.set_cons_zero, List.set_cons_succ, List.length_cons, List.length_nil, y_bool0, y_bool1, not_true_eq_false, not_false_eq_true, false_implies, true_implies, true_or, or_true, false_or, or_false, if_true, if_false, ite_true, ite_false, y_get, H.1, B.bed, B.cls, wp_vineAt B hv3 ha, B.at ha, t1, t2, H0.cls]
    by_cases q : gk (sE s) a = 1
    · rw [if_pos q] at hK
      refine ⟨fun _ => ?_, fun z => absurd q z⟩
      refine wp_tC hO H0 ha fun h' H' F' => ?_
      simp only [w68_0, w68_0n, w68_1, w68_4, w68_5, w68_8, w68_8n, w68_9, w68_9n, w68_10, w68_10n, w68_13, w68_14, w68_15, w68_15n, w68_16, w68_19, w68_44, w68_44n, w68_45, w68_45n, w68_46, w68_49, w68_50, w68_50n, w68_51, w68_51n, w68_52, w68_55, w68_56, w68_56n, w68_57, w68_57n, w68_58, w68_61, xk_n, xk_i, xk_r, xk_z, xk_l, xcs_0, xcs_i, xcs_r, xcs_z, xcs_l, Nat.reduceAdd, Nat.reduceLeDiff, Nat.reduceLT, true_and, and_true, Option.toList_some, Option.toList_none, List.nil_append, List.cons_append, List.getElem?_cons_zero, List.getElem?_cons_succ, List.set_cons_zero, List.set_cons_succ, List.length_cons, List.length_nil, y_bool0, y_bool1, not_true_eq_false, not_false_eq_true, false_implies, true_implies, true_or, or_true, false_or, or_false, if_true, if_false, ite_true, ite_false]
      exact hK h' ⟨hO, e, em, er, vs, rs, H'⟩ F'
    · rw [if_neg q] at hK
      refine ⟨fun z => absurd z q, fun _ => ?_⟩
      by_cases q2 : gk (sE s) a = 2
      · rw [if_pos q2] at hK
        refine ⟨fun _ => ?_, fun z => absurd q2 z⟩
        refine wp_tR hO H0 ha fun h' H' F' => ?_
        simp only [w68_0, w68_0n, w68_1, w68_4, w68_5, w68_8, w68_8n, w68_9, w68_9n, w68_10, w68_10n, w68_13, w68_14, w68_15, w68_15n, w68_16, w68_19, w68_44, w68_44n, w68_45, w68_45n, w68_46, w68_49, w68_50, w68_50n, w68_51, w68_51n, w68_52, w68_55, w68_56, w68_56n, w68_57, w68_57n, w68_58, w68_61, xk_n, xk_i, xk_r, xk_z, xk_l, xcs_0, xcs_i, xcs_r, xcs_z, xcs_l, Nat.reduceAdd, Nat.reduceLeDiff, Nat.reduceLT, true_and, and_true, Option.toList_some, Option.toList_none, List.nil_append, List.cons_append, List.getElem?_cons_zero, List.getElem?_cons_succ, List.set_cons_zero, List.set_cons_succ, List.length_cons, List.length_nil, y_bool0, y_bool1, not_true_eq_false, not_false_eq_true, false_implies, true_implies, true_or, or_true, false_or, or_false, if_true, if_false, ite_true, ite_false]
        exact hK h' ⟨hO, e, em, er, vs, rs, H'⟩ F'
      · rw [if_neg q2] at hK
        refine ⟨fun z => absurd z q2, fun _ => ?_⟩
        refine wp_tV hO H0 ha fun h' H' F' => ?_
        simp only [w68_0, w68_0n, w68_1, w68_4, w68_5, w68_8, w68_8n, w68_9, w68_9n, w68_10, w68_10n, w68_13, w68_14, w68_15, w68_15n, w68_16, w68_19, w68_44, w68_44n, w68_45, w68_45n, w68_46, w68_49, w68_50, w68_50n, w68_51, w68_51n, w68_52, w68_55, w68_56, w68_56n, w68_57, w68_57n, w68_58, w68_61, xk_n, xk_i, xk_r, xk_z, xk_l, xcs_0, xcs_i, xcs_r, xcs_z, xcs_l, Nat.reduceAdd, Nat.reduceLeDiff, Nat.reduceLT, true_and, and_true, Option.toList_some, Option.toList_none, List.nil_append, List.cons_append, List.getElem?_cons_zero, List.getElem?_cons_succ, List.set_cons_zero, List.set_cons_succ, List.length_cons, List.length_nil, y_bool0, y_bool1, not_true_eq_false, not_false_eq_true, false_implies, true_implies, true_or, or_true, false_or, or_false, if_true, if_false, ite_true, ite_false]
        exact hK h' ⟨hO, e, em, er, vs, rs, H'⟩ F'
  · have e1 : opTell s v = (-1, s) := by unfold opTell; rw [hnb]
    rw [e1] at hK
    simp only [w68_0, w68_0n, w68_1, w68_4, w68_5, w68_8, w68_8n, w68_9, w68_9n, w68_10, w68_10n, w68_13, w68_14, w68_15, w68_15n, w68_16, w68_19, w68_44, w68_44n, w68_45, w68_45n, w68_46, w68_49, w68_50, w68_50n, w68_51, w68_51n, w68_52, w68_55, w68_56, w68_56n, w68_57, w68_57n, w68_58, w68_61, xk_n, xk_i, xk_r, xk_z, xk_l, xcs_0, xcs_i, xcs_r, xcs_z, xcs_l, Nat.reduceAdd, Nat.reduceLeDiff, Nat.reduceLT, true_and, and_true, Option.toList_some, Option.toList_none, List.nil_append, List.cons_append, List.getElem?_cons_zero, List.getElem?_cons_succ, List.set_cons_zero, List.set_cons_succ, List.length_cons, List.length_nil, y_bool0, y_bool1, not_true_eq_false, not_false_eq_true, false_implies, true_implies, true_or, or_true, false_or, or_false, if_true, if_false, ite_true, ite_false, y_get, H.1, B.bed, B.cls, wp_vineNo B hc]
    exact hK h ⟨hO, e, em, er, vs, rs, H0⟩ FR.rfl'
end
