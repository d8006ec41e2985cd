/-! ===== the program's calls: set, frost ===== -/
/-- the garden's signs are others -/
def edS (E : Gd) (f : Nat → Nat) : Gd := (gw E, gn E, f, gv E, gk E, gp E, gh E)
def stE (s : St) (E : Gd) : St := (E, sFr s, sRn s, sRd s, sSh s, sTr s, sFa s)
def stR (s : St) (fr : Nat → Bool) : St := (sE s, fr, sRn s, sRd s, sSh s, sTr s, sFa s)
def opSet (s : St) (c g : Int32) : Int32 × St := match nb c (gn (sE s)) with
  | none => (-1, s)
  | some c => match nb g 4 with
    | none => (-2, s)
    | some g => if g = 1 ∧ plF (sE s) c (gv (sE s)) 0 = true then (-3, s) else (Int32.ofNat (gs (sE s) c), stE s (edS (sE s) (upN (gs (sE s)) c g)))
def opFrost (s : St) (day : Int32) (b : Bool) : Int32 × St := match nb day 80 with
  | none => (-1, s)
  | some day => if gn (sE s) = 0 then (-3, s) else (bi (sFr s day != b), stR s (upB (sFr s) day b))
theorem okE_S {E : Gd} (h : okE E) (f : Nat → Nat) : okE (edS E f) := h
section
variable {h h' : xH} {s : St} {e em er : Nat} {vs rs : Nat → Nat} {X : Nat → List Value} {L : Int64}
/-- the garden's bed is another, all else stays -/
theorem RC.B (H : RC h s e em er vs rs) {E' : Gd} {fr' : Nat → Bool} (hv : gv E' = gv (sE s)) {P : Nat → Prop} {k m : Nat} (B : BX h' 3 e E' fr' vs) (F : FR P k m h h') (hP : ∀ a, P a → (3 ≤ a ∧ a < 9) ∨ ∃ v, v < gv (sE s) ∧ a = vs v) : RC h' (E', fr', sRn s, sRd s, sSh s, sTr s, sFa s) e em er vs rs ∧ FR CP k m h h' := by
  have H0 := H
  obtain ⟨a1, ⟨X, L, a2⟩, a3, a4, a5, ⟨g, a6, a7⟩, a8, a9, b1, b2, b3, b4, b5, b6, b7⟩ := H
  have nfix : ∀ a, (a < 3 ∨ 9 ≤ a) → a < 30 → ¬ P a := by
    intro a h1 h2 z
    rcases hP a z with z | ⟨v, z1, z2⟩
    · omega
    · have := a9 v z1; omega
  have nrs : ∀ r, r < sRn s → ¬ P (rs r) := by
    intro r hr z
    have h49 := (a5 r hr).1
    rcases hP _ z with z | ⟨v, z1, z2⟩
    · omega
    · exact h_dif (a5 r hr).2 (a2.at z1) (by intro z; cases z) z2
  have nar : ∀ (q e' n : Nat) (f : Nat → Nat), AL h q e' n f → (e' = 1 ∨ 30 ≤ e') → ¬ P e' := by
    intro q e' n f ⟨⟨mc, l1⟩, l2, l3, l4⟩ he z
    rcases hP _ z with z | ⟨v, z1, z2⟩
    · omega
    · have := a9 v z1
      rcases l4 with ⟨rfl, c2, c3⟩ | ⟨c1, g, c2, c3⟩
      · omega
      · exact h_dif c2 (a2.at z1) (by intro z; cases z) z2
  refine ⟨⟨F.at a1 (nfix _ (by omega) (by omega)), B, ?_, a4.fr F (nfix _ (by omega) (by omega)) (nar _ _ _ _ a4 b3), fun r hr => ⟨(a5 r hr).1, F.at (a5 r hr).2 (nrs r hr)⟩, ⟨g, F.at a6 (nfix _ (by omega) (by omega)), a7⟩, fun j hj => (a8 j hj).fr F (nfix _ (by omega) (by omega)) (nfix _ (by omega) (by omega)), fun v hv' => a9 v (by rw [← hv]; exact hv'), b1, b2, b3, b4, b5, b6, by have := F.1; omega⟩, F.mono (fun a _ z => ?_) (Nat.le_refl _) (Nat.le_refl _)⟩
  · obtain ⟨L, w, n, nm, s', fr, f, m1, m2, m3, m4⟩ := a3
    exact ⟨L, w, n, nm, s', fr, f, F.at m1 (nfix _ (by omega) (by omega)), m2.fr F (nfix _ (by omega) (by omega)) (nfix _ (by omega) (by omega)), m3.fr F (nfix _ (by omega) (by omega)) (nfix _ (by omega) (by omega)), m4.fr F (nfix _ (by omega) (by omega)) (nar _ _ _ _ m4 b2)⟩
  · rcases hP _ z with z | ⟨v, z1, z2⟩
    · exact Or.inl (by omega)
    · exact Or.inr (by have := a9 v z1; omega)
theorem BD.mk {q e : Nat} {E : Gd} {fr : Nat → Bool} (H : BD h q e E fr vs X L) {f : Nat → Nat} (P : PL h' (q + 1) (gw E) (gn E) f) (F : FR (fun b => b = q + 1 + 1) 0 0 h h') : BD h' q e (edS E f) fr vs X L := by
  have heq := H.eq
  refine ⟨H.1, F.at H.bed (by omega), P, H.pf.fr F (by omega) (by omega), H.al.fr F (by omega) (by omega), fun v hv => ⟨H.at2 hv, H.len hv, F.at (H.at hv) (by have := (H.ne hv).2.2.1; omega)⟩, H.2.2.2.2.2.2⟩
theorem BD.mf {q e : Nat} {E : Gd} {fr fr' : Nat → Bool} (H : BD h q e E fr vs X L) (P : PF h' (q + 3) fr') (F : FR (fun b => b = q + 3 + 1) 0 0 h h') : BD h' q e E fr' vs X L := by
  have heq := H.eq
  refine ⟨H.1, F.at H.bed (by omega), H.pl.fr F (by omega) (by omega), P, H.al.fr F (by omega) (by omega), fun v hv => ⟨H.at2 hv, H.len hv, F.at (H.at hv) (by have := (H.ne hv).2.2.2.2.1; omega)⟩, H.2.2.2.2.2.2⟩
end
section
variable {d : Nat} {h : xH} {K : Option Value → xH → Prop} {s : St}
theorem cop_frost (H : RX h s) (day : Int32) (b : Bool) (hK : ∀ h', RX h' (opFrost s day b).2 → FR CP 0 0 h h' → K (some (.int (opFrost s day b).1)) h') : wp (d + 1) 48 0 [some (.ref 2), some (.int day), some (.int (bi b))] [] h K := by
  obtain ⟨hO, e, em, er, vs, rs, H⟩ := H
  have H0 := H
  obtain ⟨X, L, B⟩ := H.2.1
  have z10 : ((1 : Int32) = 0) = False := eq_false (by decide)
  rcases nb_cas day (m := 80) (by omega) with ⟨a, ha, rfl, hnb⟩ | ⟨hc, hnb⟩
  · have e1 : opFrost s (Int32.ofNat a) b = if gn (sE s) = 0 then ((-3 : Int32), s) else (bi (sFr s a != b), stR s (upB (sFr s) a b)) := by unfold opFrost; rw [hnb]
    rw [e1] at hK
    by_cases q : gn (sE s) = 0
    · rw [if_pos q] at hK
      have qd : decide (gn (sE s) = 0) = true := decide_eq_true q
      simp only [w48_0, w48_1, w48_3, w48_6, w48_9, w48_10, w48_11, w48_11n, w48_12, w48_15, w48_18, w48_21, w48_24, w48_26, w48_27, w48_27n, w48_28, w48_31, w48_34, w48_35, w48_36, w48_39, w48_42, w48_43, w48_46, w48_47, xk_n, xk_i, xk_r, xk_z, xk_l, xcs_0, xcs_i, xcs_r, xcs_z, xcs_l, Nat.reduceAdd, Nat.reduceLeDiff, Nat.reduceLT, true_and, and_true, Option.toList_some, Option.toList_none, List.nil_append, List.cons_append, List.getElem?_cons_zero, List.getElem?_cons_succ, List.set_cons_zero, List.set_cons_succ, List.length_cons, List.length_nil, y_bool0, y_bool1, not_true_eq_false, not_false_eq_true, false_implies, true_implies, true_or, or_true, false_or, or_false, if_true, if_false, ite_true, ite_false, y_get, H.1, B.bed, wp_below_t (m := 80) (by omega) ha, z10, B.pl.cls, wp_isMissing B.pl, qd, bi_t]
      exact hK h ⟨hO, e, em, er, vs, rs, H0⟩ FR.rfl'
    · rw [if_neg q] at hK
      have qd : decide (gn (sE s) = 0) = false := decide_eq_false q
      simp only [w48_0, w48_1, w48_3, w48_6, w48_9, w48_10, w48_11, w48_11n, w48_12, w48_15, w48_18, w48_21, w48_24, w48_26, w48_27, w48_27n, w48_28, w48_31, w48_34, w48_35, w48_36, w48_39, w48_42, w48_43, w48_46, w48_47, xk_n, xk_i, xk_r, xk_z, xk_l, xcs_0, xcs_i, xcs_r, xcs_z, xcs_l, Nat.reduceAdd, Nat.reduceLeDiff, Nat.reduceLT, true_and, and_true, Option.toList_some, Option.toList_none, List.nil_append, List.cons_append, List.getElem?_cons_zero, List.getElem?_cons_succ, List.set_cons_zero, List.set_cons_succ, List.length_cons, List.length_nil, y_bool0, y_bool1, not_true_eq_false, not_false_eq_true, false_implies, true_implies, true_or, or_true, false_or, or_false, if_true, if_false, ite_true, ite_false, y_get, H.1, B.bed, wp_below_t (m := 80) (by omega) ha, z10, B.pl.cls, wp_isMissing B.pl, qd, bi_f, B.pf.cls]
      refine wp_fmark B.pf ha fun h' H' F' => ?_
      have R := H0.B (E' := sE s) (fr' := upB (sFr s) a b) rfl ⟨X, L, B.mf H' F'⟩ F' (fun x hx => Or.inl (by omega))
      have hR : RX h' (stR s (upB (sFr s) a b)) := ⟨hO, e, em, er, vs, rs, R.1⟩
      have := hK h' hR R.2
      cases q2 : (sFr s a != b)
      · rw [q2] at this
        simp only [w48_0, w48_1, w48_3, w48_6, w48_9, w48_10, w48_11, w48_11n, w48_12, w48_15, w48_18, w48_21, w48_24, w48_26, w48_27, w48_27n, w48_28, w48_31, w48_34, w48_35, w48_36, w48_39, w48_42, w48_43, w48_46, w48_47, xk_n, xk_i, xk_r, xk_z, xk_l, xcs_0, xcs_i, xcs_r, xcs_z, xcs_l, Nat.reduceAdd, Nat.reduceLeDiff, Nat.reduceLT, true_and, and_true, Option.toList_some, Option.toList_none, List.nil_append, List.cons_append, List.getElem?_cons_zero, List.getElem?_cons_succ, List.set_cons_zero, List.set_cons_succ, List.length_cons, List.length_nil, y_bool0, y_bool1, not_true_eq_false, not_false_eq_true, false_implies, true_implies, true_or, or_true, false_or, or_false, if_true, if_false, ite_true, ite_false, bi_f]
        exact this
      · rw [q2] at this
        simp only [w48_0, w48_1, w48_3, w48_6, w48_9, w48_10, w48_11, w48_11n, w48_12, w48_15, w48_18, w48_21, w48_24, w48_26, w48_27, w48_27n, w48_28, w48_31, w48_34, w48_35, w48_36, w48_39, w48_42, w48_43, w48_46, w48_47, xk_n, xk_i, xk_r, xk_z, xk_l, xcs_0, xcs_i, xcs_r, xcs_z, xcs_l, Nat.reduceAdd, Nat.reduceLeDiff, Nat.reduceLT, true_and, and_true, Option.toList_some, Option.toList_none, List.nil_append, List.cons_append, List.getElem?_cons_zero, List.getElem?_cons_succ, List.set_cons_zero, List.set_cons_succ, List.length_cons, List.length_nil, y_bool0, y_bool1, not_true_eq_false, not_false_eq_true, false_implies, true_implies, true_or, or_true, false_or, or_false, if_true, if_false, ite_true, ite_false, bi_t, z10]
        exact this
  · have e1 : opFrost s day b = (-1, s) := by unfold opFrost; rw [hnb]
    rw [e1] at hK
    simp only [w48_0, w48_1, w48_3, w48_6, w48_9, w48_10, w48_11, w48_11n, w48_12, w48_15, w48_18, w48_21, w48_24, w48_26, w48_27, w48_27n, w48_28, w48_31, w48_34, w48_35, w48_36, w48_39, w48_42, w48_43, w48_46, w48_47, xk_n, xk_i, xk_r, xk_z, xk_l, xcs_0, xcs_i, xcs_r, xcs_z, xcs_l, Nat.reduceAdd, Nat.reduceLeDiff, Nat.reduceLT, true_and, and_true, Option.toList_some, Option.toList_none, List.nil_append, List.cons_append, List.getElem?_cons_zero, List.getElem?_cons_succ, List.set_cons_zero, List.set_cons_succ, List.length_cons, List.length_nil, y_bool0, y_bool1, not_true_eq_false, not_false_eq_true, false_implies, true_implies, true_or, or_true, false_or, or_false, if_true, if_false, ite_true, ite_false, wp_below_f (m := 80) hc]
    exact hK h ⟨hO, e, em, er, vs, rs, H0⟩ FR.rfl'
end
section
variable {d : Nat} {h : xH} {K : Option Value → xH → Prop} {s : St}
theorem cop_set (H : RX h s) (c g : Int32) (hK : ∀ h', RX h' (opSet s c g).2 → FR CP 0 0 h h' → K (some (.int (opSet s c g).1)) h') : wp (d + 4) 44 0 [some (.ref 2), some (.int c), some (.int g), none] [] h K := by
  obtain ⟨hO, e, em, er, vs, rs, H⟩ := H
  have H0 := H
  obtain ⟨X, L, B⟩ := H.2.1
  have hn := hO.n30
  have z10 : ((1 : Int32) = 0) = False := eq_false (by decide)
  rcases nb_cas c (m := gn (sE s)) (by omega) with ⟨a, ha, rfl, hnb⟩ | ⟨hc, hnb⟩
  · rcases nb_cas g (m := 4) (by omega) with ⟨b, hb, rfl, hnb2⟩ | ⟨hc2, hnb2⟩
    · have hE := hO.okn ha
      have e1 : opSet s (Int32.ofNat a) (Int32.ofNat b) = if b = 1 ∧ plF (sE s) a (gv (sE s)) 0 = true then ((-3 : Int32), s) else (Int32.ofNat (gs (sE s) a), stE s (edS (sE s) (upN (gs (sE s)) a b))) := by unfold opSet; rw [hnb]; dsimp only; rw [hnb2]
      rw [e1] at hK
      have t1 : (Int32.ofNat b = 1) = (b = 1) := propext (n_eql (m := 1) (by omega) (by omega))
      simp only [w44_0, w44_0n, w44_1, w44_4, w44_7, w44_8, w44_11, w44_14, w44_15, w44_16, w44_17, w44_18, w44_21, w44_24, w44_26, w44_27, w44_28, w44_29, w44_32, w44_32n, w44_33, w44_36, w44_37, w44_40, w44_43, w44_45, w44_46, w44_46n, w44_47, w44_50, w44_53, w44_54, w44_57, w44_58, w44_58n, w44_59, w44_62, w44_65, w44_66, w44_67, w44_70, w44_71, xk_n, xk_i, xk_r, xk_z, xk_l, xcs_0, xcs_i, xcs_r, xcs_z, xcs_l, Nat.reduceAdd, Nat.reduceLeDiff, Nat.reduceLT, true_and, and_true, Option.toList_some, Option.toList_none, List.nil_append, List.cons_append, List.getElem?_cons_zero, List.getElem?_cons_succ, List.set_cons_zero, List.set_cons_succ, List.length_cons, List.length_nil, y_bool0, y_bool1, not_true_eq_false, not_false_eq_true, false_implies, true_implies, true_or, or_true, false_or, or_false, if_true, if_false, ite_true, ite_false, y_get, H.1, B.bed, B.cls, B.pl.cls, wp_hasCell B.pl, hc_t hn ha, bi_t, z10, wp_below_t (m := 4) (by omega) hb, t1, wp_isPlanted B hE (show a < 30 by omega), wp_signOf (o := some a) B.pl (Or.inl ⟨a, rfl, ha, rfl⟩), sgO_s]
      have mk : ¬ (b = 1 ∧ plF (sE s) a (gv (sE s)) 0 = true) → wp (d + 3) 20 0 [some (.ref 4), some (.int (Int32.ofNat a)), some (.int (Int32.ofNat b))] [] h (fun v h1 => wp (d + 3 + 1) 44 71 [some (.ref 2), some (.int (Int32.ofNat a)), some (.int (Int32.ofNat b)), some (.int (Int32.ofNat (gs (sE s) a)))] (.int (Int32.ofNat (gs (sE s) a)) :: (v.toList ++ [])) h1 K) := by
        intro q
        rw [if_neg q] at hK
        refine wp_mark B.pl ha hb fun h' H' F' => ?_
        simp only [w44_0, w44_0n, w44_1, w44_4, w44_7, w44_8, w44_11, w44_14, w44_15, w44_16, w44_17, w44_18, w44_21, w44_24, w44_26, w44_27, w44_28, w44_29, w44_32, w44_32n, w44_33, w44_36, w44_37, w44_40, w44_43, w44_45, w44_46, w44_46n, w44_47, w44_50, w44_53, w44_54, w44_57, w44_58, w44_58n, w44_59, w44_62, w44_65, w44_66, w44_67, w44_70, w44_71, xk_n, xk_i, xk_r, xk_z, xk_l, xcs_0, xcs_i, xcs_r, xcs_z, xcs_l, Nat.reduceAdd, Nat.reduceLeDiff, Nat.reduceLT, true_and, and_true, Option.toList_some, Option.toList_none, List.nil_append, List.cons_append, List.getElem?_cons_zero, List.getElem?_cons_succ, List.set_cons_zero, List.set_cons_succ, List.length_cons, List.length_nil, y_bool0, y_bool1, not_true_eq_false, not_false_eq_true, false_implies, true_implies, true_or, or_true, false_or, or_false, if_true, if_false, ite_true, ite_false]
        have R := H0.B (E' := edS (sE s) (upN (gs (sE s)) a b)) (fr' := sFr s) rfl ⟨X, L, B.mk H' F'⟩ F' (fun x hx => Or.inl (by omega))
        refine hK h' ⟨⟨Or.inl (okE_S hE _), hO.2.1, hO.2.2.1, fun c hc => ?_⟩, e, em, er, vs, rs, R.1⟩ R.2
        obtain ⟨f, p1, p2, p3⟩ := H'.2.2.2
        exact (p3 c hc).2
      by_cases q : b = 1
      · refine ⟨fun z => absurd q z, fun _ => ?_⟩
        cases q2 : plF (sE s) a (gv (sE s)) 0
        · simp only [w44_0, w44_0n, w44_1, w44_4, w44_7, w44_8, w44_11, w44_14, w44_15, w44_16, w44_17, w44_18, w44_21, w44_24, w44_26, w44_27, w44_28, w44_29, w44_32, w44_32n, w44_33, w44_36, w44_37, w44_40, w44_43, w44_45, w44_46, w44_46n, w44_47, w44_50, w44_53, w44_54, w44_57, w44_58, w44_58n, w44_59, w44_62, w44_65, w44_66, w44_67, w44_70, w44_71, xk_n, xk_i, xk_r, xk_z, xk_l, xcs_0, xcs_i, xcs_r, xcs_z, xcs_l, Nat.reduceAdd, Nat.reduceLeDiff, Nat.reduceLT, true_and, and_true, Option.toList_some, Option.toList_none, List.nil_append, List.cons_append, List.getElem?_cons_zero, List.getElem?_cons_succ, List.set_cons_zero, List.set_cons_succ, List.length_cons, List.length_nil, y_bool0, y_bool1, not_true_eq_false, not_false_eq_true, false_implies, true_implies, true_or, or_true, false_or, or_false, if_true, if_false, ite_true, ite_false, bi_f]
          exact mk (by rw [q2]; simp)
        · rw [if_pos ⟨q, q2⟩] at hK
          simp only [w44_0, w44_0n, w44_1, w44_4, w44_7, w44_8, w44_11, w44_14, w44_15, w44_16, w44_17, w44_18, w44_21, w44_24, w44_26, w44_27, w44_28, w44_29, w44_32, w44_32n, w44_33, w44_36, w44_37, w44_40, w44_43, w44_45, w44_46, w44_46n, w44_47, w44_50, w44_53, w44_54, w44_57, w44_58, w44_58n, w44_59, w44_62, w44_65, w44_66, w44_67, w44_70, w44_71, xk_n, xk_i, xk_r, xk_z, xk_l, xcs_0, xcs_i, xcs_r, xcs_z, xcs_l, Nat.reduceAdd, Nat.reduceLeDiff, Nat.reduceLT, true_and, and_true, Option.toList_some, Option.toList_none, List.nil_append, List.cons_append, List.getElem?_cons_zero, List.getElem?_cons_succ, List.set_cons_zero, List.set_cons_succ, List.length_cons, List.length_nil, y_bool0, y_bool1, not_true_eq_false, not_false_eq_true, false_implies, true_implies, true_or, or_true, false_or, or_false, if_true, if_false, ite_true, ite_false, bi_t, z10]
          exact hK h ⟨hO, e, em, er, vs, rs, H0⟩ FR.rfl'
      · exact ⟨fun _ => mk (fun z => q z.1), fun z => absurd z q⟩
    · have e1 : opSet s (Int32.ofNat a) g = (-2, s) := by unfold opSet; rw [hnb]; dsimp only; rw [hnb2]
      rw [e1] at hK
      simp only [w44_0, w44_0n, w44_1, w44_4, w44_7, w44_8, w44_11, w44_14, w44_15, w44_16, w44_17, w44_18, w44_21, w44_24, w44_26, w44_27, w44_28, w44_29, w44_32, w44_32n, w44_33, w44_36, w44_37, w44_40, w44_43, w44_45, w44_46, w44_46n, w44_47, w44_50, w44_53, w44_54, w44_57, w44_58, w44_58n, w44_59, w44_62, w44_65, w44_66, w44_67, w44_70, w44_71, xk_n, xk_i, xk_r, xk_z, xk_l, xcs_0, xcs_i, xcs_r, xcs_z, xcs_l, Nat.reduceAdd, Nat.reduceLeDiff, Nat.reduceLT, true_and, and_true, Option.toList_some, Option.toList_none, List.nil_append, List.cons_append, List.getElem?_cons_zero, List.getElem?_cons_succ, List.set_cons_zero, List.set_cons_succ, List.length_cons, List.length_nil, y_bool0, y_bool1, not_true_eq_false, not_false_eq_true, false_implies, true_implies, true_or, or_true, false_or, or_false, if_true, if_false, ite_true, ite_false, y_get, H.1, B.bed, B.pl.cls, wp_hasCell B.pl, hc_t hn ha, bi_t, z10, wp_below_f (m := 4) hc2]
      exact hK h ⟨hO, e, em, er, vs, rs, H0⟩ FR.rfl'
  · have e1 : opSet s c g = (-1, s) := by unfold opSet; rw [hnb]
    rw [e1] at hK
    simp only [w44_0, w44_0n, w44_1, w44_4, w44_7, w44_8, w44_11, w44_14, w44_15, w44_16, w44_17, w44_18, w44_21, w44_24, w44_26, w44_27, w44_28, w44_29, w44_32, w44_32n, w44_33, w44_36, w44_37, w44_40, w44_43, w44_45, w44_46, w44_46n, w44_47, w44_50, w44_53, w44_54, w44_57, w44_58, w44_58n, w44_59, w44_62, w44_65, w44_66, w44_67, w44_70, w44_71, xk_n, xk_i, xk_r, xk_z, xk_l, xcs_0, xcs_i, xcs_r, xcs_z, xcs_l, Nat.reduceAdd, Nat.reduceLeDiff, Nat.reduceLT, true_and, and_true, Option.toList_some, Option.toList_none, List.nil_append, List.cons_append, List.getElem?_cons_zero, List.getElem?_cons_succ, List.set_cons_zero, List.set_cons_succ, List.length_cons, List.length_nil, y_bool0, y_bool1, not_true_eq_false, not_false_eq_true, false_implies, true_implies, true_or, or_true, false_or, or_false, if_true, if_false, ite_true, ite_false, y_get, H.1, B.bed, B.pl.cls, wp_hasCell B.pl, plc_f hc, bi_f]
    exact hK h ⟨hO, e, em, er, vs, rs, H0⟩ FR.rfl'
end
