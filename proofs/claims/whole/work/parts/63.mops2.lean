/-! ===== the model: set, vine, frost, reading, back, pull ===== -/
section
variable {d : Nat} {h : xH} {K : Option Value → xH → Prop} {E : Gd} {fr : Nat → Bool} {A : Nat → Nat → Int32} {fa tr p rH rW nr hi w : Int32}
theorem wp_mip {c : Nat} (H : MH h fa tr hi w (Int32.ofNat (gv E)) p rH rW nr A) (G : GA E fr A) (hv3 : gv E ≤ 3) (hp30 : ∀ v, v < gv E → gp E v < 30) (hc : c < 30) : ∀ (j k : Nat), k + j = gv E → (wp d 107 2 [some (.ref 25), some (.int (Int32.ofNat c)), some (.int (Int32.ofNat k))] [] h K ↔ K (some (.int (bi (plF E c j k)))) h)
  | 0, k, hk => by
    have e2 : Int32.ofNat (gv E) ≤ Int32.ofNat k := (n_le (by omega) (by omega)).mpr (by omega)
    rw [w107_2]
    simp only [w107_0, w107_1, w107_3, w107_3n, w107_4, w107_7, w107_10, w107_10n, w107_11, w107_14, w107_15, w107_16, w107_17, w107_20, w107_21, w107_22, w107_25, w107_28, w107_29, xk_n, xk_i, xk_r, xk_z, xk_l, xcs_0, xcs_i, xcs_r, xcs_z, xcs_l, Nat.reduceAdd, Nat.reduceLeDiff, Nat.reduceLT, true_and, and_true, Option.toList_some, Option.toList_none, List.nil_append, List.cons_append, List.getElem?_cons_zero, List.getElem?_cons_succ, List.set_cons_zero, List.set_cons_succ, List.length_cons, List.length_nil, y_bool0, y_bool1, not_true_eq_false, not_false_eq_true, false_implies, true_implies, true_or, or_true, false_or, or_false, if_true, if_false, ite_true, ite_false, y_get, H.o, e2, plF, bi_f]
  | j + 1, k, hk => by
    have hkv : k < gv E := by omega
    have hp := hp30 k hkv
    have e2 : (Int32.ofNat (gv E) ≤ Int32.ofNat k) = False := eq_false (by rw [n_le (by omega) (by omega)]; omega)
    have e3 : (Int32.ofNat (gp E k) = Int32.ofNat c) = (gp E k = c) := propext (n_eq (by omega) (by omega))
    have z8 : Int32.ofNat k + 1 = Int32.ofNat (k + 1) := n_addl k 1
    have ih := wp_mip H G hv3 hp30 hc j (k + 1) (by omega)
    rw [w107_2]
    simp only [w107_0, w107_1, w107_3, w107_3n, w107_4, w107_7, w107_10, w107_10n, w107_11, w107_14, w107_15, w107_16, w107_17, w107_20, w107_21, w107_22, w107_25, w107_28, w107_29, xk_n, xk_i, xk_r, xk_z, xk_l, xcs_0, xcs_i, xcs_r, xcs_z, xcs_l, Nat.reduceAdd, Nat.reduceLeDiff, Nat.reduceLT, true_and, and_true, Option.toList_some, Option.toList_none, List.nil_append, List.cons_append, List.getElem?_cons_zero, List.getElem?_cons_succ, List.set_cons_zero, List.set_cons_succ, List.length_cons, List.length_nil, y_bool0, y_bool1, not_true_eq_false, not_false_eq_true, false_implies, true_implies, true_or, or_true, false_or, or_false, if_true, if_false, ite_true, ite_false, y_get, H.o, e2, H.ld5 (show k < 3 by omega), (G.2.1 k hkv).2.1, e3, z8]
    by_cases z : gp E k = c
    · simp only [z, xk_n, xk_i, xk_r, xk_z, xk_l, xcs_0, xcs_i, xcs_r, xcs_z, xcs_l, Nat.reduceAdd, Nat.reduceLeDiff, Nat.reduceLT, true_and, and_true, Option.toList_some, Option.toList_none, List.nil_append, List.cons_append, List.getElem?_cons_zero, List.getElem?_cons_succ, List.set_cons_zero, List.set_cons_succ, List.length_cons, List.length_nil, y_bool0, y_bool1, not_true_eq_false, not_false_eq_true, false_implies, true_implies, true_or, or_true, false_or, or_false, if_true, if_false, ite_true, ite_false, plF, beq_self_eq_true, Bool.true_or, bi_t]
    · have z2 : (gp E k == c) = false := by simpa using z
      simp only [z, xk_n, xk_i, xk_r, xk_z, xk_l, xcs_0, xcs_i, xcs_r, xcs_z, xcs_l, Nat.reduceAdd, Nat.reduceLeDiff, Nat.reduceLT, true_and, and_true, Option.toList_some, Option.toList_none, List.nil_append, List.cons_append, List.getElem?_cons_zero, List.getElem?_cons_succ, List.set_cons_zero, List.set_cons_succ, List.length_cons, List.length_nil, y_bool0, y_bool1, not_true_eq_false, not_false_eq_true, false_implies, true_implies, true_or, or_true, false_or, or_false, if_true, if_false, ite_true, ite_false, plF, z2, Bool.false_or]
      exact ih
theorem wp_mpl {c : Nat} (H : MH h fa tr hi w (Int32.ofNat (gv E)) p rH rW nr A) (G : GA E fr A) (hv3 : gv E ≤ 3) (hp30 : ∀ v, v < gv E → gp E v < 30) (hc : c < 30) : wp d 107 0 [some (.ref 25), some (.int (Int32.ofNat c)), none] [] h K ↔ K (some (.int (bi (plF E c (gv E) 0)))) h := by
  have z : (0 : Int32) = Int32.ofNat 0 := rfl
  rw [← wp_mip (d := d) (K := K) H G hv3 hp30 hc (gv E) 0 (by omega)]
  simp only [w107_0, w107_1, w107_3, w107_3n, w107_4, w107_7, w107_10, w107_10n, w107_11, w107_14, w107_15, w107_16, w107_17, w107_20, w107_21, w107_22, w107_25, w107_28, w107_29, xk_n, xk_i, xk_r, xk_z, xk_l, xcs_0, xcs_i, xcs_r, xcs_z, xcs_l, Nat.reduceAdd, Nat.reduceLeDiff, Nat.reduceLT, true_and, and_true, Option.toList_some, Option.toList_none, List.nil_append, List.cons_append, List.getElem?_cons_zero, List.getElem?_cons_succ, List.set_cons_zero, List.set_cons_succ, List.length_cons, List.length_nil, y_bool0, y_bool1, not_true_eq_false, not_false_eq_true, false_implies, true_implies, true_or, or_true, false_or, or_false, if_true, if_false, ite_true, ite_false, z]
end
theorem okE.p30 {E : Gd} (hE : okE E) : ∀ v, v < gv E → gp E v < 30 := fun v hv => by have := (hE.2.2 v hv).2.1; have := hE.1.2.2.1; omega
section
variable {d : Nat} {h : xH} {K : Option Value → xH → Prop} {s : St}
theorem GA.s3 {E : Gd} {fr : Nat → Bool} {A : Nat → Nat → Int32} (G : GA E fr A) (a b : Nat) : GA (edS E (upN (gs E) a b)) fr (upA A 3 (upd (A 3) a (Int32.ofNat b))) := by
  refine ⟨fun c hc => ?_, G.2⟩
  show upd (A 3) a (Int32.ofNat b) c = Int32.ofNat (upN (gs E) a b c)
  by_cases q : c = a
  · rw [q, upd_at, upN_at]
  · rw [upd_ne _ _ q, upN_ne _ q]; exact G.1 c hc
theorem mop_set (hO : okS s) (H : RM h s) (c g : Int32) (hK : ∀ h', RM h' (opSet s c g).2 → FR MP 0 0 h h' → K (some (.int (opSet s c g).1)) h') : wp (d + 2) 108 0 [some (.ref 25), some (.int c), some (.int g), none] [] h K := by
  have HX := H
  obtain ⟨hi, p, rH, rW, A, hg, h5, H, G, S, R⟩ := H
  have hn := hO.n30
  have z10 : ((1 : Int32) = 0) = False := eq_false (by decide)
  rcases nb_cas c (m := gn (sE s)) (by omega) with ⟨a, ha, rfl, hnb⟩ | ⟨hc, hnb⟩
  · rcases nb_cas g (m := 4) (by omega) with ⟨b, hb, rfl, hnb2⟩ | ⟨hc2, hnb2⟩
    · have hE := hO.okn ha
      have e1 : opSet s (Int32.ofNat a) (Int32.ofNat b) = if b = 1 ∧ plF (sE s) a (gv (sE s)) 0 = true then ((-3 : Int32), s) else (Int32.ofNat (gs (sE s) a), stE s (edS (sE s) (upN (gs (sE s)) a b))) := by unfold opSet; rw [hnb]; dsimp only; rw [hnb2]
      rw [e1] at hK
      have t1 : (Int32.ofNat b = 1) = (b = 1) := propext (n_eql (m := 1) (by omega) (by omega))
      have mk : ¬ (b = 1 ∧ plF (sE s) a (gv (sE s)) 0 = true) → y_iast h 29 (Int32.ofNat a) (Int32.ofNat b) (fun h1 => K (some (.int (Int32.ofNat (gs (sE s) a)))) h1) := by
        intro q
        rw [if_neg q] at hK
        refine H.st3 (show a < 30 by omega) fun h1 H1 F1 => ?_
        exact hK h1 ⟨hi, p, rH, rW, _, hg, h5, H1, G.s3 a b, S, R⟩ F1
      simp only [w108_0, w108_0n, w108_1, w108_2, w108_5, w108_8, w108_9, w108_10, w108_11, w108_12, w108_13, w108_16, w108_19, w108_21, w108_22, w108_23, w108_24, w108_27, w108_27n, w108_28, w108_29, w108_32, w108_35, w108_37, w108_38, w108_38n, w108_39, w108_42, w108_43, w108_44, w108_45, w108_45n, w108_46, w108_49, w108_50, w108_51, w108_52, w108_53, xk_n, xk_i, xk_r, xk_z, xk_l, xcs_0, xcs_i, xcs_r, xcs_z, xcs_l, Nat.reduceAdd, Nat.reduceLeDiff, Nat.reduceLT, true_and, and_true, Option.toList_some, Option.toList_none, List.nil_append, List.cons_append, List.getElem?_cons_zero, List.getElem?_cons_succ, List.set_cons_zero, List.set_cons_succ, List.length_cons, List.length_nil, y_bool0, y_bool1, not_true_eq_false, not_false_eq_true, false_implies, true_implies, true_or, or_true, false_or, or_false, if_true, if_false, ite_true, ite_false, y_get, H.o, H.cls, wp_mce_t H hg hn ha, z10, wp_wi_t (m := 3) (by omega) hb, t1, wp_mpl H G hO.v3 hE.p30 (show a < 30 by omega), H.ld3 (show a < 30 by omega), G.1 a ha]
      by_cases q : b = 1
      · refine ⟨fun z => absurd q z, fun _ => ?_⟩
        cases q2 : plF (sE s) a (gv (sE s)) 0
        · simp only [bi_f, xk_n, xk_i, xk_r, xk_z, xk_l, xcs_0, xcs_i, xcs_r, xcs_z, xcs_l, Nat.reduceAdd, Nat.reduceLeDiff, Nat.reduceLT, true_and, and_true, Option.toList_some, Option.toList_none, List.nil_append, List.cons_append, List.getElem?_cons_zero, List.getElem?_cons_succ, List.set_cons_zero, List.set_cons_succ, List.length_cons, List.length_nil, y_bool0, y_bool1, not_true_eq_false, not_false_eq_true, false_implies, true_implies, true_or, or_true, false_or, or_false, if_true, if_false, ite_true, ite_false]
          exact mk (by rw [q2]; simp)
        · rw [if_pos ⟨q, q2⟩] at hK
          simp only [xk_n, xk_i, xk_r, xk_z, xk_l, xcs_0, xcs_i, xcs_r, xcs_z, xcs_l, Nat.reduceAdd, Nat.reduceLeDiff, Nat.reduceLT, true_and, and_true, Option.toList_some, Option.toList_none, List.nil_append, List.cons_append, List.getElem?_cons_zero, List.getElem?_cons_succ, List.set_cons_zero, List.set_cons_succ, List.length_cons, List.length_nil, y_bool0, y_bool1, not_true_eq_false, not_false_eq_true, false_implies, true_implies, true_or, or_true, false_or, or_false, if_true, if_false, ite_true, ite_false, bi_t, z10]
          exact hK h HX FR.rfl'
      · exact ⟨fun _ => mk (fun z => q z.1), fun z => absurd z q⟩
    · have e1 : opSet s (Int32.ofNat a) g = (-2, s) := by unfold opSet; rw [hnb]; dsimp only; rw [hnb2]
      rw [e1] at hK
      simp only [w108_0, w108_0n, w108_1, w108_2, w108_5, w108_8, w108_9, w108_10, w108_11, w108_12, w108_13, w108_16, w108_19, w108_21, w108_22, w108_23, w108_24, w108_27, w108_27n, w108_28, w108_29, w108_32, w108_35, w108_37, w108_38, w108_38n, w108_39, w108_42, w108_43, w108_44, w108_45, w108_45n, w108_46, w108_49, w108_50, w108_51, w108_52, w108_53, xk_n, xk_i, xk_r, xk_z, xk_l, xcs_0, xcs_i, xcs_r, xcs_z, xcs_l, Nat.reduceAdd, Nat.reduceLeDiff, Nat.reduceLT, true_and, and_true, Option.toList_some, Option.toList_none, List.nil_append, List.cons_append, List.getElem?_cons_zero, List.getElem?_cons_succ, List.set_cons_zero, List.set_cons_succ, List.length_cons, List.length_nil, y_bool0, y_bool1, not_true_eq_false, not_false_eq_true, false_implies, true_implies, true_or, or_true, false_or, or_false, if_true, if_false, ite_true, ite_false, H.cls, wp_mce_t H hg hn ha, z10, wp_wi_f (m := 3) (by omega) hc2]
      exact hK h HX FR.rfl'
  · have e1 : opSet s c g = (-1, s) := by unfold opSet; rw [hnb]
    rw [e1] at hK
    simp only [w108_0, w108_0n, w108_1, w108_2, w108_5, w108_8, w108_9, w108_10, w108_11, w108_12, w108_13, w108_16, w108_19, w108_21, w108_22, w108_23, w108_24, w108_27, w108_27n, w108_28, w108_29, w108_32, w108_35, w108_37, w108_38, w108_38n, w108_39, w108_42, w108_43, w108_44, w108_45, w108_45n, w108_46, w108_49, w108_50, w108_51, w108_52, w108_53, xk_n, xk_i, xk_r, xk_z, xk_l, xcs_0, xcs_i, xcs_r, xcs_z, xcs_l, Nat.reduceAdd, Nat.reduceLeDiff, Nat.reduceLT, true_and, and_true, Option.toList_some, Option.toList_none, List.nil_append, List.cons_append, List.getElem?_cons_zero, List.getElem?_cons_succ, List.set_cons_zero, List.set_cons_succ, List.length_cons, List.length_nil, y_bool0, y_bool1, not_true_eq_false, not_false_eq_true, false_implies, true_implies, true_or, or_true, false_or, or_false, if_true, if_false, ite_true, ite_false, H.cls, wp_mce_f H hg hc]
    exact hK h HX FR.rfl'
theorem mop_frost (hO : okS s) (H : RM h s) (day : Int32) (b : Bool) (hK : ∀ h', RM h' (opFrost s day b).2 → FR MP 0 0 h h' → K (some (.int (opFrost s day b).1)) h') : wp (d + 2) 112 0 [some (.ref 25), some (.int day), some (.int (bi b)), none] [] h K := by
  have HX := H
  obtain ⟨hi, p, rH, rW, A, hg, h5, H, G, S, R⟩ := H
  have hn := hO.n30
  have z10 : ((1 : Int32) = 0) = False := eq_false (by decide)
  rcases nb_cas day (m := 80) (by omega) with ⟨a, ha, rfl, hnb⟩ | ⟨hc, hnb⟩
  · have e1 : opFrost s (Int32.ofNat a) b = if gn (sE s) = 0 then ((-3 : Int32), s) else (bi (sFr s a != b), stR s (upB (sFr s) a b)) := by unfold opFrost; rw [hnb]
    rw [e1] at hK
    have t0 : (Int32.ofNat (gn (sE s)) = 0) = (gn (sE s) = 0) := propext (n_eql (m := 0) (by omega) (by omega))
    have t1 : (bi (sFr s a) = bi b) = (sFr s a = b) := propext bi_inj
    simp only [w112_0, w112_1, w112_4, w112_7, w112_8, w112_9, w112_9n, w112_10, w112_13, w112_16, w112_18, w112_19, w112_19n, w112_20, w112_23, w112_24, w112_25, w112_27, w112_30, w112_31, w112_32, w112_33, w112_34, w112_35, w112_38, w112_39, w112_42, w112_43, xk_n, xk_i, xk_r, xk_z, xk_l, xcs_0, xcs_i, xcs_r, xcs_z, xcs_l, Nat.reduceAdd, Nat.reduceLeDiff, Nat.reduceLT, true_and, and_true, Option.toList_some, Option.toList_none, List.nil_append, List.cons_append, List.getElem?_cons_zero, List.getElem?_cons_succ, List.set_cons_zero, List.set_cons_succ, List.length_cons, List.length_nil, y_bool0, y_bool1, not_true_eq_false, not_false_eq_true, false_implies, true_implies, true_or, or_true, false_or, or_false, if_true, if_false, ite_true, ite_false, y_get, H.o, H.cls, wp_mdy_t ha, z10, wp_mall H hg, t0, H.ld7 ha, G.2.2 a ha]
    by_cases q : gn (sE s) = 0
    · rw [if_pos q] at hK
      exact ⟨fun z => absurd q z, fun _ => hK h HX FR.rfl'⟩
    · rw [if_neg q] at hK
      refine ⟨fun _ => ?_, fun z => absurd z q⟩
      simp only [w112_0, w112_1, w112_4, w112_7, w112_8, w112_9, w112_9n, w112_10, w112_13, w112_16, w112_18, w112_19, w112_19n, w112_20, w112_23, w112_24, w112_25, w112_26, w112_26n, w112_27, w112_30, w112_31, w112_32, w112_33, w112_34, w112_35, w112_38, w112_39, w112_42, w112_43, xk_n, xk_i, xk_r, xk_z, xk_l, xcs_0, xcs_i, xcs_r, xcs_z, xcs_l, Nat.reduceAdd, Nat.reduceLeDiff, Nat.reduceLT, true_and, and_true, Option.toList_some, Option.toList_none, List.nil_append, List.cons_append, List.getElem?_cons_zero, List.getElem?_cons_succ, List.set_cons_zero, List.set_cons_succ, List.length_cons, List.length_nil, y_bool0, y_bool1, not_true_eq_false, not_false_eq_true, false_implies, true_implies, true_or, or_true, false_or, or_false, if_true, if_false, ite_true, ite_false, y_get, H.o, t1]
      refine H.st7 ha fun h1 H1 F1 => ?_
      have fin := hK h1 ⟨hi, p, rH, rW, _, hg, h5, H1, ⟨G.1, G.2.1, fun x hx => ?_⟩, S, R⟩ F1
      · by_cases q2 : sFr s a = b
        · rw [show (sFr s a != b) = false by simp [q2]] at fin
          exact ⟨fun z => absurd q2 z, fun _ => fin⟩
        · rw [show (sFr s a != b) = true by simp [q2]] at fin
          exact ⟨fun _ => fin, fun z => absurd z q2⟩
      · show upd (A 7) a (bi b) x = bi (upB (sFr s) a b x)
        by_cases z : x = a
        · rw [z, upd_at]
          exact congrArg bi (if_pos rfl).symm
        · rw [upd_ne _ _ z, G.2.2 x hx]
          exact congrArg bi (if_neg z).symm
  · have e1 : opFrost s day b = (-1, s) := by unfold opFrost; rw [hnb]
    rw [e1] at hK
    simp only [w112_0, w112_1, w112_4, w112_7, w112_8, w112_9, w112_9n, w112_10, w112_13, w112_16, w112_18, w112_19, w112_19n, w112_20, w112_23, w112_24, w112_25, w112_26, w112_26n, w112_27, w112_30, w112_31, w112_32, w112_33, w112_34, w112_35, w112_38, w112_39, w112_42, w112_43, xk_n, xk_i, xk_r, xk_z, xk_l, xcs_0, xcs_i, xcs_r, xcs_z, xcs_l, Nat.reduceAdd, Nat.reduceLeDiff, Nat.reduceLT, true_and, and_true, Option.toList_some, Option.toList_none, List.nil_append, List.cons_append, List.getElem?_cons_zero, List.getElem?_cons_succ, List.set_cons_zero, List.set_cons_succ, List.length_cons, List.length_nil, y_bool0, y_bool1, not_true_eq_false, not_false_eq_true, false_implies, true_implies, true_or, or_true, false_or, or_false, if_true, if_false, ite_true, ite_false, wp_mdy_f hc]
    exact hK h HX FR.rfl'
theorem mop_vine (hO : okS s) (H : RM h s) (k c hd : Int32) (hK : ∀ h', RM h' (opVine s k c hd).2 → FR MP 0 0 h h' → K (some (.int (opVine s k c hd).1)) h') : wp (d + 2) 109 0 [some (.ref 25), some (.int k), some (.int c), some (.int hd)] [] h K := by
  have HX := H
  obtain ⟨hi, p, rH, rW, A, hg, h5, H, G, S, R⟩ := H
  have hn := hO.n30
  have hv3 := hO.v3
  have z10 : ((1 : Int32) = 0) = False := eq_false (by decide)
  rcases nb_cas c (m := gn (sE s)) (by omega) with ⟨a, ha, rfl, hnb⟩ | ⟨hc, hnb⟩
  · rcases nb_cas k (m := 3) (by omega) with ⟨b, hb, rfl, hnb2⟩ | ⟨hc2, hnb2⟩
    · rcases nb_cas hd (m := 4) (by omega) with ⟨f, hf, rfl, hnb3⟩ | ⟨hc3, hnb3⟩
      · have hE := hO.okn ha
        have e1 : opVine s (Int32.ofNat b) (Int32.ofNat a) (Int32.ofNat f) = if gs (sE s) a = 1 ∨ plF (sE s) a (gv (sE s)) 0 = true then ((-3 : Int32), s) else if gv (sE s) < 3 then (Int32.ofNat (gv (sE s)), stE s (addV (sE s) b a f)) else (-4, s) := by unfold opVine; rw [hnb]; dsimp only; rw [hnb2]; dsimp only; rw [hnb3]
        rw [e1] at hK
        have hs4 := hO.2.2.2 a ha
        have t1 : (Int32.ofNat (gs (sE s) a) = 1) = (gs (sE s) a = 1) := propext (n_eql (m := 1) (by omega) (by omega))
        have t2 : (Int32.ofNat (gv (sE s)) = 3) = (gv (sE s) = 3) := propext (n_eql (m := 3) (by omega) (by omega))
        simp only [w109_0, w109_0n, w109_1, w109_2, w109_5, w109_8, w109_9, w109_10, w109_11, w109_12, w109_13, w109_16, w109_19, w109_20, w109_21, w109_22, w109_25, w109_28, w109_30, w109_31, w109_31n, w109_32, w109_35, w109_36, w109_37, w109_38, w109_41, w109_41n, w109_42, w109_43, w109_46, w109_49, w109_51, w109_52, w109_52n, w109_53, w109_56, w109_57, w109_60, w109_62, w109_64, w109_67, w109_67n, w109_68, w109_71, w109_72, w109_73, w109_73n, w109_74, w109_77, w109_77n, w109_78, w109_81, w109_82, w109_83, w109_83n, w109_84, w109_87, w109_87n, w109_88, w109_91, w109_92, w109_93, w109_93n, w109_94, w109_94r, w109_95, w109_98, w109_99, w109_100, w109_103, w109_103n, w109_104, w109_107, w109_108, w109_109, xk_n, xk_i, xk_r, xk_z, xk_l, xcs_0, xcs_i, xcs_r, xcs_z, xcs_l, Nat.reduceAdd, Nat.reduceLeDiff, Nat.reduceLT, true_and, and_true, Option.toList_some, Option.toList_none, List.nil_append, List.cons_append, List.getElem?_cons_zero, List.getElem?_cons_succ, List.set_cons_zero, List.set_cons_succ, List.length_cons, List.length_nil, y_bool0, y_bool1, not_true_eq_false, not_false_eq_true, false_implies, true_implies, true_or, or_true, false_or, or_false, if_true, if_false, ite_true, ite_false, y_get, H.o, H.cls, wp_mce_t H hg hn ha, z10, wp_wi_t (m := 2) (by omega) hb, wp_wi_t (m := 3) (by omega) hf, t1, t2, wp_mpl H G hO.v3 hE.p30 (show a < 30 by omega), H.ld3 (show a < 30 by omega), G.1 a ha]
        by_cases q : gs (sE s) a = 1
        · rw [if_pos (Or.inl q)] at hK
          exact ⟨fun _ => hK h HX FR.rfl', fun z => absurd q z⟩
        · refine ⟨fun z => absurd z q, fun _ => ?_⟩
          cases q2 : plF (sE s) a (gv (sE s)) 0
          · rw [if_neg (by rw [q2]; simp [q])] at hK
            simp only [bi_f, xk_n, xk_i, xk_r, xk_z, xk_l, xcs_0, xcs_i, xcs_r, xcs_z, xcs_l, Nat.reduceAdd, Nat.reduceLeDiff, Nat.reduceLT, true_and, and_true, Option.toList_some, Option.toList_none, List.nil_append, List.cons_append, List.getElem?_cons_zero, List.getElem?_cons_succ, List.set_cons_zero, List.set_cons_succ, List.length_cons, List.length_nil, y_bool0, y_bool1, not_true_eq_false, not_false_eq_true, false_implies, true_implies, true_or, or_true, false_or, or_false, if_true, if_false, ite_true, ite_false]
            by_cases q3 : gv (sE s) = 3
            · rw [if_neg (by omega)] at hK
              exact ⟨fun z => absurd q3 z, fun _ => hK h HX FR.rfl'⟩
            · rw [if_pos (by omega)] at hK
              refine ⟨fun _ => ?_, fun z => absurd z q3⟩
              have hlt : gv (sE s) < 3 := by omega
              have z1 : Int32.ofNat (gv (sE s)) + 1 = Int32.ofNat (gv (sE s) + 1) := n_addl _ 1
              have z2 : Int32.ofNat (gv (sE s) + 1) - 1 = Int32.ofNat (gv (sE s)) := n_subl (m := 1) (by omega)
              simp only [w109_0, w109_0n, w109_1, w109_2, w109_5, w109_8, w109_9, w109_10, w109_11, w109_12, w109_13, w109_16, w109_19, w109_20, w109_21, w109_22, w109_25, w109_28, w109_30, w109_31, w109_31n, w109_32, w109_35, w109_36, w109_37, w109_38, w109_41, w109_41n, w109_42, w109_43, w109_46, w109_49, w109_51, w109_52, w109_52n, w109_53, w109_56, w109_57, w109_60, w109_62, w109_63, w109_63n, w109_64, w109_67, w109_67n, w109_68, w109_71, w109_72, w109_73, w109_73n, w109_74, w109_77, w109_77n, w109_78, w109_81, w109_82, w109_83, w109_83n, w109_84, w109_87, w109_87n, w109_88, w109_91, w109_92, w109_93, w109_93n, w109_94, w109_94r, w109_95, w109_98, w109_99, w109_100, w109_103, w109_103n, w109_104, w109_107, w109_108, w109_109, xk_n, xk_i, xk_r, xk_z, xk_l, xcs_0, xcs_i, xcs_r, xcs_z, xcs_l, Nat.reduceAdd, Nat.reduceLeDiff, Nat.reduceLT, true_and, and_true, Option.toList_some, Option.toList_none, List.nil_append, List.cons_append, List.getElem?_cons_zero, List.getElem?_cons_succ, List.set_cons_zero, List.set_cons_succ, List.length_cons, List.length_nil, y_bool0, y_bool1, not_true_eq_false, not_false_eq_true, false_implies, true_implies, true_or, or_true, false_or, or_false, if_true, if_false, ite_true, ite_false, y_get, H.o]
              refine H.st4 hlt fun h1 H1 F1 => ?_
              simp only [w109_0, w109_0n, w109_1, w109_2, w109_5, w109_8, w109_9, w109_10, w109_11, w109_12, w109_13, w109_16, w109_19, w109_20, w109_21, w109_22, w109_25, w109_28, w109_30, w109_31, w109_31n, w109_32, w109_35, w109_36, w109_37, w109_38, w109_41, w109_41n, w109_42, w109_43, w109_46, w109_49, w109_51, w109_52, w109_52n, w109_53, w109_56, w109_57, w109_60, w109_62, w109_63, w109_63n, w109_64, w109_67, w109_67n, w109_68, w109_71, w109_72, w109_73, w109_73n, w109_74, w109_77, w109_77n, w109_78, w109_81, w109_82, w109_83, w109_83n, w109_84, w109_87, w109_87n, w109_88, w109_91, w109_92, w109_93, w109_93n, w109_94, w109_94r, w109_95, w109_98, w109_99, w109_100, w109_103, w109_103n, w109_104, w109_107, w109_108, w109_109, xk_n, xk_i, xk_r, xk_z, xk_l, xcs_0, xcs_i, xcs_r, xcs_z, xcs_l, Nat.reduceAdd, Nat.reduceLeDiff, Nat.reduceLT, true_and, and_true, Option.toList_some, Option.toList_none, List.nil_append, List.cons_append, List.getElem?_cons_zero, List.getElem?_cons_succ, List.set_cons_zero, List.set_cons_succ, List.length_cons, List.length_nil, y_bool0, y_bool1, not_true_eq_false, not_false_eq_true, false_implies, true_implies, true_or, or_true, false_or, or_false, if_true, if_false, ite_true, ite_false, y_get, H1.o]
              refine H1.st5 hlt fun h2 H2 F2 => ?_
              simp only [w109_0, w109_0n, w109_1, w109_2, w109_5, w109_8, w109_9, w109_10, w109_11, w109_12, w109_13, w109_16, w109_19, w109_20, w109_21, w109_22, w109_25, w109_28, w109_30, w109_31, w109_31n, w109_32, w109_35, w109_36, w109_37, w109_38, w109_41, w109_41n, w109_42, w109_43, w109_46, w109_49, w109_51, w109_52, w109_52n, w109_53, w109_56, w109_57, w109_60, w109_62, w109_63, w109_63n, w109_64, w109_67, w109_67n, w109_68, w109_71, w109_72, w109_73, w109_73n, w109_74, w109_77, w109_77n, w109_78, w109_81, w109_82, w109_83, w109_83n, w109_84, w109_87, w109_87n, w109_88, w109_91, w109_92, w109_93, w109_93n, w109_94, w109_94r, w109_95, w109_98, w109_99, w109_100, w109_103, w109_103n, w109_104, w109_107, w109_108, w109_109, xk_n, xk_i, xk_r, xk_z, xk_l, xcs_0, xcs_i, xcs_r, xcs_z, xcs_l, Nat.reduceAdd, Nat.reduceLeDiff, Nat.reduceLT, true_and, and_true, Option.toList_some, Option.toList_none, List.nil_append, List.cons_append, List.getElem?_cons_zero, List.getElem?_cons_succ, List.set_cons_zero, List.set_cons_succ, List.length_cons, List.length_nil, y_bool0, y_bool1, not_true_eq_false, not_false_eq_true, false_implies, true_implies, true_or, or_true, false_or, or_false, if_true, if_false, ite_true, ite_false, y_get, H2.o]
              refine H2.st6 hlt fun h3 H3 F3 => ?_
              simp only [w109_0, w109_0n, w109_1, w109_2, w109_5, w109_8, w109_9, w109_10, w109_11, w109_12, w109_13, w109_16, w109_19, w109_20, w109_21, w109_22, w109_25, w109_28, w109_30, w109_31, w109_31n, w109_32, w109_35, w109_36, w109_37, w109_38, w109_41, w109_41n, w109_42, w109_43, w109_46, w109_49, w109_51, w109_52, w109_52n, w109_53, w109_56, w109_57, w109_60, w109_62, w109_63, w109_63n, w109_64, w109_67, w109_67n, w109_68, w109_71, w109_72, w109_73, w109_73n, w109_74, w109_77, w109_77n, w109_78, w109_81, w109_82, w109_83, w109_83n, w109_84, w109_87, w109_87n, w109_88, w109_91, w109_92, w109_93, w109_93n, w109_94, w109_94r, w109_95, w109_98, w109_99, w109_100, w109_103, w109_103n, w109_104, w109_107, w109_108, w109_109, xk_n, xk_i, xk_r, xk_z, xk_l, xcs_0, xcs_i, xcs_r, xcs_z, xcs_l, Nat.reduceAdd, Nat.reduceLeDiff, Nat.reduceLT, true_and, and_true, Option.toList_some, Option.toList_none, List.nil_append, List.cons_append, List.getElem?_cons_zero, List.getElem?_cons_succ, List.set_cons_zero, List.set_cons_succ, List.length_cons, List.length_nil, y_bool0, y_bool1, not_true_eq_false, not_false_eq_true, false_implies, true_implies, true_or, or_true, false_or, or_false, if_true, if_false, ite_true, ite_false, y_get, H3.o, z1]
              refine H3.p_nv fun h4 H4 F4 => ?_
              simp only [w109_0, w109_0n, w109_1, w109_2, w109_5, w109_8, w109_9, w109_10, w109_11, w109_12, w109_13, w109_16, w109_19, w109_20, w109_21, w109_22, w109_25, w109_28, w109_30, w109_31, w109_31n, w109_32, w109_35, w109_36, w109_37, w109_38, w109_41, w109_41n, w109_42, w109_43, w109_46, w109_49, w109_51, w109_52, w109_52n, w109_53, w109_56, w109_57, w109_60, w109_62, w109_63, w109_63n, w109_64, w109_67, w109_67n, w109_68, w109_71, w109_72, w109_73, w109_73n, w109_74, w109_77, w109_77n, w109_78, w109_81, w109_82, w109_83, w109_83n, w109_84, w109_87, w109_87n, w109_88, w109_91, w109_92, w109_93, w109_93n, w109_94, w109_94r, w109_95, w109_98, w109_99, w109_100, w109_103, w109_103n, w109_104, w109_107, w109_108, w109_109, xk_n, xk_i, xk_r, xk_z, xk_l, xcs_0, xcs_i, xcs_r, xcs_z, xcs_l, Nat.reduceAdd, Nat.reduceLeDiff, Nat.reduceLT, true_and, and_true, Option.toList_some, Option.toList_none, List.nil_append, List.cons_append, List.getElem?_cons_zero, List.getElem?_cons_succ, List.set_cons_zero, List.set_cons_succ, List.length_cons, List.length_nil, y_bool0, y_bool1, not_true_eq_false, not_false_eq_true, false_implies, true_implies, true_or, or_true, false_or, or_false, if_true, if_false, ite_true, ite_false, y_get, H4.o, z2]
              refine hK h4 ⟨hi, p, rH, rW, _, hg, h5, H4, ⟨G.1, fun v hv => ?_, G.2.2⟩, S, R⟩ (((F1.tr F2).tr F3).tr F4)
              replace hv : v < gv (sE s) + 1 := hv
              show upd (A 4) (gv (sE s)) (Int32.ofNat b) v = Int32.ofNat (upN (gk (sE s)) (gv (sE s)) b v) ∧ upd (A 5) (gv (sE s)) (Int32.ofNat a) v = Int32.ofNat (upN (gp (sE s)) (gv (sE s)) a v) ∧ upd (A 6) (gv (sE s)) (Int32.ofNat f) v = Int32.ofNat (upN (gh (sE s)) (gv (sE s)) f v)
              by_cases z : v = gv (sE s)
              · rw [z, upd_at, upd_at, upd_at, upN_at, upN_at, upN_at]; exact ⟨rfl, rfl, rfl⟩
              · rw [upd_ne _ _ z, upd_ne _ _ z, upd_ne _ _ z, upN_ne _ z, upN_ne _ z, upN_ne _ z]; exact G.2.1 v (by omega)
          · rw [if_pos (Or.inr q2)] at hK
            simp only [xk_n, xk_i, xk_r, xk_z, xk_l, xcs_0, xcs_i, xcs_r, xcs_z, xcs_l, Nat.reduceAdd, Nat.reduceLeDiff, Nat.reduceLT, true_and, and_true, Option.toList_some, Option.toList_none, List.nil_append, List.cons_append, List.getElem?_cons_zero, List.getElem?_cons_succ, List.set_cons_zero, List.set_cons_succ, List.length_cons, List.length_nil, y_bool0, y_bool1, not_true_eq_false, not_false_eq_true, false_implies, true_implies, true_or, or_true, false_or, or_false, if_true, if_false, ite_true, ite_false, bi_t, z10]
            exact hK h HX FR.rfl'
      · have e1 : opVine s (Int32.ofNat b) (Int32.ofNat a) hd = (-2, s) := by unfold opVine; rw [hnb]; dsimp only; rw [hnb2]; dsimp only; rw [hnb3]
        rw [e1] at hK
        simp only [w109_0, w109_0n, w109_1, w109_2, w109_5, w109_8, w109_9, w109_10, w109_11, w109_12, w109_13, w109_16, w109_19, w109_20, w109_21, w109_22, w109_25, w109_28, w109_30, w109_31, w109_31n, w109_32, w109_35, w109_36, w109_37, w109_38, w109_41, w109_41n, w109_42, w109_43, w109_46, w109_49, w109_51, w109_52, w109_52n, w109_53, w109_56, w109_57, w109_60, w109_62, w109_63, w109_63n, w109_64, w109_67, w109_67n, w109_68, w109_71, w109_72, w109_73, w109_73n, w109_74, w109_77, w109_77n, w109_78, w109_81, w109_82, w109_83, w109_83n, w109_84, w109_87, w109_87n, w109_88, w109_91, w109_92, w109_93, w109_93n, w109_94, w109_94r, w109_95, w109_98, w109_99, w109_100, w109_103, w109_103n, w109_104, w109_107, w109_108, w109_109, xk_n, xk_i, xk_r, xk_z, xk_l, xcs_0, xcs_i, xcs_r, xcs_z, xcs_l, Nat.reduceAdd, Nat.reduceLeDiff, Nat.reduceLT, true_and, and_true, Option.toList_some, Option.toList_none, List.nil_append, List.cons_append, List.getElem?_cons_zero, List.getElem?_cons_succ, List.set_cons_zero, List.set_cons_succ, List.length_cons, List.length_nil, y_bool0, y_bool1, not_true_eq_false, not_false_eq_true, false_implies, true_implies, true_or, or_true, false_or, or_false, if_true, if_false, ite_true, ite_false, H.cls, wp_mce_t H hg hn ha, z10, wp_wi_t (m := 2) (by omega) hb, wp_wi_f (m := 3) (by omega) hc3]
        exact hK h HX FR.rfl'
    · have e1 : opVine s k (Int32.ofNat a) hd = (-2, s) := by unfold opVine; rw [hnb]; dsimp only; rw [hnb2]
      rw [e1] at hK
      simp only [w109_0, w109_0n, w109_1, w109_2, w109_5, w109_8, w109_9, w109_10, w109_11, w109_12, w109_13, w109_16, w109_19, w109_20, w109_21, w109_22, w109_25, w109_28, w109_30, w109_31, w109_31n, w109_32, w109_35, w109_36, w109_37, w109_38, w109_41, w109_41n, w109_42, w109_43, w109_46, w109_49, w109_51, w109_52, w109_52n, w109_53, w109_56, w109_57, w109_60, w109_62, w109_63, w109_63n, w109_64, w109_67, w109_67n, w109_68, w109_71, w109_72, w109_73, w109_73n, w109_74, w109_77, w109_77n, w109_78, w109_81, w109_82, w109_83, w109_83n, w109_84, w109_87, w109_87n, w109_88, w109_91, w109_92, w109_93, w109_93n, w109_94, w109_94r, w109_95, w109_98, w109_99, w109_100, w109_103, w109_103n, w109_104, w109_107, w109_108, w109_109, xk_n, xk_i, xk_r, xk_z, xk_l, xcs_0, xcs_i, xcs_r, xcs_z, xcs_l, Nat.reduceAdd, Nat.reduceLeDiff, Nat.reduceLT, true_and, and_true, Option.toList_some, Option.toList_none, List.nil_append, List.cons_append, List.getElem?_cons_zero, List.getElem?_cons_succ, List.set_cons_zero, List.set_cons_succ, List.length_cons, List.length_nil, y_bool0, y_bool1, not_true_eq_false, not_false_eq_true, false_implies, true_implies, true_or, or_true, false_or, or_false, if_true, if_false, ite_true, ite_false, H.cls, wp_mce_t H hg hn ha, z10, wp_wi_f (m := 2) (by omega) hc2]
      exact hK h HX FR.rfl'
  · have e1 : opVine s k c hd = (-1, s) := by unfold opVine; rw [hnb]
    rw [e1] at hK
    simp only [w109_0, w109_0n, w109_1, w109_2, w109_5, w109_8, w109_9, w109_10, w109_11, w109_12, w109_13, w109_16, w109_19, w109_20, w109_21, w109_22, w109_25, w109_28, w109_30, w109_31, w109_31n, w109_32, w109_35, w109_36, w109_37, w109_38, w109_41, w109_41n, w109_42, w109_43, w109_46, w109_49, w109_51, w109_52, w109_52n, w109_53, w109_56, w109_57, w109_60, w109_62, w109_63, w109_63n, w109_64, w109_67, w109_67n, w109_68, w109_71, w109_72, w109_73, w109_73n, w109_74, w109_77, w109_77n, w109_78, w109_81, w109_82, w109_83, w109_83n, w109_84, w109_87, w109_87n, w109_88, w109_91, w109_92, w109_93, w109_93n, w109_94, w109_94r, w109_95, w109_98, w109_99, w109_100, w109_103, w109_103n, w109_104, w109_107, w109_108, w109_109, xk_n, xk_i, xk_r, xk_z, xk_l, xcs_0, xcs_i, xcs_r, xcs_z, xcs_l, Nat.reduceAdd, Nat.reduceLeDiff, Nat.reduceLT, true_and, and_true, Option.toList_some, Option.toList_none, List.nil_append, List.cons_append, List.getElem?_cons_zero, List.getElem?_cons_succ, List.set_cons_zero, List.set_cons_succ, List.length_cons, List.length_nil, y_bool0, y_bool1, not_true_eq_false, not_false_eq_true, false_implies, true_implies, true_or, or_true, false_or, or_false, if_true, if_false, ite_true, ite_false, H.cls, wp_mce_f H hg hc]
    exact hK h HX FR.rfl'
theorem mop_reading (hO : okS s) (H : RM h s) (v day c : Int32) (hK : ∀ h', RM h' (opReading s v day c).2 → FR MP 0 0 h h' → K (some (.int (opReading s v day c).1)) h') : wp (d + 2) 136 0 [some (.ref 25), some (.int v), some (.int day), some (.int c)] [] h K := by
  have HX := H
  obtain ⟨hi, p, rH, rW, A, hg, h5, H, G, S, R⟩ := H
  have hn := hO.n30
  have hv3 := hO.v3
  have hr8 := hO.2.1
  have z10 : ((1 : Int32) = 0) = False := eq_false (by decide)
  rcases nb_cas v (m := gv (sE s)) (by omega) with ⟨a, ha, rfl, hnb⟩ | ⟨hc, hnb⟩
  · rcases nb_cas day (m := 80) (by omega) with ⟨b, hb, rfl, hnb2⟩ | ⟨hc2, hnb2⟩
    · rcases nb_cas c (m := gn (sE s)) (by omega) with ⟨f, hf, rfl, hnb3⟩ | ⟨hc3, hnb3⟩
      · have e1 : opReading s (Int32.ofNat a) (Int32.ofNat b) (Int32.ofNat f) = if sRn s < 8 then (Int32.ofNat (sRn s), stD s (sRn s + 1) (upR (sRd s) (sRn s) (a, b, f))) else (-4, s) := by unfold opReading; rw [hnb]; dsimp only; rw [hnb2]; dsimp only; rw [hnb3]
        rw [e1] at hK
        have t2 : (Int32.ofNat (sRn s) = 8) = (sRn s = 8) := propext (n_eql (m := 8) (by omega) (by omega))
        simp only [w136_0, w136_0n, w136_1, w136_2, w136_5, w136_8, w136_9, w136_12, w136_15, w136_15n, w136_16, w136_17, w136_20, w136_23, w136_24, w136_25, w136_25n, w136_26, w136_29, w136_31, w136_34, w136_36, w136_38, w136_41, w136_41n, w136_42, w136_45, w136_46, w136_47, w136_47n, w136_48, w136_51, w136_51n, w136_52, w136_55, w136_56, w136_57, w136_57n, w136_58, w136_61, w136_61n, w136_62, w136_65, w136_66, w136_67, w136_67n, w136_68, w136_68r, w136_69, w136_72, w136_73, w136_74, w136_77, w136_77n, w136_78, w136_81, w136_82, w136_83, xk_n, xk_i, xk_r, xk_z, xk_l, xcs_0, xcs_i, xcs_r, xcs_z, xcs_l, Nat.reduceAdd, Nat.reduceLeDiff, Nat.reduceLT, true_and, and_true, Option.toList_some, Option.toList_none, List.nil_append, List.cons_append, List.getElem?_cons_zero, List.getElem?_cons_succ, List.set_cons_zero, List.set_cons_succ, List.length_cons, List.length_nil, y_bool0, y_bool1, not_true_eq_false, not_false_eq_true, false_implies, true_implies, true_or, or_true, false_or, or_false, if_true, if_false, ite_true, ite_false, y_get, H.o, H.cls, wp_mvi_t H hv3 ha, wp_mdy_t hb, wp_mce_t H hg hn hf, z10, t2]
        by_cases q3 : sRn s = 8
        · rw [if_neg (by omega)] at hK
          exact ⟨fun z => absurd q3 z, fun _ => hK h HX FR.rfl'⟩
        · rw [if_pos (by omega)] at hK
          refine ⟨fun _ => ?_, fun z => absurd z q3⟩
          have hlt : sRn s < 8 := by omega
          have z1 : Int32.ofNat (sRn s) + 1 = Int32.ofNat (sRn s + 1) := n_addl _ 1
          have z2 : Int32.ofNat (sRn s + 1) - 1 = Int32.ofNat (sRn s) := n_subl (m := 1) (by omega)
          simp only [w136_0, w136_0n, w136_1, w136_2, w136_5, w136_8, w136_9, w136_12, w136_15, w136_15n, w136_16, w136_17, w136_20, w136_23, w136_24, w136_25, w136_25n, w136_26, w136_29, w136_31, w136_34, w136_36, w136_37, w136_37n, w136_38, w136_41, w136_41n, w136_42, w136_45, w136_46, w136_47, w136_47n, w136_48, w136_51, w136_51n, w136_52, w136_55, w136_56, w136_57, w136_57n, w136_58, w136_61, w136_61n, w136_62, w136_65, w136_66, w136_67, w136_67n, w136_68, w136_68r, w136_69, w136_72, w136_73, w136_74, w136_77, w136_77n, w136_78, w136_81, w136_82, w136_83, xk_n, xk_i, xk_r, xk_z, xk_l, xcs_0, xcs_i, xcs_r, xcs_z, xcs_l, Nat.reduceAdd, Nat.reduceLeDiff, Nat.reduceLT, true_and, and_true, Option.toList_some, Option.toList_none, List.nil_append, List.cons_append, List.getElem?_cons_zero, List.getElem?_cons_succ, List.set_cons_zero, List.set_cons_succ, List.length_cons, List.length_nil, y_bool0, y_bool1, not_true_eq_false, not_false_eq_true, false_implies, true_implies, true_or, or_true, false_or, or_false, if_true, if_false, ite_true, ite_false, y_get, H.o]
          refine H.st20 hlt fun h1 H1 F1 => ?_
          simp only [w136_0, w136_0n, w136_1, w136_2, w136_5, w136_8, w136_9, w136_12, w136_15, w136_15n, w136_16, w136_17, w136_20, w136_23, w136_24, w136_25, w136_25n, w136_26, w136_29, w136_31, w136_34, w136_36, w136_37, w136_37n, w136_38, w136_41, w136_41n, w136_42, w136_45, w136_46, w136_47, w136_47n, w136_48, w136_51, w136_51n, w136_52, w136_55, w136_56, w136_57, w136_57n, w136_58, w136_61, w136_61n, w136_62, w136_65, w136_66, w136_67, w136_67n, w136_68, w136_68r, w136_69, w136_72, w136_73, w136_74, w136_77, w136_77n, w136_78, w136_81, w136_82, w136_83, xk_n, xk_i, xk_r, xk_z, xk_l, xcs_0, xcs_i, xcs_r, xcs_z, xcs_l, Nat.reduceAdd, Nat.reduceLeDiff, Nat.reduceLT, true_and, and_true, Option.toList_some, Option.toList_none, List.nil_append, List.cons_append, List.getElem?_cons_zero, List.getElem?_cons_succ, List.set_cons_zero, List.set_cons_succ, List.length_cons, List.length_nil, y_bool0, y_bool1, not_true_eq_false, not_false_eq_true, false_implies, true_implies, true_or, or_true, false_or, or_false, if_true, if_false, ite_true, ite_false, y_get, H1.o]
          refine H1.st21 hlt fun h2 H2 F2 => ?_
          simp only [w136_0, w136_0n, w136_1, w136_2, w136_5, w136_8, w136_9, w136_12, w136_15, w136_15n, w136_16, w136_17, w136_20, w136_23, w136_24, w136_25, w136_25n, w136_26, w136_29, w136_31, w136_34, w136_36, w136_37, w136_37n, w136_38, w136_41, w136_41n, w136_42, w136_45, w136_46, w136_47, w136_47n, w136_48, w136_51, w136_51n, w136_52, w136_55, w136_56, w136_57, w136_57n, w136_58, w136_61, w136_61n, w136_62, w136_65, w136_66, w136_67, w136_67n, w136_68, w136_68r, w136_69, w136_72, w136_73, w136_74, w136_77, w136_77n, w136_78, w136_81, w136_82, w136_83, xk_n, xk_i, xk_r, xk_z, xk_l, xcs_0, xcs_i, xcs_r, xcs_z, xcs_l, Nat.reduceAdd, Nat.reduceLeDiff, Nat.reduceLT, true_and, and_true, Option.toList_some, Option.toList_none, List.nil_append, List.cons_append, List.getElem?_cons_zero, List.getElem?_cons_succ, List.set_cons_zero, List.set_cons_succ, List.length_cons, List.length_nil, y_bool0, y_bool1, not_true_eq_false, not_false_eq_true, false_implies, true_implies, true_or, or_true, false_or, or_false, if_true, if_false, ite_true, ite_false, y_get, H2.o]
          refine H2.st22 hlt fun h3 H3 F3 => ?_
          simp only [w136_0, w136_0n, w136_1, w136_2, w136_5, w136_8, w136_9, w136_12, w136_15, w136_15n, w136_16, w136_17, w136_20, w136_23, w136_24, w136_25, w136_25n, w136_26, w136_29, w136_31, w136_34, w136_36, w136_37, w136_37n, w136_38, w136_41, w136_41n, w136_42, w136_45, w136_46, w136_47, w136_47n, w136_48, w136_51, w136_51n, w136_52, w136_55, w136_56, w136_57, w136_57n, w136_58, w136_61, w136_61n, w136_62, w136_65, w136_66, w136_67, w136_67n, w136_68, w136_68r, w136_69, w136_72, w136_73, w136_74, w136_77, w136_77n, w136_78, w136_81, w136_82, w136_83, xk_n, xk_i, xk_r, xk_z, xk_l, xcs_0, xcs_i, xcs_r, xcs_z, xcs_l, Nat.reduceAdd, Nat.reduceLeDiff, Nat.reduceLT, true_and, and_true, Option.toList_some, Option.toList_none, List.nil_append, List.cons_append, List.getElem?_cons_zero, List.getElem?_cons_succ, List.set_cons_zero, List.set_cons_succ, List.length_cons, List.length_nil, y_bool0, y_bool1, not_true_eq_false, not_false_eq_true, false_implies, true_implies, true_or, or_true, false_or, or_false, if_true, if_false, ite_true, ite_false, y_get, H3.o, z1]
          refine H3.p_nr fun h4 H4 F4 => ?_
          simp only [w136_0, w136_0n, w136_1, w136_2, w136_5, w136_8, w136_9, w136_12, w136_15, w136_15n, w136_16, w136_17, w136_20, w136_23, w136_24, w136_25, w136_25n, w136_26, w136_29, w136_31, w136_34, w136_36, w136_37, w136_37n, w136_38, w136_41, w136_41n, w136_42, w136_45, w136_46, w136_47, w136_47n, w136_48, w136_51, w136_51n, w136_52, w136_55, w136_56, w136_57, w136_57n, w136_58, w136_61, w136_61n, w136_62, w136_65, w136_66, w136_67, w136_67n, w136_68, w136_68r, w136_69, w136_72, w136_73, w136_74, w136_77, w136_77n, w136_78, w136_81, w136_82, w136_83, xk_n, xk_i, xk_r, xk_z, xk_l, xcs_0, xcs_i, xcs_r, xcs_z, xcs_l, Nat.reduceAdd, Nat.reduceLeDiff, Nat.reduceLT, true_and, and_true, Option.toList_some, Option.toList_none, List.nil_append, List.cons_append, List.getElem?_cons_zero, List.getElem?_cons_succ, List.set_cons_zero, List.set_cons_succ, List.length_cons, List.length_nil, y_bool0, y_bool1, not_true_eq_false, not_false_eq_true, false_implies, true_implies, true_or, or_true, false_or, or_false, if_true, if_false, ite_true, ite_false, y_get, H4.o, z2]
          refine hK h4 ⟨hi, p, rH, rW, _, hg, h5, H4, G, S, fun r hr => ?_⟩ (((F1.tr F2).tr F3).tr F4)
          replace hr : r < sRn s + 1 := hr
          show upd (A 20) (sRn s) (Int32.ofNat a) r = Int32.ofNat (upR (sRd s) (sRn s) (a, b, f) r).1 ∧ upd (A 21) (sRn s) (Int32.ofNat b) r = Int32.ofNat (upR (sRd s) (sRn s) (a, b, f) r).2.1 ∧ upd (A 22) (sRn s) (Int32.ofNat f) r = Int32.ofNat (upR (sRd s) (sRn s) (a, b, f) r).2.2
          by_cases z : r = sRn s
          · rw [z, upd_at, upd_at, upd_at, show upR (sRd s) (sRn s) (a, b, f) (sRn s) = (a, b, f) from if_pos rfl]; exact ⟨rfl, rfl, rfl⟩
          · rw [upd_ne _ _ z, upd_ne _ _ z, upd_ne _ _ z, show upR (sRd s) (sRn s) (a, b, f) r = sRd s r from if_neg z]; exact R r (by omega)
      · have e1 : opReading s (Int32.ofNat a) (Int32.ofNat b) c = (-1, s) := by unfold opReading; rw [hnb]; dsimp only; rw [hnb2]; dsimp only; rw [hnb3]
        rw [e1] at hK
        simp only [w136_0, w136_0n, w136_1, w136_2, w136_5, w136_8, w136_9, w136_12, w136_15, w136_15n, w136_16, w136_17, w136_20, w136_23, w136_24, w136_25, w136_25n, w136_26, w136_29, w136_31, w136_34, w136_36, w136_37, w136_37n, w136_38, w136_41, w136_41n, w136_42, w136_45, w136_46, w136_47, w136_47n, w136_48, w136_51, w136_51n, w136_52, w136_55, w136_56, w136_57, w136_57n, w136_58, w136_61, w136_61n, w136_62, w136_65, w136_66, w136_67, w136_67n, w136_68, w136_68r, w136_69, w136_72, w136_73, w136_74, w136_77, w136_77n, w136_78, w136_81, w136_82, w136_83, xk_n, xk_i, xk_r, xk_z, xk_l, xcs_0, xcs_i, xcs_r, xcs_z, xcs_l, Nat.reduceAdd, Nat.reduceLeDiff, Nat.reduceLT, true_and, and_true, Option.toList_some, Option.toList_none, List.nil_append, List.cons_append, List.getElem?_cons_zero, List.getElem?_cons_succ, List.set_cons_zero, List.set_cons_succ, List.length_cons, List.length_nil, y_bool0, y_bool1, not_true_eq_false, not_false_eq_true, false_implies, true_implies, true_or, or_true, false_or, or_false, if_true, if_false, ite_true, ite_false, H.cls, wp_mvi_t H hv3 ha, wp_mdy_t hb, wp_mce_f H hg hc3, z10]
        exact hK h HX FR.rfl'
    · have e1 : opReading s (Int32.ofNat a) day c = (-1, s) := by unfold opReading; rw [hnb]; dsimp only; rw [hnb2]
      rw [e1] at hK
      simp only [w136_0, w136_0n, w136_1, w136_2, w136_5, w136_8, w136_9, w136_12, w136_15, w136_15n, w136_16, w136_17, w136_20, w136_23, w136_24, w136_25, w136_25n, w136_26, w136_29, w136_31, w136_34, w136_36, w136_37, w136_37n, w136_38, w136_41, w136_41n, w136_42, w136_45, w136_46, w136_47, w136_47n, w136_48, w136_51, w136_51n, w136_52, w136_55, w136_56, w136_57, w136_57n, w136_58, w136_61, w136_61n, w136_62, w136_65, w136_66, w136_67, w136_67n, w136_68, w136_68r, w136_69, w136_72, w136_73, w136_74, w136_77, w136_77n, w136_78, w136_81, w136_82, w136_83, xk_n, xk_i, xk_r, xk_z, xk_l, xcs_0, xcs_i, xcs_r, xcs_z, xcs_l, Nat.reduceAdd, Nat.reduceLeDiff, Nat.reduceLT, true_and, and_true, Option.toList_some, Option.toList_none, List.nil_append, List.cons_append, List.getElem?_cons_zero, List.getElem?_cons_succ, List.set_cons_zero, List.set_cons_succ, List.length_cons, List.length_nil, y_bool0, y_bool1, not_true_eq_false, not_false_eq_true, false_implies, true_implies, true_or, or_true, false_or, or_false, if_true, if_false, ite_true, ite_false, H.cls, wp_mvi_t H hv3 ha, wp_mdy_f hc2, z10]
      exact hK h HX FR.rfl'
  · have e1 : opReading s v day c = (-1, s) := by unfold opReading; rw [hnb]
    rw [e1] at hK
    simp only [w136_0, w136_0n, w136_1, w136_2, w136_5, w136_8, w136_9, w136_12, w136_15, w136_15n, w136_16, w136_17, w136_20, w136_23, w136_24, w136_25, w136_25n, w136_26, w136_29, w136_31, w136_34, w136_36, w136_37, w136_37n, w136_38, w136_41, w136_41n, w136_42, w136_45, w136_46, w136_47, w136_47n, w136_48, w136_51, w136_51n, w136_52, w136_55, w136_56, w136_57, w136_57n, w136_58, w136_61, w136_61n, w136_62, w136_65, w136_66, w136_67, w136_67n, w136_68, w136_68r, w136_69, w136_72, w136_73, w136_74, w136_77, w136_77n, w136_78, w136_81, w136_82, w136_83, xk_n, xk_i, xk_r, xk_z, xk_l, xcs_0, xcs_i, xcs_r, xcs_z, xcs_l, Nat.reduceAdd, Nat.reduceLeDiff, Nat.reduceLT, true_and, and_true, Option.toList_some, Option.toList_none, List.nil_append, List.cons_append, List.getElem?_cons_zero, List.getElem?_cons_succ, List.set_cons_zero, List.set_cons_succ, List.length_cons, List.length_nil, y_bool0, y_bool1, not_true_eq_false, not_false_eq_true, false_implies, true_implies, true_or, or_true, false_or, or_false, if_true, if_false, ite_true, ite_false, H.cls, wp_mvi_f H hc]
    exact hK h HX FR.rfl'
theorem mop_back (hO : okS s) (H : RM h s) (k : Int32) (hK : ∀ h', RM h' (opBack s k).2 → FR MP 0 0 h h' → K (some (.int (opBack s k).1)) h') : wp (d + 2) 137 0 [some (.ref 25), some (.int k)] [] h K := by
  have HX := H
  obtain ⟨hi, p, rH, rW, A, hg, h5, H, G, S, R⟩ := H
  have hr8 := hO.2.1
  have z10 : ((1 : Int32) = 0) = False := eq_false (by decide)
  rcases nb_cas k (m := sRn s + 1) (by omega) with ⟨a, ha, rfl, hnb⟩ | ⟨hc, hnb⟩
  · have e1 : opBack s (Int32.ofNat a) = (Int32.ofNat (sRn s - a), stD s (sRn s - a) (sRd s)) := by unfold opBack; rw [hnb]
    rw [e1] at hK
    have z1 : Int32.ofNat (sRn s) - Int32.ofNat a = Int32.ofNat (sRn s - a) := n_sub (by omega)
    simp only [w137_0, w137_1, w137_2, w137_2n, w137_3, w137_6, w137_9, w137_12, w137_14, w137_15, w137_15n, w137_16, w137_16r, w137_17, w137_20, w137_21, w137_22, w137_25, w137_25n, w137_26, w137_29, xk_n, xk_i, xk_r, xk_z, xk_l, xcs_0, xcs_i, xcs_r, xcs_z, xcs_l, Nat.reduceAdd, Nat.reduceLeDiff, Nat.reduceLT, true_and, and_true, Option.toList_some, Option.toList_none, List.nil_append, List.cons_append, List.getElem?_cons_zero, List.getElem?_cons_succ, List.set_cons_zero, List.set_cons_succ, List.length_cons, List.length_nil, y_bool0, y_bool1, not_true_eq_false, not_false_eq_true, false_implies, true_implies, true_or, or_true, false_or, or_false, if_true, if_false, ite_true, ite_false, y_get, H.o, wp_wn_t (m := sRn s) (by omega) ha, z10, z1]
    refine H.p_nr fun h1 H1 F1 => ?_
    simp only [w137_0, w137_1, w137_2, w137_2n, w137_3, w137_6, w137_9, w137_12, w137_14, w137_15, w137_15n, w137_16, w137_16r, w137_17, w137_20, w137_21, w137_22, w137_25, w137_25n, w137_26, w137_29, xk_n, xk_i, xk_r, xk_z, xk_l, xcs_0, xcs_i, xcs_r, xcs_z, xcs_l, Nat.reduceAdd, Nat.reduceLeDiff, Nat.reduceLT, true_and, and_true, Option.toList_some, Option.toList_none, List.nil_append, List.cons_append, List.getElem?_cons_zero, List.getElem?_cons_succ, List.set_cons_zero, List.set_cons_succ, List.length_cons, List.length_nil, y_bool0, y_bool1, not_true_eq_false, not_false_eq_true, false_implies, true_implies, true_or, or_true, false_or, or_false, if_true, if_false, ite_true, ite_false, y_get, H1.o]
    exact hK h1 ⟨hi, p, rH, rW, _, hg, h5, H1, G, S, fun r hr => R r (Nat.lt_of_lt_of_le hr (Nat.sub_le _ _))⟩ F1
  · have e1 : opBack s k = (-2, s) := by unfold opBack; rw [hnb]
    rw [e1] at hK
    simp only [w137_0, w137_1, w137_2, w137_2n, w137_3, w137_6, w137_9, w137_12, w137_14, w137_15, w137_15n, w137_16, w137_16r, w137_17, w137_20, w137_21, w137_22, w137_25, w137_25n, w137_26, w137_29, xk_n, xk_i, xk_r, xk_z, xk_l, xcs_0, xcs_i, xcs_r, xcs_z, xcs_l, Nat.reduceAdd, Nat.reduceLeDiff, Nat.reduceLT, true_and, and_true, Option.toList_some, Option.toList_none, List.nil_append, List.cons_append, List.getElem?_cons_zero, List.getElem?_cons_succ, List.set_cons_zero, List.set_cons_succ, List.length_cons, List.length_nil, y_bool0, y_bool1, not_true_eq_false, not_false_eq_true, false_implies, true_implies, true_or, or_true, false_or, or_false, if_true, if_false, ite_true, ite_false, y_get, H.o, wp_wn_f (m := sRn s) (by omega) hc]
    exact hK h HX FR.rfl'
end
theorem flK_s (p : Nat → Bool) : ∀ j k, flK p k (j + 1) = flK p k j ++ (if p (k + j) then [k + j] else [])
  | 0, k => by
    show (if p k then k :: flK p (k + 1) 0 else flK p (k + 1) 0) = [] ++ (if p k then [k] else [])
    by_cases q : p k = true
    · rw [if_pos q, if_pos q]; rfl
    · rw [if_neg q, if_neg q]; rfl
  | j + 1, k => by
    have ih := flK_s p j (k + 1)
    have e : k + 1 + j = k + (j + 1) := by omega
    rw [e] at ih
    show (if p k then k :: flK p (k + 1) (j + 1) else flK p (k + 1) (j + 1)) = (if p k then k :: flK p (k + 1) j else flK p (k + 1) j) ++ _
    rw [ih]
    by_cases q : p k = true
    · rw [if_pos q, if_pos q]; rfl
    · rw [if_neg q, if_neg q]
section
variable {d : Nat} {K : Option Value → xH → Prop}
theorem wp_mpu {fa tr hi w p rH rW : Int32} {n l : Nat} {A0 : Nat → Nat → Int32} {rd : Nat → Nat × Nat × Nat} {l1 : Option Value} (hn : n ≤ 8) (hl : l < 10) (hv : ∀ r, r < n → (rd r).1 < 10) : ∀ (j q : Nat) (h : xH) (A : Nat → Nat → Int32), q + j = n → MH h fa tr hi w (Int32.ofNat l) p rH rW (Int32.ofNat n) A → (∀ i, i < 20 → A i = A0 i) → RA (flK (fun r => decide ((rd r).1 < l)) 0 q).length (fun r => rd ((flK (fun r => decide ((rd r).1 < l)) 0 q).getD r 0)) A → (∀ r, q ≤ r → r < n → A 20 r = Int32.ofNat (rd r).1 ∧ A 21 r = Int32.ofNat (rd r).2.1 ∧ A 22 r = Int32.ofNat (rd r).2.2) → (∀ h' A', MH h' fa tr hi w (Int32.ofNat l) p rH rW (Int32.ofNat (flK (fun r => decide ((rd r).1 < l)) 0 n).length) A' → (∀ i, i < 20 → A' i = A0 i) → RA (flK (fun r => decide ((rd r).1 < l)) 0 n).length (fun r => rd ((flK (fun r => decide ((rd r).1 < l)) 0 n).getD r 0)) A' → FR MP 0 0 h h' → K (some (.int (Int32.ofNat l))) h') → wp d 111 29 [some (.ref 25), l1, some (.int (Int32.ofNat (flK (fun r => decide ((rd r).1 < l)) 0 q).length)), some (.int (Int32.ofNat q))] [] h K
  | 0, q, h, A, hj, H, HA, HR, HS, hK => by
    have hq : q = n := by omega
    subst hq
    have e : Int32.ofNat q ≤ Int32.ofNat q := (n_le (by omega) (by omega)).mpr (by omega)
    rw [w111_29]
    simp only [w111_0, w111_1, w111_2, w111_2n, w111_3, w111_6, w111_9, w111_12, w111_14, w111_15, w111_15n, w111_16, w111_16r, w111_17, w111_20, w111_21, w111_22, w111_25, w111_26, w111_27, w111_28, w111_30, w111_30n, w111_31, w111_34, w111_37, w111_37n, w111_38, w111_41, w111_42, w111_43, w111_43n, w111_44, w111_47, w111_50, w111_50n, w111_51, w111_54, w111_55, w111_55n, w111_56, w111_59, w111_60, w111_61, w111_62, w111_62n, w111_63, w111_66, w111_67, w111_67n, w111_68, w111_71, w111_72, w111_73, w111_74, w111_74n, w111_75, w111_78, w111_79, w111_79n, w111_80, w111_83, w111_84, w111_85, w111_86, w111_89, w111_92, w111_95, w111_95n, w111_96, w111_97, w111_100, w111_100n, w111_101, w111_104, xk_n, xk_i, xk_r, xk_z, xk_l, xcs_0, xcs_i, xcs_r, xcs_z, xcs_l, Nat.reduceAdd, Nat.reduceLeDiff, Nat.reduceLT, true_and, and_true, Option.toList_some, Option.toList_none, List.nil_append, List.cons_append, List.getElem?_cons_zero, List.getElem?_cons_succ, List.set_cons_zero, List.set_cons_succ, List.length_cons, List.length_nil, y_bool0, y_bool1, not_true_eq_false, not_false_eq_true, false_implies, true_implies, true_or, or_true, false_or, or_false, if_true, if_false, ite_true, ite_false, y_get, H.o, e]
    refine H.p_nr fun h1 H1 F1 => ?_
    simp only [w111_0, w111_1, w111_2, w111_2n, w111_3, w111_6, w111_9, w111_12, w111_14, w111_15, w111_15n, w111_16, w111_16r, w111_17, w111_20, w111_21, w111_22, w111_25, w111_26, w111_27, w111_28, w111_30, w111_30n, w111_31, w111_34, w111_37, w111_37n, w111_38, w111_41, w111_42, w111_43, w111_43n, w111_44, w111_47, w111_50, w111_50n, w111_51, w111_54, w111_55, w111_55n, w111_56, w111_59, w111_60, w111_61, w111_62, w111_62n, w111_63, w111_66, w111_67, w111_67n, w111_68, w111_71, w111_72, w111_73, w111_74, w111_74n, w111_75, w111_78, w111_79, w111_79n, w111_80, w111_83, w111_84, w111_85, w111_86, w111_89, w111_92, w111_95, w111_95n, w111_96, w111_97, w111_100, w111_100n, w111_101, w111_104, xk_n, xk_i, xk_r, xk_z, xk_l, xcs_0, xcs_i, xcs_r, xcs_z, xcs_l, Nat.reduceAdd, Nat.reduceLeDiff, Nat.reduceLT, true_and, and_true, Option.toList_some, Option.toList_none, List.nil_append, List.cons_append, List.getElem?_cons_zero, List.getElem?_cons_succ, List.set_cons_zero, List.set_cons_succ, List.length_cons, List.length_nil, y_bool0, y_bool1, not_true_eq_false, not_false_eq_true, false_implies, true_implies, true_or, or_true, false_or, or_false, if_true, if_false, ite_true, ite_false, y_get, H1.o]
    exact hK h1 A H1 HA HR F1
  | j + 1, q, h, A, hj, H, HA, HR, HS, hK => by
    have e : (Int32.ofNat n ≤ Int32.ofNat q) = False := eq_false (by rw [n_le (by omega) (by omega)]; omega)
    have hqn : q < n := by omega
    have z8 : Int32.ofNat q + 1 = Int32.ofNat (q + 1) := n_addl q 1
    obtain ⟨s1, s2, s3⟩ := HS q (Nat.le_refl _) hqn
    have hvq := hv q hqn
    have z3 : (Int32.ofNat l ≤ Int32.ofNat (rd q).1) = (l ≤ (rd q).1) := propext (n_le (by omega) (by omega))
    have hlen := flK_len (p := fun r => decide ((rd r).1 < l)) (j := q) (k := 0)
    have hs := flK_s (fun r => decide ((rd r).1 < l)) q 0
    rw [Nat.zero_add] at hs
    have z9 : Int32.ofNat (flK (fun r => decide ((rd r).1 < l)) 0 q).length + 1 = Int32.ofNat ((flK (fun r => decide ((rd r).1 < l)) 0 q).length + 1) := n_addl _ 1
    rw [w111_29]
    simp only [w111_0, w111_1, w111_2, w111_2n, w111_3, w111_6, w111_9, w111_12, w111_14, w111_15, w111_15n, w111_16, w111_16r, w111_17, w111_20, w111_21, w111_22, w111_25, w111_26, w111_27, w111_28, w111_30, w111_30n, w111_31, w111_34, w111_37, w111_37n, w111_38, w111_41, w111_42, w111_43, w111_43n, w111_44, w111_47, w111_51, w111_54, w111_55, w111_55n, w111_56, w111_59, w111_60, w111_61, w111_62, w111_62n, w111_63, w111_66, w111_67, w111_67n, w111_68, w111_71, w111_72, w111_73, w111_74, w111_74n, w111_75, w111_78, w111_79, w111_79n, w111_80, w111_83, w111_84, w111_85, w111_86, w111_89, w111_92, w111_95, w111_95n, w111_96, w111_97, w111_100, w111_100n, w111_101, w111_104, xk_n, xk_i, xk_r, xk_z, xk_l, xcs_0, xcs_i, xcs_r, xcs_z, xcs_l, Nat.reduceAdd, Nat.reduceLeDiff, Nat.reduceLT, true_and, and_true, Option.toList_some, Option.toList_none, List.nil_append, List.cons_append, List.getElem?_cons_zero, List.getElem?_cons_succ, List.set_cons_zero, List.set_cons_succ, List.length_cons, List.length_nil, y_bool0, y_bool1, not_true_eq_false, not_false_eq_true, false_implies, true_implies, true_or, or_true, false_or, or_false, if_true, if_false, ite_true, ite_false, y_get, H.o, e, H.ld20 (show q < 8 by omega), s1, z3, z8]
    by_cases c : (rd q).1 < l
    · refine ⟨fun z => by omega, fun _ => ?_⟩
      rw [if_pos (decide_eq_true c)] at hs
      simp only [w111_0, w111_1, w111_2, w111_2n, w111_3, w111_6, w111_9, w111_12, w111_14, w111_15, w111_15n, w111_16, w111_16r, w111_17, w111_20, w111_21, w111_22, w111_25, w111_26, w111_27, w111_28, w111_30, w111_30n, w111_31, w111_34, w111_37, w111_37n, w111_38, w111_41, w111_42, w111_43, w111_43n, w111_44, w111_47, w111_50, w111_50n, w111_51, w111_54, w111_55, w111_55n, w111_56, w111_59, w111_60, w111_61, w111_62, w111_62n, w111_63, w111_66, w111_67, w111_67n, w111_68, w111_71, w111_72, w111_73, w111_74, w111_74n, w111_75, w111_78, w111_79, w111_79n, w111_80, w111_83, w111_84, w111_85, w111_86, w111_89, w111_92, w111_95, w111_95n, w111_96, w111_97, w111_100, w111_100n, w111_101, w111_104, xk_n, xk_i, xk_r, xk_z, xk_l, xcs_0, xcs_i, xcs_r, xcs_z, xcs_l, Nat.reduceAdd, Nat.reduceLeDiff, Nat.reduceLT, true_and, and_true, Option.toList_some, Option.toList_none, List.nil_append, List.cons_append, List.getElem?_cons_zero, List.getElem?_cons_succ, List.set_cons_zero, List.set_cons_succ, List.length_cons, List.length_nil, y_bool0, y_bool1, not_true_eq_false, not_false_eq_true, false_implies, true_implies, true_or, or_true, false_or, or_false, if_true, if_false, ite_true, ite_false, y_get, H.o, H.ld20 (show q < 8 by omega), s1]
      refine H.st20 (show (flK (fun r => decide ((rd r).1 < l)) 0 q).length < 8 by omega) fun h1 H1 F1 => ?_
      have s2' : upA A 20 (upd (A 20) (flK (fun r => decide ((rd r).1 < l)) 0 q).length (Int32.ofNat (rd q).1)) 21 q = Int32.ofNat (rd q).2.1 := s2
      simp only [w111_0, w111_1, w111_2, w111_2n, w111_3, w111_6, w111_9, w111_12, w111_14, w111_15, w111_15n, w111_16, w111_16r, w111_17, w111_20, w111_21, w111_22, w111_25, w111_26, w111_27, w111_28, w111_30, w111_30n, w111_31, w111_34, w111_37, w111_37n, w111_38, w111_41, w111_42, w111_43, w111_43n, w111_44, w111_47, w111_50, w111_50n, w111_51, w111_54, w111_55, w111_55n, w111_56, w111_59, w111_60, w111_61, w111_62, w111_62n, w111_63, w111_66, w111_67, w111_67n, w111_68, w111_71, w111_72, w111_73, w111_74, w111_74n, w111_75, w111_78, w111_79, w111_79n, w111_80, w111_83, w111_84, w111_85, w111_86, w111_89, w111_92, w111_95, w111_95n, w111_96, w111_97, w111_100, w111_100n, w111_101, w111_104, xk_n, xk_i, xk_r, xk_z, xk_l, xcs_0, xcs_i, xcs_r, xcs_z, xcs_l, Nat.reduceAdd, Nat.reduceLeDiff, Nat.reduceLT, true_and, and_true, Option.toList_some, Option.toList_none, List.nil_append, List.cons_append, List.getElem?_cons_zero, List.getElem?_cons_succ, List.set_cons_zero, List.set_cons_succ, List.length_cons, List.length_nil, y_bool0, y_bool1, not_true_eq_false, not_false_eq_true, false_implies, true_implies, true_or, or_true, false_or, or_false, if_true, if_false, ite_true, ite_false, y_get, H1.o, H1.ld21 (show q < 8 by omega), s2']
      refine H1.st21 (show (flK (fun r => decide ((rd r).1 < l)) 0 q).length < 8 by omega) fun h2 H2 F2 => ?_
      have s3' : upA (upA A 20 (upd (A 20) (flK (fun r => decide ((rd r).1 < l)) 0 q).length (Int32.ofNat (rd q).1))) 21 (upd (upA A 20 (upd (A 20) (flK (fun r => decide ((rd r).1 < l)) 0 q).length (Int32.ofNat (rd q).1)) 21) (flK (fun r => decide ((rd r).1 < l)) 0 q).length (Int32.ofNat (rd q).2.1)) 22 q = Int32.ofNat (rd q).2.2 := s3
      simp only [w111_0, w111_1, w111_2, w111_2n, w111_3, w111_6, w111_9, w111_12, w111_14, w111_15, w111_15n, w111_16, w111_16r, w111_17, w111_20, w111_21, w111_22, w111_25, w111_26, w111_27, w111_28, w111_30, w111_30n, w111_31, w111_34, w111_37, w111_37n, w111_38, w111_41, w111_42, w111_43, w111_43n, w111_44, w111_47, w111_50, w111_50n, w111_51, w111_54, w111_55, w111_55n, w111_56, w111_59, w111_60, w111_61, w111_62, w111_62n, w111_63, w111_66, w111_67, w111_67n, w111_68, w111_71, w111_72, w111_73, w111_74, w111_74n, w111_75, w111_78, w111_79, w111_79n, w111_80, w111_83, w111_84, w111_85, w111_86, w111_89, w111_92, w111_95, w111_95n, w111_96, w111_97, w111_100, w111_100n, w111_101, w111_104, xk_n, xk_i, xk_r, xk_z, xk_l, xcs_0, xcs_i, xcs_r, xcs_z, xcs_l, Nat.reduceAdd, Nat.reduceLeDiff, Nat.reduceLT, true_and, and_true, Option.toList_some, Option.toList_none, List.nil_append, List.cons_append, List.getElem?_cons_zero, List.getElem?_cons_succ, List.set_cons_zero, List.set_cons_succ, List.length_cons, List.length_nil, y_bool0, y_bool1, not_true_eq_false, not_false_eq_true, false_implies, true_implies, true_or, or_true, false_or, or_false, if_true, if_false, ite_true, ite_false, y_get, H2.o, H2.ld22 (show q < 8 by omega), s3']
      refine H2.st22 (show (flK (fun r => decide ((rd r).1 < l)) 0 q).length < 8 by omega) fun h3 H3 F3 => ?_
      simp only [w111_0, w111_1, w111_2, w111_2n, w111_3, w111_6, w111_9, w111_12, w111_14, w111_15, w111_15n, w111_16, w111_16r, w111_17, w111_20, w111_21, w111_22, w111_25, w111_26, w111_27, w111_28, w111_30, w111_30n, w111_31, w111_34, w111_37, w111_37n, w111_38, w111_41, w111_42, w111_43, w111_43n, w111_44, w111_47, w111_50, w111_50n, w111_51, w111_54, w111_55, w111_55n, w111_56, w111_59, w111_60, w111_61, w111_62, w111_62n, w111_63, w111_66, w111_67, w111_67n, w111_68, w111_71, w111_72, w111_73, w111_74, w111_74n, w111_75, w111_78, w111_79, w111_79n, w111_80, w111_83, w111_84, w111_85, w111_86, w111_89, w111_92, w111_95, w111_95n, w111_96, w111_97, w111_100, w111_100n, w111_101, w111_104, xk_n, xk_i, xk_r, xk_z, xk_l, xcs_0, xcs_i, xcs_r, xcs_z, xcs_l, Nat.reduceAdd, Nat.reduceLeDiff, Nat.reduceLT, true_and, and_true, Option.toList_some, Option.toList_none, List.nil_append, List.cons_append, List.getElem?_cons_zero, List.getElem?_cons_succ, List.set_cons_zero, List.set_cons_succ, List.length_cons, List.length_nil, y_bool0, y_bool1, not_true_eq_false, not_false_eq_true, false_implies, true_implies, true_or, or_true, false_or, or_false, if_true, if_false, ite_true, ite_false, z8, z9]
      have elen : (flK (fun r => decide ((rd r).1 < l)) 0 (q + 1)).length = (flK (fun r => decide ((rd r).1 < l)) 0 q).length + 1 := by rw [hs]; simp
      rw [← elen]
      refine wp_mpu hn hl hv j (q + 1) h3 _ (by omega) H3 (fun i hi' => ?_) (fun r hr => ?_) (fun r h1 h2 => ?_) fun h' A' a1 a2 a3 a4 => hK h' A' a1 a2 a3 (((F1.tr F2).tr F3).tr a4)
      · rw [upA_ne _ _ (by omega), upA_ne _ _ (by omega), upA_ne _ _ (by omega)]; exact HA i hi'
      · rw [elen] at hr
        generalize hL : flK (fun r => decide ((rd r).1 < l)) 0 q = L at *
        rw [hs]
        show upd (A 20) L.length (Int32.ofNat (rd q).1) r = Int32.ofNat (rd ((L ++ [q]).getD r 0)).1 ∧ upd (A 21) L.length (Int32.ofNat (rd q).2.1) r = Int32.ofNat (rd ((L ++ [q]).getD r 0)).2.1 ∧ upd (A 22) L.length (Int32.ofNat (rd q).2.2) r = Int32.ofNat (rd ((L ++ [q]).getD r 0)).2.2
        by_cases z : r = L.length
        · have eg : (L ++ [q]).getD r 0 = q := by rw [z]; simp
          rw [eg, z, upd_at, upd_at, upd_at]
          exact ⟨rfl, rfl, rfl⟩
        · have eg : (L ++ [q]).getD r 0 = L.getD r 0 := by
            rw [List.getD_eq_getElem?_getD, List.getD_eq_getElem?_getD, List.getElem?_append_left (by omega)]
          rw [eg, upd_ne _ _ z, upd_ne _ _ z, upd_ne _ _ z]
          exact HR r (by omega)
      · show upd (A 20) _ _ r = _ ∧ upd (A 21) _ _ r = _ ∧ upd (A 22) _ _ r = _
        rw [upd_ne _ _ (by omega), upd_ne _ _ (by omega), upd_ne _ _ (by omega)]
        exact HS r (by omega) h2
    · refine ⟨fun _ => ?_, fun z => absurd z (by omega)⟩
      rw [if_neg (by simpa using c), List.append_nil] at hs
      rw [← hs]
      exact wp_mpu hn hl hv j (q + 1) h A (by omega) H HA (by rw [hs]; exact HR) (fun r h1 h2 => HS r (by omega) h2) hK
theorem mop_pull {h : xH} {s : St} (hO : okS s) (H : RM h s) (k : Int32) (hK : ∀ h', RM h' (opPull s k).2 → FR MP 0 0 h h' → K (some (.int (opPull s k).1)) h') : wp (d + 2) 111 0 [some (.ref 25), some (.int k), none, none] [] h K := by
  have HX := H
  obtain ⟨hi, p, rH, rW, A, hg, h5, H, G, S, R⟩ := H
  have hv3 := hO.v3
  have z10 : ((1 : Int32) = 0) = False := eq_false (by decide)
  rcases nb_cas k (m := gv (sE s) + 1) (by omega) with ⟨a, ha, rfl, hnb⟩ | ⟨hc, hnb⟩
  · have e1 : opPull s (Int32.ofNat a) = (Int32.ofNat (gv (sE s) - a), plS s (gv (sE s) - a)) := by unfold opPull; rw [hnb]
    rw [e1] at hK
    have z1 : Int32.ofNat (gv (sE s)) - Int32.ofNat a = Int32.ofNat (gv (sE s) - a) := n_sub (by omega)
    have z0 : (0 : Int32) = Int32.ofNat 0 := rfl
    simp only [w111_0, w111_1, w111_2, w111_2n, w111_3, w111_6, w111_9, w111_12, w111_14, w111_15, w111_15n, w111_16, w111_16r, w111_17, w111_20, w111_21, w111_22, w111_25, w111_26, w111_27, w111_28, w111_30, w111_30n, w111_31, w111_34, w111_37, w111_37n, w111_38, w111_41, w111_42, w111_43, w111_43n, w111_44, w111_47, w111_50, w111_50n, w111_51, w111_54, w111_55, w111_55n, w111_56, w111_59, w111_60, w111_61, w111_62, w111_62n, w111_63, w111_66, w111_67, w111_67n, w111_68, w111_71, w111_72, w111_73, w111_74, w111_74n, w111_75, w111_78, w111_79, w111_79n, w111_80, w111_83, w111_84, w111_85, w111_86, w111_89, w111_92, w111_95, w111_95n, w111_96, w111_97, w111_100, w111_100n, w111_101, w111_104, xk_n, xk_i, xk_r, xk_z, xk_l, xcs_0, xcs_i, xcs_r, xcs_z, xcs_l, Nat.reduceAdd, Nat.reduceLeDiff, Nat.reduceLT, true_and, and_true, Option.toList_some, Option.toList_none, List.nil_append, List.cons_append, List.getElem?_cons_zero, List.getElem?_cons_succ, List.set_cons_zero, List.set_cons_succ, List.length_cons, List.length_nil, y_bool0, y_bool1, not_true_eq_false, not_false_eq_true, false_implies, true_implies, true_or, or_true, false_or, or_false, if_true, if_false, ite_true, ite_false, y_get, H.o, wp_wn_t (m := gv (sE s)) (by omega) ha, z10, z1]
    refine H.p_nv fun h1 H1 F1 => ?_
    rw [z0]
    refine wp_mpu (rd := sRd s) (A0 := A) (n := sRn s) (l := gv (sE s) - a) hO.2.1 (by omega) (fun r hr => by have := (hO.2.2.1 r hr).1; omega) (sRn s) 0 h1 A (by omega) H1 (fun _ _ => rfl) (fun r hr => by cases hr) (fun r _ hr => R r hr) fun h' A' a1 a2 a3 a4 => ?_
    have el : lnK (plP s (gv (sE s) - a)) (sRn s) 0 = (flK (fun r => decide ((sRd s r).1 < gv (sE s) - a)) 0 (sRn s)).length := by
      unfold lnK
      rw [Nat.zero_add]
      rfl
    have ei : ∀ r, ixK (plP s (gv (sE s) - a)) (sRn s) 0 r = (flK (fun r => decide ((sRd s r).1 < gv (sE s) - a)) 0 (sRn s)).getD r 0 := fun r => if_neg (by omega)
    rw [← el] at a1 a3
    refine hK h' ⟨hi, p, rH, rW, A', hg, h5, a1, ⟨fun c hc => ?_, fun v hv => ?_, fun x hx => ?_⟩, fun k hk => ?_, fun r hr => ?_⟩ (F1.tr a4)
    · rw [a2 3 (by omega)]; exact G.1 c hc
    · rw [a2 4 (by omega), a2 5 (by omega), a2 6 (by omega)]; exact G.2.1 v (Nat.lt_of_lt_of_le hv (Nat.sub_le _ _))
    · rw [a2 7 (by omega)]; exact G.2.2 x hx
    · rw [a2 0 (by omega), a2 1 (by omega), a2 2 (by omega)]; exact S k hk
    · show A' 20 r = Int32.ofNat (sRd s (ixK (plP s (gv (sE s) - a)) (sRn s) 0 r)).1 ∧ A' 21 r = Int32.ofNat (sRd s (ixK (plP s (gv (sE s) - a)) (sRn s) 0 r)).2.1 ∧ A' 22 r = Int32.ofNat (sRd s (ixK (plP s (gv (sE s) - a)) (sRn s) 0 r)).2.2
      rw [ei r]
      exact a3 r hr
  · have e1 : opPull s k = (-2, s) := by unfold opPull; rw [hnb]
    rw [e1] at hK
    simp only [w111_0, w111_1, w111_2, w111_2n, w111_3, w111_6, w111_9, w111_12, w111_14, w111_15, w111_15n, w111_16, w111_16r, w111_17, w111_20, w111_21, w111_22, w111_25, w111_26, w111_27, w111_28, w111_29, w111_30, w111_30n, w111_31, w111_34, w111_37, w111_37n, w111_38, w111_41, w111_42, w111_43, w111_43n, w111_44, w111_47, w111_50, w111_50n, w111_51, w111_54, w111_55, w111_55n, w111_56, w111_59, w111_60, w111_61, w111_62, w111_62n, w111_63, w111_66, w111_67, w111_67n, w111_68, w111_71, w111_72, w111_73, w111_74, w111_74n, w111_75, w111_78, w111_79, w111_79n, w111_80, w111_83, w111_84, w111_85, w111_86, w111_89, w111_92, w111_95, w111_95n, w111_96, w111_97, w111_100, w111_100n, w111_101, w111_104, xk_n, xk_i, xk_r, xk_z, xk_l, xcs_0, xcs_i, xcs_r, xcs_z, xcs_l, Nat.reduceAdd, Nat.reduceLeDiff, Nat.reduceLT, true_and, and_true, Option.toList_some, Option.toList_none, List.nil_append, List.cons_append, List.getElem?_cons_zero, List.getElem?_cons_succ, List.set_cons_zero, List.set_cons_succ, List.length_cons, List.length_nil, y_bool0, y_bool1, not_true_eq_false, not_false_eq_true, false_implies, true_implies, true_or, or_true, false_or, or_false, if_true, if_false, ite_true, ite_false, y_get, H.o, wp_wn_f (m := gv (sE s)) (by omega) hc]
    exact hK h HX FR.rfl'
end
