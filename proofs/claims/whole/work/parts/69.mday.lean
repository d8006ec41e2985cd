/-! ===== the model: tip, leaves, doubts, ends, first ===== -/
theorem rd_at {E : Gd} {fr : Nat → Bool} {k v : Nat} (hk : k ≤ 80) : runD E fr k v = dmap fr (runM E (mild fr k) v) := by rw [(runD_M (E := E) (fr := fr) k hk).1]
/-- the sheets and readings stay -/
def KP (A A0 : Nat → Nat → Int32) : Prop := A 0 = A0 0 ∧ A 1 = A0 1 ∧ A 2 = A0 2 ∧ A 20 = A0 20 ∧ A 21 = A0 21 ∧ A 22 = A0 22
theorem KP.rfl' {A : Nat → Nat → Int32} : KP A A := ⟨rfl, rfl, rfl, rfl, rfl, rfl⟩
theorem KP.tr {A B C : Nat → Nat → Int32} (a : KP B A) (b : KP C B) : KP C A := ⟨b.1.trans a.1, b.2.1.trans a.2.1, b.2.2.1.trans a.2.2.1, b.2.2.2.1.trans a.2.2.2.1, b.2.2.2.2.1.trans a.2.2.2.2.1, b.2.2.2.2.2.trans a.2.2.2.2.2⟩
theorem KP.of {A A' : Nat → Nat → Int32} (h : ∀ j, (j < 9 ∨ 15 < j) → A' j = A j) : KP A' A := ⟨h 0 (by omega), h 1 (by omega), h 2 (by omega), h 20 (by omega), h 21 (by omega), h 22 (by omega)⟩
theorem KP.up {A : Nat → Nat → Int32} {j : Nat} (f : Nat → Int32) (h1 : 2 < j) (h2 : j < 20) : KP (upA A j f) A := ⟨upA_ne _ _ (by omega), upA_ne _ _ (by omega), upA_ne _ _ (by omega), upA_ne _ _ (by omega), upA_ne _ _ (by omega), upA_ne _ _ (by omega)⟩
theorem SA.kp {sh : Nat → Option Nat × Nat × (Nat → Int32)} {A A' : Nat → Nat → Int32} (S : SA sh A) (k : KP A' A) : SA sh A' := fun x hx => by rw [k.1, k.2.1, k.2.2.1]; exact S x hx
theorem RA.kp {n : Nat} {rd : Nat → Nat × Nat × Nat} {A A' : Nat → Nat → Int32} (S : RA n rd A) (k : KP A' A) : RA n rd A' := fun x hx => by rw [k.2.2.2.1, k.2.2.2.2.1, k.2.2.2.2.2]; exact S x hx
section
variable {d : Nat} {h : xH} {K : Option Value → xH → Prop} {fa tr p rH rW nr : Int32} {hi : Nat} {E : Gd} {fr : Nat → Bool} {A : Nat → Nat → Int32} {v : Nat}
theorem wp_mgt {n : Nat} (hn : n < 80) (H : MH h fa tr (Int32.ofNat hi) (Int32.ofNat (gw E)) (Int32.ofNat (gv E)) p rH rW nr A) (hgn : gn E = hi * gw E) (G : GA E fr A) (hE : okE E) (hs4 : ∀ c, c < gn E → gs E c < 4) (hK : ∀ h' A', MH h' fa tr (Int32.ofNat hi) (Int32.ofNat (gw E)) (Int32.ofNat (gv E)) p rH rW nr A' → GA E fr A' → KP A' A → (∀ v, v < gv E → A' 9 v = Int32.ofNat (vt (runM E (mild fr (n + 1)) v)) ∧ A' 11 v = Int32.ofNat (vl (runM E (mild fr (n + 1)) v)) ∧ A' 12 v = Int32.ofNat (vd (runM E (mild fr (n + 1)) v)) ∧ A' 13 v = oC (dayM fr (vo (runM E (mild fr (n + 1)) v))) ∧ A' 14 v = oC (dayM fr (vx (runM E (mild fr (n + 1)) v)))) → (∀ j, (j < 9 ∨ 15 < j) → A' j = A j) → FR MP 0 0 h h' → K none h') : wp (d + 4) 119 0 [some (.ref 25), some (.int (Int32.ofNat n)), none, none] [] h K := by
  refine wp_mgoto hn H hgn G hE hs4 fun h' A' a1 a2 a3 a4 a5 => hK h' A' a1 a2 (KP.of a3) (fun v hv => ?_) a3 a5
  obtain ⟨r1, r2, r3, r4, r5, r6, r7⟩ := a4 v hv
  rw [rd_at (by omega)] at r1 r3 r4 r5 r6
  exact ⟨r1, r3, r4, r5, r6⟩
theorem wp_mod (hv : v < gv E) (H : MH h fa tr (Int32.ofNat hi) (Int32.ofNat (gw E)) (Int32.ofNat (gv E)) p rH rW nr A) (hgn : gn E = hi * gw E) (G : GA E fr A) (hE : okE E) (hs4 : ∀ c, c < gn E → gs E c < 4) (hK : ∀ h' A', MH h' fa tr (Int32.ofNat hi) (Int32.ofNat (gw E)) (Int32.ofNat (gv E)) p rH rW nr A' → GA E fr A' → KP A' A → FR MP 0 0 h h' → K (some (.int (oC (outD E fr v)))) h') : wp (d + 5) 123 0 [some (.ref 25), some (.int (Int32.ofNat v))] [] h K := by
  have hv3 := hE.2.1
  have z79 : (79 : Int32) = Int32.ofNat 79 := rfl
  simp only [w123_0, w123_0n, w123_1, w123_3, w123_6, w123_6n, w123_7, w123_10, w123_11, w123_12, xk_n, xk_i, xk_r, xk_z, xk_l, xcs_0, xcs_i, xcs_r, xcs_z, xcs_l, Nat.reduceAdd, Nat.reduceLeDiff, Nat.reduceLT, true_and, and_true, Option.toList_some, Option.toList_none, List.nil_append, List.cons_append, List.getElem?_cons_zero, List.getElem?_cons_succ, List.set_cons_zero, List.set_cons_succ, List.length_cons, List.length_nil, y_bool0, y_bool1, not_true_eq_false, not_false_eq_true, false_implies, true_implies, true_or, or_true, false_or, or_false, if_true, if_false, ite_true, ite_false, H.cls]
  rw [z79]
  refine wp_mgt (show 79 < 80 by omega) H hgn G hE hs4 fun h1 A1 H1 G1 K1 R1 _ F1 => ?_
  have e : oC (dayM fr (vo (runM E (mild fr (79 + 1)) v))) = oC (outD E fr v) := by
    rw [← outD_80, rd_at (by omega)]; rfl
  simp only [w123_0, w123_0n, w123_1, w123_3, w123_6, w123_6n, w123_7, w123_10, w123_11, w123_12, xk_n, xk_i, xk_r, xk_z, xk_l, xcs_0, xcs_i, xcs_r, xcs_z, xcs_l, Nat.reduceAdd, Nat.reduceLeDiff, Nat.reduceLT, true_and, and_true, Option.toList_some, Option.toList_none, List.nil_append, List.cons_append, List.getElem?_cons_zero, List.getElem?_cons_succ, List.set_cons_zero, List.set_cons_succ, List.length_cons, List.length_nil, y_bool0, y_bool1, not_true_eq_false, not_false_eq_true, false_implies, true_implies, true_or, or_true, false_or, or_false, if_true, if_false, ite_true, ite_false, y_get, H1.o, H1.ld13 (show v < 3 by omega), (R1 v hv).2.2.2.1, e]
  exact hK h1 A1 H1 G1 K1 F1
theorem wp_miE {a b : Option Nat} (ha : ∀ x, a = some x → x < 1000) (hb : ∀ x, b = some x → x < 1000) : wp d 126 0 [some (.int (oC a)), some (.int (oC b))] [] h K ↔ K (some (.int (bi (earO a b)))) h := by
  have e1 := oC_9 ha
  have e2 := oC_9 hb
  simp only [w126_0, w126_1, w126_3, w126_6, w126_7, w126_9, w126_12, w126_13, w126_14, w126_17, w126_18, w126_21, w126_22, xk_n, xk_i, xk_r, xk_z, xk_l, xcs_0, xcs_i, xcs_r, xcs_z, xcs_l, Nat.reduceAdd, Nat.reduceLeDiff, Nat.reduceLT, true_and, and_true, Option.toList_some, Option.toList_none, List.nil_append, List.cons_append, List.getElem?_cons_zero, List.getElem?_cons_succ, List.set_cons_zero, List.set_cons_succ, List.length_cons, List.length_nil, y_bool0, y_bool1, not_true_eq_false, not_false_eq_true, false_implies, true_implies, true_or, or_true, false_or, or_false, if_true, if_false, ite_true, ite_false, e1, e2]
  cases a with
  | none => simp [earO, bi, y_bool0, y_bool1]
  | some x =>
    cases b with
    | none => simp [earO, bi, y_bool0, y_bool1]
    | some y =>
      have e3 : (oC (some y) ≤ oC (some x)) = (y ≤ x) := propext (n_le (by have := hb y rfl; omega) (by have := ha x rfl; omega))
      simp only [e3, xk_n, xk_i, xk_r, xk_z, xk_l, xcs_0, xcs_i, xcs_r, xcs_z, xcs_l, Nat.reduceAdd, Nat.reduceLeDiff, Nat.reduceLT, true_and, and_true, Option.toList_some, Option.toList_none, List.nil_append, List.cons_append, List.getElem?_cons_zero, List.getElem?_cons_succ, List.set_cons_zero, List.set_cons_succ, List.length_cons, List.length_nil, y_bool0, y_bool1, not_true_eq_false, not_false_eq_true, false_implies, true_implies, true_or, or_true, false_or, or_false, if_true, if_false, ite_true, ite_false]
      by_cases q : y ≤ x
      · have : ¬ x < y := by omega
        simp [earO, bi, y_bool0, y_bool1, q, this]
      · have : x < y := by omega
        simp [earO, bi, y_bool0, y_bool1, q, this]
end
section
variable {d : Nat} {h : xH} {K : Option Value → xH → Prop} {s : St}
theorem mop_tip (hO : okS s) (H : RM h s) (v day : Int32) (hK : ∀ h', RM h' s → FR MP 0 0 h h' → K (some (.int (opTip s v day))) h') : wp (d + 5) 120 0 [some (.ref 25), some (.int v), some (.int day)] [] h K := by
  have HX := H
  obtain ⟨hi, p, rH, rW, A, hg, h5, H, G, S, R⟩ := H
  have hv3 := hO.v3
  have z10 : ((1 : Int32) = 0) = False := eq_false (by decide)
  rcases nb_cas v (m := gv (sE s)) (by omega) with ⟨a, ha, rfl, hnb⟩ | ⟨hc, hnb⟩
  · rcases nb_cas day (m := 80) (by omega) with ⟨b, hb, rfl, hnb2⟩ | ⟨hc2, hnb2⟩
    · have e1 : opTip s (Int32.ofNat a) (Int32.ofNat b) = Int32.ofNat (vt (atD s a b)) := by unfold opTip; rw [hnb, hnb2]
      rw [e1] at hK
      simp only [w120_0, w120_0n, w120_1, w120_2, w120_5, w120_8, w120_9, w120_12, w120_15, w120_16, w120_17, w120_17n, w120_18, w120_19, w120_22, w120_22n, w120_23, w120_26, w120_27, w120_28, xk_n, xk_i, xk_r, xk_z, xk_l, xcs_0, xcs_i, xcs_r, xcs_z, xcs_l, Nat.reduceAdd, Nat.reduceLeDiff, Nat.reduceLT, true_and, and_true, Option.toList_some, Option.toList_none, List.nil_append, List.cons_append, List.getElem?_cons_zero, List.getElem?_cons_succ, List.set_cons_zero, List.set_cons_succ, List.length_cons, List.length_nil, y_bool0, y_bool1, not_true_eq_false, not_false_eq_true, false_implies, true_implies, true_or, or_true, false_or, or_false, if_true, if_false, ite_true, ite_false, H.cls, wp_mvi_t H hv3 ha, wp_mdy_t hb, z10]
      refine wp_mgt hb H hg G (hO.ok ha) hO.2.2.2 fun h1 A1 H1 G1 K1 R1 _ F1 => ?_
      simp only [w120_0, w120_0n, w120_1, w120_2, w120_5, w120_8, w120_9, w120_12, w120_15, w120_16, w120_17, w120_17n, w120_18, w120_19, w120_22, w120_22n, w120_23, w120_26, w120_27, w120_28, xk_n, xk_i, xk_r, xk_z, xk_l, xcs_0, xcs_i, xcs_r, xcs_z, xcs_l, Nat.reduceAdd, Nat.reduceLeDiff, Nat.reduceLT, true_and, and_true, Option.toList_some, Option.toList_none, List.nil_append, List.cons_append, List.getElem?_cons_zero, List.getElem?_cons_succ, List.set_cons_zero, List.set_cons_succ, List.length_cons, List.length_nil, y_bool0, y_bool1, not_true_eq_false, not_false_eq_true, false_implies, true_implies, true_or, or_true, false_or, or_false, if_true, if_false, ite_true, ite_false, y_get, H1.o, H1.ld9 (show a < 3 by omega), (R1 a ha).1]
      exact hK h1 ⟨hi, p, rH, rW, A1, hg, h5, H1, G1, S.kp K1, R.kp K1⟩ F1
    · have e1 : opTip s (Int32.ofNat a) day = -1 := by unfold opTip; rw [hnb, hnb2]
      rw [e1] at hK
      simp only [w120_0, w120_0n, w120_1, w120_2, w120_5, w120_8, w120_9, w120_12, w120_15, w120_16, w120_17, w120_17n, w120_18, w120_19, w120_22, w120_22n, w120_23, w120_26, w120_27, w120_28, xk_n, xk_i, xk_r, xk_z, xk_l, xcs_0, xcs_i, xcs_r, xcs_z, xcs_l, Nat.reduceAdd, Nat.reduceLeDiff, Nat.reduceLT, true_and, and_true, Option.toList_some, Option.toList_none, List.nil_append, List.cons_append, List.getElem?_cons_zero, List.getElem?_cons_succ, List.set_cons_zero, List.set_cons_succ, List.length_cons, List.length_nil, y_bool0, y_bool1, not_true_eq_false, not_false_eq_true, false_implies, true_implies, true_or, or_true, false_or, or_false, if_true, if_false, ite_true, ite_false, H.cls, wp_mvi_t H hv3 ha, wp_mdy_f hc2, z10]
      exact hK h HX FR.rfl'
  · have e1 : opTip s v day = -1 := by unfold opTip; rw [hnb]
    rw [e1] at hK
    simp only [w120_0, w120_0n, w120_1, w120_2, w120_5, w120_8, w120_9, w120_12, w120_15, w120_16, w120_17, w120_17n, w120_18, w120_19, w120_22, w120_22n, w120_23, w120_26, w120_27, w120_28, xk_n, xk_i, xk_r, xk_z, xk_l, xcs_0, xcs_i, xcs_r, xcs_z, xcs_l, Nat.reduceAdd, Nat.reduceLeDiff, Nat.reduceLT, true_and, and_true, Option.toList_some, Option.toList_none, List.nil_append, List.cons_append, List.getElem?_cons_zero, List.getElem?_cons_succ, List.set_cons_zero, List.set_cons_succ, List.length_cons, List.length_nil, y_bool0, y_bool1, not_true_eq_false, not_false_eq_true, false_implies, true_implies, true_or, or_true, false_or, or_false, if_true, if_false, ite_true, ite_false, H.cls, wp_mvi_f H hc]
    exact hK h HX FR.rfl'
theorem mop_leaves (hO : okS s) (H : RM h s) (v day : Int32) (hK : ∀ h', RM h' s → FR MP 0 0 h h' → K (some (.long (opLeaves s v day))) h') : wp (d + 5) 121 0 [some (.ref 25), some (.int v), some (.int day)] [] h K := by
  have HX := H
  obtain ⟨hi, p, rH, rW, A, hg, h5, H, G, S, R⟩ := H
  have hv3 := hO.v3
  have z10 : ((1 : Int32) = 0) = False := eq_false (by decide)
  rcases nb_cas v (m := gv (sE s)) (by omega) with ⟨a, ha, rfl, hnb⟩ | ⟨hc, hnb⟩
  · rcases nb_cas day (m := 80) (by omega) with ⟨b, hb, rfl, hnb2⟩ | ⟨hc2, hnb2⟩
    · have e1 : opLeaves s (Int32.ofNat a) (Int32.ofNat b) = Int64.ofNat (vl (atD s a b)) := by unfold opLeaves; rw [hnb, hnb2]
      rw [e1] at hK
      have hE := hO.ok ha
      have hl := (runM_ok hE (mild (sFr s) (b + 1)) (by have := mild_k (sFr s) (b + 1); omega) a ha).leaf hO.n30
      simp only [w121_0, w121_0n, w121_1, w121_2, w121_5, w121_8, w121_9, w121_12, w121_15, w121_18, w121_19, w121_19n, w121_20, w121_21, w121_24, w121_24n, w121_25, w121_28, w121_29, w121_30, w121_31, xk_n, xk_i, xk_r, xk_z, xk_l, xcs_0, xcs_i, xcs_r, xcs_z, xcs_l, Nat.reduceAdd, Nat.reduceLeDiff, Nat.reduceLT, true_and, and_true, Option.toList_some, Option.toList_none, List.nil_append, List.cons_append, List.getElem?_cons_zero, List.getElem?_cons_succ, List.set_cons_zero, List.set_cons_succ, List.length_cons, List.length_nil, y_bool0, y_bool1, not_true_eq_false, not_false_eq_true, false_implies, true_implies, true_or, or_true, false_or, or_false, if_true, if_false, ite_true, ite_false, H.cls, wp_mvi_t H hv3 ha, wp_mdy_t hb, z10]
      refine wp_mgt hb H hg G hE hO.2.2.2 fun h1 A1 H1 G1 K1 R1 _ F1 => ?_
      simp only [w121_0, w121_0n, w121_1, w121_2, w121_5, w121_8, w121_9, w121_12, w121_15, w121_18, w121_19, w121_19n, w121_20, w121_21, w121_24, w121_24n, w121_25, w121_28, w121_29, w121_30, w121_31, xk_n, xk_i, xk_r, xk_z, xk_l, xcs_0, xcs_i, xcs_r, xcs_z, xcs_l, Nat.reduceAdd, Nat.reduceLeDiff, Nat.reduceLT, true_and, and_true, Option.toList_some, Option.toList_none, List.nil_append, List.cons_append, List.getElem?_cons_zero, List.getElem?_cons_succ, List.set_cons_zero, List.set_cons_succ, List.length_cons, List.length_nil, y_bool0, y_bool1, not_true_eq_false, not_false_eq_true, false_implies, true_implies, true_or, or_true, false_or, or_false, if_true, if_false, ite_true, ite_false, y_get, H1.o, H1.ld11 (show a < 3 by omega), (R1 a ha).2.1, i2l_n (show vl (runM (sE s) (mild (sFr s) (b + 1)) a) < 2147483648 by omega)]
      exact hK h1 ⟨hi, p, rH, rW, A1, hg, h5, H1, G1, S.kp K1, R.kp K1⟩ F1
    · have e1 : opLeaves s (Int32.ofNat a) day = -9223372036854775808 := by unfold opLeaves; rw [hnb, hnb2]
      rw [e1] at hK
      simp only [w121_0, w121_0n, w121_1, w121_2, w121_5, w121_8, w121_9, w121_12, w121_15, w121_18, w121_19, w121_19n, w121_20, w121_21, w121_24, w121_24n, w121_25, w121_28, w121_29, w121_30, w121_31, xk_n, xk_i, xk_r, xk_z, xk_l, xcs_0, xcs_i, xcs_r, xcs_z, xcs_l, Nat.reduceAdd, Nat.reduceLeDiff, Nat.reduceLT, true_and, and_true, Option.toList_some, Option.toList_none, List.nil_append, List.cons_append, List.getElem?_cons_zero, List.getElem?_cons_succ, List.set_cons_zero, List.set_cons_succ, List.length_cons, List.length_nil, y_bool0, y_bool1, not_true_eq_false, not_false_eq_true, false_implies, true_implies, true_or, or_true, false_or, or_false, if_true, if_false, ite_true, ite_false, H.cls, wp_mvi_t H hv3 ha, wp_mdy_f hc2, z10]
      exact hK h HX FR.rfl'
  · have e1 : opLeaves s v day = -9223372036854775808 := by unfold opLeaves; rw [hnb]
    rw [e1] at hK
    simp only [w121_0, w121_0n, w121_1, w121_2, w121_5, w121_8, w121_9, w121_12, w121_15, w121_18, w121_19, w121_19n, w121_20, w121_21, w121_24, w121_24n, w121_25, w121_28, w121_29, w121_30, w121_31, xk_n, xk_i, xk_r, xk_z, xk_l, xcs_0, xcs_i, xcs_r, xcs_z, xcs_l, Nat.reduceAdd, Nat.reduceLeDiff, Nat.reduceLT, true_and, and_true, Option.toList_some, Option.toList_none, List.nil_append, List.cons_append, List.getElem?_cons_zero, List.getElem?_cons_succ, List.set_cons_zero, List.set_cons_succ, List.length_cons, List.length_nil, y_bool0, y_bool1, not_true_eq_false, not_false_eq_true, false_implies, true_implies, true_or, or_true, false_or, or_false, if_true, if_false, ite_true, ite_false, H.cls, wp_mvi_f H hc]
    exact hK h HX FR.rfl'
theorem mop_doubts (hO : okS s) (H : RM h s) (v day : Int32) (hK : ∀ h', RM h' s → FR MP 0 0 h h' → K (some (.int (opDoubts s v day))) h') : wp (d + 5) 122 0 [some (.ref 25), some (.int v), some (.int day)] [] h K := by
  have HX := H
  obtain ⟨hi, p, rH, rW, A, hg, h5, H, G, S, R⟩ := H
  have hv3 := hO.v3
  have z10 : ((1 : Int32) = 0) = False := eq_false (by decide)
  rcases nb_cas v (m := gv (sE s)) (by omega) with ⟨a, ha, rfl, hnb⟩ | ⟨hc, hnb⟩
  · rcases nb_cas day (m := 80) (by omega) with ⟨b, hb, rfl, hnb2⟩ | ⟨hc2, hnb2⟩
    · have e1 : opDoubts s (Int32.ofNat a) (Int32.ofNat b) = Int32.ofNat (vd (atD s a b)) := by unfold opDoubts; rw [hnb, hnb2]
      rw [e1] at hK
      simp only [w122_0, w122_0n, w122_1, w122_2, w122_5, w122_8, w122_9, w122_12, w122_15, w122_16, w122_17, w122_17n, w122_18, w122_19, w122_22, w122_22n, w122_23, w122_26, w122_27, w122_28, xk_n, xk_i, xk_r, xk_z, xk_l, xcs_0, xcs_i, xcs_r, xcs_z, xcs_l, Nat.reduceAdd, Nat.reduceLeDiff, Nat.reduceLT, true_and, and_true, Option.toList_some, Option.toList_none, List.nil_append, List.cons_append, List.getElem?_cons_zero, List.getElem?_cons_succ, List.set_cons_zero, List.set_cons_succ, List.length_cons, List.length_nil, y_bool0, y_bool1, not_true_eq_false, not_false_eq_true, false_implies, true_implies, true_or, or_true, false_or, or_false, if_true, if_false, ite_true, ite_false, H.cls, wp_mvi_t H hv3 ha, wp_mdy_t hb, z10]
      refine wp_mgt hb H hg G (hO.ok ha) hO.2.2.2 fun h1 A1 H1 G1 K1 R1 _ F1 => ?_
      simp only [w122_0, w122_0n, w122_1, w122_2, w122_5, w122_8, w122_9, w122_12, w122_15, w122_16, w122_17, w122_17n, w122_18, w122_19, w122_22, w122_22n, w122_23, w122_26, w122_27, w122_28, xk_n, xk_i, xk_r, xk_z, xk_l, xcs_0, xcs_i, xcs_r, xcs_z, xcs_l, Nat.reduceAdd, Nat.reduceLeDiff, Nat.reduceLT, true_and, and_true, Option.toList_some, Option.toList_none, List.nil_append, List.cons_append, List.getElem?_cons_zero, List.getElem?_cons_succ, List.set_cons_zero, List.set_cons_succ, List.length_cons, List.length_nil, y_bool0, y_bool1, not_true_eq_false, not_false_eq_true, false_implies, true_implies, true_or, or_true, false_or, or_false, if_true, if_false, ite_true, ite_false, y_get, H1.o, H1.ld12 (show a < 3 by omega), (R1 a ha).2.2.1]
      exact hK h1 ⟨hi, p, rH, rW, A1, hg, h5, H1, G1, S.kp K1, R.kp K1⟩ F1
    · have e1 : opDoubts s (Int32.ofNat a) day = -1 := by unfold opDoubts; rw [hnb, hnb2]
      rw [e1] at hK
      simp only [w122_0, w122_0n, w122_1, w122_2, w122_5, w122_8, w122_9, w122_12, w122_15, w122_16, w122_17, w122_17n, w122_18, w122_19, w122_22, w122_22n, w122_23, w122_26, w122_27, w122_28, xk_n, xk_i, xk_r, xk_z, xk_l, xcs_0, xcs_i, xcs_r, xcs_z, xcs_l, Nat.reduceAdd, Nat.reduceLeDiff, Nat.reduceLT, true_and, and_true, Option.toList_some, Option.toList_none, List.nil_append, List.cons_append, List.getElem?_cons_zero, List.getElem?_cons_succ, List.set_cons_zero, List.set_cons_succ, List.length_cons, List.length_nil, y_bool0, y_bool1, not_true_eq_false, not_false_eq_true, false_implies, true_implies, true_or, or_true, false_or, or_false, if_true, if_false, ite_true, ite_false, H.cls, wp_mvi_t H hv3 ha, wp_mdy_f hc2, z10]
      exact hK h HX FR.rfl'
  · have e1 : opDoubts s v day = -1 := by unfold opDoubts; rw [hnb]
    rw [e1] at hK
    simp only [w122_0, w122_0n, w122_1, w122_2, w122_5, w122_8, w122_9, w122_12, w122_15, w122_16, w122_17, w122_17n, w122_18, w122_19, w122_22, w122_22n, w122_23, w122_26, w122_27, w122_28, xk_n, xk_i, xk_r, xk_z, xk_l, xcs_0, xcs_i, xcs_r, xcs_z, xcs_l, Nat.reduceAdd, Nat.reduceLeDiff, Nat.reduceLT, true_and, and_true, Option.toList_some, Option.toList_none, List.nil_append, List.cons_append, List.getElem?_cons_zero, List.getElem?_cons_succ, List.set_cons_zero, List.set_cons_succ, List.length_cons, List.length_nil, y_bool0, y_bool1, not_true_eq_false, not_false_eq_true, false_implies, true_implies, true_or, or_true, false_or, or_false, if_true, if_false, ite_true, ite_false, H.cls, wp_mvi_f H hc]
    exact hK h HX FR.rfl'
theorem mop_ends (hO : okS s) (H : RM h s) (v w : Int32) (hK : ∀ h', RM h' s → FR MP 0 0 h h' → K (some (.int (opEnds s v w))) h') : wp (d + 5) 124 0 [some (.ref 25), some (.int v), some (.int w)] [] h K := by
  have HX := H
  obtain ⟨hi, p, rH, rW, A, hg, h5, H, G, S, R⟩ := H
  have hv3 := hO.v3
  have z10 : ((1 : Int32) = 0) = False := eq_false (by decide)
  rcases nb_cas v (m := gv (sE s)) (by omega) with ⟨a, ha, rfl, hnb⟩ | ⟨hc, hnb⟩
  · rcases nb_cas w (m := 2) (by omega) with ⟨b, hb, rfl, hnb2⟩ | ⟨hc2, hnb2⟩
    · have e1 : opEnds s (Int32.ofNat a) (Int32.ofNat b) = oC (dayM (sFr s) (if b = 0 then vo (atD s a 79) else vx (atD s a 79))) := by unfold opEnds; rw [hnb, hnb2]
      rw [e1] at hK
      have z79 : (79 : Int32) = Int32.ofNat 79 := rfl
      have t0 : (Int32.ofNat b = 0) = (b = 0) := propext (n_eql (m := 0) (by omega) (by omega))
      simp only [w124_0, w124_0n, w124_1, w124_2, w124_5, w124_8, w124_9, w124_10, w124_11, w124_12, w124_13, w124_16, w124_19, w124_21, w124_22, w124_22n, w124_23, w124_25, w124_28, w124_29, w124_32, w124_32n, w124_33, w124_36, w124_37, w124_38, w124_41, w124_41n, w124_42, w124_45, w124_46, w124_47, xk_n, xk_i, xk_r, xk_z, xk_l, xcs_0, xcs_i, xcs_r, xcs_z, xcs_l, Nat.reduceAdd, Nat.reduceLeDiff, Nat.reduceLT, true_and, and_true, Option.toList_some, Option.toList_none, List.nil_append, List.cons_append, List.getElem?_cons_zero, List.getElem?_cons_succ, List.set_cons_zero, List.set_cons_succ, List.length_cons, List.length_nil, y_bool0, y_bool1, not_true_eq_false, not_false_eq_true, false_implies, true_implies, true_or, or_true, false_or, or_false, if_true, if_false, ite_true, ite_false, H.cls, wp_mvi_t H hv3 ha, wp_wi_t (m := 1) (by omega) hb, z10]
      rw [z79]
      refine wp_mgt (show 79 < 80 by omega) H hg G (hO.ok ha) hO.2.2.2 fun h1 A1 H1 G1 K1 R1 _ F1 => ?_
      have fin := hK h1 ⟨hi, p, rH, rW, A1, hg, h5, H1, G1, S.kp K1, R.kp K1⟩ F1
      simp only [w124_0, w124_0n, w124_1, w124_2, w124_5, w124_8, w124_9, w124_10, w124_11, w124_12, w124_13, w124_16, w124_19, w124_21, w124_22, w124_22n, w124_23, w124_25, w124_28, w124_29, w124_32, w124_32n, w124_33, w124_36, w124_37, w124_38, w124_41, w124_41n, w124_42, w124_45, w124_46, w124_47, xk_n, xk_i, xk_r, xk_z, xk_l, xcs_0, xcs_i, xcs_r, xcs_z, xcs_l, Nat.reduceAdd, Nat.reduceLeDiff, Nat.reduceLT, true_and, and_true, Option.toList_some, Option.toList_none, List.nil_append, List.cons_append, List.getElem?_cons_zero, List.getElem?_cons_succ, List.set_cons_zero, List.set_cons_succ, List.length_cons, List.length_nil, y_bool0, y_bool1, not_true_eq_false, not_false_eq_true, false_implies, true_implies, true_or, or_true, false_or, or_false, if_true, if_false, ite_true, ite_false, y_get, H1.o, H1.ld13 (show a < 3 by omega), H1.ld14 (show a < 3 by omega), (R1 a ha).2.2.2.1, (R1 a ha).2.2.2.2, t0]
      by_cases q : b = 0
      · rw [if_pos q] at fin
        exact ⟨fun z => absurd q z, fun _ => fin⟩
      · rw [if_neg q] at fin
        exact ⟨fun _ => fin, fun z => absurd z q⟩
    · have e1 : opEnds s (Int32.ofNat a) w = -2 := by unfold opEnds; rw [hnb, hnb2]
      rw [e1] at hK
      simp only [w124_0, w124_0n, w124_1, w124_2, w124_5, w124_8, w124_9, w124_10, w124_11, w124_12, w124_13, w124_16, w124_19, w124_21, w124_22, w124_22n, w124_23, w124_25, w124_28, w124_29, w124_32, w124_32n, w124_33, w124_36, w124_37, w124_38, w124_41, w124_41n, w124_42, w124_45, w124_46, w124_47, xk_n, xk_i, xk_r, xk_z, xk_l, xcs_0, xcs_i, xcs_r, xcs_z, xcs_l, Nat.reduceAdd, Nat.reduceLeDiff, Nat.reduceLT, true_and, and_true, Option.toList_some, Option.toList_none, List.nil_append, List.cons_append, List.getElem?_cons_zero, List.getElem?_cons_succ, List.set_cons_zero, List.set_cons_succ, List.length_cons, List.length_nil, y_bool0, y_bool1, not_true_eq_false, not_false_eq_true, false_implies, true_implies, true_or, or_true, false_or, or_false, if_true, if_false, ite_true, ite_false, H.cls, wp_mvi_t H hv3 ha, wp_wi_f (m := 1) (by omega) hc2, z10]
      exact hK h HX FR.rfl'
  · have e1 : opEnds s v w = -1 := by unfold opEnds; rw [hnb]
    rw [e1] at hK
    simp only [w124_0, w124_0n, w124_1, w124_2, w124_5, w124_8, w124_9, w124_10, w124_11, w124_12, w124_13, w124_16, w124_19, w124_21, w124_22, w124_22n, w124_23, w124_25, w124_28, w124_29, w124_32, w124_32n, w124_33, w124_36, w124_37, w124_38, w124_41, w124_41n, w124_42, w124_45, w124_46, w124_47, xk_n, xk_i, xk_r, xk_z, xk_l, xcs_0, xcs_i, xcs_r, xcs_z, xcs_l, Nat.reduceAdd, Nat.reduceLeDiff, Nat.reduceLT, true_and, and_true, Option.toList_some, Option.toList_none, List.nil_append, List.cons_append, List.getElem?_cons_zero, List.getElem?_cons_succ, List.set_cons_zero, List.set_cons_succ, List.length_cons, List.length_nil, y_bool0, y_bool1, not_true_eq_false, not_false_eq_true, false_implies, true_implies, true_or, or_true, false_or, or_false, if_true, if_false, ite_true, ite_false, H.cls, wp_mvi_f H hc]
    exact hK h HX FR.rfl'
theorem wp_mfi {fa tr hi w p rH rW nr : Int32} {n : Nat} {A : Nat → Nat → Int32} {o : Nat → Option Nat} (hn3 : n ≤ 3) (H : MH h fa tr hi w (Int32.ofNat n) p rH rW nr A) (ho : ∀ v x, o v = some x → x < 80) (hA : ∀ v, v < n → A 13 v = oC (o v)) (hK : K (some (.int (oC (fiF o n).1))) h) : ∀ (j k : Nat), k + j = n → wp (d + 1) 131 24 [some (.ref 25), some (.int (oC (fiF o k).1)), some (.int (oC (fiF o k).2)), some (.int (Int32.ofNat k))] [] h K
  | 0, k, hj => by
    have hkn : k = n := by omega
    subst hkn
    have q : Int32.ofNat k ≤ Int32.ofNat k := (n_le (by omega) (by omega)).mpr (by omega)
    rw [w131_24]
    simp only [w131_0, w131_0n, w131_1, w131_4, w131_7, w131_9, w131_10, w131_10n, w131_11, w131_13, w131_16, w131_18, w131_19, w131_21, w131_22, w131_23, w131_25, w131_25n, w131_26, w131_29, w131_32, w131_32n, w131_33, w131_36, w131_37, w131_38, w131_39, w131_42, w131_45, w131_46, w131_47, w131_47n, w131_48, w131_51, w131_52, w131_53, w131_54, w131_57, w131_60, w131_61, xk_n, xk_i, xk_r, xk_z, xk_l, xcs_0, xcs_i, xcs_r, xcs_z, xcs_l, Nat.reduceAdd, Nat.reduceLeDiff, Nat.reduceLT, true_and, and_true, Option.toList_some, Option.toList_none, List.nil_append, List.cons_append, List.getElem?_cons_zero, List.getElem?_cons_succ, List.set_cons_zero, List.set_cons_succ, List.length_cons, List.length_nil, y_bool0, y_bool1, not_true_eq_false, not_false_eq_true, false_implies, true_implies, true_or, or_true, false_or, or_false, if_true, if_false, ite_true, ite_false, y_get, H.o, q]
    exact hK
  | j + 1, k, hj => by
    have hkv : k < n := by omega
    have q : (Int32.ofNat n ≤ Int32.ofNat k) = False := eq_false (by rw [n_le (by omega) (by omega)]; omega)
    have z8 : Int32.ofNat k + 1 = Int32.ofNat (k + 1) := n_addl k 1
    have z10 : ((1 : Int32) = 0) = False := eq_false (by decide)
    have ih := wp_mfi hn3 H ho hA hK j (k + 1) (by omega)
    have ls := fiF_s o k
    have hlt := fiF_lt ho k
    rw [w131_24]
    simp only [w131_0, w131_0n, w131_1, w131_4, w131_7, w131_9, w131_10, w131_10n, w131_11, w131_13, w131_16, w131_18, w131_19, w131_21, w131_22, w131_23, w131_25, w131_25n, w131_26, w131_29, w131_32, w131_32n, w131_33, w131_36, w131_37, w131_38, w131_39, w131_42, w131_45, w131_46, w131_47, w131_47n, w131_48, w131_51, w131_52, w131_53, w131_54, w131_57, w131_60, w131_61, xk_n, xk_i, xk_r, xk_z, xk_l, xcs_0, xcs_i, xcs_r, xcs_z, xcs_l, Nat.reduceAdd, Nat.reduceLeDiff, Nat.reduceLT, true_and, and_true, Option.toList_some, Option.toList_none, List.nil_append, List.cons_append, List.getElem?_cons_zero, List.getElem?_cons_succ, List.set_cons_zero, List.set_cons_succ, List.length_cons, List.length_nil, y_bool0, y_bool1, not_true_eq_false, not_false_eq_true, false_implies, true_implies, true_or, or_true, false_or, or_false, if_true, if_false, ite_true, ite_false, y_get, H.o, q, H.ld13 (show k < 3 by omega), hA k hkv, wp_miE (fun x hx => by have := ho k x hx; omega) (fun x hx => by have := hlt x hx; omega), z8]
    cases q1 : earO (o k) (fiF o k).2
    · rw [q1, if_neg (by simp)] at ls
      simp only [bi_f, xk_n, xk_i, xk_r, xk_z, xk_l, xcs_0, xcs_i, xcs_r, xcs_z, xcs_l, Nat.reduceAdd, Nat.reduceLeDiff, Nat.reduceLT, true_and, and_true, Option.toList_some, Option.toList_none, List.nil_append, List.cons_append, List.getElem?_cons_zero, List.getElem?_cons_succ, List.set_cons_zero, List.set_cons_succ, List.length_cons, List.length_nil, y_bool0, y_bool1, not_true_eq_false, not_false_eq_true, false_implies, true_implies, true_or, or_true, false_or, or_false, if_true, if_false, ite_true, ite_false]
      rw [← ls]
      exact ih
    · rw [q1, if_pos rfl] at ls
      simp only [bi_t, z10, xk_n, xk_i, xk_r, xk_z, xk_l, xcs_0, xcs_i, xcs_r, xcs_z, xcs_l, Nat.reduceAdd, Nat.reduceLeDiff, Nat.reduceLT, true_and, and_true, Option.toList_some, Option.toList_none, List.nil_append, List.cons_append, List.getElem?_cons_zero, List.getElem?_cons_succ, List.set_cons_zero, List.set_cons_succ, List.length_cons, List.length_nil, y_bool0, y_bool1, not_true_eq_false, not_false_eq_true, false_implies, true_implies, true_or, or_true, false_or, or_false, if_true, if_false, ite_true, ite_false]
      have e1 : Int32.ofNat k = oC (fiF o (k + 1)).1 := by rw [ls]; rfl
      have e2 : o k = (fiF o (k + 1)).2 := by rw [ls]
      rw [e1, e2]
      exact ih
theorem mop_first (hO : okS s) (H : RM h s) (hK : ∀ h', RM h' s → FR MP 0 0 h h' → K (some (.int (opFirst s))) h') : wp (d + 5) 131 0 [some (.ref 25), none, none, none] [] h K := by
  have HX := H
  obtain ⟨hi, p, rH, rW, A, hg, h5, H, G, S, R⟩ := H
  have hv3 := hO.v3
  have hn := hO.n30
  have t0 : (Int32.ofNat (gn (sE s)) = 0) = (gn (sE s) = 0) := propext (n_eql (m := 0) (by omega) (by omega))
  by_cases q : gn (sE s) = 0
  · have e1 : opFirst s = -3 := if_pos q
    rw [e1] at hK
    simp only [w131_0, w131_0n, w131_1, w131_4, w131_7, w131_9, w131_11, w131_13, w131_16, w131_18, w131_19, w131_21, w131_22, w131_23, w131_24, w131_25, w131_25n, w131_26, w131_29, w131_32, w131_32n, w131_33, w131_36, w131_37, w131_38, w131_39, w131_42, w131_45, w131_46, w131_47, w131_47n, w131_48, w131_51, w131_52, w131_53, w131_54, w131_57, w131_60, w131_61, xk_n, xk_i, xk_r, xk_z, xk_l, xcs_0, xcs_i, xcs_r, xcs_z, xcs_l, Nat.reduceAdd, Nat.reduceLeDiff, Nat.reduceLT, true_and, and_true, Option.toList_some, Option.toList_none, List.nil_append, List.cons_append, List.getElem?_cons_zero, List.getElem?_cons_succ, List.set_cons_zero, List.set_cons_succ, List.length_cons, List.length_nil, y_bool0, y_bool1, not_true_eq_false, not_false_eq_true, false_implies, true_implies, true_or, or_true, false_or, or_false, if_true, if_false, ite_true, ite_false, H.cls, wp_mall H hg, t0]
    exact ⟨fun z => absurd q z, fun _ => hK h HX FR.rfl'⟩
  · have e1 : opFirst s = oC (fiF (fun v => vo (atD s v 79)) (gv (sE s))).1 := if_neg q
    rw [e1] at hK
    have hE := hO.okn (c := 0) (by omega)
    have z79 : (79 : Int32) = Int32.ofNat 79 := rfl
    have z9 : (-9 : Int32) = oC none := rfl
    have z0 : (0 : Int32) = Int32.ofNat 0 := rfl
    simp only [w131_0, w131_0n, w131_1, w131_4, w131_7, w131_9, w131_11, w131_13, w131_16, w131_18, w131_19, w131_21, w131_22, w131_23, w131_24, w131_25, w131_25n, w131_26, w131_29, w131_32, w131_32n, w131_33, w131_36, w131_37, w131_38, w131_39, w131_42, w131_45, w131_46, w131_47, w131_47n, w131_48, w131_51, w131_52, w131_53, w131_54, w131_57, w131_60, w131_61, xk_n, xk_i, xk_r, xk_z, xk_l, xcs_0, xcs_i, xcs_r, xcs_z, xcs_l, Nat.reduceAdd, Nat.reduceLeDiff, Nat.reduceLT, true_and, and_true, Option.toList_some, Option.toList_none, List.nil_append, List.cons_append, List.getElem?_cons_zero, List.getElem?_cons_succ, List.set_cons_zero, List.set_cons_succ, List.length_cons, List.length_nil, y_bool0, y_bool1, not_true_eq_false, not_false_eq_true, false_implies, true_implies, true_or, or_true, false_or, or_false, if_true, if_false, ite_true, ite_false, H.cls, wp_mall H hg, t0]
    refine ⟨fun _ => ?_, fun z => absurd z q⟩
    simp only [w131_0, w131_0n, w131_1, w131_4, w131_7, w131_9, w131_10, w131_10n, w131_11, w131_13, w131_16, w131_18, w131_19, w131_21, w131_22, w131_23, w131_25, w131_25n, w131_26, w131_29, w131_32, w131_32n, w131_33, w131_36, w131_37, w131_38, w131_39, w131_42, w131_45, w131_46, w131_47, w131_47n, w131_48, w131_51, w131_52, w131_53, w131_54, w131_57, w131_60, w131_61, xk_n, xk_i, xk_r, xk_z, xk_l, xcs_0, xcs_i, xcs_r, xcs_z, xcs_l, Nat.reduceAdd, Nat.reduceLeDiff, Nat.reduceLT, true_and, and_true, Option.toList_some, Option.toList_none, List.nil_append, List.cons_append, List.getElem?_cons_zero, List.getElem?_cons_succ, List.set_cons_zero, List.set_cons_succ, List.length_cons, List.length_nil, y_bool0, y_bool1, not_true_eq_false, not_false_eq_true, false_implies, true_implies, true_or, or_true, false_or, or_false, if_true, if_false, ite_true, ite_false, H.cls]
    rw [z79]
    refine wp_mgt (show 79 < 80 by omega) H hg G hE hO.2.2.2 fun h1 A1 H1 G1 K1 R1 _ F1 => ?_
    have fin := hK h1 ⟨hi, p, rH, rW, A1, hg, h5, H1, G1, S.kp K1, R.kp K1⟩ F1
    simp only [w131_0, w131_0n, w131_1, w131_4, w131_7, w131_9, w131_10, w131_10n, w131_11, w131_13, w131_16, w131_18, w131_19, w131_21, w131_22, w131_23, w131_25, w131_25n, w131_26, w131_29, w131_32, w131_32n, w131_33, w131_36, w131_37, w131_38, w131_39, w131_42, w131_45, w131_46, w131_47, w131_47n, w131_48, w131_51, w131_52, w131_53, w131_54, w131_57, w131_60, w131_61, xk_n, xk_i, xk_r, xk_z, xk_l, xcs_0, xcs_i, xcs_r, xcs_z, xcs_l, Nat.reduceAdd, Nat.reduceLeDiff, Nat.reduceLT, true_and, and_true, Option.toList_some, Option.toList_none, List.nil_append, List.cons_append, List.getElem?_cons_zero, List.getElem?_cons_succ, List.set_cons_zero, List.set_cons_succ, List.length_cons, List.length_nil, y_bool0, y_bool1, not_true_eq_false, not_false_eq_true, false_implies, true_implies, true_or, or_true, false_or, or_false, if_true, if_false, ite_true, ite_false]
    rw [z9, z0]
    have hfi := (fiF_dm (fr := sFr s) (o := fun v => vo (atD s v 79)) (fun v x hx => runM_vo hx) (gv (sE s))).1
    refine wp_mfi (n := gv (sE s)) (o := fun v => dayM (sFr s) (vo (atD s v 79))) hv3 H1 (fun v x hx => dayM_lt hx) (fun v hv => (R1 v hv).2.2.2.1) ?_ (gv (sE s)) 0 (by omega)
    rw [hfi]
    exact fin
end
