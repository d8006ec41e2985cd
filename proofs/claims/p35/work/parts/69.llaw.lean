/-! ===== the law: a turn's checks ===== -/
def lwK (L : Nat) (r : Option Value) (h : xH) : Prop := r = some (.int 1) ∧ h.length ≤ 600002 ∧ xsl h ≤ L + 7302249
/-- what the law has between two of its calls -/
def LV (h : xH) (s : St) (hi L : Nat) (xs fr fw : Nat → Int32) (t : Nat) : Prop := RX h s ∧ LG h s hi ∧ h[0]? = some (.inl (0, L, .inl xs)) ∧ h[28]? = some (.inl (0, 21, .inl fr)) ∧ h[29]? = some (.inl (0, 63, .inl fw)) ∧ 30 ≤ h.length ∧ h.length ≤ 30 + 4 * t ∧ xsl h ≤ L + 3000 + 40 * t ∧ L < 1000
section
variable {h h' : xH} {s : St} {hi L t : Nat} {xs fr fw : Nat → Int32}
theorem LV.cp (V : LV h s hi L xs fr fw t) (R : RX h' s) (F : FR CP 0 0 h h') : LV h' s hi L xs fr fw t := by
  obtain ⟨a, b, c, d, e, f, g, i, l⟩ := V
  have := F.1
  have := F.2.1
  have := F.2.2.1
  exact ⟨R, b.fr F (CP_no (by omega)) (CP_no (by omega)) (CP_no (by omega)), F.at c (CP_no (by omega)), F.at d (CP_no (by omega)), F.at e (CP_no (by omega)), by omega, by omega, by omega, l⟩
theorem LV.rh (V : LV h s hi L xs fr fw t) {fr' fw' : Nat → Int32} (R : RH h h' fr' fw') : LV h' s hi L xs fr' fw' t := by
  obtain ⟨a, b, c, d, e, f, g, i, l⟩ := V
  have F := R.2.2
  have := F.1
  have := F.2.1
  have := F.2.2.1
  exact ⟨a.fr (F.mono (fun a _ q => ⟨by have := q.1; omega, q.2⟩) (Nat.le_refl _) (Nat.le_refl _)), R.lg b, F.at c (fun z => by have := z.1; omega), R.1, R.2.1, by omega, by omega, by omega, l⟩
theorem LV.r (V : LV h s hi L xs fr fw t) {i x : Int32} {k : Nat} (hi : i = Int32.ofNat k) (hk : k < 21) (hx : fr k = x) (J : Int32 → Prop) : y_iald h 28 i J ↔ J x := yi V.2.2.2.1 hi hk (by omega) hx J
theorem LV.n1 (V : LV h s hi L xs fr fw t) : 1 ≤ gn (sE s) := by
  obtain ⟨⟨a1, a2, a3, a4, a5, a6⟩, -⟩ := V.2.1
  rw [a5]
  exact Nat.mul_le_mul a1 (show 1 ≤ gw (sE s) by omega)
theorem LV.ok (V : LV h s hi L xs fr fw t) : okE (sE s) := V.1.ok.okn (c := 0) (by have := V.n1; omega)
theorem LV.s4 (V : LV h s hi L xs fr fw t) : ∀ c, c < gn (sE s) → gs (sE s) c < 4 := V.1.ok.2.2.2
end
theorem nb_N {m : Nat} (hm : m < 2147483648) : nb (Int32.ofNat m) m = none := nb_f (Or.inr ⟨n_lt0 hm, Int32.le_refl _⟩)
theorem nb_M (m : Nat) : nb (-1) m = none := nb_f (Or.inl (by decide))
theorem lg_same (x : Int64) : lg_cmp x x = 0 := by
  unfold lg_cmp
  simp
theorem oC_inj {a b : Option Nat} (h : a = b) : (oC a = oC b) = True := by rw [h]; exact eq_self _
section
variable {d : Nat} {h : xH} {K : Option Value → xH → Prop} {s : St} {hi L tu t : Nat} {xs fr fw : Nat → Int32} {l5 l10 l11 l12 l13 l14 l15 l16 l17 l18 : Option Value}
/-- the signs -/
theorem wp_sl (V : LV h s hi L xs fr fw t) (hK : ∀ l10, wp (d + 6) 182 147 [some (.ref 0), some (.ref 2), some (.ref 25), some (.ref 26), some (.ref 27), l5, some (.int (Int32.ofNat (gn (sE s)))), some (.ref 28), some (.ref 29), some (.int (Int32.ofNat tu)), l10, l11, l12, l13, l14, l15, l16, l17, l18] [] h K) : ∀ (j c : Nat), c + j = gn (sE s) → wp (d + 6) 182 119 [some (.ref 0), some (.ref 2), some (.ref 25), some (.ref 26), some (.ref 27), l5, some (.int (Int32.ofNat (gn (sE s)))), some (.ref 28), some (.ref 29), some (.int (Int32.ofNat tu)), some (.int (Int32.ofNat c)), l11, l12, l13, l14, l15, l16, l17, l18] [] h K
  | 0, c, hj => by
    have n20 := V.2.1.n20
    have q : Int32.ofNat (gn (sE s)) ≤ Int32.ofNat c := (n_le (by omega) (by omega)).mpr (by omega)
    rw [w182_119]
    simp only [w182_121, w182_123, xk_n, xk_i, xk_r, xk_z, xk_l, xcs_0, xcs_i, xcs_r, xcs_z, xcs_l, Nat.reduceAdd, Nat.reduceLeDiff, Nat.reduceLT, true_and, and_true, Option.toList_some, Option.toList_none, List.nil_append, List.cons_append, List.getElem?_cons_zero, List.getElem?_cons_succ, List.set_cons_zero, List.set_cons_succ, List.length_cons, List.length_nil, y_bool0, y_bool1, not_true_eq_false, not_false_eq_true, false_implies, true_implies, true_or, or_true, false_or, or_false, if_true, if_false, ite_true, ite_false, q]
    exact hK _
  | j + 1, c, hj => by
    have n20 := V.2.1.n20
    have hc : c < gn (sE s) := by omega
    have q : (Int32.ofNat (gn (sE s)) ≤ Int32.ofNat c) = False := eq_false (by rw [n_le (by omega) (by omega)]; omega)
    have z8 : Int32.ofNat c + 1 = Int32.ofNat (c + 1) := n_addl c 1
    have e1 : opSign s (Int32.ofNat c) = Int32.ofNat (gs (sE s) c) := by unfold opSign; rw [nb_t (by omega) hc]
    have q2 : (Int32.ofNat (gs (sE s) c) = Int32.ofNat (gs (sE s) c)) = True := eq_self _
    rw [w182_119]
    simp only [w182_121, w182_123, w182_126, w182_126n, w182_127, w182_129, xk_n, xk_i, xk_r, xk_z, xk_l, xcs_0, xcs_i, xcs_r, xcs_z, xcs_l, Nat.reduceAdd, Nat.reduceLeDiff, Nat.reduceLT, true_and, and_true, Option.toList_some, Option.toList_none, List.nil_append, List.cons_append, List.getElem?_cons_zero, List.getElem?_cons_succ, List.set_cons_zero, List.set_cons_succ, List.length_cons, List.length_nil, y_bool0, y_bool1, not_true_eq_false, not_false_eq_true, false_implies, true_implies, true_or, or_true, false_or, or_false, if_true, if_false, ite_true, ite_false, q, V.1.cls]
    refine cop_sign V.1 (Int32.ofNat c) ?_
    rw [e1]
    simp only [w182_132, w182_132n, w182_133, w182_135, w182_136, w182_139, w182_140, w182_141, w182_144, xk_n, xk_i, xk_r, xk_z, xk_l, xcs_0, xcs_i, xcs_r, xcs_z, xcs_l, Nat.reduceAdd, Nat.reduceLeDiff, Nat.reduceLT, true_and, and_true, Option.toList_some, Option.toList_none, List.nil_append, List.cons_append, List.getElem?_cons_zero, List.getElem?_cons_succ, List.set_cons_zero, List.set_cons_succ, List.length_cons, List.length_nil, y_bool0, y_bool1, not_true_eq_false, not_false_eq_true, false_implies, true_implies, true_or, or_true, false_or, or_false, if_true, if_false, ite_true, ite_false, V.2.1.sg hc, q2, z8]
    exact wp_sl V hK j (c + 1) (by omega)
/-- a day's vines -/
theorem wp_dv {day : Nat} (hd : day < 80) (rr : RR (gv (sE s)) fr fw (sE s) (runD (sE s) (sFr s) (day + 1))) (hK : ∀ h' l11, LV h' s hi L xs fr fw t → wp (d + 6) 182 245 [some (.ref 0), some (.ref 2), some (.ref 25), some (.ref 26), some (.ref 27), l5, some (.int (Int32.ofNat (gn (sE s)))), some (.ref 28), some (.ref 29), some (.int (Int32.ofNat tu)), some (.int (Int32.ofNat day)), l11, l12, l13, l14, l15, l16, l17, l18] [] h' K) : ∀ (j v : Nat) (h : xH), v + j = gv (sE s) → LV h s hi L xs fr fw t → wp (d + 6) 182 174 [some (.ref 0), some (.ref 2), some (.ref 25), some (.ref 26), some (.ref 27), l5, some (.int (Int32.ofNat (gn (sE s)))), some (.ref 28), some (.ref 29), some (.int (Int32.ofNat tu)), some (.int (Int32.ofNat day)), some (.int (Int32.ofNat v)), l12, l13, l14, l15, l16, l17, l18] [] h K
  | 0, v, h, hj, V => by
    have hv3 := V.2.1.1.2.2.2.2.2
    have q : Int32.ofNat (gv (sE s)) ≤ Int32.ofNat v := (n_le (by omega) (by omega)).mpr (by omega)
    rw [w182_174]
    simp only [w182_176, w182_176n, w182_177, w182_178, w182_179, xk_n, xk_i, xk_r, xk_z, xk_l, xcs_0, xcs_i, xcs_r, xcs_z, xcs_l, Nat.reduceAdd, Nat.reduceLeDiff, Nat.reduceLT, true_and, and_true, Option.toList_some, Option.toList_none, List.nil_append, List.cons_append, List.getElem?_cons_zero, List.getElem?_cons_succ, List.set_cons_zero, List.set_cons_succ, List.length_cons, List.length_nil, y_bool0, y_bool1, not_true_eq_false, not_false_eq_true, false_implies, true_implies, true_or, or_true, false_or, or_false, if_true, if_false, ite_true, ite_false, V.2.1.v, q]
    exact hK _ _ V
  | j + 1, v, h, hj, V => by
    have hv3 := V.2.1.1.2.2.2.2.2
    have hv : v < gv (sE s) := by omega
    have q : (Int32.ofNat (gv (sE s)) ≤ Int32.ofNat v) = False := eq_false (by rw [n_le (by omega) (by omega)]; omega)
    have z8 : Int32.ofNat v + 1 = Int32.ofNat (v + 1) := n_addl v 1
    have rm := congrFun (runD_M (E := sE s) (fr := sFr s) (day + 1) (by omega)).1 v
    obtain ⟨⟨r0, r3, r6, -, -, -⟩, -⟩ := rr v hv
    rw [rm] at r0 r3 r6
    replace r0 : fr v = Int32.ofNat (vt (atD s v day)) := r0
    replace r3 : fr (3 + v) = Int32.ofNat (vl (atD s v day)) := r3
    replace r6 : fr (6 + v) = Int32.ofNat (vd (atD s v day)) := r6
    have lf := ((runM_ok V.ok (mild (sFr s) (day + 1)) (by have := mild_k (sFr s) (day + 1); omega)) v hv).leaf V.ok.1.2.2.1
    replace lf : vl (atD s v day) < 1073741824 := lf
    have e1 : opTip s (Int32.ofNat v) (Int32.ofNat day) = Int32.ofNat (vt (atD s v day)) := by unfold opTip; rw [nb_t (by omega) hv, nb_t (by omega) hd]
    have e2 : opLeaves s (Int32.ofNat v) (Int32.ofNat day) = Int64.ofNat (vl (atD s v day)) := by unfold opLeaves; rw [nb_t (by omega) hv, nb_t (by omega) hd]
    have e3 : opDoubts s (Int32.ofNat v) (Int32.ofNat day) = Int32.ofNat (vd (atD s v day)) := by unfold opDoubts; rw [nb_t (by omega) hv, nb_t (by omega) hd]
    have q1 : (Int32.ofNat (vt (atD s v day)) = Int32.ofNat (vt (atD s v day))) = True := eq_self _
    have q3 : (Int32.ofNat (vd (atD s v day)) = Int32.ofNat (vd (atD s v day))) = True := eq_self _
    have q4 : ((0 : Int32) = 0) = True := eq_self _
    have q5 := i2l_n (a := vl (atD s v day)) (by omega)
    have q6 := lg_same (Int64.ofNat (vl (atD s v day)))
    rw [w182_174]
    simp only [w182_176, w182_176n, w182_177, w182_178, w182_179, w182_182, w182_182n, w182_183, w182_185, w182_187, xk_n, xk_i, xk_r, xk_z, xk_l, xcs_0, xcs_i, xcs_r, xcs_z, xcs_l, Nat.reduceAdd, Nat.reduceLeDiff, Nat.reduceLT, true_and, and_true, Option.toList_some, Option.toList_none, List.nil_append, List.cons_append, List.getElem?_cons_zero, List.getElem?_cons_succ, List.set_cons_zero, List.set_cons_succ, List.length_cons, List.length_nil, y_bool0, y_bool1, not_true_eq_false, not_false_eq_true, false_implies, true_implies, true_or, or_true, false_or, or_false, if_true, if_false, ite_true, ite_false, V.2.1.v, q, V.1.cls]
    refine cop_tip V.1 (Int32.ofNat v) (Int32.ofNat day) fun h1 R1 F1 => ?_
    have V1 := V.cp R1 F1
    rw [e1]
    simp only [w182_190, w182_190n, w182_192, w182_194, w182_195, w182_198, w182_198n, w182_199, w182_201, w182_203, xk_n, xk_i, xk_r, xk_z, xk_l, xcs_0, xcs_i, xcs_r, xcs_z, xcs_l, Nat.reduceAdd, Nat.reduceLeDiff, Nat.reduceLT, true_and, and_true, Option.toList_some, Option.toList_none, List.nil_append, List.cons_append, List.getElem?_cons_zero, List.getElem?_cons_succ, List.set_cons_zero, List.set_cons_succ, List.length_cons, List.length_nil, y_bool0, y_bool1, not_true_eq_false, not_false_eq_true, false_implies, true_implies, true_or, or_true, false_or, or_false, if_true, if_false, ite_true, ite_false, V1.r (i := Int32.ofNat v) rfl (by omega) r0, q1, V1.1.cls]
    refine cop_leaves V1.1 (Int32.ofNat v) (Int32.ofNat day) fun h2 R2 F2 => ?_
    have V2 := V1.cp R2 F2
    rw [e2]
    simp only [w182_206, w182_206n, w182_208, w182_209, w182_211, w182_212, w182_213, w182_214, w182_215, w182_218, w182_218n, w182_219, w182_221, w182_223, xk_n, xk_i, xk_r, xk_z, xk_l, xcs_0, xcs_i, xcs_r, xcs_z, xcs_l, Nat.reduceAdd, Nat.reduceLeDiff, Nat.reduceLT, true_and, and_true, Option.toList_some, Option.toList_none, List.nil_append, List.cons_append, List.getElem?_cons_zero, List.getElem?_cons_succ, List.set_cons_zero, List.set_cons_succ, List.length_cons, List.length_nil, y_bool0, y_bool1, not_true_eq_false, not_false_eq_true, false_implies, true_implies, true_or, or_true, false_or, or_false, if_true, if_false, ite_true, ite_false, V2.r (i := 3 + Int32.ofNat v) (n_ladd v 3) (by omega) r3, q4, q5, q6, V2.1.cls]
    refine cop_doubts V2.1 (Int32.ofNat v) (Int32.ofNat day) fun h3 R3 F3 => ?_
    have V3 := V2.cp R3 F3
    rw [e3]
    simp only [w182_226, w182_226n, w182_228, w182_230, w182_232, w182_233, w182_234, w182_237, w182_238, w182_239, w182_242, xk_n, xk_i, xk_r, xk_z, xk_l, xcs_0, xcs_i, xcs_r, xcs_z, xcs_l, Nat.reduceAdd, Nat.reduceLeDiff, Nat.reduceLT, true_and, and_true, Option.toList_some, Option.toList_none, List.nil_append, List.cons_append, List.getElem?_cons_zero, List.getElem?_cons_succ, List.set_cons_zero, List.set_cons_succ, List.length_cons, List.length_nil, y_bool0, y_bool1, not_true_eq_false, not_false_eq_true, false_implies, true_implies, true_or, or_true, false_or, or_false, if_true, if_false, ite_true, ite_false, V3.r (i := 6 + Int32.ofNat v) (n_ladd v 6) (by omega) r6, q3, z8]
    exact wp_dv hd rr hK j (v + 1) h3 (by omega) V3
/-- the days -/
theorem wp_dl (hK : ∀ h' fr fw l10 l11, LV h' s hi L xs fr fw t → wp (d + 6) 182 260 [some (.ref 0), some (.ref 2), some (.ref 25), some (.ref 26), some (.ref 27), l5, some (.int (Int32.ofNat (gn (sE s)))), some (.ref 28), some (.ref 29), some (.int (Int32.ofNat tu)), l10, l11, l12, l13, l14, l15, l16, l17, l18] [] h' K) : ∀ (f day : Nat) (h : xH) (fr fw : Nat → Int32) (l11 : Option Value), 80 ≤ day + f → day < 200 → LV h s hi L xs fr fw t → wp (d + 6) 182 151 [some (.ref 0), some (.ref 2), some (.ref 25), some (.ref 26), some (.ref 27), l5, some (.int (Int32.ofNat (gn (sE s)))), some (.ref 28), some (.ref 29), some (.int (Int32.ofNat tu)), some (.int (Int32.ofNat day)), l11, l12, l13, l14, l15, l16, l17, l18] [] h K
  | 0, day, h, fr, fw, l11, hf, hd, V => by
    have q : 80 ≤ Int32.ofNat day := (n_lle (m := 80) (by omega) (by omega)).mpr (by omega)
    rw [w182_151]
    simp only [w182_153, w182_155, xk_n, xk_i, xk_r, xk_z, xk_l, xcs_0, xcs_i, xcs_r, xcs_z, xcs_l, Nat.reduceAdd, Nat.reduceLeDiff, Nat.reduceLT, true_and, and_true, Option.toList_some, Option.toList_none, List.nil_append, List.cons_append, List.getElem?_cons_zero, List.getElem?_cons_succ, List.set_cons_zero, List.set_cons_succ, List.length_cons, List.length_nil, y_bool0, y_bool1, not_true_eq_false, not_false_eq_true, false_implies, true_implies, true_or, or_true, false_or, or_false, if_true, if_false, ite_true, ite_false, q]
    exact hK _ _ _ _ _ V
  | f + 1, day, h, fr, fw, l11, hf, hd, V => by
    have q : (80 ≤ Int32.ofNat day) = (80 ≤ day) := propext (n_lle (m := 80) (by omega) (by omega))
    rw [w182_151]
    simp only [w182_153, w182_155, w182_158, w182_158n, w182_159, w182_159n, w182_160, w182_160n, w182_162, w182_164, w182_164n, w182_166, w182_166n, w182_168, xk_n, xk_i, xk_r, xk_z, xk_l, xcs_0, xcs_i, xcs_r, xcs_z, xcs_l, Nat.reduceAdd, Nat.reduceLeDiff, Nat.reduceLT, true_and, and_true, Option.toList_some, Option.toList_none, List.nil_append, List.cons_append, List.getElem?_cons_zero, List.getElem?_cons_succ, List.set_cons_zero, List.set_cons_succ, List.length_cons, List.length_nil, y_bool0, y_bool1, not_true_eq_false, not_false_eq_true, false_implies, true_implies, true_or, or_true, false_or, or_false, if_true, if_false, ite_true, ite_false, q]
    refine ⟨fun z => hK _ _ _ _ _ V, fun z => ?_⟩
    refine wp_lgo (ti := day) V.2.1 (Or.inl V.ok) V.n1 V.s4 (by omega) V.2.2.2.1 V.2.2.2.2.1 fun h1 fr1 fw1 R1 rr1 => ?_
    simp only [w182_171, w182_172, xk_n, xk_i, xk_r, xk_z, xk_l, xcs_0, xcs_i, xcs_r, xcs_z, xcs_l, Nat.reduceAdd, Nat.reduceLeDiff, Nat.reduceLT, true_and, and_true, Option.toList_some, Option.toList_none, List.nil_append, List.cons_append, List.getElem?_cons_zero, List.getElem?_cons_succ, List.set_cons_zero, List.set_cons_succ, List.length_cons, List.length_nil, y_bool0, y_bool1, not_true_eq_false, not_false_eq_true, false_implies, true_implies, true_or, or_true, false_or, or_false, if_true, if_false, ite_true, ite_false]
    refine wp_dv (fr := fr1) (fw := fw1) (by omega) rr1 (fun h2 l11 V2 => ?_) (gv (sE s)) 0 h1 (by omega) (V.rh R1)
    have e1 : Int32.ofNat day / 6 = Int32.ofNat (day / 6) := n_div (b := 6) (by omega) (by omega)
    have e2 : (1 : Int32) + Int32.ofNat (day / 6) = Int32.ofNat (1 + day / 6) := n_ladd _ 1
    have e3 : Int32.ofNat day + Int32.ofNat (1 + day / 6) = Int32.ofNat (day + (1 + day / 6)) := n_add _ _
    have e4 : ((6 : Int32) = 0) = False := eq_false (by decide)
    simp only [w182_245, w182_247, w182_248, w182_250, w182_252, w182_253, w182_254, w182_255, w182_257, xk_n, xk_i, xk_r, xk_z, xk_l, xcs_0, xcs_i, xcs_r, xcs_z, xcs_l, Nat.reduceAdd, Nat.reduceLeDiff, Nat.reduceLT, true_and, and_true, Option.toList_some, Option.toList_none, List.nil_append, List.cons_append, List.getElem?_cons_zero, List.getElem?_cons_succ, List.set_cons_zero, List.set_cons_succ, List.length_cons, List.length_nil, y_bool0, y_bool1, not_true_eq_false, not_false_eq_true, false_implies, true_implies, true_or, or_true, false_or, or_false, if_true, if_false, ite_true, ite_false, e1, e2, e3, e4]
    exact wp_dl hK f (day + (1 + day / 6)) h2 fr1 fw1 _ (by omega) (by omega) V2
end
theorem fiF_u (o : Nat → Option Nat) : ∀ k, fiF o k = (none, none) ∨ ∃ u x, u < k ∧ o u = some x ∧ fiF o k = (some u, some x)
  | 0 => Or.inl rfl
  | k + 1 => by
    rw [fiF_s]
    cases q : o k with
    | none =>
      rw [show earO none (fiF o k).2 = false by cases (fiF o k).2 <;> rfl, if_neg (by simp)]
      rcases fiF_u o k with z | ⟨u, x, z1, z2, z3⟩
      · exact Or.inl z
      · exact Or.inr ⟨u, x, by omega, z2, z3⟩
    | some x =>
      by_cases e : earO (some x) (fiF o k).2 = true
      · rw [if_pos e]
        exact Or.inr ⟨k, x, by omega, q, rfl⟩
      · rw [if_neg e]
        rcases fiF_u o k with z | ⟨u, x, z1, z2, z3⟩
        · exact Or.inl z
        · exact Or.inr ⟨u, x, by omega, z2, z3⟩
section
variable {d : Nat} {h : xH} {K : Option Value → xH → Prop} {s : St} {hi L tu t : Nat} {xs fr fw : Nat → Int32} {l5 l10 l11 l12 l13 l14 l15 l16 l17 l18 : Option Value}
/-- a vine's ends, what it is, its shortest way; who is first -/
theorem wp_fv (rr : RR (gv (sE s)) fr fw (sE s) (runD (sE s) (sFr s) 80)) (hK : ∀ h' l11 l12 l13 l14 l15 l16 l17 l18, LV h' s hi L xs fr fw t → wp (d + 6) 182 603 [some (.ref 0), some (.ref 2), some (.ref 25), some (.ref 26), some (.ref 27), l5, some (.int (Int32.ofNat (gn (sE s)))), some (.ref 28), some (.ref 29), some (.int (Int32.ofNat tu)), some (.int (oC (fiF (fun v => vo (runD (sE s) (sFr s) 80 v)) (gv (sE s))).1)), l11, l12, l13, l14, l15, l16, l17, l18] [] h' K) : ∀ (j v : Nat) (h : xH) (l12 l13 l14 l15 l16 l17 l18 : Option Value), v + j = gv (sE s) → LV h s hi L xs fr fw t → wp (d + 6) 182 280 [some (.ref 0), some (.ref 2), some (.ref 25), some (.ref 26), some (.ref 27), l5, some (.int (Int32.ofNat (gn (sE s)))), some (.ref 28), some (.ref 29), some (.int (Int32.ofNat tu)), some (.int (oC (fiF (fun v => vo (runD (sE s) (sFr s) 80 v)) v).1)), some (.int (Int32.ofNat v)), l12, l13, l14, l15, l16, l17, l18] [] h K
  | 0, v, h, l12, l13, l14, l15, l16, l17, l18, hj, V => by
    have hv3 := V.2.1.1.2.2.2.2.2
    have q : Int32.ofNat (gv (sE s)) ≤ Int32.ofNat v := (n_le (by omega) (by omega)).mpr (by omega)
    rw [w182_280]
    simp only [w182_282, w182_282n, w182_283, w182_284, w182_285, xk_n, xk_i, xk_r, xk_z, xk_l, xcs_0, xcs_i, xcs_r, xcs_z, xcs_l, Nat.reduceAdd, Nat.reduceLeDiff, Nat.reduceLT, true_and, and_true, Option.toList_some, Option.toList_none, List.nil_append, List.cons_append, List.getElem?_cons_zero, List.getElem?_cons_succ, List.set_cons_zero, List.set_cons_succ, List.length_cons, List.length_nil, y_bool0, y_bool1, not_true_eq_false, not_false_eq_true, false_implies, true_implies, true_or, or_true, false_or, or_false, if_true, if_false, ite_true, ite_false, V.2.1.v, q]
    have : v = gv (sE s) := by omega
    rw [this]
    exact hK _ _ _ _ _ _ _ _ _ V
  | j + 1, v, h, l12, l13, l14, l15, l16, l17, l18, hj, V => by
    have hv3 := V.2.1.1.2.2.2.2.2
    have n20 := V.2.1.n20
    have hv : v < gv (sE s) := by omega
    have q : (Int32.ofNat (gv (sE s)) ≤ Int32.ofNat v) = False := eq_false (by rw [n_le (by omega) (by omega)]; omega)
    have z8 : Int32.ofNat v + 1 = Int32.ofNat (v + 1) := n_addl v 1
    have hok := runD_ok (f := sFr s) V.ok 80 (by omega)
    have ho : ∀ u, u < gv (sE s) → ∀ x, vo (runD (sE s) (sFr s) 80 u) = some x → x < 1000 := fun u hu => (hok u hu).2.2.2.2.2.2.1
    have rm := congrFun (runD_M (E := sE s) (fr := sFr s) 80 (by omega)).1 v
    obtain ⟨⟨-, -, -, r9, r12, -⟩, -⟩ := rr v hv
    -- who is first
    have at327 : ∀ f : Int32, f = oC (fiF (fun v => vo (runD (sE s) (sFr s) 80 v)) (v + 1)).1 → wp (d + 6) 182 327 [some (.ref 0), some (.ref 2), some (.ref 25), some (.ref 26), some (.ref 27), l5, some (.int (Int32.ofNat (gn (sE s)))), some (.ref 28), some (.ref 29), some (.int (Int32.ofNat tu)), some (.int f), some (.int (Int32.ofNat v)), l12, l13, l14, l15, l16, l17, l18] [] h K := by
      intro f hf
      have d9 : vo (runD (sE s) (sFr s) 80 v) = dayM (sFr s) (vo (atD s v 79)) := by rw [rm]; rfl
      have d12 : vx (runD (sE s) (sFr s) 80 v) = dayM (sFr s) (vx (atD s v 79)) := by rw [rm]; rfl
      rw [d9] at r9
      rw [d12] at r12
      have e1 : opEnds s (Int32.ofNat v) 0 = oC (dayM (sFr s) (vo (atD s v 79))) := by
        unfold opEnds
        rw [nb_t (by omega) hv, show nb 0 2 = some 0 from nb_t (a := 0) (by omega) (by omega)]
        rfl
      have e2 : opEnds s (Int32.ofNat v) 1 = oC (dayM (sFr s) (vx (atD s v 79))) := by
        unfold opEnds
        rw [nb_t (by omega) hv, show nb 1 2 = some 1 from nb_t (a := 1) (by omega) (by omega)]
        rfl
      have q1 : (oC (dayM (sFr s) (vo (atD s v 79))) = oC (dayM (sFr s) (vo (atD s v 79)))) = True := eq_self _
      have q2 : (oC (dayM (sFr s) (vx (atD s v 79))) = oC (dayM (sFr s) (vx (atD s v 79)))) = True := eq_self _
      have e3 : opOfVine s (Int32.ofNat v) 0 = Int32.ofNat (gk (sE s) v) := by
        unfold opOfVine
        rw [nb_t (by omega) hv]
        rfl
      have e4 : opOfVine s (Int32.ofNat v) 1 = Int32.ofNat (gp (sE s) v) := by
        unfold opOfVine
        rw [nb_t (by omega) hv]
        rfl
      have e5 : opOfVine s (Int32.ofNat v) 2 = Int32.ofNat (gh (sE s) v) := by
        unfold opOfVine
        rw [nb_t (by omega) hv]
        rfl
      have q3 : (Int32.ofNat (gk (sE s) v) = Int32.ofNat (gk (sE s) v)) = True := eq_self _
      have q4 : (Int32.ofNat (gp (sE s) v) = Int32.ofNat (gp (sE s) v)) = True := eq_self _
      have q5 : (Int32.ofNat (gh (sE s) v) = Int32.ofNat (gh (sE s) v)) = True := eq_self _
      simp only [w182_327, w182_327n, w182_328, w182_330, w182_331, xk_n, xk_i, xk_r, xk_z, xk_l, xcs_0, xcs_i, xcs_r, xcs_z, xcs_l, Nat.reduceAdd, Nat.reduceLeDiff, Nat.reduceLT, true_and, and_true, Option.toList_some, Option.toList_none, List.nil_append, List.cons_append, List.getElem?_cons_zero, List.getElem?_cons_succ, List.set_cons_zero, List.set_cons_succ, List.length_cons, List.length_nil, y_bool0, y_bool1, not_true_eq_false, not_false_eq_true, false_implies, true_implies, true_or, or_true, false_or, or_false, if_true, if_false, ite_true, ite_false, V.1.cls]
      refine cop_ends V.1 (Int32.ofNat v) 0 fun h1 R1 F1 => ?_
      have V1 := V.cp R1 F1
      rw [e1]
      simp only [w182_334, w182_334n, w182_336, w182_338, w182_340, w182_341, w182_342, w182_345, w182_345n, w182_346, w182_348, w182_349, xk_n, xk_i, xk_r, xk_z, xk_l, xcs_0, xcs_i, xcs_r, xcs_z, xcs_l, Nat.reduceAdd, Nat.reduceLeDiff, Nat.reduceLT, true_and, and_true, Option.toList_some, Option.toList_none, List.nil_append, List.cons_append, List.getElem?_cons_zero, List.getElem?_cons_succ, List.set_cons_zero, List.set_cons_succ, List.length_cons, List.length_nil, y_bool0, y_bool1, not_true_eq_false, not_false_eq_true, false_implies, true_implies, true_or, or_true, false_or, or_false, if_true, if_false, ite_true, ite_false, V1.r (i := 9 + Int32.ofNat v) (n_ladd v 9) (by omega) r9, q1, V1.1.cls]
      refine cop_ends V1.1 (Int32.ofNat v) 1 fun h2 R2 F2 => ?_
      have V2 := V1.cp R2 F2
      rw [e2]
      simp only [w182_352, w182_352n, w182_354, w182_356, w182_358, w182_359, w182_360, w182_363, w182_363n, w182_364, w182_366, w182_367, xk_n, xk_i, xk_r, xk_z, xk_l, xcs_0, xcs_i, xcs_r, xcs_z, xcs_l, Nat.reduceAdd, Nat.reduceLeDiff, Nat.reduceLT, true_and, and_true, Option.toList_some, Option.toList_none, List.nil_append, List.cons_append, List.getElem?_cons_zero, List.getElem?_cons_succ, List.set_cons_zero, List.set_cons_succ, List.length_cons, List.length_nil, y_bool0, y_bool1, not_true_eq_false, not_false_eq_true, false_implies, true_implies, true_or, or_true, false_or, or_false, if_true, if_false, ite_true, ite_false, V2.r (i := 12 + Int32.ofNat v) (n_ladd v 12) (by omega) r12, q2, V2.1.cls]
      refine cop_ofVine V2.1 (Int32.ofNat v) 0 ?_
      rw [e3]
      simp only [w182_370, w182_370n, w182_371, w182_372, w182_374, w182_375, w182_376, w182_379, w182_379n, w182_380, w182_382, w182_383, xk_n, xk_i, xk_r, xk_z, xk_l, xcs_0, xcs_i, xcs_r, xcs_z, xcs_l, Nat.reduceAdd, Nat.reduceLeDiff, Nat.reduceLT, true_and, and_true, Option.toList_some, Option.toList_none, List.nil_append, List.cons_append, List.getElem?_cons_zero, List.getElem?_cons_succ, List.set_cons_zero, List.set_cons_succ, List.length_cons, List.length_nil, y_bool0, y_bool1, not_true_eq_false, not_false_eq_true, false_implies, true_implies, true_or, or_true, false_or, or_false, if_true, if_false, ite_true, ite_false, V2.2.1.k hv, q3, V2.1.cls]
      refine cop_ofVine V2.1 (Int32.ofNat v) 1 ?_
      rw [e4]
      simp only [w182_386, w182_386n, w182_387, w182_389, w182_391, w182_392, w182_393, w182_396, w182_396n, w182_397, w182_399, w182_400, xk_n, xk_i, xk_r, xk_z, xk_l, xcs_0, xcs_i, xcs_r, xcs_z, xcs_l, Nat.reduceAdd, Nat.reduceLeDiff, Nat.reduceLT, true_and, and_true, Option.toList_some, Option.toList_none, List.nil_append, List.cons_append, List.getElem?_cons_zero, List.getElem?_cons_succ, List.set_cons_zero, List.set_cons_succ, List.length_cons, List.length_nil, y_bool0, y_bool1, not_true_eq_false, not_false_eq_true, false_implies, true_implies, true_or, or_true, false_or, or_false, if_true, if_false, ite_true, ite_false, V2.2.1.p hv, q4, V2.1.cls]
      refine cop_ofVine V2.1 (Int32.ofNat v) 2 ?_
      rw [e5]
      have hp := (V.ok.2.2 v hv).2.1
      have e6 : (1 : Int32) <<< (Int32.ofNat (gp (sE s) v) &&& 31) = Int32.ofNat (2 ^ gp (sE s) v) := i_one (by omega)
      simp only [w182_403, w182_403n, w182_404, w182_406, w182_408, w182_409, w182_410, w182_413, w182_414, w182_415, w182_416, w182_416n, w182_417, w182_419, w182_421, w182_422, w182_423, w182_424, w182_426, w182_427, w182_429, w182_431, xk_n, xk_i, xk_r, xk_z, xk_l, xcs_0, xcs_i, xcs_r, xcs_z, xcs_l, Nat.reduceAdd, Nat.reduceLeDiff, Nat.reduceLT, true_and, and_true, Option.toList_some, Option.toList_none, List.nil_append, List.cons_append, List.getElem?_cons_zero, List.getElem?_cons_succ, List.set_cons_zero, List.set_cons_succ, List.length_cons, List.length_nil, y_bool0, y_bool1, not_true_eq_false, not_false_eq_true, false_implies, true_implies, true_or, or_true, false_or, or_false, if_true, if_false, ite_true, ite_false, V2.2.1.hd hv, V2.2.1.p hv, q5, e6]
      have e7 : opShort s (Int32.ofNat v) = oC (stO (sE s) (gp (sE s) v) (gn (sE s) - 1) 1) := by
        unfold opShort
        rw [nb_t (by omega) hv]
      have q7 : (oC (stO (sE s) (gp (sE s) v) (gn (sE s) - 1) 1) = oC (stO (sE s) (gp (sE s) v) (gn (sE s) - 1) 1)) = True := eq_self _
      refine wp_lw (p := gp (sE s) v) (d := d + 5) V2.2.1 V2.s4 hp (fun l12 l13 l15 l16 l17 l18 => ?_) 21 0 _ _ _ _ (by omega) (fun y hy => by rw [show y = 0 by omega]; exact hit_0)
      simp only [w182_584, w182_584n, w182_585, w182_587, xk_n, xk_i, xk_r, xk_z, xk_l, xcs_0, xcs_i, xcs_r, xcs_z, xcs_l, Nat.reduceAdd, Nat.reduceLeDiff, Nat.reduceLT, true_and, and_true, Option.toList_some, Option.toList_none, List.nil_append, List.cons_append, List.getElem?_cons_zero, List.getElem?_cons_succ, List.set_cons_zero, List.set_cons_succ, List.length_cons, List.length_nil, y_bool0, y_bool1, not_true_eq_false, not_false_eq_true, false_implies, true_implies, true_or, or_true, false_or, or_false, if_true, if_false, ite_true, ite_false, V2.1.cls]
      refine cop_shortest V2.1 (Int32.ofNat v) ?_
      rw [e7]
      simp only [w182_590, w182_592, w182_595, w182_596, w182_597, w182_600, xk_n, xk_i, xk_r, xk_z, xk_l, xcs_0, xcs_i, xcs_r, xcs_z, xcs_l, Nat.reduceAdd, Nat.reduceLeDiff, Nat.reduceLT, true_and, and_true, Option.toList_some, Option.toList_none, List.nil_append, List.cons_append, List.getElem?_cons_zero, List.getElem?_cons_succ, List.set_cons_zero, List.set_cons_succ, List.length_cons, List.length_nil, y_bool0, y_bool1, not_true_eq_false, not_false_eq_true, false_implies, true_implies, true_or, or_true, false_or, or_false, if_true, if_false, ite_true, ite_false, q7, z8]
      rw [hf]
      exact wp_fv rr hK j (v + 1) h2 _ _ _ _ _ _ _ (by omega) V2
    have fs := fiF_s (fun v => vo (runD (sE s) (sFr s) 80 v)) v
    have fu := fiF_u (fun v => vo (runD (sE s) (sFr s) 80 v)) v
    have hov := ho v hv
    have rr' : ∀ u, u < gv (sE s) → fr (9 + u) = oC (vo (runD (sE s) (sFr s) 80 u)) := fun u hu => (rr u hu).1.2.2.2.1
    generalize fiF (fun v => vo (runD (sE s) (sFr s) 80 v)) (v + 1) = b1 at fs at327
    generalize fiF (fun v => vo (runD (sE s) (sFr s) 80 v)) v = b0 at fs fu ⊢
    have i9 := fun J => V.r (i := 9 + Int32.ofNat v) (n_ladd v 9) (by omega) r9 J
    have l9 : (oC (vo (runD (sE s) (sFr s) 80 v)) < 0) = ((vo (runD (sE s) (sFr s) 80 v)).isSome = false) := by
      have := oC_neg hov
      rw [← Int32.not_le, this]
      simp
    rw [w182_280]
    simp only [w182_282, w182_282n, w182_283, w182_284, w182_285, w182_288, w182_288n, w182_290, w182_292, w182_294, w182_295, w182_296, xk_n, xk_i, xk_r, xk_z, xk_l, xcs_0, xcs_i, xcs_r, xcs_z, xcs_l, Nat.reduceAdd, Nat.reduceLeDiff, Nat.reduceLT, true_and, and_true, Option.toList_some, Option.toList_none, List.nil_append, List.cons_append, List.getElem?_cons_zero, List.getElem?_cons_succ, List.set_cons_zero, List.set_cons_succ, List.length_cons, List.length_nil, y_bool0, y_bool1, not_true_eq_false, not_false_eq_true, false_implies, true_implies, true_or, or_true, false_or, or_false, if_true, if_false, ite_true, ite_false, V.2.1.v, q, i9, l9]
    cases q9 : vo (runD (sE s) (sFr s) 80 v) with
    | none =>
      rw [q9, show earO none b0.2 = false by cases b0.2 <;> rfl, if_neg (by simp)] at fs
      refine ⟨fun _ => at327 _ (by rw [fs]), fun z => absurd rfl z⟩
    | some x =>
      refine ⟨fun z => (by cases z), fun _ => ?_⟩
      rw [q9] at fs
      have hx := hov x q9
      rcases fu with rfl | ⟨u, y, u1, u2, rfl⟩
      · have q1 : (oC none < 0) = True := eq_true (by decide)
        simp only [w182_299, w182_301, w182_304, w182_304n, w182_306, w182_308, w182_310, w182_311, w182_312, w182_312n, w182_314, w182_316, w182_318, w182_319, w182_320, w182_323, w182_325, xk_n, xk_i, xk_r, xk_z, xk_l, xcs_0, xcs_i, xcs_r, xcs_z, xcs_l, Nat.reduceAdd, Nat.reduceLeDiff, Nat.reduceLT, true_and, and_true, Option.toList_some, Option.toList_none, List.nil_append, List.cons_append, List.getElem?_cons_zero, List.getElem?_cons_succ, List.set_cons_zero, List.set_cons_succ, List.length_cons, List.length_nil, y_bool0, y_bool1, not_true_eq_false, not_false_eq_true, false_implies, true_implies, true_or, or_true, false_or, or_false, if_true, if_false, ite_true, ite_false, q1]
        rw [show earO (some x) none = true from rfl, if_pos rfl] at fs
        exact at327 _ (by rw [fs]; rfl)
      · have q1 : (oC (some u) < 0) = False := eq_false (n_lt0 (by omega))
        have q1' : oC (some u) = Int32.ofNat u := rfl
        have hy := ho u (by omega) y u2
        have ru := rr' u (by omega)
        rw [u2] at ru
        rw [q9] at r9
        have i9' := fun J => V.r (i := 9 + Int32.ofNat v) (n_ladd v 9) (by omega) r9 J
        have iu := fun J => V.r (i := 9 + Int32.ofNat u) (n_ladd u 9) (by omega) ru J
        have q2 : (oC (some y) ≤ oC (some x)) = (y ≤ x) := propext (n_le (by omega) (by omega))
        simp only [w182_299, w182_301, xk_n, xk_i, xk_r, xk_z, xk_l, xcs_0, xcs_i, xcs_r, xcs_z, xcs_l, Nat.reduceAdd, Nat.reduceLeDiff, Nat.reduceLT, true_and, and_true, Option.toList_some, Option.toList_none, List.nil_append, List.cons_append, List.getElem?_cons_zero, List.getElem?_cons_succ, List.set_cons_zero, List.set_cons_succ, List.length_cons, List.length_nil, y_bool0, y_bool1, not_true_eq_false, not_false_eq_true, false_implies, true_implies, true_or, or_true, false_or, or_false, if_true, if_false, ite_true, ite_false, q1]
        simp only [w182_304, w182_304n, w182_306, w182_308, w182_310, w182_311, w182_312, w182_312n, w182_314, w182_316, w182_318, w182_319, w182_320, w182_323, w182_325, xk_n, xk_i, xk_r, xk_z, xk_l, xcs_0, xcs_i, xcs_r, xcs_z, xcs_l, Nat.reduceAdd, Nat.reduceLeDiff, Nat.reduceLT, true_and, and_true, Option.toList_some, Option.toList_none, List.nil_append, List.cons_append, List.getElem?_cons_zero, List.getElem?_cons_succ, List.set_cons_zero, List.set_cons_succ, List.length_cons, List.length_nil, y_bool0, y_bool1, not_true_eq_false, not_false_eq_true, false_implies, true_implies, true_or, or_true, false_or, or_false, if_true, if_false, ite_true, ite_false, q1', i9', iu, q2]
        rw [show earO (some x) (some y) = decide (x < y) from rfl] at fs
        refine ⟨fun z => ?_, fun z => ?_⟩
        · rw [decide_eq_false (by omega), if_neg (by simp)] at fs
          exact at327 _ (by rw [fs]; rfl)
        · rw [decide_eq_true (by omega), if_pos rfl] at fs
          exact at327 _ (by rw [fs]; rfl)
/-- a turn behind its change -/
theorem wp_turn (V : LV h s hi L xs fr fw t) (hK : ∀ h' fr fw l10 l11 l12 l13 l14 l15 l16 l17 l18, LV h' s hi L xs fr fw t → wp (d + 6) 182 625 [some (.ref 0), some (.ref 2), some (.ref 25), some (.ref 26), some (.ref 27), l5, some (.int (Int32.ofNat (gn (sE s)))), some (.ref 28), some (.ref 29), some (.int (Int32.ofNat tu)), l10, l11, l12, l13, l14, l15, l16, l17, l18] [] h' K) (htu : tu < 3) : wp (d + 6) 182 116 [some (.ref 0), some (.ref 2), some (.ref 25), some (.ref 26), some (.ref 27), l5, some (.int (Int32.ofNat (gn (sE s)))), some (.ref 28), some (.ref 29), some (.int (Int32.ofNat tu)), l10, l11, l12, l13, l14, l15, l16, l17, l18] [] h K := by
  simp only [w182_116, w182_117, xk_n, xk_i, xk_r, xk_z, xk_l, xcs_0, xcs_i, xcs_r, xcs_z, xcs_l, Nat.reduceAdd, Nat.reduceLeDiff, Nat.reduceLT, true_and, and_true, Option.toList_some, Option.toList_none, List.nil_append, List.cons_append, List.getElem?_cons_zero, List.getElem?_cons_succ, List.set_cons_zero, List.set_cons_succ, List.length_cons, List.length_nil, y_bool0, y_bool1, not_true_eq_false, not_false_eq_true, false_implies, true_implies, true_or, or_true, false_or, or_false, if_true, if_false, ite_true, ite_false]
  refine wp_sl V (fun l10 => ?_) (gn (sE s)) 0 (by omega)
  simp only [w182_147, w182_149, xk_n, xk_i, xk_r, xk_z, xk_l, xcs_0, xcs_i, xcs_r, xcs_z, xcs_l, Nat.reduceAdd, Nat.reduceLeDiff, Nat.reduceLT, true_and, and_true, Option.toList_some, Option.toList_none, List.nil_append, List.cons_append, List.getElem?_cons_zero, List.getElem?_cons_succ, List.set_cons_zero, List.set_cons_succ, List.length_cons, List.length_nil, y_bool0, y_bool1, not_true_eq_false, not_false_eq_true, false_implies, true_implies, true_or, or_true, false_or, or_false, if_true, if_false, ite_true, ite_false]
  refine wp_dl (fun h1 fr1 fw1 l10 l11 V1 => ?_) 80 tu h fr fw _ (by omega) (by omega) V
  have z79 : (79 : Int32) = Int32.ofNat 79 := rfl
  simp only [w182_260, w182_260n, w182_261, w182_261n, w182_262, w182_262n, w182_264, w182_266, w182_266n, w182_268, w182_268n, w182_270, xk_n, xk_i, xk_r, xk_z, xk_l, xcs_0, xcs_i, xcs_r, xcs_z, xcs_l, Nat.reduceAdd, Nat.reduceLeDiff, Nat.reduceLT, true_and, and_true, Option.toList_some, Option.toList_none, List.nil_append, List.cons_append, List.getElem?_cons_zero, List.getElem?_cons_succ, List.set_cons_zero, List.set_cons_succ, List.length_cons, List.length_nil, y_bool0, y_bool1, not_true_eq_false, not_false_eq_true, false_implies, true_implies, true_or, or_true, false_or, or_false, if_true, if_false, ite_true, ite_false]
  rw [z79]
  refine wp_lgo (ti := 79) V1.2.1 (Or.inl V1.ok) V1.n1 V1.s4 (by omega) V1.2.2.2.1 V1.2.2.2.2.1 fun h2 fr2 fw2 R2 rr2 => ?_
  simp only [w182_273, w182_275, w182_277, w182_278, xk_n, xk_i, xk_r, xk_z, xk_l, xcs_0, xcs_i, xcs_r, xcs_z, xcs_l, Nat.reduceAdd, Nat.reduceLeDiff, Nat.reduceLT, true_and, and_true, Option.toList_some, Option.toList_none, List.nil_append, List.cons_append, List.getElem?_cons_zero, List.getElem?_cons_succ, List.set_cons_zero, List.set_cons_succ, List.length_cons, List.length_nil, y_bool0, y_bool1, not_true_eq_false, not_false_eq_true, false_implies, true_implies, true_or, or_true, false_or, or_false, if_true, if_false, ite_true, ite_false]
  have V2 := V1.rh R2
  refine wp_fv (fr := fr2) (fw := fw2) rr2 (fun h3 l11 l12 l13 l14 l15 l16 l17 l18 V3 => ?_) (gv (sE s)) 0 h2 _ _ _ _ _ _ _ (by omega) V2
  have e1 : opFirst s = oC (fiF (fun v => vo (runD (sE s) (sFr s) 80 v)) (gv (sE s))).1 := by
    have hn := V3.n1
    unfold opFirst
    rw [if_neg (by omega)]
    have hdm := (fiF_dm (fr := sFr s) (o := fun v => vo (atD s v 79)) (fun v x hx => runM_vo hx) (gv (sE s))).1
    have hfun : (fun v => dayM (sFr s) (vo (atD s v 79))) = fun v => vo (runD (sE s) (sFr s) 80 v) := by
      funext v
      rw [congrFun (runD_M (E := sE s) (fr := sFr s) 80 (by omega)).1 v]
      rfl
    rw [hfun] at hdm
    rw [hdm]
  have e2 : opMany s 2 = Int32.ofNat (gv (sE s)) := rfl
  have q1 : (oC (fiF (fun v => vo (runD (sE s) (sFr s) 80 v)) (gv (sE s))).1 = oC (fiF (fun v => vo (runD (sE s) (sFr s) 80 v)) (gv (sE s))).1) = True := eq_self _
  have q2 : (Int32.ofNat (gv (sE s)) = Int32.ofNat (gv (sE s))) = True := eq_self _
  simp only [w182_603, w182_603n, w182_604, xk_n, xk_i, xk_r, xk_z, xk_l, xcs_0, xcs_i, xcs_r, xcs_z, xcs_l, Nat.reduceAdd, Nat.reduceLeDiff, Nat.reduceLT, true_and, and_true, Option.toList_some, Option.toList_none, List.nil_append, List.cons_append, List.getElem?_cons_zero, List.getElem?_cons_succ, List.set_cons_zero, List.set_cons_succ, List.length_cons, List.length_nil, y_bool0, y_bool1, not_true_eq_false, not_false_eq_true, false_implies, true_implies, true_or, or_true, false_or, or_false, if_true, if_false, ite_true, ite_false, V3.1.cls]
  refine cop_first V3.1 fun h4 R4 F4 => ?_
  have V4 := V3.cp R4 F4
  rw [e1]
  simp only [w182_607, w182_609, w182_612, w182_612n, w182_613, w182_614, xk_n, xk_i, xk_r, xk_z, xk_l, xcs_0, xcs_i, xcs_r, xcs_z, xcs_l, Nat.reduceAdd, Nat.reduceLeDiff, Nat.reduceLT, true_and, and_true, Option.toList_some, Option.toList_none, List.nil_append, List.cons_append, List.getElem?_cons_zero, List.getElem?_cons_succ, List.set_cons_zero, List.set_cons_succ, List.length_cons, List.length_nil, y_bool0, y_bool1, not_true_eq_false, not_false_eq_true, false_implies, true_implies, true_or, or_true, false_or, or_false, if_true, if_false, ite_true, ite_false, q1, V4.1.cls]
  refine cop_many V4.1 2 ?_
  rw [e2]
  simp only [w182_617, w182_617n, w182_618, w182_619, w182_620, xk_n, xk_i, xk_r, xk_z, xk_l, xcs_0, xcs_i, xcs_r, xcs_z, xcs_l, Nat.reduceAdd, Nat.reduceLeDiff, Nat.reduceLT, true_and, and_true, Option.toList_some, Option.toList_none, List.nil_append, List.cons_append, List.getElem?_cons_zero, List.getElem?_cons_succ, List.set_cons_zero, List.set_cons_succ, List.length_cons, List.length_nil, y_bool0, y_bool1, not_true_eq_false, not_false_eq_true, false_implies, true_implies, true_or, or_true, false_or, or_false, if_true, if_false, ite_true, ite_false, V4.2.1.v, q2]
  exact hK _ _ _ _ _ _ _ _ _ _ _ _ V4
end
