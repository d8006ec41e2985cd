/-! ===== the law's go: its rows, its inner loops ===== -/
section
variable {h : xH} {s : St} {hi : Nat}
theorem LG.v (H : LG h s hi) (J : Int32 → Prop) : y_iald h 25 2 J ↔ J (Int32.ofNat (gv (sE s))) := by
  obtain ⟨-, ⟨f, b1, b2, b3, b4, b5⟩, -⟩ := H
  exact yi b1 (k := 2) rfl (by omega) (by omega) b4 J
theorem LG.k (H : LG h s hi) {v : Nat} (hv : v < gv (sE s)) (J : Int32 → Prop) : y_iald h 25 (3 + Int32.ofNat v) J ↔ J (Int32.ofNat (gk (sE s) v)) := by
  obtain ⟨⟨-, -, -, -, -, a6⟩, ⟨f, b1, b2, b3, b4, b5⟩, -⟩ := H
  exact yi b1 (n_ladd v 3) (by omega) (by omega) (b5 v hv).1 J
theorem LG.p (H : LG h s hi) {v : Nat} (hv : v < gv (sE s)) (J : Int32 → Prop) : y_iald h 25 (6 + Int32.ofNat v) J ↔ J (Int32.ofNat (gp (sE s) v)) := by
  obtain ⟨⟨-, -, -, -, -, a6⟩, ⟨f, b1, b2, b3, b4, b5⟩, -⟩ := H
  exact yi b1 (n_ladd v 6) (by omega) (by omega) (b5 v hv).2.1 J
theorem LG.hd (H : LG h s hi) {v : Nat} (hv : v < gv (sE s)) (J : Int32 → Prop) : y_iald h 25 (9 + Int32.ofNat v) J ↔ J (Int32.ofNat (gh (sE s) v)) := by
  obtain ⟨⟨-, -, -, -, -, a6⟩, ⟨f, b1, b2, b3, b4, b5⟩, -⟩ := H
  exact yi b1 (n_ladd v 9) (by omega) (by omega) (b5 v hv).2.2 J
theorem LG.sg (H : LG h s hi) {c : Nat} (hc : c < gn (sE s)) (J : Int32 → Prop) : y_iald h 26 (Int32.ofNat c) J ↔ J (Int32.ofNat (gs (sE s) c)) := by
  have hn := H.n20
  obtain ⟨-, -, ⟨f, b1, b2⟩, -⟩ := H
  exact yi b1 (k := c) rfl (by omega) (by omega) (b2 c hc) J
end
/-- the rows r and way, since h0 nothing else is written -/
def RH (h0 h : xH) (fr fw : Nat → Int32) : Prop := h[28]? = some (.inl (0, 21, .inl fr)) ∧ h[29]? = some (.inl (0, 63, .inl fw)) ∧ FR LR 0 0 h0 h
section
variable {h0 h : xH} {fr fw : Nat → Int32} {s : St} {hi : Nat}
theorem RH.r (H : RH h0 h fr fw) {i x : Int32} {k : Nat} (hi : i = Int32.ofNat k) (hk : k < 21) (hx : fr k = x) (J : Int32 → Prop) : y_iald h 28 i J ↔ J x := yi H.1 hi hk (by omega) hx J
theorem RH.w (H : RH h0 h fr fw) {i x : Int32} {k : Nat} (hi : i = Int32.ofNat k) (hk : k < 63) (hx : fw k = x) (J : Int32 → Prop) : y_iald h 29 i J ↔ J x := yi H.2.1 hi hk (by omega) hx J
theorem RH.sr (H : RH h0 h fr fw) {i x : Int32} {k : Nat} (hi : i = Int32.ofNat k) (hk : k < 21) {J : xH → Prop} (hJ : ∀ h', RH h0 h' (upd fr k x) fw → J h') : y_iast h 28 i x J := by
  rw [ys H.1 (by omega) hi hk (by omega)]
  exact hJ _ ⟨h_set_at H.1, h_set_ne H.2.1 (by omega), H.2.2.tr ((FR.set (c := .inl (0, 21, .inl (upd fr k x))) H.1 rfl).mono (fun a _ q => by subst q; exact ⟨by omega, by omega⟩) (Nat.le_refl _) (Nat.le_refl _))⟩
theorem RH.sw (H : RH h0 h fr fw) {i x : Int32} {k : Nat} (hi : i = Int32.ofNat k) (hk : k < 63) {J : xH → Prop} (hJ : ∀ h', RH h0 h' fr (upd fw k x) → J h') : y_iast h 29 i x J := by
  rw [ys H.2.1 (by omega) hi hk (by omega)]
  exact hJ _ ⟨h_set_ne H.1 (by omega), h_set_at H.2.1, H.2.2.tr ((FR.set (c := .inl (0, 63, .inl (upd fw k x))) H.2.1 rfl).mono (fun a _ q => by subst q; exact ⟨by omega, by omega⟩) (Nat.le_refl _) (Nat.le_refl _))⟩
theorem RH.lg (H : RH h0 h fr fw) (L : LG h0 s hi) : LG h s hi := L.fr H.2.2 (fun z => by have := z.1; omega) (fun z => by have := z.1; omega) (fun z => by have := z.1; omega)
end
/-- what the rows tell of n vines -/
def RR (n : Nat) (fr fw : Nat → Int32) (E : Gd) (G : Nat → Vs) : Prop := ∀ v, v < n → (fr v = Int32.ofNat (vt (G v)) ∧ fr (3 + v) = Int32.ofNat (vl (G v)) ∧ fr (6 + v) = Int32.ofNat (vd (G v)) ∧ fr (9 + v) = oC (vo (G v)) ∧ fr (12 + v) = oC (vx (G v)) ∧ fr (15 + v) = Int32.ofNat (vh (G v))) ∧ ∃ dep p, fr (18 + v) = Int32.ofNat dep ∧ (∀ k, k ≤ dep → fw (21 * v + k) = Int32.ofNat (p k)) ∧ dep < 20 ∧ PTH E v (G v) dep p
theorem RR.up {n v : Nat} {fr fw fr' fw' : Nat → Int32} {E : Gd} {G : Nat → Vs} {x : Vs} (rr : RR n fr fw E G) (hn : n ≤ 3) (hv : v < n) (hr : ∀ i, i % 3 ≠ v → fr' i = fr i) (hw : ∀ i, i / 21 ≠ v → fw' i = fw i) (hx : (fr' v = Int32.ofNat (vt x) ∧ fr' (3 + v) = Int32.ofNat (vl x) ∧ fr' (6 + v) = Int32.ofNat (vd x) ∧ fr' (9 + v) = oC (vo x) ∧ fr' (12 + v) = oC (vx x) ∧ fr' (15 + v) = Int32.ofNat (vh x)) ∧ ∃ dep p, fr' (18 + v) = Int32.ofNat dep ∧ (∀ k, k ≤ dep → fw' (21 * v + k) = Int32.ofNat (p k)) ∧ dep < 20 ∧ PTH E v x dep p) : RR n fr' fw' E (upG G v x) := by
  intro u hu
  by_cases q : u = v
  · subst q
    rw [upG_at]
    exact hx
  · rw [upG_ne _ _ q]
    obtain ⟨⟨a1, a2, a3, a4, a5, a6⟩, dep, p, b1, b2, b3, b4⟩ := rr u hu
    refine ⟨⟨?_, ?_, ?_, ?_, ?_, ?_⟩, dep, p, ?_, fun k hk => ?_, b3, b4⟩
    · rw [hr u (by omega)]; exact a1
    · rw [hr _ (by omega)]; exact a2
    · rw [hr _ (by omega)]; exact a3
    · rw [hr _ (by omega)]; exact a4
    · rw [hr _ (by omega)]; exact a5
    · rw [hr _ (by omega)]; exact a6
    · rw [hr _ (by omega)]; exact b1
    · rw [hw _ (by omega)]; exact b2 k hk
theorem i_bitB {L c : Nat} (hL : L < 1073741824) (hc : c < 30) : Int32.ofNat L >>> (Int32.ofNat c &&& 31) &&& 1 = bi (L.testBit c) := by
  rw [i_shr (by omega) (by omega), i_and1 (by have := Nat.div_le_self L (2 ^ c); omega), l_tst]
  have h2 : L / 2 ^ c % 2 < 2 := Nat.mod_lt _ (by omega)
  have : L / 2 ^ c % 2 = 0 ∨ L / 2 ^ c % 2 = 1 := by omega
  rcases this with e | e <;> rw [e] <;> decide
theorem i_one {c : Nat} (hc : c < 30) : (1 : Int32) <<< (Int32.ofNat c &&& 31) = Int32.ofNat (2 ^ c) := by
  have h1 : 2 ^ c < 1073741824 := Nat.pow_lt_pow_right (n := 30) (by omega) hc
  have := i_shl (L := 1) (c := c) (by omega) (by omega)
  rw [Nat.one_mul] at this
  exact this
theorem oC_neg {o : Option Nat} (ho : ∀ x, o = some x → x < 1000) : (0 ≤ oC o) = (o.isSome = true) := by
  cases o with
  | none => exact propext ⟨fun z => absurd z (by decide), fun z => by cases z⟩
  | some x => exact propext ⟨fun _ => rfl, fun _ => Int32.not_lt.mp (n_lt0 (by have := ho x rfl; omega))⟩
section
variable {d : Nat} {h : xH} {K : Option Value → xH → Prop} {s : St} {hi ti t v : Nat} {h0 : xH} {fr fw : Nat → Int32} {G : Nat → Vs}
/-- all leaves -/
theorem wp_full (H : LG h s hi) (R : RH h0 h fr fw) (rr : RR (gv (sE s)) fr fw (sE s) G) (hE : okE (sE s)) (ok : okG (sE s) G) : ∀ (j x : Nat) (l10 l11 l12 l13 l14 : Option Value), x + j = gv (sE s) → (∀ l9, wp d 181 213 [some (.ref 25), some (.ref 26), some (.ref 27), some (.int (Int32.ofNat ti)), some (.ref 28), some (.ref 29), some (.int (Int32.ofNat t)), some (.int (Int32.ofNat v)), some (.int (Int32.ofNat (allL G (gv (sE s))))), some (.int l9), l10, l11, l12, l13, l14] [] h K) → wp d 181 187 [some (.ref 25), some (.ref 26), some (.ref 27), some (.int (Int32.ofNat ti)), some (.ref 28), some (.ref 29), some (.int (Int32.ofNat t)), some (.int (Int32.ofNat v)), some (.int (Int32.ofNat (allL G x))), some (.int (Int32.ofNat x)), l10, l11, l12, l13, l14] [] h K
  | 0, x, l10, l11, l12, l13, l14, hj, hK => by
    have hv3 := H.1.2.2.2.2.2
    have q : Int32.ofNat (gv (sE s)) ≤ Int32.ofNat x := (n_le (by omega) (by omega)).mpr (by omega)
    rw [w181_187]
    simp only [w181_189, w181_189n, w181_190, w181_191, w181_192, w181_195, w181_197, w181_197n, w181_199, w181_200, w181_202, w181_203, w181_204, w181_205, w181_207, w181_210, xk_n, xk_i, xk_r, xk_z, xk_l, xcs_0, xcs_i, xcs_r, xcs_z, xcs_l, Nat.reduceAdd, Nat.reduceLeDiff, Nat.reduceLT, true_and, and_true, Option.toList_some, Option.toList_none, List.nil_append, List.cons_append, List.getElem?_cons_zero, List.getElem?_cons_succ, List.set_cons_zero, List.set_cons_succ, List.length_cons, List.length_nil, y_bool0, y_bool1, not_true_eq_false, not_false_eq_true, false_implies, true_implies, true_or, or_true, false_or, or_false, if_true, if_false, ite_true, ite_false, H.v, q]
    have : x = gv (sE s) := by omega
    rw [this]
    exact hK _
  | j + 1, x, l10, l11, l12, l13, l14, hj, hK => by
    have hv3 := H.1.2.2.2.2.2
    have q : (Int32.ofNat (gv (sE s)) ≤ Int32.ofNat x) = False := eq_false (by rw [n_le (by omega) (by omega)]; omega)
    have z8 : Int32.ofNat x + 1 = Int32.ofNat (x + 1) := n_addl x 1
    have a1 := ok.allk hE (k := x) (by omega)
    have a2 := (ok x (by omega)).leaf hE.1.2.2.1
    have e1 : Int32.ofNat (allL G x) ||| Int32.ofNat (vl (G x)) = Int32.ofNat (allL G (x + 1)) := i_or (by omega) (by omega)
    have ih := wp_full H R rr hE ok j (x + 1) l10 l11 l12 l13 l14 (by omega) hK
    rw [w181_187]
    simp only [w181_189, w181_189n, w181_190, w181_191, w181_192, w181_195, w181_197, w181_197n, w181_199, w181_200, w181_202, w181_203, w181_204, w181_205, w181_207, w181_210, xk_n, xk_i, xk_r, xk_z, xk_l, xcs_0, xcs_i, xcs_r, xcs_z, xcs_l, Nat.reduceAdd, Nat.reduceLeDiff, Nat.reduceLT, true_and, and_true, Option.toList_some, Option.toList_none, List.nil_append, List.cons_append, List.getElem?_cons_zero, List.getElem?_cons_succ, List.set_cons_zero, List.set_cons_succ, List.length_cons, List.length_nil, y_bool0, y_bool1, not_true_eq_false, not_false_eq_true, false_implies, true_implies, true_or, or_true, false_or, or_false, if_true, if_false, ite_true, ite_false, H.v, q, R.r (i := 3 + Int32.ofNat x) (n_ladd x 3) (by omega) (rr x (by omega)).1.2.1, e1, z8]
    exact ih
/-- the three directions -/
theorem wp_kl {L kd : Nat} {x : Vs} (H : LG h s hi) (R : RH h0 h fr fw) (hv : v < gv (sE s)) (r0 : fr v = Int32.ofNat (vt x)) (r15 : fr (15 + v) = Int32.ofNat (vh x)) (htp : vt x < gn (sE s)) (hh4 : vh x < 4) (hL : L < 1073741824) (hkd : gk (sE s) v = kd) (hk3 : kd < 3) (hs4 : ∀ c, c < gn (sE s) → gs (sE s) c < 4) : ∀ (j k : Nat) (l12 l13 l14 : Option Value), k + j = 3 → (∀ l11 l12 l13 l14, wp (d + 1) 181 357 [some (.ref 25), some (.ref 26), some (.ref 27), some (.int (Int32.ofNat ti)), some (.ref 28), some (.ref 29), some (.int (Int32.ofNat t)), some (.int (Int32.ofNat v)), some (.int (Int32.ofNat L)), some (.int (bI (bst (isFr (sE s) L (vt x)) (isPr (sE s) (vt x)) kd (dsF kd (vh x)) 3))), some (.int (gI (bst (isFr (sE s) L (vt x)) (isPr (sE s) (vt x)) kd (dsF kd (vh x)) 3))), l11, l12, l13, l14] [] h K) → wp (d + 1) 181 222 [some (.ref 25), some (.ref 26), some (.ref 27), some (.int (Int32.ofNat ti)), some (.ref 28), some (.ref 29), some (.int (Int32.ofNat t)), some (.int (Int32.ofNat v)), some (.int (Int32.ofNat L)), some (.int (bI (bst (isFr (sE s) L (vt x)) (isPr (sE s) (vt x)) kd (dsF kd (vh x)) k))), some (.int (gI (bst (isFr (sE s) L (vt x)) (isPr (sE s) (vt x)) kd (dsF kd (vh x)) k))), some (.int (Int32.ofNat k)), l12, l13, l14] [] h K
  | 0, k, l12, l13, l14, hj, hK => by
    have q : 3 ≤ Int32.ofNat k := (n_lle (m := 3) (by omega) (by omega)).mpr (by omega)
    rw [w181_222]
    simp only [w181_224, w181_225, xk_n, xk_i, xk_r, xk_z, xk_l, xcs_0, xcs_i, xcs_r, xcs_z, xcs_l, Nat.reduceAdd, Nat.reduceLeDiff, Nat.reduceLT, true_and, and_true, Option.toList_some, Option.toList_none, List.nil_append, List.cons_append, List.getElem?_cons_zero, List.getElem?_cons_succ, List.set_cons_zero, List.set_cons_succ, List.length_cons, List.length_nil, y_bool0, y_bool1, not_true_eq_false, not_false_eq_true, false_implies, true_implies, true_or, or_true, false_or, or_false, if_true, if_false, ite_true, ite_false, q]
    have : k = 3 := by omega
    rw [this]
    exact hK _ _ _ _
  | j + 1, k, l12, l13, l14, hj, hK => by
    have hv3 := H.1.2.2.2.2.2
    have hn := H.n20
    have q : (3 ≤ Int32.ofNat k) = False := eq_false (by rw [n_lle (m := 3) (by omega) (by omega)]; omega)
    have z8 : Int32.ofNat k + 1 = Int32.ofNat (k + 1) := n_addl k 1
    have qk : (Int32.ofNat kd = 2) = (kd = 2) := propext (n_eql (m := 2) (by omega) (by omega))
    have nx : ∀ (l12 l13 l14 : Option Value) (b g : Int32), b = bI (bst (isFr (sE s) L (vt x)) (isPr (sE s) (vt x)) kd (dsF kd (vh x)) (k + 1)) → g = gI (bst (isFr (sE s) L (vt x)) (isPr (sE s) (vt x)) kd (dsF kd (vh x)) (k + 1)) → wp (d + 1) 181 351 [some (.ref 25), some (.ref 26), some (.ref 27), some (.int (Int32.ofNat ti)), some (.ref 28), some (.ref 29), some (.int (Int32.ofNat t)), some (.int (Int32.ofNat v)), some (.int (Int32.ofNat L)), some (.int b), some (.int g), some (.int (Int32.ofNat k)), l12, l13, l14] [] h K := by
      rintro l12 l13 l14 b g rfl rfl
      simp only [w181_351, w181_354, xk_n, xk_i, xk_r, xk_z, xk_l, xcs_0, xcs_i, xcs_r, xcs_z, xcs_l, Nat.reduceAdd, Nat.reduceLeDiff, Nat.reduceLT, true_and, and_true, Option.toList_some, Option.toList_none, List.nil_append, List.cons_append, List.getElem?_cons_zero, List.getElem?_cons_succ, List.set_cons_zero, List.set_cons_succ, List.length_cons, List.length_nil, y_bool0, y_bool1, not_true_eq_false, not_false_eq_true, false_implies, true_implies, true_or, or_true, false_or, or_false, if_true, if_false, ite_true, ite_false, z8]
      exact wp_kl H R hv r0 r15 htp hh4 hL hkd hk3 hs4 j (k + 1) _ _ _ (by omega) hK
    have fin : wp (d + 1) 181 260 [some (.ref 25), some (.ref 26), some (.ref 27), some (.int (Int32.ofNat ti)), some (.ref 28), some (.ref 29), some (.int (Int32.ofNat t)), some (.int (Int32.ofNat v)), some (.int (Int32.ofNat L)), some (.int (bI (bst (isFr (sE s) L (vt x)) (isPr (sE s) (vt x)) kd (dsF kd (vh x)) k))), some (.int (gI (bst (isFr (sE s) L (vt x)) (isPr (sE s) (vt x)) kd (dsF kd (vh x)) k))), some (.int (Int32.ofNat k)), l12, l13, l14] [.int (Int32.ofNat (dsF kd (vh x) k))] h K := by
      have hb := bst_s (isFr (sE s) L (vt x)) (isPr (sE s) (vt x)) kd (dsF kd (vh x)) k
      have hlt := bst_lt (fr := isFr (sE s) L (vt x)) (pr := isPr (sE s) (vt x)) (kd := kd) (dsF_lt kd (vh x)) k
      have hd4 := dsF_lt kd (vh x) k
      generalize bst (isFr (sE s) L (vt x)) (isPr (sE s) (vt x)) kd (dsF kd (vh x)) (k + 1) = b1 at hb nx
      generalize bst (isFr (sE s) L (vt x)) (isPr (sE s) (vt x)) kd (dsF kd (vh x)) k = b0 at hb hlt ⊢
      generalize dsF kd (vh x) k = dd at hb hd4 ⊢
      simp only [w181_260, w181_262, w181_262n, w181_263, w181_263n, w181_265, w181_267, w181_268, w181_270, xk_n, xk_i, xk_r, xk_z, xk_l, xcs_0, xcs_i, xcs_r, xcs_z, xcs_l, Nat.reduceAdd, Nat.reduceLeDiff, Nat.reduceLT, true_and, and_true, Option.toList_some, Option.toList_none, List.nil_append, List.cons_append, List.getElem?_cons_zero, List.getElem?_cons_succ, List.set_cons_zero, List.set_cons_succ, List.length_cons, List.length_nil, y_bool0, y_bool1, not_true_eq_false, not_false_eq_true, false_implies, true_implies, true_or, or_true, false_or, or_false, if_true, if_false, ite_true, ite_false, R.r (i := Int32.ofNat v) rfl (by omega) r0]
      refine wp_to H htp hd4 ?_
      simp only [w181_273, xk_n, xk_i, xk_r, xk_z, xk_l, xcs_0, xcs_i, xcs_r, xcs_z, xcs_l, Nat.reduceAdd, Nat.reduceLeDiff, Nat.reduceLT, true_and, and_true, Option.toList_some, Option.toList_none, List.nil_append, List.cons_append, List.getElem?_cons_zero, List.getElem?_cons_succ, List.set_cons_zero, List.set_cons_succ, List.length_cons, List.length_nil, y_bool0, y_bool1, not_true_eq_false, not_false_eq_true, false_implies, true_implies, true_or, or_true, false_or, or_false, if_true, if_false, ite_true, ite_false]
      cases hbs : bes (gw (sE s)) (gn (sE s)) (vt x) dd with
      | none =>
        have e1 : isFr (sE s) L (vt x) dd = false := by unfold isFr; rw [hbs]
        rw [e1, if_neg (by simp)] at hb
        have e2 : (oC none < 0) = True := eq_true (by decide)
        simp only [w181_275, w181_277, xk_n, xk_i, xk_r, xk_z, xk_l, xcs_0, xcs_i, xcs_r, xcs_z, xcs_l, Nat.reduceAdd, Nat.reduceLeDiff, Nat.reduceLT, true_and, and_true, Option.toList_some, Option.toList_none, List.nil_append, List.cons_append, List.getElem?_cons_zero, List.getElem?_cons_succ, List.set_cons_zero, List.set_cons_succ, List.length_cons, List.length_nil, y_bool0, y_bool1, not_true_eq_false, not_false_eq_true, false_implies, true_implies, true_or, or_true, false_or, or_false, if_true, if_false, ite_true, ite_false, e2]
        exact nx _ _ _ _ _ (by rw [hb]) (by rw [hb])
      | some c =>
        have hc := bes_lt H.okW htp hbs
        have hc4 := hs4 c hc
        have e2 : (oC (some c) < 0) = False := eq_false (n_lt0 (by omega))
        have e3 : oC (some c) = Int32.ofNat c := rfl
        have e4 : (Int32.ofNat (gs (sE s) c) = 1) = (gs (sE s) c = 1) := propext (n_eql (m := 1) (by omega) (by omega))
        have e5 := i_bitB (c := c) hL (by omega)
        have e6 : (bi (L.testBit c) = 1) = (L.testBit c = true) := propext (bi_1 _)
        have e7 : isFr (sE s) L (vt x) dd = (gs (sE s) c != 1 && !L.testBit c) := by unfold isFr; rw [hbs]
        have e8 : isPr (sE s) (vt x) dd = (gs (sE s) c == 2) := by unfold isPr; rw [hbs]
        simp only [w181_275, w181_277, w181_280, w181_280n, w181_281, w181_283, w181_284, w181_285, w181_288, w181_290, w181_292, w181_293, w181_294, w181_295, w181_296, w181_299, xk_n, xk_i, xk_r, xk_z, xk_l, xcs_0, xcs_i, xcs_r, xcs_z, xcs_l, Nat.reduceAdd, Nat.reduceLeDiff, Nat.reduceLT, true_and, and_true, Option.toList_some, Option.toList_none, List.nil_append, List.cons_append, List.getElem?_cons_zero, List.getElem?_cons_succ, List.set_cons_zero, List.set_cons_succ, List.length_cons, List.length_nil, y_bool0, y_bool1, not_true_eq_false, not_false_eq_true, false_implies, true_implies, true_or, or_true, false_or, or_false, if_true, if_false, ite_true, ite_false, e2]
        simp only [w181_275, w181_277, w181_280, w181_280n, w181_281, w181_283, w181_284, w181_285, w181_288, w181_290, w181_292, w181_293, w181_294, w181_295, w181_296, w181_299, xk_n, xk_i, xk_r, xk_z, xk_l, xcs_0, xcs_i, xcs_r, xcs_z, xcs_l, Nat.reduceAdd, Nat.reduceLeDiff, Nat.reduceLT, true_and, and_true, Option.toList_some, Option.toList_none, List.nil_append, List.cons_append, List.getElem?_cons_zero, List.getElem?_cons_succ, List.set_cons_zero, List.set_cons_succ, List.length_cons, List.length_nil, y_bool0, y_bool1, not_true_eq_false, not_false_eq_true, false_implies, true_implies, true_or, or_true, false_or, or_false, if_true, if_false, ite_true, ite_false, e3, H.sg hc, e4, e5, e6]
        refine ⟨fun z => ?_, fun z => ?_⟩
        · rw [e7, z] at hb
          rw [if_neg (by simp)] at hb
          exact nx _ _ _ _ _ (by rw [hb]) (by rw [hb])
        · refine ⟨fun z2 => ?_, fun z2 => ?_⟩
          · have fr1 : isFr (sE s) L (vt x) dd = true := by rw [e7]; simpa [z] using z2
            rw [fr1, if_pos rfl] at hb
            have at331 : wp (d + 1) 181 331 [some (.ref 25), some (.ref 26), some (.ref 27), some (.int (Int32.ofNat ti)), some (.ref 28), some (.ref 29), some (.int (Int32.ofNat t)), some (.int (Int32.ofNat v)), some (.int (Int32.ofNat L)), some (.int (bI b0)), some (.int (gI b0)), some (.int (Int32.ofNat k)), some (.int (Int32.ofNat dd)), some (.int (Int32.ofNat c)), l14] [.int (Int32.ofNat (wth kd (isPr (sE s) (vt x) dd) k))] h K := by
              have hw9 := wth_le kd (isPr (sE s) (vt x) dd) k
              generalize wth kd (isPr (sE s) (vt x) dd) k = W at hb hw9 ⊢
              cases b0 with
              | none =>
                have q1 : (bI none < Int32.ofNat W) = True := eq_true (by
                  show (-1 : Int32) < Int32.ofNat W
                  rw [Int32.lt_iff_toInt_lt, n_toInt (by omega), show (-1 : Int32).toInt = -1 from by decide]; omega)
                simp only [w181_331, w181_333, w181_335, w181_337, w181_340, w181_343, w181_345, w181_347, w181_349, xk_n, xk_i, xk_r, xk_z, xk_l, xcs_0, xcs_i, xcs_r, xcs_z, xcs_l, Nat.reduceAdd, Nat.reduceLeDiff, Nat.reduceLT, true_and, and_true, Option.toList_some, Option.toList_none, List.nil_append, List.cons_append, List.getElem?_cons_zero, List.getElem?_cons_succ, List.set_cons_zero, List.set_cons_succ, List.length_cons, List.length_nil, y_bool0, y_bool1, not_true_eq_false, not_false_eq_true, false_implies, true_implies, true_or, or_true, false_or, or_false, if_true, if_false, ite_true, ite_false, q1]
                exact nx _ _ _ _ _ (by rw [hb]; rfl) (by rw [hb]; rfl)
              | some b =>
                have hb9 := (hlt b rfl).1
                have q1 : (bI (some b) < Int32.ofNat W) = (b.1 < W) := propext (n_lt (by omega) (by omega))
                simp only [w181_331, w181_333, w181_335, w181_337, w181_340, w181_343, w181_345, w181_347, w181_349, xk_n, xk_i, xk_r, xk_z, xk_l, xcs_0, xcs_i, xcs_r, xcs_z, xcs_l, Nat.reduceAdd, Nat.reduceLeDiff, Nat.reduceLT, true_and, and_true, Option.toList_some, Option.toList_none, List.nil_append, List.cons_append, List.getElem?_cons_zero, List.getElem?_cons_succ, List.set_cons_zero, List.set_cons_succ, List.length_cons, List.length_nil, y_bool0, y_bool1, not_true_eq_false, not_false_eq_true, false_implies, true_implies, true_or, or_true, false_or, or_false, if_true, if_false, ite_true, ite_false, q1]
                replace hb : b1 = if W ≤ b.1 then some b else some (W, dd) := hb
                refine ⟨fun z3 => ?_, fun z3 => ?_⟩
                · rw [if_neg (by omega)] at hb
                  exact nx _ _ _ _ _ (by rw [hb]; rfl) (by rw [hb]; rfl)
                · rw [if_pos (by omega)] at hb
                  exact nx _ _ _ _ _ (by rw [hb]) (by rw [hb])
            have p1 : (Int32.ofNat kd ≤ 0) = (kd = 0) := propext (by rw [show (0 : Int32) = Int32.ofNat 0 from rfl, n_le (by omega) (by omega)]; omega)
            have p2 : (Int32.ofNat (gs (sE s) c) = 2) = (gs (sE s) c = 2) := propext (n_eql (m := 2) (by omega) (by omega))
            have p3 : (3 : Int32) - Int32.ofNat k = Int32.ofNat (3 - k) := n_sub (a := 3) (by omega)
            have p4 : (9 : Int32) - Int32.ofNat k = Int32.ofNat (9 - k) := n_sub (a := 9) (by omega)
            simp only [w181_302, w181_302n, w181_303, w181_304, w181_306, w181_307, w181_308, w181_311, w181_311n, w181_312, w181_314, w181_315, w181_316, w181_319, w181_321, w181_323, w181_324, w181_327, w181_328, w181_330, xk_n, xk_i, xk_r, xk_z, xk_l, xcs_0, xcs_i, xcs_r, xcs_z, xcs_l, Nat.reduceAdd, Nat.reduceLeDiff, Nat.reduceLT, true_and, and_true, Option.toList_some, Option.toList_none, List.nil_append, List.cons_append, List.getElem?_cons_zero, List.getElem?_cons_succ, List.set_cons_zero, List.set_cons_succ, List.length_cons, List.length_nil, y_bool0, y_bool1, not_true_eq_false, not_false_eq_true, false_implies, true_implies, true_or, or_true, false_or, or_false, if_true, if_false, ite_true, ite_false, H.k hv, hkd, H.sg hc, p1, p2, p3, p4]
            unfold wth at at331
            rw [e8] at at331
            refine ⟨fun z3 => ?_, fun z3 => ⟨fun z4 => ?_, fun z4 => ?_⟩⟩
            · rw [if_neg (fun y => y.1 z3)] at at331; exact at331
            · rw [if_neg (fun y => z4 (by simpa using y.2))] at at331; exact at331
            · rw [if_pos ⟨z3, by simpa using z4⟩] at at331; exact at331
          · rw [e7, z2] at hb
            rw [if_neg (by simp)] at hb
            exact nx _ _ _ _ _ (by rw [hb]) (by rw [hb])
    have m5 : (5 : Int32) - Int32.ofNat k = Int32.ofNat (5 - k) := n_sub (a := 5) (by omega)
    have m3 : (3 : Int32) + Int32.ofNat k = Int32.ofNat (3 + k) := n_ladd k 3
    have m4 : ((4 : Int32) = 0) = False := eq_false (by decide)
    have m6 : ∀ a, a < 1000 → Int32.ofNat a - Int32.ofNat a / 4 * 4 = Int32.ofNat (a % 4) := fun a ha => n_mod (b := 4) (by omega) (by omega)
    have m7 := m6 (vh x + (5 - k)) (by omega)
    have m8 := m6 (vh x + (3 + k)) (by omega)
    rw [w181_222]
    simp only [w181_224, w181_225, w181_228, w181_228n, w181_230, w181_232, w181_234, w181_235, w181_236, w181_236n, w181_237, w181_238, w181_240, w181_241, w181_242, w181_243, w181_246, w181_247, w181_249, w181_250, w181_253, w181_254, w181_256, w181_257, w181_258, w181_259, xk_n, xk_i, xk_r, xk_z, xk_l, xcs_0, xcs_i, xcs_r, xcs_z, xcs_l, Nat.reduceAdd, Nat.reduceLeDiff, Nat.reduceLT, true_and, and_true, Option.toList_some, Option.toList_none, List.nil_append, List.cons_append, List.getElem?_cons_zero, List.getElem?_cons_succ, List.set_cons_zero, List.set_cons_succ, List.length_cons, List.length_nil, y_bool0, y_bool1, not_true_eq_false, not_false_eq_true, false_implies, true_implies, true_or, or_true, false_or, or_false, if_true, if_false, ite_true, ite_false, R.r (i := 15 + Int32.ofNat v) (n_ladd v 15) (by omega) r15, H.k hv, hkd, q, qk, m5, m3, n_add, m4, m7, m8]
    unfold dsF at fin
    refine ⟨fun z => ?_, fun z => ?_⟩
    · rw [if_neg z] at fin; exact fin
    · rw [if_pos z] at fin; exact fin
end
