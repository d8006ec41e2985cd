/-! ===== the law's go: a vine's day ===== -/
section
variable {d : Nat} {K : Option Value → xH → Prop} {s : St} {hi ti t v : Nat} {h0 : xH} {fw : Nat → Int32}
/-- the heading behind a step back: the way that leads there -/
theorem wp_hl {c dd tp : Nat} {fr0 : Nat → Int32} (H0 : LG h0 s hi) (hv : v < gv (sE s)) (r0 : fr0 v = Int32.ofNat tp) (htp : tp < gn (sE s)) (hdd : dd < 4) (hb : bes (gw (sE s)) (gn (sE s)) tp dd = some c) {l8 l9 l10 : Option Value} (hK : ∀ h' l12 l13 l14, RH h0 h' (upd fr0 (15 + v) (Int32.ofNat dd)) fw → wp (d + 1) 181 472 [some (.ref 25), some (.ref 26), some (.ref 27), some (.int (Int32.ofNat ti)), some (.ref 28), some (.ref 29), some (.int (Int32.ofNat t)), some (.int (Int32.ofNat v)), l8, l9, l10, some (.int (Int32.ofNat c)), l12, l13, l14] [] h' K) : ∀ (j k : Nat) (h : xH) (fr : Nat → Int32) (l13 l14 : Option Value), k + j = 4 → RH h0 h fr fw → fr = (if dd < k then upd fr0 (15 + v) (Int32.ofNat dd) else fr0) → wp (d + 1) 181 434 [some (.ref 25), some (.ref 26), some (.ref 27), some (.int (Int32.ofNat ti)), some (.ref 28), some (.ref 29), some (.int (Int32.ofNat t)), some (.int (Int32.ofNat v)), l8, l9, l10, some (.int (Int32.ofNat c)), some (.int (Int32.ofNat k)), l13, l14] [] h K
  | 0, k, h, fr, l13, l14, hj, R, hf => by
    have q : 4 ≤ Int32.ofNat k := (n_lle (m := 4) (by omega) (by omega)).mpr (by omega)
    rw [w181_434]
    simp only [w181_436, w181_437, xk_n, xk_i, xk_r, xk_z, xk_l, xcs_0, xcs_i, xcs_r, xcs_z, xcs_l, Nat.reduceAdd, Nat.reduceLeDiff, Nat.reduceLT, true_and, and_true, Option.toList_some, Option.toList_none, List.nil_append, List.cons_append, List.getElem?_cons_zero, List.getElem?_cons_succ, List.set_cons_zero, List.set_cons_succ, List.length_cons, List.length_nil, y_bool0, y_bool1, not_true_eq_false, not_false_eq_true, false_implies, true_implies, true_or, or_true, false_or, or_false, if_true, if_false, ite_true, ite_false, q]
    rw [if_pos (by omega)] at hf
    subst hf
    exact hK h _ _ _ R
  | j + 1, k, h, fr, l13, l14, hj, R, hf => by
    have hv3 := H0.1.2.2.2.2.2
    have H := R.lg H0
    have hn := H.n20
    have q : (4 ≤ Int32.ofNat k) = False := eq_false (by rw [n_lle (m := 4) (by omega) (by omega)]; omega)
    have z8 : Int32.ofNat k + 1 = Int32.ofNat (k + 1) := n_addl k 1
    have hc := bes_lt H.okW htp hb
    have r1 : fr v = Int32.ofNat tp := by
      rw [hf]
      by_cases z : dd < k
      · rw [if_pos z, upd_ne _ _ (by omega)]; exact r0
      · rw [if_neg z]; exact r0
    have ec : (oC (bes (gw (sE s)) (gn (sE s)) tp k) = Int32.ofNat c) = (k = dd) := by
      rw [oC_eq (fun x hx => by have := bes_lt H.okW htp hx; omega) (by omega)]
      exact propext ⟨fun z => bes_inj H.okW (by omega) hdd z hb, fun z => by rw [z]; exact hb⟩
    rw [w181_434]
    simp only [w181_436, w181_437, w181_440, w181_440n, w181_441, w181_441n, w181_443, w181_445, w181_446, w181_448, xk_n, xk_i, xk_r, xk_z, xk_l, xcs_0, xcs_i, xcs_r, xcs_z, xcs_l, Nat.reduceAdd, Nat.reduceLeDiff, Nat.reduceLT, true_and, and_true, Option.toList_some, Option.toList_none, List.nil_append, List.cons_append, List.getElem?_cons_zero, List.getElem?_cons_succ, List.set_cons_zero, List.set_cons_succ, List.length_cons, List.length_nil, y_bool0, y_bool1, not_true_eq_false, not_false_eq_true, false_implies, true_implies, true_or, or_true, false_or, or_false, if_true, if_false, ite_true, ite_false, q, R.r (i := Int32.ofNat v) rfl (by omega) r1]
    refine wp_to H htp (by omega) ?_
    simp only [w181_451, w181_453, w181_456, w181_456n, w181_458, w181_460, w181_462, w181_463, w181_465, xk_n, xk_i, xk_r, xk_z, xk_l, xcs_0, xcs_i, xcs_r, xcs_z, xcs_l, Nat.reduceAdd, Nat.reduceLeDiff, Nat.reduceLT, true_and, and_true, Option.toList_some, Option.toList_none, List.nil_append, List.cons_append, List.getElem?_cons_zero, List.getElem?_cons_succ, List.set_cons_zero, List.set_cons_succ, List.length_cons, List.length_nil, y_bool0, y_bool1, not_true_eq_false, not_false_eq_true, false_implies, true_implies, true_or, or_true, false_or, or_false, if_true, if_false, ite_true, ite_false, ec]
    refine ⟨fun z => ?_, fun z => ?_⟩
    · simp only [w181_466, w181_469, xk_n, xk_i, xk_r, xk_z, xk_l, xcs_0, xcs_i, xcs_r, xcs_z, xcs_l, Nat.reduceAdd, Nat.reduceLeDiff, Nat.reduceLT, true_and, and_true, Option.toList_some, Option.toList_none, List.nil_append, List.cons_append, List.getElem?_cons_zero, List.getElem?_cons_succ, List.set_cons_zero, List.set_cons_succ, List.length_cons, List.length_nil, y_bool0, y_bool1, not_true_eq_false, not_false_eq_true, false_implies, true_implies, true_or, or_true, false_or, or_false, if_true, if_false, ite_true, ite_false, z8]
      refine wp_hl H0 hv r0 htp hdd hb hK j (k + 1) h fr _ _ (by omega) R ?_
      rw [hf]
      by_cases z2 : dd < k
      · rw [if_pos z2, if_pos (by omega)]
      · rw [if_neg z2, if_neg (by omega)]
    · subst z
      rw [if_neg (by omega)] at hf
      subst hf
      refine R.sr (n_ladd v 15) (by omega) fun h' R' => ?_
      simp only [w181_466, w181_469, xk_n, xk_i, xk_r, xk_z, xk_l, xcs_0, xcs_i, xcs_r, xcs_z, xcs_l, Nat.reduceAdd, Nat.reduceLeDiff, Nat.reduceLT, true_and, and_true, Option.toList_some, Option.toList_none, List.nil_append, List.cons_append, List.getElem?_cons_zero, List.getElem?_cons_succ, List.set_cons_zero, List.set_cons_succ, List.length_cons, List.length_nil, y_bool0, y_bool1, not_true_eq_false, not_false_eq_true, false_implies, true_implies, true_or, or_true, false_or, or_false, if_true, if_false, ite_true, ite_false, z8]
      exact wp_hl H0 hv r0 htp hdd hb hK j (k + 1) h' _ _ _ (by omega) R' (by rw [if_pos (by omega)])
theorem wp_vb {h : xH} {fr : Nat → Int32} {G : Nat → Vs} (H0 : LG h0 s hi) (hE : okE (sE s)) (hs4 : ∀ c, c < gn (sE s) → gs (sE s) c < 4) (R : RH h0 h fr fw) (rr : RR (gv (sE s)) fr fw (sE s) G) (ok : okG (sE s) G) (ht : t < 80) (hv : v < gv (sE s)) {l8 l9 l10 l11 l12 l13 l14 : Option Value} (hK : ∀ h' fr' fw' l8 l9 l10 l11 l12 l13 l14, RH h0 h' fr' fw' → RR (gv (sE s)) fr' fw' (sE s) (growV (sE s) t G v) → wp (d + 1) 181 579 [some (.ref 25), some (.ref 26), some (.ref 27), some (.int (Int32.ofNat ti)), some (.ref 28), some (.ref 29), some (.int (Int32.ofNat t)), some (.int (Int32.ofNat v)), l8, l9, l10, l11, l12, l13, l14] [] h' K) : wp (d + 1) 181 156 [some (.ref 25), some (.ref 26), some (.ref 27), some (.int (Int32.ofNat ti)), some (.ref 28), some (.ref 29), some (.int (Int32.ofNat t)), some (.int (Int32.ofNat v)), l8, l9, l10, l11, l12, l13, l14] [] h K := by
  have hv3 := H0.1.2.2.2.2.2
  have H := R.lg H0
  have hn := H.n20
  have hw := H.okW
  obtain ⟨⟨r0, r3, r6, r9, r12, r15⟩, dep, p, r18, pth, dl, P⟩ := rr v hv
  have okv := ok v hv
  have htp := okv.tip
  have hlf := okv.leaf hE.1.2.2.1
  have hh4 := okv.2.2.2.2.2.1
  have g9 : (0 ≤ oC (vo (G v))) = ((vo (G v)).isSome = true) := oC_neg okv.2.2.2.2.2.2.1
  have g12 : (oC (vx (G v)) < 0) = ((vx (G v)).isSome = false) := by
    have := oC_neg okv.2.2.2.2.2.2.2
    rw [← Int32.not_le, this]
    simp
  have i9 := fun J => R.r (i := 9 + Int32.ofNat v) (n_ladd v 9) (by omega) r9 J
  have i12 := fun J => R.r (i := 12 + Int32.ofNat v) (n_ladd v 12) (by omega) r12 J
  simp only [w181_156, w181_156n, w181_158, w181_160, w181_162, w181_163, w181_164, w181_167, w181_167n, w181_169, w181_171, w181_173, w181_174, w181_175, w181_178, xk_n, xk_i, xk_r, xk_z, xk_l, xcs_0, xcs_i, xcs_r, xcs_z, xcs_l, Nat.reduceAdd, Nat.reduceLeDiff, Nat.reduceLT, true_and, and_true, Option.toList_some, Option.toList_none, List.nil_append, List.cons_append, List.getElem?_cons_zero, List.getElem?_cons_succ, List.set_cons_zero, List.set_cons_succ, List.length_cons, List.length_nil, y_bool0, y_bool1, not_true_eq_false, not_false_eq_true, false_implies, true_implies, true_or, or_true, false_or, or_false, if_true, if_false, ite_true, ite_false, i9, i12, g9, g12]
  have done : ((vo (G v)).isSome || (vx (G v)).isSome) = true → wp (d + 1) 181 579 [some (.ref 25), some (.ref 26), some (.ref 27), some (.int (Int32.ofNat ti)), some (.ref 28), some (.ref 29), some (.int (Int32.ofNat t)), some (.int (Int32.ofNat v)), l8, l9, l10, l11, l12, l13, l14] [] h K := by
    intro z
    refine hK h fr fw _ _ _ _ _ _ _ R ?_
    unfold growV
    rw [if_pos z]
    exact rr
  refine ⟨fun z => done (by rw [z]; rfl), fun z => ⟨fun z2 => ?_, fun z2 => done (by rw [(show (vx (G v)).isSome = true by cases q : (vx (G v)).isSome; exact absurd q z2; rfl)]; simp)⟩⟩
  have z' : vo (G v) = none := by cases q : vo (G v) with
    | none => rfl
    | some _ => rw [q] at z; exact absurd rfl z
  have z2' : vx (G v) = none := by cases q : vx (G v) with
    | none => rfl
    | some _ => rw [q] at z2; cases z2
  have hgv : growV (sE s) t G v = upG G v (stepV (sE s) (allL G (gv (sE s))) t v (G v)) := by
    unfold growV
    rw [z', z2', if_neg (by simp)]
  rw [hgv] at hK
  have hL := ok.all hE
  have hkd := (hE.2.2 v hv).1
  have hsub : ∀ c, (vl (G v)).testBit c = true → (allL G (gv (sE s))).testBit c = true := fun c hc => allL_bit.mpr ⟨v, hv, hc⟩
  simp only [w181_181, w181_182, w181_184, w181_185, xk_n, xk_i, xk_r, xk_z, xk_l, xcs_0, xcs_i, xcs_r, xcs_z, xcs_l, Nat.reduceAdd, Nat.reduceLeDiff, Nat.reduceLT, true_and, and_true, Option.toList_some, Option.toList_none, List.nil_append, List.cons_append, List.getElem?_cons_zero, List.getElem?_cons_succ, List.set_cons_zero, List.set_cons_succ, List.length_cons, List.length_nil, y_bool0, y_bool1, not_true_eq_false, not_false_eq_true, false_implies, true_implies, true_or, or_true, false_or, or_false, if_true, if_false, ite_true, ite_false]
  have z0 : allL G 0 = 0 := rfl
  have full := fun K1 => wp_full (d := d + 1) (K := K1) (ti := ti) (t := t) (v := v) H R rr hE ok (gv (sE s)) 0 l10 l11 l12 l13 l14 (by omega)
  rw [z0] at full
  refine full K fun l9 => ?_
  simp only [w181_213, w181_214, w181_216, w181_217, w181_219, w181_220, xk_n, xk_i, xk_r, xk_z, xk_l, xcs_0, xcs_i, xcs_r, xcs_z, xcs_l, Nat.reduceAdd, Nat.reduceLeDiff, Nat.reduceLT, true_and, and_true, Option.toList_some, Option.toList_none, List.nil_append, List.cons_append, List.getElem?_cons_zero, List.getElem?_cons_succ, List.set_cons_zero, List.set_cons_succ, List.length_cons, List.length_nil, y_bool0, y_bool1, not_true_eq_false, not_false_eq_true, false_implies, true_implies, true_or, or_true, false_or, or_false, if_true, if_false, ite_true, ite_false]
  generalize allL G (gv (sE s)) = L at hL hsub hK ⊢
  refine wp_kl (x := G v) (L := L) (kd := gk (sE s) v) H R hv r0 r15 htp hh4 hL rfl hkd hs4 3 0 _ _ _ (by omega) fun l11 l12 l13 l14 => ?_
  have way := bst_way (sE s) L (vt (G v)) (kd := gk (sE s) v) hh4
  have hlt := bst_lt (fr := isFr (sE s) L (vt (G v))) (pr := isPr (sE s) (vt (G v))) (kd := gk (sE s) v) (dsF_lt (gk (sE s) v) (vh (G v))) 3
  generalize bst (isFr (sE s) L (vt (G v))) (isPr (sE s) (vt (G v))) (gk (sE s) v) (dsF (gk (sE s) v) (vh (G v))) 3 = b at way hlt ⊢
  have i18 := fun J => R.r (i := 18 + Int32.ofNat v) (n_ladd v 18) (by omega) r18 J
  have i0 := fun J => R.r (i := Int32.ofNat v) rfl (by omega) r0 J
  unfold stepV at hK
  rw [← way] at hK
  cases b with
  | none =>
    have q1 : (0 ≤ bI none) = False := eq_false (by decide)
    have q2 : (Int32.ofNat dep = 0) = (dep = 0) := propext (n_eql (m := 0) (by omega) (by omega))
    simp only [w181_357, w181_359, w181_362, w181_362n, w181_364, w181_366, w181_368, w181_369, w181_370, xk_n, xk_i, xk_r, xk_z, xk_l, xcs_0, xcs_i, xcs_r, xcs_z, xcs_l, Nat.reduceAdd, Nat.reduceLeDiff, Nat.reduceLT, true_and, and_true, Option.toList_some, Option.toList_none, List.nil_append, List.cons_append, List.getElem?_cons_zero, List.getElem?_cons_succ, List.set_cons_zero, List.set_cons_succ, List.length_cons, List.length_nil, y_bool0, y_bool1, not_true_eq_false, not_false_eq_true, false_implies, true_implies, true_or, or_true, false_or, or_false, if_true, if_false, ite_true, ite_false, q1, i18, q2]
    refine ⟨fun z3 => ?_, fun z3 => ?_⟩
    · rw [Option.map_none] at hK
      dsimp only at hK
      rw [if_neg (fun y => z3 (P.root.mpr y))] at hK
      obtain ⟨dep, rfl⟩ : ∃ e, dep = e + 1 := ⟨dep - 1, by omega⟩
      have hup := P.up
      rw [hup] at hK
      dsimp only at hK
      have ix : (21 : Int32) * Int32.ofNat v + Int32.ofNat (dep + 1) - 1 = Int32.ofNat (21 * v + dep) := by
        rw [n_lmul, n_add, n_subl (m := 1) (by omega)]
        rfl
      have iw := fun J => R.w (i := Int32.ofNat (21 * v + dep)) rfl (by omega) (pth dep (by omega)) J
      simp only [w181_386, w181_388, w181_391, w181_391n, w181_393, w181_395, w181_397, w181_398, w181_398n, w181_400, w181_402, w181_404, w181_405, w181_406, w181_407, w181_408, w181_409, w181_410, w181_413, w181_413n, w181_414, w181_414n, w181_416, w181_418, w181_419, w181_421, w181_424, w181_426, w181_428, w181_431, w181_432, xk_n, xk_i, xk_r, xk_z, xk_l, xcs_0, xcs_i, xcs_r, xcs_z, xcs_l, Nat.reduceAdd, Nat.reduceLeDiff, Nat.reduceLT, true_and, and_true, Option.toList_some, Option.toList_none, List.nil_append, List.cons_append, List.getElem?_cons_zero, List.getElem?_cons_succ, List.set_cons_zero, List.set_cons_succ, List.length_cons, List.length_nil, y_bool0, y_bool1, not_true_eq_false, not_false_eq_true, false_implies, true_implies, true_or, or_true, false_or, or_false, if_true, if_false, ite_true, ite_false, q1, i18, ix, iw]
      refine wp_hl (tp := vt (G v)) (c := p dep) (dd := (vc (G v) / 4 ^ vt (G v) + 2) % 4) H0 hv r0 htp (Nat.mod_lt _ (by omega)) hup (fun h1 l12 l13 l14 R1 => ?_) 4 0 h fr _ _ (by omega) R (by rw [if_neg (by omega)])
      have k6 := fun J => R1.r (i := 6 + Int32.ofNat v) (x := Int32.ofNat (vd (G v))) (n_ladd v 6) (by omega) (by rw [upd_ne _ _ (by omega)]; exact r6) J
      simp only [w181_472, w181_472n, w181_474, w181_476, w181_478, w181_479, w181_480, w181_481, w181_482, w181_483, w181_484, w181_484n, w181_486, w181_488, w181_490, w181_491, w181_492, w181_493, w181_494, w181_495, xk_n, xk_i, xk_r, xk_z, xk_l, xcs_0, xcs_i, xcs_r, xcs_z, xcs_l, Nat.reduceAdd, Nat.reduceLeDiff, Nat.reduceLT, true_and, and_true, Option.toList_some, Option.toList_none, List.nil_append, List.cons_append, List.getElem?_cons_zero, List.getElem?_cons_succ, List.set_cons_zero, List.set_cons_succ, List.length_cons, List.length_nil, y_bool0, y_bool1, not_true_eq_false, not_false_eq_true, false_implies, true_implies, true_or, or_true, false_or, or_false, if_true, if_false, ite_true, ite_false, k6]
      refine R1.sr (n_ladd v 6) (by omega) fun h2 R2 => ?_
      have k18 := fun J => R2.r (i := 18 + Int32.ofNat v) (x := Int32.ofNat (dep + 1)) (n_ladd v 18) (by omega) (by rw [upd_ne _ _ (by omega), upd_ne _ _ (by omega)]; exact r18) J
      simp only [w181_484, w181_484n, w181_486, w181_488, w181_490, w181_491, w181_492, w181_493, w181_494, w181_495, xk_n, xk_i, xk_r, xk_z, xk_l, xcs_0, xcs_i, xcs_r, xcs_z, xcs_l, Nat.reduceAdd, Nat.reduceLeDiff, Nat.reduceLT, true_and, and_true, Option.toList_some, Option.toList_none, List.nil_append, List.cons_append, List.getElem?_cons_zero, List.getElem?_cons_succ, List.set_cons_zero, List.set_cons_succ, List.length_cons, List.length_nil, y_bool0, y_bool1, not_true_eq_false, not_false_eq_true, false_implies, true_implies, true_or, or_true, false_or, or_false, if_true, if_false, ite_true, ite_false, k18]
      refine R2.sr (n_ladd v 18) (by omega) fun h3 R3 => ?_
      simp only [w181_496, w181_572, w181_572n, w181_574, w181_576, w181_578, xk_n, xk_i, xk_r, xk_z, xk_l, xcs_0, xcs_i, xcs_r, xcs_z, xcs_l, Nat.reduceAdd, Nat.reduceLeDiff, Nat.reduceLT, true_and, and_true, Option.toList_some, Option.toList_none, List.nil_append, List.cons_append, List.getElem?_cons_zero, List.getElem?_cons_succ, List.set_cons_zero, List.set_cons_succ, List.length_cons, List.length_nil, y_bool0, y_bool1, not_true_eq_false, not_false_eq_true, false_implies, true_implies, true_or, or_true, false_or, or_false, if_true, if_false, ite_true, ite_false]
      refine R3.sr (k := v) rfl (by omega) fun h4 R4 => ?_
      refine hK h4 _ _ _ _ _ _ _ _ _ R4 (rr.up hv3 hv (fun i hi => ?_) (fun i hi => rfl) ⟨⟨?_, ?_, ?_, ?_, ?_, ?_⟩, dep, p, ?_, fun k hk => pth k (by omega), by omega, P.back⟩)
      · rw [upd_ne _ _ (by omega), upd_ne _ _ (by omega), upd_ne _ _ (by omega), upd_ne _ _ (by omega)]
      · exact upd_at _ _ _
      · rw [upd_ne _ _ (by omega), upd_ne _ _ (by omega), upd_ne _ _ (by omega), upd_ne _ _ (by omega)]; exact r3
      · rw [upd_ne _ _ (by omega), upd_ne _ _ (by omega), upd_at]; exact n_addl _ 1
      · rw [upd_ne _ _ (by omega), upd_ne _ _ (by omega), upd_ne _ _ (by omega), upd_ne _ _ (by omega), r9, z']
      · rw [upd_ne _ _ (by omega), upd_ne _ _ (by omega), upd_ne _ _ (by omega), upd_ne _ _ (by omega), r12, z2']
      · rw [upd_ne _ _ (by omega), upd_ne _ _ (by omega), upd_ne _ _ (by omega), upd_at]
      · rw [upd_ne _ _ (by omega), upd_at]; exact n_subl (m := 1) (by omega)
    · rw [Option.map_none] at hK
      dsimp only at hK
      rw [if_pos (P.root.mp z3)] at hK
      simp only [w181_373, w181_373n, w181_375, w181_377, w181_379, w181_380, w181_382, w181_383, xk_n, xk_i, xk_r, xk_z, xk_l, xcs_0, xcs_i, xcs_r, xcs_z, xcs_l, Nat.reduceAdd, Nat.reduceLeDiff, Nat.reduceLT, true_and, and_true, Option.toList_some, Option.toList_none, List.nil_append, List.cons_append, List.getElem?_cons_zero, List.getElem?_cons_succ, List.set_cons_zero, List.set_cons_succ, List.length_cons, List.length_nil, y_bool0, y_bool1, not_true_eq_false, not_false_eq_true, false_implies, true_implies, true_or, or_true, false_or, or_false, if_true, if_false, ite_true, ite_false]
      refine R.sr (n_ladd v 12) (by omega) fun h1 R1 => ?_
      refine hK h1 _ _ _ _ _ _ _ _ _ R1 (rr.up hv3 hv (fun i hi => ?_) (fun i hi => rfl) ⟨⟨?_, ?_, ?_, ?_, ?_, ?_⟩, dep, p, ?_, pth, dl, P.same rfl rfl rfl⟩)
      · rw [upd_ne _ _ (by omega)]
      · rw [upd_ne _ _ (by omega)]; exact r0
      · rw [upd_ne _ _ (by omega)]; exact r3
      · rw [upd_ne _ _ (by omega)]; exact r6
      · rw [upd_ne _ _ (by omega), r9, z']
      · rw [upd_at]; rfl
      · rw [upd_ne _ _ (by omega)]; exact r15
      · rw [upd_ne _ _ (by omega)]; exact r18
  | some b =>
    have hb4 := (hlt b rfl).2
    have q1 : (0 ≤ bI (some b)) = True := eq_true (Int32.not_lt.mp (n_lt0 (by have := (hlt b rfl).1; omega)))
    have wy : wayOf (sE s) L (gk (sE s) v) (vt (G v)) (vh (G v)) = some b.2 := way.symm
    obtain ⟨-, hfr⟩ := wayOf_some hh4 wy
    obtain ⟨c, c1, c2, c3⟩ := isFr_some hfr
    rw [Option.map_some] at hK
    dsimp only at hK
    rw [c1] at hK
    dsimp only at hK
    have hc := bes_lt hw htp c1
    have hc4 := hs4 c hc
    have hcl : (vl (G v)).testBit c = false := by
      cases q : (vl (G v)).testBit c
      · rfl
      · rw [hsub c q] at c3; cases c3
    have e3 : oC (some c) = Int32.ofNat c := rfl
    have e4 : gI (some b) = Int32.ofNat b.2 := rfl
    simp only [w181_357, w181_359, w181_386, w181_388, w181_413, w181_413n, w181_414, w181_414n, w181_416, w181_418, w181_419, w181_421, xk_n, xk_i, xk_r, xk_z, xk_l, xcs_0, xcs_i, xcs_r, xcs_z, xcs_l, Nat.reduceAdd, Nat.reduceLeDiff, Nat.reduceLT, true_and, and_true, Option.toList_some, Option.toList_none, List.nil_append, List.cons_append, List.getElem?_cons_zero, List.getElem?_cons_succ, List.set_cons_zero, List.set_cons_succ, List.length_cons, List.length_nil, y_bool0, y_bool1, not_true_eq_false, not_false_eq_true, false_implies, true_implies, true_or, or_true, false_or, or_false, if_true, if_false, ite_true, ite_false, q1, i0]
    rw [e4]
    refine wp_to H htp hb4 ?_
    rw [c1, e3]
    simp only [w181_424, w181_426, w181_428, w181_499, w181_499n, w181_501, w181_503, w181_505, w181_506, w181_508, xk_n, xk_i, xk_r, xk_z, xk_l, xcs_0, xcs_i, xcs_r, xcs_z, xcs_l, Nat.reduceAdd, Nat.reduceLeDiff, Nat.reduceLT, true_and, and_true, Option.toList_some, Option.toList_none, List.nil_append, List.cons_append, List.getElem?_cons_zero, List.getElem?_cons_succ, List.set_cons_zero, List.set_cons_succ, List.length_cons, List.length_nil, y_bool0, y_bool1, not_true_eq_false, not_false_eq_true, false_implies, true_implies, true_or, or_true, false_or, or_false, if_true, if_false, ite_true, ite_false, q1]
    refine R.sr (n_ladd v 15) (by omega) fun h1 R1 => ?_
    have k18 := fun J => R1.r (i := 18 + Int32.ofNat v) (x := Int32.ofNat dep) (n_ladd v 18) (by omega) (by rw [upd_ne _ _ (by omega)]; exact r18) J
    have e5 : Int32.ofNat dep + 1 = Int32.ofNat (dep + 1) := n_addl dep 1
    simp only [w181_509, w181_509n, w181_511, w181_513, w181_515, w181_516, w181_517, w181_518, w181_519, w181_520, xk_n, xk_i, xk_r, xk_z, xk_l, xcs_0, xcs_i, xcs_r, xcs_z, xcs_l, Nat.reduceAdd, Nat.reduceLeDiff, Nat.reduceLT, true_and, and_true, Option.toList_some, Option.toList_none, List.nil_append, List.cons_append, List.getElem?_cons_zero, List.getElem?_cons_succ, List.set_cons_zero, List.set_cons_succ, List.length_cons, List.length_nil, y_bool0, y_bool1, not_true_eq_false, not_false_eq_true, false_implies, true_implies, true_or, or_true, false_or, or_false, if_true, if_false, ite_true, ite_false, k18, e5]
    refine R1.sr (n_ladd v 18) (by omega) fun h2 R2 => ?_
    have k18' := fun J => R2.r (i := 18 + Int32.ofNat v) (x := Int32.ofNat (dep + 1)) (n_ladd v 18) (by omega) (upd_at _ _ _) J
    have ix : (21 : Int32) * Int32.ofNat v + Int32.ofNat (dep + 1) = Int32.ofNat (21 * v + (dep + 1)) := by rw [n_lmul, n_add]
    simp only [w181_521, w181_521n, w181_523, w181_525, w181_527, w181_528, w181_528n, w181_530, w181_532, w181_534, w181_535, w181_536, w181_537, w181_539, xk_n, xk_i, xk_r, xk_z, xk_l, xcs_0, xcs_i, xcs_r, xcs_z, xcs_l, Nat.reduceAdd, Nat.reduceLeDiff, Nat.reduceLT, true_and, and_true, Option.toList_some, Option.toList_none, List.nil_append, List.cons_append, List.getElem?_cons_zero, List.getElem?_cons_succ, List.set_cons_zero, List.set_cons_succ, List.length_cons, List.length_nil, y_bool0, y_bool1, not_true_eq_false, not_false_eq_true, false_implies, true_implies, true_or, or_true, false_or, or_false, if_true, if_false, ite_true, ite_false, k18', ix]
    refine R2.sw rfl (by omega) fun h3 R3 => ?_
    have k3 := fun J => R3.r (i := 3 + Int32.ofNat v) (x := Int32.ofNat (vl (G v))) (n_ladd v 3) (by omega) (by rw [upd_ne _ _ (by omega), upd_ne _ _ (by omega)]; exact r3) J
    have e6 : (1 : Int32) <<< (Int32.ofNat c &&& 31) = Int32.ofNat (2 ^ c) := i_one (by omega)
    have p30 : 2 ^ c < 1073741824 := Nat.pow_lt_pow_right (n := 30) (by omega) (by omega)
    have e7 : Int32.ofNat (vl (G v)) ||| Int32.ofNat (2 ^ c) = Int32.ofNat (vl (G v) ||| 2 ^ c) := i_or (by omega) (by omega)
    simp only [w181_540, w181_540n, w181_542, w181_543, w181_545, w181_546, w181_547, w181_548, w181_549, w181_551, w181_552, w181_553, xk_n, xk_i, xk_r, xk_z, xk_l, xcs_0, xcs_i, xcs_r, xcs_z, xcs_l, Nat.reduceAdd, Nat.reduceLeDiff, Nat.reduceLT, true_and, and_true, Option.toList_some, Option.toList_none, List.nil_append, List.cons_append, List.getElem?_cons_zero, List.getElem?_cons_succ, List.set_cons_zero, List.set_cons_succ, List.length_cons, List.length_nil, y_bool0, y_bool1, not_true_eq_false, not_false_eq_true, false_implies, true_implies, true_or, or_true, false_or, or_false, if_true, if_false, ite_true, ite_false, k3, e6, e7]
    refine R3.sr (n_ladd v 3) (by omega) fun h4 R4 => ?_
    have H4 := R4.lg H0
    have e8 : (Int32.ofNat (gs (sE s) c) = 3) = (gs (sE s) c = 3) := propext (n_eql (m := 3) (by omega) (by omega))
    simp only [w181_554, w181_554n, w181_555, w181_557, w181_558, w181_559, xk_n, xk_i, xk_r, xk_z, xk_l, xcs_0, xcs_i, xcs_r, xcs_z, xcs_l, Nat.reduceAdd, Nat.reduceLeDiff, Nat.reduceLT, true_and, and_true, Option.toList_some, Option.toList_none, List.nil_append, List.cons_append, List.getElem?_cons_zero, List.getElem?_cons_succ, List.set_cons_zero, List.set_cons_succ, List.length_cons, List.length_nil, y_bool0, y_bool1, not_true_eq_false, not_false_eq_true, false_implies, true_implies, true_or, or_true, false_or, or_false, if_true, if_false, ite_true, ite_false, H4.sg hc, e8]
    have dl' : dep + 1 < 20 := by
      have P' := PTH.go (o := none) hw P okv hb4 c1 hcl
      have okv' := okV_go (sg := 0) hw okv (show 0 < 1000 by omega) hb4 c1 hcl
      have := P'.lt okv'
      omega
    refine ⟨fun z3 => ?_, fun z3 => ?_⟩
    · simp only [w181_572, w181_572n, w181_574, w181_576, w181_578, xk_n, xk_i, xk_r, xk_z, xk_l, xcs_0, xcs_i, xcs_r, xcs_z, xcs_l, Nat.reduceAdd, Nat.reduceLeDiff, Nat.reduceLT, true_and, and_true, Option.toList_some, Option.toList_none, List.nil_append, List.cons_append, List.getElem?_cons_zero, List.getElem?_cons_succ, List.set_cons_zero, List.set_cons_succ, List.length_cons, List.length_nil, y_bool0, y_bool1, not_true_eq_false, not_false_eq_true, false_implies, true_implies, true_or, or_true, false_or, or_false, if_true, if_false, ite_true, ite_false]
      refine R4.sr (k := v) rfl (by omega) fun h5 R5 => ?_
      refine hK h5 _ _ _ _ _ _ _ _ _ R5 (rr.up hv3 hv (fun i hi => ?_) (fun i hi => ?_) ⟨⟨?_, ?_, ?_, ?_, ?_, ?_⟩, dep + 1, upN p (dep + 1) c, ?_, fun k hk => ?_, dl', PTH.go hw P okv hb4 c1 hcl⟩)
      · rw [upd_ne _ _ (by omega), upd_ne _ _ (by omega), upd_ne _ _ (by omega), upd_ne _ _ (by omega)]
      · rw [upd_ne _ _ (by omega)]
      · exact upd_at _ _ _
      · rw [upd_ne _ _ (by omega), upd_at]
      · rw [upd_ne _ _ (by omega), upd_ne _ _ (by omega), upd_ne _ _ (by omega), upd_ne _ _ (by omega)]; exact r6
      · rw [upd_ne _ _ (by omega), upd_ne _ _ (by omega), upd_ne _ _ (by omega), upd_ne _ _ (by omega), r9, z']
        show oC none = oC (if gs (sE s) c = 3 then some t else none)
        rw [if_neg z3]
      · rw [upd_ne _ _ (by omega), upd_ne _ _ (by omega), upd_ne _ _ (by omega), upd_ne _ _ (by omega), r12, z2']
      · rw [upd_ne _ _ (by omega), upd_ne _ _ (by omega), upd_ne _ _ (by omega), upd_at]
      · rw [upd_ne _ _ (by omega), upd_ne _ _ (by omega), upd_at]
      · by_cases q : k = dep + 1
        · rw [q, upd_at, upN_at]
        · rw [upd_ne _ _ (by omega), upN_ne _ q]; exact pth k (by omega)
    · simp only [w181_562, w181_562n, w181_564, w181_566, w181_568, w181_569, w181_571, xk_n, xk_i, xk_r, xk_z, xk_l, xcs_0, xcs_i, xcs_r, xcs_z, xcs_l, Nat.reduceAdd, Nat.reduceLeDiff, Nat.reduceLT, true_and, and_true, Option.toList_some, Option.toList_none, List.nil_append, List.cons_append, List.getElem?_cons_zero, List.getElem?_cons_succ, List.set_cons_zero, List.set_cons_succ, List.length_cons, List.length_nil, y_bool0, y_bool1, not_true_eq_false, not_false_eq_true, false_implies, true_implies, true_or, or_true, false_or, or_false, if_true, if_false, ite_true, ite_false]
      refine R4.sr (n_ladd v 9) (by omega) fun h5 R5 => ?_
      simp only [w181_572, w181_572n, w181_574, w181_576, w181_578, xk_n, xk_i, xk_r, xk_z, xk_l, xcs_0, xcs_i, xcs_r, xcs_z, xcs_l, Nat.reduceAdd, Nat.reduceLeDiff, Nat.reduceLT, true_and, and_true, Option.toList_some, Option.toList_none, List.nil_append, List.cons_append, List.getElem?_cons_zero, List.getElem?_cons_succ, List.set_cons_zero, List.set_cons_succ, List.length_cons, List.length_nil, y_bool0, y_bool1, not_true_eq_false, not_false_eq_true, false_implies, true_implies, true_or, or_true, false_or, or_false, if_true, if_false, ite_true, ite_false]
      refine R5.sr (k := v) rfl (by omega) fun h6 R6 => ?_
      refine hK h6 _ _ _ _ _ _ _ _ _ R6 (rr.up hv3 hv (fun i hi => ?_) (fun i hi => ?_) ⟨⟨?_, ?_, ?_, ?_, ?_, ?_⟩, dep + 1, upN p (dep + 1) c, ?_, fun k hk => ?_, dl', PTH.go hw P okv hb4 c1 hcl⟩)
      · rw [upd_ne _ _ (by omega), upd_ne _ _ (by omega), upd_ne _ _ (by omega), upd_ne _ _ (by omega), upd_ne _ _ (by omega)]
      · rw [upd_ne _ _ (by omega)]
      · exact upd_at _ _ _
      · rw [upd_ne _ _ (by omega), upd_ne _ _ (by omega), upd_at]
      · rw [upd_ne _ _ (by omega), upd_ne _ _ (by omega), upd_ne _ _ (by omega), upd_ne _ _ (by omega), upd_ne _ _ (by omega)]; exact r6
      · rw [upd_ne _ _ (by omega), upd_at]
        show Int32.ofNat t = oC (if gs (sE s) c = 3 then some t else none)
        rw [if_pos z3]; rfl
      · rw [upd_ne _ _ (by omega), upd_ne _ _ (by omega), upd_ne _ _ (by omega), upd_ne _ _ (by omega), upd_ne _ _ (by omega), r12, z2']
      · rw [upd_ne _ _ (by omega), upd_ne _ _ (by omega), upd_ne _ _ (by omega), upd_ne _ _ (by omega), upd_at]
      · rw [upd_ne _ _ (by omega), upd_ne _ _ (by omega), upd_ne _ _ (by omega), upd_at]
      · by_cases q : k = dep + 1
        · rw [q, upd_at, upN_at]
        · rw [upd_ne _ _ (by omega), upN_ne _ q]; exact pth k (by omega)
end
