/-! ===== the law's run on every script ===== -/
def lwK (L : Nat) (r : Option Value) (h : xH) : Prop := r = some (.int 1) ∧ h.length ≤ 600002 ∧ xsl h ≤ L + 7302250
theorem sub6 {L i : Nat} (hL : L ≤ 3072) (hi : i ≤ 3100) : (Int32.ofNat L - 6 < Int32.ofNat i) = ¬ (i + 6 ≤ L) := by
  by_cases q : 6 ≤ L
  · have e : Int32.ofNat L - 6 = Int32.ofNat (L - 6) := n_subl (m := 6) q
    rw [e, n_lt (by omega) (by omega)]
    exact propext (by omega)
  · have h1 : Int32.ofNat L - Int32.ofNat 6 < 0 := n_subneg (by omega) (by omega)
    have h1' : (Int32.ofNat L - 6).toInt < 0 := by
      have := Int32.lt_iff_toInt_lt.mp h1
      exact this
    have : Int32.ofNat L - 6 < Int32.ofNat i := by
      rw [Int32.lt_iff_toInt_lt, n_toInt (by omega)]
      omega
    exact propext ⟨fun _ z => by omega, fun _ => this⟩
theorem lw_loop {L : Nat} (hL : L ≤ 3072) (xs : Nat → Int32) : ∀ (f i : Nat) (h : xH) (s : St), L - i ≤ f → i ≤ L + 6 → RX h s → RM h s → h[0]? = some (.inl (0, L, .inl xs)) → h.length ≤ 49 + 2 * i → xsl h ≤ L + 2000 + 20 * i → wp 9 175 18 (lw_L i) [] h (lwK L) := by
  intro f
  induction f with
  | zero =>
    intro i h s hf hi HX HM hs h1 h2
    have e := sub6 (L := L) (i := i) hL (by omega)
    have e' : (Int32.ofNat L - 6 < Int32.ofNat i) = True := e.trans (eq_true (by omega))
    rw [w175_18]
    simp only [w175_19, w175_19n, w175_20, w175_21, w175_23, w175_24, w175_1227, w175_1228, xk_n, xk_i, xk_r, xk_z, xk_l, xcs_0, xcs_i, xcs_r, xcs_z, xcs_l, Nat.reduceAdd, Nat.reduceLeDiff, Nat.reduceLT, true_and, and_true, Option.toList_some, Option.toList_none, List.nil_append, List.cons_append, List.getElem?_cons_zero, List.getElem?_cons_succ, List.set_cons_zero, List.set_cons_succ, List.length_cons, List.length_nil, y_bool0, y_bool1, not_true_eq_false, not_false_eq_true, false_implies, true_implies, true_or, or_true, false_or, or_false, if_true, if_false, ite_true, ite_false, y_alen, hs, e']
    exact ⟨rfl, by omega, by omega⟩
  | succ f ih =>
    intro i h s hf hi HX HM hs h1 h2
    have e := sub6 (L := L) (i := i) hL (by omega)
    by_cases q : i + 6 ≤ L
    · have e' : (Int32.ofNat L - 6 < Int32.ofNat i) = False := e.trans (eq_false (fun z => z q))
      have D := fun J => scr (j := i) (J := J) hs hL (by omega)
      have hN : NX L xs h (lwK L) i := by
        intro h' s' X' M' F'
        have z6 : Int32.ofNat i + 6 = Int32.ofNat (i + 6) := n_addl i 6
        have l1 := F'.2.1
        have l2 := F'.2.2.1
        simp only [w175_1221, w175_1224, xk_n, xk_i, xk_r, xk_z, xk_l, xcs_0, xcs_i, xcs_r, xcs_z, xcs_l, Nat.reduceAdd, Nat.reduceLeDiff, Nat.reduceLT, true_and, and_true, Option.toList_some, Option.toList_none, List.nil_append, List.cons_append, List.getElem?_cons_zero, List.getElem?_cons_succ, List.set_cons_zero, List.set_cons_succ, List.length_cons, List.length_nil, y_bool0, y_bool1, not_true_eq_false, not_false_eq_true, false_implies, true_implies, true_or, or_true, false_or, or_false, if_true, if_false, ite_true, ite_false, z6]
        exact ih (i + 6) h' s' (by omega) (by omega) X' M' (F'.at hs (fun z => by unfold NP at z; omega)) (by omega) (by omega)
      rw [w175_18]
      simp only [w175_19, w175_19n, w175_20, w175_21, w175_23, w175_24, w175_27, w175_27n, w175_28, w175_29, w175_30, w175_32, xk_n, xk_i, xk_r, xk_z, xk_l, xcs_0, xcs_i, xcs_r, xcs_z, xcs_l, Nat.reduceAdd, Nat.reduceLeDiff, Nat.reduceLT, true_and, and_true, Option.toList_some, Option.toList_none, List.nil_append, List.cons_append, List.getElem?_cons_zero, List.getElem?_cons_succ, List.set_cons_zero, List.set_cons_succ, List.length_cons, List.length_nil, y_bool0, y_bool1, not_true_eq_false, not_false_eq_true, false_implies, true_implies, true_or, or_true, false_or, or_false, if_true, if_false, ite_true, ite_false, y_alen, hs, e', D]
      rw [w175_33]
      exact ⟨fun _ => hN h s HX HM FR.rfl', fun _ => lw_c0 HX HM hs q hL hN, fun _ => lw_c1 HX HM hs q hL hN, fun _ => lw_c2 HX HM hs q hL hN, fun _ => lw_c3 HX HM hs q hL hN, fun _ => lw_c4 HX HM hs q hL hN, fun _ => lw_c5 HX HM hs q hL hN, fun _ => lw_c6 HX HM hs q hL hN, fun _ => lw_c7 HX HM hs q hL hN, fun _ => lw_c8 HX HM hs q hL hN, fun _ => lw_c9 HX HM hs q hL hN, fun _ => lw_c10 HX HM hs q hL hN, fun _ => lw_c11 HX HM hs q hL hN, fun _ => lw_c12 HX HM hs q hL hN, fun _ => lw_c13 HX HM hs q hL hN, fun _ => lw_c14 HX HM hs q hL hN, fun _ => lw_c15 HX HM hs q hL hN, fun _ => lw_c16 HX HM hs q hL hN, fun _ => lw_c17 HX HM hs q hL hN, fun _ => lw_c18 HX HM hs q hL hN, fun _ => lw_c19 HX HM hs q hL hN, fun _ => lw_c20 HX HM hs q hL hN, fun _ => lw_c21 HX HM hs q hL hN, fun _ => lw_c22 HX HM hs q hL hN, fun _ => lw_c23 HX HM hs q hL hN, fun _ => lw_c24 HX HM hs q hL hN, fun _ => lw_c25 HX HM hs q hL hN, fun _ => lw_c26 HX HM hs q hL hN, fun _ => lw_c27 HX HM hs q hL hN, fun _ => lw_c28 HX HM hs q hL hN, fun _ => lw_c29 HX HM hs q hL hN, fun _ => lw_c30 HX HM hs q hL hN, fun _ => lw_c31 HX HM hs q hL hN⟩
    · have e' : (Int32.ofNat L - 6 < Int32.ofNat i) = True := e.trans (eq_true q)
      rw [w175_18]
      simp only [w175_19, w175_19n, w175_20, w175_21, w175_23, w175_24, w175_1227, w175_1228, xk_n, xk_i, xk_r, xk_z, xk_l, xcs_0, xcs_i, xcs_r, xcs_z, xcs_l, Nat.reduceAdd, Nat.reduceLeDiff, Nat.reduceLT, true_and, and_true, Option.toList_some, Option.toList_none, List.nil_append, List.cons_append, List.getElem?_cons_zero, List.getElem?_cons_succ, List.set_cons_zero, List.set_cons_succ, List.length_cons, List.length_nil, y_bool0, y_bool1, not_true_eq_false, not_false_eq_true, false_implies, true_implies, true_or, or_true, false_or, or_false, if_true, if_false, ite_true, ite_false, y_alen, hs, e']
      exact ⟨rfl, by omega, by omega⟩
theorem law_wp {L : Nat} (hL : L ≤ 3072) (xs : Nat → Int32) : wp 9 175 0 [some (.ref 0), none, none, none] [] (xh0 L xs) (lwK L) := by
  simp only [w175_0, w175_3, w175_3r, w175_4, xk_n, xk_i, xk_r, xk_z, xk_l, xcs_0, xcs_i, xcs_r, xcs_z, xcs_l, Nat.reduceAdd, Nat.reduceLeDiff, Nat.reduceLT, true_and, and_true, Option.toList_some, Option.toList_none, List.nil_append, List.cons_append, List.getElem?_cons_zero, List.getElem?_cons_succ, List.set_cons_zero, List.set_cons_succ, List.length_cons, List.length_nil, y_bool0, y_bool1, not_true_eq_false, not_false_eq_true, false_implies, true_implies, true_or, or_true, false_or, or_false, if_true, if_false, ite_true, ite_false]
  refine wp_nvg (g := xh0 L xs) (show 2 ≤ 2 by omega) ?_
  simp only [w175_7, w175_7n, w175_8, w175_11, w175_11r, w175_12, xk_n, xk_i, xk_r, xk_z, xk_l, xcs_0, xcs_i, xcs_r, xcs_z, xcs_l, Nat.reduceAdd, Nat.reduceLeDiff, Nat.reduceLT, true_and, and_true, Option.toList_some, Option.toList_none, List.nil_append, List.cons_append, List.getElem?_cons_zero, List.getElem?_cons_succ, List.set_cons_zero, List.set_cons_succ, List.length_cons, List.length_nil, y_bool0, y_bool1, not_true_eq_false, not_false_eq_true, false_implies, true_implies, true_or, or_true, false_or, or_false, if_true, if_false, ite_true, ite_false]
  refine wp_nmd (g := xh0 L xs ++ nvg (xh0 L xs).length (shF (xh0 L xs).length)) (show 2 ≤ 25 by omega) ?_
  simp only [w175_15, w175_15n, w175_16, w175_17, xk_n, xk_i, xk_r, xk_z, xk_l, xcs_0, xcs_i, xcs_r, xcs_z, xcs_l, Nat.reduceAdd, Nat.reduceLeDiff, Nat.reduceLT, true_and, and_true, Option.toList_some, Option.toList_none, List.nil_append, List.cons_append, List.getElem?_cons_zero, List.getElem?_cons_succ, List.set_cons_zero, List.set_cons_succ, List.length_cons, List.length_nil, y_bool0, y_bool1, not_true_eq_false, not_false_eq_true, false_implies, true_implies, true_or, or_true, false_or, or_false, if_true, if_false, ite_true, ite_false]
  show wp 9 175 18 (lw_L 0) [] (mk0 L xs) (lwK L)
  have l49 := mk0_len L xs
  have sl := mk0_sl L xs
  exact lw_loop hL xs L 0 (mk0 L xs) st0 (by omega) (by omega) (mk0_x L xs) (mk0_m L xs) rfl (by omega) (by omega)
theorem law_go {L : Nat} (hL : L ≤ 3072) (xs : Nat → Int32) : ∃ h' : xH, xGo 9 xLaw 0 [some (.ref 0), none, none, none] [] (xh0 L xs) (some (.int 1), h') ∧ h'.length ≤ 600002 ∧ xsl h' ≤ L + 7302250 := by
  obtain ⟨⟨r, h'⟩, hg, rfl, h1, h2⟩ := law_wp hL xs
  exact ⟨h', hg, h1, h2⟩
