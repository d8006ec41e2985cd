/-! ===== the law's change, whole; its rings ===== -/
section
variable {d : Nat} {K : Option Value → xH → Prop} {hi n : Nat} {x y : Int32} {h0 : xH}
theorem wp_chl (h1n : 1 ≤ n) (hK : ∀ h' s', RX h' s' → LG h' s' hi → gn (sE s') = n → FR CQ 4 40 h0 h' → K (some (.int 1)) h') : ∀ (j k : Nat) (h : xH) (s : St) (l8 l9 l10 l11 l12 l13 l14 l15 : Option Value), k + j = 2 → RX h s → LG h s hi → gn (sE s) = n → 30 ≤ h.length → FR CQ (2 * k) (20 * k) h0 h → wp (d + 5) 179 12 [some (.ref 2), some (.int x), some (.int y), some (.ref 25), some (.ref 26), some (.ref 27), some (.int (Int32.ofNat n)), some (.int (Int32.ofNat k)), l8, l9, l10, l11, l12, l13, l14, l15] [] h K
  | 0, k, h, s, l8, l9, l10, l11, l12, l13, l14, l15, hj, R, H, hn, h30, F => by
    have q : 2 ≤ Int32.ofNat k := (n_lle (m := 2) (by omega) (by omega)).mpr (by omega)
    rw [w179_12]
    simp only [w179_14, w179_15, w179_364, w179_365, xk_n, xk_i, xk_r, xk_z, xk_l, xcs_0, xcs_i, xcs_r, xcs_z, xcs_l, Nat.reduceAdd, Nat.reduceLeDiff, Nat.reduceLT, true_and, and_true, Option.toList_some, Option.toList_none, List.nil_append, List.cons_append, List.getElem?_cons_zero, List.getElem?_cons_succ, List.set_cons_zero, List.set_cons_succ, List.length_cons, List.length_nil, y_bool0, y_bool1, not_true_eq_false, not_false_eq_true, false_implies, true_implies, true_or, or_true, false_or, or_false, if_true, if_false, ite_true, ite_false, q]
    refine hK h s R H hn ?_
    have : k = 2 := by omega
    subst this
    exact F
  | j + 1, k, h, s, l8, l9, l10, l11, l12, l13, l14, l15, hj, R, H, hn, h30, F => by
    have n20 := H.n20
    have q : (2 ≤ Int32.ofNat k) = False := eq_false (by rw [n_lle (m := 2) (by omega) (by omega)]; omega)
    have z8 : Int32.ofNat k + 1 = Int32.ofNat (k + 1) := n_addl k 1
    rw [w179_12]
    simp only [w179_14, w179_15, w179_18, w179_19, w179_20, w179_22, w179_23, w179_24, w179_26, xk_n, xk_i, xk_r, xk_z, xk_l, xcs_0, xcs_i, xcs_r, xcs_z, xcs_l, Nat.reduceAdd, Nat.reduceLeDiff, Nat.reduceLT, true_and, and_true, Option.toList_some, Option.toList_none, List.nil_append, List.cons_append, List.getElem?_cons_zero, List.getElem?_cons_succ, List.set_cons_zero, List.set_cons_succ, List.length_cons, List.length_nil, y_bool0, y_bool1, not_true_eq_false, not_false_eq_true, false_implies, true_implies, true_or, or_true, false_or, or_false, if_true, if_false, ite_true, ite_false, q]
    refine wp_some (n := n) rfl (by omega) (by omega) fun c hc => ?_
    simp only [w179_29, w179_31, w179_32, w179_34, w179_35, w179_37, w179_38, w179_39, w179_40, w179_41, xk_n, xk_i, xk_r, xk_z, xk_l, xcs_0, xcs_i, xcs_r, xcs_z, xcs_l, Nat.reduceAdd, Nat.reduceLeDiff, Nat.reduceLT, true_and, and_true, Option.toList_some, Option.toList_none, List.nil_append, List.cons_append, List.getElem?_cons_zero, List.getElem?_cons_succ, List.set_cons_zero, List.set_cons_succ, List.length_cons, List.length_nil, y_bool0, y_bool1, not_true_eq_false, not_false_eq_true, false_implies, true_implies, true_or, or_true, false_or, or_false, if_true, if_false, ite_true, ite_false]
    refine wp_some (n := 3) rfl (by omega) (by omega) fun kd hkd => ?_
    simp only [w179_44, w179_46, w179_47, w179_48, w179_50, w179_51, w179_52, w179_53, xk_n, xk_i, xk_r, xk_z, xk_l, xcs_0, xcs_i, xcs_r, xcs_z, xcs_l, Nat.reduceAdd, Nat.reduceLeDiff, Nat.reduceLT, true_and, and_true, Option.toList_some, Option.toList_none, List.nil_append, List.cons_append, List.getElem?_cons_zero, List.getElem?_cons_succ, List.set_cons_zero, List.set_cons_succ, List.length_cons, List.length_nil, y_bool0, y_bool1, not_true_eq_false, not_false_eq_true, false_implies, true_implies, true_or, or_true, false_or, or_false, if_true, if_false, ite_true, ite_false]
    refine wp_some (n := 4) rfl (by omega) (by omega) fun hd hhd => ?_
    simp only [w179_56, xk_n, xk_i, xk_r, xk_z, xk_l, xcs_0, xcs_i, xcs_r, xcs_z, xcs_l, Nat.reduceAdd, Nat.reduceLeDiff, Nat.reduceLT, true_and, and_true, Option.toList_some, Option.toList_none, List.nil_append, List.cons_append, List.getElem?_cons_zero, List.getElem?_cons_succ, List.set_cons_zero, List.set_cons_succ, List.length_cons, List.length_nil, y_bool0, y_bool1, not_true_eq_false, not_false_eq_true, false_implies, true_implies, true_or, or_true, false_or, or_false, if_true, if_false, ite_true, ite_false]
    refine wp_cvine R H h30 hn hc hkd hhd fun h1 s1 l11 R1 H1 hn1 F1 => ?_
    simp only [w179_153, w179_154, w179_155, w179_156, w179_158, w179_159, w179_160, w179_161, w179_163, xk_n, xk_i, xk_r, xk_z, xk_l, xcs_0, xcs_i, xcs_r, xcs_z, xcs_l, Nat.reduceAdd, Nat.reduceLeDiff, Nat.reduceLT, true_and, and_true, Option.toList_some, Option.toList_none, List.nil_append, List.cons_append, List.getElem?_cons_zero, List.getElem?_cons_succ, List.set_cons_zero, List.set_cons_succ, List.length_cons, List.length_nil, y_bool0, y_bool1, not_true_eq_false, not_false_eq_true, false_implies, true_implies, true_or, or_true, false_or, or_false, if_true, if_false, ite_true, ite_false]
    refine wp_some (n := n) rfl (by omega) (by omega) fun c2 hc2 => ?_
    simp only [w179_166, w179_168, w179_169, w179_171, w179_172, w179_174, w179_175, w179_176, w179_177, w179_178, xk_n, xk_i, xk_r, xk_z, xk_l, xcs_0, xcs_i, xcs_r, xcs_z, xcs_l, Nat.reduceAdd, Nat.reduceLeDiff, Nat.reduceLT, true_and, and_true, Option.toList_some, Option.toList_none, List.nil_append, List.cons_append, List.getElem?_cons_zero, List.getElem?_cons_succ, List.set_cons_zero, List.set_cons_succ, List.length_cons, List.length_nil, y_bool0, y_bool1, not_true_eq_false, not_false_eq_true, false_implies, true_implies, true_or, or_true, false_or, or_false, if_true, if_false, ite_true, ite_false]
    refine wp_some (n := 4) rfl (by omega) (by omega) fun g hg => ?_
    simp only [w179_181, xk_n, xk_i, xk_r, xk_z, xk_l, xcs_0, xcs_i, xcs_r, xcs_z, xcs_l, Nat.reduceAdd, Nat.reduceLeDiff, Nat.reduceLT, true_and, and_true, Option.toList_some, Option.toList_none, List.nil_append, List.cons_append, List.getElem?_cons_zero, List.getElem?_cons_succ, List.set_cons_zero, List.set_cons_succ, List.length_cons, List.length_nil, y_bool0, y_bool1, not_true_eq_false, not_false_eq_true, false_implies, true_implies, true_or, or_true, false_or, or_false, if_true, if_false, ite_true, ite_false]
    refine wp_cset R1 H1 hn1 hc2 hg fun h2 s2 l13 R2 H2 hn2 F2 => ?_
    simp only [w179_245, w179_246, w179_248, w179_249, w179_251, w179_252, w179_253, w179_254, w179_256, xk_n, xk_i, xk_r, xk_z, xk_l, xcs_0, xcs_i, xcs_r, xcs_z, xcs_l, Nat.reduceAdd, Nat.reduceLeDiff, Nat.reduceLT, true_and, and_true, Option.toList_some, Option.toList_none, List.nil_append, List.cons_append, List.getElem?_cons_zero, List.getElem?_cons_succ, List.set_cons_zero, List.set_cons_succ, List.length_cons, List.length_nil, y_bool0, y_bool1, not_true_eq_false, not_false_eq_true, false_implies, true_implies, true_or, or_true, false_or, or_false, if_true, if_false, ite_true, ite_false]
    refine wp_some (n := 30) rfl (by omega) (by omega) fun day hday => ?_
    simp only [w179_259, w179_261, w179_262, w179_264, w179_266, w179_267, w179_268, w179_269, xk_n, xk_i, xk_r, xk_z, xk_l, xcs_0, xcs_i, xcs_r, xcs_z, xcs_l, Nat.reduceAdd, Nat.reduceLeDiff, Nat.reduceLT, true_and, and_true, Option.toList_some, Option.toList_none, List.nil_append, List.cons_append, List.getElem?_cons_zero, List.getElem?_cons_succ, List.set_cons_zero, List.set_cons_succ, List.length_cons, List.length_nil, y_bool0, y_bool1, not_true_eq_false, not_false_eq_true, false_implies, true_implies, true_or, or_true, false_or, or_false, if_true, if_false, ite_true, ite_false]
    refine wp_some (n := 3) rfl (by omega) (by omega) fun cold hcold => ?_
    have go : ∀ b : Bool, wp (d + 5) 179 282 [some (.ref 2), some (.int x), some (.int y), some (.ref 25), some (.ref 26), some (.ref 27), some (.int (Int32.ofNat n)), some (.int (Int32.ofNat k)), some (.int (Int32.ofNat c2)), some (.int (Int32.ofNat kd)), some (.int (Int32.ofNat hd)), some (.int l11), some (.int (Int32.ofNat g)), some (.int l13), some (.int (Int32.ofNat day)), some (.int (bi b))] [] h2 K := by
      intro b
      refine wp_cfrost R2 H2 hn2 h1n hday fun h3 s3 R3 H3 hn3 F3 => ?_
      simp only [w179_358, w179_361, xk_n, xk_i, xk_r, xk_z, xk_l, xcs_0, xcs_i, xcs_r, xcs_z, xcs_l, Nat.reduceAdd, Nat.reduceLeDiff, Nat.reduceLT, true_and, and_true, Option.toList_some, Option.toList_none, List.nil_append, List.cons_append, List.getElem?_cons_zero, List.getElem?_cons_succ, List.set_cons_zero, List.set_cons_succ, List.length_cons, List.length_nil, y_bool0, y_bool1, not_true_eq_false, not_false_eq_true, false_implies, true_implies, true_or, or_true, false_or, or_false, if_true, if_false, ite_true, ite_false, z8]
      have Fa : FR CQ 2 20 h h3 := (F1.trans F2 (R := CQ) (fun _ _ z => z) (fun _ _ z => z) (Nat.le_refl _) (Nat.le_refl _)).trans F3 (fun _ _ z => z) (fun _ _ z => z) (Nat.le_refl _) (Nat.le_refl _)
      exact wp_chl h1n hK j (k + 1) h3 s3 _ _ _ _ _ _ _ _ (by omega) R3 H3 hn3 (by have := Fa.1; omega) (F.trans Fa (fun _ _ z => z) (fun _ _ z => z) (by omega) (by omega))
    have g1 := go true
    have g0 := go false
    rw [bi_t] at g1
    rw [bi_f] at g0
    simp only [w179_272, w179_275, w179_276, w179_279, w179_280, xk_n, xk_i, xk_r, xk_z, xk_l, xcs_0, xcs_i, xcs_r, xcs_z, xcs_l, Nat.reduceAdd, Nat.reduceLeDiff, Nat.reduceLT, true_and, and_true, Option.toList_some, Option.toList_none, List.nil_append, List.cons_append, List.getElem?_cons_zero, List.getElem?_cons_succ, List.set_cons_zero, List.set_cons_succ, List.length_cons, List.length_nil, y_bool0, y_bool1, not_true_eq_false, not_false_eq_true, false_implies, true_implies, true_or, or_true, false_or, or_false, if_true, if_false, ite_true, ite_false]
    exact ⟨fun _ => g0, fun _ => g1⟩
theorem wp_lchange {s : St} (R : RX h0 s) (H : LG h0 s hi) (h30 : 30 ≤ h0.length) (hK : ∀ h' s', RX h' s' → LG h' s' hi → gn (sE s') = gn (sE s) → FR CQ 4 40 h0 h' → K (some (.int 1)) h') : wp (d + 5) 179 0 [some (.ref 2), some (.int x), some (.int y), some (.ref 25), some (.ref 26), some (.ref 27), none, none, none, none, none, none, none, none, none, none] [] h0 K := by
  have H0 := H
  obtain ⟨⟨a1, a2, a3, a4, a5, a6⟩, ⟨f, b1, b2, b3, -⟩, -⟩ := H
  have r0 := fun J => yi b1 (i := 0) (k := 0) rfl (by omega) (by omega) b2 J
  have r1 := fun J => yi b1 (i := 1) (k := 1) rfl (by omega) (by omega) b3 J
  have e1 : Int32.ofNat hi * Int32.ofNat (gw (sE s)) = Int32.ofNat (gn (sE s)) := by rw [n_mul, a5]
  have h2 : 1 ≤ gn (sE s) := by
    rw [a5]
    exact Nat.mul_le_mul a1 (show 1 ≤ gw (sE s) by omega)
  simp only [w179_0, w179_0n, w179_1, w179_2, w179_3, w179_3n, w179_4, w179_5, w179_6, w179_7, w179_9, w179_10, xk_n, xk_i, xk_r, xk_z, xk_l, xcs_0, xcs_i, xcs_r, xcs_z, xcs_l, Nat.reduceAdd, Nat.reduceLeDiff, Nat.reduceLT, true_and, and_true, Option.toList_some, Option.toList_none, List.nil_append, List.cons_append, List.getElem?_cons_zero, List.getElem?_cons_succ, List.set_cons_zero, List.set_cons_succ, List.length_cons, List.length_nil, y_bool0, y_bool1, not_true_eq_false, not_false_eq_true, false_implies, true_implies, true_or, or_true, false_or, or_false, if_true, if_false, ite_true, ite_false, r0, r1, e1]
  exact wp_chl h2 hK 2 0 h0 s _ _ _ _ _ _ _ _ (by omega) R H0 rfl h30 FR.rfl'
end
/-! the rings -/
def hl (E : Gd) (R N : Nat) : Nat → Nat → Bool
  | 0, _ => false
  | j + 1, c => (N.testBit c && !R.testBit c && gs E c == 3) || hl E R N j (c + 1)
theorem hl_t {E : Gd} {R N : Nat} : ∀ {j c : Nat}, hl E R N j c = true ↔ ∃ c', c ≤ c' ∧ c' < c + j ∧ N.testBit c' = true ∧ R.testBit c' = false ∧ gs E c' = 3
  | 0, c => ⟨fun z => (by cases z), fun ⟨c', h1, h2, _⟩ => by omega⟩
  | j + 1, c => by
    show ((N.testBit c && !R.testBit c && gs E c == 3) || hl E R N j (c + 1)) = true ↔ _
    rw [Bool.or_eq_true, hl_t, Bool.and_eq_true, Bool.and_eq_true, beq_iff_eq, Bool.not_eq_true']
    constructor
    · rintro (⟨⟨h1, h2⟩, h3⟩ | ⟨c', h1, h2, h3⟩)
      · exact ⟨c, by omega, by omega, h1, h2, h3⟩
      · exact ⟨c', by omega, by omega, h3⟩
    · rintro ⟨c', h1, h2, h3, h4, h5⟩
      by_cases z : c' = c
      · subst z; exact Or.inl ⟨⟨h3, h4⟩, h5⟩
      · exact Or.inr ⟨c', by omega, by omega, h3, h4, h5⟩
theorem rg_mono {E : Gd} {s y : Nat} : ∀ {k j : Nat}, k ≤ j → (rg E s k).testBit y = true → (rg E s j).testBit y = true
  | k, 0, h, z => by rw [show k = 0 by omega] at z; exact z
  | k, j + 1, h, z => by
    by_cases q : k = j + 1
    · rw [q] at z; exact z
    · exact rg_s.mpr (Or.inl (rg_mono (by omega) z))
theorem rg_0 {E : Gd} {s : Nat} (k : Nat) : (rg E s k).testBit s = true := rg_mono (k := 0) (by omega) (by show (2 ^ s).testBit s = true; rw [Nat.testBit_two_pow]; simp)
theorem hit_0 {E : Gd} {s : Nat} : hit E s (rg E s 0) (gn E) 0 = false := by
  cases q : hit E s (rg E s 0) (gn E) 0 with
  | false => rfl
  | true =>
    obtain ⟨c', -, -, h3, h4, -⟩ := hit_t.mp q
    replace h4 : (2 ^ s).testBit c' = true := h4
    rw [Nat.testBit_two_pow] at h4
    exact absurd (of_decide_eq_true h4).symm h3
theorem hl_hit {E : Gd} {s k : Nat} (h : hit E s (rg E s k) (gn E) 0 = false) : hl E (rg E s k) (rg E s (k + 1)) (gn E) 0 = hit E s (rg E s (k + 1)) (gn E) 0 := by
  rw [Bool.eq_iff_iff, hl_t, hit_t]
  constructor
  · rintro ⟨c, h1, h2, h3, h4, h5⟩
    refine ⟨c, h1, h2, fun z => ?_, h3, h5⟩
    rw [z, rg_0] at h4
    cases h4
  · rintro ⟨c, h1, h2, h3, h4, h5⟩
    refine ⟨c, h1, h2, h4, ?_, h5⟩
    cases q : (rg E s k).testBit c with
    | false => rfl
    | true =>
      have := hit_t.mpr ⟨c, h1, h2, h3, q, h5⟩
      rw [h] at this
      cases this
theorem rg_lt {E : Gd} {s y : Nat} (hw : okW (gw E) (gn E)) (hs : s < gn E) : ∀ {k : Nat}, (rg E s k).testBit y = true → y < gn E
  | 0, z => by
    replace z : (2 ^ s).testBit y = true := z
    rw [Nat.testBit_two_pow] at z
    have := of_decide_eq_true z
    omega
  | k + 1, z => by
    rcases rg_s.mp z with z | ⟨c', h1, h2, d, h3, h4, h5⟩
    · exact rg_lt hw hs z
    · exact bes_lt hw h1 h4
/-- a cell that is new in a ring has one ahead of it in each ring before -/
theorem rg_seq {E : Gd} {s : Nat} : ∀ (k c : Nat), (rg E s (k + 1)).testBit c = true → (rg E s k).testBit c = false → ∃ f : Nat → Nat, f (k + 1) = c ∧ ∀ i, i ≤ k → (rg E s (i + 1)).testBit (f (i + 1)) = true ∧ (rg E s i).testBit (f (i + 1)) = false
  | 0, c, h1, h2 => ⟨fun _ => c, rfl, fun i hi => by rw [show i = 0 by omega]; exact ⟨h1, h2⟩⟩
  | k + 1, c, h1, h2 => by
    rcases rg_s.mp h1 with z | ⟨c', g1, g2, d, g3, g4, g5⟩
    · rw [h2] at z; cases z
    · have n1 : (rg E s k).testBit c' = false := by
        cases q : (rg E s k).testBit c' with
        | false => rfl
        | true =>
          have := rg_s.mpr (Or.inr ⟨c', g1, q, d, g3, g4, g5⟩)
          rw [h2] at this
          cases this
      obtain ⟨f, f1, f2⟩ := rg_seq k c' g2 n1
      refine ⟨fun i => if i = k + 2 then c else f i, if_pos rfl, fun i hi => ?_⟩
      by_cases q : i = k + 1
      · subst q
        (try dsimp only)
        rw [if_pos rfl]
        exact ⟨h1, h2⟩
      · (try dsimp only)
        rw [if_neg (by omega)]
        exact f2 i (by omega)
theorem rg_new {E : Gd} {s k c : Nat} (hw : okW (gw E) (gn E)) (hs : s < gn E) (h1 : (rg E s (k + 1)).testBit c = true) (h2 : (rg E s k).testBit c = false) : k + 1 < gn E := by
  obtain ⟨f, -, f2⟩ := rg_seq k c h1 h2
  have key : ∀ i j, i < j → j ≤ k + 1 → (if i = 0 then s else f i) ≠ (if j = 0 then s else f j) := by
    intro i j hij hj z
    rw [if_neg (show ¬ j = 0 by omega)] at z
    obtain ⟨g1, g2⟩ := f2 (j - 1) (by omega)
    rw [show j - 1 + 1 = j by omega] at g1 g2
    by_cases q : i = 0
    · rw [if_pos q] at z
      rw [← z, rg_0] at g2
      cases g2
    · rw [if_neg q] at z
      obtain ⟨e1, -⟩ := f2 (i - 1) (by omega)
      rw [show i - 1 + 1 = i by omega] at e1
      rw [← z, rg_mono (show i ≤ j - 1 by omega) e1] at g2
      cases g2
  have := pigeon (gn E) (k + 2) (fun i => if i = 0 then s else f i) (fun i hi => by
    (try dsimp only)
    by_cases q : i = 0
    · rw [if_pos q]; exact hs
    · rw [if_neg q]
      have := (f2 (i - 1) (by omega)).1
      rw [show i - 1 + 1 = i by omega] at this
      exact rg_lt hw hs this) (fun i j hi hj hij => by
    rcases Nat.lt_trichotomy i j with z | z | z
    · exact absurd hij (key i j z (by omega))
    · exact z
    · exact absurd hij.symm (key j i z (by omega)))
  omega
theorem stO_no {E : Gd} {s : Nat} : ∀ j k, (∀ y, k ≤ y → y < k + j → hit E s (rg E s y) (gn E) 0 = false) → stO E s j k = none
  | 0, _, _ => rfl
  | j + 1, k, h => by
    show (if hit E s (rg E s k) (gn E) 0 then some k else stO E s j (k + 1)) = none
    rw [h k (by omega) (by omega), if_neg (by simp)]
    exact stO_no j (k + 1) fun y h1 h2 => h y (by omega) (by omega)
section
variable {d : Nat} {K : Option Value → xH → Prop} {s : St} {hi v : Nat} {h : xH} {l5 : Option Value} {l9 l10 : Int32}
theorem wp_ld {c R st : Nat} {sh : Int32} (H : LG h s hi) (hs4 : ∀ c, c < gn (sE s) → gs (sE s) c < 4) (hc : c < gn (sE s)) : ∀ (j dd N : Nat) (l18 : Option Value), dd + j = 4 → N < 1073741824 → (∀ l17 l18, wp (d + 1) 182 522 [some (.ref 0), some (.ref 2), some (.ref 25), some (.ref 26), some (.ref 27), l5, some (.int (Int32.ofNat (gn (sE s)))), some (.ref 28), some (.ref 29), some (.int l9), some (.int l10), some (.int (Int32.ofNat v)), some (.int (Int32.ofNat R)), some (.int (Int32.ofNat st)), some (.int sh), some (.int (Int32.ofNat (spD (sE s) c j dd N))), some (.int (Int32.ofNat c)), l17, l18] [] h K) → wp (d + 1) 182 478 [some (.ref 0), some (.ref 2), some (.ref 25), some (.ref 26), some (.ref 27), l5, some (.int (Int32.ofNat (gn (sE s)))), some (.ref 28), some (.ref 29), some (.int l9), some (.int l10), some (.int (Int32.ofNat v)), some (.int (Int32.ofNat R)), some (.int (Int32.ofNat st)), some (.int sh), some (.int (Int32.ofNat N)), some (.int (Int32.ofNat c)), some (.int (Int32.ofNat dd)), l18] [] h K
  | 0, dd, N, l18, hj, hN, hK => by
    have q : 4 ≤ Int32.ofNat dd := (n_lle (m := 4) (by omega) (by omega)).mpr (by omega)
    rw [w182_478]
    simp only [w182_480, w182_481, xk_n, xk_i, xk_r, xk_z, xk_l, xcs_0, xcs_i, xcs_r, xcs_z, xcs_l, Nat.reduceAdd, Nat.reduceLeDiff, Nat.reduceLT, true_and, and_true, Option.toList_some, Option.toList_none, List.nil_append, List.cons_append, List.getElem?_cons_zero, List.getElem?_cons_succ, List.set_cons_zero, List.set_cons_succ, List.length_cons, List.length_nil, y_bool0, y_bool1, not_true_eq_false, not_false_eq_true, false_implies, true_implies, true_or, or_true, false_or, or_false, if_true, if_false, ite_true, ite_false, q]
    exact hK _ _
  | j + 1, dd, N, l18, hj, hN, hK => by
    have n20 := H.n20
    have q : (4 ≤ Int32.ofNat dd) = False := eq_false (by rw [n_lle (m := 4) (by omega) (by omega)]; omega)
    have z8 : Int32.ofNat dd + 1 = Int32.ofNat (dd + 1) := n_addl dd 1
    have next : ∀ (N : Nat) (l18 : Option Value), N < 1073741824 → (∀ l17 l18, wp (d + 1) 182 522 [some (.ref 0), some (.ref 2), some (.ref 25), some (.ref 26), some (.ref 27), l5, some (.int (Int32.ofNat (gn (sE s)))), some (.ref 28), some (.ref 29), some (.int l9), some (.int l10), some (.int (Int32.ofNat v)), some (.int (Int32.ofNat R)), some (.int (Int32.ofNat st)), some (.int sh), some (.int (Int32.ofNat (spD (sE s) c j (dd + 1) N))), some (.int (Int32.ofNat c)), l17, l18] [] h K) → wp (d + 1) 182 516 [some (.ref 0), some (.ref 2), some (.ref 25), some (.ref 26), some (.ref 27), l5, some (.int (Int32.ofNat (gn (sE s)))), some (.ref 28), some (.ref 29), some (.int l9), some (.int l10), some (.int (Int32.ofNat v)), some (.int (Int32.ofNat R)), some (.int (Int32.ofNat st)), some (.int sh), some (.int (Int32.ofNat N)), some (.int (Int32.ofNat c)), some (.int (Int32.ofNat dd)), l18] [] h K := by
      intro N l18 hN hK
      simp only [w182_516, w182_519, xk_n, xk_i, xk_r, xk_z, xk_l, xcs_0, xcs_i, xcs_r, xcs_z, xcs_l, Nat.reduceAdd, Nat.reduceLeDiff, Nat.reduceLT, true_and, and_true, Option.toList_some, Option.toList_none, List.nil_append, List.cons_append, List.getElem?_cons_zero, List.getElem?_cons_succ, List.set_cons_zero, List.set_cons_succ, List.length_cons, List.length_nil, y_bool0, y_bool1, not_true_eq_false, not_false_eq_true, false_implies, true_implies, true_or, or_true, false_or, or_false, if_true, if_false, ite_true, ite_false, z8]
      exact wp_ld H hs4 hc j (dd + 1) N _ (by omega) hN hK
    have sp : spD (sE s) c (j + 1) dd N = spD (sE s) c j (dd + 1) (spI (sE s) c N dd) := rfl
    rw [sp] at hK
    rw [w182_478]
    simp only [w182_480, w182_481, w182_484, w182_484n, w182_485, w182_487, w182_489, xk_n, xk_i, xk_r, xk_z, xk_l, xcs_0, xcs_i, xcs_r, xcs_z, xcs_l, Nat.reduceAdd, Nat.reduceLeDiff, Nat.reduceLT, true_and, and_true, Option.toList_some, Option.toList_none, List.nil_append, List.cons_append, List.getElem?_cons_zero, List.getElem?_cons_succ, List.set_cons_zero, List.set_cons_succ, List.length_cons, List.length_nil, y_bool0, y_bool1, not_true_eq_false, not_false_eq_true, false_implies, true_implies, true_or, or_true, false_or, or_false, if_true, if_false, ite_true, ite_false, q]
    refine wp_to H hc (by omega) ?_
    unfold spI at hK
    cases hb : bes (gw (sE s)) (gn (sE s)) c dd with
    | none =>
      rw [hb] at hK
      have e2 : (oC none < 0) = True := eq_true (by decide)
      simp only [w182_492, w182_494, w182_496, xk_n, xk_i, xk_r, xk_z, xk_l, xcs_0, xcs_i, xcs_r, xcs_z, xcs_l, Nat.reduceAdd, Nat.reduceLeDiff, Nat.reduceLT, true_and, and_true, Option.toList_some, Option.toList_none, List.nil_append, List.cons_append, List.getElem?_cons_zero, List.getElem?_cons_succ, List.set_cons_zero, List.set_cons_succ, List.length_cons, List.length_nil, y_bool0, y_bool1, not_true_eq_false, not_false_eq_true, false_implies, true_implies, true_or, or_true, false_or, or_false, if_true, if_false, ite_true, ite_false, e2]
      exact next N _ hN hK
    | some x =>
      rw [hb] at hK
      dsimp only at hK
      have hx := bes_lt H.okW hc hb
      have hx4 := hs4 x hx
      have e2 : (oC (some x) < 0) = False := eq_false (n_lt0 (by omega))
      have e3 : oC (some x) = Int32.ofNat x := rfl
      have e4 : (Int32.ofNat (gs (sE s) x) = 1) = (gs (sE s) x = 1) := propext (n_eql (m := 1) (by omega) (by omega))
      have e6 : (1 : Int32) <<< (Int32.ofNat x &&& 31) = Int32.ofNat (2 ^ x) := i_one (by omega)
      have p30 : 2 ^ x < 1073741824 := Nat.pow_lt_pow_right (n := 30) (by omega) (by omega)
      have e7 : Int32.ofNat N ||| Int32.ofNat (2 ^ x) = Int32.ofNat (N ||| 2 ^ x) := i_or (by omega) (by omega)
      simp only [w182_492, w182_494, w182_496, xk_n, xk_i, xk_r, xk_z, xk_l, xcs_0, xcs_i, xcs_r, xcs_z, xcs_l, Nat.reduceAdd, Nat.reduceLeDiff, Nat.reduceLT, true_and, and_true, Option.toList_some, Option.toList_none, List.nil_append, List.cons_append, List.getElem?_cons_zero, List.getElem?_cons_succ, List.set_cons_zero, List.set_cons_succ, List.length_cons, List.length_nil, y_bool0, y_bool1, not_true_eq_false, not_false_eq_true, false_implies, true_implies, true_or, or_true, false_or, or_false, if_true, if_false, ite_true, ite_false, e2]
      simp only [w182_499, w182_499n, w182_500, w182_502, w182_503, w182_504, w182_507, w182_509, w182_510, w182_512, w182_513, w182_514, xk_n, xk_i, xk_r, xk_z, xk_l, xcs_0, xcs_i, xcs_r, xcs_z, xcs_l, Nat.reduceAdd, Nat.reduceLeDiff, Nat.reduceLT, true_and, and_true, Option.toList_some, Option.toList_none, List.nil_append, List.cons_append, List.getElem?_cons_zero, List.getElem?_cons_succ, List.set_cons_zero, List.set_cons_succ, List.length_cons, List.length_nil, y_bool0, y_bool1, not_true_eq_false, not_false_eq_true, false_implies, true_implies, true_or, or_true, false_or, or_false, if_true, if_false, ite_true, ite_false, e3, H.sg hx, e4, e6, e7]
      refine ⟨fun z => ?_, fun z => ?_⟩
      · rw [if_pos z] at hK
        exact next N _ hN hK
      · rw [if_neg z] at hK
        exact next _ _ (or_b30 hN (by omega)) hK
theorem wp_lc {R st : Nat} {sh : Int32} (H : LG h s hi) (hs4 : ∀ c, c < gn (sE s) → gs (sE s) c < 4) (hR : R < 1073741824) : ∀ (j c N : Nat) (l17 l18 : Option Value), c + j = gn (sE s) → N < 1073741824 → (∀ l16 l17 l18, wp (d + 1) 182 528 [some (.ref 0), some (.ref 2), some (.ref 25), some (.ref 26), some (.ref 27), l5, some (.int (Int32.ofNat (gn (sE s)))), some (.ref 28), some (.ref 29), some (.int l9), some (.int l10), some (.int (Int32.ofNat v)), some (.int (Int32.ofNat R)), some (.int (Int32.ofNat st)), some (.int sh), some (.int (Int32.ofNat (spO (sE s) R j c N))), l16, l17, l18] [] h K) → wp (d + 1) 182 455 [some (.ref 0), some (.ref 2), some (.ref 25), some (.ref 26), some (.ref 27), l5, some (.int (Int32.ofNat (gn (sE s)))), some (.ref 28), some (.ref 29), some (.int l9), some (.int l10), some (.int (Int32.ofNat v)), some (.int (Int32.ofNat R)), some (.int (Int32.ofNat st)), some (.int sh), some (.int (Int32.ofNat N)), some (.int (Int32.ofNat c)), l17, l18] [] h K
  | 0, c, N, l17, l18, hj, hN, hK => by
    have n20 := H.n20
    have q : Int32.ofNat (gn (sE s)) ≤ Int32.ofNat c := (n_le (by omega) (by omega)).mpr (by omega)
    rw [w182_455]
    simp only [w182_457, w182_459, xk_n, xk_i, xk_r, xk_z, xk_l, xcs_0, xcs_i, xcs_r, xcs_z, xcs_l, Nat.reduceAdd, Nat.reduceLeDiff, Nat.reduceLT, true_and, and_true, Option.toList_some, Option.toList_none, List.nil_append, List.cons_append, List.getElem?_cons_zero, List.getElem?_cons_succ, List.set_cons_zero, List.set_cons_succ, List.length_cons, List.length_nil, y_bool0, y_bool1, not_true_eq_false, not_false_eq_true, false_implies, true_implies, true_or, or_true, false_or, or_false, if_true, if_false, ite_true, ite_false, q]
    exact hK _ _ _
  | j + 1, c, N, l17, l18, hj, hN, hK => by
    have n20 := H.n20
    have q : (Int32.ofNat (gn (sE s)) ≤ Int32.ofNat c) = False := eq_false (by rw [n_le (by omega) (by omega)]; omega)
    have z8 : Int32.ofNat c + 1 = Int32.ofNat (c + 1) := n_addl c 1
    have e5 := i_bitB (c := c) hR (by omega)
    have e6 : (bi (R.testBit c) = 0) = (R.testBit c = false) := propext (bi_0 _)
    have sp : spO (sE s) R (j + 1) c N = spO (sE s) R j (c + 1) (spC (sE s) R c N) := rfl
    rw [sp] at hK
    have next : ∀ (N : Nat) (l17 l18 : Option Value), N < 1073741824 → (∀ l16 l17 l18, wp (d + 1) 182 528 [some (.ref 0), some (.ref 2), some (.ref 25), some (.ref 26), some (.ref 27), l5, some (.int (Int32.ofNat (gn (sE s)))), some (.ref 28), some (.ref 29), some (.int l9), some (.int l10), some (.int (Int32.ofNat v)), some (.int (Int32.ofNat R)), some (.int (Int32.ofNat st)), some (.int sh), some (.int (Int32.ofNat (spO (sE s) R j (c + 1) N))), l16, l17, l18] [] h K) → wp (d + 1) 182 522 [some (.ref 0), some (.ref 2), some (.ref 25), some (.ref 26), some (.ref 27), l5, some (.int (Int32.ofNat (gn (sE s)))), some (.ref 28), some (.ref 29), some (.int l9), some (.int l10), some (.int (Int32.ofNat v)), some (.int (Int32.ofNat R)), some (.int (Int32.ofNat st)), some (.int sh), some (.int (Int32.ofNat N)), some (.int (Int32.ofNat c)), l17, l18] [] h K := by
      intro N l17 l18 hN hK
      simp only [w182_522, w182_525, xk_n, xk_i, xk_r, xk_z, xk_l, xcs_0, xcs_i, xcs_r, xcs_z, xcs_l, Nat.reduceAdd, Nat.reduceLeDiff, Nat.reduceLT, true_and, and_true, Option.toList_some, Option.toList_none, List.nil_append, List.cons_append, List.getElem?_cons_zero, List.getElem?_cons_succ, List.set_cons_zero, List.set_cons_succ, List.length_cons, List.length_nil, y_bool0, y_bool1, not_true_eq_false, not_false_eq_true, false_implies, true_implies, true_or, or_true, false_or, or_false, if_true, if_false, ite_true, ite_false, z8]
      exact wp_lc H hs4 hR j (c + 1) N _ _ (by omega) hN hK
    rw [w182_455]
    simp only [w182_457, w182_459, w182_462, w182_464, w182_466, w182_467, w182_468, w182_469, w182_472, w182_475, w182_476, xk_n, xk_i, xk_r, xk_z, xk_l, xcs_0, xcs_i, xcs_r, xcs_z, xcs_l, Nat.reduceAdd, Nat.reduceLeDiff, Nat.reduceLT, true_and, and_true, Option.toList_some, Option.toList_none, List.nil_append, List.cons_append, List.getElem?_cons_zero, List.getElem?_cons_succ, List.set_cons_zero, List.set_cons_succ, List.length_cons, List.length_nil, y_bool0, y_bool1, not_true_eq_false, not_false_eq_true, false_implies, true_implies, true_or, or_true, false_or, or_false, if_true, if_false, ite_true, ite_false, q, e5, e6]
    unfold spC at hK
    refine ⟨fun z => ?_, fun z => ?_⟩
    · have z' : R.testBit c = true := by simpa using z
      rw [if_pos z'] at hK
      exact wp_ld H hs4 (by omega) 4 0 N _ (by omega) hN fun l17 l18 => next _ l17 l18 (spD_b H.okW (by omega) hN) hK
    · rw [if_neg (by rw [z]; simp)] at hK
      exact next N _ _ hN hK
theorem wp_lh {R N st : Nat} (H : LG h s hi) (hs4 : ∀ c, c < gn (sE s) → gs (sE s) c < 4) (hR : R < 1073741824) (hN : N < 1073741824) : ∀ (j c : Nat) (b : Bool) (l17 l18 : Option Value), c + j = gn (sE s) → (∀ l16 l17 l18, wp (d + 1) 182 577 [some (.ref 0), some (.ref 2), some (.ref 25), some (.ref 26), some (.ref 27), l5, some (.int (Int32.ofNat (gn (sE s)))), some (.ref 28), some (.ref 29), some (.int l9), some (.int l10), some (.int (Int32.ofNat v)), some (.int (Int32.ofNat R)), some (.int (Int32.ofNat st)), some (.int (if (b || hl (sE s) R N j c) = true then Int32.ofNat st else -9)), some (.int (Int32.ofNat N)), l16, l17, l18] [] h K) → wp (d + 1) 182 531 [some (.ref 0), some (.ref 2), some (.ref 25), some (.ref 26), some (.ref 27), l5, some (.int (Int32.ofNat (gn (sE s)))), some (.ref 28), some (.ref 29), some (.int l9), some (.int l10), some (.int (Int32.ofNat v)), some (.int (Int32.ofNat R)), some (.int (Int32.ofNat st)), some (.int (if b = true then Int32.ofNat st else -9)), some (.int (Int32.ofNat N)), some (.int (Int32.ofNat c)), l17, l18] [] h K
  | 0, c, b, l17, l18, hj, hK => by
    have n20 := H.n20
    have q : Int32.ofNat (gn (sE s)) ≤ Int32.ofNat c := (n_le (by omega) (by omega)).mpr (by omega)
    rw [w182_531]
    simp only [w182_533, w182_535, xk_n, xk_i, xk_r, xk_z, xk_l, xcs_0, xcs_i, xcs_r, xcs_z, xcs_l, Nat.reduceAdd, Nat.reduceLeDiff, Nat.reduceLT, true_and, and_true, Option.toList_some, Option.toList_none, List.nil_append, List.cons_append, List.getElem?_cons_zero, List.getElem?_cons_succ, List.set_cons_zero, List.set_cons_succ, List.length_cons, List.length_nil, y_bool0, y_bool1, not_true_eq_false, not_false_eq_true, false_implies, true_implies, true_or, or_true, false_or, or_false, if_true, if_false, ite_true, ite_false, q]
    have := fun l16 => hK l16 l17 l18
    rw [show (b || hl (sE s) R N 0 c) = b from Bool.or_false b] at this
    exact this _
  | j + 1, c, b, l17, l18, hj, hK => by
    have n20 := H.n20
    have hc : c < gn (sE s) := by omega
    have hc4 := hs4 c hc
    have q : (Int32.ofNat (gn (sE s)) ≤ Int32.ofNat c) = False := eq_false (by rw [n_le (by omega) (by omega)]; omega)
    have z8 : Int32.ofNat c + 1 = Int32.ofNat (c + 1) := n_addl c 1
    have e5 := i_bitB (c := c) hR (by omega)
    have e5' := i_bitB (c := c) hN (by omega)
    have e6 : (bi (R.testBit c) = 0) = (R.testBit c = false) := propext (bi_0 _)
    have e6' : (bi (N.testBit c) = 1) = (N.testBit c = true) := propext (bi_1 _)
    have e4 : (Int32.ofNat (gs (sE s) c) = 3) = (gs (sE s) c = 3) := propext (n_eql (m := 3) (by omega) (by omega))
    have sp : hl (sE s) R N (j + 1) c = ((N.testBit c && !R.testBit c && gs (sE s) c == 3) || hl (sE s) R N j (c + 1)) := rfl
    have next : ∀ b' : Bool, b' = (b || (N.testBit c && !R.testBit c && gs (sE s) c == 3)) → wp (d + 1) 182 571 [some (.ref 0), some (.ref 2), some (.ref 25), some (.ref 26), some (.ref 27), l5, some (.int (Int32.ofNat (gn (sE s)))), some (.ref 28), some (.ref 29), some (.int l9), some (.int l10), some (.int (Int32.ofNat v)), some (.int (Int32.ofNat R)), some (.int (Int32.ofNat st)), some (.int (if b' = true then Int32.ofNat st else -9)), some (.int (Int32.ofNat N)), some (.int (Int32.ofNat c)), l17, l18] [] h K := by
      intro b' hb'
      simp only [w182_571, w182_574, xk_n, xk_i, xk_r, xk_z, xk_l, xcs_0, xcs_i, xcs_r, xcs_z, xcs_l, Nat.reduceAdd, Nat.reduceLeDiff, Nat.reduceLT, true_and, and_true, Option.toList_some, Option.toList_none, List.nil_append, List.cons_append, List.getElem?_cons_zero, List.getElem?_cons_succ, List.set_cons_zero, List.set_cons_succ, List.length_cons, List.length_nil, y_bool0, y_bool1, not_true_eq_false, not_false_eq_true, false_implies, true_implies, true_or, or_true, false_or, or_false, if_true, if_false, ite_true, ite_false, z8]
      refine wp_lh H hs4 hR hN j (c + 1) b' _ _ (by omega) ?_
      rw [hb', Bool.or_assoc, ← sp]
      exact hK
    rw [w182_531]
    simp only [w182_533, w182_535, w182_538, w182_540, w182_542, w182_543, w182_544, w182_545, w182_546, w182_549, w182_551, w182_553, w182_554, w182_555, w182_556, w182_559, w182_559n, w182_560, w182_562, w182_563, w182_564, w182_567, w182_569, xk_n, xk_i, xk_r, xk_z, xk_l, xcs_0, xcs_i, xcs_r, xcs_z, xcs_l, Nat.reduceAdd, Nat.reduceLeDiff, Nat.reduceLT, true_and, and_true, Option.toList_some, Option.toList_none, List.nil_append, List.cons_append, List.getElem?_cons_zero, List.getElem?_cons_succ, List.set_cons_zero, List.set_cons_succ, List.length_cons, List.length_nil, y_bool0, y_bool1, not_true_eq_false, not_false_eq_true, false_implies, true_implies, true_or, or_true, false_or, or_false, if_true, if_false, ite_true, ite_false, q, e5, e5', e6, e6', H.sg hc, e4]
    refine ⟨fun z => ?_, fun z => ⟨fun z2 => ?_, fun z2 => ⟨fun z3 => ?_, fun z3 => ?_⟩⟩⟩
    · have z' : N.testBit c = false := by simpa using z
      exact next b (by rw [z']; simp)
    · have z' : R.testBit c = true := by simpa using z2
      exact next b (by rw [z']; simp)
    · exact next b (by rw [show (gs (sE s) c == 3) = false by simpa using z3]; simp)
    · have := next true (by rw [z, z2, z3]; simp)
      rw [if_pos rfl] at this
      exact this
theorem wp_lw {p : Nat} (H : LG h s hi) (hs4 : ∀ c, c < gn (sE s) → gs (sE s) c < 4) (hp : p < gn (sE s)) (hK : ∀ l12 l13 l15 l16 l17 l18, wp (d + 1) 182 584 [some (.ref 0), some (.ref 2), some (.ref 25), some (.ref 26), some (.ref 27), l5, some (.int (Int32.ofNat (gn (sE s)))), some (.ref 28), some (.ref 29), some (.int l9), some (.int l10), some (.int (Int32.ofNat v)), l12, l13, some (.int (oC (stO (sE s) p (gn (sE s) - 1) 1))), l15, l16, l17, l18] [] h K) : ∀ (j k : Nat) (l15 l16 l17 l18 : Option Value), k + j = 21 → (∀ y, y ≤ k → hit (sE s) p (rg (sE s) p y) (gn (sE s)) 0 = false) → wp (d + 1) 182 433 [some (.ref 0), some (.ref 2), some (.ref 25), some (.ref 26), some (.ref 27), l5, some (.int (Int32.ofNat (gn (sE s)))), some (.ref 28), some (.ref 29), some (.int l9), some (.int l10), some (.int (Int32.ofNat v)), some (.int (Int32.ofNat (rg (sE s) p k))), some (.int (Int32.ofNat k)), some (.int (-9)), l15, l16, l17, l18] [] h K
  | 0, k, l15, l16, l17, l18, hj, hh => by
    have n20 := H.n20
    have q1 : ((0 : Int32) ≤ -9) = False := eq_false (by decide)
    have q : 21 ≤ Int32.ofNat k := (n_lle (m := 21) (by omega) (by omega)).mpr (by omega)
    rw [w182_433]
    simp only [w182_435, w182_438, w182_440, w182_442, xk_n, xk_i, xk_r, xk_z, xk_l, xcs_0, xcs_i, xcs_r, xcs_z, xcs_l, Nat.reduceAdd, Nat.reduceLeDiff, Nat.reduceLT, true_and, and_true, Option.toList_some, Option.toList_none, List.nil_append, List.cons_append, List.getElem?_cons_zero, List.getElem?_cons_succ, List.set_cons_zero, List.set_cons_succ, List.length_cons, List.length_nil, y_bool0, y_bool1, not_true_eq_false, not_false_eq_true, false_implies, true_implies, true_or, or_true, false_or, or_false, if_true, if_false, ite_true, ite_false, q1, q]
    rw [stO_no _ _ fun y h1 h2 => hh y (by omega)] at hK
    exact hK _ _ _ _ _ _
  | j + 1, k, l15, l16, l17, l18, hj, hh => by
    have n20 := H.n20
    have q1 : ((0 : Int32) ≤ -9) = False := eq_false (by decide)
    have q : (21 ≤ Int32.ofNat k) = False := eq_false (by rw [n_lle (m := 21) (by omega) (by omega)]; omega)
    have z8 : Int32.ofNat k + 1 = Int32.ofNat (k + 1) := n_addl k 1
    have hb := rg_b H.okW hp k
    have hb1 := rg_b H.okW hp (k + 1)
    have hr : spO (sE s) (rg (sE s) p k) (gn (sE s)) 0 (rg (sE s) p k) = rg (sE s) p (k + 1) := rfl
    have hhl := hl_hit (hh k (Nat.le_refl _))
    rw [w182_433]
    simp only [w182_435, w182_438, w182_440, w182_442, w182_445, w182_448, w182_450, w182_452, w182_453, xk_n, xk_i, xk_r, xk_z, xk_l, xcs_0, xcs_i, xcs_r, xcs_z, xcs_l, Nat.reduceAdd, Nat.reduceLeDiff, Nat.reduceLT, true_and, and_true, Option.toList_some, Option.toList_none, List.nil_append, List.cons_append, List.getElem?_cons_zero, List.getElem?_cons_succ, List.set_cons_zero, List.set_cons_succ, List.length_cons, List.length_nil, y_bool0, y_bool1, not_true_eq_false, not_false_eq_true, false_implies, true_implies, true_or, or_true, false_or, or_false, if_true, if_false, ite_true, ite_false, q1, q, z8]
    refine wp_lc H hs4 hb (gn (sE s)) 0 _ _ _ (by omega) hb fun l16 l17 l18 => ?_
    rw [hr]
    simp only [w182_528, w182_529, xk_n, xk_i, xk_r, xk_z, xk_l, xcs_0, xcs_i, xcs_r, xcs_z, xcs_l, Nat.reduceAdd, Nat.reduceLeDiff, Nat.reduceLT, true_and, and_true, Option.toList_some, Option.toList_none, List.nil_append, List.cons_append, List.getElem?_cons_zero, List.getElem?_cons_succ, List.set_cons_zero, List.set_cons_succ, List.length_cons, List.length_nil, y_bool0, y_bool1, not_true_eq_false, not_false_eq_true, false_implies, true_implies, true_or, or_true, false_or, or_false, if_true, if_false, ite_true, ite_false]
    have lh := wp_lh (d := d) (K := K) (v := v) (l5 := l5) (l9 := l9) (l10 := l10) (st := k + 1) H hs4 hb hb1 (gn (sE s)) 0 false l17 l18 (by omega)
    rw [show (if false = true then Int32.ofNat (k + 1) else -9) = (-9 : Int32) from if_neg (by simp), Bool.false_or] at lh
    refine lh fun l16 l17 l18 => ?_
    simp only [w182_577, w182_579, w182_581, xk_n, xk_i, xk_r, xk_z, xk_l, xcs_0, xcs_i, xcs_r, xcs_z, xcs_l, Nat.reduceAdd, Nat.reduceLeDiff, Nat.reduceLT, true_and, and_true, Option.toList_some, Option.toList_none, List.nil_append, List.cons_append, List.getElem?_cons_zero, List.getElem?_cons_succ, List.set_cons_zero, List.set_cons_succ, List.length_cons, List.length_nil, y_bool0, y_bool1, not_true_eq_false, not_false_eq_true, false_implies, true_implies, true_or, or_true, false_or, or_false, if_true, if_false, ite_true, ite_false]
    cases q2 : hl (sE s) (rg (sE s) p k) (rg (sE s) p (k + 1)) (gn (sE s)) 0 with
    | false =>
      rw [if_neg (by simp)]
      refine wp_lw H hs4 hp hK j (k + 1) _ _ _ _ (by omega) fun y hy => ?_
      by_cases z : y = k + 1
      · rw [z, ← hhl, q2]
      · exact hh y (by omega)
    | true =>
      rw [if_pos rfl]
      obtain ⟨c, -, -, c3, c4, -⟩ := hl_t.mp q2
      have hk := rg_new H.okW hp c3 c4
      have hs : stO (sE s) p (gn (sE s) - 1) 1 = some (k + 1) := stO_some _ _ (by omega) (by omega) (fun y h1 h2 => hh y (by omega)) (by rw [← hhl, q2])
      rw [hs] at hK
      have q3 : (0 ≤ Int32.ofNat (k + 1)) = True := eq_true (Int32.not_lt.mp (n_lt0 (by omega)))
      rw [w182_433]
      simp only [w182_435, w182_438, w182_440, w182_442, xk_n, xk_i, xk_r, xk_z, xk_l, xcs_0, xcs_i, xcs_r, xcs_z, xcs_l, Nat.reduceAdd, Nat.reduceLeDiff, Nat.reduceLT, true_and, and_true, Option.toList_some, Option.toList_none, List.nil_append, List.cons_append, List.getElem?_cons_zero, List.getElem?_cons_succ, List.set_cons_zero, List.set_cons_succ, List.length_cons, List.length_nil, y_bool0, y_bool1, not_true_eq_false, not_false_eq_true, false_implies, true_implies, true_or, or_true, false_or, or_false, if_true, if_false, ite_true, ite_false, q3]
      exact hK _ _ _ _ _ _
end
