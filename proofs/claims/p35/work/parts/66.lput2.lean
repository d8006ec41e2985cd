/-! ===== the law's put ===== -/
theorem ar_a {w c : Nat} (w2 : 2 ≤ w) (w5 : w ≤ 5) (hc : c < 20) : 4 + c + c / w < 50 ∧ 3 + (c + 1) + (c + 1 + w - 1) / w = 4 + c + c / w + 1 ∧ (c % w = 0 → 3 + c + (c + w - 1) / w = 3 + c + c / w) ∧ (c % w ≠ 0 → 3 + c + (c + w - 1) / w = 4 + c + c / w) := by
  rcases (show w = 2 ∨ w = 3 ∨ w = 4 ∨ w = 5 by omega) with rfl | rfl | rfl | rfl <;> refine ⟨?_, ?_, fun z => ?_, fun z => ?_⟩ <;> omega
theorem ar_b {w c x : Nat} (w2 : 2 ≤ w) (w5 : w ≤ 5) (hx : x < c) : 4 + x + x / w ≠ 4 + c + c / w ∧ (c % w = 0 → 4 + x + x / w ≠ 3 + c + c / w) := by
  rcases (show w = 2 ∨ w = 3 ∨ w = 4 ∨ w = 5 by omega) with rfl | rfl | rfl | rfl <;> refine ⟨?_, fun z => ?_⟩ <;> omega
theorem ar_c {w c row : Nat} (w2 : 2 ≤ w) (w5 : w ≤ 5) (hx : row * w ≤ c) : 3 + row * (w + 1) ≠ 4 + c + c / w ∧ (c % w = 0 → row * w < c → 3 + row * (w + 1) ≠ 3 + c + c / w) ∧ (c % w = 0 → row * w = c → 3 + row * (w + 1) = 3 + c + c / w) ∧ (c % w ≠ 0 → row * w < c) := by
  rcases (show w = 2 ∨ w = 3 ∨ w = 4 ∨ w = 5 by omega) with rfl | rfl | rfl | rfl <;> refine ⟨?_, fun z z2 => ?_, fun z z2 => ?_, fun z => ?_⟩ <;> omega
theorem ar_d {w hi : Nat} (w2 : 2 ≤ w) (w5 : w ≤ 5) : 3 + hi * w + (hi * w + w - 1) / w = 3 + hi * w + hi := by
  rcases (show w = 2 ∨ w = 3 ∨ w = 4 ∨ w = 5 by omega) with rfl | rfl | rfl | rfl <;> omega
section
variable {d : Nat} {K : Option Value → xH → Prop} {L : Nat} {xs fg : Nat → Int32} {x5 : Int32} {hi w : Nat}
theorem wp_pl (h1 : 1 ≤ hi) (h4 : hi ≤ 4) (w2 : 2 ≤ w) (w5 : w ≤ 5) (g0 : fg 0 = Int32.ofNat hi) (g1 : fg 1 = Int32.ofNat w) (hK : ∀ h s f fs, RX h s → LB h L xs fg fs → sSh s 0 = (some 0, 50, f) → TXT f hi w → CEL f fs w (hi * w) → K (some (.int (Int32.ofNat (3 + hi * w + hi)))) h) : ∀ (j c : Nat) (h : xH) (s : St) (f fs : Nat → Int32) (l8 : Option Value), c + j = hi * w → RX h s → LB h L xs fg fs → sSh s 0 = (some 0, 50, f) → TXT f hi w → CEL f fs w c → wp (d + 3) 177 100 [some (.ref 2), some (.ref 0), some (.int 0), some (.ref 25), some (.ref 26), some (.int x5), some (.int (Int32.ofNat (3 + c + (c + w - 1) / w))), some (.int (Int32.ofNat c)), l8] [] h K
  | 0, c, h, s, f, fs, l8, hj, R, B, hs, T, C => by
    have r0 := fun J => yi B.2.1 (i := 0) (k := 0) rfl (by omega) (by omega) g0 J
    have r1 := fun J => yi B.2.1 (i := 1) (k := 1) rfl (by omega) (by omega) g1 J
    have h20 : hi * w ≤ 20 := Nat.mul_le_mul h4 w5
    have q : Int32.ofNat (hi * w) ≤ Int32.ofNat c := (n_le (by omega) (by omega)).mpr (by omega)
    rw [w177_100]
    simp only [w177_102, w177_102n, w177_103, w177_104, w177_105, w177_105n, w177_106, w177_107, w177_108, w177_109, w177_281, w177_283, xk_n, xk_i, xk_r, xk_z, xk_l, xcs_0, xcs_i, xcs_r, xcs_z, xcs_l, Nat.reduceAdd, Nat.reduceLeDiff, Nat.reduceLT, true_and, and_true, Option.toList_some, Option.toList_none, List.nil_append, List.cons_append, List.getElem?_cons_zero, List.getElem?_cons_succ, List.set_cons_zero, List.set_cons_succ, List.length_cons, List.length_nil, y_bool0, y_bool1, not_true_eq_false, not_false_eq_true, false_implies, true_implies, true_or, or_true, false_or, or_false, if_true, if_false, ite_true, ite_false, r0, r1, n_mul, q]
    have : c = hi * w := by omega
    subst this
    rw [ar_d w2 w5]
    exact hK h s f fs R B hs T C
  | j + 1, c, h, s, f, fs, l8, hj, R, B, hs, T, C => by
    have r0 := fun J => yi B.2.1 (i := 0) (k := 0) rfl (by omega) (by omega) g0 J
    have r1 := fun J => yi B.2.1 (i := 1) (k := 1) rfl (by omega) (by omega) g1 J
    have h20 : hi * w ≤ 20 := Nat.mul_le_mul h4 w5
    have q : (Int32.ofNat (hi * w) ≤ Int32.ofNat c) = False := eq_false (by rw [n_le (by omega) (by omega)]; omega)
    have z8 : Int32.ofNat c + 1 = Int32.ofNat (c + 1) := n_addl c 1
    obtain ⟨aa1, aa2, aa3, aa4⟩ := ar_a (c := c) w2 w5 (by omega)
    have nn := Nat.zero_le (c / w)
    -- the cell's sign goes into the text
    have at215 : ∀ (h : xH) (s : St) (f fs : Nat → Int32) (sg : Nat) (l8 : Option Value), RX h s → LB h L xs fg fs → sSh s 0 = (some 0, 50, f) → TXT f hi w → (∀ x, x < c → ∃ y, y < 4 ∧ fs x = Int32.ofNat y ∧ sgC (f (4 + x + x / w)) = some y) → (∀ row, row * w ≤ c → f (3 + row * (w + 1)) = 59) → sg < 4 → fs c = Int32.ofNat sg → wp (d + 3) 177 215 [some (.ref 2), some (.ref 0), some (.int 0), some (.ref 25), some (.ref 26), some (.int x5), some (.int (Int32.ofNat (4 + c + c / w))), some (.int (Int32.ofNat c)), l8] [] h K := by
      intro h s f fs sg l8 R B hs T C1 C2 hsg hfs
      have r2 := fun J => yi B.2.2.1 (i := Int32.ofNat c) (k := c) rfl (by omega) (by omega) hfs J
      have z9 : Int32.ofNat (4 + c + c / w) + 1 = Int32.ofNat (3 + (c + 1) + (c + 1 + w - 1) / w) := by rw [aa2]; exact n_addl _ 1
      have at265 : ∀ v : Int32, v.toInt8.toInt32 = v → sgC v = some sg → wp (d + 3) 177 265 [some (.ref 2), some (.ref 0), some (.int 0), some (.ref 25), some (.ref 26), some (.int x5), some (.int (Int32.ofNat (3 + (c + 1) + (c + 1 + w - 1) / w))), some (.int (Int32.ofNat c)), l8] [.int v, .int (Int32.ofNat (4 + c + c / w)), .int 0, .ref 2] h K := by
        intro v hv hsv
        simp only [w177_265, w177_268, w177_269, w177_272, w177_274, xk_n, xk_i, xk_r, xk_z, xk_l, xcs_0, xcs_i, xcs_r, xcs_z, xcs_l, Nat.reduceAdd, Nat.reduceLeDiff, Nat.reduceLT, true_and, and_true, Option.toList_some, Option.toList_none, List.nil_append, List.cons_append, List.getElem?_cons_zero, List.getElem?_cons_succ, List.set_cons_zero, List.set_cons_succ, List.length_cons, List.length_nil, y_bool0, y_bool1, not_true_eq_false, not_false_eq_true, false_implies, true_implies, true_or, or_true, false_or, or_false, if_true, if_false, ite_true, ite_false, R.cls]
        refine cop_put0 R hs rfl aa1 hv fun h' s' R' hs' F => ?_
        simp only [w177_268, w177_269, w177_272, w177_274, w177_275, w177_278, xk_n, xk_i, xk_r, xk_z, xk_l, xcs_0, xcs_i, xcs_r, xcs_z, xcs_l, Nat.reduceAdd, Nat.reduceLeDiff, Nat.reduceLT, true_and, and_true, Option.toList_some, Option.toList_none, List.nil_append, List.cons_append, List.getElem?_cons_zero, List.getElem?_cons_succ, List.set_cons_zero, List.set_cons_succ, List.length_cons, List.length_nil, y_bool0, y_bool1, not_true_eq_false, not_false_eq_true, false_implies, true_implies, true_or, or_true, false_or, or_false, if_true, if_false, ite_true, ite_false, z8]
        refine wp_pl h1 h4 w2 w5 g0 g1 hK j (c + 1) h' s' _ fs _ (by omega) R' (B.fr F) hs' ?_ ⟨fun x hx => ?_, fun row hrow => ?_⟩
        · obtain ⟨t0, t1, t2⟩ := T
          exact ⟨by rw [upd_ne _ _ (by omega)]; exact t0, by rw [upd_ne _ _ (by omega)]; exact t1, by rw [upd_ne _ _ (by omega)]; exact t2⟩
        · by_cases z : x = c
          · subst z
            exact ⟨sg, hsg, hfs, by rw [upd_at]; exact hsv⟩
          · obtain ⟨y, y1, y2, y3⟩ := C1 x (by omega)
            exact ⟨y, y1, y2, by rw [upd_ne _ _ (ar_b w2 w5 (show x < c by omega)).1]; exact y3⟩
        · rw [upd_ne _ _ (ar_c w2 w5 (show row * w ≤ c by omega)).1]
          exact C2 row (by omega)
      have s0 : (Int32.ofNat sg = 0) = (sg = 0) := propext (n_eql (m := 0) (by omega) (by omega))
      have s1 : (Int32.ofNat sg = 1) = (sg = 1) := propext (n_eql (m := 1) (by omega) (by omega))
      have s2 : (Int32.ofNat sg = 2) = (sg = 2) := propext (n_eql (m := 2) (by omega) (by omega))
      simp only [w177_215, w177_215n, w177_216, w177_217, w177_219, w177_222, w177_222n, w177_224, w177_226, w177_227, w177_230, w177_232, w177_235, w177_235n, w177_237, w177_239, w177_240, w177_241, w177_244, w177_246, w177_249, w177_249n, w177_251, w177_253, w177_254, w177_255, w177_258, w177_260, w177_263, xk_n, xk_i, xk_r, xk_z, xk_l, xcs_0, xcs_i, xcs_r, xcs_z, xcs_l, Nat.reduceAdd, Nat.reduceLeDiff, Nat.reduceLT, true_and, and_true, Option.toList_some, Option.toList_none, List.nil_append, List.cons_append, List.getElem?_cons_zero, List.getElem?_cons_succ, List.set_cons_zero, List.set_cons_succ, List.length_cons, List.length_nil, y_bool0, y_bool1, not_true_eq_false, not_false_eq_true, false_implies, true_implies, true_or, or_true, false_or, or_false, if_true, if_false, ite_true, ite_false, r2, s0, s1, s2, z9]
      refine ⟨fun z => ⟨fun z2 => ⟨fun z3 => ?_, fun z3 => ?_⟩, fun z2 => ?_⟩, fun z => ?_⟩
      · exact at265 120 (by decide) (by rw [show sg = 3 by omega]; decide)
      · exact at265 112 (by decide) (by rw [z3]; decide)
      · exact at265 35 (by decide) (by rw [z2]; decide)
      · exact at265 46 (by decide) (by rw [z]; decide)
    have at189 : ∀ (sg : Nat) (l8 : Option Value), sg < 4 → wp (d + 3) 177 189 [some (.ref 2), some (.ref 0), some (.int 0), some (.ref 25), some (.ref 26), some (.int x5), some (.int (Int32.ofNat (3 + c + (c + w - 1) / w))), some (.int (Int32.ofNat c)), l8] [.int (Int32.ofNat sg), .int (Int32.ofNat c), .ref 26] h K := by
      intro sg l8 hsg
      rw [w177_189]
      refine B.ss R rfl (by omega) fun h' B' R' F' => ?_
      have r1' := fun J => yi B'.2.1 (i := 1) (k := 1) rfl (by omega) (by omega) g1 J
      have gm1 : (Int32.ofNat w = 0) = False := eq_false (by rw [n_eql (m := 0) (by omega) (by omega)]; omega)
      have gm2 := n_mod (a := c) (b := w) (by omega) (by omega)
      have gm3 : (Int32.ofNat (c % w) = 0) = (c % w = 0) := propext (n_eql (m := 0) (by have := Nat.mod_lt c (show w > 0 by omega); omega) (by omega))
      have C1' : ∀ x, x < c → ∃ y, y < 4 ∧ upd fs c (Int32.ofNat sg) x = Int32.ofNat y ∧ sgC (f (4 + x + x / w)) = some y := fun x hx => by
        obtain ⟨y, y1, y2, y3⟩ := C.1 x hx
        exact ⟨y, y1, by rw [upd_ne _ _ (by omega)]; exact y2, y3⟩
      by_cases z : c % w = 0
      · replace gm3 : (Int32.ofNat (c % w) = 0) = True := gm3.trans (eq_true z)
        have e5 : Int32.ofNat (3 + c + c / w) + 1 = Int32.ofNat (4 + c + c / w) := by rw [show 4 + c + c / w = 3 + c + c / w + 1 by omega]; exact n_addl _ 1
        simp only [w177_190, w177_192, w177_192n, w177_193, w177_194, w177_195, w177_196, w177_199, w177_199n, w177_200, w177_201, w177_203, w177_206, xk_n, xk_i, xk_r, xk_z, xk_l, xcs_0, xcs_i, xcs_r, xcs_z, xcs_l, Nat.reduceAdd, Nat.reduceLeDiff, Nat.reduceLT, true_and, and_true, Option.toList_some, Option.toList_none, List.nil_append, List.cons_append, List.getElem?_cons_zero, List.getElem?_cons_succ, List.set_cons_zero, List.set_cons_succ, List.length_cons, List.length_nil, y_bool0, y_bool1, not_true_eq_false, not_false_eq_true, false_implies, true_implies, true_or, or_true, false_or, or_false, if_true, if_false, ite_true, ite_false, r1', gm1, gm2, gm3, aa3 z, e5, R'.cls, w177_208]
        refine cop_put0 (v := 59) R' hs rfl (by omega) (by decide) fun h2 s2 R2 hs2 F2 => ?_
        simp only [w177_211, w177_212, xk_n, xk_i, xk_r, xk_z, xk_l, xcs_0, xcs_i, xcs_r, xcs_z, xcs_l, Nat.reduceAdd, Nat.reduceLeDiff, Nat.reduceLT, true_and, and_true, Option.toList_some, Option.toList_none, List.nil_append, List.cons_append, List.getElem?_cons_zero, List.getElem?_cons_succ, List.set_cons_zero, List.set_cons_succ, List.length_cons, List.length_nil, y_bool0, y_bool1, not_true_eq_false, not_false_eq_true, false_implies, true_implies, true_or, or_true, false_or, or_false, if_true, if_false, ite_true, ite_false]
        refine at215 h2 s2 _ _ sg _ R2 (B'.fr F2) hs2 ?_ (fun x hx => ?_) (fun row hrow => ?_) hsg (upd_at _ _ _)
        · obtain ⟨t0, t1, t2⟩ := T
          exact ⟨by rw [upd_ne _ _ (by omega)]; exact t0, by rw [upd_ne _ _ (by omega)]; exact t1, by rw [upd_ne _ _ (by omega)]; exact t2⟩
        · obtain ⟨y, y1, y2, y3⟩ := C1' x hx
          exact ⟨y, y1, y2, by rw [upd_ne _ _ ((ar_b w2 w5 hx).2 z)]; exact y3⟩
        · obtain ⟨b1, b2, b3, b4⟩ := ar_c (row := row) w2 w5 hrow
          by_cases z2 : row * w = c
          · rw [b3 z z2, upd_at]
          · rw [upd_ne _ _ (b2 z (by omega))]
            exact C.2 row (by omega)
      · replace gm3 : (Int32.ofNat (c % w) = 0) = False := gm3.trans (eq_false z)
        simp only [w177_190, w177_192, w177_192n, w177_193, w177_194, w177_195, w177_196, xk_n, xk_i, xk_r, xk_z, xk_l, xcs_0, xcs_i, xcs_r, xcs_z, xcs_l, Nat.reduceAdd, Nat.reduceLeDiff, Nat.reduceLT, true_and, and_true, Option.toList_some, Option.toList_none, List.nil_append, List.cons_append, List.getElem?_cons_zero, List.getElem?_cons_succ, List.set_cons_zero, List.set_cons_succ, List.length_cons, List.length_nil, y_bool0, y_bool1, not_true_eq_false, not_false_eq_true, false_implies, true_implies, true_or, or_true, false_or, or_false, if_true, if_false, ite_true, ite_false, r1', gm1, gm2, gm3, aa4 z]
        exact at215 h' s f _ sg _ R' B' hs T C1' (fun row hrow => C.2 row ((ar_c w2 w5 hrow).2.2.2 z)) hsg (upd_at _ _ _)
    have at152 : ∀ (y : Nat) (l8 : Option Value), y < 12 → wp (d + 3) 177 152 [some (.ref 2), some (.ref 0), some (.int 0), some (.ref 25), some (.ref 26), some (.int x5), some (.int (Int32.ofNat (3 + c + (c + w - 1) / w))), some (.int (Int32.ofNat c)), l8] [.int (Int32.ofNat y)] h K := by
      intro y l8 hy
      have y2 : (2 ≤ Int32.ofNat y) = (2 ≤ y) := propext (n_lle (m := 2) (by omega) (by omega))
      have y3 : (Int32.ofNat y = 2) = (y = 2) := propext (n_eql (m := 2) (by omega) (by omega))
      have y4 : (Int32.ofNat y = 3) = (y = 3) := propext (n_eql (m := 3) (by omega) (by omega))
      simp only [w177_152, w177_154, w177_154n, w177_156, w177_158, w177_160, w177_161, w177_164, w177_165, w177_168, w177_170, w177_171, w177_174, w177_175, w177_178, w177_180, w177_181, w177_184, w177_185, w177_188, xk_n, xk_i, xk_r, xk_z, xk_l, xcs_0, xcs_i, xcs_r, xcs_z, xcs_l, Nat.reduceAdd, Nat.reduceLeDiff, Nat.reduceLT, true_and, and_true, Option.toList_some, Option.toList_none, List.nil_append, List.cons_append, List.getElem?_cons_zero, List.getElem?_cons_succ, List.set_cons_zero, List.set_cons_succ, List.length_cons, List.length_nil, y_bool0, y_bool1, not_true_eq_false, not_false_eq_true, false_implies, true_implies, true_or, or_true, false_or, or_false, if_true, if_false, ite_true, ite_false, y2, y3, y4]
      exact ⟨fun _ => ⟨fun _ => ⟨fun _ => at189 0 _ (by omega), fun _ => at189 3 _ (by omega)⟩, fun _ => at189 2 _ (by omega)⟩, fun _ => at189 1 _ (by omega)⟩
    have t3 : ((3 : Int32) = 0) = False := eq_false (by decide)
    have m3 : Int32.ofNat c - Int32.ofNat c / 3 * 3 = Int32.ofNat (c % 3) := n_mod (b := 3) (by omega) (by omega)
    rw [w177_100]
    simp only [w177_102, w177_102n, w177_103, w177_104, w177_105, w177_105n, w177_106, w177_107, w177_108, w177_109, w177_112, w177_112n, w177_113, w177_114, w177_115, w177_116, w177_118, w177_119, w177_120, w177_121, xk_n, xk_i, xk_r, xk_z, xk_l, xcs_0, xcs_i, xcs_r, xcs_z, xcs_l, Nat.reduceAdd, Nat.reduceLeDiff, Nat.reduceLT, true_and, and_true, Option.toList_some, Option.toList_none, List.nil_append, List.cons_append, List.getElem?_cons_zero, List.getElem?_cons_succ, List.set_cons_zero, List.set_cons_succ, List.length_cons, List.length_nil, y_bool0, y_bool1, not_true_eq_false, not_false_eq_true, false_implies, true_implies, true_or, or_true, false_or, or_false, if_true, if_false, ite_true, ite_false, r0, r1, n_mul, q, t3, m3]
    refine wp_cell (k := 1 + c % 3) B.1 B.2.2.2.2.2.1 (by rw [show (0 : Int32) + 1 = 1 from by decide]; exact n_ladd _ 1) (by omega) fun x => ?_
    simp only [w177_124, w177_126, w177_127, w177_128, w177_129, w177_130, w177_131, w177_133, w177_134, w177_135, w177_136, xk_n, xk_i, xk_r, xk_z, xk_l, xcs_0, xcs_i, xcs_r, xcs_z, xcs_l, Nat.reduceAdd, Nat.reduceLeDiff, Nat.reduceLT, true_and, and_true, Option.toList_some, Option.toList_none, List.nil_append, List.cons_append, List.getElem?_cons_zero, List.getElem?_cons_succ, List.set_cons_zero, List.set_cons_succ, List.length_cons, List.length_nil, y_bool0, y_bool1, not_true_eq_false, not_false_eq_true, false_implies, true_implies, true_or, or_true, false_or, or_false, if_true, if_false, ite_true, ite_false, t3]
    refine wp_some (n := 2) rfl (by omega) (by omega) fun a ha => ?_
    have a0 : (Int32.ofNat a = 0) = (a = 0) := propext (n_eql (m := 0) (by omega) (by omega))
    simp only [w177_139, w177_142, w177_144, w177_147, w177_149, xk_n, xk_i, xk_r, xk_z, xk_l, xcs_0, xcs_i, xcs_r, xcs_z, xcs_l, Nat.reduceAdd, Nat.reduceLeDiff, Nat.reduceLT, true_and, and_true, Option.toList_some, Option.toList_none, List.nil_append, List.cons_append, List.getElem?_cons_zero, List.getElem?_cons_succ, List.set_cons_zero, List.set_cons_succ, List.length_cons, List.length_nil, y_bool0, y_bool1, not_true_eq_false, not_false_eq_true, false_implies, true_implies, true_or, or_true, false_or, or_false, if_true, if_false, ite_true, ite_false, a0]
    refine ⟨fun _ => ?_, fun _ => ?_⟩
    · refine wp_some (n := 12) rfl (by omega) (by omega) fun y hy => ?_
      simp only [xk_n, xk_i, xk_r, xk_z, xk_l, xcs_0, xcs_i, xcs_r, xcs_z, xcs_l, Nat.reduceAdd, Nat.reduceLeDiff, Nat.reduceLT, true_and, and_true, Option.toList_some, Option.toList_none, List.nil_append, List.cons_append, List.getElem?_cons_zero, List.getElem?_cons_succ, List.set_cons_zero, List.set_cons_succ, List.length_cons, List.length_nil, y_bool0, y_bool1, not_true_eq_false, not_false_eq_true, false_implies, true_implies, true_or, or_true, false_or, or_false, if_true, if_false, ite_true, ite_false]
      exact at152 y _ hy
    · refine wp_some (n := 9) rfl (by omega) (by omega) fun y hy => ?_
      simp only [xk_n, xk_i, xk_r, xk_z, xk_l, xcs_0, xcs_i, xcs_r, xcs_z, xcs_l, Nat.reduceAdd, Nat.reduceLeDiff, Nat.reduceLT, true_and, and_true, Option.toList_some, Option.toList_none, List.nil_append, List.cons_append, List.getElem?_cons_zero, List.getElem?_cons_succ, List.set_cons_zero, List.set_cons_succ, List.length_cons, List.length_nil, y_bool0, y_bool1, not_true_eq_false, not_false_eq_true, false_implies, true_implies, true_or, or_true, false_or, or_false, if_true, if_false, ite_true, ite_false]
      exact at152 y _ (by omega)
end
section
variable {d : Nat} {K : Option Value → xH → Prop} {L : Nat} {xs fg fs : Nat → Int32} {h : xH} {s : St}
theorem wp_lput (R : RX h s) (B : LB h L xs fg fs) (hK : ∀ h s f fg fs hi w, 1 ≤ hi → hi ≤ 4 → 2 ≤ w → w ≤ 5 → fg 0 = Int32.ofNat hi → fg 1 = Int32.ofNat w → fg 2 = 0 → RX h s → LB h L xs fg fs → sSh s 0 = (some 0, 50, f) → TXT f hi w → CEL f fs w (hi * w) → K (some (.int (Int32.ofNat (3 + hi * w + hi)))) h) : wp (d + 3) 177 0 [some (.ref 2), some (.ref 0), some (.int 0), some (.ref 25), some (.ref 26), none, none, none, none] [] h K := by
  simp only [w177_0, w177_0n, w177_1, w177_2, xk_n, xk_i, xk_r, xk_z, xk_l, xcs_0, xcs_i, xcs_r, xcs_z, xcs_l, Nat.reduceAdd, Nat.reduceLeDiff, Nat.reduceLT, true_and, and_true, Option.toList_some, Option.toList_none, List.nil_append, List.cons_append, List.getElem?_cons_zero, List.getElem?_cons_succ, List.set_cons_zero, List.set_cons_succ, List.length_cons, List.length_nil, y_bool0, y_bool1, not_true_eq_false, not_false_eq_true, false_implies, true_implies, true_or, or_true, false_or, or_false, if_true, if_false, ite_true, ite_false]
  refine wp_cell (k := 0) B.1 B.2.2.2.2.2.1 rfl (by omega) fun x => ?_
  simp only [w177_5, w177_7, w177_7n, w177_8, w177_9, w177_10, w177_12, w177_13, xk_n, xk_i, xk_r, xk_z, xk_l, xcs_0, xcs_i, xcs_r, xcs_z, xcs_l, Nat.reduceAdd, Nat.reduceLeDiff, Nat.reduceLT, true_and, and_true, Option.toList_some, Option.toList_none, List.nil_append, List.cons_append, List.getElem?_cons_zero, List.getElem?_cons_succ, List.set_cons_zero, List.set_cons_succ, List.length_cons, List.length_nil, y_bool0, y_bool1, not_true_eq_false, not_false_eq_true, false_implies, true_implies, true_or, or_true, false_or, or_false, if_true, if_false, ite_true, ite_false]
  refine wp_some (n := 4) rfl (by omega) (by omega) fun a ha => ?_
  have e1 : (1 : Int32) + Int32.ofNat a = Int32.ofNat (1 + a) := n_ladd a 1
  simp only [w177_16, w177_17, xk_n, xk_i, xk_r, xk_z, xk_l, xcs_0, xcs_i, xcs_r, xcs_z, xcs_l, Nat.reduceAdd, Nat.reduceLeDiff, Nat.reduceLT, true_and, and_true, Option.toList_some, Option.toList_none, List.nil_append, List.cons_append, List.getElem?_cons_zero, List.getElem?_cons_succ, List.set_cons_zero, List.set_cons_succ, List.length_cons, List.length_nil, y_bool0, y_bool1, not_true_eq_false, not_false_eq_true, false_implies, true_implies, true_or, or_true, false_or, or_false, if_true, if_false, ite_true, ite_false, e1]
  refine B.sg R (k := 0) rfl (by omega) fun h1 B1 R1 _ => ?_
  simp only [w177_18, w177_18n, w177_19, w177_20, w177_21, w177_23, w177_24, w177_25, w177_26, xk_n, xk_i, xk_r, xk_z, xk_l, xcs_0, xcs_i, xcs_r, xcs_z, xcs_l, Nat.reduceAdd, Nat.reduceLeDiff, Nat.reduceLT, true_and, and_true, Option.toList_some, Option.toList_none, List.nil_append, List.cons_append, List.getElem?_cons_zero, List.getElem?_cons_succ, List.set_cons_zero, List.set_cons_succ, List.length_cons, List.length_nil, y_bool0, y_bool1, not_true_eq_false, not_false_eq_true, false_implies, true_implies, true_or, or_true, false_or, or_false, if_true, if_false, ite_true, ite_false]
  refine wp_some (n := 4) rfl (by omega) (by omega) fun b hb => ?_
  have e2 : (2 : Int32) + Int32.ofNat b = Int32.ofNat (2 + b) := n_ladd b 2
  simp only [w177_29, w177_30, xk_n, xk_i, xk_r, xk_z, xk_l, xcs_0, xcs_i, xcs_r, xcs_z, xcs_l, Nat.reduceAdd, Nat.reduceLeDiff, Nat.reduceLT, true_and, and_true, Option.toList_some, Option.toList_none, List.nil_append, List.cons_append, List.getElem?_cons_zero, List.getElem?_cons_succ, List.set_cons_zero, List.set_cons_succ, List.length_cons, List.length_nil, y_bool0, y_bool1, not_true_eq_false, not_false_eq_true, false_implies, true_implies, true_or, or_true, false_or, or_false, if_true, if_false, ite_true, ite_false, e2]
  refine B1.sg R1 (k := 1) rfl (by omega) fun h2 B2 R2 _ => ?_
  simp only [w177_31, w177_31n, w177_32, w177_33, w177_34, xk_n, xk_i, xk_r, xk_z, xk_l, xcs_0, xcs_i, xcs_r, xcs_z, xcs_l, Nat.reduceAdd, Nat.reduceLeDiff, Nat.reduceLT, true_and, and_true, Option.toList_some, Option.toList_none, List.nil_append, List.cons_append, List.getElem?_cons_zero, List.getElem?_cons_succ, List.set_cons_zero, List.set_cons_succ, List.length_cons, List.length_nil, y_bool0, y_bool1, not_true_eq_false, not_false_eq_true, false_implies, true_implies, true_or, or_true, false_or, or_false, if_true, if_false, ite_true, ite_false]
  refine B2.sg R2 (k := 2) rfl (by omega) fun h3 B3 R3 _ => ?_
  have q11 : ((1 : Int32) = 1) = True := eq_true rfl
  simp only [w177_35, w177_35n, w177_36, w177_37, w177_38, w177_40, xk_n, xk_i, xk_r, xk_z, xk_l, xcs_0, xcs_i, xcs_r, xcs_z, xcs_l, Nat.reduceAdd, Nat.reduceLeDiff, Nat.reduceLT, true_and, and_true, Option.toList_some, Option.toList_none, List.nil_append, List.cons_append, List.getElem?_cons_zero, List.getElem?_cons_succ, List.set_cons_zero, List.set_cons_succ, List.length_cons, List.length_nil, y_bool0, y_bool1, not_true_eq_false, not_false_eq_true, false_implies, true_implies, true_or, or_true, false_or, or_false, if_true, if_false, ite_true, ite_false, R3.cls]
  refine cop_sheet0 R3 fun h4 s4 R4 hs4 F4 => ?_
  have B4 := B3.fr F4
  simp only [w177_43, w177_44, w177_47, w177_47n, w177_48, w177_49, w177_50, w177_52, xk_n, xk_i, xk_r, xk_z, xk_l, xcs_0, xcs_i, xcs_r, xcs_z, xcs_l, Nat.reduceAdd, Nat.reduceLeDiff, Nat.reduceLT, true_and, and_true, Option.toList_some, Option.toList_none, List.nil_append, List.cons_append, List.getElem?_cons_zero, List.getElem?_cons_succ, List.set_cons_zero, List.set_cons_succ, List.length_cons, List.length_nil, y_bool0, y_bool1, not_true_eq_false, not_false_eq_true, false_implies, true_implies, true_or, or_true, false_or, or_false, if_true, if_false, ite_true, ite_false, R4.cls, q11]
  refine cop_put0 (k := 0) (v := 103) R4 hs4 rfl (by omega) (by decide) fun h5 s5 R5 hs5 F5 => ?_
  have B5 := B4.fr F5
  have r0 := fun J => yi B5.2.1 (i := 0) (k := 0) (x := Int32.ofNat (1 + a)) rfl (by omega) (by omega) (by rw [upd_ne _ _ (by omega), upd_ne _ _ (by omega), upd_at]) J
  have e3 : (48 : Int32) + Int32.ofNat (1 + a) = Int32.ofNat (48 + (1 + a)) := n_ladd _ 48
  simp only [w177_55, w177_56, w177_59, w177_59n, w177_60, w177_61, w177_62, w177_64, w177_64n, w177_65, w177_66, w177_67, w177_68, xk_n, xk_i, xk_r, xk_z, xk_l, xcs_0, xcs_i, xcs_r, xcs_z, xcs_l, Nat.reduceAdd, Nat.reduceLeDiff, Nat.reduceLT, true_and, and_true, Option.toList_some, Option.toList_none, List.nil_append, List.cons_append, List.getElem?_cons_zero, List.getElem?_cons_succ, List.set_cons_zero, List.set_cons_succ, List.length_cons, List.length_nil, y_bool0, y_bool1, not_true_eq_false, not_false_eq_true, false_implies, true_implies, true_or, or_true, false_or, or_false, if_true, if_false, ite_true, ite_false, R5.cls, q11, r0, e3]
  refine cop_put0 (k := 1) R5 hs5 rfl (by omega) ?_ fun h6 s6 R6 hs6 F6 => ?_
  · rcases (show a = 0 ∨ a = 1 ∨ a = 2 ∨ a = 3 by omega) with rfl | rfl | rfl | rfl <;> decide
  have B6 := B5.fr F6
  have r1 := fun J => yi B6.2.1 (i := 1) (k := 1) (x := Int32.ofNat (2 + b)) rfl (by omega) (by omega) (by rw [upd_ne _ _ (by omega), upd_at]) J
  have e4 : (48 : Int32) + Int32.ofNat (2 + b) = Int32.ofNat (48 + (2 + b)) := n_ladd _ 48
  simp only [w177_71, w177_72, w177_75, w177_75n, w177_76, w177_77, w177_78, w177_80, w177_80n, w177_81, w177_82, w177_83, w177_84, xk_n, xk_i, xk_r, xk_z, xk_l, xcs_0, xcs_i, xcs_r, xcs_z, xcs_l, Nat.reduceAdd, Nat.reduceLeDiff, Nat.reduceLT, true_and, and_true, Option.toList_some, Option.toList_none, List.nil_append, List.cons_append, List.getElem?_cons_zero, List.getElem?_cons_succ, List.set_cons_zero, List.set_cons_succ, List.length_cons, List.length_nil, y_bool0, y_bool1, not_true_eq_false, not_false_eq_true, false_implies, true_implies, true_or, or_true, false_or, or_false, if_true, if_false, ite_true, ite_false, R6.cls, q11, r1, e4]
  refine cop_put0 (k := 2) R6 hs6 rfl (by omega) ?_ fun h7 s7 R7 hs7 F7 => ?_
  · rcases (show b = 0 ∨ b = 1 ∨ b = 2 ∨ b = 3 by omega) with rfl | rfl | rfl | rfl <;> decide
  have B7 := B6.fr F7
  simp only [w177_87, w177_88, w177_91, w177_93, w177_94, w177_95, w177_97, w177_98, xk_n, xk_i, xk_r, xk_z, xk_l, xcs_0, xcs_i, xcs_r, xcs_z, xcs_l, Nat.reduceAdd, Nat.reduceLeDiff, Nat.reduceLT, true_and, and_true, Option.toList_some, Option.toList_none, List.nil_append, List.cons_append, List.getElem?_cons_zero, List.getElem?_cons_succ, List.set_cons_zero, List.set_cons_succ, List.length_cons, List.length_nil, y_bool0, y_bool1, not_true_eq_false, not_false_eq_true, false_implies, true_implies, true_or, or_true, false_or, or_false, if_true, if_false, ite_true, ite_false, q11]
  have g0 : upd (upd (upd fg 0 (Int32.ofNat (1 + a))) 1 (Int32.ofNat (2 + b))) 2 0 0 = Int32.ofNat (1 + a) := by rw [upd_ne _ _ (by omega), upd_ne _ _ (by omega), upd_at]
  have g1 : upd (upd (upd fg 0 (Int32.ofNat (1 + a))) 1 (Int32.ofNat (2 + b))) 2 0 1 = Int32.ofNat (2 + b) := by rw [upd_ne _ _ (by omega), upd_at]
  have go := wp_pl (d := d) (K := K) (x5 := x) (hi := 1 + a) (w := 2 + b) (by omega) (by omega) (by omega) (by omega) g0 g1 (fun h s f fs R B hs T C => hK h s f _ fs (1 + a) (2 + b) (by omega) (by omega) (by omega) (by omega) g0 g1 (upd_at _ _ _) R B hs T C) ((1 + a) * (2 + b)) 0 h7 s7 _ fs none (by omega) R7 B7 hs7 ⟨?_, ?_, ?_⟩ ⟨fun x hx => by omega, fun row hrow => by omega⟩
  · have e5 : 3 + 0 + (0 + (2 + b) - 1) / (2 + b) = 3 := by
      have := Nat.div_eq_of_lt (show 0 + (2 + b) - 1 < 2 + b by omega)
      omega
    rw [e5] at go
    exact go
  · rw [upd_ne _ _ (by omega), upd_ne _ _ (by omega), upd_at]
  · rw [upd_ne _ _ (by omega), upd_at]
  · rw [upd_at]
end
