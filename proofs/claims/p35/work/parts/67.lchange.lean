/-! ===== the law's change: vines, signs, frosts ===== -/
def LC (h : xH) (fg fs : Nat → Int32) (ff : Nat → Int64) : Prop := h[25]? = some (.inl (0, 12, .inl fg)) ∧ h[26]? = some (.inl (0, 20, .inl fs)) ∧ h[27]? = some (.inl (4, 1, .inr (.inl ff)))
def LF (a : Nat) : Prop := 25 ≤ a ∧ a < 28
def CQ (a : Nat) : Prop := (2 ≤ a ∧ a < 28) ∨ 30 ≤ a
theorem LF_LQ {h h' : xH} (F : FR LF 0 0 h h') : FR LQ 0 0 h h' := F.mono (fun a _ q => ⟨q.1, Nat.lt_of_lt_of_le q.2 (by omega)⟩) (Nat.le_refl _) (Nat.le_refl _)
theorem LF_CQ {h h' : xH} (F : FR LF 0 0 h h') : FR CQ 0 0 h h' := F.mono (fun a _ q => Or.inl ⟨by have := q.1; omega, q.2⟩) (Nat.le_refl _) (Nat.le_refl _)
theorem CP_CQ {h h' : xH} {k m : Nat} (F : FR CP k m h h') : FR CQ k m h h' := F.mono (fun a _ q => q.elim (fun z => Or.inl (by omega)) Or.inr) (Nat.le_refl _) (Nat.le_refl _)
section
variable {h h' : xH} {fg fs : Nat → Int32} {ff : Nat → Int64} {s : St}
theorem LC.fr {k m : Nat} (H : LC h fg fs ff) (F : FR CP k m h h') : LC h' fg fs ff := ⟨F.at H.1 (CP_no (by omega)), F.at H.2.1 (CP_no (by omega)), F.at H.2.2 (CP_no (by omega))⟩
theorem LC.sg (H : LC h fg fs ff) (R : RX h s) {i x : Int32} {k : Nat} (hi : i = Int32.ofNat k) (hk : k < 12) {J : xH → Prop} (hJ : ∀ h', LC h' (upd fg k x) fs ff → RX h' s → FR LF 0 0 h h' → J h') : y_iast h 25 i x J := by
  obtain ⟨b, c, e⟩ := H
  rw [ys b (by omega) hi hk (by omega)]
  have F : FR LF 0 0 h (h.set 25 (.inl (0, 12, .inl (upd fg k x)))) := (FR.set (c := .inl (0, 12, .inl (upd fg k x))) b rfl).mono (fun a _ q => by subst q; exact ⟨by omega, by omega⟩) (Nat.le_refl _) (Nat.le_refl _)
  exact hJ _ ⟨h_set_at b, h_set_ne c (by omega), h_set_ne e (by omega)⟩ (R.fr (LF_LQ F)) F
theorem LC.ss (H : LC h fg fs ff) (R : RX h s) {i x : Int32} {k : Nat} (hi : i = Int32.ofNat k) (hk : k < 20) {J : xH → Prop} (hJ : ∀ h', LC h' fg (upd fs k x) ff → RX h' s → FR LF 0 0 h h' → J h') : y_iast h 26 i x J := by
  obtain ⟨b, c, e⟩ := H
  rw [ys c (by omega) hi hk (by omega)]
  have F : FR LF 0 0 h (h.set 26 (.inl (0, 20, .inl (upd fs k x)))) := (FR.set (c := .inl (0, 20, .inl (upd fs k x))) c rfl).mono (fun a _ q => by subst q; exact ⟨by omega, by omega⟩) (Nat.le_refl _) (Nat.le_refl _)
  exact hJ _ ⟨h_set_ne b (by omega), h_set_at c, h_set_ne e (by omega)⟩ (R.fr (LF_LQ F)) F
theorem LC.sf (H : LC h fg fs ff) (R : RX h s) {x : Int64} {J : xH → Prop} (hJ : ∀ h', LC h' fg fs (vp_updL ff 0 x) → RX h' s → FR LF 0 0 h h' → J h') : y_last h 27 0 x J := by
  obtain ⟨b, c, e⟩ := H
  unfold y_last
  rw [e]
  have F : FR LF 0 0 h (h.set 27 (.inl (4, 1, .inr (.inl (vp_updL ff 0 x))))) := (FR.set (c := .inl (4, 1, .inr (.inl (vp_updL ff 0 x)))) e rfl).mono (fun a _ q => by subst q; exact ⟨by omega, by omega⟩) (Nat.le_refl _) (Nat.le_refl _)
  refine ⟨by omega, (n_in (a := 0) (by omega)).mpr (by omega), ?_⟩
  exact hJ _ ⟨h_set_ne b (by omega), h_set_ne c (by omega), h_set_at e⟩ (R.fr (LF_LQ F)) F
theorem LC.lf (H : LC h fg fs ff) {x : Int64} (hx : ff 0 = x) (J : Int64 → Prop) : y_lald h 27 0 J ↔ J x := by
  subst hx
  unfold y_lald
  rw [H.2.2]
  exact ⟨fun z => z.2.2, fun z => ⟨by omega, (n_in (a := 0) (by omega)).mpr (by omega), z⟩⟩
end
theorem l_clr {F c : Nat} (hF : F < 1073741824) (hc : c < 30) : ∃ F', F' < 1073741824 ∧ Int64.ofNat F &&& ((1 : Int64) <<< ((Int32.ofNat c).toInt64 &&& 63) ^^^ (-1)) = Int64.ofNat F' ∧ ∀ i, i < 64 → F'.testBit i = (F.testBit i && !decide (i = c)) := by
  have p1 : 2 ^ c < 1073741824 := Nat.pow_lt_pow_right (n := 30) (by omega) hc
  have e1 := l_shl (L := 1) (c := c) (by rw [Nat.one_mul]; omega) (by omega)
  rw [Nat.one_mul] at e1
  have e2 : (1 : Int64) = Int64.ofNat 1 := rfl
  rw [e2, e1]
  refine ⟨F &&& (2 ^ c ^^^ (2 ^ 64 - 1)), Nat.lt_of_le_of_lt Nat.and_le_left hF, i64_of ?_, fun i hi => ?_⟩
  · rw [Int64.toBitVec_and, Int64.toBitVec_xor, BitVec.toNat_and, BitVec.toNat_xor, i64_to (by omega), i64_to (by omega)]
    rfl
  · rw [Nat.testBit_and, Nat.testBit_xor, Nat.testBit_two_pow, Nat.testBit_two_pow_sub_one]
    have a1 : decide (i < 64) = true := decide_eq_true hi
    rw [a1]
    by_cases q : c = i
    · subst q; simp
    · have q2 : ¬ i = c := fun z => q z.symm
      simp [q, q2]
section
variable {d : Nat} {K : Option Value → xH → Prop} {s : St} {hi n k : Nat} {x y : Int32} {h : xH}
/-- a vine is planted, or not -/
theorem wp_cvine {c kd hd : Nat} {l11 l12 l13 l14 l15 : Option Value} (R : RX h s) (H : LG h s hi) (h30 : 30 ≤ h.length) (hn : gn (sE s) = n) (hc : c < n) (hk3 : kd < 3) (hh4 : hd < 4) (hK : ∀ h' s' l11, RX h' s' → LG h' s' hi → gn (sE s') = n → FR CQ 2 20 h h' → wp (d + 5) 179 153 [some (.ref 2), some (.int x), some (.int y), some (.ref 25), some (.ref 26), some (.ref 27), some (.int (Int32.ofNat n)), some (.int (Int32.ofNat k)), some (.int (Int32.ofNat c)), some (.int (Int32.ofNat kd)), some (.int (Int32.ofNat hd)), some (.int l11), l12, l13, l14, l15] [] h' K) : wp (d + 5) 179 58 [some (.ref 2), some (.int x), some (.int y), some (.ref 25), some (.ref 26), some (.ref 27), some (.int (Int32.ofNat n)), some (.int (Int32.ofNat k)), some (.int (Int32.ofNat c)), some (.int (Int32.ofNat kd)), some (.int (Int32.ofNat hd)), l11, l12, l13, l14, l15] [] h K := by
  have n20 := H.n20
  have hv3 := H.1.2.2.2.2.2
  have hO := R.ok
  have hcn : c < gn (sE s) := by omega
  have hE := hO.okn hcn
  have hs4 := hO.2.2.2 c hcn
  have e1 : opVine s (Int32.ofNat kd) (Int32.ofNat c) (Int32.ofNat hd) = if gs (sE s) c = 1 ∨ plF (sE s) c (gv (sE s)) 0 = true then ((-3 : Int32), s) else if gv (sE s) < 3 then (Int32.ofNat (gv (sE s)), stE s (addV (sE s) kd c hd)) else (-4, s) := by
    unfold opVine
    rw [nb_t (by omega) hcn]
    dsimp only
    rw [nb_t (by omega) hk3]
    dsimp only
    rw [nb_t (by omega) hh4]
  have no : ∀ z : Int32, z < 0 → opVine s (Int32.ofNat kd) (Int32.ofNat c) (Int32.ofNat hd) = (z, s) → wp (d + 5) 179 96 [some (.ref 2), some (.int x), some (.int y), some (.ref 25), some (.ref 26), some (.ref 27), some (.int (Int32.ofNat n)), some (.int (Int32.ofNat k)), some (.int (Int32.ofNat c)), some (.int (Int32.ofNat kd)), some (.int (Int32.ofNat hd)), l11, l12, l13, l14, l15] [.int z] h K := by
    intro z hz hop
    simp only [w179_96, w179_98, w179_98n, w179_99, w179_101, w179_103, w179_105, xk_n, xk_i, xk_r, xk_z, xk_l, xcs_0, xcs_i, xcs_r, xcs_z, xcs_l, Nat.reduceAdd, Nat.reduceLeDiff, Nat.reduceLT, true_and, and_true, Option.toList_some, Option.toList_none, List.nil_append, List.cons_append, List.getElem?_cons_zero, List.getElem?_cons_succ, List.set_cons_zero, List.set_cons_succ, List.length_cons, List.length_nil, y_bool0, y_bool1, not_true_eq_false, not_false_eq_true, false_implies, true_implies, true_or, or_true, false_or, or_false, if_true, if_false, ite_true, ite_false, R.cls]
    refine cop_vine h30 R (Int32.ofNat kd) (Int32.ofNat c) (Int32.ofNat hd) fun h' R' F => ?_
    rw [hop] at R' ⊢
    have q : (z < 0) = True := eq_true hz
    have q2 : (z = z) = True := eq_self z
    simp only [w179_108, w179_110, w179_113, w179_114, w179_115, w179_117, xk_n, xk_i, xk_r, xk_z, xk_l, xcs_0, xcs_i, xcs_r, xcs_z, xcs_l, Nat.reduceAdd, Nat.reduceLeDiff, Nat.reduceLT, true_and, and_true, Option.toList_some, Option.toList_none, List.nil_append, List.cons_append, List.getElem?_cons_zero, List.getElem?_cons_succ, List.set_cons_zero, List.set_cons_succ, List.length_cons, List.length_nil, y_bool0, y_bool1, not_true_eq_false, not_false_eq_true, false_implies, true_implies, true_or, or_true, false_or, or_false, if_true, if_false, ite_true, ite_false, q, q2]
    exact hK h' s _ R' (H.fr F (CP_no (by omega)) (CP_no (by omega)) (CP_no (by omega))) hn (CP_CQ F)
  have p1 : (Int32.ofNat (gs (sE s) c) = 1) = (gs (sE s) c = 1) := propext (n_eql (m := 1) (by omega) (by omega))
  simp only [w179_58, w179_58n, w179_60, w179_62, w179_63, w179_64, w179_67, w179_67n, w179_68, w179_70, w179_76, w179_78, xk_n, xk_i, xk_r, xk_z, xk_l, xcs_0, xcs_i, xcs_r, xcs_z, xcs_l, Nat.reduceAdd, Nat.reduceLeDiff, Nat.reduceLT, true_and, and_true, Option.toList_some, Option.toList_none, List.nil_append, List.cons_append, List.getElem?_cons_zero, List.getElem?_cons_succ, List.set_cons_zero, List.set_cons_succ, List.length_cons, List.length_nil, y_bool0, y_bool1, not_true_eq_false, not_false_eq_true, false_implies, true_implies, true_or, or_true, false_or, or_false, if_true, if_false, ite_true, ite_false, H.sg hcn, p1]
  refine ⟨fun z => ?_, fun z => ?_⟩
  · exact no (-3) (by decide) (by rw [e1, if_pos (Or.inl z)])
  refine wp_lPl H hE (by omega) ?_
  have p2 : (bi (plF (sE s) c (gv (sE s)) 0) = 0) = (plF (sE s) c (gv (sE s)) 0 = false) := propext (bi_0 _)
  have p3 : (Int32.ofNat (gv (sE s)) = 3) = (gv (sE s) = 3) := propext (n_eql (m := 3) (by omega) (by omega))
  simp only [w179_73, w179_76, w179_78, w179_81, w179_81n, w179_82, w179_83, w179_84, w179_85, w179_88, w179_90, w179_93, w179_93n, w179_94, w179_95, xk_n, xk_i, xk_r, xk_z, xk_l, xcs_0, xcs_i, xcs_r, xcs_z, xcs_l, Nat.reduceAdd, Nat.reduceLeDiff, Nat.reduceLT, true_and, and_true, Option.toList_some, Option.toList_none, List.nil_append, List.cons_append, List.getElem?_cons_zero, List.getElem?_cons_succ, List.set_cons_zero, List.set_cons_succ, List.length_cons, List.length_nil, y_bool0, y_bool1, not_true_eq_false, not_false_eq_true, false_implies, true_implies, true_or, or_true, false_or, or_false, if_true, if_false, ite_true, ite_false, p2, H.v, p3]
  refine ⟨fun z2 => ⟨fun z3 => ?_, fun z3 => ?_⟩, fun z2 => ?_⟩
  · have hop : opVine s (Int32.ofNat kd) (Int32.ofNat c) (Int32.ofNat hd) = (Int32.ofNat (gv (sE s)), stE s (addV (sE s) kd c hd)) := by
      rw [e1, if_neg (by rw [z2]; simp [z]), if_pos (by omega)]
    simp only [w179_96, w179_98, w179_98n, w179_99, w179_101, w179_103, w179_105, xk_n, xk_i, xk_r, xk_z, xk_l, xcs_0, xcs_i, xcs_r, xcs_z, xcs_l, Nat.reduceAdd, Nat.reduceLeDiff, Nat.reduceLT, true_and, and_true, Option.toList_some, Option.toList_none, List.nil_append, List.cons_append, List.getElem?_cons_zero, List.getElem?_cons_succ, List.set_cons_zero, List.set_cons_succ, List.length_cons, List.length_nil, y_bool0, y_bool1, not_true_eq_false, not_false_eq_true, false_implies, true_implies, true_or, or_true, false_or, or_false, if_true, if_false, ite_true, ite_false, R.cls]
    refine cop_vine h30 R (Int32.ofNat kd) (Int32.ofNat c) (Int32.ofNat hd) fun h1 R1 F1 => ?_
    rw [hop] at R1 ⊢
    have q : (Int32.ofNat (gv (sE s)) < 0) = False := eq_false (n_lt0 (by omega))
    have q2 : (Int32.ofNat (gv (sE s)) = Int32.ofNat (gv (sE s))) = True := eq_self _
    obtain ⟨⟨a1, a2, a3, a4, a5, a6⟩, ⟨fg, b1, b2, b3, b4, b5⟩, ⟨fs, c1, c2⟩, ff, F, f1, f2, f3, f4⟩ := H
    have C1 : LC h1 fg fs ff := LC.fr ⟨b1, c1, f1⟩ F1
    simp only [w179_108, w179_110, w179_113, w179_114, w179_115, w179_117, w179_120, w179_120n, w179_121, w179_122, w179_124, w179_125, w179_127, xk_n, xk_i, xk_r, xk_z, xk_l, xcs_0, xcs_i, xcs_r, xcs_z, xcs_l, Nat.reduceAdd, Nat.reduceLeDiff, Nat.reduceLT, true_and, and_true, Option.toList_some, Option.toList_none, List.nil_append, List.cons_append, List.getElem?_cons_zero, List.getElem?_cons_succ, List.set_cons_zero, List.set_cons_succ, List.length_cons, List.length_nil, y_bool0, y_bool1, not_true_eq_false, not_false_eq_true, false_implies, true_implies, true_or, or_true, false_or, or_false, if_true, if_false, ite_true, ite_false, q, q2]
    refine C1.sg R1 (n_ladd _ 3) (by omega) fun h2 C2 R2 F2 => ?_
    simp only [w179_128, w179_128n, w179_129, w179_131, w179_133, w179_134, w179_136, xk_n, xk_i, xk_r, xk_z, xk_l, xcs_0, xcs_i, xcs_r, xcs_z, xcs_l, Nat.reduceAdd, Nat.reduceLeDiff, Nat.reduceLT, true_and, and_true, Option.toList_some, Option.toList_none, List.nil_append, List.cons_append, List.getElem?_cons_zero, List.getElem?_cons_succ, List.set_cons_zero, List.set_cons_succ, List.length_cons, List.length_nil, y_bool0, y_bool1, not_true_eq_false, not_false_eq_true, false_implies, true_implies, true_or, or_true, false_or, or_false, if_true, if_false, ite_true, ite_false]
    refine C2.sg R2 (n_ladd _ 6) (by omega) fun h3 C3 R3 F3 => ?_
    simp only [w179_137, w179_137n, w179_138, w179_140, w179_142, w179_143, w179_145, xk_n, xk_i, xk_r, xk_z, xk_l, xcs_0, xcs_i, xcs_r, xcs_z, xcs_l, Nat.reduceAdd, Nat.reduceLeDiff, Nat.reduceLT, true_and, and_true, Option.toList_some, Option.toList_none, List.nil_append, List.cons_append, List.getElem?_cons_zero, List.getElem?_cons_succ, List.set_cons_zero, List.set_cons_succ, List.length_cons, List.length_nil, y_bool0, y_bool1, not_true_eq_false, not_false_eq_true, false_implies, true_implies, true_or, or_true, false_or, or_false, if_true, if_false, ite_true, ite_false]
    refine C3.sg R3 (n_ladd _ 9) (by omega) fun h4 C4 R4 F4 => ?_
    have g2 := fun J => yi C4.1 (i := 2) (k := 2) (x := Int32.ofNat (gv (sE s))) rfl (by omega) (by omega) (by rw [upd_ne _ _ (by omega), upd_ne _ _ (by omega), upd_ne _ _ (by omega)]; exact b4) J
    have g3 : Int32.ofNat (gv (sE s)) + 1 = Int32.ofNat (gv (sE s) + 1) := n_addl _ 1
    simp only [w179_146, w179_146n, w179_147, w179_148, w179_149, w179_150, w179_151, w179_152, xk_n, xk_i, xk_r, xk_z, xk_l, xcs_0, xcs_i, xcs_r, xcs_z, xcs_l, Nat.reduceAdd, Nat.reduceLeDiff, Nat.reduceLT, true_and, and_true, Option.toList_some, Option.toList_none, List.nil_append, List.cons_append, List.getElem?_cons_zero, List.getElem?_cons_succ, List.set_cons_zero, List.set_cons_succ, List.length_cons, List.length_nil, y_bool0, y_bool1, not_true_eq_false, not_false_eq_true, false_implies, true_implies, true_or, or_true, false_or, or_false, if_true, if_false, ite_true, ite_false, g2, g3]
    refine C4.sg (k := 2) R4 rfl (by omega) fun h5 C5 R5 F5 => ?_
    refine hK h5 _ _ R5 ⟨⟨a1, a2, a3, a4, a5, by show gv (sE s) + 1 ≤ 3; omega⟩, ⟨_, C5.1, ?_, ?_, ?_, fun v hv => ?_⟩, ⟨fs, C5.2.1, c2⟩, ff, F, C5.2.2, f2, f3, f4⟩ hn ((CP_CQ F1).trans ((((LF_CQ F2).tr (LF_CQ F3)).tr (LF_CQ F4)).tr (LF_CQ F5)) (fun _ _ z => z) (fun _ _ z => z) (Nat.le_refl _) (Nat.le_refl _))
    · rw [upd_ne _ _ (by omega), upd_ne _ _ (by omega), upd_ne _ _ (by omega), upd_ne _ _ (by omega)]; exact b2
    · rw [upd_ne _ _ (by omega), upd_ne _ _ (by omega), upd_ne _ _ (by omega), upd_ne _ _ (by omega)]; exact b3
    · rw [upd_at]; rfl
    · replace hv : v < gv (sE s) + 1 := hv
      show _ = Int32.ofNat (upN (gk (sE s)) (gv (sE s)) kd v) ∧ _ = Int32.ofNat (upN (gp (sE s)) (gv (sE s)) c v) ∧ _ = Int32.ofNat (upN (gh (sE s)) (gv (sE s)) hd v)
      by_cases w : v = gv (sE s)
      · subst w
        rw [upN_at, upN_at, upN_at]
        refine ⟨?_, ?_, ?_⟩
        · rw [upd_ne _ _ (by omega), upd_ne _ _ (by omega), upd_ne _ _ (by omega), upd_at]
        · rw [upd_ne _ _ (by omega), upd_ne _ _ (by omega), upd_at]
        · rw [upd_ne _ _ (by omega), upd_at]
      · rw [upN_ne _ w, upN_ne _ w, upN_ne _ w]
        obtain ⟨d1, d2, d3⟩ := b5 v (by omega)
        refine ⟨?_, ?_, ?_⟩
        · rw [upd_ne _ _ (by omega), upd_ne _ _ (by omega), upd_ne _ _ (by omega), upd_ne _ _ (by omega)]; exact d1
        · rw [upd_ne _ _ (by omega), upd_ne _ _ (by omega), upd_ne _ _ (by omega), upd_ne _ _ (by omega)]; exact d2
        · rw [upd_ne _ _ (by omega), upd_ne _ _ (by omega), upd_ne _ _ (by omega), upd_ne _ _ (by omega)]; exact d3
  · exact no (-4) (by decide) (by rw [e1, if_neg (by rw [z2]; simp [z]), if_neg (by omega)])
  · exact no (-3) (by decide) (by rw [e1, if_pos (Or.inr (by simpa using z2))])
/-- a sign is set, or not -/
theorem wp_cset {c g : Nat} {l9 l10 l11 l13 l14 l15 : Option Value} (R : RX h s) (H : LG h s hi) (hn : gn (sE s) = n) (hc : c < n) (hg : g < 4) (hK : ∀ h' s' l13, RX h' s' → LG h' s' hi → gn (sE s') = n → FR CQ 0 0 h h' → wp (d + 5) 179 245 [some (.ref 2), some (.int x), some (.int y), some (.ref 25), some (.ref 26), some (.ref 27), some (.int (Int32.ofNat n)), some (.int (Int32.ofNat k)), some (.int (Int32.ofNat c)), l9, l10, l11, some (.int (Int32.ofNat g)), some (.int l13), l14, l15] [] h' K) : wp (d + 5) 179 183 [some (.ref 2), some (.int x), some (.int y), some (.ref 25), some (.ref 26), some (.ref 27), some (.int (Int32.ofNat n)), some (.int (Int32.ofNat k)), some (.int (Int32.ofNat c)), l9, l10, l11, some (.int (Int32.ofNat g)), l13, l14, l15] [] h K := by
  have n20 := H.n20
  have hO := R.ok
  have hcn : c < gn (sE s) := by omega
  have hE := hO.okn hcn
  have hs4 := hO.2.2.2 c hcn
  have e1 : opSet s (Int32.ofNat c) (Int32.ofNat g) = if g = 1 ∧ plF (sE s) c (gv (sE s)) 0 = true then (-3, s) else (Int32.ofNat (gs (sE s) c), stE s (edS (sE s) (upN (gs (sE s)) c g))) := by
    unfold opSet
    rw [nb_t (by omega) hcn]
    dsimp only
    rw [nb_t (by omega) hg]
  have w0 : ((0 : Int32) = 0) = True := eq_self _
  have w1 : ((1 : Int32) = 0) = False := eq_false (by decide)
  have w3 : ((-3 : Int32) = -3) = True := eq_self _
  have no : opSet s (Int32.ofNat c) (Int32.ofNat g) = (-3, s) → wp (d + 5) 179 203 [some (.ref 2), some (.int x), some (.int y), some (.ref 25), some (.ref 26), some (.ref 27), some (.int (Int32.ofNat n)), some (.int (Int32.ofNat k)), some (.int (Int32.ofNat c)), l9, l10, l11, some (.int (Int32.ofNat g)), l13, l14, l15] [.int 0] h K := by
    intro hop
    simp only [w179_203, w179_205, w179_205n, w179_206, w179_208, w179_210, xk_n, xk_i, xk_r, xk_z, xk_l, xcs_0, xcs_i, xcs_r, xcs_z, xcs_l, Nat.reduceAdd, Nat.reduceLeDiff, Nat.reduceLT, true_and, and_true, Option.toList_some, Option.toList_none, List.nil_append, List.cons_append, List.getElem?_cons_zero, List.getElem?_cons_succ, List.set_cons_zero, List.set_cons_succ, List.length_cons, List.length_nil, y_bool0, y_bool1, not_true_eq_false, not_false_eq_true, false_implies, true_implies, true_or, or_true, false_or, or_false, if_true, if_false, ite_true, ite_false, R.cls]
    refine cop_set R (Int32.ofNat c) (Int32.ofNat g) fun h' R' F => ?_
    rw [hop] at R' ⊢
    simp only [w179_213, w179_215, w179_218, w179_218n, w179_220, w179_222, w179_223, w179_226, w179_228, w179_231, w179_232, w179_233, w179_235, w179_238, w179_238n, w179_240, w179_242, w179_244, xk_n, xk_i, xk_r, xk_z, xk_l, xcs_0, xcs_i, xcs_r, xcs_z, xcs_l, Nat.reduceAdd, Nat.reduceLeDiff, Nat.reduceLT, true_and, and_true, Option.toList_some, Option.toList_none, List.nil_append, List.cons_append, List.getElem?_cons_zero, List.getElem?_cons_succ, List.set_cons_zero, List.set_cons_succ, List.length_cons, List.length_nil, y_bool0, y_bool1, not_true_eq_false, not_false_eq_true, false_implies, true_implies, true_or, or_true, false_or, or_false, if_true, if_false, ite_true, ite_false, w0, w3]
    exact hK h' s _ R' (H.fr F (CP_no (by omega)) (CP_no (by omega)) (CP_no (by omega))) hn (CP_CQ F)
  have yes : opSet s (Int32.ofNat c) (Int32.ofNat g) = (Int32.ofNat (gs (sE s) c), stE s (edS (sE s) (upN (gs (sE s)) c g))) → wp (d + 5) 179 203 [some (.ref 2), some (.int x), some (.int y), some (.ref 25), some (.ref 26), some (.ref 27), some (.int (Int32.ofNat n)), some (.int (Int32.ofNat k)), some (.int (Int32.ofNat c)), l9, l10, l11, some (.int (Int32.ofNat g)), l13, l14, l15] [.int 1] h K := by
    intro hop
    simp only [w179_203, w179_205, w179_205n, w179_206, w179_208, w179_210, xk_n, xk_i, xk_r, xk_z, xk_l, xcs_0, xcs_i, xcs_r, xcs_z, xcs_l, Nat.reduceAdd, Nat.reduceLeDiff, Nat.reduceLT, true_and, and_true, Option.toList_some, Option.toList_none, List.nil_append, List.cons_append, List.getElem?_cons_zero, List.getElem?_cons_succ, List.set_cons_zero, List.set_cons_succ, List.length_cons, List.length_nil, y_bool0, y_bool1, not_true_eq_false, not_false_eq_true, false_implies, true_implies, true_or, or_true, false_or, or_false, if_true, if_false, ite_true, ite_false, R.cls]
    refine cop_set R (Int32.ofNat c) (Int32.ofNat g) fun h1 R1 F1 => ?_
    rw [hop] at R1 ⊢
    obtain ⟨a, ⟨fg, b1, b2⟩, ⟨fs, c1, c2⟩, ff, F, f1, f2, f3, f4⟩ := H
    have C1 : LC h1 fg fs ff := LC.fr ⟨b1, c1, f1⟩ F1
    have g2 := fun J => yi C1.2.1 (i := Int32.ofNat c) (k := c) rfl (by omega) (by omega) (c2 c hcn) J
    have q2 : (Int32.ofNat (gs (sE s) c) = Int32.ofNat (gs (sE s) c)) = True := eq_self _
    simp only [w179_213, w179_215, w179_218, w179_218n, w179_220, w179_222, w179_223, w179_226, w179_228, w179_231, w179_232, w179_233, w179_235, w179_238, w179_238n, w179_240, w179_242, w179_244, xk_n, xk_i, xk_r, xk_z, xk_l, xcs_0, xcs_i, xcs_r, xcs_z, xcs_l, Nat.reduceAdd, Nat.reduceLeDiff, Nat.reduceLT, true_and, and_true, Option.toList_some, Option.toList_none, List.nil_append, List.cons_append, List.getElem?_cons_zero, List.getElem?_cons_succ, List.set_cons_zero, List.set_cons_succ, List.length_cons, List.length_nil, y_bool0, y_bool1, not_true_eq_false, not_false_eq_true, false_implies, true_implies, true_or, or_true, false_or, or_false, if_true, if_false, ite_true, ite_false, w1, g2, q2]
    refine C1.ss (k := c) R1 rfl (by omega) fun h2 C2 R2 F2 => ?_
    refine hK h2 _ _ R2 ⟨a, ⟨fg, C2.1, b2⟩, ⟨_, C2.2.1, fun i hi => ?_⟩, ff, F, C2.2.2, f2, f3, f4⟩ hn ((CP_CQ F1).tr (LF_CQ F2))
    show upd fs c (Int32.ofNat g) i = Int32.ofNat (upN (gs (sE s)) c g i)
    by_cases w : i = c
    · rw [w, upd_at, upN_at]
    · rw [upd_ne _ _ w, upN_ne _ w]; exact c2 i hi
  have p1 : (Int32.ofNat g = 1) = (g = 1) := propext (n_eql (m := 1) (by omega) (by omega))
  simp only [w179_183, w179_185, w179_186, w179_189, w179_189n, w179_190, w179_192, w179_198, w179_199, xk_n, xk_i, xk_r, xk_z, xk_l, xcs_0, xcs_i, xcs_r, xcs_z, xcs_l, Nat.reduceAdd, Nat.reduceLeDiff, Nat.reduceLT, true_and, and_true, Option.toList_some, Option.toList_none, List.nil_append, List.cons_append, List.getElem?_cons_zero, List.getElem?_cons_succ, List.set_cons_zero, List.set_cons_succ, List.length_cons, List.length_nil, y_bool0, y_bool1, not_true_eq_false, not_false_eq_true, false_implies, true_implies, true_or, or_true, false_or, or_false, if_true, if_false, ite_true, ite_false, p1]
  refine ⟨fun z => yes (by rw [e1, if_neg (fun y => z y.1)]), fun z => ?_⟩
  refine wp_lPl H hE (by omega) ?_
  have p2 : (bi (plF (sE s) c (gv (sE s)) 0) = 0) = (plF (sE s) c (gv (sE s)) 0 = false) := propext (bi_0 _)
  simp only [w179_195, w179_198, w179_199, w179_202, xk_n, xk_i, xk_r, xk_z, xk_l, xcs_0, xcs_i, xcs_r, xcs_z, xcs_l, Nat.reduceAdd, Nat.reduceLeDiff, Nat.reduceLT, true_and, and_true, Option.toList_some, Option.toList_none, List.nil_append, List.cons_append, List.getElem?_cons_zero, List.getElem?_cons_succ, List.set_cons_zero, List.set_cons_succ, List.length_cons, List.length_nil, y_bool0, y_bool1, not_true_eq_false, not_false_eq_true, false_implies, true_implies, true_or, or_true, false_or, or_false, if_true, if_false, ite_true, ite_false, p2]
  refine ⟨fun z2 => no (by rw [e1, if_pos ⟨z, by simpa using z2⟩]), fun z2 => yes (by rw [e1, if_neg (fun y => by rw [z2] at y; cases y.2)])⟩
/-- a frost -/
theorem wp_cfrost {day : Nat} {b : Bool} {l8 l9 l10 l11 l12 l13 : Option Value} (R : RX h s) (H : LG h s hi) (hn : gn (sE s) = n) (h1n : 1 ≤ n) (hd : day < 30) (hK : ∀ h' s', RX h' s' → LG h' s' hi → gn (sE s') = n → FR CQ 0 0 h h' → wp (d + 5) 179 358 [some (.ref 2), some (.int x), some (.int y), some (.ref 25), some (.ref 26), some (.ref 27), some (.int (Int32.ofNat n)), some (.int (Int32.ofNat k)), l8, l9, l10, l11, l12, l13, some (.int (Int32.ofNat day)), some (.int (bi b))] [] h' K) : wp (d + 5) 179 282 [some (.ref 2), some (.int x), some (.int y), some (.ref 25), some (.ref 26), some (.ref 27), some (.int (Int32.ofNat n)), some (.int (Int32.ofNat k)), l8, l9, l10, l11, l12, l13, some (.int (Int32.ofNat day)), some (.int (bi b))] [] h K := by
  have e1 : opFrost s (Int32.ofNat day) b = (bi (sFr s day != b), stR s (upB (sFr s) day b)) := by
    unfold opFrost
    rw [nb_t (by omega) (show day < 80 by omega)]
    dsimp only
    rw [if_neg (by omega)]
  simp only [w179_282, w179_282n, w179_283, w179_285, w179_287, xk_n, xk_i, xk_r, xk_z, xk_l, xcs_0, xcs_i, xcs_r, xcs_z, xcs_l, Nat.reduceAdd, Nat.reduceLeDiff, Nat.reduceLT, true_and, and_true, Option.toList_some, Option.toList_none, List.nil_append, List.cons_append, List.getElem?_cons_zero, List.getElem?_cons_succ, List.set_cons_zero, List.set_cons_succ, List.length_cons, List.length_nil, y_bool0, y_bool1, not_true_eq_false, not_false_eq_true, false_implies, true_implies, true_or, or_true, false_or, or_false, if_true, if_false, ite_true, ite_false, R.cls]
  refine cop_frost R (Int32.ofNat day) b fun h1 R1 F1 => ?_
  rw [e1] at R1 ⊢
  obtain ⟨a, ⟨fg, b1, b2⟩, ⟨fs, c1, c2⟩, ff, F, f1, f2, f3, f4⟩ := H
  have C1 : LC h1 fg fs ff := LC.fr ⟨b1, c1, f1⟩ F1
  have bit := l_bit (c := day) f3 hd
  rw [← f4 day (by omega)] at bit
  have p1 : ∀ z : Int32, (z = bi b) = (z = bi b) := fun z => rfl
  have ck : wp (d + 5) 179 319 [some (.ref 2), some (.int x), some (.int y), some (.ref 25), some (.ref 26), some (.ref 27), some (.int (Int32.ofNat n)), some (.int (Int32.ofNat k)), l8, l9, l10, l11, l12, l13, some (.int (Int32.ofNat day)), some (.int (bi b))] [.int (bi (sFr s day != b)), .int (bi (sFr s day != b))] h1 K := by
    have q2 : (bi (sFr s day != b) = bi (sFr s day != b)) = True := eq_self _
    have q3 : (bi b = 0) = (b = false) := propext (bi_0 _)
    simp only [w179_319, w179_322, w179_323, w179_324, w179_324n, w179_326, w179_327, w179_329, w179_332, w179_332n, w179_334, w179_335, w179_336, w179_337, w179_339, w179_340, w179_341, w179_344, w179_344n, w179_346, w179_347, w179_348, w179_349, w179_351, w179_352, w179_355, w179_356, xk_n, xk_i, xk_r, xk_z, xk_l, xcs_0, xcs_i, xcs_r, xcs_z, xcs_l, Nat.reduceAdd, Nat.reduceLeDiff, Nat.reduceLT, true_and, and_true, Option.toList_some, Option.toList_none, List.nil_append, List.cons_append, List.getElem?_cons_zero, List.getElem?_cons_succ, List.set_cons_zero, List.set_cons_succ, List.length_cons, List.length_nil, y_bool0, y_bool1, not_true_eq_false, not_false_eq_true, false_implies, true_implies, true_or, or_true, false_or, or_false, if_true, if_false, ite_true, ite_false, q2, C1.lf f2, q3]
    have fin : ∀ (z : Int64) (F' : Nat), z = Int64.ofNat F' → F' < 1073741824 → (∀ i, i < 64 → F'.testBit i = if i = day then b else F.testBit i) → wp (d + 5) 179 357 [some (.ref 2), some (.int x), some (.int y), some (.ref 25), some (.ref 26), some (.ref 27), some (.int (Int32.ofNat n)), some (.int (Int32.ofNat k)), l8, l9, l10, l11, l12, l13, some (.int (Int32.ofNat day)), some (.int (bi b))] [.long z, .int 0, .ref 27] h1 K := by
      rintro z F' rfl hF' hb
      rw [w179_357]
      refine C1.sf R1 fun h2 C2 R2 F2 => ?_
      refine hK h2 _ R2 ⟨a, ⟨fg, C2.1, b2⟩, ⟨fs, C2.2.1, c2⟩, _, F', C2.2.2, if_pos rfl, hF', fun i hi => ?_⟩ hn ((CP_CQ F1).tr (LF_CQ F2))
      show upB (sFr s) day b i = F'.testBit i
      unfold upB
      by_cases w : i < 64
      · rw [hb i w]
        by_cases w2 : i = day
        · rw [if_pos w2, if_pos w2]
        · rw [if_neg w2, if_neg w2]; exact f4 i hi
      · have hp : 1073741824 ≤ 2 ^ i := Nat.pow_le_pow_right (n := 2) (i := 30) (by omega) (by omega)
        rw [if_neg (by omega), f4 i hi, Nat.testBit_lt_two_pow (by omega), Nat.testBit_lt_two_pow (by omega)]
    refine ⟨fun z => ?_, fun z => ?_⟩
    · obtain ⟨F', hF', e5, e6⟩ := l_clr f3 hd
      refine fin _ F' e5 hF' fun i hi => ?_
      rw [e6 i hi, z]
      by_cases w : i = day
      · rw [if_pos w]; simp [w]
      · rw [if_neg w]; simp [w]
    · have zb : b = true := by simpa using z
      refine fin _ (F ||| 2 ^ day) (l_orx f3 hd) (or_b30 f3 hd) fun i hi => ?_
      rw [Nat.testBit_or, Nat.testBit_two_pow, zb]
      by_cases w : i = day
      · rw [if_pos w]; simp [w]
      · have w2 : ¬ day = i := fun q => w q.symm
        rw [if_neg w]; simp [w2]
  simp only [w179_290, w179_290n, w179_292, w179_293, w179_294, w179_296, w179_297, w179_298, w179_299, w179_300, w179_301, w179_304, w179_305, w179_308, xk_n, xk_i, xk_r, xk_z, xk_l, xcs_0, xcs_i, xcs_r, xcs_z, xcs_l, Nat.reduceAdd, Nat.reduceLeDiff, Nat.reduceLT, true_and, and_true, Option.toList_some, Option.toList_none, List.nil_append, List.cons_append, List.getElem?_cons_zero, List.getElem?_cons_succ, List.set_cons_zero, List.set_cons_succ, List.length_cons, List.length_nil, y_bool0, y_bool1, not_true_eq_false, not_false_eq_true, false_implies, true_implies, true_or, or_true, false_or, or_false, if_true, if_false, ite_true, ite_false, C1.lf f2, bit]
  refine ⟨fun z => ?_, fun z => ?_⟩
  · have q0 : ((0 : Int32) = bi b) = (b = false) := propext ⟨fun w => (bi_0 b).mp w.symm, fun w => ((bi_0 b).mpr w).symm⟩
    simp only [w179_309, w179_311, w179_314, w179_315, w179_318, xk_n, xk_i, xk_r, xk_z, xk_l, xcs_0, xcs_i, xcs_r, xcs_z, xcs_l, Nat.reduceAdd, Nat.reduceLeDiff, Nat.reduceLT, true_and, and_true, Option.toList_some, Option.toList_none, List.nil_append, List.cons_append, List.getElem?_cons_zero, List.getElem?_cons_succ, List.set_cons_zero, List.set_cons_succ, List.length_cons, List.length_nil, y_bool0, y_bool1, not_true_eq_false, not_false_eq_true, false_implies, true_implies, true_or, or_true, false_or, or_false, if_true, if_false, ite_true, ite_false, q0]
    have z' : sFr s day = false := by simpa using z
    rw [z'] at ck ⊢
    refine ⟨fun w => ?_, fun w => ?_⟩
    · have : b = true := by simpa using w
      subst this; exact ck
    · subst w; exact ck
  · have q0 : ((1 : Int32) = bi b) = (b = true) := propext ⟨fun w => (bi_1 b).mp w.symm, fun w => ((bi_1 b).mpr w).symm⟩
    simp only [w179_309, w179_311, w179_314, w179_315, w179_318, xk_n, xk_i, xk_r, xk_z, xk_l, xcs_0, xcs_i, xcs_r, xcs_z, xcs_l, Nat.reduceAdd, Nat.reduceLeDiff, Nat.reduceLT, true_and, and_true, Option.toList_some, Option.toList_none, List.nil_append, List.cons_append, List.getElem?_cons_zero, List.getElem?_cons_succ, List.set_cons_zero, List.set_cons_succ, List.length_cons, List.length_nil, y_bool0, y_bool1, not_true_eq_false, not_false_eq_true, false_implies, true_implies, true_or, or_true, false_or, or_false, if_true, if_false, ite_true, ite_false, q0]
    rw [z] at ck ⊢
    refine ⟨fun w => ?_, fun w => ?_⟩
    · have : b = false := by simpa using w
      subst this; exact ck
    · subst w; exact ck
end
