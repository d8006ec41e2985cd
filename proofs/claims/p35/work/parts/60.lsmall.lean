/-! ===== the law's own small ones: cell, some, isPlanted, to ===== -/
/-- a row of ints is read, is written -/
theorem yi {h : xH} {a n k : Nat} {f : Nat → Int32} {i x : Int32} (ha : h[a]? = some (.inl (0, n, .inl f))) (hi : i = Int32.ofNat k) (hk : k < n) (hn : n < 1000) (hx : f k = x) (J : Int32 → Prop) : y_iald h a i J ↔ J x := by
  subst hi hx
  unfold y_iald
  rw [ha]
  show vp_in (Int32.ofNat k) n ∧ J (f (Int32.ofNat k).toNatClampNeg) ↔ _
  rw [n_in (by omega), n_cl (by omega)]
  exact ⟨fun q => q.2, fun q => ⟨hk, q⟩⟩
theorem ys {h : xH} {a n k : Nat} {f : Nat → Int32} {i x : Int32} (ha : h[a]? = some (.inl (0, n, .inl f))) (h2 : 2 ≤ a) (hi : i = Int32.ofNat k) (hk : k < n) (hn : n < 1000) (J : xH → Prop) : y_iast h a i x J ↔ J (h.set a (.inl (0, n, .inl (upd f k x)))) := by
  subst hi
  unfold y_iast
  rw [ha]
  show 2 ≤ a ∧ vp_in (Int32.ofNat k) n ∧ J (h.set a (.inl (0, n, .inl (upd f (Int32.ofNat k).toNatClampNeg x)))) ↔ _
  rw [n_in (by omega), n_cl (by omega)]
  exact ⟨fun q => q.2.2, fun q => ⟨h2, hk, q⟩⟩
theorem upd_at (f : Nat → Int32) (k : Nat) (x : Int32) : upd f k x k = x := if_pos rfl
theorem upd_ne (f : Nat → Int32) {k j : Nat} (x : Int32) (h : j ≠ k) : upd f k x j = f j := if_neg h
section
variable {d : Nat} {h : xH} {K : Option Value → xH → Prop}
theorem wp_cell {L k : Nat} {xs : Nat → Int32} {i : Int32} (h0 : h[0]? = some (.inl (0, L, .inl xs))) (hL : L < 1000) (hi : i = Int32.ofNat k) (hk : k < 1000) (hK : ∀ x, K (some (.int x)) h) : wp d 175 0 [some (.ref 0), some (.int i)] [] h K := by
  subst hi
  have e1 : (Int32.ofNat L ≤ Int32.ofNat k) = (L ≤ k) := propext (n_le (by omega) (by omega))
  simp only [w175_0, w175_1, w175_1n, w175_2, w175_3, w175_6, w175_6n, w175_7, w175_8, w175_9, w175_12, w175_14, w175_15, w175_16, w175_17, w175_18, xk_n, xk_i, xk_r, xk_z, xk_l, xcs_0, xcs_i, xcs_r, xcs_z, xcs_l, Nat.reduceAdd, Nat.reduceLeDiff, Nat.reduceLT, true_and, and_true, Option.toList_some, Option.toList_none, List.nil_append, List.cons_append, List.getElem?_cons_zero, List.getElem?_cons_succ, List.set_cons_zero, List.set_cons_succ, List.length_cons, List.length_nil, y_bool0, y_bool1, not_true_eq_false, not_false_eq_true, false_implies, true_implies, true_or, or_true, false_or, or_false, if_true, if_false, ite_true, ite_false, y_alen, h0, e1]
  refine ⟨fun _ => hK _, fun q => ?_⟩
  simp only [yi h0 rfl (Nat.not_le.mp q) hL rfl, w175_0, w175_1, w175_1n, w175_2, w175_3, w175_6, w175_6n, w175_7, w175_8, w175_9, w175_12, w175_14, w175_15, w175_16, w175_17, w175_18, xk_n, xk_i, xk_r, xk_z, xk_l, xcs_0, xcs_i, xcs_r, xcs_z, xcs_l, Nat.reduceAdd, Nat.reduceLeDiff, Nat.reduceLT, true_and, and_true, Option.toList_some, Option.toList_none, List.nil_append, List.cons_append, List.getElem?_cons_zero, List.getElem?_cons_succ, List.set_cons_zero, List.set_cons_succ, List.length_cons, List.length_nil, y_bool0, y_bool1, not_true_eq_false, not_false_eq_true, false_implies, true_implies, true_or, or_true, false_or, or_false, if_true, if_false, ite_true, ite_false]
  exact hK _
theorem i_abs (v : Int32) : ∃ a, a < 2147483648 ∧ v &&& 2147483647 = Int32.ofNat a := by
  refine ⟨v.toBitVec.toNat % 2147483648, Nat.mod_lt _ (by omega), ?_⟩
  apply i32_of
  rw [Int32.toBitVec_and, BitVec.toNat_and]
  exact Nat.and_two_pow_sub_one_eq_mod _ 31
theorem wp_some {v m : Int32} {n : Nat} (hm : m = Int32.ofNat n) (h0 : 0 < n) (hn : n < 1000) (hK : ∀ a, a < n → K (some (.int (Int32.ofNat a))) h) : wp d 176 0 [some (.int v), some (.int m)] [] h K := by
  subst hm
  obtain ⟨a, ha, e⟩ := i_abs v
  have e1 : (Int32.ofNat n = 0) = False := eq_false (by rw [n_eql (m := 0) (by omega) (by omega)]; omega)
  simp only [w176_0, w176_1, w176_3, w176_4, w176_5, w176_6, xk_n, xk_i, xk_r, xk_z, xk_l, xcs_0, xcs_i, xcs_r, xcs_z, xcs_l, Nat.reduceAdd, Nat.reduceLeDiff, Nat.reduceLT, true_and, and_true, Option.toList_some, Option.toList_none, List.nil_append, List.cons_append, List.getElem?_cons_zero, List.getElem?_cons_succ, List.set_cons_zero, List.set_cons_succ, List.length_cons, List.length_nil, y_bool0, y_bool1, not_true_eq_false, not_false_eq_true, false_implies, true_implies, true_or, or_true, false_or, or_false, if_true, if_false, ite_true, ite_false, e, e1, n_mod ha (show n < 2147483648 by omega)]
  exact hK _ (Nat.mod_lt _ h0)
end
/-- what the law keeps of the garden: how high, wide, its vines (cell 25), signs (26), frosts (27) -/
def LG (h : xH) (s : St) (hi : Nat) : Prop := (1 ≤ hi ∧ hi ≤ 4 ∧ 2 ≤ gw (sE s) ∧ gw (sE s) ≤ 5 ∧ gn (sE s) = hi * gw (sE s) ∧ gv (sE s) ≤ 3) ∧ (∃ f, h[25]? = some (.inl (0, 12, .inl f)) ∧ f 0 = Int32.ofNat hi ∧ f 1 = Int32.ofNat (gw (sE s)) ∧ f 2 = Int32.ofNat (gv (sE s)) ∧ ∀ v, v < gv (sE s) → f (3 + v) = Int32.ofNat (gk (sE s) v) ∧ f (6 + v) = Int32.ofNat (gp (sE s) v) ∧ f (9 + v) = Int32.ofNat (gh (sE s) v)) ∧ (∃ f, h[26]? = some (.inl (0, 20, .inl f)) ∧ ∀ c, c < gn (sE s) → f c = Int32.ofNat (gs (sE s) c)) ∧ ∃ f F, h[27]? = some (.inl (4, 1, .inr (.inl f))) ∧ f 0 = Int64.ofNat F ∧ F < 1073741824 ∧ ∀ d, d < 80 → sFr s d = F.testBit d
/-- its cells -/
def LQ (a : Nat) : Prop := 25 ≤ a ∧ a < 30
def LR (a : Nat) : Prop := 28 ≤ a ∧ a < 30
theorem LG.n20 {h : xH} {s : St} {hi : Nat} (H : LG h s hi) : gn (sE s) ≤ 20 := by
  obtain ⟨⟨a1, a2, a3, a4, a5, -⟩, -⟩ := H
  rw [a5]
  exact Nat.mul_le_mul a2 a4
theorem LG.okW {h : xH} {s : St} {hi : Nat} (H : LG h s hi) : okW (gw (sE s)) (gn (sE s)) := by
  have := H.n20
  obtain ⟨⟨a1, a2, a3, a4, a5, -⟩, -⟩ := H
  exact ⟨a3, by omega, by omega, hi, a5⟩
theorem LG.fr {h h' : xH} {s : St} {hi k m : Nat} {P : Nat → Prop} (H : LG h s hi) (F : FR P k m h h') (h1 : ¬ P 25) (h2 : ¬ P 26) (h3 : ¬ P 27) : LG h' s hi := by
  obtain ⟨a, ⟨f, b1, b2⟩, ⟨w, c1, c2⟩, g, G, d1, d2⟩ := H
  exact ⟨a, ⟨f, F.at b1 h1, b2⟩, ⟨w, F.at c1 h2, c2⟩, g, G, F.at d1 h3, d2⟩
section
variable {d : Nat} {h : xH} {K : Option Value → xH → Prop} {s : St} {hi : Nat}
theorem wp_lip {c : Nat} (H : LG h s hi) (hE : okE (sE s)) (hc : c < 30) : ∀ (j k : Nat), k + j = gv (sE s) → K (some (.int (bi (plF (sE s) c j k)))) h → wp d 178 2 [some (.ref 25), some (.int (Int32.ofNat c)), some (.int (Int32.ofNat k))] [] h K
  | 0, k, hj, hK => by
    obtain ⟨⟨a1, a2, a3, a4, a5, a6⟩, ⟨f, b1, b2, b3, b4, b5⟩, -, -⟩ := H
    have q : Int32.ofNat (gv (sE s)) ≤ Int32.ofNat k := (n_le (by omega) (by omega)).mpr (by omega)
    rw [w178_2]
    simp only [w178_0, w178_1, w178_3, w178_3n, w178_4, w178_5, w178_6, w178_9, w178_9n, w178_10, w178_12, w178_13, w178_14, w178_15, w178_16, w178_19, w178_20, w178_21, w178_24, w178_27, w178_28, xk_n, xk_i, xk_r, xk_z, xk_l, xcs_0, xcs_i, xcs_r, xcs_z, xcs_l, Nat.reduceAdd, Nat.reduceLeDiff, Nat.reduceLT, true_and, and_true, Option.toList_some, Option.toList_none, List.nil_append, List.cons_append, List.getElem?_cons_zero, List.getElem?_cons_succ, List.set_cons_zero, List.set_cons_succ, List.length_cons, List.length_nil, y_bool0, y_bool1, not_true_eq_false, not_false_eq_true, false_implies, true_implies, true_or, or_true, false_or, or_false, if_true, if_false, ite_true, ite_false, yi b1 (i := 2) (k := 2) rfl (by omega) (by omega) b4, q]
    exact hK
  | j + 1, k, hj, hK => by
    have ih := wp_lip H hE hc j (k + 1) (by omega)
    obtain ⟨⟨a1, a2, a3, a4, a5, a6⟩, ⟨f, b1, b2, b3, b4, b5⟩, -, -⟩ := H
    have hk : k < gv (sE s) := by omega
    have hp := (hE.2.2 k hk).2.1
    have hn := hE.1.2.2.1
    have q : (Int32.ofNat (gv (sE s)) ≤ Int32.ofNat k) = False := eq_false (by rw [n_le (by omega) (by omega)]; omega)
    have z8 : Int32.ofNat k + 1 = Int32.ofNat (k + 1) := n_addl k 1
    have e1 : (Int32.ofNat (gp (sE s) k) = Int32.ofNat c) = (gp (sE s) k = c) := propext (n_eq (by omega) (by omega))
    have e2 : plF (sE s) c (j + 1) k = (gp (sE s) k == c || plF (sE s) c j (k + 1)) := rfl
    rw [e2] at hK
    rw [w178_2]
    simp only [w178_0, w178_1, w178_3, w178_3n, w178_4, w178_5, w178_6, w178_9, w178_9n, w178_10, w178_12, w178_13, w178_14, w178_15, w178_16, w178_19, w178_20, w178_21, w178_24, w178_27, w178_28, xk_n, xk_i, xk_r, xk_z, xk_l, xcs_0, xcs_i, xcs_r, xcs_z, xcs_l, Nat.reduceAdd, Nat.reduceLeDiff, Nat.reduceLT, true_and, and_true, Option.toList_some, Option.toList_none, List.nil_append, List.cons_append, List.getElem?_cons_zero, List.getElem?_cons_succ, List.set_cons_zero, List.set_cons_succ, List.length_cons, List.length_nil, y_bool0, y_bool1, not_true_eq_false, not_false_eq_true, false_implies, true_implies, true_or, or_true, false_or, or_false, if_true, if_false, ite_true, ite_false, yi b1 (i := 2) (k := 2) rfl (by omega) (by omega) b4, yi b1 (i := 6 + Int32.ofNat k) (n_ladd k 6) (by omega) (by omega) (b5 k hk).2.1, q, e1, z8]
    refine ⟨fun z => ?_, fun z => ?_⟩
    · refine ih ?_
      rw [show (gp (sE s) k == c) = false by simpa using z, Bool.false_or] at hK
      exact hK
    · rw [show (gp (sE s) k == c) = true by simpa using z, Bool.true_or, bi_t] at hK
      exact hK
theorem wp_lPl {c : Nat} (H : LG h s hi) (hE : okE (sE s)) (hc : c < 30) (hK : K (some (.int (bi (plF (sE s) c (gv (sE s)) 0)))) h) : wp d 178 0 [some (.ref 25), some (.int (Int32.ofNat c)), none] [] h K := by
  simp only [w178_0, w178_1, w178_3, w178_3n, w178_4, w178_5, w178_6, w178_9, w178_9n, w178_10, w178_12, w178_13, w178_14, w178_15, w178_16, w178_19, w178_20, w178_21, w178_24, w178_27, w178_28, xk_n, xk_i, xk_r, xk_z, xk_l, xcs_0, xcs_i, xcs_r, xcs_z, xcs_l, Nat.reduceAdd, Nat.reduceLeDiff, Nat.reduceLT, true_and, and_true, Option.toList_some, Option.toList_none, List.nil_append, List.cons_append, List.getElem?_cons_zero, List.getElem?_cons_succ, List.set_cons_zero, List.set_cons_succ, List.length_cons, List.length_nil, y_bool0, y_bool1, not_true_eq_false, not_false_eq_true, false_implies, true_implies, true_or, or_true, false_or, or_false, if_true, if_false, ite_true, ite_false]
  exact wp_lip H hE hc (gv (sE s)) 0 (by omega) hK
/-- the cell beside a cell, in the law's own words -/
theorem wp_to {c dd : Nat} (H : LG h s hi) (hc : c < gn (sE s)) (hd : dd < 4) (hK : K (some (.int (oC (bes (gw (sE s)) (gn (sE s)) c dd)))) h) : wp d 180 0 [some (.ref 25), some (.int (Int32.ofNat c)), some (.int (Int32.ofNat dd)), none, none] [] h K := by
  have hn := H.n20
  obtain ⟨⟨a1, a2, a3, a4, a5, a6⟩, ⟨f, b1, b2, b3, b4, b5⟩, -, -⟩ := H
  generalize gw (sE s) = w at *
  generalize gn (sE s) = n at *
  have hdm := Nat.div_add_mod c w
  have hm : c % w < w := Nat.mod_lt _ (by omega)
  have hq : c / w < hi := Nat.div_lt_of_lt_mul (by rw [Nat.mul_comm]; omega)
  have hq20 : c / w ≤ c := Nat.div_le_self _ _
  have g1 : (Int32.ofNat w = 0) = False := eq_false (by rw [n_eql (m := 0) (by omega) (by omega)]; omega)
  have g2 := n_mod (a := c) (b := w) (by omega) (by omega)
  have g3 := n_div (a := c) (b := w) (by omega) (by omega)
  rw [g3] at g2
  have z0 : c / w = 0 ↔ c < w := by
    constructor
    · intro q; rcases Nat.lt_or_ge c w with z | z; exact z; have := Nat.div_pos z (by omega); omega
    · exact Nat.div_eq_of_lt
  have hx : c + w < n ↔ c / w + 1 < hi := by
    rw [a5]
    constructor
    · intro z
      have := (Nat.div_lt_iff_lt_mul (show 0 < w by omega)).mpr z
      rw [Nat.add_div_right _ (by omega)] at this
      exact this
    · intro z
      exact (Nat.div_lt_iff_lt_mul (show 0 < w by omega)).mp (show (c + w) / w < hi by rw [Nat.add_div_right _ (by omega)]; exact z)
  have m1 : ∀ u, 0 < u → w * (u - 1) + w = w * u := fun u hu => by
    rw [← Nat.mul_succ]
    congr 1
    omega
  generalize hu : c / w = u at *
  generalize hv : c % w = m at *
  have r0 := fun J => yi b1 (i := 0) (k := 0) rfl (by omega) (by omega) b2 J
  have r1 := fun J => yi b1 (i := 1) (k := 1) rfl (by omega) (by omega) b3 J
  have l1 : (Int32.ofNat (m) < 0) = False := eq_false (n_lt0 (by omega))
  have l2 : (Int32.ofNat (u) < 0) = False := eq_false (n_lt0 (by omega))
  have l3 : (Int32.ofNat w ≤ Int32.ofNat (m)) = False := eq_false (by rw [n_le (by omega) (by omega)]; omega)
  have l4 : (Int32.ofNat (u) < Int32.ofNat hi) = True := eq_true (by rw [n_lt (by omega) (by omega)]; omega)
  have p0 : ∀ a, Int32.ofNat a + 0 = Int32.ofNat a := fun a => by rw [n_addl]; rfl
  have p1 : ∀ a, Int32.ofNat a + 1 = Int32.ofNat (a + 1) := fun a => n_addl a 1
  have fin : ∀ x y : Nat, Int32.ofNat w * Int32.ofNat y + Int32.ofNat x = Int32.ofNat (w * y + x) := fun x y => by rw [n_mul, n_add]
  rcases (show dd = 0 ∨ dd = 1 ∨ dd = 2 ∨ dd = 3 by omega) with rfl | rfl | rfl | rfl
  · have k1 : (Int32.ofNat 0 = 1) = False := eq_false (by decide)
    have k2 : (Int32.ofNat 0 = 3) = False := eq_false (by decide)
    have k3 : (Int32.ofNat 0 = 2) = False := eq_false (by decide)
    have k4 : (Int32.ofNat 0 = 0) = True := eq_true rfl
    simp only [w180_0, w180_1, w180_1n, w180_2, w180_3, w180_4, w180_5, w180_6, w180_7, w180_10, w180_11, w180_14, w180_15, w180_16, w180_19, w180_20, w180_23, w180_24, w180_25, w180_26, w180_27, w180_27n, w180_28, w180_29, w180_30, w180_31, w180_32, w180_33, w180_36, w180_37, w180_40, w180_41, w180_44, w180_45, w180_48, w180_49, w180_50, w180_52, w180_53, w180_56, w180_58, w180_61, w180_62, w180_62n, w180_63, w180_64, w180_65, w180_68, w180_70, w180_70n, w180_71, w180_72, w180_73, w180_76, w180_78, w180_81, w180_81n, w180_82, w180_83, w180_84, w180_86, w180_87, w180_88, w180_89, xk_n, xk_i, xk_r, xk_z, xk_l, xcs_0, xcs_i, xcs_r, xcs_z, xcs_l, Nat.reduceAdd, Nat.reduceLeDiff, Nat.reduceLT, true_and, and_true, Option.toList_some, Option.toList_none, List.nil_append, List.cons_append, List.getElem?_cons_zero, List.getElem?_cons_succ, List.set_cons_zero, List.set_cons_succ, List.length_cons, List.length_nil, y_bool0, y_bool1, not_true_eq_false, not_false_eq_true, false_implies, true_implies, true_or, or_true, false_or, or_false, if_true, if_false, ite_true, ite_false, r0, r1, g1, g2, g3, k1, k2, k3, k4, p0, l1, l3]
    by_cases z : u = 0
    · have e : bes w n c 0 = none := if_neg (by have := z0.mp z; omega)
      rw [e] at hK
      have q : (Int32.ofNat (u) + -1 < 0) = True := by rw [z]; exact eq_true (by decide)
      simp only [q, xk_n, xk_i, xk_r, xk_z, xk_l, xcs_0, xcs_i, xcs_r, xcs_z, xcs_l, Nat.reduceAdd, Nat.reduceLeDiff, Nat.reduceLT, true_and, and_true, Option.toList_some, Option.toList_none, List.nil_append, List.cons_append, List.getElem?_cons_zero, List.getElem?_cons_succ, List.set_cons_zero, List.set_cons_succ, List.length_cons, List.length_nil, y_bool0, y_bool1, not_true_eq_false, not_false_eq_true, false_implies, true_implies, true_or, or_true, false_or, or_false, if_true, if_false, ite_true, ite_false]
      exact hK
    · have e : bes w n c 0 = some (c - w) := if_pos (by have := fun q => z (z0.mpr q); omega)
      rw [e] at hK
      have q1 : Int32.ofNat (u) + -1 = Int32.ofNat (u - 1) := n_addm1 (by omega)
      have q : (Int32.ofNat (u - 1) < 0) = False := eq_false (n_lt0 (by omega))
      have q2 : (Int32.ofNat (u - 1) < Int32.ofNat hi) = True := eq_true (by rw [n_lt (by omega) (by omega)]; omega)
      simp only [q1, q, q2, xk_n, xk_i, xk_r, xk_z, xk_l, xcs_0, xcs_i, xcs_r, xcs_z, xcs_l, Nat.reduceAdd, Nat.reduceLeDiff, Nat.reduceLT, true_and, and_true, Option.toList_some, Option.toList_none, List.nil_append, List.cons_append, List.getElem?_cons_zero, List.getElem?_cons_succ, List.set_cons_zero, List.set_cons_succ, List.length_cons, List.length_nil, y_bool0, y_bool1, not_true_eq_false, not_false_eq_true, false_implies, true_implies, true_or, or_true, false_or, or_false, if_true, if_false, ite_true, ite_false, w180_0, w180_1, w180_1n, w180_2, w180_3, w180_4, w180_5, w180_6, w180_7, w180_10, w180_11, w180_14, w180_15, w180_16, w180_19, w180_20, w180_23, w180_24, w180_25, w180_26, w180_27, w180_27n, w180_28, w180_29, w180_30, w180_31, w180_32, w180_33, w180_36, w180_37, w180_40, w180_41, w180_44, w180_45, w180_48, w180_49, w180_50, w180_52, w180_53, w180_56, w180_58, w180_61, w180_62, w180_62n, w180_63, w180_64, w180_65, w180_68, w180_70, w180_70n, w180_71, w180_72, w180_73, w180_76, w180_78, w180_81, w180_81n, w180_82, w180_83, w180_84, w180_86, w180_87, w180_88, w180_89, r0, r1, l3, fin]
      have e2 : w * (u - 1) + m = c - w := by have := m1 u (by omega); omega
      rw [e2]
      exact hK
  · have k1 : (Int32.ofNat 1 = 1) = True := eq_true rfl
    have k3 : (Int32.ofNat 1 = 2) = False := eq_false (by decide)
    have k4 : (Int32.ofNat 1 = 0) = False := eq_false (by decide)
    have l0 : (Int32.ofNat (m + 1) < 0) = False := eq_false (n_lt0 (by omega))
    have l5 : (Int32.ofNat w ≤ Int32.ofNat (m + 1)) = (w ≤ m + 1) := propext (n_le (by omega) (by omega))
    simp only [w180_0, w180_1, w180_1n, w180_2, w180_3, w180_4, w180_5, w180_6, w180_7, w180_10, w180_11, w180_14, w180_15, w180_16, w180_19, w180_20, w180_23, w180_24, w180_25, w180_26, w180_27, w180_27n, w180_28, w180_29, w180_30, w180_31, w180_32, w180_33, w180_36, w180_37, w180_40, w180_41, w180_44, w180_45, w180_48, w180_49, w180_50, w180_52, w180_53, w180_56, w180_58, w180_61, w180_62, w180_62n, w180_63, w180_64, w180_65, w180_68, w180_70, w180_70n, w180_71, w180_72, w180_73, w180_76, w180_78, w180_81, w180_81n, w180_82, w180_83, w180_84, w180_86, w180_87, w180_88, w180_89, xk_n, xk_i, xk_r, xk_z, xk_l, xcs_0, xcs_i, xcs_r, xcs_z, xcs_l, Nat.reduceAdd, Nat.reduceLeDiff, Nat.reduceLT, true_and, and_true, Option.toList_some, Option.toList_none, List.nil_append, List.cons_append, List.getElem?_cons_zero, List.getElem?_cons_succ, List.set_cons_zero, List.set_cons_succ, List.length_cons, List.length_nil, y_bool0, y_bool1, not_true_eq_false, not_false_eq_true, false_implies, true_implies, true_or, or_true, false_or, or_false, if_true, if_false, ite_true, ite_false, r0, r1, g1, g2, g3, k1, k3, k4, p0, p1, l0, l2, l4, l5, fin]
    refine ⟨fun z => ?_, fun z => ?_⟩
    · have e : bes w n c 1 = none := if_neg (by omega)
      rw [e] at hK
      exact hK
    · have e : bes w n c 1 = some (c + 1) := if_pos (by omega)
      rw [e] at hK
      rw [show w * (u) + (m + 1) = c + 1 by omega]
      exact hK
  · have k1 : (Int32.ofNat 2 = 1) = False := eq_false (by decide)
    have k2 : (Int32.ofNat 2 = 3) = False := eq_false (by decide)
    have k3 : (Int32.ofNat 2 = 2) = True := eq_true rfl
    have l0 : (Int32.ofNat (u + 1) < 0) = False := eq_false (n_lt0 (by omega))
    have l5 : (Int32.ofNat (u + 1) < Int32.ofNat hi) = (u + 1 < hi) := propext (n_lt (by omega) (by omega))
    simp only [w180_0, w180_1, w180_1n, w180_2, w180_3, w180_4, w180_5, w180_6, w180_7, w180_10, w180_11, w180_14, w180_15, w180_16, w180_19, w180_20, w180_23, w180_24, w180_25, w180_26, w180_27, w180_27n, w180_28, w180_29, w180_30, w180_31, w180_32, w180_33, w180_36, w180_37, w180_40, w180_41, w180_44, w180_45, w180_48, w180_49, w180_50, w180_52, w180_53, w180_56, w180_58, w180_61, w180_62, w180_62n, w180_63, w180_64, w180_65, w180_68, w180_70, w180_70n, w180_71, w180_72, w180_73, w180_76, w180_78, w180_81, w180_81n, w180_82, w180_83, w180_84, w180_86, w180_87, w180_88, w180_89, xk_n, xk_i, xk_r, xk_z, xk_l, xcs_0, xcs_i, xcs_r, xcs_z, xcs_l, Nat.reduceAdd, Nat.reduceLeDiff, Nat.reduceLT, true_and, and_true, Option.toList_some, Option.toList_none, List.nil_append, List.cons_append, List.getElem?_cons_zero, List.getElem?_cons_succ, List.set_cons_zero, List.set_cons_succ, List.length_cons, List.length_nil, y_bool0, y_bool1, not_true_eq_false, not_false_eq_true, false_implies, true_implies, true_or, or_true, false_or, or_false, if_true, if_false, ite_true, ite_false, r0, r1, g1, g2, g3, k1, k2, k3, p0, p1, l0, l1, l3, l5, fin]
    refine ⟨fun z => ?_, fun z => ?_⟩
    · have e : bes w n c 2 = some (c + w) := if_pos (hx.mpr z)
      rw [e] at hK
      rw [show w * (u + 1) + m = c + w by rw [Nat.mul_add, Nat.mul_one]; omega]
      exact hK
    · have e : bes w n c 2 = none := if_neg (fun q => z (hx.mp q))
      rw [e] at hK
      exact hK
  · have k1 : (Int32.ofNat 3 = 1) = False := eq_false (by decide)
    have k2 : (Int32.ofNat 3 = 3) = True := eq_true rfl
    have k3 : (Int32.ofNat 3 = 2) = False := eq_false (by decide)
    have k4 : (Int32.ofNat 3 = 0) = False := eq_false (by decide)
    simp only [w180_0, w180_1, w180_1n, w180_2, w180_3, w180_4, w180_5, w180_6, w180_7, w180_10, w180_11, w180_14, w180_15, w180_16, w180_19, w180_20, w180_23, w180_24, w180_25, w180_26, w180_27, w180_27n, w180_28, w180_29, w180_30, w180_31, w180_32, w180_33, w180_36, w180_37, w180_40, w180_41, w180_44, w180_45, w180_48, w180_49, w180_50, w180_52, w180_53, w180_56, w180_58, w180_61, w180_62, w180_62n, w180_63, w180_64, w180_65, w180_68, w180_70, w180_70n, w180_71, w180_72, w180_73, w180_76, w180_78, w180_81, w180_81n, w180_82, w180_83, w180_84, w180_86, w180_87, w180_88, w180_89, xk_n, xk_i, xk_r, xk_z, xk_l, xcs_0, xcs_i, xcs_r, xcs_z, xcs_l, Nat.reduceAdd, Nat.reduceLeDiff, Nat.reduceLT, true_and, and_true, Option.toList_some, Option.toList_none, List.nil_append, List.cons_append, List.getElem?_cons_zero, List.getElem?_cons_succ, List.set_cons_zero, List.set_cons_succ, List.length_cons, List.length_nil, y_bool0, y_bool1, not_true_eq_false, not_false_eq_true, false_implies, true_implies, true_or, or_true, false_or, or_false, if_true, if_false, ite_true, ite_false, r0, r1, g1, g2, g3, k1, k2, k3, k4, p0, l2, l4]
    by_cases z : m = 0
    · have e : bes w n c 3 = none := if_neg (by omega)
      rw [e] at hK
      have q : (Int32.ofNat (m) + -1 < 0) = True := by rw [z]; exact eq_true (by decide)
      simp only [q, xk_n, xk_i, xk_r, xk_z, xk_l, xcs_0, xcs_i, xcs_r, xcs_z, xcs_l, Nat.reduceAdd, Nat.reduceLeDiff, Nat.reduceLT, true_and, and_true, Option.toList_some, Option.toList_none, List.nil_append, List.cons_append, List.getElem?_cons_zero, List.getElem?_cons_succ, List.set_cons_zero, List.set_cons_succ, List.length_cons, List.length_nil, y_bool0, y_bool1, not_true_eq_false, not_false_eq_true, false_implies, true_implies, true_or, or_true, false_or, or_false, if_true, if_false, ite_true, ite_false]
      exact hK
    · have e : bes w n c 3 = some (c - 1) := if_pos (by omega)
      rw [e] at hK
      have q1 : Int32.ofNat (m) + -1 = Int32.ofNat (m - 1) := n_addm1 (by omega)
      have q : (Int32.ofNat (m - 1) < 0) = False := eq_false (n_lt0 (by omega))
      have q2 : (Int32.ofNat w ≤ Int32.ofNat (m - 1)) = False := eq_false (by rw [n_le (by omega) (by omega)]; omega)
      simp only [q1, q, q2, xk_n, xk_i, xk_r, xk_z, xk_l, xcs_0, xcs_i, xcs_r, xcs_z, xcs_l, Nat.reduceAdd, Nat.reduceLeDiff, Nat.reduceLT, true_and, and_true, Option.toList_some, Option.toList_none, List.nil_append, List.cons_append, List.getElem?_cons_zero, List.getElem?_cons_succ, List.set_cons_zero, List.set_cons_succ, List.length_cons, List.length_nil, y_bool0, y_bool1, not_true_eq_false, not_false_eq_true, false_implies, true_implies, true_or, or_true, false_or, or_false, if_true, if_false, ite_true, ite_false, w180_0, w180_1, w180_1n, w180_2, w180_3, w180_4, w180_5, w180_6, w180_7, w180_10, w180_11, w180_14, w180_15, w180_16, w180_19, w180_20, w180_23, w180_24, w180_25, w180_26, w180_27, w180_27n, w180_28, w180_29, w180_30, w180_31, w180_32, w180_33, w180_36, w180_37, w180_40, w180_41, w180_44, w180_45, w180_48, w180_49, w180_50, w180_52, w180_53, w180_56, w180_58, w180_61, w180_62, w180_62n, w180_63, w180_64, w180_65, w180_68, w180_70, w180_70n, w180_71, w180_72, w180_73, w180_76, w180_78, w180_81, w180_81n, w180_82, w180_83, w180_84, w180_86, w180_87, w180_88, w180_89, r0, r1, l2, l4, fin]
      rw [show w * (u) + (m - 1) = c - 1 by omega]
      exact hK
end
