/-! ===== the model: how a vine feels its way ===== -/
section
variable {d : Nat} {h : xH} {K : Option Value → xH → Prop} {fa tr p rH rW nr nv : Int32} {A : Nat → Nat → Int32}
theorem wp_mbes {hi w n c dd : Nat} (H : MH h fa tr (Int32.ofNat hi) (Int32.ofNat w) nv p rH rW nr A) (hw : okW w n) (hn : n = hi * w) (hc : c < n) (hd : dd < 4) : wp d 113 0 [some (.ref 25), some (.int (Int32.ofNat c)), some (.int (Int32.ofNat dd)), none, none] [] h K ↔ K (some (.int (oC (bes w n c dd)))) h := by
  obtain ⟨w2, w6, n30, _, _⟩ := hw
  have hm : c % w < w := Nat.mod_lt _ (by omega)
  have hh1 : 1 ≤ hi := by
    rcases Nat.eq_zero_or_pos hi with z | z
    · subst z; rw [Nat.zero_mul] at hn; omega
    · exact z
  have hh30 : hi ≤ 30 := by
    have : hi * 2 ≤ hi * w := Nat.mul_le_mul_left _ w2
    omega
  have hcw : c / w ≤ c := Nat.div_le_self _ _
  have z2 : (Int32.ofNat w = 0) = False := eq_false (by have := n_eql (a := w) (m := 0) (by omega) (by omega); rw [this]; omega)
  have z1 := n_div (a := c) (b := w) (by omega) (by omega)
  have z3 := n_mod (a := c) (b := w) (by omega) (by omega)
  rw [z1] at z3
  have z4 : (Int32.ofNat dd).toInt = dd := n_toInt (by omega)
  have e0 : (Int32.ofNat (c / w) ≤ 0) = ¬ (w ≤ c) := by
    have := n_lel (a := c / w) (m := 0) (by omega) (by omega)
    rw [this]
    refine propext ⟨fun z y => ?_, fun z => ?_⟩
    · have : 0 < c / w := Nat.div_pos y (by omega)
      omega
    · rw [Nat.div_eq_of_lt (by omega)]; exact Nat.le_refl _
  have f1 : Int32.ofNat w - 1 = Int32.ofNat (w - 1) := n_subl (m := 1) (by omega)
  have e1 : (Int32.ofNat (w - 1) ≤ Int32.ofNat (c % w)) = ¬ (c % w + 1 < w) := by rw [n_le (by omega) (by omega)]; exact propext (by omega)
  have f2 : Int32.ofNat hi - 1 = Int32.ofNat (hi - 1) := n_subl (m := 1) (by omega)
  have e2 : (Int32.ofNat (hi - 1) ≤ Int32.ofNat (c / w)) = ¬ (c + w < n) := by
    rw [n_le (by omega) (by omega)]
    have k1 : (c + w) / w = c / w + 1 := Nat.add_div_right c (by omega)
    have k2 : (c + w) / w < hi ↔ c + w < hi * w := Nat.div_lt_iff_lt_mul (by omega)
    rw [k1, ← hn] at k2
    exact propext ⟨fun z y => by have := k2.mpr y; omega, fun z => by
      by_cases y : c / w + 1 < hi
      · exact absurd (k2.mp y) z
      · omega⟩
  have e3 : (Int32.ofNat (c % w) ≤ 0) = ¬ (0 < c % w) := by have := n_lel (a := c % w) (m := 0) (by omega) (by omega); rw [this]; exact propext (by omega)
  have g1 : Int32.ofNat c + 1 = Int32.ofNat (c + 1) := n_addl _ 1
  have g2 : Int32.ofNat c + Int32.ofNat w = Int32.ofNat (c + w) := n_add _ _
  match dd, hd with
  | 0, _ =>
    have y0 : ((Int32.ofNat 0).toInt < 0 ∨ 2 < (Int32.ofNat 0).toInt) = False := eq_false (by decide)
    have y1 : ((Int32.ofNat 0).toInt = 0) = True := eq_true (by decide)
    have y2 : ((Int32.ofNat 0).toInt = 1) = False := eq_false (by decide)
    have y3 : ((Int32.ofNat 0).toInt = 2) = False := eq_false (by decide)
    simp only [y0, y1, y2, y3, w113_0, w113_1, w113_1n, w113_2, w113_5, w113_6, w113_7, w113_8, w113_8n, w113_9, w113_12, w113_13, w113_15, w113_16, w113_44, w113_45, w113_48, w113_49, w113_49n, w113_50, w113_53, w113_54, w113_57, w113_59, w113_60, w113_62, w113_62n, w113_63, w113_66, w113_67, w113_68, w113_71, w113_72, w113_73, w113_74, w113_77, w113_79, w113_80, w113_81, w113_81n, w113_82, w113_85, w113_86, w113_87, w113_90, w113_91, w113_91n, w113_92, w113_95, w113_96, w113_99, w113_101, w113_102, w113_104, w113_107, w113_108, w113_109, w113_110, w113_113, w113_115, xk_n, xk_i, xk_r, xk_z, xk_l, xcs_0, xcs_i, xcs_r, xcs_z, xcs_l, Nat.reduceAdd, Nat.reduceLeDiff, Nat.reduceLT, true_and, and_true, Option.toList_some, Option.toList_none, List.nil_append, List.cons_append, List.getElem?_cons_zero, List.getElem?_cons_succ, List.set_cons_zero, List.set_cons_succ, List.length_cons, List.length_nil, y_bool0, y_bool1, not_true_eq_false, not_false_eq_true, false_implies, true_implies, true_or, or_true, false_or, or_false, if_true, if_false, ite_true, ite_false, y_get, H.o, z1, z2, z3, e0]
    by_cases q : w ≤ c
    · have : Int32.ofNat c - Int32.ofNat w = Int32.ofNat (c - w) := n_sub q
      have b : bes w n c 0 = some (c - w) := if_pos q
      simp only [q, xk_n, xk_i, xk_r, xk_z, xk_l, xcs_0, xcs_i, xcs_r, xcs_z, xcs_l, Nat.reduceAdd, Nat.reduceLeDiff, Nat.reduceLT, true_and, and_true, Option.toList_some, Option.toList_none, List.nil_append, List.cons_append, List.getElem?_cons_zero, List.getElem?_cons_succ, List.set_cons_zero, List.set_cons_succ, List.length_cons, List.length_nil, y_bool0, y_bool1, not_true_eq_false, not_false_eq_true, false_implies, true_implies, true_or, or_true, false_or, or_false, if_true, if_false, ite_true, ite_false, b, oC, this]
    · have b : bes w n c 0 = none := if_neg q
      simp only [q, xk_n, xk_i, xk_r, xk_z, xk_l, xcs_0, xcs_i, xcs_r, xcs_z, xcs_l, Nat.reduceAdd, Nat.reduceLeDiff, Nat.reduceLT, true_and, and_true, Option.toList_some, Option.toList_none, List.nil_append, List.cons_append, List.getElem?_cons_zero, List.getElem?_cons_succ, List.set_cons_zero, List.set_cons_succ, List.length_cons, List.length_nil, y_bool0, y_bool1, not_true_eq_false, not_false_eq_true, false_implies, true_implies, true_or, or_true, false_or, or_false, if_true, if_false, ite_true, ite_false, b, oC]
  | 1, _ =>
    have y0 : ((Int32.ofNat 1).toInt < 0 ∨ 2 < (Int32.ofNat 1).toInt) = False := eq_false (by decide)
    have y1 : ((Int32.ofNat 1).toInt = 0) = False := eq_false (by decide)
    have y2 : ((Int32.ofNat 1).toInt = 1) = True := eq_true (by decide)
    have y3 : ((Int32.ofNat 1).toInt = 2) = False := eq_false (by decide)
    simp only [y0, y1, y2, y3, w113_0, w113_1, w113_1n, w113_2, w113_5, w113_6, w113_7, w113_8, w113_8n, w113_9, w113_12, w113_13, w113_15, w113_16, w113_44, w113_45, w113_48, w113_49, w113_49n, w113_50, w113_53, w113_54, w113_57, w113_59, w113_60, w113_62, w113_62n, w113_63, w113_66, w113_67, w113_68, w113_71, w113_72, w113_73, w113_74, w113_77, w113_79, w113_80, w113_81, w113_81n, w113_82, w113_85, w113_86, w113_87, w113_90, w113_91, w113_91n, w113_92, w113_95, w113_96, w113_99, w113_101, w113_102, w113_104, w113_107, w113_108, w113_109, w113_110, w113_113, w113_115, xk_n, xk_i, xk_r, xk_z, xk_l, xcs_0, xcs_i, xcs_r, xcs_z, xcs_l, Nat.reduceAdd, Nat.reduceLeDiff, Nat.reduceLT, true_and, and_true, Option.toList_some, Option.toList_none, List.nil_append, List.cons_append, List.getElem?_cons_zero, List.getElem?_cons_succ, List.set_cons_zero, List.set_cons_succ, List.length_cons, List.length_nil, y_bool0, y_bool1, not_true_eq_false, not_false_eq_true, false_implies, true_implies, true_or, or_true, false_or, or_false, if_true, if_false, ite_true, ite_false, y_get, H.o, z1, z2, z3, f1, e1, g1]
    by_cases q : c % w + 1 < w
    · have b : bes w n c 1 = some (c + 1) := if_pos q
      simp only [q, xk_n, xk_i, xk_r, xk_z, xk_l, xcs_0, xcs_i, xcs_r, xcs_z, xcs_l, Nat.reduceAdd, Nat.reduceLeDiff, Nat.reduceLT, true_and, and_true, Option.toList_some, Option.toList_none, List.nil_append, List.cons_append, List.getElem?_cons_zero, List.getElem?_cons_succ, List.set_cons_zero, List.set_cons_succ, List.length_cons, List.length_nil, y_bool0, y_bool1, not_true_eq_false, not_false_eq_true, false_implies, true_implies, true_or, or_true, false_or, or_false, if_true, if_false, ite_true, ite_false, b, oC]
    · have b : bes w n c 1 = none := if_neg q
      simp only [q, xk_n, xk_i, xk_r, xk_z, xk_l, xcs_0, xcs_i, xcs_r, xcs_z, xcs_l, Nat.reduceAdd, Nat.reduceLeDiff, Nat.reduceLT, true_and, and_true, Option.toList_some, Option.toList_none, List.nil_append, List.cons_append, List.getElem?_cons_zero, List.getElem?_cons_succ, List.set_cons_zero, List.set_cons_succ, List.length_cons, List.length_nil, y_bool0, y_bool1, not_true_eq_false, not_false_eq_true, false_implies, true_implies, true_or, or_true, false_or, or_false, if_true, if_false, ite_true, ite_false, b, oC]
  | 2, _ =>
    have y0 : ((Int32.ofNat 2).toInt < 0 ∨ 2 < (Int32.ofNat 2).toInt) = False := eq_false (by decide)
    have y1 : ((Int32.ofNat 2).toInt = 0) = False := eq_false (by decide)
    have y2 : ((Int32.ofNat 2).toInt = 1) = False := eq_false (by decide)
    have y3 : ((Int32.ofNat 2).toInt = 2) = True := eq_true (by decide)
    simp only [y0, y1, y2, y3, w113_0, w113_1, w113_1n, w113_2, w113_5, w113_6, w113_7, w113_8, w113_8n, w113_9, w113_12, w113_13, w113_15, w113_16, w113_44, w113_45, w113_48, w113_49, w113_49n, w113_50, w113_53, w113_54, w113_57, w113_59, w113_60, w113_62, w113_62n, w113_63, w113_66, w113_67, w113_68, w113_71, w113_72, w113_73, w113_74, w113_77, w113_79, w113_80, w113_81, w113_81n, w113_82, w113_85, w113_86, w113_87, w113_90, w113_91, w113_91n, w113_92, w113_95, w113_96, w113_99, w113_101, w113_102, w113_104, w113_107, w113_108, w113_109, w113_110, w113_113, w113_115, xk_n, xk_i, xk_r, xk_z, xk_l, xcs_0, xcs_i, xcs_r, xcs_z, xcs_l, Nat.reduceAdd, Nat.reduceLeDiff, Nat.reduceLT, true_and, and_true, Option.toList_some, Option.toList_none, List.nil_append, List.cons_append, List.getElem?_cons_zero, List.getElem?_cons_succ, List.set_cons_zero, List.set_cons_succ, List.length_cons, List.length_nil, y_bool0, y_bool1, not_true_eq_false, not_false_eq_true, false_implies, true_implies, true_or, or_true, false_or, or_false, if_true, if_false, ite_true, ite_false, y_get, H.o, z1, z2, z3, f2, e2, g2]
    by_cases q : c + w < n
    · have b : bes w n c 2 = some (c + w) := if_pos q
      simp only [q, xk_n, xk_i, xk_r, xk_z, xk_l, xcs_0, xcs_i, xcs_r, xcs_z, xcs_l, Nat.reduceAdd, Nat.reduceLeDiff, Nat.reduceLT, true_and, and_true, Option.toList_some, Option.toList_none, List.nil_append, List.cons_append, List.getElem?_cons_zero, List.getElem?_cons_succ, List.set_cons_zero, List.set_cons_succ, List.length_cons, List.length_nil, y_bool0, y_bool1, not_true_eq_false, not_false_eq_true, false_implies, true_implies, true_or, or_true, false_or, or_false, if_true, if_false, ite_true, ite_false, b, oC]
    · have b : bes w n c 2 = none := if_neg q
      simp only [q, xk_n, xk_i, xk_r, xk_z, xk_l, xcs_0, xcs_i, xcs_r, xcs_z, xcs_l, Nat.reduceAdd, Nat.reduceLeDiff, Nat.reduceLT, true_and, and_true, Option.toList_some, Option.toList_none, List.nil_append, List.cons_append, List.getElem?_cons_zero, List.getElem?_cons_succ, List.set_cons_zero, List.set_cons_succ, List.length_cons, List.length_nil, y_bool0, y_bool1, not_true_eq_false, not_false_eq_true, false_implies, true_implies, true_or, or_true, false_or, or_false, if_true, if_false, ite_true, ite_false, b, oC]
  | 3, _ =>
    have y0 : ((Int32.ofNat 3).toInt < 0 ∨ 2 < (Int32.ofNat 3).toInt) = True := eq_true (by decide)
    have y1 : ((Int32.ofNat 3).toInt = 0) = False := eq_false (by decide)
    have y2 : ((Int32.ofNat 3).toInt = 1) = False := eq_false (by decide)
    have y3 : ((Int32.ofNat 3).toInt = 2) = False := eq_false (by decide)
    simp only [y0, y1, y2, y3, w113_0, w113_1, w113_1n, w113_2, w113_5, w113_6, w113_7, w113_8, w113_8n, w113_9, w113_12, w113_13, w113_15, w113_16, w113_44, w113_45, w113_48, w113_49, w113_49n, w113_50, w113_53, w113_54, w113_57, w113_59, w113_60, w113_62, w113_62n, w113_63, w113_66, w113_67, w113_68, w113_71, w113_72, w113_73, w113_74, w113_77, w113_79, w113_80, w113_81, w113_81n, w113_82, w113_85, w113_86, w113_87, w113_90, w113_91, w113_91n, w113_92, w113_95, w113_96, w113_99, w113_101, w113_102, w113_104, w113_107, w113_108, w113_109, w113_110, w113_113, w113_115, xk_n, xk_i, xk_r, xk_z, xk_l, xcs_0, xcs_i, xcs_r, xcs_z, xcs_l, Nat.reduceAdd, Nat.reduceLeDiff, Nat.reduceLT, true_and, and_true, Option.toList_some, Option.toList_none, List.nil_append, List.cons_append, List.getElem?_cons_zero, List.getElem?_cons_succ, List.set_cons_zero, List.set_cons_succ, List.length_cons, List.length_nil, y_bool0, y_bool1, not_true_eq_false, not_false_eq_true, false_implies, true_implies, true_or, or_true, false_or, or_false, if_true, if_false, ite_true, ite_false, y_get, H.o, z1, z2, z3, e3]
    by_cases q : 0 < c % w
    · have z9 : Int32.ofNat c - 1 = Int32.ofNat (c - 1) := n_subl (m := 1) (by have := Nat.mod_le c w; omega)
      have b : bes w n c 3 = some (c - 1) := if_pos q
      simp only [q, xk_n, xk_i, xk_r, xk_z, xk_l, xcs_0, xcs_i, xcs_r, xcs_z, xcs_l, Nat.reduceAdd, Nat.reduceLeDiff, Nat.reduceLT, true_and, and_true, Option.toList_some, Option.toList_none, List.nil_append, List.cons_append, List.getElem?_cons_zero, List.getElem?_cons_succ, List.set_cons_zero, List.set_cons_succ, List.length_cons, List.length_nil, y_bool0, y_bool1, not_true_eq_false, not_false_eq_true, false_implies, true_implies, true_or, or_true, false_or, or_false, if_true, if_false, ite_true, ite_false, b, oC, z9]
    · have b : bes w n c 3 = none := if_neg q
      simp only [q, xk_n, xk_i, xk_r, xk_z, xk_l, xcs_0, xcs_i, xcs_r, xcs_z, xcs_l, Nat.reduceAdd, Nat.reduceLeDiff, Nat.reduceLT, true_and, and_true, Option.toList_some, Option.toList_none, List.nil_append, List.cons_append, List.getElem?_cons_zero, List.getElem?_cons_succ, List.set_cons_zero, List.set_cons_succ, List.length_cons, List.length_nil, y_bool0, y_bool1, not_true_eq_false, not_false_eq_true, false_implies, true_implies, true_or, or_true, false_or, or_false, if_true, if_false, ite_true, ite_false, b, oC]
end
/-- a vine as the model has it -/
def RV (E : Gd) (A : Nat → Nat → Int32) (v : Nat) (x : Vs) : Prop := A 9 v = Int32.ofNat (vt x) ∧ A 10 v = Int32.ofNat (vh x) ∧ A 11 v = Int32.ofNat (vl x) ∧ A 12 v = Int32.ofNat (vd x) ∧ A 13 v = oC (vo x) ∧ A 14 v = oC (vx x) ∧ ∀ c, (vl x).testBit c = true → c ≠ gp E v → ∃ c', bes (gw E) (gn E) c ((vc x / 4 ^ c + 2) % 4) = some c' ∧ A 15 (30 * v + c) = Int32.ofNat c'
def RG (E : Gd) (A : Nat → Nat → Int32) (D : Nat → Vs) : Prop := ∀ v, v < gv E → RV E A v (D v)
/-- the model with a garden E, its vines as they are -/
def ME (h : xH) (E : Gd) (fr : Nat → Bool) (fa tr p rH rW nr : Int32) (A : Nat → Nat → Int32) : Prop := ∃ hi, gn E = hi * gw E ∧ MH h fa tr (Int32.ofNat hi) (Int32.ofNat (gw E)) (Int32.ofNat (gv E)) p rH rW nr A ∧ GA E fr A ∧ okE E ∧ ∀ c, c < gn E → gs E c < 4
section
variable {d : Nat} {h : xH} {K : Option Value → xH → Prop} {fa tr p rH rW nr nv : Int32} {A : Nat → Nat → Int32} {hi : Nat} {E : Gd} {fr : Nat → Bool} {D : Nat → Vs}
theorem wp_mfl {c : Nat} (H : MH h fa tr (Int32.ofNat hi) (Int32.ofNat (gw E)) (Int32.ofNat (gv E)) p rH rW nr A) (hE : okE E) (hG : okG E D) (R : RG E A D) (hc : c < gn E) : ∀ (j k : Nat), k + j = gv E → (∀ v, v < k → (vl (D v)).testBit c = false) → (wp d 114 20 [some (.ref 25), some (.int (Int32.ofNat c)), some (.int (Int32.ofNat k))] [] h K ↔ K (some (.int (bi (!(allL D (gv E)).testBit c)))) h)
  | 0, k, hk, hz => by
    have hv3 := hE.2.1
    have e2 : Int32.ofNat (gv E) ≤ Int32.ofNat k := (n_le (by omega) (by omega)).mpr (by omega)
    have : (allL D (gv E)).testBit c = false := by
      cases q : (allL D (gv E)).testBit c
      · rfl
      · obtain ⟨v, h1, h2⟩ := allL_bit.mp q
        rw [hz v (by omega)] at h2
        cases h2
    rw [w114_20]
    simp only [w114_0, w114_1, w114_3, w114_6, w114_6n, w114_7, w114_10, w114_11, w114_12, w114_13, w114_16, w114_17, w114_18, w114_19, w114_21, w114_21n, w114_22, w114_25, w114_28, w114_28n, w114_29, w114_32, w114_33, w114_34, w114_35, w114_36, w114_37, w114_38, w114_39, w114_42, w114_43, w114_44, w114_47, w114_50, w114_51, xk_n, xk_i, xk_r, xk_z, xk_l, xcs_0, xcs_i, xcs_r, xcs_z, xcs_l, Nat.reduceAdd, Nat.reduceLeDiff, Nat.reduceLT, true_and, and_true, Option.toList_some, Option.toList_none, List.nil_append, List.cons_append, List.getElem?_cons_zero, List.getElem?_cons_succ, List.set_cons_zero, List.set_cons_succ, List.length_cons, List.length_nil, y_bool0, y_bool1, not_true_eq_false, not_false_eq_true, false_implies, true_implies, true_or, or_true, false_or, or_false, if_true, if_false, ite_true, ite_false, y_get, H.o, e2, this, Bool.not_false, bi_t]
  | j + 1, k, hk, hz => by
    have hv3 := hE.2.1
    have hn := hE.1.2.2.1
    have hkv : k < gv E := by omega
    have e2 : (Int32.ofNat (gv E) ≤ Int32.ofNat k) = False := eq_false (by rw [n_le (by omega) (by omega)]; omega)
    have hl := (hG k hkv).leaf hn
    have r11 := (R k hkv).2.2.1
    have z2 : Int32.ofNat (vl (D k)) >>> (Int32.ofNat c &&& 31) = Int32.ofNat (vl (D k) / 2 ^ c) := i_shr (by omega) (by omega)
    have hdl := Nat.div_le_self (vl (D k)) (2 ^ c)
    have z3 : Int32.ofNat (vl (D k) / 2 ^ c) &&& 1 = Int32.ofNat (vl (D k) / 2 ^ c % 2) := i_and1 (by omega)
    have hm2 : vl (D k) / 2 ^ c % 2 < 2 := Nat.mod_lt _ (by omega)
    have z4 : (Int32.ofNat (vl (D k) / 2 ^ c % 2) = 1) = (vl (D k) / 2 ^ c % 2 = 1) := propext (n_eql (m := 1) (by omega) (by omega))
    have z8 : Int32.ofNat k + 1 = Int32.ofNat (k + 1) := n_addl k 1
    have ih := wp_mfl (c := c) H hE hG R hc j (k + 1) (by omega)
    rw [w114_20]
    simp only [w114_0, w114_1, w114_3, w114_6, w114_6n, w114_7, w114_10, w114_11, w114_12, w114_13, w114_16, w114_17, w114_18, w114_19, w114_21, w114_21n, w114_22, w114_25, w114_28, w114_28n, w114_29, w114_32, w114_33, w114_34, w114_35, w114_36, w114_37, w114_38, w114_39, w114_42, w114_43, w114_44, w114_47, w114_50, w114_51, xk_n, xk_i, xk_r, xk_z, xk_l, xcs_0, xcs_i, xcs_r, xcs_z, xcs_l, Nat.reduceAdd, Nat.reduceLeDiff, Nat.reduceLT, true_and, and_true, Option.toList_some, Option.toList_none, List.nil_append, List.cons_append, List.getElem?_cons_zero, List.getElem?_cons_succ, List.set_cons_zero, List.set_cons_succ, List.length_cons, List.length_nil, y_bool0, y_bool1, not_true_eq_false, not_false_eq_true, false_implies, true_implies, true_or, or_true, false_or, or_false, if_true, if_false, ite_true, ite_false, y_get, H.o, e2, H.ld11 (show k < 3 by omega), r11, z2, z3, z4, z8]
    by_cases q : vl (D k) / 2 ^ c % 2 = 1
    · have t : (allL D (gv E)).testBit c = true := allL_bit.mpr ⟨k, hkv, by rw [l_tst]; exact decide_eq_true q⟩
      simp only [q, xk_n, xk_i, xk_r, xk_z, xk_l, xcs_0, xcs_i, xcs_r, xcs_z, xcs_l, Nat.reduceAdd, Nat.reduceLeDiff, Nat.reduceLT, true_and, and_true, Option.toList_some, Option.toList_none, List.nil_append, List.cons_append, List.getElem?_cons_zero, List.getElem?_cons_succ, List.set_cons_zero, List.set_cons_succ, List.length_cons, List.length_nil, y_bool0, y_bool1, not_true_eq_false, not_false_eq_true, false_implies, true_implies, true_or, or_true, false_or, or_false, if_true, if_false, ite_true, ite_false, t, Bool.not_true, bi_f]
    · simp only [q, xk_n, xk_i, xk_r, xk_z, xk_l, xcs_0, xcs_i, xcs_r, xcs_z, xcs_l, Nat.reduceAdd, Nat.reduceLeDiff, Nat.reduceLT, true_and, and_true, Option.toList_some, Option.toList_none, List.nil_append, List.cons_append, List.getElem?_cons_zero, List.getElem?_cons_succ, List.set_cons_zero, List.set_cons_succ, List.length_cons, List.length_nil, y_bool0, y_bool1, not_true_eq_false, not_false_eq_true, false_implies, true_implies, true_or, or_true, false_or, or_false, if_true, if_false, ite_true, ite_false]
      refine ih fun v hv => ?_
      by_cases z : v = k
      · rw [z, l_tst]; exact decide_eq_false q
      · exact hz v (by omega)
/-- whether a cell, or none, is free -/
def frO (E : Gd) (L : Nat) (o : Option Nat) : Bool := match o with
  | some c => gs E c != 1 && !L.testBit c
  | none => false
theorem wp_mfree {o : Option Nat} (H : MH h fa tr (Int32.ofNat hi) (Int32.ofNat (gw E)) (Int32.ofNat (gv E)) p rH rW nr A) (G : GA E fr A) (hE : okE E) (hs4 : ∀ c, c < gn E → gs E c < 4) (hG : okG E D) (R : RG E A D) (ho : ∀ c, o = some c → c < gn E) : wp d 114 0 [some (.ref 25), some (.int (oC o)), none] [] h K ↔ K (some (.int (bi (frO E (allL D (gv E)) o)))) h := by
  cases o with
  | none =>
    have z : oC none = -9 := rfl
    simp only [w114_0, w114_1, w114_3, w114_6, w114_6n, w114_7, w114_10, w114_11, w114_12, w114_13, w114_16, w114_17, w114_18, w114_19, w114_21, w114_21n, w114_22, w114_25, w114_28, w114_28n, w114_29, w114_32, w114_33, w114_34, w114_35, w114_36, w114_37, w114_38, w114_39, w114_42, w114_43, w114_44, w114_47, w114_50, w114_51, xk_n, xk_i, xk_r, xk_z, xk_l, xcs_0, xcs_i, xcs_r, xcs_z, xcs_l, Nat.reduceAdd, Nat.reduceLeDiff, Nat.reduceLT, true_and, and_true, Option.toList_some, Option.toList_none, List.nil_append, List.cons_append, List.getElem?_cons_zero, List.getElem?_cons_succ, List.set_cons_zero, List.set_cons_succ, List.length_cons, List.length_nil, y_bool0, y_bool1, not_true_eq_false, not_false_eq_true, false_implies, true_implies, true_or, or_true, false_or, or_false, if_true, if_false, ite_true, ite_false, z, frO, bi_f]
  | some c =>
    have hc := ho c rfl
    have hn := hE.1.2.2.1
    have hs := hs4 c hc
    have z : oC (some c) = Int32.ofNat c := rfl
    have z9 : (Int32.ofNat c = -9) = False := eq_false (n_ne9 (by omega))
    have t1 : (Int32.ofNat (gs E c) = 1) = (gs E c = 1) := propext (n_eql (m := 1) (by omega) (by omega))
    have z0 : (0 : Int32) = Int32.ofNat 0 := rfl
    have key := wp_mfl (d := d) (K := K) (c := c) H hE hG R hc (gv E) 0 (by omega) (fun v hv => by omega)
    rw [← z0] at key
    simp only [w114_0, w114_1, w114_3, w114_6, w114_6n, w114_7, w114_10, w114_11, w114_12, w114_13, w114_16, w114_17, w114_18, w114_19, w114_21, w114_21n, w114_22, w114_25, w114_28, w114_28n, w114_29, w114_32, w114_33, w114_34, w114_35, w114_36, w114_37, w114_38, w114_39, w114_42, w114_43, w114_44, w114_47, w114_50, w114_51, xk_n, xk_i, xk_r, xk_z, xk_l, xcs_0, xcs_i, xcs_r, xcs_z, xcs_l, Nat.reduceAdd, Nat.reduceLeDiff, Nat.reduceLT, true_and, and_true, Option.toList_some, Option.toList_none, List.nil_append, List.cons_append, List.getElem?_cons_zero, List.getElem?_cons_succ, List.set_cons_zero, List.set_cons_succ, List.length_cons, List.length_nil, y_bool0, y_bool1, not_true_eq_false, not_false_eq_true, false_implies, true_implies, true_or, or_true, false_or, or_false, if_true, if_false, ite_true, ite_false, z, z9, y_get, H.o, H.ld3 (show c < 30 by omega), G.1 c hc, t1, key, frO]
    by_cases q : gs E c = 1
    · simp [q, bi]
    · have b : (gs E c != 1) = true := by simp [q]
      simp only [q, xk_n, xk_i, xk_r, xk_z, xk_l, xcs_0, xcs_i, xcs_r, xcs_z, xcs_l, Nat.reduceAdd, Nat.reduceLeDiff, Nat.reduceLT, true_and, and_true, Option.toList_some, Option.toList_none, List.nil_append, List.cons_append, List.getElem?_cons_zero, List.getElem?_cons_succ, List.set_cons_zero, List.set_cons_succ, List.length_cons, List.length_nil, y_bool0, y_bool1, not_true_eq_false, not_false_eq_true, false_implies, true_implies, true_or, or_true, false_or, or_false, if_true, if_false, ite_true, ite_false, b, Bool.true_and]
theorem frO_is (E : Gd) (L t dd : Nat) : frO E L (bes (gw E) (gn E) t dd) = isFr E L t dd := by
  unfold frO isFr
  cases bes (gw E) (gn E) t dd <;> rfl
def feB (E : Gd) (L t : Nat) (pr any : Bool) (dd : Nat) : Bool := isFr E L t dd && (any || (isPr E t dd == pr))
def feF (P : Nat → Bool) (f s : Nat) : Nat → Nat → Option Nat
  | 0, _ => none
  | j + 1, k => if P ((f + k * s) % 4) then some ((f + k * s) % 4) else feF P f s j (k + 1)
theorem feF_s (P : Nat → Bool) (f s j k : Nat) : feF P f s (j + 1) k = if P ((f + k * s) % 4) then some ((f + k * s) % 4) else feF P f s j (k + 1) := rfl
theorem wp_mfel {v f s : Nat} {pr any : Bool} (H : MH h fa tr (Int32.ofNat hi) (Int32.ofNat (gw E)) (Int32.ofNat (gv E)) p rH rW nr A) (hgn : gn E = hi * gw E) (G : GA E fr A) (hE : okE E) (hs4 : ∀ c, c < gn E → gs E c < 4) (hG : okG E D) (R : RG E A D) (hv : v < gv E) (hf : f < 4) (hs : s < 4) : ∀ (j k : Nat) (l7 l8 : Option Value), k + j = 3 → (wp (d + 1) 115 20 [some (.ref 25), some (.int (Int32.ofNat v)), some (.int (Int32.ofNat f)), some (.int (bi pr)), some (.int (bi any)), some (.int (Int32.ofNat s)), some (.int (Int32.ofNat k)), l7, l8] [] h K ↔ K (some (.int (oC (feF (feB E (allL D (gv E)) (vt (D v)) pr any) f s j k)))) h)
  | 0, k, l7, l8, hk => by
    have e : (3 : Int32) ≤ Int32.ofNat k := (n_lle (m := 3) (by omega) (by omega)).mpr (by omega)
    rw [w115_20]
    simp only [w115_0, w115_0n, w115_1, w115_4, w115_5, w115_6, w115_7, w115_10, w115_11, w115_14, w115_15, w115_17, w115_18, w115_22, w115_23, w115_26, w115_27, w115_29, w115_31, w115_32, w115_33, w115_34, w115_35, w115_37, w115_37n, w115_38, w115_38n, w115_39, w115_42, w115_43, w115_44, w115_46, w115_49, w115_51, w115_51n, w115_52, w115_54, w115_57, w115_60, w115_62, w115_65, w115_65n, w115_66, w115_69, w115_71, w115_72, w115_73, w115_76, w115_77, w115_80, w115_81, w115_82, w115_85, w115_87, w115_88, w115_91, w115_94, w115_96, xk_n, xk_i, xk_r, xk_z, xk_l, xcs_0, xcs_i, xcs_r, xcs_z, xcs_l, Nat.reduceAdd, Nat.reduceLeDiff, Nat.reduceLT, true_and, and_true, Option.toList_some, Option.toList_none, List.nil_append, List.cons_append, List.getElem?_cons_zero, List.getElem?_cons_succ, List.set_cons_zero, List.set_cons_succ, List.length_cons, List.length_nil, y_bool0, y_bool1, not_true_eq_false, not_false_eq_true, false_implies, true_implies, true_or, or_true, false_or, or_false, if_true, if_false, ite_true, ite_false, e, feF, oC]
  | j + 1, k, l7, l8, hk => by
    have hv3 := hE.2.1
    have hn := hE.1.2.2.1
    have ht := (hG v hv).tip
    have e : ((3 : Int32) ≤ Int32.ofNat k) = False := eq_false (by have := n_lle (m := 3) (a := k) (by omega) (by omega); rw [this]; omega)
    have z1 : Int32.ofNat k * Int32.ofNat s = Int32.ofNat (k * s) := n_mul _ _
    have z2 : Int32.ofNat f + Int32.ofNat (k * s) = Int32.ofNat (f + k * s) := n_add _ _
    have hks : k * s ≤ 3 * 3 := Nat.mul_le_mul (by omega) (by omega)
    have z4 : (4 : Int32) = Int32.ofNat 4 := rfl
    have z5 : ((4 : Int32) = 0) = False := eq_false (by decide)
    have z3 : Int32.ofNat (f + k * s) - Int32.ofNat (f + k * s) / 4 * 4 = Int32.ofNat ((f + k * s) % 4) := by
      have := n_mod (a := f + k * s) (b := 4) (by omega) (by omega)
      exact this
    have hd4 : (f + k * s) % 4 < 4 := Nat.mod_lt _ (by omega)
    have z8 : Int32.ofNat k + 1 = Int32.ofNat (k + 1) := n_addl k 1
    have z10 : ((1 : Int32) = 0) = False := eq_false (by decide)
    have hb := fun x hx => bes_lt (d := (f + k * s) % 4) (x := x) hE.1 ht hx
    have ih := fun l7 l8 => wp_mfel (pr := pr) (any := any) H hgn G hE hs4 hG R hv hf hs j (k + 1) l7 l8 (by omega)
    rw [w115_20, feF_s]
    simp only [w115_0, w115_0n, w115_1, w115_4, w115_5, w115_6, w115_7, w115_10, w115_11, w115_14, w115_15, w115_17, w115_18, w115_22, w115_23, w115_26, w115_27, w115_29, w115_31, w115_32, w115_33, w115_34, w115_35, w115_37, w115_37n, w115_38, w115_38n, w115_39, w115_42, w115_43, w115_44, w115_46, w115_49, w115_51, w115_51n, w115_52, w115_54, w115_57, w115_60, w115_62, w115_65, w115_65n, w115_66, w115_69, w115_71, w115_72, w115_73, w115_76, w115_77, w115_80, w115_81, w115_82, w115_85, w115_87, w115_91, w115_94, w115_96, xk_n, xk_i, xk_r, xk_z, xk_l, xcs_0, xcs_i, xcs_r, xcs_z, xcs_l, Nat.reduceAdd, Nat.reduceLeDiff, Nat.reduceLT, true_and, and_true, Option.toList_some, Option.toList_none, List.nil_append, List.cons_append, List.getElem?_cons_zero, List.getElem?_cons_succ, List.set_cons_zero, List.set_cons_succ, List.length_cons, List.length_nil, y_bool0, y_bool1, not_true_eq_false, not_false_eq_true, false_implies, true_implies, true_or, or_true, false_or, or_false, if_true, if_false, ite_true, ite_false, y_get, H.o, e, z1, z2, z3, z5, H.ld9 (show v < 3 by omega), (R v hv).1, H.cls, wp_mbes H hE.1 hgn ht hd4, wp_mfree H G hE hs4 hG R hb, frO_is]
    have k88 : ∀ l7 l8, (wp (d + 1) 115 88 [some (.ref 25), some (.int (Int32.ofNat v)), some (.int (Int32.ofNat f)), some (.int (bi pr)), some (.int (bi any)), some (.int (Int32.ofNat s)), some (.int (Int32.ofNat k)), l7, l8] [] h K ↔ K (some (.int (oC (feF (feB E (allL D (gv E)) (vt (D v)) pr any) f s j (k + 1))))) h) := by
      intro l7 l8
      rw [← ih l7 l8]
      simp only [w115_0, w115_0n, w115_1, w115_4, w115_5, w115_6, w115_7, w115_10, w115_11, w115_14, w115_15, w115_17, w115_18, w115_22, w115_23, w115_26, w115_27, w115_29, w115_31, w115_32, w115_33, w115_34, w115_35, w115_37, w115_37n, w115_38, w115_38n, w115_39, w115_42, w115_43, w115_44, w115_46, w115_49, w115_51, w115_51n, w115_52, w115_54, w115_57, w115_60, w115_62, w115_65, w115_65n, w115_66, w115_69, w115_71, w115_72, w115_73, w115_76, w115_77, w115_80, w115_81, w115_82, w115_85, w115_87, w115_88, w115_91, w115_94, w115_96, xk_n, xk_i, xk_r, xk_z, xk_l, xcs_0, xcs_i, xcs_r, xcs_z, xcs_l, Nat.reduceAdd, Nat.reduceLeDiff, Nat.reduceLT, true_and, and_true, Option.toList_some, Option.toList_none, List.nil_append, List.cons_append, List.getElem?_cons_zero, List.getElem?_cons_succ, List.set_cons_zero, List.set_cons_succ, List.length_cons, List.length_nil, y_bool0, y_bool1, not_true_eq_false, not_false_eq_true, false_implies, true_implies, true_or, or_true, false_or, or_false, if_true, if_false, ite_true, ite_false, z8]
    simp only [k88]
    cases q1 : isFr E (allL D (gv E)) (vt (D v)) ((f + k * s) % 4)
    · simp [feB, q1, bi]
    · obtain ⟨c, c1, c2, c3⟩ := isFr_some q1
      have hcn := hb c c1
      have hs := hs4 c hcn
      have t2 : (Int32.ofNat (gs E c) = 2) = (gs E c = 2) := propext (n_eql (m := 2) (by omega) (by omega))
      have p1 : isPr E (vt (D v)) ((f + k * s) % 4) = (gs E c == 2) := by unfold isPr; rw [c1]
      have o1 : oC (some c) = Int32.ofNat c := rfl
      simp only [c1, o1, H.ld3 (show c < 30 by omega), G.1 c hcn, t2]
      cases any
      · by_cases q2 : gs E c = 2
        · cases pr <;> simp [feB, q1, p1, q2, bi, oC]
        · cases pr <;> simp [feB, q1, p1, q2, bi, oC]
      · simp [feB, q1, bi, oC]
end
