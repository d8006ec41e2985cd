/-! ===== the program's call garden ===== -/
theorem PL.ext {h : xH} {a w n : Nat} {s s' : Nat → Nat} (H : PL h a w n s) (hs : ∀ c, c < n → s' c = s c) : PL h a w n s' := by
  obtain ⟨a1, a2, a0, f, a3, a4, a5⟩ := H
  exact ⟨a1, a2, a0, f, a3, a4, fun c hc => by rw [hs c hc]; exact a5 c hc⟩
section
variable {d : Nat} {h : xH} {K : Option Value → xH → Prop} {a n i : Nat} {ln : Option Nat} {f : Nat → Int32}
theorem wp_layC {w hi row : Nat} {t fa : Int32} {lv : Int64} {sT : Nat → Nat} (hw : w ≤ 6) (hh : hi ≤ 5) (hrow : row < hi) (ha : 17 ≤ a) (hT : ∀ col, col < w → i + (4 + (row * w + col) + row) < n ∧ sgC (f (i + (4 + (row * w + col) + row))) = some (sT (row * w + col))) : ∀ (j col : Nat) (h : xH) (s : Nat → Nat), col + j = w → h[2]? = some (.inr (7, [.ref 3, .ref 9, .ref 15, .ref 16, .int t, .int fa])) → h[3]? = some (.inr (1, [.ref (3 + 1), .ref (3 + 3), .ref (3 + 5), .long lv])) → SH h a ln n f → PL h 4 w (hi * w) s → (∀ c, c < row * w + col → s c = sT c) → (∀ h' s', PL h' 4 w (hi * w) s' → (∀ c, c < row * w + w → s' c = sT c) → FR (fun b => b = 5) 0 0 h h' → ∀ l8, wp (d + 2) 81 129 [some (.ref 2), some (.ref a), some (.int (Int32.ofNat i)), some (.int (Int32.ofNat hi)), some (.int (Int32.ofNat w)), some (.int (Int32.ofNat (i + (4 + (row * w + w) + row)))), some (.int (Int32.ofNat (row * w + w))), some (.int (Int32.ofNat (row + 1))), l8] [] h' K) → wp (d + 2) 81 86 [some (.ref 2), some (.ref a), some (.int (Int32.ofNat i)), some (.int (Int32.ofNat hi)), some (.int (Int32.ofNat w)), some (.int (Int32.ofNat (i + (4 + (row * w + col) + row)))), some (.int (Int32.ofNat (row * w + col))), some (.int (Int32.ofNat row)), some (.int (Int32.ofNat col))] [] h K
  | 0, col, h, s, hc, hme, hbd, hS, hP, hs, hK => by
    have : col = w := by omega
    subst this
    have z6 : Int32.ofNat col ≤ Int32.ofNat col := (n_le (by omega) (by omega)).mpr (by omega)
    have z8 : Int32.ofNat row + 1 = Int32.ofNat (row + 1) := n_addl row 1
    rw [w81_86]
    simp only [w81_0, w81_0n, w81_1, w81_2, w81_3, w81_4, w81_7, w81_9, w81_10, w81_11, w81_11n, w81_12, w81_13, w81_14, w81_15, w81_18, w81_20, w81_21, w81_23, w81_23n, w81_24, w81_27, w81_30, w81_31, w81_33, w81_36, w81_36n, w81_37, w81_40, w81_43, w81_46, w81_46n, w81_47, w81_50, w81_53, w81_56, w81_56n, w81_57, w81_60, w81_63, w81_64, w81_65, w81_66, w81_68, w81_69, w81_71, w81_72, w81_76, w81_77, w81_80, w81_83, w81_84, w81_88, w81_90, w81_93, w81_93n, w81_94, w81_97, w81_100, w81_102, w81_102n, w81_103, w81_105, w81_108, w81_111, w81_114, w81_117, w81_120, w81_123, w81_126, w81_132, xk_n, xk_i, xk_r, xk_z, xk_l, xcs_0, xcs_i, xcs_r, xcs_z, xcs_l, Nat.reduceAdd, Nat.reduceLeDiff, Nat.reduceLT, true_and, and_true, Option.toList_some, Option.toList_none, List.nil_append, List.cons_append, List.getElem?_cons_zero, List.getElem?_cons_succ, List.set_cons_zero, List.set_cons_succ, List.length_cons, List.length_nil, y_bool0, y_bool1, not_true_eq_false, not_false_eq_true, false_implies, true_implies, true_or, or_true, false_or, or_false, if_true, if_false, ite_true, ite_false, z6, z8]
    exact hK h s hP hs FR.rfl' _
  | j + 1, col, h, s, hc, hme, hbd, hS, hP, hs, hK => by
    have hcw : col < w := by omega
    obtain ⟨t1, t2⟩ := hT col hcw
    have hn50 := hS.2.2.2.1
    have hrw : (row + 1) * w ≤ hi * w := Nat.mul_le_mul_right _ (by omega)
    rw [Nat.succ_mul] at hrw
    have hn30 : hi * w ≤ 30 := Nat.mul_le_mul hh hw
    have z6 : (Int32.ofNat w ≤ Int32.ofNat col) = False := eq_false (by rw [n_le (by omega) (by omega)]; omega)
    have z7 : Int32.ofNat (i + (4 + (row * w + col) + row)) + 1 = Int32.ofNat (i + (4 + (row * w + (col + 1)) + row)) := by rw [show i + (4 + (row * w + (col + 1)) + row) = i + (4 + (row * w + col) + row) + 1 by omega]; exact n_addl _ 1
    have z8 : Int32.ofNat (row * w + col) + 1 = Int32.ofNat (row * w + (col + 1)) := n_addl _ 1
    have z9 : Int32.ofNat col + 1 = Int32.ofNat (col + 1) := n_addl _ 1
    have z5 : oC (some (sT (row * w + col))) = Int32.ofNat (sT (row * w + col)) := rfl
    have hlt := sgC_lt t2
    rw [w81_86]
    simp only [w81_0, w81_0n, w81_1, w81_2, w81_3, w81_4, w81_7, w81_9, w81_10, w81_11, w81_11n, w81_12, w81_13, w81_14, w81_15, w81_18, w81_20, w81_21, w81_23, w81_23n, w81_24, w81_27, w81_30, w81_31, w81_33, w81_36, w81_36n, w81_37, w81_40, w81_43, w81_46, w81_46n, w81_47, w81_50, w81_53, w81_56, w81_56n, w81_57, w81_60, w81_63, w81_64, w81_65, w81_66, w81_68, w81_69, w81_71, w81_72, w81_76, w81_77, w81_80, w81_83, w81_84, w81_88, w81_90, w81_93, w81_93n, w81_94, w81_97, w81_100, w81_102, w81_102n, w81_103, w81_105, w81_108, w81_111, w81_114, w81_117, w81_120, w81_123, w81_126, w81_132, xk_n, xk_i, xk_r, xk_z, xk_l, xcs_0, xcs_i, xcs_r, xcs_z, xcs_l, Nat.reduceAdd, Nat.reduceLeDiff, Nat.reduceLT, true_and, and_true, Option.toList_some, Option.toList_none, List.nil_append, List.cons_append, List.getElem?_cons_zero, List.getElem?_cons_succ, List.set_cons_zero, List.set_cons_succ, List.length_cons, List.length_nil, y_bool0, y_bool1, not_true_eq_false, not_false_eq_true, false_implies, true_implies, true_or, or_true, false_or, or_false, if_true, if_false, ite_true, ite_false, z6, y_get, hme, hbd, hS.cls, wp_read hS t1, wp_signOfCode, t2, z5, hP.cls]
    refine wp_mark hP (by omega) hlt fun h1 H1 F1 => ?_
    simp only [w81_0, w81_0n, w81_1, w81_2, w81_3, w81_4, w81_7, w81_9, w81_10, w81_11, w81_11n, w81_12, w81_13, w81_14, w81_15, w81_18, w81_20, w81_21, w81_23, w81_23n, w81_24, w81_27, w81_30, w81_31, w81_33, w81_36, w81_36n, w81_37, w81_40, w81_43, w81_46, w81_46n, w81_47, w81_50, w81_53, w81_56, w81_56n, w81_57, w81_60, w81_63, w81_64, w81_65, w81_66, w81_68, w81_69, w81_71, w81_72, w81_76, w81_77, w81_80, w81_83, w81_84, w81_88, w81_90, w81_93, w81_93n, w81_94, w81_97, w81_100, w81_102, w81_102n, w81_103, w81_105, w81_108, w81_111, w81_114, w81_117, w81_120, w81_123, w81_126, w81_132, xk_n, xk_i, xk_r, xk_z, xk_l, xcs_0, xcs_i, xcs_r, xcs_z, xcs_l, Nat.reduceAdd, Nat.reduceLeDiff, Nat.reduceLT, true_and, and_true, Option.toList_some, Option.toList_none, List.nil_append, List.cons_append, List.getElem?_cons_zero, List.getElem?_cons_succ, List.set_cons_zero, List.set_cons_succ, List.length_cons, List.length_nil, y_bool0, y_bool1, not_true_eq_false, not_false_eq_true, false_implies, true_implies, true_or, or_true, false_or, or_false, if_true, if_false, ite_true, ite_false, z7, z8, z9]
    refine wp_layC hw hh hrow ha hT j (col + 1) h1 _ (by omega) (F1.at hme (by omega)) (F1.at hbd (by omega)) (hS.fr F1 (by omega) (by omega)) H1 ?_ fun h' s' H' hs' F' l8 => hK h' s' H' hs' (F1.tr F') l8
    intro c hc
    unfold upN
    split
    · rename_i q; rw [q]
    · exact hs c (by omega)
end
section
variable {d : Nat} {K : Option Value → xH → Prop} {a n i : Nat} {ln : Option Nat} {f : Nat → Int32}
theorem wp_layR {w hi : Nat} {t fa : Int32} {lv : Int64} {sT : Nat → Nat} (hw : w ≤ 6) (hh : hi ≤ 5) (ha : 17 ≤ a) (hT : ∀ row, row < hi → ∀ col, col < w → i + (4 + (row * w + col) + row) < n ∧ sgC (f (i + (4 + (row * w + col) + row))) = some (sT (row * w + col))) : ∀ (j row : Nat) (h : xH) (s : Nat → Nat) (l8 : Option Value), row + j = hi → h[2]? = some (.inr (7, [.ref 3, .ref 9, .ref 15, .ref 16, .int t, .int fa])) → h[3]? = some (.inr (1, [.ref (3 + 1), .ref (3 + 3), .ref (3 + 5), .long lv])) → SH h a ln n f → PL h 4 w (hi * w) s → (∀ c, c < row * w → s c = sT c) → (∀ h', PL h' 4 w (hi * w) sT → FR (fun b => b = 5) 0 0 h h' → K none h') → wp (d + 2) 81 74 [some (.ref 2), some (.ref a), some (.int (Int32.ofNat i)), some (.int (Int32.ofNat hi)), some (.int (Int32.ofNat w)), some (.int (Int32.ofNat (i + (3 + row * w + row)))), some (.int (Int32.ofNat (row * w))), some (.int (Int32.ofNat row)), l8] [] h K
  | 0, row, h, s, l8, hr, hme, hbd, hS, hP, hs, hK => by
    have : row = hi := by omega
    subst this
    have z6 : Int32.ofNat row ≤ Int32.ofNat row := (n_le (by omega) (by omega)).mpr (by omega)
    rw [w81_74]
    simp only [w81_0, w81_0n, w81_1, w81_2, w81_3, w81_4, w81_7, w81_9, w81_10, w81_11, w81_11n, w81_12, w81_13, w81_14, w81_15, w81_18, w81_20, w81_21, w81_23, w81_23n, w81_24, w81_27, w81_30, w81_31, w81_33, w81_36, w81_36n, w81_37, w81_40, w81_43, w81_46, w81_46n, w81_47, w81_50, w81_53, w81_56, w81_56n, w81_57, w81_60, w81_63, w81_64, w81_65, w81_66, w81_68, w81_69, w81_71, w81_72, w81_76, w81_77, w81_80, w81_83, w81_84, w81_88, w81_90, w81_93, w81_93n, w81_94, w81_97, w81_100, w81_102, w81_102n, w81_103, w81_105, w81_108, w81_111, w81_114, w81_117, w81_120, w81_123, w81_126, w81_132, xk_n, xk_i, xk_r, xk_z, xk_l, xcs_0, xcs_i, xcs_r, xcs_z, xcs_l, Nat.reduceAdd, Nat.reduceLeDiff, Nat.reduceLT, true_and, and_true, Option.toList_some, Option.toList_none, List.nil_append, List.cons_append, List.getElem?_cons_zero, List.getElem?_cons_succ, List.set_cons_zero, List.set_cons_succ, List.length_cons, List.length_nil, y_bool0, y_bool1, not_true_eq_false, not_false_eq_true, false_implies, true_implies, true_or, or_true, false_or, or_false, if_true, if_false, ite_true, ite_false, z6]
    exact hK h (hP.ext fun c hc => (hs c hc).symm) FR.rfl'
  | j + 1, row, h, s, l8, hr, hme, hbd, hS, hP, hs, hK => by
    have z6 : (Int32.ofNat hi ≤ Int32.ofNat row) = False := eq_false (by rw [n_le (by omega) (by omega)]; omega)
    have z7 : Int32.ofNat (i + (3 + row * w + row)) + 1 = Int32.ofNat (i + (4 + (row * w + 0) + row)) := by rw [show i + (4 + (row * w + 0) + row) = i + (3 + row * w + row) + 1 by omega]; exact n_addl _ 1
    have z0 : (0 : Int32) = Int32.ofNat 0 := rfl
    have z1 : Int32.ofNat (row * w) = Int32.ofNat (row * w + 0) := by rw [Nat.add_zero]
    rw [w81_74]
    simp only [w81_0, w81_0n, w81_1, w81_2, w81_3, w81_4, w81_7, w81_9, w81_10, w81_11, w81_11n, w81_12, w81_13, w81_14, w81_15, w81_18, w81_20, w81_21, w81_23, w81_23n, w81_24, w81_27, w81_30, w81_31, w81_33, w81_36, w81_36n, w81_37, w81_40, w81_43, w81_46, w81_46n, w81_47, w81_50, w81_53, w81_56, w81_56n, w81_57, w81_60, w81_63, w81_64, w81_65, w81_66, w81_68, w81_69, w81_71, w81_72, w81_76, w81_77, w81_80, w81_83, w81_84, w81_88, w81_90, w81_93, w81_93n, w81_94, w81_97, w81_100, w81_102, w81_102n, w81_103, w81_105, w81_108, w81_111, w81_114, w81_117, w81_120, w81_123, w81_126, w81_132, xk_n, xk_i, xk_r, xk_z, xk_l, xcs_0, xcs_i, xcs_r, xcs_z, xcs_l, Nat.reduceAdd, Nat.reduceLeDiff, Nat.reduceLT, true_and, and_true, Option.toList_some, Option.toList_none, List.nil_append, List.cons_append, List.getElem?_cons_zero, List.getElem?_cons_succ, List.set_cons_zero, List.set_cons_succ, List.length_cons, List.length_nil, y_bool0, y_bool1, not_true_eq_false, not_false_eq_true, false_implies, true_implies, true_or, or_true, false_or, or_false, if_true, if_false, ite_true, ite_false, z6, z7, z0]
    rw [z1]
    refine wp_layC (row := row) hw hh (by omega) ha (hT row (by omega)) w 0 h s (by omega) hme hbd hS hP (fun c hc => hs c (by omega)) fun h1 s1 H1 hs1 F1 m8 => ?_
    rw [w81_129]
    have := wp_layR hw hh ha hT j (row + 1) h1 s1 m8 (by omega) (F1.at hme (by omega)) (F1.at hbd (by omega)) (hS.fr F1 (by omega) (by omega)) H1 (fun c hc => hs1 c (by rw [Nat.succ_mul] at hc; exact hc)) fun h' H' F' => hK h' H' (F1.tr F')
    rw [show i + (3 + (row + 1) * w + (row + 1)) = i + (4 + (row * w + w) + row) by rw [Nat.succ_mul]; omega, Nat.succ_mul] at this
    exact this
end
/-- what a text without a fault says -/
theorem colW_n {cd : Nat → Int32} : ∀ {j p : Nat}, colW cd j p = none → ∀ col, col < j → ∃ x, sgC (cd (p + col)) = some x
  | 0, _, _, _, hc => by omega
  | j + 1, p, h, col, hc => by
    have e1 : colW cd (j + 1) p = if (sgC (cd p)).isNone then some p else colW cd j (p + 1) := rfl
    rw [e1] at h
    cases q : sgC (cd p) with
    | none => rw [q] at h; cases h
    | some x =>
      rw [q] at h
      cases col with
      | zero => exact ⟨x, q⟩
      | succ col =>
        have := colW_n (j := j) (p := p + 1) h col (by omega)
        rw [show p + 1 + col = p + (col + 1) by omega] at this
        exact this
theorem rowW_n {cd : Nat → Int32} {w : Nat} : ∀ {j p : Nat}, rowW cd w j p = none → ∀ row, row < j → ∀ col, col < w → ∃ x, sgC (cd (p + row * (w + 1) + 1 + col)) = some x
  | 0, _, _, _, hc => by omega
  | j + 1, p, h, row, hr => by
    intro col hcol
    have e1 : rowW cd w (j + 1) p = if cd p = 59 then (match colW cd w (p + 1) with
      | some q => some q
      | none => rowW cd w j (p + 1 + w)) else some p := rfl
    rw [e1] at h
    by_cases q : cd p = 59
    · rw [if_pos q] at h
      cases q2 : colW cd w (p + 1) with
      | some y => rw [q2] at h; cases h
      | none =>
        rw [q2] at h
        cases row with
        | zero =>
          have := colW_n q2 col hcol
          rw [Nat.zero_mul, Nat.add_zero]
          exact this
        | succ row =>
          have := rowW_n (j := j) (p := p + 1 + w) h row (by omega) col hcol
          rw [show p + 1 + w + row * (w + 1) + 1 + col = p + (row + 1) * (w + 1) + 1 + col by rw [Nat.succ_mul]; omega] at this
          exact this
    · rw [if_neg q] at h; cases h
theorem cdA_some {f : Nat → Int32} {i m p x : Nat} (h : sgC (cdA f i m p) = some x) : p < m ∧ sgC (f (i + p)) = some x := by
  unfold cdA at h
  by_cases q : p < m
  · rw [if_pos q] at h; exact ⟨q, h⟩
  · rw [if_neg q] at h
    have : sgC (-1) = none := by decide
    rw [this] at h; cases h
theorem wrgW_n {f : Nat → Int32} {i m : Nat} (h : wrgW (cdA f i m) m = none) : ∃ hi w, 1 ≤ hi ∧ hi ≤ 5 ∧ 2 ≤ w ∧ w ≤ 6 ∧ 2 < m ∧ f (i + 1) = Int32.ofNat (48 + hi) ∧ f (i + 2) = Int32.ofNat (48 + w) ∧ ∀ row, row < hi → ∀ col, col < w → ∃ x, 4 + (row * w + col) + row < m ∧ sgC (f (i + (4 + (row * w + col) + row))) = some x := by
  unfold wrgW at h
  by_cases q0 : cdA f i m 0 = 103
  · rw [if_pos q0] at h
    rcases dgt_cas (cdA f i m 1) (lo := 1) (hi := 5) (by omega) (by omega) with ⟨hi, hi1, hi5, hx, hd⟩ | ⟨hd, hx⟩
    · rw [hd] at h
      dsimp only at h
      rcases dgt_cas (cdA f i m 2) (lo := 2) (hi := 6) (by omega) (by omega) with ⟨w, w2, w6, hx2, hd2⟩ | ⟨hd2, hx2⟩
      · rw [hd2] at h
        dsimp only at h
        cases q : rowW (cdA f i m) w hi 3 with
        | some y => rw [q] at h; cases h
        | none =>
          have hr := rowW_n q
          have m2 : 2 < m := by
            by_cases z : 2 < m
            · exact z
            · unfold cdA at hx2
              rw [if_neg z] at hx2
              exact absurd hx2.symm (n_ne1 (by omega))
          unfold cdA at hx hx2
          rw [if_pos (by omega)] at hx hx2
          refine ⟨hi, w, hi1, hi5, w2, w6, m2, hx, hx2, fun row hrow col hcol => ?_⟩
          obtain ⟨x, hx⟩ := hr row hrow col hcol
          obtain ⟨c1, c2⟩ := cdA_some hx
          have e : 3 + row * (w + 1) + 1 + col = 4 + (row * w + col) + row := by rw [Nat.mul_succ]; omega
          rw [e] at c1 c2
          exact ⟨x, c1, c2⟩
      · rw [hd2] at h; cases h
    · rw [hd] at h; cases h
  · rw [if_neg q0] at h; cases h
/-- the garden that a text without a fault tells -/
def gdT (s : St) (f : Nat → Int32) (i hi w : Nat) : St := ((w, hi * w, fun c => (sgC (f (i + (4 + c + c / w)))).getD 0, 0, gk (sE s), gp (sE s), gh (sE s)), fun _ => false, 0, sRd s, sSh s, sTr s, sFa s)
theorem div_row {row w col : Nat} (h : col < w) : (row * w + col) / w = row := by
  rw [Nat.mul_comm, Nat.mul_add_div (by omega), Nat.div_eq_of_lt h, Nat.add_zero]
theorem wp_layOut {d : Nat} {h : xH} {K : Option Value → xH → Prop} {s : St} {e em er k i m hi w : Nat} {vs rs : Nat → Nat} (H : RC h s e em er vs rs) (hk : k < 4) (him : i + m ≤ (sSh s k).2.1) (h1 : 1 ≤ hi) (h5 : hi ≤ 5) (w2 : 2 ≤ w) (w6 : w ≤ 6) (m2 : 2 < m) (f1 : (sSh s k).2.2 (i + 1) = Int32.ofNat (48 + hi)) (f2 : (sSh s k).2.2 (i + 2) = Int32.ofNat (48 + w)) (hT : ∀ row, row < hi → ∀ col, col < w → ∃ x, 4 + (row * w + col) + row < m ∧ sgC ((sSh s k).2.2 (i + (4 + (row * w + col) + row))) = some x) (hK : ∀ h', RC h' (gdT s (sSh s k).2.2 i hi w) e em er vs rs → FR CP 0 0 h h' → K none h') : wp (d + 2) 81 0 [some (.ref 2), some (.ref (17 + 2 * k)), some (.int (Int32.ofNat i)), none, none, none, none, none, none] [] h K := by
  obtain ⟨a1, ⟨X, L, a2⟩, a3, a4, a5, a6, a8, a9, b1, b2, b3, b4, b5, b6, b7⟩ := H
  have hS := a8 k hk
  have hn50 := hS.2.2.2.1
  have sub48 : ∀ y, Int32.ofNat (48 + y) - 48 = Int32.ofNat y := fun y => by
    have := n_subl (a := 48 + y) (m := 48) (by omega)
    rw [this]; congr 1; omega
  have z1 : Int32.ofNat i + 1 = Int32.ofNat (i + 1) := n_addl i 1
  have z2 : Int32.ofNat i + 2 = Int32.ofNat (i + 2) := n_addl i 2
  have z3 : Int32.ofNat i + 3 = Int32.ofNat (i + (3 + 0 * w + 0)) := by rw [Nat.zero_mul]; exact n_addl i 3
  obtain ⟨c1, c2, c3, c4, c5, c6, c7⟩ := a2
  simp only [w81_0, w81_0n, w81_1, w81_2, w81_3, w81_4, w81_7, w81_9, w81_10, w81_11, w81_11n, w81_12, w81_13, w81_14, w81_15, w81_18, w81_20, w81_21, w81_23, w81_23n, w81_24, w81_27, w81_30, w81_31, w81_33, w81_36, w81_36n, w81_37, w81_40, w81_43, w81_46, w81_46n, w81_47, w81_50, w81_53, w81_56, w81_56n, w81_57, w81_60, w81_63, w81_64, w81_65, w81_66, w81_68, w81_69, w81_71, w81_72, w81_76, w81_77, w81_80, w81_83, w81_84, w81_88, w81_90, w81_93, w81_93n, w81_94, w81_97, w81_100, w81_102, w81_102n, w81_103, w81_105, w81_108, w81_111, w81_114, w81_117, w81_120, w81_123, w81_126, w81_132, xk_n, xk_i, xk_r, xk_z, xk_l, xcs_0, xcs_i, xcs_r, xcs_z, xcs_l, Nat.reduceAdd, Nat.reduceLeDiff, Nat.reduceLT, true_and, and_true, Option.toList_some, Option.toList_none, List.nil_append, List.cons_append, List.getElem?_cons_zero, List.getElem?_cons_succ, List.set_cons_zero, List.set_cons_succ, List.length_cons, List.length_nil, y_bool0, y_bool1, not_true_eq_false, not_false_eq_true, false_implies, true_implies, true_or, or_true, false_or, or_false, if_true, if_false, ite_true, ite_false, z1, z2, hS.cls, wp_read hS (show i + 1 < _ by omega), wp_read hS (show i + 2 < _ by omega), f1, f2, sub48, y_get, a1, c2, c3.cls]
  refine wp_pclear c3 h5 w6 fun g1 P1 F1 => ?_
  have me1 := F1.at a1 (by omega)
  have bd1 := F1.at c2 (by omega)
  have al1 := c5.fr F1 (by omega) (by omega)
  simp only [w81_0, w81_0n, w81_1, w81_2, w81_3, w81_4, w81_7, w81_9, w81_10, w81_11, w81_11n, w81_12, w81_13, w81_14, w81_15, w81_18, w81_20, w81_21, w81_23, w81_23n, w81_24, w81_27, w81_30, w81_31, w81_33, w81_36, w81_36n, w81_37, w81_40, w81_43, w81_46, w81_46n, w81_47, w81_50, w81_53, w81_56, w81_56n, w81_57, w81_60, w81_63, w81_64, w81_65, w81_66, w81_68, w81_69, w81_71, w81_72, w81_76, w81_77, w81_80, w81_83, w81_84, w81_88, w81_90, w81_93, w81_93n, w81_94, w81_97, w81_100, w81_102, w81_102n, w81_103, w81_105, w81_108, w81_111, w81_114, w81_117, w81_120, w81_123, w81_126, w81_132, xk_n, xk_i, xk_r, xk_z, xk_l, xcs_0, xcs_i, xcs_r, xcs_z, xcs_l, Nat.reduceAdd, Nat.reduceLeDiff, Nat.reduceLT, true_and, and_true, Option.toList_some, Option.toList_none, List.nil_append, List.cons_append, List.getElem?_cons_zero, List.getElem?_cons_succ, List.set_cons_zero, List.set_cons_succ, List.length_cons, List.length_nil, y_bool0, y_bool1, not_true_eq_false, not_false_eq_true, false_implies, true_implies, true_or, or_true, false_or, or_false, if_true, if_false, ite_true, ite_false, y_get, me1, bd1, al1.cls]
  refine wp_clr al1 fun g2 A2 F2 => ?_
  have me2 := F2.at me1 (by omega)
  have bd2 := F2.at bd1 (by omega)
  have pf2 := (c4.fr F1 (by omega) (by omega)).fr F2 (by omega) (by omega)
  simp only [w81_0, w81_0n, w81_1, w81_2, w81_3, w81_4, w81_7, w81_9, w81_10, w81_11, w81_11n, w81_12, w81_13, w81_14, w81_15, w81_18, w81_20, w81_21, w81_23, w81_23n, w81_24, w81_27, w81_30, w81_31, w81_33, w81_36, w81_36n, w81_37, w81_40, w81_43, w81_46, w81_46n, w81_47, w81_50, w81_53, w81_56, w81_56n, w81_57, w81_60, w81_63, w81_64, w81_65, w81_66, w81_68, w81_69, w81_71, w81_72, w81_76, w81_77, w81_80, w81_83, w81_84, w81_88, w81_90, w81_93, w81_93n, w81_94, w81_97, w81_100, w81_102, w81_102n, w81_103, w81_105, w81_108, w81_111, w81_114, w81_117, w81_120, w81_123, w81_126, w81_132, xk_n, xk_i, xk_r, xk_z, xk_l, xcs_0, xcs_i, xcs_r, xcs_z, xcs_l, Nat.reduceAdd, Nat.reduceLeDiff, Nat.reduceLT, true_and, and_true, Option.toList_some, Option.toList_none, List.nil_append, List.cons_append, List.getElem?_cons_zero, List.getElem?_cons_succ, List.set_cons_zero, List.set_cons_succ, List.length_cons, List.length_nil, y_bool0, y_bool1, not_true_eq_false, not_false_eq_true, false_implies, true_implies, true_or, or_true, false_or, or_false, if_true, if_false, ite_true, ite_false, y_get, me2, bd2, pf2.cls]
  refine wp_fclear pf2 fun g3 P3 F3 => ?_
  have me3 := F3.at me2 (by omega)
  have bd3 := F3.at bd2 (by omega)
  have rl3 := ((a4.fr F1 (by omega) (by omega)).fr F2 (by omega) (by omega)).fr F3 (by omega) (by omega)
  simp only [w81_0, w81_0n, w81_1, w81_2, w81_3, w81_4, w81_7, w81_9, w81_10, w81_11, w81_11n, w81_12, w81_13, w81_14, w81_15, w81_18, w81_20, w81_21, w81_23, w81_23n, w81_24, w81_27, w81_30, w81_31, w81_33, w81_36, w81_36n, w81_37, w81_40, w81_43, w81_46, w81_46n, w81_47, w81_50, w81_53, w81_56, w81_56n, w81_57, w81_60, w81_63, w81_64, w81_65, w81_66, w81_68, w81_69, w81_71, w81_72, w81_76, w81_77, w81_80, w81_83, w81_84, w81_88, w81_90, w81_93, w81_93n, w81_94, w81_97, w81_100, w81_102, w81_102n, w81_103, w81_105, w81_108, w81_111, w81_114, w81_117, w81_120, w81_123, w81_126, w81_132, xk_n, xk_i, xk_r, xk_z, xk_l, xcs_0, xcs_i, xcs_r, xcs_z, xcs_l, Nat.reduceAdd, Nat.reduceLeDiff, Nat.reduceLT, true_and, and_true, Option.toList_some, Option.toList_none, List.nil_append, List.cons_append, List.getElem?_cons_zero, List.getElem?_cons_succ, List.set_cons_zero, List.set_cons_succ, List.length_cons, List.length_nil, y_bool0, y_bool1, not_true_eq_false, not_false_eq_true, false_implies, true_implies, true_or, or_true, false_or, or_false, if_true, if_false, ite_true, ite_false, y_get, me3, rl3.cls]
  refine wp_clr rl3 fun g4 A4 F4 => ?_
  have me4 := F4.at me3 (by omega)
  have bd4 := F4.at bd3 (by omega)
  have P4 := ((P1.fr F2 (by omega) (by omega)).fr F3 (by omega) (by omega)).fr F4 (by omega) (by omega)
  have sh4 : ∀ j, j < 4 → SH g4 (17 + 2 * j) (sSh s j).1 (sSh s j).2.1 (sSh s j).2.2 := fun j hj => ((((a8 j hj).fr F1 (by omega) (by omega)).fr F2 (by omega) (by omega)).fr F3 (by omega) (by omega)).fr F4 (by omega) (by omega)
  simp only [w81_0, w81_0n, w81_1, w81_2, w81_3, w81_4, w81_7, w81_9, w81_10, w81_11, w81_11n, w81_12, w81_13, w81_14, w81_15, w81_18, w81_20, w81_21, w81_23, w81_23n, w81_24, w81_27, w81_30, w81_31, w81_33, w81_36, w81_36n, w81_37, w81_40, w81_43, w81_46, w81_46n, w81_47, w81_50, w81_53, w81_56, w81_56n, w81_57, w81_60, w81_63, w81_64, w81_65, w81_66, w81_68, w81_69, w81_71, w81_72, w81_76, w81_77, w81_80, w81_83, w81_84, w81_88, w81_90, w81_93, w81_93n, w81_94, w81_97, w81_100, w81_102, w81_102n, w81_103, w81_105, w81_108, w81_111, w81_114, w81_117, w81_120, w81_123, w81_126, w81_132, xk_n, xk_i, xk_r, xk_z, xk_l, xcs_0, xcs_i, xcs_r, xcs_z, xcs_l, Nat.reduceAdd, Nat.reduceLeDiff, Nat.reduceLT, true_and, and_true, Option.toList_some, Option.toList_none, List.nil_append, List.cons_append, List.getElem?_cons_zero, List.getElem?_cons_succ, List.set_cons_zero, List.set_cons_succ, List.length_cons, List.length_nil, y_bool0, y_bool1, not_true_eq_false, not_false_eq_true, false_implies, true_implies, true_or, or_true, false_or, or_false, if_true, if_false, ite_true, ite_false, z3]
  suffices hgoal : wp (d + 2) 81 74 [some (.ref 2), some (.ref (17 + 2 * k)), some (.int (Int32.ofNat i)), some (.int (Int32.ofNat hi)), some (.int (Int32.ofNat w)), some (.int (Int32.ofNat (i + (3 + 0 * w + 0)))), some (.int (Int32.ofNat (0 * w))), some (.int (Int32.ofNat 0)), none] [] g4 K by
    rw [Nat.zero_mul] at hgoal ⊢
    exact hgoal
  refine wp_layR (sT := fun c => (sgC ((sSh s k).2.2 (i + (4 + c + c / w)))).getD 0) w6 h5 (by omega) (fun row hrow col hcol => ?_) hi 0 g4 _ _ (by omega) me4 bd4 (sh4 k hk) P4 (fun c hc => by rw [Nat.zero_mul] at hc; omega) fun g5 H5 F5 => ?_
  · obtain ⟨x, x1, x2⟩ := hT row hrow col hcol
    refine ⟨by omega, ?_⟩
    rw [div_row hcol, x2]
    rfl
  · have FF : FR CP 0 0 h g5 := by
      have G1 : FR CP 0 0 h g1 := F1.mono (fun x _ z => Or.inl (by omega)) (Nat.le_refl _) (Nat.le_refl _)
      have G2 : FR CP 0 0 g1 g2 := F2.mono (fun x _ z => by unfold CP; omega) (Nat.le_refl _) (Nat.le_refl _)
      have G3 : FR CP 0 0 g2 g3 := F3.mono (fun x _ z => Or.inl (by omega)) (Nat.le_refl _) (Nat.le_refl _)
      have G4 : FR CP 0 0 g3 g4 := F4.mono (fun x _ z => by unfold CP; omega) (Nat.le_refl _) (Nat.le_refl _)
      have G5 : FR CP 0 0 g4 g5 := F5.mono (fun x _ z => Or.inl (by omega)) (Nat.le_refl _) (Nat.le_refl _)
      exact (((G1.tr G2).tr G3).tr G4).tr G5
    refine hK g5 ?_ FF
    obtain ⟨g, a6, a7⟩ := a6
    refine ⟨F5.at me4 (by omega), ⟨fun v => X v, L, c1, F5.at bd4 (by omega), H5, ((P3.fr F4 (by omega) (by omega)).fr F5 (by omega) (by omega)), ((((A2 vs).fr F3 (by omega) (by omega)).fr F4 (by omega) (by omega)).fr F5 (by omega) (by omega)), fun v hv => absurd hv (Nat.not_lt_zero v), fun u v hu => absurd hu (Nat.not_lt_zero u)⟩, ?_, (A4 rs).fr F5 (by omega) (by omega), fun r hr => absurd hr (Nat.not_lt_zero r), ⟨g, ?_, a7⟩, fun j hj => (sh4 j hj).fr F5 (by omega) (by omega), fun v hv => absurd hv (Nat.not_lt_zero v), b1, b2, b3, b4, b5, b6, by have := FF.1; omega⟩
    · refine ((((a3.fr F1 (fun x _ _ z => by omega) (by omega)).fr F2 (fun x _ _ z => by omega) (by omega)).fr F3 (fun x _ _ z => by omega) (by omega)).fr F4 (fun x _ _ z => by omega) (by omega)).fr F5 (fun x _ _ z => by omega) (by omega)
    · exact F5.at (F4.at (F3.at (F2.at (F1.at a6 (by omega)) (by omega)) (by omega)) (by omega)) (by omega)
