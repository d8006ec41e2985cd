/-! ===== the program's call garden ===== -/
theorem PL.ext {h : xH} {a w n : Nat} {s s' : Nat → Nat} (H : PL h a w n s) (hs : ∀ c, c < n → s' c = s c) : PL h a w n s' := by
  obtain ⟨a1, a2, a0, f, a3, a4, a5⟩ := H
  exact ⟨a1, a2, a0, f, a3, a4, fun c hc => by rw [hs c hc]; exact a5 c hc⟩
section
variable {d : Nat} {h : xH} {K : Option Value → xH → Prop} {a n i : Nat} {ln : Option Nat} {f : Nat → Int32}
theorem wp_layC {w hi row : Nat} {t fa : Int32} {lv : Int64} {sT : Nat → Nat} (hw : w ≤ 6) (hh : hi ≤ 5) (hrow : row < hi) (ha : 17 ≤ a) (hT : ∀ col, col < w → i + (4 + (row * w + col) + row) < n ∧ sgC (f (i + (4 + (row * w + col) + row))) = some (sT (row * w + col))) : ∀ (j col : Nat) (h : xH) (s : Nat → Nat), col + j = w → h[2]? = some (.inr (7, [.ref 3, .ref 9, .ref 15, .ref 16, .int t, .int fa])) → h[3]? = some (.inr (1, [.ref (3 + 1), .ref (3 + 3), .ref (3 + 5), .long lv])) → SH h a ln n f → PL h 4 w (hi * w) s → (∀ c, c < row * w + col → s c = sT c) → (∀ h' s', PL h' 4 w (hi * w) s' → (∀ c, c < row * w + w → s' c = sT c) → FR (fun b => b = 5) 0 0 h h' → ∀ l8, wp (d + 2) 81 129 [some (.ref 2), some (.ref a), some (.int (Int32.ofNat i)), some (.int (Int32.ofNat hi)), some (.int (Int32.ofNat w)), some (.int (Int32.ofNat (i + (4 + (row * w + w) + row)))), some (.int (Int32.ofNat (row * w + w))), some (.int (Int32.ofNat (row + 1))), l8] [] h' K) → wp (d + 2) 81 86 [some (.ref 2), some (.ref a), some (.int (Int32.ofNat i)), some (.int (Int32.ofNat hi)), some (.int (Int32.ofNat w)), some (.int (Int32.ofNat (i + (4 + (row * w + col) + row)))), some (.int (Int32.ofNat (row * w + col))), some (.int (Int32.ofNat row)), some (.int (Int32.ofNat col))] [] h K
  | 0, col, h, s, hc, hme, hbd, hS, hP, hs, hK => by
    have : col = w := by omega
    subst this
    have z6 : Int32.ofNat col ≤ Int32.ofNat col := (n_le (by omega) (by omega)).mpr (by omega)
    have z8 : Int32.ofNat row + 1 = Int32.ofNat (row + 1) := n_addl row 1
    rw [w81_86]
    simp only [w81_0, w81_0n, w81_1, w81_2, w81_3, w81_4, w81_7, w81_9, w81_10, w81_11, w81_11n, w81_12, w81_13, w81_14, w81_15, w81_18, w81_20, w81_21, w81_23, w81_23n, w81_24, w81_27, w81_30, w81_31, w81_33, w81_36, w81_36n, w81_37, w81_40, w81_43, w81_46, w81_46n, w81_47, w81_50, w81_53, w81_56, w81_56n, w81_57, w81_60, w81_63, w81_64, w81_65, w81_66, w81_68, w81_69, w81_71, w81_72, w81_76, w81_77, w81_80, w81_83, w81_84, w81_88, w81_90, w81_93, w81_93n, w81_94, w81_97, w81_100, w81_102, w81_102n, w81_103, w81_105, w81_108, w81_111, w81_114, w81_117, w81_120, w81_123, w81_126, w81_132, xk_n, xk_i, xk_r, xk_z, xk_l, xcs_0, xcs_i, xcs_r, xcs_z, xcs_l, Nat.reduceAdd, Nat.reduceLeDiff, Nat.reduceLT, true_and, and_true, Option.toList_some, Option.toList_none, List.nil_append, List.cons_append, List.getElem?_cons_zero, List.getElem?_cons_succ, List.set_cons_zero, List.set_cons_succ, List.length_cons, List.length_nil, y_bool0, y_bool1, not_true_eq_false, not_false_eq_true, false_implies, true_implies, true_or, or_true, false_or, or_false, if_true, if_false, ite_true, ite_false, z6, z8]
    exact hK h s hP hs FR.rfl' _
  | j + 1, col, h, s, hc, hme, hbd, hS, hP, hs, hK => by
    have hcw : col < w := by omega
    obtain ⟨t1, t2⟩ := hT col hcw
    have hn50 := hS.2.2.2.1
    have hrw : (row + 1) * w ≤ hi * w := Nat.mul_le_mul_right _ (by omega)
    rw [Nat.succ_mul] at hrw
    have hn30 : hi * w ≤ 30 := Nat.mul_le_mul hh hw
    have z6 : (Int32.ofNat w ≤ Int32.ofNat col) = False := eq_false (by rw [n_le (by omega) (by omega)]; omega)
    have z7 : Int32.ofNat (i + (4 + (row * w + col) + row)) + 1 = Int32.ofNat (i + (4 + (row * w + (col + 1)) + row)) := by rw [show i + (4 + (row * w + (col + 1)) + row) = i + (4 + (row * w + col) + row) + 1 by omega]; exact n_addl _ 1
    have z8 : Int32.ofNat (row * w + col) + 1 = Int32.ofNat (row * w + (col + 1)) := n_addl _ 1
    have z9 : Int32.ofNat col + 1 = Int32.ofNat (col + 1) := n_addl _ 1
    have z5 : oC (some (sT (row * w + col))) = Int32.ofNat (sT (row * w + col)) := rfl
    have hlt := sgC_lt t2
    rw [w81_86]
    simp only [w81_0, w81_0n, w81_1, w81_2, w81_3, w81_4, w81_7, w81_9, w81_10, w81_11, w81_11n, w81_12, w81_13, w81_14, w81_15, w81_18, w81_20, w81_21, w81_23, w81_23n, w81_24, w81_27, w81_30, w81_31, w81_33, w81_36, w81_36n, w81_37, w81_40, w81_43, w81_46, w81_46n, w81_47, w81_50, w81_53, w81_56, w81_56n, w81_57, w81_60, w81_63, w81_64, w81_65, w81_66, w81_68, w81_69, w81_71, w81_72, w81_76, w81_77, w81_80, w81_83, w81_84, w81_88, w81_90, w81_93, w81_93n, w81_94, w81_97, w81_100, w81_102, w81_102n, w81_103, w81_105, w81_108, w81_111, w81_114, w81_117, w81_120, w81_123, w81_126, w81_132, xk_n, xk_i, xk_r, xk_z, xk_l, xcs_0, xcs_i, xcs_r, xcs_z, xcs_l, Nat.reduceAdd, Nat.reduceLeDiff, Nat.reduceLT, true_and, and_true, Option.toList_some, Option.toList_none, List.nil_append, List.cons_append, List.getElem?_cons_zero, List.getElem?_cons_succ, List.set_cons_zero, List.set_cons_succ, List.length_cons, List.length_nil, y_bool0, y_bool1, not_true_eq_false, not_false_eq_true, false_implies, true_implies, true_or, or_true, false_or, or_false, if_true, if_false, ite_true, ite_false, z6, y_get, hme, hbd, hS.cls, wp_read hS t1, wp_signOfCode, t2, z5, hP.cls]
    refine wp_mark hP (by omega) hlt fun h1 H1 F1 => ?_
    simp only [w81_0, w81_0n, w81_1, w81_2, w81_3, w81_4, w81_7, w81_9, w81_10, w81_11, w81_11n, w81_12, w81_13, w81_14, w81_15, w81_18, w81_20, w81_21, w81_23, w81_23n, w81_24, w81_27, w81_30, w81_31, w81_33, w81_36, w81_36n, w81_37, w81_40, w81_43, w81_46, w81_46n, w81_47, w81_50, w81_53, w81_56, w81_56n, w81_57, w81_60, w81_63, w81_64, w81_65, w81_66, w81_68, w81_69, w81_71, w81_72, w81_76, w81_77, w81_80, w81_83, w81_84, w81_88, w81_90, w81_93, w81_93n, w81_94, w81_97, w81_100, w81_102, w81_102n, w81_103, w81_105, w81_108, w81_111, w81_114, w81_117, w81_120, w81_123, w81_126, w81_132, xk_n, xk_i, xk_r, xk_z, xk_l, xcs_0, xcs_i, xcs_r, xcs_z, xcs_l, Nat.reduceAdd, Nat.reduceLeDiff, Nat.reduceLT, true_and, and_true, Option.toList_some, Option.toList_none, List.nil_append, List.cons_append, List.getElem?_cons_zero, List.getElem?_cons_succ, List.set_cons_zero, List.set_cons_succ, List.length_cons, List.length_nil, y_bool0, y_bool1, not_true_eq_false, not_false_eq_true, false_implies, true_implies, true_or, or_true, false_or, or_false, if_true, if_false, ite_true, ite_false, z7, z8, z9]
    refine wp_layC hw hh hrow ha hT j (col + 1) h1 _ (by omega) (F1.at hme (by omega)) (F1.at hbd (by omega)) (hS.fr F1 (by omega) (by omega)) H1 ?_ fun h' s' H' hs' F' l8 => hK h' s' H' hs' (F1.tr F') l8
    intro c hc
    unfold upN
    split
    · rename_i q; rw [q]
    · exact hs c (by omega)
end
