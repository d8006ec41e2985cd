/-! ===== the program's calls: prop, closed, first ===== -/
def mayC (E : Gd) (sg c : Nat) : Bool := (if sg = 2 then gs E c == 0 else gs E c != 1) && !plF E c (gv E) 0
/-- the best cell so far that becomes a sign, and the day then -/
def chF (E : Gd) (fr : Nat → Bool) (v sg : Nat) : Nat → Option Nat × Option Nat
  | 0 => (none, outD E fr v)
  | c + 1 => if mayC E sg c && earO (outD (edS E (upN (gs E) c sg)) fr v) (chF E fr v sg c).2 then (some c, outD (edS E (upN (gs E) c sg)) fr v) else chF E fr v sg c
theorem chF_s (E : Gd) (fr : Nat → Bool) (v sg c : Nat) : chF E fr v sg (c + 1) = if mayC E sg c && earO (outD (edS E (upN (gs E) c sg)) fr v) (chF E fr v sg c).2 then (some c, outD (edS E (upN (gs E) c sg)) fr v) else chF E fr v sg c := rfl
theorem chF_lt {E : Gd} {fr : Nat → Bool} {v sg : Nat} : ∀ k x, (chF E fr v sg k).2 = some x → x < 1000
  | 0, x, h => outD_lt x h
  | k + 1, x, h => by
    rw [chF_s] at h
    split at h
    · exact outD_lt x h
    · exact chF_lt k x h
def opChange (s : St) (v w : Int32) (sg : Nat) : Int32 := match nb v (gv (sE s)) with
  | none => -1
  | some v => match nb w 2 with
    | none => -2
    | some w => if w = 0 then oC (chF (sE s) (sFr s) v sg (gn (sE s))).1 else oC (chF (sE s) (sFr s) v sg (gn (sE s))).2
theorem edS_sm (E : Gd) (c x : Nat) : edS (edS E (upN (gs E) c x)) (upN (gs (edS E (upN (gs E) c x))) c (gs E c)) = E := by
  show (gw E, gn E, upN (upN (gs E) c x) c (gs E c), gv E, gk E, gp E, gh E) = E
  rw [upN_up, upN_sm]
section
variable {d : Nat} {K : Option Value → xH → Prop} {e : Nat} {E : Gd} {fr : Nat → Bool} {vs : Nat → Nat}
/-- what a trial of a bed may write -/
def TP (q n : Nat) (vs : Nat → Nat) (a : Nat) : Prop := a = q ∨ a = q + 2 ∨ ∃ v, v < n ∧ a = vs v
theorem wp_ch {t f : Int32} {a b c v sg : Nat} {l1 l2 : Option Value} (hE : okE E) (hv : v < gv E) (hvs : ∀ u, u < gv E → vs u ≠ 2) (hsg : sg = 1 ∨ sg = 2) (hs4 : ∀ c, c < gn E → gs E c < 4) : ∀ (j k : Nat) (h : xH) (l8 l9 l10 : Option Value), k + j = gn E → h[2]? = some (.inr (7, [.ref 3, .ref a, .ref b, .ref c, .int t, .int f])) → BX h 3 e E fr vs → (∀ h' l7 l8 l9 l10, BX h' 3 e E fr vs → FR (TP 3 (gv E) vs) 0 0 h h' → wp (d + 6) 82 185 [some (.ref 2), l1, l2, some (.int (Int32.ofNat sg)), some (.ref (vs v)), some (.int (oC (chF E fr v sg (gn E)).1)), some (.int (oC (chF E fr v sg (gn E)).2)), l7, l8, l9, l10] [] h' K) → wp (d + 6) 82 46 [some (.ref 2), l1, l2, some (.int (Int32.ofNat sg)), some (.ref (vs v)), some (.int (oC (chF E fr v sg k).1)), some (.int (oC (chF E fr v sg k).2)), some (.int (Int32.ofNat k)), l8, l9, l10] [] h K
  | 0, k, h, l8, l9, l10, hj, h2, ⟨X, L, B⟩, hK => by
    have hn := hE.1.2.2.1
    have hkn : k = gn E := by omega
    subst hkn
    have q : Int32.ofNat (gn E) ≤ Int32.ofNat (gn E) := (n_le (by omega) (by omega)).mpr (by omega)
    rw [w82_46]
    simp only [w82_0, w82_0n, w82_1, w82_4, w82_5, w82_8, w82_8n, w82_10, w82_10n, w82_12, w82_12n, w82_15, w82_16, w82_17, w82_18, w82_19, w82_22, w82_25, w82_27, w82_28, w82_30, w82_32, w82_32n, w82_33, w82_36, w82_36n, w82_38, w82_41, w82_43, w82_44, w82_48, w82_48n, w82_49, w82_52, w82_55, w82_58, w82_61, w82_61n, w82_62, w82_65, w82_68, w82_70, w82_73, w82_75, w82_76, w82_77, w82_80, w82_82, w82_85, w82_86, w82_89, w82_90, w82_93, w82_95, w82_96, w82_99, w82_100, w82_103, w82_104, w82_106, w82_108, w82_111, w82_111n, w82_112, w82_115, w82_117, w82_120, w82_123, w82_123n, w82_124, w82_127, w82_130, w82_132, w82_133, w82_136, w82_136n, w82_137, w82_140, w82_140n, w82_142, w82_145, w82_147, w82_147n, w82_148, w82_151, w82_154, w82_156, w82_158, w82_161, w82_163, w82_165, w82_168, w82_171, w82_173, w82_175, w82_177, w82_179, w82_182, w82_186, w82_189, w82_191, w82_194, w82_196, xk_n, xk_i, xk_r, xk_z, xk_l, xcs_0, xcs_i, xcs_r, xcs_z, xcs_l, Nat.reduceAdd, Nat.reduceLeDiff, Nat.reduceLT, true_and, and_true, Option.toList_some, Option.toList_none, List.nil_append, List.cons_append, List.getElem?_cons_zero, List.getElem?_cons_succ, List.set_cons_zero, List.set_cons_succ, List.length_cons, List.length_nil, y_bool0, y_bool1, not_true_eq_false, not_false_eq_true, false_implies, true_implies, true_or, or_true, false_or, or_false, if_true, if_false, ite_true, ite_false, y_get, h2, B.bed, B.pl.1, q]
    exact hK _ _ _ _ _ ⟨X, L, B⟩ FR.rfl'
  | j + 1, k, h, l8, l9, l10, hj, h2, ⟨X, L, B⟩, hK => by
    have hn := hE.1.2.2.1
    have hkn : k < gn E := by omega
    have q : (Int32.ofNat (gn E) ≤ Int32.ofNat k) = False := eq_false (by rw [n_le (by omega) (by omega)]; omega)
    have z8 : Int32.ofNat k + 1 = Int32.ofNat (k + 1) := n_addl k 1
    have z10 : ((1 : Int32) = 0) = False := eq_false (by decide)
    have hs := hs4 k hkn
    have t0 : (Int32.ofNat (gs E k) = 0) = (gs E k = 0) := propext (n_eql (m := 0) (by omega) (by omega))
    have t1 : (Int32.ofNat (gs E k) = 1) = (gs E k = 1) := propext (n_eql (m := 1) (by omega) (by omega))
    have t2 : (Int32.ofNat sg = 2) = (sg = 2) := propext (n_eql (m := 2) (by omega) (by omega))
    have ls := chF_s E fr v sg k
    -- what is done where the cell may not become a sign
    have skip : ∀ l9 l10 : Option Value, mayC E sg k = false → wp (d + 6) 82 46 [some (.ref 2), l1, l2, some (.int (Int32.ofNat sg)), some (.ref (vs v)), some (.int (oC (chF E fr v sg k).1)), some (.int (oC (chF E fr v sg k).2)), some (.int (Int32.ofNat (k + 1))), some (.int (Int32.ofNat (gs E k))), l9, l10] [] h K := by
      intro l9 l10 hm
      rw [hm, Bool.false_and, if_neg (by simp)] at ls
      rw [← ls]
      exact wp_ch hE hv hvs hsg hs4 j (k + 1) h _ _ _ (by omega) h2 ⟨X, L, B⟩ hK
    -- the trial itself
    have trial : ∀ l9 l10 : Option Value, mayC E sg k = true → wp (d + 6) 82 123 [some (.ref 2), l1, l2, some (.int (Int32.ofNat sg)), some (.ref (vs v)), some (.int (oC (chF E fr v sg k).1)), some (.int (oC (chF E fr v sg k).2)), some (.int (Int32.ofNat k)), some (.int (Int32.ofNat (gs E k))), l9, l10] [] h K := by
      intro l9 l10 hm
      rw [hm, Bool.true_and] at ls
      simp only [w82_0, w82_0n, w82_1, w82_4, w82_5, w82_8, w82_8n, w82_10, w82_10n, w82_12, w82_12n, w82_15, w82_16, w82_17, w82_18, w82_19, w82_22, w82_25, w82_27, w82_28, w82_30, w82_32, w82_32n, w82_33, w82_36, w82_36n, w82_38, w82_41, w82_43, w82_44, w82_48, w82_48n, w82_49, w82_52, w82_55, w82_58, w82_61, w82_61n, w82_62, w82_65, w82_68, w82_70, w82_73, w82_75, w82_76, w82_77, w82_80, w82_82, w82_85, w82_86, w82_89, w82_90, w82_93, w82_95, w82_96, w82_99, w82_100, w82_103, w82_104, w82_106, w82_108, w82_111, w82_111n, w82_112, w82_115, w82_117, w82_120, w82_123, w82_123n, w82_124, w82_127, w82_130, w82_132, w82_133, w82_136, w82_136n, w82_137, w82_140, w82_140n, w82_142, w82_145, w82_147, w82_147n, w82_148, w82_151, w82_154, w82_156, w82_158, w82_161, w82_163, w82_165, w82_168, w82_171, w82_173, w82_175, w82_177, w82_179, w82_182, w82_186, w82_189, w82_191, w82_194, w82_196, xk_n, xk_i, xk_r, xk_z, xk_l, xcs_0, xcs_i, xcs_r, xcs_z, xcs_l, Nat.reduceAdd, Nat.reduceLeDiff, Nat.reduceLT, true_and, and_true, Option.toList_some, Option.toList_none, List.nil_append, List.cons_append, List.getElem?_cons_zero, List.getElem?_cons_succ, List.set_cons_zero, List.set_cons_succ, List.length_cons, List.length_nil, y_bool0, y_bool1, not_true_eq_false, not_false_eq_true, false_implies, true_implies, true_or, or_true, false_or, or_false, if_true, if_false, ite_true, ite_false, y_get, h2, B.bed, B.pl.cls]
      refine wp_mark B.pl hkn (x := sg) (by omega) fun h1 P1 F1 => ?_
      have B1 := B.mk P1 F1
      have h12 := F1.at h2 (by omega)
      simp only [w82_0, w82_0n, w82_1, w82_4, w82_5, w82_8, w82_8n, w82_10, w82_10n, w82_12, w82_12n, w82_15, w82_16, w82_17, w82_18, w82_19, w82_22, w82_25, w82_27, w82_28, w82_30, w82_32, w82_32n, w82_33, w82_36, w82_36n, w82_38, w82_41, w82_43, w82_44, w82_48, w82_48n, w82_49, w82_52, w82_55, w82_58, w82_61, w82_61n, w82_62, w82_65, w82_68, w82_70, w82_73, w82_75, w82_76, w82_77, w82_80, w82_82, w82_85, w82_86, w82_89, w82_90, w82_93, w82_95, w82_96, w82_99, w82_100, w82_103, w82_104, w82_106, w82_108, w82_111, w82_111n, w82_112, w82_115, w82_117, w82_120, w82_123, w82_123n, w82_124, w82_127, w82_130, w82_132, w82_133, w82_136, w82_136n, w82_137, w82_140, w82_140n, w82_142, w82_145, w82_147, w82_147n, w82_148, w82_151, w82_154, w82_156, w82_158, w82_161, w82_163, w82_165, w82_168, w82_171, w82_173, w82_175, w82_177, w82_179, w82_182, w82_186, w82_189, w82_191, w82_194, w82_196, xk_n, xk_i, xk_r, xk_z, xk_l, xcs_0, xcs_i, xcs_r, xcs_z, xcs_l, Nat.reduceAdd, Nat.reduceLeDiff, Nat.reduceLT, true_and, and_true, Option.toList_some, Option.toList_none, List.nil_append, List.cons_append, List.getElem?_cons_zero, List.getElem?_cons_succ, List.set_cons_zero, List.set_cons_succ, List.length_cons, List.length_nil, y_bool0, y_bool1, not_true_eq_false, not_false_eq_true, false_implies, true_implies, true_or, or_true, false_or, or_false, if_true, if_false, ite_true, ite_false, y_get, h12, B1.cls]
      refine wp_outDay (v := v) (okE_S hE _) ⟨X, L, B1⟩ hv fun h3 ⟨X3, L3, B3⟩ F3 => ?_
      have h32 := F3.at h12 (by rintro (z | ⟨u, u1, u2⟩); omega; exact hvs u u1 u2.symm)
      have ee : oC (dayM fr (vo (runM (edS E (upN (gs E) k sg)) 80 v))) = oC (outD (edS E (upN (gs E) k sg)) fr v) := rfl
      simp only [w82_0, w82_0n, w82_1, w82_4, w82_5, w82_8, w82_8n, w82_10, w82_10n, w82_12, w82_12n, w82_15, w82_16, w82_17, w82_18, w82_19, w82_22, w82_25, w82_27, w82_28, w82_30, w82_32, w82_32n, w82_33, w82_36, w82_36n, w82_38, w82_41, w82_43, w82_44, w82_48, w82_48n, w82_49, w82_52, w82_55, w82_58, w82_61, w82_61n, w82_62, w82_65, w82_68, w82_70, w82_73, w82_75, w82_76, w82_77, w82_80, w82_82, w82_85, w82_86, w82_89, w82_90, w82_93, w82_95, w82_96, w82_99, w82_100, w82_103, w82_104, w82_106, w82_108, w82_111, w82_111n, w82_112, w82_115, w82_117, w82_120, w82_123, w82_123n, w82_124, w82_127, w82_130, w82_132, w82_133, w82_136, w82_136n, w82_137, w82_140, w82_140n, w82_142, w82_145, w82_147, w82_147n, w82_148, w82_151, w82_154, w82_156, w82_158, w82_161, w82_163, w82_165, w82_168, w82_171, w82_173, w82_175, w82_177, w82_179, w82_182, w82_186, w82_189, w82_191, w82_194, w82_196, xk_n, xk_i, xk_r, xk_z, xk_l, xcs_0, xcs_i, xcs_r, xcs_z, xcs_l, Nat.reduceAdd, Nat.reduceLeDiff, Nat.reduceLT, true_and, and_true, Option.toList_some, Option.toList_none, List.nil_append, List.cons_append, List.getElem?_cons_zero, List.getElem?_cons_succ, List.set_cons_zero, List.set_cons_succ, List.length_cons, List.length_nil, y_bool0, y_bool1, not_true_eq_false, not_false_eq_true, false_implies, true_implies, true_or, or_true, false_or, or_false, if_true, if_false, ite_true, ite_false, y_get, h32, B3.bed, B3.pl.cls, ee]
      refine wp_mark B3.pl hkn (x := gs E k) hs fun h4 P4 F4 => ?_
      have B4 := B3.mk P4 F4
      have eE := edS_sm E k sg
      rw [eE] at B4
      have h42 := F4.at h32 (by omega)
      have F14 : FR (TP 3 (gv E) vs) 0 0 h h4 := (F1.trans F3 (R := TP 3 (gv E) vs) (fun _ _ z => Or.inr (Or.inl z)) (fun _ _ z => z.elim Or.inl (fun z => Or.inr (Or.inr z))) (Nat.le_refl _) (Nat.le_refl _)).trans F4 (fun _ _ z => z) (fun _ _ z => Or.inr (Or.inl z)) (Nat.le_refl _) (Nat.le_refl _)
      simp only [w82_0, w82_0n, w82_1, w82_4, w82_5, w82_8, w82_8n, w82_10, w82_10n, w82_12, w82_12n, w82_15, w82_16, w82_17, w82_18, w82_19, w82_22, w82_25, w82_27, w82_28, w82_30, w82_32, w82_32n, w82_33, w82_36, w82_36n, w82_38, w82_41, w82_43, w82_44, w82_48, w82_48n, w82_49, w82_52, w82_55, w82_58, w82_61, w82_61n, w82_62, w82_65, w82_68, w82_70, w82_73, w82_75, w82_76, w82_77, w82_80, w82_82, w82_85, w82_86, w82_89, w82_90, w82_93, w82_95, w82_96, w82_99, w82_100, w82_103, w82_104, w82_106, w82_108, w82_111, w82_111n, w82_112, w82_115, w82_117, w82_120, w82_123, w82_123n, w82_124, w82_127, w82_130, w82_132, w82_133, w82_136, w82_136n, w82_137, w82_140, w82_140n, w82_142, w82_145, w82_147, w82_147n, w82_148, w82_151, w82_154, w82_156, w82_158, w82_161, w82_163, w82_165, w82_168, w82_171, w82_173, w82_175, w82_177, w82_179, w82_182, w82_186, w82_189, w82_191, w82_194, w82_196, xk_n, xk_i, xk_r, xk_z, xk_l, xcs_0, xcs_i, xcs_r, xcs_z, xcs_l, Nat.reduceAdd, Nat.reduceLeDiff, Nat.reduceLT, true_and, and_true, Option.toList_some, Option.toList_none, List.nil_append, List.cons_append, List.getElem?_cons_zero, List.getElem?_cons_succ, List.set_cons_zero, List.set_cons_succ, List.length_cons, List.length_nil, y_bool0, y_bool1, not_true_eq_false, not_false_eq_true, false_implies, true_implies, true_or, or_true, false_or, or_false, if_true, if_false, ite_true, ite_false, wp_isEarlier outD_lt (chF_lt k)]
      cases q2 : earO (outD (edS E (upN (gs E) k sg)) fr v) (chF E fr v sg k).2
      · rw [q2, if_neg (by simp)] at ls
        simp only [w82_0, w82_0n, w82_1, w82_4, w82_5, w82_8, w82_8n, w82_10, w82_10n, w82_12, w82_12n, w82_15, w82_16, w82_17, w82_18, w82_19, w82_22, w82_25, w82_27, w82_28, w82_30, w82_32, w82_32n, w82_33, w82_36, w82_36n, w82_38, w82_41, w82_43, w82_44, w82_48, w82_48n, w82_49, w82_52, w82_55, w82_58, w82_61, w82_61n, w82_62, w82_65, w82_68, w82_70, w82_73, w82_75, w82_76, w82_77, w82_80, w82_82, w82_85, w82_86, w82_89, w82_90, w82_93, w82_95, w82_96, w82_99, w82_100, w82_103, w82_104, w82_106, w82_108, w82_111, w82_111n, w82_112, w82_115, w82_117, w82_120, w82_123, w82_123n, w82_124, w82_127, w82_130, w82_132, w82_133, w82_136, w82_136n, w82_137, w82_140, w82_140n, w82_142, w82_145, w82_147, w82_147n, w82_148, w82_151, w82_154, w82_156, w82_158, w82_161, w82_163, w82_165, w82_168, w82_171, w82_173, w82_175, w82_177, w82_179, w82_182, w82_186, w82_189, w82_191, w82_194, w82_196, xk_n, xk_i, xk_r, xk_z, xk_l, xcs_0, xcs_i, xcs_r, xcs_z, xcs_l, Nat.reduceAdd, Nat.reduceLeDiff, Nat.reduceLT, true_and, and_true, Option.toList_some, Option.toList_none, List.nil_append, List.cons_append, List.getElem?_cons_zero, List.getElem?_cons_succ, List.set_cons_zero, List.set_cons_succ, List.length_cons, List.length_nil, y_bool0, y_bool1, not_true_eq_false, not_false_eq_true, false_implies, true_implies, true_or, or_true, false_or, or_false, if_true, if_false, ite_true, ite_false, bi_f, z8]
        rw [← ls]
        exact wp_ch hE hv hvs hsg hs4 j (k + 1) h4 _ _ _ (by omega) h42 ⟨_, _, B4⟩ fun h' l7 l8 l9 l10 a1 a2 => hK h' l7 l8 l9 l10 a1 (F14.tr a2)
      · rw [q2, if_pos rfl] at ls
        simp only [w82_0, w82_0n, w82_1, w82_4, w82_5, w82_8, w82_8n, w82_10, w82_10n, w82_12, w82_12n, w82_15, w82_16, w82_17, w82_18, w82_19, w82_22, w82_25, w82_27, w82_28, w82_30, w82_32, w82_32n, w82_33, w82_36, w82_36n, w82_38, w82_41, w82_43, w82_44, w82_48, w82_48n, w82_49, w82_52, w82_55, w82_58, w82_61, w82_61n, w82_62, w82_65, w82_68, w82_70, w82_73, w82_75, w82_76, w82_77, w82_80, w82_82, w82_85, w82_86, w82_89, w82_90, w82_93, w82_95, w82_96, w82_99, w82_100, w82_103, w82_104, w82_106, w82_108, w82_111, w82_111n, w82_112, w82_115, w82_117, w82_120, w82_123, w82_123n, w82_124, w82_127, w82_130, w82_132, w82_133, w82_136, w82_136n, w82_137, w82_140, w82_140n, w82_142, w82_145, w82_147, w82_147n, w82_148, w82_151, w82_154, w82_156, w82_158, w82_161, w82_163, w82_165, w82_168, w82_171, w82_173, w82_175, w82_177, w82_179, w82_182, w82_186, w82_189, w82_191, w82_194, w82_196, xk_n, xk_i, xk_r, xk_z, xk_l, xcs_0, xcs_i, xcs_r, xcs_z, xcs_l, Nat.reduceAdd, Nat.reduceLeDiff, Nat.reduceLT, true_and, and_true, Option.toList_some, Option.toList_none, List.nil_append, List.cons_append, List.getElem?_cons_zero, List.getElem?_cons_succ, List.set_cons_zero, List.set_cons_succ, List.length_cons, List.length_nil, y_bool0, y_bool1, not_true_eq_false, not_false_eq_true, false_implies, true_implies, true_or, or_true, false_or, or_false, if_true, if_false, ite_true, ite_false, bi_t, z10, z8]
        have e1 : oC (chF E fr v sg (k + 1)).1 = Int32.ofNat k := by rw [ls]; rfl
        have e2 : (chF E fr v sg (k + 1)).2 = outD (edS E (upN (gs E) k sg)) fr v := by rw [ls]
        have := wp_ch (t := t) (f := f) (a := a) (b := b) (c := c) (l1 := l1) (l2 := l2) hE hv hvs hsg hs4 j (k + 1) h4 (some (.int (Int32.ofNat (gs E k)))) (xk l9) (some (.int (oC (outD (edS E (upN (gs E) k sg)) fr v)))) (by omega) h42 ⟨_, _, B4⟩ fun h' l7 l8 l9 l10 a1 a2 => hK h' l7 l8 l9 l10 a1 (F14.tr a2)
        rw [e1, e2] at this
        exact this
    rw [w82_46]
    simp only [w82_0, w82_0n, w82_1, w82_4, w82_5, w82_8, w82_8n, w82_10, w82_10n, w82_12, w82_12n, w82_15, w82_16, w82_17, w82_18, w82_19, w82_22, w82_25, w82_27, w82_28, w82_30, w82_32, w82_32n, w82_33, w82_36, w82_36n, w82_38, w82_41, w82_43, w82_44, w82_48, w82_48n, w82_49, w82_52, w82_55, w82_58, w82_61, w82_61n, w82_62, w82_65, w82_68, w82_70, w82_73, w82_75, w82_76, w82_77, w82_80, w82_82, w82_85, w82_86, w82_89, w82_90, w82_93, w82_95, w82_96, w82_99, w82_100, w82_103, w82_104, w82_106, w82_108, w82_111, w82_111n, w82_112, w82_115, w82_117, w82_120, w82_124, w82_127, w82_130, w82_132, w82_133, w82_136, w82_136n, w82_137, w82_140, w82_140n, w82_142, w82_145, w82_147, w82_147n, w82_148, w82_151, w82_154, w82_156, w82_158, w82_161, w82_163, w82_165, w82_168, w82_171, w82_173, w82_175, w82_177, w82_179, w82_182, w82_186, w82_189, w82_191, w82_194, w82_196, xk_n, xk_i, xk_r, xk_z, xk_l, xcs_0, xcs_i, xcs_r, xcs_z, xcs_l, Nat.reduceAdd, Nat.reduceLeDiff, Nat.reduceLT, true_and, and_true, Option.toList_some, Option.toList_none, List.nil_append, List.cons_append, List.getElem?_cons_zero, List.getElem?_cons_succ, List.set_cons_zero, List.set_cons_succ, List.length_cons, List.length_nil, y_bool0, y_bool1, not_true_eq_false, not_false_eq_true, false_implies, true_implies, true_or, or_true, false_or, or_false, if_true, if_false, ite_true, ite_false, y_get, h2, B.bed, B.pl.1, B.pl.cls, B.cls, q, wp_signOf (o := some k) B.pl (Or.inl ⟨k, rfl, hkn, rfl⟩), sgO_s, wp_isPlanted B hE (show k < 30 by omega), t0, t1, t2, z8, z10]
    have hmay : mayC E sg k = ((if sg = 2 then gs E k == 0 else gs E k != 1) && !plF E k (gv E) 0) := rfl
    rcases hsg with rfl | rfl
    · have r1 : (1 = 2) = False := eq_false (by decide)
      rw [if_neg (by decide)] at hmay
      simp only [r1, xk_n, xk_i, xk_r, xk_z, xk_l, xcs_0, xcs_i, xcs_r, xcs_z, xcs_l, Nat.reduceAdd, Nat.reduceLeDiff, Nat.reduceLT, true_and, and_true, Option.toList_some, Option.toList_none, List.nil_append, List.cons_append, List.getElem?_cons_zero, List.getElem?_cons_succ, List.set_cons_zero, List.set_cons_succ, List.length_cons, List.length_nil, y_bool0, y_bool1, not_true_eq_false, not_false_eq_true, false_implies, true_implies, true_or, or_true, false_or, or_false, if_true, if_false, ite_true, ite_false]
      by_cases g1 : gs E k = 1
      · have : mayC E 1 k = false := by rw [hmay, g1]; rfl
        exact ⟨fun _ => skip _ _ this, fun z => absurd g1 z⟩
      · have gb : (gs E k != 1) = true := by simp [g1]
        refine ⟨fun z => absurd z g1, fun _ => ?_⟩
        cases pl : plF E k (gv E) 0
        · simp only [bi_f, xk_n, xk_i, xk_r, xk_z, xk_l, xcs_0, xcs_i, xcs_r, xcs_z, xcs_l, Nat.reduceAdd, Nat.reduceLeDiff, Nat.reduceLT, true_and, and_true, Option.toList_some, Option.toList_none, List.nil_append, List.cons_append, List.getElem?_cons_zero, List.getElem?_cons_succ, List.set_cons_zero, List.set_cons_succ, List.length_cons, List.length_nil, y_bool0, y_bool1, not_true_eq_false, not_false_eq_true, false_implies, true_implies, true_or, or_true, false_or, or_false, if_true, if_false, ite_true, ite_false]
          exact trial _ _ (by rw [hmay, gb, pl]; rfl)
        · simp only [bi_t, z10, xk_n, xk_i, xk_r, xk_z, xk_l, xcs_0, xcs_i, xcs_r, xcs_z, xcs_l, Nat.reduceAdd, Nat.reduceLeDiff, Nat.reduceLT, true_and, and_true, Option.toList_some, Option.toList_none, List.nil_append, List.cons_append, List.getElem?_cons_zero, List.getElem?_cons_succ, List.set_cons_zero, List.set_cons_succ, List.length_cons, List.length_nil, y_bool0, y_bool1, not_true_eq_false, not_false_eq_true, false_implies, true_implies, true_or, or_true, false_or, or_false, if_true, if_false, ite_true, ite_false]
          exact skip _ _ (by rw [hmay, gb, pl]; rfl)
    · rw [if_pos rfl] at hmay
      simp only [xk_n, xk_i, xk_r, xk_z, xk_l, xcs_0, xcs_i, xcs_r, xcs_z, xcs_l, Nat.reduceAdd, Nat.reduceLeDiff, Nat.reduceLT, true_and, and_true, Option.toList_some, Option.toList_none, List.nil_append, List.cons_append, List.getElem?_cons_zero, List.getElem?_cons_succ, List.set_cons_zero, List.set_cons_succ, List.length_cons, List.length_nil, y_bool0, y_bool1, not_true_eq_false, not_false_eq_true, false_implies, true_implies, true_or, or_true, false_or, or_false, if_true, if_false, ite_true, ite_false]
      by_cases g1 : gs E k = 0
      · have gb : (gs E k == 0) = true := by simp [g1]
        refine ⟨fun z => absurd g1 z, fun _ => ?_⟩
        cases pl : plF E k (gv E) 0
        · simp only [bi_f, xk_n, xk_i, xk_r, xk_z, xk_l, xcs_0, xcs_i, xcs_r, xcs_z, xcs_l, Nat.reduceAdd, Nat.reduceLeDiff, Nat.reduceLT, true_and, and_true, Option.toList_some, Option.toList_none, List.nil_append, List.cons_append, List.getElem?_cons_zero, List.getElem?_cons_succ, List.set_cons_zero, List.set_cons_succ, List.length_cons, List.length_nil, y_bool0, y_bool1, not_true_eq_false, not_false_eq_true, false_implies, true_implies, true_or, or_true, false_or, or_false, if_true, if_false, ite_true, ite_false]
          exact trial _ _ (by rw [hmay, gb, pl]; rfl)
        · simp only [bi_t, z10, xk_n, xk_i, xk_r, xk_z, xk_l, xcs_0, xcs_i, xcs_r, xcs_z, xcs_l, Nat.reduceAdd, Nat.reduceLeDiff, Nat.reduceLT, true_and, and_true, Option.toList_some, Option.toList_none, List.nil_append, List.cons_append, List.getElem?_cons_zero, List.getElem?_cons_succ, List.set_cons_zero, List.set_cons_succ, List.length_cons, List.length_nil, y_bool0, y_bool1, not_true_eq_false, not_false_eq_true, false_implies, true_implies, true_or, or_true, false_or, or_false, if_true, if_false, ite_true, ite_false]
          exact skip _ _ (by rw [hmay, gb, pl]; rfl)
      · have : mayC E 2 k = false := by rw [hmay]; simp [g1]
        exact ⟨fun _ => skip _ _ this, fun z => absurd z g1⟩
end
section
variable {d : Nat} {h : xH} {K : Option Value → xH → Prop} {s : St}
theorem RC.T {h h' : xH} {s : St} {e em er : Nat} {vs rs : Nat → Nat} (H : RC h s e em er vs rs) {k m : Nat} (B : BX h' 3 e (sE s) (sFr s) vs) (F : FR (TP 3 (gv (sE s)) vs) k m h h') : RC h' s e em er vs rs ∧ FR CP k m h h' := H.B (E' := sE s) (fr' := sFr s) rfl B F (fun x hx => by
  rcases hx with z | z | z
  · exact Or.inl (by omega)
  · exact Or.inl (by omega)
  · exact Or.inr z)
theorem wp_best (H : RX h s) (v w : Int32) (sg : Nat) (hsg : sg = 1 ∨ sg = 2) (hK : ∀ h', RX h' s → FR CP 0 0 h h' → K (some (.int (opChange s v w sg))) h') : wp (d + 6) 82 0 [some (.ref 2), some (.int v), some (.int w), some (.int (Int32.ofNat sg)), none, none, none, none, none, none, none] [] h K := by
  have HX := H
  obtain ⟨hO, e, em, er, vs, rs, H⟩ := H
  have H0 := H
  obtain ⟨X, L, B⟩ := H.2.1
  have hv3 := hO.v3
  have z10 : ((1 : Int32) = 0) = False := eq_false (by decide)
  rcases nb_cas v (m := gv (sE s)) (by omega) with ⟨a, ha, rfl, hnb⟩ | ⟨hc, hnb⟩
  · rcases nb_cas w (m := 2) (by omega) with ⟨b, hb, rfl, hnb2⟩ | ⟨hc2, hnb2⟩
    · have hE := hO.ok ha
      have e1 : opChange s (Int32.ofNat a) (Int32.ofNat b) sg = if b = 0 then oC (chF (sE s) (sFr s) a sg (gn (sE s))).1 else oC (chF (sE s) (sFr s) a sg (gn (sE s))).2 := by unfold opChange; rw [hnb]; dsimp only; rw [hnb2]
      rw [e1] at hK
      have t0 : (Int32.ofNat b = 0) = (b = 0) := propext (n_eql (m := 0) (by omega) (by omega))
      have z0 : (0 : Int32) = Int32.ofNat 0 := rfl
      have z9 : (-9 : Int32) = oC none := rfl
      have hvs : ∀ u, u < gv (sE s) → vs u ≠ 2 := fun u hu => by have := H.2.2.2.2.2.2.2.1 u hu; omega
      simp only [w82_0, w82_0n, w82_1, w82_4, w82_5, w82_8, w82_8n, w82_10, w82_10n, w82_12, w82_12n, w82_15, w82_16, w82_17, w82_18, w82_19, w82_22, w82_25, w82_27, w82_28, w82_30, w82_32, w82_32n, w82_33, w82_36, w82_36n, w82_38, w82_41, w82_43, w82_44, w82_48, w82_48n, w82_49, w82_52, w82_55, w82_58, w82_61, w82_61n, w82_62, w82_65, w82_68, w82_70, w82_73, w82_75, w82_76, w82_77, w82_80, w82_82, w82_85, w82_86, w82_89, w82_90, w82_93, w82_95, w82_96, w82_99, w82_100, w82_103, w82_104, w82_106, w82_108, w82_111, w82_111n, w82_112, w82_115, w82_117, w82_120, w82_123, w82_123n, w82_124, w82_127, w82_130, w82_132, w82_133, w82_136, w82_136n, w82_137, w82_140, w82_140n, w82_142, w82_145, w82_147, w82_147n, w82_148, w82_151, w82_154, w82_156, w82_158, w82_161, w82_163, w82_165, w82_168, w82_171, w82_173, w82_175, w82_177, w82_179, w82_182, w82_186, w82_189, w82_191, w82_194, w82_196, xk_n, xk_i, xk_r, xk_z, xk_l, xcs_0, xcs_i, xcs_r, xcs_z, xcs_l, Nat.reduceAdd, Nat.reduceLeDiff, Nat.reduceLT, true_and, and_true, Option.toList_some, Option.toList_none, List.nil_append, List.cons_append, List.getElem?_cons_zero, List.getElem?_cons_succ, List.set_cons_zero, List.set_cons_succ, List.length_cons, List.length_nil, y_bool0, y_bool1, not_true_eq_false, not_false_eq_true, false_implies, true_implies, true_or, or_true, false_or, or_false, if_true, if_false, ite_true, ite_false, y_get, H.1, B.bed, B.cls, wp_vineAt B hv3 ha, wp_below_t (m := 2) (by omega) hb, z10]
      refine wp_outDay hE ⟨X, L, B⟩ ha fun h1 H1 F1 => ?_
      have ee : oC (dayM (sFr s) (vo (runM (sE s) 80 a))) = oC (outD (sE s) (sFr s) a) := rfl
      have h12 := F1.at H.1 (by rintro (z | ⟨u, u1, u2⟩); omega; exact hvs u u1 u2.symm)
      simp only [w82_0, w82_0n, w82_1, w82_4, w82_5, w82_8, w82_8n, w82_10, w82_10n, w82_12, w82_12n, w82_15, w82_16, w82_17, w82_18, w82_19, w82_22, w82_25, w82_27, w82_28, w82_30, w82_32, w82_32n, w82_33, w82_36, w82_36n, w82_38, w82_41, w82_43, w82_44, w82_48, w82_48n, w82_49, w82_52, w82_55, w82_58, w82_61, w82_61n, w82_62, w82_65, w82_68, w82_70, w82_73, w82_75, w82_76, w82_77, w82_80, w82_82, w82_85, w82_86, w82_89, w82_90, w82_93, w82_95, w82_96, w82_99, w82_100, w82_103, w82_104, w82_106, w82_108, w82_111, w82_111n, w82_112, w82_115, w82_117, w82_120, w82_123, w82_123n, w82_124, w82_127, w82_130, w82_132, w82_133, w82_136, w82_136n, w82_137, w82_140, w82_140n, w82_142, w82_145, w82_147, w82_147n, w82_148, w82_151, w82_154, w82_156, w82_158, w82_161, w82_163, w82_165, w82_168, w82_171, w82_173, w82_175, w82_177, w82_179, w82_182, w82_186, w82_189, w82_191, w82_194, w82_196, xk_n, xk_i, xk_r, xk_z, xk_l, xcs_0, xcs_i, xcs_r, xcs_z, xcs_l, Nat.reduceAdd, Nat.reduceLeDiff, Nat.reduceLT, true_and, and_true, Option.toList_some, Option.toList_none, List.nil_append, List.cons_append, List.getElem?_cons_zero, List.getElem?_cons_succ, List.set_cons_zero, List.set_cons_succ, List.length_cons, List.length_nil, y_bool0, y_bool1, not_true_eq_false, not_false_eq_true, false_implies, true_implies, true_or, or_true, false_or, or_false, if_true, if_false, ite_true, ite_false, ee]
      rw [z9]
      refine wp_ch (sg := sg) hE ha hvs hsg hO.2.2.2 (gn (sE s)) 0 h1 _ _ _ (by omega) h12 H1 fun h' l7 l8 l9 l10 H' F' => ?_
      have R := H0.T H' ((F1.mono (R := TP 3 (gv (sE s)) vs) (fun _ _ z => z.elim Or.inl (fun z => Or.inr (Or.inr z))) (Nat.le_refl _) (Nat.le_refl _)).tr F')
      have fin := hK h' ⟨hO, e, em, er, vs, rs, R.1⟩ R.2
      simp only [w82_0, w82_0n, w82_1, w82_4, w82_5, w82_8, w82_8n, w82_10, w82_10n, w82_12, w82_12n, w82_15, w82_16, w82_17, w82_18, w82_19, w82_22, w82_25, w82_27, w82_28, w82_30, w82_32, w82_32n, w82_33, w82_36, w82_36n, w82_38, w82_41, w82_43, w82_44, w82_48, w82_48n, w82_49, w82_52, w82_55, w82_58, w82_61, w82_61n, w82_62, w82_65, w82_68, w82_70, w82_73, w82_75, w82_76, w82_77, w82_80, w82_82, w82_85, w82_86, w82_89, w82_90, w82_93, w82_95, w82_96, w82_99, w82_100, w82_103, w82_104, w82_106, w82_108, w82_111, w82_111n, w82_112, w82_115, w82_117, w82_120, w82_123, w82_123n, w82_124, w82_127, w82_130, w82_132, w82_133, w82_136, w82_136n, w82_137, w82_140, w82_140n, w82_142, w82_145, w82_147, w82_147n, w82_148, w82_151, w82_154, w82_156, w82_158, w82_161, w82_163, w82_165, w82_168, w82_171, w82_173, w82_175, w82_177, w82_179, w82_182, w82_185, w82_186, w82_189, w82_191, w82_194, w82_196, xk_n, xk_i, xk_r, xk_z, xk_l, xcs_0, xcs_i, xcs_r, xcs_z, xcs_l, Nat.reduceAdd, Nat.reduceLeDiff, Nat.reduceLT, true_and, and_true, Option.toList_some, Option.toList_none, List.nil_append, List.cons_append, List.getElem?_cons_zero, List.getElem?_cons_succ, List.set_cons_zero, List.set_cons_succ, List.length_cons, List.length_nil, y_bool0, y_bool1, not_true_eq_false, not_false_eq_true, false_implies, true_implies, true_or, or_true, false_or, or_false, if_true, if_false, ite_true, ite_false, t0]
      by_cases q : b = 0
      · rw [if_pos q] at fin
        exact ⟨fun z => absurd q z, fun _ => fin⟩
      · rw [if_neg q] at fin
        exact ⟨fun _ => fin, fun z => absurd z q⟩
    · have e1 : opChange s (Int32.ofNat a) w sg = -2 := by unfold opChange; rw [hnb]; dsimp only; rw [hnb2]
      rw [e1] at hK
      simp only [w82_0, w82_0n, w82_1, w82_4, w82_5, w82_8, w82_8n, w82_10, w82_10n, w82_12, w82_12n, w82_15, w82_16, w82_17, w82_18, w82_19, w82_22, w82_25, w82_27, w82_28, w82_30, w82_32, w82_32n, w82_33, w82_36, w82_36n, w82_38, w82_41, w82_43, w82_44, w82_48, w82_48n, w82_49, w82_52, w82_55, w82_58, w82_61, w82_61n, w82_62, w82_65, w82_68, w82_70, w82_73, w82_75, w82_76, w82_77, w82_80, w82_82, w82_85, w82_86, w82_89, w82_90, w82_93, w82_95, w82_96, w82_99, w82_100, w82_103, w82_104, w82_106, w82_108, w82_111, w82_111n, w82_112, w82_115, w82_117, w82_120, w82_123, w82_123n, w82_124, w82_127, w82_130, w82_132, w82_133, w82_136, w82_136n, w82_137, w82_140, w82_140n, w82_142, w82_145, w82_147, w82_147n, w82_148, w82_151, w82_154, w82_156, w82_158, w82_161, w82_163, w82_165, w82_168, w82_171, w82_173, w82_175, w82_177, w82_179, w82_182, w82_186, w82_189, w82_191, w82_194, w82_196, xk_n, xk_i, xk_r, xk_z, xk_l, xcs_0, xcs_i, xcs_r, xcs_z, xcs_l, Nat.reduceAdd, Nat.reduceLeDiff, Nat.reduceLT, true_and, and_true, Option.toList_some, Option.toList_none, List.nil_append, List.cons_append, List.getElem?_cons_zero, List.getElem?_cons_succ, List.set_cons_zero, List.set_cons_succ, List.length_cons, List.length_nil, y_bool0, y_bool1, not_true_eq_false, not_false_eq_true, false_implies, true_implies, true_or, or_true, false_or, or_false, if_true, if_false, ite_true, ite_false, y_get, H.1, B.bed, B.cls, wp_vineAt B hv3 ha, wp_below_f (m := 2) hc2]
      exact hK h HX FR.rfl'
  · have e1 : opChange s v w sg = -1 := by unfold opChange; rw [hnb]
    rw [e1] at hK
    simp only [w82_0, w82_0n, w82_1, w82_4, w82_5, w82_8, w82_8n, w82_10, w82_10n, w82_12, w82_12n, w82_15, w82_16, w82_17, w82_18, w82_19, w82_22, w82_25, w82_27, w82_28, w82_30, w82_32, w82_32n, w82_33, w82_36, w82_36n, w82_38, w82_41, w82_43, w82_44, w82_48, w82_48n, w82_49, w82_52, w82_55, w82_58, w82_61, w82_61n, w82_62, w82_65, w82_68, w82_70, w82_73, w82_75, w82_76, w82_77, w82_80, w82_82, w82_85, w82_86, w82_89, w82_90, w82_93, w82_95, w82_96, w82_99, w82_100, w82_103, w82_104, w82_106, w82_108, w82_111, w82_111n, w82_112, w82_115, w82_117, w82_120, w82_123, w82_123n, w82_124, w82_127, w82_130, w82_132, w82_133, w82_136, w82_136n, w82_137, w82_140, w82_140n, w82_142, w82_145, w82_147, w82_147n, w82_148, w82_151, w82_154, w82_156, w82_158, w82_161, w82_163, w82_165, w82_168, w82_171, w82_173, w82_175, w82_177, w82_179, w82_182, w82_186, w82_189, w82_191, w82_194, w82_196, xk_n, xk_i, xk_r, xk_z, xk_l, xcs_0, xcs_i, xcs_r, xcs_z, xcs_l, Nat.reduceAdd, Nat.reduceLeDiff, Nat.reduceLT, true_and, and_true, Option.toList_some, Option.toList_none, List.nil_append, List.cons_append, List.getElem?_cons_zero, List.getElem?_cons_succ, List.set_cons_zero, List.set_cons_succ, List.length_cons, List.length_nil, y_bool0, y_bool1, not_true_eq_false, not_false_eq_true, false_implies, true_implies, true_or, or_true, false_or, or_false, if_true, if_false, ite_true, ite_false, y_get, H.1, B.bed, B.cls, wp_vineNo B hc]
    exact hK h HX FR.rfl'
theorem RX.cls (H : RX h s) : y_cls h 2 7 := by obtain ⟨hO, e, em, er, vs, rs, H⟩ := H; exact H.cls
theorem cop_prop (H : RX h s) (v w : Int32) (hK : ∀ h', RX h' s → FR CP 0 0 h h' → K (some (.int (opChange s v w 2))) h') : wp (d + 7) 55 0 [some (.ref 2), some (.int v), some (.int w)] [] h K := by
  have z : (2 : Int32) = Int32.ofNat 2 := rfl
  simp only [w55_0, w55_0n, w55_1, w55_2, w55_3, w55_4, w55_7, xk_n, xk_i, xk_r, xk_z, xk_l, xcs_0, xcs_i, xcs_r, xcs_z, xcs_l, Nat.reduceAdd, Nat.reduceLeDiff, Nat.reduceLT, true_and, and_true, Option.toList_some, Option.toList_none, List.nil_append, List.cons_append, List.getElem?_cons_zero, List.getElem?_cons_succ, List.set_cons_zero, List.set_cons_succ, List.length_cons, List.length_nil, y_bool0, y_bool1, not_true_eq_false, not_false_eq_true, false_implies, true_implies, true_or, or_true, false_or, or_false, if_true, if_false, ite_true, ite_false, H.cls]
  rw [z]
  refine wp_best H v w 2 (Or.inr rfl) fun h' H' F' => ?_
  simp only [w55_0, w55_0n, w55_1, w55_2, w55_3, w55_4, w55_7, xk_n, xk_i, xk_r, xk_z, xk_l, xcs_0, xcs_i, xcs_r, xcs_z, xcs_l, Nat.reduceAdd, Nat.reduceLeDiff, Nat.reduceLT, true_and, and_true, Option.toList_some, Option.toList_none, List.nil_append, List.cons_append, List.getElem?_cons_zero, List.getElem?_cons_succ, List.set_cons_zero, List.set_cons_succ, List.length_cons, List.length_nil, y_bool0, y_bool1, not_true_eq_false, not_false_eq_true, false_implies, true_implies, true_or, or_true, false_or, or_false, if_true, if_false, ite_true, ite_false]
  exact hK h' H' F'
theorem cop_closed (H : RX h s) (v w : Int32) (hK : ∀ h', RX h' s → FR CP 0 0 h h' → K (some (.int (opChange s v w 1))) h') : wp (d + 7) 56 0 [some (.ref 2), some (.int v), some (.int w)] [] h K := by
  have z : (1 : Int32) = Int32.ofNat 1 := rfl
  simp only [w56_0, w56_0n, w56_1, w56_2, w56_3, w56_4, w56_7, xk_n, xk_i, xk_r, xk_z, xk_l, xcs_0, xcs_i, xcs_r, xcs_z, xcs_l, Nat.reduceAdd, Nat.reduceLeDiff, Nat.reduceLT, true_and, and_true, Option.toList_some, Option.toList_none, List.nil_append, List.cons_append, List.getElem?_cons_zero, List.getElem?_cons_succ, List.set_cons_zero, List.set_cons_succ, List.length_cons, List.length_nil, y_bool0, y_bool1, not_true_eq_false, not_false_eq_true, false_implies, true_implies, true_or, or_true, false_or, or_false, if_true, if_false, ite_true, ite_false, H.cls]
  rw [z]
  refine wp_best H v w 1 (Or.inl rfl) fun h' H' F' => ?_
  simp only [w56_0, w56_0n, w56_1, w56_2, w56_3, w56_4, w56_7, xk_n, xk_i, xk_r, xk_z, xk_l, xcs_0, xcs_i, xcs_r, xcs_z, xcs_l, Nat.reduceAdd, Nat.reduceLeDiff, Nat.reduceLT, true_and, and_true, Option.toList_some, Option.toList_none, List.nil_append, List.cons_append, List.getElem?_cons_zero, List.getElem?_cons_succ, List.set_cons_zero, List.set_cons_succ, List.length_cons, List.length_nil, y_bool0, y_bool1, not_true_eq_false, not_false_eq_true, false_implies, true_implies, true_or, or_true, false_or, or_false, if_true, if_false, ite_true, ite_false]
  exact hK h' H' F'
end
/-- the first one that is out -/
def fiF (o : Nat → Option Nat) : Nat → Option Nat × Option Nat
  | 0 => (none, none)
  | v + 1 => if earO (o v) (fiF o v).2 then (some v, o v) else fiF o v
theorem fiF_s (o : Nat → Option Nat) (v : Nat) : fiF o (v + 1) = if earO (o v) (fiF o v).2 then (some v, o v) else fiF o v := rfl
def opFirst (s : St) : Int32 := if gn (sE s) = 0 then -3 else oC (fiF (fun v => vo (atD s v 79)) (gv (sE s))).1
theorem fiF_lt {o : Nat → Option Nat} (ho : ∀ v m, o v = some m → m < 80) : ∀ k m, (fiF o k).2 = some m → m < 80
  | 0, m, h => by cases h
  | k + 1, m, h => by
    rw [fiF_s] at h
    split at h
    · exact ho k m h
    · exact fiF_lt ho k m h
def oN (o : Option Nat) : Int32 := match o with
  | none => 80
  | some m => Int32.ofNat m
section
variable {d : Nat} {K : Option Value → xH → Prop} {e : Nat} {E : Gd} {fr : Nat → Bool} {vs : Nat → Nat}
theorem wp_fi {t f : Int32} {a b c : Nat} {G : Nat → Vs} {h : xH} (hv3 : gv E ≤ 3) (h2 : h[2]? = some (.inr (7, [.ref 3, .ref a, .ref b, .ref c, .int t, .int f]))) (B : BG h 3 e E fr vs G) (ho : ∀ v m, vo (G v) = some m → m < 80) (hK : K (some (.int (oC (fiF (fun v => vo (G v)) (gv E)).1))) h) : ∀ (j k : Nat) (l4 : Option Value), k + j = gv E → wp (d + 3) 57 33 [some (.ref 2), some (.int (oC (fiF (fun v => vo (G v)) k).1)), some (.int (oN (fiF (fun v => vo (G v)) k).2)), some (.int (Int32.ofNat k)), l4] [] h K
  | 0, k, l4, hj => by
    have hkn : k = gv E := by omega
    subst hkn
    have q : Int32.ofNat (gv E) ≤ Int32.ofNat (gv E) := (n_le (by omega) (by omega)).mpr (by omega)
    rw [w57_33]
    simp only [w57_0, w57_0n, w57_1, w57_4, w57_7, w57_10, w57_13, w57_15, w57_16, w57_16n, w57_17, w57_20, w57_22, w57_25, w57_27, w57_28, w57_30, w57_31, w57_32, w57_34, w57_34n, w57_35, w57_38, w57_41, w57_44, w57_47, w57_47n, w57_48, w57_51, w57_54, w57_55, w57_58, w57_58n, w57_61, w57_64, w57_66, w57_68, w57_69, w57_72, w57_74, w57_75, w57_78, w57_79, w57_80, w57_82, w57_83, w57_86, w57_89, w57_90, xk_n, xk_i, xk_r, xk_z, xk_l, xcs_0, xcs_i, xcs_r, xcs_z, xcs_l, Nat.reduceAdd, Nat.reduceLeDiff, Nat.reduceLT, true_and, and_true, Option.toList_some, Option.toList_none, List.nil_append, List.cons_append, List.getElem?_cons_zero, List.getElem?_cons_succ, List.set_cons_zero, List.set_cons_succ, List.length_cons, List.length_nil, y_bool0, y_bool1, not_true_eq_false, not_false_eq_true, false_implies, true_implies, true_or, or_true, false_or, or_false, if_true, if_false, ite_true, ite_false, y_get, h2, B.bed, B.al.cls, wp_size B.al, q]
    exact hK
  | j + 1, k, l4, hj => by
    have hkv : k < gv E := by omega
    have q : (Int32.ofNat (gv E) ≤ Int32.ofNat k) = False := eq_false (by rw [n_le (by omega) (by omega)]; omega)
    have z8 : Int32.ofNat k + 1 = Int32.ofNat (k + 1) := n_addl k 1
    have ih := wp_fi hv3 h2 B ho hK j (k + 1)
    have ls := fiF_s (fun v => vo (G v)) k
    have hlt := fiF_lt (o := fun v => vo (G v)) ho k
    rw [w57_33]
    simp only [w57_0, w57_0n, w57_1, w57_4, w57_7, w57_10, w57_13, w57_15, w57_16, w57_16n, w57_17, w57_20, w57_22, w57_25, w57_27, w57_28, w57_30, w57_31, w57_32, w57_34, w57_34n, w57_35, w57_38, w57_41, w57_44, w57_47, w57_47n, w57_48, w57_51, w57_54, w57_55, w57_58, w57_58n, w57_61, w57_64, w57_66, w57_68, w57_69, w57_72, w57_74, w57_75, w57_78, w57_79, w57_80, w57_82, w57_83, w57_86, w57_89, w57_90, xk_n, xk_i, xk_r, xk_z, xk_l, xcs_0, xcs_i, xcs_r, xcs_z, xcs_l, Nat.reduceAdd, Nat.reduceLeDiff, Nat.reduceLT, true_and, and_true, Option.toList_some, Option.toList_none, List.nil_append, List.cons_append, List.getElem?_cons_zero, List.getElem?_cons_succ, List.set_cons_zero, List.set_cons_succ, List.length_cons, List.length_nil, y_bool0, y_bool1, not_true_eq_false, not_false_eq_true, false_implies, true_implies, true_or, or_true, false_or, or_false, if_true, if_false, ite_true, ite_false, y_get, h2, B.bed, B.al.cls, wp_size B.al, q, wp_get B.al hkv, B.vcls hkv, B.at hkv, vsX, z8]
    cases q1 : vo (G k) with
    | none =>
      have q2 : oM none = -1 := rfl
      rw [q1] at ls
      rw [show earO none (fiF (fun v => vo (G v)) k).2 = false by cases (fiF (fun v => vo (G v)) k).2 <;> rfl, if_neg (by simp)] at ls
      simp only [q2, xk_n, xk_i, xk_r, xk_z, xk_l, xcs_0, xcs_i, xcs_r, xcs_z, xcs_l, Nat.reduceAdd, Nat.reduceLeDiff, Nat.reduceLT, true_and, and_true, Option.toList_some, Option.toList_none, List.nil_append, List.cons_append, List.getElem?_cons_zero, List.getElem?_cons_succ, List.set_cons_zero, List.set_cons_succ, List.length_cons, List.length_nil, y_bool0, y_bool1, not_true_eq_false, not_false_eq_true, false_implies, true_implies, true_or, or_true, false_or, or_false, if_true, if_false, ite_true, ite_false]
      rw [← ls]
      exact ih _ (by omega)
    | some m =>
      have hm := ho k m q1
      have q2 : (oM (some m) = -1) = False := eq_false (n_ne1 (a := m) (by omega))
      rw [q1] at ls
      simp only [q2, xk_n, xk_i, xk_r, xk_z, xk_l, xcs_0, xcs_i, xcs_r, xcs_z, xcs_l, Nat.reduceAdd, Nat.reduceLeDiff, Nat.reduceLT, true_and, and_true, Option.toList_some, Option.toList_none, List.nil_append, List.cons_append, List.getElem?_cons_zero, List.getElem?_cons_succ, List.set_cons_zero, List.set_cons_succ, List.length_cons, List.length_nil, y_bool0, y_bool1, not_true_eq_false, not_false_eq_true, false_implies, true_implies, true_or, or_true, false_or, or_false, if_true, if_false, ite_true, ite_false]
      cases q3 : (fiF (fun v => vo (G v)) k).2 with
      | none =>
        have q4 : (80 ≤ oM (some m)) = False := eq_false (by show ¬ (80 ≤ Int32.ofNat m); have := n_lle (m := 80) (a := m) (by omega) (by omega); rw [this]; omega)
        have q5 : oN none = 80 := rfl
        rw [q3] at ls
        rw [show earO (some m) none = true from rfl, if_pos rfl] at ls
        simp only [q5, q4, xk_n, xk_i, xk_r, xk_z, xk_l, xcs_0, xcs_i, xcs_r, xcs_z, xcs_l, Nat.reduceAdd, Nat.reduceLeDiff, Nat.reduceLT, true_and, and_true, Option.toList_some, Option.toList_none, List.nil_append, List.cons_append, List.getElem?_cons_zero, List.getElem?_cons_succ, List.set_cons_zero, List.set_cons_succ, List.length_cons, List.length_nil, y_bool0, y_bool1, not_true_eq_false, not_false_eq_true, false_implies, true_implies, true_or, or_true, false_or, or_false, if_true, if_false, ite_true, ite_false]
        have e1 : Int32.ofNat k = oC (fiF (fun v => vo (G v)) (k + 1)).1 := by rw [ls]; rfl
        have e2 : oM (some m) = oN (fiF (fun v => vo (G v)) (k + 1)).2 := by rw [ls]; rfl
        have := ih (some (.int (oM (some m)))) (by omega)
        rw [← e1, ← e2] at this
        exact this
      | some y =>
        have hy := hlt y q3
        have q4 : (oN (some y) ≤ oM (some m)) = (y ≤ m) := propext (n_le (by omega) (by omega))
        rw [q3] at ls
        rw [show earO (some m) (some y) = decide (m < y) from rfl] at ls
        simp only [q4, xk_n, xk_i, xk_r, xk_z, xk_l, xcs_0, xcs_i, xcs_r, xcs_z, xcs_l, Nat.reduceAdd, Nat.reduceLeDiff, Nat.reduceLT, true_and, and_true, Option.toList_some, Option.toList_none, List.nil_append, List.cons_append, List.getElem?_cons_zero, List.getElem?_cons_succ, List.set_cons_zero, List.set_cons_succ, List.length_cons, List.length_nil, y_bool0, y_bool1, not_true_eq_false, not_false_eq_true, false_implies, true_implies, true_or, or_true, false_or, or_false, if_true, if_false, ite_true, ite_false]
        by_cases c1 : y ≤ m
        · refine ⟨fun _ => ?_, fun z => absurd c1 z⟩
          rw [decide_eq_false (by omega), if_neg (by simp)] at ls
          have := ih (some (.int (oM (some m)))) (by omega)
          rw [ls, q3] at this
          exact this
        · refine ⟨fun z => absurd z c1, fun _ => ?_⟩
          rw [decide_eq_true (by omega), if_pos rfl] at ls
          have e1 : Int32.ofNat k = oC (fiF (fun v => vo (G v)) (k + 1)).1 := by rw [ls]; rfl
          have e2 : oM (some m) = oN (fiF (fun v => vo (G v)) (k + 1)).2 := by rw [ls]; rfl
          have := ih (some (.int (oM (some m)))) (by omega)
          rw [← e1, ← e2] at this
          exact this
end
theorem cop_first {d : Nat} {h : xH} {K : Option Value → xH → Prop} {s : St} (H : RX h s) (hK : ∀ h', RX h' s → FR CP 0 0 h h' → K (some (.int (opFirst s))) h') : wp (d + 5) 57 0 [some (.ref 2), none, none, none, none] [] h K := by
  have HX := H
  obtain ⟨hO, e, em, er, vs, rs, H⟩ := H
  have H0 := H
  obtain ⟨X, L, B⟩ := H.2.1
  have hv3 := hO.v3
  have z10 : ((1 : Int32) = 0) = False := eq_false (by decide)
  by_cases q : gn (sE s) = 0
  · have e1 : opFirst s = -3 := if_pos q
    rw [e1] at hK
    have qd : decide (gn (sE s) = 0) = true := decide_eq_true q
    simp only [w57_0, w57_0n, w57_1, w57_4, w57_7, w57_10, w57_13, w57_15, w57_16, w57_16n, w57_17, w57_20, w57_22, w57_25, w57_27, w57_28, w57_30, w57_31, w57_32, w57_34, w57_34n, w57_35, w57_38, w57_41, w57_44, w57_47, w57_47n, w57_48, w57_51, w57_54, w57_55, w57_58, w57_58n, w57_61, w57_64, w57_66, w57_68, w57_69, w57_72, w57_74, w57_75, w57_78, w57_79, w57_80, w57_82, w57_83, w57_86, w57_89, w57_90, xk_n, xk_i, xk_r, xk_z, xk_l, xcs_0, xcs_i, xcs_r, xcs_z, xcs_l, Nat.reduceAdd, Nat.reduceLeDiff, Nat.reduceLT, true_and, and_true, Option.toList_some, Option.toList_none, List.nil_append, List.cons_append, List.getElem?_cons_zero, List.getElem?_cons_succ, List.set_cons_zero, List.set_cons_succ, List.length_cons, List.length_nil, y_bool0, y_bool1, not_true_eq_false, not_false_eq_true, false_implies, true_implies, true_or, or_true, false_or, or_false, if_true, if_false, ite_true, ite_false, y_get, H.1, B.bed, B.pl.cls, wp_isMissing B.pl, qd, bi_t, z10]
    exact hK h HX FR.rfl'
  · have e1 : opFirst s = oC (fiF (fun v => vo (atD s v 79)) (gv (sE s))).1 := if_neg q
    rw [e1] at hK
    have hE := hO.okn (c := 0) (by omega)
    have qd : decide (gn (sE s) = 0) = false := decide_eq_false q
    have z79 : (79 : Int32) = Int32.ofNat 79 := rfl
    have z0 : (0 : Int32) = Int32.ofNat 0 := rfl
    simp only [w57_0, w57_0n, w57_1, w57_4, w57_7, w57_10, w57_13, w57_15, w57_16, w57_16n, w57_17, w57_20, w57_22, w57_25, w57_27, w57_28, w57_30, w57_31, w57_32, w57_34, w57_34n, w57_35, w57_38, w57_41, w57_44, w57_47, w57_47n, w57_48, w57_51, w57_54, w57_55, w57_58, w57_58n, w57_61, w57_64, w57_66, w57_68, w57_69, w57_72, w57_74, w57_75, w57_78, w57_79, w57_80, w57_82, w57_83, w57_86, w57_89, w57_90, xk_n, xk_i, xk_r, xk_z, xk_l, xcs_0, xcs_i, xcs_r, xcs_z, xcs_l, Nat.reduceAdd, Nat.reduceLeDiff, Nat.reduceLT, true_and, and_true, Option.toList_some, Option.toList_none, List.nil_append, List.cons_append, List.getElem?_cons_zero, List.getElem?_cons_succ, List.set_cons_zero, List.set_cons_succ, List.length_cons, List.length_nil, y_bool0, y_bool1, not_true_eq_false, not_false_eq_true, false_implies, true_implies, true_or, or_true, false_or, or_false, if_true, if_false, ite_true, ite_false, y_get, H.1, B.bed, B.pl.cls, wp_isMissing B.pl, qd, bi_f, B.cls]
    rw [z79]
    refine wp_growTo hE ⟨X, L, B⟩ (show 79 < 80 by omega) fun h' H' F' => ?_
    have R := H0.G H'.x F'
    simp only [w57_0, w57_0n, w57_1, w57_4, w57_7, w57_10, w57_13, w57_15, w57_16, w57_16n, w57_17, w57_20, w57_22, w57_25, w57_27, w57_28, w57_30, w57_31, w57_32, w57_34, w57_34n, w57_35, w57_38, w57_41, w57_44, w57_47, w57_47n, w57_48, w57_51, w57_54, w57_55, w57_58, w57_58n, w57_61, w57_64, w57_66, w57_68, w57_69, w57_72, w57_74, w57_75, w57_78, w57_79, w57_80, w57_82, w57_83, w57_86, w57_89, w57_90, xk_n, xk_i, xk_r, xk_z, xk_l, xcs_0, xcs_i, xcs_r, xcs_z, xcs_l, Nat.reduceAdd, Nat.reduceLeDiff, Nat.reduceLT, true_and, and_true, Option.toList_some, Option.toList_none, List.nil_append, List.cons_append, List.getElem?_cons_zero, List.getElem?_cons_succ, List.set_cons_zero, List.set_cons_succ, List.length_cons, List.length_nil, y_bool0, y_bool1, not_true_eq_false, not_false_eq_true, false_implies, true_implies, true_or, or_true, false_or, or_false, if_true, if_false, ite_true, ite_false]
    rw [z0]
    refine wp_fi (G := runM (sE s) (mild (sFr s) (79 + 1))) hv3 R.1.1 H' (fun v m hm => ?_) (hK h' ⟨hO, e, em, er, vs, rs, R.1⟩ R.2) (gv (sE s)) 0 none (by omega)
    have := runM_vo hm
    have := mild_k (sFr s) (79 + 1)
    omega
