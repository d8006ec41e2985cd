/-! ===== the law's go: all vines, all days ===== -/
section
variable {d : Nat} {K : Option Value → xH → Prop} {s : St} {hi ti t : Nat} {h0 : xH}
theorem wp_vs {G0 : Nat → Vs} (H0 : LG h0 s hi) (hE : okE (sE s)) (hs4 : ∀ c, c < gn (sE s) → gs (sE s) c < 4) (ok0 : okG (sE s) G0) (ht : t < 80) (hK : ∀ h' fr' fw' l7 l8 l9 l10 l11 l12 l13 l14, RH h0 h' fr' fw' → RR (gv (sE s)) fr' fw' (sE s) (grow1 (sE s) t G0) → wp (d + 1) 181 585 [some (.ref 25), some (.ref 26), some (.ref 27), some (.int (Int32.ofNat ti)), some (.ref 28), some (.ref 29), some (.int (Int32.ofNat t)), l7, l8, l9, l10, l11, l12, l13, l14] [] h' K) : ∀ (j v : Nat) (h : xH) (fr fw : Nat → Int32) (l8 l9 l10 l11 l12 l13 l14 : Option Value), v + j = gv (sE s) → RH h0 h fr fw → RR (gv (sE s)) fr fw (sE s) (growN (sE s) t G0 v) → wp (d + 1) 181 148 [some (.ref 25), some (.ref 26), some (.ref 27), some (.int (Int32.ofNat ti)), some (.ref 28), some (.ref 29), some (.int (Int32.ofNat t)), some (.int (Int32.ofNat v)), l8, l9, l10, l11, l12, l13, l14] [] h K
  | 0, v, h, fr, fw, l8, l9, l10, l11, l12, l13, l14, hj, R, rr => by
    have hv3 := H0.1.2.2.2.2.2
    have H := R.lg H0
    have q : Int32.ofNat (gv (sE s)) ≤ Int32.ofNat v := (n_le (by omega) (by omega)).mpr (by omega)
    rw [w181_148]
    simp only [w181_150, w181_150n, w181_151, w181_152, w181_153, xk_n, xk_i, xk_r, xk_z, xk_l, xcs_0, xcs_i, xcs_r, xcs_z, xcs_l, Nat.reduceAdd, Nat.reduceLeDiff, Nat.reduceLT, true_and, and_true, Option.toList_some, Option.toList_none, List.nil_append, List.cons_append, List.getElem?_cons_zero, List.getElem?_cons_succ, List.set_cons_zero, List.set_cons_succ, List.length_cons, List.length_nil, y_bool0, y_bool1, not_true_eq_false, not_false_eq_true, false_implies, true_implies, true_or, or_true, false_or, or_false, if_true, if_false, ite_true, ite_false, H.v, q]
    refine hK h fr fw _ _ _ _ _ _ _ _ R ?_
    have : v = gv (sE s) := by omega
    rw [this] at rr
    exact rr
  | j + 1, v, h, fr, fw, l8, l9, l10, l11, l12, l13, l14, hj, R, rr => by
    have hv3 := H0.1.2.2.2.2.2
    have H := R.lg H0
    have q : (Int32.ofNat (gv (sE s)) ≤ Int32.ofNat v) = False := eq_false (by rw [n_le (by omega) (by omega)]; omega)
    have z8 : Int32.ofNat v + 1 = Int32.ofNat (v + 1) := n_addl v 1
    rw [w181_148]
    simp only [w181_150, w181_150n, w181_151, w181_152, w181_153, xk_n, xk_i, xk_r, xk_z, xk_l, xcs_0, xcs_i, xcs_r, xcs_z, xcs_l, Nat.reduceAdd, Nat.reduceLeDiff, Nat.reduceLT, true_and, and_true, Option.toList_some, Option.toList_none, List.nil_append, List.cons_append, List.getElem?_cons_zero, List.getElem?_cons_succ, List.set_cons_zero, List.set_cons_succ, List.length_cons, List.length_nil, y_bool0, y_bool1, not_true_eq_false, not_false_eq_true, false_implies, true_implies, true_or, or_true, false_or, or_false, if_true, if_false, ite_true, ite_false, H.v, q]
    refine wp_vb H0 hE hs4 R rr (growN_ok hE (by omega) ok0 v (by omega)) ht (by omega) fun h' fr' fw' l8 l9 l10 l11 l12 l13 l14 R' rr' => ?_
    simp only [w181_579, w181_582, xk_n, xk_i, xk_r, xk_z, xk_l, xcs_0, xcs_i, xcs_r, xcs_z, xcs_l, Nat.reduceAdd, Nat.reduceLeDiff, Nat.reduceLT, true_and, and_true, Option.toList_some, Option.toList_none, List.nil_append, List.cons_append, List.getElem?_cons_zero, List.getElem?_cons_succ, List.set_cons_zero, List.set_cons_succ, List.length_cons, List.length_nil, y_bool0, y_bool1, not_true_eq_false, not_false_eq_true, false_implies, true_implies, true_or, or_true, false_or, or_false, if_true, if_false, ite_true, ite_false, z8]
    exact wp_vs H0 hE hs4 ok0 ht hK j (v + 1) h' fr' fw' _ _ _ _ _ _ _ (by omega) R' rr'
end
theorem runD_ok {E : Gd} {f : Nat → Bool} (hE : okE E) : ∀ k, k ≤ 1000 → okG E (runD E f k)
  | 0, _ => init1_ok hE
  | k + 1, hk => by
    show okG E (if f k then runD E f k else grow1 E k (runD E f k))
    split
    · exact runD_ok hE k (by omega)
    · exact growN_ok hE (by omega) (runD_ok hE k (by omega)) _ (Nat.le_refl _)
section
variable {d : Nat} {K : Option Value → xH → Prop} {s : St} {hi ti : Nat} {h0 : xH}
/-- the day loop -/
theorem wp_days (H0 : LG h0 s hi) (hE : okE (sE s)) (hs4 : ∀ c, c < gn (sE s) → gs (sE s) c < 4) (ht : ti < 80) (hK : ∀ h' fr' fw', RH h0 h' fr' fw' → RR (gv (sE s)) fr' fw' (sE s) (runD (sE s) (sFr s) (ti + 1)) → K none h') : ∀ (j t : Nat) (h : xH) (fr fw : Nat → Int32) (l7 l8 l9 l10 l11 l12 l13 l14 : Option Value), t + j = ti + 1 → RH h0 h fr fw → RR (gv (sE s)) fr fw (sE s) (runD (sE s) (sFr s) t) → wp (d + 1) 181 116 [some (.ref 25), some (.ref 26), some (.ref 27), some (.int (Int32.ofNat ti)), some (.ref 28), some (.ref 29), some (.int (Int32.ofNat t)), l7, l8, l9, l10, l11, l12, l13, l14] [] h K
  | 0, t, h, fr, fw, l7, l8, l9, l10, l11, l12, l13, l14, hj, R, rr => by
    have q : Int32.ofNat ti < Int32.ofNat t := (n_lt (by omega) (by omega)).mpr (by omega)
    rw [w181_116]
    simp only [w181_118, w181_119, w181_591, xk_n, xk_i, xk_r, xk_z, xk_l, xcs_0, xcs_i, xcs_r, xcs_z, xcs_l, Nat.reduceAdd, Nat.reduceLeDiff, Nat.reduceLT, true_and, and_true, Option.toList_some, Option.toList_none, List.nil_append, List.cons_append, List.getElem?_cons_zero, List.getElem?_cons_succ, List.set_cons_zero, List.set_cons_succ, List.length_cons, List.length_nil, y_bool0, y_bool1, not_true_eq_false, not_false_eq_true, false_implies, true_implies, true_or, or_true, false_or, or_false, if_true, if_false, ite_true, ite_false, q]
    refine hK h fr fw R ?_
    have : t = ti + 1 := by omega
    rw [this] at rr
    exact rr
  | j + 1, t, h, fr, fw, l7, l8, l9, l10, l11, l12, l13, l14, hj, R, rr => by
    have H := R.lg H0
    have q : (Int32.ofNat ti < Int32.ofNat t) = False := eq_false (by rw [n_lt (by omega) (by omega)]; omega)
    have z8 : Int32.ofNat t + 1 = Int32.ofNat (t + 1) := n_addl t 1
    have q60 : (60 ≤ Int32.ofNat t) = (60 ≤ t) := propext (n_lle (m := 60) (by omega) (by omega))
    have z0 : growN (sE s) t (runD (sE s) (sFr s) t) 0 = runD (sE s) (sFr s) t := rfl
    have ok := runD_ok (f := sFr s) hE t (by omega)
    have rs : runD (sE s) (sFr s) (t + 1) = if sFr s t then runD (sE s) (sFr s) t else grow1 (sE s) t (runD (sE s) (sFr s) t) := rfl
    have next : ∀ h' fr' fw' l7 l8 l9 l10 l11 l12 l13 l14, RH h0 h' fr' fw' → RR (gv (sE s)) fr' fw' (sE s) (runD (sE s) (sFr s) (t + 1)) → wp (d + 1) 181 585 [some (.ref 25), some (.ref 26), some (.ref 27), some (.int (Int32.ofNat ti)), some (.ref 28), some (.ref 29), some (.int (Int32.ofNat t)), l7, l8, l9, l10, l11, l12, l13, l14] [] h' K := by
      intro h' fr' fw' l7 l8 l9 l10 l11 l12 l13 l14 R' rr'
      simp only [w181_585, w181_588, xk_n, xk_i, xk_r, xk_z, xk_l, xcs_0, xcs_i, xcs_r, xcs_z, xcs_l, Nat.reduceAdd, Nat.reduceLeDiff, Nat.reduceLT, true_and, and_true, Option.toList_some, Option.toList_none, List.nil_append, List.cons_append, List.getElem?_cons_zero, List.getElem?_cons_succ, List.set_cons_zero, List.set_cons_succ, List.length_cons, List.length_nil, y_bool0, y_bool1, not_true_eq_false, not_false_eq_true, false_implies, true_implies, true_or, or_true, false_or, or_false, if_true, if_false, ite_true, ite_false, z8]
      exact wp_days H0 hE hs4 ht hK j (t + 1) h' fr' fw' _ _ _ _ _ _ _ _ (by omega) R' rr'
    have mild : sFr s t = false → wp (d + 1) 181 145 [some (.ref 25), some (.ref 26), some (.ref 27), some (.int (Int32.ofNat ti)), some (.ref 28), some (.ref 29), some (.int (Int32.ofNat t)), l7, l8, l9, l10, l11, l12, l13, l14] [] h K := by
      intro z
      rw [z] at rs
      replace rs : runD (sE s) (sFr s) (t + 1) = grow1 (sE s) t (runD (sE s) (sFr s) t) := rs
      rw [rs] at next
      simp only [w181_145, w181_146, xk_n, xk_i, xk_r, xk_z, xk_l, xcs_0, xcs_i, xcs_r, xcs_z, xcs_l, Nat.reduceAdd, Nat.reduceLeDiff, Nat.reduceLT, true_and, and_true, Option.toList_some, Option.toList_none, List.nil_append, List.cons_append, List.getElem?_cons_zero, List.getElem?_cons_succ, List.set_cons_zero, List.set_cons_succ, List.length_cons, List.length_nil, y_bool0, y_bool1, not_true_eq_false, not_false_eq_true, false_implies, true_implies, true_or, or_true, false_or, or_false, if_true, if_false, ite_true, ite_false]
      have := wp_vs (d := d) (K := K) (ti := ti) (t := t) (G0 := runD (sE s) (sFr s) t) H0 hE hs4 ok (by omega) next (gv (sE s)) 0 h fr fw
      exact this _ _ _ _ _ _ _ (by omega) R rr
    obtain ⟨f, F, f1, f2, f3, f4⟩ := H.2.2.2
    have f5 := f4 t (by omega)
    rw [w181_116]
    simp only [w181_118, w181_119, w181_122, w181_124, w181_126, xk_n, xk_i, xk_r, xk_z, xk_l, xcs_0, xcs_i, xcs_r, xcs_z, xcs_l, Nat.reduceAdd, Nat.reduceLeDiff, Nat.reduceLT, true_and, and_true, Option.toList_some, Option.toList_none, List.nil_append, List.cons_append, List.getElem?_cons_zero, List.getElem?_cons_succ, List.set_cons_zero, List.set_cons_succ, List.length_cons, List.length_nil, y_bool0, y_bool1, not_true_eq_false, not_false_eq_true, false_implies, true_implies, true_or, or_true, false_or, or_false, if_true, if_false, ite_true, ite_false, q, q60]
    refine ⟨fun z => mild ?_, fun z => ?_⟩
    · rw [f5]
      exact Nat.testBit_lt_two_pow (Nat.lt_of_lt_of_le f3 (Nat.pow_le_pow_right (n := 2) (i := 30) (by omega) (by omega)))
    · have y0 : ∀ J, y_lald h 27 0 J ↔ J (Int64.ofNat F) := by
        intro J
        unfold y_lald
        rw [f1]
        show 2 ≤ 27 ∧ vp_in 0 1 ∧ J (f (0 : Int32).toNatClampNeg) ↔ _
        rw [show (0 : Int32).toNatClampNeg = 0 from rfl, f2]
        exact ⟨fun z => z.2.2, fun z => ⟨by omega, (n_in (a := 0) (by omega)).mpr (by omega), z⟩⟩
      have bit : (lg_cmp (Int64.ofNat F >>> ((Int32.ofNat t).toInt64 &&& 63) &&& 1) 1 = 0) = (F.testBit t = true) := by
        rw [l_shr (by omega) (by omega), l_and1 (by have := Nat.div_le_self F (2 ^ t); omega), l_tst]
        have h2 : F / 2 ^ t % 2 < 2 := Nat.mod_lt _ (by omega)
        have : F / 2 ^ t % 2 = 0 ∨ F / 2 ^ t % 2 = 1 := by omega
        rcases this with e | e <;> rw [e] <;> decide
      simp only [w181_129, w181_129n, w181_130, w181_131, w181_132, w181_134, w181_135, w181_136, w181_137, w181_138, w181_139, w181_142, xk_n, xk_i, xk_r, xk_z, xk_l, xcs_0, xcs_i, xcs_r, xcs_z, xcs_l, Nat.reduceAdd, Nat.reduceLeDiff, Nat.reduceLT, true_and, and_true, Option.toList_some, Option.toList_none, List.nil_append, List.cons_append, List.getElem?_cons_zero, List.getElem?_cons_succ, List.set_cons_zero, List.set_cons_succ, List.length_cons, List.length_nil, y_bool0, y_bool1, not_true_eq_false, not_false_eq_true, false_implies, true_implies, true_or, or_true, false_or, or_false, if_true, if_false, ite_true, ite_false, y0, bit]
      rw [← f5]
      refine ⟨fun z2 => mild (by simpa using z2), fun z2 => ?_⟩
      rw [z2] at rs
      replace rs : runD (sE s) (sFr s) (t + 1) = runD (sE s) (sFr s) t := rs
      rw [← rs] at rr
      exact next h fr fw _ _ _ _ _ _ _ _ R rr
/-- the start of all vines -/
theorem wp_gi (H0 : LG h0 s hi) (hE : okE (sE s)) (hK : ∀ h' fr' fw' l6, RH h0 h' fr' fw' → RR (gv (sE s)) fr' fw' (sE s) (init1 (sE s)) → wp (d + 1) 181 113 [some (.ref 25), some (.ref 26), some (.ref 27), some (.int (Int32.ofNat ti)), some (.ref 28), some (.ref 29), l6, none, none, none, none, none, none, none, none] [] h' K) : ∀ (j v : Nat) (h : xH) (fr fw : Nat → Int32), v + j = gv (sE s) → RH h0 h fr fw → RR v fr fw (sE s) (init1 (sE s)) → wp (d + 1) 181 3 [some (.ref 25), some (.ref 26), some (.ref 27), some (.int (Int32.ofNat ti)), some (.ref 28), some (.ref 29), some (.int (Int32.ofNat v)), none, none, none, none, none, none, none, none] [] h K
  | 0, v, h, fr, fw, hj, R, rr => by
    have hv3 := H0.1.2.2.2.2.2
    have H := R.lg H0
    have q : Int32.ofNat (gv (sE s)) ≤ Int32.ofNat v := (n_le (by omega) (by omega)).mpr (by omega)
    rw [w181_3]
    simp only [w181_5, w181_5n, w181_6, w181_7, w181_8, xk_n, xk_i, xk_r, xk_z, xk_l, xcs_0, xcs_i, xcs_r, xcs_z, xcs_l, Nat.reduceAdd, Nat.reduceLeDiff, Nat.reduceLT, true_and, and_true, Option.toList_some, Option.toList_none, List.nil_append, List.cons_append, List.getElem?_cons_zero, List.getElem?_cons_succ, List.set_cons_zero, List.set_cons_succ, List.length_cons, List.length_nil, y_bool0, y_bool1, not_true_eq_false, not_false_eq_true, false_implies, true_implies, true_or, or_true, false_or, or_false, if_true, if_false, ite_true, ite_false, H.v, q]
    refine hK h fr fw _ R ?_
    have : v = gv (sE s) := by omega
    rw [this] at rr
    exact rr
  | j + 1, v, h, fr, fw, hj, R, rr => by
    have hv3 := H0.1.2.2.2.2.2
    have H := R.lg H0
    have hv : v < gv (sE s) := by omega
    have hp := (hE.2.2 v hv).2.1
    have hn := H.n20
    have q : (Int32.ofNat (gv (sE s)) ≤ Int32.ofNat v) = False := eq_false (by rw [n_le (by omega) (by omega)]; omega)
    have z8 : Int32.ofNat v + 1 = Int32.ofNat (v + 1) := n_addl v 1
    have e6 : (1 : Int32) <<< (Int32.ofNat (gp (sE s) v) &&& 31) = Int32.ofNat (2 ^ gp (sE s) v) := i_one (by omega)
    rw [w181_3]
    simp only [w181_5, w181_5n, w181_6, w181_7, w181_8, w181_11, w181_11n, w181_13, w181_15, w181_15n, w181_16, w181_18, w181_20, w181_21, w181_22, xk_n, xk_i, xk_r, xk_z, xk_l, xcs_0, xcs_i, xcs_r, xcs_z, xcs_l, Nat.reduceAdd, Nat.reduceLeDiff, Nat.reduceLT, true_and, and_true, Option.toList_some, Option.toList_none, List.nil_append, List.cons_append, List.getElem?_cons_zero, List.getElem?_cons_succ, List.set_cons_zero, List.set_cons_succ, List.length_cons, List.length_nil, y_bool0, y_bool1, not_true_eq_false, not_false_eq_true, false_implies, true_implies, true_or, or_true, false_or, or_false, if_true, if_false, ite_true, ite_false, H.v, q, H.p hv]
    refine R.sr rfl (by omega) fun h1 R1 => ?_
    have H := R1.lg H0
    simp only [w181_23, w181_23n, w181_25, w181_26, w181_28, w181_29, w181_30, w181_30n, w181_31, w181_33, w181_35, w181_36, w181_37, w181_38, xk_n, xk_i, xk_r, xk_z, xk_l, xcs_0, xcs_i, xcs_r, xcs_z, xcs_l, Nat.reduceAdd, Nat.reduceLeDiff, Nat.reduceLT, true_and, and_true, Option.toList_some, Option.toList_none, List.nil_append, List.cons_append, List.getElem?_cons_zero, List.getElem?_cons_succ, List.set_cons_zero, List.set_cons_succ, List.length_cons, List.length_nil, y_bool0, y_bool1, not_true_eq_false, not_false_eq_true, false_implies, true_implies, true_or, or_true, false_or, or_false, if_true, if_false, ite_true, ite_false, H.p hv, e6]
    refine R1.sr (n_ladd v 3) (by omega) fun h2 R2 => ?_
    simp only [w181_39, w181_39n, w181_41, w181_43, w181_45, w181_46, w181_47, xk_n, xk_i, xk_r, xk_z, xk_l, xcs_0, xcs_i, xcs_r, xcs_z, xcs_l, Nat.reduceAdd, Nat.reduceLeDiff, Nat.reduceLT, true_and, and_true, Option.toList_some, Option.toList_none, List.nil_append, List.cons_append, List.getElem?_cons_zero, List.getElem?_cons_succ, List.set_cons_zero, List.set_cons_succ, List.length_cons, List.length_nil, y_bool0, y_bool1, not_true_eq_false, not_false_eq_true, false_implies, true_implies, true_or, or_true, false_or, or_false, if_true, if_false, ite_true, ite_false]
    refine R2.sr (n_ladd v 6) (by omega) fun h3 R3 => ?_
    simp only [w181_48, w181_48n, w181_50, w181_52, w181_54, w181_55, w181_57, xk_n, xk_i, xk_r, xk_z, xk_l, xcs_0, xcs_i, xcs_r, xcs_z, xcs_l, Nat.reduceAdd, Nat.reduceLeDiff, Nat.reduceLT, true_and, and_true, Option.toList_some, Option.toList_none, List.nil_append, List.cons_append, List.getElem?_cons_zero, List.getElem?_cons_succ, List.set_cons_zero, List.set_cons_succ, List.length_cons, List.length_nil, y_bool0, y_bool1, not_true_eq_false, not_false_eq_true, false_implies, true_implies, true_or, or_true, false_or, or_false, if_true, if_false, ite_true, ite_false]
    refine R3.sr (n_ladd v 9) (by omega) fun h4 R4 => ?_
    simp only [w181_58, w181_58n, w181_60, w181_62, w181_64, w181_65, w181_67, xk_n, xk_i, xk_r, xk_z, xk_l, xcs_0, xcs_i, xcs_r, xcs_z, xcs_l, Nat.reduceAdd, Nat.reduceLeDiff, Nat.reduceLT, true_and, and_true, Option.toList_some, Option.toList_none, List.nil_append, List.cons_append, List.getElem?_cons_zero, List.getElem?_cons_succ, List.set_cons_zero, List.set_cons_succ, List.length_cons, List.length_nil, y_bool0, y_bool1, not_true_eq_false, not_false_eq_true, false_implies, true_implies, true_or, or_true, false_or, or_false, if_true, if_false, ite_true, ite_false]
    refine R4.sr (n_ladd v 12) (by omega) fun h5 R5 => ?_
    have H := R5.lg H0
    simp only [w181_68, w181_68n, w181_70, w181_72, w181_74, w181_75, w181_75n, w181_76, w181_78, w181_80, w181_81, w181_82, xk_n, xk_i, xk_r, xk_z, xk_l, xcs_0, xcs_i, xcs_r, xcs_z, xcs_l, Nat.reduceAdd, Nat.reduceLeDiff, Nat.reduceLT, true_and, and_true, Option.toList_some, Option.toList_none, List.nil_append, List.cons_append, List.getElem?_cons_zero, List.getElem?_cons_succ, List.set_cons_zero, List.set_cons_succ, List.length_cons, List.length_nil, y_bool0, y_bool1, not_true_eq_false, not_false_eq_true, false_implies, true_implies, true_or, or_true, false_or, or_false, if_true, if_false, ite_true, ite_false, H.hd hv]
    refine R5.sr (n_ladd v 15) (by omega) fun h6 R6 => ?_
    simp only [w181_83, w181_83n, w181_85, w181_87, w181_89, w181_90, w181_91, xk_n, xk_i, xk_r, xk_z, xk_l, xcs_0, xcs_i, xcs_r, xcs_z, xcs_l, Nat.reduceAdd, Nat.reduceLeDiff, Nat.reduceLT, true_and, and_true, Option.toList_some, Option.toList_none, List.nil_append, List.cons_append, List.getElem?_cons_zero, List.getElem?_cons_succ, List.set_cons_zero, List.set_cons_succ, List.length_cons, List.length_nil, y_bool0, y_bool1, not_true_eq_false, not_false_eq_true, false_implies, true_implies, true_or, or_true, false_or, or_false, if_true, if_false, ite_true, ite_false]
    refine R6.sr (n_ladd v 18) (by omega) fun h7 R7 => ?_
    have H := R7.lg H0
    have e21 : (21 : Int32) * Int32.ofNat v = Int32.ofNat (21 * v) := n_lmul v 21
    simp only [w181_92, w181_92n, w181_94, w181_96, w181_98, w181_99, w181_99n, w181_100, w181_102, w181_104, w181_105, w181_106, xk_n, xk_i, xk_r, xk_z, xk_l, xcs_0, xcs_i, xcs_r, xcs_z, xcs_l, Nat.reduceAdd, Nat.reduceLeDiff, Nat.reduceLT, true_and, and_true, Option.toList_some, Option.toList_none, List.nil_append, List.cons_append, List.getElem?_cons_zero, List.getElem?_cons_succ, List.set_cons_zero, List.set_cons_succ, List.length_cons, List.length_nil, y_bool0, y_bool1, not_true_eq_false, not_false_eq_true, false_implies, true_implies, true_or, or_true, false_or, or_false, if_true, if_false, ite_true, ite_false, H.p hv, e21]
    refine R7.sw rfl (by omega) fun h8 R8 => ?_
    simp only [w181_107, w181_110, xk_n, xk_i, xk_r, xk_z, xk_l, xcs_0, xcs_i, xcs_r, xcs_z, xcs_l, Nat.reduceAdd, Nat.reduceLeDiff, Nat.reduceLT, true_and, and_true, Option.toList_some, Option.toList_none, List.nil_append, List.cons_append, List.getElem?_cons_zero, List.getElem?_cons_succ, List.set_cons_zero, List.set_cons_succ, List.length_cons, List.length_nil, y_bool0, y_bool1, not_true_eq_false, not_false_eq_true, false_implies, true_implies, true_or, or_true, false_or, or_false, if_true, if_false, ite_true, ite_false, z8]
    refine wp_gi H0 hE hK j (v + 1) h8 _ _ (by omega) R8 fun u hu => ?_
    by_cases z : u = v
    · subst z
      refine ⟨⟨?_, ?_, ?_, ?_, ?_, ?_⟩, 0, fun _ => gp (sE s) u, ?_, fun k hk => ?_, by omega, PTH.init⟩
      · rw [upd_ne _ _ (by omega), upd_ne _ _ (by omega), upd_ne _ _ (by omega), upd_ne _ _ (by omega), upd_ne _ _ (by omega), upd_ne _ _ (by omega), upd_at]; rfl
      · rw [upd_ne _ _ (by omega), upd_ne _ _ (by omega), upd_ne _ _ (by omega), upd_ne _ _ (by omega), upd_ne _ _ (by omega), upd_at]; rfl
      · rw [upd_ne _ _ (by omega), upd_ne _ _ (by omega), upd_ne _ _ (by omega), upd_ne _ _ (by omega), upd_at]; rfl
      · rw [upd_ne _ _ (by omega), upd_ne _ _ (by omega), upd_ne _ _ (by omega), upd_at]; rfl
      · rw [upd_ne _ _ (by omega), upd_ne _ _ (by omega), upd_at]; rfl
      · rw [upd_ne _ _ (by omega), upd_at]; rfl
      · rw [upd_at]; rfl
      · rw [show k = 0 by omega, Nat.add_zero, upd_at]
    · obtain ⟨⟨a1, a2, a3, a4, a5, a6⟩, dep, p, b1, b2, b3, b4⟩ := rr u (by omega)
      refine ⟨⟨?_, ?_, ?_, ?_, ?_, ?_⟩, dep, p, ?_, fun k hk => ?_, b3, b4⟩
      · rw [upd_ne _ _ (by omega), upd_ne _ _ (by omega), upd_ne _ _ (by omega), upd_ne _ _ (by omega), upd_ne _ _ (by omega), upd_ne _ _ (by omega), upd_ne _ _ (by omega)]; exact a1
      · rw [upd_ne _ _ (by omega), upd_ne _ _ (by omega), upd_ne _ _ (by omega), upd_ne _ _ (by omega), upd_ne _ _ (by omega), upd_ne _ _ (by omega), upd_ne _ _ (by omega)]; exact a2
      · rw [upd_ne _ _ (by omega), upd_ne _ _ (by omega), upd_ne _ _ (by omega), upd_ne _ _ (by omega), upd_ne _ _ (by omega), upd_ne _ _ (by omega), upd_ne _ _ (by omega)]; exact a3
      · rw [upd_ne _ _ (by omega), upd_ne _ _ (by omega), upd_ne _ _ (by omega), upd_ne _ _ (by omega), upd_ne _ _ (by omega), upd_ne _ _ (by omega), upd_ne _ _ (by omega)]; exact a4
      · rw [upd_ne _ _ (by omega), upd_ne _ _ (by omega), upd_ne _ _ (by omega), upd_ne _ _ (by omega), upd_ne _ _ (by omega), upd_ne _ _ (by omega), upd_ne _ _ (by omega)]; exact a5
      · rw [upd_ne _ _ (by omega), upd_ne _ _ (by omega), upd_ne _ _ (by omega), upd_ne _ _ (by omega), upd_ne _ _ (by omega), upd_ne _ _ (by omega), upd_ne _ _ (by omega)]; exact a6
      · rw [upd_ne _ _ (by omega), upd_ne _ _ (by omega), upd_ne _ _ (by omega), upd_ne _ _ (by omega), upd_ne _ _ (by omega), upd_ne _ _ (by omega), upd_ne _ _ (by omega)]; exact b1
      · rw [upd_ne _ _ (by omega)]; exact b2 k hk
/-- go: the rows behind it tell the days to ti -/
theorem wp_lgo {h : xH} {fr fw : Nat → Int32} (H : LG h s hi) (hE : okE (sE s) ∨ gv (sE s) = 0) (hW : 1 ≤ gn (sE s)) (hs4 : ∀ c, c < gn (sE s) → gs (sE s) c < 4) (ht : ti < 80) (a28 : h[28]? = some (.inl (0, 21, .inl fr))) (a29 : h[29]? = some (.inl (0, 63, .inl fw))) (hK : ∀ h' fr' fw', RH h h' fr' fw' → RR (gv (sE s)) fr' fw' (sE s) (runD (sE s) (sFr s) (ti + 1)) → K none h') : wp (d + 1) 181 0 [some (.ref 25), some (.ref 26), some (.ref 27), some (.int (Int32.ofNat ti)), some (.ref 28), some (.ref 29), none, none, none, none, none, none, none, none, none] [] h K := by
  have hE : okE (sE s) := by
    rcases hE with z | z
    · exact z
    · exact ⟨H.okW, by omega, fun v hv => by omega⟩
  simp only [w181_0, w181_1, xk_n, xk_i, xk_r, xk_z, xk_l, xcs_0, xcs_i, xcs_r, xcs_z, xcs_l, Nat.reduceAdd, Nat.reduceLeDiff, Nat.reduceLT, true_and, and_true, Option.toList_some, Option.toList_none, List.nil_append, List.cons_append, List.getElem?_cons_zero, List.getElem?_cons_succ, List.set_cons_zero, List.set_cons_succ, List.length_cons, List.length_nil, y_bool0, y_bool1, not_true_eq_false, not_false_eq_true, false_implies, true_implies, true_or, or_true, false_or, or_false, if_true, if_false, ite_true, ite_false]
  refine wp_gi H hE (fun h1 fr1 fw1 l6 R1 rr1 => ?_) (gv (sE s)) 0 h fr fw (by omega) ⟨a28, a29, FR.rfl'⟩ (fun v hv => by omega)
  simp only [w181_113, w181_114, xk_n, xk_i, xk_r, xk_z, xk_l, xcs_0, xcs_i, xcs_r, xcs_z, xcs_l, Nat.reduceAdd, Nat.reduceLeDiff, Nat.reduceLT, true_and, and_true, Option.toList_some, Option.toList_none, List.nil_append, List.cons_append, List.getElem?_cons_zero, List.getElem?_cons_succ, List.set_cons_zero, List.set_cons_succ, List.length_cons, List.length_nil, y_bool0, y_bool1, not_true_eq_false, not_false_eq_true, false_implies, true_implies, true_or, or_true, false_or, or_false, if_true, if_false, ite_true, ite_false]
  exact wp_days H hE hs4 ht hK (ti + 1) 0 h1 fr1 fw1 _ _ _ _ _ _ _ _ (by omega) R1 rr1
end
