/-! ===== the program's calls: law, prop, closed, first ===== -/
def outD (E : Gd) (fr : Nat → Bool) (v : Nat) : Option Nat := dayM fr (vo (runM E 80 v))
def edK (E : Gd) (v k : Nat) : Gd := (gw E, gn E, gs E, gv E, upN (gk E) v k, gp E, gh E)
def edH (E : Gd) (v k : Nat) : Gd := (gw E, gn E, gs E, gv E, gk E, gp E, upN (gh E) v k)
theorem upN_up (s : Nat → Nat) (c x y : Nat) : upN (upN s c x) c y = upN s c y := by
  funext i
  unfold upN
  split <;> rfl
theorem upN_sm (s : Nat → Nat) (c : Nat) : upN s c (s c) = s := by
  funext i
  unfold upN
  split
  · rename_i q; rw [q]
  · rfl
theorem edK_edK (E : Gd) (v a b : Nat) : edK (edK E v a) v b = edK E v b := by
  show (gw E, gn E, gs E, gv E, upN (upN (gk E) v a) v b, gp E, gh E) = _
  rw [upN_up]; rfl
theorem edH_edH (E : Gd) (v a b : Nat) : edH (edH E v a) v b = edH E v b := by
  show (gw E, gn E, gs E, gv E, gk E, gp E, upN (upN (gh E) v a) v b) = _
  rw [upN_up]; rfl
theorem edK_sm (E : Gd) (v : Nat) : edK E v (gk E v) = E := by
  show (gw E, gn E, gs E, gv E, upN (gk E) v (gk E v), gp E, gh E) = _
  rw [upN_sm]
theorem edH_sm (E : Gd) (v : Nat) : edH E v (gh E v) = E := by
  show (gw E, gn E, gs E, gv E, gk E, gp E, upN (gh E) v (gh E v)) = _
  rw [upN_sm]
theorem edK_edH (E : Gd) (v a b : Nat) : edK (edH E v a) v b = edH (edK E v b) v a := rfl
theorem okE_K {E : Gd} (hE : okE E) {v k : Nat} (hk : k < 3) : okE (edK E v k) := by
  refine ⟨hE.1, hE.2.1, fun u hu => ⟨?_, hE.2.2 u hu |>.2⟩⟩
  show upN (gk E) v k u < 3
  unfold upN
  split
  · exact hk
  · exact (hE.2.2 u hu).1
theorem okE_H {E : Gd} (hE : okE E) {v k : Nat} (hk : k < 4) : okE (edH E v k) := by
  refine ⟨hE.1, hE.2.1, fun u hu => ⟨(hE.2.2 u hu).1, (hE.2.2 u hu).2.1, ?_⟩⟩
  show upN (gh E) v k u < 4
  unfold upN
  split
  · exact hk
  · exact (hE.2.2 u hu).2.2
theorem BD.ek {h : xH} {q e : Nat} {E : Gd} {fr : Nat → Bool} {vs : Nat → Nat} {X : Nat → List Value} {L : Int64} (H : BD h q e E fr vs X L) {v : Nat} (hv : v < gv E) (k : Nat) : BD (h.set (vs v) (vcell (gp E v) k (gh E v) (X v))) q e (edK E v k) fr vs X L ∧ FR (GP q (gv E) vs) 0 0 h (h.set (vs v) (vcell (gp E v) k (gh E v) (X v))) := by
  have F := FR.set (c := vcell (gp E v) k (gh E v) (X v)) (H.at hv) rfl
  have hne := H.ne hv
  refine ⟨⟨H.1, h_set_ne H.bed hne.1, H.pl.fr F (Ne.symm hne.2.1) (Ne.symm hne.2.2.1), H.pf.fr F (Ne.symm hne.2.2.2.1) (Ne.symm hne.2.2.2.2.1), H.al.fr F (Ne.symm hne.2.2.2.2.2.1) (Ne.symm hne.2.2.2.2.2.2), fun u hu => ⟨H.at2 hu, H.len hu, ?_⟩, H.2.2.2.2.2.2⟩, F.mono (fun _ _ z => Or.inr ⟨v, hv, z⟩) (Nat.le_refl _) (Nat.le_refl _)⟩
  show (h.set (vs v) (vcell (gp E v) k (gh E v) (X v)))[vs u]? = some (vcell (gp E u) (upN (gk E) v k u) (gh E u) (X u))
  by_cases z : u = v
  · subst z
    rw [upN_at]
    exact h_set_at (H.at hu)
  · rw [upN_ne _ z]
    exact h_set_ne (H.at hu) (fun hh => z (H.2.2.2.2.2.2 _ _ hv hu hh).symm)
theorem BD.eh {h : xH} {q e : Nat} {E : Gd} {fr : Nat → Bool} {vs : Nat → Nat} {X : Nat → List Value} {L : Int64} (H : BD h q e E fr vs X L) {v : Nat} (hv : v < gv E) (k : Nat) : BD (h.set (vs v) (vcell (gp E v) (gk E v) k (X v))) q e (edH E v k) fr vs X L ∧ FR (GP q (gv E) vs) 0 0 h (h.set (vs v) (vcell (gp E v) (gk E v) k (X v))) := by
  have F := FR.set (c := vcell (gp E v) (gk E v) k (X v)) (H.at hv) rfl
  have hne := H.ne hv
  refine ⟨⟨H.1, h_set_ne H.bed hne.1, H.pl.fr F (Ne.symm hne.2.1) (Ne.symm hne.2.2.1), H.pf.fr F (Ne.symm hne.2.2.2.1) (Ne.symm hne.2.2.2.2.1), H.al.fr F (Ne.symm hne.2.2.2.2.2.1) (Ne.symm hne.2.2.2.2.2.2), fun u hu => ⟨H.at2 hu, H.len hu, ?_⟩, H.2.2.2.2.2.2⟩, F.mono (fun _ _ z => Or.inr ⟨v, hv, z⟩) (Nat.le_refl _) (Nat.le_refl _)⟩
  show (h.set (vs v) (vcell (gp E v) (gk E v) k (X v)))[vs u]? = some (vcell (gp E u) (gk E u) (upN (gh E) v k u) (X u))
  by_cases z : u = v
  · subst z
    rw [upN_at]
    exact h_set_at (H.at hu)
  · rw [upN_ne _ z]
    exact h_set_ne (H.at hu) (fun hh => z (H.2.2.2.2.2.2 _ _ hv hu hh).symm)
theorem dayOf_lt {fr : Nat → Bool} {m d : Nat} : ∀ {k : Nat}, dayOf fr m k = some d → d < k
  | 0, h => by cases h
  | k + 1, h => by
    unfold dayOf at h
    split at h
    · rename_i d' q
      cases h
      have := dayOf_lt q; omega
    · split at h
      · cases h
      · split at h
        · cases h; omega
        · cases h
theorem dayM_lt {fr : Nat → Bool} {o : Option Nat} {d : Nat} (h : dayM fr o = some d) : d < 80 := by
  cases o with
  | none => cases h
  | some m => exact dayOf_lt h
theorem outD_lt {E : Gd} {fr : Nat → Bool} {v : Nat} : ∀ x, outD E fr v = some x → x < 1000 := fun x h => by have := dayM_lt h; omega
theorem growN_vo {E : Gd} {t v m : Nat} {G : Nat → Vs} : ∀ {k : Nat}, vo (growN E t G k v) = some m → vo (G v) = some m ∨ m = t
  | 0, h => Or.inl h
  | k + 1, h => by
    replace h : vo (growV E t (growN E t G k) k v) = some m := h
    unfold growV at h
    split at h
    · exact growN_vo h
    · by_cases z : v = k
      · subst z
        rw [upG_at] at h
        unfold stepV at h
        split at h
        · split at h
          · replace h : (if gs E _ = 3 then some t else none) = some m := h
            split at h
            · cases h; exact Or.inr rfl
            · cases h
          · exact growN_vo h
        · split at h
          · cases h
          · split at h
            · cases h
            · exact growN_vo h
      · rw [upG_ne _ _ z] at h
        exact growN_vo h
theorem runM_vo {E : Gd} {v m : Nat} : ∀ {k : Nat}, vo (runM E k v) = some m → m < k
  | 0, h => by cases h
  | k + 1, h => by
    rcases growN_vo h with h | h
    · have := runM_vo h; omega
    · omega
/-- the best kind so far, and the day then -/
def lwF (E : Gd) (fr : Nat → Bool) (v : Nat) : Nat → Nat × Option Nat
  | 0 => (0, none)
  | k + 1 => if earO (outD (edK E v k) fr v) (lwF E fr v k).2 then (k, outD (edK E v k) fr v) else lwF E fr v k
theorem lwF_s (E : Gd) (fr : Nat → Bool) (v k : Nat) : lwF E fr v (k + 1) = if earO (outD (edK E v k) fr v) (lwF E fr v k).2 then (k, outD (edK E v k) fr v) else lwF E fr v k := rfl
theorem lwF_lt {E : Gd} {fr : Nat → Bool} {v : Nat} : ∀ k x, (lwF E fr v k).2 = some x → x < 1000
  | 0, x, h => by cases h
  | k + 1, x, h => by
    rw [lwF_s] at h
    split at h
    · exact outD_lt x h
    · exact lwF_lt k x h
def opLaw (s : St) (v w : Int32) : Int32 := match nb v (gv (sE s)) with
  | none => -1
  | some v => match nb w 2 with
    | none => -2
    | some w => if w = 0 then Int32.ofNat (lwF (sE s) (sFr s) v 3).1 else oC (lwF (sE s) (sFr s) v 3).2
section
variable {d : Nat} {K : Option Value → xH → Prop} {e : Nat} {E : Gd} {fr : Nat → Bool} {vs : Nat → Nat}
theorem wp_lw {t f : Int32} {a b c v : Nat} {l1 l2 : Option Value} (hE : okE E) (hv : v < gv E) (hvs : ∀ u, u < gv E → vs u ≠ 2) : ∀ (j k kc : Nat) (h : xH) (l8 : Option Value), k + j = 3 → kc < 3 → h[2]? = some (.inr (7, [.ref 3, .ref a, .ref b, .ref c, .int t, .int f])) → BX h 3 e (edK E v kc) fr vs → (∀ h' l8, h'[2]? = some (.inr (7, [.ref 3, .ref a, .ref b, .ref c, .int t, .int f])) → BX h' 3 e E fr vs → FR (GP 3 (gv E) vs) 0 0 h h' → wp (d + 6) 54 94 [some (.ref 2), l1, l2, some (.ref (vs v)), some (.int (Int32.ofNat (gk E v))), some (.int (Int32.ofNat (lwF E fr v 3).1)), some (.int (oC (lwF E fr v 3).2)), some (.int (Int32.ofNat 3)), l8] [] h' K) → wp (d + 6) 54 42 [some (.ref 2), l1, l2, some (.ref (vs v)), some (.int (Int32.ofNat (gk E v))), some (.int (Int32.ofNat (lwF E fr v k).1)), some (.int (oC (lwF E fr v k).2)), some (.int (Int32.ofNat k)), l8] [] h K
  | 0, k, kc, h, l8, hj, hkc, h2, ⟨X, L, B⟩, hK => by
    have hk3 : k = 3 := by omega
    subst hk3
    have q : (3 : Int32) ≤ Int32.ofNat 3 := by decide
    have q2 : (3 : Int32) = Int32.ofNat 3 := rfl
    have hv' : v < gv (edK E v kc) := hv
    have hat := B.at hv'
    have hal := h_lt hat
    have h22 := B.at2 hv'
    have R := B.ek hv' (gk E v)
    rw [edK_edK, edK_sm] at R
    rw [w54_42]
    simp only [w54_0, w54_0n, w54_1, w54_4, w54_5, w54_8, w54_8n, w54_9, w54_9n, w54_10, w54_10n, w54_13, w54_14, w54_15, w54_16, w54_17, w54_20, w54_23, w54_25, w54_26, w54_26n, w54_27, w54_30, w54_32, w54_33, w54_35, w54_37, w54_39, w54_40, w54_44, w54_45, w54_48, w54_48n, w54_49, w54_51, w54_54, w54_54n, w54_55, w54_58, w54_58n, w54_59, w54_62, w54_64, w54_66, w54_68, w54_71, w54_74, w54_76, w54_78, w54_80, w54_82, w54_85, w54_88, w54_88n, w54_89, w54_91, w54_95, w54_98, w54_100, w54_103, w54_105, xk_n, xk_i, xk_r, xk_z, xk_l, xcs_0, xcs_i, xcs_r, xcs_z, xcs_l, Nat.reduceAdd, Nat.reduceLeDiff, Nat.reduceLT, true_and, and_true, Option.toList_some, Option.toList_none, List.nil_append, List.cons_append, List.getElem?_cons_zero, List.getElem?_cons_succ, List.set_cons_zero, List.set_cons_succ, List.length_cons, List.length_nil, y_bool0, y_bool1, not_true_eq_false, not_false_eq_true, false_implies, true_implies, true_or, or_true, false_or, or_false, if_true, if_false, ite_true, ite_false, q, y_put, hat, h22, List.getElem?_set, List.length_set, hal]
    exact ⟨by omega, hK _ _ (h_set_ne h2 (hvs v hv)) ⟨_, _, R.1⟩ R.2⟩
  | j + 1, k, kc, h, l8, hj, hkc, h2, ⟨X, L, B⟩, hK => by
    have q : ((3 : Int32) ≤ Int32.ofNat k) = False := eq_false (by have := n_lle (m := 3) (a := k) (by omega) (by omega); rw [this]; omega)
    have z8 : Int32.ofNat k + 1 = Int32.ofNat (k + 1) := n_addl k 1
    have hv' : v < gv (edK E v kc) := hv
    have hat := B.at hv'
    have hal := h_lt hat
    have h22 := B.at2 hv'
    have R := B.ek hv' k
    rw [edK_edK] at R
    have hk3 : k < 3 := by omega
    have h12 : (h.set (vs v) (vcell (gp (edK E v kc) v) k (gh (edK E v kc) v) (X v)))[2]? = _ := h_set_ne h2 (hvs v hv)
    rw [w54_42]
    simp only [w54_0, w54_0n, w54_1, w54_4, w54_5, w54_8, w54_8n, w54_9, w54_9n, w54_10, w54_10n, w54_13, w54_14, w54_15, w54_16, w54_17, w54_20, w54_23, w54_25, w54_26, w54_26n, w54_27, w54_30, w54_32, w54_33, w54_35, w54_37, w54_39, w54_40, w54_44, w54_45, w54_48, w54_48n, w54_49, w54_51, w54_54, w54_54n, w54_55, w54_58, w54_58n, w54_59, w54_62, w54_64, w54_66, w54_68, w54_71, w54_74, w54_76, w54_78, w54_80, w54_82, w54_85, w54_88, w54_88n, w54_89, w54_91, w54_95, w54_98, w54_100, w54_103, w54_105, xk_n, xk_i, xk_r, xk_z, xk_l, xcs_0, xcs_i, xcs_r, xcs_z, xcs_l, Nat.reduceAdd, Nat.reduceLeDiff, Nat.reduceLT, true_and, and_true, Option.toList_some, Option.toList_none, List.nil_append, List.cons_append, List.getElem?_cons_zero, List.getElem?_cons_succ, List.set_cons_zero, List.set_cons_succ, List.length_cons, List.length_nil, y_bool0, y_bool1, not_true_eq_false, not_false_eq_true, false_implies, true_implies, true_or, or_true, false_or, or_false, if_true, if_false, ite_true, ite_false, q, y_put, hat, h22, List.getElem?_set, List.length_set, hal]
    refine ⟨by omega, ?_⟩
    show y_get (h.set (vs v) (vcell (gp (edK E v kc) v) k (gh (edK E v kc) v) (X v))) 2 7 0 _
    obtain ⟨R1, R2⟩ := R
    generalize h.set (vs v) (vcell (gp (edK E v kc) v) k (gh (edK E v kc) v) (X v)) = h1 at R1 R2 h12
    simp only [w54_0, w54_0n, w54_1, w54_4, w54_5, w54_8, w54_8n, w54_9, w54_9n, w54_10, w54_10n, w54_13, w54_14, w54_15, w54_16, w54_17, w54_20, w54_23, w54_25, w54_26, w54_26n, w54_27, w54_30, w54_32, w54_33, w54_35, w54_37, w54_39, w54_40, w54_44, w54_45, w54_48, w54_48n, w54_49, w54_51, w54_54, w54_54n, w54_55, w54_58, w54_58n, w54_59, w54_62, w54_64, w54_66, w54_68, w54_71, w54_74, w54_76, w54_78, w54_80, w54_82, w54_85, w54_88, w54_88n, w54_89, w54_91, w54_95, w54_98, w54_100, w54_103, w54_105, xk_n, xk_i, xk_r, xk_z, xk_l, xcs_0, xcs_i, xcs_r, xcs_z, xcs_l, Nat.reduceAdd, Nat.reduceLeDiff, Nat.reduceLT, true_and, and_true, Option.toList_some, Option.toList_none, List.nil_append, List.cons_append, List.getElem?_cons_zero, List.getElem?_cons_succ, List.set_cons_zero, List.set_cons_succ, List.length_cons, List.length_nil, y_bool0, y_bool1, not_true_eq_false, not_false_eq_true, false_implies, true_implies, true_or, or_true, false_or, or_false, if_true, if_false, ite_true, ite_false, y_get, h12, R1.cls]
    refine wp_outDay (okE_K hE hk3) ⟨X, L, R1⟩ hv fun h3 H3 F3 => ?_
    have h32 := F3.at h12 (by rintro (z | ⟨u, u1, u2⟩); omega; exact hvs u u1 u2.symm)
    have F13 : FR (GP 3 (gv E) vs) 0 0 h h3 := R2.tr F3
    have ee : oC (dayM fr (vo (runM (edK E v k) 80 v))) = oC (outD (edK E v k) fr v) := rfl
    simp only [w54_0, w54_0n, w54_1, w54_4, w54_5, w54_8, w54_8n, w54_9, w54_9n, w54_10, w54_10n, w54_13, w54_14, w54_15, w54_16, w54_17, w54_20, w54_23, w54_25, w54_26, w54_26n, w54_27, w54_30, w54_32, w54_33, w54_35, w54_37, w54_39, w54_40, w54_44, w54_45, w54_48, w54_48n, w54_49, w54_51, w54_54, w54_54n, w54_55, w54_58, w54_58n, w54_59, w54_62, w54_64, w54_66, w54_68, w54_71, w54_74, w54_76, w54_78, w54_80, w54_82, w54_85, w54_88, w54_88n, w54_89, w54_91, w54_95, w54_98, w54_100, w54_103, w54_105, xk_n, xk_i, xk_r, xk_z, xk_l, xcs_0, xcs_i, xcs_r, xcs_z, xcs_l, Nat.reduceAdd, Nat.reduceLeDiff, Nat.reduceLT, true_and, and_true, Option.toList_some, Option.toList_none, List.nil_append, List.cons_append, List.getElem?_cons_zero, List.getElem?_cons_succ, List.set_cons_zero, List.set_cons_succ, List.length_cons, List.length_nil, y_bool0, y_bool1, not_true_eq_false, not_false_eq_true, false_implies, true_implies, true_or, or_true, false_or, or_false, if_true, if_false, ite_true, ite_false, ee, wp_isEarlier outD_lt (lwF_lt k), z8]
    have ls := lwF_s E fr v k
    cases q2 : earO (outD (edK E v k) fr v) (lwF E fr v k).2
    · rw [q2, if_neg (by simp)] at ls
      simp only [bi_f, xk_n, xk_i, xk_r, xk_z, xk_l, xcs_0, xcs_i, xcs_r, xcs_z, xcs_l, Nat.reduceAdd, Nat.reduceLeDiff, Nat.reduceLT, true_and, and_true, Option.toList_some, Option.toList_none, List.nil_append, List.cons_append, List.getElem?_cons_zero, List.getElem?_cons_succ, List.set_cons_zero, List.set_cons_succ, List.length_cons, List.length_nil, y_bool0, y_bool1, not_true_eq_false, not_false_eq_true, false_implies, true_implies, true_or, or_true, false_or, or_false, if_true, if_false, ite_true, ite_false]
      rw [← ls]
      exact wp_lw hE hv hvs j (k + 1) k h3 _ (by omega) hk3 h32 H3 (fun h' l8 a1 a2 a3 => hK h' l8 a1 a2 (F13.tr a3))
    · rw [q2, if_pos rfl] at ls
      have z10 : ((1 : Int32) = 0) = False := eq_false (by decide)
      simp only [bi_t, z10, xk_n, xk_i, xk_r, xk_z, xk_l, xcs_0, xcs_i, xcs_r, xcs_z, xcs_l, Nat.reduceAdd, Nat.reduceLeDiff, Nat.reduceLT, true_and, and_true, Option.toList_some, Option.toList_none, List.nil_append, List.cons_append, List.getElem?_cons_zero, List.getElem?_cons_succ, List.set_cons_zero, List.set_cons_succ, List.length_cons, List.length_nil, y_bool0, y_bool1, not_true_eq_false, not_false_eq_true, false_implies, true_implies, true_or, or_true, false_or, or_false, if_true, if_false, ite_true, ite_false, w54_0, w54_0n, w54_1, w54_4, w54_5, w54_8, w54_8n, w54_9, w54_9n, w54_10, w54_10n, w54_13, w54_14, w54_15, w54_16, w54_17, w54_20, w54_23, w54_25, w54_26, w54_26n, w54_27, w54_30, w54_32, w54_33, w54_35, w54_37, w54_39, w54_40, w54_44, w54_45, w54_48, w54_48n, w54_49, w54_51, w54_54, w54_54n, w54_55, w54_58, w54_58n, w54_59, w54_62, w54_64, w54_66, w54_68, w54_71, w54_74, w54_76, w54_78, w54_80, w54_82, w54_85, w54_88, w54_88n, w54_89, w54_91, w54_95, w54_98, w54_100, w54_103, w54_105, z8]
      have e1 : (lwF E fr v (k + 1)).1 = k := by rw [ls]
      have e2 : (lwF E fr v (k + 1)).2 = outD (edK E v k) fr v := by rw [ls]
      have := wp_lw (t := t) (f := f) (a := a) (b := b) (c := c) (l1 := l1) (l2 := l2) hE hv hvs j (k + 1) k h3 (some (.int (oC (outD (edK E v k) fr v)))) (by omega) hk3 h32 H3 (fun h' l8 a1 a2 a3 => hK h' l8 a1 a2 (F13.tr a3))
      rw [e1, e2] at this
      exact this
end
section
variable {d : Nat} {h : xH} {K : Option Value → xH → Prop} {s : St}
theorem cop_law (H : RX h s) (v w : Int32) (hK : ∀ h', RX h' s → FR CP 0 0 h h' → K (some (.int (opLaw s v w))) h') : wp (d + 6) 54 0 [some (.ref 2), some (.int v), some (.int w), none, none, none, none, none, none] [] h K := by
  have HX := H
  obtain ⟨hO, e, em, er, vs, rs, H⟩ := H
  have H0 := H
  obtain ⟨X, L, B⟩ := H.2.1
  have hv3 := hO.v3
  have z10 : ((1 : Int32) = 0) = False := eq_false (by decide)
  rcases nb_cas v (m := gv (sE s)) (by omega) with ⟨a, ha, rfl, hnb⟩ | ⟨hc, hnb⟩
  · rcases nb_cas w (m := 2) (by omega) with ⟨b, hb, rfl, hnb2⟩ | ⟨hc2, hnb2⟩
    · have hE := hO.ok ha
      have e1 : opLaw s (Int32.ofNat a) (Int32.ofNat b) = if b = 0 then Int32.ofNat (lwF (sE s) (sFr s) a 3).1 else oC (lwF (sE s) (sFr s) a 3).2 := by unfold opLaw; rw [hnb]; dsimp only; rw [hnb2]
      rw [e1] at hK
      have t0 : (Int32.ofNat b = 0) = (b = 0) := propext (n_eql (m := 0) (by omega) (by omega))
      have z0 : (0 : Int32) = Int32.ofNat 0 := rfl
      have z9 : (-9 : Int32) = oC none := rfl
      have hvs : ∀ u, u < gv (sE s) → vs u ≠ 2 := fun u hu => by have := H.2.2.2.2.2.2.2.1 u hu; omega
      simp only [w54_0, w54_0n, w54_1, w54_4, w54_5, w54_8, w54_8n, w54_9, w54_9n, w54_10, w54_10n, w54_13, w54_14, w54_15, w54_16, w54_17, w54_20, w54_23, w54_25, w54_26, w54_26n, w54_27, w54_30, w54_32, w54_33, w54_35, w54_37, w54_39, w54_40, w54_44, w54_45, w54_48, w54_48n, w54_49, w54_51, w54_54, w54_54n, w54_55, w54_58, w54_58n, w54_59, w54_62, w54_64, w54_66, w54_68, w54_71, w54_74, w54_76, w54_78, w54_80, w54_82, w54_85, w54_88, w54_88n, w54_89, w54_91, w54_95, w54_98, w54_100, w54_103, w54_105, xk_n, xk_i, xk_r, xk_z, xk_l, xcs_0, xcs_i, xcs_r, xcs_z, xcs_l, Nat.reduceAdd, Nat.reduceLeDiff, Nat.reduceLT, true_and, and_true, Option.toList_some, Option.toList_none, List.nil_append, List.cons_append, List.getElem?_cons_zero, List.getElem?_cons_succ, List.set_cons_zero, List.set_cons_succ, List.length_cons, List.length_nil, y_bool0, y_bool1, not_true_eq_false, not_false_eq_true, false_implies, true_implies, true_or, or_true, false_or, or_false, if_true, if_false, ite_true, ite_false, y_get, H.1, B.bed, B.cls, wp_vineAt B hv3 ha, wp_below_t (m := 2) (by omega) hb, z10, B.at ha]
      rw [z0, z9]
      have fin : ∀ h' l8, h'[2]? = some (.inr (7, [.ref 3, .ref 9, .ref 15, .ref 16, .int (sTr s), .int (sFa s)])) → BX h' 3 e (sE s) (sFr s) vs → FR (GP 3 (gv (sE s)) vs) 0 0 h h' → wp (d + 6) 54 94 [some (.ref 2), some (.int (Int32.ofNat a)), some (.int (Int32.ofNat b)), some (.ref (vs a)), some (.int (Int32.ofNat (gk (sE s) a))), some (.int (Int32.ofNat (lwF (sE s) (sFr s) a 3).1)), some (.int (oC (lwF (sE s) (sFr s) a 3).2)), some (.int (Int32.ofNat 3)), l8] [] h' K := by
        intro h' l8 _ H' F'
        have R := H0.G H' F'
        have fin := hK h' ⟨hO, e, em, er, vs, rs, R.1⟩ R.2
        simp only [w54_0, w54_0n, w54_1, w54_4, w54_5, w54_8, w54_8n, w54_9, w54_9n, w54_10, w54_10n, w54_13, w54_14, w54_15, w54_16, w54_17, w54_20, w54_23, w54_25, w54_26, w54_26n, w54_27, w54_30, w54_32, w54_33, w54_35, w54_37, w54_39, w54_40, w54_44, w54_45, w54_48, w54_48n, w54_49, w54_51, w54_54, w54_54n, w54_55, w54_58, w54_58n, w54_59, w54_62, w54_64, w54_66, w54_68, w54_71, w54_74, w54_76, w54_78, w54_80, w54_82, w54_85, w54_88, w54_88n, w54_89, w54_91, w54_94, w54_95, w54_98, w54_100, w54_103, w54_105, xk_n, xk_i, xk_r, xk_z, xk_l, xcs_0, xcs_i, xcs_r, xcs_z, xcs_l, Nat.reduceAdd, Nat.reduceLeDiff, Nat.reduceLT, true_and, and_true, Option.toList_some, Option.toList_none, List.nil_append, List.cons_append, List.getElem?_cons_zero, List.getElem?_cons_succ, List.set_cons_zero, List.set_cons_succ, List.length_cons, List.length_nil, y_bool0, y_bool1, not_true_eq_false, not_false_eq_true, false_implies, true_implies, true_or, or_true, false_or, or_false, if_true, if_false, ite_true, ite_false, t0]
        by_cases q : b = 0
        · rw [if_pos q] at fin
          exact ⟨fun z => absurd q z, fun _ => fin⟩
        · rw [if_neg q] at fin
          exact ⟨fun _ => fin, fun z => absurd z q⟩
      exact wp_lw hE ha hvs 3 0 (gk (sE s) a) h _ (by omega) (hE.2.2 a ha).1 H.1 (by rw [edK_sm]; exact ⟨X, L, B⟩) fin
    · have e1 : opLaw s (Int32.ofNat a) w = -2 := by unfold opLaw; rw [hnb]; dsimp only; rw [hnb2]
      rw [e1] at hK
      simp only [w54_0, w54_0n, w54_1, w54_4, w54_5, w54_8, w54_8n, w54_9, w54_9n, w54_10, w54_10n, w54_13, w54_14, w54_15, w54_16, w54_17, w54_20, w54_23, w54_25, w54_26, w54_26n, w54_27, w54_30, w54_32, w54_33, w54_35, w54_37, w54_39, w54_40, w54_44, w54_45, w54_48, w54_48n, w54_49, w54_51, w54_54, w54_54n, w54_55, w54_58, w54_58n, w54_59, w54_62, w54_64, w54_66, w54_68, w54_71, w54_74, w54_76, w54_78, w54_80, w54_82, w54_85, w54_88, w54_88n, w54_89, w54_91, w54_95, w54_98, w54_100, w54_103, w54_105, xk_n, xk_i, xk_r, xk_z, xk_l, xcs_0, xcs_i, xcs_r, xcs_z, xcs_l, Nat.reduceAdd, Nat.reduceLeDiff, Nat.reduceLT, true_and, and_true, Option.toList_some, Option.toList_none, List.nil_append, List.cons_append, List.getElem?_cons_zero, List.getElem?_cons_succ, List.set_cons_zero, List.set_cons_succ, List.length_cons, List.length_nil, y_bool0, y_bool1, not_true_eq_false, not_false_eq_true, false_implies, true_implies, true_or, or_true, false_or, or_false, if_true, if_false, ite_true, ite_false, y_get, H.1, B.bed, B.cls, wp_vineAt B hv3 ha, wp_below_f (m := 2) hc2]
      exact hK h HX FR.rfl'
  · have e1 : opLaw s v w = -1 := by unfold opLaw; rw [hnb]
    rw [e1] at hK
    simp only [w54_0, w54_0n, w54_1, w54_4, w54_5, w54_8, w54_8n, w54_9, w54_9n, w54_10, w54_10n, w54_13, w54_14, w54_15, w54_16, w54_17, w54_20, w54_23, w54_25, w54_26, w54_26n, w54_27, w54_30, w54_32, w54_33, w54_35, w54_37, w54_39, w54_40, w54_44, w54_45, w54_48, w54_48n, w54_49, w54_51, w54_54, w54_54n, w54_55, w54_58, w54_58n, w54_59, w54_62, w54_64, w54_66, w54_68, w54_71, w54_74, w54_76, w54_78, w54_80, w54_82, w54_85, w54_88, w54_88n, w54_89, w54_91, w54_95, w54_98, w54_100, w54_103, w54_105, xk_n, xk_i, xk_r, xk_z, xk_l, xcs_0, xcs_i, xcs_r, xcs_z, xcs_l, Nat.reduceAdd, Nat.reduceLeDiff, Nat.reduceLT, true_and, and_true, Option.toList_some, Option.toList_none, List.nil_append, List.cons_append, List.getElem?_cons_zero, List.getElem?_cons_succ, List.set_cons_zero, List.set_cons_succ, List.length_cons, List.length_nil, y_bool0, y_bool1, not_true_eq_false, not_false_eq_true, false_implies, true_implies, true_or, or_true, false_or, or_false, if_true, if_false, ite_true, ite_false, y_get, H.1, B.bed, B.cls, wp_vineNo B hc]
    exact hK h HX FR.rfl'
end
