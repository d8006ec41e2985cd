/-! ===== the program: how a bed grows ===== -/
def BD (h : xH) (q e : Nat) (E : Gd) (fr : Nat → Bool) (vs : Nat → Nat) (X : Nat → List Value) (L : Int64) : Prop := 2 ≤ q ∧ h[q]? = some (.inr (1, [.ref (q + 1), .ref (q + 3), .ref (q + 5), .long L])) ∧ PL h (q + 1) (gw E) (gn E) (gs E) ∧ PF h (q + 3) fr ∧ AL h (q + 5) e (gv E) vs ∧ (∀ v, v < gv E → 2 ≤ vs v ∧ (X v).length = 7 ∧ h[vs v]? = some (vcell (gp E v) (gk E v) (gh E v) (X v))) ∧ ∀ u v, u < gv E → v < gv E → vs u = vs v → u = v
def GP (q n : Nat) (vs : Nat → Nat) (a : Nat) : Prop := a = q ∨ ∃ v, v < n ∧ a = vs v
def updX (X : Nat → List Value) (v : Nat) (Y : List Value) : Nat → List Value := fun u => if u = v then Y else X u
section
variable {h : xH} {q e : Nat} {E : Gd} {fr : Nat → Bool} {vs : Nat → Nat} {X : Nat → List Value} {L : Int64}
theorem BD.cls (H : BD h q e E fr vs X L) : y_cls h q 1 := by unfold y_cls; rw [H.2.1]; exact ⟨H.1, rfl⟩
theorem BD.bed (H : BD h q e E fr vs X L) : h[q]? = some (.inr (1, [.ref (q + 1), .ref (q + 3), .ref (q + 5), .long L])) := H.2.1
theorem BD.pl (H : BD h q e E fr vs X L) : PL h (q + 1) (gw E) (gn E) (gs E) := H.2.2.1
theorem BD.pf (H : BD h q e E fr vs X L) : PF h (q + 3) fr := H.2.2.2.1
theorem BD.al (H : BD h q e E fr vs X L) : AL h (q + 5) e (gv E) vs := H.2.2.2.2.1
theorem BD.at (H : BD h q e E fr vs X L) {v : Nat} (hv : v < gv E) : h[vs v]? = some (vcell (gp E v) (gk E v) (gh E v) (X v)) := (H.2.2.2.2.2.1 v hv).2.2
theorem BD.at2 (H : BD h q e E fr vs X L) {v : Nat} (hv : v < gv E) : 2 ≤ vs v := (H.2.2.2.2.2.1 v hv).1
theorem BD.len (H : BD h q e E fr vs X L) {v : Nat} (hv : v < gv E) : (X v).length = 7 := (H.2.2.2.2.2.1 v hv).2.1
theorem BD.vcls (H : BD h q e E fr vs X L) {v : Nat} (hv : v < gv E) : y_cls h (vs v) 6 := by unfold y_cls; rw [H.at hv]; exact ⟨H.at2 hv, rfl⟩
theorem PL.sg {h : xH} {a w n : Nat} {s : Nat → Nat} (H : PL h a w n s) : ∃ f, h[a + 1]? = some (.inl (0, 30, .inl f)) := ⟨_, H.2.2.2.choose_spec.1⟩
theorem BD.ne (H : BD h q e E fr vs X L) {v : Nat} (hv : v < gv E) : vs v ≠ q ∧ vs v ≠ q + 1 ∧ vs v ≠ q + 2 ∧ vs v ≠ q + 3 ∧ vs v ≠ q + 4 ∧ vs v ≠ q + 5 ∧ vs v ≠ e := by
  obtain ⟨f, h2⟩ := H.pl.sg
  obtain ⟨f1, f2, f3, f4, f5⟩ := H.pf
  obtain ⟨⟨mc, l1⟩, l2, l3, l4⟩ := H.al
  have hv' := H.at hv
  refine ⟨h_dif hv' H.bed (by intro z; cases z), h_dif hv' H.pl.1 (by intro z; cases z), h_dif hv' h2 (by intro z; cases z), h_dif hv' f1 (by intro z; cases z), h_dif hv' f4 (by intro z; cases z), h_dif hv' l1 (by intro z; cases z), ?_⟩
  rcases l4 with ⟨rfl, b2, b3⟩ | ⟨b1, g, b2, b3⟩
  · omega
  · exact h_dif hv' b2 (by intro z; cases z)
theorem BD.eq (H : BD h q e E fr vs X L) : e ≠ q ∧ e ≠ q + 1 ∧ e ≠ q + 2 ∧ e ≠ q + 3 ∧ e ≠ q + 4 ∧ e ≠ q + 5 := by
  obtain ⟨f, h2⟩ := H.pl.sg
  obtain ⟨f1, f2, f3, f4, f5⟩ := H.pf
  obtain ⟨⟨mc, l1⟩, l2, l3, l4⟩ := H.al
  have hq := H.1
  rcases l4 with ⟨rfl, b2, b3⟩ | ⟨b1, g, b2, b3⟩
  · omega
  · exact ⟨h_dif b2 H.bed (by intro z; cases z), h_dif b2 H.pl.1 (by intro z; cases z), h_dif b2 h2 (by intro z; cases z), h_dif b2 f1 (by intro z; cases z), h_dif b2 f4 (by intro z; cases z), h_dif b2 l1 (by intro z; cases z)⟩
/-- what grows changes, the rest stays -/
theorem BD.mk' (H : BD h q e E fr vs X L) {h' : xH} {X' : Nat → List Value} {L' : Int64} {k m : Nat} (F : FR (GP q (gv E) vs) k m h h') (hb : h'[q]? = some (.inr (1, [.ref (q + 1), .ref (q + 3), .ref (q + 5), .long L']))) (hv : ∀ v, v < gv E → (X' v).length = 7 ∧ h'[vs v]? = some (vcell (gp E v) (gk E v) (gh E v) (X' v))) : BD h' q e E fr vs X' L' := by
  have hne := fun v hv => H.ne (v := v) hv
  have heq := H.eq
  have hnG : ∀ a, a ≠ q → (∀ v, v < gv E → vs v ≠ a) → ¬ GP q (gv E) vs a := by
    rintro a h1 h2 (z | ⟨v, z1, z2⟩)
    · exact h1 z
    · exact h2 v z1 z2.symm
  refine ⟨H.1, hb, H.pl.fr F ?_ ?_, H.pf.fr F ?_ ?_, H.al.fr F ?_ ?_, fun v hv' => ⟨H.at2 hv', hv v hv'⟩, H.2.2.2.2.2.2⟩
  · exact hnG _ (by omega) fun v hv => (hne v hv).2.1
  · exact hnG _ (by omega) fun v hv => (hne v hv).2.2.1
  · exact hnG _ (by omega) fun v hv => (hne v hv).2.2.2.1
  · exact hnG _ (by omega) fun v hv => (hne v hv).2.2.2.2.1
  · exact hnG _ (by omega) fun v hv => (hne v hv).2.2.2.2.2.1
  · exact hnG _ heq.1 fun v hv => (hne v hv).2.2.2.2.2.2
/-- a vine and the bed's leaves are written -/
theorem BD.step (H : BD h q e E fr vs X L) {v : Nat} (hv : v < gv E) {Y : List Value} (hY : Y.length = 7) (L' : Int64) : BD ((h.set (vs v) (vcell (gp E v) (gk E v) (gh E v) Y)).set q (.inr (1, [.ref (q + 1), .ref (q + 3), .ref (q + 5), .long L']))) q e E fr vs (updX X v Y) L' ∧ FR (GP q (gv E) vs) 0 0 h ((h.set (vs v) (vcell (gp E v) (gk E v) (gh E v) Y)).set q (.inr (1, [.ref (q + 1), .ref (q + 3), .ref (q + 5), .long L']))) := by
  have hne := H.ne hv
  have F1 := FR.set (c := vcell (gp E v) (gk E v) (gh E v) Y) (H.at hv) (by show Y.length + 1 + 1 + 1 = (X v).length + 1 + 1 + 1; rw [hY, H.len hv])
  have b1 : (h.set (vs v) (vcell (gp E v) (gk E v) (gh E v) Y))[q]? = _ := h_set_ne H.bed hne.1
  have F2 := F1.trans (FR.set (c := .inr (1, [.ref (q + 1), .ref (q + 3), .ref (q + 5), .long L'])) b1 rfl) (R := GP q (gv E) vs) (fun _ _ z => Or.inr ⟨v, hv, z⟩) (fun _ _ z => Or.inl z) (Nat.le_refl _) (Nat.le_refl _)
  refine ⟨H.mk' F2 (h_set_at b1) fun u hu => ?_, F2⟩
  unfold updX
  by_cases z : u = v
  · subst z
    rw [if_pos rfl]
    exact ⟨hY, h_set_ne (h_set_at (H.at hu)) (Ne.symm hne.1)⟩
  · rw [if_neg z]
    refine ⟨H.len hu, h_set_ne (h_set_ne (H.at hu) ?_) (Ne.symm (H.ne hu).1)⟩
    intro hh
    exact z (H.2.2.2.2.2.2 _ _ hv hu hh).symm
theorem BD.ext (H : BD h q e E fr vs X L) {X' : Nat → List Value} (hX : ∀ v, v < gv E → X' v = X v) : BD h q e E fr vs X' L := by
  obtain ⟨a1, a2, a3, a4, a5, a6, a7⟩ := H
  exact ⟨a1, a2, a3, a4, a5, fun v hv => by rw [hX v hv]; exact a6 v hv, a7⟩
theorem GP.tr {q n k m : Nat} {vs : Nat → Nat} {h h1 h2 : xH} (a : FR (GP q n vs) 0 0 h h1) (b : FR (GP q n vs) 0 0 h1 h2) : FR (GP q n vs) 0 0 h h2 := FR.tr a b
/-- the bed in the midst of growth -/
def BG (h : xH) (q e : Nat) (E : Gd) (fr : Nat → Bool) (vs : Nat → Nat) (G : Nat → Vs) : Prop := BD h q e E fr vs (fun v => vsX (G v)) (Int64.ofNat (allL G (gv E)))
end
/-- the first k vines are planted anew -/
def rsX (E : Gd) (X : Nat → List Value) (k : Nat) : Nat → List Value := fun v => if v < k then vsX (init1 E v) else X v
theorem wp_rs {d : Nat} {K : Option Value → xH → Prop} {q e : Nat} {E : Gd} {fr : Nat → Bool} {vs : Nat → Nat} (hE : okE E) : ∀ (j k : Nat) (h : xH) (X : Nat → List Value) (l2 : Option Value), k + j = gv E → BD h q e E fr vs (rsX E X k) (Int64.ofNat (allL (init1 E) k)) → (∀ h', BG h' q e E fr vs (init1 E) → FR (GP q (gv E) vs) 0 0 h h' → K none h') → wp (d + 3) 6 7 [some (.ref q), some (.int (Int32.ofNat k)), l2] [] h K
  | 0, k, h, X, l2, hk, H, hK => by
    have hv3 := hE.2.1
    have z6 : Int32.ofNat (gv E) ≤ Int32.ofNat k := (n_le (by omega) (by omega)).mpr (by omega)
    have : k = gv E := by omega
    subst this
    rw [w6_7]
    simp only [w6_0, w6_0n, w6_1, w6_2, w6_5, w6_6, w6_8, w6_8n, w6_9, w6_12, w6_15, w6_18, w6_18n, w6_19, w6_22, w6_23, w6_26, w6_26n, w6_29, w6_29n, w6_30, w6_30n, w6_31, w6_34, w6_34n, w6_35, w6_35r, w6_36, w6_39, w6_39n, w6_40, w6_43, w6_44, w6_47, w6_50, w6_53, xk_n, xk_i, xk_r, xk_z, xk_l, xcs_0, xcs_i, xcs_r, xcs_z, xcs_l, Nat.reduceAdd, Nat.reduceLeDiff, Nat.reduceLT, true_and, and_true, Option.toList_some, Option.toList_none, List.nil_append, List.cons_append, List.getElem?_cons_zero, List.getElem?_cons_succ, List.set_cons_zero, List.set_cons_succ, List.length_cons, List.length_nil, y_bool0, y_bool1, not_true_eq_false, not_false_eq_true, false_implies, true_implies, true_or, or_true, false_or, or_false, if_true, if_false, ite_true, ite_false, y_get, H.bed, H.al.cls, wp_size H.al, z6]
    exact hK h (H.ext fun v hv => (if_pos hv).symm) FR.rfl'
  | j + 1, k, h, X, l2, hk, H, hK => by
    have hv3 := hE.2.1
    have hkv : k < gv E := by omega
    have hp := (hE.2.2 k hkv).2.1
    have hn := hE.1.2.2.1
    have z6 : (Int32.ofNat (gv E) ≤ Int32.ofNat k) = False := eq_false (by rw [n_le (by omega) (by omega)]; omega)
    have z8 : Int32.ofNat k + 1 = Int32.ofNat (k + 1) := n_addl k 1
    have hS := H.step hkv (Y := vsX (init1 E k)) rfl (Int64.ofNat (allL (init1 E) (k + 1)))
    have hat := H.at hkv
    have hne := H.ne hkv
    rw [w6_7]
    simp only [w6_0, w6_0n, w6_1, w6_2, w6_5, w6_6, w6_8, w6_8n, w6_9, w6_12, w6_15, w6_18, w6_18n, w6_19, w6_22, w6_23, w6_26, w6_26n, w6_29, w6_29n, w6_30, w6_30n, w6_31, w6_34, w6_34n, w6_35, w6_35r, w6_36, w6_39, w6_39n, w6_40, w6_43, w6_44, w6_47, w6_50, w6_53, xk_n, xk_i, xk_r, xk_z, xk_l, xcs_0, xcs_i, xcs_r, xcs_z, xcs_l, Nat.reduceAdd, Nat.reduceLeDiff, Nat.reduceLT, true_and, and_true, Option.toList_some, Option.toList_none, List.nil_append, List.cons_append, List.getElem?_cons_zero, List.getElem?_cons_succ, List.set_cons_zero, List.set_cons_succ, List.length_cons, List.length_nil, y_bool0, y_bool1, not_true_eq_false, not_false_eq_true, false_implies, true_implies, true_or, or_true, false_or, or_false, if_true, if_false, ite_true, ite_false, y_get, H.bed, H.al.cls, wp_size H.al, z6, wp_get H.al hkv, H.at hkv, H.vcls hkv, wp_vrestart (H.at hkv) (H.len hkv) (H.at2 hkv) (show gp E k < 30 by omega)]
    have b1 := (init1_ok hE).allk hE (k := k) (by omega)
    have b2 : 2 ^ gp E k < 1073741824 := Nat.pow_lt_pow_right (m := gp E k) (n := 30) (a := 2) (by omega) (by omega)
    have l1 : Int64.ofNat (allL (init1 E) k) ||| Int64.ofNat (2 ^ gp E k) = Int64.ofNat (allL (init1 E) (k + 1)) := l_or (by omega) (by omega)
    have hat' : h[vs k]? = _ := H.at hkv
    obtain ⟨H1, hH1⟩ : ∃ H1, H1 = h.set (vs k) (vcell (gp E k) (gk E k) (gh E k) (vsX (gp E k, gh E k, 0, 2 ^ gp E k, 0, none, none))) := ⟨_, rfl⟩
    have e1 : H1[q]? = some (.inr (1, [.ref (q + 1), .ref (q + 3), .ref (q + 5), .long (Int64.ofNat (allL (init1 E) k))])) := by rw [hH1]; exact h_set_ne H.bed hne.1
    have e2 : H1[vs k]? = some (vcell (gp E k) (gk E k) (gh E k) [.int (Int32.ofNat (gp E k)), .int (Int32.ofNat (gh E k)), .int (Int32.ofNat 0), .int (oM none), .int (oM none), .long (Int64.ofNat (2 ^ gp E k)), .long (Int64.ofNat 0)]) := by rw [hH1]; exact h_set_at (H.at hkv)
    rw [← hH1]
    simp only [w6_0, w6_0n, w6_1, w6_2, w6_5, w6_6, w6_8, w6_8n, w6_9, w6_12, w6_15, w6_18, w6_18n, w6_19, w6_22, w6_23, w6_26, w6_26n, w6_29, w6_29n, w6_30, w6_30n, w6_31, w6_34, w6_34n, w6_35, w6_35r, w6_36, w6_39, w6_39n, w6_40, w6_43, w6_44, w6_47, w6_50, w6_53, xk_n, xk_i, xk_r, xk_z, xk_l, xcs_0, xcs_i, xcs_r, xcs_z, xcs_l, Nat.reduceAdd, Nat.reduceLeDiff, Nat.reduceLT, true_and, and_true, Option.toList_some, Option.toList_none, List.nil_append, List.cons_append, List.getElem?_cons_zero, List.getElem?_cons_succ, List.set_cons_zero, List.set_cons_succ, List.length_cons, List.length_nil, y_bool0, y_bool1, not_true_eq_false, not_false_eq_true, false_implies, true_implies, true_or, or_true, false_or, or_false, if_true, if_false, ite_true, ite_false, y_get, y_put, e1, e2, l1, H.1, z8]
    subst hH1
    refine wp_rs hE j (k + 1) _ X _ (by omega) (hS.1.ext fun v hv => ?_) fun h' HB F => hK h' HB (hS.2.tr F)
    show (if v < k + 1 then vsX (init1 E v) else X v) = if v = k then vsX (init1 E k) else if v < k then vsX (init1 E v) else X v
    by_cases z : v = k
    · rw [if_pos z, if_pos (show v < k + 1 by omega), z]
    · by_cases z2 : v < k
      · rw [if_neg z, if_pos z2, if_pos (show v < k + 1 by omega)]
      · rw [if_neg z, if_neg z2, if_neg (show ¬ v < k + 1 by omega)]
theorem wp_restart {d : Nat} {h : xH} {K : Option Value → xH → Prop} {q e : Nat} {E : Gd} {fr : Nat → Bool} {vs : Nat → Nat} {X : Nat → List Value} {L : Int64} (hE : okE E) (H : BD h q e E fr vs X L) (hK : ∀ h', BG h' q e E fr vs (init1 E) → FR (GP q (gv E) vs) 0 0 h h' → K none h') : wp (d + 3) 6 0 [some (.ref q), none, none] [] h K := by
  have F := FR.set (c := .inr (1, [.ref (q + 1), .ref (q + 3), .ref (q + 5), .long 0])) H.bed rfl
  have F2 : FR (GP q (gv E) vs) 0 0 h _ := F.mono (fun _ _ z => Or.inl z) (Nat.le_refl _) (Nat.le_refl _)
  have H2 : BD _ q e E fr vs X 0 := H.mk' F2 (h_set_at H.bed) fun v hv => ⟨H.len hv, h_set_ne (H.at hv) (Ne.symm (H.ne hv).1)⟩
  have z : (0 : Int32) = Int32.ofNat 0 := rfl
  simp only [w6_0, w6_0n, w6_1, w6_2, w6_5, w6_6, w6_8, w6_8n, w6_9, w6_12, w6_15, w6_18, w6_18n, w6_19, w6_22, w6_23, w6_26, w6_26n, w6_29, w6_29n, w6_30, w6_30n, w6_31, w6_34, w6_34n, w6_35, w6_35r, w6_36, w6_39, w6_39n, w6_40, w6_43, w6_44, w6_47, w6_50, w6_53, xk_n, xk_i, xk_r, xk_z, xk_l, xcs_0, xcs_i, xcs_r, xcs_z, xcs_l, Nat.reduceAdd, Nat.reduceLeDiff, Nat.reduceLT, true_and, and_true, Option.toList_some, Option.toList_none, List.nil_append, List.cons_append, List.getElem?_cons_zero, List.getElem?_cons_succ, List.set_cons_zero, List.set_cons_succ, List.length_cons, List.length_nil, y_bool0, y_bool1, not_true_eq_false, not_false_eq_true, false_implies, true_implies, true_or, or_true, false_or, or_false, if_true, if_false, ite_true, ite_false, y_put, H.bed, H.1, z]
  refine wp_rs hE (gv E) 0 _ X none (by omega) (H2.ext fun v hv => if_neg (by omega)) fun h' HB F' => hK h' HB (F2.tr F')
theorem allL_up {G : Nat → Vs} {v : Nat} {x : Vs} (hx : ∀ c, (vl (G v)).testBit c = true → (vl x).testBit c = true) : ∀ {k : Nat}, v < k → allL (upG G v x) k = allL G k ||| vl x := by
  intro k hk
  apply Nat.eq_of_testBit_eq
  intro i
  rw [Nat.testBit_or]
  apply Bool.eq_iff_iff.mpr
  rw [Bool.or_eq_true, allL_bit, allL_bit]
  constructor
  · rintro ⟨u, u1, u2⟩
    by_cases z : u = v
    · rw [z, upG_at] at u2
      exact Or.inr u2
    · rw [upG_ne _ _ z] at u2
      exact Or.inl ⟨u, u1, u2⟩
  · rintro (⟨u, u1, u2⟩ | u2)
    · by_cases z : u = v
      · refine ⟨v, hk, ?_⟩
        rw [upG_at]
        rw [z] at u2
        exact hx i u2
      · refine ⟨u, u1, ?_⟩
        rw [upG_ne _ _ z]
        exact u2
    · exact ⟨v, hk, by rw [upG_at]; exact u2⟩
theorem stepV_sub {E : Gd} {L t v : Nat} {x : Vs} {c : Nat} (h : (vl x).testBit c = true) : (vl (stepV E L t v x)).testBit c = true := by
  unfold stepV
  split
  · split
    · show (vl x ||| _).testBit c = true
      rw [Nat.testBit_or, h]; rfl
    · exact h
  · split
    · exact h
    · split <;> exact h
theorem allL_sub {G : Nat → Vs} {v k : Nat} (hv : v < k) : allL G k ||| vl (G v) = allL G k := by
  apply Nat.eq_of_testBit_eq
  intro i
  rw [Nat.testBit_or]
  apply Bool.eq_iff_iff.mpr
  rw [Bool.or_eq_true]
  exact ⟨fun z => z.elim id fun z => allL_bit.mpr ⟨v, hv, z⟩, Or.inl⟩
theorem upG_same {G : Nat → Vs} {v : Nat} : upG G v (G v) = G := by
  funext u
  unfold upG
  split
  · rename_i z; rw [z]
  · rfl
theorem none_of {α : Type} {o : Option α} (h : o.isNone = true) : o = none := by cases o; rfl; cases h
theorem wp_gr {d : Nat} {K : Option Value → xH → Prop} {q e t : Nat} {E : Gd} {fr : Nat → Bool} {vs : Nat → Nat} (hE : okE E) (ht : t < 1000) : ∀ (j k : Nat) (h : xH) (G : Nat → Vs) (l3 : Option Value), k + j = gv E → BG h q e E fr vs (growN E t G k) → okG E (growN E t G k) → (∀ h', BG h' q e E fr vs (grow1 E t G) → FR (GP q (gv E) vs) 0 0 h h' → K none h') → wp (d + 3) 7 2 [some (.ref q), some (.int (Int32.ofNat t)), some (.int (Int32.ofNat k)), l3] [] h K
  | 0, k, h, G, l3, hk, H, hG, hK => by
    have hv3 := hE.2.1
    have z6 : Int32.ofNat (gv E) ≤ Int32.ofNat k := (n_le (by omega) (by omega)).mpr (by omega)
    have : k = gv E := by omega
    subst this
    rw [w7_2]
    simp only [w7_0, w7_1, w7_3, w7_3n, w7_4, w7_7, w7_10, w7_13, w7_13n, w7_14, w7_17, w7_18, w7_21, w7_21n, w7_24, w7_24n, w7_25, w7_25n, w7_26, w7_29, w7_32, w7_32n, w7_33, w7_33n, w7_34, w7_34n, w7_35, w7_35n, w7_36, w7_39, w7_40, w7_43, w7_46, w7_49, xk_n, xk_i, xk_r, xk_z, xk_l, xcs_0, xcs_i, xcs_r, xcs_z, xcs_l, Nat.reduceAdd, Nat.reduceLeDiff, Nat.reduceLT, true_and, and_true, Option.toList_some, Option.toList_none, List.nil_append, List.cons_append, List.getElem?_cons_zero, List.getElem?_cons_succ, List.set_cons_zero, List.set_cons_succ, List.length_cons, List.length_nil, y_bool0, y_bool1, not_true_eq_false, not_false_eq_true, false_implies, true_implies, true_or, or_true, false_or, or_false, if_true, if_false, ite_true, ite_false, y_get, H.bed, H.al.cls, wp_size H.al, z6]
    exact hK h H FR.rfl'
  | j + 1, k, h, G, l3, hk, H, hG, hK => by
    have hv3 := hE.2.1
    have hkv : k < gv E := by omega
    have hp := (hE.2.2 k hkv).2.1
    have hn := hE.1.2.2.1
    have z6 : (Int32.ofNat (gv E) ≤ Int32.ofNat k) = False := eq_false (by rw [n_le (by omega) (by omega)]; omega)
    have z8 : Int32.ofNat k + 1 = Int32.ofNat (k + 1) := n_addl k 1
    have hO := hG k hkv
    have hall := hG.all hE
    have hgo := growV_ok hE ht hG hkv
    have hat := H.at hkv
    have htip := hO.tip
    have key : ∀ h1, BG h1 q e E fr vs (growN E t G (k + 1)) → FR (GP q (gv E) vs) 0 0 h h1 → wp (d + 3) 7 2 [some (.ref q), some (.int (Int32.ofNat t)), some (.int (Int32.ofNat (k + 1))), some (.ref (vs k))] [] h1 K := fun h1 HB F1 => wp_gr hE ht j (k + 1) h1 G _ (by omega) HB hgo fun h' H' F' => hK h' H' (F1.tr F')
    rw [w7_2]
    simp only [w7_0, w7_1, w7_3, w7_3n, w7_4, w7_7, w7_10, w7_13, w7_13n, w7_14, w7_17, w7_18, w7_21, w7_21n, w7_24, w7_24n, w7_25, w7_25n, w7_26, w7_29, w7_32, w7_32n, w7_33, w7_33n, w7_34, w7_34n, w7_35, w7_35n, w7_36, w7_39, w7_40, w7_43, w7_46, w7_49, xk_n, xk_i, xk_r, xk_z, xk_l, xcs_0, xcs_i, xcs_r, xcs_z, xcs_l, Nat.reduceAdd, Nat.reduceLeDiff, Nat.reduceLT, true_and, and_true, Option.toList_some, Option.toList_none, List.nil_append, List.cons_append, List.getElem?_cons_zero, List.getElem?_cons_succ, List.set_cons_zero, List.set_cons_succ, List.length_cons, List.length_nil, y_bool0, y_bool1, not_true_eq_false, not_false_eq_true, false_implies, true_implies, true_or, or_true, false_or, or_false, if_true, if_false, ite_true, ite_false, y_get, H.bed, H.al.cls, wp_size H.al, z6, wp_get H.al hkv, H.vcls hkv, wp_isGrowing hat (H.at2 hkv) hO.2.2.2.2.2.2.1 hO.2.2.2.2.2.2.2]
    cases hg : ((vo (growN E t G k k)).isNone && (vx (growN E t G k k)).isNone)
    · have e1 : growN E t G (k + 1) = growN E t G k := by
        show growV E t (growN E t G k) k = _
        unfold growV
        rw [if_pos]
        revert hg
        cases vo (growN E t G k k) <;> cases vx (growN E t G k k) <;> simp
      simp only [w7_0, w7_1, w7_3, w7_3n, w7_4, w7_7, w7_10, w7_13, w7_13n, w7_14, w7_17, w7_18, w7_21, w7_21n, w7_24, w7_24n, w7_25, w7_25n, w7_26, w7_29, w7_32, w7_32n, w7_33, w7_33n, w7_34, w7_34n, w7_35, w7_35n, w7_36, w7_39, w7_40, w7_43, w7_46, w7_49, xk_n, xk_i, xk_r, xk_z, xk_l, xcs_0, xcs_i, xcs_r, xcs_z, xcs_l, Nat.reduceAdd, Nat.reduceLeDiff, Nat.reduceLT, true_and, and_true, Option.toList_some, Option.toList_none, List.nil_append, List.cons_append, List.getElem?_cons_zero, List.getElem?_cons_succ, List.set_cons_zero, List.set_cons_succ, List.length_cons, List.length_nil, y_bool0, y_bool1, not_true_eq_false, not_false_eq_true, false_implies, true_implies, true_or, or_true, false_or, or_false, if_true, if_false, ite_true, ite_false, bi_f, z8]
      refine key h ?_ FR.rfl'
      rw [e1]
      exact H
    · have g1 : vo (growN E t G k k) = none := none_of (by revert hg; cases (vo (growN E t G k k)).isNone <;> simp)
      have g2 : vx (growN E t G k k) = none := none_of (by revert hg; cases (vx (growN E t G k k)).isNone <;> simp)
      have e1 : growN E t G (k + 1) = upG (growN E t G k) k (stepK E (allL (growN E t G k) (gv E)) t (gk E k) (gp E k) (growN E t G k k)) := by
        show growV E t (growN E t G k) k = _
        unfold growV
        rw [if_neg]
        · rfl
        · rw [g1, g2]; simp
      have z10 : ((1 : Int32) = 0) = False := eq_false (by decide)
      simp only [w7_0, w7_1, w7_3, w7_3n, w7_4, w7_7, w7_10, w7_13, w7_13n, w7_14, w7_17, w7_18, w7_21, w7_21n, w7_24, w7_24n, w7_25, w7_25n, w7_26, w7_29, w7_32, w7_32n, w7_33, w7_33n, w7_34, w7_34n, w7_35, w7_35n, w7_36, w7_39, w7_40, w7_43, w7_46, w7_49, xk_n, xk_i, xk_r, xk_z, xk_l, xcs_0, xcs_i, xcs_r, xcs_z, xcs_l, Nat.reduceAdd, Nat.reduceLeDiff, Nat.reduceLT, true_and, and_true, Option.toList_some, Option.toList_none, List.nil_append, List.cons_append, List.getElem?_cons_zero, List.getElem?_cons_succ, List.set_cons_zero, List.set_cons_succ, List.length_cons, List.length_nil, y_bool0, y_bool1, not_true_eq_false, not_false_eq_true, false_implies, true_implies, true_or, or_true, false_or, or_false, if_true, if_false, ite_true, ite_false, bi_t, z10, z8, H.cls, wp_freeWay H.pl hE.1 H.bed hall hat (hE.2.2 k hkv).1 htip hO.2.2.2.2.2.1]
      have hS := H.step hkv (Y := vsX (stepK E (allL (growN E t G k) (gv E)) t (gk E k) (gp E k) (growN E t G k k))) rfl (Int64.ofNat (allL (growN E t G k) (gv E) ||| vl (stepK E (allL (growN E t G k) (gv E)) t (gk E k) (gp E k) (growN E t G k k))))
      refine wp_take H.pl hE.1 H.bed H.1 hall hat (H.at2 hkv) (hE.2.2 k hkv).1 (by omega) ht hO (allL_sub hkv) g1 g2 ?_
      simp only [w7_0, w7_1, w7_3, w7_3n, w7_4, w7_7, w7_10, w7_13, w7_13n, w7_14, w7_17, w7_18, w7_21, w7_21n, w7_24, w7_24n, w7_25, w7_25n, w7_26, w7_29, w7_32, w7_32n, w7_33, w7_33n, w7_34, w7_34n, w7_35, w7_35n, w7_36, w7_39, w7_40, w7_43, w7_46, w7_49, xk_n, xk_i, xk_r, xk_z, xk_l, xcs_0, xcs_i, xcs_r, xcs_z, xcs_l, Nat.reduceAdd, Nat.reduceLeDiff, Nat.reduceLT, true_and, and_true, Option.toList_some, Option.toList_none, List.nil_append, List.cons_append, List.getElem?_cons_zero, List.getElem?_cons_succ, List.set_cons_zero, List.set_cons_succ, List.length_cons, List.length_nil, y_bool0, y_bool1, not_true_eq_false, not_false_eq_true, false_implies, true_implies, true_or, or_true, false_or, or_false, if_true, if_false, ite_true, ite_false, z8]
      refine key _ ?_ hS.2
      have hSE := hS.1.ext (X' := fun v => vsX (growN E t G (k + 1) v)) (by
        intro v hv
        rw [e1]
        show vsX (upG _ k _ v) = if v = k then _ else _
        by_cases z : v = k
        · rw [if_pos z, z, upG_at]
        · rw [if_neg z, upG_ne _ _ z])
      have e2 : allL (growN E t G (k + 1)) (gv E) = allL (growN E t G k) (gv E) ||| vl (stepK E (allL (growN E t G k) (gv E)) t (gk E k) (gp E k) (growN E t G k k)) := by
        rw [e1]
        exact allL_up (fun c hc => stepV_sub hc) hkv
      show BD _ q e E fr vs (fun v => vsX (growN E t G (k + 1) v)) (Int64.ofNat (allL (growN E t G (k + 1)) (gv E)))
      rw [e2]
      exact hSE
theorem wp_grow {d : Nat} {h : xH} {K : Option Value → xH → Prop} {q e t : Nat} {E : Gd} {fr : Nat → Bool} {vs : Nat → Nat} {G : Nat → Vs} (hE : okE E) (ht : t < 1000) (H : BG h q e E fr vs G) (hG : okG E G) (hK : ∀ h', BG h' q e E fr vs (grow1 E t G) → FR (GP q (gv E) vs) 0 0 h h' → K none h') : wp (d + 3) 7 0 [some (.ref q), some (.int (Int32.ofNat t)), none, none] [] h K := by
  have z : (0 : Int32) = Int32.ofNat 0 := rfl
  simp only [w7_0, w7_1, w7_3, w7_3n, w7_4, w7_7, w7_10, w7_13, w7_13n, w7_14, w7_17, w7_18, w7_21, w7_21n, w7_24, w7_24n, w7_25, w7_25n, w7_26, w7_29, w7_32, w7_32n, w7_33, w7_33n, w7_34, w7_34n, w7_35, w7_35n, w7_36, w7_39, w7_40, w7_43, w7_46, w7_49, xk_n, xk_i, xk_r, xk_z, xk_l, xcs_0, xcs_i, xcs_r, xcs_z, xcs_l, Nat.reduceAdd, Nat.reduceLeDiff, Nat.reduceLT, true_and, and_true, Option.toList_some, Option.toList_none, List.nil_append, List.cons_append, List.getElem?_cons_zero, List.getElem?_cons_succ, List.set_cons_zero, List.set_cons_succ, List.length_cons, List.length_nil, y_bool0, y_bool1, not_true_eq_false, not_false_eq_true, false_implies, true_implies, true_or, or_true, false_or, or_false, if_true, if_false, ite_true, ite_false, z]
  exact wp_gr hE ht (gv E) 0 h G none (by omega) H hG hK
