/-! ===== the class: how a bed grows ===== -/
def BD (h : xH) (q e : Nat) (E : Gd) (fr : Nat → Bool) (vs : Nat → Nat) (X : Nat → List Value) (L : Int64) : Prop := 2 ≤ q ∧ h[q]? = some (.inr (1, [.ref (q + 1), .ref (q + 3), .ref (q + 5), .long L])) ∧ PL h (q + 1) (gw E) (gn E) (gs E) ∧ PF h (q + 3) fr ∧ AL h (q + 5) e (gv E) vs ∧ (∀ v, v < gv E → 2 ≤ vs v ∧ (X v).length = 7 ∧ h[vs v]? = some (vcell (gp E v) (gk E v) (gh E v) (X v))) ∧ ∀ u v, u < gv E → v < gv E → vs u = vs v → u = v
def GP (q n : Nat) (vs : Nat → Nat) (a : Nat) : Prop := a = q ∨ ∃ v, v < n ∧ a = vs v
def updX (X : Nat → List Value) (v : Nat) (Y : List Value) : Nat → List Value := fun u => if u = v then Y else X u
section
variable {h : xH} {q e : Nat} {E : Gd} {fr : Nat → Bool} {vs : Nat → Nat} {X : Nat → List Value} {L : Int64}
theorem BD.cls (H : BD h q e E fr vs X L) : y_cls h q 1 := by unfold y_cls; rw [H.2.1]; exact ⟨H.1, rfl⟩
theorem BD.bed (H : BD h q e E fr vs X L) : h[q]? = some (.inr (1, [.ref (q + 1), .ref (q + 3), .ref (q + 5), .long L])) := H.2.1
theorem BD.pl (H : BD h q e E fr vs X L) : PL h (q + 1) (gw E) (gn E) (gs E) := H.2.2.1
theorem BD.pf (H : BD h q e E fr vs X L) : PF h (q + 3) fr := H.2.2.2.1
theorem BD.al (H : BD h q e E fr vs X L) : AL h (q + 5) e (gv E) vs := H.2.2.2.2.1
theorem BD.at (H : BD h q e E fr vs X L) {v : Nat} (hv : v < gv E) : h[vs v]? = some (vcell (gp E v) (gk E v) (gh E v) (X v)) := (H.2.2.2.2.2.1 v hv).2.2
theorem BD.at2 (H : BD h q e E fr vs X L) {v : Nat} (hv : v < gv E) : 2 ≤ vs v := (H.2.2.2.2.2.1 v hv).1
theorem BD.len (H : BD h q e E fr vs X L) {v : Nat} (hv : v < gv E) : (X v).length = 7 := (H.2.2.2.2.2.1 v hv).2.1
theorem BD.vcls (H : BD h q e E fr vs X L) {v : Nat} (hv : v < gv E) : y_cls h (vs v) 6 := by unfold y_cls; rw [H.at hv]; exact ⟨H.at2 hv, rfl⟩
theorem PL.sg {h : xH} {a w n : Nat} {s : Nat → Nat} (H : PL h a w n s) : ∃ f, h[a + 1]? = some (.inl (0, 30, .inl f)) := ⟨_, H.2.2.2.choose_spec.1⟩
theorem BD.ne (H : BD h q e E fr vs X L) {v : Nat} (hv : v < gv E) : vs v ≠ q ∧ vs v ≠ q + 1 ∧ vs v ≠ q + 2 ∧ vs v ≠ q + 3 ∧ vs v ≠ q + 4 ∧ vs v ≠ q + 5 ∧ vs v ≠ e := by
  obtain ⟨f, h2⟩ := H.pl.sg
  obtain ⟨f1, f2, f3, f4, f5⟩ := H.pf
  obtain ⟨⟨mc, l1⟩, l2, l3, l4⟩ := H.al
  have hv' := H.at hv
  refine ⟨h_dif hv' H.bed (by intro z; cases z), h_dif hv' H.pl.1 (by intro z; cases z), h_dif hv' h2 (by intro z; cases z), h_dif hv' f1 (by intro z; cases z), h_dif hv' f4 (by intro z; cases z), h_dif hv' l1 (by intro z; cases z), ?_⟩
  rcases l4 with ⟨rfl, b2, b3⟩ | ⟨b1, g, b2, b3⟩
  · omega
  · exact h_dif hv' b2 (by intro z; cases z)
theorem BD.eq (H : BD h q e E fr vs X L) : e ≠ q ∧ e ≠ q + 1 ∧ e ≠ q + 2 ∧ e ≠ q + 3 ∧ e ≠ q + 4 ∧ e ≠ q + 5 := by
  obtain ⟨f, h2⟩ := H.pl.sg
  obtain ⟨f1, f2, f3, f4, f5⟩ := H.pf
  obtain ⟨⟨mc, l1⟩, l2, l3, l4⟩ := H.al
  have hq := H.1
  rcases l4 with ⟨rfl, b2, b3⟩ | ⟨b1, g, b2, b3⟩
  · omega
  · exact ⟨h_dif b2 H.bed (by intro z; cases z), h_dif b2 H.pl.1 (by intro z; cases z), h_dif b2 h2 (by intro z; cases z), h_dif b2 f1 (by intro z; cases z), h_dif b2 f4 (by intro z; cases z), h_dif b2 l1 (by intro z; cases z)⟩
/-- what grows changes, the rest stays -/
theorem BD.mk' (H : BD h q e E fr vs X L) {h' : xH} {X' : Nat → List Value} {L' : Int64} {k m : Nat} (F : FR (GP q (gv E) vs) k m h h') (hb : h'[q]? = some (.inr (1, [.ref (q + 1), .ref (q + 3), .ref (q + 5), .long L']))) (hv : ∀ v, v < gv E → (X' v).length = 7 ∧ h'[vs v]? = some (vcell (gp E v) (gk E v) (gh E v) (X' v))) : BD h' q e E fr vs X' L' := by
  have hne := fun v hv => H.ne (v := v) hv
  have heq := H.eq
  have hnG : ∀ a, a ≠ q → (∀ v, v < gv E → vs v ≠ a) → ¬ GP q (gv E) vs a := by
    rintro a h1 h2 (z | ⟨v, z1, z2⟩)
    · exact h1 z
    · exact h2 v z1 z2.symm
  refine ⟨H.1, hb, H.pl.fr F ?_ ?_, H.pf.fr F ?_ ?_, H.al.fr F ?_ ?_, fun v hv' => ⟨H.at2 hv', hv v hv'⟩, H.2.2.2.2.2.2⟩
  · exact hnG _ (by omega) fun v hv => (hne v hv).2.1
  · exact hnG _ (by omega) fun v hv => (hne v hv).2.2.1
  · exact hnG _ (by omega) fun v hv => (hne v hv).2.2.2.1
  · exact hnG _ (by omega) fun v hv => (hne v hv).2.2.2.2.1
  · exact hnG _ (by omega) fun v hv => (hne v hv).2.2.2.2.2.1
  · exact hnG _ heq.1 fun v hv => (hne v hv).2.2.2.2.2.2
/-- a vine and the bed's leaves are written -/
theorem BD.step (H : BD h q e E fr vs X L) {v : Nat} (hv : v < gv E) {Y : List Value} (hY : Y.length = 7) (L' : Int64) : BD ((h.set (vs v) (vcell (gp E v) (gk E v) (gh E v) Y)).set q (.inr (1, [.ref (q + 1), .ref (q + 3), .ref (q + 5), .long L']))) q e E fr vs (updX X v Y) L' ∧ FR (GP q (gv E) vs) 0 0 h ((h.set (vs v) (vcell (gp E v) (gk E v) (gh E v) Y)).set q (.inr (1, [.ref (q + 1), .ref (q + 3), .ref (q + 5), .long L']))) := by
  have hne := H.ne hv
  have F1 := FR.set (c := vcell (gp E v) (gk E v) (gh E v) Y) (H.at hv) (by show Y.length + 1 + 1 + 1 = (X v).length + 1 + 1 + 1; rw [hY, H.len hv])
  have b1 : (h.set (vs v) (vcell (gp E v) (gk E v) (gh E v) Y))[q]? = _ := h_set_ne H.bed hne.1
  have F2 := F1.trans (FR.set (c := .inr (1, [.ref (q + 1), .ref (q + 3), .ref (q + 5), .long L'])) b1 rfl) (R := GP q (gv E) vs) (fun _ _ z => Or.inr ⟨v, hv, z⟩) (fun _ _ z => Or.inl z) (Nat.le_refl _) (Nat.le_refl _)
  refine ⟨H.mk' F2 (h_set_at b1) fun u hu => ?_, F2⟩
  unfold updX
  by_cases z : u = v
  · subst z
    rw [if_pos rfl]
    exact ⟨hY, h_set_ne (h_set_at (H.at hu)) (Ne.symm hne.1)⟩
  · rw [if_neg z]
    refine ⟨H.len hu, h_set_ne (h_set_ne (H.at hu) ?_) (Ne.symm (H.ne hu).1)⟩
    intro hh
    exact z (H.2.2.2.2.2.2 _ _ hv hu hh).symm
theorem BD.ext (H : BD h q e E fr vs X L) {X' : Nat → List Value} (hX : ∀ v, v < gv E → X' v = X v) : BD h q e E fr vs X' L := by
  obtain ⟨a1, a2, a3, a4, a5, a6, a7⟩ := H
  exact ⟨a1, a2, a3, a4, a5, fun v hv => by rw [hX v hv]; exact a6 v hv, a7⟩
theorem GP.tr {q n k m : Nat} {vs : Nat → Nat} {h h1 h2 : xH} (a : FR (GP q n vs) 0 0 h h1) (b : FR (GP q n vs) 0 0 h1 h2) : FR (GP q n vs) 0 0 h h2 := FR.tr a b
/-- the bed in the midst of growth -/
def BG (h : xH) (q e : Nat) (E : Gd) (fr : Nat → Bool) (vs : Nat → Nat) (G : Nat → Vs) : Prop := BD h q e E fr vs (fun v => vsX (G v)) (Int64.ofNat (allL G (gv E)))
end
/-- the first k vines are planted anew -/
def rsX (E : Gd) (X : Nat → List Value) (k : Nat) : Nat → List Value := fun v => if v < k then vsX (init1 E v) else X v
theorem wp_rs {d : Nat} {K : Option Value → xH → Prop} {q e : Nat} {E : Gd} {fr : Nat → Bool} {vs : Nat → Nat} (hE : okE E) : ∀ (j k : Nat) (h : xH) (X : Nat → List Value) (l2 : Option Value), k + j = gv E → BD h q e E fr vs (rsX E X k) (Int64.ofNat (allL (init1 E) k)) → (∀ h', BG h' q e E fr vs (init1 E) → FR (GP q (gv E) vs) 0 0 h h' → K none h') → wp (d + 3) 6 7 [some (.ref q), some (.int (Int32.ofNat k)), l2] [] h K
  | 0, k, h, X, l2, hk, H, hK => by
    have hv3 := hE.2.1
    have z6 : Int32.ofNat (gv E) ≤ Int32.ofNat k := (n_le (by omega) (by omega)).mpr (by omega)
    have : k = gv E := by omega
    subst this
    rw [w6_7]
    simp only [w6_0, w6_0n, w6_1, w6_2, w6_5, w6_6, w6_8, w6_8n, w6_9, w6_12, w6_15, w6_18, w6_18n, w6_19, w6_22, w6_23, w6_26, w6_26n, w6_29, w6_29n, w6_30, w6_30n, w6_31, w6_34, w6_34n, w6_35, w6_35r, w6_36, w6_39, w6_39n, w6_40, w6_43, w6_44, w6_47, w6_50, w6_53, xk_n, xk_i, xk_r, xk_z, xk_l, xcs_0, xcs_i, xcs_r, xcs_z, xcs_l, Nat.reduceAdd, Nat.reduceLeDiff, Nat.reduceLT, true_and, and_true, Option.toList_some, Option.toList_none, List.nil_append, List.cons_append, List.getElem?_cons_zero, List.getElem?_cons_succ, List.set_cons_zero, List.set_cons_succ, List.length_cons, List.length_nil, y_bool0, y_bool1, not_true_eq_false, not_false_eq_true, false_implies, true_implies, true_or, or_true, false_or, or_false, if_true, if_false, ite_true, ite_false, y_get, H.bed, H.al.cls, wp_size H.al, z6]
    exact hK h (H.ext fun v hv => (if_pos hv).symm) FR.rfl'
  | j + 1, k, h, X, l2, hk, H, hK => by
    have hv3 := hE.2.1
    have hkv : k < gv E := by omega
    have hp := (hE.2.2 k hkv).2.1
    have hn := hE.1.2.2.1
    have z6 : (Int32.ofNat (gv E) ≤ Int32.ofNat k) = False := eq_false (by rw [n_le (by omega) (by omega)]; omega)
    have z8 : Int32.ofNat k + 1 = Int32.ofNat (k + 1) := n_addl k 1
    have hS := H.step hkv (Y := vsX (init1 E k)) rfl (Int64.ofNat (allL (init1 E) (k + 1)))
    have hat := H.at hkv
    have hne := H.ne hkv
    rw [w6_7]
    simp only [w6_0, w6_0n, w6_1, w6_2, w6_5, w6_6, w6_8, w6_8n, w6_9, w6_12, w6_15, w6_18, w6_18n, w6_19, w6_22, w6_23, w6_26, w6_26n, w6_29, w6_29n, w6_30, w6_30n, w6_31, w6_34, w6_34n, w6_35, w6_35r, w6_36, w6_39, w6_39n, w6_40, w6_43, w6_44, w6_47, w6_50, w6_53, xk_n, xk_i, xk_r, xk_z, xk_l, xcs_0, xcs_i, xcs_r, xcs_z, xcs_l, Nat.reduceAdd, Nat.reduceLeDiff, Nat.reduceLT, true_and, and_true, Option.toList_some, Option.toList_none, List.nil_append, List.cons_append, List.getElem?_cons_zero, List.getElem?_cons_succ, List.set_cons_zero, List.set_cons_succ, List.length_cons, List.length_nil, y_bool0, y_bool1, not_true_eq_false, not_false_eq_true, false_implies, true_implies, true_or, or_true, false_or, or_false, if_true, if_false, ite_true, ite_false, y_get, H.bed, H.al.cls, wp_size H.al, z6, wp_get H.al hkv, H.at hkv, H.vcls hkv, wp_vrestart (H.at hkv) (H.len hkv) (H.at2 hkv) (show gp E k < 30 by omega)]
    trace_state
    sorry
