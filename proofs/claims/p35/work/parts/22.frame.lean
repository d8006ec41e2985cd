/-! ===== what a run leaves of the heap ===== -/
def FR (P : Nat → Prop) (k m : Nat) (h h' : xH) : Prop := h.length ≤ h'.length ∧ h'.length ≤ h.length + k ∧ xsl h' ≤ xsl h + m ∧ ∀ a, a < h.length → ¬ P a → h'[a]? = h[a]?
theorem FR.rfl' {P : Nat → Prop} {k m : Nat} {h : xH} : FR P k m h h := ⟨Nat.le_refl _, Nat.le_add_right _ _, Nat.le_add_right _ _, fun _ _ _ => rfl⟩
theorem FR.trans {P Q R : Nat → Prop} {k m k' m' k2 m2 : Nat} {h h1 h2 : xH} (a : FR P k m h h1) (b : FR Q k' m' h1 h2) (hp : ∀ x, x < h.length → P x → R x) (hq : ∀ x, x < h.length → Q x → R x) (hk : k + k' ≤ k2) (hm : m + m' ≤ m2) : FR R k2 m2 h h2 := by
  obtain ⟨a1, a2, a3, a4⟩ := a
  obtain ⟨b1, b2, b3, b4⟩ := b
  refine ⟨by omega, by omega, by omega, fun x hx hr => ?_⟩
  rw [b4 x (by omega) (fun q => hr (hq x hx q)), a4 x hx (fun q => hr (hp x hx q))]
theorem FR.mono {P R : Nat → Prop} {k m k2 m2 : Nat} {h h1 : xH} (a : FR P k m h h1) (hp : ∀ x, x < h.length → P x → R x) (hk : k ≤ k2) (hm : m ≤ m2) : FR R k2 m2 h h1 := ⟨a.1, Nat.le_trans a.2.1 (by omega), Nat.le_trans a.2.2.1 (by omega), fun x hx hr => a.2.2.2 x hx (fun q => hr (hp x hx q))⟩
theorem FR.tr {P : Nat → Prop} {h h1 h2 : xH} (a : FR P 0 0 h h1) (b : FR P 0 0 h1 h2) : FR P 0 0 h h2 := a.trans b (fun _ _ q => q) (fun _ _ q => q) (Nat.le_refl _) (Nat.le_refl _)
theorem FR.at {P : Nat → Prop} {k m a : Nat} {h h1 : xH} (f : FR P k m h h1) {c : xC} (ha : h[a]? = some c) (hp : ¬ P a) : h1[a]? = some c := by
  rw [f.2.2.2 a ((List.getElem?_eq_some_iff.mp ha).1) hp, ha]
theorem xsl_ap (h g : xH) : xsl (h ++ g) = xsl h + xsl g := by unfold xsl; rw [List.map_append, List.sum_append]
theorem xsl_st : ∀ {h : xH} {a : Nat} {c0 c : xC}, h[a]? = some c0 → xsz c = xsz c0 → xsl (h.set a c) = xsl h
  | [], _, _, _, ha, _ => by simp at ha
  | b :: h, 0, c0, c, ha, hs => by
    have : b = c0 := by simpa using ha
    subst this
    simp [xsl, hs]
  | b :: h, a + 1, c0, c, ha, hs => by
    have := xsl_st (h := h) (a := a) (by simpa using ha) hs
    simp only [xsl, List.set_cons_succ, List.map_cons, List.sum_cons] at this ⊢
    omega
theorem FR.set {h : xH} {a : Nat} {c0 c : xC} (ha : h[a]? = some c0) (hs : xsz c = xsz c0) : FR (fun x => x = a) 0 0 h (h.set a c) := by
  refine ⟨by rw [List.length_set]; omega, by rw [List.length_set]; omega, by rw [xsl_st ha hs]; omega, fun x _ hx => ?_⟩
  rw [List.getElem?_set_ne (Ne.symm hx)]
theorem FR.app {h : xH} (c : xC) : FR (fun _ => False) 1 (xsz c) h (h ++ [c]) := by
  refine ⟨by simp, by simp, by rw [xsl_ap]; simp [xsl], fun x hx _ => ?_⟩
  rw [List.getElem?_append_left hx]
theorem h_set_at {h : xH} {a : Nat} {c0 c : xC} (ha : h[a]? = some c0) : (h.set a c)[a]? = some c := by
  rw [List.getElem?_set_self ((List.getElem?_eq_some_iff.mp ha).1)]
theorem h_set_ne {h : xH} {a b : Nat} {c0 c : xC} (hb : h[b]? = some c0) (hab : a ≠ b) : (h.set a c)[b]? = some c0 := by
  rw [List.getElem?_set_ne hab, hb]
theorem h_app_at {h : xH} {a : Nat} {c0 : xC} {g : xH} (ha : h[a]? = some c0) : (h ++ g)[a]? = some c0 := by
  rw [List.getElem?_append_left ((List.getElem?_eq_some_iff.mp ha).1), ha]
theorem h_app_new {h : xH} {c : xC} : (h ++ [c])[h.length]? = some c := by simp
theorem h_lt {h : xH} {a : Nat} {c0 : xC} (ha : h[a]? = some c0) : a < h.length := (List.getElem?_eq_some_iff.mp ha).1
theorem h_dif {h : xH} {a b : Nat} {c0 c1 : xC} (ha : h[a]? = some c0) (hb : h[b]? = some c1) (hc : c0 ≠ c1) : a ≠ b := by
  rintro rfl
  rw [ha] at hb
  exact hc (Option.some.inj hb)
