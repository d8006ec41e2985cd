/-! ===== the law's walk, as numbers: the way it keeps, the direction it takes ===== -/
/-- p: the cells from the root (0) to the tip (dep) -/
def PTH (E : Gd) (v : Nat) (x : Vs) (dep : Nat) (p : Nat → Nat) : Prop := p 0 = gp E v ∧ p dep = vt x ∧ (∀ k, k < dep → bes (gw E) (gn E) (p (k + 1)) ((vc x / 4 ^ p (k + 1) + 2) % 4) = some (p k)) ∧ (∀ k, k ≤ dep → (vl x).testBit (p k) = true) ∧ ∀ i j, i ≤ dep → j ≤ dep → p i = p j → i = j
theorem PTH.lt {E : Gd} {v dep : Nat} {x : Vs} {p : Nat → Nat} (H : PTH E v x dep p) (hV : okV (gw E) (gn E) (gp E v) x) : dep < gn E := by
  have := pigeon (gn E) (dep + 1) p (fun i hi => (hV.1 _ (H.2.2.2.1 i (by omega))).1) (fun i j hi hj => H.2.2.2.2 i j (by omega) (by omega))
  omega
theorem PTH.init {E : Gd} {v : Nat} : PTH E v (init1 E v) 0 (fun _ => gp E v) := by
  refine ⟨rfl, rfl, fun k hk => by omega, fun k _ => ?_, fun i j hi hj _ => by omega⟩
  show (2 ^ gp E v).testBit (gp E v) = true
  rw [Nat.testBit_two_pow]; simp
theorem PTH.root {E : Gd} {v dep : Nat} {x : Vs} {p : Nat → Nat} (H : PTH E v x dep p) : dep = 0 ↔ vt x = gp E v := by
  constructor
  · rintro rfl
    rw [← H.2.1, H.1]
  · intro z
    exact H.2.2.2.2 dep 0 (Nat.le_refl _) (by omega) (by rw [H.2.1, H.1, z])
theorem PTH.go {E : Gd} {v dep d c : Nat} {x : Vs} {p : Nat → Nat} {o : Option Nat} (hw : okW (gw E) (gn E)) (H : PTH E v x dep p) (hV : okV (gw E) (gn E) (gp E v) x) (hd : d < 4) (hb : bes (gw E) (gn E) (vt x) d = some c) (hc : (vl x).testBit c = false) : PTH E v (c, d, vd x, vl x ||| 2 ^ c, vc x ||| d * 4 ^ c, o, none) (dep + 1) (upN p (dep + 1) c) := by
  have hbk := bes_back hw hV.tip hd hb
  obtain ⟨h1, h2, h3, h4, h5⟩ := H
  have hne : ∀ k, k ≤ dep → p k ≠ c := by
    intro k hk z
    have := h4 k hk
    rw [z, hc] at this
    cases this
  have hdg : ∀ i, (vc x ||| d * 4 ^ c) / 4 ^ i % 4 = if i = c then d else vc x / 4 ^ i % 4 := by
    intro i
    rw [dig_or]
    by_cases q : i = c
    · subst q
      rw [if_pos rfl, dig_at _ hd, hV.2.2.2.1 _ hc]
      simp
    · rw [if_neg q, dig_ne hd q, Nat.or_zero]
  have hm : ∀ z, (z + 2) % 4 = (z % 4 + 2) % 4 := fun z => by omega
  refine ⟨?_, upN_at _ _ _, fun k hk => ?_, fun k hk => ?_, fun i j hi hj hij => ?_⟩
  · rw [upN_ne _ (by omega)]; exact h1
  · rw [upN_ne p (c := dep + 1) (i := k) (by omega)]
    show bes (gw E) (gn E) (upN p (dep + 1) c (k + 1)) (((vc x ||| d * 4 ^ c) / 4 ^ upN p (dep + 1) c (k + 1) + 2) % 4) = some (p k)
    rw [hm, hdg]
    by_cases q : k = dep
    · subst q
      rw [upN_at, if_pos rfl, h2]
      exact hbk
    · rw [upN_ne _ (by omega), if_neg (hne _ (by omega)), ← hm]
      exact h3 k (by omega)
  · show (vl x ||| 2 ^ c).testBit (upN p (dep + 1) c k) = true
    rw [Nat.testBit_or, Nat.testBit_two_pow]
    by_cases q : k = dep + 1
    · rw [q, upN_at]; simp
    · rw [upN_ne _ q, h4 k (by omega)]; rfl
  · by_cases q : i = dep + 1
    · by_cases q2 : j = dep + 1
      · omega
      · rw [q, upN_at, upN_ne _ q2] at hij
        exact absurd hij.symm (hne j (by omega))
    · by_cases q2 : j = dep + 1
      · rw [q2, upN_at, upN_ne _ q] at hij
        exact absurd hij (hne i (by omega))
      · rw [upN_ne _ q, upN_ne _ q2] at hij
        exact h5 i j (by omega) (by omega) hij
theorem PTH.up {E : Gd} {v dep : Nat} {x : Vs} {p : Nat → Nat} (H : PTH E v x (dep + 1) p) : bes (gw E) (gn E) (vt x) ((vc x / 4 ^ vt x + 2) % 4) = some (p dep) := by
  have := H.2.2.1 dep (by omega)
  rw [H.2.1] at this
  exact this
theorem PTH.back {E : Gd} {v dep d n : Nat} {x : Vs} {p : Nat → Nat} (H : PTH E v x (dep + 1) p) : PTH E v (p dep, d, n, vl x, vc x, none, none) dep p := by
  obtain ⟨h1, h2, h3, h4, h5⟩ := H
  exact ⟨h1, rfl, fun k hk => h3 k (by omega), fun k hk => h4 k (by omega), fun i j hi hj => h5 i j (by omega) (by omega)⟩
/-- a way is the same where what it is made of is -/
theorem PTH.same {E : Gd} {v dep : Nat} {x y : Vs} {p : Nat → Nat} (H : PTH E v x dep p) (h1 : vt y = vt x) (h2 : vc y = vc x) (h3 : vl y = vl x) : PTH E v y dep p := by
  unfold PTH
  rw [h1, h2, h3]
  exact H
/-! the direction -/
def wth (kd : Nat) (pr : Bool) (k : Nat) : Nat := if kd ≠ 0 ∧ pr = true then 9 - k else 3 - k
def bst (fr pr : Nat → Bool) (kd : Nat) (ds : Nat → Nat) : Nat → Option (Nat × Nat)
  | 0 => none
  | k + 1 => if fr (ds k) = true then (match bst fr pr kd ds k with
    | none => some (wth kd (pr (ds k)) k, ds k)
    | some b => if wth kd (pr (ds k)) k ≤ b.1 then some b else some (wth kd (pr (ds k)) k, ds k)) else bst fr pr kd ds k
theorem bst_s (fr pr : Nat → Bool) (kd : Nat) (ds : Nat → Nat) (k : Nat) : bst fr pr kd ds (k + 1) = if fr (ds k) = true then (match bst fr pr kd ds k with
    | none => some (wth kd (pr (ds k)) k, ds k)
    | some b => if wth kd (pr (ds k)) k ≤ b.1 then some b else some (wth kd (pr (ds k)) k, ds k)) else bst fr pr kd ds k := rfl
def dsF (kd h k : Nat) : Nat := (h + (if kd = 2 then 5 - k else 3 + k)) % 4
theorem dsF_lt (kd h k : Nat) : dsF kd h k < 4 := Nat.mod_lt _ (by omega)
theorem wth_le (kd : Nat) (pr : Bool) (k : Nat) : wth kd pr k ≤ 9 := by unfold wth; split <;> omega
theorem bst_lt {fr pr : Nat → Bool} {kd : Nat} {ds : Nat → Nat} (hd : ∀ k, ds k < 4) : ∀ k b, bst fr pr kd ds k = some b → b.1 ≤ 9 ∧ b.2 < 4
  | 0, b, h => by cases h
  | k + 1, b, h => by
    rw [bst_s] at h
    split at h
    · split at h
      · cases h; exact ⟨wth_le _ _ _, hd k⟩
      · rename_i b' q
        split at h
        · cases h; exact bst_lt hd k _ q
        · cases h; exact ⟨wth_le _ _ _, hd k⟩
    · exact bst_lt hd k b h
theorem bst3 (fr pr : Nat → Bool) (kd : Nat) (ds : Nat → Nat) : (bst fr pr kd ds 3).map (·.2) = if kd = 0 then [ds 0, ds 1, ds 2].find? fr else match [ds 0, ds 1, ds 2].find? (fun d => fr d && pr d) with
    | some d => some d
    | none => [ds 0, ds 1, ds 2].find? fr := by
  generalize ha : ds 0 = a
  generalize hb : ds 1 = b
  generalize hc : ds 2 = c
  simp only [bst, ha, hb, hc, List.find?]
  generalize fr a = f0
  generalize fr b = f1
  generalize fr c = f2
  generalize pr a = p0
  generalize pr b = p1
  generalize pr c = p2
  by_cases q : kd = 0 <;> cases f0 <;> cases f1 <;> cases f2 <;> cases p0 <;> cases p1 <;> cases p2 <;> simp [wth, q]
theorem ord3_ds {kd h : Nat} (hh : h < 4) : ord3 kd h = [dsF kd h 0, dsF kd h 1, dsF kd h 2] := by
  unfold ord3 dsF
  by_cases q : kd = 2
  · simp only [q, if_true]
    rw [show (h + (5 - 0)) % 4 = (h + 1) % 4 by omega, show (h + (5 - 1)) % 4 = h by omega, show (h + (5 - 2)) % 4 = (h + 3) % 4 by omega]
  · simp only [q, if_false]
    rw [show (h + (3 + 0)) % 4 = (h + 3) % 4 by omega, show (h + (3 + 1)) % 4 = h by omega, show (h + (3 + 2)) % 4 = (h + 1) % 4 by omega]
theorem bst_way (E : Gd) (L t : Nat) {kd h : Nat} (hh : h < 4) : (bst (isFr E L t) (isPr E t) kd (dsF kd h) 3).map (·.2) = wayOf E L kd t h := by
  rw [bst3, ← ord3_ds hh]
  rfl
def bI (o : Option (Nat × Nat)) : Int32 := match o with
  | none => -1
  | some b => Int32.ofNat b.1
def gI (o : Option (Nat × Nat)) : Int32 := match o with
  | none => 0
  | some b => Int32.ofNat b.2
theorem bes_cas {w n c d x : Nat} (hd : d < 4) (h : bes w n c d = some x) : (d = 0 ∧ x + w = c) ∨ (d = 1 ∧ x = c + 1) ∨ (d = 2 ∧ x = c + w) ∨ (d = 3 ∧ x + 1 = c) := by
  rcases (show d = 0 ∨ d = 1 ∨ d = 2 ∨ d = 3 by omega) with rfl | rfl | rfl | rfl
  · replace h : (if w ≤ c then some (c - w) else none) = some x := h
    by_cases q : w ≤ c
    · rw [if_pos q] at h; cases h; exact Or.inl ⟨rfl, by omega⟩
    · rw [if_neg q] at h; cases h
  · replace h : (if c % w + 1 < w then some (c + 1) else none) = some x := h
    by_cases q : c % w + 1 < w
    · rw [if_pos q] at h; cases h; exact Or.inr (Or.inl ⟨rfl, rfl⟩)
    · rw [if_neg q] at h; cases h
  · replace h : (if c + w < n then some (c + w) else none) = some x := h
    by_cases q : c + w < n
    · rw [if_pos q] at h; cases h; exact Or.inr (Or.inr (Or.inl ⟨rfl, rfl⟩))
    · rw [if_neg q] at h; cases h
  · replace h : (if 0 < c % w then some (c - 1) else none) = some x := h
    by_cases q : 0 < c % w
    · rw [if_pos q] at h; cases h; exact Or.inr (Or.inr (Or.inr ⟨rfl, by have := Nat.mod_le c w; omega⟩))
    · rw [if_neg q] at h; cases h
/-- in a garden at least two wide each way leads elsewhere -/
theorem bes_inj {w n c d d' x : Nat} (hw : okW w n) (hd : d < 4) (hd' : d' < 4) (h1 : bes w n c d = some x) (h2 : bes w n c d' = some x) : d = d' := by
  have hw2 := hw.1
  have a := bes_cas hd h1
  have b := bes_cas hd' h2
  omega
