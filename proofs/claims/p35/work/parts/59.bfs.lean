/-! ===== the shortest way, by widening rings and by a queue ===== -/
theorem spI_t {E : Gd} {c N d y : Nat} : (spI E c N d).testBit y = true ↔ N.testBit y = true ∨ (bes (gw E) (gn E) c d = some y ∧ gs E y ≠ 1) := by
  unfold spI
  cases q : bes (gw E) (gn E) c d with
  | none => exact ⟨Or.inl, fun z => z.elim id (fun z => by cases z.1)⟩
  | some x =>
    dsimp only
    by_cases g : gs E x = 1
    · rw [if_pos g]
      exact ⟨Or.inl, fun z => z.elim id (fun z => by cases z.1; exact absurd g z.2)⟩
    · rw [if_neg g, Nat.testBit_or, Bool.or_eq_true, Nat.testBit_two_pow, decide_eq_true_eq]
      exact ⟨fun z => z.elim Or.inl (fun z => Or.inr ⟨by rw [z], by rw [← z]; exact g⟩), fun z => z.elim Or.inl (fun z => Or.inr (by cases z.1; rfl))⟩
theorem spD_t {E : Gd} {c y : Nat} : ∀ {j d N : Nat}, (spD E c j d N).testBit y = true ↔ N.testBit y = true ∨ ∃ d', d ≤ d' ∧ d' < d + j ∧ bes (gw E) (gn E) c d' = some y ∧ gs E y ≠ 1
  | 0, d, N => ⟨Or.inl, fun z => z.elim id (fun ⟨d', h1, h2, _⟩ => by omega)⟩
  | j + 1, d, N => by
    show (spD E c j (d + 1) (spI E c N d)).testBit y = true ↔ _
    rw [spD_t, spI_t]
    constructor
    · rintro ((h | ⟨h1, h2⟩) | ⟨d', h1, h2, h3⟩)
      · exact Or.inl h
      · exact Or.inr ⟨d, by omega, by omega, h1, h2⟩
      · exact Or.inr ⟨d', by omega, by omega, h3⟩
    · rintro (h | ⟨d', h1, h2, h3⟩)
      · exact Or.inl (Or.inl h)
      · by_cases z : d' = d
        · subst z; exact Or.inl (Or.inr h3)
        · exact Or.inr ⟨d', by omega, by omega, h3⟩
theorem spO_t {E : Gd} {R y : Nat} : ∀ {j c N : Nat}, (spO E R j c N).testBit y = true ↔ N.testBit y = true ∨ ∃ c', c ≤ c' ∧ c' < c + j ∧ R.testBit c' = true ∧ ∃ d, d < 4 ∧ bes (gw E) (gn E) c' d = some y ∧ gs E y ≠ 1
  | 0, c, N => ⟨Or.inl, fun z => z.elim id (fun ⟨d', h1, h2, _⟩ => by omega)⟩
  | j + 1, c, N => by
    show (spO E R j (c + 1) (spC E R c N)).testBit y = true ↔ _
    have hc : (spC E R c N).testBit y = true ↔ N.testBit y = true ∨ (R.testBit c = true ∧ ∃ d, d < 4 ∧ bes (gw E) (gn E) c d = some y ∧ gs E y ≠ 1) := by
      unfold spC
      by_cases q : R.testBit c = true
      · rw [if_pos q, spD_t]
        exact ⟨fun z => z.elim Or.inl (fun ⟨d', h1, h2, h3⟩ => Or.inr ⟨q, d', by omega, h3⟩), fun z => z.elim Or.inl (fun ⟨_, d', h1, h3⟩ => Or.inr ⟨d', by omega, by omega, h3⟩)⟩
      · rw [if_neg q]
        exact ⟨Or.inl, fun z => z.elim id (fun z => absurd z.1 q)⟩
    rw [spO_t, hc]
    constructor
    · rintro ((h | ⟨h1, h2⟩) | ⟨c', h1, h2, h3⟩)
      · exact Or.inl h
      · exact Or.inr ⟨c, by omega, by omega, h1, h2⟩
      · exact Or.inr ⟨c', by omega, by omega, h3⟩
    · rintro (h | ⟨c', h1, h2, h3⟩)
      · exact Or.inl (Or.inl h)
      · by_cases z : c' = c
        · subst z; exact Or.inl (Or.inr h3)
        · exact Or.inr ⟨c', by omega, by omega, h3⟩
theorem rg_s {E : Gd} {s k y : Nat} : (rg E s (k + 1)).testBit y = true ↔ (rg E s k).testBit y = true ∨ ∃ c', c' < gn E ∧ (rg E s k).testBit c' = true ∧ ∃ d, d < 4 ∧ bes (gw E) (gn E) c' d = some y ∧ gs E y ≠ 1 := by
  show (spO E (rg E s k) (gn E) 0 (rg E s k)).testBit y = true ↔ _
  rw [spO_t]
  exact ⟨fun z => z.elim Or.inl (fun ⟨c', h1, h2, h3⟩ => Or.inr ⟨c', by omega, h3⟩), fun z => z.elim Or.inl (fun ⟨c', h2, h3⟩ => Or.inr ⟨c', by omega, by omega, h3⟩)⟩
theorem hit_t {E : Gd} {s R : Nat} : ∀ {j c : Nat}, hit E s R j c = true ↔ ∃ c', c ≤ c' ∧ c' < c + j ∧ c' ≠ s ∧ R.testBit c' = true ∧ gs E c' = 3
  | 0, c => ⟨fun z => (by cases z), fun ⟨c', h1, h2, _⟩ => by omega⟩
  | j + 1, c => by
    show ((c != s && R.testBit c && gs E c == 3) || hit E s R j (c + 1)) = true ↔ _
    rw [Bool.or_eq_true, hit_t, Bool.and_eq_true, Bool.and_eq_true, bne_iff_ne, beq_iff_eq]
    constructor
    · rintro (⟨⟨h1, h2⟩, h3⟩ | ⟨c', h1, h2, h3⟩)
      · exact ⟨c, by omega, by omega, h1, h2, h3⟩
      · exact ⟨c', by omega, by omega, h3⟩
    · rintro ⟨c', h1, h2, h3, h4, h5⟩
      by_cases z : c' = c
      · subst z; exact Or.inl ⟨⟨h3, h4⟩, h5⟩
      · exact Or.inr ⟨c', by omega, by omega, h3, h4, h5⟩
theorem stO_none {E : Gd} {s : Nat} : ∀ j k, (∀ y, hit E s (rg E s y) (gn E) 0 = false) → stO E s j k = none
  | 0, _, _ => rfl
  | j + 1, k, h => by
    show (if hit E s (rg E s k) (gn E) 0 then some k else stO E s j (k + 1)) = none
    rw [h k, if_neg (by simp)]
    exact stO_none j (k + 1) h
theorem stO_some {E : Gd} {s x : Nat} : ∀ j k, k ≤ x → x < k + j → (∀ y, k ≤ y → y < x → hit E s (rg E s y) (gn E) 0 = false) → hit E s (rg E s x) (gn E) 0 = true → stO E s j k = some x
  | 0, k, h1, h2, _, _ => by omega
  | j + 1, k, h1, h2, h3, h4 => by
    show (if hit E s (rg E s k) (gn E) 0 then some k else stO E s j (k + 1)) = some x
    by_cases z : k = x
    · subst z; rw [if_pos h4]
    · rw [h3 k (Nat.le_refl _) (by omega), if_neg (by simp)]
      exact stO_some j (k + 1) (by omega) (by omega) (fun y y1 y2 => h3 y (by omega) y2) h4
theorem pigeon : ∀ (n M : Nat) (f : Nat → Nat), (∀ i, i < M → f i < n) → (∀ i j, i < M → j < M → f i = f j → i = j) → M ≤ n
  | 0, M, f, h1, h2 => by
    rcases Nat.eq_zero_or_pos M with z | z
    · omega
    · have := h1 0 z; omega
  | n + 1, M, f, h1, h2 => by
    by_cases q : ∃ i, i < M ∧ f i = n
    · obtain ⟨i0, hi, hf⟩ := q
      have := pigeon n (M - 1) (fun i => if i = i0 then f (M - 1) else f i) (fun i hi' => by
        show (if i = i0 then f (M - 1) else f i) < n
        by_cases z : i = i0
        · rw [if_pos z]
          have h3 := h1 (M - 1) (by omega)
          by_cases z2 : f (M - 1) = n
          · have := h2 (M - 1) i0 (by omega) hi (by rw [z2, hf]); omega
          · omega
        · rw [if_neg z]
          have h3 := h1 i (by omega)
          by_cases z2 : f i = n
          · have := h2 i i0 (by omega) hi (by rw [z2, hf]); omega
          · omega) (fun i j hi' hj' hij => by
        replace hij : (if i = i0 then f (M - 1) else f i) = (if j = i0 then f (M - 1) else f j) := hij
        by_cases z : i = i0
        · by_cases z2 : j = i0
          · omega
          · rw [if_pos z, if_neg z2] at hij
            have := h2 (M - 1) j (by omega) (by omega) hij; omega
        · by_cases z2 : j = i0
          · rw [if_neg z, if_pos z2] at hij
            have := h2 i (M - 1) (by omega) (by omega) hij; omega
          · rw [if_neg z, if_neg z2] at hij
            exact h2 i j (by omega) (by omega) hij)
      omega
    · have := pigeon n M f (fun i hi => by
        have h3 := h1 i hi
        by_cases z : f i = n
        · exact absurd ⟨i, hi, z⟩ q
        · omega) h2
      omega
/-- the queue: M cells in it, the first k looked at -/
def BF (E : Gd) (s : Nat) (st : Nat → Option Nat) (q : Nat → Nat) (M k : Nat) : Prop := (s < gn E ∧ st s = some 0 ∧ q 0 = s ∧ 1 ≤ M ∧ k ≤ M) ∧ (∀ j, j < M → q j < gn E ∧ ∃ x, st (q j) = some x ∧ x ≤ j) ∧ (∀ i j, i < M → j < M → q i = q j → i = j) ∧ (∀ c x, st c = some x → c < gn E ∧ (∃ j, j < M ∧ q j = c) ∧ (rg E s x).testBit c = true ∧ (c ≠ s → gs E c ≠ 3)) ∧ (∀ i j x y, i ≤ j → j < M → st (q i) = some x → st (q j) = some y → x ≤ y) ∧ (∀ j x y, j < M → k < M → st (q k) = some x → st (q j) = some y → y ≤ x + 1) ∧ ∀ j, j < k → ∀ d, d < 4 → ∀ c x, bes (gw E) (gn E) (q j) d = some c → gs E c ≠ 1 → st (q j) = some x → ∃ y, st c = some y ∧ y ≤ x + 1
/-- the cell looked at: d of its directions are done -/
def BD4 (E : Gd) (st : Nat → Option Nat) (q : Nat → Nat) (k d : Nat) : Prop := ∀ d', d' < d → ∀ c x, bes (gw E) (gn E) (q k) d' = some c → gs E c ≠ 1 → st (q k) = some x → ∃ y, st c = some y ∧ y ≤ x + 1
theorem BF.M {E : Gd} {s M k : Nat} {st : Nat → Option Nat} {q : Nat → Nat} (B : BF E s st q M k) : M ≤ gn E := pigeon _ _ q (fun i hi => (B.2.1 i hi).1) B.2.2.1
/-- all within a ring that is looked at already are found -/
theorem BF.ring {E : Gd} {s M k : Nat} {st : Nat → Option Nat} {q : Nat → Nat} (B : BF E s st q M k) : ∀ y, (∀ x, k < M → st (q k) = some x → y ≤ x) → ∀ c, (rg E s y).testBit c = true → ∃ x, st c = some x ∧ x ≤ y
  | 0, _, c, hc => by
    replace hc : (2 ^ s).testBit c = true := hc
    rw [Nat.testBit_two_pow, decide_eq_true_eq] at hc
    rw [← hc]
    exact ⟨0, B.1.2.1, Nat.le_refl _⟩
  | y + 1, hy, c, hc => by
    rcases rg_s.mp hc with h | ⟨c', hn, h1, d, hd, h2, h3⟩
    · obtain ⟨x, x1, x2⟩ := BF.ring B y (fun x a b => by have := hy x a b; omega) c h
      exact ⟨x, x1, by omega⟩
    · obtain ⟨x, x1, x2⟩ := BF.ring B y (fun x a b => by have := hy x a b; omega) c' h1
      obtain ⟨_, ⟨j, j1, j2⟩, _⟩ := B.2.2.2.1 c' x x1
      have hjk : j < k := by
        by_cases z : j < k
        · exact z
        · have hkM : k < M := by omega
          obtain ⟨_, xk, xk1, _⟩ := B.2.1 k hkM
          have := B.2.2.2.2.1 k j xk x (by omega) j1 xk1 (by rw [j2]; exact x1)
          have := hy xk hkM xk1
          omega
      obtain ⟨z, z1, z2⟩ := B.2.2.2.2.2.2 j hjk d hd c x (by rw [j2]; exact h2) h3 (by rw [j2]; exact x1)
      exact ⟨z, z1, by omega⟩
theorem BF.nohit {E : Gd} {s M k y : Nat} {st : Nat → Option Nat} {q : Nat → Nat} (B : BF E s st q M k) (hy : ∀ x, k < M → st (q k) = some x → y ≤ x) : hit E s (rg E s y) (gn E) 0 = false := by
  cases z : hit E s (rg E s y) (gn E) 0
  · rfl
  · obtain ⟨c, c1, c2, c3, c4, c5⟩ := hit_t.mp z
    obtain ⟨x, x1, x2⟩ := B.ring y hy c c4
    exact absurd c5 ((B.2.2.2.1 c x x1).2.2.2 c3)
/-- none is left: there is no way out -/
theorem BF.done {E : Gd} {s M : Nat} {st : Nat → Option Nat} {q : Nat → Nat} (B : BF E s st q M M) (j k : Nat) : stO E s j k = none := stO_none j k fun y => B.nohit fun x h _ => by omega
def upO (f : Nat → Option Nat) (c : Nat) (x : Option Nat) : Nat → Option Nat := fun i => if i = c then x else f i
theorem upO_at (f : Nat → Option Nat) (c : Nat) (x : Option Nat) : upO f c x c = x := if_pos rfl
theorem upO_ne (f : Nat → Option Nat) {c i : Nat} (x : Option Nat) (h : i ≠ c) : upO f c x i = f i := if_neg h
theorem BF.fnd {E : Gd} {s M k d c xk : Nat} {st : Nat → Option Nat} {q : Nat → Nat} (B : BF E s st q M k) (hk : k < M) (hd : d < 4) (hx : st (q k) = some xk) (hb : bes (gw E) (gn E) (q k) d = some c) (hg : gs E c ≠ 1) (hc : st c = none) (hcn : c < gn E) : (rg E s (xk + 1)).testBit c = true ∧ c ≠ s ∧ M + 1 ≤ gn E ∧ xk + 1 ≤ M := by
  have h4 := B.2.2.2.1 (q k) xk hx
  obtain ⟨_, x', x1, x2⟩ := B.2.1 k hk
  rw [hx] at x1
  cases x1
  refine ⟨rg_s.mpr (Or.inr ⟨q k, h4.1, h4.2.2.1, d, hd, hb, hg⟩), ?_, ?_, by omega⟩
  · intro z
    rw [z, B.1.2.1] at hc
    cases hc
  · refine pigeon (gn E) (M + 1) (fun i => if i = M then c else q i) (fun i hi => ?_) (fun i j hi hj hij => ?_)
    · show (if i = M then c else q i) < gn E
      by_cases z : i = M
      · rw [if_pos z]; exact hcn
      · rw [if_neg z]; exact (B.2.1 i (by omega)).1
    · replace hij : (if i = M then c else q i) = (if j = M then c else q j) := hij
      have nc : ∀ i, i < M → q i ≠ c := by
        intro i hi z
        obtain ⟨_, x, x1, _⟩ := B.2.1 i hi
        rw [z, hc] at x1
        cases x1
      by_cases z : i = M
      · by_cases z2 : j = M
        · omega
        · rw [if_pos z, if_neg z2] at hij
          exact absurd hij.symm (nc j (by omega))
      · by_cases z2 : j = M
        · rw [if_neg z, if_pos z2] at hij
          exact absurd hij (nc i (by omega))
        · rw [if_neg z, if_neg z2] at hij
          exact B.2.2.1 i j (by omega) (by omega) hij
/-- a way out is found -/
theorem BF.out {E : Gd} {s M k d c xk : Nat} {st : Nat → Option Nat} {q : Nat → Nat} (B : BF E s st q M k) (hk : k < M) (hd : d < 4) (hx : st (q k) = some xk) (hb : bes (gw E) (gn E) (q k) d = some c) (hg : gs E c = 3) (hc : st c = none) (hcn : c < gn E) : stO E s (gn E - 1) 1 = some (xk + 1) := by
  obtain ⟨h1, h2, h3, h4⟩ := B.fnd hk hd hx hb (by omega) hc hcn
  refine stO_some _ _ (by omega) (by omega) (fun y y1 y2 => B.nohit fun x _ hx' => ?_) (hit_t.mpr ⟨c, by omega, by omega, h2, h1, hg⟩)
  rw [hx] at hx'
  cases hx'
  omega
/-- another cell is found -/
theorem BF.new {E : Gd} {s M k d c xk : Nat} {st : Nat → Option Nat} {q : Nat → Nat} (B : BF E s st q M k) (D : BD4 E st q k d) (hk : k < M) (hd : d < 4) (hx : st (q k) = some xk) (hb : bes (gw E) (gn E) (q k) d = some c) (hg : gs E c ≠ 1) (hg3 : gs E c ≠ 3) (hc : st c = none) (hcn : c < gn E) : BF E s (upO st c (some (xk + 1))) (upN q M c) (M + 1) k ∧ BD4 E (upO st c (some (xk + 1))) (upN q M c) k (d + 1) := by
  obtain ⟨f1, f2, f3, f4⟩ := B.fnd hk hd hx hb hg hc hcn
  have nc : ∀ i, i < M → q i ≠ c := by
    intro i hi z
    obtain ⟨_, x, x1, _⟩ := B.2.1 i hi
    rw [z, hc] at x1
    cases x1
  have qe : ∀ i, i < M → upN q M c i = q i := fun i hi => upN_ne _ (by omega)
  have se : ∀ i, i < M → upO st c (some (xk + 1)) (upN q M c i) = st (q i) := fun i hi => by rw [qe i hi, upO_ne _ _ (nc i hi)]
  have sM : upO st c (some (xk + 1)) (upN q M c M) = some (xk + 1) := by rw [upN_at, upO_at]
  have sk : ∀ i, st i ≠ none → upO st c (some (xk + 1)) i = st i := fun i hi => upO_ne _ _ (fun z => by rw [z] at hi; exact hi hc)
  obtain ⟨⟨b1, b2, b3, b4, b5⟩, B2, B3, B4, B5, B6, B7⟩ := B
  refine ⟨⟨⟨b1, by rw [sk s (by rw [b2]; simp), b2], by rw [qe 0 (by omega), b3], by omega, by omega⟩, fun j hj => ?_, fun i j hi hj hij => ?_, fun c' x hx' => ?_, fun i j x y hij hj h1 h2 => ?_, fun j x y hj _ h1 h2 => ?_, fun j hj d' hd' c' x h1 h2 h3 => ?_⟩, fun d' hd' c' x h1 h2 h3 => ?_⟩
  · by_cases z : j = M
    · rw [z, sM, upN_at]; exact ⟨hcn, _, rfl, f4⟩
    · rw [se j (by omega), qe j (by omega)]; exact B2 j (by omega)
  · by_cases z : i = M
    · by_cases z2 : j = M
      · omega
      · rw [z, upN_at, qe j (by omega)] at hij
        exact absurd hij.symm (nc j (by omega))
    · by_cases z2 : j = M
      · rw [z2, upN_at, qe i (by omega)] at hij
        exact absurd hij (nc i (by omega))
      · rw [qe i (by omega), qe j (by omega)] at hij
        exact B3 i j (by omega) (by omega) hij
  · by_cases z : c' = c
    · rw [z, upO_at] at hx'
      cases hx'
      rw [z]
      exact ⟨hcn, ⟨M, by omega, upN_at _ _ _⟩, f1, fun _ => hg3⟩
    · rw [upO_ne _ _ z] at hx'
      obtain ⟨g1, ⟨j, g2, g3⟩, g4⟩ := B4 c' x hx'
      exact ⟨g1, ⟨j, by omega, by rw [qe j g2]; exact g3⟩, g4⟩
  · by_cases z : j = M
    · rw [z, sM] at h2
      cases h2
      by_cases z2 : i = M
      · rw [z2, sM] at h1; cases h1; omega
      · rw [se i (by omega)] at h1
        exact B6 i xk x (by omega) hk hx h1
    · rw [se j (by omega)] at h2
      rw [se i (by omega)] at h1
      exact B5 i j x y hij (by omega) h1 h2
  · rw [se k hk, hx] at h1
    cases h1
    by_cases z : j = M
    · rw [z, sM] at h2; cases h2; omega
    · rw [se j (by omega)] at h2
      exact B6 j xk y (by omega) hk hx h2
  · rw [se j (by omega)] at h3
    rw [qe j (by omega)] at h1
    obtain ⟨y, y1, y2⟩ := B7 j hj d' hd' c' x h1 h2 h3
    exact ⟨y, by rw [sk c' (by rw [y1]; simp), y1], y2⟩
  · rw [se k hk] at h3
    rw [qe k hk] at h1
    by_cases z : d' = d
    · subst z
      rw [hb] at h1
      cases h1
      rw [hx] at h3
      cases h3
      exact ⟨_, upO_at _ _ _, Nat.le_refl _⟩
    · obtain ⟨y, y1, y2⟩ := D d' (by omega) c' x h1 h2 h3
      exact ⟨y, by rw [sk c' (by rw [y1]; simp), y1], y2⟩
theorem BF.next {E : Gd} {s M k : Nat} {st : Nat → Option Nat} {q : Nat → Nat} (B : BF E s st q M k) (hk : k < M) (D : BD4 E st q k 4) : BF E s st q M (k + 1) := by
  obtain ⟨⟨b1, b2, b3, b4, b5⟩, B2, B3, B4, B5, B6, B7⟩ := B
  refine ⟨⟨b1, b2, b3, b4, hk⟩, B2, B3, B4, B5, fun j x y hj hk1 h1 h2 => ?_, fun j hj d hd c x h1 h2 h3 => ?_⟩
  · obtain ⟨_, xk, xk1, _⟩ := B2 k hk
    have := B6 j xk y hj hk xk1 h2
    have := B5 k (k + 1) xk x (by omega) hk1 xk1 h1
    omega
  · by_cases z : j = k
    · subst z; exact D d hd c x h1 h2 h3
    · exact B7 j (by omega) d hd c x h1 h2 h3
theorem BF.init {E : Gd} {s : Nat} (hs : s < gn E) : BF E s (upO (fun _ => none) s (some 0)) (fun _ => s) 1 0 := by
  refine ⟨⟨hs, upO_at _ _ _, rfl, by omega, by omega⟩, fun j hj => ⟨hs, 0, upO_at _ _ _, by omega⟩, fun i j hi hj _ => by omega, fun c x hx => ?_, fun i j x y _ _ h1 h2 => ?_, fun j x y _ _ h1 h2 => ?_, fun j hj => by omega⟩
  · by_cases z : c = s
    · rw [z, upO_at] at hx
      cases hx
      rw [z]
      refine ⟨hs, ⟨0, by omega, rfl⟩, ?_, fun h => absurd rfl h⟩
      show (2 ^ s).testBit s = true
      rw [Nat.testBit_two_pow]; simp
    · rw [upO_ne _ _ z] at hx; cases hx
  · rw [upO_at] at h1 h2; cases h1; cases h2; omega
  · rw [upO_at] at h1 h2; cases h1; cases h2; omega
