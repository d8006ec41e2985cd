/-! ===== what holds of a vine as it grows ===== -/
theorem bes_back {w n t d c : Nat} (hw : okW w n) (ht : t < n) (hd : d < 4) (h : bes w n t d = some c) : bes w n c ((d + 2) % 4) = some t := by
  obtain ⟨w2, w6, n30, hi, rfl⟩ := hw
  have key : ((List.range 7).all fun w => (List.range 16).all fun hi => !(decide (2 ≤ w) && decide (hi * w ≤ 30)) || (List.range (hi * w)).all fun t => (List.range 4).all fun d => (bes w (hi * w) t d).all fun c => bes w (hi * w) c ((d + 2) % 4) == some t) = true := by decide +kernel
  have hi16 : hi < 16 := by
    have : hi * 2 ≤ hi * w := Nat.mul_le_mul_left _ w2
    omega
  have k1 := List.all_eq_true.mp key w (List.mem_range.mpr (by omega))
  have k2 := List.all_eq_true.mp k1 hi (List.mem_range.mpr hi16)
  rw [decide_eq_true w2, decide_eq_true n30] at k2
  have k3 := List.all_eq_true.mp k2 t (List.mem_range.mpr ht)
  have k4 := List.all_eq_true.mp k3 d (List.mem_range.mpr hd)
  rw [h] at k4
  simpa using k4
theorem dig_or (A B j : Nat) : (A ||| B) / 4 ^ j % 4 = (A / 4 ^ j % 4 ||| B / 4 ^ j % 4) := by
  have p3 : (4 : Nat) ^ j = 2 ^ (2 * j) := by rw [Nat.pow_mul]
  rw [p3, ← Nat.shiftRight_eq_div_pow, ← Nat.shiftRight_eq_div_pow, ← Nat.shiftRight_eq_div_pow, Nat.shiftRight_or_distrib]
  exact Nat.or_mod_two_pow (n := 2)
theorem dig_at {d : Nat} (c : Nat) (hd : d < 4) : d * 4 ^ c / 4 ^ c % 4 = d := by
  rw [Nat.mul_div_cancel _ (Nat.pow_pos (by omega)), Nat.mod_eq_of_lt hd]
theorem dig_ne {d c j : Nat} (hd : d < 4) (hj : j ≠ c) : d * 4 ^ c / 4 ^ j % 4 = 0 := by
  by_cases q : j < c
  · have e : d * 4 ^ c = d * 4 ^ (c - j - 1) * 4 * 4 ^ j := by
      rw [Nat.mul_assoc, Nat.mul_assoc, ← Nat.pow_succ', ← Nat.pow_add]
      congr 2
      omega
    rw [e, Nat.mul_div_cancel _ (Nat.pow_pos (by omega)), Nat.mul_mod_left]
  · have e : d * 4 ^ c < 4 ^ j := by
      have h1 : 4 ^ (c + 1) ≤ 4 ^ j := Nat.pow_le_pow_right (by omega) (by omega)
      rw [Nat.pow_succ] at h1
      have h2 : d * 4 ^ c ≤ 3 * 4 ^ c := Nat.mul_le_mul_right _ (by omega)
      have h3 : 0 < 4 ^ c := Nat.pow_pos (by omega)
      omega
    rw [Nat.div_eq_of_lt e]
def okV (w n p : Nat) (x : Vs) : Prop := (∀ c, (vl x).testBit c = true → c < n ∧ (c = p ∨ ∃ c', bes w n c ((vc x / 4 ^ c + 2) % 4) = some c' ∧ (vl x).testBit c' = true)) ∧ (vl x).testBit (vt x) = true ∧ (vl x).testBit p = true ∧ (∀ c, (vl x).testBit c = false → vc x / 4 ^ c % 4 = 0) ∧ vc x < 1152921504606846976 ∧ vh x < 4 ∧ (∀ m, vo x = some m → m < 1000) ∧ ∀ m, vx x = some m → m < 1000
theorem okV.tip {w n p : Nat} {x : Vs} (h : okV w n p x) : vt x < n := (h.1 _ h.2.1).1
theorem okV.leaf {w n p : Nat} {x : Vs} (h : okV w n p x) (hn : n ≤ 30) : vl x < 1073741824 := Nat.lt_pow_two_of_testBit (n := 30) _ fun i hi => by
  cases q : (vl x).testBit i
  · rfl
  · have := (h.1 i q).1; omega
theorem okV_init {w n p hd : Nat} (hp : p < n) (hd4 : hd < 4) : okV w n p (p, hd, 0, 2 ^ p, 0, none, none) := by
  refine ⟨fun c hc => ?_, ?_, ?_, fun c _ => by show 0 / 4 ^ c % 4 = 0; rw [Nat.zero_div], by show 0 < _; omega, hd4, fun m z => (by cases z), fun m z => (by cases z)⟩
  · replace hc : (2 ^ p).testBit c = true := hc
    rw [Nat.testBit_two_pow] at hc
    have : p = c := by simpa using hc
    exact ⟨by omega, Or.inl this.symm⟩
  · show (2 ^ p).testBit p = true
    rw [Nat.testBit_two_pow]; simp
  · show (2 ^ p).testBit p = true
    rw [Nat.testBit_two_pow]; simp
theorem or_dig (a b : Nat) (h : b < 4) (ha : a = 0) : a ||| b = b := by subst ha; simp
theorem okV_go {w n p t d c sg : Nat} {x : Vs} (hw : okW w n) (h : okV w n p x) (ht : t < 1000) (hd : d < 4) (hb : bes w n (vt x) d = some c) (hc : (vl x).testBit c = false) : okV w n p (c, d, vd x, vl x ||| 2 ^ c, vc x ||| d * 4 ^ c, if sg = 3 then some t else none, none) := by
  have hcn := bes_lt hw h.tip hb
  have hbk := bes_back hw h.tip hd hb
  obtain ⟨h1, h2, h3, h4, h5, h6, h7, h8⟩ := h
  have hbit : ∀ i, (vl x ||| 2 ^ c).testBit i = ((vl x).testBit i || decide (c = i)) := fun i => by rw [Nat.testBit_or, Nat.testBit_two_pow]
  have hdg : ∀ i, (vc x ||| d * 4 ^ c) / 4 ^ i % 4 = if i = c then d else vc x / 4 ^ i % 4 := by
    intro i
    rw [dig_or]
    by_cases q : i = c
    · subst q
      rw [if_pos rfl, dig_at _ hd, h4 _ hc]
      simp
    · rw [if_neg q, dig_ne hd q, Nat.or_zero]
  have hm : ∀ z, (z + 2) % 4 = (z % 4 + 2) % 4 := fun z => by omega
  refine ⟨fun i hi => ?_, ?_, ?_, fun i hi => ?_, ?_, hd, fun m hm => ?_, fun m z => by cases z⟩
  · replace hi : (vl x ||| 2 ^ c).testBit i = true := hi
    show i < n ∧ (i = p ∨ ∃ c', bes w n i (((vc x ||| d * 4 ^ c) / 4 ^ i + 2) % 4) = some c' ∧ (vl x ||| 2 ^ c).testBit c' = true)
    rw [hm, hdg]
    by_cases q : i = c
    · subst q
      refine ⟨hcn, Or.inr ⟨vt x, ?_, ?_⟩⟩
      · rw [if_pos rfl]; exact hbk
      · rw [hbit, h2]; rfl
    · rw [hbit] at hi
      have hi' : (vl x).testBit i = true := by
        have : decide (c = i) = false := decide_eq_false (fun z => q z.symm)
        rw [this] at hi
        simpa using hi
      obtain ⟨i1, i2⟩ := h1 i hi'
      refine ⟨i1, i2.imp id ?_⟩
      rintro ⟨c', b1, b2⟩
      refine ⟨c', ?_, by rw [hbit, b2]; rfl⟩
      rw [if_neg q, ← hm]
      exact b1
  · show (vl x ||| 2 ^ c).testBit c = true
    rw [hbit]; simp
  · show (vl x ||| 2 ^ c).testBit p = true
    rw [hbit, h3]; rfl
  · replace hi : (vl x ||| 2 ^ c).testBit i = false := hi
    show (vc x ||| d * 4 ^ c) / 4 ^ i % 4 = 0
    rw [hbit] at hi
    rw [hdg]
    have q : i ≠ c := by rintro rfl; simp at hi
    rw [if_neg q]
    exact h4 i (by cases z : (vl x).testBit i; rfl; rw [z] at hi; simp at hi)
  · show vc x ||| d * 4 ^ c < 2 ^ 60
    have hn := hw.2.2.1
    refine Nat.or_lt_two_pow h5 ?_
    have h2 : d * 4 ^ c ≤ 3 * 4 ^ c := Nat.mul_le_mul_right _ (by omega)
    have h3 : (4 : Nat) ^ c ≤ 4 ^ 29 := Nat.pow_le_pow_right (by omega) (by omega)
    omega
  · replace hm : (if sg = 3 then some t else none) = some m := hm
    split at hm
    · cases hm; exact ht
    · cases hm
theorem okV_back {w n p b c d' : Nat} {x : Vs} (h : okV w n p x) (hb : bes w n (vt x) ((vc x / 4 ^ vt x + 2) % 4) = some c) (hc : vt x ≠ p) : okV w n p (c, (vc x / 4 ^ vt x + 2) % 4, d', vl x, vc x, none, none) := by
  obtain ⟨h1, h2, h3, h4, h5, h6, h7, h8⟩ := h
  obtain ⟨i1, i2⟩ := h1 _ h2
  rcases i2 with i2 | ⟨c', b1, b2⟩
  · exact absurd i2 hc
  · rw [hb] at b1
    cases b1
    exact ⟨h1, b2, h3, h4, h5, Nat.mod_lt _ (by omega), fun m z => (by cases z), fun m z => (by cases z)⟩
theorem ord3_lt {k h d : Nat} (hh : h < 4) (hd : d ∈ ord3 k h) : d < 4 := by
  unfold ord3 at hd
  split at hd <;> simp at hd <;> omega
theorem isFr_some {E : Gd} {L t d : Nat} (h : isFr E L t d = true) : ∃ c, bes (gw E) (gn E) t d = some c ∧ gs E c ≠ 1 ∧ L.testBit c = false := by
  unfold isFr at h
  split at h
  · rename_i c q
    refine ⟨c, q, ?_⟩
    simpa using h
  · cases h
theorem wayOf_some {E : Gd} {L k t h d : Nat} (hh : h < 4) (hw : wayOf E L k t h = some d) : d < 4 ∧ isFr E L t d = true := by
  unfold wayOf at hw
  split at hw
  · exact ⟨ord3_lt hh (List.mem_of_find?_eq_some hw), List.find?_some hw⟩
  · split at hw
    · rename_i d' q
      cases hw
      have := List.find?_some q
      simp at this
      exact ⟨ord3_lt hh (List.mem_of_find?_eq_some q), this.1⟩
    · exact ⟨ord3_lt hh (List.mem_of_find?_eq_some hw), List.find?_some hw⟩
/-- a garden that can be -/
def okE (E : Gd) : Prop := okW (gw E) (gn E) ∧ gv E ≤ 3 ∧ ∀ v, v < gv E → gk E v < 3 ∧ gp E v < gn E ∧ gh E v < 4
theorem stepV_ok {E : Gd} {L t v : Nat} {x : Vs} (hE : okE E) (ht : t < 1000) (h : okV (gw E) (gn E) (gp E v) x) (hL : ∀ c, (vl x).testBit c = true → L.testBit c = true) : okV (gw E) (gn E) (gp E v) (stepV E L t v x) := by
  unfold stepV
  split
  · rename_i d hd
    obtain ⟨d4, hf⟩ := wayOf_some h.2.2.2.2.2.1 hd
    obtain ⟨c, c1, c2, c3⟩ := isFr_some hf
    rw [c1]
    dsimp only
    refine okV_go hE.1 h ht d4 c1 ?_
    cases q : (vl x).testBit c
    · rfl
    · rw [hL c q] at c3; cases c3
  · split
    · rename_i q
      obtain ⟨h1, h2, h3, h4, h5, h6, h7, h8⟩ := h
      exact ⟨h1, h2, h3, h4, h5, h6, fun m z => (by cases z), fun m z => by cases z; exact ht⟩
    · rename_i q
      split
      · rename_i c hc
        exact okV_back (b := 0) h hc q
      · exact h
def okG (E : Gd) (G : Nat → Vs) : Prop := ∀ v, v < gv E → okV (gw E) (gn E) (gp E v) (G v)
theorem allL_bit {G : Nat → Vs} {c : Nat} : ∀ {k : Nat}, (allL G k).testBit c = true ↔ ∃ v, v < k ∧ (vl (G v)).testBit c = true
  | 0 => by simp [allL]
  | k + 1 => by
    unfold allL
    rw [Nat.testBit_or, Bool.or_eq_true, allL_bit]
    constructor
    · rintro (⟨v, h1, h2⟩ | h)
      · exact ⟨v, by omega, h2⟩
      · exact ⟨k, by omega, h⟩
    · rintro ⟨v, h1, h2⟩
      by_cases q : v = k
      · subst q; exact Or.inr h2
      · exact Or.inl ⟨v, by omega, h2⟩
theorem okG.allk {E : Gd} {G : Nat → Vs} (hE : okE E) (h : okG E G) {k : Nat} (hk : k ≤ gv E) : allL G k < 1073741824 := Nat.lt_pow_two_of_testBit (n := 30) _ fun i hi => by
  cases q : (allL G k).testBit i
  · rfl
  · obtain ⟨v, h1, h2⟩ := allL_bit.mp q
    have := ((h v (by omega)).1 i h2).1
    have := hE.1.2.2.1
    omega
theorem okG.all {E : Gd} {G : Nat → Vs} (hE : okE E) (h : okG E G) : allL G (gv E) < 1073741824 := h.allk hE (Nat.le_refl _)
theorem upG_at (G : Nat → Vs) (v : Nat) (x : Vs) : upG G v x v = x := if_pos rfl
theorem upG_ne (G : Nat → Vs) {v u : Nat} (x : Vs) (h : u ≠ v) : upG G v x u = G u := if_neg h
theorem growV_ok {E : Gd} {t v : Nat} {G : Nat → Vs} (hE : okE E) (ht : t < 1000) (h : okG E G) (hv : v < gv E) : okG E (growV E t G v) := by
  intro u hu
  unfold growV
  split
  · exact h u hu
  · by_cases q : u = v
    · subst q
      rw [upG_at]
      exact stepV_ok hE ht (h u hu) fun c hc => allL_bit.mpr ⟨u, hu, hc⟩
    · rw [upG_ne _ _ q]
      exact h u hu
theorem growN_ok {E : Gd} {t : Nat} {G : Nat → Vs} (hE : okE E) (ht : t < 1000) (h : okG E G) : ∀ k, k ≤ gv E → okG E (growN E t G k)
  | 0, _ => h
  | k + 1, hk => growV_ok hE ht (growN_ok hE ht h k (by omega)) (by omega)
theorem init1_ok {E : Gd} (hE : okE E) : okG E (init1 E) := fun v hv => okV_init (hE.2.2 v hv).2.1 (hE.2.2 v hv).2.2
theorem runM_ok {E : Gd} (hE : okE E) : ∀ k, k ≤ 1000 → okG E (runM E k)
  | 0, _ => init1_ok hE
  | k + 1, hk => growN_ok hE (by omega) (runM_ok hE k (by omega)) _ (Nat.le_refl _)
