/-! ===== the law's text, the garden by it ===== -/
theorem LQ_no {a : Nat} (h : a < 25 ∨ 30 ≤ a) : ¬ LQ a := fun z => by have := z.1; have := z.2; omega
theorem RX.fr {h h' : xH} {s : St} {k m : Nat} (H : RX h s) (F : FR LQ k m h h') : RX h' s := by
  obtain ⟨hO, e, em, er, vs, rs, H⟩ := H
  obtain ⟨a1, ⟨X, L, a2⟩, a3, a4, a5, ⟨g, a6, a7⟩, a8, a9, b1, b2, b3, b4, b5, b6, b7⟩ := H
  have n0 : ∀ a, (a < 25 ∨ 30 ≤ a) → ¬ LQ a := fun a h => LQ_no h
  refine ⟨hO, e, em, er, vs, rs, F.at a1 (n0 _ (by omega)), ⟨X, L, ?_⟩, a3.fr F (fun a h1 h2 => n0 _ (by omega)) (n0 _ (by omega)), a4.fr F (n0 _ (by omega)) (n0 _ (by omega)), fun r hr => ⟨(a5 r hr).1, F.at (a5 r hr).2 (n0 _ (by have := (a5 r hr).1; omega))⟩, ⟨g, F.at a6 (n0 _ (by omega)), a7⟩, fun j hj => (a8 j hj).fr F (n0 _ (by omega)) (n0 _ (by omega)), a9, b1, b2, b3, b4, b5, b6, by have := F.1; omega⟩
  obtain ⟨c1, c2, c3, c4, c5, c6, c7⟩ := a2
  exact ⟨c1, F.at c2 (n0 _ (by omega)), c3.fr F (n0 _ (by omega)) (n0 _ (by omega)), c4.fr F (n0 _ (by omega)) (n0 _ (by omega)), c5.fr F (n0 _ (by omega)) (n0 _ (by omega)), fun v hv => ⟨(c6 v hv).1, (c6 v hv).2.1, F.at (c6 v hv).2.2 (n0 _ (by have := a9 v hv; omega))⟩, c7⟩
theorem RX.ok {h : xH} {s : St} (H : RX h s) : okS s := H.1
theorem CP_no {a : Nat} (h : a < 2 ∨ (25 ≤ a ∧ a < 30)) : ¬ CP a := fun z => by rcases z with z | z; have := z.1; have := z.2; omega; omega
/-- the law's rows at its start -/
def LB (h : xH) (L : Nat) (xs fg fs : Nat → Int32) : Prop := h[0]? = some (.inl (0, L, .inl xs)) ∧ h[25]? = some (.inl (0, 12, .inl fg)) ∧ h[26]? = some (.inl (0, 20, .inl fs)) ∧ (∃ ff, h[27]? = some (.inl (4, 1, .inr (.inl ff))) ∧ ff 0 = Int64.ofNat 0) ∧ h.length = 28 ∧ L < 1000 ∧ xsl h ≤ L + 2000
section
variable {h h' : xH} {L : Nat} {xs fg fs : Nat → Int32}
theorem LB.fr (H : LB h L xs fg fs) (F : FR CP 0 0 h h') : LB h' L xs fg fs := by
  obtain ⟨a, b, c, ⟨ff, e, f⟩, g, l⟩ := H
  exact ⟨F.at a (CP_no (by omega)), F.at b (CP_no (by omega)), F.at c (CP_no (by omega)), ⟨ff, F.at e (CP_no (by omega)), f⟩, by have := F.1; have := F.2.1; omega, l.1, by have := F.2.2.1; have := l.2; omega⟩
theorem LB.sg (H : LB h L xs fg fs) {s : St} (R : RX h s) {i x : Int32} {k : Nat} (hi : i = Int32.ofNat k) (hk : k < 12) {J : xH → Prop} (hJ : ∀ h', LB h' L xs (upd fg k x) fs → RX h' s → FR LQ 0 0 h h' → J h') : y_iast h 25 i x J := by
  obtain ⟨a, b, c, ⟨ff, e, f⟩, g, l⟩ := H
  rw [ys b (by omega) hi hk (by omega)]
  have F : FR LQ 0 0 h (h.set 25 (.inl (0, 12, .inl (upd fg k x)))) := (FR.set (c := .inl (0, 12, .inl (upd fg k x))) b rfl).mono (fun a _ q => by subst q; exact ⟨by omega, by omega⟩) (Nat.le_refl _) (Nat.le_refl _)
  exact hJ _ ⟨h_set_ne a (by omega), h_set_at b, h_set_ne c (by omega), ⟨ff, h_set_ne e (by omega), f⟩, by rw [List.length_set]; exact g, l.1, by have := F.2.2.1; have := l.2; omega⟩ (R.fr F) F
theorem LB.ss (H : LB h L xs fg fs) {s : St} (R : RX h s) {i x : Int32} {k : Nat} (hi : i = Int32.ofNat k) (hk : k < 20) {J : xH → Prop} (hJ : ∀ h', LB h' L xs fg (upd fs k x) → RX h' s → FR LQ 0 0 h h' → J h') : y_iast h 26 i x J := by
  obtain ⟨a, b, c, ⟨ff, e, f⟩, g, l⟩ := H
  rw [ys c (by omega) hi hk (by omega)]
  have F : FR LQ 0 0 h (h.set 26 (.inl (0, 20, .inl (upd fs k x)))) := (FR.set (c := .inl (0, 20, .inl (upd fs k x))) c rfl).mono (fun a _ q => by subst q; exact ⟨by omega, by omega⟩) (Nat.le_refl _) (Nat.le_refl _)
  exact hJ _ ⟨h_set_ne a (by omega), h_set_ne b (by omega), h_set_at c, ⟨ff, h_set_ne e (by omega), f⟩, by rw [List.length_set]; exact g, l.1, by have := F.2.2.1; have := l.2; omega⟩ (R.fr F) F
end
section
variable {d : Nat} {h : xH} {K : Option Value → xH → Prop} {s : St} {f : Nat → Int32}
theorem cop_put0 (H : RX h s) (hs : sSh s 0 = (some 0, 50, f)) {i v : Int32} {k : Nat} (hi : i = Int32.ofNat k) (hk : k < 50) (hv : v.toInt8.toInt32 = v) (hK : ∀ h' s', RX h' s' → sSh s' 0 = (some 0, 50, upd f k v) → FR CP 0 0 h h' → K (some (.int 1)) h') : wp (d + 2) 65 0 [some (.ref 2), some (.int 0), some (.int i), some (.int v), none] [] h K := by
  subst hi
  refine cop_put H 0 (Int32.ofNat k) v fun h' R F => ?_
  have e : opPut s 0 (Int32.ofNat k) v = (1, stH (stF s 0) 0 (some 0, 50, upd f k v)) := by
    unfold opPut
    rw [show nb 0 4 = some 0 from nb_t (a := 0) (by omega) (by omega)]
    dsimp only
    rw [hs]
    dsimp only
    rw [if_neg (by simp), nb_t (by omega) hk]
    dsimp only
    unfold cvt
    rw [if_pos rfl, hv]
  rw [e] at R ⊢
  exact hK h' _ R rfl F
theorem cop_sheet0 (H : RX h s) (hK : ∀ h' s', RX h' s' → sSh s' 0 = (some 0, 50, fun _ => 0) → FR CP 0 0 h h' → K (some (.int 1)) h') : wp (d + 2) 63 0 [some (.ref 2), some (.int 0), some (.int 0), some (.int 50), none] [] h K := by
  refine cop_sheet H 0 0 50 fun h' R F => ?_
  have e : opSheet s 0 0 50 = (1, stH (stF s 0) 0 (some 0, 50, fun _ => 0)) := by
    unfold opSheet
    rw [show nb 0 4 = some 0 from nb_t (a := 0) (by omega) (by omega), show nb 0 3 = some 0 from nb_t (a := 0) (by omega) (by omega)]
    rfl
  rw [e] at R ⊢
  exact hK h' _ R rfl F
end
/-! the text as it stands -/
theorem colW_ok {cd : Nat → Int32} : ∀ {j p : Nat}, (∀ col, col < j → (sgC (cd (p + col))).isSome = true) → colW cd j p = none
  | 0, _, _ => rfl
  | j + 1, p, h => by
    have h0 := h 0 (by omega)
    rw [Nat.add_zero] at h0
    show (if (sgC (cd p)).isNone then some p else colW cd j (p + 1)) = none
    cases q : sgC (cd p) with
    | none => rw [q] at h0; cases h0
    | some x =>
      rw [if_neg (by simp)]
      refine colW_ok fun col hc => ?_
      have := h (col + 1) (by omega)
      rwa [show p + (col + 1) = p + 1 + col by omega] at this
theorem rowW_ok {cd : Nat → Int32} {w : Nat} : ∀ {j p : Nat}, (∀ row, row < j → cd (p + row * (w + 1)) = 59 ∧ ∀ col, col < w → (sgC (cd (p + row * (w + 1) + 1 + col))).isSome = true) → rowW cd w j p = none
  | 0, _, _ => rfl
  | j + 1, p, h => by
    obtain ⟨h0, h1⟩ := h 0 (by omega)
    rw [Nat.zero_mul, Nat.add_zero] at h0 h1
    show (if cd p = 59 then (match colW cd w (p + 1) with
      | some q => some q
      | none => rowW cd w j (p + 1 + w)) else some p) = none
    rw [if_pos h0, colW_ok h1]
    dsimp only
    refine rowW_ok fun row hr => ?_
    have := h (row + 1) (by omega)
    rw [Nat.succ_mul] at this
    rwa [show p + (row * (w + 1) + (w + 1)) = p + 1 + w + row * (w + 1) by omega] at this
theorem dgt_ok {a lo hi : Nat} (h1 : lo ≤ a) (h2 : a ≤ hi) (h3 : hi ≤ 9) : dgt (Int32.ofNat (48 + a)) lo hi = some a := by
  unfold dgt
  rw [decide_eq_true ((n_le (by omega) (by omega)).mpr (by omega)), decide_eq_true ((n_le (by omega) (by omega)).mpr (by omega)), n_cl (by omega)]
  show some (48 + a - 48) = some a
  congr 1
  omega
/-- a text is told by its cells -/
def TXT (f : Nat → Int32) (hi w : Nat) : Prop := f 0 = 103 ∧ f 1 = Int32.ofNat (48 + hi) ∧ f 2 = Int32.ofNat (48 + w)
def CEL (f fs : Nat → Int32) (w c : Nat) : Prop := (∀ x, x < c → ∃ y, y < 4 ∧ fs x = Int32.ofNat y ∧ sgC (f (4 + x + x / w)) = some y) ∧ ∀ row, row * w < c → f (3 + row * (w + 1)) = 59
theorem opGarden_ok {s : St} {f fs : Nat → Int32} {hi w : Nat} (hs : sSh s 0 = (some 0, 50, f)) (h1 : 1 ≤ hi) (h4 : hi ≤ 4) (w2 : 2 ≤ w) (w5 : w ≤ 5) (T : TXT f hi w) (C : CEL f fs w (hi * w)) : opGarden s 0 0 0 (Int32.ofNat (3 + hi * w + hi)) = (Int32.ofNat (hi * w), gdT (stF s 0) f 0 hi w) := by
  have h20 : hi * w ≤ 20 := Nat.mul_le_mul h4 w5
  have hw : hi * 2 ≤ hi * w := Nat.mul_le_mul_left _ w2
  obtain ⟨t0, t1, t2⟩ := T
  have cd : ∀ p, p < 3 + hi * w + hi → cdA f 0 (3 + hi * w + hi) p = f p := fun p hp => by
    unfold cdA
    rw [if_pos hp, Nat.zero_add]
  have hw' : wrgW (cdA f 0 (3 + hi * w + hi)) (3 + hi * w + hi) = none := by
    unfold wrgW
    rw [cd 0 (by omega), cd 1 (by omega), cd 2 (by omega), t0, t1, t2, if_pos rfl, dgt_ok h1 (by omega) (by omega)]
    dsimp only
    rw [dgt_ok w2 (by omega) (by omega)]
    dsimp only
    have hr : rowW (cdA f 0 (3 + hi * w + hi)) w hi 3 = none := by
      refine rowW_ok fun row hrow => ?_
      have m1 : (row + 1) * w ≤ hi * w := Nat.mul_le_mul_right _ hrow
      rw [Nat.succ_mul] at m1
      have e1 : row * (w + 1) = row * w + row := Nat.mul_succ _ _
      refine ⟨?_, fun col hcol => ?_⟩
      · rw [cd _ (by omega)]
        exact C.2 row (by omega)
      · rw [cd _ (by omega)]
        obtain ⟨y, -, -, y3⟩ := C.1 (row * w + col) (by omega)
        rw [div_row hcol] at y3
        rw [show 3 + row * (w + 1) + 1 + col = 4 + (row * w + col) + row by omega, y3]
        rfl
    rw [hr]
    dsimp only
    rw [if_neg (by rw [Nat.mul_succ]; omega)]
  unfold opGarden
  rw [show nb 0 4 = some 0 from nb_t (a := 0) (by omega) (by omega)]
  dsimp only
  rw [show nb 0 3 = some 0 from nb_t (a := 0) (by omega) (by omega)]
  dsimp only
  rw [hs]
  dsimp only
  rw [if_neg (by simp), if_pos rfl, if_neg (n_lt0 (by omega))]
  have hh : hldB 50 0 (Int32.ofNat (3 + hi * w + hi)) = true := by
    unfold hldB
    have : (Int32.ofNat 50 - 0 : Int32) = Int32.ofNat 50 := by decide
    refine decide_eq_true ⟨by decide, by decide, Int32.not_lt.mp (n_lt0 (by omega)), ?_⟩
    rw [this]
    exact (n_le (by omega) (by omega)).mpr (by omega)
  rw [if_pos hh, n_cl (by omega), show (0 : Int32).toNatClampNeg = 0 from rfl, hw']
  dsimp only
  rw [Nat.zero_add, Nat.zero_add, t1, t2, dgt_ok h1 (by omega) (by omega), dgt_ok w2 (by omega) (by omega)]
  rfl
