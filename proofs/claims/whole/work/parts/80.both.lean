/-! ===== both sides at once: frames, the start ===== -/
theorem MP_no {a : Nat} (h : a < 25 ∨ 49 ≤ a) : ¬ MP a := fun z => by have := z.1; have := z.2; omega
theorem RX.fr {h h' : xH} {s : St} {k m : Nat} (H : RX h s) (F : FR MP k m h h') : RX h' s := by
  obtain ⟨hO, e, em, er, vs, rs, H⟩ := H
  obtain ⟨a1, ⟨X, L, a2⟩, a3, a4, a5, ⟨g, a6, a7⟩, a8, a9, b1, b2, b3, b4, b5, b6, b7⟩ := H
  have n0 : ∀ a, (a < 25 ∨ 49 ≤ a) → ¬ MP a := fun a h => MP_no h
  refine ⟨hO, e, em, er, vs, rs, F.at a1 (n0 _ (by omega)), ⟨X, L, ?_⟩, a3.fr F (fun a h1 h2 => n0 _ (by omega)) (n0 _ (by omega)), a4.fr F (n0 _ (by omega)) (n0 _ (by omega)), fun r hr => ⟨(a5 r hr).1, F.at (a5 r hr).2 (n0 _ (by have := (a5 r hr).1; omega))⟩, ⟨g, F.at a6 (n0 _ (by omega)), a7⟩, fun j hj => (a8 j hj).fr F (n0 _ (by omega)) (n0 _ (by omega)), a9, b1, b2, b3, b4, b5, b6, by have := F.1; omega⟩
  obtain ⟨c1, c2, c3, c4, c5, c6, c7⟩ := a2
  exact ⟨c1, F.at c2 (n0 _ (by omega)), c3.fr F (n0 _ (by omega)) (n0 _ (by omega)), c4.fr F (n0 _ (by omega)) (n0 _ (by omega)), c5.fr F (n0 _ (by omega)) (n0 _ (by omega)), fun v hv => ⟨(c6 v hv).1, (c6 v hv).2.1, F.at (c6 v hv).2.2 (n0 _ (by have := a9 v hv; omega))⟩, c7⟩
theorem RM.fr {h h' : xH} {s : St} {k m : Nat} (H : RM h s) (F : FR CP k m h h') : RM h' s := by
  obtain ⟨hi, p, rH, rW, A, hg, h5, H, G, S, R⟩ := H
  exact ⟨hi, p, rH, rW, A, hg, h5, H.fr F (fun a z y => by rcases z with z | z; have := y.1; omega; have := y.2; omega), G, S, R⟩
theorem RX.ok {h : xH} {s : St} (H : RX h s) : okS s := H.1
theorem RM.cls {h : xH} {s : St} (H : RM h s) : y_cls h 25 8 := by
  obtain ⟨hi, p, rH, rW, A, hg, h5, H, G, S, R⟩ := H
  exact H.cls
/-- both objects, as they are made -/
def mk0 (L : Nat) (xs : Nat → Int32) : xH := [.inl (0, L, .inl xs), .inl (2, 0, .inr (.inr (.inr (.inr (fun _ => none)))))] ++ (nvg 2 (shF 2) ++ nmd 25)
theorem mk0_len (L : Nat) (xs : Nat → Int32) : (mk0 L xs).length = 49 := rfl
theorem mk0_x (L : Nat) (xs : Nat → Int32) : RX (mk0 L xs) st0 := by
  refine ⟨⟨Or.inr ⟨rfl, rfl, rfl⟩, Nat.zero_le _, fun r hr => (by cases hr), fun c hc => (by cases hc)⟩, 1, 1, 1, fun _ => 49, fun _ => 49, rfl, ⟨fun _ => [], 0, ?_⟩, ⟨0, 0, 0, 0, fun _ => 0, fun _ => false, fun _ => 0, rfl, ?_, ?_, ?_⟩, ?_, fun r hr => (by cases hr), ⟨shF 2, rfl, fun k hk => ?_⟩, fun k hk => ?_, fun v hv => (by cases hv), Or.inl rfl, Or.inl rfl, Or.inl rfl, fun _ => rfl, fun _ => rfl, fun _ => rfl, by rw [mk0_len]; omega⟩
  · refine ⟨by omega, rfl, ⟨rfl, by omega, (by show 0 ≤ 6; omega), fun _ => 0, rfl, (by show 0 ≤ 30; omega), fun c hc => (by cases hc)⟩, ⟨rfl, by omega, fun _ => 0, rfl, fun d _ => rfl⟩, ⟨⟨0, rfl⟩, (by show 0 ≤ 10; omega), by omega, Or.inl ⟨rfl, rfl, rfl⟩⟩, fun v hv => (by cases hv), fun u v hu => (by cases hu)⟩
  · exact ⟨rfl, by omega, by omega, fun _ => 0, rfl, by omega, fun c hc => by omega⟩
  · exact ⟨rfl, by omega, fun _ => 0, rfl, fun d _ => rfl⟩
  · exact ⟨⟨0, rfl⟩, by omega, by omega, Or.inl ⟨rfl, rfl, rfl⟩⟩
  · exact ⟨⟨0, rfl⟩, (by show 0 ≤ 10; omega), by omega, Or.inl ⟨rfl, rfl, rfl⟩⟩
  · match k, hk with
    | 0, _ => rfl
    | 1, _ => rfl
    | 2, _ => rfl
    | 3, _ => rfl
  · match k, hk with
    | 0, _ => exact ⟨rfl, ⟨fun _ => 0, rfl, fun c _ => rfl⟩, by omega, (by show 0 ≤ 50; omega), fun x hx => (by cases hx)⟩
    | 1, _ => exact ⟨rfl, ⟨fun _ => 0, rfl, fun c _ => rfl⟩, by omega, (by show 0 ≤ 50; omega), fun x hx => (by cases hx)⟩
    | 2, _ => exact ⟨rfl, ⟨fun _ => 0, rfl, fun c _ => rfl⟩, by omega, (by show 0 ≤ 50; omega), fun x hx => (by cases hx)⟩
    | 3, _ => exact ⟨rfl, ⟨fun _ => 0, rfl, fun c _ => rfl⟩, by omega, (by show 0 ≤ 50; omega), fun x hx => (by cases hx)⟩
def A00 (j : Nat) : Nat → Int32 := if j = 0 then srt0 else fun _ => 0
theorem mk0_a (L : Nat) (xs : Nat → Int32) : ∀ j, j < 23 → (mk0 L xs)[26 + j]? = some (.inl (mty j, mln j, .inl (A00 j)))
  | 0, _ => rfl
  | 1, _ => rfl
  | 2, _ => rfl
  | 3, _ => rfl
  | 4, _ => rfl
  | 5, _ => rfl
  | 6, _ => rfl
  | 7, _ => rfl
  | 8, _ => rfl
  | 9, _ => rfl
  | 10, _ => rfl
  | 11, _ => rfl
  | 12, _ => rfl
  | 13, _ => rfl
  | 14, _ => rfl
  | 15, _ => rfl
  | 16, _ => rfl
  | 17, _ => rfl
  | 18, _ => rfl
  | 19, _ => rfl
  | 20, _ => rfl
  | 21, _ => rfl
  | 22, _ => rfl
  | n + 23, h => by omega
theorem mk0_m (L : Nat) (xs : Nat → Int32) : RM (mk0 L xs) st0 := by
  refine ⟨0, 0, 0, 0, A00, rfl, by omega, ⟨rfl, mk0_a L xs⟩, ⟨fun c hc => (by cases hc), fun v hv => (by cases hv), fun d hd => rfl⟩, fun k hk => ?_, fun r hr => (by cases hr)⟩
  match k, hk with
  | 0, _ => exact ⟨rfl, fun z => absurd rfl z, (by show 0 ≤ 50; omega), fun x hx => (by cases hx), fun i _ => rfl⟩
  | 1, _ => exact ⟨rfl, fun z => absurd rfl z, (by show 0 ≤ 50; omega), fun x hx => (by cases hx), fun i _ => rfl⟩
  | 2, _ => exact ⟨rfl, fun z => absurd rfl z, (by show 0 ≤ 50; omega), fun x hx => (by cases hx), fun i _ => rfl⟩
  | 3, _ => exact ⟨rfl, fun z => absurd rfl z, (by show 0 ≤ 50; omega), fun x hx => (by cases hx), fun i _ => rfl⟩
theorem mk0_sl (L : Nat) (xs : Nat → Int32) : xsl (mk0 L xs) ≤ L + 2000 := by
  unfold mk0
  rw [xsl_ap]
  have e1 : xsl [.inl (0, L, .inl xs), .inl (2, 0, .inr (.inr (.inr (.inr (fun _ => none)))))] = L := by simp [xsl, xsz]
  have e2 : xsl (nvg 2 (shF 2) ++ nmd 25) ≤ 2000 := by decide +kernel
  rw [e1]
  omega
