/-! ===== what both sides have between two calls ===== -/
/-- the garden, frosts, readings (how many; vine, day, cell), sheets (lane, length, row), trace, fault -/
abbrev St : Type := Gd × (Nat → Bool) × Nat × (Nat → Nat × Nat × Nat) × (Nat → Option Nat × Nat × (Nat → Int32)) × Int32 × Int32
abbrev sE (s : St) : Gd := s.1
abbrev sFr (s : St) : Nat → Bool := s.2.1
abbrev sRn (s : St) : Nat := s.2.2.1
abbrev sRd (s : St) : Nat → Nat × Nat × Nat := s.2.2.2.1
abbrev sSh (s : St) : Nat → Option Nat × Nat × (Nat → Int32) := s.2.2.2.2.1
abbrev sTr (s : St) : Int32 := s.2.2.2.2.2.1
abbrev sFa (s : St) : Int32 := s.2.2.2.2.2.2
def okS (s : St) : Prop := (okE (sE s) ∨ (gn (sE s) = 0 ∧ gv (sE s) = 0 ∧ gw (sE s) = 0)) ∧ sRn s ≤ 8 ∧ (∀ r, r < sRn s → (sRd s r).1 < gv (sE s) ∧ (sRd s r).2.1 < 80 ∧ (sRd s r).2.2 < gn (sE s)) ∧ ∀ c, c < gn (sE s) → gs (sE s) c < 4
/-- the maze's bed, between two calls -/
def MZ (h : xH) (em : Nat) : Prop := ∃ (L : Int64) (w n nm : Nat) (s : Nat → Nat) (fr : Nat → Bool) (f : Nat → Nat), h[9]? = some (.inr (1, [.ref (9 + 1), .ref (9 + 3), .ref (9 + 5), .long L])) ∧ PL h (9 + 1) w n s ∧ PF h (9 + 3) fr ∧ AL h (9 + 5) em nm f
/-- the program's part of the heap -/
def RC (h : xH) (s : St) (e em er : Nat) (vs rs : Nat → Nat) : Prop := h[2]? = some (.inr (7, [.ref 3, .ref 9, .ref 15, .ref 16, .int (sTr s), .int (sFa s)])) ∧ BX h 3 e (sE s) (sFr s) vs ∧ MZ h em ∧ AL h 15 er (sRn s) rs ∧ (∀ r, r < sRn s → 30 ≤ rs r ∧ h[rs r]? = some (.inr (4, [.int (Int32.ofNat (sRd s r).1), .int (Int32.ofNat (sRd s r).2.1), .int (Int32.ofNat (sRd s r).2.2)]))) ∧ (∃ g : Nat → Option Nat, h[16]? = some (.inl (3, 4, .inr (.inr (.inr (.inr g))))) ∧ ∀ k, k < 4 → g k = some (17 + 2 * k)) ∧ (∀ k, k < 4 → SH h (17 + 2 * k) (sSh s k).1 (sSh s k).2.1 (sSh s k).2.2) ∧ (∀ v, v < gv (sE s) → 30 ≤ vs v) ∧ (e = 1 ∨ 30 ≤ e) ∧ (em = 1 ∨ 30 ≤ em) ∧ (er = 1 ∨ 30 ≤ er) ∧ (e = em → e = 1) ∧ (e = er → e = 1) ∧ (em = er → em = 1) ∧ 28 ≤ h.length
/-- what a call of the program may write -/
def CP (a : Nat) : Prop := (2 ≤ a ∧ a < 25) ∨ 30 ≤ a
section
variable {d : Nat} {h : xH} {K : Option Value → xH → Prop}
theorem wp_below_t {a m : Nat} (hm : m < 2147483648) (h1 : a < m) : wp d 74 0 [some (.int (Int32.ofNat a)), some (.int (OfNat.ofNat m))] [] h K ↔ K (some (.int 1)) h := by
  have e1 : (Int32.ofNat a < 0) = False := eq_false (n_lt0 (by omega))
  have e2 : ((OfNat.ofNat m : Int32) ≤ Int32.ofNat a) = False := eq_false (by rw [n_lle (by omega) hm]; omega)
  simp only [w74_0, w74_1, w74_4, w74_5, w74_6, w74_9, w74_10, w74_13, w74_14, xk_n, xk_i, xk_r, xk_z, xk_l, xcs_0, xcs_i, xcs_r, xcs_z, xcs_l, Nat.reduceAdd, Nat.reduceLeDiff, Nat.reduceLT, true_and, and_true, Option.toList_some, Option.toList_none, List.nil_append, List.cons_append, List.getElem?_cons_zero, List.getElem?_cons_succ, List.set_cons_zero, List.set_cons_succ, List.length_cons, List.length_nil, y_bool0, y_bool1, not_true_eq_false, not_false_eq_true, false_implies, true_implies, true_or, or_true, false_or, or_false, if_true, if_false, ite_true, ite_false, e1, e2]
theorem wp_below_f {c : Int32} {m : Nat} (hc : c < 0 ∨ ¬ c < 0 ∧ Int32.ofNat m ≤ c) : wp d 74 0 [some (.int c), some (.int (OfNat.ofNat m))] [] h K ↔ K (some (.int 0)) h := by
  rcases hc with e1 | ⟨e1, e2⟩
  · simp only [w74_0, w74_1, w74_4, w74_5, w74_6, w74_9, w74_10, w74_13, w74_14, xk_n, xk_i, xk_r, xk_z, xk_l, xcs_0, xcs_i, xcs_r, xcs_z, xcs_l, Nat.reduceAdd, Nat.reduceLeDiff, Nat.reduceLT, true_and, and_true, Option.toList_some, Option.toList_none, List.nil_append, List.cons_append, List.getElem?_cons_zero, List.getElem?_cons_succ, List.set_cons_zero, List.set_cons_succ, List.length_cons, List.length_nil, y_bool0, y_bool1, not_true_eq_false, not_false_eq_true, false_implies, true_implies, true_or, or_true, false_or, or_false, if_true, if_false, ite_true, ite_false, e1]
  · have e3 : (OfNat.ofNat m : Int32) ≤ c := e2
    simp only [w74_0, w74_1, w74_4, w74_5, w74_6, w74_9, w74_10, w74_13, w74_14, xk_n, xk_i, xk_r, xk_z, xk_l, xcs_0, xcs_i, xcs_r, xcs_z, xcs_l, Nat.reduceAdd, Nat.reduceLeDiff, Nat.reduceLT, true_and, and_true, Option.toList_some, Option.toList_none, List.nil_append, List.cons_append, List.getElem?_cons_zero, List.getElem?_cons_succ, List.set_cons_zero, List.set_cons_succ, List.length_cons, List.length_nil, y_bool0, y_bool1, not_true_eq_false, not_false_eq_true, false_implies, true_implies, true_or, or_true, false_or, or_false, if_true, if_false, ite_true, ite_false, e1, e3]
/-- one day, or none, is earlier than another -/
def earO : Option Nat → Option Nat → Bool
  | some a, some b => decide (a < b)
  | some _, none => true
  | none, _ => false
end
theorem RC.me {h : xH} {s : St} {e em er : Nat} {vs rs : Nat → Nat} (H : RC h s e em er vs rs) : h[2]? = some (.inr (7, [.ref 3, .ref 9, .ref 15, .ref 16, .int (sTr s), .int (sFa s)])) := H.1
theorem RC.sh {h : xH} {s : St} {e em er : Nat} {vs rs : Nat → Nat} (H : RC h s e em er vs rs) {k : Nat} (hk : k < 4) : SH h (17 + 2 * k) (sSh s k).1 (sSh s k).2.1 (sSh s k).2.2 := H.2.2.2.2.2.2.1 k hk
theorem MZ.fr {h h' : xH} {em : Nat} (H : MZ h em) {P : Nat → Prop} {k m : Nat} (F : FR P k m h h') (hP : ∀ a, 9 ≤ a → a < 15 → ¬ P a) (he : ¬ P em) : MZ h' em := by
  obtain ⟨L, w, n, nm, s, fr, f, a1, a2, a3, a4⟩ := H
  exact ⟨L, w, n, nm, s, fr, f, F.at a1 (hP _ (by omega) (by omega)), a2.fr F (hP _ (by omega) (by omega)) (hP _ (by omega) (by omega)), a3.fr F (hP _ (by omega) (by omega)) (hP _ (by omega) (by omega)), a4.fr F (hP _ (by omega) (by omega)) he⟩
/-- the object's own fields are written -/
theorem RC.set2 {h : xH} {s : St} {e em er : Nat} {vs rs : Nat → Nat} (H : RC h s e em er vs rs) (t f : Int32) : RC (h.set 2 (.inr (7, [.ref 3, .ref 9, .ref 15, .ref 16, .int t, .int f]))) (sE s, sFr s, sRn s, sRd s, sSh s, t, f) e em er vs rs ∧ FR (fun a => a = 2) 0 0 h (h.set 2 (.inr (7, [.ref 3, .ref 9, .ref 15, .ref 16, .int t, .int f]))) := by
  obtain ⟨a1, ⟨X, L, a2⟩, a3, a4, a5, ⟨g, a6, a7⟩, a8, a9, b1, b2, b3, b4, b5, b6, b7⟩ := H
  have F := FR.set (c := .inr (7, [.ref 3, .ref 9, .ref 15, .ref 16, .int t, .int f])) a1 rfl
  refine ⟨⟨h_set_at a1, ⟨X, L, ?_⟩, a3.fr F (fun _ _ _ z => by omega) (fun z => by omega), a4.fr F (fun z => by omega) (fun z => by omega), fun r hr => ⟨(a5 r hr).1, h_set_ne (a5 r hr).2 (by have := (a5 r hr).1; omega)⟩, ⟨g, h_set_ne a6 (by omega), a7⟩, fun k hk => (a8 k hk).fr F (fun z => by omega) (fun z => by omega), a9, b1, b2, b3, b4, b5, b6, by rw [List.length_set]; exact b7⟩, F⟩
  obtain ⟨c1, c2, c3, c4, c5, c6, c7⟩ := a2
  exact ⟨c1, h_set_ne c2 (by omega), c3.fr F (fun z => by omega) (fun z => by omega), c4.fr F (fun z => by omega) (fun z => by omega), c5.fr F (fun z => by omega) (fun z => by omega), fun v hv => ⟨(c6 v hv).1, (c6 v hv).2.1, h_set_ne (c6 v hv).2.2 (by have := a9 v hv; omega)⟩, c7⟩
