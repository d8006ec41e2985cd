/-! ===== the program's calls: sheets ===== -/
def RX (h : xH) (s : St) : Prop := okS s ∧ ∃ e em er vs rs, RC h s e em er vs rs
/-- a number below a bound -/
def nb (c : Int32) (m : Nat) : Option Nat := if decide (¬ c < 0) && decide (c < Int32.ofNat m) then some c.toNatClampNeg else none
theorem nb_t {a m : Nat} (hm : m < 2147483648) (h : a < m) : nb (Int32.ofNat a) m = some a := by
  unfold nb
  rw [decide_eq_true (n_lt0 (by omega)), decide_eq_true ((n_lt (by omega) hm).mpr h), n_cl (by omega)]
  rfl
theorem nb_f {c : Int32} {m : Nat} (hc : c < 0 ∨ ¬ c < 0 ∧ Int32.ofNat m ≤ c) : nb c m = none := by
  unfold nb
  rcases hc with e | ⟨e1, e2⟩
  · have : decide (¬ c < 0) = false := decide_eq_false (fun z => z e)
    rw [this]; rfl
  · have : decide (c < Int32.ofNat m) = false := decide_eq_false (by rw [Int32.not_lt]; exact e2)
    rw [this, Bool.and_false]; rfl
theorem nb_cas (c : Int32) {m : Nat} (hm : m < 2147483648) : (∃ a, a < m ∧ c = Int32.ofNat a ∧ nb c m = some a) ∨ ((c < 0 ∨ ¬ c < 0 ∧ Int32.ofNat m ≤ c) ∧ nb c m = none) := by
  rcases n_cas c hm with ⟨a, h1, rfl⟩ | h
  · exact Or.inl ⟨a, h1, rfl, nb_t hm h1⟩
  · exact Or.inr ⟨h, nb_f h⟩
/-- the fault is set -/
def stF (s : St) (f : Int32) : St := (sE s, sFr s, sRn s, sRd s, sSh s, sTr s, f)
def stH (s : St) (k : Nat) (x : Option Nat × Nat × (Nat → Int32)) : St := (sE s, sFr s, sRn s, sRd s, fun j => if j = k then x else sSh s j, sTr s, sFa s)
def opSheet (s : St) (k l n : Int32) : Int32 × St := match nb k 4 with
  | none => (-1, stF s 0)
  | some k => match nb l 3 with
    | none => (-2, stF s 0)
    | some l => if 50 < n then (-2, stF s 0) else if n < 0 then (-10 - 4, stF s 4) else (1, stH (stF s 0) k (some l, n.toNatClampNeg, fun _ => 0))
def opPut (s : St) (k i v : Int32) : Int32 × St := match nb k 4 with
  | none => (-1, stF s 0)
  | some k => if (sSh s k).1.isNone then (-10 - 1, stF s 1) else match nb i (sSh s k).2.1 with
    | none => (-10 - 3, stF s 3)
    | some i => (1, stH (stF s 0) k ((sSh s k).1, (sSh s k).2.1, upd (sSh s k).2.2 i (cvt (sSh s k).1 v)))
theorem okS_F {s : St} (h : okS s) (f : Int32) : okS (stF s f) := h
theorem okS_H {s : St} (h : okS s) (k : Nat) (x) : okS (stH s k x) := h
theorem sFa_F (s : St) (f : Int32) : sFa (stF s f) = f := rfl
theorem sTr_F (s : St) (f : Int32) : sTr (stF s f) = sTr s := rfl
theorem sSh_F (s : St) (f : Int32) : sSh (stF s f) = sSh s := rfl
theorem CP2 {a : Nat} (h : a = 2) : CP a := Or.inl (by omega)
section
variable {d : Nat} {h : xH} {K : Option Value → xH → Prop} {s : St} {e em er : Nat} {vs rs : Nat → Nat}
theorem RC.cls (H : RC h s e em er vs rs) : y_cls h 2 7 := by unfold y_cls; rw [H.1]; exact ⟨by omega, rfl⟩
theorem RC.F (H : RC h s e em er vs rs) (f : Int32) : RC (h.set 2 (.inr (7, [.ref 3, .ref 9, .ref 15, .ref 16, .int (sTr s), .int f]))) (stF s f) e em er vs rs ∧ FR CP 0 0 h (h.set 2 (.inr (7, [.ref 3, .ref 9, .ref 15, .ref 16, .int (sTr s), .int f]))) := by
  have := H.set2 (sTr s) f
  exact ⟨this.1, this.2.mono (fun _ _ z => CP2 z) (Nat.le_refl _) (Nat.le_refl _)⟩
/-- a sheet is written -/
theorem RC.H (H : RC h s e em er vs rs) {k n : Nat} {ln : Option Nat} {f : Nat → Int32} {h' : xH} (hk : k < 4) (H' : SH h' (17 + 2 * k) ln n f) (F : FR (fun b => b = 17 + 2 * k ∨ b = 17 + 2 * k + 1) 0 0 h h') : RC h' (stH s k (ln, n, f)) e em er vs rs ∧ FR CP 0 0 h h' := by
  obtain ⟨a1, ⟨X, L, a2⟩, a3, a4, a5, ⟨g, a6, a7⟩, a8, a9, b1, b2, b3, b4, b5, b6, b7⟩ := H
  refine ⟨⟨F.at a1 (by omega), ⟨X, L, ?_⟩, a3.fr F (fun _ _ _ z => by omega) (fun z => by omega), a4.fr F (fun z => by omega) (fun z => by omega), fun r hr => ⟨(a5 r hr).1, F.at (a5 r hr).2 (by have := (a5 r hr).1; omega)⟩, ⟨g, F.at a6 (by omega), a7⟩, fun j hj => ?_, a9, b1, b2, b3, b4, b5, b6, by have := F.1; omega⟩, F.mono (fun a _ z => Or.inl (by omega)) (Nat.le_refl _) (Nat.le_refl _)⟩
  · obtain ⟨c1, c2, c3, c4, c5, c6, c7⟩ := a2
    exact ⟨c1, F.at c2 (by omega), c3.fr F (fun z => by omega) (fun z => by omega), c4.fr F (fun z => by omega) (fun z => by omega), c5.fr F (fun z => by omega) (fun z => by omega), fun v hv => ⟨(c6 v hv).1, (c6 v hv).2.1, F.at (c6 v hv).2.2 (by have := a9 v hv; omega)⟩, c7⟩
  · show SH h' (17 + 2 * j) (if j = k then (ln, n, f) else sSh s j).1 (if j = k then (ln, n, f) else sSh s j).2.1 (if j = k then (ln, n, f) else sSh s j).2.2
    by_cases q : j = k
    · rw [if_pos q, q]; exact H'
    · rw [if_neg q]
      exact (a8 j hj).fr F (fun z => by omega) (fun z => by omega)
theorem wp_failed (H : RC h s e em er vs rs) {f : Int32} (hK : ∀ h', RC h' (stF s f) e em er vs rs → FR CP 0 0 h h' → K (some (.int (-10 - f))) h') : wp d 76 0 [some (.ref 2), some (.int f)] [] h K := by
  have hal := h_lt H.1
  simp only [w76_0, w76_0n, w76_1, w76_2, w76_5, w76_7, w76_8, w76_9, xk_n, xk_i, xk_r, xk_z, xk_l, xcs_0, xcs_i, xcs_r, xcs_z, xcs_l, Nat.reduceAdd, Nat.reduceLeDiff, Nat.reduceLT, true_and, and_true, Option.toList_some, Option.toList_none, List.nil_append, List.cons_append, List.getElem?_cons_zero, List.getElem?_cons_succ, List.set_cons_zero, List.set_cons_succ, List.length_cons, List.length_nil, y_bool0, y_bool1, not_true_eq_false, not_false_eq_true, false_implies, true_implies, true_or, or_true, false_or, or_false, if_true, if_false, ite_true, ite_false, y_put, H.1, List.getElem?_set, List.length_set, hal, set_set]
  exact hK _ (H.F f).1 (H.F f).2
theorem wp_sheetAt (H : RC h s e em er vs rs) {k : Nat} (hk : k < 4) : wp d 77 0 [some (.ref 2), some (.int (Int32.ofNat k))] [] h K ↔ K (some (.ref (17 + 2 * k))) h := by
  obtain ⟨a1, a2, a3, a4, a5, ⟨g, a6, a7⟩, a8⟩ := H
  have e1 : (Int32.ofNat k < 0) = False := eq_false (n_lt0 (by omega))
  have e2 : (Int32.ofNat 4 ≤ Int32.ofNat k) = False := eq_false (by rw [n_le (by omega) (by omega)]; omega)
  have e8 : vp_in (Int32.ofNat k) 4 := (n_in (by omega)).mpr (by omega)
  have e9 : (Int32.ofNat k).toNatClampNeg = k := n_cl (by omega)
  simp only [w77_0, w77_1, w77_4, w77_5, w77_5n, w77_6, w77_9, w77_10, w77_13, w77_13n, w77_14, w77_17, w77_18, w77_19, w77_22, w77_23, w77_23n, xk_n, xk_i, xk_r, xk_z, xk_l, xcs_0, xcs_i, xcs_r, xcs_z, xcs_l, Nat.reduceAdd, Nat.reduceLeDiff, Nat.reduceLT, true_and, and_true, Option.toList_some, Option.toList_none, List.nil_append, List.cons_append, List.getElem?_cons_zero, List.getElem?_cons_succ, List.set_cons_zero, List.set_cons_succ, List.length_cons, List.length_nil, y_bool0, y_bool1, not_true_eq_false, not_false_eq_true, false_implies, true_implies, true_or, or_true, false_or, or_false, if_true, if_false, ite_true, ite_false, y_get, a1, y_alen, a6, e1, e2, y_aald, e8, e9, a7 k hk, va_rf, Nat.reduceLT]
theorem wp_sheetNo (H : RC h s e em er vs rs) {c : Int32} (hc : c < 0 ∨ ¬ c < 0 ∧ Int32.ofNat 4 ≤ c) : wp d 77 0 [some (.ref 2), some (.int c)] [] h K ↔ K (some .null) h := by
  obtain ⟨a1, a2, a3, a4, a5, ⟨g, a6, a7⟩, a8⟩ := H
  rcases hc with e1 | ⟨e1, e2⟩
  · simp only [w77_0, w77_1, w77_4, w77_5, w77_5n, w77_6, w77_9, w77_10, w77_13, w77_13n, w77_14, w77_17, w77_18, w77_19, w77_22, w77_23, w77_23n, xk_n, xk_i, xk_r, xk_z, xk_l, xcs_0, xcs_i, xcs_r, xcs_z, xcs_l, Nat.reduceAdd, Nat.reduceLeDiff, Nat.reduceLT, true_and, and_true, Option.toList_some, Option.toList_none, List.nil_append, List.cons_append, List.getElem?_cons_zero, List.getElem?_cons_succ, List.set_cons_zero, List.set_cons_succ, List.length_cons, List.length_nil, y_bool0, y_bool1, not_true_eq_false, not_false_eq_true, false_implies, true_implies, true_or, or_true, false_or, or_false, if_true, if_false, ite_true, ite_false, y_get, a1, y_alen, a6, e1]
  · simp only [w77_0, w77_1, w77_4, w77_5, w77_5n, w77_6, w77_9, w77_10, w77_13, w77_13n, w77_14, w77_17, w77_18, w77_19, w77_22, w77_23, w77_23n, xk_n, xk_i, xk_r, xk_z, xk_l, xcs_0, xcs_i, xcs_r, xcs_z, xcs_l, Nat.reduceAdd, Nat.reduceLeDiff, Nat.reduceLT, true_and, and_true, Option.toList_some, Option.toList_none, List.nil_append, List.cons_append, List.getElem?_cons_zero, List.getElem?_cons_succ, List.set_cons_zero, List.set_cons_succ, List.length_cons, List.length_nil, y_bool0, y_bool1, not_true_eq_false, not_false_eq_true, false_implies, true_implies, true_or, or_true, false_or, or_false, if_true, if_false, ite_true, ite_false, y_get, a1, y_alen, a6, e1, e2, Nat.reduceLT]
end
section
variable {d : Nat} {h : xH} {K : Option Value → xH → Prop} {s : St}
theorem cop_sheet (H : RX h s) (k l n : Int32) (hK : ∀ h', RX h' (opSheet s k l n).2 → FR CP 0 0 h h' → K (some (.int (opSheet s k l n).1)) h') : wp (d + 2) 63 0 [some (.ref 2), some (.int k), some (.int l), some (.int n), none] [] h K := by
  obtain ⟨hO, e, em, er, vs, rs, H⟩ := H
  obtain ⟨H1, F1⟩ := H.F 0
  have z10 : ((1 : Int32) = 0) = False := eq_false (by decide)
  simp only [w63_0, w63_0n, w63_1, w63_2, w63_5, w63_5n, w63_6, w63_7, w63_10, w63_10n, w63_12, w63_12n, w63_14, w63_14n, w63_17, w63_18, w63_19, w63_20, w63_21, w63_24, w63_27, w63_28, w63_30, w63_33, w63_35, w63_36, w63_37, w63_40, w63_40n, w63_41, w63_42, w63_45, w63_46, w63_46n, w63_48, w63_49, w63_50, w63_53, w63_54, xk_n, xk_i, xk_r, xk_z, xk_l, xcs_0, xcs_i, xcs_r, xcs_z, xcs_l, Nat.reduceAdd, Nat.reduceLeDiff, Nat.reduceLT, true_and, and_true, Option.toList_some, Option.toList_none, List.nil_append, List.cons_append, List.getElem?_cons_zero, List.getElem?_cons_succ, List.set_cons_zero, List.set_cons_succ, List.length_cons, List.length_nil, y_bool0, y_bool1, not_true_eq_false, not_false_eq_true, false_implies, true_implies, true_or, or_true, false_or, or_false, if_true, if_false, ite_true, ite_false, y_put, H.1]
  generalize h.set 2 (.inr (7, [.ref 3, .ref 9, .ref 15, .ref 16, .int (sTr s), .int 0])) = h1 at H1 F1
  rcases nb_cas k (m := 4) (by omega) with ⟨a, ha, rfl, hn⟩ | ⟨hc, hn⟩
  · rcases nb_cas l (m := 3) (by omega) with ⟨b, hb, rfl, hn2⟩ | ⟨hc2, hn2⟩
    · have e1 : opSheet s (Int32.ofNat a) (Int32.ofNat b) n = if 50 < n then (-2, stF s 0) else if n < 0 then (-10 - 4, stF s 4) else (1, stH (stF s 0) a (some b, n.toNatClampNeg, fun _ => 0)) := by unfold opSheet; rw [hn]; dsimp only; rw [hn2]
      rw [e1] at hK
      have hS := H1.sh ha
      simp only [w63_0, w63_0n, w63_1, w63_2, w63_5, w63_5n, w63_6, w63_7, w63_10, w63_10n, w63_12, w63_12n, w63_14, w63_14n, w63_17, w63_18, w63_19, w63_20, w63_21, w63_24, w63_27, w63_28, w63_30, w63_33, w63_35, w63_36, w63_37, w63_40, w63_40n, w63_41, w63_42, w63_45, w63_46, w63_46n, w63_48, w63_49, w63_50, w63_53, w63_54, xk_n, xk_i, xk_r, xk_z, xk_l, xcs_0, xcs_i, xcs_r, xcs_z, xcs_l, Nat.reduceAdd, Nat.reduceLeDiff, Nat.reduceLT, true_and, and_true, Option.toList_some, Option.toList_none, List.nil_append, List.cons_append, List.getElem?_cons_zero, List.getElem?_cons_succ, List.set_cons_zero, List.set_cons_succ, List.length_cons, List.length_nil, y_bool0, y_bool1, not_true_eq_false, not_false_eq_true, false_implies, true_implies, true_or, or_true, false_or, or_false, if_true, if_false, ite_true, ite_false, H1.cls, wp_sheetAt H1 ha, wp_below_t (m := 3) (by omega) hb, z10]
      have nle : (n ≤ 50) = ¬ (50 < n) := by rw [Int32.not_lt]
      have nle2 : (0 ≤ n) = ¬ (n < 0) := by rw [Int32.not_lt]
      simp only [nle, nle2]
      by_cases q : 50 < n
      · rw [if_pos q] at hK
        refine ⟨fun z => absurd q z, fun _ => ?_⟩
        exact hK h1 ⟨hO, e, em, er, vs, rs, H1⟩ F1
      · rw [if_neg q] at hK
        refine ⟨fun _ => ?_, fun z => absurd q z⟩
        by_cases q2 : n < 0
        · rw [if_pos q2] at hK
          refine ⟨fun z => absurd q2 z, fun _ => ?_⟩
          refine wp_failed H1 fun h' H' F' => ?_
          simp only [w63_0, w63_0n, w63_1, w63_2, w63_5, w63_5n, w63_6, w63_7, w63_10, w63_10n, w63_12, w63_12n, w63_14, w63_14n, w63_17, w63_18, w63_19, w63_20, w63_21, w63_24, w63_27, w63_28, w63_30, w63_33, w63_35, w63_36, w63_37, w63_40, w63_40n, w63_41, w63_42, w63_45, w63_46, w63_46n, w63_48, w63_49, w63_50, w63_53, w63_54, xk_n, xk_i, xk_r, xk_z, xk_l, xcs_0, xcs_i, xcs_r, xcs_z, xcs_l, Nat.reduceAdd, Nat.reduceLeDiff, Nat.reduceLT, true_and, and_true, Option.toList_some, Option.toList_none, List.nil_append, List.cons_append, List.getElem?_cons_zero, List.getElem?_cons_succ, List.set_cons_zero, List.set_cons_succ, List.length_cons, List.length_nil, y_bool0, y_bool1, not_true_eq_false, not_false_eq_true, false_implies, true_implies, true_or, or_true, false_or, or_false, if_true, if_false, ite_true, ite_false]
          exact hK h' ⟨hO, e, em, er, vs, rs, H'⟩ (F1.tr F')
        · rw [if_neg q2] at hK
          refine ⟨fun _ => ?_, fun z => absurd q2 z⟩
          obtain ⟨m, hm, rfl⟩ := n_of q2
          have m50 : m ≤ 50 := by
            have := n_llt (a := m) (m := 50) hm (by omega)
            rw [this] at q; omega
          rw [n_cl hm] at hK
          simp only [hS.cls, xk_n, xk_i, xk_r, xk_z, xk_l, xcs_0, xcs_i, xcs_r, xcs_z, xcs_l, Nat.reduceAdd, Nat.reduceLeDiff, Nat.reduceLT, true_and, and_true, Option.toList_some, Option.toList_none, List.nil_append, List.cons_append, List.getElem?_cons_zero, List.getElem?_cons_succ, List.set_cons_zero, List.set_cons_succ, List.length_cons, List.length_nil, y_bool0, y_bool1, not_true_eq_false, not_false_eq_true, false_implies, true_implies, true_or, or_true, false_or, or_false, if_true, if_false, ite_true, ite_false]
          refine wp_renew hS hb m50 fun h' H' F' => ?_
          simp only [w63_0, w63_0n, w63_1, w63_2, w63_5, w63_5n, w63_6, w63_7, w63_10, w63_10n, w63_12, w63_12n, w63_14, w63_14n, w63_17, w63_18, w63_19, w63_20, w63_21, w63_24, w63_27, w63_28, w63_30, w63_33, w63_35, w63_36, w63_37, w63_40, w63_40n, w63_41, w63_42, w63_45, w63_46, w63_46n, w63_48, w63_49, w63_50, w63_53, w63_54, xk_n, xk_i, xk_r, xk_z, xk_l, xcs_0, xcs_i, xcs_r, xcs_z, xcs_l, Nat.reduceAdd, Nat.reduceLeDiff, Nat.reduceLT, true_and, and_true, Option.toList_some, Option.toList_none, List.nil_append, List.cons_append, List.getElem?_cons_zero, List.getElem?_cons_succ, List.set_cons_zero, List.set_cons_succ, List.length_cons, List.length_nil, y_bool0, y_bool1, not_true_eq_false, not_false_eq_true, false_implies, true_implies, true_or, or_true, false_or, or_false, if_true, if_false, ite_true, ite_false]
          have := H1.H ha H' F'
          exact hK h' ⟨hO, e, em, er, vs, rs, this.1⟩ (F1.tr this.2)
    · have e1 : opSheet s (Int32.ofNat a) l n = (-2, stF s 0) := by unfold opSheet; rw [hn]; dsimp only; rw [hn2]
      rw [e1] at hK
      simp only [w63_0, w63_0n, w63_1, w63_2, w63_5, w63_5n, w63_6, w63_7, w63_10, w63_10n, w63_12, w63_12n, w63_14, w63_14n, w63_17, w63_18, w63_19, w63_20, w63_21, w63_24, w63_27, w63_28, w63_30, w63_33, w63_35, w63_36, w63_37, w63_40, w63_40n, w63_41, w63_42, w63_45, w63_46, w63_46n, w63_48, w63_49, w63_50, w63_53, w63_54, xk_n, xk_i, xk_r, xk_z, xk_l, xcs_0, xcs_i, xcs_r, xcs_z, xcs_l, Nat.reduceAdd, Nat.reduceLeDiff, Nat.reduceLT, true_and, and_true, Option.toList_some, Option.toList_none, List.nil_append, List.cons_append, List.getElem?_cons_zero, List.getElem?_cons_succ, List.set_cons_zero, List.set_cons_succ, List.length_cons, List.length_nil, y_bool0, y_bool1, not_true_eq_false, not_false_eq_true, false_implies, true_implies, true_or, or_true, false_or, or_false, if_true, if_false, ite_true, ite_false, H1.cls, wp_sheetAt H1 ha, wp_below_f (m := 3) hc2, z10]
      exact hK h1 ⟨hO, e, em, er, vs, rs, H1⟩ F1
  · have e1 : opSheet s k l n = (-1, stF s 0) := by unfold opSheet; rw [hn]
    rw [e1] at hK
    simp only [w63_0, w63_0n, w63_1, w63_2, w63_5, w63_5n, w63_6, w63_7, w63_10, w63_10n, w63_12, w63_12n, w63_14, w63_14n, w63_17, w63_18, w63_19, w63_20, w63_21, w63_24, w63_27, w63_28, w63_30, w63_33, w63_35, w63_36, w63_37, w63_40, w63_40n, w63_41, w63_42, w63_45, w63_46, w63_46n, w63_48, w63_49, w63_50, w63_53, w63_54, xk_n, xk_i, xk_r, xk_z, xk_l, xcs_0, xcs_i, xcs_r, xcs_z, xcs_l, Nat.reduceAdd, Nat.reduceLeDiff, Nat.reduceLT, true_and, and_true, Option.toList_some, Option.toList_none, List.nil_append, List.cons_append, List.getElem?_cons_zero, List.getElem?_cons_succ, List.set_cons_zero, List.set_cons_succ, List.length_cons, List.length_nil, y_bool0, y_bool1, not_true_eq_false, not_false_eq_true, false_implies, true_implies, true_or, or_true, false_or, or_false, if_true, if_false, ite_true, ite_false, H1.cls, wp_sheetNo H1 hc]
    exact hK h1 ⟨hO, e, em, er, vs, rs, H1⟩ F1
theorem plc_f {c : Int32} {n : Nat} (hc : c < 0 ∨ ¬ c < 0 ∧ Int32.ofNat n ≤ c) : decide (0 ≤ c ∧ c < Int32.ofNat n) = false := by
  apply decide_eq_false
  rintro ⟨z1, z2⟩
  rcases hc with e | ⟨e1, e2⟩
  · exact Int32.not_lt.mpr z1 e
  · exact Int32.not_lt.mpr e2 z2
theorem cop_put (H : RX h s) (k i v : Int32) (hK : ∀ h', RX h' (opPut s k i v).2 → FR CP 0 0 h h' → K (some (.int (opPut s k i v).1)) h') : wp (d + 2) 65 0 [some (.ref 2), some (.int k), some (.int i), some (.int v), none] [] h K := by
  obtain ⟨hO, e, em, er, vs, rs, H⟩ := H
  obtain ⟨H1, F1⟩ := H.F 0
  have z10 : ((1 : Int32) = 0) = False := eq_false (by decide)
  simp only [w65_0, w65_0n, w65_1, w65_2, w65_5, w65_5n, w65_6, w65_7, w65_10, w65_10n, w65_12, w65_12n, w65_14, w65_14n, w65_17, w65_18, w65_19, w65_19n, w65_21, w65_24, w65_27, w65_27n, w65_28, w65_29, w65_32, w65_33, w65_33n, w65_35, w65_36, w65_39, w65_42, w65_42n, w65_43, w65_44, w65_47, w65_48, w65_48n, w65_50, w65_51, w65_52, w65_55, w65_56, xk_n, xk_i, xk_r, xk_z, xk_l, xcs_0, xcs_i, xcs_r, xcs_z, xcs_l, Nat.reduceAdd, Nat.reduceLeDiff, Nat.reduceLT, true_and, and_true, Option.toList_some, Option.toList_none, List.nil_append, List.cons_append, List.getElem?_cons_zero, List.getElem?_cons_succ, List.set_cons_zero, List.set_cons_succ, List.length_cons, List.length_nil, y_bool0, y_bool1, not_true_eq_false, not_false_eq_true, false_implies, true_implies, true_or, or_true, false_or, or_false, if_true, if_false, ite_true, ite_false, y_put, H.1]
  generalize h.set 2 (.inr (7, [.ref 3, .ref 9, .ref 15, .ref 16, .int (sTr s), .int 0])) = h1 at H1 F1
  rcases nb_cas k (m := 4) (by omega) with ⟨a, ha, rfl, hn⟩ | ⟨hc, hn⟩
  · have hS : SH h1 (17 + 2 * a) (sSh s a).1 (sSh s a).2.1 (sSh s a).2.2 := H1.sh ha
    have e1 : opPut s (Int32.ofNat a) i v = if (sSh s a).1.isNone then ((-10 - 1 : Int32), stF s 1) else match nb i (sSh s a).2.1 with
      | none => (-10 - 3, stF s 3)
      | some i => (1, stH (stF s 0) a ((sSh s a).1, (sSh s a).2.1, upd (sSh s a).2.2 i (cvt (sSh s a).1 v))) := by unfold opPut; rw [hn]
    rw [e1] at hK
    simp only [w65_0, w65_0n, w65_1, w65_2, w65_5, w65_5n, w65_6, w65_7, w65_10, w65_10n, w65_12, w65_12n, w65_14, w65_14n, w65_17, w65_18, w65_19, w65_19n, w65_21, w65_24, w65_27, w65_27n, w65_28, w65_29, w65_32, w65_33, w65_33n, w65_35, w65_36, w65_39, w65_42, w65_42n, w65_43, w65_44, w65_47, w65_48, w65_48n, w65_50, w65_51, w65_52, w65_55, w65_56, xk_n, xk_i, xk_r, xk_z, xk_l, xcs_0, xcs_i, xcs_r, xcs_z, xcs_l, Nat.reduceAdd, Nat.reduceLeDiff, Nat.reduceLT, true_and, and_true, Option.toList_some, Option.toList_none, List.nil_append, List.cons_append, List.getElem?_cons_zero, List.getElem?_cons_succ, List.set_cons_zero, List.set_cons_succ, List.length_cons, List.length_nil, y_bool0, y_bool1, not_true_eq_false, not_false_eq_true, false_implies, true_implies, true_or, or_true, false_or, or_false, if_true, if_false, ite_true, ite_false, H1.cls, wp_sheetAt H1 ha, hS.cls, wp_isNothing hS]
    cases q : (sSh s a).1.isNone
    · rw [q] at hK
      rcases nb_cas i (m := (sSh s a).2.1) (by have := hS.2.2.2.1; omega) with ⟨b, hb, rfl, hn2⟩ | ⟨hc2, hn2⟩
      · rw [hn2] at hK
        simp only [w65_0, w65_0n, w65_1, w65_2, w65_5, w65_5n, w65_6, w65_7, w65_10, w65_10n, w65_12, w65_12n, w65_14, w65_14n, w65_17, w65_18, w65_19, w65_19n, w65_21, w65_24, w65_27, w65_27n, w65_28, w65_29, w65_32, w65_33, w65_33n, w65_35, w65_36, w65_39, w65_42, w65_42n, w65_43, w65_44, w65_47, w65_48, w65_48n, w65_50, w65_51, w65_52, w65_55, w65_56, xk_n, xk_i, xk_r, xk_z, xk_l, xcs_0, xcs_i, xcs_r, xcs_z, xcs_l, Nat.reduceAdd, Nat.reduceLeDiff, Nat.reduceLT, true_and, and_true, Option.toList_some, Option.toList_none, List.nil_append, List.cons_append, List.getElem?_cons_zero, List.getElem?_cons_succ, List.set_cons_zero, List.set_cons_succ, List.length_cons, List.length_nil, y_bool0, y_bool1, not_true_eq_false, not_false_eq_true, false_implies, true_implies, true_or, or_true, false_or, or_false, if_true, if_false, ite_true, ite_false, bi_f, bi_t, z10, hS.cls, wp_hasPlace hS, plc hb hS.2.2.2.1]
        refine wp_write hS hb fun h' H' F' => ?_
        simp only [w65_0, w65_0n, w65_1, w65_2, w65_5, w65_5n, w65_6, w65_7, w65_10, w65_10n, w65_12, w65_12n, w65_14, w65_14n, w65_17, w65_18, w65_19, w65_19n, w65_21, w65_24, w65_27, w65_27n, w65_28, w65_29, w65_32, w65_33, w65_33n, w65_35, w65_36, w65_39, w65_42, w65_42n, w65_43, w65_44, w65_47, w65_48, w65_48n, w65_50, w65_51, w65_52, w65_55, w65_56, xk_n, xk_i, xk_r, xk_z, xk_l, xcs_0, xcs_i, xcs_r, xcs_z, xcs_l, Nat.reduceAdd, Nat.reduceLeDiff, Nat.reduceLT, true_and, and_true, Option.toList_some, Option.toList_none, List.nil_append, List.cons_append, List.getElem?_cons_zero, List.getElem?_cons_succ, List.set_cons_zero, List.set_cons_succ, List.length_cons, List.length_nil, y_bool0, y_bool1, not_true_eq_false, not_false_eq_true, false_implies, true_implies, true_or, or_true, false_or, or_false, if_true, if_false, ite_true, ite_false]
        have := H1.H ha H' (F'.mono (fun _ _ z => Or.inr z) (Nat.le_refl _) (Nat.le_refl _))
        exact hK h' ⟨hO, e, em, er, vs, rs, this.1⟩ (F1.tr this.2)
      · rw [hn2] at hK
        simp only [w65_0, w65_0n, w65_1, w65_2, w65_5, w65_5n, w65_6, w65_7, w65_10, w65_10n, w65_12, w65_12n, w65_14, w65_14n, w65_17, w65_18, w65_19, w65_19n, w65_21, w65_24, w65_27, w65_27n, w65_28, w65_29, w65_32, w65_33, w65_33n, w65_35, w65_36, w65_39, w65_42, w65_42n, w65_43, w65_44, w65_47, w65_48, w65_48n, w65_50, w65_51, w65_52, w65_55, w65_56, xk_n, xk_i, xk_r, xk_z, xk_l, xcs_0, xcs_i, xcs_r, xcs_z, xcs_l, Nat.reduceAdd, Nat.reduceLeDiff, Nat.reduceLT, true_and, and_true, Option.toList_some, Option.toList_none, List.nil_append, List.cons_append, List.getElem?_cons_zero, List.getElem?_cons_succ, List.set_cons_zero, List.set_cons_succ, List.length_cons, List.length_nil, y_bool0, y_bool1, not_true_eq_false, not_false_eq_true, false_implies, true_implies, true_or, or_true, false_or, or_false, if_true, if_false, ite_true, ite_false, bi_f, bi_t, z10, hS.cls, wp_hasPlace hS, plc_f hc2, H1.cls]
        refine wp_failed H1 fun h' H' F' => ?_
        simp only [w65_0, w65_0n, w65_1, w65_2, w65_5, w65_5n, w65_6, w65_7, w65_10, w65_10n, w65_12, w65_12n, w65_14, w65_14n, w65_17, w65_18, w65_19, w65_19n, w65_21, w65_24, w65_27, w65_27n, w65_28, w65_29, w65_32, w65_33, w65_33n, w65_35, w65_36, w65_39, w65_42, w65_42n, w65_43, w65_44, w65_47, w65_48, w65_48n, w65_50, w65_51, w65_52, w65_55, w65_56, xk_n, xk_i, xk_r, xk_z, xk_l, xcs_0, xcs_i, xcs_r, xcs_z, xcs_l, Nat.reduceAdd, Nat.reduceLeDiff, Nat.reduceLT, true_and, and_true, Option.toList_some, Option.toList_none, List.nil_append, List.cons_append, List.getElem?_cons_zero, List.getElem?_cons_succ, List.set_cons_zero, List.set_cons_succ, List.length_cons, List.length_nil, y_bool0, y_bool1, not_true_eq_false, not_false_eq_true, false_implies, true_implies, true_or, or_true, false_or, or_false, if_true, if_false, ite_true, ite_false]
        exact hK h' ⟨hO, e, em, er, vs, rs, H'⟩ (F1.tr F')
    · rw [q] at hK
      simp only [w65_0, w65_0n, w65_1, w65_2, w65_5, w65_5n, w65_6, w65_7, w65_10, w65_10n, w65_12, w65_12n, w65_14, w65_14n, w65_17, w65_18, w65_19, w65_19n, w65_21, w65_24, w65_27, w65_27n, w65_28, w65_29, w65_32, w65_33, w65_33n, w65_35, w65_36, w65_39, w65_42, w65_42n, w65_43, w65_44, w65_47, w65_48, w65_48n, w65_50, w65_51, w65_52, w65_55, w65_56, xk_n, xk_i, xk_r, xk_z, xk_l, xcs_0, xcs_i, xcs_r, xcs_z, xcs_l, Nat.reduceAdd, Nat.reduceLeDiff, Nat.reduceLT, true_and, and_true, Option.toList_some, Option.toList_none, List.nil_append, List.cons_append, List.getElem?_cons_zero, List.getElem?_cons_succ, List.set_cons_zero, List.set_cons_succ, List.length_cons, List.length_nil, y_bool0, y_bool1, not_true_eq_false, not_false_eq_true, false_implies, true_implies, true_or, or_true, false_or, or_false, if_true, if_false, ite_true, ite_false, bi_t, z10, H1.cls]
      refine wp_failed H1 fun h' H' F' => ?_
      simp only [w65_0, w65_0n, w65_1, w65_2, w65_5, w65_5n, w65_6, w65_7, w65_10, w65_10n, w65_12, w65_12n, w65_14, w65_14n, w65_17, w65_18, w65_19, w65_19n, w65_21, w65_24, w65_27, w65_27n, w65_28, w65_29, w65_32, w65_33, w65_33n, w65_35, w65_36, w65_39, w65_42, w65_42n, w65_43, w65_44, w65_47, w65_48, w65_48n, w65_50, w65_51, w65_52, w65_55, w65_56, xk_n, xk_i, xk_r, xk_z, xk_l, xcs_0, xcs_i, xcs_r, xcs_z, xcs_l, Nat.reduceAdd, Nat.reduceLeDiff, Nat.reduceLT, true_and, and_true, Option.toList_some, Option.toList_none, List.nil_append, List.cons_append, List.getElem?_cons_zero, List.getElem?_cons_succ, List.set_cons_zero, List.set_cons_succ, List.length_cons, List.length_nil, y_bool0, y_bool1, not_true_eq_false, not_false_eq_true, false_implies, true_implies, true_or, or_true, false_or, or_false, if_true, if_false, ite_true, ite_false]
      exact hK h' ⟨hO, e, em, er, vs, rs, H'⟩ (F1.tr F')
  · have e1 : opPut s k i v = (-1, stF s 0) := by unfold opPut; rw [hn]
    rw [e1] at hK
    simp only [w65_0, w65_0n, w65_1, w65_2, w65_5, w65_5n, w65_6, w65_7, w65_10, w65_10n, w65_12, w65_12n, w65_14, w65_14n, w65_17, w65_18, w65_19, w65_19n, w65_21, w65_24, w65_27, w65_27n, w65_28, w65_29, w65_32, w65_33, w65_33n, w65_35, w65_36, w65_39, w65_42, w65_42n, w65_43, w65_44, w65_47, w65_48, w65_48n, w65_50, w65_51, w65_52, w65_55, w65_56, xk_n, xk_i, xk_r, xk_z, xk_l, xcs_0, xcs_i, xcs_r, xcs_z, xcs_l, Nat.reduceAdd, Nat.reduceLeDiff, Nat.reduceLT, true_and, and_true, Option.toList_some, Option.toList_none, List.nil_append, List.cons_append, List.getElem?_cons_zero, List.getElem?_cons_succ, List.set_cons_zero, List.set_cons_succ, List.length_cons, List.length_nil, y_bool0, y_bool1, not_true_eq_false, not_false_eq_true, false_implies, true_implies, true_or, or_true, false_or, or_false, if_true, if_false, ite_true, ite_false, H1.cls, wp_sheetNo H1 hc]
    exact hK h1 ⟨hO, e, em, er, vs, rs, H1⟩ F1
theorem oC_eq {o : Option Nat} {b : Nat} (ho : ∀ x, o = some x → x < 1000) (hb : b < 1000) : (oC o = Int32.ofNat b) = (o = some b) := by
  cases o with
  | none => exact propext ⟨fun z => (n_ne9 (by omega) z.symm).elim, fun z => by cases z⟩
  | some x =>
    have : (oC (some x) = Int32.ofNat b) = (x = b) := propext (n_eq (by have := ho x rfl; omega) (by omega))
    rw [this]; simp
end
