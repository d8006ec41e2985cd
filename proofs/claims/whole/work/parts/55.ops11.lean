/-! ===== the program's calls: fits ===== -/
/-- all readings of a vine are so -/
def asB (E : Gd) (fr : Nat → Bool) (n : Nat) (rd : Nat → Nat × Nat × Nat) (v : Nat) : Bool := decide (∀ r, r < n → (rd r).1 = v → vt (runM E (mild fr ((rd r).2.1 + 1)) v) = (rd r).2.2)
def ftF (b : Nat → Bool) : Nat → Nat
  | 0 => 0
  | c + 1 => if b c then ftF b c ||| 2 ^ c else ftF b c
theorem ftF_s (b : Nat → Bool) (c : Nat) : ftF b (c + 1) = if b c then ftF b c ||| 2 ^ c else ftF b c := rfl
theorem ftF_lt (b : Nat → Bool) : ∀ c, ftF b c < 2 ^ c
  | 0 => Nat.one_pos
  | c + 1 => by
    rw [ftF_s]
    have := ftF_lt b c
    have h2 : 2 ^ c < 2 ^ (c + 1) := Nat.pow_lt_pow_right (by omega) (by omega)
    split
    · exact Nat.or_lt_two_pow (by omega) h2
    · omega
def fitB (s : St) (v c : Nat) : Bool := asB (edH (edK (sE s) v (c / 4)) v (c % 4)) (sFr s) (sRn s) (sRd s) v
def opFits (s : St) (v : Int32) : Int32 := match nb v (gv (sE s)) with
  | none => -1
  | some v => Int32.ofNat (ftF (fitB s v) 12)
section
variable {d : Nat} {K : Option Value → xH → Prop} {er n v : Nat} {vs rs : Nat → Nat} {rd : Nat → Nat × Nat × Nat}
/-- the readings in the heap -/
def RDs (h : xH) (er n : Nat) (rs : Nat → Nat) (rd : Nat → Nat × Nat × Nat) : Prop := AL h 15 er n rs ∧ n ≤ 8 ∧ ∀ r, r < n → 2 ≤ rs r ∧ h[rs r]? = some (.inr (4, [.int (Int32.ofNat (rd r).1), .int (Int32.ofNat (rd r).2.1), .int (Int32.ofNat (rd r).2.2)])) ∧ (rd r).1 < 3 ∧ (rd r).2.1 < 80 ∧ (rd r).2.2 < 30
theorem wp_ir {t f : Int32} {a b c day tip tv : Nat} {h : xH} {l3 : Option Value} (hR : RDs h er n rs rd) (h2 : h[2]? = some (.inr (7, [.ref a, .ref b, .ref 15, .ref c, .int t, .int f]))) (hv3 : v < 3) (hday : day < 80) (htip : tip < 30) (ht : y_get h tv 6 3 = fun k => k (.int (Int32.ofNat tip))) (hbad : ∀ r, r < n → (rd r).1 = v → (rd r).2.1 = day → tip ≠ (rd r).2.2 → K (some (.int 0)) h) (hgo : (∀ r, r < n → (rd r).1 = v → (rd r).2.1 = day → tip = (rd r).2.2) → ∀ l5 l6, wp (d + 3) 84 113 [some (.ref 2), some (.int (Int32.ofNat v)), some (.ref tv), l3, some (.int (Int32.ofNat day)), l5, l6] [] h K) : ∀ (j r : Nat) (l6 : Option Value), r + j = n → (∀ x, x < r → (rd x).1 = v → (rd x).2.1 = day → tip = (rd x).2.2) → wp (d + 3) 84 48 [some (.ref 2), some (.int (Int32.ofNat v)), some (.ref tv), l3, some (.int (Int32.ofNat day)), some (.int (Int32.ofNat r)), l6] [] h K
  | 0, r, l6, hj, hd => by
    have hn8 := hR.2.1
    have q : Int32.ofNat n ≤ Int32.ofNat r := (n_le (by omega) (by omega)).mpr (by omega)
    rw [w84_48]
    simp only [w84_0, w84_0n, w84_1, w84_4, w84_7, w84_8, w84_9, w84_10, w84_12, w84_14, w84_16, w84_19, w84_19n, w84_20, w84_23, w84_26, w84_28, w84_31, w84_34, w84_34n, w84_35, w84_38, w84_39, w84_42, w84_45, w84_46, w84_50, w84_50n, w84_51, w84_54, w84_57, w84_60, w84_60n, w84_61, w84_64, w84_66, w84_69, w84_69n, w84_72, w84_72n, w84_74, w84_74n, w84_76, w84_79, w84_80, w84_83, w84_83n, w84_85, w84_88, w84_90, w84_93, w84_93n, w84_95, w84_98, w84_98n, w84_99, w84_102, w84_105, w84_106, w84_107, w84_110, w84_116, w84_119, w84_120, xk_n, xk_i, xk_r, xk_z, xk_l, xcs_0, xcs_i, xcs_r, xcs_z, xcs_l, Nat.reduceAdd, Nat.reduceLeDiff, Nat.reduceLT, true_and, and_true, Option.toList_some, Option.toList_none, List.nil_append, List.cons_append, List.getElem?_cons_zero, List.getElem?_cons_succ, List.set_cons_zero, List.set_cons_succ, List.length_cons, List.length_nil, y_bool0, y_bool1, not_true_eq_false, not_false_eq_true, false_implies, true_implies, true_or, or_true, false_or, or_false, if_true, if_false, ite_true, ite_false, y_get, h2, hR.1.cls, wp_size hR.1, q]
    exact hgo (fun x hx => hd x (by omega)) _ _
  | j + 1, r, l6, hj, hd => by
    have hn8 := hR.2.1
    have hrn : r < n := by omega
    obtain ⟨g1, g2, g3, g4, g5⟩ := hR.2.2 r hrn
    have q : (Int32.ofNat n ≤ Int32.ofNat r) = False := eq_false (by rw [n_le (by omega) (by omega)]; omega)
    have z8 : Int32.ofNat r + 1 = Int32.ofNat (r + 1) := n_addl r 1
    have cR : y_cls h (rs r) 4 := by unfold y_cls; rw [g2]; exact ⟨g1, rfl⟩
    have t1 : (Int32.ofNat (rd r).1 = Int32.ofNat v) = ((rd r).1 = v) := propext (n_eq (by omega) (by omega))
    have t2 : (Int32.ofNat (rd r).2.1 = Int32.ofNat day) = ((rd r).2.1 = day) := propext (n_eq (by omega) (by omega))
    have t3 : (Int32.ofNat (rd r).2.2 = Int32.ofNat tip) = ((rd r).2.2 = tip) := propext (n_eq (by omega) (by omega))
    have ih := fun l6 => wp_ir hR h2 hv3 hday htip ht hbad hgo j (r + 1) l6 (by omega)
    have y0 : ∀ x : Value → Prop, y_get h (rs r) 4 0 x = x (.int (Int32.ofNat (rd r).1)) := fun x => by unfold y_get; rw [g2]; simp only [xk_n, xk_i, xk_r, xk_z, xk_l, xcs_0, xcs_i, xcs_r, xcs_z, xcs_l, Nat.reduceAdd, Nat.reduceLeDiff, Nat.reduceLT, true_and, and_true, Option.toList_some, Option.toList_none, List.nil_append, List.cons_append, List.getElem?_cons_zero, List.getElem?_cons_succ, List.set_cons_zero, List.set_cons_succ, List.length_cons, List.length_nil, y_bool0, y_bool1, not_true_eq_false, not_false_eq_true, false_implies, true_implies, true_or, or_true, false_or, or_false, if_true, if_false, ite_true, ite_false]
    have y1 : ∀ x : Value → Prop, y_get h (rs r) 4 1 x = x (.int (Int32.ofNat (rd r).2.1)) := fun x => by unfold y_get; rw [g2]; simp only [xk_n, xk_i, xk_r, xk_z, xk_l, xcs_0, xcs_i, xcs_r, xcs_z, xcs_l, Nat.reduceAdd, Nat.reduceLeDiff, Nat.reduceLT, true_and, and_true, Option.toList_some, Option.toList_none, List.nil_append, List.cons_append, List.getElem?_cons_zero, List.getElem?_cons_succ, List.set_cons_zero, List.set_cons_succ, List.length_cons, List.length_nil, y_bool0, y_bool1, not_true_eq_false, not_false_eq_true, false_implies, true_implies, true_or, or_true, false_or, or_false, if_true, if_false, ite_true, ite_false]
    have y2 : ∀ x : Value → Prop, y_get h (rs r) 4 2 x = x (.int (Int32.ofNat (rd r).2.2)) := fun x => by unfold y_get; rw [g2]; simp only [xk_n, xk_i, xk_r, xk_z, xk_l, xcs_0, xcs_i, xcs_r, xcs_z, xcs_l, Nat.reduceAdd, Nat.reduceLeDiff, Nat.reduceLT, true_and, and_true, Option.toList_some, Option.toList_none, List.nil_append, List.cons_append, List.getElem?_cons_zero, List.getElem?_cons_succ, List.set_cons_zero, List.set_cons_succ, List.length_cons, List.length_nil, y_bool0, y_bool1, not_true_eq_false, not_false_eq_true, false_implies, true_implies, true_or, or_true, false_or, or_false, if_true, if_false, ite_true, ite_false]
    have y7 : ∀ x : Value → Prop, y_get h 2 7 2 x = x (.ref 15) := fun x => by unfold y_get; rw [h2]; simp only [xk_n, xk_i, xk_r, xk_z, xk_l, xcs_0, xcs_i, xcs_r, xcs_z, xcs_l, Nat.reduceAdd, Nat.reduceLeDiff, Nat.reduceLT, true_and, and_true, Option.toList_some, Option.toList_none, List.nil_append, List.cons_append, List.getElem?_cons_zero, List.getElem?_cons_succ, List.set_cons_zero, List.set_cons_succ, List.length_cons, List.length_nil, y_bool0, y_bool1, not_true_eq_false, not_false_eq_true, false_implies, true_implies, true_or, or_true, false_or, or_false, if_true, if_false, ite_true, ite_false]
    rw [w84_48]
    simp only [w84_0, w84_0n, w84_1, w84_4, w84_7, w84_8, w84_9, w84_10, w84_12, w84_14, w84_16, w84_19, w84_19n, w84_20, w84_23, w84_26, w84_28, w84_31, w84_34, w84_34n, w84_35, w84_38, w84_39, w84_42, w84_45, w84_46, w84_50, w84_50n, w84_51, w84_54, w84_57, w84_60, w84_60n, w84_61, w84_64, w84_66, w84_69, w84_69n, w84_72, w84_72n, w84_74, w84_74n, w84_76, w84_79, w84_80, w84_83, w84_83n, w84_85, w84_88, w84_90, w84_93, w84_93n, w84_95, w84_98, w84_98n, w84_99, w84_102, w84_105, w84_106, w84_107, w84_110, w84_116, w84_119, w84_120, xk_n, xk_i, xk_r, xk_z, xk_l, xcs_0, xcs_i, xcs_r, xcs_z, xcs_l, Nat.reduceAdd, Nat.reduceLeDiff, Nat.reduceLT, true_and, and_true, Option.toList_some, Option.toList_none, List.nil_append, List.cons_append, List.getElem?_cons_zero, List.getElem?_cons_succ, List.set_cons_zero, List.set_cons_succ, List.length_cons, List.length_nil, y_bool0, y_bool1, not_true_eq_false, not_false_eq_true, false_implies, true_implies, true_or, or_true, false_or, or_false, if_true, if_false, ite_true, ite_false, y7, hR.1.cls, wp_size hR.1, q, wp_get hR.1 hrn, cR, y0, y1, y2, ht, t1, t2, t3, z8]
    by_cases c1 : (rd r).1 = v
    · refine ⟨fun z => absurd c1 z, fun _ => ?_⟩
      by_cases c2 : (rd r).2.1 = day
      · refine ⟨fun z => absurd c2 z, fun _ => ?_⟩
        by_cases c3 : (rd r).2.2 = tip
        · refine ⟨fun _ => ih _ (fun x hx => ?_), fun z => absurd c3 z⟩
          by_cases z : x = r
          · subst z; intro _ _; exact c3.symm
          · exact hd x (by omega)
        · exact ⟨fun z => absurd z c3, fun _ => hbad r hrn c1 c2 (fun z => c3 z.symm)⟩
      · refine ⟨fun _ => ih _ (fun x hx => ?_), fun z => absurd z c2⟩
        by_cases z : x = r
        · subst z; intro _ z2; exact absurd z2 c2
        · exact hd x (by omega)
    · refine ⟨fun _ => ih _ (fun x hx => ?_), fun z => absurd z c1⟩
      by_cases z : x = r
      · subst z; intro z2; exact absurd z2 c1
      · exact hd x (by omega)
end
section
variable {d : Nat} {K : Option Value → xH → Prop} {e er n v : Nat} {E : Gd} {fr : Nat → Bool} {vs rs : Nat → Nat} {rd : Nat → Nat × Nat × Nat} {h0 : xH}
theorem RDs.frm {h h' : xH} (H : RDs h er n rs rd) {vs : Nat → Nat} {nv k m : Nat} (F : FR (GP 3 nv vs) k m h h') (hv : ∀ u, u < nv → vs u ≠ 15 ∧ vs u ≠ er ∧ ∀ r, r < n → vs u ≠ rs r) (he : er ≠ 3) (hr : ∀ r, r < n → rs r ≠ 3) : RDs h' er n rs rd := by
  refine ⟨H.1.fr F ?_ ?_, H.2.1, fun r hr' => ⟨(H.2.2 r hr').1, F.at (H.2.2 r hr').2.1 ?_, (H.2.2 r hr').2.2⟩⟩
  · rintro (z | ⟨u, u1, u2⟩)
    · omega
    · exact (hv u u1).1 u2.symm
  · rintro (z | ⟨u, u1, u2⟩)
    · exact he z
    · exact (hv u u1).2.1 u2.symm
  · rintro (z | ⟨u, u1, u2⟩)
    · exact hr r hr' z
    · exact (hv u u1).2.2 r hr' u2.symm
theorem wp_id {t f : Int32} {b c : Nat} (hE : okE E) (hv : v < gv E) (hvs : ∀ u, u < gv E → vs u ≠ 2) (hRD : ∀ h, FR (GP 3 (gv E) vs) 0 0 h0 h → RDs h er n rs rd) (h2 : h0[2]? = some (.inr (7, [.ref 3, .ref b, .ref 15, .ref c, .int t, .int f]))) (hK : ∀ h', BX h' 3 e E fr vs → FR (GP 3 (gv E) vs) 0 0 h0 h' → K (some (.int (bi (asB E fr n rd v)))) h') : ∀ (j day : Nat) (h : xH) (l5 l6 : Option Value), day + j = 80 → FR (GP 3 (gv E) vs) 0 0 h0 h → BG h 3 e E fr vs (runM E (mild fr day)) → (∀ r, r < n → (rd r).1 = v → (rd r).2.1 < day → vt (runM E (mild fr ((rd r).2.1 + 1)) v) = (rd r).2.2) → wp (d + 4) 84 12 [some (.ref 2), some (.int (Int32.ofNat v)), some (.ref (vs v)), some (.int (Int32.ofNat (mild fr day))), some (.int (Int32.ofNat day)), l5, l6] [] h K
  | 0, day, h, l5, l6, hj, F, H, hd => by
    have hday : day = 80 := by omega
    subst hday
    have q : (80 : Int32) ≤ Int32.ofNat 80 := by decide
    rw [w84_12]
    simp only [w84_0, w84_0n, w84_1, w84_4, w84_7, w84_8, w84_9, w84_10, w84_14, w84_16, w84_19, w84_19n, w84_20, w84_23, w84_26, w84_28, w84_31, w84_34, w84_34n, w84_35, w84_38, w84_39, w84_42, w84_45, w84_46, w84_48, w84_50, w84_50n, w84_51, w84_54, w84_57, w84_60, w84_60n, w84_61, w84_64, w84_66, w84_69, w84_69n, w84_72, w84_72n, w84_74, w84_74n, w84_76, w84_79, w84_80, w84_83, w84_83n, w84_85, w84_88, w84_90, w84_93, w84_93n, w84_95, w84_98, w84_98n, w84_99, w84_102, w84_105, w84_106, w84_107, w84_110, w84_113, w84_116, w84_119, w84_120, xk_n, xk_i, xk_r, xk_z, xk_l, xcs_0, xcs_i, xcs_r, xcs_z, xcs_l, Nat.reduceAdd, Nat.reduceLeDiff, Nat.reduceLT, true_and, and_true, Option.toList_some, Option.toList_none, List.nil_append, List.cons_append, List.getElem?_cons_zero, List.getElem?_cons_succ, List.set_cons_zero, List.set_cons_succ, List.length_cons, List.length_nil, y_bool0, y_bool1, not_true_eq_false, not_false_eq_true, false_implies, true_implies, true_or, or_true, false_or, or_false, if_true, if_false, ite_true, ite_false, q]
    have : asB E fr n rd v = true := decide_eq_true fun r hr hrv => hd r hr hrv ((hRD h F).2.2 r hr).2.2.2.1
    have fin := hK h H.x F
    rw [this] at fin
    exact fin
  | j + 1, day, h, l5, l6, hj, F, H, hd => by
    have hv3 := hE.2.1
    have hday : day < 80 := by omega
    have q : ((80 : Int32) ≤ Int32.ofNat day) = False := eq_false (by have := n_lle (m := 80) (a := day) (by omega) (by omega); rw [this]; omega)
    have z8 : Int32.ofNat day + 1 = Int32.ofNat (day + 1) := n_addl day 1
    have z9 : Int32.ofNat (mild fr day) + 1 = Int32.ofNat (mild fr day + 1) := n_addl _ 1
    have z0 : (0 : Int32) = Int32.ofNat 0 := rfl
    have z10 : ((1 : Int32) = 0) = False := eq_false (by decide)
    have hmk := mild_k fr day
    have n2 : ¬ GP 3 (gv E) vs 2 := by rintro (z | ⟨u, u1, u2⟩); omega; exact hvs u u1 u2.symm
    have h22 := F.at h2 n2
    -- the day's end, the vines as they are then
    have rest : ∀ (h1 : xH) (l5 l6 : Option Value), FR (GP 3 (gv E) vs) 0 0 h0 h1 → BG h1 3 e E fr vs (runM E (mild fr (day + 1))) → wp (d + 4) 84 45 [some (.ref 2), some (.int (Int32.ofNat v)), some (.ref (vs v)), some (.int (Int32.ofNat (mild fr (day + 1)))), some (.int (Int32.ofNat day)), l5, l6] [] h1 K := by
      intro h1 l5 l6 F1 H1
      have h12 := F1.at h2 n2
      have hO := runM_ok hE (mild fr (day + 1)) (by have := mild_k fr (day + 1); omega) v hv
      have htn := hO.tip
      have hn30 := hE.1.2.2.1
      have hat := H1.at hv
      simp only [w84_0, w84_0n, w84_1, w84_4, w84_7, w84_8, w84_9, w84_10, w84_14, w84_16, w84_19, w84_19n, w84_20, w84_23, w84_26, w84_28, w84_31, w84_34, w84_34n, w84_35, w84_38, w84_39, w84_42, w84_45, w84_46, w84_50, w84_50n, w84_51, w84_54, w84_57, w84_60, w84_60n, w84_61, w84_64, w84_66, w84_69, w84_69n, w84_72, w84_72n, w84_74, w84_74n, w84_76, w84_79, w84_80, w84_83, w84_83n, w84_85, w84_88, w84_90, w84_93, w84_93n, w84_95, w84_98, w84_98n, w84_99, w84_102, w84_105, w84_106, w84_107, w84_110, w84_113, w84_116, w84_119, w84_120, xk_n, xk_i, xk_r, xk_z, xk_l, xcs_0, xcs_i, xcs_r, xcs_z, xcs_l, Nat.reduceAdd, Nat.reduceLeDiff, Nat.reduceLT, true_and, and_true, Option.toList_some, Option.toList_none, List.nil_append, List.cons_append, List.getElem?_cons_zero, List.getElem?_cons_succ, List.set_cons_zero, List.set_cons_succ, List.length_cons, List.length_nil, y_bool0, y_bool1, not_true_eq_false, not_false_eq_true, false_implies, true_implies, true_or, or_true, false_or, or_false, if_true, if_false, ite_true, ite_false]
      rw [z0]
      refine wp_ir (d := d + 1) (tip := vt (runM E (mild fr (day + 1)) v)) (hRD h1 F1) h12 (by omega) hday (by omega) ?_ (fun r hr c1 c2 c3 => ?_) (fun hgo l5 l6 => ?_) n 0 l6 (by omega) (fun x hx => by omega)
      · funext k
        simp only [y_get, hat, vsX, xk_n, xk_i, xk_r, xk_z, xk_l, xcs_0, xcs_i, xcs_r, xcs_z, xcs_l, Nat.reduceAdd, Nat.reduceLeDiff, Nat.reduceLT, true_and, and_true, Option.toList_some, Option.toList_none, List.nil_append, List.cons_append, List.getElem?_cons_zero, List.getElem?_cons_succ, List.set_cons_zero, List.set_cons_succ, List.length_cons, List.length_nil, y_bool0, y_bool1, not_true_eq_false, not_false_eq_true, false_implies, true_implies, true_or, or_true, false_or, or_false, if_true, if_false, ite_true, ite_false]
      · have : asB E fr n rd v = false := decide_eq_false fun z => by
          have := z r hr c1
          rw [c2] at this
          exact c3 this
        have fin := hK h1 H1.x F1
        rw [this] at fin
        exact fin
      · simp only [w84_0, w84_0n, w84_1, w84_4, w84_7, w84_8, w84_9, w84_10, w84_14, w84_16, w84_19, w84_19n, w84_20, w84_23, w84_26, w84_28, w84_31, w84_34, w84_34n, w84_35, w84_38, w84_39, w84_42, w84_45, w84_46, w84_50, w84_50n, w84_51, w84_54, w84_57, w84_60, w84_60n, w84_61, w84_64, w84_66, w84_69, w84_69n, w84_72, w84_72n, w84_74, w84_74n, w84_76, w84_79, w84_80, w84_83, w84_83n, w84_85, w84_88, w84_90, w84_93, w84_93n, w84_95, w84_98, w84_98n, w84_99, w84_102, w84_105, w84_106, w84_107, w84_110, w84_113, w84_116, w84_119, w84_120, xk_n, xk_i, xk_r, xk_z, xk_l, xcs_0, xcs_i, xcs_r, xcs_z, xcs_l, Nat.reduceAdd, Nat.reduceLeDiff, Nat.reduceLT, true_and, and_true, Option.toList_some, Option.toList_none, List.nil_append, List.cons_append, List.getElem?_cons_zero, List.getElem?_cons_succ, List.set_cons_zero, List.set_cons_succ, List.length_cons, List.length_nil, y_bool0, y_bool1, not_true_eq_false, not_false_eq_true, false_implies, true_implies, true_or, or_true, false_or, or_false, if_true, if_false, ite_true, ite_false, z8]
        refine wp_id hE hv hvs hRD h2 hK j (day + 1) h1 l5 l6 (by omega) F1 H1 fun r hr c1 c2 => ?_
        by_cases z : (rd r).2.1 = day
        · rw [z]; exact hgo r hr c1 z
        · exact hd r hr c1 (by omega)
    rw [w84_12]
    simp only [w84_0, w84_0n, w84_1, w84_4, w84_7, w84_8, w84_9, w84_10, w84_14, w84_16, w84_19, w84_19n, w84_20, w84_23, w84_26, w84_28, w84_31, w84_34, w84_34n, w84_35, w84_38, w84_39, w84_42, w84_46, w84_48, w84_50, w84_50n, w84_51, w84_54, w84_57, w84_60, w84_60n, w84_61, w84_64, w84_66, w84_69, w84_69n, w84_72, w84_72n, w84_74, w84_74n, w84_76, w84_79, w84_80, w84_83, w84_83n, w84_85, w84_88, w84_90, w84_93, w84_93n, w84_95, w84_98, w84_98n, w84_99, w84_102, w84_105, w84_106, w84_107, w84_110, w84_113, w84_116, w84_119, w84_120, xk_n, xk_i, xk_r, xk_z, xk_l, xcs_0, xcs_i, xcs_r, xcs_z, xcs_l, Nat.reduceAdd, Nat.reduceLeDiff, Nat.reduceLT, true_and, and_true, Option.toList_some, Option.toList_none, List.nil_append, List.cons_append, List.getElem?_cons_zero, List.getElem?_cons_succ, List.set_cons_zero, List.set_cons_succ, List.length_cons, List.length_nil, y_bool0, y_bool1, not_true_eq_false, not_false_eq_true, false_implies, true_implies, true_or, or_true, false_or, or_false, if_true, if_false, ite_true, ite_false, q, y_get, h22, H.bed, H.pf.cls, wp_isOn H.pf hday]
    cases q2 : fr day
    · simp only [bi_f, xk_n, xk_i, xk_r, xk_z, xk_l, xcs_0, xcs_i, xcs_r, xcs_z, xcs_l, Nat.reduceAdd, Nat.reduceLeDiff, Nat.reduceLT, true_and, and_true, Option.toList_some, Option.toList_none, List.nil_append, List.cons_append, List.getElem?_cons_zero, List.getElem?_cons_succ, List.set_cons_zero, List.set_cons_succ, List.length_cons, List.length_nil, y_bool0, y_bool1, not_true_eq_false, not_false_eq_true, false_implies, true_implies, true_or, or_true, false_or, or_false, if_true, if_false, ite_true, ite_false, H.cls]
      refine wp_grow hE (t := mild fr day) (by omega) H (runM_ok hE _ (by omega)) fun h1 H1 F1 => ?_
      simp only [w84_0, w84_0n, w84_1, w84_4, w84_7, w84_8, w84_9, w84_10, w84_14, w84_16, w84_19, w84_19n, w84_20, w84_23, w84_26, w84_28, w84_31, w84_34, w84_34n, w84_35, w84_38, w84_39, w84_42, w84_46, w84_48, w84_50, w84_50n, w84_51, w84_54, w84_57, w84_60, w84_60n, w84_61, w84_64, w84_66, w84_69, w84_69n, w84_72, w84_72n, w84_74, w84_74n, w84_76, w84_79, w84_80, w84_83, w84_83n, w84_85, w84_88, w84_90, w84_93, w84_93n, w84_95, w84_98, w84_98n, w84_99, w84_102, w84_105, w84_106, w84_107, w84_110, w84_113, w84_116, w84_119, w84_120, xk_n, xk_i, xk_r, xk_z, xk_l, xcs_0, xcs_i, xcs_r, xcs_z, xcs_l, Nat.reduceAdd, Nat.reduceLeDiff, Nat.reduceLT, true_and, and_true, Option.toList_some, Option.toList_none, List.nil_append, List.cons_append, List.getElem?_cons_zero, List.getElem?_cons_succ, List.set_cons_zero, List.set_cons_succ, List.length_cons, List.length_nil, y_bool0, y_bool1, not_true_eq_false, not_false_eq_true, false_implies, true_implies, true_or, or_true, false_or, or_false, if_true, if_false, ite_true, ite_false, z9]
      have := rest h1 l5 l6 (F.tr F1)
      rw [mild_f q2] at this
      exact this H1
    · simp only [bi_t, z10, xk_n, xk_i, xk_r, xk_z, xk_l, xcs_0, xcs_i, xcs_r, xcs_z, xcs_l, Nat.reduceAdd, Nat.reduceLeDiff, Nat.reduceLT, true_and, and_true, Option.toList_some, Option.toList_none, List.nil_append, List.cons_append, List.getElem?_cons_zero, List.getElem?_cons_succ, List.set_cons_zero, List.set_cons_succ, List.length_cons, List.length_nil, y_bool0, y_bool1, not_true_eq_false, not_false_eq_true, false_implies, true_implies, true_or, or_true, false_or, or_false, if_true, if_false, ite_true, ite_false]
      have := rest h l5 l6 F
      rw [mild_t q2] at this
      exact this H
theorem wp_asR {t f : Int32} {b c : Nat} (hE : okE E) (hv : v < gv E) (hvs : ∀ u, u < gv E → vs u ≠ 2) (hRD : ∀ h, FR (GP 3 (gv E) vs) 0 0 h0 h → RDs h er n rs rd) (h2 : h0[2]? = some (.inr (7, [.ref 3, .ref b, .ref 15, .ref c, .int t, .int f]))) (B : BX h0 3 e E fr vs) (hK : ∀ h', BX h' 3 e E fr vs → FR (GP 3 (gv E) vs) 0 0 h0 h' → K (some (.int (bi (asB E fr n rd v)))) h') : wp (d + 4) 84 0 [some (.ref 2), some (.int (Int32.ofNat v)), some (.ref (vs v)), none, none, none, none] [] h0 K := by
  obtain ⟨X, L, B⟩ := B
  have z0 : (0 : Int32) = Int32.ofNat 0 := rfl
  simp only [w84_0, w84_0n, w84_1, w84_4, w84_7, w84_8, w84_9, w84_10, w84_14, w84_16, w84_19, w84_19n, w84_20, w84_23, w84_26, w84_28, w84_31, w84_34, w84_34n, w84_35, w84_38, w84_39, w84_42, w84_45, w84_46, w84_48, w84_50, w84_50n, w84_51, w84_54, w84_57, w84_60, w84_60n, w84_61, w84_64, w84_66, w84_69, w84_69n, w84_72, w84_72n, w84_74, w84_74n, w84_76, w84_79, w84_80, w84_83, w84_83n, w84_85, w84_88, w84_90, w84_93, w84_93n, w84_95, w84_98, w84_98n, w84_99, w84_102, w84_105, w84_106, w84_107, w84_110, w84_113, w84_116, w84_119, w84_120, xk_n, xk_i, xk_r, xk_z, xk_l, xcs_0, xcs_i, xcs_r, xcs_z, xcs_l, Nat.reduceAdd, Nat.reduceLeDiff, Nat.reduceLT, true_and, and_true, Option.toList_some, Option.toList_none, List.nil_append, List.cons_append, List.getElem?_cons_zero, List.getElem?_cons_succ, List.set_cons_zero, List.set_cons_succ, List.length_cons, List.length_nil, y_bool0, y_bool1, not_true_eq_false, not_false_eq_true, false_implies, true_implies, true_or, or_true, false_or, or_false, if_true, if_false, ite_true, ite_false, y_get, h2, B.cls]
  refine wp_restart hE B fun h1 H1 F1 => ?_
  simp only [w84_0, w84_0n, w84_1, w84_4, w84_7, w84_8, w84_9, w84_10, w84_14, w84_16, w84_19, w84_19n, w84_20, w84_23, w84_26, w84_28, w84_31, w84_34, w84_34n, w84_35, w84_38, w84_39, w84_42, w84_45, w84_46, w84_48, w84_50, w84_50n, w84_51, w84_54, w84_57, w84_60, w84_60n, w84_61, w84_64, w84_66, w84_69, w84_69n, w84_72, w84_72n, w84_74, w84_74n, w84_76, w84_79, w84_80, w84_83, w84_83n, w84_85, w84_88, w84_90, w84_93, w84_93n, w84_95, w84_98, w84_98n, w84_99, w84_102, w84_105, w84_106, w84_107, w84_110, w84_113, w84_116, w84_119, w84_120, xk_n, xk_i, xk_r, xk_z, xk_l, xcs_0, xcs_i, xcs_r, xcs_z, xcs_l, Nat.reduceAdd, Nat.reduceLeDiff, Nat.reduceLT, true_and, and_true, Option.toList_some, Option.toList_none, List.nil_append, List.cons_append, List.getElem?_cons_zero, List.getElem?_cons_succ, List.set_cons_zero, List.set_cons_succ, List.length_cons, List.length_nil, y_bool0, y_bool1, not_true_eq_false, not_false_eq_true, false_implies, true_implies, true_or, or_true, false_or, or_false, if_true, if_false, ite_true, ite_false]
  rw [z0]
  exact wp_id hE hv hvs hRD h2 hK 80 0 h1 _ _ (by omega) F1 H1 (fun r hr _ z => by omega)
end
section
variable {d : Nat} {K : Option Value → xH → Prop} {e er n v : Nat} {E : Gd} {fr : Nat → Bool} {vs rs : Nat → Nat} {rd : Nat → Nat × Nat × Nat} {h0 : xH}
theorem wp_fh {t f : Int32} {b c k : Nat} {l3 : Option Value} {i4 : Int32} (hE : okE E) (hv : v < gv E) (hk : k < 3) (hvs : ∀ u, u < gv E → vs u ≠ 2) (hRD : ∀ h, FR (GP 3 (gv E) vs) 0 0 h0 h → RDs h er n rs rd) (h2 : h0[2]? = some (.inr (7, [.ref 3, .ref b, .ref 15, .ref c, .int t, .int f]))) {bb : Nat → Bool} (hbb : ∀ hd, hd < 4 → asB (edH (edK E v k) v hd) fr n rd v = bb (4 * k + hd)) (hgo : ∀ h' l7, (∃ kc hc, BX h' 3 e (edH (edK E v kc) v hc) fr vs) → FR (GP 3 (gv E) vs) 0 0 h0 h' → wp (d + 5) 62 88 [some (.ref 2), some (.int (Int32.ofNat v)), some (.ref (vs v)), l3, some (.int i4), some (.int (Int32.ofNat (ftF bb (4 * k + 4)))), some (.int (Int32.ofNat k)), l7] [] h' K) : ∀ (j hd : Nat) (h : xH), hd + j = 4 → FR (GP 3 (gv E) vs) 0 0 h0 h → (∃ kc hc, BX h 3 e (edH (edK E v kc) v hc) fr vs) → wp (d + 5) 62 41 [some (.ref 2), some (.int (Int32.ofNat v)), some (.ref (vs v)), l3, some (.int i4), some (.int (Int32.ofNat (ftF bb (4 * k + hd)))), some (.int (Int32.ofNat k)), some (.int (Int32.ofNat hd))] [] h K
  | 0, hd, h, hj, F, B => by
    have hd4 : hd = 4 := by omega
    subst hd4
    have q : (4 : Int32) ≤ Int32.ofNat 4 := by decide
    rw [w62_41]
    simp only [w62_0, w62_0n, w62_1, w62_4, w62_5, w62_8, w62_8n, w62_9, w62_9n, w62_10, w62_10n, w62_13, w62_14, w62_15, w62_15n, w62_16, w62_19, w62_20, w62_20n, w62_21, w62_24, w62_26, w62_27, w62_29, w62_30, w62_32, w62_34, w62_35, w62_38, w62_39, w62_43, w62_44, w62_47, w62_47n, w62_48, w62_50, w62_53, w62_53n, w62_54, w62_56, w62_59, w62_59n, w62_60, w62_61, w62_61n, w62_62, w62_65, w62_68, w62_70, w62_71, w62_72, w62_74, w62_75, w62_77, w62_78, w62_79, w62_80, w62_82, w62_85, w62_91, w62_94, w62_94n, w62_95, w62_96, w62_99, w62_99n, w62_100, w62_102, w62_105, w62_107, xk_n, xk_i, xk_r, xk_z, xk_l, xcs_0, xcs_i, xcs_r, xcs_z, xcs_l, Nat.reduceAdd, Nat.reduceLeDiff, Nat.reduceLT, true_and, and_true, Option.toList_some, Option.toList_none, List.nil_append, List.cons_append, List.getElem?_cons_zero, List.getElem?_cons_succ, List.set_cons_zero, List.set_cons_succ, List.length_cons, List.length_nil, y_bool0, y_bool1, not_true_eq_false, not_false_eq_true, false_implies, true_implies, true_or, or_true, false_or, or_false, if_true, if_false, ite_true, ite_false, q]
    exact hgo h _ B F
  | j + 1, hd, h, hj, F, ⟨kc, hc, X, L, B⟩ => by
    have q : ((4 : Int32) ≤ Int32.ofNat hd) = False := eq_false (by have := n_lle (m := 4) (a := hd) (by omega) (by omega); rw [this]; omega)
    have hv' : v < gv (edH (edK E v kc) v hc) := hv
    have hat := B.at hv'
    have hal := h_lt hat
    have h22 := B.at2 hv'
    have R := B.ek hv' k
    rw [edK_edH, edK_edK] at R
    rw [w62_41]
    simp only [w62_0, w62_0n, w62_1, w62_4, w62_5, w62_8, w62_8n, w62_9, w62_9n, w62_10, w62_10n, w62_13, w62_14, w62_15, w62_15n, w62_16, w62_19, w62_20, w62_20n, w62_21, w62_24, w62_26, w62_27, w62_29, w62_30, w62_32, w62_34, w62_35, w62_38, w62_39, w62_43, w62_44, w62_47, w62_47n, w62_48, w62_50, w62_54, w62_56, w62_59, w62_59n, w62_60, w62_61, w62_61n, w62_62, w62_65, w62_68, w62_70, w62_71, w62_72, w62_74, w62_75, w62_77, w62_78, w62_79, w62_80, w62_82, w62_85, w62_91, w62_94, w62_94n, w62_95, w62_96, w62_99, w62_99n, w62_100, w62_102, w62_105, w62_107, xk_n, xk_i, xk_r, xk_z, xk_l, xcs_0, xcs_i, xcs_r, xcs_z, xcs_l, Nat.reduceAdd, Nat.reduceLeDiff, Nat.reduceLT, true_and, and_true, Option.toList_some, Option.toList_none, List.nil_append, List.cons_append, List.getElem?_cons_zero, List.getElem?_cons_succ, List.set_cons_zero, List.set_cons_succ, List.length_cons, List.length_nil, y_bool0, y_bool1, not_true_eq_false, not_false_eq_true, false_implies, true_implies, true_or, or_true, false_or, or_false, if_true, if_false, ite_true, ite_false, q, y_put, hat, h22, List.getElem?_set, List.length_set, hal]
    refine ⟨by omega, ?_⟩
    show wp (d + 5) 62 53 _ _ (h.set (vs v) (vcell (gp (edH (edK E v kc) v hc) v) k (gh (edH (edK E v kc) v hc) v) (X v))) _
    obtain ⟨R1, R2⟩ := R
    generalize h.set (vs v) (vcell (gp (edH (edK E v kc) v hc) v) k (gh (edH (edK E v kc) v hc) v) (X v)) = h1 at R1 R2
    have hv2 : v < gv (edH (edK E v k) v hc) := hv
    have hat1 := R1.at hv2
    have hal1 := h_lt hat1
    have S := R1.eh hv2 hd
    rw [edH_edH] at S
    simp only [w62_0, w62_0n, w62_1, w62_4, w62_5, w62_8, w62_8n, w62_9, w62_9n, w62_10, w62_10n, w62_13, w62_14, w62_15, w62_15n, w62_16, w62_19, w62_20, w62_20n, w62_21, w62_24, w62_26, w62_27, w62_29, w62_30, w62_32, w62_34, w62_35, w62_38, w62_39, w62_43, w62_44, w62_47, w62_47n, w62_48, w62_50, w62_53, w62_53n, w62_54, w62_56, w62_60, w62_61, w62_61n, w62_62, w62_65, w62_68, w62_70, w62_71, w62_72, w62_74, w62_75, w62_77, w62_78, w62_79, w62_80, w62_82, w62_85, w62_91, w62_94, w62_94n, w62_95, w62_96, w62_99, w62_99n, w62_100, w62_102, w62_105, w62_107, xk_n, xk_i, xk_r, xk_z, xk_l, xcs_0, xcs_i, xcs_r, xcs_z, xcs_l, Nat.reduceAdd, Nat.reduceLeDiff, Nat.reduceLT, true_and, and_true, Option.toList_some, Option.toList_none, List.nil_append, List.cons_append, List.getElem?_cons_zero, List.getElem?_cons_succ, List.set_cons_zero, List.set_cons_succ, List.length_cons, List.length_nil, y_bool0, y_bool1, not_true_eq_false, not_false_eq_true, false_implies, true_implies, true_or, or_true, false_or, or_false, if_true, if_false, ite_true, ite_false, y_put, hat1, h22, List.getElem?_set, List.length_set, hal1]
    refine ⟨by omega, ?_⟩
    show wp (d + 5) 62 59 _ _ (h1.set (vs v) (vcell (gp (edH (edK E v k) v hc) v) (gk (edH (edK E v k) v hc) v) hd (X v))) _
    obtain ⟨S1, S2⟩ := S
    generalize h1.set (vs v) (vcell (gp (edH (edK E v k) v hc) v) (gk (edH (edK E v k) v hc) v) hd (X v)) = h3 at S1 S2
    have F3 : FR (GP 3 (gv E) vs) 0 0 h0 h3 := (F.tr R2).tr S2
    have h32 := F3.at h2 (by rintro (z | ⟨u, u1, u2⟩); omega; exact hvs u u1 u2.symm)
    have c2 : y_cls h3 2 7 := by unfold y_cls; rw [h32]; exact ⟨by omega, rfl⟩
    have z1 : (4 : Int32) * Int32.ofNat k = Int32.ofNat (4 * k) := n_lmul k 4
    have z2 : Int32.ofNat (4 * k) + Int32.ofNat hd = Int32.ofNat (4 * k + hd) := n_add _ _
    have p12 : 2 ^ (4 * k + hd) ≤ 2 ^ 11 := Nat.pow_le_pow_right (by omega) (by omega)
    have z3 : (1 : Int32) <<< (Int32.ofNat (4 * k + hd) &&& 31) = Int32.ofNat (2 ^ (4 * k + hd)) := by
      have := i_shl (L := 1) (c := 4 * k + hd) (by omega) (by omega)
      rw [Nat.one_mul] at this
      exact this
    have hlt := ftF_lt bb (4 * k + hd)
    have z4 : Int32.ofNat (ftF bb (4 * k + hd)) ||| Int32.ofNat (2 ^ (4 * k + hd)) = Int32.ofNat (ftF bb (4 * k + hd) ||| 2 ^ (4 * k + hd)) := i_or (by omega) (by omega)
    have z8 : Int32.ofNat hd + 1 = Int32.ofNat (hd + 1) := n_addl hd 1
    have z10 : ((1 : Int32) = 0) = False := eq_false (by decide)
    simp only [w62_0, w62_0n, w62_1, w62_4, w62_5, w62_8, w62_8n, w62_9, w62_9n, w62_10, w62_10n, w62_13, w62_14, w62_15, w62_15n, w62_16, w62_19, w62_20, w62_20n, w62_21, w62_24, w62_26, w62_27, w62_29, w62_30, w62_32, w62_34, w62_35, w62_38, w62_39, w62_43, w62_44, w62_47, w62_47n, w62_48, w62_50, w62_53, w62_53n, w62_54, w62_56, w62_59, w62_59n, w62_60, w62_61, w62_61n, w62_62, w62_65, w62_68, w62_70, w62_71, w62_72, w62_74, w62_75, w62_77, w62_78, w62_79, w62_80, w62_82, w62_85, w62_91, w62_94, w62_94n, w62_95, w62_96, w62_99, w62_99n, w62_100, w62_102, w62_105, w62_107, xk_n, xk_i, xk_r, xk_z, xk_l, xcs_0, xcs_i, xcs_r, xcs_z, xcs_l, Nat.reduceAdd, Nat.reduceLeDiff, Nat.reduceLT, true_and, and_true, Option.toList_some, Option.toList_none, List.nil_append, List.cons_append, List.getElem?_cons_zero, List.getElem?_cons_succ, List.set_cons_zero, List.set_cons_succ, List.length_cons, List.length_nil, y_bool0, y_bool1, not_true_eq_false, not_false_eq_true, false_implies, true_implies, true_or, or_true, false_or, or_false, if_true, if_false, ite_true, ite_false, c2]
    refine wp_asR (h0 := h3) (fr := fr) (e := e) (okE_H (okE_K hE hk) (show hd < 4 by omega)) hv hvs (fun h' F' => hRD h' (F3.tr F')) h32 ⟨X, L, S1⟩ fun h4 B4 F4 => ?_
    have ls := ftF_s bb (4 * k + hd)
    rw [hbb hd (by omega)]
    have nx := wp_fh (l3 := l3) (i4 := i4) hE hv hk hvs hRD h2 hbb hgo j (hd + 1) h4 (by omega) (F3.tr F4) ⟨_, _, B4⟩
    cases q2 : bb (4 * k + hd)
    · rw [q2, if_neg (by simp)] at ls
      simp only [w62_0, w62_0n, w62_1, w62_4, w62_5, w62_8, w62_8n, w62_9, w62_9n, w62_10, w62_10n, w62_13, w62_14, w62_15, w62_15n, w62_16, w62_19, w62_20, w62_20n, w62_21, w62_24, w62_26, w62_27, w62_29, w62_30, w62_32, w62_34, w62_35, w62_38, w62_39, w62_43, w62_44, w62_47, w62_47n, w62_48, w62_50, w62_53, w62_53n, w62_54, w62_56, w62_59, w62_59n, w62_60, w62_61, w62_61n, w62_62, w62_65, w62_68, w62_70, w62_71, w62_72, w62_74, w62_75, w62_77, w62_78, w62_79, w62_80, w62_82, w62_85, w62_91, w62_94, w62_94n, w62_95, w62_96, w62_99, w62_99n, w62_100, w62_102, w62_105, w62_107, xk_n, xk_i, xk_r, xk_z, xk_l, xcs_0, xcs_i, xcs_r, xcs_z, xcs_l, Nat.reduceAdd, Nat.reduceLeDiff, Nat.reduceLT, true_and, and_true, Option.toList_some, Option.toList_none, List.nil_append, List.cons_append, List.getElem?_cons_zero, List.getElem?_cons_succ, List.set_cons_zero, List.set_cons_succ, List.length_cons, List.length_nil, y_bool0, y_bool1, not_true_eq_false, not_false_eq_true, false_implies, true_implies, true_or, or_true, false_or, or_false, if_true, if_false, ite_true, ite_false, bi_f, z8]
      rw [← ls]
      exact nx
    · rw [q2, if_pos rfl] at ls
      simp only [w62_0, w62_0n, w62_1, w62_4, w62_5, w62_8, w62_8n, w62_9, w62_9n, w62_10, w62_10n, w62_13, w62_14, w62_15, w62_15n, w62_16, w62_19, w62_20, w62_20n, w62_21, w62_24, w62_26, w62_27, w62_29, w62_30, w62_32, w62_34, w62_35, w62_38, w62_39, w62_43, w62_44, w62_47, w62_47n, w62_48, w62_50, w62_53, w62_53n, w62_54, w62_56, w62_59, w62_59n, w62_60, w62_61, w62_61n, w62_62, w62_65, w62_68, w62_70, w62_71, w62_72, w62_74, w62_75, w62_77, w62_78, w62_79, w62_80, w62_82, w62_85, w62_91, w62_94, w62_94n, w62_95, w62_96, w62_99, w62_99n, w62_100, w62_102, w62_105, w62_107, xk_n, xk_i, xk_r, xk_z, xk_l, xcs_0, xcs_i, xcs_r, xcs_z, xcs_l, Nat.reduceAdd, Nat.reduceLeDiff, Nat.reduceLT, true_and, and_true, Option.toList_some, Option.toList_none, List.nil_append, List.cons_append, List.getElem?_cons_zero, List.getElem?_cons_succ, List.set_cons_zero, List.set_cons_succ, List.length_cons, List.length_nil, y_bool0, y_bool1, not_true_eq_false, not_false_eq_true, false_implies, true_implies, true_or, or_true, false_or, or_false, if_true, if_false, ite_true, ite_false, bi_t, z10, z8, z1, z2, z3, z4]
      rw [← ls]
      exact nx
theorem wp_fk {t f : Int32} {b c : Nat} {l3 : Option Value} {i4 : Int32} (hE : okE E) (hv : v < gv E) (hvs : ∀ u, u < gv E → vs u ≠ 2) (hRD : ∀ h, FR (GP 3 (gv E) vs) 0 0 h0 h → RDs h er n rs rd) (h2 : h0[2]? = some (.inr (7, [.ref 3, .ref b, .ref 15, .ref c, .int t, .int f]))) {bb : Nat → Bool} (hbb : ∀ k, k < 3 → ∀ hd, hd < 4 → asB (edH (edK E v k) v hd) fr n rd v = bb (4 * k + hd)) (hgo : ∀ h' l6 l7, (∃ kc hc, BX h' 3 e (edH (edK E v kc) v hc) fr vs) → FR (GP 3 (gv E) vs) 0 0 h0 h' → wp (d + 5) 62 94 [some (.ref 2), some (.int (Int32.ofNat v)), some (.ref (vs v)), l3, some (.int i4), some (.int (Int32.ofNat (ftF bb 12))), l6, l7] [] h' K) : ∀ (j k : Nat) (h : xH) (l7 : Option Value), k + j = 3 → FR (GP 3 (gv E) vs) 0 0 h0 h → (∃ kc hc, BX h 3 e (edH (edK E v kc) v hc) fr vs) → wp (d + 5) 62 32 [some (.ref 2), some (.int (Int32.ofNat v)), some (.ref (vs v)), l3, some (.int i4), some (.int (Int32.ofNat (ftF bb (4 * k)))), some (.int (Int32.ofNat k)), l7] [] h K
  | 0, k, h, l7, hj, F, B => by
    have hk3 : k = 3 := by omega
    subst hk3
    have q : (3 : Int32) ≤ Int32.ofNat 3 := by decide
    rw [w62_32]
    simp only [w62_0, w62_0n, w62_1, w62_4, w62_5, w62_8, w62_8n, w62_9, w62_9n, w62_10, w62_10n, w62_13, w62_14, w62_15, w62_15n, w62_16, w62_19, w62_20, w62_20n, w62_21, w62_24, w62_26, w62_27, w62_29, w62_30, w62_34, w62_35, w62_38, w62_39, w62_41, w62_43, w62_44, w62_47, w62_47n, w62_48, w62_50, w62_53, w62_53n, w62_54, w62_56, w62_59, w62_59n, w62_60, w62_61, w62_61n, w62_62, w62_65, w62_68, w62_70, w62_71, w62_72, w62_74, w62_75, w62_77, w62_78, w62_79, w62_80, w62_82, w62_85, w62_88, w62_91, w62_95, w62_96, w62_99, w62_99n, w62_100, w62_102, w62_105, w62_107, xk_n, xk_i, xk_r, xk_z, xk_l, xcs_0, xcs_i, xcs_r, xcs_z, xcs_l, Nat.reduceAdd, Nat.reduceLeDiff, Nat.reduceLT, true_and, and_true, Option.toList_some, Option.toList_none, List.nil_append, List.cons_append, List.getElem?_cons_zero, List.getElem?_cons_succ, List.set_cons_zero, List.set_cons_succ, List.length_cons, List.length_nil, y_bool0, y_bool1, not_true_eq_false, not_false_eq_true, false_implies, true_implies, true_or, or_true, false_or, or_false, if_true, if_false, ite_true, ite_false, q]
    exact hgo h _ _ B F
  | j + 1, k, h, l7, hj, F, B => by
    have q : ((3 : Int32) ≤ Int32.ofNat k) = False := eq_false (by have := n_lle (m := 3) (a := k) (by omega) (by omega); rw [this]; omega)
    have z0 : (0 : Int32) = Int32.ofNat 0 := rfl
    have z8 : Int32.ofNat k + 1 = Int32.ofNat (k + 1) := n_addl k 1
    rw [w62_32]
    simp only [w62_0, w62_0n, w62_1, w62_4, w62_5, w62_8, w62_8n, w62_9, w62_9n, w62_10, w62_10n, w62_13, w62_14, w62_15, w62_15n, w62_16, w62_19, w62_20, w62_20n, w62_21, w62_24, w62_26, w62_27, w62_29, w62_30, w62_34, w62_35, w62_38, w62_39, w62_43, w62_44, w62_47, w62_47n, w62_48, w62_50, w62_53, w62_53n, w62_54, w62_56, w62_59, w62_59n, w62_60, w62_61, w62_61n, w62_62, w62_65, w62_68, w62_70, w62_71, w62_72, w62_74, w62_75, w62_77, w62_78, w62_79, w62_80, w62_82, w62_85, w62_88, w62_91, w62_95, w62_96, w62_99, w62_99n, w62_100, w62_102, w62_105, w62_107, xk_n, xk_i, xk_r, xk_z, xk_l, xcs_0, xcs_i, xcs_r, xcs_z, xcs_l, Nat.reduceAdd, Nat.reduceLeDiff, Nat.reduceLT, true_and, and_true, Option.toList_some, Option.toList_none, List.nil_append, List.cons_append, List.getElem?_cons_zero, List.getElem?_cons_succ, List.set_cons_zero, List.set_cons_succ, List.length_cons, List.length_nil, y_bool0, y_bool1, not_true_eq_false, not_false_eq_true, false_implies, true_implies, true_or, or_true, false_or, or_false, if_true, if_false, ite_true, ite_false, q]
    rw [z0]
    refine wp_fh (bb := bb) hE hv (show k < 3 by omega) hvs hRD h2 (hbb k (by omega)) (fun h' l7 B' F' => ?_) 4 0 h (by omega) F B
    simp only [w62_0, w62_0n, w62_1, w62_4, w62_5, w62_8, w62_8n, w62_9, w62_9n, w62_10, w62_10n, w62_13, w62_14, w62_15, w62_15n, w62_16, w62_19, w62_20, w62_20n, w62_21, w62_24, w62_26, w62_27, w62_29, w62_30, w62_34, w62_35, w62_38, w62_39, w62_43, w62_44, w62_47, w62_47n, w62_48, w62_50, w62_53, w62_53n, w62_54, w62_56, w62_59, w62_59n, w62_60, w62_61, w62_61n, w62_62, w62_65, w62_68, w62_70, w62_71, w62_72, w62_74, w62_75, w62_77, w62_78, w62_79, w62_80, w62_82, w62_85, w62_88, w62_91, w62_95, w62_96, w62_99, w62_99n, w62_100, w62_102, w62_105, w62_107, xk_n, xk_i, xk_r, xk_z, xk_l, xcs_0, xcs_i, xcs_r, xcs_z, xcs_l, Nat.reduceAdd, Nat.reduceLeDiff, Nat.reduceLT, true_and, and_true, Option.toList_some, Option.toList_none, List.nil_append, List.cons_append, List.getElem?_cons_zero, List.getElem?_cons_succ, List.set_cons_zero, List.set_cons_succ, List.length_cons, List.length_nil, y_bool0, y_bool1, not_true_eq_false, not_false_eq_true, false_implies, true_implies, true_or, or_true, false_or, or_false, if_true, if_false, ite_true, ite_false, z8]
    exact wp_fk hE hv hvs hRD h2 hbb hgo j (k + 1) h' l7 (by omega) F' B'
end
section
variable {d : Nat} {h : xH} {K : Option Value → xH → Prop} {s : St}
theorem cop_fits (H : RX h s) (v : Int32) (hK : ∀ h', RX h' s → FR CP 0 0 h h' → K (some (.int (opFits s v))) h') : wp (d + 5) 62 0 [some (.ref 2), some (.int v), none, none, none, none, none, none] [] h K := by
  have HX := H
  obtain ⟨hO, e, em, er, vs, rs, H⟩ := H
  have H0 := H
  obtain ⟨X, L, B⟩ := H.2.1
  have hv3 := hO.v3
  have hn30 := hO.n30
  rcases nb_cas v (m := gv (sE s)) (by omega) with ⟨a, ha, rfl, hnb⟩ | ⟨hc, hnb⟩
  · have hE := hO.ok ha
    have e1 : opFits s (Int32.ofNat a) = Int32.ofNat (ftF (fitB s a) 12) := by unfold opFits; rw [hnb]
    rw [e1] at hK
    have hvs : ∀ u, u < gv (sE s) → vs u ≠ 2 := fun u hu => by have := H.2.2.2.2.2.2.2.1 u hu; omega
    obtain ⟨g1, g2, g3, g4, g5, g6, g7, g8, c1, c2, c3, c4, c5, c6, c7⟩ := H0
    have rd0 : RDs h er (sRn s) rs (sRd s) := ⟨g4, hO.2.1, fun r hr => ⟨by have := (g5 r hr).1; omega, (g5 r hr).2, by have := (hO.2.2.1 r hr).1; omega, (hO.2.2.1 r hr).2.1, by have := (hO.2.2.1 r hr).2.2; omega⟩⟩
    have hRD : ∀ h', FR (GP 3 (gv (sE s)) vs) 0 0 h h' → RDs h' er (sRn s) rs (sRd s) := fun h' F' => rd0.frm F' (fun u hu => ⟨by have := g8 u hu; omega, by have := g8 u hu; exact g4.ne (B.at hu) (by omega), fun r hr => h_dif (B.at hu) (g5 r hr).2 (by intro z; cases z)⟩) (by omega) (fun r hr => by have := (g5 r hr).1; omega)
    have z0 : (0 : Int32) = Int32.ofNat 0 := rfl
    simp only [w62_0, w62_0n, w62_1, w62_4, w62_5, w62_8, w62_8n, w62_9, w62_9n, w62_10, w62_10n, w62_13, w62_14, w62_15, w62_15n, w62_16, w62_19, w62_20, w62_20n, w62_21, w62_24, w62_26, w62_27, w62_29, w62_30, w62_34, w62_35, w62_38, w62_39, w62_41, w62_43, w62_44, w62_47, w62_47n, w62_48, w62_50, w62_53, w62_53n, w62_54, w62_56, w62_59, w62_59n, w62_60, w62_61, w62_61n, w62_62, w62_65, w62_68, w62_70, w62_71, w62_72, w62_74, w62_75, w62_77, w62_78, w62_79, w62_80, w62_82, w62_85, w62_88, w62_91, w62_95, w62_96, w62_99, w62_99n, w62_100, w62_102, w62_105, w62_107, xk_n, xk_i, xk_r, xk_z, xk_l, xcs_0, xcs_i, xcs_r, xcs_z, xcs_l, Nat.reduceAdd, Nat.reduceLeDiff, Nat.reduceLT, true_and, and_true, Option.toList_some, Option.toList_none, List.nil_append, List.cons_append, List.getElem?_cons_zero, List.getElem?_cons_succ, List.set_cons_zero, List.set_cons_succ, List.length_cons, List.length_nil, y_bool0, y_bool1, not_true_eq_false, not_false_eq_true, false_implies, true_implies, true_or, or_true, false_or, or_false, if_true, if_false, ite_true, ite_false, y_get, H.1, B.bed, B.cls, wp_vineAt B hv3 ha, B.at ha]
    rw [z0]
    have fin : ∀ h' l6 l7, (∃ kc hc, BX h' 3 e (edH (edK (sE s) a kc) a hc) (sFr s) vs) → FR (GP 3 (gv (sE s)) vs) 0 0 h h' → wp (d + 5) 62 94 [some (.ref 2), some (.int (Int32.ofNat a)), some (.ref (vs a)), some (.int (Int32.ofNat (gk (sE s) a))), some (.int (Int32.ofNat (gh (sE s) a))), some (.int (Int32.ofNat (ftF (fitB s a) 12))), l6, l7] [] h' K := by
      rintro h1 l6 l7 ⟨kc, hc, X1, L1, B1⟩ F1
      have hv' : a < gv (edH (edK (sE s) a kc) a hc) := ha
      have hat := B1.at hv'
      have hal := h_lt hat
      have h22 := B1.at2 hv'
      have R := B1.ek hv' (gk (sE s) a)
      rw [edK_edH, edK_edK, edK_sm] at R
      simp only [w62_0, w62_0n, w62_1, w62_4, w62_5, w62_8, w62_8n, w62_9, w62_9n, w62_10, w62_10n, w62_13, w62_14, w62_15, w62_15n, w62_16, w62_19, w62_20, w62_20n, w62_21, w62_24, w62_26, w62_27, w62_29, w62_30, w62_32, w62_34, w62_35, w62_38, w62_39, w62_41, w62_43, w62_44, w62_47, w62_47n, w62_48, w62_50, w62_53, w62_53n, w62_54, w62_56, w62_59, w62_59n, w62_60, w62_61, w62_61n, w62_62, w62_65, w62_68, w62_70, w62_71, w62_72, w62_74, w62_75, w62_77, w62_78, w62_79, w62_80, w62_82, w62_85, w62_88, w62_91, w62_94, w62_94n, w62_95, w62_96, w62_100, w62_102, w62_105, w62_107, xk_n, xk_i, xk_r, xk_z, xk_l, xcs_0, xcs_i, xcs_r, xcs_z, xcs_l, Nat.reduceAdd, Nat.reduceLeDiff, Nat.reduceLT, true_and, and_true, Option.toList_some, Option.toList_none, List.nil_append, List.cons_append, List.getElem?_cons_zero, List.getElem?_cons_succ, List.set_cons_zero, List.set_cons_succ, List.length_cons, List.length_nil, y_bool0, y_bool1, not_true_eq_false, not_false_eq_true, false_implies, true_implies, true_or, or_true, false_or, or_false, if_true, if_false, ite_true, ite_false, y_put, hat, h22, List.getElem?_set, List.length_set, hal]
      refine ⟨by omega, ?_⟩
      show wp (d + 5) 62 99 _ _ (h1.set (vs a) (vcell (gp (edH (edK (sE s) a kc) a hc) a) (gk (sE s) a) (gh (edH (edK (sE s) a kc) a hc) a) (X1 a))) _
      obtain ⟨R1, R2⟩ := R
      generalize h1.set (vs a) (vcell (gp (edH (edK (sE s) a kc) a hc) a) (gk (sE s) a) (gh (edH (edK (sE s) a kc) a hc) a) (X1 a)) = h2 at R1 R2
      have hv2 : a < gv (edH (sE s) a hc) := ha
      have hat1 := R1.at hv2
      have hal1 := h_lt hat1
      have S := R1.eh hv2 (gh (sE s) a)
      rw [edH_edH, edH_sm] at S
      simp only [w62_0, w62_0n, w62_1, w62_4, w62_5, w62_8, w62_8n, w62_9, w62_9n, w62_10, w62_10n, w62_13, w62_14, w62_15, w62_15n, w62_16, w62_19, w62_20, w62_20n, w62_21, w62_24, w62_26, w62_27, w62_29, w62_30, w62_32, w62_34, w62_35, w62_38, w62_39, w62_41, w62_43, w62_44, w62_47, w62_47n, w62_48, w62_50, w62_53, w62_53n, w62_54, w62_56, w62_59, w62_59n, w62_60, w62_61, w62_61n, w62_62, w62_65, w62_68, w62_70, w62_71, w62_72, w62_74, w62_75, w62_77, w62_78, w62_79, w62_80, w62_82, w62_85, w62_88, w62_91, w62_94, w62_94n, w62_95, w62_96, w62_99, w62_99n, w62_100, w62_102, w62_105, w62_107, xk_n, xk_i, xk_r, xk_z, xk_l, xcs_0, xcs_i, xcs_r, xcs_z, xcs_l, Nat.reduceAdd, Nat.reduceLeDiff, Nat.reduceLT, true_and, and_true, Option.toList_some, Option.toList_none, List.nil_append, List.cons_append, List.getElem?_cons_zero, List.getElem?_cons_succ, List.set_cons_zero, List.set_cons_succ, List.length_cons, List.length_nil, y_bool0, y_bool1, not_true_eq_false, not_false_eq_true, false_implies, true_implies, true_or, or_true, false_or, or_false, if_true, if_false, ite_true, ite_false, y_put, hat1, h22, List.getElem?_set, List.length_set, hal1]
      refine ⟨by omega, ?_⟩
      have R := H.G ⟨_, _, S.1⟩ ((F1.tr R2).tr S.2)
      exact hK _ ⟨hO, e, em, er, vs, rs, R.1⟩ R.2
    refine wp_fk (bb := fitB s a) hE ha hvs hRD H.1 (fun k hk hd hhd => ?_) fin 3 0 h none (by omega) FR.rfl' ⟨gk (sE s) a, gh (sE s) a, ?_⟩
    · show _ = asB (edH (edK (sE s) a ((4 * k + hd) / 4)) a ((4 * k + hd) % 4)) (sFr s) (sRn s) (sRd s) a
      rw [show (4 * k + hd) / 4 = k by omega, show (4 * k + hd) % 4 = hd by omega]
    · rw [edK_sm, edH_sm]
      exact ⟨X, L, B⟩
  · have e1 : opFits s v = -1 := by unfold opFits; rw [hnb]
    rw [e1] at hK
    simp only [w62_0, w62_0n, w62_1, w62_4, w62_5, w62_8, w62_8n, w62_9, w62_9n, w62_10, w62_10n, w62_13, w62_14, w62_15, w62_15n, w62_16, w62_19, w62_20, w62_20n, w62_21, w62_24, w62_26, w62_27, w62_29, w62_30, w62_34, w62_35, w62_38, w62_39, w62_41, w62_43, w62_44, w62_47, w62_47n, w62_48, w62_50, w62_53, w62_53n, w62_54, w62_56, w62_59, w62_59n, w62_60, w62_61, w62_61n, w62_62, w62_65, w62_68, w62_70, w62_71, w62_72, w62_74, w62_75, w62_77, w62_78, w62_79, w62_80, w62_82, w62_85, w62_88, w62_91, w62_95, w62_96, w62_99, w62_99n, w62_100, w62_102, w62_105, w62_107, xk_n, xk_i, xk_r, xk_z, xk_l, xcs_0, xcs_i, xcs_r, xcs_z, xcs_l, Nat.reduceAdd, Nat.reduceLeDiff, Nat.reduceLT, true_and, and_true, Option.toList_some, Option.toList_none, List.nil_append, List.cons_append, List.getElem?_cons_zero, List.getElem?_cons_succ, List.set_cons_zero, List.set_cons_succ, List.length_cons, List.length_nil, y_bool0, y_bool1, not_true_eq_false, not_false_eq_true, false_implies, true_implies, true_or, or_true, false_or, or_false, if_true, if_false, ite_true, ite_false, y_get, H.1, B.bed, B.cls, wp_vineNo B hc]
    exact hK h HX FR.rfl'
end
