/-! ===== the program: what is asked of a bed ===== -/
theorem growN_done {E : Gd} {t v : Nat} {G : Nat → Vs} (h : ((vo (G v)).isSome || (vx (G v)).isSome) = true) : ∀ k, growN E t G k v = G v
  | 0 => rfl
  | k + 1 => by
    have ih := growN_done (E := E) (t := t) h k
    show growV E t (growN E t G k) k v = G v
    unfold growV
    by_cases z : k = v
    · subst z
      rw [ih, if_pos h, ih]
    · split
      · exact ih
      · rw [upG_ne _ _ (Ne.symm z), ih]
theorem runM_done {E : Gd} {v m : Nat} (h : ((vo (runM E m v)).isSome || (vx (runM E m v)).isSome) = true) : ∀ k, runM E (m + k) v = runM E m v
  | 0 => rfl
  | k + 1 => by
    have ih := runM_done h k
    show growN E (m + k) (runM E (m + k)) (gv E) v = _
    rw [growN_done (by rw [ih]; exact h), ih]
def BX (h : xH) (q e : Nat) (E : Gd) (fr : Nat → Bool) (vs : Nat → Nat) : Prop := ∃ X L, BD h q e E fr vs X L
theorem BG.x {h : xH} {q e : Nat} {E : Gd} {fr : Nat → Bool} {vs : Nat → Nat} {G : Nat → Vs} (H : BG h q e E fr vs G) : BX h q e E fr vs := ⟨_, _, H⟩
section
variable {d : Nat} {h : xH} {K : Option Value → xH → Prop} {q e : Nat} {E : Gd} {fr : Nat → Bool} {vs : Nat → Nat} {X : Nat → List Value} {L : Int64}
theorem wp_vineAt {v : Nat} (H : BD h q e E fr vs X L) (h3 : gv E ≤ 3) (hv : v < gv E) : wp (d + 3) 1 0 [some (.ref q), some (.int (Int32.ofNat v))] [] h K ↔ K (some (.ref (vs v))) h := by
  have e1 : (Int32.ofNat v < 0) = False := eq_false (n_lt0 (by omega))
  have e2 : (Int32.ofNat (gv E) ≤ Int32.ofNat v) = False := eq_false (by rw [n_le (by omega) (by omega)]; omega)
  simp only [w1_0, w1_1, w1_4, w1_5, w1_5n, w1_6, w1_9, w1_12, w1_15, w1_15n, w1_16, w1_19, w1_20, w1_23, w1_23n, w1_26, w1_29, w1_30, w1_30n, xk_n, xk_i, xk_r, xk_z, xk_l, xcs_0, xcs_i, xcs_r, xcs_z, xcs_l, Nat.reduceAdd, Nat.reduceLeDiff, Nat.reduceLT, true_and, and_true, Option.toList_some, Option.toList_none, List.nil_append, List.cons_append, List.getElem?_cons_zero, List.getElem?_cons_succ, List.set_cons_zero, List.set_cons_succ, List.length_cons, List.length_nil, y_bool0, y_bool1, not_true_eq_false, not_false_eq_true, false_implies, true_implies, true_or, or_true, false_or, or_false, if_true, if_false, ite_true, ite_false, y_get, H.bed, H.al.cls, wp_size H.al, e1, e2, wp_get H.al hv, H.vcls hv]
theorem wp_vineNo {c : Int32} (H : BD h q e E fr vs X L) (hc : c < 0 ∨ ¬ c < 0 ∧ Int32.ofNat (gv E) ≤ c) : wp (d + 3) 1 0 [some (.ref q), some (.int c)] [] h K ↔ K (some .null) h := by
  rcases hc with e1 | ⟨e1, e2⟩
  · simp only [w1_0, w1_1, w1_4, w1_5, w1_5n, w1_6, w1_9, w1_12, w1_15, w1_15n, w1_16, w1_19, w1_20, w1_23, w1_23n, w1_26, w1_29, w1_30, w1_30n, xk_n, xk_i, xk_r, xk_z, xk_l, xcs_0, xcs_i, xcs_r, xcs_z, xcs_l, Nat.reduceAdd, Nat.reduceLeDiff, Nat.reduceLT, true_and, and_true, Option.toList_some, Option.toList_none, List.nil_append, List.cons_append, List.getElem?_cons_zero, List.getElem?_cons_succ, List.set_cons_zero, List.set_cons_succ, List.length_cons, List.length_nil, y_bool0, y_bool1, not_true_eq_false, not_false_eq_true, false_implies, true_implies, true_or, or_true, false_or, or_false, if_true, if_false, ite_true, ite_false, y_get, H.bed, H.al.cls, wp_size H.al, e1]
  · simp only [w1_0, w1_1, w1_4, w1_5, w1_5n, w1_6, w1_9, w1_12, w1_15, w1_15n, w1_16, w1_19, w1_20, w1_23, w1_23n, w1_26, w1_29, w1_30, w1_30n, xk_n, xk_i, xk_r, xk_z, xk_l, xcs_0, xcs_i, xcs_r, xcs_z, xcs_l, Nat.reduceAdd, Nat.reduceLeDiff, Nat.reduceLT, true_and, and_true, Option.toList_some, Option.toList_none, List.nil_append, List.cons_append, List.getElem?_cons_zero, List.getElem?_cons_succ, List.set_cons_zero, List.set_cons_succ, List.length_cons, List.length_nil, y_bool0, y_bool1, not_true_eq_false, not_false_eq_true, false_implies, true_implies, true_or, or_true, false_or, or_false, if_true, if_false, ite_true, ite_false, y_get, H.bed, H.al.cls, wp_size H.al, e1, e2]
/-- is a cell a planted one, of the vines from k on -/
def plF (E : Gd) (c : Nat) : Nat → Nat → Bool
  | 0, _ => false
  | j + 1, k => gp E k == c || plF E c j (k + 1)
theorem wp_ip {c : Nat} (H : BD h q e E fr vs X L) (hE : okE E) (hc : c < 30) : ∀ (j k : Nat), k + j = gv E → (wp (d + 3) 2 2 [some (.ref q), some (.int (Int32.ofNat c)), some (.int (Int32.ofNat k))] [] h K ↔ K (some (.int (bi (plF E c j k)))) h)
  | 0, k, hk => by
    have hv3 := hE.2.1
    have e2 : Int32.ofNat (gv E) ≤ Int32.ofNat k := (n_le (by omega) (by omega)).mpr (by omega)
    rw [w2_2]
    simp only [w2_0, w2_1, w2_3, w2_3n, w2_4, w2_7, w2_10, w2_13, w2_13n, w2_14, w2_17, w2_18, w2_21, w2_21n, w2_24, w2_27, w2_28, w2_31, w2_32, w2_33, w2_36, w2_39, w2_40, xk_n, xk_i, xk_r, xk_z, xk_l, xcs_0, xcs_i, xcs_r, xcs_z, xcs_l, Nat.reduceAdd, Nat.reduceLeDiff, Nat.reduceLT, true_and, and_true, Option.toList_some, Option.toList_none, List.nil_append, List.cons_append, List.getElem?_cons_zero, List.getElem?_cons_succ, List.set_cons_zero, List.set_cons_succ, List.length_cons, List.length_nil, y_bool0, y_bool1, not_true_eq_false, not_false_eq_true, false_implies, true_implies, true_or, or_true, false_or, or_false, if_true, if_false, ite_true, ite_false, y_get, H.bed, H.al.cls, wp_size H.al, e2, plF, bi_f]
  | j + 1, k, hk => by
    have hv3 := hE.2.1
    have hn := hE.1.2.2.1
    have hkv : k < gv E := by omega
    have hp := (hE.2.2 k hkv).2.1
    have e2 : (Int32.ofNat (gv E) ≤ Int32.ofNat k) = False := eq_false (by rw [n_le (by omega) (by omega)]; omega)
    have e3 : (Int32.ofNat (gp E k) = Int32.ofNat c) = (gp E k = c) := propext (n_eq (by omega) (by omega))
    have z8 : Int32.ofNat k + 1 = Int32.ofNat (k + 1) := n_addl k 1
    rw [w2_2]
    simp only [w2_0, w2_1, w2_3, w2_3n, w2_4, w2_7, w2_10, w2_13, w2_13n, w2_14, w2_17, w2_18, w2_21, w2_21n, w2_24, w2_27, w2_28, w2_31, w2_32, w2_33, w2_36, w2_39, w2_40, xk_n, xk_i, xk_r, xk_z, xk_l, xcs_0, xcs_i, xcs_r, xcs_z, xcs_l, Nat.reduceAdd, Nat.reduceLeDiff, Nat.reduceLT, true_and, and_true, Option.toList_some, Option.toList_none, List.nil_append, List.cons_append, List.getElem?_cons_zero, List.getElem?_cons_succ, List.set_cons_zero, List.set_cons_succ, List.length_cons, List.length_nil, y_bool0, y_bool1, not_true_eq_false, not_false_eq_true, false_implies, true_implies, true_or, or_true, false_or, or_false, if_true, if_false, ite_true, ite_false, y_get, H.bed, H.al.cls, wp_size H.al, e2, wp_get H.al hkv, H.vcls hkv, H.at hkv, e3, z8]
    by_cases z : gp E k = c
    · simp only [z, xk_n, xk_i, xk_r, xk_z, xk_l, xcs_0, xcs_i, xcs_r, xcs_z, xcs_l, Nat.reduceAdd, Nat.reduceLeDiff, Nat.reduceLT, true_and, and_true, Option.toList_some, Option.toList_none, List.nil_append, List.cons_append, List.getElem?_cons_zero, List.getElem?_cons_succ, List.set_cons_zero, List.set_cons_succ, List.length_cons, List.length_nil, y_bool0, y_bool1, not_true_eq_false, not_false_eq_true, false_implies, true_implies, true_or, or_true, false_or, or_false, if_true, if_false, ite_true, ite_false, plF, beq_self_eq_true, Bool.true_or, bi_t]
    · have z2 : (gp E k == c) = false := by simpa using z
      simp only [z, xk_n, xk_i, xk_r, xk_z, xk_l, xcs_0, xcs_i, xcs_r, xcs_z, xcs_l, Nat.reduceAdd, Nat.reduceLeDiff, Nat.reduceLT, true_and, and_true, Option.toList_some, Option.toList_none, List.nil_append, List.cons_append, List.getElem?_cons_zero, List.getElem?_cons_succ, List.set_cons_zero, List.set_cons_succ, List.length_cons, List.length_nil, y_bool0, y_bool1, not_true_eq_false, not_false_eq_true, false_implies, true_implies, true_or, or_true, false_or, or_false, if_true, if_false, ite_true, ite_false, plF, z2, Bool.false_or]
      exact wp_ip H hE hc j (k + 1) (by omega)
theorem wp_isPlanted {c : Nat} (H : BD h q e E fr vs X L) (hE : okE E) (hc : c < 30) : wp (d + 3) 2 0 [some (.ref q), some (.int (Int32.ofNat c)), none] [] h K ↔ K (some (.int (bi (plF E c (gv E) 0)))) h := by
  have z : (0 : Int32) = Int32.ofNat 0 := rfl
  rw [← wp_ip (d := d) (K := K) H hE hc (gv E) 0 (by omega)]
  simp only [w2_0, w2_1, w2_3, w2_3n, w2_4, w2_7, w2_10, w2_13, w2_13n, w2_14, w2_17, w2_18, w2_21, w2_21n, w2_24, w2_27, w2_28, w2_31, w2_32, w2_33, w2_36, w2_39, w2_40, xk_n, xk_i, xk_r, xk_z, xk_l, xcs_0, xcs_i, xcs_r, xcs_z, xcs_l, Nat.reduceAdd, Nat.reduceLeDiff, Nat.reduceLT, true_and, and_true, Option.toList_some, Option.toList_none, List.nil_append, List.cons_append, List.getElem?_cons_zero, List.getElem?_cons_succ, List.set_cons_zero, List.set_cons_succ, List.length_cons, List.length_nil, y_bool0, y_bool1, not_true_eq_false, not_false_eq_true, false_implies, true_implies, true_or, or_true, false_or, or_false, if_true, if_false, ite_true, ite_false, z]
end
theorem wp_gt {d : Nat} {K : Option Value → xH → Prop} {q e m : Nat} {E : Gd} {fr : Nat → Bool} {vs : Nat → Nat} {l1 : Option Value} (hE : okE E) (hm : m ≤ 1000) : ∀ (j k : Nat) (h : xH), k + j = m → BG h q e E fr vs (runM E k) → (∀ h', BG h' q e E fr vs (runM E m) → FR (GP q (gv E) vs) 0 0 h h' → K none h') → wp (d + 4) 3 16 [some (.ref q), l1, some (.int (Int32.ofNat m)), some (.int (Int32.ofNat k))] [] h K
  | 0, k, h, hk, H, hK => by
    have z6 : Int32.ofNat m ≤ Int32.ofNat k := (n_le (by omega) (by omega)).mpr (by omega)
    have : k = m := by omega
    subst this
    rw [w3_16]
    simp only [w3_0, w3_0n, w3_1, w3_4, w3_5, w3_6, w3_9, w3_10, w3_10n, w3_11, w3_14, w3_15, w3_17, w3_18, w3_21, w3_21n, w3_22, w3_23, w3_26, w3_29, w3_32, xk_n, xk_i, xk_r, xk_z, xk_l, xcs_0, xcs_i, xcs_r, xcs_z, xcs_l, Nat.reduceAdd, Nat.reduceLeDiff, Nat.reduceLT, true_and, and_true, Option.toList_some, Option.toList_none, List.nil_append, List.cons_append, List.getElem?_cons_zero, List.getElem?_cons_succ, List.set_cons_zero, List.set_cons_succ, List.length_cons, List.length_nil, y_bool0, y_bool1, not_true_eq_false, not_false_eq_true, false_implies, true_implies, true_or, or_true, false_or, or_false, if_true, if_false, ite_true, ite_false, z6]
    exact hK h H FR.rfl'
  | j + 1, k, h, hk, H, hK => by
    have z6 : (Int32.ofNat m ≤ Int32.ofNat k) = False := eq_false (by rw [n_le (by omega) (by omega)]; omega)
    have z8 : Int32.ofNat k + 1 = Int32.ofNat (k + 1) := n_addl k 1
    rw [w3_16]
    simp only [w3_0, w3_0n, w3_1, w3_4, w3_5, w3_6, w3_9, w3_10, w3_10n, w3_11, w3_14, w3_15, w3_17, w3_18, w3_21, w3_21n, w3_22, w3_23, w3_26, w3_29, w3_32, xk_n, xk_i, xk_r, xk_z, xk_l, xcs_0, xcs_i, xcs_r, xcs_z, xcs_l, Nat.reduceAdd, Nat.reduceLeDiff, Nat.reduceLT, true_and, and_true, Option.toList_some, Option.toList_none, List.nil_append, List.cons_append, List.getElem?_cons_zero, List.getElem?_cons_succ, List.set_cons_zero, List.set_cons_succ, List.length_cons, List.length_nil, y_bool0, y_bool1, not_true_eq_false, not_false_eq_true, false_implies, true_implies, true_or, or_true, false_or, or_false, if_true, if_false, ite_true, ite_false, z6, H.cls]
    refine wp_grow hE (by omega) H (runM_ok hE k (by omega)) fun h1 H1 F1 => ?_
    simp only [w3_0, w3_0n, w3_1, w3_4, w3_5, w3_6, w3_9, w3_10, w3_10n, w3_11, w3_14, w3_15, w3_17, w3_18, w3_21, w3_21n, w3_22, w3_23, w3_26, w3_29, w3_32, xk_n, xk_i, xk_r, xk_z, xk_l, xcs_0, xcs_i, xcs_r, xcs_z, xcs_l, Nat.reduceAdd, Nat.reduceLeDiff, Nat.reduceLT, true_and, and_true, Option.toList_some, Option.toList_none, List.nil_append, List.cons_append, List.getElem?_cons_zero, List.getElem?_cons_succ, List.set_cons_zero, List.set_cons_succ, List.length_cons, List.length_nil, y_bool0, y_bool1, not_true_eq_false, not_false_eq_true, false_implies, true_implies, true_or, or_true, false_or, or_false, if_true, if_false, ite_true, ite_false, z8]
    exact wp_gt hE hm j (k + 1) h1 (by omega) H1 fun h' H' F' => hK h' H' (F1.tr F')
theorem wp_growTo {d : Nat} {h : xH} {K : Option Value → xH → Prop} {q e n : Nat} {E : Gd} {fr : Nat → Bool} {vs : Nat → Nat} (hE : okE E) (H : BX h q e E fr vs) (hn : n < 80) (hK : ∀ h', BG h' q e E fr vs (runM E (mild fr (n + 1))) → FR (GP q (gv E) vs) 0 0 h h' → K none h') : wp (d + 4) 3 0 [some (.ref q), some (.int (Int32.ofNat n)), none, none] [] h K := by
  obtain ⟨X, L, H⟩ := H
  have hm := mild_k fr (n + 1)
  have z : (0 : Int32) = Int32.ofNat 0 := rfl
  have z0 : mild fr 0 = 0 := rfl
  simp only [w3_0, w3_0n, w3_1, w3_4, w3_5, w3_6, w3_9, w3_10, w3_10n, w3_11, w3_14, w3_15, w3_17, w3_18, w3_21, w3_21n, w3_22, w3_23, w3_26, w3_29, w3_32, xk_n, xk_i, xk_r, xk_z, xk_l, xcs_0, xcs_i, xcs_r, xcs_z, xcs_l, Nat.reduceAdd, Nat.reduceLeDiff, Nat.reduceLT, true_and, and_true, Option.toList_some, Option.toList_none, List.nil_append, List.cons_append, List.getElem?_cons_zero, List.getElem?_cons_succ, List.set_cons_zero, List.set_cons_succ, List.length_cons, List.length_nil, y_bool0, y_bool1, not_true_eq_false, not_false_eq_true, false_implies, true_implies, true_or, or_true, false_or, or_false, if_true, if_false, ite_true, ite_false, y_get, H.bed, H.pf.cls, H.cls, z, wp_movesOn H.pf hn (show 0 < 80 by omega), z0, Nat.sub_zero]
  refine wp_restart hE H fun h1 H1 F1 => ?_
  simp only [w3_0, w3_0n, w3_1, w3_4, w3_5, w3_6, w3_9, w3_10, w3_10n, w3_11, w3_14, w3_15, w3_17, w3_18, w3_21, w3_21n, w3_22, w3_23, w3_26, w3_29, w3_32, xk_n, xk_i, xk_r, xk_z, xk_l, xcs_0, xcs_i, xcs_r, xcs_z, xcs_l, Nat.reduceAdd, Nat.reduceLeDiff, Nat.reduceLT, true_and, and_true, Option.toList_some, Option.toList_none, List.nil_append, List.cons_append, List.getElem?_cons_zero, List.getElem?_cons_succ, List.set_cons_zero, List.set_cons_succ, List.length_cons, List.length_nil, y_bool0, y_bool1, not_true_eq_false, not_false_eq_true, false_implies, true_implies, true_or, or_true, false_or, or_false, if_true, if_false, ite_true, ite_false, z]
  exact wp_gt (m := mild fr (n + 1)) hE (by omega) (mild fr (n + 1)) 0 h1 (by omega) H1 fun h' H' F' => hK h' H' (F1.tr F')