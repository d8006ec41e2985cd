/-! ===== the model: a vine grows ===== -/
theorem feF_find (P : Nat → Bool) (f s : Nat) : feF P f s 3 0 = [(f + 0 * s) % 4, (f + 1 * s) % 4, (f + 2 * s) % 4].find? P := by
  rw [feF_s, feF_s, feF_s]
  show (if P ((f + 0 * s) % 4) then some ((f + 0 * s) % 4) else if P ((f + 1 * s) % 4) then some ((f + 1 * s) % 4) else if P ((f + 2 * s) % 4) then some ((f + 2 * s) % 4) else none) = _
  rw [List.find?_cons, List.find?_cons, List.find?_cons, List.find?_nil]
  cases P ((f + 0 * s) % 4) <;> cases P ((f + 1 * s) % 4) <;> cases P ((f + 2 * s) % 4) <;> rfl
theorem feF_ord (P : Nat → Bool) {k hh : Nat} (hk : k < 3) (hh4 : hh < 4) : feF P (if k = 2 then (hh + 1) % 4 else (hh + 3) % 4) (if k = 2 then 3 else 1) 3 0 = (ord3 k hh).find? P := by
  rw [feF_find]
  have : ∀ k, k < 3 → ∀ hh, hh < 4 → [((if k = 2 then (hh + 1) % 4 else (hh + 3) % 4) + 0 * (if k = 2 then 3 else 1)) % 4, ((if k = 2 then (hh + 1) % 4 else (hh + 3) % 4) + 1 * (if k = 2 then 3 else 1)) % 4, ((if k = 2 then (hh + 1) % 4 else (hh + 3) % 4) + 2 * (if k = 2 then 3 else 1)) % 4] = ord3 k hh := by decide +kernel
  rw [this k hk hh hh4]
theorem find_np {F P : Nat → Bool} : ∀ {l : List Nat}, l.find? (fun d => F d && P d) = none → l.find? (fun d => F d && (P d == false)) = l.find? F
  | [], _ => rfl
  | a :: l, h => by
    rw [List.find?_cons] at h ⊢
    rw [List.find?_cons]
    cases q1 : F a
    · rw [q1] at h
      simp only [Bool.false_and] at h ⊢
      exact find_np h
    · cases q2 : P a
      · rfl
      · rw [q1, q2] at h
        cases h
theorem feB_any (E : Gd) (L t : Nat) (pr : Bool) : feB E L t pr true = isFr E L t := by
  funext dd
  unfold feB
  rw [Bool.true_or, Bool.and_true]
theorem feB_t (E : Gd) (L t : Nat) : feB E L t true false = fun dd => isFr E L t dd && isPr E t dd := by
  funext dd
  unfold feB
  cases isPr E t dd <;> rfl
theorem feB_f (E : Gd) (L t : Nat) : feB E L t false false = fun dd => isFr E L t dd && (isPr E t dd == false) := by
  funext dd
  unfold feB
  rw [Bool.false_or]
/-- only what is a vine's own of the model's rows is another -/
def OT (v : Nat) (A A' : Nat → Nat → Int32) : Prop := (∀ j, (j < 9 ∨ 15 < j) → A' j = A j) ∧ (∀ j, 9 ≤ j → j ≤ 14 → ∀ u, u ≠ v → A' j u = A j u) ∧ ∀ u c, u ≠ v → c < 30 → A' 15 (30 * u + c) = A 15 (30 * u + c)
theorem OT.rfl' {v : Nat} {A : Nat → Nat → Int32} : OT v A A := ⟨fun _ _ => rfl, fun _ _ _ _ _ => rfl, fun _ _ _ _ => rfl⟩
theorem OT.tr {v : Nat} {A B C : Nat → Nat → Int32} (a : OT v A B) (b : OT v B C) : OT v A C := ⟨fun j hj => (b.1 j hj).trans (a.1 j hj), fun j h1 h2 u hu => (b.2.1 j h1 h2 u hu).trans (a.2.1 j h1 h2 u hu), fun u c hu hc => (b.2.2 u c hu hc).trans (a.2.2 u c hu hc)⟩
theorem OT.st {v j : Nat} {A : Nat → Nat → Int32} (x : Int32) (h1 : 9 ≤ j) (h2 : j ≤ 14) : OT v A (upA A j (upd (A j) v x)) := by
  refine ⟨fun i hi => upA_ne _ _ (by omega), fun i i1 i2 u hu => ?_, fun u c _ _ => by rw [upA_ne _ _ (by omega)]⟩
  by_cases q : i = j
  · rw [q, upA_at, upd_ne _ _ hu]
  · rw [upA_ne _ _ q]
theorem OT.s15 {v c : Nat} {A : Nat → Nat → Int32} (x : Int32) (hc : c < 30) : OT v A (upA A 15 (upd (A 15) (30 * v + c) x)) := by
  refine ⟨fun i hi => upA_ne _ _ (by omega), fun i i1 i2 u hu => by rw [upA_ne _ _ (by omega)], fun u c' hu hc' => ?_⟩
  rw [upA_at, upd_ne _ _ (by omega)]
theorem bes_inj {w n c d d' x : Nat} (hw : okW w n) (hc : c < n) (hd : d < 4) (hd' : d' < 4) (h : bes w n c d = some x) (h' : bes w n c d' = some x) : d = d' := by
  have b1 := bes_back hw hc hd h
  have b2 := bes_back hw hc hd' h'
  obtain ⟨w2, w6, n30, hi, rfl⟩ := hw
  unfold bes at h h'
  match d, hd, d', hd' with
  | 0, _, 0, _ => rfl
  | 1, _, 1, _ => rfl
  | 2, _, 2, _ => rfl
  | 3, _, 3, _ => rfl
  | 0, _, 1, _ => simp only at h h'; split at h <;> split at h' <;> simp at h h'; omega
  | 0, _, 2, _ => simp only at h h'; split at h <;> split at h' <;> simp at h h'; omega
  | 0, _, 3, _ => simp only at h h'; split at h <;> split at h' <;> simp at h h'; omega
  | 1, _, 0, _ => simp only at h h'; split at h <;> split at h' <;> simp at h h'; omega
  | 1, _, 2, _ => simp only at h h'; split at h <;> split at h' <;> simp at h h'; omega
  | 1, _, 3, _ => simp only at h h'; split at h <;> split at h' <;> simp at h h'; omega
  | 2, _, 0, _ => simp only at h h'; split at h <;> split at h' <;> simp at h h'; omega
  | 2, _, 1, _ => simp only at h h'; split at h <;> split at h' <;> simp at h h'; omega
  | 2, _, 3, _ => simp only at h h'; split at h <;> split at h' <;> simp at h h'; omega
  | 3, _, 0, _ => simp only at h h'; split at h <;> split at h' <;> simp at h h'; omega
  | 3, _, 1, _ => simp only at h h'; split at h <;> split at h' <;> simp at h h'; omega
  | 3, _, 2, _ => simp only at h h'; split at h <;> split at h' <;> simp at h h'; omega
section
variable {d : Nat} {h : xH} {K : Option Value → xH → Prop} {fa tr p rH rW nr : Int32} {A : Nat → Nat → Int32} {hi : Nat} {E : Gd} {fr : Nat → Bool} {D : Nat → Vs} {v : Nat}
theorem wp_mfels {f : Nat} {pr any : Bool} (H : MH h fa tr (Int32.ofNat hi) (Int32.ofNat (gw E)) (Int32.ofNat (gv E)) p rH rW nr A) (hgn : gn E = hi * gw E) (G : GA E fr A) (hE : okE E) (hs4 : ∀ c, c < gn E → gs E c < 4) (hG : okG E D) (R : RG E A D) (hv : v < gv E) (hf : f < 4) : wp (d + 1) 115 0 [some (.ref 25), some (.int (Int32.ofNat v)), some (.int (Int32.ofNat f)), some (.int (bi pr)), some (.int (bi any)), none, none, none, none] [] h K ↔ K (some (.int (oC (feF (feB E (allL D (gv E)) (vt (D v)) pr any) f (if gk E v = 2 then 3 else 1) 3 0)))) h := by
  have hv3 := hE.2.1
  have hk3 := (hE.2.2 v hv).1
  have t2 : (Int32.ofNat (gk E v) = 2) = (gk E v = 2) := propext (n_eql (m := 2) (by omega) (by omega))
  have z0 : (0 : Int32) = Int32.ofNat 0 := rfl
  have z1 : (1 : Int32) = Int32.ofNat 1 := rfl
  have z3 : (3 : Int32) = Int32.ofNat 3 := rfl
  rw [← wp_mfel (d := d) (K := K) (pr := pr) (any := any) H hgn G hE hs4 hG R hv hf (show (if gk E v = 2 then 3 else 1) < 4 by split <;> omega) 3 0 none none (by omega)]
  simp only [w115_0, w115_0n, w115_1, w115_4, w115_5, w115_6, w115_7, w115_10, w115_11, w115_14, w115_15, w115_17, w115_18, w115_22, w115_23, w115_26, w115_27, w115_29, w115_31, w115_32, w115_33, w115_34, w115_35, w115_37, w115_37n, w115_38, w115_38n, w115_39, w115_42, w115_43, w115_44, w115_46, w115_49, w115_51, w115_51n, w115_52, w115_54, w115_57, w115_60, w115_62, w115_65, w115_65n, w115_66, w115_69, w115_71, w115_72, w115_73, w115_76, w115_77, w115_80, w115_81, w115_82, w115_85, w115_87, w115_88, w115_91, w115_94, w115_96, xk_n, xk_i, xk_r, xk_z, xk_l, xcs_0, xcs_i, xcs_r, xcs_z, xcs_l, Nat.reduceAdd, Nat.reduceLeDiff, Nat.reduceLT, true_and, and_true, Option.toList_some, Option.toList_none, List.nil_append, List.cons_append, List.getElem?_cons_zero, List.getElem?_cons_succ, List.set_cons_zero, List.set_cons_succ, List.length_cons, List.length_nil, y_bool0, y_bool1, not_true_eq_false, not_false_eq_true, false_implies, true_implies, true_or, or_true, false_or, or_false, if_true, if_false, ite_true, ite_false, y_get, H.o, H.ld4 (show v < 3 by omega), (G.2.1 v hv).1, t2]
  rw [z0]
  by_cases q : gk E v = 2
  · simp only [q, xk_n, xk_i, xk_r, xk_z, xk_l, xcs_0, xcs_i, xcs_r, xcs_z, xcs_l, Nat.reduceAdd, Nat.reduceLeDiff, Nat.reduceLT, true_and, and_true, Option.toList_some, Option.toList_none, List.nil_append, List.cons_append, List.getElem?_cons_zero, List.getElem?_cons_succ, List.set_cons_zero, List.set_cons_succ, List.length_cons, List.length_nil, y_bool0, y_bool1, not_true_eq_false, not_false_eq_true, false_implies, true_implies, true_or, or_true, false_or, or_false, if_true, if_false, ite_true, ite_false]
    exact Iff.rfl
  · simp only [q, xk_n, xk_i, xk_r, xk_z, xk_l, xcs_0, xcs_i, xcs_r, xcs_z, xcs_l, Nat.reduceAdd, Nat.reduceLeDiff, Nat.reduceLT, true_and, and_true, Option.toList_some, Option.toList_none, List.nil_append, List.cons_append, List.getElem?_cons_zero, List.getElem?_cons_succ, List.set_cons_zero, List.set_cons_succ, List.length_cons, List.length_nil, y_bool0, y_bool1, not_true_eq_false, not_false_eq_true, false_implies, true_implies, true_or, or_true, false_or, or_false, if_true, if_false, ite_true, ite_false]
    exact Iff.rfl
theorem wp_mgo (H : MH h fa tr (Int32.ofNat hi) (Int32.ofNat (gw E)) (Int32.ofNat (gv E)) p rH rW nr A) (hgn : gn E = hi * gw E) (G : GA E fr A) (hE : okE E) (hs4 : ∀ c, c < gn E → gs E c < 4) (hG : okG E D) (R : RG E A D) (hv : v < gv E) : wp (d + 2) 116 0 [some (.ref 25), some (.int (Int32.ofNat v)), none, none] [] h K ↔ K (some (.int (oC (wayOf E (allL D (gv E)) (gk E v) (vt (D v)) (vh (D v)))))) h := by
  have hv3 := hE.2.1
  have hk3 := (hE.2.2 v hv).1
  have hh4 := (hG v hv).2.2.2.2.2.1
  have t2 : (Int32.ofNat (gk E v) = 2) = (gk E v = 2) := propext (n_eql (m := 2) (by omega) (by omega))
  have t0 : (Int32.ofNat (gk E v) = 0) = (gk E v = 0) := propext (n_eql (m := 0) (by omega) (by omega))
  have z5 : ((4 : Int32) = 0) = False := eq_false (by decide)
  have a1 : Int32.ofNat (vh (D v)) + 1 = Int32.ofNat (vh (D v) + 1) := n_addl _ 1
  have a3 : Int32.ofNat (vh (D v)) + 3 = Int32.ofNat (vh (D v) + 3) := n_addl _ 3
  have m1 : Int32.ofNat (vh (D v) + 1) - Int32.ofNat (vh (D v) + 1) / 4 * 4 = Int32.ofNat ((vh (D v) + 1) % 4) := by
    have := n_mod (a := vh (D v) + 1) (b := 4) (by omega) (by omega)
    exact this
  have m3 : Int32.ofNat (vh (D v) + 3) - Int32.ofNat (vh (D v) + 3) / 4 * 4 = Int32.ofNat ((vh (D v) + 3) % 4) := by
    have := n_mod (a := vh (D v) + 3) (b := 4) (by omega) (by omega)
    exact this
  have b0 : (0 : Int32) = bi false := rfl
  have b1 : (1 : Int32) = bi true := rfl
  have main : ∀ f, f < 4 → f = (if gk E v = 2 then (vh (D v) + 1) % 4 else (vh (D v) + 3) % 4) → (wp (d + 2) 116 34 [some (.ref 25), some (.int (Int32.ofNat v)), some (.int (Int32.ofNat f)), none] [] h K ↔ K (some (.int (oC (wayOf E (allL D (gv E)) (gk E v) (vt (D v)) (vh (D v)))))) h) := by
    intro f hf hfe
    have f1 := fun K => wp_mfels (d := d) (K := K) (pr := false) (any := true) H hgn G hE hs4 hG R hv hf
    have f2 := fun K => wp_mfels (d := d) (K := K) (pr := true) (any := false) H hgn G hE hs4 hG R hv hf
    have f3 := fun K => wp_mfels (d := d) (K := K) (pr := false) (any := false) H hgn G hE hs4 hG R hv hf
    rw [hfe, feF_ord _ hk3 hh4, feB_any, ← hfe, bi_f, bi_t] at f1
    rw [hfe, feF_ord _ hk3 hh4, feB_t, ← hfe, bi_f, bi_t] at f2
    rw [hfe, feF_ord _ hk3 hh4, feB_f, ← hfe, bi_f] at f3
    simp only [w116_0, w116_0n, w116_1, w116_4, w116_5, w116_6, w116_7, w116_10, w116_10n, w116_11, w116_14, w116_15, w116_16, w116_17, w116_18, w116_19, w116_20, w116_23, w116_23n, w116_24, w116_27, w116_28, w116_29, w116_30, w116_31, w116_32, w116_33, w116_34, w116_34n, w116_35, w116_38, w116_39, w116_40, w116_43, w116_43n, w116_44, w116_45, w116_46, w116_47, w116_48, w116_51, w116_52, w116_52n, w116_53, w116_54, w116_55, w116_56, w116_57, w116_60, w116_61, w116_62, w116_64, w116_67, w116_67n, w116_68, w116_69, w116_70, w116_71, w116_72, w116_75, w116_78, w116_79, xk_n, xk_i, xk_r, xk_z, xk_l, xcs_0, xcs_i, xcs_r, xcs_z, xcs_l, Nat.reduceAdd, Nat.reduceLeDiff, Nat.reduceLT, true_and, and_true, Option.toList_some, Option.toList_none, List.nil_append, List.cons_append, List.getElem?_cons_zero, List.getElem?_cons_succ, List.set_cons_zero, List.set_cons_succ, List.length_cons, List.length_nil, y_bool0, y_bool1, not_true_eq_false, not_false_eq_true, false_implies, true_implies, true_or, or_true, false_or, or_false, if_true, if_false, ite_true, ite_false, y_get, H.o, H.ld4 (show v < 3 by omega), (G.2.1 v hv).1, t0, H.cls, f1, f2, f3]
    unfold wayOf
    by_cases q : gk E v = 0
    · simp only [q, xk_n, xk_i, xk_r, xk_z, xk_l, xcs_0, xcs_i, xcs_r, xcs_z, xcs_l, Nat.reduceAdd, Nat.reduceLeDiff, Nat.reduceLT, true_and, and_true, Option.toList_some, Option.toList_none, List.nil_append, List.cons_append, List.getElem?_cons_zero, List.getElem?_cons_succ, List.set_cons_zero, List.set_cons_succ, List.length_cons, List.length_nil, y_bool0, y_bool1, not_true_eq_false, not_false_eq_true, false_implies, true_implies, true_or, or_true, false_or, or_false, if_true, if_false, ite_true, ite_false]
    · simp only [q, xk_n, xk_i, xk_r, xk_z, xk_l, xcs_0, xcs_i, xcs_r, xcs_z, xcs_l, Nat.reduceAdd, Nat.reduceLeDiff, Nat.reduceLT, true_and, and_true, Option.toList_some, Option.toList_none, List.nil_append, List.cons_append, List.getElem?_cons_zero, List.getElem?_cons_succ, List.set_cons_zero, List.set_cons_succ, List.length_cons, List.length_nil, y_bool0, y_bool1, not_true_eq_false, not_false_eq_true, false_implies, true_implies, true_or, or_true, false_or, or_false, if_true, if_false, ite_true, ite_false]
      cases q2 : (ord3 (gk E v) (vh (D v))).find? (fun dd => isFr E (allL D (gv E)) (vt (D v)) dd && isPr E (vt (D v)) dd) with
      | none =>
        have o9 : (oC none = -9) = True := eq_true rfl
        rw [find_np q2]
        simp only [o9, xk_n, xk_i, xk_r, xk_z, xk_l, xcs_0, xcs_i, xcs_r, xcs_z, xcs_l, Nat.reduceAdd, Nat.reduceLeDiff, Nat.reduceLT, true_and, and_true, Option.toList_some, Option.toList_none, List.nil_append, List.cons_append, List.getElem?_cons_zero, List.getElem?_cons_succ, List.set_cons_zero, List.set_cons_succ, List.length_cons, List.length_nil, y_bool0, y_bool1, not_true_eq_false, not_false_eq_true, false_implies, true_implies, true_or, or_true, false_or, or_false, if_true, if_false, ite_true, ite_false]
      | some dd =>
        have hdd := ord3_lt hh4 (List.mem_of_find?_eq_some q2)
        have o9 : (oC (some dd) = -9) = False := eq_false (n_ne9 (a := dd) (by omega))
        simp only [o9, xk_n, xk_i, xk_r, xk_z, xk_l, xcs_0, xcs_i, xcs_r, xcs_z, xcs_l, Nat.reduceAdd, Nat.reduceLeDiff, Nat.reduceLT, true_and, and_true, Option.toList_some, Option.toList_none, List.nil_append, List.cons_append, List.getElem?_cons_zero, List.getElem?_cons_succ, List.set_cons_zero, List.set_cons_succ, List.length_cons, List.length_nil, y_bool0, y_bool1, not_true_eq_false, not_false_eq_true, false_implies, true_implies, true_or, or_true, false_or, or_false, if_true, if_false, ite_true, ite_false]
  simp only [w116_0, w116_0n, w116_1, w116_4, w116_5, w116_6, w116_7, w116_10, w116_10n, w116_11, w116_14, w116_15, w116_16, w116_17, w116_18, w116_19, w116_20, w116_23, w116_23n, w116_24, w116_27, w116_28, w116_29, w116_30, w116_31, w116_32, w116_33, w116_35, w116_38, w116_39, w116_40, w116_43, w116_43n, w116_44, w116_45, w116_46, w116_47, w116_48, w116_51, w116_52, w116_52n, w116_53, w116_54, w116_55, w116_56, w116_57, w116_60, w116_61, w116_62, w116_64, w116_67, w116_67n, w116_68, w116_69, w116_70, w116_71, w116_72, w116_75, w116_78, w116_79, xk_n, xk_i, xk_r, xk_z, xk_l, xcs_0, xcs_i, xcs_r, xcs_z, xcs_l, Nat.reduceAdd, Nat.reduceLeDiff, Nat.reduceLT, true_and, and_true, Option.toList_some, Option.toList_none, List.nil_append, List.cons_append, List.getElem?_cons_zero, List.getElem?_cons_succ, List.set_cons_zero, List.set_cons_succ, List.length_cons, List.length_nil, y_bool0, y_bool1, not_true_eq_false, not_false_eq_true, false_implies, true_implies, true_or, or_true, false_or, or_false, if_true, if_false, ite_true, ite_false, y_get, H.o, H.ld4 (show v < 3 by omega), H.ld10 (show v < 3 by omega), (R v hv).2.1, (G.2.1 v hv).1, t2, z5, a1, a3, m1, m3]
  by_cases q : gk E v = 2
  · have := main ((vh (D v) + 1) % 4) (Nat.mod_lt _ (by omega)) (if_pos q).symm
    rw [q] at this
    simp only [q, xk_n, xk_i, xk_r, xk_z, xk_l, xcs_0, xcs_i, xcs_r, xcs_z, xcs_l, Nat.reduceAdd, Nat.reduceLeDiff, Nat.reduceLT, true_and, and_true, Option.toList_some, Option.toList_none, List.nil_append, List.cons_append, List.getElem?_cons_zero, List.getElem?_cons_succ, List.set_cons_zero, List.set_cons_succ, List.length_cons, List.length_nil, y_bool0, y_bool1, not_true_eq_false, not_false_eq_true, false_implies, true_implies, true_or, or_true, false_or, or_false, if_true, if_false, ite_true, ite_false]
    exact this
  · have := main ((vh (D v) + 3) % 4) (Nat.mod_lt _ (by omega)) (if_neg q).symm
    simp only [q, xk_n, xk_i, xk_r, xk_z, xk_l, xcs_0, xcs_i, xcs_r, xcs_z, xcs_l, Nat.reduceAdd, Nat.reduceLeDiff, Nat.reduceLT, true_and, and_true, Option.toList_some, Option.toList_none, List.nil_append, List.cons_append, List.getElem?_cons_zero, List.getElem?_cons_succ, List.set_cons_zero, List.set_cons_succ, List.length_cons, List.length_nil, y_bool0, y_bool1, not_true_eq_false, not_false_eq_true, false_implies, true_implies, true_or, or_true, false_or, or_false, if_true, if_false, ite_true, ite_false]
    exact this
end
