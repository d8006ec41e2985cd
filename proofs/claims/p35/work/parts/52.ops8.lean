/-! ===== the program's calls: prop, closed, first ===== -/
section
variable {d : Nat} {K : Option Value → xH → Prop} {e : Nat} {E : Gd} {fr : Nat → Bool} {vs : Nat → Nat}
end
section
variable {d : Nat} {h : xH} {K : Option Value → xH → Prop} {s : St}
theorem RX.cls (H : RX h s) : y_cls h 2 7 := by obtain ⟨hO, e, em, er, vs, rs, H⟩ := H; exact H.cls
end
/-- the first one that is out -/
def fiF (o : Nat → Option Nat) : Nat → Option Nat × Option Nat
  | 0 => (none, none)
  | v + 1 => if earO (o v) (fiF o v).2 then (some v, o v) else fiF o v
theorem fiF_s (o : Nat → Option Nat) (v : Nat) : fiF o (v + 1) = if earO (o v) (fiF o v).2 then (some v, o v) else fiF o v := rfl
def opFirst (s : St) : Int32 := if gn (sE s) = 0 then -3 else oC (fiF (fun v => vo (atD s v 79)) (gv (sE s))).1
theorem fiF_lt {o : Nat → Option Nat} (ho : ∀ v m, o v = some m → m < 80) : ∀ k m, (fiF o k).2 = some m → m < 80
  | 0, m, h => by cases h
  | k + 1, m, h => by
    rw [fiF_s] at h
    split at h
    · exact ho k m h
    · exact fiF_lt ho k m h
def oN (o : Option Nat) : Int32 := match o with
  | none => 80
  | some m => Int32.ofNat m
section
variable {d : Nat} {K : Option Value → xH → Prop} {e : Nat} {E : Gd} {fr : Nat → Bool} {vs : Nat → Nat}
theorem wp_fi {t f : Int32} {a b c : Nat} {G : Nat → Vs} {h : xH} (hv3 : gv E ≤ 3) (h2 : h[2]? = some (.inr (7, [.ref 3, .ref a, .ref b, .ref c, .int t, .int f]))) (B : BG h 3 e E fr vs G) (ho : ∀ v m, vo (G v) = some m → m < 80) (hK : K (some (.int (oC (fiF (fun v => vo (G v)) (gv E)).1))) h) : ∀ (j k : Nat) (l4 : Option Value), k + j = gv E → wp (d + 3) 57 33 [some (.ref 2), some (.int (oC (fiF (fun v => vo (G v)) k).1)), some (.int (oN (fiF (fun v => vo (G v)) k).2)), some (.int (Int32.ofNat k)), l4] [] h K
  | 0, k, l4, hj => by
    have hkn : k = gv E := by omega
    subst hkn
    have q : Int32.ofNat (gv E) ≤ Int32.ofNat (gv E) := (n_le (by omega) (by omega)).mpr (by omega)
    rw [w57_33]
    simp only [w57_0, w57_0n, w57_1, w57_4, w57_7, w57_10, w57_13, w57_15, w57_16, w57_16n, w57_17, w57_20, w57_22, w57_25, w57_27, w57_28, w57_30, w57_31, w57_32, w57_34, w57_34n, w57_35, w57_38, w57_41, w57_44, w57_47, w57_47n, w57_48, w57_51, w57_54, w57_55, w57_58, w57_58n, w57_61, w57_64, w57_66, w57_68, w57_69, w57_72, w57_74, w57_75, w57_78, w57_79, w57_80, w57_82, w57_83, w57_86, w57_89, w57_90, xk_n, xk_i, xk_r, xk_z, xk_l, xcs_0, xcs_i, xcs_r, xcs_z, xcs_l, Nat.reduceAdd, Nat.reduceLeDiff, Nat.reduceLT, true_and, and_true, Option.toList_some, Option.toList_none, List.nil_append, List.cons_append, List.getElem?_cons_zero, List.getElem?_cons_succ, List.set_cons_zero, List.set_cons_succ, List.length_cons, List.length_nil, y_bool0, y_bool1, not_true_eq_false, not_false_eq_true, false_implies, true_implies, true_or, or_true, false_or, or_false, if_true, if_false, ite_true, ite_false, y_get, h2, B.bed, B.al.cls, wp_size B.al, q]
    exact hK
  | j + 1, k, l4, hj => by
    have hkv : k < gv E := by omega
    have q : (Int32.ofNat (gv E) ≤ Int32.ofNat k) = False := eq_false (by rw [n_le (by omega) (by omega)]; omega)
    have z8 : Int32.ofNat k + 1 = Int32.ofNat (k + 1) := n_addl k 1
    have ih := wp_fi hv3 h2 B ho hK j (k + 1)
    have ls := fiF_s (fun v => vo (G v)) k
    have hlt := fiF_lt (o := fun v => vo (G v)) ho k
    rw [w57_33]
    simp only [w57_0, w57_0n, w57_1, w57_4, w57_7, w57_10, w57_13, w57_15, w57_16, w57_16n, w57_17, w57_20, w57_22, w57_25, w57_27, w57_28, w57_30, w57_31, w57_32, w57_34, w57_34n, w57_35, w57_38, w57_41, w57_44, w57_47, w57_47n, w57_48, w57_51, w57_54, w57_55, w57_58, w57_58n, w57_61, w57_64, w57_66, w57_68, w57_69, w57_72, w57_74, w57_75, w57_78, w57_79, w57_80, w57_82, w57_83, w57_86, w57_89, w57_90, xk_n, xk_i, xk_r, xk_z, xk_l, xcs_0, xcs_i, xcs_r, xcs_z, xcs_l, Nat.reduceAdd, Nat.reduceLeDiff, Nat.reduceLT, true_and, and_true, Option.toList_some, Option.toList_none, List.nil_append, List.cons_append, List.getElem?_cons_zero, List.getElem?_cons_succ, List.set_cons_zero, List.set_cons_succ, List.length_cons, List.length_nil, y_bool0, y_bool1, not_true_eq_false, not_false_eq_true, false_implies, true_implies, true_or, or_true, false_or, or_false, if_true, if_false, ite_true, ite_false, y_get, h2, B.bed, B.al.cls, wp_size B.al, q, wp_get B.al hkv, B.vcls hkv, B.at hkv, vsX, z8]
    cases q1 : vo (G k) with
    | none =>
      have q2 : oM none = -1 := rfl
      rw [q1] at ls
      rw [show earO none (fiF (fun v => vo (G v)) k).2 = false by cases (fiF (fun v => vo (G v)) k).2 <;> rfl, if_neg (by simp)] at ls
      simp only [q2, xk_n, xk_i, xk_r, xk_z, xk_l, xcs_0, xcs_i, xcs_r, xcs_z, xcs_l, Nat.reduceAdd, Nat.reduceLeDiff, Nat.reduceLT, true_and, and_true, Option.toList_some, Option.toList_none, List.nil_append, List.cons_append, List.getElem?_cons_zero, List.getElem?_cons_succ, List.set_cons_zero, List.set_cons_succ, List.length_cons, List.length_nil, y_bool0, y_bool1, not_true_eq_false, not_false_eq_true, false_implies, true_implies, true_or, or_true, false_or, or_false, if_true, if_false, ite_true, ite_false]
      rw [← ls]
      exact ih _ (by omega)
    | some m =>
      have hm := ho k m q1
      have q2 : (oM (some m) = -1) = False := eq_false (n_ne1 (a := m) (by omega))
      rw [q1] at ls
      simp only [q2, xk_n, xk_i, xk_r, xk_z, xk_l, xcs_0, xcs_i, xcs_r, xcs_z, xcs_l, Nat.reduceAdd, Nat.reduceLeDiff, Nat.reduceLT, true_and, and_true, Option.toList_some, Option.toList_none, List.nil_append, List.cons_append, List.getElem?_cons_zero, List.getElem?_cons_succ, List.set_cons_zero, List.set_cons_succ, List.length_cons, List.length_nil, y_bool0, y_bool1, not_true_eq_false, not_false_eq_true, false_implies, true_implies, true_or, or_true, false_or, or_false, if_true, if_false, ite_true, ite_false]
      cases q3 : (fiF (fun v => vo (G v)) k).2 with
      | none =>
        have q4 : (80 ≤ oM (some m)) = False := eq_false (by show ¬ (80 ≤ Int32.ofNat m); have := n_lle (m := 80) (a := m) (by omega) (by omega); rw [this]; omega)
        have q5 : oN none = 80 := rfl
        rw [q3] at ls
        rw [show earO (some m) none = true from rfl, if_pos rfl] at ls
        simp only [q5, q4, xk_n, xk_i, xk_r, xk_z, xk_l, xcs_0, xcs_i, xcs_r, xcs_z, xcs_l, Nat.reduceAdd, Nat.reduceLeDiff, Nat.reduceLT, true_and, and_true, Option.toList_some, Option.toList_none, List.nil_append, List.cons_append, List.getElem?_cons_zero, List.getElem?_cons_succ, List.set_cons_zero, List.set_cons_succ, List.length_cons, List.length_nil, y_bool0, y_bool1, not_true_eq_false, not_false_eq_true, false_implies, true_implies, true_or, or_true, false_or, or_false, if_true, if_false, ite_true, ite_false]
        have e1 : Int32.ofNat k = oC (fiF (fun v => vo (G v)) (k + 1)).1 := by rw [ls]; rfl
        have e2 : oM (some m) = oN (fiF (fun v => vo (G v)) (k + 1)).2 := by rw [ls]; rfl
        have := ih (some (.int (oM (some m)))) (by omega)
        rw [← e1, ← e2] at this
        exact this
      | some y =>
        have hy := hlt y q3
        have q4 : (oN (some y) ≤ oM (some m)) = (y ≤ m) := propext (n_le (by omega) (by omega))
        rw [q3] at ls
        rw [show earO (some m) (some y) = decide (m < y) from rfl] at ls
        simp only [q4, xk_n, xk_i, xk_r, xk_z, xk_l, xcs_0, xcs_i, xcs_r, xcs_z, xcs_l, Nat.reduceAdd, Nat.reduceLeDiff, Nat.reduceLT, true_and, and_true, Option.toList_some, Option.toList_none, List.nil_append, List.cons_append, List.getElem?_cons_zero, List.getElem?_cons_succ, List.set_cons_zero, List.set_cons_succ, List.length_cons, List.length_nil, y_bool0, y_bool1, not_true_eq_false, not_false_eq_true, false_implies, true_implies, true_or, or_true, false_or, or_false, if_true, if_false, ite_true, ite_false]
        by_cases c1 : y ≤ m
        · refine ⟨fun _ => ?_, fun z => absurd c1 z⟩
          rw [decide_eq_false (by omega), if_neg (by simp)] at ls
          have := ih (some (.int (oM (some m)))) (by omega)
          rw [ls, q3] at this
          exact this
        · refine ⟨fun z => absurd z c1, fun _ => ?_⟩
          rw [decide_eq_true (by omega), if_pos rfl] at ls
          have e1 : Int32.ofNat k = oC (fiF (fun v => vo (G v)) (k + 1)).1 := by rw [ls]; rfl
          have e2 : oM (some m) = oN (fiF (fun v => vo (G v)) (k + 1)).2 := by rw [ls]; rfl
          have := ih (some (.int (oM (some m)))) (by omega)
          rw [← e1, ← e2] at this
          exact this
end
theorem cop_first {d : Nat} {h : xH} {K : Option Value → xH → Prop} {s : St} (H : RX h s) (hK : ∀ h', RX h' s → FR CP 0 0 h h' → K (some (.int (opFirst s))) h') : wp (d + 5) 57 0 [some (.ref 2), none, none, none, none] [] h K := by
  have HX := H
  obtain ⟨hO, e, em, er, vs, rs, H⟩ := H
  have H0 := H
  obtain ⟨X, L, B⟩ := H.2.1
  have hv3 := hO.v3
  have z10 : ((1 : Int32) = 0) = False := eq_false (by decide)
  by_cases q : gn (sE s) = 0
  · have e1 : opFirst s = -3 := if_pos q
    rw [e1] at hK
    have qd : decide (gn (sE s) = 0) = true := decide_eq_true q
    simp only [w57_0, w57_0n, w57_1, w57_4, w57_7, w57_10, w57_13, w57_15, w57_16, w57_16n, w57_17, w57_20, w57_22, w57_25, w57_27, w57_28, w57_30, w57_31, w57_32, w57_34, w57_34n, w57_35, w57_38, w57_41, w57_44, w57_47, w57_47n, w57_48, w57_51, w57_54, w57_55, w57_58, w57_58n, w57_61, w57_64, w57_66, w57_68, w57_69, w57_72, w57_74, w57_75, w57_78, w57_79, w57_80, w57_82, w57_83, w57_86, w57_89, w57_90, xk_n, xk_i, xk_r, xk_z, xk_l, xcs_0, xcs_i, xcs_r, xcs_z, xcs_l, Nat.reduceAdd, Nat.reduceLeDiff, Nat.reduceLT, true_and, and_true, Option.toList_some, Option.toList_none, List.nil_append, List.cons_append, List.getElem?_cons_zero, List.getElem?_cons_succ, List.set_cons_zero, List.set_cons_succ, List.length_cons, List.length_nil, y_bool0, y_bool1, not_true_eq_false, not_false_eq_true, false_implies, true_implies, true_or, or_true, false_or, or_false, if_true, if_false, ite_true, ite_false, y_get, H.1, B.bed, B.pl.cls, wp_isMissing B.pl, qd, bi_t, z10]
    exact hK h HX FR.rfl'
  · have e1 : opFirst s = oC (fiF (fun v => vo (atD s v 79)) (gv (sE s))).1 := if_neg q
    rw [e1] at hK
    have hE := hO.okn (c := 0) (by omega)
    have qd : decide (gn (sE s) = 0) = false := decide_eq_false q
    have z79 : (79 : Int32) = Int32.ofNat 79 := rfl
    have z0 : (0 : Int32) = Int32.ofNat 0 := rfl
    simp only [w57_0, w57_0n, w57_1, w57_4, w57_7, w57_10, w57_13, w57_15, w57_16, w57_16n, w57_17, w57_20, w57_22, w57_25, w57_27, w57_28, w57_30, w57_31, w57_32, w57_34, w57_34n, w57_35, w57_38, w57_41, w57_44, w57_47, w57_47n, w57_48, w57_51, w57_54, w57_55, w57_58, w57_58n, w57_61, w57_64, w57_66, w57_68, w57_69, w57_72, w57_74, w57_75, w57_78, w57_79, w57_80, w57_82, w57_83, w57_86, w57_89, w57_90, xk_n, xk_i, xk_r, xk_z, xk_l, xcs_0, xcs_i, xcs_r, xcs_z, xcs_l, Nat.reduceAdd, Nat.reduceLeDiff, Nat.reduceLT, true_and, and_true, Option.toList_some, Option.toList_none, List.nil_append, List.cons_append, List.getElem?_cons_zero, List.getElem?_cons_succ, List.set_cons_zero, List.set_cons_succ, List.length_cons, List.length_nil, y_bool0, y_bool1, not_true_eq_false, not_false_eq_true, false_implies, true_implies, true_or, or_true, false_or, or_false, if_true, if_false, ite_true, ite_false, y_get, H.1, B.bed, B.pl.cls, wp_isMissing B.pl, qd, bi_f, B.cls]
    rw [z79]
    refine wp_growTo hE ⟨X, L, B⟩ (show 79 < 80 by omega) fun h' H' F' => ?_
    have R := H0.G H'.x F'
    simp only [w57_0, w57_0n, w57_1, w57_4, w57_7, w57_10, w57_13, w57_15, w57_16, w57_16n, w57_17, w57_20, w57_22, w57_25, w57_27, w57_28, w57_30, w57_31, w57_32, w57_34, w57_34n, w57_35, w57_38, w57_41, w57_44, w57_47, w57_47n, w57_48, w57_51, w57_54, w57_55, w57_58, w57_58n, w57_61, w57_64, w57_66, w57_68, w57_69, w57_72, w57_74, w57_75, w57_78, w57_79, w57_80, w57_82, w57_83, w57_86, w57_89, w57_90, xk_n, xk_i, xk_r, xk_z, xk_l, xcs_0, xcs_i, xcs_r, xcs_z, xcs_l, Nat.reduceAdd, Nat.reduceLeDiff, Nat.reduceLT, true_and, and_true, Option.toList_some, Option.toList_none, List.nil_append, List.cons_append, List.getElem?_cons_zero, List.getElem?_cons_succ, List.set_cons_zero, List.set_cons_succ, List.length_cons, List.length_nil, y_bool0, y_bool1, not_true_eq_false, not_false_eq_true, false_implies, true_implies, true_or, or_true, false_or, or_false, if_true, if_false, ite_true, ite_false]
    rw [z0]
    refine wp_fi (G := runM (sE s) (mild (sFr s) (79 + 1))) hv3 R.1.1 H' (fun v m hm => ?_) (hK h' ⟨hO, e, em, er, vs, rs, R.1⟩ R.2) (gv (sE s)) 0 none (by omega)
    have := runM_vo hm
    have := mild_k (sFr s) (79 + 1)
    omega
