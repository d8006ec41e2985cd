/-! ===== the program's calls: sign, set, ofVine, frost, trace, fault, many ===== -/
def opSign (s : St) (c : Int32) : Int32 := match nb c (gn (sE s)) with
  | none => -1
  | some c => Int32.ofNat (gs (sE s) c)
def opOfVine (s : St) (v w : Int32) : Int32 := match nb v (gv (sE s)) with
  | none => -1
  | some v => if w = 0 then Int32.ofNat (gk (sE s) v) else if w = 1 then Int32.ofNat (gp (sE s) v) else if w = 2 then Int32.ofNat (gh (sE s) v) else -2
def opMany (s : St) (w : Int32) : Int32 := if w = 0 then Int32.ofNat (gn (sE s)) else if w = 1 then Int32.ofNat (gw (sE s)) else if w = 2 then Int32.ofNat (gv (sE s)) else if w = 3 then Int32.ofNat (sRn s) else -2
theorem okS.v3 {s : St} (h : okS s) : gv (sE s) ≤ 3 := h.1.elim (fun z => z.2.1) (fun z => by have := z.2.1; omega)
theorem okS.n30 {s : St} (h : okS s) : gn (sE s) ≤ 30 := h.1.elim (fun z => z.1.2.2.1) (fun z => by have := z.1; omega)
theorem okS.ok {s : St} (h : okS s) {v : Nat} (hv : v < gv (sE s)) : okE (sE s) := h.1.elim id (fun z => by have := z.2.1; omega)
theorem okS.okn {s : St} (h : okS s) {c : Nat} (hc : c < gn (sE s)) : okE (sE s) := h.1.elim id (fun z => by have := z.1; omega)
section
variable {d : Nat} {h : xH} {K : Option Value → xH → Prop} {s : St}
theorem toInt_lit {x : Int32} (m : Nat) (hm : m < 1000) : (x.toInt = (m : Int)) = (x = Int32.ofNat m) := propext ⟨fun z => Int32.toInt_inj.mp (by rw [z, n_toInt (by omega)]), fun z => by rw [z, n_toInt (by omega)]⟩
theorem hc_t {c n : Nat} (hn : n ≤ 30) (h : c < n) : decide (0 ≤ Int32.ofNat c ∧ Int32.ofNat c < Int32.ofNat n) = true := plc h (by omega)
theorem cop_sign (H : RX h s) (c : Int32) (hK : K (some (.int (opSign s c))) h) : wp (d + 1) 43 0 [some (.ref 2), some (.int c)] [] h K := by
  obtain ⟨hO, e, em, er, vs, rs, H⟩ := H
  obtain ⟨X, L, B⟩ := H.2.1
  have hn := hO.n30
  have z10 : ((1 : Int32) = 0) = False := eq_false (by decide)
  rcases nb_cas c (m := gn (sE s)) (by omega) with ⟨a, ha, rfl, hnb⟩ | ⟨hc, hnb⟩
  · have e1 : opSign s (Int32.ofNat a) = Int32.ofNat (gs (sE s) a) := by unfold opSign; rw [hnb]
    rw [e1] at hK
    simp only [w43_0, w43_0n, w43_1, w43_4, w43_7, w43_8, w43_11, w43_14, w43_14n, w43_15, w43_18, w43_21, w43_22, w43_25, w43_28, w43_29, xk_n, xk_i, xk_r, xk_z, xk_l, xcs_0, xcs_i, xcs_r, xcs_z, xcs_l, Nat.reduceAdd, Nat.reduceLeDiff, Nat.reduceLT, true_and, and_true, Option.toList_some, Option.toList_none, List.nil_append, List.cons_append, List.getElem?_cons_zero, List.getElem?_cons_succ, List.set_cons_zero, List.set_cons_succ, List.length_cons, List.length_nil, y_bool0, y_bool1, not_true_eq_false, not_false_eq_true, false_implies, true_implies, true_or, or_true, false_or, or_false, if_true, if_false, ite_true, ite_false, y_get, H.1, B.bed, B.pl.cls, wp_hasCell B.pl, hc_t hn ha, bi_t, z10, wp_signOf (o := some a) B.pl (Or.inl ⟨a, rfl, ha, rfl⟩), sgO_s]
    exact hK
  · have e1 : opSign s c = -1 := by unfold opSign; rw [hnb]
    rw [e1] at hK
    simp only [w43_0, w43_0n, w43_1, w43_4, w43_7, w43_8, w43_11, w43_14, w43_14n, w43_15, w43_18, w43_21, w43_22, w43_25, w43_28, w43_29, xk_n, xk_i, xk_r, xk_z, xk_l, xcs_0, xcs_i, xcs_r, xcs_z, xcs_l, Nat.reduceAdd, Nat.reduceLeDiff, Nat.reduceLT, true_and, and_true, Option.toList_some, Option.toList_none, List.nil_append, List.cons_append, List.getElem?_cons_zero, List.getElem?_cons_succ, List.set_cons_zero, List.set_cons_succ, List.length_cons, List.length_nil, y_bool0, y_bool1, not_true_eq_false, not_false_eq_true, false_implies, true_implies, true_or, or_true, false_or, or_false, if_true, if_false, ite_true, ite_false, y_get, H.1, B.bed, B.pl.cls, wp_hasCell B.pl, plc_f hc, bi_f]
    exact hK
theorem cop_ofVine (H : RX h s) (v w : Int32) (hK : K (some (.int (opOfVine s v w))) h) : wp (d + 4) 46 0 [some (.ref 2), some (.int v), some (.int w), none] [] h K := by
  obtain ⟨hO, e, em, er, vs, rs, H⟩ := H
  obtain ⟨X, L, B⟩ := H.2.1
  have hv3 := hO.v3
  rcases nb_cas v (m := gv (sE s)) (by omega) with ⟨a, ha, rfl, hnb⟩ | ⟨hc, hnb⟩
  · have e1 : opOfVine s (Int32.ofNat a) w = if w = 0 then Int32.ofNat (gk (sE s) a) else if w = 1 then Int32.ofNat (gp (sE s) a) else if w = 2 then Int32.ofNat (gh (sE s) a) else -2 := by unfold opOfVine; rw [hnb]
    rw [e1] at hK
    have t0 : (w.toInt = 0) = (w = 0) := toInt_lit 0 (by omega)
    have t1 : (w.toInt = 1) = (w = 1) := toInt_lit 1 (by omega)
    have t2 : (w.toInt = 2) = (w = 2) := toInt_lit 2 (by omega)
    simp only [w46_0, w46_0n, w46_1, w46_4, w46_5, w46_8, w46_8n, w46_9, w46_9n, w46_10, w46_10n, w46_13, w46_14, w46_15, w46_16, w46_44, w46_44n, w46_45, w46_48, w46_49, w46_49n, w46_50, w46_53, w46_54, w46_54n, w46_55, w46_58, w46_59, w46_61, xk_n, xk_i, xk_r, xk_z, xk_l, xcs_0, xcs_i, xcs_r, xcs_z, xcs_l, Nat.reduceAdd, Nat.reduceLeDiff, Nat.reduceLT, true_and, and_true, Option.toList_some, Option.toList_none, List.nil_append, List.cons_append, List.getElem?_cons_zero, List.getElem?_cons_succ, List.set_cons_zero, List.set_cons_succ, List.length_cons, List.length_nil, y_bool0, y_bool1, not_true_eq_false, not_false_eq_true, false_implies, true_implies, true_or, or_true, false_or, or_false, if_true, if_false, ite_true, ite_false, y_get, H.1, B.bed, B.cls, wp_vineAt B hv3 ha, B.at ha, t0, t1, t2]
    refine ⟨fun z => ?_, fun z => ?_, fun z => ?_, fun z => ?_⟩
    · have q0 : ¬ w = 0 := by rintro rfl; revert z; decide
      have q1 : ¬ w = 1 := by rintro rfl; revert z; decide
      have q2 : ¬ w = 2 := by rintro rfl; revert z; decide
      rw [if_neg q0, if_neg q1, if_neg q2] at hK
      exact hK
    · subst z; exact hK
    · subst z; exact hK
    · subst z; exact hK
  · have e1 : opOfVine s v w = -1 := by unfold opOfVine; rw [hnb]
    rw [e1] at hK
    simp only [w46_0, w46_0n, w46_1, w46_4, w46_5, w46_8, w46_8n, w46_9, w46_9n, w46_10, w46_10n, w46_13, w46_14, w46_15, w46_16, w46_44, w46_44n, w46_45, w46_48, w46_49, w46_49n, w46_50, w46_53, w46_54, w46_54n, w46_55, w46_58, w46_59, w46_61, xk_n, xk_i, xk_r, xk_z, xk_l, xcs_0, xcs_i, xcs_r, xcs_z, xcs_l, Nat.reduceAdd, Nat.reduceLeDiff, Nat.reduceLT, true_and, and_true, Option.toList_some, Option.toList_none, List.nil_append, List.cons_append, List.getElem?_cons_zero, List.getElem?_cons_succ, List.set_cons_zero, List.set_cons_succ, List.length_cons, List.length_nil, y_bool0, y_bool1, not_true_eq_false, not_false_eq_true, false_implies, true_implies, true_or, or_true, false_or, or_false, if_true, if_false, ite_true, ite_false, y_get, H.1, B.bed, B.cls, wp_vineNo B hc]
    exact hK
theorem cop_many (H : RX h s) (w : Int32) (hK : K (some (.int (opMany s w))) h) : wp (d + 1) 73 0 [some (.ref 2), some (.int w)] [] h K := by
  obtain ⟨hO, e, em, er, vs, rs, H⟩ := H
  obtain ⟨X, L, B⟩ := H.2.1
  have t0 : (w.toInt = 0) = (w = 0) := toInt_lit 0 (by omega)
  have t1 : (w.toInt = 1) = (w = 1) := toInt_lit 1 (by omega)
  have t2 : (w.toInt = 2) = (w = 2) := toInt_lit 2 (by omega)
  have t3 : (w.toInt = 3) = (w = 3) := toInt_lit 3 (by omega)
  simp only [w73_0, w73_1, w73_32, w73_32n, w73_33, w73_36, w73_39, w73_42, w73_43, w73_43n, w73_44, w73_47, w73_50, w73_53, w73_54, w73_54n, w73_55, w73_58, w73_61, w73_64, w73_65, w73_65n, w73_66, w73_69, w73_72, w73_73, w73_75, xk_n, xk_i, xk_r, xk_z, xk_l, xcs_0, xcs_i, xcs_r, xcs_z, xcs_l, Nat.reduceAdd, Nat.reduceLeDiff, Nat.reduceLT, true_and, and_true, Option.toList_some, Option.toList_none, List.nil_append, List.cons_append, List.getElem?_cons_zero, List.getElem?_cons_succ, List.set_cons_zero, List.set_cons_succ, List.length_cons, List.length_nil, y_bool0, y_bool1, not_true_eq_false, not_false_eq_true, false_implies, true_implies, true_or, or_true, false_or, or_false, if_true, if_false, ite_true, ite_false, y_get, H.1, B.bed, B.pl.1, B.al.cls, wp_size B.al, H.2.2.2.1.cls, wp_size H.2.2.2.1, t0, t1, t2, t3]
  refine ⟨fun z => ?_, fun z => ?_, fun z => ?_, fun z => ?_, fun z => ?_⟩
  · have q0 : ¬ w = 0 := by rintro rfl; revert z; decide
    have q1 : ¬ w = 1 := by rintro rfl; revert z; decide
    have q2 : ¬ w = 2 := by rintro rfl; revert z; decide
    have q3 : ¬ w = 3 := by rintro rfl; revert z; decide
    have e1 : opMany s w = -2 := by unfold opMany; rw [if_neg q0, if_neg q1, if_neg q2, if_neg q3]
    rw [e1] at hK
    exact hK
  · subst z; exact hK
  · subst z; exact hK
  · subst z; exact hK
  · subst z; exact hK
end
