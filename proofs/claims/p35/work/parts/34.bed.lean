/-! ===== the program: a bed ===== -/
theorem sgO_s (s : Nat → Nat) (c : Nat) : sgO s (some c) = s c := rfl
theorem lg0 {a : Nat} (ha : a < 2) : lg_cmp (Int64.ofNat a) 0 = Int32.ofNat a := by
  have : a = 0 ∨ a = 1 := by omega
  rcases this with rfl | rfl <;> decide
theorem wp_fws {d : Nat} {h : xH} {K : Option Value → xH → Prop} {q a w n p k hd dd L : Nat} {E : Gd} {x : Vs} {wo : Option Nat} {kk : Int32} {l4 l5 l6 l7 : Option Value} (hP : PL h (q + 1) (gw E) (gn E) (gs E)) (hw : okW (gw E) (gn E)) (hq : h[q]? = some (.inr (1, [.ref (q + 1), .ref (q + 3), .ref (q + 5), .long (Int64.ofNat L)]))) (hL : L < 1073741824) (ha : h[a]? = some (vcell p k hd (vsX x))) (hk : k < 3) (ht : vt x < gn E) (hkk : (1 < kk) = False) (hd1 : (Int32.ofNat (vh x) + (if k = 2 then -kk else kk)) &&& 3 = Int32.ofNat dd) (hd4 : dd < 4) (hwo : ∀ z, wo = some z → z < 4) : ∃ m4 m5 m6 m7, (wp (d + 1) 8 5 [some (.ref q), some (.ref a), some (.int (oC wo)), some (.int kk), l4, l5, l6, l7] [] h K ↔ if isFr E L (vt x) dd = true then if k = 0 ∨ isPr E (vt x) dd = true then K (some (.int (Int32.ofNat dd))) h else wp (d + 1) 8 5 [some (.ref q), some (.ref a), some (.int (oC (wo.or (some dd)))), some (.int (kk + 1)), m4, m5, m6, m7] [] h K else wp (d + 1) 8 5 [some (.ref q), some (.ref a), some (.int (oC wo)), some (.int (kk + 1)), m4, m5, m6, m7] [] h K) := by
  obtain ⟨t, hh, db, Lx, cm, o, xx⟩ := x
  refine ⟨some (.int (if k = 2 then -kk else kk)), some (.int (Int32.ofNat dd)), some (.int (besI (gw E) t dd)), some (.int (Int32.ofNat (sgO (gs E) (bes (gw E) (gn E) t dd)))), ?_⟩
  have z1 : (Int32.ofNat k = 2) = (k = 2) := propext (n_eql (m := 2) (by omega) (by omega))
  have z2 : (Int32.ofNat k = 0) = (k = 0) := propext (n_eql (m := 0) (by omega) (by omega))
  have hbI := bes_I hw (c := t) (d := dd) ht hd4
  have hs : sgO (gs E) (bes (gw E) (gn E) t dd) < 4 := by
    rcases hbI with ⟨y, y1, y2, y3⟩ | ⟨y1, y2⟩
    · rw [y1]
      obtain ⟨a1, a2, a0, f, a3, a4, a5⟩ := hP
      exact (a5 y y2).2
    · rw [y1]; show 1 < 4; omega
  have z3 : (Int32.ofNat (sgO (gs E) (bes (gw E) (gn E) t dd)) = 1) = (sgO (gs E) (bes (gw E) (gn E) t dd) = 1) := propext (n_eql (m := 1) (by omega) (by omega))
  have z4 : (Int32.ofNat (sgO (gs E) (bes (gw E) (gn E) t dd)) = 2) = (sgO (gs E) (bes (gw E) (gn E) t dd) = 2) := propext (n_eql (m := 2) (by omega) (by omega))
  replace hd1 : (Int32.ofNat hh + (if k = 2 then -kk else kk)) &&& 3 = Int32.ofNat dd := hd1
  have z5 : (oC wo = -9) = (wo = none) := by
    cases wo with
    | none => simp [oC]
    | some z => exact propext ⟨fun e => (n_ne9 (by have := hwo z rfl; omega) e).elim, fun e => by cases e⟩
  have z6 : oC (some dd) = Int32.ofNat dd := rfl
  have hturn : ∀ P : Prop, ((¬ k = 2 → wp (d + 1) 8 26 [some (.ref q), some (.ref a), some (.int (oC wo)), some (.int kk), some (.int kk), l5, l6, l7] [] h K) ∧ (k = 2 → wp (d + 1) 8 26 [some (.ref q), some (.ref a), some (.int (oC wo)), some (.int kk), some (.int (-kk)), l5, l6, l7] [] h K) ↔ P) ↔ (wp (d + 1) 8 26 [some (.ref q), some (.ref a), some (.int (oC wo)), some (.int kk), some (.int (if k = 2 then -kk else kk)), l5, l6, l7] [] h K ↔ P) := by
    intro P
    by_cases k2 : k = 2 <;> simp [k2]
  rw [w8_5]
  simp only [w8_0, w8_2, w8_3, w8_4, w8_6, w8_7, w8_10, w8_10n, w8_11, w8_14, w8_15, w8_18, w8_19, w8_20, w8_23, w8_24, w8_27, w8_30, w8_32, w8_33, w8_34, w8_35, w8_37, w8_37n, w8_38, w8_41, w8_41n, w8_42, w8_45, w8_47, w8_50, w8_52, w8_52n, w8_53, w8_56, w8_58, w8_61, w8_63, w8_65, w8_66, w8_69, w8_69n, w8_70, w8_73, w8_75, w8_76, w8_77, w8_78, w8_79, w8_80, w8_83, w8_83n, w8_84, w8_87, w8_90, w8_92, w8_93, w8_96, w8_98, w8_99, w8_100, w8_102, w8_105, w8_107, w8_110, w8_111, w8_112, w8_115, w8_118, w8_119, xk_n, xk_i, xk_r, xk_z, xk_l, xcs_0, xcs_i, xcs_r, xcs_z, xcs_l, Nat.reduceAdd, Nat.reduceLeDiff, Nat.reduceLT, true_and, and_true, Option.toList_some, Option.toList_none, List.nil_append, List.cons_append, List.getElem?_cons_zero, List.getElem?_cons_succ, List.set_cons_zero, List.set_cons_succ, List.length_cons, List.length_nil, y_bool0, y_bool1, not_true_eq_false, not_false_eq_true, false_implies, true_implies, true_or, or_true, false_or, or_false, if_true, if_false, ite_true, ite_false, y_get, ha, vsX, z1, hkk]
  rw [hturn]
  have hbJ := hbI
  rcases hbI with ⟨y, y1, y2, y3⟩ | ⟨y1, y2⟩
  · have b1 := @l_shr L y (by omega) (by have := hw.2.2.1; omega)
    have b2 : Int64.ofNat (L / 2 ^ y) &&& 1 = Int64.ofNat (L / 2 ^ y % 2) := l_and1 (by have := Nat.div_le_self L (2 ^ y); omega)
    have b3 := @lg0 (L / 2 ^ y % 2) (Nat.mod_lt _ (by omega))
    have b4 : (Int32.ofNat (L / 2 ^ y % 2) = 0) = (L / 2 ^ y % 2 = 0) := propext (n_eql (m := 0) (by omega) (by omega))
    have f1 : isFr E L t dd = (gs E y != 1 && !L.testBit y) := by unfold isFr; rw [y1]
    have f2 : isPr E t dd = (gs E y == 2) := by unfold isPr; rw [y1]
    have f3 : sgO (gs E) (bes (gw E) (gn E) t dd) = gs E y := by rw [y1]; rfl
    rw [f3] at z3 z4
    have z3' := z3
    have z4' := z4
    simp only [w8_0, w8_2, w8_3, w8_4, w8_6, w8_7, w8_10, w8_10n, w8_11, w8_14, w8_15, w8_18, w8_19, w8_20, w8_23, w8_24, w8_26, w8_26n, w8_27, w8_30, w8_32, w8_33, w8_34, w8_35, w8_37, w8_37n, w8_38, w8_41, w8_41n, w8_42, w8_45, w8_47, w8_50, w8_52, w8_52n, w8_53, w8_56, w8_58, w8_61, w8_63, w8_65, w8_66, w8_69, w8_69n, w8_70, w8_73, w8_75, w8_76, w8_77, w8_78, w8_79, w8_80, w8_83, w8_83n, w8_84, w8_87, w8_90, w8_92, w8_93, w8_96, w8_98, w8_99, w8_100, w8_102, w8_105, w8_107, w8_110, w8_111, w8_112, w8_115, w8_118, w8_119, xk_n, xk_i, xk_r, xk_z, xk_l, xcs_0, xcs_i, xcs_r, xcs_z, xcs_l, Nat.reduceAdd, Nat.reduceLeDiff, Nat.reduceLT, true_and, and_true, Option.toList_some, Option.toList_none, List.nil_append, List.cons_append, List.getElem?_cons_zero, List.getElem?_cons_succ, List.set_cons_zero, List.set_cons_succ, List.length_cons, List.length_nil, y_bool0, y_bool1, not_true_eq_false, not_false_eq_true, false_implies, true_implies, true_or, or_true, false_or, or_false, if_true, if_false, ite_true, ite_false, y_get, ha, hq, vsX, z1, z2, hd1, hP.cls, wp_beside hP hw ht hd4, y3, wp_signOf (o := some y) (c := Int32.ofNat y) hP (Or.inl ⟨y, rfl, y2, rfl⟩), z5, b1, b2, b3, b4, f1, f2, f3, l_tst, sgO_s, z3', z4']
    by_cases c1 : gs E y = 1
    · simp [c1]
    · by_cases c2 : L / 2 ^ y % 2 = 0
      · have c2' : ¬ L / 2 ^ y % 2 = 1 := by omega
        by_cases c3 : k = 0
        · simp [c1, c2, c2', c3]
        · by_cases c4 : gs E y = 2
          · simp [c1, c2, c2', c3, c4]
          · cases wo <;> simp [c1, c2, c2', c3, c4, oC]
      · have c2' : L / 2 ^ y % 2 = 1 := by omega
        simp [c1, c2, c2']
  · have f1 : isFr E L t dd = false := by unfold isFr; rw [y1]
    have f3 : sgO (gs E) (bes (gw E) (gn E) t dd) = 1 := by rw [y1]; rfl
    simp only [w8_0, w8_2, w8_3, w8_4, w8_6, w8_7, w8_10, w8_10n, w8_11, w8_14, w8_15, w8_18, w8_19, w8_20, w8_23, w8_24, w8_26, w8_26n, w8_27, w8_30, w8_32, w8_33, w8_34, w8_35, w8_37, w8_37n, w8_38, w8_41, w8_41n, w8_42, w8_45, w8_47, w8_50, w8_52, w8_52n, w8_53, w8_56, w8_58, w8_61, w8_63, w8_65, w8_66, w8_69, w8_69n, w8_70, w8_73, w8_75, w8_76, w8_77, w8_78, w8_79, w8_80, w8_83, w8_83n, w8_84, w8_87, w8_90, w8_92, w8_93, w8_96, w8_98, w8_99, w8_100, w8_102, w8_105, w8_107, w8_110, w8_111, w8_112, w8_115, w8_118, w8_119, xk_n, xk_i, xk_r, xk_z, xk_l, xcs_0, xcs_i, xcs_r, xcs_z, xcs_l, Nat.reduceAdd, Nat.reduceLeDiff, Nat.reduceLT, true_and, and_true, Option.toList_some, Option.toList_none, List.nil_append, List.cons_append, List.getElem?_cons_zero, List.getElem?_cons_succ, List.set_cons_zero, List.set_cons_succ, List.length_cons, List.length_nil, y_bool0, y_bool1, not_true_eq_false, not_false_eq_true, false_implies, true_implies, true_or, or_true, false_or, or_false, if_true, if_false, ite_true, ite_false, y_get, ha, hq, vsX, z1, z2, hd1, hP.cls, wp_beside hP hw ht hd4, wp_signOf hP hbJ, f1, f3]
    have z9 : Int32.ofNat 1 = 1 := rfl
    simp [z9]
def fwR (k hh : Nat) : List Nat → Int32 → Prop
  | [], kk => 1 < kk
  | dd :: r, kk => (1 < kk) = False ∧ ((Int32.ofNat hh + if k = 2 then -kk else kk) &&& 3 = Int32.ofNat dd) ∧ dd < 4 ∧ fwR k hh r (kk + 1)
theorem wp_fwl {d : Nat} {h : xH} {K : Option Value → xH → Prop} {q a p k hd L : Nat} {E : Gd} {x : Vs} (hP : PL h (q + 1) (gw E) (gn E) (gs E)) (hw : okW (gw E) (gn E)) (hq : h[q]? = some (.inr (1, [.ref (q + 1), .ref (q + 3), .ref (q + 5), .long (Int64.ofNat L)]))) (hL : L < 1073741824) (ha : h[a]? = some (vcell p k hd (vsX x))) (hk : k < 3) (ht : vt x < gn E) : ∀ (ds : List Nat) (kk : Int32) (wo : Option Nat) (l4 l5 l6 l7 : Option Value), fwR k (vh x) ds kk → (∀ z, wo = some z → z < 4) → (wp (d + 1) 8 5 [some (.ref q), some (.ref a), some (.int (oC wo)), some (.int kk), l4, l5, l6, l7] [] h K ↔ K (some (.int (oC (fwL (isFr E L (vt x)) (isPr E (vt x)) (k == 0) ds wo)))) h)
  | [], kk, wo, l4, l5, l6, l7, hr, hwo => by
    replace hr : 1 < kk := hr
    rw [w8_5]
    simp only [w8_0, w8_2, w8_3, w8_4, w8_6, w8_7, w8_10, w8_10n, w8_11, w8_14, w8_15, w8_18, w8_19, w8_20, w8_23, w8_24, w8_26, w8_26n, w8_27, w8_30, w8_32, w8_33, w8_34, w8_35, w8_37, w8_37n, w8_38, w8_41, w8_41n, w8_42, w8_45, w8_47, w8_50, w8_52, w8_52n, w8_53, w8_56, w8_58, w8_61, w8_63, w8_65, w8_66, w8_69, w8_69n, w8_70, w8_73, w8_75, w8_76, w8_77, w8_78, w8_79, w8_80, w8_83, w8_83n, w8_84, w8_87, w8_90, w8_92, w8_93, w8_96, w8_98, w8_99, w8_100, w8_102, w8_105, w8_107, w8_110, w8_111, w8_112, w8_115, w8_118, w8_119, xk_n, xk_i, xk_r, xk_z, xk_l, xcs_0, xcs_i, xcs_r, xcs_z, xcs_l, Nat.reduceAdd, Nat.reduceLeDiff, Nat.reduceLT, true_and, and_true, Option.toList_some, Option.toList_none, List.nil_append, List.cons_append, List.getElem?_cons_zero, List.getElem?_cons_succ, List.set_cons_zero, List.set_cons_succ, List.length_cons, List.length_nil, y_bool0, y_bool1, not_true_eq_false, not_false_eq_true, false_implies, true_implies, true_or, or_true, false_or, or_false, if_true, if_false, ite_true, ite_false, hr, fwL]
  | dd :: r, kk, wo, l4, l5, l6, l7, ⟨r1, r2, r3, r4⟩, hwo => by
    obtain ⟨m4, m5, m6, m7, e⟩ := wp_fws (d := d) (K := K) (l4 := l4) (l5 := l5) (l6 := l6) (l7 := l7) (n := 0) (w := 0) hP hw hq hL ha hk ht r1 r2 r3 hwo
    rw [e, wp_fwl hP hw hq hL ha hk ht r (kk + 1) wo m4 m5 m6 m7 r4 hwo, wp_fwl hP hw hq hL ha hk ht r (kk + 1) (wo.or (some dd)) m4 m5 m6 m7 r4 (by
      intro z hz
      cases wo with
      | none => cases hz; exact r3
      | some y => exact hwo z hz)]
    rw [fwL_c]
    by_cases c1 : isFr E L (vt x) dd = true
    · rw [if_pos c1, if_pos c1]
      by_cases c2 : k = 0 ∨ isPr E (vt x) dd = true
      · rw [if_pos c2, if_pos (by simpa using c2)]; rfl
      · rw [if_neg c2, if_neg (by simpa using c2)]
    · rw [if_neg c1, if_neg c1]
theorem fwR_n {k hh : Nat} : fwR k hh [] (-1 + 1 + 1 + 1) := by show (1 : Int32) < -1 + 1 + 1 + 1; decide
theorem fwR_ord {k hh : Nat} (hk : k < 3) (hh4 : hh < 4) : fwR k hh (ord3 k hh) (-1) := by
  match k, hk, hh, hh4 with
  | 0, _, 0, _ => exact ⟨by decide, by decide, by decide, by decide, by decide, by decide, by decide, by decide, by decide, fwR_n⟩
  | 0, _, 1, _ => exact ⟨by decide, by decide, by decide, by decide, by decide, by decide, by decide, by decide, by decide, fwR_n⟩
  | 0, _, 2, _ => exact ⟨by decide, by decide, by decide, by decide, by decide, by decide, by decide, by decide, by decide, fwR_n⟩
  | 0, _, 3, _ => exact ⟨by decide, by decide, by decide, by decide, by decide, by decide, by decide, by decide, by decide, fwR_n⟩
  | 1, _, 0, _ => exact ⟨by decide, by decide, by decide, by decide, by decide, by decide, by decide, by decide, by decide, fwR_n⟩
  | 1, _, 1, _ => exact ⟨by decide, by decide, by decide, by decide, by decide, by decide, by decide, by decide, by decide, fwR_n⟩
  | 1, _, 2, _ => exact ⟨by decide, by decide, by decide, by decide, by decide, by decide, by decide, by decide, by decide, fwR_n⟩
  | 1, _, 3, _ => exact ⟨by decide, by decide, by decide, by decide, by decide, by decide, by decide, by decide, by decide, fwR_n⟩
  | 2, _, 0, _ => exact ⟨by decide, by decide, by decide, by decide, by decide, by decide, by decide, by decide, by decide, fwR_n⟩
  | 2, _, 1, _ => exact ⟨by decide, by decide, by decide, by decide, by decide, by decide, by decide, by decide, by decide, fwR_n⟩
  | 2, _, 2, _ => exact ⟨by decide, by decide, by decide, by decide, by decide, by decide, by decide, by decide, by decide, fwR_n⟩
  | 2, _, 3, _ => exact ⟨by decide, by decide, by decide, by decide, by decide, by decide, by decide, by decide, by decide, fwR_n⟩
theorem wp_freeWay {d : Nat} {h : xH} {K : Option Value → xH → Prop} {q a p k hd L : Nat} {E : Gd} {x : Vs} (hP : PL h (q + 1) (gw E) (gn E) (gs E)) (hw : okW (gw E) (gn E)) (hq : h[q]? = some (.inr (1, [.ref (q + 1), .ref (q + 3), .ref (q + 5), .long (Int64.ofNat L)]))) (hL : L < 1073741824) (ha : h[a]? = some (vcell p k hd (vsX x))) (hk : k < 3) (ht : vt x < gn E) (hh : vh x < 4) : wp (d + 1) 8 0 [some (.ref q), some (.ref a), none, none, none, none, none, none] [] h K ↔ K (some (.int (oC (wayOf E L k (vt x) (vh x))))) h := by
  have := wp_fwl (d := d) (K := K) hP hw hq hL ha hk ht (ord3 k (vh x)) (-1) none none none none none (fwR_ord hk hh) (fun z hz => by cases hz)
  rw [fwL_way] at this
  rw [← this]
  have z : oC none = -9 := rfl
  simp only [w8_0, w8_2, w8_3, w8_4, w8_6, w8_7, w8_10, w8_10n, w8_11, w8_14, w8_15, w8_18, w8_19, w8_20, w8_23, w8_24, w8_26, w8_26n, w8_27, w8_30, w8_32, w8_33, w8_34, w8_35, w8_37, w8_37n, w8_38, w8_41, w8_41n, w8_42, w8_45, w8_47, w8_50, w8_52, w8_52n, w8_53, w8_56, w8_58, w8_61, w8_63, w8_65, w8_66, w8_69, w8_69n, w8_70, w8_73, w8_75, w8_76, w8_77, w8_78, w8_79, w8_80, w8_83, w8_83n, w8_84, w8_87, w8_90, w8_92, w8_93, w8_96, w8_98, w8_99, w8_100, w8_102, w8_105, w8_107, w8_110, w8_111, w8_112, w8_115, w8_118, w8_119, xk_n, xk_i, xk_r, xk_z, xk_l, xcs_0, xcs_i, xcs_r, xcs_z, xcs_l, Nat.reduceAdd, Nat.reduceLeDiff, Nat.reduceLT, true_and, and_true, Option.toList_some, Option.toList_none, List.nil_append, List.cons_append, List.getElem?_cons_zero, List.getElem?_cons_succ, List.set_cons_zero, List.set_cons_succ, List.length_cons, List.length_nil, y_bool0, y_bool1, not_true_eq_false, not_false_eq_true, false_implies, true_implies, true_or, or_true, false_or, or_false, if_true, if_false, ite_true, ite_false, z]
/-- a step, by kind and planted cell -/
def stepK (E : Gd) (L t k p : Nat) (x : Vs) : Vs := match wayOf E L k (vt x) (vh x) with
  | some d => match bes (gw E) (gn E) (vt x) d with
    | some c => (c, d, vd x, vl x ||| 2 ^ c, vc x ||| d * 4 ^ c, if gs E c = 3 then some t else none, none)
    | none => x
  | none => if vt x = p then (vt x, vh x, vd x, vl x, vc x, none, some t) else
    match bes (gw E) (gn E) (vt x) ((vc x / 4 ^ vt x + 2) % 4) with
    | some c => (c, (vc x / 4 ^ vt x + 2) % 4, vd x + 1, vl x, vc x, none, none)
    | none => x
theorem stepV_K (E : Gd) (L t v : Nat) (x : Vs) : stepV E L t v x = stepK E L t (gk E v) (gp E v) x := rfl
abbrev bedC (q L : Nat) : xC := .inr (1, [.ref (q + 1), .ref (q + 3), .ref (q + 5), .long (Int64.ofNat L)])
theorem wp_take {d : Nat} {h : xH} {K : Option Value → xH → Prop} {q a p k hd L t : Nat} {E : Gd} {x : Vs} (hP : PL h (q + 1) (gw E) (gn E) (gs E)) (hw : okW (gw E) (gn E)) (hq : h[q]? = some (bedC q L)) (hq2 : 2 ≤ q) (hL : L < 1073741824) (ha : h[a]? = some (vcell p k hd (vsX x))) (ha2 : 2 ≤ a) (hk : k < 3) (hp : p < 30) (ht : t < 1000) (hV : okV (gw E) (gn E) p x) (hLx : L ||| vl x = L) (ho : vo x = none) (hx : vx x = none) (hK : K none ((h.set a (vcell p k hd (vsX (stepK E L t k p x)))).set q (bedC q (L ||| vl (stepK E L t k p x))))) : wp (d + 1) 9 0 [some (.ref q), some (.ref a), some (.int (oC (wayOf E L k (vt x) (vh x)))), some (.int (Int32.ofNat t)), none] [] h K := by
  have hn := hw.2.2.1
  have haq : a ≠ q := h_dif ha hq (by intro z; cases z)
  have haP : a ≠ q + 1 := h_dif ha hP.1 (by intro z; cases z)
  have haS : a ≠ q + 1 + 1 := by
    obtain ⟨a1, a2, a0, f, a3, a4⟩ := hP
    exact h_dif ha a3 (by intro z; cases z)
  have htip := hV.tip
  have hleaf := hV.leaf hn
  have hC := hV.2.2.2.2.1
  cases hway : wayOf E L k (vt x) (vh x) with
  | some dd =>
    obtain ⟨d4, hf⟩ := wayOf_some hV.2.2.2.2.2.1 hway
    obtain ⟨c, c1, c2, c3⟩ := isFr_some hf
    have hcn := bes_lt hw htip c1
    have hst : stepK E L t k p x = (c, dd, vd x, vl x ||| 2 ^ c, vc x ||| dd * 4 ^ c, if gs E c = 3 then some t else none, none) := by
      unfold stepK
      rw [hway]
      dsimp only
      rw [c1]
    have hbI : besI (gw E) (vt x) dd = Int32.ofNat c := by
      rcases bes_I hw htip d4 with ⟨y, y1, y2, y3⟩ | ⟨y1, y2⟩
      · rw [c1] at y1; cases y1; exact y3
      · rw [c1] at y1; cases y1
    have z1 : (Int32.ofNat dd = -9) = False := eq_false (n_ne9 (by omega))
    have z0 : oC (some dd) = Int32.ofNat dd := rfl
    rw [hst] at hK
    have hor : L ||| (vl x ||| 2 ^ c) = L ||| vl (c, dd, vd x, vl x ||| 2 ^ c, vc x ||| dd * 4 ^ c, if gs E c = 3 then some t else none, none) := rfl
    have l1 : Int64.ofNat L ||| Int64.ofNat (vl x ||| 2 ^ c) = Int64.ofNat (L ||| (vl x ||| 2 ^ c)) := by
      refine l_or (by omega) ?_
      have : vl x ||| 2 ^ c < 2 ^ 30 := Nat.or_lt_two_pow hleaf (Nat.pow_lt_pow_right (by omega) (by omega))
      omega
    have ha' : h[a]? = some (.inr (6, [.int (Int32.ofNat p), .int (Int32.ofNat k), .int (Int32.ofNat hd), .int (Int32.ofNat (vt x)), .int (Int32.ofNat (vh x)), .int (Int32.ofNat (vd x)), .int (oM (vo x)), .int (oM (vx x)), .long (Int64.ofNat (vl x)), .long (Int64.ofNat (vc x))])) := ha
    have acls : y_cls h a 6 := by unfold y_cls; rw [ha]; exact ⟨ha2, rfl⟩
    simp only [w9_0, w9_1, w9_3, w9_6, w9_6n, w9_7, w9_10, w9_10n, w9_11, w9_14, w9_15, w9_18, w9_20, w9_20n, w9_21, w9_22, w9_24, w9_27, w9_27n, w9_28, w9_28r, w9_29, w9_32, w9_32n, w9_33, w9_36, w9_37, w9_40, w9_40n, w9_41, w9_44, w9_46, w9_49, w9_50, w9_53, w9_53n, w9_54, w9_55, w9_58, w9_61, w9_61n, w9_62, w9_65, w9_65n, w9_66, w9_69, w9_72, w9_72n, w9_73, w9_74, w9_77, w9_80, w9_80n, w9_81, w9_84, w9_86, w9_86n, w9_87, w9_89, w9_89n, w9_90, w9_93, w9_93n, w9_94, w9_97, w9_99, w9_102, w9_105, xk_n, xk_i, xk_r, xk_z, xk_l, xcs_0, xcs_i, xcs_r, xcs_z, xcs_l, Nat.reduceAdd, Nat.reduceLeDiff, Nat.reduceLT, true_and, and_true, Option.toList_some, Option.toList_none, List.nil_append, List.cons_append, List.getElem?_cons_zero, List.getElem?_cons_succ, List.set_cons_zero, List.set_cons_succ, List.length_cons, List.length_nil, y_bool0, y_bool1, not_true_eq_false, not_false_eq_true, false_implies, true_implies, true_or, or_true, false_or, or_false, if_true, if_false, ite_true, ite_false, y_get, hq, ha', z0, z1, hP.cls, wp_beside hP hw htip d4, hbI, acls, wp_goOn ha ha2 d4 (show c < 30 by omega) hleaf hC]
    obtain ⟨H1, hH1⟩ : ∃ H1, H1 = h.set a (vcell p k hd (vsX (c, dd, vd x, vl x ||| 2 ^ c, vc x ||| dd * 4 ^ c, vo x, vx x))) := ⟨_, rfl⟩
    obtain ⟨H2, hH2⟩ : ∃ H2, H2 = H1.set q (bedC q (L ||| (vl x ||| 2 ^ c))) := ⟨_, rfl⟩
    have e1 : H1[q]? = some (bedC q L) := by rw [hH1]; exact h_set_ne hq haq
    have e2 : H1[a]? = some (vcell p k hd [.int (Int32.ofNat c), .int (Int32.ofNat dd), .int (Int32.ofNat (vd x)), .int (oM (vo x)), .int (oM (vx x)), .long (Int64.ofNat (vl x ||| 2 ^ c)), .long (Int64.ofNat (vc x ||| dd * 4 ^ c))]) := by rw [hH1]; exact h_set_at ha
    have e3 : PL H1 (q + 1) (gw E) (gn E) (gs E) := by rw [hH1]; exact hP.fr (FR.set ha rfl) (fun z => haP z.symm) (fun z => haS z.symm)
    have e4 : PL H2 (q + 1) (gw E) (gn E) (gs E) := by rw [hH2]; exact e3.fr (FR.set e1 rfl) (fun z => by omega) (fun z => by omega)
    have e5 : H2[a]? = some (vcell p k hd [.int (Int32.ofNat c), .int (Int32.ofNat dd), .int (Int32.ofNat (vd x)), .int (oM (vo x)), .int (oM (vx x)), .long (Int64.ofNat (vl x ||| 2 ^ c)), .long (Int64.ofNat (vc x ||| dd * 4 ^ c))]) := by rw [hH2]; exact h_set_ne e2 (Ne.symm haq)
    have e6 : H2[q]? = some (bedC q (L ||| (vl x ||| 2 ^ c))) := by rw [hH2]; exact h_set_at e1
    rw [← hH1]
    have hs4 : gs E c < 4 := by
      obtain ⟨a1, a2, a0, f, a3, a4, a5⟩ := hP
      exact (a5 c hcn).2
    have z3 : (Int32.ofNat (gs E c) = 3) = (gs E c = 3) := propext (n_eql (m := 3) (by omega) (by omega))
    simp only [w9_0, w9_1, w9_3, w9_6, w9_6n, w9_7, w9_10, w9_10n, w9_11, w9_14, w9_15, w9_18, w9_20, w9_20n, w9_21, w9_22, w9_24, w9_27, w9_27n, w9_28, w9_28r, w9_29, w9_32, w9_32n, w9_33, w9_36, w9_37, w9_40, w9_40n, w9_41, w9_44, w9_46, w9_49, w9_50, w9_53, w9_53n, w9_54, w9_55, w9_58, w9_61, w9_61n, w9_62, w9_65, w9_65n, w9_66, w9_69, w9_72, w9_72n, w9_73, w9_74, w9_77, w9_80, w9_80n, w9_81, w9_84, w9_86, w9_86n, w9_87, w9_89, w9_89n, w9_90, w9_93, w9_93n, w9_94, w9_97, w9_99, w9_102, w9_105, xk_n, xk_i, xk_r, xk_z, xk_l, xcs_0, xcs_i, xcs_r, xcs_z, xcs_l, Nat.reduceAdd, Nat.reduceLeDiff, Nat.reduceLT, true_and, and_true, Option.toList_some, Option.toList_none, List.nil_append, List.cons_append, List.getElem?_cons_zero, List.getElem?_cons_succ, List.set_cons_zero, List.set_cons_succ, List.length_cons, List.length_nil, y_bool0, y_bool1, not_true_eq_false, not_false_eq_true, false_implies, true_implies, true_or, or_true, false_or, or_false, if_true, if_false, ite_true, ite_false, y_get, y_put, e1, e2, l1, hq2]
    rw [← hH2]
    by_cases q3 : gs E c = 3
    · have z4 : (Int32.ofNat (gs E c) = 3) = True := z3.trans (eq_true q3)
      simp only [w9_0, w9_1, w9_3, w9_6, w9_6n, w9_7, w9_10, w9_10n, w9_11, w9_14, w9_15, w9_18, w9_20, w9_20n, w9_21, w9_22, w9_24, w9_27, w9_27n, w9_28, w9_28r, w9_29, w9_32, w9_32n, w9_33, w9_36, w9_37, w9_40, w9_40n, w9_41, w9_44, w9_46, w9_49, w9_50, w9_53, w9_53n, w9_54, w9_55, w9_58, w9_61, w9_61n, w9_62, w9_65, w9_65n, w9_66, w9_69, w9_72, w9_72n, w9_73, w9_74, w9_77, w9_80, w9_80n, w9_81, w9_84, w9_86, w9_86n, w9_87, w9_89, w9_89n, w9_90, w9_93, w9_93n, w9_94, w9_97, w9_99, w9_102, w9_105, xk_n, xk_i, xk_r, xk_z, xk_l, xcs_0, xcs_i, xcs_r, xcs_z, xcs_l, Nat.reduceAdd, Nat.reduceLeDiff, Nat.reduceLT, true_and, and_true, Option.toList_some, Option.toList_none, List.nil_append, List.cons_append, List.getElem?_cons_zero, List.getElem?_cons_succ, List.set_cons_zero, List.set_cons_succ, List.length_cons, List.length_nil, y_bool0, y_bool1, not_true_eq_false, not_false_eq_true, false_implies, true_implies, true_or, or_true, false_or, or_false, if_true, if_false, ite_true, ite_false, y_get, e6, e4.cls, wp_signOf (o := some c) e4 (Or.inl ⟨c, rfl, hcn, rfl⟩), sgO_s, z4, y_put, e5, ha2]
      rw [if_pos q3] at hK
      subst hH2 hH1
      rw [List.set_comm _ _ (Ne.symm haq), set_set]
      rw [hx]
      exact hK
    · simp only [w9_0, w9_1, w9_3, w9_6, w9_6n, w9_7, w9_10, w9_10n, w9_11, w9_14, w9_15, w9_18, w9_20, w9_20n, w9_21, w9_22, w9_24, w9_27, w9_27n, w9_28, w9_28r, w9_29, w9_32, w9_32n, w9_33, w9_36, w9_37, w9_40, w9_40n, w9_41, w9_44, w9_46, w9_49, w9_50, w9_53, w9_53n, w9_54, w9_55, w9_58, w9_61, w9_61n, w9_62, w9_65, w9_65n, w9_66, w9_69, w9_72, w9_72n, w9_73, w9_74, w9_77, w9_80, w9_80n, w9_81, w9_84, w9_86, w9_86n, w9_87, w9_89, w9_89n, w9_90, w9_93, w9_93n, w9_94, w9_97, w9_99, w9_102, w9_105, xk_n, xk_i, xk_r, xk_z, xk_l, xcs_0, xcs_i, xcs_r, xcs_z, xcs_l, Nat.reduceAdd, Nat.reduceLeDiff, Nat.reduceLT, true_and, and_true, Option.toList_some, Option.toList_none, List.nil_append, List.cons_append, List.getElem?_cons_zero, List.getElem?_cons_succ, List.set_cons_zero, List.set_cons_succ, List.length_cons, List.length_nil, y_bool0, y_bool1, not_true_eq_false, not_false_eq_true, false_implies, true_implies, true_or, or_true, false_or, or_false, if_true, if_false, ite_true, ite_false, y_get, e6, e4.cls, wp_signOf (o := some c) e4 (Or.inl ⟨c, rfl, hcn, rfl⟩), sgO_s, z3, q3, y_put, e5, ha2]
      rw [if_neg q3] at hK
      subst hH2 hH1
      rw [ho, hx]
      exact hK
  | none =>
    have z0 : oC none = -9 := rfl
    have ha' : h[a]? = some (.inr (6, [.int (Int32.ofNat p), .int (Int32.ofNat k), .int (Int32.ofNat hd), .int (Int32.ofNat (vt x)), .int (Int32.ofNat (vh x)), .int (Int32.ofNat (vd x)), .int (oM (vo x)), .int (oM (vx x)), .long (Int64.ofNat (vl x)), .long (Int64.ofNat (vc x))])) := ha
    have acls : y_cls h a 6 := by unfold y_cls; rw [ha]; exact ⟨ha2, rfl⟩
    have z1 : (Int32.ofNat (vt x) = Int32.ofNat p) = (vt x = p) := propext (n_eq (by omega) (by omega))
    by_cases q3 : vt x = p
    · have hst : stepK E L t k p x = (vt x, vh x, vd x, vl x, vc x, none, some t) := by
        unfold stepK
        rw [hway]
        exact if_pos q3
      rw [hst] at hK
      simp only [w9_0, w9_1, w9_3, w9_6, w9_6n, w9_7, w9_10, w9_10n, w9_11, w9_14, w9_15, w9_18, w9_20, w9_20n, w9_21, w9_22, w9_24, w9_27, w9_27n, w9_28, w9_28r, w9_29, w9_32, w9_32n, w9_33, w9_36, w9_37, w9_40, w9_40n, w9_41, w9_44, w9_46, w9_49, w9_50, w9_53, w9_53n, w9_54, w9_55, w9_58, w9_61, w9_61n, w9_62, w9_65, w9_65n, w9_66, w9_69, w9_72, w9_72n, w9_73, w9_74, w9_77, w9_80, w9_80n, w9_81, w9_84, w9_86, w9_86n, w9_87, w9_89, w9_89n, w9_90, w9_93, w9_93n, w9_94, w9_97, w9_99, w9_102, w9_105, xk_n, xk_i, xk_r, xk_z, xk_l, xcs_0, xcs_i, xcs_r, xcs_z, xcs_l, Nat.reduceAdd, Nat.reduceLeDiff, Nat.reduceLT, true_and, and_true, Option.toList_some, Option.toList_none, List.nil_append, List.cons_append, List.getElem?_cons_zero, List.getElem?_cons_succ, List.set_cons_zero, List.set_cons_succ, List.length_cons, List.length_nil, y_bool0, y_bool1, not_true_eq_false, not_false_eq_true, false_implies, true_implies, true_or, or_true, false_or, or_false, if_true, if_false, ite_true, ite_false, y_get, y_put, hq, ha', z0, z1, q3, ha2]
      have hK' : K none (h.set a (vcell p k hd (vsX (vt x, vh x, vd x, vl x, vc x, none, some t)))) := by
        have hb : (h.set a (vcell p k hd (vsX (vt x, vh x, vd x, vl x, vc x, none, some t)))).set q (bedC q (L ||| vl (vt x, vh x, vd x, vl x, vc x, none, some t))) = h.set a (vcell p k hd (vsX (vt x, vh x, vd x, vl x, vc x, none, some t))) := by
          apply h_same
          show _ = some (bedC q (L ||| vl x))
          rw [hLx]
          exact h_set_ne hq haq
        rw [hb] at hK
        exact hK
      rw [ho]
      rw [q3] at hK'
      exact hK'
    · obtain ⟨i1, i2⟩ := hV.1 _ hV.2.1
      rcases i2 with i2 | ⟨c, b1, b2⟩
      · exact absurd i2 q3
      have m4 : (vc x / 4 ^ vt x + 2) % 4 < 4 := Nat.mod_lt _ (by omega)
      have hst : stepK E L t k p x = (c, (vc x / 4 ^ vt x + 2) % 4, vd x + 1, vl x, vc x, none, none) := by
        unfold stepK
        rw [hway]
        dsimp only
        rw [if_neg q3, b1]
      rw [hst] at hK
      have hbI : besI (gw E) (vt x) ((vc x / 4 ^ vt x + 2) % 4) = Int32.ofNat c := by
        rcases bes_I hw htip m4 with ⟨y, y1, y2, y3⟩ | ⟨y1, y2⟩
        · rw [b1] at y1; cases y1; exact y3
        · rw [b1] at y1; cases y1
      simp only [w9_0, w9_1, w9_3, w9_6, w9_6n, w9_7, w9_10, w9_10n, w9_11, w9_14, w9_15, w9_18, w9_20, w9_20n, w9_21, w9_22, w9_24, w9_27, w9_27n, w9_28, w9_28r, w9_29, w9_32, w9_32n, w9_33, w9_36, w9_37, w9_40, w9_40n, w9_41, w9_44, w9_46, w9_49, w9_50, w9_53, w9_53n, w9_54, w9_55, w9_58, w9_61, w9_61n, w9_62, w9_65, w9_65n, w9_66, w9_69, w9_72, w9_72n, w9_73, w9_74, w9_77, w9_80, w9_80n, w9_81, w9_84, w9_86, w9_86n, w9_87, w9_89, w9_89n, w9_90, w9_93, w9_93n, w9_94, w9_97, w9_99, w9_102, w9_105, xk_n, xk_i, xk_r, xk_z, xk_l, xcs_0, xcs_i, xcs_r, xcs_z, xcs_l, Nat.reduceAdd, Nat.reduceLeDiff, Nat.reduceLT, true_and, and_true, Option.toList_some, Option.toList_none, List.nil_append, List.cons_append, List.getElem?_cons_zero, List.getElem?_cons_succ, List.set_cons_zero, List.set_cons_succ, List.length_cons, List.length_nil, y_bool0, y_bool1, not_true_eq_false, not_false_eq_true, false_implies, true_implies, true_or, or_true, false_or, or_false, if_true, if_false, ite_true, ite_false, y_get, y_put, hq, ha', z0, z1, q3, ha2, acls, hP.cls, wp_wayBack ha ha2 (show vt x < 30 by omega) hC, wp_beside hP hw htip m4, hbI, wp_doubleBack ha ha2]
      have hb : (h.set a (vcell p k hd (vsX (c, (vc x / 4 ^ vt x + 2) % 4, vd x + 1, vl x, vc x, none, none)))).set q (bedC q (L ||| vl (c, (vc x / 4 ^ vt x + 2) % 4, vd x + 1, vl x, vc x, none, none))) = h.set a (vcell p k hd (vsX (c, (vc x / 4 ^ vt x + 2) % 4, vd x + 1, vl x, vc x, none, none))) := by
        apply h_same
        show _ = some (bedC q (L ||| vl x))
        rw [hLx]
        exact h_set_ne hq haq
      rw [hb] at hK
      rw [ho, hx]
      exact hK
