/-! ===== the law's run on every script ===== -/
def st0 : St := ((0, 0, fun _ => 0, 0, fun _ => 0, fun _ => 0, fun _ => 0), fun _ => false, 0, fun _ => (0, 0, 0), fun _ => (none, 0, fun _ => 0), 0, 0)
abbrev zJ (n : Nat) : xC := .inl (4, n, .inr (.inl (fun _ => 0)))
/-- the object and the law's first rows, as they are made -/
def mk1 (L : Nat) (xs : Nat → Int32) : xH := [.inl (0, L, .inl xs), .inl (2, 0, .inr (.inr (.inr (.inr (fun _ => none)))))] ++ (nvg 2 (shF 2) ++ [zI 12, zI 20, zJ 1])
theorem mk1_len (L : Nat) (xs : Nat → Int32) : (mk1 L xs).length = 28 := rfl
theorem mk1_x (L : Nat) (xs : Nat → Int32) : RX (mk1 L xs) st0 := by
  refine ⟨⟨Or.inr ⟨rfl, rfl, rfl⟩, Nat.zero_le _, fun r hr => (by cases hr), fun c hc => (by cases hc)⟩, 1, 1, 1, fun _ => 30, fun _ => 30, rfl, ⟨fun _ => [], 0, ?_⟩, ⟨0, 0, 0, 0, fun _ => 0, fun _ => false, fun _ => 0, rfl, ?_, ?_, ?_⟩, ?_, fun r hr => (by cases hr), ⟨shF 2, rfl, fun k hk => ?_⟩, fun k hk => ?_, fun v hv => (by cases hv), Or.inl rfl, Or.inl rfl, Or.inl rfl, fun _ => rfl, fun _ => rfl, fun _ => rfl, by rw [mk1_len]; omega⟩
  · refine ⟨by omega, rfl, ⟨rfl, by omega, (by show 0 ≤ 6; omega), fun _ => 0, rfl, (by show 0 ≤ 30; omega), fun c hc => (by cases hc)⟩, ⟨rfl, by omega, fun _ => 0, rfl, fun d _ => rfl⟩, ⟨⟨0, rfl⟩, (by show 0 ≤ 10; omega), by omega, Or.inl ⟨rfl, rfl, rfl⟩⟩, fun v hv => (by cases hv), fun u v hu => (by cases hu)⟩
  · exact ⟨rfl, by omega, by omega, fun _ => 0, rfl, by omega, fun c hc => by omega⟩
  · exact ⟨rfl, by omega, fun _ => 0, rfl, fun d _ => rfl⟩
  · exact ⟨⟨0, rfl⟩, by omega, by omega, Or.inl ⟨rfl, rfl, rfl⟩⟩
  · exact ⟨⟨0, rfl⟩, (by show 0 ≤ 10; omega), by omega, Or.inl ⟨rfl, rfl, rfl⟩⟩
  · match k, hk with
    | 0, _ => rfl
    | 1, _ => rfl
    | 2, _ => rfl
    | 3, _ => rfl
  · match k, hk with
    | 0, _ => exact ⟨rfl, ⟨fun _ => 0, rfl, fun c _ => rfl⟩, by omega, (by show 0 ≤ 50; omega), fun x hx => (by cases hx)⟩
    | 1, _ => exact ⟨rfl, ⟨fun _ => 0, rfl, fun c _ => rfl⟩, by omega, (by show 0 ≤ 50; omega), fun x hx => (by cases hx)⟩
    | 2, _ => exact ⟨rfl, ⟨fun _ => 0, rfl, fun c _ => rfl⟩, by omega, (by show 0 ≤ 50; omega), fun x hx => (by cases hx)⟩
    | 3, _ => exact ⟨rfl, ⟨fun _ => 0, rfl, fun c _ => rfl⟩, by omega, (by show 0 ≤ 50; omega), fun x hx => (by cases hx)⟩
theorem mk1_sl (L : Nat) (xs : Nat → Int32) : xsl (mk1 L xs) ≤ L + 2000 := by
  unfold mk1
  rw [xsl_ap]
  have e1 : xsl [.inl (0, L, .inl xs), .inl (2, 0, .inr (.inr (.inr (.inr (fun _ => none)))))] = L := by simp [xsl, xsz]
  have e2 : xsl (nvg 2 (shF 2) ++ [zI 12, zI 20, zJ 1]) ≤ 2000 := by decide +kernel
  rw [e1]
  omega
theorem mk1_b {L : Nat} (hL : L < 1000) (xs : Nat → Int32) : LB (mk1 L xs) L xs (fun _ => 0) (fun _ => 0) := ⟨rfl, rfl, rfl, ⟨fun _ => 0, rfl, rfl⟩, mk1_len L xs, hL, mk1_sl L xs⟩
theorem law_wp {L : Nat} (hL : L ≤ 260) (xs : Nat → Int32) : wp 9 182 0 [some (.ref 0), none, none, none, none, none, none, none, none, none, none, none, none, none, none, none, none, none, none] [] (xh0 L xs) (lwK L) := by
  simp only [w182_0, w182_3, w182_3r, w182_4, xk_n, xk_i, xk_r, xk_z, xk_l, xcs_0, xcs_i, xcs_r, xcs_z, xcs_l, Nat.reduceAdd, Nat.reduceLeDiff, Nat.reduceLT, true_and, and_true, Option.toList_some, Option.toList_none, List.nil_append, List.cons_append, List.getElem?_cons_zero, List.getElem?_cons_succ, List.set_cons_zero, List.set_cons_succ, List.length_cons, List.length_nil, y_bool0, y_bool1, not_true_eq_false, not_false_eq_true, false_implies, true_implies, true_or, or_true, false_or, or_false, if_true, if_false, ite_true, ite_false]
  refine wp_nvg (g := xh0 L xs) (show 2 ≤ 2 by omega) ?_
  have a1 : ((12 : Int32) < 0) = False := eq_false (by decide)
  have a2 : ((20 : Int32) < 0) = False := eq_false (by decide)
  have a3 : ((1 : Int32) < 0) = False := eq_false (by decide)
  have b1 : (12 : Int32).toNatClampNeg = 12 := by decide
  have b2 : (20 : Int32).toNatClampNeg = 20 := by decide
  have b3 : (1 : Int32).toNatClampNeg = 1 := by decide
  have c1 : (12 ≤ 1000) = True := by simp
  have c2 : (20 ≤ 1000) = True := by simp
  have c3 : (1 ≤ 1000) = True := by simp
  simp only [w182_7, w182_7n, w182_8, w182_10, w182_12, w182_12n, w182_13, w182_15, w182_17, w182_17n, w182_18, w182_19, w182_21, w182_21n, w182_23, w182_23n, w182_24, w182_24n, w182_25, w182_26, w182_26n, w182_27, w182_27n, w182_28, xk_n, xk_i, xk_r, xk_z, xk_l, xcs_0, xcs_i, xcs_r, xcs_z, xcs_l, Nat.reduceAdd, Nat.reduceLeDiff, Nat.reduceLT, true_and, and_true, Option.toList_some, Option.toList_none, List.nil_append, List.cons_append, List.getElem?_cons_zero, List.getElem?_cons_succ, List.set_cons_zero, List.set_cons_succ, List.length_cons, List.length_nil, y_bool0, y_bool1, not_true_eq_false, not_false_eq_true, false_implies, true_implies, true_or, or_true, false_or, or_false, if_true, if_false, ite_true, ite_false, a1, a2, a3, b1, b2, b3, c1, c2, c3]
  show wp 8 177 0 [some (.ref 2), some (.ref 0), some (.int 0), some (.ref 25), some (.ref 26), none, none, none, none] [] (mk1 L xs) (fun v h1 => wp 9 182 31 [some (.ref 0), some (.ref 2), some (.ref 25), some (.ref 26), some (.ref 27), none, none, none, none, none, none, none, none, none, none, none, none, none, none] (v.toList ++ []) h1 (lwK L))
  refine wp_lput (d := 5) (mk1_x L xs) (mk1_b (by omega) xs) fun h1 s1 f fg fs hi w h1i hi4 w2 w5 g0 g1 g2 R1 B1 hs1 T1 C1 => ?_
  have r0 := fun J => yi B1.2.1 (i := 0) (k := 0) rfl (by omega) (by omega) g0 J
  have r1 := fun J => yi B1.2.1 (i := 1) (k := 1) rfl (by omega) (by omega) g1 J
  have h20 : hi * w ≤ 20 := Nat.mul_le_mul hi4 w5
  have hw2 : hi * 2 ≤ hi * w := Nat.mul_le_mul_left _ w2
  have q1 : (Int32.ofNat (3 + hi * w + hi) < 6) = False := eq_false (by rw [n_ltl (m := 6) (by omega) (by omega)]; omega)
  simp only [w182_31, w182_33, w182_33n, w182_34, w182_35, w182_36, w182_36n, w182_37, w182_38, w182_39, w182_40, w182_42, w182_44, w182_46, w182_49, w182_49n, w182_50, w182_51, w182_52, w182_53, w182_55, xk_n, xk_i, xk_r, xk_z, xk_l, xcs_0, xcs_i, xcs_r, xcs_z, xcs_l, Nat.reduceAdd, Nat.reduceLeDiff, Nat.reduceLT, true_and, and_true, Option.toList_some, Option.toList_none, List.nil_append, List.cons_append, List.getElem?_cons_zero, List.getElem?_cons_succ, List.set_cons_zero, List.set_cons_succ, List.length_cons, List.length_nil, y_bool0, y_bool1, not_true_eq_false, not_false_eq_true, false_implies, true_implies, true_or, or_true, false_or, or_false, if_true, if_false, ite_true, ite_false, r0, r1, n_mul, q1, R1.cls]
  refine cop_garden R1 0 0 0 (Int32.ofNat (3 + hi * w + hi)) fun h2 R2 F2 => ?_
  rw [opGarden_ok hs1 h1i hi4 w2 w5 T1 C1] at R2 ⊢
  have B2 := B1.fr F2
  have q2 : (Int32.ofNat (hi * w) = Int32.ofNat (hi * w)) = True := eq_self _
  have d1 : ((21 : Int32) < 0) = False := eq_false (by decide)
  have d2 : ((63 : Int32) < 0) = False := eq_false (by decide)
  have e1 : (21 : Int32).toNatClampNeg = 21 := by decide
  have e2 : (63 : Int32).toNatClampNeg = 63 := by decide
  have f1 : (21 ≤ 1000) = True := by simp
  have f2 : (63 ≤ 1000) = True := by simp
  have l28 := B2.2.2.2.2.1
  simp only [w182_58, w182_60, w182_63, w182_64, w182_65, w182_67, w182_69, w182_69n, w182_71, w182_73, w182_75, w182_75n, w182_77, w182_78, xk_n, xk_i, xk_r, xk_z, xk_l, xcs_0, xcs_i, xcs_r, xcs_z, xcs_l, Nat.reduceAdd, Nat.reduceLeDiff, Nat.reduceLT, true_and, and_true, Option.toList_some, Option.toList_none, List.nil_append, List.cons_append, List.getElem?_cons_zero, List.getElem?_cons_succ, List.set_cons_zero, List.set_cons_succ, List.length_cons, List.length_nil, y_bool0, y_bool1, not_true_eq_false, not_false_eq_true, false_implies, true_implies, true_or, or_true, false_or, or_false, if_true, if_false, ite_true, ite_false, q2, d1, d2, e1, e2, f1, f2, List.length_append, l28]
  have G1 : FR LQ 1 21 h2 (h2 ++ [zI 21]) := (FR.app (h := h2) (zI 21)).mono (fun a _ q => q.elim) (Nat.le_refl _) (Nat.le_refl _)
  have G2 : FR LQ 1 63 (h2 ++ [zI 21]) (h2 ++ [zI 21] ++ [zI 63]) := (FR.app (h := h2 ++ [zI 21]) (zI 63)).mono (fun a _ q => q.elim) (Nat.le_refl _) (Nat.le_refl _)
  have R4 := (R2.fr G1).fr G2
  obtain ⟨b0, b25, b26, ⟨ff, b27, bf⟩, -, bL, bx⟩ := B2
  have at28 : (h2 ++ [zI 21])[28]? = some (zI 21) := by rw [← l28]; exact h_app_new
  have at29 : (h2 ++ [zI 21] ++ [zI 63])[29]? = some (zI 63) := by
    have : (h2 ++ [zI 21]).length = 29 := by rw [List.length_append, l28]; rfl
    rw [← this]; exact h_app_new
  have len : (h2 ++ [zI 21] ++ [zI 63]).length = 30 := by rw [List.length_append, List.length_append, l28]; rfl
  have x1 := G1.2.2.1
  have x2 := G2.2.2.1
  have gs4 : ∀ c, c < hi * w → fs c = Int32.ofNat ((sgC (f (0 + (4 + c + c / w)))).getD 0) := fun c hc => by
    obtain ⟨y, y1, y2, y3⟩ := C1.1 c hc
    rw [y2, Nat.zero_add, y3]
    rfl
  have V : LV (h2 ++ [zI 21] ++ [zI 63]) (gdT (stF s1 0) f 0 hi w) hi L xs (fun _ => 0) (fun _ => 0) 0 := by
    refine ⟨R4, ⟨⟨h1i, hi4, w2, w5, rfl, by show 0 ≤ 3; omega⟩, ⟨fg, h_app_at (h_app_at b25), g0, g1, g2, fun v hv => (by cases hv)⟩, ⟨fs, h_app_at (h_app_at b26), gs4⟩, ff, 0, h_app_at (h_app_at b27), bf, by omega, fun d _ => (Nat.zero_testBit d).symm⟩, h_app_at (h_app_at b0), h_app_at at28, at29, by omega, by omega, by omega, bL⟩
  exact wp_turns (d := 3) 3 0 _ _ _ _ _ _ _ _ _ _ _ _ _ rfl V
theorem law_go {L : Nat} (hL : L ≤ 260) (xs : Nat → Int32) : ∃ h' : xH, xGo 9 xLaw 0 [some (.ref 0), none, none, none, none, none, none, none, none, none, none, none, none, none, none, none, none, none, none] [] (xh0 L xs) (some (.int 1), h') ∧ h'.length ≤ 600002 ∧ xsl h' ≤ L + 7302249 := by
  obtain ⟨⟨r, h'⟩, hg, rfl, h1, h2⟩ := law_wp hL xs
  exact ⟨h', hg, h1, h2⟩
theorem whole_start {p : Program} {e : Env} {s : State} {m : MethodId} {below : List Frame} {meth : Method} {c : Code} (l : Launch) (hflags : l.flags = flags0) {b L : Nat} {xs : Nat → Int32} (hL : L ≤ 260) (C0 : lw_At p s m meth c b L xs) : W p l e room_1 s m #[Value.ref b] below meth c s.heap [] 0 0 (lw_Z below #[Value.ref b] s) (entryFrame m ([Value.ref b] : List Value).toArray 19) := by
  obtain ⟨h', h1, h2, h3⟩ := law_go hL xs
  exact whole_of_go l C0 h1 h2 h3
