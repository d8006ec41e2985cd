/-! ===== the model: mazes ===== -/
def CM (A A1 : Nat → Nat → Int32) : Prop := KP A A1 ∧ A 4 = A1 4 ∧ A 5 = A1 5 ∧ A 6 = A1 6 ∧ A 18 = A1 18 ∧ A 19 = A1 19 ∧ ∀ c, 9 ≤ c → A 3 c = A1 3 c
theorem CM.rfl' {A : Nat → Nat → Int32} : CM A A := ⟨KP.rfl', rfl, rfl, rfl, rfl, rfl, fun _ _ => rfl⟩
theorem CM.tr {A B C : Nat → Nat → Int32} (a : CM B A) (b : CM C B) : CM C A := ⟨a.1.tr b.1, b.2.1.trans a.2.1, b.2.2.1.trans a.2.2.1, b.2.2.2.1.trans a.2.2.2.1, b.2.2.2.2.1.trans a.2.2.2.2.1, b.2.2.2.2.2.1.trans a.2.2.2.2.2.1, fun c hc => (b.2.2.2.2.2.2 c hc).trans (a.2.2.2.2.2.2 c hc)⟩
theorem CM.s3 {A : Nat → Nat → Int32} {c : Nat} (x : Int32) (hc : c < 9) : CM (upA A 3 (upd (A 3) c x)) A := by
  refine ⟨KP.up _ (by omega) (by omega), rfl, rfl, rfl, rfl, rfl, fun y hy => ?_⟩
  show upd (A 3) c x y = _
  rw [upd_ne _ _ (by omega)]
theorem CM.go {A A' : Nat → Nat → Int32} (h : ∀ j, (j < 9 ∨ 15 < j) → A' j = A j) : CM A' A := ⟨KP.of h, h 4 (by omega), h 5 (by omega), h 6 (by omega), h 18 (by omega), h 19 (by omega), fun c _ => by rw [h 3 (by omega)]⟩
theorem GA.s3m {k : Nat} {s : Nat → Nat} {fr : Nat → Bool} {A : Nat → Nat → Int32} (G : GA (Em k s) fr A) (c x : Nat) : GA (Em k (upN s c x)) fr (upA A 3 (upd (A 3) c (Int32.ofNat x))) := G.s3 c x
theorem GA.sx {k : Nat} {s s' : Nat → Nat} {fr : Nat → Bool} {A : Nat → Nat → Int32} (G : GA (Em k s) fr A) (h : ∀ c, c < 9 → s' c = s c) : GA (Em k s') fr A := ⟨fun c hc => by show A 3 c = Int32.ofNat (s' c); rw [h c hc]; exact G.1 c hc, G.2⟩
theorem mild_nf : ∀ k, mild (fun _ => false) k = k
  | 0 => rfl
  | k + 1 => by rw [mild_f rfl, mild_nf k]
theorem mzB_out {k n c : Nat} (hn : n < 80) : mzB k n c = (vo (runM (Em k (sgM c)) (n + 1) 0)).isSome := by
  rw [runM_lt (by omega)]
  unfold mzB
  cases vo (runM (Em k (sgM c)) 80 0) with
  | none => rfl
  | some m =>
    dsimp only
    by_cases q : m ≤ n
    · rw [decide_eq_true q, if_pos (by omega)]; rfl
    · rw [decide_eq_false q, if_neg (by omega)]; rfl
section
variable {d : Nat} {K : Option Value → xH → Prop} {fa tr p rH rW nr : Int32} {k n : Nat} {A1 : Nat → Nat → Int32} {h0 : xH}
theorem wp_cmi {code : Nat} {i1 i2 : Int32} (hcode : code < 128) (hK : ∀ h' A' l4, MH h' fa tr (Int32.ofNat 3) (Int32.ofNat 3) (Int32.ofNat 1) p rH rW nr A' → GA (Em k (sgM code)) (fun _ => false) A' → CM A' A1 → FR MP 0 0 h0 h' → wp (d + 5) 133 57 [some (.ref 25), some (.int i1), some (.int i2), some (.int (Int32.ofNat code)), l4] [] h' K) : ∀ (j i : Nat) (h : xH) (A : Nat → Nat → Int32) (s : Nat → Nat), i + j = 8 → 1 ≤ i → MH h fa tr (Int32.ofNat 3) (Int32.ofNat 3) (Int32.ofNat 1) p rH rW nr A → GA (Em k s) (fun _ => false) A → s 0 = 0 → s 8 = 3 → (∀ x, 1 ≤ x → x < i → s x = sgM code x) → CM A A1 → FR MP 0 0 h0 h → wp (d + 5) 133 29 [some (.ref 25), some (.int i1), some (.int i2), some (.int (Int32.ofNat code)), some (.int (Int32.ofNat i))] [] h K
  | 0, i, h, A, s, hj, hi, H, G, s0, s8, hs, C, F0 => by
    have hi8 : i = 8 := by omega
    subst hi8
    have q : (8 : Int32) ≤ Int32.ofNat 8 := by decide
    rw [w133_29]
    simp only [w133_0, w133_1, w133_2, w133_2n, w133_3, w133_6, w133_7, w133_8, w133_9, w133_9n, w133_10, w133_13, w133_15, w133_16, w133_17, w133_18, w133_19, w133_20, w133_23, w133_26, w133_27, w133_31, w133_33, w133_36, w133_36n, w133_37, w133_40, w133_42, w133_43, w133_45, w133_46, w133_47, w133_48, w133_49, w133_50, w133_51, w133_54, w133_58, w133_59, w133_62, w133_63, w133_63n, w133_64, w133_67, w133_68, w133_69, w133_71, w133_74, w133_75, w133_78, w133_79, w133_80, w133_81, w133_84, w133_87, w133_88, xk_n, xk_i, xk_r, xk_z, xk_l, xcs_0, xcs_i, xcs_r, xcs_z, xcs_l, Nat.reduceAdd, Nat.reduceLeDiff, Nat.reduceLT, true_and, and_true, Option.toList_some, Option.toList_none, List.nil_append, List.cons_append, List.getElem?_cons_zero, List.getElem?_cons_succ, List.set_cons_zero, List.set_cons_succ, List.length_cons, List.length_nil, y_bool0, y_bool1, not_true_eq_false, not_false_eq_true, false_implies, true_implies, true_or, or_true, false_or, or_false, if_true, if_false, ite_true, ite_false, q]
    refine hK h A _ H (G.sx fun x hx => ?_) C F0
    by_cases z : x = 0
    · rw [z, s0]; rfl
    · by_cases z2 : x = 8
      · rw [z2, s8]; rfl
      · exact (hs x (by omega) (by omega)).symm
  | j + 1, i, h, A, s, hj, hi, H, G, s0, s8, hs, C, F0 => by
    have q : ((8 : Int32) ≤ Int32.ofNat i) = False := eq_false (by have := n_lle (m := 8) (a := i) (by omega) (by omega); rw [this]; omega)
    have z1 : Int32.ofNat i - 1 = Int32.ofNat (i - 1) := n_subl (a := i) (m := 1) (by omega)
    have z2 : Int32.ofNat code >>> (Int32.ofNat (i - 1) &&& 31) = Int32.ofNat (code / 2 ^ (i - 1)) := i_shr (by omega) (by omega)
    have hdl := Nat.div_le_self code (2 ^ (i - 1))
    have z3 : Int32.ofNat (code / 2 ^ (i - 1)) &&& 1 = Int32.ofNat (code / 2 ^ (i - 1) % 2) := i_and1 (by omega)
    have z8 : Int32.ofNat i + 1 = Int32.ofNat (i + 1) := n_addl i 1
    have hsg : sgM code i = code / 2 ^ (i - 1) % 2 := by unfold sgM; rw [if_neg (by omega), if_neg (by omega)]
    rw [w133_29]
    simp only [w133_0, w133_1, w133_2, w133_2n, w133_3, w133_6, w133_7, w133_8, w133_9, w133_9n, w133_10, w133_13, w133_15, w133_16, w133_17, w133_18, w133_19, w133_20, w133_23, w133_26, w133_27, w133_31, w133_33, w133_36, w133_36n, w133_37, w133_40, w133_42, w133_43, w133_45, w133_46, w133_47, w133_48, w133_49, w133_50, w133_51, w133_54, w133_58, w133_59, w133_62, w133_63, w133_63n, w133_64, w133_67, w133_68, w133_69, w133_71, w133_74, w133_75, w133_78, w133_79, w133_80, w133_81, w133_84, w133_87, w133_88, xk_n, xk_i, xk_r, xk_z, xk_l, xcs_0, xcs_i, xcs_r, xcs_z, xcs_l, Nat.reduceAdd, Nat.reduceLeDiff, Nat.reduceLT, true_and, and_true, Option.toList_some, Option.toList_none, List.nil_append, List.cons_append, List.getElem?_cons_zero, List.getElem?_cons_succ, List.set_cons_zero, List.set_cons_succ, List.length_cons, List.length_nil, y_bool0, y_bool1, not_true_eq_false, not_false_eq_true, false_implies, true_implies, true_or, or_true, false_or, or_false, if_true, if_false, ite_true, ite_false, q, y_get, H.o, z1, z2, z3]
    rw [← hsg]
    refine H.st3 (show i < 30 by omega) fun h1 H1 F1 => ?_
    simp only [w133_0, w133_1, w133_2, w133_2n, w133_3, w133_6, w133_7, w133_8, w133_9, w133_9n, w133_10, w133_13, w133_15, w133_16, w133_17, w133_18, w133_19, w133_20, w133_23, w133_26, w133_27, w133_31, w133_33, w133_36, w133_36n, w133_37, w133_40, w133_42, w133_43, w133_45, w133_46, w133_47, w133_48, w133_49, w133_50, w133_51, w133_54, w133_58, w133_59, w133_62, w133_63, w133_63n, w133_64, w133_67, w133_68, w133_69, w133_71, w133_74, w133_75, w133_78, w133_79, w133_80, w133_81, w133_84, w133_87, w133_88, xk_n, xk_i, xk_r, xk_z, xk_l, xcs_0, xcs_i, xcs_r, xcs_z, xcs_l, Nat.reduceAdd, Nat.reduceLeDiff, Nat.reduceLT, true_and, and_true, Option.toList_some, Option.toList_none, List.nil_append, List.cons_append, List.getElem?_cons_zero, List.getElem?_cons_succ, List.set_cons_zero, List.set_cons_succ, List.length_cons, List.length_nil, y_bool0, y_bool1, not_true_eq_false, not_false_eq_true, false_implies, true_implies, true_or, or_true, false_or, or_false, if_true, if_false, ite_true, ite_false, z8]
    refine wp_cmi hcode hK j (i + 1) h1 _ (upN s i (sgM code i)) (by omega) (by omega) H1 (G.s3m i _) (by rw [upN_ne _ (by omega), s0]) (by rw [upN_ne _ (by omega), s8]) (fun x hx1 hx2 => ?_) (C.tr (CM.s3 _ (by omega))) (F0.tr F1)
    by_cases z : x = i
    · rw [z, upN_at]
    · rw [upN_ne _ z]; exact hs x hx1 (by omega)
theorem wp_cmo (hk : k < 3) (hn : n < 80) (hK : ∀ h' A', MH h' fa tr (Int32.ofNat 3) (Int32.ofNat 3) (Int32.ofNat 1) p rH rW nr A' → CM A' A1 → FR MP 0 0 h0 h' → K (some (.int (Int32.ofNat (mzN k n 128)))) h') : ∀ (j code : Nat) (h : xH) (A : Nat → Nat → Int32) (s : Nat → Nat) (l4 : Option Value), code + j = 128 → MH h fa tr (Int32.ofNat 3) (Int32.ofNat 3) (Int32.ofNat 1) p rH rW nr A → GA (Em k s) (fun _ => false) A → s 0 = 0 → s 8 = 3 → CM A A1 → FR MP 0 0 h0 h → wp (d + 5) 133 19 [some (.ref 25), some (.int (Int32.ofNat n)), some (.int (Int32.ofNat (mzN k n code))), some (.int (Int32.ofNat code)), l4] [] h K
  | 0, code, h, A, s, l4, hj, H, G, s0, s8, C, F0 => by
    have hc : code = 128 := by omega
    subst hc
    have q : (128 : Int32) ≤ Int32.ofNat 128 := by decide
    rw [w133_19]
    simp only [w133_0, w133_1, w133_2, w133_2n, w133_3, w133_6, w133_7, w133_8, w133_9, w133_9n, w133_10, w133_13, w133_15, w133_16, w133_17, w133_18, w133_20, w133_23, w133_26, w133_27, w133_29, w133_31, w133_33, w133_36, w133_36n, w133_37, w133_40, w133_42, w133_43, w133_45, w133_46, w133_47, w133_48, w133_49, w133_50, w133_51, w133_54, w133_57, w133_57n, w133_58, w133_59, w133_62, w133_63, w133_63n, w133_64, w133_67, w133_68, w133_69, w133_71, w133_74, w133_75, w133_78, w133_79, w133_80, w133_81, w133_84, w133_87, w133_88, xk_n, xk_i, xk_r, xk_z, xk_l, xcs_0, xcs_i, xcs_r, xcs_z, xcs_l, Nat.reduceAdd, Nat.reduceLeDiff, Nat.reduceLT, true_and, and_true, Option.toList_some, Option.toList_none, List.nil_append, List.cons_append, List.getElem?_cons_zero, List.getElem?_cons_succ, List.set_cons_zero, List.set_cons_succ, List.length_cons, List.length_nil, y_bool0, y_bool1, not_true_eq_false, not_false_eq_true, false_implies, true_implies, true_or, or_true, false_or, or_false, if_true, if_false, ite_true, ite_false, q]
    exact hK h A H C F0
  | j + 1, code, h, A, s, l4, hj, H, G, s0, s8, C, F0 => by
    have q : ((128 : Int32) ≤ Int32.ofNat code) = False := eq_false (by have := n_lle (m := 128) (a := code) (by omega) (by omega); rw [this]; omega)
    have z1 : (1 : Int32) = Int32.ofNat 1 := rfl
    have z8 : Int32.ofNat code + 1 = Int32.ofNat (code + 1) := n_addl code 1
    have ls := mzN_s k n code
    rw [w133_19]
    simp only [w133_0, w133_1, w133_2, w133_2n, w133_3, w133_6, w133_7, w133_8, w133_9, w133_9n, w133_10, w133_13, w133_15, w133_16, w133_17, w133_18, w133_20, w133_23, w133_26, w133_27, w133_31, w133_33, w133_36, w133_36n, w133_37, w133_40, w133_42, w133_43, w133_45, w133_46, w133_47, w133_48, w133_49, w133_50, w133_51, w133_54, w133_57, w133_57n, w133_58, w133_59, w133_62, w133_63, w133_63n, w133_64, w133_67, w133_68, w133_69, w133_71, w133_74, w133_75, w133_78, w133_79, w133_80, w133_81, w133_84, w133_87, w133_88, xk_n, xk_i, xk_r, xk_z, xk_l, xcs_0, xcs_i, xcs_r, xcs_z, xcs_l, Nat.reduceAdd, Nat.reduceLeDiff, Nat.reduceLT, true_and, and_true, Option.toList_some, Option.toList_none, List.nil_append, List.cons_append, List.getElem?_cons_zero, List.getElem?_cons_succ, List.set_cons_zero, List.set_cons_succ, List.length_cons, List.length_nil, y_bool0, y_bool1, not_true_eq_false, not_false_eq_true, false_implies, true_implies, true_or, or_true, false_or, or_false, if_true, if_false, ite_true, ite_false, q]
    rw [z1]
    refine wp_cmi (k := k) (A1 := A1) (h0 := h0) (code := code) (by omega) (fun h1 A2 l4 H1 G1 C1 F1 => ?_) 7 1 h A s (by omega) (by omega) H G s0 s8 (fun x h1 h2 => by omega) C F0
    simp only [w133_0, w133_1, w133_2, w133_2n, w133_3, w133_6, w133_7, w133_8, w133_9, w133_9n, w133_10, w133_13, w133_15, w133_16, w133_17, w133_18, w133_20, w133_23, w133_26, w133_27, w133_31, w133_33, w133_36, w133_36n, w133_37, w133_40, w133_42, w133_43, w133_45, w133_46, w133_47, w133_48, w133_49, w133_50, w133_51, w133_54, w133_57, w133_57n, w133_58, w133_59, w133_62, w133_63, w133_63n, w133_64, w133_67, w133_68, w133_69, w133_71, w133_74, w133_75, w133_78, w133_79, w133_80, w133_81, w133_84, w133_87, w133_88, xk_n, xk_i, xk_r, xk_z, xk_l, xcs_0, xcs_i, xcs_r, xcs_z, xcs_l, Nat.reduceAdd, Nat.reduceLeDiff, Nat.reduceLT, true_and, and_true, Option.toList_some, Option.toList_none, List.nil_append, List.cons_append, List.getElem?_cons_zero, List.getElem?_cons_succ, List.set_cons_zero, List.set_cons_succ, List.length_cons, List.length_nil, y_bool0, y_bool1, not_true_eq_false, not_false_eq_true, false_implies, true_implies, true_or, or_true, false_or, or_false, if_true, if_false, ite_true, ite_false, H1.cls]
    refine wp_mgt (E := Em k (sgM code)) (hi := 3) hn H1 rfl G1 (okE_m hk _) (fun c hc => ?_) fun h2 A3 H2 G2 K2 R2 HA2 F2 => ?_
    · show sgM code c < 4
      unfold sgM
      split
      · omega
      · split
        · omega
        · have := Nat.mod_lt (code / 2 ^ (c - 1)) (show 0 < 2 by omega); omega
    have r13 := (R2 0 (show 0 < 1 by omega)).2.2.2.1
    rw [mild_nf] at r13
    have gd := (runD_M (E := Em k (sgM code)) (fr := fun _ => false) (n + 1) (by omega)).2 0
    rw [mild_nf] at gd
    have ds := dm_some gd.1
    have hb := mzB_out (k := k) (c := code) hn
    rw [← ds] at hb
    have t9 : (oC (dayM (fun _ => false) (vo (runM (Em k (sgM code)) (n + 1) 0))) = -9) = (dayM (fun _ => false) (vo (runM (Em k (sgM code)) (n + 1) 0)) = none) := oC_9 (fun x hx => by have := dayM_lt hx; omega)
    have L13 : ∀ J : Int32 → Prop, y_iald h2 39 0 J ↔ J (A3 13 0) := fun J => H2.ld13 (i := 0) (by omega) J
    have nx := fun l4 => wp_cmo hk hn hK j (code + 1) h2 A3 (sgM code) l4 (by omega) H2 G2 rfl rfl (C1.tr (CM.go HA2)) (F1.tr F2)
    simp only [w133_0, w133_1, w133_2, w133_2n, w133_3, w133_6, w133_7, w133_8, w133_9, w133_9n, w133_10, w133_13, w133_15, w133_16, w133_17, w133_18, w133_20, w133_23, w133_26, w133_27, w133_31, w133_33, w133_36, w133_36n, w133_37, w133_40, w133_42, w133_43, w133_45, w133_46, w133_47, w133_48, w133_49, w133_50, w133_51, w133_54, w133_57, w133_57n, w133_58, w133_59, w133_62, w133_63, w133_63n, w133_64, w133_67, w133_68, w133_69, w133_71, w133_74, w133_75, w133_78, w133_79, w133_80, w133_81, w133_84, w133_87, w133_88, xk_n, xk_i, xk_r, xk_z, xk_l, xcs_0, xcs_i, xcs_r, xcs_z, xcs_l, Nat.reduceAdd, Nat.reduceLeDiff, Nat.reduceLT, true_and, and_true, Option.toList_some, Option.toList_none, List.nil_append, List.cons_append, List.getElem?_cons_zero, List.getElem?_cons_succ, List.set_cons_zero, List.set_cons_succ, List.length_cons, List.length_nil, y_bool0, y_bool1, not_true_eq_false, not_false_eq_true, false_implies, true_implies, true_or, or_true, false_or, or_false, if_true, if_false, ite_true, ite_false, y_get, H2.o, L13, r13, t9, z8]
    cases q2 : dayM (fun _ => false) (vo (runM (Em k (sgM code)) (n + 1) 0)) with
    | none =>
      rw [q2] at hb
      rw [hb, if_neg (by simp)] at ls
      rw [ls] at nx
      have z00 : ∀ x : Nat, Int32.ofNat x + 0 = Int32.ofNat x := fun x => n_addl x 0
      exact ⟨fun z => absurd rfl z, fun _ => by rw [z00]; exact nx _⟩
    | some y =>
      rw [q2] at hb
      rw [hb, if_pos (show (some y).isSome = true from rfl)] at ls
      rw [ls] at nx
      have z01 : ∀ x : Nat, Int32.ofNat x + 1 = Int32.ofNat (x + 1) := fun x => n_addl x 1
      exact ⟨fun _ => by rw [z01]; exact nx _, fun z => by cases z⟩
theorem wp_cm {h : xH} (hk : k < 3) (hn : n < 80) (H : MH h fa tr (Int32.ofNat 3) (Int32.ofNat 3) (Int32.ofNat 1) p rH rW nr A1) (g4 : A1 4 0 = Int32.ofNat k) (g5 : A1 5 0 = Int32.ofNat 0) (g6 : A1 6 0 = Int32.ofNat 1) (g7 : ∀ x, x < 80 → A1 7 x = 0) (hs : ∃ s : Nat → Nat, ∀ c, c < 9 → A1 3 c = Int32.ofNat (s c)) (hK : ∀ h' A', MH h' fa tr (Int32.ofNat 3) (Int32.ofNat 3) (Int32.ofNat 1) p rH rW nr A' → CM A' A1 → FR MP 0 0 h h' → K (some (.int (Int32.ofNat (mzN k n 128)))) h') : wp (d + 5) 133 0 [some (.ref 25), some (.int (Int32.ofNat n)), none, none, none] [] h K := by
  obtain ⟨s, hs⟩ := hs
  have G : GA (Em k s) (fun _ => false) A1 := ⟨hs, fun v hv => by
    replace hv : v < 1 := hv
    have : v = 0 := by omega
    subst this
    exact ⟨g4, g5, g6⟩, g7⟩
  have z0 : (0 : Int32) = Int32.ofNat 0 := rfl
  simp only [w133_0, w133_1, w133_2, w133_2n, w133_3, w133_6, w133_7, w133_8, w133_9, w133_9n, w133_10, w133_13, w133_15, w133_16, w133_17, w133_18, w133_20, w133_23, w133_26, w133_27, w133_29, w133_31, w133_33, w133_36, w133_36n, w133_37, w133_40, w133_42, w133_43, w133_45, w133_46, w133_47, w133_48, w133_49, w133_50, w133_51, w133_54, w133_57, w133_57n, w133_58, w133_59, w133_62, w133_63, w133_63n, w133_64, w133_67, w133_68, w133_69, w133_71, w133_74, w133_75, w133_78, w133_79, w133_80, w133_81, w133_84, w133_87, w133_88, xk_n, xk_i, xk_r, xk_z, xk_l, xcs_0, xcs_i, xcs_r, xcs_z, xcs_l, Nat.reduceAdd, Nat.reduceLeDiff, Nat.reduceLT, true_and, and_true, Option.toList_some, Option.toList_none, List.nil_append, List.cons_append, List.getElem?_cons_zero, List.getElem?_cons_succ, List.set_cons_zero, List.set_cons_succ, List.length_cons, List.length_nil, y_bool0, y_bool1, not_true_eq_false, not_false_eq_true, false_implies, true_implies, true_or, or_true, false_or, or_false, if_true, if_false, ite_true, ite_false, y_get, H.o]
  refine H.st3 (i := 0) (x := Int32.ofNat 0) (by omega) fun h1 H1 F1 => ?_
  simp only [w133_0, w133_1, w133_2, w133_2n, w133_3, w133_6, w133_7, w133_8, w133_9, w133_9n, w133_10, w133_13, w133_15, w133_16, w133_17, w133_18, w133_20, w133_23, w133_26, w133_27, w133_29, w133_31, w133_33, w133_36, w133_36n, w133_37, w133_40, w133_42, w133_43, w133_45, w133_46, w133_47, w133_48, w133_49, w133_50, w133_51, w133_54, w133_57, w133_57n, w133_58, w133_59, w133_62, w133_63, w133_63n, w133_64, w133_67, w133_68, w133_69, w133_71, w133_74, w133_75, w133_78, w133_79, w133_80, w133_81, w133_84, w133_87, w133_88, xk_n, xk_i, xk_r, xk_z, xk_l, xcs_0, xcs_i, xcs_r, xcs_z, xcs_l, Nat.reduceAdd, Nat.reduceLeDiff, Nat.reduceLT, true_and, and_true, Option.toList_some, Option.toList_none, List.nil_append, List.cons_append, List.getElem?_cons_zero, List.getElem?_cons_succ, List.set_cons_zero, List.set_cons_succ, List.length_cons, List.length_nil, y_bool0, y_bool1, not_true_eq_false, not_false_eq_true, false_implies, true_implies, true_or, or_true, false_or, or_false, if_true, if_false, ite_true, ite_false, y_get, H1.o]
  refine H1.st3 (i := 8) (x := Int32.ofNat 3) (by omega) fun h2 H2 F2 => ?_
  rw [z0]
  exact wp_cmo (h0 := h) (A1 := A1) hk hn (fun h' A' a1 a2 a3 => hK h' A' a1 a2 a3) 128 0 h2 _ (upN (upN s 0 0) 8 3) none (by omega) H2 ((G.s3m 0 0).s3m 8 3) rfl rfl ((CM.s3 _ (by omega)).tr (CM.s3 _ (by omega))) (F1.tr F2)
end
