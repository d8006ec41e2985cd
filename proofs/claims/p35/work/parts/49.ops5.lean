/-! ===== the program's calls: vine, pull, reading, back ===== -/
def addV (E : Gd) (k c hd : Nat) : Gd := (gw E, gn E, gs E, gv E + 1, upN (gk E) (gv E) k, upN (gp E) (gv E) c, upN (gh E) (gv E) hd)
def opVine (s : St) (k c hd : Int32) : Int32 × St := match nb c (gn (sE s)) with
  | none => (-1, s)
  | some c => match nb k 3 with
    | none => (-2, s)
    | some k => match nb hd 4 with
      | none => (-2, s)
      | some hd => if gs (sE s) c = 1 ∨ plF (sE s) c (gv (sE s)) 0 = true then (-3, s) else if gv (sE s) < 3 then (Int32.ofNat (gv (sE s)), stE s (addV (sE s) k c hd)) else (-4, s)
def stD (s : St) (n : Nat) (f : Nat → Nat × Nat × Nat) : St := (sE s, sFr s, n, f, sSh s, sTr s, sFa s)
def upR (f : Nat → Nat × Nat × Nat) (n : Nat) (x : Nat × Nat × Nat) : Nat → Nat × Nat × Nat := fun i => if i = n then x else f i
theorem upN_at (s : Nat → Nat) (c x : Nat) : upN s c x c = x := if_pos rfl
theorem upN_ne (s : Nat → Nat) {c i x : Nat} (h : i ≠ c) : upN s c x i = s i := if_neg h
theorem AL.e2 {h : xH} {q e n : Nat} {f : Nat → Nat} (H : AL h q e (n + 1) f) : 2 ≤ e := by
  obtain ⟨a1, a2, a3, a4⟩ := H
  rcases a4 with ⟨b1, b2, b3⟩ | ⟨b1, b2⟩
  · omega
  · exact b1
theorem AL.ne {h : xH} {q e n a cj : Nat} {fs : List Value} {f : Nat → Nat} (H : AL h q e n f) (ha : h[a]? = some (.inr (cj, fs))) (h2 : 2 ≤ a) : a ≠ e := by
  obtain ⟨a1, a2, a3, a4⟩ := H
  rcases a4 with ⟨rfl, b2, b3⟩ | ⟨b1, g, b2, b3⟩
  · omega
  · exact h_dif ha b2 (by intro z; cases z)
theorem n_subneg {a b : Nat} (h : a < b) (hb : b < 2147483648) : Int32.ofNat a - Int32.ofNat b < 0 := by
  rw [Int32.lt_iff_toInt_lt, Int32.toInt_sub, n_toInt (by omega), n_toInt hb]
  rw [Int.bmod_eq_of_le (by omega) (by omega)]
  show (a : Int) - b < 0
  omega
/-- what is beside the lists stays -/
theorem RC.addV {h h' : xH} {s : St} {e em er : Nat} {vs rs : Nat → Nat} (h30 : 30 ≤ h.length) (H : RC h s e em er vs rs) {e' b k c hd k1 m1 : Nat} {Y : List Value} (hY : Y.length = 7) (A : AL h' 8 e' (gv (sE s) + 1) (adF vs (gv (sE s)) b)) (he : e' = e ∨ h.length ≤ e') (hb : h.length ≤ b) (hbc : h'[b]? = some (vcell c k hd Y)) (F : FR (fun a => a = 8 ∨ (a = e ∧ 2 ≤ a)) k1 m1 h h') : RC h' (stE s (addV (sE s) k c hd)) e' em er (adF vs (gv (sE s)) b) rs ∧ FR CP k1 m1 h h' := by
  obtain ⟨a1, ⟨X, L, a2⟩, a3, a4, a5, ⟨g, a6, a7⟩, a8, a9, b1, b2, b3, b4, b5, b6, b7⟩ := H
  have nfix : ∀ a, a < 30 → a ≠ 8 → ¬ (a = 8 ∨ (a = e ∧ 2 ≤ a)) := by intro a h1 h2 z; omega
  have hel := a2.al.lt
  have hml : em < h.length := by obtain ⟨L, w, n, nm, s', fr, f, m1, m2, m3, m4⟩ := a3; exact m4.lt
  have hrl := a4.lt
  have nem : ¬ (em = 8 ∨ (em = e ∧ 2 ≤ em)) := by rintro (z | ⟨z, z2⟩); omega; have := b4 z.symm; omega
  have ner : ¬ (er = 8 ∨ (er = e ∧ 2 ≤ er)) := by rintro (z | ⟨z, z2⟩); omega; have := b5 z.symm; omega
  have nrs : ∀ r, r < sRn s → ¬ (rs r = 8 ∨ (rs r = e ∧ 2 ≤ rs r)) := by
    intro r hr z
    have h49 := (a5 r hr).1
    rcases z with z | ⟨z, z2⟩
    · omega
    · exact a2.al.ne (a5 r hr).2 z2 z
  have nvs : ∀ v, v < gv (sE s) → ¬ (vs v = 8 ∨ (vs v = e ∧ 2 ≤ vs v)) := by
    intro v hv z
    have h49 := a9 v hv
    rcases z with z | ⟨z, z2⟩
    · omega
    · exact a2.al.ne (a2.at hv) z2 z
  have hvl : ∀ v, v < gv (sE s) → vs v < h.length := fun v hv => h_lt (a2.at hv)
  refine ⟨⟨F.at a1 (nfix _ (by omega) (by omega)), ⟨fun v => if v = gv (sE s) then Y else X v, L, ?_⟩, a3.fr F (fun a h1 h2 => nfix _ (by omega) (by omega)) nem, a4.fr F (nfix _ (by omega) (by omega)) ner, fun r hr => ⟨(a5 r hr).1, F.at (a5 r hr).2 (nrs r hr)⟩, ⟨g, F.at a6 (nfix _ (by omega) (by omega)), a7⟩, fun j hj => (a8 j hj).fr F (nfix _ (by omega) (by omega)) (nfix _ (by omega) (by omega)), fun v hv => ?_, ?_, b2, b3, ?_, ?_, b6, by have := F.1; omega⟩, F.mono (fun a _ z => ?_) (Nat.le_refl _) (Nat.le_refl _)⟩
  · obtain ⟨c1, c2, c3, c4, c5, c6, c7⟩ := a2
    refine ⟨c1, F.at c2 (nfix _ (by omega) (by omega)), c3.fr F (nfix _ (by omega) (by omega)) (nfix _ (by omega) (by omega)), c4.fr F (nfix _ (by omega) (by omega)) (nfix _ (by omega) (by omega)), A, fun v hv => ?_, fun u v hu hv => ?_⟩
    · replace hv : v < gv (sE s) + 1 := hv
      show 2 ≤ adF vs (gv (sE s)) b v ∧ (if v = gv (sE s) then Y else X v).length = 7 ∧ h'[adF vs (gv (sE s)) b v]? = some (vcell (upN (gp (sE s)) (gv (sE s)) c v) (upN (gk (sE s)) (gv (sE s)) k v) (upN (gh (sE s)) (gv (sE s)) hd v) (if v = gv (sE s) then Y else X v))
      unfold adF upN
      by_cases z : v = gv (sE s)
      · simp only [if_pos z]
        exact ⟨by omega, hY, hbc⟩
      · simp only [if_neg z]
        obtain ⟨d1, d2, d3⟩ := c6 v (by omega)
        exact ⟨d1, d2, F.at d3 (nvs v (by omega))⟩
    · replace hu : u < gv (sE s) + 1 := hu
      replace hv : v < gv (sE s) + 1 := hv
      show (if u = gv (sE s) then b else vs u) = (if v = gv (sE s) then b else vs v) → u = v
      by_cases z : u = gv (sE s)
      · by_cases z2 : v = gv (sE s)
        · intro _; omega
        · rw [if_pos z, if_neg z2]
          intro z3
          have := hvl v (by omega)
          omega
      · by_cases z2 : v = gv (sE s)
        · rw [if_neg z, if_pos z2]
          intro z3
          have := hvl u (by omega)
          omega
        · rw [if_neg z, if_neg z2]
          exact c7 u v (by omega) (by omega)
  · replace hv : v < gv (sE s) + 1 := hv
    show 30 ≤ (if v = gv (sE s) then b else vs v)
    by_cases z : v = gv (sE s)
    · rw [if_pos z]; omega
    · rw [if_neg z]; exact a9 v (by omega)
  · rcases he with rfl | he
    · exact b1
    · right; omega
  · intro z
    rcases he with rfl | he
    · exact b4 z
    · omega
  · intro z
    rcases he with rfl | he
    · exact b5 z
    · omega
  · rcases z with z | ⟨z, z2⟩
    · exact Or.inl (by omega)
    · exact Or.inr (by omega)
theorem wp_vinit {d : Nat} {h : xH} {K : Option Value → xH → Prop} {a : Nat} {k c hd : Int32} (ha : h[a]? = some (.inr (6, [.int 0, .int 0, .int 0, .int 0, .int 0, .int 0, .int 0, .int 0, .long 0, .long 0]))) (h2 : 2 ≤ a) : wp d 35 0 [some (.ref a), some (.int k), some (.int c), some (.int hd)] [] h K ↔ K none (h.set a (.inr (6, [.int c, .int k, .int hd, .int 0, .int 0, .int 0, .int 0, .int 0, .long 0, .long 0]))) := by
  have hal := h_lt ha
  simp only [w35_0, w35_0n, w35_1, w35_4, w35_4n, w35_5, w35_6, w35_9, w35_9n, w35_10, w35_11, w35_14, w35_14n, w35_15, w35_16, w35_19, xk_n, xk_i, xk_r, xk_z, xk_l, xcs_0, xcs_i, xcs_r, xcs_z, xcs_l, Nat.reduceAdd, Nat.reduceLeDiff, Nat.reduceLT, true_and, and_true, Option.toList_some, Option.toList_none, List.nil_append, List.cons_append, List.getElem?_cons_zero, List.getElem?_cons_succ, List.set_cons_zero, List.set_cons_succ, List.length_cons, List.length_nil, y_bool0, y_bool1, not_true_eq_false, not_false_eq_true, false_implies, true_implies, true_or, or_true, false_or, or_false, if_true, if_false, ite_true, ite_false, y_put, ha, h2, List.getElem?_set, List.length_set, hal, set_set, y_cls]
section
variable {d : Nat} {h : xH} {K : Option Value → xH → Prop} {s : St}
theorem okS_addV (hO : okS s) {k c hd : Nat} (hc : c < gn (sE s)) (hk : k < 3) (hh : hd < 4) (hv : gv (sE s) < 3) : okS (stE s (addV (sE s) k c hd)) := by
  have hE := hO.okn hc
  obtain ⟨o1, o2, o3, o4⟩ := hO
  refine ⟨Or.inl ⟨hE.1, by show gv (sE s) + 1 ≤ 3; omega, fun v hv' => ?_⟩, o2, fun r hr => ⟨Nat.lt_succ_of_lt (o3 r hr).1, (o3 r hr).2⟩, o4⟩
  replace hv' : v < gv (sE s) + 1 := hv'
  show upN (gk (sE s)) (gv (sE s)) k v < 3 ∧ upN (gp (sE s)) (gv (sE s)) c v < gn (sE s) ∧ upN (gh (sE s)) (gv (sE s)) hd v < 4
  unfold upN
  by_cases z : v = gv (sE s)
  · simp only [if_pos z]; exact ⟨hk, hc, hh⟩
  · simp only [if_neg z]; exact hE.2.2 v (by omega)
theorem cop_vine (h30 : 30 ≤ h.length) (H : RX h s) (k c hd : Int32) (hK : ∀ h', RX h' (opVine s k c hd).2 → FR CP 2 20 h h' → K (some (.int (opVine s k c hd).1)) h') : wp (d + 4) 45 0 [some (.ref 2), some (.int k), some (.int c), some (.int hd), none] [] h K := by
  have HX := H
  obtain ⟨hO, e, em, er, vs, rs, H⟩ := H
  have H0 := H
  obtain ⟨X, L, B⟩ := H.2.1
  have hn := hO.n30
  have hv3 := hO.v3
  have z10 : ((1 : Int32) = 0) = False := eq_false (by decide)
  have F0 : FR CP 2 20 h h := FR.rfl'
  rcases nb_cas c (m := gn (sE s)) (by omega) with ⟨a, ha, rfl, hnb⟩ | ⟨hc, hnb⟩
  · rcases nb_cas k (m := 3) (by omega) with ⟨b, hb, rfl, hnb2⟩ | ⟨hc2, hnb2⟩
    · rcases nb_cas hd (m := 4) (by omega) with ⟨f, hf, rfl, hnb3⟩ | ⟨hc3, hnb3⟩
      · have hE := hO.okn ha
        have e1 : opVine s (Int32.ofNat b) (Int32.ofNat a) (Int32.ofNat f) = if gs (sE s) a = 1 ∨ plF (sE s) a (gv (sE s)) 0 = true then ((-3 : Int32), s) else if gv (sE s) < 3 then (Int32.ofNat (gv (sE s)), stE s (addV (sE s) b a f)) else (-4, s) := by unfold opVine; rw [hnb]; dsimp only; rw [hnb2]; dsimp only; rw [hnb3]
        rw [e1] at hK
        have hs4 : gs (sE s) a < 4 := hO.2.2.2 a ha
        have t1 : (Int32.ofNat (gs (sE s) a) = 1) = (gs (sE s) a = 1) := propext (n_eql (m := 1) (by omega) (by omega))
        have t2 : (Int32.ofNat (gv (sE s)) < 3) = (gv (sE s) < 3) := propext (n_ltl (m := 3) (by omega) (by omega))
        simp only [w45_0, w45_0n, w45_1, w45_4, w45_7, w45_8, w45_11, w45_14, w45_15, w45_16, w45_17, w45_18, w45_21, w45_24, w45_25, w45_26, w45_29, w45_32, w45_34, w45_35, w45_35n, w45_36, w45_39, w45_42, w45_43, w45_46, w45_47, w45_50, w45_50n, w45_51, w45_54, w45_55, w45_58, w45_61, w45_63, w45_64, w45_64n, w45_65, w45_68, w45_71, w45_74, w45_76, w45_78, w45_79, w45_82, w45_84, w45_85, w45_85n, w45_86, w45_89, w45_92, w45_95, w45_95r, w45_96, w45_97, w45_98, w45_99, w45_102, w45_105, w45_105r, w45_105n, w45_106, w45_108, xk_n, xk_i, xk_r, xk_z, xk_l, xcs_0, xcs_i, xcs_r, xcs_z, xcs_l, Nat.reduceAdd, Nat.reduceLeDiff, Nat.reduceLT, true_and, and_true, Option.toList_some, Option.toList_none, List.nil_append, List.cons_append, List.getElem?_cons_zero, List.getElem?_cons_succ, List.set_cons_zero, List.set_cons_succ, List.length_cons, List.length_nil, y_bool0, y_bool1, not_true_eq_false, not_false_eq_true, false_implies, true_implies, true_or, or_true, false_or, or_false, if_true, if_false, ite_true, ite_false, y_get, H.1, B.bed, B.cls, B.pl.cls, wp_hasCell B.pl, hc_t hn ha, bi_t, z10, wp_below_t (m := 3) (by omega) hb, wp_below_t (m := 4) (by omega) hf, t1, t2, wp_isPlanted B hE (show a < 30 by omega), wp_signOf (o := some a) B.pl (Or.inl ⟨a, rfl, ha, rfl⟩), sgO_s, B.al.cls, wp_size B.al]
        by_cases q : gs (sE s) a = 1
        · rw [if_pos (Or.inl q)] at hK
          exact ⟨fun _ => hK h HX F0, fun z => absurd q z⟩
        · refine ⟨fun z => absurd z q, fun _ => ?_⟩
          cases q2 : plF (sE s) a (gv (sE s)) 0
          · rw [if_neg (by rw [q2]; simp [q])] at hK
            simp only [xk_n, xk_i, xk_r, xk_z, xk_l, xcs_0, xcs_i, xcs_r, xcs_z, xcs_l, Nat.reduceAdd, Nat.reduceLeDiff, Nat.reduceLT, true_and, and_true, Option.toList_some, Option.toList_none, List.nil_append, List.cons_append, List.getElem?_cons_zero, List.getElem?_cons_succ, List.set_cons_zero, List.set_cons_succ, List.length_cons, List.length_nil, y_bool0, y_bool1, not_true_eq_false, not_false_eq_true, false_implies, true_implies, true_or, or_true, false_or, or_false, if_true, if_false, ite_true, ite_false, bi_f]
            by_cases q3 : gv (sE s) < 3
            · rw [if_pos q3] at hK
              refine ⟨fun _ => ?_, fun z => absurd q3 z⟩
              have hL2 : 2 ≤ h.length := by have := H.2.2.2.2.2.2.2.2.2.2.2.2.2.2; omega
              have hnew : (h ++ [.inr (6, [.int 0, .int 0, .int 0, .int 0, .int 0, .int 0, .int 0, .int 0, .long 0, .long 0])])[h.length]? = some (.inr (6, [.int 0, .int 0, .int 0, .int 0, .int 0, .int 0, .int 0, .int 0, .long 0, .long 0])) := h_app_new
              simp only [wp_vinit hnew hL2, w45_0, w45_0n, w45_1, w45_4, w45_7, w45_8, w45_11, w45_14, w45_15, w45_16, w45_17, w45_18, w45_21, w45_24, w45_25, w45_26, w45_29, w45_32, w45_34, w45_35, w45_35n, w45_36, w45_39, w45_42, w45_43, w45_46, w45_47, w45_50, w45_50n, w45_51, w45_54, w45_55, w45_58, w45_61, w45_63, w45_64, w45_64n, w45_65, w45_68, w45_71, w45_74, w45_76, w45_78, w45_79, w45_82, w45_84, w45_85, w45_85n, w45_86, w45_89, w45_92, w45_95, w45_95r, w45_96, w45_97, w45_98, w45_99, w45_102, w45_105, w45_105r, w45_105n, w45_106, w45_108, xk_n, xk_i, xk_r, xk_z, xk_l, xcs_0, xcs_i, xcs_r, xcs_z, xcs_l, Nat.reduceAdd, Nat.reduceLeDiff, Nat.reduceLT, true_and, and_true, Option.toList_some, Option.toList_none, List.nil_append, List.cons_append, List.getElem?_cons_zero, List.getElem?_cons_succ, List.set_cons_zero, List.set_cons_succ, List.length_cons, List.length_nil, y_bool0, y_bool1, not_true_eq_false, not_false_eq_true, false_implies, true_implies, true_or, or_true, false_or, or_false, if_true, if_false, ite_true, ite_false]
              have F1 : FR (fun _ => False) 1 10 h (h ++ [.inr (6, [.int 0, .int 0, .int 0, .int 0, .int 0, .int 0, .int 0, .int 0, .long 0, .long 0])]) := FR.app _
              have F2 := F1.trans (FR.set (c := .inr (6, [.int (Int32.ofNat a), .int (Int32.ofNat b), .int (Int32.ofNat f), .int 0, .int 0, .int 0, .int 0, .int 0, .long 0, .long 0])) hnew rfl) (R := fun _ => False) (fun _ _ z => z) (fun _ hx z => by omega) (Nat.le_refl _) (Nat.le_refl _)
              have hat := h_set_at (c := .inr (6, [.int (Int32.ofNat a), .int (Int32.ofNat b), .int (Int32.ofNat f), .int 0, .int 0, .int 0, .int 0, .int 0, .long 0, .long 0])) hnew
              generalize (h ++ [(.inr (6, [.int 0, .int 0, .int 0, .int 0, .int 0, .int 0, .int 0, .int 0, .long 0, .long 0]) : xC)]).set h.length (.inr (6, [.int (Int32.ofNat a), .int (Int32.ofNat b), .int (Int32.ofNat f), .int 0, .int 0, .int 0, .int 0, .int 0, .long 0, .long 0])) = h2 at F2 hat
              have A2 : AL h2 8 e (gv (sE s)) vs := B.al.fr F2 (fun z => z) (fun z => z)
              have h8 : h.length ≠ 8 := by have := H.2.2.2.2.2.2.2.2.2.2.2.2.2.2; omega
              simp only [A2.cls, xk_n, xk_i, xk_r, xk_z, xk_l, xcs_0, xcs_i, xcs_r, xcs_z, xcs_l, Nat.reduceAdd, Nat.reduceLeDiff, Nat.reduceLT, true_and, and_true, Option.toList_some, Option.toList_none, List.nil_append, List.cons_append, List.getElem?_cons_zero, List.getElem?_cons_succ, List.set_cons_zero, List.set_cons_succ, List.length_cons, List.length_nil, y_bool0, y_bool1, not_true_eq_false, not_false_eq_true, false_implies, true_implies, true_or, or_true, false_or, or_false, if_true, if_false, ite_true, ite_false]
              refine wp_add A2 (by omega) hL2 hat (by omega) h8 fun h3 e' A3 he F3 => ?_
              simp only [w45_0, w45_0n, w45_1, w45_4, w45_7, w45_8, w45_11, w45_14, w45_15, w45_16, w45_17, w45_18, w45_21, w45_24, w45_25, w45_26, w45_29, w45_32, w45_34, w45_35, w45_35n, w45_36, w45_39, w45_42, w45_43, w45_46, w45_47, w45_50, w45_50n, w45_51, w45_54, w45_55, w45_58, w45_61, w45_63, w45_64, w45_64n, w45_65, w45_68, w45_71, w45_74, w45_76, w45_78, w45_79, w45_82, w45_84, w45_85, w45_85n, w45_86, w45_89, w45_92, w45_95, w45_95r, w45_96, w45_97, w45_98, w45_99, w45_102, w45_105, w45_105r, w45_105n, w45_106, w45_108, xk_n, xk_i, xk_r, xk_z, xk_l, xcs_0, xcs_i, xcs_r, xcs_z, xcs_l, Nat.reduceAdd, Nat.reduceLeDiff, Nat.reduceLT, true_and, and_true, Option.toList_some, Option.toList_none, List.nil_append, List.cons_append, List.getElem?_cons_zero, List.getElem?_cons_succ, List.set_cons_zero, List.set_cons_succ, List.length_cons, List.length_nil, y_bool0, y_bool1, not_true_eq_false, not_false_eq_true, false_implies, true_implies, true_or, or_true, false_or, or_false, if_true, if_false, ite_true, ite_false]
              have hlen : h.length ≤ h2.length := F2.1
              have hbl := h_lt hat
              have hbe : h.length ≠ e := A2.ne hat hL2
              have hat3 := F3.at hat (by intro z; rcases z with z | ⟨z, z2⟩; exact h8 z; exact hbe z)
              have R := RC.addV h30 H0 (Y := [.int 0, .int 0, .int 0, .int 0, .int 0, .long 0, .long 0]) rfl A3 (by rcases he with he | he; exact Or.inl he; right; omega) (Nat.le_refl _) hat3 (F2.trans F3 (R := fun a => a = 8 ∨ (a = e ∧ 2 ≤ a)) (fun _ _ z => z.elim) (fun _ _ z => z) (Nat.le_refl _) (Nat.le_refl _))
              exact hK h3 ⟨okS_addV hO ha hb hf q3, _, _, _, _, _, R.1⟩ R.2
            · rw [if_neg q3] at hK
              exact ⟨fun z => absurd z q3, fun _ => hK h HX F0⟩
          · rw [if_pos (Or.inr q2)] at hK
            simp only [xk_n, xk_i, xk_r, xk_z, xk_l, xcs_0, xcs_i, xcs_r, xcs_z, xcs_l, Nat.reduceAdd, Nat.reduceLeDiff, Nat.reduceLT, true_and, and_true, Option.toList_some, Option.toList_none, List.nil_append, List.cons_append, List.getElem?_cons_zero, List.getElem?_cons_succ, List.set_cons_zero, List.set_cons_succ, List.length_cons, List.length_nil, y_bool0, y_bool1, not_true_eq_false, not_false_eq_true, false_implies, true_implies, true_or, or_true, false_or, or_false, if_true, if_false, ite_true, ite_false, bi_t, z10]
            exact hK h HX F0
      · have e1 : opVine s (Int32.ofNat b) (Int32.ofNat a) hd = (-2, s) := by unfold opVine; rw [hnb]; dsimp only; rw [hnb2]; dsimp only; rw [hnb3]
        rw [e1] at hK
        simp only [w45_0, w45_0n, w45_1, w45_4, w45_7, w45_8, w45_11, w45_14, w45_15, w45_16, w45_17, w45_18, w45_21, w45_24, w45_25, w45_26, w45_29, w45_32, w45_34, w45_35, w45_35n, w45_36, w45_39, w45_42, w45_43, w45_46, w45_47, w45_50, w45_50n, w45_51, w45_54, w45_55, w45_58, w45_61, w45_63, w45_64, w45_64n, w45_65, w45_68, w45_71, w45_74, w45_76, w45_78, w45_79, w45_82, w45_84, w45_85, w45_85n, w45_86, w45_89, w45_92, w45_95, w45_95r, w45_96, w45_97, w45_98, w45_99, w45_102, w45_105, w45_105r, w45_105n, w45_106, w45_108, xk_n, xk_i, xk_r, xk_z, xk_l, xcs_0, xcs_i, xcs_r, xcs_z, xcs_l, Nat.reduceAdd, Nat.reduceLeDiff, Nat.reduceLT, true_and, and_true, Option.toList_some, Option.toList_none, List.nil_append, List.cons_append, List.getElem?_cons_zero, List.getElem?_cons_succ, List.set_cons_zero, List.set_cons_succ, List.length_cons, List.length_nil, y_bool0, y_bool1, not_true_eq_false, not_false_eq_true, false_implies, true_implies, true_or, or_true, false_or, or_false, if_true, if_false, ite_true, ite_false, y_get, H.1, B.bed, B.pl.cls, wp_hasCell B.pl, hc_t hn ha, bi_t, z10, wp_below_t (m := 3) (by omega) hb, wp_below_f (m := 4) hc3]
        exact hK h HX F0
    · have e1 : opVine s k (Int32.ofNat a) hd = (-2, s) := by unfold opVine; rw [hnb]; dsimp only; rw [hnb2]
      rw [e1] at hK
      simp only [w45_0, w45_0n, w45_1, w45_4, w45_7, w45_8, w45_11, w45_14, w45_15, w45_16, w45_17, w45_18, w45_21, w45_24, w45_25, w45_26, w45_29, w45_32, w45_34, w45_35, w45_35n, w45_36, w45_39, w45_42, w45_43, w45_46, w45_47, w45_50, w45_50n, w45_51, w45_54, w45_55, w45_58, w45_61, w45_63, w45_64, w45_64n, w45_65, w45_68, w45_71, w45_74, w45_76, w45_78, w45_79, w45_82, w45_84, w45_85, w45_85n, w45_86, w45_89, w45_92, w45_95, w45_95r, w45_96, w45_97, w45_98, w45_99, w45_102, w45_105, w45_105r, w45_105n, w45_106, w45_108, xk_n, xk_i, xk_r, xk_z, xk_l, xcs_0, xcs_i, xcs_r, xcs_z, xcs_l, Nat.reduceAdd, Nat.reduceLeDiff, Nat.reduceLT, true_and, and_true, Option.toList_some, Option.toList_none, List.nil_append, List.cons_append, List.getElem?_cons_zero, List.getElem?_cons_succ, List.set_cons_zero, List.set_cons_succ, List.length_cons, List.length_nil, y_bool0, y_bool1, not_true_eq_false, not_false_eq_true, false_implies, true_implies, true_or, or_true, false_or, or_false, if_true, if_false, ite_true, ite_false, y_get, H.1, B.bed, B.pl.cls, wp_hasCell B.pl, hc_t hn ha, bi_t, z10, wp_below_f (m := 3) hc2]
      exact hK h HX F0
  · have e1 : opVine s k c hd = (-1, s) := by unfold opVine; rw [hnb]
    rw [e1] at hK
    simp only [w45_0, w45_0n, w45_1, w45_4, w45_7, w45_8, w45_11, w45_14, w45_15, w45_16, w45_17, w45_18, w45_21, w45_24, w45_25, w45_26, w45_29, w45_32, w45_34, w45_35, w45_35n, w45_36, w45_39, w45_42, w45_43, w45_46, w45_47, w45_50, w45_50n, w45_51, w45_54, w45_55, w45_58, w45_61, w45_63, w45_64, w45_64n, w45_65, w45_68, w45_71, w45_74, w45_76, w45_78, w45_79, w45_82, w45_84, w45_85, w45_85n, w45_86, w45_89, w45_92, w45_95, w45_95r, w45_96, w45_97, w45_98, w45_99, w45_102, w45_105, w45_105r, w45_105n, w45_106, w45_108, xk_n, xk_i, xk_r, xk_z, xk_l, xcs_0, xcs_i, xcs_r, xcs_z, xcs_l, Nat.reduceAdd, Nat.reduceLeDiff, Nat.reduceLT, true_and, and_true, Option.toList_some, Option.toList_none, List.nil_append, List.cons_append, List.getElem?_cons_zero, List.getElem?_cons_succ, List.set_cons_zero, List.set_cons_succ, List.length_cons, List.length_nil, y_bool0, y_bool1, not_true_eq_false, not_false_eq_true, false_implies, true_implies, true_or, or_true, false_or, or_false, if_true, if_false, ite_true, ite_false, y_get, H.1, B.bed, B.pl.cls, wp_hasCell B.pl, plc_f hc, bi_f]
    exact hK h HX F0
end
