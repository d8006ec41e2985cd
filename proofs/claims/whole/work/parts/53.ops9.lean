/-! ===== the program's calls: mazes ===== -/
def sgM (code c : Nat) : Nat := if c = 0 then 0 else if c = 8 then 3 else code / 2 ^ (c - 1) % 2
def Em (k : Nat) (s : Nat → Nat) : Gd := (3, 9, s, 1, fun _ => k, fun _ => 0, fun _ => 1)
def mzB (k n code : Nat) : Bool := match vo (runM (Em k (sgM code)) 80 0) with
  | some m => decide (m ≤ n)
  | none => false
def mzN (k n : Nat) : Nat → Nat
  | 0 => 0
  | c + 1 => if mzB k n c then mzN k n c + 1 else mzN k n c
theorem mzN_s (k n c : Nat) : mzN k n (c + 1) = if mzB k n c then mzN k n c + 1 else mzN k n c := rfl
theorem mzN_le (k n : Nat) : ∀ c, mzN k n c ≤ c
  | 0 => Nat.le_refl _
  | c + 1 => by
    rw [mzN_s]
    have := mzN_le k n c
    split <;> omega
def opMazes (k n : Int32) : Int32 := match nb k 3 with
  | none => -2
  | some k => match nb n 80 with
    | none => -2
    | some n => Int32.ofNat (mzN k n 128)
theorem okE_m {k : Nat} (hk : k < 3) (s : Nat → Nat) : okE (Em k s) := ⟨⟨(by show 2 ≤ 3; omega), (by show 3 ≤ 6; omega), (by show 9 ≤ 30; omega), 3, rfl⟩, (by show 1 ≤ 3; omega), fun v hv => ⟨hk, (by show 0 < 9; omega), (by show 1 < 4; omega)⟩⟩
/-- the maze's bed is another, all else stays -/
theorem RC.M {h h' : xH} {s : St} {e em er em' k m : Nat} {vs rs : Nat → Nat} (H : RC h s e em er vs rs) (M : MZ h' em') (he : em' = em ∨ h.length ≤ em') (F : FR (fun a => (9 ≤ a ∧ a < 15) ∨ (a = em ∧ 2 ≤ a)) k m h h') : RC h' s e em' er vs rs ∧ FR CP k m h h' := by
  obtain ⟨a1, ⟨X, L, a2⟩, a3, a4, a5, ⟨g, a6, a7⟩, a8, a9, b1, b2, b3, b4, b5, b6, b7⟩ := H
  have nfix : ∀ a, a < 49 → (a < 9 ∨ 15 ≤ a) → ¬ ((9 ≤ a ∧ a < 15) ∨ (a = em ∧ 2 ≤ a)) := by intro a h1 h2 z; omega
  have hel := a2.al.lt
  have hrl := a4.lt
  obtain ⟨Lm, w, n, nm, sm, fm, fs, m1, m2, m3, m4⟩ := a3
  have nee : ¬ ((9 ≤ e ∧ e < 15) ∨ (e = em ∧ 2 ≤ e)) := by rintro (z | ⟨z, z2⟩); omega; have := b4 z; omega
  have ner : ¬ ((9 ≤ er ∧ er < 15) ∨ (er = em ∧ 2 ≤ er)) := by rintro (z | ⟨z, z2⟩); omega; have := b6 z.symm; omega
  have nrs : ∀ r, r < sRn s → ¬ ((9 ≤ rs r ∧ rs r < 15) ∨ (rs r = em ∧ 2 ≤ rs r)) := by
    intro r hr z
    have h49 := (a5 r hr).1
    rcases z with z | ⟨z, z2⟩
    · omega
    · exact m4.ne (a5 r hr).2 z2 z
  have nvs : ∀ v, v < gv (sE s) → ¬ ((9 ≤ vs v ∧ vs v < 15) ∨ (vs v = em ∧ 2 ≤ vs v)) := by
    intro v hv z
    have h49 := a9 v hv
    rcases z with z | ⟨z, z2⟩
    · omega
    · exact m4.ne (a2.at hv) z2 z
  refine ⟨⟨F.at a1 (nfix _ (by omega) (by omega)), ⟨X, L, ?_⟩, M, a4.fr F (nfix _ (by omega) (by omega)) ner, fun r hr => ⟨(a5 r hr).1, F.at (a5 r hr).2 (nrs r hr)⟩, ⟨g, F.at a6 (nfix _ (by omega) (by omega)), a7⟩, fun j hj => (a8 j hj).fr F (nfix _ (by omega) (by omega)) (nfix _ (by omega) (by omega)), a9, b1, ?_, b3, ?_, b5, ?_, by have := F.1; omega⟩, F.mono (fun a _ z => ?_) (Nat.le_refl _) (Nat.le_refl _)⟩
  · obtain ⟨c1, c2, c3, c4, c5, c6, c7⟩ := a2
    exact ⟨c1, F.at c2 (nfix _ (by omega) (by omega)), c3.fr F (nfix _ (by omega) (by omega)) (nfix _ (by omega) (by omega)), c4.fr F (nfix _ (by omega) (by omega)) (nfix _ (by omega) (by omega)), c5.fr F (nfix _ (by omega) (by omega)) nee, fun v hv => ⟨(c6 v hv).1, (c6 v hv).2.1, F.at (c6 v hv).2.2 (nvs v hv)⟩, c7⟩
  · rcases he with rfl | he
    · exact b2
    · right; omega
  · intro z
    rcases he with rfl | he
    · exact b4 z
    · omega
  · intro z
    rcases he with rfl | he
    · exact b6 z
    · omega
  · rcases z with z | ⟨z, z2⟩
    · exact Or.inl (by omega)
    · exact Or.inr (by omega)
theorem BD.sx {h : xH} {q e w n nv : Nat} {s s' : Nat → Nat} {gk gp gh : Nat → Nat} {fr : Nat → Bool} {vs : Nat → Nat} {X : Nat → List Value} {L : Int64} (H : BD h q e (w, n, s, nv, gk, gp, gh) fr vs X L) (hs : ∀ c, c < n → s' c = s c) : BD h q e (w, n, s', nv, gk, gp, gh) fr vs X L := by
  obtain ⟨a1, a2, a3, a4, a5, a6, a7⟩ := H
  exact ⟨a1, a2, a3.ext hs, a4, a5, a6, a7⟩
section
variable {d : Nat} {K : Option Value → xH → Prop} {e : Nat} {fr : Nat → Bool} {vs : Nat → Nat}
theorem wp_mzc {t f : Int32} {a b c k code : Nat} {l1 l2 l3 l4 : Option Value} (hcode : code < 128) (hvs : vs 0 ≠ 2) : ∀ (j i : Nat) (h : xH) (s : Nat → Nat), i + j = 8 → 1 ≤ i → h[2]? = some (.inr (7, [.ref a, .ref 9, .ref b, .ref c, .int t, .int f])) → BX h 9 e (Em k s) fr vs → s 0 = 0 → s 8 = 3 → (∀ x, 1 ≤ x → x < i → s x = sgM code x) → (∀ h' l6, h'[2]? = some (.inr (7, [.ref a, .ref 9, .ref b, .ref c, .int t, .int f])) → BX h' 9 e (Em k (sgM code)) fr vs → FR (TP 9 1 vs) 0 0 h h' → wp (d + 5) 58 170 [some (.ref 2), l1, l2, l3, l4, some (.int (Int32.ofNat code)), l6] [] h' K) → wp (d + 5) 58 117 [some (.ref 2), l1, l2, l3, l4, some (.int (Int32.ofNat code)), some (.int (Int32.ofNat i))] [] h K
  | 0, i, h, s, hj, hi, h2, ⟨X, L, B⟩, s0, s8, hs, hK => by
    have hi8 : i = 8 := by omega
    subst hi8
    have q : Int32.ofNat 9 - 1 ≤ Int32.ofNat 8 := by decide
    rw [w58_117]
    simp only [w58_0, w58_1, w58_2, w58_5, w58_8, w58_9, w58_11, w58_14, w58_17, w58_19, w58_20, w58_23, w58_23r, w58_24, w58_25, w58_26, w58_27, w58_30, w58_30n, w58_31, w58_31n, w58_32, w58_35, w58_38, w58_41, w58_41n, w58_42, w58_45, w58_48, w58_48n, w58_49, w58_52, w58_52r, w58_52n, w58_53, w58_53n, w58_54, w58_57, w58_60, w58_61, w58_62, w58_65, w58_65n, w58_66, w58_69, w58_72, w58_73, w58_74, w58_77, w58_77n, w58_78, w58_81, w58_84, w58_84n, w58_85, w58_88, w58_91, w58_94, w58_95, w58_96, w58_97, w58_100, w58_101, w58_103, w58_104, w58_106, w58_108, w58_111, w58_114, w58_115, w58_119, w58_119n, w58_120, w58_123, w58_126, w58_129, w58_130, w58_131, w58_134, w58_134n, w58_135, w58_138, w58_141, w58_143, w58_145, w58_147, w58_148, w58_149, w58_150, w58_151, w58_152, w58_153, w58_156, w58_157, w58_160, w58_161, w58_164, w58_167, w58_171, w58_174, w58_174n, w58_175, w58_178, w58_180, w58_182, w58_183, w58_186, w58_188, w58_189, w58_192, w58_195, w58_198, w58_201, w58_203, xk_n, xk_i, xk_r, xk_z, xk_l, xcs_0, xcs_i, xcs_r, xcs_z, xcs_l, Nat.reduceAdd, Nat.reduceLeDiff, Nat.reduceLT, true_and, and_true, Option.toList_some, Option.toList_none, List.nil_append, List.cons_append, List.getElem?_cons_zero, List.getElem?_cons_succ, List.set_cons_zero, List.set_cons_succ, List.length_cons, List.length_nil, y_bool0, y_bool1, not_true_eq_false, not_false_eq_true, false_implies, true_implies, true_or, or_true, false_or, or_false, if_true, if_false, ite_true, ite_false, y_get, h2, B.bed, B.pl.1, show gn (Em k s) = 9 from rfl, q]
    refine hK h _ h2 ⟨X, L, B.sx fun x hx => ?_⟩ FR.rfl'
    by_cases z : x = 0
    · rw [z, s0]; rfl
    · by_cases z2 : x = 8
      · rw [z2, s8]; rfl
      · replace hx : x < 9 := hx
        exact (hs x (by omega) (by omega)).symm
  | j + 1, i, h, s, hj, hi, h2, ⟨X, L, B⟩, s0, s8, hs, hK => by
    have q : (Int32.ofNat 9 - 1 ≤ Int32.ofNat i) = False := eq_false (by
      have : ∀ i : Nat, i < 8 → ¬ (Int32.ofNat 9 - 1 ≤ Int32.ofNat i) := by decide +kernel
      exact this i (by omega))
    have z1 : Int32.ofNat i - 1 = Int32.ofNat (i - 1) := n_subl (a := i) (m := 1) (by omega)
    have z2 : Int32.ofNat code >>> (Int32.ofNat (i - 1) &&& 31) = Int32.ofNat (code / 2 ^ (i - 1)) := i_shr (by omega) (by omega)
    have hdl := Nat.div_le_self code (2 ^ (i - 1))
    have z3 : Int32.ofNat (code / 2 ^ (i - 1)) &&& 1 = Int32.ofNat (code / 2 ^ (i - 1) % 2) := i_and1 (by omega)
    have hm2 : code / 2 ^ (i - 1) % 2 < 2 := Nat.mod_lt _ (by omega)
    have z4 : (Int32.ofNat (code / 2 ^ (i - 1) % 2) = 1) = (code / 2 ^ (i - 1) % 2 = 1) := propext (n_eql (m := 1) (by omega) (by omega))
    have z8 : Int32.ofNat i + 1 = Int32.ofNat (i + 1) := n_addl i 1
    have hsg : sgM code i = code / 2 ^ (i - 1) % 2 := by unfold sgM; rw [if_neg (by omega), if_neg (by omega)]
    have go : wp (d + 4) 20 0 [some (.ref (9 + 1)), some (.int (Int32.ofNat i)), some (.int (Int32.ofNat (sgM code i)))] [] h (fun v h1 => wp (d + 4 + 1) 58 164 [some (.ref 2), l1, l2, l3, l4, some (.int (Int32.ofNat code)), some (.int (Int32.ofNat i))] (v.toList ++ []) h1 K) := by
      refine wp_mark B.pl (show i < 9 by omega) (x := sgM code i) (by rw [hsg]; omega) fun h1 P1 F1 => ?_
      have B1 := B.mk P1 F1
      have h12 := F1.at h2 (by omega)
      simp only [w58_0, w58_1, w58_2, w58_5, w58_8, w58_9, w58_11, w58_14, w58_17, w58_19, w58_20, w58_23, w58_23r, w58_24, w58_25, w58_26, w58_27, w58_30, w58_30n, w58_31, w58_31n, w58_32, w58_35, w58_38, w58_41, w58_41n, w58_42, w58_45, w58_48, w58_48n, w58_49, w58_52, w58_52r, w58_52n, w58_53, w58_53n, w58_54, w58_57, w58_60, w58_61, w58_62, w58_65, w58_65n, w58_66, w58_69, w58_72, w58_73, w58_74, w58_77, w58_77n, w58_78, w58_81, w58_84, w58_84n, w58_85, w58_88, w58_91, w58_94, w58_95, w58_96, w58_97, w58_100, w58_101, w58_103, w58_104, w58_106, w58_108, w58_111, w58_114, w58_115, w58_119, w58_119n, w58_120, w58_123, w58_126, w58_129, w58_130, w58_131, w58_134, w58_134n, w58_135, w58_138, w58_141, w58_143, w58_145, w58_147, w58_148, w58_149, w58_150, w58_151, w58_152, w58_153, w58_156, w58_157, w58_160, w58_161, w58_164, w58_167, w58_171, w58_174, w58_174n, w58_175, w58_178, w58_180, w58_182, w58_183, w58_186, w58_188, w58_189, w58_192, w58_195, w58_198, w58_201, w58_203, xk_n, xk_i, xk_r, xk_z, xk_l, xcs_0, xcs_i, xcs_r, xcs_z, xcs_l, Nat.reduceAdd, Nat.reduceLeDiff, Nat.reduceLT, true_and, and_true, Option.toList_some, Option.toList_none, List.nil_append, List.cons_append, List.getElem?_cons_zero, List.getElem?_cons_succ, List.set_cons_zero, List.set_cons_succ, List.length_cons, List.length_nil, y_bool0, y_bool1, not_true_eq_false, not_false_eq_true, false_implies, true_implies, true_or, or_true, false_or, or_false, if_true, if_false, ite_true, ite_false, z8]
      refine wp_mzc hcode hvs j (i + 1) h1 (upN s i (sgM code i)) (by omega) (by omega) h12 ⟨X, L, B1⟩ (by rw [upN_ne _ (by omega), s0]) (by rw [upN_ne _ (by omega), s8]) (fun x hx1 hx2 => ?_) fun h' l6 a1 a2 a3 => hK h' l6 a1 a2 ((F1.mono (R := TP 9 1 vs) (fun _ _ z => Or.inr (Or.inl z)) (Nat.le_refl _) (Nat.le_refl _)).tr a3)
      by_cases z : x = i
      · rw [z, upN_at]
      · rw [upN_ne _ z]; exact hs x hx1 (by omega)
    rw [w58_117]
    simp only [w58_0, w58_1, w58_2, w58_5, w58_8, w58_9, w58_11, w58_14, w58_17, w58_19, w58_20, w58_23, w58_23r, w58_24, w58_25, w58_26, w58_27, w58_30, w58_30n, w58_31, w58_31n, w58_32, w58_35, w58_38, w58_41, w58_41n, w58_42, w58_45, w58_48, w58_48n, w58_49, w58_52, w58_52r, w58_52n, w58_53, w58_53n, w58_54, w58_57, w58_60, w58_61, w58_62, w58_65, w58_65n, w58_66, w58_69, w58_72, w58_73, w58_74, w58_77, w58_77n, w58_78, w58_81, w58_84, w58_84n, w58_85, w58_88, w58_91, w58_94, w58_95, w58_96, w58_97, w58_100, w58_101, w58_103, w58_104, w58_106, w58_108, w58_111, w58_114, w58_115, w58_119, w58_119n, w58_120, w58_123, w58_126, w58_129, w58_130, w58_131, w58_134, w58_134n, w58_135, w58_138, w58_141, w58_143, w58_145, w58_147, w58_148, w58_149, w58_150, w58_151, w58_152, w58_153, w58_156, w58_157, w58_160, w58_161, w58_167, w58_171, w58_174, w58_174n, w58_175, w58_178, w58_180, w58_182, w58_183, w58_186, w58_188, w58_189, w58_192, w58_195, w58_198, w58_201, w58_203, xk_n, xk_i, xk_r, xk_z, xk_l, xcs_0, xcs_i, xcs_r, xcs_z, xcs_l, Nat.reduceAdd, Nat.reduceLeDiff, Nat.reduceLT, true_and, and_true, Option.toList_some, Option.toList_none, List.nil_append, List.cons_append, List.getElem?_cons_zero, List.getElem?_cons_succ, List.set_cons_zero, List.set_cons_succ, List.length_cons, List.length_nil, y_bool0, y_bool1, not_true_eq_false, not_false_eq_true, false_implies, true_implies, true_or, or_true, false_or, or_false, if_true, if_false, ite_true, ite_false, y_get, h2, B.bed, B.pl.1, B.pl.cls, show gn (Em k s) = 9 from rfl, q, z1, z2, z3, z4]
    by_cases c1 : code / 2 ^ (i - 1) % 2 = 1
    · refine ⟨fun z => absurd c1 z, fun _ => ?_⟩
      rw [hsg, c1] at go
      exact go
    · refine ⟨fun _ => ?_, fun z => absurd z c1⟩
      have c0 : code / 2 ^ (i - 1) % 2 = 0 := by omega
      rw [hsg, c0] at go
      exact go
theorem wp_mzo {t f : Int32} {a b c k n : Nat} {l1 : Option Value} (hk : k < 3) (hn : n < 80) (hvs : vs 0 ≠ 2) : ∀ (j code : Nat) (h : xH) (s : Nat → Nat) (l6 : Option Value), code + j = 128 → h[2]? = some (.inr (7, [.ref a, .ref 9, .ref b, .ref c, .int t, .int f])) → BX h 9 e (Em k s) fr vs → s 0 = 0 → s 8 = 3 → (∀ h' s', BX h' 9 e (Em k s') fr vs → FR (TP 9 1 vs) 0 0 h h' → K (some (.int (Int32.ofNat (mzN k n 128)))) h') → wp (d + 5) 58 106 [some (.ref 2), l1, some (.int (Int32.ofNat n)), some (.ref (vs 0)), some (.int (Int32.ofNat (mzN k n code))), some (.int (Int32.ofNat code)), l6] [] h K
  | 0, code, h, s, l6, hj, h2, B, s0, s8, hK => by
    have hc : code = 128 := by omega
    subst hc
    have q : (128 : Int32) ≤ Int32.ofNat 128 := by decide
    rw [w58_106]
    simp only [w58_0, w58_1, w58_2, w58_5, w58_8, w58_9, w58_11, w58_14, w58_17, w58_19, w58_20, w58_23, w58_23r, w58_24, w58_25, w58_26, w58_27, w58_30, w58_30n, w58_31, w58_31n, w58_32, w58_35, w58_38, w58_41, w58_41n, w58_42, w58_45, w58_48, w58_48n, w58_49, w58_52, w58_52r, w58_52n, w58_53, w58_53n, w58_54, w58_57, w58_60, w58_61, w58_62, w58_65, w58_65n, w58_66, w58_69, w58_72, w58_73, w58_74, w58_77, w58_77n, w58_78, w58_81, w58_84, w58_84n, w58_85, w58_88, w58_91, w58_94, w58_95, w58_96, w58_97, w58_100, w58_101, w58_103, w58_104, w58_108, w58_111, w58_114, w58_115, w58_117, w58_119, w58_119n, w58_120, w58_123, w58_126, w58_129, w58_130, w58_131, w58_134, w58_134n, w58_135, w58_138, w58_141, w58_143, w58_145, w58_147, w58_148, w58_149, w58_150, w58_151, w58_152, w58_153, w58_156, w58_157, w58_160, w58_161, w58_164, w58_167, w58_170, w58_170n, w58_171, w58_174, w58_174n, w58_175, w58_178, w58_180, w58_182, w58_183, w58_186, w58_188, w58_189, w58_192, w58_195, w58_198, w58_201, w58_203, xk_n, xk_i, xk_r, xk_z, xk_l, xcs_0, xcs_i, xcs_r, xcs_z, xcs_l, Nat.reduceAdd, Nat.reduceLeDiff, Nat.reduceLT, true_and, and_true, Option.toList_some, Option.toList_none, List.nil_append, List.cons_append, List.getElem?_cons_zero, List.getElem?_cons_succ, List.set_cons_zero, List.set_cons_succ, List.length_cons, List.length_nil, y_bool0, y_bool1, not_true_eq_false, not_false_eq_true, false_implies, true_implies, true_or, or_true, false_or, or_false, if_true, if_false, ite_true, ite_false, q]
    exact hK h s B FR.rfl'
  | j + 1, code, h, s, l6, hj, h2, B, s0, s8, hK => by
    have q : ((128 : Int32) ≤ Int32.ofNat code) = False := eq_false (by have := n_lle (m := 128) (a := code) (by omega) (by omega); rw [this]; omega)
    have z1 : (1 : Int32) = Int32.ofNat 1 := rfl
    have z8 : Int32.ofNat code + 1 = Int32.ofNat (code + 1) := n_addl code 1
    have z9 : Int32.ofNat (mzN k n code) + 1 = Int32.ofNat (mzN k n code + 1) := n_addl _ 1
    have ls := mzN_s k n code
    rw [w58_106]
    simp only [w58_0, w58_1, w58_2, w58_5, w58_8, w58_9, w58_11, w58_14, w58_17, w58_19, w58_20, w58_23, w58_23r, w58_24, w58_25, w58_26, w58_27, w58_30, w58_30n, w58_31, w58_31n, w58_32, w58_35, w58_38, w58_41, w58_41n, w58_42, w58_45, w58_48, w58_48n, w58_49, w58_52, w58_52r, w58_52n, w58_53, w58_53n, w58_54, w58_57, w58_60, w58_61, w58_62, w58_65, w58_65n, w58_66, w58_69, w58_72, w58_73, w58_74, w58_77, w58_77n, w58_78, w58_81, w58_84, w58_84n, w58_85, w58_88, w58_91, w58_94, w58_95, w58_96, w58_97, w58_100, w58_101, w58_103, w58_104, w58_108, w58_111, w58_114, w58_115, w58_119, w58_119n, w58_120, w58_123, w58_126, w58_129, w58_130, w58_131, w58_134, w58_134n, w58_135, w58_138, w58_141, w58_143, w58_145, w58_147, w58_148, w58_149, w58_150, w58_151, w58_152, w58_153, w58_156, w58_157, w58_160, w58_161, w58_164, w58_167, w58_171, w58_174, w58_174n, w58_175, w58_178, w58_180, w58_182, w58_183, w58_186, w58_188, w58_189, w58_192, w58_195, w58_198, w58_201, w58_203, xk_n, xk_i, xk_r, xk_z, xk_l, xcs_0, xcs_i, xcs_r, xcs_z, xcs_l, Nat.reduceAdd, Nat.reduceLeDiff, Nat.reduceLT, true_and, and_true, Option.toList_some, Option.toList_none, List.nil_append, List.cons_append, List.getElem?_cons_zero, List.getElem?_cons_succ, List.set_cons_zero, List.set_cons_succ, List.length_cons, List.length_nil, y_bool0, y_bool1, not_true_eq_false, not_false_eq_true, false_implies, true_implies, true_or, or_true, false_or, or_false, if_true, if_false, ite_true, ite_false, q]
    rw [z1]
    refine wp_mzc (code := code) (by omega) hvs 7 1 h s (by omega) (by omega) h2 B s0 s8 (fun x h1 h2 => by omega) fun h1 l6 h12 ⟨X1, L1, B1⟩ F1 => ?_
    simp only [w58_0, w58_1, w58_2, w58_5, w58_8, w58_9, w58_11, w58_14, w58_17, w58_19, w58_20, w58_23, w58_23r, w58_24, w58_25, w58_26, w58_27, w58_30, w58_30n, w58_31, w58_31n, w58_32, w58_35, w58_38, w58_41, w58_41n, w58_42, w58_45, w58_48, w58_48n, w58_49, w58_52, w58_52r, w58_52n, w58_53, w58_53n, w58_54, w58_57, w58_60, w58_61, w58_62, w58_65, w58_65n, w58_66, w58_69, w58_72, w58_73, w58_74, w58_77, w58_77n, w58_78, w58_81, w58_84, w58_84n, w58_85, w58_88, w58_91, w58_94, w58_95, w58_96, w58_97, w58_100, w58_101, w58_103, w58_104, w58_108, w58_111, w58_114, w58_115, w58_119, w58_119n, w58_120, w58_123, w58_126, w58_129, w58_130, w58_131, w58_134, w58_134n, w58_135, w58_138, w58_141, w58_143, w58_145, w58_147, w58_148, w58_149, w58_150, w58_151, w58_152, w58_153, w58_156, w58_157, w58_160, w58_161, w58_164, w58_167, w58_170, w58_170n, w58_171, w58_174, w58_174n, w58_175, w58_178, w58_180, w58_182, w58_183, w58_186, w58_188, w58_189, w58_192, w58_195, w58_198, w58_201, w58_203, xk_n, xk_i, xk_r, xk_z, xk_l, xcs_0, xcs_i, xcs_r, xcs_z, xcs_l, Nat.reduceAdd, Nat.reduceLeDiff, Nat.reduceLT, true_and, and_true, Option.toList_some, Option.toList_none, List.nil_append, List.cons_append, List.getElem?_cons_zero, List.getElem?_cons_succ, List.set_cons_zero, List.set_cons_succ, List.length_cons, List.length_nil, y_bool0, y_bool1, not_true_eq_false, not_false_eq_true, false_implies, true_implies, true_or, or_true, false_or, or_false, if_true, if_false, ite_true, ite_false, y_get, h12, B1.cls]
    refine wp_outMove (v := 0) (okE_m hk _) ⟨X1, L1, B1⟩ (show 0 < 1 by omega) fun h3 B3 F3 => ?_
    have h32 := F3.at h12 (by rintro (z | ⟨u, u1, u2⟩); omega; replace u1 : u < 1 := u1; have : u = 0 := (by omega); subst this; exact hvs u2.symm)
    have F13 : FR (TP 9 1 vs) 0 0 h h3 := F1.tr (F3.mono (fun _ _ z => z.elim Or.inl (fun z => Or.inr (Or.inr z))) (Nat.le_refl _) (Nat.le_refl _))
    have nx : ∀ l6, wp (d + 5) 58 106 [some (.ref 2), l1, some (.int (Int32.ofNat n)), some (.ref (vs 0)), some (.int (Int32.ofNat (mzN k n (code + 1)))), some (.int (Int32.ofNat (code + 1))), l6] [] h3 K := fun l6 => wp_mzo hk hn hvs j (code + 1) h3 (sgM code) l6 (by omega) h32 B3 rfl rfl fun h' s' a1 a2 => hK h' s' a1 (F13.tr a2)
    simp only [w58_0, w58_1, w58_2, w58_5, w58_8, w58_9, w58_11, w58_14, w58_17, w58_19, w58_20, w58_23, w58_23r, w58_24, w58_25, w58_26, w58_27, w58_30, w58_30n, w58_31, w58_31n, w58_32, w58_35, w58_38, w58_41, w58_41n, w58_42, w58_45, w58_48, w58_48n, w58_49, w58_52, w58_52r, w58_52n, w58_53, w58_53n, w58_54, w58_57, w58_60, w58_61, w58_62, w58_65, w58_65n, w58_66, w58_69, w58_72, w58_73, w58_74, w58_77, w58_77n, w58_78, w58_81, w58_84, w58_84n, w58_85, w58_88, w58_91, w58_94, w58_95, w58_96, w58_97, w58_100, w58_101, w58_103, w58_104, w58_108, w58_111, w58_114, w58_115, w58_119, w58_119n, w58_120, w58_123, w58_126, w58_129, w58_130, w58_131, w58_134, w58_134n, w58_135, w58_138, w58_141, w58_143, w58_145, w58_147, w58_148, w58_149, w58_150, w58_151, w58_152, w58_153, w58_156, w58_157, w58_160, w58_161, w58_164, w58_167, w58_170, w58_170n, w58_171, w58_174, w58_174n, w58_175, w58_178, w58_180, w58_182, w58_183, w58_186, w58_188, w58_189, w58_192, w58_195, w58_198, w58_201, w58_203, xk_n, xk_i, xk_r, xk_z, xk_l, xcs_0, xcs_i, xcs_r, xcs_z, xcs_l, Nat.reduceAdd, Nat.reduceLeDiff, Nat.reduceLT, true_and, and_true, Option.toList_some, Option.toList_none, List.nil_append, List.cons_append, List.getElem?_cons_zero, List.getElem?_cons_succ, List.set_cons_zero, List.set_cons_succ, List.length_cons, List.length_nil, y_bool0, y_bool1, not_true_eq_false, not_false_eq_true, false_implies, true_implies, true_or, or_true, false_or, or_false, if_true, if_false, ite_true, ite_false, z8, z9]
    cases q1 : vo (runM (Em k (sgM code)) 80 0) with
    | none =>
      have q2 : oM none = -1 := rfl
      have hb : mzB k n code = false := by unfold mzB; rw [q1]
      rw [hb, if_neg (by simp)] at ls
      simp only [q2, xk_n, xk_i, xk_r, xk_z, xk_l, xcs_0, xcs_i, xcs_r, xcs_z, xcs_l, Nat.reduceAdd, Nat.reduceLeDiff, Nat.reduceLT, true_and, and_true, Option.toList_some, Option.toList_none, List.nil_append, List.cons_append, List.getElem?_cons_zero, List.getElem?_cons_succ, List.set_cons_zero, List.set_cons_succ, List.length_cons, List.length_nil, y_bool0, y_bool1, not_true_eq_false, not_false_eq_true, false_implies, true_implies, true_or, or_true, false_or, or_false, if_true, if_false, ite_true, ite_false]
      rw [← ls]
      exact nx _
    | some m =>
      have hm := runM_vo q1
      have q2 : (oM (some m) = -1) = False := eq_false (n_ne1 (a := m) (by omega))
      have q3 : (Int32.ofNat n < oM (some m)) = (n < m) := propext (n_lt (by omega) (by omega))
      have hb : mzB k n code = decide (m ≤ n) := by unfold mzB; rw [q1]
      simp only [q2, q3, xk_n, xk_i, xk_r, xk_z, xk_l, xcs_0, xcs_i, xcs_r, xcs_z, xcs_l, Nat.reduceAdd, Nat.reduceLeDiff, Nat.reduceLT, true_and, and_true, Option.toList_some, Option.toList_none, List.nil_append, List.cons_append, List.getElem?_cons_zero, List.getElem?_cons_succ, List.set_cons_zero, List.set_cons_succ, List.length_cons, List.length_nil, y_bool0, y_bool1, not_true_eq_false, not_false_eq_true, false_implies, true_implies, true_or, or_true, false_or, or_false, if_true, if_false, ite_true, ite_false]
      by_cases c1 : n < m
      · refine ⟨fun _ => ?_, fun z => absurd c1 z⟩
        rw [hb, if_neg (by simp; omega)] at ls
        rw [← ls]
        exact nx _
      · refine ⟨fun z => absurd z c1, fun _ => ?_⟩
        rw [hb, if_pos (by simp; omega)] at ls
        rw [← ls]
        exact nx _
end
theorem cop_mazes {d : Nat} {h : xH} {K : Option Value → xH → Prop} {s : St} (H : RX h s) (k n : Int32) (hK : ∀ h', RX h' s → FR CP 2 20 h h' → K (some (.int (opMazes k n))) h') : wp (d + 5) 58 0 [some (.ref 2), some (.int k), some (.int n), none, none, none, none] [] h K := by
  have HX := H
  obtain ⟨hO, e, em, er, vs, rs, H⟩ := H
  have H0 := H
  have z10 : ((1 : Int32) = 0) = False := eq_false (by decide)
  rcases nb_cas k (m := 3) (by omega) with ⟨a, ha, rfl, hnb⟩ | ⟨hc, hnb⟩
  · rcases nb_cas n (m := 80) (by omega) with ⟨b, hb, rfl, hnb2⟩ | ⟨hc2, hnb2⟩
    · have e1 : opMazes (Int32.ofNat a) (Int32.ofNat b) = Int32.ofNat (mzN a b 128) := by unfold opMazes; rw [hnb]; dsimp only; rw [hnb2]
      rw [e1] at hK
      have hL49 : 49 ≤ h.length := H.2.2.2.2.2.2.2.2.2.2.2.2.2.2
      have hL2 : 2 ≤ h.length := by omega
      have hnew : (h ++ [.inr (6, [.int 0, .int 0, .int 0, .int 0, .int 0, .int 0, .int 0, .int 0, .long 0, .long 0])])[h.length]? = some (.inr (6, [.int 0, .int 0, .int 0, .int 0, .int 0, .int 0, .int 0, .int 0, .long 0, .long 0])) := h_app_new
      simp only [w58_0, w58_1, w58_2, w58_5, w58_8, w58_9, w58_11, w58_14, w58_17, w58_19, w58_20, w58_23, w58_23r, w58_24, w58_25, w58_26, w58_27, w58_30, w58_30n, w58_31, w58_31n, w58_32, w58_35, w58_38, w58_41, w58_41n, w58_42, w58_45, w58_48, w58_48n, w58_49, w58_52, w58_52r, w58_52n, w58_53, w58_53n, w58_54, w58_57, w58_60, w58_61, w58_62, w58_65, w58_65n, w58_66, w58_69, w58_72, w58_73, w58_74, w58_77, w58_77n, w58_78, w58_81, w58_84, w58_84n, w58_85, w58_88, w58_91, w58_94, w58_95, w58_96, w58_97, w58_100, w58_101, w58_103, w58_104, w58_108, w58_111, w58_114, w58_115, w58_119, w58_119n, w58_120, w58_123, w58_126, w58_129, w58_130, w58_131, w58_134, w58_134n, w58_135, w58_138, w58_141, w58_143, w58_145, w58_147, w58_148, w58_149, w58_150, w58_151, w58_152, w58_153, w58_156, w58_157, w58_160, w58_161, w58_164, w58_167, w58_171, w58_174, w58_174n, w58_175, w58_178, w58_180, w58_182, w58_183, w58_186, w58_188, w58_189, w58_192, w58_195, w58_198, w58_201, w58_203, xk_n, xk_i, xk_r, xk_z, xk_l, xcs_0, xcs_i, xcs_r, xcs_z, xcs_l, Nat.reduceAdd, Nat.reduceLeDiff, Nat.reduceLT, true_and, and_true, Option.toList_some, Option.toList_none, List.nil_append, List.cons_append, List.getElem?_cons_zero, List.getElem?_cons_succ, List.set_cons_zero, List.set_cons_succ, List.length_cons, List.length_nil, y_bool0, y_bool1, not_true_eq_false, not_false_eq_true, false_implies, true_implies, true_or, or_true, false_or, or_false, if_true, if_false, ite_true, ite_false, wp_below_t (m := 3) (by omega) ha, wp_below_t (m := 80) (by omega) hb, z10, wp_vinit hnew hL2]
      have F1 : FR (fun _ => False) 1 10 h (h ++ [.inr (6, [.int 0, .int 0, .int 0, .int 0, .int 0, .int 0, .int 0, .int 0, .long 0, .long 0])]) := FR.app _
      have F2 := F1.trans (FR.set (c := .inr (6, [.int 0, .int (Int32.ofNat a), .int 1, .int 0, .int 0, .int 0, .int 0, .int 0, .long 0, .long 0])) hnew rfl) (R := fun _ => False) (fun _ _ z => z) (fun _ hx z => by omega) (Nat.le_refl _) (Nat.le_refl _)
      have hat := h_set_at (c := .inr (6, [.int 0, .int (Int32.ofNat a), .int 1, .int 0, .int 0, .int 0, .int 0, .int 0, .long 0, .long 0])) hnew
      generalize (h ++ [(.inr (6, [.int 0, .int 0, .int 0, .int 0, .int 0, .int 0, .int 0, .int 0, .long 0, .long 0]) : xC)]).set h.length (.inr (6, [.int 0, .int (Int32.ofNat a), .int 1, .int 0, .int 0, .int 0, .int 0, .int 0, .long 0, .long 0])) = h2 at F2 hat
      obtain ⟨Lm, w, nn, nm, sm, fm, fs, m1, m2, m3, m4⟩ := H0.2.2.1
      have g2 := F2.at H.1 (fun z => z)
      have g9 := F2.at m1 (fun z => z)
      have A2 := m4.fr F2 (fun z => z) (fun z => z)
      have P2 := m2.fr F2 (fun z => z) (fun z => z)
      have R2 := m3.fr F2 (fun z => z) (fun z => z)
      have hem : em = 1 ∨ 49 ≤ em := H.2.2.2.2.2.2.2.2.2.1
      have hbl := h_lt hat
      simp only [w58_0, w58_1, w58_2, w58_5, w58_8, w58_9, w58_11, w58_14, w58_17, w58_19, w58_20, w58_23, w58_23r, w58_24, w58_25, w58_26, w58_27, w58_30, w58_30n, w58_31, w58_31n, w58_32, w58_35, w58_38, w58_41, w58_41n, w58_42, w58_45, w58_48, w58_48n, w58_49, w58_52, w58_52r, w58_52n, w58_53, w58_53n, w58_54, w58_57, w58_60, w58_61, w58_62, w58_65, w58_65n, w58_66, w58_69, w58_72, w58_73, w58_74, w58_77, w58_77n, w58_78, w58_81, w58_84, w58_84n, w58_85, w58_88, w58_91, w58_94, w58_95, w58_96, w58_97, w58_100, w58_101, w58_103, w58_104, w58_108, w58_111, w58_114, w58_115, w58_119, w58_119n, w58_120, w58_123, w58_126, w58_129, w58_130, w58_131, w58_134, w58_134n, w58_135, w58_138, w58_141, w58_143, w58_145, w58_147, w58_148, w58_149, w58_150, w58_151, w58_152, w58_153, w58_156, w58_157, w58_160, w58_161, w58_164, w58_167, w58_171, w58_174, w58_174n, w58_175, w58_178, w58_180, w58_182, w58_183, w58_186, w58_188, w58_189, w58_192, w58_195, w58_198, w58_201, w58_203, xk_n, xk_i, xk_r, xk_z, xk_l, xcs_0, xcs_i, xcs_r, xcs_z, xcs_l, Nat.reduceAdd, Nat.reduceLeDiff, Nat.reduceLT, true_and, and_true, Option.toList_some, Option.toList_none, List.nil_append, List.cons_append, List.getElem?_cons_zero, List.getElem?_cons_succ, List.set_cons_zero, List.set_cons_succ, List.length_cons, List.length_nil, y_bool0, y_bool1, not_true_eq_false, not_false_eq_true, false_implies, true_implies, true_or, or_true, false_or, or_false, if_true, if_false, ite_true, ite_false, y_get, g2, g9, A2.cls]
      have hbe : h.length ≠ em := A2.ne hat hL2
      refine wp_clr A2 fun h3 A3 F3 => ?_
      replace A3 := A3 (fun _ => 0)
      have n3 : ∀ x, x < 49 → x ≠ 14 → ¬ (x = 9 + 5 ∨ (x = em ∧ 2 ≤ x)) := by intro x h1 h2 z; omega
      have g23 := F3.at g2 (n3 _ (by omega) (by omega))
      have g93 := F3.at g9 (n3 _ (by omega) (by omega))
      have hat3 := F3.at hat (by rintro (z | ⟨z, z2⟩); omega; exact hbe z)
      simp only [w58_0, w58_1, w58_2, w58_5, w58_8, w58_9, w58_11, w58_14, w58_17, w58_19, w58_20, w58_23, w58_23r, w58_24, w58_25, w58_26, w58_27, w58_30, w58_30n, w58_31, w58_31n, w58_32, w58_35, w58_38, w58_41, w58_41n, w58_42, w58_45, w58_48, w58_48n, w58_49, w58_52, w58_52r, w58_52n, w58_53, w58_53n, w58_54, w58_57, w58_60, w58_61, w58_62, w58_65, w58_65n, w58_66, w58_69, w58_72, w58_73, w58_74, w58_77, w58_77n, w58_78, w58_81, w58_84, w58_84n, w58_85, w58_88, w58_91, w58_94, w58_95, w58_96, w58_97, w58_100, w58_101, w58_103, w58_104, w58_108, w58_111, w58_114, w58_115, w58_119, w58_119n, w58_120, w58_123, w58_126, w58_129, w58_130, w58_131, w58_134, w58_134n, w58_135, w58_138, w58_141, w58_143, w58_145, w58_147, w58_148, w58_149, w58_150, w58_151, w58_152, w58_153, w58_156, w58_157, w58_160, w58_161, w58_164, w58_167, w58_171, w58_174, w58_174n, w58_175, w58_178, w58_180, w58_182, w58_183, w58_186, w58_188, w58_189, w58_192, w58_195, w58_198, w58_201, w58_203, xk_n, xk_i, xk_r, xk_z, xk_l, xcs_0, xcs_i, xcs_r, xcs_z, xcs_l, Nat.reduceAdd, Nat.reduceLeDiff, Nat.reduceLT, true_and, and_true, Option.toList_some, Option.toList_none, List.nil_append, List.cons_append, List.getElem?_cons_zero, List.getElem?_cons_succ, List.set_cons_zero, List.set_cons_succ, List.length_cons, List.length_nil, y_bool0, y_bool1, not_true_eq_false, not_false_eq_true, false_implies, true_implies, true_or, or_true, false_or, or_false, if_true, if_false, ite_true, ite_false, y_get, g23, g93, A3.cls]
      refine wp_add A3 (by omega) hL2 hat3 (by omega) (by omega) fun h4 e4 A4 he4 F4 => ?_
      have g24 := F4.at g23 (n3 _ (by omega) (by omega))
      have g94 := F4.at g93 (n3 _ (by omega) (by omega))
      have hat4 := F4.at hat3 (by rintro (z | ⟨z, z2⟩); omega; exact hbe z)
      have P4 := (P2.fr F3 (n3 _ (by omega) (by omega)) (n3 _ (by omega) (by omega))).fr F4 (n3 _ (by omega) (by omega)) (n3 _ (by omega) (by omega))
      have R4 := (R2.fr F3 (n3 _ (by omega) (by omega)) (n3 _ (by omega) (by omega))).fr F4 (n3 _ (by omega) (by omega)) (n3 _ (by omega) (by omega))
      have z3 : (3 : Int32) = Int32.ofNat 3 := rfl
      have h24 : h.length ≤ h4.length := by have := F2.1; have := F3.1; have := F4.1; omega
      have h34 : h.length ≤ h3.length := by have := F2.1; have := F3.1; omega
      have he4' : e4 = em ∨ h.length ≤ e4 := by rcases he4 with z | z; exact Or.inl z; right; omega
      have he49 : e4 = 1 ∨ 49 ≤ e4 := by rcases he4' with z | z; omega; omega
      simp only [w58_0, w58_1, w58_2, w58_5, w58_8, w58_9, w58_11, w58_14, w58_17, w58_19, w58_20, w58_23, w58_23r, w58_24, w58_25, w58_26, w58_27, w58_30, w58_30n, w58_31, w58_31n, w58_32, w58_35, w58_38, w58_41, w58_41n, w58_42, w58_45, w58_48, w58_48n, w58_49, w58_52, w58_52r, w58_52n, w58_53, w58_53n, w58_54, w58_57, w58_60, w58_61, w58_62, w58_65, w58_65n, w58_66, w58_69, w58_72, w58_73, w58_74, w58_77, w58_77n, w58_78, w58_81, w58_84, w58_84n, w58_85, w58_88, w58_91, w58_94, w58_95, w58_96, w58_97, w58_100, w58_101, w58_103, w58_104, w58_108, w58_111, w58_114, w58_115, w58_119, w58_119n, w58_120, w58_123, w58_126, w58_129, w58_130, w58_131, w58_134, w58_134n, w58_135, w58_138, w58_141, w58_143, w58_145, w58_147, w58_148, w58_149, w58_150, w58_151, w58_152, w58_153, w58_156, w58_157, w58_160, w58_161, w58_164, w58_167, w58_171, w58_174, w58_174n, w58_175, w58_178, w58_180, w58_182, w58_183, w58_186, w58_188, w58_189, w58_192, w58_195, w58_198, w58_201, w58_203, xk_n, xk_i, xk_r, xk_z, xk_l, xcs_0, xcs_i, xcs_r, xcs_z, xcs_l, Nat.reduceAdd, Nat.reduceLeDiff, Nat.reduceLT, true_and, and_true, Option.toList_some, Option.toList_none, List.nil_append, List.cons_append, List.getElem?_cons_zero, List.getElem?_cons_succ, List.set_cons_zero, List.set_cons_succ, List.length_cons, List.length_nil, y_bool0, y_bool1, not_true_eq_false, not_false_eq_true, false_implies, true_implies, true_or, or_true, false_or, or_false, if_true, if_false, ite_true, ite_false, y_get, g24, g94, P4.cls]
      rw [z3]
      refine wp_pclear P4 (hi := 3) (w1 := 3) (by omega) (by omega) fun h5 P5 F5 => ?_
      have n5 : ∀ x, x ≠ 10 → x ≠ 11 → ¬ (x = 9 + 1 ∨ x = 9 + 1 + 1) := by intro x h1 h2 z; omega
      have g25 := F5.at g24 (n5 _ (by omega) (by omega))
      have g95 := F5.at g94 (n5 _ (by omega) (by omega))
      have hat5 := F5.at hat4 (n5 _ (by omega) (by omega))
      have A5 := A4.fr F5 (n5 _ (by omega) (by omega)) (by omega)
      have R5 := R4.fr F5 (n5 _ (by omega) (by omega)) (n5 _ (by omega) (by omega))
      have B5 : BD h5 9 e4 (Em a (fun _ => 1)) fm (adF (fun _ => 0) 0 h.length) (fun _ => [.int 0, .int 0, .int 0, .int 0, .int 0, .long 0, .long 0]) Lm := by
        refine ⟨by omega, g95, P5, R5, A5, fun v hv => ?_, fun u v hu hv _ => ?_⟩
        · replace hv : v < 1 := hv
          have : v = 0 := by omega
          subst this
          exact ⟨hL2, rfl, hat5⟩
        · replace hv : v < 1 := hv
          replace hu : u < 1 := hu
          omega
      have z0 : (0 : Int32) = Int32.ofNat 0 := rfl
      have z8 : Int32.ofNat 9 - 1 = Int32.ofNat 8 := rfl
      simp only [w58_0, w58_1, w58_2, w58_5, w58_8, w58_9, w58_11, w58_14, w58_17, w58_19, w58_20, w58_23, w58_23r, w58_24, w58_25, w58_26, w58_27, w58_30, w58_30n, w58_31, w58_31n, w58_32, w58_35, w58_38, w58_41, w58_41n, w58_42, w58_45, w58_48, w58_48n, w58_49, w58_52, w58_52r, w58_52n, w58_53, w58_53n, w58_54, w58_57, w58_60, w58_61, w58_62, w58_65, w58_65n, w58_66, w58_69, w58_72, w58_73, w58_74, w58_77, w58_77n, w58_78, w58_81, w58_84, w58_84n, w58_85, w58_88, w58_91, w58_94, w58_95, w58_96, w58_97, w58_100, w58_101, w58_103, w58_104, w58_108, w58_111, w58_114, w58_115, w58_119, w58_119n, w58_120, w58_123, w58_126, w58_129, w58_130, w58_131, w58_134, w58_134n, w58_135, w58_138, w58_141, w58_143, w58_145, w58_147, w58_148, w58_149, w58_150, w58_151, w58_152, w58_153, w58_156, w58_157, w58_160, w58_161, w58_164, w58_167, w58_171, w58_174, w58_174n, w58_175, w58_178, w58_180, w58_182, w58_183, w58_186, w58_188, w58_189, w58_192, w58_195, w58_198, w58_201, w58_203, xk_n, xk_i, xk_r, xk_z, xk_l, xcs_0, xcs_i, xcs_r, xcs_z, xcs_l, Nat.reduceAdd, Nat.reduceLeDiff, Nat.reduceLT, true_and, and_true, Option.toList_some, Option.toList_none, List.nil_append, List.cons_append, List.getElem?_cons_zero, List.getElem?_cons_succ, List.set_cons_zero, List.set_cons_succ, List.length_cons, List.length_nil, y_bool0, y_bool1, not_true_eq_false, not_false_eq_true, false_implies, true_implies, true_or, or_true, false_or, or_false, if_true, if_false, ite_true, ite_false, y_get, g25, g95, P5.cls]
      rw [z0]
      refine wp_mark P5 (c := 0) (x := 0) (by omega) (by omega) fun h6 P6 F6 => ?_
      have B6 := B5.mk P6 F6
      have g26 := F6.at g25 (by omega)
      simp only [w58_0, w58_1, w58_2, w58_5, w58_8, w58_9, w58_11, w58_14, w58_17, w58_19, w58_20, w58_23, w58_23r, w58_24, w58_25, w58_26, w58_27, w58_30, w58_30n, w58_31, w58_31n, w58_32, w58_35, w58_38, w58_41, w58_41n, w58_42, w58_45, w58_48, w58_48n, w58_49, w58_52, w58_52r, w58_52n, w58_53, w58_53n, w58_54, w58_57, w58_60, w58_61, w58_62, w58_65, w58_65n, w58_66, w58_69, w58_72, w58_73, w58_74, w58_77, w58_77n, w58_78, w58_81, w58_84, w58_84n, w58_85, w58_88, w58_91, w58_94, w58_95, w58_96, w58_97, w58_100, w58_101, w58_103, w58_104, w58_108, w58_111, w58_114, w58_115, w58_119, w58_119n, w58_120, w58_123, w58_126, w58_129, w58_130, w58_131, w58_134, w58_134n, w58_135, w58_138, w58_141, w58_143, w58_145, w58_147, w58_148, w58_149, w58_150, w58_151, w58_152, w58_153, w58_156, w58_157, w58_160, w58_161, w58_164, w58_167, w58_171, w58_174, w58_174n, w58_175, w58_178, w58_180, w58_182, w58_183, w58_186, w58_188, w58_189, w58_192, w58_195, w58_198, w58_201, w58_203, xk_n, xk_i, xk_r, xk_z, xk_l, xcs_0, xcs_i, xcs_r, xcs_z, xcs_l, Nat.reduceAdd, Nat.reduceLeDiff, Nat.reduceLT, true_and, and_true, Option.toList_some, Option.toList_none, List.nil_append, List.cons_append, List.getElem?_cons_zero, List.getElem?_cons_succ, List.set_cons_zero, List.set_cons_succ, List.length_cons, List.length_nil, y_bool0, y_bool1, not_true_eq_false, not_false_eq_true, false_implies, true_implies, true_or, or_true, false_or, or_false, if_true, if_false, ite_true, ite_false, y_get, g26, B6.bed, P6.1, P6.cls, show gn (edS (Em a (fun _ => 1)) (upN (fun _ => 1) 0 0)) = 9 from rfl, show 3 * 3 = 9 from rfl, z8]
      rw [z3]
      refine wp_mark P6 (c := 8) (x := 3) (by omega) (by omega) fun h7 P7 F7 => ?_
      have B7 := B6.mk P7 F7
      have g27 := F7.at g26 (by omega)
      simp only [w58_0, w58_1, w58_2, w58_5, w58_8, w58_9, w58_11, w58_14, w58_17, w58_19, w58_20, w58_23, w58_23r, w58_24, w58_25, w58_26, w58_27, w58_30, w58_30n, w58_31, w58_31n, w58_32, w58_35, w58_38, w58_41, w58_41n, w58_42, w58_45, w58_48, w58_48n, w58_49, w58_52, w58_52r, w58_52n, w58_53, w58_53n, w58_54, w58_57, w58_60, w58_61, w58_62, w58_65, w58_65n, w58_66, w58_69, w58_72, w58_73, w58_74, w58_77, w58_77n, w58_78, w58_81, w58_84, w58_84n, w58_85, w58_88, w58_91, w58_94, w58_95, w58_96, w58_97, w58_100, w58_101, w58_103, w58_104, w58_108, w58_111, w58_114, w58_115, w58_119, w58_119n, w58_120, w58_123, w58_126, w58_129, w58_130, w58_131, w58_134, w58_134n, w58_135, w58_138, w58_141, w58_143, w58_145, w58_147, w58_148, w58_149, w58_150, w58_151, w58_152, w58_153, w58_156, w58_157, w58_160, w58_161, w58_164, w58_167, w58_171, w58_174, w58_174n, w58_175, w58_178, w58_180, w58_182, w58_183, w58_186, w58_188, w58_189, w58_192, w58_195, w58_198, w58_201, w58_203, xk_n, xk_i, xk_r, xk_z, xk_l, xcs_0, xcs_i, xcs_r, xcs_z, xcs_l, Nat.reduceAdd, Nat.reduceLeDiff, Nat.reduceLT, true_and, and_true, Option.toList_some, Option.toList_none, List.nil_append, List.cons_append, List.getElem?_cons_zero, List.getElem?_cons_succ, List.set_cons_zero, List.set_cons_succ, List.length_cons, List.length_nil, y_bool0, y_bool1, not_true_eq_false, not_false_eq_true, false_implies, true_implies, true_or, or_true, false_or, or_false, if_true, if_false, ite_true, ite_false]
      rw [z0]
      have hv2 : adF (fun _ => 0) 0 h.length 0 = h.length := rfl
      have F27 : FR (fun x => (9 ≤ x ∧ x < 15) ∨ (x = em ∧ 2 ≤ x)) 2 20 h h7 := by
        have G1 := F2.trans F3 (R := fun x => (9 ≤ x ∧ x < 15) ∨ (x = em ∧ 2 ≤ x)) (fun _ _ z => z.elim) (fun x _ z => by omega) (Nat.le_refl _) (Nat.le_refl _)
        have G2 := G1.trans F4 (R := fun x => (9 ≤ x ∧ x < 15) ∨ (x = em ∧ 2 ≤ x)) (fun _ _ z => z) (fun x _ z => by omega) (Nat.le_refl _) (Nat.le_refl _)
        have G3 := G2.trans F5 (R := fun x => (9 ≤ x ∧ x < 15) ∨ (x = em ∧ 2 ≤ x)) (fun _ _ z => z) (fun x _ z => by omega) (Nat.le_refl _) (Nat.le_refl _)
        have G4 := G3.trans F6 (R := fun x => (9 ≤ x ∧ x < 15) ∨ (x = em ∧ 2 ≤ x)) (fun _ _ z => z) (fun x _ z => by omega) (Nat.le_refl _) (Nat.le_refl _)
        exact G4.trans F7 (fun _ _ z => z) (fun x _ z => by omega) (by omega) (by omega)
      refine wp_mzo (vs := adF (fun _ => 0) 0 h.length) (s := upN (upN (fun _ => 1) 0 0) 8 3) ha hb (by rw [hv2]; omega) 128 0 h7 none (by omega) g27 ⟨_, _, B7⟩ rfl rfl fun h' s' ⟨X', L', B'⟩ F' => ?_
      have M' : MZ h' e4 := ⟨L', 3, 9, 1, s', fm, _, B'.bed, B'.pl, B'.pf, B'.al⟩
      have R := H.M M' he4' (F27.trans F' (fun _ _ z => z) (fun x hx z => by
        rcases z with z | z | ⟨u, u1, u2⟩
        · omega
        · omega
        · have : u = 0 := by omega
          subst this
          rw [hv2] at u2
          omega) (Nat.le_refl _) (Nat.le_refl _))
      exact hK h' ⟨hO, _, _, _, _, _, R.1⟩ R.2
    · have e1 : opMazes (Int32.ofNat a) n = -2 := by unfold opMazes; rw [hnb]; dsimp only; rw [hnb2]
      rw [e1] at hK
      simp only [w58_0, w58_1, w58_2, w58_5, w58_8, w58_9, w58_11, w58_14, w58_17, w58_19, w58_20, w58_23, w58_23r, w58_24, w58_25, w58_26, w58_27, w58_30, w58_30n, w58_31, w58_31n, w58_32, w58_35, w58_38, w58_41, w58_41n, w58_42, w58_45, w58_48, w58_48n, w58_49, w58_52, w58_52r, w58_52n, w58_53, w58_53n, w58_54, w58_57, w58_60, w58_61, w58_62, w58_65, w58_65n, w58_66, w58_69, w58_72, w58_73, w58_74, w58_77, w58_77n, w58_78, w58_81, w58_84, w58_84n, w58_85, w58_88, w58_91, w58_94, w58_95, w58_96, w58_97, w58_100, w58_101, w58_103, w58_104, w58_108, w58_111, w58_114, w58_115, w58_119, w58_119n, w58_120, w58_123, w58_126, w58_129, w58_130, w58_131, w58_134, w58_134n, w58_135, w58_138, w58_141, w58_143, w58_145, w58_147, w58_148, w58_149, w58_150, w58_151, w58_152, w58_153, w58_156, w58_157, w58_160, w58_161, w58_164, w58_167, w58_171, w58_174, w58_174n, w58_175, w58_178, w58_180, w58_182, w58_183, w58_186, w58_188, w58_189, w58_192, w58_195, w58_198, w58_201, w58_203, xk_n, xk_i, xk_r, xk_z, xk_l, xcs_0, xcs_i, xcs_r, xcs_z, xcs_l, Nat.reduceAdd, Nat.reduceLeDiff, Nat.reduceLT, true_and, and_true, Option.toList_some, Option.toList_none, List.nil_append, List.cons_append, List.getElem?_cons_zero, List.getElem?_cons_succ, List.set_cons_zero, List.set_cons_succ, List.length_cons, List.length_nil, y_bool0, y_bool1, not_true_eq_false, not_false_eq_true, false_implies, true_implies, true_or, or_true, false_or, or_false, if_true, if_false, ite_true, ite_false, wp_below_t (m := 3) (by omega) ha, z10, wp_below_f (m := 80) hc2]
      exact hK h HX FR.rfl'
  · have e1 : opMazes k n = -2 := by unfold opMazes; rw [hnb]
    rw [e1] at hK
    simp only [w58_0, w58_1, w58_2, w58_5, w58_8, w58_9, w58_11, w58_14, w58_17, w58_19, w58_20, w58_23, w58_23r, w58_24, w58_25, w58_26, w58_27, w58_30, w58_30n, w58_31, w58_31n, w58_32, w58_35, w58_38, w58_41, w58_41n, w58_42, w58_45, w58_48, w58_48n, w58_49, w58_52, w58_52r, w58_52n, w58_53, w58_53n, w58_54, w58_57, w58_60, w58_61, w58_62, w58_65, w58_65n, w58_66, w58_69, w58_72, w58_73, w58_74, w58_77, w58_77n, w58_78, w58_81, w58_84, w58_84n, w58_85, w58_88, w58_91, w58_94, w58_95, w58_96, w58_97, w58_100, w58_101, w58_103, w58_104, w58_108, w58_111, w58_114, w58_115, w58_119, w58_119n, w58_120, w58_123, w58_126, w58_129, w58_130, w58_131, w58_134, w58_134n, w58_135, w58_138, w58_141, w58_143, w58_145, w58_147, w58_148, w58_149, w58_150, w58_151, w58_152, w58_153, w58_156, w58_157, w58_160, w58_161, w58_164, w58_167, w58_171, w58_174, w58_174n, w58_175, w58_178, w58_180, w58_182, w58_183, w58_186, w58_188, w58_189, w58_192, w58_195, w58_198, w58_201, w58_203, xk_n, xk_i, xk_r, xk_z, xk_l, xcs_0, xcs_i, xcs_r, xcs_z, xcs_l, Nat.reduceAdd, Nat.reduceLeDiff, Nat.reduceLT, true_and, and_true, Option.toList_some, Option.toList_none, List.nil_append, List.cons_append, List.getElem?_cons_zero, List.getElem?_cons_succ, List.set_cons_zero, List.set_cons_succ, List.length_cons, List.length_nil, y_bool0, y_bool1, not_true_eq_false, not_false_eq_true, false_implies, true_implies, true_or, or_true, false_or, or_false, if_true, if_false, ite_true, ite_false, wp_below_f (m := 3) hc]
    exact hK h HX FR.rfl'
