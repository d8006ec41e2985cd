/-! ===== the program's calls: pull, back ===== -/
/-- the places from k on, j of them, at which p holds -/
def flK (p : Nat → Bool) : Nat → Nat → List Nat
  | _, 0 => []
  | k, j + 1 => if p k then k :: flK p (k + 1) j else flK p (k + 1) j
theorem flK_lt {p : Nat → Bool} {x : Nat} : ∀ {j k : Nat}, x ∈ flK p k j → k ≤ x ∧ x < k + j ∧ p x = true
  | 0, k, h => by cases h
  | j + 1, k, h => by
    unfold flK at h
    split at h
    · rename_i q
      rcases List.mem_cons.mp h with rfl | h
      · exact ⟨by omega, by omega, q⟩
      · have := flK_lt h; exact ⟨by omega, by omega, this.2.2⟩
    · have := flK_lt h; exact ⟨by omega, by omega, this.2.2⟩
theorem flK_len {p : Nat → Bool} : ∀ {j k : Nat}, (flK p k j).length ≤ j
  | 0, k => Nat.le_refl _
  | j + 1, k => by
    unfold flK
    split
    · have := flK_len (p := p) (j := j) (k := k + 1); simp only [List.length_cons]; omega
    · have := flK_len (p := p) (j := j) (k := k + 1); omega
theorem flK_get {p : Nat → Bool} {k j i : Nat} (h : i < (flK p k j).length) : k ≤ (flK p k j).getD i 0 ∧ (flK p k j).getD i 0 < k + j ∧ p ((flK p k j).getD i 0) = true := by
  have e : (flK p k j).getD i 0 = (flK p k j)[i] := by rw [List.getD_eq_getElem?_getD, List.getElem?_eq_getElem h]; rfl
  rw [e]
  exact flK_lt (List.getElem_mem h)
/-- the first k places, and then those of the rest that stay -/
def ixK (p : Nat → Bool) (n k i : Nat) : Nat := if i < k then i else (flK p k (n - k)).getD (i - k) 0
def lnK (p : Nat → Bool) (n k : Nat) : Nat := k + (flK p k (n - k)).length
theorem lnK_t {p : Nat → Bool} {n k : Nat} (hk : k < n) (h : p k = true) : lnK p n k = lnK p n (k + 1) := by
  unfold lnK
  have e : n - k = (n - (k + 1)) + 1 := by omega
  rw [e]
  show k + (if p k then k :: flK p (k + 1) (n - (k + 1)) else flK p (k + 1) (n - (k + 1))).length = _
  rw [if_pos h, List.length_cons]
  omega
theorem lnK_f {p : Nat → Bool} {n k : Nat} (hk : k < n) (h : p k = false) : lnK p n k + 1 = lnK p n (k + 1) := by
  unfold lnK
  have e : n - k = (n - (k + 1)) + 1 := by omega
  rw [e]
  show k + (if p k then k :: flK p (k + 1) (n - (k + 1)) else flK p (k + 1) (n - (k + 1))).length + 1 = _
  rw [if_neg (by rw [h]; simp)]
  omega
theorem ixK_t {p : Nat → Bool} {n k i : Nat} (hk : k < n) (h : p k = true) : ixK p n k i = ixK p n (k + 1) i := by
  unfold ixK
  have e : n - k = (n - (k + 1)) + 1 := by omega
  rw [e]
  show (if i < k then i else (if p k then k :: flK p (k + 1) (n - (k + 1)) else flK p (k + 1) (n - (k + 1))).getD (i - k) 0) = _
  rw [if_pos h]
  by_cases z : i < k
  · rw [if_pos z, if_pos (by omega)]
  · rw [if_neg z]
    by_cases z2 : i = k
    · subst z2
      rw [Nat.sub_self, if_pos (by omega)]
      rfl
    · rw [if_neg (by omega)]
      obtain ⟨y, hy⟩ : ∃ y, i - k = y + 1 := ⟨i - k - 1, by omega⟩
      rw [hy, show i - (k + 1) = y by omega]
      rfl
theorem ixK_f {p : Nat → Bool} {n k i : Nat} (hk : k < n) (h : p k = false) : ixK p n k i = if i < k then ixK p n (k + 1) i else ixK p n (k + 1) (i + 1) := by
  have e : n - k = (n - (k + 1)) + 1 := by omega
  have hfl : flK p k (n - k) = flK p (k + 1) (n - (k + 1)) := by
    rw [e]
    exact if_neg (by rw [h]; simp)
  unfold ixK
  rw [hfl]
  by_cases z : i < k
  · rw [if_pos z, if_pos z, if_pos (by omega)]
  · rw [if_neg z, if_neg z, if_neg (by omega), show i + 1 - (k + 1) = i - k by omega]
theorem ixK_n {p : Nat → Bool} {n i : Nat} (h : i < n) : ixK p n n i = i := if_pos h
theorem lnK_n {p : Nat → Bool} {n : Nat} : lnK p n n = n := by unfold lnK; rw [Nat.sub_self]; rfl
theorem lnK_le {p : Nat → Bool} {n k : Nat} (h : k ≤ n) : lnK p n k ≤ n := by
  unfold lnK
  have := flK_len (p := p) (k := k) (j := n - k)
  omega
theorem ixK_lt {p : Nat → Bool} {n k i : Nat} (hk : k ≤ n) (h : i < lnK p n k) : ixK p n k i < n := by
  unfold ixK
  by_cases z : i < k
  · rw [if_pos z]; omega
  · rw [if_neg z]
    have := flK_get (p := p) (k := k) (j := n - k) (i := i - k) (by unfold lnK at h; omega)
    omega
/-- fewer vines, and the readings of those that are left -/
def cutV (E : Gd) (n : Nat) : Gd := (gw E, gn E, gs E, n, gk E, gp E, gh E)
def plP (s : St) (l : Nat) (r : Nat) : Bool := decide ((sRd s r).1 < l)
def plS (s : St) (l : Nat) : St := (cutV (sE s) l, sFr s, lnK (plP s l) (sRn s) 0, fun r => sRd s (ixK (plP s l) (sRn s) 0 r), sSh s, sTr s, sFa s)
def opPull (s : St) (k : Int32) : Int32 × St := match nb k (gv (sE s) + 1) with
  | none => (-2, s)
  | some k => (Int32.ofNat (gv (sE s) - k), plS s (gv (sE s) - k))
section
variable {d : Nat} {K : Option Value → xH → Prop} {e : Nat}
theorem wp_pv {t f : Int32} {a b c l : Nat} {L : Int64} {vs : Nat → Nat} {l1 : Option Value} : ∀ (j n : Nat) (h : xH), n = l + j → n < 20 → h[2]? = some (.inr (7, [.ref 3, .ref a, .ref b, .ref c, .int t, .int f])) → h[3]? = some (.inr (1, [.ref (3 + 1), .ref (3 + 3), .ref (3 + 5), .long L])) → e ≠ 2 → e ≠ 3 → AL h 8 e n vs → (∀ h' l3, AL h' 8 e l vs → FR (fun a => a = 8 ∨ (a = e ∧ 2 ≤ a)) 0 0 h h' → wp (d + 3) 47 60 [some (.ref 2), l1, some (.int (Int32.ofNat l)), l3] [] h' K) → wp (d + 3) 47 37 [some (.ref 2), l1, some (.int (Int32.ofNat l)), some (.int (Int32.ofNat n - 1))] [] h K
  | 0, n, h, hj, hn, h2, h3, e2, e3, A, hK => by
    have q : Int32.ofNat n - 1 < Int32.ofNat l := by
      have : ∀ n : Nat, n < 20 → Int32.ofNat n - 1 < Int32.ofNat n := by decide +kernel
      have hl : l = n := by omega
      rw [hl]; exact this n hn
    rw [w47_37]
    simp only [w47_0, w47_0n, w47_1, w47_4, w47_7, w47_10, w47_11, w47_12, w47_13, w47_14, w47_17, w47_18, w47_21, w47_23, w47_24, w47_24n, w47_25, w47_28, w47_31, w47_34, w47_35, w47_36, w47_38, w47_39, w47_42, w47_42n, w47_43, w47_46, w47_49, w47_50, w47_53, w47_53r, w47_53n, w47_54, w47_57, w47_61, w47_64, w47_67, w47_68, w47_69, w47_70, w47_71, w47_74, w47_74n, w47_75, w47_78, w47_79, w47_82, w47_82n, w47_85, w47_88, w47_89, w47_92, w47_92n, w47_93, w47_96, w47_97, w47_100, w47_100r, w47_100n, w47_101, w47_104, w47_107, w47_108, xk_n, xk_i, xk_r, xk_z, xk_l, xcs_0, xcs_i, xcs_r, xcs_z, xcs_l, Nat.reduceAdd, Nat.reduceLeDiff, Nat.reduceLT, true_and, and_true, Option.toList_some, Option.toList_none, List.nil_append, List.cons_append, List.getElem?_cons_zero, List.getElem?_cons_succ, List.set_cons_zero, List.set_cons_succ, List.length_cons, List.length_nil, y_bool0, y_bool1, not_true_eq_false, not_false_eq_true, false_implies, true_implies, true_or, or_true, false_or, or_false, if_true, if_false, ite_true, ite_false, q]
    have hl : l = n := by omega
    subst hl
    exact hK h _ A FR.rfl'
  | j + 1, n, h, hj, hn, h2, h3, e2, e3, A, hK => by
    obtain ⟨m, rfl⟩ : ∃ m, n = m + 1 := ⟨n - 1, by omega⟩
    have z1 : Int32.ofNat (m + 1) - 1 = Int32.ofNat m := n_subl (a := m + 1) (m := 1) (by omega)
    have q : (Int32.ofNat m < Int32.ofNat l) = False := eq_false (by rw [n_lt (by omega) (by omega)]; omega)
    have he := A.e2
    rw [z1, w47_37]
    simp only [w47_0, w47_0n, w47_1, w47_4, w47_7, w47_10, w47_11, w47_12, w47_13, w47_14, w47_17, w47_18, w47_21, w47_23, w47_24, w47_24n, w47_25, w47_28, w47_31, w47_34, w47_35, w47_36, w47_38, w47_39, w47_42, w47_42n, w47_43, w47_46, w47_49, w47_50, w47_53, w47_53r, w47_53n, w47_54, w47_57, w47_61, w47_64, w47_67, w47_68, w47_69, w47_70, w47_71, w47_74, w47_74n, w47_75, w47_78, w47_79, w47_82, w47_82n, w47_85, w47_88, w47_89, w47_92, w47_92n, w47_93, w47_96, w47_97, w47_100, w47_100r, w47_100n, w47_101, w47_104, w47_107, w47_108, xk_n, xk_i, xk_r, xk_z, xk_l, xcs_0, xcs_i, xcs_r, xcs_z, xcs_l, Nat.reduceAdd, Nat.reduceLeDiff, Nat.reduceLT, true_and, and_true, Option.toList_some, Option.toList_none, List.nil_append, List.cons_append, List.getElem?_cons_zero, List.getElem?_cons_succ, List.set_cons_zero, List.set_cons_succ, List.length_cons, List.length_nil, y_bool0, y_bool1, not_true_eq_false, not_false_eq_true, false_implies, true_implies, true_or, or_true, false_or, or_false, if_true, if_false, ite_true, ite_false, q, y_get, h2, h3, A.cls]
    refine wp_rem A fun h' x A' F => ?_
    have z2 : Int32.ofNat m + -1 = Int32.ofNat m - 1 := by rw [Int32.sub_eq_add_neg]
    simp only [w47_0, w47_0n, w47_1, w47_4, w47_7, w47_10, w47_11, w47_12, w47_13, w47_14, w47_17, w47_18, w47_21, w47_23, w47_24, w47_24n, w47_25, w47_28, w47_31, w47_34, w47_35, w47_36, w47_38, w47_39, w47_42, w47_42n, w47_43, w47_46, w47_49, w47_50, w47_53, w47_53r, w47_53n, w47_54, w47_57, w47_61, w47_64, w47_67, w47_68, w47_69, w47_70, w47_71, w47_74, w47_74n, w47_75, w47_78, w47_79, w47_82, w47_82n, w47_85, w47_88, w47_89, w47_92, w47_92n, w47_93, w47_96, w47_97, w47_100, w47_100r, w47_100n, w47_101, w47_104, w47_107, w47_108, xk_n, xk_i, xk_r, xk_z, xk_l, xcs_0, xcs_i, xcs_r, xcs_z, xcs_l, Nat.reduceAdd, Nat.reduceLeDiff, Nat.reduceLT, true_and, and_true, Option.toList_some, Option.toList_none, List.nil_append, List.cons_append, List.getElem?_cons_zero, List.getElem?_cons_succ, List.set_cons_zero, List.set_cons_succ, List.length_cons, List.length_nil, y_bool0, y_bool1, not_true_eq_false, not_false_eq_true, false_implies, true_implies, true_or, or_true, false_or, or_false, if_true, if_false, ite_true, ite_false, z2]
    refine wp_pv j m h' (by omega) (by omega) (F.at h2 (by omega)) (F.at h3 (by omega)) e2 e3 A' fun h1 l3 A1 F1 => hK h1 l3 A1 ?_
    exact (F.mono (fun a _ z => z.elim Or.inl (fun z => Or.inr ⟨z, by omega⟩)) (Nat.le_refl _) (Nat.le_refl _)).tr F1
theorem wp_bk {t f : Int32} {a b c l er : Nat} {rs : Nat → Nat} {l1 : Option Value} : ∀ (j n : Nat) (h : xH), n = l + j → n < 20 → h[2]? = some (.inr (7, [.ref a, .ref b, .ref 15, .ref c, .int t, .int f])) → er ≠ 2 → AL h 15 er n rs → (∀ h', AL h' 15 er l rs → FR (fun a => a = 15 ∨ (a = er ∧ 2 ≤ a)) 0 0 h h' → K (some (.int (Int32.ofNat l))) h') → wp (d + 3) 61 31 [some (.ref 2), l1, some (.int (Int32.ofNat l)), some (.int (Int32.ofNat n - 1))] [] h K
  | 0, n, h, hj, hn, h2, e2, A, hK => by
    have q : Int32.ofNat n - 1 < Int32.ofNat l := by
      have : ∀ n : Nat, n < 20 → Int32.ofNat n - 1 < Int32.ofNat n := by decide +kernel
      have hl : l = n := by omega
      rw [hl]; exact this n hn
    rw [w61_31]
    simp only [w61_0, w61_0n, w61_1, w61_4, w61_7, w61_8, w61_9, w61_10, w61_11, w61_14, w61_15, w61_18, w61_20, w61_21, w61_21n, w61_22, w61_25, w61_28, w61_29, w61_30, w61_32, w61_33, w61_36, w61_36n, w61_37, w61_40, w61_41, w61_44, w61_44r, w61_44n, w61_45, w61_48, w61_51, w61_52, xk_n, xk_i, xk_r, xk_z, xk_l, xcs_0, xcs_i, xcs_r, xcs_z, xcs_l, Nat.reduceAdd, Nat.reduceLeDiff, Nat.reduceLT, true_and, and_true, Option.toList_some, Option.toList_none, List.nil_append, List.cons_append, List.getElem?_cons_zero, List.getElem?_cons_succ, List.set_cons_zero, List.set_cons_succ, List.length_cons, List.length_nil, y_bool0, y_bool1, not_true_eq_false, not_false_eq_true, false_implies, true_implies, true_or, or_true, false_or, or_false, if_true, if_false, ite_true, ite_false, q]
    have hl : l = n := by omega
    subst hl
    exact hK h A FR.rfl'
  | j + 1, n, h, hj, hn, h2, e2, A, hK => by
    obtain ⟨m, rfl⟩ : ∃ m, n = m + 1 := ⟨n - 1, by omega⟩
    have z1 : Int32.ofNat (m + 1) - 1 = Int32.ofNat m := n_subl (a := m + 1) (m := 1) (by omega)
    have q : (Int32.ofNat m < Int32.ofNat l) = False := eq_false (by rw [n_lt (by omega) (by omega)]; omega)
    have he := A.e2
    rw [z1, w61_31]
    simp only [w61_0, w61_0n, w61_1, w61_4, w61_7, w61_8, w61_9, w61_10, w61_11, w61_14, w61_15, w61_18, w61_20, w61_21, w61_21n, w61_22, w61_25, w61_28, w61_29, w61_30, w61_32, w61_33, w61_36, w61_36n, w61_37, w61_40, w61_41, w61_44, w61_44r, w61_44n, w61_45, w61_48, w61_51, w61_52, xk_n, xk_i, xk_r, xk_z, xk_l, xcs_0, xcs_i, xcs_r, xcs_z, xcs_l, Nat.reduceAdd, Nat.reduceLeDiff, Nat.reduceLT, true_and, and_true, Option.toList_some, Option.toList_none, List.nil_append, List.cons_append, List.getElem?_cons_zero, List.getElem?_cons_succ, List.set_cons_zero, List.set_cons_succ, List.length_cons, List.length_nil, y_bool0, y_bool1, not_true_eq_false, not_false_eq_true, false_implies, true_implies, true_or, or_true, false_or, or_false, if_true, if_false, ite_true, ite_false, q, y_get, h2, A.cls]
    refine wp_rem A fun h' x A' F => ?_
    have z2 : Int32.ofNat m + -1 = Int32.ofNat m - 1 := by rw [Int32.sub_eq_add_neg]
    simp only [w61_0, w61_0n, w61_1, w61_4, w61_7, w61_8, w61_9, w61_10, w61_11, w61_14, w61_15, w61_18, w61_20, w61_21, w61_21n, w61_22, w61_25, w61_28, w61_29, w61_30, w61_32, w61_33, w61_36, w61_36n, w61_37, w61_40, w61_41, w61_44, w61_44r, w61_44n, w61_45, w61_48, w61_51, w61_52, xk_n, xk_i, xk_r, xk_z, xk_l, xcs_0, xcs_i, xcs_r, xcs_z, xcs_l, Nat.reduceAdd, Nat.reduceLeDiff, Nat.reduceLT, true_and, and_true, Option.toList_some, Option.toList_none, List.nil_append, List.cons_append, List.getElem?_cons_zero, List.getElem?_cons_succ, List.set_cons_zero, List.set_cons_succ, List.length_cons, List.length_nil, y_bool0, y_bool1, not_true_eq_false, not_false_eq_true, false_implies, true_implies, true_or, or_true, false_or, or_false, if_true, if_false, ite_true, ite_false, z2]
    refine wp_bk j m h' (by omega) (by omega) (F.at h2 (by omega)) e2 A' fun h1 A1 F1 => hK h1 A1 ?_
    exact (F.mono (fun a _ z => z.elim Or.inl (fun z => Or.inr ⟨z, by omega⟩)) (Nat.le_refl _) (Nat.le_refl _)).tr F1
/-- the readings of vines that are gone -/
theorem wp_pr {t f : Int32} {a b c l er n : Nat} {rs : Nat → Nat} {rd : Nat → Nat × Nat × Nat} {l1 : Option Value} (hn : n < 10) (hl : l < 10) (e2 : er ≠ 2) (hv : ∀ r, r < n → (rd r).1 < 10) : ∀ (k : Nat) (h : xH), k ≤ n → h[2]? = some (.inr (7, [.ref a, .ref b, .ref 15, .ref c, .int t, .int f])) → (∀ r, r < n → rs r ≠ 15 ∧ 2 ≤ rs r ∧ h[rs r]? = some (.inr (4, [.int (Int32.ofNat (rd r).1), .int (Int32.ofNat (rd r).2.1), .int (Int32.ofNat (rd r).2.2)]))) → AL h 15 er (lnK (fun r => decide ((rd r).1 < l)) n k) (fun i => rs (ixK (fun r => decide ((rd r).1 < l)) n k i)) → (∀ h', AL h' 15 er (lnK (fun r => decide ((rd r).1 < l)) n 0) (fun i => rs (ixK (fun r => decide ((rd r).1 < l)) n 0 i)) → FR (fun a => a = 15 ∨ (a = er ∧ 2 ≤ a)) 0 0 h h' → K (some (.int (Int32.ofNat l))) h') → wp (d + 3) 47 70 [some (.ref 2), l1, some (.int (Int32.ofNat l)), some (.int (Int32.ofNat k - 1))] [] h K
  | 0, h, hk, h2, hr, A, hK => by
    have q : Int32.ofNat 0 - 1 < 0 := by decide
    rw [w47_70]
    simp only [w47_0, w47_0n, w47_1, w47_4, w47_7, w47_10, w47_11, w47_12, w47_13, w47_14, w47_17, w47_18, w47_21, w47_23, w47_24, w47_24n, w47_25, w47_28, w47_31, w47_34, w47_35, w47_36, w47_37, w47_38, w47_39, w47_42, w47_42n, w47_43, w47_46, w47_49, w47_50, w47_53, w47_53r, w47_53n, w47_54, w47_57, w47_60, w47_60n, w47_61, w47_64, w47_67, w47_68, w47_69, w47_71, w47_74, w47_74n, w47_75, w47_78, w47_79, w47_82, w47_82n, w47_85, w47_88, w47_89, w47_92, w47_92n, w47_93, w47_96, w47_97, w47_100, w47_100r, w47_100n, w47_101, w47_104, w47_107, w47_108, xk_n, xk_i, xk_r, xk_z, xk_l, xcs_0, xcs_i, xcs_r, xcs_z, xcs_l, Nat.reduceAdd, Nat.reduceLeDiff, Nat.reduceLT, true_and, and_true, Option.toList_some, Option.toList_none, List.nil_append, List.cons_append, List.getElem?_cons_zero, List.getElem?_cons_succ, List.set_cons_zero, List.set_cons_succ, List.length_cons, List.length_nil, y_bool0, y_bool1, not_true_eq_false, not_false_eq_true, false_implies, true_implies, true_or, or_true, false_or, or_false, if_true, if_false, ite_true, ite_false, q]
    exact hK h A FR.rfl'
  | k + 1, h, hk, h2, hr, A, hK => by
    have hkn : k < n := by omega
    have z1 : Int32.ofNat (k + 1) - 1 = Int32.ofNat k := n_subl (a := k + 1) (m := 1) (by omega)
    have q : (Int32.ofNat k < 0) = False := eq_false (n_lt0 (by omega))
    have z2 : Int32.ofNat k + -1 = Int32.ofNat k - 1 := by rw [Int32.sub_eq_add_neg]
    have z3 : (Int32.ofNat (rd k).1 < Int32.ofNat l) = ((rd k).1 < l) := propext (n_lt (by have := hv k hkn; omega) (by omega))
    have hix : ixK (fun r => decide ((rd r).1 < l)) n (k + 1) k = k := if_pos (by omega)
    have hkl : k < lnK (fun r => decide ((rd r).1 < l)) n (k + 1) := by unfold lnK; omega
    have cR : y_cls h (rs k) 4 := by unfold y_cls; rw [(hr k hkn).2.2]; exact ⟨(hr k hkn).2.1, rfl⟩
    rw [z1, w47_70]
    simp only [w47_0, w47_0n, w47_1, w47_4, w47_7, w47_10, w47_11, w47_12, w47_13, w47_14, w47_17, w47_18, w47_21, w47_23, w47_24, w47_24n, w47_25, w47_28, w47_31, w47_34, w47_35, w47_36, w47_37, w47_38, w47_39, w47_42, w47_42n, w47_43, w47_46, w47_49, w47_50, w47_53, w47_53r, w47_53n, w47_54, w47_57, w47_60, w47_60n, w47_61, w47_64, w47_67, w47_68, w47_69, w47_71, w47_74, w47_74n, w47_75, w47_78, w47_79, w47_82, w47_82n, w47_85, w47_88, w47_89, w47_92, w47_92n, w47_93, w47_96, w47_97, w47_100, w47_100r, w47_100n, w47_101, w47_104, w47_107, w47_108, xk_n, xk_i, xk_r, xk_z, xk_l, xcs_0, xcs_i, xcs_r, xcs_z, xcs_l, Nat.reduceAdd, Nat.reduceLeDiff, Nat.reduceLT, true_and, and_true, Option.toList_some, Option.toList_none, List.nil_append, List.cons_append, List.getElem?_cons_zero, List.getElem?_cons_succ, List.set_cons_zero, List.set_cons_succ, List.length_cons, List.length_nil, y_bool0, y_bool1, not_true_eq_false, not_false_eq_true, false_implies, true_implies, true_or, or_true, false_or, or_false, if_true, if_false, ite_true, ite_false, q, y_get, h2, A.cls, wp_get A hkl, hix, cR, (hr k hkn).2.2, z2, z3]
    by_cases p : (rd k).1 < l
    · have pd : (fun r => decide ((rd r).1 < l)) k = true := decide_eq_true p
      refine ⟨fun _ => ?_, fun z => absurd p z⟩
      have A' : AL h 15 er (lnK (fun r => decide ((rd r).1 < l)) n k) (fun i => rs (ixK (fun r => decide ((rd r).1 < l)) n k i)) := by
        rw [lnK_t hkn pd]
        exact A.ext fun i hi => by rw [ixK_t hkn pd]
      exact wp_pr hn hl e2 hv k h (by omega) h2 hr A' hK
    · have pd : (fun r => decide ((rd r).1 < l)) k = false := decide_eq_false p
      refine ⟨fun z => absurd z p, fun _ => ?_⟩
      have he : 2 ≤ er := by
        rw [← lnK_f hkn pd] at A
        exact A.e2
      rw [← lnK_f hkn pd] at A hkl
      refine wp_remk A hkl (ce := 4) (by omega) (fun i hi => ?_) fun h' x A' F => ?_
      · have := ixK_lt (p := fun r => decide ((rd r).1 < l)) (n := n) (k := k + 1) (i := i) (by omega) (by rw [← lnK_f hkn pd]; exact hi)
        exact ⟨(hr _ this).2.1, _, (hr _ this).2.2⟩
      · simp only [w47_0, w47_0n, w47_1, w47_4, w47_7, w47_10, w47_11, w47_12, w47_13, w47_14, w47_17, w47_18, w47_21, w47_23, w47_24, w47_24n, w47_25, w47_28, w47_31, w47_34, w47_35, w47_36, w47_37, w47_38, w47_39, w47_42, w47_42n, w47_43, w47_46, w47_49, w47_50, w47_53, w47_53r, w47_53n, w47_54, w47_57, w47_60, w47_60n, w47_61, w47_64, w47_67, w47_68, w47_69, w47_71, w47_74, w47_74n, w47_75, w47_78, w47_79, w47_82, w47_82n, w47_85, w47_88, w47_89, w47_92, w47_92n, w47_93, w47_96, w47_97, w47_100, w47_100r, w47_100n, w47_101, w47_104, w47_107, w47_108, xk_n, xk_i, xk_r, xk_z, xk_l, xcs_0, xcs_i, xcs_r, xcs_z, xcs_l, Nat.reduceAdd, Nat.reduceLeDiff, Nat.reduceLT, true_and, and_true, Option.toList_some, Option.toList_none, List.nil_append, List.cons_append, List.getElem?_cons_zero, List.getElem?_cons_succ, List.set_cons_zero, List.set_cons_succ, List.length_cons, List.length_nil, y_bool0, y_bool1, not_true_eq_false, not_false_eq_true, false_implies, true_implies, true_or, or_true, false_or, or_false, if_true, if_false, ite_true, ite_false, z2]
        have A2 : AL h' 15 er (lnK (fun r => decide ((rd r).1 < l)) n k) (fun i => rs (ixK (fun r => decide ((rd r).1 < l)) n k i)) := A'.ext fun i hi => by
          rw [ixK_f hkn pd]
          split <;> rfl
        refine wp_pr hn hl e2 hv k h' (by omega) (F.at h2 (by omega)) (fun r hr' => ⟨(hr r hr').1, (hr r hr').2.1, F.at (hr r hr').2.2 ?_⟩) A2 fun h1 A1 F1 => hK h1 A1 ?_
        · rintro (z | z)
          · exact (hr r hr').1 z
          · exact A.ne (hr r hr').2.2 (hr r hr').2.1 z
        · exact (F.mono (fun a _ z => z.elim Or.inl (fun z => Or.inr ⟨z, by omega⟩)) (Nat.le_refl _) (Nat.le_refl _)).tr F1
end
section
variable {d : Nat} {h : xH} {K : Option Value → xH → Prop} {s : St}
/-- lists are cut -/
theorem RC.cut {h h' : xH} {s : St} {e em er l n : Nat} {vs rs : Nat → Nat} {ix : Nat → Nat} (H : RC h s e em er vs rs) (hl : l ≤ gv (sE s)) (hix : ∀ i, i < n → ix i < sRn s) (A : AL h' 8 e l vs) (A2 : AL h' 15 er n (fun i => rs (ix i))) (F : FR (fun a => (a = 8 ∨ (a = e ∧ 2 ≤ a)) ∨ (a = 15 ∨ (a = er ∧ 2 ≤ a))) 0 0 h h') : RC h' (cutV (sE s) l, sFr s, n, fun r => sRd s (ix r), sSh s, sTr s, sFa s) e em er vs (fun i => rs (ix i)) ∧ FR CP 0 0 h h' := by
  obtain ⟨a1, ⟨X, L, a2⟩, a3, a4, a5, ⟨g, a6, a7⟩, a8, a9, b1, b2, b3, b4, b5, b6, b7⟩ := H
  have nfix : ∀ a, a < 49 → a ≠ 8 → a ≠ 15 → ¬ ((a = 8 ∨ (a = e ∧ 2 ≤ a)) ∨ (a = 15 ∨ (a = er ∧ 2 ≤ a))) := by intro a h1 h2 h3 z; omega
  have nem : ¬ ((em = 8 ∨ (em = e ∧ 2 ≤ em)) ∨ (em = 15 ∨ (em = er ∧ 2 ≤ em))) := by
    rintro ((z | ⟨z, z2⟩) | (z | ⟨z, z2⟩))
    · omega
    · have := b4 z.symm; omega
    · omega
    · have := b6 z; omega
  have nrs : ∀ r, r < sRn s → ¬ ((rs r = 8 ∨ (rs r = e ∧ 2 ≤ rs r)) ∨ (rs r = 15 ∨ (rs r = er ∧ 2 ≤ rs r))) := by
    intro r hr z
    have h49 := (a5 r hr).1
    rcases z with (z | ⟨z, z2⟩) | (z | ⟨z, z2⟩)
    · omega
    · exact a2.al.ne (a5 r hr).2 z2 z
    · omega
    · exact a4.ne (a5 r hr).2 z2 z
  have nvs : ∀ v, v < gv (sE s) → ¬ ((vs v = 8 ∨ (vs v = e ∧ 2 ≤ vs v)) ∨ (vs v = 15 ∨ (vs v = er ∧ 2 ≤ vs v))) := by
    intro v hv z
    have h49 := a9 v hv
    rcases z with (z | ⟨z, z2⟩) | (z | ⟨z, z2⟩)
    · omega
    · exact a2.al.ne (a2.at hv) z2 z
    · omega
    · exact a4.ne (a2.at hv) z2 z
  refine ⟨⟨F.at a1 (nfix _ (by omega) (by omega) (by omega)), ⟨X, L, ?_⟩, a3.fr F (fun a h1 h2 => nfix _ (by omega) (by omega) (by omega)) nem, A2, fun r hr => ?_, ⟨g, F.at a6 (nfix _ (by omega) (by omega) (by omega)), a7⟩, fun j hj => (a8 j hj).fr F (nfix _ (by omega) (by omega) (by omega)) (nfix _ (by omega) (by omega) (by omega)), fun v hv => a9 v (Nat.lt_of_lt_of_le hv hl), b1, b2, b3, b4, b5, b6, by have := F.1; omega⟩, F.mono (fun a _ z => ?_) (Nat.le_refl _) (Nat.le_refl _)⟩
  · obtain ⟨c1, c2, c3, c4, c5, c6, c7⟩ := a2
    exact ⟨c1, F.at c2 (nfix _ (by omega) (by omega) (by omega)), c3.fr F (nfix _ (by omega) (by omega) (by omega)) (nfix _ (by omega) (by omega) (by omega)), c4.fr F (nfix _ (by omega) (by omega) (by omega)) (nfix _ (by omega) (by omega) (by omega)), A, fun v hv => ⟨(c6 v (Nat.lt_of_lt_of_le hv hl)).1, (c6 v (Nat.lt_of_lt_of_le hv hl)).2.1, F.at (c6 v (Nat.lt_of_lt_of_le hv hl)).2.2 (nvs v (Nat.lt_of_lt_of_le hv hl))⟩, fun u v hu hv => c7 u v (Nat.lt_of_lt_of_le hu hl) (Nat.lt_of_lt_of_le hv hl)⟩
  · exact ⟨(a5 _ (hix r hr)).1, F.at (a5 _ (hix r hr)).2 (nrs _ (hix r hr))⟩
  · rcases z with (z | ⟨z, z2⟩) | (z | ⟨z, z2⟩)
    · exact Or.inl (by omega)
    · exact Or.inr (by omega)
    · exact Or.inl (by omega)
    · exact Or.inr (by omega)
theorem okS_cut (hO : okS s) {l : Nat} (hl : l ≤ gv (sE s)) : okS (plS s l) := by
  obtain ⟨o1, o2, o3, o4⟩ := hO
  have hn := lnK_le (p := plP s l) (n := sRn s) (k := 0) (Nat.zero_le _)
  refine ⟨?_, Nat.le_trans hn o2, fun r hr => ?_, o4⟩
  · rcases o1 with ⟨p1, p2, p3⟩ | ⟨p1, p2, p3⟩
    · exact Or.inl ⟨p1, Nat.le_trans hl p2, fun v hv => p3 v (Nat.lt_of_lt_of_le hv hl)⟩
    · exact Or.inr ⟨p1, Nat.le_zero.mp (by rw [← p2]; exact hl), p3⟩
  · replace hr : r < lnK (plP s l) (sRn s) 0 := hr
    have h1 := ixK_lt (p := plP s l) (n := sRn s) (k := 0) (Nat.zero_le _) hr
    have h2 : plP s l (ixK (plP s l) (sRn s) 0 r) = true := by
      unfold ixK
      rw [if_neg (by omega)]
      exact (flK_get (p := plP s l) (k := 0) (j := sRn s - 0) (i := r - 0) (by unfold lnK at hr; omega)).2.2
    exact ⟨of_decide_eq_true h2, (o3 _ h1).2⟩
theorem cop_pull (H : RX h s) (k : Int32) (hK : ∀ h', RX h' (opPull s k).2 → FR CP 0 0 h h' → K (some (.int (opPull s k).1)) h') : wp (d + 3) 47 0 [some (.ref 2), some (.int k), none, none] [] h K := by
  have HX := H
  obtain ⟨hO, e, em, er, vs, rs, H⟩ := H
  have H0 := H
  obtain ⟨X, L, B⟩ := H.2.1
  have hv3 := hO.v3
  rcases nb_cas k (m := gv (sE s) + 1) (by omega) with ⟨a, ha, rfl, hnb⟩ | ⟨hc, hnb⟩
  · have e1 : opPull s (Int32.ofNat a) = (Int32.ofNat (gv (sE s) - a), plS s (gv (sE s) - a)) := by unfold opPull; rw [hnb]
    rw [e1] at hK
    have z1 : Int32.ofNat (gv (sE s)) - Int32.ofNat a = Int32.ofNat (gv (sE s) - a) := n_sub (by omega)
    have z2 : (Int32.ofNat a < 0) = False := eq_false (n_lt0 (by omega))
    have z3 : 0 ≤ Int32.ofNat (gv (sE s) - a) := by rw [← Int32.not_lt]; exact n_lt0 (by omega)
    simp only [w47_0, w47_0n, w47_1, w47_4, w47_7, w47_10, w47_11, w47_12, w47_13, w47_14, w47_17, w47_18, w47_21, w47_23, w47_24, w47_24n, w47_25, w47_28, w47_31, w47_34, w47_35, w47_36, w47_38, w47_39, w47_42, w47_42n, w47_43, w47_46, w47_49, w47_50, w47_53, w47_53r, w47_53n, w47_54, w47_57, w47_61, w47_64, w47_67, w47_68, w47_69, w47_71, w47_74, w47_74n, w47_75, w47_78, w47_79, w47_82, w47_82n, w47_85, w47_88, w47_89, w47_92, w47_92n, w47_93, w47_96, w47_97, w47_100, w47_100r, w47_100n, w47_101, w47_104, w47_107, w47_108, xk_n, xk_i, xk_r, xk_z, xk_l, xcs_0, xcs_i, xcs_r, xcs_z, xcs_l, Nat.reduceAdd, Nat.reduceLeDiff, Nat.reduceLT, true_and, and_true, Option.toList_some, Option.toList_none, List.nil_append, List.cons_append, List.getElem?_cons_zero, List.getElem?_cons_succ, List.set_cons_zero, List.set_cons_succ, List.length_cons, List.length_nil, y_bool0, y_bool1, not_true_eq_false, not_false_eq_true, false_implies, true_implies, true_or, or_true, false_or, or_false, if_true, if_false, ite_true, ite_false, y_get, H.1, B.bed, B.al.cls, wp_size B.al, z1, z2, z3]
    obtain ⟨g1, g2, g3, g4, g5, g6, g7, g8, c1, c2, c3, c4, c5, c6, c7⟩ := H0
    refine wp_pv a (gv (sE s)) h (by omega) (by omega) H.1 B.bed (by omega) (by omega) B.al fun h1 l3 A1 F1 => ?_
    have R15 : AL h1 15 er (sRn s) rs := g4.fr F1 (by omega) (by rintro (z | ⟨z, z2⟩); omega; have := c5 z.symm; omega)
    have h12 := F1.at H.1 (by omega)
    simp only [w47_0, w47_0n, w47_1, w47_4, w47_7, w47_10, w47_11, w47_12, w47_13, w47_14, w47_17, w47_18, w47_21, w47_23, w47_24, w47_24n, w47_25, w47_28, w47_31, w47_34, w47_35, w47_36, w47_38, w47_39, w47_42, w47_42n, w47_43, w47_46, w47_49, w47_50, w47_53, w47_53r, w47_53n, w47_54, w47_57, w47_60, w47_60n, w47_61, w47_64, w47_67, w47_68, w47_69, w47_71, w47_74, w47_74n, w47_75, w47_78, w47_79, w47_82, w47_82n, w47_85, w47_88, w47_89, w47_92, w47_92n, w47_93, w47_96, w47_97, w47_100, w47_100r, w47_100n, w47_101, w47_104, w47_107, w47_108, xk_n, xk_i, xk_r, xk_z, xk_l, xcs_0, xcs_i, xcs_r, xcs_z, xcs_l, Nat.reduceAdd, Nat.reduceLeDiff, Nat.reduceLT, true_and, and_true, Option.toList_some, Option.toList_none, List.nil_append, List.cons_append, List.getElem?_cons_zero, List.getElem?_cons_succ, List.set_cons_zero, List.set_cons_succ, List.length_cons, List.length_nil, y_bool0, y_bool1, not_true_eq_false, not_false_eq_true, false_implies, true_implies, true_or, or_true, false_or, or_false, if_true, if_false, ite_true, ite_false, y_get, h12, R15.cls, wp_size R15]
    have A0 : AL h1 15 er (lnK (fun r => decide ((sRd s r).1 < gv (sE s) - a)) (sRn s) (sRn s)) (fun i => rs (ixK (fun r => decide ((sRd s r).1 < gv (sE s) - a)) (sRn s) (sRn s) i)) := by
      rw [lnK_n]
      exact R15.ext (g := fun i => rs (ixK (fun r => decide ((sRd s r).1 < gv (sE s) - a)) (sRn s) (sRn s) i)) fun i hi => by rw [ixK_n hi]
    refine wp_pr (er := er) (n := sRn s) (rs := rs) (rd := sRd s) (l := gv (sE s) - a) (by have := hO.2.1; omega) (by omega) (by omega) (fun r hr => by have := (hO.2.2.1 r hr).1; omega) (sRn s) h1 (Nat.le_refl _) h12 (fun r hr => ⟨by have := (g5 r hr).1; omega, by have := (g5 r hr).1; omega, F1.at (g5 r hr).2 ?_⟩) A0 fun h2 A2 F2 => ?_
    · rintro (z | ⟨z, z2⟩)
      · have := (g5 r hr).1; omega
      · exact B.al.ne (g5 r hr).2 z2 z
    · have A12 : AL h2 8 e (gv (sE s) - a) vs := A1.fr F2 (by omega) (by rintro (z | ⟨z, z2⟩); omega; have := c5 z; omega)
      have R := H.cut (ix := ixK (plP s (gv (sE s) - a)) (sRn s) 0) (l := gv (sE s) - a) (by omega) (fun i hi => ixK_lt (p := plP s (gv (sE s) - a)) (Nat.zero_le _) hi) A12 A2 (F1.trans F2 (fun _ _ z => Or.inl z) (fun _ _ z => Or.inr z) (Nat.le_refl _) (Nat.le_refl _))
      exact hK h2 ⟨okS_cut hO (by omega), _, _, _, _, _, R.1⟩ R.2
  · have e1 : opPull s k = (-2, s) := by unfold opPull; rw [hnb]
    rw [e1] at hK
    have fin := hK h HX FR.rfl'
    simp only [w47_0, w47_0n, w47_1, w47_4, w47_7, w47_10, w47_11, w47_12, w47_13, w47_14, w47_17, w47_18, w47_21, w47_23, w47_24, w47_24n, w47_25, w47_28, w47_31, w47_34, w47_35, w47_36, w47_38, w47_39, w47_42, w47_42n, w47_43, w47_46, w47_49, w47_50, w47_53, w47_53r, w47_53n, w47_54, w47_57, w47_61, w47_64, w47_67, w47_68, w47_69, w47_71, w47_74, w47_74n, w47_75, w47_78, w47_79, w47_82, w47_82n, w47_85, w47_88, w47_89, w47_92, w47_92n, w47_93, w47_96, w47_97, w47_100, w47_100r, w47_100n, w47_101, w47_104, w47_107, w47_108, xk_n, xk_i, xk_r, xk_z, xk_l, xcs_0, xcs_i, xcs_r, xcs_z, xcs_l, Nat.reduceAdd, Nat.reduceLeDiff, Nat.reduceLT, true_and, and_true, Option.toList_some, Option.toList_none, List.nil_append, List.cons_append, List.getElem?_cons_zero, List.getElem?_cons_succ, List.set_cons_zero, List.set_cons_succ, List.length_cons, List.length_nil, y_bool0, y_bool1, not_true_eq_false, not_false_eq_true, false_implies, true_implies, true_or, or_true, false_or, or_false, if_true, if_false, ite_true, ite_false, y_get, H.1, B.bed, B.al.cls, wp_size B.al]
    by_cases q : k < 0
    · simp only [q, xk_n, xk_i, xk_r, xk_z, xk_l, xcs_0, xcs_i, xcs_r, xcs_z, xcs_l, Nat.reduceAdd, Nat.reduceLeDiff, Nat.reduceLT, true_and, and_true, Option.toList_some, Option.toList_none, List.nil_append, List.cons_append, List.getElem?_cons_zero, List.getElem?_cons_succ, List.set_cons_zero, List.set_cons_succ, List.length_cons, List.length_nil, y_bool0, y_bool1, not_true_eq_false, not_false_eq_true, false_implies, true_implies, true_or, or_true, false_or, or_false, if_true, if_false, ite_true, ite_false]; exact fin
    · rcases hc with hc | ⟨_, hc⟩
      · exact absurd hc q
      · obtain ⟨b, hb, rfl⟩ := n_of q
        rw [n_le (by omega) hb] at hc
        have z3 : (0 ≤ Int32.ofNat (gv (sE s)) - Int32.ofNat b) = False := eq_false (by rw [Int32.not_le]; exact n_subneg (by omega) hb)
        simp only [q, z3, xk_n, xk_i, xk_r, xk_z, xk_l, xcs_0, xcs_i, xcs_r, xcs_z, xcs_l, Nat.reduceAdd, Nat.reduceLeDiff, Nat.reduceLT, true_and, and_true, Option.toList_some, Option.toList_none, List.nil_append, List.cons_append, List.getElem?_cons_zero, List.getElem?_cons_succ, List.set_cons_zero, List.set_cons_succ, List.length_cons, List.length_nil, y_bool0, y_bool1, not_true_eq_false, not_false_eq_true, false_implies, true_implies, true_or, or_true, false_or, or_false, if_true, if_false, ite_true, ite_false]; exact fin
theorem cop_back (H : RX h s) (k : Int32) (hK : ∀ h', RX h' (opBack s k).2 → FR CP 0 0 h h' → K (some (.int (opBack s k).1)) h') : wp (d + 3) 61 0 [some (.ref 2), some (.int k), none, none] [] h K := by
  have HX := H
  obtain ⟨hO, e, em, er, vs, rs, H⟩ := H
  have hr8 := hO.2.1
  have R15 := H.2.2.2.1
  rcases nb_cas k (m := sRn s + 1) (by omega) with ⟨a, ha, rfl, hnb⟩ | ⟨hc, hnb⟩
  · have e1 : opBack s (Int32.ofNat a) = (Int32.ofNat (sRn s - a), stD s (sRn s - a) (sRd s)) := by unfold opBack; rw [hnb]
    rw [e1] at hK
    have z1 : Int32.ofNat (sRn s) - Int32.ofNat a = Int32.ofNat (sRn s - a) := n_sub (by omega)
    have z2 : (Int32.ofNat a < 0) = False := eq_false (n_lt0 (by omega))
    have z3 : 0 ≤ Int32.ofNat (sRn s - a) := by rw [← Int32.not_lt]; exact n_lt0 (by omega)
    simp only [w61_0, w61_0n, w61_1, w61_4, w61_7, w61_8, w61_9, w61_10, w61_11, w61_14, w61_15, w61_18, w61_20, w61_21, w61_21n, w61_22, w61_25, w61_28, w61_29, w61_30, w61_32, w61_33, w61_36, w61_36n, w61_37, w61_40, w61_41, w61_44, w61_44r, w61_44n, w61_45, w61_48, w61_51, w61_52, xk_n, xk_i, xk_r, xk_z, xk_l, xcs_0, xcs_i, xcs_r, xcs_z, xcs_l, Nat.reduceAdd, Nat.reduceLeDiff, Nat.reduceLT, true_and, and_true, Option.toList_some, Option.toList_none, List.nil_append, List.cons_append, List.getElem?_cons_zero, List.getElem?_cons_succ, List.set_cons_zero, List.set_cons_succ, List.length_cons, List.length_nil, y_bool0, y_bool1, not_true_eq_false, not_false_eq_true, false_implies, true_implies, true_or, or_true, false_or, or_false, if_true, if_false, ite_true, ite_false, y_get, H.1, R15.cls, wp_size R15, z1, z2, z3]
    have H0 := H
    obtain ⟨g1, ⟨X, L, B⟩, g3, g4, g5, g6, g7, g8, c1, c2, c3, c4, c5, c6, c7⟩ := H0
    refine wp_bk a (sRn s) h (by omega) (by omega) H.1 (by omega) R15 fun h1 A1 F1 => ?_
    have A8 : AL h1 8 e (gv (sE s)) vs := B.al.fr F1 (by omega) (by rintro (z | ⟨z, z2⟩); omega; have := c5 z; omega)
    have R := H.cut (ix := fun i => i) (l := gv (sE s)) (Nat.le_refl _) (fun i hi => by omega) A8 A1 (F1.mono (fun _ _ z => Or.inr z) (Nat.le_refl _) (Nat.le_refl _))
    exact hK h1 ⟨⟨hO.1, by show sRn s - a ≤ 8; omega, fun r hr => hO.2.2.1 r (Nat.lt_of_lt_of_le hr (Nat.sub_le _ _)), hO.2.2.2⟩, _, _, _, _, _, R.1⟩ R.2
  · have e1 : opBack s k = (-2, s) := by unfold opBack; rw [hnb]
    rw [e1] at hK
    have fin := hK h HX FR.rfl'
    simp only [w61_0, w61_0n, w61_1, w61_4, w61_7, w61_8, w61_9, w61_10, w61_11, w61_14, w61_15, w61_18, w61_20, w61_21, w61_21n, w61_22, w61_25, w61_28, w61_29, w61_30, w61_32, w61_33, w61_36, w61_36n, w61_37, w61_40, w61_41, w61_44, w61_44r, w61_44n, w61_45, w61_48, w61_51, w61_52, xk_n, xk_i, xk_r, xk_z, xk_l, xcs_0, xcs_i, xcs_r, xcs_z, xcs_l, Nat.reduceAdd, Nat.reduceLeDiff, Nat.reduceLT, true_and, and_true, Option.toList_some, Option.toList_none, List.nil_append, List.cons_append, List.getElem?_cons_zero, List.getElem?_cons_succ, List.set_cons_zero, List.set_cons_succ, List.length_cons, List.length_nil, y_bool0, y_bool1, not_true_eq_false, not_false_eq_true, false_implies, true_implies, true_or, or_true, false_or, or_false, if_true, if_false, ite_true, ite_false, y_get, H.1, R15.cls, wp_size R15]
    by_cases q : k < 0
    · simp only [q, xk_n, xk_i, xk_r, xk_z, xk_l, xcs_0, xcs_i, xcs_r, xcs_z, xcs_l, Nat.reduceAdd, Nat.reduceLeDiff, Nat.reduceLT, true_and, and_true, Option.toList_some, Option.toList_none, List.nil_append, List.cons_append, List.getElem?_cons_zero, List.getElem?_cons_succ, List.set_cons_zero, List.set_cons_succ, List.length_cons, List.length_nil, y_bool0, y_bool1, not_true_eq_false, not_false_eq_true, false_implies, true_implies, true_or, or_true, false_or, or_false, if_true, if_false, ite_true, ite_false]; exact fin
    · rcases hc with hc | ⟨_, hc⟩
      · exact absurd hc q
      · obtain ⟨b, hb, rfl⟩ := n_of q
        rw [n_le (by omega) hb] at hc
        have z3 : (0 ≤ Int32.ofNat (sRn s) - Int32.ofNat b) = False := eq_false (by rw [Int32.not_le]; exact n_subneg (by omega) hb)
        simp only [q, z3, xk_n, xk_i, xk_r, xk_z, xk_l, xcs_0, xcs_i, xcs_r, xcs_z, xcs_l, Nat.reduceAdd, Nat.reduceLeDiff, Nat.reduceLT, true_and, and_true, Option.toList_some, Option.toList_none, List.nil_append, List.cons_append, List.getElem?_cons_zero, List.getElem?_cons_succ, List.set_cons_zero, List.set_cons_succ, List.length_cons, List.length_nil, y_bool0, y_bool1, not_true_eq_false, not_false_eq_true, false_implies, true_implies, true_or, or_true, false_or, or_false, if_true, if_false, ite_true, ite_false]; exact fin
end
