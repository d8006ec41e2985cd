/-! ===== the program's text ===== -/
theorem hldB_t {n : Nat} {i k : Int32} (hn : n ≤ 1000) (h : hldB n i k = true) : ∃ a b, i = Int32.ofNat a ∧ k = Int32.ofNat b ∧ a + b ≤ n := by
  unfold hldB at h
  obtain ⟨h1, h2, h3, h4⟩ := of_decide_eq_true h
  obtain ⟨a, ha, rfl⟩ := n_of (Int32.not_lt.mpr h1)
  obtain ⟨b, hb, rfl⟩ := n_of (Int32.not_lt.mpr h3)
  have h5 : a ≤ n := (n_le (by omega) (by omega)).mp h2
  rw [n_sub h5, n_le (by omega) (by omega)] at h4
  exact ⟨a, b, rfl, rfl, by omega⟩
/-- the sign of a code -/
def sgC (x : Int32) : Option Nat := if x = 35 then some 1 else if x = 46 then some 0 else if x = 112 then some 2 else if x = 120 then some 3 else none
theorem sgC_lt {x : Int32} {a : Nat} (h : sgC x = some a) : a < 4 := by
  unfold sgC at h
  split at h
  · cases h; decide
  · split at h
    · cases h; decide
    · split at h
      · cases h; decide
      · split at h
        · cases h; decide
        · cases h
/-- a digit -/
def dgt (x : Int32) (lo hi : Nat) : Option Nat := if decide (Int32.ofNat (48 + lo) ≤ x) && decide (x ≤ Int32.ofNat (48 + hi)) then some (x.toNatClampNeg - 48) else none
/-- the code at a place -/
def cdA (f : Nat → Int32) (i n p : Nat) : Int32 := if p < n then f (i + p) else -1
def colW (cd : Nat → Int32) : Nat → Nat → Option Nat
  | 0, _ => none
  | j + 1, p => if (sgC (cd p)).isNone then some p else colW cd j (p + 1)
def rowW (cd : Nat → Int32) (w : Nat) : Nat → Nat → Option Nat
  | 0, _ => none
  | j + 1, p => if cd p = 59 then (match colW cd w (p + 1) with
    | some q => some q
    | none => rowW cd w j (p + 1 + w)) else some p
/-- the place of the first fault -/
def wrgW (cd : Nat → Int32) (n : Nat) : Option Nat := if cd 0 = 103 then (match dgt (cd 1) 1 5 with
    | none => some 1
    | some hi => match dgt (cd 2) 2 6 with
      | none => some 2
      | some w => match rowW cd w hi 3 with
        | some q => some q
        | none => if 3 + hi * (w + 1) < n then some (3 + hi * (w + 1)) else none) else some 0
theorem dgt_cas (x : Int32) {lo hi : Nat} (hh : hi ≤ 9) (lh : lo ≤ hi) : (∃ a, lo ≤ a ∧ a ≤ hi ∧ x = Int32.ofNat (48 + a) ∧ dgt x lo hi = some a) ∨ (dgt x lo hi = none ∧ (x < Int32.ofNat (48 + lo) ∨ ¬ x < Int32.ofNat (48 + lo) ∧ Int32.ofNat (48 + hi) < x)) := by
  unfold dgt
  by_cases q : x < Int32.ofNat (48 + lo)
  · refine Or.inr ⟨?_, Or.inl q⟩
    rw [decide_eq_false (by rw [Int32.not_le]; exact q)]
    rfl
  · by_cases q2 : Int32.ofNat (48 + hi) < x
    · refine Or.inr ⟨?_, Or.inr ⟨q, q2⟩⟩
      have : decide (x ≤ Int32.ofNat (48 + hi)) = false := decide_eq_false (by rw [Int32.not_le]; exact q2)
      rw [this, Bool.and_false]; rfl
    · left
      have q3 : Int32.ofNat (48 + lo) ≤ x := Int32.not_lt.mp q
      have q4 : x ≤ Int32.ofNat (48 + hi) := Int32.not_lt.mp q2
      rw [decide_eq_true q3, decide_eq_true q4]
      have : ¬ x < 0 := by
        rw [Int32.lt_iff_toInt_lt]
        rw [Int32.le_iff_toInt_le, n_toInt (by omega)] at q3
        have : (0 : Int32).toInt = 0 := by decide
        omega
      obtain ⟨y, hy, rfl⟩ := n_of this
      rw [n_le (by omega) (by omega)] at q3 q4
      refine ⟨y - 48, by omega, by omega, ?_, ?_⟩
      · congr 1; omega
      · rw [n_cl hy]; rfl
section
variable {d : Nat} {h : xH} {K : Option Value → xH → Prop} {a n : Nat} {ln : Option Nat} {f : Nat → Int32}
theorem wp_signOfCode {x : Int32} : wp d 79 0 [some (.int x)] [] h K ↔ K (some (.int (oC (sgC x)))) h := by
  have t : ∀ m : Nat, m < 1000 → (x.toInt = (m : Int)) = (x = Int32.ofNat m) := fun m hm => propext ⟨fun z => Int32.toInt_inj.mp (by rw [z, n_toInt (by omega)]), fun z => by rw [z, n_toInt (by omega)]⟩
  have t1 : (x.toInt = 35) = (x = 35) := t 35 (by omega)
  have t2 : (x.toInt = 46) = (x = 46) := t 46 (by omega)
  have t3 : (x.toInt = 112) = (x = 112) := t 112 (by omega)
  have t4 : (x.toInt = 120) = (x = 120) := t 120 (by omega)
  simp only [w79_0, w79_1, w79_44, w79_45, w79_46, w79_47, w79_48, w79_49, w79_50, w79_51, w79_52, w79_54, xk_n, xk_i, xk_r, xk_z, xk_l, xcs_0, xcs_i, xcs_r, xcs_z, xcs_l, Nat.reduceAdd, Nat.reduceLeDiff, Nat.reduceLT, true_and, and_true, Option.toList_some, Option.toList_none, List.nil_append, List.cons_append, List.getElem?_cons_zero, List.getElem?_cons_succ, List.set_cons_zero, List.set_cons_succ, List.length_cons, List.length_nil, y_bool0, y_bool1, not_true_eq_false, not_false_eq_true, false_implies, true_implies, true_or, or_true, false_or, or_false, if_true, if_false, ite_true, ite_false, t1, t2, t3, t4]
  unfold sgC
  by_cases c1 : x = 35
  · simp [c1, oC]
  · by_cases c2 : x = 46
    · simp [c2, oC]
    · by_cases c3 : x = 112
      · simp [c3, oC]
      · by_cases c4 : x = 120
        · simp [c4, oC]
        · simp [c1, c2, c3, c4, oC]
theorem wp_codeAt {i m p : Nat} (H : SH h a ln n f) (hi : i + m ≤ n) (hp : p < 1000) : wp (d + 2) 78 0 [some (.ref a), some (.int (Int32.ofNat i)), some (.int (Int32.ofNat m)), some (.int (Int32.ofNat p))] [] h K ↔ K (some (.int (cdA f i m p))) h := by
  have hn := H.2.2.2.1
  have e1 : (Int32.ofNat m ≤ Int32.ofNat p) = (m ≤ p) := propext (n_le (by omega) (by omega))
  unfold cdA
  by_cases q : p < m
  · have : ¬ m ≤ p := by omega
    simp only [w78_0, w78_1, w78_2, w78_5, w78_5n, w78_6, w78_7, w78_8, w78_9, w78_12, w78_15, w78_16, xk_n, xk_i, xk_r, xk_z, xk_l, xcs_0, xcs_i, xcs_r, xcs_z, xcs_l, Nat.reduceAdd, Nat.reduceLeDiff, Nat.reduceLT, true_and, and_true, Option.toList_some, Option.toList_none, List.nil_append, List.cons_append, List.getElem?_cons_zero, List.getElem?_cons_succ, List.set_cons_zero, List.set_cons_succ, List.length_cons, List.length_nil, y_bool0, y_bool1, not_true_eq_false, not_false_eq_true, false_implies, true_implies, true_or, or_true, false_or, or_false, if_true, if_false, ite_true, ite_false, e1, this, n_add, H.cls, wp_read H (show i + p < n by omega), q]
  · have : m ≤ p := by omega
    simp only [w78_0, w78_1, w78_2, w78_5, w78_5n, w78_6, w78_7, w78_8, w78_9, w78_12, w78_15, w78_16, xk_n, xk_i, xk_r, xk_z, xk_l, xcs_0, xcs_i, xcs_r, xcs_z, xcs_l, Nat.reduceAdd, Nat.reduceLeDiff, Nat.reduceLT, true_and, and_true, Option.toList_some, Option.toList_none, List.nil_append, List.cons_append, List.getElem?_cons_zero, List.getElem?_cons_succ, List.set_cons_zero, List.set_cons_succ, List.length_cons, List.length_nil, y_bool0, y_bool1, not_true_eq_false, not_false_eq_true, false_implies, true_implies, true_or, or_true, false_or, or_false, if_true, if_false, ite_true, ite_false, e1, this, q]
end
section
variable {d : Nat} {h : xH} {K : Option Value → xH → Prop} {a n : Nat} {ln : Option Nat} {f : Nat → Int32}
theorem wp_colW {i m w hi row : Nat} (H : SH h a ln n f) (him : i + m ≤ n) (hw : w ≤ 6) (hrow : row < 1000) : ∀ (j c p : Nat), c + j = w → p + j < 900 → (∀ q, colW (cdA f i m) j p = some q → K (some (.int (Int32.ofNat q))) h) → (colW (cdA f i m) j p = none → ∀ l7, wp (d + 3) 80 70 [some (.ref a), some (.int (Int32.ofNat i)), some (.int (Int32.ofNat m)), some (.int (Int32.ofNat hi)), some (.int (Int32.ofNat w)), some (.int (Int32.ofNat (p + j))), some (.int (Int32.ofNat (row + 1))), l7] [] h K) → wp (d + 3) 80 98 [some (.ref a), some (.int (Int32.ofNat i)), some (.int (Int32.ofNat m)), some (.int (Int32.ofNat hi)), some (.int (Int32.ofNat w)), some (.int (Int32.ofNat p)), some (.int (Int32.ofNat row)), some (.int (Int32.ofNat c))] [] h K
  | 0, c, p, hc, hp, h1, h2 => by
    have z6 : Int32.ofNat w ≤ Int32.ofNat c := (n_le (by omega) (by omega)).mpr (by omega)
    have z8 : Int32.ofNat row + 1 = Int32.ofNat (row + 1) := n_addl row 1
    rw [w80_98]
    simp only [w80_0, w80_0n, w80_1, w80_2, w80_3, w80_4, w80_7, w80_9, w80_12, w80_13, w80_14, w80_14n, w80_15, w80_16, w80_17, w80_18, w80_21, w80_23, w80_24, w80_25, w80_26, w80_27, w80_30, w80_31, w80_32, w80_35, w80_36, w80_37, w80_37n, w80_38, w80_39, w80_40, w80_41, w80_44, w80_46, w80_47, w80_49, w80_51, w80_52, w80_55, w80_57, w80_59, w80_62, w80_63, w80_64, w80_65, w80_67, w80_68, w80_72, w80_73, w80_76, w80_76n, w80_77, w80_78, w80_79, w80_81, w80_84, w80_86, w80_89, w80_91, w80_92, w80_95, w80_96, w80_100, w80_102, w80_105, w80_105n, w80_106, w80_107, w80_108, w80_110, w80_113, w80_116, w80_118, w80_121, w80_123, w80_124, w80_127, w80_130, w80_133, w80_136, w80_139, w80_141, w80_142, w80_145, w80_147, w80_150, w80_152, xk_n, xk_i, xk_r, xk_z, xk_l, xcs_0, xcs_i, xcs_r, xcs_z, xcs_l, Nat.reduceAdd, Nat.reduceLeDiff, Nat.reduceLT, true_and, and_true, Option.toList_some, Option.toList_none, List.nil_append, List.cons_append, List.getElem?_cons_zero, List.getElem?_cons_succ, List.set_cons_zero, List.set_cons_succ, List.length_cons, List.length_nil, y_bool0, y_bool1, not_true_eq_false, not_false_eq_true, false_implies, true_implies, true_or, or_true, false_or, or_false, if_true, if_false, ite_true, ite_false, z6, z8]
    exact h2 rfl _
  | j + 1, c, p, hc, hp, h1, h2 => by
    have z6 : (Int32.ofNat w ≤ Int32.ofNat c) = False := eq_false (by rw [n_le (by omega) (by omega)]; omega)
    have z8 : Int32.ofNat c + 1 = Int32.ofNat (c + 1) := n_addl c 1
    have z9 : Int32.ofNat p + 1 = Int32.ofNat (p + 1) := n_addl p 1
    have z5 := oC_9 (o := sgC (cdA f i m p)) (fun x hx => by have := sgC_lt hx; omega)
    have e1 : colW (cdA f i m) (j + 1) p = if (sgC (cdA f i m p)).isNone then some p else colW (cdA f i m) j (p + 1) := rfl
    rw [e1] at h1 h2
    rw [w80_98]
    simp only [w80_0, w80_0n, w80_1, w80_2, w80_3, w80_4, w80_7, w80_9, w80_12, w80_13, w80_14, w80_14n, w80_15, w80_16, w80_17, w80_18, w80_21, w80_23, w80_24, w80_25, w80_26, w80_27, w80_30, w80_31, w80_32, w80_35, w80_36, w80_37, w80_37n, w80_38, w80_39, w80_40, w80_41, w80_44, w80_46, w80_47, w80_49, w80_51, w80_52, w80_55, w80_57, w80_59, w80_62, w80_63, w80_64, w80_65, w80_67, w80_68, w80_72, w80_73, w80_76, w80_76n, w80_77, w80_78, w80_79, w80_81, w80_84, w80_86, w80_89, w80_91, w80_92, w80_95, w80_96, w80_100, w80_102, w80_105, w80_105n, w80_106, w80_107, w80_108, w80_110, w80_113, w80_116, w80_118, w80_121, w80_123, w80_124, w80_127, w80_130, w80_133, w80_136, w80_139, w80_141, w80_142, w80_145, w80_147, w80_150, w80_152, xk_n, xk_i, xk_r, xk_z, xk_l, xcs_0, xcs_i, xcs_r, xcs_z, xcs_l, Nat.reduceAdd, Nat.reduceLeDiff, Nat.reduceLT, true_and, and_true, Option.toList_some, Option.toList_none, List.nil_append, List.cons_append, List.getElem?_cons_zero, List.getElem?_cons_succ, List.set_cons_zero, List.set_cons_succ, List.length_cons, List.length_nil, y_bool0, y_bool1, not_true_eq_false, not_false_eq_true, false_implies, true_implies, true_or, or_true, false_or, or_false, if_true, if_false, ite_true, ite_false, z6, z8, z9, wp_codeAt H him (show p < 1000 by omega), wp_signOfCode, z5]
    cases q : sgC (cdA f i m p) with
    | none =>
      rw [q] at h1 h2
      refine ⟨fun z => absurd rfl z, fun _ => h1 p rfl⟩
    | some x =>
      rw [q] at h1 h2
      refine ⟨fun _ => ?_, fun z => by cases z⟩
      have := wp_colW (hi := hi) H him hw hrow j (c + 1) (p + 1) (by omega) (by omega) h1 (fun hh l7 => by
        have := h2 hh l7
        rw [show p + (j + 1) = p + 1 + j by omega] at this
        exact this)
      exact this
theorem wp_rowW {i m w hi : Nat} (H : SH h a ln n f) (him : i + m ≤ n) (hw : w ≤ 6) (hh5 : hi ≤ 5) : ∀ (j r p : Nat) (l7 : Option Value), r + j = hi → p + j * (w + 1) < 800 → (∀ q, rowW (cdA f i m) w j p = some q → K (some (.int (Int32.ofNat q))) h) → (rowW (cdA f i m) w j p = none → ∀ l7, wp (d + 3) 80 139 [some (.ref a), some (.int (Int32.ofNat i)), some (.int (Int32.ofNat m)), some (.int (Int32.ofNat hi)), some (.int (Int32.ofNat w)), some (.int (Int32.ofNat (p + j * (w + 1)))), some (.int (Int32.ofNat hi)), l7] [] h K) → wp (d + 3) 80 70 [some (.ref a), some (.int (Int32.ofNat i)), some (.int (Int32.ofNat m)), some (.int (Int32.ofNat hi)), some (.int (Int32.ofNat w)), some (.int (Int32.ofNat p)), some (.int (Int32.ofNat r)), l7] [] h K
  | 0, r, p, l7, hr, hp, h1, h2 => by
    have : r = hi := by omega
    subst this
    have z6 : Int32.ofNat r ≤ Int32.ofNat r := (n_le (by omega) (by omega)).mpr (by omega)
    have h2' := h2 rfl l7
    rw [Nat.zero_mul, Nat.add_zero] at h2'
    rw [w80_70]
    simp only [w80_0, w80_0n, w80_1, w80_2, w80_3, w80_4, w80_7, w80_9, w80_12, w80_13, w80_14, w80_14n, w80_15, w80_16, w80_17, w80_18, w80_21, w80_23, w80_24, w80_25, w80_26, w80_27, w80_30, w80_31, w80_32, w80_35, w80_36, w80_37, w80_37n, w80_38, w80_39, w80_40, w80_41, w80_44, w80_46, w80_47, w80_49, w80_51, w80_52, w80_55, w80_57, w80_59, w80_62, w80_63, w80_64, w80_65, w80_67, w80_68, w80_72, w80_73, w80_76, w80_76n, w80_77, w80_78, w80_79, w80_81, w80_84, w80_86, w80_89, w80_91, w80_92, w80_95, w80_96, w80_100, w80_102, w80_105, w80_105n, w80_106, w80_107, w80_108, w80_110, w80_113, w80_116, w80_118, w80_121, w80_123, w80_124, w80_127, w80_130, w80_133, w80_136, w80_141, w80_142, w80_145, w80_147, w80_150, w80_152, xk_n, xk_i, xk_r, xk_z, xk_l, xcs_0, xcs_i, xcs_r, xcs_z, xcs_l, Nat.reduceAdd, Nat.reduceLeDiff, Nat.reduceLT, true_and, and_true, Option.toList_some, Option.toList_none, List.nil_append, List.cons_append, List.getElem?_cons_zero, List.getElem?_cons_succ, List.set_cons_zero, List.set_cons_succ, List.length_cons, List.length_nil, y_bool0, y_bool1, not_true_eq_false, not_false_eq_true, false_implies, true_implies, true_or, or_true, false_or, or_false, if_true, if_false, ite_true, ite_false, z6]
    exact h2'
  | j + 1, r, p, l7, hr, hp, h1, h2 => by
    have hjw : (j + 1) * (w + 1) = j * (w + 1) + (w + 1) := Nat.succ_mul _ _
    rw [hjw] at hp
    have z6 : (Int32.ofNat hi ≤ Int32.ofNat r) = False := eq_false (by rw [n_le (by omega) (by omega)]; omega)
    have z9 : Int32.ofNat p + 1 = Int32.ofNat (p + 1) := n_addl p 1
    have z0 : (0 : Int32) = Int32.ofNat 0 := rfl
    have e1 : rowW (cdA f i m) w (j + 1) p = if cdA f i m p = 59 then (match colW (cdA f i m) w (p + 1) with
      | some q => some q
      | none => rowW (cdA f i m) w j (p + 1 + w)) else some p := rfl
    rw [e1] at h1 h2
    rw [w80_70]
    simp only [w80_0, w80_0n, w80_1, w80_2, w80_3, w80_4, w80_7, w80_9, w80_12, w80_13, w80_14, w80_14n, w80_15, w80_16, w80_17, w80_18, w80_21, w80_23, w80_24, w80_25, w80_26, w80_27, w80_30, w80_31, w80_32, w80_35, w80_36, w80_37, w80_37n, w80_38, w80_39, w80_40, w80_41, w80_44, w80_46, w80_47, w80_49, w80_51, w80_52, w80_55, w80_57, w80_59, w80_62, w80_63, w80_64, w80_65, w80_67, w80_68, w80_72, w80_73, w80_76, w80_76n, w80_77, w80_78, w80_79, w80_81, w80_84, w80_86, w80_89, w80_91, w80_92, w80_95, w80_96, w80_100, w80_102, w80_105, w80_105n, w80_106, w80_107, w80_108, w80_110, w80_113, w80_116, w80_118, w80_121, w80_123, w80_124, w80_127, w80_130, w80_133, w80_136, w80_141, w80_142, w80_145, w80_147, w80_150, w80_152, xk_n, xk_i, xk_r, xk_z, xk_l, xcs_0, xcs_i, xcs_r, xcs_z, xcs_l, Nat.reduceAdd, Nat.reduceLeDiff, Nat.reduceLT, true_and, and_true, Option.toList_some, Option.toList_none, List.nil_append, List.cons_append, List.getElem?_cons_zero, List.getElem?_cons_succ, List.set_cons_zero, List.set_cons_succ, List.length_cons, List.length_nil, y_bool0, y_bool1, not_true_eq_false, not_false_eq_true, false_implies, true_implies, true_or, or_true, false_or, or_false, if_true, if_false, ite_true, ite_false, z6, z9, z0, wp_codeAt H him (show p < 1000 by omega)]
    by_cases q : cdA f i m p = 59
    · rw [if_pos q] at h1 h2
      refine ⟨fun _ => ?_, fun z => absurd q z⟩
      refine wp_colW H him hw (by omega) w 0 (p + 1) (by omega) (by omega) (fun x hx => ?_) (fun hx m7 => ?_)
      · rw [hx] at h1
        exact h1 x rfl
      · rw [hx] at h1 h2
        refine wp_rowW H him hw hh5 j (r + 1) (p + 1 + w) _ (by omega) (by omega) h1 fun hh l7 => ?_
        have := h2 hh l7
        rw [hjw, show p + (j * (w + 1) + (w + 1)) = p + 1 + w + j * (w + 1) by omega] at this
        exact this
    · rw [if_neg q] at h1 h2
      exact ⟨fun z => absurd z q, fun _ => h1 p rfl⟩
theorem dgt_no {x : Int32} {lo hi : Nat} (hh : hi ≤ 9) (lh : lo ≤ hi) (hd : dgt x lo hi = none) (h1 : ¬ x - 48 < Int32.ofNat lo) : Int32.ofNat hi < x - 48 := by
  by_cases h2 : Int32.ofNat hi < x - 48
  · exact h2
  · exfalso
    have l1 : Int32.ofNat lo ≤ x - 48 := Int32.not_lt.mp h1
    have l2 : x - 48 ≤ Int32.ofNat hi := Int32.not_lt.mp h2
    have h0 : ¬ x - 48 < 0 := by
      rw [Int32.lt_iff_toInt_lt]
      rw [Int32.le_iff_toInt_le, n_toInt (by omega)] at l1
      have : (0 : Int32).toInt = 0 := by decide
      omega
    obtain ⟨a, ha, he⟩ := n_of h0
    rw [he, n_le (by omega) (by omega)] at l1 l2
    have e48 : Int32.ofNat a + 48 = Int32.ofNat (a + 48) := n_addl a 48
    have hx : x = Int32.ofNat (48 + a) := by
      rw [show 48 + a = a + 48 by omega, ← e48, ← he, Int32.sub_add_cancel]
    unfold dgt at hd
    rw [hx, decide_eq_true ((n_le (by omega) (by omega)).mpr (by omega)), decide_eq_true ((n_le (by omega) (by omega)).mpr (by omega))] at hd
    cases hd
theorem wp_firstWrong {i m : Nat} (H : SH h a ln n f) (him : i + m ≤ n) (hK : K (some (.int (oC (wrgW (cdA f i m) m)))) h) : wp (d + 3) 80 0 [some (.ref a), some (.int (Int32.ofNat i)), some (.int (Int32.ofNat m)), none, none, none, none, none] [] h K := by
  have hn := H.2.2.2.1
  have c0 : ∀ K, wp (d + 2) 78 0 [some (.ref a), some (.int (Int32.ofNat i)), some (.int (Int32.ofNat m)), some (.int 0)] [] h K ↔ K (some (.int (cdA f i m 0))) h := fun K => wp_codeAt (d := d) (K := K) H him (show 0 < 1000 by omega)
  have c1 : ∀ K, wp (d + 2) 78 0 [some (.ref a), some (.int (Int32.ofNat i)), some (.int (Int32.ofNat m)), some (.int 1)] [] h K ↔ K (some (.int (cdA f i m 1))) h := fun K => wp_codeAt (d := d) (K := K) H him (show 1 < 1000 by omega)
  have c2 : ∀ K, wp (d + 2) 78 0 [some (.ref a), some (.int (Int32.ofNat i)), some (.int (Int32.ofNat m)), some (.int 2)] [] h K ↔ K (some (.int (cdA f i m 2))) h := fun K => wp_codeAt (d := d) (K := K) H him (show 2 < 1000 by omega)
  have sub48 : ∀ y, Int32.ofNat (48 + y) - 48 = Int32.ofNat y := fun y => by
    have := n_subl (a := 48 + y) (m := 48) (by omega)
    rw [this]; congr 1; omega
  simp only [w80_0, w80_0n, w80_1, w80_2, w80_3, w80_4, w80_7, w80_9, w80_12, w80_13, w80_14, w80_14n, w80_15, w80_16, w80_17, w80_18, w80_21, w80_23, w80_24, w80_25, w80_26, w80_27, w80_30, w80_31, w80_32, w80_35, w80_36, w80_37, w80_37n, w80_38, w80_39, w80_40, w80_41, w80_44, w80_46, w80_47, w80_49, w80_51, w80_52, w80_55, w80_57, w80_59, w80_62, w80_63, w80_64, w80_65, w80_67, w80_68, w80_72, w80_73, w80_76, w80_76n, w80_77, w80_78, w80_79, w80_81, w80_84, w80_86, w80_89, w80_91, w80_92, w80_95, w80_96, w80_100, w80_102, w80_105, w80_105n, w80_106, w80_107, w80_108, w80_110, w80_113, w80_116, w80_118, w80_121, w80_123, w80_124, w80_127, w80_130, w80_133, w80_136, w80_141, w80_142, w80_145, w80_147, w80_150, w80_152, xk_n, xk_i, xk_r, xk_z, xk_l, xcs_0, xcs_i, xcs_r, xcs_z, xcs_l, Nat.reduceAdd, Nat.reduceLeDiff, Nat.reduceLT, true_and, and_true, Option.toList_some, Option.toList_none, List.nil_append, List.cons_append, List.getElem?_cons_zero, List.getElem?_cons_succ, List.set_cons_zero, List.set_cons_succ, List.length_cons, List.length_nil, y_bool0, y_bool1, not_true_eq_false, not_false_eq_true, false_implies, true_implies, true_or, or_true, false_or, or_false, if_true, if_false, ite_true, ite_false, c0]
  by_cases q0 : cdA f i m 0 = 103
  · refine ⟨fun _ => ?_, fun z => absurd q0 z⟩
    simp only [w80_0, w80_0n, w80_1, w80_2, w80_3, w80_4, w80_7, w80_9, w80_12, w80_13, w80_14, w80_14n, w80_15, w80_16, w80_17, w80_18, w80_21, w80_23, w80_24, w80_25, w80_26, w80_27, w80_30, w80_31, w80_32, w80_35, w80_36, w80_37, w80_37n, w80_38, w80_39, w80_40, w80_41, w80_44, w80_46, w80_47, w80_49, w80_51, w80_52, w80_55, w80_57, w80_59, w80_62, w80_63, w80_64, w80_65, w80_67, w80_68, w80_72, w80_73, w80_76, w80_76n, w80_77, w80_78, w80_79, w80_81, w80_84, w80_86, w80_89, w80_91, w80_92, w80_95, w80_96, w80_100, w80_102, w80_105, w80_105n, w80_106, w80_107, w80_108, w80_110, w80_113, w80_116, w80_118, w80_121, w80_123, w80_124, w80_127, w80_130, w80_133, w80_136, w80_141, w80_142, w80_145, w80_147, w80_150, w80_152, xk_n, xk_i, xk_r, xk_z, xk_l, xcs_0, xcs_i, xcs_r, xcs_z, xcs_l, Nat.reduceAdd, Nat.reduceLeDiff, Nat.reduceLT, true_and, and_true, Option.toList_some, Option.toList_none, List.nil_append, List.cons_append, List.getElem?_cons_zero, List.getElem?_cons_succ, List.set_cons_zero, List.set_cons_succ, List.length_cons, List.length_nil, y_bool0, y_bool1, not_true_eq_false, not_false_eq_true, false_implies, true_implies, true_or, or_true, false_or, or_false, if_true, if_false, ite_true, ite_false, c1]
    rcases dgt_cas (cdA f i m 1) (lo := 1) (hi := 5) (by omega) (by omega) with ⟨hi, hi1, hi5, hx, hd⟩ | ⟨hd, hx⟩
    · have k1 : (Int32.ofNat hi < 1) = False := eq_false (by have := n_ltl (a := hi) (m := 1) (by omega) (by omega); rw [this]; omega)
      have k2 : (Int32.ofNat hi ≤ 5) = True := eq_true (by have := n_lel (a := hi) (m := 5) (by omega) (by omega); rw [this]; omega)
      simp only [hx, sub48, k1, k2, w80_0, w80_0n, w80_1, w80_2, w80_3, w80_4, w80_7, w80_9, w80_12, w80_13, w80_14, w80_14n, w80_15, w80_16, w80_17, w80_18, w80_21, w80_23, w80_24, w80_25, w80_26, w80_27, w80_30, w80_31, w80_32, w80_35, w80_36, w80_37, w80_37n, w80_38, w80_39, w80_40, w80_41, w80_44, w80_46, w80_47, w80_49, w80_51, w80_52, w80_55, w80_57, w80_59, w80_62, w80_63, w80_64, w80_65, w80_67, w80_68, w80_72, w80_73, w80_76, w80_76n, w80_77, w80_78, w80_79, w80_81, w80_84, w80_86, w80_89, w80_91, w80_92, w80_95, w80_96, w80_100, w80_102, w80_105, w80_105n, w80_106, w80_107, w80_108, w80_110, w80_113, w80_116, w80_118, w80_121, w80_123, w80_124, w80_127, w80_130, w80_133, w80_136, w80_141, w80_142, w80_145, w80_147, w80_150, w80_152, xk_n, xk_i, xk_r, xk_z, xk_l, xcs_0, xcs_i, xcs_r, xcs_z, xcs_l, Nat.reduceAdd, Nat.reduceLeDiff, Nat.reduceLT, true_and, and_true, Option.toList_some, Option.toList_none, List.nil_append, List.cons_append, List.getElem?_cons_zero, List.getElem?_cons_succ, List.set_cons_zero, List.set_cons_succ, List.length_cons, List.length_nil, y_bool0, y_bool1, not_true_eq_false, not_false_eq_true, false_implies, true_implies, true_or, or_true, false_or, or_false, if_true, if_false, ite_true, ite_false, c2]
      rcases dgt_cas (cdA f i m 2) (lo := 2) (hi := 6) (by omega) (by omega) with ⟨w, w2, w6, hx2, hd2⟩ | ⟨hd2, hx2⟩
      · have e1 : wrgW (cdA f i m) m = match rowW (cdA f i m) w hi 3 with
          | some q => some q
          | none => if 3 + hi * (w + 1) < m then some (3 + hi * (w + 1)) else none := by
          unfold wrgW; rw [if_pos q0, hd]; dsimp only; rw [hd2]
        rw [e1] at hK
        have k3 : (Int32.ofNat w < 2) = False := eq_false (by have := n_ltl (a := w) (m := 2) (by omega) (by omega); rw [this]; omega)
        have k4 : (Int32.ofNat w ≤ 6) = True := eq_true (by have := n_lel (a := w) (m := 6) (by omega) (by omega); rw [this]; omega)
        have z0 : (0 : Int32) = Int32.ofNat 0 := rfl
        have z3 : (3 : Int32) = Int32.ofNat 3 := rfl
        have hm : hi * (w + 1) ≤ 5 * 7 := Nat.mul_le_mul hi5 (by omega)
        simp only [hx2, sub48, k3, k4, w80_0, w80_0n, w80_1, w80_2, w80_3, w80_4, w80_7, w80_9, w80_12, w80_13, w80_14, w80_14n, w80_15, w80_16, w80_17, w80_18, w80_21, w80_23, w80_24, w80_25, w80_26, w80_27, w80_30, w80_31, w80_32, w80_35, w80_36, w80_37, w80_37n, w80_38, w80_39, w80_40, w80_41, w80_44, w80_46, w80_47, w80_49, w80_51, w80_52, w80_55, w80_57, w80_59, w80_62, w80_63, w80_64, w80_65, w80_67, w80_68, w80_72, w80_73, w80_76, w80_76n, w80_77, w80_78, w80_79, w80_81, w80_84, w80_86, w80_89, w80_91, w80_92, w80_95, w80_96, w80_100, w80_102, w80_105, w80_105n, w80_106, w80_107, w80_108, w80_110, w80_113, w80_116, w80_118, w80_121, w80_123, w80_124, w80_127, w80_130, w80_133, w80_136, w80_141, w80_142, w80_145, w80_147, w80_150, w80_152, xk_n, xk_i, xk_r, xk_z, xk_l, xcs_0, xcs_i, xcs_r, xcs_z, xcs_l, Nat.reduceAdd, Nat.reduceLeDiff, Nat.reduceLT, true_and, and_true, Option.toList_some, Option.toList_none, List.nil_append, List.cons_append, List.getElem?_cons_zero, List.getElem?_cons_succ, List.set_cons_zero, List.set_cons_succ, List.length_cons, List.length_nil, y_bool0, y_bool1, not_true_eq_false, not_false_eq_true, false_implies, true_implies, true_or, or_true, false_or, or_false, if_true, if_false, ite_true, ite_false]
        rw [z0, z3]
        refine wp_rowW H him w6 hi5 hi 0 3 _ (by omega) (by omega) (fun q hq => ?_) (fun hq l7 => ?_)
        · rw [hq] at hK; exact hK
        · rw [hq] at hK
          have k5 : (Int32.ofNat m ≤ Int32.ofNat (3 + hi * (w + 1))) = (m ≤ 3 + hi * (w + 1)) := propext (n_le (by omega) (by omega))
          simp only [w80_0, w80_0n, w80_1, w80_2, w80_3, w80_4, w80_7, w80_9, w80_12, w80_13, w80_14, w80_14n, w80_15, w80_16, w80_17, w80_18, w80_21, w80_23, w80_24, w80_25, w80_26, w80_27, w80_30, w80_31, w80_32, w80_35, w80_36, w80_37, w80_37n, w80_38, w80_39, w80_40, w80_41, w80_44, w80_46, w80_47, w80_49, w80_51, w80_52, w80_55, w80_57, w80_59, w80_62, w80_63, w80_64, w80_65, w80_67, w80_68, w80_72, w80_73, w80_76, w80_76n, w80_77, w80_78, w80_79, w80_81, w80_84, w80_86, w80_89, w80_91, w80_92, w80_95, w80_96, w80_100, w80_102, w80_105, w80_105n, w80_106, w80_107, w80_108, w80_110, w80_113, w80_116, w80_118, w80_121, w80_123, w80_124, w80_127, w80_130, w80_133, w80_136, w80_139, w80_141, w80_142, w80_145, w80_147, w80_150, w80_152, xk_n, xk_i, xk_r, xk_z, xk_l, xcs_0, xcs_i, xcs_r, xcs_z, xcs_l, Nat.reduceAdd, Nat.reduceLeDiff, Nat.reduceLT, true_and, and_true, Option.toList_some, Option.toList_none, List.nil_append, List.cons_append, List.getElem?_cons_zero, List.getElem?_cons_succ, List.set_cons_zero, List.set_cons_succ, List.length_cons, List.length_nil, y_bool0, y_bool1, not_true_eq_false, not_false_eq_true, false_implies, true_implies, true_or, or_true, false_or, or_false, if_true, if_false, ite_true, ite_false, k5]
          by_cases q : 3 + hi * (w + 1) < m
          · simp only [q, xk_n, xk_i, xk_r, xk_z, xk_l, xcs_0, xcs_i, xcs_r, xcs_z, xcs_l, Nat.reduceAdd, Nat.reduceLeDiff, Nat.reduceLT, true_and, and_true, Option.toList_some, Option.toList_none, List.nil_append, List.cons_append, List.getElem?_cons_zero, List.getElem?_cons_succ, List.set_cons_zero, List.set_cons_succ, List.length_cons, List.length_nil, y_bool0, y_bool1, not_true_eq_false, not_false_eq_true, false_implies, true_implies, true_or, or_true, false_or, or_false, if_true, if_false, ite_true, ite_false] at hK
            exact ⟨fun z => by omega, fun _ => hK⟩
          · simp only [q, xk_n, xk_i, xk_r, xk_z, xk_l, xcs_0, xcs_i, xcs_r, xcs_z, xcs_l, Nat.reduceAdd, Nat.reduceLeDiff, Nat.reduceLT, true_and, and_true, Option.toList_some, Option.toList_none, List.nil_append, List.cons_append, List.getElem?_cons_zero, List.getElem?_cons_succ, List.set_cons_zero, List.set_cons_succ, List.length_cons, List.length_nil, y_bool0, y_bool1, not_true_eq_false, not_false_eq_true, false_implies, true_implies, true_or, or_true, false_or, or_false, if_true, if_false, ite_true, ite_false] at hK
            exact ⟨fun _ => hK, fun z => by omega⟩
      · have e1 : wrgW (cdA f i m) m = some 2 := by
          unfold wrgW; rw [if_pos q0, hd]; dsimp only; rw [hd2]
        rw [e1] at hK
        refine ⟨fun _ => hK, fun z => ?_⟩
        have := dgt_no (by omega) (by omega) hd2 z
        refine ⟨fun z2 => absurd this (Int32.not_lt.mpr z2), fun _ => hK⟩
    · have e1 : wrgW (cdA f i m) m = some 1 := by
        unfold wrgW; rw [if_pos q0, hd]
      rw [e1] at hK
      refine ⟨fun _ => hK, fun z => ?_⟩
      have := dgt_no (by omega) (by omega) hd z
      refine ⟨fun z2 => absurd this (Int32.not_lt.mpr z2), fun _ => hK⟩
  · refine ⟨fun z => absurd z q0, fun _ => ?_⟩
    have : wrgW (cdA f i m) m = some 0 := if_neg q0
    rw [this] at hK
    exact hK
end
