/-! ===== numbers: Int32.ofNat as the form of all that is not negative ===== -/
/-- a condition as an answer -/
def bi (c : Bool) : Int32 := if c then 1 else 0
theorem bi_t : bi true = 1 := rfl
theorem bi_f : bi false = 0 := rfl
theorem bi_b (c : Bool) : y_bool (bi c) := by cases c <;> rfl
theorem bi_0 (c : Bool) : bi c = 0 ↔ c = false := by cases c <;> decide
theorem bi_1 (c : Bool) : bi c = 1 ↔ c = true := by cases c <;> decide
theorem bi_ne (c : Bool) : ¬ bi c = 0 ↔ c = true := by cases c <;> decide
theorem bi_inj {a b : Bool} : bi a = bi b ↔ a = b := by cases a <;> cases b <;> decide
theorem n_toInt {a : Nat} (ha : a < 2147483648) : (Int32.ofNat a).toInt = a := Int32.toInt_ofNat_of_lt (by omega)
theorem n_lt {a b : Nat} (ha : a < 2147483648) (hb : b < 2147483648) : Int32.ofNat a < Int32.ofNat b ↔ a < b := by rw [Int32.lt_iff_toInt_lt, n_toInt ha, n_toInt hb]; omega
theorem n_le {a b : Nat} (ha : a < 2147483648) (hb : b < 2147483648) : Int32.ofNat a ≤ Int32.ofNat b ↔ a ≤ b := by rw [Int32.le_iff_toInt_le, n_toInt ha, n_toInt hb]; omega
theorem n_eq {a b : Nat} (ha : a < 2147483648) (hb : b < 2147483648) : Int32.ofNat a = Int32.ofNat b ↔ a = b := by rw [← Int32.toInt_inj, n_toInt ha, n_toInt hb]; omega
theorem n_ltl {a m : Nat} (ha : a < 2147483648) (hb : m < 2147483648) : Int32.ofNat a < OfNat.ofNat m ↔ a < m := n_lt ha hb
theorem n_lel {a m : Nat} (ha : a < 2147483648) (hb : m < 2147483648) : Int32.ofNat a ≤ OfNat.ofNat m ↔ a ≤ m := n_le ha hb
theorem n_llt {a m : Nat} (ha : a < 2147483648) (hb : m < 2147483648) : OfNat.ofNat m < Int32.ofNat a ↔ m < a := n_lt hb ha
theorem n_lle {a m : Nat} (ha : a < 2147483648) (hb : m < 2147483648) : OfNat.ofNat m ≤ Int32.ofNat a ↔ m ≤ a := n_le hb ha
theorem n_eql {a m : Nat} (ha : a < 2147483648) (hb : m < 2147483648) : Int32.ofNat a = OfNat.ofNat m ↔ a = m := n_eq ha hb
theorem n_leq {a m : Nat} (ha : a < 2147483648) (hb : m < 2147483648) : OfNat.ofNat m = Int32.ofNat a ↔ m = a := n_eq hb ha
theorem n_lt0 {a : Nat} (ha : a < 2147483648) : ¬ Int32.ofNat a < 0 := by rw [Int32.lt_iff_toInt_lt, n_toInt ha]; show ¬ (a : Int) < 0; omega
theorem n_cl {a : Nat} (ha : a < 2147483648) : (Int32.ofNat a).toNatClampNeg = a := by unfold Int32.toNatClampNeg; rw [n_toInt ha]; rfl
theorem n_in {a n : Nat} (ha : a < 2147483648) : vp_in (Int32.ofNat a) n ↔ a < n := by
  unfold vp_in
  rw [n_cl ha]
  exact ⟨fun q => Nat.not_le.mp fun z => q (Or.inr z), fun q z => z.elim (n_lt0 ha) (Nat.not_le.mpr q)⟩
theorem n_add (a b : Nat) : Int32.ofNat a + Int32.ofNat b = Int32.ofNat (a + b) := (Int32.ofNat_add a b).symm
theorem n_addl (a m : Nat) : Int32.ofNat a + OfNat.ofNat m = Int32.ofNat (a + m) := (Int32.ofNat_add a m).symm
theorem n_ladd (a m : Nat) : OfNat.ofNat m + Int32.ofNat a = Int32.ofNat (m + a) := (Int32.ofNat_add m a).symm
theorem n_mul (a b : Nat) : Int32.ofNat a * Int32.ofNat b = Int32.ofNat (a * b) := (Int32.ofNat_mul a b).symm
theorem n_mull (a m : Nat) : Int32.ofNat a * OfNat.ofNat m = Int32.ofNat (a * m) := (Int32.ofNat_mul a m).symm
theorem n_lmul (a m : Nat) : OfNat.ofNat m * Int32.ofNat a = Int32.ofNat (m * a) := (Int32.ofNat_mul m a).symm
theorem n_sub {a b : Nat} (h : b ≤ a) : Int32.ofNat a - Int32.ofNat b = Int32.ofNat (a - b) := by
  have e : Int32.ofNat a = Int32.ofNat (a - b) + Int32.ofNat b := by rw [n_add]; congr 1; omega
  rw [e, Int32.add_sub_cancel]
theorem n_subl {a m : Nat} (h : m ≤ a) : Int32.ofNat a - OfNat.ofNat m = Int32.ofNat (a - m) := n_sub h
theorem n_ne1 {a : Nat} (ha : a < 2147483648) : ¬ Int32.ofNat a = -1 := by
  intro q
  have := congrArg Int32.toInt q
  rw [n_toInt ha, show (-1 : Int32).toInt = -1 from by decide] at this
  omega
theorem n_ne9 {a : Nat} (ha : a < 2147483648) : ¬ Int32.ofNat a = -9 := by
  intro q
  have := congrArg Int32.toInt q
  rw [n_toInt ha, show (-9 : Int32).toInt = -9 from by decide] at this
  omega
/-- a number that is not negative is a natural one's -/
theorem n_of {c : Int32} (h : ¬ c < 0) : ∃ a : Nat, a < 2147483648 ∧ c = Int32.ofNat a := by
  have h0 : 0 ≤ c.toInt := by
    rw [Int32.lt_iff_toInt_lt] at h
    have : (0 : Int32).toInt = 0 := by decide
    omega
  have h1 := Int32.toInt_lt c
  refine ⟨c.toInt.toNat, by omega, ?_⟩
  rw [← Int32.toInt_inj, n_toInt (by omega)]
  omega
theorem n_nlt {a b : Int32} : ¬ a < b ↔ b ≤ a := Int32.not_lt
theorem n_nle {a b : Int32} : ¬ a ≤ b ↔ b < a := Int32.not_le
/-- a number below a bound, or not -/
theorem n_cas (c : Int32) {m : Nat} (hm : m < 2147483648) : (∃ a : Nat, a < m ∧ c = Int32.ofNat a) ∨ (c < 0 ∨ ¬ c < 0 ∧ Int32.ofNat m ≤ c) := by
  by_cases h : c < 0
  · exact Or.inr (Or.inl h)
  · obtain ⟨a, ha, rfl⟩ := n_of h
    by_cases q : a < m
    · exact Or.inl ⟨a, q, rfl⟩
    · exact Or.inr (Or.inr ⟨h, (n_le hm ha).mpr (by omega)⟩)
