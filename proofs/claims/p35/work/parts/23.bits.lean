/-! ===== bits ===== -/
theorem i64_of {a : Int64} {n : Nat} (h : a.toBitVec.toNat = n) : a = Int64.ofNat n := by
  apply Int64.toBitVec_inj.mp
  apply BitVec.eq_of_toNat_eq
  rw [h]
  show n = (BitVec.ofNat 64 n).toNat
  rw [BitVec.toNat_ofNat, Nat.mod_eq_of_lt]
  rw [← h]; exact BitVec.isLt _
theorem i64_to {n : Nat} (h : n < 18446744073709551616) : (Int64.ofNat n).toBitVec.toNat = n := by
  show (BitVec.ofNat 64 n).toNat = n
  rw [BitVec.toNat_ofNat, Nat.mod_eq_of_lt h]
theorem i32_of {a : Int32} {n : Nat} (h : a.toBitVec.toNat = n) : a = Int32.ofNat n := by
  apply Int32.toBitVec_inj.mp
  apply BitVec.eq_of_toNat_eq
  rw [h]
  show n = (BitVec.ofNat 32 n).toNat
  rw [BitVec.toNat_ofNat, Nat.mod_eq_of_lt]
  rw [← h]; exact BitVec.isLt _
theorem i32_to {n : Nat} (h : n < 4294967296) : (Int32.ofNat n).toBitVec.toNat = n := by
  show (BitVec.ofNat 32 n).toNat = n
  rw [BitVec.toNat_ofNat, Nat.mod_eq_of_lt h]
theorem i2l_n {a : Nat} (h : a < 2147483648) : (Int32.ofNat a).toInt64 = Int64.ofNat a := by
  rw [← Int64.toInt_inj, Int32.toInt_toInt64, n_toInt h, Int64.toInt_ofNat_of_lt (by omega)]
theorem l2i_n (a : Nat) : (Int64.ofNat a).toInt32 = Int32.ofNat a := by
  apply Int32.toBitVec_inj.mp
  apply BitVec.eq_of_toNat_eq
  rw [Int64.toBitVec_toInt32]
  show ((BitVec.ofNat 64 a).signExtend 32).toNat = (BitVec.ofNat 32 a).toNat
  rw [BitVec.signExtend_eq_setWidth_of_le _ (by omega), BitVec.toNat_setWidth, BitVec.toNat_ofNat, BitVec.toNat_ofNat]
  omega
theorem sh64 : ∀ c, c < 64 → (((Int32.ofNat c).toInt64 &&& 63).toBitVec.smod 64).toNat = c := by decide +kernel
theorem sh32 : ∀ c, c < 32 → ((Int32.ofNat c &&& 31).toBitVec.smod 32).toNat = c := by decide +kernel
theorem l_shr {L c : Nat} (hL : L < 9223372036854775808) (hc : c < 64) : Int64.ofNat L >>> ((Int32.ofNat c).toInt64 &&& 63) = Int64.ofNat (L / 2 ^ c) := by
  apply i64_of
  rw [Int64.toBitVec_shiftRight]
  unfold BitVec.sshiftRight'
  rw [sh64 c hc, BitVec.sshiftRight_eq_of_msb_false, BitVec.toNat_ushiftRight, i64_to (by omega), Nat.shiftRight_eq_div_pow]
  rw [BitVec.msb_eq_false_iff_two_mul_lt, i64_to (by omega)]
  omega
theorem l_shl {L c : Nat} (hL : L * 2 ^ c < 18446744073709551616) (hc : c < 64) : Int64.ofNat L <<< ((Int32.ofNat c).toInt64 &&& 63) = Int64.ofNat (L * 2 ^ c) := by
  have h0 : 0 < 2 ^ c := Nat.pow_pos (by omega)
  have h1 : L ≤ L * 2 ^ c := Nat.le_mul_of_pos_right _ h0
  apply i64_of
  rw [Int64.toBitVec_shiftLeft, BitVec.shiftLeft_eq', sh64 c hc, BitVec.toNat_shiftLeft, i64_to (by omega), Nat.shiftLeft_eq, Nat.mod_eq_of_lt hL]
theorem l_or {A B : Nat} (hA : A < 18446744073709551616) (hB : B < 18446744073709551616) : Int64.ofNat A ||| Int64.ofNat B = Int64.ofNat (A ||| B) := by
  apply i64_of
  rw [Int64.toBitVec_or, BitVec.toNat_or, i64_to hA, i64_to hB]
theorem l_and1 {A : Nat} (hA : A < 18446744073709551616) : Int64.ofNat A &&& 1 = Int64.ofNat (A % 2) := by
  apply i64_of
  rw [Int64.toBitVec_and, BitVec.toNat_and, i64_to hA]
  exact Nat.and_two_pow_sub_one_eq_mod A 1
theorem i_shr {L c : Nat} (hL : L < 2147483648) (hc : c < 32) : Int32.ofNat L >>> (Int32.ofNat c &&& 31) = Int32.ofNat (L / 2 ^ c) := by
  apply i32_of
  rw [Int32.toBitVec_shiftRight]
  unfold BitVec.sshiftRight'
  rw [sh32 c hc, BitVec.sshiftRight_eq_of_msb_false, BitVec.toNat_ushiftRight, i32_to (by omega), Nat.shiftRight_eq_div_pow]
  rw [BitVec.msb_eq_false_iff_two_mul_lt, i32_to (by omega)]
  omega
theorem i_shl {L c : Nat} (hL : L * 2 ^ c < 4294967296) (hc : c < 32) : Int32.ofNat L <<< (Int32.ofNat c &&& 31) = Int32.ofNat (L * 2 ^ c) := by
  have h0 : 0 < 2 ^ c := Nat.pow_pos (by omega)
  have h1 : L ≤ L * 2 ^ c := Nat.le_mul_of_pos_right _ h0
  apply i32_of
  rw [Int32.toBitVec_shiftLeft, BitVec.shiftLeft_eq', sh32 c hc, BitVec.toNat_shiftLeft, i32_to (by omega), Nat.shiftLeft_eq, Nat.mod_eq_of_lt hL]
theorem i_or {A B : Nat} (hA : A < 4294967296) (hB : B < 4294967296) : Int32.ofNat A ||| Int32.ofNat B = Int32.ofNat (A ||| B) := by
  apply i32_of
  rw [Int32.toBitVec_or, BitVec.toNat_or, i32_to hA, i32_to hB]
theorem i_and1 {A : Nat} (hA : A < 4294967296) : Int32.ofNat A &&& 1 = Int32.ofNat (A % 2) := by
  apply i32_of
  rw [Int32.toBitVec_and, BitVec.toNat_and, i32_to hA]
  exact Nat.and_two_pow_sub_one_eq_mod A 1
theorem i_and3 {A : Nat} (hA : A < 4294967296) : Int32.ofNat A &&& 3 = Int32.ofNat (A % 4) := by
  apply i32_of
  rw [Int32.toBitVec_and, BitVec.toNat_and, i32_to hA]
  exact Nat.and_two_pow_sub_one_eq_mod A 2
theorem i_and3m (A : Nat) : Int32.ofNat A &&& 3 = Int32.ofNat (A % 4) := by
  have e : Int32.ofNat A = Int32.ofNat (A % 4294967296) := by
    apply Int32.toBitVec_inj.mp
    apply BitVec.eq_of_toNat_eq
    show (BitVec.ofNat 32 A).toNat = (BitVec.ofNat 32 (A % 4294967296)).toNat
    rw [BitVec.toNat_ofNat, BitVec.toNat_ofNat, Nat.mod_mod]
  rw [e, i_and3 (Nat.mod_lt _ (by omega)), Nat.mod_mod_of_dvd _ (by omega)]
theorem i_and31 {A : Nat} (hA : A < 4294967296) : Int32.ofNat A &&& 31 = Int32.ofNat (A % 32) := by
  apply i32_of
  rw [Int32.toBitVec_and, BitVec.toNat_and, i32_to hA]
  exact Nat.and_two_pow_sub_one_eq_mod A 5
theorem n_div {a b : Nat} (ha : a < 2147483648) (hb : b < 2147483648) : Int32.ofNat a / Int32.ofNat b = Int32.ofNat (a / b) := by
  have h1 : a / b ≤ a := Nat.div_le_self a b
  rw [← Int32.toInt_inj, Int32.toInt_div, n_toInt ha, n_toInt hb, n_toInt (by omega), ← Int.ofNat_tdiv]
  generalize a / b = z at h1 ⊢
  apply Int.bmod_eq_of_le <;> omega
theorem n_mod {a b : Nat} (ha : a < 2147483648) (hb : b < 2147483648) : Int32.ofNat a - Int32.ofNat a / Int32.ofNat b * Int32.ofNat b = Int32.ofNat (a % b) := by
  rw [n_div ha hb, n_mul, n_sub (Nat.div_mul_le_self a b)]
  congr 1
  have := Nat.div_add_mod a b
  rw [Nat.mul_comm] at this
  omega
theorem l_tst {L c : Nat} : L.testBit c = decide (L / 2 ^ c % 2 = 1) := Nat.testBit_eq_decide_div_mod_eq
theorem l_ofi {a b : Nat} (ha : a < 9223372036854775808) (hb : b < 9223372036854775808) : Int64.ofNat a = Int64.ofNat b ↔ a = b := by
  rw [← Int64.toInt_inj, Int64.toInt_ofNat_of_lt (by omega), Int64.toInt_ofNat_of_lt (by omega)]
  omega
