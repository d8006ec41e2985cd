theorem dJ6_bitCount_0f7a4_0 : decode cJ6_bitCount_0f7a4 0 = .ok (.iload_n 0, 1) := by decide +kernel
theorem w152_0 {d : Nat} {st : List Value} {h : xH} {K : Option Value → xH → Prop} {x : Int32} : wp d 152 0 [some (.int x)] st h K ↔ wp d 152 1 [some (.int x)] (.int x :: st) h K := w_any (i := 152) (pc := 0) dJ6_bitCount_0f7a4_0 rfl rfl
theorem dJ6_bitCount_0f7a4_1 : decode cJ6_bitCount_0f7a4 1 = .ok (.iload_n 0, 1) := by decide +kernel
theorem w152_1 {d : Nat} {st : List Value} {h : xH} {K : Option Value → xH → Prop} {x : Int32} : wp d 152 1 [some (.int x)] st h K ↔ wp d 152 2 [some (.int x)] (.int x :: st) h K := w_any (i := 152) (pc := 1) dJ6_bitCount_0f7a4_1 rfl rfl
theorem dJ6_bitCount_0f7a4_2 : decode cJ6_bitCount_0f7a4 2 = .ok (.iconst 1, 1) := by decide +kernel
theorem w152_2 {d : Nat} {st : List Value} {h : xH} {K : Option Value → xH → Prop} {ls : xL} : wp d 152 2 ls st h K ↔ wp d 152 3 ls (.int 1 :: st) h K := w_iconst (i := 152) (pc := 2) dJ6_bitCount_0f7a4_2 (by decide)
theorem dJ6_bitCount_0f7a4_3 : decode cJ6_bitCount_0f7a4 3 = .ok (.iushr, 1) := by decide +kernel
theorem w152_3 {d : Nat} {st : List Value} {h : xH} {K : Option Value → xH → Prop} {ls : xL} {x y : Int32} : wp d 152 3 ls (.int y :: .int x :: st) h K ↔ wp d 152 4 ls (.int ((x.toUInt32 >>> (y.toUInt32 &&& Int32.toUInt32 31)).toInt32) :: st) h K := w_any (i := 152) (pc := 3) dJ6_bitCount_0f7a4_3 rfl rfl
theorem dJ6_bitCount_0f7a4_4 : decode cJ6_bitCount_0f7a4 4 = .ok (.ldc_w 265, 3) := by decide +kernel
theorem w152_4 {d : Nat} {st : List Value} {h : xH} {K : Option Value → xH → Prop} {ls : xL} : wp d 152 4 ls st h K ↔ wp d 152 7 ls (.int 1431655765 :: st) h K := w_any (i := 152) (pc := 4) dJ6_bitCount_0f7a4_4 rfl rfl
theorem dJ6_bitCount_0f7a4_7 : decode cJ6_bitCount_0f7a4 7 = .ok (.iand, 1) := by decide +kernel
theorem w152_7 {d : Nat} {st : List Value} {h : xH} {K : Option Value → xH → Prop} {ls : xL} {x y : Int32} : wp d 152 7 ls (.int y :: .int x :: st) h K ↔ wp d 152 8 ls (.int (x &&& y) :: st) h K := w_any (i := 152) (pc := 7) dJ6_bitCount_0f7a4_7 rfl rfl
theorem dJ6_bitCount_0f7a4_8 : decode cJ6_bitCount_0f7a4 8 = .ok (.isub, 1) := by decide +kernel
theorem w152_8 {d : Nat} {st : List Value} {h : xH} {K : Option Value → xH → Prop} {ls : xL} {x y : Int32} : wp d 152 8 ls (.int y :: .int x :: st) h K ↔ wp d 152 9 ls (.int (x - y) :: st) h K := w_any (i := 152) (pc := 8) dJ6_bitCount_0f7a4_8 rfl rfl
theorem dJ6_bitCount_0f7a4_9 : decode cJ6_bitCount_0f7a4 9 = .ok (.istore_n 0, 1) := by decide +kernel
theorem w152_9 {d : Nat} {st : List Value} {h : xH} {K : Option Value → xH → Prop} {l0 : Option Value} {x : Int32} : wp d 152 9 [l0] (.int x :: st) h K ↔ wp d 152 10 [some (.int x)] st h K := w_istore_n (i := 152) (pc := 9) dJ6_bitCount_0f7a4_9 (Nat.le_of_ble_eq_true rfl) (show xst1 [l0] 0 (.int x) = [some (.int x)] by simp only [xst1_0, xst1_1, xst1_s, Nat.reduceAdd])
theorem dJ6_bitCount_0f7a4_10 : decode cJ6_bitCount_0f7a4 10 = .ok (.iload_n 0, 1) := by decide +kernel
theorem w152_10 {d : Nat} {st : List Value} {h : xH} {K : Option Value → xH → Prop} {x : Int32} : wp d 152 10 [some (.int x)] st h K ↔ wp d 152 11 [some (.int x)] (.int x :: st) h K := w_any (i := 152) (pc := 10) dJ6_bitCount_0f7a4_10 rfl rfl
theorem dJ6_bitCount_0f7a4_11 : decode cJ6_bitCount_0f7a4 11 = .ok (.ldc_w 266, 3) := by decide +kernel
theorem w152_11 {d : Nat} {st : List Value} {h : xH} {K : Option Value → xH → Prop} {ls : xL} : wp d 152 11 ls st h K ↔ wp d 152 14 ls (.int 858993459 :: st) h K := w_any (i := 152) (pc := 11) dJ6_bitCount_0f7a4_11 rfl rfl
theorem dJ6_bitCount_0f7a4_14 : decode cJ6_bitCount_0f7a4 14 = .ok (.iand, 1) := by decide +kernel
theorem w152_14 {d : Nat} {st : List Value} {h : xH} {K : Option Value → xH → Prop} {ls : xL} {x y : Int32} : wp d 152 14 ls (.int y :: .int x :: st) h K ↔ wp d 152 15 ls (.int (x &&& y) :: st) h K := w_any (i := 152) (pc := 14) dJ6_bitCount_0f7a4_14 rfl rfl
theorem dJ6_bitCount_0f7a4_15 : decode cJ6_bitCount_0f7a4 15 = .ok (.iload_n 0, 1) := by decide +kernel
theorem w152_15 {d : Nat} {st : List Value} {h : xH} {K : Option Value → xH → Prop} {x : Int32} : wp d 152 15 [some (.int x)] st h K ↔ wp d 152 16 [some (.int x)] (.int x :: st) h K := w_any (i := 152) (pc := 15) dJ6_bitCount_0f7a4_15 rfl rfl
theorem dJ6_bitCount_0f7a4_16 : decode cJ6_bitCount_0f7a4 16 = .ok (.iconst 2, 1) := by decide +kernel
theorem w152_16 {d : Nat} {st : List Value} {h : xH} {K : Option Value → xH → Prop} {ls : xL} : wp d 152 16 ls st h K ↔ wp d 152 17 ls (.int 2 :: st) h K := w_iconst (i := 152) (pc := 16) dJ6_bitCount_0f7a4_16 (by decide)
theorem dJ6_bitCount_0f7a4_17 : decode cJ6_bitCount_0f7a4 17 = .ok (.iushr, 1) := by decide +kernel
theorem w152_17 {d : Nat} {st : List Value} {h : xH} {K : Option Value → xH → Prop} {ls : xL} {x y : Int32} : wp d 152 17 ls (.int y :: .int x :: st) h K ↔ wp d 152 18 ls (.int ((x.toUInt32 >>> (y.toUInt32 &&& Int32.toUInt32 31)).toInt32) :: st) h K := w_any (i := 152) (pc := 17) dJ6_bitCount_0f7a4_17 rfl rfl
theorem dJ6_bitCount_0f7a4_18 : decode cJ6_bitCount_0f7a4 18 = .ok (.ldc_w 266, 3) := by decide +kernel
theorem w152_18 {d : Nat} {st : List Value} {h : xH} {K : Option Value → xH → Prop} {ls : xL} : wp d 152 18 ls st h K ↔ wp d 152 21 ls (.int 858993459 :: st) h K := w_any (i := 152) (pc := 18) dJ6_bitCount_0f7a4_18 rfl rfl
theorem dJ6_bitCount_0f7a4_21 : decode cJ6_bitCount_0f7a4 21 = .ok (.iand, 1) := by decide +kernel
theorem w152_21 {d : Nat} {st : List Value} {h : xH} {K : Option Value → xH → Prop} {ls : xL} {x y : Int32} : wp d 152 21 ls (.int y :: .int x :: st) h K ↔ wp d 152 22 ls (.int (x &&& y) :: st) h K := w_any (i := 152) (pc := 21) dJ6_bitCount_0f7a4_21 rfl rfl
theorem dJ6_bitCount_0f7a4_22 : decode cJ6_bitCount_0f7a4 22 = .ok (.iadd, 1) := by decide +kernel
theorem w152_22 {d : Nat} {st : List Value} {h : xH} {K : Option Value → xH → Prop} {ls : xL} {x y : Int32} : wp d 152 22 ls (.int y :: .int x :: st) h K ↔ wp d 152 23 ls (.int (x + y) :: st) h K := w_any (i := 152) (pc := 22) dJ6_bitCount_0f7a4_22 rfl rfl
theorem dJ6_bitCount_0f7a4_23 : decode cJ6_bitCount_0f7a4 23 = .ok (.istore_n 0, 1) := by decide +kernel
theorem w152_23 {d : Nat} {st : List Value} {h : xH} {K : Option Value → xH → Prop} {l0 : Option Value} {x : Int32} : wp d 152 23 [l0] (.int x :: st) h K ↔ wp d 152 24 [some (.int x)] st h K := w_istore_n (i := 152) (pc := 23) dJ6_bitCount_0f7a4_23 (Nat.le_of_ble_eq_true rfl) (show xst1 [l0] 0 (.int x) = [some (.int x)] by simp only [xst1_0, xst1_1, xst1_s, Nat.reduceAdd])
theorem dJ6_bitCount_0f7a4_24 : decode cJ6_bitCount_0f7a4 24 = .ok (.iload_n 0, 1) := by decide +kernel
theorem w152_24 {d : Nat} {st : List Value} {h : xH} {K : Option Value → xH → Prop} {x : Int32} : wp d 152 24 [some (.int x)] st h K ↔ wp d 152 25 [some (.int x)] (.int x :: st) h K := w_any (i := 152) (pc := 24) dJ6_bitCount_0f7a4_24 rfl rfl
theorem dJ6_bitCount_0f7a4_25 : decode cJ6_bitCount_0f7a4 25 = .ok (.iload_n 0, 1) := by decide +kernel
theorem w152_25 {d : Nat} {st : List Value} {h : xH} {K : Option Value → xH → Prop} {x : Int32} : wp d 152 25 [some (.int x)] st h K ↔ wp d 152 26 [some (.int x)] (.int x :: st) h K := w_any (i := 152) (pc := 25) dJ6_bitCount_0f7a4_25 rfl rfl
theorem dJ6_bitCount_0f7a4_26 : decode cJ6_bitCount_0f7a4 26 = .ok (.iconst 4, 1) := by decide +kernel
theorem w152_26 {d : Nat} {st : List Value} {h : xH} {K : Option Value → xH → Prop} {ls : xL} : wp d 152 26 ls st h K ↔ wp d 152 27 ls (.int 4 :: st) h K := w_iconst (i := 152) (pc := 26) dJ6_bitCount_0f7a4_26 (by decide)
theorem dJ6_bitCount_0f7a4_27 : decode cJ6_bitCount_0f7a4 27 = .ok (.iushr, 1) := by decide +kernel
theorem w152_27 {d : Nat} {st : List Value} {h : xH} {K : Option Value → xH → Prop} {ls : xL} {x y : Int32} : wp d 152 27 ls (.int y :: .int x :: st) h K ↔ wp d 152 28 ls (.int ((x.toUInt32 >>> (y.toUInt32 &&& Int32.toUInt32 31)).toInt32) :: st) h K := w_any (i := 152) (pc := 27) dJ6_bitCount_0f7a4_27 rfl rfl
theorem dJ6_bitCount_0f7a4_28 : decode cJ6_bitCount_0f7a4 28 = .ok (.iadd, 1) := by decide +kernel
theorem w152_28 {d : Nat} {st : List Value} {h : xH} {K : Option Value → xH → Prop} {ls : xL} {x y : Int32} : wp d 152 28 ls (.int y :: .int x :: st) h K ↔ wp d 152 29 ls (.int (x + y) :: st) h K := w_any (i := 152) (pc := 28) dJ6_bitCount_0f7a4_28 rfl rfl
theorem dJ6_bitCount_0f7a4_29 : decode cJ6_bitCount_0f7a4 29 = .ok (.ldc_w 267, 3) := by decide +kernel
theorem w152_29 {d : Nat} {st : List Value} {h : xH} {K : Option Value → xH → Prop} {ls : xL} : wp d 152 29 ls st h K ↔ wp d 152 32 ls (.int 252645135 :: st) h K := w_any (i := 152) (pc := 29) dJ6_bitCount_0f7a4_29 rfl rfl
theorem dJ6_bitCount_0f7a4_32 : decode cJ6_bitCount_0f7a4 32 = .ok (.iand, 1) := by decide +kernel
theorem w152_32 {d : Nat} {st : List Value} {h : xH} {K : Option Value → xH → Prop} {ls : xL} {x y : Int32} : wp d 152 32 ls (.int y :: .int x :: st) h K ↔ wp d 152 33 ls (.int (x &&& y) :: st) h K := w_any (i := 152) (pc := 32) dJ6_bitCount_0f7a4_32 rfl rfl
theorem dJ6_bitCount_0f7a4_33 : decode cJ6_bitCount_0f7a4 33 = .ok (.istore_n 0, 1) := by decide +kernel
theorem w152_33 {d : Nat} {st : List Value} {h : xH} {K : Option Value → xH → Prop} {l0 : Option Value} {x : Int32} : wp d 152 33 [l0] (.int x :: st) h K ↔ wp d 152 34 [some (.int x)] st h K := w_istore_n (i := 152) (pc := 33) dJ6_bitCount_0f7a4_33 (Nat.le_of_ble_eq_true rfl) (show xst1 [l0] 0 (.int x) = [some (.int x)] by simp only [xst1_0, xst1_1, xst1_s, Nat.reduceAdd])
theorem dJ6_bitCount_0f7a4_34 : decode cJ6_bitCount_0f7a4 34 = .ok (.iload_n 0, 1) := by decide +kernel
theorem w152_34 {d : Nat} {st : List Value} {h : xH} {K : Option Value → xH → Prop} {x : Int32} : wp d 152 34 [some (.int x)] st h K ↔ wp d 152 35 [some (.int x)] (.int x :: st) h K := w_any (i := 152) (pc := 34) dJ6_bitCount_0f7a4_34 rfl rfl
theorem dJ6_bitCount_0f7a4_35 : decode cJ6_bitCount_0f7a4 35 = .ok (.iload_n 0, 1) := by decide +kernel
theorem w152_35 {d : Nat} {st : List Value} {h : xH} {K : Option Value → xH → Prop} {x : Int32} : wp d 152 35 [some (.int x)] st h K ↔ wp d 152 36 [some (.int x)] (.int x :: st) h K := w_any (i := 152) (pc := 35) dJ6_bitCount_0f7a4_35 rfl rfl
theorem dJ6_bitCount_0f7a4_36 : decode cJ6_bitCount_0f7a4 36 = .ok (.bipush 8, 2) := by decide +kernel
theorem w152_36 {d : Nat} {st : List Value} {h : xH} {K : Option Value → xH → Prop} {ls : xL} : wp d 152 36 ls st h K ↔ wp d 152 38 ls (.int 8 :: st) h K := w_bipush (i := 152) (pc := 36) dJ6_bitCount_0f7a4_36 (by decide)
theorem dJ6_bitCount_0f7a4_38 : decode cJ6_bitCount_0f7a4 38 = .ok (.iushr, 1) := by decide +kernel
theorem w152_38 {d : Nat} {st : List Value} {h : xH} {K : Option Value → xH → Prop} {ls : xL} {x y : Int32} : wp d 152 38 ls (.int y :: .int x :: st) h K ↔ wp d 152 39 ls (.int ((x.toUInt32 >>> (y.toUInt32 &&& Int32.toUInt32 31)).toInt32) :: st) h K := w_any (i := 152) (pc := 38) dJ6_bitCount_0f7a4_38 rfl rfl
theorem dJ6_bitCount_0f7a4_39 : decode cJ6_bitCount_0f7a4 39 = .ok (.iadd, 1) := by decide +kernel
theorem w152_39 {d : Nat} {st : List Value} {h : xH} {K : Option Value → xH → Prop} {ls : xL} {x y : Int32} : wp d 152 39 ls (.int y :: .int x :: st) h K ↔ wp d 152 40 ls (.int (x + y) :: st) h K := w_any (i := 152) (pc := 39) dJ6_bitCount_0f7a4_39 rfl rfl
theorem dJ6_bitCount_0f7a4_40 : decode cJ6_bitCount_0f7a4 40 = .ok (.istore_n 0, 1) := by decide +kernel
theorem w152_40 {d : Nat} {st : List Value} {h : xH} {K : Option Value → xH → Prop} {l0 : Option Value} {x : Int32} : wp d 152 40 [l0] (.int x :: st) h K ↔ wp d 152 41 [some (.int x)] st h K := w_istore_n (i := 152) (pc := 40) dJ6_bitCount_0f7a4_40 (Nat.le_of_ble_eq_true rfl) (show xst1 [l0] 0 (.int x) = [some (.int x)] by simp only [xst1_0, xst1_1, xst1_s, Nat.reduceAdd])
theorem dJ6_bitCount_0f7a4_41 : decode cJ6_bitCount_0f7a4 41 = .ok (.iload_n 0, 1) := by decide +kernel
theorem w152_41 {d : Nat} {st : List Value} {h : xH} {K : Option Value → xH → Prop} {x : Int32} : wp d 152 41 [some (.int x)] st h K ↔ wp d 152 42 [some (.int x)] (.int x :: st) h K := w_any (i := 152) (pc := 41) dJ6_bitCount_0f7a4_41 rfl rfl
theorem dJ6_bitCount_0f7a4_42 : decode cJ6_bitCount_0f7a4 42 = .ok (.iload_n 0, 1) := by decide +kernel
theorem w152_42 {d : Nat} {st : List Value} {h : xH} {K : Option Value → xH → Prop} {x : Int32} : wp d 152 42 [some (.int x)] st h K ↔ wp d 152 43 [some (.int x)] (.int x :: st) h K := w_any (i := 152) (pc := 42) dJ6_bitCount_0f7a4_42 rfl rfl
theorem dJ6_bitCount_0f7a4_43 : decode cJ6_bitCount_0f7a4 43 = .ok (.bipush 16, 2) := by decide +kernel
theorem w152_43 {d : Nat} {st : List Value} {h : xH} {K : Option Value → xH → Prop} {ls : xL} : wp d 152 43 ls st h K ↔ wp d 152 45 ls (.int 16 :: st) h K := w_bipush (i := 152) (pc := 43) dJ6_bitCount_0f7a4_43 (by decide)
theorem dJ6_bitCount_0f7a4_45 : decode cJ6_bitCount_0f7a4 45 = .ok (.iushr, 1) := by decide +kernel
theorem w152_45 {d : Nat} {st : List Value} {h : xH} {K : Option Value → xH → Prop} {ls : xL} {x y : Int32} : wp d 152 45 ls (.int y :: .int x :: st) h K ↔ wp d 152 46 ls (.int ((x.toUInt32 >>> (y.toUInt32 &&& Int32.toUInt32 31)).toInt32) :: st) h K := w_any (i := 152) (pc := 45) dJ6_bitCount_0f7a4_45 rfl rfl
theorem dJ6_bitCount_0f7a4_46 : decode cJ6_bitCount_0f7a4 46 = .ok (.iadd, 1) := by decide +kernel
theorem w152_46 {d : Nat} {st : List Value} {h : xH} {K : Option Value → xH → Prop} {ls : xL} {x y : Int32} : wp d 152 46 ls (.int y :: .int x :: st) h K ↔ wp d 152 47 ls (.int (x + y) :: st) h K := w_any (i := 152) (pc := 46) dJ6_bitCount_0f7a4_46 rfl rfl
theorem dJ6_bitCount_0f7a4_47 : decode cJ6_bitCount_0f7a4 47 = .ok (.istore_n 0, 1) := by decide +kernel
theorem w152_47 {d : Nat} {st : List Value} {h : xH} {K : Option Value → xH → Prop} {l0 : Option Value} {x : Int32} : wp d 152 47 [l0] (.int x :: st) h K ↔ wp d 152 48 [some (.int x)] st h K := w_istore_n (i := 152) (pc := 47) dJ6_bitCount_0f7a4_47 (Nat.le_of_ble_eq_true rfl) (show xst1 [l0] 0 (.int x) = [some (.int x)] by simp only [xst1_0, xst1_1, xst1_s, Nat.reduceAdd])
theorem dJ6_bitCount_0f7a4_48 : decode cJ6_bitCount_0f7a4 48 = .ok (.iload_n 0, 1) := by decide +kernel
theorem w152_48 {d : Nat} {st : List Value} {h : xH} {K : Option Value → xH → Prop} {x : Int32} : wp d 152 48 [some (.int x)] st h K ↔ wp d 152 49 [some (.int x)] (.int x :: st) h K := w_any (i := 152) (pc := 48) dJ6_bitCount_0f7a4_48 rfl rfl
theorem dJ6_bitCount_0f7a4_49 : decode cJ6_bitCount_0f7a4 49 = .ok (.bipush 63, 2) := by decide +kernel
theorem w152_49 {d : Nat} {st : List Value} {h : xH} {K : Option Value → xH → Prop} {ls : xL} : wp d 152 49 ls st h K ↔ wp d 152 51 ls (.int 63 :: st) h K := w_bipush (i := 152) (pc := 49) dJ6_bitCount_0f7a4_49 (by decide)
theorem dJ6_bitCount_0f7a4_51 : decode cJ6_bitCount_0f7a4 51 = .ok (.iand, 1) := by decide +kernel
theorem w152_51 {d : Nat} {st : List Value} {h : xH} {K : Option Value → xH → Prop} {ls : xL} {x y : Int32} : wp d 152 51 ls (.int y :: .int x :: st) h K ↔ wp d 152 52 ls (.int (x &&& y) :: st) h K := w_any (i := 152) (pc := 51) dJ6_bitCount_0f7a4_51 rfl rfl
theorem dJ6_bitCount_0f7a4_52 : decode cJ6_bitCount_0f7a4 52 = .ok (.ireturn, 1) := by decide +kernel
theorem w152_52 {d : Nat} {h : xH} {K : Option Value → xH → Prop} {ls : xL} {x : Int32} : wp d 152 52 ls [.int x] h K ↔ K (some (.int x)) h := w_iret (i := 152) (pc := 52) dJ6_bitCount_0f7a4_52 rfl
theorem dJ9_max_7cf53_0 : decode cJ9_max_7cf53 0 = .ok (.iload_n 0, 1) := by decide +kernel
theorem w153_0 {d : Nat} {st : List Value} {h : xH} {K : Option Value → xH → Prop} {l1 : Option Value} {x : Int32} : wp d 153 0 [some (.int x), l1] st h K ↔ wp d 153 1 [some (.int x), l1] (.int x :: st) h K := w_any (i := 153) (pc := 0) dJ9_max_7cf53_0 rfl rfl
theorem dJ9_max_7cf53_1 : decode cJ9_max_7cf53 1 = .ok (.iload_n 1, 1) := by decide +kernel
theorem w153_1 {d : Nat} {st : List Value} {h : xH} {K : Option Value → xH → Prop} {l0 : Option Value} {x : Int32} : wp d 153 1 [l0, some (.int x)] st h K ↔ wp d 153 2 [l0, some (.int x)] (.int x :: st) h K := w_any (i := 153) (pc := 1) dJ9_max_7cf53_1 rfl rfl
theorem dJ9_max_7cf53_2 : decode cJ9_max_7cf53 2 = .ok (.if_icmp .lt 7, 3) := by decide +kernel
theorem w153_2 {d : Nat} {st : List Value} {h : xH} {K : Option Value → xH → Prop} {ls : xL} {x y : Int32} : wp d 153 2 ls (.int y :: .int x :: st) h K ↔ ((x < y) → wp d 153 9 ls st h K) ∧ ((¬ (x < y)) → wp d 153 5 ls st h K) := w_if2 (i := 153) (pc := 2) (cd := .lt) (off := 7) (tgt := 9) dJ9_max_7cf53_2 (by decide) rfl
theorem dJ9_max_7cf53_5 : decode cJ9_max_7cf53 5 = .ok (.iload_n 0, 1) := by decide +kernel
theorem w153_5 {d : Nat} {st : List Value} {h : xH} {K : Option Value → xH → Prop} {l1 : Option Value} {x : Int32} : wp d 153 5 [some (.int x), l1] st h K ↔ wp d 153 6 [some (.int x), l1] (.int x :: st) h K := w_any (i := 153) (pc := 5) dJ9_max_7cf53_5 rfl rfl
theorem dJ9_max_7cf53_6 : decode cJ9_max_7cf53 6 = .ok (.goto 4, 3) := by decide +kernel
theorem w153_6 {d : Nat} {st : List Value} {h : xH} {K : Option Value → xH → Prop} {ls : xL} : wp d 153 6 ls st h K ↔ wp d 153 10 ls st h K := w_goto (i := 153) (pc := 6) dJ9_max_7cf53_6 (by decide) rfl
theorem dJ9_max_7cf53_9 : decode cJ9_max_7cf53 9 = .ok (.iload_n 1, 1) := by decide +kernel
theorem w153_9 {d : Nat} {st : List Value} {h : xH} {K : Option Value → xH → Prop} {l0 : Option Value} {x : Int32} : wp d 153 9 [l0, some (.int x)] st h K ↔ wp d 153 10 [l0, some (.int x)] (.int x :: st) h K := w_any (i := 153) (pc := 9) dJ9_max_7cf53_9 rfl rfl
theorem dJ9_max_7cf53_10 : decode cJ9_max_7cf53 10 = .ok (.ireturn, 1) := by decide +kernel
theorem w153_10 {d : Nat} {h : xH} {K : Option Value → xH → Prop} {ls : xL} {x : Int32} : wp d 153 10 ls [.int x] h K ↔ K (some (.int x)) h := w_iret (i := 153) (pc := 10) dJ9_max_7cf53_10 rfl
theorem dJ9_min_7cf53_0 : decode cJ9_min_7cf53 0 = .ok (.iload_n 0, 1) := by decide +kernel
theorem w154_0 {d : Nat} {st : List Value} {h : xH} {K : Option Value → xH → Prop} {l1 : Option Value} {x : Int32} : wp d 154 0 [some (.int x), l1] st h K ↔ wp d 154 1 [some (.int x), l1] (.int x :: st) h K := w_any (i := 154) (pc := 0) dJ9_min_7cf53_0 rfl rfl
theorem dJ9_min_7cf53_1 : decode cJ9_min_7cf53 1 = .ok (.iload_n 1, 1) := by decide +kernel
theorem w154_1 {d : Nat} {st : List Value} {h : xH} {K : Option Value → xH → Prop} {l0 : Option Value} {x : Int32} : wp d 154 1 [l0, some (.int x)] st h K ↔ wp d 154 2 [l0, some (.int x)] (.int x :: st) h K := w_any (i := 154) (pc := 1) dJ9_min_7cf53_1 rfl rfl
theorem dJ9_min_7cf53_2 : decode cJ9_min_7cf53 2 = .ok (.if_icmp .gt 7, 3) := by decide +kernel
theorem w154_2 {d : Nat} {st : List Value} {h : xH} {K : Option Value → xH → Prop} {ls : xL} {x y : Int32} : wp d 154 2 ls (.int y :: .int x :: st) h K ↔ ((y < x) → wp d 154 9 ls st h K) ∧ ((¬ (y < x)) → wp d 154 5 ls st h K) := w_if2 (i := 154) (pc := 2) (cd := .gt) (off := 7) (tgt := 9) dJ9_min_7cf53_2 (by decide) rfl
theorem dJ9_min_7cf53_5 : decode cJ9_min_7cf53 5 = .ok (.iload_n 0, 1) := by decide +kernel
theorem w154_5 {d : Nat} {st : List Value} {h : xH} {K : Option Value → xH → Prop} {l1 : Option Value} {x : Int32} : wp d 154 5 [some (.int x), l1] st h K ↔ wp d 154 6 [some (.int x), l1] (.int x :: st) h K := w_any (i := 154) (pc := 5) dJ9_min_7cf53_5 rfl rfl
theorem dJ9_min_7cf53_6 : decode cJ9_min_7cf53 6 = .ok (.goto 4, 3) := by decide +kernel
theorem w154_6 {d : Nat} {st : List Value} {h : xH} {K : Option Value → xH → Prop} {ls : xL} : wp d 154 6 ls st h K ↔ wp d 154 10 ls st h K := w_goto (i := 154) (pc := 6) dJ9_min_7cf53_6 (by decide) rfl
theorem dJ9_min_7cf53_9 : decode cJ9_min_7cf53 9 = .ok (.iload_n 1, 1) := by decide +kernel
theorem w154_9 {d : Nat} {st : List Value} {h : xH} {K : Option Value → xH → Prop} {l0 : Option Value} {x : Int32} : wp d 154 9 [l0, some (.int x)] st h K ↔ wp d 154 10 [l0, some (.int x)] (.int x :: st) h K := w_any (i := 154) (pc := 9) dJ9_min_7cf53_9 rfl rfl
theorem dJ9_min_7cf53_10 : decode cJ9_min_7cf53 10 = .ok (.ireturn, 1) := by decide +kernel
theorem w154_10 {d : Nat} {h : xH} {K : Option Value → xH → Prop} {ls : xL} {x : Int32} : wp d 154 10 ls [.int x] h K ↔ K (some (.int x)) h := w_iret (i := 154) (pc := 10) dJ9_min_7cf53_10 rfl
theorem dJxa1e45_init_da8c8_0 : decode cJxa1e45_init_da8c8 0 = .ok (.aload_n 0, 1) := by decide +kernel
theorem w155_0 {d : Nat} {st : List Value} {h : xH} {K : Option Value → xH → Prop} {x : Nat} : wp d 155 0 [some (.ref x)] st h K ↔ wp d 155 1 [some (.ref x)] (.ref x :: st) h K := w_any (i := 155) (pc := 0) dJxa1e45_init_da8c8_0 rfl rfl
theorem w155_0n {d : Nat} {st : List Value} {h : xH} {K : Option Value → xH → Prop} : wp d 155 0 [some .null] st h K ↔ wp d 155 1 [some .null] (.null :: st) h K := w_any (i := 155) (pc := 0) dJxa1e45_init_da8c8_0 rfl rfl
theorem dJxa1e45_init_da8c8_1 : decode cJxa1e45_init_da8c8 1 = .ok (.invokespecial 1, 3) := by decide +kernel
theorem w155_1 {d : Nat} {st : List Value} {h : xH} {K : Option Value → xH → Prop} {ls : xL} {a : Nat} : wp d 155 1 ls (.ref a :: st) h K ↔ xcs st ≤ 8 ∧ wp d 155 4 ls st h K := w_objI (i := 155) (pc := 1) dJxa1e45_init_da8c8_1 rfl
theorem dJxa1e45_init_da8c8_4 : decode cJxa1e45_init_da8c8 4 = .ok (.return_, 1) := by decide +kernel
theorem w155_4 {d : Nat} {h : xH} {K : Option Value → xH → Prop} {ls : xL} : wp d 155 4 ls [] h K ↔ K none h := w_vret (i := 155) (pc := 4) dJxa1e45_init_da8c8_4 rfl
theorem dJxc12de_init_da8c8_0 : decode cJxc12de_init_da8c8 0 = .ok (.aload_n 0, 1) := by decide +kernel
theorem w156_0 {d : Nat} {st : List Value} {h : xH} {K : Option Value → xH → Prop} {x : Nat} : wp d 156 0 [some (.ref x)] st h K ↔ wp d 156 1 [some (.ref x)] (.ref x :: st) h K := w_any (i := 156) (pc := 0) dJxc12de_init_da8c8_0 rfl rfl
theorem w156_0n {d : Nat} {st : List Value} {h : xH} {K : Option Value → xH → Prop} : wp d 156 0 [some .null] st h K ↔ wp d 156 1 [some .null] (.null :: st) h K := w_any (i := 156) (pc := 0) dJxc12de_init_da8c8_0 rfl rfl
theorem dJxc12de_init_da8c8_1 : decode cJxc12de_init_da8c8 1 = .ok (.invokespecial 1, 3) := by decide +kernel
theorem w156_1 {d : Nat} {st : List Value} {h : xH} {K : Option Value → xH → Prop} {ls : xL} {b : Nat} : wp (d + 1) 156 1 ls (.ref b :: st) h K ↔ xcs st ≤ 8 ∧ wp d 155 0 [some (.ref b)] [] h (fun v h1 => wp (d + 1) 156 4 ls (v.toList ++ st) h1 K) := w_callI (i := 156) (pc := 1) (as := []) (rest := st) (by decide) dJxc12de_init_da8c8_1 rfl (by decide) rfl rfl rfl rfl rfl
theorem dJxc12de_init_da8c8_4 : decode cJxc12de_init_da8c8 4 = .ok (.aload_n 0, 1) := by decide +kernel
theorem w156_4 {d : Nat} {st : List Value} {h : xH} {K : Option Value → xH → Prop} {x : Nat} : wp d 156 4 [some (.ref x)] st h K ↔ wp d 156 5 [some (.ref x)] (.ref x :: st) h K := w_any (i := 156) (pc := 4) dJxc12de_init_da8c8_4 rfl rfl
theorem w156_4n {d : Nat} {st : List Value} {h : xH} {K : Option Value → xH → Prop} : wp d 156 4 [some .null] st h K ↔ wp d 156 5 [some .null] (.null :: st) h K := w_any (i := 156) (pc := 4) dJxc12de_init_da8c8_4 rfl rfl
theorem dJxc12de_init_da8c8_5 : decode cJxc12de_init_da8c8 5 = .ok (.iconst 0, 1) := by decide +kernel
theorem w156_5 {d : Nat} {st : List Value} {h : xH} {K : Option Value → xH → Prop} {ls : xL} : wp d 156 5 ls st h K ↔ wp d 156 6 ls (.int 0 :: st) h K := w_iconst (i := 156) (pc := 5) dJxc12de_init_da8c8_5 (by decide)
theorem dJxc12de_init_da8c8_6 : decode cJxc12de_init_da8c8 6 = .ok (.putfield 7, 3) := by decide +kernel
theorem w156_6 {d : Nat} {st : List Value} {h : xH} {K : Option Value → xH → Prop} {ls : xL} {x : Int32} {a : Nat} : wp d 156 6 ls (.int x :: .ref a :: st) h K ↔ y_put h a 0 0 (.int x) (fun h1 => wp d 156 9 ls st h1 K) := w_put (i := 156) (pc := 6) dJxc12de_init_da8c8_6 rfl trivial (Or.inl rfl)
theorem dJxc12de_init_da8c8_9 : decode cJxc12de_init_da8c8 9 = .ok (.return_, 1) := by decide +kernel
theorem w156_9 {d : Nat} {h : xH} {K : Option Value → xH → Prop} {ls : xL} : wp d 156 9 ls [] h K ↔ K none h := w_vret (i := 156) (pc := 9) dJxc12de_init_da8c8_9 rfl
theorem dJx4a65c_init_da8c8_0 : decode cJx4a65c_init_da8c8 0 = .ok (.aload_n 0, 1) := by decide +kernel
theorem w157_0 {d : Nat} {st : List Value} {h : xH} {K : Option Value → xH → Prop} {x : Nat} : wp d 157 0 [some (.ref x)] st h K ↔ wp d 157 1 [some (.ref x)] (.ref x :: st) h K := w_any (i := 157) (pc := 0) dJx4a65c_init_da8c8_0 rfl rfl
theorem w157_0n {d : Nat} {st : List Value} {h : xH} {K : Option Value → xH → Prop} : wp d 157 0 [some .null] st h K ↔ wp d 157 1 [some .null] (.null :: st) h K := w_any (i := 157) (pc := 0) dJx4a65c_init_da8c8_0 rfl rfl
theorem dJx4a65c_init_da8c8_1 : decode cJx4a65c_init_da8c8 1 = .ok (.invokespecial 1, 3) := by decide +kernel
theorem w157_1 {d : Nat} {st : List Value} {h : xH} {K : Option Value → xH → Prop} {ls : xL} {b : Nat} : wp (d + 1) 157 1 ls (.ref b :: st) h K ↔ xcs st ≤ 8 ∧ wp d 156 0 [some (.ref b)] [] h (fun v h1 => wp (d + 1) 157 4 ls (v.toList ++ st) h1 K) := w_callI (i := 157) (pc := 1) (as := []) (rest := st) (by decide) dJx4a65c_init_da8c8_1 rfl (by decide) rfl rfl rfl rfl rfl
theorem dJx4a65c_init_da8c8_4 : decode cJx4a65c_init_da8c8 4 = .ok (.aload_n 0, 1) := by decide +kernel
theorem w157_4 {d : Nat} {st : List Value} {h : xH} {K : Option Value → xH → Prop} {x : Nat} : wp d 157 4 [some (.ref x)] st h K ↔ wp d 157 5 [some (.ref x)] (.ref x :: st) h K := w_any (i := 157) (pc := 4) dJx4a65c_init_da8c8_4 rfl rfl
theorem w157_4n {d : Nat} {st : List Value} {h : xH} {K : Option Value → xH → Prop} : wp d 157 4 [some .null] st h K ↔ wp d 157 5 [some .null] (.null :: st) h K := w_any (i := 157) (pc := 4) dJx4a65c_init_da8c8_4 rfl rfl
theorem dJx4a65c_init_da8c8_5 : decode cJx4a65c_init_da8c8 5 = .ok (.getstatic 39, 3) := by decide +kernel
theorem w157_5 {d : Nat} {st : List Value} {h : xH} {K : Option Value → xH → Prop} {ls : xL} : wp d 157 5 ls st h K ↔ wp d 157 8 ls (.ref 1 :: st) h K := w_gets (i := 157) (pc := 5) dJx4a65c_init_da8c8_5 rfl
theorem dJx4a65c_init_da8c8_8 : decode cJx4a65c_init_da8c8 8 = .ok (.putfield 9, 3) := by decide +kernel
theorem w157_8 {d : Nat} {st : List Value} {h : xH} {K : Option Value → xH → Prop} {ls : xL} {x : Nat} {a : Nat} : wp d 157 8 ls (.ref x :: .ref a :: st) h K ↔ y_put h a 0 1 (.ref x) (fun h1 => wp d 157 11 ls st h1 K) := w_put (i := 157) (pc := 8) dJx4a65c_init_da8c8_8 rfl trivial (Or.inl rfl)
theorem dJx4a65c_init_da8c8_11 : decode cJx4a65c_init_da8c8 11 = .ok (.return_, 1) := by decide +kernel
theorem w157_11 {d : Nat} {h : xH} {K : Option Value → xH → Prop} {ls : xL} : wp d 157 11 ls [] h K ↔ K none h := w_vret (i := 157) (pc := 11) dJx4a65c_init_da8c8_11 rfl
theorem dJx4a65c_grow_92f84_0 : decode cJx4a65c_grow_92f84 0 = .ok (.aload_n 0, 1) := by decide +kernel
theorem w158_0 {d : Nat} {st : List Value} {h : xH} {K : Option Value → xH → Prop} {l1 l2 l3 : Option Value} {x : Nat} : wp d 158 0 [some (.ref x), l1, l2, l3] st h K ↔ wp d 158 1 [some (.ref x), l1, l2, l3] (.ref x :: st) h K := w_any (i := 158) (pc := 0) dJx4a65c_grow_92f84_0 rfl rfl
theorem w158_0n {d : Nat} {st : List Value} {h : xH} {K : Option Value → xH → Prop} {l1 l2 l3 : Option Value} : wp d 158 0 [some .null, l1, l2, l3] st h K ↔ wp d 158 1 [some .null, l1, l2, l3] (.null :: st) h K := w_any (i := 158) (pc := 0) dJx4a65c_grow_92f84_0 rfl rfl
theorem dJx4a65c_grow_92f84_1 : decode cJx4a65c_grow_92f84 1 = .ok (.getfield 9, 3) := by decide +kernel
theorem w158_1 {d : Nat} {st : List Value} {h : xH} {K : Option Value → xH → Prop} {ls : xL} {a : Nat} : wp d 158 1 ls (.ref a :: st) h K ↔ y_get h a 0 1 (fun v => wp d 158 4 ls (v :: st) h K) := w_get (i := 158) (pc := 1) dJx4a65c_grow_92f84_1 rfl
theorem dJx4a65c_grow_92f84_4 : decode cJx4a65c_grow_92f84 4 = .ok (.arraylength, 1) := by decide +kernel
theorem w158_4 {d : Nat} {st : List Value} {h : xH} {K : Option Value → xH → Prop} {ls : xL} {a : Nat} : wp d 158 4 ls (.ref a :: st) h K ↔ y_alen h a (fun v => wp d 158 5 ls (.int v :: st) h K) := w_alen (i := 158) (pc := 4) dJx4a65c_grow_92f84_4
theorem dJx4a65c_grow_92f84_5 : decode cJx4a65c_grow_92f84 5 = .ok (.istore_n 2, 1) := by decide +kernel
theorem w158_5 {d : Nat} {st : List Value} {h : xH} {K : Option Value → xH → Prop} {l0 l1 l2 l3 : Option Value} {x : Int32} : wp d 158 5 [l0, l1, l2, l3] (.int x :: st) h K ↔ wp d 158 6 [l0, xk l1, some (.int x), l3] st h K := w_istore_n (i := 158) (pc := 5) dJx4a65c_grow_92f84_5 (Nat.le_of_ble_eq_true rfl) (show xst1 [l0, l1, l2, l3] 2 (.int x) = [l0, xk l1, some (.int x), l3] by simp only [xst1_0, xst1_1, xst1_s, Nat.reduceAdd])
theorem dJx4a65c_grow_92f84_6 : decode cJx4a65c_grow_92f84 6 = .ok (.iload_n 2, 1) := by decide +kernel
theorem w158_6 {d : Nat} {st : List Value} {h : xH} {K : Option Value → xH → Prop} {l0 l1 l3 : Option Value} {x : Int32} : wp d 158 6 [l0, l1, some (.int x), l3] st h K ↔ wp d 158 7 [l0, l1, some (.int x), l3] (.int x :: st) h K := w_any (i := 158) (pc := 6) dJx4a65c_grow_92f84_6 rfl rfl
theorem dJx4a65c_grow_92f84_7 : decode cJx4a65c_grow_92f84 7 = .ok (.ifCond .gt 13, 3) := by decide +kernel
theorem w158_7 {d : Nat} {st : List Value} {h : xH} {K : Option Value → xH → Prop} {ls : xL} {x : Int32} : wp d 158 7 ls (.int x :: st) h K ↔ ((0 < x) → wp d 158 20 ls st h K) ∧ ((¬ (0 < x)) → wp d 158 10 ls st h K) := w_if1 (i := 158) (pc := 7) (cd := .gt) (off := 13) (tgt := 20) dJx4a65c_grow_92f84_7 (by decide) rfl
theorem dJx4a65c_grow_92f84_10 : decode cJx4a65c_grow_92f84 10 = .ok (.aload_n 0, 1) := by decide +kernel
theorem w158_10 {d : Nat} {st : List Value} {h : xH} {K : Option Value → xH → Prop} {l1 l2 l3 : Option Value} {x : Nat} : wp d 158 10 [some (.ref x), l1, l2, l3] st h K ↔ wp d 158 11 [some (.ref x), l1, l2, l3] (.ref x :: st) h K := w_any (i := 158) (pc := 10) dJx4a65c_grow_92f84_10 rfl rfl
theorem w158_10n {d : Nat} {st : List Value} {h : xH} {K : Option Value → xH → Prop} {l1 l2 l3 : Option Value} : wp d 158 10 [some .null, l1, l2, l3] st h K ↔ wp d 158 11 [some .null, l1, l2, l3] (.null :: st) h K := w_any (i := 158) (pc := 10) dJx4a65c_grow_92f84_10 rfl rfl
theorem dJx4a65c_grow_92f84_11 : decode cJx4a65c_grow_92f84 11 = .ok (.getfield 9, 3) := by decide +kernel
theorem w158_11 {d : Nat} {st : List Value} {h : xH} {K : Option Value → xH → Prop} {ls : xL} {a : Nat} : wp d 158 11 ls (.ref a :: st) h K ↔ y_get h a 0 1 (fun v => wp d 158 14 ls (v :: st) h K) := w_get (i := 158) (pc := 11) dJx4a65c_grow_92f84_11 rfl
theorem dJx4a65c_grow_92f84_14 : decode cJx4a65c_grow_92f84 14 = .ok (.getstatic 39, 3) := by decide +kernel
theorem w158_14 {d : Nat} {st : List Value} {h : xH} {K : Option Value → xH → Prop} {ls : xL} : wp d 158 14 ls st h K ↔ wp d 158 17 ls (.ref 1 :: st) h K := w_gets (i := 158) (pc := 14) dJx4a65c_grow_92f84_14 rfl
theorem dJx4a65c_grow_92f84_17 : decode cJx4a65c_grow_92f84 17 = .ok (.if_acmp .eq 28, 3) := by decide +kernel
theorem w158_17 {d : Nat} {st : List Value} {h : xH} {K : Option Value → xH → Prop} {ls : xL} {x y : Nat} : wp d 158 17 ls (.ref y :: .ref x :: st) h K ↔ x < h.length ∧ y < h.length ∧ (x = y → wp d 158 45 ls st h K) ∧ (¬ x = y → wp d 158 20 ls st h K) := w_acmp (i := 158) (pc := 17) dJx4a65c_grow_92f84_17 (by decide) rfl
theorem dJx4a65c_grow_92f84_20 : decode cJx4a65c_grow_92f84 20 = .ok (.iload_n 2, 1) := by decide +kernel
theorem w158_20 {d : Nat} {st : List Value} {h : xH} {K : Option Value → xH → Prop} {l0 l1 l3 : Option Value} {x : Int32} : wp d 158 20 [l0, l1, some (.int x), l3] st h K ↔ wp d 158 21 [l0, l1, some (.int x), l3] (.int x :: st) h K := w_any (i := 158) (pc := 20) dJx4a65c_grow_92f84_20 rfl rfl
theorem dJx4a65c_grow_92f84_21 : decode cJx4a65c_grow_92f84 21 = .ok (.iload_n 1, 1) := by decide +kernel
theorem w158_21 {d : Nat} {st : List Value} {h : xH} {K : Option Value → xH → Prop} {l0 l2 l3 : Option Value} {x : Int32} : wp d 158 21 [l0, some (.int x), l2, l3] st h K ↔ wp d 158 22 [l0, some (.int x), l2, l3] (.int x :: st) h K := w_any (i := 158) (pc := 21) dJx4a65c_grow_92f84_21 rfl rfl
theorem dJx4a65c_grow_92f84_22 : decode cJx4a65c_grow_92f84 22 = .ok (.iload_n 2, 1) := by decide +kernel
theorem w158_22 {d : Nat} {st : List Value} {h : xH} {K : Option Value → xH → Prop} {l0 l1 l3 : Option Value} {x : Int32} : wp d 158 22 [l0, l1, some (.int x), l3] st h K ↔ wp d 158 23 [l0, l1, some (.int x), l3] (.int x :: st) h K := w_any (i := 158) (pc := 22) dJx4a65c_grow_92f84_22 rfl rfl
theorem dJx4a65c_grow_92f84_23 : decode cJx4a65c_grow_92f84 23 = .ok (.isub, 1) := by decide +kernel
theorem w158_23 {d : Nat} {st : List Value} {h : xH} {K : Option Value → xH → Prop} {ls : xL} {x y : Int32} : wp d 158 23 ls (.int y :: .int x :: st) h K ↔ wp d 158 24 ls (.int (x - y) :: st) h K := w_any (i := 158) (pc := 23) dJx4a65c_grow_92f84_23 rfl rfl
theorem dJx4a65c_grow_92f84_24 : decode cJx4a65c_grow_92f84 24 = .ok (.iload_n 2, 1) := by decide +kernel
theorem w158_24 {d : Nat} {st : List Value} {h : xH} {K : Option Value → xH → Prop} {l0 l1 l3 : Option Value} {x : Int32} : wp d 158 24 [l0, l1, some (.int x), l3] st h K ↔ wp d 158 25 [l0, l1, some (.int x), l3] (.int x :: st) h K := w_any (i := 158) (pc := 24) dJx4a65c_grow_92f84_24 rfl rfl
theorem dJx4a65c_grow_92f84_25 : decode cJx4a65c_grow_92f84 25 = .ok (.iconst 1, 1) := by decide +kernel
theorem w158_25 {d : Nat} {st : List Value} {h : xH} {K : Option Value → xH → Prop} {ls : xL} : wp d 158 25 ls st h K ↔ wp d 158 26 ls (.int 1 :: st) h K := w_iconst (i := 158) (pc := 25) dJx4a65c_grow_92f84_25 (by decide)
theorem dJx4a65c_grow_92f84_26 : decode cJx4a65c_grow_92f84 26 = .ok (.ishr, 1) := by decide +kernel
theorem w158_26 {d : Nat} {st : List Value} {h : xH} {K : Option Value → xH → Prop} {ls : xL} {x y : Int32} : wp d 158 26 ls (.int y :: .int x :: st) h K ↔ wp d 158 27 ls (.int (x >>> (y &&& 31)) :: st) h K := w_any (i := 158) (pc := 26) dJx4a65c_grow_92f84_26 rfl rfl
theorem dJx4a65c_grow_92f84_27 : decode cJx4a65c_grow_92f84 27 = .ok (.invokestatic 73, 3) := by decide +kernel
theorem w158_27 {d : Nat} {st : List Value} {h : xH} {K : Option Value → xH → Prop} {ls : xL} {a0 : Int32} {a1 : Int32} {a2 : Int32} : wp (d + 1) 158 27 ls (.int a2 :: .int a1 :: .int a0 :: st) h K ↔ xcs st ≤ 8 ∧ wp d 172 0 [some (.int a0), some (.int a1), some (.int a2), none] [] h (fun v h1 => wp (d + 1) 158 30 ls (v.toList ++ st) h1 K) := w_callS (i := 158) (pc := 27) (as := [.int a0, .int a1, .int a2]) (rest := st) dJx4a65c_grow_92f84_27 rfl (by decide) rfl rfl rfl rfl rfl
theorem dJx4a65c_grow_92f84_30 : decode cJx4a65c_grow_92f84 30 = .ok (.istore_n 3, 1) := by decide +kernel
theorem w158_30 {d : Nat} {st : List Value} {h : xH} {K : Option Value → xH → Prop} {l0 l1 l2 l3 : Option Value} {x : Int32} : wp d 158 30 [l0, l1, l2, l3] (.int x :: st) h K ↔ wp d 158 31 [l0, l1, xk l2, some (.int x)] st h K := w_istore_n (i := 158) (pc := 30) dJx4a65c_grow_92f84_30 (Nat.le_of_ble_eq_true rfl) (show xst1 [l0, l1, l2, l3] 3 (.int x) = [l0, l1, xk l2, some (.int x)] by simp only [xst1_0, xst1_1, xst1_s, Nat.reduceAdd])
theorem dJx4a65c_grow_92f84_31 : decode cJx4a65c_grow_92f84 31 = .ok (.aload_n 0, 1) := by decide +kernel
theorem w158_31 {d : Nat} {st : List Value} {h : xH} {K : Option Value → xH → Prop} {l1 l2 l3 : Option Value} {x : Nat} : wp d 158 31 [some (.ref x), l1, l2, l3] st h K ↔ wp d 158 32 [some (.ref x), l1, l2, l3] (.ref x :: st) h K := w_any (i := 158) (pc := 31) dJx4a65c_grow_92f84_31 rfl rfl
theorem w158_31n {d : Nat} {st : List Value} {h : xH} {K : Option Value → xH → Prop} {l1 l2 l3 : Option Value} : wp d 158 31 [some .null, l1, l2, l3] st h K ↔ wp d 158 32 [some .null, l1, l2, l3] (.null :: st) h K := w_any (i := 158) (pc := 31) dJx4a65c_grow_92f84_31 rfl rfl
theorem dJx4a65c_grow_92f84_32 : decode cJx4a65c_grow_92f84 32 = .ok (.aload_n 0, 1) := by decide +kernel
theorem w158_32 {d : Nat} {st : List Value} {h : xH} {K : Option Value → xH → Prop} {l1 l2 l3 : Option Value} {x : Nat} : wp d 158 32 [some (.ref x), l1, l2, l3] st h K ↔ wp d 158 33 [some (.ref x), l1, l2, l3] (.ref x :: st) h K := w_any (i := 158) (pc := 32) dJx4a65c_grow_92f84_32 rfl rfl
theorem w158_32n {d : Nat} {st : List Value} {h : xH} {K : Option Value → xH → Prop} {l1 l2 l3 : Option Value} : wp d 158 32 [some .null, l1, l2, l3] st h K ↔ wp d 158 33 [some .null, l1, l2, l3] (.null :: st) h K := w_any (i := 158) (pc := 32) dJx4a65c_grow_92f84_32 rfl rfl
theorem dJx4a65c_grow_92f84_33 : decode cJx4a65c_grow_92f84 33 = .ok (.getfield 9, 3) := by decide +kernel
theorem w158_33 {d : Nat} {st : List Value} {h : xH} {K : Option Value → xH → Prop} {ls : xL} {a : Nat} : wp d 158 33 ls (.ref a :: st) h K ↔ y_get h a 0 1 (fun v => wp d 158 36 ls (v :: st) h K) := w_get (i := 158) (pc := 33) dJx4a65c_grow_92f84_33 rfl
theorem dJx4a65c_grow_92f84_36 : decode cJx4a65c_grow_92f84 36 = .ok (.iload_n 3, 1) := by decide +kernel
theorem w158_36 {d : Nat} {st : List Value} {h : xH} {K : Option Value → xH → Prop} {l0 l1 l2 : Option Value} {x : Int32} : wp d 158 36 [l0, l1, l2, some (.int x)] st h K ↔ wp d 158 37 [l0, l1, l2, some (.int x)] (.int x :: st) h K := w_any (i := 158) (pc := 36) dJx4a65c_grow_92f84_36 rfl rfl
theorem dJx4a65c_grow_92f84_37 : decode cJx4a65c_grow_92f84 37 = .ok (.invokestatic 66, 3) := by decide +kernel
theorem w158_37 {d : Nat} {st : List Value} {h : xH} {K : Option Value → xH → Prop} {ls : xL} {a0 : Nat} {a1 : Int32} : wp (d + 1) 158 37 ls (.int a1 :: .ref a0 :: st) h K ↔ xcs st ≤ 8 ∧ wp d 169 0 [some (.ref a0), some (.int a1)] [] h (fun v h1 => wp (d + 1) 158 40 ls (v.toList ++ st) h1 K) := w_callS (i := 158) (pc := 37) (as := [.ref a0, .int a1]) (rest := st) dJx4a65c_grow_92f84_37 rfl (by decide) rfl rfl rfl rfl rfl
theorem dJx4a65c_grow_92f84_40 : decode cJx4a65c_grow_92f84 40 = .ok (.dup_x1, 1) := by decide +kernel
theorem w158_40 {d : Nat} {st : List Value} {h : xH} {K : Option Value → xH → Prop} {ls : xL} {x : Int32} {y : Nat} : wp d 158 40 ls (.int x :: .ref y :: st) h K ↔ wp d 158 41 ls (.int x :: .ref y :: .int x :: st) h K := (w_any (i := 158) (pc := 40) dJx4a65c_grow_92f84_40 rfl rfl).trans ((w_ct rfl).trans (w_ct rfl))
theorem w158_40r {d : Nat} {st : List Value} {h : xH} {K : Option Value → xH → Prop} {ls : xL} {x : Nat} {y : Nat} : wp d 158 40 ls (.ref x :: .ref y :: st) h K ↔ wp d 158 41 ls (.ref x :: .ref y :: .ref x :: st) h K := (w_any (i := 158) (pc := 40) dJx4a65c_grow_92f84_40 rfl rfl).trans ((w_ct rfl).trans (w_ct rfl))
theorem dJx4a65c_grow_92f84_41 : decode cJx4a65c_grow_92f84 41 = .ok (.putfield 9, 3) := by decide +kernel
theorem w158_41 {d : Nat} {st : List Value} {h : xH} {K : Option Value → xH → Prop} {ls : xL} {x : Nat} {a : Nat} : wp d 158 41 ls (.ref x :: .ref a :: st) h K ↔ y_put h a 0 1 (.ref x) (fun h1 => wp d 158 44 ls st h1 K) := w_put (i := 158) (pc := 41) dJx4a65c_grow_92f84_41 rfl trivial (Or.inl rfl)
theorem dJx4a65c_grow_92f84_44 : decode cJx4a65c_grow_92f84 44 = .ok (.areturn, 1) := by decide +kernel
theorem w158_44 {d : Nat} {h : xH} {K : Option Value → xH → Prop} {ls : xL} {x : Nat} : wp d 158 44 ls [.ref x] h K ↔ K (some (.ref x)) h := w_aret (i := 158) (pc := 44) dJx4a65c_grow_92f84_44 rfl rfl
theorem w158_44n {d : Nat} {h : xH} {K : Option Value → xH → Prop} {ls : xL} : wp d 158 44 ls [.null] h K ↔ K (some .null) h := w_aretN (i := 158) (pc := 44) dJx4a65c_grow_92f84_44 rfl rfl
theorem dJx4a65c_grow_92f84_45 : decode cJx4a65c_grow_92f84 45 = .ok (.aload_n 0, 1) := by decide +kernel
theorem w158_45 {d : Nat} {st : List Value} {h : xH} {K : Option Value → xH → Prop} {l1 l2 l3 : Option Value} {x : Nat} : wp d 158 45 [some (.ref x), l1, l2, l3] st h K ↔ wp d 158 46 [some (.ref x), l1, l2, l3] (.ref x :: st) h K := w_any (i := 158) (pc := 45) dJx4a65c_grow_92f84_45 rfl rfl
theorem w158_45n {d : Nat} {st : List Value} {h : xH} {K : Option Value → xH → Prop} {l1 l2 l3 : Option Value} : wp d 158 45 [some .null, l1, l2, l3] st h K ↔ wp d 158 46 [some .null, l1, l2, l3] (.null :: st) h K := w_any (i := 158) (pc := 45) dJx4a65c_grow_92f84_45 rfl rfl
theorem dJx4a65c_grow_92f84_46 : decode cJx4a65c_grow_92f84 46 = .ok (.bipush 10, 2) := by decide +kernel
theorem w158_46 {d : Nat} {st : List Value} {h : xH} {K : Option Value → xH → Prop} {ls : xL} : wp d 158 46 ls st h K ↔ wp d 158 48 ls (.int 10 :: st) h K := w_bipush (i := 158) (pc := 46) dJx4a65c_grow_92f84_46 (by decide)
theorem dJx4a65c_grow_92f84_48 : decode cJx4a65c_grow_92f84 48 = .ok (.iload_n 1, 1) := by decide +kernel
theorem w158_48 {d : Nat} {st : List Value} {h : xH} {K : Option Value → xH → Prop} {l0 l2 l3 : Option Value} {x : Int32} : wp d 158 48 [l0, some (.int x), l2, l3] st h K ↔ wp d 158 49 [l0, some (.int x), l2, l3] (.int x :: st) h K := w_any (i := 158) (pc := 48) dJx4a65c_grow_92f84_48 rfl rfl
theorem dJx4a65c_grow_92f84_49 : decode cJx4a65c_grow_92f84 49 = .ok (.invokestatic 79, 3) := by decide +kernel
theorem w158_49 {d : Nat} {st : List Value} {h : xH} {K : Option Value → xH → Prop} {ls : xL} {x y : Int32} : wp d 158 49 ls (.int y :: .int x :: st) h K ↔ xcs st ≤ 8 ∧ wp d 158 52 ls (.int (if x < y then y else x) :: st) h K := w_max (i := 158) (pc := 49) dJx4a65c_grow_92f84_49 rfl
theorem dJx4a65c_grow_92f84_52 : decode cJx4a65c_grow_92f84 52 = .ok (.anewarray 7, 3) := by decide +kernel
theorem w158_52 {d : Nat} {st : List Value} {h : xH} {K : Option Value → xH → Prop} {ls : xL} {n : Int32} : wp d 158 52 ls (.int n :: st) h K ↔ ¬ n < 0 ∧ n.toNatClampNeg ≤ 1000 ∧ wp d 158 55 ls (.ref h.length :: st) (h ++ [.inl (2, n.toNatClampNeg, .inr (.inr (.inr (.inr (fun _ => none)))))]) K := w_newq2 (i := 158) (pc := 52) dJx4a65c_grow_92f84_52 rfl
theorem dJx4a65c_grow_92f84_55 : decode cJx4a65c_grow_92f84 55 = .ok (.dup_x1, 1) := by decide +kernel
theorem w158_55 {d : Nat} {st : List Value} {h : xH} {K : Option Value → xH → Prop} {ls : xL} {x : Int32} {y : Nat} : wp d 158 55 ls (.int x :: .ref y :: st) h K ↔ wp d 158 56 ls (.int x :: .ref y :: .int x :: st) h K := (w_any (i := 158) (pc := 55) dJx4a65c_grow_92f84_55 rfl rfl).trans ((w_ct rfl).trans (w_ct rfl))
theorem w158_55r {d : Nat} {st : List Value} {h : xH} {K : Option Value → xH → Prop} {ls : xL} {x : Nat} {y : Nat} : wp d 158 55 ls (.ref x :: .ref y :: st) h K ↔ wp d 158 56 ls (.ref x :: .ref y :: .ref x :: st) h K := (w_any (i := 158) (pc := 55) dJx4a65c_grow_92f84_55 rfl rfl).trans ((w_ct rfl).trans (w_ct rfl))
theorem dJx4a65c_grow_92f84_56 : decode cJx4a65c_grow_92f84 56 = .ok (.putfield 9, 3) := by decide +kernel
theorem w158_56 {d : Nat} {st : List Value} {h : xH} {K : Option Value → xH → Prop} {ls : xL} {x : Nat} {a : Nat} : wp d 158 56 ls (.ref x :: .ref a :: st) h K ↔ y_put h a 0 1 (.ref x) (fun h1 => wp d 158 59 ls st h1 K) := w_put (i := 158) (pc := 56) dJx4a65c_grow_92f84_56 rfl trivial (Or.inl rfl)
theorem dJx4a65c_grow_92f84_59 : decode cJx4a65c_grow_92f84 59 = .ok (.areturn, 1) := by decide +kernel
theorem w158_59 {d : Nat} {h : xH} {K : Option Value → xH → Prop} {ls : xL} {x : Nat} : wp d 158 59 ls [.ref x] h K ↔ K (some (.ref x)) h := w_aret (i := 158) (pc := 59) dJx4a65c_grow_92f84_59 rfl rfl
theorem w158_59n {d : Nat} {h : xH} {K : Option Value → xH → Prop} {ls : xL} : wp d 158 59 ls [.null] h K ↔ K (some .null) h := w_aretN (i := 158) (pc := 59) dJx4a65c_grow_92f84_59 rfl rfl
theorem dJx4a65c_grow_d5877_0 : decode cJx4a65c_grow_d5877 0 = .ok (.aload_n 0, 1) := by decide +kernel
theorem w159_0 {d : Nat} {st : List Value} {h : xH} {K : Option Value → xH → Prop} {x : Nat} : wp d 159 0 [some (.ref x)] st h K ↔ wp d 159 1 [some (.ref x)] (.ref x :: st) h K := w_any (i := 159) (pc := 0) dJx4a65c_grow_d5877_0 rfl rfl
theorem w159_0n {d : Nat} {st : List Value} {h : xH} {K : Option Value → xH → Prop} : wp d 159 0 [some .null] st h K ↔ wp d 159 1 [some .null] (.null :: st) h K := w_any (i := 159) (pc := 0) dJx4a65c_grow_d5877_0 rfl rfl
theorem dJx4a65c_grow_d5877_1 : decode cJx4a65c_grow_d5877 1 = .ok (.aload_n 0, 1) := by decide +kernel
theorem w159_1 {d : Nat} {st : List Value} {h : xH} {K : Option Value → xH → Prop} {x : Nat} : wp d 159 1 [some (.ref x)] st h K ↔ wp d 159 2 [some (.ref x)] (.ref x :: st) h K := w_any (i := 159) (pc := 1) dJx4a65c_grow_d5877_1 rfl rfl
theorem w159_1n {d : Nat} {st : List Value} {h : xH} {K : Option Value → xH → Prop} : wp d 159 1 [some .null] st h K ↔ wp d 159 2 [some .null] (.null :: st) h K := w_any (i := 159) (pc := 1) dJx4a65c_grow_d5877_1 rfl rfl
theorem dJx4a65c_grow_d5877_2 : decode cJx4a65c_grow_d5877 2 = .ok (.getfield 48, 3) := by decide +kernel
theorem w159_2 {d : Nat} {st : List Value} {h : xH} {K : Option Value → xH → Prop} {ls : xL} {a : Nat} : wp d 159 2 ls (.ref a :: st) h K ↔ y_get h a 0 2 (fun v => wp d 159 5 ls (v :: st) h K) := w_get (i := 159) (pc := 2) dJx4a65c_grow_d5877_2 rfl
theorem dJx4a65c_grow_d5877_5 : decode cJx4a65c_grow_d5877 5 = .ok (.iconst 1, 1) := by decide +kernel
theorem w159_5 {d : Nat} {st : List Value} {h : xH} {K : Option Value → xH → Prop} {ls : xL} : wp d 159 5 ls st h K ↔ wp d 159 6 ls (.int 1 :: st) h K := w_iconst (i := 159) (pc := 5) dJx4a65c_grow_d5877_5 (by decide)
theorem dJx4a65c_grow_d5877_6 : decode cJx4a65c_grow_d5877 6 = .ok (.iadd, 1) := by decide +kernel
theorem w159_6 {d : Nat} {st : List Value} {h : xH} {K : Option Value → xH → Prop} {ls : xL} {x y : Int32} : wp d 159 6 ls (.int y :: .int x :: st) h K ↔ wp d 159 7 ls (.int (x + y) :: st) h K := w_any (i := 159) (pc := 6) dJx4a65c_grow_d5877_6 rfl rfl
theorem dJx4a65c_grow_d5877_7 : decode cJx4a65c_grow_d5877 7 = .ok (.invokevirtual 69, 3) := by decide +kernel
theorem w159_7 {d : Nat} {st : List Value} {h : xH} {K : Option Value → xH → Prop} {ls : xL} {a0 : Int32} {b : Nat} : wp (d + 1) 159 7 ls (.int a0 :: .ref b :: st) h K ↔ y_cls h b 0 ∧ xcs st ≤ 8 ∧ wp d 158 0 [some (.ref b), some (.int a0), none, none] [] h (fun v h1 => wp (d + 1) 159 10 ls (v.toList ++ st) h1 K) := w_callW (i := 159) (pc := 7) (as := [.int a0]) (rest := st) dJx4a65c_grow_d5877_7 rfl (by decide) rfl rfl (by decide) rfl rfl rfl rfl
theorem dJx4a65c_grow_d5877_10 : decode cJx4a65c_grow_d5877 10 = .ok (.areturn, 1) := by decide +kernel
theorem w159_10 {d : Nat} {h : xH} {K : Option Value → xH → Prop} {ls : xL} {x : Nat} : wp d 159 10 ls [.ref x] h K ↔ K (some (.ref x)) h := w_aret (i := 159) (pc := 10) dJx4a65c_grow_d5877_10 rfl rfl
theorem w159_10n {d : Nat} {h : xH} {K : Option Value → xH → Prop} {ls : xL} : wp d 159 10 ls [.null] h K ↔ K (some .null) h := w_aretN (i := 159) (pc := 10) dJx4a65c_grow_d5877_10 rfl rfl
theorem dJx4a65c_size_8abf5_0 : decode cJx4a65c_size_8abf5 0 = .ok (.aload_n 0, 1) := by decide +kernel
theorem w160_0 {d : Nat} {st : List Value} {h : xH} {K : Option Value → xH → Prop} {x : Nat} : wp d 160 0 [some (.ref x)] st h K ↔ wp d 160 1 [some (.ref x)] (.ref x :: st) h K := w_any (i := 160) (pc := 0) dJx4a65c_size_8abf5_0 rfl rfl
theorem w160_0n {d : Nat} {st : List Value} {h : xH} {K : Option Value → xH → Prop} : wp d 160 0 [some .null] st h K ↔ wp d 160 1 [some .null] (.null :: st) h K := w_any (i := 160) (pc := 0) dJx4a65c_size_8abf5_0 rfl rfl
theorem dJx4a65c_size_8abf5_1 : decode cJx4a65c_size_8abf5 1 = .ok (.getfield 48, 3) := by decide +kernel
theorem w160_1 {d : Nat} {st : List Value} {h : xH} {K : Option Value → xH → Prop} {ls : xL} {a : Nat} : wp d 160 1 ls (.ref a :: st) h K ↔ y_get h a 0 2 (fun v => wp d 160 4 ls (v :: st) h K) := w_get (i := 160) (pc := 1) dJx4a65c_size_8abf5_1 rfl
theorem dJx4a65c_size_8abf5_4 : decode cJx4a65c_size_8abf5 4 = .ok (.ireturn, 1) := by decide +kernel
theorem w160_4 {d : Nat} {h : xH} {K : Option Value → xH → Prop} {ls : xL} {x : Int32} : wp d 160 4 ls [.int x] h K ↔ K (some (.int x)) h := w_iret (i := 160) (pc := 4) dJx4a65c_size_8abf5_4 rfl
theorem dJx4a65c_elementData_915e3_0 : decode cJx4a65c_elementData_915e3 0 = .ok (.aload_n 0, 1) := by decide +kernel
theorem w161_0 {d : Nat} {st : List Value} {h : xH} {K : Option Value → xH → Prop} {l1 : Option Value} {x : Nat} : wp d 161 0 [some (.ref x), l1] st h K ↔ wp d 161 1 [some (.ref x), l1] (.ref x :: st) h K := w_any (i := 161) (pc := 0) dJx4a65c_elementData_915e3_0 rfl rfl
theorem w161_0n {d : Nat} {st : List Value} {h : xH} {K : Option Value → xH → Prop} {l1 : Option Value} : wp d 161 0 [some .null, l1] st h K ↔ wp d 161 1 [some .null, l1] (.null :: st) h K := w_any (i := 161) (pc := 0) dJx4a65c_elementData_915e3_0 rfl rfl
theorem dJx4a65c_elementData_915e3_1 : decode cJx4a65c_elementData_915e3 1 = .ok (.getfield 9, 3) := by decide +kernel
theorem w161_1 {d : Nat} {st : List Value} {h : xH} {K : Option Value → xH → Prop} {ls : xL} {a : Nat} : wp d 161 1 ls (.ref a :: st) h K ↔ y_get h a 0 1 (fun v => wp d 161 4 ls (v :: st) h K) := w_get (i := 161) (pc := 1) dJx4a65c_elementData_915e3_1 rfl
theorem dJx4a65c_elementData_915e3_4 : decode cJx4a65c_elementData_915e3 4 = .ok (.iload_n 1, 1) := by decide +kernel
theorem w161_4 {d : Nat} {st : List Value} {h : xH} {K : Option Value → xH → Prop} {l0 : Option Value} {x : Int32} : wp d 161 4 [l0, some (.int x)] st h K ↔ wp d 161 5 [l0, some (.int x)] (.int x :: st) h K := w_any (i := 161) (pc := 4) dJx4a65c_elementData_915e3_4 rfl rfl
theorem dJx4a65c_elementData_915e3_5 : decode cJx4a65c_elementData_915e3 5 = .ok (.aaload, 1) := by decide +kernel
theorem w161_5 {d : Nat} {st : List Value} {h : xH} {K : Option Value → xH → Prop} {ls : xL} {a : Nat} {x : Int32} : wp d 161 5 ls (.int x :: .ref a :: st) h K ↔ y_aald h a x (fun v => wp d 161 6 ls (v :: st) h K) := w_aald (i := 161) (pc := 5) dJx4a65c_elementData_915e3_5
theorem dJx4a65c_elementData_915e3_6 : decode cJx4a65c_elementData_915e3 6 = .ok (.areturn, 1) := by decide +kernel
theorem w161_6 {d : Nat} {h : xH} {K : Option Value → xH → Prop} {ls : xL} {x : Nat} : wp d 161 6 ls [.ref x] h K ↔ K (some (.ref x)) h := w_aret (i := 161) (pc := 6) dJx4a65c_elementData_915e3_6 rfl rfl
theorem w161_6n {d : Nat} {h : xH} {K : Option Value → xH → Prop} {ls : xL} : wp d 161 6 ls [.null] h K ↔ K (some .null) h := w_aretN (i := 161) (pc := 6) dJx4a65c_elementData_915e3_6 rfl rfl
theorem dJx4a65c_get_915e3_0 : decode cJx4a65c_get_915e3 0 = .ok (.iload_n 1, 1) := by decide +kernel
theorem w162_0 {d : Nat} {st : List Value} {h : xH} {K : Option Value → xH → Prop} {l0 : Option Value} {x : Int32} : wp d 162 0 [l0, some (.int x)] st h K ↔ wp d 162 1 [l0, some (.int x)] (.int x :: st) h K := w_any (i := 162) (pc := 0) dJx4a65c_get_915e3_0 rfl rfl
theorem dJx4a65c_get_915e3_1 : decode cJx4a65c_get_915e3 1 = .ok (.aload_n 0, 1) := by decide +kernel
theorem w162_1 {d : Nat} {st : List Value} {h : xH} {K : Option Value → xH → Prop} {l1 : Option Value} {x : Nat} : wp d 162 1 [some (.ref x), l1] st h K ↔ wp d 162 2 [some (.ref x), l1] (.ref x :: st) h K := w_any (i := 162) (pc := 1) dJx4a65c_get_915e3_1 rfl rfl
theorem w162_1n {d : Nat} {st : List Value} {h : xH} {K : Option Value → xH → Prop} {l1 : Option Value} : wp d 162 1 [some .null, l1] st h K ↔ wp d 162 2 [some .null, l1] (.null :: st) h K := w_any (i := 162) (pc := 1) dJx4a65c_get_915e3_1 rfl rfl
theorem dJx4a65c_get_915e3_2 : decode cJx4a65c_get_915e3 2 = .ok (.getfield 48, 3) := by decide +kernel
theorem w162_2 {d : Nat} {st : List Value} {h : xH} {K : Option Value → xH → Prop} {ls : xL} {a : Nat} : wp d 162 2 ls (.ref a :: st) h K ↔ y_get h a 0 2 (fun v => wp d 162 5 ls (v :: st) h K) := w_get (i := 162) (pc := 2) dJx4a65c_get_915e3_2 rfl
theorem dJx4a65c_get_915e3_5 : decode cJx4a65c_get_915e3 5 = .ok (.invokestatic 118, 3) := by decide +kernel
theorem w162_5 {d : Nat} {st : List Value} {h : xH} {K : Option Value → xH → Prop} {ls : xL} {a0 : Int32} {a1 : Int32} : wp (d + 1) 162 5 ls (.int a1 :: .int a0 :: st) h K ↔ xcs st ≤ 8 ∧ wp d 171 0 [some (.int a0), some (.int a1)] [] h (fun v h1 => wp (d + 1) 162 8 ls (v.toList ++ st) h1 K) := w_callS (i := 162) (pc := 5) (as := [.int a0, .int a1]) (rest := st) dJx4a65c_get_915e3_5 rfl (by decide) rfl rfl rfl rfl rfl
theorem dJx4a65c_get_915e3_8 : decode cJx4a65c_get_915e3 8 = .ok (.pop, 1) := by decide +kernel
theorem w162_8 {d : Nat} {st : List Value} {h : xH} {K : Option Value → xH → Prop} {ls : xL} {x : Int32} : wp d 162 8 ls (.int x :: st) h K ↔ wp d 162 9 ls st h K := (w_any (i := 162) (pc := 8) dJx4a65c_get_915e3_8 rfl rfl).trans (w_ct rfl)
theorem w162_8r {d : Nat} {st : List Value} {h : xH} {K : Option Value → xH → Prop} {ls : xL} {x : Nat} : wp d 162 8 ls (.ref x :: st) h K ↔ wp d 162 9 ls st h K := (w_any (i := 162) (pc := 8) dJx4a65c_get_915e3_8 rfl rfl).trans (w_ct rfl)
theorem w162_8n {d : Nat} {st : List Value} {h : xH} {K : Option Value → xH → Prop} {ls : xL} : wp d 162 8 ls (.null :: st) h K ↔ wp d 162 9 ls st h K := (w_any (i := 162) (pc := 8) dJx4a65c_get_915e3_8 rfl rfl).trans (w_ct rfl)
theorem dJx4a65c_get_915e3_9 : decode cJx4a65c_get_915e3 9 = .ok (.aload_n 0, 1) := by decide +kernel
theorem w162_9 {d : Nat} {st : List Value} {h : xH} {K : Option Value → xH → Prop} {l1 : Option Value} {x : Nat} : wp d 162 9 [some (.ref x), l1] st h K ↔ wp d 162 10 [some (.ref x), l1] (.ref x :: st) h K := w_any (i := 162) (pc := 9) dJx4a65c_get_915e3_9 rfl rfl
theorem w162_9n {d : Nat} {st : List Value} {h : xH} {K : Option Value → xH → Prop} {l1 : Option Value} : wp d 162 9 [some .null, l1] st h K ↔ wp d 162 10 [some .null, l1] (.null :: st) h K := w_any (i := 162) (pc := 9) dJx4a65c_get_915e3_9 rfl rfl
theorem dJx4a65c_get_915e3_10 : decode cJx4a65c_get_915e3 10 = .ok (.iload_n 1, 1) := by decide +kernel
theorem w162_10 {d : Nat} {st : List Value} {h : xH} {K : Option Value → xH → Prop} {l0 : Option Value} {x : Int32} : wp d 162 10 [l0, some (.int x)] st h K ↔ wp d 162 11 [l0, some (.int x)] (.int x :: st) h K := w_any (i := 162) (pc := 10) dJx4a65c_get_915e3_10 rfl rfl
theorem dJx4a65c_get_915e3_11 : decode cJx4a65c_get_915e3 11 = .ok (.invokevirtual 123, 3) := by decide +kernel
theorem w162_11 {d : Nat} {st : List Value} {h : xH} {K : Option Value → xH → Prop} {ls : xL} {a0 : Int32} {b : Nat} : wp (d + 1) 162 11 ls (.int a0 :: .ref b :: st) h K ↔ y_cls h b 0 ∧ xcs st ≤ 8 ∧ wp d 161 0 [some (.ref b), some (.int a0)] [] h (fun v h1 => wp (d + 1) 162 14 ls (v.toList ++ st) h1 K) := w_callW (i := 162) (pc := 11) (as := [.int a0]) (rest := st) dJx4a65c_get_915e3_11 rfl (by decide) rfl rfl (by decide) rfl rfl rfl rfl
theorem dJx4a65c_get_915e3_14 : decode cJx4a65c_get_915e3 14 = .ok (.areturn, 1) := by decide +kernel
theorem w162_14 {d : Nat} {h : xH} {K : Option Value → xH → Prop} {ls : xL} {x : Nat} : wp d 162 14 ls [.ref x] h K ↔ K (some (.ref x)) h := w_aret (i := 162) (pc := 14) dJx4a65c_get_915e3_14 rfl rfl
theorem w162_14n {d : Nat} {h : xH} {K : Option Value → xH → Prop} {ls : xL} : wp d 162 14 ls [.null] h K ↔ K (some .null) h := w_aretN (i := 162) (pc := 14) dJx4a65c_get_915e3_14 rfl rfl
theorem dJx4a65c_add_72be8_0 : decode cJx4a65c_add_72be8 0 = .ok (.iload_n 3, 1) := by decide +kernel
theorem w163_0 {d : Nat} {st : List Value} {h : xH} {K : Option Value → xH → Prop} {l0 l1 l2 : Option Value} {x : Int32} : wp d 163 0 [l0, l1, l2, some (.int x)] st h K ↔ wp d 163 1 [l0, l1, l2, some (.int x)] (.int x :: st) h K := w_any (i := 163) (pc := 0) dJx4a65c_add_72be8_0 rfl rfl
theorem dJx4a65c_add_72be8_1 : decode cJx4a65c_add_72be8 1 = .ok (.aload_n 2, 1) := by decide +kernel
theorem w163_1 {d : Nat} {st : List Value} {h : xH} {K : Option Value → xH → Prop} {l0 l1 l3 : Option Value} {x : Nat} : wp d 163 1 [l0, l1, some (.ref x), l3] st h K ↔ wp d 163 2 [l0, l1, some (.ref x), l3] (.ref x :: st) h K := w_any (i := 163) (pc := 1) dJx4a65c_add_72be8_1 rfl rfl
theorem w163_1n {d : Nat} {st : List Value} {h : xH} {K : Option Value → xH → Prop} {l0 l1 l3 : Option Value} : wp d 163 1 [l0, l1, some .null, l3] st h K ↔ wp d 163 2 [l0, l1, some .null, l3] (.null :: st) h K := w_any (i := 163) (pc := 1) dJx4a65c_add_72be8_1 rfl rfl
theorem dJx4a65c_add_72be8_2 : decode cJx4a65c_add_72be8 2 = .ok (.arraylength, 1) := by decide +kernel
theorem w163_2 {d : Nat} {st : List Value} {h : xH} {K : Option Value → xH → Prop} {ls : xL} {a : Nat} : wp d 163 2 ls (.ref a :: st) h K ↔ y_alen h a (fun v => wp d 163 3 ls (.int v :: st) h K) := w_alen (i := 163) (pc := 2) dJx4a65c_add_72be8_2
theorem dJx4a65c_add_72be8_3 : decode cJx4a65c_add_72be8 3 = .ok (.if_icmp .ne 8, 3) := by decide +kernel
theorem w163_3 {d : Nat} {st : List Value} {h : xH} {K : Option Value → xH → Prop} {ls : xL} {x y : Int32} : wp d 163 3 ls (.int y :: .int x :: st) h K ↔ ((¬ x = y) → wp d 163 11 ls st h K) ∧ ((x = y) → wp d 163 6 ls st h K) := (w_if2 (i := 163) (pc := 3) (cd := .ne) (off := 8) (tgt := 11) dJx4a65c_add_72be8_3 (by decide) rfl).trans (and_congr Iff.rfl (imp_congr Classical.not_not Iff.rfl))
theorem dJx4a65c_add_72be8_6 : decode cJx4a65c_add_72be8 6 = .ok (.aload_n 0, 1) := by decide +kernel
theorem w163_6 {d : Nat} {st : List Value} {h : xH} {K : Option Value → xH → Prop} {l1 l2 l3 : Option Value} {x : Nat} : wp d 163 6 [some (.ref x), l1, l2, l3] st h K ↔ wp d 163 7 [some (.ref x), l1, l2, l3] (.ref x :: st) h K := w_any (i := 163) (pc := 6) dJx4a65c_add_72be8_6 rfl rfl
theorem w163_6n {d : Nat} {st : List Value} {h : xH} {K : Option Value → xH → Prop} {l1 l2 l3 : Option Value} : wp d 163 6 [some .null, l1, l2, l3] st h K ↔ wp d 163 7 [some .null, l1, l2, l3] (.null :: st) h K := w_any (i := 163) (pc := 6) dJx4a65c_add_72be8_6 rfl rfl
theorem dJx4a65c_add_72be8_7 : decode cJx4a65c_add_72be8 7 = .ok (.invokevirtual 129, 3) := by decide +kernel
theorem w163_7 {d : Nat} {st : List Value} {h : xH} {K : Option Value → xH → Prop} {ls : xL} {b : Nat} : wp (d + 1) 163 7 ls (.ref b :: st) h K ↔ y_cls h b 0 ∧ xcs st ≤ 8 ∧ wp d 159 0 [some (.ref b)] [] h (fun v h1 => wp (d + 1) 163 10 ls (v.toList ++ st) h1 K) := w_callW (i := 163) (pc := 7) (as := []) (rest := st) dJx4a65c_add_72be8_7 rfl (by decide) rfl rfl (by decide) rfl rfl rfl rfl
theorem dJx4a65c_add_72be8_10 : decode cJx4a65c_add_72be8 10 = .ok (.astore_n 2, 1) := by decide +kernel
theorem w163_10 {d : Nat} {st : List Value} {h : xH} {K : Option Value → xH → Prop} {l0 l1 l2 l3 : Option Value} {x : Nat} : wp d 163 10 [l0, l1, l2, l3] (.ref x :: st) h K ↔ wp d 163 11 [l0, xk l1, some (.ref x), l3] st h K := w_astore_n (i := 163) (pc := 10) dJx4a65c_add_72be8_10 (Nat.le_of_ble_eq_true rfl) (show xst1 [l0, l1, l2, l3] 2 (.ref x) = [l0, xk l1, some (.ref x), l3] by simp only [xst1_0, xst1_1, xst1_s, Nat.reduceAdd])
theorem w163_10n {d : Nat} {st : List Value} {h : xH} {K : Option Value → xH → Prop} {l0 l1 l2 l3 : Option Value} : wp d 163 10 [l0, l1, l2, l3] (.null :: st) h K ↔ wp d 163 11 [l0, xk l1, some (.null), l3] st h K := w_astore_nN (i := 163) (pc := 10) dJx4a65c_add_72be8_10 (Nat.le_of_ble_eq_true rfl) (show xst1 [l0, l1, l2, l3] 2 (.null) = [l0, xk l1, some (.null), l3] by simp only [xst1_0, xst1_1, xst1_s, Nat.reduceAdd])
theorem dJx4a65c_add_72be8_11 : decode cJx4a65c_add_72be8 11 = .ok (.aload_n 2, 1) := by decide +kernel
theorem w163_11 {d : Nat} {st : List Value} {h : xH} {K : Option Value → xH → Prop} {l0 l1 l3 : Option Value} {x : Nat} : wp d 163 11 [l0, l1, some (.ref x), l3] st h K ↔ wp d 163 12 [l0, l1, some (.ref x), l3] (.ref x :: st) h K := w_any (i := 163) (pc := 11) dJx4a65c_add_72be8_11 rfl rfl
theorem w163_11n {d : Nat} {st : List Value} {h : xH} {K : Option Value → xH → Prop} {l0 l1 l3 : Option Value} : wp d 163 11 [l0, l1, some .null, l3] st h K ↔ wp d 163 12 [l0, l1, some .null, l3] (.null :: st) h K := w_any (i := 163) (pc := 11) dJx4a65c_add_72be8_11 rfl rfl
theorem dJx4a65c_add_72be8_12 : decode cJx4a65c_add_72be8 12 = .ok (.iload_n 3, 1) := by decide +kernel
theorem w163_12 {d : Nat} {st : List Value} {h : xH} {K : Option Value → xH → Prop} {l0 l1 l2 : Option Value} {x : Int32} : wp d 163 12 [l0, l1, l2, some (.int x)] st h K ↔ wp d 163 13 [l0, l1, l2, some (.int x)] (.int x :: st) h K := w_any (i := 163) (pc := 12) dJx4a65c_add_72be8_12 rfl rfl
theorem dJx4a65c_add_72be8_13 : decode cJx4a65c_add_72be8 13 = .ok (.aload_n 1, 1) := by decide +kernel
theorem w163_13 {d : Nat} {st : List Value} {h : xH} {K : Option Value → xH → Prop} {l0 l2 l3 : Option Value} {x : Nat} : wp d 163 13 [l0, some (.ref x), l2, l3] st h K ↔ wp d 163 14 [l0, some (.ref x), l2, l3] (.ref x :: st) h K := w_any (i := 163) (pc := 13) dJx4a65c_add_72be8_13 rfl rfl
theorem w163_13n {d : Nat} {st : List Value} {h : xH} {K : Option Value → xH → Prop} {l0 l2 l3 : Option Value} : wp d 163 13 [l0, some .null, l2, l3] st h K ↔ wp d 163 14 [l0, some .null, l2, l3] (.null :: st) h K := w_any (i := 163) (pc := 13) dJx4a65c_add_72be8_13 rfl rfl
theorem dJx4a65c_add_72be8_14 : decode cJx4a65c_add_72be8 14 = .ok (.aastore, 1) := by decide +kernel
theorem w163_14 {d : Nat} {st : List Value} {h : xH} {K : Option Value → xH → Prop} {ls : xL} {a b : Nat} {x : Int32} : wp d 163 14 ls (.ref b :: .int x :: .ref a :: st) h K ↔ y_aast h a x b (fun h1 => wp d 163 15 ls st h1 K) := w_aast (i := 163) (pc := 14) dJx4a65c_add_72be8_14
theorem w163_14n {d : Nat} {st : List Value} {h : xH} {K : Option Value → xH → Prop} {ls : xL} {a : Nat} {x : Int32} : wp d 163 14 ls (.null :: .int x :: .ref a :: st) h K ↔ y_aastN h a x (fun h1 => wp d 163 15 ls st h1 K) := w_aastN (i := 163) (pc := 14) dJx4a65c_add_72be8_14
theorem dJx4a65c_add_72be8_15 : decode cJx4a65c_add_72be8 15 = .ok (.aload_n 0, 1) := by decide +kernel
theorem w163_15 {d : Nat} {st : List Value} {h : xH} {K : Option Value → xH → Prop} {l1 l2 l3 : Option Value} {x : Nat} : wp d 163 15 [some (.ref x), l1, l2, l3] st h K ↔ wp d 163 16 [some (.ref x), l1, l2, l3] (.ref x :: st) h K := w_any (i := 163) (pc := 15) dJx4a65c_add_72be8_15 rfl rfl
theorem w163_15n {d : Nat} {st : List Value} {h : xH} {K : Option Value → xH → Prop} {l1 l2 l3 : Option Value} : wp d 163 15 [some .null, l1, l2, l3] st h K ↔ wp d 163 16 [some .null, l1, l2, l3] (.null :: st) h K := w_any (i := 163) (pc := 15) dJx4a65c_add_72be8_15 rfl rfl
theorem dJx4a65c_add_72be8_16 : decode cJx4a65c_add_72be8 16 = .ok (.iload_n 3, 1) := by decide +kernel
theorem w163_16 {d : Nat} {st : List Value} {h : xH} {K : Option Value → xH → Prop} {l0 l1 l2 : Option Value} {x : Int32} : wp d 163 16 [l0, l1, l2, some (.int x)] st h K ↔ wp d 163 17 [l0, l1, l2, some (.int x)] (.int x :: st) h K := w_any (i := 163) (pc := 16) dJx4a65c_add_72be8_16 rfl rfl
theorem dJx4a65c_add_72be8_17 : decode cJx4a65c_add_72be8 17 = .ok (.iconst 1, 1) := by decide +kernel
theorem w163_17 {d : Nat} {st : List Value} {h : xH} {K : Option Value → xH → Prop} {ls : xL} : wp d 163 17 ls st h K ↔ wp d 163 18 ls (.int 1 :: st) h K := w_iconst (i := 163) (pc := 17) dJx4a65c_add_72be8_17 (by decide)
theorem dJx4a65c_add_72be8_18 : decode cJx4a65c_add_72be8 18 = .ok (.iadd, 1) := by decide +kernel
theorem w163_18 {d : Nat} {st : List Value} {h : xH} {K : Option Value → xH → Prop} {ls : xL} {x y : Int32} : wp d 163 18 ls (.int y :: .int x :: st) h K ↔ wp d 163 19 ls (.int (x + y) :: st) h K := w_any (i := 163) (pc := 18) dJx4a65c_add_72be8_18 rfl rfl
theorem dJx4a65c_add_72be8_19 : decode cJx4a65c_add_72be8 19 = .ok (.putfield 48, 3) := by decide +kernel
theorem w163_19 {d : Nat} {st : List Value} {h : xH} {K : Option Value → xH → Prop} {ls : xL} {x : Int32} {a : Nat} : wp d 163 19 ls (.int x :: .ref a :: st) h K ↔ y_put h a 0 2 (.int x) (fun h1 => wp d 163 22 ls st h1 K) := w_put (i := 163) (pc := 19) dJx4a65c_add_72be8_19 rfl trivial (Or.inl rfl)
theorem dJx4a65c_add_72be8_22 : decode cJx4a65c_add_72be8 22 = .ok (.return_, 1) := by decide +kernel
theorem w163_22 {d : Nat} {h : xH} {K : Option Value → xH → Prop} {ls : xL} : wp d 163 22 ls [] h K ↔ K none h := w_vret (i := 163) (pc := 22) dJx4a65c_add_72be8_22 rfl
theorem dJx4a65c_add_9ea2d_0 : decode cJx4a65c_add_9ea2d 0 = .ok (.aload_n 0, 1) := by decide +kernel
theorem w164_0 {d : Nat} {st : List Value} {h : xH} {K : Option Value → xH → Prop} {l1 : Option Value} {x : Nat} : wp d 164 0 [some (.ref x), l1] st h K ↔ wp d 164 1 [some (.ref x), l1] (.ref x :: st) h K := w_any (i := 164) (pc := 0) dJx4a65c_add_9ea2d_0 rfl rfl
theorem w164_0n {d : Nat} {st : List Value} {h : xH} {K : Option Value → xH → Prop} {l1 : Option Value} : wp d 164 0 [some .null, l1] st h K ↔ wp d 164 1 [some .null, l1] (.null :: st) h K := w_any (i := 164) (pc := 0) dJx4a65c_add_9ea2d_0 rfl rfl
theorem dJx4a65c_add_9ea2d_1 : decode cJx4a65c_add_9ea2d 1 = .ok (.dup, 1) := by decide +kernel
theorem w164_1 {d : Nat} {st : List Value} {h : xH} {K : Option Value → xH → Prop} {ls : xL} {x : Int32} : wp d 164 1 ls (.int x :: st) h K ↔ wp d 164 2 ls (.int x :: .int x :: st) h K := (w_any (i := 164) (pc := 1) dJx4a65c_add_9ea2d_1 rfl rfl).trans (w_ct rfl)
theorem w164_1r {d : Nat} {st : List Value} {h : xH} {K : Option Value → xH → Prop} {ls : xL} {x : Nat} : wp d 164 1 ls (.ref x :: st) h K ↔ wp d 164 2 ls (.ref x :: .ref x :: st) h K := (w_any (i := 164) (pc := 1) dJx4a65c_add_9ea2d_1 rfl rfl).trans (w_ct rfl)
theorem dJx4a65c_add_9ea2d_2 : decode cJx4a65c_add_9ea2d 2 = .ok (.getfield 63, 3) := by decide +kernel
theorem w164_2 {d : Nat} {st : List Value} {h : xH} {K : Option Value → xH → Prop} {ls : xL} {a : Nat} : wp d 164 2 ls (.ref a :: st) h K ↔ y_get h a 0 0 (fun v => wp d 164 5 ls (v :: st) h K) := w_get (i := 164) (pc := 2) dJx4a65c_add_9ea2d_2 rfl
theorem dJx4a65c_add_9ea2d_5 : decode cJx4a65c_add_9ea2d 5 = .ok (.iconst 1, 1) := by decide +kernel
theorem w164_5 {d : Nat} {st : List Value} {h : xH} {K : Option Value → xH → Prop} {ls : xL} : wp d 164 5 ls st h K ↔ wp d 164 6 ls (.int 1 :: st) h K := w_iconst (i := 164) (pc := 5) dJx4a65c_add_9ea2d_5 (by decide)
theorem dJx4a65c_add_9ea2d_6 : decode cJx4a65c_add_9ea2d 6 = .ok (.iadd, 1) := by decide +kernel
theorem w164_6 {d : Nat} {st : List Value} {h : xH} {K : Option Value → xH → Prop} {ls : xL} {x y : Int32} : wp d 164 6 ls (.int y :: .int x :: st) h K ↔ wp d 164 7 ls (.int (x + y) :: st) h K := w_any (i := 164) (pc := 6) dJx4a65c_add_9ea2d_6 rfl rfl
theorem dJx4a65c_add_9ea2d_7 : decode cJx4a65c_add_9ea2d 7 = .ok (.putfield 63, 3) := by decide +kernel
theorem w164_7 {d : Nat} {st : List Value} {h : xH} {K : Option Value → xH → Prop} {ls : xL} {x : Int32} {a : Nat} : wp d 164 7 ls (.int x :: .ref a :: st) h K ↔ y_put h a 0 0 (.int x) (fun h1 => wp d 164 10 ls st h1 K) := w_put (i := 164) (pc := 7) dJx4a65c_add_9ea2d_7 rfl trivial (Or.inl rfl)
theorem dJx4a65c_add_9ea2d_10 : decode cJx4a65c_add_9ea2d 10 = .ok (.aload_n 0, 1) := by decide +kernel
theorem w164_10 {d : Nat} {st : List Value} {h : xH} {K : Option Value → xH → Prop} {l1 : Option Value} {x : Nat} : wp d 164 10 [some (.ref x), l1] st h K ↔ wp d 164 11 [some (.ref x), l1] (.ref x :: st) h K := w_any (i := 164) (pc := 10) dJx4a65c_add_9ea2d_10 rfl rfl
theorem w164_10n {d : Nat} {st : List Value} {h : xH} {K : Option Value → xH → Prop} {l1 : Option Value} : wp d 164 10 [some .null, l1] st h K ↔ wp d 164 11 [some .null, l1] (.null :: st) h K := w_any (i := 164) (pc := 10) dJx4a65c_add_9ea2d_10 rfl rfl
theorem dJx4a65c_add_9ea2d_11 : decode cJx4a65c_add_9ea2d 11 = .ok (.aload_n 1, 1) := by decide +kernel
theorem w164_11 {d : Nat} {st : List Value} {h : xH} {K : Option Value → xH → Prop} {l0 : Option Value} {x : Nat} : wp d 164 11 [l0, some (.ref x)] st h K ↔ wp d 164 12 [l0, some (.ref x)] (.ref x :: st) h K := w_any (i := 164) (pc := 11) dJx4a65c_add_9ea2d_11 rfl rfl
theorem w164_11n {d : Nat} {st : List Value} {h : xH} {K : Option Value → xH → Prop} {l0 : Option Value} : wp d 164 11 [l0, some .null] st h K ↔ wp d 164 12 [l0, some .null] (.null :: st) h K := w_any (i := 164) (pc := 11) dJx4a65c_add_9ea2d_11 rfl rfl
theorem dJx4a65c_add_9ea2d_12 : decode cJx4a65c_add_9ea2d 12 = .ok (.aload_n 0, 1) := by decide +kernel
theorem w164_12 {d : Nat} {st : List Value} {h : xH} {K : Option Value → xH → Prop} {l1 : Option Value} {x : Nat} : wp d 164 12 [some (.ref x), l1] st h K ↔ wp d 164 13 [some (.ref x), l1] (.ref x :: st) h K := w_any (i := 164) (pc := 12) dJx4a65c_add_9ea2d_12 rfl rfl
theorem w164_12n {d : Nat} {st : List Value} {h : xH} {K : Option Value → xH → Prop} {l1 : Option Value} : wp d 164 12 [some .null, l1] st h K ↔ wp d 164 13 [some .null, l1] (.null :: st) h K := w_any (i := 164) (pc := 12) dJx4a65c_add_9ea2d_12 rfl rfl
theorem dJx4a65c_add_9ea2d_13 : decode cJx4a65c_add_9ea2d 13 = .ok (.getfield 9, 3) := by decide +kernel
theorem w164_13 {d : Nat} {st : List Value} {h : xH} {K : Option Value → xH → Prop} {ls : xL} {a : Nat} : wp d 164 13 ls (.ref a :: st) h K ↔ y_get h a 0 1 (fun v => wp d 164 16 ls (v :: st) h K) := w_get (i := 164) (pc := 13) dJx4a65c_add_9ea2d_13 rfl
theorem dJx4a65c_add_9ea2d_16 : decode cJx4a65c_add_9ea2d 16 = .ok (.aload_n 0, 1) := by decide +kernel
theorem w164_16 {d : Nat} {st : List Value} {h : xH} {K : Option Value → xH → Prop} {l1 : Option Value} {x : Nat} : wp d 164 16 [some (.ref x), l1] st h K ↔ wp d 164 17 [some (.ref x), l1] (.ref x :: st) h K := w_any (i := 164) (pc := 16) dJx4a65c_add_9ea2d_16 rfl rfl
theorem w164_16n {d : Nat} {st : List Value} {h : xH} {K : Option Value → xH → Prop} {l1 : Option Value} : wp d 164 16 [some .null, l1] st h K ↔ wp d 164 17 [some .null, l1] (.null :: st) h K := w_any (i := 164) (pc := 16) dJx4a65c_add_9ea2d_16 rfl rfl
theorem dJx4a65c_add_9ea2d_17 : decode cJx4a65c_add_9ea2d 17 = .ok (.getfield 48, 3) := by decide +kernel
theorem w164_17 {d : Nat} {st : List Value} {h : xH} {K : Option Value → xH → Prop} {ls : xL} {a : Nat} : wp d 164 17 ls (.ref a :: st) h K ↔ y_get h a 0 2 (fun v => wp d 164 20 ls (v :: st) h K) := w_get (i := 164) (pc := 17) dJx4a65c_add_9ea2d_17 rfl
theorem dJx4a65c_add_9ea2d_20 : decode cJx4a65c_add_9ea2d 20 = .ok (.invokevirtual 131, 3) := by decide +kernel
theorem w164_20 {d : Nat} {st : List Value} {h : xH} {K : Option Value → xH → Prop} {ls : xL} {a0 : Nat} {a1 : Nat} {a2 : Int32} {b : Nat} : wp (d + 1) 164 20 ls (.int a2 :: .ref a1 :: .ref a0 :: .ref b :: st) h K ↔ y_cls h b 0 ∧ xcs st ≤ 8 ∧ wp d 163 0 [some (.ref b), some (.ref a0), some (.ref a1), some (.int a2)] [] h (fun v h1 => wp (d + 1) 164 23 ls (v.toList ++ st) h1 K) := w_callW (i := 164) (pc := 20) (as := [.ref a0, .ref a1, .int a2]) (rest := st) dJx4a65c_add_9ea2d_20 rfl (by decide) rfl rfl (by decide) rfl rfl rfl rfl
theorem dJx4a65c_add_9ea2d_23 : decode cJx4a65c_add_9ea2d 23 = .ok (.iconst 1, 1) := by decide +kernel
theorem w164_23 {d : Nat} {st : List Value} {h : xH} {K : Option Value → xH → Prop} {ls : xL} : wp d 164 23 ls st h K ↔ wp d 164 24 ls (.int 1 :: st) h K := w_iconst (i := 164) (pc := 23) dJx4a65c_add_9ea2d_23 (by decide)
theorem dJx4a65c_add_9ea2d_24 : decode cJx4a65c_add_9ea2d 24 = .ok (.ireturn, 1) := by decide +kernel
theorem w164_24 {d : Nat} {h : xH} {K : Option Value → xH → Prop} {ls : xL} {x : Int32} : wp d 164 24 ls [.int x] h K ↔ y_bool x ∧ K (some (.int x)) h := w_zret (i := 164) (pc := 24) dJx4a65c_add_9ea2d_24 rfl
theorem dJx4a65c_remove_915e3_0 : decode cJx4a65c_remove_915e3 0 = .ok (.iload_n 1, 1) := by decide +kernel
theorem w165_0 {d : Nat} {st : List Value} {h : xH} {K : Option Value → xH → Prop} {l0 l2 l3 : Option Value} {x : Int32} : wp d 165 0 [l0, some (.int x), l2, l3] st h K ↔ wp d 165 1 [l0, some (.int x), l2, l3] (.int x :: st) h K := w_any (i := 165) (pc := 0) dJx4a65c_remove_915e3_0 rfl rfl
theorem dJx4a65c_remove_915e3_1 : decode cJx4a65c_remove_915e3 1 = .ok (.aload_n 0, 1) := by decide +kernel
theorem w165_1 {d : Nat} {st : List Value} {h : xH} {K : Option Value → xH → Prop} {l1 l2 l3 : Option Value} {x : Nat} : wp d 165 1 [some (.ref x), l1, l2, l3] st h K ↔ wp d 165 2 [some (.ref x), l1, l2, l3] (.ref x :: st) h K := w_any (i := 165) (pc := 1) dJx4a65c_remove_915e3_1 rfl rfl
theorem w165_1n {d : Nat} {st : List Value} {h : xH} {K : Option Value → xH → Prop} {l1 l2 l3 : Option Value} : wp d 165 1 [some .null, l1, l2, l3] st h K ↔ wp d 165 2 [some .null, l1, l2, l3] (.null :: st) h K := w_any (i := 165) (pc := 1) dJx4a65c_remove_915e3_1 rfl rfl
theorem dJx4a65c_remove_915e3_2 : decode cJx4a65c_remove_915e3 2 = .ok (.getfield 48, 3) := by decide +kernel
theorem w165_2 {d : Nat} {st : List Value} {h : xH} {K : Option Value → xH → Prop} {ls : xL} {a : Nat} : wp d 165 2 ls (.ref a :: st) h K ↔ y_get h a 0 2 (fun v => wp d 165 5 ls (v :: st) h K) := w_get (i := 165) (pc := 2) dJx4a65c_remove_915e3_2 rfl
theorem dJx4a65c_remove_915e3_5 : decode cJx4a65c_remove_915e3 5 = .ok (.invokestatic 118, 3) := by decide +kernel
theorem w165_5 {d : Nat} {st : List Value} {h : xH} {K : Option Value → xH → Prop} {ls : xL} {a0 : Int32} {a1 : Int32} : wp (d + 1) 165 5 ls (.int a1 :: .int a0 :: st) h K ↔ xcs st ≤ 8 ∧ wp d 171 0 [some (.int a0), some (.int a1)] [] h (fun v h1 => wp (d + 1) 165 8 ls (v.toList ++ st) h1 K) := w_callS (i := 165) (pc := 5) (as := [.int a0, .int a1]) (rest := st) dJx4a65c_remove_915e3_5 rfl (by decide) rfl rfl rfl rfl rfl
theorem dJx4a65c_remove_915e3_8 : decode cJx4a65c_remove_915e3 8 = .ok (.pop, 1) := by decide +kernel
theorem w165_8 {d : Nat} {st : List Value} {h : xH} {K : Option Value → xH → Prop} {ls : xL} {x : Int32} : wp d 165 8 ls (.int x :: st) h K ↔ wp d 165 9 ls st h K := (w_any (i := 165) (pc := 8) dJx4a65c_remove_915e3_8 rfl rfl).trans (w_ct rfl)
theorem w165_8r {d : Nat} {st : List Value} {h : xH} {K : Option Value → xH → Prop} {ls : xL} {x : Nat} : wp d 165 8 ls (.ref x :: st) h K ↔ wp d 165 9 ls st h K := (w_any (i := 165) (pc := 8) dJx4a65c_remove_915e3_8 rfl rfl).trans (w_ct rfl)
theorem w165_8n {d : Nat} {st : List Value} {h : xH} {K : Option Value → xH → Prop} {ls : xL} : wp d 165 8 ls (.null :: st) h K ↔ wp d 165 9 ls st h K := (w_any (i := 165) (pc := 8) dJx4a65c_remove_915e3_8 rfl rfl).trans (w_ct rfl)
theorem dJx4a65c_remove_915e3_9 : decode cJx4a65c_remove_915e3 9 = .ok (.aload_n 0, 1) := by decide +kernel
theorem w165_9 {d : Nat} {st : List Value} {h : xH} {K : Option Value → xH → Prop} {l1 l2 l3 : Option Value} {x : Nat} : wp d 165 9 [some (.ref x), l1, l2, l3] st h K ↔ wp d 165 10 [some (.ref x), l1, l2, l3] (.ref x :: st) h K := w_any (i := 165) (pc := 9) dJx4a65c_remove_915e3_9 rfl rfl
theorem w165_9n {d : Nat} {st : List Value} {h : xH} {K : Option Value → xH → Prop} {l1 l2 l3 : Option Value} : wp d 165 9 [some .null, l1, l2, l3] st h K ↔ wp d 165 10 [some .null, l1, l2, l3] (.null :: st) h K := w_any (i := 165) (pc := 9) dJx4a65c_remove_915e3_9 rfl rfl
theorem dJx4a65c_remove_915e3_10 : decode cJx4a65c_remove_915e3 10 = .ok (.getfield 9, 3) := by decide +kernel
theorem w165_10 {d : Nat} {st : List Value} {h : xH} {K : Option Value → xH → Prop} {ls : xL} {a : Nat} : wp d 165 10 ls (.ref a :: st) h K ↔ y_get h a 0 1 (fun v => wp d 165 13 ls (v :: st) h K) := w_get (i := 165) (pc := 10) dJx4a65c_remove_915e3_10 rfl
theorem dJx4a65c_remove_915e3_13 : decode cJx4a65c_remove_915e3 13 = .ok (.astore_n 2, 1) := by decide +kernel
theorem w165_13 {d : Nat} {st : List Value} {h : xH} {K : Option Value → xH → Prop} {l0 l1 l2 l3 : Option Value} {x : Nat} : wp d 165 13 [l0, l1, l2, l3] (.ref x :: st) h K ↔ wp d 165 14 [l0, xk l1, some (.ref x), l3] st h K := w_astore_n (i := 165) (pc := 13) dJx4a65c_remove_915e3_13 (Nat.le_of_ble_eq_true rfl) (show xst1 [l0, l1, l2, l3] 2 (.ref x) = [l0, xk l1, some (.ref x), l3] by simp only [xst1_0, xst1_1, xst1_s, Nat.reduceAdd])
theorem w165_13n {d : Nat} {st : List Value} {h : xH} {K : Option Value → xH → Prop} {l0 l1 l2 l3 : Option Value} : wp d 165 13 [l0, l1, l2, l3] (.null :: st) h K ↔ wp d 165 14 [l0, xk l1, some (.null), l3] st h K := w_astore_nN (i := 165) (pc := 13) dJx4a65c_remove_915e3_13 (Nat.le_of_ble_eq_true rfl) (show xst1 [l0, l1, l2, l3] 2 (.null) = [l0, xk l1, some (.null), l3] by simp only [xst1_0, xst1_1, xst1_s, Nat.reduceAdd])
theorem dJx4a65c_remove_915e3_14 : decode cJx4a65c_remove_915e3 14 = .ok (.aload_n 2, 1) := by decide +kernel
theorem w165_14 {d : Nat} {st : List Value} {h : xH} {K : Option Value → xH → Prop} {l0 l1 l3 : Option Value} {x : Nat} : wp d 165 14 [l0, l1, some (.ref x), l3] st h K ↔ wp d 165 15 [l0, l1, some (.ref x), l3] (.ref x :: st) h K := w_any (i := 165) (pc := 14) dJx4a65c_remove_915e3_14 rfl rfl
theorem w165_14n {d : Nat} {st : List Value} {h : xH} {K : Option Value → xH → Prop} {l0 l1 l3 : Option Value} : wp d 165 14 [l0, l1, some .null, l3] st h K ↔ wp d 165 15 [l0, l1, some .null, l3] (.null :: st) h K := w_any (i := 165) (pc := 14) dJx4a65c_remove_915e3_14 rfl rfl
theorem dJx4a65c_remove_915e3_15 : decode cJx4a65c_remove_915e3 15 = .ok (.iload_n 1, 1) := by decide +kernel
theorem w165_15 {d : Nat} {st : List Value} {h : xH} {K : Option Value → xH → Prop} {l0 l2 l3 : Option Value} {x : Int32} : wp d 165 15 [l0, some (.int x), l2, l3] st h K ↔ wp d 165 16 [l0, some (.int x), l2, l3] (.int x :: st) h K := w_any (i := 165) (pc := 15) dJx4a65c_remove_915e3_15 rfl rfl
theorem dJx4a65c_remove_915e3_16 : decode cJx4a65c_remove_915e3 16 = .ok (.aaload, 1) := by decide +kernel
theorem w165_16 {d : Nat} {st : List Value} {h : xH} {K : Option Value → xH → Prop} {ls : xL} {a : Nat} {x : Int32} : wp d 165 16 ls (.int x :: .ref a :: st) h K ↔ y_aald h a x (fun v => wp d 165 17 ls (v :: st) h K) := w_aald (i := 165) (pc := 16) dJx4a65c_remove_915e3_16
theorem dJx4a65c_remove_915e3_17 : decode cJx4a65c_remove_915e3 17 = .ok (.astore_n 3, 1) := by decide +kernel
theorem w165_17 {d : Nat} {st : List Value} {h : xH} {K : Option Value → xH → Prop} {l0 l1 l2 l3 : Option Value} {x : Nat} : wp d 165 17 [l0, l1, l2, l3] (.ref x :: st) h K ↔ wp d 165 18 [l0, l1, xk l2, some (.ref x)] st h K := w_astore_n (i := 165) (pc := 17) dJx4a65c_remove_915e3_17 (Nat.le_of_ble_eq_true rfl) (show xst1 [l0, l1, l2, l3] 3 (.ref x) = [l0, l1, xk l2, some (.ref x)] by simp only [xst1_0, xst1_1, xst1_s, Nat.reduceAdd])
theorem w165_17n {d : Nat} {st : List Value} {h : xH} {K : Option Value → xH → Prop} {l0 l1 l2 l3 : Option Value} : wp d 165 17 [l0, l1, l2, l3] (.null :: st) h K ↔ wp d 165 18 [l0, l1, xk l2, some (.null)] st h K := w_astore_nN (i := 165) (pc := 17) dJx4a65c_remove_915e3_17 (Nat.le_of_ble_eq_true rfl) (show xst1 [l0, l1, l2, l3] 3 (.null) = [l0, l1, xk l2, some (.null)] by simp only [xst1_0, xst1_1, xst1_s, Nat.reduceAdd])
theorem dJx4a65c_remove_915e3_18 : decode cJx4a65c_remove_915e3 18 = .ok (.aload_n 0, 1) := by decide +kernel
theorem w165_18 {d : Nat} {st : List Value} {h : xH} {K : Option Value → xH → Prop} {l1 l2 l3 : Option Value} {x : Nat} : wp d 165 18 [some (.ref x), l1, l2, l3] st h K ↔ wp d 165 19 [some (.ref x), l1, l2, l3] (.ref x :: st) h K := w_any (i := 165) (pc := 18) dJx4a65c_remove_915e3_18 rfl rfl
theorem w165_18n {d : Nat} {st : List Value} {h : xH} {K : Option Value → xH → Prop} {l1 l2 l3 : Option Value} : wp d 165 18 [some .null, l1, l2, l3] st h K ↔ wp d 165 19 [some .null, l1, l2, l3] (.null :: st) h K := w_any (i := 165) (pc := 18) dJx4a65c_remove_915e3_18 rfl rfl
theorem dJx4a65c_remove_915e3_19 : decode cJx4a65c_remove_915e3 19 = .ok (.aload_n 2, 1) := by decide +kernel
theorem w165_19 {d : Nat} {st : List Value} {h : xH} {K : Option Value → xH → Prop} {l0 l1 l3 : Option Value} {x : Nat} : wp d 165 19 [l0, l1, some (.ref x), l3] st h K ↔ wp d 165 20 [l0, l1, some (.ref x), l3] (.ref x :: st) h K := w_any (i := 165) (pc := 19) dJx4a65c_remove_915e3_19 rfl rfl
theorem w165_19n {d : Nat} {st : List Value} {h : xH} {K : Option Value → xH → Prop} {l0 l1 l3 : Option Value} : wp d 165 19 [l0, l1, some .null, l3] st h K ↔ wp d 165 20 [l0, l1, some .null, l3] (.null :: st) h K := w_any (i := 165) (pc := 19) dJx4a65c_remove_915e3_19 rfl rfl
theorem dJx4a65c_remove_915e3_20 : decode cJx4a65c_remove_915e3 20 = .ok (.iload_n 1, 1) := by decide +kernel
theorem w165_20 {d : Nat} {st : List Value} {h : xH} {K : Option Value → xH → Prop} {l0 l2 l3 : Option Value} {x : Int32} : wp d 165 20 [l0, some (.int x), l2, l3] st h K ↔ wp d 165 21 [l0, some (.int x), l2, l3] (.int x :: st) h K := w_any (i := 165) (pc := 20) dJx4a65c_remove_915e3_20 rfl rfl
theorem dJx4a65c_remove_915e3_21 : decode cJx4a65c_remove_915e3 21 = .ok (.invokevirtual 144, 3) := by decide +kernel
theorem w165_21 {d : Nat} {st : List Value} {h : xH} {K : Option Value → xH → Prop} {ls : xL} {a0 : Nat} {a1 : Int32} {b : Nat} : wp (d + 1) 165 21 ls (.int a1 :: .ref a0 :: .ref b :: st) h K ↔ y_cls h b 0 ∧ xcs st ≤ 8 ∧ wp d 166 0 [some (.ref b), some (.ref a0), some (.int a1), none] [] h (fun v h1 => wp (d + 1) 165 24 ls (v.toList ++ st) h1 K) := w_callW (i := 165) (pc := 21) (as := [.ref a0, .int a1]) (rest := st) dJx4a65c_remove_915e3_21 rfl (by decide) rfl rfl (by decide) rfl rfl rfl rfl
theorem dJx4a65c_remove_915e3_24 : decode cJx4a65c_remove_915e3 24 = .ok (.aload_n 3, 1) := by decide +kernel
theorem w165_24 {d : Nat} {st : List Value} {h : xH} {K : Option Value → xH → Prop} {l0 l1 l2 : Option Value} {x : Nat} : wp d 165 24 [l0, l1, l2, some (.ref x)] st h K ↔ wp d 165 25 [l0, l1, l2, some (.ref x)] (.ref x :: st) h K := w_any (i := 165) (pc := 24) dJx4a65c_remove_915e3_24 rfl rfl
theorem w165_24n {d : Nat} {st : List Value} {h : xH} {K : Option Value → xH → Prop} {l0 l1 l2 : Option Value} : wp d 165 24 [l0, l1, l2, some .null] st h K ↔ wp d 165 25 [l0, l1, l2, some .null] (.null :: st) h K := w_any (i := 165) (pc := 24) dJx4a65c_remove_915e3_24 rfl rfl
theorem dJx4a65c_remove_915e3_25 : decode cJx4a65c_remove_915e3 25 = .ok (.areturn, 1) := by decide +kernel
theorem w165_25 {d : Nat} {h : xH} {K : Option Value → xH → Prop} {ls : xL} {x : Nat} : wp d 165 25 ls [.ref x] h K ↔ K (some (.ref x)) h := w_aret (i := 165) (pc := 25) dJx4a65c_remove_915e3_25 rfl rfl
theorem w165_25n {d : Nat} {h : xH} {K : Option Value → xH → Prop} {ls : xL} : wp d 165 25 ls [.null] h K ↔ K (some .null) h := w_aretN (i := 165) (pc := 25) dJx4a65c_remove_915e3_25 rfl rfl
theorem dJx4a65c_fastRemove_b59b0_0 : decode cJx4a65c_fastRemove_b59b0 0 = .ok (.aload_n 0, 1) := by decide +kernel
theorem w166_0 {d : Nat} {st : List Value} {h : xH} {K : Option Value → xH → Prop} {l1 l2 l3 : Option Value} {x : Nat} : wp d 166 0 [some (.ref x), l1, l2, l3] st h K ↔ wp d 166 1 [some (.ref x), l1, l2, l3] (.ref x :: st) h K := w_any (i := 166) (pc := 0) dJx4a65c_fastRemove_b59b0_0 rfl rfl
theorem w166_0n {d : Nat} {st : List Value} {h : xH} {K : Option Value → xH → Prop} {l1 l2 l3 : Option Value} : wp d 166 0 [some .null, l1, l2, l3] st h K ↔ wp d 166 1 [some .null, l1, l2, l3] (.null :: st) h K := w_any (i := 166) (pc := 0) dJx4a65c_fastRemove_b59b0_0 rfl rfl
theorem dJx4a65c_fastRemove_b59b0_1 : decode cJx4a65c_fastRemove_b59b0 1 = .ok (.dup, 1) := by decide +kernel
theorem w166_1 {d : Nat} {st : List Value} {h : xH} {K : Option Value → xH → Prop} {ls : xL} {x : Int32} : wp d 166 1 ls (.int x :: st) h K ↔ wp d 166 2 ls (.int x :: .int x :: st) h K := (w_any (i := 166) (pc := 1) dJx4a65c_fastRemove_b59b0_1 rfl rfl).trans (w_ct rfl)
theorem w166_1r {d : Nat} {st : List Value} {h : xH} {K : Option Value → xH → Prop} {ls : xL} {x : Nat} : wp d 166 1 ls (.ref x :: st) h K ↔ wp d 166 2 ls (.ref x :: .ref x :: st) h K := (w_any (i := 166) (pc := 1) dJx4a65c_fastRemove_b59b0_1 rfl rfl).trans (w_ct rfl)
theorem dJx4a65c_fastRemove_b59b0_2 : decode cJx4a65c_fastRemove_b59b0 2 = .ok (.getfield 63, 3) := by decide +kernel
theorem w166_2 {d : Nat} {st : List Value} {h : xH} {K : Option Value → xH → Prop} {ls : xL} {a : Nat} : wp d 166 2 ls (.ref a :: st) h K ↔ y_get h a 0 0 (fun v => wp d 166 5 ls (v :: st) h K) := w_get (i := 166) (pc := 2) dJx4a65c_fastRemove_b59b0_2 rfl
theorem dJx4a65c_fastRemove_b59b0_5 : decode cJx4a65c_fastRemove_b59b0 5 = .ok (.iconst 1, 1) := by decide +kernel
theorem w166_5 {d : Nat} {st : List Value} {h : xH} {K : Option Value → xH → Prop} {ls : xL} : wp d 166 5 ls st h K ↔ wp d 166 6 ls (.int 1 :: st) h K := w_iconst (i := 166) (pc := 5) dJx4a65c_fastRemove_b59b0_5 (by decide)
theorem dJx4a65c_fastRemove_b59b0_6 : decode cJx4a65c_fastRemove_b59b0 6 = .ok (.iadd, 1) := by decide +kernel
theorem w166_6 {d : Nat} {st : List Value} {h : xH} {K : Option Value → xH → Prop} {ls : xL} {x y : Int32} : wp d 166 6 ls (.int y :: .int x :: st) h K ↔ wp d 166 7 ls (.int (x + y) :: st) h K := w_any (i := 166) (pc := 6) dJx4a65c_fastRemove_b59b0_6 rfl rfl
theorem dJx4a65c_fastRemove_b59b0_7 : decode cJx4a65c_fastRemove_b59b0 7 = .ok (.putfield 63, 3) := by decide +kernel
theorem w166_7 {d : Nat} {st : List Value} {h : xH} {K : Option Value → xH → Prop} {ls : xL} {x : Int32} {a : Nat} : wp d 166 7 ls (.int x :: .ref a :: st) h K ↔ y_put h a 0 0 (.int x) (fun h1 => wp d 166 10 ls st h1 K) := w_put (i := 166) (pc := 7) dJx4a65c_fastRemove_b59b0_7 rfl trivial (Or.inl rfl)
theorem dJx4a65c_fastRemove_b59b0_10 : decode cJx4a65c_fastRemove_b59b0 10 = .ok (.aload_n 0, 1) := by decide +kernel
theorem w166_10 {d : Nat} {st : List Value} {h : xH} {K : Option Value → xH → Prop} {l1 l2 l3 : Option Value} {x : Nat} : wp d 166 10 [some (.ref x), l1, l2, l3] st h K ↔ wp d 166 11 [some (.ref x), l1, l2, l3] (.ref x :: st) h K := w_any (i := 166) (pc := 10) dJx4a65c_fastRemove_b59b0_10 rfl rfl
theorem w166_10n {d : Nat} {st : List Value} {h : xH} {K : Option Value → xH → Prop} {l1 l2 l3 : Option Value} : wp d 166 10 [some .null, l1, l2, l3] st h K ↔ wp d 166 11 [some .null, l1, l2, l3] (.null :: st) h K := w_any (i := 166) (pc := 10) dJx4a65c_fastRemove_b59b0_10 rfl rfl
theorem dJx4a65c_fastRemove_b59b0_11 : decode cJx4a65c_fastRemove_b59b0 11 = .ok (.getfield 48, 3) := by decide +kernel
theorem w166_11 {d : Nat} {st : List Value} {h : xH} {K : Option Value → xH → Prop} {ls : xL} {a : Nat} : wp d 166 11 ls (.ref a :: st) h K ↔ y_get h a 0 2 (fun v => wp d 166 14 ls (v :: st) h K) := w_get (i := 166) (pc := 11) dJx4a65c_fastRemove_b59b0_11 rfl
theorem dJx4a65c_fastRemove_b59b0_14 : decode cJx4a65c_fastRemove_b59b0 14 = .ok (.iconst 1, 1) := by decide +kernel
theorem w166_14 {d : Nat} {st : List Value} {h : xH} {K : Option Value → xH → Prop} {ls : xL} : wp d 166 14 ls st h K ↔ wp d 166 15 ls (.int 1 :: st) h K := w_iconst (i := 166) (pc := 14) dJx4a65c_fastRemove_b59b0_14 (by decide)
theorem dJx4a65c_fastRemove_b59b0_15 : decode cJx4a65c_fastRemove_b59b0 15 = .ok (.isub, 1) := by decide +kernel
theorem w166_15 {d : Nat} {st : List Value} {h : xH} {K : Option Value → xH → Prop} {ls : xL} {x y : Int32} : wp d 166 15 ls (.int y :: .int x :: st) h K ↔ wp d 166 16 ls (.int (x - y) :: st) h K := w_any (i := 166) (pc := 15) dJx4a65c_fastRemove_b59b0_15 rfl rfl
theorem dJx4a65c_fastRemove_b59b0_16 : decode cJx4a65c_fastRemove_b59b0 16 = .ok (.dup, 1) := by decide +kernel
theorem w166_16 {d : Nat} {st : List Value} {h : xH} {K : Option Value → xH → Prop} {ls : xL} {x : Int32} : wp d 166 16 ls (.int x :: st) h K ↔ wp d 166 17 ls (.int x :: .int x :: st) h K := (w_any (i := 166) (pc := 16) dJx4a65c_fastRemove_b59b0_16 rfl rfl).trans (w_ct rfl)
theorem w166_16r {d : Nat} {st : List Value} {h : xH} {K : Option Value → xH → Prop} {ls : xL} {x : Nat} : wp d 166 16 ls (.ref x :: st) h K ↔ wp d 166 17 ls (.ref x :: .ref x :: st) h K := (w_any (i := 166) (pc := 16) dJx4a65c_fastRemove_b59b0_16 rfl rfl).trans (w_ct rfl)
theorem dJx4a65c_fastRemove_b59b0_17 : decode cJx4a65c_fastRemove_b59b0 17 = .ok (.istore_n 3, 1) := by decide +kernel
theorem w166_17 {d : Nat} {st : List Value} {h : xH} {K : Option Value → xH → Prop} {l0 l1 l2 l3 : Option Value} {x : Int32} : wp d 166 17 [l0, l1, l2, l3] (.int x :: st) h K ↔ wp d 166 18 [l0, l1, xk l2, some (.int x)] st h K := w_istore_n (i := 166) (pc := 17) dJx4a65c_fastRemove_b59b0_17 (Nat.le_of_ble_eq_true rfl) (show xst1 [l0, l1, l2, l3] 3 (.int x) = [l0, l1, xk l2, some (.int x)] by simp only [xst1_0, xst1_1, xst1_s, Nat.reduceAdd])
theorem dJx4a65c_fastRemove_b59b0_18 : decode cJx4a65c_fastRemove_b59b0 18 = .ok (.iload_n 2, 1) := by decide +kernel
theorem w166_18 {d : Nat} {st : List Value} {h : xH} {K : Option Value → xH → Prop} {l0 l1 l3 : Option Value} {x : Int32} : wp d 166 18 [l0, l1, some (.int x), l3] st h K ↔ wp d 166 19 [l0, l1, some (.int x), l3] (.int x :: st) h K := w_any (i := 166) (pc := 18) dJx4a65c_fastRemove_b59b0_18 rfl rfl
theorem dJx4a65c_fastRemove_b59b0_19 : decode cJx4a65c_fastRemove_b59b0 19 = .ok (.if_icmp .le 15, 3) := by decide +kernel
theorem w166_19 {d : Nat} {st : List Value} {h : xH} {K : Option Value → xH → Prop} {ls : xL} {x y : Int32} : wp d 166 19 ls (.int y :: .int x :: st) h K ↔ ((x ≤ y) → wp d 166 34 ls st h K) ∧ ((¬ (x ≤ y)) → wp d 166 22 ls st h K) := w_if2 (i := 166) (pc := 19) (cd := .le) (off := 15) (tgt := 34) dJx4a65c_fastRemove_b59b0_19 (by decide) rfl
theorem dJx4a65c_fastRemove_b59b0_22 : decode cJx4a65c_fastRemove_b59b0 22 = .ok (.aload_n 1, 1) := by decide +kernel
theorem w166_22 {d : Nat} {st : List Value} {h : xH} {K : Option Value → xH → Prop} {l0 l2 l3 : Option Value} {x : Nat} : wp d 166 22 [l0, some (.ref x), l2, l3] st h K ↔ wp d 166 23 [l0, some (.ref x), l2, l3] (.ref x :: st) h K := w_any (i := 166) (pc := 22) dJx4a65c_fastRemove_b59b0_22 rfl rfl
theorem w166_22n {d : Nat} {st : List Value} {h : xH} {K : Option Value → xH → Prop} {l0 l2 l3 : Option Value} : wp d 166 22 [l0, some .null, l2, l3] st h K ↔ wp d 166 23 [l0, some .null, l2, l3] (.null :: st) h K := w_any (i := 166) (pc := 22) dJx4a65c_fastRemove_b59b0_22 rfl rfl
theorem dJx4a65c_fastRemove_b59b0_23 : decode cJx4a65c_fastRemove_b59b0 23 = .ok (.iload_n 2, 1) := by decide +kernel
theorem w166_23 {d : Nat} {st : List Value} {h : xH} {K : Option Value → xH → Prop} {l0 l1 l3 : Option Value} {x : Int32} : wp d 166 23 [l0, l1, some (.int x), l3] st h K ↔ wp d 166 24 [l0, l1, some (.int x), l3] (.int x :: st) h K := w_any (i := 166) (pc := 23) dJx4a65c_fastRemove_b59b0_23 rfl rfl
theorem dJx4a65c_fastRemove_b59b0_24 : decode cJx4a65c_fastRemove_b59b0 24 = .ok (.iconst 1, 1) := by decide +kernel
theorem w166_24 {d : Nat} {st : List Value} {h : xH} {K : Option Value → xH → Prop} {ls : xL} : wp d 166 24 ls st h K ↔ wp d 166 25 ls (.int 1 :: st) h K := w_iconst (i := 166) (pc := 24) dJx4a65c_fastRemove_b59b0_24 (by decide)
theorem dJx4a65c_fastRemove_b59b0_25 : decode cJx4a65c_fastRemove_b59b0 25 = .ok (.iadd, 1) := by decide +kernel
theorem w166_25 {d : Nat} {st : List Value} {h : xH} {K : Option Value → xH → Prop} {ls : xL} {x y : Int32} : wp d 166 25 ls (.int y :: .int x :: st) h K ↔ wp d 166 26 ls (.int (x + y) :: st) h K := w_any (i := 166) (pc := 25) dJx4a65c_fastRemove_b59b0_25 rfl rfl
theorem dJx4a65c_fastRemove_b59b0_26 : decode cJx4a65c_fastRemove_b59b0 26 = .ok (.aload_n 1, 1) := by decide +kernel
theorem w166_26 {d : Nat} {st : List Value} {h : xH} {K : Option Value → xH → Prop} {l0 l2 l3 : Option Value} {x : Nat} : wp d 166 26 [l0, some (.ref x), l2, l3] st h K ↔ wp d 166 27 [l0, some (.ref x), l2, l3] (.ref x :: st) h K := w_any (i := 166) (pc := 26) dJx4a65c_fastRemove_b59b0_26 rfl rfl
theorem w166_26n {d : Nat} {st : List Value} {h : xH} {K : Option Value → xH → Prop} {l0 l2 l3 : Option Value} : wp d 166 26 [l0, some .null, l2, l3] st h K ↔ wp d 166 27 [l0, some .null, l2, l3] (.null :: st) h K := w_any (i := 166) (pc := 26) dJx4a65c_fastRemove_b59b0_26 rfl rfl
theorem dJx4a65c_fastRemove_b59b0_27 : decode cJx4a65c_fastRemove_b59b0 27 = .ok (.iload_n 2, 1) := by decide +kernel
theorem w166_27 {d : Nat} {st : List Value} {h : xH} {K : Option Value → xH → Prop} {l0 l1 l3 : Option Value} {x : Int32} : wp d 166 27 [l0, l1, some (.int x), l3] st h K ↔ wp d 166 28 [l0, l1, some (.int x), l3] (.int x :: st) h K := w_any (i := 166) (pc := 27) dJx4a65c_fastRemove_b59b0_27 rfl rfl
theorem dJx4a65c_fastRemove_b59b0_28 : decode cJx4a65c_fastRemove_b59b0 28 = .ok (.iload_n 3, 1) := by decide +kernel
theorem w166_28 {d : Nat} {st : List Value} {h : xH} {K : Option Value → xH → Prop} {l0 l1 l2 : Option Value} {x : Int32} : wp d 166 28 [l0, l1, l2, some (.int x)] st h K ↔ wp d 166 29 [l0, l1, l2, some (.int x)] (.int x :: st) h K := w_any (i := 166) (pc := 28) dJx4a65c_fastRemove_b59b0_28 rfl rfl
theorem dJx4a65c_fastRemove_b59b0_29 : decode cJx4a65c_fastRemove_b59b0 29 = .ok (.iload_n 2, 1) := by decide +kernel
theorem w166_29 {d : Nat} {st : List Value} {h : xH} {K : Option Value → xH → Prop} {l0 l1 l3 : Option Value} {x : Int32} : wp d 166 29 [l0, l1, some (.int x), l3] st h K ↔ wp d 166 30 [l0, l1, some (.int x), l3] (.int x :: st) h K := w_any (i := 166) (pc := 29) dJx4a65c_fastRemove_b59b0_29 rfl rfl
theorem dJx4a65c_fastRemove_b59b0_30 : decode cJx4a65c_fastRemove_b59b0 30 = .ok (.isub, 1) := by decide +kernel
theorem w166_30 {d : Nat} {st : List Value} {h : xH} {K : Option Value → xH → Prop} {ls : xL} {x y : Int32} : wp d 166 30 ls (.int y :: .int x :: st) h K ↔ wp d 166 31 ls (.int (x - y) :: st) h K := w_any (i := 166) (pc := 30) dJx4a65c_fastRemove_b59b0_30 rfl rfl
theorem dJx4a65c_fastRemove_b59b0_31 : decode cJx4a65c_fastRemove_b59b0 31 = .ok (.invokestatic 112, 3) := by decide +kernel
theorem w166_31 {d : Nat} {st : List Value} {h : xH} {K : Option Value → xH → Prop} {ls : xL} {a a0 : Nat} {sp dp n : Int32} : (xcs st ≤ 8 ∧ y_copy h a0 sp a dp n (fun h1 => wp d 166 34 ls st h1 K)) → wp d 166 31 ls (.int n :: .int dp :: .ref a :: .int sp :: .ref a0 :: st) h K := w_cpy dJx4a65c_fastRemove_b59b0_31 rfl
theorem dJx4a65c_fastRemove_b59b0_34 : decode cJx4a65c_fastRemove_b59b0 34 = .ok (.aload_n 1, 1) := by decide +kernel
theorem w166_34 {d : Nat} {st : List Value} {h : xH} {K : Option Value → xH → Prop} {l0 l2 l3 : Option Value} {x : Nat} : wp d 166 34 [l0, some (.ref x), l2, l3] st h K ↔ wp d 166 35 [l0, some (.ref x), l2, l3] (.ref x :: st) h K := w_any (i := 166) (pc := 34) dJx4a65c_fastRemove_b59b0_34 rfl rfl
theorem w166_34n {d : Nat} {st : List Value} {h : xH} {K : Option Value → xH → Prop} {l0 l2 l3 : Option Value} : wp d 166 34 [l0, some .null, l2, l3] st h K ↔ wp d 166 35 [l0, some .null, l2, l3] (.null :: st) h K := w_any (i := 166) (pc := 34) dJx4a65c_fastRemove_b59b0_34 rfl rfl
theorem dJx4a65c_fastRemove_b59b0_35 : decode cJx4a65c_fastRemove_b59b0 35 = .ok (.aload_n 0, 1) := by decide +kernel
theorem w166_35 {d : Nat} {st : List Value} {h : xH} {K : Option Value → xH → Prop} {l1 l2 l3 : Option Value} {x : Nat} : wp d 166 35 [some (.ref x), l1, l2, l3] st h K ↔ wp d 166 36 [some (.ref x), l1, l2, l3] (.ref x :: st) h K := w_any (i := 166) (pc := 35) dJx4a65c_fastRemove_b59b0_35 rfl rfl
theorem w166_35n {d : Nat} {st : List Value} {h : xH} {K : Option Value → xH → Prop} {l1 l2 l3 : Option Value} : wp d 166 35 [some .null, l1, l2, l3] st h K ↔ wp d 166 36 [some .null, l1, l2, l3] (.null :: st) h K := w_any (i := 166) (pc := 35) dJx4a65c_fastRemove_b59b0_35 rfl rfl
theorem dJx4a65c_fastRemove_b59b0_36 : decode cJx4a65c_fastRemove_b59b0 36 = .ok (.iload_n 3, 1) := by decide +kernel
theorem w166_36 {d : Nat} {st : List Value} {h : xH} {K : Option Value → xH → Prop} {l0 l1 l2 : Option Value} {x : Int32} : wp d 166 36 [l0, l1, l2, some (.int x)] st h K ↔ wp d 166 37 [l0, l1, l2, some (.int x)] (.int x :: st) h K := w_any (i := 166) (pc := 36) dJx4a65c_fastRemove_b59b0_36 rfl rfl
theorem dJx4a65c_fastRemove_b59b0_37 : decode cJx4a65c_fastRemove_b59b0 37 = .ok (.dup_x1, 1) := by decide +kernel
theorem w166_37 {d : Nat} {st : List Value} {h : xH} {K : Option Value → xH → Prop} {ls : xL} {x : Int32} {y : Nat} : wp d 166 37 ls (.int x :: .ref y :: st) h K ↔ wp d 166 38 ls (.int x :: .ref y :: .int x :: st) h K := (w_any (i := 166) (pc := 37) dJx4a65c_fastRemove_b59b0_37 rfl rfl).trans ((w_ct rfl).trans (w_ct rfl))
theorem w166_37r {d : Nat} {st : List Value} {h : xH} {K : Option Value → xH → Prop} {ls : xL} {x : Nat} {y : Nat} : wp d 166 37 ls (.ref x :: .ref y :: st) h K ↔ wp d 166 38 ls (.ref x :: .ref y :: .ref x :: st) h K := (w_any (i := 166) (pc := 37) dJx4a65c_fastRemove_b59b0_37 rfl rfl).trans ((w_ct rfl).trans (w_ct rfl))
theorem dJx4a65c_fastRemove_b59b0_38 : decode cJx4a65c_fastRemove_b59b0 38 = .ok (.putfield 48, 3) := by decide +kernel
theorem w166_38 {d : Nat} {st : List Value} {h : xH} {K : Option Value → xH → Prop} {ls : xL} {x : Int32} {a : Nat} : wp d 166 38 ls (.int x :: .ref a :: st) h K ↔ y_put h a 0 2 (.int x) (fun h1 => wp d 166 41 ls st h1 K) := w_put (i := 166) (pc := 38) dJx4a65c_fastRemove_b59b0_38 rfl trivial (Or.inl rfl)
theorem dJx4a65c_fastRemove_b59b0_41 : decode cJx4a65c_fastRemove_b59b0 41 = .ok (.aconst_null, 1) := by decide +kernel
theorem w166_41 {d : Nat} {st : List Value} {h : xH} {K : Option Value → xH → Prop} {ls : xL} : wp d 166 41 ls st h K ↔ wp d 166 42 ls (.null :: st) h K := w_any (i := 166) (pc := 41) dJx4a65c_fastRemove_b59b0_41 rfl rfl
theorem dJx4a65c_fastRemove_b59b0_42 : decode cJx4a65c_fastRemove_b59b0 42 = .ok (.aastore, 1) := by decide +kernel
theorem w166_42 {d : Nat} {st : List Value} {h : xH} {K : Option Value → xH → Prop} {ls : xL} {a b : Nat} {x : Int32} : wp d 166 42 ls (.ref b :: .int x :: .ref a :: st) h K ↔ y_aast h a x b (fun h1 => wp d 166 43 ls st h1 K) := w_aast (i := 166) (pc := 42) dJx4a65c_fastRemove_b59b0_42
theorem w166_42n {d : Nat} {st : List Value} {h : xH} {K : Option Value → xH → Prop} {ls : xL} {a : Nat} {x : Int32} : wp d 166 42 ls (.null :: .int x :: .ref a :: st) h K ↔ y_aastN h a x (fun h1 => wp d 166 43 ls st h1 K) := w_aastN (i := 166) (pc := 42) dJx4a65c_fastRemove_b59b0_42
theorem dJx4a65c_fastRemove_b59b0_43 : decode cJx4a65c_fastRemove_b59b0 43 = .ok (.return_, 1) := by decide +kernel
theorem w166_43 {d : Nat} {h : xH} {K : Option Value → xH → Prop} {ls : xL} : wp d 166 43 ls [] h K ↔ K none h := w_vret (i := 166) (pc := 43) dJx4a65c_fastRemove_b59b0_43 rfl
theorem dJx4a65c_clear_da8c8_0 : decode cJx4a65c_clear_da8c8 0 = .ok (.aload_n 0, 1) := by decide +kernel
theorem w167_0 {d : Nat} {st : List Value} {h : xH} {K : Option Value → xH → Prop} {l1 l2 l3 : Option Value} {x : Nat} : wp d 167 0 [some (.ref x), l1, l2, l3] st h K ↔ wp d 167 1 [some (.ref x), l1, l2, l3] (.ref x :: st) h K := w_any (i := 167) (pc := 0) dJx4a65c_clear_da8c8_0 rfl rfl
theorem w167_0n {d : Nat} {st : List Value} {h : xH} {K : Option Value → xH → Prop} {l1 l2 l3 : Option Value} : wp d 167 0 [some .null, l1, l2, l3] st h K ↔ wp d 167 1 [some .null, l1, l2, l3] (.null :: st) h K := w_any (i := 167) (pc := 0) dJx4a65c_clear_da8c8_0 rfl rfl
theorem dJx4a65c_clear_da8c8_1 : decode cJx4a65c_clear_da8c8 1 = .ok (.dup, 1) := by decide +kernel
theorem w167_1 {d : Nat} {st : List Value} {h : xH} {K : Option Value → xH → Prop} {ls : xL} {x : Int32} : wp d 167 1 ls (.int x :: st) h K ↔ wp d 167 2 ls (.int x :: .int x :: st) h K := (w_any (i := 167) (pc := 1) dJx4a65c_clear_da8c8_1 rfl rfl).trans (w_ct rfl)
theorem w167_1r {d : Nat} {st : List Value} {h : xH} {K : Option Value → xH → Prop} {ls : xL} {x : Nat} : wp d 167 1 ls (.ref x :: st) h K ↔ wp d 167 2 ls (.ref x :: .ref x :: st) h K := (w_any (i := 167) (pc := 1) dJx4a65c_clear_da8c8_1 rfl rfl).trans (w_ct rfl)
theorem dJx4a65c_clear_da8c8_2 : decode cJx4a65c_clear_da8c8 2 = .ok (.getfield 63, 3) := by decide +kernel
theorem w167_2 {d : Nat} {st : List Value} {h : xH} {K : Option Value → xH → Prop} {ls : xL} {a : Nat} : wp d 167 2 ls (.ref a :: st) h K ↔ y_get h a 0 0 (fun v => wp d 167 5 ls (v :: st) h K) := w_get (i := 167) (pc := 2) dJx4a65c_clear_da8c8_2 rfl
theorem dJx4a65c_clear_da8c8_5 : decode cJx4a65c_clear_da8c8 5 = .ok (.iconst 1, 1) := by decide +kernel
theorem w167_5 {d : Nat} {st : List Value} {h : xH} {K : Option Value → xH → Prop} {ls : xL} : wp d 167 5 ls st h K ↔ wp d 167 6 ls (.int 1 :: st) h K := w_iconst (i := 167) (pc := 5) dJx4a65c_clear_da8c8_5 (by decide)
theorem dJx4a65c_clear_da8c8_6 : decode cJx4a65c_clear_da8c8 6 = .ok (.iadd, 1) := by decide +kernel
theorem w167_6 {d : Nat} {st : List Value} {h : xH} {K : Option Value → xH → Prop} {ls : xL} {x y : Int32} : wp d 167 6 ls (.int y :: .int x :: st) h K ↔ wp d 167 7 ls (.int (x + y) :: st) h K := w_any (i := 167) (pc := 6) dJx4a65c_clear_da8c8_6 rfl rfl
theorem dJx4a65c_clear_da8c8_7 : decode cJx4a65c_clear_da8c8 7 = .ok (.putfield 63, 3) := by decide +kernel
theorem w167_7 {d : Nat} {st : List Value} {h : xH} {K : Option Value → xH → Prop} {ls : xL} {x : Int32} {a : Nat} : wp d 167 7 ls (.int x :: .ref a :: st) h K ↔ y_put h a 0 0 (.int x) (fun h1 => wp d 167 10 ls st h1 K) := w_put (i := 167) (pc := 7) dJx4a65c_clear_da8c8_7 rfl trivial (Or.inl rfl)
theorem dJx4a65c_clear_da8c8_10 : decode cJx4a65c_clear_da8c8 10 = .ok (.aload_n 0, 1) := by decide +kernel
theorem w167_10 {d : Nat} {st : List Value} {h : xH} {K : Option Value → xH → Prop} {l1 l2 l3 : Option Value} {x : Nat} : wp d 167 10 [some (.ref x), l1, l2, l3] st h K ↔ wp d 167 11 [some (.ref x), l1, l2, l3] (.ref x :: st) h K := w_any (i := 167) (pc := 10) dJx4a65c_clear_da8c8_10 rfl rfl
theorem w167_10n {d : Nat} {st : List Value} {h : xH} {K : Option Value → xH → Prop} {l1 l2 l3 : Option Value} : wp d 167 10 [some .null, l1, l2, l3] st h K ↔ wp d 167 11 [some .null, l1, l2, l3] (.null :: st) h K := w_any (i := 167) (pc := 10) dJx4a65c_clear_da8c8_10 rfl rfl
theorem dJx4a65c_clear_da8c8_11 : decode cJx4a65c_clear_da8c8 11 = .ok (.getfield 9, 3) := by decide +kernel
theorem w167_11 {d : Nat} {st : List Value} {h : xH} {K : Option Value → xH → Prop} {ls : xL} {a : Nat} : wp d 167 11 ls (.ref a :: st) h K ↔ y_get h a 0 1 (fun v => wp d 167 14 ls (v :: st) h K) := w_get (i := 167) (pc := 11) dJx4a65c_clear_da8c8_11 rfl
theorem dJx4a65c_clear_da8c8_14 : decode cJx4a65c_clear_da8c8 14 = .ok (.astore_n 1, 1) := by decide +kernel
theorem w167_14 {d : Nat} {st : List Value} {h : xH} {K : Option Value → xH → Prop} {l0 l1 l2 l3 : Option Value} {x : Nat} : wp d 167 14 [l0, l1, l2, l3] (.ref x :: st) h K ↔ wp d 167 15 [xk l0, some (.ref x), l2, l3] st h K := w_astore_n (i := 167) (pc := 14) dJx4a65c_clear_da8c8_14 (Nat.le_of_ble_eq_true rfl) (show xst1 [l0, l1, l2, l3] 1 (.ref x) = [xk l0, some (.ref x), l2, l3] by simp only [xst1_0, xst1_1, xst1_s, Nat.reduceAdd])
theorem w167_14n {d : Nat} {st : List Value} {h : xH} {K : Option Value → xH → Prop} {l0 l1 l2 l3 : Option Value} : wp d 167 14 [l0, l1, l2, l3] (.null :: st) h K ↔ wp d 167 15 [xk l0, some (.null), l2, l3] st h K := w_astore_nN (i := 167) (pc := 14) dJx4a65c_clear_da8c8_14 (Nat.le_of_ble_eq_true rfl) (show xst1 [l0, l1, l2, l3] 1 (.null) = [xk l0, some (.null), l2, l3] by simp only [xst1_0, xst1_1, xst1_s, Nat.reduceAdd])
theorem dJx4a65c_clear_da8c8_15 : decode cJx4a65c_clear_da8c8 15 = .ok (.aload_n 0, 1) := by decide +kernel
theorem w167_15 {d : Nat} {st : List Value} {h : xH} {K : Option Value → xH → Prop} {l1 l2 l3 : Option Value} {x : Nat} : wp d 167 15 [some (.ref x), l1, l2, l3] st h K ↔ wp d 167 16 [some (.ref x), l1, l2, l3] (.ref x :: st) h K := w_any (i := 167) (pc := 15) dJx4a65c_clear_da8c8_15 rfl rfl
theorem w167_15n {d : Nat} {st : List Value} {h : xH} {K : Option Value → xH → Prop} {l1 l2 l3 : Option Value} : wp d 167 15 [some .null, l1, l2, l3] st h K ↔ wp d 167 16 [some .null, l1, l2, l3] (.null :: st) h K := w_any (i := 167) (pc := 15) dJx4a65c_clear_da8c8_15 rfl rfl
theorem dJx4a65c_clear_da8c8_16 : decode cJx4a65c_clear_da8c8 16 = .ok (.getfield 48, 3) := by decide +kernel
theorem w167_16 {d : Nat} {st : List Value} {h : xH} {K : Option Value → xH → Prop} {ls : xL} {a : Nat} : wp d 167 16 ls (.ref a :: st) h K ↔ y_get h a 0 2 (fun v => wp d 167 19 ls (v :: st) h K) := w_get (i := 167) (pc := 16) dJx4a65c_clear_da8c8_16 rfl
theorem dJx4a65c_clear_da8c8_19 : decode cJx4a65c_clear_da8c8 19 = .ok (.istore_n 2, 1) := by decide +kernel
theorem w167_19 {d : Nat} {st : List Value} {h : xH} {K : Option Value → xH → Prop} {l0 l1 l2 l3 : Option Value} {x : Int32} : wp d 167 19 [l0, l1, l2, l3] (.int x :: st) h K ↔ wp d 167 20 [l0, xk l1, some (.int x), l3] st h K := w_istore_n (i := 167) (pc := 19) dJx4a65c_clear_da8c8_19 (Nat.le_of_ble_eq_true rfl) (show xst1 [l0, l1, l2, l3] 2 (.int x) = [l0, xk l1, some (.int x), l3] by simp only [xst1_0, xst1_1, xst1_s, Nat.reduceAdd])
theorem dJx4a65c_clear_da8c8_20 : decode cJx4a65c_clear_da8c8 20 = .ok (.aload_n 0, 1) := by decide +kernel
theorem w167_20 {d : Nat} {st : List Value} {h : xH} {K : Option Value → xH → Prop} {l1 l2 l3 : Option Value} {x : Nat} : wp d 167 20 [some (.ref x), l1, l2, l3] st h K ↔ wp d 167 21 [some (.ref x), l1, l2, l3] (.ref x :: st) h K := w_any (i := 167) (pc := 20) dJx4a65c_clear_da8c8_20 rfl rfl
theorem w167_20n {d : Nat} {st : List Value} {h : xH} {K : Option Value → xH → Prop} {l1 l2 l3 : Option Value} : wp d 167 20 [some .null, l1, l2, l3] st h K ↔ wp d 167 21 [some .null, l1, l2, l3] (.null :: st) h K := w_any (i := 167) (pc := 20) dJx4a65c_clear_da8c8_20 rfl rfl
theorem dJx4a65c_clear_da8c8_21 : decode cJx4a65c_clear_da8c8 21 = .ok (.iconst 0, 1) := by decide +kernel
theorem w167_21 {d : Nat} {st : List Value} {h : xH} {K : Option Value → xH → Prop} {ls : xL} : wp d 167 21 ls st h K ↔ wp d 167 22 ls (.int 0 :: st) h K := w_iconst (i := 167) (pc := 21) dJx4a65c_clear_da8c8_21 (by decide)
theorem dJx4a65c_clear_da8c8_22 : decode cJx4a65c_clear_da8c8 22 = .ok (.dup_x1, 1) := by decide +kernel
theorem w167_22 {d : Nat} {st : List Value} {h : xH} {K : Option Value → xH → Prop} {ls : xL} {x : Int32} {y : Nat} : wp d 167 22 ls (.int x :: .ref y :: st) h K ↔ wp d 167 23 ls (.int x :: .ref y :: .int x :: st) h K := (w_any (i := 167) (pc := 22) dJx4a65c_clear_da8c8_22 rfl rfl).trans ((w_ct rfl).trans (w_ct rfl))
theorem w167_22r {d : Nat} {st : List Value} {h : xH} {K : Option Value → xH → Prop} {ls : xL} {x : Nat} {y : Nat} : wp d 167 22 ls (.ref x :: .ref y :: st) h K ↔ wp d 167 23 ls (.ref x :: .ref y :: .ref x :: st) h K := (w_any (i := 167) (pc := 22) dJx4a65c_clear_da8c8_22 rfl rfl).trans ((w_ct rfl).trans (w_ct rfl))
theorem dJx4a65c_clear_da8c8_23 : decode cJx4a65c_clear_da8c8 23 = .ok (.putfield 48, 3) := by decide +kernel
theorem w167_23 {d : Nat} {st : List Value} {h : xH} {K : Option Value → xH → Prop} {ls : xL} {x : Int32} {a : Nat} : wp d 167 23 ls (.int x :: .ref a :: st) h K ↔ y_put h a 0 2 (.int x) (fun h1 => wp d 167 26 ls st h1 K) := w_put (i := 167) (pc := 23) dJx4a65c_clear_da8c8_23 rfl trivial (Or.inl rfl)
theorem dJx4a65c_clear_da8c8_26 : decode cJx4a65c_clear_da8c8 26 = .ok (.istore_n 3, 1) := by decide +kernel
theorem w167_26 {d : Nat} {st : List Value} {h : xH} {K : Option Value → xH → Prop} {l0 l1 l2 l3 : Option Value} {x : Int32} : wp d 167 26 [l0, l1, l2, l3] (.int x :: st) h K ↔ wp d 167 27 [l0, l1, xk l2, some (.int x)] st h K := w_istore_n (i := 167) (pc := 26) dJx4a65c_clear_da8c8_26 (Nat.le_of_ble_eq_true rfl) (show xst1 [l0, l1, l2, l3] 3 (.int x) = [l0, l1, xk l2, some (.int x)] by simp only [xst1_0, xst1_1, xst1_s, Nat.reduceAdd])
theorem dJx4a65c_clear_da8c8_27 : decode cJx4a65c_clear_da8c8 27 = .ok (.iload_n 3, 1) := by decide +kernel
theorem w167_27 {d : Nat} {st : List Value} {h : xH} {K : Option Value → xH → Prop} {l0 l1 l2 : Option Value} {x : Int32} : wp d 167 27 [l0, l1, l2, some (.int x)] st h K ↔ wp d 167 28 [l0, l1, l2, some (.int x)] (.int x :: st) h K := w_any (i := 167) (pc := 27) dJx4a65c_clear_da8c8_27 rfl rfl
theorem dJx4a65c_clear_da8c8_28 : decode cJx4a65c_clear_da8c8 28 = .ok (.iload_n 2, 1) := by decide +kernel
theorem w167_28 {d : Nat} {st : List Value} {h : xH} {K : Option Value → xH → Prop} {l0 l1 l3 : Option Value} {x : Int32} : wp d 167 28 [l0, l1, some (.int x), l3] st h K ↔ wp d 167 29 [l0, l1, some (.int x), l3] (.int x :: st) h K := w_any (i := 167) (pc := 28) dJx4a65c_clear_da8c8_28 rfl rfl
theorem dJx4a65c_clear_da8c8_29 : decode cJx4a65c_clear_da8c8 29 = .ok (.if_icmp .ge 13, 3) := by decide +kernel
theorem w167_29 {d : Nat} {st : List Value} {h : xH} {K : Option Value → xH → Prop} {ls : xL} {x y : Int32} : wp d 167 29 ls (.int y :: .int x :: st) h K ↔ ((y ≤ x) → wp d 167 42 ls st h K) ∧ ((¬ (y ≤ x)) → wp d 167 32 ls st h K) := w_if2 (i := 167) (pc := 29) (cd := .ge) (off := 13) (tgt := 42) dJx4a65c_clear_da8c8_29 (by decide) rfl
theorem dJx4a65c_clear_da8c8_32 : decode cJx4a65c_clear_da8c8 32 = .ok (.aload_n 1, 1) := by decide +kernel
theorem w167_32 {d : Nat} {st : List Value} {h : xH} {K : Option Value → xH → Prop} {l0 l2 l3 : Option Value} {x : Nat} : wp d 167 32 [l0, some (.ref x), l2, l3] st h K ↔ wp d 167 33 [l0, some (.ref x), l2, l3] (.ref x :: st) h K := w_any (i := 167) (pc := 32) dJx4a65c_clear_da8c8_32 rfl rfl
theorem w167_32n {d : Nat} {st : List Value} {h : xH} {K : Option Value → xH → Prop} {l0 l2 l3 : Option Value} : wp d 167 32 [l0, some .null, l2, l3] st h K ↔ wp d 167 33 [l0, some .null, l2, l3] (.null :: st) h K := w_any (i := 167) (pc := 32) dJx4a65c_clear_da8c8_32 rfl rfl
theorem dJx4a65c_clear_da8c8_33 : decode cJx4a65c_clear_da8c8 33 = .ok (.iload_n 3, 1) := by decide +kernel
theorem w167_33 {d : Nat} {st : List Value} {h : xH} {K : Option Value → xH → Prop} {l0 l1 l2 : Option Value} {x : Int32} : wp d 167 33 [l0, l1, l2, some (.int x)] st h K ↔ wp d 167 34 [l0, l1, l2, some (.int x)] (.int x :: st) h K := w_any (i := 167) (pc := 33) dJx4a65c_clear_da8c8_33 rfl rfl
theorem dJx4a65c_clear_da8c8_34 : decode cJx4a65c_clear_da8c8 34 = .ok (.aconst_null, 1) := by decide +kernel
theorem w167_34 {d : Nat} {st : List Value} {h : xH} {K : Option Value → xH → Prop} {ls : xL} : wp d 167 34 ls st h K ↔ wp d 167 35 ls (.null :: st) h K := w_any (i := 167) (pc := 34) dJx4a65c_clear_da8c8_34 rfl rfl
theorem dJx4a65c_clear_da8c8_35 : decode cJx4a65c_clear_da8c8 35 = .ok (.aastore, 1) := by decide +kernel
theorem w167_35 {d : Nat} {st : List Value} {h : xH} {K : Option Value → xH → Prop} {ls : xL} {a b : Nat} {x : Int32} : wp d 167 35 ls (.ref b :: .int x :: .ref a :: st) h K ↔ y_aast h a x b (fun h1 => wp d 167 36 ls st h1 K) := w_aast (i := 167) (pc := 35) dJx4a65c_clear_da8c8_35
theorem w167_35n {d : Nat} {st : List Value} {h : xH} {K : Option Value → xH → Prop} {ls : xL} {a : Nat} {x : Int32} : wp d 167 35 ls (.null :: .int x :: .ref a :: st) h K ↔ y_aastN h a x (fun h1 => wp d 167 36 ls st h1 K) := w_aastN (i := 167) (pc := 35) dJx4a65c_clear_da8c8_35
theorem dJx4a65c_clear_da8c8_36 : decode cJx4a65c_clear_da8c8 36 = .ok (.iinc 3 1, 3) := by decide +kernel
theorem w167_36 {d : Nat} {st : List Value} {h : xH} {K : Option Value → xH → Prop} {l0 l1 l2 : Option Value} {x : Int32} : wp d 167 36 [l0, l1, l2, some (.int x)] st h K ↔ wp d 167 39 [l0, l1, xk l2, some (.int (x + 1))] st h K := w_iinc (i := 167) (pc := 36) dJx4a65c_clear_da8c8_36 rfl (Nat.le_of_ble_eq_true rfl) (by decide) (show xst1 [l0, l1, l2, some (.int x)] 3 (.int (x + 1)) = [l0, l1, xk l2, some (.int (x + 1))] by simp only [xst1_0, xst1_1, xst1_s, Nat.reduceAdd])
theorem dJx4a65c_clear_da8c8_39 : decode cJx4a65c_clear_da8c8 39 = .ok (.goto (-12), 3) := by decide +kernel
theorem w167_39 {d : Nat} {st : List Value} {h : xH} {K : Option Value → xH → Prop} {ls : xL} : wp d 167 39 ls st h K ↔ wp d 167 27 ls st h K := w_goto (i := 167) (pc := 39) dJx4a65c_clear_da8c8_39 (by decide) rfl
theorem dJx4a65c_clear_da8c8_42 : decode cJx4a65c_clear_da8c8 42 = .ok (.return_, 1) := by decide +kernel
theorem w167_42 {d : Nat} {h : xH} {K : Option Value → xH → Prop} {ls : xL} : wp d 167 42 ls [] h K ↔ K none h := w_vret (i := 167) (pc := 42) dJx4a65c_clear_da8c8_42 rfl
theorem dJ7_fill_53178_0 : decode cJ7_fill_53178 0 = .ok (.iconst 0, 1) := by decide +kernel
theorem w168_0 {d : Nat} {st : List Value} {h : xH} {K : Option Value → xH → Prop} {ls : xL} : wp d 168 0 ls st h K ↔ wp d 168 1 ls (.int 0 :: st) h K := w_iconst (i := 168) (pc := 0) dJ7_fill_53178_0 (by decide)
theorem dJ7_fill_53178_1 : decode cJ7_fill_53178 1 = .ok (.istore_n 2, 1) := by decide +kernel
theorem w168_1 {d : Nat} {st : List Value} {h : xH} {K : Option Value → xH → Prop} {l0 l1 l2 l3 : Option Value} {x : Int32} : wp d 168 1 [l0, l1, l2, l3] (.int x :: st) h K ↔ wp d 168 2 [l0, xk l1, some (.int x), l3] st h K := w_istore_n (i := 168) (pc := 1) dJ7_fill_53178_1 (Nat.le_of_ble_eq_true rfl) (show xst1 [l0, l1, l2, l3] 2 (.int x) = [l0, xk l1, some (.int x), l3] by simp only [xst1_0, xst1_1, xst1_s, Nat.reduceAdd])
theorem dJ7_fill_53178_2 : decode cJ7_fill_53178 2 = .ok (.aload_n 0, 1) := by decide +kernel
theorem w168_2 {d : Nat} {st : List Value} {h : xH} {K : Option Value → xH → Prop} {l1 l2 l3 : Option Value} {x : Nat} : wp d 168 2 [some (.ref x), l1, l2, l3] st h K ↔ wp d 168 3 [some (.ref x), l1, l2, l3] (.ref x :: st) h K := w_any (i := 168) (pc := 2) dJ7_fill_53178_2 rfl rfl
theorem w168_2n {d : Nat} {st : List Value} {h : xH} {K : Option Value → xH → Prop} {l1 l2 l3 : Option Value} : wp d 168 2 [some .null, l1, l2, l3] st h K ↔ wp d 168 3 [some .null, l1, l2, l3] (.null :: st) h K := w_any (i := 168) (pc := 2) dJ7_fill_53178_2 rfl rfl
theorem dJ7_fill_53178_3 : decode cJ7_fill_53178 3 = .ok (.arraylength, 1) := by decide +kernel
theorem w168_3 {d : Nat} {st : List Value} {h : xH} {K : Option Value → xH → Prop} {ls : xL} {a : Nat} : wp d 168 3 ls (.ref a :: st) h K ↔ y_alen h a (fun v => wp d 168 4 ls (.int v :: st) h K) := w_alen (i := 168) (pc := 3) dJ7_fill_53178_3
theorem dJ7_fill_53178_4 : decode cJ7_fill_53178 4 = .ok (.istore_n 3, 1) := by decide +kernel
theorem w168_4 {d : Nat} {st : List Value} {h : xH} {K : Option Value → xH → Prop} {l0 l1 l2 l3 : Option Value} {x : Int32} : wp d 168 4 [l0, l1, l2, l3] (.int x :: st) h K ↔ wp d 168 5 [l0, l1, xk l2, some (.int x)] st h K := w_istore_n (i := 168) (pc := 4) dJ7_fill_53178_4 (Nat.le_of_ble_eq_true rfl) (show xst1 [l0, l1, l2, l3] 3 (.int x) = [l0, l1, xk l2, some (.int x)] by simp only [xst1_0, xst1_1, xst1_s, Nat.reduceAdd])
theorem dJ7_fill_53178_5 : decode cJ7_fill_53178 5 = .ok (.iload_n 2, 1) := by decide +kernel
theorem w168_5 {d : Nat} {st : List Value} {h : xH} {K : Option Value → xH → Prop} {l0 l1 l3 : Option Value} {x : Int32} : wp d 168 5 [l0, l1, some (.int x), l3] st h K ↔ wp d 168 6 [l0, l1, some (.int x), l3] (.int x :: st) h K := w_any (i := 168) (pc := 5) dJ7_fill_53178_5 rfl rfl
theorem dJ7_fill_53178_6 : decode cJ7_fill_53178 6 = .ok (.iload_n 3, 1) := by decide +kernel
theorem w168_6 {d : Nat} {st : List Value} {h : xH} {K : Option Value → xH → Prop} {l0 l1 l2 : Option Value} {x : Int32} : wp d 168 6 [l0, l1, l2, some (.int x)] st h K ↔ wp d 168 7 [l0, l1, l2, some (.int x)] (.int x :: st) h K := w_any (i := 168) (pc := 6) dJ7_fill_53178_6 rfl rfl
theorem dJ7_fill_53178_7 : decode cJ7_fill_53178 7 = .ok (.if_icmp .ge 13, 3) := by decide +kernel
theorem w168_7 {d : Nat} {st : List Value} {h : xH} {K : Option Value → xH → Prop} {ls : xL} {x y : Int32} : wp d 168 7 ls (.int y :: .int x :: st) h K ↔ ((y ≤ x) → wp d 168 20 ls st h K) ∧ ((¬ (y ≤ x)) → wp d 168 10 ls st h K) := w_if2 (i := 168) (pc := 7) (cd := .ge) (off := 13) (tgt := 20) dJ7_fill_53178_7 (by decide) rfl
theorem dJ7_fill_53178_10 : decode cJ7_fill_53178 10 = .ok (.aload_n 0, 1) := by decide +kernel
theorem w168_10 {d : Nat} {st : List Value} {h : xH} {K : Option Value → xH → Prop} {l1 l2 l3 : Option Value} {x : Nat} : wp d 168 10 [some (.ref x), l1, l2, l3] st h K ↔ wp d 168 11 [some (.ref x), l1, l2, l3] (.ref x :: st) h K := w_any (i := 168) (pc := 10) dJ7_fill_53178_10 rfl rfl
theorem w168_10n {d : Nat} {st : List Value} {h : xH} {K : Option Value → xH → Prop} {l1 l2 l3 : Option Value} : wp d 168 10 [some .null, l1, l2, l3] st h K ↔ wp d 168 11 [some .null, l1, l2, l3] (.null :: st) h K := w_any (i := 168) (pc := 10) dJ7_fill_53178_10 rfl rfl
theorem dJ7_fill_53178_11 : decode cJ7_fill_53178 11 = .ok (.iload_n 2, 1) := by decide +kernel
theorem w168_11 {d : Nat} {st : List Value} {h : xH} {K : Option Value → xH → Prop} {l0 l1 l3 : Option Value} {x : Int32} : wp d 168 11 [l0, l1, some (.int x), l3] st h K ↔ wp d 168 12 [l0, l1, some (.int x), l3] (.int x :: st) h K := w_any (i := 168) (pc := 11) dJ7_fill_53178_11 rfl rfl
theorem dJ7_fill_53178_12 : decode cJ7_fill_53178 12 = .ok (.iload_n 1, 1) := by decide +kernel
theorem w168_12 {d : Nat} {st : List Value} {h : xH} {K : Option Value → xH → Prop} {l0 l2 l3 : Option Value} {x : Int32} : wp d 168 12 [l0, some (.int x), l2, l3] st h K ↔ wp d 168 13 [l0, some (.int x), l2, l3] (.int x :: st) h K := w_any (i := 168) (pc := 12) dJ7_fill_53178_12 rfl rfl
theorem dJ7_fill_53178_13 : decode cJ7_fill_53178 13 = .ok (.iastore, 1) := by decide +kernel
theorem w168_13 {d : Nat} {st : List Value} {h : xH} {K : Option Value → xH → Prop} {ls : xL} {a : Nat} {x v : Int32} : wp d 168 13 ls (.int v :: .int x :: .ref a :: st) h K ↔ y_iast h a x v (fun h1 => wp d 168 14 ls st h1 K) := w_iast (i := 168) (pc := 13) dJ7_fill_53178_13
theorem dJ7_fill_53178_14 : decode cJ7_fill_53178 14 = .ok (.iinc 2 1, 3) := by decide +kernel
theorem w168_14 {d : Nat} {st : List Value} {h : xH} {K : Option Value → xH → Prop} {l0 l1 l3 : Option Value} {x : Int32} : wp d 168 14 [l0, l1, some (.int x), l3] st h K ↔ wp d 168 17 [l0, xk l1, some (.int (x + 1)), l3] st h K := w_iinc (i := 168) (pc := 14) dJ7_fill_53178_14 rfl (Nat.le_of_ble_eq_true rfl) (by decide) (show xst1 [l0, l1, some (.int x), l3] 2 (.int (x + 1)) = [l0, xk l1, some (.int (x + 1)), l3] by simp only [xst1_0, xst1_1, xst1_s, Nat.reduceAdd])
theorem dJ7_fill_53178_17 : decode cJ7_fill_53178 17 = .ok (.goto (-12), 3) := by decide +kernel
theorem w168_17 {d : Nat} {st : List Value} {h : xH} {K : Option Value → xH → Prop} {ls : xL} : wp d 168 17 ls st h K ↔ wp d 168 5 ls st h K := w_goto (i := 168) (pc := 17) dJ7_fill_53178_17 (by decide) rfl
theorem dJ7_fill_53178_20 : decode cJ7_fill_53178 20 = .ok (.return_, 1) := by decide +kernel
theorem w168_20 {d : Nat} {h : xH} {K : Option Value → xH → Prop} {ls : xL} : wp d 168 20 ls [] h K ↔ K none h := w_vret (i := 168) (pc := 20) dJ7_fill_53178_20 rfl
theorem dJ7_copyOf_1904c_0 : decode cJ7_copyOf_1904c 0 = .ok (.aload_n 0, 1) := by decide +kernel
theorem w169_0 {d : Nat} {st : List Value} {h : xH} {K : Option Value → xH → Prop} {l1 : Option Value} {x : Nat} : wp d 169 0 [some (.ref x), l1] st h K ↔ wp d 169 1 [some (.ref x), l1] (.ref x :: st) h K := w_any (i := 169) (pc := 0) dJ7_copyOf_1904c_0 rfl rfl
theorem w169_0n {d : Nat} {st : List Value} {h : xH} {K : Option Value → xH → Prop} {l1 : Option Value} : wp d 169 0 [some .null, l1] st h K ↔ wp d 169 1 [some .null, l1] (.null :: st) h K := w_any (i := 169) (pc := 0) dJ7_copyOf_1904c_0 rfl rfl
theorem dJ7_copyOf_1904c_1 : decode cJ7_copyOf_1904c 1 = .ok (.iload_n 1, 1) := by decide +kernel
theorem w169_1 {d : Nat} {st : List Value} {h : xH} {K : Option Value → xH → Prop} {l0 : Option Value} {x : Int32} : wp d 169 1 [l0, some (.int x)] st h K ↔ wp d 169 2 [l0, some (.int x)] (.int x :: st) h K := w_any (i := 169) (pc := 1) dJ7_copyOf_1904c_1 rfl rfl
theorem dJ7_copyOf_1904c_2 : decode cJ7_copyOf_1904c 2 = .ok (.aload_n 0, 1) := by decide +kernel
theorem w169_2 {d : Nat} {st : List Value} {h : xH} {K : Option Value → xH → Prop} {l1 : Option Value} {x : Nat} : wp d 169 2 [some (.ref x), l1] st h K ↔ wp d 169 3 [some (.ref x), l1] (.ref x :: st) h K := w_any (i := 169) (pc := 2) dJ7_copyOf_1904c_2 rfl rfl
theorem w169_2n {d : Nat} {st : List Value} {h : xH} {K : Option Value → xH → Prop} {l1 : Option Value} : wp d 169 2 [some .null, l1] st h K ↔ wp d 169 3 [some .null, l1] (.null :: st) h K := w_any (i := 169) (pc := 2) dJ7_copyOf_1904c_2 rfl rfl
theorem dJ7_copyOf_1904c_3 : decode cJ7_copyOf_1904c 3 = .ok (.invokevirtual 86, 3) := by decide +kernel
theorem dJ7_copyOf_1904c_6 : decode cJ7_copyOf_1904c 6 = .ok (.invokestatic 300, 3) := by decide +kernel
theorem w169_6 {d : Nat} {st : List Value} {h : xH} {K : Option Value → xH → Prop} {ls : xL} {a0 : Nat} {a1 : Int32} {a2 : Nat} : wp (d + 1) 169 6 ls (.ref a2 :: .int a1 :: .ref a0 :: st) h K ↔ xcs st ≤ 8 ∧ wp d 170 0 [some (.ref a0), some (.int a1), some (.ref a2), none] [] h (fun v h1 => wp (d + 1) 169 9 ls (v.toList ++ st) h1 K) := w_callS (i := 169) (pc := 6) (as := [.ref a0, .int a1, .ref a2]) (rest := st) dJ7_copyOf_1904c_6 rfl (by decide) rfl rfl rfl rfl rfl
theorem dJ7_copyOf_1904c_9 : decode cJ7_copyOf_1904c 9 = .ok (.areturn, 1) := by decide +kernel
theorem w169_9 {d : Nat} {h : xH} {K : Option Value → xH → Prop} {ls : xL} {x : Nat} : wp d 169 9 ls [.ref x] h K ↔ K (some (.ref x)) h := w_aret (i := 169) (pc := 9) dJ7_copyOf_1904c_9 rfl rfl
theorem w169_9n {d : Nat} {h : xH} {K : Option Value → xH → Prop} {ls : xL} : wp d 169 9 ls [.null] h K ↔ K (some .null) h := w_aretN (i := 169) (pc := 9) dJ7_copyOf_1904c_9 rfl rfl
theorem dJ7_copyOf_6403c_0 : decode cJ7_copyOf_6403c 0 = .ok (.aload_n 2, 1) := by decide +kernel
theorem w170_0 {d : Nat} {st : List Value} {h : xH} {K : Option Value → xH → Prop} {l0 l1 l3 : Option Value} {x : Nat} : wp d 170 0 [l0, l1, some (.ref x), l3] st h K ↔ wp d 170 1 [l0, l1, some (.ref x), l3] (.ref x :: st) h K := w_any (i := 170) (pc := 0) dJ7_copyOf_6403c_0 rfl rfl
theorem w170_0n {d : Nat} {st : List Value} {h : xH} {K : Option Value → xH → Prop} {l0 l1 l3 : Option Value} : wp d 170 0 [l0, l1, some .null, l3] st h K ↔ wp d 170 1 [l0, l1, some .null, l3] (.null :: st) h K := w_any (i := 170) (pc := 0) dJ7_copyOf_6403c_0 rfl rfl
theorem dJ7_copyOf_6403c_1 : decode cJ7_copyOf_6403c 1 = .ok (.ldc 110, 2) := by decide +kernel
theorem dJ7_copyOf_6403c_3 : decode cJ7_copyOf_6403c 3 = .ok (.if_acmp .ne 10, 3) := by decide +kernel
theorem dJ7_copyOf_6403c_6 : decode cJ7_copyOf_6403c 6 = .ok (.iload_n 1, 1) := by decide +kernel
theorem w170_6 {d : Nat} {st : List Value} {h : xH} {K : Option Value → xH → Prop} {l0 l2 l3 : Option Value} {x : Int32} : wp d 170 6 [l0, some (.int x), l2, l3] st h K ↔ wp d 170 7 [l0, some (.int x), l2, l3] (.int x :: st) h K := w_any (i := 170) (pc := 6) dJ7_copyOf_6403c_6 rfl rfl
theorem dJ7_copyOf_6403c_7 : decode cJ7_copyOf_6403c 7 = .ok (.anewarray 2, 3) := by decide +kernel
theorem dJ7_copyOf_6403c_10 : decode cJ7_copyOf_6403c 10 = .ok (.goto 14, 3) := by decide +kernel
theorem w170_10 {d : Nat} {st : List Value} {h : xH} {K : Option Value → xH → Prop} {ls : xL} : wp d 170 10 ls st h K ↔ wp d 170 24 ls st h K := w_goto (i := 170) (pc := 10) dJ7_copyOf_6403c_10 (by decide) rfl
theorem dJ7_copyOf_6403c_13 : decode cJ7_copyOf_6403c 13 = .ok (.aload_n 2, 1) := by decide +kernel
theorem w170_13 {d : Nat} {st : List Value} {h : xH} {K : Option Value → xH → Prop} {l0 l1 l3 : Option Value} {x : Nat} : wp d 170 13 [l0, l1, some (.ref x), l3] st h K ↔ wp d 170 14 [l0, l1, some (.ref x), l3] (.ref x :: st) h K := w_any (i := 170) (pc := 13) dJ7_copyOf_6403c_13 rfl rfl
theorem w170_13n {d : Nat} {st : List Value} {h : xH} {K : Option Value → xH → Prop} {l0 l1 l3 : Option Value} : wp d 170 13 [l0, l1, some .null, l3] st h K ↔ wp d 170 14 [l0, l1, some .null, l3] (.null :: st) h K := w_any (i := 170) (pc := 13) dJ7_copyOf_6403c_13 rfl rfl
theorem dJ7_copyOf_6403c_14 : decode cJ7_copyOf_6403c 14 = .ok (.invokevirtual 90, 3) := by decide +kernel
theorem dJ7_copyOf_6403c_17 : decode cJ7_copyOf_6403c 17 = .ok (.iload_n 1, 1) := by decide +kernel
theorem w170_17 {d : Nat} {st : List Value} {h : xH} {K : Option Value → xH → Prop} {l0 l2 l3 : Option Value} {x : Int32} : wp d 170 17 [l0, some (.int x), l2, l3] st h K ↔ wp d 170 18 [l0, some (.int x), l2, l3] (.int x :: st) h K := w_any (i := 170) (pc := 17) dJ7_copyOf_6403c_17 rfl rfl
theorem dJ7_copyOf_6403c_18 : decode cJ7_copyOf_6403c 18 = .ok (.invokestatic 95, 3) := by decide +kernel
theorem dJ7_copyOf_6403c_21 : decode cJ7_copyOf_6403c 21 = .ok (.checkcast 110, 3) := by decide +kernel
theorem dJ7_copyOf_6403c_24 : decode cJ7_copyOf_6403c 24 = .ok (.astore_n 3, 1) := by decide +kernel
theorem w170_24 {d : Nat} {st : List Value} {h : xH} {K : Option Value → xH → Prop} {l0 l1 l2 l3 : Option Value} {x : Nat} : wp d 170 24 [l0, l1, l2, l3] (.ref x :: st) h K ↔ wp d 170 25 [l0, l1, xk l2, some (.ref x)] st h K := w_astore_n (i := 170) (pc := 24) dJ7_copyOf_6403c_24 (Nat.le_of_ble_eq_true rfl) (show xst1 [l0, l1, l2, l3] 3 (.ref x) = [l0, l1, xk l2, some (.ref x)] by simp only [xst1_0, xst1_1, xst1_s, Nat.reduceAdd])
theorem w170_24n {d : Nat} {st : List Value} {h : xH} {K : Option Value → xH → Prop} {l0 l1 l2 l3 : Option Value} : wp d 170 24 [l0, l1, l2, l3] (.null :: st) h K ↔ wp d 170 25 [l0, l1, xk l2, some (.null)] st h K := w_astore_nN (i := 170) (pc := 24) dJ7_copyOf_6403c_24 (Nat.le_of_ble_eq_true rfl) (show xst1 [l0, l1, l2, l3] 3 (.null) = [l0, l1, xk l2, some (.null)] by simp only [xst1_0, xst1_1, xst1_s, Nat.reduceAdd])
theorem dJ7_copyOf_6403c_25 : decode cJ7_copyOf_6403c 25 = .ok (.aload_n 0, 1) := by decide +kernel
theorem w170_25 {d : Nat} {st : List Value} {h : xH} {K : Option Value → xH → Prop} {l1 l2 l3 : Option Value} {x : Nat} : wp d 170 25 [some (.ref x), l1, l2, l3] st h K ↔ wp d 170 26 [some (.ref x), l1, l2, l3] (.ref x :: st) h K := w_any (i := 170) (pc := 25) dJ7_copyOf_6403c_25 rfl rfl
theorem w170_25n {d : Nat} {st : List Value} {h : xH} {K : Option Value → xH → Prop} {l1 l2 l3 : Option Value} : wp d 170 25 [some .null, l1, l2, l3] st h K ↔ wp d 170 26 [some .null, l1, l2, l3] (.null :: st) h K := w_any (i := 170) (pc := 25) dJ7_copyOf_6403c_25 rfl rfl
theorem dJ7_copyOf_6403c_26 : decode cJ7_copyOf_6403c 26 = .ok (.iconst 0, 1) := by decide +kernel
theorem w170_26 {d : Nat} {st : List Value} {h : xH} {K : Option Value → xH → Prop} {ls : xL} : wp d 170 26 ls st h K ↔ wp d 170 27 ls (.int 0 :: st) h K := w_iconst (i := 170) (pc := 26) dJ7_copyOf_6403c_26 (by decide)
theorem dJ7_copyOf_6403c_27 : decode cJ7_copyOf_6403c 27 = .ok (.aload_n 3, 1) := by decide +kernel
theorem w170_27 {d : Nat} {st : List Value} {h : xH} {K : Option Value → xH → Prop} {l0 l1 l2 : Option Value} {x : Nat} : wp d 170 27 [l0, l1, l2, some (.ref x)] st h K ↔ wp d 170 28 [l0, l1, l2, some (.ref x)] (.ref x :: st) h K := w_any (i := 170) (pc := 27) dJ7_copyOf_6403c_27 rfl rfl
theorem w170_27n {d : Nat} {st : List Value} {h : xH} {K : Option Value → xH → Prop} {l0 l1 l2 : Option Value} : wp d 170 27 [l0, l1, l2, some .null] st h K ↔ wp d 170 28 [l0, l1, l2, some .null] (.null :: st) h K := w_any (i := 170) (pc := 27) dJ7_copyOf_6403c_27 rfl rfl
theorem dJ7_copyOf_6403c_28 : decode cJ7_copyOf_6403c 28 = .ok (.iconst 0, 1) := by decide +kernel
theorem w170_28 {d : Nat} {st : List Value} {h : xH} {K : Option Value → xH → Prop} {ls : xL} : wp d 170 28 ls st h K ↔ wp d 170 29 ls (.int 0 :: st) h K := w_iconst (i := 170) (pc := 28) dJ7_copyOf_6403c_28 (by decide)
theorem dJ7_copyOf_6403c_29 : decode cJ7_copyOf_6403c 29 = .ok (.aload_n 0, 1) := by decide +kernel
theorem w170_29 {d : Nat} {st : List Value} {h : xH} {K : Option Value → xH → Prop} {l1 l2 l3 : Option Value} {x : Nat} : wp d 170 29 [some (.ref x), l1, l2, l3] st h K ↔ wp d 170 30 [some (.ref x), l1, l2, l3] (.ref x :: st) h K := w_any (i := 170) (pc := 29) dJ7_copyOf_6403c_29 rfl rfl
theorem w170_29n {d : Nat} {st : List Value} {h : xH} {K : Option Value → xH → Prop} {l1 l2 l3 : Option Value} : wp d 170 29 [some .null, l1, l2, l3] st h K ↔ wp d 170 30 [some .null, l1, l2, l3] (.null :: st) h K := w_any (i := 170) (pc := 29) dJ7_copyOf_6403c_29 rfl rfl
theorem dJ7_copyOf_6403c_30 : decode cJ7_copyOf_6403c 30 = .ok (.arraylength, 1) := by decide +kernel
theorem w170_30 {d : Nat} {st : List Value} {h : xH} {K : Option Value → xH → Prop} {ls : xL} {a : Nat} : wp d 170 30 ls (.ref a :: st) h K ↔ y_alen h a (fun v => wp d 170 31 ls (.int v :: st) h K) := w_alen (i := 170) (pc := 30) dJ7_copyOf_6403c_30
theorem dJ7_copyOf_6403c_31 : decode cJ7_copyOf_6403c 31 = .ok (.iload_n 1, 1) := by decide +kernel
theorem w170_31 {d : Nat} {st : List Value} {h : xH} {K : Option Value → xH → Prop} {l0 l2 l3 : Option Value} {x : Int32} : wp d 170 31 [l0, some (.int x), l2, l3] st h K ↔ wp d 170 32 [l0, some (.int x), l2, l3] (.int x :: st) h K := w_any (i := 170) (pc := 31) dJ7_copyOf_6403c_31 rfl rfl
theorem dJ7_copyOf_6403c_32 : decode cJ7_copyOf_6403c 32 = .ok (.invokestatic 304, 3) := by decide +kernel
theorem w170_32 {d : Nat} {st : List Value} {h : xH} {K : Option Value → xH → Prop} {ls : xL} {x y : Int32} : wp d 170 32 ls (.int y :: .int x :: st) h K ↔ xcs st ≤ 8 ∧ wp d 170 35 ls (.int (if y < x then y else x) :: st) h K := w_min (i := 170) (pc := 32) dJ7_copyOf_6403c_32 rfl
theorem dJ7_copyOf_6403c_35 : decode cJ7_copyOf_6403c 35 = .ok (.invokestatic 150, 3) := by decide +kernel
theorem w170_35 {d : Nat} {st : List Value} {h : xH} {K : Option Value → xH → Prop} {ls : xL} {a a0 : Nat} {sp dp n : Int32} : (xcs st ≤ 8 ∧ y_copy h a0 sp a dp n (fun h1 => wp d 170 38 ls st h1 K)) → wp d 170 35 ls (.int n :: .int dp :: .ref a :: .int sp :: .ref a0 :: st) h K := w_cpy dJ7_copyOf_6403c_35 rfl
theorem dJ7_copyOf_6403c_38 : decode cJ7_copyOf_6403c 38 = .ok (.aload_n 3, 1) := by decide +kernel
theorem w170_38 {d : Nat} {st : List Value} {h : xH} {K : Option Value → xH → Prop} {l0 l1 l2 : Option Value} {x : Nat} : wp d 170 38 [l0, l1, l2, some (.ref x)] st h K ↔ wp d 170 39 [l0, l1, l2, some (.ref x)] (.ref x :: st) h K := w_any (i := 170) (pc := 38) dJ7_copyOf_6403c_38 rfl rfl
theorem w170_38n {d : Nat} {st : List Value} {h : xH} {K : Option Value → xH → Prop} {l0 l1 l2 : Option Value} : wp d 170 38 [l0, l1, l2, some .null] st h K ↔ wp d 170 39 [l0, l1, l2, some .null] (.null :: st) h K := w_any (i := 170) (pc := 38) dJ7_copyOf_6403c_38 rfl rfl
theorem dJ7_copyOf_6403c_39 : decode cJ7_copyOf_6403c 39 = .ok (.areturn, 1) := by decide +kernel
theorem w170_39 {d : Nat} {h : xH} {K : Option Value → xH → Prop} {ls : xL} {x : Nat} : wp d 170 39 ls [.ref x] h K ↔ K (some (.ref x)) h := w_aret (i := 170) (pc := 39) dJ7_copyOf_6403c_39 rfl rfl
theorem w170_39n {d : Nat} {h : xH} {K : Option Value → xH → Prop} {ls : xL} : wp d 170 39 ls [.null] h K ↔ K (some .null) h := w_aretN (i := 170) (pc := 39) dJ7_copyOf_6403c_39 rfl rfl
theorem dJ15_checkIndex_7cf53_0 : decode cJ15_checkIndex_7cf53 0 = .ok (.iload_n 0, 1) := by decide +kernel
theorem w171_0 {d : Nat} {st : List Value} {h : xH} {K : Option Value → xH → Prop} {l1 : Option Value} {x : Int32} : wp d 171 0 [some (.int x), l1] st h K ↔ wp d 171 1 [some (.int x), l1] (.int x :: st) h K := w_any (i := 171) (pc := 0) dJ15_checkIndex_7cf53_0 rfl rfl
theorem dJ15_checkIndex_7cf53_1 : decode cJ15_checkIndex_7cf53 1 = .ok (.iload_n 1, 1) := by decide +kernel
theorem w171_1 {d : Nat} {st : List Value} {h : xH} {K : Option Value → xH → Prop} {l0 : Option Value} {x : Int32} : wp d 171 1 [l0, some (.int x)] st h K ↔ wp d 171 2 [l0, some (.int x)] (.int x :: st) h K := w_any (i := 171) (pc := 1) dJ15_checkIndex_7cf53_1 rfl rfl
theorem dJ15_checkIndex_7cf53_2 : decode cJ15_checkIndex_7cf53 2 = .ok (.aconst_null, 1) := by decide +kernel
theorem w171_2 {d : Nat} {st : List Value} {h : xH} {K : Option Value → xH → Prop} {ls : xL} : wp d 171 2 ls st h K ↔ wp d 171 3 ls (.null :: st) h K := w_any (i := 171) (pc := 2) dJ15_checkIndex_7cf53_2 rfl rfl
theorem dJ15_checkIndex_7cf53_3 : decode cJ15_checkIndex_7cf53 3 = .ok (.invokestatic 105, 3) := by decide +kernel
theorem w171_3 {d : Nat} {st : List Value} {h : xH} {K : Option Value → xH → Prop} {ls : xL} {a0 : Int32} {a1 : Int32} : wp (d + 1) 171 3 ls (.null :: .int a1 :: .int a0 :: st) h K ↔ xcs st ≤ 8 ∧ wp d 174 0 [some (.int a0), some (.int a1), some .null] [] h (fun v h1 => wp (d + 1) 171 6 ls (v.toList ++ st) h1 K) := w_callS (i := 171) (pc := 3) (as := [.int a0, .int a1, .null]) (rest := st) dJ15_checkIndex_7cf53_3 rfl (by decide) rfl rfl rfl rfl rfl
theorem dJ15_checkIndex_7cf53_6 : decode cJ15_checkIndex_7cf53 6 = .ok (.ireturn, 1) := by decide +kernel
theorem w171_6 {d : Nat} {h : xH} {K : Option Value → xH → Prop} {ls : xL} {x : Int32} : wp d 171 6 ls [.int x] h K ↔ K (some (.int x)) h := w_iret (i := 171) (pc := 6) dJ15_checkIndex_7cf53_6 rfl
theorem dJ8_newLength_cabcc_0 : decode cJ8_newLength_cabcc 0 = .ok (.iload_n 0, 1) := by decide +kernel
theorem w172_0 {d : Nat} {st : List Value} {h : xH} {K : Option Value → xH → Prop} {l1 l2 l3 : Option Value} {x : Int32} : wp d 172 0 [some (.int x), l1, l2, l3] st h K ↔ wp d 172 1 [some (.int x), l1, l2, l3] (.int x :: st) h K := w_any (i := 172) (pc := 0) dJ8_newLength_cabcc_0 rfl rfl
theorem dJ8_newLength_cabcc_1 : decode cJ8_newLength_cabcc 1 = .ok (.iload_n 1, 1) := by decide +kernel
theorem w172_1 {d : Nat} {st : List Value} {h : xH} {K : Option Value → xH → Prop} {l0 l2 l3 : Option Value} {x : Int32} : wp d 172 1 [l0, some (.int x), l2, l3] st h K ↔ wp d 172 2 [l0, some (.int x), l2, l3] (.int x :: st) h K := w_any (i := 172) (pc := 1) dJ8_newLength_cabcc_1 rfl rfl
theorem dJ8_newLength_cabcc_2 : decode cJ8_newLength_cabcc 2 = .ok (.iload_n 2, 1) := by decide +kernel
theorem w172_2 {d : Nat} {st : List Value} {h : xH} {K : Option Value → xH → Prop} {l0 l1 l3 : Option Value} {x : Int32} : wp d 172 2 [l0, l1, some (.int x), l3] st h K ↔ wp d 172 3 [l0, l1, some (.int x), l3] (.int x :: st) h K := w_any (i := 172) (pc := 2) dJ8_newLength_cabcc_2 rfl rfl
theorem dJ8_newLength_cabcc_3 : decode cJ8_newLength_cabcc 3 = .ok (.invokestatic 194, 3) := by decide +kernel
theorem w172_3 {d : Nat} {st : List Value} {h : xH} {K : Option Value → xH → Prop} {ls : xL} {x y : Int32} : wp d 172 3 ls (.int y :: .int x :: st) h K ↔ xcs st ≤ 8 ∧ wp d 172 6 ls (.int (if x < y then y else x) :: st) h K := w_max (i := 172) (pc := 3) dJ8_newLength_cabcc_3 rfl
theorem dJ8_newLength_cabcc_6 : decode cJ8_newLength_cabcc 6 = .ok (.iadd, 1) := by decide +kernel
theorem w172_6 {d : Nat} {st : List Value} {h : xH} {K : Option Value → xH → Prop} {ls : xL} {x y : Int32} : wp d 172 6 ls (.int y :: .int x :: st) h K ↔ wp d 172 7 ls (.int (x + y) :: st) h K := w_any (i := 172) (pc := 6) dJ8_newLength_cabcc_6 rfl rfl
theorem dJ8_newLength_cabcc_7 : decode cJ8_newLength_cabcc 7 = .ok (.istore_n 3, 1) := by decide +kernel
theorem w172_7 {d : Nat} {st : List Value} {h : xH} {K : Option Value → xH → Prop} {l0 l1 l2 l3 : Option Value} {x : Int32} : wp d 172 7 [l0, l1, l2, l3] (.int x :: st) h K ↔ wp d 172 8 [l0, l1, xk l2, some (.int x)] st h K := w_istore_n (i := 172) (pc := 7) dJ8_newLength_cabcc_7 (Nat.le_of_ble_eq_true rfl) (show xst1 [l0, l1, l2, l3] 3 (.int x) = [l0, l1, xk l2, some (.int x)] by simp only [xst1_0, xst1_1, xst1_s, Nat.reduceAdd])
theorem dJ8_newLength_cabcc_8 : decode cJ8_newLength_cabcc 8 = .ok (.iconst 0, 1) := by decide +kernel
theorem w172_8 {d : Nat} {st : List Value} {h : xH} {K : Option Value → xH → Prop} {ls : xL} : wp d 172 8 ls st h K ↔ wp d 172 9 ls (.int 0 :: st) h K := w_iconst (i := 172) (pc := 8) dJ8_newLength_cabcc_8 (by decide)
theorem dJ8_newLength_cabcc_9 : decode cJ8_newLength_cabcc 9 = .ok (.iload_n 3, 1) := by decide +kernel
theorem w172_9 {d : Nat} {st : List Value} {h : xH} {K : Option Value → xH → Prop} {l0 l1 l2 : Option Value} {x : Int32} : wp d 172 9 [l0, l1, l2, some (.int x)] st h K ↔ wp d 172 10 [l0, l1, l2, some (.int x)] (.int x :: st) h K := w_any (i := 172) (pc := 9) dJ8_newLength_cabcc_9 rfl rfl
theorem dJ8_newLength_cabcc_10 : decode cJ8_newLength_cabcc 10 = .ok (.if_icmp .ge 11, 3) := by decide +kernel
theorem w172_10 {d : Nat} {st : List Value} {h : xH} {K : Option Value → xH → Prop} {ls : xL} {x y : Int32} : wp d 172 10 ls (.int y :: .int x :: st) h K ↔ ((y ≤ x) → wp d 172 21 ls st h K) ∧ ((¬ (y ≤ x)) → wp d 172 13 ls st h K) := w_if2 (i := 172) (pc := 10) (cd := .ge) (off := 11) (tgt := 21) dJ8_newLength_cabcc_10 (by decide) rfl
theorem dJ8_newLength_cabcc_13 : decode cJ8_newLength_cabcc 13 = .ok (.iload_n 3, 1) := by decide +kernel
theorem w172_13 {d : Nat} {st : List Value} {h : xH} {K : Option Value → xH → Prop} {l0 l1 l2 : Option Value} {x : Int32} : wp d 172 13 [l0, l1, l2, some (.int x)] st h K ↔ wp d 172 14 [l0, l1, l2, some (.int x)] (.int x :: st) h K := w_any (i := 172) (pc := 13) dJ8_newLength_cabcc_13 rfl rfl
theorem dJ8_newLength_cabcc_14 : decode cJ8_newLength_cabcc 14 = .ok (.ldc 200, 2) := by decide +kernel
theorem w172_14 {d : Nat} {st : List Value} {h : xH} {K : Option Value → xH → Prop} {ls : xL} : wp d 172 14 ls st h K ↔ wp d 172 16 ls (.int 2147483639 :: st) h K := w_any (i := 172) (pc := 14) dJ8_newLength_cabcc_14 rfl rfl
theorem dJ8_newLength_cabcc_16 : decode cJ8_newLength_cabcc 16 = .ok (.if_icmp .gt 5, 3) := by decide +kernel
theorem w172_16 {d : Nat} {st : List Value} {h : xH} {K : Option Value → xH → Prop} {ls : xL} {x y : Int32} : wp d 172 16 ls (.int y :: .int x :: st) h K ↔ ((y < x) → wp d 172 21 ls st h K) ∧ ((¬ (y < x)) → wp d 172 19 ls st h K) := w_if2 (i := 172) (pc := 16) (cd := .gt) (off := 5) (tgt := 21) dJ8_newLength_cabcc_16 (by decide) rfl
theorem dJ8_newLength_cabcc_19 : decode cJ8_newLength_cabcc 19 = .ok (.iload_n 3, 1) := by decide +kernel
theorem w172_19 {d : Nat} {st : List Value} {h : xH} {K : Option Value → xH → Prop} {l0 l1 l2 : Option Value} {x : Int32} : wp d 172 19 [l0, l1, l2, some (.int x)] st h K ↔ wp d 172 20 [l0, l1, l2, some (.int x)] (.int x :: st) h K := w_any (i := 172) (pc := 19) dJ8_newLength_cabcc_19 rfl rfl
theorem dJ8_newLength_cabcc_20 : decode cJ8_newLength_cabcc 20 = .ok (.ireturn, 1) := by decide +kernel
theorem w172_20 {d : Nat} {h : xH} {K : Option Value → xH → Prop} {ls : xL} {x : Int32} : wp d 172 20 ls [.int x] h K ↔ K (some (.int x)) h := w_iret (i := 172) (pc := 20) dJ8_newLength_cabcc_20 rfl
theorem dJ8_newLength_cabcc_21 : decode cJ8_newLength_cabcc 21 = .ok (.iload_n 0, 1) := by decide +kernel
theorem w172_21 {d : Nat} {st : List Value} {h : xH} {K : Option Value → xH → Prop} {l1 l2 l3 : Option Value} {x : Int32} : wp d 172 21 [some (.int x), l1, l2, l3] st h K ↔ wp d 172 22 [some (.int x), l1, l2, l3] (.int x :: st) h K := w_any (i := 172) (pc := 21) dJ8_newLength_cabcc_21 rfl rfl
theorem dJ8_newLength_cabcc_22 : decode cJ8_newLength_cabcc 22 = .ok (.iload_n 1, 1) := by decide +kernel
theorem w172_22 {d : Nat} {st : List Value} {h : xH} {K : Option Value → xH → Prop} {l0 l2 l3 : Option Value} {x : Int32} : wp d 172 22 [l0, some (.int x), l2, l3] st h K ↔ wp d 172 23 [l0, some (.int x), l2, l3] (.int x :: st) h K := w_any (i := 172) (pc := 22) dJ8_newLength_cabcc_22 rfl rfl
theorem dJ8_newLength_cabcc_23 : decode cJ8_newLength_cabcc 23 = .ok (.invokestatic 201, 3) := by decide +kernel
theorem w172_23 {d : Nat} {st : List Value} {h : xH} {K : Option Value → xH → Prop} {ls : xL} {a0 : Int32} {a1 : Int32} : wp (d + 1) 172 23 ls (.int a1 :: .int a0 :: st) h K ↔ xcs st ≤ 8 ∧ wp d 173 0 [some (.int a0), some (.int a1), none] [] h (fun v h1 => wp (d + 1) 172 26 ls (v.toList ++ st) h1 K) := w_callS (i := 172) (pc := 23) (as := [.int a0, .int a1]) (rest := st) dJ8_newLength_cabcc_23 rfl (by decide) rfl rfl rfl rfl rfl
theorem dJ8_newLength_cabcc_26 : decode cJ8_newLength_cabcc 26 = .ok (.ireturn, 1) := by decide +kernel
theorem w172_26 {d : Nat} {h : xH} {K : Option Value → xH → Prop} {ls : xL} {x : Int32} : wp d 172 26 ls [.int x] h K ↔ K (some (.int x)) h := w_iret (i := 172) (pc := 26) dJ8_newLength_cabcc_26 rfl
theorem dJ8_hugeLength_7cf53_0 : decode cJ8_hugeLength_7cf53 0 = .ok (.iload_n 0, 1) := by decide +kernel
theorem w173_0 {d : Nat} {st : List Value} {h : xH} {K : Option Value → xH → Prop} {l1 l2 : Option Value} {x : Int32} : wp d 173 0 [some (.int x), l1, l2] st h K ↔ wp d 173 1 [some (.int x), l1, l2] (.int x :: st) h K := w_any (i := 173) (pc := 0) dJ8_hugeLength_7cf53_0 rfl rfl
theorem dJ8_hugeLength_7cf53_1 : decode cJ8_hugeLength_7cf53 1 = .ok (.iload_n 1, 1) := by decide +kernel
theorem w173_1 {d : Nat} {st : List Value} {h : xH} {K : Option Value → xH → Prop} {l0 l2 : Option Value} {x : Int32} : wp d 173 1 [l0, some (.int x), l2] st h K ↔ wp d 173 2 [l0, some (.int x), l2] (.int x :: st) h K := w_any (i := 173) (pc := 1) dJ8_hugeLength_7cf53_1 rfl rfl
theorem dJ8_hugeLength_7cf53_2 : decode cJ8_hugeLength_7cf53 2 = .ok (.iadd, 1) := by decide +kernel
theorem w173_2 {d : Nat} {st : List Value} {h : xH} {K : Option Value → xH → Prop} {ls : xL} {x y : Int32} : wp d 173 2 ls (.int y :: .int x :: st) h K ↔ wp d 173 3 ls (.int (x + y) :: st) h K := w_any (i := 173) (pc := 2) dJ8_hugeLength_7cf53_2 rfl rfl
theorem dJ8_hugeLength_7cf53_3 : decode cJ8_hugeLength_7cf53 3 = .ok (.istore_n 2, 1) := by decide +kernel
theorem w173_3 {d : Nat} {st : List Value} {h : xH} {K : Option Value → xH → Prop} {l0 l1 l2 : Option Value} {x : Int32} : wp d 173 3 [l0, l1, l2] (.int x :: st) h K ↔ wp d 173 4 [l0, xk l1, some (.int x)] st h K := w_istore_n (i := 173) (pc := 3) dJ8_hugeLength_7cf53_3 (Nat.le_of_ble_eq_true rfl) (show xst1 [l0, l1, l2] 2 (.int x) = [l0, xk l1, some (.int x)] by simp only [xst1_0, xst1_1, xst1_s, Nat.reduceAdd])
theorem dJ8_hugeLength_7cf53_4 : decode cJ8_hugeLength_7cf53 4 = .ok (.iload_n 2, 1) := by decide +kernel
theorem w173_4 {d : Nat} {st : List Value} {h : xH} {K : Option Value → xH → Prop} {l0 l1 : Option Value} {x : Int32} : wp d 173 4 [l0, l1, some (.int x)] st h K ↔ wp d 173 5 [l0, l1, some (.int x)] (.int x :: st) h K := w_any (i := 173) (pc := 4) dJ8_hugeLength_7cf53_4 rfl rfl
theorem dJ8_hugeLength_7cf53_5 : decode cJ8_hugeLength_7cf53 5 = .ok (.ifCond .ge 44, 3) := by decide +kernel
theorem w173_5 {d : Nat} {st : List Value} {h : xH} {K : Option Value → xH → Prop} {ls : xL} {x : Int32} : wp d 173 5 ls (.int x :: st) h K ↔ ((0 ≤ x) → wp d 173 49 ls st h K) ∧ ((¬ (0 ≤ x)) → wp d 173 8 ls st h K) := w_if1 (i := 173) (pc := 5) (cd := .ge) (off := 44) (tgt := 49) dJ8_hugeLength_7cf53_5 (by decide) rfl
theorem dJ8_hugeLength_7cf53_8 : decode cJ8_hugeLength_7cf53 8 = .ok (.new 204, 3) := by decide +kernel
theorem dJ8_hugeLength_7cf53_11 : decode cJ8_hugeLength_7cf53 11 = .ok (.dup, 1) := by decide +kernel
theorem w173_11 {d : Nat} {st : List Value} {h : xH} {K : Option Value → xH → Prop} {ls : xL} {x : Int32} : wp d 173 11 ls (.int x :: st) h K ↔ wp d 173 12 ls (.int x :: .int x :: st) h K := (w_any (i := 173) (pc := 11) dJ8_hugeLength_7cf53_11 rfl rfl).trans (w_ct rfl)
theorem w173_11r {d : Nat} {st : List Value} {h : xH} {K : Option Value → xH → Prop} {ls : xL} {x : Nat} : wp d 173 11 ls (.ref x :: st) h K ↔ wp d 173 12 ls (.ref x :: .ref x :: st) h K := (w_any (i := 173) (pc := 11) dJ8_hugeLength_7cf53_11 rfl rfl).trans (w_ct rfl)
theorem dJ8_hugeLength_7cf53_12 : decode cJ8_hugeLength_7cf53 12 = .ok (.new 89, 3) := by decide +kernel
theorem dJ8_hugeLength_7cf53_15 : decode cJ8_hugeLength_7cf53 15 = .ok (.dup, 1) := by decide +kernel
theorem w173_15 {d : Nat} {st : List Value} {h : xH} {K : Option Value → xH → Prop} {ls : xL} {x : Int32} : wp d 173 15 ls (.int x :: st) h K ↔ wp d 173 16 ls (.int x :: .int x :: st) h K := (w_any (i := 173) (pc := 15) dJ8_hugeLength_7cf53_15 rfl rfl).trans (w_ct rfl)
theorem w173_15r {d : Nat} {st : List Value} {h : xH} {K : Option Value → xH → Prop} {ls : xL} {x : Nat} : wp d 173 15 ls (.ref x :: st) h K ↔ wp d 173 16 ls (.ref x :: .ref x :: st) h K := (w_any (i := 173) (pc := 15) dJ8_hugeLength_7cf53_15 rfl rfl).trans (w_ct rfl)
theorem dJ8_hugeLength_7cf53_16 : decode cJ8_hugeLength_7cf53 16 = .ok (.invokespecial 91, 3) := by decide +kernel
theorem dJ8_hugeLength_7cf53_19 : decode cJ8_hugeLength_7cf53 19 = .ok (.ldc 206, 2) := by decide +kernel
theorem dJ8_hugeLength_7cf53_21 : decode cJ8_hugeLength_7cf53 21 = .ok (.invokevirtual 94, 3) := by decide +kernel
theorem dJ8_hugeLength_7cf53_24 : decode cJ8_hugeLength_7cf53 24 = .ok (.iload_n 0, 1) := by decide +kernel
theorem w173_24 {d : Nat} {st : List Value} {h : xH} {K : Option Value → xH → Prop} {l1 l2 : Option Value} {x : Int32} : wp d 173 24 [some (.int x), l1, l2] st h K ↔ wp d 173 25 [some (.int x), l1, l2] (.int x :: st) h K := w_any (i := 173) (pc := 24) dJ8_hugeLength_7cf53_24 rfl rfl
theorem dJ8_hugeLength_7cf53_25 : decode cJ8_hugeLength_7cf53 25 = .ok (.invokevirtual 98, 3) := by decide +kernel
theorem dJ8_hugeLength_7cf53_28 : decode cJ8_hugeLength_7cf53 28 = .ok (.ldc 208, 2) := by decide +kernel
theorem dJ8_hugeLength_7cf53_30 : decode cJ8_hugeLength_7cf53 30 = .ok (.invokevirtual 94, 3) := by decide +kernel
theorem dJ8_hugeLength_7cf53_33 : decode cJ8_hugeLength_7cf53 33 = .ok (.iload_n 1, 1) := by decide +kernel
theorem w173_33 {d : Nat} {st : List Value} {h : xH} {K : Option Value → xH → Prop} {l0 l2 : Option Value} {x : Int32} : wp d 173 33 [l0, some (.int x), l2] st h K ↔ wp d 173 34 [l0, some (.int x), l2] (.int x :: st) h K := w_any (i := 173) (pc := 33) dJ8_hugeLength_7cf53_33 rfl rfl
theorem dJ8_hugeLength_7cf53_34 : decode cJ8_hugeLength_7cf53 34 = .ok (.invokevirtual 98, 3) := by decide +kernel
theorem dJ8_hugeLength_7cf53_37 : decode cJ8_hugeLength_7cf53 37 = .ok (.ldc 210, 2) := by decide +kernel
theorem dJ8_hugeLength_7cf53_39 : decode cJ8_hugeLength_7cf53 39 = .ok (.invokevirtual 94, 3) := by decide +kernel
theorem dJ8_hugeLength_7cf53_42 : decode cJ8_hugeLength_7cf53 42 = .ok (.invokevirtual 101, 3) := by decide +kernel
theorem dJ8_hugeLength_7cf53_45 : decode cJ8_hugeLength_7cf53 45 = .ok (.invokespecial 212, 3) := by decide +kernel
theorem dJ8_hugeLength_7cf53_48 : decode cJ8_hugeLength_7cf53 48 = .ok (.athrow, 1) := by decide +kernel
theorem dJ8_hugeLength_7cf53_49 : decode cJ8_hugeLength_7cf53 49 = .ok (.iload_n 2, 1) := by decide +kernel
theorem w173_49 {d : Nat} {st : List Value} {h : xH} {K : Option Value → xH → Prop} {l0 l1 : Option Value} {x : Int32} : wp d 173 49 [l0, l1, some (.int x)] st h K ↔ wp d 173 50 [l0, l1, some (.int x)] (.int x :: st) h K := w_any (i := 173) (pc := 49) dJ8_hugeLength_7cf53_49 rfl rfl
theorem dJ8_hugeLength_7cf53_50 : decode cJ8_hugeLength_7cf53 50 = .ok (.ldc 200, 2) := by decide +kernel
theorem w173_50 {d : Nat} {st : List Value} {h : xH} {K : Option Value → xH → Prop} {ls : xL} : wp d 173 50 ls st h K ↔ wp d 173 52 ls (.int 2147483639 :: st) h K := w_any (i := 173) (pc := 50) dJ8_hugeLength_7cf53_50 rfl rfl
theorem dJ8_hugeLength_7cf53_52 : decode cJ8_hugeLength_7cf53 52 = .ok (.if_icmp .gt 6, 3) := by decide +kernel
theorem w173_52 {d : Nat} {st : List Value} {h : xH} {K : Option Value → xH → Prop} {ls : xL} {x y : Int32} : wp d 173 52 ls (.int y :: .int x :: st) h K ↔ ((y < x) → wp d 173 58 ls st h K) ∧ ((¬ (y < x)) → wp d 173 55 ls st h K) := w_if2 (i := 173) (pc := 52) (cd := .gt) (off := 6) (tgt := 58) dJ8_hugeLength_7cf53_52 (by decide) rfl
theorem dJ8_hugeLength_7cf53_55 : decode cJ8_hugeLength_7cf53 55 = .ok (.ldc 200, 2) := by decide +kernel
theorem w173_55 {d : Nat} {st : List Value} {h : xH} {K : Option Value → xH → Prop} {ls : xL} : wp d 173 55 ls st h K ↔ wp d 173 57 ls (.int 2147483639 :: st) h K := w_any (i := 173) (pc := 55) dJ8_hugeLength_7cf53_55 rfl rfl
theorem dJ8_hugeLength_7cf53_57 : decode cJ8_hugeLength_7cf53 57 = .ok (.ireturn, 1) := by decide +kernel
theorem w173_57 {d : Nat} {h : xH} {K : Option Value → xH → Prop} {ls : xL} {x : Int32} : wp d 173 57 ls [.int x] h K ↔ K (some (.int x)) h := w_iret (i := 173) (pc := 57) dJ8_hugeLength_7cf53_57 rfl
theorem dJ8_hugeLength_7cf53_58 : decode cJ8_hugeLength_7cf53 58 = .ok (.iload_n 2, 1) := by decide +kernel
theorem w173_58 {d : Nat} {st : List Value} {h : xH} {K : Option Value → xH → Prop} {l0 l1 : Option Value} {x : Int32} : wp d 173 58 [l0, l1, some (.int x)] st h K ↔ wp d 173 59 [l0, l1, some (.int x)] (.int x :: st) h K := w_any (i := 173) (pc := 58) dJ8_hugeLength_7cf53_58 rfl rfl
theorem dJ8_hugeLength_7cf53_59 : decode cJ8_hugeLength_7cf53 59 = .ok (.ireturn, 1) := by decide +kernel
theorem w173_59 {d : Nat} {h : xH} {K : Option Value → xH → Prop} {ls : xL} {x : Int32} : wp d 173 59 ls [.int x] h K ↔ K (some (.int x)) h := w_iret (i := 173) (pc := 59) dJ8_hugeLength_7cf53_59 rfl
theorem dJ3_checkIndex_8e157_0 : decode cJ3_checkIndex_8e157 0 = .ok (.iload_n 0, 1) := by decide +kernel
theorem w174_0 {d : Nat} {st : List Value} {h : xH} {K : Option Value → xH → Prop} {l1 l2 : Option Value} {x : Int32} : wp d 174 0 [some (.int x), l1, l2] st h K ↔ wp d 174 1 [some (.int x), l1, l2] (.int x :: st) h K := w_any (i := 174) (pc := 0) dJ3_checkIndex_8e157_0 rfl rfl
theorem dJ3_checkIndex_8e157_1 : decode cJ3_checkIndex_8e157 1 = .ok (.ifCond .lt 8, 3) := by decide +kernel
theorem w174_1 {d : Nat} {st : List Value} {h : xH} {K : Option Value → xH → Prop} {ls : xL} {x : Int32} : wp d 174 1 ls (.int x :: st) h K ↔ ((x < 0) → wp d 174 9 ls st h K) ∧ ((¬ (x < 0)) → wp d 174 4 ls st h K) := w_if1 (i := 174) (pc := 1) (cd := .lt) (off := 8) (tgt := 9) dJ3_checkIndex_8e157_1 (by decide) rfl
theorem dJ3_checkIndex_8e157_4 : decode cJ3_checkIndex_8e157 4 = .ok (.iload_n 0, 1) := by decide +kernel
theorem w174_4 {d : Nat} {st : List Value} {h : xH} {K : Option Value → xH → Prop} {l1 l2 : Option Value} {x : Int32} : wp d 174 4 [some (.int x), l1, l2] st h K ↔ wp d 174 5 [some (.int x), l1, l2] (.int x :: st) h K := w_any (i := 174) (pc := 4) dJ3_checkIndex_8e157_4 rfl rfl
theorem dJ3_checkIndex_8e157_5 : decode cJ3_checkIndex_8e157 5 = .ok (.iload_n 1, 1) := by decide +kernel
theorem w174_5 {d : Nat} {st : List Value} {h : xH} {K : Option Value → xH → Prop} {l0 l2 : Option Value} {x : Int32} : wp d 174 5 [l0, some (.int x), l2] st h K ↔ wp d 174 6 [l0, some (.int x), l2] (.int x :: st) h K := w_any (i := 174) (pc := 5) dJ3_checkIndex_8e157_5 rfl rfl
theorem dJ3_checkIndex_8e157_6 : decode cJ3_checkIndex_8e157 6 = .ok (.if_icmp .lt 10, 3) := by decide +kernel
theorem w174_6 {d : Nat} {st : List Value} {h : xH} {K : Option Value → xH → Prop} {ls : xL} {x y : Int32} : wp d 174 6 ls (.int y :: .int x :: st) h K ↔ ((x < y) → wp d 174 16 ls st h K) ∧ ((¬ (x < y)) → wp d 174 9 ls st h K) := w_if2 (i := 174) (pc := 6) (cd := .lt) (off := 10) (tgt := 16) dJ3_checkIndex_8e157_6 (by decide) rfl
theorem dJ3_checkIndex_8e157_9 : decode cJ3_checkIndex_8e157 9 = .ok (.aload_n 2, 1) := by decide +kernel
theorem w174_9 {d : Nat} {st : List Value} {h : xH} {K : Option Value → xH → Prop} {l0 l1 : Option Value} {x : Nat} : wp d 174 9 [l0, l1, some (.ref x)] st h K ↔ wp d 174 10 [l0, l1, some (.ref x)] (.ref x :: st) h K := w_any (i := 174) (pc := 9) dJ3_checkIndex_8e157_9 rfl rfl
theorem w174_9n {d : Nat} {st : List Value} {h : xH} {K : Option Value → xH → Prop} {l0 l1 : Option Value} : wp d 174 9 [l0, l1, some .null] st h K ↔ wp d 174 10 [l0, l1, some .null] (.null :: st) h K := w_any (i := 174) (pc := 9) dJ3_checkIndex_8e157_9 rfl rfl
theorem dJ3_checkIndex_8e157_10 : decode cJ3_checkIndex_8e157 10 = .ok (.iload_n 0, 1) := by decide +kernel
theorem w174_10 {d : Nat} {st : List Value} {h : xH} {K : Option Value → xH → Prop} {l1 l2 : Option Value} {x : Int32} : wp d 174 10 [some (.int x), l1, l2] st h K ↔ wp d 174 11 [some (.int x), l1, l2] (.int x :: st) h K := w_any (i := 174) (pc := 10) dJ3_checkIndex_8e157_10 rfl rfl
theorem dJ3_checkIndex_8e157_11 : decode cJ3_checkIndex_8e157 11 = .ok (.iload_n 1, 1) := by decide +kernel
theorem w174_11 {d : Nat} {st : List Value} {h : xH} {K : Option Value → xH → Prop} {l0 l2 : Option Value} {x : Int32} : wp d 174 11 [l0, some (.int x), l2] st h K ↔ wp d 174 12 [l0, some (.int x), l2] (.int x :: st) h K := w_any (i := 174) (pc := 11) dJ3_checkIndex_8e157_11 rfl rfl
theorem dJ3_checkIndex_8e157_12 : decode cJ3_checkIndex_8e157 12 = .ok (.invokestatic 95, 3) := by decide +kernel
theorem dJ3_checkIndex_8e157_15 : decode cJ3_checkIndex_8e157 15 = .ok (.athrow, 1) := by decide +kernel
theorem dJ3_checkIndex_8e157_16 : decode cJ3_checkIndex_8e157 16 = .ok (.iload_n 0, 1) := by decide +kernel
theorem w174_16 {d : Nat} {st : List Value} {h : xH} {K : Option Value → xH → Prop} {l1 l2 : Option Value} {x : Int32} : wp d 174 16 [some (.int x), l1, l2] st h K ↔ wp d 174 17 [some (.int x), l1, l2] (.int x :: st) h K := w_any (i := 174) (pc := 16) dJ3_checkIndex_8e157_16 rfl rfl
theorem dJ3_checkIndex_8e157_17 : decode cJ3_checkIndex_8e157 17 = .ok (.ireturn, 1) := by decide +kernel
theorem w174_17 {d : Nat} {h : xH} {K : Option Value → xH → Prop} {ls : xL} {x : Int32} : wp d 174 17 ls [.int x] h K ↔ K (some (.int x)) h := w_iret (i := 174) (pc := 17) dJ3_checkIndex_8e157_17 rfl
