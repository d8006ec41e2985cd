theorem dL_law_0 : decode cL_law 0 = .ok (.new 7, 3) := by decide +kernel
theorem w175_0 {d : Nat} {st : List Value} {h : xH} {K : Option Value → xH → Prop} {ls : xL} : wp d 175 0 ls st h K ↔ wp d 175 3 ls (.ref h.length :: st) (h ++ [.inr (7, [.null, .null, .null, .null, .int 0, .int 0])]) K := w_new (i := 175) (pc := 0) dL_law_0 rfl rfl
theorem dL_law_3 : decode cL_law 3 = .ok (.dup, 1) := by decide +kernel
theorem w175_3 {d : Nat} {st : List Value} {h : xH} {K : Option Value → xH → Prop} {ls : xL} {x : Int32} : wp d 175 3 ls (.int x :: st) h K ↔ wp d 175 4 ls (.int x :: .int x :: st) h K := (w_any (i := 175) (pc := 3) dL_law_3 rfl rfl).trans (w_ct rfl)
theorem w175_3r {d : Nat} {st : List Value} {h : xH} {K : Option Value → xH → Prop} {ls : xL} {x : Nat} : wp d 175 3 ls (.ref x :: st) h K ↔ wp d 175 4 ls (.ref x :: .ref x :: st) h K := (w_any (i := 175) (pc := 3) dL_law_3 rfl rfl).trans (w_ct rfl)
theorem dL_law_4 : decode cL_law 4 = .ok (.invokespecial 9, 3) := by decide +kernel
theorem w175_4 {d : Nat} {st : List Value} {h : xH} {K : Option Value → xH → Prop} {ls : xL} {b : Nat} : wp (d + 1) 175 4 ls (.ref b :: st) h K ↔ xcs st ≤ 8 ∧ wp d 41 0 [some (.ref b), none] [] h (fun v h1 => wp (d + 1) 175 7 ls (v.toList ++ st) h1 K) := w_callI (i := 175) (pc := 4) (as := []) (rest := st) (by decide) dL_law_4 rfl (by decide) rfl rfl rfl rfl rfl
theorem dL_law_7 : decode cL_law 7 = .ok (.astore_n 1, 1) := by decide +kernel
theorem w175_7 {d : Nat} {st : List Value} {h : xH} {K : Option Value → xH → Prop} {l0 l1 l2 l3 : Option Value} {x : Nat} : wp d 175 7 [l0, l1, l2, l3] (.ref x :: st) h K ↔ wp d 175 8 [xk l0, some (.ref x), l2, l3] st h K := w_astore_n (i := 175) (pc := 7) dL_law_7 (Nat.le_of_ble_eq_true rfl) (show xst1 [l0, l1, l2, l3] 1 (.ref x) = [xk l0, some (.ref x), l2, l3] by simp only [xst1_0, xst1_1, xst1_s, Nat.reduceAdd])
theorem w175_7n {d : Nat} {st : List Value} {h : xH} {K : Option Value → xH → Prop} {l0 l1 l2 l3 : Option Value} : wp d 175 7 [l0, l1, l2, l3] (.null :: st) h K ↔ wp d 175 8 [xk l0, some (.null), l2, l3] st h K := w_astore_nN (i := 175) (pc := 7) dL_law_7 (Nat.le_of_ble_eq_true rfl) (show xst1 [l0, l1, l2, l3] 1 (.null) = [xk l0, some (.null), l2, l3] by simp only [xst1_0, xst1_1, xst1_s, Nat.reduceAdd])
theorem dL_law_8 : decode cL_law 8 = .ok (.new 10, 3) := by decide +kernel
theorem w175_8 {d : Nat} {st : List Value} {h : xH} {K : Option Value → xH → Prop} {ls : xL} : wp d 175 8 ls st h K ↔ wp d 175 11 ls (.ref h.length :: st) (h ++ [.inr (8, [.int 0, .int 0, .null, .null, .null, .int 0, .int 0, .null, .int 0, .null, .null, .null, .null, .int 0, .int 0, .int 0, .null, .null, .null, .null, .null, .null, .null, .null, .null, .null, .null, .null, .int 0, .null, .null, .null])]) K := w_new (i := 175) (pc := 8) dL_law_8 rfl rfl
theorem dL_law_11 : decode cL_law 11 = .ok (.dup, 1) := by decide +kernel
theorem w175_11 {d : Nat} {st : List Value} {h : xH} {K : Option Value → xH → Prop} {ls : xL} {x : Int32} : wp d 175 11 ls (.int x :: st) h K ↔ wp d 175 12 ls (.int x :: .int x :: st) h K := (w_any (i := 175) (pc := 11) dL_law_11 rfl rfl).trans (w_ct rfl)
theorem w175_11r {d : Nat} {st : List Value} {h : xH} {K : Option Value → xH → Prop} {ls : xL} {x : Nat} : wp d 175 11 ls (.ref x :: st) h K ↔ wp d 175 12 ls (.ref x :: .ref x :: st) h K := (w_any (i := 175) (pc := 11) dL_law_11 rfl rfl).trans (w_ct rfl)
theorem dL_law_12 : decode cL_law 12 = .ok (.invokespecial 12, 3) := by decide +kernel
theorem w175_12 {d : Nat} {st : List Value} {h : xH} {K : Option Value → xH → Prop} {ls : xL} {b : Nat} : wp (d + 1) 175 12 ls (.ref b :: st) h K ↔ xcs st ≤ 8 ∧ wp d 91 0 [some (.ref b)] [] h (fun v h1 => wp (d + 1) 175 15 ls (v.toList ++ st) h1 K) := w_callI (i := 175) (pc := 12) (as := []) (rest := st) (by decide) dL_law_12 rfl (by decide) rfl rfl rfl rfl rfl
theorem dL_law_15 : decode cL_law 15 = .ok (.astore_n 2, 1) := by decide +kernel
theorem w175_15 {d : Nat} {st : List Value} {h : xH} {K : Option Value → xH → Prop} {l0 l1 l2 l3 : Option Value} {x : Nat} : wp d 175 15 [l0, l1, l2, l3] (.ref x :: st) h K ↔ wp d 175 16 [l0, xk l1, some (.ref x), l3] st h K := w_astore_n (i := 175) (pc := 15) dL_law_15 (Nat.le_of_ble_eq_true rfl) (show xst1 [l0, l1, l2, l3] 2 (.ref x) = [l0, xk l1, some (.ref x), l3] by simp only [xst1_0, xst1_1, xst1_s, Nat.reduceAdd])
theorem w175_15n {d : Nat} {st : List Value} {h : xH} {K : Option Value → xH → Prop} {l0 l1 l2 l3 : Option Value} : wp d 175 15 [l0, l1, l2, l3] (.null :: st) h K ↔ wp d 175 16 [l0, xk l1, some (.null), l3] st h K := w_astore_nN (i := 175) (pc := 15) dL_law_15 (Nat.le_of_ble_eq_true rfl) (show xst1 [l0, l1, l2, l3] 2 (.null) = [l0, xk l1, some (.null), l3] by simp only [xst1_0, xst1_1, xst1_s, Nat.reduceAdd])
theorem dL_law_16 : decode cL_law 16 = .ok (.iconst 0, 1) := by decide +kernel
theorem w175_16 {d : Nat} {st : List Value} {h : xH} {K : Option Value → xH → Prop} {ls : xL} : wp d 175 16 ls st h K ↔ wp d 175 17 ls (.int 0 :: st) h K := w_iconst (i := 175) (pc := 16) dL_law_16 (by decide)
theorem dL_law_17 : decode cL_law 17 = .ok (.istore_n 3, 1) := by decide +kernel
theorem w175_17 {d : Nat} {st : List Value} {h : xH} {K : Option Value → xH → Prop} {l0 l1 l2 l3 : Option Value} {x : Int32} : wp d 175 17 [l0, l1, l2, l3] (.int x :: st) h K ↔ wp d 175 18 [l0, l1, xk l2, some (.int x)] st h K := w_istore_n (i := 175) (pc := 17) dL_law_17 (Nat.le_of_ble_eq_true rfl) (show xst1 [l0, l1, l2, l3] 3 (.int x) = [l0, l1, xk l2, some (.int x)] by simp only [xst1_0, xst1_1, xst1_s, Nat.reduceAdd])
theorem dL_law_18 : decode cL_law 18 = .ok (.iload_n 3, 1) := by decide +kernel
theorem w175_18 {d : Nat} {st : List Value} {h : xH} {K : Option Value → xH → Prop} {l0 l1 l2 : Option Value} {x : Int32} : wp d 175 18 [l0, l1, l2, some (.int x)] st h K ↔ wp d 175 19 [l0, l1, l2, some (.int x)] (.int x :: st) h K := w_any (i := 175) (pc := 18) dL_law_18 rfl rfl
theorem dL_law_19 : decode cL_law 19 = .ok (.aload_n 0, 1) := by decide +kernel
theorem w175_19 {d : Nat} {st : List Value} {h : xH} {K : Option Value → xH → Prop} {l1 l2 l3 : Option Value} {x : Nat} : wp d 175 19 [some (.ref x), l1, l2, l3] st h K ↔ wp d 175 20 [some (.ref x), l1, l2, l3] (.ref x :: st) h K := w_any (i := 175) (pc := 19) dL_law_19 rfl rfl
theorem w175_19n {d : Nat} {st : List Value} {h : xH} {K : Option Value → xH → Prop} {l1 l2 l3 : Option Value} : wp d 175 19 [some .null, l1, l2, l3] st h K ↔ wp d 175 20 [some .null, l1, l2, l3] (.null :: st) h K := w_any (i := 175) (pc := 19) dL_law_19 rfl rfl
theorem dL_law_20 : decode cL_law 20 = .ok (.arraylength, 1) := by decide +kernel
theorem w175_20 {d : Nat} {st : List Value} {h : xH} {K : Option Value → xH → Prop} {ls : xL} {a : Nat} : wp d 175 20 ls (.ref a :: st) h K ↔ y_alen h a (fun v => wp d 175 21 ls (.int v :: st) h K) := w_alen (i := 175) (pc := 20) dL_law_20
theorem dL_law_21 : decode cL_law 21 = .ok (.bipush 6, 2) := by decide +kernel
theorem w175_21 {d : Nat} {st : List Value} {h : xH} {K : Option Value → xH → Prop} {ls : xL} : wp d 175 21 ls st h K ↔ wp d 175 23 ls (.int 6 :: st) h K := w_bipush (i := 175) (pc := 21) dL_law_21 (by decide)
theorem dL_law_23 : decode cL_law 23 = .ok (.isub, 1) := by decide +kernel
theorem w175_23 {d : Nat} {st : List Value} {h : xH} {K : Option Value → xH → Prop} {ls : xL} {x y : Int32} : wp d 175 23 ls (.int y :: .int x :: st) h K ↔ wp d 175 24 ls (.int (x - y) :: st) h K := w_any (i := 175) (pc := 23) dL_law_23 rfl rfl
theorem dL_law_24 : decode cL_law 24 = .ok (.if_icmp .gt 1203, 3) := by decide +kernel
theorem w175_24 {d : Nat} {st : List Value} {h : xH} {K : Option Value → xH → Prop} {ls : xL} {x y : Int32} : wp d 175 24 ls (.int y :: .int x :: st) h K ↔ ((y < x) → wp d 175 1227 ls st h K) ∧ ((¬ (y < x)) → wp d 175 27 ls st h K) := w_if2 (i := 175) (pc := 24) (cd := .gt) (off := 1203) (tgt := 1227) dL_law_24 (by decide) rfl
theorem dL_law_27 : decode cL_law 27 = .ok (.aload_n 0, 1) := by decide +kernel
theorem w175_27 {d : Nat} {st : List Value} {h : xH} {K : Option Value → xH → Prop} {l1 l2 l3 : Option Value} {x : Nat} : wp d 175 27 [some (.ref x), l1, l2, l3] st h K ↔ wp d 175 28 [some (.ref x), l1, l2, l3] (.ref x :: st) h K := w_any (i := 175) (pc := 27) dL_law_27 rfl rfl
theorem w175_27n {d : Nat} {st : List Value} {h : xH} {K : Option Value → xH → Prop} {l1 l2 l3 : Option Value} : wp d 175 27 [some .null, l1, l2, l3] st h K ↔ wp d 175 28 [some .null, l1, l2, l3] (.null :: st) h K := w_any (i := 175) (pc := 27) dL_law_27 rfl rfl
theorem dL_law_28 : decode cL_law 28 = .ok (.iload_n 3, 1) := by decide +kernel
theorem w175_28 {d : Nat} {st : List Value} {h : xH} {K : Option Value → xH → Prop} {l0 l1 l2 : Option Value} {x : Int32} : wp d 175 28 [l0, l1, l2, some (.int x)] st h K ↔ wp d 175 29 [l0, l1, l2, some (.int x)] (.int x :: st) h K := w_any (i := 175) (pc := 28) dL_law_28 rfl rfl
theorem dL_law_29 : decode cL_law 29 = .ok (.iaload, 1) := by decide +kernel
theorem w175_29 {d : Nat} {st : List Value} {h : xH} {K : Option Value → xH → Prop} {ls : xL} {a : Nat} {x : Int32} : wp d 175 29 ls (.int x :: .ref a :: st) h K ↔ y_iald h a x (fun v => wp d 175 30 ls (.int v :: st) h K) := w_iald (i := 175) (pc := 29) dL_law_29
theorem dL_law_30 : decode cL_law 30 = .ok (.bipush 31, 2) := by decide +kernel
theorem w175_30 {d : Nat} {st : List Value} {h : xH} {K : Option Value → xH → Prop} {ls : xL} : wp d 175 30 ls st h K ↔ wp d 175 32 ls (.int 31 :: st) h K := w_bipush (i := 175) (pc := 30) dL_law_30 (by decide)
theorem dL_law_32 : decode cL_law 32 = .ok (.iand, 1) := by decide +kernel
theorem w175_32 {d : Nat} {st : List Value} {h : xH} {K : Option Value → xH → Prop} {ls : xL} {x y : Int32} : wp d 175 32 ls (.int y :: .int x :: st) h K ↔ wp d 175 33 ls (.int (x &&& y) :: st) h K := w_any (i := 175) (pc := 32) dL_law_32 rfl rfl
theorem dL_law_33 : decode cL_law 33 = .ok (.tableswitch 1188 0 31 #[143, 196, 219, 252, 295, 328, 351, 400, 433, 467, 500, 533, 556, 589, 622, 655, 668, 701, 755, 798, 821, 844, 887, 910, 953, 997, 1060, 1083, 1106, 1139, 1152, 1165], 143) := by decide +kernel
theorem w175_33 {d : Nat} {st : List Value} {h : xH} {K : Option Value → xH → Prop} {ls : xL} {x : Int32} : wp d 175 33 ls (.int x :: st) h K ↔ (x.toInt < 0 ∨ 31 < x.toInt → wp d 175 1221 ls st h K) ∧ (x.toInt = 0 → wp d 175 176 ls st h K) ∧ (x.toInt = 1 → wp d 175 229 ls st h K) ∧ (x.toInt = 2 → wp d 175 252 ls st h K) ∧ (x.toInt = 3 → wp d 175 285 ls st h K) ∧ (x.toInt = 4 → wp d 175 328 ls st h K) ∧ (x.toInt = 5 → wp d 175 361 ls st h K) ∧ (x.toInt = 6 → wp d 175 384 ls st h K) ∧ (x.toInt = 7 → wp d 175 433 ls st h K) ∧ (x.toInt = 8 → wp d 175 466 ls st h K) ∧ (x.toInt = 9 → wp d 175 500 ls st h K) ∧ (x.toInt = 10 → wp d 175 533 ls st h K) ∧ (x.toInt = 11 → wp d 175 566 ls st h K) ∧ (x.toInt = 12 → wp d 175 589 ls st h K) ∧ (x.toInt = 13 → wp d 175 622 ls st h K) ∧ (x.toInt = 14 → wp d 175 655 ls st h K) ∧ (x.toInt = 15 → wp d 175 688 ls st h K) ∧ (x.toInt = 16 → wp d 175 701 ls st h K) ∧ (x.toInt = 17 → wp d 175 734 ls st h K) ∧ (x.toInt = 18 → wp d 175 788 ls st h K) ∧ (x.toInt = 19 → wp d 175 831 ls st h K) ∧ (x.toInt = 20 → wp d 175 854 ls st h K) ∧ (x.toInt = 21 → wp d 175 877 ls st h K) ∧ (x.toInt = 22 → wp d 175 920 ls st h K) ∧ (x.toInt = 23 → wp d 175 943 ls st h K) ∧ (x.toInt = 24 → wp d 175 986 ls st h K) ∧ (x.toInt = 25 → wp d 175 1030 ls st h K) ∧ (x.toInt = 26 → wp d 175 1093 ls st h K) ∧ (x.toInt = 27 → wp d 175 1116 ls st h K) ∧ (x.toInt = 28 → wp d 175 1139 ls st h K) ∧ (x.toInt = 29 → wp d 175 1172 ls st h K) ∧ (x.toInt = 30 → wp d 175 1185 ls st h K) ∧ (x.toInt = 31 → wp d 175 1198 ls st h K) := (w_any (i := 175) (pc := 33) dL_law_33 rfl rfl).trans (by simp [exI, i_tab, xtab, xtgt])
theorem dL_law_176 : decode cL_law 176 = .ok (.aload_n 1, 1) := by decide +kernel
theorem w175_176 {d : Nat} {st : List Value} {h : xH} {K : Option Value → xH → Prop} {l0 l2 l3 : Option Value} {x : Nat} : wp d 175 176 [l0, some (.ref x), l2, l3] st h K ↔ wp d 175 177 [l0, some (.ref x), l2, l3] (.ref x :: st) h K := w_any (i := 175) (pc := 176) dL_law_176 rfl rfl
theorem w175_176n {d : Nat} {st : List Value} {h : xH} {K : Option Value → xH → Prop} {l0 l2 l3 : Option Value} : wp d 175 176 [l0, some .null, l2, l3] st h K ↔ wp d 175 177 [l0, some .null, l2, l3] (.null :: st) h K := w_any (i := 175) (pc := 176) dL_law_176 rfl rfl
theorem dL_law_177 : decode cL_law 177 = .ok (.aload_n 0, 1) := by decide +kernel
theorem w175_177 {d : Nat} {st : List Value} {h : xH} {K : Option Value → xH → Prop} {l1 l2 l3 : Option Value} {x : Nat} : wp d 175 177 [some (.ref x), l1, l2, l3] st h K ↔ wp d 175 178 [some (.ref x), l1, l2, l3] (.ref x :: st) h K := w_any (i := 175) (pc := 177) dL_law_177 rfl rfl
theorem w175_177n {d : Nat} {st : List Value} {h : xH} {K : Option Value → xH → Prop} {l1 l2 l3 : Option Value} : wp d 175 177 [some .null, l1, l2, l3] st h K ↔ wp d 175 178 [some .null, l1, l2, l3] (.null :: st) h K := w_any (i := 175) (pc := 177) dL_law_177 rfl rfl
theorem dL_law_178 : decode cL_law 178 = .ok (.iload_n 3, 1) := by decide +kernel
theorem w175_178 {d : Nat} {st : List Value} {h : xH} {K : Option Value → xH → Prop} {l0 l1 l2 : Option Value} {x : Int32} : wp d 175 178 [l0, l1, l2, some (.int x)] st h K ↔ wp d 175 179 [l0, l1, l2, some (.int x)] (.int x :: st) h K := w_any (i := 175) (pc := 178) dL_law_178 rfl rfl
theorem dL_law_179 : decode cL_law 179 = .ok (.iconst 1, 1) := by decide +kernel
theorem w175_179 {d : Nat} {st : List Value} {h : xH} {K : Option Value → xH → Prop} {ls : xL} : wp d 175 179 ls st h K ↔ wp d 175 180 ls (.int 1 :: st) h K := w_iconst (i := 175) (pc := 179) dL_law_179 (by decide)
theorem dL_law_180 : decode cL_law 180 = .ok (.iadd, 1) := by decide +kernel
theorem w175_180 {d : Nat} {st : List Value} {h : xH} {K : Option Value → xH → Prop} {ls : xL} {x y : Int32} : wp d 175 180 ls (.int y :: .int x :: st) h K ↔ wp d 175 181 ls (.int (x + y) :: st) h K := w_any (i := 175) (pc := 180) dL_law_180 rfl rfl
theorem dL_law_181 : decode cL_law 181 = .ok (.iaload, 1) := by decide +kernel
theorem w175_181 {d : Nat} {st : List Value} {h : xH} {K : Option Value → xH → Prop} {ls : xL} {a : Nat} {x : Int32} : wp d 175 181 ls (.int x :: .ref a :: st) h K ↔ y_iald h a x (fun v => wp d 175 182 ls (.int v :: st) h K) := w_iald (i := 175) (pc := 181) dL_law_181
theorem dL_law_182 : decode cL_law 182 = .ok (.aload_n 0, 1) := by decide +kernel
theorem w175_182 {d : Nat} {st : List Value} {h : xH} {K : Option Value → xH → Prop} {l1 l2 l3 : Option Value} {x : Nat} : wp d 175 182 [some (.ref x), l1, l2, l3] st h K ↔ wp d 175 183 [some (.ref x), l1, l2, l3] (.ref x :: st) h K := w_any (i := 175) (pc := 182) dL_law_182 rfl rfl
theorem w175_182n {d : Nat} {st : List Value} {h : xH} {K : Option Value → xH → Prop} {l1 l2 l3 : Option Value} : wp d 175 182 [some .null, l1, l2, l3] st h K ↔ wp d 175 183 [some .null, l1, l2, l3] (.null :: st) h K := w_any (i := 175) (pc := 182) dL_law_182 rfl rfl
theorem dL_law_183 : decode cL_law 183 = .ok (.iload_n 3, 1) := by decide +kernel
theorem w175_183 {d : Nat} {st : List Value} {h : xH} {K : Option Value → xH → Prop} {l0 l1 l2 : Option Value} {x : Int32} : wp d 175 183 [l0, l1, l2, some (.int x)] st h K ↔ wp d 175 184 [l0, l1, l2, some (.int x)] (.int x :: st) h K := w_any (i := 175) (pc := 183) dL_law_183 rfl rfl
theorem dL_law_184 : decode cL_law 184 = .ok (.iconst 2, 1) := by decide +kernel
theorem w175_184 {d : Nat} {st : List Value} {h : xH} {K : Option Value → xH → Prop} {ls : xL} : wp d 175 184 ls st h K ↔ wp d 175 185 ls (.int 2 :: st) h K := w_iconst (i := 175) (pc := 184) dL_law_184 (by decide)
theorem dL_law_185 : decode cL_law 185 = .ok (.iadd, 1) := by decide +kernel
theorem w175_185 {d : Nat} {st : List Value} {h : xH} {K : Option Value → xH → Prop} {ls : xL} {x y : Int32} : wp d 175 185 ls (.int y :: .int x :: st) h K ↔ wp d 175 186 ls (.int (x + y) :: st) h K := w_any (i := 175) (pc := 185) dL_law_185 rfl rfl
theorem dL_law_186 : decode cL_law 186 = .ok (.iaload, 1) := by decide +kernel
theorem w175_186 {d : Nat} {st : List Value} {h : xH} {K : Option Value → xH → Prop} {ls : xL} {a : Nat} {x : Int32} : wp d 175 186 ls (.int x :: .ref a :: st) h K ↔ y_iald h a x (fun v => wp d 175 187 ls (.int v :: st) h K) := w_iald (i := 175) (pc := 186) dL_law_186
theorem dL_law_187 : decode cL_law 187 = .ok (.aload_n 0, 1) := by decide +kernel
theorem w175_187 {d : Nat} {st : List Value} {h : xH} {K : Option Value → xH → Prop} {l1 l2 l3 : Option Value} {x : Nat} : wp d 175 187 [some (.ref x), l1, l2, l3] st h K ↔ wp d 175 188 [some (.ref x), l1, l2, l3] (.ref x :: st) h K := w_any (i := 175) (pc := 187) dL_law_187 rfl rfl
theorem w175_187n {d : Nat} {st : List Value} {h : xH} {K : Option Value → xH → Prop} {l1 l2 l3 : Option Value} : wp d 175 187 [some .null, l1, l2, l3] st h K ↔ wp d 175 188 [some .null, l1, l2, l3] (.null :: st) h K := w_any (i := 175) (pc := 187) dL_law_187 rfl rfl
theorem dL_law_188 : decode cL_law 188 = .ok (.iload_n 3, 1) := by decide +kernel
theorem w175_188 {d : Nat} {st : List Value} {h : xH} {K : Option Value → xH → Prop} {l0 l1 l2 : Option Value} {x : Int32} : wp d 175 188 [l0, l1, l2, some (.int x)] st h K ↔ wp d 175 189 [l0, l1, l2, some (.int x)] (.int x :: st) h K := w_any (i := 175) (pc := 188) dL_law_188 rfl rfl
theorem dL_law_189 : decode cL_law 189 = .ok (.iconst 3, 1) := by decide +kernel
theorem w175_189 {d : Nat} {st : List Value} {h : xH} {K : Option Value → xH → Prop} {ls : xL} : wp d 175 189 ls st h K ↔ wp d 175 190 ls (.int 3 :: st) h K := w_iconst (i := 175) (pc := 189) dL_law_189 (by decide)
theorem dL_law_190 : decode cL_law 190 = .ok (.iadd, 1) := by decide +kernel
theorem w175_190 {d : Nat} {st : List Value} {h : xH} {K : Option Value → xH → Prop} {ls : xL} {x y : Int32} : wp d 175 190 ls (.int y :: .int x :: st) h K ↔ wp d 175 191 ls (.int (x + y) :: st) h K := w_any (i := 175) (pc := 190) dL_law_190 rfl rfl
theorem dL_law_191 : decode cL_law 191 = .ok (.iaload, 1) := by decide +kernel
theorem w175_191 {d : Nat} {st : List Value} {h : xH} {K : Option Value → xH → Prop} {ls : xL} {a : Nat} {x : Int32} : wp d 175 191 ls (.int x :: .ref a :: st) h K ↔ y_iald h a x (fun v => wp d 175 192 ls (.int v :: st) h K) := w_iald (i := 175) (pc := 191) dL_law_191
theorem dL_law_192 : decode cL_law 192 = .ok (.aload_n 0, 1) := by decide +kernel
theorem w175_192 {d : Nat} {st : List Value} {h : xH} {K : Option Value → xH → Prop} {l1 l2 l3 : Option Value} {x : Nat} : wp d 175 192 [some (.ref x), l1, l2, l3] st h K ↔ wp d 175 193 [some (.ref x), l1, l2, l3] (.ref x :: st) h K := w_any (i := 175) (pc := 192) dL_law_192 rfl rfl
theorem w175_192n {d : Nat} {st : List Value} {h : xH} {K : Option Value → xH → Prop} {l1 l2 l3 : Option Value} : wp d 175 192 [some .null, l1, l2, l3] st h K ↔ wp d 175 193 [some .null, l1, l2, l3] (.null :: st) h K := w_any (i := 175) (pc := 192) dL_law_192 rfl rfl
theorem dL_law_193 : decode cL_law 193 = .ok (.iload_n 3, 1) := by decide +kernel
theorem w175_193 {d : Nat} {st : List Value} {h : xH} {K : Option Value → xH → Prop} {l0 l1 l2 : Option Value} {x : Int32} : wp d 175 193 [l0, l1, l2, some (.int x)] st h K ↔ wp d 175 194 [l0, l1, l2, some (.int x)] (.int x :: st) h K := w_any (i := 175) (pc := 193) dL_law_193 rfl rfl
theorem dL_law_194 : decode cL_law 194 = .ok (.iconst 4, 1) := by decide +kernel
theorem w175_194 {d : Nat} {st : List Value} {h : xH} {K : Option Value → xH → Prop} {ls : xL} : wp d 175 194 ls st h K ↔ wp d 175 195 ls (.int 4 :: st) h K := w_iconst (i := 175) (pc := 194) dL_law_194 (by decide)
theorem dL_law_195 : decode cL_law 195 = .ok (.iadd, 1) := by decide +kernel
theorem w175_195 {d : Nat} {st : List Value} {h : xH} {K : Option Value → xH → Prop} {ls : xL} {x y : Int32} : wp d 175 195 ls (.int y :: .int x :: st) h K ↔ wp d 175 196 ls (.int (x + y) :: st) h K := w_any (i := 175) (pc := 195) dL_law_195 rfl rfl
theorem dL_law_196 : decode cL_law 196 = .ok (.iaload, 1) := by decide +kernel
theorem w175_196 {d : Nat} {st : List Value} {h : xH} {K : Option Value → xH → Prop} {ls : xL} {a : Nat} {x : Int32} : wp d 175 196 ls (.int x :: .ref a :: st) h K ↔ y_iald h a x (fun v => wp d 175 197 ls (.int v :: st) h K) := w_iald (i := 175) (pc := 196) dL_law_196
theorem dL_law_197 : decode cL_law 197 = .ok (.invokevirtual 13, 3) := by decide +kernel
theorem w175_197 {d : Nat} {st : List Value} {h : xH} {K : Option Value → xH → Prop} {ls : xL} {a0 : Int32} {a1 : Int32} {a2 : Int32} {a3 : Int32} {b : Nat} : wp (d + 1) 175 197 ls (.int a3 :: .int a2 :: .int a1 :: .int a0 :: .ref b :: st) h K ↔ y_cls h b 7 ∧ xcs st ≤ 8 ∧ wp d 42 0 [some (.ref b), some (.int a0), some (.int a1), some (.int a2), some (.int a3), none, none, none] [] h (fun v h1 => wp (d + 1) 175 200 ls (v.toList ++ st) h1 K) := w_callW (i := 175) (pc := 197) (as := [.int a0, .int a1, .int a2, .int a3]) (rest := st) dL_law_197 rfl (by decide) rfl rfl (by decide) rfl rfl rfl rfl
theorem dL_law_200 : decode cL_law 200 = .ok (.aload_n 2, 1) := by decide +kernel
theorem w175_200 {d : Nat} {st : List Value} {h : xH} {K : Option Value → xH → Prop} {l0 l1 l3 : Option Value} {x : Nat} : wp d 175 200 [l0, l1, some (.ref x), l3] st h K ↔ wp d 175 201 [l0, l1, some (.ref x), l3] (.ref x :: st) h K := w_any (i := 175) (pc := 200) dL_law_200 rfl rfl
theorem w175_200n {d : Nat} {st : List Value} {h : xH} {K : Option Value → xH → Prop} {l0 l1 l3 : Option Value} : wp d 175 200 [l0, l1, some .null, l3] st h K ↔ wp d 175 201 [l0, l1, some .null, l3] (.null :: st) h K := w_any (i := 175) (pc := 200) dL_law_200 rfl rfl
theorem dL_law_201 : decode cL_law 201 = .ok (.aload_n 0, 1) := by decide +kernel
theorem w175_201 {d : Nat} {st : List Value} {h : xH} {K : Option Value → xH → Prop} {l1 l2 l3 : Option Value} {x : Nat} : wp d 175 201 [some (.ref x), l1, l2, l3] st h K ↔ wp d 175 202 [some (.ref x), l1, l2, l3] (.ref x :: st) h K := w_any (i := 175) (pc := 201) dL_law_201 rfl rfl
theorem w175_201n {d : Nat} {st : List Value} {h : xH} {K : Option Value → xH → Prop} {l1 l2 l3 : Option Value} : wp d 175 201 [some .null, l1, l2, l3] st h K ↔ wp d 175 202 [some .null, l1, l2, l3] (.null :: st) h K := w_any (i := 175) (pc := 201) dL_law_201 rfl rfl
theorem dL_law_202 : decode cL_law 202 = .ok (.iload_n 3, 1) := by decide +kernel
theorem w175_202 {d : Nat} {st : List Value} {h : xH} {K : Option Value → xH → Prop} {l0 l1 l2 : Option Value} {x : Int32} : wp d 175 202 [l0, l1, l2, some (.int x)] st h K ↔ wp d 175 203 [l0, l1, l2, some (.int x)] (.int x :: st) h K := w_any (i := 175) (pc := 202) dL_law_202 rfl rfl
theorem dL_law_203 : decode cL_law 203 = .ok (.iconst 1, 1) := by decide +kernel
theorem w175_203 {d : Nat} {st : List Value} {h : xH} {K : Option Value → xH → Prop} {ls : xL} : wp d 175 203 ls st h K ↔ wp d 175 204 ls (.int 1 :: st) h K := w_iconst (i := 175) (pc := 203) dL_law_203 (by decide)
theorem dL_law_204 : decode cL_law 204 = .ok (.iadd, 1) := by decide +kernel
theorem w175_204 {d : Nat} {st : List Value} {h : xH} {K : Option Value → xH → Prop} {ls : xL} {x y : Int32} : wp d 175 204 ls (.int y :: .int x :: st) h K ↔ wp d 175 205 ls (.int (x + y) :: st) h K := w_any (i := 175) (pc := 204) dL_law_204 rfl rfl
theorem dL_law_205 : decode cL_law 205 = .ok (.iaload, 1) := by decide +kernel
theorem w175_205 {d : Nat} {st : List Value} {h : xH} {K : Option Value → xH → Prop} {ls : xL} {a : Nat} {x : Int32} : wp d 175 205 ls (.int x :: .ref a :: st) h K ↔ y_iald h a x (fun v => wp d 175 206 ls (.int v :: st) h K) := w_iald (i := 175) (pc := 205) dL_law_205
theorem dL_law_206 : decode cL_law 206 = .ok (.aload_n 0, 1) := by decide +kernel
theorem w175_206 {d : Nat} {st : List Value} {h : xH} {K : Option Value → xH → Prop} {l1 l2 l3 : Option Value} {x : Nat} : wp d 175 206 [some (.ref x), l1, l2, l3] st h K ↔ wp d 175 207 [some (.ref x), l1, l2, l3] (.ref x :: st) h K := w_any (i := 175) (pc := 206) dL_law_206 rfl rfl
theorem w175_206n {d : Nat} {st : List Value} {h : xH} {K : Option Value → xH → Prop} {l1 l2 l3 : Option Value} : wp d 175 206 [some .null, l1, l2, l3] st h K ↔ wp d 175 207 [some .null, l1, l2, l3] (.null :: st) h K := w_any (i := 175) (pc := 206) dL_law_206 rfl rfl
theorem dL_law_207 : decode cL_law 207 = .ok (.iload_n 3, 1) := by decide +kernel
theorem w175_207 {d : Nat} {st : List Value} {h : xH} {K : Option Value → xH → Prop} {l0 l1 l2 : Option Value} {x : Int32} : wp d 175 207 [l0, l1, l2, some (.int x)] st h K ↔ wp d 175 208 [l0, l1, l2, some (.int x)] (.int x :: st) h K := w_any (i := 175) (pc := 207) dL_law_207 rfl rfl
theorem dL_law_208 : decode cL_law 208 = .ok (.iconst 2, 1) := by decide +kernel
theorem w175_208 {d : Nat} {st : List Value} {h : xH} {K : Option Value → xH → Prop} {ls : xL} : wp d 175 208 ls st h K ↔ wp d 175 209 ls (.int 2 :: st) h K := w_iconst (i := 175) (pc := 208) dL_law_208 (by decide)
theorem dL_law_209 : decode cL_law 209 = .ok (.iadd, 1) := by decide +kernel
theorem w175_209 {d : Nat} {st : List Value} {h : xH} {K : Option Value → xH → Prop} {ls : xL} {x y : Int32} : wp d 175 209 ls (.int y :: .int x :: st) h K ↔ wp d 175 210 ls (.int (x + y) :: st) h K := w_any (i := 175) (pc := 209) dL_law_209 rfl rfl
theorem dL_law_210 : decode cL_law 210 = .ok (.iaload, 1) := by decide +kernel
theorem w175_210 {d : Nat} {st : List Value} {h : xH} {K : Option Value → xH → Prop} {ls : xL} {a : Nat} {x : Int32} : wp d 175 210 ls (.int x :: .ref a :: st) h K ↔ y_iald h a x (fun v => wp d 175 211 ls (.int v :: st) h K) := w_iald (i := 175) (pc := 210) dL_law_210
theorem dL_law_211 : decode cL_law 211 = .ok (.aload_n 0, 1) := by decide +kernel
theorem w175_211 {d : Nat} {st : List Value} {h : xH} {K : Option Value → xH → Prop} {l1 l2 l3 : Option Value} {x : Nat} : wp d 175 211 [some (.ref x), l1, l2, l3] st h K ↔ wp d 175 212 [some (.ref x), l1, l2, l3] (.ref x :: st) h K := w_any (i := 175) (pc := 211) dL_law_211 rfl rfl
theorem w175_211n {d : Nat} {st : List Value} {h : xH} {K : Option Value → xH → Prop} {l1 l2 l3 : Option Value} : wp d 175 211 [some .null, l1, l2, l3] st h K ↔ wp d 175 212 [some .null, l1, l2, l3] (.null :: st) h K := w_any (i := 175) (pc := 211) dL_law_211 rfl rfl
theorem dL_law_212 : decode cL_law 212 = .ok (.iload_n 3, 1) := by decide +kernel
theorem w175_212 {d : Nat} {st : List Value} {h : xH} {K : Option Value → xH → Prop} {l0 l1 l2 : Option Value} {x : Int32} : wp d 175 212 [l0, l1, l2, some (.int x)] st h K ↔ wp d 175 213 [l0, l1, l2, some (.int x)] (.int x :: st) h K := w_any (i := 175) (pc := 212) dL_law_212 rfl rfl
theorem dL_law_213 : decode cL_law 213 = .ok (.iconst 3, 1) := by decide +kernel
theorem w175_213 {d : Nat} {st : List Value} {h : xH} {K : Option Value → xH → Prop} {ls : xL} : wp d 175 213 ls st h K ↔ wp d 175 214 ls (.int 3 :: st) h K := w_iconst (i := 175) (pc := 213) dL_law_213 (by decide)
theorem dL_law_214 : decode cL_law 214 = .ok (.iadd, 1) := by decide +kernel
theorem w175_214 {d : Nat} {st : List Value} {h : xH} {K : Option Value → xH → Prop} {ls : xL} {x y : Int32} : wp d 175 214 ls (.int y :: .int x :: st) h K ↔ wp d 175 215 ls (.int (x + y) :: st) h K := w_any (i := 175) (pc := 214) dL_law_214 rfl rfl
theorem dL_law_215 : decode cL_law 215 = .ok (.iaload, 1) := by decide +kernel
theorem w175_215 {d : Nat} {st : List Value} {h : xH} {K : Option Value → xH → Prop} {ls : xL} {a : Nat} {x : Int32} : wp d 175 215 ls (.int x :: .ref a :: st) h K ↔ y_iald h a x (fun v => wp d 175 216 ls (.int v :: st) h K) := w_iald (i := 175) (pc := 215) dL_law_215
theorem dL_law_216 : decode cL_law 216 = .ok (.aload_n 0, 1) := by decide +kernel
theorem w175_216 {d : Nat} {st : List Value} {h : xH} {K : Option Value → xH → Prop} {l1 l2 l3 : Option Value} {x : Nat} : wp d 175 216 [some (.ref x), l1, l2, l3] st h K ↔ wp d 175 217 [some (.ref x), l1, l2, l3] (.ref x :: st) h K := w_any (i := 175) (pc := 216) dL_law_216 rfl rfl
theorem w175_216n {d : Nat} {st : List Value} {h : xH} {K : Option Value → xH → Prop} {l1 l2 l3 : Option Value} : wp d 175 216 [some .null, l1, l2, l3] st h K ↔ wp d 175 217 [some .null, l1, l2, l3] (.null :: st) h K := w_any (i := 175) (pc := 216) dL_law_216 rfl rfl
theorem dL_law_217 : decode cL_law 217 = .ok (.iload_n 3, 1) := by decide +kernel
theorem w175_217 {d : Nat} {st : List Value} {h : xH} {K : Option Value → xH → Prop} {l0 l1 l2 : Option Value} {x : Int32} : wp d 175 217 [l0, l1, l2, some (.int x)] st h K ↔ wp d 175 218 [l0, l1, l2, some (.int x)] (.int x :: st) h K := w_any (i := 175) (pc := 217) dL_law_217 rfl rfl
theorem dL_law_218 : decode cL_law 218 = .ok (.iconst 4, 1) := by decide +kernel
theorem w175_218 {d : Nat} {st : List Value} {h : xH} {K : Option Value → xH → Prop} {ls : xL} : wp d 175 218 ls st h K ↔ wp d 175 219 ls (.int 4 :: st) h K := w_iconst (i := 175) (pc := 218) dL_law_218 (by decide)
theorem dL_law_219 : decode cL_law 219 = .ok (.iadd, 1) := by decide +kernel
theorem w175_219 {d : Nat} {st : List Value} {h : xH} {K : Option Value → xH → Prop} {ls : xL} {x y : Int32} : wp d 175 219 ls (.int y :: .int x :: st) h K ↔ wp d 175 220 ls (.int (x + y) :: st) h K := w_any (i := 175) (pc := 219) dL_law_219 rfl rfl
theorem dL_law_220 : decode cL_law 220 = .ok (.iaload, 1) := by decide +kernel
theorem w175_220 {d : Nat} {st : List Value} {h : xH} {K : Option Value → xH → Prop} {ls : xL} {a : Nat} {x : Int32} : wp d 175 220 ls (.int x :: .ref a :: st) h K ↔ y_iald h a x (fun v => wp d 175 221 ls (.int v :: st) h K) := w_iald (i := 175) (pc := 220) dL_law_220
theorem dL_law_221 : decode cL_law 221 = .ok (.invokevirtual 17, 3) := by decide +kernel
theorem w175_221 {d : Nat} {st : List Value} {h : xH} {K : Option Value → xH → Prop} {ls : xL} {a0 : Int32} {a1 : Int32} {a2 : Int32} {a3 : Int32} {b : Nat} : wp (d + 1) 175 221 ls (.int a3 :: .int a2 :: .int a1 :: .int a0 :: .ref b :: st) h K ↔ y_cls h b 8 ∧ xcs st ≤ 8 ∧ wp d 103 0 [some (.ref b), some (.int a0), some (.int a1), some (.int a2), some (.int a3), none, none, none] [] h (fun v h1 => wp (d + 1) 175 224 ls (v.toList ++ st) h1 K) := w_callW (i := 175) (pc := 221) (as := [.int a0, .int a1, .int a2, .int a3]) (rest := st) dL_law_221 rfl (by decide) rfl rfl (by decide) rfl rfl rfl rfl
theorem dL_law_224 : decode cL_law 224 = .ok (.if_icmp .eq 997, 3) := by decide +kernel
theorem w175_224 {d : Nat} {st : List Value} {h : xH} {K : Option Value → xH → Prop} {ls : xL} {x y : Int32} : wp d 175 224 ls (.int y :: .int x :: st) h K ↔ ((x = y) → wp d 175 1221 ls st h K) ∧ ((¬ (x = y)) → wp d 175 227 ls st h K) := w_if2 (i := 175) (pc := 224) (cd := .eq) (off := 997) (tgt := 1221) dL_law_224 (by decide) rfl
theorem dL_law_227 : decode cL_law 227 = .ok (.iconst 0, 1) := by decide +kernel
theorem w175_227 {d : Nat} {st : List Value} {h : xH} {K : Option Value → xH → Prop} {ls : xL} : wp d 175 227 ls st h K ↔ wp d 175 228 ls (.int 0 :: st) h K := w_iconst (i := 175) (pc := 227) dL_law_227 (by decide)
theorem dL_law_228 : decode cL_law 228 = .ok (.ireturn, 1) := by decide +kernel
theorem w175_228 {d : Nat} {h : xH} {K : Option Value → xH → Prop} {ls : xL} {x : Int32} : wp d 175 228 ls [.int x] h K ↔ y_bool x ∧ K (some (.int x)) h := w_zret (i := 175) (pc := 228) dL_law_228 rfl
theorem dL_law_229 : decode cL_law 229 = .ok (.aload_n 1, 1) := by decide +kernel
theorem w175_229 {d : Nat} {st : List Value} {h : xH} {K : Option Value → xH → Prop} {l0 l2 l3 : Option Value} {x : Nat} : wp d 175 229 [l0, some (.ref x), l2, l3] st h K ↔ wp d 175 230 [l0, some (.ref x), l2, l3] (.ref x :: st) h K := w_any (i := 175) (pc := 229) dL_law_229 rfl rfl
theorem w175_229n {d : Nat} {st : List Value} {h : xH} {K : Option Value → xH → Prop} {l0 l2 l3 : Option Value} : wp d 175 229 [l0, some .null, l2, l3] st h K ↔ wp d 175 230 [l0, some .null, l2, l3] (.null :: st) h K := w_any (i := 175) (pc := 229) dL_law_229 rfl rfl
theorem dL_law_230 : decode cL_law 230 = .ok (.aload_n 0, 1) := by decide +kernel
theorem w175_230 {d : Nat} {st : List Value} {h : xH} {K : Option Value → xH → Prop} {l1 l2 l3 : Option Value} {x : Nat} : wp d 175 230 [some (.ref x), l1, l2, l3] st h K ↔ wp d 175 231 [some (.ref x), l1, l2, l3] (.ref x :: st) h K := w_any (i := 175) (pc := 230) dL_law_230 rfl rfl
theorem w175_230n {d : Nat} {st : List Value} {h : xH} {K : Option Value → xH → Prop} {l1 l2 l3 : Option Value} : wp d 175 230 [some .null, l1, l2, l3] st h K ↔ wp d 175 231 [some .null, l1, l2, l3] (.null :: st) h K := w_any (i := 175) (pc := 230) dL_law_230 rfl rfl
theorem dL_law_231 : decode cL_law 231 = .ok (.iload_n 3, 1) := by decide +kernel
theorem w175_231 {d : Nat} {st : List Value} {h : xH} {K : Option Value → xH → Prop} {l0 l1 l2 : Option Value} {x : Int32} : wp d 175 231 [l0, l1, l2, some (.int x)] st h K ↔ wp d 175 232 [l0, l1, l2, some (.int x)] (.int x :: st) h K := w_any (i := 175) (pc := 231) dL_law_231 rfl rfl
theorem dL_law_232 : decode cL_law 232 = .ok (.iconst 1, 1) := by decide +kernel
theorem w175_232 {d : Nat} {st : List Value} {h : xH} {K : Option Value → xH → Prop} {ls : xL} : wp d 175 232 ls st h K ↔ wp d 175 233 ls (.int 1 :: st) h K := w_iconst (i := 175) (pc := 232) dL_law_232 (by decide)
theorem dL_law_233 : decode cL_law 233 = .ok (.iadd, 1) := by decide +kernel
theorem w175_233 {d : Nat} {st : List Value} {h : xH} {K : Option Value → xH → Prop} {ls : xL} {x y : Int32} : wp d 175 233 ls (.int y :: .int x :: st) h K ↔ wp d 175 234 ls (.int (x + y) :: st) h K := w_any (i := 175) (pc := 233) dL_law_233 rfl rfl
theorem dL_law_234 : decode cL_law 234 = .ok (.iaload, 1) := by decide +kernel
theorem w175_234 {d : Nat} {st : List Value} {h : xH} {K : Option Value → xH → Prop} {ls : xL} {a : Nat} {x : Int32} : wp d 175 234 ls (.int x :: .ref a :: st) h K ↔ y_iald h a x (fun v => wp d 175 235 ls (.int v :: st) h K) := w_iald (i := 175) (pc := 234) dL_law_234
theorem dL_law_235 : decode cL_law 235 = .ok (.invokevirtual 18, 3) := by decide +kernel
theorem w175_235 {d : Nat} {st : List Value} {h : xH} {K : Option Value → xH → Prop} {ls : xL} {a0 : Int32} {b : Nat} : wp (d + 1) 175 235 ls (.int a0 :: .ref b :: st) h K ↔ y_cls h b 7 ∧ xcs st ≤ 8 ∧ wp d 43 0 [some (.ref b), some (.int a0)] [] h (fun v h1 => wp (d + 1) 175 238 ls (v.toList ++ st) h1 K) := w_callW (i := 175) (pc := 235) (as := [.int a0]) (rest := st) dL_law_235 rfl (by decide) rfl rfl (by decide) rfl rfl rfl rfl
theorem dL_law_238 : decode cL_law 238 = .ok (.aload_n 2, 1) := by decide +kernel
theorem w175_238 {d : Nat} {st : List Value} {h : xH} {K : Option Value → xH → Prop} {l0 l1 l3 : Option Value} {x : Nat} : wp d 175 238 [l0, l1, some (.ref x), l3] st h K ↔ wp d 175 239 [l0, l1, some (.ref x), l3] (.ref x :: st) h K := w_any (i := 175) (pc := 238) dL_law_238 rfl rfl
theorem w175_238n {d : Nat} {st : List Value} {h : xH} {K : Option Value → xH → Prop} {l0 l1 l3 : Option Value} : wp d 175 238 [l0, l1, some .null, l3] st h K ↔ wp d 175 239 [l0, l1, some .null, l3] (.null :: st) h K := w_any (i := 175) (pc := 238) dL_law_238 rfl rfl
theorem dL_law_239 : decode cL_law 239 = .ok (.aload_n 0, 1) := by decide +kernel
theorem w175_239 {d : Nat} {st : List Value} {h : xH} {K : Option Value → xH → Prop} {l1 l2 l3 : Option Value} {x : Nat} : wp d 175 239 [some (.ref x), l1, l2, l3] st h K ↔ wp d 175 240 [some (.ref x), l1, l2, l3] (.ref x :: st) h K := w_any (i := 175) (pc := 239) dL_law_239 rfl rfl
theorem w175_239n {d : Nat} {st : List Value} {h : xH} {K : Option Value → xH → Prop} {l1 l2 l3 : Option Value} : wp d 175 239 [some .null, l1, l2, l3] st h K ↔ wp d 175 240 [some .null, l1, l2, l3] (.null :: st) h K := w_any (i := 175) (pc := 239) dL_law_239 rfl rfl
theorem dL_law_240 : decode cL_law 240 = .ok (.iload_n 3, 1) := by decide +kernel
theorem w175_240 {d : Nat} {st : List Value} {h : xH} {K : Option Value → xH → Prop} {l0 l1 l2 : Option Value} {x : Int32} : wp d 175 240 [l0, l1, l2, some (.int x)] st h K ↔ wp d 175 241 [l0, l1, l2, some (.int x)] (.int x :: st) h K := w_any (i := 175) (pc := 240) dL_law_240 rfl rfl
theorem dL_law_241 : decode cL_law 241 = .ok (.iconst 1, 1) := by decide +kernel
theorem w175_241 {d : Nat} {st : List Value} {h : xH} {K : Option Value → xH → Prop} {ls : xL} : wp d 175 241 ls st h K ↔ wp d 175 242 ls (.int 1 :: st) h K := w_iconst (i := 175) (pc := 241) dL_law_241 (by decide)
theorem dL_law_242 : decode cL_law 242 = .ok (.iadd, 1) := by decide +kernel
theorem w175_242 {d : Nat} {st : List Value} {h : xH} {K : Option Value → xH → Prop} {ls : xL} {x y : Int32} : wp d 175 242 ls (.int y :: .int x :: st) h K ↔ wp d 175 243 ls (.int (x + y) :: st) h K := w_any (i := 175) (pc := 242) dL_law_242 rfl rfl
theorem dL_law_243 : decode cL_law 243 = .ok (.iaload, 1) := by decide +kernel
theorem w175_243 {d : Nat} {st : List Value} {h : xH} {K : Option Value → xH → Prop} {ls : xL} {a : Nat} {x : Int32} : wp d 175 243 ls (.int x :: .ref a :: st) h K ↔ y_iald h a x (fun v => wp d 175 244 ls (.int v :: st) h K) := w_iald (i := 175) (pc := 243) dL_law_243
theorem dL_law_244 : decode cL_law 244 = .ok (.invokevirtual 22, 3) := by decide +kernel
theorem w175_244 {d : Nat} {st : List Value} {h : xH} {K : Option Value → xH → Prop} {ls : xL} {a0 : Int32} {b : Nat} : wp (d + 1) 175 244 ls (.int a0 :: .ref b :: st) h K ↔ y_cls h b 8 ∧ xcs st ≤ 8 ∧ wp d 106 0 [some (.ref b), some (.int a0)] [] h (fun v h1 => wp (d + 1) 175 247 ls (v.toList ++ st) h1 K) := w_callW (i := 175) (pc := 244) (as := [.int a0]) (rest := st) dL_law_244 rfl (by decide) rfl rfl (by decide) rfl rfl rfl rfl
theorem dL_law_247 : decode cL_law 247 = .ok (.if_icmp .eq 974, 3) := by decide +kernel
theorem w175_247 {d : Nat} {st : List Value} {h : xH} {K : Option Value → xH → Prop} {ls : xL} {x y : Int32} : wp d 175 247 ls (.int y :: .int x :: st) h K ↔ ((x = y) → wp d 175 1221 ls st h K) ∧ ((¬ (x = y)) → wp d 175 250 ls st h K) := w_if2 (i := 175) (pc := 247) (cd := .eq) (off := 974) (tgt := 1221) dL_law_247 (by decide) rfl
theorem dL_law_250 : decode cL_law 250 = .ok (.iconst 0, 1) := by decide +kernel
theorem w175_250 {d : Nat} {st : List Value} {h : xH} {K : Option Value → xH → Prop} {ls : xL} : wp d 175 250 ls st h K ↔ wp d 175 251 ls (.int 0 :: st) h K := w_iconst (i := 175) (pc := 250) dL_law_250 (by decide)
theorem dL_law_251 : decode cL_law 251 = .ok (.ireturn, 1) := by decide +kernel
theorem w175_251 {d : Nat} {h : xH} {K : Option Value → xH → Prop} {ls : xL} {x : Int32} : wp d 175 251 ls [.int x] h K ↔ y_bool x ∧ K (some (.int x)) h := w_zret (i := 175) (pc := 251) dL_law_251 rfl
theorem dL_law_252 : decode cL_law 252 = .ok (.aload_n 1, 1) := by decide +kernel
theorem w175_252 {d : Nat} {st : List Value} {h : xH} {K : Option Value → xH → Prop} {l0 l2 l3 : Option Value} {x : Nat} : wp d 175 252 [l0, some (.ref x), l2, l3] st h K ↔ wp d 175 253 [l0, some (.ref x), l2, l3] (.ref x :: st) h K := w_any (i := 175) (pc := 252) dL_law_252 rfl rfl
theorem w175_252n {d : Nat} {st : List Value} {h : xH} {K : Option Value → xH → Prop} {l0 l2 l3 : Option Value} : wp d 175 252 [l0, some .null, l2, l3] st h K ↔ wp d 175 253 [l0, some .null, l2, l3] (.null :: st) h K := w_any (i := 175) (pc := 252) dL_law_252 rfl rfl
theorem dL_law_253 : decode cL_law 253 = .ok (.aload_n 0, 1) := by decide +kernel
theorem w175_253 {d : Nat} {st : List Value} {h : xH} {K : Option Value → xH → Prop} {l1 l2 l3 : Option Value} {x : Nat} : wp d 175 253 [some (.ref x), l1, l2, l3] st h K ↔ wp d 175 254 [some (.ref x), l1, l2, l3] (.ref x :: st) h K := w_any (i := 175) (pc := 253) dL_law_253 rfl rfl
theorem w175_253n {d : Nat} {st : List Value} {h : xH} {K : Option Value → xH → Prop} {l1 l2 l3 : Option Value} : wp d 175 253 [some .null, l1, l2, l3] st h K ↔ wp d 175 254 [some .null, l1, l2, l3] (.null :: st) h K := w_any (i := 175) (pc := 253) dL_law_253 rfl rfl
theorem dL_law_254 : decode cL_law 254 = .ok (.iload_n 3, 1) := by decide +kernel
theorem w175_254 {d : Nat} {st : List Value} {h : xH} {K : Option Value → xH → Prop} {l0 l1 l2 : Option Value} {x : Int32} : wp d 175 254 [l0, l1, l2, some (.int x)] st h K ↔ wp d 175 255 [l0, l1, l2, some (.int x)] (.int x :: st) h K := w_any (i := 175) (pc := 254) dL_law_254 rfl rfl
theorem dL_law_255 : decode cL_law 255 = .ok (.iconst 1, 1) := by decide +kernel
theorem w175_255 {d : Nat} {st : List Value} {h : xH} {K : Option Value → xH → Prop} {ls : xL} : wp d 175 255 ls st h K ↔ wp d 175 256 ls (.int 1 :: st) h K := w_iconst (i := 175) (pc := 255) dL_law_255 (by decide)
theorem dL_law_256 : decode cL_law 256 = .ok (.iadd, 1) := by decide +kernel
theorem w175_256 {d : Nat} {st : List Value} {h : xH} {K : Option Value → xH → Prop} {ls : xL} {x y : Int32} : wp d 175 256 ls (.int y :: .int x :: st) h K ↔ wp d 175 257 ls (.int (x + y) :: st) h K := w_any (i := 175) (pc := 256) dL_law_256 rfl rfl
theorem dL_law_257 : decode cL_law 257 = .ok (.iaload, 1) := by decide +kernel
theorem w175_257 {d : Nat} {st : List Value} {h : xH} {K : Option Value → xH → Prop} {ls : xL} {a : Nat} {x : Int32} : wp d 175 257 ls (.int x :: .ref a :: st) h K ↔ y_iald h a x (fun v => wp d 175 258 ls (.int v :: st) h K) := w_iald (i := 175) (pc := 257) dL_law_257
theorem dL_law_258 : decode cL_law 258 = .ok (.aload_n 0, 1) := by decide +kernel
theorem w175_258 {d : Nat} {st : List Value} {h : xH} {K : Option Value → xH → Prop} {l1 l2 l3 : Option Value} {x : Nat} : wp d 175 258 [some (.ref x), l1, l2, l3] st h K ↔ wp d 175 259 [some (.ref x), l1, l2, l3] (.ref x :: st) h K := w_any (i := 175) (pc := 258) dL_law_258 rfl rfl
theorem w175_258n {d : Nat} {st : List Value} {h : xH} {K : Option Value → xH → Prop} {l1 l2 l3 : Option Value} : wp d 175 258 [some .null, l1, l2, l3] st h K ↔ wp d 175 259 [some .null, l1, l2, l3] (.null :: st) h K := w_any (i := 175) (pc := 258) dL_law_258 rfl rfl
theorem dL_law_259 : decode cL_law 259 = .ok (.iload_n 3, 1) := by decide +kernel
theorem w175_259 {d : Nat} {st : List Value} {h : xH} {K : Option Value → xH → Prop} {l0 l1 l2 : Option Value} {x : Int32} : wp d 175 259 [l0, l1, l2, some (.int x)] st h K ↔ wp d 175 260 [l0, l1, l2, some (.int x)] (.int x :: st) h K := w_any (i := 175) (pc := 259) dL_law_259 rfl rfl
theorem dL_law_260 : decode cL_law 260 = .ok (.iconst 2, 1) := by decide +kernel
theorem w175_260 {d : Nat} {st : List Value} {h : xH} {K : Option Value → xH → Prop} {ls : xL} : wp d 175 260 ls st h K ↔ wp d 175 261 ls (.int 2 :: st) h K := w_iconst (i := 175) (pc := 260) dL_law_260 (by decide)
theorem dL_law_261 : decode cL_law 261 = .ok (.iadd, 1) := by decide +kernel
theorem w175_261 {d : Nat} {st : List Value} {h : xH} {K : Option Value → xH → Prop} {ls : xL} {x y : Int32} : wp d 175 261 ls (.int y :: .int x :: st) h K ↔ wp d 175 262 ls (.int (x + y) :: st) h K := w_any (i := 175) (pc := 261) dL_law_261 rfl rfl
theorem dL_law_262 : decode cL_law 262 = .ok (.iaload, 1) := by decide +kernel
theorem w175_262 {d : Nat} {st : List Value} {h : xH} {K : Option Value → xH → Prop} {ls : xL} {a : Nat} {x : Int32} : wp d 175 262 ls (.int x :: .ref a :: st) h K ↔ y_iald h a x (fun v => wp d 175 263 ls (.int v :: st) h K) := w_iald (i := 175) (pc := 262) dL_law_262
theorem dL_law_263 : decode cL_law 263 = .ok (.invokevirtual 23, 3) := by decide +kernel
theorem w175_263 {d : Nat} {st : List Value} {h : xH} {K : Option Value → xH → Prop} {ls : xL} {a0 : Int32} {a1 : Int32} {b : Nat} : wp (d + 1) 175 263 ls (.int a1 :: .int a0 :: .ref b :: st) h K ↔ y_cls h b 7 ∧ xcs st ≤ 8 ∧ wp d 44 0 [some (.ref b), some (.int a0), some (.int a1), none] [] h (fun v h1 => wp (d + 1) 175 266 ls (v.toList ++ st) h1 K) := w_callW (i := 175) (pc := 263) (as := [.int a0, .int a1]) (rest := st) dL_law_263 rfl (by decide) rfl rfl (by decide) rfl rfl rfl rfl
theorem dL_law_266 : decode cL_law 266 = .ok (.aload_n 2, 1) := by decide +kernel
theorem w175_266 {d : Nat} {st : List Value} {h : xH} {K : Option Value → xH → Prop} {l0 l1 l3 : Option Value} {x : Nat} : wp d 175 266 [l0, l1, some (.ref x), l3] st h K ↔ wp d 175 267 [l0, l1, some (.ref x), l3] (.ref x :: st) h K := w_any (i := 175) (pc := 266) dL_law_266 rfl rfl
theorem w175_266n {d : Nat} {st : List Value} {h : xH} {K : Option Value → xH → Prop} {l0 l1 l3 : Option Value} : wp d 175 266 [l0, l1, some .null, l3] st h K ↔ wp d 175 267 [l0, l1, some .null, l3] (.null :: st) h K := w_any (i := 175) (pc := 266) dL_law_266 rfl rfl
theorem dL_law_267 : decode cL_law 267 = .ok (.aload_n 0, 1) := by decide +kernel
theorem w175_267 {d : Nat} {st : List Value} {h : xH} {K : Option Value → xH → Prop} {l1 l2 l3 : Option Value} {x : Nat} : wp d 175 267 [some (.ref x), l1, l2, l3] st h K ↔ wp d 175 268 [some (.ref x), l1, l2, l3] (.ref x :: st) h K := w_any (i := 175) (pc := 267) dL_law_267 rfl rfl
theorem w175_267n {d : Nat} {st : List Value} {h : xH} {K : Option Value → xH → Prop} {l1 l2 l3 : Option Value} : wp d 175 267 [some .null, l1, l2, l3] st h K ↔ wp d 175 268 [some .null, l1, l2, l3] (.null :: st) h K := w_any (i := 175) (pc := 267) dL_law_267 rfl rfl
theorem dL_law_268 : decode cL_law 268 = .ok (.iload_n 3, 1) := by decide +kernel
theorem w175_268 {d : Nat} {st : List Value} {h : xH} {K : Option Value → xH → Prop} {l0 l1 l2 : Option Value} {x : Int32} : wp d 175 268 [l0, l1, l2, some (.int x)] st h K ↔ wp d 175 269 [l0, l1, l2, some (.int x)] (.int x :: st) h K := w_any (i := 175) (pc := 268) dL_law_268 rfl rfl
theorem dL_law_269 : decode cL_law 269 = .ok (.iconst 1, 1) := by decide +kernel
theorem w175_269 {d : Nat} {st : List Value} {h : xH} {K : Option Value → xH → Prop} {ls : xL} : wp d 175 269 ls st h K ↔ wp d 175 270 ls (.int 1 :: st) h K := w_iconst (i := 175) (pc := 269) dL_law_269 (by decide)
theorem dL_law_270 : decode cL_law 270 = .ok (.iadd, 1) := by decide +kernel
theorem w175_270 {d : Nat} {st : List Value} {h : xH} {K : Option Value → xH → Prop} {ls : xL} {x y : Int32} : wp d 175 270 ls (.int y :: .int x :: st) h K ↔ wp d 175 271 ls (.int (x + y) :: st) h K := w_any (i := 175) (pc := 270) dL_law_270 rfl rfl
theorem dL_law_271 : decode cL_law 271 = .ok (.iaload, 1) := by decide +kernel
theorem w175_271 {d : Nat} {st : List Value} {h : xH} {K : Option Value → xH → Prop} {ls : xL} {a : Nat} {x : Int32} : wp d 175 271 ls (.int x :: .ref a :: st) h K ↔ y_iald h a x (fun v => wp d 175 272 ls (.int v :: st) h K) := w_iald (i := 175) (pc := 271) dL_law_271
theorem dL_law_272 : decode cL_law 272 = .ok (.aload_n 0, 1) := by decide +kernel
theorem w175_272 {d : Nat} {st : List Value} {h : xH} {K : Option Value → xH → Prop} {l1 l2 l3 : Option Value} {x : Nat} : wp d 175 272 [some (.ref x), l1, l2, l3] st h K ↔ wp d 175 273 [some (.ref x), l1, l2, l3] (.ref x :: st) h K := w_any (i := 175) (pc := 272) dL_law_272 rfl rfl
theorem w175_272n {d : Nat} {st : List Value} {h : xH} {K : Option Value → xH → Prop} {l1 l2 l3 : Option Value} : wp d 175 272 [some .null, l1, l2, l3] st h K ↔ wp d 175 273 [some .null, l1, l2, l3] (.null :: st) h K := w_any (i := 175) (pc := 272) dL_law_272 rfl rfl
theorem dL_law_273 : decode cL_law 273 = .ok (.iload_n 3, 1) := by decide +kernel
theorem w175_273 {d : Nat} {st : List Value} {h : xH} {K : Option Value → xH → Prop} {l0 l1 l2 : Option Value} {x : Int32} : wp d 175 273 [l0, l1, l2, some (.int x)] st h K ↔ wp d 175 274 [l0, l1, l2, some (.int x)] (.int x :: st) h K := w_any (i := 175) (pc := 273) dL_law_273 rfl rfl
theorem dL_law_274 : decode cL_law 274 = .ok (.iconst 2, 1) := by decide +kernel
theorem w175_274 {d : Nat} {st : List Value} {h : xH} {K : Option Value → xH → Prop} {ls : xL} : wp d 175 274 ls st h K ↔ wp d 175 275 ls (.int 2 :: st) h K := w_iconst (i := 175) (pc := 274) dL_law_274 (by decide)
theorem dL_law_275 : decode cL_law 275 = .ok (.iadd, 1) := by decide +kernel
theorem w175_275 {d : Nat} {st : List Value} {h : xH} {K : Option Value → xH → Prop} {ls : xL} {x y : Int32} : wp d 175 275 ls (.int y :: .int x :: st) h K ↔ wp d 175 276 ls (.int (x + y) :: st) h K := w_any (i := 175) (pc := 275) dL_law_275 rfl rfl
theorem dL_law_276 : decode cL_law 276 = .ok (.iaload, 1) := by decide +kernel
theorem w175_276 {d : Nat} {st : List Value} {h : xH} {K : Option Value → xH → Prop} {ls : xL} {a : Nat} {x : Int32} : wp d 175 276 ls (.int x :: .ref a :: st) h K ↔ y_iald h a x (fun v => wp d 175 277 ls (.int v :: st) h K) := w_iald (i := 175) (pc := 276) dL_law_276
theorem dL_law_277 : decode cL_law 277 = .ok (.invokevirtual 27, 3) := by decide +kernel
theorem w175_277 {d : Nat} {st : List Value} {h : xH} {K : Option Value → xH → Prop} {ls : xL} {a0 : Int32} {a1 : Int32} {b : Nat} : wp (d + 1) 175 277 ls (.int a1 :: .int a0 :: .ref b :: st) h K ↔ y_cls h b 8 ∧ xcs st ≤ 8 ∧ wp d 108 0 [some (.ref b), some (.int a0), some (.int a1), none] [] h (fun v h1 => wp (d + 1) 175 280 ls (v.toList ++ st) h1 K) := w_callW (i := 175) (pc := 277) (as := [.int a0, .int a1]) (rest := st) dL_law_277 rfl (by decide) rfl rfl (by decide) rfl rfl rfl rfl
theorem dL_law_280 : decode cL_law 280 = .ok (.if_icmp .eq 941, 3) := by decide +kernel
theorem w175_280 {d : Nat} {st : List Value} {h : xH} {K : Option Value → xH → Prop} {ls : xL} {x y : Int32} : wp d 175 280 ls (.int y :: .int x :: st) h K ↔ ((x = y) → wp d 175 1221 ls st h K) ∧ ((¬ (x = y)) → wp d 175 283 ls st h K) := w_if2 (i := 175) (pc := 280) (cd := .eq) (off := 941) (tgt := 1221) dL_law_280 (by decide) rfl
theorem dL_law_283 : decode cL_law 283 = .ok (.iconst 0, 1) := by decide +kernel
theorem w175_283 {d : Nat} {st : List Value} {h : xH} {K : Option Value → xH → Prop} {ls : xL} : wp d 175 283 ls st h K ↔ wp d 175 284 ls (.int 0 :: st) h K := w_iconst (i := 175) (pc := 283) dL_law_283 (by decide)
theorem dL_law_284 : decode cL_law 284 = .ok (.ireturn, 1) := by decide +kernel
theorem w175_284 {d : Nat} {h : xH} {K : Option Value → xH → Prop} {ls : xL} {x : Int32} : wp d 175 284 ls [.int x] h K ↔ y_bool x ∧ K (some (.int x)) h := w_zret (i := 175) (pc := 284) dL_law_284 rfl
theorem dL_law_285 : decode cL_law 285 = .ok (.aload_n 1, 1) := by decide +kernel
theorem w175_285 {d : Nat} {st : List Value} {h : xH} {K : Option Value → xH → Prop} {l0 l2 l3 : Option Value} {x : Nat} : wp d 175 285 [l0, some (.ref x), l2, l3] st h K ↔ wp d 175 286 [l0, some (.ref x), l2, l3] (.ref x :: st) h K := w_any (i := 175) (pc := 285) dL_law_285 rfl rfl
theorem w175_285n {d : Nat} {st : List Value} {h : xH} {K : Option Value → xH → Prop} {l0 l2 l3 : Option Value} : wp d 175 285 [l0, some .null, l2, l3] st h K ↔ wp d 175 286 [l0, some .null, l2, l3] (.null :: st) h K := w_any (i := 175) (pc := 285) dL_law_285 rfl rfl
theorem dL_law_286 : decode cL_law 286 = .ok (.aload_n 0, 1) := by decide +kernel
theorem w175_286 {d : Nat} {st : List Value} {h : xH} {K : Option Value → xH → Prop} {l1 l2 l3 : Option Value} {x : Nat} : wp d 175 286 [some (.ref x), l1, l2, l3] st h K ↔ wp d 175 287 [some (.ref x), l1, l2, l3] (.ref x :: st) h K := w_any (i := 175) (pc := 286) dL_law_286 rfl rfl
theorem w175_286n {d : Nat} {st : List Value} {h : xH} {K : Option Value → xH → Prop} {l1 l2 l3 : Option Value} : wp d 175 286 [some .null, l1, l2, l3] st h K ↔ wp d 175 287 [some .null, l1, l2, l3] (.null :: st) h K := w_any (i := 175) (pc := 286) dL_law_286 rfl rfl
theorem dL_law_287 : decode cL_law 287 = .ok (.iload_n 3, 1) := by decide +kernel
theorem w175_287 {d : Nat} {st : List Value} {h : xH} {K : Option Value → xH → Prop} {l0 l1 l2 : Option Value} {x : Int32} : wp d 175 287 [l0, l1, l2, some (.int x)] st h K ↔ wp d 175 288 [l0, l1, l2, some (.int x)] (.int x :: st) h K := w_any (i := 175) (pc := 287) dL_law_287 rfl rfl
theorem dL_law_288 : decode cL_law 288 = .ok (.iconst 1, 1) := by decide +kernel
theorem w175_288 {d : Nat} {st : List Value} {h : xH} {K : Option Value → xH → Prop} {ls : xL} : wp d 175 288 ls st h K ↔ wp d 175 289 ls (.int 1 :: st) h K := w_iconst (i := 175) (pc := 288) dL_law_288 (by decide)
theorem dL_law_289 : decode cL_law 289 = .ok (.iadd, 1) := by decide +kernel
theorem w175_289 {d : Nat} {st : List Value} {h : xH} {K : Option Value → xH → Prop} {ls : xL} {x y : Int32} : wp d 175 289 ls (.int y :: .int x :: st) h K ↔ wp d 175 290 ls (.int (x + y) :: st) h K := w_any (i := 175) (pc := 289) dL_law_289 rfl rfl
theorem dL_law_290 : decode cL_law 290 = .ok (.iaload, 1) := by decide +kernel
theorem w175_290 {d : Nat} {st : List Value} {h : xH} {K : Option Value → xH → Prop} {ls : xL} {a : Nat} {x : Int32} : wp d 175 290 ls (.int x :: .ref a :: st) h K ↔ y_iald h a x (fun v => wp d 175 291 ls (.int v :: st) h K) := w_iald (i := 175) (pc := 290) dL_law_290
theorem dL_law_291 : decode cL_law 291 = .ok (.aload_n 0, 1) := by decide +kernel
theorem w175_291 {d : Nat} {st : List Value} {h : xH} {K : Option Value → xH → Prop} {l1 l2 l3 : Option Value} {x : Nat} : wp d 175 291 [some (.ref x), l1, l2, l3] st h K ↔ wp d 175 292 [some (.ref x), l1, l2, l3] (.ref x :: st) h K := w_any (i := 175) (pc := 291) dL_law_291 rfl rfl
theorem w175_291n {d : Nat} {st : List Value} {h : xH} {K : Option Value → xH → Prop} {l1 l2 l3 : Option Value} : wp d 175 291 [some .null, l1, l2, l3] st h K ↔ wp d 175 292 [some .null, l1, l2, l3] (.null :: st) h K := w_any (i := 175) (pc := 291) dL_law_291 rfl rfl
theorem dL_law_292 : decode cL_law 292 = .ok (.iload_n 3, 1) := by decide +kernel
theorem w175_292 {d : Nat} {st : List Value} {h : xH} {K : Option Value → xH → Prop} {l0 l1 l2 : Option Value} {x : Int32} : wp d 175 292 [l0, l1, l2, some (.int x)] st h K ↔ wp d 175 293 [l0, l1, l2, some (.int x)] (.int x :: st) h K := w_any (i := 175) (pc := 292) dL_law_292 rfl rfl
theorem dL_law_293 : decode cL_law 293 = .ok (.iconst 2, 1) := by decide +kernel
theorem w175_293 {d : Nat} {st : List Value} {h : xH} {K : Option Value → xH → Prop} {ls : xL} : wp d 175 293 ls st h K ↔ wp d 175 294 ls (.int 2 :: st) h K := w_iconst (i := 175) (pc := 293) dL_law_293 (by decide)
theorem dL_law_294 : decode cL_law 294 = .ok (.iadd, 1) := by decide +kernel
theorem w175_294 {d : Nat} {st : List Value} {h : xH} {K : Option Value → xH → Prop} {ls : xL} {x y : Int32} : wp d 175 294 ls (.int y :: .int x :: st) h K ↔ wp d 175 295 ls (.int (x + y) :: st) h K := w_any (i := 175) (pc := 294) dL_law_294 rfl rfl
theorem dL_law_295 : decode cL_law 295 = .ok (.iaload, 1) := by decide +kernel
theorem w175_295 {d : Nat} {st : List Value} {h : xH} {K : Option Value → xH → Prop} {ls : xL} {a : Nat} {x : Int32} : wp d 175 295 ls (.int x :: .ref a :: st) h K ↔ y_iald h a x (fun v => wp d 175 296 ls (.int v :: st) h K) := w_iald (i := 175) (pc := 295) dL_law_295
theorem dL_law_296 : decode cL_law 296 = .ok (.aload_n 0, 1) := by decide +kernel
theorem w175_296 {d : Nat} {st : List Value} {h : xH} {K : Option Value → xH → Prop} {l1 l2 l3 : Option Value} {x : Nat} : wp d 175 296 [some (.ref x), l1, l2, l3] st h K ↔ wp d 175 297 [some (.ref x), l1, l2, l3] (.ref x :: st) h K := w_any (i := 175) (pc := 296) dL_law_296 rfl rfl
theorem w175_296n {d : Nat} {st : List Value} {h : xH} {K : Option Value → xH → Prop} {l1 l2 l3 : Option Value} : wp d 175 296 [some .null, l1, l2, l3] st h K ↔ wp d 175 297 [some .null, l1, l2, l3] (.null :: st) h K := w_any (i := 175) (pc := 296) dL_law_296 rfl rfl
theorem dL_law_297 : decode cL_law 297 = .ok (.iload_n 3, 1) := by decide +kernel
theorem w175_297 {d : Nat} {st : List Value} {h : xH} {K : Option Value → xH → Prop} {l0 l1 l2 : Option Value} {x : Int32} : wp d 175 297 [l0, l1, l2, some (.int x)] st h K ↔ wp d 175 298 [l0, l1, l2, some (.int x)] (.int x :: st) h K := w_any (i := 175) (pc := 297) dL_law_297 rfl rfl
theorem dL_law_298 : decode cL_law 298 = .ok (.iconst 3, 1) := by decide +kernel
theorem w175_298 {d : Nat} {st : List Value} {h : xH} {K : Option Value → xH → Prop} {ls : xL} : wp d 175 298 ls st h K ↔ wp d 175 299 ls (.int 3 :: st) h K := w_iconst (i := 175) (pc := 298) dL_law_298 (by decide)
theorem dL_law_299 : decode cL_law 299 = .ok (.iadd, 1) := by decide +kernel
theorem w175_299 {d : Nat} {st : List Value} {h : xH} {K : Option Value → xH → Prop} {ls : xL} {x y : Int32} : wp d 175 299 ls (.int y :: .int x :: st) h K ↔ wp d 175 300 ls (.int (x + y) :: st) h K := w_any (i := 175) (pc := 299) dL_law_299 rfl rfl
theorem dL_law_300 : decode cL_law 300 = .ok (.iaload, 1) := by decide +kernel
theorem w175_300 {d : Nat} {st : List Value} {h : xH} {K : Option Value → xH → Prop} {ls : xL} {a : Nat} {x : Int32} : wp d 175 300 ls (.int x :: .ref a :: st) h K ↔ y_iald h a x (fun v => wp d 175 301 ls (.int v :: st) h K) := w_iald (i := 175) (pc := 300) dL_law_300
theorem dL_law_301 : decode cL_law 301 = .ok (.invokevirtual 28, 3) := by decide +kernel
theorem w175_301 {d : Nat} {st : List Value} {h : xH} {K : Option Value → xH → Prop} {ls : xL} {a0 : Int32} {a1 : Int32} {a2 : Int32} {b : Nat} : wp (d + 1) 175 301 ls (.int a2 :: .int a1 :: .int a0 :: .ref b :: st) h K ↔ y_cls h b 7 ∧ xcs st ≤ 8 ∧ wp d 45 0 [some (.ref b), some (.int a0), some (.int a1), some (.int a2), none] [] h (fun v h1 => wp (d + 1) 175 304 ls (v.toList ++ st) h1 K) := w_callW (i := 175) (pc := 301) (as := [.int a0, .int a1, .int a2]) (rest := st) dL_law_301 rfl (by decide) rfl rfl (by decide) rfl rfl rfl rfl
theorem dL_law_304 : decode cL_law 304 = .ok (.aload_n 2, 1) := by decide +kernel
theorem w175_304 {d : Nat} {st : List Value} {h : xH} {K : Option Value → xH → Prop} {l0 l1 l3 : Option Value} {x : Nat} : wp d 175 304 [l0, l1, some (.ref x), l3] st h K ↔ wp d 175 305 [l0, l1, some (.ref x), l3] (.ref x :: st) h K := w_any (i := 175) (pc := 304) dL_law_304 rfl rfl
theorem w175_304n {d : Nat} {st : List Value} {h : xH} {K : Option Value → xH → Prop} {l0 l1 l3 : Option Value} : wp d 175 304 [l0, l1, some .null, l3] st h K ↔ wp d 175 305 [l0, l1, some .null, l3] (.null :: st) h K := w_any (i := 175) (pc := 304) dL_law_304 rfl rfl
theorem dL_law_305 : decode cL_law 305 = .ok (.aload_n 0, 1) := by decide +kernel
theorem w175_305 {d : Nat} {st : List Value} {h : xH} {K : Option Value → xH → Prop} {l1 l2 l3 : Option Value} {x : Nat} : wp d 175 305 [some (.ref x), l1, l2, l3] st h K ↔ wp d 175 306 [some (.ref x), l1, l2, l3] (.ref x :: st) h K := w_any (i := 175) (pc := 305) dL_law_305 rfl rfl
theorem w175_305n {d : Nat} {st : List Value} {h : xH} {K : Option Value → xH → Prop} {l1 l2 l3 : Option Value} : wp d 175 305 [some .null, l1, l2, l3] st h K ↔ wp d 175 306 [some .null, l1, l2, l3] (.null :: st) h K := w_any (i := 175) (pc := 305) dL_law_305 rfl rfl
theorem dL_law_306 : decode cL_law 306 = .ok (.iload_n 3, 1) := by decide +kernel
theorem w175_306 {d : Nat} {st : List Value} {h : xH} {K : Option Value → xH → Prop} {l0 l1 l2 : Option Value} {x : Int32} : wp d 175 306 [l0, l1, l2, some (.int x)] st h K ↔ wp d 175 307 [l0, l1, l2, some (.int x)] (.int x :: st) h K := w_any (i := 175) (pc := 306) dL_law_306 rfl rfl
theorem dL_law_307 : decode cL_law 307 = .ok (.iconst 1, 1) := by decide +kernel
theorem w175_307 {d : Nat} {st : List Value} {h : xH} {K : Option Value → xH → Prop} {ls : xL} : wp d 175 307 ls st h K ↔ wp d 175 308 ls (.int 1 :: st) h K := w_iconst (i := 175) (pc := 307) dL_law_307 (by decide)
theorem dL_law_308 : decode cL_law 308 = .ok (.iadd, 1) := by decide +kernel
theorem w175_308 {d : Nat} {st : List Value} {h : xH} {K : Option Value → xH → Prop} {ls : xL} {x y : Int32} : wp d 175 308 ls (.int y :: .int x :: st) h K ↔ wp d 175 309 ls (.int (x + y) :: st) h K := w_any (i := 175) (pc := 308) dL_law_308 rfl rfl
theorem dL_law_309 : decode cL_law 309 = .ok (.iaload, 1) := by decide +kernel
theorem w175_309 {d : Nat} {st : List Value} {h : xH} {K : Option Value → xH → Prop} {ls : xL} {a : Nat} {x : Int32} : wp d 175 309 ls (.int x :: .ref a :: st) h K ↔ y_iald h a x (fun v => wp d 175 310 ls (.int v :: st) h K) := w_iald (i := 175) (pc := 309) dL_law_309
theorem dL_law_310 : decode cL_law 310 = .ok (.aload_n 0, 1) := by decide +kernel
theorem w175_310 {d : Nat} {st : List Value} {h : xH} {K : Option Value → xH → Prop} {l1 l2 l3 : Option Value} {x : Nat} : wp d 175 310 [some (.ref x), l1, l2, l3] st h K ↔ wp d 175 311 [some (.ref x), l1, l2, l3] (.ref x :: st) h K := w_any (i := 175) (pc := 310) dL_law_310 rfl rfl
theorem w175_310n {d : Nat} {st : List Value} {h : xH} {K : Option Value → xH → Prop} {l1 l2 l3 : Option Value} : wp d 175 310 [some .null, l1, l2, l3] st h K ↔ wp d 175 311 [some .null, l1, l2, l3] (.null :: st) h K := w_any (i := 175) (pc := 310) dL_law_310 rfl rfl
theorem dL_law_311 : decode cL_law 311 = .ok (.iload_n 3, 1) := by decide +kernel
theorem w175_311 {d : Nat} {st : List Value} {h : xH} {K : Option Value → xH → Prop} {l0 l1 l2 : Option Value} {x : Int32} : wp d 175 311 [l0, l1, l2, some (.int x)] st h K ↔ wp d 175 312 [l0, l1, l2, some (.int x)] (.int x :: st) h K := w_any (i := 175) (pc := 311) dL_law_311 rfl rfl
theorem dL_law_312 : decode cL_law 312 = .ok (.iconst 2, 1) := by decide +kernel
theorem w175_312 {d : Nat} {st : List Value} {h : xH} {K : Option Value → xH → Prop} {ls : xL} : wp d 175 312 ls st h K ↔ wp d 175 313 ls (.int 2 :: st) h K := w_iconst (i := 175) (pc := 312) dL_law_312 (by decide)
theorem dL_law_313 : decode cL_law 313 = .ok (.iadd, 1) := by decide +kernel
theorem w175_313 {d : Nat} {st : List Value} {h : xH} {K : Option Value → xH → Prop} {ls : xL} {x y : Int32} : wp d 175 313 ls (.int y :: .int x :: st) h K ↔ wp d 175 314 ls (.int (x + y) :: st) h K := w_any (i := 175) (pc := 313) dL_law_313 rfl rfl
theorem dL_law_314 : decode cL_law 314 = .ok (.iaload, 1) := by decide +kernel
theorem w175_314 {d : Nat} {st : List Value} {h : xH} {K : Option Value → xH → Prop} {ls : xL} {a : Nat} {x : Int32} : wp d 175 314 ls (.int x :: .ref a :: st) h K ↔ y_iald h a x (fun v => wp d 175 315 ls (.int v :: st) h K) := w_iald (i := 175) (pc := 314) dL_law_314
theorem dL_law_315 : decode cL_law 315 = .ok (.aload_n 0, 1) := by decide +kernel
theorem w175_315 {d : Nat} {st : List Value} {h : xH} {K : Option Value → xH → Prop} {l1 l2 l3 : Option Value} {x : Nat} : wp d 175 315 [some (.ref x), l1, l2, l3] st h K ↔ wp d 175 316 [some (.ref x), l1, l2, l3] (.ref x :: st) h K := w_any (i := 175) (pc := 315) dL_law_315 rfl rfl
theorem w175_315n {d : Nat} {st : List Value} {h : xH} {K : Option Value → xH → Prop} {l1 l2 l3 : Option Value} : wp d 175 315 [some .null, l1, l2, l3] st h K ↔ wp d 175 316 [some .null, l1, l2, l3] (.null :: st) h K := w_any (i := 175) (pc := 315) dL_law_315 rfl rfl
theorem dL_law_316 : decode cL_law 316 = .ok (.iload_n 3, 1) := by decide +kernel
theorem w175_316 {d : Nat} {st : List Value} {h : xH} {K : Option Value → xH → Prop} {l0 l1 l2 : Option Value} {x : Int32} : wp d 175 316 [l0, l1, l2, some (.int x)] st h K ↔ wp d 175 317 [l0, l1, l2, some (.int x)] (.int x :: st) h K := w_any (i := 175) (pc := 316) dL_law_316 rfl rfl
theorem dL_law_317 : decode cL_law 317 = .ok (.iconst 3, 1) := by decide +kernel
theorem w175_317 {d : Nat} {st : List Value} {h : xH} {K : Option Value → xH → Prop} {ls : xL} : wp d 175 317 ls st h K ↔ wp d 175 318 ls (.int 3 :: st) h K := w_iconst (i := 175) (pc := 317) dL_law_317 (by decide)
theorem dL_law_318 : decode cL_law 318 = .ok (.iadd, 1) := by decide +kernel
theorem w175_318 {d : Nat} {st : List Value} {h : xH} {K : Option Value → xH → Prop} {ls : xL} {x y : Int32} : wp d 175 318 ls (.int y :: .int x :: st) h K ↔ wp d 175 319 ls (.int (x + y) :: st) h K := w_any (i := 175) (pc := 318) dL_law_318 rfl rfl
theorem dL_law_319 : decode cL_law 319 = .ok (.iaload, 1) := by decide +kernel
theorem w175_319 {d : Nat} {st : List Value} {h : xH} {K : Option Value → xH → Prop} {ls : xL} {a : Nat} {x : Int32} : wp d 175 319 ls (.int x :: .ref a :: st) h K ↔ y_iald h a x (fun v => wp d 175 320 ls (.int v :: st) h K) := w_iald (i := 175) (pc := 319) dL_law_319
theorem dL_law_320 : decode cL_law 320 = .ok (.invokevirtual 32, 3) := by decide +kernel
theorem w175_320 {d : Nat} {st : List Value} {h : xH} {K : Option Value → xH → Prop} {ls : xL} {a0 : Int32} {a1 : Int32} {a2 : Int32} {b : Nat} : wp (d + 1) 175 320 ls (.int a2 :: .int a1 :: .int a0 :: .ref b :: st) h K ↔ y_cls h b 8 ∧ xcs st ≤ 8 ∧ wp d 109 0 [some (.ref b), some (.int a0), some (.int a1), some (.int a2)] [] h (fun v h1 => wp (d + 1) 175 323 ls (v.toList ++ st) h1 K) := w_callW (i := 175) (pc := 320) (as := [.int a0, .int a1, .int a2]) (rest := st) dL_law_320 rfl (by decide) rfl rfl (by decide) rfl rfl rfl rfl
theorem dL_law_323 : decode cL_law 323 = .ok (.if_icmp .eq 898, 3) := by decide +kernel
theorem w175_323 {d : Nat} {st : List Value} {h : xH} {K : Option Value → xH → Prop} {ls : xL} {x y : Int32} : wp d 175 323 ls (.int y :: .int x :: st) h K ↔ ((x = y) → wp d 175 1221 ls st h K) ∧ ((¬ (x = y)) → wp d 175 326 ls st h K) := w_if2 (i := 175) (pc := 323) (cd := .eq) (off := 898) (tgt := 1221) dL_law_323 (by decide) rfl
theorem dL_law_326 : decode cL_law 326 = .ok (.iconst 0, 1) := by decide +kernel
theorem w175_326 {d : Nat} {st : List Value} {h : xH} {K : Option Value → xH → Prop} {ls : xL} : wp d 175 326 ls st h K ↔ wp d 175 327 ls (.int 0 :: st) h K := w_iconst (i := 175) (pc := 326) dL_law_326 (by decide)
theorem dL_law_327 : decode cL_law 327 = .ok (.ireturn, 1) := by decide +kernel
theorem w175_327 {d : Nat} {h : xH} {K : Option Value → xH → Prop} {ls : xL} {x : Int32} : wp d 175 327 ls [.int x] h K ↔ y_bool x ∧ K (some (.int x)) h := w_zret (i := 175) (pc := 327) dL_law_327 rfl
theorem dL_law_328 : decode cL_law 328 = .ok (.aload_n 1, 1) := by decide +kernel
theorem w175_328 {d : Nat} {st : List Value} {h : xH} {K : Option Value → xH → Prop} {l0 l2 l3 : Option Value} {x : Nat} : wp d 175 328 [l0, some (.ref x), l2, l3] st h K ↔ wp d 175 329 [l0, some (.ref x), l2, l3] (.ref x :: st) h K := w_any (i := 175) (pc := 328) dL_law_328 rfl rfl
theorem w175_328n {d : Nat} {st : List Value} {h : xH} {K : Option Value → xH → Prop} {l0 l2 l3 : Option Value} : wp d 175 328 [l0, some .null, l2, l3] st h K ↔ wp d 175 329 [l0, some .null, l2, l3] (.null :: st) h K := w_any (i := 175) (pc := 328) dL_law_328 rfl rfl
theorem dL_law_329 : decode cL_law 329 = .ok (.aload_n 0, 1) := by decide +kernel
theorem w175_329 {d : Nat} {st : List Value} {h : xH} {K : Option Value → xH → Prop} {l1 l2 l3 : Option Value} {x : Nat} : wp d 175 329 [some (.ref x), l1, l2, l3] st h K ↔ wp d 175 330 [some (.ref x), l1, l2, l3] (.ref x :: st) h K := w_any (i := 175) (pc := 329) dL_law_329 rfl rfl
theorem w175_329n {d : Nat} {st : List Value} {h : xH} {K : Option Value → xH → Prop} {l1 l2 l3 : Option Value} : wp d 175 329 [some .null, l1, l2, l3] st h K ↔ wp d 175 330 [some .null, l1, l2, l3] (.null :: st) h K := w_any (i := 175) (pc := 329) dL_law_329 rfl rfl
theorem dL_law_330 : decode cL_law 330 = .ok (.iload_n 3, 1) := by decide +kernel
theorem w175_330 {d : Nat} {st : List Value} {h : xH} {K : Option Value → xH → Prop} {l0 l1 l2 : Option Value} {x : Int32} : wp d 175 330 [l0, l1, l2, some (.int x)] st h K ↔ wp d 175 331 [l0, l1, l2, some (.int x)] (.int x :: st) h K := w_any (i := 175) (pc := 330) dL_law_330 rfl rfl
theorem dL_law_331 : decode cL_law 331 = .ok (.iconst 1, 1) := by decide +kernel
theorem w175_331 {d : Nat} {st : List Value} {h : xH} {K : Option Value → xH → Prop} {ls : xL} : wp d 175 331 ls st h K ↔ wp d 175 332 ls (.int 1 :: st) h K := w_iconst (i := 175) (pc := 331) dL_law_331 (by decide)
theorem dL_law_332 : decode cL_law 332 = .ok (.iadd, 1) := by decide +kernel
theorem w175_332 {d : Nat} {st : List Value} {h : xH} {K : Option Value → xH → Prop} {ls : xL} {x y : Int32} : wp d 175 332 ls (.int y :: .int x :: st) h K ↔ wp d 175 333 ls (.int (x + y) :: st) h K := w_any (i := 175) (pc := 332) dL_law_332 rfl rfl
theorem dL_law_333 : decode cL_law 333 = .ok (.iaload, 1) := by decide +kernel
theorem w175_333 {d : Nat} {st : List Value} {h : xH} {K : Option Value → xH → Prop} {ls : xL} {a : Nat} {x : Int32} : wp d 175 333 ls (.int x :: .ref a :: st) h K ↔ y_iald h a x (fun v => wp d 175 334 ls (.int v :: st) h K) := w_iald (i := 175) (pc := 333) dL_law_333
theorem dL_law_334 : decode cL_law 334 = .ok (.aload_n 0, 1) := by decide +kernel
theorem w175_334 {d : Nat} {st : List Value} {h : xH} {K : Option Value → xH → Prop} {l1 l2 l3 : Option Value} {x : Nat} : wp d 175 334 [some (.ref x), l1, l2, l3] st h K ↔ wp d 175 335 [some (.ref x), l1, l2, l3] (.ref x :: st) h K := w_any (i := 175) (pc := 334) dL_law_334 rfl rfl
theorem w175_334n {d : Nat} {st : List Value} {h : xH} {K : Option Value → xH → Prop} {l1 l2 l3 : Option Value} : wp d 175 334 [some .null, l1, l2, l3] st h K ↔ wp d 175 335 [some .null, l1, l2, l3] (.null :: st) h K := w_any (i := 175) (pc := 334) dL_law_334 rfl rfl
theorem dL_law_335 : decode cL_law 335 = .ok (.iload_n 3, 1) := by decide +kernel
theorem w175_335 {d : Nat} {st : List Value} {h : xH} {K : Option Value → xH → Prop} {l0 l1 l2 : Option Value} {x : Int32} : wp d 175 335 [l0, l1, l2, some (.int x)] st h K ↔ wp d 175 336 [l0, l1, l2, some (.int x)] (.int x :: st) h K := w_any (i := 175) (pc := 335) dL_law_335 rfl rfl
theorem dL_law_336 : decode cL_law 336 = .ok (.iconst 2, 1) := by decide +kernel
theorem w175_336 {d : Nat} {st : List Value} {h : xH} {K : Option Value → xH → Prop} {ls : xL} : wp d 175 336 ls st h K ↔ wp d 175 337 ls (.int 2 :: st) h K := w_iconst (i := 175) (pc := 336) dL_law_336 (by decide)
theorem dL_law_337 : decode cL_law 337 = .ok (.iadd, 1) := by decide +kernel
theorem w175_337 {d : Nat} {st : List Value} {h : xH} {K : Option Value → xH → Prop} {ls : xL} {x y : Int32} : wp d 175 337 ls (.int y :: .int x :: st) h K ↔ wp d 175 338 ls (.int (x + y) :: st) h K := w_any (i := 175) (pc := 337) dL_law_337 rfl rfl
theorem dL_law_338 : decode cL_law 338 = .ok (.iaload, 1) := by decide +kernel
theorem w175_338 {d : Nat} {st : List Value} {h : xH} {K : Option Value → xH → Prop} {ls : xL} {a : Nat} {x : Int32} : wp d 175 338 ls (.int x :: .ref a :: st) h K ↔ y_iald h a x (fun v => wp d 175 339 ls (.int v :: st) h K) := w_iald (i := 175) (pc := 338) dL_law_338
theorem dL_law_339 : decode cL_law 339 = .ok (.invokevirtual 33, 3) := by decide +kernel
theorem w175_339 {d : Nat} {st : List Value} {h : xH} {K : Option Value → xH → Prop} {ls : xL} {a0 : Int32} {a1 : Int32} {b : Nat} : wp (d + 1) 175 339 ls (.int a1 :: .int a0 :: .ref b :: st) h K ↔ y_cls h b 7 ∧ xcs st ≤ 8 ∧ wp d 46 0 [some (.ref b), some (.int a0), some (.int a1), none] [] h (fun v h1 => wp (d + 1) 175 342 ls (v.toList ++ st) h1 K) := w_callW (i := 175) (pc := 339) (as := [.int a0, .int a1]) (rest := st) dL_law_339 rfl (by decide) rfl rfl (by decide) rfl rfl rfl rfl
theorem dL_law_342 : decode cL_law 342 = .ok (.aload_n 2, 1) := by decide +kernel
theorem w175_342 {d : Nat} {st : List Value} {h : xH} {K : Option Value → xH → Prop} {l0 l1 l3 : Option Value} {x : Nat} : wp d 175 342 [l0, l1, some (.ref x), l3] st h K ↔ wp d 175 343 [l0, l1, some (.ref x), l3] (.ref x :: st) h K := w_any (i := 175) (pc := 342) dL_law_342 rfl rfl
theorem w175_342n {d : Nat} {st : List Value} {h : xH} {K : Option Value → xH → Prop} {l0 l1 l3 : Option Value} : wp d 175 342 [l0, l1, some .null, l3] st h K ↔ wp d 175 343 [l0, l1, some .null, l3] (.null :: st) h K := w_any (i := 175) (pc := 342) dL_law_342 rfl rfl
theorem dL_law_343 : decode cL_law 343 = .ok (.aload_n 0, 1) := by decide +kernel
theorem w175_343 {d : Nat} {st : List Value} {h : xH} {K : Option Value → xH → Prop} {l1 l2 l3 : Option Value} {x : Nat} : wp d 175 343 [some (.ref x), l1, l2, l3] st h K ↔ wp d 175 344 [some (.ref x), l1, l2, l3] (.ref x :: st) h K := w_any (i := 175) (pc := 343) dL_law_343 rfl rfl
theorem w175_343n {d : Nat} {st : List Value} {h : xH} {K : Option Value → xH → Prop} {l1 l2 l3 : Option Value} : wp d 175 343 [some .null, l1, l2, l3] st h K ↔ wp d 175 344 [some .null, l1, l2, l3] (.null :: st) h K := w_any (i := 175) (pc := 343) dL_law_343 rfl rfl
theorem dL_law_344 : decode cL_law 344 = .ok (.iload_n 3, 1) := by decide +kernel
theorem w175_344 {d : Nat} {st : List Value} {h : xH} {K : Option Value → xH → Prop} {l0 l1 l2 : Option Value} {x : Int32} : wp d 175 344 [l0, l1, l2, some (.int x)] st h K ↔ wp d 175 345 [l0, l1, l2, some (.int x)] (.int x :: st) h K := w_any (i := 175) (pc := 344) dL_law_344 rfl rfl
theorem dL_law_345 : decode cL_law 345 = .ok (.iconst 1, 1) := by decide +kernel
theorem w175_345 {d : Nat} {st : List Value} {h : xH} {K : Option Value → xH → Prop} {ls : xL} : wp d 175 345 ls st h K ↔ wp d 175 346 ls (.int 1 :: st) h K := w_iconst (i := 175) (pc := 345) dL_law_345 (by decide)
theorem dL_law_346 : decode cL_law 346 = .ok (.iadd, 1) := by decide +kernel
theorem w175_346 {d : Nat} {st : List Value} {h : xH} {K : Option Value → xH → Prop} {ls : xL} {x y : Int32} : wp d 175 346 ls (.int y :: .int x :: st) h K ↔ wp d 175 347 ls (.int (x + y) :: st) h K := w_any (i := 175) (pc := 346) dL_law_346 rfl rfl
theorem dL_law_347 : decode cL_law 347 = .ok (.iaload, 1) := by decide +kernel
theorem w175_347 {d : Nat} {st : List Value} {h : xH} {K : Option Value → xH → Prop} {ls : xL} {a : Nat} {x : Int32} : wp d 175 347 ls (.int x :: .ref a :: st) h K ↔ y_iald h a x (fun v => wp d 175 348 ls (.int v :: st) h K) := w_iald (i := 175) (pc := 347) dL_law_347
theorem dL_law_348 : decode cL_law 348 = .ok (.aload_n 0, 1) := by decide +kernel
theorem w175_348 {d : Nat} {st : List Value} {h : xH} {K : Option Value → xH → Prop} {l1 l2 l3 : Option Value} {x : Nat} : wp d 175 348 [some (.ref x), l1, l2, l3] st h K ↔ wp d 175 349 [some (.ref x), l1, l2, l3] (.ref x :: st) h K := w_any (i := 175) (pc := 348) dL_law_348 rfl rfl
theorem w175_348n {d : Nat} {st : List Value} {h : xH} {K : Option Value → xH → Prop} {l1 l2 l3 : Option Value} : wp d 175 348 [some .null, l1, l2, l3] st h K ↔ wp d 175 349 [some .null, l1, l2, l3] (.null :: st) h K := w_any (i := 175) (pc := 348) dL_law_348 rfl rfl
theorem dL_law_349 : decode cL_law 349 = .ok (.iload_n 3, 1) := by decide +kernel
theorem w175_349 {d : Nat} {st : List Value} {h : xH} {K : Option Value → xH → Prop} {l0 l1 l2 : Option Value} {x : Int32} : wp d 175 349 [l0, l1, l2, some (.int x)] st h K ↔ wp d 175 350 [l0, l1, l2, some (.int x)] (.int x :: st) h K := w_any (i := 175) (pc := 349) dL_law_349 rfl rfl
theorem dL_law_350 : decode cL_law 350 = .ok (.iconst 2, 1) := by decide +kernel
theorem w175_350 {d : Nat} {st : List Value} {h : xH} {K : Option Value → xH → Prop} {ls : xL} : wp d 175 350 ls st h K ↔ wp d 175 351 ls (.int 2 :: st) h K := w_iconst (i := 175) (pc := 350) dL_law_350 (by decide)
theorem dL_law_351 : decode cL_law 351 = .ok (.iadd, 1) := by decide +kernel
theorem w175_351 {d : Nat} {st : List Value} {h : xH} {K : Option Value → xH → Prop} {ls : xL} {x y : Int32} : wp d 175 351 ls (.int y :: .int x :: st) h K ↔ wp d 175 352 ls (.int (x + y) :: st) h K := w_any (i := 175) (pc := 351) dL_law_351 rfl rfl
theorem dL_law_352 : decode cL_law 352 = .ok (.iaload, 1) := by decide +kernel
theorem w175_352 {d : Nat} {st : List Value} {h : xH} {K : Option Value → xH → Prop} {ls : xL} {a : Nat} {x : Int32} : wp d 175 352 ls (.int x :: .ref a :: st) h K ↔ y_iald h a x (fun v => wp d 175 353 ls (.int v :: st) h K) := w_iald (i := 175) (pc := 352) dL_law_352
theorem dL_law_353 : decode cL_law 353 = .ok (.invokevirtual 36, 3) := by decide +kernel
theorem w175_353 {d : Nat} {st : List Value} {h : xH} {K : Option Value → xH → Prop} {ls : xL} {a0 : Int32} {a1 : Int32} {b : Nat} : wp (d + 1) 175 353 ls (.int a1 :: .int a0 :: .ref b :: st) h K ↔ y_cls h b 8 ∧ xcs st ≤ 8 ∧ wp d 110 0 [some (.ref b), some (.int a0), some (.int a1)] [] h (fun v h1 => wp (d + 1) 175 356 ls (v.toList ++ st) h1 K) := w_callW (i := 175) (pc := 353) (as := [.int a0, .int a1]) (rest := st) dL_law_353 rfl (by decide) rfl rfl (by decide) rfl rfl rfl rfl
theorem dL_law_356 : decode cL_law 356 = .ok (.if_icmp .eq 865, 3) := by decide +kernel
theorem w175_356 {d : Nat} {st : List Value} {h : xH} {K : Option Value → xH → Prop} {ls : xL} {x y : Int32} : wp d 175 356 ls (.int y :: .int x :: st) h K ↔ ((x = y) → wp d 175 1221 ls st h K) ∧ ((¬ (x = y)) → wp d 175 359 ls st h K) := w_if2 (i := 175) (pc := 356) (cd := .eq) (off := 865) (tgt := 1221) dL_law_356 (by decide) rfl
theorem dL_law_359 : decode cL_law 359 = .ok (.iconst 0, 1) := by decide +kernel
theorem w175_359 {d : Nat} {st : List Value} {h : xH} {K : Option Value → xH → Prop} {ls : xL} : wp d 175 359 ls st h K ↔ wp d 175 360 ls (.int 0 :: st) h K := w_iconst (i := 175) (pc := 359) dL_law_359 (by decide)
theorem dL_law_360 : decode cL_law 360 = .ok (.ireturn, 1) := by decide +kernel
theorem w175_360 {d : Nat} {h : xH} {K : Option Value → xH → Prop} {ls : xL} {x : Int32} : wp d 175 360 ls [.int x] h K ↔ y_bool x ∧ K (some (.int x)) h := w_zret (i := 175) (pc := 360) dL_law_360 rfl
theorem dL_law_361 : decode cL_law 361 = .ok (.aload_n 1, 1) := by decide +kernel
theorem w175_361 {d : Nat} {st : List Value} {h : xH} {K : Option Value → xH → Prop} {l0 l2 l3 : Option Value} {x : Nat} : wp d 175 361 [l0, some (.ref x), l2, l3] st h K ↔ wp d 175 362 [l0, some (.ref x), l2, l3] (.ref x :: st) h K := w_any (i := 175) (pc := 361) dL_law_361 rfl rfl
theorem w175_361n {d : Nat} {st : List Value} {h : xH} {K : Option Value → xH → Prop} {l0 l2 l3 : Option Value} : wp d 175 361 [l0, some .null, l2, l3] st h K ↔ wp d 175 362 [l0, some .null, l2, l3] (.null :: st) h K := w_any (i := 175) (pc := 361) dL_law_361 rfl rfl
theorem dL_law_362 : decode cL_law 362 = .ok (.aload_n 0, 1) := by decide +kernel
theorem w175_362 {d : Nat} {st : List Value} {h : xH} {K : Option Value → xH → Prop} {l1 l2 l3 : Option Value} {x : Nat} : wp d 175 362 [some (.ref x), l1, l2, l3] st h K ↔ wp d 175 363 [some (.ref x), l1, l2, l3] (.ref x :: st) h K := w_any (i := 175) (pc := 362) dL_law_362 rfl rfl
theorem w175_362n {d : Nat} {st : List Value} {h : xH} {K : Option Value → xH → Prop} {l1 l2 l3 : Option Value} : wp d 175 362 [some .null, l1, l2, l3] st h K ↔ wp d 175 363 [some .null, l1, l2, l3] (.null :: st) h K := w_any (i := 175) (pc := 362) dL_law_362 rfl rfl
theorem dL_law_363 : decode cL_law 363 = .ok (.iload_n 3, 1) := by decide +kernel
theorem w175_363 {d : Nat} {st : List Value} {h : xH} {K : Option Value → xH → Prop} {l0 l1 l2 : Option Value} {x : Int32} : wp d 175 363 [l0, l1, l2, some (.int x)] st h K ↔ wp d 175 364 [l0, l1, l2, some (.int x)] (.int x :: st) h K := w_any (i := 175) (pc := 363) dL_law_363 rfl rfl
theorem dL_law_364 : decode cL_law 364 = .ok (.iconst 1, 1) := by decide +kernel
theorem w175_364 {d : Nat} {st : List Value} {h : xH} {K : Option Value → xH → Prop} {ls : xL} : wp d 175 364 ls st h K ↔ wp d 175 365 ls (.int 1 :: st) h K := w_iconst (i := 175) (pc := 364) dL_law_364 (by decide)
theorem dL_law_365 : decode cL_law 365 = .ok (.iadd, 1) := by decide +kernel
theorem w175_365 {d : Nat} {st : List Value} {h : xH} {K : Option Value → xH → Prop} {ls : xL} {x y : Int32} : wp d 175 365 ls (.int y :: .int x :: st) h K ↔ wp d 175 366 ls (.int (x + y) :: st) h K := w_any (i := 175) (pc := 365) dL_law_365 rfl rfl
theorem dL_law_366 : decode cL_law 366 = .ok (.iaload, 1) := by decide +kernel
theorem w175_366 {d : Nat} {st : List Value} {h : xH} {K : Option Value → xH → Prop} {ls : xL} {a : Nat} {x : Int32} : wp d 175 366 ls (.int x :: .ref a :: st) h K ↔ y_iald h a x (fun v => wp d 175 367 ls (.int v :: st) h K) := w_iald (i := 175) (pc := 366) dL_law_366
theorem dL_law_367 : decode cL_law 367 = .ok (.invokevirtual 37, 3) := by decide +kernel
theorem w175_367 {d : Nat} {st : List Value} {h : xH} {K : Option Value → xH → Prop} {ls : xL} {a0 : Int32} {b : Nat} : wp (d + 1) 175 367 ls (.int a0 :: .ref b :: st) h K ↔ y_cls h b 7 ∧ xcs st ≤ 8 ∧ wp d 47 0 [some (.ref b), some (.int a0), none, none] [] h (fun v h1 => wp (d + 1) 175 370 ls (v.toList ++ st) h1 K) := w_callW (i := 175) (pc := 367) (as := [.int a0]) (rest := st) dL_law_367 rfl (by decide) rfl rfl (by decide) rfl rfl rfl rfl
theorem dL_law_370 : decode cL_law 370 = .ok (.aload_n 2, 1) := by decide +kernel
theorem w175_370 {d : Nat} {st : List Value} {h : xH} {K : Option Value → xH → Prop} {l0 l1 l3 : Option Value} {x : Nat} : wp d 175 370 [l0, l1, some (.ref x), l3] st h K ↔ wp d 175 371 [l0, l1, some (.ref x), l3] (.ref x :: st) h K := w_any (i := 175) (pc := 370) dL_law_370 rfl rfl
theorem w175_370n {d : Nat} {st : List Value} {h : xH} {K : Option Value → xH → Prop} {l0 l1 l3 : Option Value} : wp d 175 370 [l0, l1, some .null, l3] st h K ↔ wp d 175 371 [l0, l1, some .null, l3] (.null :: st) h K := w_any (i := 175) (pc := 370) dL_law_370 rfl rfl
theorem dL_law_371 : decode cL_law 371 = .ok (.aload_n 0, 1) := by decide +kernel
theorem w175_371 {d : Nat} {st : List Value} {h : xH} {K : Option Value → xH → Prop} {l1 l2 l3 : Option Value} {x : Nat} : wp d 175 371 [some (.ref x), l1, l2, l3] st h K ↔ wp d 175 372 [some (.ref x), l1, l2, l3] (.ref x :: st) h K := w_any (i := 175) (pc := 371) dL_law_371 rfl rfl
theorem w175_371n {d : Nat} {st : List Value} {h : xH} {K : Option Value → xH → Prop} {l1 l2 l3 : Option Value} : wp d 175 371 [some .null, l1, l2, l3] st h K ↔ wp d 175 372 [some .null, l1, l2, l3] (.null :: st) h K := w_any (i := 175) (pc := 371) dL_law_371 rfl rfl
theorem dL_law_372 : decode cL_law 372 = .ok (.iload_n 3, 1) := by decide +kernel
theorem w175_372 {d : Nat} {st : List Value} {h : xH} {K : Option Value → xH → Prop} {l0 l1 l2 : Option Value} {x : Int32} : wp d 175 372 [l0, l1, l2, some (.int x)] st h K ↔ wp d 175 373 [l0, l1, l2, some (.int x)] (.int x :: st) h K := w_any (i := 175) (pc := 372) dL_law_372 rfl rfl
theorem dL_law_373 : decode cL_law 373 = .ok (.iconst 1, 1) := by decide +kernel
theorem w175_373 {d : Nat} {st : List Value} {h : xH} {K : Option Value → xH → Prop} {ls : xL} : wp d 175 373 ls st h K ↔ wp d 175 374 ls (.int 1 :: st) h K := w_iconst (i := 175) (pc := 373) dL_law_373 (by decide)
theorem dL_law_374 : decode cL_law 374 = .ok (.iadd, 1) := by decide +kernel
theorem w175_374 {d : Nat} {st : List Value} {h : xH} {K : Option Value → xH → Prop} {ls : xL} {x y : Int32} : wp d 175 374 ls (.int y :: .int x :: st) h K ↔ wp d 175 375 ls (.int (x + y) :: st) h K := w_any (i := 175) (pc := 374) dL_law_374 rfl rfl
theorem dL_law_375 : decode cL_law 375 = .ok (.iaload, 1) := by decide +kernel
theorem w175_375 {d : Nat} {st : List Value} {h : xH} {K : Option Value → xH → Prop} {ls : xL} {a : Nat} {x : Int32} : wp d 175 375 ls (.int x :: .ref a :: st) h K ↔ y_iald h a x (fun v => wp d 175 376 ls (.int v :: st) h K) := w_iald (i := 175) (pc := 375) dL_law_375
theorem dL_law_376 : decode cL_law 376 = .ok (.invokevirtual 40, 3) := by decide +kernel
theorem w175_376 {d : Nat} {st : List Value} {h : xH} {K : Option Value → xH → Prop} {ls : xL} {a0 : Int32} {b : Nat} : wp (d + 1) 175 376 ls (.int a0 :: .ref b :: st) h K ↔ y_cls h b 8 ∧ xcs st ≤ 8 ∧ wp d 111 0 [some (.ref b), some (.int a0), none, none] [] h (fun v h1 => wp (d + 1) 175 379 ls (v.toList ++ st) h1 K) := w_callW (i := 175) (pc := 376) (as := [.int a0]) (rest := st) dL_law_376 rfl (by decide) rfl rfl (by decide) rfl rfl rfl rfl
theorem dL_law_379 : decode cL_law 379 = .ok (.if_icmp .eq 842, 3) := by decide +kernel
theorem w175_379 {d : Nat} {st : List Value} {h : xH} {K : Option Value → xH → Prop} {ls : xL} {x y : Int32} : wp d 175 379 ls (.int y :: .int x :: st) h K ↔ ((x = y) → wp d 175 1221 ls st h K) ∧ ((¬ (x = y)) → wp d 175 382 ls st h K) := w_if2 (i := 175) (pc := 379) (cd := .eq) (off := 842) (tgt := 1221) dL_law_379 (by decide) rfl
theorem dL_law_382 : decode cL_law 382 = .ok (.iconst 0, 1) := by decide +kernel
theorem w175_382 {d : Nat} {st : List Value} {h : xH} {K : Option Value → xH → Prop} {ls : xL} : wp d 175 382 ls st h K ↔ wp d 175 383 ls (.int 0 :: st) h K := w_iconst (i := 175) (pc := 382) dL_law_382 (by decide)
theorem dL_law_383 : decode cL_law 383 = .ok (.ireturn, 1) := by decide +kernel
theorem w175_383 {d : Nat} {h : xH} {K : Option Value → xH → Prop} {ls : xL} {x : Int32} : wp d 175 383 ls [.int x] h K ↔ y_bool x ∧ K (some (.int x)) h := w_zret (i := 175) (pc := 383) dL_law_383 rfl
theorem dL_law_384 : decode cL_law 384 = .ok (.aload_n 1, 1) := by decide +kernel
theorem w175_384 {d : Nat} {st : List Value} {h : xH} {K : Option Value → xH → Prop} {l0 l2 l3 : Option Value} {x : Nat} : wp d 175 384 [l0, some (.ref x), l2, l3] st h K ↔ wp d 175 385 [l0, some (.ref x), l2, l3] (.ref x :: st) h K := w_any (i := 175) (pc := 384) dL_law_384 rfl rfl
theorem w175_384n {d : Nat} {st : List Value} {h : xH} {K : Option Value → xH → Prop} {l0 l2 l3 : Option Value} : wp d 175 384 [l0, some .null, l2, l3] st h K ↔ wp d 175 385 [l0, some .null, l2, l3] (.null :: st) h K := w_any (i := 175) (pc := 384) dL_law_384 rfl rfl
theorem dL_law_385 : decode cL_law 385 = .ok (.aload_n 0, 1) := by decide +kernel
theorem w175_385 {d : Nat} {st : List Value} {h : xH} {K : Option Value → xH → Prop} {l1 l2 l3 : Option Value} {x : Nat} : wp d 175 385 [some (.ref x), l1, l2, l3] st h K ↔ wp d 175 386 [some (.ref x), l1, l2, l3] (.ref x :: st) h K := w_any (i := 175) (pc := 385) dL_law_385 rfl rfl
theorem w175_385n {d : Nat} {st : List Value} {h : xH} {K : Option Value → xH → Prop} {l1 l2 l3 : Option Value} : wp d 175 385 [some .null, l1, l2, l3] st h K ↔ wp d 175 386 [some .null, l1, l2, l3] (.null :: st) h K := w_any (i := 175) (pc := 385) dL_law_385 rfl rfl
theorem dL_law_386 : decode cL_law 386 = .ok (.iload_n 3, 1) := by decide +kernel
theorem w175_386 {d : Nat} {st : List Value} {h : xH} {K : Option Value → xH → Prop} {l0 l1 l2 : Option Value} {x : Int32} : wp d 175 386 [l0, l1, l2, some (.int x)] st h K ↔ wp d 175 387 [l0, l1, l2, some (.int x)] (.int x :: st) h K := w_any (i := 175) (pc := 386) dL_law_386 rfl rfl
theorem dL_law_387 : decode cL_law 387 = .ok (.iconst 1, 1) := by decide +kernel
theorem w175_387 {d : Nat} {st : List Value} {h : xH} {K : Option Value → xH → Prop} {ls : xL} : wp d 175 387 ls st h K ↔ wp d 175 388 ls (.int 1 :: st) h K := w_iconst (i := 175) (pc := 387) dL_law_387 (by decide)
theorem dL_law_388 : decode cL_law 388 = .ok (.iadd, 1) := by decide +kernel
theorem w175_388 {d : Nat} {st : List Value} {h : xH} {K : Option Value → xH → Prop} {ls : xL} {x y : Int32} : wp d 175 388 ls (.int y :: .int x :: st) h K ↔ wp d 175 389 ls (.int (x + y) :: st) h K := w_any (i := 175) (pc := 388) dL_law_388 rfl rfl
theorem dL_law_389 : decode cL_law 389 = .ok (.iaload, 1) := by decide +kernel
theorem w175_389 {d : Nat} {st : List Value} {h : xH} {K : Option Value → xH → Prop} {ls : xL} {a : Nat} {x : Int32} : wp d 175 389 ls (.int x :: .ref a :: st) h K ↔ y_iald h a x (fun v => wp d 175 390 ls (.int v :: st) h K) := w_iald (i := 175) (pc := 389) dL_law_389
theorem dL_law_390 : decode cL_law 390 = .ok (.aload_n 0, 1) := by decide +kernel
theorem w175_390 {d : Nat} {st : List Value} {h : xH} {K : Option Value → xH → Prop} {l1 l2 l3 : Option Value} {x : Nat} : wp d 175 390 [some (.ref x), l1, l2, l3] st h K ↔ wp d 175 391 [some (.ref x), l1, l2, l3] (.ref x :: st) h K := w_any (i := 175) (pc := 390) dL_law_390 rfl rfl
theorem w175_390n {d : Nat} {st : List Value} {h : xH} {K : Option Value → xH → Prop} {l1 l2 l3 : Option Value} : wp d 175 390 [some .null, l1, l2, l3] st h K ↔ wp d 175 391 [some .null, l1, l2, l3] (.null :: st) h K := w_any (i := 175) (pc := 390) dL_law_390 rfl rfl
theorem dL_law_391 : decode cL_law 391 = .ok (.iload_n 3, 1) := by decide +kernel
theorem w175_391 {d : Nat} {st : List Value} {h : xH} {K : Option Value → xH → Prop} {l0 l1 l2 : Option Value} {x : Int32} : wp d 175 391 [l0, l1, l2, some (.int x)] st h K ↔ wp d 175 392 [l0, l1, l2, some (.int x)] (.int x :: st) h K := w_any (i := 175) (pc := 391) dL_law_391 rfl rfl
theorem dL_law_392 : decode cL_law 392 = .ok (.iconst 2, 1) := by decide +kernel
theorem w175_392 {d : Nat} {st : List Value} {h : xH} {K : Option Value → xH → Prop} {ls : xL} : wp d 175 392 ls st h K ↔ wp d 175 393 ls (.int 2 :: st) h K := w_iconst (i := 175) (pc := 392) dL_law_392 (by decide)
theorem dL_law_393 : decode cL_law 393 = .ok (.iadd, 1) := by decide +kernel
theorem w175_393 {d : Nat} {st : List Value} {h : xH} {K : Option Value → xH → Prop} {ls : xL} {x y : Int32} : wp d 175 393 ls (.int y :: .int x :: st) h K ↔ wp d 175 394 ls (.int (x + y) :: st) h K := w_any (i := 175) (pc := 393) dL_law_393 rfl rfl
theorem dL_law_394 : decode cL_law 394 = .ok (.iaload, 1) := by decide +kernel
theorem w175_394 {d : Nat} {st : List Value} {h : xH} {K : Option Value → xH → Prop} {ls : xL} {a : Nat} {x : Int32} : wp d 175 394 ls (.int x :: .ref a :: st) h K ↔ y_iald h a x (fun v => wp d 175 395 ls (.int v :: st) h K) := w_iald (i := 175) (pc := 394) dL_law_394
theorem dL_law_395 : decode cL_law 395 = .ok (.ifCond .eq 7, 3) := by decide +kernel
theorem w175_395 {d : Nat} {st : List Value} {h : xH} {K : Option Value → xH → Prop} {ls : xL} {x : Int32} : wp d 175 395 ls (.int x :: st) h K ↔ ((x = 0) → wp d 175 402 ls st h K) ∧ ((¬ (x = 0)) → wp d 175 398 ls st h K) := w_if1 (i := 175) (pc := 395) (cd := .eq) (off := 7) (tgt := 402) dL_law_395 (by decide) rfl
theorem dL_law_398 : decode cL_law 398 = .ok (.iconst 1, 1) := by decide +kernel
theorem w175_398 {d : Nat} {st : List Value} {h : xH} {K : Option Value → xH → Prop} {ls : xL} : wp d 175 398 ls st h K ↔ wp d 175 399 ls (.int 1 :: st) h K := w_iconst (i := 175) (pc := 398) dL_law_398 (by decide)
theorem dL_law_399 : decode cL_law 399 = .ok (.goto 4, 3) := by decide +kernel
theorem w175_399 {d : Nat} {st : List Value} {h : xH} {K : Option Value → xH → Prop} {ls : xL} : wp d 175 399 ls st h K ↔ wp d 175 403 ls st h K := w_goto (i := 175) (pc := 399) dL_law_399 (by decide) rfl
theorem dL_law_402 : decode cL_law 402 = .ok (.iconst 0, 1) := by decide +kernel
theorem w175_402 {d : Nat} {st : List Value} {h : xH} {K : Option Value → xH → Prop} {ls : xL} : wp d 175 402 ls st h K ↔ wp d 175 403 ls (.int 0 :: st) h K := w_iconst (i := 175) (pc := 402) dL_law_402 (by decide)
theorem dL_law_403 : decode cL_law 403 = .ok (.invokevirtual 41, 3) := by decide +kernel
theorem w175_403 {d : Nat} {st : List Value} {h : xH} {K : Option Value → xH → Prop} {ls : xL} {a0 : Int32} {a1 : Int32} {b : Nat} : wp (d + 1) 175 403 ls (.int a1 :: .int a0 :: .ref b :: st) h K ↔ y_cls h b 7 ∧ xcs st ≤ 8 ∧ wp d 48 0 [some (.ref b), some (.int a0), some (.int a1)] [] h (fun v h1 => wp (d + 1) 175 406 ls (v.toList ++ st) h1 K) := w_callW (i := 175) (pc := 403) (as := [.int a0, .int a1]) (rest := st) dL_law_403 rfl (by decide) rfl rfl (by decide) rfl rfl rfl rfl
theorem dL_law_406 : decode cL_law 406 = .ok (.aload_n 2, 1) := by decide +kernel
theorem w175_406 {d : Nat} {st : List Value} {h : xH} {K : Option Value → xH → Prop} {l0 l1 l3 : Option Value} {x : Nat} : wp d 175 406 [l0, l1, some (.ref x), l3] st h K ↔ wp d 175 407 [l0, l1, some (.ref x), l3] (.ref x :: st) h K := w_any (i := 175) (pc := 406) dL_law_406 rfl rfl
theorem w175_406n {d : Nat} {st : List Value} {h : xH} {K : Option Value → xH → Prop} {l0 l1 l3 : Option Value} : wp d 175 406 [l0, l1, some .null, l3] st h K ↔ wp d 175 407 [l0, l1, some .null, l3] (.null :: st) h K := w_any (i := 175) (pc := 406) dL_law_406 rfl rfl
theorem dL_law_407 : decode cL_law 407 = .ok (.aload_n 0, 1) := by decide +kernel
theorem w175_407 {d : Nat} {st : List Value} {h : xH} {K : Option Value → xH → Prop} {l1 l2 l3 : Option Value} {x : Nat} : wp d 175 407 [some (.ref x), l1, l2, l3] st h K ↔ wp d 175 408 [some (.ref x), l1, l2, l3] (.ref x :: st) h K := w_any (i := 175) (pc := 407) dL_law_407 rfl rfl
theorem w175_407n {d : Nat} {st : List Value} {h : xH} {K : Option Value → xH → Prop} {l1 l2 l3 : Option Value} : wp d 175 407 [some .null, l1, l2, l3] st h K ↔ wp d 175 408 [some .null, l1, l2, l3] (.null :: st) h K := w_any (i := 175) (pc := 407) dL_law_407 rfl rfl
theorem dL_law_408 : decode cL_law 408 = .ok (.iload_n 3, 1) := by decide +kernel
theorem w175_408 {d : Nat} {st : List Value} {h : xH} {K : Option Value → xH → Prop} {l0 l1 l2 : Option Value} {x : Int32} : wp d 175 408 [l0, l1, l2, some (.int x)] st h K ↔ wp d 175 409 [l0, l1, l2, some (.int x)] (.int x :: st) h K := w_any (i := 175) (pc := 408) dL_law_408 rfl rfl
theorem dL_law_409 : decode cL_law 409 = .ok (.iconst 1, 1) := by decide +kernel
theorem w175_409 {d : Nat} {st : List Value} {h : xH} {K : Option Value → xH → Prop} {ls : xL} : wp d 175 409 ls st h K ↔ wp d 175 410 ls (.int 1 :: st) h K := w_iconst (i := 175) (pc := 409) dL_law_409 (by decide)
theorem dL_law_410 : decode cL_law 410 = .ok (.iadd, 1) := by decide +kernel
theorem w175_410 {d : Nat} {st : List Value} {h : xH} {K : Option Value → xH → Prop} {ls : xL} {x y : Int32} : wp d 175 410 ls (.int y :: .int x :: st) h K ↔ wp d 175 411 ls (.int (x + y) :: st) h K := w_any (i := 175) (pc := 410) dL_law_410 rfl rfl
theorem dL_law_411 : decode cL_law 411 = .ok (.iaload, 1) := by decide +kernel
theorem w175_411 {d : Nat} {st : List Value} {h : xH} {K : Option Value → xH → Prop} {ls : xL} {a : Nat} {x : Int32} : wp d 175 411 ls (.int x :: .ref a :: st) h K ↔ y_iald h a x (fun v => wp d 175 412 ls (.int v :: st) h K) := w_iald (i := 175) (pc := 411) dL_law_411
theorem dL_law_412 : decode cL_law 412 = .ok (.aload_n 0, 1) := by decide +kernel
theorem w175_412 {d : Nat} {st : List Value} {h : xH} {K : Option Value → xH → Prop} {l1 l2 l3 : Option Value} {x : Nat} : wp d 175 412 [some (.ref x), l1, l2, l3] st h K ↔ wp d 175 413 [some (.ref x), l1, l2, l3] (.ref x :: st) h K := w_any (i := 175) (pc := 412) dL_law_412 rfl rfl
theorem w175_412n {d : Nat} {st : List Value} {h : xH} {K : Option Value → xH → Prop} {l1 l2 l3 : Option Value} : wp d 175 412 [some .null, l1, l2, l3] st h K ↔ wp d 175 413 [some .null, l1, l2, l3] (.null :: st) h K := w_any (i := 175) (pc := 412) dL_law_412 rfl rfl
theorem dL_law_413 : decode cL_law 413 = .ok (.iload_n 3, 1) := by decide +kernel
theorem w175_413 {d : Nat} {st : List Value} {h : xH} {K : Option Value → xH → Prop} {l0 l1 l2 : Option Value} {x : Int32} : wp d 175 413 [l0, l1, l2, some (.int x)] st h K ↔ wp d 175 414 [l0, l1, l2, some (.int x)] (.int x :: st) h K := w_any (i := 175) (pc := 413) dL_law_413 rfl rfl
theorem dL_law_414 : decode cL_law 414 = .ok (.iconst 2, 1) := by decide +kernel
theorem w175_414 {d : Nat} {st : List Value} {h : xH} {K : Option Value → xH → Prop} {ls : xL} : wp d 175 414 ls st h K ↔ wp d 175 415 ls (.int 2 :: st) h K := w_iconst (i := 175) (pc := 414) dL_law_414 (by decide)
theorem dL_law_415 : decode cL_law 415 = .ok (.iadd, 1) := by decide +kernel
theorem w175_415 {d : Nat} {st : List Value} {h : xH} {K : Option Value → xH → Prop} {ls : xL} {x y : Int32} : wp d 175 415 ls (.int y :: .int x :: st) h K ↔ wp d 175 416 ls (.int (x + y) :: st) h K := w_any (i := 175) (pc := 415) dL_law_415 rfl rfl
theorem dL_law_416 : decode cL_law 416 = .ok (.iaload, 1) := by decide +kernel
theorem w175_416 {d : Nat} {st : List Value} {h : xH} {K : Option Value → xH → Prop} {ls : xL} {a : Nat} {x : Int32} : wp d 175 416 ls (.int x :: .ref a :: st) h K ↔ y_iald h a x (fun v => wp d 175 417 ls (.int v :: st) h K) := w_iald (i := 175) (pc := 416) dL_law_416
theorem dL_law_417 : decode cL_law 417 = .ok (.ifCond .eq 7, 3) := by decide +kernel
theorem w175_417 {d : Nat} {st : List Value} {h : xH} {K : Option Value → xH → Prop} {ls : xL} {x : Int32} : wp d 175 417 ls (.int x :: st) h K ↔ ((x = 0) → wp d 175 424 ls st h K) ∧ ((¬ (x = 0)) → wp d 175 420 ls st h K) := w_if1 (i := 175) (pc := 417) (cd := .eq) (off := 7) (tgt := 424) dL_law_417 (by decide) rfl
theorem dL_law_420 : decode cL_law 420 = .ok (.iconst 1, 1) := by decide +kernel
theorem w175_420 {d : Nat} {st : List Value} {h : xH} {K : Option Value → xH → Prop} {ls : xL} : wp d 175 420 ls st h K ↔ wp d 175 421 ls (.int 1 :: st) h K := w_iconst (i := 175) (pc := 420) dL_law_420 (by decide)
theorem dL_law_421 : decode cL_law 421 = .ok (.goto 4, 3) := by decide +kernel
theorem w175_421 {d : Nat} {st : List Value} {h : xH} {K : Option Value → xH → Prop} {ls : xL} : wp d 175 421 ls st h K ↔ wp d 175 425 ls st h K := w_goto (i := 175) (pc := 421) dL_law_421 (by decide) rfl
theorem dL_law_424 : decode cL_law 424 = .ok (.iconst 0, 1) := by decide +kernel
theorem w175_424 {d : Nat} {st : List Value} {h : xH} {K : Option Value → xH → Prop} {ls : xL} : wp d 175 424 ls st h K ↔ wp d 175 425 ls (.int 0 :: st) h K := w_iconst (i := 175) (pc := 424) dL_law_424 (by decide)
theorem dL_law_425 : decode cL_law 425 = .ok (.invokevirtual 45, 3) := by decide +kernel
theorem w175_425 {d : Nat} {st : List Value} {h : xH} {K : Option Value → xH → Prop} {ls : xL} {a0 : Int32} {a1 : Int32} {b : Nat} : wp (d + 1) 175 425 ls (.int a1 :: .int a0 :: .ref b :: st) h K ↔ y_cls h b 8 ∧ xcs st ≤ 8 ∧ wp d 112 0 [some (.ref b), some (.int a0), some (.int a1), none] [] h (fun v h1 => wp (d + 1) 175 428 ls (v.toList ++ st) h1 K) := w_callW (i := 175) (pc := 425) (as := [.int a0, .int a1]) (rest := st) dL_law_425 rfl (by decide) rfl rfl (by decide) rfl rfl rfl rfl
theorem dL_law_428 : decode cL_law 428 = .ok (.if_icmp .eq 793, 3) := by decide +kernel
theorem w175_428 {d : Nat} {st : List Value} {h : xH} {K : Option Value → xH → Prop} {ls : xL} {x y : Int32} : wp d 175 428 ls (.int y :: .int x :: st) h K ↔ ((x = y) → wp d 175 1221 ls st h K) ∧ ((¬ (x = y)) → wp d 175 431 ls st h K) := w_if2 (i := 175) (pc := 428) (cd := .eq) (off := 793) (tgt := 1221) dL_law_428 (by decide) rfl
theorem dL_law_431 : decode cL_law 431 = .ok (.iconst 0, 1) := by decide +kernel
theorem w175_431 {d : Nat} {st : List Value} {h : xH} {K : Option Value → xH → Prop} {ls : xL} : wp d 175 431 ls st h K ↔ wp d 175 432 ls (.int 0 :: st) h K := w_iconst (i := 175) (pc := 431) dL_law_431 (by decide)
theorem dL_law_432 : decode cL_law 432 = .ok (.ireturn, 1) := by decide +kernel
theorem w175_432 {d : Nat} {h : xH} {K : Option Value → xH → Prop} {ls : xL} {x : Int32} : wp d 175 432 ls [.int x] h K ↔ y_bool x ∧ K (some (.int x)) h := w_zret (i := 175) (pc := 432) dL_law_432 rfl
theorem dL_law_433 : decode cL_law 433 = .ok (.aload_n 1, 1) := by decide +kernel
theorem w175_433 {d : Nat} {st : List Value} {h : xH} {K : Option Value → xH → Prop} {l0 l2 l3 : Option Value} {x : Nat} : wp d 175 433 [l0, some (.ref x), l2, l3] st h K ↔ wp d 175 434 [l0, some (.ref x), l2, l3] (.ref x :: st) h K := w_any (i := 175) (pc := 433) dL_law_433 rfl rfl
theorem w175_433n {d : Nat} {st : List Value} {h : xH} {K : Option Value → xH → Prop} {l0 l2 l3 : Option Value} : wp d 175 433 [l0, some .null, l2, l3] st h K ↔ wp d 175 434 [l0, some .null, l2, l3] (.null :: st) h K := w_any (i := 175) (pc := 433) dL_law_433 rfl rfl
theorem dL_law_434 : decode cL_law 434 = .ok (.aload_n 0, 1) := by decide +kernel
theorem w175_434 {d : Nat} {st : List Value} {h : xH} {K : Option Value → xH → Prop} {l1 l2 l3 : Option Value} {x : Nat} : wp d 175 434 [some (.ref x), l1, l2, l3] st h K ↔ wp d 175 435 [some (.ref x), l1, l2, l3] (.ref x :: st) h K := w_any (i := 175) (pc := 434) dL_law_434 rfl rfl
theorem w175_434n {d : Nat} {st : List Value} {h : xH} {K : Option Value → xH → Prop} {l1 l2 l3 : Option Value} : wp d 175 434 [some .null, l1, l2, l3] st h K ↔ wp d 175 435 [some .null, l1, l2, l3] (.null :: st) h K := w_any (i := 175) (pc := 434) dL_law_434 rfl rfl
theorem dL_law_435 : decode cL_law 435 = .ok (.iload_n 3, 1) := by decide +kernel
theorem w175_435 {d : Nat} {st : List Value} {h : xH} {K : Option Value → xH → Prop} {l0 l1 l2 : Option Value} {x : Int32} : wp d 175 435 [l0, l1, l2, some (.int x)] st h K ↔ wp d 175 436 [l0, l1, l2, some (.int x)] (.int x :: st) h K := w_any (i := 175) (pc := 435) dL_law_435 rfl rfl
theorem dL_law_436 : decode cL_law 436 = .ok (.iconst 1, 1) := by decide +kernel
theorem w175_436 {d : Nat} {st : List Value} {h : xH} {K : Option Value → xH → Prop} {ls : xL} : wp d 175 436 ls st h K ↔ wp d 175 437 ls (.int 1 :: st) h K := w_iconst (i := 175) (pc := 436) dL_law_436 (by decide)
theorem dL_law_437 : decode cL_law 437 = .ok (.iadd, 1) := by decide +kernel
theorem w175_437 {d : Nat} {st : List Value} {h : xH} {K : Option Value → xH → Prop} {ls : xL} {x y : Int32} : wp d 175 437 ls (.int y :: .int x :: st) h K ↔ wp d 175 438 ls (.int (x + y) :: st) h K := w_any (i := 175) (pc := 437) dL_law_437 rfl rfl
theorem dL_law_438 : decode cL_law 438 = .ok (.iaload, 1) := by decide +kernel
theorem w175_438 {d : Nat} {st : List Value} {h : xH} {K : Option Value → xH → Prop} {ls : xL} {a : Nat} {x : Int32} : wp d 175 438 ls (.int x :: .ref a :: st) h K ↔ y_iald h a x (fun v => wp d 175 439 ls (.int v :: st) h K) := w_iald (i := 175) (pc := 438) dL_law_438
theorem dL_law_439 : decode cL_law 439 = .ok (.aload_n 0, 1) := by decide +kernel
theorem w175_439 {d : Nat} {st : List Value} {h : xH} {K : Option Value → xH → Prop} {l1 l2 l3 : Option Value} {x : Nat} : wp d 175 439 [some (.ref x), l1, l2, l3] st h K ↔ wp d 175 440 [some (.ref x), l1, l2, l3] (.ref x :: st) h K := w_any (i := 175) (pc := 439) dL_law_439 rfl rfl
theorem w175_439n {d : Nat} {st : List Value} {h : xH} {K : Option Value → xH → Prop} {l1 l2 l3 : Option Value} : wp d 175 439 [some .null, l1, l2, l3] st h K ↔ wp d 175 440 [some .null, l1, l2, l3] (.null :: st) h K := w_any (i := 175) (pc := 439) dL_law_439 rfl rfl
theorem dL_law_440 : decode cL_law 440 = .ok (.iload_n 3, 1) := by decide +kernel
theorem w175_440 {d : Nat} {st : List Value} {h : xH} {K : Option Value → xH → Prop} {l0 l1 l2 : Option Value} {x : Int32} : wp d 175 440 [l0, l1, l2, some (.int x)] st h K ↔ wp d 175 441 [l0, l1, l2, some (.int x)] (.int x :: st) h K := w_any (i := 175) (pc := 440) dL_law_440 rfl rfl
theorem dL_law_441 : decode cL_law 441 = .ok (.iconst 2, 1) := by decide +kernel
theorem w175_441 {d : Nat} {st : List Value} {h : xH} {K : Option Value → xH → Prop} {ls : xL} : wp d 175 441 ls st h K ↔ wp d 175 442 ls (.int 2 :: st) h K := w_iconst (i := 175) (pc := 441) dL_law_441 (by decide)
theorem dL_law_442 : decode cL_law 442 = .ok (.iadd, 1) := by decide +kernel
theorem w175_442 {d : Nat} {st : List Value} {h : xH} {K : Option Value → xH → Prop} {ls : xL} {x y : Int32} : wp d 175 442 ls (.int y :: .int x :: st) h K ↔ wp d 175 443 ls (.int (x + y) :: st) h K := w_any (i := 175) (pc := 442) dL_law_442 rfl rfl
theorem dL_law_443 : decode cL_law 443 = .ok (.iaload, 1) := by decide +kernel
theorem w175_443 {d : Nat} {st : List Value} {h : xH} {K : Option Value → xH → Prop} {ls : xL} {a : Nat} {x : Int32} : wp d 175 443 ls (.int x :: .ref a :: st) h K ↔ y_iald h a x (fun v => wp d 175 444 ls (.int v :: st) h K) := w_iald (i := 175) (pc := 443) dL_law_443
theorem dL_law_444 : decode cL_law 444 = .ok (.invokevirtual 46, 3) := by decide +kernel
theorem w175_444 {d : Nat} {st : List Value} {h : xH} {K : Option Value → xH → Prop} {ls : xL} {a0 : Int32} {a1 : Int32} {b : Nat} : wp (d + 1) 175 444 ls (.int a1 :: .int a0 :: .ref b :: st) h K ↔ y_cls h b 7 ∧ xcs st ≤ 8 ∧ wp d 49 0 [some (.ref b), some (.int a0), some (.int a1), none] [] h (fun v h1 => wp (d + 1) 175 447 ls (v.toList ++ st) h1 K) := w_callW (i := 175) (pc := 444) (as := [.int a0, .int a1]) (rest := st) dL_law_444 rfl (by decide) rfl rfl (by decide) rfl rfl rfl rfl
theorem dL_law_447 : decode cL_law 447 = .ok (.aload_n 2, 1) := by decide +kernel
theorem w175_447 {d : Nat} {st : List Value} {h : xH} {K : Option Value → xH → Prop} {l0 l1 l3 : Option Value} {x : Nat} : wp d 175 447 [l0, l1, some (.ref x), l3] st h K ↔ wp d 175 448 [l0, l1, some (.ref x), l3] (.ref x :: st) h K := w_any (i := 175) (pc := 447) dL_law_447 rfl rfl
theorem w175_447n {d : Nat} {st : List Value} {h : xH} {K : Option Value → xH → Prop} {l0 l1 l3 : Option Value} : wp d 175 447 [l0, l1, some .null, l3] st h K ↔ wp d 175 448 [l0, l1, some .null, l3] (.null :: st) h K := w_any (i := 175) (pc := 447) dL_law_447 rfl rfl
theorem dL_law_448 : decode cL_law 448 = .ok (.aload_n 0, 1) := by decide +kernel
theorem w175_448 {d : Nat} {st : List Value} {h : xH} {K : Option Value → xH → Prop} {l1 l2 l3 : Option Value} {x : Nat} : wp d 175 448 [some (.ref x), l1, l2, l3] st h K ↔ wp d 175 449 [some (.ref x), l1, l2, l3] (.ref x :: st) h K := w_any (i := 175) (pc := 448) dL_law_448 rfl rfl
theorem w175_448n {d : Nat} {st : List Value} {h : xH} {K : Option Value → xH → Prop} {l1 l2 l3 : Option Value} : wp d 175 448 [some .null, l1, l2, l3] st h K ↔ wp d 175 449 [some .null, l1, l2, l3] (.null :: st) h K := w_any (i := 175) (pc := 448) dL_law_448 rfl rfl
theorem dL_law_449 : decode cL_law 449 = .ok (.iload_n 3, 1) := by decide +kernel
theorem w175_449 {d : Nat} {st : List Value} {h : xH} {K : Option Value → xH → Prop} {l0 l1 l2 : Option Value} {x : Int32} : wp d 175 449 [l0, l1, l2, some (.int x)] st h K ↔ wp d 175 450 [l0, l1, l2, some (.int x)] (.int x :: st) h K := w_any (i := 175) (pc := 449) dL_law_449 rfl rfl
theorem dL_law_450 : decode cL_law 450 = .ok (.iconst 1, 1) := by decide +kernel
theorem w175_450 {d : Nat} {st : List Value} {h : xH} {K : Option Value → xH → Prop} {ls : xL} : wp d 175 450 ls st h K ↔ wp d 175 451 ls (.int 1 :: st) h K := w_iconst (i := 175) (pc := 450) dL_law_450 (by decide)
theorem dL_law_451 : decode cL_law 451 = .ok (.iadd, 1) := by decide +kernel
theorem w175_451 {d : Nat} {st : List Value} {h : xH} {K : Option Value → xH → Prop} {ls : xL} {x y : Int32} : wp d 175 451 ls (.int y :: .int x :: st) h K ↔ wp d 175 452 ls (.int (x + y) :: st) h K := w_any (i := 175) (pc := 451) dL_law_451 rfl rfl
theorem dL_law_452 : decode cL_law 452 = .ok (.iaload, 1) := by decide +kernel
theorem w175_452 {d : Nat} {st : List Value} {h : xH} {K : Option Value → xH → Prop} {ls : xL} {a : Nat} {x : Int32} : wp d 175 452 ls (.int x :: .ref a :: st) h K ↔ y_iald h a x (fun v => wp d 175 453 ls (.int v :: st) h K) := w_iald (i := 175) (pc := 452) dL_law_452
theorem dL_law_453 : decode cL_law 453 = .ok (.aload_n 0, 1) := by decide +kernel
theorem w175_453 {d : Nat} {st : List Value} {h : xH} {K : Option Value → xH → Prop} {l1 l2 l3 : Option Value} {x : Nat} : wp d 175 453 [some (.ref x), l1, l2, l3] st h K ↔ wp d 175 454 [some (.ref x), l1, l2, l3] (.ref x :: st) h K := w_any (i := 175) (pc := 453) dL_law_453 rfl rfl
theorem w175_453n {d : Nat} {st : List Value} {h : xH} {K : Option Value → xH → Prop} {l1 l2 l3 : Option Value} : wp d 175 453 [some .null, l1, l2, l3] st h K ↔ wp d 175 454 [some .null, l1, l2, l3] (.null :: st) h K := w_any (i := 175) (pc := 453) dL_law_453 rfl rfl
theorem dL_law_454 : decode cL_law 454 = .ok (.iload_n 3, 1) := by decide +kernel
theorem w175_454 {d : Nat} {st : List Value} {h : xH} {K : Option Value → xH → Prop} {l0 l1 l2 : Option Value} {x : Int32} : wp d 175 454 [l0, l1, l2, some (.int x)] st h K ↔ wp d 175 455 [l0, l1, l2, some (.int x)] (.int x :: st) h K := w_any (i := 175) (pc := 454) dL_law_454 rfl rfl
theorem dL_law_455 : decode cL_law 455 = .ok (.iconst 2, 1) := by decide +kernel
theorem w175_455 {d : Nat} {st : List Value} {h : xH} {K : Option Value → xH → Prop} {ls : xL} : wp d 175 455 ls st h K ↔ wp d 175 456 ls (.int 2 :: st) h K := w_iconst (i := 175) (pc := 455) dL_law_455 (by decide)
theorem dL_law_456 : decode cL_law 456 = .ok (.iadd, 1) := by decide +kernel
theorem w175_456 {d : Nat} {st : List Value} {h : xH} {K : Option Value → xH → Prop} {ls : xL} {x y : Int32} : wp d 175 456 ls (.int y :: .int x :: st) h K ↔ wp d 175 457 ls (.int (x + y) :: st) h K := w_any (i := 175) (pc := 456) dL_law_456 rfl rfl
theorem dL_law_457 : decode cL_law 457 = .ok (.iaload, 1) := by decide +kernel
theorem w175_457 {d : Nat} {st : List Value} {h : xH} {K : Option Value → xH → Prop} {ls : xL} {a : Nat} {x : Int32} : wp d 175 457 ls (.int x :: .ref a :: st) h K ↔ y_iald h a x (fun v => wp d 175 458 ls (.int v :: st) h K) := w_iald (i := 175) (pc := 457) dL_law_457
theorem dL_law_458 : decode cL_law 458 = .ok (.invokevirtual 49, 3) := by decide +kernel
theorem w175_458 {d : Nat} {st : List Value} {h : xH} {K : Option Value → xH → Prop} {ls : xL} {a0 : Int32} {a1 : Int32} {b : Nat} : wp (d + 1) 175 458 ls (.int a1 :: .int a0 :: .ref b :: st) h K ↔ y_cls h b 8 ∧ xcs st ≤ 8 ∧ wp d 120 0 [some (.ref b), some (.int a0), some (.int a1)] [] h (fun v h1 => wp (d + 1) 175 461 ls (v.toList ++ st) h1 K) := w_callW (i := 175) (pc := 458) (as := [.int a0, .int a1]) (rest := st) dL_law_458 rfl (by decide) rfl rfl (by decide) rfl rfl rfl rfl
theorem dL_law_461 : decode cL_law 461 = .ok (.if_icmp .eq 760, 3) := by decide +kernel
theorem w175_461 {d : Nat} {st : List Value} {h : xH} {K : Option Value → xH → Prop} {ls : xL} {x y : Int32} : wp d 175 461 ls (.int y :: .int x :: st) h K ↔ ((x = y) → wp d 175 1221 ls st h K) ∧ ((¬ (x = y)) → wp d 175 464 ls st h K) := w_if2 (i := 175) (pc := 461) (cd := .eq) (off := 760) (tgt := 1221) dL_law_461 (by decide) rfl
theorem dL_law_464 : decode cL_law 464 = .ok (.iconst 0, 1) := by decide +kernel
theorem w175_464 {d : Nat} {st : List Value} {h : xH} {K : Option Value → xH → Prop} {ls : xL} : wp d 175 464 ls st h K ↔ wp d 175 465 ls (.int 0 :: st) h K := w_iconst (i := 175) (pc := 464) dL_law_464 (by decide)
theorem dL_law_465 : decode cL_law 465 = .ok (.ireturn, 1) := by decide +kernel
theorem w175_465 {d : Nat} {h : xH} {K : Option Value → xH → Prop} {ls : xL} {x : Int32} : wp d 175 465 ls [.int x] h K ↔ y_bool x ∧ K (some (.int x)) h := w_zret (i := 175) (pc := 465) dL_law_465 rfl
theorem dL_law_466 : decode cL_law 466 = .ok (.aload_n 1, 1) := by decide +kernel
theorem w175_466 {d : Nat} {st : List Value} {h : xH} {K : Option Value → xH → Prop} {l0 l2 l3 : Option Value} {x : Nat} : wp d 175 466 [l0, some (.ref x), l2, l3] st h K ↔ wp d 175 467 [l0, some (.ref x), l2, l3] (.ref x :: st) h K := w_any (i := 175) (pc := 466) dL_law_466 rfl rfl
theorem w175_466n {d : Nat} {st : List Value} {h : xH} {K : Option Value → xH → Prop} {l0 l2 l3 : Option Value} : wp d 175 466 [l0, some .null, l2, l3] st h K ↔ wp d 175 467 [l0, some .null, l2, l3] (.null :: st) h K := w_any (i := 175) (pc := 466) dL_law_466 rfl rfl
theorem dL_law_467 : decode cL_law 467 = .ok (.aload_n 0, 1) := by decide +kernel
theorem w175_467 {d : Nat} {st : List Value} {h : xH} {K : Option Value → xH → Prop} {l1 l2 l3 : Option Value} {x : Nat} : wp d 175 467 [some (.ref x), l1, l2, l3] st h K ↔ wp d 175 468 [some (.ref x), l1, l2, l3] (.ref x :: st) h K := w_any (i := 175) (pc := 467) dL_law_467 rfl rfl
theorem w175_467n {d : Nat} {st : List Value} {h : xH} {K : Option Value → xH → Prop} {l1 l2 l3 : Option Value} : wp d 175 467 [some .null, l1, l2, l3] st h K ↔ wp d 175 468 [some .null, l1, l2, l3] (.null :: st) h K := w_any (i := 175) (pc := 467) dL_law_467 rfl rfl
theorem dL_law_468 : decode cL_law 468 = .ok (.iload_n 3, 1) := by decide +kernel
theorem w175_468 {d : Nat} {st : List Value} {h : xH} {K : Option Value → xH → Prop} {l0 l1 l2 : Option Value} {x : Int32} : wp d 175 468 [l0, l1, l2, some (.int x)] st h K ↔ wp d 175 469 [l0, l1, l2, some (.int x)] (.int x :: st) h K := w_any (i := 175) (pc := 468) dL_law_468 rfl rfl
theorem dL_law_469 : decode cL_law 469 = .ok (.iconst 1, 1) := by decide +kernel
theorem w175_469 {d : Nat} {st : List Value} {h : xH} {K : Option Value → xH → Prop} {ls : xL} : wp d 175 469 ls st h K ↔ wp d 175 470 ls (.int 1 :: st) h K := w_iconst (i := 175) (pc := 469) dL_law_469 (by decide)
theorem dL_law_470 : decode cL_law 470 = .ok (.iadd, 1) := by decide +kernel
theorem w175_470 {d : Nat} {st : List Value} {h : xH} {K : Option Value → xH → Prop} {ls : xL} {x y : Int32} : wp d 175 470 ls (.int y :: .int x :: st) h K ↔ wp d 175 471 ls (.int (x + y) :: st) h K := w_any (i := 175) (pc := 470) dL_law_470 rfl rfl
theorem dL_law_471 : decode cL_law 471 = .ok (.iaload, 1) := by decide +kernel
theorem w175_471 {d : Nat} {st : List Value} {h : xH} {K : Option Value → xH → Prop} {ls : xL} {a : Nat} {x : Int32} : wp d 175 471 ls (.int x :: .ref a :: st) h K ↔ y_iald h a x (fun v => wp d 175 472 ls (.int v :: st) h K) := w_iald (i := 175) (pc := 471) dL_law_471
theorem dL_law_472 : decode cL_law 472 = .ok (.aload_n 0, 1) := by decide +kernel
theorem w175_472 {d : Nat} {st : List Value} {h : xH} {K : Option Value → xH → Prop} {l1 l2 l3 : Option Value} {x : Nat} : wp d 175 472 [some (.ref x), l1, l2, l3] st h K ↔ wp d 175 473 [some (.ref x), l1, l2, l3] (.ref x :: st) h K := w_any (i := 175) (pc := 472) dL_law_472 rfl rfl
theorem w175_472n {d : Nat} {st : List Value} {h : xH} {K : Option Value → xH → Prop} {l1 l2 l3 : Option Value} : wp d 175 472 [some .null, l1, l2, l3] st h K ↔ wp d 175 473 [some .null, l1, l2, l3] (.null :: st) h K := w_any (i := 175) (pc := 472) dL_law_472 rfl rfl
theorem dL_law_473 : decode cL_law 473 = .ok (.iload_n 3, 1) := by decide +kernel
theorem w175_473 {d : Nat} {st : List Value} {h : xH} {K : Option Value → xH → Prop} {l0 l1 l2 : Option Value} {x : Int32} : wp d 175 473 [l0, l1, l2, some (.int x)] st h K ↔ wp d 175 474 [l0, l1, l2, some (.int x)] (.int x :: st) h K := w_any (i := 175) (pc := 473) dL_law_473 rfl rfl
theorem dL_law_474 : decode cL_law 474 = .ok (.iconst 2, 1) := by decide +kernel
theorem w175_474 {d : Nat} {st : List Value} {h : xH} {K : Option Value → xH → Prop} {ls : xL} : wp d 175 474 ls st h K ↔ wp d 175 475 ls (.int 2 :: st) h K := w_iconst (i := 175) (pc := 474) dL_law_474 (by decide)
theorem dL_law_475 : decode cL_law 475 = .ok (.iadd, 1) := by decide +kernel
theorem w175_475 {d : Nat} {st : List Value} {h : xH} {K : Option Value → xH → Prop} {ls : xL} {x y : Int32} : wp d 175 475 ls (.int y :: .int x :: st) h K ↔ wp d 175 476 ls (.int (x + y) :: st) h K := w_any (i := 175) (pc := 475) dL_law_475 rfl rfl
theorem dL_law_476 : decode cL_law 476 = .ok (.iaload, 1) := by decide +kernel
theorem w175_476 {d : Nat} {st : List Value} {h : xH} {K : Option Value → xH → Prop} {ls : xL} {a : Nat} {x : Int32} : wp d 175 476 ls (.int x :: .ref a :: st) h K ↔ y_iald h a x (fun v => wp d 175 477 ls (.int v :: st) h K) := w_iald (i := 175) (pc := 476) dL_law_476
theorem dL_law_477 : decode cL_law 477 = .ok (.invokevirtual 50, 3) := by decide +kernel
theorem w175_477 {d : Nat} {st : List Value} {h : xH} {K : Option Value → xH → Prop} {ls : xL} {a0 : Int32} {a1 : Int32} {b : Nat} : wp (d + 1) 175 477 ls (.int a1 :: .int a0 :: .ref b :: st) h K ↔ y_cls h b 7 ∧ xcs st ≤ 8 ∧ wp d 50 0 [some (.ref b), some (.int a0), some (.int a1), none] [] h (fun v h1 => wp (d + 1) 175 480 ls (v.toList ++ st) h1 K) := w_callW (i := 175) (pc := 477) (as := [.int a0, .int a1]) (rest := st) dL_law_477 rfl (by decide) rfl rfl (by decide) rfl rfl rfl rfl
theorem dL_law_480 : decode cL_law 480 = .ok (.aload_n 2, 1) := by decide +kernel
theorem w175_480 {d : Nat} {st : List Value} {h : xH} {K : Option Value → xH → Prop} {l0 l1 l3 : Option Value} {x : Nat} : wp d 175 480 [l0, l1, some (.ref x), l3] st h K ↔ wp d 175 481 [l0, l1, some (.ref x), l3] (.ref x :: st) h K := w_any (i := 175) (pc := 480) dL_law_480 rfl rfl
theorem w175_480n {d : Nat} {st : List Value} {h : xH} {K : Option Value → xH → Prop} {l0 l1 l3 : Option Value} : wp d 175 480 [l0, l1, some .null, l3] st h K ↔ wp d 175 481 [l0, l1, some .null, l3] (.null :: st) h K := w_any (i := 175) (pc := 480) dL_law_480 rfl rfl
theorem dL_law_481 : decode cL_law 481 = .ok (.aload_n 0, 1) := by decide +kernel
theorem w175_481 {d : Nat} {st : List Value} {h : xH} {K : Option Value → xH → Prop} {l1 l2 l3 : Option Value} {x : Nat} : wp d 175 481 [some (.ref x), l1, l2, l3] st h K ↔ wp d 175 482 [some (.ref x), l1, l2, l3] (.ref x :: st) h K := w_any (i := 175) (pc := 481) dL_law_481 rfl rfl
theorem w175_481n {d : Nat} {st : List Value} {h : xH} {K : Option Value → xH → Prop} {l1 l2 l3 : Option Value} : wp d 175 481 [some .null, l1, l2, l3] st h K ↔ wp d 175 482 [some .null, l1, l2, l3] (.null :: st) h K := w_any (i := 175) (pc := 481) dL_law_481 rfl rfl
theorem dL_law_482 : decode cL_law 482 = .ok (.iload_n 3, 1) := by decide +kernel
theorem w175_482 {d : Nat} {st : List Value} {h : xH} {K : Option Value → xH → Prop} {l0 l1 l2 : Option Value} {x : Int32} : wp d 175 482 [l0, l1, l2, some (.int x)] st h K ↔ wp d 175 483 [l0, l1, l2, some (.int x)] (.int x :: st) h K := w_any (i := 175) (pc := 482) dL_law_482 rfl rfl
theorem dL_law_483 : decode cL_law 483 = .ok (.iconst 1, 1) := by decide +kernel
theorem w175_483 {d : Nat} {st : List Value} {h : xH} {K : Option Value → xH → Prop} {ls : xL} : wp d 175 483 ls st h K ↔ wp d 175 484 ls (.int 1 :: st) h K := w_iconst (i := 175) (pc := 483) dL_law_483 (by decide)
theorem dL_law_484 : decode cL_law 484 = .ok (.iadd, 1) := by decide +kernel
theorem w175_484 {d : Nat} {st : List Value} {h : xH} {K : Option Value → xH → Prop} {ls : xL} {x y : Int32} : wp d 175 484 ls (.int y :: .int x :: st) h K ↔ wp d 175 485 ls (.int (x + y) :: st) h K := w_any (i := 175) (pc := 484) dL_law_484 rfl rfl
theorem dL_law_485 : decode cL_law 485 = .ok (.iaload, 1) := by decide +kernel
theorem w175_485 {d : Nat} {st : List Value} {h : xH} {K : Option Value → xH → Prop} {ls : xL} {a : Nat} {x : Int32} : wp d 175 485 ls (.int x :: .ref a :: st) h K ↔ y_iald h a x (fun v => wp d 175 486 ls (.int v :: st) h K) := w_iald (i := 175) (pc := 485) dL_law_485
theorem dL_law_486 : decode cL_law 486 = .ok (.aload_n 0, 1) := by decide +kernel
theorem w175_486 {d : Nat} {st : List Value} {h : xH} {K : Option Value → xH → Prop} {l1 l2 l3 : Option Value} {x : Nat} : wp d 175 486 [some (.ref x), l1, l2, l3] st h K ↔ wp d 175 487 [some (.ref x), l1, l2, l3] (.ref x :: st) h K := w_any (i := 175) (pc := 486) dL_law_486 rfl rfl
theorem w175_486n {d : Nat} {st : List Value} {h : xH} {K : Option Value → xH → Prop} {l1 l2 l3 : Option Value} : wp d 175 486 [some .null, l1, l2, l3] st h K ↔ wp d 175 487 [some .null, l1, l2, l3] (.null :: st) h K := w_any (i := 175) (pc := 486) dL_law_486 rfl rfl
theorem dL_law_487 : decode cL_law 487 = .ok (.iload_n 3, 1) := by decide +kernel
theorem w175_487 {d : Nat} {st : List Value} {h : xH} {K : Option Value → xH → Prop} {l0 l1 l2 : Option Value} {x : Int32} : wp d 175 487 [l0, l1, l2, some (.int x)] st h K ↔ wp d 175 488 [l0, l1, l2, some (.int x)] (.int x :: st) h K := w_any (i := 175) (pc := 487) dL_law_487 rfl rfl
theorem dL_law_488 : decode cL_law 488 = .ok (.iconst 2, 1) := by decide +kernel
theorem w175_488 {d : Nat} {st : List Value} {h : xH} {K : Option Value → xH → Prop} {ls : xL} : wp d 175 488 ls st h K ↔ wp d 175 489 ls (.int 2 :: st) h K := w_iconst (i := 175) (pc := 488) dL_law_488 (by decide)
theorem dL_law_489 : decode cL_law 489 = .ok (.iadd, 1) := by decide +kernel
theorem w175_489 {d : Nat} {st : List Value} {h : xH} {K : Option Value → xH → Prop} {ls : xL} {x y : Int32} : wp d 175 489 ls (.int y :: .int x :: st) h K ↔ wp d 175 490 ls (.int (x + y) :: st) h K := w_any (i := 175) (pc := 489) dL_law_489 rfl rfl
theorem dL_law_490 : decode cL_law 490 = .ok (.iaload, 1) := by decide +kernel
theorem w175_490 {d : Nat} {st : List Value} {h : xH} {K : Option Value → xH → Prop} {ls : xL} {a : Nat} {x : Int32} : wp d 175 490 ls (.int x :: .ref a :: st) h K ↔ y_iald h a x (fun v => wp d 175 491 ls (.int v :: st) h K) := w_iald (i := 175) (pc := 490) dL_law_490
theorem dL_law_491 : decode cL_law 491 = .ok (.invokevirtual 54, 3) := by decide +kernel
theorem w175_491 {d : Nat} {st : List Value} {h : xH} {K : Option Value → xH → Prop} {ls : xL} {a0 : Int32} {a1 : Int32} {b : Nat} : wp (d + 1) 175 491 ls (.int a1 :: .int a0 :: .ref b :: st) h K ↔ y_cls h b 8 ∧ xcs st ≤ 8 ∧ wp d 121 0 [some (.ref b), some (.int a0), some (.int a1)] [] h (fun v h1 => wp (d + 1) 175 494 ls (v.toList ++ st) h1 K) := w_callW (i := 175) (pc := 491) (as := [.int a0, .int a1]) (rest := st) dL_law_491 rfl (by decide) rfl rfl (by decide) rfl rfl rfl rfl
theorem dL_law_494 : decode cL_law 494 = .ok (.lcmp, 1) := by decide +kernel
theorem w175_494 {d : Nat} {st : List Value} {h : xH} {K : Option Value → xH → Prop} {ls : xL} {x y : Int64} : wp d 175 494 ls (.long y :: .long x :: st) h K ↔ wp d 175 495 ls (.int (lg_cmp x y) :: st) h K := w_any (i := 175) (pc := 494) dL_law_494 rfl rfl
theorem dL_law_495 : decode cL_law 495 = .ok (.ifCond .eq 726, 3) := by decide +kernel
theorem w175_495 {d : Nat} {st : List Value} {h : xH} {K : Option Value → xH → Prop} {ls : xL} {x : Int32} : wp d 175 495 ls (.int x :: st) h K ↔ ((x = 0) → wp d 175 1221 ls st h K) ∧ ((¬ (x = 0)) → wp d 175 498 ls st h K) := w_if1 (i := 175) (pc := 495) (cd := .eq) (off := 726) (tgt := 1221) dL_law_495 (by decide) rfl
theorem dL_law_498 : decode cL_law 498 = .ok (.iconst 0, 1) := by decide +kernel
theorem w175_498 {d : Nat} {st : List Value} {h : xH} {K : Option Value → xH → Prop} {ls : xL} : wp d 175 498 ls st h K ↔ wp d 175 499 ls (.int 0 :: st) h K := w_iconst (i := 175) (pc := 498) dL_law_498 (by decide)
theorem dL_law_499 : decode cL_law 499 = .ok (.ireturn, 1) := by decide +kernel
theorem w175_499 {d : Nat} {h : xH} {K : Option Value → xH → Prop} {ls : xL} {x : Int32} : wp d 175 499 ls [.int x] h K ↔ y_bool x ∧ K (some (.int x)) h := w_zret (i := 175) (pc := 499) dL_law_499 rfl
theorem dL_law_500 : decode cL_law 500 = .ok (.aload_n 1, 1) := by decide +kernel
theorem w175_500 {d : Nat} {st : List Value} {h : xH} {K : Option Value → xH → Prop} {l0 l2 l3 : Option Value} {x : Nat} : wp d 175 500 [l0, some (.ref x), l2, l3] st h K ↔ wp d 175 501 [l0, some (.ref x), l2, l3] (.ref x :: st) h K := w_any (i := 175) (pc := 500) dL_law_500 rfl rfl
theorem w175_500n {d : Nat} {st : List Value} {h : xH} {K : Option Value → xH → Prop} {l0 l2 l3 : Option Value} : wp d 175 500 [l0, some .null, l2, l3] st h K ↔ wp d 175 501 [l0, some .null, l2, l3] (.null :: st) h K := w_any (i := 175) (pc := 500) dL_law_500 rfl rfl
theorem dL_law_501 : decode cL_law 501 = .ok (.aload_n 0, 1) := by decide +kernel
theorem w175_501 {d : Nat} {st : List Value} {h : xH} {K : Option Value → xH → Prop} {l1 l2 l3 : Option Value} {x : Nat} : wp d 175 501 [some (.ref x), l1, l2, l3] st h K ↔ wp d 175 502 [some (.ref x), l1, l2, l3] (.ref x :: st) h K := w_any (i := 175) (pc := 501) dL_law_501 rfl rfl
theorem w175_501n {d : Nat} {st : List Value} {h : xH} {K : Option Value → xH → Prop} {l1 l2 l3 : Option Value} : wp d 175 501 [some .null, l1, l2, l3] st h K ↔ wp d 175 502 [some .null, l1, l2, l3] (.null :: st) h K := w_any (i := 175) (pc := 501) dL_law_501 rfl rfl
theorem dL_law_502 : decode cL_law 502 = .ok (.iload_n 3, 1) := by decide +kernel
theorem w175_502 {d : Nat} {st : List Value} {h : xH} {K : Option Value → xH → Prop} {l0 l1 l2 : Option Value} {x : Int32} : wp d 175 502 [l0, l1, l2, some (.int x)] st h K ↔ wp d 175 503 [l0, l1, l2, some (.int x)] (.int x :: st) h K := w_any (i := 175) (pc := 502) dL_law_502 rfl rfl
theorem dL_law_503 : decode cL_law 503 = .ok (.iconst 1, 1) := by decide +kernel
theorem w175_503 {d : Nat} {st : List Value} {h : xH} {K : Option Value → xH → Prop} {ls : xL} : wp d 175 503 ls st h K ↔ wp d 175 504 ls (.int 1 :: st) h K := w_iconst (i := 175) (pc := 503) dL_law_503 (by decide)
theorem dL_law_504 : decode cL_law 504 = .ok (.iadd, 1) := by decide +kernel
theorem w175_504 {d : Nat} {st : List Value} {h : xH} {K : Option Value → xH → Prop} {ls : xL} {x y : Int32} : wp d 175 504 ls (.int y :: .int x :: st) h K ↔ wp d 175 505 ls (.int (x + y) :: st) h K := w_any (i := 175) (pc := 504) dL_law_504 rfl rfl
theorem dL_law_505 : decode cL_law 505 = .ok (.iaload, 1) := by decide +kernel
theorem w175_505 {d : Nat} {st : List Value} {h : xH} {K : Option Value → xH → Prop} {ls : xL} {a : Nat} {x : Int32} : wp d 175 505 ls (.int x :: .ref a :: st) h K ↔ y_iald h a x (fun v => wp d 175 506 ls (.int v :: st) h K) := w_iald (i := 175) (pc := 505) dL_law_505
theorem dL_law_506 : decode cL_law 506 = .ok (.aload_n 0, 1) := by decide +kernel
theorem w175_506 {d : Nat} {st : List Value} {h : xH} {K : Option Value → xH → Prop} {l1 l2 l3 : Option Value} {x : Nat} : wp d 175 506 [some (.ref x), l1, l2, l3] st h K ↔ wp d 175 507 [some (.ref x), l1, l2, l3] (.ref x :: st) h K := w_any (i := 175) (pc := 506) dL_law_506 rfl rfl
theorem w175_506n {d : Nat} {st : List Value} {h : xH} {K : Option Value → xH → Prop} {l1 l2 l3 : Option Value} : wp d 175 506 [some .null, l1, l2, l3] st h K ↔ wp d 175 507 [some .null, l1, l2, l3] (.null :: st) h K := w_any (i := 175) (pc := 506) dL_law_506 rfl rfl
theorem dL_law_507 : decode cL_law 507 = .ok (.iload_n 3, 1) := by decide +kernel
theorem w175_507 {d : Nat} {st : List Value} {h : xH} {K : Option Value → xH → Prop} {l0 l1 l2 : Option Value} {x : Int32} : wp d 175 507 [l0, l1, l2, some (.int x)] st h K ↔ wp d 175 508 [l0, l1, l2, some (.int x)] (.int x :: st) h K := w_any (i := 175) (pc := 507) dL_law_507 rfl rfl
theorem dL_law_508 : decode cL_law 508 = .ok (.iconst 2, 1) := by decide +kernel
theorem w175_508 {d : Nat} {st : List Value} {h : xH} {K : Option Value → xH → Prop} {ls : xL} : wp d 175 508 ls st h K ↔ wp d 175 509 ls (.int 2 :: st) h K := w_iconst (i := 175) (pc := 508) dL_law_508 (by decide)
theorem dL_law_509 : decode cL_law 509 = .ok (.iadd, 1) := by decide +kernel
theorem w175_509 {d : Nat} {st : List Value} {h : xH} {K : Option Value → xH → Prop} {ls : xL} {x y : Int32} : wp d 175 509 ls (.int y :: .int x :: st) h K ↔ wp d 175 510 ls (.int (x + y) :: st) h K := w_any (i := 175) (pc := 509) dL_law_509 rfl rfl
theorem dL_law_510 : decode cL_law 510 = .ok (.iaload, 1) := by decide +kernel
theorem w175_510 {d : Nat} {st : List Value} {h : xH} {K : Option Value → xH → Prop} {ls : xL} {a : Nat} {x : Int32} : wp d 175 510 ls (.int x :: .ref a :: st) h K ↔ y_iald h a x (fun v => wp d 175 511 ls (.int v :: st) h K) := w_iald (i := 175) (pc := 510) dL_law_510
theorem dL_law_511 : decode cL_law 511 = .ok (.invokevirtual 55, 3) := by decide +kernel
theorem w175_511 {d : Nat} {st : List Value} {h : xH} {K : Option Value → xH → Prop} {ls : xL} {a0 : Int32} {a1 : Int32} {b : Nat} : wp (d + 1) 175 511 ls (.int a1 :: .int a0 :: .ref b :: st) h K ↔ y_cls h b 7 ∧ xcs st ≤ 8 ∧ wp d 51 0 [some (.ref b), some (.int a0), some (.int a1), none] [] h (fun v h1 => wp (d + 1) 175 514 ls (v.toList ++ st) h1 K) := w_callW (i := 175) (pc := 511) (as := [.int a0, .int a1]) (rest := st) dL_law_511 rfl (by decide) rfl rfl (by decide) rfl rfl rfl rfl
theorem dL_law_514 : decode cL_law 514 = .ok (.aload_n 2, 1) := by decide +kernel
theorem w175_514 {d : Nat} {st : List Value} {h : xH} {K : Option Value → xH → Prop} {l0 l1 l3 : Option Value} {x : Nat} : wp d 175 514 [l0, l1, some (.ref x), l3] st h K ↔ wp d 175 515 [l0, l1, some (.ref x), l3] (.ref x :: st) h K := w_any (i := 175) (pc := 514) dL_law_514 rfl rfl
theorem w175_514n {d : Nat} {st : List Value} {h : xH} {K : Option Value → xH → Prop} {l0 l1 l3 : Option Value} : wp d 175 514 [l0, l1, some .null, l3] st h K ↔ wp d 175 515 [l0, l1, some .null, l3] (.null :: st) h K := w_any (i := 175) (pc := 514) dL_law_514 rfl rfl
theorem dL_law_515 : decode cL_law 515 = .ok (.aload_n 0, 1) := by decide +kernel
theorem w175_515 {d : Nat} {st : List Value} {h : xH} {K : Option Value → xH → Prop} {l1 l2 l3 : Option Value} {x : Nat} : wp d 175 515 [some (.ref x), l1, l2, l3] st h K ↔ wp d 175 516 [some (.ref x), l1, l2, l3] (.ref x :: st) h K := w_any (i := 175) (pc := 515) dL_law_515 rfl rfl
theorem w175_515n {d : Nat} {st : List Value} {h : xH} {K : Option Value → xH → Prop} {l1 l2 l3 : Option Value} : wp d 175 515 [some .null, l1, l2, l3] st h K ↔ wp d 175 516 [some .null, l1, l2, l3] (.null :: st) h K := w_any (i := 175) (pc := 515) dL_law_515 rfl rfl
theorem dL_law_516 : decode cL_law 516 = .ok (.iload_n 3, 1) := by decide +kernel
theorem w175_516 {d : Nat} {st : List Value} {h : xH} {K : Option Value → xH → Prop} {l0 l1 l2 : Option Value} {x : Int32} : wp d 175 516 [l0, l1, l2, some (.int x)] st h K ↔ wp d 175 517 [l0, l1, l2, some (.int x)] (.int x :: st) h K := w_any (i := 175) (pc := 516) dL_law_516 rfl rfl
theorem dL_law_517 : decode cL_law 517 = .ok (.iconst 1, 1) := by decide +kernel
theorem w175_517 {d : Nat} {st : List Value} {h : xH} {K : Option Value → xH → Prop} {ls : xL} : wp d 175 517 ls st h K ↔ wp d 175 518 ls (.int 1 :: st) h K := w_iconst (i := 175) (pc := 517) dL_law_517 (by decide)
theorem dL_law_518 : decode cL_law 518 = .ok (.iadd, 1) := by decide +kernel
theorem w175_518 {d : Nat} {st : List Value} {h : xH} {K : Option Value → xH → Prop} {ls : xL} {x y : Int32} : wp d 175 518 ls (.int y :: .int x :: st) h K ↔ wp d 175 519 ls (.int (x + y) :: st) h K := w_any (i := 175) (pc := 518) dL_law_518 rfl rfl
theorem dL_law_519 : decode cL_law 519 = .ok (.iaload, 1) := by decide +kernel
theorem w175_519 {d : Nat} {st : List Value} {h : xH} {K : Option Value → xH → Prop} {ls : xL} {a : Nat} {x : Int32} : wp d 175 519 ls (.int x :: .ref a :: st) h K ↔ y_iald h a x (fun v => wp d 175 520 ls (.int v :: st) h K) := w_iald (i := 175) (pc := 519) dL_law_519
theorem dL_law_520 : decode cL_law 520 = .ok (.aload_n 0, 1) := by decide +kernel
theorem w175_520 {d : Nat} {st : List Value} {h : xH} {K : Option Value → xH → Prop} {l1 l2 l3 : Option Value} {x : Nat} : wp d 175 520 [some (.ref x), l1, l2, l3] st h K ↔ wp d 175 521 [some (.ref x), l1, l2, l3] (.ref x :: st) h K := w_any (i := 175) (pc := 520) dL_law_520 rfl rfl
theorem w175_520n {d : Nat} {st : List Value} {h : xH} {K : Option Value → xH → Prop} {l1 l2 l3 : Option Value} : wp d 175 520 [some .null, l1, l2, l3] st h K ↔ wp d 175 521 [some .null, l1, l2, l3] (.null :: st) h K := w_any (i := 175) (pc := 520) dL_law_520 rfl rfl
theorem dL_law_521 : decode cL_law 521 = .ok (.iload_n 3, 1) := by decide +kernel
theorem w175_521 {d : Nat} {st : List Value} {h : xH} {K : Option Value → xH → Prop} {l0 l1 l2 : Option Value} {x : Int32} : wp d 175 521 [l0, l1, l2, some (.int x)] st h K ↔ wp d 175 522 [l0, l1, l2, some (.int x)] (.int x :: st) h K := w_any (i := 175) (pc := 521) dL_law_521 rfl rfl
theorem dL_law_522 : decode cL_law 522 = .ok (.iconst 2, 1) := by decide +kernel
theorem w175_522 {d : Nat} {st : List Value} {h : xH} {K : Option Value → xH → Prop} {ls : xL} : wp d 175 522 ls st h K ↔ wp d 175 523 ls (.int 2 :: st) h K := w_iconst (i := 175) (pc := 522) dL_law_522 (by decide)
theorem dL_law_523 : decode cL_law 523 = .ok (.iadd, 1) := by decide +kernel
theorem w175_523 {d : Nat} {st : List Value} {h : xH} {K : Option Value → xH → Prop} {ls : xL} {x y : Int32} : wp d 175 523 ls (.int y :: .int x :: st) h K ↔ wp d 175 524 ls (.int (x + y) :: st) h K := w_any (i := 175) (pc := 523) dL_law_523 rfl rfl
theorem dL_law_524 : decode cL_law 524 = .ok (.iaload, 1) := by decide +kernel
theorem w175_524 {d : Nat} {st : List Value} {h : xH} {K : Option Value → xH → Prop} {ls : xL} {a : Nat} {x : Int32} : wp d 175 524 ls (.int x :: .ref a :: st) h K ↔ y_iald h a x (fun v => wp d 175 525 ls (.int v :: st) h K) := w_iald (i := 175) (pc := 524) dL_law_524
theorem dL_law_525 : decode cL_law 525 = .ok (.invokevirtual 58, 3) := by decide +kernel
theorem w175_525 {d : Nat} {st : List Value} {h : xH} {K : Option Value → xH → Prop} {ls : xL} {a0 : Int32} {a1 : Int32} {b : Nat} : wp (d + 1) 175 525 ls (.int a1 :: .int a0 :: .ref b :: st) h K ↔ y_cls h b 8 ∧ xcs st ≤ 8 ∧ wp d 122 0 [some (.ref b), some (.int a0), some (.int a1)] [] h (fun v h1 => wp (d + 1) 175 528 ls (v.toList ++ st) h1 K) := w_callW (i := 175) (pc := 525) (as := [.int a0, .int a1]) (rest := st) dL_law_525 rfl (by decide) rfl rfl (by decide) rfl rfl rfl rfl
theorem dL_law_528 : decode cL_law 528 = .ok (.if_icmp .eq 693, 3) := by decide +kernel
theorem w175_528 {d : Nat} {st : List Value} {h : xH} {K : Option Value → xH → Prop} {ls : xL} {x y : Int32} : wp d 175 528 ls (.int y :: .int x :: st) h K ↔ ((x = y) → wp d 175 1221 ls st h K) ∧ ((¬ (x = y)) → wp d 175 531 ls st h K) := w_if2 (i := 175) (pc := 528) (cd := .eq) (off := 693) (tgt := 1221) dL_law_528 (by decide) rfl
theorem dL_law_531 : decode cL_law 531 = .ok (.iconst 0, 1) := by decide +kernel
theorem w175_531 {d : Nat} {st : List Value} {h : xH} {K : Option Value → xH → Prop} {ls : xL} : wp d 175 531 ls st h K ↔ wp d 175 532 ls (.int 0 :: st) h K := w_iconst (i := 175) (pc := 531) dL_law_531 (by decide)
theorem dL_law_532 : decode cL_law 532 = .ok (.ireturn, 1) := by decide +kernel
theorem w175_532 {d : Nat} {h : xH} {K : Option Value → xH → Prop} {ls : xL} {x : Int32} : wp d 175 532 ls [.int x] h K ↔ y_bool x ∧ K (some (.int x)) h := w_zret (i := 175) (pc := 532) dL_law_532 rfl
theorem dL_law_533 : decode cL_law 533 = .ok (.aload_n 1, 1) := by decide +kernel
theorem w175_533 {d : Nat} {st : List Value} {h : xH} {K : Option Value → xH → Prop} {l0 l2 l3 : Option Value} {x : Nat} : wp d 175 533 [l0, some (.ref x), l2, l3] st h K ↔ wp d 175 534 [l0, some (.ref x), l2, l3] (.ref x :: st) h K := w_any (i := 175) (pc := 533) dL_law_533 rfl rfl
theorem w175_533n {d : Nat} {st : List Value} {h : xH} {K : Option Value → xH → Prop} {l0 l2 l3 : Option Value} : wp d 175 533 [l0, some .null, l2, l3] st h K ↔ wp d 175 534 [l0, some .null, l2, l3] (.null :: st) h K := w_any (i := 175) (pc := 533) dL_law_533 rfl rfl
theorem dL_law_534 : decode cL_law 534 = .ok (.aload_n 0, 1) := by decide +kernel
theorem w175_534 {d : Nat} {st : List Value} {h : xH} {K : Option Value → xH → Prop} {l1 l2 l3 : Option Value} {x : Nat} : wp d 175 534 [some (.ref x), l1, l2, l3] st h K ↔ wp d 175 535 [some (.ref x), l1, l2, l3] (.ref x :: st) h K := w_any (i := 175) (pc := 534) dL_law_534 rfl rfl
theorem w175_534n {d : Nat} {st : List Value} {h : xH} {K : Option Value → xH → Prop} {l1 l2 l3 : Option Value} : wp d 175 534 [some .null, l1, l2, l3] st h K ↔ wp d 175 535 [some .null, l1, l2, l3] (.null :: st) h K := w_any (i := 175) (pc := 534) dL_law_534 rfl rfl
theorem dL_law_535 : decode cL_law 535 = .ok (.iload_n 3, 1) := by decide +kernel
theorem w175_535 {d : Nat} {st : List Value} {h : xH} {K : Option Value → xH → Prop} {l0 l1 l2 : Option Value} {x : Int32} : wp d 175 535 [l0, l1, l2, some (.int x)] st h K ↔ wp d 175 536 [l0, l1, l2, some (.int x)] (.int x :: st) h K := w_any (i := 175) (pc := 535) dL_law_535 rfl rfl
theorem dL_law_536 : decode cL_law 536 = .ok (.iconst 1, 1) := by decide +kernel
theorem w175_536 {d : Nat} {st : List Value} {h : xH} {K : Option Value → xH → Prop} {ls : xL} : wp d 175 536 ls st h K ↔ wp d 175 537 ls (.int 1 :: st) h K := w_iconst (i := 175) (pc := 536) dL_law_536 (by decide)
theorem dL_law_537 : decode cL_law 537 = .ok (.iadd, 1) := by decide +kernel
theorem w175_537 {d : Nat} {st : List Value} {h : xH} {K : Option Value → xH → Prop} {ls : xL} {x y : Int32} : wp d 175 537 ls (.int y :: .int x :: st) h K ↔ wp d 175 538 ls (.int (x + y) :: st) h K := w_any (i := 175) (pc := 537) dL_law_537 rfl rfl
theorem dL_law_538 : decode cL_law 538 = .ok (.iaload, 1) := by decide +kernel
theorem w175_538 {d : Nat} {st : List Value} {h : xH} {K : Option Value → xH → Prop} {ls : xL} {a : Nat} {x : Int32} : wp d 175 538 ls (.int x :: .ref a :: st) h K ↔ y_iald h a x (fun v => wp d 175 539 ls (.int v :: st) h K) := w_iald (i := 175) (pc := 538) dL_law_538
theorem dL_law_539 : decode cL_law 539 = .ok (.aload_n 0, 1) := by decide +kernel
theorem w175_539 {d : Nat} {st : List Value} {h : xH} {K : Option Value → xH → Prop} {l1 l2 l3 : Option Value} {x : Nat} : wp d 175 539 [some (.ref x), l1, l2, l3] st h K ↔ wp d 175 540 [some (.ref x), l1, l2, l3] (.ref x :: st) h K := w_any (i := 175) (pc := 539) dL_law_539 rfl rfl
theorem w175_539n {d : Nat} {st : List Value} {h : xH} {K : Option Value → xH → Prop} {l1 l2 l3 : Option Value} : wp d 175 539 [some .null, l1, l2, l3] st h K ↔ wp d 175 540 [some .null, l1, l2, l3] (.null :: st) h K := w_any (i := 175) (pc := 539) dL_law_539 rfl rfl
theorem dL_law_540 : decode cL_law 540 = .ok (.iload_n 3, 1) := by decide +kernel
theorem w175_540 {d : Nat} {st : List Value} {h : xH} {K : Option Value → xH → Prop} {l0 l1 l2 : Option Value} {x : Int32} : wp d 175 540 [l0, l1, l2, some (.int x)] st h K ↔ wp d 175 541 [l0, l1, l2, some (.int x)] (.int x :: st) h K := w_any (i := 175) (pc := 540) dL_law_540 rfl rfl
theorem dL_law_541 : decode cL_law 541 = .ok (.iconst 2, 1) := by decide +kernel
theorem w175_541 {d : Nat} {st : List Value} {h : xH} {K : Option Value → xH → Prop} {ls : xL} : wp d 175 541 ls st h K ↔ wp d 175 542 ls (.int 2 :: st) h K := w_iconst (i := 175) (pc := 541) dL_law_541 (by decide)
theorem dL_law_542 : decode cL_law 542 = .ok (.iadd, 1) := by decide +kernel
theorem w175_542 {d : Nat} {st : List Value} {h : xH} {K : Option Value → xH → Prop} {ls : xL} {x y : Int32} : wp d 175 542 ls (.int y :: .int x :: st) h K ↔ wp d 175 543 ls (.int (x + y) :: st) h K := w_any (i := 175) (pc := 542) dL_law_542 rfl rfl
theorem dL_law_543 : decode cL_law 543 = .ok (.iaload, 1) := by decide +kernel
theorem w175_543 {d : Nat} {st : List Value} {h : xH} {K : Option Value → xH → Prop} {ls : xL} {a : Nat} {x : Int32} : wp d 175 543 ls (.int x :: .ref a :: st) h K ↔ y_iald h a x (fun v => wp d 175 544 ls (.int v :: st) h K) := w_iald (i := 175) (pc := 543) dL_law_543
theorem dL_law_544 : decode cL_law 544 = .ok (.invokevirtual 59, 3) := by decide +kernel
theorem w175_544 {d : Nat} {st : List Value} {h : xH} {K : Option Value → xH → Prop} {ls : xL} {a0 : Int32} {a1 : Int32} {b : Nat} : wp (d + 1) 175 544 ls (.int a1 :: .int a0 :: .ref b :: st) h K ↔ y_cls h b 7 ∧ xcs st ≤ 8 ∧ wp d 52 0 [some (.ref b), some (.int a0), some (.int a1), none] [] h (fun v h1 => wp (d + 1) 175 547 ls (v.toList ++ st) h1 K) := w_callW (i := 175) (pc := 544) (as := [.int a0, .int a1]) (rest := st) dL_law_544 rfl (by decide) rfl rfl (by decide) rfl rfl rfl rfl
theorem dL_law_547 : decode cL_law 547 = .ok (.aload_n 2, 1) := by decide +kernel
theorem w175_547 {d : Nat} {st : List Value} {h : xH} {K : Option Value → xH → Prop} {l0 l1 l3 : Option Value} {x : Nat} : wp d 175 547 [l0, l1, some (.ref x), l3] st h K ↔ wp d 175 548 [l0, l1, some (.ref x), l3] (.ref x :: st) h K := w_any (i := 175) (pc := 547) dL_law_547 rfl rfl
theorem w175_547n {d : Nat} {st : List Value} {h : xH} {K : Option Value → xH → Prop} {l0 l1 l3 : Option Value} : wp d 175 547 [l0, l1, some .null, l3] st h K ↔ wp d 175 548 [l0, l1, some .null, l3] (.null :: st) h K := w_any (i := 175) (pc := 547) dL_law_547 rfl rfl
theorem dL_law_548 : decode cL_law 548 = .ok (.aload_n 0, 1) := by decide +kernel
theorem w175_548 {d : Nat} {st : List Value} {h : xH} {K : Option Value → xH → Prop} {l1 l2 l3 : Option Value} {x : Nat} : wp d 175 548 [some (.ref x), l1, l2, l3] st h K ↔ wp d 175 549 [some (.ref x), l1, l2, l3] (.ref x :: st) h K := w_any (i := 175) (pc := 548) dL_law_548 rfl rfl
theorem w175_548n {d : Nat} {st : List Value} {h : xH} {K : Option Value → xH → Prop} {l1 l2 l3 : Option Value} : wp d 175 548 [some .null, l1, l2, l3] st h K ↔ wp d 175 549 [some .null, l1, l2, l3] (.null :: st) h K := w_any (i := 175) (pc := 548) dL_law_548 rfl rfl
theorem dL_law_549 : decode cL_law 549 = .ok (.iload_n 3, 1) := by decide +kernel
theorem w175_549 {d : Nat} {st : List Value} {h : xH} {K : Option Value → xH → Prop} {l0 l1 l2 : Option Value} {x : Int32} : wp d 175 549 [l0, l1, l2, some (.int x)] st h K ↔ wp d 175 550 [l0, l1, l2, some (.int x)] (.int x :: st) h K := w_any (i := 175) (pc := 549) dL_law_549 rfl rfl
theorem dL_law_550 : decode cL_law 550 = .ok (.iconst 1, 1) := by decide +kernel
theorem w175_550 {d : Nat} {st : List Value} {h : xH} {K : Option Value → xH → Prop} {ls : xL} : wp d 175 550 ls st h K ↔ wp d 175 551 ls (.int 1 :: st) h K := w_iconst (i := 175) (pc := 550) dL_law_550 (by decide)
theorem dL_law_551 : decode cL_law 551 = .ok (.iadd, 1) := by decide +kernel
theorem w175_551 {d : Nat} {st : List Value} {h : xH} {K : Option Value → xH → Prop} {ls : xL} {x y : Int32} : wp d 175 551 ls (.int y :: .int x :: st) h K ↔ wp d 175 552 ls (.int (x + y) :: st) h K := w_any (i := 175) (pc := 551) dL_law_551 rfl rfl
theorem dL_law_552 : decode cL_law 552 = .ok (.iaload, 1) := by decide +kernel
theorem w175_552 {d : Nat} {st : List Value} {h : xH} {K : Option Value → xH → Prop} {ls : xL} {a : Nat} {x : Int32} : wp d 175 552 ls (.int x :: .ref a :: st) h K ↔ y_iald h a x (fun v => wp d 175 553 ls (.int v :: st) h K) := w_iald (i := 175) (pc := 552) dL_law_552
theorem dL_law_553 : decode cL_law 553 = .ok (.aload_n 0, 1) := by decide +kernel
theorem w175_553 {d : Nat} {st : List Value} {h : xH} {K : Option Value → xH → Prop} {l1 l2 l3 : Option Value} {x : Nat} : wp d 175 553 [some (.ref x), l1, l2, l3] st h K ↔ wp d 175 554 [some (.ref x), l1, l2, l3] (.ref x :: st) h K := w_any (i := 175) (pc := 553) dL_law_553 rfl rfl
theorem w175_553n {d : Nat} {st : List Value} {h : xH} {K : Option Value → xH → Prop} {l1 l2 l3 : Option Value} : wp d 175 553 [some .null, l1, l2, l3] st h K ↔ wp d 175 554 [some .null, l1, l2, l3] (.null :: st) h K := w_any (i := 175) (pc := 553) dL_law_553 rfl rfl
theorem dL_law_554 : decode cL_law 554 = .ok (.iload_n 3, 1) := by decide +kernel
theorem w175_554 {d : Nat} {st : List Value} {h : xH} {K : Option Value → xH → Prop} {l0 l1 l2 : Option Value} {x : Int32} : wp d 175 554 [l0, l1, l2, some (.int x)] st h K ↔ wp d 175 555 [l0, l1, l2, some (.int x)] (.int x :: st) h K := w_any (i := 175) (pc := 554) dL_law_554 rfl rfl
theorem dL_law_555 : decode cL_law 555 = .ok (.iconst 2, 1) := by decide +kernel
theorem w175_555 {d : Nat} {st : List Value} {h : xH} {K : Option Value → xH → Prop} {ls : xL} : wp d 175 555 ls st h K ↔ wp d 175 556 ls (.int 2 :: st) h K := w_iconst (i := 175) (pc := 555) dL_law_555 (by decide)
theorem dL_law_556 : decode cL_law 556 = .ok (.iadd, 1) := by decide +kernel
theorem w175_556 {d : Nat} {st : List Value} {h : xH} {K : Option Value → xH → Prop} {ls : xL} {x y : Int32} : wp d 175 556 ls (.int y :: .int x :: st) h K ↔ wp d 175 557 ls (.int (x + y) :: st) h K := w_any (i := 175) (pc := 556) dL_law_556 rfl rfl
theorem dL_law_557 : decode cL_law 557 = .ok (.iaload, 1) := by decide +kernel
theorem w175_557 {d : Nat} {st : List Value} {h : xH} {K : Option Value → xH → Prop} {ls : xL} {a : Nat} {x : Int32} : wp d 175 557 ls (.int x :: .ref a :: st) h K ↔ y_iald h a x (fun v => wp d 175 558 ls (.int v :: st) h K) := w_iald (i := 175) (pc := 557) dL_law_557
theorem dL_law_558 : decode cL_law 558 = .ok (.invokevirtual 62, 3) := by decide +kernel
theorem w175_558 {d : Nat} {st : List Value} {h : xH} {K : Option Value → xH → Prop} {ls : xL} {a0 : Int32} {a1 : Int32} {b : Nat} : wp (d + 1) 175 558 ls (.int a1 :: .int a0 :: .ref b :: st) h K ↔ y_cls h b 8 ∧ xcs st ≤ 8 ∧ wp d 124 0 [some (.ref b), some (.int a0), some (.int a1)] [] h (fun v h1 => wp (d + 1) 175 561 ls (v.toList ++ st) h1 K) := w_callW (i := 175) (pc := 558) (as := [.int a0, .int a1]) (rest := st) dL_law_558 rfl (by decide) rfl rfl (by decide) rfl rfl rfl rfl
theorem dL_law_561 : decode cL_law 561 = .ok (.if_icmp .eq 660, 3) := by decide +kernel
theorem w175_561 {d : Nat} {st : List Value} {h : xH} {K : Option Value → xH → Prop} {ls : xL} {x y : Int32} : wp d 175 561 ls (.int y :: .int x :: st) h K ↔ ((x = y) → wp d 175 1221 ls st h K) ∧ ((¬ (x = y)) → wp d 175 564 ls st h K) := w_if2 (i := 175) (pc := 561) (cd := .eq) (off := 660) (tgt := 1221) dL_law_561 (by decide) rfl
theorem dL_law_564 : decode cL_law 564 = .ok (.iconst 0, 1) := by decide +kernel
theorem w175_564 {d : Nat} {st : List Value} {h : xH} {K : Option Value → xH → Prop} {ls : xL} : wp d 175 564 ls st h K ↔ wp d 175 565 ls (.int 0 :: st) h K := w_iconst (i := 175) (pc := 564) dL_law_564 (by decide)
theorem dL_law_565 : decode cL_law 565 = .ok (.ireturn, 1) := by decide +kernel
theorem w175_565 {d : Nat} {h : xH} {K : Option Value → xH → Prop} {ls : xL} {x : Int32} : wp d 175 565 ls [.int x] h K ↔ y_bool x ∧ K (some (.int x)) h := w_zret (i := 175) (pc := 565) dL_law_565 rfl
theorem dL_law_566 : decode cL_law 566 = .ok (.aload_n 1, 1) := by decide +kernel
theorem w175_566 {d : Nat} {st : List Value} {h : xH} {K : Option Value → xH → Prop} {l0 l2 l3 : Option Value} {x : Nat} : wp d 175 566 [l0, some (.ref x), l2, l3] st h K ↔ wp d 175 567 [l0, some (.ref x), l2, l3] (.ref x :: st) h K := w_any (i := 175) (pc := 566) dL_law_566 rfl rfl
theorem w175_566n {d : Nat} {st : List Value} {h : xH} {K : Option Value → xH → Prop} {l0 l2 l3 : Option Value} : wp d 175 566 [l0, some .null, l2, l3] st h K ↔ wp d 175 567 [l0, some .null, l2, l3] (.null :: st) h K := w_any (i := 175) (pc := 566) dL_law_566 rfl rfl
theorem dL_law_567 : decode cL_law 567 = .ok (.aload_n 0, 1) := by decide +kernel
theorem w175_567 {d : Nat} {st : List Value} {h : xH} {K : Option Value → xH → Prop} {l1 l2 l3 : Option Value} {x : Nat} : wp d 175 567 [some (.ref x), l1, l2, l3] st h K ↔ wp d 175 568 [some (.ref x), l1, l2, l3] (.ref x :: st) h K := w_any (i := 175) (pc := 567) dL_law_567 rfl rfl
theorem w175_567n {d : Nat} {st : List Value} {h : xH} {K : Option Value → xH → Prop} {l1 l2 l3 : Option Value} : wp d 175 567 [some .null, l1, l2, l3] st h K ↔ wp d 175 568 [some .null, l1, l2, l3] (.null :: st) h K := w_any (i := 175) (pc := 567) dL_law_567 rfl rfl
theorem dL_law_568 : decode cL_law 568 = .ok (.iload_n 3, 1) := by decide +kernel
theorem w175_568 {d : Nat} {st : List Value} {h : xH} {K : Option Value → xH → Prop} {l0 l1 l2 : Option Value} {x : Int32} : wp d 175 568 [l0, l1, l2, some (.int x)] st h K ↔ wp d 175 569 [l0, l1, l2, some (.int x)] (.int x :: st) h K := w_any (i := 175) (pc := 568) dL_law_568 rfl rfl
theorem dL_law_569 : decode cL_law 569 = .ok (.iconst 1, 1) := by decide +kernel
theorem w175_569 {d : Nat} {st : List Value} {h : xH} {K : Option Value → xH → Prop} {ls : xL} : wp d 175 569 ls st h K ↔ wp d 175 570 ls (.int 1 :: st) h K := w_iconst (i := 175) (pc := 569) dL_law_569 (by decide)
theorem dL_law_570 : decode cL_law 570 = .ok (.iadd, 1) := by decide +kernel
theorem w175_570 {d : Nat} {st : List Value} {h : xH} {K : Option Value → xH → Prop} {ls : xL} {x y : Int32} : wp d 175 570 ls (.int y :: .int x :: st) h K ↔ wp d 175 571 ls (.int (x + y) :: st) h K := w_any (i := 175) (pc := 570) dL_law_570 rfl rfl
theorem dL_law_571 : decode cL_law 571 = .ok (.iaload, 1) := by decide +kernel
theorem w175_571 {d : Nat} {st : List Value} {h : xH} {K : Option Value → xH → Prop} {ls : xL} {a : Nat} {x : Int32} : wp d 175 571 ls (.int x :: .ref a :: st) h K ↔ y_iald h a x (fun v => wp d 175 572 ls (.int v :: st) h K) := w_iald (i := 175) (pc := 571) dL_law_571
theorem dL_law_572 : decode cL_law 572 = .ok (.invokevirtual 63, 3) := by decide +kernel
theorem w175_572 {d : Nat} {st : List Value} {h : xH} {K : Option Value → xH → Prop} {ls : xL} {a0 : Int32} {b : Nat} : wp (d + 1) 175 572 ls (.int a0 :: .ref b :: st) h K ↔ y_cls h b 7 ∧ xcs st ≤ 8 ∧ wp d 53 0 [some (.ref b), some (.int a0), none] [] h (fun v h1 => wp (d + 1) 175 575 ls (v.toList ++ st) h1 K) := w_callW (i := 175) (pc := 572) (as := [.int a0]) (rest := st) dL_law_572 rfl (by decide) rfl rfl (by decide) rfl rfl rfl rfl
theorem dL_law_575 : decode cL_law 575 = .ok (.aload_n 2, 1) := by decide +kernel
theorem w175_575 {d : Nat} {st : List Value} {h : xH} {K : Option Value → xH → Prop} {l0 l1 l3 : Option Value} {x : Nat} : wp d 175 575 [l0, l1, some (.ref x), l3] st h K ↔ wp d 175 576 [l0, l1, some (.ref x), l3] (.ref x :: st) h K := w_any (i := 175) (pc := 575) dL_law_575 rfl rfl
theorem w175_575n {d : Nat} {st : List Value} {h : xH} {K : Option Value → xH → Prop} {l0 l1 l3 : Option Value} : wp d 175 575 [l0, l1, some .null, l3] st h K ↔ wp d 175 576 [l0, l1, some .null, l3] (.null :: st) h K := w_any (i := 175) (pc := 575) dL_law_575 rfl rfl
theorem dL_law_576 : decode cL_law 576 = .ok (.aload_n 0, 1) := by decide +kernel
theorem w175_576 {d : Nat} {st : List Value} {h : xH} {K : Option Value → xH → Prop} {l1 l2 l3 : Option Value} {x : Nat} : wp d 175 576 [some (.ref x), l1, l2, l3] st h K ↔ wp d 175 577 [some (.ref x), l1, l2, l3] (.ref x :: st) h K := w_any (i := 175) (pc := 576) dL_law_576 rfl rfl
theorem w175_576n {d : Nat} {st : List Value} {h : xH} {K : Option Value → xH → Prop} {l1 l2 l3 : Option Value} : wp d 175 576 [some .null, l1, l2, l3] st h K ↔ wp d 175 577 [some .null, l1, l2, l3] (.null :: st) h K := w_any (i := 175) (pc := 576) dL_law_576 rfl rfl
theorem dL_law_577 : decode cL_law 577 = .ok (.iload_n 3, 1) := by decide +kernel
theorem w175_577 {d : Nat} {st : List Value} {h : xH} {K : Option Value → xH → Prop} {l0 l1 l2 : Option Value} {x : Int32} : wp d 175 577 [l0, l1, l2, some (.int x)] st h K ↔ wp d 175 578 [l0, l1, l2, some (.int x)] (.int x :: st) h K := w_any (i := 175) (pc := 577) dL_law_577 rfl rfl
theorem dL_law_578 : decode cL_law 578 = .ok (.iconst 1, 1) := by decide +kernel
theorem w175_578 {d : Nat} {st : List Value} {h : xH} {K : Option Value → xH → Prop} {ls : xL} : wp d 175 578 ls st h K ↔ wp d 175 579 ls (.int 1 :: st) h K := w_iconst (i := 175) (pc := 578) dL_law_578 (by decide)
theorem dL_law_579 : decode cL_law 579 = .ok (.iadd, 1) := by decide +kernel
theorem w175_579 {d : Nat} {st : List Value} {h : xH} {K : Option Value → xH → Prop} {ls : xL} {x y : Int32} : wp d 175 579 ls (.int y :: .int x :: st) h K ↔ wp d 175 580 ls (.int (x + y) :: st) h K := w_any (i := 175) (pc := 579) dL_law_579 rfl rfl
theorem dL_law_580 : decode cL_law 580 = .ok (.iaload, 1) := by decide +kernel
theorem w175_580 {d : Nat} {st : List Value} {h : xH} {K : Option Value → xH → Prop} {ls : xL} {a : Nat} {x : Int32} : wp d 175 580 ls (.int x :: .ref a :: st) h K ↔ y_iald h a x (fun v => wp d 175 581 ls (.int v :: st) h K) := w_iald (i := 175) (pc := 580) dL_law_580
theorem dL_law_581 : decode cL_law 581 = .ok (.invokevirtual 66, 3) := by decide +kernel
theorem w175_581 {d : Nat} {st : List Value} {h : xH} {K : Option Value → xH → Prop} {ls : xL} {a0 : Int32} {b : Nat} : wp (d + 1) 175 581 ls (.int a0 :: .ref b :: st) h K ↔ y_cls h b 8 ∧ xcs st ≤ 8 ∧ wp d 125 0 [some (.ref b), some (.int a0), none, none, none, none] [] h (fun v h1 => wp (d + 1) 175 584 ls (v.toList ++ st) h1 K) := w_callW (i := 175) (pc := 581) (as := [.int a0]) (rest := st) dL_law_581 rfl (by decide) rfl rfl (by decide) rfl rfl rfl rfl
theorem dL_law_584 : decode cL_law 584 = .ok (.if_icmp .eq 637, 3) := by decide +kernel
theorem w175_584 {d : Nat} {st : List Value} {h : xH} {K : Option Value → xH → Prop} {ls : xL} {x y : Int32} : wp d 175 584 ls (.int y :: .int x :: st) h K ↔ ((x = y) → wp d 175 1221 ls st h K) ∧ ((¬ (x = y)) → wp d 175 587 ls st h K) := w_if2 (i := 175) (pc := 584) (cd := .eq) (off := 637) (tgt := 1221) dL_law_584 (by decide) rfl
theorem dL_law_587 : decode cL_law 587 = .ok (.iconst 0, 1) := by decide +kernel
theorem w175_587 {d : Nat} {st : List Value} {h : xH} {K : Option Value → xH → Prop} {ls : xL} : wp d 175 587 ls st h K ↔ wp d 175 588 ls (.int 0 :: st) h K := w_iconst (i := 175) (pc := 587) dL_law_587 (by decide)
theorem dL_law_588 : decode cL_law 588 = .ok (.ireturn, 1) := by decide +kernel
theorem w175_588 {d : Nat} {h : xH} {K : Option Value → xH → Prop} {ls : xL} {x : Int32} : wp d 175 588 ls [.int x] h K ↔ y_bool x ∧ K (some (.int x)) h := w_zret (i := 175) (pc := 588) dL_law_588 rfl
theorem dL_law_589 : decode cL_law 589 = .ok (.aload_n 1, 1) := by decide +kernel
theorem w175_589 {d : Nat} {st : List Value} {h : xH} {K : Option Value → xH → Prop} {l0 l2 l3 : Option Value} {x : Nat} : wp d 175 589 [l0, some (.ref x), l2, l3] st h K ↔ wp d 175 590 [l0, some (.ref x), l2, l3] (.ref x :: st) h K := w_any (i := 175) (pc := 589) dL_law_589 rfl rfl
theorem w175_589n {d : Nat} {st : List Value} {h : xH} {K : Option Value → xH → Prop} {l0 l2 l3 : Option Value} : wp d 175 589 [l0, some .null, l2, l3] st h K ↔ wp d 175 590 [l0, some .null, l2, l3] (.null :: st) h K := w_any (i := 175) (pc := 589) dL_law_589 rfl rfl
theorem dL_law_590 : decode cL_law 590 = .ok (.aload_n 0, 1) := by decide +kernel
theorem w175_590 {d : Nat} {st : List Value} {h : xH} {K : Option Value → xH → Prop} {l1 l2 l3 : Option Value} {x : Nat} : wp d 175 590 [some (.ref x), l1, l2, l3] st h K ↔ wp d 175 591 [some (.ref x), l1, l2, l3] (.ref x :: st) h K := w_any (i := 175) (pc := 590) dL_law_590 rfl rfl
theorem w175_590n {d : Nat} {st : List Value} {h : xH} {K : Option Value → xH → Prop} {l1 l2 l3 : Option Value} : wp d 175 590 [some .null, l1, l2, l3] st h K ↔ wp d 175 591 [some .null, l1, l2, l3] (.null :: st) h K := w_any (i := 175) (pc := 590) dL_law_590 rfl rfl
theorem dL_law_591 : decode cL_law 591 = .ok (.iload_n 3, 1) := by decide +kernel
theorem w175_591 {d : Nat} {st : List Value} {h : xH} {K : Option Value → xH → Prop} {l0 l1 l2 : Option Value} {x : Int32} : wp d 175 591 [l0, l1, l2, some (.int x)] st h K ↔ wp d 175 592 [l0, l1, l2, some (.int x)] (.int x :: st) h K := w_any (i := 175) (pc := 591) dL_law_591 rfl rfl
theorem dL_law_592 : decode cL_law 592 = .ok (.iconst 1, 1) := by decide +kernel
theorem w175_592 {d : Nat} {st : List Value} {h : xH} {K : Option Value → xH → Prop} {ls : xL} : wp d 175 592 ls st h K ↔ wp d 175 593 ls (.int 1 :: st) h K := w_iconst (i := 175) (pc := 592) dL_law_592 (by decide)
theorem dL_law_593 : decode cL_law 593 = .ok (.iadd, 1) := by decide +kernel
theorem w175_593 {d : Nat} {st : List Value} {h : xH} {K : Option Value → xH → Prop} {ls : xL} {x y : Int32} : wp d 175 593 ls (.int y :: .int x :: st) h K ↔ wp d 175 594 ls (.int (x + y) :: st) h K := w_any (i := 175) (pc := 593) dL_law_593 rfl rfl
theorem dL_law_594 : decode cL_law 594 = .ok (.iaload, 1) := by decide +kernel
theorem w175_594 {d : Nat} {st : List Value} {h : xH} {K : Option Value → xH → Prop} {ls : xL} {a : Nat} {x : Int32} : wp d 175 594 ls (.int x :: .ref a :: st) h K ↔ y_iald h a x (fun v => wp d 175 595 ls (.int v :: st) h K) := w_iald (i := 175) (pc := 594) dL_law_594
theorem dL_law_595 : decode cL_law 595 = .ok (.aload_n 0, 1) := by decide +kernel
theorem w175_595 {d : Nat} {st : List Value} {h : xH} {K : Option Value → xH → Prop} {l1 l2 l3 : Option Value} {x : Nat} : wp d 175 595 [some (.ref x), l1, l2, l3] st h K ↔ wp d 175 596 [some (.ref x), l1, l2, l3] (.ref x :: st) h K := w_any (i := 175) (pc := 595) dL_law_595 rfl rfl
theorem w175_595n {d : Nat} {st : List Value} {h : xH} {K : Option Value → xH → Prop} {l1 l2 l3 : Option Value} : wp d 175 595 [some .null, l1, l2, l3] st h K ↔ wp d 175 596 [some .null, l1, l2, l3] (.null :: st) h K := w_any (i := 175) (pc := 595) dL_law_595 rfl rfl
theorem dL_law_596 : decode cL_law 596 = .ok (.iload_n 3, 1) := by decide +kernel
theorem w175_596 {d : Nat} {st : List Value} {h : xH} {K : Option Value → xH → Prop} {l0 l1 l2 : Option Value} {x : Int32} : wp d 175 596 [l0, l1, l2, some (.int x)] st h K ↔ wp d 175 597 [l0, l1, l2, some (.int x)] (.int x :: st) h K := w_any (i := 175) (pc := 596) dL_law_596 rfl rfl
theorem dL_law_597 : decode cL_law 597 = .ok (.iconst 2, 1) := by decide +kernel
theorem w175_597 {d : Nat} {st : List Value} {h : xH} {K : Option Value → xH → Prop} {ls : xL} : wp d 175 597 ls st h K ↔ wp d 175 598 ls (.int 2 :: st) h K := w_iconst (i := 175) (pc := 597) dL_law_597 (by decide)
theorem dL_law_598 : decode cL_law 598 = .ok (.iadd, 1) := by decide +kernel
theorem w175_598 {d : Nat} {st : List Value} {h : xH} {K : Option Value → xH → Prop} {ls : xL} {x y : Int32} : wp d 175 598 ls (.int y :: .int x :: st) h K ↔ wp d 175 599 ls (.int (x + y) :: st) h K := w_any (i := 175) (pc := 598) dL_law_598 rfl rfl
theorem dL_law_599 : decode cL_law 599 = .ok (.iaload, 1) := by decide +kernel
theorem w175_599 {d : Nat} {st : List Value} {h : xH} {K : Option Value → xH → Prop} {ls : xL} {a : Nat} {x : Int32} : wp d 175 599 ls (.int x :: .ref a :: st) h K ↔ y_iald h a x (fun v => wp d 175 600 ls (.int v :: st) h K) := w_iald (i := 175) (pc := 599) dL_law_599
theorem dL_law_600 : decode cL_law 600 = .ok (.invokevirtual 67, 3) := by decide +kernel
theorem w175_600 {d : Nat} {st : List Value} {h : xH} {K : Option Value → xH → Prop} {ls : xL} {a0 : Int32} {a1 : Int32} {b : Nat} : wp (d + 1) 175 600 ls (.int a1 :: .int a0 :: .ref b :: st) h K ↔ y_cls h b 7 ∧ xcs st ≤ 8 ∧ wp d 54 0 [some (.ref b), some (.int a0), some (.int a1), none, none, none, none, none, none] [] h (fun v h1 => wp (d + 1) 175 603 ls (v.toList ++ st) h1 K) := w_callW (i := 175) (pc := 600) (as := [.int a0, .int a1]) (rest := st) dL_law_600 rfl (by decide) rfl rfl (by decide) rfl rfl rfl rfl
theorem dL_law_603 : decode cL_law 603 = .ok (.aload_n 2, 1) := by decide +kernel
theorem w175_603 {d : Nat} {st : List Value} {h : xH} {K : Option Value → xH → Prop} {l0 l1 l3 : Option Value} {x : Nat} : wp d 175 603 [l0, l1, some (.ref x), l3] st h K ↔ wp d 175 604 [l0, l1, some (.ref x), l3] (.ref x :: st) h K := w_any (i := 175) (pc := 603) dL_law_603 rfl rfl
theorem w175_603n {d : Nat} {st : List Value} {h : xH} {K : Option Value → xH → Prop} {l0 l1 l3 : Option Value} : wp d 175 603 [l0, l1, some .null, l3] st h K ↔ wp d 175 604 [l0, l1, some .null, l3] (.null :: st) h K := w_any (i := 175) (pc := 603) dL_law_603 rfl rfl
theorem dL_law_604 : decode cL_law 604 = .ok (.aload_n 0, 1) := by decide +kernel
theorem w175_604 {d : Nat} {st : List Value} {h : xH} {K : Option Value → xH → Prop} {l1 l2 l3 : Option Value} {x : Nat} : wp d 175 604 [some (.ref x), l1, l2, l3] st h K ↔ wp d 175 605 [some (.ref x), l1, l2, l3] (.ref x :: st) h K := w_any (i := 175) (pc := 604) dL_law_604 rfl rfl
theorem w175_604n {d : Nat} {st : List Value} {h : xH} {K : Option Value → xH → Prop} {l1 l2 l3 : Option Value} : wp d 175 604 [some .null, l1, l2, l3] st h K ↔ wp d 175 605 [some .null, l1, l2, l3] (.null :: st) h K := w_any (i := 175) (pc := 604) dL_law_604 rfl rfl
theorem dL_law_605 : decode cL_law 605 = .ok (.iload_n 3, 1) := by decide +kernel
theorem w175_605 {d : Nat} {st : List Value} {h : xH} {K : Option Value → xH → Prop} {l0 l1 l2 : Option Value} {x : Int32} : wp d 175 605 [l0, l1, l2, some (.int x)] st h K ↔ wp d 175 606 [l0, l1, l2, some (.int x)] (.int x :: st) h K := w_any (i := 175) (pc := 605) dL_law_605 rfl rfl
theorem dL_law_606 : decode cL_law 606 = .ok (.iconst 1, 1) := by decide +kernel
theorem w175_606 {d : Nat} {st : List Value} {h : xH} {K : Option Value → xH → Prop} {ls : xL} : wp d 175 606 ls st h K ↔ wp d 175 607 ls (.int 1 :: st) h K := w_iconst (i := 175) (pc := 606) dL_law_606 (by decide)
theorem dL_law_607 : decode cL_law 607 = .ok (.iadd, 1) := by decide +kernel
theorem w175_607 {d : Nat} {st : List Value} {h : xH} {K : Option Value → xH → Prop} {ls : xL} {x y : Int32} : wp d 175 607 ls (.int y :: .int x :: st) h K ↔ wp d 175 608 ls (.int (x + y) :: st) h K := w_any (i := 175) (pc := 607) dL_law_607 rfl rfl
theorem dL_law_608 : decode cL_law 608 = .ok (.iaload, 1) := by decide +kernel
theorem w175_608 {d : Nat} {st : List Value} {h : xH} {K : Option Value → xH → Prop} {ls : xL} {a : Nat} {x : Int32} : wp d 175 608 ls (.int x :: .ref a :: st) h K ↔ y_iald h a x (fun v => wp d 175 609 ls (.int v :: st) h K) := w_iald (i := 175) (pc := 608) dL_law_608
theorem dL_law_609 : decode cL_law 609 = .ok (.aload_n 0, 1) := by decide +kernel
theorem w175_609 {d : Nat} {st : List Value} {h : xH} {K : Option Value → xH → Prop} {l1 l2 l3 : Option Value} {x : Nat} : wp d 175 609 [some (.ref x), l1, l2, l3] st h K ↔ wp d 175 610 [some (.ref x), l1, l2, l3] (.ref x :: st) h K := w_any (i := 175) (pc := 609) dL_law_609 rfl rfl
theorem w175_609n {d : Nat} {st : List Value} {h : xH} {K : Option Value → xH → Prop} {l1 l2 l3 : Option Value} : wp d 175 609 [some .null, l1, l2, l3] st h K ↔ wp d 175 610 [some .null, l1, l2, l3] (.null :: st) h K := w_any (i := 175) (pc := 609) dL_law_609 rfl rfl
theorem dL_law_610 : decode cL_law 610 = .ok (.iload_n 3, 1) := by decide +kernel
theorem w175_610 {d : Nat} {st : List Value} {h : xH} {K : Option Value → xH → Prop} {l0 l1 l2 : Option Value} {x : Int32} : wp d 175 610 [l0, l1, l2, some (.int x)] st h K ↔ wp d 175 611 [l0, l1, l2, some (.int x)] (.int x :: st) h K := w_any (i := 175) (pc := 610) dL_law_610 rfl rfl
theorem dL_law_611 : decode cL_law 611 = .ok (.iconst 2, 1) := by decide +kernel
theorem w175_611 {d : Nat} {st : List Value} {h : xH} {K : Option Value → xH → Prop} {ls : xL} : wp d 175 611 ls st h K ↔ wp d 175 612 ls (.int 2 :: st) h K := w_iconst (i := 175) (pc := 611) dL_law_611 (by decide)
theorem dL_law_612 : decode cL_law 612 = .ok (.iadd, 1) := by decide +kernel
theorem w175_612 {d : Nat} {st : List Value} {h : xH} {K : Option Value → xH → Prop} {ls : xL} {x y : Int32} : wp d 175 612 ls (.int y :: .int x :: st) h K ↔ wp d 175 613 ls (.int (x + y) :: st) h K := w_any (i := 175) (pc := 612) dL_law_612 rfl rfl
theorem dL_law_613 : decode cL_law 613 = .ok (.iaload, 1) := by decide +kernel
theorem w175_613 {d : Nat} {st : List Value} {h : xH} {K : Option Value → xH → Prop} {ls : xL} {a : Nat} {x : Int32} : wp d 175 613 ls (.int x :: .ref a :: st) h K ↔ y_iald h a x (fun v => wp d 175 614 ls (.int v :: st) h K) := w_iald (i := 175) (pc := 613) dL_law_613
theorem dL_law_614 : decode cL_law 614 = .ok (.invokevirtual 70, 3) := by decide +kernel
theorem w175_614 {d : Nat} {st : List Value} {h : xH} {K : Option Value → xH → Prop} {ls : xL} {a0 : Int32} {a1 : Int32} {b : Nat} : wp (d + 1) 175 614 ls (.int a1 :: .int a0 :: .ref b :: st) h K ↔ y_cls h b 8 ∧ xcs st ≤ 8 ∧ wp d 127 0 [some (.ref b), some (.int a0), some (.int a1), none, none, none, none, none] [] h (fun v h1 => wp (d + 1) 175 617 ls (v.toList ++ st) h1 K) := w_callW (i := 175) (pc := 614) (as := [.int a0, .int a1]) (rest := st) dL_law_614 rfl (by decide) rfl rfl (by decide) rfl rfl rfl rfl
theorem dL_law_617 : decode cL_law 617 = .ok (.if_icmp .eq 604, 3) := by decide +kernel
theorem w175_617 {d : Nat} {st : List Value} {h : xH} {K : Option Value → xH → Prop} {ls : xL} {x y : Int32} : wp d 175 617 ls (.int y :: .int x :: st) h K ↔ ((x = y) → wp d 175 1221 ls st h K) ∧ ((¬ (x = y)) → wp d 175 620 ls st h K) := w_if2 (i := 175) (pc := 617) (cd := .eq) (off := 604) (tgt := 1221) dL_law_617 (by decide) rfl
theorem dL_law_620 : decode cL_law 620 = .ok (.iconst 0, 1) := by decide +kernel
theorem w175_620 {d : Nat} {st : List Value} {h : xH} {K : Option Value → xH → Prop} {ls : xL} : wp d 175 620 ls st h K ↔ wp d 175 621 ls (.int 0 :: st) h K := w_iconst (i := 175) (pc := 620) dL_law_620 (by decide)
theorem dL_law_621 : decode cL_law 621 = .ok (.ireturn, 1) := by decide +kernel
theorem w175_621 {d : Nat} {h : xH} {K : Option Value → xH → Prop} {ls : xL} {x : Int32} : wp d 175 621 ls [.int x] h K ↔ y_bool x ∧ K (some (.int x)) h := w_zret (i := 175) (pc := 621) dL_law_621 rfl
theorem dL_law_622 : decode cL_law 622 = .ok (.aload_n 1, 1) := by decide +kernel
theorem w175_622 {d : Nat} {st : List Value} {h : xH} {K : Option Value → xH → Prop} {l0 l2 l3 : Option Value} {x : Nat} : wp d 175 622 [l0, some (.ref x), l2, l3] st h K ↔ wp d 175 623 [l0, some (.ref x), l2, l3] (.ref x :: st) h K := w_any (i := 175) (pc := 622) dL_law_622 rfl rfl
theorem w175_622n {d : Nat} {st : List Value} {h : xH} {K : Option Value → xH → Prop} {l0 l2 l3 : Option Value} : wp d 175 622 [l0, some .null, l2, l3] st h K ↔ wp d 175 623 [l0, some .null, l2, l3] (.null :: st) h K := w_any (i := 175) (pc := 622) dL_law_622 rfl rfl
theorem dL_law_623 : decode cL_law 623 = .ok (.aload_n 0, 1) := by decide +kernel
theorem w175_623 {d : Nat} {st : List Value} {h : xH} {K : Option Value → xH → Prop} {l1 l2 l3 : Option Value} {x : Nat} : wp d 175 623 [some (.ref x), l1, l2, l3] st h K ↔ wp d 175 624 [some (.ref x), l1, l2, l3] (.ref x :: st) h K := w_any (i := 175) (pc := 623) dL_law_623 rfl rfl
theorem w175_623n {d : Nat} {st : List Value} {h : xH} {K : Option Value → xH → Prop} {l1 l2 l3 : Option Value} : wp d 175 623 [some .null, l1, l2, l3] st h K ↔ wp d 175 624 [some .null, l1, l2, l3] (.null :: st) h K := w_any (i := 175) (pc := 623) dL_law_623 rfl rfl
theorem dL_law_624 : decode cL_law 624 = .ok (.iload_n 3, 1) := by decide +kernel
theorem w175_624 {d : Nat} {st : List Value} {h : xH} {K : Option Value → xH → Prop} {l0 l1 l2 : Option Value} {x : Int32} : wp d 175 624 [l0, l1, l2, some (.int x)] st h K ↔ wp d 175 625 [l0, l1, l2, some (.int x)] (.int x :: st) h K := w_any (i := 175) (pc := 624) dL_law_624 rfl rfl
theorem dL_law_625 : decode cL_law 625 = .ok (.iconst 1, 1) := by decide +kernel
theorem w175_625 {d : Nat} {st : List Value} {h : xH} {K : Option Value → xH → Prop} {ls : xL} : wp d 175 625 ls st h K ↔ wp d 175 626 ls (.int 1 :: st) h K := w_iconst (i := 175) (pc := 625) dL_law_625 (by decide)
theorem dL_law_626 : decode cL_law 626 = .ok (.iadd, 1) := by decide +kernel
theorem w175_626 {d : Nat} {st : List Value} {h : xH} {K : Option Value → xH → Prop} {ls : xL} {x y : Int32} : wp d 175 626 ls (.int y :: .int x :: st) h K ↔ wp d 175 627 ls (.int (x + y) :: st) h K := w_any (i := 175) (pc := 626) dL_law_626 rfl rfl
theorem dL_law_627 : decode cL_law 627 = .ok (.iaload, 1) := by decide +kernel
theorem w175_627 {d : Nat} {st : List Value} {h : xH} {K : Option Value → xH → Prop} {ls : xL} {a : Nat} {x : Int32} : wp d 175 627 ls (.int x :: .ref a :: st) h K ↔ y_iald h a x (fun v => wp d 175 628 ls (.int v :: st) h K) := w_iald (i := 175) (pc := 627) dL_law_627
theorem dL_law_628 : decode cL_law 628 = .ok (.aload_n 0, 1) := by decide +kernel
theorem w175_628 {d : Nat} {st : List Value} {h : xH} {K : Option Value → xH → Prop} {l1 l2 l3 : Option Value} {x : Nat} : wp d 175 628 [some (.ref x), l1, l2, l3] st h K ↔ wp d 175 629 [some (.ref x), l1, l2, l3] (.ref x :: st) h K := w_any (i := 175) (pc := 628) dL_law_628 rfl rfl
theorem w175_628n {d : Nat} {st : List Value} {h : xH} {K : Option Value → xH → Prop} {l1 l2 l3 : Option Value} : wp d 175 628 [some .null, l1, l2, l3] st h K ↔ wp d 175 629 [some .null, l1, l2, l3] (.null :: st) h K := w_any (i := 175) (pc := 628) dL_law_628 rfl rfl
theorem dL_law_629 : decode cL_law 629 = .ok (.iload_n 3, 1) := by decide +kernel
theorem w175_629 {d : Nat} {st : List Value} {h : xH} {K : Option Value → xH → Prop} {l0 l1 l2 : Option Value} {x : Int32} : wp d 175 629 [l0, l1, l2, some (.int x)] st h K ↔ wp d 175 630 [l0, l1, l2, some (.int x)] (.int x :: st) h K := w_any (i := 175) (pc := 629) dL_law_629 rfl rfl
theorem dL_law_630 : decode cL_law 630 = .ok (.iconst 2, 1) := by decide +kernel
theorem w175_630 {d : Nat} {st : List Value} {h : xH} {K : Option Value → xH → Prop} {ls : xL} : wp d 175 630 ls st h K ↔ wp d 175 631 ls (.int 2 :: st) h K := w_iconst (i := 175) (pc := 630) dL_law_630 (by decide)
theorem dL_law_631 : decode cL_law 631 = .ok (.iadd, 1) := by decide +kernel
theorem w175_631 {d : Nat} {st : List Value} {h : xH} {K : Option Value → xH → Prop} {ls : xL} {x y : Int32} : wp d 175 631 ls (.int y :: .int x :: st) h K ↔ wp d 175 632 ls (.int (x + y) :: st) h K := w_any (i := 175) (pc := 631) dL_law_631 rfl rfl
theorem dL_law_632 : decode cL_law 632 = .ok (.iaload, 1) := by decide +kernel
theorem w175_632 {d : Nat} {st : List Value} {h : xH} {K : Option Value → xH → Prop} {ls : xL} {a : Nat} {x : Int32} : wp d 175 632 ls (.int x :: .ref a :: st) h K ↔ y_iald h a x (fun v => wp d 175 633 ls (.int v :: st) h K) := w_iald (i := 175) (pc := 632) dL_law_632
theorem dL_law_633 : decode cL_law 633 = .ok (.invokevirtual 71, 3) := by decide +kernel
theorem w175_633 {d : Nat} {st : List Value} {h : xH} {K : Option Value → xH → Prop} {ls : xL} {a0 : Int32} {a1 : Int32} {b : Nat} : wp (d + 1) 175 633 ls (.int a1 :: .int a0 :: .ref b :: st) h K ↔ y_cls h b 7 ∧ xcs st ≤ 8 ∧ wp d 55 0 [some (.ref b), some (.int a0), some (.int a1)] [] h (fun v h1 => wp (d + 1) 175 636 ls (v.toList ++ st) h1 K) := w_callW (i := 175) (pc := 633) (as := [.int a0, .int a1]) (rest := st) dL_law_633 rfl (by decide) rfl rfl (by decide) rfl rfl rfl rfl
theorem dL_law_636 : decode cL_law 636 = .ok (.aload_n 2, 1) := by decide +kernel
theorem w175_636 {d : Nat} {st : List Value} {h : xH} {K : Option Value → xH → Prop} {l0 l1 l3 : Option Value} {x : Nat} : wp d 175 636 [l0, l1, some (.ref x), l3] st h K ↔ wp d 175 637 [l0, l1, some (.ref x), l3] (.ref x :: st) h K := w_any (i := 175) (pc := 636) dL_law_636 rfl rfl
theorem w175_636n {d : Nat} {st : List Value} {h : xH} {K : Option Value → xH → Prop} {l0 l1 l3 : Option Value} : wp d 175 636 [l0, l1, some .null, l3] st h K ↔ wp d 175 637 [l0, l1, some .null, l3] (.null :: st) h K := w_any (i := 175) (pc := 636) dL_law_636 rfl rfl
theorem dL_law_637 : decode cL_law 637 = .ok (.aload_n 0, 1) := by decide +kernel
theorem w175_637 {d : Nat} {st : List Value} {h : xH} {K : Option Value → xH → Prop} {l1 l2 l3 : Option Value} {x : Nat} : wp d 175 637 [some (.ref x), l1, l2, l3] st h K ↔ wp d 175 638 [some (.ref x), l1, l2, l3] (.ref x :: st) h K := w_any (i := 175) (pc := 637) dL_law_637 rfl rfl
theorem w175_637n {d : Nat} {st : List Value} {h : xH} {K : Option Value → xH → Prop} {l1 l2 l3 : Option Value} : wp d 175 637 [some .null, l1, l2, l3] st h K ↔ wp d 175 638 [some .null, l1, l2, l3] (.null :: st) h K := w_any (i := 175) (pc := 637) dL_law_637 rfl rfl
theorem dL_law_638 : decode cL_law 638 = .ok (.iload_n 3, 1) := by decide +kernel
theorem w175_638 {d : Nat} {st : List Value} {h : xH} {K : Option Value → xH → Prop} {l0 l1 l2 : Option Value} {x : Int32} : wp d 175 638 [l0, l1, l2, some (.int x)] st h K ↔ wp d 175 639 [l0, l1, l2, some (.int x)] (.int x :: st) h K := w_any (i := 175) (pc := 638) dL_law_638 rfl rfl
theorem dL_law_639 : decode cL_law 639 = .ok (.iconst 1, 1) := by decide +kernel
theorem w175_639 {d : Nat} {st : List Value} {h : xH} {K : Option Value → xH → Prop} {ls : xL} : wp d 175 639 ls st h K ↔ wp d 175 640 ls (.int 1 :: st) h K := w_iconst (i := 175) (pc := 639) dL_law_639 (by decide)
theorem dL_law_640 : decode cL_law 640 = .ok (.iadd, 1) := by decide +kernel
theorem w175_640 {d : Nat} {st : List Value} {h : xH} {K : Option Value → xH → Prop} {ls : xL} {x y : Int32} : wp d 175 640 ls (.int y :: .int x :: st) h K ↔ wp d 175 641 ls (.int (x + y) :: st) h K := w_any (i := 175) (pc := 640) dL_law_640 rfl rfl
theorem dL_law_641 : decode cL_law 641 = .ok (.iaload, 1) := by decide +kernel
theorem w175_641 {d : Nat} {st : List Value} {h : xH} {K : Option Value → xH → Prop} {ls : xL} {a : Nat} {x : Int32} : wp d 175 641 ls (.int x :: .ref a :: st) h K ↔ y_iald h a x (fun v => wp d 175 642 ls (.int v :: st) h K) := w_iald (i := 175) (pc := 641) dL_law_641
theorem dL_law_642 : decode cL_law 642 = .ok (.aload_n 0, 1) := by decide +kernel
theorem w175_642 {d : Nat} {st : List Value} {h : xH} {K : Option Value → xH → Prop} {l1 l2 l3 : Option Value} {x : Nat} : wp d 175 642 [some (.ref x), l1, l2, l3] st h K ↔ wp d 175 643 [some (.ref x), l1, l2, l3] (.ref x :: st) h K := w_any (i := 175) (pc := 642) dL_law_642 rfl rfl
theorem w175_642n {d : Nat} {st : List Value} {h : xH} {K : Option Value → xH → Prop} {l1 l2 l3 : Option Value} : wp d 175 642 [some .null, l1, l2, l3] st h K ↔ wp d 175 643 [some .null, l1, l2, l3] (.null :: st) h K := w_any (i := 175) (pc := 642) dL_law_642 rfl rfl
theorem dL_law_643 : decode cL_law 643 = .ok (.iload_n 3, 1) := by decide +kernel
theorem w175_643 {d : Nat} {st : List Value} {h : xH} {K : Option Value → xH → Prop} {l0 l1 l2 : Option Value} {x : Int32} : wp d 175 643 [l0, l1, l2, some (.int x)] st h K ↔ wp d 175 644 [l0, l1, l2, some (.int x)] (.int x :: st) h K := w_any (i := 175) (pc := 643) dL_law_643 rfl rfl
theorem dL_law_644 : decode cL_law 644 = .ok (.iconst 2, 1) := by decide +kernel
theorem w175_644 {d : Nat} {st : List Value} {h : xH} {K : Option Value → xH → Prop} {ls : xL} : wp d 175 644 ls st h K ↔ wp d 175 645 ls (.int 2 :: st) h K := w_iconst (i := 175) (pc := 644) dL_law_644 (by decide)
theorem dL_law_645 : decode cL_law 645 = .ok (.iadd, 1) := by decide +kernel
theorem w175_645 {d : Nat} {st : List Value} {h : xH} {K : Option Value → xH → Prop} {ls : xL} {x y : Int32} : wp d 175 645 ls (.int y :: .int x :: st) h K ↔ wp d 175 646 ls (.int (x + y) :: st) h K := w_any (i := 175) (pc := 645) dL_law_645 rfl rfl
theorem dL_law_646 : decode cL_law 646 = .ok (.iaload, 1) := by decide +kernel
theorem w175_646 {d : Nat} {st : List Value} {h : xH} {K : Option Value → xH → Prop} {ls : xL} {a : Nat} {x : Int32} : wp d 175 646 ls (.int x :: .ref a :: st) h K ↔ y_iald h a x (fun v => wp d 175 647 ls (.int v :: st) h K) := w_iald (i := 175) (pc := 646) dL_law_646
theorem dL_law_647 : decode cL_law 647 = .ok (.invokevirtual 74, 3) := by decide +kernel
theorem w175_647 {d : Nat} {st : List Value} {h : xH} {K : Option Value → xH → Prop} {ls : xL} {a0 : Int32} {a1 : Int32} {b : Nat} : wp (d + 1) 175 647 ls (.int a1 :: .int a0 :: .ref b :: st) h K ↔ y_cls h b 8 ∧ xcs st ≤ 8 ∧ wp d 129 0 [some (.ref b), some (.int a0), some (.int a1)] [] h (fun v h1 => wp (d + 1) 175 650 ls (v.toList ++ st) h1 K) := w_callW (i := 175) (pc := 647) (as := [.int a0, .int a1]) (rest := st) dL_law_647 rfl (by decide) rfl rfl (by decide) rfl rfl rfl rfl
theorem dL_law_650 : decode cL_law 650 = .ok (.if_icmp .eq 571, 3) := by decide +kernel
theorem w175_650 {d : Nat} {st : List Value} {h : xH} {K : Option Value → xH → Prop} {ls : xL} {x y : Int32} : wp d 175 650 ls (.int y :: .int x :: st) h K ↔ ((x = y) → wp d 175 1221 ls st h K) ∧ ((¬ (x = y)) → wp d 175 653 ls st h K) := w_if2 (i := 175) (pc := 650) (cd := .eq) (off := 571) (tgt := 1221) dL_law_650 (by decide) rfl
theorem dL_law_653 : decode cL_law 653 = .ok (.iconst 0, 1) := by decide +kernel
theorem w175_653 {d : Nat} {st : List Value} {h : xH} {K : Option Value → xH → Prop} {ls : xL} : wp d 175 653 ls st h K ↔ wp d 175 654 ls (.int 0 :: st) h K := w_iconst (i := 175) (pc := 653) dL_law_653 (by decide)
theorem dL_law_654 : decode cL_law 654 = .ok (.ireturn, 1) := by decide +kernel
theorem w175_654 {d : Nat} {h : xH} {K : Option Value → xH → Prop} {ls : xL} {x : Int32} : wp d 175 654 ls [.int x] h K ↔ y_bool x ∧ K (some (.int x)) h := w_zret (i := 175) (pc := 654) dL_law_654 rfl
theorem dL_law_655 : decode cL_law 655 = .ok (.aload_n 1, 1) := by decide +kernel
theorem w175_655 {d : Nat} {st : List Value} {h : xH} {K : Option Value → xH → Prop} {l0 l2 l3 : Option Value} {x : Nat} : wp d 175 655 [l0, some (.ref x), l2, l3] st h K ↔ wp d 175 656 [l0, some (.ref x), l2, l3] (.ref x :: st) h K := w_any (i := 175) (pc := 655) dL_law_655 rfl rfl
theorem w175_655n {d : Nat} {st : List Value} {h : xH} {K : Option Value → xH → Prop} {l0 l2 l3 : Option Value} : wp d 175 655 [l0, some .null, l2, l3] st h K ↔ wp d 175 656 [l0, some .null, l2, l3] (.null :: st) h K := w_any (i := 175) (pc := 655) dL_law_655 rfl rfl
theorem dL_law_656 : decode cL_law 656 = .ok (.aload_n 0, 1) := by decide +kernel
theorem w175_656 {d : Nat} {st : List Value} {h : xH} {K : Option Value → xH → Prop} {l1 l2 l3 : Option Value} {x : Nat} : wp d 175 656 [some (.ref x), l1, l2, l3] st h K ↔ wp d 175 657 [some (.ref x), l1, l2, l3] (.ref x :: st) h K := w_any (i := 175) (pc := 656) dL_law_656 rfl rfl
theorem w175_656n {d : Nat} {st : List Value} {h : xH} {K : Option Value → xH → Prop} {l1 l2 l3 : Option Value} : wp d 175 656 [some .null, l1, l2, l3] st h K ↔ wp d 175 657 [some .null, l1, l2, l3] (.null :: st) h K := w_any (i := 175) (pc := 656) dL_law_656 rfl rfl
theorem dL_law_657 : decode cL_law 657 = .ok (.iload_n 3, 1) := by decide +kernel
theorem w175_657 {d : Nat} {st : List Value} {h : xH} {K : Option Value → xH → Prop} {l0 l1 l2 : Option Value} {x : Int32} : wp d 175 657 [l0, l1, l2, some (.int x)] st h K ↔ wp d 175 658 [l0, l1, l2, some (.int x)] (.int x :: st) h K := w_any (i := 175) (pc := 657) dL_law_657 rfl rfl
theorem dL_law_658 : decode cL_law 658 = .ok (.iconst 1, 1) := by decide +kernel
theorem w175_658 {d : Nat} {st : List Value} {h : xH} {K : Option Value → xH → Prop} {ls : xL} : wp d 175 658 ls st h K ↔ wp d 175 659 ls (.int 1 :: st) h K := w_iconst (i := 175) (pc := 658) dL_law_658 (by decide)
theorem dL_law_659 : decode cL_law 659 = .ok (.iadd, 1) := by decide +kernel
theorem w175_659 {d : Nat} {st : List Value} {h : xH} {K : Option Value → xH → Prop} {ls : xL} {x y : Int32} : wp d 175 659 ls (.int y :: .int x :: st) h K ↔ wp d 175 660 ls (.int (x + y) :: st) h K := w_any (i := 175) (pc := 659) dL_law_659 rfl rfl
theorem dL_law_660 : decode cL_law 660 = .ok (.iaload, 1) := by decide +kernel
theorem w175_660 {d : Nat} {st : List Value} {h : xH} {K : Option Value → xH → Prop} {ls : xL} {a : Nat} {x : Int32} : wp d 175 660 ls (.int x :: .ref a :: st) h K ↔ y_iald h a x (fun v => wp d 175 661 ls (.int v :: st) h K) := w_iald (i := 175) (pc := 660) dL_law_660
theorem dL_law_661 : decode cL_law 661 = .ok (.aload_n 0, 1) := by decide +kernel
theorem w175_661 {d : Nat} {st : List Value} {h : xH} {K : Option Value → xH → Prop} {l1 l2 l3 : Option Value} {x : Nat} : wp d 175 661 [some (.ref x), l1, l2, l3] st h K ↔ wp d 175 662 [some (.ref x), l1, l2, l3] (.ref x :: st) h K := w_any (i := 175) (pc := 661) dL_law_661 rfl rfl
theorem w175_661n {d : Nat} {st : List Value} {h : xH} {K : Option Value → xH → Prop} {l1 l2 l3 : Option Value} : wp d 175 661 [some .null, l1, l2, l3] st h K ↔ wp d 175 662 [some .null, l1, l2, l3] (.null :: st) h K := w_any (i := 175) (pc := 661) dL_law_661 rfl rfl
theorem dL_law_662 : decode cL_law 662 = .ok (.iload_n 3, 1) := by decide +kernel
theorem w175_662 {d : Nat} {st : List Value} {h : xH} {K : Option Value → xH → Prop} {l0 l1 l2 : Option Value} {x : Int32} : wp d 175 662 [l0, l1, l2, some (.int x)] st h K ↔ wp d 175 663 [l0, l1, l2, some (.int x)] (.int x :: st) h K := w_any (i := 175) (pc := 662) dL_law_662 rfl rfl
theorem dL_law_663 : decode cL_law 663 = .ok (.iconst 2, 1) := by decide +kernel
theorem w175_663 {d : Nat} {st : List Value} {h : xH} {K : Option Value → xH → Prop} {ls : xL} : wp d 175 663 ls st h K ↔ wp d 175 664 ls (.int 2 :: st) h K := w_iconst (i := 175) (pc := 663) dL_law_663 (by decide)
theorem dL_law_664 : decode cL_law 664 = .ok (.iadd, 1) := by decide +kernel
theorem w175_664 {d : Nat} {st : List Value} {h : xH} {K : Option Value → xH → Prop} {ls : xL} {x y : Int32} : wp d 175 664 ls (.int y :: .int x :: st) h K ↔ wp d 175 665 ls (.int (x + y) :: st) h K := w_any (i := 175) (pc := 664) dL_law_664 rfl rfl
theorem dL_law_665 : decode cL_law 665 = .ok (.iaload, 1) := by decide +kernel
theorem w175_665 {d : Nat} {st : List Value} {h : xH} {K : Option Value → xH → Prop} {ls : xL} {a : Nat} {x : Int32} : wp d 175 665 ls (.int x :: .ref a :: st) h K ↔ y_iald h a x (fun v => wp d 175 666 ls (.int v :: st) h K) := w_iald (i := 175) (pc := 665) dL_law_665
theorem dL_law_666 : decode cL_law 666 = .ok (.invokevirtual 75, 3) := by decide +kernel
theorem w175_666 {d : Nat} {st : List Value} {h : xH} {K : Option Value → xH → Prop} {ls : xL} {a0 : Int32} {a1 : Int32} {b : Nat} : wp (d + 1) 175 666 ls (.int a1 :: .int a0 :: .ref b :: st) h K ↔ y_cls h b 7 ∧ xcs st ≤ 8 ∧ wp d 56 0 [some (.ref b), some (.int a0), some (.int a1)] [] h (fun v h1 => wp (d + 1) 175 669 ls (v.toList ++ st) h1 K) := w_callW (i := 175) (pc := 666) (as := [.int a0, .int a1]) (rest := st) dL_law_666 rfl (by decide) rfl rfl (by decide) rfl rfl rfl rfl
theorem dL_law_669 : decode cL_law 669 = .ok (.aload_n 2, 1) := by decide +kernel
theorem w175_669 {d : Nat} {st : List Value} {h : xH} {K : Option Value → xH → Prop} {l0 l1 l3 : Option Value} {x : Nat} : wp d 175 669 [l0, l1, some (.ref x), l3] st h K ↔ wp d 175 670 [l0, l1, some (.ref x), l3] (.ref x :: st) h K := w_any (i := 175) (pc := 669) dL_law_669 rfl rfl
theorem w175_669n {d : Nat} {st : List Value} {h : xH} {K : Option Value → xH → Prop} {l0 l1 l3 : Option Value} : wp d 175 669 [l0, l1, some .null, l3] st h K ↔ wp d 175 670 [l0, l1, some .null, l3] (.null :: st) h K := w_any (i := 175) (pc := 669) dL_law_669 rfl rfl
theorem dL_law_670 : decode cL_law 670 = .ok (.aload_n 0, 1) := by decide +kernel
theorem w175_670 {d : Nat} {st : List Value} {h : xH} {K : Option Value → xH → Prop} {l1 l2 l3 : Option Value} {x : Nat} : wp d 175 670 [some (.ref x), l1, l2, l3] st h K ↔ wp d 175 671 [some (.ref x), l1, l2, l3] (.ref x :: st) h K := w_any (i := 175) (pc := 670) dL_law_670 rfl rfl
theorem w175_670n {d : Nat} {st : List Value} {h : xH} {K : Option Value → xH → Prop} {l1 l2 l3 : Option Value} : wp d 175 670 [some .null, l1, l2, l3] st h K ↔ wp d 175 671 [some .null, l1, l2, l3] (.null :: st) h K := w_any (i := 175) (pc := 670) dL_law_670 rfl rfl
theorem dL_law_671 : decode cL_law 671 = .ok (.iload_n 3, 1) := by decide +kernel
theorem w175_671 {d : Nat} {st : List Value} {h : xH} {K : Option Value → xH → Prop} {l0 l1 l2 : Option Value} {x : Int32} : wp d 175 671 [l0, l1, l2, some (.int x)] st h K ↔ wp d 175 672 [l0, l1, l2, some (.int x)] (.int x :: st) h K := w_any (i := 175) (pc := 671) dL_law_671 rfl rfl
theorem dL_law_672 : decode cL_law 672 = .ok (.iconst 1, 1) := by decide +kernel
theorem w175_672 {d : Nat} {st : List Value} {h : xH} {K : Option Value → xH → Prop} {ls : xL} : wp d 175 672 ls st h K ↔ wp d 175 673 ls (.int 1 :: st) h K := w_iconst (i := 175) (pc := 672) dL_law_672 (by decide)
theorem dL_law_673 : decode cL_law 673 = .ok (.iadd, 1) := by decide +kernel
theorem w175_673 {d : Nat} {st : List Value} {h : xH} {K : Option Value → xH → Prop} {ls : xL} {x y : Int32} : wp d 175 673 ls (.int y :: .int x :: st) h K ↔ wp d 175 674 ls (.int (x + y) :: st) h K := w_any (i := 175) (pc := 673) dL_law_673 rfl rfl
theorem dL_law_674 : decode cL_law 674 = .ok (.iaload, 1) := by decide +kernel
theorem w175_674 {d : Nat} {st : List Value} {h : xH} {K : Option Value → xH → Prop} {ls : xL} {a : Nat} {x : Int32} : wp d 175 674 ls (.int x :: .ref a :: st) h K ↔ y_iald h a x (fun v => wp d 175 675 ls (.int v :: st) h K) := w_iald (i := 175) (pc := 674) dL_law_674
theorem dL_law_675 : decode cL_law 675 = .ok (.aload_n 0, 1) := by decide +kernel
theorem w175_675 {d : Nat} {st : List Value} {h : xH} {K : Option Value → xH → Prop} {l1 l2 l3 : Option Value} {x : Nat} : wp d 175 675 [some (.ref x), l1, l2, l3] st h K ↔ wp d 175 676 [some (.ref x), l1, l2, l3] (.ref x :: st) h K := w_any (i := 175) (pc := 675) dL_law_675 rfl rfl
theorem w175_675n {d : Nat} {st : List Value} {h : xH} {K : Option Value → xH → Prop} {l1 l2 l3 : Option Value} : wp d 175 675 [some .null, l1, l2, l3] st h K ↔ wp d 175 676 [some .null, l1, l2, l3] (.null :: st) h K := w_any (i := 175) (pc := 675) dL_law_675 rfl rfl
theorem dL_law_676 : decode cL_law 676 = .ok (.iload_n 3, 1) := by decide +kernel
theorem w175_676 {d : Nat} {st : List Value} {h : xH} {K : Option Value → xH → Prop} {l0 l1 l2 : Option Value} {x : Int32} : wp d 175 676 [l0, l1, l2, some (.int x)] st h K ↔ wp d 175 677 [l0, l1, l2, some (.int x)] (.int x :: st) h K := w_any (i := 175) (pc := 676) dL_law_676 rfl rfl
theorem dL_law_677 : decode cL_law 677 = .ok (.iconst 2, 1) := by decide +kernel
theorem w175_677 {d : Nat} {st : List Value} {h : xH} {K : Option Value → xH → Prop} {ls : xL} : wp d 175 677 ls st h K ↔ wp d 175 678 ls (.int 2 :: st) h K := w_iconst (i := 175) (pc := 677) dL_law_677 (by decide)
theorem dL_law_678 : decode cL_law 678 = .ok (.iadd, 1) := by decide +kernel
theorem w175_678 {d : Nat} {st : List Value} {h : xH} {K : Option Value → xH → Prop} {ls : xL} {x y : Int32} : wp d 175 678 ls (.int y :: .int x :: st) h K ↔ wp d 175 679 ls (.int (x + y) :: st) h K := w_any (i := 175) (pc := 678) dL_law_678 rfl rfl
theorem dL_law_679 : decode cL_law 679 = .ok (.iaload, 1) := by decide +kernel
theorem w175_679 {d : Nat} {st : List Value} {h : xH} {K : Option Value → xH → Prop} {ls : xL} {a : Nat} {x : Int32} : wp d 175 679 ls (.int x :: .ref a :: st) h K ↔ y_iald h a x (fun v => wp d 175 680 ls (.int v :: st) h K) := w_iald (i := 175) (pc := 679) dL_law_679
theorem dL_law_680 : decode cL_law 680 = .ok (.invokevirtual 78, 3) := by decide +kernel
theorem w175_680 {d : Nat} {st : List Value} {h : xH} {K : Option Value → xH → Prop} {ls : xL} {a0 : Int32} {a1 : Int32} {b : Nat} : wp (d + 1) 175 680 ls (.int a1 :: .int a0 :: .ref b :: st) h K ↔ y_cls h b 8 ∧ xcs st ≤ 8 ∧ wp d 130 0 [some (.ref b), some (.int a0), some (.int a1)] [] h (fun v h1 => wp (d + 1) 175 683 ls (v.toList ++ st) h1 K) := w_callW (i := 175) (pc := 680) (as := [.int a0, .int a1]) (rest := st) dL_law_680 rfl (by decide) rfl rfl (by decide) rfl rfl rfl rfl
theorem dL_law_683 : decode cL_law 683 = .ok (.if_icmp .eq 538, 3) := by decide +kernel
theorem w175_683 {d : Nat} {st : List Value} {h : xH} {K : Option Value → xH → Prop} {ls : xL} {x y : Int32} : wp d 175 683 ls (.int y :: .int x :: st) h K ↔ ((x = y) → wp d 175 1221 ls st h K) ∧ ((¬ (x = y)) → wp d 175 686 ls st h K) := w_if2 (i := 175) (pc := 683) (cd := .eq) (off := 538) (tgt := 1221) dL_law_683 (by decide) rfl
theorem dL_law_686 : decode cL_law 686 = .ok (.iconst 0, 1) := by decide +kernel
theorem w175_686 {d : Nat} {st : List Value} {h : xH} {K : Option Value → xH → Prop} {ls : xL} : wp d 175 686 ls st h K ↔ wp d 175 687 ls (.int 0 :: st) h K := w_iconst (i := 175) (pc := 686) dL_law_686 (by decide)
theorem dL_law_687 : decode cL_law 687 = .ok (.ireturn, 1) := by decide +kernel
theorem w175_687 {d : Nat} {h : xH} {K : Option Value → xH → Prop} {ls : xL} {x : Int32} : wp d 175 687 ls [.int x] h K ↔ y_bool x ∧ K (some (.int x)) h := w_zret (i := 175) (pc := 687) dL_law_687 rfl
theorem dL_law_688 : decode cL_law 688 = .ok (.aload_n 1, 1) := by decide +kernel
theorem w175_688 {d : Nat} {st : List Value} {h : xH} {K : Option Value → xH → Prop} {l0 l2 l3 : Option Value} {x : Nat} : wp d 175 688 [l0, some (.ref x), l2, l3] st h K ↔ wp d 175 689 [l0, some (.ref x), l2, l3] (.ref x :: st) h K := w_any (i := 175) (pc := 688) dL_law_688 rfl rfl
theorem w175_688n {d : Nat} {st : List Value} {h : xH} {K : Option Value → xH → Prop} {l0 l2 l3 : Option Value} : wp d 175 688 [l0, some .null, l2, l3] st h K ↔ wp d 175 689 [l0, some .null, l2, l3] (.null :: st) h K := w_any (i := 175) (pc := 688) dL_law_688 rfl rfl
theorem dL_law_689 : decode cL_law 689 = .ok (.invokevirtual 79, 3) := by decide +kernel
theorem w175_689 {d : Nat} {st : List Value} {h : xH} {K : Option Value → xH → Prop} {ls : xL} {b : Nat} : wp (d + 1) 175 689 ls (.ref b :: st) h K ↔ y_cls h b 7 ∧ xcs st ≤ 8 ∧ wp d 57 0 [some (.ref b), none, none, none, none] [] h (fun v h1 => wp (d + 1) 175 692 ls (v.toList ++ st) h1 K) := w_callW (i := 175) (pc := 689) (as := []) (rest := st) dL_law_689 rfl (by decide) rfl rfl (by decide) rfl rfl rfl rfl
theorem dL_law_692 : decode cL_law 692 = .ok (.aload_n 2, 1) := by decide +kernel
theorem w175_692 {d : Nat} {st : List Value} {h : xH} {K : Option Value → xH → Prop} {l0 l1 l3 : Option Value} {x : Nat} : wp d 175 692 [l0, l1, some (.ref x), l3] st h K ↔ wp d 175 693 [l0, l1, some (.ref x), l3] (.ref x :: st) h K := w_any (i := 175) (pc := 692) dL_law_692 rfl rfl
theorem w175_692n {d : Nat} {st : List Value} {h : xH} {K : Option Value → xH → Prop} {l0 l1 l3 : Option Value} : wp d 175 692 [l0, l1, some .null, l3] st h K ↔ wp d 175 693 [l0, l1, some .null, l3] (.null :: st) h K := w_any (i := 175) (pc := 692) dL_law_692 rfl rfl
theorem dL_law_693 : decode cL_law 693 = .ok (.invokevirtual 83, 3) := by decide +kernel
theorem w175_693 {d : Nat} {st : List Value} {h : xH} {K : Option Value → xH → Prop} {ls : xL} {b : Nat} : wp (d + 1) 175 693 ls (.ref b :: st) h K ↔ y_cls h b 8 ∧ xcs st ≤ 8 ∧ wp d 131 0 [some (.ref b), none, none, none] [] h (fun v h1 => wp (d + 1) 175 696 ls (v.toList ++ st) h1 K) := w_callW (i := 175) (pc := 693) (as := []) (rest := st) dL_law_693 rfl (by decide) rfl rfl (by decide) rfl rfl rfl rfl
theorem dL_law_696 : decode cL_law 696 = .ok (.if_icmp .eq 525, 3) := by decide +kernel
theorem w175_696 {d : Nat} {st : List Value} {h : xH} {K : Option Value → xH → Prop} {ls : xL} {x y : Int32} : wp d 175 696 ls (.int y :: .int x :: st) h K ↔ ((x = y) → wp d 175 1221 ls st h K) ∧ ((¬ (x = y)) → wp d 175 699 ls st h K) := w_if2 (i := 175) (pc := 696) (cd := .eq) (off := 525) (tgt := 1221) dL_law_696 (by decide) rfl
theorem dL_law_699 : decode cL_law 699 = .ok (.iconst 0, 1) := by decide +kernel
theorem w175_699 {d : Nat} {st : List Value} {h : xH} {K : Option Value → xH → Prop} {ls : xL} : wp d 175 699 ls st h K ↔ wp d 175 700 ls (.int 0 :: st) h K := w_iconst (i := 175) (pc := 699) dL_law_699 (by decide)
theorem dL_law_700 : decode cL_law 700 = .ok (.ireturn, 1) := by decide +kernel
theorem w175_700 {d : Nat} {h : xH} {K : Option Value → xH → Prop} {ls : xL} {x : Int32} : wp d 175 700 ls [.int x] h K ↔ y_bool x ∧ K (some (.int x)) h := w_zret (i := 175) (pc := 700) dL_law_700 rfl
theorem dL_law_701 : decode cL_law 701 = .ok (.aload_n 1, 1) := by decide +kernel
theorem w175_701 {d : Nat} {st : List Value} {h : xH} {K : Option Value → xH → Prop} {l0 l2 l3 : Option Value} {x : Nat} : wp d 175 701 [l0, some (.ref x), l2, l3] st h K ↔ wp d 175 702 [l0, some (.ref x), l2, l3] (.ref x :: st) h K := w_any (i := 175) (pc := 701) dL_law_701 rfl rfl
theorem w175_701n {d : Nat} {st : List Value} {h : xH} {K : Option Value → xH → Prop} {l0 l2 l3 : Option Value} : wp d 175 701 [l0, some .null, l2, l3] st h K ↔ wp d 175 702 [l0, some .null, l2, l3] (.null :: st) h K := w_any (i := 175) (pc := 701) dL_law_701 rfl rfl
theorem dL_law_702 : decode cL_law 702 = .ok (.aload_n 0, 1) := by decide +kernel
theorem w175_702 {d : Nat} {st : List Value} {h : xH} {K : Option Value → xH → Prop} {l1 l2 l3 : Option Value} {x : Nat} : wp d 175 702 [some (.ref x), l1, l2, l3] st h K ↔ wp d 175 703 [some (.ref x), l1, l2, l3] (.ref x :: st) h K := w_any (i := 175) (pc := 702) dL_law_702 rfl rfl
theorem w175_702n {d : Nat} {st : List Value} {h : xH} {K : Option Value → xH → Prop} {l1 l2 l3 : Option Value} : wp d 175 702 [some .null, l1, l2, l3] st h K ↔ wp d 175 703 [some .null, l1, l2, l3] (.null :: st) h K := w_any (i := 175) (pc := 702) dL_law_702 rfl rfl
theorem dL_law_703 : decode cL_law 703 = .ok (.iload_n 3, 1) := by decide +kernel
theorem w175_703 {d : Nat} {st : List Value} {h : xH} {K : Option Value → xH → Prop} {l0 l1 l2 : Option Value} {x : Int32} : wp d 175 703 [l0, l1, l2, some (.int x)] st h K ↔ wp d 175 704 [l0, l1, l2, some (.int x)] (.int x :: st) h K := w_any (i := 175) (pc := 703) dL_law_703 rfl rfl
theorem dL_law_704 : decode cL_law 704 = .ok (.iconst 1, 1) := by decide +kernel
theorem w175_704 {d : Nat} {st : List Value} {h : xH} {K : Option Value → xH → Prop} {ls : xL} : wp d 175 704 ls st h K ↔ wp d 175 705 ls (.int 1 :: st) h K := w_iconst (i := 175) (pc := 704) dL_law_704 (by decide)
theorem dL_law_705 : decode cL_law 705 = .ok (.iadd, 1) := by decide +kernel
theorem w175_705 {d : Nat} {st : List Value} {h : xH} {K : Option Value → xH → Prop} {ls : xL} {x y : Int32} : wp d 175 705 ls (.int y :: .int x :: st) h K ↔ wp d 175 706 ls (.int (x + y) :: st) h K := w_any (i := 175) (pc := 705) dL_law_705 rfl rfl
theorem dL_law_706 : decode cL_law 706 = .ok (.iaload, 1) := by decide +kernel
theorem w175_706 {d : Nat} {st : List Value} {h : xH} {K : Option Value → xH → Prop} {ls : xL} {a : Nat} {x : Int32} : wp d 175 706 ls (.int x :: .ref a :: st) h K ↔ y_iald h a x (fun v => wp d 175 707 ls (.int v :: st) h K) := w_iald (i := 175) (pc := 706) dL_law_706
theorem dL_law_707 : decode cL_law 707 = .ok (.aload_n 0, 1) := by decide +kernel
theorem w175_707 {d : Nat} {st : List Value} {h : xH} {K : Option Value → xH → Prop} {l1 l2 l3 : Option Value} {x : Nat} : wp d 175 707 [some (.ref x), l1, l2, l3] st h K ↔ wp d 175 708 [some (.ref x), l1, l2, l3] (.ref x :: st) h K := w_any (i := 175) (pc := 707) dL_law_707 rfl rfl
theorem w175_707n {d : Nat} {st : List Value} {h : xH} {K : Option Value → xH → Prop} {l1 l2 l3 : Option Value} : wp d 175 707 [some .null, l1, l2, l3] st h K ↔ wp d 175 708 [some .null, l1, l2, l3] (.null :: st) h K := w_any (i := 175) (pc := 707) dL_law_707 rfl rfl
theorem dL_law_708 : decode cL_law 708 = .ok (.iload_n 3, 1) := by decide +kernel
theorem w175_708 {d : Nat} {st : List Value} {h : xH} {K : Option Value → xH → Prop} {l0 l1 l2 : Option Value} {x : Int32} : wp d 175 708 [l0, l1, l2, some (.int x)] st h K ↔ wp d 175 709 [l0, l1, l2, some (.int x)] (.int x :: st) h K := w_any (i := 175) (pc := 708) dL_law_708 rfl rfl
theorem dL_law_709 : decode cL_law 709 = .ok (.iconst 2, 1) := by decide +kernel
theorem w175_709 {d : Nat} {st : List Value} {h : xH} {K : Option Value → xH → Prop} {ls : xL} : wp d 175 709 ls st h K ↔ wp d 175 710 ls (.int 2 :: st) h K := w_iconst (i := 175) (pc := 709) dL_law_709 (by decide)
theorem dL_law_710 : decode cL_law 710 = .ok (.iadd, 1) := by decide +kernel
theorem w175_710 {d : Nat} {st : List Value} {h : xH} {K : Option Value → xH → Prop} {ls : xL} {x y : Int32} : wp d 175 710 ls (.int y :: .int x :: st) h K ↔ wp d 175 711 ls (.int (x + y) :: st) h K := w_any (i := 175) (pc := 710) dL_law_710 rfl rfl
theorem dL_law_711 : decode cL_law 711 = .ok (.iaload, 1) := by decide +kernel
theorem w175_711 {d : Nat} {st : List Value} {h : xH} {K : Option Value → xH → Prop} {ls : xL} {a : Nat} {x : Int32} : wp d 175 711 ls (.int x :: .ref a :: st) h K ↔ y_iald h a x (fun v => wp d 175 712 ls (.int v :: st) h K) := w_iald (i := 175) (pc := 711) dL_law_711
theorem dL_law_712 : decode cL_law 712 = .ok (.invokevirtual 84, 3) := by decide +kernel
theorem w175_712 {d : Nat} {st : List Value} {h : xH} {K : Option Value → xH → Prop} {ls : xL} {a0 : Int32} {a1 : Int32} {b : Nat} : wp (d + 1) 175 712 ls (.int a1 :: .int a0 :: .ref b :: st) h K ↔ y_cls h b 7 ∧ xcs st ≤ 8 ∧ wp d 58 0 [some (.ref b), some (.int a0), some (.int a1), none, none, none, none] [] h (fun v h1 => wp (d + 1) 175 715 ls (v.toList ++ st) h1 K) := w_callW (i := 175) (pc := 712) (as := [.int a0, .int a1]) (rest := st) dL_law_712 rfl (by decide) rfl rfl (by decide) rfl rfl rfl rfl
theorem dL_law_715 : decode cL_law 715 = .ok (.aload_n 2, 1) := by decide +kernel
theorem w175_715 {d : Nat} {st : List Value} {h : xH} {K : Option Value → xH → Prop} {l0 l1 l3 : Option Value} {x : Nat} : wp d 175 715 [l0, l1, some (.ref x), l3] st h K ↔ wp d 175 716 [l0, l1, some (.ref x), l3] (.ref x :: st) h K := w_any (i := 175) (pc := 715) dL_law_715 rfl rfl
theorem w175_715n {d : Nat} {st : List Value} {h : xH} {K : Option Value → xH → Prop} {l0 l1 l3 : Option Value} : wp d 175 715 [l0, l1, some .null, l3] st h K ↔ wp d 175 716 [l0, l1, some .null, l3] (.null :: st) h K := w_any (i := 175) (pc := 715) dL_law_715 rfl rfl
theorem dL_law_716 : decode cL_law 716 = .ok (.aload_n 0, 1) := by decide +kernel
theorem w175_716 {d : Nat} {st : List Value} {h : xH} {K : Option Value → xH → Prop} {l1 l2 l3 : Option Value} {x : Nat} : wp d 175 716 [some (.ref x), l1, l2, l3] st h K ↔ wp d 175 717 [some (.ref x), l1, l2, l3] (.ref x :: st) h K := w_any (i := 175) (pc := 716) dL_law_716 rfl rfl
theorem w175_716n {d : Nat} {st : List Value} {h : xH} {K : Option Value → xH → Prop} {l1 l2 l3 : Option Value} : wp d 175 716 [some .null, l1, l2, l3] st h K ↔ wp d 175 717 [some .null, l1, l2, l3] (.null :: st) h K := w_any (i := 175) (pc := 716) dL_law_716 rfl rfl
theorem dL_law_717 : decode cL_law 717 = .ok (.iload_n 3, 1) := by decide +kernel
theorem w175_717 {d : Nat} {st : List Value} {h : xH} {K : Option Value → xH → Prop} {l0 l1 l2 : Option Value} {x : Int32} : wp d 175 717 [l0, l1, l2, some (.int x)] st h K ↔ wp d 175 718 [l0, l1, l2, some (.int x)] (.int x :: st) h K := w_any (i := 175) (pc := 717) dL_law_717 rfl rfl
theorem dL_law_718 : decode cL_law 718 = .ok (.iconst 1, 1) := by decide +kernel
theorem w175_718 {d : Nat} {st : List Value} {h : xH} {K : Option Value → xH → Prop} {ls : xL} : wp d 175 718 ls st h K ↔ wp d 175 719 ls (.int 1 :: st) h K := w_iconst (i := 175) (pc := 718) dL_law_718 (by decide)
theorem dL_law_719 : decode cL_law 719 = .ok (.iadd, 1) := by decide +kernel
theorem w175_719 {d : Nat} {st : List Value} {h : xH} {K : Option Value → xH → Prop} {ls : xL} {x y : Int32} : wp d 175 719 ls (.int y :: .int x :: st) h K ↔ wp d 175 720 ls (.int (x + y) :: st) h K := w_any (i := 175) (pc := 719) dL_law_719 rfl rfl
theorem dL_law_720 : decode cL_law 720 = .ok (.iaload, 1) := by decide +kernel
theorem w175_720 {d : Nat} {st : List Value} {h : xH} {K : Option Value → xH → Prop} {ls : xL} {a : Nat} {x : Int32} : wp d 175 720 ls (.int x :: .ref a :: st) h K ↔ y_iald h a x (fun v => wp d 175 721 ls (.int v :: st) h K) := w_iald (i := 175) (pc := 720) dL_law_720
theorem dL_law_721 : decode cL_law 721 = .ok (.aload_n 0, 1) := by decide +kernel
theorem w175_721 {d : Nat} {st : List Value} {h : xH} {K : Option Value → xH → Prop} {l1 l2 l3 : Option Value} {x : Nat} : wp d 175 721 [some (.ref x), l1, l2, l3] st h K ↔ wp d 175 722 [some (.ref x), l1, l2, l3] (.ref x :: st) h K := w_any (i := 175) (pc := 721) dL_law_721 rfl rfl
theorem w175_721n {d : Nat} {st : List Value} {h : xH} {K : Option Value → xH → Prop} {l1 l2 l3 : Option Value} : wp d 175 721 [some .null, l1, l2, l3] st h K ↔ wp d 175 722 [some .null, l1, l2, l3] (.null :: st) h K := w_any (i := 175) (pc := 721) dL_law_721 rfl rfl
theorem dL_law_722 : decode cL_law 722 = .ok (.iload_n 3, 1) := by decide +kernel
theorem w175_722 {d : Nat} {st : List Value} {h : xH} {K : Option Value → xH → Prop} {l0 l1 l2 : Option Value} {x : Int32} : wp d 175 722 [l0, l1, l2, some (.int x)] st h K ↔ wp d 175 723 [l0, l1, l2, some (.int x)] (.int x :: st) h K := w_any (i := 175) (pc := 722) dL_law_722 rfl rfl
theorem dL_law_723 : decode cL_law 723 = .ok (.iconst 2, 1) := by decide +kernel
theorem w175_723 {d : Nat} {st : List Value} {h : xH} {K : Option Value → xH → Prop} {ls : xL} : wp d 175 723 ls st h K ↔ wp d 175 724 ls (.int 2 :: st) h K := w_iconst (i := 175) (pc := 723) dL_law_723 (by decide)
theorem dL_law_724 : decode cL_law 724 = .ok (.iadd, 1) := by decide +kernel
theorem w175_724 {d : Nat} {st : List Value} {h : xH} {K : Option Value → xH → Prop} {ls : xL} {x y : Int32} : wp d 175 724 ls (.int y :: .int x :: st) h K ↔ wp d 175 725 ls (.int (x + y) :: st) h K := w_any (i := 175) (pc := 724) dL_law_724 rfl rfl
theorem dL_law_725 : decode cL_law 725 = .ok (.iaload, 1) := by decide +kernel
theorem w175_725 {d : Nat} {st : List Value} {h : xH} {K : Option Value → xH → Prop} {ls : xL} {a : Nat} {x : Int32} : wp d 175 725 ls (.int x :: .ref a :: st) h K ↔ y_iald h a x (fun v => wp d 175 726 ls (.int v :: st) h K) := w_iald (i := 175) (pc := 725) dL_law_725
theorem dL_law_726 : decode cL_law 726 = .ok (.invokevirtual 87, 3) := by decide +kernel
theorem w175_726 {d : Nat} {st : List Value} {h : xH} {K : Option Value → xH → Prop} {ls : xL} {a0 : Int32} {a1 : Int32} {b : Nat} : wp (d + 1) 175 726 ls (.int a1 :: .int a0 :: .ref b :: st) h K ↔ y_cls h b 8 ∧ xcs st ≤ 8 ∧ wp d 132 0 [some (.ref b), some (.int a0), some (.int a1), none, none, none, none, none, none, none, none] [] h (fun v h1 => wp (d + 1) 175 729 ls (v.toList ++ st) h1 K) := w_callW (i := 175) (pc := 726) (as := [.int a0, .int a1]) (rest := st) dL_law_726 rfl (by decide) rfl rfl (by decide) rfl rfl rfl rfl
theorem dL_law_729 : decode cL_law 729 = .ok (.if_icmp .eq 492, 3) := by decide +kernel
theorem w175_729 {d : Nat} {st : List Value} {h : xH} {K : Option Value → xH → Prop} {ls : xL} {x y : Int32} : wp d 175 729 ls (.int y :: .int x :: st) h K ↔ ((x = y) → wp d 175 1221 ls st h K) ∧ ((¬ (x = y)) → wp d 175 732 ls st h K) := w_if2 (i := 175) (pc := 729) (cd := .eq) (off := 492) (tgt := 1221) dL_law_729 (by decide) rfl
theorem dL_law_732 : decode cL_law 732 = .ok (.iconst 0, 1) := by decide +kernel
theorem w175_732 {d : Nat} {st : List Value} {h : xH} {K : Option Value → xH → Prop} {ls : xL} : wp d 175 732 ls st h K ↔ wp d 175 733 ls (.int 0 :: st) h K := w_iconst (i := 175) (pc := 732) dL_law_732 (by decide)
theorem dL_law_733 : decode cL_law 733 = .ok (.ireturn, 1) := by decide +kernel
theorem w175_733 {d : Nat} {h : xH} {K : Option Value → xH → Prop} {ls : xL} {x : Int32} : wp d 175 733 ls [.int x] h K ↔ y_bool x ∧ K (some (.int x)) h := w_zret (i := 175) (pc := 733) dL_law_733 rfl
theorem dL_law_734 : decode cL_law 734 = .ok (.aload_n 1, 1) := by decide +kernel
theorem w175_734 {d : Nat} {st : List Value} {h : xH} {K : Option Value → xH → Prop} {l0 l2 l3 : Option Value} {x : Nat} : wp d 175 734 [l0, some (.ref x), l2, l3] st h K ↔ wp d 175 735 [l0, some (.ref x), l2, l3] (.ref x :: st) h K := w_any (i := 175) (pc := 734) dL_law_734 rfl rfl
theorem w175_734n {d : Nat} {st : List Value} {h : xH} {K : Option Value → xH → Prop} {l0 l2 l3 : Option Value} : wp d 175 734 [l0, some .null, l2, l3] st h K ↔ wp d 175 735 [l0, some .null, l2, l3] (.null :: st) h K := w_any (i := 175) (pc := 734) dL_law_734 rfl rfl
theorem dL_law_735 : decode cL_law 735 = .ok (.aload_n 0, 1) := by decide +kernel
theorem w175_735 {d : Nat} {st : List Value} {h : xH} {K : Option Value → xH → Prop} {l1 l2 l3 : Option Value} {x : Nat} : wp d 175 735 [some (.ref x), l1, l2, l3] st h K ↔ wp d 175 736 [some (.ref x), l1, l2, l3] (.ref x :: st) h K := w_any (i := 175) (pc := 735) dL_law_735 rfl rfl
theorem w175_735n {d : Nat} {st : List Value} {h : xH} {K : Option Value → xH → Prop} {l1 l2 l3 : Option Value} : wp d 175 735 [some .null, l1, l2, l3] st h K ↔ wp d 175 736 [some .null, l1, l2, l3] (.null :: st) h K := w_any (i := 175) (pc := 735) dL_law_735 rfl rfl
theorem dL_law_736 : decode cL_law 736 = .ok (.iload_n 3, 1) := by decide +kernel
theorem w175_736 {d : Nat} {st : List Value} {h : xH} {K : Option Value → xH → Prop} {l0 l1 l2 : Option Value} {x : Int32} : wp d 175 736 [l0, l1, l2, some (.int x)] st h K ↔ wp d 175 737 [l0, l1, l2, some (.int x)] (.int x :: st) h K := w_any (i := 175) (pc := 736) dL_law_736 rfl rfl
theorem dL_law_737 : decode cL_law 737 = .ok (.iconst 1, 1) := by decide +kernel
theorem w175_737 {d : Nat} {st : List Value} {h : xH} {K : Option Value → xH → Prop} {ls : xL} : wp d 175 737 ls st h K ↔ wp d 175 738 ls (.int 1 :: st) h K := w_iconst (i := 175) (pc := 737) dL_law_737 (by decide)
theorem dL_law_738 : decode cL_law 738 = .ok (.iadd, 1) := by decide +kernel
theorem w175_738 {d : Nat} {st : List Value} {h : xH} {K : Option Value → xH → Prop} {ls : xL} {x y : Int32} : wp d 175 738 ls (.int y :: .int x :: st) h K ↔ wp d 175 739 ls (.int (x + y) :: st) h K := w_any (i := 175) (pc := 738) dL_law_738 rfl rfl
theorem dL_law_739 : decode cL_law 739 = .ok (.iaload, 1) := by decide +kernel
theorem w175_739 {d : Nat} {st : List Value} {h : xH} {K : Option Value → xH → Prop} {ls : xL} {a : Nat} {x : Int32} : wp d 175 739 ls (.int x :: .ref a :: st) h K ↔ y_iald h a x (fun v => wp d 175 740 ls (.int v :: st) h K) := w_iald (i := 175) (pc := 739) dL_law_739
theorem dL_law_740 : decode cL_law 740 = .ok (.aload_n 0, 1) := by decide +kernel
theorem w175_740 {d : Nat} {st : List Value} {h : xH} {K : Option Value → xH → Prop} {l1 l2 l3 : Option Value} {x : Nat} : wp d 175 740 [some (.ref x), l1, l2, l3] st h K ↔ wp d 175 741 [some (.ref x), l1, l2, l3] (.ref x :: st) h K := w_any (i := 175) (pc := 740) dL_law_740 rfl rfl
theorem w175_740n {d : Nat} {st : List Value} {h : xH} {K : Option Value → xH → Prop} {l1 l2 l3 : Option Value} : wp d 175 740 [some .null, l1, l2, l3] st h K ↔ wp d 175 741 [some .null, l1, l2, l3] (.null :: st) h K := w_any (i := 175) (pc := 740) dL_law_740 rfl rfl
theorem dL_law_741 : decode cL_law 741 = .ok (.iload_n 3, 1) := by decide +kernel
theorem w175_741 {d : Nat} {st : List Value} {h : xH} {K : Option Value → xH → Prop} {l0 l1 l2 : Option Value} {x : Int32} : wp d 175 741 [l0, l1, l2, some (.int x)] st h K ↔ wp d 175 742 [l0, l1, l2, some (.int x)] (.int x :: st) h K := w_any (i := 175) (pc := 741) dL_law_741 rfl rfl
theorem dL_law_742 : decode cL_law 742 = .ok (.iconst 2, 1) := by decide +kernel
theorem w175_742 {d : Nat} {st : List Value} {h : xH} {K : Option Value → xH → Prop} {ls : xL} : wp d 175 742 ls st h K ↔ wp d 175 743 ls (.int 2 :: st) h K := w_iconst (i := 175) (pc := 742) dL_law_742 (by decide)
theorem dL_law_743 : decode cL_law 743 = .ok (.iadd, 1) := by decide +kernel
theorem w175_743 {d : Nat} {st : List Value} {h : xH} {K : Option Value → xH → Prop} {ls : xL} {x y : Int32} : wp d 175 743 ls (.int y :: .int x :: st) h K ↔ wp d 175 744 ls (.int (x + y) :: st) h K := w_any (i := 175) (pc := 743) dL_law_743 rfl rfl
theorem dL_law_744 : decode cL_law 744 = .ok (.iaload, 1) := by decide +kernel
theorem w175_744 {d : Nat} {st : List Value} {h : xH} {K : Option Value → xH → Prop} {ls : xL} {a : Nat} {x : Int32} : wp d 175 744 ls (.int x :: .ref a :: st) h K ↔ y_iald h a x (fun v => wp d 175 745 ls (.int v :: st) h K) := w_iald (i := 175) (pc := 744) dL_law_744
theorem dL_law_745 : decode cL_law 745 = .ok (.aload_n 0, 1) := by decide +kernel
theorem w175_745 {d : Nat} {st : List Value} {h : xH} {K : Option Value → xH → Prop} {l1 l2 l3 : Option Value} {x : Nat} : wp d 175 745 [some (.ref x), l1, l2, l3] st h K ↔ wp d 175 746 [some (.ref x), l1, l2, l3] (.ref x :: st) h K := w_any (i := 175) (pc := 745) dL_law_745 rfl rfl
theorem w175_745n {d : Nat} {st : List Value} {h : xH} {K : Option Value → xH → Prop} {l1 l2 l3 : Option Value} : wp d 175 745 [some .null, l1, l2, l3] st h K ↔ wp d 175 746 [some .null, l1, l2, l3] (.null :: st) h K := w_any (i := 175) (pc := 745) dL_law_745 rfl rfl
theorem dL_law_746 : decode cL_law 746 = .ok (.iload_n 3, 1) := by decide +kernel
theorem w175_746 {d : Nat} {st : List Value} {h : xH} {K : Option Value → xH → Prop} {l0 l1 l2 : Option Value} {x : Int32} : wp d 175 746 [l0, l1, l2, some (.int x)] st h K ↔ wp d 175 747 [l0, l1, l2, some (.int x)] (.int x :: st) h K := w_any (i := 175) (pc := 746) dL_law_746 rfl rfl
theorem dL_law_747 : decode cL_law 747 = .ok (.iconst 3, 1) := by decide +kernel
theorem w175_747 {d : Nat} {st : List Value} {h : xH} {K : Option Value → xH → Prop} {ls : xL} : wp d 175 747 ls st h K ↔ wp d 175 748 ls (.int 3 :: st) h K := w_iconst (i := 175) (pc := 747) dL_law_747 (by decide)
theorem dL_law_748 : decode cL_law 748 = .ok (.iadd, 1) := by decide +kernel
theorem w175_748 {d : Nat} {st : List Value} {h : xH} {K : Option Value → xH → Prop} {ls : xL} {x y : Int32} : wp d 175 748 ls (.int y :: .int x :: st) h K ↔ wp d 175 749 ls (.int (x + y) :: st) h K := w_any (i := 175) (pc := 748) dL_law_748 rfl rfl
theorem dL_law_749 : decode cL_law 749 = .ok (.iaload, 1) := by decide +kernel
theorem w175_749 {d : Nat} {st : List Value} {h : xH} {K : Option Value → xH → Prop} {ls : xL} {a : Nat} {x : Int32} : wp d 175 749 ls (.int x :: .ref a :: st) h K ↔ y_iald h a x (fun v => wp d 175 750 ls (.int v :: st) h K) := w_iald (i := 175) (pc := 749) dL_law_749
theorem dL_law_750 : decode cL_law 750 = .ok (.aload_n 0, 1) := by decide +kernel
theorem w175_750 {d : Nat} {st : List Value} {h : xH} {K : Option Value → xH → Prop} {l1 l2 l3 : Option Value} {x : Nat} : wp d 175 750 [some (.ref x), l1, l2, l3] st h K ↔ wp d 175 751 [some (.ref x), l1, l2, l3] (.ref x :: st) h K := w_any (i := 175) (pc := 750) dL_law_750 rfl rfl
theorem w175_750n {d : Nat} {st : List Value} {h : xH} {K : Option Value → xH → Prop} {l1 l2 l3 : Option Value} : wp d 175 750 [some .null, l1, l2, l3] st h K ↔ wp d 175 751 [some .null, l1, l2, l3] (.null :: st) h K := w_any (i := 175) (pc := 750) dL_law_750 rfl rfl
theorem dL_law_751 : decode cL_law 751 = .ok (.iload_n 3, 1) := by decide +kernel
theorem w175_751 {d : Nat} {st : List Value} {h : xH} {K : Option Value → xH → Prop} {l0 l1 l2 : Option Value} {x : Int32} : wp d 175 751 [l0, l1, l2, some (.int x)] st h K ↔ wp d 175 752 [l0, l1, l2, some (.int x)] (.int x :: st) h K := w_any (i := 175) (pc := 751) dL_law_751 rfl rfl
theorem dL_law_752 : decode cL_law 752 = .ok (.iconst 4, 1) := by decide +kernel
theorem w175_752 {d : Nat} {st : List Value} {h : xH} {K : Option Value → xH → Prop} {ls : xL} : wp d 175 752 ls st h K ↔ wp d 175 753 ls (.int 4 :: st) h K := w_iconst (i := 175) (pc := 752) dL_law_752 (by decide)
theorem dL_law_753 : decode cL_law 753 = .ok (.iadd, 1) := by decide +kernel
theorem w175_753 {d : Nat} {st : List Value} {h : xH} {K : Option Value → xH → Prop} {ls : xL} {x y : Int32} : wp d 175 753 ls (.int y :: .int x :: st) h K ↔ wp d 175 754 ls (.int (x + y) :: st) h K := w_any (i := 175) (pc := 753) dL_law_753 rfl rfl
theorem dL_law_754 : decode cL_law 754 = .ok (.iaload, 1) := by decide +kernel
theorem w175_754 {d : Nat} {st : List Value} {h : xH} {K : Option Value → xH → Prop} {ls : xL} {a : Nat} {x : Int32} : wp d 175 754 ls (.int x :: .ref a :: st) h K ↔ y_iald h a x (fun v => wp d 175 755 ls (.int v :: st) h K) := w_iald (i := 175) (pc := 754) dL_law_754
theorem dL_law_755 : decode cL_law 755 = .ok (.invokevirtual 88, 3) := by decide +kernel
theorem w175_755 {d : Nat} {st : List Value} {h : xH} {K : Option Value → xH → Prop} {ls : xL} {a0 : Int32} {a1 : Int32} {a2 : Int32} {a3 : Int32} {b : Nat} : wp (d + 1) 175 755 ls (.int a3 :: .int a2 :: .int a1 :: .int a0 :: .ref b :: st) h K ↔ y_cls h b 7 ∧ xcs st ≤ 8 ∧ wp d 59 0 [some (.ref b), some (.int a0), some (.int a1), some (.int a2), some (.int a3), none, none, none, none] [] h (fun v h1 => wp (d + 1) 175 758 ls (v.toList ++ st) h1 K) := w_callW (i := 175) (pc := 755) (as := [.int a0, .int a1, .int a2, .int a3]) (rest := st) dL_law_755 rfl (by decide) rfl rfl (by decide) rfl rfl rfl rfl
theorem dL_law_758 : decode cL_law 758 = .ok (.aload_n 2, 1) := by decide +kernel
theorem w175_758 {d : Nat} {st : List Value} {h : xH} {K : Option Value → xH → Prop} {l0 l1 l3 : Option Value} {x : Nat} : wp d 175 758 [l0, l1, some (.ref x), l3] st h K ↔ wp d 175 759 [l0, l1, some (.ref x), l3] (.ref x :: st) h K := w_any (i := 175) (pc := 758) dL_law_758 rfl rfl
theorem w175_758n {d : Nat} {st : List Value} {h : xH} {K : Option Value → xH → Prop} {l0 l1 l3 : Option Value} : wp d 175 758 [l0, l1, some .null, l3] st h K ↔ wp d 175 759 [l0, l1, some .null, l3] (.null :: st) h K := w_any (i := 175) (pc := 758) dL_law_758 rfl rfl
theorem dL_law_759 : decode cL_law 759 = .ok (.aload_n 0, 1) := by decide +kernel
theorem w175_759 {d : Nat} {st : List Value} {h : xH} {K : Option Value → xH → Prop} {l1 l2 l3 : Option Value} {x : Nat} : wp d 175 759 [some (.ref x), l1, l2, l3] st h K ↔ wp d 175 760 [some (.ref x), l1, l2, l3] (.ref x :: st) h K := w_any (i := 175) (pc := 759) dL_law_759 rfl rfl
theorem w175_759n {d : Nat} {st : List Value} {h : xH} {K : Option Value → xH → Prop} {l1 l2 l3 : Option Value} : wp d 175 759 [some .null, l1, l2, l3] st h K ↔ wp d 175 760 [some .null, l1, l2, l3] (.null :: st) h K := w_any (i := 175) (pc := 759) dL_law_759 rfl rfl
theorem dL_law_760 : decode cL_law 760 = .ok (.iload_n 3, 1) := by decide +kernel
theorem w175_760 {d : Nat} {st : List Value} {h : xH} {K : Option Value → xH → Prop} {l0 l1 l2 : Option Value} {x : Int32} : wp d 175 760 [l0, l1, l2, some (.int x)] st h K ↔ wp d 175 761 [l0, l1, l2, some (.int x)] (.int x :: st) h K := w_any (i := 175) (pc := 760) dL_law_760 rfl rfl
theorem dL_law_761 : decode cL_law 761 = .ok (.iconst 1, 1) := by decide +kernel
theorem w175_761 {d : Nat} {st : List Value} {h : xH} {K : Option Value → xH → Prop} {ls : xL} : wp d 175 761 ls st h K ↔ wp d 175 762 ls (.int 1 :: st) h K := w_iconst (i := 175) (pc := 761) dL_law_761 (by decide)
theorem dL_law_762 : decode cL_law 762 = .ok (.iadd, 1) := by decide +kernel
theorem w175_762 {d : Nat} {st : List Value} {h : xH} {K : Option Value → xH → Prop} {ls : xL} {x y : Int32} : wp d 175 762 ls (.int y :: .int x :: st) h K ↔ wp d 175 763 ls (.int (x + y) :: st) h K := w_any (i := 175) (pc := 762) dL_law_762 rfl rfl
theorem dL_law_763 : decode cL_law 763 = .ok (.iaload, 1) := by decide +kernel
theorem w175_763 {d : Nat} {st : List Value} {h : xH} {K : Option Value → xH → Prop} {ls : xL} {a : Nat} {x : Int32} : wp d 175 763 ls (.int x :: .ref a :: st) h K ↔ y_iald h a x (fun v => wp d 175 764 ls (.int v :: st) h K) := w_iald (i := 175) (pc := 763) dL_law_763
theorem dL_law_764 : decode cL_law 764 = .ok (.aload_n 0, 1) := by decide +kernel
theorem w175_764 {d : Nat} {st : List Value} {h : xH} {K : Option Value → xH → Prop} {l1 l2 l3 : Option Value} {x : Nat} : wp d 175 764 [some (.ref x), l1, l2, l3] st h K ↔ wp d 175 765 [some (.ref x), l1, l2, l3] (.ref x :: st) h K := w_any (i := 175) (pc := 764) dL_law_764 rfl rfl
theorem w175_764n {d : Nat} {st : List Value} {h : xH} {K : Option Value → xH → Prop} {l1 l2 l3 : Option Value} : wp d 175 764 [some .null, l1, l2, l3] st h K ↔ wp d 175 765 [some .null, l1, l2, l3] (.null :: st) h K := w_any (i := 175) (pc := 764) dL_law_764 rfl rfl
theorem dL_law_765 : decode cL_law 765 = .ok (.iload_n 3, 1) := by decide +kernel
theorem w175_765 {d : Nat} {st : List Value} {h : xH} {K : Option Value → xH → Prop} {l0 l1 l2 : Option Value} {x : Int32} : wp d 175 765 [l0, l1, l2, some (.int x)] st h K ↔ wp d 175 766 [l0, l1, l2, some (.int x)] (.int x :: st) h K := w_any (i := 175) (pc := 765) dL_law_765 rfl rfl
theorem dL_law_766 : decode cL_law 766 = .ok (.iconst 2, 1) := by decide +kernel
theorem w175_766 {d : Nat} {st : List Value} {h : xH} {K : Option Value → xH → Prop} {ls : xL} : wp d 175 766 ls st h K ↔ wp d 175 767 ls (.int 2 :: st) h K := w_iconst (i := 175) (pc := 766) dL_law_766 (by decide)
theorem dL_law_767 : decode cL_law 767 = .ok (.iadd, 1) := by decide +kernel
theorem w175_767 {d : Nat} {st : List Value} {h : xH} {K : Option Value → xH → Prop} {ls : xL} {x y : Int32} : wp d 175 767 ls (.int y :: .int x :: st) h K ↔ wp d 175 768 ls (.int (x + y) :: st) h K := w_any (i := 175) (pc := 767) dL_law_767 rfl rfl
theorem dL_law_768 : decode cL_law 768 = .ok (.iaload, 1) := by decide +kernel
theorem w175_768 {d : Nat} {st : List Value} {h : xH} {K : Option Value → xH → Prop} {ls : xL} {a : Nat} {x : Int32} : wp d 175 768 ls (.int x :: .ref a :: st) h K ↔ y_iald h a x (fun v => wp d 175 769 ls (.int v :: st) h K) := w_iald (i := 175) (pc := 768) dL_law_768
theorem dL_law_769 : decode cL_law 769 = .ok (.aload_n 0, 1) := by decide +kernel
theorem w175_769 {d : Nat} {st : List Value} {h : xH} {K : Option Value → xH → Prop} {l1 l2 l3 : Option Value} {x : Nat} : wp d 175 769 [some (.ref x), l1, l2, l3] st h K ↔ wp d 175 770 [some (.ref x), l1, l2, l3] (.ref x :: st) h K := w_any (i := 175) (pc := 769) dL_law_769 rfl rfl
theorem w175_769n {d : Nat} {st : List Value} {h : xH} {K : Option Value → xH → Prop} {l1 l2 l3 : Option Value} : wp d 175 769 [some .null, l1, l2, l3] st h K ↔ wp d 175 770 [some .null, l1, l2, l3] (.null :: st) h K := w_any (i := 175) (pc := 769) dL_law_769 rfl rfl
theorem dL_law_770 : decode cL_law 770 = .ok (.iload_n 3, 1) := by decide +kernel
theorem w175_770 {d : Nat} {st : List Value} {h : xH} {K : Option Value → xH → Prop} {l0 l1 l2 : Option Value} {x : Int32} : wp d 175 770 [l0, l1, l2, some (.int x)] st h K ↔ wp d 175 771 [l0, l1, l2, some (.int x)] (.int x :: st) h K := w_any (i := 175) (pc := 770) dL_law_770 rfl rfl
theorem dL_law_771 : decode cL_law 771 = .ok (.iconst 3, 1) := by decide +kernel
theorem w175_771 {d : Nat} {st : List Value} {h : xH} {K : Option Value → xH → Prop} {ls : xL} : wp d 175 771 ls st h K ↔ wp d 175 772 ls (.int 3 :: st) h K := w_iconst (i := 175) (pc := 771) dL_law_771 (by decide)
theorem dL_law_772 : decode cL_law 772 = .ok (.iadd, 1) := by decide +kernel
theorem w175_772 {d : Nat} {st : List Value} {h : xH} {K : Option Value → xH → Prop} {ls : xL} {x y : Int32} : wp d 175 772 ls (.int y :: .int x :: st) h K ↔ wp d 175 773 ls (.int (x + y) :: st) h K := w_any (i := 175) (pc := 772) dL_law_772 rfl rfl
theorem dL_law_773 : decode cL_law 773 = .ok (.iaload, 1) := by decide +kernel
theorem w175_773 {d : Nat} {st : List Value} {h : xH} {K : Option Value → xH → Prop} {ls : xL} {a : Nat} {x : Int32} : wp d 175 773 ls (.int x :: .ref a :: st) h K ↔ y_iald h a x (fun v => wp d 175 774 ls (.int v :: st) h K) := w_iald (i := 175) (pc := 773) dL_law_773
theorem dL_law_774 : decode cL_law 774 = .ok (.aload_n 0, 1) := by decide +kernel
theorem w175_774 {d : Nat} {st : List Value} {h : xH} {K : Option Value → xH → Prop} {l1 l2 l3 : Option Value} {x : Nat} : wp d 175 774 [some (.ref x), l1, l2, l3] st h K ↔ wp d 175 775 [some (.ref x), l1, l2, l3] (.ref x :: st) h K := w_any (i := 175) (pc := 774) dL_law_774 rfl rfl
theorem w175_774n {d : Nat} {st : List Value} {h : xH} {K : Option Value → xH → Prop} {l1 l2 l3 : Option Value} : wp d 175 774 [some .null, l1, l2, l3] st h K ↔ wp d 175 775 [some .null, l1, l2, l3] (.null :: st) h K := w_any (i := 175) (pc := 774) dL_law_774 rfl rfl
theorem dL_law_775 : decode cL_law 775 = .ok (.iload_n 3, 1) := by decide +kernel
theorem w175_775 {d : Nat} {st : List Value} {h : xH} {K : Option Value → xH → Prop} {l0 l1 l2 : Option Value} {x : Int32} : wp d 175 775 [l0, l1, l2, some (.int x)] st h K ↔ wp d 175 776 [l0, l1, l2, some (.int x)] (.int x :: st) h K := w_any (i := 175) (pc := 775) dL_law_775 rfl rfl
theorem dL_law_776 : decode cL_law 776 = .ok (.iconst 4, 1) := by decide +kernel
theorem w175_776 {d : Nat} {st : List Value} {h : xH} {K : Option Value → xH → Prop} {ls : xL} : wp d 175 776 ls st h K ↔ wp d 175 777 ls (.int 4 :: st) h K := w_iconst (i := 175) (pc := 776) dL_law_776 (by decide)
theorem dL_law_777 : decode cL_law 777 = .ok (.iadd, 1) := by decide +kernel
theorem w175_777 {d : Nat} {st : List Value} {h : xH} {K : Option Value → xH → Prop} {ls : xL} {x y : Int32} : wp d 175 777 ls (.int y :: .int x :: st) h K ↔ wp d 175 778 ls (.int (x + y) :: st) h K := w_any (i := 175) (pc := 777) dL_law_777 rfl rfl
theorem dL_law_778 : decode cL_law 778 = .ok (.iaload, 1) := by decide +kernel
theorem w175_778 {d : Nat} {st : List Value} {h : xH} {K : Option Value → xH → Prop} {ls : xL} {a : Nat} {x : Int32} : wp d 175 778 ls (.int x :: .ref a :: st) h K ↔ y_iald h a x (fun v => wp d 175 779 ls (.int v :: st) h K) := w_iald (i := 175) (pc := 778) dL_law_778
theorem dL_law_779 : decode cL_law 779 = .ok (.invokevirtual 92, 3) := by decide +kernel
theorem w175_779 {d : Nat} {st : List Value} {h : xH} {K : Option Value → xH → Prop} {ls : xL} {a0 : Int32} {a1 : Int32} {a2 : Int32} {a3 : Int32} {b : Nat} : wp (d + 1) 175 779 ls (.int a3 :: .int a2 :: .int a1 :: .int a0 :: .ref b :: st) h K ↔ y_cls h b 8 ∧ xcs st ≤ 8 ∧ wp d 135 0 [some (.ref b), some (.int a0), some (.int a1), some (.int a2), some (.int a3), none, none, none] [] h (fun v h1 => wp (d + 1) 175 782 ls (v.toList ++ st) h1 K) := w_callW (i := 175) (pc := 779) (as := [.int a0, .int a1, .int a2, .int a3]) (rest := st) dL_law_779 rfl (by decide) rfl rfl (by decide) rfl rfl rfl rfl
theorem dL_law_782 : decode cL_law 782 = .ok (.lcmp, 1) := by decide +kernel
theorem w175_782 {d : Nat} {st : List Value} {h : xH} {K : Option Value → xH → Prop} {ls : xL} {x y : Int64} : wp d 175 782 ls (.long y :: .long x :: st) h K ↔ wp d 175 783 ls (.int (lg_cmp x y) :: st) h K := w_any (i := 175) (pc := 782) dL_law_782 rfl rfl
theorem dL_law_783 : decode cL_law 783 = .ok (.ifCond .eq 438, 3) := by decide +kernel
theorem w175_783 {d : Nat} {st : List Value} {h : xH} {K : Option Value → xH → Prop} {ls : xL} {x : Int32} : wp d 175 783 ls (.int x :: st) h K ↔ ((x = 0) → wp d 175 1221 ls st h K) ∧ ((¬ (x = 0)) → wp d 175 786 ls st h K) := w_if1 (i := 175) (pc := 783) (cd := .eq) (off := 438) (tgt := 1221) dL_law_783 (by decide) rfl
theorem dL_law_786 : decode cL_law 786 = .ok (.iconst 0, 1) := by decide +kernel
theorem w175_786 {d : Nat} {st : List Value} {h : xH} {K : Option Value → xH → Prop} {ls : xL} : wp d 175 786 ls st h K ↔ wp d 175 787 ls (.int 0 :: st) h K := w_iconst (i := 175) (pc := 786) dL_law_786 (by decide)
theorem dL_law_787 : decode cL_law 787 = .ok (.ireturn, 1) := by decide +kernel
theorem w175_787 {d : Nat} {h : xH} {K : Option Value → xH → Prop} {ls : xL} {x : Int32} : wp d 175 787 ls [.int x] h K ↔ y_bool x ∧ K (some (.int x)) h := w_zret (i := 175) (pc := 787) dL_law_787 rfl
theorem dL_law_788 : decode cL_law 788 = .ok (.aload_n 1, 1) := by decide +kernel
theorem w175_788 {d : Nat} {st : List Value} {h : xH} {K : Option Value → xH → Prop} {l0 l2 l3 : Option Value} {x : Nat} : wp d 175 788 [l0, some (.ref x), l2, l3] st h K ↔ wp d 175 789 [l0, some (.ref x), l2, l3] (.ref x :: st) h K := w_any (i := 175) (pc := 788) dL_law_788 rfl rfl
theorem w175_788n {d : Nat} {st : List Value} {h : xH} {K : Option Value → xH → Prop} {l0 l2 l3 : Option Value} : wp d 175 788 [l0, some .null, l2, l3] st h K ↔ wp d 175 789 [l0, some .null, l2, l3] (.null :: st) h K := w_any (i := 175) (pc := 788) dL_law_788 rfl rfl
theorem dL_law_789 : decode cL_law 789 = .ok (.aload_n 0, 1) := by decide +kernel
theorem w175_789 {d : Nat} {st : List Value} {h : xH} {K : Option Value → xH → Prop} {l1 l2 l3 : Option Value} {x : Nat} : wp d 175 789 [some (.ref x), l1, l2, l3] st h K ↔ wp d 175 790 [some (.ref x), l1, l2, l3] (.ref x :: st) h K := w_any (i := 175) (pc := 789) dL_law_789 rfl rfl
theorem w175_789n {d : Nat} {st : List Value} {h : xH} {K : Option Value → xH → Prop} {l1 l2 l3 : Option Value} : wp d 175 789 [some .null, l1, l2, l3] st h K ↔ wp d 175 790 [some .null, l1, l2, l3] (.null :: st) h K := w_any (i := 175) (pc := 789) dL_law_789 rfl rfl
theorem dL_law_790 : decode cL_law 790 = .ok (.iload_n 3, 1) := by decide +kernel
theorem w175_790 {d : Nat} {st : List Value} {h : xH} {K : Option Value → xH → Prop} {l0 l1 l2 : Option Value} {x : Int32} : wp d 175 790 [l0, l1, l2, some (.int x)] st h K ↔ wp d 175 791 [l0, l1, l2, some (.int x)] (.int x :: st) h K := w_any (i := 175) (pc := 790) dL_law_790 rfl rfl
theorem dL_law_791 : decode cL_law 791 = .ok (.iconst 1, 1) := by decide +kernel
theorem w175_791 {d : Nat} {st : List Value} {h : xH} {K : Option Value → xH → Prop} {ls : xL} : wp d 175 791 ls st h K ↔ wp d 175 792 ls (.int 1 :: st) h K := w_iconst (i := 175) (pc := 791) dL_law_791 (by decide)
theorem dL_law_792 : decode cL_law 792 = .ok (.iadd, 1) := by decide +kernel
theorem w175_792 {d : Nat} {st : List Value} {h : xH} {K : Option Value → xH → Prop} {ls : xL} {x y : Int32} : wp d 175 792 ls (.int y :: .int x :: st) h K ↔ wp d 175 793 ls (.int (x + y) :: st) h K := w_any (i := 175) (pc := 792) dL_law_792 rfl rfl
theorem dL_law_793 : decode cL_law 793 = .ok (.iaload, 1) := by decide +kernel
theorem w175_793 {d : Nat} {st : List Value} {h : xH} {K : Option Value → xH → Prop} {ls : xL} {a : Nat} {x : Int32} : wp d 175 793 ls (.int x :: .ref a :: st) h K ↔ y_iald h a x (fun v => wp d 175 794 ls (.int v :: st) h K) := w_iald (i := 175) (pc := 793) dL_law_793
theorem dL_law_794 : decode cL_law 794 = .ok (.aload_n 0, 1) := by decide +kernel
theorem w175_794 {d : Nat} {st : List Value} {h : xH} {K : Option Value → xH → Prop} {l1 l2 l3 : Option Value} {x : Nat} : wp d 175 794 [some (.ref x), l1, l2, l3] st h K ↔ wp d 175 795 [some (.ref x), l1, l2, l3] (.ref x :: st) h K := w_any (i := 175) (pc := 794) dL_law_794 rfl rfl
theorem w175_794n {d : Nat} {st : List Value} {h : xH} {K : Option Value → xH → Prop} {l1 l2 l3 : Option Value} : wp d 175 794 [some .null, l1, l2, l3] st h K ↔ wp d 175 795 [some .null, l1, l2, l3] (.null :: st) h K := w_any (i := 175) (pc := 794) dL_law_794 rfl rfl
theorem dL_law_795 : decode cL_law 795 = .ok (.iload_n 3, 1) := by decide +kernel
theorem w175_795 {d : Nat} {st : List Value} {h : xH} {K : Option Value → xH → Prop} {l0 l1 l2 : Option Value} {x : Int32} : wp d 175 795 [l0, l1, l2, some (.int x)] st h K ↔ wp d 175 796 [l0, l1, l2, some (.int x)] (.int x :: st) h K := w_any (i := 175) (pc := 795) dL_law_795 rfl rfl
theorem dL_law_796 : decode cL_law 796 = .ok (.iconst 2, 1) := by decide +kernel
theorem w175_796 {d : Nat} {st : List Value} {h : xH} {K : Option Value → xH → Prop} {ls : xL} : wp d 175 796 ls st h K ↔ wp d 175 797 ls (.int 2 :: st) h K := w_iconst (i := 175) (pc := 796) dL_law_796 (by decide)
theorem dL_law_797 : decode cL_law 797 = .ok (.iadd, 1) := by decide +kernel
theorem w175_797 {d : Nat} {st : List Value} {h : xH} {K : Option Value → xH → Prop} {ls : xL} {x y : Int32} : wp d 175 797 ls (.int y :: .int x :: st) h K ↔ wp d 175 798 ls (.int (x + y) :: st) h K := w_any (i := 175) (pc := 797) dL_law_797 rfl rfl
theorem dL_law_798 : decode cL_law 798 = .ok (.iaload, 1) := by decide +kernel
theorem w175_798 {d : Nat} {st : List Value} {h : xH} {K : Option Value → xH → Prop} {ls : xL} {a : Nat} {x : Int32} : wp d 175 798 ls (.int x :: .ref a :: st) h K ↔ y_iald h a x (fun v => wp d 175 799 ls (.int v :: st) h K) := w_iald (i := 175) (pc := 798) dL_law_798
theorem dL_law_799 : decode cL_law 799 = .ok (.aload_n 0, 1) := by decide +kernel
theorem w175_799 {d : Nat} {st : List Value} {h : xH} {K : Option Value → xH → Prop} {l1 l2 l3 : Option Value} {x : Nat} : wp d 175 799 [some (.ref x), l1, l2, l3] st h K ↔ wp d 175 800 [some (.ref x), l1, l2, l3] (.ref x :: st) h K := w_any (i := 175) (pc := 799) dL_law_799 rfl rfl
theorem w175_799n {d : Nat} {st : List Value} {h : xH} {K : Option Value → xH → Prop} {l1 l2 l3 : Option Value} : wp d 175 799 [some .null, l1, l2, l3] st h K ↔ wp d 175 800 [some .null, l1, l2, l3] (.null :: st) h K := w_any (i := 175) (pc := 799) dL_law_799 rfl rfl
theorem dL_law_800 : decode cL_law 800 = .ok (.iload_n 3, 1) := by decide +kernel
theorem w175_800 {d : Nat} {st : List Value} {h : xH} {K : Option Value → xH → Prop} {l0 l1 l2 : Option Value} {x : Int32} : wp d 175 800 [l0, l1, l2, some (.int x)] st h K ↔ wp d 175 801 [l0, l1, l2, some (.int x)] (.int x :: st) h K := w_any (i := 175) (pc := 800) dL_law_800 rfl rfl
theorem dL_law_801 : decode cL_law 801 = .ok (.iconst 3, 1) := by decide +kernel
theorem w175_801 {d : Nat} {st : List Value} {h : xH} {K : Option Value → xH → Prop} {ls : xL} : wp d 175 801 ls st h K ↔ wp d 175 802 ls (.int 3 :: st) h K := w_iconst (i := 175) (pc := 801) dL_law_801 (by decide)
theorem dL_law_802 : decode cL_law 802 = .ok (.iadd, 1) := by decide +kernel
theorem w175_802 {d : Nat} {st : List Value} {h : xH} {K : Option Value → xH → Prop} {ls : xL} {x y : Int32} : wp d 175 802 ls (.int y :: .int x :: st) h K ↔ wp d 175 803 ls (.int (x + y) :: st) h K := w_any (i := 175) (pc := 802) dL_law_802 rfl rfl
theorem dL_law_803 : decode cL_law 803 = .ok (.iaload, 1) := by decide +kernel
theorem w175_803 {d : Nat} {st : List Value} {h : xH} {K : Option Value → xH → Prop} {ls : xL} {a : Nat} {x : Int32} : wp d 175 803 ls (.int x :: .ref a :: st) h K ↔ y_iald h a x (fun v => wp d 175 804 ls (.int v :: st) h K) := w_iald (i := 175) (pc := 803) dL_law_803
theorem dL_law_804 : decode cL_law 804 = .ok (.invokevirtual 93, 3) := by decide +kernel
theorem w175_804 {d : Nat} {st : List Value} {h : xH} {K : Option Value → xH → Prop} {ls : xL} {a0 : Int32} {a1 : Int32} {a2 : Int32} {b : Nat} : wp (d + 1) 175 804 ls (.int a2 :: .int a1 :: .int a0 :: .ref b :: st) h K ↔ y_cls h b 7 ∧ xcs st ≤ 8 ∧ wp d 60 0 [some (.ref b), some (.int a0), some (.int a1), some (.int a2), none] [] h (fun v h1 => wp (d + 1) 175 807 ls (v.toList ++ st) h1 K) := w_callW (i := 175) (pc := 804) (as := [.int a0, .int a1, .int a2]) (rest := st) dL_law_804 rfl (by decide) rfl rfl (by decide) rfl rfl rfl rfl
theorem dL_law_807 : decode cL_law 807 = .ok (.aload_n 2, 1) := by decide +kernel
theorem w175_807 {d : Nat} {st : List Value} {h : xH} {K : Option Value → xH → Prop} {l0 l1 l3 : Option Value} {x : Nat} : wp d 175 807 [l0, l1, some (.ref x), l3] st h K ↔ wp d 175 808 [l0, l1, some (.ref x), l3] (.ref x :: st) h K := w_any (i := 175) (pc := 807) dL_law_807 rfl rfl
theorem w175_807n {d : Nat} {st : List Value} {h : xH} {K : Option Value → xH → Prop} {l0 l1 l3 : Option Value} : wp d 175 807 [l0, l1, some .null, l3] st h K ↔ wp d 175 808 [l0, l1, some .null, l3] (.null :: st) h K := w_any (i := 175) (pc := 807) dL_law_807 rfl rfl
theorem dL_law_808 : decode cL_law 808 = .ok (.aload_n 0, 1) := by decide +kernel
theorem w175_808 {d : Nat} {st : List Value} {h : xH} {K : Option Value → xH → Prop} {l1 l2 l3 : Option Value} {x : Nat} : wp d 175 808 [some (.ref x), l1, l2, l3] st h K ↔ wp d 175 809 [some (.ref x), l1, l2, l3] (.ref x :: st) h K := w_any (i := 175) (pc := 808) dL_law_808 rfl rfl
theorem w175_808n {d : Nat} {st : List Value} {h : xH} {K : Option Value → xH → Prop} {l1 l2 l3 : Option Value} : wp d 175 808 [some .null, l1, l2, l3] st h K ↔ wp d 175 809 [some .null, l1, l2, l3] (.null :: st) h K := w_any (i := 175) (pc := 808) dL_law_808 rfl rfl
theorem dL_law_809 : decode cL_law 809 = .ok (.iload_n 3, 1) := by decide +kernel
theorem w175_809 {d : Nat} {st : List Value} {h : xH} {K : Option Value → xH → Prop} {l0 l1 l2 : Option Value} {x : Int32} : wp d 175 809 [l0, l1, l2, some (.int x)] st h K ↔ wp d 175 810 [l0, l1, l2, some (.int x)] (.int x :: st) h K := w_any (i := 175) (pc := 809) dL_law_809 rfl rfl
theorem dL_law_810 : decode cL_law 810 = .ok (.iconst 1, 1) := by decide +kernel
theorem w175_810 {d : Nat} {st : List Value} {h : xH} {K : Option Value → xH → Prop} {ls : xL} : wp d 175 810 ls st h K ↔ wp d 175 811 ls (.int 1 :: st) h K := w_iconst (i := 175) (pc := 810) dL_law_810 (by decide)
theorem dL_law_811 : decode cL_law 811 = .ok (.iadd, 1) := by decide +kernel
theorem w175_811 {d : Nat} {st : List Value} {h : xH} {K : Option Value → xH → Prop} {ls : xL} {x y : Int32} : wp d 175 811 ls (.int y :: .int x :: st) h K ↔ wp d 175 812 ls (.int (x + y) :: st) h K := w_any (i := 175) (pc := 811) dL_law_811 rfl rfl
theorem dL_law_812 : decode cL_law 812 = .ok (.iaload, 1) := by decide +kernel
theorem w175_812 {d : Nat} {st : List Value} {h : xH} {K : Option Value → xH → Prop} {ls : xL} {a : Nat} {x : Int32} : wp d 175 812 ls (.int x :: .ref a :: st) h K ↔ y_iald h a x (fun v => wp d 175 813 ls (.int v :: st) h K) := w_iald (i := 175) (pc := 812) dL_law_812
theorem dL_law_813 : decode cL_law 813 = .ok (.aload_n 0, 1) := by decide +kernel
theorem w175_813 {d : Nat} {st : List Value} {h : xH} {K : Option Value → xH → Prop} {l1 l2 l3 : Option Value} {x : Nat} : wp d 175 813 [some (.ref x), l1, l2, l3] st h K ↔ wp d 175 814 [some (.ref x), l1, l2, l3] (.ref x :: st) h K := w_any (i := 175) (pc := 813) dL_law_813 rfl rfl
theorem w175_813n {d : Nat} {st : List Value} {h : xH} {K : Option Value → xH → Prop} {l1 l2 l3 : Option Value} : wp d 175 813 [some .null, l1, l2, l3] st h K ↔ wp d 175 814 [some .null, l1, l2, l3] (.null :: st) h K := w_any (i := 175) (pc := 813) dL_law_813 rfl rfl
theorem dL_law_814 : decode cL_law 814 = .ok (.iload_n 3, 1) := by decide +kernel
theorem w175_814 {d : Nat} {st : List Value} {h : xH} {K : Option Value → xH → Prop} {l0 l1 l2 : Option Value} {x : Int32} : wp d 175 814 [l0, l1, l2, some (.int x)] st h K ↔ wp d 175 815 [l0, l1, l2, some (.int x)] (.int x :: st) h K := w_any (i := 175) (pc := 814) dL_law_814 rfl rfl
theorem dL_law_815 : decode cL_law 815 = .ok (.iconst 2, 1) := by decide +kernel
theorem w175_815 {d : Nat} {st : List Value} {h : xH} {K : Option Value → xH → Prop} {ls : xL} : wp d 175 815 ls st h K ↔ wp d 175 816 ls (.int 2 :: st) h K := w_iconst (i := 175) (pc := 815) dL_law_815 (by decide)
theorem dL_law_816 : decode cL_law 816 = .ok (.iadd, 1) := by decide +kernel
theorem w175_816 {d : Nat} {st : List Value} {h : xH} {K : Option Value → xH → Prop} {ls : xL} {x y : Int32} : wp d 175 816 ls (.int y :: .int x :: st) h K ↔ wp d 175 817 ls (.int (x + y) :: st) h K := w_any (i := 175) (pc := 816) dL_law_816 rfl rfl
theorem dL_law_817 : decode cL_law 817 = .ok (.iaload, 1) := by decide +kernel
theorem w175_817 {d : Nat} {st : List Value} {h : xH} {K : Option Value → xH → Prop} {ls : xL} {a : Nat} {x : Int32} : wp d 175 817 ls (.int x :: .ref a :: st) h K ↔ y_iald h a x (fun v => wp d 175 818 ls (.int v :: st) h K) := w_iald (i := 175) (pc := 817) dL_law_817
theorem dL_law_818 : decode cL_law 818 = .ok (.aload_n 0, 1) := by decide +kernel
theorem w175_818 {d : Nat} {st : List Value} {h : xH} {K : Option Value → xH → Prop} {l1 l2 l3 : Option Value} {x : Nat} : wp d 175 818 [some (.ref x), l1, l2, l3] st h K ↔ wp d 175 819 [some (.ref x), l1, l2, l3] (.ref x :: st) h K := w_any (i := 175) (pc := 818) dL_law_818 rfl rfl
theorem w175_818n {d : Nat} {st : List Value} {h : xH} {K : Option Value → xH → Prop} {l1 l2 l3 : Option Value} : wp d 175 818 [some .null, l1, l2, l3] st h K ↔ wp d 175 819 [some .null, l1, l2, l3] (.null :: st) h K := w_any (i := 175) (pc := 818) dL_law_818 rfl rfl
theorem dL_law_819 : decode cL_law 819 = .ok (.iload_n 3, 1) := by decide +kernel
theorem w175_819 {d : Nat} {st : List Value} {h : xH} {K : Option Value → xH → Prop} {l0 l1 l2 : Option Value} {x : Int32} : wp d 175 819 [l0, l1, l2, some (.int x)] st h K ↔ wp d 175 820 [l0, l1, l2, some (.int x)] (.int x :: st) h K := w_any (i := 175) (pc := 819) dL_law_819 rfl rfl
theorem dL_law_820 : decode cL_law 820 = .ok (.iconst 3, 1) := by decide +kernel
theorem w175_820 {d : Nat} {st : List Value} {h : xH} {K : Option Value → xH → Prop} {ls : xL} : wp d 175 820 ls st h K ↔ wp d 175 821 ls (.int 3 :: st) h K := w_iconst (i := 175) (pc := 820) dL_law_820 (by decide)
theorem dL_law_821 : decode cL_law 821 = .ok (.iadd, 1) := by decide +kernel
theorem w175_821 {d : Nat} {st : List Value} {h : xH} {K : Option Value → xH → Prop} {ls : xL} {x y : Int32} : wp d 175 821 ls (.int y :: .int x :: st) h K ↔ wp d 175 822 ls (.int (x + y) :: st) h K := w_any (i := 175) (pc := 821) dL_law_821 rfl rfl
theorem dL_law_822 : decode cL_law 822 = .ok (.iaload, 1) := by decide +kernel
theorem w175_822 {d : Nat} {st : List Value} {h : xH} {K : Option Value → xH → Prop} {ls : xL} {a : Nat} {x : Int32} : wp d 175 822 ls (.int x :: .ref a :: st) h K ↔ y_iald h a x (fun v => wp d 175 823 ls (.int v :: st) h K) := w_iald (i := 175) (pc := 822) dL_law_822
theorem dL_law_823 : decode cL_law 823 = .ok (.invokevirtual 96, 3) := by decide +kernel
theorem w175_823 {d : Nat} {st : List Value} {h : xH} {K : Option Value → xH → Prop} {ls : xL} {a0 : Int32} {a1 : Int32} {a2 : Int32} {b : Nat} : wp (d + 1) 175 823 ls (.int a2 :: .int a1 :: .int a0 :: .ref b :: st) h K ↔ y_cls h b 8 ∧ xcs st ≤ 8 ∧ wp d 136 0 [some (.ref b), some (.int a0), some (.int a1), some (.int a2)] [] h (fun v h1 => wp (d + 1) 175 826 ls (v.toList ++ st) h1 K) := w_callW (i := 175) (pc := 823) (as := [.int a0, .int a1, .int a2]) (rest := st) dL_law_823 rfl (by decide) rfl rfl (by decide) rfl rfl rfl rfl
theorem dL_law_826 : decode cL_law 826 = .ok (.if_icmp .eq 395, 3) := by decide +kernel
theorem w175_826 {d : Nat} {st : List Value} {h : xH} {K : Option Value → xH → Prop} {ls : xL} {x y : Int32} : wp d 175 826 ls (.int y :: .int x :: st) h K ↔ ((x = y) → wp d 175 1221 ls st h K) ∧ ((¬ (x = y)) → wp d 175 829 ls st h K) := w_if2 (i := 175) (pc := 826) (cd := .eq) (off := 395) (tgt := 1221) dL_law_826 (by decide) rfl
theorem dL_law_829 : decode cL_law 829 = .ok (.iconst 0, 1) := by decide +kernel
theorem w175_829 {d : Nat} {st : List Value} {h : xH} {K : Option Value → xH → Prop} {ls : xL} : wp d 175 829 ls st h K ↔ wp d 175 830 ls (.int 0 :: st) h K := w_iconst (i := 175) (pc := 829) dL_law_829 (by decide)
theorem dL_law_830 : decode cL_law 830 = .ok (.ireturn, 1) := by decide +kernel
theorem w175_830 {d : Nat} {h : xH} {K : Option Value → xH → Prop} {ls : xL} {x : Int32} : wp d 175 830 ls [.int x] h K ↔ y_bool x ∧ K (some (.int x)) h := w_zret (i := 175) (pc := 830) dL_law_830 rfl
theorem dL_law_831 : decode cL_law 831 = .ok (.aload_n 1, 1) := by decide +kernel
theorem w175_831 {d : Nat} {st : List Value} {h : xH} {K : Option Value → xH → Prop} {l0 l2 l3 : Option Value} {x : Nat} : wp d 175 831 [l0, some (.ref x), l2, l3] st h K ↔ wp d 175 832 [l0, some (.ref x), l2, l3] (.ref x :: st) h K := w_any (i := 175) (pc := 831) dL_law_831 rfl rfl
theorem w175_831n {d : Nat} {st : List Value} {h : xH} {K : Option Value → xH → Prop} {l0 l2 l3 : Option Value} : wp d 175 831 [l0, some .null, l2, l3] st h K ↔ wp d 175 832 [l0, some .null, l2, l3] (.null :: st) h K := w_any (i := 175) (pc := 831) dL_law_831 rfl rfl
theorem dL_law_832 : decode cL_law 832 = .ok (.aload_n 0, 1) := by decide +kernel
theorem w175_832 {d : Nat} {st : List Value} {h : xH} {K : Option Value → xH → Prop} {l1 l2 l3 : Option Value} {x : Nat} : wp d 175 832 [some (.ref x), l1, l2, l3] st h K ↔ wp d 175 833 [some (.ref x), l1, l2, l3] (.ref x :: st) h K := w_any (i := 175) (pc := 832) dL_law_832 rfl rfl
theorem w175_832n {d : Nat} {st : List Value} {h : xH} {K : Option Value → xH → Prop} {l1 l2 l3 : Option Value} : wp d 175 832 [some .null, l1, l2, l3] st h K ↔ wp d 175 833 [some .null, l1, l2, l3] (.null :: st) h K := w_any (i := 175) (pc := 832) dL_law_832 rfl rfl
theorem dL_law_833 : decode cL_law 833 = .ok (.iload_n 3, 1) := by decide +kernel
theorem w175_833 {d : Nat} {st : List Value} {h : xH} {K : Option Value → xH → Prop} {l0 l1 l2 : Option Value} {x : Int32} : wp d 175 833 [l0, l1, l2, some (.int x)] st h K ↔ wp d 175 834 [l0, l1, l2, some (.int x)] (.int x :: st) h K := w_any (i := 175) (pc := 833) dL_law_833 rfl rfl
theorem dL_law_834 : decode cL_law 834 = .ok (.iconst 1, 1) := by decide +kernel
theorem w175_834 {d : Nat} {st : List Value} {h : xH} {K : Option Value → xH → Prop} {ls : xL} : wp d 175 834 ls st h K ↔ wp d 175 835 ls (.int 1 :: st) h K := w_iconst (i := 175) (pc := 834) dL_law_834 (by decide)
theorem dL_law_835 : decode cL_law 835 = .ok (.iadd, 1) := by decide +kernel
theorem w175_835 {d : Nat} {st : List Value} {h : xH} {K : Option Value → xH → Prop} {ls : xL} {x y : Int32} : wp d 175 835 ls (.int y :: .int x :: st) h K ↔ wp d 175 836 ls (.int (x + y) :: st) h K := w_any (i := 175) (pc := 835) dL_law_835 rfl rfl
theorem dL_law_836 : decode cL_law 836 = .ok (.iaload, 1) := by decide +kernel
theorem w175_836 {d : Nat} {st : List Value} {h : xH} {K : Option Value → xH → Prop} {ls : xL} {a : Nat} {x : Int32} : wp d 175 836 ls (.int x :: .ref a :: st) h K ↔ y_iald h a x (fun v => wp d 175 837 ls (.int v :: st) h K) := w_iald (i := 175) (pc := 836) dL_law_836
theorem dL_law_837 : decode cL_law 837 = .ok (.invokevirtual 97, 3) := by decide +kernel
theorem w175_837 {d : Nat} {st : List Value} {h : xH} {K : Option Value → xH → Prop} {ls : xL} {a0 : Int32} {b : Nat} : wp (d + 1) 175 837 ls (.int a0 :: .ref b :: st) h K ↔ y_cls h b 7 ∧ xcs st ≤ 8 ∧ wp d 61 0 [some (.ref b), some (.int a0), none, none] [] h (fun v h1 => wp (d + 1) 175 840 ls (v.toList ++ st) h1 K) := w_callW (i := 175) (pc := 837) (as := [.int a0]) (rest := st) dL_law_837 rfl (by decide) rfl rfl (by decide) rfl rfl rfl rfl
theorem dL_law_840 : decode cL_law 840 = .ok (.aload_n 2, 1) := by decide +kernel
theorem w175_840 {d : Nat} {st : List Value} {h : xH} {K : Option Value → xH → Prop} {l0 l1 l3 : Option Value} {x : Nat} : wp d 175 840 [l0, l1, some (.ref x), l3] st h K ↔ wp d 175 841 [l0, l1, some (.ref x), l3] (.ref x :: st) h K := w_any (i := 175) (pc := 840) dL_law_840 rfl rfl
theorem w175_840n {d : Nat} {st : List Value} {h : xH} {K : Option Value → xH → Prop} {l0 l1 l3 : Option Value} : wp d 175 840 [l0, l1, some .null, l3] st h K ↔ wp d 175 841 [l0, l1, some .null, l3] (.null :: st) h K := w_any (i := 175) (pc := 840) dL_law_840 rfl rfl
theorem dL_law_841 : decode cL_law 841 = .ok (.aload_n 0, 1) := by decide +kernel
theorem w175_841 {d : Nat} {st : List Value} {h : xH} {K : Option Value → xH → Prop} {l1 l2 l3 : Option Value} {x : Nat} : wp d 175 841 [some (.ref x), l1, l2, l3] st h K ↔ wp d 175 842 [some (.ref x), l1, l2, l3] (.ref x :: st) h K := w_any (i := 175) (pc := 841) dL_law_841 rfl rfl
theorem w175_841n {d : Nat} {st : List Value} {h : xH} {K : Option Value → xH → Prop} {l1 l2 l3 : Option Value} : wp d 175 841 [some .null, l1, l2, l3] st h K ↔ wp d 175 842 [some .null, l1, l2, l3] (.null :: st) h K := w_any (i := 175) (pc := 841) dL_law_841 rfl rfl
theorem dL_law_842 : decode cL_law 842 = .ok (.iload_n 3, 1) := by decide +kernel
theorem w175_842 {d : Nat} {st : List Value} {h : xH} {K : Option Value → xH → Prop} {l0 l1 l2 : Option Value} {x : Int32} : wp d 175 842 [l0, l1, l2, some (.int x)] st h K ↔ wp d 175 843 [l0, l1, l2, some (.int x)] (.int x :: st) h K := w_any (i := 175) (pc := 842) dL_law_842 rfl rfl
theorem dL_law_843 : decode cL_law 843 = .ok (.iconst 1, 1) := by decide +kernel
theorem w175_843 {d : Nat} {st : List Value} {h : xH} {K : Option Value → xH → Prop} {ls : xL} : wp d 175 843 ls st h K ↔ wp d 175 844 ls (.int 1 :: st) h K := w_iconst (i := 175) (pc := 843) dL_law_843 (by decide)
theorem dL_law_844 : decode cL_law 844 = .ok (.iadd, 1) := by decide +kernel
theorem w175_844 {d : Nat} {st : List Value} {h : xH} {K : Option Value → xH → Prop} {ls : xL} {x y : Int32} : wp d 175 844 ls (.int y :: .int x :: st) h K ↔ wp d 175 845 ls (.int (x + y) :: st) h K := w_any (i := 175) (pc := 844) dL_law_844 rfl rfl
theorem dL_law_845 : decode cL_law 845 = .ok (.iaload, 1) := by decide +kernel
theorem w175_845 {d : Nat} {st : List Value} {h : xH} {K : Option Value → xH → Prop} {ls : xL} {a : Nat} {x : Int32} : wp d 175 845 ls (.int x :: .ref a :: st) h K ↔ y_iald h a x (fun v => wp d 175 846 ls (.int v :: st) h K) := w_iald (i := 175) (pc := 845) dL_law_845
theorem dL_law_846 : decode cL_law 846 = .ok (.invokevirtual 100, 3) := by decide +kernel
theorem w175_846 {d : Nat} {st : List Value} {h : xH} {K : Option Value → xH → Prop} {ls : xL} {a0 : Int32} {b : Nat} : wp (d + 1) 175 846 ls (.int a0 :: .ref b :: st) h K ↔ y_cls h b 8 ∧ xcs st ≤ 8 ∧ wp d 137 0 [some (.ref b), some (.int a0)] [] h (fun v h1 => wp (d + 1) 175 849 ls (v.toList ++ st) h1 K) := w_callW (i := 175) (pc := 846) (as := [.int a0]) (rest := st) dL_law_846 rfl (by decide) rfl rfl (by decide) rfl rfl rfl rfl
theorem dL_law_849 : decode cL_law 849 = .ok (.if_icmp .eq 372, 3) := by decide +kernel
theorem w175_849 {d : Nat} {st : List Value} {h : xH} {K : Option Value → xH → Prop} {ls : xL} {x y : Int32} : wp d 175 849 ls (.int y :: .int x :: st) h K ↔ ((x = y) → wp d 175 1221 ls st h K) ∧ ((¬ (x = y)) → wp d 175 852 ls st h K) := w_if2 (i := 175) (pc := 849) (cd := .eq) (off := 372) (tgt := 1221) dL_law_849 (by decide) rfl
theorem dL_law_852 : decode cL_law 852 = .ok (.iconst 0, 1) := by decide +kernel
theorem w175_852 {d : Nat} {st : List Value} {h : xH} {K : Option Value → xH → Prop} {ls : xL} : wp d 175 852 ls st h K ↔ wp d 175 853 ls (.int 0 :: st) h K := w_iconst (i := 175) (pc := 852) dL_law_852 (by decide)
theorem dL_law_853 : decode cL_law 853 = .ok (.ireturn, 1) := by decide +kernel
theorem w175_853 {d : Nat} {h : xH} {K : Option Value → xH → Prop} {ls : xL} {x : Int32} : wp d 175 853 ls [.int x] h K ↔ y_bool x ∧ K (some (.int x)) h := w_zret (i := 175) (pc := 853) dL_law_853 rfl
theorem dL_law_854 : decode cL_law 854 = .ok (.aload_n 1, 1) := by decide +kernel
theorem w175_854 {d : Nat} {st : List Value} {h : xH} {K : Option Value → xH → Prop} {l0 l2 l3 : Option Value} {x : Nat} : wp d 175 854 [l0, some (.ref x), l2, l3] st h K ↔ wp d 175 855 [l0, some (.ref x), l2, l3] (.ref x :: st) h K := w_any (i := 175) (pc := 854) dL_law_854 rfl rfl
theorem w175_854n {d : Nat} {st : List Value} {h : xH} {K : Option Value → xH → Prop} {l0 l2 l3 : Option Value} : wp d 175 854 [l0, some .null, l2, l3] st h K ↔ wp d 175 855 [l0, some .null, l2, l3] (.null :: st) h K := w_any (i := 175) (pc := 854) dL_law_854 rfl rfl
theorem dL_law_855 : decode cL_law 855 = .ok (.aload_n 0, 1) := by decide +kernel
theorem w175_855 {d : Nat} {st : List Value} {h : xH} {K : Option Value → xH → Prop} {l1 l2 l3 : Option Value} {x : Nat} : wp d 175 855 [some (.ref x), l1, l2, l3] st h K ↔ wp d 175 856 [some (.ref x), l1, l2, l3] (.ref x :: st) h K := w_any (i := 175) (pc := 855) dL_law_855 rfl rfl
theorem w175_855n {d : Nat} {st : List Value} {h : xH} {K : Option Value → xH → Prop} {l1 l2 l3 : Option Value} : wp d 175 855 [some .null, l1, l2, l3] st h K ↔ wp d 175 856 [some .null, l1, l2, l3] (.null :: st) h K := w_any (i := 175) (pc := 855) dL_law_855 rfl rfl
theorem dL_law_856 : decode cL_law 856 = .ok (.iload_n 3, 1) := by decide +kernel
theorem w175_856 {d : Nat} {st : List Value} {h : xH} {K : Option Value → xH → Prop} {l0 l1 l2 : Option Value} {x : Int32} : wp d 175 856 [l0, l1, l2, some (.int x)] st h K ↔ wp d 175 857 [l0, l1, l2, some (.int x)] (.int x :: st) h K := w_any (i := 175) (pc := 856) dL_law_856 rfl rfl
theorem dL_law_857 : decode cL_law 857 = .ok (.iconst 1, 1) := by decide +kernel
theorem w175_857 {d : Nat} {st : List Value} {h : xH} {K : Option Value → xH → Prop} {ls : xL} : wp d 175 857 ls st h K ↔ wp d 175 858 ls (.int 1 :: st) h K := w_iconst (i := 175) (pc := 857) dL_law_857 (by decide)
theorem dL_law_858 : decode cL_law 858 = .ok (.iadd, 1) := by decide +kernel
theorem w175_858 {d : Nat} {st : List Value} {h : xH} {K : Option Value → xH → Prop} {ls : xL} {x y : Int32} : wp d 175 858 ls (.int y :: .int x :: st) h K ↔ wp d 175 859 ls (.int (x + y) :: st) h K := w_any (i := 175) (pc := 858) dL_law_858 rfl rfl
theorem dL_law_859 : decode cL_law 859 = .ok (.iaload, 1) := by decide +kernel
theorem w175_859 {d : Nat} {st : List Value} {h : xH} {K : Option Value → xH → Prop} {ls : xL} {a : Nat} {x : Int32} : wp d 175 859 ls (.int x :: .ref a :: st) h K ↔ y_iald h a x (fun v => wp d 175 860 ls (.int v :: st) h K) := w_iald (i := 175) (pc := 859) dL_law_859
theorem dL_law_860 : decode cL_law 860 = .ok (.invokevirtual 101, 3) := by decide +kernel
theorem w175_860 {d : Nat} {st : List Value} {h : xH} {K : Option Value → xH → Prop} {ls : xL} {a0 : Int32} {b : Nat} : wp (d + 1) 175 860 ls (.int a0 :: .ref b :: st) h K ↔ y_cls h b 7 ∧ xcs st ≤ 8 ∧ wp d 62 0 [some (.ref b), some (.int a0), none, none, none, none, none, none] [] h (fun v h1 => wp (d + 1) 175 863 ls (v.toList ++ st) h1 K) := w_callW (i := 175) (pc := 860) (as := [.int a0]) (rest := st) dL_law_860 rfl (by decide) rfl rfl (by decide) rfl rfl rfl rfl
theorem dL_law_863 : decode cL_law 863 = .ok (.aload_n 2, 1) := by decide +kernel
theorem w175_863 {d : Nat} {st : List Value} {h : xH} {K : Option Value → xH → Prop} {l0 l1 l3 : Option Value} {x : Nat} : wp d 175 863 [l0, l1, some (.ref x), l3] st h K ↔ wp d 175 864 [l0, l1, some (.ref x), l3] (.ref x :: st) h K := w_any (i := 175) (pc := 863) dL_law_863 rfl rfl
theorem w175_863n {d : Nat} {st : List Value} {h : xH} {K : Option Value → xH → Prop} {l0 l1 l3 : Option Value} : wp d 175 863 [l0, l1, some .null, l3] st h K ↔ wp d 175 864 [l0, l1, some .null, l3] (.null :: st) h K := w_any (i := 175) (pc := 863) dL_law_863 rfl rfl
theorem dL_law_864 : decode cL_law 864 = .ok (.aload_n 0, 1) := by decide +kernel
theorem w175_864 {d : Nat} {st : List Value} {h : xH} {K : Option Value → xH → Prop} {l1 l2 l3 : Option Value} {x : Nat} : wp d 175 864 [some (.ref x), l1, l2, l3] st h K ↔ wp d 175 865 [some (.ref x), l1, l2, l3] (.ref x :: st) h K := w_any (i := 175) (pc := 864) dL_law_864 rfl rfl
theorem w175_864n {d : Nat} {st : List Value} {h : xH} {K : Option Value → xH → Prop} {l1 l2 l3 : Option Value} : wp d 175 864 [some .null, l1, l2, l3] st h K ↔ wp d 175 865 [some .null, l1, l2, l3] (.null :: st) h K := w_any (i := 175) (pc := 864) dL_law_864 rfl rfl
theorem dL_law_865 : decode cL_law 865 = .ok (.iload_n 3, 1) := by decide +kernel
theorem w175_865 {d : Nat} {st : List Value} {h : xH} {K : Option Value → xH → Prop} {l0 l1 l2 : Option Value} {x : Int32} : wp d 175 865 [l0, l1, l2, some (.int x)] st h K ↔ wp d 175 866 [l0, l1, l2, some (.int x)] (.int x :: st) h K := w_any (i := 175) (pc := 865) dL_law_865 rfl rfl
theorem dL_law_866 : decode cL_law 866 = .ok (.iconst 1, 1) := by decide +kernel
theorem w175_866 {d : Nat} {st : List Value} {h : xH} {K : Option Value → xH → Prop} {ls : xL} : wp d 175 866 ls st h K ↔ wp d 175 867 ls (.int 1 :: st) h K := w_iconst (i := 175) (pc := 866) dL_law_866 (by decide)
theorem dL_law_867 : decode cL_law 867 = .ok (.iadd, 1) := by decide +kernel
theorem w175_867 {d : Nat} {st : List Value} {h : xH} {K : Option Value → xH → Prop} {ls : xL} {x y : Int32} : wp d 175 867 ls (.int y :: .int x :: st) h K ↔ wp d 175 868 ls (.int (x + y) :: st) h K := w_any (i := 175) (pc := 867) dL_law_867 rfl rfl
theorem dL_law_868 : decode cL_law 868 = .ok (.iaload, 1) := by decide +kernel
theorem w175_868 {d : Nat} {st : List Value} {h : xH} {K : Option Value → xH → Prop} {ls : xL} {a : Nat} {x : Int32} : wp d 175 868 ls (.int x :: .ref a :: st) h K ↔ y_iald h a x (fun v => wp d 175 869 ls (.int v :: st) h K) := w_iald (i := 175) (pc := 868) dL_law_868
theorem dL_law_869 : decode cL_law 869 = .ok (.invokevirtual 104, 3) := by decide +kernel
theorem w175_869 {d : Nat} {st : List Value} {h : xH} {K : Option Value → xH → Prop} {ls : xL} {a0 : Int32} {b : Nat} : wp (d + 1) 175 869 ls (.int a0 :: .ref b :: st) h K ↔ y_cls h b 8 ∧ xcs st ≤ 8 ∧ wp d 139 0 [some (.ref b), some (.int a0), none, none, none, none] [] h (fun v h1 => wp (d + 1) 175 872 ls (v.toList ++ st) h1 K) := w_callW (i := 175) (pc := 869) (as := [.int a0]) (rest := st) dL_law_869 rfl (by decide) rfl rfl (by decide) rfl rfl rfl rfl
theorem dL_law_872 : decode cL_law 872 = .ok (.if_icmp .eq 349, 3) := by decide +kernel
theorem w175_872 {d : Nat} {st : List Value} {h : xH} {K : Option Value → xH → Prop} {ls : xL} {x y : Int32} : wp d 175 872 ls (.int y :: .int x :: st) h K ↔ ((x = y) → wp d 175 1221 ls st h K) ∧ ((¬ (x = y)) → wp d 175 875 ls st h K) := w_if2 (i := 175) (pc := 872) (cd := .eq) (off := 349) (tgt := 1221) dL_law_872 (by decide) rfl
theorem dL_law_875 : decode cL_law 875 = .ok (.iconst 0, 1) := by decide +kernel
theorem w175_875 {d : Nat} {st : List Value} {h : xH} {K : Option Value → xH → Prop} {ls : xL} : wp d 175 875 ls st h K ↔ wp d 175 876 ls (.int 0 :: st) h K := w_iconst (i := 175) (pc := 875) dL_law_875 (by decide)
theorem dL_law_876 : decode cL_law 876 = .ok (.ireturn, 1) := by decide +kernel
theorem w175_876 {d : Nat} {h : xH} {K : Option Value → xH → Prop} {ls : xL} {x : Int32} : wp d 175 876 ls [.int x] h K ↔ y_bool x ∧ K (some (.int x)) h := w_zret (i := 175) (pc := 876) dL_law_876 rfl
theorem dL_law_877 : decode cL_law 877 = .ok (.aload_n 1, 1) := by decide +kernel
theorem w175_877 {d : Nat} {st : List Value} {h : xH} {K : Option Value → xH → Prop} {l0 l2 l3 : Option Value} {x : Nat} : wp d 175 877 [l0, some (.ref x), l2, l3] st h K ↔ wp d 175 878 [l0, some (.ref x), l2, l3] (.ref x :: st) h K := w_any (i := 175) (pc := 877) dL_law_877 rfl rfl
theorem w175_877n {d : Nat} {st : List Value} {h : xH} {K : Option Value → xH → Prop} {l0 l2 l3 : Option Value} : wp d 175 877 [l0, some .null, l2, l3] st h K ↔ wp d 175 878 [l0, some .null, l2, l3] (.null :: st) h K := w_any (i := 175) (pc := 877) dL_law_877 rfl rfl
theorem dL_law_878 : decode cL_law 878 = .ok (.aload_n 0, 1) := by decide +kernel
theorem w175_878 {d : Nat} {st : List Value} {h : xH} {K : Option Value → xH → Prop} {l1 l2 l3 : Option Value} {x : Nat} : wp d 175 878 [some (.ref x), l1, l2, l3] st h K ↔ wp d 175 879 [some (.ref x), l1, l2, l3] (.ref x :: st) h K := w_any (i := 175) (pc := 878) dL_law_878 rfl rfl
theorem w175_878n {d : Nat} {st : List Value} {h : xH} {K : Option Value → xH → Prop} {l1 l2 l3 : Option Value} : wp d 175 878 [some .null, l1, l2, l3] st h K ↔ wp d 175 879 [some .null, l1, l2, l3] (.null :: st) h K := w_any (i := 175) (pc := 878) dL_law_878 rfl rfl
theorem dL_law_879 : decode cL_law 879 = .ok (.iload_n 3, 1) := by decide +kernel
theorem w175_879 {d : Nat} {st : List Value} {h : xH} {K : Option Value → xH → Prop} {l0 l1 l2 : Option Value} {x : Int32} : wp d 175 879 [l0, l1, l2, some (.int x)] st h K ↔ wp d 175 880 [l0, l1, l2, some (.int x)] (.int x :: st) h K := w_any (i := 175) (pc := 879) dL_law_879 rfl rfl
theorem dL_law_880 : decode cL_law 880 = .ok (.iconst 1, 1) := by decide +kernel
theorem w175_880 {d : Nat} {st : List Value} {h : xH} {K : Option Value → xH → Prop} {ls : xL} : wp d 175 880 ls st h K ↔ wp d 175 881 ls (.int 1 :: st) h K := w_iconst (i := 175) (pc := 880) dL_law_880 (by decide)
theorem dL_law_881 : decode cL_law 881 = .ok (.iadd, 1) := by decide +kernel
theorem w175_881 {d : Nat} {st : List Value} {h : xH} {K : Option Value → xH → Prop} {ls : xL} {x y : Int32} : wp d 175 881 ls (.int y :: .int x :: st) h K ↔ wp d 175 882 ls (.int (x + y) :: st) h K := w_any (i := 175) (pc := 881) dL_law_881 rfl rfl
theorem dL_law_882 : decode cL_law 882 = .ok (.iaload, 1) := by decide +kernel
theorem w175_882 {d : Nat} {st : List Value} {h : xH} {K : Option Value → xH → Prop} {ls : xL} {a : Nat} {x : Int32} : wp d 175 882 ls (.int x :: .ref a :: st) h K ↔ y_iald h a x (fun v => wp d 175 883 ls (.int v :: st) h K) := w_iald (i := 175) (pc := 882) dL_law_882
theorem dL_law_883 : decode cL_law 883 = .ok (.aload_n 0, 1) := by decide +kernel
theorem w175_883 {d : Nat} {st : List Value} {h : xH} {K : Option Value → xH → Prop} {l1 l2 l3 : Option Value} {x : Nat} : wp d 175 883 [some (.ref x), l1, l2, l3] st h K ↔ wp d 175 884 [some (.ref x), l1, l2, l3] (.ref x :: st) h K := w_any (i := 175) (pc := 883) dL_law_883 rfl rfl
theorem w175_883n {d : Nat} {st : List Value} {h : xH} {K : Option Value → xH → Prop} {l1 l2 l3 : Option Value} : wp d 175 883 [some .null, l1, l2, l3] st h K ↔ wp d 175 884 [some .null, l1, l2, l3] (.null :: st) h K := w_any (i := 175) (pc := 883) dL_law_883 rfl rfl
theorem dL_law_884 : decode cL_law 884 = .ok (.iload_n 3, 1) := by decide +kernel
theorem w175_884 {d : Nat} {st : List Value} {h : xH} {K : Option Value → xH → Prop} {l0 l1 l2 : Option Value} {x : Int32} : wp d 175 884 [l0, l1, l2, some (.int x)] st h K ↔ wp d 175 885 [l0, l1, l2, some (.int x)] (.int x :: st) h K := w_any (i := 175) (pc := 884) dL_law_884 rfl rfl
theorem dL_law_885 : decode cL_law 885 = .ok (.iconst 2, 1) := by decide +kernel
theorem w175_885 {d : Nat} {st : List Value} {h : xH} {K : Option Value → xH → Prop} {ls : xL} : wp d 175 885 ls st h K ↔ wp d 175 886 ls (.int 2 :: st) h K := w_iconst (i := 175) (pc := 885) dL_law_885 (by decide)
theorem dL_law_886 : decode cL_law 886 = .ok (.iadd, 1) := by decide +kernel
theorem w175_886 {d : Nat} {st : List Value} {h : xH} {K : Option Value → xH → Prop} {ls : xL} {x y : Int32} : wp d 175 886 ls (.int y :: .int x :: st) h K ↔ wp d 175 887 ls (.int (x + y) :: st) h K := w_any (i := 175) (pc := 886) dL_law_886 rfl rfl
theorem dL_law_887 : decode cL_law 887 = .ok (.iaload, 1) := by decide +kernel
theorem w175_887 {d : Nat} {st : List Value} {h : xH} {K : Option Value → xH → Prop} {ls : xL} {a : Nat} {x : Int32} : wp d 175 887 ls (.int x :: .ref a :: st) h K ↔ y_iald h a x (fun v => wp d 175 888 ls (.int v :: st) h K) := w_iald (i := 175) (pc := 887) dL_law_887
theorem dL_law_888 : decode cL_law 888 = .ok (.aload_n 0, 1) := by decide +kernel
theorem w175_888 {d : Nat} {st : List Value} {h : xH} {K : Option Value → xH → Prop} {l1 l2 l3 : Option Value} {x : Nat} : wp d 175 888 [some (.ref x), l1, l2, l3] st h K ↔ wp d 175 889 [some (.ref x), l1, l2, l3] (.ref x :: st) h K := w_any (i := 175) (pc := 888) dL_law_888 rfl rfl
theorem w175_888n {d : Nat} {st : List Value} {h : xH} {K : Option Value → xH → Prop} {l1 l2 l3 : Option Value} : wp d 175 888 [some .null, l1, l2, l3] st h K ↔ wp d 175 889 [some .null, l1, l2, l3] (.null :: st) h K := w_any (i := 175) (pc := 888) dL_law_888 rfl rfl
theorem dL_law_889 : decode cL_law 889 = .ok (.iload_n 3, 1) := by decide +kernel
theorem w175_889 {d : Nat} {st : List Value} {h : xH} {K : Option Value → xH → Prop} {l0 l1 l2 : Option Value} {x : Int32} : wp d 175 889 [l0, l1, l2, some (.int x)] st h K ↔ wp d 175 890 [l0, l1, l2, some (.int x)] (.int x :: st) h K := w_any (i := 175) (pc := 889) dL_law_889 rfl rfl
theorem dL_law_890 : decode cL_law 890 = .ok (.iconst 3, 1) := by decide +kernel
theorem w175_890 {d : Nat} {st : List Value} {h : xH} {K : Option Value → xH → Prop} {ls : xL} : wp d 175 890 ls st h K ↔ wp d 175 891 ls (.int 3 :: st) h K := w_iconst (i := 175) (pc := 890) dL_law_890 (by decide)
theorem dL_law_891 : decode cL_law 891 = .ok (.iadd, 1) := by decide +kernel
theorem w175_891 {d : Nat} {st : List Value} {h : xH} {K : Option Value → xH → Prop} {ls : xL} {x y : Int32} : wp d 175 891 ls (.int y :: .int x :: st) h K ↔ wp d 175 892 ls (.int (x + y) :: st) h K := w_any (i := 175) (pc := 891) dL_law_891 rfl rfl
theorem dL_law_892 : decode cL_law 892 = .ok (.iaload, 1) := by decide +kernel
theorem w175_892 {d : Nat} {st : List Value} {h : xH} {K : Option Value → xH → Prop} {ls : xL} {a : Nat} {x : Int32} : wp d 175 892 ls (.int x :: .ref a :: st) h K ↔ y_iald h a x (fun v => wp d 175 893 ls (.int v :: st) h K) := w_iald (i := 175) (pc := 892) dL_law_892
theorem dL_law_893 : decode cL_law 893 = .ok (.invokevirtual 105, 3) := by decide +kernel
theorem w175_893 {d : Nat} {st : List Value} {h : xH} {K : Option Value → xH → Prop} {ls : xL} {a0 : Int32} {a1 : Int32} {a2 : Int32} {b : Nat} : wp (d + 1) 175 893 ls (.int a2 :: .int a1 :: .int a0 :: .ref b :: st) h K ↔ y_cls h b 7 ∧ xcs st ≤ 8 ∧ wp d 63 0 [some (.ref b), some (.int a0), some (.int a1), some (.int a2), none] [] h (fun v h1 => wp (d + 1) 175 896 ls (v.toList ++ st) h1 K) := w_callW (i := 175) (pc := 893) (as := [.int a0, .int a1, .int a2]) (rest := st) dL_law_893 rfl (by decide) rfl rfl (by decide) rfl rfl rfl rfl
theorem dL_law_896 : decode cL_law 896 = .ok (.aload_n 2, 1) := by decide +kernel
theorem w175_896 {d : Nat} {st : List Value} {h : xH} {K : Option Value → xH → Prop} {l0 l1 l3 : Option Value} {x : Nat} : wp d 175 896 [l0, l1, some (.ref x), l3] st h K ↔ wp d 175 897 [l0, l1, some (.ref x), l3] (.ref x :: st) h K := w_any (i := 175) (pc := 896) dL_law_896 rfl rfl
theorem w175_896n {d : Nat} {st : List Value} {h : xH} {K : Option Value → xH → Prop} {l0 l1 l3 : Option Value} : wp d 175 896 [l0, l1, some .null, l3] st h K ↔ wp d 175 897 [l0, l1, some .null, l3] (.null :: st) h K := w_any (i := 175) (pc := 896) dL_law_896 rfl rfl
theorem dL_law_897 : decode cL_law 897 = .ok (.aload_n 0, 1) := by decide +kernel
theorem w175_897 {d : Nat} {st : List Value} {h : xH} {K : Option Value → xH → Prop} {l1 l2 l3 : Option Value} {x : Nat} : wp d 175 897 [some (.ref x), l1, l2, l3] st h K ↔ wp d 175 898 [some (.ref x), l1, l2, l3] (.ref x :: st) h K := w_any (i := 175) (pc := 897) dL_law_897 rfl rfl
theorem w175_897n {d : Nat} {st : List Value} {h : xH} {K : Option Value → xH → Prop} {l1 l2 l3 : Option Value} : wp d 175 897 [some .null, l1, l2, l3] st h K ↔ wp d 175 898 [some .null, l1, l2, l3] (.null :: st) h K := w_any (i := 175) (pc := 897) dL_law_897 rfl rfl
theorem dL_law_898 : decode cL_law 898 = .ok (.iload_n 3, 1) := by decide +kernel
theorem w175_898 {d : Nat} {st : List Value} {h : xH} {K : Option Value → xH → Prop} {l0 l1 l2 : Option Value} {x : Int32} : wp d 175 898 [l0, l1, l2, some (.int x)] st h K ↔ wp d 175 899 [l0, l1, l2, some (.int x)] (.int x :: st) h K := w_any (i := 175) (pc := 898) dL_law_898 rfl rfl
theorem dL_law_899 : decode cL_law 899 = .ok (.iconst 1, 1) := by decide +kernel
theorem w175_899 {d : Nat} {st : List Value} {h : xH} {K : Option Value → xH → Prop} {ls : xL} : wp d 175 899 ls st h K ↔ wp d 175 900 ls (.int 1 :: st) h K := w_iconst (i := 175) (pc := 899) dL_law_899 (by decide)
theorem dL_law_900 : decode cL_law 900 = .ok (.iadd, 1) := by decide +kernel
theorem w175_900 {d : Nat} {st : List Value} {h : xH} {K : Option Value → xH → Prop} {ls : xL} {x y : Int32} : wp d 175 900 ls (.int y :: .int x :: st) h K ↔ wp d 175 901 ls (.int (x + y) :: st) h K := w_any (i := 175) (pc := 900) dL_law_900 rfl rfl
theorem dL_law_901 : decode cL_law 901 = .ok (.iaload, 1) := by decide +kernel
theorem w175_901 {d : Nat} {st : List Value} {h : xH} {K : Option Value → xH → Prop} {ls : xL} {a : Nat} {x : Int32} : wp d 175 901 ls (.int x :: .ref a :: st) h K ↔ y_iald h a x (fun v => wp d 175 902 ls (.int v :: st) h K) := w_iald (i := 175) (pc := 901) dL_law_901
theorem dL_law_902 : decode cL_law 902 = .ok (.aload_n 0, 1) := by decide +kernel
theorem w175_902 {d : Nat} {st : List Value} {h : xH} {K : Option Value → xH → Prop} {l1 l2 l3 : Option Value} {x : Nat} : wp d 175 902 [some (.ref x), l1, l2, l3] st h K ↔ wp d 175 903 [some (.ref x), l1, l2, l3] (.ref x :: st) h K := w_any (i := 175) (pc := 902) dL_law_902 rfl rfl
theorem w175_902n {d : Nat} {st : List Value} {h : xH} {K : Option Value → xH → Prop} {l1 l2 l3 : Option Value} : wp d 175 902 [some .null, l1, l2, l3] st h K ↔ wp d 175 903 [some .null, l1, l2, l3] (.null :: st) h K := w_any (i := 175) (pc := 902) dL_law_902 rfl rfl
theorem dL_law_903 : decode cL_law 903 = .ok (.iload_n 3, 1) := by decide +kernel
theorem w175_903 {d : Nat} {st : List Value} {h : xH} {K : Option Value → xH → Prop} {l0 l1 l2 : Option Value} {x : Int32} : wp d 175 903 [l0, l1, l2, some (.int x)] st h K ↔ wp d 175 904 [l0, l1, l2, some (.int x)] (.int x :: st) h K := w_any (i := 175) (pc := 903) dL_law_903 rfl rfl
theorem dL_law_904 : decode cL_law 904 = .ok (.iconst 2, 1) := by decide +kernel
theorem w175_904 {d : Nat} {st : List Value} {h : xH} {K : Option Value → xH → Prop} {ls : xL} : wp d 175 904 ls st h K ↔ wp d 175 905 ls (.int 2 :: st) h K := w_iconst (i := 175) (pc := 904) dL_law_904 (by decide)
theorem dL_law_905 : decode cL_law 905 = .ok (.iadd, 1) := by decide +kernel
theorem w175_905 {d : Nat} {st : List Value} {h : xH} {K : Option Value → xH → Prop} {ls : xL} {x y : Int32} : wp d 175 905 ls (.int y :: .int x :: st) h K ↔ wp d 175 906 ls (.int (x + y) :: st) h K := w_any (i := 175) (pc := 905) dL_law_905 rfl rfl
theorem dL_law_906 : decode cL_law 906 = .ok (.iaload, 1) := by decide +kernel
theorem w175_906 {d : Nat} {st : List Value} {h : xH} {K : Option Value → xH → Prop} {ls : xL} {a : Nat} {x : Int32} : wp d 175 906 ls (.int x :: .ref a :: st) h K ↔ y_iald h a x (fun v => wp d 175 907 ls (.int v :: st) h K) := w_iald (i := 175) (pc := 906) dL_law_906
theorem dL_law_907 : decode cL_law 907 = .ok (.aload_n 0, 1) := by decide +kernel
theorem w175_907 {d : Nat} {st : List Value} {h : xH} {K : Option Value → xH → Prop} {l1 l2 l3 : Option Value} {x : Nat} : wp d 175 907 [some (.ref x), l1, l2, l3] st h K ↔ wp d 175 908 [some (.ref x), l1, l2, l3] (.ref x :: st) h K := w_any (i := 175) (pc := 907) dL_law_907 rfl rfl
theorem w175_907n {d : Nat} {st : List Value} {h : xH} {K : Option Value → xH → Prop} {l1 l2 l3 : Option Value} : wp d 175 907 [some .null, l1, l2, l3] st h K ↔ wp d 175 908 [some .null, l1, l2, l3] (.null :: st) h K := w_any (i := 175) (pc := 907) dL_law_907 rfl rfl
theorem dL_law_908 : decode cL_law 908 = .ok (.iload_n 3, 1) := by decide +kernel
theorem w175_908 {d : Nat} {st : List Value} {h : xH} {K : Option Value → xH → Prop} {l0 l1 l2 : Option Value} {x : Int32} : wp d 175 908 [l0, l1, l2, some (.int x)] st h K ↔ wp d 175 909 [l0, l1, l2, some (.int x)] (.int x :: st) h K := w_any (i := 175) (pc := 908) dL_law_908 rfl rfl
theorem dL_law_909 : decode cL_law 909 = .ok (.iconst 3, 1) := by decide +kernel
theorem w175_909 {d : Nat} {st : List Value} {h : xH} {K : Option Value → xH → Prop} {ls : xL} : wp d 175 909 ls st h K ↔ wp d 175 910 ls (.int 3 :: st) h K := w_iconst (i := 175) (pc := 909) dL_law_909 (by decide)
theorem dL_law_910 : decode cL_law 910 = .ok (.iadd, 1) := by decide +kernel
theorem w175_910 {d : Nat} {st : List Value} {h : xH} {K : Option Value → xH → Prop} {ls : xL} {x y : Int32} : wp d 175 910 ls (.int y :: .int x :: st) h K ↔ wp d 175 911 ls (.int (x + y) :: st) h K := w_any (i := 175) (pc := 910) dL_law_910 rfl rfl
theorem dL_law_911 : decode cL_law 911 = .ok (.iaload, 1) := by decide +kernel
theorem w175_911 {d : Nat} {st : List Value} {h : xH} {K : Option Value → xH → Prop} {ls : xL} {a : Nat} {x : Int32} : wp d 175 911 ls (.int x :: .ref a :: st) h K ↔ y_iald h a x (fun v => wp d 175 912 ls (.int v :: st) h K) := w_iald (i := 175) (pc := 911) dL_law_911
theorem dL_law_912 : decode cL_law 912 = .ok (.invokevirtual 108, 3) := by decide +kernel
theorem w175_912 {d : Nat} {st : List Value} {h : xH} {K : Option Value → xH → Prop} {ls : xL} {a0 : Int32} {a1 : Int32} {a2 : Int32} {b : Nat} : wp (d + 1) 175 912 ls (.int a2 :: .int a1 :: .int a0 :: .ref b :: st) h K ↔ y_cls h b 8 ∧ xcs st ≤ 8 ∧ wp d 140 0 [some (.ref b), some (.int a0), some (.int a1), some (.int a2), none] [] h (fun v h1 => wp (d + 1) 175 915 ls (v.toList ++ st) h1 K) := w_callW (i := 175) (pc := 912) (as := [.int a0, .int a1, .int a2]) (rest := st) dL_law_912 rfl (by decide) rfl rfl (by decide) rfl rfl rfl rfl
theorem dL_law_915 : decode cL_law 915 = .ok (.if_icmp .eq 306, 3) := by decide +kernel
theorem w175_915 {d : Nat} {st : List Value} {h : xH} {K : Option Value → xH → Prop} {ls : xL} {x y : Int32} : wp d 175 915 ls (.int y :: .int x :: st) h K ↔ ((x = y) → wp d 175 1221 ls st h K) ∧ ((¬ (x = y)) → wp d 175 918 ls st h K) := w_if2 (i := 175) (pc := 915) (cd := .eq) (off := 306) (tgt := 1221) dL_law_915 (by decide) rfl
theorem dL_law_918 : decode cL_law 918 = .ok (.iconst 0, 1) := by decide +kernel
theorem w175_918 {d : Nat} {st : List Value} {h : xH} {K : Option Value → xH → Prop} {ls : xL} : wp d 175 918 ls st h K ↔ wp d 175 919 ls (.int 0 :: st) h K := w_iconst (i := 175) (pc := 918) dL_law_918 (by decide)
theorem dL_law_919 : decode cL_law 919 = .ok (.ireturn, 1) := by decide +kernel
theorem w175_919 {d : Nat} {h : xH} {K : Option Value → xH → Prop} {ls : xL} {x : Int32} : wp d 175 919 ls [.int x] h K ↔ y_bool x ∧ K (some (.int x)) h := w_zret (i := 175) (pc := 919) dL_law_919 rfl
theorem dL_law_920 : decode cL_law 920 = .ok (.aload_n 1, 1) := by decide +kernel
theorem w175_920 {d : Nat} {st : List Value} {h : xH} {K : Option Value → xH → Prop} {l0 l2 l3 : Option Value} {x : Nat} : wp d 175 920 [l0, some (.ref x), l2, l3] st h K ↔ wp d 175 921 [l0, some (.ref x), l2, l3] (.ref x :: st) h K := w_any (i := 175) (pc := 920) dL_law_920 rfl rfl
theorem w175_920n {d : Nat} {st : List Value} {h : xH} {K : Option Value → xH → Prop} {l0 l2 l3 : Option Value} : wp d 175 920 [l0, some .null, l2, l3] st h K ↔ wp d 175 921 [l0, some .null, l2, l3] (.null :: st) h K := w_any (i := 175) (pc := 920) dL_law_920 rfl rfl
theorem dL_law_921 : decode cL_law 921 = .ok (.aload_n 0, 1) := by decide +kernel
theorem w175_921 {d : Nat} {st : List Value} {h : xH} {K : Option Value → xH → Prop} {l1 l2 l3 : Option Value} {x : Nat} : wp d 175 921 [some (.ref x), l1, l2, l3] st h K ↔ wp d 175 922 [some (.ref x), l1, l2, l3] (.ref x :: st) h K := w_any (i := 175) (pc := 921) dL_law_921 rfl rfl
theorem w175_921n {d : Nat} {st : List Value} {h : xH} {K : Option Value → xH → Prop} {l1 l2 l3 : Option Value} : wp d 175 921 [some .null, l1, l2, l3] st h K ↔ wp d 175 922 [some .null, l1, l2, l3] (.null :: st) h K := w_any (i := 175) (pc := 921) dL_law_921 rfl rfl
theorem dL_law_922 : decode cL_law 922 = .ok (.iload_n 3, 1) := by decide +kernel
theorem w175_922 {d : Nat} {st : List Value} {h : xH} {K : Option Value → xH → Prop} {l0 l1 l2 : Option Value} {x : Int32} : wp d 175 922 [l0, l1, l2, some (.int x)] st h K ↔ wp d 175 923 [l0, l1, l2, some (.int x)] (.int x :: st) h K := w_any (i := 175) (pc := 922) dL_law_922 rfl rfl
theorem dL_law_923 : decode cL_law 923 = .ok (.iconst 1, 1) := by decide +kernel
theorem w175_923 {d : Nat} {st : List Value} {h : xH} {K : Option Value → xH → Prop} {ls : xL} : wp d 175 923 ls st h K ↔ wp d 175 924 ls (.int 1 :: st) h K := w_iconst (i := 175) (pc := 923) dL_law_923 (by decide)
theorem dL_law_924 : decode cL_law 924 = .ok (.iadd, 1) := by decide +kernel
theorem w175_924 {d : Nat} {st : List Value} {h : xH} {K : Option Value → xH → Prop} {ls : xL} {x y : Int32} : wp d 175 924 ls (.int y :: .int x :: st) h K ↔ wp d 175 925 ls (.int (x + y) :: st) h K := w_any (i := 175) (pc := 924) dL_law_924 rfl rfl
theorem dL_law_925 : decode cL_law 925 = .ok (.iaload, 1) := by decide +kernel
theorem w175_925 {d : Nat} {st : List Value} {h : xH} {K : Option Value → xH → Prop} {ls : xL} {a : Nat} {x : Int32} : wp d 175 925 ls (.int x :: .ref a :: st) h K ↔ y_iald h a x (fun v => wp d 175 926 ls (.int v :: st) h K) := w_iald (i := 175) (pc := 925) dL_law_925
theorem dL_law_926 : decode cL_law 926 = .ok (.invokevirtual 109, 3) := by decide +kernel
theorem w175_926 {d : Nat} {st : List Value} {h : xH} {K : Option Value → xH → Prop} {ls : xL} {a0 : Int32} {b : Nat} : wp (d + 1) 175 926 ls (.int a0 :: .ref b :: st) h K ↔ y_cls h b 7 ∧ xcs st ≤ 8 ∧ wp d 64 0 [some (.ref b), some (.int a0), none, none] [] h (fun v h1 => wp (d + 1) 175 929 ls (v.toList ++ st) h1 K) := w_callW (i := 175) (pc := 926) (as := [.int a0]) (rest := st) dL_law_926 rfl (by decide) rfl rfl (by decide) rfl rfl rfl rfl
theorem dL_law_929 : decode cL_law 929 = .ok (.aload_n 2, 1) := by decide +kernel
theorem w175_929 {d : Nat} {st : List Value} {h : xH} {K : Option Value → xH → Prop} {l0 l1 l3 : Option Value} {x : Nat} : wp d 175 929 [l0, l1, some (.ref x), l3] st h K ↔ wp d 175 930 [l0, l1, some (.ref x), l3] (.ref x :: st) h K := w_any (i := 175) (pc := 929) dL_law_929 rfl rfl
theorem w175_929n {d : Nat} {st : List Value} {h : xH} {K : Option Value → xH → Prop} {l0 l1 l3 : Option Value} : wp d 175 929 [l0, l1, some .null, l3] st h K ↔ wp d 175 930 [l0, l1, some .null, l3] (.null :: st) h K := w_any (i := 175) (pc := 929) dL_law_929 rfl rfl
theorem dL_law_930 : decode cL_law 930 = .ok (.aload_n 0, 1) := by decide +kernel
theorem w175_930 {d : Nat} {st : List Value} {h : xH} {K : Option Value → xH → Prop} {l1 l2 l3 : Option Value} {x : Nat} : wp d 175 930 [some (.ref x), l1, l2, l3] st h K ↔ wp d 175 931 [some (.ref x), l1, l2, l3] (.ref x :: st) h K := w_any (i := 175) (pc := 930) dL_law_930 rfl rfl
theorem w175_930n {d : Nat} {st : List Value} {h : xH} {K : Option Value → xH → Prop} {l1 l2 l3 : Option Value} : wp d 175 930 [some .null, l1, l2, l3] st h K ↔ wp d 175 931 [some .null, l1, l2, l3] (.null :: st) h K := w_any (i := 175) (pc := 930) dL_law_930 rfl rfl
theorem dL_law_931 : decode cL_law 931 = .ok (.iload_n 3, 1) := by decide +kernel
theorem w175_931 {d : Nat} {st : List Value} {h : xH} {K : Option Value → xH → Prop} {l0 l1 l2 : Option Value} {x : Int32} : wp d 175 931 [l0, l1, l2, some (.int x)] st h K ↔ wp d 175 932 [l0, l1, l2, some (.int x)] (.int x :: st) h K := w_any (i := 175) (pc := 931) dL_law_931 rfl rfl
theorem dL_law_932 : decode cL_law 932 = .ok (.iconst 1, 1) := by decide +kernel
theorem w175_932 {d : Nat} {st : List Value} {h : xH} {K : Option Value → xH → Prop} {ls : xL} : wp d 175 932 ls st h K ↔ wp d 175 933 ls (.int 1 :: st) h K := w_iconst (i := 175) (pc := 932) dL_law_932 (by decide)
theorem dL_law_933 : decode cL_law 933 = .ok (.iadd, 1) := by decide +kernel
theorem w175_933 {d : Nat} {st : List Value} {h : xH} {K : Option Value → xH → Prop} {ls : xL} {x y : Int32} : wp d 175 933 ls (.int y :: .int x :: st) h K ↔ wp d 175 934 ls (.int (x + y) :: st) h K := w_any (i := 175) (pc := 933) dL_law_933 rfl rfl
theorem dL_law_934 : decode cL_law 934 = .ok (.iaload, 1) := by decide +kernel
theorem w175_934 {d : Nat} {st : List Value} {h : xH} {K : Option Value → xH → Prop} {ls : xL} {a : Nat} {x : Int32} : wp d 175 934 ls (.int x :: .ref a :: st) h K ↔ y_iald h a x (fun v => wp d 175 935 ls (.int v :: st) h K) := w_iald (i := 175) (pc := 934) dL_law_934
theorem dL_law_935 : decode cL_law 935 = .ok (.invokevirtual 112, 3) := by decide +kernel
theorem w175_935 {d : Nat} {st : List Value} {h : xH} {K : Option Value → xH → Prop} {ls : xL} {a0 : Int32} {b : Nat} : wp (d + 1) 175 935 ls (.int a0 :: .ref b :: st) h K ↔ y_cls h b 8 ∧ xcs st ≤ 8 ∧ wp d 141 0 [some (.ref b), some (.int a0), none] [] h (fun v h1 => wp (d + 1) 175 938 ls (v.toList ++ st) h1 K) := w_callW (i := 175) (pc := 935) (as := [.int a0]) (rest := st) dL_law_935 rfl (by decide) rfl rfl (by decide) rfl rfl rfl rfl
theorem dL_law_938 : decode cL_law 938 = .ok (.if_icmp .eq 283, 3) := by decide +kernel
theorem w175_938 {d : Nat} {st : List Value} {h : xH} {K : Option Value → xH → Prop} {ls : xL} {x y : Int32} : wp d 175 938 ls (.int y :: .int x :: st) h K ↔ ((x = y) → wp d 175 1221 ls st h K) ∧ ((¬ (x = y)) → wp d 175 941 ls st h K) := w_if2 (i := 175) (pc := 938) (cd := .eq) (off := 283) (tgt := 1221) dL_law_938 (by decide) rfl
theorem dL_law_941 : decode cL_law 941 = .ok (.iconst 0, 1) := by decide +kernel
theorem w175_941 {d : Nat} {st : List Value} {h : xH} {K : Option Value → xH → Prop} {ls : xL} : wp d 175 941 ls st h K ↔ wp d 175 942 ls (.int 0 :: st) h K := w_iconst (i := 175) (pc := 941) dL_law_941 (by decide)
theorem dL_law_942 : decode cL_law 942 = .ok (.ireturn, 1) := by decide +kernel
theorem w175_942 {d : Nat} {h : xH} {K : Option Value → xH → Prop} {ls : xL} {x : Int32} : wp d 175 942 ls [.int x] h K ↔ y_bool x ∧ K (some (.int x)) h := w_zret (i := 175) (pc := 942) dL_law_942 rfl
theorem dL_law_943 : decode cL_law 943 = .ok (.aload_n 1, 1) := by decide +kernel
theorem w175_943 {d : Nat} {st : List Value} {h : xH} {K : Option Value → xH → Prop} {l0 l2 l3 : Option Value} {x : Nat} : wp d 175 943 [l0, some (.ref x), l2, l3] st h K ↔ wp d 175 944 [l0, some (.ref x), l2, l3] (.ref x :: st) h K := w_any (i := 175) (pc := 943) dL_law_943 rfl rfl
theorem w175_943n {d : Nat} {st : List Value} {h : xH} {K : Option Value → xH → Prop} {l0 l2 l3 : Option Value} : wp d 175 943 [l0, some .null, l2, l3] st h K ↔ wp d 175 944 [l0, some .null, l2, l3] (.null :: st) h K := w_any (i := 175) (pc := 943) dL_law_943 rfl rfl
theorem dL_law_944 : decode cL_law 944 = .ok (.aload_n 0, 1) := by decide +kernel
theorem w175_944 {d : Nat} {st : List Value} {h : xH} {K : Option Value → xH → Prop} {l1 l2 l3 : Option Value} {x : Nat} : wp d 175 944 [some (.ref x), l1, l2, l3] st h K ↔ wp d 175 945 [some (.ref x), l1, l2, l3] (.ref x :: st) h K := w_any (i := 175) (pc := 944) dL_law_944 rfl rfl
theorem w175_944n {d : Nat} {st : List Value} {h : xH} {K : Option Value → xH → Prop} {l1 l2 l3 : Option Value} : wp d 175 944 [some .null, l1, l2, l3] st h K ↔ wp d 175 945 [some .null, l1, l2, l3] (.null :: st) h K := w_any (i := 175) (pc := 944) dL_law_944 rfl rfl
theorem dL_law_945 : decode cL_law 945 = .ok (.iload_n 3, 1) := by decide +kernel
theorem w175_945 {d : Nat} {st : List Value} {h : xH} {K : Option Value → xH → Prop} {l0 l1 l2 : Option Value} {x : Int32} : wp d 175 945 [l0, l1, l2, some (.int x)] st h K ↔ wp d 175 946 [l0, l1, l2, some (.int x)] (.int x :: st) h K := w_any (i := 175) (pc := 945) dL_law_945 rfl rfl
theorem dL_law_946 : decode cL_law 946 = .ok (.iconst 1, 1) := by decide +kernel
theorem w175_946 {d : Nat} {st : List Value} {h : xH} {K : Option Value → xH → Prop} {ls : xL} : wp d 175 946 ls st h K ↔ wp d 175 947 ls (.int 1 :: st) h K := w_iconst (i := 175) (pc := 946) dL_law_946 (by decide)
theorem dL_law_947 : decode cL_law 947 = .ok (.iadd, 1) := by decide +kernel
theorem w175_947 {d : Nat} {st : List Value} {h : xH} {K : Option Value → xH → Prop} {ls : xL} {x y : Int32} : wp d 175 947 ls (.int y :: .int x :: st) h K ↔ wp d 175 948 ls (.int (x + y) :: st) h K := w_any (i := 175) (pc := 947) dL_law_947 rfl rfl
theorem dL_law_948 : decode cL_law 948 = .ok (.iaload, 1) := by decide +kernel
theorem w175_948 {d : Nat} {st : List Value} {h : xH} {K : Option Value → xH → Prop} {ls : xL} {a : Nat} {x : Int32} : wp d 175 948 ls (.int x :: .ref a :: st) h K ↔ y_iald h a x (fun v => wp d 175 949 ls (.int v :: st) h K) := w_iald (i := 175) (pc := 948) dL_law_948
theorem dL_law_949 : decode cL_law 949 = .ok (.aload_n 0, 1) := by decide +kernel
theorem w175_949 {d : Nat} {st : List Value} {h : xH} {K : Option Value → xH → Prop} {l1 l2 l3 : Option Value} {x : Nat} : wp d 175 949 [some (.ref x), l1, l2, l3] st h K ↔ wp d 175 950 [some (.ref x), l1, l2, l3] (.ref x :: st) h K := w_any (i := 175) (pc := 949) dL_law_949 rfl rfl
theorem w175_949n {d : Nat} {st : List Value} {h : xH} {K : Option Value → xH → Prop} {l1 l2 l3 : Option Value} : wp d 175 949 [some .null, l1, l2, l3] st h K ↔ wp d 175 950 [some .null, l1, l2, l3] (.null :: st) h K := w_any (i := 175) (pc := 949) dL_law_949 rfl rfl
theorem dL_law_950 : decode cL_law 950 = .ok (.iload_n 3, 1) := by decide +kernel
theorem w175_950 {d : Nat} {st : List Value} {h : xH} {K : Option Value → xH → Prop} {l0 l1 l2 : Option Value} {x : Int32} : wp d 175 950 [l0, l1, l2, some (.int x)] st h K ↔ wp d 175 951 [l0, l1, l2, some (.int x)] (.int x :: st) h K := w_any (i := 175) (pc := 950) dL_law_950 rfl rfl
theorem dL_law_951 : decode cL_law 951 = .ok (.iconst 2, 1) := by decide +kernel
theorem w175_951 {d : Nat} {st : List Value} {h : xH} {K : Option Value → xH → Prop} {ls : xL} : wp d 175 951 ls st h K ↔ wp d 175 952 ls (.int 2 :: st) h K := w_iconst (i := 175) (pc := 951) dL_law_951 (by decide)
theorem dL_law_952 : decode cL_law 952 = .ok (.iadd, 1) := by decide +kernel
theorem w175_952 {d : Nat} {st : List Value} {h : xH} {K : Option Value → xH → Prop} {ls : xL} {x y : Int32} : wp d 175 952 ls (.int y :: .int x :: st) h K ↔ wp d 175 953 ls (.int (x + y) :: st) h K := w_any (i := 175) (pc := 952) dL_law_952 rfl rfl
theorem dL_law_953 : decode cL_law 953 = .ok (.iaload, 1) := by decide +kernel
theorem w175_953 {d : Nat} {st : List Value} {h : xH} {K : Option Value → xH → Prop} {ls : xL} {a : Nat} {x : Int32} : wp d 175 953 ls (.int x :: .ref a :: st) h K ↔ y_iald h a x (fun v => wp d 175 954 ls (.int v :: st) h K) := w_iald (i := 175) (pc := 953) dL_law_953
theorem dL_law_954 : decode cL_law 954 = .ok (.aload_n 0, 1) := by decide +kernel
theorem w175_954 {d : Nat} {st : List Value} {h : xH} {K : Option Value → xH → Prop} {l1 l2 l3 : Option Value} {x : Nat} : wp d 175 954 [some (.ref x), l1, l2, l3] st h K ↔ wp d 175 955 [some (.ref x), l1, l2, l3] (.ref x :: st) h K := w_any (i := 175) (pc := 954) dL_law_954 rfl rfl
theorem w175_954n {d : Nat} {st : List Value} {h : xH} {K : Option Value → xH → Prop} {l1 l2 l3 : Option Value} : wp d 175 954 [some .null, l1, l2, l3] st h K ↔ wp d 175 955 [some .null, l1, l2, l3] (.null :: st) h K := w_any (i := 175) (pc := 954) dL_law_954 rfl rfl
theorem dL_law_955 : decode cL_law 955 = .ok (.iload_n 3, 1) := by decide +kernel
theorem w175_955 {d : Nat} {st : List Value} {h : xH} {K : Option Value → xH → Prop} {l0 l1 l2 : Option Value} {x : Int32} : wp d 175 955 [l0, l1, l2, some (.int x)] st h K ↔ wp d 175 956 [l0, l1, l2, some (.int x)] (.int x :: st) h K := w_any (i := 175) (pc := 955) dL_law_955 rfl rfl
theorem dL_law_956 : decode cL_law 956 = .ok (.iconst 3, 1) := by decide +kernel
theorem w175_956 {d : Nat} {st : List Value} {h : xH} {K : Option Value → xH → Prop} {ls : xL} : wp d 175 956 ls st h K ↔ wp d 175 957 ls (.int 3 :: st) h K := w_iconst (i := 175) (pc := 956) dL_law_956 (by decide)
theorem dL_law_957 : decode cL_law 957 = .ok (.iadd, 1) := by decide +kernel
theorem w175_957 {d : Nat} {st : List Value} {h : xH} {K : Option Value → xH → Prop} {ls : xL} {x y : Int32} : wp d 175 957 ls (.int y :: .int x :: st) h K ↔ wp d 175 958 ls (.int (x + y) :: st) h K := w_any (i := 175) (pc := 957) dL_law_957 rfl rfl
theorem dL_law_958 : decode cL_law 958 = .ok (.iaload, 1) := by decide +kernel
theorem w175_958 {d : Nat} {st : List Value} {h : xH} {K : Option Value → xH → Prop} {ls : xL} {a : Nat} {x : Int32} : wp d 175 958 ls (.int x :: .ref a :: st) h K ↔ y_iald h a x (fun v => wp d 175 959 ls (.int v :: st) h K) := w_iald (i := 175) (pc := 958) dL_law_958
theorem dL_law_959 : decode cL_law 959 = .ok (.invokevirtual 113, 3) := by decide +kernel
theorem w175_959 {d : Nat} {st : List Value} {h : xH} {K : Option Value → xH → Prop} {ls : xL} {a0 : Int32} {a1 : Int32} {a2 : Int32} {b : Nat} : wp (d + 1) 175 959 ls (.int a2 :: .int a1 :: .int a0 :: .ref b :: st) h K ↔ y_cls h b 7 ∧ xcs st ≤ 8 ∧ wp d 65 0 [some (.ref b), some (.int a0), some (.int a1), some (.int a2), none] [] h (fun v h1 => wp (d + 1) 175 962 ls (v.toList ++ st) h1 K) := w_callW (i := 175) (pc := 959) (as := [.int a0, .int a1, .int a2]) (rest := st) dL_law_959 rfl (by decide) rfl rfl (by decide) rfl rfl rfl rfl
theorem dL_law_962 : decode cL_law 962 = .ok (.aload_n 2, 1) := by decide +kernel
theorem w175_962 {d : Nat} {st : List Value} {h : xH} {K : Option Value → xH → Prop} {l0 l1 l3 : Option Value} {x : Nat} : wp d 175 962 [l0, l1, some (.ref x), l3] st h K ↔ wp d 175 963 [l0, l1, some (.ref x), l3] (.ref x :: st) h K := w_any (i := 175) (pc := 962) dL_law_962 rfl rfl
theorem w175_962n {d : Nat} {st : List Value} {h : xH} {K : Option Value → xH → Prop} {l0 l1 l3 : Option Value} : wp d 175 962 [l0, l1, some .null, l3] st h K ↔ wp d 175 963 [l0, l1, some .null, l3] (.null :: st) h K := w_any (i := 175) (pc := 962) dL_law_962 rfl rfl
theorem dL_law_963 : decode cL_law 963 = .ok (.aload_n 0, 1) := by decide +kernel
theorem w175_963 {d : Nat} {st : List Value} {h : xH} {K : Option Value → xH → Prop} {l1 l2 l3 : Option Value} {x : Nat} : wp d 175 963 [some (.ref x), l1, l2, l3] st h K ↔ wp d 175 964 [some (.ref x), l1, l2, l3] (.ref x :: st) h K := w_any (i := 175) (pc := 963) dL_law_963 rfl rfl
theorem w175_963n {d : Nat} {st : List Value} {h : xH} {K : Option Value → xH → Prop} {l1 l2 l3 : Option Value} : wp d 175 963 [some .null, l1, l2, l3] st h K ↔ wp d 175 964 [some .null, l1, l2, l3] (.null :: st) h K := w_any (i := 175) (pc := 963) dL_law_963 rfl rfl
theorem dL_law_964 : decode cL_law 964 = .ok (.iload_n 3, 1) := by decide +kernel
theorem w175_964 {d : Nat} {st : List Value} {h : xH} {K : Option Value → xH → Prop} {l0 l1 l2 : Option Value} {x : Int32} : wp d 175 964 [l0, l1, l2, some (.int x)] st h K ↔ wp d 175 965 [l0, l1, l2, some (.int x)] (.int x :: st) h K := w_any (i := 175) (pc := 964) dL_law_964 rfl rfl
theorem dL_law_965 : decode cL_law 965 = .ok (.iconst 1, 1) := by decide +kernel
theorem w175_965 {d : Nat} {st : List Value} {h : xH} {K : Option Value → xH → Prop} {ls : xL} : wp d 175 965 ls st h K ↔ wp d 175 966 ls (.int 1 :: st) h K := w_iconst (i := 175) (pc := 965) dL_law_965 (by decide)
theorem dL_law_966 : decode cL_law 966 = .ok (.iadd, 1) := by decide +kernel
theorem w175_966 {d : Nat} {st : List Value} {h : xH} {K : Option Value → xH → Prop} {ls : xL} {x y : Int32} : wp d 175 966 ls (.int y :: .int x :: st) h K ↔ wp d 175 967 ls (.int (x + y) :: st) h K := w_any (i := 175) (pc := 966) dL_law_966 rfl rfl
theorem dL_law_967 : decode cL_law 967 = .ok (.iaload, 1) := by decide +kernel
theorem w175_967 {d : Nat} {st : List Value} {h : xH} {K : Option Value → xH → Prop} {ls : xL} {a : Nat} {x : Int32} : wp d 175 967 ls (.int x :: .ref a :: st) h K ↔ y_iald h a x (fun v => wp d 175 968 ls (.int v :: st) h K) := w_iald (i := 175) (pc := 967) dL_law_967
theorem dL_law_968 : decode cL_law 968 = .ok (.aload_n 0, 1) := by decide +kernel
theorem w175_968 {d : Nat} {st : List Value} {h : xH} {K : Option Value → xH → Prop} {l1 l2 l3 : Option Value} {x : Nat} : wp d 175 968 [some (.ref x), l1, l2, l3] st h K ↔ wp d 175 969 [some (.ref x), l1, l2, l3] (.ref x :: st) h K := w_any (i := 175) (pc := 968) dL_law_968 rfl rfl
theorem w175_968n {d : Nat} {st : List Value} {h : xH} {K : Option Value → xH → Prop} {l1 l2 l3 : Option Value} : wp d 175 968 [some .null, l1, l2, l3] st h K ↔ wp d 175 969 [some .null, l1, l2, l3] (.null :: st) h K := w_any (i := 175) (pc := 968) dL_law_968 rfl rfl
theorem dL_law_969 : decode cL_law 969 = .ok (.iload_n 3, 1) := by decide +kernel
theorem w175_969 {d : Nat} {st : List Value} {h : xH} {K : Option Value → xH → Prop} {l0 l1 l2 : Option Value} {x : Int32} : wp d 175 969 [l0, l1, l2, some (.int x)] st h K ↔ wp d 175 970 [l0, l1, l2, some (.int x)] (.int x :: st) h K := w_any (i := 175) (pc := 969) dL_law_969 rfl rfl
theorem dL_law_970 : decode cL_law 970 = .ok (.iconst 2, 1) := by decide +kernel
theorem w175_970 {d : Nat} {st : List Value} {h : xH} {K : Option Value → xH → Prop} {ls : xL} : wp d 175 970 ls st h K ↔ wp d 175 971 ls (.int 2 :: st) h K := w_iconst (i := 175) (pc := 970) dL_law_970 (by decide)
theorem dL_law_971 : decode cL_law 971 = .ok (.iadd, 1) := by decide +kernel
theorem w175_971 {d : Nat} {st : List Value} {h : xH} {K : Option Value → xH → Prop} {ls : xL} {x y : Int32} : wp d 175 971 ls (.int y :: .int x :: st) h K ↔ wp d 175 972 ls (.int (x + y) :: st) h K := w_any (i := 175) (pc := 971) dL_law_971 rfl rfl
theorem dL_law_972 : decode cL_law 972 = .ok (.iaload, 1) := by decide +kernel
theorem w175_972 {d : Nat} {st : List Value} {h : xH} {K : Option Value → xH → Prop} {ls : xL} {a : Nat} {x : Int32} : wp d 175 972 ls (.int x :: .ref a :: st) h K ↔ y_iald h a x (fun v => wp d 175 973 ls (.int v :: st) h K) := w_iald (i := 175) (pc := 972) dL_law_972
theorem dL_law_973 : decode cL_law 973 = .ok (.aload_n 0, 1) := by decide +kernel
theorem w175_973 {d : Nat} {st : List Value} {h : xH} {K : Option Value → xH → Prop} {l1 l2 l3 : Option Value} {x : Nat} : wp d 175 973 [some (.ref x), l1, l2, l3] st h K ↔ wp d 175 974 [some (.ref x), l1, l2, l3] (.ref x :: st) h K := w_any (i := 175) (pc := 973) dL_law_973 rfl rfl
theorem w175_973n {d : Nat} {st : List Value} {h : xH} {K : Option Value → xH → Prop} {l1 l2 l3 : Option Value} : wp d 175 973 [some .null, l1, l2, l3] st h K ↔ wp d 175 974 [some .null, l1, l2, l3] (.null :: st) h K := w_any (i := 175) (pc := 973) dL_law_973 rfl rfl
theorem dL_law_974 : decode cL_law 974 = .ok (.iload_n 3, 1) := by decide +kernel
theorem w175_974 {d : Nat} {st : List Value} {h : xH} {K : Option Value → xH → Prop} {l0 l1 l2 : Option Value} {x : Int32} : wp d 175 974 [l0, l1, l2, some (.int x)] st h K ↔ wp d 175 975 [l0, l1, l2, some (.int x)] (.int x :: st) h K := w_any (i := 175) (pc := 974) dL_law_974 rfl rfl
theorem dL_law_975 : decode cL_law 975 = .ok (.iconst 3, 1) := by decide +kernel
theorem w175_975 {d : Nat} {st : List Value} {h : xH} {K : Option Value → xH → Prop} {ls : xL} : wp d 175 975 ls st h K ↔ wp d 175 976 ls (.int 3 :: st) h K := w_iconst (i := 175) (pc := 975) dL_law_975 (by decide)
theorem dL_law_976 : decode cL_law 976 = .ok (.iadd, 1) := by decide +kernel
theorem w175_976 {d : Nat} {st : List Value} {h : xH} {K : Option Value → xH → Prop} {ls : xL} {x y : Int32} : wp d 175 976 ls (.int y :: .int x :: st) h K ↔ wp d 175 977 ls (.int (x + y) :: st) h K := w_any (i := 175) (pc := 976) dL_law_976 rfl rfl
theorem dL_law_977 : decode cL_law 977 = .ok (.iaload, 1) := by decide +kernel
theorem w175_977 {d : Nat} {st : List Value} {h : xH} {K : Option Value → xH → Prop} {ls : xL} {a : Nat} {x : Int32} : wp d 175 977 ls (.int x :: .ref a :: st) h K ↔ y_iald h a x (fun v => wp d 175 978 ls (.int v :: st) h K) := w_iald (i := 175) (pc := 977) dL_law_977
theorem dL_law_978 : decode cL_law 978 = .ok (.invokevirtual 116, 3) := by decide +kernel
theorem w175_978 {d : Nat} {st : List Value} {h : xH} {K : Option Value → xH → Prop} {ls : xL} {a0 : Int32} {a1 : Int32} {a2 : Int32} {b : Nat} : wp (d + 1) 175 978 ls (.int a2 :: .int a1 :: .int a0 :: .ref b :: st) h K ↔ y_cls h b 8 ∧ xcs st ≤ 8 ∧ wp d 142 0 [some (.ref b), some (.int a0), some (.int a1), some (.int a2)] [] h (fun v h1 => wp (d + 1) 175 981 ls (v.toList ++ st) h1 K) := w_callW (i := 175) (pc := 978) (as := [.int a0, .int a1, .int a2]) (rest := st) dL_law_978 rfl (by decide) rfl rfl (by decide) rfl rfl rfl rfl
theorem dL_law_981 : decode cL_law 981 = .ok (.if_icmp .eq 240, 3) := by decide +kernel
theorem w175_981 {d : Nat} {st : List Value} {h : xH} {K : Option Value → xH → Prop} {ls : xL} {x y : Int32} : wp d 175 981 ls (.int y :: .int x :: st) h K ↔ ((x = y) → wp d 175 1221 ls st h K) ∧ ((¬ (x = y)) → wp d 175 984 ls st h K) := w_if2 (i := 175) (pc := 981) (cd := .eq) (off := 240) (tgt := 1221) dL_law_981 (by decide) rfl
theorem dL_law_984 : decode cL_law 984 = .ok (.iconst 0, 1) := by decide +kernel
theorem w175_984 {d : Nat} {st : List Value} {h : xH} {K : Option Value → xH → Prop} {ls : xL} : wp d 175 984 ls st h K ↔ wp d 175 985 ls (.int 0 :: st) h K := w_iconst (i := 175) (pc := 984) dL_law_984 (by decide)
theorem dL_law_985 : decode cL_law 985 = .ok (.ireturn, 1) := by decide +kernel
theorem w175_985 {d : Nat} {h : xH} {K : Option Value → xH → Prop} {ls : xL} {x : Int32} : wp d 175 985 ls [.int x] h K ↔ y_bool x ∧ K (some (.int x)) h := w_zret (i := 175) (pc := 985) dL_law_985 rfl
theorem dL_law_986 : decode cL_law 986 = .ok (.aload_n 1, 1) := by decide +kernel
theorem w175_986 {d : Nat} {st : List Value} {h : xH} {K : Option Value → xH → Prop} {l0 l2 l3 : Option Value} {x : Nat} : wp d 175 986 [l0, some (.ref x), l2, l3] st h K ↔ wp d 175 987 [l0, some (.ref x), l2, l3] (.ref x :: st) h K := w_any (i := 175) (pc := 986) dL_law_986 rfl rfl
theorem w175_986n {d : Nat} {st : List Value} {h : xH} {K : Option Value → xH → Prop} {l0 l2 l3 : Option Value} : wp d 175 986 [l0, some .null, l2, l3] st h K ↔ wp d 175 987 [l0, some .null, l2, l3] (.null :: st) h K := w_any (i := 175) (pc := 986) dL_law_986 rfl rfl
theorem dL_law_987 : decode cL_law 987 = .ok (.aload_n 0, 1) := by decide +kernel
theorem w175_987 {d : Nat} {st : List Value} {h : xH} {K : Option Value → xH → Prop} {l1 l2 l3 : Option Value} {x : Nat} : wp d 175 987 [some (.ref x), l1, l2, l3] st h K ↔ wp d 175 988 [some (.ref x), l1, l2, l3] (.ref x :: st) h K := w_any (i := 175) (pc := 987) dL_law_987 rfl rfl
theorem w175_987n {d : Nat} {st : List Value} {h : xH} {K : Option Value → xH → Prop} {l1 l2 l3 : Option Value} : wp d 175 987 [some .null, l1, l2, l3] st h K ↔ wp d 175 988 [some .null, l1, l2, l3] (.null :: st) h K := w_any (i := 175) (pc := 987) dL_law_987 rfl rfl
theorem dL_law_988 : decode cL_law 988 = .ok (.iload_n 3, 1) := by decide +kernel
theorem w175_988 {d : Nat} {st : List Value} {h : xH} {K : Option Value → xH → Prop} {l0 l1 l2 : Option Value} {x : Int32} : wp d 175 988 [l0, l1, l2, some (.int x)] st h K ↔ wp d 175 989 [l0, l1, l2, some (.int x)] (.int x :: st) h K := w_any (i := 175) (pc := 988) dL_law_988 rfl rfl
theorem dL_law_989 : decode cL_law 989 = .ok (.iconst 1, 1) := by decide +kernel
theorem w175_989 {d : Nat} {st : List Value} {h : xH} {K : Option Value → xH → Prop} {ls : xL} : wp d 175 989 ls st h K ↔ wp d 175 990 ls (.int 1 :: st) h K := w_iconst (i := 175) (pc := 989) dL_law_989 (by decide)
theorem dL_law_990 : decode cL_law 990 = .ok (.iadd, 1) := by decide +kernel
theorem w175_990 {d : Nat} {st : List Value} {h : xH} {K : Option Value → xH → Prop} {ls : xL} {x y : Int32} : wp d 175 990 ls (.int y :: .int x :: st) h K ↔ wp d 175 991 ls (.int (x + y) :: st) h K := w_any (i := 175) (pc := 990) dL_law_990 rfl rfl
theorem dL_law_991 : decode cL_law 991 = .ok (.iaload, 1) := by decide +kernel
theorem w175_991 {d : Nat} {st : List Value} {h : xH} {K : Option Value → xH → Prop} {ls : xL} {a : Nat} {x : Int32} : wp d 175 991 ls (.int x :: .ref a :: st) h K ↔ y_iald h a x (fun v => wp d 175 992 ls (.int v :: st) h K) := w_iald (i := 175) (pc := 991) dL_law_991
theorem dL_law_992 : decode cL_law 992 = .ok (.aload_n 0, 1) := by decide +kernel
theorem w175_992 {d : Nat} {st : List Value} {h : xH} {K : Option Value → xH → Prop} {l1 l2 l3 : Option Value} {x : Nat} : wp d 175 992 [some (.ref x), l1, l2, l3] st h K ↔ wp d 175 993 [some (.ref x), l1, l2, l3] (.ref x :: st) h K := w_any (i := 175) (pc := 992) dL_law_992 rfl rfl
theorem w175_992n {d : Nat} {st : List Value} {h : xH} {K : Option Value → xH → Prop} {l1 l2 l3 : Option Value} : wp d 175 992 [some .null, l1, l2, l3] st h K ↔ wp d 175 993 [some .null, l1, l2, l3] (.null :: st) h K := w_any (i := 175) (pc := 992) dL_law_992 rfl rfl
theorem dL_law_993 : decode cL_law 993 = .ok (.iload_n 3, 1) := by decide +kernel
theorem w175_993 {d : Nat} {st : List Value} {h : xH} {K : Option Value → xH → Prop} {l0 l1 l2 : Option Value} {x : Int32} : wp d 175 993 [l0, l1, l2, some (.int x)] st h K ↔ wp d 175 994 [l0, l1, l2, some (.int x)] (.int x :: st) h K := w_any (i := 175) (pc := 993) dL_law_993 rfl rfl
theorem dL_law_994 : decode cL_law 994 = .ok (.iconst 2, 1) := by decide +kernel
theorem w175_994 {d : Nat} {st : List Value} {h : xH} {K : Option Value → xH → Prop} {ls : xL} : wp d 175 994 ls st h K ↔ wp d 175 995 ls (.int 2 :: st) h K := w_iconst (i := 175) (pc := 994) dL_law_994 (by decide)
theorem dL_law_995 : decode cL_law 995 = .ok (.iadd, 1) := by decide +kernel
theorem w175_995 {d : Nat} {st : List Value} {h : xH} {K : Option Value → xH → Prop} {ls : xL} {x y : Int32} : wp d 175 995 ls (.int y :: .int x :: st) h K ↔ wp d 175 996 ls (.int (x + y) :: st) h K := w_any (i := 175) (pc := 995) dL_law_995 rfl rfl
theorem dL_law_996 : decode cL_law 996 = .ok (.iaload, 1) := by decide +kernel
theorem w175_996 {d : Nat} {st : List Value} {h : xH} {K : Option Value → xH → Prop} {ls : xL} {a : Nat} {x : Int32} : wp d 175 996 ls (.int x :: .ref a :: st) h K ↔ y_iald h a x (fun v => wp d 175 997 ls (.int v :: st) h K) := w_iald (i := 175) (pc := 996) dL_law_996
theorem dL_law_997 : decode cL_law 997 = .ok (.aload_n 0, 1) := by decide +kernel
theorem w175_997 {d : Nat} {st : List Value} {h : xH} {K : Option Value → xH → Prop} {l1 l2 l3 : Option Value} {x : Nat} : wp d 175 997 [some (.ref x), l1, l2, l3] st h K ↔ wp d 175 998 [some (.ref x), l1, l2, l3] (.ref x :: st) h K := w_any (i := 175) (pc := 997) dL_law_997 rfl rfl
theorem w175_997n {d : Nat} {st : List Value} {h : xH} {K : Option Value → xH → Prop} {l1 l2 l3 : Option Value} : wp d 175 997 [some .null, l1, l2, l3] st h K ↔ wp d 175 998 [some .null, l1, l2, l3] (.null :: st) h K := w_any (i := 175) (pc := 997) dL_law_997 rfl rfl
theorem dL_law_998 : decode cL_law 998 = .ok (.iload_n 3, 1) := by decide +kernel
theorem w175_998 {d : Nat} {st : List Value} {h : xH} {K : Option Value → xH → Prop} {l0 l1 l2 : Option Value} {x : Int32} : wp d 175 998 [l0, l1, l2, some (.int x)] st h K ↔ wp d 175 999 [l0, l1, l2, some (.int x)] (.int x :: st) h K := w_any (i := 175) (pc := 998) dL_law_998 rfl rfl
theorem dL_law_999 : decode cL_law 999 = .ok (.iconst 3, 1) := by decide +kernel
theorem w175_999 {d : Nat} {st : List Value} {h : xH} {K : Option Value → xH → Prop} {ls : xL} : wp d 175 999 ls st h K ↔ wp d 175 1000 ls (.int 3 :: st) h K := w_iconst (i := 175) (pc := 999) dL_law_999 (by decide)
theorem dL_law_1000 : decode cL_law 1000 = .ok (.iadd, 1) := by decide +kernel
theorem w175_1000 {d : Nat} {st : List Value} {h : xH} {K : Option Value → xH → Prop} {ls : xL} {x y : Int32} : wp d 175 1000 ls (.int y :: .int x :: st) h K ↔ wp d 175 1001 ls (.int (x + y) :: st) h K := w_any (i := 175) (pc := 1000) dL_law_1000 rfl rfl
theorem dL_law_1001 : decode cL_law 1001 = .ok (.iaload, 1) := by decide +kernel
theorem w175_1001 {d : Nat} {st : List Value} {h : xH} {K : Option Value → xH → Prop} {ls : xL} {a : Nat} {x : Int32} : wp d 175 1001 ls (.int x :: .ref a :: st) h K ↔ y_iald h a x (fun v => wp d 175 1002 ls (.int v :: st) h K) := w_iald (i := 175) (pc := 1001) dL_law_1001
theorem dL_law_1002 : decode cL_law 1002 = .ok (.invokevirtual 117, 3) := by decide +kernel
theorem w175_1002 {d : Nat} {st : List Value} {h : xH} {K : Option Value → xH → Prop} {ls : xL} {a0 : Int32} {a1 : Int32} {a2 : Int32} {b : Nat} : wp (d + 1) 175 1002 ls (.int a2 :: .int a1 :: .int a0 :: .ref b :: st) h K ↔ y_cls h b 7 ∧ xcs st ≤ 8 ∧ wp d 66 0 [some (.ref b), some (.int a0), some (.int a1), some (.int a2), none] [] h (fun v h1 => wp (d + 1) 175 1005 ls (v.toList ++ st) h1 K) := w_callW (i := 175) (pc := 1002) (as := [.int a0, .int a1, .int a2]) (rest := st) dL_law_1002 rfl (by decide) rfl rfl (by decide) rfl rfl rfl rfl
theorem dL_law_1005 : decode cL_law 1005 = .ok (.aload_n 2, 1) := by decide +kernel
theorem w175_1005 {d : Nat} {st : List Value} {h : xH} {K : Option Value → xH → Prop} {l0 l1 l3 : Option Value} {x : Nat} : wp d 175 1005 [l0, l1, some (.ref x), l3] st h K ↔ wp d 175 1006 [l0, l1, some (.ref x), l3] (.ref x :: st) h K := w_any (i := 175) (pc := 1005) dL_law_1005 rfl rfl
theorem w175_1005n {d : Nat} {st : List Value} {h : xH} {K : Option Value → xH → Prop} {l0 l1 l3 : Option Value} : wp d 175 1005 [l0, l1, some .null, l3] st h K ↔ wp d 175 1006 [l0, l1, some .null, l3] (.null :: st) h K := w_any (i := 175) (pc := 1005) dL_law_1005 rfl rfl
theorem dL_law_1006 : decode cL_law 1006 = .ok (.aload_n 0, 1) := by decide +kernel
theorem w175_1006 {d : Nat} {st : List Value} {h : xH} {K : Option Value → xH → Prop} {l1 l2 l3 : Option Value} {x : Nat} : wp d 175 1006 [some (.ref x), l1, l2, l3] st h K ↔ wp d 175 1007 [some (.ref x), l1, l2, l3] (.ref x :: st) h K := w_any (i := 175) (pc := 1006) dL_law_1006 rfl rfl
theorem w175_1006n {d : Nat} {st : List Value} {h : xH} {K : Option Value → xH → Prop} {l1 l2 l3 : Option Value} : wp d 175 1006 [some .null, l1, l2, l3] st h K ↔ wp d 175 1007 [some .null, l1, l2, l3] (.null :: st) h K := w_any (i := 175) (pc := 1006) dL_law_1006 rfl rfl
theorem dL_law_1007 : decode cL_law 1007 = .ok (.iload_n 3, 1) := by decide +kernel
theorem w175_1007 {d : Nat} {st : List Value} {h : xH} {K : Option Value → xH → Prop} {l0 l1 l2 : Option Value} {x : Int32} : wp d 175 1007 [l0, l1, l2, some (.int x)] st h K ↔ wp d 175 1008 [l0, l1, l2, some (.int x)] (.int x :: st) h K := w_any (i := 175) (pc := 1007) dL_law_1007 rfl rfl
theorem dL_law_1008 : decode cL_law 1008 = .ok (.iconst 1, 1) := by decide +kernel
theorem w175_1008 {d : Nat} {st : List Value} {h : xH} {K : Option Value → xH → Prop} {ls : xL} : wp d 175 1008 ls st h K ↔ wp d 175 1009 ls (.int 1 :: st) h K := w_iconst (i := 175) (pc := 1008) dL_law_1008 (by decide)
theorem dL_law_1009 : decode cL_law 1009 = .ok (.iadd, 1) := by decide +kernel
theorem w175_1009 {d : Nat} {st : List Value} {h : xH} {K : Option Value → xH → Prop} {ls : xL} {x y : Int32} : wp d 175 1009 ls (.int y :: .int x :: st) h K ↔ wp d 175 1010 ls (.int (x + y) :: st) h K := w_any (i := 175) (pc := 1009) dL_law_1009 rfl rfl
theorem dL_law_1010 : decode cL_law 1010 = .ok (.iaload, 1) := by decide +kernel
theorem w175_1010 {d : Nat} {st : List Value} {h : xH} {K : Option Value → xH → Prop} {ls : xL} {a : Nat} {x : Int32} : wp d 175 1010 ls (.int x :: .ref a :: st) h K ↔ y_iald h a x (fun v => wp d 175 1011 ls (.int v :: st) h K) := w_iald (i := 175) (pc := 1010) dL_law_1010
theorem dL_law_1011 : decode cL_law 1011 = .ok (.aload_n 0, 1) := by decide +kernel
theorem w175_1011 {d : Nat} {st : List Value} {h : xH} {K : Option Value → xH → Prop} {l1 l2 l3 : Option Value} {x : Nat} : wp d 175 1011 [some (.ref x), l1, l2, l3] st h K ↔ wp d 175 1012 [some (.ref x), l1, l2, l3] (.ref x :: st) h K := w_any (i := 175) (pc := 1011) dL_law_1011 rfl rfl
theorem w175_1011n {d : Nat} {st : List Value} {h : xH} {K : Option Value → xH → Prop} {l1 l2 l3 : Option Value} : wp d 175 1011 [some .null, l1, l2, l3] st h K ↔ wp d 175 1012 [some .null, l1, l2, l3] (.null :: st) h K := w_any (i := 175) (pc := 1011) dL_law_1011 rfl rfl
theorem dL_law_1012 : decode cL_law 1012 = .ok (.iload_n 3, 1) := by decide +kernel
theorem w175_1012 {d : Nat} {st : List Value} {h : xH} {K : Option Value → xH → Prop} {l0 l1 l2 : Option Value} {x : Int32} : wp d 175 1012 [l0, l1, l2, some (.int x)] st h K ↔ wp d 175 1013 [l0, l1, l2, some (.int x)] (.int x :: st) h K := w_any (i := 175) (pc := 1012) dL_law_1012 rfl rfl
theorem dL_law_1013 : decode cL_law 1013 = .ok (.iconst 2, 1) := by decide +kernel
theorem w175_1013 {d : Nat} {st : List Value} {h : xH} {K : Option Value → xH → Prop} {ls : xL} : wp d 175 1013 ls st h K ↔ wp d 175 1014 ls (.int 2 :: st) h K := w_iconst (i := 175) (pc := 1013) dL_law_1013 (by decide)
theorem dL_law_1014 : decode cL_law 1014 = .ok (.iadd, 1) := by decide +kernel
theorem w175_1014 {d : Nat} {st : List Value} {h : xH} {K : Option Value → xH → Prop} {ls : xL} {x y : Int32} : wp d 175 1014 ls (.int y :: .int x :: st) h K ↔ wp d 175 1015 ls (.int (x + y) :: st) h K := w_any (i := 175) (pc := 1014) dL_law_1014 rfl rfl
theorem dL_law_1015 : decode cL_law 1015 = .ok (.iaload, 1) := by decide +kernel
theorem w175_1015 {d : Nat} {st : List Value} {h : xH} {K : Option Value → xH → Prop} {ls : xL} {a : Nat} {x : Int32} : wp d 175 1015 ls (.int x :: .ref a :: st) h K ↔ y_iald h a x (fun v => wp d 175 1016 ls (.int v :: st) h K) := w_iald (i := 175) (pc := 1015) dL_law_1015
theorem dL_law_1016 : decode cL_law 1016 = .ok (.aload_n 0, 1) := by decide +kernel
theorem w175_1016 {d : Nat} {st : List Value} {h : xH} {K : Option Value → xH → Prop} {l1 l2 l3 : Option Value} {x : Nat} : wp d 175 1016 [some (.ref x), l1, l2, l3] st h K ↔ wp d 175 1017 [some (.ref x), l1, l2, l3] (.ref x :: st) h K := w_any (i := 175) (pc := 1016) dL_law_1016 rfl rfl
theorem w175_1016n {d : Nat} {st : List Value} {h : xH} {K : Option Value → xH → Prop} {l1 l2 l3 : Option Value} : wp d 175 1016 [some .null, l1, l2, l3] st h K ↔ wp d 175 1017 [some .null, l1, l2, l3] (.null :: st) h K := w_any (i := 175) (pc := 1016) dL_law_1016 rfl rfl
theorem dL_law_1017 : decode cL_law 1017 = .ok (.iload_n 3, 1) := by decide +kernel
theorem w175_1017 {d : Nat} {st : List Value} {h : xH} {K : Option Value → xH → Prop} {l0 l1 l2 : Option Value} {x : Int32} : wp d 175 1017 [l0, l1, l2, some (.int x)] st h K ↔ wp d 175 1018 [l0, l1, l2, some (.int x)] (.int x :: st) h K := w_any (i := 175) (pc := 1017) dL_law_1017 rfl rfl
theorem dL_law_1018 : decode cL_law 1018 = .ok (.iconst 3, 1) := by decide +kernel
theorem w175_1018 {d : Nat} {st : List Value} {h : xH} {K : Option Value → xH → Prop} {ls : xL} : wp d 175 1018 ls st h K ↔ wp d 175 1019 ls (.int 3 :: st) h K := w_iconst (i := 175) (pc := 1018) dL_law_1018 (by decide)
theorem dL_law_1019 : decode cL_law 1019 = .ok (.iadd, 1) := by decide +kernel
theorem w175_1019 {d : Nat} {st : List Value} {h : xH} {K : Option Value → xH → Prop} {ls : xL} {x y : Int32} : wp d 175 1019 ls (.int y :: .int x :: st) h K ↔ wp d 175 1020 ls (.int (x + y) :: st) h K := w_any (i := 175) (pc := 1019) dL_law_1019 rfl rfl
theorem dL_law_1020 : decode cL_law 1020 = .ok (.iaload, 1) := by decide +kernel
theorem w175_1020 {d : Nat} {st : List Value} {h : xH} {K : Option Value → xH → Prop} {ls : xL} {a : Nat} {x : Int32} : wp d 175 1020 ls (.int x :: .ref a :: st) h K ↔ y_iald h a x (fun v => wp d 175 1021 ls (.int v :: st) h K) := w_iald (i := 175) (pc := 1020) dL_law_1020
theorem dL_law_1021 : decode cL_law 1021 = .ok (.invokevirtual 121, 3) := by decide +kernel
theorem w175_1021 {d : Nat} {st : List Value} {h : xH} {K : Option Value → xH → Prop} {ls : xL} {a0 : Int32} {a1 : Int32} {a2 : Int32} {b : Nat} : wp (d + 1) 175 1021 ls (.int a2 :: .int a1 :: .int a0 :: .ref b :: st) h K ↔ y_cls h b 8 ∧ xcs st ≤ 8 ∧ wp d 143 0 [some (.ref b), some (.int a0), some (.int a1), some (.int a2)] [] h (fun v h1 => wp (d + 1) 175 1024 ls (v.toList ++ st) h1 K) := w_callW (i := 175) (pc := 1021) (as := [.int a0, .int a1, .int a2]) (rest := st) dL_law_1021 rfl (by decide) rfl rfl (by decide) rfl rfl rfl rfl
theorem dL_law_1024 : decode cL_law 1024 = .ok (.lcmp, 1) := by decide +kernel
theorem w175_1024 {d : Nat} {st : List Value} {h : xH} {K : Option Value → xH → Prop} {ls : xL} {x y : Int64} : wp d 175 1024 ls (.long y :: .long x :: st) h K ↔ wp d 175 1025 ls (.int (lg_cmp x y) :: st) h K := w_any (i := 175) (pc := 1024) dL_law_1024 rfl rfl
theorem dL_law_1025 : decode cL_law 1025 = .ok (.ifCond .eq 196, 3) := by decide +kernel
theorem w175_1025 {d : Nat} {st : List Value} {h : xH} {K : Option Value → xH → Prop} {ls : xL} {x : Int32} : wp d 175 1025 ls (.int x :: st) h K ↔ ((x = 0) → wp d 175 1221 ls st h K) ∧ ((¬ (x = 0)) → wp d 175 1028 ls st h K) := w_if1 (i := 175) (pc := 1025) (cd := .eq) (off := 196) (tgt := 1221) dL_law_1025 (by decide) rfl
theorem dL_law_1028 : decode cL_law 1028 = .ok (.iconst 0, 1) := by decide +kernel
theorem w175_1028 {d : Nat} {st : List Value} {h : xH} {K : Option Value → xH → Prop} {ls : xL} : wp d 175 1028 ls st h K ↔ wp d 175 1029 ls (.int 0 :: st) h K := w_iconst (i := 175) (pc := 1028) dL_law_1028 (by decide)
theorem dL_law_1029 : decode cL_law 1029 = .ok (.ireturn, 1) := by decide +kernel
theorem w175_1029 {d : Nat} {h : xH} {K : Option Value → xH → Prop} {ls : xL} {x : Int32} : wp d 175 1029 ls [.int x] h K ↔ y_bool x ∧ K (some (.int x)) h := w_zret (i := 175) (pc := 1029) dL_law_1029 rfl
theorem dL_law_1030 : decode cL_law 1030 = .ok (.aload_n 1, 1) := by decide +kernel
theorem w175_1030 {d : Nat} {st : List Value} {h : xH} {K : Option Value → xH → Prop} {l0 l2 l3 : Option Value} {x : Nat} : wp d 175 1030 [l0, some (.ref x), l2, l3] st h K ↔ wp d 175 1031 [l0, some (.ref x), l2, l3] (.ref x :: st) h K := w_any (i := 175) (pc := 1030) dL_law_1030 rfl rfl
theorem w175_1030n {d : Nat} {st : List Value} {h : xH} {K : Option Value → xH → Prop} {l0 l2 l3 : Option Value} : wp d 175 1030 [l0, some .null, l2, l3] st h K ↔ wp d 175 1031 [l0, some .null, l2, l3] (.null :: st) h K := w_any (i := 175) (pc := 1030) dL_law_1030 rfl rfl
theorem dL_law_1031 : decode cL_law 1031 = .ok (.aload_n 0, 1) := by decide +kernel
theorem w175_1031 {d : Nat} {st : List Value} {h : xH} {K : Option Value → xH → Prop} {l1 l2 l3 : Option Value} {x : Nat} : wp d 175 1031 [some (.ref x), l1, l2, l3] st h K ↔ wp d 175 1032 [some (.ref x), l1, l2, l3] (.ref x :: st) h K := w_any (i := 175) (pc := 1031) dL_law_1031 rfl rfl
theorem w175_1031n {d : Nat} {st : List Value} {h : xH} {K : Option Value → xH → Prop} {l1 l2 l3 : Option Value} : wp d 175 1031 [some .null, l1, l2, l3] st h K ↔ wp d 175 1032 [some .null, l1, l2, l3] (.null :: st) h K := w_any (i := 175) (pc := 1031) dL_law_1031 rfl rfl
theorem dL_law_1032 : decode cL_law 1032 = .ok (.iload_n 3, 1) := by decide +kernel
theorem w175_1032 {d : Nat} {st : List Value} {h : xH} {K : Option Value → xH → Prop} {l0 l1 l2 : Option Value} {x : Int32} : wp d 175 1032 [l0, l1, l2, some (.int x)] st h K ↔ wp d 175 1033 [l0, l1, l2, some (.int x)] (.int x :: st) h K := w_any (i := 175) (pc := 1032) dL_law_1032 rfl rfl
theorem dL_law_1033 : decode cL_law 1033 = .ok (.iconst 1, 1) := by decide +kernel
theorem w175_1033 {d : Nat} {st : List Value} {h : xH} {K : Option Value → xH → Prop} {ls : xL} : wp d 175 1033 ls st h K ↔ wp d 175 1034 ls (.int 1 :: st) h K := w_iconst (i := 175) (pc := 1033) dL_law_1033 (by decide)
theorem dL_law_1034 : decode cL_law 1034 = .ok (.iadd, 1) := by decide +kernel
theorem w175_1034 {d : Nat} {st : List Value} {h : xH} {K : Option Value → xH → Prop} {ls : xL} {x y : Int32} : wp d 175 1034 ls (.int y :: .int x :: st) h K ↔ wp d 175 1035 ls (.int (x + y) :: st) h K := w_any (i := 175) (pc := 1034) dL_law_1034 rfl rfl
theorem dL_law_1035 : decode cL_law 1035 = .ok (.iaload, 1) := by decide +kernel
theorem w175_1035 {d : Nat} {st : List Value} {h : xH} {K : Option Value → xH → Prop} {ls : xL} {a : Nat} {x : Int32} : wp d 175 1035 ls (.int x :: .ref a :: st) h K ↔ y_iald h a x (fun v => wp d 175 1036 ls (.int v :: st) h K) := w_iald (i := 175) (pc := 1035) dL_law_1035
theorem dL_law_1036 : decode cL_law 1036 = .ok (.aload_n 0, 1) := by decide +kernel
theorem w175_1036 {d : Nat} {st : List Value} {h : xH} {K : Option Value → xH → Prop} {l1 l2 l3 : Option Value} {x : Nat} : wp d 175 1036 [some (.ref x), l1, l2, l3] st h K ↔ wp d 175 1037 [some (.ref x), l1, l2, l3] (.ref x :: st) h K := w_any (i := 175) (pc := 1036) dL_law_1036 rfl rfl
theorem w175_1036n {d : Nat} {st : List Value} {h : xH} {K : Option Value → xH → Prop} {l1 l2 l3 : Option Value} : wp d 175 1036 [some .null, l1, l2, l3] st h K ↔ wp d 175 1037 [some .null, l1, l2, l3] (.null :: st) h K := w_any (i := 175) (pc := 1036) dL_law_1036 rfl rfl
theorem dL_law_1037 : decode cL_law 1037 = .ok (.iload_n 3, 1) := by decide +kernel
theorem w175_1037 {d : Nat} {st : List Value} {h : xH} {K : Option Value → xH → Prop} {l0 l1 l2 : Option Value} {x : Int32} : wp d 175 1037 [l0, l1, l2, some (.int x)] st h K ↔ wp d 175 1038 [l0, l1, l2, some (.int x)] (.int x :: st) h K := w_any (i := 175) (pc := 1037) dL_law_1037 rfl rfl
theorem dL_law_1038 : decode cL_law 1038 = .ok (.iconst 2, 1) := by decide +kernel
theorem w175_1038 {d : Nat} {st : List Value} {h : xH} {K : Option Value → xH → Prop} {ls : xL} : wp d 175 1038 ls st h K ↔ wp d 175 1039 ls (.int 2 :: st) h K := w_iconst (i := 175) (pc := 1038) dL_law_1038 (by decide)
theorem dL_law_1039 : decode cL_law 1039 = .ok (.iadd, 1) := by decide +kernel
theorem w175_1039 {d : Nat} {st : List Value} {h : xH} {K : Option Value → xH → Prop} {ls : xL} {x y : Int32} : wp d 175 1039 ls (.int y :: .int x :: st) h K ↔ wp d 175 1040 ls (.int (x + y) :: st) h K := w_any (i := 175) (pc := 1039) dL_law_1039 rfl rfl
theorem dL_law_1040 : decode cL_law 1040 = .ok (.iaload, 1) := by decide +kernel
theorem w175_1040 {d : Nat} {st : List Value} {h : xH} {K : Option Value → xH → Prop} {ls : xL} {a : Nat} {x : Int32} : wp d 175 1040 ls (.int x :: .ref a :: st) h K ↔ y_iald h a x (fun v => wp d 175 1041 ls (.int v :: st) h K) := w_iald (i := 175) (pc := 1040) dL_law_1040
theorem dL_law_1041 : decode cL_law 1041 = .ok (.aload_n 0, 1) := by decide +kernel
theorem w175_1041 {d : Nat} {st : List Value} {h : xH} {K : Option Value → xH → Prop} {l1 l2 l3 : Option Value} {x : Nat} : wp d 175 1041 [some (.ref x), l1, l2, l3] st h K ↔ wp d 175 1042 [some (.ref x), l1, l2, l3] (.ref x :: st) h K := w_any (i := 175) (pc := 1041) dL_law_1041 rfl rfl
theorem w175_1041n {d : Nat} {st : List Value} {h : xH} {K : Option Value → xH → Prop} {l1 l2 l3 : Option Value} : wp d 175 1041 [some .null, l1, l2, l3] st h K ↔ wp d 175 1042 [some .null, l1, l2, l3] (.null :: st) h K := w_any (i := 175) (pc := 1041) dL_law_1041 rfl rfl
theorem dL_law_1042 : decode cL_law 1042 = .ok (.iload_n 3, 1) := by decide +kernel
theorem w175_1042 {d : Nat} {st : List Value} {h : xH} {K : Option Value → xH → Prop} {l0 l1 l2 : Option Value} {x : Int32} : wp d 175 1042 [l0, l1, l2, some (.int x)] st h K ↔ wp d 175 1043 [l0, l1, l2, some (.int x)] (.int x :: st) h K := w_any (i := 175) (pc := 1042) dL_law_1042 rfl rfl
theorem dL_law_1043 : decode cL_law 1043 = .ok (.iconst 3, 1) := by decide +kernel
theorem w175_1043 {d : Nat} {st : List Value} {h : xH} {K : Option Value → xH → Prop} {ls : xL} : wp d 175 1043 ls st h K ↔ wp d 175 1044 ls (.int 3 :: st) h K := w_iconst (i := 175) (pc := 1043) dL_law_1043 (by decide)
theorem dL_law_1044 : decode cL_law 1044 = .ok (.iadd, 1) := by decide +kernel
theorem w175_1044 {d : Nat} {st : List Value} {h : xH} {K : Option Value → xH → Prop} {ls : xL} {x y : Int32} : wp d 175 1044 ls (.int y :: .int x :: st) h K ↔ wp d 175 1045 ls (.int (x + y) :: st) h K := w_any (i := 175) (pc := 1044) dL_law_1044 rfl rfl
theorem dL_law_1045 : decode cL_law 1045 = .ok (.iaload, 1) := by decide +kernel
theorem w175_1045 {d : Nat} {st : List Value} {h : xH} {K : Option Value → xH → Prop} {ls : xL} {a : Nat} {x : Int32} : wp d 175 1045 ls (.int x :: .ref a :: st) h K ↔ y_iald h a x (fun v => wp d 175 1046 ls (.int v :: st) h K) := w_iald (i := 175) (pc := 1045) dL_law_1045
theorem dL_law_1046 : decode cL_law 1046 = .ok (.aload_n 0, 1) := by decide +kernel
theorem w175_1046 {d : Nat} {st : List Value} {h : xH} {K : Option Value → xH → Prop} {l1 l2 l3 : Option Value} {x : Nat} : wp d 175 1046 [some (.ref x), l1, l2, l3] st h K ↔ wp d 175 1047 [some (.ref x), l1, l2, l3] (.ref x :: st) h K := w_any (i := 175) (pc := 1046) dL_law_1046 rfl rfl
theorem w175_1046n {d : Nat} {st : List Value} {h : xH} {K : Option Value → xH → Prop} {l1 l2 l3 : Option Value} : wp d 175 1046 [some .null, l1, l2, l3] st h K ↔ wp d 175 1047 [some .null, l1, l2, l3] (.null :: st) h K := w_any (i := 175) (pc := 1046) dL_law_1046 rfl rfl
theorem dL_law_1047 : decode cL_law 1047 = .ok (.iload_n 3, 1) := by decide +kernel
theorem w175_1047 {d : Nat} {st : List Value} {h : xH} {K : Option Value → xH → Prop} {l0 l1 l2 : Option Value} {x : Int32} : wp d 175 1047 [l0, l1, l2, some (.int x)] st h K ↔ wp d 175 1048 [l0, l1, l2, some (.int x)] (.int x :: st) h K := w_any (i := 175) (pc := 1047) dL_law_1047 rfl rfl
theorem dL_law_1048 : decode cL_law 1048 = .ok (.iconst 4, 1) := by decide +kernel
theorem w175_1048 {d : Nat} {st : List Value} {h : xH} {K : Option Value → xH → Prop} {ls : xL} : wp d 175 1048 ls st h K ↔ wp d 175 1049 ls (.int 4 :: st) h K := w_iconst (i := 175) (pc := 1048) dL_law_1048 (by decide)
theorem dL_law_1049 : decode cL_law 1049 = .ok (.iadd, 1) := by decide +kernel
theorem w175_1049 {d : Nat} {st : List Value} {h : xH} {K : Option Value → xH → Prop} {ls : xL} {x y : Int32} : wp d 175 1049 ls (.int y :: .int x :: st) h K ↔ wp d 175 1050 ls (.int (x + y) :: st) h K := w_any (i := 175) (pc := 1049) dL_law_1049 rfl rfl
theorem dL_law_1050 : decode cL_law 1050 = .ok (.iaload, 1) := by decide +kernel
theorem w175_1050 {d : Nat} {st : List Value} {h : xH} {K : Option Value → xH → Prop} {ls : xL} {a : Nat} {x : Int32} : wp d 175 1050 ls (.int x :: .ref a :: st) h K ↔ y_iald h a x (fun v => wp d 175 1051 ls (.int v :: st) h K) := w_iald (i := 175) (pc := 1050) dL_law_1050
theorem dL_law_1051 : decode cL_law 1051 = .ok (.aload_n 0, 1) := by decide +kernel
theorem w175_1051 {d : Nat} {st : List Value} {h : xH} {K : Option Value → xH → Prop} {l1 l2 l3 : Option Value} {x : Nat} : wp d 175 1051 [some (.ref x), l1, l2, l3] st h K ↔ wp d 175 1052 [some (.ref x), l1, l2, l3] (.ref x :: st) h K := w_any (i := 175) (pc := 1051) dL_law_1051 rfl rfl
theorem w175_1051n {d : Nat} {st : List Value} {h : xH} {K : Option Value → xH → Prop} {l1 l2 l3 : Option Value} : wp d 175 1051 [some .null, l1, l2, l3] st h K ↔ wp d 175 1052 [some .null, l1, l2, l3] (.null :: st) h K := w_any (i := 175) (pc := 1051) dL_law_1051 rfl rfl
theorem dL_law_1052 : decode cL_law 1052 = .ok (.iload_n 3, 1) := by decide +kernel
theorem w175_1052 {d : Nat} {st : List Value} {h : xH} {K : Option Value → xH → Prop} {l0 l1 l2 : Option Value} {x : Int32} : wp d 175 1052 [l0, l1, l2, some (.int x)] st h K ↔ wp d 175 1053 [l0, l1, l2, some (.int x)] (.int x :: st) h K := w_any (i := 175) (pc := 1052) dL_law_1052 rfl rfl
theorem dL_law_1053 : decode cL_law 1053 = .ok (.iconst 5, 1) := by decide +kernel
theorem w175_1053 {d : Nat} {st : List Value} {h : xH} {K : Option Value → xH → Prop} {ls : xL} : wp d 175 1053 ls st h K ↔ wp d 175 1054 ls (.int 5 :: st) h K := w_iconst (i := 175) (pc := 1053) dL_law_1053 (by decide)
theorem dL_law_1054 : decode cL_law 1054 = .ok (.iadd, 1) := by decide +kernel
theorem w175_1054 {d : Nat} {st : List Value} {h : xH} {K : Option Value → xH → Prop} {ls : xL} {x y : Int32} : wp d 175 1054 ls (.int y :: .int x :: st) h K ↔ wp d 175 1055 ls (.int (x + y) :: st) h K := w_any (i := 175) (pc := 1054) dL_law_1054 rfl rfl
theorem dL_law_1055 : decode cL_law 1055 = .ok (.iaload, 1) := by decide +kernel
theorem w175_1055 {d : Nat} {st : List Value} {h : xH} {K : Option Value → xH → Prop} {ls : xL} {a : Nat} {x : Int32} : wp d 175 1055 ls (.int x :: .ref a :: st) h K ↔ y_iald h a x (fun v => wp d 175 1056 ls (.int v :: st) h K) := w_iald (i := 175) (pc := 1055) dL_law_1055
theorem dL_law_1056 : decode cL_law 1056 = .ok (.invokevirtual 122, 3) := by decide +kernel
theorem w175_1056 {d : Nat} {st : List Value} {h : xH} {K : Option Value → xH → Prop} {ls : xL} {a0 : Int32} {a1 : Int32} {a2 : Int32} {a3 : Int32} {a4 : Int32} {b : Nat} : wp (d + 1) 175 1056 ls (.int a4 :: .int a3 :: .int a2 :: .int a1 :: .int a0 :: .ref b :: st) h K ↔ y_cls h b 7 ∧ xcs st ≤ 8 ∧ wp d 67 0 [some (.ref b), some (.int a0), some (.int a1), some (.int a2), some (.int a3), some (.int a4), none, none] [] h (fun v h1 => wp (d + 1) 175 1059 ls (v.toList ++ st) h1 K) := w_callW (i := 175) (pc := 1056) (as := [.int a0, .int a1, .int a2, .int a3, .int a4]) (rest := st) dL_law_1056 rfl (by decide) rfl rfl (by decide) rfl rfl rfl rfl
theorem dL_law_1059 : decode cL_law 1059 = .ok (.aload_n 2, 1) := by decide +kernel
theorem w175_1059 {d : Nat} {st : List Value} {h : xH} {K : Option Value → xH → Prop} {l0 l1 l3 : Option Value} {x : Nat} : wp d 175 1059 [l0, l1, some (.ref x), l3] st h K ↔ wp d 175 1060 [l0, l1, some (.ref x), l3] (.ref x :: st) h K := w_any (i := 175) (pc := 1059) dL_law_1059 rfl rfl
theorem w175_1059n {d : Nat} {st : List Value} {h : xH} {K : Option Value → xH → Prop} {l0 l1 l3 : Option Value} : wp d 175 1059 [l0, l1, some .null, l3] st h K ↔ wp d 175 1060 [l0, l1, some .null, l3] (.null :: st) h K := w_any (i := 175) (pc := 1059) dL_law_1059 rfl rfl
theorem dL_law_1060 : decode cL_law 1060 = .ok (.aload_n 0, 1) := by decide +kernel
theorem w175_1060 {d : Nat} {st : List Value} {h : xH} {K : Option Value → xH → Prop} {l1 l2 l3 : Option Value} {x : Nat} : wp d 175 1060 [some (.ref x), l1, l2, l3] st h K ↔ wp d 175 1061 [some (.ref x), l1, l2, l3] (.ref x :: st) h K := w_any (i := 175) (pc := 1060) dL_law_1060 rfl rfl
theorem w175_1060n {d : Nat} {st : List Value} {h : xH} {K : Option Value → xH → Prop} {l1 l2 l3 : Option Value} : wp d 175 1060 [some .null, l1, l2, l3] st h K ↔ wp d 175 1061 [some .null, l1, l2, l3] (.null :: st) h K := w_any (i := 175) (pc := 1060) dL_law_1060 rfl rfl
theorem dL_law_1061 : decode cL_law 1061 = .ok (.iload_n 3, 1) := by decide +kernel
theorem w175_1061 {d : Nat} {st : List Value} {h : xH} {K : Option Value → xH → Prop} {l0 l1 l2 : Option Value} {x : Int32} : wp d 175 1061 [l0, l1, l2, some (.int x)] st h K ↔ wp d 175 1062 [l0, l1, l2, some (.int x)] (.int x :: st) h K := w_any (i := 175) (pc := 1061) dL_law_1061 rfl rfl
theorem dL_law_1062 : decode cL_law 1062 = .ok (.iconst 1, 1) := by decide +kernel
theorem w175_1062 {d : Nat} {st : List Value} {h : xH} {K : Option Value → xH → Prop} {ls : xL} : wp d 175 1062 ls st h K ↔ wp d 175 1063 ls (.int 1 :: st) h K := w_iconst (i := 175) (pc := 1062) dL_law_1062 (by decide)
theorem dL_law_1063 : decode cL_law 1063 = .ok (.iadd, 1) := by decide +kernel
theorem w175_1063 {d : Nat} {st : List Value} {h : xH} {K : Option Value → xH → Prop} {ls : xL} {x y : Int32} : wp d 175 1063 ls (.int y :: .int x :: st) h K ↔ wp d 175 1064 ls (.int (x + y) :: st) h K := w_any (i := 175) (pc := 1063) dL_law_1063 rfl rfl
theorem dL_law_1064 : decode cL_law 1064 = .ok (.iaload, 1) := by decide +kernel
theorem w175_1064 {d : Nat} {st : List Value} {h : xH} {K : Option Value → xH → Prop} {ls : xL} {a : Nat} {x : Int32} : wp d 175 1064 ls (.int x :: .ref a :: st) h K ↔ y_iald h a x (fun v => wp d 175 1065 ls (.int v :: st) h K) := w_iald (i := 175) (pc := 1064) dL_law_1064
theorem dL_law_1065 : decode cL_law 1065 = .ok (.aload_n 0, 1) := by decide +kernel
theorem w175_1065 {d : Nat} {st : List Value} {h : xH} {K : Option Value → xH → Prop} {l1 l2 l3 : Option Value} {x : Nat} : wp d 175 1065 [some (.ref x), l1, l2, l3] st h K ↔ wp d 175 1066 [some (.ref x), l1, l2, l3] (.ref x :: st) h K := w_any (i := 175) (pc := 1065) dL_law_1065 rfl rfl
theorem w175_1065n {d : Nat} {st : List Value} {h : xH} {K : Option Value → xH → Prop} {l1 l2 l3 : Option Value} : wp d 175 1065 [some .null, l1, l2, l3] st h K ↔ wp d 175 1066 [some .null, l1, l2, l3] (.null :: st) h K := w_any (i := 175) (pc := 1065) dL_law_1065 rfl rfl
theorem dL_law_1066 : decode cL_law 1066 = .ok (.iload_n 3, 1) := by decide +kernel
theorem w175_1066 {d : Nat} {st : List Value} {h : xH} {K : Option Value → xH → Prop} {l0 l1 l2 : Option Value} {x : Int32} : wp d 175 1066 [l0, l1, l2, some (.int x)] st h K ↔ wp d 175 1067 [l0, l1, l2, some (.int x)] (.int x :: st) h K := w_any (i := 175) (pc := 1066) dL_law_1066 rfl rfl
theorem dL_law_1067 : decode cL_law 1067 = .ok (.iconst 2, 1) := by decide +kernel
theorem w175_1067 {d : Nat} {st : List Value} {h : xH} {K : Option Value → xH → Prop} {ls : xL} : wp d 175 1067 ls st h K ↔ wp d 175 1068 ls (.int 2 :: st) h K := w_iconst (i := 175) (pc := 1067) dL_law_1067 (by decide)
theorem dL_law_1068 : decode cL_law 1068 = .ok (.iadd, 1) := by decide +kernel
theorem w175_1068 {d : Nat} {st : List Value} {h : xH} {K : Option Value → xH → Prop} {ls : xL} {x y : Int32} : wp d 175 1068 ls (.int y :: .int x :: st) h K ↔ wp d 175 1069 ls (.int (x + y) :: st) h K := w_any (i := 175) (pc := 1068) dL_law_1068 rfl rfl
theorem dL_law_1069 : decode cL_law 1069 = .ok (.iaload, 1) := by decide +kernel
theorem w175_1069 {d : Nat} {st : List Value} {h : xH} {K : Option Value → xH → Prop} {ls : xL} {a : Nat} {x : Int32} : wp d 175 1069 ls (.int x :: .ref a :: st) h K ↔ y_iald h a x (fun v => wp d 175 1070 ls (.int v :: st) h K) := w_iald (i := 175) (pc := 1069) dL_law_1069
theorem dL_law_1070 : decode cL_law 1070 = .ok (.aload_n 0, 1) := by decide +kernel
theorem w175_1070 {d : Nat} {st : List Value} {h : xH} {K : Option Value → xH → Prop} {l1 l2 l3 : Option Value} {x : Nat} : wp d 175 1070 [some (.ref x), l1, l2, l3] st h K ↔ wp d 175 1071 [some (.ref x), l1, l2, l3] (.ref x :: st) h K := w_any (i := 175) (pc := 1070) dL_law_1070 rfl rfl
theorem w175_1070n {d : Nat} {st : List Value} {h : xH} {K : Option Value → xH → Prop} {l1 l2 l3 : Option Value} : wp d 175 1070 [some .null, l1, l2, l3] st h K ↔ wp d 175 1071 [some .null, l1, l2, l3] (.null :: st) h K := w_any (i := 175) (pc := 1070) dL_law_1070 rfl rfl
theorem dL_law_1071 : decode cL_law 1071 = .ok (.iload_n 3, 1) := by decide +kernel
theorem w175_1071 {d : Nat} {st : List Value} {h : xH} {K : Option Value → xH → Prop} {l0 l1 l2 : Option Value} {x : Int32} : wp d 175 1071 [l0, l1, l2, some (.int x)] st h K ↔ wp d 175 1072 [l0, l1, l2, some (.int x)] (.int x :: st) h K := w_any (i := 175) (pc := 1071) dL_law_1071 rfl rfl
theorem dL_law_1072 : decode cL_law 1072 = .ok (.iconst 3, 1) := by decide +kernel
theorem w175_1072 {d : Nat} {st : List Value} {h : xH} {K : Option Value → xH → Prop} {ls : xL} : wp d 175 1072 ls st h K ↔ wp d 175 1073 ls (.int 3 :: st) h K := w_iconst (i := 175) (pc := 1072) dL_law_1072 (by decide)
theorem dL_law_1073 : decode cL_law 1073 = .ok (.iadd, 1) := by decide +kernel
theorem w175_1073 {d : Nat} {st : List Value} {h : xH} {K : Option Value → xH → Prop} {ls : xL} {x y : Int32} : wp d 175 1073 ls (.int y :: .int x :: st) h K ↔ wp d 175 1074 ls (.int (x + y) :: st) h K := w_any (i := 175) (pc := 1073) dL_law_1073 rfl rfl
theorem dL_law_1074 : decode cL_law 1074 = .ok (.iaload, 1) := by decide +kernel
theorem w175_1074 {d : Nat} {st : List Value} {h : xH} {K : Option Value → xH → Prop} {ls : xL} {a : Nat} {x : Int32} : wp d 175 1074 ls (.int x :: .ref a :: st) h K ↔ y_iald h a x (fun v => wp d 175 1075 ls (.int v :: st) h K) := w_iald (i := 175) (pc := 1074) dL_law_1074
theorem dL_law_1075 : decode cL_law 1075 = .ok (.aload_n 0, 1) := by decide +kernel
theorem w175_1075 {d : Nat} {st : List Value} {h : xH} {K : Option Value → xH → Prop} {l1 l2 l3 : Option Value} {x : Nat} : wp d 175 1075 [some (.ref x), l1, l2, l3] st h K ↔ wp d 175 1076 [some (.ref x), l1, l2, l3] (.ref x :: st) h K := w_any (i := 175) (pc := 1075) dL_law_1075 rfl rfl
theorem w175_1075n {d : Nat} {st : List Value} {h : xH} {K : Option Value → xH → Prop} {l1 l2 l3 : Option Value} : wp d 175 1075 [some .null, l1, l2, l3] st h K ↔ wp d 175 1076 [some .null, l1, l2, l3] (.null :: st) h K := w_any (i := 175) (pc := 1075) dL_law_1075 rfl rfl
theorem dL_law_1076 : decode cL_law 1076 = .ok (.iload_n 3, 1) := by decide +kernel
theorem w175_1076 {d : Nat} {st : List Value} {h : xH} {K : Option Value → xH → Prop} {l0 l1 l2 : Option Value} {x : Int32} : wp d 175 1076 [l0, l1, l2, some (.int x)] st h K ↔ wp d 175 1077 [l0, l1, l2, some (.int x)] (.int x :: st) h K := w_any (i := 175) (pc := 1076) dL_law_1076 rfl rfl
theorem dL_law_1077 : decode cL_law 1077 = .ok (.iconst 4, 1) := by decide +kernel
theorem w175_1077 {d : Nat} {st : List Value} {h : xH} {K : Option Value → xH → Prop} {ls : xL} : wp d 175 1077 ls st h K ↔ wp d 175 1078 ls (.int 4 :: st) h K := w_iconst (i := 175) (pc := 1077) dL_law_1077 (by decide)
theorem dL_law_1078 : decode cL_law 1078 = .ok (.iadd, 1) := by decide +kernel
theorem w175_1078 {d : Nat} {st : List Value} {h : xH} {K : Option Value → xH → Prop} {ls : xL} {x y : Int32} : wp d 175 1078 ls (.int y :: .int x :: st) h K ↔ wp d 175 1079 ls (.int (x + y) :: st) h K := w_any (i := 175) (pc := 1078) dL_law_1078 rfl rfl
theorem dL_law_1079 : decode cL_law 1079 = .ok (.iaload, 1) := by decide +kernel
theorem w175_1079 {d : Nat} {st : List Value} {h : xH} {K : Option Value → xH → Prop} {ls : xL} {a : Nat} {x : Int32} : wp d 175 1079 ls (.int x :: .ref a :: st) h K ↔ y_iald h a x (fun v => wp d 175 1080 ls (.int v :: st) h K) := w_iald (i := 175) (pc := 1079) dL_law_1079
theorem dL_law_1080 : decode cL_law 1080 = .ok (.aload_n 0, 1) := by decide +kernel
theorem w175_1080 {d : Nat} {st : List Value} {h : xH} {K : Option Value → xH → Prop} {l1 l2 l3 : Option Value} {x : Nat} : wp d 175 1080 [some (.ref x), l1, l2, l3] st h K ↔ wp d 175 1081 [some (.ref x), l1, l2, l3] (.ref x :: st) h K := w_any (i := 175) (pc := 1080) dL_law_1080 rfl rfl
theorem w175_1080n {d : Nat} {st : List Value} {h : xH} {K : Option Value → xH → Prop} {l1 l2 l3 : Option Value} : wp d 175 1080 [some .null, l1, l2, l3] st h K ↔ wp d 175 1081 [some .null, l1, l2, l3] (.null :: st) h K := w_any (i := 175) (pc := 1080) dL_law_1080 rfl rfl
theorem dL_law_1081 : decode cL_law 1081 = .ok (.iload_n 3, 1) := by decide +kernel
theorem w175_1081 {d : Nat} {st : List Value} {h : xH} {K : Option Value → xH → Prop} {l0 l1 l2 : Option Value} {x : Int32} : wp d 175 1081 [l0, l1, l2, some (.int x)] st h K ↔ wp d 175 1082 [l0, l1, l2, some (.int x)] (.int x :: st) h K := w_any (i := 175) (pc := 1081) dL_law_1081 rfl rfl
theorem dL_law_1082 : decode cL_law 1082 = .ok (.iconst 5, 1) := by decide +kernel
theorem w175_1082 {d : Nat} {st : List Value} {h : xH} {K : Option Value → xH → Prop} {ls : xL} : wp d 175 1082 ls st h K ↔ wp d 175 1083 ls (.int 5 :: st) h K := w_iconst (i := 175) (pc := 1082) dL_law_1082 (by decide)
theorem dL_law_1083 : decode cL_law 1083 = .ok (.iadd, 1) := by decide +kernel
theorem w175_1083 {d : Nat} {st : List Value} {h : xH} {K : Option Value → xH → Prop} {ls : xL} {x y : Int32} : wp d 175 1083 ls (.int y :: .int x :: st) h K ↔ wp d 175 1084 ls (.int (x + y) :: st) h K := w_any (i := 175) (pc := 1083) dL_law_1083 rfl rfl
theorem dL_law_1084 : decode cL_law 1084 = .ok (.iaload, 1) := by decide +kernel
theorem w175_1084 {d : Nat} {st : List Value} {h : xH} {K : Option Value → xH → Prop} {ls : xL} {a : Nat} {x : Int32} : wp d 175 1084 ls (.int x :: .ref a :: st) h K ↔ y_iald h a x (fun v => wp d 175 1085 ls (.int v :: st) h K) := w_iald (i := 175) (pc := 1084) dL_law_1084
theorem dL_law_1085 : decode cL_law 1085 = .ok (.invokevirtual 126, 3) := by decide +kernel
theorem w175_1085 {d : Nat} {st : List Value} {h : xH} {K : Option Value → xH → Prop} {ls : xL} {a0 : Int32} {a1 : Int32} {a2 : Int32} {a3 : Int32} {a4 : Int32} {b : Nat} : wp (d + 1) 175 1085 ls (.int a4 :: .int a3 :: .int a2 :: .int a1 :: .int a0 :: .ref b :: st) h K ↔ y_cls h b 8 ∧ xcs st ≤ 8 ∧ wp d 144 0 [some (.ref b), some (.int a0), some (.int a1), some (.int a2), some (.int a3), some (.int a4), none, none, none, none] [] h (fun v h1 => wp (d + 1) 175 1088 ls (v.toList ++ st) h1 K) := w_callW (i := 175) (pc := 1085) (as := [.int a0, .int a1, .int a2, .int a3, .int a4]) (rest := st) dL_law_1085 rfl (by decide) rfl rfl (by decide) rfl rfl rfl rfl
theorem dL_law_1088 : decode cL_law 1088 = .ok (.if_icmp .eq 133, 3) := by decide +kernel
theorem w175_1088 {d : Nat} {st : List Value} {h : xH} {K : Option Value → xH → Prop} {ls : xL} {x y : Int32} : wp d 175 1088 ls (.int y :: .int x :: st) h K ↔ ((x = y) → wp d 175 1221 ls st h K) ∧ ((¬ (x = y)) → wp d 175 1091 ls st h K) := w_if2 (i := 175) (pc := 1088) (cd := .eq) (off := 133) (tgt := 1221) dL_law_1088 (by decide) rfl
theorem dL_law_1091 : decode cL_law 1091 = .ok (.iconst 0, 1) := by decide +kernel
theorem w175_1091 {d : Nat} {st : List Value} {h : xH} {K : Option Value → xH → Prop} {ls : xL} : wp d 175 1091 ls st h K ↔ wp d 175 1092 ls (.int 0 :: st) h K := w_iconst (i := 175) (pc := 1091) dL_law_1091 (by decide)
theorem dL_law_1092 : decode cL_law 1092 = .ok (.ireturn, 1) := by decide +kernel
theorem w175_1092 {d : Nat} {h : xH} {K : Option Value → xH → Prop} {ls : xL} {x : Int32} : wp d 175 1092 ls [.int x] h K ↔ y_bool x ∧ K (some (.int x)) h := w_zret (i := 175) (pc := 1092) dL_law_1092 rfl
theorem dL_law_1093 : decode cL_law 1093 = .ok (.aload_n 1, 1) := by decide +kernel
theorem w175_1093 {d : Nat} {st : List Value} {h : xH} {K : Option Value → xH → Prop} {l0 l2 l3 : Option Value} {x : Nat} : wp d 175 1093 [l0, some (.ref x), l2, l3] st h K ↔ wp d 175 1094 [l0, some (.ref x), l2, l3] (.ref x :: st) h K := w_any (i := 175) (pc := 1093) dL_law_1093 rfl rfl
theorem w175_1093n {d : Nat} {st : List Value} {h : xH} {K : Option Value → xH → Prop} {l0 l2 l3 : Option Value} : wp d 175 1093 [l0, some .null, l2, l3] st h K ↔ wp d 175 1094 [l0, some .null, l2, l3] (.null :: st) h K := w_any (i := 175) (pc := 1093) dL_law_1093 rfl rfl
theorem dL_law_1094 : decode cL_law 1094 = .ok (.aload_n 0, 1) := by decide +kernel
theorem w175_1094 {d : Nat} {st : List Value} {h : xH} {K : Option Value → xH → Prop} {l1 l2 l3 : Option Value} {x : Nat} : wp d 175 1094 [some (.ref x), l1, l2, l3] st h K ↔ wp d 175 1095 [some (.ref x), l1, l2, l3] (.ref x :: st) h K := w_any (i := 175) (pc := 1094) dL_law_1094 rfl rfl
theorem w175_1094n {d : Nat} {st : List Value} {h : xH} {K : Option Value → xH → Prop} {l1 l2 l3 : Option Value} : wp d 175 1094 [some .null, l1, l2, l3] st h K ↔ wp d 175 1095 [some .null, l1, l2, l3] (.null :: st) h K := w_any (i := 175) (pc := 1094) dL_law_1094 rfl rfl
theorem dL_law_1095 : decode cL_law 1095 = .ok (.iload_n 3, 1) := by decide +kernel
theorem w175_1095 {d : Nat} {st : List Value} {h : xH} {K : Option Value → xH → Prop} {l0 l1 l2 : Option Value} {x : Int32} : wp d 175 1095 [l0, l1, l2, some (.int x)] st h K ↔ wp d 175 1096 [l0, l1, l2, some (.int x)] (.int x :: st) h K := w_any (i := 175) (pc := 1095) dL_law_1095 rfl rfl
theorem dL_law_1096 : decode cL_law 1096 = .ok (.iconst 1, 1) := by decide +kernel
theorem w175_1096 {d : Nat} {st : List Value} {h : xH} {K : Option Value → xH → Prop} {ls : xL} : wp d 175 1096 ls st h K ↔ wp d 175 1097 ls (.int 1 :: st) h K := w_iconst (i := 175) (pc := 1096) dL_law_1096 (by decide)
theorem dL_law_1097 : decode cL_law 1097 = .ok (.iadd, 1) := by decide +kernel
theorem w175_1097 {d : Nat} {st : List Value} {h : xH} {K : Option Value → xH → Prop} {ls : xL} {x y : Int32} : wp d 175 1097 ls (.int y :: .int x :: st) h K ↔ wp d 175 1098 ls (.int (x + y) :: st) h K := w_any (i := 175) (pc := 1097) dL_law_1097 rfl rfl
theorem dL_law_1098 : decode cL_law 1098 = .ok (.iaload, 1) := by decide +kernel
theorem w175_1098 {d : Nat} {st : List Value} {h : xH} {K : Option Value → xH → Prop} {ls : xL} {a : Nat} {x : Int32} : wp d 175 1098 ls (.int x :: .ref a :: st) h K ↔ y_iald h a x (fun v => wp d 175 1099 ls (.int v :: st) h K) := w_iald (i := 175) (pc := 1098) dL_law_1098
theorem dL_law_1099 : decode cL_law 1099 = .ok (.invokevirtual 127, 3) := by decide +kernel
theorem w175_1099 {d : Nat} {st : List Value} {h : xH} {K : Option Value → xH → Prop} {ls : xL} {a0 : Int32} {b : Nat} : wp (d + 1) 175 1099 ls (.int a0 :: .ref b :: st) h K ↔ y_cls h b 7 ∧ xcs st ≤ 8 ∧ wp d 68 0 [some (.ref b), some (.int a0), none] [] h (fun v h1 => wp (d + 1) 175 1102 ls (v.toList ++ st) h1 K) := w_callW (i := 175) (pc := 1099) (as := [.int a0]) (rest := st) dL_law_1099 rfl (by decide) rfl rfl (by decide) rfl rfl rfl rfl
theorem dL_law_1102 : decode cL_law 1102 = .ok (.aload_n 2, 1) := by decide +kernel
theorem w175_1102 {d : Nat} {st : List Value} {h : xH} {K : Option Value → xH → Prop} {l0 l1 l3 : Option Value} {x : Nat} : wp d 175 1102 [l0, l1, some (.ref x), l3] st h K ↔ wp d 175 1103 [l0, l1, some (.ref x), l3] (.ref x :: st) h K := w_any (i := 175) (pc := 1102) dL_law_1102 rfl rfl
theorem w175_1102n {d : Nat} {st : List Value} {h : xH} {K : Option Value → xH → Prop} {l0 l1 l3 : Option Value} : wp d 175 1102 [l0, l1, some .null, l3] st h K ↔ wp d 175 1103 [l0, l1, some .null, l3] (.null :: st) h K := w_any (i := 175) (pc := 1102) dL_law_1102 rfl rfl
theorem dL_law_1103 : decode cL_law 1103 = .ok (.aload_n 0, 1) := by decide +kernel
theorem w175_1103 {d : Nat} {st : List Value} {h : xH} {K : Option Value → xH → Prop} {l1 l2 l3 : Option Value} {x : Nat} : wp d 175 1103 [some (.ref x), l1, l2, l3] st h K ↔ wp d 175 1104 [some (.ref x), l1, l2, l3] (.ref x :: st) h K := w_any (i := 175) (pc := 1103) dL_law_1103 rfl rfl
theorem w175_1103n {d : Nat} {st : List Value} {h : xH} {K : Option Value → xH → Prop} {l1 l2 l3 : Option Value} : wp d 175 1103 [some .null, l1, l2, l3] st h K ↔ wp d 175 1104 [some .null, l1, l2, l3] (.null :: st) h K := w_any (i := 175) (pc := 1103) dL_law_1103 rfl rfl
theorem dL_law_1104 : decode cL_law 1104 = .ok (.iload_n 3, 1) := by decide +kernel
theorem w175_1104 {d : Nat} {st : List Value} {h : xH} {K : Option Value → xH → Prop} {l0 l1 l2 : Option Value} {x : Int32} : wp d 175 1104 [l0, l1, l2, some (.int x)] st h K ↔ wp d 175 1105 [l0, l1, l2, some (.int x)] (.int x :: st) h K := w_any (i := 175) (pc := 1104) dL_law_1104 rfl rfl
theorem dL_law_1105 : decode cL_law 1105 = .ok (.iconst 1, 1) := by decide +kernel
theorem w175_1105 {d : Nat} {st : List Value} {h : xH} {K : Option Value → xH → Prop} {ls : xL} : wp d 175 1105 ls st h K ↔ wp d 175 1106 ls (.int 1 :: st) h K := w_iconst (i := 175) (pc := 1105) dL_law_1105 (by decide)
theorem dL_law_1106 : decode cL_law 1106 = .ok (.iadd, 1) := by decide +kernel
theorem w175_1106 {d : Nat} {st : List Value} {h : xH} {K : Option Value → xH → Prop} {ls : xL} {x y : Int32} : wp d 175 1106 ls (.int y :: .int x :: st) h K ↔ wp d 175 1107 ls (.int (x + y) :: st) h K := w_any (i := 175) (pc := 1106) dL_law_1106 rfl rfl
theorem dL_law_1107 : decode cL_law 1107 = .ok (.iaload, 1) := by decide +kernel
theorem w175_1107 {d : Nat} {st : List Value} {h : xH} {K : Option Value → xH → Prop} {ls : xL} {a : Nat} {x : Int32} : wp d 175 1107 ls (.int x :: .ref a :: st) h K ↔ y_iald h a x (fun v => wp d 175 1108 ls (.int v :: st) h K) := w_iald (i := 175) (pc := 1107) dL_law_1107
theorem dL_law_1108 : decode cL_law 1108 = .ok (.invokevirtual 130, 3) := by decide +kernel
theorem w175_1108 {d : Nat} {st : List Value} {h : xH} {K : Option Value → xH → Prop} {ls : xL} {a0 : Int32} {b : Nat} : wp (d + 1) 175 1108 ls (.int a0 :: .ref b :: st) h K ↔ y_cls h b 8 ∧ xcs st ≤ 8 ∧ wp d 146 0 [some (.ref b), some (.int a0), none] [] h (fun v h1 => wp (d + 1) 175 1111 ls (v.toList ++ st) h1 K) := w_callW (i := 175) (pc := 1108) (as := [.int a0]) (rest := st) dL_law_1108 rfl (by decide) rfl rfl (by decide) rfl rfl rfl rfl
theorem dL_law_1111 : decode cL_law 1111 = .ok (.if_icmp .eq 110, 3) := by decide +kernel
theorem w175_1111 {d : Nat} {st : List Value} {h : xH} {K : Option Value → xH → Prop} {ls : xL} {x y : Int32} : wp d 175 1111 ls (.int y :: .int x :: st) h K ↔ ((x = y) → wp d 175 1221 ls st h K) ∧ ((¬ (x = y)) → wp d 175 1114 ls st h K) := w_if2 (i := 175) (pc := 1111) (cd := .eq) (off := 110) (tgt := 1221) dL_law_1111 (by decide) rfl
theorem dL_law_1114 : decode cL_law 1114 = .ok (.iconst 0, 1) := by decide +kernel
theorem w175_1114 {d : Nat} {st : List Value} {h : xH} {K : Option Value → xH → Prop} {ls : xL} : wp d 175 1114 ls st h K ↔ wp d 175 1115 ls (.int 0 :: st) h K := w_iconst (i := 175) (pc := 1114) dL_law_1114 (by decide)
theorem dL_law_1115 : decode cL_law 1115 = .ok (.ireturn, 1) := by decide +kernel
theorem w175_1115 {d : Nat} {h : xH} {K : Option Value → xH → Prop} {ls : xL} {x : Int32} : wp d 175 1115 ls [.int x] h K ↔ y_bool x ∧ K (some (.int x)) h := w_zret (i := 175) (pc := 1115) dL_law_1115 rfl
theorem dL_law_1116 : decode cL_law 1116 = .ok (.aload_n 1, 1) := by decide +kernel
theorem w175_1116 {d : Nat} {st : List Value} {h : xH} {K : Option Value → xH → Prop} {l0 l2 l3 : Option Value} {x : Nat} : wp d 175 1116 [l0, some (.ref x), l2, l3] st h K ↔ wp d 175 1117 [l0, some (.ref x), l2, l3] (.ref x :: st) h K := w_any (i := 175) (pc := 1116) dL_law_1116 rfl rfl
theorem w175_1116n {d : Nat} {st : List Value} {h : xH} {K : Option Value → xH → Prop} {l0 l2 l3 : Option Value} : wp d 175 1116 [l0, some .null, l2, l3] st h K ↔ wp d 175 1117 [l0, some .null, l2, l3] (.null :: st) h K := w_any (i := 175) (pc := 1116) dL_law_1116 rfl rfl
theorem dL_law_1117 : decode cL_law 1117 = .ok (.aload_n 0, 1) := by decide +kernel
theorem w175_1117 {d : Nat} {st : List Value} {h : xH} {K : Option Value → xH → Prop} {l1 l2 l3 : Option Value} {x : Nat} : wp d 175 1117 [some (.ref x), l1, l2, l3] st h K ↔ wp d 175 1118 [some (.ref x), l1, l2, l3] (.ref x :: st) h K := w_any (i := 175) (pc := 1117) dL_law_1117 rfl rfl
theorem w175_1117n {d : Nat} {st : List Value} {h : xH} {K : Option Value → xH → Prop} {l1 l2 l3 : Option Value} : wp d 175 1117 [some .null, l1, l2, l3] st h K ↔ wp d 175 1118 [some .null, l1, l2, l3] (.null :: st) h K := w_any (i := 175) (pc := 1117) dL_law_1117 rfl rfl
theorem dL_law_1118 : decode cL_law 1118 = .ok (.iload_n 3, 1) := by decide +kernel
theorem w175_1118 {d : Nat} {st : List Value} {h : xH} {K : Option Value → xH → Prop} {l0 l1 l2 : Option Value} {x : Int32} : wp d 175 1118 [l0, l1, l2, some (.int x)] st h K ↔ wp d 175 1119 [l0, l1, l2, some (.int x)] (.int x :: st) h K := w_any (i := 175) (pc := 1118) dL_law_1118 rfl rfl
theorem dL_law_1119 : decode cL_law 1119 = .ok (.iconst 1, 1) := by decide +kernel
theorem w175_1119 {d : Nat} {st : List Value} {h : xH} {K : Option Value → xH → Prop} {ls : xL} : wp d 175 1119 ls st h K ↔ wp d 175 1120 ls (.int 1 :: st) h K := w_iconst (i := 175) (pc := 1119) dL_law_1119 (by decide)
theorem dL_law_1120 : decode cL_law 1120 = .ok (.iadd, 1) := by decide +kernel
theorem w175_1120 {d : Nat} {st : List Value} {h : xH} {K : Option Value → xH → Prop} {ls : xL} {x y : Int32} : wp d 175 1120 ls (.int y :: .int x :: st) h K ↔ wp d 175 1121 ls (.int (x + y) :: st) h K := w_any (i := 175) (pc := 1120) dL_law_1120 rfl rfl
theorem dL_law_1121 : decode cL_law 1121 = .ok (.iaload, 1) := by decide +kernel
theorem w175_1121 {d : Nat} {st : List Value} {h : xH} {K : Option Value → xH → Prop} {ls : xL} {a : Nat} {x : Int32} : wp d 175 1121 ls (.int x :: .ref a :: st) h K ↔ y_iald h a x (fun v => wp d 175 1122 ls (.int v :: st) h K) := w_iald (i := 175) (pc := 1121) dL_law_1121
theorem dL_law_1122 : decode cL_law 1122 = .ok (.invokevirtual 131, 3) := by decide +kernel
theorem w175_1122 {d : Nat} {st : List Value} {h : xH} {K : Option Value → xH → Prop} {ls : xL} {a0 : Int32} {b : Nat} : wp (d + 1) 175 1122 ls (.int a0 :: .ref b :: st) h K ↔ y_cls h b 7 ∧ xcs st ≤ 8 ∧ wp d 69 0 [some (.ref b), some (.int a0), none] [] h (fun v h1 => wp (d + 1) 175 1125 ls (v.toList ++ st) h1 K) := w_callW (i := 175) (pc := 1122) (as := [.int a0]) (rest := st) dL_law_1122 rfl (by decide) rfl rfl (by decide) rfl rfl rfl rfl
theorem dL_law_1125 : decode cL_law 1125 = .ok (.aload_n 2, 1) := by decide +kernel
theorem w175_1125 {d : Nat} {st : List Value} {h : xH} {K : Option Value → xH → Prop} {l0 l1 l3 : Option Value} {x : Nat} : wp d 175 1125 [l0, l1, some (.ref x), l3] st h K ↔ wp d 175 1126 [l0, l1, some (.ref x), l3] (.ref x :: st) h K := w_any (i := 175) (pc := 1125) dL_law_1125 rfl rfl
theorem w175_1125n {d : Nat} {st : List Value} {h : xH} {K : Option Value → xH → Prop} {l0 l1 l3 : Option Value} : wp d 175 1125 [l0, l1, some .null, l3] st h K ↔ wp d 175 1126 [l0, l1, some .null, l3] (.null :: st) h K := w_any (i := 175) (pc := 1125) dL_law_1125 rfl rfl
theorem dL_law_1126 : decode cL_law 1126 = .ok (.aload_n 0, 1) := by decide +kernel
theorem w175_1126 {d : Nat} {st : List Value} {h : xH} {K : Option Value → xH → Prop} {l1 l2 l3 : Option Value} {x : Nat} : wp d 175 1126 [some (.ref x), l1, l2, l3] st h K ↔ wp d 175 1127 [some (.ref x), l1, l2, l3] (.ref x :: st) h K := w_any (i := 175) (pc := 1126) dL_law_1126 rfl rfl
theorem w175_1126n {d : Nat} {st : List Value} {h : xH} {K : Option Value → xH → Prop} {l1 l2 l3 : Option Value} : wp d 175 1126 [some .null, l1, l2, l3] st h K ↔ wp d 175 1127 [some .null, l1, l2, l3] (.null :: st) h K := w_any (i := 175) (pc := 1126) dL_law_1126 rfl rfl
theorem dL_law_1127 : decode cL_law 1127 = .ok (.iload_n 3, 1) := by decide +kernel
theorem w175_1127 {d : Nat} {st : List Value} {h : xH} {K : Option Value → xH → Prop} {l0 l1 l2 : Option Value} {x : Int32} : wp d 175 1127 [l0, l1, l2, some (.int x)] st h K ↔ wp d 175 1128 [l0, l1, l2, some (.int x)] (.int x :: st) h K := w_any (i := 175) (pc := 1127) dL_law_1127 rfl rfl
theorem dL_law_1128 : decode cL_law 1128 = .ok (.iconst 1, 1) := by decide +kernel
theorem w175_1128 {d : Nat} {st : List Value} {h : xH} {K : Option Value → xH → Prop} {ls : xL} : wp d 175 1128 ls st h K ↔ wp d 175 1129 ls (.int 1 :: st) h K := w_iconst (i := 175) (pc := 1128) dL_law_1128 (by decide)
theorem dL_law_1129 : decode cL_law 1129 = .ok (.iadd, 1) := by decide +kernel
theorem w175_1129 {d : Nat} {st : List Value} {h : xH} {K : Option Value → xH → Prop} {ls : xL} {x y : Int32} : wp d 175 1129 ls (.int y :: .int x :: st) h K ↔ wp d 175 1130 ls (.int (x + y) :: st) h K := w_any (i := 175) (pc := 1129) dL_law_1129 rfl rfl
theorem dL_law_1130 : decode cL_law 1130 = .ok (.iaload, 1) := by decide +kernel
theorem w175_1130 {d : Nat} {st : List Value} {h : xH} {K : Option Value → xH → Prop} {ls : xL} {a : Nat} {x : Int32} : wp d 175 1130 ls (.int x :: .ref a :: st) h K ↔ y_iald h a x (fun v => wp d 175 1131 ls (.int v :: st) h K) := w_iald (i := 175) (pc := 1130) dL_law_1130
theorem dL_law_1131 : decode cL_law 1131 = .ok (.invokevirtual 134, 3) := by decide +kernel
theorem w175_1131 {d : Nat} {st : List Value} {h : xH} {K : Option Value → xH → Prop} {ls : xL} {a0 : Int32} {b : Nat} : wp (d + 1) 175 1131 ls (.int a0 :: .ref b :: st) h K ↔ y_cls h b 8 ∧ xcs st ≤ 8 ∧ wp d 147 0 [some (.ref b), some (.int a0)] [] h (fun v h1 => wp (d + 1) 175 1134 ls (v.toList ++ st) h1 K) := w_callW (i := 175) (pc := 1131) (as := [.int a0]) (rest := st) dL_law_1131 rfl (by decide) rfl rfl (by decide) rfl rfl rfl rfl
theorem dL_law_1134 : decode cL_law 1134 = .ok (.if_icmp .eq 87, 3) := by decide +kernel
theorem w175_1134 {d : Nat} {st : List Value} {h : xH} {K : Option Value → xH → Prop} {ls : xL} {x y : Int32} : wp d 175 1134 ls (.int y :: .int x :: st) h K ↔ ((x = y) → wp d 175 1221 ls st h K) ∧ ((¬ (x = y)) → wp d 175 1137 ls st h K) := w_if2 (i := 175) (pc := 1134) (cd := .eq) (off := 87) (tgt := 1221) dL_law_1134 (by decide) rfl
theorem dL_law_1137 : decode cL_law 1137 = .ok (.iconst 0, 1) := by decide +kernel
theorem w175_1137 {d : Nat} {st : List Value} {h : xH} {K : Option Value → xH → Prop} {ls : xL} : wp d 175 1137 ls st h K ↔ wp d 175 1138 ls (.int 0 :: st) h K := w_iconst (i := 175) (pc := 1137) dL_law_1137 (by decide)
theorem dL_law_1138 : decode cL_law 1138 = .ok (.ireturn, 1) := by decide +kernel
theorem w175_1138 {d : Nat} {h : xH} {K : Option Value → xH → Prop} {ls : xL} {x : Int32} : wp d 175 1138 ls [.int x] h K ↔ y_bool x ∧ K (some (.int x)) h := w_zret (i := 175) (pc := 1138) dL_law_1138 rfl
theorem dL_law_1139 : decode cL_law 1139 = .ok (.aload_n 1, 1) := by decide +kernel
theorem w175_1139 {d : Nat} {st : List Value} {h : xH} {K : Option Value → xH → Prop} {l0 l2 l3 : Option Value} {x : Nat} : wp d 175 1139 [l0, some (.ref x), l2, l3] st h K ↔ wp d 175 1140 [l0, some (.ref x), l2, l3] (.ref x :: st) h K := w_any (i := 175) (pc := 1139) dL_law_1139 rfl rfl
theorem w175_1139n {d : Nat} {st : List Value} {h : xH} {K : Option Value → xH → Prop} {l0 l2 l3 : Option Value} : wp d 175 1139 [l0, some .null, l2, l3] st h K ↔ wp d 175 1140 [l0, some .null, l2, l3] (.null :: st) h K := w_any (i := 175) (pc := 1139) dL_law_1139 rfl rfl
theorem dL_law_1140 : decode cL_law 1140 = .ok (.aload_n 0, 1) := by decide +kernel
theorem w175_1140 {d : Nat} {st : List Value} {h : xH} {K : Option Value → xH → Prop} {l1 l2 l3 : Option Value} {x : Nat} : wp d 175 1140 [some (.ref x), l1, l2, l3] st h K ↔ wp d 175 1141 [some (.ref x), l1, l2, l3] (.ref x :: st) h K := w_any (i := 175) (pc := 1140) dL_law_1140 rfl rfl
theorem w175_1140n {d : Nat} {st : List Value} {h : xH} {K : Option Value → xH → Prop} {l1 l2 l3 : Option Value} : wp d 175 1140 [some .null, l1, l2, l3] st h K ↔ wp d 175 1141 [some .null, l1, l2, l3] (.null :: st) h K := w_any (i := 175) (pc := 1140) dL_law_1140 rfl rfl
theorem dL_law_1141 : decode cL_law 1141 = .ok (.iload_n 3, 1) := by decide +kernel
theorem w175_1141 {d : Nat} {st : List Value} {h : xH} {K : Option Value → xH → Prop} {l0 l1 l2 : Option Value} {x : Int32} : wp d 175 1141 [l0, l1, l2, some (.int x)] st h K ↔ wp d 175 1142 [l0, l1, l2, some (.int x)] (.int x :: st) h K := w_any (i := 175) (pc := 1141) dL_law_1141 rfl rfl
theorem dL_law_1142 : decode cL_law 1142 = .ok (.iconst 1, 1) := by decide +kernel
theorem w175_1142 {d : Nat} {st : List Value} {h : xH} {K : Option Value → xH → Prop} {ls : xL} : wp d 175 1142 ls st h K ↔ wp d 175 1143 ls (.int 1 :: st) h K := w_iconst (i := 175) (pc := 1142) dL_law_1142 (by decide)
theorem dL_law_1143 : decode cL_law 1143 = .ok (.iadd, 1) := by decide +kernel
theorem w175_1143 {d : Nat} {st : List Value} {h : xH} {K : Option Value → xH → Prop} {ls : xL} {x y : Int32} : wp d 175 1143 ls (.int y :: .int x :: st) h K ↔ wp d 175 1144 ls (.int (x + y) :: st) h K := w_any (i := 175) (pc := 1143) dL_law_1143 rfl rfl
theorem dL_law_1144 : decode cL_law 1144 = .ok (.iaload, 1) := by decide +kernel
theorem w175_1144 {d : Nat} {st : List Value} {h : xH} {K : Option Value → xH → Prop} {ls : xL} {a : Nat} {x : Int32} : wp d 175 1144 ls (.int x :: .ref a :: st) h K ↔ y_iald h a x (fun v => wp d 175 1145 ls (.int v :: st) h K) := w_iald (i := 175) (pc := 1144) dL_law_1144
theorem dL_law_1145 : decode cL_law 1145 = .ok (.aload_n 0, 1) := by decide +kernel
theorem w175_1145 {d : Nat} {st : List Value} {h : xH} {K : Option Value → xH → Prop} {l1 l2 l3 : Option Value} {x : Nat} : wp d 175 1145 [some (.ref x), l1, l2, l3] st h K ↔ wp d 175 1146 [some (.ref x), l1, l2, l3] (.ref x :: st) h K := w_any (i := 175) (pc := 1145) dL_law_1145 rfl rfl
theorem w175_1145n {d : Nat} {st : List Value} {h : xH} {K : Option Value → xH → Prop} {l1 l2 l3 : Option Value} : wp d 175 1145 [some .null, l1, l2, l3] st h K ↔ wp d 175 1146 [some .null, l1, l2, l3] (.null :: st) h K := w_any (i := 175) (pc := 1145) dL_law_1145 rfl rfl
theorem dL_law_1146 : decode cL_law 1146 = .ok (.iload_n 3, 1) := by decide +kernel
theorem w175_1146 {d : Nat} {st : List Value} {h : xH} {K : Option Value → xH → Prop} {l0 l1 l2 : Option Value} {x : Int32} : wp d 175 1146 [l0, l1, l2, some (.int x)] st h K ↔ wp d 175 1147 [l0, l1, l2, some (.int x)] (.int x :: st) h K := w_any (i := 175) (pc := 1146) dL_law_1146 rfl rfl
theorem dL_law_1147 : decode cL_law 1147 = .ok (.iconst 2, 1) := by decide +kernel
theorem w175_1147 {d : Nat} {st : List Value} {h : xH} {K : Option Value → xH → Prop} {ls : xL} : wp d 175 1147 ls st h K ↔ wp d 175 1148 ls (.int 2 :: st) h K := w_iconst (i := 175) (pc := 1147) dL_law_1147 (by decide)
theorem dL_law_1148 : decode cL_law 1148 = .ok (.iadd, 1) := by decide +kernel
theorem w175_1148 {d : Nat} {st : List Value} {h : xH} {K : Option Value → xH → Prop} {ls : xL} {x y : Int32} : wp d 175 1148 ls (.int y :: .int x :: st) h K ↔ wp d 175 1149 ls (.int (x + y) :: st) h K := w_any (i := 175) (pc := 1148) dL_law_1148 rfl rfl
theorem dL_law_1149 : decode cL_law 1149 = .ok (.iaload, 1) := by decide +kernel
theorem w175_1149 {d : Nat} {st : List Value} {h : xH} {K : Option Value → xH → Prop} {ls : xL} {a : Nat} {x : Int32} : wp d 175 1149 ls (.int x :: .ref a :: st) h K ↔ y_iald h a x (fun v => wp d 175 1150 ls (.int v :: st) h K) := w_iald (i := 175) (pc := 1149) dL_law_1149
theorem dL_law_1150 : decode cL_law 1150 = .ok (.invokevirtual 135, 3) := by decide +kernel
theorem w175_1150 {d : Nat} {st : List Value} {h : xH} {K : Option Value → xH → Prop} {ls : xL} {a0 : Int32} {a1 : Int32} {b : Nat} : wp (d + 1) 175 1150 ls (.int a1 :: .int a0 :: .ref b :: st) h K ↔ y_cls h b 7 ∧ xcs st ≤ 8 ∧ wp d 70 0 [some (.ref b), some (.int a0), some (.int a1), none] [] h (fun v h1 => wp (d + 1) 175 1153 ls (v.toList ++ st) h1 K) := w_callW (i := 175) (pc := 1150) (as := [.int a0, .int a1]) (rest := st) dL_law_1150 rfl (by decide) rfl rfl (by decide) rfl rfl rfl rfl
theorem dL_law_1153 : decode cL_law 1153 = .ok (.aload_n 2, 1) := by decide +kernel
theorem w175_1153 {d : Nat} {st : List Value} {h : xH} {K : Option Value → xH → Prop} {l0 l1 l3 : Option Value} {x : Nat} : wp d 175 1153 [l0, l1, some (.ref x), l3] st h K ↔ wp d 175 1154 [l0, l1, some (.ref x), l3] (.ref x :: st) h K := w_any (i := 175) (pc := 1153) dL_law_1153 rfl rfl
theorem w175_1153n {d : Nat} {st : List Value} {h : xH} {K : Option Value → xH → Prop} {l0 l1 l3 : Option Value} : wp d 175 1153 [l0, l1, some .null, l3] st h K ↔ wp d 175 1154 [l0, l1, some .null, l3] (.null :: st) h K := w_any (i := 175) (pc := 1153) dL_law_1153 rfl rfl
theorem dL_law_1154 : decode cL_law 1154 = .ok (.aload_n 0, 1) := by decide +kernel
theorem w175_1154 {d : Nat} {st : List Value} {h : xH} {K : Option Value → xH → Prop} {l1 l2 l3 : Option Value} {x : Nat} : wp d 175 1154 [some (.ref x), l1, l2, l3] st h K ↔ wp d 175 1155 [some (.ref x), l1, l2, l3] (.ref x :: st) h K := w_any (i := 175) (pc := 1154) dL_law_1154 rfl rfl
theorem w175_1154n {d : Nat} {st : List Value} {h : xH} {K : Option Value → xH → Prop} {l1 l2 l3 : Option Value} : wp d 175 1154 [some .null, l1, l2, l3] st h K ↔ wp d 175 1155 [some .null, l1, l2, l3] (.null :: st) h K := w_any (i := 175) (pc := 1154) dL_law_1154 rfl rfl
theorem dL_law_1155 : decode cL_law 1155 = .ok (.iload_n 3, 1) := by decide +kernel
theorem w175_1155 {d : Nat} {st : List Value} {h : xH} {K : Option Value → xH → Prop} {l0 l1 l2 : Option Value} {x : Int32} : wp d 175 1155 [l0, l1, l2, some (.int x)] st h K ↔ wp d 175 1156 [l0, l1, l2, some (.int x)] (.int x :: st) h K := w_any (i := 175) (pc := 1155) dL_law_1155 rfl rfl
theorem dL_law_1156 : decode cL_law 1156 = .ok (.iconst 1, 1) := by decide +kernel
theorem w175_1156 {d : Nat} {st : List Value} {h : xH} {K : Option Value → xH → Prop} {ls : xL} : wp d 175 1156 ls st h K ↔ wp d 175 1157 ls (.int 1 :: st) h K := w_iconst (i := 175) (pc := 1156) dL_law_1156 (by decide)
theorem dL_law_1157 : decode cL_law 1157 = .ok (.iadd, 1) := by decide +kernel
theorem w175_1157 {d : Nat} {st : List Value} {h : xH} {K : Option Value → xH → Prop} {ls : xL} {x y : Int32} : wp d 175 1157 ls (.int y :: .int x :: st) h K ↔ wp d 175 1158 ls (.int (x + y) :: st) h K := w_any (i := 175) (pc := 1157) dL_law_1157 rfl rfl
theorem dL_law_1158 : decode cL_law 1158 = .ok (.iaload, 1) := by decide +kernel
theorem w175_1158 {d : Nat} {st : List Value} {h : xH} {K : Option Value → xH → Prop} {ls : xL} {a : Nat} {x : Int32} : wp d 175 1158 ls (.int x :: .ref a :: st) h K ↔ y_iald h a x (fun v => wp d 175 1159 ls (.int v :: st) h K) := w_iald (i := 175) (pc := 1158) dL_law_1158
theorem dL_law_1159 : decode cL_law 1159 = .ok (.aload_n 0, 1) := by decide +kernel
theorem w175_1159 {d : Nat} {st : List Value} {h : xH} {K : Option Value → xH → Prop} {l1 l2 l3 : Option Value} {x : Nat} : wp d 175 1159 [some (.ref x), l1, l2, l3] st h K ↔ wp d 175 1160 [some (.ref x), l1, l2, l3] (.ref x :: st) h K := w_any (i := 175) (pc := 1159) dL_law_1159 rfl rfl
theorem w175_1159n {d : Nat} {st : List Value} {h : xH} {K : Option Value → xH → Prop} {l1 l2 l3 : Option Value} : wp d 175 1159 [some .null, l1, l2, l3] st h K ↔ wp d 175 1160 [some .null, l1, l2, l3] (.null :: st) h K := w_any (i := 175) (pc := 1159) dL_law_1159 rfl rfl
theorem dL_law_1160 : decode cL_law 1160 = .ok (.iload_n 3, 1) := by decide +kernel
theorem w175_1160 {d : Nat} {st : List Value} {h : xH} {K : Option Value → xH → Prop} {l0 l1 l2 : Option Value} {x : Int32} : wp d 175 1160 [l0, l1, l2, some (.int x)] st h K ↔ wp d 175 1161 [l0, l1, l2, some (.int x)] (.int x :: st) h K := w_any (i := 175) (pc := 1160) dL_law_1160 rfl rfl
theorem dL_law_1161 : decode cL_law 1161 = .ok (.iconst 2, 1) := by decide +kernel
theorem w175_1161 {d : Nat} {st : List Value} {h : xH} {K : Option Value → xH → Prop} {ls : xL} : wp d 175 1161 ls st h K ↔ wp d 175 1162 ls (.int 2 :: st) h K := w_iconst (i := 175) (pc := 1161) dL_law_1161 (by decide)
theorem dL_law_1162 : decode cL_law 1162 = .ok (.iadd, 1) := by decide +kernel
theorem w175_1162 {d : Nat} {st : List Value} {h : xH} {K : Option Value → xH → Prop} {ls : xL} {x y : Int32} : wp d 175 1162 ls (.int y :: .int x :: st) h K ↔ wp d 175 1163 ls (.int (x + y) :: st) h K := w_any (i := 175) (pc := 1162) dL_law_1162 rfl rfl
theorem dL_law_1163 : decode cL_law 1163 = .ok (.iaload, 1) := by decide +kernel
theorem w175_1163 {d : Nat} {st : List Value} {h : xH} {K : Option Value → xH → Prop} {ls : xL} {a : Nat} {x : Int32} : wp d 175 1163 ls (.int x :: .ref a :: st) h K ↔ y_iald h a x (fun v => wp d 175 1164 ls (.int v :: st) h K) := w_iald (i := 175) (pc := 1163) dL_law_1163
theorem dL_law_1164 : decode cL_law 1164 = .ok (.invokevirtual 138, 3) := by decide +kernel
theorem w175_1164 {d : Nat} {st : List Value} {h : xH} {K : Option Value → xH → Prop} {ls : xL} {a0 : Int32} {a1 : Int32} {b : Nat} : wp (d + 1) 175 1164 ls (.int a1 :: .int a0 :: .ref b :: st) h K ↔ y_cls h b 8 ∧ xcs st ≤ 8 ∧ wp d 148 0 [some (.ref b), some (.int a0), some (.int a1)] [] h (fun v h1 => wp (d + 1) 175 1167 ls (v.toList ++ st) h1 K) := w_callW (i := 175) (pc := 1164) (as := [.int a0, .int a1]) (rest := st) dL_law_1164 rfl (by decide) rfl rfl (by decide) rfl rfl rfl rfl
theorem dL_law_1167 : decode cL_law 1167 = .ok (.if_icmp .eq 54, 3) := by decide +kernel
theorem w175_1167 {d : Nat} {st : List Value} {h : xH} {K : Option Value → xH → Prop} {ls : xL} {x y : Int32} : wp d 175 1167 ls (.int y :: .int x :: st) h K ↔ ((x = y) → wp d 175 1221 ls st h K) ∧ ((¬ (x = y)) → wp d 175 1170 ls st h K) := w_if2 (i := 175) (pc := 1167) (cd := .eq) (off := 54) (tgt := 1221) dL_law_1167 (by decide) rfl
theorem dL_law_1170 : decode cL_law 1170 = .ok (.iconst 0, 1) := by decide +kernel
theorem w175_1170 {d : Nat} {st : List Value} {h : xH} {K : Option Value → xH → Prop} {ls : xL} : wp d 175 1170 ls st h K ↔ wp d 175 1171 ls (.int 0 :: st) h K := w_iconst (i := 175) (pc := 1170) dL_law_1170 (by decide)
theorem dL_law_1171 : decode cL_law 1171 = .ok (.ireturn, 1) := by decide +kernel
theorem w175_1171 {d : Nat} {h : xH} {K : Option Value → xH → Prop} {ls : xL} {x : Int32} : wp d 175 1171 ls [.int x] h K ↔ y_bool x ∧ K (some (.int x)) h := w_zret (i := 175) (pc := 1171) dL_law_1171 rfl
theorem dL_law_1172 : decode cL_law 1172 = .ok (.aload_n 1, 1) := by decide +kernel
theorem w175_1172 {d : Nat} {st : List Value} {h : xH} {K : Option Value → xH → Prop} {l0 l2 l3 : Option Value} {x : Nat} : wp d 175 1172 [l0, some (.ref x), l2, l3] st h K ↔ wp d 175 1173 [l0, some (.ref x), l2, l3] (.ref x :: st) h K := w_any (i := 175) (pc := 1172) dL_law_1172 rfl rfl
theorem w175_1172n {d : Nat} {st : List Value} {h : xH} {K : Option Value → xH → Prop} {l0 l2 l3 : Option Value} : wp d 175 1172 [l0, some .null, l2, l3] st h K ↔ wp d 175 1173 [l0, some .null, l2, l3] (.null :: st) h K := w_any (i := 175) (pc := 1172) dL_law_1172 rfl rfl
theorem dL_law_1173 : decode cL_law 1173 = .ok (.invokevirtual 139, 3) := by decide +kernel
theorem w175_1173 {d : Nat} {st : List Value} {h : xH} {K : Option Value → xH → Prop} {ls : xL} {b : Nat} : wp (d + 1) 175 1173 ls (.ref b :: st) h K ↔ y_cls h b 7 ∧ xcs st ≤ 8 ∧ wp d 71 0 [some (.ref b)] [] h (fun v h1 => wp (d + 1) 175 1176 ls (v.toList ++ st) h1 K) := w_callW (i := 175) (pc := 1173) (as := []) (rest := st) dL_law_1173 rfl (by decide) rfl rfl (by decide) rfl rfl rfl rfl
theorem dL_law_1176 : decode cL_law 1176 = .ok (.aload_n 2, 1) := by decide +kernel
theorem w175_1176 {d : Nat} {st : List Value} {h : xH} {K : Option Value → xH → Prop} {l0 l1 l3 : Option Value} {x : Nat} : wp d 175 1176 [l0, l1, some (.ref x), l3] st h K ↔ wp d 175 1177 [l0, l1, some (.ref x), l3] (.ref x :: st) h K := w_any (i := 175) (pc := 1176) dL_law_1176 rfl rfl
theorem w175_1176n {d : Nat} {st : List Value} {h : xH} {K : Option Value → xH → Prop} {l0 l1 l3 : Option Value} : wp d 175 1176 [l0, l1, some .null, l3] st h K ↔ wp d 175 1177 [l0, l1, some .null, l3] (.null :: st) h K := w_any (i := 175) (pc := 1176) dL_law_1176 rfl rfl
theorem dL_law_1177 : decode cL_law 1177 = .ok (.invokevirtual 142, 3) := by decide +kernel
theorem w175_1177 {d : Nat} {st : List Value} {h : xH} {K : Option Value → xH → Prop} {ls : xL} {b : Nat} : wp (d + 1) 175 1177 ls (.ref b :: st) h K ↔ y_cls h b 8 ∧ xcs st ≤ 8 ∧ wp d 149 0 [some (.ref b)] [] h (fun v h1 => wp (d + 1) 175 1180 ls (v.toList ++ st) h1 K) := w_callW (i := 175) (pc := 1177) (as := []) (rest := st) dL_law_1177 rfl (by decide) rfl rfl (by decide) rfl rfl rfl rfl
theorem dL_law_1180 : decode cL_law 1180 = .ok (.if_icmp .eq 41, 3) := by decide +kernel
theorem w175_1180 {d : Nat} {st : List Value} {h : xH} {K : Option Value → xH → Prop} {ls : xL} {x y : Int32} : wp d 175 1180 ls (.int y :: .int x :: st) h K ↔ ((x = y) → wp d 175 1221 ls st h K) ∧ ((¬ (x = y)) → wp d 175 1183 ls st h K) := w_if2 (i := 175) (pc := 1180) (cd := .eq) (off := 41) (tgt := 1221) dL_law_1180 (by decide) rfl
theorem dL_law_1183 : decode cL_law 1183 = .ok (.iconst 0, 1) := by decide +kernel
theorem w175_1183 {d : Nat} {st : List Value} {h : xH} {K : Option Value → xH → Prop} {ls : xL} : wp d 175 1183 ls st h K ↔ wp d 175 1184 ls (.int 0 :: st) h K := w_iconst (i := 175) (pc := 1183) dL_law_1183 (by decide)
theorem dL_law_1184 : decode cL_law 1184 = .ok (.ireturn, 1) := by decide +kernel
theorem w175_1184 {d : Nat} {h : xH} {K : Option Value → xH → Prop} {ls : xL} {x : Int32} : wp d 175 1184 ls [.int x] h K ↔ y_bool x ∧ K (some (.int x)) h := w_zret (i := 175) (pc := 1184) dL_law_1184 rfl
theorem dL_law_1185 : decode cL_law 1185 = .ok (.aload_n 1, 1) := by decide +kernel
theorem w175_1185 {d : Nat} {st : List Value} {h : xH} {K : Option Value → xH → Prop} {l0 l2 l3 : Option Value} {x : Nat} : wp d 175 1185 [l0, some (.ref x), l2, l3] st h K ↔ wp d 175 1186 [l0, some (.ref x), l2, l3] (.ref x :: st) h K := w_any (i := 175) (pc := 1185) dL_law_1185 rfl rfl
theorem w175_1185n {d : Nat} {st : List Value} {h : xH} {K : Option Value → xH → Prop} {l0 l2 l3 : Option Value} : wp d 175 1185 [l0, some .null, l2, l3] st h K ↔ wp d 175 1186 [l0, some .null, l2, l3] (.null :: st) h K := w_any (i := 175) (pc := 1185) dL_law_1185 rfl rfl
theorem dL_law_1186 : decode cL_law 1186 = .ok (.invokevirtual 143, 3) := by decide +kernel
theorem w175_1186 {d : Nat} {st : List Value} {h : xH} {K : Option Value → xH → Prop} {ls : xL} {b : Nat} : wp (d + 1) 175 1186 ls (.ref b :: st) h K ↔ y_cls h b 7 ∧ xcs st ≤ 8 ∧ wp d 72 0 [some (.ref b)] [] h (fun v h1 => wp (d + 1) 175 1189 ls (v.toList ++ st) h1 K) := w_callW (i := 175) (pc := 1186) (as := []) (rest := st) dL_law_1186 rfl (by decide) rfl rfl (by decide) rfl rfl rfl rfl
theorem dL_law_1189 : decode cL_law 1189 = .ok (.aload_n 2, 1) := by decide +kernel
theorem w175_1189 {d : Nat} {st : List Value} {h : xH} {K : Option Value → xH → Prop} {l0 l1 l3 : Option Value} {x : Nat} : wp d 175 1189 [l0, l1, some (.ref x), l3] st h K ↔ wp d 175 1190 [l0, l1, some (.ref x), l3] (.ref x :: st) h K := w_any (i := 175) (pc := 1189) dL_law_1189 rfl rfl
theorem w175_1189n {d : Nat} {st : List Value} {h : xH} {K : Option Value → xH → Prop} {l0 l1 l3 : Option Value} : wp d 175 1189 [l0, l1, some .null, l3] st h K ↔ wp d 175 1190 [l0, l1, some .null, l3] (.null :: st) h K := w_any (i := 175) (pc := 1189) dL_law_1189 rfl rfl
theorem dL_law_1190 : decode cL_law 1190 = .ok (.invokevirtual 146, 3) := by decide +kernel
theorem w175_1190 {d : Nat} {st : List Value} {h : xH} {K : Option Value → xH → Prop} {ls : xL} {b : Nat} : wp (d + 1) 175 1190 ls (.ref b :: st) h K ↔ y_cls h b 8 ∧ xcs st ≤ 8 ∧ wp d 150 0 [some (.ref b)] [] h (fun v h1 => wp (d + 1) 175 1193 ls (v.toList ++ st) h1 K) := w_callW (i := 175) (pc := 1190) (as := []) (rest := st) dL_law_1190 rfl (by decide) rfl rfl (by decide) rfl rfl rfl rfl
theorem dL_law_1193 : decode cL_law 1193 = .ok (.if_icmp .eq 28, 3) := by decide +kernel
theorem w175_1193 {d : Nat} {st : List Value} {h : xH} {K : Option Value → xH → Prop} {ls : xL} {x y : Int32} : wp d 175 1193 ls (.int y :: .int x :: st) h K ↔ ((x = y) → wp d 175 1221 ls st h K) ∧ ((¬ (x = y)) → wp d 175 1196 ls st h K) := w_if2 (i := 175) (pc := 1193) (cd := .eq) (off := 28) (tgt := 1221) dL_law_1193 (by decide) rfl
theorem dL_law_1196 : decode cL_law 1196 = .ok (.iconst 0, 1) := by decide +kernel
theorem w175_1196 {d : Nat} {st : List Value} {h : xH} {K : Option Value → xH → Prop} {ls : xL} : wp d 175 1196 ls st h K ↔ wp d 175 1197 ls (.int 0 :: st) h K := w_iconst (i := 175) (pc := 1196) dL_law_1196 (by decide)
theorem dL_law_1197 : decode cL_law 1197 = .ok (.ireturn, 1) := by decide +kernel
theorem w175_1197 {d : Nat} {h : xH} {K : Option Value → xH → Prop} {ls : xL} {x : Int32} : wp d 175 1197 ls [.int x] h K ↔ y_bool x ∧ K (some (.int x)) h := w_zret (i := 175) (pc := 1197) dL_law_1197 rfl
theorem dL_law_1198 : decode cL_law 1198 = .ok (.aload_n 1, 1) := by decide +kernel
theorem w175_1198 {d : Nat} {st : List Value} {h : xH} {K : Option Value → xH → Prop} {l0 l2 l3 : Option Value} {x : Nat} : wp d 175 1198 [l0, some (.ref x), l2, l3] st h K ↔ wp d 175 1199 [l0, some (.ref x), l2, l3] (.ref x :: st) h K := w_any (i := 175) (pc := 1198) dL_law_1198 rfl rfl
theorem w175_1198n {d : Nat} {st : List Value} {h : xH} {K : Option Value → xH → Prop} {l0 l2 l3 : Option Value} : wp d 175 1198 [l0, some .null, l2, l3] st h K ↔ wp d 175 1199 [l0, some .null, l2, l3] (.null :: st) h K := w_any (i := 175) (pc := 1198) dL_law_1198 rfl rfl
theorem dL_law_1199 : decode cL_law 1199 = .ok (.aload_n 0, 1) := by decide +kernel
theorem w175_1199 {d : Nat} {st : List Value} {h : xH} {K : Option Value → xH → Prop} {l1 l2 l3 : Option Value} {x : Nat} : wp d 175 1199 [some (.ref x), l1, l2, l3] st h K ↔ wp d 175 1200 [some (.ref x), l1, l2, l3] (.ref x :: st) h K := w_any (i := 175) (pc := 1199) dL_law_1199 rfl rfl
theorem w175_1199n {d : Nat} {st : List Value} {h : xH} {K : Option Value → xH → Prop} {l1 l2 l3 : Option Value} : wp d 175 1199 [some .null, l1, l2, l3] st h K ↔ wp d 175 1200 [some .null, l1, l2, l3] (.null :: st) h K := w_any (i := 175) (pc := 1199) dL_law_1199 rfl rfl
theorem dL_law_1200 : decode cL_law 1200 = .ok (.iload_n 3, 1) := by decide +kernel
theorem w175_1200 {d : Nat} {st : List Value} {h : xH} {K : Option Value → xH → Prop} {l0 l1 l2 : Option Value} {x : Int32} : wp d 175 1200 [l0, l1, l2, some (.int x)] st h K ↔ wp d 175 1201 [l0, l1, l2, some (.int x)] (.int x :: st) h K := w_any (i := 175) (pc := 1200) dL_law_1200 rfl rfl
theorem dL_law_1201 : decode cL_law 1201 = .ok (.iconst 1, 1) := by decide +kernel
theorem w175_1201 {d : Nat} {st : List Value} {h : xH} {K : Option Value → xH → Prop} {ls : xL} : wp d 175 1201 ls st h K ↔ wp d 175 1202 ls (.int 1 :: st) h K := w_iconst (i := 175) (pc := 1201) dL_law_1201 (by decide)
theorem dL_law_1202 : decode cL_law 1202 = .ok (.iadd, 1) := by decide +kernel
theorem w175_1202 {d : Nat} {st : List Value} {h : xH} {K : Option Value → xH → Prop} {ls : xL} {x y : Int32} : wp d 175 1202 ls (.int y :: .int x :: st) h K ↔ wp d 175 1203 ls (.int (x + y) :: st) h K := w_any (i := 175) (pc := 1202) dL_law_1202 rfl rfl
theorem dL_law_1203 : decode cL_law 1203 = .ok (.iaload, 1) := by decide +kernel
theorem w175_1203 {d : Nat} {st : List Value} {h : xH} {K : Option Value → xH → Prop} {ls : xL} {a : Nat} {x : Int32} : wp d 175 1203 ls (.int x :: .ref a :: st) h K ↔ y_iald h a x (fun v => wp d 175 1204 ls (.int v :: st) h K) := w_iald (i := 175) (pc := 1203) dL_law_1203
theorem dL_law_1204 : decode cL_law 1204 = .ok (.invokevirtual 147, 3) := by decide +kernel
theorem w175_1204 {d : Nat} {st : List Value} {h : xH} {K : Option Value → xH → Prop} {ls : xL} {a0 : Int32} {b : Nat} : wp (d + 1) 175 1204 ls (.int a0 :: .ref b :: st) h K ↔ y_cls h b 7 ∧ xcs st ≤ 8 ∧ wp d 73 0 [some (.ref b), some (.int a0)] [] h (fun v h1 => wp (d + 1) 175 1207 ls (v.toList ++ st) h1 K) := w_callW (i := 175) (pc := 1204) (as := [.int a0]) (rest := st) dL_law_1204 rfl (by decide) rfl rfl (by decide) rfl rfl rfl rfl
theorem dL_law_1207 : decode cL_law 1207 = .ok (.aload_n 2, 1) := by decide +kernel
theorem w175_1207 {d : Nat} {st : List Value} {h : xH} {K : Option Value → xH → Prop} {l0 l1 l3 : Option Value} {x : Nat} : wp d 175 1207 [l0, l1, some (.ref x), l3] st h K ↔ wp d 175 1208 [l0, l1, some (.ref x), l3] (.ref x :: st) h K := w_any (i := 175) (pc := 1207) dL_law_1207 rfl rfl
theorem w175_1207n {d : Nat} {st : List Value} {h : xH} {K : Option Value → xH → Prop} {l0 l1 l3 : Option Value} : wp d 175 1207 [l0, l1, some .null, l3] st h K ↔ wp d 175 1208 [l0, l1, some .null, l3] (.null :: st) h K := w_any (i := 175) (pc := 1207) dL_law_1207 rfl rfl
theorem dL_law_1208 : decode cL_law 1208 = .ok (.aload_n 0, 1) := by decide +kernel
theorem w175_1208 {d : Nat} {st : List Value} {h : xH} {K : Option Value → xH → Prop} {l1 l2 l3 : Option Value} {x : Nat} : wp d 175 1208 [some (.ref x), l1, l2, l3] st h K ↔ wp d 175 1209 [some (.ref x), l1, l2, l3] (.ref x :: st) h K := w_any (i := 175) (pc := 1208) dL_law_1208 rfl rfl
theorem w175_1208n {d : Nat} {st : List Value} {h : xH} {K : Option Value → xH → Prop} {l1 l2 l3 : Option Value} : wp d 175 1208 [some .null, l1, l2, l3] st h K ↔ wp d 175 1209 [some .null, l1, l2, l3] (.null :: st) h K := w_any (i := 175) (pc := 1208) dL_law_1208 rfl rfl
theorem dL_law_1209 : decode cL_law 1209 = .ok (.iload_n 3, 1) := by decide +kernel
theorem w175_1209 {d : Nat} {st : List Value} {h : xH} {K : Option Value → xH → Prop} {l0 l1 l2 : Option Value} {x : Int32} : wp d 175 1209 [l0, l1, l2, some (.int x)] st h K ↔ wp d 175 1210 [l0, l1, l2, some (.int x)] (.int x :: st) h K := w_any (i := 175) (pc := 1209) dL_law_1209 rfl rfl
theorem dL_law_1210 : decode cL_law 1210 = .ok (.iconst 1, 1) := by decide +kernel
theorem w175_1210 {d : Nat} {st : List Value} {h : xH} {K : Option Value → xH → Prop} {ls : xL} : wp d 175 1210 ls st h K ↔ wp d 175 1211 ls (.int 1 :: st) h K := w_iconst (i := 175) (pc := 1210) dL_law_1210 (by decide)
theorem dL_law_1211 : decode cL_law 1211 = .ok (.iadd, 1) := by decide +kernel
theorem w175_1211 {d : Nat} {st : List Value} {h : xH} {K : Option Value → xH → Prop} {ls : xL} {x y : Int32} : wp d 175 1211 ls (.int y :: .int x :: st) h K ↔ wp d 175 1212 ls (.int (x + y) :: st) h K := w_any (i := 175) (pc := 1211) dL_law_1211 rfl rfl
theorem dL_law_1212 : decode cL_law 1212 = .ok (.iaload, 1) := by decide +kernel
theorem w175_1212 {d : Nat} {st : List Value} {h : xH} {K : Option Value → xH → Prop} {ls : xL} {a : Nat} {x : Int32} : wp d 175 1212 ls (.int x :: .ref a :: st) h K ↔ y_iald h a x (fun v => wp d 175 1213 ls (.int v :: st) h K) := w_iald (i := 175) (pc := 1212) dL_law_1212
theorem dL_law_1213 : decode cL_law 1213 = .ok (.invokevirtual 150, 3) := by decide +kernel
theorem w175_1213 {d : Nat} {st : List Value} {h : xH} {K : Option Value → xH → Prop} {ls : xL} {a0 : Int32} {b : Nat} : wp (d + 1) 175 1213 ls (.int a0 :: .ref b :: st) h K ↔ y_cls h b 8 ∧ xcs st ≤ 8 ∧ wp d 151 0 [some (.ref b), some (.int a0)] [] h (fun v h1 => wp (d + 1) 175 1216 ls (v.toList ++ st) h1 K) := w_callW (i := 175) (pc := 1213) (as := [.int a0]) (rest := st) dL_law_1213 rfl (by decide) rfl rfl (by decide) rfl rfl rfl rfl
theorem dL_law_1216 : decode cL_law 1216 = .ok (.if_icmp .eq 5, 3) := by decide +kernel
theorem w175_1216 {d : Nat} {st : List Value} {h : xH} {K : Option Value → xH → Prop} {ls : xL} {x y : Int32} : wp d 175 1216 ls (.int y :: .int x :: st) h K ↔ ((x = y) → wp d 175 1221 ls st h K) ∧ ((¬ (x = y)) → wp d 175 1219 ls st h K) := w_if2 (i := 175) (pc := 1216) (cd := .eq) (off := 5) (tgt := 1221) dL_law_1216 (by decide) rfl
theorem dL_law_1219 : decode cL_law 1219 = .ok (.iconst 0, 1) := by decide +kernel
theorem w175_1219 {d : Nat} {st : List Value} {h : xH} {K : Option Value → xH → Prop} {ls : xL} : wp d 175 1219 ls st h K ↔ wp d 175 1220 ls (.int 0 :: st) h K := w_iconst (i := 175) (pc := 1219) dL_law_1219 (by decide)
theorem dL_law_1220 : decode cL_law 1220 = .ok (.ireturn, 1) := by decide +kernel
theorem w175_1220 {d : Nat} {h : xH} {K : Option Value → xH → Prop} {ls : xL} {x : Int32} : wp d 175 1220 ls [.int x] h K ↔ y_bool x ∧ K (some (.int x)) h := w_zret (i := 175) (pc := 1220) dL_law_1220 rfl
theorem dL_law_1221 : decode cL_law 1221 = .ok (.iinc 3 6, 3) := by decide +kernel
theorem w175_1221 {d : Nat} {st : List Value} {h : xH} {K : Option Value → xH → Prop} {l0 l1 l2 : Option Value} {x : Int32} : wp d 175 1221 [l0, l1, l2, some (.int x)] st h K ↔ wp d 175 1224 [l0, l1, xk l2, some (.int (x + 6))] st h K := w_iinc (i := 175) (pc := 1221) dL_law_1221 rfl (Nat.le_of_ble_eq_true rfl) (by decide) (show xst1 [l0, l1, l2, some (.int x)] 3 (.int (x + 6)) = [l0, l1, xk l2, some (.int (x + 6))] by simp only [xst1_0, xst1_1, xst1_s, Nat.reduceAdd])
theorem dL_law_1224 : decode cL_law 1224 = .ok (.goto (-1206), 3) := by decide +kernel
theorem w175_1224 {d : Nat} {st : List Value} {h : xH} {K : Option Value → xH → Prop} {ls : xL} : wp d 175 1224 ls st h K ↔ wp d 175 18 ls st h K := w_goto (i := 175) (pc := 1224) dL_law_1224 (by decide) rfl
theorem dL_law_1227 : decode cL_law 1227 = .ok (.iconst 1, 1) := by decide +kernel
theorem w175_1227 {d : Nat} {st : List Value} {h : xH} {K : Option Value → xH → Prop} {ls : xL} : wp d 175 1227 ls st h K ↔ wp d 175 1228 ls (.int 1 :: st) h K := w_iconst (i := 175) (pc := 1227) dL_law_1227 (by decide)
theorem dL_law_1228 : decode cL_law 1228 = .ok (.ireturn, 1) := by decide +kernel
theorem w175_1228 {d : Nat} {h : xH} {K : Option Value → xH → Prop} {ls : xL} {x : Int32} : wp d 175 1228 ls [.int x] h K ↔ y_bool x ∧ K (some (.int x)) h := w_zret (i := 175) (pc := 1228) dL_law_1228 rfl
