theorem dX0_init_0 : decode cX0_init 0 = .ok (.aload_n 0, 1) := by decide +kernel
theorem w0_0 {d : Nat} {st : List Value} {h : xH} {K : Option Value → xH → Prop} {x : Nat} : wp d 0 0 [some (.ref x)] st h K ↔ wp d 0 1 [some (.ref x)] (.ref x :: st) h K := w_any (i := 0) (pc := 0) dX0_init_0 rfl rfl
theorem w0_0n {d : Nat} {st : List Value} {h : xH} {K : Option Value → xH → Prop} : wp d 0 0 [some .null] st h K ↔ wp d 0 1 [some .null] (.null :: st) h K := w_any (i := 0) (pc := 0) dX0_init_0 rfl rfl
theorem dX0_init_1 : decode cX0_init 1 = .ok (.invokespecial 3, 3) := by decide +kernel
theorem w0_1 {d : Nat} {st : List Value} {h : xH} {K : Option Value → xH → Prop} {ls : xL} {a : Nat} : wp d 0 1 ls (.ref a :: st) h K ↔ xcs st ≤ 8 ∧ wp d 0 4 ls st h K := w_objI (i := 0) (pc := 1) dX0_init_1 rfl
theorem dX0_init_4 : decode cX0_init 4 = .ok (.aload_n 0, 1) := by decide +kernel
theorem w0_4 {d : Nat} {st : List Value} {h : xH} {K : Option Value → xH → Prop} {x : Nat} : wp d 0 4 [some (.ref x)] st h K ↔ wp d 0 5 [some (.ref x)] (.ref x :: st) h K := w_any (i := 0) (pc := 4) dX0_init_4 rfl rfl
theorem w0_4n {d : Nat} {st : List Value} {h : xH} {K : Option Value → xH → Prop} : wp d 0 4 [some .null] st h K ↔ wp d 0 5 [some .null] (.null :: st) h K := w_any (i := 0) (pc := 4) dX0_init_4 rfl rfl
theorem dX0_init_5 : decode cX0_init 5 = .ok (.new 9, 3) := by decide +kernel
theorem w0_5 {d : Nat} {st : List Value} {h : xH} {K : Option Value → xH → Prop} {ls : xL} : wp d 0 5 ls st h K ↔ wp d 0 8 ls (.ref h.length :: st) (h ++ [.inr (3, [.null, .int 0, .int 0])]) K := w_new (i := 0) (pc := 5) dX0_init_5 rfl rfl
theorem dX0_init_8 : decode cX0_init 8 = .ok (.dup, 1) := by decide +kernel
theorem w0_8 {d : Nat} {st : List Value} {h : xH} {K : Option Value → xH → Prop} {ls : xL} {x : Int32} : wp d 0 8 ls (.int x :: st) h K ↔ wp d 0 9 ls (.int x :: .int x :: st) h K := (w_any (i := 0) (pc := 8) dX0_init_8 rfl rfl).trans (w_ct rfl)
theorem w0_8r {d : Nat} {st : List Value} {h : xH} {K : Option Value → xH → Prop} {ls : xL} {x : Nat} : wp d 0 8 ls (.ref x :: st) h K ↔ wp d 0 9 ls (.ref x :: .ref x :: st) h K := (w_any (i := 0) (pc := 8) dX0_init_8 rfl rfl).trans (w_ct rfl)
theorem dX0_init_9 : decode cX0_init 9 = .ok (.invokespecial 11, 3) := by decide +kernel
theorem w0_9 {d : Nat} {st : List Value} {h : xH} {K : Option Value → xH → Prop} {ls : xL} {b : Nat} : wp (d + 1) 0 9 ls (.ref b :: st) h K ↔ xcs st ≤ 8 ∧ wp d 16 0 [some (.ref b)] [] h (fun v h1 => wp (d + 1) 0 12 ls (v.toList ++ st) h1 K) := w_callI (i := 0) (pc := 9) (as := []) (rest := st) (by decide) dX0_init_9 rfl (by decide) rfl rfl rfl rfl rfl
theorem dX0_init_12 : decode cX0_init 12 = .ok (.putfield 12, 3) := by decide +kernel
theorem w0_12 {d : Nat} {st : List Value} {h : xH} {K : Option Value → xH → Prop} {ls : xL} {x : Nat} {a : Nat} : wp d 0 12 ls (.ref x :: .ref a :: st) h K ↔ y_put h a 1 0 (.ref x) (fun h1 => wp d 0 15 ls st h1 K) := w_put (i := 0) (pc := 12) dX0_init_12 rfl trivial (Or.inr ⟨rfl, by decide, rfl⟩)
theorem dX0_init_15 : decode cX0_init 15 = .ok (.aload_n 0, 1) := by decide +kernel
theorem w0_15 {d : Nat} {st : List Value} {h : xH} {K : Option Value → xH → Prop} {x : Nat} : wp d 0 15 [some (.ref x)] st h K ↔ wp d 0 16 [some (.ref x)] (.ref x :: st) h K := w_any (i := 0) (pc := 15) dX0_init_15 rfl rfl
theorem w0_15n {d : Nat} {st : List Value} {h : xH} {K : Option Value → xH → Prop} : wp d 0 15 [some .null] st h K ↔ wp d 0 16 [some .null] (.null :: st) h K := w_any (i := 0) (pc := 15) dX0_init_15 rfl rfl
theorem dX0_init_16 : decode cX0_init 16 = .ok (.new 18, 3) := by decide +kernel
theorem w0_16 {d : Nat} {st : List Value} {h : xH} {K : Option Value → xH → Prop} {ls : xL} : wp d 0 16 ls st h K ↔ wp d 0 19 ls (.ref h.length :: st) (h ++ [.inr (2, [.null])]) K := w_new (i := 0) (pc := 16) dX0_init_16 rfl rfl
theorem dX0_init_19 : decode cX0_init 19 = .ok (.dup, 1) := by decide +kernel
theorem w0_19 {d : Nat} {st : List Value} {h : xH} {K : Option Value → xH → Prop} {ls : xL} {x : Int32} : wp d 0 19 ls (.int x :: st) h K ↔ wp d 0 20 ls (.int x :: .int x :: st) h K := (w_any (i := 0) (pc := 19) dX0_init_19 rfl rfl).trans (w_ct rfl)
theorem w0_19r {d : Nat} {st : List Value} {h : xH} {K : Option Value → xH → Prop} {ls : xL} {x : Nat} : wp d 0 19 ls (.ref x :: st) h K ↔ wp d 0 20 ls (.ref x :: .ref x :: st) h K := (w_any (i := 0) (pc := 19) dX0_init_19 rfl rfl).trans (w_ct rfl)
theorem dX0_init_20 : decode cX0_init 20 = .ok (.invokespecial 20, 3) := by decide +kernel
theorem w0_20 {d : Nat} {st : List Value} {h : xH} {K : Option Value → xH → Prop} {ls : xL} {b : Nat} : wp (d + 1) 0 20 ls (.ref b :: st) h K ↔ xcs st ≤ 8 ∧ wp d 10 0 [some (.ref b)] [] h (fun v h1 => wp (d + 1) 0 23 ls (v.toList ++ st) h1 K) := w_callI (i := 0) (pc := 20) (as := []) (rest := st) (by decide) dX0_init_20 rfl (by decide) rfl rfl rfl rfl rfl
theorem dX0_init_23 : decode cX0_init 23 = .ok (.putfield 21, 3) := by decide +kernel
theorem w0_23 {d : Nat} {st : List Value} {h : xH} {K : Option Value → xH → Prop} {ls : xL} {x : Nat} {a : Nat} : wp d 0 23 ls (.ref x :: .ref a :: st) h K ↔ y_put h a 1 1 (.ref x) (fun h1 => wp d 0 26 ls st h1 K) := w_put (i := 0) (pc := 23) dX0_init_23 rfl trivial (Or.inr ⟨rfl, by decide, rfl⟩)
theorem dX0_init_26 : decode cX0_init 26 = .ok (.aload_n 0, 1) := by decide +kernel
theorem w0_26 {d : Nat} {st : List Value} {h : xH} {K : Option Value → xH → Prop} {x : Nat} : wp d 0 26 [some (.ref x)] st h K ↔ wp d 0 27 [some (.ref x)] (.ref x :: st) h K := w_any (i := 0) (pc := 26) dX0_init_26 rfl rfl
theorem w0_26n {d : Nat} {st : List Value} {h : xH} {K : Option Value → xH → Prop} : wp d 0 26 [some .null] st h K ↔ wp d 0 27 [some .null] (.null :: st) h K := w_any (i := 0) (pc := 26) dX0_init_26 rfl rfl
theorem dX0_init_27 : decode cX0_init 27 = .ok (.new 25, 3) := by decide +kernel
theorem w0_27 {d : Nat} {st : List Value} {h : xH} {K : Option Value → xH → Prop} {ls : xL} : wp d 0 27 ls st h K ↔ wp d 0 30 ls (.ref h.length :: st) (h ++ [.inr (0, [.int 0, .null, .int 0])]) K := w_new (i := 0) (pc := 27) dX0_init_27 rfl rfl
theorem dX0_init_30 : decode cX0_init 30 = .ok (.dup, 1) := by decide +kernel
theorem w0_30 {d : Nat} {st : List Value} {h : xH} {K : Option Value → xH → Prop} {ls : xL} {x : Int32} : wp d 0 30 ls (.int x :: st) h K ↔ wp d 0 31 ls (.int x :: .int x :: st) h K := (w_any (i := 0) (pc := 30) dX0_init_30 rfl rfl).trans (w_ct rfl)
theorem w0_30r {d : Nat} {st : List Value} {h : xH} {K : Option Value → xH → Prop} {ls : xL} {x : Nat} : wp d 0 30 ls (.ref x :: st) h K ↔ wp d 0 31 ls (.ref x :: .ref x :: st) h K := (w_any (i := 0) (pc := 30) dX0_init_30 rfl rfl).trans (w_ct rfl)
theorem dX0_init_31 : decode cX0_init 31 = .ok (.invokespecial 27, 3) := by decide +kernel
theorem w0_31 {d : Nat} {st : List Value} {h : xH} {K : Option Value → xH → Prop} {ls : xL} {b : Nat} : wp (d + 1) 0 31 ls (.ref b :: st) h K ↔ xcs st ≤ 8 ∧ wp d 157 0 [some (.ref b)] [] h (fun v h1 => wp (d + 1) 0 34 ls (v.toList ++ st) h1 K) := w_callI (i := 0) (pc := 31) (as := []) (rest := st) (by decide) dX0_init_31 rfl (by decide) rfl rfl rfl rfl rfl
theorem dX0_init_34 : decode cX0_init 34 = .ok (.putfield 28, 3) := by decide +kernel
theorem w0_34 {d : Nat} {st : List Value} {h : xH} {K : Option Value → xH → Prop} {ls : xL} {x : Nat} {a : Nat} : wp d 0 34 ls (.ref x :: .ref a :: st) h K ↔ y_put h a 1 2 (.ref x) (fun h1 => wp d 0 37 ls st h1 K) := w_put (i := 0) (pc := 34) dX0_init_34 rfl trivial (Or.inr ⟨rfl, by decide, rfl⟩)
theorem dX0_init_37 : decode cX0_init 37 = .ok (.return_, 1) := by decide +kernel
theorem w0_37 {d : Nat} {h : xH} {K : Option Value → xH → Prop} {ls : xL} : wp d 0 37 ls [] h K ↔ K none h := w_vret (i := 0) (pc := 37) dX0_init_37 rfl
theorem dX0_vineAt_0 : decode cX0_vineAt 0 = .ok (.iload_n 1, 1) := by decide +kernel
theorem w1_0 {d : Nat} {st : List Value} {h : xH} {K : Option Value → xH → Prop} {l0 : Option Value} {x : Int32} : wp d 1 0 [l0, some (.int x)] st h K ↔ wp d 1 1 [l0, some (.int x)] (.int x :: st) h K := w_any (i := 1) (pc := 0) dX0_vineAt_0 rfl rfl
theorem dX0_vineAt_1 : decode cX0_vineAt 1 = .ok (.ifCond .lt 28, 3) := by decide +kernel
theorem w1_1 {d : Nat} {st : List Value} {h : xH} {K : Option Value → xH → Prop} {ls : xL} {x : Int32} : wp d 1 1 ls (.int x :: st) h K ↔ ((x < 0) → wp d 1 29 ls st h K) ∧ ((¬ (x < 0)) → wp d 1 4 ls st h K) := w_if1 (i := 1) (pc := 1) (cd := .lt) (off := 28) (tgt := 29) dX0_vineAt_1 (by decide) rfl
theorem dX0_vineAt_4 : decode cX0_vineAt 4 = .ok (.iload_n 1, 1) := by decide +kernel
theorem w1_4 {d : Nat} {st : List Value} {h : xH} {K : Option Value → xH → Prop} {l0 : Option Value} {x : Int32} : wp d 1 4 [l0, some (.int x)] st h K ↔ wp d 1 5 [l0, some (.int x)] (.int x :: st) h K := w_any (i := 1) (pc := 4) dX0_vineAt_4 rfl rfl
theorem dX0_vineAt_5 : decode cX0_vineAt 5 = .ok (.aload_n 0, 1) := by decide +kernel
theorem w1_5 {d : Nat} {st : List Value} {h : xH} {K : Option Value → xH → Prop} {l1 : Option Value} {x : Nat} : wp d 1 5 [some (.ref x), l1] st h K ↔ wp d 1 6 [some (.ref x), l1] (.ref x :: st) h K := w_any (i := 1) (pc := 5) dX0_vineAt_5 rfl rfl
theorem w1_5n {d : Nat} {st : List Value} {h : xH} {K : Option Value → xH → Prop} {l1 : Option Value} : wp d 1 5 [some .null, l1] st h K ↔ wp d 1 6 [some .null, l1] (.null :: st) h K := w_any (i := 1) (pc := 5) dX0_vineAt_5 rfl rfl
theorem dX0_vineAt_6 : decode cX0_vineAt 6 = .ok (.getfield 28, 3) := by decide +kernel
theorem w1_6 {d : Nat} {st : List Value} {h : xH} {K : Option Value → xH → Prop} {ls : xL} {a : Nat} : wp d 1 6 ls (.ref a :: st) h K ↔ y_get h a 1 2 (fun v => wp d 1 9 ls (v :: st) h K) := w_get (i := 1) (pc := 6) dX0_vineAt_6 rfl
theorem dX0_vineAt_9 : decode cX0_vineAt 9 = .ok (.invokevirtual 32, 3) := by decide +kernel
theorem w1_9 {d : Nat} {st : List Value} {h : xH} {K : Option Value → xH → Prop} {ls : xL} {b : Nat} : wp (d + 1) 1 9 ls (.ref b :: st) h K ↔ y_cls h b 0 ∧ xcs st ≤ 8 ∧ wp d 160 0 [some (.ref b)] [] h (fun v h1 => wp (d + 1) 1 12 ls (v.toList ++ st) h1 K) := w_callW (i := 1) (pc := 9) (as := []) (rest := st) dX0_vineAt_9 rfl (by decide) rfl rfl (by decide) rfl rfl rfl rfl
theorem dX0_vineAt_12 : decode cX0_vineAt 12 = .ok (.if_icmp .ge 17, 3) := by decide +kernel
theorem w1_12 {d : Nat} {st : List Value} {h : xH} {K : Option Value → xH → Prop} {ls : xL} {x y : Int32} : wp d 1 12 ls (.int y :: .int x :: st) h K ↔ ((y ≤ x) → wp d 1 29 ls st h K) ∧ ((¬ (y ≤ x)) → wp d 1 15 ls st h K) := w_if2 (i := 1) (pc := 12) (cd := .ge) (off := 17) (tgt := 29) dX0_vineAt_12 (by decide) rfl
theorem dX0_vineAt_15 : decode cX0_vineAt 15 = .ok (.aload_n 0, 1) := by decide +kernel
theorem w1_15 {d : Nat} {st : List Value} {h : xH} {K : Option Value → xH → Prop} {l1 : Option Value} {x : Nat} : wp d 1 15 [some (.ref x), l1] st h K ↔ wp d 1 16 [some (.ref x), l1] (.ref x :: st) h K := w_any (i := 1) (pc := 15) dX0_vineAt_15 rfl rfl
theorem w1_15n {d : Nat} {st : List Value} {h : xH} {K : Option Value → xH → Prop} {l1 : Option Value} : wp d 1 15 [some .null, l1] st h K ↔ wp d 1 16 [some .null, l1] (.null :: st) h K := w_any (i := 1) (pc := 15) dX0_vineAt_15 rfl rfl
theorem dX0_vineAt_16 : decode cX0_vineAt 16 = .ok (.getfield 28, 3) := by decide +kernel
theorem w1_16 {d : Nat} {st : List Value} {h : xH} {K : Option Value → xH → Prop} {ls : xL} {a : Nat} : wp d 1 16 ls (.ref a :: st) h K ↔ y_get h a 1 2 (fun v => wp d 1 19 ls (v :: st) h K) := w_get (i := 1) (pc := 16) dX0_vineAt_16 rfl
theorem dX0_vineAt_19 : decode cX0_vineAt 19 = .ok (.iload_n 1, 1) := by decide +kernel
theorem w1_19 {d : Nat} {st : List Value} {h : xH} {K : Option Value → xH → Prop} {l0 : Option Value} {x : Int32} : wp d 1 19 [l0, some (.int x)] st h K ↔ wp d 1 20 [l0, some (.int x)] (.int x :: st) h K := w_any (i := 1) (pc := 19) dX0_vineAt_19 rfl rfl
theorem dX0_vineAt_20 : decode cX0_vineAt 20 = .ok (.invokevirtual 36, 3) := by decide +kernel
theorem w1_20 {d : Nat} {st : List Value} {h : xH} {K : Option Value → xH → Prop} {ls : xL} {a0 : Int32} {b : Nat} : wp (d + 1) 1 20 ls (.int a0 :: .ref b :: st) h K ↔ y_cls h b 0 ∧ xcs st ≤ 8 ∧ wp d 162 0 [some (.ref b), some (.int a0)] [] h (fun v h1 => wp (d + 1) 1 23 ls (v.toList ++ st) h1 K) := w_callW (i := 1) (pc := 20) (as := [.int a0]) (rest := st) dX0_vineAt_20 rfl (by decide) rfl rfl (by decide) rfl rfl rfl rfl
theorem dX0_vineAt_23 : decode cX0_vineAt 23 = .ok (.checkcast 40, 3) := by decide +kernel
theorem w1_23 {d : Nat} {st : List Value} {h : xH} {K : Option Value → xH → Prop} {ls : xL} {a : Nat} : wp d 1 23 ls (.ref a :: st) h K ↔ y_cls h a 6 ∧ wp d 1 26 ls (.ref a :: st) h K := w_cast (i := 1) (pc := 23) dX0_vineAt_23 rfl (by decide)
theorem w1_23n {d : Nat} {st : List Value} {h : xH} {K : Option Value → xH → Prop} {ls : xL} : wp d 1 23 ls (.null :: st) h K ↔ wp d 1 26 ls (.null :: st) h K := w_castN (i := 1) (pc := 23) dX0_vineAt_23
theorem dX0_vineAt_26 : decode cX0_vineAt 26 = .ok (.goto 4, 3) := by decide +kernel
theorem w1_26 {d : Nat} {st : List Value} {h : xH} {K : Option Value → xH → Prop} {ls : xL} : wp d 1 26 ls st h K ↔ wp d 1 30 ls st h K := w_goto (i := 1) (pc := 26) dX0_vineAt_26 (by decide) rfl
theorem dX0_vineAt_29 : decode cX0_vineAt 29 = .ok (.aconst_null, 1) := by decide +kernel
theorem w1_29 {d : Nat} {st : List Value} {h : xH} {K : Option Value → xH → Prop} {ls : xL} : wp d 1 29 ls st h K ↔ wp d 1 30 ls (.null :: st) h K := w_any (i := 1) (pc := 29) dX0_vineAt_29 rfl rfl
theorem dX0_vineAt_30 : decode cX0_vineAt 30 = .ok (.areturn, 1) := by decide +kernel
theorem w1_30 {d : Nat} {h : xH} {K : Option Value → xH → Prop} {ls : xL} {x : Nat} : wp d 1 30 ls [.ref x] h K ↔ K (some (.ref x)) h := w_aret (i := 1) (pc := 30) dX0_vineAt_30 rfl rfl
theorem w1_30n {d : Nat} {h : xH} {K : Option Value → xH → Prop} {ls : xL} : wp d 1 30 ls [.null] h K ↔ K (some .null) h := w_aretN (i := 1) (pc := 30) dX0_vineAt_30 rfl rfl
theorem dX0_isPlanted_0 : decode cX0_isPlanted 0 = .ok (.iconst 0, 1) := by decide +kernel
theorem w2_0 {d : Nat} {st : List Value} {h : xH} {K : Option Value → xH → Prop} {ls : xL} : wp d 2 0 ls st h K ↔ wp d 2 1 ls (.int 0 :: st) h K := w_iconst (i := 2) (pc := 0) dX0_isPlanted_0 (by decide)
theorem dX0_isPlanted_1 : decode cX0_isPlanted 1 = .ok (.istore_n 2, 1) := by decide +kernel
theorem w2_1 {d : Nat} {st : List Value} {h : xH} {K : Option Value → xH → Prop} {l0 l1 l2 : Option Value} {x : Int32} : wp d 2 1 [l0, l1, l2] (.int x :: st) h K ↔ wp d 2 2 [l0, xk l1, some (.int x)] st h K := w_istore_n (i := 2) (pc := 1) dX0_isPlanted_1 (Nat.le_of_ble_eq_true rfl) (show xst1 [l0, l1, l2] 2 (.int x) = [l0, xk l1, some (.int x)] by simp only [xst1_0, xst1_1, xst1_s, Nat.reduceAdd])
theorem dX0_isPlanted_2 : decode cX0_isPlanted 2 = .ok (.iload_n 2, 1) := by decide +kernel
theorem w2_2 {d : Nat} {st : List Value} {h : xH} {K : Option Value → xH → Prop} {l0 l1 : Option Value} {x : Int32} : wp d 2 2 [l0, l1, some (.int x)] st h K ↔ wp d 2 3 [l0, l1, some (.int x)] (.int x :: st) h K := w_any (i := 2) (pc := 2) dX0_isPlanted_2 rfl rfl
theorem dX0_isPlanted_3 : decode cX0_isPlanted 3 = .ok (.aload_n 0, 1) := by decide +kernel
theorem w2_3 {d : Nat} {st : List Value} {h : xH} {K : Option Value → xH → Prop} {l1 l2 : Option Value} {x : Nat} : wp d 2 3 [some (.ref x), l1, l2] st h K ↔ wp d 2 4 [some (.ref x), l1, l2] (.ref x :: st) h K := w_any (i := 2) (pc := 3) dX0_isPlanted_3 rfl rfl
theorem w2_3n {d : Nat} {st : List Value} {h : xH} {K : Option Value → xH → Prop} {l1 l2 : Option Value} : wp d 2 3 [some .null, l1, l2] st h K ↔ wp d 2 4 [some .null, l1, l2] (.null :: st) h K := w_any (i := 2) (pc := 3) dX0_isPlanted_3 rfl rfl
theorem dX0_isPlanted_4 : decode cX0_isPlanted 4 = .ok (.getfield 28, 3) := by decide +kernel
theorem w2_4 {d : Nat} {st : List Value} {h : xH} {K : Option Value → xH → Prop} {ls : xL} {a : Nat} : wp d 2 4 ls (.ref a :: st) h K ↔ y_get h a 1 2 (fun v => wp d 2 7 ls (v :: st) h K) := w_get (i := 2) (pc := 4) dX0_isPlanted_4 rfl
theorem dX0_isPlanted_7 : decode cX0_isPlanted 7 = .ok (.invokevirtual 32, 3) := by decide +kernel
theorem w2_7 {d : Nat} {st : List Value} {h : xH} {K : Option Value → xH → Prop} {ls : xL} {b : Nat} : wp (d + 1) 2 7 ls (.ref b :: st) h K ↔ y_cls h b 0 ∧ xcs st ≤ 8 ∧ wp d 160 0 [some (.ref b)] [] h (fun v h1 => wp (d + 1) 2 10 ls (v.toList ++ st) h1 K) := w_callW (i := 2) (pc := 7) (as := []) (rest := st) dX0_isPlanted_7 rfl (by decide) rfl rfl (by decide) rfl rfl rfl rfl
theorem dX0_isPlanted_10 : decode cX0_isPlanted 10 = .ok (.if_icmp .ge 29, 3) := by decide +kernel
theorem w2_10 {d : Nat} {st : List Value} {h : xH} {K : Option Value → xH → Prop} {ls : xL} {x y : Int32} : wp d 2 10 ls (.int y :: .int x :: st) h K ↔ ((y ≤ x) → wp d 2 39 ls st h K) ∧ ((¬ (y ≤ x)) → wp d 2 13 ls st h K) := w_if2 (i := 2) (pc := 10) (cd := .ge) (off := 29) (tgt := 39) dX0_isPlanted_10 (by decide) rfl
theorem dX0_isPlanted_13 : decode cX0_isPlanted 13 = .ok (.aload_n 0, 1) := by decide +kernel
theorem w2_13 {d : Nat} {st : List Value} {h : xH} {K : Option Value → xH → Prop} {l1 l2 : Option Value} {x : Nat} : wp d 2 13 [some (.ref x), l1, l2] st h K ↔ wp d 2 14 [some (.ref x), l1, l2] (.ref x :: st) h K := w_any (i := 2) (pc := 13) dX0_isPlanted_13 rfl rfl
theorem w2_13n {d : Nat} {st : List Value} {h : xH} {K : Option Value → xH → Prop} {l1 l2 : Option Value} : wp d 2 13 [some .null, l1, l2] st h K ↔ wp d 2 14 [some .null, l1, l2] (.null :: st) h K := w_any (i := 2) (pc := 13) dX0_isPlanted_13 rfl rfl
theorem dX0_isPlanted_14 : decode cX0_isPlanted 14 = .ok (.getfield 28, 3) := by decide +kernel
theorem w2_14 {d : Nat} {st : List Value} {h : xH} {K : Option Value → xH → Prop} {ls : xL} {a : Nat} : wp d 2 14 ls (.ref a :: st) h K ↔ y_get h a 1 2 (fun v => wp d 2 17 ls (v :: st) h K) := w_get (i := 2) (pc := 14) dX0_isPlanted_14 rfl
theorem dX0_isPlanted_17 : decode cX0_isPlanted 17 = .ok (.iload_n 2, 1) := by decide +kernel
theorem w2_17 {d : Nat} {st : List Value} {h : xH} {K : Option Value → xH → Prop} {l0 l1 : Option Value} {x : Int32} : wp d 2 17 [l0, l1, some (.int x)] st h K ↔ wp d 2 18 [l0, l1, some (.int x)] (.int x :: st) h K := w_any (i := 2) (pc := 17) dX0_isPlanted_17 rfl rfl
theorem dX0_isPlanted_18 : decode cX0_isPlanted 18 = .ok (.invokevirtual 36, 3) := by decide +kernel
theorem w2_18 {d : Nat} {st : List Value} {h : xH} {K : Option Value → xH → Prop} {ls : xL} {a0 : Int32} {b : Nat} : wp (d + 1) 2 18 ls (.int a0 :: .ref b :: st) h K ↔ y_cls h b 0 ∧ xcs st ≤ 8 ∧ wp d 162 0 [some (.ref b), some (.int a0)] [] h (fun v h1 => wp (d + 1) 2 21 ls (v.toList ++ st) h1 K) := w_callW (i := 2) (pc := 18) (as := [.int a0]) (rest := st) dX0_isPlanted_18 rfl (by decide) rfl rfl (by decide) rfl rfl rfl rfl
theorem dX0_isPlanted_21 : decode cX0_isPlanted 21 = .ok (.checkcast 40, 3) := by decide +kernel
theorem w2_21 {d : Nat} {st : List Value} {h : xH} {K : Option Value → xH → Prop} {ls : xL} {a : Nat} : wp d 2 21 ls (.ref a :: st) h K ↔ y_cls h a 6 ∧ wp d 2 24 ls (.ref a :: st) h K := w_cast (i := 2) (pc := 21) dX0_isPlanted_21 rfl (by decide)
theorem w2_21n {d : Nat} {st : List Value} {h : xH} {K : Option Value → xH → Prop} {ls : xL} : wp d 2 21 ls (.null :: st) h K ↔ wp d 2 24 ls (.null :: st) h K := w_castN (i := 2) (pc := 21) dX0_isPlanted_21
theorem dX0_isPlanted_24 : decode cX0_isPlanted 24 = .ok (.getfield 42, 3) := by decide +kernel
theorem w2_24 {d : Nat} {st : List Value} {h : xH} {K : Option Value → xH → Prop} {ls : xL} {a : Nat} : wp d 2 24 ls (.ref a :: st) h K ↔ y_get h a 6 0 (fun v => wp d 2 27 ls (v :: st) h K) := w_get (i := 2) (pc := 24) dX0_isPlanted_24 rfl
theorem dX0_isPlanted_27 : decode cX0_isPlanted 27 = .ok (.iload_n 1, 1) := by decide +kernel
theorem w2_27 {d : Nat} {st : List Value} {h : xH} {K : Option Value → xH → Prop} {l0 l2 : Option Value} {x : Int32} : wp d 2 27 [l0, some (.int x), l2] st h K ↔ wp d 2 28 [l0, some (.int x), l2] (.int x :: st) h K := w_any (i := 2) (pc := 27) dX0_isPlanted_27 rfl rfl
theorem dX0_isPlanted_28 : decode cX0_isPlanted 28 = .ok (.if_icmp .ne 5, 3) := by decide +kernel
theorem w2_28 {d : Nat} {st : List Value} {h : xH} {K : Option Value → xH → Prop} {ls : xL} {x y : Int32} : wp d 2 28 ls (.int y :: .int x :: st) h K ↔ ((¬ x = y) → wp d 2 33 ls st h K) ∧ ((x = y) → wp d 2 31 ls st h K) := (w_if2 (i := 2) (pc := 28) (cd := .ne) (off := 5) (tgt := 33) dX0_isPlanted_28 (by decide) rfl).trans (and_congr Iff.rfl (imp_congr Classical.not_not Iff.rfl))
theorem dX0_isPlanted_31 : decode cX0_isPlanted 31 = .ok (.iconst 1, 1) := by decide +kernel
theorem w2_31 {d : Nat} {st : List Value} {h : xH} {K : Option Value → xH → Prop} {ls : xL} : wp d 2 31 ls st h K ↔ wp d 2 32 ls (.int 1 :: st) h K := w_iconst (i := 2) (pc := 31) dX0_isPlanted_31 (by decide)
theorem dX0_isPlanted_32 : decode cX0_isPlanted 32 = .ok (.ireturn, 1) := by decide +kernel
theorem w2_32 {d : Nat} {h : xH} {K : Option Value → xH → Prop} {ls : xL} {x : Int32} : wp d 2 32 ls [.int x] h K ↔ y_bool x ∧ K (some (.int x)) h := w_zret (i := 2) (pc := 32) dX0_isPlanted_32 rfl
theorem dX0_isPlanted_33 : decode cX0_isPlanted 33 = .ok (.iinc 2 1, 3) := by decide +kernel
theorem w2_33 {d : Nat} {st : List Value} {h : xH} {K : Option Value → xH → Prop} {l0 l1 : Option Value} {x : Int32} : wp d 2 33 [l0, l1, some (.int x)] st h K ↔ wp d 2 36 [l0, xk l1, some (.int (x + 1))] st h K := w_iinc (i := 2) (pc := 33) dX0_isPlanted_33 rfl (Nat.le_of_ble_eq_true rfl) (by decide) (show xst1 [l0, l1, some (.int x)] 2 (.int (x + 1)) = [l0, xk l1, some (.int (x + 1))] by simp only [xst1_0, xst1_1, xst1_s, Nat.reduceAdd])
theorem dX0_isPlanted_36 : decode cX0_isPlanted 36 = .ok (.goto (-34), 3) := by decide +kernel
theorem w2_36 {d : Nat} {st : List Value} {h : xH} {K : Option Value → xH → Prop} {ls : xL} : wp d 2 36 ls st h K ↔ wp d 2 2 ls st h K := w_goto (i := 2) (pc := 36) dX0_isPlanted_36 (by decide) rfl
theorem dX0_isPlanted_39 : decode cX0_isPlanted 39 = .ok (.iconst 0, 1) := by decide +kernel
theorem w2_39 {d : Nat} {st : List Value} {h : xH} {K : Option Value → xH → Prop} {ls : xL} : wp d 2 39 ls st h K ↔ wp d 2 40 ls (.int 0 :: st) h K := w_iconst (i := 2) (pc := 39) dX0_isPlanted_39 (by decide)
theorem dX0_isPlanted_40 : decode cX0_isPlanted 40 = .ok (.ireturn, 1) := by decide +kernel
theorem w2_40 {d : Nat} {h : xH} {K : Option Value → xH → Prop} {ls : xL} {x : Int32} : wp d 2 40 ls [.int x] h K ↔ y_bool x ∧ K (some (.int x)) h := w_zret (i := 2) (pc := 40) dX0_isPlanted_40 rfl
theorem dX0_growTo_0 : decode cX0_growTo 0 = .ok (.aload_n 0, 1) := by decide +kernel
theorem w3_0 {d : Nat} {st : List Value} {h : xH} {K : Option Value → xH → Prop} {l1 l2 l3 : Option Value} {x : Nat} : wp d 3 0 [some (.ref x), l1, l2, l3] st h K ↔ wp d 3 1 [some (.ref x), l1, l2, l3] (.ref x :: st) h K := w_any (i := 3) (pc := 0) dX0_growTo_0 rfl rfl
theorem w3_0n {d : Nat} {st : List Value} {h : xH} {K : Option Value → xH → Prop} {l1 l2 l3 : Option Value} : wp d 3 0 [some .null, l1, l2, l3] st h K ↔ wp d 3 1 [some .null, l1, l2, l3] (.null :: st) h K := w_any (i := 3) (pc := 0) dX0_growTo_0 rfl rfl
theorem dX0_growTo_1 : decode cX0_growTo 1 = .ok (.getfield 21, 3) := by decide +kernel
theorem w3_1 {d : Nat} {st : List Value} {h : xH} {K : Option Value → xH → Prop} {ls : xL} {a : Nat} : wp d 3 1 ls (.ref a :: st) h K ↔ y_get h a 1 1 (fun v => wp d 3 4 ls (v :: st) h K) := w_get (i := 3) (pc := 1) dX0_growTo_1 rfl
theorem dX0_growTo_4 : decode cX0_growTo 4 = .ok (.iconst 0, 1) := by decide +kernel
theorem w3_4 {d : Nat} {st : List Value} {h : xH} {K : Option Value → xH → Prop} {ls : xL} : wp d 3 4 ls st h K ↔ wp d 3 5 ls (.int 0 :: st) h K := w_iconst (i := 3) (pc := 4) dX0_growTo_4 (by decide)
theorem dX0_growTo_5 : decode cX0_growTo 5 = .ok (.iload_n 1, 1) := by decide +kernel
theorem w3_5 {d : Nat} {st : List Value} {h : xH} {K : Option Value → xH → Prop} {l0 l2 l3 : Option Value} {x : Int32} : wp d 3 5 [l0, some (.int x), l2, l3] st h K ↔ wp d 3 6 [l0, some (.int x), l2, l3] (.int x :: st) h K := w_any (i := 3) (pc := 5) dX0_growTo_5 rfl rfl
theorem dX0_growTo_6 : decode cX0_growTo 6 = .ok (.invokevirtual 46, 3) := by decide +kernel
theorem w3_6 {d : Nat} {st : List Value} {h : xH} {K : Option Value → xH → Prop} {ls : xL} {a0 : Int32} {a1 : Int32} {b : Nat} : wp (d + 1) 3 6 ls (.int a1 :: .int a0 :: .ref b :: st) h K ↔ y_cls h b 2 ∧ xcs st ≤ 8 ∧ wp d 14 0 [some (.ref b), some (.int a0), some (.int a1), none, none] [] h (fun v h1 => wp (d + 1) 3 9 ls (v.toList ++ st) h1 K) := w_callW (i := 3) (pc := 6) (as := [.int a0, .int a1]) (rest := st) dX0_growTo_6 rfl (by decide) rfl rfl (by decide) rfl rfl rfl rfl
theorem dX0_growTo_9 : decode cX0_growTo 9 = .ok (.istore_n 2, 1) := by decide +kernel
theorem w3_9 {d : Nat} {st : List Value} {h : xH} {K : Option Value → xH → Prop} {l0 l1 l2 l3 : Option Value} {x : Int32} : wp d 3 9 [l0, l1, l2, l3] (.int x :: st) h K ↔ wp d 3 10 [l0, xk l1, some (.int x), l3] st h K := w_istore_n (i := 3) (pc := 9) dX0_growTo_9 (Nat.le_of_ble_eq_true rfl) (show xst1 [l0, l1, l2, l3] 2 (.int x) = [l0, xk l1, some (.int x), l3] by simp only [xst1_0, xst1_1, xst1_s, Nat.reduceAdd])
theorem dX0_growTo_10 : decode cX0_growTo 10 = .ok (.aload_n 0, 1) := by decide +kernel
theorem w3_10 {d : Nat} {st : List Value} {h : xH} {K : Option Value → xH → Prop} {l1 l2 l3 : Option Value} {x : Nat} : wp d 3 10 [some (.ref x), l1, l2, l3] st h K ↔ wp d 3 11 [some (.ref x), l1, l2, l3] (.ref x :: st) h K := w_any (i := 3) (pc := 10) dX0_growTo_10 rfl rfl
theorem w3_10n {d : Nat} {st : List Value} {h : xH} {K : Option Value → xH → Prop} {l1 l2 l3 : Option Value} : wp d 3 10 [some .null, l1, l2, l3] st h K ↔ wp d 3 11 [some .null, l1, l2, l3] (.null :: st) h K := w_any (i := 3) (pc := 10) dX0_growTo_10 rfl rfl
theorem dX0_growTo_11 : decode cX0_growTo 11 = .ok (.invokevirtual 50, 3) := by decide +kernel
theorem w3_11 {d : Nat} {st : List Value} {h : xH} {K : Option Value → xH → Prop} {ls : xL} {b : Nat} : wp (d + 1) 3 11 ls (.ref b :: st) h K ↔ y_cls h b 1 ∧ xcs st ≤ 8 ∧ wp d 6 0 [some (.ref b), none, none] [] h (fun v h1 => wp (d + 1) 3 14 ls (v.toList ++ st) h1 K) := w_callW (i := 3) (pc := 11) (as := []) (rest := st) dX0_growTo_11 rfl (by decide) rfl rfl (by decide) rfl rfl rfl rfl
theorem dX0_growTo_14 : decode cX0_growTo 14 = .ok (.iconst 0, 1) := by decide +kernel
theorem w3_14 {d : Nat} {st : List Value} {h : xH} {K : Option Value → xH → Prop} {ls : xL} : wp d 3 14 ls st h K ↔ wp d 3 15 ls (.int 0 :: st) h K := w_iconst (i := 3) (pc := 14) dX0_growTo_14 (by decide)
theorem dX0_growTo_15 : decode cX0_growTo 15 = .ok (.istore_n 3, 1) := by decide +kernel
theorem w3_15 {d : Nat} {st : List Value} {h : xH} {K : Option Value → xH → Prop} {l0 l1 l2 l3 : Option Value} {x : Int32} : wp d 3 15 [l0, l1, l2, l3] (.int x :: st) h K ↔ wp d 3 16 [l0, l1, xk l2, some (.int x)] st h K := w_istore_n (i := 3) (pc := 15) dX0_growTo_15 (Nat.le_of_ble_eq_true rfl) (show xst1 [l0, l1, l2, l3] 3 (.int x) = [l0, l1, xk l2, some (.int x)] by simp only [xst1_0, xst1_1, xst1_s, Nat.reduceAdd])
theorem dX0_growTo_16 : decode cX0_growTo 16 = .ok (.iload_n 3, 1) := by decide +kernel
theorem w3_16 {d : Nat} {st : List Value} {h : xH} {K : Option Value → xH → Prop} {l0 l1 l2 : Option Value} {x : Int32} : wp d 3 16 [l0, l1, l2, some (.int x)] st h K ↔ wp d 3 17 [l0, l1, l2, some (.int x)] (.int x :: st) h K := w_any (i := 3) (pc := 16) dX0_growTo_16 rfl rfl
theorem dX0_growTo_17 : decode cX0_growTo 17 = .ok (.iload_n 2, 1) := by decide +kernel
theorem w3_17 {d : Nat} {st : List Value} {h : xH} {K : Option Value → xH → Prop} {l0 l1 l3 : Option Value} {x : Int32} : wp d 3 17 [l0, l1, some (.int x), l3] st h K ↔ wp d 3 18 [l0, l1, some (.int x), l3] (.int x :: st) h K := w_any (i := 3) (pc := 17) dX0_growTo_17 rfl rfl
theorem dX0_growTo_18 : decode cX0_growTo 18 = .ok (.if_icmp .ge 14, 3) := by decide +kernel
theorem w3_18 {d : Nat} {st : List Value} {h : xH} {K : Option Value → xH → Prop} {ls : xL} {x y : Int32} : wp d 3 18 ls (.int y :: .int x :: st) h K ↔ ((y ≤ x) → wp d 3 32 ls st h K) ∧ ((¬ (y ≤ x)) → wp d 3 21 ls st h K) := w_if2 (i := 3) (pc := 18) (cd := .ge) (off := 14) (tgt := 32) dX0_growTo_18 (by decide) rfl
theorem dX0_growTo_21 : decode cX0_growTo 21 = .ok (.aload_n 0, 1) := by decide +kernel
theorem w3_21 {d : Nat} {st : List Value} {h : xH} {K : Option Value → xH → Prop} {l1 l2 l3 : Option Value} {x : Nat} : wp d 3 21 [some (.ref x), l1, l2, l3] st h K ↔ wp d 3 22 [some (.ref x), l1, l2, l3] (.ref x :: st) h K := w_any (i := 3) (pc := 21) dX0_growTo_21 rfl rfl
theorem w3_21n {d : Nat} {st : List Value} {h : xH} {K : Option Value → xH → Prop} {l1 l2 l3 : Option Value} : wp d 3 21 [some .null, l1, l2, l3] st h K ↔ wp d 3 22 [some .null, l1, l2, l3] (.null :: st) h K := w_any (i := 3) (pc := 21) dX0_growTo_21 rfl rfl
theorem dX0_growTo_22 : decode cX0_growTo 22 = .ok (.iload_n 3, 1) := by decide +kernel
theorem w3_22 {d : Nat} {st : List Value} {h : xH} {K : Option Value → xH → Prop} {l0 l1 l2 : Option Value} {x : Int32} : wp d 3 22 [l0, l1, l2, some (.int x)] st h K ↔ wp d 3 23 [l0, l1, l2, some (.int x)] (.int x :: st) h K := w_any (i := 3) (pc := 22) dX0_growTo_22 rfl rfl
theorem dX0_growTo_23 : decode cX0_growTo 23 = .ok (.invokevirtual 53, 3) := by decide +kernel
theorem w3_23 {d : Nat} {st : List Value} {h : xH} {K : Option Value → xH → Prop} {ls : xL} {a0 : Int32} {b : Nat} : wp (d + 1) 3 23 ls (.int a0 :: .ref b :: st) h K ↔ y_cls h b 1 ∧ xcs st ≤ 8 ∧ wp d 7 0 [some (.ref b), some (.int a0), none, none] [] h (fun v h1 => wp (d + 1) 3 26 ls (v.toList ++ st) h1 K) := w_callW (i := 3) (pc := 23) (as := [.int a0]) (rest := st) dX0_growTo_23 rfl (by decide) rfl rfl (by decide) rfl rfl rfl rfl
theorem dX0_growTo_26 : decode cX0_growTo 26 = .ok (.iinc 3 1, 3) := by decide +kernel
theorem w3_26 {d : Nat} {st : List Value} {h : xH} {K : Option Value → xH → Prop} {l0 l1 l2 : Option Value} {x : Int32} : wp d 3 26 [l0, l1, l2, some (.int x)] st h K ↔ wp d 3 29 [l0, l1, xk l2, some (.int (x + 1))] st h K := w_iinc (i := 3) (pc := 26) dX0_growTo_26 rfl (Nat.le_of_ble_eq_true rfl) (by decide) (show xst1 [l0, l1, l2, some (.int x)] 3 (.int (x + 1)) = [l0, l1, xk l2, some (.int (x + 1))] by simp only [xst1_0, xst1_1, xst1_s, Nat.reduceAdd])
theorem dX0_growTo_29 : decode cX0_growTo 29 = .ok (.goto (-13), 3) := by decide +kernel
theorem w3_29 {d : Nat} {st : List Value} {h : xH} {K : Option Value → xH → Prop} {ls : xL} : wp d 3 29 ls st h K ↔ wp d 3 16 ls st h K := w_goto (i := 3) (pc := 29) dX0_growTo_29 (by decide) rfl
theorem dX0_growTo_32 : decode cX0_growTo 32 = .ok (.return_, 1) := by decide +kernel
theorem w3_32 {d : Nat} {h : xH} {K : Option Value → xH → Prop} {ls : xL} : wp d 3 32 ls [] h K ↔ K none h := w_vret (i := 3) (pc := 32) dX0_growTo_32 rfl
theorem dX0_restart_0 : decode cX0_restart 0 = .ok (.aload_n 0, 1) := by decide +kernel
theorem w6_0 {d : Nat} {st : List Value} {h : xH} {K : Option Value → xH → Prop} {l1 l2 : Option Value} {x : Nat} : wp d 6 0 [some (.ref x), l1, l2] st h K ↔ wp d 6 1 [some (.ref x), l1, l2] (.ref x :: st) h K := w_any (i := 6) (pc := 0) dX0_restart_0 rfl rfl
theorem w6_0n {d : Nat} {st : List Value} {h : xH} {K : Option Value → xH → Prop} {l1 l2 : Option Value} : wp d 6 0 [some .null, l1, l2] st h K ↔ wp d 6 1 [some .null, l1, l2] (.null :: st) h K := w_any (i := 6) (pc := 0) dX0_restart_0 rfl rfl
theorem dX0_restart_1 : decode cX0_restart 1 = .ok (.lconst 0, 1) := by decide +kernel
theorem w6_1 {d : Nat} {st : List Value} {h : xH} {K : Option Value → xH → Prop} {ls : xL} : wp d 6 1 ls st h K ↔ wp d 6 2 ls (.long 0 :: st) h K := w_lconst (i := 6) (pc := 1) dX0_restart_1 (by decide)
theorem dX0_restart_2 : decode cX0_restart 2 = .ok (.putfield 71, 3) := by decide +kernel
theorem w6_2 {d : Nat} {st : List Value} {h : xH} {K : Option Value → xH → Prop} {ls : xL} {x : Int64} {a : Nat} : wp d 6 2 ls (.long x :: .ref a :: st) h K ↔ y_put h a 1 3 (.long x) (fun h1 => wp d 6 5 ls st h1 K) := w_put (i := 6) (pc := 2) dX0_restart_2 rfl trivial (Or.inl rfl)
theorem dX0_restart_5 : decode cX0_restart 5 = .ok (.iconst 0, 1) := by decide +kernel
theorem w6_5 {d : Nat} {st : List Value} {h : xH} {K : Option Value → xH → Prop} {ls : xL} : wp d 6 5 ls st h K ↔ wp d 6 6 ls (.int 0 :: st) h K := w_iconst (i := 6) (pc := 5) dX0_restart_5 (by decide)
theorem dX0_restart_6 : decode cX0_restart 6 = .ok (.istore_n 1, 1) := by decide +kernel
theorem w6_6 {d : Nat} {st : List Value} {h : xH} {K : Option Value → xH → Prop} {l0 l1 l2 : Option Value} {x : Int32} : wp d 6 6 [l0, l1, l2] (.int x :: st) h K ↔ wp d 6 7 [xk l0, some (.int x), l2] st h K := w_istore_n (i := 6) (pc := 6) dX0_restart_6 (Nat.le_of_ble_eq_true rfl) (show xst1 [l0, l1, l2] 1 (.int x) = [xk l0, some (.int x), l2] by simp only [xst1_0, xst1_1, xst1_s, Nat.reduceAdd])
theorem dX0_restart_7 : decode cX0_restart 7 = .ok (.iload_n 1, 1) := by decide +kernel
theorem w6_7 {d : Nat} {st : List Value} {h : xH} {K : Option Value → xH → Prop} {l0 l2 : Option Value} {x : Int32} : wp d 6 7 [l0, some (.int x), l2] st h K ↔ wp d 6 8 [l0, some (.int x), l2] (.int x :: st) h K := w_any (i := 6) (pc := 7) dX0_restart_7 rfl rfl
theorem dX0_restart_8 : decode cX0_restart 8 = .ok (.aload_n 0, 1) := by decide +kernel
theorem w6_8 {d : Nat} {st : List Value} {h : xH} {K : Option Value → xH → Prop} {l1 l2 : Option Value} {x : Nat} : wp d 6 8 [some (.ref x), l1, l2] st h K ↔ wp d 6 9 [some (.ref x), l1, l2] (.ref x :: st) h K := w_any (i := 6) (pc := 8) dX0_restart_8 rfl rfl
theorem w6_8n {d : Nat} {st : List Value} {h : xH} {K : Option Value → xH → Prop} {l1 l2 : Option Value} : wp d 6 8 [some .null, l1, l2] st h K ↔ wp d 6 9 [some .null, l1, l2] (.null :: st) h K := w_any (i := 6) (pc := 8) dX0_restart_8 rfl rfl
theorem dX0_restart_9 : decode cX0_restart 9 = .ok (.getfield 28, 3) := by decide +kernel
theorem w6_9 {d : Nat} {st : List Value} {h : xH} {K : Option Value → xH → Prop} {ls : xL} {a : Nat} : wp d 6 9 ls (.ref a :: st) h K ↔ y_get h a 1 2 (fun v => wp d 6 12 ls (v :: st) h K) := w_get (i := 6) (pc := 9) dX0_restart_9 rfl
theorem dX0_restart_12 : decode cX0_restart 12 = .ok (.invokevirtual 32, 3) := by decide +kernel
theorem w6_12 {d : Nat} {st : List Value} {h : xH} {K : Option Value → xH → Prop} {ls : xL} {b : Nat} : wp (d + 1) 6 12 ls (.ref b :: st) h K ↔ y_cls h b 0 ∧ xcs st ≤ 8 ∧ wp d 160 0 [some (.ref b)] [] h (fun v h1 => wp (d + 1) 6 15 ls (v.toList ++ st) h1 K) := w_callW (i := 6) (pc := 12) (as := []) (rest := st) dX0_restart_12 rfl (by decide) rfl rfl (by decide) rfl rfl rfl rfl
theorem dX0_restart_15 : decode cX0_restart 15 = .ok (.if_icmp .ge 38, 3) := by decide +kernel
theorem w6_15 {d : Nat} {st : List Value} {h : xH} {K : Option Value → xH → Prop} {ls : xL} {x y : Int32} : wp d 6 15 ls (.int y :: .int x :: st) h K ↔ ((y ≤ x) → wp d 6 53 ls st h K) ∧ ((¬ (y ≤ x)) → wp d 6 18 ls st h K) := w_if2 (i := 6) (pc := 15) (cd := .ge) (off := 38) (tgt := 53) dX0_restart_15 (by decide) rfl
theorem dX0_restart_18 : decode cX0_restart 18 = .ok (.aload_n 0, 1) := by decide +kernel
theorem w6_18 {d : Nat} {st : List Value} {h : xH} {K : Option Value → xH → Prop} {l1 l2 : Option Value} {x : Nat} : wp d 6 18 [some (.ref x), l1, l2] st h K ↔ wp d 6 19 [some (.ref x), l1, l2] (.ref x :: st) h K := w_any (i := 6) (pc := 18) dX0_restart_18 rfl rfl
theorem w6_18n {d : Nat} {st : List Value} {h : xH} {K : Option Value → xH → Prop} {l1 l2 : Option Value} : wp d 6 18 [some .null, l1, l2] st h K ↔ wp d 6 19 [some .null, l1, l2] (.null :: st) h K := w_any (i := 6) (pc := 18) dX0_restart_18 rfl rfl
theorem dX0_restart_19 : decode cX0_restart 19 = .ok (.getfield 28, 3) := by decide +kernel
theorem w6_19 {d : Nat} {st : List Value} {h : xH} {K : Option Value → xH → Prop} {ls : xL} {a : Nat} : wp d 6 19 ls (.ref a :: st) h K ↔ y_get h a 1 2 (fun v => wp d 6 22 ls (v :: st) h K) := w_get (i := 6) (pc := 19) dX0_restart_19 rfl
theorem dX0_restart_22 : decode cX0_restart 22 = .ok (.iload_n 1, 1) := by decide +kernel
theorem w6_22 {d : Nat} {st : List Value} {h : xH} {K : Option Value → xH → Prop} {l0 l2 : Option Value} {x : Int32} : wp d 6 22 [l0, some (.int x), l2] st h K ↔ wp d 6 23 [l0, some (.int x), l2] (.int x :: st) h K := w_any (i := 6) (pc := 22) dX0_restart_22 rfl rfl
theorem dX0_restart_23 : decode cX0_restart 23 = .ok (.invokevirtual 36, 3) := by decide +kernel
theorem w6_23 {d : Nat} {st : List Value} {h : xH} {K : Option Value → xH → Prop} {ls : xL} {a0 : Int32} {b : Nat} : wp (d + 1) 6 23 ls (.int a0 :: .ref b :: st) h K ↔ y_cls h b 0 ∧ xcs st ≤ 8 ∧ wp d 162 0 [some (.ref b), some (.int a0)] [] h (fun v h1 => wp (d + 1) 6 26 ls (v.toList ++ st) h1 K) := w_callW (i := 6) (pc := 23) (as := [.int a0]) (rest := st) dX0_restart_23 rfl (by decide) rfl rfl (by decide) rfl rfl rfl rfl
theorem dX0_restart_26 : decode cX0_restart 26 = .ok (.checkcast 40, 3) := by decide +kernel
theorem w6_26 {d : Nat} {st : List Value} {h : xH} {K : Option Value → xH → Prop} {ls : xL} {a : Nat} : wp d 6 26 ls (.ref a :: st) h K ↔ y_cls h a 6 ∧ wp d 6 29 ls (.ref a :: st) h K := w_cast (i := 6) (pc := 26) dX0_restart_26 rfl (by decide)
theorem w6_26n {d : Nat} {st : List Value} {h : xH} {K : Option Value → xH → Prop} {ls : xL} : wp d 6 26 ls (.null :: st) h K ↔ wp d 6 29 ls (.null :: st) h K := w_castN (i := 6) (pc := 26) dX0_restart_26
theorem dX0_restart_29 : decode cX0_restart 29 = .ok (.astore_n 2, 1) := by decide +kernel
theorem w6_29 {d : Nat} {st : List Value} {h : xH} {K : Option Value → xH → Prop} {l0 l1 l2 : Option Value} {x : Nat} : wp d 6 29 [l0, l1, l2] (.ref x :: st) h K ↔ wp d 6 30 [l0, xk l1, some (.ref x)] st h K := w_astore_n (i := 6) (pc := 29) dX0_restart_29 (Nat.le_of_ble_eq_true rfl) (show xst1 [l0, l1, l2] 2 (.ref x) = [l0, xk l1, some (.ref x)] by simp only [xst1_0, xst1_1, xst1_s, Nat.reduceAdd])
theorem w6_29n {d : Nat} {st : List Value} {h : xH} {K : Option Value → xH → Prop} {l0 l1 l2 : Option Value} : wp d 6 29 [l0, l1, l2] (.null :: st) h K ↔ wp d 6 30 [l0, xk l1, some (.null)] st h K := w_astore_nN (i := 6) (pc := 29) dX0_restart_29 (Nat.le_of_ble_eq_true rfl) (show xst1 [l0, l1, l2] 2 (.null) = [l0, xk l1, some (.null)] by simp only [xst1_0, xst1_1, xst1_s, Nat.reduceAdd])
theorem dX0_restart_30 : decode cX0_restart 30 = .ok (.aload_n 2, 1) := by decide +kernel
theorem w6_30 {d : Nat} {st : List Value} {h : xH} {K : Option Value → xH → Prop} {l0 l1 : Option Value} {x : Nat} : wp d 6 30 [l0, l1, some (.ref x)] st h K ↔ wp d 6 31 [l0, l1, some (.ref x)] (.ref x :: st) h K := w_any (i := 6) (pc := 30) dX0_restart_30 rfl rfl
theorem w6_30n {d : Nat} {st : List Value} {h : xH} {K : Option Value → xH → Prop} {l0 l1 : Option Value} : wp d 6 30 [l0, l1, some .null] st h K ↔ wp d 6 31 [l0, l1, some .null] (.null :: st) h K := w_any (i := 6) (pc := 30) dX0_restart_30 rfl rfl
theorem dX0_restart_31 : decode cX0_restart 31 = .ok (.invokevirtual 75, 3) := by decide +kernel
theorem w6_31 {d : Nat} {st : List Value} {h : xH} {K : Option Value → xH → Prop} {ls : xL} {b : Nat} : wp (d + 1) 6 31 ls (.ref b :: st) h K ↔ y_cls h b 6 ∧ xcs st ≤ 8 ∧ wp d 36 0 [some (.ref b)] [] h (fun v h1 => wp (d + 1) 6 34 ls (v.toList ++ st) h1 K) := w_callW (i := 6) (pc := 31) (as := []) (rest := st) dX0_restart_31 rfl (by decide) rfl rfl (by decide) rfl rfl rfl rfl
theorem dX0_restart_34 : decode cX0_restart 34 = .ok (.aload_n 0, 1) := by decide +kernel
theorem w6_34 {d : Nat} {st : List Value} {h : xH} {K : Option Value → xH → Prop} {l1 l2 : Option Value} {x : Nat} : wp d 6 34 [some (.ref x), l1, l2] st h K ↔ wp d 6 35 [some (.ref x), l1, l2] (.ref x :: st) h K := w_any (i := 6) (pc := 34) dX0_restart_34 rfl rfl
theorem w6_34n {d : Nat} {st : List Value} {h : xH} {K : Option Value → xH → Prop} {l1 l2 : Option Value} : wp d 6 34 [some .null, l1, l2] st h K ↔ wp d 6 35 [some .null, l1, l2] (.null :: st) h K := w_any (i := 6) (pc := 34) dX0_restart_34 rfl rfl
theorem dX0_restart_35 : decode cX0_restart 35 = .ok (.dup, 1) := by decide +kernel
theorem w6_35 {d : Nat} {st : List Value} {h : xH} {K : Option Value → xH → Prop} {ls : xL} {x : Int32} : wp d 6 35 ls (.int x :: st) h K ↔ wp d 6 36 ls (.int x :: .int x :: st) h K := (w_any (i := 6) (pc := 35) dX0_restart_35 rfl rfl).trans (w_ct rfl)
theorem w6_35r {d : Nat} {st : List Value} {h : xH} {K : Option Value → xH → Prop} {ls : xL} {x : Nat} : wp d 6 35 ls (.ref x :: st) h K ↔ wp d 6 36 ls (.ref x :: .ref x :: st) h K := (w_any (i := 6) (pc := 35) dX0_restart_35 rfl rfl).trans (w_ct rfl)
theorem dX0_restart_36 : decode cX0_restart 36 = .ok (.getfield 71, 3) := by decide +kernel
theorem w6_36 {d : Nat} {st : List Value} {h : xH} {K : Option Value → xH → Prop} {ls : xL} {a : Nat} : wp d 6 36 ls (.ref a :: st) h K ↔ y_get h a 1 3 (fun v => wp d 6 39 ls (v :: st) h K) := w_get (i := 6) (pc := 36) dX0_restart_36 rfl
theorem dX0_restart_39 : decode cX0_restart 39 = .ok (.aload_n 2, 1) := by decide +kernel
theorem w6_39 {d : Nat} {st : List Value} {h : xH} {K : Option Value → xH → Prop} {l0 l1 : Option Value} {x : Nat} : wp d 6 39 [l0, l1, some (.ref x)] st h K ↔ wp d 6 40 [l0, l1, some (.ref x)] (.ref x :: st) h K := w_any (i := 6) (pc := 39) dX0_restart_39 rfl rfl
theorem w6_39n {d : Nat} {st : List Value} {h : xH} {K : Option Value → xH → Prop} {l0 l1 : Option Value} : wp d 6 39 [l0, l1, some .null] st h K ↔ wp d 6 40 [l0, l1, some .null] (.null :: st) h K := w_any (i := 6) (pc := 39) dX0_restart_39 rfl rfl
theorem dX0_restart_40 : decode cX0_restart 40 = .ok (.getfield 76, 3) := by decide +kernel
theorem w6_40 {d : Nat} {st : List Value} {h : xH} {K : Option Value → xH → Prop} {ls : xL} {a : Nat} : wp d 6 40 ls (.ref a :: st) h K ↔ y_get h a 6 8 (fun v => wp d 6 43 ls (v :: st) h K) := w_get (i := 6) (pc := 40) dX0_restart_40 rfl
theorem dX0_restart_43 : decode cX0_restart 43 = .ok (.lor, 1) := by decide +kernel
theorem w6_43 {d : Nat} {st : List Value} {h : xH} {K : Option Value → xH → Prop} {ls : xL} {x y : Int64} : wp d 6 43 ls (.long y :: .long x :: st) h K ↔ wp d 6 44 ls (.long (x ||| y) :: st) h K := w_any (i := 6) (pc := 43) dX0_restart_43 rfl rfl
theorem dX0_restart_44 : decode cX0_restart 44 = .ok (.putfield 71, 3) := by decide +kernel
theorem w6_44 {d : Nat} {st : List Value} {h : xH} {K : Option Value → xH → Prop} {ls : xL} {x : Int64} {a : Nat} : wp d 6 44 ls (.long x :: .ref a :: st) h K ↔ y_put h a 1 3 (.long x) (fun h1 => wp d 6 47 ls st h1 K) := w_put (i := 6) (pc := 44) dX0_restart_44 rfl trivial (Or.inl rfl)
theorem dX0_restart_47 : decode cX0_restart 47 = .ok (.iinc 1 1, 3) := by decide +kernel
theorem w6_47 {d : Nat} {st : List Value} {h : xH} {K : Option Value → xH → Prop} {l0 l2 : Option Value} {x : Int32} : wp d 6 47 [l0, some (.int x), l2] st h K ↔ wp d 6 50 [xk l0, some (.int (x + 1)), l2] st h K := w_iinc (i := 6) (pc := 47) dX0_restart_47 rfl (Nat.le_of_ble_eq_true rfl) (by decide) (show xst1 [l0, some (.int x), l2] 1 (.int (x + 1)) = [xk l0, some (.int (x + 1)), l2] by simp only [xst1_0, xst1_1, xst1_s, Nat.reduceAdd])
theorem dX0_restart_50 : decode cX0_restart 50 = .ok (.goto (-43), 3) := by decide +kernel
theorem w6_50 {d : Nat} {st : List Value} {h : xH} {K : Option Value → xH → Prop} {ls : xL} : wp d 6 50 ls st h K ↔ wp d 6 7 ls st h K := w_goto (i := 6) (pc := 50) dX0_restart_50 (by decide) rfl
theorem dX0_restart_53 : decode cX0_restart 53 = .ok (.return_, 1) := by decide +kernel
theorem w6_53 {d : Nat} {h : xH} {K : Option Value → xH → Prop} {ls : xL} : wp d 6 53 ls [] h K ↔ K none h := w_vret (i := 6) (pc := 53) dX0_restart_53 rfl
theorem dX0_grow_0 : decode cX0_grow 0 = .ok (.iconst 0, 1) := by decide +kernel
theorem w7_0 {d : Nat} {st : List Value} {h : xH} {K : Option Value → xH → Prop} {ls : xL} : wp d 7 0 ls st h K ↔ wp d 7 1 ls (.int 0 :: st) h K := w_iconst (i := 7) (pc := 0) dX0_grow_0 (by decide)
theorem dX0_grow_1 : decode cX0_grow 1 = .ok (.istore_n 2, 1) := by decide +kernel
theorem w7_1 {d : Nat} {st : List Value} {h : xH} {K : Option Value → xH → Prop} {l0 l1 l2 l3 : Option Value} {x : Int32} : wp d 7 1 [l0, l1, l2, l3] (.int x :: st) h K ↔ wp d 7 2 [l0, xk l1, some (.int x), l3] st h K := w_istore_n (i := 7) (pc := 1) dX0_grow_1 (Nat.le_of_ble_eq_true rfl) (show xst1 [l0, l1, l2, l3] 2 (.int x) = [l0, xk l1, some (.int x), l3] by simp only [xst1_0, xst1_1, xst1_s, Nat.reduceAdd])
theorem dX0_grow_2 : decode cX0_grow 2 = .ok (.iload_n 2, 1) := by decide +kernel
theorem w7_2 {d : Nat} {st : List Value} {h : xH} {K : Option Value → xH → Prop} {l0 l1 l3 : Option Value} {x : Int32} : wp d 7 2 [l0, l1, some (.int x), l3] st h K ↔ wp d 7 3 [l0, l1, some (.int x), l3] (.int x :: st) h K := w_any (i := 7) (pc := 2) dX0_grow_2 rfl rfl
theorem dX0_grow_3 : decode cX0_grow 3 = .ok (.aload_n 0, 1) := by decide +kernel
theorem w7_3 {d : Nat} {st : List Value} {h : xH} {K : Option Value → xH → Prop} {l1 l2 l3 : Option Value} {x : Nat} : wp d 7 3 [some (.ref x), l1, l2, l3] st h K ↔ wp d 7 4 [some (.ref x), l1, l2, l3] (.ref x :: st) h K := w_any (i := 7) (pc := 3) dX0_grow_3 rfl rfl
theorem w7_3n {d : Nat} {st : List Value} {h : xH} {K : Option Value → xH → Prop} {l1 l2 l3 : Option Value} : wp d 7 3 [some .null, l1, l2, l3] st h K ↔ wp d 7 4 [some .null, l1, l2, l3] (.null :: st) h K := w_any (i := 7) (pc := 3) dX0_grow_3 rfl rfl
theorem dX0_grow_4 : decode cX0_grow 4 = .ok (.getfield 28, 3) := by decide +kernel
theorem w7_4 {d : Nat} {st : List Value} {h : xH} {K : Option Value → xH → Prop} {ls : xL} {a : Nat} : wp d 7 4 ls (.ref a :: st) h K ↔ y_get h a 1 2 (fun v => wp d 7 7 ls (v :: st) h K) := w_get (i := 7) (pc := 4) dX0_grow_4 rfl
theorem dX0_grow_7 : decode cX0_grow 7 = .ok (.invokevirtual 32, 3) := by decide +kernel
theorem w7_7 {d : Nat} {st : List Value} {h : xH} {K : Option Value → xH → Prop} {ls : xL} {b : Nat} : wp (d + 1) 7 7 ls (.ref b :: st) h K ↔ y_cls h b 0 ∧ xcs st ≤ 8 ∧ wp d 160 0 [some (.ref b)] [] h (fun v h1 => wp (d + 1) 7 10 ls (v.toList ++ st) h1 K) := w_callW (i := 7) (pc := 7) (as := []) (rest := st) dX0_grow_7 rfl (by decide) rfl rfl (by decide) rfl rfl rfl rfl
theorem dX0_grow_10 : decode cX0_grow 10 = .ok (.if_icmp .ge 39, 3) := by decide +kernel
theorem w7_10 {d : Nat} {st : List Value} {h : xH} {K : Option Value → xH → Prop} {ls : xL} {x y : Int32} : wp d 7 10 ls (.int y :: .int x :: st) h K ↔ ((y ≤ x) → wp d 7 49 ls st h K) ∧ ((¬ (y ≤ x)) → wp d 7 13 ls st h K) := w_if2 (i := 7) (pc := 10) (cd := .ge) (off := 39) (tgt := 49) dX0_grow_10 (by decide) rfl
theorem dX0_grow_13 : decode cX0_grow 13 = .ok (.aload_n 0, 1) := by decide +kernel
theorem w7_13 {d : Nat} {st : List Value} {h : xH} {K : Option Value → xH → Prop} {l1 l2 l3 : Option Value} {x : Nat} : wp d 7 13 [some (.ref x), l1, l2, l3] st h K ↔ wp d 7 14 [some (.ref x), l1, l2, l3] (.ref x :: st) h K := w_any (i := 7) (pc := 13) dX0_grow_13 rfl rfl
theorem w7_13n {d : Nat} {st : List Value} {h : xH} {K : Option Value → xH → Prop} {l1 l2 l3 : Option Value} : wp d 7 13 [some .null, l1, l2, l3] st h K ↔ wp d 7 14 [some .null, l1, l2, l3] (.null :: st) h K := w_any (i := 7) (pc := 13) dX0_grow_13 rfl rfl
theorem dX0_grow_14 : decode cX0_grow 14 = .ok (.getfield 28, 3) := by decide +kernel
theorem w7_14 {d : Nat} {st : List Value} {h : xH} {K : Option Value → xH → Prop} {ls : xL} {a : Nat} : wp d 7 14 ls (.ref a :: st) h K ↔ y_get h a 1 2 (fun v => wp d 7 17 ls (v :: st) h K) := w_get (i := 7) (pc := 14) dX0_grow_14 rfl
theorem dX0_grow_17 : decode cX0_grow 17 = .ok (.iload_n 2, 1) := by decide +kernel
theorem w7_17 {d : Nat} {st : List Value} {h : xH} {K : Option Value → xH → Prop} {l0 l1 l3 : Option Value} {x : Int32} : wp d 7 17 [l0, l1, some (.int x), l3] st h K ↔ wp d 7 18 [l0, l1, some (.int x), l3] (.int x :: st) h K := w_any (i := 7) (pc := 17) dX0_grow_17 rfl rfl
theorem dX0_grow_18 : decode cX0_grow 18 = .ok (.invokevirtual 36, 3) := by decide +kernel
theorem w7_18 {d : Nat} {st : List Value} {h : xH} {K : Option Value → xH → Prop} {ls : xL} {a0 : Int32} {b : Nat} : wp (d + 1) 7 18 ls (.int a0 :: .ref b :: st) h K ↔ y_cls h b 0 ∧ xcs st ≤ 8 ∧ wp d 162 0 [some (.ref b), some (.int a0)] [] h (fun v h1 => wp (d + 1) 7 21 ls (v.toList ++ st) h1 K) := w_callW (i := 7) (pc := 18) (as := [.int a0]) (rest := st) dX0_grow_18 rfl (by decide) rfl rfl (by decide) rfl rfl rfl rfl
theorem dX0_grow_21 : decode cX0_grow 21 = .ok (.checkcast 40, 3) := by decide +kernel
theorem w7_21 {d : Nat} {st : List Value} {h : xH} {K : Option Value → xH → Prop} {ls : xL} {a : Nat} : wp d 7 21 ls (.ref a :: st) h K ↔ y_cls h a 6 ∧ wp d 7 24 ls (.ref a :: st) h K := w_cast (i := 7) (pc := 21) dX0_grow_21 rfl (by decide)
theorem w7_21n {d : Nat} {st : List Value} {h : xH} {K : Option Value → xH → Prop} {ls : xL} : wp d 7 21 ls (.null :: st) h K ↔ wp d 7 24 ls (.null :: st) h K := w_castN (i := 7) (pc := 21) dX0_grow_21
theorem dX0_grow_24 : decode cX0_grow 24 = .ok (.astore_n 3, 1) := by decide +kernel
theorem w7_24 {d : Nat} {st : List Value} {h : xH} {K : Option Value → xH → Prop} {l0 l1 l2 l3 : Option Value} {x : Nat} : wp d 7 24 [l0, l1, l2, l3] (.ref x :: st) h K ↔ wp d 7 25 [l0, l1, xk l2, some (.ref x)] st h K := w_astore_n (i := 7) (pc := 24) dX0_grow_24 (Nat.le_of_ble_eq_true rfl) (show xst1 [l0, l1, l2, l3] 3 (.ref x) = [l0, l1, xk l2, some (.ref x)] by simp only [xst1_0, xst1_1, xst1_s, Nat.reduceAdd])
theorem w7_24n {d : Nat} {st : List Value} {h : xH} {K : Option Value → xH → Prop} {l0 l1 l2 l3 : Option Value} : wp d 7 24 [l0, l1, l2, l3] (.null :: st) h K ↔ wp d 7 25 [l0, l1, xk l2, some (.null)] st h K := w_astore_nN (i := 7) (pc := 24) dX0_grow_24 (Nat.le_of_ble_eq_true rfl) (show xst1 [l0, l1, l2, l3] 3 (.null) = [l0, l1, xk l2, some (.null)] by simp only [xst1_0, xst1_1, xst1_s, Nat.reduceAdd])
theorem dX0_grow_25 : decode cX0_grow 25 = .ok (.aload_n 3, 1) := by decide +kernel
theorem w7_25 {d : Nat} {st : List Value} {h : xH} {K : Option Value → xH → Prop} {l0 l1 l2 : Option Value} {x : Nat} : wp d 7 25 [l0, l1, l2, some (.ref x)] st h K ↔ wp d 7 26 [l0, l1, l2, some (.ref x)] (.ref x :: st) h K := w_any (i := 7) (pc := 25) dX0_grow_25 rfl rfl
theorem w7_25n {d : Nat} {st : List Value} {h : xH} {K : Option Value → xH → Prop} {l0 l1 l2 : Option Value} : wp d 7 25 [l0, l1, l2, some .null] st h K ↔ wp d 7 26 [l0, l1, l2, some .null] (.null :: st) h K := w_any (i := 7) (pc := 25) dX0_grow_25 rfl rfl
theorem dX0_grow_26 : decode cX0_grow 26 = .ok (.invokevirtual 57, 3) := by decide +kernel
theorem w7_26 {d : Nat} {st : List Value} {h : xH} {K : Option Value → xH → Prop} {ls : xL} {b : Nat} : wp (d + 1) 7 26 ls (.ref b :: st) h K ↔ y_cls h b 6 ∧ xcs st ≤ 8 ∧ wp d 37 0 [some (.ref b)] [] h (fun v h1 => wp (d + 1) 7 29 ls (v.toList ++ st) h1 K) := w_callW (i := 7) (pc := 26) (as := []) (rest := st) dX0_grow_26 rfl (by decide) rfl rfl (by decide) rfl rfl rfl rfl
theorem dX0_grow_29 : decode cX0_grow 29 = .ok (.ifCond .eq 14, 3) := by decide +kernel
theorem w7_29 {d : Nat} {st : List Value} {h : xH} {K : Option Value → xH → Prop} {ls : xL} {x : Int32} : wp d 7 29 ls (.int x :: st) h K ↔ ((x = 0) → wp d 7 43 ls st h K) ∧ ((¬ (x = 0)) → wp d 7 32 ls st h K) := w_if1 (i := 7) (pc := 29) (cd := .eq) (off := 14) (tgt := 43) dX0_grow_29 (by decide) rfl
theorem dX0_grow_32 : decode cX0_grow 32 = .ok (.aload_n 0, 1) := by decide +kernel
theorem w7_32 {d : Nat} {st : List Value} {h : xH} {K : Option Value → xH → Prop} {l1 l2 l3 : Option Value} {x : Nat} : wp d 7 32 [some (.ref x), l1, l2, l3] st h K ↔ wp d 7 33 [some (.ref x), l1, l2, l3] (.ref x :: st) h K := w_any (i := 7) (pc := 32) dX0_grow_32 rfl rfl
theorem w7_32n {d : Nat} {st : List Value} {h : xH} {K : Option Value → xH → Prop} {l1 l2 l3 : Option Value} : wp d 7 32 [some .null, l1, l2, l3] st h K ↔ wp d 7 33 [some .null, l1, l2, l3] (.null :: st) h K := w_any (i := 7) (pc := 32) dX0_grow_32 rfl rfl
theorem dX0_grow_33 : decode cX0_grow 33 = .ok (.aload_n 3, 1) := by decide +kernel
theorem w7_33 {d : Nat} {st : List Value} {h : xH} {K : Option Value → xH → Prop} {l0 l1 l2 : Option Value} {x : Nat} : wp d 7 33 [l0, l1, l2, some (.ref x)] st h K ↔ wp d 7 34 [l0, l1, l2, some (.ref x)] (.ref x :: st) h K := w_any (i := 7) (pc := 33) dX0_grow_33 rfl rfl
theorem w7_33n {d : Nat} {st : List Value} {h : xH} {K : Option Value → xH → Prop} {l0 l1 l2 : Option Value} : wp d 7 33 [l0, l1, l2, some .null] st h K ↔ wp d 7 34 [l0, l1, l2, some .null] (.null :: st) h K := w_any (i := 7) (pc := 33) dX0_grow_33 rfl rfl
theorem dX0_grow_34 : decode cX0_grow 34 = .ok (.aload_n 0, 1) := by decide +kernel
theorem w7_34 {d : Nat} {st : List Value} {h : xH} {K : Option Value → xH → Prop} {l1 l2 l3 : Option Value} {x : Nat} : wp d 7 34 [some (.ref x), l1, l2, l3] st h K ↔ wp d 7 35 [some (.ref x), l1, l2, l3] (.ref x :: st) h K := w_any (i := 7) (pc := 34) dX0_grow_34 rfl rfl
theorem w7_34n {d : Nat} {st : List Value} {h : xH} {K : Option Value → xH → Prop} {l1 l2 l3 : Option Value} : wp d 7 34 [some .null, l1, l2, l3] st h K ↔ wp d 7 35 [some .null, l1, l2, l3] (.null :: st) h K := w_any (i := 7) (pc := 34) dX0_grow_34 rfl rfl
theorem dX0_grow_35 : decode cX0_grow 35 = .ok (.aload_n 3, 1) := by decide +kernel
theorem w7_35 {d : Nat} {st : List Value} {h : xH} {K : Option Value → xH → Prop} {l0 l1 l2 : Option Value} {x : Nat} : wp d 7 35 [l0, l1, l2, some (.ref x)] st h K ↔ wp d 7 36 [l0, l1, l2, some (.ref x)] (.ref x :: st) h K := w_any (i := 7) (pc := 35) dX0_grow_35 rfl rfl
theorem w7_35n {d : Nat} {st : List Value} {h : xH} {K : Option Value → xH → Prop} {l0 l1 l2 : Option Value} : wp d 7 35 [l0, l1, l2, some .null] st h K ↔ wp d 7 36 [l0, l1, l2, some .null] (.null :: st) h K := w_any (i := 7) (pc := 35) dX0_grow_35 rfl rfl
theorem dX0_grow_36 : decode cX0_grow 36 = .ok (.invokevirtual 77, 3) := by decide +kernel
theorem w7_36 {d : Nat} {st : List Value} {h : xH} {K : Option Value → xH → Prop} {ls : xL} {a0 : Nat} {b : Nat} : wp (d + 1) 7 36 ls (.ref a0 :: .ref b :: st) h K ↔ y_cls h b 1 ∧ xcs st ≤ 8 ∧ wp d 8 0 [some (.ref b), some (.ref a0), none, none, none, none, none, none] [] h (fun v h1 => wp (d + 1) 7 39 ls (v.toList ++ st) h1 K) := w_callW (i := 7) (pc := 36) (as := [.ref a0]) (rest := st) dX0_grow_36 rfl (by decide) rfl rfl (by decide) rfl rfl rfl rfl
theorem dX0_grow_39 : decode cX0_grow 39 = .ok (.iload_n 1, 1) := by decide +kernel
theorem w7_39 {d : Nat} {st : List Value} {h : xH} {K : Option Value → xH → Prop} {l0 l2 l3 : Option Value} {x : Int32} : wp d 7 39 [l0, some (.int x), l2, l3] st h K ↔ wp d 7 40 [l0, some (.int x), l2, l3] (.int x :: st) h K := w_any (i := 7) (pc := 39) dX0_grow_39 rfl rfl
theorem dX0_grow_40 : decode cX0_grow 40 = .ok (.invokevirtual 80, 3) := by decide +kernel
theorem w7_40 {d : Nat} {st : List Value} {h : xH} {K : Option Value → xH → Prop} {ls : xL} {a0 : Nat} {a1 : Int32} {a2 : Int32} {b : Nat} : wp (d + 1) 7 40 ls (.int a2 :: .int a1 :: .ref a0 :: .ref b :: st) h K ↔ y_cls h b 1 ∧ xcs st ≤ 8 ∧ wp d 9 0 [some (.ref b), some (.ref a0), some (.int a1), some (.int a2), none] [] h (fun v h1 => wp (d + 1) 7 43 ls (v.toList ++ st) h1 K) := w_callW (i := 7) (pc := 40) (as := [.ref a0, .int a1, .int a2]) (rest := st) dX0_grow_40 rfl (by decide) rfl rfl (by decide) rfl rfl rfl rfl
theorem dX0_grow_43 : decode cX0_grow 43 = .ok (.iinc 2 1, 3) := by decide +kernel
theorem w7_43 {d : Nat} {st : List Value} {h : xH} {K : Option Value → xH → Prop} {l0 l1 l3 : Option Value} {x : Int32} : wp d 7 43 [l0, l1, some (.int x), l3] st h K ↔ wp d 7 46 [l0, xk l1, some (.int (x + 1)), l3] st h K := w_iinc (i := 7) (pc := 43) dX0_grow_43 rfl (Nat.le_of_ble_eq_true rfl) (by decide) (show xst1 [l0, l1, some (.int x), l3] 2 (.int (x + 1)) = [l0, xk l1, some (.int (x + 1)), l3] by simp only [xst1_0, xst1_1, xst1_s, Nat.reduceAdd])
theorem dX0_grow_46 : decode cX0_grow 46 = .ok (.goto (-44), 3) := by decide +kernel
theorem w7_46 {d : Nat} {st : List Value} {h : xH} {K : Option Value → xH → Prop} {ls : xL} : wp d 7 46 ls st h K ↔ wp d 7 2 ls st h K := w_goto (i := 7) (pc := 46) dX0_grow_46 (by decide) rfl
theorem dX0_grow_49 : decode cX0_grow 49 = .ok (.return_, 1) := by decide +kernel
theorem w7_49 {d : Nat} {h : xH} {K : Option Value → xH → Prop} {ls : xL} : wp d 7 49 ls [] h K ↔ K none h := w_vret (i := 7) (pc := 49) dX0_grow_49 rfl
theorem dX0_freeWay_0 : decode cX0_freeWay 0 = .ok (.bipush (-9), 2) := by decide +kernel
theorem w8_0 {d : Nat} {st : List Value} {h : xH} {K : Option Value → xH → Prop} {ls : xL} : wp d 8 0 ls st h K ↔ wp d 8 2 ls (.int (-9) :: st) h K := w_bipush (i := 8) (pc := 0) dX0_freeWay_0 (by decide)
theorem dX0_freeWay_2 : decode cX0_freeWay 2 = .ok (.istore_n 2, 1) := by decide +kernel
theorem w8_2 {d : Nat} {st : List Value} {h : xH} {K : Option Value → xH → Prop} {l0 l1 l2 l3 l4 l5 l6 l7 : Option Value} {x : Int32} : wp d 8 2 [l0, l1, l2, l3, l4, l5, l6, l7] (.int x :: st) h K ↔ wp d 8 3 [l0, xk l1, some (.int x), l3, l4, l5, l6, l7] st h K := w_istore_n (i := 8) (pc := 2) dX0_freeWay_2 (Nat.le_of_ble_eq_true rfl) (show xst1 [l0, l1, l2, l3, l4, l5, l6, l7] 2 (.int x) = [l0, xk l1, some (.int x), l3, l4, l5, l6, l7] by simp only [xst1_0, xst1_1, xst1_s, Nat.reduceAdd])
theorem dX0_freeWay_3 : decode cX0_freeWay 3 = .ok (.iconst (-1), 1) := by decide +kernel
theorem w8_3 {d : Nat} {st : List Value} {h : xH} {K : Option Value → xH → Prop} {ls : xL} : wp d 8 3 ls st h K ↔ wp d 8 4 ls (.int (-1) :: st) h K := w_iconst (i := 8) (pc := 3) dX0_freeWay_3 (by decide)
theorem dX0_freeWay_4 : decode cX0_freeWay 4 = .ok (.istore_n 3, 1) := by decide +kernel
theorem w8_4 {d : Nat} {st : List Value} {h : xH} {K : Option Value → xH → Prop} {l0 l1 l2 l3 l4 l5 l6 l7 : Option Value} {x : Int32} : wp d 8 4 [l0, l1, l2, l3, l4, l5, l6, l7] (.int x :: st) h K ↔ wp d 8 5 [l0, l1, xk l2, some (.int x), l4, l5, l6, l7] st h K := w_istore_n (i := 8) (pc := 4) dX0_freeWay_4 (Nat.le_of_ble_eq_true rfl) (show xst1 [l0, l1, l2, l3, l4, l5, l6, l7] 3 (.int x) = [l0, l1, xk l2, some (.int x), l4, l5, l6, l7] by simp only [xst1_0, xst1_1, xst1_s, Nat.reduceAdd])
theorem dX0_freeWay_5 : decode cX0_freeWay 5 = .ok (.iload_n 3, 1) := by decide +kernel
theorem w8_5 {d : Nat} {st : List Value} {h : xH} {K : Option Value → xH → Prop} {l0 l1 l2 l4 l5 l6 l7 : Option Value} {x : Int32} : wp d 8 5 [l0, l1, l2, some (.int x), l4, l5, l6, l7] st h K ↔ wp d 8 6 [l0, l1, l2, some (.int x), l4, l5, l6, l7] (.int x :: st) h K := w_any (i := 8) (pc := 5) dX0_freeWay_5 rfl rfl
theorem dX0_freeWay_6 : decode cX0_freeWay 6 = .ok (.iconst 1, 1) := by decide +kernel
theorem w8_6 {d : Nat} {st : List Value} {h : xH} {K : Option Value → xH → Prop} {ls : xL} : wp d 8 6 ls st h K ↔ wp d 8 7 ls (.int 1 :: st) h K := w_iconst (i := 8) (pc := 6) dX0_freeWay_6 (by decide)
theorem dX0_freeWay_7 : decode cX0_freeWay 7 = .ok (.if_icmp .gt 111, 3) := by decide +kernel
theorem w8_7 {d : Nat} {st : List Value} {h : xH} {K : Option Value → xH → Prop} {ls : xL} {x y : Int32} : wp d 8 7 ls (.int y :: .int x :: st) h K ↔ ((y < x) → wp d 8 118 ls st h K) ∧ ((¬ (y < x)) → wp d 8 10 ls st h K) := w_if2 (i := 8) (pc := 7) (cd := .gt) (off := 111) (tgt := 118) dX0_freeWay_7 (by decide) rfl
theorem dX0_freeWay_10 : decode cX0_freeWay 10 = .ok (.aload_n 1, 1) := by decide +kernel
theorem w8_10 {d : Nat} {st : List Value} {h : xH} {K : Option Value → xH → Prop} {l0 l2 l3 l4 l5 l6 l7 : Option Value} {x : Nat} : wp d 8 10 [l0, some (.ref x), l2, l3, l4, l5, l6, l7] st h K ↔ wp d 8 11 [l0, some (.ref x), l2, l3, l4, l5, l6, l7] (.ref x :: st) h K := w_any (i := 8) (pc := 10) dX0_freeWay_10 rfl rfl
theorem w8_10n {d : Nat} {st : List Value} {h : xH} {K : Option Value → xH → Prop} {l0 l2 l3 l4 l5 l6 l7 : Option Value} : wp d 8 10 [l0, some .null, l2, l3, l4, l5, l6, l7] st h K ↔ wp d 8 11 [l0, some .null, l2, l3, l4, l5, l6, l7] (.null :: st) h K := w_any (i := 8) (pc := 10) dX0_freeWay_10 rfl rfl
theorem dX0_freeWay_11 : decode cX0_freeWay 11 = .ok (.getfield 84, 3) := by decide +kernel
theorem w8_11 {d : Nat} {st : List Value} {h : xH} {K : Option Value → xH → Prop} {ls : xL} {a : Nat} : wp d 8 11 ls (.ref a :: st) h K ↔ y_get h a 6 1 (fun v => wp d 8 14 ls (v :: st) h K) := w_get (i := 8) (pc := 11) dX0_freeWay_11 rfl
theorem dX0_freeWay_14 : decode cX0_freeWay 14 = .ok (.iconst 2, 1) := by decide +kernel
theorem w8_14 {d : Nat} {st : List Value} {h : xH} {K : Option Value → xH → Prop} {ls : xL} : wp d 8 14 ls st h K ↔ wp d 8 15 ls (.int 2 :: st) h K := w_iconst (i := 8) (pc := 14) dX0_freeWay_14 (by decide)
theorem dX0_freeWay_15 : decode cX0_freeWay 15 = .ok (.if_icmp .ne 8, 3) := by decide +kernel
theorem w8_15 {d : Nat} {st : List Value} {h : xH} {K : Option Value → xH → Prop} {ls : xL} {x y : Int32} : wp d 8 15 ls (.int y :: .int x :: st) h K ↔ ((¬ x = y) → wp d 8 23 ls st h K) ∧ ((x = y) → wp d 8 18 ls st h K) := (w_if2 (i := 8) (pc := 15) (cd := .ne) (off := 8) (tgt := 23) dX0_freeWay_15 (by decide) rfl).trans (and_congr Iff.rfl (imp_congr Classical.not_not Iff.rfl))
theorem dX0_freeWay_18 : decode cX0_freeWay 18 = .ok (.iload_n 3, 1) := by decide +kernel
theorem w8_18 {d : Nat} {st : List Value} {h : xH} {K : Option Value → xH → Prop} {l0 l1 l2 l4 l5 l6 l7 : Option Value} {x : Int32} : wp d 8 18 [l0, l1, l2, some (.int x), l4, l5, l6, l7] st h K ↔ wp d 8 19 [l0, l1, l2, some (.int x), l4, l5, l6, l7] (.int x :: st) h K := w_any (i := 8) (pc := 18) dX0_freeWay_18 rfl rfl
theorem dX0_freeWay_19 : decode cX0_freeWay 19 = .ok (.ineg, 1) := by decide +kernel
theorem w8_19 {d : Nat} {st : List Value} {h : xH} {K : Option Value → xH → Prop} {ls : xL} {x : Int32} : wp d 8 19 ls (.int x :: st) h K ↔ wp d 8 20 ls (.int (-x) :: st) h K := w_any (i := 8) (pc := 19) dX0_freeWay_19 rfl rfl
theorem dX0_freeWay_20 : decode cX0_freeWay 20 = .ok (.goto 4, 3) := by decide +kernel
theorem w8_20 {d : Nat} {st : List Value} {h : xH} {K : Option Value → xH → Prop} {ls : xL} : wp d 8 20 ls st h K ↔ wp d 8 24 ls st h K := w_goto (i := 8) (pc := 20) dX0_freeWay_20 (by decide) rfl
theorem dX0_freeWay_23 : decode cX0_freeWay 23 = .ok (.iload_n 3, 1) := by decide +kernel
theorem w8_23 {d : Nat} {st : List Value} {h : xH} {K : Option Value → xH → Prop} {l0 l1 l2 l4 l5 l6 l7 : Option Value} {x : Int32} : wp d 8 23 [l0, l1, l2, some (.int x), l4, l5, l6, l7] st h K ↔ wp d 8 24 [l0, l1, l2, some (.int x), l4, l5, l6, l7] (.int x :: st) h K := w_any (i := 8) (pc := 23) dX0_freeWay_23 rfl rfl
theorem dX0_freeWay_24 : decode cX0_freeWay 24 = .ok (.istore 4, 2) := by decide +kernel
theorem w8_24 {d : Nat} {st : List Value} {h : xH} {K : Option Value → xH → Prop} {l0 l1 l2 l3 l4 l5 l6 l7 : Option Value} {x : Int32} : wp d 8 24 [l0, l1, l2, l3, l4, l5, l6, l7] (.int x :: st) h K ↔ wp d 8 26 [l0, l1, l2, xk l3, some (.int x), l5, l6, l7] st h K := w_istore (i := 8) (pc := 24) dX0_freeWay_24 (Nat.le_of_ble_eq_true rfl) (show xst1 [l0, l1, l2, l3, l4, l5, l6, l7] 4 (.int x) = [l0, l1, l2, xk l3, some (.int x), l5, l6, l7] by simp only [xst1_0, xst1_1, xst1_s, Nat.reduceAdd])
theorem dX0_freeWay_26 : decode cX0_freeWay 26 = .ok (.aload_n 1, 1) := by decide +kernel
theorem w8_26 {d : Nat} {st : List Value} {h : xH} {K : Option Value → xH → Prop} {l0 l2 l3 l4 l5 l6 l7 : Option Value} {x : Nat} : wp d 8 26 [l0, some (.ref x), l2, l3, l4, l5, l6, l7] st h K ↔ wp d 8 27 [l0, some (.ref x), l2, l3, l4, l5, l6, l7] (.ref x :: st) h K := w_any (i := 8) (pc := 26) dX0_freeWay_26 rfl rfl
theorem w8_26n {d : Nat} {st : List Value} {h : xH} {K : Option Value → xH → Prop} {l0 l2 l3 l4 l5 l6 l7 : Option Value} : wp d 8 26 [l0, some .null, l2, l3, l4, l5, l6, l7] st h K ↔ wp d 8 27 [l0, some .null, l2, l3, l4, l5, l6, l7] (.null :: st) h K := w_any (i := 8) (pc := 26) dX0_freeWay_26 rfl rfl
theorem dX0_freeWay_27 : decode cX0_freeWay 27 = .ok (.getfield 87, 3) := by decide +kernel
theorem w8_27 {d : Nat} {st : List Value} {h : xH} {K : Option Value → xH → Prop} {ls : xL} {a : Nat} : wp d 8 27 ls (.ref a :: st) h K ↔ y_get h a 6 4 (fun v => wp d 8 30 ls (v :: st) h K) := w_get (i := 8) (pc := 27) dX0_freeWay_27 rfl
theorem dX0_freeWay_30 : decode cX0_freeWay 30 = .ok (.iload 4, 2) := by decide +kernel
theorem w8_30 {d : Nat} {st : List Value} {h : xH} {K : Option Value → xH → Prop} {l0 l1 l2 l3 l5 l6 l7 : Option Value} {x : Int32} : wp d 8 30 [l0, l1, l2, l3, some (.int x), l5, l6, l7] st h K ↔ wp d 8 32 [l0, l1, l2, l3, some (.int x), l5, l6, l7] (.int x :: st) h K := w_any (i := 8) (pc := 30) dX0_freeWay_30 rfl rfl
theorem dX0_freeWay_32 : decode cX0_freeWay 32 = .ok (.iadd, 1) := by decide +kernel
theorem w8_32 {d : Nat} {st : List Value} {h : xH} {K : Option Value → xH → Prop} {ls : xL} {x y : Int32} : wp d 8 32 ls (.int y :: .int x :: st) h K ↔ wp d 8 33 ls (.int (x + y) :: st) h K := w_any (i := 8) (pc := 32) dX0_freeWay_32 rfl rfl
theorem dX0_freeWay_33 : decode cX0_freeWay 33 = .ok (.iconst 3, 1) := by decide +kernel
theorem w8_33 {d : Nat} {st : List Value} {h : xH} {K : Option Value → xH → Prop} {ls : xL} : wp d 8 33 ls st h K ↔ wp d 8 34 ls (.int 3 :: st) h K := w_iconst (i := 8) (pc := 33) dX0_freeWay_33 (by decide)
theorem dX0_freeWay_34 : decode cX0_freeWay 34 = .ok (.iand, 1) := by decide +kernel
theorem w8_34 {d : Nat} {st : List Value} {h : xH} {K : Option Value → xH → Prop} {ls : xL} {x y : Int32} : wp d 8 34 ls (.int y :: .int x :: st) h K ↔ wp d 8 35 ls (.int (x &&& y) :: st) h K := w_any (i := 8) (pc := 34) dX0_freeWay_34 rfl rfl
theorem dX0_freeWay_35 : decode cX0_freeWay 35 = .ok (.istore 5, 2) := by decide +kernel
theorem w8_35 {d : Nat} {st : List Value} {h : xH} {K : Option Value → xH → Prop} {l0 l1 l2 l3 l4 l5 l6 l7 : Option Value} {x : Int32} : wp d 8 35 [l0, l1, l2, l3, l4, l5, l6, l7] (.int x :: st) h K ↔ wp d 8 37 [l0, l1, l2, l3, xk l4, some (.int x), l6, l7] st h K := w_istore (i := 8) (pc := 35) dX0_freeWay_35 (Nat.le_of_ble_eq_true rfl) (show xst1 [l0, l1, l2, l3, l4, l5, l6, l7] 5 (.int x) = [l0, l1, l2, l3, xk l4, some (.int x), l6, l7] by simp only [xst1_0, xst1_1, xst1_s, Nat.reduceAdd])
theorem dX0_freeWay_37 : decode cX0_freeWay 37 = .ok (.aload_n 0, 1) := by decide +kernel
theorem w8_37 {d : Nat} {st : List Value} {h : xH} {K : Option Value → xH → Prop} {l1 l2 l3 l4 l5 l6 l7 : Option Value} {x : Nat} : wp d 8 37 [some (.ref x), l1, l2, l3, l4, l5, l6, l7] st h K ↔ wp d 8 38 [some (.ref x), l1, l2, l3, l4, l5, l6, l7] (.ref x :: st) h K := w_any (i := 8) (pc := 37) dX0_freeWay_37 rfl rfl
theorem w8_37n {d : Nat} {st : List Value} {h : xH} {K : Option Value → xH → Prop} {l1 l2 l3 l4 l5 l6 l7 : Option Value} : wp d 8 37 [some .null, l1, l2, l3, l4, l5, l6, l7] st h K ↔ wp d 8 38 [some .null, l1, l2, l3, l4, l5, l6, l7] (.null :: st) h K := w_any (i := 8) (pc := 37) dX0_freeWay_37 rfl rfl
theorem dX0_freeWay_38 : decode cX0_freeWay 38 = .ok (.getfield 12, 3) := by decide +kernel
theorem w8_38 {d : Nat} {st : List Value} {h : xH} {K : Option Value → xH → Prop} {ls : xL} {a : Nat} : wp d 8 38 ls (.ref a :: st) h K ↔ y_get h a 1 0 (fun v => wp d 8 41 ls (v :: st) h K) := w_get (i := 8) (pc := 38) dX0_freeWay_38 rfl
theorem dX0_freeWay_41 : decode cX0_freeWay 41 = .ok (.aload_n 1, 1) := by decide +kernel
theorem w8_41 {d : Nat} {st : List Value} {h : xH} {K : Option Value → xH → Prop} {l0 l2 l3 l4 l5 l6 l7 : Option Value} {x : Nat} : wp d 8 41 [l0, some (.ref x), l2, l3, l4, l5, l6, l7] st h K ↔ wp d 8 42 [l0, some (.ref x), l2, l3, l4, l5, l6, l7] (.ref x :: st) h K := w_any (i := 8) (pc := 41) dX0_freeWay_41 rfl rfl
theorem w8_41n {d : Nat} {st : List Value} {h : xH} {K : Option Value → xH → Prop} {l0 l2 l3 l4 l5 l6 l7 : Option Value} : wp d 8 41 [l0, some .null, l2, l3, l4, l5, l6, l7] st h K ↔ wp d 8 42 [l0, some .null, l2, l3, l4, l5, l6, l7] (.null :: st) h K := w_any (i := 8) (pc := 41) dX0_freeWay_41 rfl rfl
theorem dX0_freeWay_42 : decode cX0_freeWay 42 = .ok (.getfield 90, 3) := by decide +kernel
theorem w8_42 {d : Nat} {st : List Value} {h : xH} {K : Option Value → xH → Prop} {ls : xL} {a : Nat} : wp d 8 42 ls (.ref a :: st) h K ↔ y_get h a 6 3 (fun v => wp d 8 45 ls (v :: st) h K) := w_get (i := 8) (pc := 42) dX0_freeWay_42 rfl
theorem dX0_freeWay_45 : decode cX0_freeWay 45 = .ok (.iload 5, 2) := by decide +kernel
theorem w8_45 {d : Nat} {st : List Value} {h : xH} {K : Option Value → xH → Prop} {l0 l1 l2 l3 l4 l6 l7 : Option Value} {x : Int32} : wp d 8 45 [l0, l1, l2, l3, l4, some (.int x), l6, l7] st h K ↔ wp d 8 47 [l0, l1, l2, l3, l4, some (.int x), l6, l7] (.int x :: st) h K := w_any (i := 8) (pc := 45) dX0_freeWay_45 rfl rfl
theorem dX0_freeWay_47 : decode cX0_freeWay 47 = .ok (.invokevirtual 93, 3) := by decide +kernel
theorem w8_47 {d : Nat} {st : List Value} {h : xH} {K : Option Value → xH → Prop} {ls : xL} {a0 : Int32} {a1 : Int32} {b : Nat} : wp (d + 1) 8 47 ls (.int a1 :: .int a0 :: .ref b :: st) h K ↔ y_cls h b 3 ∧ xcs st ≤ 8 ∧ wp d 22 0 [some (.ref b), some (.int a0), some (.int a1), none] [] h (fun v h1 => wp (d + 1) 8 50 ls (v.toList ++ st) h1 K) := w_callW (i := 8) (pc := 47) (as := [.int a0, .int a1]) (rest := st) dX0_freeWay_47 rfl (by decide) rfl rfl (by decide) rfl rfl rfl rfl
theorem dX0_freeWay_50 : decode cX0_freeWay 50 = .ok (.istore 6, 2) := by decide +kernel
theorem w8_50 {d : Nat} {st : List Value} {h : xH} {K : Option Value → xH → Prop} {l0 l1 l2 l3 l4 l5 l6 l7 : Option Value} {x : Int32} : wp d 8 50 [l0, l1, l2, l3, l4, l5, l6, l7] (.int x :: st) h K ↔ wp d 8 52 [l0, l1, l2, l3, l4, xk l5, some (.int x), l7] st h K := w_istore (i := 8) (pc := 50) dX0_freeWay_50 (Nat.le_of_ble_eq_true rfl) (show xst1 [l0, l1, l2, l3, l4, l5, l6, l7] 6 (.int x) = [l0, l1, l2, l3, l4, xk l5, some (.int x), l7] by simp only [xst1_0, xst1_1, xst1_s, Nat.reduceAdd])
theorem dX0_freeWay_52 : decode cX0_freeWay 52 = .ok (.aload_n 0, 1) := by decide +kernel
theorem w8_52 {d : Nat} {st : List Value} {h : xH} {K : Option Value → xH → Prop} {l1 l2 l3 l4 l5 l6 l7 : Option Value} {x : Nat} : wp d 8 52 [some (.ref x), l1, l2, l3, l4, l5, l6, l7] st h K ↔ wp d 8 53 [some (.ref x), l1, l2, l3, l4, l5, l6, l7] (.ref x :: st) h K := w_any (i := 8) (pc := 52) dX0_freeWay_52 rfl rfl
theorem w8_52n {d : Nat} {st : List Value} {h : xH} {K : Option Value → xH → Prop} {l1 l2 l3 l4 l5 l6 l7 : Option Value} : wp d 8 52 [some .null, l1, l2, l3, l4, l5, l6, l7] st h K ↔ wp d 8 53 [some .null, l1, l2, l3, l4, l5, l6, l7] (.null :: st) h K := w_any (i := 8) (pc := 52) dX0_freeWay_52 rfl rfl
theorem dX0_freeWay_53 : decode cX0_freeWay 53 = .ok (.getfield 12, 3) := by decide +kernel
theorem w8_53 {d : Nat} {st : List Value} {h : xH} {K : Option Value → xH → Prop} {ls : xL} {a : Nat} : wp d 8 53 ls (.ref a :: st) h K ↔ y_get h a 1 0 (fun v => wp d 8 56 ls (v :: st) h K) := w_get (i := 8) (pc := 53) dX0_freeWay_53 rfl
theorem dX0_freeWay_56 : decode cX0_freeWay 56 = .ok (.iload 6, 2) := by decide +kernel
theorem w8_56 {d : Nat} {st : List Value} {h : xH} {K : Option Value → xH → Prop} {l0 l1 l2 l3 l4 l5 l7 : Option Value} {x : Int32} : wp d 8 56 [l0, l1, l2, l3, l4, l5, some (.int x), l7] st h K ↔ wp d 8 58 [l0, l1, l2, l3, l4, l5, some (.int x), l7] (.int x :: st) h K := w_any (i := 8) (pc := 56) dX0_freeWay_56 rfl rfl
theorem dX0_freeWay_58 : decode cX0_freeWay 58 = .ok (.invokevirtual 96, 3) := by decide +kernel
theorem w8_58 {d : Nat} {st : List Value} {h : xH} {K : Option Value → xH → Prop} {ls : xL} {a0 : Int32} {b : Nat} : wp (d + 1) 8 58 ls (.int a0 :: .ref b :: st) h K ↔ y_cls h b 3 ∧ xcs st ≤ 8 ∧ wp d 19 0 [some (.ref b), some (.int a0)] [] h (fun v h1 => wp (d + 1) 8 61 ls (v.toList ++ st) h1 K) := w_callW (i := 8) (pc := 58) (as := [.int a0]) (rest := st) dX0_freeWay_58 rfl (by decide) rfl rfl (by decide) rfl rfl rfl rfl
theorem dX0_freeWay_61 : decode cX0_freeWay 61 = .ok (.istore 7, 2) := by decide +kernel
theorem w8_61 {d : Nat} {st : List Value} {h : xH} {K : Option Value → xH → Prop} {l0 l1 l2 l3 l4 l5 l6 l7 : Option Value} {x : Int32} : wp d 8 61 [l0, l1, l2, l3, l4, l5, l6, l7] (.int x :: st) h K ↔ wp d 8 63 [l0, l1, l2, l3, l4, l5, xk l6, some (.int x)] st h K := w_istore (i := 8) (pc := 61) dX0_freeWay_61 (Nat.le_of_ble_eq_true rfl) (show xst1 [l0, l1, l2, l3, l4, l5, l6, l7] 7 (.int x) = [l0, l1, l2, l3, l4, l5, xk l6, some (.int x)] by simp only [xst1_0, xst1_1, xst1_s, Nat.reduceAdd])
theorem dX0_freeWay_63 : decode cX0_freeWay 63 = .ok (.iload 7, 2) := by decide +kernel
theorem w8_63 {d : Nat} {st : List Value} {h : xH} {K : Option Value → xH → Prop} {l0 l1 l2 l3 l4 l5 l6 : Option Value} {x : Int32} : wp d 8 63 [l0, l1, l2, l3, l4, l5, l6, some (.int x)] st h K ↔ wp d 8 65 [l0, l1, l2, l3, l4, l5, l6, some (.int x)] (.int x :: st) h K := w_any (i := 8) (pc := 63) dX0_freeWay_63 rfl rfl
theorem dX0_freeWay_65 : decode cX0_freeWay 65 = .ok (.iconst 1, 1) := by decide +kernel
theorem w8_65 {d : Nat} {st : List Value} {h : xH} {K : Option Value → xH → Prop} {ls : xL} : wp d 8 65 ls st h K ↔ wp d 8 66 ls (.int 1 :: st) h K := w_iconst (i := 8) (pc := 65) dX0_freeWay_65 (by decide)
theorem dX0_freeWay_66 : decode cX0_freeWay 66 = .ok (.if_icmp .eq 46, 3) := by decide +kernel
theorem w8_66 {d : Nat} {st : List Value} {h : xH} {K : Option Value → xH → Prop} {ls : xL} {x y : Int32} : wp d 8 66 ls (.int y :: .int x :: st) h K ↔ ((x = y) → wp d 8 112 ls st h K) ∧ ((¬ (x = y)) → wp d 8 69 ls st h K) := w_if2 (i := 8) (pc := 66) (cd := .eq) (off := 46) (tgt := 112) dX0_freeWay_66 (by decide) rfl
theorem dX0_freeWay_69 : decode cX0_freeWay 69 = .ok (.aload_n 0, 1) := by decide +kernel
theorem w8_69 {d : Nat} {st : List Value} {h : xH} {K : Option Value → xH → Prop} {l1 l2 l3 l4 l5 l6 l7 : Option Value} {x : Nat} : wp d 8 69 [some (.ref x), l1, l2, l3, l4, l5, l6, l7] st h K ↔ wp d 8 70 [some (.ref x), l1, l2, l3, l4, l5, l6, l7] (.ref x :: st) h K := w_any (i := 8) (pc := 69) dX0_freeWay_69 rfl rfl
theorem w8_69n {d : Nat} {st : List Value} {h : xH} {K : Option Value → xH → Prop} {l1 l2 l3 l4 l5 l6 l7 : Option Value} : wp d 8 69 [some .null, l1, l2, l3, l4, l5, l6, l7] st h K ↔ wp d 8 70 [some .null, l1, l2, l3, l4, l5, l6, l7] (.null :: st) h K := w_any (i := 8) (pc := 69) dX0_freeWay_69 rfl rfl
theorem dX0_freeWay_70 : decode cX0_freeWay 70 = .ok (.getfield 71, 3) := by decide +kernel
theorem w8_70 {d : Nat} {st : List Value} {h : xH} {K : Option Value → xH → Prop} {ls : xL} {a : Nat} : wp d 8 70 ls (.ref a :: st) h K ↔ y_get h a 1 3 (fun v => wp d 8 73 ls (v :: st) h K) := w_get (i := 8) (pc := 70) dX0_freeWay_70 rfl
theorem dX0_freeWay_73 : decode cX0_freeWay 73 = .ok (.iload 6, 2) := by decide +kernel
theorem w8_73 {d : Nat} {st : List Value} {h : xH} {K : Option Value → xH → Prop} {l0 l1 l2 l3 l4 l5 l7 : Option Value} {x : Int32} : wp d 8 73 [l0, l1, l2, l3, l4, l5, some (.int x), l7] st h K ↔ wp d 8 75 [l0, l1, l2, l3, l4, l5, some (.int x), l7] (.int x :: st) h K := w_any (i := 8) (pc := 73) dX0_freeWay_73 rfl rfl
theorem dX0_freeWay_75 : decode cX0_freeWay 75 = .ok (.lshr, 1) := by decide +kernel
theorem w8_75 {d : Nat} {st : List Value} {h : xH} {K : Option Value → xH → Prop} {ls : xL} {x : Int64} {y : Int32} : wp d 8 75 ls (.int y :: .long x :: st) h K ↔ wp d 8 76 ls (.long (x >>> (y.toInt64 &&& 63)) :: st) h K := w_any (i := 8) (pc := 75) dX0_freeWay_75 rfl rfl
theorem dX0_freeWay_76 : decode cX0_freeWay 76 = .ok (.lconst 1, 1) := by decide +kernel
theorem w8_76 {d : Nat} {st : List Value} {h : xH} {K : Option Value → xH → Prop} {ls : xL} : wp d 8 76 ls st h K ↔ wp d 8 77 ls (.long 1 :: st) h K := w_lconst (i := 8) (pc := 76) dX0_freeWay_76 (by decide)
theorem dX0_freeWay_77 : decode cX0_freeWay 77 = .ok (.land, 1) := by decide +kernel
theorem w8_77 {d : Nat} {st : List Value} {h : xH} {K : Option Value → xH → Prop} {ls : xL} {x y : Int64} : wp d 8 77 ls (.long y :: .long x :: st) h K ↔ wp d 8 78 ls (.long (x &&& y) :: st) h K := w_any (i := 8) (pc := 77) dX0_freeWay_77 rfl rfl
theorem dX0_freeWay_78 : decode cX0_freeWay 78 = .ok (.lconst 0, 1) := by decide +kernel
theorem w8_78 {d : Nat} {st : List Value} {h : xH} {K : Option Value → xH → Prop} {ls : xL} : wp d 8 78 ls st h K ↔ wp d 8 79 ls (.long 0 :: st) h K := w_lconst (i := 8) (pc := 78) dX0_freeWay_78 (by decide)
theorem dX0_freeWay_79 : decode cX0_freeWay 79 = .ok (.lcmp, 1) := by decide +kernel
theorem w8_79 {d : Nat} {st : List Value} {h : xH} {K : Option Value → xH → Prop} {ls : xL} {x y : Int64} : wp d 8 79 ls (.long y :: .long x :: st) h K ↔ wp d 8 80 ls (.int (lg_cmp x y) :: st) h K := w_any (i := 8) (pc := 79) dX0_freeWay_79 rfl rfl
theorem dX0_freeWay_80 : decode cX0_freeWay 80 = .ok (.ifCond .ne 32, 3) := by decide +kernel
theorem w8_80 {d : Nat} {st : List Value} {h : xH} {K : Option Value → xH → Prop} {ls : xL} {x : Int32} : wp d 8 80 ls (.int x :: st) h K ↔ ((¬ x = 0) → wp d 8 112 ls st h K) ∧ ((x = 0) → wp d 8 83 ls st h K) := (w_if1 (i := 8) (pc := 80) (cd := .ne) (off := 32) (tgt := 112) dX0_freeWay_80 (by decide) rfl).trans (and_congr Iff.rfl (imp_congr Classical.not_not Iff.rfl))
theorem dX0_freeWay_83 : decode cX0_freeWay 83 = .ok (.aload_n 1, 1) := by decide +kernel
theorem w8_83 {d : Nat} {st : List Value} {h : xH} {K : Option Value → xH → Prop} {l0 l2 l3 l4 l5 l6 l7 : Option Value} {x : Nat} : wp d 8 83 [l0, some (.ref x), l2, l3, l4, l5, l6, l7] st h K ↔ wp d 8 84 [l0, some (.ref x), l2, l3, l4, l5, l6, l7] (.ref x :: st) h K := w_any (i := 8) (pc := 83) dX0_freeWay_83 rfl rfl
theorem w8_83n {d : Nat} {st : List Value} {h : xH} {K : Option Value → xH → Prop} {l0 l2 l3 l4 l5 l6 l7 : Option Value} : wp d 8 83 [l0, some .null, l2, l3, l4, l5, l6, l7] st h K ↔ wp d 8 84 [l0, some .null, l2, l3, l4, l5, l6, l7] (.null :: st) h K := w_any (i := 8) (pc := 83) dX0_freeWay_83 rfl rfl
theorem dX0_freeWay_84 : decode cX0_freeWay 84 = .ok (.getfield 84, 3) := by decide +kernel
theorem w8_84 {d : Nat} {st : List Value} {h : xH} {K : Option Value → xH → Prop} {ls : xL} {a : Nat} : wp d 8 84 ls (.ref a :: st) h K ↔ y_get h a 6 1 (fun v => wp d 8 87 ls (v :: st) h K) := w_get (i := 8) (pc := 84) dX0_freeWay_84 rfl
theorem dX0_freeWay_87 : decode cX0_freeWay 87 = .ok (.ifCond .eq 9, 3) := by decide +kernel
theorem w8_87 {d : Nat} {st : List Value} {h : xH} {K : Option Value → xH → Prop} {ls : xL} {x : Int32} : wp d 8 87 ls (.int x :: st) h K ↔ ((x = 0) → wp d 8 96 ls st h K) ∧ ((¬ (x = 0)) → wp d 8 90 ls st h K) := w_if1 (i := 8) (pc := 87) (cd := .eq) (off := 9) (tgt := 96) dX0_freeWay_87 (by decide) rfl
theorem dX0_freeWay_90 : decode cX0_freeWay 90 = .ok (.iload 7, 2) := by decide +kernel
theorem w8_90 {d : Nat} {st : List Value} {h : xH} {K : Option Value → xH → Prop} {l0 l1 l2 l3 l4 l5 l6 : Option Value} {x : Int32} : wp d 8 90 [l0, l1, l2, l3, l4, l5, l6, some (.int x)] st h K ↔ wp d 8 92 [l0, l1, l2, l3, l4, l5, l6, some (.int x)] (.int x :: st) h K := w_any (i := 8) (pc := 90) dX0_freeWay_90 rfl rfl
theorem dX0_freeWay_92 : decode cX0_freeWay 92 = .ok (.iconst 2, 1) := by decide +kernel
theorem w8_92 {d : Nat} {st : List Value} {h : xH} {K : Option Value → xH → Prop} {ls : xL} : wp d 8 92 ls st h K ↔ wp d 8 93 ls (.int 2 :: st) h K := w_iconst (i := 8) (pc := 92) dX0_freeWay_92 (by decide)
theorem dX0_freeWay_93 : decode cX0_freeWay 93 = .ok (.if_icmp .ne 6, 3) := by decide +kernel
theorem w8_93 {d : Nat} {st : List Value} {h : xH} {K : Option Value → xH → Prop} {ls : xL} {x y : Int32} : wp d 8 93 ls (.int y :: .int x :: st) h K ↔ ((¬ x = y) → wp d 8 99 ls st h K) ∧ ((x = y) → wp d 8 96 ls st h K) := (w_if2 (i := 8) (pc := 93) (cd := .ne) (off := 6) (tgt := 99) dX0_freeWay_93 (by decide) rfl).trans (and_congr Iff.rfl (imp_congr Classical.not_not Iff.rfl))
theorem dX0_freeWay_96 : decode cX0_freeWay 96 = .ok (.iload 5, 2) := by decide +kernel
theorem w8_96 {d : Nat} {st : List Value} {h : xH} {K : Option Value → xH → Prop} {l0 l1 l2 l3 l4 l6 l7 : Option Value} {x : Int32} : wp d 8 96 [l0, l1, l2, l3, l4, some (.int x), l6, l7] st h K ↔ wp d 8 98 [l0, l1, l2, l3, l4, some (.int x), l6, l7] (.int x :: st) h K := w_any (i := 8) (pc := 96) dX0_freeWay_96 rfl rfl
theorem dX0_freeWay_98 : decode cX0_freeWay 98 = .ok (.ireturn, 1) := by decide +kernel
theorem w8_98 {d : Nat} {h : xH} {K : Option Value → xH → Prop} {ls : xL} {x : Int32} : wp d 8 98 ls [.int x] h K ↔ K (some (.int x)) h := w_iret (i := 8) (pc := 98) dX0_freeWay_98 rfl
theorem dX0_freeWay_99 : decode cX0_freeWay 99 = .ok (.iload_n 2, 1) := by decide +kernel
theorem w8_99 {d : Nat} {st : List Value} {h : xH} {K : Option Value → xH → Prop} {l0 l1 l3 l4 l5 l6 l7 : Option Value} {x : Int32} : wp d 8 99 [l0, l1, some (.int x), l3, l4, l5, l6, l7] st h K ↔ wp d 8 100 [l0, l1, some (.int x), l3, l4, l5, l6, l7] (.int x :: st) h K := w_any (i := 8) (pc := 99) dX0_freeWay_99 rfl rfl
theorem dX0_freeWay_100 : decode cX0_freeWay 100 = .ok (.bipush (-9), 2) := by decide +kernel
theorem w8_100 {d : Nat} {st : List Value} {h : xH} {K : Option Value → xH → Prop} {ls : xL} : wp d 8 100 ls st h K ↔ wp d 8 102 ls (.int (-9) :: st) h K := w_bipush (i := 8) (pc := 100) dX0_freeWay_100 (by decide)
theorem dX0_freeWay_102 : decode cX0_freeWay 102 = .ok (.if_icmp .ne 8, 3) := by decide +kernel
theorem w8_102 {d : Nat} {st : List Value} {h : xH} {K : Option Value → xH → Prop} {ls : xL} {x y : Int32} : wp d 8 102 ls (.int y :: .int x :: st) h K ↔ ((¬ x = y) → wp d 8 110 ls st h K) ∧ ((x = y) → wp d 8 105 ls st h K) := (w_if2 (i := 8) (pc := 102) (cd := .ne) (off := 8) (tgt := 110) dX0_freeWay_102 (by decide) rfl).trans (and_congr Iff.rfl (imp_congr Classical.not_not Iff.rfl))
theorem dX0_freeWay_105 : decode cX0_freeWay 105 = .ok (.iload 5, 2) := by decide +kernel
theorem w8_105 {d : Nat} {st : List Value} {h : xH} {K : Option Value → xH → Prop} {l0 l1 l2 l3 l4 l6 l7 : Option Value} {x : Int32} : wp d 8 105 [l0, l1, l2, l3, l4, some (.int x), l6, l7] st h K ↔ wp d 8 107 [l0, l1, l2, l3, l4, some (.int x), l6, l7] (.int x :: st) h K := w_any (i := 8) (pc := 105) dX0_freeWay_105 rfl rfl
theorem dX0_freeWay_107 : decode cX0_freeWay 107 = .ok (.goto 4, 3) := by decide +kernel
theorem w8_107 {d : Nat} {st : List Value} {h : xH} {K : Option Value → xH → Prop} {ls : xL} : wp d 8 107 ls st h K ↔ wp d 8 111 ls st h K := w_goto (i := 8) (pc := 107) dX0_freeWay_107 (by decide) rfl
theorem dX0_freeWay_110 : decode cX0_freeWay 110 = .ok (.iload_n 2, 1) := by decide +kernel
theorem w8_110 {d : Nat} {st : List Value} {h : xH} {K : Option Value → xH → Prop} {l0 l1 l3 l4 l5 l6 l7 : Option Value} {x : Int32} : wp d 8 110 [l0, l1, some (.int x), l3, l4, l5, l6, l7] st h K ↔ wp d 8 111 [l0, l1, some (.int x), l3, l4, l5, l6, l7] (.int x :: st) h K := w_any (i := 8) (pc := 110) dX0_freeWay_110 rfl rfl
theorem dX0_freeWay_111 : decode cX0_freeWay 111 = .ok (.istore_n 2, 1) := by decide +kernel
theorem w8_111 {d : Nat} {st : List Value} {h : xH} {K : Option Value → xH → Prop} {l0 l1 l2 l3 l4 l5 l6 l7 : Option Value} {x : Int32} : wp d 8 111 [l0, l1, l2, l3, l4, l5, l6, l7] (.int x :: st) h K ↔ wp d 8 112 [l0, xk l1, some (.int x), l3, l4, l5, l6, l7] st h K := w_istore_n (i := 8) (pc := 111) dX0_freeWay_111 (Nat.le_of_ble_eq_true rfl) (show xst1 [l0, l1, l2, l3, l4, l5, l6, l7] 2 (.int x) = [l0, xk l1, some (.int x), l3, l4, l5, l6, l7] by simp only [xst1_0, xst1_1, xst1_s, Nat.reduceAdd])
theorem dX0_freeWay_112 : decode cX0_freeWay 112 = .ok (.iinc 3 1, 3) := by decide +kernel
theorem w8_112 {d : Nat} {st : List Value} {h : xH} {K : Option Value → xH → Prop} {l0 l1 l2 l4 l5 l6 l7 : Option Value} {x : Int32} : wp d 8 112 [l0, l1, l2, some (.int x), l4, l5, l6, l7] st h K ↔ wp d 8 115 [l0, l1, xk l2, some (.int (x + 1)), l4, l5, l6, l7] st h K := w_iinc (i := 8) (pc := 112) dX0_freeWay_112 rfl (Nat.le_of_ble_eq_true rfl) (by decide) (show xst1 [l0, l1, l2, some (.int x), l4, l5, l6, l7] 3 (.int (x + 1)) = [l0, l1, xk l2, some (.int (x + 1)), l4, l5, l6, l7] by simp only [xst1_0, xst1_1, xst1_s, Nat.reduceAdd])
theorem dX0_freeWay_115 : decode cX0_freeWay 115 = .ok (.goto (-110), 3) := by decide +kernel
theorem w8_115 {d : Nat} {st : List Value} {h : xH} {K : Option Value → xH → Prop} {ls : xL} : wp d 8 115 ls st h K ↔ wp d 8 5 ls st h K := w_goto (i := 8) (pc := 115) dX0_freeWay_115 (by decide) rfl
theorem dX0_freeWay_118 : decode cX0_freeWay 118 = .ok (.iload_n 2, 1) := by decide +kernel
theorem w8_118 {d : Nat} {st : List Value} {h : xH} {K : Option Value → xH → Prop} {l0 l1 l3 l4 l5 l6 l7 : Option Value} {x : Int32} : wp d 8 118 [l0, l1, some (.int x), l3, l4, l5, l6, l7] st h K ↔ wp d 8 119 [l0, l1, some (.int x), l3, l4, l5, l6, l7] (.int x :: st) h K := w_any (i := 8) (pc := 118) dX0_freeWay_118 rfl rfl
theorem dX0_freeWay_119 : decode cX0_freeWay 119 = .ok (.ireturn, 1) := by decide +kernel
theorem w8_119 {d : Nat} {h : xH} {K : Option Value → xH → Prop} {ls : xL} {x : Int32} : wp d 8 119 ls [.int x] h K ↔ K (some (.int x)) h := w_iret (i := 8) (pc := 119) dX0_freeWay_119 rfl
theorem dX0_take_0 : decode cX0_take 0 = .ok (.iload_n 2, 1) := by decide +kernel
theorem w9_0 {d : Nat} {st : List Value} {h : xH} {K : Option Value → xH → Prop} {l0 l1 l3 l4 : Option Value} {x : Int32} : wp d 9 0 [l0, l1, some (.int x), l3, l4] st h K ↔ wp d 9 1 [l0, l1, some (.int x), l3, l4] (.int x :: st) h K := w_any (i := 9) (pc := 0) dX0_take_0 rfl rfl
theorem dX0_take_1 : decode cX0_take 1 = .ok (.bipush (-9), 2) := by decide +kernel
theorem w9_1 {d : Nat} {st : List Value} {h : xH} {K : Option Value → xH → Prop} {ls : xL} : wp d 9 1 ls st h K ↔ wp d 9 3 ls (.int (-9) :: st) h K := w_bipush (i := 9) (pc := 1) dX0_take_1 (by decide)
theorem dX0_take_3 : decode cX0_take 3 = .ok (.if_icmp .eq 58, 3) := by decide +kernel
theorem w9_3 {d : Nat} {st : List Value} {h : xH} {K : Option Value → xH → Prop} {ls : xL} {x y : Int32} : wp d 9 3 ls (.int y :: .int x :: st) h K ↔ ((x = y) → wp d 9 61 ls st h K) ∧ ((¬ (x = y)) → wp d 9 6 ls st h K) := w_if2 (i := 9) (pc := 3) (cd := .eq) (off := 58) (tgt := 61) dX0_take_3 (by decide) rfl
theorem dX0_take_6 : decode cX0_take 6 = .ok (.aload_n 0, 1) := by decide +kernel
theorem w9_6 {d : Nat} {st : List Value} {h : xH} {K : Option Value → xH → Prop} {l1 l2 l3 l4 : Option Value} {x : Nat} : wp d 9 6 [some (.ref x), l1, l2, l3, l4] st h K ↔ wp d 9 7 [some (.ref x), l1, l2, l3, l4] (.ref x :: st) h K := w_any (i := 9) (pc := 6) dX0_take_6 rfl rfl
theorem w9_6n {d : Nat} {st : List Value} {h : xH} {K : Option Value → xH → Prop} {l1 l2 l3 l4 : Option Value} : wp d 9 6 [some .null, l1, l2, l3, l4] st h K ↔ wp d 9 7 [some .null, l1, l2, l3, l4] (.null :: st) h K := w_any (i := 9) (pc := 6) dX0_take_6 rfl rfl
theorem dX0_take_7 : decode cX0_take 7 = .ok (.getfield 12, 3) := by decide +kernel
theorem w9_7 {d : Nat} {st : List Value} {h : xH} {K : Option Value → xH → Prop} {ls : xL} {a : Nat} : wp d 9 7 ls (.ref a :: st) h K ↔ y_get h a 1 0 (fun v => wp d 9 10 ls (v :: st) h K) := w_get (i := 9) (pc := 7) dX0_take_7 rfl
theorem dX0_take_10 : decode cX0_take 10 = .ok (.aload_n 1, 1) := by decide +kernel
theorem w9_10 {d : Nat} {st : List Value} {h : xH} {K : Option Value → xH → Prop} {l0 l2 l3 l4 : Option Value} {x : Nat} : wp d 9 10 [l0, some (.ref x), l2, l3, l4] st h K ↔ wp d 9 11 [l0, some (.ref x), l2, l3, l4] (.ref x :: st) h K := w_any (i := 9) (pc := 10) dX0_take_10 rfl rfl
theorem w9_10n {d : Nat} {st : List Value} {h : xH} {K : Option Value → xH → Prop} {l0 l2 l3 l4 : Option Value} : wp d 9 10 [l0, some .null, l2, l3, l4] st h K ↔ wp d 9 11 [l0, some .null, l2, l3, l4] (.null :: st) h K := w_any (i := 9) (pc := 10) dX0_take_10 rfl rfl
theorem dX0_take_11 : decode cX0_take 11 = .ok (.getfield 90, 3) := by decide +kernel
theorem w9_11 {d : Nat} {st : List Value} {h : xH} {K : Option Value → xH → Prop} {ls : xL} {a : Nat} : wp d 9 11 ls (.ref a :: st) h K ↔ y_get h a 6 3 (fun v => wp d 9 14 ls (v :: st) h K) := w_get (i := 9) (pc := 11) dX0_take_11 rfl
theorem dX0_take_14 : decode cX0_take 14 = .ok (.iload_n 2, 1) := by decide +kernel
theorem w9_14 {d : Nat} {st : List Value} {h : xH} {K : Option Value → xH → Prop} {l0 l1 l3 l4 : Option Value} {x : Int32} : wp d 9 14 [l0, l1, some (.int x), l3, l4] st h K ↔ wp d 9 15 [l0, l1, some (.int x), l3, l4] (.int x :: st) h K := w_any (i := 9) (pc := 14) dX0_take_14 rfl rfl
theorem dX0_take_15 : decode cX0_take 15 = .ok (.invokevirtual 93, 3) := by decide +kernel
theorem w9_15 {d : Nat} {st : List Value} {h : xH} {K : Option Value → xH → Prop} {ls : xL} {a0 : Int32} {a1 : Int32} {b : Nat} : wp (d + 1) 9 15 ls (.int a1 :: .int a0 :: .ref b :: st) h K ↔ y_cls h b 3 ∧ xcs st ≤ 8 ∧ wp d 22 0 [some (.ref b), some (.int a0), some (.int a1), none] [] h (fun v h1 => wp (d + 1) 9 18 ls (v.toList ++ st) h1 K) := w_callW (i := 9) (pc := 15) (as := [.int a0, .int a1]) (rest := st) dX0_take_15 rfl (by decide) rfl rfl (by decide) rfl rfl rfl rfl
theorem dX0_take_18 : decode cX0_take 18 = .ok (.istore 4, 2) := by decide +kernel
theorem w9_18 {d : Nat} {st : List Value} {h : xH} {K : Option Value → xH → Prop} {l0 l1 l2 l3 l4 : Option Value} {x : Int32} : wp d 9 18 [l0, l1, l2, l3, l4] (.int x :: st) h K ↔ wp d 9 20 [l0, l1, l2, xk l3, some (.int x)] st h K := w_istore (i := 9) (pc := 18) dX0_take_18 (Nat.le_of_ble_eq_true rfl) (show xst1 [l0, l1, l2, l3, l4] 4 (.int x) = [l0, l1, l2, xk l3, some (.int x)] by simp only [xst1_0, xst1_1, xst1_s, Nat.reduceAdd])
theorem dX0_take_20 : decode cX0_take 20 = .ok (.aload_n 1, 1) := by decide +kernel
theorem w9_20 {d : Nat} {st : List Value} {h : xH} {K : Option Value → xH → Prop} {l0 l2 l3 l4 : Option Value} {x : Nat} : wp d 9 20 [l0, some (.ref x), l2, l3, l4] st h K ↔ wp d 9 21 [l0, some (.ref x), l2, l3, l4] (.ref x :: st) h K := w_any (i := 9) (pc := 20) dX0_take_20 rfl rfl
theorem w9_20n {d : Nat} {st : List Value} {h : xH} {K : Option Value → xH → Prop} {l0 l2 l3 l4 : Option Value} : wp d 9 20 [l0, some .null, l2, l3, l4] st h K ↔ wp d 9 21 [l0, some .null, l2, l3, l4] (.null :: st) h K := w_any (i := 9) (pc := 20) dX0_take_20 rfl rfl
theorem dX0_take_21 : decode cX0_take 21 = .ok (.iload_n 2, 1) := by decide +kernel
theorem w9_21 {d : Nat} {st : List Value} {h : xH} {K : Option Value → xH → Prop} {l0 l1 l3 l4 : Option Value} {x : Int32} : wp d 9 21 [l0, l1, some (.int x), l3, l4] st h K ↔ wp d 9 22 [l0, l1, some (.int x), l3, l4] (.int x :: st) h K := w_any (i := 9) (pc := 21) dX0_take_21 rfl rfl
theorem dX0_take_22 : decode cX0_take 22 = .ok (.iload 4, 2) := by decide +kernel
theorem w9_22 {d : Nat} {st : List Value} {h : xH} {K : Option Value → xH → Prop} {l0 l1 l2 l3 : Option Value} {x : Int32} : wp d 9 22 [l0, l1, l2, l3, some (.int x)] st h K ↔ wp d 9 24 [l0, l1, l2, l3, some (.int x)] (.int x :: st) h K := w_any (i := 9) (pc := 22) dX0_take_22 rfl rfl
theorem dX0_take_24 : decode cX0_take 24 = .ok (.invokevirtual 99, 3) := by decide +kernel
theorem w9_24 {d : Nat} {st : List Value} {h : xH} {K : Option Value → xH → Prop} {ls : xL} {a0 : Int32} {a1 : Int32} {b : Nat} : wp (d + 1) 9 24 ls (.int a1 :: .int a0 :: .ref b :: st) h K ↔ y_cls h b 6 ∧ xcs st ≤ 8 ∧ wp d 38 0 [some (.ref b), some (.int a0), some (.int a1)] [] h (fun v h1 => wp (d + 1) 9 27 ls (v.toList ++ st) h1 K) := w_callW (i := 9) (pc := 24) (as := [.int a0, .int a1]) (rest := st) dX0_take_24 rfl (by decide) rfl rfl (by decide) rfl rfl rfl rfl
theorem dX0_take_27 : decode cX0_take 27 = .ok (.aload_n 0, 1) := by decide +kernel
theorem w9_27 {d : Nat} {st : List Value} {h : xH} {K : Option Value → xH → Prop} {l1 l2 l3 l4 : Option Value} {x : Nat} : wp d 9 27 [some (.ref x), l1, l2, l3, l4] st h K ↔ wp d 9 28 [some (.ref x), l1, l2, l3, l4] (.ref x :: st) h K := w_any (i := 9) (pc := 27) dX0_take_27 rfl rfl
theorem w9_27n {d : Nat} {st : List Value} {h : xH} {K : Option Value → xH → Prop} {l1 l2 l3 l4 : Option Value} : wp d 9 27 [some .null, l1, l2, l3, l4] st h K ↔ wp d 9 28 [some .null, l1, l2, l3, l4] (.null :: st) h K := w_any (i := 9) (pc := 27) dX0_take_27 rfl rfl
theorem dX0_take_28 : decode cX0_take 28 = .ok (.dup, 1) := by decide +kernel
theorem w9_28 {d : Nat} {st : List Value} {h : xH} {K : Option Value → xH → Prop} {ls : xL} {x : Int32} : wp d 9 28 ls (.int x :: st) h K ↔ wp d 9 29 ls (.int x :: .int x :: st) h K := (w_any (i := 9) (pc := 28) dX0_take_28 rfl rfl).trans (w_ct rfl)
theorem w9_28r {d : Nat} {st : List Value} {h : xH} {K : Option Value → xH → Prop} {ls : xL} {x : Nat} : wp d 9 28 ls (.ref x :: st) h K ↔ wp d 9 29 ls (.ref x :: .ref x :: st) h K := (w_any (i := 9) (pc := 28) dX0_take_28 rfl rfl).trans (w_ct rfl)
theorem dX0_take_29 : decode cX0_take 29 = .ok (.getfield 71, 3) := by decide +kernel
theorem w9_29 {d : Nat} {st : List Value} {h : xH} {K : Option Value → xH → Prop} {ls : xL} {a : Nat} : wp d 9 29 ls (.ref a :: st) h K ↔ y_get h a 1 3 (fun v => wp d 9 32 ls (v :: st) h K) := w_get (i := 9) (pc := 29) dX0_take_29 rfl
theorem dX0_take_32 : decode cX0_take 32 = .ok (.aload_n 1, 1) := by decide +kernel
theorem w9_32 {d : Nat} {st : List Value} {h : xH} {K : Option Value → xH → Prop} {l0 l2 l3 l4 : Option Value} {x : Nat} : wp d 9 32 [l0, some (.ref x), l2, l3, l4] st h K ↔ wp d 9 33 [l0, some (.ref x), l2, l3, l4] (.ref x :: st) h K := w_any (i := 9) (pc := 32) dX0_take_32 rfl rfl
theorem w9_32n {d : Nat} {st : List Value} {h : xH} {K : Option Value → xH → Prop} {l0 l2 l3 l4 : Option Value} : wp d 9 32 [l0, some .null, l2, l3, l4] st h K ↔ wp d 9 33 [l0, some .null, l2, l3, l4] (.null :: st) h K := w_any (i := 9) (pc := 32) dX0_take_32 rfl rfl
theorem dX0_take_33 : decode cX0_take 33 = .ok (.getfield 76, 3) := by decide +kernel
theorem w9_33 {d : Nat} {st : List Value} {h : xH} {K : Option Value → xH → Prop} {ls : xL} {a : Nat} : wp d 9 33 ls (.ref a :: st) h K ↔ y_get h a 6 8 (fun v => wp d 9 36 ls (v :: st) h K) := w_get (i := 9) (pc := 33) dX0_take_33 rfl
theorem dX0_take_36 : decode cX0_take 36 = .ok (.lor, 1) := by decide +kernel
theorem w9_36 {d : Nat} {st : List Value} {h : xH} {K : Option Value → xH → Prop} {ls : xL} {x y : Int64} : wp d 9 36 ls (.long y :: .long x :: st) h K ↔ wp d 9 37 ls (.long (x ||| y) :: st) h K := w_any (i := 9) (pc := 36) dX0_take_36 rfl rfl
theorem dX0_take_37 : decode cX0_take 37 = .ok (.putfield 71, 3) := by decide +kernel
theorem w9_37 {d : Nat} {st : List Value} {h : xH} {K : Option Value → xH → Prop} {ls : xL} {x : Int64} {a : Nat} : wp d 9 37 ls (.long x :: .ref a :: st) h K ↔ y_put h a 1 3 (.long x) (fun h1 => wp d 9 40 ls st h1 K) := w_put (i := 9) (pc := 37) dX0_take_37 rfl trivial (Or.inl rfl)
theorem dX0_take_40 : decode cX0_take 40 = .ok (.aload_n 0, 1) := by decide +kernel
theorem w9_40 {d : Nat} {st : List Value} {h : xH} {K : Option Value → xH → Prop} {l1 l2 l3 l4 : Option Value} {x : Nat} : wp d 9 40 [some (.ref x), l1, l2, l3, l4] st h K ↔ wp d 9 41 [some (.ref x), l1, l2, l3, l4] (.ref x :: st) h K := w_any (i := 9) (pc := 40) dX0_take_40 rfl rfl
theorem w9_40n {d : Nat} {st : List Value} {h : xH} {K : Option Value → xH → Prop} {l1 l2 l3 l4 : Option Value} : wp d 9 40 [some .null, l1, l2, l3, l4] st h K ↔ wp d 9 41 [some .null, l1, l2, l3, l4] (.null :: st) h K := w_any (i := 9) (pc := 40) dX0_take_40 rfl rfl
theorem dX0_take_41 : decode cX0_take 41 = .ok (.getfield 12, 3) := by decide +kernel
theorem w9_41 {d : Nat} {st : List Value} {h : xH} {K : Option Value → xH → Prop} {ls : xL} {a : Nat} : wp d 9 41 ls (.ref a :: st) h K ↔ y_get h a 1 0 (fun v => wp d 9 44 ls (v :: st) h K) := w_get (i := 9) (pc := 41) dX0_take_41 rfl
theorem dX0_take_44 : decode cX0_take 44 = .ok (.iload 4, 2) := by decide +kernel
theorem w9_44 {d : Nat} {st : List Value} {h : xH} {K : Option Value → xH → Prop} {l0 l1 l2 l3 : Option Value} {x : Int32} : wp d 9 44 [l0, l1, l2, l3, some (.int x)] st h K ↔ wp d 9 46 [l0, l1, l2, l3, some (.int x)] (.int x :: st) h K := w_any (i := 9) (pc := 44) dX0_take_44 rfl rfl
theorem dX0_take_46 : decode cX0_take 46 = .ok (.invokevirtual 96, 3) := by decide +kernel
theorem w9_46 {d : Nat} {st : List Value} {h : xH} {K : Option Value → xH → Prop} {ls : xL} {a0 : Int32} {b : Nat} : wp (d + 1) 9 46 ls (.int a0 :: .ref b :: st) h K ↔ y_cls h b 3 ∧ xcs st ≤ 8 ∧ wp d 19 0 [some (.ref b), some (.int a0)] [] h (fun v h1 => wp (d + 1) 9 49 ls (v.toList ++ st) h1 K) := w_callW (i := 9) (pc := 46) (as := [.int a0]) (rest := st) dX0_take_46 rfl (by decide) rfl rfl (by decide) rfl rfl rfl rfl
theorem dX0_take_49 : decode cX0_take 49 = .ok (.iconst 3, 1) := by decide +kernel
theorem w9_49 {d : Nat} {st : List Value} {h : xH} {K : Option Value → xH → Prop} {ls : xL} : wp d 9 49 ls st h K ↔ wp d 9 50 ls (.int 3 :: st) h K := w_iconst (i := 9) (pc := 49) dX0_take_49 (by decide)
theorem dX0_take_50 : decode cX0_take 50 = .ok (.if_icmp .ne 8, 3) := by decide +kernel
theorem w9_50 {d : Nat} {st : List Value} {h : xH} {K : Option Value → xH → Prop} {ls : xL} {x y : Int32} : wp d 9 50 ls (.int y :: .int x :: st) h K ↔ ((¬ x = y) → wp d 9 58 ls st h K) ∧ ((x = y) → wp d 9 53 ls st h K) := (w_if2 (i := 9) (pc := 50) (cd := .ne) (off := 8) (tgt := 58) dX0_take_50 (by decide) rfl).trans (and_congr Iff.rfl (imp_congr Classical.not_not Iff.rfl))
theorem dX0_take_53 : decode cX0_take 53 = .ok (.aload_n 1, 1) := by decide +kernel
theorem w9_53 {d : Nat} {st : List Value} {h : xH} {K : Option Value → xH → Prop} {l0 l2 l3 l4 : Option Value} {x : Nat} : wp d 9 53 [l0, some (.ref x), l2, l3, l4] st h K ↔ wp d 9 54 [l0, some (.ref x), l2, l3, l4] (.ref x :: st) h K := w_any (i := 9) (pc := 53) dX0_take_53 rfl rfl
theorem w9_53n {d : Nat} {st : List Value} {h : xH} {K : Option Value → xH → Prop} {l0 l2 l3 l4 : Option Value} : wp d 9 53 [l0, some .null, l2, l3, l4] st h K ↔ wp d 9 54 [l0, some .null, l2, l3, l4] (.null :: st) h K := w_any (i := 9) (pc := 53) dX0_take_53 rfl rfl
theorem dX0_take_54 : decode cX0_take 54 = .ok (.iload_n 3, 1) := by decide +kernel
theorem w9_54 {d : Nat} {st : List Value} {h : xH} {K : Option Value → xH → Prop} {l0 l1 l2 l4 : Option Value} {x : Int32} : wp d 9 54 [l0, l1, l2, some (.int x), l4] st h K ↔ wp d 9 55 [l0, l1, l2, some (.int x), l4] (.int x :: st) h K := w_any (i := 9) (pc := 54) dX0_take_54 rfl rfl
theorem dX0_take_55 : decode cX0_take 55 = .ok (.putfield 61, 3) := by decide +kernel
theorem w9_55 {d : Nat} {st : List Value} {h : xH} {K : Option Value → xH → Prop} {ls : xL} {x : Int32} {a : Nat} : wp d 9 55 ls (.int x :: .ref a :: st) h K ↔ y_put h a 6 6 (.int x) (fun h1 => wp d 9 58 ls st h1 K) := w_put (i := 9) (pc := 55) dX0_take_55 rfl trivial (Or.inl rfl)
theorem dX0_take_58 : decode cX0_take 58 = .ok (.goto 47, 3) := by decide +kernel
theorem w9_58 {d : Nat} {st : List Value} {h : xH} {K : Option Value → xH → Prop} {ls : xL} : wp d 9 58 ls st h K ↔ wp d 9 105 ls st h K := w_goto (i := 9) (pc := 58) dX0_take_58 (by decide) rfl
theorem dX0_take_61 : decode cX0_take 61 = .ok (.aload_n 1, 1) := by decide +kernel
theorem w9_61 {d : Nat} {st : List Value} {h : xH} {K : Option Value → xH → Prop} {l0 l2 l3 l4 : Option Value} {x : Nat} : wp d 9 61 [l0, some (.ref x), l2, l3, l4] st h K ↔ wp d 9 62 [l0, some (.ref x), l2, l3, l4] (.ref x :: st) h K := w_any (i := 9) (pc := 61) dX0_take_61 rfl rfl
theorem w9_61n {d : Nat} {st : List Value} {h : xH} {K : Option Value → xH → Prop} {l0 l2 l3 l4 : Option Value} : wp d 9 61 [l0, some .null, l2, l3, l4] st h K ↔ wp d 9 62 [l0, some .null, l2, l3, l4] (.null :: st) h K := w_any (i := 9) (pc := 61) dX0_take_61 rfl rfl
theorem dX0_take_62 : decode cX0_take 62 = .ok (.getfield 90, 3) := by decide +kernel
theorem w9_62 {d : Nat} {st : List Value} {h : xH} {K : Option Value → xH → Prop} {ls : xL} {a : Nat} : wp d 9 62 ls (.ref a :: st) h K ↔ y_get h a 6 3 (fun v => wp d 9 65 ls (v :: st) h K) := w_get (i := 9) (pc := 62) dX0_take_62 rfl
theorem dX0_take_65 : decode cX0_take 65 = .ok (.aload_n 1, 1) := by decide +kernel
theorem w9_65 {d : Nat} {st : List Value} {h : xH} {K : Option Value → xH → Prop} {l0 l2 l3 l4 : Option Value} {x : Nat} : wp d 9 65 [l0, some (.ref x), l2, l3, l4] st h K ↔ wp d 9 66 [l0, some (.ref x), l2, l3, l4] (.ref x :: st) h K := w_any (i := 9) (pc := 65) dX0_take_65 rfl rfl
theorem w9_65n {d : Nat} {st : List Value} {h : xH} {K : Option Value → xH → Prop} {l0 l2 l3 l4 : Option Value} : wp d 9 65 [l0, some .null, l2, l3, l4] st h K ↔ wp d 9 66 [l0, some .null, l2, l3, l4] (.null :: st) h K := w_any (i := 9) (pc := 65) dX0_take_65 rfl rfl
theorem dX0_take_66 : decode cX0_take 66 = .ok (.getfield 42, 3) := by decide +kernel
theorem w9_66 {d : Nat} {st : List Value} {h : xH} {K : Option Value → xH → Prop} {ls : xL} {a : Nat} : wp d 9 66 ls (.ref a :: st) h K ↔ y_get h a 6 0 (fun v => wp d 9 69 ls (v :: st) h K) := w_get (i := 9) (pc := 66) dX0_take_66 rfl
theorem dX0_take_69 : decode cX0_take 69 = .ok (.if_icmp .ne 11, 3) := by decide +kernel
theorem w9_69 {d : Nat} {st : List Value} {h : xH} {K : Option Value → xH → Prop} {ls : xL} {x y : Int32} : wp d 9 69 ls (.int y :: .int x :: st) h K ↔ ((¬ x = y) → wp d 9 80 ls st h K) ∧ ((x = y) → wp d 9 72 ls st h K) := (w_if2 (i := 9) (pc := 69) (cd := .ne) (off := 11) (tgt := 80) dX0_take_69 (by decide) rfl).trans (and_congr Iff.rfl (imp_congr Classical.not_not Iff.rfl))
theorem dX0_take_72 : decode cX0_take 72 = .ok (.aload_n 1, 1) := by decide +kernel
theorem w9_72 {d : Nat} {st : List Value} {h : xH} {K : Option Value → xH → Prop} {l0 l2 l3 l4 : Option Value} {x : Nat} : wp d 9 72 [l0, some (.ref x), l2, l3, l4] st h K ↔ wp d 9 73 [l0, some (.ref x), l2, l3, l4] (.ref x :: st) h K := w_any (i := 9) (pc := 72) dX0_take_72 rfl rfl
theorem w9_72n {d : Nat} {st : List Value} {h : xH} {K : Option Value → xH → Prop} {l0 l2 l3 l4 : Option Value} : wp d 9 72 [l0, some .null, l2, l3, l4] st h K ↔ wp d 9 73 [l0, some .null, l2, l3, l4] (.null :: st) h K := w_any (i := 9) (pc := 72) dX0_take_72 rfl rfl
theorem dX0_take_73 : decode cX0_take 73 = .ok (.iload_n 3, 1) := by decide +kernel
theorem w9_73 {d : Nat} {st : List Value} {h : xH} {K : Option Value → xH → Prop} {l0 l1 l2 l4 : Option Value} {x : Int32} : wp d 9 73 [l0, l1, l2, some (.int x), l4] st h K ↔ wp d 9 74 [l0, l1, l2, some (.int x), l4] (.int x :: st) h K := w_any (i := 9) (pc := 73) dX0_take_73 rfl rfl
theorem dX0_take_74 : decode cX0_take 74 = .ok (.putfield 103, 3) := by decide +kernel
theorem w9_74 {d : Nat} {st : List Value} {h : xH} {K : Option Value → xH → Prop} {ls : xL} {x : Int32} {a : Nat} : wp d 9 74 ls (.int x :: .ref a :: st) h K ↔ y_put h a 6 7 (.int x) (fun h1 => wp d 9 77 ls st h1 K) := w_put (i := 9) (pc := 74) dX0_take_74 rfl trivial (Or.inl rfl)
theorem dX0_take_77 : decode cX0_take 77 = .ok (.goto 28, 3) := by decide +kernel
theorem w9_77 {d : Nat} {st : List Value} {h : xH} {K : Option Value → xH → Prop} {ls : xL} : wp d 9 77 ls st h K ↔ wp d 9 105 ls st h K := w_goto (i := 9) (pc := 77) dX0_take_77 (by decide) rfl
theorem dX0_take_80 : decode cX0_take 80 = .ok (.aload_n 1, 1) := by decide +kernel
theorem w9_80 {d : Nat} {st : List Value} {h : xH} {K : Option Value → xH → Prop} {l0 l2 l3 l4 : Option Value} {x : Nat} : wp d 9 80 [l0, some (.ref x), l2, l3, l4] st h K ↔ wp d 9 81 [l0, some (.ref x), l2, l3, l4] (.ref x :: st) h K := w_any (i := 9) (pc := 80) dX0_take_80 rfl rfl
theorem w9_80n {d : Nat} {st : List Value} {h : xH} {K : Option Value → xH → Prop} {l0 l2 l3 l4 : Option Value} : wp d 9 80 [l0, some .null, l2, l3, l4] st h K ↔ wp d 9 81 [l0, some .null, l2, l3, l4] (.null :: st) h K := w_any (i := 9) (pc := 80) dX0_take_80 rfl rfl
theorem dX0_take_81 : decode cX0_take 81 = .ok (.invokevirtual 106, 3) := by decide +kernel
theorem w9_81 {d : Nat} {st : List Value} {h : xH} {K : Option Value → xH → Prop} {ls : xL} {b : Nat} : wp (d + 1) 9 81 ls (.ref b :: st) h K ↔ y_cls h b 6 ∧ xcs st ≤ 8 ∧ wp d 39 0 [some (.ref b)] [] h (fun v h1 => wp (d + 1) 9 84 ls (v.toList ++ st) h1 K) := w_callW (i := 9) (pc := 81) (as := []) (rest := st) dX0_take_81 rfl (by decide) rfl rfl (by decide) rfl rfl rfl rfl
theorem dX0_take_84 : decode cX0_take 84 = .ok (.istore 4, 2) := by decide +kernel
theorem w9_84 {d : Nat} {st : List Value} {h : xH} {K : Option Value → xH → Prop} {l0 l1 l2 l3 l4 : Option Value} {x : Int32} : wp d 9 84 [l0, l1, l2, l3, l4] (.int x :: st) h K ↔ wp d 9 86 [l0, l1, l2, xk l3, some (.int x)] st h K := w_istore (i := 9) (pc := 84) dX0_take_84 (Nat.le_of_ble_eq_true rfl) (show xst1 [l0, l1, l2, l3, l4] 4 (.int x) = [l0, l1, l2, xk l3, some (.int x)] by simp only [xst1_0, xst1_1, xst1_s, Nat.reduceAdd])
theorem dX0_take_86 : decode cX0_take 86 = .ok (.aload_n 1, 1) := by decide +kernel
theorem w9_86 {d : Nat} {st : List Value} {h : xH} {K : Option Value → xH → Prop} {l0 l2 l3 l4 : Option Value} {x : Nat} : wp d 9 86 [l0, some (.ref x), l2, l3, l4] st h K ↔ wp d 9 87 [l0, some (.ref x), l2, l3, l4] (.ref x :: st) h K := w_any (i := 9) (pc := 86) dX0_take_86 rfl rfl
theorem w9_86n {d : Nat} {st : List Value} {h : xH} {K : Option Value → xH → Prop} {l0 l2 l3 l4 : Option Value} : wp d 9 86 [l0, some .null, l2, l3, l4] st h K ↔ wp d 9 87 [l0, some .null, l2, l3, l4] (.null :: st) h K := w_any (i := 9) (pc := 86) dX0_take_86 rfl rfl
theorem dX0_take_87 : decode cX0_take 87 = .ok (.iload 4, 2) := by decide +kernel
theorem w9_87 {d : Nat} {st : List Value} {h : xH} {K : Option Value → xH → Prop} {l0 l1 l2 l3 : Option Value} {x : Int32} : wp d 9 87 [l0, l1, l2, l3, some (.int x)] st h K ↔ wp d 9 89 [l0, l1, l2, l3, some (.int x)] (.int x :: st) h K := w_any (i := 9) (pc := 87) dX0_take_87 rfl rfl
theorem dX0_take_89 : decode cX0_take 89 = .ok (.aload_n 0, 1) := by decide +kernel
theorem w9_89 {d : Nat} {st : List Value} {h : xH} {K : Option Value → xH → Prop} {l1 l2 l3 l4 : Option Value} {x : Nat} : wp d 9 89 [some (.ref x), l1, l2, l3, l4] st h K ↔ wp d 9 90 [some (.ref x), l1, l2, l3, l4] (.ref x :: st) h K := w_any (i := 9) (pc := 89) dX0_take_89 rfl rfl
theorem w9_89n {d : Nat} {st : List Value} {h : xH} {K : Option Value → xH → Prop} {l1 l2 l3 l4 : Option Value} : wp d 9 89 [some .null, l1, l2, l3, l4] st h K ↔ wp d 9 90 [some .null, l1, l2, l3, l4] (.null :: st) h K := w_any (i := 9) (pc := 89) dX0_take_89 rfl rfl
theorem dX0_take_90 : decode cX0_take 90 = .ok (.getfield 12, 3) := by decide +kernel
theorem w9_90 {d : Nat} {st : List Value} {h : xH} {K : Option Value → xH → Prop} {ls : xL} {a : Nat} : wp d 9 90 ls (.ref a :: st) h K ↔ y_get h a 1 0 (fun v => wp d 9 93 ls (v :: st) h K) := w_get (i := 9) (pc := 90) dX0_take_90 rfl
theorem dX0_take_93 : decode cX0_take 93 = .ok (.aload_n 1, 1) := by decide +kernel
theorem w9_93 {d : Nat} {st : List Value} {h : xH} {K : Option Value → xH → Prop} {l0 l2 l3 l4 : Option Value} {x : Nat} : wp d 9 93 [l0, some (.ref x), l2, l3, l4] st h K ↔ wp d 9 94 [l0, some (.ref x), l2, l3, l4] (.ref x :: st) h K := w_any (i := 9) (pc := 93) dX0_take_93 rfl rfl
theorem w9_93n {d : Nat} {st : List Value} {h : xH} {K : Option Value → xH → Prop} {l0 l2 l3 l4 : Option Value} : wp d 9 93 [l0, some .null, l2, l3, l4] st h K ↔ wp d 9 94 [l0, some .null, l2, l3, l4] (.null :: st) h K := w_any (i := 9) (pc := 93) dX0_take_93 rfl rfl
theorem dX0_take_94 : decode cX0_take 94 = .ok (.getfield 90, 3) := by decide +kernel
theorem w9_94 {d : Nat} {st : List Value} {h : xH} {K : Option Value → xH → Prop} {ls : xL} {a : Nat} : wp d 9 94 ls (.ref a :: st) h K ↔ y_get h a 6 3 (fun v => wp d 9 97 ls (v :: st) h K) := w_get (i := 9) (pc := 94) dX0_take_94 rfl
theorem dX0_take_97 : decode cX0_take 97 = .ok (.iload 4, 2) := by decide +kernel
theorem w9_97 {d : Nat} {st : List Value} {h : xH} {K : Option Value → xH → Prop} {l0 l1 l2 l3 : Option Value} {x : Int32} : wp d 9 97 [l0, l1, l2, l3, some (.int x)] st h K ↔ wp d 9 99 [l0, l1, l2, l3, some (.int x)] (.int x :: st) h K := w_any (i := 9) (pc := 97) dX0_take_97 rfl rfl
theorem dX0_take_99 : decode cX0_take 99 = .ok (.invokevirtual 93, 3) := by decide +kernel
theorem w9_99 {d : Nat} {st : List Value} {h : xH} {K : Option Value → xH → Prop} {ls : xL} {a0 : Int32} {a1 : Int32} {b : Nat} : wp (d + 1) 9 99 ls (.int a1 :: .int a0 :: .ref b :: st) h K ↔ y_cls h b 3 ∧ xcs st ≤ 8 ∧ wp d 22 0 [some (.ref b), some (.int a0), some (.int a1), none] [] h (fun v h1 => wp (d + 1) 9 102 ls (v.toList ++ st) h1 K) := w_callW (i := 9) (pc := 99) (as := [.int a0, .int a1]) (rest := st) dX0_take_99 rfl (by decide) rfl rfl (by decide) rfl rfl rfl rfl
theorem dX0_take_102 : decode cX0_take 102 = .ok (.invokevirtual 109, 3) := by decide +kernel
theorem w9_102 {d : Nat} {st : List Value} {h : xH} {K : Option Value → xH → Prop} {ls : xL} {a0 : Int32} {a1 : Int32} {b : Nat} : wp (d + 1) 9 102 ls (.int a1 :: .int a0 :: .ref b :: st) h K ↔ y_cls h b 6 ∧ xcs st ≤ 8 ∧ wp d 40 0 [some (.ref b), some (.int a0), some (.int a1)] [] h (fun v h1 => wp (d + 1) 9 105 ls (v.toList ++ st) h1 K) := w_callW (i := 9) (pc := 102) (as := [.int a0, .int a1]) (rest := st) dX0_take_102 rfl (by decide) rfl rfl (by decide) rfl rfl rfl rfl
theorem dX0_take_105 : decode cX0_take 105 = .ok (.return_, 1) := by decide +kernel
theorem w9_105 {d : Nat} {h : xH} {K : Option Value → xH → Prop} {ls : xL} : wp d 9 105 ls [] h K ↔ K none h := w_vret (i := 9) (pc := 105) dX0_take_105 rfl
theorem dX1_init_0 : decode cX1_init 0 = .ok (.aload_n 0, 1) := by decide +kernel
theorem w10_0 {d : Nat} {st : List Value} {h : xH} {K : Option Value → xH → Prop} {x : Nat} : wp d 10 0 [some (.ref x)] st h K ↔ wp d 10 1 [some (.ref x)] (.ref x :: st) h K := w_any (i := 10) (pc := 0) dX1_init_0 rfl rfl
theorem w10_0n {d : Nat} {st : List Value} {h : xH} {K : Option Value → xH → Prop} : wp d 10 0 [some .null] st h K ↔ wp d 10 1 [some .null] (.null :: st) h K := w_any (i := 10) (pc := 0) dX1_init_0 rfl rfl
theorem dX1_init_1 : decode cX1_init 1 = .ok (.invokespecial 3, 3) := by decide +kernel
theorem w10_1 {d : Nat} {st : List Value} {h : xH} {K : Option Value → xH → Prop} {ls : xL} {a : Nat} : wp d 10 1 ls (.ref a :: st) h K ↔ xcs st ≤ 8 ∧ wp d 10 4 ls st h K := w_objI (i := 10) (pc := 1) dX1_init_1 rfl
theorem dX1_init_4 : decode cX1_init 4 = .ok (.aload_n 0, 1) := by decide +kernel
theorem w10_4 {d : Nat} {st : List Value} {h : xH} {K : Option Value → xH → Prop} {x : Nat} : wp d 10 4 [some (.ref x)] st h K ↔ wp d 10 5 [some (.ref x)] (.ref x :: st) h K := w_any (i := 10) (pc := 4) dX1_init_4 rfl rfl
theorem w10_4n {d : Nat} {st : List Value} {h : xH} {K : Option Value → xH → Prop} : wp d 10 4 [some .null] st h K ↔ wp d 10 5 [some .null] (.null :: st) h K := w_any (i := 10) (pc := 4) dX1_init_4 rfl rfl
theorem dX1_init_5 : decode cX1_init 5 = .ok (.bipush 80, 2) := by decide +kernel
theorem w10_5 {d : Nat} {st : List Value} {h : xH} {K : Option Value → xH → Prop} {ls : xL} : wp d 10 5 ls st h K ↔ wp d 10 7 ls (.int 80 :: st) h K := w_bipush (i := 10) (pc := 5) dX1_init_5 (by decide)
theorem dX1_init_7 : decode cX1_init 7 = .ok (.newarray .boolean, 2) := by decide +kernel
theorem w10_7 {d : Nat} {st : List Value} {h : xH} {K : Option Value → xH → Prop} {ls : xL} {n : Int32} : wp d 10 7 ls (.int n :: st) h K ↔ ¬ n < 0 ∧ n.toNatClampNeg ≤ 1000 ∧ wp d 10 9 ls (.ref h.length :: st) (h ++ [.inl (1, n.toNatClampNeg, .inl (fun _ => 0))]) K := w_any (i := 10) (pc := 7) dX1_init_7 rfl rfl
theorem dX1_init_9 : decode cX1_init 9 = .ok (.putfield 9, 3) := by decide +kernel
theorem w10_9 {d : Nat} {st : List Value} {h : xH} {K : Option Value → xH → Prop} {ls : xL} {x : Nat} {a : Nat} : wp d 10 9 ls (.ref x :: .ref a :: st) h K ↔ y_put h a 2 0 (.ref x) (fun h1 => wp d 10 12 ls st h1 K) := w_put (i := 10) (pc := 9) dX1_init_9 rfl trivial (Or.inr ⟨rfl, by decide, rfl⟩)
theorem dX1_init_12 : decode cX1_init 12 = .ok (.return_, 1) := by decide +kernel
theorem w10_12 {d : Nat} {h : xH} {K : Option Value → xH → Prop} {ls : xL} : wp d 10 12 ls [] h K ↔ K none h := w_vret (i := 10) (pc := 12) dX1_init_12 rfl
theorem dX1_isOn_0 : decode cX1_isOn 0 = .ok (.iload_n 1, 1) := by decide +kernel
theorem w11_0 {d : Nat} {st : List Value} {h : xH} {K : Option Value → xH → Prop} {l0 : Option Value} {x : Int32} : wp d 11 0 [l0, some (.int x)] st h K ↔ wp d 11 1 [l0, some (.int x)] (.int x :: st) h K := w_any (i := 11) (pc := 0) dX1_isOn_0 rfl rfl
theorem dX1_isOn_1 : decode cX1_isOn 1 = .ok (.ifCond .lt 25, 3) := by decide +kernel
theorem w11_1 {d : Nat} {st : List Value} {h : xH} {K : Option Value → xH → Prop} {ls : xL} {x : Int32} : wp d 11 1 ls (.int x :: st) h K ↔ ((x < 0) → wp d 11 26 ls st h K) ∧ ((¬ (x < 0)) → wp d 11 4 ls st h K) := w_if1 (i := 11) (pc := 1) (cd := .lt) (off := 25) (tgt := 26) dX1_isOn_1 (by decide) rfl
theorem dX1_isOn_4 : decode cX1_isOn 4 = .ok (.iload_n 1, 1) := by decide +kernel
theorem w11_4 {d : Nat} {st : List Value} {h : xH} {K : Option Value → xH → Prop} {l0 : Option Value} {x : Int32} : wp d 11 4 [l0, some (.int x)] st h K ↔ wp d 11 5 [l0, some (.int x)] (.int x :: st) h K := w_any (i := 11) (pc := 4) dX1_isOn_4 rfl rfl
theorem dX1_isOn_5 : decode cX1_isOn 5 = .ok (.aload_n 0, 1) := by decide +kernel
theorem w11_5 {d : Nat} {st : List Value} {h : xH} {K : Option Value → xH → Prop} {l1 : Option Value} {x : Nat} : wp d 11 5 [some (.ref x), l1] st h K ↔ wp d 11 6 [some (.ref x), l1] (.ref x :: st) h K := w_any (i := 11) (pc := 5) dX1_isOn_5 rfl rfl
theorem w11_5n {d : Nat} {st : List Value} {h : xH} {K : Option Value → xH → Prop} {l1 : Option Value} : wp d 11 5 [some .null, l1] st h K ↔ wp d 11 6 [some .null, l1] (.null :: st) h K := w_any (i := 11) (pc := 5) dX1_isOn_5 rfl rfl
theorem dX1_isOn_6 : decode cX1_isOn 6 = .ok (.getfield 9, 3) := by decide +kernel
theorem w11_6 {d : Nat} {st : List Value} {h : xH} {K : Option Value → xH → Prop} {ls : xL} {a : Nat} : wp d 11 6 ls (.ref a :: st) h K ↔ y_get h a 2 0 (fun v => wp d 11 9 ls (v :: st) h K) := w_get (i := 11) (pc := 6) dX1_isOn_6 rfl
theorem dX1_isOn_9 : decode cX1_isOn 9 = .ok (.arraylength, 1) := by decide +kernel
theorem w11_9 {d : Nat} {st : List Value} {h : xH} {K : Option Value → xH → Prop} {ls : xL} {a : Nat} : wp d 11 9 ls (.ref a :: st) h K ↔ y_alen h a (fun v => wp d 11 10 ls (.int v :: st) h K) := w_alen (i := 11) (pc := 9) dX1_isOn_9
theorem dX1_isOn_10 : decode cX1_isOn 10 = .ok (.if_icmp .ge 16, 3) := by decide +kernel
theorem w11_10 {d : Nat} {st : List Value} {h : xH} {K : Option Value → xH → Prop} {ls : xL} {x y : Int32} : wp d 11 10 ls (.int y :: .int x :: st) h K ↔ ((y ≤ x) → wp d 11 26 ls st h K) ∧ ((¬ (y ≤ x)) → wp d 11 13 ls st h K) := w_if2 (i := 11) (pc := 10) (cd := .ge) (off := 16) (tgt := 26) dX1_isOn_10 (by decide) rfl
theorem dX1_isOn_13 : decode cX1_isOn 13 = .ok (.aload_n 0, 1) := by decide +kernel
theorem w11_13 {d : Nat} {st : List Value} {h : xH} {K : Option Value → xH → Prop} {l1 : Option Value} {x : Nat} : wp d 11 13 [some (.ref x), l1] st h K ↔ wp d 11 14 [some (.ref x), l1] (.ref x :: st) h K := w_any (i := 11) (pc := 13) dX1_isOn_13 rfl rfl
theorem w11_13n {d : Nat} {st : List Value} {h : xH} {K : Option Value → xH → Prop} {l1 : Option Value} : wp d 11 13 [some .null, l1] st h K ↔ wp d 11 14 [some .null, l1] (.null :: st) h K := w_any (i := 11) (pc := 13) dX1_isOn_13 rfl rfl
theorem dX1_isOn_14 : decode cX1_isOn 14 = .ok (.getfield 9, 3) := by decide +kernel
theorem w11_14 {d : Nat} {st : List Value} {h : xH} {K : Option Value → xH → Prop} {ls : xL} {a : Nat} : wp d 11 14 ls (.ref a :: st) h K ↔ y_get h a 2 0 (fun v => wp d 11 17 ls (v :: st) h K) := w_get (i := 11) (pc := 14) dX1_isOn_14 rfl
theorem dX1_isOn_17 : decode cX1_isOn 17 = .ok (.iload_n 1, 1) := by decide +kernel
theorem w11_17 {d : Nat} {st : List Value} {h : xH} {K : Option Value → xH → Prop} {l0 : Option Value} {x : Int32} : wp d 11 17 [l0, some (.int x)] st h K ↔ wp d 11 18 [l0, some (.int x)] (.int x :: st) h K := w_any (i := 11) (pc := 17) dX1_isOn_17 rfl rfl
theorem dX1_isOn_18 : decode cX1_isOn 18 = .ok (.baload, 1) := by decide +kernel
theorem w11_18 {d : Nat} {st : List Value} {h : xH} {K : Option Value → xH → Prop} {ls : xL} {a : Nat} {x : Int32} : wp d 11 18 ls (.int x :: .ref a :: st) h K ↔ y_zald h a x (fun v => wp d 11 19 ls (.int v :: st) h K) := w_zald (i := 11) (pc := 18) dX1_isOn_18
theorem dX1_isOn_19 : decode cX1_isOn 19 = .ok (.ifCond .eq 7, 3) := by decide +kernel
theorem w11_19 {d : Nat} {st : List Value} {h : xH} {K : Option Value → xH → Prop} {ls : xL} {x : Int32} : wp d 11 19 ls (.int x :: st) h K ↔ ((x = 0) → wp d 11 26 ls st h K) ∧ ((¬ (x = 0)) → wp d 11 22 ls st h K) := w_if1 (i := 11) (pc := 19) (cd := .eq) (off := 7) (tgt := 26) dX1_isOn_19 (by decide) rfl
theorem dX1_isOn_22 : decode cX1_isOn 22 = .ok (.iconst 1, 1) := by decide +kernel
theorem w11_22 {d : Nat} {st : List Value} {h : xH} {K : Option Value → xH → Prop} {ls : xL} : wp d 11 22 ls st h K ↔ wp d 11 23 ls (.int 1 :: st) h K := w_iconst (i := 11) (pc := 22) dX1_isOn_22 (by decide)
theorem dX1_isOn_23 : decode cX1_isOn 23 = .ok (.goto 4, 3) := by decide +kernel
theorem w11_23 {d : Nat} {st : List Value} {h : xH} {K : Option Value → xH → Prop} {ls : xL} : wp d 11 23 ls st h K ↔ wp d 11 27 ls st h K := w_goto (i := 11) (pc := 23) dX1_isOn_23 (by decide) rfl
theorem dX1_isOn_26 : decode cX1_isOn 26 = .ok (.iconst 0, 1) := by decide +kernel
theorem w11_26 {d : Nat} {st : List Value} {h : xH} {K : Option Value → xH → Prop} {ls : xL} : wp d 11 26 ls st h K ↔ wp d 11 27 ls (.int 0 :: st) h K := w_iconst (i := 11) (pc := 26) dX1_isOn_26 (by decide)
theorem dX1_isOn_27 : decode cX1_isOn 27 = .ok (.ireturn, 1) := by decide +kernel
theorem w11_27 {d : Nat} {h : xH} {K : Option Value → xH → Prop} {ls : xL} {x : Int32} : wp d 11 27 ls [.int x] h K ↔ y_bool x ∧ K (some (.int x)) h := w_zret (i := 11) (pc := 27) dX1_isOn_27 rfl
theorem dX1_mark_0 : decode cX1_mark 0 = .ok (.iload_n 1, 1) := by decide +kernel
theorem w12_0 {d : Nat} {st : List Value} {h : xH} {K : Option Value → xH → Prop} {l0 l2 : Option Value} {x : Int32} : wp d 12 0 [l0, some (.int x), l2] st h K ↔ wp d 12 1 [l0, some (.int x), l2] (.int x :: st) h K := w_any (i := 12) (pc := 0) dX1_mark_0 rfl rfl
theorem dX1_mark_1 : decode cX1_mark 1 = .ok (.ifCond .lt 22, 3) := by decide +kernel
theorem w12_1 {d : Nat} {st : List Value} {h : xH} {K : Option Value → xH → Prop} {ls : xL} {x : Int32} : wp d 12 1 ls (.int x :: st) h K ↔ ((x < 0) → wp d 12 23 ls st h K) ∧ ((¬ (x < 0)) → wp d 12 4 ls st h K) := w_if1 (i := 12) (pc := 1) (cd := .lt) (off := 22) (tgt := 23) dX1_mark_1 (by decide) rfl
theorem dX1_mark_4 : decode cX1_mark 4 = .ok (.iload_n 1, 1) := by decide +kernel
theorem w12_4 {d : Nat} {st : List Value} {h : xH} {K : Option Value → xH → Prop} {l0 l2 : Option Value} {x : Int32} : wp d 12 4 [l0, some (.int x), l2] st h K ↔ wp d 12 5 [l0, some (.int x), l2] (.int x :: st) h K := w_any (i := 12) (pc := 4) dX1_mark_4 rfl rfl
theorem dX1_mark_5 : decode cX1_mark 5 = .ok (.aload_n 0, 1) := by decide +kernel
theorem w12_5 {d : Nat} {st : List Value} {h : xH} {K : Option Value → xH → Prop} {l1 l2 : Option Value} {x : Nat} : wp d 12 5 [some (.ref x), l1, l2] st h K ↔ wp d 12 6 [some (.ref x), l1, l2] (.ref x :: st) h K := w_any (i := 12) (pc := 5) dX1_mark_5 rfl rfl
theorem w12_5n {d : Nat} {st : List Value} {h : xH} {K : Option Value → xH → Prop} {l1 l2 : Option Value} : wp d 12 5 [some .null, l1, l2] st h K ↔ wp d 12 6 [some .null, l1, l2] (.null :: st) h K := w_any (i := 12) (pc := 5) dX1_mark_5 rfl rfl
theorem dX1_mark_6 : decode cX1_mark 6 = .ok (.getfield 9, 3) := by decide +kernel
theorem w12_6 {d : Nat} {st : List Value} {h : xH} {K : Option Value → xH → Prop} {ls : xL} {a : Nat} : wp d 12 6 ls (.ref a :: st) h K ↔ y_get h a 2 0 (fun v => wp d 12 9 ls (v :: st) h K) := w_get (i := 12) (pc := 6) dX1_mark_6 rfl
theorem dX1_mark_9 : decode cX1_mark 9 = .ok (.arraylength, 1) := by decide +kernel
theorem w12_9 {d : Nat} {st : List Value} {h : xH} {K : Option Value → xH → Prop} {ls : xL} {a : Nat} : wp d 12 9 ls (.ref a :: st) h K ↔ y_alen h a (fun v => wp d 12 10 ls (.int v :: st) h K) := w_alen (i := 12) (pc := 9) dX1_mark_9
theorem dX1_mark_10 : decode cX1_mark 10 = .ok (.if_icmp .ge 13, 3) := by decide +kernel
theorem w12_10 {d : Nat} {st : List Value} {h : xH} {K : Option Value → xH → Prop} {ls : xL} {x y : Int32} : wp d 12 10 ls (.int y :: .int x :: st) h K ↔ ((y ≤ x) → wp d 12 23 ls st h K) ∧ ((¬ (y ≤ x)) → wp d 12 13 ls st h K) := w_if2 (i := 12) (pc := 10) (cd := .ge) (off := 13) (tgt := 23) dX1_mark_10 (by decide) rfl
theorem dX1_mark_13 : decode cX1_mark 13 = .ok (.aload_n 0, 1) := by decide +kernel
theorem w12_13 {d : Nat} {st : List Value} {h : xH} {K : Option Value → xH → Prop} {l1 l2 : Option Value} {x : Nat} : wp d 12 13 [some (.ref x), l1, l2] st h K ↔ wp d 12 14 [some (.ref x), l1, l2] (.ref x :: st) h K := w_any (i := 12) (pc := 13) dX1_mark_13 rfl rfl
theorem w12_13n {d : Nat} {st : List Value} {h : xH} {K : Option Value → xH → Prop} {l1 l2 : Option Value} : wp d 12 13 [some .null, l1, l2] st h K ↔ wp d 12 14 [some .null, l1, l2] (.null :: st) h K := w_any (i := 12) (pc := 13) dX1_mark_13 rfl rfl
theorem dX1_mark_14 : decode cX1_mark 14 = .ok (.getfield 9, 3) := by decide +kernel
theorem w12_14 {d : Nat} {st : List Value} {h : xH} {K : Option Value → xH → Prop} {ls : xL} {a : Nat} : wp d 12 14 ls (.ref a :: st) h K ↔ y_get h a 2 0 (fun v => wp d 12 17 ls (v :: st) h K) := w_get (i := 12) (pc := 14) dX1_mark_14 rfl
theorem dX1_mark_17 : decode cX1_mark 17 = .ok (.iload_n 1, 1) := by decide +kernel
theorem w12_17 {d : Nat} {st : List Value} {h : xH} {K : Option Value → xH → Prop} {l0 l2 : Option Value} {x : Int32} : wp d 12 17 [l0, some (.int x), l2] st h K ↔ wp d 12 18 [l0, some (.int x), l2] (.int x :: st) h K := w_any (i := 12) (pc := 17) dX1_mark_17 rfl rfl
theorem dX1_mark_18 : decode cX1_mark 18 = .ok (.baload, 1) := by decide +kernel
theorem w12_18 {d : Nat} {st : List Value} {h : xH} {K : Option Value → xH → Prop} {ls : xL} {a : Nat} {x : Int32} : wp d 12 18 ls (.int x :: .ref a :: st) h K ↔ y_zald h a x (fun v => wp d 12 19 ls (.int v :: st) h K) := w_zald (i := 12) (pc := 18) dX1_mark_18
theorem dX1_mark_19 : decode cX1_mark 19 = .ok (.iload_n 2, 1) := by decide +kernel
theorem w12_19 {d : Nat} {st : List Value} {h : xH} {K : Option Value → xH → Prop} {l0 l1 : Option Value} {x : Int32} : wp d 12 19 [l0, l1, some (.int x)] st h K ↔ wp d 12 20 [l0, l1, some (.int x)] (.int x :: st) h K := w_any (i := 12) (pc := 19) dX1_mark_19 rfl rfl
theorem dX1_mark_20 : decode cX1_mark 20 = .ok (.if_icmp .ne 5, 3) := by decide +kernel
theorem w12_20 {d : Nat} {st : List Value} {h : xH} {K : Option Value → xH → Prop} {ls : xL} {x y : Int32} : wp d 12 20 ls (.int y :: .int x :: st) h K ↔ ((¬ x = y) → wp d 12 25 ls st h K) ∧ ((x = y) → wp d 12 23 ls st h K) := (w_if2 (i := 12) (pc := 20) (cd := .ne) (off := 5) (tgt := 25) dX1_mark_20 (by decide) rfl).trans (and_congr Iff.rfl (imp_congr Classical.not_not Iff.rfl))
theorem dX1_mark_23 : decode cX1_mark 23 = .ok (.iconst 0, 1) := by decide +kernel
theorem w12_23 {d : Nat} {st : List Value} {h : xH} {K : Option Value → xH → Prop} {ls : xL} : wp d 12 23 ls st h K ↔ wp d 12 24 ls (.int 0 :: st) h K := w_iconst (i := 12) (pc := 23) dX1_mark_23 (by decide)
theorem dX1_mark_24 : decode cX1_mark 24 = .ok (.ireturn, 1) := by decide +kernel
theorem w12_24 {d : Nat} {h : xH} {K : Option Value → xH → Prop} {ls : xL} {x : Int32} : wp d 12 24 ls [.int x] h K ↔ y_bool x ∧ K (some (.int x)) h := w_zret (i := 12) (pc := 24) dX1_mark_24 rfl
theorem dX1_mark_25 : decode cX1_mark 25 = .ok (.aload_n 0, 1) := by decide +kernel
theorem w12_25 {d : Nat} {st : List Value} {h : xH} {K : Option Value → xH → Prop} {l1 l2 : Option Value} {x : Nat} : wp d 12 25 [some (.ref x), l1, l2] st h K ↔ wp d 12 26 [some (.ref x), l1, l2] (.ref x :: st) h K := w_any (i := 12) (pc := 25) dX1_mark_25 rfl rfl
theorem w12_25n {d : Nat} {st : List Value} {h : xH} {K : Option Value → xH → Prop} {l1 l2 : Option Value} : wp d 12 25 [some .null, l1, l2] st h K ↔ wp d 12 26 [some .null, l1, l2] (.null :: st) h K := w_any (i := 12) (pc := 25) dX1_mark_25 rfl rfl
theorem dX1_mark_26 : decode cX1_mark 26 = .ok (.getfield 9, 3) := by decide +kernel
theorem w12_26 {d : Nat} {st : List Value} {h : xH} {K : Option Value → xH → Prop} {ls : xL} {a : Nat} : wp d 12 26 ls (.ref a :: st) h K ↔ y_get h a 2 0 (fun v => wp d 12 29 ls (v :: st) h K) := w_get (i := 12) (pc := 26) dX1_mark_26 rfl
theorem dX1_mark_29 : decode cX1_mark 29 = .ok (.iload_n 1, 1) := by decide +kernel
theorem w12_29 {d : Nat} {st : List Value} {h : xH} {K : Option Value → xH → Prop} {l0 l2 : Option Value} {x : Int32} : wp d 12 29 [l0, some (.int x), l2] st h K ↔ wp d 12 30 [l0, some (.int x), l2] (.int x :: st) h K := w_any (i := 12) (pc := 29) dX1_mark_29 rfl rfl
theorem dX1_mark_30 : decode cX1_mark 30 = .ok (.iload_n 2, 1) := by decide +kernel
theorem w12_30 {d : Nat} {st : List Value} {h : xH} {K : Option Value → xH → Prop} {l0 l1 : Option Value} {x : Int32} : wp d 12 30 [l0, l1, some (.int x)] st h K ↔ wp d 12 31 [l0, l1, some (.int x)] (.int x :: st) h K := w_any (i := 12) (pc := 30) dX1_mark_30 rfl rfl
theorem dX1_mark_31 : decode cX1_mark 31 = .ok (.bastore, 1) := by decide +kernel
theorem w12_31 {d : Nat} {st : List Value} {h : xH} {K : Option Value → xH → Prop} {ls : xL} {a : Nat} {x v : Int32} : wp d 12 31 ls (.int v :: .int x :: .ref a :: st) h K ↔ y_zast h a x v (fun h1 => wp d 12 32 ls st h1 K) := w_zast (i := 12) (pc := 31) dX1_mark_31
theorem dX1_mark_32 : decode cX1_mark 32 = .ok (.iconst 1, 1) := by decide +kernel
theorem w12_32 {d : Nat} {st : List Value} {h : xH} {K : Option Value → xH → Prop} {ls : xL} : wp d 12 32 ls st h K ↔ wp d 12 33 ls (.int 1 :: st) h K := w_iconst (i := 12) (pc := 32) dX1_mark_32 (by decide)
theorem dX1_mark_33 : decode cX1_mark 33 = .ok (.ireturn, 1) := by decide +kernel
theorem w12_33 {d : Nat} {h : xH} {K : Option Value → xH → Prop} {ls : xL} {x : Int32} : wp d 12 33 ls [.int x] h K ↔ y_bool x ∧ K (some (.int x)) h := w_zret (i := 12) (pc := 33) dX1_mark_33 rfl
theorem dX1_clear_0 : decode cX1_clear 0 = .ok (.iconst 0, 1) := by decide +kernel
theorem w13_0 {d : Nat} {st : List Value} {h : xH} {K : Option Value → xH → Prop} {ls : xL} : wp d 13 0 ls st h K ↔ wp d 13 1 ls (.int 0 :: st) h K := w_iconst (i := 13) (pc := 0) dX1_clear_0 (by decide)
theorem dX1_clear_1 : decode cX1_clear 1 = .ok (.istore_n 1, 1) := by decide +kernel
theorem w13_1 {d : Nat} {st : List Value} {h : xH} {K : Option Value → xH → Prop} {l0 l1 : Option Value} {x : Int32} : wp d 13 1 [l0, l1] (.int x :: st) h K ↔ wp d 13 2 [xk l0, some (.int x)] st h K := w_istore_n (i := 13) (pc := 1) dX1_clear_1 (Nat.le_of_ble_eq_true rfl) (show xst1 [l0, l1] 1 (.int x) = [xk l0, some (.int x)] by simp only [xst1_0, xst1_1, xst1_s, Nat.reduceAdd])
theorem dX1_clear_2 : decode cX1_clear 2 = .ok (.iload_n 1, 1) := by decide +kernel
theorem w13_2 {d : Nat} {st : List Value} {h : xH} {K : Option Value → xH → Prop} {l0 : Option Value} {x : Int32} : wp d 13 2 [l0, some (.int x)] st h K ↔ wp d 13 3 [l0, some (.int x)] (.int x :: st) h K := w_any (i := 13) (pc := 2) dX1_clear_2 rfl rfl
theorem dX1_clear_3 : decode cX1_clear 3 = .ok (.aload_n 0, 1) := by decide +kernel
theorem w13_3 {d : Nat} {st : List Value} {h : xH} {K : Option Value → xH → Prop} {l1 : Option Value} {x : Nat} : wp d 13 3 [some (.ref x), l1] st h K ↔ wp d 13 4 [some (.ref x), l1] (.ref x :: st) h K := w_any (i := 13) (pc := 3) dX1_clear_3 rfl rfl
theorem w13_3n {d : Nat} {st : List Value} {h : xH} {K : Option Value → xH → Prop} {l1 : Option Value} : wp d 13 3 [some .null, l1] st h K ↔ wp d 13 4 [some .null, l1] (.null :: st) h K := w_any (i := 13) (pc := 3) dX1_clear_3 rfl rfl
theorem dX1_clear_4 : decode cX1_clear 4 = .ok (.getfield 9, 3) := by decide +kernel
theorem w13_4 {d : Nat} {st : List Value} {h : xH} {K : Option Value → xH → Prop} {ls : xL} {a : Nat} : wp d 13 4 ls (.ref a :: st) h K ↔ y_get h a 2 0 (fun v => wp d 13 7 ls (v :: st) h K) := w_get (i := 13) (pc := 4) dX1_clear_4 rfl
theorem dX1_clear_7 : decode cX1_clear 7 = .ok (.arraylength, 1) := by decide +kernel
theorem w13_7 {d : Nat} {st : List Value} {h : xH} {K : Option Value → xH → Prop} {ls : xL} {a : Nat} : wp d 13 7 ls (.ref a :: st) h K ↔ y_alen h a (fun v => wp d 13 8 ls (.int v :: st) h K) := w_alen (i := 13) (pc := 7) dX1_clear_7
theorem dX1_clear_8 : decode cX1_clear 8 = .ok (.if_icmp .ge 16, 3) := by decide +kernel
theorem w13_8 {d : Nat} {st : List Value} {h : xH} {K : Option Value → xH → Prop} {ls : xL} {x y : Int32} : wp d 13 8 ls (.int y :: .int x :: st) h K ↔ ((y ≤ x) → wp d 13 24 ls st h K) ∧ ((¬ (y ≤ x)) → wp d 13 11 ls st h K) := w_if2 (i := 13) (pc := 8) (cd := .ge) (off := 16) (tgt := 24) dX1_clear_8 (by decide) rfl
theorem dX1_clear_11 : decode cX1_clear 11 = .ok (.aload_n 0, 1) := by decide +kernel
theorem w13_11 {d : Nat} {st : List Value} {h : xH} {K : Option Value → xH → Prop} {l1 : Option Value} {x : Nat} : wp d 13 11 [some (.ref x), l1] st h K ↔ wp d 13 12 [some (.ref x), l1] (.ref x :: st) h K := w_any (i := 13) (pc := 11) dX1_clear_11 rfl rfl
theorem w13_11n {d : Nat} {st : List Value} {h : xH} {K : Option Value → xH → Prop} {l1 : Option Value} : wp d 13 11 [some .null, l1] st h K ↔ wp d 13 12 [some .null, l1] (.null :: st) h K := w_any (i := 13) (pc := 11) dX1_clear_11 rfl rfl
theorem dX1_clear_12 : decode cX1_clear 12 = .ok (.getfield 9, 3) := by decide +kernel
theorem w13_12 {d : Nat} {st : List Value} {h : xH} {K : Option Value → xH → Prop} {ls : xL} {a : Nat} : wp d 13 12 ls (.ref a :: st) h K ↔ y_get h a 2 0 (fun v => wp d 13 15 ls (v :: st) h K) := w_get (i := 13) (pc := 12) dX1_clear_12 rfl
theorem dX1_clear_15 : decode cX1_clear 15 = .ok (.iload_n 1, 1) := by decide +kernel
theorem w13_15 {d : Nat} {st : List Value} {h : xH} {K : Option Value → xH → Prop} {l0 : Option Value} {x : Int32} : wp d 13 15 [l0, some (.int x)] st h K ↔ wp d 13 16 [l0, some (.int x)] (.int x :: st) h K := w_any (i := 13) (pc := 15) dX1_clear_15 rfl rfl
theorem dX1_clear_16 : decode cX1_clear 16 = .ok (.iconst 0, 1) := by decide +kernel
theorem w13_16 {d : Nat} {st : List Value} {h : xH} {K : Option Value → xH → Prop} {ls : xL} : wp d 13 16 ls st h K ↔ wp d 13 17 ls (.int 0 :: st) h K := w_iconst (i := 13) (pc := 16) dX1_clear_16 (by decide)
theorem dX1_clear_17 : decode cX1_clear 17 = .ok (.bastore, 1) := by decide +kernel
theorem w13_17 {d : Nat} {st : List Value} {h : xH} {K : Option Value → xH → Prop} {ls : xL} {a : Nat} {x v : Int32} : wp d 13 17 ls (.int v :: .int x :: .ref a :: st) h K ↔ y_zast h a x v (fun h1 => wp d 13 18 ls st h1 K) := w_zast (i := 13) (pc := 17) dX1_clear_17
theorem dX1_clear_18 : decode cX1_clear 18 = .ok (.iinc 1 1, 3) := by decide +kernel
theorem w13_18 {d : Nat} {st : List Value} {h : xH} {K : Option Value → xH → Prop} {l0 : Option Value} {x : Int32} : wp d 13 18 [l0, some (.int x)] st h K ↔ wp d 13 21 [xk l0, some (.int (x + 1))] st h K := w_iinc (i := 13) (pc := 18) dX1_clear_18 rfl (Nat.le_of_ble_eq_true rfl) (by decide) (show xst1 [l0, some (.int x)] 1 (.int (x + 1)) = [xk l0, some (.int (x + 1))] by simp only [xst1_0, xst1_1, xst1_s, Nat.reduceAdd])
theorem dX1_clear_21 : decode cX1_clear 21 = .ok (.goto (-19), 3) := by decide +kernel
theorem w13_21 {d : Nat} {st : List Value} {h : xH} {K : Option Value → xH → Prop} {ls : xL} : wp d 13 21 ls st h K ↔ wp d 13 2 ls st h K := w_goto (i := 13) (pc := 21) dX1_clear_21 (by decide) rfl
theorem dX1_clear_24 : decode cX1_clear 24 = .ok (.return_, 1) := by decide +kernel
theorem w13_24 {d : Nat} {h : xH} {K : Option Value → xH → Prop} {ls : xL} : wp d 13 24 ls [] h K ↔ K none h := w_vret (i := 13) (pc := 24) dX1_clear_24 rfl
theorem dX1_movesOn_0 : decode cX1_movesOn 0 = .ok (.iconst 0, 1) := by decide +kernel
theorem w14_0 {d : Nat} {st : List Value} {h : xH} {K : Option Value → xH → Prop} {ls : xL} : wp d 14 0 ls st h K ↔ wp d 14 1 ls (.int 0 :: st) h K := w_iconst (i := 14) (pc := 0) dX1_movesOn_0 (by decide)
theorem dX1_movesOn_1 : decode cX1_movesOn 1 = .ok (.istore_n 3, 1) := by decide +kernel
theorem w14_1 {d : Nat} {st : List Value} {h : xH} {K : Option Value → xH → Prop} {l0 l1 l2 l3 l4 : Option Value} {x : Int32} : wp d 14 1 [l0, l1, l2, l3, l4] (.int x :: st) h K ↔ wp d 14 2 [l0, l1, xk l2, some (.int x), l4] st h K := w_istore_n (i := 14) (pc := 1) dX1_movesOn_1 (Nat.le_of_ble_eq_true rfl) (show xst1 [l0, l1, l2, l3, l4] 3 (.int x) = [l0, l1, xk l2, some (.int x), l4] by simp only [xst1_0, xst1_1, xst1_s, Nat.reduceAdd])
theorem dX1_movesOn_2 : decode cX1_movesOn 2 = .ok (.iload_n 1, 1) := by decide +kernel
theorem w14_2 {d : Nat} {st : List Value} {h : xH} {K : Option Value → xH → Prop} {l0 l2 l3 l4 : Option Value} {x : Int32} : wp d 14 2 [l0, some (.int x), l2, l3, l4] st h K ↔ wp d 14 3 [l0, some (.int x), l2, l3, l4] (.int x :: st) h K := w_any (i := 14) (pc := 2) dX1_movesOn_2 rfl rfl
theorem dX1_movesOn_3 : decode cX1_movesOn 3 = .ok (.istore 4, 2) := by decide +kernel
theorem w14_3 {d : Nat} {st : List Value} {h : xH} {K : Option Value → xH → Prop} {l0 l1 l2 l3 l4 : Option Value} {x : Int32} : wp d 14 3 [l0, l1, l2, l3, l4] (.int x :: st) h K ↔ wp d 14 5 [l0, l1, l2, xk l3, some (.int x)] st h K := w_istore (i := 14) (pc := 3) dX1_movesOn_3 (Nat.le_of_ble_eq_true rfl) (show xst1 [l0, l1, l2, l3, l4] 4 (.int x) = [l0, l1, l2, xk l3, some (.int x)] by simp only [xst1_0, xst1_1, xst1_s, Nat.reduceAdd])
theorem dX1_movesOn_5 : decode cX1_movesOn 5 = .ok (.iload 4, 2) := by decide +kernel
theorem w14_5 {d : Nat} {st : List Value} {h : xH} {K : Option Value → xH → Prop} {l0 l1 l2 l3 : Option Value} {x : Int32} : wp d 14 5 [l0, l1, l2, l3, some (.int x)] st h K ↔ wp d 14 7 [l0, l1, l2, l3, some (.int x)] (.int x :: st) h K := w_any (i := 14) (pc := 5) dX1_movesOn_5 rfl rfl
theorem dX1_movesOn_7 : decode cX1_movesOn 7 = .ok (.iload_n 2, 1) := by decide +kernel
theorem w14_7 {d : Nat} {st : List Value} {h : xH} {K : Option Value → xH → Prop} {l0 l1 l3 l4 : Option Value} {x : Int32} : wp d 14 7 [l0, l1, some (.int x), l3, l4] st h K ↔ wp d 14 8 [l0, l1, some (.int x), l3, l4] (.int x :: st) h K := w_any (i := 14) (pc := 7) dX1_movesOn_7 rfl rfl
theorem dX1_movesOn_8 : decode cX1_movesOn 8 = .ok (.if_icmp .gt 28, 3) := by decide +kernel
theorem w14_8 {d : Nat} {st : List Value} {h : xH} {K : Option Value → xH → Prop} {ls : xL} {x y : Int32} : wp d 14 8 ls (.int y :: .int x :: st) h K ↔ ((y < x) → wp d 14 36 ls st h K) ∧ ((¬ (y < x)) → wp d 14 11 ls st h K) := w_if2 (i := 14) (pc := 8) (cd := .gt) (off := 28) (tgt := 36) dX1_movesOn_8 (by decide) rfl
theorem dX1_movesOn_11 : decode cX1_movesOn 11 = .ok (.iload 4, 2) := by decide +kernel
theorem w14_11 {d : Nat} {st : List Value} {h : xH} {K : Option Value → xH → Prop} {l0 l1 l2 l3 : Option Value} {x : Int32} : wp d 14 11 [l0, l1, l2, l3, some (.int x)] st h K ↔ wp d 14 13 [l0, l1, l2, l3, some (.int x)] (.int x :: st) h K := w_any (i := 14) (pc := 11) dX1_movesOn_11 rfl rfl
theorem dX1_movesOn_13 : decode cX1_movesOn 13 = .ok (.bipush 80, 2) := by decide +kernel
theorem w14_13 {d : Nat} {st : List Value} {h : xH} {K : Option Value → xH → Prop} {ls : xL} : wp d 14 13 ls st h K ↔ wp d 14 15 ls (.int 80 :: st) h K := w_bipush (i := 14) (pc := 13) dX1_movesOn_13 (by decide)
theorem dX1_movesOn_15 : decode cX1_movesOn 15 = .ok (.if_icmp .ge 21, 3) := by decide +kernel
theorem w14_15 {d : Nat} {st : List Value} {h : xH} {K : Option Value → xH → Prop} {ls : xL} {x y : Int32} : wp d 14 15 ls (.int y :: .int x :: st) h K ↔ ((y ≤ x) → wp d 14 36 ls st h K) ∧ ((¬ (y ≤ x)) → wp d 14 18 ls st h K) := w_if2 (i := 14) (pc := 15) (cd := .ge) (off := 21) (tgt := 36) dX1_movesOn_15 (by decide) rfl
theorem dX1_movesOn_18 : decode cX1_movesOn 18 = .ok (.aload_n 0, 1) := by decide +kernel
theorem w14_18 {d : Nat} {st : List Value} {h : xH} {K : Option Value → xH → Prop} {l1 l2 l3 l4 : Option Value} {x : Nat} : wp d 14 18 [some (.ref x), l1, l2, l3, l4] st h K ↔ wp d 14 19 [some (.ref x), l1, l2, l3, l4] (.ref x :: st) h K := w_any (i := 14) (pc := 18) dX1_movesOn_18 rfl rfl
theorem w14_18n {d : Nat} {st : List Value} {h : xH} {K : Option Value → xH → Prop} {l1 l2 l3 l4 : Option Value} : wp d 14 18 [some .null, l1, l2, l3, l4] st h K ↔ wp d 14 19 [some .null, l1, l2, l3, l4] (.null :: st) h K := w_any (i := 14) (pc := 18) dX1_movesOn_18 rfl rfl
theorem dX1_movesOn_19 : decode cX1_movesOn 19 = .ok (.iload 4, 2) := by decide +kernel
theorem w14_19 {d : Nat} {st : List Value} {h : xH} {K : Option Value → xH → Prop} {l0 l1 l2 l3 : Option Value} {x : Int32} : wp d 14 19 [l0, l1, l2, l3, some (.int x)] st h K ↔ wp d 14 21 [l0, l1, l2, l3, some (.int x)] (.int x :: st) h K := w_any (i := 14) (pc := 19) dX1_movesOn_19 rfl rfl
theorem dX1_movesOn_21 : decode cX1_movesOn 21 = .ok (.invokevirtual 15, 3) := by decide +kernel
theorem w14_21 {d : Nat} {st : List Value} {h : xH} {K : Option Value → xH → Prop} {ls : xL} {a0 : Int32} {b : Nat} : wp (d + 1) 14 21 ls (.int a0 :: .ref b :: st) h K ↔ y_cls h b 2 ∧ xcs st ≤ 8 ∧ wp d 11 0 [some (.ref b), some (.int a0)] [] h (fun v h1 => wp (d + 1) 14 24 ls (v.toList ++ st) h1 K) := w_callW (i := 14) (pc := 21) (as := [.int a0]) (rest := st) dX1_movesOn_21 rfl (by decide) rfl rfl (by decide) rfl rfl rfl rfl
theorem dX1_movesOn_24 : decode cX1_movesOn 24 = .ok (.ifCond .ne 6, 3) := by decide +kernel
theorem w14_24 {d : Nat} {st : List Value} {h : xH} {K : Option Value → xH → Prop} {ls : xL} {x : Int32} : wp d 14 24 ls (.int x :: st) h K ↔ ((¬ x = 0) → wp d 14 30 ls st h K) ∧ ((x = 0) → wp d 14 27 ls st h K) := (w_if1 (i := 14) (pc := 24) (cd := .ne) (off := 6) (tgt := 30) dX1_movesOn_24 (by decide) rfl).trans (and_congr Iff.rfl (imp_congr Classical.not_not Iff.rfl))
theorem dX1_movesOn_27 : decode cX1_movesOn 27 = .ok (.iinc 3 1, 3) := by decide +kernel
theorem w14_27 {d : Nat} {st : List Value} {h : xH} {K : Option Value → xH → Prop} {l0 l1 l2 l4 : Option Value} {x : Int32} : wp d 14 27 [l0, l1, l2, some (.int x), l4] st h K ↔ wp d 14 30 [l0, l1, xk l2, some (.int (x + 1)), l4] st h K := w_iinc (i := 14) (pc := 27) dX1_movesOn_27 rfl (Nat.le_of_ble_eq_true rfl) (by decide) (show xst1 [l0, l1, l2, some (.int x), l4] 3 (.int (x + 1)) = [l0, l1, xk l2, some (.int (x + 1)), l4] by simp only [xst1_0, xst1_1, xst1_s, Nat.reduceAdd])
theorem dX1_movesOn_30 : decode cX1_movesOn 30 = .ok (.iinc 4 1, 3) := by decide +kernel
theorem w14_30 {d : Nat} {st : List Value} {h : xH} {K : Option Value → xH → Prop} {l0 l1 l2 l3 : Option Value} {x : Int32} : wp d 14 30 [l0, l1, l2, l3, some (.int x)] st h K ↔ wp d 14 33 [l0, l1, l2, xk l3, some (.int (x + 1))] st h K := w_iinc (i := 14) (pc := 30) dX1_movesOn_30 rfl (Nat.le_of_ble_eq_true rfl) (by decide) (show xst1 [l0, l1, l2, l3, some (.int x)] 4 (.int (x + 1)) = [l0, l1, l2, xk l3, some (.int (x + 1))] by simp only [xst1_0, xst1_1, xst1_s, Nat.reduceAdd])
theorem dX1_movesOn_33 : decode cX1_movesOn 33 = .ok (.goto (-28), 3) := by decide +kernel
theorem w14_33 {d : Nat} {st : List Value} {h : xH} {K : Option Value → xH → Prop} {ls : xL} : wp d 14 33 ls st h K ↔ wp d 14 5 ls st h K := w_goto (i := 14) (pc := 33) dX1_movesOn_33 (by decide) rfl
theorem dX1_movesOn_36 : decode cX1_movesOn 36 = .ok (.iload_n 3, 1) := by decide +kernel
theorem w14_36 {d : Nat} {st : List Value} {h : xH} {K : Option Value → xH → Prop} {l0 l1 l2 l4 : Option Value} {x : Int32} : wp d 14 36 [l0, l1, l2, some (.int x), l4] st h K ↔ wp d 14 37 [l0, l1, l2, some (.int x), l4] (.int x :: st) h K := w_any (i := 14) (pc := 36) dX1_movesOn_36 rfl rfl
theorem dX1_movesOn_37 : decode cX1_movesOn 37 = .ok (.ireturn, 1) := by decide +kernel
theorem w14_37 {d : Nat} {h : xH} {K : Option Value → xH → Prop} {ls : xL} {x : Int32} : wp d 14 37 ls [.int x] h K ↔ K (some (.int x)) h := w_iret (i := 14) (pc := 37) dX1_movesOn_37 rfl
theorem dX1_dayOfMove_0 : decode cX1_dayOfMove 0 = .ok (.iload_n 1, 1) := by decide +kernel
theorem w15_0 {d : Nat} {st : List Value} {h : xH} {K : Option Value → xH → Prop} {l0 l2 l3 : Option Value} {x : Int32} : wp d 15 0 [l0, some (.int x), l2, l3] st h K ↔ wp d 15 1 [l0, some (.int x), l2, l3] (.int x :: st) h K := w_any (i := 15) (pc := 0) dX1_dayOfMove_0 rfl rfl
theorem dX1_dayOfMove_1 : decode cX1_dayOfMove 1 = .ok (.istore_n 2, 1) := by decide +kernel
theorem w15_1 {d : Nat} {st : List Value} {h : xH} {K : Option Value → xH → Prop} {l0 l1 l2 l3 : Option Value} {x : Int32} : wp d 15 1 [l0, l1, l2, l3] (.int x :: st) h K ↔ wp d 15 2 [l0, xk l1, some (.int x), l3] st h K := w_istore_n (i := 15) (pc := 1) dX1_dayOfMove_1 (Nat.le_of_ble_eq_true rfl) (show xst1 [l0, l1, l2, l3] 2 (.int x) = [l0, xk l1, some (.int x), l3] by simp only [xst1_0, xst1_1, xst1_s, Nat.reduceAdd])
theorem dX1_dayOfMove_2 : decode cX1_dayOfMove 2 = .ok (.iconst 0, 1) := by decide +kernel
theorem w15_2 {d : Nat} {st : List Value} {h : xH} {K : Option Value → xH → Prop} {ls : xL} : wp d 15 2 ls st h K ↔ wp d 15 3 ls (.int 0 :: st) h K := w_iconst (i := 15) (pc := 2) dX1_dayOfMove_2 (by decide)
theorem dX1_dayOfMove_3 : decode cX1_dayOfMove 3 = .ok (.istore_n 3, 1) := by decide +kernel
theorem w15_3 {d : Nat} {st : List Value} {h : xH} {K : Option Value → xH → Prop} {l0 l1 l2 l3 : Option Value} {x : Int32} : wp d 15 3 [l0, l1, l2, l3] (.int x :: st) h K ↔ wp d 15 4 [l0, l1, xk l2, some (.int x)] st h K := w_istore_n (i := 15) (pc := 3) dX1_dayOfMove_3 (Nat.le_of_ble_eq_true rfl) (show xst1 [l0, l1, l2, l3] 3 (.int x) = [l0, l1, xk l2, some (.int x)] by simp only [xst1_0, xst1_1, xst1_s, Nat.reduceAdd])
theorem dX1_dayOfMove_4 : decode cX1_dayOfMove 4 = .ok (.iload_n 3, 1) := by decide +kernel
theorem w15_4 {d : Nat} {st : List Value} {h : xH} {K : Option Value → xH → Prop} {l0 l1 l2 : Option Value} {x : Int32} : wp d 15 4 [l0, l1, l2, some (.int x)] st h K ↔ wp d 15 5 [l0, l1, l2, some (.int x)] (.int x :: st) h K := w_any (i := 15) (pc := 4) dX1_dayOfMove_4 rfl rfl
theorem dX1_dayOfMove_5 : decode cX1_dayOfMove 5 = .ok (.bipush 80, 2) := by decide +kernel
theorem w15_5 {d : Nat} {st : List Value} {h : xH} {K : Option Value → xH → Prop} {ls : xL} : wp d 15 5 ls st h K ↔ wp d 15 7 ls (.int 80 :: st) h K := w_bipush (i := 15) (pc := 5) dX1_dayOfMove_5 (by decide)
theorem dX1_dayOfMove_7 : decode cX1_dayOfMove 7 = .ok (.if_icmp .ge 30, 3) := by decide +kernel
theorem w15_7 {d : Nat} {st : List Value} {h : xH} {K : Option Value → xH → Prop} {ls : xL} {x y : Int32} : wp d 15 7 ls (.int y :: .int x :: st) h K ↔ ((y ≤ x) → wp d 15 37 ls st h K) ∧ ((¬ (y ≤ x)) → wp d 15 10 ls st h K) := w_if2 (i := 15) (pc := 7) (cd := .ge) (off := 30) (tgt := 37) dX1_dayOfMove_7 (by decide) rfl
theorem dX1_dayOfMove_10 : decode cX1_dayOfMove 10 = .ok (.iload_n 2, 1) := by decide +kernel
theorem w15_10 {d : Nat} {st : List Value} {h : xH} {K : Option Value → xH → Prop} {l0 l1 l3 : Option Value} {x : Int32} : wp d 15 10 [l0, l1, some (.int x), l3] st h K ↔ wp d 15 11 [l0, l1, some (.int x), l3] (.int x :: st) h K := w_any (i := 15) (pc := 10) dX1_dayOfMove_10 rfl rfl
theorem dX1_dayOfMove_11 : decode cX1_dayOfMove 11 = .ok (.ifCond .lt 26, 3) := by decide +kernel
theorem w15_11 {d : Nat} {st : List Value} {h : xH} {K : Option Value → xH → Prop} {ls : xL} {x : Int32} : wp d 15 11 ls (.int x :: st) h K ↔ ((x < 0) → wp d 15 37 ls st h K) ∧ ((¬ (x < 0)) → wp d 15 14 ls st h K) := w_if1 (i := 15) (pc := 11) (cd := .lt) (off := 26) (tgt := 37) dX1_dayOfMove_11 (by decide) rfl
theorem dX1_dayOfMove_14 : decode cX1_dayOfMove 14 = .ok (.aload_n 0, 1) := by decide +kernel
theorem w15_14 {d : Nat} {st : List Value} {h : xH} {K : Option Value → xH → Prop} {l1 l2 l3 : Option Value} {x : Nat} : wp d 15 14 [some (.ref x), l1, l2, l3] st h K ↔ wp d 15 15 [some (.ref x), l1, l2, l3] (.ref x :: st) h K := w_any (i := 15) (pc := 14) dX1_dayOfMove_14 rfl rfl
theorem w15_14n {d : Nat} {st : List Value} {h : xH} {K : Option Value → xH → Prop} {l1 l2 l3 : Option Value} : wp d 15 14 [some .null, l1, l2, l3] st h K ↔ wp d 15 15 [some .null, l1, l2, l3] (.null :: st) h K := w_any (i := 15) (pc := 14) dX1_dayOfMove_14 rfl rfl
theorem dX1_dayOfMove_15 : decode cX1_dayOfMove 15 = .ok (.iload_n 3, 1) := by decide +kernel
theorem w15_15 {d : Nat} {st : List Value} {h : xH} {K : Option Value → xH → Prop} {l0 l1 l2 : Option Value} {x : Int32} : wp d 15 15 [l0, l1, l2, some (.int x)] st h K ↔ wp d 15 16 [l0, l1, l2, some (.int x)] (.int x :: st) h K := w_any (i := 15) (pc := 15) dX1_dayOfMove_15 rfl rfl
theorem dX1_dayOfMove_16 : decode cX1_dayOfMove 16 = .ok (.invokevirtual 15, 3) := by decide +kernel
theorem w15_16 {d : Nat} {st : List Value} {h : xH} {K : Option Value → xH → Prop} {ls : xL} {a0 : Int32} {b : Nat} : wp (d + 1) 15 16 ls (.int a0 :: .ref b :: st) h K ↔ y_cls h b 2 ∧ xcs st ≤ 8 ∧ wp d 11 0 [some (.ref b), some (.int a0)] [] h (fun v h1 => wp (d + 1) 15 19 ls (v.toList ++ st) h1 K) := w_callW (i := 15) (pc := 16) (as := [.int a0]) (rest := st) dX1_dayOfMove_16 rfl (by decide) rfl rfl (by decide) rfl rfl rfl rfl
theorem dX1_dayOfMove_19 : decode cX1_dayOfMove 19 = .ok (.ifCond .ne 12, 3) := by decide +kernel
theorem w15_19 {d : Nat} {st : List Value} {h : xH} {K : Option Value → xH → Prop} {ls : xL} {x : Int32} : wp d 15 19 ls (.int x :: st) h K ↔ ((¬ x = 0) → wp d 15 31 ls st h K) ∧ ((x = 0) → wp d 15 22 ls st h K) := (w_if1 (i := 15) (pc := 19) (cd := .ne) (off := 12) (tgt := 31) dX1_dayOfMove_19 (by decide) rfl).trans (and_congr Iff.rfl (imp_congr Classical.not_not Iff.rfl))
theorem dX1_dayOfMove_22 : decode cX1_dayOfMove 22 = .ok (.iload_n 2, 1) := by decide +kernel
theorem w15_22 {d : Nat} {st : List Value} {h : xH} {K : Option Value → xH → Prop} {l0 l1 l3 : Option Value} {x : Int32} : wp d 15 22 [l0, l1, some (.int x), l3] st h K ↔ wp d 15 23 [l0, l1, some (.int x), l3] (.int x :: st) h K := w_any (i := 15) (pc := 22) dX1_dayOfMove_22 rfl rfl
theorem dX1_dayOfMove_23 : decode cX1_dayOfMove 23 = .ok (.ifCond .ne 5, 3) := by decide +kernel
theorem w15_23 {d : Nat} {st : List Value} {h : xH} {K : Option Value → xH → Prop} {ls : xL} {x : Int32} : wp d 15 23 ls (.int x :: st) h K ↔ ((¬ x = 0) → wp d 15 28 ls st h K) ∧ ((x = 0) → wp d 15 26 ls st h K) := (w_if1 (i := 15) (pc := 23) (cd := .ne) (off := 5) (tgt := 28) dX1_dayOfMove_23 (by decide) rfl).trans (and_congr Iff.rfl (imp_congr Classical.not_not Iff.rfl))
theorem dX1_dayOfMove_26 : decode cX1_dayOfMove 26 = .ok (.iload_n 3, 1) := by decide +kernel
theorem w15_26 {d : Nat} {st : List Value} {h : xH} {K : Option Value → xH → Prop} {l0 l1 l2 : Option Value} {x : Int32} : wp d 15 26 [l0, l1, l2, some (.int x)] st h K ↔ wp d 15 27 [l0, l1, l2, some (.int x)] (.int x :: st) h K := w_any (i := 15) (pc := 26) dX1_dayOfMove_26 rfl rfl
theorem dX1_dayOfMove_27 : decode cX1_dayOfMove 27 = .ok (.ireturn, 1) := by decide +kernel
theorem w15_27 {d : Nat} {h : xH} {K : Option Value → xH → Prop} {ls : xL} {x : Int32} : wp d 15 27 ls [.int x] h K ↔ K (some (.int x)) h := w_iret (i := 15) (pc := 27) dX1_dayOfMove_27 rfl
theorem dX1_dayOfMove_28 : decode cX1_dayOfMove 28 = .ok (.iinc 2 (-1), 3) := by decide +kernel
theorem w15_28 {d : Nat} {st : List Value} {h : xH} {K : Option Value → xH → Prop} {l0 l1 l3 : Option Value} {x : Int32} : wp d 15 28 [l0, l1, some (.int x), l3] st h K ↔ wp d 15 31 [l0, xk l1, some (.int (x + (-1))), l3] st h K := w_iinc (i := 15) (pc := 28) dX1_dayOfMove_28 rfl (Nat.le_of_ble_eq_true rfl) (by decide) (show xst1 [l0, l1, some (.int x), l3] 2 (.int (x + (-1))) = [l0, xk l1, some (.int (x + (-1))), l3] by simp only [xst1_0, xst1_1, xst1_s, Nat.reduceAdd])
theorem dX1_dayOfMove_31 : decode cX1_dayOfMove 31 = .ok (.iinc 3 1, 3) := by decide +kernel
theorem w15_31 {d : Nat} {st : List Value} {h : xH} {K : Option Value → xH → Prop} {l0 l1 l2 : Option Value} {x : Int32} : wp d 15 31 [l0, l1, l2, some (.int x)] st h K ↔ wp d 15 34 [l0, l1, xk l2, some (.int (x + 1))] st h K := w_iinc (i := 15) (pc := 31) dX1_dayOfMove_31 rfl (Nat.le_of_ble_eq_true rfl) (by decide) (show xst1 [l0, l1, l2, some (.int x)] 3 (.int (x + 1)) = [l0, l1, xk l2, some (.int (x + 1))] by simp only [xst1_0, xst1_1, xst1_s, Nat.reduceAdd])
theorem dX1_dayOfMove_34 : decode cX1_dayOfMove 34 = .ok (.goto (-30), 3) := by decide +kernel
theorem w15_34 {d : Nat} {st : List Value} {h : xH} {K : Option Value → xH → Prop} {ls : xL} : wp d 15 34 ls st h K ↔ wp d 15 4 ls st h K := w_goto (i := 15) (pc := 34) dX1_dayOfMove_34 (by decide) rfl
theorem dX1_dayOfMove_37 : decode cX1_dayOfMove 37 = .ok (.bipush (-9), 2) := by decide +kernel
theorem w15_37 {d : Nat} {st : List Value} {h : xH} {K : Option Value → xH → Prop} {ls : xL} : wp d 15 37 ls st h K ↔ wp d 15 39 ls (.int (-9) :: st) h K := w_bipush (i := 15) (pc := 37) dX1_dayOfMove_37 (by decide)
theorem dX1_dayOfMove_39 : decode cX1_dayOfMove 39 = .ok (.ireturn, 1) := by decide +kernel
theorem w15_39 {d : Nat} {h : xH} {K : Option Value → xH → Prop} {ls : xL} {x : Int32} : wp d 15 39 ls [.int x] h K ↔ K (some (.int x)) h := w_iret (i := 15) (pc := 39) dX1_dayOfMove_39 rfl
theorem dX2_init_0 : decode cX2_init 0 = .ok (.aload_n 0, 1) := by decide +kernel
theorem w16_0 {d : Nat} {st : List Value} {h : xH} {K : Option Value → xH → Prop} {x : Nat} : wp d 16 0 [some (.ref x)] st h K ↔ wp d 16 1 [some (.ref x)] (.ref x :: st) h K := w_any (i := 16) (pc := 0) dX2_init_0 rfl rfl
theorem w16_0n {d : Nat} {st : List Value} {h : xH} {K : Option Value → xH → Prop} : wp d 16 0 [some .null] st h K ↔ wp d 16 1 [some .null] (.null :: st) h K := w_any (i := 16) (pc := 0) dX2_init_0 rfl rfl
theorem dX2_init_1 : decode cX2_init 1 = .ok (.invokespecial 3, 3) := by decide +kernel
theorem w16_1 {d : Nat} {st : List Value} {h : xH} {K : Option Value → xH → Prop} {ls : xL} {a : Nat} : wp d 16 1 ls (.ref a :: st) h K ↔ xcs st ≤ 8 ∧ wp d 16 4 ls st h K := w_objI (i := 16) (pc := 1) dX2_init_1 rfl
theorem dX2_init_4 : decode cX2_init 4 = .ok (.aload_n 0, 1) := by decide +kernel
theorem w16_4 {d : Nat} {st : List Value} {h : xH} {K : Option Value → xH → Prop} {x : Nat} : wp d 16 4 [some (.ref x)] st h K ↔ wp d 16 5 [some (.ref x)] (.ref x :: st) h K := w_any (i := 16) (pc := 4) dX2_init_4 rfl rfl
theorem w16_4n {d : Nat} {st : List Value} {h : xH} {K : Option Value → xH → Prop} : wp d 16 4 [some .null] st h K ↔ wp d 16 5 [some .null] (.null :: st) h K := w_any (i := 16) (pc := 4) dX2_init_4 rfl rfl
theorem dX2_init_5 : decode cX2_init 5 = .ok (.bipush 30, 2) := by decide +kernel
theorem w16_5 {d : Nat} {st : List Value} {h : xH} {K : Option Value → xH → Prop} {ls : xL} : wp d 16 5 ls st h K ↔ wp d 16 7 ls (.int 30 :: st) h K := w_bipush (i := 16) (pc := 5) dX2_init_5 (by decide)
theorem dX2_init_7 : decode cX2_init 7 = .ok (.newarray .int, 2) := by decide +kernel
theorem w16_7 {d : Nat} {st : List Value} {h : xH} {K : Option Value → xH → Prop} {ls : xL} {n : Int32} : wp d 16 7 ls (.int n :: st) h K ↔ ¬ n < 0 ∧ n.toNatClampNeg ≤ 1000 ∧ wp d 16 9 ls (.ref h.length :: st) (h ++ [.inl (0, n.toNatClampNeg, .inl (fun _ => 0))]) K := w_any (i := 16) (pc := 7) dX2_init_7 rfl rfl
theorem dX2_init_9 : decode cX2_init 9 = .ok (.putfield 9, 3) := by decide +kernel
theorem w16_9 {d : Nat} {st : List Value} {h : xH} {K : Option Value → xH → Prop} {ls : xL} {x : Nat} {a : Nat} : wp d 16 9 ls (.ref x :: .ref a :: st) h K ↔ y_put h a 3 0 (.ref x) (fun h1 => wp d 16 12 ls st h1 K) := w_put (i := 16) (pc := 9) dX2_init_9 rfl trivial (Or.inr ⟨rfl, by decide, rfl⟩)
theorem dX2_init_12 : decode cX2_init 12 = .ok (.return_, 1) := by decide +kernel
theorem w16_12 {d : Nat} {h : xH} {K : Option Value → xH → Prop} {ls : xL} : wp d 16 12 ls [] h K ↔ K none h := w_vret (i := 16) (pc := 12) dX2_init_12 rfl
theorem dX2_isMissing_0 : decode cX2_isMissing 0 = .ok (.aload_n 0, 1) := by decide +kernel
theorem w17_0 {d : Nat} {st : List Value} {h : xH} {K : Option Value → xH → Prop} {x : Nat} : wp d 17 0 [some (.ref x)] st h K ↔ wp d 17 1 [some (.ref x)] (.ref x :: st) h K := w_any (i := 17) (pc := 0) dX2_isMissing_0 rfl rfl
theorem w17_0n {d : Nat} {st : List Value} {h : xH} {K : Option Value → xH → Prop} : wp d 17 0 [some .null] st h K ↔ wp d 17 1 [some .null] (.null :: st) h K := w_any (i := 17) (pc := 0) dX2_isMissing_0 rfl rfl
theorem dX2_isMissing_1 : decode cX2_isMissing 1 = .ok (.getfield 15, 3) := by decide +kernel
theorem w17_1 {d : Nat} {st : List Value} {h : xH} {K : Option Value → xH → Prop} {ls : xL} {a : Nat} : wp d 17 1 ls (.ref a :: st) h K ↔ y_get h a 3 2 (fun v => wp d 17 4 ls (v :: st) h K) := w_get (i := 17) (pc := 1) dX2_isMissing_1 rfl
theorem dX2_isMissing_4 : decode cX2_isMissing 4 = .ok (.ifCond .ne 7, 3) := by decide +kernel
theorem w17_4 {d : Nat} {st : List Value} {h : xH} {K : Option Value → xH → Prop} {ls : xL} {x : Int32} : wp d 17 4 ls (.int x :: st) h K ↔ ((¬ x = 0) → wp d 17 11 ls st h K) ∧ ((x = 0) → wp d 17 7 ls st h K) := (w_if1 (i := 17) (pc := 4) (cd := .ne) (off := 7) (tgt := 11) dX2_isMissing_4 (by decide) rfl).trans (and_congr Iff.rfl (imp_congr Classical.not_not Iff.rfl))
theorem dX2_isMissing_7 : decode cX2_isMissing 7 = .ok (.iconst 1, 1) := by decide +kernel
theorem w17_7 {d : Nat} {st : List Value} {h : xH} {K : Option Value → xH → Prop} {ls : xL} : wp d 17 7 ls st h K ↔ wp d 17 8 ls (.int 1 :: st) h K := w_iconst (i := 17) (pc := 7) dX2_isMissing_7 (by decide)
theorem dX2_isMissing_8 : decode cX2_isMissing 8 = .ok (.goto 4, 3) := by decide +kernel
theorem w17_8 {d : Nat} {st : List Value} {h : xH} {K : Option Value → xH → Prop} {ls : xL} : wp d 17 8 ls st h K ↔ wp d 17 12 ls st h K := w_goto (i := 17) (pc := 8) dX2_isMissing_8 (by decide) rfl
theorem dX2_isMissing_11 : decode cX2_isMissing 11 = .ok (.iconst 0, 1) := by decide +kernel
theorem w17_11 {d : Nat} {st : List Value} {h : xH} {K : Option Value → xH → Prop} {ls : xL} : wp d 17 11 ls st h K ↔ wp d 17 12 ls (.int 0 :: st) h K := w_iconst (i := 17) (pc := 11) dX2_isMissing_11 (by decide)
theorem dX2_isMissing_12 : decode cX2_isMissing 12 = .ok (.ireturn, 1) := by decide +kernel
theorem w17_12 {d : Nat} {h : xH} {K : Option Value → xH → Prop} {ls : xL} {x : Int32} : wp d 17 12 ls [.int x] h K ↔ y_bool x ∧ K (some (.int x)) h := w_zret (i := 17) (pc := 12) dX2_isMissing_12 rfl
theorem dX2_hasCell_0 : decode cX2_hasCell 0 = .ok (.iload_n 1, 1) := by decide +kernel
theorem w18_0 {d : Nat} {st : List Value} {h : xH} {K : Option Value → xH → Prop} {l0 : Option Value} {x : Int32} : wp d 18 0 [l0, some (.int x)] st h K ↔ wp d 18 1 [l0, some (.int x)] (.int x :: st) h K := w_any (i := 18) (pc := 0) dX2_hasCell_0 rfl rfl
theorem dX2_hasCell_1 : decode cX2_hasCell 1 = .ok (.ifCond .lt 15, 3) := by decide +kernel
theorem w18_1 {d : Nat} {st : List Value} {h : xH} {K : Option Value → xH → Prop} {ls : xL} {x : Int32} : wp d 18 1 ls (.int x :: st) h K ↔ ((x < 0) → wp d 18 16 ls st h K) ∧ ((¬ (x < 0)) → wp d 18 4 ls st h K) := w_if1 (i := 18) (pc := 1) (cd := .lt) (off := 15) (tgt := 16) dX2_hasCell_1 (by decide) rfl
theorem dX2_hasCell_4 : decode cX2_hasCell 4 = .ok (.iload_n 1, 1) := by decide +kernel
theorem w18_4 {d : Nat} {st : List Value} {h : xH} {K : Option Value → xH → Prop} {l0 : Option Value} {x : Int32} : wp d 18 4 [l0, some (.int x)] st h K ↔ wp d 18 5 [l0, some (.int x)] (.int x :: st) h K := w_any (i := 18) (pc := 4) dX2_hasCell_4 rfl rfl
theorem dX2_hasCell_5 : decode cX2_hasCell 5 = .ok (.aload_n 0, 1) := by decide +kernel
theorem w18_5 {d : Nat} {st : List Value} {h : xH} {K : Option Value → xH → Prop} {l1 : Option Value} {x : Nat} : wp d 18 5 [some (.ref x), l1] st h K ↔ wp d 18 6 [some (.ref x), l1] (.ref x :: st) h K := w_any (i := 18) (pc := 5) dX2_hasCell_5 rfl rfl
theorem w18_5n {d : Nat} {st : List Value} {h : xH} {K : Option Value → xH → Prop} {l1 : Option Value} : wp d 18 5 [some .null, l1] st h K ↔ wp d 18 6 [some .null, l1] (.null :: st) h K := w_any (i := 18) (pc := 5) dX2_hasCell_5 rfl rfl
theorem dX2_hasCell_6 : decode cX2_hasCell 6 = .ok (.getfield 15, 3) := by decide +kernel
theorem w18_6 {d : Nat} {st : List Value} {h : xH} {K : Option Value → xH → Prop} {ls : xL} {a : Nat} : wp d 18 6 ls (.ref a :: st) h K ↔ y_get h a 3 2 (fun v => wp d 18 9 ls (v :: st) h K) := w_get (i := 18) (pc := 6) dX2_hasCell_6 rfl
theorem dX2_hasCell_9 : decode cX2_hasCell 9 = .ok (.if_icmp .ge 7, 3) := by decide +kernel
theorem w18_9 {d : Nat} {st : List Value} {h : xH} {K : Option Value → xH → Prop} {ls : xL} {x y : Int32} : wp d 18 9 ls (.int y :: .int x :: st) h K ↔ ((y ≤ x) → wp d 18 16 ls st h K) ∧ ((¬ (y ≤ x)) → wp d 18 12 ls st h K) := w_if2 (i := 18) (pc := 9) (cd := .ge) (off := 7) (tgt := 16) dX2_hasCell_9 (by decide) rfl
theorem dX2_hasCell_12 : decode cX2_hasCell 12 = .ok (.iconst 1, 1) := by decide +kernel
theorem w18_12 {d : Nat} {st : List Value} {h : xH} {K : Option Value → xH → Prop} {ls : xL} : wp d 18 12 ls st h K ↔ wp d 18 13 ls (.int 1 :: st) h K := w_iconst (i := 18) (pc := 12) dX2_hasCell_12 (by decide)
theorem dX2_hasCell_13 : decode cX2_hasCell 13 = .ok (.goto 4, 3) := by decide +kernel
theorem w18_13 {d : Nat} {st : List Value} {h : xH} {K : Option Value → xH → Prop} {ls : xL} : wp d 18 13 ls st h K ↔ wp d 18 17 ls st h K := w_goto (i := 18) (pc := 13) dX2_hasCell_13 (by decide) rfl
theorem dX2_hasCell_16 : decode cX2_hasCell 16 = .ok (.iconst 0, 1) := by decide +kernel
theorem w18_16 {d : Nat} {st : List Value} {h : xH} {K : Option Value → xH → Prop} {ls : xL} : wp d 18 16 ls st h K ↔ wp d 18 17 ls (.int 0 :: st) h K := w_iconst (i := 18) (pc := 16) dX2_hasCell_16 (by decide)
theorem dX2_hasCell_17 : decode cX2_hasCell 17 = .ok (.ireturn, 1) := by decide +kernel
theorem w18_17 {d : Nat} {h : xH} {K : Option Value → xH → Prop} {ls : xL} {x : Int32} : wp d 18 17 ls [.int x] h K ↔ y_bool x ∧ K (some (.int x)) h := w_zret (i := 18) (pc := 17) dX2_hasCell_17 rfl
theorem dX2_signOf_0 : decode cX2_signOf 0 = .ok (.iload_n 1, 1) := by decide +kernel
theorem w19_0 {d : Nat} {st : List Value} {h : xH} {K : Option Value → xH → Prop} {l0 : Option Value} {x : Int32} : wp d 19 0 [l0, some (.int x)] st h K ↔ wp d 19 1 [l0, some (.int x)] (.int x :: st) h K := w_any (i := 19) (pc := 0) dX2_signOf_0 rfl rfl
theorem dX2_signOf_1 : decode cX2_signOf 1 = .ok (.ifCond .lt 29, 3) := by decide +kernel
theorem w19_1 {d : Nat} {st : List Value} {h : xH} {K : Option Value → xH → Prop} {ls : xL} {x : Int32} : wp d 19 1 ls (.int x :: st) h K ↔ ((x < 0) → wp d 19 30 ls st h K) ∧ ((¬ (x < 0)) → wp d 19 4 ls st h K) := w_if1 (i := 19) (pc := 1) (cd := .lt) (off := 29) (tgt := 30) dX2_signOf_1 (by decide) rfl
theorem dX2_signOf_4 : decode cX2_signOf 4 = .ok (.iload_n 1, 1) := by decide +kernel
theorem w19_4 {d : Nat} {st : List Value} {h : xH} {K : Option Value → xH → Prop} {l0 : Option Value} {x : Int32} : wp d 19 4 [l0, some (.int x)] st h K ↔ wp d 19 5 [l0, some (.int x)] (.int x :: st) h K := w_any (i := 19) (pc := 4) dX2_signOf_4 rfl rfl
theorem dX2_signOf_5 : decode cX2_signOf 5 = .ok (.aload_n 0, 1) := by decide +kernel
theorem w19_5 {d : Nat} {st : List Value} {h : xH} {K : Option Value → xH → Prop} {l1 : Option Value} {x : Nat} : wp d 19 5 [some (.ref x), l1] st h K ↔ wp d 19 6 [some (.ref x), l1] (.ref x :: st) h K := w_any (i := 19) (pc := 5) dX2_signOf_5 rfl rfl
theorem w19_5n {d : Nat} {st : List Value} {h : xH} {K : Option Value → xH → Prop} {l1 : Option Value} : wp d 19 5 [some .null, l1] st h K ↔ wp d 19 6 [some .null, l1] (.null :: st) h K := w_any (i := 19) (pc := 5) dX2_signOf_5 rfl rfl
theorem dX2_signOf_6 : decode cX2_signOf 6 = .ok (.getfield 15, 3) := by decide +kernel
theorem w19_6 {d : Nat} {st : List Value} {h : xH} {K : Option Value → xH → Prop} {ls : xL} {a : Nat} : wp d 19 6 ls (.ref a :: st) h K ↔ y_get h a 3 2 (fun v => wp d 19 9 ls (v :: st) h K) := w_get (i := 19) (pc := 6) dX2_signOf_6 rfl
theorem dX2_signOf_9 : decode cX2_signOf 9 = .ok (.if_icmp .ge 21, 3) := by decide +kernel
theorem w19_9 {d : Nat} {st : List Value} {h : xH} {K : Option Value → xH → Prop} {ls : xL} {x y : Int32} : wp d 19 9 ls (.int y :: .int x :: st) h K ↔ ((y ≤ x) → wp d 19 30 ls st h K) ∧ ((¬ (y ≤ x)) → wp d 19 12 ls st h K) := w_if2 (i := 19) (pc := 9) (cd := .ge) (off := 21) (tgt := 30) dX2_signOf_9 (by decide) rfl
theorem dX2_signOf_12 : decode cX2_signOf 12 = .ok (.iload_n 1, 1) := by decide +kernel
theorem w19_12 {d : Nat} {st : List Value} {h : xH} {K : Option Value → xH → Prop} {l0 : Option Value} {x : Int32} : wp d 19 12 [l0, some (.int x)] st h K ↔ wp d 19 13 [l0, some (.int x)] (.int x :: st) h K := w_any (i := 19) (pc := 12) dX2_signOf_12 rfl rfl
theorem dX2_signOf_13 : decode cX2_signOf 13 = .ok (.aload_n 0, 1) := by decide +kernel
theorem w19_13 {d : Nat} {st : List Value} {h : xH} {K : Option Value → xH → Prop} {l1 : Option Value} {x : Nat} : wp d 19 13 [some (.ref x), l1] st h K ↔ wp d 19 14 [some (.ref x), l1] (.ref x :: st) h K := w_any (i := 19) (pc := 13) dX2_signOf_13 rfl rfl
theorem w19_13n {d : Nat} {st : List Value} {h : xH} {K : Option Value → xH → Prop} {l1 : Option Value} : wp d 19 13 [some .null, l1] st h K ↔ wp d 19 14 [some .null, l1] (.null :: st) h K := w_any (i := 19) (pc := 13) dX2_signOf_13 rfl rfl
theorem dX2_signOf_14 : decode cX2_signOf 14 = .ok (.getfield 9, 3) := by decide +kernel
theorem w19_14 {d : Nat} {st : List Value} {h : xH} {K : Option Value → xH → Prop} {ls : xL} {a : Nat} : wp d 19 14 ls (.ref a :: st) h K ↔ y_get h a 3 0 (fun v => wp d 19 17 ls (v :: st) h K) := w_get (i := 19) (pc := 14) dX2_signOf_14 rfl
theorem dX2_signOf_17 : decode cX2_signOf 17 = .ok (.arraylength, 1) := by decide +kernel
theorem w19_17 {d : Nat} {st : List Value} {h : xH} {K : Option Value → xH → Prop} {ls : xL} {a : Nat} : wp d 19 17 ls (.ref a :: st) h K ↔ y_alen h a (fun v => wp d 19 18 ls (.int v :: st) h K) := w_alen (i := 19) (pc := 17) dX2_signOf_17
theorem dX2_signOf_18 : decode cX2_signOf 18 = .ok (.if_icmp .ge 12, 3) := by decide +kernel
theorem w19_18 {d : Nat} {st : List Value} {h : xH} {K : Option Value → xH → Prop} {ls : xL} {x y : Int32} : wp d 19 18 ls (.int y :: .int x :: st) h K ↔ ((y ≤ x) → wp d 19 30 ls st h K) ∧ ((¬ (y ≤ x)) → wp d 19 21 ls st h K) := w_if2 (i := 19) (pc := 18) (cd := .ge) (off := 12) (tgt := 30) dX2_signOf_18 (by decide) rfl
theorem dX2_signOf_21 : decode cX2_signOf 21 = .ok (.aload_n 0, 1) := by decide +kernel
theorem w19_21 {d : Nat} {st : List Value} {h : xH} {K : Option Value → xH → Prop} {l1 : Option Value} {x : Nat} : wp d 19 21 [some (.ref x), l1] st h K ↔ wp d 19 22 [some (.ref x), l1] (.ref x :: st) h K := w_any (i := 19) (pc := 21) dX2_signOf_21 rfl rfl
theorem w19_21n {d : Nat} {st : List Value} {h : xH} {K : Option Value → xH → Prop} {l1 : Option Value} : wp d 19 21 [some .null, l1] st h K ↔ wp d 19 22 [some .null, l1] (.null :: st) h K := w_any (i := 19) (pc := 21) dX2_signOf_21 rfl rfl
theorem dX2_signOf_22 : decode cX2_signOf 22 = .ok (.getfield 9, 3) := by decide +kernel
theorem w19_22 {d : Nat} {st : List Value} {h : xH} {K : Option Value → xH → Prop} {ls : xL} {a : Nat} : wp d 19 22 ls (.ref a :: st) h K ↔ y_get h a 3 0 (fun v => wp d 19 25 ls (v :: st) h K) := w_get (i := 19) (pc := 22) dX2_signOf_22 rfl
theorem dX2_signOf_25 : decode cX2_signOf 25 = .ok (.iload_n 1, 1) := by decide +kernel
theorem w19_25 {d : Nat} {st : List Value} {h : xH} {K : Option Value → xH → Prop} {l0 : Option Value} {x : Int32} : wp d 19 25 [l0, some (.int x)] st h K ↔ wp d 19 26 [l0, some (.int x)] (.int x :: st) h K := w_any (i := 19) (pc := 25) dX2_signOf_25 rfl rfl
theorem dX2_signOf_26 : decode cX2_signOf 26 = .ok (.iaload, 1) := by decide +kernel
theorem w19_26 {d : Nat} {st : List Value} {h : xH} {K : Option Value → xH → Prop} {ls : xL} {a : Nat} {x : Int32} : wp d 19 26 ls (.int x :: .ref a :: st) h K ↔ y_iald h a x (fun v => wp d 19 27 ls (.int v :: st) h K) := w_iald (i := 19) (pc := 26) dX2_signOf_26
theorem dX2_signOf_27 : decode cX2_signOf 27 = .ok (.goto 4, 3) := by decide +kernel
theorem w19_27 {d : Nat} {st : List Value} {h : xH} {K : Option Value → xH → Prop} {ls : xL} : wp d 19 27 ls st h K ↔ wp d 19 31 ls st h K := w_goto (i := 19) (pc := 27) dX2_signOf_27 (by decide) rfl
theorem dX2_signOf_30 : decode cX2_signOf 30 = .ok (.iconst 1, 1) := by decide +kernel
theorem w19_30 {d : Nat} {st : List Value} {h : xH} {K : Option Value → xH → Prop} {ls : xL} : wp d 19 30 ls st h K ↔ wp d 19 31 ls (.int 1 :: st) h K := w_iconst (i := 19) (pc := 30) dX2_signOf_30 (by decide)
theorem dX2_signOf_31 : decode cX2_signOf 31 = .ok (.ireturn, 1) := by decide +kernel
theorem w19_31 {d : Nat} {h : xH} {K : Option Value → xH → Prop} {ls : xL} {x : Int32} : wp d 19 31 ls [.int x] h K ↔ K (some (.int x)) h := w_iret (i := 19) (pc := 31) dX2_signOf_31 rfl
theorem dX2_mark_0 : decode cX2_mark 0 = .ok (.iload_n 1, 1) := by decide +kernel
theorem w20_0 {d : Nat} {st : List Value} {h : xH} {K : Option Value → xH → Prop} {l0 l2 : Option Value} {x : Int32} : wp d 20 0 [l0, some (.int x), l2] st h K ↔ wp d 20 1 [l0, some (.int x), l2] (.int x :: st) h K := w_any (i := 20) (pc := 0) dX2_mark_0 rfl rfl
theorem dX2_mark_1 : decode cX2_mark 1 = .ok (.ifCond .lt 19, 3) := by decide +kernel
theorem w20_1 {d : Nat} {st : List Value} {h : xH} {K : Option Value → xH → Prop} {ls : xL} {x : Int32} : wp d 20 1 ls (.int x :: st) h K ↔ ((x < 0) → wp d 20 20 ls st h K) ∧ ((¬ (x < 0)) → wp d 20 4 ls st h K) := w_if1 (i := 20) (pc := 1) (cd := .lt) (off := 19) (tgt := 20) dX2_mark_1 (by decide) rfl
theorem dX2_mark_4 : decode cX2_mark 4 = .ok (.iload_n 1, 1) := by decide +kernel
theorem w20_4 {d : Nat} {st : List Value} {h : xH} {K : Option Value → xH → Prop} {l0 l2 : Option Value} {x : Int32} : wp d 20 4 [l0, some (.int x), l2] st h K ↔ wp d 20 5 [l0, some (.int x), l2] (.int x :: st) h K := w_any (i := 20) (pc := 4) dX2_mark_4 rfl rfl
theorem dX2_mark_5 : decode cX2_mark 5 = .ok (.aload_n 0, 1) := by decide +kernel
theorem w20_5 {d : Nat} {st : List Value} {h : xH} {K : Option Value → xH → Prop} {l1 l2 : Option Value} {x : Nat} : wp d 20 5 [some (.ref x), l1, l2] st h K ↔ wp d 20 6 [some (.ref x), l1, l2] (.ref x :: st) h K := w_any (i := 20) (pc := 5) dX2_mark_5 rfl rfl
theorem w20_5n {d : Nat} {st : List Value} {h : xH} {K : Option Value → xH → Prop} {l1 l2 : Option Value} : wp d 20 5 [some .null, l1, l2] st h K ↔ wp d 20 6 [some .null, l1, l2] (.null :: st) h K := w_any (i := 20) (pc := 5) dX2_mark_5 rfl rfl
theorem dX2_mark_6 : decode cX2_mark 6 = .ok (.getfield 9, 3) := by decide +kernel
theorem w20_6 {d : Nat} {st : List Value} {h : xH} {K : Option Value → xH → Prop} {ls : xL} {a : Nat} : wp d 20 6 ls (.ref a :: st) h K ↔ y_get h a 3 0 (fun v => wp d 20 9 ls (v :: st) h K) := w_get (i := 20) (pc := 6) dX2_mark_6 rfl
theorem dX2_mark_9 : decode cX2_mark 9 = .ok (.arraylength, 1) := by decide +kernel
theorem w20_9 {d : Nat} {st : List Value} {h : xH} {K : Option Value → xH → Prop} {ls : xL} {a : Nat} : wp d 20 9 ls (.ref a :: st) h K ↔ y_alen h a (fun v => wp d 20 10 ls (.int v :: st) h K) := w_alen (i := 20) (pc := 9) dX2_mark_9
theorem dX2_mark_10 : decode cX2_mark 10 = .ok (.if_icmp .ge 10, 3) := by decide +kernel
theorem w20_10 {d : Nat} {st : List Value} {h : xH} {K : Option Value → xH → Prop} {ls : xL} {x y : Int32} : wp d 20 10 ls (.int y :: .int x :: st) h K ↔ ((y ≤ x) → wp d 20 20 ls st h K) ∧ ((¬ (y ≤ x)) → wp d 20 13 ls st h K) := w_if2 (i := 20) (pc := 10) (cd := .ge) (off := 10) (tgt := 20) dX2_mark_10 (by decide) rfl
theorem dX2_mark_13 : decode cX2_mark 13 = .ok (.aload_n 0, 1) := by decide +kernel
theorem w20_13 {d : Nat} {st : List Value} {h : xH} {K : Option Value → xH → Prop} {l1 l2 : Option Value} {x : Nat} : wp d 20 13 [some (.ref x), l1, l2] st h K ↔ wp d 20 14 [some (.ref x), l1, l2] (.ref x :: st) h K := w_any (i := 20) (pc := 13) dX2_mark_13 rfl rfl
theorem w20_13n {d : Nat} {st : List Value} {h : xH} {K : Option Value → xH → Prop} {l1 l2 : Option Value} : wp d 20 13 [some .null, l1, l2] st h K ↔ wp d 20 14 [some .null, l1, l2] (.null :: st) h K := w_any (i := 20) (pc := 13) dX2_mark_13 rfl rfl
theorem dX2_mark_14 : decode cX2_mark 14 = .ok (.getfield 9, 3) := by decide +kernel
theorem w20_14 {d : Nat} {st : List Value} {h : xH} {K : Option Value → xH → Prop} {ls : xL} {a : Nat} : wp d 20 14 ls (.ref a :: st) h K ↔ y_get h a 3 0 (fun v => wp d 20 17 ls (v :: st) h K) := w_get (i := 20) (pc := 14) dX2_mark_14 rfl
theorem dX2_mark_17 : decode cX2_mark 17 = .ok (.iload_n 1, 1) := by decide +kernel
theorem w20_17 {d : Nat} {st : List Value} {h : xH} {K : Option Value → xH → Prop} {l0 l2 : Option Value} {x : Int32} : wp d 20 17 [l0, some (.int x), l2] st h K ↔ wp d 20 18 [l0, some (.int x), l2] (.int x :: st) h K := w_any (i := 20) (pc := 17) dX2_mark_17 rfl rfl
theorem dX2_mark_18 : decode cX2_mark 18 = .ok (.iload_n 2, 1) := by decide +kernel
theorem w20_18 {d : Nat} {st : List Value} {h : xH} {K : Option Value → xH → Prop} {l0 l1 : Option Value} {x : Int32} : wp d 20 18 [l0, l1, some (.int x)] st h K ↔ wp d 20 19 [l0, l1, some (.int x)] (.int x :: st) h K := w_any (i := 20) (pc := 18) dX2_mark_18 rfl rfl
theorem dX2_mark_19 : decode cX2_mark 19 = .ok (.iastore, 1) := by decide +kernel
theorem w20_19 {d : Nat} {st : List Value} {h : xH} {K : Option Value → xH → Prop} {ls : xL} {a : Nat} {x v : Int32} : wp d 20 19 ls (.int v :: .int x :: .ref a :: st) h K ↔ y_iast h a x v (fun h1 => wp d 20 20 ls st h1 K) := w_iast (i := 20) (pc := 19) dX2_mark_19
theorem dX2_mark_20 : decode cX2_mark 20 = .ok (.return_, 1) := by decide +kernel
theorem w20_20 {d : Nat} {h : xH} {K : Option Value → xH → Prop} {ls : xL} : wp d 20 20 ls [] h K ↔ K none h := w_vret (i := 20) (pc := 20) dX2_mark_20 rfl
theorem dX2_clear_0 : decode cX2_clear 0 = .ok (.aload_n 0, 1) := by decide +kernel
theorem w21_0 {d : Nat} {st : List Value} {h : xH} {K : Option Value → xH → Prop} {l1 l2 : Option Value} {x : Nat} : wp d 21 0 [some (.ref x), l1, l2] st h K ↔ wp d 21 1 [some (.ref x), l1, l2] (.ref x :: st) h K := w_any (i := 21) (pc := 0) dX2_clear_0 rfl rfl
theorem w21_0n {d : Nat} {st : List Value} {h : xH} {K : Option Value → xH → Prop} {l1 l2 : Option Value} : wp d 21 0 [some .null, l1, l2] st h K ↔ wp d 21 1 [some .null, l1, l2] (.null :: st) h K := w_any (i := 21) (pc := 0) dX2_clear_0 rfl rfl
theorem dX2_clear_1 : decode cX2_clear 1 = .ok (.iload_n 2, 1) := by decide +kernel
theorem w21_1 {d : Nat} {st : List Value} {h : xH} {K : Option Value → xH → Prop} {l0 l1 : Option Value} {x : Int32} : wp d 21 1 [l0, l1, some (.int x)] st h K ↔ wp d 21 2 [l0, l1, some (.int x)] (.int x :: st) h K := w_any (i := 21) (pc := 1) dX2_clear_1 rfl rfl
theorem dX2_clear_2 : decode cX2_clear 2 = .ok (.putfield 19, 3) := by decide +kernel
theorem w21_2 {d : Nat} {st : List Value} {h : xH} {K : Option Value → xH → Prop} {ls : xL} {x : Int32} {a : Nat} : wp d 21 2 ls (.int x :: .ref a :: st) h K ↔ y_put h a 3 1 (.int x) (fun h1 => wp d 21 5 ls st h1 K) := w_put (i := 21) (pc := 2) dX2_clear_2 rfl trivial (Or.inl rfl)
theorem dX2_clear_5 : decode cX2_clear 5 = .ok (.aload_n 0, 1) := by decide +kernel
theorem w21_5 {d : Nat} {st : List Value} {h : xH} {K : Option Value → xH → Prop} {l1 l2 : Option Value} {x : Nat} : wp d 21 5 [some (.ref x), l1, l2] st h K ↔ wp d 21 6 [some (.ref x), l1, l2] (.ref x :: st) h K := w_any (i := 21) (pc := 5) dX2_clear_5 rfl rfl
theorem w21_5n {d : Nat} {st : List Value} {h : xH} {K : Option Value → xH → Prop} {l1 l2 : Option Value} : wp d 21 5 [some .null, l1, l2] st h K ↔ wp d 21 6 [some .null, l1, l2] (.null :: st) h K := w_any (i := 21) (pc := 5) dX2_clear_5 rfl rfl
theorem dX2_clear_6 : decode cX2_clear 6 = .ok (.iload_n 1, 1) := by decide +kernel
theorem w21_6 {d : Nat} {st : List Value} {h : xH} {K : Option Value → xH → Prop} {l0 l2 : Option Value} {x : Int32} : wp d 21 6 [l0, some (.int x), l2] st h K ↔ wp d 21 7 [l0, some (.int x), l2] (.int x :: st) h K := w_any (i := 21) (pc := 6) dX2_clear_6 rfl rfl
theorem dX2_clear_7 : decode cX2_clear 7 = .ok (.iload_n 2, 1) := by decide +kernel
theorem w21_7 {d : Nat} {st : List Value} {h : xH} {K : Option Value → xH → Prop} {l0 l1 : Option Value} {x : Int32} : wp d 21 7 [l0, l1, some (.int x)] st h K ↔ wp d 21 8 [l0, l1, some (.int x)] (.int x :: st) h K := w_any (i := 21) (pc := 7) dX2_clear_7 rfl rfl
theorem dX2_clear_8 : decode cX2_clear 8 = .ok (.imul, 1) := by decide +kernel
theorem w21_8 {d : Nat} {st : List Value} {h : xH} {K : Option Value → xH → Prop} {ls : xL} {x y : Int32} : wp d 21 8 ls (.int y :: .int x :: st) h K ↔ wp d 21 9 ls (.int (x * y) :: st) h K := w_any (i := 21) (pc := 8) dX2_clear_8 rfl rfl
theorem dX2_clear_9 : decode cX2_clear 9 = .ok (.putfield 15, 3) := by decide +kernel
theorem w21_9 {d : Nat} {st : List Value} {h : xH} {K : Option Value → xH → Prop} {ls : xL} {x : Int32} {a : Nat} : wp d 21 9 ls (.int x :: .ref a :: st) h K ↔ y_put h a 3 2 (.int x) (fun h1 => wp d 21 12 ls st h1 K) := w_put (i := 21) (pc := 9) dX2_clear_9 rfl trivial (Or.inl rfl)
theorem dX2_clear_12 : decode cX2_clear 12 = .ok (.aload_n 0, 1) := by decide +kernel
theorem w21_12 {d : Nat} {st : List Value} {h : xH} {K : Option Value → xH → Prop} {l1 l2 : Option Value} {x : Nat} : wp d 21 12 [some (.ref x), l1, l2] st h K ↔ wp d 21 13 [some (.ref x), l1, l2] (.ref x :: st) h K := w_any (i := 21) (pc := 12) dX2_clear_12 rfl rfl
theorem w21_12n {d : Nat} {st : List Value} {h : xH} {K : Option Value → xH → Prop} {l1 l2 : Option Value} : wp d 21 12 [some .null, l1, l2] st h K ↔ wp d 21 13 [some .null, l1, l2] (.null :: st) h K := w_any (i := 21) (pc := 12) dX2_clear_12 rfl rfl
theorem dX2_clear_13 : decode cX2_clear 13 = .ok (.getfield 9, 3) := by decide +kernel
theorem w21_13 {d : Nat} {st : List Value} {h : xH} {K : Option Value → xH → Prop} {ls : xL} {a : Nat} : wp d 21 13 ls (.ref a :: st) h K ↔ y_get h a 3 0 (fun v => wp d 21 16 ls (v :: st) h K) := w_get (i := 21) (pc := 13) dX2_clear_13 rfl
theorem dX2_clear_16 : decode cX2_clear 16 = .ok (.iconst 1, 1) := by decide +kernel
theorem w21_16 {d : Nat} {st : List Value} {h : xH} {K : Option Value → xH → Prop} {ls : xL} : wp d 21 16 ls st h K ↔ wp d 21 17 ls (.int 1 :: st) h K := w_iconst (i := 21) (pc := 16) dX2_clear_16 (by decide)
theorem dX2_clear_17 : decode cX2_clear 17 = .ok (.invokestatic 22, 3) := by decide +kernel
theorem w21_17 {d : Nat} {st : List Value} {h : xH} {K : Option Value → xH → Prop} {ls : xL} {a0 : Nat} {a1 : Int32} : wp (d + 1) 21 17 ls (.int a1 :: .ref a0 :: st) h K ↔ xcs st ≤ 8 ∧ wp d 168 0 [some (.ref a0), some (.int a1), none, none] [] h (fun v h1 => wp (d + 1) 21 20 ls (v.toList ++ st) h1 K) := w_callS (i := 21) (pc := 17) (as := [.ref a0, .int a1]) (rest := st) dX2_clear_17 rfl (by decide) rfl rfl rfl rfl rfl
theorem dX2_clear_20 : decode cX2_clear 20 = .ok (.return_, 1) := by decide +kernel
theorem w21_20 {d : Nat} {h : xH} {K : Option Value → xH → Prop} {ls : xL} : wp d 21 20 ls [] h K ↔ K none h := w_vret (i := 21) (pc := 20) dX2_clear_20 rfl
theorem dX2_beside_0 : decode cX2_beside 0 = .ok (.aload_n 0, 1) := by decide +kernel
theorem w22_0 {d : Nat} {st : List Value} {h : xH} {K : Option Value → xH → Prop} {l1 l2 l3 : Option Value} {x : Nat} : wp d 22 0 [some (.ref x), l1, l2, l3] st h K ↔ wp d 22 1 [some (.ref x), l1, l2, l3] (.ref x :: st) h K := w_any (i := 22) (pc := 0) dX2_beside_0 rfl rfl
theorem w22_0n {d : Nat} {st : List Value} {h : xH} {K : Option Value → xH → Prop} {l1 l2 l3 : Option Value} : wp d 22 0 [some .null, l1, l2, l3] st h K ↔ wp d 22 1 [some .null, l1, l2, l3] (.null :: st) h K := w_any (i := 22) (pc := 0) dX2_beside_0 rfl rfl
theorem dX2_beside_1 : decode cX2_beside 1 = .ok (.getfield 19, 3) := by decide +kernel
theorem w22_1 {d : Nat} {st : List Value} {h : xH} {K : Option Value → xH → Prop} {ls : xL} {a : Nat} : wp d 22 1 ls (.ref a :: st) h K ↔ y_get h a 3 1 (fun v => wp d 22 4 ls (v :: st) h K) := w_get (i := 22) (pc := 1) dX2_beside_1 rfl
theorem dX2_beside_4 : decode cX2_beside 4 = .ok (.ifCond .gt 6, 3) := by decide +kernel
theorem w22_4 {d : Nat} {st : List Value} {h : xH} {K : Option Value → xH → Prop} {ls : xL} {x : Int32} : wp d 22 4 ls (.int x :: st) h K ↔ ((0 < x) → wp d 22 10 ls st h K) ∧ ((¬ (0 < x)) → wp d 22 7 ls st h K) := w_if1 (i := 22) (pc := 4) (cd := .gt) (off := 6) (tgt := 10) dX2_beside_4 (by decide) rfl
theorem dX2_beside_7 : decode cX2_beside 7 = .ok (.bipush (-9), 2) := by decide +kernel
theorem w22_7 {d : Nat} {st : List Value} {h : xH} {K : Option Value → xH → Prop} {ls : xL} : wp d 22 7 ls st h K ↔ wp d 22 9 ls (.int (-9) :: st) h K := w_bipush (i := 22) (pc := 7) dX2_beside_7 (by decide)
theorem dX2_beside_9 : decode cX2_beside 9 = .ok (.ireturn, 1) := by decide +kernel
theorem w22_9 {d : Nat} {h : xH} {K : Option Value → xH → Prop} {ls : xL} {x : Int32} : wp d 22 9 ls [.int x] h K ↔ K (some (.int x)) h := w_iret (i := 22) (pc := 9) dX2_beside_9 rfl
theorem dX2_beside_10 : decode cX2_beside 10 = .ok (.iload_n 1, 1) := by decide +kernel
theorem w22_10 {d : Nat} {st : List Value} {h : xH} {K : Option Value → xH → Prop} {l0 l2 l3 : Option Value} {x : Int32} : wp d 22 10 [l0, some (.int x), l2, l3] st h K ↔ wp d 22 11 [l0, some (.int x), l2, l3] (.int x :: st) h K := w_any (i := 22) (pc := 10) dX2_beside_10 rfl rfl
theorem dX2_beside_11 : decode cX2_beside 11 = .ok (.aload_n 0, 1) := by decide +kernel
theorem w22_11 {d : Nat} {st : List Value} {h : xH} {K : Option Value → xH → Prop} {l1 l2 l3 : Option Value} {x : Nat} : wp d 22 11 [some (.ref x), l1, l2, l3] st h K ↔ wp d 22 12 [some (.ref x), l1, l2, l3] (.ref x :: st) h K := w_any (i := 22) (pc := 11) dX2_beside_11 rfl rfl
theorem w22_11n {d : Nat} {st : List Value} {h : xH} {K : Option Value → xH → Prop} {l1 l2 l3 : Option Value} : wp d 22 11 [some .null, l1, l2, l3] st h K ↔ wp d 22 12 [some .null, l1, l2, l3] (.null :: st) h K := w_any (i := 22) (pc := 11) dX2_beside_11 rfl rfl
theorem dX2_beside_12 : decode cX2_beside 12 = .ok (.getfield 19, 3) := by decide +kernel
theorem w22_12 {d : Nat} {st : List Value} {h : xH} {K : Option Value → xH → Prop} {ls : xL} {a : Nat} : wp d 22 12 ls (.ref a :: st) h K ↔ y_get h a 3 1 (fun v => wp d 22 15 ls (v :: st) h K) := w_get (i := 22) (pc := 12) dX2_beside_12 rfl
theorem dX2_beside_15 : decode cX2_beside 15 = .ok (.irem, 1) := by decide +kernel
theorem w22_15 {d : Nat} {st : List Value} {h : xH} {K : Option Value → xH → Prop} {ls : xL} {x y : Int32} : wp d 22 15 ls (.int y :: .int x :: st) h K ↔ ¬ y = 0 ∧ wp d 22 16 ls (.int (x - x / y * y) :: st) h K := w_any (i := 22) (pc := 15) dX2_beside_15 rfl rfl
theorem dX2_beside_16 : decode cX2_beside 16 = .ok (.istore_n 3, 1) := by decide +kernel
theorem w22_16 {d : Nat} {st : List Value} {h : xH} {K : Option Value → xH → Prop} {l0 l1 l2 l3 : Option Value} {x : Int32} : wp d 22 16 [l0, l1, l2, l3] (.int x :: st) h K ↔ wp d 22 17 [l0, l1, xk l2, some (.int x)] st h K := w_istore_n (i := 22) (pc := 16) dX2_beside_16 (Nat.le_of_ble_eq_true rfl) (show xst1 [l0, l1, l2, l3] 3 (.int x) = [l0, l1, xk l2, some (.int x)] by simp only [xst1_0, xst1_1, xst1_s, Nat.reduceAdd])
theorem dX2_beside_17 : decode cX2_beside 17 = .ok (.iload_n 2, 1) := by decide +kernel
theorem w22_17 {d : Nat} {st : List Value} {h : xH} {K : Option Value → xH → Prop} {l0 l1 l3 : Option Value} {x : Int32} : wp d 22 17 [l0, l1, some (.int x), l3] st h K ↔ wp d 22 18 [l0, l1, some (.int x), l3] (.int x :: st) h K := w_any (i := 22) (pc := 17) dX2_beside_17 rfl rfl
theorem dX2_beside_18 : decode cX2_beside 18 = .ok (.tableswitch 59 0 2 #[26, 33, 52], 26) := by decide +kernel
theorem w22_18 {d : Nat} {st : List Value} {h : xH} {K : Option Value → xH → Prop} {ls : xL} {x : Int32} : wp d 22 18 ls (.int x :: st) h K ↔ (x.toInt < 0 ∨ 2 < x.toInt → wp d 22 77 ls st h K) ∧ (x.toInt = 0 → wp d 22 44 ls st h K) ∧ (x.toInt = 1 → wp d 22 51 ls st h K) ∧ (x.toInt = 2 → wp d 22 70 ls st h K) := (w_any (i := 22) (pc := 18) dX2_beside_18 rfl rfl).trans (by simp [exI, i_tab, xtab, xtgt])
theorem dX2_beside_44 : decode cX2_beside 44 = .ok (.iload_n 1, 1) := by decide +kernel
theorem w22_44 {d : Nat} {st : List Value} {h : xH} {K : Option Value → xH → Prop} {l0 l2 l3 : Option Value} {x : Int32} : wp d 22 44 [l0, some (.int x), l2, l3] st h K ↔ wp d 22 45 [l0, some (.int x), l2, l3] (.int x :: st) h K := w_any (i := 22) (pc := 44) dX2_beside_44 rfl rfl
theorem dX2_beside_45 : decode cX2_beside 45 = .ok (.aload_n 0, 1) := by decide +kernel
theorem w22_45 {d : Nat} {st : List Value} {h : xH} {K : Option Value → xH → Prop} {l1 l2 l3 : Option Value} {x : Nat} : wp d 22 45 [some (.ref x), l1, l2, l3] st h K ↔ wp d 22 46 [some (.ref x), l1, l2, l3] (.ref x :: st) h K := w_any (i := 22) (pc := 45) dX2_beside_45 rfl rfl
theorem w22_45n {d : Nat} {st : List Value} {h : xH} {K : Option Value → xH → Prop} {l1 l2 l3 : Option Value} : wp d 22 45 [some .null, l1, l2, l3] st h K ↔ wp d 22 46 [some .null, l1, l2, l3] (.null :: st) h K := w_any (i := 22) (pc := 45) dX2_beside_45 rfl rfl
theorem dX2_beside_46 : decode cX2_beside 46 = .ok (.getfield 19, 3) := by decide +kernel
theorem w22_46 {d : Nat} {st : List Value} {h : xH} {K : Option Value → xH → Prop} {ls : xL} {a : Nat} : wp d 22 46 ls (.ref a :: st) h K ↔ y_get h a 3 1 (fun v => wp d 22 49 ls (v :: st) h K) := w_get (i := 22) (pc := 46) dX2_beside_46 rfl
theorem dX2_beside_49 : decode cX2_beside 49 = .ok (.isub, 1) := by decide +kernel
theorem w22_49 {d : Nat} {st : List Value} {h : xH} {K : Option Value → xH → Prop} {ls : xL} {x y : Int32} : wp d 22 49 ls (.int y :: .int x :: st) h K ↔ wp d 22 50 ls (.int (x - y) :: st) h K := w_any (i := 22) (pc := 49) dX2_beside_49 rfl rfl
theorem dX2_beside_50 : decode cX2_beside 50 = .ok (.ireturn, 1) := by decide +kernel
theorem w22_50 {d : Nat} {h : xH} {K : Option Value → xH → Prop} {ls : xL} {x : Int32} : wp d 22 50 ls [.int x] h K ↔ K (some (.int x)) h := w_iret (i := 22) (pc := 50) dX2_beside_50 rfl
theorem dX2_beside_51 : decode cX2_beside 51 = .ok (.iload_n 3, 1) := by decide +kernel
theorem w22_51 {d : Nat} {st : List Value} {h : xH} {K : Option Value → xH → Prop} {l0 l1 l2 : Option Value} {x : Int32} : wp d 22 51 [l0, l1, l2, some (.int x)] st h K ↔ wp d 22 52 [l0, l1, l2, some (.int x)] (.int x :: st) h K := w_any (i := 22) (pc := 51) dX2_beside_51 rfl rfl
theorem dX2_beside_52 : decode cX2_beside 52 = .ok (.iconst 1, 1) := by decide +kernel
theorem w22_52 {d : Nat} {st : List Value} {h : xH} {K : Option Value → xH → Prop} {ls : xL} : wp d 22 52 ls st h K ↔ wp d 22 53 ls (.int 1 :: st) h K := w_iconst (i := 22) (pc := 52) dX2_beside_52 (by decide)
theorem dX2_beside_53 : decode cX2_beside 53 = .ok (.iadd, 1) := by decide +kernel
theorem w22_53 {d : Nat} {st : List Value} {h : xH} {K : Option Value → xH → Prop} {ls : xL} {x y : Int32} : wp d 22 53 ls (.int y :: .int x :: st) h K ↔ wp d 22 54 ls (.int (x + y) :: st) h K := w_any (i := 22) (pc := 53) dX2_beside_53 rfl rfl
theorem dX2_beside_54 : decode cX2_beside 54 = .ok (.aload_n 0, 1) := by decide +kernel
theorem w22_54 {d : Nat} {st : List Value} {h : xH} {K : Option Value → xH → Prop} {l1 l2 l3 : Option Value} {x : Nat} : wp d 22 54 [some (.ref x), l1, l2, l3] st h K ↔ wp d 22 55 [some (.ref x), l1, l2, l3] (.ref x :: st) h K := w_any (i := 22) (pc := 54) dX2_beside_54 rfl rfl
theorem w22_54n {d : Nat} {st : List Value} {h : xH} {K : Option Value → xH → Prop} {l1 l2 l3 : Option Value} : wp d 22 54 [some .null, l1, l2, l3] st h K ↔ wp d 22 55 [some .null, l1, l2, l3] (.null :: st) h K := w_any (i := 22) (pc := 54) dX2_beside_54 rfl rfl
theorem dX2_beside_55 : decode cX2_beside 55 = .ok (.getfield 19, 3) := by decide +kernel
theorem w22_55 {d : Nat} {st : List Value} {h : xH} {K : Option Value → xH → Prop} {ls : xL} {a : Nat} : wp d 22 55 ls (.ref a :: st) h K ↔ y_get h a 3 1 (fun v => wp d 22 58 ls (v :: st) h K) := w_get (i := 22) (pc := 55) dX2_beside_55 rfl
theorem dX2_beside_58 : decode cX2_beside 58 = .ok (.if_icmp .ge 9, 3) := by decide +kernel
theorem w22_58 {d : Nat} {st : List Value} {h : xH} {K : Option Value → xH → Prop} {ls : xL} {x y : Int32} : wp d 22 58 ls (.int y :: .int x :: st) h K ↔ ((y ≤ x) → wp d 22 67 ls st h K) ∧ ((¬ (y ≤ x)) → wp d 22 61 ls st h K) := w_if2 (i := 22) (pc := 58) (cd := .ge) (off := 9) (tgt := 67) dX2_beside_58 (by decide) rfl
theorem dX2_beside_61 : decode cX2_beside 61 = .ok (.iload_n 1, 1) := by decide +kernel
theorem w22_61 {d : Nat} {st : List Value} {h : xH} {K : Option Value → xH → Prop} {l0 l2 l3 : Option Value} {x : Int32} : wp d 22 61 [l0, some (.int x), l2, l3] st h K ↔ wp d 22 62 [l0, some (.int x), l2, l3] (.int x :: st) h K := w_any (i := 22) (pc := 61) dX2_beside_61 rfl rfl
theorem dX2_beside_62 : decode cX2_beside 62 = .ok (.iconst 1, 1) := by decide +kernel
theorem w22_62 {d : Nat} {st : List Value} {h : xH} {K : Option Value → xH → Prop} {ls : xL} : wp d 22 62 ls st h K ↔ wp d 22 63 ls (.int 1 :: st) h K := w_iconst (i := 22) (pc := 62) dX2_beside_62 (by decide)
theorem dX2_beside_63 : decode cX2_beside 63 = .ok (.iadd, 1) := by decide +kernel
theorem w22_63 {d : Nat} {st : List Value} {h : xH} {K : Option Value → xH → Prop} {ls : xL} {x y : Int32} : wp d 22 63 ls (.int y :: .int x :: st) h K ↔ wp d 22 64 ls (.int (x + y) :: st) h K := w_any (i := 22) (pc := 63) dX2_beside_63 rfl rfl
theorem dX2_beside_64 : decode cX2_beside 64 = .ok (.goto 5, 3) := by decide +kernel
theorem w22_64 {d : Nat} {st : List Value} {h : xH} {K : Option Value → xH → Prop} {ls : xL} : wp d 22 64 ls st h K ↔ wp d 22 69 ls st h K := w_goto (i := 22) (pc := 64) dX2_beside_64 (by decide) rfl
theorem dX2_beside_67 : decode cX2_beside 67 = .ok (.bipush (-9), 2) := by decide +kernel
theorem w22_67 {d : Nat} {st : List Value} {h : xH} {K : Option Value → xH → Prop} {ls : xL} : wp d 22 67 ls st h K ↔ wp d 22 69 ls (.int (-9) :: st) h K := w_bipush (i := 22) (pc := 67) dX2_beside_67 (by decide)
theorem dX2_beside_69 : decode cX2_beside 69 = .ok (.ireturn, 1) := by decide +kernel
theorem w22_69 {d : Nat} {h : xH} {K : Option Value → xH → Prop} {ls : xL} {x : Int32} : wp d 22 69 ls [.int x] h K ↔ K (some (.int x)) h := w_iret (i := 22) (pc := 69) dX2_beside_69 rfl
theorem dX2_beside_70 : decode cX2_beside 70 = .ok (.iload_n 1, 1) := by decide +kernel
theorem w22_70 {d : Nat} {st : List Value} {h : xH} {K : Option Value → xH → Prop} {l0 l2 l3 : Option Value} {x : Int32} : wp d 22 70 [l0, some (.int x), l2, l3] st h K ↔ wp d 22 71 [l0, some (.int x), l2, l3] (.int x :: st) h K := w_any (i := 22) (pc := 70) dX2_beside_70 rfl rfl
theorem dX2_beside_71 : decode cX2_beside 71 = .ok (.aload_n 0, 1) := by decide +kernel
theorem w22_71 {d : Nat} {st : List Value} {h : xH} {K : Option Value → xH → Prop} {l1 l2 l3 : Option Value} {x : Nat} : wp d 22 71 [some (.ref x), l1, l2, l3] st h K ↔ wp d 22 72 [some (.ref x), l1, l2, l3] (.ref x :: st) h K := w_any (i := 22) (pc := 71) dX2_beside_71 rfl rfl
theorem w22_71n {d : Nat} {st : List Value} {h : xH} {K : Option Value → xH → Prop} {l1 l2 l3 : Option Value} : wp d 22 71 [some .null, l1, l2, l3] st h K ↔ wp d 22 72 [some .null, l1, l2, l3] (.null :: st) h K := w_any (i := 22) (pc := 71) dX2_beside_71 rfl rfl
theorem dX2_beside_72 : decode cX2_beside 72 = .ok (.getfield 19, 3) := by decide +kernel
theorem w22_72 {d : Nat} {st : List Value} {h : xH} {K : Option Value → xH → Prop} {ls : xL} {a : Nat} : wp d 22 72 ls (.ref a :: st) h K ↔ y_get h a 3 1 (fun v => wp d 22 75 ls (v :: st) h K) := w_get (i := 22) (pc := 72) dX2_beside_72 rfl
theorem dX2_beside_75 : decode cX2_beside 75 = .ok (.iadd, 1) := by decide +kernel
theorem w22_75 {d : Nat} {st : List Value} {h : xH} {K : Option Value → xH → Prop} {ls : xL} {x y : Int32} : wp d 22 75 ls (.int y :: .int x :: st) h K ↔ wp d 22 76 ls (.int (x + y) :: st) h K := w_any (i := 22) (pc := 75) dX2_beside_75 rfl rfl
theorem dX2_beside_76 : decode cX2_beside 76 = .ok (.ireturn, 1) := by decide +kernel
theorem w22_76 {d : Nat} {h : xH} {K : Option Value → xH → Prop} {ls : xL} {x : Int32} : wp d 22 76 ls [.int x] h K ↔ K (some (.int x)) h := w_iret (i := 22) (pc := 76) dX2_beside_76 rfl
theorem dX2_beside_77 : decode cX2_beside 77 = .ok (.iload_n 3, 1) := by decide +kernel
theorem w22_77 {d : Nat} {st : List Value} {h : xH} {K : Option Value → xH → Prop} {l0 l1 l2 : Option Value} {x : Int32} : wp d 22 77 [l0, l1, l2, some (.int x)] st h K ↔ wp d 22 78 [l0, l1, l2, some (.int x)] (.int x :: st) h K := w_any (i := 22) (pc := 77) dX2_beside_77 rfl rfl
theorem dX2_beside_78 : decode cX2_beside 78 = .ok (.ifCond .le 9, 3) := by decide +kernel
theorem w22_78 {d : Nat} {st : List Value} {h : xH} {K : Option Value → xH → Prop} {ls : xL} {x : Int32} : wp d 22 78 ls (.int x :: st) h K ↔ ((x ≤ 0) → wp d 22 87 ls st h K) ∧ ((¬ (x ≤ 0)) → wp d 22 81 ls st h K) := w_if1 (i := 22) (pc := 78) (cd := .le) (off := 9) (tgt := 87) dX2_beside_78 (by decide) rfl
theorem dX2_beside_81 : decode cX2_beside 81 = .ok (.iload_n 1, 1) := by decide +kernel
theorem w22_81 {d : Nat} {st : List Value} {h : xH} {K : Option Value → xH → Prop} {l0 l2 l3 : Option Value} {x : Int32} : wp d 22 81 [l0, some (.int x), l2, l3] st h K ↔ wp d 22 82 [l0, some (.int x), l2, l3] (.int x :: st) h K := w_any (i := 22) (pc := 81) dX2_beside_81 rfl rfl
theorem dX2_beside_82 : decode cX2_beside 82 = .ok (.iconst 1, 1) := by decide +kernel
theorem w22_82 {d : Nat} {st : List Value} {h : xH} {K : Option Value → xH → Prop} {ls : xL} : wp d 22 82 ls st h K ↔ wp d 22 83 ls (.int 1 :: st) h K := w_iconst (i := 22) (pc := 82) dX2_beside_82 (by decide)
theorem dX2_beside_83 : decode cX2_beside 83 = .ok (.isub, 1) := by decide +kernel
theorem w22_83 {d : Nat} {st : List Value} {h : xH} {K : Option Value → xH → Prop} {ls : xL} {x y : Int32} : wp d 22 83 ls (.int y :: .int x :: st) h K ↔ wp d 22 84 ls (.int (x - y) :: st) h K := w_any (i := 22) (pc := 83) dX2_beside_83 rfl rfl
theorem dX2_beside_84 : decode cX2_beside 84 = .ok (.goto 5, 3) := by decide +kernel
theorem w22_84 {d : Nat} {st : List Value} {h : xH} {K : Option Value → xH → Prop} {ls : xL} : wp d 22 84 ls st h K ↔ wp d 22 89 ls st h K := w_goto (i := 22) (pc := 84) dX2_beside_84 (by decide) rfl
theorem dX2_beside_87 : decode cX2_beside 87 = .ok (.bipush (-9), 2) := by decide +kernel
theorem w22_87 {d : Nat} {st : List Value} {h : xH} {K : Option Value → xH → Prop} {ls : xL} : wp d 22 87 ls st h K ↔ wp d 22 89 ls (.int (-9) :: st) h K := w_bipush (i := 22) (pc := 87) dX2_beside_87 (by decide)
theorem dX2_beside_89 : decode cX2_beside 89 = .ok (.ireturn, 1) := by decide +kernel
theorem w22_89 {d : Nat} {h : xH} {K : Option Value → xH → Prop} {ls : xL} {x : Int32} : wp d 22 89 ls [.int x] h K ↔ K (some (.int x)) h := w_iret (i := 22) (pc := 89) dX2_beside_89 rfl
theorem dX2_stepsOut_0 : decode cX2_stepsOut 0 = .ok (.lconst 1, 1) := by decide +kernel
theorem w23_0 {d : Nat} {st : List Value} {h : xH} {K : Option Value → xH → Prop} {ls : xL} : wp d 23 0 ls st h K ↔ wp d 23 1 ls (.long 1 :: st) h K := w_lconst (i := 23) (pc := 0) dX2_stepsOut_0 (by decide)
theorem dX2_stepsOut_1 : decode cX2_stepsOut 1 = .ok (.iload_n 1, 1) := by decide +kernel
theorem w23_1 {d : Nat} {st : List Value} {h : xH} {K : Option Value → xH → Prop} {l0 l2 l3 l4 l5 l6 l7 : Option Value} {x : Int32} : wp d 23 1 [l0, some (.int x), l2, l3, l4, l5, l6, l7] st h K ↔ wp d 23 2 [l0, some (.int x), l2, l3, l4, l5, l6, l7] (.int x :: st) h K := w_any (i := 23) (pc := 1) dX2_stepsOut_1 rfl rfl
theorem dX2_stepsOut_2 : decode cX2_stepsOut 2 = .ok (.lshl, 1) := by decide +kernel
theorem w23_2 {d : Nat} {st : List Value} {h : xH} {K : Option Value → xH → Prop} {ls : xL} {x : Int64} {y : Int32} : wp d 23 2 ls (.int y :: .long x :: st) h K ↔ wp d 23 3 ls (.long (x <<< (y.toInt64 &&& 63)) :: st) h K := w_any (i := 23) (pc := 2) dX2_stepsOut_2 rfl rfl
theorem dX2_stepsOut_3 : decode cX2_stepsOut 3 = .ok (.lstore_n 2, 1) := by decide +kernel
theorem w23_3 {d : Nat} {st : List Value} {h : xH} {K : Option Value → xH → Prop} {l0 l1 l2 l3 l4 l5 l6 l7 : Option Value} {x : Int64} : wp d 23 3 [l0, l1, l2, l3, l4, l5, l6, l7] (.long x :: st) h K ↔ wp d 23 4 [l0, xk l1, some (.long x), none, l4, l5, l6, l7] st h K := w_lstore_n (i := 23) (pc := 3) dX2_stepsOut_3 (Nat.le_of_ble_eq_true rfl) (show xst2 [l0, l1, l2, l3, l4, l5, l6, l7] 2 (.long x) = [l0, xk l1, some (.long x), none, l4, l5, l6, l7] by simp only [xst2_0, xst2_1, xst2_s, Nat.reduceAdd])
theorem dX2_stepsOut_4 : decode cX2_stepsOut 4 = .ok (.iconst 1, 1) := by decide +kernel
theorem w23_4 {d : Nat} {st : List Value} {h : xH} {K : Option Value → xH → Prop} {ls : xL} : wp d 23 4 ls st h K ↔ wp d 23 5 ls (.int 1 :: st) h K := w_iconst (i := 23) (pc := 4) dX2_stepsOut_4 (by decide)
theorem dX2_stepsOut_5 : decode cX2_stepsOut 5 = .ok (.istore 4, 2) := by decide +kernel
theorem w23_5 {d : Nat} {st : List Value} {h : xH} {K : Option Value → xH → Prop} {l0 l1 l2 l3 l4 l5 l6 l7 : Option Value} {x : Int32} : wp d 23 5 [l0, l1, l2, l3, l4, l5, l6, l7] (.int x :: st) h K ↔ wp d 23 7 [l0, l1, l2, xk l3, some (.int x), l5, l6, l7] st h K := w_istore (i := 23) (pc := 5) dX2_stepsOut_5 (Nat.le_of_ble_eq_true rfl) (show xst1 [l0, l1, l2, l3, l4, l5, l6, l7] 4 (.int x) = [l0, l1, l2, xk l3, some (.int x), l5, l6, l7] by simp only [xst1_0, xst1_1, xst1_s, Nat.reduceAdd])
theorem dX2_stepsOut_7 : decode cX2_stepsOut 7 = .ok (.iload 4, 2) := by decide +kernel
theorem w23_7 {d : Nat} {st : List Value} {h : xH} {K : Option Value → xH → Prop} {l0 l1 l2 l3 l5 l6 l7 : Option Value} {x : Int32} : wp d 23 7 [l0, l1, l2, l3, some (.int x), l5, l6, l7] st h K ↔ wp d 23 9 [l0, l1, l2, l3, some (.int x), l5, l6, l7] (.int x :: st) h K := w_any (i := 23) (pc := 7) dX2_stepsOut_7 rfl rfl
theorem dX2_stepsOut_9 : decode cX2_stepsOut 9 = .ok (.aload_n 0, 1) := by decide +kernel
theorem w23_9 {d : Nat} {st : List Value} {h : xH} {K : Option Value → xH → Prop} {l1 l2 l3 l4 l5 l6 l7 : Option Value} {x : Nat} : wp d 23 9 [some (.ref x), l1, l2, l3, l4, l5, l6, l7] st h K ↔ wp d 23 10 [some (.ref x), l1, l2, l3, l4, l5, l6, l7] (.ref x :: st) h K := w_any (i := 23) (pc := 9) dX2_stepsOut_9 rfl rfl
theorem w23_9n {d : Nat} {st : List Value} {h : xH} {K : Option Value → xH → Prop} {l1 l2 l3 l4 l5 l6 l7 : Option Value} : wp d 23 9 [some .null, l1, l2, l3, l4, l5, l6, l7] st h K ↔ wp d 23 10 [some .null, l1, l2, l3, l4, l5, l6, l7] (.null :: st) h K := w_any (i := 23) (pc := 9) dX2_stepsOut_9 rfl rfl
theorem dX2_stepsOut_10 : decode cX2_stepsOut 10 = .ok (.getfield 15, 3) := by decide +kernel
theorem w23_10 {d : Nat} {st : List Value} {h : xH} {K : Option Value → xH → Prop} {ls : xL} {a : Nat} : wp d 23 10 ls (.ref a :: st) h K ↔ y_get h a 3 2 (fun v => wp d 23 13 ls (v :: st) h K) := w_get (i := 23) (pc := 10) dX2_stepsOut_10 rfl
theorem dX2_stepsOut_13 : decode cX2_stepsOut 13 = .ok (.if_icmp .ge 68, 3) := by decide +kernel
theorem w23_13 {d : Nat} {st : List Value} {h : xH} {K : Option Value → xH → Prop} {ls : xL} {x y : Int32} : wp d 23 13 ls (.int y :: .int x :: st) h K ↔ ((y ≤ x) → wp d 23 81 ls st h K) ∧ ((¬ (y ≤ x)) → wp d 23 16 ls st h K) := w_if2 (i := 23) (pc := 13) (cd := .ge) (off := 68) (tgt := 81) dX2_stepsOut_13 (by decide) rfl
theorem dX2_stepsOut_16 : decode cX2_stepsOut 16 = .ok (.aload_n 0, 1) := by decide +kernel
theorem w23_16 {d : Nat} {st : List Value} {h : xH} {K : Option Value → xH → Prop} {l1 l2 l3 l4 l5 l6 l7 : Option Value} {x : Nat} : wp d 23 16 [some (.ref x), l1, l2, l3, l4, l5, l6, l7] st h K ↔ wp d 23 17 [some (.ref x), l1, l2, l3, l4, l5, l6, l7] (.ref x :: st) h K := w_any (i := 23) (pc := 16) dX2_stepsOut_16 rfl rfl
theorem w23_16n {d : Nat} {st : List Value} {h : xH} {K : Option Value → xH → Prop} {l1 l2 l3 l4 l5 l6 l7 : Option Value} : wp d 23 16 [some .null, l1, l2, l3, l4, l5, l6, l7] st h K ↔ wp d 23 17 [some .null, l1, l2, l3, l4, l5, l6, l7] (.null :: st) h K := w_any (i := 23) (pc := 16) dX2_stepsOut_16 rfl rfl
theorem dX2_stepsOut_17 : decode cX2_stepsOut 17 = .ok (.lload_n 2, 1) := by decide +kernel
theorem w23_17 {d : Nat} {st : List Value} {h : xH} {K : Option Value → xH → Prop} {l0 l1 l3 l4 l5 l6 l7 : Option Value} {x : Int64} : wp d 23 17 [l0, l1, some (.long x), l3, l4, l5, l6, l7] st h K ↔ wp d 23 18 [l0, l1, some (.long x), l3, l4, l5, l6, l7] (.long x :: st) h K := w_any (i := 23) (pc := 17) dX2_stepsOut_17 rfl rfl
theorem dX2_stepsOut_18 : decode cX2_stepsOut 18 = .ok (.invokevirtual 28, 3) := by decide +kernel
theorem w23_18 {d : Nat} {st : List Value} {h : xH} {K : Option Value → xH → Prop} {ls : xL} {a0 : Int64} {b : Nat} : wp (d + 1) 23 18 ls (.long a0 :: .ref b :: st) h K ↔ y_cls h b 3 ∧ xcs st ≤ 8 ∧ wp d 24 0 [some (.ref b), some (.long a0), none, none, none, none, none, none] [] h (fun v h1 => wp (d + 1) 23 21 ls (v.toList ++ st) h1 K) := w_callW (i := 23) (pc := 18) (as := [.long a0]) (rest := st) dX2_stepsOut_18 rfl (by decide) rfl rfl (by decide) rfl rfl rfl rfl
theorem dX2_stepsOut_21 : decode cX2_stepsOut 21 = .ok (.lstore 5, 2) := by decide +kernel
theorem w23_21 {d : Nat} {st : List Value} {h : xH} {K : Option Value → xH → Prop} {l0 l1 l2 l3 l4 l5 l6 l7 : Option Value} {x : Int64} : wp d 23 21 [l0, l1, l2, l3, l4, l5, l6, l7] (.long x :: st) h K ↔ wp d 23 23 [l0, l1, l2, l3, xk l4, some (.long x), none, l7] st h K := w_lstore (i := 23) (pc := 21) dX2_stepsOut_21 (Nat.le_of_ble_eq_true rfl) (show xst2 [l0, l1, l2, l3, l4, l5, l6, l7] 5 (.long x) = [l0, l1, l2, l3, xk l4, some (.long x), none, l7] by simp only [xst2_0, xst2_1, xst2_s, Nat.reduceAdd])
theorem dX2_stepsOut_23 : decode cX2_stepsOut 23 = .ok (.iconst 0, 1) := by decide +kernel
theorem w23_23 {d : Nat} {st : List Value} {h : xH} {K : Option Value → xH → Prop} {ls : xL} : wp d 23 23 ls st h K ↔ wp d 23 24 ls (.int 0 :: st) h K := w_iconst (i := 23) (pc := 23) dX2_stepsOut_23 (by decide)
theorem dX2_stepsOut_24 : decode cX2_stepsOut 24 = .ok (.istore 7, 2) := by decide +kernel
theorem w23_24 {d : Nat} {st : List Value} {h : xH} {K : Option Value → xH → Prop} {l0 l1 l2 l3 l4 l5 l6 l7 : Option Value} {x : Int32} : wp d 23 24 [l0, l1, l2, l3, l4, l5, l6, l7] (.int x :: st) h K ↔ wp d 23 26 [l0, l1, l2, l3, l4, l5, xk l6, some (.int x)] st h K := w_istore (i := 23) (pc := 24) dX2_stepsOut_24 (Nat.le_of_ble_eq_true rfl) (show xst1 [l0, l1, l2, l3, l4, l5, l6, l7] 7 (.int x) = [l0, l1, l2, l3, l4, l5, xk l6, some (.int x)] by simp only [xst1_0, xst1_1, xst1_s, Nat.reduceAdd])
theorem dX2_stepsOut_26 : decode cX2_stepsOut 26 = .ok (.iload 7, 2) := by decide +kernel
theorem w23_26 {d : Nat} {st : List Value} {h : xH} {K : Option Value → xH → Prop} {l0 l1 l2 l3 l4 l5 l6 : Option Value} {x : Int32} : wp d 23 26 [l0, l1, l2, l3, l4, l5, l6, some (.int x)] st h K ↔ wp d 23 28 [l0, l1, l2, l3, l4, l5, l6, some (.int x)] (.int x :: st) h K := w_any (i := 23) (pc := 26) dX2_stepsOut_26 rfl rfl
theorem dX2_stepsOut_28 : decode cX2_stepsOut 28 = .ok (.aload_n 0, 1) := by decide +kernel
theorem w23_28 {d : Nat} {st : List Value} {h : xH} {K : Option Value → xH → Prop} {l1 l2 l3 l4 l5 l6 l7 : Option Value} {x : Nat} : wp d 23 28 [some (.ref x), l1, l2, l3, l4, l5, l6, l7] st h K ↔ wp d 23 29 [some (.ref x), l1, l2, l3, l4, l5, l6, l7] (.ref x :: st) h K := w_any (i := 23) (pc := 28) dX2_stepsOut_28 rfl rfl
theorem w23_28n {d : Nat} {st : List Value} {h : xH} {K : Option Value → xH → Prop} {l1 l2 l3 l4 l5 l6 l7 : Option Value} : wp d 23 28 [some .null, l1, l2, l3, l4, l5, l6, l7] st h K ↔ wp d 23 29 [some .null, l1, l2, l3, l4, l5, l6, l7] (.null :: st) h K := w_any (i := 23) (pc := 28) dX2_stepsOut_28 rfl rfl
theorem dX2_stepsOut_29 : decode cX2_stepsOut 29 = .ok (.getfield 15, 3) := by decide +kernel
theorem w23_29 {d : Nat} {st : List Value} {h : xH} {K : Option Value → xH → Prop} {ls : xL} {a : Nat} : wp d 23 29 ls (.ref a :: st) h K ↔ y_get h a 3 2 (fun v => wp d 23 32 ls (v :: st) h K) := w_get (i := 23) (pc := 29) dX2_stepsOut_29 rfl
theorem dX2_stepsOut_32 : decode cX2_stepsOut 32 = .ok (.if_icmp .ge 40, 3) := by decide +kernel
theorem w23_32 {d : Nat} {st : List Value} {h : xH} {K : Option Value → xH → Prop} {ls : xL} {x y : Int32} : wp d 23 32 ls (.int y :: .int x :: st) h K ↔ ((y ≤ x) → wp d 23 72 ls st h K) ∧ ((¬ (y ≤ x)) → wp d 23 35 ls st h K) := w_if2 (i := 23) (pc := 32) (cd := .ge) (off := 40) (tgt := 72) dX2_stepsOut_32 (by decide) rfl
theorem dX2_stepsOut_35 : decode cX2_stepsOut 35 = .ok (.iload 7, 2) := by decide +kernel
theorem w23_35 {d : Nat} {st : List Value} {h : xH} {K : Option Value → xH → Prop} {l0 l1 l2 l3 l4 l5 l6 : Option Value} {x : Int32} : wp d 23 35 [l0, l1, l2, l3, l4, l5, l6, some (.int x)] st h K ↔ wp d 23 37 [l0, l1, l2, l3, l4, l5, l6, some (.int x)] (.int x :: st) h K := w_any (i := 23) (pc := 35) dX2_stepsOut_35 rfl rfl
theorem dX2_stepsOut_37 : decode cX2_stepsOut 37 = .ok (.iload_n 1, 1) := by decide +kernel
theorem w23_37 {d : Nat} {st : List Value} {h : xH} {K : Option Value → xH → Prop} {l0 l2 l3 l4 l5 l6 l7 : Option Value} {x : Int32} : wp d 23 37 [l0, some (.int x), l2, l3, l4, l5, l6, l7] st h K ↔ wp d 23 38 [l0, some (.int x), l2, l3, l4, l5, l6, l7] (.int x :: st) h K := w_any (i := 23) (pc := 37) dX2_stepsOut_37 rfl rfl
theorem dX2_stepsOut_38 : decode cX2_stepsOut 38 = .ok (.if_icmp .eq 28, 3) := by decide +kernel
theorem w23_38 {d : Nat} {st : List Value} {h : xH} {K : Option Value → xH → Prop} {ls : xL} {x y : Int32} : wp d 23 38 ls (.int y :: .int x :: st) h K ↔ ((x = y) → wp d 23 66 ls st h K) ∧ ((¬ (x = y)) → wp d 23 41 ls st h K) := w_if2 (i := 23) (pc := 38) (cd := .eq) (off := 28) (tgt := 66) dX2_stepsOut_38 (by decide) rfl
theorem dX2_stepsOut_41 : decode cX2_stepsOut 41 = .ok (.lload 5, 2) := by decide +kernel
theorem w23_41 {d : Nat} {st : List Value} {h : xH} {K : Option Value → xH → Prop} {l0 l1 l2 l3 l4 l6 l7 : Option Value} {x : Int64} : wp d 23 41 [l0, l1, l2, l3, l4, some (.long x), l6, l7] st h K ↔ wp d 23 43 [l0, l1, l2, l3, l4, some (.long x), l6, l7] (.long x :: st) h K := w_any (i := 23) (pc := 41) dX2_stepsOut_41 rfl rfl
theorem dX2_stepsOut_43 : decode cX2_stepsOut 43 = .ok (.iload 7, 2) := by decide +kernel
theorem w23_43 {d : Nat} {st : List Value} {h : xH} {K : Option Value → xH → Prop} {l0 l1 l2 l3 l4 l5 l6 : Option Value} {x : Int32} : wp d 23 43 [l0, l1, l2, l3, l4, l5, l6, some (.int x)] st h K ↔ wp d 23 45 [l0, l1, l2, l3, l4, l5, l6, some (.int x)] (.int x :: st) h K := w_any (i := 23) (pc := 43) dX2_stepsOut_43 rfl rfl
theorem dX2_stepsOut_45 : decode cX2_stepsOut 45 = .ok (.lshr, 1) := by decide +kernel
theorem w23_45 {d : Nat} {st : List Value} {h : xH} {K : Option Value → xH → Prop} {ls : xL} {x : Int64} {y : Int32} : wp d 23 45 ls (.int y :: .long x :: st) h K ↔ wp d 23 46 ls (.long (x >>> (y.toInt64 &&& 63)) :: st) h K := w_any (i := 23) (pc := 45) dX2_stepsOut_45 rfl rfl
theorem dX2_stepsOut_46 : decode cX2_stepsOut 46 = .ok (.lconst 1, 1) := by decide +kernel
theorem w23_46 {d : Nat} {st : List Value} {h : xH} {K : Option Value → xH → Prop} {ls : xL} : wp d 23 46 ls st h K ↔ wp d 23 47 ls (.long 1 :: st) h K := w_lconst (i := 23) (pc := 46) dX2_stepsOut_46 (by decide)
theorem dX2_stepsOut_47 : decode cX2_stepsOut 47 = .ok (.land, 1) := by decide +kernel
theorem w23_47 {d : Nat} {st : List Value} {h : xH} {K : Option Value → xH → Prop} {ls : xL} {x y : Int64} : wp d 23 47 ls (.long y :: .long x :: st) h K ↔ wp d 23 48 ls (.long (x &&& y) :: st) h K := w_any (i := 23) (pc := 47) dX2_stepsOut_47 rfl rfl
theorem dX2_stepsOut_48 : decode cX2_stepsOut 48 = .ok (.lconst 1, 1) := by decide +kernel
theorem w23_48 {d : Nat} {st : List Value} {h : xH} {K : Option Value → xH → Prop} {ls : xL} : wp d 23 48 ls st h K ↔ wp d 23 49 ls (.long 1 :: st) h K := w_lconst (i := 23) (pc := 48) dX2_stepsOut_48 (by decide)
theorem dX2_stepsOut_49 : decode cX2_stepsOut 49 = .ok (.lcmp, 1) := by decide +kernel
theorem w23_49 {d : Nat} {st : List Value} {h : xH} {K : Option Value → xH → Prop} {ls : xL} {x y : Int64} : wp d 23 49 ls (.long y :: .long x :: st) h K ↔ wp d 23 50 ls (.int (lg_cmp x y) :: st) h K := w_any (i := 23) (pc := 49) dX2_stepsOut_49 rfl rfl
theorem dX2_stepsOut_50 : decode cX2_stepsOut 50 = .ok (.ifCond .ne 16, 3) := by decide +kernel
theorem w23_50 {d : Nat} {st : List Value} {h : xH} {K : Option Value → xH → Prop} {ls : xL} {x : Int32} : wp d 23 50 ls (.int x :: st) h K ↔ ((¬ x = 0) → wp d 23 66 ls st h K) ∧ ((x = 0) → wp d 23 53 ls st h K) := (w_if1 (i := 23) (pc := 50) (cd := .ne) (off := 16) (tgt := 66) dX2_stepsOut_50 (by decide) rfl).trans (and_congr Iff.rfl (imp_congr Classical.not_not Iff.rfl))
theorem dX2_stepsOut_53 : decode cX2_stepsOut 53 = .ok (.aload_n 0, 1) := by decide +kernel
theorem w23_53 {d : Nat} {st : List Value} {h : xH} {K : Option Value → xH → Prop} {l1 l2 l3 l4 l5 l6 l7 : Option Value} {x : Nat} : wp d 23 53 [some (.ref x), l1, l2, l3, l4, l5, l6, l7] st h K ↔ wp d 23 54 [some (.ref x), l1, l2, l3, l4, l5, l6, l7] (.ref x :: st) h K := w_any (i := 23) (pc := 53) dX2_stepsOut_53 rfl rfl
theorem w23_53n {d : Nat} {st : List Value} {h : xH} {K : Option Value → xH → Prop} {l1 l2 l3 l4 l5 l6 l7 : Option Value} : wp d 23 53 [some .null, l1, l2, l3, l4, l5, l6, l7] st h K ↔ wp d 23 54 [some .null, l1, l2, l3, l4, l5, l6, l7] (.null :: st) h K := w_any (i := 23) (pc := 53) dX2_stepsOut_53 rfl rfl
theorem dX2_stepsOut_54 : decode cX2_stepsOut 54 = .ok (.iload 7, 2) := by decide +kernel
theorem w23_54 {d : Nat} {st : List Value} {h : xH} {K : Option Value → xH → Prop} {l0 l1 l2 l3 l4 l5 l6 : Option Value} {x : Int32} : wp d 23 54 [l0, l1, l2, l3, l4, l5, l6, some (.int x)] st h K ↔ wp d 23 56 [l0, l1, l2, l3, l4, l5, l6, some (.int x)] (.int x :: st) h K := w_any (i := 23) (pc := 54) dX2_stepsOut_54 rfl rfl
theorem dX2_stepsOut_56 : decode cX2_stepsOut 56 = .ok (.invokevirtual 32, 3) := by decide +kernel
theorem w23_56 {d : Nat} {st : List Value} {h : xH} {K : Option Value → xH → Prop} {ls : xL} {a0 : Int32} {b : Nat} : wp (d + 1) 23 56 ls (.int a0 :: .ref b :: st) h K ↔ y_cls h b 3 ∧ xcs st ≤ 8 ∧ wp d 19 0 [some (.ref b), some (.int a0)] [] h (fun v h1 => wp (d + 1) 23 59 ls (v.toList ++ st) h1 K) := w_callW (i := 23) (pc := 56) (as := [.int a0]) (rest := st) dX2_stepsOut_56 rfl (by decide) rfl rfl (by decide) rfl rfl rfl rfl
theorem dX2_stepsOut_59 : decode cX2_stepsOut 59 = .ok (.iconst 3, 1) := by decide +kernel
theorem w23_59 {d : Nat} {st : List Value} {h : xH} {K : Option Value → xH → Prop} {ls : xL} : wp d 23 59 ls st h K ↔ wp d 23 60 ls (.int 3 :: st) h K := w_iconst (i := 23) (pc := 59) dX2_stepsOut_59 (by decide)
theorem dX2_stepsOut_60 : decode cX2_stepsOut 60 = .ok (.if_icmp .ne 6, 3) := by decide +kernel
theorem w23_60 {d : Nat} {st : List Value} {h : xH} {K : Option Value → xH → Prop} {ls : xL} {x y : Int32} : wp d 23 60 ls (.int y :: .int x :: st) h K ↔ ((¬ x = y) → wp d 23 66 ls st h K) ∧ ((x = y) → wp d 23 63 ls st h K) := (w_if2 (i := 23) (pc := 60) (cd := .ne) (off := 6) (tgt := 66) dX2_stepsOut_60 (by decide) rfl).trans (and_congr Iff.rfl (imp_congr Classical.not_not Iff.rfl))
theorem dX2_stepsOut_63 : decode cX2_stepsOut 63 = .ok (.iload 4, 2) := by decide +kernel
theorem w23_63 {d : Nat} {st : List Value} {h : xH} {K : Option Value → xH → Prop} {l0 l1 l2 l3 l5 l6 l7 : Option Value} {x : Int32} : wp d 23 63 [l0, l1, l2, l3, some (.int x), l5, l6, l7] st h K ↔ wp d 23 65 [l0, l1, l2, l3, some (.int x), l5, l6, l7] (.int x :: st) h K := w_any (i := 23) (pc := 63) dX2_stepsOut_63 rfl rfl
theorem dX2_stepsOut_65 : decode cX2_stepsOut 65 = .ok (.ireturn, 1) := by decide +kernel
theorem w23_65 {d : Nat} {h : xH} {K : Option Value → xH → Prop} {ls : xL} {x : Int32} : wp d 23 65 ls [.int x] h K ↔ K (some (.int x)) h := w_iret (i := 23) (pc := 65) dX2_stepsOut_65 rfl
theorem dX2_stepsOut_66 : decode cX2_stepsOut 66 = .ok (.iinc 7 1, 3) := by decide +kernel
theorem w23_66 {d : Nat} {st : List Value} {h : xH} {K : Option Value → xH → Prop} {l0 l1 l2 l3 l4 l5 l6 : Option Value} {x : Int32} : wp d 23 66 [l0, l1, l2, l3, l4, l5, l6, some (.int x)] st h K ↔ wp d 23 69 [l0, l1, l2, l3, l4, l5, xk l6, some (.int (x + 1))] st h K := w_iinc (i := 23) (pc := 66) dX2_stepsOut_66 rfl (Nat.le_of_ble_eq_true rfl) (by decide) (show xst1 [l0, l1, l2, l3, l4, l5, l6, some (.int x)] 7 (.int (x + 1)) = [l0, l1, l2, l3, l4, l5, xk l6, some (.int (x + 1))] by simp only [xst1_0, xst1_1, xst1_s, Nat.reduceAdd])
theorem dX2_stepsOut_69 : decode cX2_stepsOut 69 = .ok (.goto (-43), 3) := by decide +kernel
theorem w23_69 {d : Nat} {st : List Value} {h : xH} {K : Option Value → xH → Prop} {ls : xL} : wp d 23 69 ls st h K ↔ wp d 23 26 ls st h K := w_goto (i := 23) (pc := 69) dX2_stepsOut_69 (by decide) rfl
theorem dX2_stepsOut_72 : decode cX2_stepsOut 72 = .ok (.lload 5, 2) := by decide +kernel
theorem w23_72 {d : Nat} {st : List Value} {h : xH} {K : Option Value → xH → Prop} {l0 l1 l2 l3 l4 l6 l7 : Option Value} {x : Int64} : wp d 23 72 [l0, l1, l2, l3, l4, some (.long x), l6, l7] st h K ↔ wp d 23 74 [l0, l1, l2, l3, l4, some (.long x), l6, l7] (.long x :: st) h K := w_any (i := 23) (pc := 72) dX2_stepsOut_72 rfl rfl
theorem dX2_stepsOut_74 : decode cX2_stepsOut 74 = .ok (.lstore_n 2, 1) := by decide +kernel
theorem w23_74 {d : Nat} {st : List Value} {h : xH} {K : Option Value → xH → Prop} {l0 l1 l2 l3 l4 l5 l6 l7 : Option Value} {x : Int64} : wp d 23 74 [l0, l1, l2, l3, l4, l5, l6, l7] (.long x :: st) h K ↔ wp d 23 75 [l0, xk l1, some (.long x), none, l4, l5, l6, l7] st h K := w_lstore_n (i := 23) (pc := 74) dX2_stepsOut_74 (Nat.le_of_ble_eq_true rfl) (show xst2 [l0, l1, l2, l3, l4, l5, l6, l7] 2 (.long x) = [l0, xk l1, some (.long x), none, l4, l5, l6, l7] by simp only [xst2_0, xst2_1, xst2_s, Nat.reduceAdd])
theorem dX2_stepsOut_75 : decode cX2_stepsOut 75 = .ok (.iinc 4 1, 3) := by decide +kernel
theorem w23_75 {d : Nat} {st : List Value} {h : xH} {K : Option Value → xH → Prop} {l0 l1 l2 l3 l5 l6 l7 : Option Value} {x : Int32} : wp d 23 75 [l0, l1, l2, l3, some (.int x), l5, l6, l7] st h K ↔ wp d 23 78 [l0, l1, l2, xk l3, some (.int (x + 1)), l5, l6, l7] st h K := w_iinc (i := 23) (pc := 75) dX2_stepsOut_75 rfl (Nat.le_of_ble_eq_true rfl) (by decide) (show xst1 [l0, l1, l2, l3, some (.int x), l5, l6, l7] 4 (.int (x + 1)) = [l0, l1, l2, xk l3, some (.int (x + 1)), l5, l6, l7] by simp only [xst1_0, xst1_1, xst1_s, Nat.reduceAdd])
theorem dX2_stepsOut_78 : decode cX2_stepsOut 78 = .ok (.goto (-71), 3) := by decide +kernel
theorem w23_78 {d : Nat} {st : List Value} {h : xH} {K : Option Value → xH → Prop} {ls : xL} : wp d 23 78 ls st h K ↔ wp d 23 7 ls st h K := w_goto (i := 23) (pc := 78) dX2_stepsOut_78 (by decide) rfl
theorem dX2_stepsOut_81 : decode cX2_stepsOut 81 = .ok (.bipush (-9), 2) := by decide +kernel
theorem w23_81 {d : Nat} {st : List Value} {h : xH} {K : Option Value → xH → Prop} {ls : xL} : wp d 23 81 ls st h K ↔ wp d 23 83 ls (.int (-9) :: st) h K := w_bipush (i := 23) (pc := 81) dX2_stepsOut_81 (by decide)
theorem dX2_stepsOut_83 : decode cX2_stepsOut 83 = .ok (.ireturn, 1) := by decide +kernel
theorem w23_83 {d : Nat} {h : xH} {K : Option Value → xH → Prop} {ls : xL} {x : Int32} : wp d 23 83 ls [.int x] h K ↔ K (some (.int x)) h := w_iret (i := 23) (pc := 83) dX2_stepsOut_83 rfl
theorem dX2_spread_0 : decode cX2_spread 0 = .ok (.lload_n 1, 1) := by decide +kernel
theorem w24_0 {d : Nat} {st : List Value} {h : xH} {K : Option Value → xH → Prop} {l0 l2 l3 l4 l5 l6 l7 : Option Value} {x : Int64} : wp d 24 0 [l0, some (.long x), l2, l3, l4, l5, l6, l7] st h K ↔ wp d 24 1 [l0, some (.long x), l2, l3, l4, l5, l6, l7] (.long x :: st) h K := w_any (i := 24) (pc := 0) dX2_spread_0 rfl rfl
theorem dX2_spread_1 : decode cX2_spread 1 = .ok (.lstore_n 3, 1) := by decide +kernel
theorem w24_1 {d : Nat} {st : List Value} {h : xH} {K : Option Value → xH → Prop} {l0 l1 l2 l3 l4 l5 l6 l7 : Option Value} {x : Int64} : wp d 24 1 [l0, l1, l2, l3, l4, l5, l6, l7] (.long x :: st) h K ↔ wp d 24 2 [l0, l1, xk l2, some (.long x), none, l5, l6, l7] st h K := w_lstore_n (i := 24) (pc := 1) dX2_spread_1 (Nat.le_of_ble_eq_true rfl) (show xst2 [l0, l1, l2, l3, l4, l5, l6, l7] 3 (.long x) = [l0, l1, xk l2, some (.long x), none, l5, l6, l7] by simp only [xst2_0, xst2_1, xst2_s, Nat.reduceAdd])
theorem dX2_spread_2 : decode cX2_spread 2 = .ok (.iconst 0, 1) := by decide +kernel
theorem w24_2 {d : Nat} {st : List Value} {h : xH} {K : Option Value → xH → Prop} {ls : xL} : wp d 24 2 ls st h K ↔ wp d 24 3 ls (.int 0 :: st) h K := w_iconst (i := 24) (pc := 2) dX2_spread_2 (by decide)
theorem dX2_spread_3 : decode cX2_spread 3 = .ok (.istore 5, 2) := by decide +kernel
theorem w24_3 {d : Nat} {st : List Value} {h : xH} {K : Option Value → xH → Prop} {l0 l1 l2 l3 l4 l5 l6 l7 : Option Value} {x : Int32} : wp d 24 3 [l0, l1, l2, l3, l4, l5, l6, l7] (.int x :: st) h K ↔ wp d 24 5 [l0, l1, l2, l3, xk l4, some (.int x), l6, l7] st h K := w_istore (i := 24) (pc := 3) dX2_spread_3 (Nat.le_of_ble_eq_true rfl) (show xst1 [l0, l1, l2, l3, l4, l5, l6, l7] 5 (.int x) = [l0, l1, l2, l3, xk l4, some (.int x), l6, l7] by simp only [xst1_0, xst1_1, xst1_s, Nat.reduceAdd])
theorem dX2_spread_5 : decode cX2_spread 5 = .ok (.iload 5, 2) := by decide +kernel
theorem w24_5 {d : Nat} {st : List Value} {h : xH} {K : Option Value → xH → Prop} {l0 l1 l2 l3 l4 l6 l7 : Option Value} {x : Int32} : wp d 24 5 [l0, l1, l2, l3, l4, some (.int x), l6, l7] st h K ↔ wp d 24 7 [l0, l1, l2, l3, l4, some (.int x), l6, l7] (.int x :: st) h K := w_any (i := 24) (pc := 5) dX2_spread_5 rfl rfl
theorem dX2_spread_7 : decode cX2_spread 7 = .ok (.aload_n 0, 1) := by decide +kernel
theorem w24_7 {d : Nat} {st : List Value} {h : xH} {K : Option Value → xH → Prop} {l1 l2 l3 l4 l5 l6 l7 : Option Value} {x : Nat} : wp d 24 7 [some (.ref x), l1, l2, l3, l4, l5, l6, l7] st h K ↔ wp d 24 8 [some (.ref x), l1, l2, l3, l4, l5, l6, l7] (.ref x :: st) h K := w_any (i := 24) (pc := 7) dX2_spread_7 rfl rfl
theorem w24_7n {d : Nat} {st : List Value} {h : xH} {K : Option Value → xH → Prop} {l1 l2 l3 l4 l5 l6 l7 : Option Value} : wp d 24 7 [some .null, l1, l2, l3, l4, l5, l6, l7] st h K ↔ wp d 24 8 [some .null, l1, l2, l3, l4, l5, l6, l7] (.null :: st) h K := w_any (i := 24) (pc := 7) dX2_spread_7 rfl rfl
theorem dX2_spread_8 : decode cX2_spread 8 = .ok (.getfield 15, 3) := by decide +kernel
theorem w24_8 {d : Nat} {st : List Value} {h : xH} {K : Option Value → xH → Prop} {ls : xL} {a : Nat} : wp d 24 8 ls (.ref a :: st) h K ↔ y_get h a 3 2 (fun v => wp d 24 11 ls (v :: st) h K) := w_get (i := 24) (pc := 8) dX2_spread_8 rfl
theorem dX2_spread_11 : decode cX2_spread 11 = .ok (.if_icmp .ge 62, 3) := by decide +kernel
theorem w24_11 {d : Nat} {st : List Value} {h : xH} {K : Option Value → xH → Prop} {ls : xL} {x y : Int32} : wp d 24 11 ls (.int y :: .int x :: st) h K ↔ ((y ≤ x) → wp d 24 73 ls st h K) ∧ ((¬ (y ≤ x)) → wp d 24 14 ls st h K) := w_if2 (i := 24) (pc := 11) (cd := .ge) (off := 62) (tgt := 73) dX2_spread_11 (by decide) rfl
theorem dX2_spread_14 : decode cX2_spread 14 = .ok (.iconst 0, 1) := by decide +kernel
theorem w24_14 {d : Nat} {st : List Value} {h : xH} {K : Option Value → xH → Prop} {ls : xL} : wp d 24 14 ls st h K ↔ wp d 24 15 ls (.int 0 :: st) h K := w_iconst (i := 24) (pc := 14) dX2_spread_14 (by decide)
theorem dX2_spread_15 : decode cX2_spread 15 = .ok (.istore 6, 2) := by decide +kernel
theorem w24_15 {d : Nat} {st : List Value} {h : xH} {K : Option Value → xH → Prop} {l0 l1 l2 l3 l4 l5 l6 l7 : Option Value} {x : Int32} : wp d 24 15 [l0, l1, l2, l3, l4, l5, l6, l7] (.int x :: st) h K ↔ wp d 24 17 [l0, l1, l2, l3, l4, xk l5, some (.int x), l7] st h K := w_istore (i := 24) (pc := 15) dX2_spread_15 (Nat.le_of_ble_eq_true rfl) (show xst1 [l0, l1, l2, l3, l4, l5, l6, l7] 6 (.int x) = [l0, l1, l2, l3, l4, xk l5, some (.int x), l7] by simp only [xst1_0, xst1_1, xst1_s, Nat.reduceAdd])
theorem dX2_spread_17 : decode cX2_spread 17 = .ok (.iload 6, 2) := by decide +kernel
theorem w24_17 {d : Nat} {st : List Value} {h : xH} {K : Option Value → xH → Prop} {l0 l1 l2 l3 l4 l5 l7 : Option Value} {x : Int32} : wp d 24 17 [l0, l1, l2, l3, l4, l5, some (.int x), l7] st h K ↔ wp d 24 19 [l0, l1, l2, l3, l4, l5, some (.int x), l7] (.int x :: st) h K := w_any (i := 24) (pc := 17) dX2_spread_17 rfl rfl
theorem dX2_spread_19 : decode cX2_spread 19 = .ok (.iconst 4, 1) := by decide +kernel
theorem w24_19 {d : Nat} {st : List Value} {h : xH} {K : Option Value → xH → Prop} {ls : xL} : wp d 24 19 ls st h K ↔ wp d 24 20 ls (.int 4 :: st) h K := w_iconst (i := 24) (pc := 19) dX2_spread_19 (by decide)
theorem dX2_spread_20 : decode cX2_spread 20 = .ok (.if_icmp .ge 47, 3) := by decide +kernel
theorem w24_20 {d : Nat} {st : List Value} {h : xH} {K : Option Value → xH → Prop} {ls : xL} {x y : Int32} : wp d 24 20 ls (.int y :: .int x :: st) h K ↔ ((y ≤ x) → wp d 24 67 ls st h K) ∧ ((¬ (y ≤ x)) → wp d 24 23 ls st h K) := w_if2 (i := 24) (pc := 20) (cd := .ge) (off := 47) (tgt := 67) dX2_spread_20 (by decide) rfl
theorem dX2_spread_23 : decode cX2_spread 23 = .ok (.lload_n 1, 1) := by decide +kernel
theorem w24_23 {d : Nat} {st : List Value} {h : xH} {K : Option Value → xH → Prop} {l0 l2 l3 l4 l5 l6 l7 : Option Value} {x : Int64} : wp d 24 23 [l0, some (.long x), l2, l3, l4, l5, l6, l7] st h K ↔ wp d 24 24 [l0, some (.long x), l2, l3, l4, l5, l6, l7] (.long x :: st) h K := w_any (i := 24) (pc := 23) dX2_spread_23 rfl rfl
theorem dX2_spread_24 : decode cX2_spread 24 = .ok (.iload 5, 2) := by decide +kernel
theorem w24_24 {d : Nat} {st : List Value} {h : xH} {K : Option Value → xH → Prop} {l0 l1 l2 l3 l4 l6 l7 : Option Value} {x : Int32} : wp d 24 24 [l0, l1, l2, l3, l4, some (.int x), l6, l7] st h K ↔ wp d 24 26 [l0, l1, l2, l3, l4, some (.int x), l6, l7] (.int x :: st) h K := w_any (i := 24) (pc := 24) dX2_spread_24 rfl rfl
theorem dX2_spread_26 : decode cX2_spread 26 = .ok (.lshr, 1) := by decide +kernel
theorem w24_26 {d : Nat} {st : List Value} {h : xH} {K : Option Value → xH → Prop} {ls : xL} {x : Int64} {y : Int32} : wp d 24 26 ls (.int y :: .long x :: st) h K ↔ wp d 24 27 ls (.long (x >>> (y.toInt64 &&& 63)) :: st) h K := w_any (i := 24) (pc := 26) dX2_spread_26 rfl rfl
theorem dX2_spread_27 : decode cX2_spread 27 = .ok (.lconst 1, 1) := by decide +kernel
theorem w24_27 {d : Nat} {st : List Value} {h : xH} {K : Option Value → xH → Prop} {ls : xL} : wp d 24 27 ls st h K ↔ wp d 24 28 ls (.long 1 :: st) h K := w_lconst (i := 24) (pc := 27) dX2_spread_27 (by decide)
theorem dX2_spread_28 : decode cX2_spread 28 = .ok (.land, 1) := by decide +kernel
theorem w24_28 {d : Nat} {st : List Value} {h : xH} {K : Option Value → xH → Prop} {ls : xL} {x y : Int64} : wp d 24 28 ls (.long y :: .long x :: st) h K ↔ wp d 24 29 ls (.long (x &&& y) :: st) h K := w_any (i := 24) (pc := 28) dX2_spread_28 rfl rfl
theorem dX2_spread_29 : decode cX2_spread 29 = .ok (.lconst 1, 1) := by decide +kernel
theorem w24_29 {d : Nat} {st : List Value} {h : xH} {K : Option Value → xH → Prop} {ls : xL} : wp d 24 29 ls st h K ↔ wp d 24 30 ls (.long 1 :: st) h K := w_lconst (i := 24) (pc := 29) dX2_spread_29 (by decide)
theorem dX2_spread_30 : decode cX2_spread 30 = .ok (.lcmp, 1) := by decide +kernel
theorem w24_30 {d : Nat} {st : List Value} {h : xH} {K : Option Value → xH → Prop} {ls : xL} {x y : Int64} : wp d 24 30 ls (.long y :: .long x :: st) h K ↔ wp d 24 31 ls (.int (lg_cmp x y) :: st) h K := w_any (i := 24) (pc := 30) dX2_spread_30 rfl rfl
theorem dX2_spread_31 : decode cX2_spread 31 = .ok (.ifCond .ne 36, 3) := by decide +kernel
theorem w24_31 {d : Nat} {st : List Value} {h : xH} {K : Option Value → xH → Prop} {ls : xL} {x : Int32} : wp d 24 31 ls (.int x :: st) h K ↔ ((¬ x = 0) → wp d 24 67 ls st h K) ∧ ((x = 0) → wp d 24 34 ls st h K) := (w_if1 (i := 24) (pc := 31) (cd := .ne) (off := 36) (tgt := 67) dX2_spread_31 (by decide) rfl).trans (and_congr Iff.rfl (imp_congr Classical.not_not Iff.rfl))
theorem dX2_spread_34 : decode cX2_spread 34 = .ok (.aload_n 0, 1) := by decide +kernel
theorem w24_34 {d : Nat} {st : List Value} {h : xH} {K : Option Value → xH → Prop} {l1 l2 l3 l4 l5 l6 l7 : Option Value} {x : Nat} : wp d 24 34 [some (.ref x), l1, l2, l3, l4, l5, l6, l7] st h K ↔ wp d 24 35 [some (.ref x), l1, l2, l3, l4, l5, l6, l7] (.ref x :: st) h K := w_any (i := 24) (pc := 34) dX2_spread_34 rfl rfl
theorem w24_34n {d : Nat} {st : List Value} {h : xH} {K : Option Value → xH → Prop} {l1 l2 l3 l4 l5 l6 l7 : Option Value} : wp d 24 34 [some .null, l1, l2, l3, l4, l5, l6, l7] st h K ↔ wp d 24 35 [some .null, l1, l2, l3, l4, l5, l6, l7] (.null :: st) h K := w_any (i := 24) (pc := 34) dX2_spread_34 rfl rfl
theorem dX2_spread_35 : decode cX2_spread 35 = .ok (.iload 5, 2) := by decide +kernel
theorem w24_35 {d : Nat} {st : List Value} {h : xH} {K : Option Value → xH → Prop} {l0 l1 l2 l3 l4 l6 l7 : Option Value} {x : Int32} : wp d 24 35 [l0, l1, l2, l3, l4, some (.int x), l6, l7] st h K ↔ wp d 24 37 [l0, l1, l2, l3, l4, some (.int x), l6, l7] (.int x :: st) h K := w_any (i := 24) (pc := 35) dX2_spread_35 rfl rfl
theorem dX2_spread_37 : decode cX2_spread 37 = .ok (.iload 6, 2) := by decide +kernel
theorem w24_37 {d : Nat} {st : List Value} {h : xH} {K : Option Value → xH → Prop} {l0 l1 l2 l3 l4 l5 l7 : Option Value} {x : Int32} : wp d 24 37 [l0, l1, l2, l3, l4, l5, some (.int x), l7] st h K ↔ wp d 24 39 [l0, l1, l2, l3, l4, l5, some (.int x), l7] (.int x :: st) h K := w_any (i := 24) (pc := 37) dX2_spread_37 rfl rfl
theorem dX2_spread_39 : decode cX2_spread 39 = .ok (.invokevirtual 36, 3) := by decide +kernel
theorem w24_39 {d : Nat} {st : List Value} {h : xH} {K : Option Value → xH → Prop} {ls : xL} {a0 : Int32} {a1 : Int32} {b : Nat} : wp (d + 1) 24 39 ls (.int a1 :: .int a0 :: .ref b :: st) h K ↔ y_cls h b 3 ∧ xcs st ≤ 8 ∧ wp d 22 0 [some (.ref b), some (.int a0), some (.int a1), none] [] h (fun v h1 => wp (d + 1) 24 42 ls (v.toList ++ st) h1 K) := w_callW (i := 24) (pc := 39) (as := [.int a0, .int a1]) (rest := st) dX2_spread_39 rfl (by decide) rfl rfl (by decide) rfl rfl rfl rfl
theorem dX2_spread_42 : decode cX2_spread 42 = .ok (.istore 7, 2) := by decide +kernel
theorem w24_42 {d : Nat} {st : List Value} {h : xH} {K : Option Value → xH → Prop} {l0 l1 l2 l3 l4 l5 l6 l7 : Option Value} {x : Int32} : wp d 24 42 [l0, l1, l2, l3, l4, l5, l6, l7] (.int x :: st) h K ↔ wp d 24 44 [l0, l1, l2, l3, l4, l5, xk l6, some (.int x)] st h K := w_istore (i := 24) (pc := 42) dX2_spread_42 (Nat.le_of_ble_eq_true rfl) (show xst1 [l0, l1, l2, l3, l4, l5, l6, l7] 7 (.int x) = [l0, l1, l2, l3, l4, l5, xk l6, some (.int x)] by simp only [xst1_0, xst1_1, xst1_s, Nat.reduceAdd])
theorem dX2_spread_44 : decode cX2_spread 44 = .ok (.aload_n 0, 1) := by decide +kernel
theorem w24_44 {d : Nat} {st : List Value} {h : xH} {K : Option Value → xH → Prop} {l1 l2 l3 l4 l5 l6 l7 : Option Value} {x : Nat} : wp d 24 44 [some (.ref x), l1, l2, l3, l4, l5, l6, l7] st h K ↔ wp d 24 45 [some (.ref x), l1, l2, l3, l4, l5, l6, l7] (.ref x :: st) h K := w_any (i := 24) (pc := 44) dX2_spread_44 rfl rfl
theorem w24_44n {d : Nat} {st : List Value} {h : xH} {K : Option Value → xH → Prop} {l1 l2 l3 l4 l5 l6 l7 : Option Value} : wp d 24 44 [some .null, l1, l2, l3, l4, l5, l6, l7] st h K ↔ wp d 24 45 [some .null, l1, l2, l3, l4, l5, l6, l7] (.null :: st) h K := w_any (i := 24) (pc := 44) dX2_spread_44 rfl rfl
theorem dX2_spread_45 : decode cX2_spread 45 = .ok (.iload 7, 2) := by decide +kernel
theorem w24_45 {d : Nat} {st : List Value} {h : xH} {K : Option Value → xH → Prop} {l0 l1 l2 l3 l4 l5 l6 : Option Value} {x : Int32} : wp d 24 45 [l0, l1, l2, l3, l4, l5, l6, some (.int x)] st h K ↔ wp d 24 47 [l0, l1, l2, l3, l4, l5, l6, some (.int x)] (.int x :: st) h K := w_any (i := 24) (pc := 45) dX2_spread_45 rfl rfl
theorem dX2_spread_47 : decode cX2_spread 47 = .ok (.invokevirtual 32, 3) := by decide +kernel
theorem w24_47 {d : Nat} {st : List Value} {h : xH} {K : Option Value → xH → Prop} {ls : xL} {a0 : Int32} {b : Nat} : wp (d + 1) 24 47 ls (.int a0 :: .ref b :: st) h K ↔ y_cls h b 3 ∧ xcs st ≤ 8 ∧ wp d 19 0 [some (.ref b), some (.int a0)] [] h (fun v h1 => wp (d + 1) 24 50 ls (v.toList ++ st) h1 K) := w_callW (i := 24) (pc := 47) (as := [.int a0]) (rest := st) dX2_spread_47 rfl (by decide) rfl rfl (by decide) rfl rfl rfl rfl
theorem dX2_spread_50 : decode cX2_spread 50 = .ok (.iconst 1, 1) := by decide +kernel
theorem w24_50 {d : Nat} {st : List Value} {h : xH} {K : Option Value → xH → Prop} {ls : xL} : wp d 24 50 ls st h K ↔ wp d 24 51 ls (.int 1 :: st) h K := w_iconst (i := 24) (pc := 50) dX2_spread_50 (by decide)
theorem dX2_spread_51 : decode cX2_spread 51 = .ok (.if_icmp .eq 10, 3) := by decide +kernel
theorem w24_51 {d : Nat} {st : List Value} {h : xH} {K : Option Value → xH → Prop} {ls : xL} {x y : Int32} : wp d 24 51 ls (.int y :: .int x :: st) h K ↔ ((x = y) → wp d 24 61 ls st h K) ∧ ((¬ (x = y)) → wp d 24 54 ls st h K) := w_if2 (i := 24) (pc := 51) (cd := .eq) (off := 10) (tgt := 61) dX2_spread_51 (by decide) rfl
theorem dX2_spread_54 : decode cX2_spread 54 = .ok (.lload_n 3, 1) := by decide +kernel
theorem w24_54 {d : Nat} {st : List Value} {h : xH} {K : Option Value → xH → Prop} {l0 l1 l2 l4 l5 l6 l7 : Option Value} {x : Int64} : wp d 24 54 [l0, l1, l2, some (.long x), l4, l5, l6, l7] st h K ↔ wp d 24 55 [l0, l1, l2, some (.long x), l4, l5, l6, l7] (.long x :: st) h K := w_any (i := 24) (pc := 54) dX2_spread_54 rfl rfl
theorem dX2_spread_55 : decode cX2_spread 55 = .ok (.lconst 1, 1) := by decide +kernel
theorem w24_55 {d : Nat} {st : List Value} {h : xH} {K : Option Value → xH → Prop} {ls : xL} : wp d 24 55 ls st h K ↔ wp d 24 56 ls (.long 1 :: st) h K := w_lconst (i := 24) (pc := 55) dX2_spread_55 (by decide)
theorem dX2_spread_56 : decode cX2_spread 56 = .ok (.iload 7, 2) := by decide +kernel
theorem w24_56 {d : Nat} {st : List Value} {h : xH} {K : Option Value → xH → Prop} {l0 l1 l2 l3 l4 l5 l6 : Option Value} {x : Int32} : wp d 24 56 [l0, l1, l2, l3, l4, l5, l6, some (.int x)] st h K ↔ wp d 24 58 [l0, l1, l2, l3, l4, l5, l6, some (.int x)] (.int x :: st) h K := w_any (i := 24) (pc := 56) dX2_spread_56 rfl rfl
theorem dX2_spread_58 : decode cX2_spread 58 = .ok (.lshl, 1) := by decide +kernel
theorem w24_58 {d : Nat} {st : List Value} {h : xH} {K : Option Value → xH → Prop} {ls : xL} {x : Int64} {y : Int32} : wp d 24 58 ls (.int y :: .long x :: st) h K ↔ wp d 24 59 ls (.long (x <<< (y.toInt64 &&& 63)) :: st) h K := w_any (i := 24) (pc := 58) dX2_spread_58 rfl rfl
theorem dX2_spread_59 : decode cX2_spread 59 = .ok (.lor, 1) := by decide +kernel
theorem w24_59 {d : Nat} {st : List Value} {h : xH} {K : Option Value → xH → Prop} {ls : xL} {x y : Int64} : wp d 24 59 ls (.long y :: .long x :: st) h K ↔ wp d 24 60 ls (.long (x ||| y) :: st) h K := w_any (i := 24) (pc := 59) dX2_spread_59 rfl rfl
theorem dX2_spread_60 : decode cX2_spread 60 = .ok (.lstore_n 3, 1) := by decide +kernel
theorem w24_60 {d : Nat} {st : List Value} {h : xH} {K : Option Value → xH → Prop} {l0 l1 l2 l3 l4 l5 l6 l7 : Option Value} {x : Int64} : wp d 24 60 [l0, l1, l2, l3, l4, l5, l6, l7] (.long x :: st) h K ↔ wp d 24 61 [l0, l1, xk l2, some (.long x), none, l5, l6, l7] st h K := w_lstore_n (i := 24) (pc := 60) dX2_spread_60 (Nat.le_of_ble_eq_true rfl) (show xst2 [l0, l1, l2, l3, l4, l5, l6, l7] 3 (.long x) = [l0, l1, xk l2, some (.long x), none, l5, l6, l7] by simp only [xst2_0, xst2_1, xst2_s, Nat.reduceAdd])
theorem dX2_spread_61 : decode cX2_spread 61 = .ok (.iinc 6 1, 3) := by decide +kernel
theorem w24_61 {d : Nat} {st : List Value} {h : xH} {K : Option Value → xH → Prop} {l0 l1 l2 l3 l4 l5 l7 : Option Value} {x : Int32} : wp d 24 61 [l0, l1, l2, l3, l4, l5, some (.int x), l7] st h K ↔ wp d 24 64 [l0, l1, l2, l3, l4, xk l5, some (.int (x + 1)), l7] st h K := w_iinc (i := 24) (pc := 61) dX2_spread_61 rfl (Nat.le_of_ble_eq_true rfl) (by decide) (show xst1 [l0, l1, l2, l3, l4, l5, some (.int x), l7] 6 (.int (x + 1)) = [l0, l1, l2, l3, l4, xk l5, some (.int (x + 1)), l7] by simp only [xst1_0, xst1_1, xst1_s, Nat.reduceAdd])
theorem dX2_spread_64 : decode cX2_spread 64 = .ok (.goto (-47), 3) := by decide +kernel
theorem w24_64 {d : Nat} {st : List Value} {h : xH} {K : Option Value → xH → Prop} {ls : xL} : wp d 24 64 ls st h K ↔ wp d 24 17 ls st h K := w_goto (i := 24) (pc := 64) dX2_spread_64 (by decide) rfl
theorem dX2_spread_67 : decode cX2_spread 67 = .ok (.iinc 5 1, 3) := by decide +kernel
theorem w24_67 {d : Nat} {st : List Value} {h : xH} {K : Option Value → xH → Prop} {l0 l1 l2 l3 l4 l6 l7 : Option Value} {x : Int32} : wp d 24 67 [l0, l1, l2, l3, l4, some (.int x), l6, l7] st h K ↔ wp d 24 70 [l0, l1, l2, l3, xk l4, some (.int (x + 1)), l6, l7] st h K := w_iinc (i := 24) (pc := 67) dX2_spread_67 rfl (Nat.le_of_ble_eq_true rfl) (by decide) (show xst1 [l0, l1, l2, l3, l4, some (.int x), l6, l7] 5 (.int (x + 1)) = [l0, l1, l2, l3, xk l4, some (.int (x + 1)), l6, l7] by simp only [xst1_0, xst1_1, xst1_s, Nat.reduceAdd])
theorem dX2_spread_70 : decode cX2_spread 70 = .ok (.goto (-65), 3) := by decide +kernel
theorem w24_70 {d : Nat} {st : List Value} {h : xH} {K : Option Value → xH → Prop} {ls : xL} : wp d 24 70 ls st h K ↔ wp d 24 5 ls st h K := w_goto (i := 24) (pc := 70) dX2_spread_70 (by decide) rfl
theorem dX2_spread_73 : decode cX2_spread 73 = .ok (.lload_n 3, 1) := by decide +kernel
theorem w24_73 {d : Nat} {st : List Value} {h : xH} {K : Option Value → xH → Prop} {l0 l1 l2 l4 l5 l6 l7 : Option Value} {x : Int64} : wp d 24 73 [l0, l1, l2, some (.long x), l4, l5, l6, l7] st h K ↔ wp d 24 74 [l0, l1, l2, some (.long x), l4, l5, l6, l7] (.long x :: st) h K := w_any (i := 24) (pc := 73) dX2_spread_73 rfl rfl
theorem dX2_spread_74 : decode cX2_spread 74 = .ok (.lreturn, 1) := by decide +kernel
theorem w24_74 {d : Nat} {h : xH} {K : Option Value → xH → Prop} {ls : xL} {x : Int64} : wp d 24 74 ls [.long x] h K ↔ K (some (.long x)) h := w_lret (i := 24) (pc := 74) dX2_spread_74 rfl
theorem dX4_init_0 : decode cX4_init 0 = .ok (.aload_n 0, 1) := by decide +kernel
theorem w26_0 {d : Nat} {st : List Value} {h : xH} {K : Option Value → xH → Prop} {x : Nat} : wp d 26 0 [some (.ref x)] st h K ↔ wp d 26 1 [some (.ref x)] (.ref x :: st) h K := w_any (i := 26) (pc := 0) dX4_init_0 rfl rfl
theorem w26_0n {d : Nat} {st : List Value} {h : xH} {K : Option Value → xH → Prop} : wp d 26 0 [some .null] st h K ↔ wp d 26 1 [some .null] (.null :: st) h K := w_any (i := 26) (pc := 0) dX4_init_0 rfl rfl
theorem dX4_init_1 : decode cX4_init 1 = .ok (.invokespecial 3, 3) := by decide +kernel
theorem w26_1 {d : Nat} {st : List Value} {h : xH} {K : Option Value → xH → Prop} {ls : xL} {a : Nat} : wp d 26 1 ls (.ref a :: st) h K ↔ xcs st ≤ 8 ∧ wp d 26 4 ls st h K := w_objI (i := 26) (pc := 1) dX4_init_1 rfl
theorem dX4_init_4 : decode cX4_init 4 = .ok (.aload_n 0, 1) := by decide +kernel
theorem w26_4 {d : Nat} {st : List Value} {h : xH} {K : Option Value → xH → Prop} {x : Nat} : wp d 26 4 [some (.ref x)] st h K ↔ wp d 26 5 [some (.ref x)] (.ref x :: st) h K := w_any (i := 26) (pc := 4) dX4_init_4 rfl rfl
theorem w26_4n {d : Nat} {st : List Value} {h : xH} {K : Option Value → xH → Prop} : wp d 26 4 [some .null] st h K ↔ wp d 26 5 [some .null] (.null :: st) h K := w_any (i := 26) (pc := 4) dX4_init_4 rfl rfl
theorem dX4_init_5 : decode cX4_init 5 = .ok (.bipush 50, 2) := by decide +kernel
theorem w26_5 {d : Nat} {st : List Value} {h : xH} {K : Option Value → xH → Prop} {ls : xL} : wp d 26 5 ls st h K ↔ wp d 26 7 ls (.int 50 :: st) h K := w_bipush (i := 26) (pc := 5) dX4_init_5 (by decide)
theorem dX4_init_7 : decode cX4_init 7 = .ok (.newarray .int, 2) := by decide +kernel
theorem w26_7 {d : Nat} {st : List Value} {h : xH} {K : Option Value → xH → Prop} {ls : xL} {n : Int32} : wp d 26 7 ls (.int n :: st) h K ↔ ¬ n < 0 ∧ n.toNatClampNeg ≤ 1000 ∧ wp d 26 9 ls (.ref h.length :: st) (h ++ [.inl (0, n.toNatClampNeg, .inl (fun _ => 0))]) K := w_any (i := 26) (pc := 7) dX4_init_7 rfl rfl
theorem dX4_init_9 : decode cX4_init 9 = .ok (.putfield 9, 3) := by decide +kernel
theorem w26_9 {d : Nat} {st : List Value} {h : xH} {K : Option Value → xH → Prop} {ls : xL} {x : Nat} {a : Nat} : wp d 26 9 ls (.ref x :: .ref a :: st) h K ↔ y_put h a 5 0 (.ref x) (fun h1 => wp d 26 12 ls st h1 K) := w_put (i := 26) (pc := 9) dX4_init_9 rfl trivial (Or.inr ⟨rfl, by decide, rfl⟩)
theorem dX4_init_12 : decode cX4_init 12 = .ok (.aload_n 0, 1) := by decide +kernel
theorem w26_12 {d : Nat} {st : List Value} {h : xH} {K : Option Value → xH → Prop} {x : Nat} : wp d 26 12 [some (.ref x)] st h K ↔ wp d 26 13 [some (.ref x)] (.ref x :: st) h K := w_any (i := 26) (pc := 12) dX4_init_12 rfl rfl
theorem w26_12n {d : Nat} {st : List Value} {h : xH} {K : Option Value → xH → Prop} : wp d 26 12 [some .null] st h K ↔ wp d 26 13 [some .null] (.null :: st) h K := w_any (i := 26) (pc := 12) dX4_init_12 rfl rfl
theorem dX4_init_13 : decode cX4_init 13 = .ok (.bipush (-9), 2) := by decide +kernel
theorem w26_13 {d : Nat} {st : List Value} {h : xH} {K : Option Value → xH → Prop} {ls : xL} : wp d 26 13 ls st h K ↔ wp d 26 15 ls (.int (-9) :: st) h K := w_bipush (i := 26) (pc := 13) dX4_init_13 (by decide)
theorem dX4_init_15 : decode cX4_init 15 = .ok (.putfield 15, 3) := by decide +kernel
theorem w26_15 {d : Nat} {st : List Value} {h : xH} {K : Option Value → xH → Prop} {ls : xL} {x : Int32} {a : Nat} : wp d 26 15 ls (.int x :: .ref a :: st) h K ↔ y_put h a 5 1 (.int x) (fun h1 => wp d 26 18 ls st h1 K) := w_put (i := 26) (pc := 15) dX4_init_15 rfl trivial (Or.inl rfl)
theorem dX4_init_18 : decode cX4_init 18 = .ok (.return_, 1) := by decide +kernel
theorem w26_18 {d : Nat} {h : xH} {K : Option Value → xH → Prop} {ls : xL} : wp d 26 18 ls [] h K ↔ K none h := w_vret (i := 26) (pc := 18) dX4_init_18 rfl
theorem dX4_isNothing_0 : decode cX4_isNothing 0 = .ok (.aload_n 0, 1) := by decide +kernel
theorem w27_0 {d : Nat} {st : List Value} {h : xH} {K : Option Value → xH → Prop} {x : Nat} : wp d 27 0 [some (.ref x)] st h K ↔ wp d 27 1 [some (.ref x)] (.ref x :: st) h K := w_any (i := 27) (pc := 0) dX4_isNothing_0 rfl rfl
theorem w27_0n {d : Nat} {st : List Value} {h : xH} {K : Option Value → xH → Prop} : wp d 27 0 [some .null] st h K ↔ wp d 27 1 [some .null] (.null :: st) h K := w_any (i := 27) (pc := 0) dX4_isNothing_0 rfl rfl
theorem dX4_isNothing_1 : decode cX4_isNothing 1 = .ok (.getfield 15, 3) := by decide +kernel
theorem w27_1 {d : Nat} {st : List Value} {h : xH} {K : Option Value → xH → Prop} {ls : xL} {a : Nat} : wp d 27 1 ls (.ref a :: st) h K ↔ y_get h a 5 1 (fun v => wp d 27 4 ls (v :: st) h K) := w_get (i := 27) (pc := 1) dX4_isNothing_1 rfl
theorem dX4_isNothing_4 : decode cX4_isNothing 4 = .ok (.bipush (-9), 2) := by decide +kernel
theorem w27_4 {d : Nat} {st : List Value} {h : xH} {K : Option Value → xH → Prop} {ls : xL} : wp d 27 4 ls st h K ↔ wp d 27 6 ls (.int (-9) :: st) h K := w_bipush (i := 27) (pc := 4) dX4_isNothing_4 (by decide)
theorem dX4_isNothing_6 : decode cX4_isNothing 6 = .ok (.if_icmp .ne 7, 3) := by decide +kernel
theorem w27_6 {d : Nat} {st : List Value} {h : xH} {K : Option Value → xH → Prop} {ls : xL} {x y : Int32} : wp d 27 6 ls (.int y :: .int x :: st) h K ↔ ((¬ x = y) → wp d 27 13 ls st h K) ∧ ((x = y) → wp d 27 9 ls st h K) := (w_if2 (i := 27) (pc := 6) (cd := .ne) (off := 7) (tgt := 13) dX4_isNothing_6 (by decide) rfl).trans (and_congr Iff.rfl (imp_congr Classical.not_not Iff.rfl))
theorem dX4_isNothing_9 : decode cX4_isNothing 9 = .ok (.iconst 1, 1) := by decide +kernel
theorem w27_9 {d : Nat} {st : List Value} {h : xH} {K : Option Value → xH → Prop} {ls : xL} : wp d 27 9 ls st h K ↔ wp d 27 10 ls (.int 1 :: st) h K := w_iconst (i := 27) (pc := 9) dX4_isNothing_9 (by decide)
theorem dX4_isNothing_10 : decode cX4_isNothing 10 = .ok (.goto 4, 3) := by decide +kernel
theorem w27_10 {d : Nat} {st : List Value} {h : xH} {K : Option Value → xH → Prop} {ls : xL} : wp d 27 10 ls st h K ↔ wp d 27 14 ls st h K := w_goto (i := 27) (pc := 10) dX4_isNothing_10 (by decide) rfl
theorem dX4_isNothing_13 : decode cX4_isNothing 13 = .ok (.iconst 0, 1) := by decide +kernel
theorem w27_13 {d : Nat} {st : List Value} {h : xH} {K : Option Value → xH → Prop} {ls : xL} : wp d 27 13 ls st h K ↔ wp d 27 14 ls (.int 0 :: st) h K := w_iconst (i := 27) (pc := 13) dX4_isNothing_13 (by decide)
theorem dX4_isNothing_14 : decode cX4_isNothing 14 = .ok (.ireturn, 1) := by decide +kernel
theorem w27_14 {d : Nat} {h : xH} {K : Option Value → xH → Prop} {ls : xL} {x : Int32} : wp d 27 14 ls [.int x] h K ↔ y_bool x ∧ K (some (.int x)) h := w_zret (i := 27) (pc := 14) dX4_isNothing_14 rfl
theorem dX4_renew_0 : decode cX4_renew 0 = .ok (.aload_n 0, 1) := by decide +kernel
theorem w29_0 {d : Nat} {st : List Value} {h : xH} {K : Option Value → xH → Prop} {l1 l2 : Option Value} {x : Nat} : wp d 29 0 [some (.ref x), l1, l2] st h K ↔ wp d 29 1 [some (.ref x), l1, l2] (.ref x :: st) h K := w_any (i := 29) (pc := 0) dX4_renew_0 rfl rfl
theorem w29_0n {d : Nat} {st : List Value} {h : xH} {K : Option Value → xH → Prop} {l1 l2 : Option Value} : wp d 29 0 [some .null, l1, l2] st h K ↔ wp d 29 1 [some .null, l1, l2] (.null :: st) h K := w_any (i := 29) (pc := 0) dX4_renew_0 rfl rfl
theorem dX4_renew_1 : decode cX4_renew 1 = .ok (.iload_n 1, 1) := by decide +kernel
theorem w29_1 {d : Nat} {st : List Value} {h : xH} {K : Option Value → xH → Prop} {l0 l2 : Option Value} {x : Int32} : wp d 29 1 [l0, some (.int x), l2] st h K ↔ wp d 29 2 [l0, some (.int x), l2] (.int x :: st) h K := w_any (i := 29) (pc := 1) dX4_renew_1 rfl rfl
theorem dX4_renew_2 : decode cX4_renew 2 = .ok (.putfield 15, 3) := by decide +kernel
theorem w29_2 {d : Nat} {st : List Value} {h : xH} {K : Option Value → xH → Prop} {ls : xL} {x : Int32} {a : Nat} : wp d 29 2 ls (.int x :: .ref a :: st) h K ↔ y_put h a 5 1 (.int x) (fun h1 => wp d 29 5 ls st h1 K) := w_put (i := 29) (pc := 2) dX4_renew_2 rfl trivial (Or.inl rfl)
theorem dX4_renew_5 : decode cX4_renew 5 = .ok (.aload_n 0, 1) := by decide +kernel
theorem w29_5 {d : Nat} {st : List Value} {h : xH} {K : Option Value → xH → Prop} {l1 l2 : Option Value} {x : Nat} : wp d 29 5 [some (.ref x), l1, l2] st h K ↔ wp d 29 6 [some (.ref x), l1, l2] (.ref x :: st) h K := w_any (i := 29) (pc := 5) dX4_renew_5 rfl rfl
theorem w29_5n {d : Nat} {st : List Value} {h : xH} {K : Option Value → xH → Prop} {l1 l2 : Option Value} : wp d 29 5 [some .null, l1, l2] st h K ↔ wp d 29 6 [some .null, l1, l2] (.null :: st) h K := w_any (i := 29) (pc := 5) dX4_renew_5 rfl rfl
theorem dX4_renew_6 : decode cX4_renew 6 = .ok (.iload_n 2, 1) := by decide +kernel
theorem w29_6 {d : Nat} {st : List Value} {h : xH} {K : Option Value → xH → Prop} {l0 l1 : Option Value} {x : Int32} : wp d 29 6 [l0, l1, some (.int x)] st h K ↔ wp d 29 7 [l0, l1, some (.int x)] (.int x :: st) h K := w_any (i := 29) (pc := 6) dX4_renew_6 rfl rfl
theorem dX4_renew_7 : decode cX4_renew 7 = .ok (.aload_n 0, 1) := by decide +kernel
theorem w29_7 {d : Nat} {st : List Value} {h : xH} {K : Option Value → xH → Prop} {l1 l2 : Option Value} {x : Nat} : wp d 29 7 [some (.ref x), l1, l2] st h K ↔ wp d 29 8 [some (.ref x), l1, l2] (.ref x :: st) h K := w_any (i := 29) (pc := 7) dX4_renew_7 rfl rfl
theorem w29_7n {d : Nat} {st : List Value} {h : xH} {K : Option Value → xH → Prop} {l1 l2 : Option Value} : wp d 29 7 [some .null, l1, l2] st h K ↔ wp d 29 8 [some .null, l1, l2] (.null :: st) h K := w_any (i := 29) (pc := 7) dX4_renew_7 rfl rfl
theorem dX4_renew_8 : decode cX4_renew 8 = .ok (.getfield 9, 3) := by decide +kernel
theorem w29_8 {d : Nat} {st : List Value} {h : xH} {K : Option Value → xH → Prop} {ls : xL} {a : Nat} : wp d 29 8 ls (.ref a :: st) h K ↔ y_get h a 5 0 (fun v => wp d 29 11 ls (v :: st) h K) := w_get (i := 29) (pc := 8) dX4_renew_8 rfl
theorem dX4_renew_11 : decode cX4_renew 11 = .ok (.arraylength, 1) := by decide +kernel
theorem w29_11 {d : Nat} {st : List Value} {h : xH} {K : Option Value → xH → Prop} {ls : xL} {a : Nat} : wp d 29 11 ls (.ref a :: st) h K ↔ y_alen h a (fun v => wp d 29 12 ls (.int v :: st) h K) := w_alen (i := 29) (pc := 11) dX4_renew_11
theorem dX4_renew_12 : decode cX4_renew 12 = .ok (.invokestatic 22, 3) := by decide +kernel
theorem w29_12 {d : Nat} {st : List Value} {h : xH} {K : Option Value → xH → Prop} {ls : xL} {x y : Int32} : wp d 29 12 ls (.int y :: .int x :: st) h K ↔ xcs st ≤ 8 ∧ wp d 29 15 ls (.int (if y < x then y else x) :: st) h K := w_min (i := 29) (pc := 12) dX4_renew_12 rfl
theorem dX4_renew_15 : decode cX4_renew 15 = .ok (.putfield 19, 3) := by decide +kernel
theorem w29_15 {d : Nat} {st : List Value} {h : xH} {K : Option Value → xH → Prop} {ls : xL} {x : Int32} {a : Nat} : wp d 29 15 ls (.int x :: .ref a :: st) h K ↔ y_put h a 5 2 (.int x) (fun h1 => wp d 29 18 ls st h1 K) := w_put (i := 29) (pc := 15) dX4_renew_15 rfl trivial (Or.inl rfl)
theorem dX4_renew_18 : decode cX4_renew 18 = .ok (.aload_n 0, 1) := by decide +kernel
theorem w29_18 {d : Nat} {st : List Value} {h : xH} {K : Option Value → xH → Prop} {l1 l2 : Option Value} {x : Nat} : wp d 29 18 [some (.ref x), l1, l2] st h K ↔ wp d 29 19 [some (.ref x), l1, l2] (.ref x :: st) h K := w_any (i := 29) (pc := 18) dX4_renew_18 rfl rfl
theorem w29_18n {d : Nat} {st : List Value} {h : xH} {K : Option Value → xH → Prop} {l1 l2 : Option Value} : wp d 29 18 [some .null, l1, l2] st h K ↔ wp d 29 19 [some .null, l1, l2] (.null :: st) h K := w_any (i := 29) (pc := 18) dX4_renew_18 rfl rfl
theorem dX4_renew_19 : decode cX4_renew 19 = .ok (.getfield 9, 3) := by decide +kernel
theorem w29_19 {d : Nat} {st : List Value} {h : xH} {K : Option Value → xH → Prop} {ls : xL} {a : Nat} : wp d 29 19 ls (.ref a :: st) h K ↔ y_get h a 5 0 (fun v => wp d 29 22 ls (v :: st) h K) := w_get (i := 29) (pc := 19) dX4_renew_19 rfl
theorem dX4_renew_22 : decode cX4_renew 22 = .ok (.iconst 0, 1) := by decide +kernel
theorem w29_22 {d : Nat} {st : List Value} {h : xH} {K : Option Value → xH → Prop} {ls : xL} : wp d 29 22 ls st h K ↔ wp d 29 23 ls (.int 0 :: st) h K := w_iconst (i := 29) (pc := 22) dX4_renew_22 (by decide)
theorem dX4_renew_23 : decode cX4_renew 23 = .ok (.invokestatic 28, 3) := by decide +kernel
theorem w29_23 {d : Nat} {st : List Value} {h : xH} {K : Option Value → xH → Prop} {ls : xL} {a0 : Nat} {a1 : Int32} : wp (d + 1) 29 23 ls (.int a1 :: .ref a0 :: st) h K ↔ xcs st ≤ 8 ∧ wp d 168 0 [some (.ref a0), some (.int a1), none, none] [] h (fun v h1 => wp (d + 1) 29 26 ls (v.toList ++ st) h1 K) := w_callS (i := 29) (pc := 23) (as := [.ref a0, .int a1]) (rest := st) dX4_renew_23 rfl (by decide) rfl rfl rfl rfl rfl
theorem dX4_renew_26 : decode cX4_renew 26 = .ok (.return_, 1) := by decide +kernel
theorem w29_26 {d : Nat} {h : xH} {K : Option Value → xH → Prop} {ls : xL} : wp d 29 26 ls [] h K ↔ K none h := w_vret (i := 29) (pc := 26) dX4_renew_26 rfl
theorem dX4_faultOfTaking_0 : decode cX4_faultOfTaking 0 = .ok (.aload_n 0, 1) := by decide +kernel
theorem w30_0 {d : Nat} {st : List Value} {h : xH} {K : Option Value → xH → Prop} {l1 : Option Value} {x : Nat} : wp d 30 0 [some (.ref x), l1] st h K ↔ wp d 30 1 [some (.ref x), l1] (.ref x :: st) h K := w_any (i := 30) (pc := 0) dX4_faultOfTaking_0 rfl rfl
theorem w30_0n {d : Nat} {st : List Value} {h : xH} {K : Option Value → xH → Prop} {l1 : Option Value} : wp d 30 0 [some .null, l1] st h K ↔ wp d 30 1 [some .null, l1] (.null :: st) h K := w_any (i := 30) (pc := 0) dX4_faultOfTaking_0 rfl rfl
theorem dX4_faultOfTaking_1 : decode cX4_faultOfTaking 1 = .ok (.invokevirtual 34, 3) := by decide +kernel
theorem w30_1 {d : Nat} {st : List Value} {h : xH} {K : Option Value → xH → Prop} {ls : xL} {b : Nat} : wp (d + 1) 30 1 ls (.ref b :: st) h K ↔ y_cls h b 5 ∧ xcs st ≤ 8 ∧ wp d 27 0 [some (.ref b)] [] h (fun v h1 => wp (d + 1) 30 4 ls (v.toList ++ st) h1 K) := w_callW (i := 30) (pc := 1) (as := []) (rest := st) dX4_faultOfTaking_1 rfl (by decide) rfl rfl (by decide) rfl rfl rfl rfl
theorem dX4_faultOfTaking_4 : decode cX4_faultOfTaking 4 = .ok (.ifCond .eq 5, 3) := by decide +kernel
theorem w30_4 {d : Nat} {st : List Value} {h : xH} {K : Option Value → xH → Prop} {ls : xL} {x : Int32} : wp d 30 4 ls (.int x :: st) h K ↔ ((x = 0) → wp d 30 9 ls st h K) ∧ ((¬ (x = 0)) → wp d 30 7 ls st h K) := w_if1 (i := 30) (pc := 4) (cd := .eq) (off := 5) (tgt := 9) dX4_faultOfTaking_4 (by decide) rfl
theorem dX4_faultOfTaking_7 : decode cX4_faultOfTaking 7 = .ok (.iconst 1, 1) := by decide +kernel
theorem w30_7 {d : Nat} {st : List Value} {h : xH} {K : Option Value → xH → Prop} {ls : xL} : wp d 30 7 ls st h K ↔ wp d 30 8 ls (.int 1 :: st) h K := w_iconst (i := 30) (pc := 7) dX4_faultOfTaking_7 (by decide)
theorem dX4_faultOfTaking_8 : decode cX4_faultOfTaking 8 = .ok (.ireturn, 1) := by decide +kernel
theorem w30_8 {d : Nat} {h : xH} {K : Option Value → xH → Prop} {ls : xL} {x : Int32} : wp d 30 8 ls [.int x] h K ↔ K (some (.int x)) h := w_iret (i := 30) (pc := 8) dX4_faultOfTaking_8 rfl
theorem dX4_faultOfTaking_9 : decode cX4_faultOfTaking 9 = .ok (.aload_n 0, 1) := by decide +kernel
theorem w30_9 {d : Nat} {st : List Value} {h : xH} {K : Option Value → xH → Prop} {l1 : Option Value} {x : Nat} : wp d 30 9 [some (.ref x), l1] st h K ↔ wp d 30 10 [some (.ref x), l1] (.ref x :: st) h K := w_any (i := 30) (pc := 9) dX4_faultOfTaking_9 rfl rfl
theorem w30_9n {d : Nat} {st : List Value} {h : xH} {K : Option Value → xH → Prop} {l1 : Option Value} : wp d 30 9 [some .null, l1] st h K ↔ wp d 30 10 [some .null, l1] (.null :: st) h K := w_any (i := 30) (pc := 9) dX4_faultOfTaking_9 rfl rfl
theorem dX4_faultOfTaking_10 : decode cX4_faultOfTaking 10 = .ok (.getfield 15, 3) := by decide +kernel
theorem w30_10 {d : Nat} {st : List Value} {h : xH} {K : Option Value → xH → Prop} {ls : xL} {a : Nat} : wp d 30 10 ls (.ref a :: st) h K ↔ y_get h a 5 1 (fun v => wp d 30 13 ls (v :: st) h K) := w_get (i := 30) (pc := 10) dX4_faultOfTaking_10 rfl
theorem dX4_faultOfTaking_13 : decode cX4_faultOfTaking 13 = .ok (.iload_n 1, 1) := by decide +kernel
theorem w30_13 {d : Nat} {st : List Value} {h : xH} {K : Option Value → xH → Prop} {l0 : Option Value} {x : Int32} : wp d 30 13 [l0, some (.int x)] st h K ↔ wp d 30 14 [l0, some (.int x)] (.int x :: st) h K := w_any (i := 30) (pc := 13) dX4_faultOfTaking_13 rfl rfl
theorem dX4_faultOfTaking_14 : decode cX4_faultOfTaking 14 = .ok (.if_icmp .ne 7, 3) := by decide +kernel
theorem w30_14 {d : Nat} {st : List Value} {h : xH} {K : Option Value → xH → Prop} {ls : xL} {x y : Int32} : wp d 30 14 ls (.int y :: .int x :: st) h K ↔ ((¬ x = y) → wp d 30 21 ls st h K) ∧ ((x = y) → wp d 30 17 ls st h K) := (w_if2 (i := 30) (pc := 14) (cd := .ne) (off := 7) (tgt := 21) dX4_faultOfTaking_14 (by decide) rfl).trans (and_congr Iff.rfl (imp_congr Classical.not_not Iff.rfl))
theorem dX4_faultOfTaking_17 : decode cX4_faultOfTaking 17 = .ok (.iconst 0, 1) := by decide +kernel
theorem w30_17 {d : Nat} {st : List Value} {h : xH} {K : Option Value → xH → Prop} {ls : xL} : wp d 30 17 ls st h K ↔ wp d 30 18 ls (.int 0 :: st) h K := w_iconst (i := 30) (pc := 17) dX4_faultOfTaking_17 (by decide)
theorem dX4_faultOfTaking_18 : decode cX4_faultOfTaking 18 = .ok (.goto 4, 3) := by decide +kernel
theorem w30_18 {d : Nat} {st : List Value} {h : xH} {K : Option Value → xH → Prop} {ls : xL} : wp d 30 18 ls st h K ↔ wp d 30 22 ls st h K := w_goto (i := 30) (pc := 18) dX4_faultOfTaking_18 (by decide) rfl
theorem dX4_faultOfTaking_21 : decode cX4_faultOfTaking 21 = .ok (.iconst 2, 1) := by decide +kernel
theorem w30_21 {d : Nat} {st : List Value} {h : xH} {K : Option Value → xH → Prop} {ls : xL} : wp d 30 21 ls st h K ↔ wp d 30 22 ls (.int 2 :: st) h K := w_iconst (i := 30) (pc := 21) dX4_faultOfTaking_21 (by decide)
theorem dX4_faultOfTaking_22 : decode cX4_faultOfTaking 22 = .ok (.ireturn, 1) := by decide +kernel
theorem w30_22 {d : Nat} {h : xH} {K : Option Value → xH → Prop} {ls : xL} {x : Int32} : wp d 30 22 ls [.int x] h K ↔ K (some (.int x)) h := w_iret (i := 30) (pc := 22) dX4_faultOfTaking_22 rfl
theorem dX4_hasPlace_0 : decode cX4_hasPlace 0 = .ok (.iload_n 1, 1) := by decide +kernel
theorem w31_0 {d : Nat} {st : List Value} {h : xH} {K : Option Value → xH → Prop} {l0 : Option Value} {x : Int32} : wp d 31 0 [l0, some (.int x)] st h K ↔ wp d 31 1 [l0, some (.int x)] (.int x :: st) h K := w_any (i := 31) (pc := 0) dX4_hasPlace_0 rfl rfl
theorem dX4_hasPlace_1 : decode cX4_hasPlace 1 = .ok (.ifCond .lt 15, 3) := by decide +kernel
theorem w31_1 {d : Nat} {st : List Value} {h : xH} {K : Option Value → xH → Prop} {ls : xL} {x : Int32} : wp d 31 1 ls (.int x :: st) h K ↔ ((x < 0) → wp d 31 16 ls st h K) ∧ ((¬ (x < 0)) → wp d 31 4 ls st h K) := w_if1 (i := 31) (pc := 1) (cd := .lt) (off := 15) (tgt := 16) dX4_hasPlace_1 (by decide) rfl
theorem dX4_hasPlace_4 : decode cX4_hasPlace 4 = .ok (.iload_n 1, 1) := by decide +kernel
theorem w31_4 {d : Nat} {st : List Value} {h : xH} {K : Option Value → xH → Prop} {l0 : Option Value} {x : Int32} : wp d 31 4 [l0, some (.int x)] st h K ↔ wp d 31 5 [l0, some (.int x)] (.int x :: st) h K := w_any (i := 31) (pc := 4) dX4_hasPlace_4 rfl rfl
theorem dX4_hasPlace_5 : decode cX4_hasPlace 5 = .ok (.aload_n 0, 1) := by decide +kernel
theorem w31_5 {d : Nat} {st : List Value} {h : xH} {K : Option Value → xH → Prop} {l1 : Option Value} {x : Nat} : wp d 31 5 [some (.ref x), l1] st h K ↔ wp d 31 6 [some (.ref x), l1] (.ref x :: st) h K := w_any (i := 31) (pc := 5) dX4_hasPlace_5 rfl rfl
theorem w31_5n {d : Nat} {st : List Value} {h : xH} {K : Option Value → xH → Prop} {l1 : Option Value} : wp d 31 5 [some .null, l1] st h K ↔ wp d 31 6 [some .null, l1] (.null :: st) h K := w_any (i := 31) (pc := 5) dX4_hasPlace_5 rfl rfl
theorem dX4_hasPlace_6 : decode cX4_hasPlace 6 = .ok (.getfield 19, 3) := by decide +kernel
theorem w31_6 {d : Nat} {st : List Value} {h : xH} {K : Option Value → xH → Prop} {ls : xL} {a : Nat} : wp d 31 6 ls (.ref a :: st) h K ↔ y_get h a 5 2 (fun v => wp d 31 9 ls (v :: st) h K) := w_get (i := 31) (pc := 6) dX4_hasPlace_6 rfl
theorem dX4_hasPlace_9 : decode cX4_hasPlace 9 = .ok (.if_icmp .ge 7, 3) := by decide +kernel
theorem w31_9 {d : Nat} {st : List Value} {h : xH} {K : Option Value → xH → Prop} {ls : xL} {x y : Int32} : wp d 31 9 ls (.int y :: .int x :: st) h K ↔ ((y ≤ x) → wp d 31 16 ls st h K) ∧ ((¬ (y ≤ x)) → wp d 31 12 ls st h K) := w_if2 (i := 31) (pc := 9) (cd := .ge) (off := 7) (tgt := 16) dX4_hasPlace_9 (by decide) rfl
theorem dX4_hasPlace_12 : decode cX4_hasPlace 12 = .ok (.iconst 1, 1) := by decide +kernel
theorem w31_12 {d : Nat} {st : List Value} {h : xH} {K : Option Value → xH → Prop} {ls : xL} : wp d 31 12 ls st h K ↔ wp d 31 13 ls (.int 1 :: st) h K := w_iconst (i := 31) (pc := 12) dX4_hasPlace_12 (by decide)
theorem dX4_hasPlace_13 : decode cX4_hasPlace 13 = .ok (.goto 4, 3) := by decide +kernel
theorem w31_13 {d : Nat} {st : List Value} {h : xH} {K : Option Value → xH → Prop} {ls : xL} : wp d 31 13 ls st h K ↔ wp d 31 17 ls st h K := w_goto (i := 31) (pc := 13) dX4_hasPlace_13 (by decide) rfl
theorem dX4_hasPlace_16 : decode cX4_hasPlace 16 = .ok (.iconst 0, 1) := by decide +kernel
theorem w31_16 {d : Nat} {st : List Value} {h : xH} {K : Option Value → xH → Prop} {ls : xL} : wp d 31 16 ls st h K ↔ wp d 31 17 ls (.int 0 :: st) h K := w_iconst (i := 31) (pc := 16) dX4_hasPlace_16 (by decide)
theorem dX4_hasPlace_17 : decode cX4_hasPlace 17 = .ok (.ireturn, 1) := by decide +kernel
theorem w31_17 {d : Nat} {h : xH} {K : Option Value → xH → Prop} {ls : xL} {x : Int32} : wp d 31 17 ls [.int x] h K ↔ y_bool x ∧ K (some (.int x)) h := w_zret (i := 31) (pc := 17) dX4_hasPlace_17 rfl
theorem dX4_holds_0 : decode cX4_holds 0 = .ok (.iload_n 1, 1) := by decide +kernel
theorem w32_0 {d : Nat} {st : List Value} {h : xH} {K : Option Value → xH → Prop} {l0 l2 : Option Value} {x : Int32} : wp d 32 0 [l0, some (.int x), l2] st h K ↔ wp d 32 1 [l0, some (.int x), l2] (.int x :: st) h K := w_any (i := 32) (pc := 0) dX4_holds_0 rfl rfl
theorem dX4_holds_1 : decode cX4_holds 1 = .ok (.ifCond .lt 29, 3) := by decide +kernel
theorem w32_1 {d : Nat} {st : List Value} {h : xH} {K : Option Value → xH → Prop} {ls : xL} {x : Int32} : wp d 32 1 ls (.int x :: st) h K ↔ ((x < 0) → wp d 32 30 ls st h K) ∧ ((¬ (x < 0)) → wp d 32 4 ls st h K) := w_if1 (i := 32) (pc := 1) (cd := .lt) (off := 29) (tgt := 30) dX4_holds_1 (by decide) rfl
theorem dX4_holds_4 : decode cX4_holds 4 = .ok (.iload_n 1, 1) := by decide +kernel
theorem w32_4 {d : Nat} {st : List Value} {h : xH} {K : Option Value → xH → Prop} {l0 l2 : Option Value} {x : Int32} : wp d 32 4 [l0, some (.int x), l2] st h K ↔ wp d 32 5 [l0, some (.int x), l2] (.int x :: st) h K := w_any (i := 32) (pc := 4) dX4_holds_4 rfl rfl
theorem dX4_holds_5 : decode cX4_holds 5 = .ok (.aload_n 0, 1) := by decide +kernel
theorem w32_5 {d : Nat} {st : List Value} {h : xH} {K : Option Value → xH → Prop} {l1 l2 : Option Value} {x : Nat} : wp d 32 5 [some (.ref x), l1, l2] st h K ↔ wp d 32 6 [some (.ref x), l1, l2] (.ref x :: st) h K := w_any (i := 32) (pc := 5) dX4_holds_5 rfl rfl
theorem w32_5n {d : Nat} {st : List Value} {h : xH} {K : Option Value → xH → Prop} {l1 l2 : Option Value} : wp d 32 5 [some .null, l1, l2] st h K ↔ wp d 32 6 [some .null, l1, l2] (.null :: st) h K := w_any (i := 32) (pc := 5) dX4_holds_5 rfl rfl
theorem dX4_holds_6 : decode cX4_holds 6 = .ok (.getfield 19, 3) := by decide +kernel
theorem w32_6 {d : Nat} {st : List Value} {h : xH} {K : Option Value → xH → Prop} {ls : xL} {a : Nat} : wp d 32 6 ls (.ref a :: st) h K ↔ y_get h a 5 2 (fun v => wp d 32 9 ls (v :: st) h K) := w_get (i := 32) (pc := 6) dX4_holds_6 rfl
theorem dX4_holds_9 : decode cX4_holds 9 = .ok (.if_icmp .gt 21, 3) := by decide +kernel
theorem w32_9 {d : Nat} {st : List Value} {h : xH} {K : Option Value → xH → Prop} {ls : xL} {x y : Int32} : wp d 32 9 ls (.int y :: .int x :: st) h K ↔ ((y < x) → wp d 32 30 ls st h K) ∧ ((¬ (y < x)) → wp d 32 12 ls st h K) := w_if2 (i := 32) (pc := 9) (cd := .gt) (off := 21) (tgt := 30) dX4_holds_9 (by decide) rfl
theorem dX4_holds_12 : decode cX4_holds 12 = .ok (.iload_n 2, 1) := by decide +kernel
theorem w32_12 {d : Nat} {st : List Value} {h : xH} {K : Option Value → xH → Prop} {l0 l1 : Option Value} {x : Int32} : wp d 32 12 [l0, l1, some (.int x)] st h K ↔ wp d 32 13 [l0, l1, some (.int x)] (.int x :: st) h K := w_any (i := 32) (pc := 12) dX4_holds_12 rfl rfl
theorem dX4_holds_13 : decode cX4_holds 13 = .ok (.ifCond .lt 17, 3) := by decide +kernel
theorem w32_13 {d : Nat} {st : List Value} {h : xH} {K : Option Value → xH → Prop} {ls : xL} {x : Int32} : wp d 32 13 ls (.int x :: st) h K ↔ ((x < 0) → wp d 32 30 ls st h K) ∧ ((¬ (x < 0)) → wp d 32 16 ls st h K) := w_if1 (i := 32) (pc := 13) (cd := .lt) (off := 17) (tgt := 30) dX4_holds_13 (by decide) rfl
theorem dX4_holds_16 : decode cX4_holds 16 = .ok (.iload_n 2, 1) := by decide +kernel
theorem w32_16 {d : Nat} {st : List Value} {h : xH} {K : Option Value → xH → Prop} {l0 l1 : Option Value} {x : Int32} : wp d 32 16 [l0, l1, some (.int x)] st h K ↔ wp d 32 17 [l0, l1, some (.int x)] (.int x :: st) h K := w_any (i := 32) (pc := 16) dX4_holds_16 rfl rfl
theorem dX4_holds_17 : decode cX4_holds 17 = .ok (.aload_n 0, 1) := by decide +kernel
theorem w32_17 {d : Nat} {st : List Value} {h : xH} {K : Option Value → xH → Prop} {l1 l2 : Option Value} {x : Nat} : wp d 32 17 [some (.ref x), l1, l2] st h K ↔ wp d 32 18 [some (.ref x), l1, l2] (.ref x :: st) h K := w_any (i := 32) (pc := 17) dX4_holds_17 rfl rfl
theorem w32_17n {d : Nat} {st : List Value} {h : xH} {K : Option Value → xH → Prop} {l1 l2 : Option Value} : wp d 32 17 [some .null, l1, l2] st h K ↔ wp d 32 18 [some .null, l1, l2] (.null :: st) h K := w_any (i := 32) (pc := 17) dX4_holds_17 rfl rfl
theorem dX4_holds_18 : decode cX4_holds 18 = .ok (.getfield 19, 3) := by decide +kernel
theorem w32_18 {d : Nat} {st : List Value} {h : xH} {K : Option Value → xH → Prop} {ls : xL} {a : Nat} : wp d 32 18 ls (.ref a :: st) h K ↔ y_get h a 5 2 (fun v => wp d 32 21 ls (v :: st) h K) := w_get (i := 32) (pc := 18) dX4_holds_18 rfl
theorem dX4_holds_21 : decode cX4_holds 21 = .ok (.iload_n 1, 1) := by decide +kernel
theorem w32_21 {d : Nat} {st : List Value} {h : xH} {K : Option Value → xH → Prop} {l0 l2 : Option Value} {x : Int32} : wp d 32 21 [l0, some (.int x), l2] st h K ↔ wp d 32 22 [l0, some (.int x), l2] (.int x :: st) h K := w_any (i := 32) (pc := 21) dX4_holds_21 rfl rfl
theorem dX4_holds_22 : decode cX4_holds 22 = .ok (.isub, 1) := by decide +kernel
theorem w32_22 {d : Nat} {st : List Value} {h : xH} {K : Option Value → xH → Prop} {ls : xL} {x y : Int32} : wp d 32 22 ls (.int y :: .int x :: st) h K ↔ wp d 32 23 ls (.int (x - y) :: st) h K := w_any (i := 32) (pc := 22) dX4_holds_22 rfl rfl
theorem dX4_holds_23 : decode cX4_holds 23 = .ok (.if_icmp .gt 7, 3) := by decide +kernel
theorem w32_23 {d : Nat} {st : List Value} {h : xH} {K : Option Value → xH → Prop} {ls : xL} {x y : Int32} : wp d 32 23 ls (.int y :: .int x :: st) h K ↔ ((y < x) → wp d 32 30 ls st h K) ∧ ((¬ (y < x)) → wp d 32 26 ls st h K) := w_if2 (i := 32) (pc := 23) (cd := .gt) (off := 7) (tgt := 30) dX4_holds_23 (by decide) rfl
theorem dX4_holds_26 : decode cX4_holds 26 = .ok (.iconst 1, 1) := by decide +kernel
theorem w32_26 {d : Nat} {st : List Value} {h : xH} {K : Option Value → xH → Prop} {ls : xL} : wp d 32 26 ls st h K ↔ wp d 32 27 ls (.int 1 :: st) h K := w_iconst (i := 32) (pc := 26) dX4_holds_26 (by decide)
theorem dX4_holds_27 : decode cX4_holds 27 = .ok (.goto 4, 3) := by decide +kernel
theorem w32_27 {d : Nat} {st : List Value} {h : xH} {K : Option Value → xH → Prop} {ls : xL} : wp d 32 27 ls st h K ↔ wp d 32 31 ls st h K := w_goto (i := 32) (pc := 27) dX4_holds_27 (by decide) rfl
theorem dX4_holds_30 : decode cX4_holds 30 = .ok (.iconst 0, 1) := by decide +kernel
theorem w32_30 {d : Nat} {st : List Value} {h : xH} {K : Option Value → xH → Prop} {ls : xL} : wp d 32 30 ls st h K ↔ wp d 32 31 ls (.int 0 :: st) h K := w_iconst (i := 32) (pc := 30) dX4_holds_30 (by decide)
theorem dX4_holds_31 : decode cX4_holds 31 = .ok (.ireturn, 1) := by decide +kernel
theorem w32_31 {d : Nat} {h : xH} {K : Option Value → xH → Prop} {ls : xL} {x : Int32} : wp d 32 31 ls [.int x] h K ↔ y_bool x ∧ K (some (.int x)) h := w_zret (i := 32) (pc := 31) dX4_holds_31 rfl
theorem dX4_read_0 : decode cX4_read 0 = .ok (.aload_n 0, 1) := by decide +kernel
theorem w33_0 {d : Nat} {st : List Value} {h : xH} {K : Option Value → xH → Prop} {l1 : Option Value} {x : Nat} : wp d 33 0 [some (.ref x), l1] st h K ↔ wp d 33 1 [some (.ref x), l1] (.ref x :: st) h K := w_any (i := 33) (pc := 0) dX4_read_0 rfl rfl
theorem w33_0n {d : Nat} {st : List Value} {h : xH} {K : Option Value → xH → Prop} {l1 : Option Value} : wp d 33 0 [some .null, l1] st h K ↔ wp d 33 1 [some .null, l1] (.null :: st) h K := w_any (i := 33) (pc := 0) dX4_read_0 rfl rfl
theorem dX4_read_1 : decode cX4_read 1 = .ok (.iload_n 1, 1) := by decide +kernel
theorem w33_1 {d : Nat} {st : List Value} {h : xH} {K : Option Value → xH → Prop} {l0 : Option Value} {x : Int32} : wp d 33 1 [l0, some (.int x)] st h K ↔ wp d 33 2 [l0, some (.int x)] (.int x :: st) h K := w_any (i := 33) (pc := 1) dX4_read_1 rfl rfl
theorem dX4_read_2 : decode cX4_read 2 = .ok (.invokevirtual 38, 3) := by decide +kernel
theorem w33_2 {d : Nat} {st : List Value} {h : xH} {K : Option Value → xH → Prop} {ls : xL} {a0 : Int32} {b : Nat} : wp (d + 1) 33 2 ls (.int a0 :: .ref b :: st) h K ↔ y_cls h b 5 ∧ xcs st ≤ 8 ∧ wp d 31 0 [some (.ref b), some (.int a0)] [] h (fun v h1 => wp (d + 1) 33 5 ls (v.toList ++ st) h1 K) := w_callW (i := 33) (pc := 2) (as := [.int a0]) (rest := st) dX4_read_2 rfl (by decide) rfl rfl (by decide) rfl rfl rfl rfl
theorem dX4_read_5 : decode cX4_read 5 = .ok (.ifCond .eq 21, 3) := by decide +kernel
theorem w33_5 {d : Nat} {st : List Value} {h : xH} {K : Option Value → xH → Prop} {ls : xL} {x : Int32} : wp d 33 5 ls (.int x :: st) h K ↔ ((x = 0) → wp d 33 26 ls st h K) ∧ ((¬ (x = 0)) → wp d 33 8 ls st h K) := w_if1 (i := 33) (pc := 5) (cd := .eq) (off := 21) (tgt := 26) dX4_read_5 (by decide) rfl
theorem dX4_read_8 : decode cX4_read 8 = .ok (.iload_n 1, 1) := by decide +kernel
theorem w33_8 {d : Nat} {st : List Value} {h : xH} {K : Option Value → xH → Prop} {l0 : Option Value} {x : Int32} : wp d 33 8 [l0, some (.int x)] st h K ↔ wp d 33 9 [l0, some (.int x)] (.int x :: st) h K := w_any (i := 33) (pc := 8) dX4_read_8 rfl rfl
theorem dX4_read_9 : decode cX4_read 9 = .ok (.aload_n 0, 1) := by decide +kernel
theorem w33_9 {d : Nat} {st : List Value} {h : xH} {K : Option Value → xH → Prop} {l1 : Option Value} {x : Nat} : wp d 33 9 [some (.ref x), l1] st h K ↔ wp d 33 10 [some (.ref x), l1] (.ref x :: st) h K := w_any (i := 33) (pc := 9) dX4_read_9 rfl rfl
theorem w33_9n {d : Nat} {st : List Value} {h : xH} {K : Option Value → xH → Prop} {l1 : Option Value} : wp d 33 9 [some .null, l1] st h K ↔ wp d 33 10 [some .null, l1] (.null :: st) h K := w_any (i := 33) (pc := 9) dX4_read_9 rfl rfl
theorem dX4_read_10 : decode cX4_read 10 = .ok (.getfield 9, 3) := by decide +kernel
theorem w33_10 {d : Nat} {st : List Value} {h : xH} {K : Option Value → xH → Prop} {ls : xL} {a : Nat} : wp d 33 10 ls (.ref a :: st) h K ↔ y_get h a 5 0 (fun v => wp d 33 13 ls (v :: st) h K) := w_get (i := 33) (pc := 10) dX4_read_10 rfl
theorem dX4_read_13 : decode cX4_read 13 = .ok (.arraylength, 1) := by decide +kernel
theorem w33_13 {d : Nat} {st : List Value} {h : xH} {K : Option Value → xH → Prop} {ls : xL} {a : Nat} : wp d 33 13 ls (.ref a :: st) h K ↔ y_alen h a (fun v => wp d 33 14 ls (.int v :: st) h K) := w_alen (i := 33) (pc := 13) dX4_read_13
theorem dX4_read_14 : decode cX4_read 14 = .ok (.if_icmp .ge 12, 3) := by decide +kernel
theorem w33_14 {d : Nat} {st : List Value} {h : xH} {K : Option Value → xH → Prop} {ls : xL} {x y : Int32} : wp d 33 14 ls (.int y :: .int x :: st) h K ↔ ((y ≤ x) → wp d 33 26 ls st h K) ∧ ((¬ (y ≤ x)) → wp d 33 17 ls st h K) := w_if2 (i := 33) (pc := 14) (cd := .ge) (off := 12) (tgt := 26) dX4_read_14 (by decide) rfl
theorem dX4_read_17 : decode cX4_read 17 = .ok (.aload_n 0, 1) := by decide +kernel
theorem w33_17 {d : Nat} {st : List Value} {h : xH} {K : Option Value → xH → Prop} {l1 : Option Value} {x : Nat} : wp d 33 17 [some (.ref x), l1] st h K ↔ wp d 33 18 [some (.ref x), l1] (.ref x :: st) h K := w_any (i := 33) (pc := 17) dX4_read_17 rfl rfl
theorem w33_17n {d : Nat} {st : List Value} {h : xH} {K : Option Value → xH → Prop} {l1 : Option Value} : wp d 33 17 [some .null, l1] st h K ↔ wp d 33 18 [some .null, l1] (.null :: st) h K := w_any (i := 33) (pc := 17) dX4_read_17 rfl rfl
theorem dX4_read_18 : decode cX4_read 18 = .ok (.getfield 9, 3) := by decide +kernel
theorem w33_18 {d : Nat} {st : List Value} {h : xH} {K : Option Value → xH → Prop} {ls : xL} {a : Nat} : wp d 33 18 ls (.ref a :: st) h K ↔ y_get h a 5 0 (fun v => wp d 33 21 ls (v :: st) h K) := w_get (i := 33) (pc := 18) dX4_read_18 rfl
theorem dX4_read_21 : decode cX4_read 21 = .ok (.iload_n 1, 1) := by decide +kernel
theorem w33_21 {d : Nat} {st : List Value} {h : xH} {K : Option Value → xH → Prop} {l0 : Option Value} {x : Int32} : wp d 33 21 [l0, some (.int x)] st h K ↔ wp d 33 22 [l0, some (.int x)] (.int x :: st) h K := w_any (i := 33) (pc := 21) dX4_read_21 rfl rfl
theorem dX4_read_22 : decode cX4_read 22 = .ok (.iaload, 1) := by decide +kernel
theorem w33_22 {d : Nat} {st : List Value} {h : xH} {K : Option Value → xH → Prop} {ls : xL} {a : Nat} {x : Int32} : wp d 33 22 ls (.int x :: .ref a :: st) h K ↔ y_iald h a x (fun v => wp d 33 23 ls (.int v :: st) h K) := w_iald (i := 33) (pc := 22) dX4_read_22
theorem dX4_read_23 : decode cX4_read 23 = .ok (.goto 4, 3) := by decide +kernel
theorem w33_23 {d : Nat} {st : List Value} {h : xH} {K : Option Value → xH → Prop} {ls : xL} : wp d 33 23 ls st h K ↔ wp d 33 27 ls st h K := w_goto (i := 33) (pc := 23) dX4_read_23 (by decide) rfl
theorem dX4_read_26 : decode cX4_read 26 = .ok (.iconst 0, 1) := by decide +kernel
theorem w33_26 {d : Nat} {st : List Value} {h : xH} {K : Option Value → xH → Prop} {ls : xL} : wp d 33 26 ls st h K ↔ wp d 33 27 ls (.int 0 :: st) h K := w_iconst (i := 33) (pc := 26) dX4_read_26 (by decide)
theorem dX4_read_27 : decode cX4_read 27 = .ok (.ireturn, 1) := by decide +kernel
theorem w33_27 {d : Nat} {h : xH} {K : Option Value → xH → Prop} {ls : xL} {x : Int32} : wp d 33 27 ls [.int x] h K ↔ K (some (.int x)) h := w_iret (i := 33) (pc := 27) dX4_read_27 rfl
theorem dX4_write_0 : decode cX4_write 0 = .ok (.aload_n 0, 1) := by decide +kernel
theorem w34_0 {d : Nat} {st : List Value} {h : xH} {K : Option Value → xH → Prop} {l1 l2 : Option Value} {x : Nat} : wp d 34 0 [some (.ref x), l1, l2] st h K ↔ wp d 34 1 [some (.ref x), l1, l2] (.ref x :: st) h K := w_any (i := 34) (pc := 0) dX4_write_0 rfl rfl
theorem w34_0n {d : Nat} {st : List Value} {h : xH} {K : Option Value → xH → Prop} {l1 l2 : Option Value} : wp d 34 0 [some .null, l1, l2] st h K ↔ wp d 34 1 [some .null, l1, l2] (.null :: st) h K := w_any (i := 34) (pc := 0) dX4_write_0 rfl rfl
theorem dX4_write_1 : decode cX4_write 1 = .ok (.iload_n 1, 1) := by decide +kernel
theorem w34_1 {d : Nat} {st : List Value} {h : xH} {K : Option Value → xH → Prop} {l0 l2 : Option Value} {x : Int32} : wp d 34 1 [l0, some (.int x), l2] st h K ↔ wp d 34 2 [l0, some (.int x), l2] (.int x :: st) h K := w_any (i := 34) (pc := 1) dX4_write_1 rfl rfl
theorem dX4_write_2 : decode cX4_write 2 = .ok (.invokevirtual 38, 3) := by decide +kernel
theorem w34_2 {d : Nat} {st : List Value} {h : xH} {K : Option Value → xH → Prop} {ls : xL} {a0 : Int32} {b : Nat} : wp (d + 1) 34 2 ls (.int a0 :: .ref b :: st) h K ↔ y_cls h b 5 ∧ xcs st ≤ 8 ∧ wp d 31 0 [some (.ref b), some (.int a0)] [] h (fun v h1 => wp (d + 1) 34 5 ls (v.toList ++ st) h1 K) := w_callW (i := 34) (pc := 2) (as := [.int a0]) (rest := st) dX4_write_2 rfl (by decide) rfl rfl (by decide) rfl rfl rfl rfl
theorem dX4_write_5 : decode cX4_write 5 = .ok (.ifCond .eq 44, 3) := by decide +kernel
theorem w34_5 {d : Nat} {st : List Value} {h : xH} {K : Option Value → xH → Prop} {ls : xL} {x : Int32} : wp d 34 5 ls (.int x :: st) h K ↔ ((x = 0) → wp d 34 49 ls st h K) ∧ ((¬ (x = 0)) → wp d 34 8 ls st h K) := w_if1 (i := 34) (pc := 5) (cd := .eq) (off := 44) (tgt := 49) dX4_write_5 (by decide) rfl
theorem dX4_write_8 : decode cX4_write 8 = .ok (.iload_n 1, 1) := by decide +kernel
theorem w34_8 {d : Nat} {st : List Value} {h : xH} {K : Option Value → xH → Prop} {l0 l2 : Option Value} {x : Int32} : wp d 34 8 [l0, some (.int x), l2] st h K ↔ wp d 34 9 [l0, some (.int x), l2] (.int x :: st) h K := w_any (i := 34) (pc := 8) dX4_write_8 rfl rfl
theorem dX4_write_9 : decode cX4_write 9 = .ok (.aload_n 0, 1) := by decide +kernel
theorem w34_9 {d : Nat} {st : List Value} {h : xH} {K : Option Value → xH → Prop} {l1 l2 : Option Value} {x : Nat} : wp d 34 9 [some (.ref x), l1, l2] st h K ↔ wp d 34 10 [some (.ref x), l1, l2] (.ref x :: st) h K := w_any (i := 34) (pc := 9) dX4_write_9 rfl rfl
theorem w34_9n {d : Nat} {st : List Value} {h : xH} {K : Option Value → xH → Prop} {l1 l2 : Option Value} : wp d 34 9 [some .null, l1, l2] st h K ↔ wp d 34 10 [some .null, l1, l2] (.null :: st) h K := w_any (i := 34) (pc := 9) dX4_write_9 rfl rfl
theorem dX4_write_10 : decode cX4_write 10 = .ok (.getfield 9, 3) := by decide +kernel
theorem w34_10 {d : Nat} {st : List Value} {h : xH} {K : Option Value → xH → Prop} {ls : xL} {a : Nat} : wp d 34 10 ls (.ref a :: st) h K ↔ y_get h a 5 0 (fun v => wp d 34 13 ls (v :: st) h K) := w_get (i := 34) (pc := 10) dX4_write_10 rfl
theorem dX4_write_13 : decode cX4_write 13 = .ok (.arraylength, 1) := by decide +kernel
theorem w34_13 {d : Nat} {st : List Value} {h : xH} {K : Option Value → xH → Prop} {ls : xL} {a : Nat} : wp d 34 13 ls (.ref a :: st) h K ↔ y_alen h a (fun v => wp d 34 14 ls (.int v :: st) h K) := w_alen (i := 34) (pc := 13) dX4_write_13
theorem dX4_write_14 : decode cX4_write 14 = .ok (.if_icmp .ge 35, 3) := by decide +kernel
theorem w34_14 {d : Nat} {st : List Value} {h : xH} {K : Option Value → xH → Prop} {ls : xL} {x y : Int32} : wp d 34 14 ls (.int y :: .int x :: st) h K ↔ ((y ≤ x) → wp d 34 49 ls st h K) ∧ ((¬ (y ≤ x)) → wp d 34 17 ls st h K) := w_if2 (i := 34) (pc := 14) (cd := .ge) (off := 35) (tgt := 49) dX4_write_14 (by decide) rfl
theorem dX4_write_17 : decode cX4_write 17 = .ok (.aload_n 0, 1) := by decide +kernel
theorem w34_17 {d : Nat} {st : List Value} {h : xH} {K : Option Value → xH → Prop} {l1 l2 : Option Value} {x : Nat} : wp d 34 17 [some (.ref x), l1, l2] st h K ↔ wp d 34 18 [some (.ref x), l1, l2] (.ref x :: st) h K := w_any (i := 34) (pc := 17) dX4_write_17 rfl rfl
theorem w34_17n {d : Nat} {st : List Value} {h : xH} {K : Option Value → xH → Prop} {l1 l2 : Option Value} : wp d 34 17 [some .null, l1, l2] st h K ↔ wp d 34 18 [some .null, l1, l2] (.null :: st) h K := w_any (i := 34) (pc := 17) dX4_write_17 rfl rfl
theorem dX4_write_18 : decode cX4_write 18 = .ok (.getfield 9, 3) := by decide +kernel
theorem w34_18 {d : Nat} {st : List Value} {h : xH} {K : Option Value → xH → Prop} {ls : xL} {a : Nat} : wp d 34 18 ls (.ref a :: st) h K ↔ y_get h a 5 0 (fun v => wp d 34 21 ls (v :: st) h K) := w_get (i := 34) (pc := 18) dX4_write_18 rfl
theorem dX4_write_21 : decode cX4_write 21 = .ok (.iload_n 1, 1) := by decide +kernel
theorem w34_21 {d : Nat} {st : List Value} {h : xH} {K : Option Value → xH → Prop} {l0 l2 : Option Value} {x : Int32} : wp d 34 21 [l0, some (.int x), l2] st h K ↔ wp d 34 22 [l0, some (.int x), l2] (.int x :: st) h K := w_any (i := 34) (pc := 21) dX4_write_21 rfl rfl
theorem dX4_write_22 : decode cX4_write 22 = .ok (.aload_n 0, 1) := by decide +kernel
theorem w34_22 {d : Nat} {st : List Value} {h : xH} {K : Option Value → xH → Prop} {l1 l2 : Option Value} {x : Nat} : wp d 34 22 [some (.ref x), l1, l2] st h K ↔ wp d 34 23 [some (.ref x), l1, l2] (.ref x :: st) h K := w_any (i := 34) (pc := 22) dX4_write_22 rfl rfl
theorem w34_22n {d : Nat} {st : List Value} {h : xH} {K : Option Value → xH → Prop} {l1 l2 : Option Value} : wp d 34 22 [some .null, l1, l2] st h K ↔ wp d 34 23 [some .null, l1, l2] (.null :: st) h K := w_any (i := 34) (pc := 22) dX4_write_22 rfl rfl
theorem dX4_write_23 : decode cX4_write 23 = .ok (.getfield 15, 3) := by decide +kernel
theorem w34_23 {d : Nat} {st : List Value} {h : xH} {K : Option Value → xH → Prop} {ls : xL} {a : Nat} : wp d 34 23 ls (.ref a :: st) h K ↔ y_get h a 5 1 (fun v => wp d 34 26 ls (v :: st) h K) := w_get (i := 34) (pc := 23) dX4_write_23 rfl
theorem dX4_write_26 : decode cX4_write 26 = .ok (.ifCond .ne 8, 3) := by decide +kernel
theorem w34_26 {d : Nat} {st : List Value} {h : xH} {K : Option Value → xH → Prop} {ls : xL} {x : Int32} : wp d 34 26 ls (.int x :: st) h K ↔ ((¬ x = 0) → wp d 34 34 ls st h K) ∧ ((x = 0) → wp d 34 29 ls st h K) := (w_if1 (i := 34) (pc := 26) (cd := .ne) (off := 8) (tgt := 34) dX4_write_26 (by decide) rfl).trans (and_congr Iff.rfl (imp_congr Classical.not_not Iff.rfl))
theorem dX4_write_29 : decode cX4_write 29 = .ok (.iload_n 2, 1) := by decide +kernel
theorem w34_29 {d : Nat} {st : List Value} {h : xH} {K : Option Value → xH → Prop} {l0 l1 : Option Value} {x : Int32} : wp d 34 29 [l0, l1, some (.int x)] st h K ↔ wp d 34 30 [l0, l1, some (.int x)] (.int x :: st) h K := w_any (i := 34) (pc := 29) dX4_write_29 rfl rfl
theorem dX4_write_30 : decode cX4_write 30 = .ok (.i2b, 1) := by decide +kernel
theorem w34_30 {d : Nat} {st : List Value} {h : xH} {K : Option Value → xH → Prop} {ls : xL} {x : Int32} : wp d 34 30 ls (.int x :: st) h K ↔ wp d 34 31 ls (.int (x.toInt8.toInt32) :: st) h K := w_any (i := 34) (pc := 30) dX4_write_30 rfl rfl
theorem dX4_write_31 : decode cX4_write 31 = .ok (.goto 17, 3) := by decide +kernel
theorem w34_31 {d : Nat} {st : List Value} {h : xH} {K : Option Value → xH → Prop} {ls : xL} : wp d 34 31 ls st h K ↔ wp d 34 48 ls st h K := w_goto (i := 34) (pc := 31) dX4_write_31 (by decide) rfl
theorem dX4_write_34 : decode cX4_write 34 = .ok (.aload_n 0, 1) := by decide +kernel
theorem w34_34 {d : Nat} {st : List Value} {h : xH} {K : Option Value → xH → Prop} {l1 l2 : Option Value} {x : Nat} : wp d 34 34 [some (.ref x), l1, l2] st h K ↔ wp d 34 35 [some (.ref x), l1, l2] (.ref x :: st) h K := w_any (i := 34) (pc := 34) dX4_write_34 rfl rfl
theorem w34_34n {d : Nat} {st : List Value} {h : xH} {K : Option Value → xH → Prop} {l1 l2 : Option Value} : wp d 34 34 [some .null, l1, l2] st h K ↔ wp d 34 35 [some .null, l1, l2] (.null :: st) h K := w_any (i := 34) (pc := 34) dX4_write_34 rfl rfl
theorem dX4_write_35 : decode cX4_write 35 = .ok (.getfield 15, 3) := by decide +kernel
theorem w34_35 {d : Nat} {st : List Value} {h : xH} {K : Option Value → xH → Prop} {ls : xL} {a : Nat} : wp d 34 35 ls (.ref a :: st) h K ↔ y_get h a 5 1 (fun v => wp d 34 38 ls (v :: st) h K) := w_get (i := 34) (pc := 35) dX4_write_35 rfl
theorem dX4_write_38 : decode cX4_write 38 = .ok (.iconst 1, 1) := by decide +kernel
theorem w34_38 {d : Nat} {st : List Value} {h : xH} {K : Option Value → xH → Prop} {ls : xL} : wp d 34 38 ls st h K ↔ wp d 34 39 ls (.int 1 :: st) h K := w_iconst (i := 34) (pc := 38) dX4_write_38 (by decide)
theorem dX4_write_39 : decode cX4_write 39 = .ok (.if_icmp .ne 8, 3) := by decide +kernel
theorem w34_39 {d : Nat} {st : List Value} {h : xH} {K : Option Value → xH → Prop} {ls : xL} {x y : Int32} : wp d 34 39 ls (.int y :: .int x :: st) h K ↔ ((¬ x = y) → wp d 34 47 ls st h K) ∧ ((x = y) → wp d 34 42 ls st h K) := (w_if2 (i := 34) (pc := 39) (cd := .ne) (off := 8) (tgt := 47) dX4_write_39 (by decide) rfl).trans (and_congr Iff.rfl (imp_congr Classical.not_not Iff.rfl))
theorem dX4_write_42 : decode cX4_write 42 = .ok (.iload_n 2, 1) := by decide +kernel
theorem w34_42 {d : Nat} {st : List Value} {h : xH} {K : Option Value → xH → Prop} {l0 l1 : Option Value} {x : Int32} : wp d 34 42 [l0, l1, some (.int x)] st h K ↔ wp d 34 43 [l0, l1, some (.int x)] (.int x :: st) h K := w_any (i := 34) (pc := 42) dX4_write_42 rfl rfl
theorem dX4_write_43 : decode cX4_write 43 = .ok (.i2s, 1) := by decide +kernel
theorem w34_43 {d : Nat} {st : List Value} {h : xH} {K : Option Value → xH → Prop} {ls : xL} {x : Int32} : wp d 34 43 ls (.int x :: st) h K ↔ wp d 34 44 ls (.int (x.toInt16.toInt32) :: st) h K := w_any (i := 34) (pc := 43) dX4_write_43 rfl rfl
theorem dX4_write_44 : decode cX4_write 44 = .ok (.goto 4, 3) := by decide +kernel
theorem w34_44 {d : Nat} {st : List Value} {h : xH} {K : Option Value → xH → Prop} {ls : xL} : wp d 34 44 ls st h K ↔ wp d 34 48 ls st h K := w_goto (i := 34) (pc := 44) dX4_write_44 (by decide) rfl
theorem dX4_write_47 : decode cX4_write 47 = .ok (.iload_n 2, 1) := by decide +kernel
theorem w34_47 {d : Nat} {st : List Value} {h : xH} {K : Option Value → xH → Prop} {l0 l1 : Option Value} {x : Int32} : wp d 34 47 [l0, l1, some (.int x)] st h K ↔ wp d 34 48 [l0, l1, some (.int x)] (.int x :: st) h K := w_any (i := 34) (pc := 47) dX4_write_47 rfl rfl
theorem dX4_write_48 : decode cX4_write 48 = .ok (.iastore, 1) := by decide +kernel
theorem w34_48 {d : Nat} {st : List Value} {h : xH} {K : Option Value → xH → Prop} {ls : xL} {a : Nat} {x v : Int32} : wp d 34 48 ls (.int v :: .int x :: .ref a :: st) h K ↔ y_iast h a x v (fun h1 => wp d 34 49 ls st h1 K) := w_iast (i := 34) (pc := 48) dX4_write_48
theorem dX4_write_49 : decode cX4_write 49 = .ok (.return_, 1) := by decide +kernel
theorem w34_49 {d : Nat} {h : xH} {K : Option Value → xH → Prop} {ls : xL} : wp d 34 49 ls [] h K ↔ K none h := w_vret (i := 34) (pc := 49) dX4_write_49 rfl
theorem dX5_init_0 : decode cX5_init 0 = .ok (.aload_n 0, 1) := by decide +kernel
theorem w35_0 {d : Nat} {st : List Value} {h : xH} {K : Option Value → xH → Prop} {l1 l2 l3 : Option Value} {x : Nat} : wp d 35 0 [some (.ref x), l1, l2, l3] st h K ↔ wp d 35 1 [some (.ref x), l1, l2, l3] (.ref x :: st) h K := w_any (i := 35) (pc := 0) dX5_init_0 rfl rfl
theorem w35_0n {d : Nat} {st : List Value} {h : xH} {K : Option Value → xH → Prop} {l1 l2 l3 : Option Value} : wp d 35 0 [some .null, l1, l2, l3] st h K ↔ wp d 35 1 [some .null, l1, l2, l3] (.null :: st) h K := w_any (i := 35) (pc := 0) dX5_init_0 rfl rfl
theorem dX5_init_1 : decode cX5_init 1 = .ok (.invokespecial 3, 3) := by decide +kernel
theorem w35_1 {d : Nat} {st : List Value} {h : xH} {K : Option Value → xH → Prop} {ls : xL} {a : Nat} : wp d 35 1 ls (.ref a :: st) h K ↔ xcs st ≤ 8 ∧ wp d 35 4 ls st h K := w_objI (i := 35) (pc := 1) dX5_init_1 rfl
theorem dX5_init_4 : decode cX5_init 4 = .ok (.aload_n 0, 1) := by decide +kernel
theorem w35_4 {d : Nat} {st : List Value} {h : xH} {K : Option Value → xH → Prop} {l1 l2 l3 : Option Value} {x : Nat} : wp d 35 4 [some (.ref x), l1, l2, l3] st h K ↔ wp d 35 5 [some (.ref x), l1, l2, l3] (.ref x :: st) h K := w_any (i := 35) (pc := 4) dX5_init_4 rfl rfl
theorem w35_4n {d : Nat} {st : List Value} {h : xH} {K : Option Value → xH → Prop} {l1 l2 l3 : Option Value} : wp d 35 4 [some .null, l1, l2, l3] st h K ↔ wp d 35 5 [some .null, l1, l2, l3] (.null :: st) h K := w_any (i := 35) (pc := 4) dX5_init_4 rfl rfl
theorem dX5_init_5 : decode cX5_init 5 = .ok (.iload_n 1, 1) := by decide +kernel
theorem w35_5 {d : Nat} {st : List Value} {h : xH} {K : Option Value → xH → Prop} {l0 l2 l3 : Option Value} {x : Int32} : wp d 35 5 [l0, some (.int x), l2, l3] st h K ↔ wp d 35 6 [l0, some (.int x), l2, l3] (.int x :: st) h K := w_any (i := 35) (pc := 5) dX5_init_5 rfl rfl
theorem dX5_init_6 : decode cX5_init 6 = .ok (.putfield 9, 3) := by decide +kernel
theorem w35_6 {d : Nat} {st : List Value} {h : xH} {K : Option Value → xH → Prop} {ls : xL} {x : Int32} {a : Nat} : wp d 35 6 ls (.int x :: .ref a :: st) h K ↔ y_put h a 6 1 (.int x) (fun h1 => wp d 35 9 ls st h1 K) := w_put (i := 35) (pc := 6) dX5_init_6 rfl trivial (Or.inl rfl)
theorem dX5_init_9 : decode cX5_init 9 = .ok (.aload_n 0, 1) := by decide +kernel
theorem w35_9 {d : Nat} {st : List Value} {h : xH} {K : Option Value → xH → Prop} {l1 l2 l3 : Option Value} {x : Nat} : wp d 35 9 [some (.ref x), l1, l2, l3] st h K ↔ wp d 35 10 [some (.ref x), l1, l2, l3] (.ref x :: st) h K := w_any (i := 35) (pc := 9) dX5_init_9 rfl rfl
theorem w35_9n {d : Nat} {st : List Value} {h : xH} {K : Option Value → xH → Prop} {l1 l2 l3 : Option Value} : wp d 35 9 [some .null, l1, l2, l3] st h K ↔ wp d 35 10 [some .null, l1, l2, l3] (.null :: st) h K := w_any (i := 35) (pc := 9) dX5_init_9 rfl rfl
theorem dX5_init_10 : decode cX5_init 10 = .ok (.iload_n 2, 1) := by decide +kernel
theorem w35_10 {d : Nat} {st : List Value} {h : xH} {K : Option Value → xH → Prop} {l0 l1 l3 : Option Value} {x : Int32} : wp d 35 10 [l0, l1, some (.int x), l3] st h K ↔ wp d 35 11 [l0, l1, some (.int x), l3] (.int x :: st) h K := w_any (i := 35) (pc := 10) dX5_init_10 rfl rfl
theorem dX5_init_11 : decode cX5_init 11 = .ok (.putfield 15, 3) := by decide +kernel
theorem w35_11 {d : Nat} {st : List Value} {h : xH} {K : Option Value → xH → Prop} {ls : xL} {x : Int32} {a : Nat} : wp d 35 11 ls (.int x :: .ref a :: st) h K ↔ y_put h a 6 0 (.int x) (fun h1 => wp d 35 14 ls st h1 K) := w_put (i := 35) (pc := 11) dX5_init_11 rfl trivial (Or.inr ⟨rfl, by decide, rfl⟩)
theorem dX5_init_14 : decode cX5_init 14 = .ok (.aload_n 0, 1) := by decide +kernel
theorem w35_14 {d : Nat} {st : List Value} {h : xH} {K : Option Value → xH → Prop} {l1 l2 l3 : Option Value} {x : Nat} : wp d 35 14 [some (.ref x), l1, l2, l3] st h K ↔ wp d 35 15 [some (.ref x), l1, l2, l3] (.ref x :: st) h K := w_any (i := 35) (pc := 14) dX5_init_14 rfl rfl
theorem w35_14n {d : Nat} {st : List Value} {h : xH} {K : Option Value → xH → Prop} {l1 l2 l3 : Option Value} : wp d 35 14 [some .null, l1, l2, l3] st h K ↔ wp d 35 15 [some .null, l1, l2, l3] (.null :: st) h K := w_any (i := 35) (pc := 14) dX5_init_14 rfl rfl
theorem dX5_init_15 : decode cX5_init 15 = .ok (.iload_n 3, 1) := by decide +kernel
theorem w35_15 {d : Nat} {st : List Value} {h : xH} {K : Option Value → xH → Prop} {l0 l1 l2 : Option Value} {x : Int32} : wp d 35 15 [l0, l1, l2, some (.int x)] st h K ↔ wp d 35 16 [l0, l1, l2, some (.int x)] (.int x :: st) h K := w_any (i := 35) (pc := 15) dX5_init_15 rfl rfl
theorem dX5_init_16 : decode cX5_init 16 = .ok (.putfield 18, 3) := by decide +kernel
theorem w35_16 {d : Nat} {st : List Value} {h : xH} {K : Option Value → xH → Prop} {ls : xL} {x : Int32} {a : Nat} : wp d 35 16 ls (.int x :: .ref a :: st) h K ↔ y_put h a 6 2 (.int x) (fun h1 => wp d 35 19 ls st h1 K) := w_put (i := 35) (pc := 16) dX5_init_16 rfl trivial (Or.inl rfl)
theorem dX5_init_19 : decode cX5_init 19 = .ok (.return_, 1) := by decide +kernel
theorem w35_19 {d : Nat} {h : xH} {K : Option Value → xH → Prop} {ls : xL} : wp d 35 19 ls [] h K ↔ K none h := w_vret (i := 35) (pc := 19) dX5_init_19 rfl
theorem dX5_restart_0 : decode cX5_restart 0 = .ok (.aload_n 0, 1) := by decide +kernel
theorem w36_0 {d : Nat} {st : List Value} {h : xH} {K : Option Value → xH → Prop} {x : Nat} : wp d 36 0 [some (.ref x)] st h K ↔ wp d 36 1 [some (.ref x)] (.ref x :: st) h K := w_any (i := 36) (pc := 0) dX5_restart_0 rfl rfl
theorem w36_0n {d : Nat} {st : List Value} {h : xH} {K : Option Value → xH → Prop} : wp d 36 0 [some .null] st h K ↔ wp d 36 1 [some .null] (.null :: st) h K := w_any (i := 36) (pc := 0) dX5_restart_0 rfl rfl
theorem dX5_restart_1 : decode cX5_restart 1 = .ok (.aload_n 0, 1) := by decide +kernel
theorem w36_1 {d : Nat} {st : List Value} {h : xH} {K : Option Value → xH → Prop} {x : Nat} : wp d 36 1 [some (.ref x)] st h K ↔ wp d 36 2 [some (.ref x)] (.ref x :: st) h K := w_any (i := 36) (pc := 1) dX5_restart_1 rfl rfl
theorem w36_1n {d : Nat} {st : List Value} {h : xH} {K : Option Value → xH → Prop} : wp d 36 1 [some .null] st h K ↔ wp d 36 2 [some .null] (.null :: st) h K := w_any (i := 36) (pc := 1) dX5_restart_1 rfl rfl
theorem dX5_restart_2 : decode cX5_restart 2 = .ok (.getfield 15, 3) := by decide +kernel
theorem w36_2 {d : Nat} {st : List Value} {h : xH} {K : Option Value → xH → Prop} {ls : xL} {a : Nat} : wp d 36 2 ls (.ref a :: st) h K ↔ y_get h a 6 0 (fun v => wp d 36 5 ls (v :: st) h K) := w_get (i := 36) (pc := 2) dX5_restart_2 rfl
theorem dX5_restart_5 : decode cX5_restart 5 = .ok (.putfield 21, 3) := by decide +kernel
theorem w36_5 {d : Nat} {st : List Value} {h : xH} {K : Option Value → xH → Prop} {ls : xL} {x : Int32} {a : Nat} : wp d 36 5 ls (.int x :: .ref a :: st) h K ↔ y_put h a 6 3 (.int x) (fun h1 => wp d 36 8 ls st h1 K) := w_put (i := 36) (pc := 5) dX5_restart_5 rfl trivial (Or.inl rfl)
theorem dX5_restart_8 : decode cX5_restart 8 = .ok (.aload_n 0, 1) := by decide +kernel
theorem w36_8 {d : Nat} {st : List Value} {h : xH} {K : Option Value → xH → Prop} {x : Nat} : wp d 36 8 [some (.ref x)] st h K ↔ wp d 36 9 [some (.ref x)] (.ref x :: st) h K := w_any (i := 36) (pc := 8) dX5_restart_8 rfl rfl
theorem w36_8n {d : Nat} {st : List Value} {h : xH} {K : Option Value → xH → Prop} : wp d 36 8 [some .null] st h K ↔ wp d 36 9 [some .null] (.null :: st) h K := w_any (i := 36) (pc := 8) dX5_restart_8 rfl rfl
theorem dX5_restart_9 : decode cX5_restart 9 = .ok (.aload_n 0, 1) := by decide +kernel
theorem w36_9 {d : Nat} {st : List Value} {h : xH} {K : Option Value → xH → Prop} {x : Nat} : wp d 36 9 [some (.ref x)] st h K ↔ wp d 36 10 [some (.ref x)] (.ref x :: st) h K := w_any (i := 36) (pc := 9) dX5_restart_9 rfl rfl
theorem w36_9n {d : Nat} {st : List Value} {h : xH} {K : Option Value → xH → Prop} : wp d 36 9 [some .null] st h K ↔ wp d 36 10 [some .null] (.null :: st) h K := w_any (i := 36) (pc := 9) dX5_restart_9 rfl rfl
theorem dX5_restart_10 : decode cX5_restart 10 = .ok (.getfield 18, 3) := by decide +kernel
theorem w36_10 {d : Nat} {st : List Value} {h : xH} {K : Option Value → xH → Prop} {ls : xL} {a : Nat} : wp d 36 10 ls (.ref a :: st) h K ↔ y_get h a 6 2 (fun v => wp d 36 13 ls (v :: st) h K) := w_get (i := 36) (pc := 10) dX5_restart_10 rfl
theorem dX5_restart_13 : decode cX5_restart 13 = .ok (.putfield 24, 3) := by decide +kernel
theorem w36_13 {d : Nat} {st : List Value} {h : xH} {K : Option Value → xH → Prop} {ls : xL} {x : Int32} {a : Nat} : wp d 36 13 ls (.int x :: .ref a :: st) h K ↔ y_put h a 6 4 (.int x) (fun h1 => wp d 36 16 ls st h1 K) := w_put (i := 36) (pc := 13) dX5_restart_13 rfl trivial (Or.inl rfl)
theorem dX5_restart_16 : decode cX5_restart 16 = .ok (.aload_n 0, 1) := by decide +kernel
theorem w36_16 {d : Nat} {st : List Value} {h : xH} {K : Option Value → xH → Prop} {x : Nat} : wp d 36 16 [some (.ref x)] st h K ↔ wp d 36 17 [some (.ref x)] (.ref x :: st) h K := w_any (i := 36) (pc := 16) dX5_restart_16 rfl rfl
theorem w36_16n {d : Nat} {st : List Value} {h : xH} {K : Option Value → xH → Prop} : wp d 36 16 [some .null] st h K ↔ wp d 36 17 [some .null] (.null :: st) h K := w_any (i := 36) (pc := 16) dX5_restart_16 rfl rfl
theorem dX5_restart_17 : decode cX5_restart 17 = .ok (.iconst 0, 1) := by decide +kernel
theorem w36_17 {d : Nat} {st : List Value} {h : xH} {K : Option Value → xH → Prop} {ls : xL} : wp d 36 17 ls st h K ↔ wp d 36 18 ls (.int 0 :: st) h K := w_iconst (i := 36) (pc := 17) dX5_restart_17 (by decide)
theorem dX5_restart_18 : decode cX5_restart 18 = .ok (.putfield 27, 3) := by decide +kernel
theorem w36_18 {d : Nat} {st : List Value} {h : xH} {K : Option Value → xH → Prop} {ls : xL} {x : Int32} {a : Nat} : wp d 36 18 ls (.int x :: .ref a :: st) h K ↔ y_put h a 6 5 (.int x) (fun h1 => wp d 36 21 ls st h1 K) := w_put (i := 36) (pc := 18) dX5_restart_18 rfl trivial (Or.inl rfl)
theorem dX5_restart_21 : decode cX5_restart 21 = .ok (.aload_n 0, 1) := by decide +kernel
theorem w36_21 {d : Nat} {st : List Value} {h : xH} {K : Option Value → xH → Prop} {x : Nat} : wp d 36 21 [some (.ref x)] st h K ↔ wp d 36 22 [some (.ref x)] (.ref x :: st) h K := w_any (i := 36) (pc := 21) dX5_restart_21 rfl rfl
theorem w36_21n {d : Nat} {st : List Value} {h : xH} {K : Option Value → xH → Prop} : wp d 36 21 [some .null] st h K ↔ wp d 36 22 [some .null] (.null :: st) h K := w_any (i := 36) (pc := 21) dX5_restart_21 rfl rfl
theorem dX5_restart_22 : decode cX5_restart 22 = .ok (.iconst (-1), 1) := by decide +kernel
theorem w36_22 {d : Nat} {st : List Value} {h : xH} {K : Option Value → xH → Prop} {ls : xL} : wp d 36 22 ls st h K ↔ wp d 36 23 ls (.int (-1) :: st) h K := w_iconst (i := 36) (pc := 22) dX5_restart_22 (by decide)
theorem dX5_restart_23 : decode cX5_restart 23 = .ok (.putfield 30, 3) := by decide +kernel
theorem w36_23 {d : Nat} {st : List Value} {h : xH} {K : Option Value → xH → Prop} {ls : xL} {x : Int32} {a : Nat} : wp d 36 23 ls (.int x :: .ref a :: st) h K ↔ y_put h a 6 6 (.int x) (fun h1 => wp d 36 26 ls st h1 K) := w_put (i := 36) (pc := 23) dX5_restart_23 rfl trivial (Or.inl rfl)
theorem dX5_restart_26 : decode cX5_restart 26 = .ok (.aload_n 0, 1) := by decide +kernel
theorem w36_26 {d : Nat} {st : List Value} {h : xH} {K : Option Value → xH → Prop} {x : Nat} : wp d 36 26 [some (.ref x)] st h K ↔ wp d 36 27 [some (.ref x)] (.ref x :: st) h K := w_any (i := 36) (pc := 26) dX5_restart_26 rfl rfl
theorem w36_26n {d : Nat} {st : List Value} {h : xH} {K : Option Value → xH → Prop} : wp d 36 26 [some .null] st h K ↔ wp d 36 27 [some .null] (.null :: st) h K := w_any (i := 36) (pc := 26) dX5_restart_26 rfl rfl
theorem dX5_restart_27 : decode cX5_restart 27 = .ok (.iconst (-1), 1) := by decide +kernel
theorem w36_27 {d : Nat} {st : List Value} {h : xH} {K : Option Value → xH → Prop} {ls : xL} : wp d 36 27 ls st h K ↔ wp d 36 28 ls (.int (-1) :: st) h K := w_iconst (i := 36) (pc := 27) dX5_restart_27 (by decide)
theorem dX5_restart_28 : decode cX5_restart 28 = .ok (.putfield 33, 3) := by decide +kernel
theorem w36_28 {d : Nat} {st : List Value} {h : xH} {K : Option Value → xH → Prop} {ls : xL} {x : Int32} {a : Nat} : wp d 36 28 ls (.int x :: .ref a :: st) h K ↔ y_put h a 6 7 (.int x) (fun h1 => wp d 36 31 ls st h1 K) := w_put (i := 36) (pc := 28) dX5_restart_28 rfl trivial (Or.inl rfl)
theorem dX5_restart_31 : decode cX5_restart 31 = .ok (.aload_n 0, 1) := by decide +kernel
theorem w36_31 {d : Nat} {st : List Value} {h : xH} {K : Option Value → xH → Prop} {x : Nat} : wp d 36 31 [some (.ref x)] st h K ↔ wp d 36 32 [some (.ref x)] (.ref x :: st) h K := w_any (i := 36) (pc := 31) dX5_restart_31 rfl rfl
theorem w36_31n {d : Nat} {st : List Value} {h : xH} {K : Option Value → xH → Prop} : wp d 36 31 [some .null] st h K ↔ wp d 36 32 [some .null] (.null :: st) h K := w_any (i := 36) (pc := 31) dX5_restart_31 rfl rfl
theorem dX5_restart_32 : decode cX5_restart 32 = .ok (.lconst 1, 1) := by decide +kernel
theorem w36_32 {d : Nat} {st : List Value} {h : xH} {K : Option Value → xH → Prop} {ls : xL} : wp d 36 32 ls st h K ↔ wp d 36 33 ls (.long 1 :: st) h K := w_lconst (i := 36) (pc := 32) dX5_restart_32 (by decide)
theorem dX5_restart_33 : decode cX5_restart 33 = .ok (.aload_n 0, 1) := by decide +kernel
theorem w36_33 {d : Nat} {st : List Value} {h : xH} {K : Option Value → xH → Prop} {x : Nat} : wp d 36 33 [some (.ref x)] st h K ↔ wp d 36 34 [some (.ref x)] (.ref x :: st) h K := w_any (i := 36) (pc := 33) dX5_restart_33 rfl rfl
theorem w36_33n {d : Nat} {st : List Value} {h : xH} {K : Option Value → xH → Prop} : wp d 36 33 [some .null] st h K ↔ wp d 36 34 [some .null] (.null :: st) h K := w_any (i := 36) (pc := 33) dX5_restart_33 rfl rfl
theorem dX5_restart_34 : decode cX5_restart 34 = .ok (.getfield 15, 3) := by decide +kernel
theorem w36_34 {d : Nat} {st : List Value} {h : xH} {K : Option Value → xH → Prop} {ls : xL} {a : Nat} : wp d 36 34 ls (.ref a :: st) h K ↔ y_get h a 6 0 (fun v => wp d 36 37 ls (v :: st) h K) := w_get (i := 36) (pc := 34) dX5_restart_34 rfl
theorem dX5_restart_37 : decode cX5_restart 37 = .ok (.lshl, 1) := by decide +kernel
theorem w36_37 {d : Nat} {st : List Value} {h : xH} {K : Option Value → xH → Prop} {ls : xL} {x : Int64} {y : Int32} : wp d 36 37 ls (.int y :: .long x :: st) h K ↔ wp d 36 38 ls (.long (x <<< (y.toInt64 &&& 63)) :: st) h K := w_any (i := 36) (pc := 37) dX5_restart_37 rfl rfl
theorem dX5_restart_38 : decode cX5_restart 38 = .ok (.putfield 36, 3) := by decide +kernel
theorem w36_38 {d : Nat} {st : List Value} {h : xH} {K : Option Value → xH → Prop} {ls : xL} {x : Int64} {a : Nat} : wp d 36 38 ls (.long x :: .ref a :: st) h K ↔ y_put h a 6 8 (.long x) (fun h1 => wp d 36 41 ls st h1 K) := w_put (i := 36) (pc := 38) dX5_restart_38 rfl trivial (Or.inl rfl)
theorem dX5_restart_41 : decode cX5_restart 41 = .ok (.aload_n 0, 1) := by decide +kernel
theorem w36_41 {d : Nat} {st : List Value} {h : xH} {K : Option Value → xH → Prop} {x : Nat} : wp d 36 41 [some (.ref x)] st h K ↔ wp d 36 42 [some (.ref x)] (.ref x :: st) h K := w_any (i := 36) (pc := 41) dX5_restart_41 rfl rfl
theorem w36_41n {d : Nat} {st : List Value} {h : xH} {K : Option Value → xH → Prop} : wp d 36 41 [some .null] st h K ↔ wp d 36 42 [some .null] (.null :: st) h K := w_any (i := 36) (pc := 41) dX5_restart_41 rfl rfl
theorem dX5_restart_42 : decode cX5_restart 42 = .ok (.lconst 0, 1) := by decide +kernel
theorem w36_42 {d : Nat} {st : List Value} {h : xH} {K : Option Value → xH → Prop} {ls : xL} : wp d 36 42 ls st h K ↔ wp d 36 43 ls (.long 0 :: st) h K := w_lconst (i := 36) (pc := 42) dX5_restart_42 (by decide)
theorem dX5_restart_43 : decode cX5_restart 43 = .ok (.putfield 40, 3) := by decide +kernel
theorem w36_43 {d : Nat} {st : List Value} {h : xH} {K : Option Value → xH → Prop} {ls : xL} {x : Int64} {a : Nat} : wp d 36 43 ls (.long x :: .ref a :: st) h K ↔ y_put h a 6 9 (.long x) (fun h1 => wp d 36 46 ls st h1 K) := w_put (i := 36) (pc := 43) dX5_restart_43 rfl trivial (Or.inl rfl)
theorem dX5_restart_46 : decode cX5_restart 46 = .ok (.return_, 1) := by decide +kernel
theorem w36_46 {d : Nat} {h : xH} {K : Option Value → xH → Prop} {ls : xL} : wp d 36 46 ls [] h K ↔ K none h := w_vret (i := 36) (pc := 46) dX5_restart_46 rfl
theorem dX5_isGrowing_0 : decode cX5_isGrowing 0 = .ok (.aload_n 0, 1) := by decide +kernel
theorem w37_0 {d : Nat} {st : List Value} {h : xH} {K : Option Value → xH → Prop} {x : Nat} : wp d 37 0 [some (.ref x)] st h K ↔ wp d 37 1 [some (.ref x)] (.ref x :: st) h K := w_any (i := 37) (pc := 0) dX5_isGrowing_0 rfl rfl
theorem w37_0n {d : Nat} {st : List Value} {h : xH} {K : Option Value → xH → Prop} : wp d 37 0 [some .null] st h K ↔ wp d 37 1 [some .null] (.null :: st) h K := w_any (i := 37) (pc := 0) dX5_isGrowing_0 rfl rfl
theorem dX5_isGrowing_1 : decode cX5_isGrowing 1 = .ok (.getfield 30, 3) := by decide +kernel
theorem w37_1 {d : Nat} {st : List Value} {h : xH} {K : Option Value → xH → Prop} {ls : xL} {a : Nat} : wp d 37 1 ls (.ref a :: st) h K ↔ y_get h a 6 6 (fun v => wp d 37 4 ls (v :: st) h K) := w_get (i := 37) (pc := 1) dX5_isGrowing_1 rfl
theorem dX5_isGrowing_4 : decode cX5_isGrowing 4 = .ok (.iconst (-1), 1) := by decide +kernel
theorem w37_4 {d : Nat} {st : List Value} {h : xH} {K : Option Value → xH → Prop} {ls : xL} : wp d 37 4 ls st h K ↔ wp d 37 5 ls (.int (-1) :: st) h K := w_iconst (i := 37) (pc := 4) dX5_isGrowing_4 (by decide)
theorem dX5_isGrowing_5 : decode cX5_isGrowing 5 = .ok (.if_icmp .ne 15, 3) := by decide +kernel
theorem w37_5 {d : Nat} {st : List Value} {h : xH} {K : Option Value → xH → Prop} {ls : xL} {x y : Int32} : wp d 37 5 ls (.int y :: .int x :: st) h K ↔ ((¬ x = y) → wp d 37 20 ls st h K) ∧ ((x = y) → wp d 37 8 ls st h K) := (w_if2 (i := 37) (pc := 5) (cd := .ne) (off := 15) (tgt := 20) dX5_isGrowing_5 (by decide) rfl).trans (and_congr Iff.rfl (imp_congr Classical.not_not Iff.rfl))
theorem dX5_isGrowing_8 : decode cX5_isGrowing 8 = .ok (.aload_n 0, 1) := by decide +kernel
theorem w37_8 {d : Nat} {st : List Value} {h : xH} {K : Option Value → xH → Prop} {x : Nat} : wp d 37 8 [some (.ref x)] st h K ↔ wp d 37 9 [some (.ref x)] (.ref x :: st) h K := w_any (i := 37) (pc := 8) dX5_isGrowing_8 rfl rfl
theorem w37_8n {d : Nat} {st : List Value} {h : xH} {K : Option Value → xH → Prop} : wp d 37 8 [some .null] st h K ↔ wp d 37 9 [some .null] (.null :: st) h K := w_any (i := 37) (pc := 8) dX5_isGrowing_8 rfl rfl
theorem dX5_isGrowing_9 : decode cX5_isGrowing 9 = .ok (.getfield 33, 3) := by decide +kernel
theorem w37_9 {d : Nat} {st : List Value} {h : xH} {K : Option Value → xH → Prop} {ls : xL} {a : Nat} : wp d 37 9 ls (.ref a :: st) h K ↔ y_get h a 6 7 (fun v => wp d 37 12 ls (v :: st) h K) := w_get (i := 37) (pc := 9) dX5_isGrowing_9 rfl
theorem dX5_isGrowing_12 : decode cX5_isGrowing 12 = .ok (.iconst (-1), 1) := by decide +kernel
theorem w37_12 {d : Nat} {st : List Value} {h : xH} {K : Option Value → xH → Prop} {ls : xL} : wp d 37 12 ls st h K ↔ wp d 37 13 ls (.int (-1) :: st) h K := w_iconst (i := 37) (pc := 12) dX5_isGrowing_12 (by decide)
theorem dX5_isGrowing_13 : decode cX5_isGrowing 13 = .ok (.if_icmp .ne 7, 3) := by decide +kernel
theorem w37_13 {d : Nat} {st : List Value} {h : xH} {K : Option Value → xH → Prop} {ls : xL} {x y : Int32} : wp d 37 13 ls (.int y :: .int x :: st) h K ↔ ((¬ x = y) → wp d 37 20 ls st h K) ∧ ((x = y) → wp d 37 16 ls st h K) := (w_if2 (i := 37) (pc := 13) (cd := .ne) (off := 7) (tgt := 20) dX5_isGrowing_13 (by decide) rfl).trans (and_congr Iff.rfl (imp_congr Classical.not_not Iff.rfl))
theorem dX5_isGrowing_16 : decode cX5_isGrowing 16 = .ok (.iconst 1, 1) := by decide +kernel
theorem w37_16 {d : Nat} {st : List Value} {h : xH} {K : Option Value → xH → Prop} {ls : xL} : wp d 37 16 ls st h K ↔ wp d 37 17 ls (.int 1 :: st) h K := w_iconst (i := 37) (pc := 16) dX5_isGrowing_16 (by decide)
theorem dX5_isGrowing_17 : decode cX5_isGrowing 17 = .ok (.goto 4, 3) := by decide +kernel
theorem w37_17 {d : Nat} {st : List Value} {h : xH} {K : Option Value → xH → Prop} {ls : xL} : wp d 37 17 ls st h K ↔ wp d 37 21 ls st h K := w_goto (i := 37) (pc := 17) dX5_isGrowing_17 (by decide) rfl
theorem dX5_isGrowing_20 : decode cX5_isGrowing 20 = .ok (.iconst 0, 1) := by decide +kernel
theorem w37_20 {d : Nat} {st : List Value} {h : xH} {K : Option Value → xH → Prop} {ls : xL} : wp d 37 20 ls st h K ↔ wp d 37 21 ls (.int 0 :: st) h K := w_iconst (i := 37) (pc := 20) dX5_isGrowing_20 (by decide)
theorem dX5_isGrowing_21 : decode cX5_isGrowing 21 = .ok (.ireturn, 1) := by decide +kernel
theorem w37_21 {d : Nat} {h : xH} {K : Option Value → xH → Prop} {ls : xL} {x : Int32} : wp d 37 21 ls [.int x] h K ↔ y_bool x ∧ K (some (.int x)) h := w_zret (i := 37) (pc := 21) dX5_isGrowing_21 rfl
theorem dX5_goOn_0 : decode cX5_goOn 0 = .ok (.aload_n 0, 1) := by decide +kernel
theorem w38_0 {d : Nat} {st : List Value} {h : xH} {K : Option Value → xH → Prop} {l1 l2 : Option Value} {x : Nat} : wp d 38 0 [some (.ref x), l1, l2] st h K ↔ wp d 38 1 [some (.ref x), l1, l2] (.ref x :: st) h K := w_any (i := 38) (pc := 0) dX5_goOn_0 rfl rfl
theorem w38_0n {d : Nat} {st : List Value} {h : xH} {K : Option Value → xH → Prop} {l1 l2 : Option Value} : wp d 38 0 [some .null, l1, l2] st h K ↔ wp d 38 1 [some .null, l1, l2] (.null :: st) h K := w_any (i := 38) (pc := 0) dX5_goOn_0 rfl rfl
theorem dX5_goOn_1 : decode cX5_goOn 1 = .ok (.iload_n 2, 1) := by decide +kernel
theorem w38_1 {d : Nat} {st : List Value} {h : xH} {K : Option Value → xH → Prop} {l0 l1 : Option Value} {x : Int32} : wp d 38 1 [l0, l1, some (.int x)] st h K ↔ wp d 38 2 [l0, l1, some (.int x)] (.int x :: st) h K := w_any (i := 38) (pc := 1) dX5_goOn_1 rfl rfl
theorem dX5_goOn_2 : decode cX5_goOn 2 = .ok (.putfield 21, 3) := by decide +kernel
theorem w38_2 {d : Nat} {st : List Value} {h : xH} {K : Option Value → xH → Prop} {ls : xL} {x : Int32} {a : Nat} : wp d 38 2 ls (.int x :: .ref a :: st) h K ↔ y_put h a 6 3 (.int x) (fun h1 => wp d 38 5 ls st h1 K) := w_put (i := 38) (pc := 2) dX5_goOn_2 rfl trivial (Or.inl rfl)
theorem dX5_goOn_5 : decode cX5_goOn 5 = .ok (.aload_n 0, 1) := by decide +kernel
theorem w38_5 {d : Nat} {st : List Value} {h : xH} {K : Option Value → xH → Prop} {l1 l2 : Option Value} {x : Nat} : wp d 38 5 [some (.ref x), l1, l2] st h K ↔ wp d 38 6 [some (.ref x), l1, l2] (.ref x :: st) h K := w_any (i := 38) (pc := 5) dX5_goOn_5 rfl rfl
theorem w38_5n {d : Nat} {st : List Value} {h : xH} {K : Option Value → xH → Prop} {l1 l2 : Option Value} : wp d 38 5 [some .null, l1, l2] st h K ↔ wp d 38 6 [some .null, l1, l2] (.null :: st) h K := w_any (i := 38) (pc := 5) dX5_goOn_5 rfl rfl
theorem dX5_goOn_6 : decode cX5_goOn 6 = .ok (.iload_n 1, 1) := by decide +kernel
theorem w38_6 {d : Nat} {st : List Value} {h : xH} {K : Option Value → xH → Prop} {l0 l2 : Option Value} {x : Int32} : wp d 38 6 [l0, some (.int x), l2] st h K ↔ wp d 38 7 [l0, some (.int x), l2] (.int x :: st) h K := w_any (i := 38) (pc := 6) dX5_goOn_6 rfl rfl
theorem dX5_goOn_7 : decode cX5_goOn 7 = .ok (.putfield 24, 3) := by decide +kernel
theorem w38_7 {d : Nat} {st : List Value} {h : xH} {K : Option Value → xH → Prop} {ls : xL} {x : Int32} {a : Nat} : wp d 38 7 ls (.int x :: .ref a :: st) h K ↔ y_put h a 6 4 (.int x) (fun h1 => wp d 38 10 ls st h1 K) := w_put (i := 38) (pc := 7) dX5_goOn_7 rfl trivial (Or.inl rfl)
theorem dX5_goOn_10 : decode cX5_goOn 10 = .ok (.aload_n 0, 1) := by decide +kernel
theorem w38_10 {d : Nat} {st : List Value} {h : xH} {K : Option Value → xH → Prop} {l1 l2 : Option Value} {x : Nat} : wp d 38 10 [some (.ref x), l1, l2] st h K ↔ wp d 38 11 [some (.ref x), l1, l2] (.ref x :: st) h K := w_any (i := 38) (pc := 10) dX5_goOn_10 rfl rfl
theorem w38_10n {d : Nat} {st : List Value} {h : xH} {K : Option Value → xH → Prop} {l1 l2 : Option Value} : wp d 38 10 [some .null, l1, l2] st h K ↔ wp d 38 11 [some .null, l1, l2] (.null :: st) h K := w_any (i := 38) (pc := 10) dX5_goOn_10 rfl rfl
theorem dX5_goOn_11 : decode cX5_goOn 11 = .ok (.dup, 1) := by decide +kernel
theorem w38_11 {d : Nat} {st : List Value} {h : xH} {K : Option Value → xH → Prop} {ls : xL} {x : Int32} : wp d 38 11 ls (.int x :: st) h K ↔ wp d 38 12 ls (.int x :: .int x :: st) h K := (w_any (i := 38) (pc := 11) dX5_goOn_11 rfl rfl).trans (w_ct rfl)
theorem w38_11r {d : Nat} {st : List Value} {h : xH} {K : Option Value → xH → Prop} {ls : xL} {x : Nat} : wp d 38 11 ls (.ref x :: st) h K ↔ wp d 38 12 ls (.ref x :: .ref x :: st) h K := (w_any (i := 38) (pc := 11) dX5_goOn_11 rfl rfl).trans (w_ct rfl)
theorem dX5_goOn_12 : decode cX5_goOn 12 = .ok (.getfield 36, 3) := by decide +kernel
theorem w38_12 {d : Nat} {st : List Value} {h : xH} {K : Option Value → xH → Prop} {ls : xL} {a : Nat} : wp d 38 12 ls (.ref a :: st) h K ↔ y_get h a 6 8 (fun v => wp d 38 15 ls (v :: st) h K) := w_get (i := 38) (pc := 12) dX5_goOn_12 rfl
theorem dX5_goOn_15 : decode cX5_goOn 15 = .ok (.lconst 1, 1) := by decide +kernel
theorem w38_15 {d : Nat} {st : List Value} {h : xH} {K : Option Value → xH → Prop} {ls : xL} : wp d 38 15 ls st h K ↔ wp d 38 16 ls (.long 1 :: st) h K := w_lconst (i := 38) (pc := 15) dX5_goOn_15 (by decide)
theorem dX5_goOn_16 : decode cX5_goOn 16 = .ok (.iload_n 2, 1) := by decide +kernel
theorem w38_16 {d : Nat} {st : List Value} {h : xH} {K : Option Value → xH → Prop} {l0 l1 : Option Value} {x : Int32} : wp d 38 16 [l0, l1, some (.int x)] st h K ↔ wp d 38 17 [l0, l1, some (.int x)] (.int x :: st) h K := w_any (i := 38) (pc := 16) dX5_goOn_16 rfl rfl
theorem dX5_goOn_17 : decode cX5_goOn 17 = .ok (.lshl, 1) := by decide +kernel
theorem w38_17 {d : Nat} {st : List Value} {h : xH} {K : Option Value → xH → Prop} {ls : xL} {x : Int64} {y : Int32} : wp d 38 17 ls (.int y :: .long x :: st) h K ↔ wp d 38 18 ls (.long (x <<< (y.toInt64 &&& 63)) :: st) h K := w_any (i := 38) (pc := 17) dX5_goOn_17 rfl rfl
theorem dX5_goOn_18 : decode cX5_goOn 18 = .ok (.lor, 1) := by decide +kernel
theorem w38_18 {d : Nat} {st : List Value} {h : xH} {K : Option Value → xH → Prop} {ls : xL} {x y : Int64} : wp d 38 18 ls (.long y :: .long x :: st) h K ↔ wp d 38 19 ls (.long (x ||| y) :: st) h K := w_any (i := 38) (pc := 18) dX5_goOn_18 rfl rfl
theorem dX5_goOn_19 : decode cX5_goOn 19 = .ok (.putfield 36, 3) := by decide +kernel
theorem w38_19 {d : Nat} {st : List Value} {h : xH} {K : Option Value → xH → Prop} {ls : xL} {x : Int64} {a : Nat} : wp d 38 19 ls (.long x :: .ref a :: st) h K ↔ y_put h a 6 8 (.long x) (fun h1 => wp d 38 22 ls st h1 K) := w_put (i := 38) (pc := 19) dX5_goOn_19 rfl trivial (Or.inl rfl)
theorem dX5_goOn_22 : decode cX5_goOn 22 = .ok (.aload_n 0, 1) := by decide +kernel
theorem w38_22 {d : Nat} {st : List Value} {h : xH} {K : Option Value → xH → Prop} {l1 l2 : Option Value} {x : Nat} : wp d 38 22 [some (.ref x), l1, l2] st h K ↔ wp d 38 23 [some (.ref x), l1, l2] (.ref x :: st) h K := w_any (i := 38) (pc := 22) dX5_goOn_22 rfl rfl
theorem w38_22n {d : Nat} {st : List Value} {h : xH} {K : Option Value → xH → Prop} {l1 l2 : Option Value} : wp d 38 22 [some .null, l1, l2] st h K ↔ wp d 38 23 [some .null, l1, l2] (.null :: st) h K := w_any (i := 38) (pc := 22) dX5_goOn_22 rfl rfl
theorem dX5_goOn_23 : decode cX5_goOn 23 = .ok (.dup, 1) := by decide +kernel
theorem w38_23 {d : Nat} {st : List Value} {h : xH} {K : Option Value → xH → Prop} {ls : xL} {x : Int32} : wp d 38 23 ls (.int x :: st) h K ↔ wp d 38 24 ls (.int x :: .int x :: st) h K := (w_any (i := 38) (pc := 23) dX5_goOn_23 rfl rfl).trans (w_ct rfl)
theorem w38_23r {d : Nat} {st : List Value} {h : xH} {K : Option Value → xH → Prop} {ls : xL} {x : Nat} : wp d 38 23 ls (.ref x :: st) h K ↔ wp d 38 24 ls (.ref x :: .ref x :: st) h K := (w_any (i := 38) (pc := 23) dX5_goOn_23 rfl rfl).trans (w_ct rfl)
theorem dX5_goOn_24 : decode cX5_goOn 24 = .ok (.getfield 40, 3) := by decide +kernel
theorem w38_24 {d : Nat} {st : List Value} {h : xH} {K : Option Value → xH → Prop} {ls : xL} {a : Nat} : wp d 38 24 ls (.ref a :: st) h K ↔ y_get h a 6 9 (fun v => wp d 38 27 ls (v :: st) h K) := w_get (i := 38) (pc := 24) dX5_goOn_24 rfl
theorem dX5_goOn_27 : decode cX5_goOn 27 = .ok (.iload_n 1, 1) := by decide +kernel
theorem w38_27 {d : Nat} {st : List Value} {h : xH} {K : Option Value → xH → Prop} {l0 l2 : Option Value} {x : Int32} : wp d 38 27 [l0, some (.int x), l2] st h K ↔ wp d 38 28 [l0, some (.int x), l2] (.int x :: st) h K := w_any (i := 38) (pc := 27) dX5_goOn_27 rfl rfl
theorem dX5_goOn_28 : decode cX5_goOn 28 = .ok (.i2l, 1) := by decide +kernel
theorem w38_28 {d : Nat} {st : List Value} {h : xH} {K : Option Value → xH → Prop} {ls : xL} {x : Int32} : wp d 38 28 ls (.int x :: st) h K ↔ wp d 38 29 ls (.long x.toInt64 :: st) h K := w_any (i := 38) (pc := 28) dX5_goOn_28 rfl rfl
theorem dX5_goOn_29 : decode cX5_goOn 29 = .ok (.iconst 2, 1) := by decide +kernel
theorem w38_29 {d : Nat} {st : List Value} {h : xH} {K : Option Value → xH → Prop} {ls : xL} : wp d 38 29 ls st h K ↔ wp d 38 30 ls (.int 2 :: st) h K := w_iconst (i := 38) (pc := 29) dX5_goOn_29 (by decide)
theorem dX5_goOn_30 : decode cX5_goOn 30 = .ok (.iload_n 2, 1) := by decide +kernel
theorem w38_30 {d : Nat} {st : List Value} {h : xH} {K : Option Value → xH → Prop} {l0 l1 : Option Value} {x : Int32} : wp d 38 30 [l0, l1, some (.int x)] st h K ↔ wp d 38 31 [l0, l1, some (.int x)] (.int x :: st) h K := w_any (i := 38) (pc := 30) dX5_goOn_30 rfl rfl
theorem dX5_goOn_31 : decode cX5_goOn 31 = .ok (.imul, 1) := by decide +kernel
theorem w38_31 {d : Nat} {st : List Value} {h : xH} {K : Option Value → xH → Prop} {ls : xL} {x y : Int32} : wp d 38 31 ls (.int y :: .int x :: st) h K ↔ wp d 38 32 ls (.int (x * y) :: st) h K := w_any (i := 38) (pc := 31) dX5_goOn_31 rfl rfl
theorem dX5_goOn_32 : decode cX5_goOn 32 = .ok (.lshl, 1) := by decide +kernel
theorem w38_32 {d : Nat} {st : List Value} {h : xH} {K : Option Value → xH → Prop} {ls : xL} {x : Int64} {y : Int32} : wp d 38 32 ls (.int y :: .long x :: st) h K ↔ wp d 38 33 ls (.long (x <<< (y.toInt64 &&& 63)) :: st) h K := w_any (i := 38) (pc := 32) dX5_goOn_32 rfl rfl
theorem dX5_goOn_33 : decode cX5_goOn 33 = .ok (.lor, 1) := by decide +kernel
theorem w38_33 {d : Nat} {st : List Value} {h : xH} {K : Option Value → xH → Prop} {ls : xL} {x y : Int64} : wp d 38 33 ls (.long y :: .long x :: st) h K ↔ wp d 38 34 ls (.long (x ||| y) :: st) h K := w_any (i := 38) (pc := 33) dX5_goOn_33 rfl rfl
theorem dX5_goOn_34 : decode cX5_goOn 34 = .ok (.putfield 40, 3) := by decide +kernel
theorem w38_34 {d : Nat} {st : List Value} {h : xH} {K : Option Value → xH → Prop} {ls : xL} {x : Int64} {a : Nat} : wp d 38 34 ls (.long x :: .ref a :: st) h K ↔ y_put h a 6 9 (.long x) (fun h1 => wp d 38 37 ls st h1 K) := w_put (i := 38) (pc := 34) dX5_goOn_34 rfl trivial (Or.inl rfl)
theorem dX5_goOn_37 : decode cX5_goOn 37 = .ok (.return_, 1) := by decide +kernel
theorem w38_37 {d : Nat} {h : xH} {K : Option Value → xH → Prop} {ls : xL} : wp d 38 37 ls [] h K ↔ K none h := w_vret (i := 38) (pc := 37) dX5_goOn_37 rfl
theorem dX5_wayBack_0 : decode cX5_wayBack 0 = .ok (.aload_n 0, 1) := by decide +kernel
theorem w39_0 {d : Nat} {st : List Value} {h : xH} {K : Option Value → xH → Prop} {x : Nat} : wp d 39 0 [some (.ref x)] st h K ↔ wp d 39 1 [some (.ref x)] (.ref x :: st) h K := w_any (i := 39) (pc := 0) dX5_wayBack_0 rfl rfl
theorem w39_0n {d : Nat} {st : List Value} {h : xH} {K : Option Value → xH → Prop} : wp d 39 0 [some .null] st h K ↔ wp d 39 1 [some .null] (.null :: st) h K := w_any (i := 39) (pc := 0) dX5_wayBack_0 rfl rfl
theorem dX5_wayBack_1 : decode cX5_wayBack 1 = .ok (.getfield 40, 3) := by decide +kernel
theorem w39_1 {d : Nat} {st : List Value} {h : xH} {K : Option Value → xH → Prop} {ls : xL} {a : Nat} : wp d 39 1 ls (.ref a :: st) h K ↔ y_get h a 6 9 (fun v => wp d 39 4 ls (v :: st) h K) := w_get (i := 39) (pc := 1) dX5_wayBack_1 rfl
theorem dX5_wayBack_4 : decode cX5_wayBack 4 = .ok (.iconst 2, 1) := by decide +kernel
theorem w39_4 {d : Nat} {st : List Value} {h : xH} {K : Option Value → xH → Prop} {ls : xL} : wp d 39 4 ls st h K ↔ wp d 39 5 ls (.int 2 :: st) h K := w_iconst (i := 39) (pc := 4) dX5_wayBack_4 (by decide)
theorem dX5_wayBack_5 : decode cX5_wayBack 5 = .ok (.aload_n 0, 1) := by decide +kernel
theorem w39_5 {d : Nat} {st : List Value} {h : xH} {K : Option Value → xH → Prop} {x : Nat} : wp d 39 5 [some (.ref x)] st h K ↔ wp d 39 6 [some (.ref x)] (.ref x :: st) h K := w_any (i := 39) (pc := 5) dX5_wayBack_5 rfl rfl
theorem w39_5n {d : Nat} {st : List Value} {h : xH} {K : Option Value → xH → Prop} : wp d 39 5 [some .null] st h K ↔ wp d 39 6 [some .null] (.null :: st) h K := w_any (i := 39) (pc := 5) dX5_wayBack_5 rfl rfl
theorem dX5_wayBack_6 : decode cX5_wayBack 6 = .ok (.getfield 21, 3) := by decide +kernel
theorem w39_6 {d : Nat} {st : List Value} {h : xH} {K : Option Value → xH → Prop} {ls : xL} {a : Nat} : wp d 39 6 ls (.ref a :: st) h K ↔ y_get h a 6 3 (fun v => wp d 39 9 ls (v :: st) h K) := w_get (i := 39) (pc := 6) dX5_wayBack_6 rfl
theorem dX5_wayBack_9 : decode cX5_wayBack 9 = .ok (.imul, 1) := by decide +kernel
theorem w39_9 {d : Nat} {st : List Value} {h : xH} {K : Option Value → xH → Prop} {ls : xL} {x y : Int32} : wp d 39 9 ls (.int y :: .int x :: st) h K ↔ wp d 39 10 ls (.int (x * y) :: st) h K := w_any (i := 39) (pc := 9) dX5_wayBack_9 rfl rfl
theorem dX5_wayBack_10 : decode cX5_wayBack 10 = .ok (.lshr, 1) := by decide +kernel
theorem w39_10 {d : Nat} {st : List Value} {h : xH} {K : Option Value → xH → Prop} {ls : xL} {x : Int64} {y : Int32} : wp d 39 10 ls (.int y :: .long x :: st) h K ↔ wp d 39 11 ls (.long (x >>> (y.toInt64 &&& 63)) :: st) h K := w_any (i := 39) (pc := 10) dX5_wayBack_10 rfl rfl
theorem dX5_wayBack_11 : decode cX5_wayBack 11 = .ok (.l2i, 1) := by decide +kernel
theorem w39_11 {d : Nat} {st : List Value} {h : xH} {K : Option Value → xH → Prop} {ls : xL} {x : Int64} : wp d 39 11 ls (.long x :: st) h K ↔ wp d 39 12 ls (.int x.toInt32 :: st) h K := w_any (i := 39) (pc := 11) dX5_wayBack_11 rfl rfl
theorem dX5_wayBack_12 : decode cX5_wayBack 12 = .ok (.iconst 2, 1) := by decide +kernel
theorem w39_12 {d : Nat} {st : List Value} {h : xH} {K : Option Value → xH → Prop} {ls : xL} : wp d 39 12 ls st h K ↔ wp d 39 13 ls (.int 2 :: st) h K := w_iconst (i := 39) (pc := 12) dX5_wayBack_12 (by decide)
theorem dX5_wayBack_13 : decode cX5_wayBack 13 = .ok (.iadd, 1) := by decide +kernel
theorem w39_13 {d : Nat} {st : List Value} {h : xH} {K : Option Value → xH → Prop} {ls : xL} {x y : Int32} : wp d 39 13 ls (.int y :: .int x :: st) h K ↔ wp d 39 14 ls (.int (x + y) :: st) h K := w_any (i := 39) (pc := 13) dX5_wayBack_13 rfl rfl
theorem dX5_wayBack_14 : decode cX5_wayBack 14 = .ok (.iconst 3, 1) := by decide +kernel
theorem w39_14 {d : Nat} {st : List Value} {h : xH} {K : Option Value → xH → Prop} {ls : xL} : wp d 39 14 ls st h K ↔ wp d 39 15 ls (.int 3 :: st) h K := w_iconst (i := 39) (pc := 14) dX5_wayBack_14 (by decide)
theorem dX5_wayBack_15 : decode cX5_wayBack 15 = .ok (.iand, 1) := by decide +kernel
theorem w39_15 {d : Nat} {st : List Value} {h : xH} {K : Option Value → xH → Prop} {ls : xL} {x y : Int32} : wp d 39 15 ls (.int y :: .int x :: st) h K ↔ wp d 39 16 ls (.int (x &&& y) :: st) h K := w_any (i := 39) (pc := 15) dX5_wayBack_15 rfl rfl
theorem dX5_wayBack_16 : decode cX5_wayBack 16 = .ok (.ireturn, 1) := by decide +kernel
theorem w39_16 {d : Nat} {h : xH} {K : Option Value → xH → Prop} {ls : xL} {x : Int32} : wp d 39 16 ls [.int x] h K ↔ K (some (.int x)) h := w_iret (i := 39) (pc := 16) dX5_wayBack_16 rfl
theorem dX5_doubleBack_0 : decode cX5_doubleBack 0 = .ok (.aload_n 0, 1) := by decide +kernel
theorem w40_0 {d : Nat} {st : List Value} {h : xH} {K : Option Value → xH → Prop} {l1 l2 : Option Value} {x : Nat} : wp d 40 0 [some (.ref x), l1, l2] st h K ↔ wp d 40 1 [some (.ref x), l1, l2] (.ref x :: st) h K := w_any (i := 40) (pc := 0) dX5_doubleBack_0 rfl rfl
theorem w40_0n {d : Nat} {st : List Value} {h : xH} {K : Option Value → xH → Prop} {l1 l2 : Option Value} : wp d 40 0 [some .null, l1, l2] st h K ↔ wp d 40 1 [some .null, l1, l2] (.null :: st) h K := w_any (i := 40) (pc := 0) dX5_doubleBack_0 rfl rfl
theorem dX5_doubleBack_1 : decode cX5_doubleBack 1 = .ok (.iload_n 2, 1) := by decide +kernel
theorem w40_1 {d : Nat} {st : List Value} {h : xH} {K : Option Value → xH → Prop} {l0 l1 : Option Value} {x : Int32} : wp d 40 1 [l0, l1, some (.int x)] st h K ↔ wp d 40 2 [l0, l1, some (.int x)] (.int x :: st) h K := w_any (i := 40) (pc := 1) dX5_doubleBack_1 rfl rfl
theorem dX5_doubleBack_2 : decode cX5_doubleBack 2 = .ok (.putfield 21, 3) := by decide +kernel
theorem w40_2 {d : Nat} {st : List Value} {h : xH} {K : Option Value → xH → Prop} {ls : xL} {x : Int32} {a : Nat} : wp d 40 2 ls (.int x :: .ref a :: st) h K ↔ y_put h a 6 3 (.int x) (fun h1 => wp d 40 5 ls st h1 K) := w_put (i := 40) (pc := 2) dX5_doubleBack_2 rfl trivial (Or.inl rfl)
theorem dX5_doubleBack_5 : decode cX5_doubleBack 5 = .ok (.aload_n 0, 1) := by decide +kernel
theorem w40_5 {d : Nat} {st : List Value} {h : xH} {K : Option Value → xH → Prop} {l1 l2 : Option Value} {x : Nat} : wp d 40 5 [some (.ref x), l1, l2] st h K ↔ wp d 40 6 [some (.ref x), l1, l2] (.ref x :: st) h K := w_any (i := 40) (pc := 5) dX5_doubleBack_5 rfl rfl
theorem w40_5n {d : Nat} {st : List Value} {h : xH} {K : Option Value → xH → Prop} {l1 l2 : Option Value} : wp d 40 5 [some .null, l1, l2] st h K ↔ wp d 40 6 [some .null, l1, l2] (.null :: st) h K := w_any (i := 40) (pc := 5) dX5_doubleBack_5 rfl rfl
theorem dX5_doubleBack_6 : decode cX5_doubleBack 6 = .ok (.iload_n 1, 1) := by decide +kernel
theorem w40_6 {d : Nat} {st : List Value} {h : xH} {K : Option Value → xH → Prop} {l0 l2 : Option Value} {x : Int32} : wp d 40 6 [l0, some (.int x), l2] st h K ↔ wp d 40 7 [l0, some (.int x), l2] (.int x :: st) h K := w_any (i := 40) (pc := 6) dX5_doubleBack_6 rfl rfl
theorem dX5_doubleBack_7 : decode cX5_doubleBack 7 = .ok (.putfield 24, 3) := by decide +kernel
theorem w40_7 {d : Nat} {st : List Value} {h : xH} {K : Option Value → xH → Prop} {ls : xL} {x : Int32} {a : Nat} : wp d 40 7 ls (.int x :: .ref a :: st) h K ↔ y_put h a 6 4 (.int x) (fun h1 => wp d 40 10 ls st h1 K) := w_put (i := 40) (pc := 7) dX5_doubleBack_7 rfl trivial (Or.inl rfl)
theorem dX5_doubleBack_10 : decode cX5_doubleBack 10 = .ok (.aload_n 0, 1) := by decide +kernel
theorem w40_10 {d : Nat} {st : List Value} {h : xH} {K : Option Value → xH → Prop} {l1 l2 : Option Value} {x : Nat} : wp d 40 10 [some (.ref x), l1, l2] st h K ↔ wp d 40 11 [some (.ref x), l1, l2] (.ref x :: st) h K := w_any (i := 40) (pc := 10) dX5_doubleBack_10 rfl rfl
theorem w40_10n {d : Nat} {st : List Value} {h : xH} {K : Option Value → xH → Prop} {l1 l2 : Option Value} : wp d 40 10 [some .null, l1, l2] st h K ↔ wp d 40 11 [some .null, l1, l2] (.null :: st) h K := w_any (i := 40) (pc := 10) dX5_doubleBack_10 rfl rfl
theorem dX5_doubleBack_11 : decode cX5_doubleBack 11 = .ok (.dup, 1) := by decide +kernel
theorem w40_11 {d : Nat} {st : List Value} {h : xH} {K : Option Value → xH → Prop} {ls : xL} {x : Int32} : wp d 40 11 ls (.int x :: st) h K ↔ wp d 40 12 ls (.int x :: .int x :: st) h K := (w_any (i := 40) (pc := 11) dX5_doubleBack_11 rfl rfl).trans (w_ct rfl)
theorem w40_11r {d : Nat} {st : List Value} {h : xH} {K : Option Value → xH → Prop} {ls : xL} {x : Nat} : wp d 40 11 ls (.ref x :: st) h K ↔ wp d 40 12 ls (.ref x :: .ref x :: st) h K := (w_any (i := 40) (pc := 11) dX5_doubleBack_11 rfl rfl).trans (w_ct rfl)
theorem dX5_doubleBack_12 : decode cX5_doubleBack 12 = .ok (.getfield 27, 3) := by decide +kernel
theorem w40_12 {d : Nat} {st : List Value} {h : xH} {K : Option Value → xH → Prop} {ls : xL} {a : Nat} : wp d 40 12 ls (.ref a :: st) h K ↔ y_get h a 6 5 (fun v => wp d 40 15 ls (v :: st) h K) := w_get (i := 40) (pc := 12) dX5_doubleBack_12 rfl
theorem dX5_doubleBack_15 : decode cX5_doubleBack 15 = .ok (.iconst 1, 1) := by decide +kernel
theorem w40_15 {d : Nat} {st : List Value} {h : xH} {K : Option Value → xH → Prop} {ls : xL} : wp d 40 15 ls st h K ↔ wp d 40 16 ls (.int 1 :: st) h K := w_iconst (i := 40) (pc := 15) dX5_doubleBack_15 (by decide)
theorem dX5_doubleBack_16 : decode cX5_doubleBack 16 = .ok (.iadd, 1) := by decide +kernel
theorem w40_16 {d : Nat} {st : List Value} {h : xH} {K : Option Value → xH → Prop} {ls : xL} {x y : Int32} : wp d 40 16 ls (.int y :: .int x :: st) h K ↔ wp d 40 17 ls (.int (x + y) :: st) h K := w_any (i := 40) (pc := 16) dX5_doubleBack_16 rfl rfl
theorem dX5_doubleBack_17 : decode cX5_doubleBack 17 = .ok (.putfield 27, 3) := by decide +kernel
theorem w40_17 {d : Nat} {st : List Value} {h : xH} {K : Option Value → xH → Prop} {ls : xL} {x : Int32} {a : Nat} : wp d 40 17 ls (.int x :: .ref a :: st) h K ↔ y_put h a 6 5 (.int x) (fun h1 => wp d 40 20 ls st h1 K) := w_put (i := 40) (pc := 17) dX5_doubleBack_17 rfl trivial (Or.inl rfl)
theorem dX5_doubleBack_20 : decode cX5_doubleBack 20 = .ok (.return_, 1) := by decide +kernel
theorem w40_20 {d : Nat} {h : xH} {K : Option Value → xH → Prop} {ls : xL} : wp d 40 20 ls [] h K ↔ K none h := w_vret (i := 40) (pc := 20) dX5_doubleBack_20 rfl
theorem dX6_init_0 : decode cX6_init 0 = .ok (.aload_n 0, 1) := by decide +kernel
theorem w41_0 {d : Nat} {st : List Value} {h : xH} {K : Option Value → xH → Prop} {l1 : Option Value} {x : Nat} : wp d 41 0 [some (.ref x), l1] st h K ↔ wp d 41 1 [some (.ref x), l1] (.ref x :: st) h K := w_any (i := 41) (pc := 0) dX6_init_0 rfl rfl
theorem w41_0n {d : Nat} {st : List Value} {h : xH} {K : Option Value → xH → Prop} {l1 : Option Value} : wp d 41 0 [some .null, l1] st h K ↔ wp d 41 1 [some .null, l1] (.null :: st) h K := w_any (i := 41) (pc := 0) dX6_init_0 rfl rfl
theorem dX6_init_1 : decode cX6_init 1 = .ok (.invokespecial 5, 3) := by decide +kernel
theorem w41_1 {d : Nat} {st : List Value} {h : xH} {K : Option Value → xH → Prop} {ls : xL} {a : Nat} : wp d 41 1 ls (.ref a :: st) h K ↔ xcs st ≤ 8 ∧ wp d 41 4 ls st h K := w_objI (i := 41) (pc := 1) dX6_init_1 rfl
theorem dX6_init_4 : decode cX6_init 4 = .ok (.aload_n 0, 1) := by decide +kernel
theorem w41_4 {d : Nat} {st : List Value} {h : xH} {K : Option Value → xH → Prop} {l1 : Option Value} {x : Nat} : wp d 41 4 [some (.ref x), l1] st h K ↔ wp d 41 5 [some (.ref x), l1] (.ref x :: st) h K := w_any (i := 41) (pc := 4) dX6_init_4 rfl rfl
theorem w41_4n {d : Nat} {st : List Value} {h : xH} {K : Option Value → xH → Prop} {l1 : Option Value} : wp d 41 4 [some .null, l1] st h K ↔ wp d 41 5 [some .null, l1] (.null :: st) h K := w_any (i := 41) (pc := 4) dX6_init_4 rfl rfl
theorem dX6_init_5 : decode cX6_init 5 = .ok (.new 11, 3) := by decide +kernel
theorem w41_5 {d : Nat} {st : List Value} {h : xH} {K : Option Value → xH → Prop} {ls : xL} : wp d 41 5 ls st h K ↔ wp d 41 8 ls (.ref h.length :: st) (h ++ [.inr (1, [.null, .null, .null, .long 0])]) K := w_new (i := 41) (pc := 5) dX6_init_5 rfl rfl
theorem dX6_init_8 : decode cX6_init 8 = .ok (.dup, 1) := by decide +kernel
theorem w41_8 {d : Nat} {st : List Value} {h : xH} {K : Option Value → xH → Prop} {ls : xL} {x : Int32} : wp d 41 8 ls (.int x :: st) h K ↔ wp d 41 9 ls (.int x :: .int x :: st) h K := (w_any (i := 41) (pc := 8) dX6_init_8 rfl rfl).trans (w_ct rfl)
theorem w41_8r {d : Nat} {st : List Value} {h : xH} {K : Option Value → xH → Prop} {ls : xL} {x : Nat} : wp d 41 8 ls (.ref x :: st) h K ↔ wp d 41 9 ls (.ref x :: .ref x :: st) h K := (w_any (i := 41) (pc := 8) dX6_init_8 rfl rfl).trans (w_ct rfl)
theorem dX6_init_9 : decode cX6_init 9 = .ok (.invokespecial 13, 3) := by decide +kernel
theorem w41_9 {d : Nat} {st : List Value} {h : xH} {K : Option Value → xH → Prop} {ls : xL} {b : Nat} : wp (d + 1) 41 9 ls (.ref b :: st) h K ↔ xcs st ≤ 8 ∧ wp d 0 0 [some (.ref b)] [] h (fun v h1 => wp (d + 1) 41 12 ls (v.toList ++ st) h1 K) := w_callI (i := 41) (pc := 9) (as := []) (rest := st) (by decide) dX6_init_9 rfl (by decide) rfl rfl rfl rfl rfl
theorem dX6_init_12 : decode cX6_init 12 = .ok (.putfield 14, 3) := by decide +kernel
theorem w41_12 {d : Nat} {st : List Value} {h : xH} {K : Option Value → xH → Prop} {ls : xL} {x : Nat} {a : Nat} : wp d 41 12 ls (.ref x :: .ref a :: st) h K ↔ y_put h a 7 0 (.ref x) (fun h1 => wp d 41 15 ls st h1 K) := w_put (i := 41) (pc := 12) dX6_init_12 rfl trivial (Or.inr ⟨rfl, by decide, rfl⟩)
theorem dX6_init_15 : decode cX6_init 15 = .ok (.aload_n 0, 1) := by decide +kernel
theorem w41_15 {d : Nat} {st : List Value} {h : xH} {K : Option Value → xH → Prop} {l1 : Option Value} {x : Nat} : wp d 41 15 [some (.ref x), l1] st h K ↔ wp d 41 16 [some (.ref x), l1] (.ref x :: st) h K := w_any (i := 41) (pc := 15) dX6_init_15 rfl rfl
theorem w41_15n {d : Nat} {st : List Value} {h : xH} {K : Option Value → xH → Prop} {l1 : Option Value} : wp d 41 15 [some .null, l1] st h K ↔ wp d 41 16 [some .null, l1] (.null :: st) h K := w_any (i := 41) (pc := 15) dX6_init_15 rfl rfl
theorem dX6_init_16 : decode cX6_init 16 = .ok (.new 11, 3) := by decide +kernel
theorem w41_16 {d : Nat} {st : List Value} {h : xH} {K : Option Value → xH → Prop} {ls : xL} : wp d 41 16 ls st h K ↔ wp d 41 19 ls (.ref h.length :: st) (h ++ [.inr (1, [.null, .null, .null, .long 0])]) K := w_new (i := 41) (pc := 16) dX6_init_16 rfl rfl
theorem dX6_init_19 : decode cX6_init 19 = .ok (.dup, 1) := by decide +kernel
theorem w41_19 {d : Nat} {st : List Value} {h : xH} {K : Option Value → xH → Prop} {ls : xL} {x : Int32} : wp d 41 19 ls (.int x :: st) h K ↔ wp d 41 20 ls (.int x :: .int x :: st) h K := (w_any (i := 41) (pc := 19) dX6_init_19 rfl rfl).trans (w_ct rfl)
theorem w41_19r {d : Nat} {st : List Value} {h : xH} {K : Option Value → xH → Prop} {ls : xL} {x : Nat} : wp d 41 19 ls (.ref x :: st) h K ↔ wp d 41 20 ls (.ref x :: .ref x :: st) h K := (w_any (i := 41) (pc := 19) dX6_init_19 rfl rfl).trans (w_ct rfl)
theorem dX6_init_20 : decode cX6_init 20 = .ok (.invokespecial 13, 3) := by decide +kernel
theorem w41_20 {d : Nat} {st : List Value} {h : xH} {K : Option Value → xH → Prop} {ls : xL} {b : Nat} : wp (d + 1) 41 20 ls (.ref b :: st) h K ↔ xcs st ≤ 8 ∧ wp d 0 0 [some (.ref b)] [] h (fun v h1 => wp (d + 1) 41 23 ls (v.toList ++ st) h1 K) := w_callI (i := 41) (pc := 20) (as := []) (rest := st) (by decide) dX6_init_20 rfl (by decide) rfl rfl rfl rfl rfl
theorem dX6_init_23 : decode cX6_init 23 = .ok (.putfield 18, 3) := by decide +kernel
theorem w41_23 {d : Nat} {st : List Value} {h : xH} {K : Option Value → xH → Prop} {ls : xL} {x : Nat} {a : Nat} : wp d 41 23 ls (.ref x :: .ref a :: st) h K ↔ y_put h a 7 1 (.ref x) (fun h1 => wp d 41 26 ls st h1 K) := w_put (i := 41) (pc := 23) dX6_init_23 rfl trivial (Or.inr ⟨rfl, by decide, rfl⟩)
theorem dX6_init_26 : decode cX6_init 26 = .ok (.aload_n 0, 1) := by decide +kernel
theorem w41_26 {d : Nat} {st : List Value} {h : xH} {K : Option Value → xH → Prop} {l1 : Option Value} {x : Nat} : wp d 41 26 [some (.ref x), l1] st h K ↔ wp d 41 27 [some (.ref x), l1] (.ref x :: st) h K := w_any (i := 41) (pc := 26) dX6_init_26 rfl rfl
theorem w41_26n {d : Nat} {st : List Value} {h : xH} {K : Option Value → xH → Prop} {l1 : Option Value} : wp d 41 26 [some .null, l1] st h K ↔ wp d 41 27 [some .null, l1] (.null :: st) h K := w_any (i := 41) (pc := 26) dX6_init_26 rfl rfl
theorem dX6_init_27 : decode cX6_init 27 = .ok (.new 21, 3) := by decide +kernel
theorem w41_27 {d : Nat} {st : List Value} {h : xH} {K : Option Value → xH → Prop} {ls : xL} : wp d 41 27 ls st h K ↔ wp d 41 30 ls (.ref h.length :: st) (h ++ [.inr (0, [.int 0, .null, .int 0])]) K := w_new (i := 41) (pc := 27) dX6_init_27 rfl rfl
theorem dX6_init_30 : decode cX6_init 30 = .ok (.dup, 1) := by decide +kernel
theorem w41_30 {d : Nat} {st : List Value} {h : xH} {K : Option Value → xH → Prop} {ls : xL} {x : Int32} : wp d 41 30 ls (.int x :: st) h K ↔ wp d 41 31 ls (.int x :: .int x :: st) h K := (w_any (i := 41) (pc := 30) dX6_init_30 rfl rfl).trans (w_ct rfl)
theorem w41_30r {d : Nat} {st : List Value} {h : xH} {K : Option Value → xH → Prop} {ls : xL} {x : Nat} : wp d 41 30 ls (.ref x :: st) h K ↔ wp d 41 31 ls (.ref x :: .ref x :: st) h K := (w_any (i := 41) (pc := 30) dX6_init_30 rfl rfl).trans (w_ct rfl)
theorem dX6_init_31 : decode cX6_init 31 = .ok (.invokespecial 23, 3) := by decide +kernel
theorem w41_31 {d : Nat} {st : List Value} {h : xH} {K : Option Value → xH → Prop} {ls : xL} {b : Nat} : wp (d + 1) 41 31 ls (.ref b :: st) h K ↔ xcs st ≤ 8 ∧ wp d 157 0 [some (.ref b)] [] h (fun v h1 => wp (d + 1) 41 34 ls (v.toList ++ st) h1 K) := w_callI (i := 41) (pc := 31) (as := []) (rest := st) (by decide) dX6_init_31 rfl (by decide) rfl rfl rfl rfl rfl
theorem dX6_init_34 : decode cX6_init 34 = .ok (.putfield 24, 3) := by decide +kernel
theorem w41_34 {d : Nat} {st : List Value} {h : xH} {K : Option Value → xH → Prop} {ls : xL} {x : Nat} {a : Nat} : wp d 41 34 ls (.ref x :: .ref a :: st) h K ↔ y_put h a 7 2 (.ref x) (fun h1 => wp d 41 37 ls st h1 K) := w_put (i := 41) (pc := 34) dX6_init_34 rfl trivial (Or.inr ⟨rfl, by decide, rfl⟩)
theorem dX6_init_37 : decode cX6_init 37 = .ok (.aload_n 0, 1) := by decide +kernel
theorem w41_37 {d : Nat} {st : List Value} {h : xH} {K : Option Value → xH → Prop} {l1 : Option Value} {x : Nat} : wp d 41 37 [some (.ref x), l1] st h K ↔ wp d 41 38 [some (.ref x), l1] (.ref x :: st) h K := w_any (i := 41) (pc := 37) dX6_init_37 rfl rfl
theorem w41_37n {d : Nat} {st : List Value} {h : xH} {K : Option Value → xH → Prop} {l1 : Option Value} : wp d 41 37 [some .null, l1] st h K ↔ wp d 41 38 [some .null, l1] (.null :: st) h K := w_any (i := 41) (pc := 37) dX6_init_37 rfl rfl
theorem dX6_init_38 : decode cX6_init 38 = .ok (.iconst 4, 1) := by decide +kernel
theorem w41_38 {d : Nat} {st : List Value} {h : xH} {K : Option Value → xH → Prop} {ls : xL} : wp d 41 38 ls st h K ↔ wp d 41 39 ls (.int 4 :: st) h K := w_iconst (i := 41) (pc := 38) dX6_init_38 (by decide)
theorem dX6_init_39 : decode cX6_init 39 = .ok (.anewarray 28, 3) := by decide +kernel
theorem w41_39 {d : Nat} {st : List Value} {h : xH} {K : Option Value → xH → Prop} {ls : xL} {n : Int32} : wp d 41 39 ls (.int n :: st) h K ↔ ¬ n < 0 ∧ n.toNatClampNeg ≤ 1000 ∧ wp d 41 42 ls (.ref h.length :: st) (h ++ [.inl (3, n.toNatClampNeg, .inr (.inr (.inr (.inr (fun _ => none)))))]) K := w_newq3 (i := 41) (pc := 39) dX6_init_39 rfl
theorem dX6_init_42 : decode cX6_init 42 = .ok (.putfield 30, 3) := by decide +kernel
theorem w41_42 {d : Nat} {st : List Value} {h : xH} {K : Option Value → xH → Prop} {ls : xL} {x : Nat} {a : Nat} : wp d 41 42 ls (.ref x :: .ref a :: st) h K ↔ y_put h a 7 3 (.ref x) (fun h1 => wp d 41 45 ls st h1 K) := w_put (i := 41) (pc := 42) dX6_init_42 rfl trivial (Or.inr ⟨rfl, by decide, rfl⟩)
theorem dX6_init_45 : decode cX6_init 45 = .ok (.iconst 0, 1) := by decide +kernel
theorem w41_45 {d : Nat} {st : List Value} {h : xH} {K : Option Value → xH → Prop} {ls : xL} : wp d 41 45 ls st h K ↔ wp d 41 46 ls (.int 0 :: st) h K := w_iconst (i := 41) (pc := 45) dX6_init_45 (by decide)
theorem dX6_init_46 : decode cX6_init 46 = .ok (.istore_n 1, 1) := by decide +kernel
theorem w41_46 {d : Nat} {st : List Value} {h : xH} {K : Option Value → xH → Prop} {l0 l1 : Option Value} {x : Int32} : wp d 41 46 [l0, l1] (.int x :: st) h K ↔ wp d 41 47 [xk l0, some (.int x)] st h K := w_istore_n (i := 41) (pc := 46) dX6_init_46 (Nat.le_of_ble_eq_true rfl) (show xst1 [l0, l1] 1 (.int x) = [xk l0, some (.int x)] by simp only [xst1_0, xst1_1, xst1_s, Nat.reduceAdd])
theorem dX6_init_47 : decode cX6_init 47 = .ok (.iload_n 1, 1) := by decide +kernel
theorem w41_47 {d : Nat} {st : List Value} {h : xH} {K : Option Value → xH → Prop} {l0 : Option Value} {x : Int32} : wp d 41 47 [l0, some (.int x)] st h K ↔ wp d 41 48 [l0, some (.int x)] (.int x :: st) h K := w_any (i := 41) (pc := 47) dX6_init_47 rfl rfl
theorem dX6_init_48 : decode cX6_init 48 = .ok (.aload_n 0, 1) := by decide +kernel
theorem w41_48 {d : Nat} {st : List Value} {h : xH} {K : Option Value → xH → Prop} {l1 : Option Value} {x : Nat} : wp d 41 48 [some (.ref x), l1] st h K ↔ wp d 41 49 [some (.ref x), l1] (.ref x :: st) h K := w_any (i := 41) (pc := 48) dX6_init_48 rfl rfl
theorem w41_48n {d : Nat} {st : List Value} {h : xH} {K : Option Value → xH → Prop} {l1 : Option Value} : wp d 41 48 [some .null, l1] st h K ↔ wp d 41 49 [some .null, l1] (.null :: st) h K := w_any (i := 41) (pc := 48) dX6_init_48 rfl rfl
theorem dX6_init_49 : decode cX6_init 49 = .ok (.getfield 30, 3) := by decide +kernel
theorem w41_49 {d : Nat} {st : List Value} {h : xH} {K : Option Value → xH → Prop} {ls : xL} {a : Nat} : wp d 41 49 ls (.ref a :: st) h K ↔ y_get h a 7 3 (fun v => wp d 41 52 ls (v :: st) h K) := w_get (i := 41) (pc := 49) dX6_init_49 rfl
theorem dX6_init_52 : decode cX6_init 52 = .ok (.arraylength, 1) := by decide +kernel
theorem w41_52 {d : Nat} {st : List Value} {h : xH} {K : Option Value → xH → Prop} {ls : xL} {a : Nat} : wp d 41 52 ls (.ref a :: st) h K ↔ y_alen h a (fun v => wp d 41 53 ls (.int v :: st) h K) := w_alen (i := 41) (pc := 52) dX6_init_52
theorem dX6_init_53 : decode cX6_init 53 = .ok (.if_icmp .ge 22, 3) := by decide +kernel
theorem w41_53 {d : Nat} {st : List Value} {h : xH} {K : Option Value → xH → Prop} {ls : xL} {x y : Int32} : wp d 41 53 ls (.int y :: .int x :: st) h K ↔ ((y ≤ x) → wp d 41 75 ls st h K) ∧ ((¬ (y ≤ x)) → wp d 41 56 ls st h K) := w_if2 (i := 41) (pc := 53) (cd := .ge) (off := 22) (tgt := 75) dX6_init_53 (by decide) rfl
theorem dX6_init_56 : decode cX6_init 56 = .ok (.aload_n 0, 1) := by decide +kernel
theorem w41_56 {d : Nat} {st : List Value} {h : xH} {K : Option Value → xH → Prop} {l1 : Option Value} {x : Nat} : wp d 41 56 [some (.ref x), l1] st h K ↔ wp d 41 57 [some (.ref x), l1] (.ref x :: st) h K := w_any (i := 41) (pc := 56) dX6_init_56 rfl rfl
theorem w41_56n {d : Nat} {st : List Value} {h : xH} {K : Option Value → xH → Prop} {l1 : Option Value} : wp d 41 56 [some .null, l1] st h K ↔ wp d 41 57 [some .null, l1] (.null :: st) h K := w_any (i := 41) (pc := 56) dX6_init_56 rfl rfl
theorem dX6_init_57 : decode cX6_init 57 = .ok (.getfield 30, 3) := by decide +kernel
theorem w41_57 {d : Nat} {st : List Value} {h : xH} {K : Option Value → xH → Prop} {ls : xL} {a : Nat} : wp d 41 57 ls (.ref a :: st) h K ↔ y_get h a 7 3 (fun v => wp d 41 60 ls (v :: st) h K) := w_get (i := 41) (pc := 57) dX6_init_57 rfl
theorem dX6_init_60 : decode cX6_init 60 = .ok (.iload_n 1, 1) := by decide +kernel
theorem w41_60 {d : Nat} {st : List Value} {h : xH} {K : Option Value → xH → Prop} {l0 : Option Value} {x : Int32} : wp d 41 60 [l0, some (.int x)] st h K ↔ wp d 41 61 [l0, some (.int x)] (.int x :: st) h K := w_any (i := 41) (pc := 60) dX6_init_60 rfl rfl
theorem dX6_init_61 : decode cX6_init 61 = .ok (.new 28, 3) := by decide +kernel
theorem w41_61 {d : Nat} {st : List Value} {h : xH} {K : Option Value → xH → Prop} {ls : xL} : wp d 41 61 ls st h K ↔ wp d 41 64 ls (.ref h.length :: st) (h ++ [.inr (5, [.null, .int 0, .int 0])]) K := w_new (i := 41) (pc := 61) dX6_init_61 rfl rfl
theorem dX6_init_64 : decode cX6_init 64 = .ok (.dup, 1) := by decide +kernel
theorem w41_64 {d : Nat} {st : List Value} {h : xH} {K : Option Value → xH → Prop} {ls : xL} {x : Int32} : wp d 41 64 ls (.int x :: st) h K ↔ wp d 41 65 ls (.int x :: .int x :: st) h K := (w_any (i := 41) (pc := 64) dX6_init_64 rfl rfl).trans (w_ct rfl)
theorem w41_64r {d : Nat} {st : List Value} {h : xH} {K : Option Value → xH → Prop} {ls : xL} {x : Nat} : wp d 41 64 ls (.ref x :: st) h K ↔ wp d 41 65 ls (.ref x :: .ref x :: st) h K := (w_any (i := 41) (pc := 64) dX6_init_64 rfl rfl).trans (w_ct rfl)
theorem dX6_init_65 : decode cX6_init 65 = .ok (.invokespecial 34, 3) := by decide +kernel
theorem w41_65 {d : Nat} {st : List Value} {h : xH} {K : Option Value → xH → Prop} {ls : xL} {b : Nat} : wp (d + 1) 41 65 ls (.ref b :: st) h K ↔ xcs st ≤ 8 ∧ wp d 26 0 [some (.ref b)] [] h (fun v h1 => wp (d + 1) 41 68 ls (v.toList ++ st) h1 K) := w_callI (i := 41) (pc := 65) (as := []) (rest := st) (by decide) dX6_init_65 rfl (by decide) rfl rfl rfl rfl rfl
theorem dX6_init_68 : decode cX6_init 68 = .ok (.aastore, 1) := by decide +kernel
theorem w41_68 {d : Nat} {st : List Value} {h : xH} {K : Option Value → xH → Prop} {ls : xL} {a b : Nat} {x : Int32} : wp d 41 68 ls (.ref b :: .int x :: .ref a :: st) h K ↔ y_aast h a x b (fun h1 => wp d 41 69 ls st h1 K) := w_aast (i := 41) (pc := 68) dX6_init_68
theorem w41_68n {d : Nat} {st : List Value} {h : xH} {K : Option Value → xH → Prop} {ls : xL} {a : Nat} {x : Int32} : wp d 41 68 ls (.null :: .int x :: .ref a :: st) h K ↔ y_aastN h a x (fun h1 => wp d 41 69 ls st h1 K) := w_aastN (i := 41) (pc := 68) dX6_init_68
theorem dX6_init_69 : decode cX6_init 69 = .ok (.iinc 1 1, 3) := by decide +kernel
theorem w41_69 {d : Nat} {st : List Value} {h : xH} {K : Option Value → xH → Prop} {l0 : Option Value} {x : Int32} : wp d 41 69 [l0, some (.int x)] st h K ↔ wp d 41 72 [xk l0, some (.int (x + 1))] st h K := w_iinc (i := 41) (pc := 69) dX6_init_69 rfl (Nat.le_of_ble_eq_true rfl) (by decide) (show xst1 [l0, some (.int x)] 1 (.int (x + 1)) = [xk l0, some (.int (x + 1))] by simp only [xst1_0, xst1_1, xst1_s, Nat.reduceAdd])
theorem dX6_init_72 : decode cX6_init 72 = .ok (.goto (-25), 3) := by decide +kernel
theorem w41_72 {d : Nat} {st : List Value} {h : xH} {K : Option Value → xH → Prop} {ls : xL} : wp d 41 72 ls st h K ↔ wp d 41 47 ls st h K := w_goto (i := 41) (pc := 72) dX6_init_72 (by decide) rfl
theorem dX6_init_75 : decode cX6_init 75 = .ok (.return_, 1) := by decide +kernel
theorem w41_75 {d : Nat} {h : xH} {K : Option Value → xH → Prop} {ls : xL} : wp d 41 75 ls [] h K ↔ K none h := w_vret (i := 41) (pc := 75) dX6_init_75 rfl
theorem dX6_garden_0 : decode cX6_garden 0 = .ok (.aload_n 0, 1) := by decide +kernel
theorem w42_0 {d : Nat} {st : List Value} {h : xH} {K : Option Value → xH → Prop} {l1 l2 l3 l4 l5 l6 l7 : Option Value} {x : Nat} : wp d 42 0 [some (.ref x), l1, l2, l3, l4, l5, l6, l7] st h K ↔ wp d 42 1 [some (.ref x), l1, l2, l3, l4, l5, l6, l7] (.ref x :: st) h K := w_any (i := 42) (pc := 0) dX6_garden_0 rfl rfl
theorem w42_0n {d : Nat} {st : List Value} {h : xH} {K : Option Value → xH → Prop} {l1 l2 l3 l4 l5 l6 l7 : Option Value} : wp d 42 0 [some .null, l1, l2, l3, l4, l5, l6, l7] st h K ↔ wp d 42 1 [some .null, l1, l2, l3, l4, l5, l6, l7] (.null :: st) h K := w_any (i := 42) (pc := 0) dX6_garden_0 rfl rfl
theorem dX6_garden_1 : decode cX6_garden 1 = .ok (.iconst 0, 1) := by decide +kernel
theorem w42_1 {d : Nat} {st : List Value} {h : xH} {K : Option Value → xH → Prop} {ls : xL} : wp d 42 1 ls st h K ↔ wp d 42 2 ls (.int 0 :: st) h K := w_iconst (i := 42) (pc := 1) dX6_garden_1 (by decide)
theorem dX6_garden_2 : decode cX6_garden 2 = .ok (.putfield 35, 3) := by decide +kernel
theorem w42_2 {d : Nat} {st : List Value} {h : xH} {K : Option Value → xH → Prop} {ls : xL} {x : Int32} {a : Nat} : wp d 42 2 ls (.int x :: .ref a :: st) h K ↔ y_put h a 7 5 (.int x) (fun h1 => wp d 42 5 ls st h1 K) := w_put (i := 42) (pc := 2) dX6_garden_2 rfl trivial (Or.inl rfl)
theorem dX6_garden_5 : decode cX6_garden 5 = .ok (.aload_n 0, 1) := by decide +kernel
theorem w42_5 {d : Nat} {st : List Value} {h : xH} {K : Option Value → xH → Prop} {l1 l2 l3 l4 l5 l6 l7 : Option Value} {x : Nat} : wp d 42 5 [some (.ref x), l1, l2, l3, l4, l5, l6, l7] st h K ↔ wp d 42 6 [some (.ref x), l1, l2, l3, l4, l5, l6, l7] (.ref x :: st) h K := w_any (i := 42) (pc := 5) dX6_garden_5 rfl rfl
theorem w42_5n {d : Nat} {st : List Value} {h : xH} {K : Option Value → xH → Prop} {l1 l2 l3 l4 l5 l6 l7 : Option Value} : wp d 42 5 [some .null, l1, l2, l3, l4, l5, l6, l7] st h K ↔ wp d 42 6 [some .null, l1, l2, l3, l4, l5, l6, l7] (.null :: st) h K := w_any (i := 42) (pc := 5) dX6_garden_5 rfl rfl
theorem dX6_garden_6 : decode cX6_garden 6 = .ok (.iload_n 1, 1) := by decide +kernel
theorem w42_6 {d : Nat} {st : List Value} {h : xH} {K : Option Value → xH → Prop} {l0 l2 l3 l4 l5 l6 l7 : Option Value} {x : Int32} : wp d 42 6 [l0, some (.int x), l2, l3, l4, l5, l6, l7] st h K ↔ wp d 42 7 [l0, some (.int x), l2, l3, l4, l5, l6, l7] (.int x :: st) h K := w_any (i := 42) (pc := 6) dX6_garden_6 rfl rfl
theorem dX6_garden_7 : decode cX6_garden 7 = .ok (.invokevirtual 39, 3) := by decide +kernel
theorem w42_7 {d : Nat} {st : List Value} {h : xH} {K : Option Value → xH → Prop} {ls : xL} {a0 : Int32} {b : Nat} : wp (d + 1) 42 7 ls (.int a0 :: .ref b :: st) h K ↔ y_cls h b 7 ∧ xcs st ≤ 8 ∧ wp d 77 0 [some (.ref b), some (.int a0)] [] h (fun v h1 => wp (d + 1) 42 10 ls (v.toList ++ st) h1 K) := w_callW (i := 42) (pc := 7) (as := [.int a0]) (rest := st) dX6_garden_7 rfl (by decide) rfl rfl (by decide) rfl rfl rfl rfl
theorem dX6_garden_10 : decode cX6_garden 10 = .ok (.astore 5, 2) := by decide +kernel
theorem w42_10 {d : Nat} {st : List Value} {h : xH} {K : Option Value → xH → Prop} {l0 l1 l2 l3 l4 l5 l6 l7 : Option Value} {x : Nat} : wp d 42 10 [l0, l1, l2, l3, l4, l5, l6, l7] (.ref x :: st) h K ↔ wp d 42 12 [l0, l1, l2, l3, xk l4, some (.ref x), l6, l7] st h K := w_astore (i := 42) (pc := 10) dX6_garden_10 (Nat.le_of_ble_eq_true rfl) (show xst1 [l0, l1, l2, l3, l4, l5, l6, l7] 5 (.ref x) = [l0, l1, l2, l3, xk l4, some (.ref x), l6, l7] by simp only [xst1_0, xst1_1, xst1_s, Nat.reduceAdd])
theorem w42_10n {d : Nat} {st : List Value} {h : xH} {K : Option Value → xH → Prop} {l0 l1 l2 l3 l4 l5 l6 l7 : Option Value} : wp d 42 10 [l0, l1, l2, l3, l4, l5, l6, l7] (.null :: st) h K ↔ wp d 42 12 [l0, l1, l2, l3, xk l4, some (.null), l6, l7] st h K := w_astoreN (i := 42) (pc := 10) dX6_garden_10 (Nat.le_of_ble_eq_true rfl) (show xst1 [l0, l1, l2, l3, l4, l5, l6, l7] 5 (.null) = [l0, l1, l2, l3, xk l4, some (.null), l6, l7] by simp only [xst1_0, xst1_1, xst1_s, Nat.reduceAdd])
theorem dX6_garden_12 : decode cX6_garden 12 = .ok (.aload 5, 2) := by decide +kernel
theorem w42_12 {d : Nat} {st : List Value} {h : xH} {K : Option Value → xH → Prop} {l0 l1 l2 l3 l4 l6 l7 : Option Value} {x : Nat} : wp d 42 12 [l0, l1, l2, l3, l4, some (.ref x), l6, l7] st h K ↔ wp d 42 14 [l0, l1, l2, l3, l4, some (.ref x), l6, l7] (.ref x :: st) h K := w_any (i := 42) (pc := 12) dX6_garden_12 rfl rfl
theorem w42_12n {d : Nat} {st : List Value} {h : xH} {K : Option Value → xH → Prop} {l0 l1 l2 l3 l4 l6 l7 : Option Value} : wp d 42 12 [l0, l1, l2, l3, l4, some .null, l6, l7] st h K ↔ wp d 42 14 [l0, l1, l2, l3, l4, some .null, l6, l7] (.null :: st) h K := w_any (i := 42) (pc := 12) dX6_garden_12 rfl rfl
theorem dX6_garden_14 : decode cX6_garden 14 = .ok (.ifnonnull 5, 3) := by decide +kernel
theorem w42_14 {d : Nat} {st : List Value} {h : xH} {K : Option Value → xH → Prop} {ls : xL} {x : Nat} : wp d 42 14 ls (.ref x :: st) h K ↔ wp d 42 19 ls st h K := w_ifnonnull (i := 42) (pc := 14) dX6_garden_14 (by decide) rfl
theorem w42_14n {d : Nat} {st : List Value} {h : xH} {K : Option Value → xH → Prop} {ls : xL} : wp d 42 14 ls (.null :: st) h K ↔ wp d 42 17 ls st h K := w_ifnonnullN (i := 42) (pc := 14) dX6_garden_14
theorem dX6_garden_17 : decode cX6_garden 17 = .ok (.iconst (-1), 1) := by decide +kernel
theorem w42_17 {d : Nat} {st : List Value} {h : xH} {K : Option Value → xH → Prop} {ls : xL} : wp d 42 17 ls st h K ↔ wp d 42 18 ls (.int (-1) :: st) h K := w_iconst (i := 42) (pc := 17) dX6_garden_17 (by decide)
theorem dX6_garden_18 : decode cX6_garden 18 = .ok (.ireturn, 1) := by decide +kernel
theorem w42_18 {d : Nat} {h : xH} {K : Option Value → xH → Prop} {ls : xL} {x : Int32} : wp d 42 18 ls [.int x] h K ↔ K (some (.int x)) h := w_iret (i := 42) (pc := 18) dX6_garden_18 rfl
theorem dX6_garden_19 : decode cX6_garden 19 = .ok (.iload_n 2, 1) := by decide +kernel
theorem w42_19 {d : Nat} {st : List Value} {h : xH} {K : Option Value → xH → Prop} {l0 l1 l3 l4 l5 l6 l7 : Option Value} {x : Int32} : wp d 42 19 [l0, l1, some (.int x), l3, l4, l5, l6, l7] st h K ↔ wp d 42 20 [l0, l1, some (.int x), l3, l4, l5, l6, l7] (.int x :: st) h K := w_any (i := 42) (pc := 19) dX6_garden_19 rfl rfl
theorem dX6_garden_20 : decode cX6_garden 20 = .ok (.iconst 3, 1) := by decide +kernel
theorem w42_20 {d : Nat} {st : List Value} {h : xH} {K : Option Value → xH → Prop} {ls : xL} : wp d 42 20 ls st h K ↔ wp d 42 21 ls (.int 3 :: st) h K := w_iconst (i := 42) (pc := 20) dX6_garden_20 (by decide)
theorem dX6_garden_21 : decode cX6_garden 21 = .ok (.invokestatic 43, 3) := by decide +kernel
theorem w42_21 {d : Nat} {st : List Value} {h : xH} {K : Option Value → xH → Prop} {ls : xL} {a0 : Int32} {a1 : Int32} : wp (d + 1) 42 21 ls (.int a1 :: .int a0 :: st) h K ↔ xcs st ≤ 8 ∧ wp d 74 0 [some (.int a0), some (.int a1)] [] h (fun v h1 => wp (d + 1) 42 24 ls (v.toList ++ st) h1 K) := w_callS (i := 42) (pc := 21) (as := [.int a0, .int a1]) (rest := st) dX6_garden_21 rfl (by decide) rfl rfl rfl rfl rfl
theorem dX6_garden_24 : decode cX6_garden 24 = .ok (.ifCond .ne 6, 3) := by decide +kernel
theorem w42_24 {d : Nat} {st : List Value} {h : xH} {K : Option Value → xH → Prop} {ls : xL} {x : Int32} : wp d 42 24 ls (.int x :: st) h K ↔ ((¬ x = 0) → wp d 42 30 ls st h K) ∧ ((x = 0) → wp d 42 27 ls st h K) := (w_if1 (i := 42) (pc := 24) (cd := .ne) (off := 6) (tgt := 30) dX6_garden_24 (by decide) rfl).trans (and_congr Iff.rfl (imp_congr Classical.not_not Iff.rfl))
theorem dX6_garden_27 : decode cX6_garden 27 = .ok (.bipush (-2), 2) := by decide +kernel
theorem w42_27 {d : Nat} {st : List Value} {h : xH} {K : Option Value → xH → Prop} {ls : xL} : wp d 42 27 ls st h K ↔ wp d 42 29 ls (.int (-2) :: st) h K := w_bipush (i := 42) (pc := 27) dX6_garden_27 (by decide)
theorem dX6_garden_29 : decode cX6_garden 29 = .ok (.ireturn, 1) := by decide +kernel
theorem w42_29 {d : Nat} {h : xH} {K : Option Value → xH → Prop} {ls : xL} {x : Int32} : wp d 42 29 ls [.int x] h K ↔ K (some (.int x)) h := w_iret (i := 42) (pc := 29) dX6_garden_29 rfl
theorem dX6_garden_30 : decode cX6_garden 30 = .ok (.aload 5, 2) := by decide +kernel
theorem w42_30 {d : Nat} {st : List Value} {h : xH} {K : Option Value → xH → Prop} {l0 l1 l2 l3 l4 l6 l7 : Option Value} {x : Nat} : wp d 42 30 [l0, l1, l2, l3, l4, some (.ref x), l6, l7] st h K ↔ wp d 42 32 [l0, l1, l2, l3, l4, some (.ref x), l6, l7] (.ref x :: st) h K := w_any (i := 42) (pc := 30) dX6_garden_30 rfl rfl
theorem w42_30n {d : Nat} {st : List Value} {h : xH} {K : Option Value → xH → Prop} {l0 l1 l2 l3 l4 l6 l7 : Option Value} : wp d 42 30 [l0, l1, l2, l3, l4, some .null, l6, l7] st h K ↔ wp d 42 32 [l0, l1, l2, l3, l4, some .null, l6, l7] (.null :: st) h K := w_any (i := 42) (pc := 30) dX6_garden_30 rfl rfl
theorem dX6_garden_32 : decode cX6_garden 32 = .ok (.iload_n 2, 1) := by decide +kernel
theorem w42_32 {d : Nat} {st : List Value} {h : xH} {K : Option Value → xH → Prop} {l0 l1 l3 l4 l5 l6 l7 : Option Value} {x : Int32} : wp d 42 32 [l0, l1, some (.int x), l3, l4, l5, l6, l7] st h K ↔ wp d 42 33 [l0, l1, some (.int x), l3, l4, l5, l6, l7] (.int x :: st) h K := w_any (i := 42) (pc := 32) dX6_garden_32 rfl rfl
theorem dX6_garden_33 : decode cX6_garden 33 = .ok (.invokevirtual 47, 3) := by decide +kernel
theorem w42_33 {d : Nat} {st : List Value} {h : xH} {K : Option Value → xH → Prop} {ls : xL} {a0 : Int32} {b : Nat} : wp (d + 1) 42 33 ls (.int a0 :: .ref b :: st) h K ↔ y_cls h b 5 ∧ xcs st ≤ 8 ∧ wp d 30 0 [some (.ref b), some (.int a0)] [] h (fun v h1 => wp (d + 1) 42 36 ls (v.toList ++ st) h1 K) := w_callW (i := 42) (pc := 33) (as := [.int a0]) (rest := st) dX6_garden_33 rfl (by decide) rfl rfl (by decide) rfl rfl rfl rfl
theorem dX6_garden_36 : decode cX6_garden 36 = .ok (.istore 6, 2) := by decide +kernel
theorem w42_36 {d : Nat} {st : List Value} {h : xH} {K : Option Value → xH → Prop} {l0 l1 l2 l3 l4 l5 l6 l7 : Option Value} {x : Int32} : wp d 42 36 [l0, l1, l2, l3, l4, l5, l6, l7] (.int x :: st) h K ↔ wp d 42 38 [l0, l1, l2, l3, l4, xk l5, some (.int x), l7] st h K := w_istore (i := 42) (pc := 36) dX6_garden_36 (Nat.le_of_ble_eq_true rfl) (show xst1 [l0, l1, l2, l3, l4, l5, l6, l7] 6 (.int x) = [l0, l1, l2, l3, l4, xk l5, some (.int x), l7] by simp only [xst1_0, xst1_1, xst1_s, Nat.reduceAdd])
theorem dX6_garden_38 : decode cX6_garden 38 = .ok (.iload 6, 2) := by decide +kernel
theorem w42_38 {d : Nat} {st : List Value} {h : xH} {K : Option Value → xH → Prop} {l0 l1 l2 l3 l4 l5 l7 : Option Value} {x : Int32} : wp d 42 38 [l0, l1, l2, l3, l4, l5, some (.int x), l7] st h K ↔ wp d 42 40 [l0, l1, l2, l3, l4, l5, some (.int x), l7] (.int x :: st) h K := w_any (i := 42) (pc := 38) dX6_garden_38 rfl rfl
theorem dX6_garden_40 : decode cX6_garden 40 = .ok (.ifCond .ne 11, 3) := by decide +kernel
theorem w42_40 {d : Nat} {st : List Value} {h : xH} {K : Option Value → xH → Prop} {ls : xL} {x : Int32} : wp d 42 40 ls (.int x :: st) h K ↔ ((¬ x = 0) → wp d 42 51 ls st h K) ∧ ((x = 0) → wp d 42 43 ls st h K) := (w_if1 (i := 42) (pc := 40) (cd := .ne) (off := 11) (tgt := 51) dX6_garden_40 (by decide) rfl).trans (and_congr Iff.rfl (imp_congr Classical.not_not Iff.rfl))
theorem dX6_garden_43 : decode cX6_garden 43 = .ok (.iload 4, 2) := by decide +kernel
theorem w42_43 {d : Nat} {st : List Value} {h : xH} {K : Option Value → xH → Prop} {l0 l1 l2 l3 l5 l6 l7 : Option Value} {x : Int32} : wp d 42 43 [l0, l1, l2, l3, some (.int x), l5, l6, l7] st h K ↔ wp d 42 45 [l0, l1, l2, l3, some (.int x), l5, l6, l7] (.int x :: st) h K := w_any (i := 42) (pc := 43) dX6_garden_43 rfl rfl
theorem dX6_garden_45 : decode cX6_garden 45 = .ok (.ifCond .ge 6, 3) := by decide +kernel
theorem w42_45 {d : Nat} {st : List Value} {h : xH} {K : Option Value → xH → Prop} {ls : xL} {x : Int32} : wp d 42 45 ls (.int x :: st) h K ↔ ((0 ≤ x) → wp d 42 51 ls st h K) ∧ ((¬ (0 ≤ x)) → wp d 42 48 ls st h K) := w_if1 (i := 42) (pc := 45) (cd := .ge) (off := 6) (tgt := 51) dX6_garden_45 (by decide) rfl
theorem dX6_garden_48 : decode cX6_garden 48 = .ok (.iconst 4, 1) := by decide +kernel
theorem w42_48 {d : Nat} {st : List Value} {h : xH} {K : Option Value → xH → Prop} {ls : xL} : wp d 42 48 ls st h K ↔ wp d 42 49 ls (.int 4 :: st) h K := w_iconst (i := 42) (pc := 48) dX6_garden_48 (by decide)
theorem dX6_garden_49 : decode cX6_garden 49 = .ok (.istore 6, 2) := by decide +kernel
theorem w42_49 {d : Nat} {st : List Value} {h : xH} {K : Option Value → xH → Prop} {l0 l1 l2 l3 l4 l5 l6 l7 : Option Value} {x : Int32} : wp d 42 49 [l0, l1, l2, l3, l4, l5, l6, l7] (.int x :: st) h K ↔ wp d 42 51 [l0, l1, l2, l3, l4, xk l5, some (.int x), l7] st h K := w_istore (i := 42) (pc := 49) dX6_garden_49 (Nat.le_of_ble_eq_true rfl) (show xst1 [l0, l1, l2, l3, l4, l5, l6, l7] 6 (.int x) = [l0, l1, l2, l3, l4, xk l5, some (.int x), l7] by simp only [xst1_0, xst1_1, xst1_s, Nat.reduceAdd])
theorem dX6_garden_51 : decode cX6_garden 51 = .ok (.iload 6, 2) := by decide +kernel
theorem w42_51 {d : Nat} {st : List Value} {h : xH} {K : Option Value → xH → Prop} {l0 l1 l2 l3 l4 l5 l7 : Option Value} {x : Int32} : wp d 42 51 [l0, l1, l2, l3, l4, l5, some (.int x), l7] st h K ↔ wp d 42 53 [l0, l1, l2, l3, l4, l5, some (.int x), l7] (.int x :: st) h K := w_any (i := 42) (pc := 51) dX6_garden_51 rfl rfl
theorem dX6_garden_53 : decode cX6_garden 53 = .ok (.ifCond .ne 17, 3) := by decide +kernel
theorem w42_53 {d : Nat} {st : List Value} {h : xH} {K : Option Value → xH → Prop} {ls : xL} {x : Int32} : wp d 42 53 ls (.int x :: st) h K ↔ ((¬ x = 0) → wp d 42 70 ls st h K) ∧ ((x = 0) → wp d 42 56 ls st h K) := (w_if1 (i := 42) (pc := 53) (cd := .ne) (off := 17) (tgt := 70) dX6_garden_53 (by decide) rfl).trans (and_congr Iff.rfl (imp_congr Classical.not_not Iff.rfl))
theorem dX6_garden_56 : decode cX6_garden 56 = .ok (.aload 5, 2) := by decide +kernel
theorem w42_56 {d : Nat} {st : List Value} {h : xH} {K : Option Value → xH → Prop} {l0 l1 l2 l3 l4 l6 l7 : Option Value} {x : Nat} : wp d 42 56 [l0, l1, l2, l3, l4, some (.ref x), l6, l7] st h K ↔ wp d 42 58 [l0, l1, l2, l3, l4, some (.ref x), l6, l7] (.ref x :: st) h K := w_any (i := 42) (pc := 56) dX6_garden_56 rfl rfl
theorem w42_56n {d : Nat} {st : List Value} {h : xH} {K : Option Value → xH → Prop} {l0 l1 l2 l3 l4 l6 l7 : Option Value} : wp d 42 56 [l0, l1, l2, l3, l4, some .null, l6, l7] st h K ↔ wp d 42 58 [l0, l1, l2, l3, l4, some .null, l6, l7] (.null :: st) h K := w_any (i := 42) (pc := 56) dX6_garden_56 rfl rfl
theorem dX6_garden_58 : decode cX6_garden 58 = .ok (.iload_n 3, 1) := by decide +kernel
theorem w42_58 {d : Nat} {st : List Value} {h : xH} {K : Option Value → xH → Prop} {l0 l1 l2 l4 l5 l6 l7 : Option Value} {x : Int32} : wp d 42 58 [l0, l1, l2, some (.int x), l4, l5, l6, l7] st h K ↔ wp d 42 59 [l0, l1, l2, some (.int x), l4, l5, l6, l7] (.int x :: st) h K := w_any (i := 42) (pc := 58) dX6_garden_58 rfl rfl
theorem dX6_garden_59 : decode cX6_garden 59 = .ok (.iload 4, 2) := by decide +kernel
theorem w42_59 {d : Nat} {st : List Value} {h : xH} {K : Option Value → xH → Prop} {l0 l1 l2 l3 l5 l6 l7 : Option Value} {x : Int32} : wp d 42 59 [l0, l1, l2, l3, some (.int x), l5, l6, l7] st h K ↔ wp d 42 61 [l0, l1, l2, l3, some (.int x), l5, l6, l7] (.int x :: st) h K := w_any (i := 42) (pc := 59) dX6_garden_59 rfl rfl
theorem dX6_garden_61 : decode cX6_garden 61 = .ok (.invokevirtual 51, 3) := by decide +kernel
theorem w42_61 {d : Nat} {st : List Value} {h : xH} {K : Option Value → xH → Prop} {ls : xL} {a0 : Int32} {a1 : Int32} {b : Nat} : wp (d + 1) 42 61 ls (.int a1 :: .int a0 :: .ref b :: st) h K ↔ y_cls h b 5 ∧ xcs st ≤ 8 ∧ wp d 32 0 [some (.ref b), some (.int a0), some (.int a1)] [] h (fun v h1 => wp (d + 1) 42 64 ls (v.toList ++ st) h1 K) := w_callW (i := 42) (pc := 61) (as := [.int a0, .int a1]) (rest := st) dX6_garden_61 rfl (by decide) rfl rfl (by decide) rfl rfl rfl rfl
theorem dX6_garden_64 : decode cX6_garden 64 = .ok (.ifCond .ne 6, 3) := by decide +kernel
theorem w42_64 {d : Nat} {st : List Value} {h : xH} {K : Option Value → xH → Prop} {ls : xL} {x : Int32} : wp d 42 64 ls (.int x :: st) h K ↔ ((¬ x = 0) → wp d 42 70 ls st h K) ∧ ((x = 0) → wp d 42 67 ls st h K) := (w_if1 (i := 42) (pc := 64) (cd := .ne) (off := 6) (tgt := 70) dX6_garden_64 (by decide) rfl).trans (and_congr Iff.rfl (imp_congr Classical.not_not Iff.rfl))
theorem dX6_garden_67 : decode cX6_garden 67 = .ok (.iconst 3, 1) := by decide +kernel
theorem w42_67 {d : Nat} {st : List Value} {h : xH} {K : Option Value → xH → Prop} {ls : xL} : wp d 42 67 ls st h K ↔ wp d 42 68 ls (.int 3 :: st) h K := w_iconst (i := 42) (pc := 67) dX6_garden_67 (by decide)
theorem dX6_garden_68 : decode cX6_garden 68 = .ok (.istore 6, 2) := by decide +kernel
theorem w42_68 {d : Nat} {st : List Value} {h : xH} {K : Option Value → xH → Prop} {l0 l1 l2 l3 l4 l5 l6 l7 : Option Value} {x : Int32} : wp d 42 68 [l0, l1, l2, l3, l4, l5, l6, l7] (.int x :: st) h K ↔ wp d 42 70 [l0, l1, l2, l3, l4, xk l5, some (.int x), l7] st h K := w_istore (i := 42) (pc := 68) dX6_garden_68 (Nat.le_of_ble_eq_true rfl) (show xst1 [l0, l1, l2, l3, l4, l5, l6, l7] 6 (.int x) = [l0, l1, l2, l3, l4, xk l5, some (.int x), l7] by simp only [xst1_0, xst1_1, xst1_s, Nat.reduceAdd])
theorem dX6_garden_70 : decode cX6_garden 70 = .ok (.iload 6, 2) := by decide +kernel
theorem w42_70 {d : Nat} {st : List Value} {h : xH} {K : Option Value → xH → Prop} {l0 l1 l2 l3 l4 l5 l7 : Option Value} {x : Int32} : wp d 42 70 [l0, l1, l2, l3, l4, l5, some (.int x), l7] st h K ↔ wp d 42 72 [l0, l1, l2, l3, l4, l5, some (.int x), l7] (.int x :: st) h K := w_any (i := 42) (pc := 70) dX6_garden_70 rfl rfl
theorem dX6_garden_72 : decode cX6_garden 72 = .ok (.ifCond .eq 10, 3) := by decide +kernel
theorem w42_72 {d : Nat} {st : List Value} {h : xH} {K : Option Value → xH → Prop} {ls : xL} {x : Int32} : wp d 42 72 ls (.int x :: st) h K ↔ ((x = 0) → wp d 42 82 ls st h K) ∧ ((¬ (x = 0)) → wp d 42 75 ls st h K) := w_if1 (i := 42) (pc := 72) (cd := .eq) (off := 10) (tgt := 82) dX6_garden_72 (by decide) rfl
theorem dX6_garden_75 : decode cX6_garden 75 = .ok (.aload_n 0, 1) := by decide +kernel
theorem w42_75 {d : Nat} {st : List Value} {h : xH} {K : Option Value → xH → Prop} {l1 l2 l3 l4 l5 l6 l7 : Option Value} {x : Nat} : wp d 42 75 [some (.ref x), l1, l2, l3, l4, l5, l6, l7] st h K ↔ wp d 42 76 [some (.ref x), l1, l2, l3, l4, l5, l6, l7] (.ref x :: st) h K := w_any (i := 42) (pc := 75) dX6_garden_75 rfl rfl
theorem w42_75n {d : Nat} {st : List Value} {h : xH} {K : Option Value → xH → Prop} {l1 l2 l3 l4 l5 l6 l7 : Option Value} : wp d 42 75 [some .null, l1, l2, l3, l4, l5, l6, l7] st h K ↔ wp d 42 76 [some .null, l1, l2, l3, l4, l5, l6, l7] (.null :: st) h K := w_any (i := 42) (pc := 75) dX6_garden_75 rfl rfl
theorem dX6_garden_76 : decode cX6_garden 76 = .ok (.iload 6, 2) := by decide +kernel
theorem w42_76 {d : Nat} {st : List Value} {h : xH} {K : Option Value → xH → Prop} {l0 l1 l2 l3 l4 l5 l7 : Option Value} {x : Int32} : wp d 42 76 [l0, l1, l2, l3, l4, l5, some (.int x), l7] st h K ↔ wp d 42 78 [l0, l1, l2, l3, l4, l5, some (.int x), l7] (.int x :: st) h K := w_any (i := 42) (pc := 76) dX6_garden_76 rfl rfl
theorem dX6_garden_78 : decode cX6_garden 78 = .ok (.invokevirtual 54, 3) := by decide +kernel
theorem w42_78 {d : Nat} {st : List Value} {h : xH} {K : Option Value → xH → Prop} {ls : xL} {a0 : Int32} {b : Nat} : wp (d + 1) 42 78 ls (.int a0 :: .ref b :: st) h K ↔ y_cls h b 7 ∧ xcs st ≤ 8 ∧ wp d 76 0 [some (.ref b), some (.int a0)] [] h (fun v h1 => wp (d + 1) 42 81 ls (v.toList ++ st) h1 K) := w_callW (i := 42) (pc := 78) (as := [.int a0]) (rest := st) dX6_garden_78 rfl (by decide) rfl rfl (by decide) rfl rfl rfl rfl
theorem dX6_garden_81 : decode cX6_garden 81 = .ok (.ireturn, 1) := by decide +kernel
theorem w42_81 {d : Nat} {h : xH} {K : Option Value → xH → Prop} {ls : xL} {x : Int32} : wp d 42 81 ls [.int x] h K ↔ K (some (.int x)) h := w_iret (i := 42) (pc := 81) dX6_garden_81 rfl
theorem dX6_garden_82 : decode cX6_garden 82 = .ok (.aload 5, 2) := by decide +kernel
theorem w42_82 {d : Nat} {st : List Value} {h : xH} {K : Option Value → xH → Prop} {l0 l1 l2 l3 l4 l6 l7 : Option Value} {x : Nat} : wp d 42 82 [l0, l1, l2, l3, l4, some (.ref x), l6, l7] st h K ↔ wp d 42 84 [l0, l1, l2, l3, l4, some (.ref x), l6, l7] (.ref x :: st) h K := w_any (i := 42) (pc := 82) dX6_garden_82 rfl rfl
theorem w42_82n {d : Nat} {st : List Value} {h : xH} {K : Option Value → xH → Prop} {l0 l1 l2 l3 l4 l6 l7 : Option Value} : wp d 42 82 [l0, l1, l2, l3, l4, some .null, l6, l7] st h K ↔ wp d 42 84 [l0, l1, l2, l3, l4, some .null, l6, l7] (.null :: st) h K := w_any (i := 42) (pc := 82) dX6_garden_82 rfl rfl
theorem dX6_garden_84 : decode cX6_garden 84 = .ok (.iload_n 3, 1) := by decide +kernel
theorem w42_84 {d : Nat} {st : List Value} {h : xH} {K : Option Value → xH → Prop} {l0 l1 l2 l4 l5 l6 l7 : Option Value} {x : Int32} : wp d 42 84 [l0, l1, l2, some (.int x), l4, l5, l6, l7] st h K ↔ wp d 42 85 [l0, l1, l2, some (.int x), l4, l5, l6, l7] (.int x :: st) h K := w_any (i := 42) (pc := 84) dX6_garden_84 rfl rfl
theorem dX6_garden_85 : decode cX6_garden 85 = .ok (.iload 4, 2) := by decide +kernel
theorem w42_85 {d : Nat} {st : List Value} {h : xH} {K : Option Value → xH → Prop} {l0 l1 l2 l3 l5 l6 l7 : Option Value} {x : Int32} : wp d 42 85 [l0, l1, l2, l3, some (.int x), l5, l6, l7] st h K ↔ wp d 42 87 [l0, l1, l2, l3, some (.int x), l5, l6, l7] (.int x :: st) h K := w_any (i := 42) (pc := 85) dX6_garden_85 rfl rfl
theorem dX6_garden_87 : decode cX6_garden 87 = .ok (.invokestatic 57, 3) := by decide +kernel
theorem w42_87 {d : Nat} {st : List Value} {h : xH} {K : Option Value → xH → Prop} {ls : xL} {a0 : Nat} {a1 : Int32} {a2 : Int32} : wp (d + 1) 42 87 ls (.int a2 :: .int a1 :: .ref a0 :: st) h K ↔ xcs st ≤ 8 ∧ wp d 80 0 [some (.ref a0), some (.int a1), some (.int a2), none, none, none, none, none] [] h (fun v h1 => wp (d + 1) 42 90 ls (v.toList ++ st) h1 K) := w_callS (i := 42) (pc := 87) (as := [.ref a0, .int a1, .int a2]) (rest := st) dX6_garden_87 rfl (by decide) rfl rfl rfl rfl rfl
theorem dX6_garden_90 : decode cX6_garden 90 = .ok (.istore 7, 2) := by decide +kernel
theorem w42_90 {d : Nat} {st : List Value} {h : xH} {K : Option Value → xH → Prop} {l0 l1 l2 l3 l4 l5 l6 l7 : Option Value} {x : Int32} : wp d 42 90 [l0, l1, l2, l3, l4, l5, l6, l7] (.int x :: st) h K ↔ wp d 42 92 [l0, l1, l2, l3, l4, l5, xk l6, some (.int x)] st h K := w_istore (i := 42) (pc := 90) dX6_garden_90 (Nat.le_of_ble_eq_true rfl) (show xst1 [l0, l1, l2, l3, l4, l5, l6, l7] 7 (.int x) = [l0, l1, l2, l3, l4, l5, xk l6, some (.int x)] by simp only [xst1_0, xst1_1, xst1_s, Nat.reduceAdd])
theorem dX6_garden_92 : decode cX6_garden 92 = .ok (.iload 7, 2) := by decide +kernel
theorem w42_92 {d : Nat} {st : List Value} {h : xH} {K : Option Value → xH → Prop} {l0 l1 l2 l3 l4 l5 l6 : Option Value} {x : Int32} : wp d 42 92 [l0, l1, l2, l3, l4, l5, l6, some (.int x)] st h K ↔ wp d 42 94 [l0, l1, l2, l3, l4, l5, l6, some (.int x)] (.int x :: st) h K := w_any (i := 42) (pc := 92) dX6_garden_92 rfl rfl
theorem dX6_garden_94 : decode cX6_garden 94 = .ok (.bipush (-9), 2) := by decide +kernel
theorem w42_94 {d : Nat} {st : List Value} {h : xH} {K : Option Value → xH → Prop} {ls : xL} : wp d 42 94 ls st h K ↔ wp d 42 96 ls (.int (-9) :: st) h K := w_bipush (i := 42) (pc := 94) dX6_garden_94 (by decide)
theorem dX6_garden_96 : decode cX6_garden 96 = .ok (.if_icmp .eq 9, 3) := by decide +kernel
theorem w42_96 {d : Nat} {st : List Value} {h : xH} {K : Option Value → xH → Prop} {ls : xL} {x y : Int32} : wp d 42 96 ls (.int y :: .int x :: st) h K ↔ ((x = y) → wp d 42 105 ls st h K) ∧ ((¬ (x = y)) → wp d 42 99 ls st h K) := w_if2 (i := 42) (pc := 96) (cd := .eq) (off := 9) (tgt := 105) dX6_garden_96 (by decide) rfl
theorem dX6_garden_99 : decode cX6_garden 99 = .ok (.bipush (-100), 2) := by decide +kernel
theorem w42_99 {d : Nat} {st : List Value} {h : xH} {K : Option Value → xH → Prop} {ls : xL} : wp d 42 99 ls st h K ↔ wp d 42 101 ls (.int (-100) :: st) h K := w_bipush (i := 42) (pc := 99) dX6_garden_99 (by decide)
theorem dX6_garden_101 : decode cX6_garden 101 = .ok (.iload 7, 2) := by decide +kernel
theorem w42_101 {d : Nat} {st : List Value} {h : xH} {K : Option Value → xH → Prop} {l0 l1 l2 l3 l4 l5 l6 : Option Value} {x : Int32} : wp d 42 101 [l0, l1, l2, l3, l4, l5, l6, some (.int x)] st h K ↔ wp d 42 103 [l0, l1, l2, l3, l4, l5, l6, some (.int x)] (.int x :: st) h K := w_any (i := 42) (pc := 101) dX6_garden_101 rfl rfl
theorem dX6_garden_103 : decode cX6_garden 103 = .ok (.isub, 1) := by decide +kernel
theorem w42_103 {d : Nat} {st : List Value} {h : xH} {K : Option Value → xH → Prop} {ls : xL} {x y : Int32} : wp d 42 103 ls (.int y :: .int x :: st) h K ↔ wp d 42 104 ls (.int (x - y) :: st) h K := w_any (i := 42) (pc := 103) dX6_garden_103 rfl rfl
theorem dX6_garden_104 : decode cX6_garden 104 = .ok (.ireturn, 1) := by decide +kernel
theorem w42_104 {d : Nat} {h : xH} {K : Option Value → xH → Prop} {ls : xL} {x : Int32} : wp d 42 104 ls [.int x] h K ↔ K (some (.int x)) h := w_iret (i := 42) (pc := 104) dX6_garden_104 rfl
theorem dX6_garden_105 : decode cX6_garden 105 = .ok (.aload_n 0, 1) := by decide +kernel
theorem w42_105 {d : Nat} {st : List Value} {h : xH} {K : Option Value → xH → Prop} {l1 l2 l3 l4 l5 l6 l7 : Option Value} {x : Nat} : wp d 42 105 [some (.ref x), l1, l2, l3, l4, l5, l6, l7] st h K ↔ wp d 42 106 [some (.ref x), l1, l2, l3, l4, l5, l6, l7] (.ref x :: st) h K := w_any (i := 42) (pc := 105) dX6_garden_105 rfl rfl
theorem w42_105n {d : Nat} {st : List Value} {h : xH} {K : Option Value → xH → Prop} {l1 l2 l3 l4 l5 l6 l7 : Option Value} : wp d 42 105 [some .null, l1, l2, l3, l4, l5, l6, l7] st h K ↔ wp d 42 106 [some .null, l1, l2, l3, l4, l5, l6, l7] (.null :: st) h K := w_any (i := 42) (pc := 105) dX6_garden_105 rfl rfl
theorem dX6_garden_106 : decode cX6_garden 106 = .ok (.aload 5, 2) := by decide +kernel
theorem w42_106 {d : Nat} {st : List Value} {h : xH} {K : Option Value → xH → Prop} {l0 l1 l2 l3 l4 l6 l7 : Option Value} {x : Nat} : wp d 42 106 [l0, l1, l2, l3, l4, some (.ref x), l6, l7] st h K ↔ wp d 42 108 [l0, l1, l2, l3, l4, some (.ref x), l6, l7] (.ref x :: st) h K := w_any (i := 42) (pc := 106) dX6_garden_106 rfl rfl
theorem w42_106n {d : Nat} {st : List Value} {h : xH} {K : Option Value → xH → Prop} {l0 l1 l2 l3 l4 l6 l7 : Option Value} : wp d 42 106 [l0, l1, l2, l3, l4, some .null, l6, l7] st h K ↔ wp d 42 108 [l0, l1, l2, l3, l4, some .null, l6, l7] (.null :: st) h K := w_any (i := 42) (pc := 106) dX6_garden_106 rfl rfl
theorem dX6_garden_108 : decode cX6_garden 108 = .ok (.iload_n 3, 1) := by decide +kernel
theorem w42_108 {d : Nat} {st : List Value} {h : xH} {K : Option Value → xH → Prop} {l0 l1 l2 l4 l5 l6 l7 : Option Value} {x : Int32} : wp d 42 108 [l0, l1, l2, some (.int x), l4, l5, l6, l7] st h K ↔ wp d 42 109 [l0, l1, l2, some (.int x), l4, l5, l6, l7] (.int x :: st) h K := w_any (i := 42) (pc := 108) dX6_garden_108 rfl rfl
theorem dX6_garden_109 : decode cX6_garden 109 = .ok (.invokevirtual 61, 3) := by decide +kernel
theorem w42_109 {d : Nat} {st : List Value} {h : xH} {K : Option Value → xH → Prop} {ls : xL} {a0 : Nat} {a1 : Int32} {b : Nat} : wp (d + 1) 42 109 ls (.int a1 :: .ref a0 :: .ref b :: st) h K ↔ y_cls h b 7 ∧ xcs st ≤ 8 ∧ wp d 81 0 [some (.ref b), some (.ref a0), some (.int a1), none, none, none, none, none, none] [] h (fun v h1 => wp (d + 1) 42 112 ls (v.toList ++ st) h1 K) := w_callW (i := 42) (pc := 109) (as := [.ref a0, .int a1]) (rest := st) dX6_garden_109 rfl (by decide) rfl rfl (by decide) rfl rfl rfl rfl
theorem dX6_garden_112 : decode cX6_garden 112 = .ok (.aload_n 0, 1) := by decide +kernel
theorem w42_112 {d : Nat} {st : List Value} {h : xH} {K : Option Value → xH → Prop} {l1 l2 l3 l4 l5 l6 l7 : Option Value} {x : Nat} : wp d 42 112 [some (.ref x), l1, l2, l3, l4, l5, l6, l7] st h K ↔ wp d 42 113 [some (.ref x), l1, l2, l3, l4, l5, l6, l7] (.ref x :: st) h K := w_any (i := 42) (pc := 112) dX6_garden_112 rfl rfl
theorem w42_112n {d : Nat} {st : List Value} {h : xH} {K : Option Value → xH → Prop} {l1 l2 l3 l4 l5 l6 l7 : Option Value} : wp d 42 112 [some .null, l1, l2, l3, l4, l5, l6, l7] st h K ↔ wp d 42 113 [some .null, l1, l2, l3, l4, l5, l6, l7] (.null :: st) h K := w_any (i := 42) (pc := 112) dX6_garden_112 rfl rfl
theorem dX6_garden_113 : decode cX6_garden 113 = .ok (.getfield 14, 3) := by decide +kernel
theorem w42_113 {d : Nat} {st : List Value} {h : xH} {K : Option Value → xH → Prop} {ls : xL} {a : Nat} : wp d 42 113 ls (.ref a :: st) h K ↔ y_get h a 7 0 (fun v => wp d 42 116 ls (v :: st) h K) := w_get (i := 42) (pc := 113) dX6_garden_113 rfl
theorem dX6_garden_116 : decode cX6_garden 116 = .ok (.getfield 65, 3) := by decide +kernel
theorem w42_116 {d : Nat} {st : List Value} {h : xH} {K : Option Value → xH → Prop} {ls : xL} {a : Nat} : wp d 42 116 ls (.ref a :: st) h K ↔ y_get h a 1 0 (fun v => wp d 42 119 ls (v :: st) h K) := w_get (i := 42) (pc := 116) dX6_garden_116 rfl
theorem dX6_garden_119 : decode cX6_garden 119 = .ok (.getfield 69, 3) := by decide +kernel
theorem w42_119 {d : Nat} {st : List Value} {h : xH} {K : Option Value → xH → Prop} {ls : xL} {a : Nat} : wp d 42 119 ls (.ref a :: st) h K ↔ y_get h a 3 2 (fun v => wp d 42 122 ls (v :: st) h K) := w_get (i := 42) (pc := 119) dX6_garden_119 rfl
theorem dX6_garden_122 : decode cX6_garden 122 = .ok (.ireturn, 1) := by decide +kernel
theorem w42_122 {d : Nat} {h : xH} {K : Option Value → xH → Prop} {ls : xL} {x : Int32} : wp d 42 122 ls [.int x] h K ↔ K (some (.int x)) h := w_iret (i := 42) (pc := 122) dX6_garden_122 rfl
theorem dX6_sign_0 : decode cX6_sign 0 = .ok (.aload_n 0, 1) := by decide +kernel
theorem w43_0 {d : Nat} {st : List Value} {h : xH} {K : Option Value → xH → Prop} {l1 : Option Value} {x : Nat} : wp d 43 0 [some (.ref x), l1] st h K ↔ wp d 43 1 [some (.ref x), l1] (.ref x :: st) h K := w_any (i := 43) (pc := 0) dX6_sign_0 rfl rfl
theorem w43_0n {d : Nat} {st : List Value} {h : xH} {K : Option Value → xH → Prop} {l1 : Option Value} : wp d 43 0 [some .null, l1] st h K ↔ wp d 43 1 [some .null, l1] (.null :: st) h K := w_any (i := 43) (pc := 0) dX6_sign_0 rfl rfl
theorem dX6_sign_1 : decode cX6_sign 1 = .ok (.getfield 14, 3) := by decide +kernel
theorem w43_1 {d : Nat} {st : List Value} {h : xH} {K : Option Value → xH → Prop} {ls : xL} {a : Nat} : wp d 43 1 ls (.ref a :: st) h K ↔ y_get h a 7 0 (fun v => wp d 43 4 ls (v :: st) h K) := w_get (i := 43) (pc := 1) dX6_sign_1 rfl
theorem dX6_sign_4 : decode cX6_sign 4 = .ok (.getfield 65, 3) := by decide +kernel
theorem w43_4 {d : Nat} {st : List Value} {h : xH} {K : Option Value → xH → Prop} {ls : xL} {a : Nat} : wp d 43 4 ls (.ref a :: st) h K ↔ y_get h a 1 0 (fun v => wp d 43 7 ls (v :: st) h K) := w_get (i := 43) (pc := 4) dX6_sign_4 rfl
theorem dX6_sign_7 : decode cX6_sign 7 = .ok (.iload_n 1, 1) := by decide +kernel
theorem w43_7 {d : Nat} {st : List Value} {h : xH} {K : Option Value → xH → Prop} {l0 : Option Value} {x : Int32} : wp d 43 7 [l0, some (.int x)] st h K ↔ wp d 43 8 [l0, some (.int x)] (.int x :: st) h K := w_any (i := 43) (pc := 7) dX6_sign_7 rfl rfl
theorem dX6_sign_8 : decode cX6_sign 8 = .ok (.invokevirtual 74, 3) := by decide +kernel
theorem w43_8 {d : Nat} {st : List Value} {h : xH} {K : Option Value → xH → Prop} {ls : xL} {a0 : Int32} {b : Nat} : wp (d + 1) 43 8 ls (.int a0 :: .ref b :: st) h K ↔ y_cls h b 3 ∧ xcs st ≤ 8 ∧ wp d 18 0 [some (.ref b), some (.int a0)] [] h (fun v h1 => wp (d + 1) 43 11 ls (v.toList ++ st) h1 K) := w_callW (i := 43) (pc := 8) (as := [.int a0]) (rest := st) dX6_sign_8 rfl (by decide) rfl rfl (by decide) rfl rfl rfl rfl
theorem dX6_sign_11 : decode cX6_sign 11 = .ok (.ifCond .eq 17, 3) := by decide +kernel
theorem w43_11 {d : Nat} {st : List Value} {h : xH} {K : Option Value → xH → Prop} {ls : xL} {x : Int32} : wp d 43 11 ls (.int x :: st) h K ↔ ((x = 0) → wp d 43 28 ls st h K) ∧ ((¬ (x = 0)) → wp d 43 14 ls st h K) := w_if1 (i := 43) (pc := 11) (cd := .eq) (off := 17) (tgt := 28) dX6_sign_11 (by decide) rfl
theorem dX6_sign_14 : decode cX6_sign 14 = .ok (.aload_n 0, 1) := by decide +kernel
theorem w43_14 {d : Nat} {st : List Value} {h : xH} {K : Option Value → xH → Prop} {l1 : Option Value} {x : Nat} : wp d 43 14 [some (.ref x), l1] st h K ↔ wp d 43 15 [some (.ref x), l1] (.ref x :: st) h K := w_any (i := 43) (pc := 14) dX6_sign_14 rfl rfl
theorem w43_14n {d : Nat} {st : List Value} {h : xH} {K : Option Value → xH → Prop} {l1 : Option Value} : wp d 43 14 [some .null, l1] st h K ↔ wp d 43 15 [some .null, l1] (.null :: st) h K := w_any (i := 43) (pc := 14) dX6_sign_14 rfl rfl
theorem dX6_sign_15 : decode cX6_sign 15 = .ok (.getfield 14, 3) := by decide +kernel
theorem w43_15 {d : Nat} {st : List Value} {h : xH} {K : Option Value → xH → Prop} {ls : xL} {a : Nat} : wp d 43 15 ls (.ref a :: st) h K ↔ y_get h a 7 0 (fun v => wp d 43 18 ls (v :: st) h K) := w_get (i := 43) (pc := 15) dX6_sign_15 rfl
theorem dX6_sign_18 : decode cX6_sign 18 = .ok (.getfield 65, 3) := by decide +kernel
theorem w43_18 {d : Nat} {st : List Value} {h : xH} {K : Option Value → xH → Prop} {ls : xL} {a : Nat} : wp d 43 18 ls (.ref a :: st) h K ↔ y_get h a 1 0 (fun v => wp d 43 21 ls (v :: st) h K) := w_get (i := 43) (pc := 18) dX6_sign_18 rfl
theorem dX6_sign_21 : decode cX6_sign 21 = .ok (.iload_n 1, 1) := by decide +kernel
theorem w43_21 {d : Nat} {st : List Value} {h : xH} {K : Option Value → xH → Prop} {l0 : Option Value} {x : Int32} : wp d 43 21 [l0, some (.int x)] st h K ↔ wp d 43 22 [l0, some (.int x)] (.int x :: st) h K := w_any (i := 43) (pc := 21) dX6_sign_21 rfl rfl
theorem dX6_sign_22 : decode cX6_sign 22 = .ok (.invokevirtual 78, 3) := by decide +kernel
theorem w43_22 {d : Nat} {st : List Value} {h : xH} {K : Option Value → xH → Prop} {ls : xL} {a0 : Int32} {b : Nat} : wp (d + 1) 43 22 ls (.int a0 :: .ref b :: st) h K ↔ y_cls h b 3 ∧ xcs st ≤ 8 ∧ wp d 19 0 [some (.ref b), some (.int a0)] [] h (fun v h1 => wp (d + 1) 43 25 ls (v.toList ++ st) h1 K) := w_callW (i := 43) (pc := 22) (as := [.int a0]) (rest := st) dX6_sign_22 rfl (by decide) rfl rfl (by decide) rfl rfl rfl rfl
theorem dX6_sign_25 : decode cX6_sign 25 = .ok (.goto 4, 3) := by decide +kernel
theorem w43_25 {d : Nat} {st : List Value} {h : xH} {K : Option Value → xH → Prop} {ls : xL} : wp d 43 25 ls st h K ↔ wp d 43 29 ls st h K := w_goto (i := 43) (pc := 25) dX6_sign_25 (by decide) rfl
theorem dX6_sign_28 : decode cX6_sign 28 = .ok (.iconst (-1), 1) := by decide +kernel
theorem w43_28 {d : Nat} {st : List Value} {h : xH} {K : Option Value → xH → Prop} {ls : xL} : wp d 43 28 ls st h K ↔ wp d 43 29 ls (.int (-1) :: st) h K := w_iconst (i := 43) (pc := 28) dX6_sign_28 (by decide)
theorem dX6_sign_29 : decode cX6_sign 29 = .ok (.ireturn, 1) := by decide +kernel
theorem w43_29 {d : Nat} {h : xH} {K : Option Value → xH → Prop} {ls : xL} {x : Int32} : wp d 43 29 ls [.int x] h K ↔ K (some (.int x)) h := w_iret (i := 43) (pc := 29) dX6_sign_29 rfl
theorem dX6_set_0 : decode cX6_set 0 = .ok (.aload_n 0, 1) := by decide +kernel
theorem w44_0 {d : Nat} {st : List Value} {h : xH} {K : Option Value → xH → Prop} {l1 l2 l3 : Option Value} {x : Nat} : wp d 44 0 [some (.ref x), l1, l2, l3] st h K ↔ wp d 44 1 [some (.ref x), l1, l2, l3] (.ref x :: st) h K := w_any (i := 44) (pc := 0) dX6_set_0 rfl rfl
theorem w44_0n {d : Nat} {st : List Value} {h : xH} {K : Option Value → xH → Prop} {l1 l2 l3 : Option Value} : wp d 44 0 [some .null, l1, l2, l3] st h K ↔ wp d 44 1 [some .null, l1, l2, l3] (.null :: st) h K := w_any (i := 44) (pc := 0) dX6_set_0 rfl rfl
theorem dX6_set_1 : decode cX6_set 1 = .ok (.getfield 14, 3) := by decide +kernel
theorem w44_1 {d : Nat} {st : List Value} {h : xH} {K : Option Value → xH → Prop} {ls : xL} {a : Nat} : wp d 44 1 ls (.ref a :: st) h K ↔ y_get h a 7 0 (fun v => wp d 44 4 ls (v :: st) h K) := w_get (i := 44) (pc := 1) dX6_set_1 rfl
theorem dX6_set_4 : decode cX6_set 4 = .ok (.getfield 65, 3) := by decide +kernel
theorem w44_4 {d : Nat} {st : List Value} {h : xH} {K : Option Value → xH → Prop} {ls : xL} {a : Nat} : wp d 44 4 ls (.ref a :: st) h K ↔ y_get h a 1 0 (fun v => wp d 44 7 ls (v :: st) h K) := w_get (i := 44) (pc := 4) dX6_set_4 rfl
theorem dX6_set_7 : decode cX6_set 7 = .ok (.iload_n 1, 1) := by decide +kernel
theorem w44_7 {d : Nat} {st : List Value} {h : xH} {K : Option Value → xH → Prop} {l0 l2 l3 : Option Value} {x : Int32} : wp d 44 7 [l0, some (.int x), l2, l3] st h K ↔ wp d 44 8 [l0, some (.int x), l2, l3] (.int x :: st) h K := w_any (i := 44) (pc := 7) dX6_set_7 rfl rfl
theorem dX6_set_8 : decode cX6_set 8 = .ok (.invokevirtual 74, 3) := by decide +kernel
theorem w44_8 {d : Nat} {st : List Value} {h : xH} {K : Option Value → xH → Prop} {ls : xL} {a0 : Int32} {b : Nat} : wp (d + 1) 44 8 ls (.int a0 :: .ref b :: st) h K ↔ y_cls h b 3 ∧ xcs st ≤ 8 ∧ wp d 18 0 [some (.ref b), some (.int a0)] [] h (fun v h1 => wp (d + 1) 44 11 ls (v.toList ++ st) h1 K) := w_callW (i := 44) (pc := 8) (as := [.int a0]) (rest := st) dX6_set_8 rfl (by decide) rfl rfl (by decide) rfl rfl rfl rfl
theorem dX6_set_11 : decode cX6_set 11 = .ok (.ifCond .ne 5, 3) := by decide +kernel
theorem w44_11 {d : Nat} {st : List Value} {h : xH} {K : Option Value → xH → Prop} {ls : xL} {x : Int32} : wp d 44 11 ls (.int x :: st) h K ↔ ((¬ x = 0) → wp d 44 16 ls st h K) ∧ ((x = 0) → wp d 44 14 ls st h K) := (w_if1 (i := 44) (pc := 11) (cd := .ne) (off := 5) (tgt := 16) dX6_set_11 (by decide) rfl).trans (and_congr Iff.rfl (imp_congr Classical.not_not Iff.rfl))
theorem dX6_set_14 : decode cX6_set 14 = .ok (.iconst (-1), 1) := by decide +kernel
theorem w44_14 {d : Nat} {st : List Value} {h : xH} {K : Option Value → xH → Prop} {ls : xL} : wp d 44 14 ls st h K ↔ wp d 44 15 ls (.int (-1) :: st) h K := w_iconst (i := 44) (pc := 14) dX6_set_14 (by decide)
theorem dX6_set_15 : decode cX6_set 15 = .ok (.ireturn, 1) := by decide +kernel
theorem w44_15 {d : Nat} {h : xH} {K : Option Value → xH → Prop} {ls : xL} {x : Int32} : wp d 44 15 ls [.int x] h K ↔ K (some (.int x)) h := w_iret (i := 44) (pc := 15) dX6_set_15 rfl
theorem dX6_set_16 : decode cX6_set 16 = .ok (.iload_n 2, 1) := by decide +kernel
theorem w44_16 {d : Nat} {st : List Value} {h : xH} {K : Option Value → xH → Prop} {l0 l1 l3 : Option Value} {x : Int32} : wp d 44 16 [l0, l1, some (.int x), l3] st h K ↔ wp d 44 17 [l0, l1, some (.int x), l3] (.int x :: st) h K := w_any (i := 44) (pc := 16) dX6_set_16 rfl rfl
theorem dX6_set_17 : decode cX6_set 17 = .ok (.iconst 4, 1) := by decide +kernel
theorem w44_17 {d : Nat} {st : List Value} {h : xH} {K : Option Value → xH → Prop} {ls : xL} : wp d 44 17 ls st h K ↔ wp d 44 18 ls (.int 4 :: st) h K := w_iconst (i := 44) (pc := 17) dX6_set_17 (by decide)
theorem dX6_set_18 : decode cX6_set 18 = .ok (.invokestatic 43, 3) := by decide +kernel
theorem w44_18 {d : Nat} {st : List Value} {h : xH} {K : Option Value → xH → Prop} {ls : xL} {a0 : Int32} {a1 : Int32} : wp (d + 1) 44 18 ls (.int a1 :: .int a0 :: st) h K ↔ xcs st ≤ 8 ∧ wp d 74 0 [some (.int a0), some (.int a1)] [] h (fun v h1 => wp (d + 1) 44 21 ls (v.toList ++ st) h1 K) := w_callS (i := 44) (pc := 18) (as := [.int a0, .int a1]) (rest := st) dX6_set_18 rfl (by decide) rfl rfl rfl rfl rfl
theorem dX6_set_21 : decode cX6_set 21 = .ok (.ifCond .ne 6, 3) := by decide +kernel
theorem w44_21 {d : Nat} {st : List Value} {h : xH} {K : Option Value → xH → Prop} {ls : xL} {x : Int32} : wp d 44 21 ls (.int x :: st) h K ↔ ((¬ x = 0) → wp d 44 27 ls st h K) ∧ ((x = 0) → wp d 44 24 ls st h K) := (w_if1 (i := 44) (pc := 21) (cd := .ne) (off := 6) (tgt := 27) dX6_set_21 (by decide) rfl).trans (and_congr Iff.rfl (imp_congr Classical.not_not Iff.rfl))
theorem dX6_set_24 : decode cX6_set 24 = .ok (.bipush (-2), 2) := by decide +kernel
theorem w44_24 {d : Nat} {st : List Value} {h : xH} {K : Option Value → xH → Prop} {ls : xL} : wp d 44 24 ls st h K ↔ wp d 44 26 ls (.int (-2) :: st) h K := w_bipush (i := 44) (pc := 24) dX6_set_24 (by decide)
theorem dX6_set_26 : decode cX6_set 26 = .ok (.ireturn, 1) := by decide +kernel
theorem w44_26 {d : Nat} {h : xH} {K : Option Value → xH → Prop} {ls : xL} {x : Int32} : wp d 44 26 ls [.int x] h K ↔ K (some (.int x)) h := w_iret (i := 44) (pc := 26) dX6_set_26 rfl
theorem dX6_set_27 : decode cX6_set 27 = .ok (.iload_n 2, 1) := by decide +kernel
theorem w44_27 {d : Nat} {st : List Value} {h : xH} {K : Option Value → xH → Prop} {l0 l1 l3 : Option Value} {x : Int32} : wp d 44 27 [l0, l1, some (.int x), l3] st h K ↔ wp d 44 28 [l0, l1, some (.int x), l3] (.int x :: st) h K := w_any (i := 44) (pc := 27) dX6_set_27 rfl rfl
theorem dX6_set_28 : decode cX6_set 28 = .ok (.iconst 1, 1) := by decide +kernel
theorem w44_28 {d : Nat} {st : List Value} {h : xH} {K : Option Value → xH → Prop} {ls : xL} : wp d 44 28 ls st h K ↔ wp d 44 29 ls (.int 1 :: st) h K := w_iconst (i := 44) (pc := 28) dX6_set_28 (by decide)
theorem dX6_set_29 : decode cX6_set 29 = .ok (.if_icmp .ne 17, 3) := by decide +kernel
theorem w44_29 {d : Nat} {st : List Value} {h : xH} {K : Option Value → xH → Prop} {ls : xL} {x y : Int32} : wp d 44 29 ls (.int y :: .int x :: st) h K ↔ ((¬ x = y) → wp d 44 46 ls st h K) ∧ ((x = y) → wp d 44 32 ls st h K) := (w_if2 (i := 44) (pc := 29) (cd := .ne) (off := 17) (tgt := 46) dX6_set_29 (by decide) rfl).trans (and_congr Iff.rfl (imp_congr Classical.not_not Iff.rfl))
theorem dX6_set_32 : decode cX6_set 32 = .ok (.aload_n 0, 1) := by decide +kernel
theorem w44_32 {d : Nat} {st : List Value} {h : xH} {K : Option Value → xH → Prop} {l1 l2 l3 : Option Value} {x : Nat} : wp d 44 32 [some (.ref x), l1, l2, l3] st h K ↔ wp d 44 33 [some (.ref x), l1, l2, l3] (.ref x :: st) h K := w_any (i := 44) (pc := 32) dX6_set_32 rfl rfl
theorem w44_32n {d : Nat} {st : List Value} {h : xH} {K : Option Value → xH → Prop} {l1 l2 l3 : Option Value} : wp d 44 32 [some .null, l1, l2, l3] st h K ↔ wp d 44 33 [some .null, l1, l2, l3] (.null :: st) h K := w_any (i := 44) (pc := 32) dX6_set_32 rfl rfl
theorem dX6_set_33 : decode cX6_set 33 = .ok (.getfield 14, 3) := by decide +kernel
theorem w44_33 {d : Nat} {st : List Value} {h : xH} {K : Option Value → xH → Prop} {ls : xL} {a : Nat} : wp d 44 33 ls (.ref a :: st) h K ↔ y_get h a 7 0 (fun v => wp d 44 36 ls (v :: st) h K) := w_get (i := 44) (pc := 33) dX6_set_33 rfl
theorem dX6_set_36 : decode cX6_set 36 = .ok (.iload_n 1, 1) := by decide +kernel
theorem w44_36 {d : Nat} {st : List Value} {h : xH} {K : Option Value → xH → Prop} {l0 l2 l3 : Option Value} {x : Int32} : wp d 44 36 [l0, some (.int x), l2, l3] st h K ↔ wp d 44 37 [l0, some (.int x), l2, l3] (.int x :: st) h K := w_any (i := 44) (pc := 36) dX6_set_36 rfl rfl
theorem dX6_set_37 : decode cX6_set 37 = .ok (.invokevirtual 81, 3) := by decide +kernel
theorem w44_37 {d : Nat} {st : List Value} {h : xH} {K : Option Value → xH → Prop} {ls : xL} {a0 : Int32} {b : Nat} : wp (d + 1) 44 37 ls (.int a0 :: .ref b :: st) h K ↔ y_cls h b 1 ∧ xcs st ≤ 8 ∧ wp d 2 0 [some (.ref b), some (.int a0), none] [] h (fun v h1 => wp (d + 1) 44 40 ls (v.toList ++ st) h1 K) := w_callW (i := 44) (pc := 37) (as := [.int a0]) (rest := st) dX6_set_37 rfl (by decide) rfl rfl (by decide) rfl rfl rfl rfl
theorem dX6_set_40 : decode cX6_set 40 = .ok (.ifCond .eq 6, 3) := by decide +kernel
theorem w44_40 {d : Nat} {st : List Value} {h : xH} {K : Option Value → xH → Prop} {ls : xL} {x : Int32} : wp d 44 40 ls (.int x :: st) h K ↔ ((x = 0) → wp d 44 46 ls st h K) ∧ ((¬ (x = 0)) → wp d 44 43 ls st h K) := w_if1 (i := 44) (pc := 40) (cd := .eq) (off := 6) (tgt := 46) dX6_set_40 (by decide) rfl
theorem dX6_set_43 : decode cX6_set 43 = .ok (.bipush (-3), 2) := by decide +kernel
theorem w44_43 {d : Nat} {st : List Value} {h : xH} {K : Option Value → xH → Prop} {ls : xL} : wp d 44 43 ls st h K ↔ wp d 44 45 ls (.int (-3) :: st) h K := w_bipush (i := 44) (pc := 43) dX6_set_43 (by decide)
theorem dX6_set_45 : decode cX6_set 45 = .ok (.ireturn, 1) := by decide +kernel
theorem w44_45 {d : Nat} {h : xH} {K : Option Value → xH → Prop} {ls : xL} {x : Int32} : wp d 44 45 ls [.int x] h K ↔ K (some (.int x)) h := w_iret (i := 44) (pc := 45) dX6_set_45 rfl
theorem dX6_set_46 : decode cX6_set 46 = .ok (.aload_n 0, 1) := by decide +kernel
theorem w44_46 {d : Nat} {st : List Value} {h : xH} {K : Option Value → xH → Prop} {l1 l2 l3 : Option Value} {x : Nat} : wp d 44 46 [some (.ref x), l1, l2, l3] st h K ↔ wp d 44 47 [some (.ref x), l1, l2, l3] (.ref x :: st) h K := w_any (i := 44) (pc := 46) dX6_set_46 rfl rfl
theorem w44_46n {d : Nat} {st : List Value} {h : xH} {K : Option Value → xH → Prop} {l1 l2 l3 : Option Value} : wp d 44 46 [some .null, l1, l2, l3] st h K ↔ wp d 44 47 [some .null, l1, l2, l3] (.null :: st) h K := w_any (i := 44) (pc := 46) dX6_set_46 rfl rfl
theorem dX6_set_47 : decode cX6_set 47 = .ok (.getfield 14, 3) := by decide +kernel
theorem w44_47 {d : Nat} {st : List Value} {h : xH} {K : Option Value → xH → Prop} {ls : xL} {a : Nat} : wp d 44 47 ls (.ref a :: st) h K ↔ y_get h a 7 0 (fun v => wp d 44 50 ls (v :: st) h K) := w_get (i := 44) (pc := 47) dX6_set_47 rfl
theorem dX6_set_50 : decode cX6_set 50 = .ok (.getfield 65, 3) := by decide +kernel
theorem w44_50 {d : Nat} {st : List Value} {h : xH} {K : Option Value → xH → Prop} {ls : xL} {a : Nat} : wp d 44 50 ls (.ref a :: st) h K ↔ y_get h a 1 0 (fun v => wp d 44 53 ls (v :: st) h K) := w_get (i := 44) (pc := 50) dX6_set_50 rfl
theorem dX6_set_53 : decode cX6_set 53 = .ok (.iload_n 1, 1) := by decide +kernel
theorem w44_53 {d : Nat} {st : List Value} {h : xH} {K : Option Value → xH → Prop} {l0 l2 l3 : Option Value} {x : Int32} : wp d 44 53 [l0, some (.int x), l2, l3] st h K ↔ wp d 44 54 [l0, some (.int x), l2, l3] (.int x :: st) h K := w_any (i := 44) (pc := 53) dX6_set_53 rfl rfl
theorem dX6_set_54 : decode cX6_set 54 = .ok (.invokevirtual 78, 3) := by decide +kernel
theorem w44_54 {d : Nat} {st : List Value} {h : xH} {K : Option Value → xH → Prop} {ls : xL} {a0 : Int32} {b : Nat} : wp (d + 1) 44 54 ls (.int a0 :: .ref b :: st) h K ↔ y_cls h b 3 ∧ xcs st ≤ 8 ∧ wp d 19 0 [some (.ref b), some (.int a0)] [] h (fun v h1 => wp (d + 1) 44 57 ls (v.toList ++ st) h1 K) := w_callW (i := 44) (pc := 54) (as := [.int a0]) (rest := st) dX6_set_54 rfl (by decide) rfl rfl (by decide) rfl rfl rfl rfl
theorem dX6_set_57 : decode cX6_set 57 = .ok (.istore_n 3, 1) := by decide +kernel
theorem w44_57 {d : Nat} {st : List Value} {h : xH} {K : Option Value → xH → Prop} {l0 l1 l2 l3 : Option Value} {x : Int32} : wp d 44 57 [l0, l1, l2, l3] (.int x :: st) h K ↔ wp d 44 58 [l0, l1, xk l2, some (.int x)] st h K := w_istore_n (i := 44) (pc := 57) dX6_set_57 (Nat.le_of_ble_eq_true rfl) (show xst1 [l0, l1, l2, l3] 3 (.int x) = [l0, l1, xk l2, some (.int x)] by simp only [xst1_0, xst1_1, xst1_s, Nat.reduceAdd])
theorem dX6_set_58 : decode cX6_set 58 = .ok (.aload_n 0, 1) := by decide +kernel
theorem w44_58 {d : Nat} {st : List Value} {h : xH} {K : Option Value → xH → Prop} {l1 l2 l3 : Option Value} {x : Nat} : wp d 44 58 [some (.ref x), l1, l2, l3] st h K ↔ wp d 44 59 [some (.ref x), l1, l2, l3] (.ref x :: st) h K := w_any (i := 44) (pc := 58) dX6_set_58 rfl rfl
theorem w44_58n {d : Nat} {st : List Value} {h : xH} {K : Option Value → xH → Prop} {l1 l2 l3 : Option Value} : wp d 44 58 [some .null, l1, l2, l3] st h K ↔ wp d 44 59 [some .null, l1, l2, l3] (.null :: st) h K := w_any (i := 44) (pc := 58) dX6_set_58 rfl rfl
theorem dX6_set_59 : decode cX6_set 59 = .ok (.getfield 14, 3) := by decide +kernel
theorem w44_59 {d : Nat} {st : List Value} {h : xH} {K : Option Value → xH → Prop} {ls : xL} {a : Nat} : wp d 44 59 ls (.ref a :: st) h K ↔ y_get h a 7 0 (fun v => wp d 44 62 ls (v :: st) h K) := w_get (i := 44) (pc := 59) dX6_set_59 rfl
theorem dX6_set_62 : decode cX6_set 62 = .ok (.getfield 65, 3) := by decide +kernel
theorem w44_62 {d : Nat} {st : List Value} {h : xH} {K : Option Value → xH → Prop} {ls : xL} {a : Nat} : wp d 44 62 ls (.ref a :: st) h K ↔ y_get h a 1 0 (fun v => wp d 44 65 ls (v :: st) h K) := w_get (i := 44) (pc := 62) dX6_set_62 rfl
theorem dX6_set_65 : decode cX6_set 65 = .ok (.iload_n 1, 1) := by decide +kernel
theorem w44_65 {d : Nat} {st : List Value} {h : xH} {K : Option Value → xH → Prop} {l0 l2 l3 : Option Value} {x : Int32} : wp d 44 65 [l0, some (.int x), l2, l3] st h K ↔ wp d 44 66 [l0, some (.int x), l2, l3] (.int x :: st) h K := w_any (i := 44) (pc := 65) dX6_set_65 rfl rfl
theorem dX6_set_66 : decode cX6_set 66 = .ok (.iload_n 2, 1) := by decide +kernel
theorem w44_66 {d : Nat} {st : List Value} {h : xH} {K : Option Value → xH → Prop} {l0 l1 l3 : Option Value} {x : Int32} : wp d 44 66 [l0, l1, some (.int x), l3] st h K ↔ wp d 44 67 [l0, l1, some (.int x), l3] (.int x :: st) h K := w_any (i := 44) (pc := 66) dX6_set_66 rfl rfl
theorem dX6_set_67 : decode cX6_set 67 = .ok (.invokevirtual 84, 3) := by decide +kernel
theorem w44_67 {d : Nat} {st : List Value} {h : xH} {K : Option Value → xH → Prop} {ls : xL} {a0 : Int32} {a1 : Int32} {b : Nat} : wp (d + 1) 44 67 ls (.int a1 :: .int a0 :: .ref b :: st) h K ↔ y_cls h b 3 ∧ xcs st ≤ 8 ∧ wp d 20 0 [some (.ref b), some (.int a0), some (.int a1)] [] h (fun v h1 => wp (d + 1) 44 70 ls (v.toList ++ st) h1 K) := w_callW (i := 44) (pc := 67) (as := [.int a0, .int a1]) (rest := st) dX6_set_67 rfl (by decide) rfl rfl (by decide) rfl rfl rfl rfl
theorem dX6_set_70 : decode cX6_set 70 = .ok (.iload_n 3, 1) := by decide +kernel
theorem w44_70 {d : Nat} {st : List Value} {h : xH} {K : Option Value → xH → Prop} {l0 l1 l2 : Option Value} {x : Int32} : wp d 44 70 [l0, l1, l2, some (.int x)] st h K ↔ wp d 44 71 [l0, l1, l2, some (.int x)] (.int x :: st) h K := w_any (i := 44) (pc := 70) dX6_set_70 rfl rfl
theorem dX6_set_71 : decode cX6_set 71 = .ok (.ireturn, 1) := by decide +kernel
theorem w44_71 {d : Nat} {h : xH} {K : Option Value → xH → Prop} {ls : xL} {x : Int32} : wp d 44 71 ls [.int x] h K ↔ K (some (.int x)) h := w_iret (i := 44) (pc := 71) dX6_set_71 rfl
theorem dX6_vine_0 : decode cX6_vine 0 = .ok (.aload_n 0, 1) := by decide +kernel
theorem w45_0 {d : Nat} {st : List Value} {h : xH} {K : Option Value → xH → Prop} {l1 l2 l3 l4 : Option Value} {x : Nat} : wp d 45 0 [some (.ref x), l1, l2, l3, l4] st h K ↔ wp d 45 1 [some (.ref x), l1, l2, l3, l4] (.ref x :: st) h K := w_any (i := 45) (pc := 0) dX6_vine_0 rfl rfl
theorem w45_0n {d : Nat} {st : List Value} {h : xH} {K : Option Value → xH → Prop} {l1 l2 l3 l4 : Option Value} : wp d 45 0 [some .null, l1, l2, l3, l4] st h K ↔ wp d 45 1 [some .null, l1, l2, l3, l4] (.null :: st) h K := w_any (i := 45) (pc := 0) dX6_vine_0 rfl rfl
theorem dX6_vine_1 : decode cX6_vine 1 = .ok (.getfield 14, 3) := by decide +kernel
theorem w45_1 {d : Nat} {st : List Value} {h : xH} {K : Option Value → xH → Prop} {ls : xL} {a : Nat} : wp d 45 1 ls (.ref a :: st) h K ↔ y_get h a 7 0 (fun v => wp d 45 4 ls (v :: st) h K) := w_get (i := 45) (pc := 1) dX6_vine_1 rfl
theorem dX6_vine_4 : decode cX6_vine 4 = .ok (.getfield 65, 3) := by decide +kernel
theorem w45_4 {d : Nat} {st : List Value} {h : xH} {K : Option Value → xH → Prop} {ls : xL} {a : Nat} : wp d 45 4 ls (.ref a :: st) h K ↔ y_get h a 1 0 (fun v => wp d 45 7 ls (v :: st) h K) := w_get (i := 45) (pc := 4) dX6_vine_4 rfl
theorem dX6_vine_7 : decode cX6_vine 7 = .ok (.iload_n 2, 1) := by decide +kernel
theorem w45_7 {d : Nat} {st : List Value} {h : xH} {K : Option Value → xH → Prop} {l0 l1 l3 l4 : Option Value} {x : Int32} : wp d 45 7 [l0, l1, some (.int x), l3, l4] st h K ↔ wp d 45 8 [l0, l1, some (.int x), l3, l4] (.int x :: st) h K := w_any (i := 45) (pc := 7) dX6_vine_7 rfl rfl
theorem dX6_vine_8 : decode cX6_vine 8 = .ok (.invokevirtual 74, 3) := by decide +kernel
theorem w45_8 {d : Nat} {st : List Value} {h : xH} {K : Option Value → xH → Prop} {ls : xL} {a0 : Int32} {b : Nat} : wp (d + 1) 45 8 ls (.int a0 :: .ref b :: st) h K ↔ y_cls h b 3 ∧ xcs st ≤ 8 ∧ wp d 18 0 [some (.ref b), some (.int a0)] [] h (fun v h1 => wp (d + 1) 45 11 ls (v.toList ++ st) h1 K) := w_callW (i := 45) (pc := 8) (as := [.int a0]) (rest := st) dX6_vine_8 rfl (by decide) rfl rfl (by decide) rfl rfl rfl rfl
theorem dX6_vine_11 : decode cX6_vine 11 = .ok (.ifCond .ne 5, 3) := by decide +kernel
theorem w45_11 {d : Nat} {st : List Value} {h : xH} {K : Option Value → xH → Prop} {ls : xL} {x : Int32} : wp d 45 11 ls (.int x :: st) h K ↔ ((¬ x = 0) → wp d 45 16 ls st h K) ∧ ((x = 0) → wp d 45 14 ls st h K) := (w_if1 (i := 45) (pc := 11) (cd := .ne) (off := 5) (tgt := 16) dX6_vine_11 (by decide) rfl).trans (and_congr Iff.rfl (imp_congr Classical.not_not Iff.rfl))
theorem dX6_vine_14 : decode cX6_vine 14 = .ok (.iconst (-1), 1) := by decide +kernel
theorem w45_14 {d : Nat} {st : List Value} {h : xH} {K : Option Value → xH → Prop} {ls : xL} : wp d 45 14 ls st h K ↔ wp d 45 15 ls (.int (-1) :: st) h K := w_iconst (i := 45) (pc := 14) dX6_vine_14 (by decide)
theorem dX6_vine_15 : decode cX6_vine 15 = .ok (.ireturn, 1) := by decide +kernel
theorem w45_15 {d : Nat} {h : xH} {K : Option Value → xH → Prop} {ls : xL} {x : Int32} : wp d 45 15 ls [.int x] h K ↔ K (some (.int x)) h := w_iret (i := 45) (pc := 15) dX6_vine_15 rfl
theorem dX6_vine_16 : decode cX6_vine 16 = .ok (.iload_n 1, 1) := by decide +kernel
theorem w45_16 {d : Nat} {st : List Value} {h : xH} {K : Option Value → xH → Prop} {l0 l2 l3 l4 : Option Value} {x : Int32} : wp d 45 16 [l0, some (.int x), l2, l3, l4] st h K ↔ wp d 45 17 [l0, some (.int x), l2, l3, l4] (.int x :: st) h K := w_any (i := 45) (pc := 16) dX6_vine_16 rfl rfl
theorem dX6_vine_17 : decode cX6_vine 17 = .ok (.iconst 3, 1) := by decide +kernel
theorem w45_17 {d : Nat} {st : List Value} {h : xH} {K : Option Value → xH → Prop} {ls : xL} : wp d 45 17 ls st h K ↔ wp d 45 18 ls (.int 3 :: st) h K := w_iconst (i := 45) (pc := 17) dX6_vine_17 (by decide)
theorem dX6_vine_18 : decode cX6_vine 18 = .ok (.invokestatic 43, 3) := by decide +kernel
theorem w45_18 {d : Nat} {st : List Value} {h : xH} {K : Option Value → xH → Prop} {ls : xL} {a0 : Int32} {a1 : Int32} : wp (d + 1) 45 18 ls (.int a1 :: .int a0 :: st) h K ↔ xcs st ≤ 8 ∧ wp d 74 0 [some (.int a0), some (.int a1)] [] h (fun v h1 => wp (d + 1) 45 21 ls (v.toList ++ st) h1 K) := w_callS (i := 45) (pc := 18) (as := [.int a0, .int a1]) (rest := st) dX6_vine_18 rfl (by decide) rfl rfl rfl rfl rfl
theorem dX6_vine_21 : decode cX6_vine 21 = .ok (.ifCond .eq 11, 3) := by decide +kernel
theorem w45_21 {d : Nat} {st : List Value} {h : xH} {K : Option Value → xH → Prop} {ls : xL} {x : Int32} : wp d 45 21 ls (.int x :: st) h K ↔ ((x = 0) → wp d 45 32 ls st h K) ∧ ((¬ (x = 0)) → wp d 45 24 ls st h K) := w_if1 (i := 45) (pc := 21) (cd := .eq) (off := 11) (tgt := 32) dX6_vine_21 (by decide) rfl
theorem dX6_vine_24 : decode cX6_vine 24 = .ok (.iload_n 3, 1) := by decide +kernel
theorem w45_24 {d : Nat} {st : List Value} {h : xH} {K : Option Value → xH → Prop} {l0 l1 l2 l4 : Option Value} {x : Int32} : wp d 45 24 [l0, l1, l2, some (.int x), l4] st h K ↔ wp d 45 25 [l0, l1, l2, some (.int x), l4] (.int x :: st) h K := w_any (i := 45) (pc := 24) dX6_vine_24 rfl rfl
theorem dX6_vine_25 : decode cX6_vine 25 = .ok (.iconst 4, 1) := by decide +kernel
theorem w45_25 {d : Nat} {st : List Value} {h : xH} {K : Option Value → xH → Prop} {ls : xL} : wp d 45 25 ls st h K ↔ wp d 45 26 ls (.int 4 :: st) h K := w_iconst (i := 45) (pc := 25) dX6_vine_25 (by decide)
theorem dX6_vine_26 : decode cX6_vine 26 = .ok (.invokestatic 43, 3) := by decide +kernel
theorem w45_26 {d : Nat} {st : List Value} {h : xH} {K : Option Value → xH → Prop} {ls : xL} {a0 : Int32} {a1 : Int32} : wp (d + 1) 45 26 ls (.int a1 :: .int a0 :: st) h K ↔ xcs st ≤ 8 ∧ wp d 74 0 [some (.int a0), some (.int a1)] [] h (fun v h1 => wp (d + 1) 45 29 ls (v.toList ++ st) h1 K) := w_callS (i := 45) (pc := 26) (as := [.int a0, .int a1]) (rest := st) dX6_vine_26 rfl (by decide) rfl rfl rfl rfl rfl
theorem dX6_vine_29 : decode cX6_vine 29 = .ok (.ifCond .ne 6, 3) := by decide +kernel
theorem w45_29 {d : Nat} {st : List Value} {h : xH} {K : Option Value → xH → Prop} {ls : xL} {x : Int32} : wp d 45 29 ls (.int x :: st) h K ↔ ((¬ x = 0) → wp d 45 35 ls st h K) ∧ ((x = 0) → wp d 45 32 ls st h K) := (w_if1 (i := 45) (pc := 29) (cd := .ne) (off := 6) (tgt := 35) dX6_vine_29 (by decide) rfl).trans (and_congr Iff.rfl (imp_congr Classical.not_not Iff.rfl))
theorem dX6_vine_32 : decode cX6_vine 32 = .ok (.bipush (-2), 2) := by decide +kernel
theorem w45_32 {d : Nat} {st : List Value} {h : xH} {K : Option Value → xH → Prop} {ls : xL} : wp d 45 32 ls st h K ↔ wp d 45 34 ls (.int (-2) :: st) h K := w_bipush (i := 45) (pc := 32) dX6_vine_32 (by decide)
theorem dX6_vine_34 : decode cX6_vine 34 = .ok (.ireturn, 1) := by decide +kernel
theorem w45_34 {d : Nat} {h : xH} {K : Option Value → xH → Prop} {ls : xL} {x : Int32} : wp d 45 34 ls [.int x] h K ↔ K (some (.int x)) h := w_iret (i := 45) (pc := 34) dX6_vine_34 rfl
theorem dX6_vine_35 : decode cX6_vine 35 = .ok (.aload_n 0, 1) := by decide +kernel
theorem w45_35 {d : Nat} {st : List Value} {h : xH} {K : Option Value → xH → Prop} {l1 l2 l3 l4 : Option Value} {x : Nat} : wp d 45 35 [some (.ref x), l1, l2, l3, l4] st h K ↔ wp d 45 36 [some (.ref x), l1, l2, l3, l4] (.ref x :: st) h K := w_any (i := 45) (pc := 35) dX6_vine_35 rfl rfl
theorem w45_35n {d : Nat} {st : List Value} {h : xH} {K : Option Value → xH → Prop} {l1 l2 l3 l4 : Option Value} : wp d 45 35 [some .null, l1, l2, l3, l4] st h K ↔ wp d 45 36 [some .null, l1, l2, l3, l4] (.null :: st) h K := w_any (i := 45) (pc := 35) dX6_vine_35 rfl rfl
theorem dX6_vine_36 : decode cX6_vine 36 = .ok (.getfield 14, 3) := by decide +kernel
theorem w45_36 {d : Nat} {st : List Value} {h : xH} {K : Option Value → xH → Prop} {ls : xL} {a : Nat} : wp d 45 36 ls (.ref a :: st) h K ↔ y_get h a 7 0 (fun v => wp d 45 39 ls (v :: st) h K) := w_get (i := 45) (pc := 36) dX6_vine_36 rfl
theorem dX6_vine_39 : decode cX6_vine 39 = .ok (.getfield 65, 3) := by decide +kernel
theorem w45_39 {d : Nat} {st : List Value} {h : xH} {K : Option Value → xH → Prop} {ls : xL} {a : Nat} : wp d 45 39 ls (.ref a :: st) h K ↔ y_get h a 1 0 (fun v => wp d 45 42 ls (v :: st) h K) := w_get (i := 45) (pc := 39) dX6_vine_39 rfl
theorem dX6_vine_42 : decode cX6_vine 42 = .ok (.iload_n 2, 1) := by decide +kernel
theorem w45_42 {d : Nat} {st : List Value} {h : xH} {K : Option Value → xH → Prop} {l0 l1 l3 l4 : Option Value} {x : Int32} : wp d 45 42 [l0, l1, some (.int x), l3, l4] st h K ↔ wp d 45 43 [l0, l1, some (.int x), l3, l4] (.int x :: st) h K := w_any (i := 45) (pc := 42) dX6_vine_42 rfl rfl
theorem dX6_vine_43 : decode cX6_vine 43 = .ok (.invokevirtual 78, 3) := by decide +kernel
theorem w45_43 {d : Nat} {st : List Value} {h : xH} {K : Option Value → xH → Prop} {ls : xL} {a0 : Int32} {b : Nat} : wp (d + 1) 45 43 ls (.int a0 :: .ref b :: st) h K ↔ y_cls h b 3 ∧ xcs st ≤ 8 ∧ wp d 19 0 [some (.ref b), some (.int a0)] [] h (fun v h1 => wp (d + 1) 45 46 ls (v.toList ++ st) h1 K) := w_callW (i := 45) (pc := 43) (as := [.int a0]) (rest := st) dX6_vine_43 rfl (by decide) rfl rfl (by decide) rfl rfl rfl rfl
theorem dX6_vine_46 : decode cX6_vine 46 = .ok (.iconst 1, 1) := by decide +kernel
theorem w45_46 {d : Nat} {st : List Value} {h : xH} {K : Option Value → xH → Prop} {ls : xL} : wp d 45 46 ls st h K ↔ wp d 45 47 ls (.int 1 :: st) h K := w_iconst (i := 45) (pc := 46) dX6_vine_46 (by decide)
theorem dX6_vine_47 : decode cX6_vine 47 = .ok (.if_icmp .eq 14, 3) := by decide +kernel
theorem w45_47 {d : Nat} {st : List Value} {h : xH} {K : Option Value → xH → Prop} {ls : xL} {x y : Int32} : wp d 45 47 ls (.int y :: .int x :: st) h K ↔ ((x = y) → wp d 45 61 ls st h K) ∧ ((¬ (x = y)) → wp d 45 50 ls st h K) := w_if2 (i := 45) (pc := 47) (cd := .eq) (off := 14) (tgt := 61) dX6_vine_47 (by decide) rfl
theorem dX6_vine_50 : decode cX6_vine 50 = .ok (.aload_n 0, 1) := by decide +kernel
theorem w45_50 {d : Nat} {st : List Value} {h : xH} {K : Option Value → xH → Prop} {l1 l2 l3 l4 : Option Value} {x : Nat} : wp d 45 50 [some (.ref x), l1, l2, l3, l4] st h K ↔ wp d 45 51 [some (.ref x), l1, l2, l3, l4] (.ref x :: st) h K := w_any (i := 45) (pc := 50) dX6_vine_50 rfl rfl
theorem w45_50n {d : Nat} {st : List Value} {h : xH} {K : Option Value → xH → Prop} {l1 l2 l3 l4 : Option Value} : wp d 45 50 [some .null, l1, l2, l3, l4] st h K ↔ wp d 45 51 [some .null, l1, l2, l3, l4] (.null :: st) h K := w_any (i := 45) (pc := 50) dX6_vine_50 rfl rfl
theorem dX6_vine_51 : decode cX6_vine 51 = .ok (.getfield 14, 3) := by decide +kernel
theorem w45_51 {d : Nat} {st : List Value} {h : xH} {K : Option Value → xH → Prop} {ls : xL} {a : Nat} : wp d 45 51 ls (.ref a :: st) h K ↔ y_get h a 7 0 (fun v => wp d 45 54 ls (v :: st) h K) := w_get (i := 45) (pc := 51) dX6_vine_51 rfl
theorem dX6_vine_54 : decode cX6_vine 54 = .ok (.iload_n 2, 1) := by decide +kernel
theorem w45_54 {d : Nat} {st : List Value} {h : xH} {K : Option Value → xH → Prop} {l0 l1 l3 l4 : Option Value} {x : Int32} : wp d 45 54 [l0, l1, some (.int x), l3, l4] st h K ↔ wp d 45 55 [l0, l1, some (.int x), l3, l4] (.int x :: st) h K := w_any (i := 45) (pc := 54) dX6_vine_54 rfl rfl
theorem dX6_vine_55 : decode cX6_vine 55 = .ok (.invokevirtual 81, 3) := by decide +kernel
theorem w45_55 {d : Nat} {st : List Value} {h : xH} {K : Option Value → xH → Prop} {ls : xL} {a0 : Int32} {b : Nat} : wp (d + 1) 45 55 ls (.int a0 :: .ref b :: st) h K ↔ y_cls h b 1 ∧ xcs st ≤ 8 ∧ wp d 2 0 [some (.ref b), some (.int a0), none] [] h (fun v h1 => wp (d + 1) 45 58 ls (v.toList ++ st) h1 K) := w_callW (i := 45) (pc := 55) (as := [.int a0]) (rest := st) dX6_vine_55 rfl (by decide) rfl rfl (by decide) rfl rfl rfl rfl
theorem dX6_vine_58 : decode cX6_vine 58 = .ok (.ifCond .eq 6, 3) := by decide +kernel
theorem w45_58 {d : Nat} {st : List Value} {h : xH} {K : Option Value → xH → Prop} {ls : xL} {x : Int32} : wp d 45 58 ls (.int x :: st) h K ↔ ((x = 0) → wp d 45 64 ls st h K) ∧ ((¬ (x = 0)) → wp d 45 61 ls st h K) := w_if1 (i := 45) (pc := 58) (cd := .eq) (off := 6) (tgt := 64) dX6_vine_58 (by decide) rfl
theorem dX6_vine_61 : decode cX6_vine 61 = .ok (.bipush (-3), 2) := by decide +kernel
theorem w45_61 {d : Nat} {st : List Value} {h : xH} {K : Option Value → xH → Prop} {ls : xL} : wp d 45 61 ls st h K ↔ wp d 45 63 ls (.int (-3) :: st) h K := w_bipush (i := 45) (pc := 61) dX6_vine_61 (by decide)
theorem dX6_vine_63 : decode cX6_vine 63 = .ok (.ireturn, 1) := by decide +kernel
theorem w45_63 {d : Nat} {h : xH} {K : Option Value → xH → Prop} {ls : xL} {x : Int32} : wp d 45 63 ls [.int x] h K ↔ K (some (.int x)) h := w_iret (i := 45) (pc := 63) dX6_vine_63 rfl
theorem dX6_vine_64 : decode cX6_vine 64 = .ok (.aload_n 0, 1) := by decide +kernel
theorem w45_64 {d : Nat} {st : List Value} {h : xH} {K : Option Value → xH → Prop} {l1 l2 l3 l4 : Option Value} {x : Nat} : wp d 45 64 [some (.ref x), l1, l2, l3, l4] st h K ↔ wp d 45 65 [some (.ref x), l1, l2, l3, l4] (.ref x :: st) h K := w_any (i := 45) (pc := 64) dX6_vine_64 rfl rfl
theorem w45_64n {d : Nat} {st : List Value} {h : xH} {K : Option Value → xH → Prop} {l1 l2 l3 l4 : Option Value} : wp d 45 64 [some .null, l1, l2, l3, l4] st h K ↔ wp d 45 65 [some .null, l1, l2, l3, l4] (.null :: st) h K := w_any (i := 45) (pc := 64) dX6_vine_64 rfl rfl
theorem dX6_vine_65 : decode cX6_vine 65 = .ok (.getfield 14, 3) := by decide +kernel
theorem w45_65 {d : Nat} {st : List Value} {h : xH} {K : Option Value → xH → Prop} {ls : xL} {a : Nat} : wp d 45 65 ls (.ref a :: st) h K ↔ y_get h a 7 0 (fun v => wp d 45 68 ls (v :: st) h K) := w_get (i := 45) (pc := 65) dX6_vine_65 rfl
theorem dX6_vine_68 : decode cX6_vine 68 = .ok (.getfield 88, 3) := by decide +kernel
theorem w45_68 {d : Nat} {st : List Value} {h : xH} {K : Option Value → xH → Prop} {ls : xL} {a : Nat} : wp d 45 68 ls (.ref a :: st) h K ↔ y_get h a 1 2 (fun v => wp d 45 71 ls (v :: st) h K) := w_get (i := 45) (pc := 68) dX6_vine_68 rfl
theorem dX6_vine_71 : decode cX6_vine 71 = .ok (.invokevirtual 91, 3) := by decide +kernel
theorem w45_71 {d : Nat} {st : List Value} {h : xH} {K : Option Value → xH → Prop} {ls : xL} {b : Nat} : wp (d + 1) 45 71 ls (.ref b :: st) h K ↔ y_cls h b 0 ∧ xcs st ≤ 8 ∧ wp d 160 0 [some (.ref b)] [] h (fun v h1 => wp (d + 1) 45 74 ls (v.toList ++ st) h1 K) := w_callW (i := 45) (pc := 71) (as := []) (rest := st) dX6_vine_71 rfl (by decide) rfl rfl (by decide) rfl rfl rfl rfl
theorem dX6_vine_74 : decode cX6_vine 74 = .ok (.istore 4, 2) := by decide +kernel
theorem w45_74 {d : Nat} {st : List Value} {h : xH} {K : Option Value → xH → Prop} {l0 l1 l2 l3 l4 : Option Value} {x : Int32} : wp d 45 74 [l0, l1, l2, l3, l4] (.int x :: st) h K ↔ wp d 45 76 [l0, l1, l2, xk l3, some (.int x)] st h K := w_istore (i := 45) (pc := 74) dX6_vine_74 (Nat.le_of_ble_eq_true rfl) (show xst1 [l0, l1, l2, l3, l4] 4 (.int x) = [l0, l1, l2, xk l3, some (.int x)] by simp only [xst1_0, xst1_1, xst1_s, Nat.reduceAdd])
theorem dX6_vine_76 : decode cX6_vine 76 = .ok (.iload 4, 2) := by decide +kernel
theorem w45_76 {d : Nat} {st : List Value} {h : xH} {K : Option Value → xH → Prop} {l0 l1 l2 l3 : Option Value} {x : Int32} : wp d 45 76 [l0, l1, l2, l3, some (.int x)] st h K ↔ wp d 45 78 [l0, l1, l2, l3, some (.int x)] (.int x :: st) h K := w_any (i := 45) (pc := 76) dX6_vine_76 rfl rfl
theorem dX6_vine_78 : decode cX6_vine 78 = .ok (.iconst 3, 1) := by decide +kernel
theorem w45_78 {d : Nat} {st : List Value} {h : xH} {K : Option Value → xH → Prop} {ls : xL} : wp d 45 78 ls st h K ↔ wp d 45 79 ls (.int 3 :: st) h K := w_iconst (i := 45) (pc := 78) dX6_vine_78 (by decide)
theorem dX6_vine_79 : decode cX6_vine 79 = .ok (.if_icmp .lt 6, 3) := by decide +kernel
theorem w45_79 {d : Nat} {st : List Value} {h : xH} {K : Option Value → xH → Prop} {ls : xL} {x y : Int32} : wp d 45 79 ls (.int y :: .int x :: st) h K ↔ ((x < y) → wp d 45 85 ls st h K) ∧ ((¬ (x < y)) → wp d 45 82 ls st h K) := w_if2 (i := 45) (pc := 79) (cd := .lt) (off := 6) (tgt := 85) dX6_vine_79 (by decide) rfl
theorem dX6_vine_82 : decode cX6_vine 82 = .ok (.bipush (-4), 2) := by decide +kernel
theorem w45_82 {d : Nat} {st : List Value} {h : xH} {K : Option Value → xH → Prop} {ls : xL} : wp d 45 82 ls st h K ↔ wp d 45 84 ls (.int (-4) :: st) h K := w_bipush (i := 45) (pc := 82) dX6_vine_82 (by decide)
theorem dX6_vine_84 : decode cX6_vine 84 = .ok (.ireturn, 1) := by decide +kernel
theorem w45_84 {d : Nat} {h : xH} {K : Option Value → xH → Prop} {ls : xL} {x : Int32} : wp d 45 84 ls [.int x] h K ↔ K (some (.int x)) h := w_iret (i := 45) (pc := 84) dX6_vine_84 rfl
theorem dX6_vine_85 : decode cX6_vine 85 = .ok (.aload_n 0, 1) := by decide +kernel
theorem w45_85 {d : Nat} {st : List Value} {h : xH} {K : Option Value → xH → Prop} {l1 l2 l3 l4 : Option Value} {x : Nat} : wp d 45 85 [some (.ref x), l1, l2, l3, l4] st h K ↔ wp d 45 86 [some (.ref x), l1, l2, l3, l4] (.ref x :: st) h K := w_any (i := 45) (pc := 85) dX6_vine_85 rfl rfl
theorem w45_85n {d : Nat} {st : List Value} {h : xH} {K : Option Value → xH → Prop} {l1 l2 l3 l4 : Option Value} : wp d 45 85 [some .null, l1, l2, l3, l4] st h K ↔ wp d 45 86 [some .null, l1, l2, l3, l4] (.null :: st) h K := w_any (i := 45) (pc := 85) dX6_vine_85 rfl rfl
theorem dX6_vine_86 : decode cX6_vine 86 = .ok (.getfield 14, 3) := by decide +kernel
theorem w45_86 {d : Nat} {st : List Value} {h : xH} {K : Option Value → xH → Prop} {ls : xL} {a : Nat} : wp d 45 86 ls (.ref a :: st) h K ↔ y_get h a 7 0 (fun v => wp d 45 89 ls (v :: st) h K) := w_get (i := 45) (pc := 86) dX6_vine_86 rfl
theorem dX6_vine_89 : decode cX6_vine 89 = .ok (.getfield 88, 3) := by decide +kernel
theorem w45_89 {d : Nat} {st : List Value} {h : xH} {K : Option Value → xH → Prop} {ls : xL} {a : Nat} : wp d 45 89 ls (.ref a :: st) h K ↔ y_get h a 1 2 (fun v => wp d 45 92 ls (v :: st) h K) := w_get (i := 45) (pc := 89) dX6_vine_89 rfl
theorem dX6_vine_92 : decode cX6_vine 92 = .ok (.new 95, 3) := by decide +kernel
theorem w45_92 {d : Nat} {st : List Value} {h : xH} {K : Option Value → xH → Prop} {ls : xL} : wp d 45 92 ls st h K ↔ wp d 45 95 ls (.ref h.length :: st) (h ++ [.inr (6, [.int 0, .int 0, .int 0, .int 0, .int 0, .int 0, .int 0, .int 0, .long 0, .long 0])]) K := w_new (i := 45) (pc := 92) dX6_vine_92 rfl rfl
theorem dX6_vine_95 : decode cX6_vine 95 = .ok (.dup, 1) := by decide +kernel
theorem w45_95 {d : Nat} {st : List Value} {h : xH} {K : Option Value → xH → Prop} {ls : xL} {x : Int32} : wp d 45 95 ls (.int x :: st) h K ↔ wp d 45 96 ls (.int x :: .int x :: st) h K := (w_any (i := 45) (pc := 95) dX6_vine_95 rfl rfl).trans (w_ct rfl)
theorem w45_95r {d : Nat} {st : List Value} {h : xH} {K : Option Value → xH → Prop} {ls : xL} {x : Nat} : wp d 45 95 ls (.ref x :: st) h K ↔ wp d 45 96 ls (.ref x :: .ref x :: st) h K := (w_any (i := 45) (pc := 95) dX6_vine_95 rfl rfl).trans (w_ct rfl)
theorem dX6_vine_96 : decode cX6_vine 96 = .ok (.iload_n 1, 1) := by decide +kernel
theorem w45_96 {d : Nat} {st : List Value} {h : xH} {K : Option Value → xH → Prop} {l0 l2 l3 l4 : Option Value} {x : Int32} : wp d 45 96 [l0, some (.int x), l2, l3, l4] st h K ↔ wp d 45 97 [l0, some (.int x), l2, l3, l4] (.int x :: st) h K := w_any (i := 45) (pc := 96) dX6_vine_96 rfl rfl
theorem dX6_vine_97 : decode cX6_vine 97 = .ok (.iload_n 2, 1) := by decide +kernel
theorem w45_97 {d : Nat} {st : List Value} {h : xH} {K : Option Value → xH → Prop} {l0 l1 l3 l4 : Option Value} {x : Int32} : wp d 45 97 [l0, l1, some (.int x), l3, l4] st h K ↔ wp d 45 98 [l0, l1, some (.int x), l3, l4] (.int x :: st) h K := w_any (i := 45) (pc := 97) dX6_vine_97 rfl rfl
theorem dX6_vine_98 : decode cX6_vine 98 = .ok (.iload_n 3, 1) := by decide +kernel
theorem w45_98 {d : Nat} {st : List Value} {h : xH} {K : Option Value → xH → Prop} {l0 l1 l2 l4 : Option Value} {x : Int32} : wp d 45 98 [l0, l1, l2, some (.int x), l4] st h K ↔ wp d 45 99 [l0, l1, l2, some (.int x), l4] (.int x :: st) h K := w_any (i := 45) (pc := 98) dX6_vine_98 rfl rfl
theorem dX6_vine_99 : decode cX6_vine 99 = .ok (.invokespecial 97, 3) := by decide +kernel
theorem w45_99 {d : Nat} {st : List Value} {h : xH} {K : Option Value → xH → Prop} {ls : xL} {a0 : Int32} {a1 : Int32} {a2 : Int32} {b : Nat} : wp (d + 1) 45 99 ls (.int a2 :: .int a1 :: .int a0 :: .ref b :: st) h K ↔ xcs st ≤ 8 ∧ wp d 35 0 [some (.ref b), some (.int a0), some (.int a1), some (.int a2)] [] h (fun v h1 => wp (d + 1) 45 102 ls (v.toList ++ st) h1 K) := w_callI (i := 45) (pc := 99) (as := [.int a0, .int a1, .int a2]) (rest := st) (by decide) dX6_vine_99 rfl (by decide) rfl rfl rfl rfl rfl
theorem dX6_vine_102 : decode cX6_vine 102 = .ok (.invokevirtual 100, 3) := by decide +kernel
theorem w45_102 {d : Nat} {st : List Value} {h : xH} {K : Option Value → xH → Prop} {ls : xL} {a0 : Nat} {b : Nat} : wp (d + 1) 45 102 ls (.ref a0 :: .ref b :: st) h K ↔ y_cls h b 0 ∧ xcs st ≤ 8 ∧ wp d 164 0 [some (.ref b), some (.ref a0)] [] h (fun v h1 => wp (d + 1) 45 105 ls (v.toList ++ st) h1 K) := w_callW (i := 45) (pc := 102) (as := [.ref a0]) (rest := st) dX6_vine_102 rfl (by decide) rfl rfl (by decide) rfl rfl rfl rfl
theorem dX6_vine_105 : decode cX6_vine 105 = .ok (.pop, 1) := by decide +kernel
theorem w45_105 {d : Nat} {st : List Value} {h : xH} {K : Option Value → xH → Prop} {ls : xL} {x : Int32} : wp d 45 105 ls (.int x :: st) h K ↔ wp d 45 106 ls st h K := (w_any (i := 45) (pc := 105) dX6_vine_105 rfl rfl).trans (w_ct rfl)
theorem w45_105r {d : Nat} {st : List Value} {h : xH} {K : Option Value → xH → Prop} {ls : xL} {x : Nat} : wp d 45 105 ls (.ref x :: st) h K ↔ wp d 45 106 ls st h K := (w_any (i := 45) (pc := 105) dX6_vine_105 rfl rfl).trans (w_ct rfl)
theorem w45_105n {d : Nat} {st : List Value} {h : xH} {K : Option Value → xH → Prop} {ls : xL} : wp d 45 105 ls (.null :: st) h K ↔ wp d 45 106 ls st h K := (w_any (i := 45) (pc := 105) dX6_vine_105 rfl rfl).trans (w_ct rfl)
theorem dX6_vine_106 : decode cX6_vine 106 = .ok (.iload 4, 2) := by decide +kernel
theorem w45_106 {d : Nat} {st : List Value} {h : xH} {K : Option Value → xH → Prop} {l0 l1 l2 l3 : Option Value} {x : Int32} : wp d 45 106 [l0, l1, l2, l3, some (.int x)] st h K ↔ wp d 45 108 [l0, l1, l2, l3, some (.int x)] (.int x :: st) h K := w_any (i := 45) (pc := 106) dX6_vine_106 rfl rfl
theorem dX6_vine_108 : decode cX6_vine 108 = .ok (.ireturn, 1) := by decide +kernel
theorem w45_108 {d : Nat} {h : xH} {K : Option Value → xH → Prop} {ls : xL} {x : Int32} : wp d 45 108 ls [.int x] h K ↔ K (some (.int x)) h := w_iret (i := 45) (pc := 108) dX6_vine_108 rfl
theorem dX6_ofVine_0 : decode cX6_ofVine 0 = .ok (.aload_n 0, 1) := by decide +kernel
theorem w46_0 {d : Nat} {st : List Value} {h : xH} {K : Option Value → xH → Prop} {l1 l2 l3 : Option Value} {x : Nat} : wp d 46 0 [some (.ref x), l1, l2, l3] st h K ↔ wp d 46 1 [some (.ref x), l1, l2, l3] (.ref x :: st) h K := w_any (i := 46) (pc := 0) dX6_ofVine_0 rfl rfl
theorem w46_0n {d : Nat} {st : List Value} {h : xH} {K : Option Value → xH → Prop} {l1 l2 l3 : Option Value} : wp d 46 0 [some .null, l1, l2, l3] st h K ↔ wp d 46 1 [some .null, l1, l2, l3] (.null :: st) h K := w_any (i := 46) (pc := 0) dX6_ofVine_0 rfl rfl
theorem dX6_ofVine_1 : decode cX6_ofVine 1 = .ok (.getfield 14, 3) := by decide +kernel
theorem w46_1 {d : Nat} {st : List Value} {h : xH} {K : Option Value → xH → Prop} {ls : xL} {a : Nat} : wp d 46 1 ls (.ref a :: st) h K ↔ y_get h a 7 0 (fun v => wp d 46 4 ls (v :: st) h K) := w_get (i := 46) (pc := 1) dX6_ofVine_1 rfl
theorem dX6_ofVine_4 : decode cX6_ofVine 4 = .ok (.iload_n 1, 1) := by decide +kernel
theorem w46_4 {d : Nat} {st : List Value} {h : xH} {K : Option Value → xH → Prop} {l0 l2 l3 : Option Value} {x : Int32} : wp d 46 4 [l0, some (.int x), l2, l3] st h K ↔ wp d 46 5 [l0, some (.int x), l2, l3] (.int x :: st) h K := w_any (i := 46) (pc := 4) dX6_ofVine_4 rfl rfl
theorem dX6_ofVine_5 : decode cX6_ofVine 5 = .ok (.invokevirtual 104, 3) := by decide +kernel
theorem w46_5 {d : Nat} {st : List Value} {h : xH} {K : Option Value → xH → Prop} {ls : xL} {a0 : Int32} {b : Nat} : wp (d + 1) 46 5 ls (.int a0 :: .ref b :: st) h K ↔ y_cls h b 1 ∧ xcs st ≤ 8 ∧ wp d 1 0 [some (.ref b), some (.int a0)] [] h (fun v h1 => wp (d + 1) 46 8 ls (v.toList ++ st) h1 K) := w_callW (i := 46) (pc := 5) (as := [.int a0]) (rest := st) dX6_ofVine_5 rfl (by decide) rfl rfl (by decide) rfl rfl rfl rfl
theorem dX6_ofVine_8 : decode cX6_ofVine 8 = .ok (.astore_n 3, 1) := by decide +kernel
theorem w46_8 {d : Nat} {st : List Value} {h : xH} {K : Option Value → xH → Prop} {l0 l1 l2 l3 : Option Value} {x : Nat} : wp d 46 8 [l0, l1, l2, l3] (.ref x :: st) h K ↔ wp d 46 9 [l0, l1, xk l2, some (.ref x)] st h K := w_astore_n (i := 46) (pc := 8) dX6_ofVine_8 (Nat.le_of_ble_eq_true rfl) (show xst1 [l0, l1, l2, l3] 3 (.ref x) = [l0, l1, xk l2, some (.ref x)] by simp only [xst1_0, xst1_1, xst1_s, Nat.reduceAdd])
theorem w46_8n {d : Nat} {st : List Value} {h : xH} {K : Option Value → xH → Prop} {l0 l1 l2 l3 : Option Value} : wp d 46 8 [l0, l1, l2, l3] (.null :: st) h K ↔ wp d 46 9 [l0, l1, xk l2, some (.null)] st h K := w_astore_nN (i := 46) (pc := 8) dX6_ofVine_8 (Nat.le_of_ble_eq_true rfl) (show xst1 [l0, l1, l2, l3] 3 (.null) = [l0, l1, xk l2, some (.null)] by simp only [xst1_0, xst1_1, xst1_s, Nat.reduceAdd])
theorem dX6_ofVine_9 : decode cX6_ofVine 9 = .ok (.aload_n 3, 1) := by decide +kernel
theorem w46_9 {d : Nat} {st : List Value} {h : xH} {K : Option Value → xH → Prop} {l0 l1 l2 : Option Value} {x : Nat} : wp d 46 9 [l0, l1, l2, some (.ref x)] st h K ↔ wp d 46 10 [l0, l1, l2, some (.ref x)] (.ref x :: st) h K := w_any (i := 46) (pc := 9) dX6_ofVine_9 rfl rfl
theorem w46_9n {d : Nat} {st : List Value} {h : xH} {K : Option Value → xH → Prop} {l0 l1 l2 : Option Value} : wp d 46 9 [l0, l1, l2, some .null] st h K ↔ wp d 46 10 [l0, l1, l2, some .null] (.null :: st) h K := w_any (i := 46) (pc := 9) dX6_ofVine_9 rfl rfl
theorem dX6_ofVine_10 : decode cX6_ofVine 10 = .ok (.ifnonnull 5, 3) := by decide +kernel
theorem w46_10 {d : Nat} {st : List Value} {h : xH} {K : Option Value → xH → Prop} {ls : xL} {x : Nat} : wp d 46 10 ls (.ref x :: st) h K ↔ wp d 46 15 ls st h K := w_ifnonnull (i := 46) (pc := 10) dX6_ofVine_10 (by decide) rfl
theorem w46_10n {d : Nat} {st : List Value} {h : xH} {K : Option Value → xH → Prop} {ls : xL} : wp d 46 10 ls (.null :: st) h K ↔ wp d 46 13 ls st h K := w_ifnonnullN (i := 46) (pc := 10) dX6_ofVine_10
theorem dX6_ofVine_13 : decode cX6_ofVine 13 = .ok (.iconst (-1), 1) := by decide +kernel
theorem w46_13 {d : Nat} {st : List Value} {h : xH} {K : Option Value → xH → Prop} {ls : xL} : wp d 46 13 ls st h K ↔ wp d 46 14 ls (.int (-1) :: st) h K := w_iconst (i := 46) (pc := 13) dX6_ofVine_13 (by decide)
theorem dX6_ofVine_14 : decode cX6_ofVine 14 = .ok (.ireturn, 1) := by decide +kernel
theorem w46_14 {d : Nat} {h : xH} {K : Option Value → xH → Prop} {ls : xL} {x : Int32} : wp d 46 14 ls [.int x] h K ↔ K (some (.int x)) h := w_iret (i := 46) (pc := 14) dX6_ofVine_14 rfl
theorem dX6_ofVine_15 : decode cX6_ofVine 15 = .ok (.iload_n 2, 1) := by decide +kernel
theorem w46_15 {d : Nat} {st : List Value} {h : xH} {K : Option Value → xH → Prop} {l0 l1 l3 : Option Value} {x : Int32} : wp d 46 15 [l0, l1, some (.int x), l3] st h K ↔ wp d 46 16 [l0, l1, some (.int x), l3] (.int x :: st) h K := w_any (i := 46) (pc := 15) dX6_ofVine_15 rfl rfl
theorem dX6_ofVine_16 : decode cX6_ofVine 16 = .ok (.tableswitch 43 0 2 #[28, 33, 38], 28) := by decide +kernel
theorem w46_16 {d : Nat} {st : List Value} {h : xH} {K : Option Value → xH → Prop} {ls : xL} {x : Int32} : wp d 46 16 ls (.int x :: st) h K ↔ (x.toInt < 0 ∨ 2 < x.toInt → wp d 46 59 ls st h K) ∧ (x.toInt = 0 → wp d 46 44 ls st h K) ∧ (x.toInt = 1 → wp d 46 49 ls st h K) ∧ (x.toInt = 2 → wp d 46 54 ls st h K) := (w_any (i := 46) (pc := 16) dX6_ofVine_16 rfl rfl).trans (by simp [exI, i_tab, xtab, xtgt])
theorem dX6_ofVine_44 : decode cX6_ofVine 44 = .ok (.aload_n 3, 1) := by decide +kernel
theorem w46_44 {d : Nat} {st : List Value} {h : xH} {K : Option Value → xH → Prop} {l0 l1 l2 : Option Value} {x : Nat} : wp d 46 44 [l0, l1, l2, some (.ref x)] st h K ↔ wp d 46 45 [l0, l1, l2, some (.ref x)] (.ref x :: st) h K := w_any (i := 46) (pc := 44) dX6_ofVine_44 rfl rfl
theorem w46_44n {d : Nat} {st : List Value} {h : xH} {K : Option Value → xH → Prop} {l0 l1 l2 : Option Value} : wp d 46 44 [l0, l1, l2, some .null] st h K ↔ wp d 46 45 [l0, l1, l2, some .null] (.null :: st) h K := w_any (i := 46) (pc := 44) dX6_ofVine_44 rfl rfl
theorem dX6_ofVine_45 : decode cX6_ofVine 45 = .ok (.getfield 108, 3) := by decide +kernel
theorem w46_45 {d : Nat} {st : List Value} {h : xH} {K : Option Value → xH → Prop} {ls : xL} {a : Nat} : wp d 46 45 ls (.ref a :: st) h K ↔ y_get h a 6 1 (fun v => wp d 46 48 ls (v :: st) h K) := w_get (i := 46) (pc := 45) dX6_ofVine_45 rfl
theorem dX6_ofVine_48 : decode cX6_ofVine 48 = .ok (.ireturn, 1) := by decide +kernel
theorem w46_48 {d : Nat} {h : xH} {K : Option Value → xH → Prop} {ls : xL} {x : Int32} : wp d 46 48 ls [.int x] h K ↔ K (some (.int x)) h := w_iret (i := 46) (pc := 48) dX6_ofVine_48 rfl
theorem dX6_ofVine_49 : decode cX6_ofVine 49 = .ok (.aload_n 3, 1) := by decide +kernel
theorem w46_49 {d : Nat} {st : List Value} {h : xH} {K : Option Value → xH → Prop} {l0 l1 l2 : Option Value} {x : Nat} : wp d 46 49 [l0, l1, l2, some (.ref x)] st h K ↔ wp d 46 50 [l0, l1, l2, some (.ref x)] (.ref x :: st) h K := w_any (i := 46) (pc := 49) dX6_ofVine_49 rfl rfl
theorem w46_49n {d : Nat} {st : List Value} {h : xH} {K : Option Value → xH → Prop} {l0 l1 l2 : Option Value} : wp d 46 49 [l0, l1, l2, some .null] st h K ↔ wp d 46 50 [l0, l1, l2, some .null] (.null :: st) h K := w_any (i := 46) (pc := 49) dX6_ofVine_49 rfl rfl
theorem dX6_ofVine_50 : decode cX6_ofVine 50 = .ok (.getfield 111, 3) := by decide +kernel
theorem w46_50 {d : Nat} {st : List Value} {h : xH} {K : Option Value → xH → Prop} {ls : xL} {a : Nat} : wp d 46 50 ls (.ref a :: st) h K ↔ y_get h a 6 0 (fun v => wp d 46 53 ls (v :: st) h K) := w_get (i := 46) (pc := 50) dX6_ofVine_50 rfl
theorem dX6_ofVine_53 : decode cX6_ofVine 53 = .ok (.ireturn, 1) := by decide +kernel
theorem w46_53 {d : Nat} {h : xH} {K : Option Value → xH → Prop} {ls : xL} {x : Int32} : wp d 46 53 ls [.int x] h K ↔ K (some (.int x)) h := w_iret (i := 46) (pc := 53) dX6_ofVine_53 rfl
theorem dX6_ofVine_54 : decode cX6_ofVine 54 = .ok (.aload_n 3, 1) := by decide +kernel
theorem w46_54 {d : Nat} {st : List Value} {h : xH} {K : Option Value → xH → Prop} {l0 l1 l2 : Option Value} {x : Nat} : wp d 46 54 [l0, l1, l2, some (.ref x)] st h K ↔ wp d 46 55 [l0, l1, l2, some (.ref x)] (.ref x :: st) h K := w_any (i := 46) (pc := 54) dX6_ofVine_54 rfl rfl
theorem w46_54n {d : Nat} {st : List Value} {h : xH} {K : Option Value → xH → Prop} {l0 l1 l2 : Option Value} : wp d 46 54 [l0, l1, l2, some .null] st h K ↔ wp d 46 55 [l0, l1, l2, some .null] (.null :: st) h K := w_any (i := 46) (pc := 54) dX6_ofVine_54 rfl rfl
theorem dX6_ofVine_55 : decode cX6_ofVine 55 = .ok (.getfield 114, 3) := by decide +kernel
theorem w46_55 {d : Nat} {st : List Value} {h : xH} {K : Option Value → xH → Prop} {ls : xL} {a : Nat} : wp d 46 55 ls (.ref a :: st) h K ↔ y_get h a 6 2 (fun v => wp d 46 58 ls (v :: st) h K) := w_get (i := 46) (pc := 55) dX6_ofVine_55 rfl
theorem dX6_ofVine_58 : decode cX6_ofVine 58 = .ok (.ireturn, 1) := by decide +kernel
theorem w46_58 {d : Nat} {h : xH} {K : Option Value → xH → Prop} {ls : xL} {x : Int32} : wp d 46 58 ls [.int x] h K ↔ K (some (.int x)) h := w_iret (i := 46) (pc := 58) dX6_ofVine_58 rfl
theorem dX6_ofVine_59 : decode cX6_ofVine 59 = .ok (.bipush (-2), 2) := by decide +kernel
theorem w46_59 {d : Nat} {st : List Value} {h : xH} {K : Option Value → xH → Prop} {ls : xL} : wp d 46 59 ls st h K ↔ wp d 46 61 ls (.int (-2) :: st) h K := w_bipush (i := 46) (pc := 59) dX6_ofVine_59 (by decide)
theorem dX6_ofVine_61 : decode cX6_ofVine 61 = .ok (.ireturn, 1) := by decide +kernel
theorem w46_61 {d : Nat} {h : xH} {K : Option Value → xH → Prop} {ls : xL} {x : Int32} : wp d 46 61 ls [.int x] h K ↔ K (some (.int x)) h := w_iret (i := 46) (pc := 61) dX6_ofVine_61 rfl
theorem dX6_pull_0 : decode cX6_pull 0 = .ok (.aload_n 0, 1) := by decide +kernel
theorem w47_0 {d : Nat} {st : List Value} {h : xH} {K : Option Value → xH → Prop} {l1 l2 l3 : Option Value} {x : Nat} : wp d 47 0 [some (.ref x), l1, l2, l3] st h K ↔ wp d 47 1 [some (.ref x), l1, l2, l3] (.ref x :: st) h K := w_any (i := 47) (pc := 0) dX6_pull_0 rfl rfl
theorem w47_0n {d : Nat} {st : List Value} {h : xH} {K : Option Value → xH → Prop} {l1 l2 l3 : Option Value} : wp d 47 0 [some .null, l1, l2, l3] st h K ↔ wp d 47 1 [some .null, l1, l2, l3] (.null :: st) h K := w_any (i := 47) (pc := 0) dX6_pull_0 rfl rfl
theorem dX6_pull_1 : decode cX6_pull 1 = .ok (.getfield 14, 3) := by decide +kernel
theorem w47_1 {d : Nat} {st : List Value} {h : xH} {K : Option Value → xH → Prop} {ls : xL} {a : Nat} : wp d 47 1 ls (.ref a :: st) h K ↔ y_get h a 7 0 (fun v => wp d 47 4 ls (v :: st) h K) := w_get (i := 47) (pc := 1) dX6_pull_1 rfl
theorem dX6_pull_4 : decode cX6_pull 4 = .ok (.getfield 88, 3) := by decide +kernel
theorem w47_4 {d : Nat} {st : List Value} {h : xH} {K : Option Value → xH → Prop} {ls : xL} {a : Nat} : wp d 47 4 ls (.ref a :: st) h K ↔ y_get h a 1 2 (fun v => wp d 47 7 ls (v :: st) h K) := w_get (i := 47) (pc := 4) dX6_pull_4 rfl
theorem dX6_pull_7 : decode cX6_pull 7 = .ok (.invokevirtual 91, 3) := by decide +kernel
theorem w47_7 {d : Nat} {st : List Value} {h : xH} {K : Option Value → xH → Prop} {ls : xL} {b : Nat} : wp (d + 1) 47 7 ls (.ref b :: st) h K ↔ y_cls h b 0 ∧ xcs st ≤ 8 ∧ wp d 160 0 [some (.ref b)] [] h (fun v h1 => wp (d + 1) 47 10 ls (v.toList ++ st) h1 K) := w_callW (i := 47) (pc := 7) (as := []) (rest := st) dX6_pull_7 rfl (by decide) rfl rfl (by decide) rfl rfl rfl rfl
theorem dX6_pull_10 : decode cX6_pull 10 = .ok (.iload_n 1, 1) := by decide +kernel
theorem w47_10 {d : Nat} {st : List Value} {h : xH} {K : Option Value → xH → Prop} {l0 l2 l3 : Option Value} {x : Int32} : wp d 47 10 [l0, some (.int x), l2, l3] st h K ↔ wp d 47 11 [l0, some (.int x), l2, l3] (.int x :: st) h K := w_any (i := 47) (pc := 10) dX6_pull_10 rfl rfl
theorem dX6_pull_11 : decode cX6_pull 11 = .ok (.isub, 1) := by decide +kernel
theorem w47_11 {d : Nat} {st : List Value} {h : xH} {K : Option Value → xH → Prop} {ls : xL} {x y : Int32} : wp d 47 11 ls (.int y :: .int x :: st) h K ↔ wp d 47 12 ls (.int (x - y) :: st) h K := w_any (i := 47) (pc := 11) dX6_pull_11 rfl rfl
theorem dX6_pull_12 : decode cX6_pull 12 = .ok (.istore_n 2, 1) := by decide +kernel
theorem w47_12 {d : Nat} {st : List Value} {h : xH} {K : Option Value → xH → Prop} {l0 l1 l2 l3 : Option Value} {x : Int32} : wp d 47 12 [l0, l1, l2, l3] (.int x :: st) h K ↔ wp d 47 13 [l0, xk l1, some (.int x), l3] st h K := w_istore_n (i := 47) (pc := 12) dX6_pull_12 (Nat.le_of_ble_eq_true rfl) (show xst1 [l0, l1, l2, l3] 2 (.int x) = [l0, xk l1, some (.int x), l3] by simp only [xst1_0, xst1_1, xst1_s, Nat.reduceAdd])
theorem dX6_pull_13 : decode cX6_pull 13 = .ok (.iload_n 1, 1) := by decide +kernel
theorem w47_13 {d : Nat} {st : List Value} {h : xH} {K : Option Value → xH → Prop} {l0 l2 l3 : Option Value} {x : Int32} : wp d 47 13 [l0, some (.int x), l2, l3] st h K ↔ wp d 47 14 [l0, some (.int x), l2, l3] (.int x :: st) h K := w_any (i := 47) (pc := 13) dX6_pull_13 rfl rfl
theorem dX6_pull_14 : decode cX6_pull 14 = .ok (.ifCond .lt 7, 3) := by decide +kernel
theorem w47_14 {d : Nat} {st : List Value} {h : xH} {K : Option Value → xH → Prop} {ls : xL} {x : Int32} : wp d 47 14 ls (.int x :: st) h K ↔ ((x < 0) → wp d 47 21 ls st h K) ∧ ((¬ (x < 0)) → wp d 47 17 ls st h K) := w_if1 (i := 47) (pc := 14) (cd := .lt) (off := 7) (tgt := 21) dX6_pull_14 (by decide) rfl
theorem dX6_pull_17 : decode cX6_pull 17 = .ok (.iload_n 2, 1) := by decide +kernel
theorem w47_17 {d : Nat} {st : List Value} {h : xH} {K : Option Value → xH → Prop} {l0 l1 l3 : Option Value} {x : Int32} : wp d 47 17 [l0, l1, some (.int x), l3] st h K ↔ wp d 47 18 [l0, l1, some (.int x), l3] (.int x :: st) h K := w_any (i := 47) (pc := 17) dX6_pull_17 rfl rfl
theorem dX6_pull_18 : decode cX6_pull 18 = .ok (.ifCond .ge 6, 3) := by decide +kernel
theorem w47_18 {d : Nat} {st : List Value} {h : xH} {K : Option Value → xH → Prop} {ls : xL} {x : Int32} : wp d 47 18 ls (.int x :: st) h K ↔ ((0 ≤ x) → wp d 47 24 ls st h K) ∧ ((¬ (0 ≤ x)) → wp d 47 21 ls st h K) := w_if1 (i := 47) (pc := 18) (cd := .ge) (off := 6) (tgt := 24) dX6_pull_18 (by decide) rfl
theorem dX6_pull_21 : decode cX6_pull 21 = .ok (.bipush (-2), 2) := by decide +kernel
theorem w47_21 {d : Nat} {st : List Value} {h : xH} {K : Option Value → xH → Prop} {ls : xL} : wp d 47 21 ls st h K ↔ wp d 47 23 ls (.int (-2) :: st) h K := w_bipush (i := 47) (pc := 21) dX6_pull_21 (by decide)
theorem dX6_pull_23 : decode cX6_pull 23 = .ok (.ireturn, 1) := by decide +kernel
theorem w47_23 {d : Nat} {h : xH} {K : Option Value → xH → Prop} {ls : xL} {x : Int32} : wp d 47 23 ls [.int x] h K ↔ K (some (.int x)) h := w_iret (i := 47) (pc := 23) dX6_pull_23 rfl
theorem dX6_pull_24 : decode cX6_pull 24 = .ok (.aload_n 0, 1) := by decide +kernel
theorem w47_24 {d : Nat} {st : List Value} {h : xH} {K : Option Value → xH → Prop} {l1 l2 l3 : Option Value} {x : Nat} : wp d 47 24 [some (.ref x), l1, l2, l3] st h K ↔ wp d 47 25 [some (.ref x), l1, l2, l3] (.ref x :: st) h K := w_any (i := 47) (pc := 24) dX6_pull_24 rfl rfl
theorem w47_24n {d : Nat} {st : List Value} {h : xH} {K : Option Value → xH → Prop} {l1 l2 l3 : Option Value} : wp d 47 24 [some .null, l1, l2, l3] st h K ↔ wp d 47 25 [some .null, l1, l2, l3] (.null :: st) h K := w_any (i := 47) (pc := 24) dX6_pull_24 rfl rfl
theorem dX6_pull_25 : decode cX6_pull 25 = .ok (.getfield 14, 3) := by decide +kernel
theorem w47_25 {d : Nat} {st : List Value} {h : xH} {K : Option Value → xH → Prop} {ls : xL} {a : Nat} : wp d 47 25 ls (.ref a :: st) h K ↔ y_get h a 7 0 (fun v => wp d 47 28 ls (v :: st) h K) := w_get (i := 47) (pc := 25) dX6_pull_25 rfl
theorem dX6_pull_28 : decode cX6_pull 28 = .ok (.getfield 88, 3) := by decide +kernel
theorem w47_28 {d : Nat} {st : List Value} {h : xH} {K : Option Value → xH → Prop} {ls : xL} {a : Nat} : wp d 47 28 ls (.ref a :: st) h K ↔ y_get h a 1 2 (fun v => wp d 47 31 ls (v :: st) h K) := w_get (i := 47) (pc := 28) dX6_pull_28 rfl
theorem dX6_pull_31 : decode cX6_pull 31 = .ok (.invokevirtual 91, 3) := by decide +kernel
theorem w47_31 {d : Nat} {st : List Value} {h : xH} {K : Option Value → xH → Prop} {ls : xL} {b : Nat} : wp (d + 1) 47 31 ls (.ref b :: st) h K ↔ y_cls h b 0 ∧ xcs st ≤ 8 ∧ wp d 160 0 [some (.ref b)] [] h (fun v h1 => wp (d + 1) 47 34 ls (v.toList ++ st) h1 K) := w_callW (i := 47) (pc := 31) (as := []) (rest := st) dX6_pull_31 rfl (by decide) rfl rfl (by decide) rfl rfl rfl rfl
theorem dX6_pull_34 : decode cX6_pull 34 = .ok (.iconst 1, 1) := by decide +kernel
theorem w47_34 {d : Nat} {st : List Value} {h : xH} {K : Option Value → xH → Prop} {ls : xL} : wp d 47 34 ls st h K ↔ wp d 47 35 ls (.int 1 :: st) h K := w_iconst (i := 47) (pc := 34) dX6_pull_34 (by decide)
theorem dX6_pull_35 : decode cX6_pull 35 = .ok (.isub, 1) := by decide +kernel
theorem w47_35 {d : Nat} {st : List Value} {h : xH} {K : Option Value → xH → Prop} {ls : xL} {x y : Int32} : wp d 47 35 ls (.int y :: .int x :: st) h K ↔ wp d 47 36 ls (.int (x - y) :: st) h K := w_any (i := 47) (pc := 35) dX6_pull_35 rfl rfl
theorem dX6_pull_36 : decode cX6_pull 36 = .ok (.istore_n 3, 1) := by decide +kernel
theorem w47_36 {d : Nat} {st : List Value} {h : xH} {K : Option Value → xH → Prop} {l0 l1 l2 l3 : Option Value} {x : Int32} : wp d 47 36 [l0, l1, l2, l3] (.int x :: st) h K ↔ wp d 47 37 [l0, l1, xk l2, some (.int x)] st h K := w_istore_n (i := 47) (pc := 36) dX6_pull_36 (Nat.le_of_ble_eq_true rfl) (show xst1 [l0, l1, l2, l3] 3 (.int x) = [l0, l1, xk l2, some (.int x)] by simp only [xst1_0, xst1_1, xst1_s, Nat.reduceAdd])
theorem dX6_pull_37 : decode cX6_pull 37 = .ok (.iload_n 3, 1) := by decide +kernel
theorem w47_37 {d : Nat} {st : List Value} {h : xH} {K : Option Value → xH → Prop} {l0 l1 l2 : Option Value} {x : Int32} : wp d 47 37 [l0, l1, l2, some (.int x)] st h K ↔ wp d 47 38 [l0, l1, l2, some (.int x)] (.int x :: st) h K := w_any (i := 47) (pc := 37) dX6_pull_37 rfl rfl
theorem dX6_pull_38 : decode cX6_pull 38 = .ok (.iload_n 2, 1) := by decide +kernel
theorem w47_38 {d : Nat} {st : List Value} {h : xH} {K : Option Value → xH → Prop} {l0 l1 l3 : Option Value} {x : Int32} : wp d 47 38 [l0, l1, some (.int x), l3] st h K ↔ wp d 47 39 [l0, l1, some (.int x), l3] (.int x :: st) h K := w_any (i := 47) (pc := 38) dX6_pull_38 rfl rfl
theorem dX6_pull_39 : decode cX6_pull 39 = .ok (.if_icmp .lt 21, 3) := by decide +kernel
theorem w47_39 {d : Nat} {st : List Value} {h : xH} {K : Option Value → xH → Prop} {ls : xL} {x y : Int32} : wp d 47 39 ls (.int y :: .int x :: st) h K ↔ ((x < y) → wp d 47 60 ls st h K) ∧ ((¬ (x < y)) → wp d 47 42 ls st h K) := w_if2 (i := 47) (pc := 39) (cd := .lt) (off := 21) (tgt := 60) dX6_pull_39 (by decide) rfl
theorem dX6_pull_42 : decode cX6_pull 42 = .ok (.aload_n 0, 1) := by decide +kernel
theorem w47_42 {d : Nat} {st : List Value} {h : xH} {K : Option Value → xH → Prop} {l1 l2 l3 : Option Value} {x : Nat} : wp d 47 42 [some (.ref x), l1, l2, l3] st h K ↔ wp d 47 43 [some (.ref x), l1, l2, l3] (.ref x :: st) h K := w_any (i := 47) (pc := 42) dX6_pull_42 rfl rfl
theorem w47_42n {d : Nat} {st : List Value} {h : xH} {K : Option Value → xH → Prop} {l1 l2 l3 : Option Value} : wp d 47 42 [some .null, l1, l2, l3] st h K ↔ wp d 47 43 [some .null, l1, l2, l3] (.null :: st) h K := w_any (i := 47) (pc := 42) dX6_pull_42 rfl rfl
theorem dX6_pull_43 : decode cX6_pull 43 = .ok (.getfield 14, 3) := by decide +kernel
theorem w47_43 {d : Nat} {st : List Value} {h : xH} {K : Option Value → xH → Prop} {ls : xL} {a : Nat} : wp d 47 43 ls (.ref a :: st) h K ↔ y_get h a 7 0 (fun v => wp d 47 46 ls (v :: st) h K) := w_get (i := 47) (pc := 43) dX6_pull_43 rfl
theorem dX6_pull_46 : decode cX6_pull 46 = .ok (.getfield 88, 3) := by decide +kernel
theorem w47_46 {d : Nat} {st : List Value} {h : xH} {K : Option Value → xH → Prop} {ls : xL} {a : Nat} : wp d 47 46 ls (.ref a :: st) h K ↔ y_get h a 1 2 (fun v => wp d 47 49 ls (v :: st) h K) := w_get (i := 47) (pc := 46) dX6_pull_46 rfl
theorem dX6_pull_49 : decode cX6_pull 49 = .ok (.iload_n 3, 1) := by decide +kernel
theorem w47_49 {d : Nat} {st : List Value} {h : xH} {K : Option Value → xH → Prop} {l0 l1 l2 : Option Value} {x : Int32} : wp d 47 49 [l0, l1, l2, some (.int x)] st h K ↔ wp d 47 50 [l0, l1, l2, some (.int x)] (.int x :: st) h K := w_any (i := 47) (pc := 49) dX6_pull_49 rfl rfl
theorem dX6_pull_50 : decode cX6_pull 50 = .ok (.invokevirtual 117, 3) := by decide +kernel
theorem w47_50 {d : Nat} {st : List Value} {h : xH} {K : Option Value → xH → Prop} {ls : xL} {a0 : Int32} {b : Nat} : wp (d + 1) 47 50 ls (.int a0 :: .ref b :: st) h K ↔ y_cls h b 0 ∧ xcs st ≤ 8 ∧ wp d 165 0 [some (.ref b), some (.int a0), none, none] [] h (fun v h1 => wp (d + 1) 47 53 ls (v.toList ++ st) h1 K) := w_callW (i := 47) (pc := 50) (as := [.int a0]) (rest := st) dX6_pull_50 rfl (by decide) rfl rfl (by decide) rfl rfl rfl rfl
theorem dX6_pull_53 : decode cX6_pull 53 = .ok (.pop, 1) := by decide +kernel
theorem w47_53 {d : Nat} {st : List Value} {h : xH} {K : Option Value → xH → Prop} {ls : xL} {x : Int32} : wp d 47 53 ls (.int x :: st) h K ↔ wp d 47 54 ls st h K := (w_any (i := 47) (pc := 53) dX6_pull_53 rfl rfl).trans (w_ct rfl)
theorem w47_53r {d : Nat} {st : List Value} {h : xH} {K : Option Value → xH → Prop} {ls : xL} {x : Nat} : wp d 47 53 ls (.ref x :: st) h K ↔ wp d 47 54 ls st h K := (w_any (i := 47) (pc := 53) dX6_pull_53 rfl rfl).trans (w_ct rfl)
theorem w47_53n {d : Nat} {st : List Value} {h : xH} {K : Option Value → xH → Prop} {ls : xL} : wp d 47 53 ls (.null :: st) h K ↔ wp d 47 54 ls st h K := (w_any (i := 47) (pc := 53) dX6_pull_53 rfl rfl).trans (w_ct rfl)
theorem dX6_pull_54 : decode cX6_pull 54 = .ok (.iinc 3 (-1), 3) := by decide +kernel
theorem w47_54 {d : Nat} {st : List Value} {h : xH} {K : Option Value → xH → Prop} {l0 l1 l2 : Option Value} {x : Int32} : wp d 47 54 [l0, l1, l2, some (.int x)] st h K ↔ wp d 47 57 [l0, l1, xk l2, some (.int (x + (-1)))] st h K := w_iinc (i := 47) (pc := 54) dX6_pull_54 rfl (Nat.le_of_ble_eq_true rfl) (by decide) (show xst1 [l0, l1, l2, some (.int x)] 3 (.int (x + (-1))) = [l0, l1, xk l2, some (.int (x + (-1)))] by simp only [xst1_0, xst1_1, xst1_s, Nat.reduceAdd])
theorem dX6_pull_57 : decode cX6_pull 57 = .ok (.goto (-20), 3) := by decide +kernel
theorem w47_57 {d : Nat} {st : List Value} {h : xH} {K : Option Value → xH → Prop} {ls : xL} : wp d 47 57 ls st h K ↔ wp d 47 37 ls st h K := w_goto (i := 47) (pc := 57) dX6_pull_57 (by decide) rfl
theorem dX6_pull_60 : decode cX6_pull 60 = .ok (.aload_n 0, 1) := by decide +kernel
theorem w47_60 {d : Nat} {st : List Value} {h : xH} {K : Option Value → xH → Prop} {l1 l2 l3 : Option Value} {x : Nat} : wp d 47 60 [some (.ref x), l1, l2, l3] st h K ↔ wp d 47 61 [some (.ref x), l1, l2, l3] (.ref x :: st) h K := w_any (i := 47) (pc := 60) dX6_pull_60 rfl rfl
theorem w47_60n {d : Nat} {st : List Value} {h : xH} {K : Option Value → xH → Prop} {l1 l2 l3 : Option Value} : wp d 47 60 [some .null, l1, l2, l3] st h K ↔ wp d 47 61 [some .null, l1, l2, l3] (.null :: st) h K := w_any (i := 47) (pc := 60) dX6_pull_60 rfl rfl
theorem dX6_pull_61 : decode cX6_pull 61 = .ok (.getfield 24, 3) := by decide +kernel
theorem w47_61 {d : Nat} {st : List Value} {h : xH} {K : Option Value → xH → Prop} {ls : xL} {a : Nat} : wp d 47 61 ls (.ref a :: st) h K ↔ y_get h a 7 2 (fun v => wp d 47 64 ls (v :: st) h K) := w_get (i := 47) (pc := 61) dX6_pull_61 rfl
theorem dX6_pull_64 : decode cX6_pull 64 = .ok (.invokevirtual 91, 3) := by decide +kernel
theorem w47_64 {d : Nat} {st : List Value} {h : xH} {K : Option Value → xH → Prop} {ls : xL} {b : Nat} : wp (d + 1) 47 64 ls (.ref b :: st) h K ↔ y_cls h b 0 ∧ xcs st ≤ 8 ∧ wp d 160 0 [some (.ref b)] [] h (fun v h1 => wp (d + 1) 47 67 ls (v.toList ++ st) h1 K) := w_callW (i := 47) (pc := 64) (as := []) (rest := st) dX6_pull_64 rfl (by decide) rfl rfl (by decide) rfl rfl rfl rfl
theorem dX6_pull_67 : decode cX6_pull 67 = .ok (.iconst 1, 1) := by decide +kernel
theorem w47_67 {d : Nat} {st : List Value} {h : xH} {K : Option Value → xH → Prop} {ls : xL} : wp d 47 67 ls st h K ↔ wp d 47 68 ls (.int 1 :: st) h K := w_iconst (i := 47) (pc := 67) dX6_pull_67 (by decide)
theorem dX6_pull_68 : decode cX6_pull 68 = .ok (.isub, 1) := by decide +kernel
theorem w47_68 {d : Nat} {st : List Value} {h : xH} {K : Option Value → xH → Prop} {ls : xL} {x y : Int32} : wp d 47 68 ls (.int y :: .int x :: st) h K ↔ wp d 47 69 ls (.int (x - y) :: st) h K := w_any (i := 47) (pc := 68) dX6_pull_68 rfl rfl
theorem dX6_pull_69 : decode cX6_pull 69 = .ok (.istore_n 3, 1) := by decide +kernel
theorem w47_69 {d : Nat} {st : List Value} {h : xH} {K : Option Value → xH → Prop} {l0 l1 l2 l3 : Option Value} {x : Int32} : wp d 47 69 [l0, l1, l2, l3] (.int x :: st) h K ↔ wp d 47 70 [l0, l1, xk l2, some (.int x)] st h K := w_istore_n (i := 47) (pc := 69) dX6_pull_69 (Nat.le_of_ble_eq_true rfl) (show xst1 [l0, l1, l2, l3] 3 (.int x) = [l0, l1, xk l2, some (.int x)] by simp only [xst1_0, xst1_1, xst1_s, Nat.reduceAdd])
theorem dX6_pull_70 : decode cX6_pull 70 = .ok (.iload_n 3, 1) := by decide +kernel
theorem w47_70 {d : Nat} {st : List Value} {h : xH} {K : Option Value → xH → Prop} {l0 l1 l2 : Option Value} {x : Int32} : wp d 47 70 [l0, l1, l2, some (.int x)] st h K ↔ wp d 47 71 [l0, l1, l2, some (.int x)] (.int x :: st) h K := w_any (i := 47) (pc := 70) dX6_pull_70 rfl rfl
theorem dX6_pull_71 : decode cX6_pull 71 = .ok (.ifCond .lt 36, 3) := by decide +kernel
theorem w47_71 {d : Nat} {st : List Value} {h : xH} {K : Option Value → xH → Prop} {ls : xL} {x : Int32} : wp d 47 71 ls (.int x :: st) h K ↔ ((x < 0) → wp d 47 107 ls st h K) ∧ ((¬ (x < 0)) → wp d 47 74 ls st h K) := w_if1 (i := 47) (pc := 71) (cd := .lt) (off := 36) (tgt := 107) dX6_pull_71 (by decide) rfl
theorem dX6_pull_74 : decode cX6_pull 74 = .ok (.aload_n 0, 1) := by decide +kernel
theorem w47_74 {d : Nat} {st : List Value} {h : xH} {K : Option Value → xH → Prop} {l1 l2 l3 : Option Value} {x : Nat} : wp d 47 74 [some (.ref x), l1, l2, l3] st h K ↔ wp d 47 75 [some (.ref x), l1, l2, l3] (.ref x :: st) h K := w_any (i := 47) (pc := 74) dX6_pull_74 rfl rfl
theorem w47_74n {d : Nat} {st : List Value} {h : xH} {K : Option Value → xH → Prop} {l1 l2 l3 : Option Value} : wp d 47 74 [some .null, l1, l2, l3] st h K ↔ wp d 47 75 [some .null, l1, l2, l3] (.null :: st) h K := w_any (i := 47) (pc := 74) dX6_pull_74 rfl rfl
theorem dX6_pull_75 : decode cX6_pull 75 = .ok (.getfield 24, 3) := by decide +kernel
theorem w47_75 {d : Nat} {st : List Value} {h : xH} {K : Option Value → xH → Prop} {ls : xL} {a : Nat} : wp d 47 75 ls (.ref a :: st) h K ↔ y_get h a 7 2 (fun v => wp d 47 78 ls (v :: st) h K) := w_get (i := 47) (pc := 75) dX6_pull_75 rfl
theorem dX6_pull_78 : decode cX6_pull 78 = .ok (.iload_n 3, 1) := by decide +kernel
theorem w47_78 {d : Nat} {st : List Value} {h : xH} {K : Option Value → xH → Prop} {l0 l1 l2 : Option Value} {x : Int32} : wp d 47 78 [l0, l1, l2, some (.int x)] st h K ↔ wp d 47 79 [l0, l1, l2, some (.int x)] (.int x :: st) h K := w_any (i := 47) (pc := 78) dX6_pull_78 rfl rfl
theorem dX6_pull_79 : decode cX6_pull 79 = .ok (.invokevirtual 121, 3) := by decide +kernel
theorem w47_79 {d : Nat} {st : List Value} {h : xH} {K : Option Value → xH → Prop} {ls : xL} {a0 : Int32} {b : Nat} : wp (d + 1) 47 79 ls (.int a0 :: .ref b :: st) h K ↔ y_cls h b 0 ∧ xcs st ≤ 8 ∧ wp d 162 0 [some (.ref b), some (.int a0)] [] h (fun v h1 => wp (d + 1) 47 82 ls (v.toList ++ st) h1 K) := w_callW (i := 47) (pc := 79) (as := [.int a0]) (rest := st) dX6_pull_79 rfl (by decide) rfl rfl (by decide) rfl rfl rfl rfl
theorem dX6_pull_82 : decode cX6_pull 82 = .ok (.checkcast 124, 3) := by decide +kernel
theorem dX6_pull_85 : decode cX6_pull 85 = .ok (.getfield 126, 3) := by decide +kernel
theorem dX6_pull_88 : decode cX6_pull 88 = .ok (.iload_n 2, 1) := by decide +kernel
theorem w47_88 {d : Nat} {st : List Value} {h : xH} {K : Option Value → xH → Prop} {l0 l1 l3 : Option Value} {x : Int32} : wp d 47 88 [l0, l1, some (.int x), l3] st h K ↔ wp d 47 89 [l0, l1, some (.int x), l3] (.int x :: st) h K := w_any (i := 47) (pc := 88) dX6_pull_88 rfl rfl
theorem dX6_pull_89 : decode cX6_pull 89 = .ok (.if_icmp .lt 12, 3) := by decide +kernel
theorem w47_89 {d : Nat} {st : List Value} {h : xH} {K : Option Value → xH → Prop} {ls : xL} {x y : Int32} : wp d 47 89 ls (.int y :: .int x :: st) h K ↔ ((x < y) → wp d 47 101 ls st h K) ∧ ((¬ (x < y)) → wp d 47 92 ls st h K) := w_if2 (i := 47) (pc := 89) (cd := .lt) (off := 12) (tgt := 101) dX6_pull_89 (by decide) rfl
theorem dX6_pull_92 : decode cX6_pull 92 = .ok (.aload_n 0, 1) := by decide +kernel
theorem w47_92 {d : Nat} {st : List Value} {h : xH} {K : Option Value → xH → Prop} {l1 l2 l3 : Option Value} {x : Nat} : wp d 47 92 [some (.ref x), l1, l2, l3] st h K ↔ wp d 47 93 [some (.ref x), l1, l2, l3] (.ref x :: st) h K := w_any (i := 47) (pc := 92) dX6_pull_92 rfl rfl
theorem w47_92n {d : Nat} {st : List Value} {h : xH} {K : Option Value → xH → Prop} {l1 l2 l3 : Option Value} : wp d 47 92 [some .null, l1, l2, l3] st h K ↔ wp d 47 93 [some .null, l1, l2, l3] (.null :: st) h K := w_any (i := 47) (pc := 92) dX6_pull_92 rfl rfl
theorem dX6_pull_93 : decode cX6_pull 93 = .ok (.getfield 24, 3) := by decide +kernel
theorem w47_93 {d : Nat} {st : List Value} {h : xH} {K : Option Value → xH → Prop} {ls : xL} {a : Nat} : wp d 47 93 ls (.ref a :: st) h K ↔ y_get h a 7 2 (fun v => wp d 47 96 ls (v :: st) h K) := w_get (i := 47) (pc := 93) dX6_pull_93 rfl
theorem dX6_pull_96 : decode cX6_pull 96 = .ok (.iload_n 3, 1) := by decide +kernel
theorem w47_96 {d : Nat} {st : List Value} {h : xH} {K : Option Value → xH → Prop} {l0 l1 l2 : Option Value} {x : Int32} : wp d 47 96 [l0, l1, l2, some (.int x)] st h K ↔ wp d 47 97 [l0, l1, l2, some (.int x)] (.int x :: st) h K := w_any (i := 47) (pc := 96) dX6_pull_96 rfl rfl
theorem dX6_pull_97 : decode cX6_pull 97 = .ok (.invokevirtual 117, 3) := by decide +kernel
theorem w47_97 {d : Nat} {st : List Value} {h : xH} {K : Option Value → xH → Prop} {ls : xL} {a0 : Int32} {b : Nat} : wp (d + 1) 47 97 ls (.int a0 :: .ref b :: st) h K ↔ y_cls h b 0 ∧ xcs st ≤ 8 ∧ wp d 165 0 [some (.ref b), some (.int a0), none, none] [] h (fun v h1 => wp (d + 1) 47 100 ls (v.toList ++ st) h1 K) := w_callW (i := 47) (pc := 97) (as := [.int a0]) (rest := st) dX6_pull_97 rfl (by decide) rfl rfl (by decide) rfl rfl rfl rfl
theorem dX6_pull_100 : decode cX6_pull 100 = .ok (.pop, 1) := by decide +kernel
theorem w47_100 {d : Nat} {st : List Value} {h : xH} {K : Option Value → xH → Prop} {ls : xL} {x : Int32} : wp d 47 100 ls (.int x :: st) h K ↔ wp d 47 101 ls st h K := (w_any (i := 47) (pc := 100) dX6_pull_100 rfl rfl).trans (w_ct rfl)
theorem w47_100r {d : Nat} {st : List Value} {h : xH} {K : Option Value → xH → Prop} {ls : xL} {x : Nat} : wp d 47 100 ls (.ref x :: st) h K ↔ wp d 47 101 ls st h K := (w_any (i := 47) (pc := 100) dX6_pull_100 rfl rfl).trans (w_ct rfl)
theorem w47_100n {d : Nat} {st : List Value} {h : xH} {K : Option Value → xH → Prop} {ls : xL} : wp d 47 100 ls (.null :: st) h K ↔ wp d 47 101 ls st h K := (w_any (i := 47) (pc := 100) dX6_pull_100 rfl rfl).trans (w_ct rfl)
theorem dX6_pull_101 : decode cX6_pull 101 = .ok (.iinc 3 (-1), 3) := by decide +kernel
theorem w47_101 {d : Nat} {st : List Value} {h : xH} {K : Option Value → xH → Prop} {l0 l1 l2 : Option Value} {x : Int32} : wp d 47 101 [l0, l1, l2, some (.int x)] st h K ↔ wp d 47 104 [l0, l1, xk l2, some (.int (x + (-1)))] st h K := w_iinc (i := 47) (pc := 101) dX6_pull_101 rfl (Nat.le_of_ble_eq_true rfl) (by decide) (show xst1 [l0, l1, l2, some (.int x)] 3 (.int (x + (-1))) = [l0, l1, xk l2, some (.int (x + (-1)))] by simp only [xst1_0, xst1_1, xst1_s, Nat.reduceAdd])
theorem dX6_pull_104 : decode cX6_pull 104 = .ok (.goto (-34), 3) := by decide +kernel
theorem w47_104 {d : Nat} {st : List Value} {h : xH} {K : Option Value → xH → Prop} {ls : xL} : wp d 47 104 ls st h K ↔ wp d 47 70 ls st h K := w_goto (i := 47) (pc := 104) dX6_pull_104 (by decide) rfl
theorem dX6_pull_107 : decode cX6_pull 107 = .ok (.iload_n 2, 1) := by decide +kernel
theorem w47_107 {d : Nat} {st : List Value} {h : xH} {K : Option Value → xH → Prop} {l0 l1 l3 : Option Value} {x : Int32} : wp d 47 107 [l0, l1, some (.int x), l3] st h K ↔ wp d 47 108 [l0, l1, some (.int x), l3] (.int x :: st) h K := w_any (i := 47) (pc := 107) dX6_pull_107 rfl rfl
theorem dX6_pull_108 : decode cX6_pull 108 = .ok (.ireturn, 1) := by decide +kernel
theorem w47_108 {d : Nat} {h : xH} {K : Option Value → xH → Prop} {ls : xL} {x : Int32} : wp d 47 108 ls [.int x] h K ↔ K (some (.int x)) h := w_iret (i := 47) (pc := 108) dX6_pull_108 rfl
theorem dX6_frost_0 : decode cX6_frost 0 = .ok (.iload_n 1, 1) := by decide +kernel
theorem w48_0 {d : Nat} {st : List Value} {h : xH} {K : Option Value → xH → Prop} {l0 l2 : Option Value} {x : Int32} : wp d 48 0 [l0, some (.int x), l2] st h K ↔ wp d 48 1 [l0, some (.int x), l2] (.int x :: st) h K := w_any (i := 48) (pc := 0) dX6_frost_0 rfl rfl
theorem dX6_frost_1 : decode cX6_frost 1 = .ok (.bipush 80, 2) := by decide +kernel
theorem w48_1 {d : Nat} {st : List Value} {h : xH} {K : Option Value → xH → Prop} {ls : xL} : wp d 48 1 ls st h K ↔ wp d 48 3 ls (.int 80 :: st) h K := w_bipush (i := 48) (pc := 1) dX6_frost_1 (by decide)
theorem dX6_frost_3 : decode cX6_frost 3 = .ok (.invokestatic 43, 3) := by decide +kernel
theorem w48_3 {d : Nat} {st : List Value} {h : xH} {K : Option Value → xH → Prop} {ls : xL} {a0 : Int32} {a1 : Int32} : wp (d + 1) 48 3 ls (.int a1 :: .int a0 :: st) h K ↔ xcs st ≤ 8 ∧ wp d 74 0 [some (.int a0), some (.int a1)] [] h (fun v h1 => wp (d + 1) 48 6 ls (v.toList ++ st) h1 K) := w_callS (i := 48) (pc := 3) (as := [.int a0, .int a1]) (rest := st) dX6_frost_3 rfl (by decide) rfl rfl rfl rfl rfl
theorem dX6_frost_6 : decode cX6_frost 6 = .ok (.ifCond .ne 5, 3) := by decide +kernel
theorem w48_6 {d : Nat} {st : List Value} {h : xH} {K : Option Value → xH → Prop} {ls : xL} {x : Int32} : wp d 48 6 ls (.int x :: st) h K ↔ ((¬ x = 0) → wp d 48 11 ls st h K) ∧ ((x = 0) → wp d 48 9 ls st h K) := (w_if1 (i := 48) (pc := 6) (cd := .ne) (off := 5) (tgt := 11) dX6_frost_6 (by decide) rfl).trans (and_congr Iff.rfl (imp_congr Classical.not_not Iff.rfl))
theorem dX6_frost_9 : decode cX6_frost 9 = .ok (.iconst (-1), 1) := by decide +kernel
theorem w48_9 {d : Nat} {st : List Value} {h : xH} {K : Option Value → xH → Prop} {ls : xL} : wp d 48 9 ls st h K ↔ wp d 48 10 ls (.int (-1) :: st) h K := w_iconst (i := 48) (pc := 9) dX6_frost_9 (by decide)
theorem dX6_frost_10 : decode cX6_frost 10 = .ok (.ireturn, 1) := by decide +kernel
theorem w48_10 {d : Nat} {h : xH} {K : Option Value → xH → Prop} {ls : xL} {x : Int32} : wp d 48 10 ls [.int x] h K ↔ K (some (.int x)) h := w_iret (i := 48) (pc := 10) dX6_frost_10 rfl
theorem dX6_frost_11 : decode cX6_frost 11 = .ok (.aload_n 0, 1) := by decide +kernel
theorem w48_11 {d : Nat} {st : List Value} {h : xH} {K : Option Value → xH → Prop} {l1 l2 : Option Value} {x : Nat} : wp d 48 11 [some (.ref x), l1, l2] st h K ↔ wp d 48 12 [some (.ref x), l1, l2] (.ref x :: st) h K := w_any (i := 48) (pc := 11) dX6_frost_11 rfl rfl
theorem w48_11n {d : Nat} {st : List Value} {h : xH} {K : Option Value → xH → Prop} {l1 l2 : Option Value} : wp d 48 11 [some .null, l1, l2] st h K ↔ wp d 48 12 [some .null, l1, l2] (.null :: st) h K := w_any (i := 48) (pc := 11) dX6_frost_11 rfl rfl
theorem dX6_frost_12 : decode cX6_frost 12 = .ok (.getfield 14, 3) := by decide +kernel
theorem w48_12 {d : Nat} {st : List Value} {h : xH} {K : Option Value → xH → Prop} {ls : xL} {a : Nat} : wp d 48 12 ls (.ref a :: st) h K ↔ y_get h a 7 0 (fun v => wp d 48 15 ls (v :: st) h K) := w_get (i := 48) (pc := 12) dX6_frost_12 rfl
theorem dX6_frost_15 : decode cX6_frost 15 = .ok (.getfield 65, 3) := by decide +kernel
theorem w48_15 {d : Nat} {st : List Value} {h : xH} {K : Option Value → xH → Prop} {ls : xL} {a : Nat} : wp d 48 15 ls (.ref a :: st) h K ↔ y_get h a 1 0 (fun v => wp d 48 18 ls (v :: st) h K) := w_get (i := 48) (pc := 15) dX6_frost_15 rfl
theorem dX6_frost_18 : decode cX6_frost 18 = .ok (.invokevirtual 129, 3) := by decide +kernel
theorem w48_18 {d : Nat} {st : List Value} {h : xH} {K : Option Value → xH → Prop} {ls : xL} {b : Nat} : wp (d + 1) 48 18 ls (.ref b :: st) h K ↔ y_cls h b 3 ∧ xcs st ≤ 8 ∧ wp d 17 0 [some (.ref b)] [] h (fun v h1 => wp (d + 1) 48 21 ls (v.toList ++ st) h1 K) := w_callW (i := 48) (pc := 18) (as := []) (rest := st) dX6_frost_18 rfl (by decide) rfl rfl (by decide) rfl rfl rfl rfl
theorem dX6_frost_21 : decode cX6_frost 21 = .ok (.ifCond .eq 6, 3) := by decide +kernel
theorem w48_21 {d : Nat} {st : List Value} {h : xH} {K : Option Value → xH → Prop} {ls : xL} {x : Int32} : wp d 48 21 ls (.int x :: st) h K ↔ ((x = 0) → wp d 48 27 ls st h K) ∧ ((¬ (x = 0)) → wp d 48 24 ls st h K) := w_if1 (i := 48) (pc := 21) (cd := .eq) (off := 6) (tgt := 27) dX6_frost_21 (by decide) rfl
theorem dX6_frost_24 : decode cX6_frost 24 = .ok (.bipush (-3), 2) := by decide +kernel
theorem w48_24 {d : Nat} {st : List Value} {h : xH} {K : Option Value → xH → Prop} {ls : xL} : wp d 48 24 ls st h K ↔ wp d 48 26 ls (.int (-3) :: st) h K := w_bipush (i := 48) (pc := 24) dX6_frost_24 (by decide)
theorem dX6_frost_26 : decode cX6_frost 26 = .ok (.ireturn, 1) := by decide +kernel
theorem w48_26 {d : Nat} {h : xH} {K : Option Value → xH → Prop} {ls : xL} {x : Int32} : wp d 48 26 ls [.int x] h K ↔ K (some (.int x)) h := w_iret (i := 48) (pc := 26) dX6_frost_26 rfl
theorem dX6_frost_27 : decode cX6_frost 27 = .ok (.aload_n 0, 1) := by decide +kernel
theorem w48_27 {d : Nat} {st : List Value} {h : xH} {K : Option Value → xH → Prop} {l1 l2 : Option Value} {x : Nat} : wp d 48 27 [some (.ref x), l1, l2] st h K ↔ wp d 48 28 [some (.ref x), l1, l2] (.ref x :: st) h K := w_any (i := 48) (pc := 27) dX6_frost_27 rfl rfl
theorem w48_27n {d : Nat} {st : List Value} {h : xH} {K : Option Value → xH → Prop} {l1 l2 : Option Value} : wp d 48 27 [some .null, l1, l2] st h K ↔ wp d 48 28 [some .null, l1, l2] (.null :: st) h K := w_any (i := 48) (pc := 27) dX6_frost_27 rfl rfl
theorem dX6_frost_28 : decode cX6_frost 28 = .ok (.getfield 14, 3) := by decide +kernel
theorem w48_28 {d : Nat} {st : List Value} {h : xH} {K : Option Value → xH → Prop} {ls : xL} {a : Nat} : wp d 48 28 ls (.ref a :: st) h K ↔ y_get h a 7 0 (fun v => wp d 48 31 ls (v :: st) h K) := w_get (i := 48) (pc := 28) dX6_frost_28 rfl
theorem dX6_frost_31 : decode cX6_frost 31 = .ok (.getfield 133, 3) := by decide +kernel
theorem w48_31 {d : Nat} {st : List Value} {h : xH} {K : Option Value → xH → Prop} {ls : xL} {a : Nat} : wp d 48 31 ls (.ref a :: st) h K ↔ y_get h a 1 1 (fun v => wp d 48 34 ls (v :: st) h K) := w_get (i := 48) (pc := 31) dX6_frost_31 rfl
theorem dX6_frost_34 : decode cX6_frost 34 = .ok (.iload_n 1, 1) := by decide +kernel
theorem w48_34 {d : Nat} {st : List Value} {h : xH} {K : Option Value → xH → Prop} {l0 l2 : Option Value} {x : Int32} : wp d 48 34 [l0, some (.int x), l2] st h K ↔ wp d 48 35 [l0, some (.int x), l2] (.int x :: st) h K := w_any (i := 48) (pc := 34) dX6_frost_34 rfl rfl
theorem dX6_frost_35 : decode cX6_frost 35 = .ok (.iload_n 2, 1) := by decide +kernel
theorem w48_35 {d : Nat} {st : List Value} {h : xH} {K : Option Value → xH → Prop} {l0 l1 : Option Value} {x : Int32} : wp d 48 35 [l0, l1, some (.int x)] st h K ↔ wp d 48 36 [l0, l1, some (.int x)] (.int x :: st) h K := w_any (i := 48) (pc := 35) dX6_frost_35 rfl rfl
theorem dX6_frost_36 : decode cX6_frost 36 = .ok (.invokevirtual 137, 3) := by decide +kernel
theorem w48_36 {d : Nat} {st : List Value} {h : xH} {K : Option Value → xH → Prop} {ls : xL} {a0 : Int32} {a1 : Int32} {b : Nat} : wp (d + 1) 48 36 ls (.int a1 :: .int a0 :: .ref b :: st) h K ↔ y_cls h b 2 ∧ xcs st ≤ 8 ∧ wp d 12 0 [some (.ref b), some (.int a0), some (.int a1)] [] h (fun v h1 => wp (d + 1) 48 39 ls (v.toList ++ st) h1 K) := w_callW (i := 48) (pc := 36) (as := [.int a0, .int a1]) (rest := st) dX6_frost_36 rfl (by decide) rfl rfl (by decide) rfl rfl rfl rfl
theorem dX6_frost_39 : decode cX6_frost 39 = .ok (.ifCond .eq 7, 3) := by decide +kernel
theorem w48_39 {d : Nat} {st : List Value} {h : xH} {K : Option Value → xH → Prop} {ls : xL} {x : Int32} : wp d 48 39 ls (.int x :: st) h K ↔ ((x = 0) → wp d 48 46 ls st h K) ∧ ((¬ (x = 0)) → wp d 48 42 ls st h K) := w_if1 (i := 48) (pc := 39) (cd := .eq) (off := 7) (tgt := 46) dX6_frost_39 (by decide) rfl
theorem dX6_frost_42 : decode cX6_frost 42 = .ok (.iconst 1, 1) := by decide +kernel
theorem w48_42 {d : Nat} {st : List Value} {h : xH} {K : Option Value → xH → Prop} {ls : xL} : wp d 48 42 ls st h K ↔ wp d 48 43 ls (.int 1 :: st) h K := w_iconst (i := 48) (pc := 42) dX6_frost_42 (by decide)
theorem dX6_frost_43 : decode cX6_frost 43 = .ok (.goto 4, 3) := by decide +kernel
theorem w48_43 {d : Nat} {st : List Value} {h : xH} {K : Option Value → xH → Prop} {ls : xL} : wp d 48 43 ls st h K ↔ wp d 48 47 ls st h K := w_goto (i := 48) (pc := 43) dX6_frost_43 (by decide) rfl
theorem dX6_frost_46 : decode cX6_frost 46 = .ok (.iconst 0, 1) := by decide +kernel
theorem w48_46 {d : Nat} {st : List Value} {h : xH} {K : Option Value → xH → Prop} {ls : xL} : wp d 48 46 ls st h K ↔ wp d 48 47 ls (.int 0 :: st) h K := w_iconst (i := 48) (pc := 46) dX6_frost_46 (by decide)
theorem dX6_frost_47 : decode cX6_frost 47 = .ok (.ireturn, 1) := by decide +kernel
theorem w48_47 {d : Nat} {h : xH} {K : Option Value → xH → Prop} {ls : xL} {x : Int32} : wp d 48 47 ls [.int x] h K ↔ K (some (.int x)) h := w_iret (i := 48) (pc := 47) dX6_frost_47 rfl
theorem dX6_tip_0 : decode cX6_tip 0 = .ok (.aload_n 0, 1) := by decide +kernel
theorem w49_0 {d : Nat} {st : List Value} {h : xH} {K : Option Value → xH → Prop} {l1 l2 l3 : Option Value} {x : Nat} : wp d 49 0 [some (.ref x), l1, l2, l3] st h K ↔ wp d 49 1 [some (.ref x), l1, l2, l3] (.ref x :: st) h K := w_any (i := 49) (pc := 0) dX6_tip_0 rfl rfl
theorem w49_0n {d : Nat} {st : List Value} {h : xH} {K : Option Value → xH → Prop} {l1 l2 l3 : Option Value} : wp d 49 0 [some .null, l1, l2, l3] st h K ↔ wp d 49 1 [some .null, l1, l2, l3] (.null :: st) h K := w_any (i := 49) (pc := 0) dX6_tip_0 rfl rfl
theorem dX6_tip_1 : decode cX6_tip 1 = .ok (.getfield 14, 3) := by decide +kernel
theorem w49_1 {d : Nat} {st : List Value} {h : xH} {K : Option Value → xH → Prop} {ls : xL} {a : Nat} : wp d 49 1 ls (.ref a :: st) h K ↔ y_get h a 7 0 (fun v => wp d 49 4 ls (v :: st) h K) := w_get (i := 49) (pc := 1) dX6_tip_1 rfl
theorem dX6_tip_4 : decode cX6_tip 4 = .ok (.iload_n 1, 1) := by decide +kernel
theorem w49_4 {d : Nat} {st : List Value} {h : xH} {K : Option Value → xH → Prop} {l0 l2 l3 : Option Value} {x : Int32} : wp d 49 4 [l0, some (.int x), l2, l3] st h K ↔ wp d 49 5 [l0, some (.int x), l2, l3] (.int x :: st) h K := w_any (i := 49) (pc := 4) dX6_tip_4 rfl rfl
theorem dX6_tip_5 : decode cX6_tip 5 = .ok (.invokevirtual 104, 3) := by decide +kernel
theorem w49_5 {d : Nat} {st : List Value} {h : xH} {K : Option Value → xH → Prop} {ls : xL} {a0 : Int32} {b : Nat} : wp (d + 1) 49 5 ls (.int a0 :: .ref b :: st) h K ↔ y_cls h b 1 ∧ xcs st ≤ 8 ∧ wp d 1 0 [some (.ref b), some (.int a0)] [] h (fun v h1 => wp (d + 1) 49 8 ls (v.toList ++ st) h1 K) := w_callW (i := 49) (pc := 5) (as := [.int a0]) (rest := st) dX6_tip_5 rfl (by decide) rfl rfl (by decide) rfl rfl rfl rfl
theorem dX6_tip_8 : decode cX6_tip 8 = .ok (.astore_n 3, 1) := by decide +kernel
theorem w49_8 {d : Nat} {st : List Value} {h : xH} {K : Option Value → xH → Prop} {l0 l1 l2 l3 : Option Value} {x : Nat} : wp d 49 8 [l0, l1, l2, l3] (.ref x :: st) h K ↔ wp d 49 9 [l0, l1, xk l2, some (.ref x)] st h K := w_astore_n (i := 49) (pc := 8) dX6_tip_8 (Nat.le_of_ble_eq_true rfl) (show xst1 [l0, l1, l2, l3] 3 (.ref x) = [l0, l1, xk l2, some (.ref x)] by simp only [xst1_0, xst1_1, xst1_s, Nat.reduceAdd])
theorem w49_8n {d : Nat} {st : List Value} {h : xH} {K : Option Value → xH → Prop} {l0 l1 l2 l3 : Option Value} : wp d 49 8 [l0, l1, l2, l3] (.null :: st) h K ↔ wp d 49 9 [l0, l1, xk l2, some (.null)] st h K := w_astore_nN (i := 49) (pc := 8) dX6_tip_8 (Nat.le_of_ble_eq_true rfl) (show xst1 [l0, l1, l2, l3] 3 (.null) = [l0, l1, xk l2, some (.null)] by simp only [xst1_0, xst1_1, xst1_s, Nat.reduceAdd])
theorem dX6_tip_9 : decode cX6_tip 9 = .ok (.aload_n 3, 1) := by decide +kernel
theorem w49_9 {d : Nat} {st : List Value} {h : xH} {K : Option Value → xH → Prop} {l0 l1 l2 : Option Value} {x : Nat} : wp d 49 9 [l0, l1, l2, some (.ref x)] st h K ↔ wp d 49 10 [l0, l1, l2, some (.ref x)] (.ref x :: st) h K := w_any (i := 49) (pc := 9) dX6_tip_9 rfl rfl
theorem w49_9n {d : Nat} {st : List Value} {h : xH} {K : Option Value → xH → Prop} {l0 l1 l2 : Option Value} : wp d 49 9 [l0, l1, l2, some .null] st h K ↔ wp d 49 10 [l0, l1, l2, some .null] (.null :: st) h K := w_any (i := 49) (pc := 9) dX6_tip_9 rfl rfl
theorem dX6_tip_10 : decode cX6_tip 10 = .ok (.ifnull 12, 3) := by decide +kernel
theorem w49_10 {d : Nat} {st : List Value} {h : xH} {K : Option Value → xH → Prop} {ls : xL} {x : Nat} : wp d 49 10 ls (.ref x :: st) h K ↔ wp d 49 13 ls st h K := w_ifnull (i := 49) (pc := 10) dX6_tip_10
theorem w49_10n {d : Nat} {st : List Value} {h : xH} {K : Option Value → xH → Prop} {ls : xL} : wp d 49 10 ls (.null :: st) h K ↔ wp d 49 22 ls st h K := w_ifnullN (i := 49) (pc := 10) dX6_tip_10 (by decide) rfl
theorem dX6_tip_13 : decode cX6_tip 13 = .ok (.iload_n 2, 1) := by decide +kernel
theorem w49_13 {d : Nat} {st : List Value} {h : xH} {K : Option Value → xH → Prop} {l0 l1 l3 : Option Value} {x : Int32} : wp d 49 13 [l0, l1, some (.int x), l3] st h K ↔ wp d 49 14 [l0, l1, some (.int x), l3] (.int x :: st) h K := w_any (i := 49) (pc := 13) dX6_tip_13 rfl rfl
theorem dX6_tip_14 : decode cX6_tip 14 = .ok (.bipush 80, 2) := by decide +kernel
theorem w49_14 {d : Nat} {st : List Value} {h : xH} {K : Option Value → xH → Prop} {ls : xL} : wp d 49 14 ls st h K ↔ wp d 49 16 ls (.int 80 :: st) h K := w_bipush (i := 49) (pc := 14) dX6_tip_14 (by decide)
theorem dX6_tip_16 : decode cX6_tip 16 = .ok (.invokestatic 43, 3) := by decide +kernel
theorem w49_16 {d : Nat} {st : List Value} {h : xH} {K : Option Value → xH → Prop} {ls : xL} {a0 : Int32} {a1 : Int32} : wp (d + 1) 49 16 ls (.int a1 :: .int a0 :: st) h K ↔ xcs st ≤ 8 ∧ wp d 74 0 [some (.int a0), some (.int a1)] [] h (fun v h1 => wp (d + 1) 49 19 ls (v.toList ++ st) h1 K) := w_callS (i := 49) (pc := 16) (as := [.int a0, .int a1]) (rest := st) dX6_tip_16 rfl (by decide) rfl rfl rfl rfl rfl
theorem dX6_tip_19 : decode cX6_tip 19 = .ok (.ifCond .ne 5, 3) := by decide +kernel
theorem w49_19 {d : Nat} {st : List Value} {h : xH} {K : Option Value → xH → Prop} {ls : xL} {x : Int32} : wp d 49 19 ls (.int x :: st) h K ↔ ((¬ x = 0) → wp d 49 24 ls st h K) ∧ ((x = 0) → wp d 49 22 ls st h K) := (w_if1 (i := 49) (pc := 19) (cd := .ne) (off := 5) (tgt := 24) dX6_tip_19 (by decide) rfl).trans (and_congr Iff.rfl (imp_congr Classical.not_not Iff.rfl))
theorem dX6_tip_22 : decode cX6_tip 22 = .ok (.iconst (-1), 1) := by decide +kernel
theorem w49_22 {d : Nat} {st : List Value} {h : xH} {K : Option Value → xH → Prop} {ls : xL} : wp d 49 22 ls st h K ↔ wp d 49 23 ls (.int (-1) :: st) h K := w_iconst (i := 49) (pc := 22) dX6_tip_22 (by decide)
theorem dX6_tip_23 : decode cX6_tip 23 = .ok (.ireturn, 1) := by decide +kernel
theorem w49_23 {d : Nat} {h : xH} {K : Option Value → xH → Prop} {ls : xL} {x : Int32} : wp d 49 23 ls [.int x] h K ↔ K (some (.int x)) h := w_iret (i := 49) (pc := 23) dX6_tip_23 rfl
theorem dX6_tip_24 : decode cX6_tip 24 = .ok (.aload_n 0, 1) := by decide +kernel
theorem w49_24 {d : Nat} {st : List Value} {h : xH} {K : Option Value → xH → Prop} {l1 l2 l3 : Option Value} {x : Nat} : wp d 49 24 [some (.ref x), l1, l2, l3] st h K ↔ wp d 49 25 [some (.ref x), l1, l2, l3] (.ref x :: st) h K := w_any (i := 49) (pc := 24) dX6_tip_24 rfl rfl
theorem w49_24n {d : Nat} {st : List Value} {h : xH} {K : Option Value → xH → Prop} {l1 l2 l3 : Option Value} : wp d 49 24 [some .null, l1, l2, l3] st h K ↔ wp d 49 25 [some .null, l1, l2, l3] (.null :: st) h K := w_any (i := 49) (pc := 24) dX6_tip_24 rfl rfl
theorem dX6_tip_25 : decode cX6_tip 25 = .ok (.getfield 14, 3) := by decide +kernel
theorem w49_25 {d : Nat} {st : List Value} {h : xH} {K : Option Value → xH → Prop} {ls : xL} {a : Nat} : wp d 49 25 ls (.ref a :: st) h K ↔ y_get h a 7 0 (fun v => wp d 49 28 ls (v :: st) h K) := w_get (i := 49) (pc := 25) dX6_tip_25 rfl
theorem dX6_tip_28 : decode cX6_tip 28 = .ok (.iload_n 2, 1) := by decide +kernel
theorem w49_28 {d : Nat} {st : List Value} {h : xH} {K : Option Value → xH → Prop} {l0 l1 l3 : Option Value} {x : Int32} : wp d 49 28 [l0, l1, some (.int x), l3] st h K ↔ wp d 49 29 [l0, l1, some (.int x), l3] (.int x :: st) h K := w_any (i := 49) (pc := 28) dX6_tip_28 rfl rfl
theorem dX6_tip_29 : decode cX6_tip 29 = .ok (.invokevirtual 142, 3) := by decide +kernel
theorem w49_29 {d : Nat} {st : List Value} {h : xH} {K : Option Value → xH → Prop} {ls : xL} {a0 : Int32} {b : Nat} : wp (d + 1) 49 29 ls (.int a0 :: .ref b :: st) h K ↔ y_cls h b 1 ∧ xcs st ≤ 8 ∧ wp d 3 0 [some (.ref b), some (.int a0), none, none] [] h (fun v h1 => wp (d + 1) 49 32 ls (v.toList ++ st) h1 K) := w_callW (i := 49) (pc := 29) (as := [.int a0]) (rest := st) dX6_tip_29 rfl (by decide) rfl rfl (by decide) rfl rfl rfl rfl
theorem dX6_tip_32 : decode cX6_tip 32 = .ok (.aload_n 3, 1) := by decide +kernel
theorem w49_32 {d : Nat} {st : List Value} {h : xH} {K : Option Value → xH → Prop} {l0 l1 l2 : Option Value} {x : Nat} : wp d 49 32 [l0, l1, l2, some (.ref x)] st h K ↔ wp d 49 33 [l0, l1, l2, some (.ref x)] (.ref x :: st) h K := w_any (i := 49) (pc := 32) dX6_tip_32 rfl rfl
theorem w49_32n {d : Nat} {st : List Value} {h : xH} {K : Option Value → xH → Prop} {l0 l1 l2 : Option Value} : wp d 49 32 [l0, l1, l2, some .null] st h K ↔ wp d 49 33 [l0, l1, l2, some .null] (.null :: st) h K := w_any (i := 49) (pc := 32) dX6_tip_32 rfl rfl
theorem dX6_tip_33 : decode cX6_tip 33 = .ok (.getfield 146, 3) := by decide +kernel
theorem w49_33 {d : Nat} {st : List Value} {h : xH} {K : Option Value → xH → Prop} {ls : xL} {a : Nat} : wp d 49 33 ls (.ref a :: st) h K ↔ y_get h a 6 3 (fun v => wp d 49 36 ls (v :: st) h K) := w_get (i := 49) (pc := 33) dX6_tip_33 rfl
theorem dX6_tip_36 : decode cX6_tip 36 = .ok (.ireturn, 1) := by decide +kernel
theorem w49_36 {d : Nat} {h : xH} {K : Option Value → xH → Prop} {ls : xL} {x : Int32} : wp d 49 36 ls [.int x] h K ↔ K (some (.int x)) h := w_iret (i := 49) (pc := 36) dX6_tip_36 rfl
theorem dX6_leaves_0 : decode cX6_leaves 0 = .ok (.aload_n 0, 1) := by decide +kernel
theorem w50_0 {d : Nat} {st : List Value} {h : xH} {K : Option Value → xH → Prop} {l1 l2 l3 : Option Value} {x : Nat} : wp d 50 0 [some (.ref x), l1, l2, l3] st h K ↔ wp d 50 1 [some (.ref x), l1, l2, l3] (.ref x :: st) h K := w_any (i := 50) (pc := 0) dX6_leaves_0 rfl rfl
theorem w50_0n {d : Nat} {st : List Value} {h : xH} {K : Option Value → xH → Prop} {l1 l2 l3 : Option Value} : wp d 50 0 [some .null, l1, l2, l3] st h K ↔ wp d 50 1 [some .null, l1, l2, l3] (.null :: st) h K := w_any (i := 50) (pc := 0) dX6_leaves_0 rfl rfl
theorem dX6_leaves_1 : decode cX6_leaves 1 = .ok (.getfield 14, 3) := by decide +kernel
theorem w50_1 {d : Nat} {st : List Value} {h : xH} {K : Option Value → xH → Prop} {ls : xL} {a : Nat} : wp d 50 1 ls (.ref a :: st) h K ↔ y_get h a 7 0 (fun v => wp d 50 4 ls (v :: st) h K) := w_get (i := 50) (pc := 1) dX6_leaves_1 rfl
theorem dX6_leaves_4 : decode cX6_leaves 4 = .ok (.iload_n 1, 1) := by decide +kernel
theorem w50_4 {d : Nat} {st : List Value} {h : xH} {K : Option Value → xH → Prop} {l0 l2 l3 : Option Value} {x : Int32} : wp d 50 4 [l0, some (.int x), l2, l3] st h K ↔ wp d 50 5 [l0, some (.int x), l2, l3] (.int x :: st) h K := w_any (i := 50) (pc := 4) dX6_leaves_4 rfl rfl
theorem dX6_leaves_5 : decode cX6_leaves 5 = .ok (.invokevirtual 104, 3) := by decide +kernel
theorem w50_5 {d : Nat} {st : List Value} {h : xH} {K : Option Value → xH → Prop} {ls : xL} {a0 : Int32} {b : Nat} : wp (d + 1) 50 5 ls (.int a0 :: .ref b :: st) h K ↔ y_cls h b 1 ∧ xcs st ≤ 8 ∧ wp d 1 0 [some (.ref b), some (.int a0)] [] h (fun v h1 => wp (d + 1) 50 8 ls (v.toList ++ st) h1 K) := w_callW (i := 50) (pc := 5) (as := [.int a0]) (rest := st) dX6_leaves_5 rfl (by decide) rfl rfl (by decide) rfl rfl rfl rfl
theorem dX6_leaves_8 : decode cX6_leaves 8 = .ok (.astore_n 3, 1) := by decide +kernel
theorem w50_8 {d : Nat} {st : List Value} {h : xH} {K : Option Value → xH → Prop} {l0 l1 l2 l3 : Option Value} {x : Nat} : wp d 50 8 [l0, l1, l2, l3] (.ref x :: st) h K ↔ wp d 50 9 [l0, l1, xk l2, some (.ref x)] st h K := w_astore_n (i := 50) (pc := 8) dX6_leaves_8 (Nat.le_of_ble_eq_true rfl) (show xst1 [l0, l1, l2, l3] 3 (.ref x) = [l0, l1, xk l2, some (.ref x)] by simp only [xst1_0, xst1_1, xst1_s, Nat.reduceAdd])
theorem w50_8n {d : Nat} {st : List Value} {h : xH} {K : Option Value → xH → Prop} {l0 l1 l2 l3 : Option Value} : wp d 50 8 [l0, l1, l2, l3] (.null :: st) h K ↔ wp d 50 9 [l0, l1, xk l2, some (.null)] st h K := w_astore_nN (i := 50) (pc := 8) dX6_leaves_8 (Nat.le_of_ble_eq_true rfl) (show xst1 [l0, l1, l2, l3] 3 (.null) = [l0, l1, xk l2, some (.null)] by simp only [xst1_0, xst1_1, xst1_s, Nat.reduceAdd])
theorem dX6_leaves_9 : decode cX6_leaves 9 = .ok (.aload_n 3, 1) := by decide +kernel
theorem w50_9 {d : Nat} {st : List Value} {h : xH} {K : Option Value → xH → Prop} {l0 l1 l2 : Option Value} {x : Nat} : wp d 50 9 [l0, l1, l2, some (.ref x)] st h K ↔ wp d 50 10 [l0, l1, l2, some (.ref x)] (.ref x :: st) h K := w_any (i := 50) (pc := 9) dX6_leaves_9 rfl rfl
theorem w50_9n {d : Nat} {st : List Value} {h : xH} {K : Option Value → xH → Prop} {l0 l1 l2 : Option Value} : wp d 50 9 [l0, l1, l2, some .null] st h K ↔ wp d 50 10 [l0, l1, l2, some .null] (.null :: st) h K := w_any (i := 50) (pc := 9) dX6_leaves_9 rfl rfl
theorem dX6_leaves_10 : decode cX6_leaves 10 = .ok (.ifnull 12, 3) := by decide +kernel
theorem w50_10 {d : Nat} {st : List Value} {h : xH} {K : Option Value → xH → Prop} {ls : xL} {x : Nat} : wp d 50 10 ls (.ref x :: st) h K ↔ wp d 50 13 ls st h K := w_ifnull (i := 50) (pc := 10) dX6_leaves_10
theorem w50_10n {d : Nat} {st : List Value} {h : xH} {K : Option Value → xH → Prop} {ls : xL} : wp d 50 10 ls (.null :: st) h K ↔ wp d 50 22 ls st h K := w_ifnullN (i := 50) (pc := 10) dX6_leaves_10 (by decide) rfl
theorem dX6_leaves_13 : decode cX6_leaves 13 = .ok (.iload_n 2, 1) := by decide +kernel
theorem w50_13 {d : Nat} {st : List Value} {h : xH} {K : Option Value → xH → Prop} {l0 l1 l3 : Option Value} {x : Int32} : wp d 50 13 [l0, l1, some (.int x), l3] st h K ↔ wp d 50 14 [l0, l1, some (.int x), l3] (.int x :: st) h K := w_any (i := 50) (pc := 13) dX6_leaves_13 rfl rfl
theorem dX6_leaves_14 : decode cX6_leaves 14 = .ok (.bipush 80, 2) := by decide +kernel
theorem w50_14 {d : Nat} {st : List Value} {h : xH} {K : Option Value → xH → Prop} {ls : xL} : wp d 50 14 ls st h K ↔ wp d 50 16 ls (.int 80 :: st) h K := w_bipush (i := 50) (pc := 14) dX6_leaves_14 (by decide)
theorem dX6_leaves_16 : decode cX6_leaves 16 = .ok (.invokestatic 43, 3) := by decide +kernel
theorem w50_16 {d : Nat} {st : List Value} {h : xH} {K : Option Value → xH → Prop} {ls : xL} {a0 : Int32} {a1 : Int32} : wp (d + 1) 50 16 ls (.int a1 :: .int a0 :: st) h K ↔ xcs st ≤ 8 ∧ wp d 74 0 [some (.int a0), some (.int a1)] [] h (fun v h1 => wp (d + 1) 50 19 ls (v.toList ++ st) h1 K) := w_callS (i := 50) (pc := 16) (as := [.int a0, .int a1]) (rest := st) dX6_leaves_16 rfl (by decide) rfl rfl rfl rfl rfl
theorem dX6_leaves_19 : decode cX6_leaves 19 = .ok (.ifCond .ne 7, 3) := by decide +kernel
theorem w50_19 {d : Nat} {st : List Value} {h : xH} {K : Option Value → xH → Prop} {ls : xL} {x : Int32} : wp d 50 19 ls (.int x :: st) h K ↔ ((¬ x = 0) → wp d 50 26 ls st h K) ∧ ((x = 0) → wp d 50 22 ls st h K) := (w_if1 (i := 50) (pc := 19) (cd := .ne) (off := 7) (tgt := 26) dX6_leaves_19 (by decide) rfl).trans (and_congr Iff.rfl (imp_congr Classical.not_not Iff.rfl))
theorem dX6_leaves_22 : decode cX6_leaves 22 = .ok (.ldc2_w 149, 3) := by decide +kernel
theorem w50_22 {d : Nat} {st : List Value} {h : xH} {K : Option Value → xH → Prop} {ls : xL} : wp d 50 22 ls st h K ↔ wp d 50 25 ls (.long (-9223372036854775808) :: st) h K := w_any (i := 50) (pc := 22) dX6_leaves_22 rfl rfl
theorem dX6_leaves_25 : decode cX6_leaves 25 = .ok (.lreturn, 1) := by decide +kernel
theorem w50_25 {d : Nat} {h : xH} {K : Option Value → xH → Prop} {ls : xL} {x : Int64} : wp d 50 25 ls [.long x] h K ↔ K (some (.long x)) h := w_lret (i := 50) (pc := 25) dX6_leaves_25 rfl
theorem dX6_leaves_26 : decode cX6_leaves 26 = .ok (.aload_n 0, 1) := by decide +kernel
theorem w50_26 {d : Nat} {st : List Value} {h : xH} {K : Option Value → xH → Prop} {l1 l2 l3 : Option Value} {x : Nat} : wp d 50 26 [some (.ref x), l1, l2, l3] st h K ↔ wp d 50 27 [some (.ref x), l1, l2, l3] (.ref x :: st) h K := w_any (i := 50) (pc := 26) dX6_leaves_26 rfl rfl
theorem w50_26n {d : Nat} {st : List Value} {h : xH} {K : Option Value → xH → Prop} {l1 l2 l3 : Option Value} : wp d 50 26 [some .null, l1, l2, l3] st h K ↔ wp d 50 27 [some .null, l1, l2, l3] (.null :: st) h K := w_any (i := 50) (pc := 26) dX6_leaves_26 rfl rfl
theorem dX6_leaves_27 : decode cX6_leaves 27 = .ok (.getfield 14, 3) := by decide +kernel
theorem w50_27 {d : Nat} {st : List Value} {h : xH} {K : Option Value → xH → Prop} {ls : xL} {a : Nat} : wp d 50 27 ls (.ref a :: st) h K ↔ y_get h a 7 0 (fun v => wp d 50 30 ls (v :: st) h K) := w_get (i := 50) (pc := 27) dX6_leaves_27 rfl
theorem dX6_leaves_30 : decode cX6_leaves 30 = .ok (.iload_n 2, 1) := by decide +kernel
theorem w50_30 {d : Nat} {st : List Value} {h : xH} {K : Option Value → xH → Prop} {l0 l1 l3 : Option Value} {x : Int32} : wp d 50 30 [l0, l1, some (.int x), l3] st h K ↔ wp d 50 31 [l0, l1, some (.int x), l3] (.int x :: st) h K := w_any (i := 50) (pc := 30) dX6_leaves_30 rfl rfl
theorem dX6_leaves_31 : decode cX6_leaves 31 = .ok (.invokevirtual 142, 3) := by decide +kernel
theorem w50_31 {d : Nat} {st : List Value} {h : xH} {K : Option Value → xH → Prop} {ls : xL} {a0 : Int32} {b : Nat} : wp (d + 1) 50 31 ls (.int a0 :: .ref b :: st) h K ↔ y_cls h b 1 ∧ xcs st ≤ 8 ∧ wp d 3 0 [some (.ref b), some (.int a0), none, none] [] h (fun v h1 => wp (d + 1) 50 34 ls (v.toList ++ st) h1 K) := w_callW (i := 50) (pc := 31) (as := [.int a0]) (rest := st) dX6_leaves_31 rfl (by decide) rfl rfl (by decide) rfl rfl rfl rfl
theorem dX6_leaves_34 : decode cX6_leaves 34 = .ok (.aload_n 3, 1) := by decide +kernel
theorem w50_34 {d : Nat} {st : List Value} {h : xH} {K : Option Value → xH → Prop} {l0 l1 l2 : Option Value} {x : Nat} : wp d 50 34 [l0, l1, l2, some (.ref x)] st h K ↔ wp d 50 35 [l0, l1, l2, some (.ref x)] (.ref x :: st) h K := w_any (i := 50) (pc := 34) dX6_leaves_34 rfl rfl
theorem w50_34n {d : Nat} {st : List Value} {h : xH} {K : Option Value → xH → Prop} {l0 l1 l2 : Option Value} : wp d 50 34 [l0, l1, l2, some .null] st h K ↔ wp d 50 35 [l0, l1, l2, some .null] (.null :: st) h K := w_any (i := 50) (pc := 34) dX6_leaves_34 rfl rfl
theorem dX6_leaves_35 : decode cX6_leaves 35 = .ok (.getfield 151, 3) := by decide +kernel
theorem w50_35 {d : Nat} {st : List Value} {h : xH} {K : Option Value → xH → Prop} {ls : xL} {a : Nat} : wp d 50 35 ls (.ref a :: st) h K ↔ y_get h a 6 8 (fun v => wp d 50 38 ls (v :: st) h K) := w_get (i := 50) (pc := 35) dX6_leaves_35 rfl
theorem dX6_leaves_38 : decode cX6_leaves 38 = .ok (.lreturn, 1) := by decide +kernel
theorem w50_38 {d : Nat} {h : xH} {K : Option Value → xH → Prop} {ls : xL} {x : Int64} : wp d 50 38 ls [.long x] h K ↔ K (some (.long x)) h := w_lret (i := 50) (pc := 38) dX6_leaves_38 rfl
theorem dX6_doubts_0 : decode cX6_doubts 0 = .ok (.aload_n 0, 1) := by decide +kernel
theorem w51_0 {d : Nat} {st : List Value} {h : xH} {K : Option Value → xH → Prop} {l1 l2 l3 : Option Value} {x : Nat} : wp d 51 0 [some (.ref x), l1, l2, l3] st h K ↔ wp d 51 1 [some (.ref x), l1, l2, l3] (.ref x :: st) h K := w_any (i := 51) (pc := 0) dX6_doubts_0 rfl rfl
theorem w51_0n {d : Nat} {st : List Value} {h : xH} {K : Option Value → xH → Prop} {l1 l2 l3 : Option Value} : wp d 51 0 [some .null, l1, l2, l3] st h K ↔ wp d 51 1 [some .null, l1, l2, l3] (.null :: st) h K := w_any (i := 51) (pc := 0) dX6_doubts_0 rfl rfl
theorem dX6_doubts_1 : decode cX6_doubts 1 = .ok (.getfield 14, 3) := by decide +kernel
theorem w51_1 {d : Nat} {st : List Value} {h : xH} {K : Option Value → xH → Prop} {ls : xL} {a : Nat} : wp d 51 1 ls (.ref a :: st) h K ↔ y_get h a 7 0 (fun v => wp d 51 4 ls (v :: st) h K) := w_get (i := 51) (pc := 1) dX6_doubts_1 rfl
theorem dX6_doubts_4 : decode cX6_doubts 4 = .ok (.iload_n 1, 1) := by decide +kernel
theorem w51_4 {d : Nat} {st : List Value} {h : xH} {K : Option Value → xH → Prop} {l0 l2 l3 : Option Value} {x : Int32} : wp d 51 4 [l0, some (.int x), l2, l3] st h K ↔ wp d 51 5 [l0, some (.int x), l2, l3] (.int x :: st) h K := w_any (i := 51) (pc := 4) dX6_doubts_4 rfl rfl
theorem dX6_doubts_5 : decode cX6_doubts 5 = .ok (.invokevirtual 104, 3) := by decide +kernel
theorem w51_5 {d : Nat} {st : List Value} {h : xH} {K : Option Value → xH → Prop} {ls : xL} {a0 : Int32} {b : Nat} : wp (d + 1) 51 5 ls (.int a0 :: .ref b :: st) h K ↔ y_cls h b 1 ∧ xcs st ≤ 8 ∧ wp d 1 0 [some (.ref b), some (.int a0)] [] h (fun v h1 => wp (d + 1) 51 8 ls (v.toList ++ st) h1 K) := w_callW (i := 51) (pc := 5) (as := [.int a0]) (rest := st) dX6_doubts_5 rfl (by decide) rfl rfl (by decide) rfl rfl rfl rfl
theorem dX6_doubts_8 : decode cX6_doubts 8 = .ok (.astore_n 3, 1) := by decide +kernel
theorem w51_8 {d : Nat} {st : List Value} {h : xH} {K : Option Value → xH → Prop} {l0 l1 l2 l3 : Option Value} {x : Nat} : wp d 51 8 [l0, l1, l2, l3] (.ref x :: st) h K ↔ wp d 51 9 [l0, l1, xk l2, some (.ref x)] st h K := w_astore_n (i := 51) (pc := 8) dX6_doubts_8 (Nat.le_of_ble_eq_true rfl) (show xst1 [l0, l1, l2, l3] 3 (.ref x) = [l0, l1, xk l2, some (.ref x)] by simp only [xst1_0, xst1_1, xst1_s, Nat.reduceAdd])
theorem w51_8n {d : Nat} {st : List Value} {h : xH} {K : Option Value → xH → Prop} {l0 l1 l2 l3 : Option Value} : wp d 51 8 [l0, l1, l2, l3] (.null :: st) h K ↔ wp d 51 9 [l0, l1, xk l2, some (.null)] st h K := w_astore_nN (i := 51) (pc := 8) dX6_doubts_8 (Nat.le_of_ble_eq_true rfl) (show xst1 [l0, l1, l2, l3] 3 (.null) = [l0, l1, xk l2, some (.null)] by simp only [xst1_0, xst1_1, xst1_s, Nat.reduceAdd])
theorem dX6_doubts_9 : decode cX6_doubts 9 = .ok (.aload_n 3, 1) := by decide +kernel
theorem w51_9 {d : Nat} {st : List Value} {h : xH} {K : Option Value → xH → Prop} {l0 l1 l2 : Option Value} {x : Nat} : wp d 51 9 [l0, l1, l2, some (.ref x)] st h K ↔ wp d 51 10 [l0, l1, l2, some (.ref x)] (.ref x :: st) h K := w_any (i := 51) (pc := 9) dX6_doubts_9 rfl rfl
theorem w51_9n {d : Nat} {st : List Value} {h : xH} {K : Option Value → xH → Prop} {l0 l1 l2 : Option Value} : wp d 51 9 [l0, l1, l2, some .null] st h K ↔ wp d 51 10 [l0, l1, l2, some .null] (.null :: st) h K := w_any (i := 51) (pc := 9) dX6_doubts_9 rfl rfl
theorem dX6_doubts_10 : decode cX6_doubts 10 = .ok (.ifnull 12, 3) := by decide +kernel
theorem w51_10 {d : Nat} {st : List Value} {h : xH} {K : Option Value → xH → Prop} {ls : xL} {x : Nat} : wp d 51 10 ls (.ref x :: st) h K ↔ wp d 51 13 ls st h K := w_ifnull (i := 51) (pc := 10) dX6_doubts_10
theorem w51_10n {d : Nat} {st : List Value} {h : xH} {K : Option Value → xH → Prop} {ls : xL} : wp d 51 10 ls (.null :: st) h K ↔ wp d 51 22 ls st h K := w_ifnullN (i := 51) (pc := 10) dX6_doubts_10 (by decide) rfl
theorem dX6_doubts_13 : decode cX6_doubts 13 = .ok (.iload_n 2, 1) := by decide +kernel
theorem w51_13 {d : Nat} {st : List Value} {h : xH} {K : Option Value → xH → Prop} {l0 l1 l3 : Option Value} {x : Int32} : wp d 51 13 [l0, l1, some (.int x), l3] st h K ↔ wp d 51 14 [l0, l1, some (.int x), l3] (.int x :: st) h K := w_any (i := 51) (pc := 13) dX6_doubts_13 rfl rfl
theorem dX6_doubts_14 : decode cX6_doubts 14 = .ok (.bipush 80, 2) := by decide +kernel
theorem w51_14 {d : Nat} {st : List Value} {h : xH} {K : Option Value → xH → Prop} {ls : xL} : wp d 51 14 ls st h K ↔ wp d 51 16 ls (.int 80 :: st) h K := w_bipush (i := 51) (pc := 14) dX6_doubts_14 (by decide)
theorem dX6_doubts_16 : decode cX6_doubts 16 = .ok (.invokestatic 43, 3) := by decide +kernel
theorem w51_16 {d : Nat} {st : List Value} {h : xH} {K : Option Value → xH → Prop} {ls : xL} {a0 : Int32} {a1 : Int32} : wp (d + 1) 51 16 ls (.int a1 :: .int a0 :: st) h K ↔ xcs st ≤ 8 ∧ wp d 74 0 [some (.int a0), some (.int a1)] [] h (fun v h1 => wp (d + 1) 51 19 ls (v.toList ++ st) h1 K) := w_callS (i := 51) (pc := 16) (as := [.int a0, .int a1]) (rest := st) dX6_doubts_16 rfl (by decide) rfl rfl rfl rfl rfl
theorem dX6_doubts_19 : decode cX6_doubts 19 = .ok (.ifCond .ne 5, 3) := by decide +kernel
theorem w51_19 {d : Nat} {st : List Value} {h : xH} {K : Option Value → xH → Prop} {ls : xL} {x : Int32} : wp d 51 19 ls (.int x :: st) h K ↔ ((¬ x = 0) → wp d 51 24 ls st h K) ∧ ((x = 0) → wp d 51 22 ls st h K) := (w_if1 (i := 51) (pc := 19) (cd := .ne) (off := 5) (tgt := 24) dX6_doubts_19 (by decide) rfl).trans (and_congr Iff.rfl (imp_congr Classical.not_not Iff.rfl))
theorem dX6_doubts_22 : decode cX6_doubts 22 = .ok (.iconst (-1), 1) := by decide +kernel
theorem w51_22 {d : Nat} {st : List Value} {h : xH} {K : Option Value → xH → Prop} {ls : xL} : wp d 51 22 ls st h K ↔ wp d 51 23 ls (.int (-1) :: st) h K := w_iconst (i := 51) (pc := 22) dX6_doubts_22 (by decide)
theorem dX6_doubts_23 : decode cX6_doubts 23 = .ok (.ireturn, 1) := by decide +kernel
theorem w51_23 {d : Nat} {h : xH} {K : Option Value → xH → Prop} {ls : xL} {x : Int32} : wp d 51 23 ls [.int x] h K ↔ K (some (.int x)) h := w_iret (i := 51) (pc := 23) dX6_doubts_23 rfl
theorem dX6_doubts_24 : decode cX6_doubts 24 = .ok (.aload_n 0, 1) := by decide +kernel
theorem w51_24 {d : Nat} {st : List Value} {h : xH} {K : Option Value → xH → Prop} {l1 l2 l3 : Option Value} {x : Nat} : wp d 51 24 [some (.ref x), l1, l2, l3] st h K ↔ wp d 51 25 [some (.ref x), l1, l2, l3] (.ref x :: st) h K := w_any (i := 51) (pc := 24) dX6_doubts_24 rfl rfl
theorem w51_24n {d : Nat} {st : List Value} {h : xH} {K : Option Value → xH → Prop} {l1 l2 l3 : Option Value} : wp d 51 24 [some .null, l1, l2, l3] st h K ↔ wp d 51 25 [some .null, l1, l2, l3] (.null :: st) h K := w_any (i := 51) (pc := 24) dX6_doubts_24 rfl rfl
theorem dX6_doubts_25 : decode cX6_doubts 25 = .ok (.getfield 14, 3) := by decide +kernel
theorem w51_25 {d : Nat} {st : List Value} {h : xH} {K : Option Value → xH → Prop} {ls : xL} {a : Nat} : wp d 51 25 ls (.ref a :: st) h K ↔ y_get h a 7 0 (fun v => wp d 51 28 ls (v :: st) h K) := w_get (i := 51) (pc := 25) dX6_doubts_25 rfl
theorem dX6_doubts_28 : decode cX6_doubts 28 = .ok (.iload_n 2, 1) := by decide +kernel
theorem w51_28 {d : Nat} {st : List Value} {h : xH} {K : Option Value → xH → Prop} {l0 l1 l3 : Option Value} {x : Int32} : wp d 51 28 [l0, l1, some (.int x), l3] st h K ↔ wp d 51 29 [l0, l1, some (.int x), l3] (.int x :: st) h K := w_any (i := 51) (pc := 28) dX6_doubts_28 rfl rfl
theorem dX6_doubts_29 : decode cX6_doubts 29 = .ok (.invokevirtual 142, 3) := by decide +kernel
theorem w51_29 {d : Nat} {st : List Value} {h : xH} {K : Option Value → xH → Prop} {ls : xL} {a0 : Int32} {b : Nat} : wp (d + 1) 51 29 ls (.int a0 :: .ref b :: st) h K ↔ y_cls h b 1 ∧ xcs st ≤ 8 ∧ wp d 3 0 [some (.ref b), some (.int a0), none, none] [] h (fun v h1 => wp (d + 1) 51 32 ls (v.toList ++ st) h1 K) := w_callW (i := 51) (pc := 29) (as := [.int a0]) (rest := st) dX6_doubts_29 rfl (by decide) rfl rfl (by decide) rfl rfl rfl rfl
theorem dX6_doubts_32 : decode cX6_doubts 32 = .ok (.aload_n 3, 1) := by decide +kernel
theorem w51_32 {d : Nat} {st : List Value} {h : xH} {K : Option Value → xH → Prop} {l0 l1 l2 : Option Value} {x : Nat} : wp d 51 32 [l0, l1, l2, some (.ref x)] st h K ↔ wp d 51 33 [l0, l1, l2, some (.ref x)] (.ref x :: st) h K := w_any (i := 51) (pc := 32) dX6_doubts_32 rfl rfl
theorem w51_32n {d : Nat} {st : List Value} {h : xH} {K : Option Value → xH → Prop} {l0 l1 l2 : Option Value} : wp d 51 32 [l0, l1, l2, some .null] st h K ↔ wp d 51 33 [l0, l1, l2, some .null] (.null :: st) h K := w_any (i := 51) (pc := 32) dX6_doubts_32 rfl rfl
theorem dX6_doubts_33 : decode cX6_doubts 33 = .ok (.getfield 155, 3) := by decide +kernel
theorem w51_33 {d : Nat} {st : List Value} {h : xH} {K : Option Value → xH → Prop} {ls : xL} {a : Nat} : wp d 51 33 ls (.ref a :: st) h K ↔ y_get h a 6 5 (fun v => wp d 51 36 ls (v :: st) h K) := w_get (i := 51) (pc := 33) dX6_doubts_33 rfl
theorem dX6_doubts_36 : decode cX6_doubts 36 = .ok (.ireturn, 1) := by decide +kernel
theorem w51_36 {d : Nat} {h : xH} {K : Option Value → xH → Prop} {ls : xL} {x : Int32} : wp d 51 36 ls [.int x] h K ↔ K (some (.int x)) h := w_iret (i := 51) (pc := 36) dX6_doubts_36 rfl
theorem dX6_ends_0 : decode cX6_ends 0 = .ok (.aload_n 0, 1) := by decide +kernel
theorem w52_0 {d : Nat} {st : List Value} {h : xH} {K : Option Value → xH → Prop} {l1 l2 l3 : Option Value} {x : Nat} : wp d 52 0 [some (.ref x), l1, l2, l3] st h K ↔ wp d 52 1 [some (.ref x), l1, l2, l3] (.ref x :: st) h K := w_any (i := 52) (pc := 0) dX6_ends_0 rfl rfl
theorem w52_0n {d : Nat} {st : List Value} {h : xH} {K : Option Value → xH → Prop} {l1 l2 l3 : Option Value} : wp d 52 0 [some .null, l1, l2, l3] st h K ↔ wp d 52 1 [some .null, l1, l2, l3] (.null :: st) h K := w_any (i := 52) (pc := 0) dX6_ends_0 rfl rfl
theorem dX6_ends_1 : decode cX6_ends 1 = .ok (.getfield 14, 3) := by decide +kernel
theorem w52_1 {d : Nat} {st : List Value} {h : xH} {K : Option Value → xH → Prop} {ls : xL} {a : Nat} : wp d 52 1 ls (.ref a :: st) h K ↔ y_get h a 7 0 (fun v => wp d 52 4 ls (v :: st) h K) := w_get (i := 52) (pc := 1) dX6_ends_1 rfl
theorem dX6_ends_4 : decode cX6_ends 4 = .ok (.iload_n 1, 1) := by decide +kernel
theorem w52_4 {d : Nat} {st : List Value} {h : xH} {K : Option Value → xH → Prop} {l0 l2 l3 : Option Value} {x : Int32} : wp d 52 4 [l0, some (.int x), l2, l3] st h K ↔ wp d 52 5 [l0, some (.int x), l2, l3] (.int x :: st) h K := w_any (i := 52) (pc := 4) dX6_ends_4 rfl rfl
theorem dX6_ends_5 : decode cX6_ends 5 = .ok (.invokevirtual 104, 3) := by decide +kernel
theorem w52_5 {d : Nat} {st : List Value} {h : xH} {K : Option Value → xH → Prop} {ls : xL} {a0 : Int32} {b : Nat} : wp (d + 1) 52 5 ls (.int a0 :: .ref b :: st) h K ↔ y_cls h b 1 ∧ xcs st ≤ 8 ∧ wp d 1 0 [some (.ref b), some (.int a0)] [] h (fun v h1 => wp (d + 1) 52 8 ls (v.toList ++ st) h1 K) := w_callW (i := 52) (pc := 5) (as := [.int a0]) (rest := st) dX6_ends_5 rfl (by decide) rfl rfl (by decide) rfl rfl rfl rfl
theorem dX6_ends_8 : decode cX6_ends 8 = .ok (.astore_n 3, 1) := by decide +kernel
theorem w52_8 {d : Nat} {st : List Value} {h : xH} {K : Option Value → xH → Prop} {l0 l1 l2 l3 : Option Value} {x : Nat} : wp d 52 8 [l0, l1, l2, l3] (.ref x :: st) h K ↔ wp d 52 9 [l0, l1, xk l2, some (.ref x)] st h K := w_astore_n (i := 52) (pc := 8) dX6_ends_8 (Nat.le_of_ble_eq_true rfl) (show xst1 [l0, l1, l2, l3] 3 (.ref x) = [l0, l1, xk l2, some (.ref x)] by simp only [xst1_0, xst1_1, xst1_s, Nat.reduceAdd])
theorem w52_8n {d : Nat} {st : List Value} {h : xH} {K : Option Value → xH → Prop} {l0 l1 l2 l3 : Option Value} : wp d 52 8 [l0, l1, l2, l3] (.null :: st) h K ↔ wp d 52 9 [l0, l1, xk l2, some (.null)] st h K := w_astore_nN (i := 52) (pc := 8) dX6_ends_8 (Nat.le_of_ble_eq_true rfl) (show xst1 [l0, l1, l2, l3] 3 (.null) = [l0, l1, xk l2, some (.null)] by simp only [xst1_0, xst1_1, xst1_s, Nat.reduceAdd])
theorem dX6_ends_9 : decode cX6_ends 9 = .ok (.aload_n 3, 1) := by decide +kernel
theorem w52_9 {d : Nat} {st : List Value} {h : xH} {K : Option Value → xH → Prop} {l0 l1 l2 : Option Value} {x : Nat} : wp d 52 9 [l0, l1, l2, some (.ref x)] st h K ↔ wp d 52 10 [l0, l1, l2, some (.ref x)] (.ref x :: st) h K := w_any (i := 52) (pc := 9) dX6_ends_9 rfl rfl
theorem w52_9n {d : Nat} {st : List Value} {h : xH} {K : Option Value → xH → Prop} {l0 l1 l2 : Option Value} : wp d 52 9 [l0, l1, l2, some .null] st h K ↔ wp d 52 10 [l0, l1, l2, some .null] (.null :: st) h K := w_any (i := 52) (pc := 9) dX6_ends_9 rfl rfl
theorem dX6_ends_10 : decode cX6_ends 10 = .ok (.ifnonnull 5, 3) := by decide +kernel
theorem w52_10 {d : Nat} {st : List Value} {h : xH} {K : Option Value → xH → Prop} {ls : xL} {x : Nat} : wp d 52 10 ls (.ref x :: st) h K ↔ wp d 52 15 ls st h K := w_ifnonnull (i := 52) (pc := 10) dX6_ends_10 (by decide) rfl
theorem w52_10n {d : Nat} {st : List Value} {h : xH} {K : Option Value → xH → Prop} {ls : xL} : wp d 52 10 ls (.null :: st) h K ↔ wp d 52 13 ls st h K := w_ifnonnullN (i := 52) (pc := 10) dX6_ends_10
theorem dX6_ends_13 : decode cX6_ends 13 = .ok (.iconst (-1), 1) := by decide +kernel
theorem w52_13 {d : Nat} {st : List Value} {h : xH} {K : Option Value → xH → Prop} {ls : xL} : wp d 52 13 ls st h K ↔ wp d 52 14 ls (.int (-1) :: st) h K := w_iconst (i := 52) (pc := 13) dX6_ends_13 (by decide)
theorem dX6_ends_14 : decode cX6_ends 14 = .ok (.ireturn, 1) := by decide +kernel
theorem w52_14 {d : Nat} {h : xH} {K : Option Value → xH → Prop} {ls : xL} {x : Int32} : wp d 52 14 ls [.int x] h K ↔ K (some (.int x)) h := w_iret (i := 52) (pc := 14) dX6_ends_14 rfl
theorem dX6_ends_15 : decode cX6_ends 15 = .ok (.iload_n 2, 1) := by decide +kernel
theorem w52_15 {d : Nat} {st : List Value} {h : xH} {K : Option Value → xH → Prop} {l0 l1 l3 : Option Value} {x : Int32} : wp d 52 15 [l0, l1, some (.int x), l3] st h K ↔ wp d 52 16 [l0, l1, some (.int x), l3] (.int x :: st) h K := w_any (i := 52) (pc := 15) dX6_ends_15 rfl rfl
theorem dX6_ends_16 : decode cX6_ends 16 = .ok (.iconst 2, 1) := by decide +kernel
theorem w52_16 {d : Nat} {st : List Value} {h : xH} {K : Option Value → xH → Prop} {ls : xL} : wp d 52 16 ls st h K ↔ wp d 52 17 ls (.int 2 :: st) h K := w_iconst (i := 52) (pc := 16) dX6_ends_16 (by decide)
theorem dX6_ends_17 : decode cX6_ends 17 = .ok (.invokestatic 43, 3) := by decide +kernel
theorem w52_17 {d : Nat} {st : List Value} {h : xH} {K : Option Value → xH → Prop} {ls : xL} {a0 : Int32} {a1 : Int32} : wp (d + 1) 52 17 ls (.int a1 :: .int a0 :: st) h K ↔ xcs st ≤ 8 ∧ wp d 74 0 [some (.int a0), some (.int a1)] [] h (fun v h1 => wp (d + 1) 52 20 ls (v.toList ++ st) h1 K) := w_callS (i := 52) (pc := 17) (as := [.int a0, .int a1]) (rest := st) dX6_ends_17 rfl (by decide) rfl rfl rfl rfl rfl
theorem dX6_ends_20 : decode cX6_ends 20 = .ok (.ifCond .ne 6, 3) := by decide +kernel
theorem w52_20 {d : Nat} {st : List Value} {h : xH} {K : Option Value → xH → Prop} {ls : xL} {x : Int32} : wp d 52 20 ls (.int x :: st) h K ↔ ((¬ x = 0) → wp d 52 26 ls st h K) ∧ ((x = 0) → wp d 52 23 ls st h K) := (w_if1 (i := 52) (pc := 20) (cd := .ne) (off := 6) (tgt := 26) dX6_ends_20 (by decide) rfl).trans (and_congr Iff.rfl (imp_congr Classical.not_not Iff.rfl))
theorem dX6_ends_23 : decode cX6_ends 23 = .ok (.bipush (-2), 2) := by decide +kernel
theorem w52_23 {d : Nat} {st : List Value} {h : xH} {K : Option Value → xH → Prop} {ls : xL} : wp d 52 23 ls st h K ↔ wp d 52 25 ls (.int (-2) :: st) h K := w_bipush (i := 52) (pc := 23) dX6_ends_23 (by decide)
theorem dX6_ends_25 : decode cX6_ends 25 = .ok (.ireturn, 1) := by decide +kernel
theorem w52_25 {d : Nat} {h : xH} {K : Option Value → xH → Prop} {ls : xL} {x : Int32} : wp d 52 25 ls [.int x] h K ↔ K (some (.int x)) h := w_iret (i := 52) (pc := 25) dX6_ends_25 rfl
theorem dX6_ends_26 : decode cX6_ends 26 = .ok (.aload_n 0, 1) := by decide +kernel
theorem w52_26 {d : Nat} {st : List Value} {h : xH} {K : Option Value → xH → Prop} {l1 l2 l3 : Option Value} {x : Nat} : wp d 52 26 [some (.ref x), l1, l2, l3] st h K ↔ wp d 52 27 [some (.ref x), l1, l2, l3] (.ref x :: st) h K := w_any (i := 52) (pc := 26) dX6_ends_26 rfl rfl
theorem w52_26n {d : Nat} {st : List Value} {h : xH} {K : Option Value → xH → Prop} {l1 l2 l3 : Option Value} : wp d 52 26 [some .null, l1, l2, l3] st h K ↔ wp d 52 27 [some .null, l1, l2, l3] (.null :: st) h K := w_any (i := 52) (pc := 26) dX6_ends_26 rfl rfl
theorem dX6_ends_27 : decode cX6_ends 27 = .ok (.getfield 14, 3) := by decide +kernel
theorem w52_27 {d : Nat} {st : List Value} {h : xH} {K : Option Value → xH → Prop} {ls : xL} {a : Nat} : wp d 52 27 ls (.ref a :: st) h K ↔ y_get h a 7 0 (fun v => wp d 52 30 ls (v :: st) h K) := w_get (i := 52) (pc := 27) dX6_ends_27 rfl
theorem dX6_ends_30 : decode cX6_ends 30 = .ok (.bipush 79, 2) := by decide +kernel
theorem w52_30 {d : Nat} {st : List Value} {h : xH} {K : Option Value → xH → Prop} {ls : xL} : wp d 52 30 ls st h K ↔ wp d 52 32 ls (.int 79 :: st) h K := w_bipush (i := 52) (pc := 30) dX6_ends_30 (by decide)
theorem dX6_ends_32 : decode cX6_ends 32 = .ok (.invokevirtual 142, 3) := by decide +kernel
theorem w52_32 {d : Nat} {st : List Value} {h : xH} {K : Option Value → xH → Prop} {ls : xL} {a0 : Int32} {b : Nat} : wp (d + 1) 52 32 ls (.int a0 :: .ref b :: st) h K ↔ y_cls h b 1 ∧ xcs st ≤ 8 ∧ wp d 3 0 [some (.ref b), some (.int a0), none, none] [] h (fun v h1 => wp (d + 1) 52 35 ls (v.toList ++ st) h1 K) := w_callW (i := 52) (pc := 32) (as := [.int a0]) (rest := st) dX6_ends_32 rfl (by decide) rfl rfl (by decide) rfl rfl rfl rfl
theorem dX6_ends_35 : decode cX6_ends 35 = .ok (.aload_n 0, 1) := by decide +kernel
theorem w52_35 {d : Nat} {st : List Value} {h : xH} {K : Option Value → xH → Prop} {l1 l2 l3 : Option Value} {x : Nat} : wp d 52 35 [some (.ref x), l1, l2, l3] st h K ↔ wp d 52 36 [some (.ref x), l1, l2, l3] (.ref x :: st) h K := w_any (i := 52) (pc := 35) dX6_ends_35 rfl rfl
theorem w52_35n {d : Nat} {st : List Value} {h : xH} {K : Option Value → xH → Prop} {l1 l2 l3 : Option Value} : wp d 52 35 [some .null, l1, l2, l3] st h K ↔ wp d 52 36 [some .null, l1, l2, l3] (.null :: st) h K := w_any (i := 52) (pc := 35) dX6_ends_35 rfl rfl
theorem dX6_ends_36 : decode cX6_ends 36 = .ok (.getfield 14, 3) := by decide +kernel
theorem w52_36 {d : Nat} {st : List Value} {h : xH} {K : Option Value → xH → Prop} {ls : xL} {a : Nat} : wp d 52 36 ls (.ref a :: st) h K ↔ y_get h a 7 0 (fun v => wp d 52 39 ls (v :: st) h K) := w_get (i := 52) (pc := 36) dX6_ends_36 rfl
theorem dX6_ends_39 : decode cX6_ends 39 = .ok (.getfield 133, 3) := by decide +kernel
theorem w52_39 {d : Nat} {st : List Value} {h : xH} {K : Option Value → xH → Prop} {ls : xL} {a : Nat} : wp d 52 39 ls (.ref a :: st) h K ↔ y_get h a 1 1 (fun v => wp d 52 42 ls (v :: st) h K) := w_get (i := 52) (pc := 39) dX6_ends_39 rfl
theorem dX6_ends_42 : decode cX6_ends 42 = .ok (.iload_n 2, 1) := by decide +kernel
theorem w52_42 {d : Nat} {st : List Value} {h : xH} {K : Option Value → xH → Prop} {l0 l1 l3 : Option Value} {x : Int32} : wp d 52 42 [l0, l1, some (.int x), l3] st h K ↔ wp d 52 43 [l0, l1, some (.int x), l3] (.int x :: st) h K := w_any (i := 52) (pc := 42) dX6_ends_42 rfl rfl
theorem dX6_ends_43 : decode cX6_ends 43 = .ok (.ifCond .ne 10, 3) := by decide +kernel
theorem w52_43 {d : Nat} {st : List Value} {h : xH} {K : Option Value → xH → Prop} {ls : xL} {x : Int32} : wp d 52 43 ls (.int x :: st) h K ↔ ((¬ x = 0) → wp d 52 53 ls st h K) ∧ ((x = 0) → wp d 52 46 ls st h K) := (w_if1 (i := 52) (pc := 43) (cd := .ne) (off := 10) (tgt := 53) dX6_ends_43 (by decide) rfl).trans (and_congr Iff.rfl (imp_congr Classical.not_not Iff.rfl))
theorem dX6_ends_46 : decode cX6_ends 46 = .ok (.aload_n 3, 1) := by decide +kernel
theorem w52_46 {d : Nat} {st : List Value} {h : xH} {K : Option Value → xH → Prop} {l0 l1 l2 : Option Value} {x : Nat} : wp d 52 46 [l0, l1, l2, some (.ref x)] st h K ↔ wp d 52 47 [l0, l1, l2, some (.ref x)] (.ref x :: st) h K := w_any (i := 52) (pc := 46) dX6_ends_46 rfl rfl
theorem w52_46n {d : Nat} {st : List Value} {h : xH} {K : Option Value → xH → Prop} {l0 l1 l2 : Option Value} : wp d 52 46 [l0, l1, l2, some .null] st h K ↔ wp d 52 47 [l0, l1, l2, some .null] (.null :: st) h K := w_any (i := 52) (pc := 46) dX6_ends_46 rfl rfl
theorem dX6_ends_47 : decode cX6_ends 47 = .ok (.getfield 158, 3) := by decide +kernel
theorem w52_47 {d : Nat} {st : List Value} {h : xH} {K : Option Value → xH → Prop} {ls : xL} {a : Nat} : wp d 52 47 ls (.ref a :: st) h K ↔ y_get h a 6 6 (fun v => wp d 52 50 ls (v :: st) h K) := w_get (i := 52) (pc := 47) dX6_ends_47 rfl
theorem dX6_ends_50 : decode cX6_ends 50 = .ok (.goto 7, 3) := by decide +kernel
theorem w52_50 {d : Nat} {st : List Value} {h : xH} {K : Option Value → xH → Prop} {ls : xL} : wp d 52 50 ls st h K ↔ wp d 52 57 ls st h K := w_goto (i := 52) (pc := 50) dX6_ends_50 (by decide) rfl
theorem dX6_ends_53 : decode cX6_ends 53 = .ok (.aload_n 3, 1) := by decide +kernel
theorem w52_53 {d : Nat} {st : List Value} {h : xH} {K : Option Value → xH → Prop} {l0 l1 l2 : Option Value} {x : Nat} : wp d 52 53 [l0, l1, l2, some (.ref x)] st h K ↔ wp d 52 54 [l0, l1, l2, some (.ref x)] (.ref x :: st) h K := w_any (i := 52) (pc := 53) dX6_ends_53 rfl rfl
theorem w52_53n {d : Nat} {st : List Value} {h : xH} {K : Option Value → xH → Prop} {l0 l1 l2 : Option Value} : wp d 52 53 [l0, l1, l2, some .null] st h K ↔ wp d 52 54 [l0, l1, l2, some .null] (.null :: st) h K := w_any (i := 52) (pc := 53) dX6_ends_53 rfl rfl
theorem dX6_ends_54 : decode cX6_ends 54 = .ok (.getfield 161, 3) := by decide +kernel
theorem w52_54 {d : Nat} {st : List Value} {h : xH} {K : Option Value → xH → Prop} {ls : xL} {a : Nat} : wp d 52 54 ls (.ref a :: st) h K ↔ y_get h a 6 7 (fun v => wp d 52 57 ls (v :: st) h K) := w_get (i := 52) (pc := 54) dX6_ends_54 rfl
theorem dX6_ends_57 : decode cX6_ends 57 = .ok (.invokevirtual 164, 3) := by decide +kernel
theorem w52_57 {d : Nat} {st : List Value} {h : xH} {K : Option Value → xH → Prop} {ls : xL} {a0 : Int32} {b : Nat} : wp (d + 1) 52 57 ls (.int a0 :: .ref b :: st) h K ↔ y_cls h b 2 ∧ xcs st ≤ 8 ∧ wp d 15 0 [some (.ref b), some (.int a0), none, none] [] h (fun v h1 => wp (d + 1) 52 60 ls (v.toList ++ st) h1 K) := w_callW (i := 52) (pc := 57) (as := [.int a0]) (rest := st) dX6_ends_57 rfl (by decide) rfl rfl (by decide) rfl rfl rfl rfl
theorem dX6_ends_60 : decode cX6_ends 60 = .ok (.ireturn, 1) := by decide +kernel
theorem w52_60 {d : Nat} {h : xH} {K : Option Value → xH → Prop} {ls : xL} {x : Int32} : wp d 52 60 ls [.int x] h K ↔ K (some (.int x)) h := w_iret (i := 52) (pc := 60) dX6_ends_60 rfl
theorem dX6_shortest_0 : decode cX6_shortest 0 = .ok (.aload_n 0, 1) := by decide +kernel
theorem w53_0 {d : Nat} {st : List Value} {h : xH} {K : Option Value → xH → Prop} {l1 l2 : Option Value} {x : Nat} : wp d 53 0 [some (.ref x), l1, l2] st h K ↔ wp d 53 1 [some (.ref x), l1, l2] (.ref x :: st) h K := w_any (i := 53) (pc := 0) dX6_shortest_0 rfl rfl
theorem w53_0n {d : Nat} {st : List Value} {h : xH} {K : Option Value → xH → Prop} {l1 l2 : Option Value} : wp d 53 0 [some .null, l1, l2] st h K ↔ wp d 53 1 [some .null, l1, l2] (.null :: st) h K := w_any (i := 53) (pc := 0) dX6_shortest_0 rfl rfl
theorem dX6_shortest_1 : decode cX6_shortest 1 = .ok (.getfield 14, 3) := by decide +kernel
theorem w53_1 {d : Nat} {st : List Value} {h : xH} {K : Option Value → xH → Prop} {ls : xL} {a : Nat} : wp d 53 1 ls (.ref a :: st) h K ↔ y_get h a 7 0 (fun v => wp d 53 4 ls (v :: st) h K) := w_get (i := 53) (pc := 1) dX6_shortest_1 rfl
theorem dX6_shortest_4 : decode cX6_shortest 4 = .ok (.iload_n 1, 1) := by decide +kernel
theorem w53_4 {d : Nat} {st : List Value} {h : xH} {K : Option Value → xH → Prop} {l0 l2 : Option Value} {x : Int32} : wp d 53 4 [l0, some (.int x), l2] st h K ↔ wp d 53 5 [l0, some (.int x), l2] (.int x :: st) h K := w_any (i := 53) (pc := 4) dX6_shortest_4 rfl rfl
theorem dX6_shortest_5 : decode cX6_shortest 5 = .ok (.invokevirtual 104, 3) := by decide +kernel
theorem w53_5 {d : Nat} {st : List Value} {h : xH} {K : Option Value → xH → Prop} {ls : xL} {a0 : Int32} {b : Nat} : wp (d + 1) 53 5 ls (.int a0 :: .ref b :: st) h K ↔ y_cls h b 1 ∧ xcs st ≤ 8 ∧ wp d 1 0 [some (.ref b), some (.int a0)] [] h (fun v h1 => wp (d + 1) 53 8 ls (v.toList ++ st) h1 K) := w_callW (i := 53) (pc := 5) (as := [.int a0]) (rest := st) dX6_shortest_5 rfl (by decide) rfl rfl (by decide) rfl rfl rfl rfl
theorem dX6_shortest_8 : decode cX6_shortest 8 = .ok (.astore_n 2, 1) := by decide +kernel
theorem w53_8 {d : Nat} {st : List Value} {h : xH} {K : Option Value → xH → Prop} {l0 l1 l2 : Option Value} {x : Nat} : wp d 53 8 [l0, l1, l2] (.ref x :: st) h K ↔ wp d 53 9 [l0, xk l1, some (.ref x)] st h K := w_astore_n (i := 53) (pc := 8) dX6_shortest_8 (Nat.le_of_ble_eq_true rfl) (show xst1 [l0, l1, l2] 2 (.ref x) = [l0, xk l1, some (.ref x)] by simp only [xst1_0, xst1_1, xst1_s, Nat.reduceAdd])
theorem w53_8n {d : Nat} {st : List Value} {h : xH} {K : Option Value → xH → Prop} {l0 l1 l2 : Option Value} : wp d 53 8 [l0, l1, l2] (.null :: st) h K ↔ wp d 53 9 [l0, xk l1, some (.null)] st h K := w_astore_nN (i := 53) (pc := 8) dX6_shortest_8 (Nat.le_of_ble_eq_true rfl) (show xst1 [l0, l1, l2] 2 (.null) = [l0, xk l1, some (.null)] by simp only [xst1_0, xst1_1, xst1_s, Nat.reduceAdd])
theorem dX6_shortest_9 : decode cX6_shortest 9 = .ok (.aload_n 2, 1) := by decide +kernel
theorem w53_9 {d : Nat} {st : List Value} {h : xH} {K : Option Value → xH → Prop} {l0 l1 : Option Value} {x : Nat} : wp d 53 9 [l0, l1, some (.ref x)] st h K ↔ wp d 53 10 [l0, l1, some (.ref x)] (.ref x :: st) h K := w_any (i := 53) (pc := 9) dX6_shortest_9 rfl rfl
theorem w53_9n {d : Nat} {st : List Value} {h : xH} {K : Option Value → xH → Prop} {l0 l1 : Option Value} : wp d 53 9 [l0, l1, some .null] st h K ↔ wp d 53 10 [l0, l1, some .null] (.null :: st) h K := w_any (i := 53) (pc := 9) dX6_shortest_9 rfl rfl
theorem dX6_shortest_10 : decode cX6_shortest 10 = .ok (.ifnonnull 7, 3) := by decide +kernel
theorem w53_10 {d : Nat} {st : List Value} {h : xH} {K : Option Value → xH → Prop} {ls : xL} {x : Nat} : wp d 53 10 ls (.ref x :: st) h K ↔ wp d 53 17 ls st h K := w_ifnonnull (i := 53) (pc := 10) dX6_shortest_10 (by decide) rfl
theorem w53_10n {d : Nat} {st : List Value} {h : xH} {K : Option Value → xH → Prop} {ls : xL} : wp d 53 10 ls (.null :: st) h K ↔ wp d 53 13 ls st h K := w_ifnonnullN (i := 53) (pc := 10) dX6_shortest_10
theorem dX6_shortest_13 : decode cX6_shortest 13 = .ok (.iconst (-1), 1) := by decide +kernel
theorem w53_13 {d : Nat} {st : List Value} {h : xH} {K : Option Value → xH → Prop} {ls : xL} : wp d 53 13 ls st h K ↔ wp d 53 14 ls (.int (-1) :: st) h K := w_iconst (i := 53) (pc := 13) dX6_shortest_13 (by decide)
theorem dX6_shortest_14 : decode cX6_shortest 14 = .ok (.goto 17, 3) := by decide +kernel
theorem w53_14 {d : Nat} {st : List Value} {h : xH} {K : Option Value → xH → Prop} {ls : xL} : wp d 53 14 ls st h K ↔ wp d 53 31 ls st h K := w_goto (i := 53) (pc := 14) dX6_shortest_14 (by decide) rfl
theorem dX6_shortest_17 : decode cX6_shortest 17 = .ok (.aload_n 0, 1) := by decide +kernel
theorem w53_17 {d : Nat} {st : List Value} {h : xH} {K : Option Value → xH → Prop} {l1 l2 : Option Value} {x : Nat} : wp d 53 17 [some (.ref x), l1, l2] st h K ↔ wp d 53 18 [some (.ref x), l1, l2] (.ref x :: st) h K := w_any (i := 53) (pc := 17) dX6_shortest_17 rfl rfl
theorem w53_17n {d : Nat} {st : List Value} {h : xH} {K : Option Value → xH → Prop} {l1 l2 : Option Value} : wp d 53 17 [some .null, l1, l2] st h K ↔ wp d 53 18 [some .null, l1, l2] (.null :: st) h K := w_any (i := 53) (pc := 17) dX6_shortest_17 rfl rfl
theorem dX6_shortest_18 : decode cX6_shortest 18 = .ok (.getfield 14, 3) := by decide +kernel
theorem w53_18 {d : Nat} {st : List Value} {h : xH} {K : Option Value → xH → Prop} {ls : xL} {a : Nat} : wp d 53 18 ls (.ref a :: st) h K ↔ y_get h a 7 0 (fun v => wp d 53 21 ls (v :: st) h K) := w_get (i := 53) (pc := 18) dX6_shortest_18 rfl
theorem dX6_shortest_21 : decode cX6_shortest 21 = .ok (.getfield 65, 3) := by decide +kernel
theorem w53_21 {d : Nat} {st : List Value} {h : xH} {K : Option Value → xH → Prop} {ls : xL} {a : Nat} : wp d 53 21 ls (.ref a :: st) h K ↔ y_get h a 1 0 (fun v => wp d 53 24 ls (v :: st) h K) := w_get (i := 53) (pc := 21) dX6_shortest_21 rfl
theorem dX6_shortest_24 : decode cX6_shortest 24 = .ok (.aload_n 2, 1) := by decide +kernel
theorem w53_24 {d : Nat} {st : List Value} {h : xH} {K : Option Value → xH → Prop} {l0 l1 : Option Value} {x : Nat} : wp d 53 24 [l0, l1, some (.ref x)] st h K ↔ wp d 53 25 [l0, l1, some (.ref x)] (.ref x :: st) h K := w_any (i := 53) (pc := 24) dX6_shortest_24 rfl rfl
theorem w53_24n {d : Nat} {st : List Value} {h : xH} {K : Option Value → xH → Prop} {l0 l1 : Option Value} : wp d 53 24 [l0, l1, some .null] st h K ↔ wp d 53 25 [l0, l1, some .null] (.null :: st) h K := w_any (i := 53) (pc := 24) dX6_shortest_24 rfl rfl
theorem dX6_shortest_25 : decode cX6_shortest 25 = .ok (.getfield 111, 3) := by decide +kernel
theorem w53_25 {d : Nat} {st : List Value} {h : xH} {K : Option Value → xH → Prop} {ls : xL} {a : Nat} : wp d 53 25 ls (.ref a :: st) h K ↔ y_get h a 6 0 (fun v => wp d 53 28 ls (v :: st) h K) := w_get (i := 53) (pc := 25) dX6_shortest_25 rfl
theorem dX6_shortest_28 : decode cX6_shortest 28 = .ok (.invokevirtual 167, 3) := by decide +kernel
theorem w53_28 {d : Nat} {st : List Value} {h : xH} {K : Option Value → xH → Prop} {ls : xL} {a0 : Int32} {b : Nat} : wp (d + 1) 53 28 ls (.int a0 :: .ref b :: st) h K ↔ y_cls h b 3 ∧ xcs st ≤ 8 ∧ wp d 23 0 [some (.ref b), some (.int a0), none, none, none, none, none, none] [] h (fun v h1 => wp (d + 1) 53 31 ls (v.toList ++ st) h1 K) := w_callW (i := 53) (pc := 28) (as := [.int a0]) (rest := st) dX6_shortest_28 rfl (by decide) rfl rfl (by decide) rfl rfl rfl rfl
theorem dX6_shortest_31 : decode cX6_shortest 31 = .ok (.ireturn, 1) := by decide +kernel
theorem w53_31 {d : Nat} {h : xH} {K : Option Value → xH → Prop} {ls : xL} {x : Int32} : wp d 53 31 ls [.int x] h K ↔ K (some (.int x)) h := w_iret (i := 53) (pc := 31) dX6_shortest_31 rfl
theorem dX6_first_0 : decode cX6_first 0 = .ok (.aload_n 0, 1) := by decide +kernel
theorem w57_0 {d : Nat} {st : List Value} {h : xH} {K : Option Value → xH → Prop} {l1 l2 l3 l4 : Option Value} {x : Nat} : wp d 57 0 [some (.ref x), l1, l2, l3, l4] st h K ↔ wp d 57 1 [some (.ref x), l1, l2, l3, l4] (.ref x :: st) h K := w_any (i := 57) (pc := 0) dX6_first_0 rfl rfl
theorem w57_0n {d : Nat} {st : List Value} {h : xH} {K : Option Value → xH → Prop} {l1 l2 l3 l4 : Option Value} : wp d 57 0 [some .null, l1, l2, l3, l4] st h K ↔ wp d 57 1 [some .null, l1, l2, l3, l4] (.null :: st) h K := w_any (i := 57) (pc := 0) dX6_first_0 rfl rfl
theorem dX6_first_1 : decode cX6_first 1 = .ok (.getfield 14, 3) := by decide +kernel
theorem w57_1 {d : Nat} {st : List Value} {h : xH} {K : Option Value → xH → Prop} {ls : xL} {a : Nat} : wp d 57 1 ls (.ref a :: st) h K ↔ y_get h a 7 0 (fun v => wp d 57 4 ls (v :: st) h K) := w_get (i := 57) (pc := 1) dX6_first_1 rfl
theorem dX6_first_4 : decode cX6_first 4 = .ok (.getfield 65, 3) := by decide +kernel
theorem w57_4 {d : Nat} {st : List Value} {h : xH} {K : Option Value → xH → Prop} {ls : xL} {a : Nat} : wp d 57 4 ls (.ref a :: st) h K ↔ y_get h a 1 0 (fun v => wp d 57 7 ls (v :: st) h K) := w_get (i := 57) (pc := 4) dX6_first_4 rfl
theorem dX6_first_7 : decode cX6_first 7 = .ok (.invokevirtual 129, 3) := by decide +kernel
theorem w57_7 {d : Nat} {st : List Value} {h : xH} {K : Option Value → xH → Prop} {ls : xL} {b : Nat} : wp (d + 1) 57 7 ls (.ref b :: st) h K ↔ y_cls h b 3 ∧ xcs st ≤ 8 ∧ wp d 17 0 [some (.ref b)] [] h (fun v h1 => wp (d + 1) 57 10 ls (v.toList ++ st) h1 K) := w_callW (i := 57) (pc := 7) (as := []) (rest := st) dX6_first_7 rfl (by decide) rfl rfl (by decide) rfl rfl rfl rfl
theorem dX6_first_10 : decode cX6_first 10 = .ok (.ifCond .eq 6, 3) := by decide +kernel
theorem w57_10 {d : Nat} {st : List Value} {h : xH} {K : Option Value → xH → Prop} {ls : xL} {x : Int32} : wp d 57 10 ls (.int x :: st) h K ↔ ((x = 0) → wp d 57 16 ls st h K) ∧ ((¬ (x = 0)) → wp d 57 13 ls st h K) := w_if1 (i := 57) (pc := 10) (cd := .eq) (off := 6) (tgt := 16) dX6_first_10 (by decide) rfl
theorem dX6_first_13 : decode cX6_first 13 = .ok (.bipush (-3), 2) := by decide +kernel
theorem w57_13 {d : Nat} {st : List Value} {h : xH} {K : Option Value → xH → Prop} {ls : xL} : wp d 57 13 ls st h K ↔ wp d 57 15 ls (.int (-3) :: st) h K := w_bipush (i := 57) (pc := 13) dX6_first_13 (by decide)
theorem dX6_first_15 : decode cX6_first 15 = .ok (.ireturn, 1) := by decide +kernel
theorem w57_15 {d : Nat} {h : xH} {K : Option Value → xH → Prop} {ls : xL} {x : Int32} : wp d 57 15 ls [.int x] h K ↔ K (some (.int x)) h := w_iret (i := 57) (pc := 15) dX6_first_15 rfl
theorem dX6_first_16 : decode cX6_first 16 = .ok (.aload_n 0, 1) := by decide +kernel
theorem w57_16 {d : Nat} {st : List Value} {h : xH} {K : Option Value → xH → Prop} {l1 l2 l3 l4 : Option Value} {x : Nat} : wp d 57 16 [some (.ref x), l1, l2, l3, l4] st h K ↔ wp d 57 17 [some (.ref x), l1, l2, l3, l4] (.ref x :: st) h K := w_any (i := 57) (pc := 16) dX6_first_16 rfl rfl
theorem w57_16n {d : Nat} {st : List Value} {h : xH} {K : Option Value → xH → Prop} {l1 l2 l3 l4 : Option Value} : wp d 57 16 [some .null, l1, l2, l3, l4] st h K ↔ wp d 57 17 [some .null, l1, l2, l3, l4] (.null :: st) h K := w_any (i := 57) (pc := 16) dX6_first_16 rfl rfl
theorem dX6_first_17 : decode cX6_first 17 = .ok (.getfield 14, 3) := by decide +kernel
theorem w57_17 {d : Nat} {st : List Value} {h : xH} {K : Option Value → xH → Prop} {ls : xL} {a : Nat} : wp d 57 17 ls (.ref a :: st) h K ↔ y_get h a 7 0 (fun v => wp d 57 20 ls (v :: st) h K) := w_get (i := 57) (pc := 17) dX6_first_17 rfl
theorem dX6_first_20 : decode cX6_first 20 = .ok (.bipush 79, 2) := by decide +kernel
theorem w57_20 {d : Nat} {st : List Value} {h : xH} {K : Option Value → xH → Prop} {ls : xL} : wp d 57 20 ls st h K ↔ wp d 57 22 ls (.int 79 :: st) h K := w_bipush (i := 57) (pc := 20) dX6_first_20 (by decide)
theorem dX6_first_22 : decode cX6_first 22 = .ok (.invokevirtual 142, 3) := by decide +kernel
theorem w57_22 {d : Nat} {st : List Value} {h : xH} {K : Option Value → xH → Prop} {ls : xL} {a0 : Int32} {b : Nat} : wp (d + 1) 57 22 ls (.int a0 :: .ref b :: st) h K ↔ y_cls h b 1 ∧ xcs st ≤ 8 ∧ wp d 3 0 [some (.ref b), some (.int a0), none, none] [] h (fun v h1 => wp (d + 1) 57 25 ls (v.toList ++ st) h1 K) := w_callW (i := 57) (pc := 22) (as := [.int a0]) (rest := st) dX6_first_22 rfl (by decide) rfl rfl (by decide) rfl rfl rfl rfl
theorem dX6_first_25 : decode cX6_first 25 = .ok (.bipush (-9), 2) := by decide +kernel
theorem w57_25 {d : Nat} {st : List Value} {h : xH} {K : Option Value → xH → Prop} {ls : xL} : wp d 57 25 ls st h K ↔ wp d 57 27 ls (.int (-9) :: st) h K := w_bipush (i := 57) (pc := 25) dX6_first_25 (by decide)
theorem dX6_first_27 : decode cX6_first 27 = .ok (.istore_n 1, 1) := by decide +kernel
theorem w57_27 {d : Nat} {st : List Value} {h : xH} {K : Option Value → xH → Prop} {l0 l1 l2 l3 l4 : Option Value} {x : Int32} : wp d 57 27 [l0, l1, l2, l3, l4] (.int x :: st) h K ↔ wp d 57 28 [xk l0, some (.int x), l2, l3, l4] st h K := w_istore_n (i := 57) (pc := 27) dX6_first_27 (Nat.le_of_ble_eq_true rfl) (show xst1 [l0, l1, l2, l3, l4] 1 (.int x) = [xk l0, some (.int x), l2, l3, l4] by simp only [xst1_0, xst1_1, xst1_s, Nat.reduceAdd])
theorem dX6_first_28 : decode cX6_first 28 = .ok (.bipush 80, 2) := by decide +kernel
theorem w57_28 {d : Nat} {st : List Value} {h : xH} {K : Option Value → xH → Prop} {ls : xL} : wp d 57 28 ls st h K ↔ wp d 57 30 ls (.int 80 :: st) h K := w_bipush (i := 57) (pc := 28) dX6_first_28 (by decide)
theorem dX6_first_30 : decode cX6_first 30 = .ok (.istore_n 2, 1) := by decide +kernel
theorem w57_30 {d : Nat} {st : List Value} {h : xH} {K : Option Value → xH → Prop} {l0 l1 l2 l3 l4 : Option Value} {x : Int32} : wp d 57 30 [l0, l1, l2, l3, l4] (.int x :: st) h K ↔ wp d 57 31 [l0, xk l1, some (.int x), l3, l4] st h K := w_istore_n (i := 57) (pc := 30) dX6_first_30 (Nat.le_of_ble_eq_true rfl) (show xst1 [l0, l1, l2, l3, l4] 2 (.int x) = [l0, xk l1, some (.int x), l3, l4] by simp only [xst1_0, xst1_1, xst1_s, Nat.reduceAdd])
theorem dX6_first_31 : decode cX6_first 31 = .ok (.iconst 0, 1) := by decide +kernel
theorem w57_31 {d : Nat} {st : List Value} {h : xH} {K : Option Value → xH → Prop} {ls : xL} : wp d 57 31 ls st h K ↔ wp d 57 32 ls (.int 0 :: st) h K := w_iconst (i := 57) (pc := 31) dX6_first_31 (by decide)
theorem dX6_first_32 : decode cX6_first 32 = .ok (.istore_n 3, 1) := by decide +kernel
theorem w57_32 {d : Nat} {st : List Value} {h : xH} {K : Option Value → xH → Prop} {l0 l1 l2 l3 l4 : Option Value} {x : Int32} : wp d 57 32 [l0, l1, l2, l3, l4] (.int x :: st) h K ↔ wp d 57 33 [l0, l1, xk l2, some (.int x), l4] st h K := w_istore_n (i := 57) (pc := 32) dX6_first_32 (Nat.le_of_ble_eq_true rfl) (show xst1 [l0, l1, l2, l3, l4] 3 (.int x) = [l0, l1, xk l2, some (.int x), l4] by simp only [xst1_0, xst1_1, xst1_s, Nat.reduceAdd])
theorem dX6_first_33 : decode cX6_first 33 = .ok (.iload_n 3, 1) := by decide +kernel
theorem w57_33 {d : Nat} {st : List Value} {h : xH} {K : Option Value → xH → Prop} {l0 l1 l2 l4 : Option Value} {x : Int32} : wp d 57 33 [l0, l1, l2, some (.int x), l4] st h K ↔ wp d 57 34 [l0, l1, l2, some (.int x), l4] (.int x :: st) h K := w_any (i := 57) (pc := 33) dX6_first_33 rfl rfl
theorem dX6_first_34 : decode cX6_first 34 = .ok (.aload_n 0, 1) := by decide +kernel
theorem w57_34 {d : Nat} {st : List Value} {h : xH} {K : Option Value → xH → Prop} {l1 l2 l3 l4 : Option Value} {x : Nat} : wp d 57 34 [some (.ref x), l1, l2, l3, l4] st h K ↔ wp d 57 35 [some (.ref x), l1, l2, l3, l4] (.ref x :: st) h K := w_any (i := 57) (pc := 34) dX6_first_34 rfl rfl
theorem w57_34n {d : Nat} {st : List Value} {h : xH} {K : Option Value → xH → Prop} {l1 l2 l3 l4 : Option Value} : wp d 57 34 [some .null, l1, l2, l3, l4] st h K ↔ wp d 57 35 [some .null, l1, l2, l3, l4] (.null :: st) h K := w_any (i := 57) (pc := 34) dX6_first_34 rfl rfl
theorem dX6_first_35 : decode cX6_first 35 = .ok (.getfield 14, 3) := by decide +kernel
theorem w57_35 {d : Nat} {st : List Value} {h : xH} {K : Option Value → xH → Prop} {ls : xL} {a : Nat} : wp d 57 35 ls (.ref a :: st) h K ↔ y_get h a 7 0 (fun v => wp d 57 38 ls (v :: st) h K) := w_get (i := 57) (pc := 35) dX6_first_35 rfl
theorem dX6_first_38 : decode cX6_first 38 = .ok (.getfield 88, 3) := by decide +kernel
theorem w57_38 {d : Nat} {st : List Value} {h : xH} {K : Option Value → xH → Prop} {ls : xL} {a : Nat} : wp d 57 38 ls (.ref a :: st) h K ↔ y_get h a 1 2 (fun v => wp d 57 41 ls (v :: st) h K) := w_get (i := 57) (pc := 38) dX6_first_38 rfl
theorem dX6_first_41 : decode cX6_first 41 = .ok (.invokevirtual 91, 3) := by decide +kernel
theorem w57_41 {d : Nat} {st : List Value} {h : xH} {K : Option Value → xH → Prop} {ls : xL} {b : Nat} : wp (d + 1) 57 41 ls (.ref b :: st) h K ↔ y_cls h b 0 ∧ xcs st ≤ 8 ∧ wp d 160 0 [some (.ref b)] [] h (fun v h1 => wp (d + 1) 57 44 ls (v.toList ++ st) h1 K) := w_callW (i := 57) (pc := 41) (as := []) (rest := st) dX6_first_41 rfl (by decide) rfl rfl (by decide) rfl rfl rfl rfl
theorem dX6_first_44 : decode cX6_first 44 = .ok (.if_icmp .ge 45, 3) := by decide +kernel
theorem w57_44 {d : Nat} {st : List Value} {h : xH} {K : Option Value → xH → Prop} {ls : xL} {x y : Int32} : wp d 57 44 ls (.int y :: .int x :: st) h K ↔ ((y ≤ x) → wp d 57 89 ls st h K) ∧ ((¬ (y ≤ x)) → wp d 57 47 ls st h K) := w_if2 (i := 57) (pc := 44) (cd := .ge) (off := 45) (tgt := 89) dX6_first_44 (by decide) rfl
theorem dX6_first_47 : decode cX6_first 47 = .ok (.aload_n 0, 1) := by decide +kernel
theorem w57_47 {d : Nat} {st : List Value} {h : xH} {K : Option Value → xH → Prop} {l1 l2 l3 l4 : Option Value} {x : Nat} : wp d 57 47 [some (.ref x), l1, l2, l3, l4] st h K ↔ wp d 57 48 [some (.ref x), l1, l2, l3, l4] (.ref x :: st) h K := w_any (i := 57) (pc := 47) dX6_first_47 rfl rfl
theorem w57_47n {d : Nat} {st : List Value} {h : xH} {K : Option Value → xH → Prop} {l1 l2 l3 l4 : Option Value} : wp d 57 47 [some .null, l1, l2, l3, l4] st h K ↔ wp d 57 48 [some .null, l1, l2, l3, l4] (.null :: st) h K := w_any (i := 57) (pc := 47) dX6_first_47 rfl rfl
theorem dX6_first_48 : decode cX6_first 48 = .ok (.getfield 14, 3) := by decide +kernel
theorem w57_48 {d : Nat} {st : List Value} {h : xH} {K : Option Value → xH → Prop} {ls : xL} {a : Nat} : wp d 57 48 ls (.ref a :: st) h K ↔ y_get h a 7 0 (fun v => wp d 57 51 ls (v :: st) h K) := w_get (i := 57) (pc := 48) dX6_first_48 rfl
theorem dX6_first_51 : decode cX6_first 51 = .ok (.getfield 88, 3) := by decide +kernel
theorem w57_51 {d : Nat} {st : List Value} {h : xH} {K : Option Value → xH → Prop} {ls : xL} {a : Nat} : wp d 57 51 ls (.ref a :: st) h K ↔ y_get h a 1 2 (fun v => wp d 57 54 ls (v :: st) h K) := w_get (i := 57) (pc := 51) dX6_first_51 rfl
theorem dX6_first_54 : decode cX6_first 54 = .ok (.iload_n 3, 1) := by decide +kernel
theorem w57_54 {d : Nat} {st : List Value} {h : xH} {K : Option Value → xH → Prop} {l0 l1 l2 l4 : Option Value} {x : Int32} : wp d 57 54 [l0, l1, l2, some (.int x), l4] st h K ↔ wp d 57 55 [l0, l1, l2, some (.int x), l4] (.int x :: st) h K := w_any (i := 57) (pc := 54) dX6_first_54 rfl rfl
theorem dX6_first_55 : decode cX6_first 55 = .ok (.invokevirtual 121, 3) := by decide +kernel
theorem w57_55 {d : Nat} {st : List Value} {h : xH} {K : Option Value → xH → Prop} {ls : xL} {a0 : Int32} {b : Nat} : wp (d + 1) 57 55 ls (.int a0 :: .ref b :: st) h K ↔ y_cls h b 0 ∧ xcs st ≤ 8 ∧ wp d 162 0 [some (.ref b), some (.int a0)] [] h (fun v h1 => wp (d + 1) 57 58 ls (v.toList ++ st) h1 K) := w_callW (i := 57) (pc := 55) (as := [.int a0]) (rest := st) dX6_first_55 rfl (by decide) rfl rfl (by decide) rfl rfl rfl rfl
theorem dX6_first_58 : decode cX6_first 58 = .ok (.checkcast 95, 3) := by decide +kernel
theorem w57_58 {d : Nat} {st : List Value} {h : xH} {K : Option Value → xH → Prop} {ls : xL} {a : Nat} : wp d 57 58 ls (.ref a :: st) h K ↔ y_cls h a 6 ∧ wp d 57 61 ls (.ref a :: st) h K := w_cast (i := 57) (pc := 58) dX6_first_58 rfl (by decide)
theorem w57_58n {d : Nat} {st : List Value} {h : xH} {K : Option Value → xH → Prop} {ls : xL} : wp d 57 58 ls (.null :: st) h K ↔ wp d 57 61 ls (.null :: st) h K := w_castN (i := 57) (pc := 58) dX6_first_58
theorem dX6_first_61 : decode cX6_first 61 = .ok (.getfield 158, 3) := by decide +kernel
theorem w57_61 {d : Nat} {st : List Value} {h : xH} {K : Option Value → xH → Prop} {ls : xL} {a : Nat} : wp d 57 61 ls (.ref a :: st) h K ↔ y_get h a 6 6 (fun v => wp d 57 64 ls (v :: st) h K) := w_get (i := 57) (pc := 61) dX6_first_61 rfl
theorem dX6_first_64 : decode cX6_first 64 = .ok (.istore 4, 2) := by decide +kernel
theorem w57_64 {d : Nat} {st : List Value} {h : xH} {K : Option Value → xH → Prop} {l0 l1 l2 l3 l4 : Option Value} {x : Int32} : wp d 57 64 [l0, l1, l2, l3, l4] (.int x :: st) h K ↔ wp d 57 66 [l0, l1, l2, xk l3, some (.int x)] st h K := w_istore (i := 57) (pc := 64) dX6_first_64 (Nat.le_of_ble_eq_true rfl) (show xst1 [l0, l1, l2, l3, l4] 4 (.int x) = [l0, l1, l2, xk l3, some (.int x)] by simp only [xst1_0, xst1_1, xst1_s, Nat.reduceAdd])
theorem dX6_first_66 : decode cX6_first 66 = .ok (.iload 4, 2) := by decide +kernel
theorem w57_66 {d : Nat} {st : List Value} {h : xH} {K : Option Value → xH → Prop} {l0 l1 l2 l3 : Option Value} {x : Int32} : wp d 57 66 [l0, l1, l2, l3, some (.int x)] st h K ↔ wp d 57 68 [l0, l1, l2, l3, some (.int x)] (.int x :: st) h K := w_any (i := 57) (pc := 66) dX6_first_66 rfl rfl
theorem dX6_first_68 : decode cX6_first 68 = .ok (.iconst (-1), 1) := by decide +kernel
theorem w57_68 {d : Nat} {st : List Value} {h : xH} {K : Option Value → xH → Prop} {ls : xL} : wp d 57 68 ls st h K ↔ wp d 57 69 ls (.int (-1) :: st) h K := w_iconst (i := 57) (pc := 68) dX6_first_68 (by decide)
theorem dX6_first_69 : decode cX6_first 69 = .ok (.if_icmp .eq 14, 3) := by decide +kernel
theorem w57_69 {d : Nat} {st : List Value} {h : xH} {K : Option Value → xH → Prop} {ls : xL} {x y : Int32} : wp d 57 69 ls (.int y :: .int x :: st) h K ↔ ((x = y) → wp d 57 83 ls st h K) ∧ ((¬ (x = y)) → wp d 57 72 ls st h K) := w_if2 (i := 57) (pc := 69) (cd := .eq) (off := 14) (tgt := 83) dX6_first_69 (by decide) rfl
theorem dX6_first_72 : decode cX6_first 72 = .ok (.iload 4, 2) := by decide +kernel
theorem w57_72 {d : Nat} {st : List Value} {h : xH} {K : Option Value → xH → Prop} {l0 l1 l2 l3 : Option Value} {x : Int32} : wp d 57 72 [l0, l1, l2, l3, some (.int x)] st h K ↔ wp d 57 74 [l0, l1, l2, l3, some (.int x)] (.int x :: st) h K := w_any (i := 57) (pc := 72) dX6_first_72 rfl rfl
theorem dX6_first_74 : decode cX6_first 74 = .ok (.iload_n 2, 1) := by decide +kernel
theorem w57_74 {d : Nat} {st : List Value} {h : xH} {K : Option Value → xH → Prop} {l0 l1 l3 l4 : Option Value} {x : Int32} : wp d 57 74 [l0, l1, some (.int x), l3, l4] st h K ↔ wp d 57 75 [l0, l1, some (.int x), l3, l4] (.int x :: st) h K := w_any (i := 57) (pc := 74) dX6_first_74 rfl rfl
theorem dX6_first_75 : decode cX6_first 75 = .ok (.if_icmp .ge 8, 3) := by decide +kernel
theorem w57_75 {d : Nat} {st : List Value} {h : xH} {K : Option Value → xH → Prop} {ls : xL} {x y : Int32} : wp d 57 75 ls (.int y :: .int x :: st) h K ↔ ((y ≤ x) → wp d 57 83 ls st h K) ∧ ((¬ (y ≤ x)) → wp d 57 78 ls st h K) := w_if2 (i := 57) (pc := 75) (cd := .ge) (off := 8) (tgt := 83) dX6_first_75 (by decide) rfl
theorem dX6_first_78 : decode cX6_first 78 = .ok (.iload_n 3, 1) := by decide +kernel
theorem w57_78 {d : Nat} {st : List Value} {h : xH} {K : Option Value → xH → Prop} {l0 l1 l2 l4 : Option Value} {x : Int32} : wp d 57 78 [l0, l1, l2, some (.int x), l4] st h K ↔ wp d 57 79 [l0, l1, l2, some (.int x), l4] (.int x :: st) h K := w_any (i := 57) (pc := 78) dX6_first_78 rfl rfl
theorem dX6_first_79 : decode cX6_first 79 = .ok (.istore_n 1, 1) := by decide +kernel
theorem w57_79 {d : Nat} {st : List Value} {h : xH} {K : Option Value → xH → Prop} {l0 l1 l2 l3 l4 : Option Value} {x : Int32} : wp d 57 79 [l0, l1, l2, l3, l4] (.int x :: st) h K ↔ wp d 57 80 [xk l0, some (.int x), l2, l3, l4] st h K := w_istore_n (i := 57) (pc := 79) dX6_first_79 (Nat.le_of_ble_eq_true rfl) (show xst1 [l0, l1, l2, l3, l4] 1 (.int x) = [xk l0, some (.int x), l2, l3, l4] by simp only [xst1_0, xst1_1, xst1_s, Nat.reduceAdd])
theorem dX6_first_80 : decode cX6_first 80 = .ok (.iload 4, 2) := by decide +kernel
theorem w57_80 {d : Nat} {st : List Value} {h : xH} {K : Option Value → xH → Prop} {l0 l1 l2 l3 : Option Value} {x : Int32} : wp d 57 80 [l0, l1, l2, l3, some (.int x)] st h K ↔ wp d 57 82 [l0, l1, l2, l3, some (.int x)] (.int x :: st) h K := w_any (i := 57) (pc := 80) dX6_first_80 rfl rfl
theorem dX6_first_82 : decode cX6_first 82 = .ok (.istore_n 2, 1) := by decide +kernel
theorem w57_82 {d : Nat} {st : List Value} {h : xH} {K : Option Value → xH → Prop} {l0 l1 l2 l3 l4 : Option Value} {x : Int32} : wp d 57 82 [l0, l1, l2, l3, l4] (.int x :: st) h K ↔ wp d 57 83 [l0, xk l1, some (.int x), l3, l4] st h K := w_istore_n (i := 57) (pc := 82) dX6_first_82 (Nat.le_of_ble_eq_true rfl) (show xst1 [l0, l1, l2, l3, l4] 2 (.int x) = [l0, xk l1, some (.int x), l3, l4] by simp only [xst1_0, xst1_1, xst1_s, Nat.reduceAdd])
theorem dX6_first_83 : decode cX6_first 83 = .ok (.iinc 3 1, 3) := by decide +kernel
theorem w57_83 {d : Nat} {st : List Value} {h : xH} {K : Option Value → xH → Prop} {l0 l1 l2 l4 : Option Value} {x : Int32} : wp d 57 83 [l0, l1, l2, some (.int x), l4] st h K ↔ wp d 57 86 [l0, l1, xk l2, some (.int (x + 1)), l4] st h K := w_iinc (i := 57) (pc := 83) dX6_first_83 rfl (Nat.le_of_ble_eq_true rfl) (by decide) (show xst1 [l0, l1, l2, some (.int x), l4] 3 (.int (x + 1)) = [l0, l1, xk l2, some (.int (x + 1)), l4] by simp only [xst1_0, xst1_1, xst1_s, Nat.reduceAdd])
theorem dX6_first_86 : decode cX6_first 86 = .ok (.goto (-53), 3) := by decide +kernel
theorem w57_86 {d : Nat} {st : List Value} {h : xH} {K : Option Value → xH → Prop} {ls : xL} : wp d 57 86 ls st h K ↔ wp d 57 33 ls st h K := w_goto (i := 57) (pc := 86) dX6_first_86 (by decide) rfl
theorem dX6_first_89 : decode cX6_first 89 = .ok (.iload_n 1, 1) := by decide +kernel
theorem w57_89 {d : Nat} {st : List Value} {h : xH} {K : Option Value → xH → Prop} {l0 l2 l3 l4 : Option Value} {x : Int32} : wp d 57 89 [l0, some (.int x), l2, l3, l4] st h K ↔ wp d 57 90 [l0, some (.int x), l2, l3, l4] (.int x :: st) h K := w_any (i := 57) (pc := 89) dX6_first_89 rfl rfl
theorem dX6_first_90 : decode cX6_first 90 = .ok (.ireturn, 1) := by decide +kernel
theorem w57_90 {d : Nat} {h : xH} {K : Option Value → xH → Prop} {ls : xL} {x : Int32} : wp d 57 90 ls [.int x] h K ↔ K (some (.int x)) h := w_iret (i := 57) (pc := 90) dX6_first_90 rfl
theorem dX6_sheet_0 : decode cX6_sheet 0 = .ok (.aload_n 0, 1) := by decide +kernel
theorem w63_0 {d : Nat} {st : List Value} {h : xH} {K : Option Value → xH → Prop} {l1 l2 l3 l4 : Option Value} {x : Nat} : wp d 63 0 [some (.ref x), l1, l2, l3, l4] st h K ↔ wp d 63 1 [some (.ref x), l1, l2, l3, l4] (.ref x :: st) h K := w_any (i := 63) (pc := 0) dX6_sheet_0 rfl rfl
theorem w63_0n {d : Nat} {st : List Value} {h : xH} {K : Option Value → xH → Prop} {l1 l2 l3 l4 : Option Value} : wp d 63 0 [some .null, l1, l2, l3, l4] st h K ↔ wp d 63 1 [some .null, l1, l2, l3, l4] (.null :: st) h K := w_any (i := 63) (pc := 0) dX6_sheet_0 rfl rfl
theorem dX6_sheet_1 : decode cX6_sheet 1 = .ok (.iconst 0, 1) := by decide +kernel
theorem w63_1 {d : Nat} {st : List Value} {h : xH} {K : Option Value → xH → Prop} {ls : xL} : wp d 63 1 ls st h K ↔ wp d 63 2 ls (.int 0 :: st) h K := w_iconst (i := 63) (pc := 1) dX6_sheet_1 (by decide)
theorem dX6_sheet_2 : decode cX6_sheet 2 = .ok (.putfield 35, 3) := by decide +kernel
theorem w63_2 {d : Nat} {st : List Value} {h : xH} {K : Option Value → xH → Prop} {ls : xL} {x : Int32} {a : Nat} : wp d 63 2 ls (.int x :: .ref a :: st) h K ↔ y_put h a 7 5 (.int x) (fun h1 => wp d 63 5 ls st h1 K) := w_put (i := 63) (pc := 2) dX6_sheet_2 rfl trivial (Or.inl rfl)
theorem dX6_sheet_5 : decode cX6_sheet 5 = .ok (.aload_n 0, 1) := by decide +kernel
theorem w63_5 {d : Nat} {st : List Value} {h : xH} {K : Option Value → xH → Prop} {l1 l2 l3 l4 : Option Value} {x : Nat} : wp d 63 5 [some (.ref x), l1, l2, l3, l4] st h K ↔ wp d 63 6 [some (.ref x), l1, l2, l3, l4] (.ref x :: st) h K := w_any (i := 63) (pc := 5) dX6_sheet_5 rfl rfl
theorem w63_5n {d : Nat} {st : List Value} {h : xH} {K : Option Value → xH → Prop} {l1 l2 l3 l4 : Option Value} : wp d 63 5 [some .null, l1, l2, l3, l4] st h K ↔ wp d 63 6 [some .null, l1, l2, l3, l4] (.null :: st) h K := w_any (i := 63) (pc := 5) dX6_sheet_5 rfl rfl
theorem dX6_sheet_6 : decode cX6_sheet 6 = .ok (.iload_n 1, 1) := by decide +kernel
theorem w63_6 {d : Nat} {st : List Value} {h : xH} {K : Option Value → xH → Prop} {l0 l2 l3 l4 : Option Value} {x : Int32} : wp d 63 6 [l0, some (.int x), l2, l3, l4] st h K ↔ wp d 63 7 [l0, some (.int x), l2, l3, l4] (.int x :: st) h K := w_any (i := 63) (pc := 6) dX6_sheet_6 rfl rfl
theorem dX6_sheet_7 : decode cX6_sheet 7 = .ok (.invokevirtual 39, 3) := by decide +kernel
theorem w63_7 {d : Nat} {st : List Value} {h : xH} {K : Option Value → xH → Prop} {ls : xL} {a0 : Int32} {b : Nat} : wp (d + 1) 63 7 ls (.int a0 :: .ref b :: st) h K ↔ y_cls h b 7 ∧ xcs st ≤ 8 ∧ wp d 77 0 [some (.ref b), some (.int a0)] [] h (fun v h1 => wp (d + 1) 63 10 ls (v.toList ++ st) h1 K) := w_callW (i := 63) (pc := 7) (as := [.int a0]) (rest := st) dX6_sheet_7 rfl (by decide) rfl rfl (by decide) rfl rfl rfl rfl
theorem dX6_sheet_10 : decode cX6_sheet 10 = .ok (.astore 4, 2) := by decide +kernel
theorem w63_10 {d : Nat} {st : List Value} {h : xH} {K : Option Value → xH → Prop} {l0 l1 l2 l3 l4 : Option Value} {x : Nat} : wp d 63 10 [l0, l1, l2, l3, l4] (.ref x :: st) h K ↔ wp d 63 12 [l0, l1, l2, xk l3, some (.ref x)] st h K := w_astore (i := 63) (pc := 10) dX6_sheet_10 (Nat.le_of_ble_eq_true rfl) (show xst1 [l0, l1, l2, l3, l4] 4 (.ref x) = [l0, l1, l2, xk l3, some (.ref x)] by simp only [xst1_0, xst1_1, xst1_s, Nat.reduceAdd])
theorem w63_10n {d : Nat} {st : List Value} {h : xH} {K : Option Value → xH → Prop} {l0 l1 l2 l3 l4 : Option Value} : wp d 63 10 [l0, l1, l2, l3, l4] (.null :: st) h K ↔ wp d 63 12 [l0, l1, l2, xk l3, some (.null)] st h K := w_astoreN (i := 63) (pc := 10) dX6_sheet_10 (Nat.le_of_ble_eq_true rfl) (show xst1 [l0, l1, l2, l3, l4] 4 (.null) = [l0, l1, l2, xk l3, some (.null)] by simp only [xst1_0, xst1_1, xst1_s, Nat.reduceAdd])
theorem dX6_sheet_12 : decode cX6_sheet 12 = .ok (.aload 4, 2) := by decide +kernel
theorem w63_12 {d : Nat} {st : List Value} {h : xH} {K : Option Value → xH → Prop} {l0 l1 l2 l3 : Option Value} {x : Nat} : wp d 63 12 [l0, l1, l2, l3, some (.ref x)] st h K ↔ wp d 63 14 [l0, l1, l2, l3, some (.ref x)] (.ref x :: st) h K := w_any (i := 63) (pc := 12) dX6_sheet_12 rfl rfl
theorem w63_12n {d : Nat} {st : List Value} {h : xH} {K : Option Value → xH → Prop} {l0 l1 l2 l3 : Option Value} : wp d 63 12 [l0, l1, l2, l3, some .null] st h K ↔ wp d 63 14 [l0, l1, l2, l3, some .null] (.null :: st) h K := w_any (i := 63) (pc := 12) dX6_sheet_12 rfl rfl
theorem dX6_sheet_14 : decode cX6_sheet 14 = .ok (.ifnonnull 5, 3) := by decide +kernel
theorem w63_14 {d : Nat} {st : List Value} {h : xH} {K : Option Value → xH → Prop} {ls : xL} {x : Nat} : wp d 63 14 ls (.ref x :: st) h K ↔ wp d 63 19 ls st h K := w_ifnonnull (i := 63) (pc := 14) dX6_sheet_14 (by decide) rfl
theorem w63_14n {d : Nat} {st : List Value} {h : xH} {K : Option Value → xH → Prop} {ls : xL} : wp d 63 14 ls (.null :: st) h K ↔ wp d 63 17 ls st h K := w_ifnonnullN (i := 63) (pc := 14) dX6_sheet_14
theorem dX6_sheet_17 : decode cX6_sheet 17 = .ok (.iconst (-1), 1) := by decide +kernel
theorem w63_17 {d : Nat} {st : List Value} {h : xH} {K : Option Value → xH → Prop} {ls : xL} : wp d 63 17 ls st h K ↔ wp d 63 18 ls (.int (-1) :: st) h K := w_iconst (i := 63) (pc := 17) dX6_sheet_17 (by decide)
theorem dX6_sheet_18 : decode cX6_sheet 18 = .ok (.ireturn, 1) := by decide +kernel
theorem w63_18 {d : Nat} {h : xH} {K : Option Value → xH → Prop} {ls : xL} {x : Int32} : wp d 63 18 ls [.int x] h K ↔ K (some (.int x)) h := w_iret (i := 63) (pc := 18) dX6_sheet_18 rfl
theorem dX6_sheet_19 : decode cX6_sheet 19 = .ok (.iload_n 2, 1) := by decide +kernel
theorem w63_19 {d : Nat} {st : List Value} {h : xH} {K : Option Value → xH → Prop} {l0 l1 l3 l4 : Option Value} {x : Int32} : wp d 63 19 [l0, l1, some (.int x), l3, l4] st h K ↔ wp d 63 20 [l0, l1, some (.int x), l3, l4] (.int x :: st) h K := w_any (i := 63) (pc := 19) dX6_sheet_19 rfl rfl
theorem dX6_sheet_20 : decode cX6_sheet 20 = .ok (.iconst 3, 1) := by decide +kernel
theorem w63_20 {d : Nat} {st : List Value} {h : xH} {K : Option Value → xH → Prop} {ls : xL} : wp d 63 20 ls st h K ↔ wp d 63 21 ls (.int 3 :: st) h K := w_iconst (i := 63) (pc := 20) dX6_sheet_20 (by decide)
theorem dX6_sheet_21 : decode cX6_sheet 21 = .ok (.invokestatic 43, 3) := by decide +kernel
theorem w63_21 {d : Nat} {st : List Value} {h : xH} {K : Option Value → xH → Prop} {ls : xL} {a0 : Int32} {a1 : Int32} : wp (d + 1) 63 21 ls (.int a1 :: .int a0 :: st) h K ↔ xcs st ≤ 8 ∧ wp d 74 0 [some (.int a0), some (.int a1)] [] h (fun v h1 => wp (d + 1) 63 24 ls (v.toList ++ st) h1 K) := w_callS (i := 63) (pc := 21) (as := [.int a0, .int a1]) (rest := st) dX6_sheet_21 rfl (by decide) rfl rfl rfl rfl rfl
theorem dX6_sheet_24 : decode cX6_sheet 24 = .ok (.ifCond .eq 9, 3) := by decide +kernel
theorem w63_24 {d : Nat} {st : List Value} {h : xH} {K : Option Value → xH → Prop} {ls : xL} {x : Int32} : wp d 63 24 ls (.int x :: st) h K ↔ ((x = 0) → wp d 63 33 ls st h K) ∧ ((¬ (x = 0)) → wp d 63 27 ls st h K) := w_if1 (i := 63) (pc := 24) (cd := .eq) (off := 9) (tgt := 33) dX6_sheet_24 (by decide) rfl
theorem dX6_sheet_27 : decode cX6_sheet 27 = .ok (.iload_n 3, 1) := by decide +kernel
theorem w63_27 {d : Nat} {st : List Value} {h : xH} {K : Option Value → xH → Prop} {l0 l1 l2 l4 : Option Value} {x : Int32} : wp d 63 27 [l0, l1, l2, some (.int x), l4] st h K ↔ wp d 63 28 [l0, l1, l2, some (.int x), l4] (.int x :: st) h K := w_any (i := 63) (pc := 27) dX6_sheet_27 rfl rfl
theorem dX6_sheet_28 : decode cX6_sheet 28 = .ok (.bipush 50, 2) := by decide +kernel
theorem w63_28 {d : Nat} {st : List Value} {h : xH} {K : Option Value → xH → Prop} {ls : xL} : wp d 63 28 ls st h K ↔ wp d 63 30 ls (.int 50 :: st) h K := w_bipush (i := 63) (pc := 28) dX6_sheet_28 (by decide)
theorem dX6_sheet_30 : decode cX6_sheet 30 = .ok (.if_icmp .le 6, 3) := by decide +kernel
theorem w63_30 {d : Nat} {st : List Value} {h : xH} {K : Option Value → xH → Prop} {ls : xL} {x y : Int32} : wp d 63 30 ls (.int y :: .int x :: st) h K ↔ ((x ≤ y) → wp d 63 36 ls st h K) ∧ ((¬ (x ≤ y)) → wp d 63 33 ls st h K) := w_if2 (i := 63) (pc := 30) (cd := .le) (off := 6) (tgt := 36) dX6_sheet_30 (by decide) rfl
theorem dX6_sheet_33 : decode cX6_sheet 33 = .ok (.bipush (-2), 2) := by decide +kernel
theorem w63_33 {d : Nat} {st : List Value} {h : xH} {K : Option Value → xH → Prop} {ls : xL} : wp d 63 33 ls st h K ↔ wp d 63 35 ls (.int (-2) :: st) h K := w_bipush (i := 63) (pc := 33) dX6_sheet_33 (by decide)
theorem dX6_sheet_35 : decode cX6_sheet 35 = .ok (.ireturn, 1) := by decide +kernel
theorem w63_35 {d : Nat} {h : xH} {K : Option Value → xH → Prop} {ls : xL} {x : Int32} : wp d 63 35 ls [.int x] h K ↔ K (some (.int x)) h := w_iret (i := 63) (pc := 35) dX6_sheet_35 rfl
theorem dX6_sheet_36 : decode cX6_sheet 36 = .ok (.iload_n 3, 1) := by decide +kernel
theorem w63_36 {d : Nat} {st : List Value} {h : xH} {K : Option Value → xH → Prop} {l0 l1 l2 l4 : Option Value} {x : Int32} : wp d 63 36 [l0, l1, l2, some (.int x), l4] st h K ↔ wp d 63 37 [l0, l1, l2, some (.int x), l4] (.int x :: st) h K := w_any (i := 63) (pc := 36) dX6_sheet_36 rfl rfl
theorem dX6_sheet_37 : decode cX6_sheet 37 = .ok (.ifCond .ge 9, 3) := by decide +kernel
theorem w63_37 {d : Nat} {st : List Value} {h : xH} {K : Option Value → xH → Prop} {ls : xL} {x : Int32} : wp d 63 37 ls (.int x :: st) h K ↔ ((0 ≤ x) → wp d 63 46 ls st h K) ∧ ((¬ (0 ≤ x)) → wp d 63 40 ls st h K) := w_if1 (i := 63) (pc := 37) (cd := .ge) (off := 9) (tgt := 46) dX6_sheet_37 (by decide) rfl
theorem dX6_sheet_40 : decode cX6_sheet 40 = .ok (.aload_n 0, 1) := by decide +kernel
theorem w63_40 {d : Nat} {st : List Value} {h : xH} {K : Option Value → xH → Prop} {l1 l2 l3 l4 : Option Value} {x : Nat} : wp d 63 40 [some (.ref x), l1, l2, l3, l4] st h K ↔ wp d 63 41 [some (.ref x), l1, l2, l3, l4] (.ref x :: st) h K := w_any (i := 63) (pc := 40) dX6_sheet_40 rfl rfl
theorem w63_40n {d : Nat} {st : List Value} {h : xH} {K : Option Value → xH → Prop} {l1 l2 l3 l4 : Option Value} : wp d 63 40 [some .null, l1, l2, l3, l4] st h K ↔ wp d 63 41 [some .null, l1, l2, l3, l4] (.null :: st) h K := w_any (i := 63) (pc := 40) dX6_sheet_40 rfl rfl
theorem dX6_sheet_41 : decode cX6_sheet 41 = .ok (.iconst 4, 1) := by decide +kernel
theorem w63_41 {d : Nat} {st : List Value} {h : xH} {K : Option Value → xH → Prop} {ls : xL} : wp d 63 41 ls st h K ↔ wp d 63 42 ls (.int 4 :: st) h K := w_iconst (i := 63) (pc := 41) dX6_sheet_41 (by decide)
theorem dX6_sheet_42 : decode cX6_sheet 42 = .ok (.invokevirtual 54, 3) := by decide +kernel
theorem w63_42 {d : Nat} {st : List Value} {h : xH} {K : Option Value → xH → Prop} {ls : xL} {a0 : Int32} {b : Nat} : wp (d + 1) 63 42 ls (.int a0 :: .ref b :: st) h K ↔ y_cls h b 7 ∧ xcs st ≤ 8 ∧ wp d 76 0 [some (.ref b), some (.int a0)] [] h (fun v h1 => wp (d + 1) 63 45 ls (v.toList ++ st) h1 K) := w_callW (i := 63) (pc := 42) (as := [.int a0]) (rest := st) dX6_sheet_42 rfl (by decide) rfl rfl (by decide) rfl rfl rfl rfl
theorem dX6_sheet_45 : decode cX6_sheet 45 = .ok (.ireturn, 1) := by decide +kernel
theorem w63_45 {d : Nat} {h : xH} {K : Option Value → xH → Prop} {ls : xL} {x : Int32} : wp d 63 45 ls [.int x] h K ↔ K (some (.int x)) h := w_iret (i := 63) (pc := 45) dX6_sheet_45 rfl
theorem dX6_sheet_46 : decode cX6_sheet 46 = .ok (.aload 4, 2) := by decide +kernel
theorem w63_46 {d : Nat} {st : List Value} {h : xH} {K : Option Value → xH → Prop} {l0 l1 l2 l3 : Option Value} {x : Nat} : wp d 63 46 [l0, l1, l2, l3, some (.ref x)] st h K ↔ wp d 63 48 [l0, l1, l2, l3, some (.ref x)] (.ref x :: st) h K := w_any (i := 63) (pc := 46) dX6_sheet_46 rfl rfl
theorem w63_46n {d : Nat} {st : List Value} {h : xH} {K : Option Value → xH → Prop} {l0 l1 l2 l3 : Option Value} : wp d 63 46 [l0, l1, l2, l3, some .null] st h K ↔ wp d 63 48 [l0, l1, l2, l3, some .null] (.null :: st) h K := w_any (i := 63) (pc := 46) dX6_sheet_46 rfl rfl
theorem dX6_sheet_48 : decode cX6_sheet 48 = .ok (.iload_n 2, 1) := by decide +kernel
theorem w63_48 {d : Nat} {st : List Value} {h : xH} {K : Option Value → xH → Prop} {l0 l1 l3 l4 : Option Value} {x : Int32} : wp d 63 48 [l0, l1, some (.int x), l3, l4] st h K ↔ wp d 63 49 [l0, l1, some (.int x), l3, l4] (.int x :: st) h K := w_any (i := 63) (pc := 48) dX6_sheet_48 rfl rfl
theorem dX6_sheet_49 : decode cX6_sheet 49 = .ok (.iload_n 3, 1) := by decide +kernel
theorem w63_49 {d : Nat} {st : List Value} {h : xH} {K : Option Value → xH → Prop} {l0 l1 l2 l4 : Option Value} {x : Int32} : wp d 63 49 [l0, l1, l2, some (.int x), l4] st h K ↔ wp d 63 50 [l0, l1, l2, some (.int x), l4] (.int x :: st) h K := w_any (i := 63) (pc := 49) dX6_sheet_49 rfl rfl
theorem dX6_sheet_50 : decode cX6_sheet 50 = .ok (.invokevirtual 197, 3) := by decide +kernel
theorem w63_50 {d : Nat} {st : List Value} {h : xH} {K : Option Value → xH → Prop} {ls : xL} {a0 : Int32} {a1 : Int32} {b : Nat} : wp (d + 1) 63 50 ls (.int a1 :: .int a0 :: .ref b :: st) h K ↔ y_cls h b 5 ∧ xcs st ≤ 8 ∧ wp d 29 0 [some (.ref b), some (.int a0), some (.int a1)] [] h (fun v h1 => wp (d + 1) 63 53 ls (v.toList ++ st) h1 K) := w_callW (i := 63) (pc := 50) (as := [.int a0, .int a1]) (rest := st) dX6_sheet_50 rfl (by decide) rfl rfl (by decide) rfl rfl rfl rfl
theorem dX6_sheet_53 : decode cX6_sheet 53 = .ok (.iconst 1, 1) := by decide +kernel
theorem w63_53 {d : Nat} {st : List Value} {h : xH} {K : Option Value → xH → Prop} {ls : xL} : wp d 63 53 ls st h K ↔ wp d 63 54 ls (.int 1 :: st) h K := w_iconst (i := 63) (pc := 53) dX6_sheet_53 (by decide)
theorem dX6_sheet_54 : decode cX6_sheet 54 = .ok (.ireturn, 1) := by decide +kernel
theorem w63_54 {d : Nat} {h : xH} {K : Option Value → xH → Prop} {ls : xL} {x : Int32} : wp d 63 54 ls [.int x] h K ↔ K (some (.int x)) h := w_iret (i := 63) (pc := 54) dX6_sheet_54 rfl
theorem dX6_put_0 : decode cX6_put 0 = .ok (.aload_n 0, 1) := by decide +kernel
theorem w65_0 {d : Nat} {st : List Value} {h : xH} {K : Option Value → xH → Prop} {l1 l2 l3 l4 : Option Value} {x : Nat} : wp d 65 0 [some (.ref x), l1, l2, l3, l4] st h K ↔ wp d 65 1 [some (.ref x), l1, l2, l3, l4] (.ref x :: st) h K := w_any (i := 65) (pc := 0) dX6_put_0 rfl rfl
theorem w65_0n {d : Nat} {st : List Value} {h : xH} {K : Option Value → xH → Prop} {l1 l2 l3 l4 : Option Value} : wp d 65 0 [some .null, l1, l2, l3, l4] st h K ↔ wp d 65 1 [some .null, l1, l2, l3, l4] (.null :: st) h K := w_any (i := 65) (pc := 0) dX6_put_0 rfl rfl
theorem dX6_put_1 : decode cX6_put 1 = .ok (.iconst 0, 1) := by decide +kernel
theorem w65_1 {d : Nat} {st : List Value} {h : xH} {K : Option Value → xH → Prop} {ls : xL} : wp d 65 1 ls st h K ↔ wp d 65 2 ls (.int 0 :: st) h K := w_iconst (i := 65) (pc := 1) dX6_put_1 (by decide)
theorem dX6_put_2 : decode cX6_put 2 = .ok (.putfield 35, 3) := by decide +kernel
theorem w65_2 {d : Nat} {st : List Value} {h : xH} {K : Option Value → xH → Prop} {ls : xL} {x : Int32} {a : Nat} : wp d 65 2 ls (.int x :: .ref a :: st) h K ↔ y_put h a 7 5 (.int x) (fun h1 => wp d 65 5 ls st h1 K) := w_put (i := 65) (pc := 2) dX6_put_2 rfl trivial (Or.inl rfl)
theorem dX6_put_5 : decode cX6_put 5 = .ok (.aload_n 0, 1) := by decide +kernel
theorem w65_5 {d : Nat} {st : List Value} {h : xH} {K : Option Value → xH → Prop} {l1 l2 l3 l4 : Option Value} {x : Nat} : wp d 65 5 [some (.ref x), l1, l2, l3, l4] st h K ↔ wp d 65 6 [some (.ref x), l1, l2, l3, l4] (.ref x :: st) h K := w_any (i := 65) (pc := 5) dX6_put_5 rfl rfl
theorem w65_5n {d : Nat} {st : List Value} {h : xH} {K : Option Value → xH → Prop} {l1 l2 l3 l4 : Option Value} : wp d 65 5 [some .null, l1, l2, l3, l4] st h K ↔ wp d 65 6 [some .null, l1, l2, l3, l4] (.null :: st) h K := w_any (i := 65) (pc := 5) dX6_put_5 rfl rfl
theorem dX6_put_6 : decode cX6_put 6 = .ok (.iload_n 1, 1) := by decide +kernel
theorem w65_6 {d : Nat} {st : List Value} {h : xH} {K : Option Value → xH → Prop} {l0 l2 l3 l4 : Option Value} {x : Int32} : wp d 65 6 [l0, some (.int x), l2, l3, l4] st h K ↔ wp d 65 7 [l0, some (.int x), l2, l3, l4] (.int x :: st) h K := w_any (i := 65) (pc := 6) dX6_put_6 rfl rfl
theorem dX6_put_7 : decode cX6_put 7 = .ok (.invokevirtual 39, 3) := by decide +kernel
theorem w65_7 {d : Nat} {st : List Value} {h : xH} {K : Option Value → xH → Prop} {ls : xL} {a0 : Int32} {b : Nat} : wp (d + 1) 65 7 ls (.int a0 :: .ref b :: st) h K ↔ y_cls h b 7 ∧ xcs st ≤ 8 ∧ wp d 77 0 [some (.ref b), some (.int a0)] [] h (fun v h1 => wp (d + 1) 65 10 ls (v.toList ++ st) h1 K) := w_callW (i := 65) (pc := 7) (as := [.int a0]) (rest := st) dX6_put_7 rfl (by decide) rfl rfl (by decide) rfl rfl rfl rfl
theorem dX6_put_10 : decode cX6_put 10 = .ok (.astore 4, 2) := by decide +kernel
theorem w65_10 {d : Nat} {st : List Value} {h : xH} {K : Option Value → xH → Prop} {l0 l1 l2 l3 l4 : Option Value} {x : Nat} : wp d 65 10 [l0, l1, l2, l3, l4] (.ref x :: st) h K ↔ wp d 65 12 [l0, l1, l2, xk l3, some (.ref x)] st h K := w_astore (i := 65) (pc := 10) dX6_put_10 (Nat.le_of_ble_eq_true rfl) (show xst1 [l0, l1, l2, l3, l4] 4 (.ref x) = [l0, l1, l2, xk l3, some (.ref x)] by simp only [xst1_0, xst1_1, xst1_s, Nat.reduceAdd])
theorem w65_10n {d : Nat} {st : List Value} {h : xH} {K : Option Value → xH → Prop} {l0 l1 l2 l3 l4 : Option Value} : wp d 65 10 [l0, l1, l2, l3, l4] (.null :: st) h K ↔ wp d 65 12 [l0, l1, l2, xk l3, some (.null)] st h K := w_astoreN (i := 65) (pc := 10) dX6_put_10 (Nat.le_of_ble_eq_true rfl) (show xst1 [l0, l1, l2, l3, l4] 4 (.null) = [l0, l1, l2, xk l3, some (.null)] by simp only [xst1_0, xst1_1, xst1_s, Nat.reduceAdd])
theorem dX6_put_12 : decode cX6_put 12 = .ok (.aload 4, 2) := by decide +kernel
theorem w65_12 {d : Nat} {st : List Value} {h : xH} {K : Option Value → xH → Prop} {l0 l1 l2 l3 : Option Value} {x : Nat} : wp d 65 12 [l0, l1, l2, l3, some (.ref x)] st h K ↔ wp d 65 14 [l0, l1, l2, l3, some (.ref x)] (.ref x :: st) h K := w_any (i := 65) (pc := 12) dX6_put_12 rfl rfl
theorem w65_12n {d : Nat} {st : List Value} {h : xH} {K : Option Value → xH → Prop} {l0 l1 l2 l3 : Option Value} : wp d 65 12 [l0, l1, l2, l3, some .null] st h K ↔ wp d 65 14 [l0, l1, l2, l3, some .null] (.null :: st) h K := w_any (i := 65) (pc := 12) dX6_put_12 rfl rfl
theorem dX6_put_14 : decode cX6_put 14 = .ok (.ifnonnull 5, 3) := by decide +kernel
theorem w65_14 {d : Nat} {st : List Value} {h : xH} {K : Option Value → xH → Prop} {ls : xL} {x : Nat} : wp d 65 14 ls (.ref x :: st) h K ↔ wp d 65 19 ls st h K := w_ifnonnull (i := 65) (pc := 14) dX6_put_14 (by decide) rfl
theorem w65_14n {d : Nat} {st : List Value} {h : xH} {K : Option Value → xH → Prop} {ls : xL} : wp d 65 14 ls (.null :: st) h K ↔ wp d 65 17 ls st h K := w_ifnonnullN (i := 65) (pc := 14) dX6_put_14
theorem dX6_put_17 : decode cX6_put 17 = .ok (.iconst (-1), 1) := by decide +kernel
theorem w65_17 {d : Nat} {st : List Value} {h : xH} {K : Option Value → xH → Prop} {ls : xL} : wp d 65 17 ls st h K ↔ wp d 65 18 ls (.int (-1) :: st) h K := w_iconst (i := 65) (pc := 17) dX6_put_17 (by decide)
theorem dX6_put_18 : decode cX6_put 18 = .ok (.ireturn, 1) := by decide +kernel
theorem w65_18 {d : Nat} {h : xH} {K : Option Value → xH → Prop} {ls : xL} {x : Int32} : wp d 65 18 ls [.int x] h K ↔ K (some (.int x)) h := w_iret (i := 65) (pc := 18) dX6_put_18 rfl
theorem dX6_put_19 : decode cX6_put 19 = .ok (.aload 4, 2) := by decide +kernel
theorem w65_19 {d : Nat} {st : List Value} {h : xH} {K : Option Value → xH → Prop} {l0 l1 l2 l3 : Option Value} {x : Nat} : wp d 65 19 [l0, l1, l2, l3, some (.ref x)] st h K ↔ wp d 65 21 [l0, l1, l2, l3, some (.ref x)] (.ref x :: st) h K := w_any (i := 65) (pc := 19) dX6_put_19 rfl rfl
theorem w65_19n {d : Nat} {st : List Value} {h : xH} {K : Option Value → xH → Prop} {l0 l1 l2 l3 : Option Value} : wp d 65 19 [l0, l1, l2, l3, some .null] st h K ↔ wp d 65 21 [l0, l1, l2, l3, some .null] (.null :: st) h K := w_any (i := 65) (pc := 19) dX6_put_19 rfl rfl
theorem dX6_put_21 : decode cX6_put 21 = .ok (.invokevirtual 200, 3) := by decide +kernel
theorem w65_21 {d : Nat} {st : List Value} {h : xH} {K : Option Value → xH → Prop} {ls : xL} {b : Nat} : wp (d + 1) 65 21 ls (.ref b :: st) h K ↔ y_cls h b 5 ∧ xcs st ≤ 8 ∧ wp d 27 0 [some (.ref b)] [] h (fun v h1 => wp (d + 1) 65 24 ls (v.toList ++ st) h1 K) := w_callW (i := 65) (pc := 21) (as := []) (rest := st) dX6_put_21 rfl (by decide) rfl rfl (by decide) rfl rfl rfl rfl
theorem dX6_put_24 : decode cX6_put 24 = .ok (.ifCond .eq 9, 3) := by decide +kernel
theorem w65_24 {d : Nat} {st : List Value} {h : xH} {K : Option Value → xH → Prop} {ls : xL} {x : Int32} : wp d 65 24 ls (.int x :: st) h K ↔ ((x = 0) → wp d 65 33 ls st h K) ∧ ((¬ (x = 0)) → wp d 65 27 ls st h K) := w_if1 (i := 65) (pc := 24) (cd := .eq) (off := 9) (tgt := 33) dX6_put_24 (by decide) rfl
theorem dX6_put_27 : decode cX6_put 27 = .ok (.aload_n 0, 1) := by decide +kernel
theorem w65_27 {d : Nat} {st : List Value} {h : xH} {K : Option Value → xH → Prop} {l1 l2 l3 l4 : Option Value} {x : Nat} : wp d 65 27 [some (.ref x), l1, l2, l3, l4] st h K ↔ wp d 65 28 [some (.ref x), l1, l2, l3, l4] (.ref x :: st) h K := w_any (i := 65) (pc := 27) dX6_put_27 rfl rfl
theorem w65_27n {d : Nat} {st : List Value} {h : xH} {K : Option Value → xH → Prop} {l1 l2 l3 l4 : Option Value} : wp d 65 27 [some .null, l1, l2, l3, l4] st h K ↔ wp d 65 28 [some .null, l1, l2, l3, l4] (.null :: st) h K := w_any (i := 65) (pc := 27) dX6_put_27 rfl rfl
theorem dX6_put_28 : decode cX6_put 28 = .ok (.iconst 1, 1) := by decide +kernel
theorem w65_28 {d : Nat} {st : List Value} {h : xH} {K : Option Value → xH → Prop} {ls : xL} : wp d 65 28 ls st h K ↔ wp d 65 29 ls (.int 1 :: st) h K := w_iconst (i := 65) (pc := 28) dX6_put_28 (by decide)
theorem dX6_put_29 : decode cX6_put 29 = .ok (.invokevirtual 54, 3) := by decide +kernel
theorem w65_29 {d : Nat} {st : List Value} {h : xH} {K : Option Value → xH → Prop} {ls : xL} {a0 : Int32} {b : Nat} : wp (d + 1) 65 29 ls (.int a0 :: .ref b :: st) h K ↔ y_cls h b 7 ∧ xcs st ≤ 8 ∧ wp d 76 0 [some (.ref b), some (.int a0)] [] h (fun v h1 => wp (d + 1) 65 32 ls (v.toList ++ st) h1 K) := w_callW (i := 65) (pc := 29) (as := [.int a0]) (rest := st) dX6_put_29 rfl (by decide) rfl rfl (by decide) rfl rfl rfl rfl
theorem dX6_put_32 : decode cX6_put 32 = .ok (.ireturn, 1) := by decide +kernel
theorem w65_32 {d : Nat} {h : xH} {K : Option Value → xH → Prop} {ls : xL} {x : Int32} : wp d 65 32 ls [.int x] h K ↔ K (some (.int x)) h := w_iret (i := 65) (pc := 32) dX6_put_32 rfl
theorem dX6_put_33 : decode cX6_put 33 = .ok (.aload 4, 2) := by decide +kernel
theorem w65_33 {d : Nat} {st : List Value} {h : xH} {K : Option Value → xH → Prop} {l0 l1 l2 l3 : Option Value} {x : Nat} : wp d 65 33 [l0, l1, l2, l3, some (.ref x)] st h K ↔ wp d 65 35 [l0, l1, l2, l3, some (.ref x)] (.ref x :: st) h K := w_any (i := 65) (pc := 33) dX6_put_33 rfl rfl
theorem w65_33n {d : Nat} {st : List Value} {h : xH} {K : Option Value → xH → Prop} {l0 l1 l2 l3 : Option Value} : wp d 65 33 [l0, l1, l2, l3, some .null] st h K ↔ wp d 65 35 [l0, l1, l2, l3, some .null] (.null :: st) h K := w_any (i := 65) (pc := 33) dX6_put_33 rfl rfl
theorem dX6_put_35 : decode cX6_put 35 = .ok (.iload_n 2, 1) := by decide +kernel
theorem w65_35 {d : Nat} {st : List Value} {h : xH} {K : Option Value → xH → Prop} {l0 l1 l3 l4 : Option Value} {x : Int32} : wp d 65 35 [l0, l1, some (.int x), l3, l4] st h K ↔ wp d 65 36 [l0, l1, some (.int x), l3, l4] (.int x :: st) h K := w_any (i := 65) (pc := 35) dX6_put_35 rfl rfl
theorem dX6_put_36 : decode cX6_put 36 = .ok (.invokevirtual 206, 3) := by decide +kernel
theorem w65_36 {d : Nat} {st : List Value} {h : xH} {K : Option Value → xH → Prop} {ls : xL} {a0 : Int32} {b : Nat} : wp (d + 1) 65 36 ls (.int a0 :: .ref b :: st) h K ↔ y_cls h b 5 ∧ xcs st ≤ 8 ∧ wp d 31 0 [some (.ref b), some (.int a0)] [] h (fun v h1 => wp (d + 1) 65 39 ls (v.toList ++ st) h1 K) := w_callW (i := 65) (pc := 36) (as := [.int a0]) (rest := st) dX6_put_36 rfl (by decide) rfl rfl (by decide) rfl rfl rfl rfl
theorem dX6_put_39 : decode cX6_put 39 = .ok (.ifCond .ne 9, 3) := by decide +kernel
theorem w65_39 {d : Nat} {st : List Value} {h : xH} {K : Option Value → xH → Prop} {ls : xL} {x : Int32} : wp d 65 39 ls (.int x :: st) h K ↔ ((¬ x = 0) → wp d 65 48 ls st h K) ∧ ((x = 0) → wp d 65 42 ls st h K) := (w_if1 (i := 65) (pc := 39) (cd := .ne) (off := 9) (tgt := 48) dX6_put_39 (by decide) rfl).trans (and_congr Iff.rfl (imp_congr Classical.not_not Iff.rfl))
theorem dX6_put_42 : decode cX6_put 42 = .ok (.aload_n 0, 1) := by decide +kernel
theorem w65_42 {d : Nat} {st : List Value} {h : xH} {K : Option Value → xH → Prop} {l1 l2 l3 l4 : Option Value} {x : Nat} : wp d 65 42 [some (.ref x), l1, l2, l3, l4] st h K ↔ wp d 65 43 [some (.ref x), l1, l2, l3, l4] (.ref x :: st) h K := w_any (i := 65) (pc := 42) dX6_put_42 rfl rfl
theorem w65_42n {d : Nat} {st : List Value} {h : xH} {K : Option Value → xH → Prop} {l1 l2 l3 l4 : Option Value} : wp d 65 42 [some .null, l1, l2, l3, l4] st h K ↔ wp d 65 43 [some .null, l1, l2, l3, l4] (.null :: st) h K := w_any (i := 65) (pc := 42) dX6_put_42 rfl rfl
theorem dX6_put_43 : decode cX6_put 43 = .ok (.iconst 3, 1) := by decide +kernel
theorem w65_43 {d : Nat} {st : List Value} {h : xH} {K : Option Value → xH → Prop} {ls : xL} : wp d 65 43 ls st h K ↔ wp d 65 44 ls (.int 3 :: st) h K := w_iconst (i := 65) (pc := 43) dX6_put_43 (by decide)
theorem dX6_put_44 : decode cX6_put 44 = .ok (.invokevirtual 54, 3) := by decide +kernel
theorem w65_44 {d : Nat} {st : List Value} {h : xH} {K : Option Value → xH → Prop} {ls : xL} {a0 : Int32} {b : Nat} : wp (d + 1) 65 44 ls (.int a0 :: .ref b :: st) h K ↔ y_cls h b 7 ∧ xcs st ≤ 8 ∧ wp d 76 0 [some (.ref b), some (.int a0)] [] h (fun v h1 => wp (d + 1) 65 47 ls (v.toList ++ st) h1 K) := w_callW (i := 65) (pc := 44) (as := [.int a0]) (rest := st) dX6_put_44 rfl (by decide) rfl rfl (by decide) rfl rfl rfl rfl
theorem dX6_put_47 : decode cX6_put 47 = .ok (.ireturn, 1) := by decide +kernel
theorem w65_47 {d : Nat} {h : xH} {K : Option Value → xH → Prop} {ls : xL} {x : Int32} : wp d 65 47 ls [.int x] h K ↔ K (some (.int x)) h := w_iret (i := 65) (pc := 47) dX6_put_47 rfl
theorem dX6_put_48 : decode cX6_put 48 = .ok (.aload 4, 2) := by decide +kernel
theorem w65_48 {d : Nat} {st : List Value} {h : xH} {K : Option Value → xH → Prop} {l0 l1 l2 l3 : Option Value} {x : Nat} : wp d 65 48 [l0, l1, l2, l3, some (.ref x)] st h K ↔ wp d 65 50 [l0, l1, l2, l3, some (.ref x)] (.ref x :: st) h K := w_any (i := 65) (pc := 48) dX6_put_48 rfl rfl
theorem w65_48n {d : Nat} {st : List Value} {h : xH} {K : Option Value → xH → Prop} {l0 l1 l2 l3 : Option Value} : wp d 65 48 [l0, l1, l2, l3, some .null] st h K ↔ wp d 65 50 [l0, l1, l2, l3, some .null] (.null :: st) h K := w_any (i := 65) (pc := 48) dX6_put_48 rfl rfl
theorem dX6_put_50 : decode cX6_put 50 = .ok (.iload_n 2, 1) := by decide +kernel
theorem w65_50 {d : Nat} {st : List Value} {h : xH} {K : Option Value → xH → Prop} {l0 l1 l3 l4 : Option Value} {x : Int32} : wp d 65 50 [l0, l1, some (.int x), l3, l4] st h K ↔ wp d 65 51 [l0, l1, some (.int x), l3, l4] (.int x :: st) h K := w_any (i := 65) (pc := 50) dX6_put_50 rfl rfl
theorem dX6_put_51 : decode cX6_put 51 = .ok (.iload_n 3, 1) := by decide +kernel
theorem w65_51 {d : Nat} {st : List Value} {h : xH} {K : Option Value → xH → Prop} {l0 l1 l2 l4 : Option Value} {x : Int32} : wp d 65 51 [l0, l1, l2, some (.int x), l4] st h K ↔ wp d 65 52 [l0, l1, l2, some (.int x), l4] (.int x :: st) h K := w_any (i := 65) (pc := 51) dX6_put_51 rfl rfl
theorem dX6_put_52 : decode cX6_put 52 = .ok (.invokevirtual 209, 3) := by decide +kernel
theorem w65_52 {d : Nat} {st : List Value} {h : xH} {K : Option Value → xH → Prop} {ls : xL} {a0 : Int32} {a1 : Int32} {b : Nat} : wp (d + 1) 65 52 ls (.int a1 :: .int a0 :: .ref b :: st) h K ↔ y_cls h b 5 ∧ xcs st ≤ 8 ∧ wp d 34 0 [some (.ref b), some (.int a0), some (.int a1)] [] h (fun v h1 => wp (d + 1) 65 55 ls (v.toList ++ st) h1 K) := w_callW (i := 65) (pc := 52) (as := [.int a0, .int a1]) (rest := st) dX6_put_52 rfl (by decide) rfl rfl (by decide) rfl rfl rfl rfl
theorem dX6_put_55 : decode cX6_put 55 = .ok (.iconst 1, 1) := by decide +kernel
theorem w65_55 {d : Nat} {st : List Value} {h : xH} {K : Option Value → xH → Prop} {ls : xL} : wp d 65 55 ls st h K ↔ wp d 65 56 ls (.int 1 :: st) h K := w_iconst (i := 65) (pc := 55) dX6_put_55 (by decide)
theorem dX6_put_56 : decode cX6_put 56 = .ok (.ireturn, 1) := by decide +kernel
theorem w65_56 {d : Nat} {h : xH} {K : Option Value → xH → Prop} {ls : xL} {x : Int32} : wp d 65 56 ls [.int x] h K ↔ K (some (.int x)) h := w_iret (i := 65) (pc := 56) dX6_put_56 rfl
theorem dX6_many_0 : decode cX6_many 0 = .ok (.iload_n 1, 1) := by decide +kernel
theorem w73_0 {d : Nat} {st : List Value} {h : xH} {K : Option Value → xH → Prop} {l0 : Option Value} {x : Int32} : wp d 73 0 [l0, some (.int x)] st h K ↔ wp d 73 1 [l0, some (.int x)] (.int x :: st) h K := w_any (i := 73) (pc := 0) dX6_many_0 rfl rfl
theorem dX6_many_1 : decode cX6_many 1 = .ok (.tableswitch 72 0 3 #[31, 42, 53, 64], 31) := by decide +kernel
theorem w73_1 {d : Nat} {st : List Value} {h : xH} {K : Option Value → xH → Prop} {ls : xL} {x : Int32} : wp d 73 1 ls (.int x :: st) h K ↔ (x.toInt < 0 ∨ 3 < x.toInt → wp d 73 73 ls st h K) ∧ (x.toInt = 0 → wp d 73 32 ls st h K) ∧ (x.toInt = 1 → wp d 73 43 ls st h K) ∧ (x.toInt = 2 → wp d 73 54 ls st h K) ∧ (x.toInt = 3 → wp d 73 65 ls st h K) := (w_any (i := 73) (pc := 1) dX6_many_1 rfl rfl).trans (by simp [exI, i_tab, xtab, xtgt])
theorem dX6_many_32 : decode cX6_many 32 = .ok (.aload_n 0, 1) := by decide +kernel
theorem w73_32 {d : Nat} {st : List Value} {h : xH} {K : Option Value → xH → Prop} {l1 : Option Value} {x : Nat} : wp d 73 32 [some (.ref x), l1] st h K ↔ wp d 73 33 [some (.ref x), l1] (.ref x :: st) h K := w_any (i := 73) (pc := 32) dX6_many_32 rfl rfl
theorem w73_32n {d : Nat} {st : List Value} {h : xH} {K : Option Value → xH → Prop} {l1 : Option Value} : wp d 73 32 [some .null, l1] st h K ↔ wp d 73 33 [some .null, l1] (.null :: st) h K := w_any (i := 73) (pc := 32) dX6_many_32 rfl rfl
theorem dX6_many_33 : decode cX6_many 33 = .ok (.getfield 14, 3) := by decide +kernel
theorem w73_33 {d : Nat} {st : List Value} {h : xH} {K : Option Value → xH → Prop} {ls : xL} {a : Nat} : wp d 73 33 ls (.ref a :: st) h K ↔ y_get h a 7 0 (fun v => wp d 73 36 ls (v :: st) h K) := w_get (i := 73) (pc := 33) dX6_many_33 rfl
theorem dX6_many_36 : decode cX6_many 36 = .ok (.getfield 65, 3) := by decide +kernel
theorem w73_36 {d : Nat} {st : List Value} {h : xH} {K : Option Value → xH → Prop} {ls : xL} {a : Nat} : wp d 73 36 ls (.ref a :: st) h K ↔ y_get h a 1 0 (fun v => wp d 73 39 ls (v :: st) h K) := w_get (i := 73) (pc := 36) dX6_many_36 rfl
theorem dX6_many_39 : decode cX6_many 39 = .ok (.getfield 69, 3) := by decide +kernel
theorem w73_39 {d : Nat} {st : List Value} {h : xH} {K : Option Value → xH → Prop} {ls : xL} {a : Nat} : wp d 73 39 ls (.ref a :: st) h K ↔ y_get h a 3 2 (fun v => wp d 73 42 ls (v :: st) h K) := w_get (i := 73) (pc := 39) dX6_many_39 rfl
theorem dX6_many_42 : decode cX6_many 42 = .ok (.ireturn, 1) := by decide +kernel
theorem w73_42 {d : Nat} {h : xH} {K : Option Value → xH → Prop} {ls : xL} {x : Int32} : wp d 73 42 ls [.int x] h K ↔ K (some (.int x)) h := w_iret (i := 73) (pc := 42) dX6_many_42 rfl
theorem dX6_many_43 : decode cX6_many 43 = .ok (.aload_n 0, 1) := by decide +kernel
theorem w73_43 {d : Nat} {st : List Value} {h : xH} {K : Option Value → xH → Prop} {l1 : Option Value} {x : Nat} : wp d 73 43 [some (.ref x), l1] st h K ↔ wp d 73 44 [some (.ref x), l1] (.ref x :: st) h K := w_any (i := 73) (pc := 43) dX6_many_43 rfl rfl
theorem w73_43n {d : Nat} {st : List Value} {h : xH} {K : Option Value → xH → Prop} {l1 : Option Value} : wp d 73 43 [some .null, l1] st h K ↔ wp d 73 44 [some .null, l1] (.null :: st) h K := w_any (i := 73) (pc := 43) dX6_many_43 rfl rfl
theorem dX6_many_44 : decode cX6_many 44 = .ok (.getfield 14, 3) := by decide +kernel
theorem w73_44 {d : Nat} {st : List Value} {h : xH} {K : Option Value → xH → Prop} {ls : xL} {a : Nat} : wp d 73 44 ls (.ref a :: st) h K ↔ y_get h a 7 0 (fun v => wp d 73 47 ls (v :: st) h K) := w_get (i := 73) (pc := 44) dX6_many_44 rfl
theorem dX6_many_47 : decode cX6_many 47 = .ok (.getfield 65, 3) := by decide +kernel
theorem w73_47 {d : Nat} {st : List Value} {h : xH} {K : Option Value → xH → Prop} {ls : xL} {a : Nat} : wp d 73 47 ls (.ref a :: st) h K ↔ y_get h a 1 0 (fun v => wp d 73 50 ls (v :: st) h K) := w_get (i := 73) (pc := 47) dX6_many_47 rfl
theorem dX6_many_50 : decode cX6_many 50 = .ok (.getfield 246, 3) := by decide +kernel
theorem w73_50 {d : Nat} {st : List Value} {h : xH} {K : Option Value → xH → Prop} {ls : xL} {a : Nat} : wp d 73 50 ls (.ref a :: st) h K ↔ y_get h a 3 1 (fun v => wp d 73 53 ls (v :: st) h K) := w_get (i := 73) (pc := 50) dX6_many_50 rfl
theorem dX6_many_53 : decode cX6_many 53 = .ok (.ireturn, 1) := by decide +kernel
theorem w73_53 {d : Nat} {h : xH} {K : Option Value → xH → Prop} {ls : xL} {x : Int32} : wp d 73 53 ls [.int x] h K ↔ K (some (.int x)) h := w_iret (i := 73) (pc := 53) dX6_many_53 rfl
theorem dX6_many_54 : decode cX6_many 54 = .ok (.aload_n 0, 1) := by decide +kernel
theorem w73_54 {d : Nat} {st : List Value} {h : xH} {K : Option Value → xH → Prop} {l1 : Option Value} {x : Nat} : wp d 73 54 [some (.ref x), l1] st h K ↔ wp d 73 55 [some (.ref x), l1] (.ref x :: st) h K := w_any (i := 73) (pc := 54) dX6_many_54 rfl rfl
theorem w73_54n {d : Nat} {st : List Value} {h : xH} {K : Option Value → xH → Prop} {l1 : Option Value} : wp d 73 54 [some .null, l1] st h K ↔ wp d 73 55 [some .null, l1] (.null :: st) h K := w_any (i := 73) (pc := 54) dX6_many_54 rfl rfl
theorem dX6_many_55 : decode cX6_many 55 = .ok (.getfield 14, 3) := by decide +kernel
theorem w73_55 {d : Nat} {st : List Value} {h : xH} {K : Option Value → xH → Prop} {ls : xL} {a : Nat} : wp d 73 55 ls (.ref a :: st) h K ↔ y_get h a 7 0 (fun v => wp d 73 58 ls (v :: st) h K) := w_get (i := 73) (pc := 55) dX6_many_55 rfl
theorem dX6_many_58 : decode cX6_many 58 = .ok (.getfield 88, 3) := by decide +kernel
theorem w73_58 {d : Nat} {st : List Value} {h : xH} {K : Option Value → xH → Prop} {ls : xL} {a : Nat} : wp d 73 58 ls (.ref a :: st) h K ↔ y_get h a 1 2 (fun v => wp d 73 61 ls (v :: st) h K) := w_get (i := 73) (pc := 58) dX6_many_58 rfl
theorem dX6_many_61 : decode cX6_many 61 = .ok (.invokevirtual 91, 3) := by decide +kernel
theorem w73_61 {d : Nat} {st : List Value} {h : xH} {K : Option Value → xH → Prop} {ls : xL} {b : Nat} : wp (d + 1) 73 61 ls (.ref b :: st) h K ↔ y_cls h b 0 ∧ xcs st ≤ 8 ∧ wp d 160 0 [some (.ref b)] [] h (fun v h1 => wp (d + 1) 73 64 ls (v.toList ++ st) h1 K) := w_callW (i := 73) (pc := 61) (as := []) (rest := st) dX6_many_61 rfl (by decide) rfl rfl (by decide) rfl rfl rfl rfl
theorem dX6_many_64 : decode cX6_many 64 = .ok (.ireturn, 1) := by decide +kernel
theorem w73_64 {d : Nat} {h : xH} {K : Option Value → xH → Prop} {ls : xL} {x : Int32} : wp d 73 64 ls [.int x] h K ↔ K (some (.int x)) h := w_iret (i := 73) (pc := 64) dX6_many_64 rfl
theorem dX6_many_65 : decode cX6_many 65 = .ok (.aload_n 0, 1) := by decide +kernel
theorem w73_65 {d : Nat} {st : List Value} {h : xH} {K : Option Value → xH → Prop} {l1 : Option Value} {x : Nat} : wp d 73 65 [some (.ref x), l1] st h K ↔ wp d 73 66 [some (.ref x), l1] (.ref x :: st) h K := w_any (i := 73) (pc := 65) dX6_many_65 rfl rfl
theorem w73_65n {d : Nat} {st : List Value} {h : xH} {K : Option Value → xH → Prop} {l1 : Option Value} : wp d 73 65 [some .null, l1] st h K ↔ wp d 73 66 [some .null, l1] (.null :: st) h K := w_any (i := 73) (pc := 65) dX6_many_65 rfl rfl
theorem dX6_many_66 : decode cX6_many 66 = .ok (.getfield 24, 3) := by decide +kernel
theorem w73_66 {d : Nat} {st : List Value} {h : xH} {K : Option Value → xH → Prop} {ls : xL} {a : Nat} : wp d 73 66 ls (.ref a :: st) h K ↔ y_get h a 7 2 (fun v => wp d 73 69 ls (v :: st) h K) := w_get (i := 73) (pc := 66) dX6_many_66 rfl
theorem dX6_many_69 : decode cX6_many 69 = .ok (.invokevirtual 91, 3) := by decide +kernel
theorem w73_69 {d : Nat} {st : List Value} {h : xH} {K : Option Value → xH → Prop} {ls : xL} {b : Nat} : wp (d + 1) 73 69 ls (.ref b :: st) h K ↔ y_cls h b 0 ∧ xcs st ≤ 8 ∧ wp d 160 0 [some (.ref b)] [] h (fun v h1 => wp (d + 1) 73 72 ls (v.toList ++ st) h1 K) := w_callW (i := 73) (pc := 69) (as := []) (rest := st) dX6_many_69 rfl (by decide) rfl rfl (by decide) rfl rfl rfl rfl
theorem dX6_many_72 : decode cX6_many 72 = .ok (.ireturn, 1) := by decide +kernel
theorem w73_72 {d : Nat} {h : xH} {K : Option Value → xH → Prop} {ls : xL} {x : Int32} : wp d 73 72 ls [.int x] h K ↔ K (some (.int x)) h := w_iret (i := 73) (pc := 72) dX6_many_72 rfl
theorem dX6_many_73 : decode cX6_many 73 = .ok (.bipush (-2), 2) := by decide +kernel
theorem w73_73 {d : Nat} {st : List Value} {h : xH} {K : Option Value → xH → Prop} {ls : xL} : wp d 73 73 ls st h K ↔ wp d 73 75 ls (.int (-2) :: st) h K := w_bipush (i := 73) (pc := 73) dX6_many_73 (by decide)
theorem dX6_many_75 : decode cX6_many 75 = .ok (.ireturn, 1) := by decide +kernel
theorem w73_75 {d : Nat} {h : xH} {K : Option Value → xH → Prop} {ls : xL} {x : Int32} : wp d 73 75 ls [.int x] h K ↔ K (some (.int x)) h := w_iret (i := 73) (pc := 75) dX6_many_75 rfl
theorem dX6_isBelow_0 : decode cX6_isBelow 0 = .ok (.iload_n 0, 1) := by decide +kernel
theorem w74_0 {d : Nat} {st : List Value} {h : xH} {K : Option Value → xH → Prop} {l1 : Option Value} {x : Int32} : wp d 74 0 [some (.int x), l1] st h K ↔ wp d 74 1 [some (.int x), l1] (.int x :: st) h K := w_any (i := 74) (pc := 0) dX6_isBelow_0 rfl rfl
theorem dX6_isBelow_1 : decode cX6_isBelow 1 = .ok (.ifCond .lt 12, 3) := by decide +kernel
theorem w74_1 {d : Nat} {st : List Value} {h : xH} {K : Option Value → xH → Prop} {ls : xL} {x : Int32} : wp d 74 1 ls (.int x :: st) h K ↔ ((x < 0) → wp d 74 13 ls st h K) ∧ ((¬ (x < 0)) → wp d 74 4 ls st h K) := w_if1 (i := 74) (pc := 1) (cd := .lt) (off := 12) (tgt := 13) dX6_isBelow_1 (by decide) rfl
theorem dX6_isBelow_4 : decode cX6_isBelow 4 = .ok (.iload_n 0, 1) := by decide +kernel
theorem w74_4 {d : Nat} {st : List Value} {h : xH} {K : Option Value → xH → Prop} {l1 : Option Value} {x : Int32} : wp d 74 4 [some (.int x), l1] st h K ↔ wp d 74 5 [some (.int x), l1] (.int x :: st) h K := w_any (i := 74) (pc := 4) dX6_isBelow_4 rfl rfl
theorem dX6_isBelow_5 : decode cX6_isBelow 5 = .ok (.iload_n 1, 1) := by decide +kernel
theorem w74_5 {d : Nat} {st : List Value} {h : xH} {K : Option Value → xH → Prop} {l0 : Option Value} {x : Int32} : wp d 74 5 [l0, some (.int x)] st h K ↔ wp d 74 6 [l0, some (.int x)] (.int x :: st) h K := w_any (i := 74) (pc := 5) dX6_isBelow_5 rfl rfl
theorem dX6_isBelow_6 : decode cX6_isBelow 6 = .ok (.if_icmp .ge 7, 3) := by decide +kernel
theorem w74_6 {d : Nat} {st : List Value} {h : xH} {K : Option Value → xH → Prop} {ls : xL} {x y : Int32} : wp d 74 6 ls (.int y :: .int x :: st) h K ↔ ((y ≤ x) → wp d 74 13 ls st h K) ∧ ((¬ (y ≤ x)) → wp d 74 9 ls st h K) := w_if2 (i := 74) (pc := 6) (cd := .ge) (off := 7) (tgt := 13) dX6_isBelow_6 (by decide) rfl
theorem dX6_isBelow_9 : decode cX6_isBelow 9 = .ok (.iconst 1, 1) := by decide +kernel
theorem w74_9 {d : Nat} {st : List Value} {h : xH} {K : Option Value → xH → Prop} {ls : xL} : wp d 74 9 ls st h K ↔ wp d 74 10 ls (.int 1 :: st) h K := w_iconst (i := 74) (pc := 9) dX6_isBelow_9 (by decide)
theorem dX6_isBelow_10 : decode cX6_isBelow 10 = .ok (.goto 4, 3) := by decide +kernel
theorem w74_10 {d : Nat} {st : List Value} {h : xH} {K : Option Value → xH → Prop} {ls : xL} : wp d 74 10 ls st h K ↔ wp d 74 14 ls st h K := w_goto (i := 74) (pc := 10) dX6_isBelow_10 (by decide) rfl
theorem dX6_isBelow_13 : decode cX6_isBelow 13 = .ok (.iconst 0, 1) := by decide +kernel
theorem w74_13 {d : Nat} {st : List Value} {h : xH} {K : Option Value → xH → Prop} {ls : xL} : wp d 74 13 ls st h K ↔ wp d 74 14 ls (.int 0 :: st) h K := w_iconst (i := 74) (pc := 13) dX6_isBelow_13 (by decide)
theorem dX6_isBelow_14 : decode cX6_isBelow 14 = .ok (.ireturn, 1) := by decide +kernel
theorem w74_14 {d : Nat} {h : xH} {K : Option Value → xH → Prop} {ls : xL} {x : Int32} : wp d 74 14 ls [.int x] h K ↔ y_bool x ∧ K (some (.int x)) h := w_zret (i := 74) (pc := 14) dX6_isBelow_14 rfl
theorem dX6_failed_0 : decode cX6_failed 0 = .ok (.aload_n 0, 1) := by decide +kernel
theorem w76_0 {d : Nat} {st : List Value} {h : xH} {K : Option Value → xH → Prop} {l1 : Option Value} {x : Nat} : wp d 76 0 [some (.ref x), l1] st h K ↔ wp d 76 1 [some (.ref x), l1] (.ref x :: st) h K := w_any (i := 76) (pc := 0) dX6_failed_0 rfl rfl
theorem w76_0n {d : Nat} {st : List Value} {h : xH} {K : Option Value → xH → Prop} {l1 : Option Value} : wp d 76 0 [some .null, l1] st h K ↔ wp d 76 1 [some .null, l1] (.null :: st) h K := w_any (i := 76) (pc := 0) dX6_failed_0 rfl rfl
theorem dX6_failed_1 : decode cX6_failed 1 = .ok (.iload_n 1, 1) := by decide +kernel
theorem w76_1 {d : Nat} {st : List Value} {h : xH} {K : Option Value → xH → Prop} {l0 : Option Value} {x : Int32} : wp d 76 1 [l0, some (.int x)] st h K ↔ wp d 76 2 [l0, some (.int x)] (.int x :: st) h K := w_any (i := 76) (pc := 1) dX6_failed_1 rfl rfl
theorem dX6_failed_2 : decode cX6_failed 2 = .ok (.putfield 35, 3) := by decide +kernel
theorem w76_2 {d : Nat} {st : List Value} {h : xH} {K : Option Value → xH → Prop} {ls : xL} {x : Int32} {a : Nat} : wp d 76 2 ls (.int x :: .ref a :: st) h K ↔ y_put h a 7 5 (.int x) (fun h1 => wp d 76 5 ls st h1 K) := w_put (i := 76) (pc := 2) dX6_failed_2 rfl trivial (Or.inl rfl)
theorem dX6_failed_5 : decode cX6_failed 5 = .ok (.bipush (-10), 2) := by decide +kernel
theorem w76_5 {d : Nat} {st : List Value} {h : xH} {K : Option Value → xH → Prop} {ls : xL} : wp d 76 5 ls st h K ↔ wp d 76 7 ls (.int (-10) :: st) h K := w_bipush (i := 76) (pc := 5) dX6_failed_5 (by decide)
theorem dX6_failed_7 : decode cX6_failed 7 = .ok (.iload_n 1, 1) := by decide +kernel
theorem w76_7 {d : Nat} {st : List Value} {h : xH} {K : Option Value → xH → Prop} {l0 : Option Value} {x : Int32} : wp d 76 7 [l0, some (.int x)] st h K ↔ wp d 76 8 [l0, some (.int x)] (.int x :: st) h K := w_any (i := 76) (pc := 7) dX6_failed_7 rfl rfl
theorem dX6_failed_8 : decode cX6_failed 8 = .ok (.isub, 1) := by decide +kernel
theorem w76_8 {d : Nat} {st : List Value} {h : xH} {K : Option Value → xH → Prop} {ls : xL} {x y : Int32} : wp d 76 8 ls (.int y :: .int x :: st) h K ↔ wp d 76 9 ls (.int (x - y) :: st) h K := w_any (i := 76) (pc := 8) dX6_failed_8 rfl rfl
theorem dX6_failed_9 : decode cX6_failed 9 = .ok (.ireturn, 1) := by decide +kernel
theorem w76_9 {d : Nat} {h : xH} {K : Option Value → xH → Prop} {ls : xL} {x : Int32} : wp d 76 9 ls [.int x] h K ↔ K (some (.int x)) h := w_iret (i := 76) (pc := 9) dX6_failed_9 rfl
theorem dX6_sheetAt_0 : decode cX6_sheetAt 0 = .ok (.iload_n 1, 1) := by decide +kernel
theorem w77_0 {d : Nat} {st : List Value} {h : xH} {K : Option Value → xH → Prop} {l0 : Option Value} {x : Int32} : wp d 77 0 [l0, some (.int x)] st h K ↔ wp d 77 1 [l0, some (.int x)] (.int x :: st) h K := w_any (i := 77) (pc := 0) dX6_sheetAt_0 rfl rfl
theorem dX6_sheetAt_1 : decode cX6_sheetAt 1 = .ok (.ifCond .lt 21, 3) := by decide +kernel
theorem w77_1 {d : Nat} {st : List Value} {h : xH} {K : Option Value → xH → Prop} {ls : xL} {x : Int32} : wp d 77 1 ls (.int x :: st) h K ↔ ((x < 0) → wp d 77 22 ls st h K) ∧ ((¬ (x < 0)) → wp d 77 4 ls st h K) := w_if1 (i := 77) (pc := 1) (cd := .lt) (off := 21) (tgt := 22) dX6_sheetAt_1 (by decide) rfl
theorem dX6_sheetAt_4 : decode cX6_sheetAt 4 = .ok (.iload_n 1, 1) := by decide +kernel
theorem w77_4 {d : Nat} {st : List Value} {h : xH} {K : Option Value → xH → Prop} {l0 : Option Value} {x : Int32} : wp d 77 4 [l0, some (.int x)] st h K ↔ wp d 77 5 [l0, some (.int x)] (.int x :: st) h K := w_any (i := 77) (pc := 4) dX6_sheetAt_4 rfl rfl
theorem dX6_sheetAt_5 : decode cX6_sheetAt 5 = .ok (.aload_n 0, 1) := by decide +kernel
theorem w77_5 {d : Nat} {st : List Value} {h : xH} {K : Option Value → xH → Prop} {l1 : Option Value} {x : Nat} : wp d 77 5 [some (.ref x), l1] st h K ↔ wp d 77 6 [some (.ref x), l1] (.ref x :: st) h K := w_any (i := 77) (pc := 5) dX6_sheetAt_5 rfl rfl
theorem w77_5n {d : Nat} {st : List Value} {h : xH} {K : Option Value → xH → Prop} {l1 : Option Value} : wp d 77 5 [some .null, l1] st h K ↔ wp d 77 6 [some .null, l1] (.null :: st) h K := w_any (i := 77) (pc := 5) dX6_sheetAt_5 rfl rfl
theorem dX6_sheetAt_6 : decode cX6_sheetAt 6 = .ok (.getfield 30, 3) := by decide +kernel
theorem w77_6 {d : Nat} {st : List Value} {h : xH} {K : Option Value → xH → Prop} {ls : xL} {a : Nat} : wp d 77 6 ls (.ref a :: st) h K ↔ y_get h a 7 3 (fun v => wp d 77 9 ls (v :: st) h K) := w_get (i := 77) (pc := 6) dX6_sheetAt_6 rfl
theorem dX6_sheetAt_9 : decode cX6_sheetAt 9 = .ok (.arraylength, 1) := by decide +kernel
theorem w77_9 {d : Nat} {st : List Value} {h : xH} {K : Option Value → xH → Prop} {ls : xL} {a : Nat} : wp d 77 9 ls (.ref a :: st) h K ↔ y_alen h a (fun v => wp d 77 10 ls (.int v :: st) h K) := w_alen (i := 77) (pc := 9) dX6_sheetAt_9
theorem dX6_sheetAt_10 : decode cX6_sheetAt 10 = .ok (.if_icmp .ge 12, 3) := by decide +kernel
theorem w77_10 {d : Nat} {st : List Value} {h : xH} {K : Option Value → xH → Prop} {ls : xL} {x y : Int32} : wp d 77 10 ls (.int y :: .int x :: st) h K ↔ ((y ≤ x) → wp d 77 22 ls st h K) ∧ ((¬ (y ≤ x)) → wp d 77 13 ls st h K) := w_if2 (i := 77) (pc := 10) (cd := .ge) (off := 12) (tgt := 22) dX6_sheetAt_10 (by decide) rfl
theorem dX6_sheetAt_13 : decode cX6_sheetAt 13 = .ok (.aload_n 0, 1) := by decide +kernel
theorem w77_13 {d : Nat} {st : List Value} {h : xH} {K : Option Value → xH → Prop} {l1 : Option Value} {x : Nat} : wp d 77 13 [some (.ref x), l1] st h K ↔ wp d 77 14 [some (.ref x), l1] (.ref x :: st) h K := w_any (i := 77) (pc := 13) dX6_sheetAt_13 rfl rfl
theorem w77_13n {d : Nat} {st : List Value} {h : xH} {K : Option Value → xH → Prop} {l1 : Option Value} : wp d 77 13 [some .null, l1] st h K ↔ wp d 77 14 [some .null, l1] (.null :: st) h K := w_any (i := 77) (pc := 13) dX6_sheetAt_13 rfl rfl
theorem dX6_sheetAt_14 : decode cX6_sheetAt 14 = .ok (.getfield 30, 3) := by decide +kernel
theorem w77_14 {d : Nat} {st : List Value} {h : xH} {K : Option Value → xH → Prop} {ls : xL} {a : Nat} : wp d 77 14 ls (.ref a :: st) h K ↔ y_get h a 7 3 (fun v => wp d 77 17 ls (v :: st) h K) := w_get (i := 77) (pc := 14) dX6_sheetAt_14 rfl
theorem dX6_sheetAt_17 : decode cX6_sheetAt 17 = .ok (.iload_n 1, 1) := by decide +kernel
theorem w77_17 {d : Nat} {st : List Value} {h : xH} {K : Option Value → xH → Prop} {l0 : Option Value} {x : Int32} : wp d 77 17 [l0, some (.int x)] st h K ↔ wp d 77 18 [l0, some (.int x)] (.int x :: st) h K := w_any (i := 77) (pc := 17) dX6_sheetAt_17 rfl rfl
theorem dX6_sheetAt_18 : decode cX6_sheetAt 18 = .ok (.aaload, 1) := by decide +kernel
theorem w77_18 {d : Nat} {st : List Value} {h : xH} {K : Option Value → xH → Prop} {ls : xL} {a : Nat} {x : Int32} : wp d 77 18 ls (.int x :: .ref a :: st) h K ↔ y_aald h a x (fun v => wp d 77 19 ls (v :: st) h K) := w_aald (i := 77) (pc := 18) dX6_sheetAt_18
theorem dX6_sheetAt_19 : decode cX6_sheetAt 19 = .ok (.goto 4, 3) := by decide +kernel
theorem w77_19 {d : Nat} {st : List Value} {h : xH} {K : Option Value → xH → Prop} {ls : xL} : wp d 77 19 ls st h K ↔ wp d 77 23 ls st h K := w_goto (i := 77) (pc := 19) dX6_sheetAt_19 (by decide) rfl
theorem dX6_sheetAt_22 : decode cX6_sheetAt 22 = .ok (.aconst_null, 1) := by decide +kernel
theorem w77_22 {d : Nat} {st : List Value} {h : xH} {K : Option Value → xH → Prop} {ls : xL} : wp d 77 22 ls st h K ↔ wp d 77 23 ls (.null :: st) h K := w_any (i := 77) (pc := 22) dX6_sheetAt_22 rfl rfl
theorem dX6_sheetAt_23 : decode cX6_sheetAt 23 = .ok (.areturn, 1) := by decide +kernel
theorem w77_23 {d : Nat} {h : xH} {K : Option Value → xH → Prop} {ls : xL} {x : Nat} : wp d 77 23 ls [.ref x] h K ↔ K (some (.ref x)) h := w_aret (i := 77) (pc := 23) dX6_sheetAt_23 rfl rfl
theorem w77_23n {d : Nat} {h : xH} {K : Option Value → xH → Prop} {ls : xL} : wp d 77 23 ls [.null] h K ↔ K (some .null) h := w_aretN (i := 77) (pc := 23) dX6_sheetAt_23 rfl rfl
theorem dX6_codeAt_0 : decode cX6_codeAt 0 = .ok (.iload_n 3, 1) := by decide +kernel
theorem w78_0 {d : Nat} {st : List Value} {h : xH} {K : Option Value → xH → Prop} {l0 l1 l2 : Option Value} {x : Int32} : wp d 78 0 [l0, l1, l2, some (.int x)] st h K ↔ wp d 78 1 [l0, l1, l2, some (.int x)] (.int x :: st) h K := w_any (i := 78) (pc := 0) dX6_codeAt_0 rfl rfl
theorem dX6_codeAt_1 : decode cX6_codeAt 1 = .ok (.iload_n 2, 1) := by decide +kernel
theorem w78_1 {d : Nat} {st : List Value} {h : xH} {K : Option Value → xH → Prop} {l0 l1 l3 : Option Value} {x : Int32} : wp d 78 1 [l0, l1, some (.int x), l3] st h K ↔ wp d 78 2 [l0, l1, some (.int x), l3] (.int x :: st) h K := w_any (i := 78) (pc := 1) dX6_codeAt_1 rfl rfl
theorem dX6_codeAt_2 : decode cX6_codeAt 2 = .ok (.if_icmp .ge 13, 3) := by decide +kernel
theorem w78_2 {d : Nat} {st : List Value} {h : xH} {K : Option Value → xH → Prop} {ls : xL} {x y : Int32} : wp d 78 2 ls (.int y :: .int x :: st) h K ↔ ((y ≤ x) → wp d 78 15 ls st h K) ∧ ((¬ (y ≤ x)) → wp d 78 5 ls st h K) := w_if2 (i := 78) (pc := 2) (cd := .ge) (off := 13) (tgt := 15) dX6_codeAt_2 (by decide) rfl
theorem dX6_codeAt_5 : decode cX6_codeAt 5 = .ok (.aload_n 0, 1) := by decide +kernel
theorem w78_5 {d : Nat} {st : List Value} {h : xH} {K : Option Value → xH → Prop} {l1 l2 l3 : Option Value} {x : Nat} : wp d 78 5 [some (.ref x), l1, l2, l3] st h K ↔ wp d 78 6 [some (.ref x), l1, l2, l3] (.ref x :: st) h K := w_any (i := 78) (pc := 5) dX6_codeAt_5 rfl rfl
theorem w78_5n {d : Nat} {st : List Value} {h : xH} {K : Option Value → xH → Prop} {l1 l2 l3 : Option Value} : wp d 78 5 [some .null, l1, l2, l3] st h K ↔ wp d 78 6 [some .null, l1, l2, l3] (.null :: st) h K := w_any (i := 78) (pc := 5) dX6_codeAt_5 rfl rfl
theorem dX6_codeAt_6 : decode cX6_codeAt 6 = .ok (.iload_n 1, 1) := by decide +kernel
theorem w78_6 {d : Nat} {st : List Value} {h : xH} {K : Option Value → xH → Prop} {l0 l2 l3 : Option Value} {x : Int32} : wp d 78 6 [l0, some (.int x), l2, l3] st h K ↔ wp d 78 7 [l0, some (.int x), l2, l3] (.int x :: st) h K := w_any (i := 78) (pc := 6) dX6_codeAt_6 rfl rfl
theorem dX6_codeAt_7 : decode cX6_codeAt 7 = .ok (.iload_n 3, 1) := by decide +kernel
theorem w78_7 {d : Nat} {st : List Value} {h : xH} {K : Option Value → xH → Prop} {l0 l1 l2 : Option Value} {x : Int32} : wp d 78 7 [l0, l1, l2, some (.int x)] st h K ↔ wp d 78 8 [l0, l1, l2, some (.int x)] (.int x :: st) h K := w_any (i := 78) (pc := 7) dX6_codeAt_7 rfl rfl
theorem dX6_codeAt_8 : decode cX6_codeAt 8 = .ok (.iadd, 1) := by decide +kernel
theorem w78_8 {d : Nat} {st : List Value} {h : xH} {K : Option Value → xH → Prop} {ls : xL} {x y : Int32} : wp d 78 8 ls (.int y :: .int x :: st) h K ↔ wp d 78 9 ls (.int (x + y) :: st) h K := w_any (i := 78) (pc := 8) dX6_codeAt_8 rfl rfl
theorem dX6_codeAt_9 : decode cX6_codeAt 9 = .ok (.invokevirtual 212, 3) := by decide +kernel
theorem w78_9 {d : Nat} {st : List Value} {h : xH} {K : Option Value → xH → Prop} {ls : xL} {a0 : Int32} {b : Nat} : wp (d + 1) 78 9 ls (.int a0 :: .ref b :: st) h K ↔ y_cls h b 5 ∧ xcs st ≤ 8 ∧ wp d 33 0 [some (.ref b), some (.int a0)] [] h (fun v h1 => wp (d + 1) 78 12 ls (v.toList ++ st) h1 K) := w_callW (i := 78) (pc := 9) (as := [.int a0]) (rest := st) dX6_codeAt_9 rfl (by decide) rfl rfl (by decide) rfl rfl rfl rfl
theorem dX6_codeAt_12 : decode cX6_codeAt 12 = .ok (.goto 4, 3) := by decide +kernel
theorem w78_12 {d : Nat} {st : List Value} {h : xH} {K : Option Value → xH → Prop} {ls : xL} : wp d 78 12 ls st h K ↔ wp d 78 16 ls st h K := w_goto (i := 78) (pc := 12) dX6_codeAt_12 (by decide) rfl
theorem dX6_codeAt_15 : decode cX6_codeAt 15 = .ok (.iconst (-1), 1) := by decide +kernel
theorem w78_15 {d : Nat} {st : List Value} {h : xH} {K : Option Value → xH → Prop} {ls : xL} : wp d 78 15 ls st h K ↔ wp d 78 16 ls (.int (-1) :: st) h K := w_iconst (i := 78) (pc := 15) dX6_codeAt_15 (by decide)
theorem dX6_codeAt_16 : decode cX6_codeAt 16 = .ok (.ireturn, 1) := by decide +kernel
theorem w78_16 {d : Nat} {h : xH} {K : Option Value → xH → Prop} {ls : xL} {x : Int32} : wp d 78 16 ls [.int x] h K ↔ K (some (.int x)) h := w_iret (i := 78) (pc := 16) dX6_codeAt_16 rfl
theorem dX6_signOfCode_0 : decode cX6_signOfCode 0 = .ok (.iload_n 0, 1) := by decide +kernel
theorem w79_0 {d : Nat} {st : List Value} {h : xH} {K : Option Value → xH → Prop} {x : Int32} : wp d 79 0 [some (.int x)] st h K ↔ wp d 79 1 [some (.int x)] (.int x :: st) h K := w_any (i := 79) (pc := 0) dX6_signOfCode_0 rfl rfl
theorem dX6_signOfCode_1 : decode cX6_signOfCode 1 = .ok (.lookupswitch 51 #[(35, 45), (46, 43), (112, 47), (120, 49)], 43) := by decide +kernel
theorem w79_1 {d : Nat} {st : List Value} {h : xH} {K : Option Value → xH → Prop} {ls : xL} {x : Int32} : wp d 79 1 ls (.int x :: st) h K ↔ (x.toInt = 35 → wp d 79 46 ls st h K) ∧ (¬ x.toInt = 35 → (x.toInt = 46 → wp d 79 44 ls st h K) ∧ (¬ x.toInt = 46 → (x.toInt = 112 → wp d 79 48 ls st h K) ∧ (¬ x.toInt = 112 → (x.toInt = 120 → wp d 79 50 ls st h K) ∧ (¬ x.toInt = 120 → wp d 79 52 ls st h K)))) := (w_any (i := 79) (pc := 1) dX6_signOfCode_1 rfl rfl).trans (by simp [exI, i_lok, xlok, xtgt])
theorem dX6_signOfCode_44 : decode cX6_signOfCode 44 = .ok (.iconst 0, 1) := by decide +kernel
theorem w79_44 {d : Nat} {st : List Value} {h : xH} {K : Option Value → xH → Prop} {ls : xL} : wp d 79 44 ls st h K ↔ wp d 79 45 ls (.int 0 :: st) h K := w_iconst (i := 79) (pc := 44) dX6_signOfCode_44 (by decide)
theorem dX6_signOfCode_45 : decode cX6_signOfCode 45 = .ok (.ireturn, 1) := by decide +kernel
theorem w79_45 {d : Nat} {h : xH} {K : Option Value → xH → Prop} {ls : xL} {x : Int32} : wp d 79 45 ls [.int x] h K ↔ K (some (.int x)) h := w_iret (i := 79) (pc := 45) dX6_signOfCode_45 rfl
theorem dX6_signOfCode_46 : decode cX6_signOfCode 46 = .ok (.iconst 1, 1) := by decide +kernel
theorem w79_46 {d : Nat} {st : List Value} {h : xH} {K : Option Value → xH → Prop} {ls : xL} : wp d 79 46 ls st h K ↔ wp d 79 47 ls (.int 1 :: st) h K := w_iconst (i := 79) (pc := 46) dX6_signOfCode_46 (by decide)
theorem dX6_signOfCode_47 : decode cX6_signOfCode 47 = .ok (.ireturn, 1) := by decide +kernel
theorem w79_47 {d : Nat} {h : xH} {K : Option Value → xH → Prop} {ls : xL} {x : Int32} : wp d 79 47 ls [.int x] h K ↔ K (some (.int x)) h := w_iret (i := 79) (pc := 47) dX6_signOfCode_47 rfl
theorem dX6_signOfCode_48 : decode cX6_signOfCode 48 = .ok (.iconst 2, 1) := by decide +kernel
theorem w79_48 {d : Nat} {st : List Value} {h : xH} {K : Option Value → xH → Prop} {ls : xL} : wp d 79 48 ls st h K ↔ wp d 79 49 ls (.int 2 :: st) h K := w_iconst (i := 79) (pc := 48) dX6_signOfCode_48 (by decide)
theorem dX6_signOfCode_49 : decode cX6_signOfCode 49 = .ok (.ireturn, 1) := by decide +kernel
theorem w79_49 {d : Nat} {h : xH} {K : Option Value → xH → Prop} {ls : xL} {x : Int32} : wp d 79 49 ls [.int x] h K ↔ K (some (.int x)) h := w_iret (i := 79) (pc := 49) dX6_signOfCode_49 rfl
theorem dX6_signOfCode_50 : decode cX6_signOfCode 50 = .ok (.iconst 3, 1) := by decide +kernel
theorem w79_50 {d : Nat} {st : List Value} {h : xH} {K : Option Value → xH → Prop} {ls : xL} : wp d 79 50 ls st h K ↔ wp d 79 51 ls (.int 3 :: st) h K := w_iconst (i := 79) (pc := 50) dX6_signOfCode_50 (by decide)
theorem dX6_signOfCode_51 : decode cX6_signOfCode 51 = .ok (.ireturn, 1) := by decide +kernel
theorem w79_51 {d : Nat} {h : xH} {K : Option Value → xH → Prop} {ls : xL} {x : Int32} : wp d 79 51 ls [.int x] h K ↔ K (some (.int x)) h := w_iret (i := 79) (pc := 51) dX6_signOfCode_51 rfl
theorem dX6_signOfCode_52 : decode cX6_signOfCode 52 = .ok (.bipush (-9), 2) := by decide +kernel
theorem w79_52 {d : Nat} {st : List Value} {h : xH} {K : Option Value → xH → Prop} {ls : xL} : wp d 79 52 ls st h K ↔ wp d 79 54 ls (.int (-9) :: st) h K := w_bipush (i := 79) (pc := 52) dX6_signOfCode_52 (by decide)
theorem dX6_signOfCode_54 : decode cX6_signOfCode 54 = .ok (.ireturn, 1) := by decide +kernel
theorem w79_54 {d : Nat} {h : xH} {K : Option Value → xH → Prop} {ls : xL} {x : Int32} : wp d 79 54 ls [.int x] h K ↔ K (some (.int x)) h := w_iret (i := 79) (pc := 54) dX6_signOfCode_54 rfl
theorem dX6_firstWrongCode_0 : decode cX6_firstWrongCode 0 = .ok (.aload_n 0, 1) := by decide +kernel
theorem w80_0 {d : Nat} {st : List Value} {h : xH} {K : Option Value → xH → Prop} {l1 l2 l3 l4 l5 l6 l7 : Option Value} {x : Nat} : wp d 80 0 [some (.ref x), l1, l2, l3, l4, l5, l6, l7] st h K ↔ wp d 80 1 [some (.ref x), l1, l2, l3, l4, l5, l6, l7] (.ref x :: st) h K := w_any (i := 80) (pc := 0) dX6_firstWrongCode_0 rfl rfl
theorem w80_0n {d : Nat} {st : List Value} {h : xH} {K : Option Value → xH → Prop} {l1 l2 l3 l4 l5 l6 l7 : Option Value} : wp d 80 0 [some .null, l1, l2, l3, l4, l5, l6, l7] st h K ↔ wp d 80 1 [some .null, l1, l2, l3, l4, l5, l6, l7] (.null :: st) h K := w_any (i := 80) (pc := 0) dX6_firstWrongCode_0 rfl rfl
theorem dX6_firstWrongCode_1 : decode cX6_firstWrongCode 1 = .ok (.iload_n 1, 1) := by decide +kernel
theorem w80_1 {d : Nat} {st : List Value} {h : xH} {K : Option Value → xH → Prop} {l0 l2 l3 l4 l5 l6 l7 : Option Value} {x : Int32} : wp d 80 1 [l0, some (.int x), l2, l3, l4, l5, l6, l7] st h K ↔ wp d 80 2 [l0, some (.int x), l2, l3, l4, l5, l6, l7] (.int x :: st) h K := w_any (i := 80) (pc := 1) dX6_firstWrongCode_1 rfl rfl
theorem dX6_firstWrongCode_2 : decode cX6_firstWrongCode 2 = .ok (.iload_n 2, 1) := by decide +kernel
theorem w80_2 {d : Nat} {st : List Value} {h : xH} {K : Option Value → xH → Prop} {l0 l1 l3 l4 l5 l6 l7 : Option Value} {x : Int32} : wp d 80 2 [l0, l1, some (.int x), l3, l4, l5, l6, l7] st h K ↔ wp d 80 3 [l0, l1, some (.int x), l3, l4, l5, l6, l7] (.int x :: st) h K := w_any (i := 80) (pc := 2) dX6_firstWrongCode_2 rfl rfl
theorem dX6_firstWrongCode_3 : decode cX6_firstWrongCode 3 = .ok (.iconst 0, 1) := by decide +kernel
theorem w80_3 {d : Nat} {st : List Value} {h : xH} {K : Option Value → xH → Prop} {ls : xL} : wp d 80 3 ls st h K ↔ wp d 80 4 ls (.int 0 :: st) h K := w_iconst (i := 80) (pc := 3) dX6_firstWrongCode_3 (by decide)
theorem dX6_firstWrongCode_4 : decode cX6_firstWrongCode 4 = .ok (.invokestatic 249, 3) := by decide +kernel
theorem w80_4 {d : Nat} {st : List Value} {h : xH} {K : Option Value → xH → Prop} {ls : xL} {a0 : Nat} {a1 : Int32} {a2 : Int32} {a3 : Int32} : wp (d + 1) 80 4 ls (.int a3 :: .int a2 :: .int a1 :: .ref a0 :: st) h K ↔ xcs st ≤ 8 ∧ wp d 78 0 [some (.ref a0), some (.int a1), some (.int a2), some (.int a3)] [] h (fun v h1 => wp (d + 1) 80 7 ls (v.toList ++ st) h1 K) := w_callS (i := 80) (pc := 4) (as := [.ref a0, .int a1, .int a2, .int a3]) (rest := st) dX6_firstWrongCode_4 rfl (by decide) rfl rfl rfl rfl rfl
theorem dX6_firstWrongCode_7 : decode cX6_firstWrongCode 7 = .ok (.bipush 103, 2) := by decide +kernel
theorem w80_7 {d : Nat} {st : List Value} {h : xH} {K : Option Value → xH → Prop} {ls : xL} : wp d 80 7 ls st h K ↔ wp d 80 9 ls (.int 103 :: st) h K := w_bipush (i := 80) (pc := 7) dX6_firstWrongCode_7 (by decide)
theorem dX6_firstWrongCode_9 : decode cX6_firstWrongCode 9 = .ok (.if_icmp .eq 5, 3) := by decide +kernel
theorem w80_9 {d : Nat} {st : List Value} {h : xH} {K : Option Value → xH → Prop} {ls : xL} {x y : Int32} : wp d 80 9 ls (.int y :: .int x :: st) h K ↔ ((x = y) → wp d 80 14 ls st h K) ∧ ((¬ (x = y)) → wp d 80 12 ls st h K) := w_if2 (i := 80) (pc := 9) (cd := .eq) (off := 5) (tgt := 14) dX6_firstWrongCode_9 (by decide) rfl
theorem dX6_firstWrongCode_12 : decode cX6_firstWrongCode 12 = .ok (.iconst 0, 1) := by decide +kernel
theorem w80_12 {d : Nat} {st : List Value} {h : xH} {K : Option Value → xH → Prop} {ls : xL} : wp d 80 12 ls st h K ↔ wp d 80 13 ls (.int 0 :: st) h K := w_iconst (i := 80) (pc := 12) dX6_firstWrongCode_12 (by decide)
theorem dX6_firstWrongCode_13 : decode cX6_firstWrongCode 13 = .ok (.ireturn, 1) := by decide +kernel
theorem w80_13 {d : Nat} {h : xH} {K : Option Value → xH → Prop} {ls : xL} {x : Int32} : wp d 80 13 ls [.int x] h K ↔ K (some (.int x)) h := w_iret (i := 80) (pc := 13) dX6_firstWrongCode_13 rfl
theorem dX6_firstWrongCode_14 : decode cX6_firstWrongCode 14 = .ok (.aload_n 0, 1) := by decide +kernel
theorem w80_14 {d : Nat} {st : List Value} {h : xH} {K : Option Value → xH → Prop} {l1 l2 l3 l4 l5 l6 l7 : Option Value} {x : Nat} : wp d 80 14 [some (.ref x), l1, l2, l3, l4, l5, l6, l7] st h K ↔ wp d 80 15 [some (.ref x), l1, l2, l3, l4, l5, l6, l7] (.ref x :: st) h K := w_any (i := 80) (pc := 14) dX6_firstWrongCode_14 rfl rfl
theorem w80_14n {d : Nat} {st : List Value} {h : xH} {K : Option Value → xH → Prop} {l1 l2 l3 l4 l5 l6 l7 : Option Value} : wp d 80 14 [some .null, l1, l2, l3, l4, l5, l6, l7] st h K ↔ wp d 80 15 [some .null, l1, l2, l3, l4, l5, l6, l7] (.null :: st) h K := w_any (i := 80) (pc := 14) dX6_firstWrongCode_14 rfl rfl
theorem dX6_firstWrongCode_15 : decode cX6_firstWrongCode 15 = .ok (.iload_n 1, 1) := by decide +kernel
theorem w80_15 {d : Nat} {st : List Value} {h : xH} {K : Option Value → xH → Prop} {l0 l2 l3 l4 l5 l6 l7 : Option Value} {x : Int32} : wp d 80 15 [l0, some (.int x), l2, l3, l4, l5, l6, l7] st h K ↔ wp d 80 16 [l0, some (.int x), l2, l3, l4, l5, l6, l7] (.int x :: st) h K := w_any (i := 80) (pc := 15) dX6_firstWrongCode_15 rfl rfl
theorem dX6_firstWrongCode_16 : decode cX6_firstWrongCode 16 = .ok (.iload_n 2, 1) := by decide +kernel
theorem w80_16 {d : Nat} {st : List Value} {h : xH} {K : Option Value → xH → Prop} {l0 l1 l3 l4 l5 l6 l7 : Option Value} {x : Int32} : wp d 80 16 [l0, l1, some (.int x), l3, l4, l5, l6, l7] st h K ↔ wp d 80 17 [l0, l1, some (.int x), l3, l4, l5, l6, l7] (.int x :: st) h K := w_any (i := 80) (pc := 16) dX6_firstWrongCode_16 rfl rfl
theorem dX6_firstWrongCode_17 : decode cX6_firstWrongCode 17 = .ok (.iconst 1, 1) := by decide +kernel
theorem w80_17 {d : Nat} {st : List Value} {h : xH} {K : Option Value → xH → Prop} {ls : xL} : wp d 80 17 ls st h K ↔ wp d 80 18 ls (.int 1 :: st) h K := w_iconst (i := 80) (pc := 17) dX6_firstWrongCode_17 (by decide)
theorem dX6_firstWrongCode_18 : decode cX6_firstWrongCode 18 = .ok (.invokestatic 249, 3) := by decide +kernel
theorem w80_18 {d : Nat} {st : List Value} {h : xH} {K : Option Value → xH → Prop} {ls : xL} {a0 : Nat} {a1 : Int32} {a2 : Int32} {a3 : Int32} : wp (d + 1) 80 18 ls (.int a3 :: .int a2 :: .int a1 :: .ref a0 :: st) h K ↔ xcs st ≤ 8 ∧ wp d 78 0 [some (.ref a0), some (.int a1), some (.int a2), some (.int a3)] [] h (fun v h1 => wp (d + 1) 80 21 ls (v.toList ++ st) h1 K) := w_callS (i := 80) (pc := 18) (as := [.ref a0, .int a1, .int a2, .int a3]) (rest := st) dX6_firstWrongCode_18 rfl (by decide) rfl rfl rfl rfl rfl
theorem dX6_firstWrongCode_21 : decode cX6_firstWrongCode 21 = .ok (.bipush 48, 2) := by decide +kernel
theorem w80_21 {d : Nat} {st : List Value} {h : xH} {K : Option Value → xH → Prop} {ls : xL} : wp d 80 21 ls st h K ↔ wp d 80 23 ls (.int 48 :: st) h K := w_bipush (i := 80) (pc := 21) dX6_firstWrongCode_21 (by decide)
theorem dX6_firstWrongCode_23 : decode cX6_firstWrongCode 23 = .ok (.isub, 1) := by decide +kernel
theorem w80_23 {d : Nat} {st : List Value} {h : xH} {K : Option Value → xH → Prop} {ls : xL} {x y : Int32} : wp d 80 23 ls (.int y :: .int x :: st) h K ↔ wp d 80 24 ls (.int (x - y) :: st) h K := w_any (i := 80) (pc := 23) dX6_firstWrongCode_23 rfl rfl
theorem dX6_firstWrongCode_24 : decode cX6_firstWrongCode 24 = .ok (.istore_n 3, 1) := by decide +kernel
theorem w80_24 {d : Nat} {st : List Value} {h : xH} {K : Option Value → xH → Prop} {l0 l1 l2 l3 l4 l5 l6 l7 : Option Value} {x : Int32} : wp d 80 24 [l0, l1, l2, l3, l4, l5, l6, l7] (.int x :: st) h K ↔ wp d 80 25 [l0, l1, xk l2, some (.int x), l4, l5, l6, l7] st h K := w_istore_n (i := 80) (pc := 24) dX6_firstWrongCode_24 (Nat.le_of_ble_eq_true rfl) (show xst1 [l0, l1, l2, l3, l4, l5, l6, l7] 3 (.int x) = [l0, l1, xk l2, some (.int x), l4, l5, l6, l7] by simp only [xst1_0, xst1_1, xst1_s, Nat.reduceAdd])
theorem dX6_firstWrongCode_25 : decode cX6_firstWrongCode 25 = .ok (.iload_n 3, 1) := by decide +kernel
theorem w80_25 {d : Nat} {st : List Value} {h : xH} {K : Option Value → xH → Prop} {l0 l1 l2 l4 l5 l6 l7 : Option Value} {x : Int32} : wp d 80 25 [l0, l1, l2, some (.int x), l4, l5, l6, l7] st h K ↔ wp d 80 26 [l0, l1, l2, some (.int x), l4, l5, l6, l7] (.int x :: st) h K := w_any (i := 80) (pc := 25) dX6_firstWrongCode_25 rfl rfl
theorem dX6_firstWrongCode_26 : decode cX6_firstWrongCode 26 = .ok (.iconst 1, 1) := by decide +kernel
theorem w80_26 {d : Nat} {st : List Value} {h : xH} {K : Option Value → xH → Prop} {ls : xL} : wp d 80 26 ls st h K ↔ wp d 80 27 ls (.int 1 :: st) h K := w_iconst (i := 80) (pc := 26) dX6_firstWrongCode_26 (by decide)
theorem dX6_firstWrongCode_27 : decode cX6_firstWrongCode 27 = .ok (.if_icmp .lt 8, 3) := by decide +kernel
theorem w80_27 {d : Nat} {st : List Value} {h : xH} {K : Option Value → xH → Prop} {ls : xL} {x y : Int32} : wp d 80 27 ls (.int y :: .int x :: st) h K ↔ ((x < y) → wp d 80 35 ls st h K) ∧ ((¬ (x < y)) → wp d 80 30 ls st h K) := w_if2 (i := 80) (pc := 27) (cd := .lt) (off := 8) (tgt := 35) dX6_firstWrongCode_27 (by decide) rfl
theorem dX6_firstWrongCode_30 : decode cX6_firstWrongCode 30 = .ok (.iload_n 3, 1) := by decide +kernel
theorem w80_30 {d : Nat} {st : List Value} {h : xH} {K : Option Value → xH → Prop} {l0 l1 l2 l4 l5 l6 l7 : Option Value} {x : Int32} : wp d 80 30 [l0, l1, l2, some (.int x), l4, l5, l6, l7] st h K ↔ wp d 80 31 [l0, l1, l2, some (.int x), l4, l5, l6, l7] (.int x :: st) h K := w_any (i := 80) (pc := 30) dX6_firstWrongCode_30 rfl rfl
theorem dX6_firstWrongCode_31 : decode cX6_firstWrongCode 31 = .ok (.iconst 5, 1) := by decide +kernel
theorem w80_31 {d : Nat} {st : List Value} {h : xH} {K : Option Value → xH → Prop} {ls : xL} : wp d 80 31 ls st h K ↔ wp d 80 32 ls (.int 5 :: st) h K := w_iconst (i := 80) (pc := 31) dX6_firstWrongCode_31 (by decide)
theorem dX6_firstWrongCode_32 : decode cX6_firstWrongCode 32 = .ok (.if_icmp .le 5, 3) := by decide +kernel
theorem w80_32 {d : Nat} {st : List Value} {h : xH} {K : Option Value → xH → Prop} {ls : xL} {x y : Int32} : wp d 80 32 ls (.int y :: .int x :: st) h K ↔ ((x ≤ y) → wp d 80 37 ls st h K) ∧ ((¬ (x ≤ y)) → wp d 80 35 ls st h K) := w_if2 (i := 80) (pc := 32) (cd := .le) (off := 5) (tgt := 37) dX6_firstWrongCode_32 (by decide) rfl
theorem dX6_firstWrongCode_35 : decode cX6_firstWrongCode 35 = .ok (.iconst 1, 1) := by decide +kernel
theorem w80_35 {d : Nat} {st : List Value} {h : xH} {K : Option Value → xH → Prop} {ls : xL} : wp d 80 35 ls st h K ↔ wp d 80 36 ls (.int 1 :: st) h K := w_iconst (i := 80) (pc := 35) dX6_firstWrongCode_35 (by decide)
theorem dX6_firstWrongCode_36 : decode cX6_firstWrongCode 36 = .ok (.ireturn, 1) := by decide +kernel
theorem w80_36 {d : Nat} {h : xH} {K : Option Value → xH → Prop} {ls : xL} {x : Int32} : wp d 80 36 ls [.int x] h K ↔ K (some (.int x)) h := w_iret (i := 80) (pc := 36) dX6_firstWrongCode_36 rfl
theorem dX6_firstWrongCode_37 : decode cX6_firstWrongCode 37 = .ok (.aload_n 0, 1) := by decide +kernel
theorem w80_37 {d : Nat} {st : List Value} {h : xH} {K : Option Value → xH → Prop} {l1 l2 l3 l4 l5 l6 l7 : Option Value} {x : Nat} : wp d 80 37 [some (.ref x), l1, l2, l3, l4, l5, l6, l7] st h K ↔ wp d 80 38 [some (.ref x), l1, l2, l3, l4, l5, l6, l7] (.ref x :: st) h K := w_any (i := 80) (pc := 37) dX6_firstWrongCode_37 rfl rfl
theorem w80_37n {d : Nat} {st : List Value} {h : xH} {K : Option Value → xH → Prop} {l1 l2 l3 l4 l5 l6 l7 : Option Value} : wp d 80 37 [some .null, l1, l2, l3, l4, l5, l6, l7] st h K ↔ wp d 80 38 [some .null, l1, l2, l3, l4, l5, l6, l7] (.null :: st) h K := w_any (i := 80) (pc := 37) dX6_firstWrongCode_37 rfl rfl
theorem dX6_firstWrongCode_38 : decode cX6_firstWrongCode 38 = .ok (.iload_n 1, 1) := by decide +kernel
theorem w80_38 {d : Nat} {st : List Value} {h : xH} {K : Option Value → xH → Prop} {l0 l2 l3 l4 l5 l6 l7 : Option Value} {x : Int32} : wp d 80 38 [l0, some (.int x), l2, l3, l4, l5, l6, l7] st h K ↔ wp d 80 39 [l0, some (.int x), l2, l3, l4, l5, l6, l7] (.int x :: st) h K := w_any (i := 80) (pc := 38) dX6_firstWrongCode_38 rfl rfl
theorem dX6_firstWrongCode_39 : decode cX6_firstWrongCode 39 = .ok (.iload_n 2, 1) := by decide +kernel
theorem w80_39 {d : Nat} {st : List Value} {h : xH} {K : Option Value → xH → Prop} {l0 l1 l3 l4 l5 l6 l7 : Option Value} {x : Int32} : wp d 80 39 [l0, l1, some (.int x), l3, l4, l5, l6, l7] st h K ↔ wp d 80 40 [l0, l1, some (.int x), l3, l4, l5, l6, l7] (.int x :: st) h K := w_any (i := 80) (pc := 39) dX6_firstWrongCode_39 rfl rfl
theorem dX6_firstWrongCode_40 : decode cX6_firstWrongCode 40 = .ok (.iconst 2, 1) := by decide +kernel
theorem w80_40 {d : Nat} {st : List Value} {h : xH} {K : Option Value → xH → Prop} {ls : xL} : wp d 80 40 ls st h K ↔ wp d 80 41 ls (.int 2 :: st) h K := w_iconst (i := 80) (pc := 40) dX6_firstWrongCode_40 (by decide)
theorem dX6_firstWrongCode_41 : decode cX6_firstWrongCode 41 = .ok (.invokestatic 249, 3) := by decide +kernel
theorem w80_41 {d : Nat} {st : List Value} {h : xH} {K : Option Value → xH → Prop} {ls : xL} {a0 : Nat} {a1 : Int32} {a2 : Int32} {a3 : Int32} : wp (d + 1) 80 41 ls (.int a3 :: .int a2 :: .int a1 :: .ref a0 :: st) h K ↔ xcs st ≤ 8 ∧ wp d 78 0 [some (.ref a0), some (.int a1), some (.int a2), some (.int a3)] [] h (fun v h1 => wp (d + 1) 80 44 ls (v.toList ++ st) h1 K) := w_callS (i := 80) (pc := 41) (as := [.ref a0, .int a1, .int a2, .int a3]) (rest := st) dX6_firstWrongCode_41 rfl (by decide) rfl rfl rfl rfl rfl
theorem dX6_firstWrongCode_44 : decode cX6_firstWrongCode 44 = .ok (.bipush 48, 2) := by decide +kernel
theorem w80_44 {d : Nat} {st : List Value} {h : xH} {K : Option Value → xH → Prop} {ls : xL} : wp d 80 44 ls st h K ↔ wp d 80 46 ls (.int 48 :: st) h K := w_bipush (i := 80) (pc := 44) dX6_firstWrongCode_44 (by decide)
theorem dX6_firstWrongCode_46 : decode cX6_firstWrongCode 46 = .ok (.isub, 1) := by decide +kernel
theorem w80_46 {d : Nat} {st : List Value} {h : xH} {K : Option Value → xH → Prop} {ls : xL} {x y : Int32} : wp d 80 46 ls (.int y :: .int x :: st) h K ↔ wp d 80 47 ls (.int (x - y) :: st) h K := w_any (i := 80) (pc := 46) dX6_firstWrongCode_46 rfl rfl
theorem dX6_firstWrongCode_47 : decode cX6_firstWrongCode 47 = .ok (.istore 4, 2) := by decide +kernel
theorem w80_47 {d : Nat} {st : List Value} {h : xH} {K : Option Value → xH → Prop} {l0 l1 l2 l3 l4 l5 l6 l7 : Option Value} {x : Int32} : wp d 80 47 [l0, l1, l2, l3, l4, l5, l6, l7] (.int x :: st) h K ↔ wp d 80 49 [l0, l1, l2, xk l3, some (.int x), l5, l6, l7] st h K := w_istore (i := 80) (pc := 47) dX6_firstWrongCode_47 (Nat.le_of_ble_eq_true rfl) (show xst1 [l0, l1, l2, l3, l4, l5, l6, l7] 4 (.int x) = [l0, l1, l2, xk l3, some (.int x), l5, l6, l7] by simp only [xst1_0, xst1_1, xst1_s, Nat.reduceAdd])
theorem dX6_firstWrongCode_49 : decode cX6_firstWrongCode 49 = .ok (.iload 4, 2) := by decide +kernel
theorem w80_49 {d : Nat} {st : List Value} {h : xH} {K : Option Value → xH → Prop} {l0 l1 l2 l3 l5 l6 l7 : Option Value} {x : Int32} : wp d 80 49 [l0, l1, l2, l3, some (.int x), l5, l6, l7] st h K ↔ wp d 80 51 [l0, l1, l2, l3, some (.int x), l5, l6, l7] (.int x :: st) h K := w_any (i := 80) (pc := 49) dX6_firstWrongCode_49 rfl rfl
theorem dX6_firstWrongCode_51 : decode cX6_firstWrongCode 51 = .ok (.iconst 2, 1) := by decide +kernel
theorem w80_51 {d : Nat} {st : List Value} {h : xH} {K : Option Value → xH → Prop} {ls : xL} : wp d 80 51 ls st h K ↔ wp d 80 52 ls (.int 2 :: st) h K := w_iconst (i := 80) (pc := 51) dX6_firstWrongCode_51 (by decide)
theorem dX6_firstWrongCode_52 : decode cX6_firstWrongCode 52 = .ok (.if_icmp .lt 10, 3) := by decide +kernel
theorem w80_52 {d : Nat} {st : List Value} {h : xH} {K : Option Value → xH → Prop} {ls : xL} {x y : Int32} : wp d 80 52 ls (.int y :: .int x :: st) h K ↔ ((x < y) → wp d 80 62 ls st h K) ∧ ((¬ (x < y)) → wp d 80 55 ls st h K) := w_if2 (i := 80) (pc := 52) (cd := .lt) (off := 10) (tgt := 62) dX6_firstWrongCode_52 (by decide) rfl
theorem dX6_firstWrongCode_55 : decode cX6_firstWrongCode 55 = .ok (.iload 4, 2) := by decide +kernel
theorem w80_55 {d : Nat} {st : List Value} {h : xH} {K : Option Value → xH → Prop} {l0 l1 l2 l3 l5 l6 l7 : Option Value} {x : Int32} : wp d 80 55 [l0, l1, l2, l3, some (.int x), l5, l6, l7] st h K ↔ wp d 80 57 [l0, l1, l2, l3, some (.int x), l5, l6, l7] (.int x :: st) h K := w_any (i := 80) (pc := 55) dX6_firstWrongCode_55 rfl rfl
theorem dX6_firstWrongCode_57 : decode cX6_firstWrongCode 57 = .ok (.bipush 6, 2) := by decide +kernel
theorem w80_57 {d : Nat} {st : List Value} {h : xH} {K : Option Value → xH → Prop} {ls : xL} : wp d 80 57 ls st h K ↔ wp d 80 59 ls (.int 6 :: st) h K := w_bipush (i := 80) (pc := 57) dX6_firstWrongCode_57 (by decide)
theorem dX6_firstWrongCode_59 : decode cX6_firstWrongCode 59 = .ok (.if_icmp .le 5, 3) := by decide +kernel
theorem w80_59 {d : Nat} {st : List Value} {h : xH} {K : Option Value → xH → Prop} {ls : xL} {x y : Int32} : wp d 80 59 ls (.int y :: .int x :: st) h K ↔ ((x ≤ y) → wp d 80 64 ls st h K) ∧ ((¬ (x ≤ y)) → wp d 80 62 ls st h K) := w_if2 (i := 80) (pc := 59) (cd := .le) (off := 5) (tgt := 64) dX6_firstWrongCode_59 (by decide) rfl
theorem dX6_firstWrongCode_62 : decode cX6_firstWrongCode 62 = .ok (.iconst 2, 1) := by decide +kernel
theorem w80_62 {d : Nat} {st : List Value} {h : xH} {K : Option Value → xH → Prop} {ls : xL} : wp d 80 62 ls st h K ↔ wp d 80 63 ls (.int 2 :: st) h K := w_iconst (i := 80) (pc := 62) dX6_firstWrongCode_62 (by decide)
theorem dX6_firstWrongCode_63 : decode cX6_firstWrongCode 63 = .ok (.ireturn, 1) := by decide +kernel
theorem w80_63 {d : Nat} {h : xH} {K : Option Value → xH → Prop} {ls : xL} {x : Int32} : wp d 80 63 ls [.int x] h K ↔ K (some (.int x)) h := w_iret (i := 80) (pc := 63) dX6_firstWrongCode_63 rfl
theorem dX6_firstWrongCode_64 : decode cX6_firstWrongCode 64 = .ok (.iconst 3, 1) := by decide +kernel
theorem w80_64 {d : Nat} {st : List Value} {h : xH} {K : Option Value → xH → Prop} {ls : xL} : wp d 80 64 ls st h K ↔ wp d 80 65 ls (.int 3 :: st) h K := w_iconst (i := 80) (pc := 64) dX6_firstWrongCode_64 (by decide)
theorem dX6_firstWrongCode_65 : decode cX6_firstWrongCode 65 = .ok (.istore 5, 2) := by decide +kernel
theorem w80_65 {d : Nat} {st : List Value} {h : xH} {K : Option Value → xH → Prop} {l0 l1 l2 l3 l4 l5 l6 l7 : Option Value} {x : Int32} : wp d 80 65 [l0, l1, l2, l3, l4, l5, l6, l7] (.int x :: st) h K ↔ wp d 80 67 [l0, l1, l2, l3, xk l4, some (.int x), l6, l7] st h K := w_istore (i := 80) (pc := 65) dX6_firstWrongCode_65 (Nat.le_of_ble_eq_true rfl) (show xst1 [l0, l1, l2, l3, l4, l5, l6, l7] 5 (.int x) = [l0, l1, l2, l3, xk l4, some (.int x), l6, l7] by simp only [xst1_0, xst1_1, xst1_s, Nat.reduceAdd])
theorem dX6_firstWrongCode_67 : decode cX6_firstWrongCode 67 = .ok (.iconst 0, 1) := by decide +kernel
theorem w80_67 {d : Nat} {st : List Value} {h : xH} {K : Option Value → xH → Prop} {ls : xL} : wp d 80 67 ls st h K ↔ wp d 80 68 ls (.int 0 :: st) h K := w_iconst (i := 80) (pc := 67) dX6_firstWrongCode_67 (by decide)
theorem dX6_firstWrongCode_68 : decode cX6_firstWrongCode 68 = .ok (.istore 6, 2) := by decide +kernel
theorem w80_68 {d : Nat} {st : List Value} {h : xH} {K : Option Value → xH → Prop} {l0 l1 l2 l3 l4 l5 l6 l7 : Option Value} {x : Int32} : wp d 80 68 [l0, l1, l2, l3, l4, l5, l6, l7] (.int x :: st) h K ↔ wp d 80 70 [l0, l1, l2, l3, l4, xk l5, some (.int x), l7] st h K := w_istore (i := 80) (pc := 68) dX6_firstWrongCode_68 (Nat.le_of_ble_eq_true rfl) (show xst1 [l0, l1, l2, l3, l4, l5, l6, l7] 6 (.int x) = [l0, l1, l2, l3, l4, xk l5, some (.int x), l7] by simp only [xst1_0, xst1_1, xst1_s, Nat.reduceAdd])
theorem dX6_firstWrongCode_70 : decode cX6_firstWrongCode 70 = .ok (.iload 6, 2) := by decide +kernel
theorem w80_70 {d : Nat} {st : List Value} {h : xH} {K : Option Value → xH → Prop} {l0 l1 l2 l3 l4 l5 l7 : Option Value} {x : Int32} : wp d 80 70 [l0, l1, l2, l3, l4, l5, some (.int x), l7] st h K ↔ wp d 80 72 [l0, l1, l2, l3, l4, l5, some (.int x), l7] (.int x :: st) h K := w_any (i := 80) (pc := 70) dX6_firstWrongCode_70 rfl rfl
theorem dX6_firstWrongCode_72 : decode cX6_firstWrongCode 72 = .ok (.iload_n 3, 1) := by decide +kernel
theorem w80_72 {d : Nat} {st : List Value} {h : xH} {K : Option Value → xH → Prop} {l0 l1 l2 l4 l5 l6 l7 : Option Value} {x : Int32} : wp d 80 72 [l0, l1, l2, some (.int x), l4, l5, l6, l7] st h K ↔ wp d 80 73 [l0, l1, l2, some (.int x), l4, l5, l6, l7] (.int x :: st) h K := w_any (i := 80) (pc := 72) dX6_firstWrongCode_72 rfl rfl
theorem dX6_firstWrongCode_73 : decode cX6_firstWrongCode 73 = .ok (.if_icmp .ge 66, 3) := by decide +kernel
theorem w80_73 {d : Nat} {st : List Value} {h : xH} {K : Option Value → xH → Prop} {ls : xL} {x y : Int32} : wp d 80 73 ls (.int y :: .int x :: st) h K ↔ ((y ≤ x) → wp d 80 139 ls st h K) ∧ ((¬ (y ≤ x)) → wp d 80 76 ls st h K) := w_if2 (i := 80) (pc := 73) (cd := .ge) (off := 66) (tgt := 139) dX6_firstWrongCode_73 (by decide) rfl
theorem dX6_firstWrongCode_76 : decode cX6_firstWrongCode 76 = .ok (.aload_n 0, 1) := by decide +kernel
theorem w80_76 {d : Nat} {st : List Value} {h : xH} {K : Option Value → xH → Prop} {l1 l2 l3 l4 l5 l6 l7 : Option Value} {x : Nat} : wp d 80 76 [some (.ref x), l1, l2, l3, l4, l5, l6, l7] st h K ↔ wp d 80 77 [some (.ref x), l1, l2, l3, l4, l5, l6, l7] (.ref x :: st) h K := w_any (i := 80) (pc := 76) dX6_firstWrongCode_76 rfl rfl
theorem w80_76n {d : Nat} {st : List Value} {h : xH} {K : Option Value → xH → Prop} {l1 l2 l3 l4 l5 l6 l7 : Option Value} : wp d 80 76 [some .null, l1, l2, l3, l4, l5, l6, l7] st h K ↔ wp d 80 77 [some .null, l1, l2, l3, l4, l5, l6, l7] (.null :: st) h K := w_any (i := 80) (pc := 76) dX6_firstWrongCode_76 rfl rfl
theorem dX6_firstWrongCode_77 : decode cX6_firstWrongCode 77 = .ok (.iload_n 1, 1) := by decide +kernel
theorem w80_77 {d : Nat} {st : List Value} {h : xH} {K : Option Value → xH → Prop} {l0 l2 l3 l4 l5 l6 l7 : Option Value} {x : Int32} : wp d 80 77 [l0, some (.int x), l2, l3, l4, l5, l6, l7] st h K ↔ wp d 80 78 [l0, some (.int x), l2, l3, l4, l5, l6, l7] (.int x :: st) h K := w_any (i := 80) (pc := 77) dX6_firstWrongCode_77 rfl rfl
theorem dX6_firstWrongCode_78 : decode cX6_firstWrongCode 78 = .ok (.iload_n 2, 1) := by decide +kernel
theorem w80_78 {d : Nat} {st : List Value} {h : xH} {K : Option Value → xH → Prop} {l0 l1 l3 l4 l5 l6 l7 : Option Value} {x : Int32} : wp d 80 78 [l0, l1, some (.int x), l3, l4, l5, l6, l7] st h K ↔ wp d 80 79 [l0, l1, some (.int x), l3, l4, l5, l6, l7] (.int x :: st) h K := w_any (i := 80) (pc := 78) dX6_firstWrongCode_78 rfl rfl
theorem dX6_firstWrongCode_79 : decode cX6_firstWrongCode 79 = .ok (.iload 5, 2) := by decide +kernel
theorem w80_79 {d : Nat} {st : List Value} {h : xH} {K : Option Value → xH → Prop} {l0 l1 l2 l3 l4 l6 l7 : Option Value} {x : Int32} : wp d 80 79 [l0, l1, l2, l3, l4, some (.int x), l6, l7] st h K ↔ wp d 80 81 [l0, l1, l2, l3, l4, some (.int x), l6, l7] (.int x :: st) h K := w_any (i := 80) (pc := 79) dX6_firstWrongCode_79 rfl rfl
theorem dX6_firstWrongCode_81 : decode cX6_firstWrongCode 81 = .ok (.invokestatic 249, 3) := by decide +kernel
theorem w80_81 {d : Nat} {st : List Value} {h : xH} {K : Option Value → xH → Prop} {ls : xL} {a0 : Nat} {a1 : Int32} {a2 : Int32} {a3 : Int32} : wp (d + 1) 80 81 ls (.int a3 :: .int a2 :: .int a1 :: .ref a0 :: st) h K ↔ xcs st ≤ 8 ∧ wp d 78 0 [some (.ref a0), some (.int a1), some (.int a2), some (.int a3)] [] h (fun v h1 => wp (d + 1) 80 84 ls (v.toList ++ st) h1 K) := w_callS (i := 80) (pc := 81) (as := [.ref a0, .int a1, .int a2, .int a3]) (rest := st) dX6_firstWrongCode_81 rfl (by decide) rfl rfl rfl rfl rfl
theorem dX6_firstWrongCode_84 : decode cX6_firstWrongCode 84 = .ok (.bipush 59, 2) := by decide +kernel
theorem w80_84 {d : Nat} {st : List Value} {h : xH} {K : Option Value → xH → Prop} {ls : xL} : wp d 80 84 ls st h K ↔ wp d 80 86 ls (.int 59 :: st) h K := w_bipush (i := 80) (pc := 84) dX6_firstWrongCode_84 (by decide)
theorem dX6_firstWrongCode_86 : decode cX6_firstWrongCode 86 = .ok (.if_icmp .eq 6, 3) := by decide +kernel
theorem w80_86 {d : Nat} {st : List Value} {h : xH} {K : Option Value → xH → Prop} {ls : xL} {x y : Int32} : wp d 80 86 ls (.int y :: .int x :: st) h K ↔ ((x = y) → wp d 80 92 ls st h K) ∧ ((¬ (x = y)) → wp d 80 89 ls st h K) := w_if2 (i := 80) (pc := 86) (cd := .eq) (off := 6) (tgt := 92) dX6_firstWrongCode_86 (by decide) rfl
theorem dX6_firstWrongCode_89 : decode cX6_firstWrongCode 89 = .ok (.iload 5, 2) := by decide +kernel
theorem w80_89 {d : Nat} {st : List Value} {h : xH} {K : Option Value → xH → Prop} {l0 l1 l2 l3 l4 l6 l7 : Option Value} {x : Int32} : wp d 80 89 [l0, l1, l2, l3, l4, some (.int x), l6, l7] st h K ↔ wp d 80 91 [l0, l1, l2, l3, l4, some (.int x), l6, l7] (.int x :: st) h K := w_any (i := 80) (pc := 89) dX6_firstWrongCode_89 rfl rfl
theorem dX6_firstWrongCode_91 : decode cX6_firstWrongCode 91 = .ok (.ireturn, 1) := by decide +kernel
theorem w80_91 {d : Nat} {h : xH} {K : Option Value → xH → Prop} {ls : xL} {x : Int32} : wp d 80 91 ls [.int x] h K ↔ K (some (.int x)) h := w_iret (i := 80) (pc := 91) dX6_firstWrongCode_91 rfl
theorem dX6_firstWrongCode_92 : decode cX6_firstWrongCode 92 = .ok (.iinc 5 1, 3) := by decide +kernel
theorem w80_92 {d : Nat} {st : List Value} {h : xH} {K : Option Value → xH → Prop} {l0 l1 l2 l3 l4 l6 l7 : Option Value} {x : Int32} : wp d 80 92 [l0, l1, l2, l3, l4, some (.int x), l6, l7] st h K ↔ wp d 80 95 [l0, l1, l2, l3, xk l4, some (.int (x + 1)), l6, l7] st h K := w_iinc (i := 80) (pc := 92) dX6_firstWrongCode_92 rfl (Nat.le_of_ble_eq_true rfl) (by decide) (show xst1 [l0, l1, l2, l3, l4, some (.int x), l6, l7] 5 (.int (x + 1)) = [l0, l1, l2, l3, xk l4, some (.int (x + 1)), l6, l7] by simp only [xst1_0, xst1_1, xst1_s, Nat.reduceAdd])
theorem dX6_firstWrongCode_95 : decode cX6_firstWrongCode 95 = .ok (.iconst 0, 1) := by decide +kernel
theorem w80_95 {d : Nat} {st : List Value} {h : xH} {K : Option Value → xH → Prop} {ls : xL} : wp d 80 95 ls st h K ↔ wp d 80 96 ls (.int 0 :: st) h K := w_iconst (i := 80) (pc := 95) dX6_firstWrongCode_95 (by decide)
theorem dX6_firstWrongCode_96 : decode cX6_firstWrongCode 96 = .ok (.istore 7, 2) := by decide +kernel
theorem w80_96 {d : Nat} {st : List Value} {h : xH} {K : Option Value → xH → Prop} {l0 l1 l2 l3 l4 l5 l6 l7 : Option Value} {x : Int32} : wp d 80 96 [l0, l1, l2, l3, l4, l5, l6, l7] (.int x :: st) h K ↔ wp d 80 98 [l0, l1, l2, l3, l4, l5, xk l6, some (.int x)] st h K := w_istore (i := 80) (pc := 96) dX6_firstWrongCode_96 (Nat.le_of_ble_eq_true rfl) (show xst1 [l0, l1, l2, l3, l4, l5, l6, l7] 7 (.int x) = [l0, l1, l2, l3, l4, l5, xk l6, some (.int x)] by simp only [xst1_0, xst1_1, xst1_s, Nat.reduceAdd])
theorem dX6_firstWrongCode_98 : decode cX6_firstWrongCode 98 = .ok (.iload 7, 2) := by decide +kernel
theorem w80_98 {d : Nat} {st : List Value} {h : xH} {K : Option Value → xH → Prop} {l0 l1 l2 l3 l4 l5 l6 : Option Value} {x : Int32} : wp d 80 98 [l0, l1, l2, l3, l4, l5, l6, some (.int x)] st h K ↔ wp d 80 100 [l0, l1, l2, l3, l4, l5, l6, some (.int x)] (.int x :: st) h K := w_any (i := 80) (pc := 98) dX6_firstWrongCode_98 rfl rfl
theorem dX6_firstWrongCode_100 : decode cX6_firstWrongCode 100 = .ok (.iload 4, 2) := by decide +kernel
theorem w80_100 {d : Nat} {st : List Value} {h : xH} {K : Option Value → xH → Prop} {l0 l1 l2 l3 l5 l6 l7 : Option Value} {x : Int32} : wp d 80 100 [l0, l1, l2, l3, some (.int x), l5, l6, l7] st h K ↔ wp d 80 102 [l0, l1, l2, l3, some (.int x), l5, l6, l7] (.int x :: st) h K := w_any (i := 80) (pc := 100) dX6_firstWrongCode_100 rfl rfl
theorem dX6_firstWrongCode_102 : decode cX6_firstWrongCode 102 = .ok (.if_icmp .ge 31, 3) := by decide +kernel
theorem w80_102 {d : Nat} {st : List Value} {h : xH} {K : Option Value → xH → Prop} {ls : xL} {x y : Int32} : wp d 80 102 ls (.int y :: .int x :: st) h K ↔ ((y ≤ x) → wp d 80 133 ls st h K) ∧ ((¬ (y ≤ x)) → wp d 80 105 ls st h K) := w_if2 (i := 80) (pc := 102) (cd := .ge) (off := 31) (tgt := 133) dX6_firstWrongCode_102 (by decide) rfl
theorem dX6_firstWrongCode_105 : decode cX6_firstWrongCode 105 = .ok (.aload_n 0, 1) := by decide +kernel
theorem w80_105 {d : Nat} {st : List Value} {h : xH} {K : Option Value → xH → Prop} {l1 l2 l3 l4 l5 l6 l7 : Option Value} {x : Nat} : wp d 80 105 [some (.ref x), l1, l2, l3, l4, l5, l6, l7] st h K ↔ wp d 80 106 [some (.ref x), l1, l2, l3, l4, l5, l6, l7] (.ref x :: st) h K := w_any (i := 80) (pc := 105) dX6_firstWrongCode_105 rfl rfl
theorem w80_105n {d : Nat} {st : List Value} {h : xH} {K : Option Value → xH → Prop} {l1 l2 l3 l4 l5 l6 l7 : Option Value} : wp d 80 105 [some .null, l1, l2, l3, l4, l5, l6, l7] st h K ↔ wp d 80 106 [some .null, l1, l2, l3, l4, l5, l6, l7] (.null :: st) h K := w_any (i := 80) (pc := 105) dX6_firstWrongCode_105 rfl rfl
theorem dX6_firstWrongCode_106 : decode cX6_firstWrongCode 106 = .ok (.iload_n 1, 1) := by decide +kernel
theorem w80_106 {d : Nat} {st : List Value} {h : xH} {K : Option Value → xH → Prop} {l0 l2 l3 l4 l5 l6 l7 : Option Value} {x : Int32} : wp d 80 106 [l0, some (.int x), l2, l3, l4, l5, l6, l7] st h K ↔ wp d 80 107 [l0, some (.int x), l2, l3, l4, l5, l6, l7] (.int x :: st) h K := w_any (i := 80) (pc := 106) dX6_firstWrongCode_106 rfl rfl
theorem dX6_firstWrongCode_107 : decode cX6_firstWrongCode 107 = .ok (.iload_n 2, 1) := by decide +kernel
theorem w80_107 {d : Nat} {st : List Value} {h : xH} {K : Option Value → xH → Prop} {l0 l1 l3 l4 l5 l6 l7 : Option Value} {x : Int32} : wp d 80 107 [l0, l1, some (.int x), l3, l4, l5, l6, l7] st h K ↔ wp d 80 108 [l0, l1, some (.int x), l3, l4, l5, l6, l7] (.int x :: st) h K := w_any (i := 80) (pc := 107) dX6_firstWrongCode_107 rfl rfl
theorem dX6_firstWrongCode_108 : decode cX6_firstWrongCode 108 = .ok (.iload 5, 2) := by decide +kernel
theorem w80_108 {d : Nat} {st : List Value} {h : xH} {K : Option Value → xH → Prop} {l0 l1 l2 l3 l4 l6 l7 : Option Value} {x : Int32} : wp d 80 108 [l0, l1, l2, l3, l4, some (.int x), l6, l7] st h K ↔ wp d 80 110 [l0, l1, l2, l3, l4, some (.int x), l6, l7] (.int x :: st) h K := w_any (i := 80) (pc := 108) dX6_firstWrongCode_108 rfl rfl
theorem dX6_firstWrongCode_110 : decode cX6_firstWrongCode 110 = .ok (.invokestatic 249, 3) := by decide +kernel
theorem w80_110 {d : Nat} {st : List Value} {h : xH} {K : Option Value → xH → Prop} {ls : xL} {a0 : Nat} {a1 : Int32} {a2 : Int32} {a3 : Int32} : wp (d + 1) 80 110 ls (.int a3 :: .int a2 :: .int a1 :: .ref a0 :: st) h K ↔ xcs st ≤ 8 ∧ wp d 78 0 [some (.ref a0), some (.int a1), some (.int a2), some (.int a3)] [] h (fun v h1 => wp (d + 1) 80 113 ls (v.toList ++ st) h1 K) := w_callS (i := 80) (pc := 110) (as := [.ref a0, .int a1, .int a2, .int a3]) (rest := st) dX6_firstWrongCode_110 rfl (by decide) rfl rfl rfl rfl rfl
theorem dX6_firstWrongCode_113 : decode cX6_firstWrongCode 113 = .ok (.invokestatic 253, 3) := by decide +kernel
theorem w80_113 {d : Nat} {st : List Value} {h : xH} {K : Option Value → xH → Prop} {ls : xL} {a0 : Int32} : wp (d + 1) 80 113 ls (.int a0 :: st) h K ↔ xcs st ≤ 8 ∧ wp d 79 0 [some (.int a0)] [] h (fun v h1 => wp (d + 1) 80 116 ls (v.toList ++ st) h1 K) := w_callS (i := 80) (pc := 113) (as := [.int a0]) (rest := st) dX6_firstWrongCode_113 rfl (by decide) rfl rfl rfl rfl rfl
theorem dX6_firstWrongCode_116 : decode cX6_firstWrongCode 116 = .ok (.bipush (-9), 2) := by decide +kernel
theorem w80_116 {d : Nat} {st : List Value} {h : xH} {K : Option Value → xH → Prop} {ls : xL} : wp d 80 116 ls st h K ↔ wp d 80 118 ls (.int (-9) :: st) h K := w_bipush (i := 80) (pc := 116) dX6_firstWrongCode_116 (by decide)
theorem dX6_firstWrongCode_118 : decode cX6_firstWrongCode 118 = .ok (.if_icmp .ne 6, 3) := by decide +kernel
theorem w80_118 {d : Nat} {st : List Value} {h : xH} {K : Option Value → xH → Prop} {ls : xL} {x y : Int32} : wp d 80 118 ls (.int y :: .int x :: st) h K ↔ ((¬ x = y) → wp d 80 124 ls st h K) ∧ ((x = y) → wp d 80 121 ls st h K) := (w_if2 (i := 80) (pc := 118) (cd := .ne) (off := 6) (tgt := 124) dX6_firstWrongCode_118 (by decide) rfl).trans (and_congr Iff.rfl (imp_congr Classical.not_not Iff.rfl))
theorem dX6_firstWrongCode_121 : decode cX6_firstWrongCode 121 = .ok (.iload 5, 2) := by decide +kernel
theorem w80_121 {d : Nat} {st : List Value} {h : xH} {K : Option Value → xH → Prop} {l0 l1 l2 l3 l4 l6 l7 : Option Value} {x : Int32} : wp d 80 121 [l0, l1, l2, l3, l4, some (.int x), l6, l7] st h K ↔ wp d 80 123 [l0, l1, l2, l3, l4, some (.int x), l6, l7] (.int x :: st) h K := w_any (i := 80) (pc := 121) dX6_firstWrongCode_121 rfl rfl
theorem dX6_firstWrongCode_123 : decode cX6_firstWrongCode 123 = .ok (.ireturn, 1) := by decide +kernel
theorem w80_123 {d : Nat} {h : xH} {K : Option Value → xH → Prop} {ls : xL} {x : Int32} : wp d 80 123 ls [.int x] h K ↔ K (some (.int x)) h := w_iret (i := 80) (pc := 123) dX6_firstWrongCode_123 rfl
theorem dX6_firstWrongCode_124 : decode cX6_firstWrongCode 124 = .ok (.iinc 5 1, 3) := by decide +kernel
theorem w80_124 {d : Nat} {st : List Value} {h : xH} {K : Option Value → xH → Prop} {l0 l1 l2 l3 l4 l6 l7 : Option Value} {x : Int32} : wp d 80 124 [l0, l1, l2, l3, l4, some (.int x), l6, l7] st h K ↔ wp d 80 127 [l0, l1, l2, l3, xk l4, some (.int (x + 1)), l6, l7] st h K := w_iinc (i := 80) (pc := 124) dX6_firstWrongCode_124 rfl (Nat.le_of_ble_eq_true rfl) (by decide) (show xst1 [l0, l1, l2, l3, l4, some (.int x), l6, l7] 5 (.int (x + 1)) = [l0, l1, l2, l3, xk l4, some (.int (x + 1)), l6, l7] by simp only [xst1_0, xst1_1, xst1_s, Nat.reduceAdd])
theorem dX6_firstWrongCode_127 : decode cX6_firstWrongCode 127 = .ok (.iinc 7 1, 3) := by decide +kernel
theorem w80_127 {d : Nat} {st : List Value} {h : xH} {K : Option Value → xH → Prop} {l0 l1 l2 l3 l4 l5 l6 : Option Value} {x : Int32} : wp d 80 127 [l0, l1, l2, l3, l4, l5, l6, some (.int x)] st h K ↔ wp d 80 130 [l0, l1, l2, l3, l4, l5, xk l6, some (.int (x + 1))] st h K := w_iinc (i := 80) (pc := 127) dX6_firstWrongCode_127 rfl (Nat.le_of_ble_eq_true rfl) (by decide) (show xst1 [l0, l1, l2, l3, l4, l5, l6, some (.int x)] 7 (.int (x + 1)) = [l0, l1, l2, l3, l4, l5, xk l6, some (.int (x + 1))] by simp only [xst1_0, xst1_1, xst1_s, Nat.reduceAdd])
theorem dX6_firstWrongCode_130 : decode cX6_firstWrongCode 130 = .ok (.goto (-32), 3) := by decide +kernel
theorem w80_130 {d : Nat} {st : List Value} {h : xH} {K : Option Value → xH → Prop} {ls : xL} : wp d 80 130 ls st h K ↔ wp d 80 98 ls st h K := w_goto (i := 80) (pc := 130) dX6_firstWrongCode_130 (by decide) rfl
theorem dX6_firstWrongCode_133 : decode cX6_firstWrongCode 133 = .ok (.iinc 6 1, 3) := by decide +kernel
theorem w80_133 {d : Nat} {st : List Value} {h : xH} {K : Option Value → xH → Prop} {l0 l1 l2 l3 l4 l5 l7 : Option Value} {x : Int32} : wp d 80 133 [l0, l1, l2, l3, l4, l5, some (.int x), l7] st h K ↔ wp d 80 136 [l0, l1, l2, l3, l4, xk l5, some (.int (x + 1)), l7] st h K := w_iinc (i := 80) (pc := 133) dX6_firstWrongCode_133 rfl (Nat.le_of_ble_eq_true rfl) (by decide) (show xst1 [l0, l1, l2, l3, l4, l5, some (.int x), l7] 6 (.int (x + 1)) = [l0, l1, l2, l3, l4, xk l5, some (.int (x + 1)), l7] by simp only [xst1_0, xst1_1, xst1_s, Nat.reduceAdd])
theorem dX6_firstWrongCode_136 : decode cX6_firstWrongCode 136 = .ok (.goto (-66), 3) := by decide +kernel
theorem w80_136 {d : Nat} {st : List Value} {h : xH} {K : Option Value → xH → Prop} {ls : xL} : wp d 80 136 ls st h K ↔ wp d 80 70 ls st h K := w_goto (i := 80) (pc := 136) dX6_firstWrongCode_136 (by decide) rfl
theorem dX6_firstWrongCode_139 : decode cX6_firstWrongCode 139 = .ok (.iload 5, 2) := by decide +kernel
theorem w80_139 {d : Nat} {st : List Value} {h : xH} {K : Option Value → xH → Prop} {l0 l1 l2 l3 l4 l6 l7 : Option Value} {x : Int32} : wp d 80 139 [l0, l1, l2, l3, l4, some (.int x), l6, l7] st h K ↔ wp d 80 141 [l0, l1, l2, l3, l4, some (.int x), l6, l7] (.int x :: st) h K := w_any (i := 80) (pc := 139) dX6_firstWrongCode_139 rfl rfl
theorem dX6_firstWrongCode_141 : decode cX6_firstWrongCode 141 = .ok (.iload_n 2, 1) := by decide +kernel
theorem w80_141 {d : Nat} {st : List Value} {h : xH} {K : Option Value → xH → Prop} {l0 l1 l3 l4 l5 l6 l7 : Option Value} {x : Int32} : wp d 80 141 [l0, l1, some (.int x), l3, l4, l5, l6, l7] st h K ↔ wp d 80 142 [l0, l1, some (.int x), l3, l4, l5, l6, l7] (.int x :: st) h K := w_any (i := 80) (pc := 141) dX6_firstWrongCode_141 rfl rfl
theorem dX6_firstWrongCode_142 : decode cX6_firstWrongCode 142 = .ok (.if_icmp .ge 8, 3) := by decide +kernel
theorem w80_142 {d : Nat} {st : List Value} {h : xH} {K : Option Value → xH → Prop} {ls : xL} {x y : Int32} : wp d 80 142 ls (.int y :: .int x :: st) h K ↔ ((y ≤ x) → wp d 80 150 ls st h K) ∧ ((¬ (y ≤ x)) → wp d 80 145 ls st h K) := w_if2 (i := 80) (pc := 142) (cd := .ge) (off := 8) (tgt := 150) dX6_firstWrongCode_142 (by decide) rfl
theorem dX6_firstWrongCode_145 : decode cX6_firstWrongCode 145 = .ok (.iload 5, 2) := by decide +kernel
theorem w80_145 {d : Nat} {st : List Value} {h : xH} {K : Option Value → xH → Prop} {l0 l1 l2 l3 l4 l6 l7 : Option Value} {x : Int32} : wp d 80 145 [l0, l1, l2, l3, l4, some (.int x), l6, l7] st h K ↔ wp d 80 147 [l0, l1, l2, l3, l4, some (.int x), l6, l7] (.int x :: st) h K := w_any (i := 80) (pc := 145) dX6_firstWrongCode_145 rfl rfl
theorem dX6_firstWrongCode_147 : decode cX6_firstWrongCode 147 = .ok (.goto 5, 3) := by decide +kernel
theorem w80_147 {d : Nat} {st : List Value} {h : xH} {K : Option Value → xH → Prop} {ls : xL} : wp d 80 147 ls st h K ↔ wp d 80 152 ls st h K := w_goto (i := 80) (pc := 147) dX6_firstWrongCode_147 (by decide) rfl
theorem dX6_firstWrongCode_150 : decode cX6_firstWrongCode 150 = .ok (.bipush (-9), 2) := by decide +kernel
theorem w80_150 {d : Nat} {st : List Value} {h : xH} {K : Option Value → xH → Prop} {ls : xL} : wp d 80 150 ls st h K ↔ wp d 80 152 ls (.int (-9) :: st) h K := w_bipush (i := 80) (pc := 150) dX6_firstWrongCode_150 (by decide)
theorem dX6_firstWrongCode_152 : decode cX6_firstWrongCode 152 = .ok (.ireturn, 1) := by decide +kernel
theorem w80_152 {d : Nat} {h : xH} {K : Option Value → xH → Prop} {ls : xL} {x : Int32} : wp d 80 152 ls [.int x] h K ↔ K (some (.int x)) h := w_iret (i := 80) (pc := 152) dX6_firstWrongCode_152 rfl
theorem dX6_layOut_0 : decode cX6_layOut 0 = .ok (.aload_n 1, 1) := by decide +kernel
theorem w81_0 {d : Nat} {st : List Value} {h : xH} {K : Option Value → xH → Prop} {l0 l2 l3 l4 l5 l6 l7 l8 : Option Value} {x : Nat} : wp d 81 0 [l0, some (.ref x), l2, l3, l4, l5, l6, l7, l8] st h K ↔ wp d 81 1 [l0, some (.ref x), l2, l3, l4, l5, l6, l7, l8] (.ref x :: st) h K := w_any (i := 81) (pc := 0) dX6_layOut_0 rfl rfl
theorem w81_0n {d : Nat} {st : List Value} {h : xH} {K : Option Value → xH → Prop} {l0 l2 l3 l4 l5 l6 l7 l8 : Option Value} : wp d 81 0 [l0, some .null, l2, l3, l4, l5, l6, l7, l8] st h K ↔ wp d 81 1 [l0, some .null, l2, l3, l4, l5, l6, l7, l8] (.null :: st) h K := w_any (i := 81) (pc := 0) dX6_layOut_0 rfl rfl
theorem dX6_layOut_1 : decode cX6_layOut 1 = .ok (.iload_n 2, 1) := by decide +kernel
theorem w81_1 {d : Nat} {st : List Value} {h : xH} {K : Option Value → xH → Prop} {l0 l1 l3 l4 l5 l6 l7 l8 : Option Value} {x : Int32} : wp d 81 1 [l0, l1, some (.int x), l3, l4, l5, l6, l7, l8] st h K ↔ wp d 81 2 [l0, l1, some (.int x), l3, l4, l5, l6, l7, l8] (.int x :: st) h K := w_any (i := 81) (pc := 1) dX6_layOut_1 rfl rfl
theorem dX6_layOut_2 : decode cX6_layOut 2 = .ok (.iconst 1, 1) := by decide +kernel
theorem w81_2 {d : Nat} {st : List Value} {h : xH} {K : Option Value → xH → Prop} {ls : xL} : wp d 81 2 ls st h K ↔ wp d 81 3 ls (.int 1 :: st) h K := w_iconst (i := 81) (pc := 2) dX6_layOut_2 (by decide)
theorem dX6_layOut_3 : decode cX6_layOut 3 = .ok (.iadd, 1) := by decide +kernel
theorem w81_3 {d : Nat} {st : List Value} {h : xH} {K : Option Value → xH → Prop} {ls : xL} {x y : Int32} : wp d 81 3 ls (.int y :: .int x :: st) h K ↔ wp d 81 4 ls (.int (x + y) :: st) h K := w_any (i := 81) (pc := 3) dX6_layOut_3 rfl rfl
theorem dX6_layOut_4 : decode cX6_layOut 4 = .ok (.invokevirtual 212, 3) := by decide +kernel
theorem w81_4 {d : Nat} {st : List Value} {h : xH} {K : Option Value → xH → Prop} {ls : xL} {a0 : Int32} {b : Nat} : wp (d + 1) 81 4 ls (.int a0 :: .ref b :: st) h K ↔ y_cls h b 5 ∧ xcs st ≤ 8 ∧ wp d 33 0 [some (.ref b), some (.int a0)] [] h (fun v h1 => wp (d + 1) 81 7 ls (v.toList ++ st) h1 K) := w_callW (i := 81) (pc := 4) (as := [.int a0]) (rest := st) dX6_layOut_4 rfl (by decide) rfl rfl (by decide) rfl rfl rfl rfl
theorem dX6_layOut_7 : decode cX6_layOut 7 = .ok (.bipush 48, 2) := by decide +kernel
theorem w81_7 {d : Nat} {st : List Value} {h : xH} {K : Option Value → xH → Prop} {ls : xL} : wp d 81 7 ls st h K ↔ wp d 81 9 ls (.int 48 :: st) h K := w_bipush (i := 81) (pc := 7) dX6_layOut_7 (by decide)
theorem dX6_layOut_9 : decode cX6_layOut 9 = .ok (.isub, 1) := by decide +kernel
theorem w81_9 {d : Nat} {st : List Value} {h : xH} {K : Option Value → xH → Prop} {ls : xL} {x y : Int32} : wp d 81 9 ls (.int y :: .int x :: st) h K ↔ wp d 81 10 ls (.int (x - y) :: st) h K := w_any (i := 81) (pc := 9) dX6_layOut_9 rfl rfl
theorem dX6_layOut_10 : decode cX6_layOut 10 = .ok (.istore_n 3, 1) := by decide +kernel
theorem w81_10 {d : Nat} {st : List Value} {h : xH} {K : Option Value → xH → Prop} {l0 l1 l2 l3 l4 l5 l6 l7 l8 : Option Value} {x : Int32} : wp d 81 10 [l0, l1, l2, l3, l4, l5, l6, l7, l8] (.int x :: st) h K ↔ wp d 81 11 [l0, l1, xk l2, some (.int x), l4, l5, l6, l7, l8] st h K := w_istore_n (i := 81) (pc := 10) dX6_layOut_10 (Nat.le_of_ble_eq_true rfl) (show xst1 [l0, l1, l2, l3, l4, l5, l6, l7, l8] 3 (.int x) = [l0, l1, xk l2, some (.int x), l4, l5, l6, l7, l8] by simp only [xst1_0, xst1_1, xst1_s, Nat.reduceAdd])
theorem dX6_layOut_11 : decode cX6_layOut 11 = .ok (.aload_n 1, 1) := by decide +kernel
theorem w81_11 {d : Nat} {st : List Value} {h : xH} {K : Option Value → xH → Prop} {l0 l2 l3 l4 l5 l6 l7 l8 : Option Value} {x : Nat} : wp d 81 11 [l0, some (.ref x), l2, l3, l4, l5, l6, l7, l8] st h K ↔ wp d 81 12 [l0, some (.ref x), l2, l3, l4, l5, l6, l7, l8] (.ref x :: st) h K := w_any (i := 81) (pc := 11) dX6_layOut_11 rfl rfl
theorem w81_11n {d : Nat} {st : List Value} {h : xH} {K : Option Value → xH → Prop} {l0 l2 l3 l4 l5 l6 l7 l8 : Option Value} : wp d 81 11 [l0, some .null, l2, l3, l4, l5, l6, l7, l8] st h K ↔ wp d 81 12 [l0, some .null, l2, l3, l4, l5, l6, l7, l8] (.null :: st) h K := w_any (i := 81) (pc := 11) dX6_layOut_11 rfl rfl
theorem dX6_layOut_12 : decode cX6_layOut 12 = .ok (.iload_n 2, 1) := by decide +kernel
theorem w81_12 {d : Nat} {st : List Value} {h : xH} {K : Option Value → xH → Prop} {l0 l1 l3 l4 l5 l6 l7 l8 : Option Value} {x : Int32} : wp d 81 12 [l0, l1, some (.int x), l3, l4, l5, l6, l7, l8] st h K ↔ wp d 81 13 [l0, l1, some (.int x), l3, l4, l5, l6, l7, l8] (.int x :: st) h K := w_any (i := 81) (pc := 12) dX6_layOut_12 rfl rfl
theorem dX6_layOut_13 : decode cX6_layOut 13 = .ok (.iconst 2, 1) := by decide +kernel
theorem w81_13 {d : Nat} {st : List Value} {h : xH} {K : Option Value → xH → Prop} {ls : xL} : wp d 81 13 ls st h K ↔ wp d 81 14 ls (.int 2 :: st) h K := w_iconst (i := 81) (pc := 13) dX6_layOut_13 (by decide)
theorem dX6_layOut_14 : decode cX6_layOut 14 = .ok (.iadd, 1) := by decide +kernel
theorem w81_14 {d : Nat} {st : List Value} {h : xH} {K : Option Value → xH → Prop} {ls : xL} {x y : Int32} : wp d 81 14 ls (.int y :: .int x :: st) h K ↔ wp d 81 15 ls (.int (x + y) :: st) h K := w_any (i := 81) (pc := 14) dX6_layOut_14 rfl rfl
theorem dX6_layOut_15 : decode cX6_layOut 15 = .ok (.invokevirtual 212, 3) := by decide +kernel
theorem w81_15 {d : Nat} {st : List Value} {h : xH} {K : Option Value → xH → Prop} {ls : xL} {a0 : Int32} {b : Nat} : wp (d + 1) 81 15 ls (.int a0 :: .ref b :: st) h K ↔ y_cls h b 5 ∧ xcs st ≤ 8 ∧ wp d 33 0 [some (.ref b), some (.int a0)] [] h (fun v h1 => wp (d + 1) 81 18 ls (v.toList ++ st) h1 K) := w_callW (i := 81) (pc := 15) (as := [.int a0]) (rest := st) dX6_layOut_15 rfl (by decide) rfl rfl (by decide) rfl rfl rfl rfl
theorem dX6_layOut_18 : decode cX6_layOut 18 = .ok (.bipush 48, 2) := by decide +kernel
theorem w81_18 {d : Nat} {st : List Value} {h : xH} {K : Option Value → xH → Prop} {ls : xL} : wp d 81 18 ls st h K ↔ wp d 81 20 ls (.int 48 :: st) h K := w_bipush (i := 81) (pc := 18) dX6_layOut_18 (by decide)
theorem dX6_layOut_20 : decode cX6_layOut 20 = .ok (.isub, 1) := by decide +kernel
theorem w81_20 {d : Nat} {st : List Value} {h : xH} {K : Option Value → xH → Prop} {ls : xL} {x y : Int32} : wp d 81 20 ls (.int y :: .int x :: st) h K ↔ wp d 81 21 ls (.int (x - y) :: st) h K := w_any (i := 81) (pc := 20) dX6_layOut_20 rfl rfl
theorem dX6_layOut_21 : decode cX6_layOut 21 = .ok (.istore 4, 2) := by decide +kernel
theorem w81_21 {d : Nat} {st : List Value} {h : xH} {K : Option Value → xH → Prop} {l0 l1 l2 l3 l4 l5 l6 l7 l8 : Option Value} {x : Int32} : wp d 81 21 [l0, l1, l2, l3, l4, l5, l6, l7, l8] (.int x :: st) h K ↔ wp d 81 23 [l0, l1, l2, xk l3, some (.int x), l5, l6, l7, l8] st h K := w_istore (i := 81) (pc := 21) dX6_layOut_21 (Nat.le_of_ble_eq_true rfl) (show xst1 [l0, l1, l2, l3, l4, l5, l6, l7, l8] 4 (.int x) = [l0, l1, l2, xk l3, some (.int x), l5, l6, l7, l8] by simp only [xst1_0, xst1_1, xst1_s, Nat.reduceAdd])
theorem dX6_layOut_23 : decode cX6_layOut 23 = .ok (.aload_n 0, 1) := by decide +kernel
theorem w81_23 {d : Nat} {st : List Value} {h : xH} {K : Option Value → xH → Prop} {l1 l2 l3 l4 l5 l6 l7 l8 : Option Value} {x : Nat} : wp d 81 23 [some (.ref x), l1, l2, l3, l4, l5, l6, l7, l8] st h K ↔ wp d 81 24 [some (.ref x), l1, l2, l3, l4, l5, l6, l7, l8] (.ref x :: st) h K := w_any (i := 81) (pc := 23) dX6_layOut_23 rfl rfl
theorem w81_23n {d : Nat} {st : List Value} {h : xH} {K : Option Value → xH → Prop} {l1 l2 l3 l4 l5 l6 l7 l8 : Option Value} : wp d 81 23 [some .null, l1, l2, l3, l4, l5, l6, l7, l8] st h K ↔ wp d 81 24 [some .null, l1, l2, l3, l4, l5, l6, l7, l8] (.null :: st) h K := w_any (i := 81) (pc := 23) dX6_layOut_23 rfl rfl
theorem dX6_layOut_24 : decode cX6_layOut 24 = .ok (.getfield 14, 3) := by decide +kernel
theorem w81_24 {d : Nat} {st : List Value} {h : xH} {K : Option Value → xH → Prop} {ls : xL} {a : Nat} : wp d 81 24 ls (.ref a :: st) h K ↔ y_get h a 7 0 (fun v => wp d 81 27 ls (v :: st) h K) := w_get (i := 81) (pc := 24) dX6_layOut_24 rfl
theorem dX6_layOut_27 : decode cX6_layOut 27 = .ok (.getfield 65, 3) := by decide +kernel
theorem w81_27 {d : Nat} {st : List Value} {h : xH} {K : Option Value → xH → Prop} {ls : xL} {a : Nat} : wp d 81 27 ls (.ref a :: st) h K ↔ y_get h a 1 0 (fun v => wp d 81 30 ls (v :: st) h K) := w_get (i := 81) (pc := 27) dX6_layOut_27 rfl
theorem dX6_layOut_30 : decode cX6_layOut 30 = .ok (.iload_n 3, 1) := by decide +kernel
theorem w81_30 {d : Nat} {st : List Value} {h : xH} {K : Option Value → xH → Prop} {l0 l1 l2 l4 l5 l6 l7 l8 : Option Value} {x : Int32} : wp d 81 30 [l0, l1, l2, some (.int x), l4, l5, l6, l7, l8] st h K ↔ wp d 81 31 [l0, l1, l2, some (.int x), l4, l5, l6, l7, l8] (.int x :: st) h K := w_any (i := 81) (pc := 30) dX6_layOut_30 rfl rfl
theorem dX6_layOut_31 : decode cX6_layOut 31 = .ok (.iload 4, 2) := by decide +kernel
theorem w81_31 {d : Nat} {st : List Value} {h : xH} {K : Option Value → xH → Prop} {l0 l1 l2 l3 l5 l6 l7 l8 : Option Value} {x : Int32} : wp d 81 31 [l0, l1, l2, l3, some (.int x), l5, l6, l7, l8] st h K ↔ wp d 81 33 [l0, l1, l2, l3, some (.int x), l5, l6, l7, l8] (.int x :: st) h K := w_any (i := 81) (pc := 31) dX6_layOut_31 rfl rfl
theorem dX6_layOut_33 : decode cX6_layOut 33 = .ok (.invokevirtual 184, 3) := by decide +kernel
theorem w81_33 {d : Nat} {st : List Value} {h : xH} {K : Option Value → xH → Prop} {ls : xL} {a0 : Int32} {a1 : Int32} {b : Nat} : wp (d + 1) 81 33 ls (.int a1 :: .int a0 :: .ref b :: st) h K ↔ y_cls h b 3 ∧ xcs st ≤ 8 ∧ wp d 21 0 [some (.ref b), some (.int a0), some (.int a1)] [] h (fun v h1 => wp (d + 1) 81 36 ls (v.toList ++ st) h1 K) := w_callW (i := 81) (pc := 33) (as := [.int a0, .int a1]) (rest := st) dX6_layOut_33 rfl (by decide) rfl rfl (by decide) rfl rfl rfl rfl
theorem dX6_layOut_36 : decode cX6_layOut 36 = .ok (.aload_n 0, 1) := by decide +kernel
theorem w81_36 {d : Nat} {st : List Value} {h : xH} {K : Option Value → xH → Prop} {l1 l2 l3 l4 l5 l6 l7 l8 : Option Value} {x : Nat} : wp d 81 36 [some (.ref x), l1, l2, l3, l4, l5, l6, l7, l8] st h K ↔ wp d 81 37 [some (.ref x), l1, l2, l3, l4, l5, l6, l7, l8] (.ref x :: st) h K := w_any (i := 81) (pc := 36) dX6_layOut_36 rfl rfl
theorem w81_36n {d : Nat} {st : List Value} {h : xH} {K : Option Value → xH → Prop} {l1 l2 l3 l4 l5 l6 l7 l8 : Option Value} : wp d 81 36 [some .null, l1, l2, l3, l4, l5, l6, l7, l8] st h K ↔ wp d 81 37 [some .null, l1, l2, l3, l4, l5, l6, l7, l8] (.null :: st) h K := w_any (i := 81) (pc := 36) dX6_layOut_36 rfl rfl
theorem dX6_layOut_37 : decode cX6_layOut 37 = .ok (.getfield 14, 3) := by decide +kernel
theorem w81_37 {d : Nat} {st : List Value} {h : xH} {K : Option Value → xH → Prop} {ls : xL} {a : Nat} : wp d 81 37 ls (.ref a :: st) h K ↔ y_get h a 7 0 (fun v => wp d 81 40 ls (v :: st) h K) := w_get (i := 81) (pc := 37) dX6_layOut_37 rfl
theorem dX6_layOut_40 : decode cX6_layOut 40 = .ok (.getfield 88, 3) := by decide +kernel
theorem w81_40 {d : Nat} {st : List Value} {h : xH} {K : Option Value → xH → Prop} {ls : xL} {a : Nat} : wp d 81 40 ls (.ref a :: st) h K ↔ y_get h a 1 2 (fun v => wp d 81 43 ls (v :: st) h K) := w_get (i := 81) (pc := 40) dX6_layOut_40 rfl
theorem dX6_layOut_43 : decode cX6_layOut 43 = .ok (.invokevirtual 181, 3) := by decide +kernel
theorem w81_43 {d : Nat} {st : List Value} {h : xH} {K : Option Value → xH → Prop} {ls : xL} {b : Nat} : wp (d + 1) 81 43 ls (.ref b :: st) h K ↔ y_cls h b 0 ∧ xcs st ≤ 8 ∧ wp d 167 0 [some (.ref b), none, none, none] [] h (fun v h1 => wp (d + 1) 81 46 ls (v.toList ++ st) h1 K) := w_callW (i := 81) (pc := 43) (as := []) (rest := st) dX6_layOut_43 rfl (by decide) rfl rfl (by decide) rfl rfl rfl rfl
theorem dX6_layOut_46 : decode cX6_layOut 46 = .ok (.aload_n 0, 1) := by decide +kernel
theorem w81_46 {d : Nat} {st : List Value} {h : xH} {K : Option Value → xH → Prop} {l1 l2 l3 l4 l5 l6 l7 l8 : Option Value} {x : Nat} : wp d 81 46 [some (.ref x), l1, l2, l3, l4, l5, l6, l7, l8] st h K ↔ wp d 81 47 [some (.ref x), l1, l2, l3, l4, l5, l6, l7, l8] (.ref x :: st) h K := w_any (i := 81) (pc := 46) dX6_layOut_46 rfl rfl
theorem w81_46n {d : Nat} {st : List Value} {h : xH} {K : Option Value → xH → Prop} {l1 l2 l3 l4 l5 l6 l7 l8 : Option Value} : wp d 81 46 [some .null, l1, l2, l3, l4, l5, l6, l7, l8] st h K ↔ wp d 81 47 [some .null, l1, l2, l3, l4, l5, l6, l7, l8] (.null :: st) h K := w_any (i := 81) (pc := 46) dX6_layOut_46 rfl rfl
theorem dX6_layOut_47 : decode cX6_layOut 47 = .ok (.getfield 14, 3) := by decide +kernel
theorem w81_47 {d : Nat} {st : List Value} {h : xH} {K : Option Value → xH → Prop} {ls : xL} {a : Nat} : wp d 81 47 ls (.ref a :: st) h K ↔ y_get h a 7 0 (fun v => wp d 81 50 ls (v :: st) h K) := w_get (i := 81) (pc := 47) dX6_layOut_47 rfl
theorem dX6_layOut_50 : decode cX6_layOut 50 = .ok (.getfield 133, 3) := by decide +kernel
theorem w81_50 {d : Nat} {st : List Value} {h : xH} {K : Option Value → xH → Prop} {ls : xL} {a : Nat} : wp d 81 50 ls (.ref a :: st) h K ↔ y_get h a 1 1 (fun v => wp d 81 53 ls (v :: st) h K) := w_get (i := 81) (pc := 50) dX6_layOut_50 rfl
theorem dX6_layOut_53 : decode cX6_layOut 53 = .ok (.invokevirtual 256, 3) := by decide +kernel
theorem w81_53 {d : Nat} {st : List Value} {h : xH} {K : Option Value → xH → Prop} {ls : xL} {b : Nat} : wp (d + 1) 81 53 ls (.ref b :: st) h K ↔ y_cls h b 2 ∧ xcs st ≤ 8 ∧ wp d 13 0 [some (.ref b), none] [] h (fun v h1 => wp (d + 1) 81 56 ls (v.toList ++ st) h1 K) := w_callW (i := 81) (pc := 53) (as := []) (rest := st) dX6_layOut_53 rfl (by decide) rfl rfl (by decide) rfl rfl rfl rfl
theorem dX6_layOut_56 : decode cX6_layOut 56 = .ok (.aload_n 0, 1) := by decide +kernel
theorem w81_56 {d : Nat} {st : List Value} {h : xH} {K : Option Value → xH → Prop} {l1 l2 l3 l4 l5 l6 l7 l8 : Option Value} {x : Nat} : wp d 81 56 [some (.ref x), l1, l2, l3, l4, l5, l6, l7, l8] st h K ↔ wp d 81 57 [some (.ref x), l1, l2, l3, l4, l5, l6, l7, l8] (.ref x :: st) h K := w_any (i := 81) (pc := 56) dX6_layOut_56 rfl rfl
theorem w81_56n {d : Nat} {st : List Value} {h : xH} {K : Option Value → xH → Prop} {l1 l2 l3 l4 l5 l6 l7 l8 : Option Value} : wp d 81 56 [some .null, l1, l2, l3, l4, l5, l6, l7, l8] st h K ↔ wp d 81 57 [some .null, l1, l2, l3, l4, l5, l6, l7, l8] (.null :: st) h K := w_any (i := 81) (pc := 56) dX6_layOut_56 rfl rfl
theorem dX6_layOut_57 : decode cX6_layOut 57 = .ok (.getfield 24, 3) := by decide +kernel
theorem w81_57 {d : Nat} {st : List Value} {h : xH} {K : Option Value → xH → Prop} {ls : xL} {a : Nat} : wp d 81 57 ls (.ref a :: st) h K ↔ y_get h a 7 2 (fun v => wp d 81 60 ls (v :: st) h K) := w_get (i := 81) (pc := 57) dX6_layOut_57 rfl
theorem dX6_layOut_60 : decode cX6_layOut 60 = .ok (.invokevirtual 181, 3) := by decide +kernel
theorem w81_60 {d : Nat} {st : List Value} {h : xH} {K : Option Value → xH → Prop} {ls : xL} {b : Nat} : wp (d + 1) 81 60 ls (.ref b :: st) h K ↔ y_cls h b 0 ∧ xcs st ≤ 8 ∧ wp d 167 0 [some (.ref b), none, none, none] [] h (fun v h1 => wp (d + 1) 81 63 ls (v.toList ++ st) h1 K) := w_callW (i := 81) (pc := 60) (as := []) (rest := st) dX6_layOut_60 rfl (by decide) rfl rfl (by decide) rfl rfl rfl rfl
theorem dX6_layOut_63 : decode cX6_layOut 63 = .ok (.iload_n 2, 1) := by decide +kernel
theorem w81_63 {d : Nat} {st : List Value} {h : xH} {K : Option Value → xH → Prop} {l0 l1 l3 l4 l5 l6 l7 l8 : Option Value} {x : Int32} : wp d 81 63 [l0, l1, some (.int x), l3, l4, l5, l6, l7, l8] st h K ↔ wp d 81 64 [l0, l1, some (.int x), l3, l4, l5, l6, l7, l8] (.int x :: st) h K := w_any (i := 81) (pc := 63) dX6_layOut_63 rfl rfl
theorem dX6_layOut_64 : decode cX6_layOut 64 = .ok (.iconst 3, 1) := by decide +kernel
theorem w81_64 {d : Nat} {st : List Value} {h : xH} {K : Option Value → xH → Prop} {ls : xL} : wp d 81 64 ls st h K ↔ wp d 81 65 ls (.int 3 :: st) h K := w_iconst (i := 81) (pc := 64) dX6_layOut_64 (by decide)
theorem dX6_layOut_65 : decode cX6_layOut 65 = .ok (.iadd, 1) := by decide +kernel
theorem w81_65 {d : Nat} {st : List Value} {h : xH} {K : Option Value → xH → Prop} {ls : xL} {x y : Int32} : wp d 81 65 ls (.int y :: .int x :: st) h K ↔ wp d 81 66 ls (.int (x + y) :: st) h K := w_any (i := 81) (pc := 65) dX6_layOut_65 rfl rfl
theorem dX6_layOut_66 : decode cX6_layOut 66 = .ok (.istore 5, 2) := by decide +kernel
theorem w81_66 {d : Nat} {st : List Value} {h : xH} {K : Option Value → xH → Prop} {l0 l1 l2 l3 l4 l5 l6 l7 l8 : Option Value} {x : Int32} : wp d 81 66 [l0, l1, l2, l3, l4, l5, l6, l7, l8] (.int x :: st) h K ↔ wp d 81 68 [l0, l1, l2, l3, xk l4, some (.int x), l6, l7, l8] st h K := w_istore (i := 81) (pc := 66) dX6_layOut_66 (Nat.le_of_ble_eq_true rfl) (show xst1 [l0, l1, l2, l3, l4, l5, l6, l7, l8] 5 (.int x) = [l0, l1, l2, l3, xk l4, some (.int x), l6, l7, l8] by simp only [xst1_0, xst1_1, xst1_s, Nat.reduceAdd])
theorem dX6_layOut_68 : decode cX6_layOut 68 = .ok (.iconst 0, 1) := by decide +kernel
theorem w81_68 {d : Nat} {st : List Value} {h : xH} {K : Option Value → xH → Prop} {ls : xL} : wp d 81 68 ls st h K ↔ wp d 81 69 ls (.int 0 :: st) h K := w_iconst (i := 81) (pc := 68) dX6_layOut_68 (by decide)
theorem dX6_layOut_69 : decode cX6_layOut 69 = .ok (.istore 6, 2) := by decide +kernel
theorem w81_69 {d : Nat} {st : List Value} {h : xH} {K : Option Value → xH → Prop} {l0 l1 l2 l3 l4 l5 l6 l7 l8 : Option Value} {x : Int32} : wp d 81 69 [l0, l1, l2, l3, l4, l5, l6, l7, l8] (.int x :: st) h K ↔ wp d 81 71 [l0, l1, l2, l3, l4, xk l5, some (.int x), l7, l8] st h K := w_istore (i := 81) (pc := 69) dX6_layOut_69 (Nat.le_of_ble_eq_true rfl) (show xst1 [l0, l1, l2, l3, l4, l5, l6, l7, l8] 6 (.int x) = [l0, l1, l2, l3, l4, xk l5, some (.int x), l7, l8] by simp only [xst1_0, xst1_1, xst1_s, Nat.reduceAdd])
theorem dX6_layOut_71 : decode cX6_layOut 71 = .ok (.iconst 0, 1) := by decide +kernel
theorem w81_71 {d : Nat} {st : List Value} {h : xH} {K : Option Value → xH → Prop} {ls : xL} : wp d 81 71 ls st h K ↔ wp d 81 72 ls (.int 0 :: st) h K := w_iconst (i := 81) (pc := 71) dX6_layOut_71 (by decide)
theorem dX6_layOut_72 : decode cX6_layOut 72 = .ok (.istore 7, 2) := by decide +kernel
theorem w81_72 {d : Nat} {st : List Value} {h : xH} {K : Option Value → xH → Prop} {l0 l1 l2 l3 l4 l5 l6 l7 l8 : Option Value} {x : Int32} : wp d 81 72 [l0, l1, l2, l3, l4, l5, l6, l7, l8] (.int x :: st) h K ↔ wp d 81 74 [l0, l1, l2, l3, l4, l5, xk l6, some (.int x), l8] st h K := w_istore (i := 81) (pc := 72) dX6_layOut_72 (Nat.le_of_ble_eq_true rfl) (show xst1 [l0, l1, l2, l3, l4, l5, l6, l7, l8] 7 (.int x) = [l0, l1, l2, l3, l4, l5, xk l6, some (.int x), l8] by simp only [xst1_0, xst1_1, xst1_s, Nat.reduceAdd])
theorem dX6_layOut_74 : decode cX6_layOut 74 = .ok (.iload 7, 2) := by decide +kernel
theorem w81_74 {d : Nat} {st : List Value} {h : xH} {K : Option Value → xH → Prop} {l0 l1 l2 l3 l4 l5 l6 l8 : Option Value} {x : Int32} : wp d 81 74 [l0, l1, l2, l3, l4, l5, l6, some (.int x), l8] st h K ↔ wp d 81 76 [l0, l1, l2, l3, l4, l5, l6, some (.int x), l8] (.int x :: st) h K := w_any (i := 81) (pc := 74) dX6_layOut_74 rfl rfl
theorem dX6_layOut_76 : decode cX6_layOut 76 = .ok (.iload_n 3, 1) := by decide +kernel
theorem w81_76 {d : Nat} {st : List Value} {h : xH} {K : Option Value → xH → Prop} {l0 l1 l2 l4 l5 l6 l7 l8 : Option Value} {x : Int32} : wp d 81 76 [l0, l1, l2, some (.int x), l4, l5, l6, l7, l8] st h K ↔ wp d 81 77 [l0, l1, l2, some (.int x), l4, l5, l6, l7, l8] (.int x :: st) h K := w_any (i := 81) (pc := 76) dX6_layOut_76 rfl rfl
theorem dX6_layOut_77 : decode cX6_layOut 77 = .ok (.if_icmp .ge 55, 3) := by decide +kernel
theorem w81_77 {d : Nat} {st : List Value} {h : xH} {K : Option Value → xH → Prop} {ls : xL} {x y : Int32} : wp d 81 77 ls (.int y :: .int x :: st) h K ↔ ((y ≤ x) → wp d 81 132 ls st h K) ∧ ((¬ (y ≤ x)) → wp d 81 80 ls st h K) := w_if2 (i := 81) (pc := 77) (cd := .ge) (off := 55) (tgt := 132) dX6_layOut_77 (by decide) rfl
theorem dX6_layOut_80 : decode cX6_layOut 80 = .ok (.iinc 5 1, 3) := by decide +kernel
theorem w81_80 {d : Nat} {st : List Value} {h : xH} {K : Option Value → xH → Prop} {l0 l1 l2 l3 l4 l6 l7 l8 : Option Value} {x : Int32} : wp d 81 80 [l0, l1, l2, l3, l4, some (.int x), l6, l7, l8] st h K ↔ wp d 81 83 [l0, l1, l2, l3, xk l4, some (.int (x + 1)), l6, l7, l8] st h K := w_iinc (i := 81) (pc := 80) dX6_layOut_80 rfl (Nat.le_of_ble_eq_true rfl) (by decide) (show xst1 [l0, l1, l2, l3, l4, some (.int x), l6, l7, l8] 5 (.int (x + 1)) = [l0, l1, l2, l3, xk l4, some (.int (x + 1)), l6, l7, l8] by simp only [xst1_0, xst1_1, xst1_s, Nat.reduceAdd])
theorem dX6_layOut_83 : decode cX6_layOut 83 = .ok (.iconst 0, 1) := by decide +kernel
theorem w81_83 {d : Nat} {st : List Value} {h : xH} {K : Option Value → xH → Prop} {ls : xL} : wp d 81 83 ls st h K ↔ wp d 81 84 ls (.int 0 :: st) h K := w_iconst (i := 81) (pc := 83) dX6_layOut_83 (by decide)
theorem dX6_layOut_84 : decode cX6_layOut 84 = .ok (.istore 8, 2) := by decide +kernel
theorem w81_84 {d : Nat} {st : List Value} {h : xH} {K : Option Value → xH → Prop} {l0 l1 l2 l3 l4 l5 l6 l7 l8 : Option Value} {x : Int32} : wp d 81 84 [l0, l1, l2, l3, l4, l5, l6, l7, l8] (.int x :: st) h K ↔ wp d 81 86 [l0, l1, l2, l3, l4, l5, l6, xk l7, some (.int x)] st h K := w_istore (i := 81) (pc := 84) dX6_layOut_84 (Nat.le_of_ble_eq_true rfl) (show xst1 [l0, l1, l2, l3, l4, l5, l6, l7, l8] 8 (.int x) = [l0, l1, l2, l3, l4, l5, l6, xk l7, some (.int x)] by simp only [xst1_0, xst1_1, xst1_s, Nat.reduceAdd])
theorem dX6_layOut_86 : decode cX6_layOut 86 = .ok (.iload 8, 2) := by decide +kernel
theorem w81_86 {d : Nat} {st : List Value} {h : xH} {K : Option Value → xH → Prop} {l0 l1 l2 l3 l4 l5 l6 l7 : Option Value} {x : Int32} : wp d 81 86 [l0, l1, l2, l3, l4, l5, l6, l7, some (.int x)] st h K ↔ wp d 81 88 [l0, l1, l2, l3, l4, l5, l6, l7, some (.int x)] (.int x :: st) h K := w_any (i := 81) (pc := 86) dX6_layOut_86 rfl rfl
theorem dX6_layOut_88 : decode cX6_layOut 88 = .ok (.iload 4, 2) := by decide +kernel
theorem w81_88 {d : Nat} {st : List Value} {h : xH} {K : Option Value → xH → Prop} {l0 l1 l2 l3 l5 l6 l7 l8 : Option Value} {x : Int32} : wp d 81 88 [l0, l1, l2, l3, some (.int x), l5, l6, l7, l8] st h K ↔ wp d 81 90 [l0, l1, l2, l3, some (.int x), l5, l6, l7, l8] (.int x :: st) h K := w_any (i := 81) (pc := 88) dX6_layOut_88 rfl rfl
theorem dX6_layOut_90 : decode cX6_layOut 90 = .ok (.if_icmp .ge 36, 3) := by decide +kernel
theorem w81_90 {d : Nat} {st : List Value} {h : xH} {K : Option Value → xH → Prop} {ls : xL} {x y : Int32} : wp d 81 90 ls (.int y :: .int x :: st) h K ↔ ((y ≤ x) → wp d 81 126 ls st h K) ∧ ((¬ (y ≤ x)) → wp d 81 93 ls st h K) := w_if2 (i := 81) (pc := 90) (cd := .ge) (off := 36) (tgt := 126) dX6_layOut_90 (by decide) rfl
theorem dX6_layOut_93 : decode cX6_layOut 93 = .ok (.aload_n 0, 1) := by decide +kernel
theorem w81_93 {d : Nat} {st : List Value} {h : xH} {K : Option Value → xH → Prop} {l1 l2 l3 l4 l5 l6 l7 l8 : Option Value} {x : Nat} : wp d 81 93 [some (.ref x), l1, l2, l3, l4, l5, l6, l7, l8] st h K ↔ wp d 81 94 [some (.ref x), l1, l2, l3, l4, l5, l6, l7, l8] (.ref x :: st) h K := w_any (i := 81) (pc := 93) dX6_layOut_93 rfl rfl
theorem w81_93n {d : Nat} {st : List Value} {h : xH} {K : Option Value → xH → Prop} {l1 l2 l3 l4 l5 l6 l7 l8 : Option Value} : wp d 81 93 [some .null, l1, l2, l3, l4, l5, l6, l7, l8] st h K ↔ wp d 81 94 [some .null, l1, l2, l3, l4, l5, l6, l7, l8] (.null :: st) h K := w_any (i := 81) (pc := 93) dX6_layOut_93 rfl rfl
theorem dX6_layOut_94 : decode cX6_layOut 94 = .ok (.getfield 14, 3) := by decide +kernel
theorem w81_94 {d : Nat} {st : List Value} {h : xH} {K : Option Value → xH → Prop} {ls : xL} {a : Nat} : wp d 81 94 ls (.ref a :: st) h K ↔ y_get h a 7 0 (fun v => wp d 81 97 ls (v :: st) h K) := w_get (i := 81) (pc := 94) dX6_layOut_94 rfl
theorem dX6_layOut_97 : decode cX6_layOut 97 = .ok (.getfield 65, 3) := by decide +kernel
theorem w81_97 {d : Nat} {st : List Value} {h : xH} {K : Option Value → xH → Prop} {ls : xL} {a : Nat} : wp d 81 97 ls (.ref a :: st) h K ↔ y_get h a 1 0 (fun v => wp d 81 100 ls (v :: st) h K) := w_get (i := 81) (pc := 97) dX6_layOut_97 rfl
theorem dX6_layOut_100 : decode cX6_layOut 100 = .ok (.iload 6, 2) := by decide +kernel
theorem w81_100 {d : Nat} {st : List Value} {h : xH} {K : Option Value → xH → Prop} {l0 l1 l2 l3 l4 l5 l7 l8 : Option Value} {x : Int32} : wp d 81 100 [l0, l1, l2, l3, l4, l5, some (.int x), l7, l8] st h K ↔ wp d 81 102 [l0, l1, l2, l3, l4, l5, some (.int x), l7, l8] (.int x :: st) h K := w_any (i := 81) (pc := 100) dX6_layOut_100 rfl rfl
theorem dX6_layOut_102 : decode cX6_layOut 102 = .ok (.aload_n 1, 1) := by decide +kernel
theorem w81_102 {d : Nat} {st : List Value} {h : xH} {K : Option Value → xH → Prop} {l0 l2 l3 l4 l5 l6 l7 l8 : Option Value} {x : Nat} : wp d 81 102 [l0, some (.ref x), l2, l3, l4, l5, l6, l7, l8] st h K ↔ wp d 81 103 [l0, some (.ref x), l2, l3, l4, l5, l6, l7, l8] (.ref x :: st) h K := w_any (i := 81) (pc := 102) dX6_layOut_102 rfl rfl
theorem w81_102n {d : Nat} {st : List Value} {h : xH} {K : Option Value → xH → Prop} {l0 l2 l3 l4 l5 l6 l7 l8 : Option Value} : wp d 81 102 [l0, some .null, l2, l3, l4, l5, l6, l7, l8] st h K ↔ wp d 81 103 [l0, some .null, l2, l3, l4, l5, l6, l7, l8] (.null :: st) h K := w_any (i := 81) (pc := 102) dX6_layOut_102 rfl rfl
theorem dX6_layOut_103 : decode cX6_layOut 103 = .ok (.iload 5, 2) := by decide +kernel
theorem w81_103 {d : Nat} {st : List Value} {h : xH} {K : Option Value → xH → Prop} {l0 l1 l2 l3 l4 l6 l7 l8 : Option Value} {x : Int32} : wp d 81 103 [l0, l1, l2, l3, l4, some (.int x), l6, l7, l8] st h K ↔ wp d 81 105 [l0, l1, l2, l3, l4, some (.int x), l6, l7, l8] (.int x :: st) h K := w_any (i := 81) (pc := 103) dX6_layOut_103 rfl rfl
theorem dX6_layOut_105 : decode cX6_layOut 105 = .ok (.invokevirtual 212, 3) := by decide +kernel
theorem w81_105 {d : Nat} {st : List Value} {h : xH} {K : Option Value → xH → Prop} {ls : xL} {a0 : Int32} {b : Nat} : wp (d + 1) 81 105 ls (.int a0 :: .ref b :: st) h K ↔ y_cls h b 5 ∧ xcs st ≤ 8 ∧ wp d 33 0 [some (.ref b), some (.int a0)] [] h (fun v h1 => wp (d + 1) 81 108 ls (v.toList ++ st) h1 K) := w_callW (i := 81) (pc := 105) (as := [.int a0]) (rest := st) dX6_layOut_105 rfl (by decide) rfl rfl (by decide) rfl rfl rfl rfl
theorem dX6_layOut_108 : decode cX6_layOut 108 = .ok (.invokestatic 253, 3) := by decide +kernel
theorem w81_108 {d : Nat} {st : List Value} {h : xH} {K : Option Value → xH → Prop} {ls : xL} {a0 : Int32} : wp (d + 1) 81 108 ls (.int a0 :: st) h K ↔ xcs st ≤ 8 ∧ wp d 79 0 [some (.int a0)] [] h (fun v h1 => wp (d + 1) 81 111 ls (v.toList ++ st) h1 K) := w_callS (i := 81) (pc := 108) (as := [.int a0]) (rest := st) dX6_layOut_108 rfl (by decide) rfl rfl rfl rfl rfl
theorem dX6_layOut_111 : decode cX6_layOut 111 = .ok (.invokevirtual 84, 3) := by decide +kernel
theorem w81_111 {d : Nat} {st : List Value} {h : xH} {K : Option Value → xH → Prop} {ls : xL} {a0 : Int32} {a1 : Int32} {b : Nat} : wp (d + 1) 81 111 ls (.int a1 :: .int a0 :: .ref b :: st) h K ↔ y_cls h b 3 ∧ xcs st ≤ 8 ∧ wp d 20 0 [some (.ref b), some (.int a0), some (.int a1)] [] h (fun v h1 => wp (d + 1) 81 114 ls (v.toList ++ st) h1 K) := w_callW (i := 81) (pc := 111) (as := [.int a0, .int a1]) (rest := st) dX6_layOut_111 rfl (by decide) rfl rfl (by decide) rfl rfl rfl rfl
theorem dX6_layOut_114 : decode cX6_layOut 114 = .ok (.iinc 5 1, 3) := by decide +kernel
theorem w81_114 {d : Nat} {st : List Value} {h : xH} {K : Option Value → xH → Prop} {l0 l1 l2 l3 l4 l6 l7 l8 : Option Value} {x : Int32} : wp d 81 114 [l0, l1, l2, l3, l4, some (.int x), l6, l7, l8] st h K ↔ wp d 81 117 [l0, l1, l2, l3, xk l4, some (.int (x + 1)), l6, l7, l8] st h K := w_iinc (i := 81) (pc := 114) dX6_layOut_114 rfl (Nat.le_of_ble_eq_true rfl) (by decide) (show xst1 [l0, l1, l2, l3, l4, some (.int x), l6, l7, l8] 5 (.int (x + 1)) = [l0, l1, l2, l3, xk l4, some (.int (x + 1)), l6, l7, l8] by simp only [xst1_0, xst1_1, xst1_s, Nat.reduceAdd])
theorem dX6_layOut_117 : decode cX6_layOut 117 = .ok (.iinc 6 1, 3) := by decide +kernel
theorem w81_117 {d : Nat} {st : List Value} {h : xH} {K : Option Value → xH → Prop} {l0 l1 l2 l3 l4 l5 l7 l8 : Option Value} {x : Int32} : wp d 81 117 [l0, l1, l2, l3, l4, l5, some (.int x), l7, l8] st h K ↔ wp d 81 120 [l0, l1, l2, l3, l4, xk l5, some (.int (x + 1)), l7, l8] st h K := w_iinc (i := 81) (pc := 117) dX6_layOut_117 rfl (Nat.le_of_ble_eq_true rfl) (by decide) (show xst1 [l0, l1, l2, l3, l4, l5, some (.int x), l7, l8] 6 (.int (x + 1)) = [l0, l1, l2, l3, l4, xk l5, some (.int (x + 1)), l7, l8] by simp only [xst1_0, xst1_1, xst1_s, Nat.reduceAdd])
theorem dX6_layOut_120 : decode cX6_layOut 120 = .ok (.iinc 8 1, 3) := by decide +kernel
theorem w81_120 {d : Nat} {st : List Value} {h : xH} {K : Option Value → xH → Prop} {l0 l1 l2 l3 l4 l5 l6 l7 : Option Value} {x : Int32} : wp d 81 120 [l0, l1, l2, l3, l4, l5, l6, l7, some (.int x)] st h K ↔ wp d 81 123 [l0, l1, l2, l3, l4, l5, l6, xk l7, some (.int (x + 1))] st h K := w_iinc (i := 81) (pc := 120) dX6_layOut_120 rfl (Nat.le_of_ble_eq_true rfl) (by decide) (show xst1 [l0, l1, l2, l3, l4, l5, l6, l7, some (.int x)] 8 (.int (x + 1)) = [l0, l1, l2, l3, l4, l5, l6, xk l7, some (.int (x + 1))] by simp only [xst1_0, xst1_1, xst1_s, Nat.reduceAdd])
theorem dX6_layOut_123 : decode cX6_layOut 123 = .ok (.goto (-37), 3) := by decide +kernel
theorem w81_123 {d : Nat} {st : List Value} {h : xH} {K : Option Value → xH → Prop} {ls : xL} : wp d 81 123 ls st h K ↔ wp d 81 86 ls st h K := w_goto (i := 81) (pc := 123) dX6_layOut_123 (by decide) rfl
theorem dX6_layOut_126 : decode cX6_layOut 126 = .ok (.iinc 7 1, 3) := by decide +kernel
theorem w81_126 {d : Nat} {st : List Value} {h : xH} {K : Option Value → xH → Prop} {l0 l1 l2 l3 l4 l5 l6 l8 : Option Value} {x : Int32} : wp d 81 126 [l0, l1, l2, l3, l4, l5, l6, some (.int x), l8] st h K ↔ wp d 81 129 [l0, l1, l2, l3, l4, l5, xk l6, some (.int (x + 1)), l8] st h K := w_iinc (i := 81) (pc := 126) dX6_layOut_126 rfl (Nat.le_of_ble_eq_true rfl) (by decide) (show xst1 [l0, l1, l2, l3, l4, l5, l6, some (.int x), l8] 7 (.int (x + 1)) = [l0, l1, l2, l3, l4, l5, xk l6, some (.int (x + 1)), l8] by simp only [xst1_0, xst1_1, xst1_s, Nat.reduceAdd])
theorem dX6_layOut_129 : decode cX6_layOut 129 = .ok (.goto (-55), 3) := by decide +kernel
theorem w81_129 {d : Nat} {st : List Value} {h : xH} {K : Option Value → xH → Prop} {ls : xL} : wp d 81 129 ls st h K ↔ wp d 81 74 ls st h K := w_goto (i := 81) (pc := 129) dX6_layOut_129 (by decide) rfl
theorem dX6_layOut_132 : decode cX6_layOut 132 = .ok (.return_, 1) := by decide +kernel
theorem w81_132 {d : Nat} {h : xH} {K : Option Value → xH → Prop} {ls : xL} : wp d 81 132 ls [] h K ↔ K none h := w_vret (i := 81) (pc := 132) dX6_layOut_132 rfl
