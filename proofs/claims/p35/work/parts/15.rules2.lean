/-! ===== more rules ===== -/
theorem xinj9 : ∀ a, x9 a → ∀ b, x9 b → xownS a = xownS b → a = b := by
  have key : ((List.range 9).all fun a => (List.range 9).all fun b => a == 4 || a == 8 || b == 4 || b == 8 || !(xownS a == xownS b) || a == b) = true := by decide +kernel
  intro a ha b hb hab
  have k1 := List.all_eq_true.mp (List.all_eq_true.mp key a (List.mem_range.mpr ha.1)) b (List.mem_range.mpr hb.1)
  simpa [ha.2.1, ha.2.2, hb.2.1, hb.2.2, hab] using k1
def y_bool (x : Int32) : Prop := narrow .boolean (.int x) = .int x
theorem y_bool0 : y_bool 0 := rfl
theorem y_bool1 : y_bool 1 := rfl
section RUL2
variable {d i pc idx : Nat} {ls : xL} {st : List Value} {h : xH} {K : Option Value → xH → Prop}
theorem w_iconst {n : Int} {v : Int32} (hd : decode (xMB i) pc = .ok (.iconst n, 1)) (hv : Int32.ofInt n = v) : wp d i pc ls st h K ↔ wp d i (pc + 1) ls (.int v :: st) h K := by subst hv; exact w_any hd rfl rfl
theorem w_bipush {n : Int} {v : Int32} (hd : decode (xMB i) pc = .ok (.bipush n, 2)) (hv : (Int8.ofInt n).toInt32 = v) : wp d i pc ls st h K ↔ wp d i (pc + 2) ls (.int v :: st) h K := by subst hv; exact w_any hd rfl rfl
theorem w_sipush {n : Int} {v : Int32} (hd : decode (xMB i) pc = .ok (.sipush n, 3)) (hv : (Int16.ofInt n).toInt32 = v) : wp d i pc ls st h K ↔ wp d i (pc + 3) ls (.int v :: st) h K := by subst hv; exact w_any hd rfl rfl
theorem w_lconst {n : Fin 2} {v : Int64} (hd : decode (xMB i) pc = .ok (.lconst n, 1)) (hv : Int64.ofNat (n : Nat) = v) : wp d i pc ls st h K ↔ wp d i (pc + 1) ls (.long v :: st) h K := by subst hv; exact w_any hd rfl rfl
theorem w_istore {k : Nat} {x : Int32} {ls' : xL} (hd : decode (xMB i) pc = .ok (.istore k, 2)) (hk : k < ls.length) (hs : xst1 ls k (.int x) = ls') : wp d i pc ls (.int x :: st) h K ↔ wp d i (pc + 2) ls' st h K := by subst hs; rw [wp_iff hd rfl]; exact w_ct hk
theorem w_istore_n {k : Fin 4} {x : Int32} {ls' : xL} (hd : decode (xMB i) pc = .ok (.istore_n k, 1)) (hk : (k : Nat) < ls.length) (hs : xst1 ls (k : Nat) (.int x) = ls') : wp d i pc ls (.int x :: st) h K ↔ wp d i (pc + 1) ls' st h K := by subst hs; rw [wp_iff hd rfl]; exact w_ct hk
theorem w_lstore {k : Nat} {x : Int64} {ls' : xL} (hd : decode (xMB i) pc = .ok (.lstore k, 2)) (hk : k + 1 < ls.length) (hs : xst2 ls k (.long x) = ls') : wp d i pc ls (.long x :: st) h K ↔ wp d i (pc + 2) ls' st h K := by subst hs; rw [wp_iff hd rfl]; exact w_ct hk
theorem w_lstore_n {k : Fin 4} {x : Int64} {ls' : xL} (hd : decode (xMB i) pc = .ok (.lstore_n k, 1)) (hk : (k : Nat) + 1 < ls.length) (hs : xst2 ls (k : Nat) (.long x) = ls') : wp d i pc ls (.long x :: st) h K ↔ wp d i (pc + 1) ls' st h K := by subst hs; rw [wp_iff hd rfl]; exact w_ct hk
theorem w_astore {k : Nat} {a : Nat} {ls' : xL} (hd : decode (xMB i) pc = .ok (.astore k, 2)) (hk : k < ls.length) (hs : xst1 ls k (.ref a) = ls') : wp d i pc ls (.ref a :: st) h K ↔ wp d i (pc + 2) ls' st h K := by subst hs; rw [wp_iff hd rfl]; exact w_ct hk
theorem w_astore_n {k : Fin 4} {a : Nat} {ls' : xL} (hd : decode (xMB i) pc = .ok (.astore_n k, 1)) (hk : (k : Nat) < ls.length) (hs : xst1 ls (k : Nat) (.ref a) = ls') : wp d i pc ls (.ref a :: st) h K ↔ wp d i (pc + 1) ls' st h K := by subst hs; rw [wp_iff hd rfl]; exact w_ct hk
theorem w_astoreN {k : Nat} {ls' : xL} (hd : decode (xMB i) pc = .ok (.astore k, 2)) (hk : k < ls.length) (hs : xst1 ls k .null = ls') : wp d i pc ls (.null :: st) h K ↔ wp d i (pc + 2) ls' st h K := by subst hs; rw [wp_iff hd rfl]; exact w_ct hk
theorem w_astore_nN {k : Fin 4} {ls' : xL} (hd : decode (xMB i) pc = .ok (.astore_n k, 1)) (hk : (k : Nat) < ls.length) (hs : xst1 ls (k : Nat) .null = ls') : wp d i pc ls (.null :: st) h K ↔ wp d i (pc + 1) ls' st h K := by subst hs; rw [wp_iff hd rfl]; exact w_ct hk
theorem w_iinc {k : Nat} {n : Int} {x v : Int32} {ls' : xL} (hd : decode (xMB i) pc = .ok (.iinc k n, 3)) (hx : xld ls k = some (.int x)) (hk : k < ls.length) (hv : Int32.ofInt n = v) (hs : xst1 ls k (.int (x + v)) = ls') : wp d i pc ls st h K ↔ wp d i (pc + 3) ls' st h K := by
  subst hs hv
  rw [wp_iff hd rfl]
  simp only [exI]
  unfold i_iinc
  rw [hx]
  exact w_ct hk
theorem w_if1 {cd : ClassFile.Cond} {off : Int} {tgt : Nat} {x : Int32} (hd : decode (xMB i) pc = .ok (.ifCond cd off, 3)) (hz : 0 ≤ (pc : Int) + off) (ht : ((pc : Int) + off).toNat = tgt) : wp d i pc ls (.int x :: st) h K ↔ (xc1 cd x → wp d i tgt ls st h K) ∧ (¬ xc1 cd x → wp d i (pc + 3) ls st h K) := by subst ht; rw [wp_iff hd rfl]; exact w_ct hz
theorem w_if2 {cd : ClassFile.Cond} {off : Int} {tgt : Nat} {x y : Int32} (hd : decode (xMB i) pc = .ok (.if_icmp cd off, 3)) (hz : 0 ≤ (pc : Int) + off) (ht : ((pc : Int) + off).toNat = tgt) : wp d i pc ls (.int y :: .int x :: st) h K ↔ (xc2 cd x y → wp d i tgt ls st h K) ∧ (¬ xc2 cd x y → wp d i (pc + 3) ls st h K) := by subst ht; rw [wp_iff hd rfl]; exact w_ct hz
theorem w_goto {off : Int} {tgt : Nat} (hd : decode (xMB i) pc = .ok (.goto off, 3)) (hz : 0 ≤ (pc : Int) + off) (ht : ((pc : Int) + off).toNat = tgt) : wp d i pc ls st h K ↔ wp d i tgt ls st h K := by subst ht; rw [wp_iff hd rfl]; exact w_ct hz
theorem w_ifnull {off : Int} {a : Nat} (hd : decode (xMB i) pc = .ok (.ifnull off, 3)) : wp d i pc ls (.ref a :: st) h K ↔ wp d i (pc + 3) ls st h K := w_any hd rfl rfl
theorem w_ifnullN {off : Int} {tgt : Nat} (hd : decode (xMB i) pc = .ok (.ifnull off, 3)) (hz : 0 ≤ (pc : Int) + off) (ht : ((pc : Int) + off).toNat = tgt) : wp d i pc ls (.null :: st) h K ↔ wp d i tgt ls st h K := by subst ht; rw [wp_iff hd rfl]; exact w_ct hz
theorem w_ifnonnull {off : Int} {tgt a : Nat} (hd : decode (xMB i) pc = .ok (.ifnonnull off, 3)) (hz : 0 ≤ (pc : Int) + off) (ht : ((pc : Int) + off).toNat = tgt) : wp d i pc ls (.ref a :: st) h K ↔ wp d i tgt ls st h K := by subst ht; rw [wp_iff hd rfl]; exact w_ct hz
theorem w_ifnonnullN {off : Int} (hd : decode (xMB i) pc = .ok (.ifnonnull off, 3)) : wp d i pc ls (.null :: st) h K ↔ wp d i (pc + 3) ls st h K := w_any hd rfl rfl
theorem w_acmp {off : Int} {tgt x y : Nat} (hd : decode (xMB i) pc = .ok (.if_acmp .eq off, 3)) (hz : 0 ≤ (pc : Int) + off) (ht : ((pc : Int) + off).toNat = tgt) : wp d i pc ls (.ref y :: .ref x :: st) h K ↔ x < h.length ∧ y < h.length ∧ (x = y → wp d i tgt ls st h K) ∧ (¬ x = y → wp d i (pc + 3) ls st h K) := by subst ht; rw [wp_iff hd rfl]; exact w_ct hz
theorem w_iald {a : Nat} {ix : Int32} (hd : decode (xMB i) pc = .ok (.iaload, 1)) : wp d i pc ls (.int ix :: .ref a :: st) h K ↔ y_iald h a ix (fun x => wp d i (pc + 1) ls (.int x :: st) h K) := w_any hd rfl rfl
theorem w_iast {a : Nat} {ix x : Int32} (hd : decode (xMB i) pc = .ok (.iastore, 1)) : wp d i pc ls (.int x :: .int ix :: .ref a :: st) h K ↔ y_iast h a ix x (fun h1 => wp d i (pc + 1) ls st h1 K) := w_any hd rfl rfl
theorem w_zald {a : Nat} {ix : Int32} (hd : decode (xMB i) pc = .ok (.baload, 1)) : wp d i pc ls (.int ix :: .ref a :: st) h K ↔ y_zald h a ix (fun x => wp d i (pc + 1) ls (.int x :: st) h K) := w_any hd rfl rfl
theorem w_zast {a : Nat} {ix x : Int32} (hd : decode (xMB i) pc = .ok (.bastore, 1)) : wp d i pc ls (.int x :: .int ix :: .ref a :: st) h K ↔ y_zast h a ix x (fun h1 => wp d i (pc + 1) ls st h1 K) := w_any hd rfl rfl
theorem w_lald {a : Nat} {ix : Int32} (hd : decode (xMB i) pc = .ok (.laload, 1)) : wp d i pc ls (.int ix :: .ref a :: st) h K ↔ y_lald h a ix (fun x => wp d i (pc + 1) ls (.long x :: st) h K) := w_any hd rfl rfl
theorem w_last {a : Nat} {ix : Int32} {x : Int64} (hd : decode (xMB i) pc = .ok (.lastore, 1)) : wp d i pc ls (.long x :: .int ix :: .ref a :: st) h K ↔ y_last h a ix x (fun h1 => wp d i (pc + 1) ls st h1 K) := w_any hd rfl rfl
theorem w_aald {a : Nat} {ix : Int32} (hd : decode (xMB i) pc = .ok (.aaload, 1)) : wp d i pc ls (.int ix :: .ref a :: st) h K ↔ y_aald h a ix (fun v => wp d i (pc + 1) ls (v :: st) h K) := w_any hd rfl rfl
theorem w_aast {a b : Nat} {ix : Int32} (hd : decode (xMB i) pc = .ok (.aastore, 1)) : wp d i pc ls (.ref b :: .int ix :: .ref a :: st) h K ↔ y_aast h a ix b (fun h1 => wp d i (pc + 1) ls st h1 K) := w_any hd rfl rfl
theorem w_aastN {a : Nat} {ix : Int32} (hd : decode (xMB i) pc = .ok (.aastore, 1)) : wp d i pc ls (.null :: .int ix :: .ref a :: st) h K ↔ y_aastN h a ix (fun h1 => wp d i (pc + 1) ls st h1 K) := w_any hd rfl rfl
theorem w_alen {a : Nat} (hd : decode (xMB i) pc = .ok (.arraylength, 1)) : wp d i pc ls (.ref a :: st) h K ↔ y_alen h a (fun x => wp d i (pc + 1) ls (.int x :: st) h K) := w_any hd rfl rfl
theorem w_new {ci : Nat} {fs : List Value} (hd : decode (xMB i) pc = .ok (.new idx, 3)) (hc : xcls (xMO i) idx = some ci) (hf : xDef[ci]? = some fs) : wp d i pc ls st h K ↔ wp d i (pc + 3) ls (.ref h.length :: st) (h ++ [.inr (ci, fs)]) K := by
  rw [wp_iff hd rfl]
  simp only [exI]
  unfold i_new
  rw [hc]
  dsimp only
  rw [hf]
theorem w_cast {a cj : Nat} (hd : decode (xMB i) pc = .ok (.checkcast idx, 3)) (hc : xcls (xMO i) idx = some cj) (h9 : cj < 9) : wp d i pc ls (.ref a :: st) h K ↔ y_cls h a cj ∧ wp d i (pc + 3) ls (.ref a :: st) h K := by
  rw [wp_iff hd rfl]
  simp only [exI]
  unfold i_cast y_cls
  dsimp only
  rw [hc]
  generalize h[a]? = z
  match z with
  | none => simp
  | some (.inl _) => simp
  | some (.inr (ck, fs)) => exact ⟨fun q => ⟨⟨q.1, (Option.some.inj q.2.2.1).symm⟩, q.2.2.2⟩, fun q => ⟨q.1.1, by rw [q.1.2]; exact h9, by rw [q.1.2], q.2⟩⟩
theorem w_castN (hd : decode (xMB i) pc = .ok (.checkcast idx, 3)) : wp d i pc ls (.null :: st) h K ↔ wp d i (pc + 3) ls (.null :: st) h K := w_any hd rfl rfl
theorem w_iret {x : Int32} (hd : decode (xMB i) pc = .ok (.ireturn, 1)) (hr : xMR i = some .int) : wp d i pc ls [.int x] h K ↔ K (some (.int x)) h := by rw [wp_iff hd rfl]; exact w_ct (Or.inl hr)
theorem w_zret {x : Int32} (hd : decode (xMB i) pc = .ok (.ireturn, 1)) (hr : xMR i = some .boolean) : wp d i pc ls [.int x] h K ↔ y_bool x ∧ K (some (.int x)) h := by
  rw [wp_iff hd rfl]
  show (_ ∨ _) ∧ _ ↔ _
  rw [hr]
  exact ⟨fun q => ⟨q.1.elim (fun z => by cases z) (fun z => z.2), q.2⟩, fun q => ⟨Or.inr ⟨rfl, q.1⟩, q.2⟩⟩
theorem w_lret {x : Int64} (hd : decode (xMB i) pc = .ok (.lreturn, 1)) (hr : xMR i = some .long) : wp d i pc ls [.long x] h K ↔ K (some (.long x)) h := by rw [wp_iff hd rfl]; exact w_ct hr
theorem w_aret {a : Nat} {t : FieldType} (hd : decode (xMB i) pc = .ok (.areturn, 1)) (hr : xMR i = some t) (ht : t.isReference = true) : wp d i pc ls [.ref a] h K ↔ K (some (.ref a)) h := by
  rw [wp_iff hd rfl]
  simp only [exI]
  unfold i_aret
  rw [hr]
  cases t <;> first | rfl | cases ht
theorem w_aretN {t : FieldType} (hd : decode (xMB i) pc = .ok (.areturn, 1)) (hr : xMR i = some t) (ht : t.isReference = true) : wp d i pc ls [.null] h K ↔ K (some .null) h := by
  rw [wp_iff hd rfl]
  simp only [exI]
  unfold i_aret
  rw [hr]
  cases t <;> first | rfl | cases ht
theorem w_vret (hd : decode (xMB i) pc = .ok (.return_, 1)) (hr : xMR i = none) : wp d i pc ls [] h K ↔ K none h := by
  rw [wp_iff hd rfl]
  exact ⟨fun q => q.2.2, fun q => ⟨rfl, hr, q⟩⟩
theorem w_newq3 {n : Int32} (hd : decode (xMB i) pc = .ok (.anewarray 28, 3)) (ho : xMO i = 7) : wp d i pc ls (.int n :: st) h K ↔ ¬ n < 0 ∧ n.toNatClampNeg ≤ 1000 ∧ wp d i (pc + 3) ls (.ref h.length :: st) (h ++ [.inl (3, n.toNatClampNeg, .inr (.inr (.inr (.inr (fun _ => none)))))]) K := by
  rw [wp_iff hd rfl]
  simp only [exI]
  unfold i_newq
  rw [ho]
  simp
theorem w_newq2 {n : Int32} (hd : decode (xMB i) pc = .ok (.anewarray 7, 3)) (ho : xMO i = 0) : wp d i pc ls (.int n :: st) h K ↔ ¬ n < 0 ∧ n.toNatClampNeg ≤ 1000 ∧ wp d i (pc + 3) ls (.ref h.length :: st) (h ++ [.inl (2, n.toNatClampNeg, .inr (.inr (.inr (.inr (fun _ => none)))))]) K := by
  rw [wp_iff hd rfl]
  simp only [exI]
  unfold i_newq
  rw [ho]
  simp
theorem w_gets (hd : decode (xMB i) pc = .ok (.getstatic 39, 3)) (ho : xMO i = 0) : wp d i pc ls st h K ↔ wp d i (pc + 3) ls (.ref 1 :: st) h K := by
  rw [wp_iff hd rfl]
  exact ⟨fun q => q.2.2, fun q => ⟨ho, rfl, q⟩⟩
theorem w_callW {j np cj b : Nat} {as rest : List Value} {n : Nat} {ent : xL} (hd : decode (xMB i) pc = .ok (.invokevirtual idx, 3)) (hc : xcal (xMO i) idx = some (0, j, np)) (hj : j < xLaw) (hst : st = as.reverse ++ .ref b :: rest) (hn : as.length = np) (h9 : x9 cj) (hcj : xownS cj = (xMY j).cls) (hL : xML j = n) (he : xent (.ref b :: as) n = ent) (hen : ent.length = n) : wp (d + 1) i pc ls st h K ↔ y_cls h b cj ∧ xcs rest ≤ 8 ∧ wp d j 0 ent [] h (fun v h1 => wp (d + 1) i (pc + 3) ls (v.toList ++ rest) h1 K) := by
  constructor
  · subst hst hn hL he
    rw [wp_iff hd rfl]
    intro hh
    simp only [exI] at hh
    rw [hc] at hh
    replace hh : i_cal _ _ _ _ _ 0 j as.length _ := hh
    unfold i_cal at hh
    have e1 : (as.reverse ++ Value.ref b :: rest).drop as.length = .ref b :: rest := by rw [← List.length_reverse (as := as), List.drop_left]
    have e2 : ((as.reverse ++ Value.ref b :: rest).take as.length).reverse = as := by rw [← List.length_reverse (as := as), List.take_left, List.reverse_reverse]
    dsimp only at hh
    rw [e1, e2] at hh
    dsimp only at hh
    obtain ⟨a1, -, a2, d', a3, a4, a5, a6⟩ := hh
    cases a3
    refine ⟨?_, a2, a6⟩
    unfold y_cls
    split at a1
    · rename_i q
      rw [q]
      exact ⟨a1.1, xinj9 _ a1.2.1 _ h9 (by rw [a1.2.2, hcj])⟩
    · exact a1.elim
  · exact w_callV hd hc hj hst hn h9 hcj hL he hen
end RUL2
/-! what simp knows of stacks, locals and words -/
theorem xk_n : xk none = none := rfl
theorem xk_i (x : Int32) : xk (some (.int x)) = some (.int x) := rfl
theorem xk_r (x : Nat) : xk (some (.ref x)) = some (.ref x) := rfl
theorem xk_z : xk (some .null) = some .null := rfl
theorem xk_l (x : Int64) : xk (some (.long x)) = none := rfl
theorem xcs_0 : xcs [] = 0 := rfl
theorem xcs_i (x : Int32) (r : List Value) : xcs (.int x :: r) = 1 + xcs r := by simp [xcs, Value.category]
theorem xcs_r (x : Nat) (r : List Value) : xcs (.ref x :: r) = 1 + xcs r := by simp [xcs, Value.category]
theorem xcs_z (r : List Value) : xcs (.null :: r) = 1 + xcs r := by simp [xcs, Value.category]
theorem xcs_l (x : Int64) (r : List Value) : xcs (.long x :: r) = 2 + xcs r := by simp [xcs, Value.category]
theorem y_get_at {h : xH} {a ci k : Nat} {fs : List Value} {v : Value} {K : Value → Prop} (ha : h[a]? = some (.inr (ci, fs))) (hv : fs[k]? = some v) : y_get h a ci k K ↔ K v := by
  unfold y_get
  rw [ha]
  dsimp only
  rw [hv]
  exact ⟨fun q => q.2, fun q => ⟨rfl, q⟩⟩
