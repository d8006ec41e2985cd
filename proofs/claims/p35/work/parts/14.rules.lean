/-! ===== a rule an instruction, for wp ===== -/
def y_get (h : xH) (a ci k : Nat) (K : Value → Prop) : Prop := match h[a]? with
  | some (.inr (cj, fs)) => cj = ci ∧ match fs[k]? with
    | some v => K v
    | none => False
  | _ => False
def y_put (h : xH) (a ci k : Nat) (v : Value) (K : xH → Prop) : Prop := match h[a]? with
  | some (.inr (cj, fs)) => cj = ci ∧ 2 ≤ a ∧ k < fs.length ∧ K (h.set a (.inr (ci, fs.set k v)))
  | _ => False
def y_iald (h : xH) (a : Nat) (i : Int32) (K : Int32 → Prop) : Prop := match h[a]? with
  | some (.inl (0, n, .inl f)) => vp_in i n ∧ K (f i.toNatClampNeg)
  | _ => False
def y_iast (h : xH) (a : Nat) (i x : Int32) (K : xH → Prop) : Prop := match h[a]? with
  | some (.inl (0, n, .inl f)) => 2 ≤ a ∧ vp_in i n ∧ K (h.set a (.inl (0, n, .inl (upd f i.toNatClampNeg x))))
  | _ => False
def y_zald (h : xH) (a : Nat) (i : Int32) (K : Int32 → Prop) : Prop := match h[a]? with
  | some (.inl (1, n, .inl f)) => 2 ≤ a ∧ vp_in i n ∧ K (f i.toNatClampNeg)
  | _ => False
def y_zast (h : xH) (a : Nat) (i x : Int32) (K : xH → Prop) : Prop := match h[a]? with
  | some (.inl (1, n, .inl f)) => 2 ≤ a ∧ vp_in i n ∧ K (h.set a (.inl (1, n, .inl (upd f i.toNatClampNeg (vp_nar .boolean x)))))
  | _ => False
def y_lald (h : xH) (a : Nat) (i : Int32) (K : Int64 → Prop) : Prop := match h[a]? with
  | some (.inl (4, n, .inr (.inl f))) => 2 ≤ a ∧ vp_in i n ∧ K (f i.toNatClampNeg)
  | _ => False
def y_last (h : xH) (a : Nat) (i : Int32) (x : Int64) (K : xH → Prop) : Prop := match h[a]? with
  | some (.inl (4, n, .inr (.inl f))) => 2 ≤ a ∧ vp_in i n ∧ K (h.set a (.inl (4, n, .inr (.inl (vp_updL f i.toNatClampNeg x)))))
  | _ => False
def y_aald (h : xH) (a : Nat) (i : Int32) (K : Value → Prop) : Prop := match h[a]? with
  | some (.inl (t, n, .inr (.inr (.inr (.inr f))))) => 2 ≤ a ∧ (t = 2 ∨ t = 3) ∧ vp_in i n ∧ K (va_rf (f i.toNatClampNeg))
  | _ => False
def y_aast (h : xH) (a : Nat) (i : Int32) (b : Nat) (K : xH → Prop) : Prop := match h[a]? with
  | some (.inl (t, n, .inr (.inr (.inr (.inr f))))) => 2 ≤ a ∧ vp_in i n ∧ 2 ≤ b ∧ (match h[b]? with
    | some (.inr (cj, _)) => cj < 9 ∧ (t = 2 ∨ (t = 3 ∧ cj = 5))
    | _ => False) ∧ K (h.set a (.inl (t, n, .inr (.inr (.inr (.inr (va_up f i.toNatClampNeg (some b))))))))
  | _ => False
def y_aastN (h : xH) (a : Nat) (i : Int32) (K : xH → Prop) : Prop := match h[a]? with
  | some (.inl (t, n, .inr (.inr (.inr (.inr f))))) => 2 ≤ a ∧ vp_in i n ∧ (t = 2 ∨ t = 3) ∧ K (h.set a (.inl (t, n, .inr (.inr (.inr (.inr (va_up f i.toNatClampNeg none)))))))
  | _ => False
def y_alen (h : xH) (a : Nat) (K : Int32 → Prop) : Prop := match h[a]? with
  | some (.inl (t, n, _)) => t < 5 ∧ K (Int32.ofNat n)
  | _ => False
def y_cls (h : xH) (b cj : Nat) : Prop := match h[b]? with
  | some (.inr (ck, _)) => 2 ≤ b ∧ ck = cj
  | _ => False
def y_copy (h : xH) (a0 : Nat) (sp : Int32) (a : Nat) (dp n : Int32) (K : xH → Prop) : Prop := 2 ≤ a ∧ 2 ≤ a0 ∧ ¬ sp < 0 ∧ ¬ dp < 0 ∧ ¬ n < 0 ∧ (match h[a0]?, h[a]? with
  | some (.inl (0, n0, .inl f)), some (.inl (0, n1, .inl g)) => sp.toNatClampNeg + n.toNatClampNeg ≤ n0 ∧ dp.toNatClampNeg + n.toNatClampNeg ≤ n1 ∧ K (h.set a (.inl (0, n1, .inl (va_cpy f g sp.toNatClampNeg dp.toNatClampNeg n.toNatClampNeg))))
  | some (.inl (2, n0, .inr (.inr (.inr (.inr f))))), some (.inl (2, n1, .inr (.inr (.inr (.inr g))))) => sp.toNatClampNeg + n.toNatClampNeg ≤ n0 ∧ dp.toNatClampNeg + n.toNatClampNeg ≤ n1 ∧ (∃ ce : Nat, ce < 9 ∧ ∀ i : Nat, i < n.toNatClampNeg → ∀ y : Nat, f (sp.toNatClampNeg + i) = some y → 2 ≤ y ∧ ∃ fs, h[y]? = some (.inr (ce, fs))) ∧ K (h.set a (.inl (2, n1, .inr (.inr (.inr (.inr (va_cpy f g sp.toNatClampNeg dp.toNatClampNeg n.toNatClampNeg)))))))
  | _, _ => False)
/-- the words on the stack below a call -/
def xcs (st : List Value) : Nat := (st.map fun v => v.category).sum
/-- a slot below one that is written -/
def xk (a : Option Value) : Option Value := match a with
  | some v => if v.category = 2 then none else some v
  | none => none
theorem xst1_0 (a : Option Value) (r : xL) (v : Value) : xst1 (a :: r) 0 v = some v :: r := by
  unfold xst1 xclr
  cases a <;> rfl
theorem xst1_1 (a b : Option Value) (r : xL) (v : Value) : xst1 (a :: b :: r) 1 v = xk a :: some v :: r := by
  cases a with
  | none => rfl
  | some w => by_cases q : w.category = 2 <;> simp [xst1, xclr, xk, q]
theorem xst1_s (a : Option Value) (r : xL) (k : Nat) (v : Value) : xst1 (a :: r) (k + 2) v = a :: xst1 r (k + 1) v := by
  unfold xst1 xclr
  have e : (a :: r)[k + 2 - 1]? = r[k + 1 - 1]? := by
    show (a :: r)[k + 1]? = r[k]?
    rw [List.getElem?_cons_succ]
  rw [e]
  split
  · rename_i w _
    by_cases q : w.category = 2
    · rw [if_pos ⟨by omega, q⟩, if_pos ⟨by omega, q⟩]; rfl
    · rw [if_neg (fun z => q z.2), if_neg (fun z => q z.2)]; rfl
  · rfl
theorem xst2_0 (a b : Option Value) (r : xL) (v : Value) : xst2 (a :: b :: r) 0 v = some v :: none :: r := by
  unfold xst2 xclr
  cases a <;> rfl
theorem xst2_1 (a b c : Option Value) (r : xL) (v : Value) : xst2 (a :: b :: c :: r) 1 v = xk a :: some v :: none :: r := by
  cases a with
  | none => rfl
  | some w => by_cases q : w.category = 2 <;> simp [xst2, xclr, xk, q]
theorem xst2_s (a : Option Value) (r : xL) (k : Nat) (v : Value) : xst2 (a :: r) (k + 2) v = a :: xst2 r (k + 1) v := by
  unfold xst2 xclr
  have e : (a :: r)[k + 2 - 1]? = r[k + 1 - 1]? := by
    show (a :: r)[k + 1]? = r[k]?
    rw [List.getElem?_cons_succ]
  rw [e]
  split
  · rename_i w _
    by_cases q : w.category = 2
    · rw [if_pos ⟨by omega, q⟩, if_pos ⟨by omega, q⟩]; rfl
    · rw [if_neg (fun z => q z.2), if_neg (fun z => q z.2)]; rfl
  · rfl
section RUL
variable {d i pc idx : Nat} {ls : xL} {st : List Value} {h : xH} {K : Option Value → xH → Prop}
/-- any instruction: its row, unfolded -/
theorem w_any {ins : Instr} {len : Nat} {P : Prop} (hd : decode (xMB i) pc = .ok (ins, len)) (hl : xlen ins len = true) (hP : exI (fun pc ls st h => wp d i pc ls st h K) (wpC d) K (xMO i) (xMR i) (decide ((xMY i).name = "<init>")) pc ls h st ins = P) : wp d i pc ls st h K ↔ P := by
  rw [← hP]
  exact wp_iff hd hl
theorem w_br {P Q : Prop} {c : Prop} {z : Int} (hz : 0 ≤ z) : (0 ≤ z ∧ (c → P) ∧ (¬ c → Q)) ↔ (c → P) ∧ (¬ c → Q) := ⟨fun q => q.2, fun q => ⟨hz, q⟩⟩
theorem w_gt {P : Prop} {z : Int} (hz : 0 ≤ z) : (0 ≤ z ∧ P) ↔ P := ⟨fun q => q.2, fun q => ⟨hz, q⟩⟩
theorem w_lt {P : Prop} {a b : Nat} (hz : a < b) : (a < b ∧ P) ↔ P := ⟨fun q => q.2, fun q => ⟨hz, q⟩⟩
theorem w_ct {P : Prop} {c : Prop} (hz : c) : (c ∧ P) ↔ P := ⟨fun q => q.2, fun q => ⟨hz, q⟩⟩
theorem w_get {a ci k : Nat} (hd : decode (xMB i) pc = .ok (.getfield idx, 3)) (hf : xfld (xMO i) idx = some (ci, k)) : wp d i pc ls (.ref a :: st) h K ↔ y_get h a ci k (fun v => wp d i (pc + 3) ls (v :: st) h K) := by
  rw [wp_iff hd rfl]
  simp only [exI]
  unfold i_get y_get
  dsimp only
  rw [hf]
  exact Iff.rfl
theorem w_put {a ci k : Nat} {v : Value} (hd : decode (xMB i) pc = .ok (.putfield idx, 3)) (hf : xfld (xMO i) idx = some (ci, k)) (hT : match xT[ci]? with
        | some ts => match ts[k]? with
          | some ty => xfit ty v
          | none => False
        | none => False) (hF : match xFin[ci]? with
        | some fi => fi[k]? = some false ∨ (fi[k]? = some true ∧ (decide ((xMY i).name = "<init>")) = true ∧ xMO i = ci)
        | none => False) : wp d i pc ls (v :: .ref a :: st) h K ↔ y_put h a ci k v (fun h1 => wp d i (pc + 3) ls st h1 K) := by
  rw [wp_iff hd rfl]
  simp only [exI]
  unfold i_put y_put
  dsimp only
  rw [hf]
  dsimp only
  generalize h[a]? = z
  match z with
  | none => exact Iff.rfl
  | some (.inl _) => exact Iff.rfl
  | some (.inr (cj, fs)) => exact ⟨fun q => ⟨q.1, q.2.1, q.2.2.1, q.2.2.2.2.2⟩, fun q => ⟨q.1, q.2.1, q.2.2.1, hT, hF, q.2.2.2⟩⟩
theorem w_callS {j np : Nat} {as rest : List Value} {n : Nat} {ent : xL} (hd : decode (xMB i) pc = .ok (.invokestatic idx, 3)) (hc : xcal (xMO i) idx = some (2, j, np)) (hj : j < xLaw) (hst : st = as.reverse ++ rest) (hn : as.length = np) (hL : xML j = n) (he : xent as n = ent) (hen : ent.length = n) : wp (d + 1) i pc ls st h K ↔ xcs rest ≤ 8 ∧ wp d j 0 ent [] h (fun v h1 => wp (d + 1) i (pc + 3) ls (v.toList ++ rest) h1 K) := by
  subst hst hn hL he
  rw [wp_iff hd rfl]
  show (match xcal (xMO i) idx with
    | some (2, j, np) => i_cal _ _ _ _ _ 2 j np _
    | some (5, j, np) => i_cal _ _ _ _ _ 5 j np _
    | some (6, j, np) => i_cal _ _ _ _ _ 6 j np _
    | some (7, j, np) => i_cal _ _ _ _ _ 7 j np _
    | _ => False) ↔ _
  rw [hc]
  show i_cal _ _ _ _ _ 2 j as.length _ ↔ _
  unfold i_cal
  have e1 : (as.reverse ++ rest).drop as.length = rest := by rw [← List.length_reverse (as := as), List.drop_left]
  have e2 : ((as.reverse ++ rest).take as.length).reverse = as := by rw [← List.length_reverse (as := as), List.take_left, List.reverse_reverse]
  dsimp only
  rw [e1, e2]
  constructor
  · rintro ⟨-, a2, d', a3, a4, a5, a6⟩
    cases a3
    exact ⟨a2, a6⟩
  · rintro ⟨a2, a6⟩
    exact ⟨by simp, a2, d, rfl, hj, hen, a6⟩
theorem w_callV {j np cj b : Nat} {as rest : List Value} {n : Nat} {ent : xL} (hd : decode (xMB i) pc = .ok (.invokevirtual idx, 3)) (hc : xcal (xMO i) idx = some (0, j, np)) (hj : j < xLaw) (hst : st = as.reverse ++ .ref b :: rest) (hn : as.length = np) (h9 : x9 cj) (hcj : xownS cj = (xMY j).cls) (hL : xML j = n) (he : xent (.ref b :: as) n = ent) (hen : ent.length = n) : (y_cls h b cj ∧ xcs rest ≤ 8 ∧ wp d j 0 ent [] h (fun v h1 => wp (d + 1) i (pc + 3) ls (v.toList ++ rest) h1 K)) → wp (d + 1) i pc ls st h K := by
  subst hst hn hL he
  rintro ⟨hy, h8, hw⟩
  rw [wp_iff hd rfl]
  show (match xcal (xMO i) idx with
    | some (0, j, np) => i_cal _ _ _ _ _ 0 j np _
    | _ => False)
  rw [hc]
  show i_cal _ _ _ _ _ 0 j as.length _
  unfold i_cal
  have e1 : (as.reverse ++ Value.ref b :: rest).drop as.length = .ref b :: rest := by rw [← List.length_reverse (as := as), List.drop_left]
  have e2 : ((as.reverse ++ Value.ref b :: rest).take as.length).reverse = as := by rw [← List.length_reverse (as := as), List.take_left, List.reverse_reverse]
  dsimp only
  rw [e1, e2]
  dsimp only
  refine ⟨?_, by simp, h8, d, rfl, hj, hen, hw⟩
  unfold y_cls at hy
  split at hy
  · rename_i q
    rw [q]
    exact ⟨hy.1, by rw [hy.2]; exact h9, by rw [hy.2]; exact hcj⟩
  · exact hy.elim
theorem w_callI {kd j np b : Nat} {as rest : List Value} {n : Nat} {ent : xL} (hk : kd = 1 ∨ kd = 3) (hd : decode (xMB i) pc = .ok (.invokespecial idx, 3)) (hc : xcal (xMO i) idx = some (kd, j, np)) (hj : j < xLaw) (hst : st = as.reverse ++ .ref b :: rest) (hn : as.length = np) (hL : xML j = n) (he : xent (.ref b :: as) n = ent) (hen : ent.length = n) : wp (d + 1) i pc ls st h K ↔ xcs rest ≤ 8 ∧ wp d j 0 ent [] h (fun v h1 => wp (d + 1) i (pc + 3) ls (v.toList ++ rest) h1 K) := by
  subst hst hn hL he
  rw [wp_iff hd rfl]
  show (match xcal (xMO i) idx with
    | some (1, j, np) => i_cal _ _ _ _ _ 1 j np _
    | some (3, j, np) => i_cal _ _ _ _ _ 3 j np _
    | some (4, j, np) => i_cal _ _ _ _ _ 4 j np _
    | _ => False) ↔ _
  have e1 : (as.reverse ++ Value.ref b :: rest).drop as.length = .ref b :: rest := by rw [← List.length_reverse (as := as), List.drop_left]
  have e2 : ((as.reverse ++ Value.ref b :: rest).take as.length).reverse = as := by rw [← List.length_reverse (as := as), List.take_left, List.reverse_reverse]
  rcases hk with rfl | rfl
  · rw [hc]
    show i_cal _ _ _ _ _ 1 j as.length _ ↔ _
    unfold i_cal
    dsimp only
    rw [e1, e2]
    dsimp only
    constructor
    · rintro ⟨-, a2, d', a3, a4, a5, a6⟩
      cases a3
      exact ⟨a2, a6⟩
    · rintro ⟨a2, a6⟩
      exact ⟨by simp, a2, d, rfl, hj, hen, a6⟩
  · rw [hc]
    show i_cal _ _ _ _ _ 3 j as.length _ ↔ _
    unfold i_cal
    dsimp only
    rw [e1, e2]
    dsimp only
    constructor
    · rintro ⟨-, a2, d', a3, a4, a5, a6⟩
      cases a3
      exact ⟨a2, a6⟩
    · rintro ⟨a2, a6⟩
      exact ⟨by simp, a2, d, rfl, hj, hen, a6⟩
theorem w_objI {j np a : Nat} (hd : decode (xMB i) pc = .ok (.invokespecial idx, 3)) (hc : xcal (xMO i) idx = some (4, j, np)) : wp d i pc ls (.ref a :: st) h K ↔ xcs st ≤ 8 ∧ wp d i (pc + 3) ls st h K := by
  rw [wp_iff hd rfl]
  show (match xcal (xMO i) idx with
    | some (1, j, np) => i_cal _ _ _ _ _ 1 j np _
    | some (3, j, np) => i_cal _ _ _ _ _ 3 j np _
    | some (4, j, np) => i_cal _ _ _ _ _ 4 j np _
    | _ => False) ↔ _
  rw [hc]
  exact Iff.rfl
theorem w_max {j np : Nat} {x y : Int32} (hd : decode (xMB i) pc = .ok (.invokestatic idx, 3)) (hc : xcal (xMO i) idx = some (6, j, np)) : wp d i pc ls (.int y :: .int x :: st) h K ↔ xcs st ≤ 8 ∧ wp d i (pc + 3) ls (.int (if x < y then y else x) :: st) h K := by
  rw [wp_iff hd rfl]
  show (match xcal (xMO i) idx with
    | some (2, j, np) => i_cal _ _ _ _ _ 2 j np _
    | some (5, j, np) => i_cal _ _ _ _ _ 5 j np _
    | some (6, j, np) => i_cal _ _ _ _ _ 6 j np _
    | some (7, j, np) => i_cal _ _ _ _ _ 7 j np _
    | _ => False) ↔ _
  rw [hc]
  exact Iff.rfl
theorem w_min {j np : Nat} {x y : Int32} (hd : decode (xMB i) pc = .ok (.invokestatic idx, 3)) (hc : xcal (xMO i) idx = some (7, j, np)) : wp d i pc ls (.int y :: .int x :: st) h K ↔ xcs st ≤ 8 ∧ wp d i (pc + 3) ls (.int (if y < x then y else x) :: st) h K := by
  rw [wp_iff hd rfl]
  show (match xcal (xMO i) idx with
    | some (2, j, np) => i_cal _ _ _ _ _ 2 j np _
    | some (5, j, np) => i_cal _ _ _ _ _ 5 j np _
    | some (6, j, np) => i_cal _ _ _ _ _ 6 j np _
    | some (7, j, np) => i_cal _ _ _ _ _ 7 j np _
    | _ => False) ↔ _
  rw [hc]
  exact Iff.rfl
theorem w_cpy {j np a a0 : Nat} {sp dp n : Int32} (hd : decode (xMB i) pc = .ok (.invokestatic idx, 3)) (hc : xcal (xMO i) idx = some (5, j, np)) : (xcs st ≤ 8 ∧ y_copy h a0 sp a dp n (fun h1 => wp d i (pc + 3) ls st h1 K)) → wp d i pc ls (.int n :: .int dp :: .ref a :: .int sp :: .ref a0 :: st) h K := by
  rintro ⟨h8, b1, b2, b3, b4, b5, hy⟩
  rw [wp_iff hd rfl]
  show (match xcal (xMO i) idx with
    | some (2, j, np) => i_cal _ _ _ _ _ 2 j np _
    | some (5, j, np) => i_cal _ _ _ _ _ 5 j np _
    | some (6, j, np) => i_cal _ _ _ _ _ 6 j np _
    | some (7, j, np) => i_cal _ _ _ _ _ 7 j np _
    | _ => False)
  rw [hc]
  exact ⟨b1, b2, h8, b3, b4, b5, hy⟩
end RUL
