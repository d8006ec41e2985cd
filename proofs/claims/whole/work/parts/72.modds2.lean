/-! ===== the model: odds ===== -/
/-- for how many of the first numbers P holds -/
def cntO (P : Nat → Bool) : Nat → Nat
  | 0 => 0
  | c + 1 => if P c then cntO P c + 1 else cntO P c
theorem cntO_s (P : Nat → Bool) (c : Nat) : cntO P (c + 1) = if P c then cntO P c + 1 else cntO P c := rfl
theorem cntO_le (P : Nat → Bool) : ∀ c, cntO P c ≤ c
  | 0 => Nat.le_refl _
  | c + 1 => by
    rw [cntO_s]
    have := cntO_le P c
    split <;> omega
theorem cntO_c (P Q : Nat → Bool) : ∀ {n}, (∀ c, c < n → P c = Q c) → cntO P n = cntO Q n
  | 0, _ => rfl
  | n + 1, h => by rw [cntO_s, cntO_s, h n (by omega), cntO_c P Q (fun c hc => h c (by omega))]
theorem cntO_f (P : Nat → Bool) : ∀ n, cntO P (n + 1) = (if P 0 then 1 else 0) + cntO (fun c => P (c + 1)) n
  | 0 => by rw [cntO_s]; show (if P 0 then 0 + 1 else 0) = _ + 0; split <;> rfl
  | n + 1 => by
    rw [cntO_s, cntO_f P n, cntO_s]
    by_cases q : P (n + 1) = true
    · rw [if_pos q, if_pos q]; omega
    · rw [if_neg q, if_neg q]
theorem cntO_rev (P : Nat → Bool) : ∀ n, cntO P n = cntO (fun c => P (n - 1 - c)) n
  | 0 => rfl
  | n + 1 => by
    rw [cntO_s, cntO_f]
    have ih := cntO_rev P n
    have e : cntO (fun c => P (n + 1 - 1 - (c + 1))) n = cntO (fun c => P (n - 1 - c)) n := cntO_c _ _ fun c hc => by rw [show n + 1 - 1 - (c + 1) = n - 1 - c by omega]
    show _ = (if P (n + 1 - 1 - 0) then 1 else 0) + cntO (fun c => P (n + 1 - 1 - (c + 1))) n
    rw [e, ← ih, show n + 1 - 1 - 0 = n by omega]
    split <;> omega
/-- frosts on the first n days by a code's bits -/
def frC (fr : Nat → Bool) (n code d : Nat) : Bool := if d < n then code.testBit d else fr d
theorem mild_cg {f g : Nat → Bool} : ∀ {k}, (∀ d, d < k → f d = g d) → mild f k = mild g k
  | 0, _ => rfl
  | k + 1, h => by
    show (if f k then mild f k else mild f k + 1) = if g k then mild g k else mild g k + 1
    rw [h k (by omega), mild_cg (fun d hd => h d (by omega))]
theorem mild_add (fr f : Nat → Bool) {n : Nat} (h : ∀ d, n ≤ d → f d = fr d) : ∀ j, mild f (n + j) = mild f n + (mild fr (n + j) - mild fr n)
  | 0 => by rw [Nat.add_zero, Nat.sub_self, Nat.add_zero]
  | j + 1 => by
    have ih := mild_add fr f h j
    have e := h (n + j) (by omega)
    have l := mild_le fr (show n ≤ n + j by omega)
    show mild f (n + j + 1) = mild f n + (mild fr (n + j + 1) - mild fr n)
    cases q : fr (n + j)
    · rw [mild_f q, mild_f (e.trans q), ih]; omega
    · rw [mild_t q, mild_t (e.trans q), ih]
theorem zero_pop : ((List.range 9).all fun n => (List.range (2 ^ n)).all fun c => (List.range (n + 1)).all fun a => mild (fun d => c.testBit d) a == pop 8 ((2 ^ n - 1 - c) % 2 ^ a)) = true := by decide +kernel
theorem frC_mild (fr : Nat → Bool) {n c day : Nat} (hn : n ≤ 8) (hc : c < 2 ^ n) : mild (frC fr n c) (day + 1) = pop 8 ((2 ^ n - 1 - c) % 2 ^ min n (day + 1)) + (mild fr (day + 1) - mild fr n) := by
  have key : ∀ a, a ≤ n → mild (frC fr n c) a = pop 8 ((2 ^ n - 1 - c) % 2 ^ a) := by
    intro a ha
    have k1 := List.all_eq_true.mp zero_pop n (List.mem_range.mpr (by omega))
    have k2 := List.all_eq_true.mp k1 c (List.mem_range.mpr hc)
    have k3 := List.all_eq_true.mp k2 a (List.mem_range.mpr (by omega))
    have k4 : mild (fun d => c.testBit d) a = pop 8 ((2 ^ n - 1 - c) % 2 ^ a) := by simpa using k3
    rw [← k4]
    exact mild_cg fun d hd => if_pos (by omega)
  by_cases q : day + 1 ≤ n
  · have l := mild_le fr q
    rw [Nat.min_eq_right q, key _ q, show mild fr (day + 1) - mild fr n = 0 by omega]
    exact (Nat.add_zero _).symm
  · rw [Nat.min_eq_left (by omega), ← key n (Nat.le_refl _)]
    have := mild_add fr (frC fr n c) (n := n) (fun d hd => if_neg (by omega)) (day + 1 - n)
    rw [show n + (day + 1 - n) = day + 1 by omega] at this
    exact this
theorem oddN_cnt (m a l : Nat) : ∀ c, oddN m a l c = cntO (fun c => decide (m < pop 8 (c % 2 ^ a) + l)) c
  | 0 => rfl
  | c + 1 => by
    rw [oddN_s, cntO_s, oddN_cnt m a l c]
    by_cases q : m < pop 8 (c % 2 ^ a) + l
    · rw [if_pos q, if_pos (decide_eq_true q)]
    · rw [if_neg q, if_neg (by simpa using q)]
def outB (E : Gd) (fr : Nat → Bool) (v day n code : Nat) : Bool := (vo (runM E (mild (frC fr n code) (day + 1)) v)).isSome
theorem cnt_rows {E : Gd} {fr : Nat → Bool} {v day n : Nat} (hd : day < 80) (hn : n ≤ 8) : cntO (outB E fr v day n) (2 ^ n) = rowsO E fr v day n := by
  rw [cntO_rev]
  have p0 : 0 < 2 ^ n := Nat.pow_pos (by omega)
  unfold rowsO
  cases q : vo (runM E 80 v) with
  | none =>
    dsimp only
    have : ∀ N, cntO (fun _ => false) N = 0 := by
      intro N
      induction N with
      | zero => rfl
      | succ N ih => rw [cntO_s, ih]; rfl
    rw [← this (2 ^ n)]
    refine cntO_c _ _ fun c hc => ?_
    unfold outB
    rw [runM_lt (by have := mild_k (frC fr n (2 ^ n - 1 - c)) (day + 1); omega), q]
    rfl
  | some m =>
    dsimp only
    rw [oddN_cnt]
    refine cntO_c _ _ fun c hc => ?_
    unfold outB
    rw [runM_lt (by have := mild_k (frC fr n (2 ^ n - 1 - c)) (day + 1); omega), q, frC_mild fr hn (by omega), show 2 ^ n - 1 - (2 ^ n - 1 - c) = c by omega]
    dsimp only
    by_cases z : m < pop 8 (c % 2 ^ min n (day + 1)) + (mild fr (day + 1) - mild fr n)
    · rw [if_pos z, decide_eq_true z]; rfl
    · rw [if_neg z, decide_eq_false z]; rfl
theorem red_gcd0 : ((List.range 9).all fun n => (List.range (2 ^ n + 1)).all fun u => redF n u (2 ^ n) == (u / Nat.gcd u (2 ^ n), 2 ^ n / Nat.gcd u (2 ^ n))) = true := by decide +kernel
theorem red_gcd {n u : Nat} (hn : n ≤ 8) (hu : u ≤ 2 ^ n) : redF n u (2 ^ n) = (u / Nat.gcd u (2 ^ n), 2 ^ n / Nat.gcd u (2 ^ n)) := by
  have k1 := List.all_eq_true.mp red_gcd0 n (List.mem_range.mpr (by omega))
  have k2 := List.all_eq_true.mp k1 u (List.mem_range.mpr (by omega))
  simpa using k2
theorem l_toI {a : Nat} (h : a < 9223372036854775808) : (Int64.ofNat a).toInt = a := Int64.toInt_ofNat_of_lt (by omega)
theorem l_div {a b : Nat} (ha : a < 2147483648) (hb : b < 2147483648) : Int64.ofNat a / Int64.ofNat b = Int64.ofNat (a / b) := by
  have h1 : a / b ≤ a := Nat.div_le_self a b
  rw [← Int64.toInt_inj, Int64.toInt_div, l_toI (by omega), l_toI (by omega), l_toI (by omega), ← Int.ofNat_tdiv]
  generalize a / b = z at h1 ⊢
  apply Int.bmod_eq_of_le <;> omega
theorem l_mod {a b : Nat} (ha : a < 2147483648) (hb : b < 2147483648) : Int64.ofNat a - Int64.ofNat a / Int64.ofNat b * Int64.ofNat b = Int64.ofNat (a % b) := by
  have h1 : a / b * b ≤ a := Nat.div_mul_le_self a b
  rw [l_div ha hb, ← Int64.ofNat_mul]
  have e : Int64.ofNat a = Int64.ofNat (a % b) + Int64.ofNat (a / b * b) := by
    rw [← Int64.ofNat_add]
    congr 1
    have := Nat.div_add_mod a b
    rw [Nat.mul_comm] at this
    omega
  rw [e, Int64.add_sub_cancel]
theorem lg_0 : ∀ y, y < 1000 → (lg_cmp (Int64.ofNat y) 0 = 0 ↔ y = 0) := by decide +kernel
theorem l_eq0 {y : Nat} (hy : y < 1000) : (Int64.ofNat y = 0) = (y = 0) := by
  have := l_ofi (a := y) (b := 0) (by omega) (by omega)
  exact propext this
section
variable {d : Nat} {h : xH} {K : Option Value → xH → Prop}
theorem wp_gcd {u D w : Nat} (hu : u < 1000) (hD : D < 1000) (hD0 : 0 < D) (hw : w < 2) (hK : K (some (.long (Int64.ofNat (if w = 0 then u / Nat.gcd u D else D / Nat.gcd u D)))) h) : ∀ (f x y : Nat) (l9 : Option Value), y ≤ f → x < 1000 → y < 1000 → Nat.gcd x y = Nat.gcd u D → (l9 = none ∨ ∃ z, l9 = some (.long z)) → wp d 134 6 [some (.long (Int64.ofNat u)), none, some (.long (Int64.ofNat D)), none, some (.int (Int32.ofNat w)), some (.long (Int64.ofNat x)), none, some (.long (Int64.ofNat y)), none, l9, none] [] h K := by
  intro f
  induction f with
  | zero =>
    intro x y l9 hy hx hy2 hg hl9
    have hy0 : y = 0 := by omega
    subst hy0
    rw [Nat.gcd_zero_right] at hg
    have g0 : 0 < Nat.gcd u D := Nat.gcd_pos_of_pos_right _ hD0
    have e1 : (lg_cmp (Int64.ofNat 0) 0 = 0) = True := eq_true ((lg_0 0 (by omega)).mpr rfl)
    have e2 : (Int64.ofNat x = 0) = False := by rw [l_eq0 hx]; exact eq_false (by omega)
    have t0 : (Int32.ofNat w = 0) = (w = 0) := propext (n_eql (m := 0) (by omega) (by omega))
    have d1 := l_div (a := u) (b := x) (by omega) (by omega)
    have d2 := l_div (a := D) (b := x) (by omega) (by omega)
    rw [w134_6]
    simp only [w134_0, w134_1, w134_3, w134_4, w134_8, w134_9, w134_10, w134_13, w134_15, w134_17, w134_18, w134_20, w134_22, w134_24, w134_26, w134_28, w134_31, w134_33, w134_36, w134_37, w134_39, w134_40, w134_43, w134_44, w134_46, w134_47, xk_n, xk_i, xk_r, xk_z, xk_l, xcs_0, xcs_i, xcs_r, xcs_z, xcs_l, Nat.reduceAdd, Nat.reduceLeDiff, Nat.reduceLT, true_and, and_true, Option.toList_some, Option.toList_none, List.nil_append, List.cons_append, List.getElem?_cons_zero, List.getElem?_cons_succ, List.set_cons_zero, List.set_cons_succ, List.length_cons, List.length_nil, y_bool0, y_bool1, not_true_eq_false, not_false_eq_true, false_implies, true_implies, true_or, or_true, false_or, or_false, if_true, if_false, ite_true, ite_false, e1, e2, t0, d1, d2]
    by_cases q : w = 0
    · rw [if_pos q, ← hg] at hK
      exact ⟨fun z => absurd q z, fun _ => hK⟩
    · rw [if_neg q, ← hg] at hK
      exact ⟨fun _ => hK, fun z => absurd z q⟩
  | succ f ih =>
    intro x y l9 hy hx hy2 hg hl9
    by_cases hy0 : y = 0
    · exact ih x y l9 (by omega) hx hy2 hg hl9
    · have e1 : (lg_cmp (Int64.ofNat y) 0 = 0) = False := eq_false (fun z => hy0 ((lg_0 y hy2).mp z))
      have e2 : (Int64.ofNat y = 0) = False := by rw [l_eq0 hy2]; exact eq_false hy0
      have m1 := l_mod (a := x) (b := y) (by omega) (by omega)
      have hlt := Nat.mod_lt x (show 0 < y by omega)
      rw [w134_6]
      simp only [w134_0, w134_1, w134_3, w134_4, w134_8, w134_9, w134_10, w134_13, w134_15, w134_17, w134_18, w134_20, w134_22, w134_24, w134_26, w134_28, w134_31, w134_33, w134_36, w134_37, w134_39, w134_40, w134_43, w134_44, w134_46, w134_47, xk_n, xk_i, xk_r, xk_z, xk_l, xcs_0, xcs_i, xcs_r, xcs_z, xcs_l, Nat.reduceAdd, Nat.reduceLeDiff, Nat.reduceLT, true_and, and_true, Option.toList_some, Option.toList_none, List.nil_append, List.cons_append, List.getElem?_cons_zero, List.getElem?_cons_succ, List.set_cons_zero, List.set_cons_succ, List.length_cons, List.length_nil, y_bool0, y_bool1, not_true_eq_false, not_false_eq_true, false_implies, true_implies, true_or, or_true, false_or, or_false, if_true, if_false, ite_true, ite_false, e1, e2, m1]
      refine ih y (x % y) _ (by omega) hy2 (by omega) ?_ (Or.inr ⟨_, rfl⟩)
      rw [← hg, Nat.gcd_comm y, ← Nat.gcd_rec, Nat.gcd_comm]
theorem wp_least {u D w : Nat} (hu : u < 1000) (hD : D < 1000) (hD0 : 0 < D) (hw : w < 2) (hK : K (some (.long (Int64.ofNat (if w = 0 then u / Nat.gcd u D else D / Nat.gcd u D)))) h) : wp d 134 0 [some (.long (Int64.ofNat u)), none, some (.long (Int64.ofNat D)), none, some (.int (Int32.ofNat w)), none, none, none, none, none, none] [] h K := by
  simp only [w134_0, w134_1, w134_3, w134_4, w134_8, w134_9, w134_10, w134_13, w134_15, w134_17, w134_18, w134_20, w134_22, w134_24, w134_26, w134_28, w134_31, w134_33, w134_36, w134_37, w134_39, w134_40, w134_43, w134_44, w134_46, w134_47, xk_n, xk_i, xk_r, xk_z, xk_l, xcs_0, xcs_i, xcs_r, xcs_z, xcs_l, Nat.reduceAdd, Nat.reduceLeDiff, Nat.reduceLT, true_and, and_true, Option.toList_some, Option.toList_none, List.nil_append, List.cons_append, List.getElem?_cons_zero, List.getElem?_cons_succ, List.set_cons_zero, List.set_cons_succ, List.length_cons, List.length_nil, y_bool0, y_bool1, not_true_eq_false, not_false_eq_true, false_implies, true_implies, true_or, or_true, false_or, or_false, if_true, if_false, ite_true, ite_false]
  exact wp_gcd hu hD hD0 hw hK D u D none (Nat.le_refl _) hu hD rfl (Or.inl rfl)
end
