/-! ===== the program's calls: odds ===== -/
def pop : Nat → Nat → Nat
  | 0, _ => 0
  | j + 1, x => x % 2 + pop j (x / 2)
/-- rows of frosts by which more moves than m are made: a days count, l moves come later -/
def oddN (m a l : Nat) : Nat → Nat
  | 0 => 0
  | c + 1 => if m < pop 8 (c % 2 ^ a) + l then oddN m a l c + 1 else oddN m a l c
theorem oddN_s (m a l c : Nat) : oddN m a l (c + 1) = if m < pop 8 (c % 2 ^ a) + l then oddN m a l c + 1 else oddN m a l c := rfl
theorem oddN_le (m a l : Nat) : ∀ c, oddN m a l c ≤ c
  | 0 => Nat.le_refl _
  | c + 1 => by
    rw [oddN_s]
    have := oddN_le m a l c
    split <;> omega
def redF : Nat → Nat → Nat → Nat × Nat
  | 0, u, l => (u, l)
  | j + 1, u, l => if u % 2 = 0 then redF j (u / 2) (l / 2) else (u, l)
def rowsO (E : Gd) (fr : Nat → Bool) (v day n : Nat) : Nat := match vo (runM E 80 v) with
  | none => 0
  | some m => oddN m (min n (day + 1)) (mild fr (day + 1) - mild fr n) (2 ^ n)
theorem rowsO_le (E : Gd) (fr : Nat → Bool) (v day n : Nat) : rowsO E fr v day n ≤ 2 ^ n := by
  unfold rowsO
  split
  · exact Nat.zero_le _
  · exact oddN_le _ _ _ _
def opOdds (s : St) (v day n w : Int32) : Int64 := match nb v (gv (sE s)) with
  | none => -9223372036854775808
  | some v => match nb day 80 with
    | none => -9223372036854775808
    | some day => match nb n 9 with
      | none => -9223372036854775808
      | some n => match nb w 2 with
        | none => -9223372036854775808
        | some w => if w = 0 then Int64.ofNat (redF n (rowsO (sE s) (sFr s) v day n) (2 ^ n)).1 else Int64.ofNat (redF n (rowsO (sE s) (sFr s) v day n) (2 ^ n)).2
theorem pop_le : ∀ x, x < 256 → pop 8 x ≤ 8 := by decide +kernel
def bcA (x : Int32) (k : Int32) : Int32 := (x.toUInt32 >>> (k.toUInt32 &&& Int32.toUInt32 31)).toInt32
def bcB (x : Int32) : Int32 := x - (bcA x 1 &&& 1431655765)
def bcC (x : Int32) : Int32 := (x &&& 858993459) + (bcA x 2 &&& 858993459)
def bcD (x : Int32) : Int32 := x + bcA x 4 &&& 252645135
def bcE (x k : Int32) : Int32 := x + bcA x k
def bcF (x : Int32) : Int32 := bcE (bcE (bcD (bcC (bcB x))) 8) 16 &&& 63
theorem bcF_pop : ∀ x, x < 256 → bcF (Int32.ofNat x) = Int32.ofNat (pop 8 x) := by decide +kernel
section
variable {d : Nat} {h : xH} {K : Option Value → xH → Prop}
theorem wp_bc {x : Nat} (hx : x < 256) : wp d 152 0 [some (.int (Int32.ofNat x))] [] h K ↔ K (some (.int (Int32.ofNat (pop 8 x)))) h := by
  rw [← bcF_pop x hx]
  simp only [w152_0, w152_1, w152_2, w152_3, w152_4, w152_7, w152_8, w152_9, w152_10, w152_11, w152_14, w152_15, w152_16, w152_17, w152_18, w152_21, w152_22, w152_23, w152_24, w152_25, w152_26, w152_27, w152_28, w152_29, w152_32, w152_33, w152_34, w152_35, w152_36, w152_38, w152_39, w152_40, w152_41, w152_42, w152_43, w152_45, w152_46, w152_47, w152_48, w152_49, w152_51, w152_52, xk_n, xk_i, xk_r, xk_z, xk_l, xcs_0, xcs_i, xcs_r, xcs_z, xcs_l, Nat.reduceAdd, Nat.reduceLeDiff, Nat.reduceLT, true_and, and_true, Option.toList_some, Option.toList_none, List.nil_append, List.cons_append, List.getElem?_cons_zero, List.getElem?_cons_succ, List.set_cons_zero, List.set_cons_succ, List.length_cons, List.length_nil, y_bool0, y_bool1, not_true_eq_false, not_false_eq_true, false_implies, true_implies, true_or, or_true, false_or, or_false, if_true, if_false, ite_true, ite_false, bcF, bcE, bcD, bcC, bcB, bcA]
theorem i_mask {c a : Nat} (hc : c < 4294967296) (ha : a < 32) : Int32.ofNat c &&& (Int32.ofNat (2 ^ a) - 1) = Int32.ofNat (c % 2 ^ a) := by
  have h0 : 0 < 2 ^ a := Nat.pow_pos (by omega)
  have h1 : 2 ^ a < 4294967296 := Nat.pow_lt_pow_right (n := 32) (by omega) ha
  have e : Int32.ofNat (2 ^ a) - 1 = Int32.ofNat (2 ^ a - 1) := n_subl (m := 1) (by omega)
  rw [e]
  apply i32_of
  rw [Int32.toBitVec_and, BitVec.toNat_and, i32_to hc, i32_to (by omega)]
  exact Nat.and_two_pow_sub_one_eq_mod c a
theorem wp_rw {m a l n : Nat} {l0 l1 l2 : Option Value} (hm : m < 80) (ha : a ≤ 8) (hl : l < 100) (hn : n ≤ 8) (hK : K (some (.int (Int32.ofNat (oddN m a l (2 ^ n))))) h) : ∀ (j c : Nat), c + j = 2 ^ n → wp (d + 1) 83 51 [l0, l1, l2, some (.int (Int32.ofNat n)), some (.int (Int32.ofNat m)), some (.int (Int32.ofNat (2 ^ a) - 1)), some (.int (Int32.ofNat l)), some (.int (Int32.ofNat (oddN m a l c))), some (.int (Int32.ofNat c))] [] h K
  | 0, c, hj => by
    have p8 : 2 ^ n ≤ 256 := Nat.pow_le_pow_right (j := 8) (by omega) hn
    have hc : c = 2 ^ n := by omega
    have z1 : (1 : Int32) <<< (Int32.ofNat n &&& 31) = Int32.ofNat (2 ^ n) := by
      have := i_shl (L := 1) (c := n) (by omega) (by omega)
      rw [Nat.one_mul] at this
      exact this
    have q : Int32.ofNat (2 ^ n) ≤ Int32.ofNat c := (n_le (by omega) (by omega)).mpr (by omega)
    rw [w83_51]
    simp only [w83_0, w83_0n, w83_1, w83_4, w83_4n, w83_5, w83_8, w83_10, w83_12, w83_13, w83_16, w83_17, w83_18, w83_19, w83_20, w83_21, w83_22, w83_23, w83_26, w83_27, w83_28, w83_29, w83_31, w83_31n, w83_32, w83_35, w83_38, w83_39, w83_40, w83_43, w83_45, w83_46, w83_48, w83_49, w83_53, w83_54, w83_55, w83_56, w83_59, w83_61, w83_63, w83_64, w83_67, w83_69, w83_70, w83_72, w83_75, w83_78, w83_81, w83_84, w83_86, xk_n, xk_i, xk_r, xk_z, xk_l, xcs_0, xcs_i, xcs_r, xcs_z, xcs_l, Nat.reduceAdd, Nat.reduceLeDiff, Nat.reduceLT, true_and, and_true, Option.toList_some, Option.toList_none, List.nil_append, List.cons_append, List.getElem?_cons_zero, List.getElem?_cons_succ, List.set_cons_zero, List.set_cons_succ, List.length_cons, List.length_nil, y_bool0, y_bool1, not_true_eq_false, not_false_eq_true, false_implies, true_implies, true_or, or_true, false_or, or_false, if_true, if_false, ite_true, ite_false, z1, q]
    rw [hc]
    exact hK
  | j + 1, c, hj => by
    have p8 : 2 ^ n ≤ 256 := Nat.pow_le_pow_right (j := 8) (by omega) hn
    have pa : 2 ^ a ≤ 256 := Nat.pow_le_pow_right (j := 8) (by omega) ha
    have pa0 : 0 < 2 ^ a := Nat.pow_pos (by omega)
    have hcm : c % 2 ^ a < 256 := Nat.lt_of_lt_of_le (Nat.mod_lt _ pa0) pa
    have z1 : (1 : Int32) <<< (Int32.ofNat n &&& 31) = Int32.ofNat (2 ^ n) := by
      have := i_shl (L := 1) (c := n) (by omega) (by omega)
      rw [Nat.one_mul] at this
      exact this
    have q : (Int32.ofNat (2 ^ n) ≤ Int32.ofNat c) = False := eq_false (by rw [n_le (by omega) (by omega)]; omega)
    have z2 := i_mask (c := c) (a := a) (by omega) (by omega)
    have hp := pop_le _ hcm
    have z3 : Int32.ofNat (pop 8 (c % 2 ^ a)) + Int32.ofNat l = Int32.ofNat (pop 8 (c % 2 ^ a) + l) := n_add _ _
    have z4 : (Int32.ofNat (pop 8 (c % 2 ^ a) + l) ≤ Int32.ofNat m) = (pop 8 (c % 2 ^ a) + l ≤ m) := propext (n_le (by omega) (by omega))
    have z8 : Int32.ofNat c + 1 = Int32.ofNat (c + 1) := n_addl c 1
    have z9 : Int32.ofNat (oddN m a l c) + 1 = Int32.ofNat (oddN m a l c + 1) := n_addl _ 1
    have ls := oddN_s m a l c
    have ih := wp_rw (l0 := l0) (l1 := l1) (l2 := l2) hm ha hl hn hK j (c + 1) (by omega)
    rw [w83_51]
    simp only [w83_0, w83_0n, w83_1, w83_4, w83_4n, w83_5, w83_8, w83_10, w83_12, w83_13, w83_16, w83_17, w83_18, w83_19, w83_20, w83_21, w83_22, w83_23, w83_26, w83_27, w83_28, w83_29, w83_31, w83_31n, w83_32, w83_35, w83_38, w83_39, w83_40, w83_43, w83_45, w83_46, w83_48, w83_49, w83_53, w83_54, w83_55, w83_56, w83_59, w83_61, w83_63, w83_64, w83_67, w83_69, w83_70, w83_72, w83_75, w83_78, w83_81, w83_84, w83_86, xk_n, xk_i, xk_r, xk_z, xk_l, xcs_0, xcs_i, xcs_r, xcs_z, xcs_l, Nat.reduceAdd, Nat.reduceLeDiff, Nat.reduceLT, true_and, and_true, Option.toList_some, Option.toList_none, List.nil_append, List.cons_append, List.getElem?_cons_zero, List.getElem?_cons_succ, List.set_cons_zero, List.set_cons_succ, List.length_cons, List.length_nil, y_bool0, y_bool1, not_true_eq_false, not_false_eq_true, false_implies, true_implies, true_or, or_true, false_or, or_false, if_true, if_false, ite_true, ite_false, z1, q, z2, wp_bc hcm, z3, z4, z8, z9]
    by_cases c1 : pop 8 (c % 2 ^ a) + l ≤ m
    · refine ⟨fun _ => ?_, fun z => absurd c1 z⟩
      rw [if_neg (by omega)] at ls
      rw [ls] at ih
      exact ih
    · refine ⟨fun z => absurd z c1, fun _ => ?_⟩
      rw [if_pos (by omega)] at ls
      rw [ls] at ih
      exact ih
theorem wp_rows {s : St} {e em er v day n : Nat} {vs rs : Nat → Nat} (H : RC h s e em er vs rs) (hE : okE (sE s)) (hv : v < gv (sE s)) (hd : day < 80) (hn : n ≤ 8) (hK : ∀ h', BX h' 3 e (sE s) (sFr s) vs → FR (GP 3 (gv (sE s)) vs) 0 0 h h' → K (some (.int (Int32.ofNat (rowsO (sE s) (sFr s) v day n)))) h') : wp (d + 5) 83 0 [some (.ref 2), some (.ref (vs v)), some (.int (Int32.ofNat day)), some (.int (Int32.ofNat n)), none, none, none, none, none] [] h K := by
  obtain ⟨X, L, B⟩ := H.2.1
  have hvs : ∀ u, u < gv (sE s) → vs u ≠ 2 := fun u hu => by have := H.2.2.2.2.2.2.2.1 u hu; omega
  simp only [w83_0, w83_0n, w83_1, w83_4, w83_4n, w83_5, w83_8, w83_10, w83_12, w83_13, w83_16, w83_17, w83_18, w83_19, w83_20, w83_21, w83_22, w83_23, w83_26, w83_27, w83_28, w83_29, w83_31, w83_31n, w83_32, w83_35, w83_38, w83_39, w83_40, w83_43, w83_45, w83_46, w83_48, w83_49, w83_53, w83_54, w83_55, w83_56, w83_59, w83_61, w83_63, w83_64, w83_67, w83_69, w83_70, w83_72, w83_75, w83_78, w83_81, w83_84, w83_86, xk_n, xk_i, xk_r, xk_z, xk_l, xcs_0, xcs_i, xcs_r, xcs_z, xcs_l, Nat.reduceAdd, Nat.reduceLeDiff, Nat.reduceLT, true_and, and_true, Option.toList_some, Option.toList_none, List.nil_append, List.cons_append, List.getElem?_cons_zero, List.getElem?_cons_succ, List.set_cons_zero, List.set_cons_succ, List.length_cons, List.length_nil, y_bool0, y_bool1, not_true_eq_false, not_false_eq_true, false_implies, true_implies, true_or, or_true, false_or, or_false, if_true, if_false, ite_true, ite_false, y_get, H.1, B.cls]
  refine wp_outMove hE ⟨X, L, B⟩ hv fun h1 ⟨X1, L1, B1⟩ F1 => ?_
  have h12 := F1.at H.1 (by rintro (z | ⟨u, u1, u2⟩); omega; exact hvs u u1 u2.symm)
  have fin := hK h1 ⟨X1, L1, B1⟩ F1
  cases q1 : vo (runM (sE s) 80 v) with
  | none =>
    have e1 : rowsO (sE s) (sFr s) v day n = 0 := by unfold rowsO; rw [q1]
    have q2 : oM none = -1 := rfl
    rw [e1] at fin
    simp only [w83_0, w83_0n, w83_1, w83_4, w83_4n, w83_5, w83_8, w83_10, w83_12, w83_13, w83_16, w83_17, w83_18, w83_19, w83_20, w83_21, w83_22, w83_23, w83_26, w83_27, w83_28, w83_29, w83_31, w83_31n, w83_32, w83_35, w83_38, w83_39, w83_40, w83_43, w83_45, w83_46, w83_48, w83_49, w83_53, w83_54, w83_55, w83_56, w83_59, w83_61, w83_63, w83_64, w83_67, w83_69, w83_70, w83_72, w83_75, w83_78, w83_81, w83_84, w83_86, xk_n, xk_i, xk_r, xk_z, xk_l, xcs_0, xcs_i, xcs_r, xcs_z, xcs_l, Nat.reduceAdd, Nat.reduceLeDiff, Nat.reduceLT, true_and, and_true, Option.toList_some, Option.toList_none, List.nil_append, List.cons_append, List.getElem?_cons_zero, List.getElem?_cons_succ, List.set_cons_zero, List.set_cons_succ, List.length_cons, List.length_nil, y_bool0, y_bool1, not_true_eq_false, not_false_eq_true, false_implies, true_implies, true_or, or_true, false_or, or_false, if_true, if_false, ite_true, ite_false, q2]
    exact fin
  | some m =>
    have hm := runM_vo q1
    have e1 : rowsO (sE s) (sFr s) v day n = oddN m (min n (day + 1)) (mild (sFr s) (day + 1) - mild (sFr s) n) (2 ^ n) := by unfold rowsO; rw [q1]
    rw [e1] at fin
    have q2 : (oM (some m) = -1) = False := eq_false (n_ne1 (a := m) (by omega))
    have z1 : Int32.ofNat day + 1 = Int32.ofNat (day + 1) := n_addl day 1
    have z2 : (if Int32.ofNat (day + 1) < Int32.ofNat n then Int32.ofNat (day + 1) else Int32.ofNat n) = Int32.ofNat (min n (day + 1)) := by
      have nl := n_lt (a := day + 1) (b := n) (by omega) (by omega)
      by_cases c : day + 1 < n
      · rw [if_pos (nl.mpr c), Nat.min_eq_right (by omega)]
      · rw [if_neg (fun z => c (nl.mp z)), Nat.min_eq_left (by omega)]
    have hmin : min n (day + 1) ≤ 8 := by omega
    have pm : 2 ^ min n (day + 1) ≤ 256 := Nat.pow_le_pow_right (j := 8) (by omega) hmin
    have z3 : (1 : Int32) <<< (Int32.ofNat (min n (day + 1)) &&& 31) = Int32.ofNat (2 ^ min n (day + 1)) := by
      have := i_shl (L := 1) (c := min n (day + 1)) (by omega) (by omega)
      rw [Nat.one_mul] at this
      exact this
    have hmd := mild_k (sFr s) (day + 1)
    have z0 : (0 : Int32) = Int32.ofNat 0 := rfl
    simp only [w83_0, w83_0n, w83_1, w83_4, w83_4n, w83_5, w83_8, w83_10, w83_12, w83_13, w83_16, w83_17, w83_18, w83_19, w83_20, w83_21, w83_22, w83_23, w83_26, w83_27, w83_28, w83_29, w83_31, w83_31n, w83_32, w83_35, w83_38, w83_39, w83_40, w83_43, w83_45, w83_46, w83_48, w83_49, w83_53, w83_54, w83_55, w83_56, w83_59, w83_61, w83_63, w83_64, w83_67, w83_69, w83_70, w83_72, w83_75, w83_78, w83_81, w83_84, w83_86, xk_n, xk_i, xk_r, xk_z, xk_l, xcs_0, xcs_i, xcs_r, xcs_z, xcs_l, Nat.reduceAdd, Nat.reduceLeDiff, Nat.reduceLT, true_and, and_true, Option.toList_some, Option.toList_none, List.nil_append, List.cons_append, List.getElem?_cons_zero, List.getElem?_cons_succ, List.set_cons_zero, List.set_cons_succ, List.length_cons, List.length_nil, y_bool0, y_bool1, not_true_eq_false, not_false_eq_true, false_implies, true_implies, true_or, or_true, false_or, or_false, if_true, if_false, ite_true, ite_false, q2, z1, z2, z3, y_get, h12, B1.bed, B1.pf.cls, wp_movesOn B1.pf hd (show n < 80 by omega)]
    rw [z0]
    exact wp_rw hm hmin (by omega) hn fin (2 ^ n) 0 (by omega)
theorem wp_red {n day : Nat} {l0 l1 l5 : Option Value} {w : Nat} (hn : n ≤ 8) (hw : w < 2) {u0 l00 : Nat} (hK : K (some (.long (if w = 0 then Int64.ofNat (redF n u0 l00).1 else Int64.ofNat (redF n u0 l00).2))) h) : ∀ (j k u l : Nat), k + j = n → u < 1000 → l < 1000 → redF j u l = redF n u0 l00 → wp d 59 68 [l0, l1, some (.int (Int32.ofNat day)), some (.int (Int32.ofNat n)), some (.int (Int32.ofNat w)), l5, some (.int (Int32.ofNat l)), some (.int (Int32.ofNat u)), some (.int (Int32.ofNat k))] [] h K
  | 0, k, u, l, hj, hu, hl, hr => by
    have q : Int32.ofNat n ≤ Int32.ofNat k := (n_le (by omega) (by omega)).mpr (by omega)
    have t0 : (Int32.ofNat w = 0) = (w = 0) := propext (n_eql (m := 0) (by omega) (by omega))
    rw [← hr] at hK
    rw [w59_68]
    simp only [w59_0, w59_0n, w59_1, w59_4, w59_5, w59_8, w59_8n, w59_10, w59_10n, w59_12, w59_12n, w59_15, w59_16, w59_18, w59_21, w59_24, w59_27, w59_28, w59_29, w59_31, w59_34, w59_37, w59_39, w59_40, w59_43, w59_46, w59_49, w59_50, w59_51, w59_52, w59_53, w59_55, w59_55n, w59_56, w59_56n, w59_58, w59_59, w59_60, w59_63, w59_65, w59_66, w59_70, w59_71, w59_74, w59_76, w59_77, w59_78, w59_81, w59_83, w59_84, w59_85, w59_87, w59_89, w59_90, w59_91, w59_93, w59_96, w59_99, w59_101, w59_104, w59_106, w59_107, w59_110, w59_112, w59_113, xk_n, xk_i, xk_r, xk_z, xk_l, xcs_0, xcs_i, xcs_r, xcs_z, xcs_l, Nat.reduceAdd, Nat.reduceLeDiff, Nat.reduceLT, true_and, and_true, Option.toList_some, Option.toList_none, List.nil_append, List.cons_append, List.getElem?_cons_zero, List.getElem?_cons_succ, List.set_cons_zero, List.set_cons_succ, List.length_cons, List.length_nil, y_bool0, y_bool1, not_true_eq_false, not_false_eq_true, false_implies, true_implies, true_or, or_true, false_or, or_false, if_true, if_false, ite_true, ite_false, q, t0, i2l_n (show u < 2147483648 by omega), i2l_n (show l < 2147483648 by omega)]
    by_cases c : w = 0
    · rw [if_pos c] at hK
      exact ⟨fun z => absurd c z, fun _ => hK⟩
    · rw [if_neg c] at hK
      exact ⟨fun _ => hK, fun z => absurd z c⟩
  | j + 1, k, u, l, hj, hu, hl, hr => by
    have q : (Int32.ofNat n ≤ Int32.ofNat k) = False := eq_false (by rw [n_le (by omega) (by omega)]; omega)
    have t0 : (Int32.ofNat w = 0) = (w = 0) := propext (n_eql (m := 0) (by omega) (by omega))
    have z1 : Int32.ofNat u &&& 1 = Int32.ofNat (u % 2) := i_and1 (by omega)
    have z2 : (Int32.ofNat (u % 2) = 0) = (u % 2 = 0) := propext (n_eql (m := 0) (by omega) (by omega))
    have z3 : Int32.ofNat u >>> ((1 : Int32) &&& 31) = Int32.ofNat (u / 2) := i_shr (L := u) (c := 1) (by omega) (by omega)
    have z4 : Int32.ofNat l >>> ((1 : Int32) &&& 31) = Int32.ofNat (l / 2) := i_shr (L := l) (c := 1) (by omega) (by omega)
    have z8 : Int32.ofNat k + 1 = Int32.ofNat (k + 1) := n_addl k 1
    have hrs : redF (j + 1) u l = if u % 2 = 0 then redF j (u / 2) (l / 2) else (u, l) := rfl
    rw [hrs] at hr
    rw [w59_68]
    simp only [w59_0, w59_0n, w59_1, w59_4, w59_5, w59_8, w59_8n, w59_10, w59_10n, w59_12, w59_12n, w59_15, w59_16, w59_18, w59_21, w59_24, w59_27, w59_28, w59_29, w59_31, w59_34, w59_37, w59_39, w59_40, w59_43, w59_46, w59_49, w59_50, w59_51, w59_52, w59_53, w59_55, w59_55n, w59_56, w59_56n, w59_58, w59_59, w59_60, w59_63, w59_65, w59_66, w59_70, w59_71, w59_74, w59_76, w59_77, w59_78, w59_81, w59_83, w59_84, w59_85, w59_87, w59_89, w59_90, w59_91, w59_93, w59_96, w59_99, w59_101, w59_104, w59_106, w59_107, w59_110, w59_112, w59_113, xk_n, xk_i, xk_r, xk_z, xk_l, xcs_0, xcs_i, xcs_r, xcs_z, xcs_l, Nat.reduceAdd, Nat.reduceLeDiff, Nat.reduceLT, true_and, and_true, Option.toList_some, Option.toList_none, List.nil_append, List.cons_append, List.getElem?_cons_zero, List.getElem?_cons_succ, List.set_cons_zero, List.set_cons_succ, List.length_cons, List.length_nil, y_bool0, y_bool1, not_true_eq_false, not_false_eq_true, false_implies, true_implies, true_or, or_true, false_or, or_false, if_true, if_false, ite_true, ite_false, q, z1, z2, z3, z4, z8, t0, i2l_n (show u < 2147483648 by omega), i2l_n (show l < 2147483648 by omega)]
    by_cases c : u % 2 = 0
    · rw [if_pos c] at hr
      refine ⟨fun z => absurd c z, fun _ => ?_⟩
      exact wp_red hn hw hK j (k + 1) (u / 2) (l / 2) (by omega) (by omega) (by omega) hr
    · rw [if_neg c] at hr
      rw [← hr] at hK
      refine ⟨fun _ => ?_, fun z => absurd z c⟩
      by_cases c2 : w = 0
      · rw [if_pos c2] at hK
        exact ⟨fun z => absurd c2 z, fun _ => hK⟩
      · rw [if_neg c2] at hK
        exact ⟨fun _ => hK, fun z => absurd z c2⟩
theorem cop_odds {s : St} (H : RX h s) (v day n w : Int32) (hK : ∀ h', RX h' s → FR CP 0 0 h h' → K (some (.long (opOdds s v day n w))) h') : wp (d + 6) 59 0 [some (.ref 2), some (.int v), some (.int day), some (.int n), some (.int w), none, none, none, none] [] h K := by
  have HX := H
  obtain ⟨hO, e, em, er, vs, rs, H⟩ := H
  have H0 := H
  obtain ⟨X, L, B⟩ := H.2.1
  have hv3 := hO.v3
  have z10 : ((1 : Int32) = 0) = False := eq_false (by decide)
  rcases nb_cas v (m := gv (sE s)) (by omega) with ⟨a, ha, rfl, hnb⟩ | ⟨hc, hnb⟩
  · rcases nb_cas day (m := 80) (by omega) with ⟨b, hb, rfl, hnb2⟩ | ⟨hc2, hnb2⟩
    · rcases nb_cas n (m := 9) (by omega) with ⟨f, hf, rfl, hnb3⟩ | ⟨hc3, hnb3⟩
      · rcases nb_cas w (m := 2) (by omega) with ⟨g, hg, rfl, hnb4⟩ | ⟨hc4, hnb4⟩
        · have hE := hO.ok ha
          have e1 : opOdds s (Int32.ofNat a) (Int32.ofNat b) (Int32.ofNat f) (Int32.ofNat g) = if g = 0 then Int64.ofNat (redF f (rowsO (sE s) (sFr s) a b f) (2 ^ f)).1 else Int64.ofNat (redF f (rowsO (sE s) (sFr s) a b f) (2 ^ f)).2 := by unfold opOdds; rw [hnb]; dsimp only; rw [hnb2]; dsimp only; rw [hnb3]; dsimp only; rw [hnb4]
          rw [e1] at hK
          have p8 : 2 ^ f ≤ 256 := Nat.pow_le_pow_right (j := 8) (by omega) (by omega)
          have hro := rowsO_le (sE s) (sFr s) a b f
          have z1 : (1 : Int32) <<< (Int32.ofNat f &&& 31) = Int32.ofNat (2 ^ f) := by
            have := i_shl (L := 1) (c := f) (by omega) (by omega)
            rw [Nat.one_mul] at this
            exact this
          have z0 : (0 : Int32) = Int32.ofNat 0 := rfl
          simp only [w59_0, w59_0n, w59_1, w59_4, w59_5, w59_8, w59_8n, w59_10, w59_10n, w59_12, w59_12n, w59_15, w59_16, w59_18, w59_21, w59_24, w59_27, w59_28, w59_29, w59_31, w59_34, w59_37, w59_39, w59_40, w59_43, w59_46, w59_49, w59_50, w59_51, w59_52, w59_53, w59_55, w59_55n, w59_56, w59_56n, w59_58, w59_59, w59_60, w59_63, w59_65, w59_66, w59_70, w59_71, w59_74, w59_76, w59_77, w59_78, w59_81, w59_83, w59_84, w59_85, w59_87, w59_89, w59_90, w59_91, w59_93, w59_96, w59_99, w59_101, w59_104, w59_106, w59_107, w59_110, w59_112, w59_113, xk_n, xk_i, xk_r, xk_z, xk_l, xcs_0, xcs_i, xcs_r, xcs_z, xcs_l, Nat.reduceAdd, Nat.reduceLeDiff, Nat.reduceLT, true_and, and_true, Option.toList_some, Option.toList_none, List.nil_append, List.cons_append, List.getElem?_cons_zero, List.getElem?_cons_succ, List.set_cons_zero, List.set_cons_succ, List.length_cons, List.length_nil, y_bool0, y_bool1, not_true_eq_false, not_false_eq_true, false_implies, true_implies, true_or, or_true, false_or, or_false, if_true, if_false, ite_true, ite_false, y_get, H.1, B.bed, B.cls, wp_vineAt B hv3 ha, wp_below_t (m := 80) (by omega) hb, wp_below_t (m := 9) (by omega) hf, wp_below_t (m := 2) (by omega) hg, z10, z1, H0.cls]
          refine wp_rows H0 hE ha hb (by omega) fun h1 B1 F1 => ?_
          have R := H0.G B1 F1
          simp only [w59_0, w59_0n, w59_1, w59_4, w59_5, w59_8, w59_8n, w59_10, w59_10n, w59_12, w59_12n, w59_15, w59_16, w59_18, w59_21, w59_24, w59_27, w59_28, w59_29, w59_31, w59_34, w59_37, w59_39, w59_40, w59_43, w59_46, w59_49, w59_50, w59_51, w59_52, w59_53, w59_55, w59_55n, w59_56, w59_56n, w59_58, w59_59, w59_60, w59_63, w59_65, w59_66, w59_70, w59_71, w59_74, w59_76, w59_77, w59_78, w59_81, w59_83, w59_84, w59_85, w59_87, w59_89, w59_90, w59_91, w59_93, w59_96, w59_99, w59_101, w59_104, w59_106, w59_107, w59_110, w59_112, w59_113, xk_n, xk_i, xk_r, xk_z, xk_l, xcs_0, xcs_i, xcs_r, xcs_z, xcs_l, Nat.reduceAdd, Nat.reduceLeDiff, Nat.reduceLT, true_and, and_true, Option.toList_some, Option.toList_none, List.nil_append, List.cons_append, List.getElem?_cons_zero, List.getElem?_cons_succ, List.set_cons_zero, List.set_cons_succ, List.length_cons, List.length_nil, y_bool0, y_bool1, not_true_eq_false, not_false_eq_true, false_implies, true_implies, true_or, or_true, false_or, or_false, if_true, if_false, ite_true, ite_false]
          rw [z0]
          exact wp_red (n := f) (u0 := rowsO (sE s) (sFr s) a b f) (l00 := 2 ^ f) (by omega) hg (hK h1 ⟨hO, e, em, er, vs, rs, R.1⟩ R.2) f 0 _ _ (by omega) (by omega) (by omega) rfl
        · have e1 : opOdds s (Int32.ofNat a) (Int32.ofNat b) (Int32.ofNat f) w = -9223372036854775808 := by unfold opOdds; rw [hnb]; dsimp only; rw [hnb2]; dsimp only; rw [hnb3]; dsimp only; rw [hnb4]
          rw [e1] at hK
          simp only [w59_0, w59_0n, w59_1, w59_4, w59_5, w59_8, w59_8n, w59_10, w59_10n, w59_12, w59_12n, w59_15, w59_16, w59_18, w59_21, w59_24, w59_27, w59_28, w59_29, w59_31, w59_34, w59_37, w59_39, w59_40, w59_43, w59_46, w59_49, w59_50, w59_51, w59_52, w59_53, w59_55, w59_55n, w59_56, w59_56n, w59_58, w59_59, w59_60, w59_63, w59_65, w59_66, w59_70, w59_71, w59_74, w59_76, w59_77, w59_78, w59_81, w59_83, w59_84, w59_85, w59_87, w59_89, w59_90, w59_91, w59_93, w59_96, w59_99, w59_101, w59_104, w59_106, w59_107, w59_110, w59_112, w59_113, xk_n, xk_i, xk_r, xk_z, xk_l, xcs_0, xcs_i, xcs_r, xcs_z, xcs_l, Nat.reduceAdd, Nat.reduceLeDiff, Nat.reduceLT, true_and, and_true, Option.toList_some, Option.toList_none, List.nil_append, List.cons_append, List.getElem?_cons_zero, List.getElem?_cons_succ, List.set_cons_zero, List.set_cons_succ, List.length_cons, List.length_nil, y_bool0, y_bool1, not_true_eq_false, not_false_eq_true, false_implies, true_implies, true_or, or_true, false_or, or_false, if_true, if_false, ite_true, ite_false, y_get, H.1, B.bed, B.cls, wp_vineAt B hv3 ha, wp_below_t (m := 80) (by omega) hb, wp_below_t (m := 9) (by omega) hf, wp_below_f (m := 2) hc4, z10]
          exact hK h HX FR.rfl'
      · have e1 : opOdds s (Int32.ofNat a) (Int32.ofNat b) n w = -9223372036854775808 := by unfold opOdds; rw [hnb]; dsimp only; rw [hnb2]; dsimp only; rw [hnb3]
        rw [e1] at hK
        simp only [w59_0, w59_0n, w59_1, w59_4, w59_5, w59_8, w59_8n, w59_10, w59_10n, w59_12, w59_12n, w59_15, w59_16, w59_18, w59_21, w59_24, w59_27, w59_28, w59_29, w59_31, w59_34, w59_37, w59_39, w59_40, w59_43, w59_46, w59_49, w59_50, w59_51, w59_52, w59_53, w59_55, w59_55n, w59_56, w59_56n, w59_58, w59_59, w59_60, w59_63, w59_65, w59_66, w59_70, w59_71, w59_74, w59_76, w59_77, w59_78, w59_81, w59_83, w59_84, w59_85, w59_87, w59_89, w59_90, w59_91, w59_93, w59_96, w59_99, w59_101, w59_104, w59_106, w59_107, w59_110, w59_112, w59_113, xk_n, xk_i, xk_r, xk_z, xk_l, xcs_0, xcs_i, xcs_r, xcs_z, xcs_l, Nat.reduceAdd, Nat.reduceLeDiff, Nat.reduceLT, true_and, and_true, Option.toList_some, Option.toList_none, List.nil_append, List.cons_append, List.getElem?_cons_zero, List.getElem?_cons_succ, List.set_cons_zero, List.set_cons_succ, List.length_cons, List.length_nil, y_bool0, y_bool1, not_true_eq_false, not_false_eq_true, false_implies, true_implies, true_or, or_true, false_or, or_false, if_true, if_false, ite_true, ite_false, y_get, H.1, B.bed, B.cls, wp_vineAt B hv3 ha, wp_below_t (m := 80) (by omega) hb, wp_below_f (m := 9) hc3, z10]
        exact hK h HX FR.rfl'
    · have e1 : opOdds s (Int32.ofNat a) day n w = -9223372036854775808 := by unfold opOdds; rw [hnb]; dsimp only; rw [hnb2]
      rw [e1] at hK
      simp only [w59_0, w59_0n, w59_1, w59_4, w59_5, w59_8, w59_8n, w59_10, w59_10n, w59_12, w59_12n, w59_15, w59_16, w59_18, w59_21, w59_24, w59_27, w59_28, w59_29, w59_31, w59_34, w59_37, w59_39, w59_40, w59_43, w59_46, w59_49, w59_50, w59_51, w59_52, w59_53, w59_55, w59_55n, w59_56, w59_56n, w59_58, w59_59, w59_60, w59_63, w59_65, w59_66, w59_70, w59_71, w59_74, w59_76, w59_77, w59_78, w59_81, w59_83, w59_84, w59_85, w59_87, w59_89, w59_90, w59_91, w59_93, w59_96, w59_99, w59_101, w59_104, w59_106, w59_107, w59_110, w59_112, w59_113, xk_n, xk_i, xk_r, xk_z, xk_l, xcs_0, xcs_i, xcs_r, xcs_z, xcs_l, Nat.reduceAdd, Nat.reduceLeDiff, Nat.reduceLT, true_and, and_true, Option.toList_some, Option.toList_none, List.nil_append, List.cons_append, List.getElem?_cons_zero, List.getElem?_cons_succ, List.set_cons_zero, List.set_cons_succ, List.length_cons, List.length_nil, y_bool0, y_bool1, not_true_eq_false, not_false_eq_true, false_implies, true_implies, true_or, or_true, false_or, or_false, if_true, if_false, ite_true, ite_false, y_get, H.1, B.bed, B.cls, wp_vineAt B hv3 ha, wp_below_f (m := 80) hc2]
      exact hK h HX FR.rfl'
  · have e1 : opOdds s v day n w = -9223372036854775808 := by unfold opOdds; rw [hnb]
    rw [e1] at hK
    simp only [w59_0, w59_0n, w59_1, w59_4, w59_5, w59_8, w59_8n, w59_10, w59_10n, w59_12, w59_12n, w59_15, w59_16, w59_18, w59_21, w59_24, w59_27, w59_28, w59_29, w59_31, w59_34, w59_37, w59_39, w59_40, w59_43, w59_46, w59_49, w59_50, w59_51, w59_52, w59_53, w59_55, w59_55n, w59_56, w59_56n, w59_58, w59_59, w59_60, w59_63, w59_65, w59_66, w59_70, w59_71, w59_74, w59_76, w59_77, w59_78, w59_81, w59_83, w59_84, w59_85, w59_87, w59_89, w59_90, w59_91, w59_93, w59_96, w59_99, w59_101, w59_104, w59_106, w59_107, w59_110, w59_112, w59_113, xk_n, xk_i, xk_r, xk_z, xk_l, xcs_0, xcs_i, xcs_r, xcs_z, xcs_l, Nat.reduceAdd, Nat.reduceLeDiff, Nat.reduceLT, true_and, and_true, Option.toList_some, Option.toList_none, List.nil_append, List.cons_append, List.getElem?_cons_zero, List.getElem?_cons_succ, List.set_cons_zero, List.set_cons_succ, List.length_cons, List.length_nil, y_bool0, y_bool1, not_true_eq_false, not_false_eq_true, false_implies, true_implies, true_or, or_true, false_or, or_false, if_true, if_false, ite_true, ite_false, y_get, H.1, B.bed, B.cls, wp_vineNo B hc]
    exact hK h HX FR.rfl'
end
