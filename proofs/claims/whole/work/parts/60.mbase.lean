/-! ===== the model: its tests, its sheets ===== -/
section
variable {d : Nat} {h : xH} {K : Option Value → xH → Prop}
theorem wp_wi_t {a m : Nat} (hm : m < 1000) (h1 : a < m + 1) : wp d 94 0 [some (.int (Int32.ofNat a)), some (.int 0), some (.int (OfNat.ofNat m))] [] h K ↔ K (some (.int 1)) h := by
  have e1 : (Int32.ofNat a < 0) = False := eq_false (n_lt0 (by omega))
  have e2 : ((OfNat.ofNat m : Int32) < Int32.ofNat a) = False := eq_false (by rw [n_llt (by omega) (by omega)]; omega)
  simp only [w94_0, w94_1, w94_2, w94_5, w94_6, w94_7, w94_10, w94_11, w94_14, w94_15, xk_n, xk_i, xk_r, xk_z, xk_l, xcs_0, xcs_i, xcs_r, xcs_z, xcs_l, Nat.reduceAdd, Nat.reduceLeDiff, Nat.reduceLT, true_and, and_true, Option.toList_some, Option.toList_none, List.nil_append, List.cons_append, List.getElem?_cons_zero, List.getElem?_cons_succ, List.set_cons_zero, List.set_cons_succ, List.length_cons, List.length_nil, y_bool0, y_bool1, not_true_eq_false, not_false_eq_true, false_implies, true_implies, true_or, or_true, false_or, or_false, if_true, if_false, ite_true, ite_false, e1, e2]
theorem wp_wi_f {c : Int32} {m : Nat} (hm : m < 1000) (hc : c < 0 ∨ ¬ c < 0 ∧ Int32.ofNat (m + 1) ≤ c) : wp d 94 0 [some (.int c), some (.int 0), some (.int (OfNat.ofNat m))] [] h K ↔ K (some (.int 0)) h := by
  by_cases e1 : c < 0
  · simp only [w94_0, w94_1, w94_2, w94_5, w94_6, w94_7, w94_10, w94_11, w94_14, w94_15, xk_n, xk_i, xk_r, xk_z, xk_l, xcs_0, xcs_i, xcs_r, xcs_z, xcs_l, Nat.reduceAdd, Nat.reduceLeDiff, Nat.reduceLT, true_and, and_true, Option.toList_some, Option.toList_none, List.nil_append, List.cons_append, List.getElem?_cons_zero, List.getElem?_cons_succ, List.set_cons_zero, List.set_cons_succ, List.length_cons, List.length_nil, y_bool0, y_bool1, not_true_eq_false, not_false_eq_true, false_implies, true_implies, true_or, or_true, false_or, or_false, if_true, if_false, ite_true, ite_false, e1]
  · rcases hc with e | ⟨_, e⟩
    · exact absurd e e1
    · obtain ⟨a, ha, rfl⟩ := n_of e1
      rw [n_le (by omega) ha] at e
      have e2 : (OfNat.ofNat m : Int32) < Int32.ofNat a := (n_llt (by omega) (by omega)).mpr (by omega)
      simp only [w94_0, w94_1, w94_2, w94_5, w94_6, w94_7, w94_10, w94_11, w94_14, w94_15, xk_n, xk_i, xk_r, xk_z, xk_l, xcs_0, xcs_i, xcs_r, xcs_z, xcs_l, Nat.reduceAdd, Nat.reduceLeDiff, Nat.reduceLT, true_and, and_true, Option.toList_some, Option.toList_none, List.nil_append, List.cons_append, List.getElem?_cons_zero, List.getElem?_cons_succ, List.set_cons_zero, List.set_cons_succ, List.length_cons, List.length_nil, y_bool0, y_bool1, not_true_eq_false, not_false_eq_true, false_implies, true_implies, true_or, or_true, false_or, or_false, if_true, if_false, ite_true, ite_false, e1, e2]
theorem wp_wn_t {a m : Nat} (hm : m < 1000) (h1 : a < m + 1) : wp d 94 0 [some (.int (Int32.ofNat a)), some (.int 0), some (.int (Int32.ofNat m))] [] h K ↔ K (some (.int 1)) h := wp_wi_t hm h1
theorem wp_wn_f {c : Int32} {m : Nat} (hm : m < 1000) (hc : c < 0 ∨ ¬ c < 0 ∧ Int32.ofNat (m + 1) ≤ c) : wp d 94 0 [some (.int c), some (.int 0), some (.int (Int32.ofNat m))] [] h K ↔ K (some (.int 0)) h := wp_wi_f hm hc
theorem wp_wm_t {a m : Nat} (hm : m < 1000) (h1 : a < m) : wp d 94 0 [some (.int (Int32.ofNat a)), some (.int 0), some (.int (Int32.ofNat m - 1))] [] h K ↔ K (some (.int 1)) h := by
  have e : Int32.ofNat m - 1 = Int32.ofNat (m - 1) := n_subl (m := 1) (by omega)
  rw [e]
  exact wp_wn_t (by omega) (by omega)
theorem wp_wm_f {c : Int32} {m : Nat} (hm : m < 1000) (hc : c < 0 ∨ ¬ c < 0 ∧ Int32.ofNat m ≤ c) : wp d 94 0 [some (.int c), some (.int 0), some (.int (Int32.ofNat m - 1))] [] h K ↔ K (some (.int 0)) h := by
  by_cases q : m = 0
  · subst q
    by_cases e1 : c < 0
    · simp only [w94_0, w94_1, w94_2, w94_5, w94_6, w94_7, w94_10, w94_11, w94_14, w94_15, xk_n, xk_i, xk_r, xk_z, xk_l, xcs_0, xcs_i, xcs_r, xcs_z, xcs_l, Nat.reduceAdd, Nat.reduceLeDiff, Nat.reduceLT, true_and, and_true, Option.toList_some, Option.toList_none, List.nil_append, List.cons_append, List.getElem?_cons_zero, List.getElem?_cons_succ, List.set_cons_zero, List.set_cons_succ, List.length_cons, List.length_nil, y_bool0, y_bool1, not_true_eq_false, not_false_eq_true, false_implies, true_implies, true_or, or_true, false_or, or_false, if_true, if_false, ite_true, ite_false, e1]
    · have e2 : Int32.ofNat 0 - 1 < c := by
        obtain ⟨a, ha, rfl⟩ := n_of e1
        rw [Int32.lt_iff_toInt_lt, n_toInt ha]
        show (-1 : Int) < a
        omega
      simp only [w94_0, w94_1, w94_2, w94_5, w94_6, w94_7, w94_10, w94_11, w94_14, w94_15, xk_n, xk_i, xk_r, xk_z, xk_l, xcs_0, xcs_i, xcs_r, xcs_z, xcs_l, Nat.reduceAdd, Nat.reduceLeDiff, Nat.reduceLT, true_and, and_true, Option.toList_some, Option.toList_none, List.nil_append, List.cons_append, List.getElem?_cons_zero, List.getElem?_cons_succ, List.set_cons_zero, List.set_cons_succ, List.length_cons, List.length_nil, y_bool0, y_bool1, not_true_eq_false, not_false_eq_true, false_implies, true_implies, true_or, or_true, false_or, or_false, if_true, if_false, ite_true, ite_false, e1, e2]
  · have e : Int32.ofNat m - 1 = Int32.ofNat (m - 1) := n_subl (m := 1) (by omega)
    rw [e]
    exact wp_wn_f (m := m - 1) (by omega) (by rw [show m - 1 + 1 = m by omega]; exact hc)
theorem wp_msh_t {k : Nat} (hk : k < 4) : wp (d + 1) 95 0 [some (.int (Int32.ofNat k))] [] h K ↔ K (some (.int 1)) h := by
  simp only [w95_0, w95_1, w95_2, w95_3, w95_6, xk_n, xk_i, xk_r, xk_z, xk_l, xcs_0, xcs_i, xcs_r, xcs_z, xcs_l, Nat.reduceAdd, Nat.reduceLeDiff, Nat.reduceLT, true_and, and_true, Option.toList_some, Option.toList_none, List.nil_append, List.cons_append, List.getElem?_cons_zero, List.getElem?_cons_succ, List.set_cons_zero, List.set_cons_succ, List.length_cons, List.length_nil, y_bool0, y_bool1, not_true_eq_false, not_false_eq_true, false_implies, true_implies, true_or, or_true, false_or, or_false, if_true, if_false, ite_true, ite_false, wp_wi_t (m := 3) (by omega) hk]
theorem wp_msh_f {c : Int32} (hc : c < 0 ∨ ¬ c < 0 ∧ Int32.ofNat 4 ≤ c) : wp (d + 1) 95 0 [some (.int c)] [] h K ↔ K (some (.int 0)) h := by
  simp only [w95_0, w95_1, w95_2, w95_3, w95_6, xk_n, xk_i, xk_r, xk_z, xk_l, xcs_0, xcs_i, xcs_r, xcs_z, xcs_l, Nat.reduceAdd, Nat.reduceLeDiff, Nat.reduceLT, true_and, and_true, Option.toList_some, Option.toList_none, List.nil_append, List.cons_append, List.getElem?_cons_zero, List.getElem?_cons_succ, List.set_cons_zero, List.set_cons_succ, List.length_cons, List.length_nil, y_bool0, y_bool1, not_true_eq_false, not_false_eq_true, false_implies, true_implies, true_or, or_true, false_or, or_false, if_true, if_false, ite_true, ite_false, wp_wi_f (m := 3) (by omega) hc]
theorem wp_mso_t {k : Nat} (hk : k < 3) : wp (d + 1) 96 0 [some (.int (Int32.ofNat k))] [] h K ↔ K (some (.int 1)) h := by
  simp only [w96_0, w96_1, w96_2, w96_3, w96_6, xk_n, xk_i, xk_r, xk_z, xk_l, xcs_0, xcs_i, xcs_r, xcs_z, xcs_l, Nat.reduceAdd, Nat.reduceLeDiff, Nat.reduceLT, true_and, and_true, Option.toList_some, Option.toList_none, List.nil_append, List.cons_append, List.getElem?_cons_zero, List.getElem?_cons_succ, List.set_cons_zero, List.set_cons_succ, List.length_cons, List.length_nil, y_bool0, y_bool1, not_true_eq_false, not_false_eq_true, false_implies, true_implies, true_or, or_true, false_or, or_false, if_true, if_false, ite_true, ite_false, wp_wi_t (m := 2) (by omega) hk]
theorem wp_mso_f {c : Int32} (hc : c < 0 ∨ ¬ c < 0 ∧ Int32.ofNat 3 ≤ c) : wp (d + 1) 96 0 [some (.int c)] [] h K ↔ K (some (.int 0)) h := by
  simp only [w96_0, w96_1, w96_2, w96_3, w96_6, xk_n, xk_i, xk_r, xk_z, xk_l, xcs_0, xcs_i, xcs_r, xcs_z, xcs_l, Nat.reduceAdd, Nat.reduceLeDiff, Nat.reduceLT, true_and, and_true, Option.toList_some, Option.toList_none, List.nil_append, List.cons_append, List.getElem?_cons_zero, List.getElem?_cons_succ, List.set_cons_zero, List.set_cons_succ, List.length_cons, List.length_nil, y_bool0, y_bool1, not_true_eq_false, not_false_eq_true, false_implies, true_implies, true_or, or_true, false_or, or_false, if_true, if_false, ite_true, ite_false, wp_wi_f (m := 2) (by omega) hc]
theorem wp_mdy_t {k : Nat} (hk : k < 80) : wp (d + 1) 101 0 [some (.int (Int32.ofNat k))] [] h K ↔ K (some (.int 1)) h := by
  simp only [w101_0, w101_1, w101_2, w101_4, w101_7, xk_n, xk_i, xk_r, xk_z, xk_l, xcs_0, xcs_i, xcs_r, xcs_z, xcs_l, Nat.reduceAdd, Nat.reduceLeDiff, Nat.reduceLT, true_and, and_true, Option.toList_some, Option.toList_none, List.nil_append, List.cons_append, List.getElem?_cons_zero, List.getElem?_cons_succ, List.set_cons_zero, List.set_cons_succ, List.length_cons, List.length_nil, y_bool0, y_bool1, not_true_eq_false, not_false_eq_true, false_implies, true_implies, true_or, or_true, false_or, or_false, if_true, if_false, ite_true, ite_false, wp_wi_t (m := 79) (by omega) hk]
theorem wp_mdy_f {c : Int32} (hc : c < 0 ∨ ¬ c < 0 ∧ Int32.ofNat 80 ≤ c) : wp (d + 1) 101 0 [some (.int c)] [] h K ↔ K (some (.int 0)) h := by
  simp only [w101_0, w101_1, w101_2, w101_4, w101_7, xk_n, xk_i, xk_r, xk_z, xk_l, xcs_0, xcs_i, xcs_r, xcs_z, xcs_l, Nat.reduceAdd, Nat.reduceLeDiff, Nat.reduceLT, true_and, and_true, Option.toList_some, Option.toList_none, List.nil_append, List.cons_append, List.getElem?_cons_zero, List.getElem?_cons_succ, List.set_cons_zero, List.set_cons_succ, List.length_cons, List.length_nil, y_bool0, y_bool1, not_true_eq_false, not_false_eq_true, false_implies, true_implies, true_or, or_true, false_or, or_false, if_true, if_false, ite_true, ite_false, wp_wi_f (m := 79) (by omega) hc]
end
section
variable {d : Nat} {h : xH} {K : Option Value → xH → Prop} {fa tr p rH rW nr w nv : Int32} {hi n : Nat} {A : Nat → Nat → Int32}
theorem wp_mall {hi w : Nat} (H : MH h fa tr (Int32.ofNat hi) (Int32.ofNat w) nv p rH rW nr A) (hn : n = hi * w) : wp d 98 0 [some (.ref 25)] [] h K ↔ K (some (.int (Int32.ofNat n))) h := by
  simp only [w98_0, w98_0n, w98_1, w98_4, w98_4n, w98_5, w98_8, w98_9, xk_n, xk_i, xk_r, xk_z, xk_l, xcs_0, xcs_i, xcs_r, xcs_z, xcs_l, Nat.reduceAdd, Nat.reduceLeDiff, Nat.reduceLT, true_and, and_true, Option.toList_some, Option.toList_none, List.nil_append, List.cons_append, List.getElem?_cons_zero, List.getElem?_cons_succ, List.set_cons_zero, List.set_cons_succ, List.length_cons, List.length_nil, y_bool0, y_bool1, not_true_eq_false, not_false_eq_true, false_implies, true_implies, true_or, or_true, false_or, or_false, if_true, if_false, ite_true, ite_false, y_get, H.o, n_mul, ← hn]
theorem wp_mce_t {hi w c : Nat} (H : MH h fa tr (Int32.ofNat hi) (Int32.ofNat w) nv p rH rW nr A) (hn : n = hi * w) (h30 : n ≤ 30) (hc : c < n) : wp (d + 1) 99 0 [some (.ref 25), some (.int (Int32.ofNat c))] [] h K ↔ K (some (.int 1)) h := by
  have e1 : (Int32.ofNat c < 0) = False := eq_false (n_lt0 (by omega))
  have e2 : (Int32.ofNat n ≤ Int32.ofNat c) = False := eq_false (by rw [n_le (by omega) (by omega)]; omega)
  simp only [w99_0, w99_1, w99_4, w99_5, w99_5n, w99_6, w99_9, w99_12, w99_13, w99_16, w99_17, xk_n, xk_i, xk_r, xk_z, xk_l, xcs_0, xcs_i, xcs_r, xcs_z, xcs_l, Nat.reduceAdd, Nat.reduceLeDiff, Nat.reduceLT, true_and, and_true, Option.toList_some, Option.toList_none, List.nil_append, List.cons_append, List.getElem?_cons_zero, List.getElem?_cons_succ, List.set_cons_zero, List.set_cons_succ, List.length_cons, List.length_nil, y_bool0, y_bool1, not_true_eq_false, not_false_eq_true, false_implies, true_implies, true_or, or_true, false_or, or_false, if_true, if_false, ite_true, ite_false, H.cls, wp_mall H hn, e1, e2]
theorem wp_mce_f {hi w : Nat} {c : Int32} (H : MH h fa tr (Int32.ofNat hi) (Int32.ofNat w) nv p rH rW nr A) (hn : n = hi * w) (hc : c < 0 ∨ ¬ c < 0 ∧ Int32.ofNat n ≤ c) : wp (d + 1) 99 0 [some (.ref 25), some (.int c)] [] h K ↔ K (some (.int 0)) h := by
  rcases hc with e1 | ⟨e1, e2⟩
  · simp only [w99_0, w99_1, w99_4, w99_5, w99_5n, w99_6, w99_9, w99_12, w99_13, w99_16, w99_17, xk_n, xk_i, xk_r, xk_z, xk_l, xcs_0, xcs_i, xcs_r, xcs_z, xcs_l, Nat.reduceAdd, Nat.reduceLeDiff, Nat.reduceLT, true_and, and_true, Option.toList_some, Option.toList_none, List.nil_append, List.cons_append, List.getElem?_cons_zero, List.getElem?_cons_succ, List.set_cons_zero, List.set_cons_succ, List.length_cons, List.length_nil, y_bool0, y_bool1, not_true_eq_false, not_false_eq_true, false_implies, true_implies, true_or, or_true, false_or, or_false, if_true, if_false, ite_true, ite_false, H.cls, wp_mall H hn, e1]
  · simp only [w99_0, w99_1, w99_4, w99_5, w99_5n, w99_6, w99_9, w99_12, w99_13, w99_16, w99_17, xk_n, xk_i, xk_r, xk_z, xk_l, xcs_0, xcs_i, xcs_r, xcs_z, xcs_l, Nat.reduceAdd, Nat.reduceLeDiff, Nat.reduceLT, true_and, and_true, Option.toList_some, Option.toList_none, List.nil_append, List.cons_append, List.getElem?_cons_zero, List.getElem?_cons_succ, List.set_cons_zero, List.set_cons_succ, List.length_cons, List.length_nil, y_bool0, y_bool1, not_true_eq_false, not_false_eq_true, false_implies, true_implies, true_or, or_true, false_or, or_false, if_true, if_false, ite_true, ite_false, H.cls, wp_mall H hn, e1, e2]
theorem wp_mvi_t {hi w : Int32} {n v : Nat} (H : MH h fa tr hi w (Int32.ofNat n) p rH rW nr A) (h3 : n ≤ 3) (hv : v < n) : wp d 100 0 [some (.ref 25), some (.int (Int32.ofNat v))] [] h K ↔ K (some (.int 1)) h := by
  have e1 : (Int32.ofNat v < 0) = False := eq_false (n_lt0 (by omega))
  have e2 : (Int32.ofNat n ≤ Int32.ofNat v) = False := eq_false (by rw [n_le (by omega) (by omega)]; omega)
  simp only [w100_0, w100_1, w100_4, w100_5, w100_5n, w100_6, w100_9, w100_12, w100_13, w100_16, w100_17, xk_n, xk_i, xk_r, xk_z, xk_l, xcs_0, xcs_i, xcs_r, xcs_z, xcs_l, Nat.reduceAdd, Nat.reduceLeDiff, Nat.reduceLT, true_and, and_true, Option.toList_some, Option.toList_none, List.nil_append, List.cons_append, List.getElem?_cons_zero, List.getElem?_cons_succ, List.set_cons_zero, List.set_cons_succ, List.length_cons, List.length_nil, y_bool0, y_bool1, not_true_eq_false, not_false_eq_true, false_implies, true_implies, true_or, or_true, false_or, or_false, if_true, if_false, ite_true, ite_false, y_get, H.o, e1, e2]
theorem wp_mvi_f {hi w : Int32} {n : Nat} {c : Int32} (H : MH h fa tr hi w (Int32.ofNat n) p rH rW nr A) (hc : c < 0 ∨ ¬ c < 0 ∧ Int32.ofNat n ≤ c) : wp d 100 0 [some (.ref 25), some (.int c)] [] h K ↔ K (some (.int 0)) h := by
  rcases hc with e1 | ⟨e1, e2⟩
  · simp only [w100_0, w100_1, w100_4, w100_5, w100_5n, w100_6, w100_9, w100_12, w100_13, w100_16, w100_17, xk_n, xk_i, xk_r, xk_z, xk_l, xcs_0, xcs_i, xcs_r, xcs_z, xcs_l, Nat.reduceAdd, Nat.reduceLeDiff, Nat.reduceLT, true_and, and_true, Option.toList_some, Option.toList_none, List.nil_append, List.cons_append, List.getElem?_cons_zero, List.getElem?_cons_succ, List.set_cons_zero, List.set_cons_succ, List.length_cons, List.length_nil, y_bool0, y_bool1, not_true_eq_false, not_false_eq_true, false_implies, true_implies, true_or, or_true, false_or, or_false, if_true, if_false, ite_true, ite_false, y_get, H.o, e1]
  · simp only [w100_0, w100_1, w100_4, w100_5, w100_5n, w100_6, w100_9, w100_12, w100_13, w100_16, w100_17, xk_n, xk_i, xk_r, xk_z, xk_l, xcs_0, xcs_i, xcs_r, xcs_z, xcs_l, Nat.reduceAdd, Nat.reduceLeDiff, Nat.reduceLT, true_and, and_true, Option.toList_some, Option.toList_none, List.nil_append, List.cons_append, List.getElem?_cons_zero, List.getElem?_cons_succ, List.set_cons_zero, List.set_cons_succ, List.length_cons, List.length_nil, y_bool0, y_bool1, not_true_eq_false, not_false_eq_true, false_implies, true_implies, true_or, or_true, false_or, or_false, if_true, if_false, ite_true, ite_false, y_get, H.o, e1, e2]
theorem wp_mfails {hi w : Int32} {f : Int32} (H : MH h fa tr hi w nv p rH rW nr A) (hK : ∀ h', MH h' f tr hi w nv p rH rW nr A → FR MP 0 0 h h' → K (some (.int (-10 - f))) h') : wp d 92 0 [some (.ref 25), some (.int f)] [] h K := by
  simp only [w92_0, w92_0n, w92_1, w92_2, w92_5, w92_7, w92_8, w92_9, xk_n, xk_i, xk_r, xk_z, xk_l, xcs_0, xcs_i, xcs_r, xcs_z, xcs_l, Nat.reduceAdd, Nat.reduceLeDiff, Nat.reduceLT, true_and, and_true, Option.toList_some, Option.toList_none, List.nil_append, List.cons_append, List.getElem?_cons_zero, List.getElem?_cons_succ, List.set_cons_zero, List.set_cons_succ, List.length_cons, List.length_nil, y_bool0, y_bool1, not_true_eq_false, not_false_eq_true, false_implies, true_implies, true_or, or_true, false_or, or_false, if_true, if_false, ite_true, ite_false]
  exact H.p_fa fun h' H' F' => hK h' H' F'
theorem wp_mlost {hi w : Int32} {f : Int32} (H : MH h fa tr hi w nv p rH rW nr A) (hK : ∀ h', MH h' f tr hi w nv p rH rW nr A → FR MP 0 0 h h' → K (some (.long (-9223372036854775808))) h') : wp d 93 0 [some (.ref 25), some (.int f)] [] h K := by
  simp only [w93_0, w93_0n, w93_1, w93_2, w93_5, w93_8, xk_n, xk_i, xk_r, xk_z, xk_l, xcs_0, xcs_i, xcs_r, xcs_z, xcs_l, Nat.reduceAdd, Nat.reduceLeDiff, Nat.reduceLT, true_and, and_true, Option.toList_some, Option.toList_none, List.nil_append, List.cons_append, List.getElem?_cons_zero, List.getElem?_cons_succ, List.set_cons_zero, List.set_cons_succ, List.length_cons, List.length_nil, y_bool0, y_bool1, not_true_eq_false, not_false_eq_true, false_implies, true_implies, true_or, or_true, false_or, or_false, if_true, if_false, ite_true, ite_false]
  exact H.p_fa fun h' H' F' => hK h' H' F'
theorem wp_mbeg {hi w : Int32} {f : Int32} (H : MH h fa tr hi w nv p rH rW nr A) (hK : ∀ h', MH h' fa (31 * tr + f) hi w nv p rH rW nr A → FR MP 0 0 h h' → K none h') : wp d 145 0 [some (.ref 25), some (.int f)] [] h K := by
  simp only [w145_0, w145_0n, w145_1, w145_3, w145_3n, w145_4, w145_7, w145_8, w145_9, w145_10, w145_13, xk_n, xk_i, xk_r, xk_z, xk_l, xcs_0, xcs_i, xcs_r, xcs_z, xcs_l, Nat.reduceAdd, Nat.reduceLeDiff, Nat.reduceLT, true_and, and_true, Option.toList_some, Option.toList_none, List.nil_append, List.cons_append, List.getElem?_cons_zero, List.getElem?_cons_succ, List.set_cons_zero, List.set_cons_succ, List.length_cons, List.length_nil, y_bool0, y_bool1, not_true_eq_false, not_false_eq_true, false_implies, true_implies, true_or, or_true, false_or, or_false, if_true, if_false, ite_true, ite_false, y_get, H.o]
  exact H.p_tr fun h' H' F' => hK h' H' F'
end
theorem upA_up (A : Nat → Nat → Int32) (j : Nat) (f g : Nat → Int32) : upA (upA A j f) j g = upA A j g := by
  funext i
  unfold upA
  split <;> rfl
theorem upA_sm (A : Nat → Nat → Int32) (j : Nat) : upA A j (A j) = A := by
  funext i
  unfold upA
  split
  · rename_i q; rw [q]
  · rfl
theorem upd_at (f : Nat → Int32) (i : Nat) (x : Int32) : upd f i x i = x := by unfold upd; exact if_pos rfl
theorem upd_ne (f : Nat → Int32) {i j : Nat} (x : Int32) (h : j ≠ i) : upd f i x j = f j := by unfold upd; exact if_neg h
section
variable {d : Nat} {h : xH} {K : Option Value → xH → Prop} {s : St}
theorem mop_lose (H : RM h s) (k : Int32) (hK : ∀ h', RM h' (opLose s k).2 → FR MP 0 0 h h' → K (some (.int (opLose s k).1)) h') : wp (d + 2) 141 0 [some (.ref 25), some (.int k), none] [] h K := by
  have HX := H
  obtain ⟨hi, p, rH, rW, A, hg, h5, H, G, S, R⟩ := H
  rcases nb_cas k (m := 4) (by omega) with ⟨a, ha, rfl, hn⟩ | ⟨hc, hn⟩
  · have e1 : opLose s (Int32.ofNat a) = (if (sSh s a).1.isNone then 0 else 1, stH s a (none, 0, (sSh s a).2.2)) := by unfold opLose; rw [hn]
    rw [e1] at hK
    have z10 : ((1 : Int32) = 0) = False := eq_false (by decide)
    obtain ⟨s1, s2, s3, s4, s5⟩ := S a ha
    have t9 := oC_9 (o := (sSh s a).1) (fun x hx => by have := s4 x hx; omega)
    have fin : ∀ x : Int32, x = (if (sSh s a).1.isNone then 0 else 1) → y_iast h 26 (Int32.ofNat a) (-9) (fun h1 => wp (d + 2) 141 34 [some (.ref 25), some (.int (Int32.ofNat a)), some (.int x)] [] h1 K) := by
      intro x hx
      refine H.st0 ha fun h1 H1 F1 => ?_
      simp only [w141_0, w141_1, w141_4, w141_7, w141_8, w141_9, w141_9n, w141_10, w141_13, w141_14, w141_15, w141_17, w141_20, w141_21, w141_24, w141_25, w141_26, w141_26n, w141_27, w141_30, w141_31, w141_33, w141_34, w141_35, xk_n, xk_i, xk_r, xk_z, xk_l, xcs_0, xcs_i, xcs_r, xcs_z, xcs_l, Nat.reduceAdd, Nat.reduceLeDiff, Nat.reduceLT, true_and, and_true, Option.toList_some, Option.toList_none, List.nil_append, List.cons_append, List.getElem?_cons_zero, List.getElem?_cons_succ, List.set_cons_zero, List.set_cons_succ, List.length_cons, List.length_nil, y_bool0, y_bool1, not_true_eq_false, not_false_eq_true, false_implies, true_implies, true_or, or_true, false_or, or_false, if_true, if_false, ite_true, ite_false]
      rw [hx]
      refine hK h1 ⟨hi, p, rH, rW, _, hg, h5, H1, G, ?_, R⟩ F1
      intro j hj
      show (upd (A 0) a (-9)) j = oC (if j = a then (none, 0, (sSh s a).2.2) else sSh s j).1 ∧ ((if j = a then (none, 0, (sSh s a).2.2) else sSh s j).1 ≠ none → A 1 j = Int32.ofNat (if j = a then (none, 0, (sSh s a).2.2) else sSh s j).2.1) ∧ (if j = a then (none, 0, (sSh s a).2.2) else sSh s j).2.1 ≤ 50 ∧ (∀ x, (if j = a then (none, 0, (sSh s a).2.2) else sSh s j).1 = some x → x < 3) ∧ ∀ i, i < 50 → A 2 (50 * j + i) = (if j = a then (none, 0, (sSh s a).2.2) else sSh s j).2.2 i
      by_cases q : j = a
      · subst q
        rw [if_pos rfl]
        exact ⟨upd_at _ _ _, fun z => absurd rfl z, Nat.zero_le _, fun x z => (by cases z), s5⟩
      · rw [if_neg q, upd_ne _ _ q]
        exact S j hj
    simp only [w141_0, w141_1, w141_4, w141_7, w141_8, w141_9, w141_9n, w141_10, w141_13, w141_14, w141_15, w141_17, w141_20, w141_21, w141_24, w141_25, w141_26, w141_26n, w141_27, w141_30, w141_31, w141_33, w141_35, xk_n, xk_i, xk_r, xk_z, xk_l, xcs_0, xcs_i, xcs_r, xcs_z, xcs_l, Nat.reduceAdd, Nat.reduceLeDiff, Nat.reduceLT, true_and, and_true, Option.toList_some, Option.toList_none, List.nil_append, List.cons_append, List.getElem?_cons_zero, List.getElem?_cons_succ, List.set_cons_zero, List.set_cons_succ, List.length_cons, List.length_nil, y_bool0, y_bool1, not_true_eq_false, not_false_eq_true, false_implies, true_implies, true_or, or_true, false_or, or_false, if_true, if_false, ite_true, ite_false, y_get, H.o, wp_msh_t ha, H.ld0 ha, s1, t9, z10]
    by_cases q : (sSh s a).1 = none
    · exact ⟨fun z => absurd q z, fun _ => fin 0 (by rw [q]; rfl)⟩
    · exact ⟨fun _ => fin 1 (by cases z : (sSh s a).1; exact absurd z q; rfl), fun z => absurd z q⟩
  · have e1 : opLose s k = (-1, s) := by unfold opLose; rw [hn]
    rw [e1] at hK
    simp only [w141_0, w141_1, w141_4, w141_7, w141_8, w141_9, w141_9n, w141_10, w141_13, w141_14, w141_15, w141_17, w141_20, w141_21, w141_24, w141_25, w141_26, w141_26n, w141_27, w141_30, w141_31, w141_33, w141_34, w141_35, xk_n, xk_i, xk_r, xk_z, xk_l, xcs_0, xcs_i, xcs_r, xcs_z, xcs_l, Nat.reduceAdd, Nat.reduceLeDiff, Nat.reduceLT, true_and, and_true, Option.toList_some, Option.toList_none, List.nil_append, List.cons_append, List.getElem?_cons_zero, List.getElem?_cons_succ, List.set_cons_zero, List.set_cons_succ, List.length_cons, List.length_nil, y_bool0, y_bool1, not_true_eq_false, not_false_eq_true, false_implies, true_implies, true_or, or_true, false_or, or_false, if_true, if_false, ite_true, ite_false, wp_msh_f hc]
    exact hK h HX FR.rfl'
theorem wp_mshz {fa tr hi w nv p rH rW nr : Int32} {A : Nat → Nat → Int32} {k : Nat} {l2 l3 : Option Value} (hk : k < 4) : ∀ (j i : Nat) (h : xH) (c : Nat → Int32), i + j = 50 → MH h fa tr hi w nv p rH rW nr (upA A 2 c) → (∀ x, x < i → c (50 * k + x) = 0) → (∀ y, (y < 50 * k ∨ 50 * k + 50 ≤ y) → c y = A 2 y) → (∀ h' c', MH h' fa tr hi w nv p rH rW nr (upA A 2 c') → (∀ x, x < 50 → c' (50 * k + x) = 0) → (∀ y, (y < 50 * k ∨ 50 * k + 50 ≤ y) → c' y = A 2 y) → FR MP 0 0 h h' → K (some (.int 1)) h') → wp d 140 57 [some (.ref 25), some (.int (Int32.ofNat k)), l2, l3, some (.int (Int32.ofNat i))] [] h K
  | 0, i, h, c, hj, H, c1, c2, hK => by
    have hi50 : i = 50 := by omega
    subst hi50
    have q : (50 : Int32) ≤ Int32.ofNat 50 := by decide
    rw [w140_57]
    simp only [w140_0, w140_0n, w140_1, w140_2, w140_5, w140_6, w140_9, w140_12, w140_13, w140_14, w140_15, w140_18, w140_21, w140_22, w140_24, w140_27, w140_29, w140_30, w140_31, w140_34, w140_34n, w140_35, w140_36, w140_39, w140_40, w140_40n, w140_41, w140_44, w140_45, w140_46, w140_47, w140_47n, w140_48, w140_51, w140_52, w140_53, w140_54, w140_55, w140_59, w140_61, w140_64, w140_64n, w140_65, w140_68, w140_70, w140_71, w140_72, w140_74, w140_75, w140_76, w140_77, w140_80, w140_83, w140_84, xk_n, xk_i, xk_r, xk_z, xk_l, xcs_0, xcs_i, xcs_r, xcs_z, xcs_l, Nat.reduceAdd, Nat.reduceLeDiff, Nat.reduceLT, true_and, and_true, Option.toList_some, Option.toList_none, List.nil_append, List.cons_append, List.getElem?_cons_zero, List.getElem?_cons_succ, List.set_cons_zero, List.set_cons_succ, List.length_cons, List.length_nil, y_bool0, y_bool1, not_true_eq_false, not_false_eq_true, false_implies, true_implies, true_or, or_true, false_or, or_false, if_true, if_false, ite_true, ite_false, q]
    exact hK h c H c1 c2 FR.rfl'
  | j + 1, i, h, c, hj, H, c1, c2, hK => by
    have q : ((50 : Int32) ≤ Int32.ofNat i) = False := eq_false (by have := n_lle (m := 50) (a := i) (by omega) (by omega); rw [this]; omega)
    have z1 : (50 : Int32) * Int32.ofNat k = Int32.ofNat (50 * k) := n_lmul k 50
    have z2 : Int32.ofNat (50 * k) + Int32.ofNat i = Int32.ofNat (50 * k + i) := n_add _ _
    have z8 : Int32.ofNat i + 1 = Int32.ofNat (i + 1) := n_addl i 1
    rw [w140_57]
    simp only [w140_0, w140_0n, w140_1, w140_2, w140_5, w140_6, w140_9, w140_12, w140_13, w140_14, w140_15, w140_18, w140_21, w140_22, w140_24, w140_27, w140_29, w140_30, w140_31, w140_34, w140_34n, w140_35, w140_36, w140_39, w140_40, w140_40n, w140_41, w140_44, w140_45, w140_46, w140_47, w140_47n, w140_48, w140_51, w140_52, w140_53, w140_54, w140_55, w140_59, w140_61, w140_64, w140_64n, w140_65, w140_68, w140_70, w140_71, w140_72, w140_74, w140_75, w140_76, w140_77, w140_80, w140_83, w140_84, xk_n, xk_i, xk_r, xk_z, xk_l, xcs_0, xcs_i, xcs_r, xcs_z, xcs_l, Nat.reduceAdd, Nat.reduceLeDiff, Nat.reduceLT, true_and, and_true, Option.toList_some, Option.toList_none, List.nil_append, List.cons_append, List.getElem?_cons_zero, List.getElem?_cons_succ, List.set_cons_zero, List.set_cons_succ, List.length_cons, List.length_nil, y_bool0, y_bool1, not_true_eq_false, not_false_eq_true, false_implies, true_implies, true_or, or_true, false_or, or_false, if_true, if_false, ite_true, ite_false, q, y_get, H.o, z1, z2]
    refine H.st2 (show 50 * k + i < 200 by omega) fun h1 H1 F1 => ?_
    rw [upA_up, upA_at] at H1
    simp only [w140_0, w140_0n, w140_1, w140_2, w140_5, w140_6, w140_9, w140_12, w140_13, w140_14, w140_15, w140_18, w140_21, w140_22, w140_24, w140_27, w140_29, w140_30, w140_31, w140_34, w140_34n, w140_35, w140_36, w140_39, w140_40, w140_40n, w140_41, w140_44, w140_45, w140_46, w140_47, w140_47n, w140_48, w140_51, w140_52, w140_53, w140_54, w140_55, w140_59, w140_61, w140_64, w140_64n, w140_65, w140_68, w140_70, w140_71, w140_72, w140_74, w140_75, w140_76, w140_77, w140_80, w140_83, w140_84, xk_n, xk_i, xk_r, xk_z, xk_l, xcs_0, xcs_i, xcs_r, xcs_z, xcs_l, Nat.reduceAdd, Nat.reduceLeDiff, Nat.reduceLT, true_and, and_true, Option.toList_some, Option.toList_none, List.nil_append, List.cons_append, List.getElem?_cons_zero, List.getElem?_cons_succ, List.set_cons_zero, List.set_cons_succ, List.length_cons, List.length_nil, y_bool0, y_bool1, not_true_eq_false, not_false_eq_true, false_implies, true_implies, true_or, or_true, false_or, or_false, if_true, if_false, ite_true, ite_false, z8]
    refine wp_mshz hk j (i + 1) h1 _ (by omega) H1 (fun x hx => ?_) (fun y hy => ?_) fun h' c' a1 a2 a3 a4 => hK h' c' a1 a2 a3 (F1.tr a4)
    · by_cases z : x = i
      · rw [z, upd_at]
      · rw [upd_ne _ _ (by omega)]; exact c1 x (by omega)
    · rw [upd_ne _ _ (by omega)]; exact c2 y hy
theorem mop_sheet (H : RM h s) (k l n : Int32) (hK : ∀ h', RM h' (opSheet s k l n).2 → FR MP 0 0 h h' → K (some (.int (opSheet s k l n).1)) h') : wp (d + 2) 140 0 [some (.ref 25), some (.int k), some (.int l), some (.int n), none] [] h K := by
  obtain ⟨hi, p, rH, rW, A, hg, h5, H, G, S, R⟩ := H
  have z10 : ((1 : Int32) = 0) = False := eq_false (by decide)
  simp only [w140_0, w140_0n, w140_1, w140_2, w140_6, w140_9, w140_12, w140_13, w140_14, w140_15, w140_18, w140_21, w140_22, w140_24, w140_27, w140_29, w140_30, w140_31, w140_34, w140_34n, w140_35, w140_36, w140_39, w140_40, w140_40n, w140_41, w140_44, w140_45, w140_46, w140_47, w140_47n, w140_48, w140_51, w140_52, w140_53, w140_54, w140_55, w140_57, w140_59, w140_61, w140_64, w140_64n, w140_65, w140_68, w140_70, w140_71, w140_72, w140_74, w140_75, w140_76, w140_77, w140_80, w140_83, w140_84, xk_n, xk_i, xk_r, xk_z, xk_l, xcs_0, xcs_i, xcs_r, xcs_z, xcs_l, Nat.reduceAdd, Nat.reduceLeDiff, Nat.reduceLT, true_and, and_true, Option.toList_some, Option.toList_none, List.nil_append, List.cons_append, List.getElem?_cons_zero, List.getElem?_cons_succ, List.set_cons_zero, List.set_cons_succ, List.length_cons, List.length_nil, y_bool0, y_bool1, not_true_eq_false, not_false_eq_true, false_implies, true_implies, true_or, or_true, false_or, or_false, if_true, if_false, ite_true, ite_false]
  refine H.p_fa fun h1 H1 F1 => ?_
  rcases nb_cas k (m := 4) (by omega) with ⟨a, ha, rfl, hn⟩ | ⟨hc, hn⟩
  · rcases nb_cas l (m := 3) (by omega) with ⟨b, hb, rfl, hn2⟩ | ⟨hc2, hn2⟩
    · have e1 : opSheet s (Int32.ofNat a) (Int32.ofNat b) n = if 50 < n then (-2, stF s 0) else if n < 0 then (-10 - 4, stF s 4) else (1, stH (stF s 0) a (some b, n.toNatClampNeg, fun _ => 0)) := by unfold opSheet; rw [hn]; dsimp only; rw [hn2]
      rw [e1] at hK
      have nle : (n ≤ 50) = ¬ (50 < n) := by rw [Int32.not_lt]
      have nle2 : (0 ≤ n) = ¬ (n < 0) := by rw [Int32.not_lt]
      simp only [w140_0, w140_0n, w140_1, w140_2, w140_5, w140_6, w140_9, w140_12, w140_13, w140_14, w140_15, w140_18, w140_21, w140_22, w140_24, w140_27, w140_29, w140_30, w140_31, w140_34, w140_34n, w140_35, w140_36, w140_39, w140_40, w140_40n, w140_41, w140_44, w140_45, w140_46, w140_47, w140_47n, w140_48, w140_51, w140_52, w140_53, w140_54, w140_55, w140_59, w140_61, w140_64, w140_64n, w140_65, w140_68, w140_70, w140_71, w140_72, w140_74, w140_75, w140_76, w140_77, w140_80, w140_83, w140_84, xk_n, xk_i, xk_r, xk_z, xk_l, xcs_0, xcs_i, xcs_r, xcs_z, xcs_l, Nat.reduceAdd, Nat.reduceLeDiff, Nat.reduceLT, true_and, and_true, Option.toList_some, Option.toList_none, List.nil_append, List.cons_append, List.getElem?_cons_zero, List.getElem?_cons_succ, List.set_cons_zero, List.set_cons_succ, List.length_cons, List.length_nil, y_bool0, y_bool1, not_true_eq_false, not_false_eq_true, false_implies, true_implies, true_or, or_true, false_or, or_false, if_true, if_false, ite_true, ite_false, wp_msh_t ha, wp_mso_t hb, z10, nle, nle2, H1.cls]
      by_cases q : 50 < n
      · rw [if_pos q] at hK
        refine ⟨fun z => absurd q z, fun _ => ?_⟩
        exact hK h1 ⟨hi, p, rH, rW, A, hg, h5, H1, G, S, R⟩ F1
      · rw [if_neg q] at hK
        refine ⟨fun _ => ?_, fun z => absurd q z⟩
        by_cases q2 : n < 0
        · rw [if_pos q2] at hK
          refine ⟨fun z => absurd q2 z, fun _ => ?_⟩
          refine wp_mfails H1 fun h2 H2 F2 => ?_
          simp only [w140_0, w140_0n, w140_1, w140_2, w140_5, w140_6, w140_9, w140_12, w140_13, w140_14, w140_15, w140_18, w140_21, w140_22, w140_24, w140_27, w140_29, w140_30, w140_31, w140_34, w140_34n, w140_35, w140_36, w140_39, w140_40, w140_40n, w140_41, w140_44, w140_45, w140_46, w140_47, w140_47n, w140_48, w140_51, w140_52, w140_53, w140_54, w140_55, w140_57, w140_59, w140_61, w140_64, w140_64n, w140_65, w140_68, w140_70, w140_71, w140_72, w140_74, w140_75, w140_76, w140_77, w140_80, w140_83, w140_84, xk_n, xk_i, xk_r, xk_z, xk_l, xcs_0, xcs_i, xcs_r, xcs_z, xcs_l, Nat.reduceAdd, Nat.reduceLeDiff, Nat.reduceLT, true_and, and_true, Option.toList_some, Option.toList_none, List.nil_append, List.cons_append, List.getElem?_cons_zero, List.getElem?_cons_succ, List.set_cons_zero, List.set_cons_succ, List.length_cons, List.length_nil, y_bool0, y_bool1, not_true_eq_false, not_false_eq_true, false_implies, true_implies, true_or, or_true, false_or, or_false, if_true, if_false, ite_true, ite_false]
          exact hK h2 ⟨hi, p, rH, rW, A, hg, h5, H2, G, S, R⟩ (F1.tr F2)
        · rw [if_neg q2] at hK
          refine ⟨fun _ => ?_, fun z => absurd q2 z⟩
          obtain ⟨m, hm, rfl⟩ := n_of q2
          have m50 : m ≤ 50 := by
            have := n_llt (a := m) (m := 50) hm (by omega)
            rw [this] at q; omega
          rw [n_cl hm] at hK
          have z0 : (0 : Int32) = Int32.ofNat 0 := rfl
          simp only [w140_0, w140_0n, w140_1, w140_2, w140_5, w140_6, w140_9, w140_12, w140_13, w140_14, w140_15, w140_18, w140_21, w140_22, w140_24, w140_27, w140_29, w140_30, w140_31, w140_34, w140_34n, w140_35, w140_36, w140_39, w140_40, w140_40n, w140_41, w140_44, w140_45, w140_46, w140_47, w140_47n, w140_48, w140_51, w140_52, w140_53, w140_54, w140_55, w140_59, w140_61, w140_64, w140_64n, w140_65, w140_68, w140_70, w140_71, w140_72, w140_74, w140_75, w140_76, w140_77, w140_80, w140_83, w140_84, y_get, H1.o, xk_n, xk_i, xk_r, xk_z, xk_l, xcs_0, xcs_i, xcs_r, xcs_z, xcs_l, Nat.reduceAdd, Nat.reduceLeDiff, Nat.reduceLT, true_and, and_true, Option.toList_some, Option.toList_none, List.nil_append, List.cons_append, List.getElem?_cons_zero, List.getElem?_cons_succ, List.set_cons_zero, List.set_cons_succ, List.length_cons, List.length_nil, y_bool0, y_bool1, not_true_eq_false, not_false_eq_true, false_implies, true_implies, true_or, or_true, false_or, or_false, if_true, if_false, ite_true, ite_false]
          refine H1.st0 ha fun h2 H2 F2 => ?_
          simp only [w140_0, w140_0n, w140_1, w140_2, w140_5, w140_6, w140_9, w140_12, w140_13, w140_14, w140_15, w140_18, w140_21, w140_22, w140_24, w140_27, w140_29, w140_30, w140_31, w140_34, w140_34n, w140_35, w140_36, w140_39, w140_40, w140_40n, w140_41, w140_44, w140_45, w140_46, w140_47, w140_47n, w140_48, w140_51, w140_52, w140_53, w140_54, w140_55, w140_59, w140_61, w140_64, w140_64n, w140_65, w140_68, w140_70, w140_71, w140_72, w140_74, w140_75, w140_76, w140_77, w140_80, w140_83, w140_84, xk_n, xk_i, xk_r, xk_z, xk_l, xcs_0, xcs_i, xcs_r, xcs_z, xcs_l, Nat.reduceAdd, Nat.reduceLeDiff, Nat.reduceLT, true_and, and_true, Option.toList_some, Option.toList_none, List.nil_append, List.cons_append, List.getElem?_cons_zero, List.getElem?_cons_succ, List.set_cons_zero, List.set_cons_succ, List.length_cons, List.length_nil, y_bool0, y_bool1, not_true_eq_false, not_false_eq_true, false_implies, true_implies, true_or, or_true, false_or, or_false, if_true, if_false, ite_true, ite_false, y_get, H2.o]
          refine H2.st1 ha fun h3 H3 F3 => ?_
          rw [z0]
          have H4 : MH h3 0 (sTr s) (Int32.ofNat hi) (Int32.ofNat (gw (sE s))) (Int32.ofNat (gv (sE s))) p rH rW (Int32.ofNat (sRn s)) (upA (upA (upA A 0 (upd (A 0) a (Int32.ofNat b))) 1 (upd (A 1) a (Int32.ofNat m))) 2 (A 2)) := by
            have := upA_sm (upA (upA A 0 (upd (A 0) a (Int32.ofNat b))) 1 (upd (A 1) a (Int32.ofNat m))) 2
            rw [show upA (upA A 0 (upd (A 0) a (Int32.ofNat b))) 1 (upd (A 1) a (Int32.ofNat m)) 2 = A 2 from rfl] at this
            rw [this]
            exact H3
          refine wp_mshz (k := a) ha 50 0 h3 (A 2) (by omega) H4 (fun x hx => by omega) (fun y _ => rfl) fun h' c' a1 a2 a3 a4 => ?_
          refine hK h' ⟨hi, p, rH, rW, _, hg, h5, a1, G, ?_, R⟩ (((F1.tr F2).tr F3).tr a4)
          intro j hj
          show (upd (A 0) a (Int32.ofNat b)) j = oC (if j = a then (some b, m, fun _ => 0) else sSh s j).1 ∧ ((if j = a then (some b, m, fun _ => 0) else sSh s j).1 ≠ none → (upd (A 1) a (Int32.ofNat m)) j = Int32.ofNat (if j = a then (some b, m, fun _ => 0) else sSh s j).2.1) ∧ (if j = a then (some b, m, fun _ => 0) else sSh s j).2.1 ≤ 50 ∧ (∀ x, (if j = a then (some b, m, fun _ => 0) else sSh s j).1 = some x → x < 3) ∧ ∀ i, i < 50 → c' (50 * j + i) = (if j = a then (some b, m, fun _ => (0 : Int32)) else sSh s j).2.2 i
          by_cases q : j = a
          · subst q
            rw [if_pos rfl]
            exact ⟨upd_at _ _ _, fun _ => upd_at _ _ _, m50, fun x z => (by cases z; exact hb), a2⟩
          · rw [if_neg q, upd_ne _ _ q, upd_ne _ _ q]
            obtain ⟨s1, s2, s3, s4, s5⟩ := S j hj
            exact ⟨s1, s2, s3, s4, fun i hi' => by rw [a3 _ (by omega)]; exact s5 i hi'⟩
    · have e1 : opSheet s (Int32.ofNat a) l n = (-2, stF s 0) := by unfold opSheet; rw [hn]; dsimp only; rw [hn2]
      rw [e1] at hK
      simp only [w140_0, w140_0n, w140_1, w140_2, w140_5, w140_6, w140_9, w140_12, w140_13, w140_14, w140_15, w140_18, w140_21, w140_22, w140_24, w140_27, w140_29, w140_30, w140_31, w140_34, w140_34n, w140_35, w140_36, w140_39, w140_40, w140_40n, w140_41, w140_44, w140_45, w140_46, w140_47, w140_47n, w140_48, w140_51, w140_52, w140_53, w140_54, w140_55, w140_57, w140_59, w140_61, w140_64, w140_64n, w140_65, w140_68, w140_70, w140_71, w140_72, w140_74, w140_75, w140_76, w140_77, w140_80, w140_83, w140_84, xk_n, xk_i, xk_r, xk_z, xk_l, xcs_0, xcs_i, xcs_r, xcs_z, xcs_l, Nat.reduceAdd, Nat.reduceLeDiff, Nat.reduceLT, true_and, and_true, Option.toList_some, Option.toList_none, List.nil_append, List.cons_append, List.getElem?_cons_zero, List.getElem?_cons_succ, List.set_cons_zero, List.set_cons_succ, List.length_cons, List.length_nil, y_bool0, y_bool1, not_true_eq_false, not_false_eq_true, false_implies, true_implies, true_or, or_true, false_or, or_false, if_true, if_false, ite_true, ite_false, wp_msh_t ha, wp_mso_f hc2, z10]
      exact hK h1 ⟨hi, p, rH, rW, A, hg, h5, H1, G, S, R⟩ F1
  · have e1 : opSheet s k l n = (-1, stF s 0) := by unfold opSheet; rw [hn]
    rw [e1] at hK
    simp only [w140_0, w140_0n, w140_1, w140_2, w140_5, w140_6, w140_9, w140_12, w140_13, w140_14, w140_15, w140_18, w140_21, w140_22, w140_24, w140_27, w140_29, w140_30, w140_31, w140_34, w140_34n, w140_35, w140_36, w140_39, w140_40, w140_40n, w140_41, w140_44, w140_45, w140_46, w140_47, w140_47n, w140_48, w140_51, w140_52, w140_53, w140_54, w140_55, w140_57, w140_59, w140_61, w140_64, w140_64n, w140_65, w140_68, w140_70, w140_71, w140_72, w140_74, w140_75, w140_76, w140_77, w140_80, w140_83, w140_84, xk_n, xk_i, xk_r, xk_z, xk_l, xcs_0, xcs_i, xcs_r, xcs_z, xcs_l, Nat.reduceAdd, Nat.reduceLeDiff, Nat.reduceLT, true_and, and_true, Option.toList_some, Option.toList_none, List.nil_append, List.cons_append, List.getElem?_cons_zero, List.getElem?_cons_succ, List.set_cons_zero, List.set_cons_succ, List.length_cons, List.length_nil, y_bool0, y_bool1, not_true_eq_false, not_false_eq_true, false_implies, true_implies, true_or, or_true, false_or, or_false, if_true, if_false, ite_true, ite_false, wp_msh_f hc]
    exact hK h1 ⟨hi, p, rH, rW, A, hg, h5, H1, G, S, R⟩ F1
end
