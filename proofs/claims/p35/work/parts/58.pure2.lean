/-! ===== days and moves ===== -/
def dmap (fr : Nat → Bool) (x : Vs) : Vs := (vt x, vh x, vd x, vl x, vc x, dayM fr (vo x), dayM fr (vx x))
theorem allL_dm (fr : Nat → Bool) (G : Nat → Vs) : ∀ k, allL (fun v => dmap fr (G v)) k = allL G k
  | 0 => rfl
  | k + 1 => by
    show allL (fun v => dmap fr (G v)) k ||| vl (dmap fr (G k)) = allL G k ||| vl (G k)
    rw [allL_dm fr G k]; rfl
theorem stepV_dm {E : Gd} {fr : Nat → Bool} {L m k v : Nat} {x : Vs} (h : dayM fr (some m) = some k) : stepV E L k v (dmap fr x) = dmap fr (stepV E L m v x) := by
  have e1 : vt (dmap fr x) = vt x := rfl
  have e2 : vh (dmap fr x) = vh x := rfl
  have e3 : vc (dmap fr x) = vc x := rfl
  have e4 : vd (dmap fr x) = vd x := rfl
  have e5 : vl (dmap fr x) = vl x := rfl
  unfold stepV
  rw [e1, e2, e3, e4, e5]
  cases wayOf E L (gk E v) (vt x) (vh x) with
  | some dd =>
    dsimp only
    cases bes (gw E) (gn E) (vt x) dd with
    | none => rfl
    | some c =>
      dsimp only
      by_cases q : gs E c = 3
      · rw [if_pos q, if_pos q]
        show _ = (c, dd, vd x, vl x ||| 2 ^ c, vc x ||| dd * 4 ^ c, dayM fr (some m), dayM fr none)
        rw [h]; rfl
      · rw [if_neg q, if_neg q]; rfl
  | none =>
    dsimp only
    by_cases q : vt x = gp E v
    · rw [if_pos q, if_pos q]
      show _ = (vt x, vh x, vd x, vl x, vc x, dayM fr none, dayM fr (some m))
      rw [h]; rfl
    · rw [if_neg q, if_neg q]
      cases bes (gw E) (gn E) (vt x) ((vc x / 4 ^ vt x + 2) % 4) with
      | none => rfl
      | some c => rfl
/-- what is stamped is a day -/
def gdD (fr : Nat → Bool) (G : Nat → Vs) : Prop := ∀ v, (∀ x, vo (G v) = some x → ∃ d, dayM fr (some x) = some d) ∧ ∀ x, vx (G v) = some x → ∃ d, dayM fr (some x) = some d
theorem stepV_st {E : Gd} {L m v : Nat} {x : Vs} : (∀ y, vo (stepV E L m v x) = some y → y = m ∨ vo x = some y) ∧ ∀ y, vx (stepV E L m v x) = some y → y = m ∨ vx x = some y := by
  unfold stepV
  cases wayOf E L (gk E v) (vt x) (vh x) with
  | some dd =>
    dsimp only
    cases bes (gw E) (gn E) (vt x) dd with
    | none => exact ⟨fun y h => Or.inr h, fun y h => Or.inr h⟩
    | some c =>
      refine ⟨fun y h => ?_, fun y h => by cases h⟩
      replace h : (if gs E c = 3 then some m else none) = some y := h
      split at h
      · cases h; exact Or.inl rfl
      · cases h
  | none =>
    dsimp only
    split
    · exact ⟨fun y h => (by cases h), fun y h => (by cases h; exact Or.inl rfl)⟩
    · cases bes (gw E) (gn E) (vt x) ((vc x / 4 ^ vt x + 2) % 4) with
      | none => exact ⟨fun y h => Or.inr h, fun y h => Or.inr h⟩
      | some c => exact ⟨fun y h => (by cases h), fun y h => (by cases h)⟩
theorem dm_some {fr : Nat → Bool} {o : Option Nat} (h : ∀ x, o = some x → ∃ d, dayM fr (some x) = some d) : (dayM fr o).isSome = o.isSome := by
  cases o with
  | none => rfl
  | some x =>
    obtain ⟨d, hd⟩ := h x rfl
    rw [hd]; rfl
theorem growV_dm {E : Gd} {fr : Nat → Bool} {m k v : Nat} {G : Nat → Vs} (h : dayM fr (some m) = some k) (hg : gdD fr G) : growV E k (fun v => dmap fr (G v)) v = (fun u => dmap fr (growV E m G v u)) ∧ gdD fr (growV E m G v) := by
  have c1 : ((vo (dmap fr (G v))).isSome || (vx (dmap fr (G v))).isSome) = ((vo (G v)).isSome || (vx (G v)).isSome) := by
    show ((dayM fr (vo (G v))).isSome || (dayM fr (vx (G v))).isSome) = _
    rw [dm_some (hg v).1, dm_some (hg v).2]
  by_cases q : ((vo (G v)).isSome || (vx (G v)).isSome) = true
  · have e1 : growV E m G v = G := if_pos q
    have e2 : growV E k (fun v => dmap fr (G v)) v = fun v => dmap fr (G v) := if_pos (by rw [c1]; exact q)
    rw [e1, e2]
    exact ⟨rfl, hg⟩
  · have e1 : growV E m G v = upG G v (stepV E (allL G (gv E)) m v (G v)) := if_neg q
    have e2 : growV E k (fun v => dmap fr (G v)) v = upG (fun v => dmap fr (G v)) v (stepV E (allL (fun v => dmap fr (G v)) (gv E)) k v (dmap fr (G v))) := if_neg (by rw [c1]; exact q)
    rw [e1, e2, allL_dm, stepV_dm h]
    refine ⟨?_, fun u => ?_⟩
    · funext u
      by_cases z : u = v
      · rw [z, upG_at, upG_at]
      · rw [upG_ne _ _ z, upG_ne _ _ z]
    · by_cases z : u = v
      · rw [z, upG_at]
        refine ⟨fun x hx => ?_, fun x hx => ?_⟩
        · rcases stepV_st.1 x hx with rfl | hx
          · exact ⟨k, h⟩
          · exact (hg v).1 x hx
        · rcases stepV_st.2 x hx with rfl | hx
          · exact ⟨k, h⟩
          · exact (hg v).2 x hx
      · rw [upG_ne _ _ z]; exact hg u
theorem growN_dm {E : Gd} {fr : Nat → Bool} {m k : Nat} {G : Nat → Vs} (h : dayM fr (some m) = some k) (hg : gdD fr G) : ∀ j, growN E k (fun v => dmap fr (G v)) j = (fun u => dmap fr (growN E m G j u)) ∧ gdD fr (growN E m G j)
  | 0 => ⟨rfl, hg⟩
  | j + 1 => by
    obtain ⟨i1, i2⟩ := growN_dm (E := E) h hg j
    have := growV_dm (E := E) (v := j) h i2
    refine ⟨?_, this.2⟩
    show growV E k (growN E k (fun v => dmap fr (G v)) j) j = _
    rw [i1, this.1]; rfl
theorem runD_M {E : Gd} {fr : Nat → Bool} : ∀ k, k ≤ 80 → runD E fr k = (fun v => dmap fr (runM E (mild fr k) v)) ∧ gdD fr (runM E (mild fr k))
  | 0, _ => ⟨rfl, fun v => ⟨fun x h => (by cases h), fun x h => (by cases h)⟩⟩
  | k + 1, hk => by
    obtain ⟨i1, i2⟩ := runD_M (E := E) (fr := fr) k (by omega)
    have es : runD E fr (k + 1) = if fr k then runD E fr k else grow1 E k (runD E fr k) := rfl
    cases hf : fr k
    · rw [hf, if_neg (by simp)] at es
      rw [mild_f hf, es, i1]
      exact growN_dm (E := E) (dayOf_some hf rfl 80 (by omega)) i2 (gv E)
    · rw [hf, if_pos rfl] at es
      rw [mild_t hf, es]
      exact ⟨i1, i2⟩
theorem runM_back {E : Gd} {v m j : Nat} : ∀ k, j ≤ k → vo (runM E k v) = some m → m < j → vo (runM E j v) = some m
  | 0, hj, h, hm => by
    have : j = 0 := by omega
    omega
  | k + 1, hj, h, hm => by
    by_cases q : j = k + 1
    · rw [q]; exact h
    · rcases growN_vo h with h | h
      · exact runM_back k (by omega) h hm
      · omega
theorem runM_fwd {E : Gd} {v m j k : Nat} (hj : j ≤ k) (h : vo (runM E j v) = some m) : vo (runM E k v) = some m := by
  have := runM_done (E := E) (v := v) (m := j) (by rw [h]; rfl) (k - j)
  rw [show j + (k - j) = k by omega] at this
  rw [this]; exact h
/-- out on one of the first k moves -/
theorem runM_lt {E : Gd} {v k : Nat} (hk : k ≤ 80) : vo (runM E k v) = (match vo (runM E 80 v) with
    | some m => if m < k then some m else none
    | none => none) := by
  cases q : vo (runM E 80 v) with
  | none =>
    cases q2 : vo (runM E k v) with
    | none => rfl
    | some m => rw [runM_fwd hk q2] at q; cases q
  | some m =>
    dsimp only
    by_cases c : m < k
    · rw [if_pos c]; exact runM_back 80 hk q c
    · rw [if_neg c]
      cases q2 : vo (runM E k v) with
      | none => rfl
      | some m' =>
        have h1 := runM_vo q2
        rw [runM_fwd hk q2] at q
        cases q; omega
theorem outD_80 (E : Gd) (fr : Nat → Bool) (v : Nat) : vo (runD E fr 80 v) = outD E fr v := by
  rw [(runD_M (E := E) (fr := fr) 80 (by omega)).1]
  show dayM fr (vo (runM E (mild fr 80) v)) = dayM fr (vo (runM E 80 v))
  have hk := mild_k fr 80
  rw [runM_lt (k := mild fr 80) hk]
  cases q : vo (runM E 80 v) with
  | none => rfl
  | some m =>
    dsimp only
    by_cases c : m < mild fr 80
    · rw [if_pos c]
    · rw [if_neg c]
      show none = dayOf fr m 80
      exact (dayOf_none (m := m) 80 (Nat.not_lt.mp c)).symm
/-- the day of a move -/
theorem day_ex {fr : Nat → Bool} {m : Nat} : ∀ k, m < mild fr k → ∃ d, d < k ∧ fr d = false ∧ mild fr d = m
  | 0, h => by cases h
  | k + 1, h => by
    cases hf : fr k
    · rw [mild_f hf] at h
      by_cases q : m = mild fr k
      · exact ⟨k, by omega, hf, q.symm⟩
      · obtain ⟨d, h1, h2, h3⟩ := day_ex (fr := fr) (m := m) k (by omega)
        exact ⟨d, by omega, h2, h3⟩
    · rw [mild_t hf] at h
      obtain ⟨d, h1, h2, h3⟩ := day_ex k h
      exact ⟨d, by omega, h2, h3⟩
theorem earO_dm {fr : Nat → Bool} {a b : Option Nat} (ha : ∀ x, a = some x → x < mild fr 80) (hb : ∀ x, b = some x → x < mild fr 80) : earO (dayM fr a) (dayM fr b) = earO a b := by
  cases a with
  | none => rfl
  | some m1 =>
    obtain ⟨d1, h1, h2, h3⟩ := day_ex 80 (ha m1 rfl)
    have e1 : dayM fr (some m1) = some d1 := dayOf_some h2 h3 80 h1
    rw [e1]
    cases b with
    | none => rfl
    | some m2 =>
      obtain ⟨d2, k1, k2, k3⟩ := day_ex 80 (hb m2 rfl)
      have e2 : dayM fr (some m2) = some d2 := dayOf_some k2 k3 80 k1
      rw [e2]
      show decide (d1 < d2) = decide (m1 < m2)
      by_cases q : d1 < d2
      · have := mild_le fr (show d1 + 1 ≤ d2 by omega)
        rw [mild_f h2] at this
        rw [decide_eq_true q, decide_eq_true (by omega)]
      · by_cases q2 : d1 = d2
        · subst q2
          rw [decide_eq_false q, decide_eq_false (by omega)]
        · have := mild_le fr (show d2 + 1 ≤ d1 by omega)
          rw [mild_f k2] at this
          rw [decide_eq_false q, decide_eq_false (by omega)]
theorem fiF_dm {fr : Nat → Bool} {o : Nat → Option Nat} (ho : ∀ v x, o v = some x → x < mild fr 80) : ∀ n, fiF (fun v => dayM fr (o v)) n = ((fiF o n).1, dayM fr (fiF o n).2) ∧ ∀ x, (fiF o n).2 = some x → x < mild fr 80
  | 0 => ⟨rfl, fun x h => by cases h⟩
  | n + 1 => by
    obtain ⟨i1, i2⟩ := fiF_dm ho n
    rw [fiF_s, fiF_s, i1]
    have := earO_dm (a := o n) (b := (fiF o n).2) (ho n) i2
    rw [this]
    by_cases q : earO (o n) (fiF o n).2 = true
    · rw [if_pos q, if_pos q]; exact ⟨rfl, ho n⟩
    · rw [if_neg q, if_neg q]; exact ⟨rfl, i2⟩
