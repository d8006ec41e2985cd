/-! ===== how the numbered machine stands over the real one ===== -/
/-- classes and slots, array classes, where the new cells begin, the script's cell, the empty array's cell, the script, the heap at the law's entry -/
abbrev xWd : Type := va_G × (Nat → ClassId) × Nat × Nat × Nat × Nat × (Nat → Int32) × Heap
abbrev gD (G : xWd) : va_G := G.1
abbrev gA (G : xWd) : Nat → ClassId := G.2.1
abbrev gB (G : xWd) : Nat := G.2.2.1
abbrev gS (G : xWd) : Nat := G.2.2.2.1
abbrev gE (G : xWd) : Nat := G.2.2.2.2.1
abbrev gL (G : xWd) : Nat := G.2.2.2.2.2.1
abbrev gX (G : xWd) : Nat → Int32 := G.2.2.2.2.2.2.1
abbrev gH (G : xWd) : Heap := G.2.2.2.2.2.2.2
def xA (G : xWd) : Nat → Prop := fun q => gB G ≤ q
def xad (G : xWd) (k : Nat) : Nat := if k = 0 then gS G else if k = 1 then gE G else gB G + (k - 2)
def xcv (G : xWd) (v : Value) : Value := match v with
  | .ref k => .ref (xad G k)
  | v => v
def xcc (G : xWd) (e : xC) : va_E := match e with
  | .inl (t, n, .inl f) => .inl (gA G t, n, .inl f)
  | .inl (t, n, .inr (.inl f)) => .inl (gA G t, n, .inr (.inl f))
  | .inl (t, n, .inr (.inr (.inl f))) => .inl (gA G t, n, .inr (.inr (.inl f)))
  | .inl (t, n, .inr (.inr (.inr (.inl f)))) => .inl (gA G t, n, .inr (.inr (.inr (.inl f))))
  | .inl (t, n, .inr (.inr (.inr (.inr f)))) => .inl (gA G t, n, .inr (.inr (.inr (.inr (fun j => (f j).map (xad G))))))
  | .inr (ci, fs) => .inr (ci, fs.map (xcv G))
def xws (G : xWd) (h : xH) : va_W := (h.drop 2).mapIdx (fun i e => (xad G (i + 2), xcc G e))
abbrev xty (G : xWd) : List (ClassId × FieldType) := [(gA G 0, .int), (gA G 1, .boolean), (gA G 2, .object "java/lang/Object"), (gA G 3, .object "VineGarden$Sheet"), (gA G 4, .long)]
theorem xws_get {G : xWd} {h : xH} {a : Nat} {e : xC} (h2 : 2 ≤ a) (he : h[a]? = some e) : (xws G h)[a - 2]? = some (xad G a, xcc G e) := by
  unfold xws
  rw [List.getElem?_mapIdx, List.getElem?_drop, show 2 + (a - 2) = a by omega, he]
  simp only [Option.map_some]
  rw [show a - 2 + 2 = a by omega]
theorem xws_set {G : xWd} {h : xH} {a : Nat} {e : xC} (h2 : 2 ≤ a) : xws G (h.set a e) = (xws G h).set (a - 2) (xad G a, xcc G e) := by
  apply List.ext_getElem?
  intro k
  unfold xws
  rw [List.getElem?_mapIdx, List.getElem?_drop, List.getElem?_set, List.getElem?_set, List.length_mapIdx, List.length_drop, List.getElem?_mapIdx, List.getElem?_drop]
  by_cases hk : a = 2 + k
  · subst hk
    have e1 : 2 + k - 2 = k := by omega
    rw [if_pos rfl, if_pos e1]
    by_cases hl : 2 + k < h.length
    · rw [if_pos hl, if_pos (by omega)]
      simp only [Option.map_some]
      rw [show k + 2 = 2 + k by omega]
    · rw [if_neg hl, if_neg (by omega)]
      rfl
  · rw [if_neg hk, if_neg (by omega)]
theorem xws_push {G : xWd} {h : xH} {e : xC} (h2 : 2 ≤ h.length) : xws G (h ++ [e]) = xws G h ++ [(xad G h.length, xcc G e)] := by
  unfold xws
  rw [List.drop_append_of_le_length h2, List.mapIdx_append]
  simp only [List.mapIdx_cons, List.mapIdx_nil, List.length_drop, Nat.zero_add]
  rw [show h.length - 2 + 2 = h.length by omega]
theorem xws_len {G : xWd} {h : xH} : (xws G h).length = h.length - 2 := by
  unfold xws
  rw [List.length_mapIdx, List.length_drop]
theorem xws_at {G : xWd} {h : xH} {k : Nat} {q : Nat × va_E} (hk : (xws G h)[k]? = some q) : q.1 = gB G + k := by
  unfold xws at hk
  rw [List.getElem?_mapIdx] at hk
  cases he : (h.drop 2)[k]? with
  | none => rw [he] at hk; cases hk
  | some e =>
    rw [he] at hk
    cases hk
    show xad G (k + 2) = _
    unfold xad
    rw [if_neg (by omega), if_neg (by omega)]
    omega
theorem xws_D (G : xWd) (h : xH) : va_D (xA G) (xws G h) := by
  refine ⟨fun i j p q hi hj hpq => ?_, fun k q hk => ?_⟩
  · have e1 := xws_at hi
    have e2 := xws_at hj
    omega
  · show gB G ≤ q.1
    rw [xws_at hk]
    omega
theorem xad_2 {G : xWd} {k : Nat} (h : 2 ≤ k) : xad G k = gB G + (k - 2) := by
  unfold xad
  rw [if_neg (by omega), if_neg (by omega)]
/-- the heap list stands in the real heap -/
def xHP (G : xWd) (h : xH) (H : Heap) : Prop := 2 ≤ h.length ∧ va_P (gD G) vwCl (xws G h) H ∧ (∀ q : Nat, q < gB G → H[q]? = (gH G)[q]?) ∧ h[0]? = some (.inl (0, gL G, .inl (gX G))) ∧ h[1]? = some (.inl (2, 0, .inr (.inr (.inr (.inr (fun _ => none))))))
def xNW (s : State) : Prop := (∀ (o idx ci k w N : Nat) (C : String) (T : u_T), (o, idx, ci, k, 1, w) ∈ xF → vwCl[ci]? = some (C, T, N) → va_Nw (.fieldLinkNest (xownS o) idx (T k).1 (T k).2.1 (T k).2.2.1 "VineGarden") s) ∧ (∀ (o idx j np w : Nat), (o, idx, 3, j, np, w) ∈ xC0 → va_Nw (.methodLinkNest (xownS o) idx (xMY j) "VineGarden") s) ∧ (∀ q ∈ vwCl, va_Nw (.castable q.1 "java/lang/Object") s)
def xKK (G : xWd) (s : State) : Prop := va_K (gD G) vwCl (xty G) s ∧ xNW s ∧ va_AO "java/lang/Object" s ∧ va_AO "VineGarden$Sheet" s ∧ va_Z "java/util/ArrayList" "DEFAULTCAPACITY_EMPTY_ELEMENTDATA" "[Ljava/lang/Object;" (.ref (gE G)) (xA G) s (gH G) ∧ va_T (.object "java/lang/Object") (gE G) 0 (fun _ => .null) (xA G) s (gH G) ∧ va_X (gS G) (gL G) (gX G) s (gH G)
def xGk (G : xWd) : Prop := (gH G).size = gB G ∧ gS G < gB G ∧ gE G < gB G ∧ gS G ≠ gE G
theorem xKK.warm {G : xWd} {s U : State} (hW : s.WarmedH U.vm) (h : xKK G s) : xKK G U := by
  obtain ⟨h1, ⟨n1, n2, n3⟩, h3, h4, h5, h6, h7⟩ := h
  refine ⟨va_K.moved hW.alike h1, ⟨fun o idx ci k w N C T a b => va_Nw.warmF hW (n1 o idx ci k w N C T a b), fun o idx j np w a => va_Nw.warmM hW (n2 o idx j np w a), fun q a => va_Nw.warmC hW (n3 q a)⟩, va_AO.moved hW.alike h3, va_AO.moved hW.alike h4, va_Z.moved hW.alike h5, va_T.moved hW.alike h6, ?_⟩
  obtain ⟨scr, a1, a2, a3⟩ := h7
  exact ⟨scr, a1, State.isArrayOf_alike hW.alike a2, a3⟩
theorem xKK.same {G : xWd} {u U : State} (hvm : u.vm = U.vm) (h : xKK G u) : xKK G U := by
  obtain ⟨h1, ⟨n1, n2, n3⟩, h3, h4, h5, h6, h7⟩ := h
  have hal : u.vm.Alike U.vm := by rw [hvm]; exact Vm.Alike.refl _
  refine ⟨va_K.moved hal h1, ⟨fun o idx ci k w N C T a b => (n1 o idx ci k w N C T a b).same rfl hvm, fun o idx j np w a => (n2 o idx j np w a).same rfl hvm, fun q a => (n3 q a).same rfl hvm⟩, va_AO.moved hal h3, va_AO.moved hal h4, va_Z.moved hal h5, va_T.moved hal h6, ?_⟩
  obtain ⟨scr, a1, a2, a3⟩ := h7
  exact ⟨scr, a1, State.isArrayOf_alike hal a2, a3⟩
/-! locals -/
def xal (G : xWd) (ls : xL) : List (Nat × Value) := (List.range ls.length).filterMap (fun k => (xld ls k).map (fun v => (k, xcv G v)))
theorem xld_lt {ls : xL} {k : Nat} {v : Value} (h : xld ls k = some v) : k < ls.length := by
  unfold xld at h
  cases hk : ls[k]? with
  | none => rw [hk] at h; cases h
  | some x => exact (List.getElem?_eq_some_iff.mp hk).1
theorem xal_mem {G : xWd} {ls : xL} {k : Nat} {w : Value} : (k, w) ∈ xal G ls ↔ ∃ v, xld ls k = some v ∧ w = xcv G v := by
  unfold xal
  rw [List.mem_filterMap]
  constructor
  · rintro ⟨j, -, hj⟩
    cases hv : xld ls j with
    | none => rw [hv] at hj; cases hj
    | some v =>
      rw [hv] at hj
      cases hj
      exact ⟨v, hv, rfl⟩
  · rintro ⟨v, hv, rfl⟩
    exact ⟨k, List.mem_range.mpr (xld_lt hv), by rw [hv]; rfl⟩
def xLH (G : xWd) (arr : Array Slot) (n : Nat) (ls : xL) : Prop := ls.length = n ∧ lv_has arr n (xal G ls)
theorem xLH.at {G : xWd} {arr : Array Slot} {n : Nat} {ls : xL} (h : xLH G arr n ls) {k : Nat} {v : Value} (hv : xld ls k = some v) : arr[k]? = some (.val (xcv G v)) := h.2.2.2 (k, xcv G v) (xal_mem.mpr ⟨v, hv, rfl⟩)
theorem lv_has_mono {arr : Array Slot} {n : Nat} {l l' : List (Nat × Value)} (h : lv_has arr n l) (hs : ∀ q ∈ l', q ∈ l) : lv_has arr n l' := ⟨h.1, h.2.1, fun q hq => h.2.2 q (hs q hq)⟩
theorem xcv_cat {G : xWd} (v : Value) : (xcv G v).category = v.category := by cases v <;> rfl
theorem xld_set {ls : xL} {k j : Nat} {x : Option Value} : xld (ls.set k x) j = if k = j then (if k < ls.length then x else none) else xld ls j := by
  unfold xld
  rw [List.getElem?_set]
  by_cases hk : k = j
  · rw [if_pos hk, if_pos hk]
    by_cases hl : k < ls.length
    · rw [if_pos hl, if_pos hl]; rfl
    · rw [if_neg hl, if_neg hl]; rfl
  · rw [if_neg hk, if_neg hk]
theorem xclr_len (ls : xL) (k : Nat) : (xclr ls k).length = ls.length := by
  unfold xclr
  split
  · split
    · exact List.length_set
    · rfl
  · rfl
theorem xst1_len (ls : xL) (k : Nat) (v : Value) : (xst1 ls k v).length = ls.length := by
  unfold xst1
  rw [List.length_set, xclr_len]
theorem xst2_len (ls : xL) (k : Nat) (v : Value) : (xst2 ls k v).length = ls.length := by
  unfold xst2
  rw [List.length_set, List.length_set, xclr_len]
/-- what is read behind a clearing was there before, and is no long just below -/
theorem xclr_ld {ls : xL} {k j : Nat} {v : Value} (h : xld (xclr ls k) j = some v) : xld ls j = some v ∧ ¬ (j + 1 = k ∧ v.category = 2) := by
  unfold xclr at h
  split at h
  · rename_i w hw
    split at h
    · rename_i hc
      rw [xld_set] at h
      by_cases hj : k - 1 = j
      · rw [if_pos hj] at h
        split at h <;> cases h
      · rw [if_neg hj] at h
        exact ⟨h, fun q => hj (by omega)⟩
    · rename_i hc
      refine ⟨h, fun q => hc ?_⟩
      have e : k - 1 = j := by omega
      rw [e] at hw
      unfold xld at h
      rw [hw] at h
      cases h
      exact ⟨by omega, q.2⟩
  · rename_i hw
    refine ⟨h, fun q => ?_⟩
    have e : k - 1 = j := by omega
    rw [e] at hw
    unfold xld at h
    cases hx : ls[j]? with
    | none => rw [hx] at h; cases h
    | some x =>
      rw [hx] at h
      cases x with
      | none => cases h
      | some y => exact hw y hx
theorem xLH.st1 {G : xWd} {arr : Array Slot} {n k : Nat} {ls : xL} {v w : Value} (hl : ls.length = n) (h : lv_has arr n ((k, w) :: (xal G ls).filter (fun q => !(q.1 == k) && !(q.1 + 1 == k && q.2.category == 2)))) (hw : w = xcv G v) : xLH G arr n (xst1 ls k v) := by
  subst hw
  refine ⟨by rw [xst1_len, hl], lv_has_mono h ?_⟩
  rintro ⟨j, u⟩ hq
  obtain ⟨x, hx, rfl⟩ := xal_mem.mp hq
  unfold xst1 at hx
  rw [xld_set, xclr_len] at hx
  by_cases hj : k = j
  · rw [if_pos hj] at hx
    subst hj
    split at hx
    · cases hx
      exact List.mem_cons_self
    · cases hx
  · rw [if_neg hj] at hx
    obtain ⟨h1, h2⟩ := xclr_ld hx
    refine List.mem_cons_of_mem _ (List.mem_filter.mpr ⟨xal_mem.mpr ⟨x, h1, rfl⟩, ?_⟩)
    rw [xcv_cat]
    have a1 : (j == k) = false := by simpa using fun q => hj q.symm
    simp only [a1, Bool.not_false, Bool.true_and, Bool.not_eq_true', Bool.and_eq_false_iff, beq_eq_false_iff_ne, ne_eq]
    by_cases hh : j + 1 = k
    · exact Or.inr fun q => h2 ⟨hh, q⟩
    · exact Or.inl hh
theorem xLH.st2 {G : xWd} {arr : Array Slot} {n k : Nat} {ls : xL} {v w : Value} (hl : ls.length = n) (h : lv_has arr n ((k, w) :: (xal G ls).filter (fun q => !(q.1 == k) && (!(q.1 == k + 1) && !(q.1 + 1 == k && q.2.category == 2))))) (hw : w = xcv G v) : xLH G arr n (xst2 ls k v) := by
  subst hw
  refine ⟨by rw [xst2_len, hl], lv_has_mono h ?_⟩
  rintro ⟨j, u⟩ hq
  obtain ⟨x, hx, rfl⟩ := xal_mem.mp hq
  unfold xst2 at hx
  rw [xld_set, List.length_set, xclr_len] at hx
  by_cases hj : k = j
  · rw [if_pos hj] at hx
    subst hj
    split at hx
    · cases hx
      exact List.mem_cons_self
    · cases hx
  · rw [if_neg hj, xld_set, xclr_len] at hx
    by_cases hj1 : k + 1 = j
    · rw [if_pos hj1] at hx
      split at hx <;> cases hx
    · rw [if_neg hj1] at hx
      obtain ⟨h1, h2⟩ := xclr_ld hx
      refine List.mem_cons_of_mem _ (List.mem_filter.mpr ⟨xal_mem.mpr ⟨x, h1, rfl⟩, ?_⟩)
      rw [xcv_cat]
      have a1 : (j == k) = false := by simpa using fun q => hj q.symm
      have a2 : (j == k + 1) = false := by simpa using fun q => hj1 q.symm
      simp only [a1, a2, Bool.not_false, Bool.true_and, Bool.not_eq_true', Bool.and_eq_false_iff, beq_eq_false_iff_ne, ne_eq]
      by_cases hh : j + 1 = k
      · exact Or.inr fun q => h2 ⟨hh, q⟩
      · exact Or.inl hh
/-! sizes -/
theorem xsl_push (h : xH) (e : xC) : xsl (h ++ [e]) = xsl h + xsz e := by
  unfold xsl
  simp
theorem xsl_set {h : xH} {a : Nat} {e e0 : xC} (h0 : h[a]? = some e0) (hz : xsz e = xsz e0) : xsl (h.set a e) = xsl h := by
  unfold xsl
  have key : (h.set a e).map xsz = h.map xsz := by
    apply List.ext_getElem?
    intro k
    rw [List.getElem?_map, List.getElem?_map, List.getElem?_set]
    by_cases hk : a = k
    · subst hk
      rw [if_pos rfl]
      have hl := (List.getElem?_eq_some_iff.mp h0).1
      rw [if_pos hl, h0]
      show some (xsz e) = some (xsz e0)
      rw [hz]
    · rw [if_neg hk]
  rw [key]
