/-! ===== calls and ends ===== -/
theorem xG_good {w : Cond} (h : w ∈ xG) : (w.onTables && w.keeps) = true ∨ ∃ ty, w = .arrayClass ty := good_of_word (List.mem_filter.mp h).2
def xws0 (j : Nat) : List Cond := Cond.code (xMY j) (xMB j) (xML j) (xMR j) :: xG
def xrm (h h1 : xH) (d : Nat) : Room := { frames := d + 1, cells := h1.length - h.length, slots := xsl h1 - xsl h, locals := 38 * (d + 1) }
def xPc (G : xWd) (as : List Value) (h : xH) : Array Value → State → Prop := fun v U => v = (as.map (xcv G)).toArray ∧ xHP G h U.heap ∧ xKK G U ∧ gB G ≤ U.heap.size ∧ U.heap.size ≤ gB G + (h.length - 2)
def xQc (G : xWd) (r : Option Value) (h1 : xH) : Array Value → State → Outcome → State → Prop := fun _ _ o t => o = .returned (r.map (xcv G)) ∧ xHP G h1 t.heap
def xMet (G : xWd) (l : Launch) (d j : Nat) (as : List Value) (h : xH) (r : Option Value) (h1 : xH) : Prop := Met l (xMY j) (xws0 j) (xrm h h1 d) (xPc G as h) (xQc G r h1) (h1.length - h.length) (xsl h1 - xsl h) (xA G)
theorem xPc_blind (G : xWd) (as : List Value) (h : xH) : FrameBlind (xPc G as h) := fun a U g mk q => ⟨q.1, q.2.1, xKK.same (u := U) (U := U.calling g mk a) rfl q.2.2.1, q.2.2.2⟩
/-- the table's facts of a method -/
theorem xM_at {j : Nat} (hj : j < xLaw) : xOwn[xMO j]? = some (xMY j).cls ∧ (xMY j).cls ≠ "java/lang/invoke/MethodHandle" ∧ (xMY j).cls ≠ "java/lang/invoke/VarHandle" ∧ Cond.initialized (xMY j).cls ∈ xG ∧ xML j ≤ 19 ∧ Cond.code (xMY j) (xMB j) (xML j) (xMR j) ∈ xG ∧ ∃ y c ml rt np o w, xM[j]? = some (y, c, ml, rt, np, o) ∧ xMw[j]? = some w ∧ (parseMethodDescriptor (xMY j).desc).map (fun d => d.parameters.length) = some np := by
  have h1 := List.all_eq_true.mp xM_ok j (List.mem_range.mpr hj)
  unfold xMok at h1
  split at h1
  · rename_i y c ml rt np o w wi ws wn e1 e2
    have eY : xMY j = y := by unfold xMY; rw [e1]
    have eB : xMB j = c := by unfold xMB; rw [e1]
    have eL : xML j = ml := by unfold xML; rw [e1]
    have eR : xMR j = rt := by unfold xMR; rw [e1]
    have eO : xMO j = o := by unfold xMO; rw [e1]
    simp only [Bool.and_eq_true, decide_eq_true_eq] at h1
    obtain ⟨⟨⟨⟨⟨a1, a2⟩, a3⟩, a4⟩, a5⟩, a6⟩ := h1
    have hcode : lw_tbl[w]? = some (Cond.code y c ml rt) := by
      have q := congrArg (fun l => l[j]?) xMc_ok
      simp only [List.getElem?_map, List.getElem?_take, hj, if_true, e1, e2, Option.map_some] at q
      exact Option.some.inj q
    rw [eY, eB, eL, eR, eO]
    exact ⟨a1, a2, a3, xok_in a5, a6, List.mem_filter.mpr ⟨List.mem_of_getElem? hcode, rfl⟩, y, c, ml, rt, np, o, _, e1, e2, a4⟩
  · cases h1
theorem xws0_good {j : Nat} (hj : j < xLaw) : GoodIn xG (xws0 j) := by
  intro w hw
  rcases List.mem_cons.mp hw with rfl | h
  · exact ⟨(xM_at hj).2.2.2.2.2.1, Or.inl rfl⟩
  · exact ⟨h, xG_good h⟩
theorem xcal_w {o idx kd j np : Nat} (h : xcal o idx = some (kd, j, np)) : ∃ w, (o, idx, kd, j, np, w) ∈ xC0 := by
  unfold xcal at h
  cases hq : xC0.find? (fun q => q.1 == o && q.2.1 == idx) with
  | none => rw [hq] at h; cases h
  | some q =>
    rw [hq] at h
    obtain ⟨h1, h2⟩ := xfind_mem hq
    obtain ⟨q1, q2, q3, q4, q5, q6⟩ := q
    simp only [Bool.and_eq_true, beq_iff_eq] at h2
    obtain ⟨rfl, rfl⟩ := h2
    cases h
    exact ⟨q6, h1⟩
/-- what the call table says, by kinds -/
theorem xC_at {o idx kd j np w : Nat} (h : (o, idx, kd, j, np, w) ∈ xC0) (hk : kd < 4) : j < xLaw ∧ plainName (xMY j).cls = true ∧ (parseMethodDescriptor (xMY j).desc).map (fun d => d.parameters.length) = some np ∧ ((kd = 0 ∧ Cond.methodLink (xownS o) idx (xMY j) ∈ xG ∧ Cond.instanceMethod (xMY j) ∈ xG ∧ Cond.selects (xMY j).cls (xMY j) (xMY j) ∈ xG) ∨ (kd = 1 ∧ Cond.methodLink (xownS o) idx (xMY j) ∈ xG ∧ Cond.instanceMethod (xMY j) ∈ xG ∧ (xMY j).name = "<init>" ∧ xMR j = none) ∨ (kd = 2 ∧ Cond.methodLink (xownS o) idx (xMY j) ∈ xG ∧ Cond.static (xMY j) ∈ xG) ∨ (kd = 3 ∧ Cond.instanceMethod (xMY j) ∈ xG ∧ (xMY j).name = "<init>" ∧ xMR j = none)) := by
  have hok := List.all_eq_true.mp xC_ok _ h
  unfold xCok at hok
  dsimp only at hok
  split at hok
  · omega
  · omega
  · omega
  · omega
  · split at hok
    · rename_i y c ml rt np' o' w0 wi ws wn e1 e2
      simp only [Bool.and_eq_true, decide_eq_true_eq] at hok
      obtain ⟨⟨⟨rfl, hj⟩, hpl⟩, hok⟩ := hok
      have eY : xMY j = y := by unfold xMY; rw [e1]
      have eR : xMR j = rt := by unfold xMR; rw [e1]
      obtain ⟨-, -, -, -, -, -, y', c', ml', rt', np', o2, w', f1, f2, f3⟩ := xM_at hj
      cases e1.symm.trans f1
      refine ⟨hj, by rw [eY]; exact hpl, f3, ?_⟩
      rw [eY, eR]
      split at hok
      · simp only [Bool.and_eq_true] at hok
        exact Or.inl ⟨rfl, xok_in hok.1.1, xok_in hok.1.2, xok_in hok.2⟩
      · simp only [Bool.and_eq_true, decide_eq_true_eq] at hok
        exact Or.inr (Or.inl ⟨rfl, xok_in hok.1.1.1, xok_in hok.1.1.2, hok.1.2, hok.2⟩)
      · simp only [Bool.and_eq_true] at hok
        exact Or.inr (Or.inr (Or.inl ⟨rfl, xok_in hok.1, xok_in hok.2⟩))
      · simp only [Bool.and_eq_true, decide_eq_true_eq] at hok
        exact Or.inr (Or.inr (Or.inr ⟨rfl, xok_in hok.1.1.2, hok.1.2, hok.2⟩))
      · cases hok
    · cases hok
theorem xown9 : (List.range 9).all (fun ci => match vwCl[ci]? with
  | some (C, _, _) => decide (C = xownS ci)
  | none => false) = true := by decide +kernel
section SNC
variable {G : xWd} {p : Program} {l : Launch} {e : Env} {R : Room} {s : State} {m : MethodId} {args : Array Value} {below : List Frame} {meth : Method} {c : Code} {i d n0 s0 hf sf : Nat} {Q : State → Prop} {pc : Nat} {ls : xL} {h : xH} {st : List Value}
def xCW (G : xWd) (l : Launch) (d j : Nat) (as : List Value) (h : xH) (k : Option Value → xH → Prop) : Prop := ∃ d', d = d' + 1 ∧ j < xLaw ∧ ∃ r h1, (plainName (xMY j).cls = true → xMet G l d' j as h r h1) ∧ xle h h1 ∧ k r h1
/-- behind a call -/
theorem xs_after {H : Heap} {locs : List Loc} {arr : Array Slot} {st0 : List Value} {st' : List Value} {r : Option Value} {h1 : xH} {av : Array Value} (hle : xle h h1) (hn : n0 ≤ h.length) (hs : s0 ≤ xsl h) (hl : ∀ q ∈ locs, gB G ≤ q.base) (hL : xLH G arr (xML i) ls)
    (hr : va_Run p l e R s m args below meth c H locs (h.length - n0) (xsl h - s0) (h1.length - h.length) (xsl h1 - xsl h) (F0 m pc arr st0) (st'.map (xcv G)) (xQc G r h1 av) (xA G)) (k : xKW G p l e R s m args below meth c i n0 s0 hf sf Q (pc + 3) ls (r.toList ++ st') h1) : W p l e R s m args below meth c H locs (h.length - n0) (xsl h - s0) Q (F0 m pc arr st0) := by
  intro T hT XS
  obtain ⟨v, st₀, t, T', L, -, X', hL', e1, -, ⟨hv, hP1⟩, go⟩ := hr T hT XS
  cases hv
  have hle1 := hle.1
  have hle2 := hle.2
  rw [show h.length - n0 + (h1.length - h.length) = h1.length - n0 by omega, show xsl h - s0 + (xsl h1 - xsl h) = xsl h1 - s0 by omega] at X'
  obtain ⟨t2, a1, b1⟩ := k.2.2 T'.heap (locs ++ L) arr (by omega) (by omega) (by rw [e1]; exact hP1) (fun q hq => by
    rcases List.mem_append.mp hq with z | z
    · exact hl q z
    · exact hL' q z) hL T' rfl X'
  refine ⟨t2, go t2 ?_, b1⟩
  have e2 : (r.toList ++ st').map (xcv G) = (r.map (xcv G)).toList ++ st'.map (xcv G) := by
    rw [List.map_append]
    cases r <;> rfl
  rw [e2] at a1
  exact a1
theorem xcat_sum (G : xWd) (st : List Value) : ((st.map (xcv G)).map fun v => v.category).sum = (st.map fun v => v.category).sum := by
  rw [List.map_map]
  congr 1
  exact List.map_congr_left (fun v _ => xcv_cat v)
theorem xstk_eq (G : xWd) (st : List Value) (np : Nat) : st.map (xcv G) = (((st.take np).reverse).map (xcv G)).reverse ++ (st.drop np).map (xcv G) := by
  rw [List.map_reverse, List.reverse_reverse, ← List.map_append, List.take_append_drop]
theorem xs_cal {kd j np idx w : Nat} (X : xCx G p R s m args meth c i d n0 s0 hf sf) (hd : (kd = 0 ∧ decode (xMB i) pc = .ok (.invokevirtual idx, 3)) ∨ ((kd = 1 ∨ kd = 3 ∨ kd = 4) ∧ decode (xMB i) pc = .ok (.invokespecial idx, 3)) ∨ ((kd = 2 ∨ kd = 5 ∨ kd = 6 ∨ kd = 7) ∧ decode (xMB i) pc = .ok (.invokestatic idx, 3))) (hw : (xMO i, idx, kd, j, np, w) ∈ xC0) (kk : i_cal (xKW G p l e R s m args below meth c i n0 s0 hf sf Q) (xCW G l d) pc ls h kd j np st) : xKW G p l e R s m args below meth c i n0 s0 hf sf Q pc ls st h := by
  obtain ⟨hx, hb, hml, hown, hts⟩ := X.1
  have hKK : xKK G s := X.2.2.2.1
  obtain ⟨-, -, -, -, hG, hfr, hlo, hrc, hrs, hn2, hsz, hbs, hsame⟩ := id X
  -- calls of methods
  have call : ∀ {as rest : List Value}, kd < 4 → plainName (xMY j).cls = true → (rest.map fun v => v.category).sum ≤ 8 → xCW G l d j as h (fun v h1 => xKW G p l e R s m args below meth c i n0 s0 hf sf Q (pc + 3) ls (v.toList ++ rest) h1) → (∀ (d' : Nat) (r : Option Value) (h1 : xH) (H : Heap) (locs : List Loc) (arr : Array Slot), d = d' + 1 → j < xLaw → (h.length ≤ h1.length ∧ xsl h ≤ xsl h1) → h1.length ≤ hf → xsl h1 ≤ sf → n0 ≤ h.length → s0 ≤ xsl h → xHP G h H → arr.size = xML i → xMet G l d' j as h r h1 → (∀ U : State, U.heap = H → s.WarmedH U.vm → xPc G as h (as.map (xcv G)).toArray U) → va_Run p l e R s m args below meth c H locs (h.length - n0) (xsl h - s0) (h1.length - h.length) (xsl h1 - xsl h) (F0 m pc arr (st.map (xcv G))) (rest.map (xcv G)) (xQc G r h1 (as.map (xcv G)).toArray) (xA G)) → xKW G p l e R s m args below meth c i n0 s0 hf sf Q pc ls st h := by
    rintro as rest hk4 hpl h8 ⟨d', rfl, hj, r, h1, hM, hle, kk⟩ hrun
    have hz1 := kk.1
    have hz2 := kk.2.1
    refine ⟨Nat.le_trans hle.1 hz1, Nat.le_trans hle.2 hz2, fun H locs arr hn hs hP hl hL => ?_⟩
    refine W.sized (fun z1 z2 => ?_)
    refine xs_after hle hn hs hl hL (hrun d' r h1 H locs arr rfl hj hle hz1 hz2 hn hs hP hL.2.1 (hM hpl) (fun U hU hW => ⟨rfl, by rw [hU]; exact hP, hKK.warm hW, by rw [hU]; omega, by rw [hU]; have := hP.1; omega⟩)) kk
  unfold i_cal at kk
  split at kk
  · -- virtual
    obtain ⟨hj, hpl, hpar, hcase⟩ := xC_at hw (by omega)
    obtain ⟨-, w1, w2, w3⟩ | ⟨q, -⟩ | ⟨q, -⟩ | ⟨q, -⟩ := hcase
    · split at kk
      · rename_i b rest hdrop
        obtain ⟨hrv, hnp, h8, kk⟩ := kk
        have hd0 : decode (xMB i) pc = .ok (.invokevirtual idx, 3) := by
          rcases hd with ⟨-, q⟩ | ⟨q, -⟩ | ⟨q, -⟩
          · exact q
          · omega
          · omega
        split at hrv
        · rename_i cj fs hbc
          obtain ⟨h2, h9, hcls⟩ := hrv
          replace h9 := h9.1
          refine call (by omega) hpl h8 kk (fun d' r h1 H locs arr hdd hj ⟨hle1, hle2⟩ hz1 hz2 hn hs hP hsize hM hpc => ?_)
          obtain ⟨rC, hrC⟩ : ∃ r, vwCl[cj]? = some r := ⟨_, List.getElem?_eq_getElem (by exact h9)⟩
          have hC : rC.1 = (xMY j).cls := by
            have q := List.all_eq_true.mp xown9 cj (List.mem_range.mpr h9)
            rw [hrC] at q
            obtain ⟨C0, T0, N0⟩ := rC
            have q' : C0 = xownS cj := by simpa using q
            exact q'.trans hcls
          have hrec := va_recv hKK.1 hP.2.1 hrC (xws_get (G := G) h2 hbc)
          rw [hC] at hrec
          obtain ⟨m1, m2, m3, m4, m5, m6, -⟩ := xM_at hj
          refine va_runV (As := ((st.take np).reverse).map (xcv G)) (b := xad G b) (C := (xMY j).cls) (Ts := xG) X.1 hM (cwV (Ts := xG) (ws' := xG) np hts ?_ rfl rfl rfl ⟨rfl, m2, m3, hpar⟩ ⟨by show d' + 1 + 1 ≤ R.frames; omega, by show 8 + (xML j + 11) + 38 * (d' + 1) ≤ R.locals; omega⟩) ⟨xPc_blind G _ h, hrec, fun U hU hW => hpc U hU hW⟩ rfl ?_ hsize ?_ (lv_room (by rw [xcat_sum]; exact h8)) hd0 ⟨by omega, by omega⟩
          · intro w hw
            rcases List.mem_append.mp (show w ∈ ([.methodLink _ _ _, .instanceMethod _, .selects _ _ _, .initialized _] : List Cond) ++ xws0 j from hw) with z | z
            · simp only [List.mem_cons, List.not_mem_nil, or_false] at z
              rcases z with rfl | rfl | rfl | rfl
              · exact ⟨w1, xG_good w1⟩
              · exact ⟨w2, xG_good w2⟩
              · exact ⟨w3, xG_good w3⟩
              · exact ⟨m4, xG_good m4⟩
            · exact xws0_good hj w z
          · rw [List.length_map, List.length_reverse, List.length_take]; omega
          · show st.map (xcv G) = _
            rw [xstk_eq G st np, hdrop]
            rfl
        · exact hrv.elim
      · exact kk.elim
    · omega
    · omega
    · omega
  · -- <init>
    obtain ⟨hj, hpl, hpar, hcase⟩ := xC_at hw (by omega)
    obtain ⟨q, -⟩ | ⟨-, w1, w2, w3, w4⟩ | ⟨q, -⟩ | ⟨q, -⟩ := hcase
    · omega
    · split at kk
      · rename_i b rest hdrop
        obtain ⟨hnp, h8, kk⟩ := kk
        have hd0 : decode (xMB i) pc = .ok (.invokespecial idx, 3) := by
          rcases hd with ⟨q, -⟩ | ⟨-, q⟩ | ⟨q, -⟩
          · omega
          · exact q
          · omega
        refine call (by omega) hpl h8 kk (fun d' r h1 H locs arr hdd hj ⟨hle1, hle2⟩ hz1 hz2 hn hs hP hsize hM hpc => ?_)
        obtain ⟨m1, m2, m3, m4, m5, m6, -⟩ := xM_at hj
        refine va_runI (As := ((st.take np).reverse).map (xcv G)) (b := xad G b) (Ts := xG) X.1 hM (cwI (Ts := xG) (ws' := xG) (bytes := xMB j) (maxL := xML j) np hts (xws0_good hj) (by unfold xws0; rw [w4]) rfl rfl (hts _ m4) (hts _ w1) (hts _ w2) w3 ⟨m2, m3, hpar⟩ ⟨by show d' + 1 + 1 ≤ R.frames; omega, by show 8 + (xML j + 11) + 38 * (d' + 1) ≤ R.locals; omega⟩) ⟨xPc_blind G _ h, fun U hU hW => hpc U hU hW⟩ rfl ?_ hsize ?_ (lv_room (by rw [xcat_sum]; exact h8)) hd0 ⟨by omega, by omega⟩
        · rw [List.length_map, List.length_reverse, List.length_take]; omega
        · show st.map (xcv G) = _
          rw [xstk_eq G st np, hdrop]
          rfl
      · exact kk.elim
    · omega
    · omega
  · -- static
    obtain ⟨hj, hpl, hpar, hcase⟩ := xC_at hw (by omega)
    obtain ⟨q, -⟩ | ⟨q, -⟩ | ⟨-, w1, w2⟩ | ⟨q, -⟩ := hcase
    · omega
    · omega
    · obtain ⟨hnp, h8, kk⟩ := kk
      have hd0 : decode (xMB i) pc = .ok (.invokestatic idx, 3) := by
        rcases hd with ⟨q, -⟩ | ⟨q, -⟩ | ⟨-, q⟩
        · omega
        · omega
        · exact q
      refine call (by omega) hpl h8 kk (fun d' r h1 H locs arr hdd hj ⟨hle1, hle2⟩ hz1 hz2 hn hs hP hsize hM hpc => ?_)
      obtain ⟨m1, m2, m3, m4, m5, m6, -⟩ := xM_at hj
      refine va_runS (As := ((st.take np).reverse).map (xcv G)) (Ts := xG) X.1 hM (va_cwS (Ts := xG) (ws' := xG) np hts ?_ rfl rfl rfl ⟨m2, m3, hpar⟩ ⟨by show d' + 1 + 1 ≤ R.frames; omega, by show 8 + (xML j + 11) + 38 * (d' + 1) ≤ R.locals; omega⟩) ⟨xPc_blind G _ h, fun U hU hW => hpc U hU hW⟩ rfl ?_ hsize ?_ (lv_room (by rw [xcat_sum]; exact h8)) hd0 ⟨by omega, by omega⟩
      · intro w hw
        rcases List.mem_append.mp (show w ∈ ([.methodLink _ _ _, .static _, .initialized _] : List Cond) ++ xws0 j from hw) with z | z
        · simp only [List.mem_cons, List.not_mem_nil, or_false] at z
          rcases z with rfl | rfl | rfl
          · exact ⟨w1, xG_good w1⟩
          · exact ⟨w2, xG_good w2⟩
          · exact ⟨m4, xG_good m4⟩
        · exact xws0_good hj w z
      · rw [List.length_map, List.length_reverse, List.length_take]; omega
      · show st.map (xcv G) = _
        rw [← xstk_eq G st np]
    · omega
  · -- a nest mate's <init>
    obtain ⟨hj, hpl, hpar, hcase⟩ := xC_at hw (by omega)
    obtain ⟨q, -⟩ | ⟨q, -⟩ | ⟨q, -⟩ | ⟨-, w2, w3, w4⟩ := hcase
    · omega
    · omega
    · omega
    · split at kk
      · rename_i b rest hdrop
        obtain ⟨hnp, h8, kk⟩ := kk
        have hd0 : decode (xMB i) pc = .ok (.invokespecial idx, 3) := by
          rcases hd with ⟨q, -⟩ | ⟨-, q⟩ | ⟨q, -⟩
          · omega
          · exact q
          · omega
        refine call (by omega) hpl h8 kk (fun d' r h1 H locs arr hdd hj ⟨hle1, hle2⟩ hz1 hz2 hn hs hP hsize hM hpc => ?_)
        obtain ⟨m1, m2, m3, m4, m5, m6, -⟩ := xM_at hj
        refine va_runIN (As := ((st.take np).reverse).map (xcv G)) (b := xad G b) (Ts := xG) X.1 hM ⟨va_cnB (Ts := xG) (ws' := xG) (bytes := xMB j) (maxL := xML j) (ret := none) np hts (xws0_good hj) (by unfold xws0; rw [w4]) rfl rfl (hKK.2.1.2.1 _ _ _ _ _ hw) (hts _ m4) ⟨m2, m3, hpar⟩ ⟨by show d' + 1 + 1 ≤ R.frames; omega, by show 8 + (xML j + 11) + 38 * (d' + 1) ≤ R.locals; omega⟩, w3, hts _ w2⟩ ⟨xPc_blind G _ h, fun U hU hW => hpc U hU hW⟩ rfl ?_ hsize ?_ (lv_room (by rw [xcat_sum]; exact h8)) hd0 ⟨by omega, by omega⟩
        · rw [List.length_map, List.length_reverse, List.length_take]; omega
        · show st.map (xcv G) = _
          rw [xstk_eq G st np, hdrop]
          rfl
      · exact kk.elim
  · -- Object.<init>
    have hok := List.all_eq_true.mp xC_ok _ hw
    have hlk : Cond.methodLink (xownS (xMO i)) idx objectInit ∈ xG := xok_in hok
    have hd0 : decode (xMB i) pc = .ok (.invokespecial idx, 3) := by
      rcases hd with ⟨q, -⟩ | ⟨-, q⟩ | ⟨q, -⟩
      · omega
      · exact q
      · omega
    split at kk
    · rename_i a rest
      obtain ⟨h8, kk⟩ := kk
      refine xs_stk (fun H locs arr cells slots hL hP kw => ?_) kk
      have h8' : ((rest.map (xcv G)).map fun v => v.category).sum ≤ 8 := by rw [xcat_sum]; exact h8
      have h0 : 2 * (F0 m pc arr (xcv G (.ref a) :: rest.map (xcv G))).monitorRoom = 0 := rfl
      refine W.objInit hx hb hown (hts _ hlk) (hts _ (List.mem_filter.mpr ⟨by decide +kernel, rfl⟩)) (hts _ (List.mem_filter.mpr ⟨by decide +kernel, rfl⟩)) rfl (by rw [hml]; exact hL.2.1) rfl hd0 (by omega) (by show 2 * 0 + ((rest.map (xcv G)).map fun v => v.category).sum + 12 ≤ R.locals; omega) ?_
      exact kw
    · exact kk.elim
  · -- arraycopy
    have hok := List.all_eq_true.mp xC_ok _ hw
    have hlk : Cond.methodLink (xownS (xMO i)) idx arraycopyName ∈ xG := xok_in hok
    have hd0 : decode (xMB i) pc = .ok (.invokestatic idx, 3) := by
      rcases hd with ⟨q, -⟩ | ⟨q, -⟩ | ⟨-, q⟩
      · omega
      · omega
      · exact q
    have hnf : nativeFrameWords "java/lang/System" "arraycopy" 5 ≤ 19 := by decide
    split at kk
    · rename_i n dp a sp a0 rest
      obtain ⟨h2, h20, h8, p1, p2, p3, kk⟩ := kk
      have h8' : ((rest.map (xcv G)).map fun v => v.category).sum ≤ 8 := by rw [xcat_sum]; exact h8
      split at kk
      · rename_i n0' f n1' g b0 b1
        obtain ⟨p4, p5, kk⟩ := kk
        refine xs_wr X (fun H locs arr cells slots hP hS hL kw => ?_) (by exact List.length_set) (by exact xsl_set b1 rfl) kk
        exact va_copyi (ty := .int) hx hb (by rw [hml]; exact hL.2.1.symm) hown (hts _ hlk) (hts _ (List.mem_filter.mpr ⟨by decide +kernel, rfl⟩)) (hts _ (List.mem_filter.mpr ⟨by decide +kernel, rfl⟩)) (hts _ (List.mem_filter.mpr ⟨by decide +kernel, rfl⟩)) hKK.1 hP.2.1 (xws_D G h) hS _ _ 0 0 (xws_get (G := G) h20 b0) (xws_get (G := G) h2 b1) rfl rfl rfl p1 p2 p3 p4 p5 (fun _ _ => rfl) (by omega) (by omega) hd0 (fun H1 locs1 w1 _ w3 => kw H1 locs1 w3 (hP.set h2 w1 (X.keep w3)))
      · rename_i n0' f n1' g b0 b1
        obtain ⟨p4, p5, ⟨ce, hce, hel⟩, kk⟩ := kk
        obtain ⟨rC, hrC⟩ : ∃ r, vwCl[ce]? = some r := ⟨_, List.getElem?_eq_getElem (by exact hce)⟩
        refine xs_wr X (fun H locs arr cells slots hP hS hL kw => ?_) (by exact List.length_set) (by exact xsl_set b1 rfl) kk
        refine va_copyq (C := rC.1) (E0 := "java/lang/Object") (E1 := "java/lang/Object") (f := fun j => (f j).map (xad G)) (g := fun j => (g j).map (xad G)) hx hb (by rw [hml]; exact hL.2.1.symm) hown (hts _ hlk) (hts _ (List.mem_filter.mpr ⟨by decide +kernel, rfl⟩)) (hts _ (List.mem_filter.mpr ⟨by decide +kernel, rfl⟩)) (hts _ (List.mem_filter.mpr ⟨by decide +kernel, rfl⟩)) hKK.1 hP.2.1 (xws_D G h) hS _ _ 2 2 (xws_get (G := G) h20 b0) (xws_get (G := G) h2 b1) rfl rfl p1 p2 p3 p4 p5 (fun k hk y hy => ?_) (fun comp c0 q1 q2 => ?_) (by omega) (by omega) hd0 (fun H1 locs1 w1 _ w3 => kw H1 locs1 w3 (hP.set h2 ?_ (X.keep w3)))
        · cases hfy : f (sp.toNatClampNeg + k) with
          | none => rw [hfy] at hy; cases hy
          | some y0 =>
            rw [hfy] at hy
            cases hy
            obtain ⟨y2, fs, hfs⟩ := hel k hk y0 hfy
            exact va_recv hKK.1 hP.2.1 hrC (xws_get (G := G) y2 hfs)
        · obtain ⟨c1, t1, f1, f2, f3⟩ := Cond.castable_spec (va_Nw.use (A := args) rfl (hKK.2.1.2.2 rC (List.mem_of_getElem? hrC)))
          cases q2.symm.trans f1
          cases q1.symm.trans f2
          exact f3
        · show va_P (gD G) vwCl ((xws G h).set (a - 2) (xad G a, .inl (gA G 2, n1', .inr (.inr (.inr (.inr (fun j => (va_cpy f g sp.toNatClampNeg dp.toNatClampNeg n.toNatClampNeg j).map (xad G)))))))) H1
          have e3 : (fun j => (va_cpy f g sp.toNatClampNeg dp.toNatClampNeg n.toNatClampNeg j).map (xad G)) = va_cpy (fun j => (f j).map (xad G)) (fun j => (g j).map (xad G)) sp.toNatClampNeg dp.toNatClampNeg n.toNatClampNeg := by
            funext j
            unfold va_cpy
            split <;> rfl
          rw [e3]
          exact w1
      · exact kk.elim
    · exact kk.elim
  · -- Math.max
    have hok := List.all_eq_true.mp xC_ok _ hw
    have hlk : Cond.methodLink (xownS (xMO i)) idx Lib.Math.max.name ∈ xG := xok_in hok
    have hd0 : decode (xMB i) pc = .ok (.invokestatic idx, 3) := by
      rcases hd with ⟨q, -⟩ | ⟨q, -⟩ | ⟨-, q⟩
      · omega
      · omega
      · exact q
    split at kk
    · rename_i y x rest
      obtain ⟨h8, kk⟩ := kk
      have h8' : ((rest.map (xcv G)).map fun v => v.category).sum ≤ 8 := by rw [xcat_sum]; exact h8
      refine ⟨kk.1, kk.2.1, fun H locs arr hn hs hP hl hL => ?_⟩
      have hz1 := kk.1
      have hz2 := kk.2.1
      exact va_mmax hx hb (by rw [hml]; exact hL.2.1.symm) hown (hts _ hlk) (hts _ (List.mem_filter.mpr ⟨by decide +kernel, rfl⟩)) (hts _ (List.mem_filter.mpr ⟨by decide +kernel, rfl⟩)) (hts _ (List.mem_filter.mpr ⟨by decide +kernel, rfl⟩)) (by omega) (by omega) (by omega) (by omega) hd0 (kk.2.2 H locs arr hn hs hP hl hL)
    · exact kk.elim
  · -- Math.min
    have hok := List.all_eq_true.mp xC_ok _ hw
    have hlk : Cond.methodLink (xownS (xMO i)) idx Lib.Math.min.name ∈ xG := xok_in hok
    have hd0 : decode (xMB i) pc = .ok (.invokestatic idx, 3) := by
      rcases hd with ⟨q, -⟩ | ⟨q, -⟩ | ⟨-, q⟩
      · omega
      · omega
      · exact q
    split at kk
    · rename_i y x rest
      obtain ⟨h8, kk⟩ := kk
      have h8' : ((rest.map (xcv G)).map fun v => v.category).sum ≤ 8 := by rw [xcat_sum]; exact h8
      refine ⟨kk.1, kk.2.1, fun H locs arr hn hs hP hl hL => ?_⟩
      have hz1 := kk.1
      have hz2 := kk.2.1
      exact va_mmin hx hb (by rw [hml]; exact hL.2.1.symm) hown (hts _ hlk) (hts _ (List.mem_filter.mpr ⟨by decide +kernel, rfl⟩)) (hts _ (List.mem_filter.mpr ⟨by decide +kernel, rfl⟩)) (hts _ (List.mem_filter.mpr ⟨by decide +kernel, rfl⟩)) (by omega) (by omega) (by omega) (by omega) hd0 (kk.2.2 H locs arr hn hs hP hl hL)
    · exact kk.elim
  · exact kk.elim
end SNC
