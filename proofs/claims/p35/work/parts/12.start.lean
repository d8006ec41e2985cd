/-! THE CLAIM OUT OF ONE WALK OF THE LAW'S BODY. Your part is whole_start (and what it stands on); all else here is the same for every law, but numbers. -/
def R_law : String := "VineGardenLaw"
def lw_P (b : Addr) (xs : List Int32) (args : Array Value) (s : State) : Prop := args = #[.ref b] ∧ s.IntsAt b xs ∧ xs.length ≤ 260 ∧ (Jvm.Cond.and given_1 narrow_1).before args s = true
def lw_Q (_ : Array Value) (s : State) (o : Outcome) (t : State) : Prop := o = .returned (some (.int 1)) ∧ Framed s o t [] 600000 7302249
def lw_Z (below : List Frame) (a : Array Value) (s : State) : State → Prop := fun t => ∃ o, t.status = .running ∧ Ended t below o ∧ lw_Q a s o t
/-- the law's own end, with 1 on the stack, nothing written that was there before, its room as the claim has it -/
theorem lw_ret {p : Program} {l : Launch} {e : Env} {s : State} {m : MethodId} {below : List Frame} {meth : Method} {c : Code} {b : Nat} (hx : p.tables.exec = Jvm.exec) (hb : c.code = code) (hr : meth.sig.returnType = ret) (hlocks : meth.locks = false) {pc : Nat} {H : Heap} {ls : Array Slot} (hdg : decode code pc = .ok (.ireturn, 1)) : W p l e room_1 s m #[Value.ref b] below meth c H [] 600000 7302249 (lw_Z below #[Value.ref b] s) (F0 m pc ls [.int 1]) := by
  intro T hT X
  obtain ⟨fs, hret, hrun, hended, hW, hframe⟩ := X.leave (v := some (.int 1)) (hlocks := hlocks) (fun h => by rw [hr] at h; cases h)
  have hmeth' : T.vm.method? m = some meth := X.method'
  refine ⟨T.setFrames fs, ?_, .returned (some (.int 1)), hrun, hended, rfl, ⟨_, rfl⟩, hW, hframe⟩
  jvm_step X.here [X.here.top, hx, hb, hdg, hmeth', hr, ret, narrow_b1]
  (try refine ⟨rfl, ?_⟩); (try refine ⟨rfl, ?_⟩)
  first | (intro acts; rw [hret _ acts rfl rfl rfl]) | rw [hret _ _ rfl rfl rfl]
  exact Steps.refl _
/-- what holds at the law's entry: the machine, the code, the tables' words (any of lw_tbl by 'hts w (by decide +kernel)'), the script of L ints xs at the cell b, what the Statement gives of the start (any of its parts by flat_of_before) -/
def lw_At (p : Program) (s : State) (m : MethodId) (meth : Method) (c : Code) (b L : Nat) (xs : Nat → Int32) : Prop :=
  p.tables.exec = Jvm.exec ∧ c.code = code ∧ meth.sig.returnType = ret ∧ c.maxLocals = 19 ∧ s.vm.findClass R_law = some m.cls ∧ (∀ w ∈ lw_tbl, w.before #[Value.ref b] s = true) ∧ va_X b L xs s s.heap ∧ b < s.heap.size ∧ meth.locks = false ∧ (Jvm.Cond.and given_1 narrow_1).before #[Value.ref b] s = true
/-! ===== from the law's entry: a run of the numbered machine on the script is what is owed ===== -/
def xh0 (L : Nat) (xs : Nat → Int32) : xH := [.inl (0, L, .inl xs), .inl (2, 0, .inr (.inr (.inr (.inr (fun _ => none)))))]
theorem xLaw_dec : xMB xLaw = code ∧ xML xLaw = 19 ∧ xMR xLaw = some .boolean ∧ xownS (xMO xLaw) = R_law ∧ (xMY xLaw).name = "law" := ⟨rfl, rfl, rfl, rfl, rfl⟩
theorem xcas_w : ∀ q ∈ vwCl, Cond.castable q.1 "java/lang/Object" ∈ lw_tbl := by
  have h : vwCl.all (fun q => decide (Cond.castable q.1 "java/lang/Object" ∈ lw_tbl)) = true := by decide +kernel
  intro q hq
  simpa using List.all_eq_true.mp h q hq
theorem xcls_at {s : State} {args : Array Value} (hts : ∀ w ∈ lw_tbl, w.before args s = true) : ∃ (dC : Nat → ClassId) (dI : Nat → Nat → Nat), ∀ (k : Nat) (q : vw_C), vwCl[k]? = some q → u_Kn s q.1 q.2.1 q.2.2 (dC k) (dI k) := by
  have key : ∀ k : Nat, ∃ (c : ClassId) (iS : Nat → Nat), ∀ q : vw_C, vwCl[k]? = some q → u_Kn s q.1 q.2.1 q.2.2 c iS := by
    intro k
    cases hq : vwCl[k]? with
    | none => exact ⟨0, fun _ => 0, fun q h => by cases h⟩
    | some q =>
      obtain ⟨C, T, N⟩ := q
      have h9 : k < 9 := (List.getElem?_eq_some_iff.mp hq).1
      have hin : ∀ w ∈ u_ws C T N, w ∈ lw_tbl := fun w hw => (List.mem_filter.mp (xU_in hq w hw)).1
      have hi : Cond.instantiable C N ∈ lw_tbl := by
        have h := List.all_eq_true.mp (show vwCl.all (fun q => decide (Cond.instantiable q.1 q.2.2 ∈ lw_tbl)) = true by decide +kernel) _ (List.mem_of_getElem? hq)
        simpa using h
      obtain ⟨c, iS, hk⟩ := u_known (C := C) (T := T) (N := N) (n := N) hts hin (hts _ hi)
      exact ⟨c, iS, fun q h => by cases h; exact hk⟩
  refine ⟨fun k => (key k).choose, fun k => (key k).choose_spec.choose, fun k q hq => (key k).choose_spec.choose_spec q hq⟩
theorem xarr_at {s : State} {args : Array Value} {ty : FieldType} (hr : ∀ C, ty ≠ .object C) (h : (Cond.arrayClass ty).before args s = true) : ∃ cA : ClassId, ArrOfT s cA ty ∧ va_RA s cA ty := by
  obtain ⟨c, k, comp, h1, h2, h3⟩ := Cond.arrayClass_spec h
  refine ⟨c, fun n z => ⟨fun k h => (by cases h), k, h2, comp, h3⟩, ?_⟩
  cases ty <;> first | exact h1 | exact absurd rfl (hr _)
theorem xarq_at {s : State} {args : Array Value} {C : String} (h : (Cond.arrayOver (.object C)).before args s = true) : ∃ cA : ClassId, ArrOfT s cA (.object C) ∧ va_RA s cA (.object C) := by
  obtain ⟨comp, c, k, h1, h2, h3, h4, h5⟩ := Cond.arrayOver_spec h
  exact ⟨c, fun n z => ⟨fun k h => (by cases h), k, h3, comp, h4⟩, k, comp, h3, h4, h1, h5⟩
theorem whole_of_go {p : Program} {e : Env} {s : State} {m : MethodId} {below : List Frame} {meth : Method} {c : Code} (l : Launch) {b L : Nat} {xs : Nat → Int32} (C0 : lw_At p s m meth c b L xs) {h' : xH} (hgo : xGo 9 xLaw 0 [some (.ref 0), none, none, none, none, none, none, none, none, none, none, none, none, none, none, none, none, none, none] [] (xh0 L xs) (some (.int 1), h')) (hc1 : h'.length ≤ 600002) (hc2 : xsl h' ≤ L + 7302249) : W p l e room_1 s m #[Value.ref b] below meth c s.heap [] 0 0 (lw_Z below #[Value.ref b] s) (entryFrame m ([Value.ref b] : List Value).toArray 19) := by
  obtain ⟨hx, hb, hr, hml, hown, hts, hX, hbl, hlocks, hgv⟩ := id C0
  obtain ⟨dC, dI, hcls⟩ := xcls_at hts
  obtain ⟨cI, aI1, aI2⟩ := xarr_at (ty := .int) (fun _ q => by cases q) (hts _ (by decide +kernel))
  obtain ⟨cZ, aZ1, aZ2⟩ := xarr_at (ty := .boolean) (fun _ q => by cases q) (hts _ (by decide +kernel))
  have wO : (Cond.arrayOver (.object "java/lang/Object")).before #[Value.ref b] s = true := hts _ (by decide +kernel)
  have wS : (Cond.arrayOver (.object "VineGarden$Sheet")).before #[Value.ref b] s = true := hts _ (by decide +kernel)
  obtain ⟨cJ, aJ1, aJ2⟩ := xarr_at (ty := .long) (fun _ q => by cases q) (hts _ (by decide +kernel))
  obtain ⟨cO, aO1, aO2⟩ := xarq_at wO
  obtain ⟨cS, aS1, aS2⟩ := xarq_at wS
  have hfl := flat_of_before _ hgv
  have hnA : ∀ a : Nat, a < s.heap.size → ¬ s.heap.size ≤ a := fun a h => Nat.not_le.mpr h
  have harr := hfl (Cond.arrayOf (.static "java/util/ArrayList" "DEFAULTCAPACITY_EMPTY_ELEMENTDATA" "[Ljava/lang/Object;") (.object "java/lang/Object")) (by decide +kernel)
  have hlen := va_eqt (hfl (Cond.eq (.length (.static "java/util/ArrayList" "DEFAULTCAPACITY_EMPTY_ELEMENTDATA" "[Ljava/lang/Object;")) (.int 0)) (by decide +kernel))
  obtain ⟨t, ht, hT⟩ := va_Tof (N := 0) (f := fun _ => .null) (A := fun q => s.heap.size ≤ q) (by decide) harr hlen (fun j hj => by omega) hnA
  have hZ : va_Z "java/util/ArrayList" "DEFAULTCAPACITY_EMPTY_ELEMENTDATA" "[Ljava/lang/Object;" (.ref t) (fun q => s.heap.size ≤ q) s s.heap := va_Zof (hts _ (by decide +kernel)) (hts _ (by decide +kernel)) ht hnA
  obtain ⟨scr, x1, x2, x3⟩ := id hX
  obtain ⟨cT, t1, t2, t3⟩ := id hT
  have htl : t < s.heap.size := (Array.getElem?_eq_some_iff.mp t1).1
  have hbt : b ≠ t := by
    intro q
    subst q
    rw [x1] at t1
    cases t1
    obtain ⟨-, k1, e1, c1, f1⟩ := x2
    obtain ⟨-, k2, e2, c2, f2⟩ := t2
    rw [e1] at e2
    cases e2
    rw [f1] at f2
    cases f2
  generalize hGe : (((dC, dI), (fun k => if k = 0 then cI else if k = 1 then cZ else if k = 2 then cO else if k = 3 then cS else cJ), s.heap.size, b, t, L, xs, s.heap) : xWd) = G
  have eB : gB G = s.heap.size := by rw [← hGe]
  have eH : gH G = s.heap := by rw [← hGe]
  have hKK : xKK G s := by
    rw [← hGe]
    refine ⟨⟨fun k q hq => hcls k q hq, fun k q hq => ?_⟩, ⟨fun o idx ci k w N C T h1 h2 => ?_, fun o idx j np w h1 => ?_, fun q hq => va_Nw.of rfl (hts _ (xcas_w q hq))⟩, va_AO.of wO, va_AO.of wS, hZ, hT, hX⟩
    · match k, hq with
      | 0, hq => cases hq; exact ⟨aI1, aI2⟩
      | 1, hq => cases hq; exact ⟨aZ1, aZ2⟩
      | 2, hq => cases hq; exact ⟨aO1, aO2⟩
      | 3, hq => cases hq; exact ⟨aS1, aS2⟩
      | 4, hq => cases hq; exact ⟨aJ1, aJ2⟩
      | k + 5, hq => simp [xty] at hq
    · have hok := List.all_eq_true.mp xF_ok _ h1
      unfold xFok at hok
      dsimp only at hok
      rw [h2] at hok
      simp only [Bool.and_eq_true, decide_eq_true_eq] at hok
      exact va_Nw.of rfl (hts _ (List.mem_of_getElem? hok.2))
    · have hok := List.all_eq_true.mp xC_ok _ h1
      unfold xCok at hok
      dsimp only at hok
      split at hok
      · omega
      · omega
      · omega
      · omega
      split at hok
      · rename_i y c ml rt np' o' w0 wi ws wn e1 e2
        rw [Bool.and_eq_true] at hok
        obtain ⟨-, hok⟩ := hok
        simp only [Bool.and_eq_true, decide_eq_true_eq] at hok
        have eY : xMY j = y := by unfold xMY; rw [e1]
        rw [eY]
        exact va_Nw.of rfl (hts _ (List.mem_of_getElem? hok.1.1.1))
      · cases hok
  have hGk : xGk G := by rw [← hGe]; exact ⟨rfl, hbl, htl, hbt⟩
  have hP0 : xHP G (xh0 L xs) s.heap := by
    rw [← hGe]
    exact ⟨Nat.le_refl 2, fun k q hk => by simp [xws, xh0] at hk, fun q _ => rfl, rfl, rfl⟩
  have hsl : xsl (xh0 L xs) = L := by simp [xsl, xh0, xsz]
  have X : xCx G p room_1 s m #[Value.ref b] meth c xLaw 9 2 L h'.length (xsl h') := by
    refine ⟨⟨hx, hb, hml, hown, fun w hw => hts w (List.mem_filter.mp hw).1⟩, hlocks, fun q => by rw [xLaw_dec.2.2.2.2] at q; exact absurd q (by decide), hKK, hGk, by decide, by decide, by show h'.length - 2 ≤ 600000; omega, by show xsl h' - L ≤ 7302249; omega, Nat.le_refl _, by rw [eB]; exact Nat.le_refl _, by rw [eB]; exact Nat.le_refl _, fun q _ => by rw [eH]⟩
  have hrw : xRW G p l e room_1 s m #[Value.ref b] below meth c xLaw 2 L h'.length (xsl h') (lw_Z below #[Value.ref b] s) (some (.int 1)) h' := by
    refine ⟨Nat.le_refl _, Nat.le_refl _, fun H locs arr pc ins hn hs hP1 hlc hdc hrk => ?_⟩
    have hins : ins = .ireturn := by
      cases ins <;> first | rfl | exact hrk.elim
    subst hins
    refine va_forget (fun q hq => by rw [← eB]; exact hlc q hq) ?_
    refine W.widen (k := 600000) (n := 7302249) (by omega) (by omega) ?_
    exact lw_ret hx hb hr hlocks hdc
  have hk := (xs_run hgo).2 G p l e room_1 s m #[Value.ref b] below meth c 2 L _ X hrw
  have hl := lv_entry ([.ref b]) (n := 19) (Nat.le_of_ble_eq_true rfl)
  rw [lg_entry_eq]
  generalize (lg_sl ([.ref b]) ++ List.replicate (19 - (lg_sl ([.ref b])).length) Slot.unset).toArray = arr at hl ⊢
  have hL : xLH G arr (xML xLaw) [some (.ref 0), none, none, none, none, none, none, none, none, none, none, none, none, none, none, none, none, none, none] := by
    refine ⟨rfl, lv_has_mono hl (fun q hq => ?_)⟩
    obtain ⟨k, w⟩ := q
    obtain ⟨v, hv, rfl⟩ := xal_mem.mp hq
    match k, hv with
    | 0, hv =>
      cases hv
      rw [← hGe]
      exact List.mem_cons_self
    | 1, hv => cases hv
    | 2, hv => cases hv
    | 3, hv => cases hv
    | 4, hv => cases hv
    | 5, hv => cases hv
    | 6, hv => cases hv
    | 7, hv => cases hv
    | 8, hv => cases hv
    | 9, hv => cases hv
    | 10, hv => cases hv
    | 11, hv => cases hv
    | 12, hv => cases hv
    | 13, hv => cases hv
    | 14, hv => cases hv
    | 15, hv => cases hv
    | 16, hv => cases hv
    | 17, hv => cases hv
    | 18, hv => cases hv
    | k + 19, hv => simp [xld] at hv
  have := hk.2.2 s.heap [] arr (Nat.le_refl 2) (by rw [hsl]; exact Nat.le_refl _) hP0 (fun q hq => by cases hq) hL
  rw [hsl, Nat.sub_self] at this
  exact this
