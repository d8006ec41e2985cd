/-! ===== each instruction: cells ===== -/
theorem xlt2 {a : Nat} (h : a < 2) : a = 0 ∨ a = 1 := by omega
theorem xU_in {ci N : Nat} {C : String} {T : u_T} (hc : vwCl[ci]? = some (C, T, N)) : ∀ w ∈ u_ws C T N, w ∈ xG := by
  intro w hw
  have h1 := List.all_eq_true.mp xU_ok _ (List.mem_of_getElem? hc)
  have h2 := List.all_eq_true.mp h1 w hw
  simp only [Bool.and_eq_true, decide_eq_true_eq] at h2
  exact List.mem_filter.mpr ⟨h2.2, h2.1⟩
theorem xT_at {ci N : Nat} {C : String} {T : u_T} (hc : vwCl[ci]? = some (C, T, N)) : ∃ (ts : List FieldType) (fs : List Bool) (ds : List Value), xT[ci]? = some ts ∧ xFin[ci]? = some fs ∧ xDef[ci]? = some ds ∧ ds.length = N ∧ ∀ k, k < N → (∃ ty, ts[k]? = some ty ∧ parseFieldDescriptor (T k).2.2.1 = some ty ∧ ds[k]? = some (defaultValue ty)) ∧ fs[k]? = some (T k).2.2.2 ∧ ∀ j, j < N → k ≠ j → (T k).2.1 ≠ (T j).2.1 := by
  have hl : ci < vwCl.length := (List.getElem?_eq_some_iff.mp hc).1
  have h1 := List.all_eq_true.mp xT_ok ci (List.mem_range.mpr hl)
  unfold xTok at h1
  rw [hc] at h1
  split at h1
  · rename_i T' N' ts fs ds e1 e2 e3 e4
    cases e1
    simp only [Bool.and_eq_true, decide_eq_true_eq, List.all_eq_true, List.mem_range, Bool.or_eq_true] at h1
    obtain ⟨⟨⟨a1, a2⟩, a3⟩, a4⟩ := h1
    refine ⟨ts, fs, ds, e2, e3, e4, a3, fun k hk => ?_⟩
    obtain ⟨⟨⟨b1, b2⟩, b3⟩, b4⟩ := a4 k hk
    obtain ⟨ty, hty⟩ : ∃ ty, ts[k]? = some ty := ⟨_, List.getElem?_eq_getElem (by omega)⟩
    refine ⟨⟨ty, hty, by rw [b1, hty], by rw [← b3, hty]; rfl⟩, b2, fun j hj hne => ?_⟩
    rcases b4 j hj with q | q
    · exact absurd q hne
    · exact q
  · cases h1
theorem xFinOwn : (List.range 9).all (fun ci => match vwCl[ci]? with
  | some (_, T, N) => (List.range N).all (fun k => !(T k).2.2.2 || decide ((T k).1 = xownS ci))
  | none => false) = true := by decide +kernel
theorem xFz : xF.all (fun q => q.2.2.1 < 9 && (!(q.1 == q.2.2.1) || q.2.2.2.2.1 == 0 || (q.2.2.2.2.1 == 2 && (match xFin[q.2.2.1]? with
  | some fi => fi[q.2.2.2.1]? == some false
  | none => false)))) = true := by decide +kernel
theorem xfld_w {o idx ci k : Nat} (h : xfld o idx = some (ci, k)) : ∃ kd w, (o, idx, ci, k, kd, w) ∈ xF := by
  unfold xfld at h
  cases hq : xF.find? (fun q => q.1 == o && q.2.1 == idx) with
  | none => rw [hq] at h; cases h
  | some q =>
    rw [hq] at h
    obtain ⟨h1, h2⟩ := xfind_mem hq
    obtain ⟨q1, q2, q3, q4, q5, q6⟩ := q
    simp only [Bool.and_eq_true, beq_iff_eq] at h2
    obtain ⟨rfl, rfl⟩ := h2
    cases h
    exact ⟨q5, q6, h1⟩
theorem xfit_ok {G : xWd} {ty : FieldType} {v : Value} (h : xfit ty v) : narrow ty (xcv G v) = xcv G v ∧ fits ty (xcv G v) = true := by
  unfold xfit at h
  split at h <;> first | exact ⟨rfl, rfl⟩ | exact h.elim
theorem xHP.obj2 {G : xWd} {h : xH} {H : Heap} (hP : xHP G h H) {a : Nat} {o : Nat × List Value} (ha : h[a]? = some (.inr o)) : 2 ≤ a := by
  rcases Nat.lt_or_ge a 2 with q | q
  · exfalso
    rcases (show a = 0 ∨ a = 1 by omega) with rfl | rfl
    · rw [hP.2.2.2.1] at ha; cases ha
    · rw [hP.2.2.2.2] at ha; cases ha
  · exact q
section SND3
variable {G : xWd} {p : Program} {l : Launch} {e : Env} {R : Room} {s : State} {m : MethodId} {args : Array Value} {below : List Frame} {meth : Method} {c : Code} {i d n0 s0 hf sf : Nat} {Q : State → Prop} {pc : Nat} {ls : xL} {h : xH} {st : List Value}
theorem xs_get {idx : Nat} (X : xCx G p R s m args meth c i d n0 s0 hf sf) (hd : decode (xMB i) pc = .ok (.getfield idx, 3)) (kk : i_get (xKW G p l e R s m args below meth c i n0 s0 hf sf Q) (xMO i) pc ls h idx st) : xKW G p l e R s m args below meth c i n0 s0 hf sf Q pc ls st h := by
  obtain ⟨hx, hb, hml, hown, hts⟩ := X.1
  have hKK : xKK G s := X.2.2.2.1
  unfold i_get at kk
  split at kk
  case h_2 => exact kk.elim
  rename_i a st
  split at kk
  case h_2 => exact kk.elim
  rename_i ci k hf0
  split at kk
  case h_2 => exact kk.elim
  rename_i cj fs ha
  obtain ⟨rfl, kk⟩ := kk
  split at kk
  case h_2 => exact kk.elim
  rename_i v hv
  obtain ⟨kd, w, hw⟩ := xfld_w hf0
  have hok := List.all_eq_true.mp xF_ok _ hw
  unfold xFok at hok
  dsimp only at hok
  split at hok
  case h_2 => cases hok
  rename_i C T N hc
  simp only [Bool.and_eq_true, decide_eq_true_eq] at hok
  obtain ⟨hk, hok⟩ := hok
  refine xs_stk (fun H locs arr cells slots hL hP kw => ?_) kk
  have he := xws_get (G := G) (hP.obj2 ha) ha
  have hv' : (fs.map (xcv G))[k]? = some (xcv G v) := by rw [List.getElem?_map, hv]; rfl
  split at hok
  · exact va_get hx hb hts (xU_in hc) hown hKK.1 hP.2.1 _ he hc k hk (hts _ (xok_in hok)) (fun _ z => z) hv' hd kw
  · have hn := hKK.2.1.1 _ _ _ _ _ _ _ _ hw hc
    exact va_getN hx hb hts (xU_in hc) hown hKK.1 hP.2.1 _ he hc k hk (va_Nw.use rfl hn) (fun _ z => z) hv' hd kw
  · rw [Bool.and_eq_true] at hok
    exact va_get hx hb hts (xU_in hc) hown hKK.1 hP.2.1 _ he hc k hk (hts _ (xok_in hok.1)) (fun x z => u_same (hts _ (xok_in hok.2)) x z) hv' hd kw
/-- a row that writes a cell -/
theorem xs_wr {pc' : Nat} {st' : List Value} {h' : xH} (X : xCx G p R s m args meth c i d n0 s0 hf sf) (hr : ∀ (H : Heap) (locs : List Loc) (arr : Array Slot) (cells slots : Nat), xHP G h H → va_S (xA G) s.heap H locs → xLH G arr (xML i) ls → (∀ (H1 : Heap) (locs1 : List Loc), va_S (xA G) s.heap H1 locs1 → xHP G h' H1 → W p l e R s m args below meth c H1 locs1 cells slots Q (F0 m pc' arr (st'.map (xcv G)))) → W p l e R s m args below meth c H locs cells slots Q (F0 m pc arr (st.map (xcv G)))) (h1 : h'.length = h.length) (h2 : xsl h' = xsl h) (k : xKW G p l e R s m args below meth c i n0 s0 hf sf Q pc' ls st' h') : xKW G p l e R s m args below meth c i n0 s0 hf sf Q pc ls st h := by
  refine ⟨by rw [← h1]; exact k.1, by rw [← h2]; exact k.2.1, fun H locs arr hn hs hP hl hL => ?_⟩
  refine W.sized (fun z1 z2 => ?_)
  refine hr H locs arr _ _ hP (X.S hP z1 hl) hL (fun H1 locs1 hS1 hP1 => ?_)
  have := k.2.2 H1 locs1 arr (by rw [h1]; exact hn) (by rw [h2]; exact hs) hP1 hS1.2.2 hL
  rw [h1, h2] at this
  exact this
theorem xs_put {idx : Nat} (X : xCx G p R s m args meth c i d n0 s0 hf sf) (hd : decode (xMB i) pc = .ok (.putfield idx, 3)) (kk : i_put (xKW G p l e R s m args below meth c i n0 s0 hf sf Q) (xMO i) (decide ((xMY i).name = "<init>")) pc ls h idx st) : xKW G p l e R s m args below meth c i n0 s0 hf sf Q pc ls st h := by
  obtain ⟨hx, hb, hml, hown, hts⟩ := X.1
  have hKK : xKK G s := X.2.2.2.1
  have hini := X.2.2.1
  unfold i_put at kk
  split at kk
  case h_2 => exact kk.elim
  rename_i v a st
  split at kk
  case h_2 => exact kk.elim
  rename_i ci k hf0
  split at kk
  case h_2 => exact kk.elim
  rename_i cj fs ha
  obtain ⟨rfl, h2, hkl, hty, hfin, kk⟩ := kk
  obtain ⟨kd, w, hw⟩ := xfld_w hf0
  have hok := List.all_eq_true.mp xF_ok _ hw
  have hzz := List.all_eq_true.mp xFz _ hw
  unfold xFok at hok
  dsimp only at hok
  split at hok
  case h_2 => cases hok
  rename_i C T N hc
  simp only [Bool.and_eq_true, decide_eq_true_eq] at hok
  obtain ⟨hk, hok⟩ := hok
  obtain ⟨ts, fi, ds, e1, e2, e3, e4, e5⟩ := xT_at hc
  rw [e1] at hty
  rw [e2] at hfin
  dsimp only at hty hfin
  obtain ⟨⟨ty, hty1, hty2, -⟩, hfi, -⟩ := e5 k hk
  rw [hty1] at hty
  dsimp only at hty
  obtain ⟨hn, hfit⟩ := xfit_ok (G := G) hty
  have ty0 : ∀ k, k < N → parseFieldDescriptor (T k).2.2.1 = some ((ts[k]?).getD .int) := fun k hk => by
    obtain ⟨⟨ty, a1, a2, -⟩, -⟩ := e5 k hk
    rw [a1]; exact a2
  have hnm : ∀ a, a < N → ∀ b, b < N → a ≠ b → (T a).2.1 ≠ (T b).2.1 := fun a ha b hb hne => (e5 a ha).2.2 b hb hne
  refine xs_wr X (fun H locs arr cells slots hP hS hL kw => ?_) (by exact List.length_set) (by exact xsl_set ha (by simp [xsz])) kk
  have he := xws_get (G := G) h2 ha
  have hkl' : k < (fs.map (xcv G)).length := by rw [List.length_map]; exact hkl
  have fin : ∀ (H1 : Heap) (locs1 : List Loc), va_P (gD G) vwCl ((xws G h).set (a - 2) (xad G a, .inr (cj, (fs.map (xcv G)).set k (xcv G v)))) H1 → va_D (xA G) ((xws G h).set (a - 2) (xad G a, .inr (cj, (fs.map (xcv G)).set k (xcv G v)))) → va_S (xA G) s.heap H1 locs1 → W p l e R s m args below meth c H1 locs1 cells slots Q (F0 m (pc + 3) arr (st.map (xcv G))) := fun H1 locs1 w1 _ w3 => by
    refine kw H1 locs1 w3 (hP.set h2 ?_ (X.keep w3))
    show va_P (gD G) vwCl ((xws G h).set (a - 2) (xad G a, .inr (cj, (fs.set k v).map (xcv G)))) H1
    rw [List.map_set]
    exact w1
  rcases hfin with hff | ⟨hff, hin, hoc⟩
  · have hfin' : (T k).2.2.2 = false := by rw [hfi] at hff; exact Option.some.inj hff
    split at hok
    · exact va_put hx hb hts (xU_in hc) _ ty0 hnm hown hKK.1 hP.2.1 (xws_D G h) hS _ he hc k hk (hts _ (xok_in hok)) (fun _ z => z) hfin' hty2 hn hfit hkl' hd fin
    · have hnn := hKK.2.1.1 _ _ _ _ _ _ _ _ hw hc
      exact va_putN hx hb hts (xU_in hc) _ ty0 hnm hown hKK.1 hP.2.1 (xws_D G h) hS _ he hc k hk (va_Nw.use rfl hnn) (fun _ z => z) hfin' hty2 hn hfit hkl' hd fin
    · rw [Bool.and_eq_true] at hok
      exact va_put hx hb hts (xU_in hc) _ ty0 hnm hown hKK.1 hP.2.1 (xws_D G h) hS _ he hc k hk (hts _ (xok_in hok.1)) (fun x z => u_same (hts _ (xok_in hok.2)) x z) hfin' hty2 hn hfit hkl' hd fin
  · have hfin' : (T k).2.2.2 = true := by rw [hfi] at hff; exact Option.some.inj hff
    have hin' := hini (by simpa using hin)
    simp only [Bool.and_eq_true, decide_eq_true_eq, Bool.or_eq_true, Bool.not_eq_true', beq_eq_false_iff_ne, ne_eq, beq_iff_eq] at hzz
    obtain ⟨h9, hzz⟩ := hzz
    have hdecl : (T k).1 = xownS (xMO i) := by
      have q := List.all_eq_true.mp xFinOwn cj (List.mem_range.mpr h9)
      rw [hc] at q
      dsimp only at q
      have q2 := List.all_eq_true.mp q k (List.mem_range.mpr hk)
      rw [hfin'] at q2
      rw [hoc]
      simpa using q2
    rcases hzz with (q | q) | q
    · exact absurd hoc q
    · subst q
      exact va_putF hx hb hts (xU_in hc) _ ty0 hnm hown hKK.1 hP.2.1 (xws_D G h) hS _ he hc k hk (hts _ (xok_in hok)) (fun _ z => z) hfin' hin' hdecl hty2 hn hfit hkl' hd fin
    · rw [e2] at q
      dsimp only at q
      rw [hff] at q
      simp at q
theorem xs_iald (X : xCx G p R s m args meth c i d n0 s0 hf sf) (hd : decode (xMB i) pc = .ok (.iaload, 1)) (kk : i_iald (xKW G p l e R s m args below meth c i n0 s0 hf sf Q) pc ls h st) : xKW G p l e R s m args below meth c i n0 s0 hf sf Q pc ls st h := by
  obtain ⟨hx, hb, hml, hown, hts⟩ := X.1
  have hKK : xKK G s := X.2.2.2.1
  unfold i_iald at kk
  split at kk
  case h_2 => exact kk.elim
  rename_i j a st
  split at kk
  case h_2 => exact kk.elim
  rename_i n f ha
  obtain ⟨hin, kk⟩ := kk
  refine xs_stk (fun H locs arr cells slots hL hP kw => ?_) kk
  rcases Nat.lt_or_ge a 2 with q | q
  · rcases xlt2 q with rfl | rfl
    · rw [hP.2.2.2.1] at ha
      cases ha
      obtain ⟨scr, g1, g2, g3, g4, g5⟩ := hKK.2.2.2.2.2.2
      have hlt : j.toNatClampNeg < gL G := Nat.not_le.mp fun q => hin (Or.inr q)
      exact W.iald (v := .int (gX G j.toNatClampNeg)) hx hb (a := xad G 0) (cell := scr) (by show H[gS G]? = _; rw [hP.2.2.1 _ (X.2.2.2.2.1.2.1)]; exact g1) g2 g3 (by rw [g4]; exact hin) (g5 _ hlt) rfl rfl hd kw
    · rw [hP.2.2.2.2] at ha; cases ha
  · exact va_iald hx hb hKK.1 hP.2.1 _ 0 (xws_get (G := G) q ha) rfl hin hd kw
theorem xs_zald (X : xCx G p R s m args meth c i d n0 s0 hf sf) (hd : decode (xMB i) pc = .ok (.baload, 1)) (kk : i_zald (xKW G p l e R s m args below meth c i n0 s0 hf sf Q) pc ls h st) : xKW G p l e R s m args below meth c i n0 s0 hf sf Q pc ls st h := by
  obtain ⟨hx, hb, hml, hown, hts⟩ := X.1
  have hKK : xKK G s := X.2.2.2.1
  unfold i_zald at kk
  split at kk
  case h_2 => exact kk.elim
  rename_i j a st
  split at kk
  case h_2 => exact kk.elim
  rename_i n f ha
  obtain ⟨h2, hin, kk⟩ := kk
  exact xs_stk (fun H locs arr cells slots hL hP kw => va_zald hx hb hKK.1 hP.2.1 _ 1 (xws_get (G := G) h2 ha) rfl hin hd kw) kk
theorem xcv_rf {G : xWd} (r : Option Nat) : xcv G (va_rf r) = va_rf (r.map (xad G)) := by cases r <;> rfl
theorem xs_lald (X : xCx G p R s m args meth c i d n0 s0 hf sf) (hd : decode (xMB i) pc = .ok (.laload, 1)) (kk : i_lald (xKW G p l e R s m args below meth c i n0 s0 hf sf Q) pc ls h st) : xKW G p l e R s m args below meth c i n0 s0 hf sf Q pc ls st h := by
  obtain ⟨hx, hb, hml, hown, hts⟩ := X.1
  have hKK : xKK G s := X.2.2.2.1
  unfold i_lald at kk
  split at kk
  case h_2 => exact kk.elim
  rename_i j a st
  split at kk
  case h_2 => exact kk.elim
  rename_i n f ha
  obtain ⟨h2, hin, kk⟩ := kk
  exact xs_stk (fun H locs arr cells slots hL hP kw => va_lald hx hb hKK.1 hP.2.1 _ 4 (xws_get (G := G) h2 ha) rfl hin hd kw) kk
theorem xs_aald (X : xCx G p R s m args meth c i d n0 s0 hf sf) (hd : decode (xMB i) pc = .ok (.aaload, 1)) (kk : i_aald (xKW G p l e R s m args below meth c i n0 s0 hf sf Q) pc ls h st) : xKW G p l e R s m args below meth c i n0 s0 hf sf Q pc ls st h := by
  obtain ⟨hx, hb, hml, hown, hts⟩ := X.1
  have hKK : xKK G s := X.2.2.2.1
  unfold i_aald at kk
  split at kk
  case h_2 => exact kk.elim
  rename_i j a st
  split at kk
  case h_2 => exact kk.elim
  rename_i t n f ha
  obtain ⟨h2, ht, hin, kk⟩ := kk
  refine xs_stk (fun H locs arr cells slots hL hP kw => ?_) kk
  rw [List.map_cons, xcv_rf] at kw
  rcases ht with rfl | rfl
  · exact va_aldq hx hb hKK.1 hP.2.1 _ 2 (xws_get (G := G) h2 ha) rfl hin hd kw
  · exact va_aldq hx hb hKK.1 hP.2.1 _ 3 (xws_get (G := G) h2 ha) rfl hin hd kw
theorem xs_iast (X : xCx G p R s m args meth c i d n0 s0 hf sf) (hd : decode (xMB i) pc = .ok (.iastore, 1)) (kk : i_iast (xKW G p l e R s m args below meth c i n0 s0 hf sf Q) pc ls h st) : xKW G p l e R s m args below meth c i n0 s0 hf sf Q pc ls st h := by
  obtain ⟨hx, hb, hml, hown, hts⟩ := X.1
  have hKK : xKK G s := X.2.2.2.1
  unfold i_iast at kk
  split at kk
  case h_2 => exact kk.elim
  rename_i x j a st
  split at kk
  case h_2 => exact kk.elim
  rename_i n f ha
  obtain ⟨h2, hin, kk⟩ := kk
  refine xs_wr X (fun H locs arr cells slots hP hS hL kw => ?_) (by exact List.length_set) (by exact xsl_set ha rfl) kk
  exact va_iast hx hb hKK.1 hP.2.1 (xws_D G h) hS _ 0 (xws_get (G := G) h2 ha) rfl hin hd (fun H1 locs1 w1 _ w3 => kw H1 locs1 w3 (hP.set h2 w1 (X.keep w3)))
theorem xs_last (X : xCx G p R s m args meth c i d n0 s0 hf sf) (hd : decode (xMB i) pc = .ok (.lastore, 1)) (kk : i_last (xKW G p l e R s m args below meth c i n0 s0 hf sf Q) pc ls h st) : xKW G p l e R s m args below meth c i n0 s0 hf sf Q pc ls st h := by
  obtain ⟨hx, hb, hml, hown, hts⟩ := X.1
  have hKK : xKK G s := X.2.2.2.1
  unfold i_last at kk
  split at kk
  case h_2 => exact kk.elim
  rename_i x j a st
  split at kk
  case h_2 => exact kk.elim
  rename_i n f ha
  obtain ⟨h2, hin, kk⟩ := kk
  refine xs_wr X (fun H locs arr cells slots hP hS hL kw => ?_) (by exact List.length_set) (by exact xsl_set ha rfl) kk
  exact va_last hx hb hKK.1 hP.2.1 (xws_D G h) hS _ 4 (xws_get (G := G) h2 ha) rfl hin hd (fun H1 locs1 w1 _ w3 => kw H1 locs1 w3 (hP.set h2 w1 (X.keep w3)))
theorem xs_zast (X : xCx G p R s m args meth c i d n0 s0 hf sf) (hd : decode (xMB i) pc = .ok (.bastore, 1)) (kk : i_zast (xKW G p l e R s m args below meth c i n0 s0 hf sf Q) pc ls h st) : xKW G p l e R s m args below meth c i n0 s0 hf sf Q pc ls st h := by
  obtain ⟨hx, hb, hml, hown, hts⟩ := X.1
  have hKK : xKK G s := X.2.2.2.1
  unfold i_zast at kk
  split at kk
  case h_2 => exact kk.elim
  rename_i x j a st
  split at kk
  case h_2 => exact kk.elim
  rename_i n f ha
  obtain ⟨h2, hin, kk⟩ := kk
  refine xs_wr X (fun H locs arr cells slots hP hS hL kw => ?_) (by exact List.length_set) (by exact xsl_set ha rfl) kk
  exact va_zast hx hb hKK.1 hP.2.1 (xws_D G h) hS _ 1 (xws_get (G := G) h2 ha) rfl hin hd (fun H1 locs1 w1 _ w3 => kw H1 locs1 w3 (hP.set h2 w1 (X.keep w3)))
theorem xup_map {G : xWd} {f : Nat → Option Nat} {k : Nat} {v : Option Nat} : (fun j => (va_up f k v j).map (xad G)) = va_up (fun j => (f j).map (xad G)) k (v.map (xad G)) := by
  funext j
  unfold va_up
  by_cases hj : j = k
  · rw [if_pos hj, if_pos hj]
  · rw [if_neg hj, if_neg hj]
theorem xs_aast (X : xCx G p R s m args meth c i d n0 s0 hf sf) (hd : decode (xMB i) pc = .ok (.aastore, 1)) (kk : i_aast (xKW G p l e R s m args below meth c i n0 s0 hf sf Q) pc ls h st) : xKW G p l e R s m args below meth c i n0 s0 hf sf Q pc ls st h := by
  obtain ⟨hx, hb, hml, hown, hts⟩ := X.1
  have hKK : xKK G s := X.2.2.2.1
  unfold i_aast at kk
  split at kk
  case h_2 => exact kk.elim
  rename_i v j a st
  split at kk
  case h_2 => exact kk.elim
  rename_i t n f ha
  obtain ⟨h2, hin, kk⟩ := kk
  split at kk
  · obtain ⟨ht, kk⟩ := kk
    refine xs_wr X (fun H locs arr cells slots hP hS hL kw => ?_) (by exact List.length_set) (by exact xsl_set ha rfl) kk
    have fin : ∀ (H1 : Heap) (locs1 : List Loc), va_P (gD G) vwCl ((xws G h).set (a - 2) (xad G a, .inl (gA G t, n, .inr (.inr (.inr (.inr (va_up (fun j => (f j).map (xad G)) j.toNatClampNeg none))))))) H1 → va_D (xA G) ((xws G h).set (a - 2) (xad G a, .inl (gA G t, n, .inr (.inr (.inr (.inr (va_up (fun j => (f j).map (xad G)) j.toNatClampNeg none))))))) → va_S (xA G) s.heap H1 locs1 → W p l e R s m args below meth c H1 locs1 cells slots Q (F0 m (pc + 1) arr (st.map (xcv G))) := fun H1 locs1 w1 _ w3 => by
      refine kw H1 locs1 w3 (hP.set h2 ?_ (X.keep w3))
      show va_P (gD G) vwCl ((xws G h).set (a - 2) (xad G a, .inl (gA G t, n, .inr (.inr (.inr (.inr (fun i => (va_up f j.toNatClampNeg none i).map (xad G)))))))) H1
      rw [xup_map]
      exact w1
    rcases ht with rfl | rfl
    · exact va_astqN hx hb hKK.1 hP.2.1 (xws_D G h) hS _ 2 (xws_get (G := G) h2 ha) rfl hin hd fin
    · exact va_astqN hx hb hKK.1 hP.2.1 (xws_D G h) hS _ 3 (xws_get (G := G) h2 ha) rfl hin hd fin
  · rename_i b
    obtain ⟨hb2, hcl, kk⟩ := kk
    split at hcl
    case h_2 => exact hcl.elim
    rename_i cj fs hbv
    obtain ⟨h9, ht⟩ := hcl
    refine xs_wr X (fun H locs arr cells slots hP hS hL kw => ?_) (by exact List.length_set) (by exact xsl_set ha rfl) kk
    have fin : ∀ (H1 : Heap) (locs1 : List Loc), va_P (gD G) vwCl ((xws G h).set (a - 2) (xad G a, .inl (gA G t, n, .inr (.inr (.inr (.inr (va_up (fun j => (f j).map (xad G)) j.toNatClampNeg (some (xad G b))))))))) H1 → va_D (xA G) ((xws G h).set (a - 2) (xad G a, .inl (gA G t, n, .inr (.inr (.inr (.inr (va_up (fun j => (f j).map (xad G)) j.toNatClampNeg (some (xad G b))))))))) → va_S (xA G) s.heap H1 locs1 → W p l e R s m args below meth c H1 locs1 cells slots Q (F0 m (pc + 1) arr (st.map (xcv G))) := fun H1 locs1 w1 _ w3 => by
      refine kw H1 locs1 w3 (hP.set h2 ?_ (X.keep w3))
      show va_P (gD G) vwCl ((xws G h).set (a - 2) (xad G a, .inl (gA G t, n, .inr (.inr (.inr (.inr (fun i => (va_up f j.toNatClampNeg (some b) i).map (xad G)))))))) H1
      rw [xup_map]
      exact w1
    obtain ⟨r, hr⟩ : ∃ r, vwCl[cj]? = some r := ⟨_, List.getElem?_eq_getElem (by exact h9)⟩
    rcases ht with rfl | ⟨rfl, rfl⟩
    · exact va_astqO (ci := cj) hx hb hKK.1 hP.2.1 (xws_D G h) hS _ 2 _ (xws_get (G := G) h2 ha) rfl (hKK.2.1.2.2 r (List.mem_of_getElem? hr)) (xws_get (G := G) hb2 hbv) hr hin hd fin
    · exact va_astq (ci := 5) (r := (RX4, TX4, 3)) hx hb hKK.1 hP.2.1 (xws_D G h) hS _ 3 _ (xws_get (G := G) h2 ha) rfl (xws_get (G := G) hb2 hbv) rfl hin hd fin
  · exact kk.elim
theorem xs_alen (X : xCx G p R s m args meth c i d n0 s0 hf sf) (hd : decode (xMB i) pc = .ok (.arraylength, 1)) (kk : i_alen (xKW G p l e R s m args below meth c i n0 s0 hf sf Q) pc ls h st) : xKW G p l e R s m args below meth c i n0 s0 hf sf Q pc ls st h := by
  obtain ⟨hx, hb, hml, hown, hts⟩ := X.1
  have hKK : xKK G s := X.2.2.2.1
  unfold i_alen at kk
  split at kk
  case h_2 => exact kk.elim
  rename_i a st
  split at kk
  case h_2 => exact kk.elim
  rename_i t n z ha
  obtain ⟨ht, kk⟩ := kk
  refine xs_stk (fun H locs arr cells slots hL hP kw => ?_) kk
  rcases Nat.lt_or_ge a 2 with q | q
  · rcases xlt2 q with rfl | rfl
    · rw [hP.2.2.2.1] at ha
      cases ha
      obtain ⟨scr, g1, g2, g3, g4, g5⟩ := hKK.2.2.2.2.2.2
      exact W.alen (n := Int32.ofNat (gL G)) hx hb (a := xad G 0) (cell := scr) (by show H[gS G]? = _; rw [hP.2.2.1 _ (X.2.2.2.2.1.2.1)]; exact g1) g2 (by rw [g4] <;> rfl) rfl rfl hd kw
    · rw [hP.2.2.2.2] at ha
      cases ha
      obtain ⟨cell, g1, g2, g3, g4, g5, g6, g7⟩ := hKK.2.2.2.2.2.1
      exact W.alen (n := Int32.ofNat 0) hx hb (a := xad G 1) (cell := cell) (by show H[gE G]? = _; rw [hP.2.2.1 _ (X.2.2.2.2.1.2.2.1)]; exact g1) g2 g5 rfl rfl hd kw
  · have he := xws_get (G := G) q ha
    obtain ⟨ty, hty⟩ : ∃ ty, (xty G)[t]? = some (gA G t, ty) := by
      rcases (show t = 0 ∨ t = 1 ∨ t = 2 ∨ t = 3 ∨ t = 4 by omega) with rfl | rfl | rfl | rfl | rfl <;> exact ⟨_, rfl⟩
    obtain z | z | z | z | z := z
    · exact va_alen hx hb hKK.1 hP.2.1 _ t he hty rfl hd kw
    · exact va_alen hx hb hKK.1 hP.2.1 _ t he hty rfl hd kw
    · exact va_alen hx hb hKK.1 hP.2.1 _ t he hty rfl hd kw
    · exact va_alen hx hb hKK.1 hP.2.1 _ t he hty rfl hd kw
    · exact va_alen hx hb hKK.1 hP.2.1 _ t he hty rfl hd kw
/-- a row that makes a cell -/
theorem xs_mk {pc' : Nat} {st' : List Value} {e0 : xC} (X : xCx G p R s m args meth c i d n0 s0 hf sf) (hr : ∀ (H : Heap) (locs : List Loc) (arr : Array Slot) (cells slots : Nat), xHP G h H → va_S (xA G) s.heap H locs → cells + 1 ≤ R.cells → slots + xsz e0 ≤ R.slots → (∀ (q : Nat) (H1 : Heap), va_S (xA G) s.heap H1 locs → va_P (gD G) vwCl (xws G h ++ [(q, xcc G e0)]) H1 → va_D (xA G) (xws G h ++ [(q, xcc G e0)]) → W p l e R s m args below meth c H1 locs (cells + 1) (slots + xsz e0) Q (F0 m pc' arr (.ref q :: st'.map (xcv G)))) → W p l e R s m args below meth c H locs cells slots Q (F0 m pc arr (st.map (xcv G)))) (k : xKW G p l e R s m args below meth c i n0 s0 hf sf Q pc' ls (.ref h.length :: st') (h ++ [e0])) : xKW G p l e R s m args below meth c i n0 s0 hf sf Q pc ls st h := by
  obtain ⟨k1, k2, k3⟩ := k
  rw [List.length_append] at k1
  rw [xsl_push] at k2
  have k1' : h.length + 1 ≤ hf := k1
  obtain ⟨-, -, -, -, hG, -, -, hrc, hrs, hn2, hsz, hbs, hsame⟩ := id X
  refine ⟨by omega, by omega, fun H locs arr hn hs hP hl hL => ?_⟩
  refine W.sized (fun z1 z2 => ?_)
  refine hr H locs arr _ _ hP (X.S hP z1 hl) (by omega) (by omega) (fun q H1 w1 w2 w3 => ?_)
  refine W.sized (fun z3 z4 => ?_)
  have hq := xnew_at hP.1 w2 w3 (by omega)
  subst hq
  have hP1 := hP.push w2 (X.keep w1)
  have := k3 H1 locs arr (by rw [List.length_append]; omega) (by rw [xsl_push]; omega) hP1 hl hL
  rw [List.length_append, xsl_push] at this
  rw [show h.length - n0 + 1 = h.length + [e0].length - n0 by rw [List.length_singleton]; omega, show xsl h - s0 + xsz e0 = xsl h + xsz e0 - s0 by omega]
  exact this
theorem xs_new {idx : Nat} (X : xCx G p R s m args meth c i d n0 s0 hf sf) (hd : decode (xMB i) pc = .ok (.new idx, 3)) (kk : i_new (xKW G p l e R s m args below meth c i n0 s0 hf sf Q) (xMO i) pc ls h idx st) : xKW G p l e R s m args below meth c i n0 s0 hf sf Q pc ls st h := by
  obtain ⟨hx, hb, hml, hown, hts⟩ := X.1
  have hKK : xKK G s := X.2.2.2.1
  unfold i_new at kk
  split at kk
  case h_2 => exact kk.elim
  rename_i ci hci
  split at kk
  case h_2 => exact kk.elim
  rename_i fs hfs
  have hw : ∃ w, (xMO i, idx, ci, w) ∈ xK := by
    unfold xcls at hci
    cases hq : xK.find? (fun q => q.1 == xMO i && q.2.1 == idx) with
    | none => rw [hq] at hci; cases hci
    | some q =>
      rw [hq] at hci
      obtain ⟨h1, h2⟩ := xfind_mem hq
      obtain ⟨q1, q2, q3, q4⟩ := q
      simp only [Bool.and_eq_true, beq_iff_eq] at h2
      obtain ⟨rfl, rfl⟩ := h2
      cases hci
      exact ⟨q4, h1⟩
  obtain ⟨w, hw⟩ := hw
  have hok := List.all_eq_true.mp xK_ok _ hw
  unfold xKok at hok
  dsimp only at hok
  split at hok
  · rename_i C T N w1 w2 hc hnw
    obtain ⟨ts, fi, ds, e1, e2, e3, e4, e5⟩ := xT_at hc
    cases hfs.symm.trans e3
    have h0 : w1 ≠ 0 := by
      have h9 : ci < 9 := (List.getElem?_eq_some_iff.mp hc).1
      have := List.all_eq_true.mp (show (List.range 9).all (fun j => (xNw[j]?).all (fun q => q.1 != 0)) = true by decide +kernel) ci (List.mem_range.mpr h9)
      rw [hnw] at this
      simpa using this
    simp only [Bool.and_eq_true, Bool.or_eq_true, beq_iff_eq, h0, false_or] at hok
    obtain ⟨o1, o2, o3⟩ := hok
    refine xs_mk X (fun H locs arr cells slots hP hS hc1 hs1 kw => ?_) kk
    have hfs0 : fs.map (xcv G) = fs := by
      apply List.ext_getElem?
      intro k
      rw [List.getElem?_map]
      rcases Nat.lt_or_ge k N with hk | hk
      · obtain ⟨⟨ty, -, -, b3⟩, -⟩ := e5 k hk
        rw [b3]
        show some (xcv G (defaultValue ty)) = _
        cases ty <;> rfl
      · rw [List.getElem?_eq_none (by omega)]; rfl
    have hz : xsz (.inr (ci, fs)) = N := e4
    rw [hz] at hs1 kw
    refine va_new (fs := fs) hx hb hts (xU_in hc) (fun k => (ts[k]?).getD .int) (fun k hk => by
      obtain ⟨⟨ty, a1, a2, -⟩, -⟩ := e5 k hk
      rw [a1]; exact a2) hown (hts _ (xok_in o1)) (hts _ (xok_in o2)) (hts _ (xok_in o3)) hKK.1 hP.2.1 (xws_D G h) hS X.hA hc (fun j hj => ?_) hc1 hs1 hd (fun q H1 w1 w2 w3 => ?_)
    · obtain ⟨⟨ty, a1, -, a3⟩, -⟩ := e5 j hj
      rw [a1]
      show defaultValue ty = fs.getD j .null
      rw [List.getD_eq_getElem?_getD, a3]
      rfl
    · have e : xcc G (.inr (ci, fs)) = .inr (ci, fs) := by
        show Sum.inr (ci, fs.map (xcv G)) = _
        rw [hfs0]
      rw [e] at kw
      exact kw q H1 w3 w1 w2
  · have : ci = 99 := by simpa using hok
    subst this
    simp [xDef] at hfs
theorem xs_newa {ty : ArrayType} (X : xCx G p R s m args meth c i d n0 s0 hf sf) (hd : decode (xMB i) pc = .ok (.newarray ty, 2)) (kk : i_newa (xKW G p l e R s m args below meth c i n0 s0 hf sf Q) pc ls h ty st) : xKW G p l e R s m args below meth c i n0 s0 hf sf Q pc ls st h := by
  obtain ⟨hx, hb, hml, hown, hts⟩ := X.1
  have hKK : xKK G s := X.2.2.2.1
  unfold i_newa at kk
  split at kk
  case h_2 => exact kk.elim
  rename_i n st
  obtain ⟨hn, hn2, kk⟩ := kk
  split at kk
  · refine xs_mk X (fun H locs arr cells slots hP hS hc1 hs1 kw => ?_) kk
    refine va_newa (atype := .int) (ty := .int) (a0 := (n.toNatClampNeg, .inl (fun _ => 0))) hx hb (hts _ (List.mem_filter.mpr ⟨by decide +kernel, rfl⟩)) rfl hKK.1 hP.2.1 (xws_D G h) hS X.hA (fun cA => rfl) hn rfl (by show _ * 4 ≤ _; omega) hc1 hs1 hd (fun q cA H1 w0 w1 w2 w3 => ?_)
    have e1 : cA = gA G 0 := by
      have a := (w0.2 5 (cA, .int) rfl).2
      have b := (hKK.1.2 0 (gA G 0, .int) rfl).2
      exact Option.some.inj (a.symm.trans b)
    subst e1
    exact kw q H1 w3 w1 w2
  · refine xs_mk X (fun H locs arr cells slots hP hS hc1 hs1 kw => ?_) kk
    refine va_newa (atype := .boolean) (ty := .boolean) (a0 := (n.toNatClampNeg, .inl (fun _ => 0))) hx hb (hts _ (List.mem_filter.mpr ⟨by decide +kernel, rfl⟩)) rfl hKK.1 hP.2.1 (xws_D G h) hS X.hA (fun cA => rfl) hn rfl (by show _ * 1 ≤ _; omega) hc1 hs1 hd (fun q cA H1 w0 w1 w2 w3 => ?_)
    have e1 : cA = gA G 1 := by
      have a := (w0.2 5 (cA, .boolean) rfl).2
      have b := (hKK.1.2 1 (gA G 1, .boolean) rfl).2
      exact Option.some.inj (a.symm.trans b)
    subst e1
    exact kw q H1 w3 w1 w2
  · refine xs_mk X (fun H locs arr cells slots hP hS hc1 hs1 kw => ?_) kk
    refine va_newa (atype := .long) (ty := .long) (a0 := (n.toNatClampNeg, .inr (.inl (fun _ => 0)))) hx hb (hts _ (List.mem_filter.mpr ⟨by decide +kernel, rfl⟩)) rfl hKK.1 hP.2.1 (xws_D G h) hS X.hA (fun cA => rfl) hn rfl (by show _ * 8 ≤ _; omega) hc1 hs1 hd (fun q cA H1 w0 w1 w2 w3 => ?_)
    have e1 : cA = gA G 4 := by
      have a := (w0.2 5 (cA, .long) rfl).2
      have b := (hKK.1.2 4 (gA G 4, .long) rfl).2
      exact Option.some.inj (a.symm.trans b)
    subst e1
    exact kw q H1 w3 w1 w2
  · exact kk.elim
theorem xs_newq {idx : Nat} (X : xCx G p R s m args meth c i d n0 s0 hf sf) (hd : decode (xMB i) pc = .ok (.anewarray idx, 3)) (kk : i_newq (xKW G p l e R s m args below meth c i n0 s0 hf sf Q) (xMO i) pc ls h idx st) : xKW G p l e R s m args below meth c i n0 s0 hf sf Q pc ls st h := by
  obtain ⟨hx, hb, hml, hown, hts⟩ := X.1
  have hKK : xKK G s := X.2.2.2.1
  unfold i_newq at kk
  split at kk
  case h_2 => exact kk.elim
  rename_i n st
  obtain ⟨hn, hn2, kk⟩ := kk
  rcases kk with ⟨ho, rfl, kk⟩ | ⟨ho, rfl, kk⟩
  · refine xs_mk X (fun H locs arr cells slots hP hS hc1 hs1 kw => ?_) kk
    rw [ho] at hown
    refine va_newq (C := "VineGarden$Sheet") (N' := n.toNatClampNeg) hx hb hown (hts _ (List.mem_filter.mpr ⟨by decide +kernel, rfl⟩)) hKK.2.2.2.1 hKK.1 hP.2.1 (xws_D G h) hS X.hA hn rfl (by omega) hc1 hs1 hd (fun q cA H1 w0 w1 w2 w3 => ?_)
    have e1 : cA = gA G 3 := by
      obtain ⟨kA, comp, -, -, -, a⟩ := (w0.2 5 (cA, .object "VineGarden$Sheet") rfl).2
      obtain ⟨kB, comp2, -, -, -, b⟩ := (hKK.1.2 3 (gA G 3, .object "VineGarden$Sheet") rfl).2
      exact Option.some.inj (a.symm.trans b)
    subst e1
    exact kw q H1 w3 w1 w2
  · refine xs_mk X (fun H locs arr cells slots hP hS hc1 hs1 kw => ?_) kk
    rw [ho] at hown
    refine va_newq (C := "java/lang/Object") (N' := n.toNatClampNeg) hx hb hown (hts _ (List.mem_filter.mpr ⟨by decide +kernel, rfl⟩)) hKK.2.2.1 hKK.1 hP.2.1 (xws_D G h) hS X.hA hn rfl (by omega) hc1 hs1 hd (fun q cA H1 w0 w1 w2 w3 => ?_)
    have e1 : cA = gA G 2 := by
      obtain ⟨kA, comp, -, -, -, a⟩ := (w0.2 5 (cA, .object "java/lang/Object") rfl).2
      obtain ⟨kB, comp2, -, -, -, b⟩ := (hKK.1.2 2 (gA G 2, .object "java/lang/Object") rfl).2
      exact Option.some.inj (a.symm.trans b)
    subst e1
    exact kw q H1 w3 w1 w2
theorem xs_cast {idx : Nat} (X : xCx G p R s m args meth c i d n0 s0 hf sf) (hd : decode (xMB i) pc = .ok (.checkcast idx, 3)) (kk : i_cast (xKW G p l e R s m args below meth c i n0 s0 hf sf Q) (xMO i) pc ls h idx st) : xKW G p l e R s m args below meth c i n0 s0 hf sf Q pc ls st h := by
  obtain ⟨hx, hb, hml, hown, hts⟩ := X.1
  have hKK : xKK G s := X.2.2.2.1
  unfold i_cast at kk
  split at kk
  · rename_i a st
    split at kk
    case h_2 => exact kk.elim
    rename_i cj fs ha
    obtain ⟨h2, h9, hci, kk⟩ := kk
    have hw : ∃ w, (xMO i, idx, cj, w) ∈ xK := by
      unfold xcls at hci
      cases hq : xK.find? (fun q => q.1 == xMO i && q.2.1 == idx) with
      | none => rw [hq] at hci; cases hci
      | some q =>
        rw [hq] at hci
        obtain ⟨h1, h2⟩ := xfind_mem hq
        obtain ⟨q1, q2, q3, q4⟩ := q
        simp only [Bool.and_eq_true, beq_iff_eq] at h2
        obtain ⟨rfl, rfl⟩ := h2
        cases hci
        exact ⟨q4, h1⟩
    obtain ⟨w, hw⟩ := hw
    have hok := List.all_eq_true.mp xK_ok _ hw
    unfold xKok at hok
    dsimp only at hok
    split at hok
    · rename_i C T N w1 w2 hc hnw
      simp only [Bool.and_eq_true] at hok
      refine xs_stk (fun H locs arr cells slots hL hP kw => ?_) kk
      exact va_castS hx hb hown (hts _ (xok_in hok.1)) (hKK.1.1 cj _ hc).2 (va_recv hKK.1 hP.2.1 hc (xws_get (G := G) h2 ha)) hd kw
    · have : cj = 99 := by simpa using hok
      omega
  · exact xs_stk (fun H locs arr cells slots hL hP kw => lv_castN hx hb hd kw) kk
  · exact kk.elim
theorem xs_gets {idx : Nat} (X : xCx G p R s m args meth c i d n0 s0 hf sf) (hd : decode (xMB i) pc = .ok (.getstatic idx, 3)) (kk : i_gets (xKW G p l e R s m args below meth c i n0 s0 hf sf Q) (xMO i) pc ls h idx st) : xKW G p l e R s m args below meth c i n0 s0 hf sf Q pc ls st h := by
  obtain ⟨hx, hb, hml, hown, hts⟩ := X.1
  have hKK : xKK G s := X.2.2.2.1
  obtain ⟨ho, rfl, kk⟩ := kk
  refine ⟨kk.1, kk.2.1, fun H locs arr hn hs hP hl hL => ?_⟩
  refine W.sized (fun z1 z2 => ?_)
  rw [ho] at hown
  obtain ⟨-, -, -, -, hG, -, -, hrc, hrs, hn2, hsz, hbs, hsame⟩ := id X
  have hZ : va_Z "java/util/ArrayList" "DEFAULTCAPACITY_EMPTY_ELEMENTDATA" "[Ljava/lang/Object;" (.ref (gE G)) (xA G) s s.heap := hKK.2.2.2.2.1.kept (fun a h1 _ => by rw [hG.1] at h1; exact hsame a h1)
  exact va_gets hx hb hZ (X.S hP z1 hl) hown (hts _ (List.mem_filter.mpr ⟨by decide +kernel, rfl⟩)) (fun _ z => z) hd (kk.2.2 H locs arr hn hs hP hl hL)
end SND3
