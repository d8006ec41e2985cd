/-! ===== each instruction of the numbered machine is the real one's ===== -/
theorem W.sized {p : Program} {l : Launch} {e : Env} {R : Room} {s : State} {m : MethodId} {args : Array Value} {below : List Frame} {meth : Method} {c : Code} {H : Heap} {locs : List Loc} {cells slots : Nat} {Q : State → Prop} {g : JFrame} (k : s.heap.size ≤ H.size → H.size ≤ s.heap.size + cells → W p l e R s m args below meth c H locs cells slots Q g) : W p l e R s m args below meth c H locs cells slots Q g := by
  intro T hT X
  refine k ?_ ?_ T hT X
  · have h := X.same.2.1
    rw [← hT]; exact h
  · have h := X.same.2.2.1
    rw [← hT]; exact h
/-- what holds of the method that is walked, all along -/
def xCx (G : xWd) (p : Program) (R : Room) (s : State) (m : MethodId) (args : Array Value) (meth : Method) (c : Code) (i d n0 s0 hf sf : Nat) : Prop :=
  (p.tables.exec = Jvm.exec ∧ c.code = xMB i ∧ c.maxLocals = xML i ∧ s.vm.findClass (xownS (xMO i)) = some m.cls ∧ (∀ w ∈ xG, w.before args s = true)) ∧ meth.locks = false ∧ ((xMY i).name = "<init>" → meth.name = "<init>") ∧ xKK G s ∧ xGk G ∧ d + 1 ≤ R.frames ∧ 38 * (d + 1) ≤ R.locals ∧ hf - n0 ≤ R.cells ∧ sf - s0 ≤ R.slots ∧ 2 ≤ n0 ∧ s.heap.size ≤ gB G + (n0 - 2) ∧ gB G ≤ s.heap.size ∧ (∀ q : Nat, q < gB G → s.heap[q]? = (gH G)[q]?)
def xKW (G : xWd) (p : Program) (l : Launch) (e : Env) (R : Room) (s : State) (m : MethodId) (args : Array Value) (below : List Frame) (meth : Method) (c : Code) (i n0 s0 hf sf : Nat) (Q : State → Prop) (pc : Nat) (ls : xL) (st : List Value) (h : xH) : Prop :=
  h.length ≤ hf ∧ xsl h ≤ sf ∧ ∀ (H : Heap) (locs : List Loc) (arr : Array Slot), n0 ≤ h.length → s0 ≤ xsl h → xHP G h H → (∀ q ∈ locs, gB G ≤ q.base) → xLH G arr (xML i) ls →
    W p l e R s m args below meth c H locs (h.length - n0) (xsl h - s0) Q (F0 m pc arr (st.map (xcv G)))
theorem xCx.S {G : xWd} {p : Program} {R : Room} {s : State} {m : MethodId} {args : Array Value} {meth : Method} {c : Code} {i d n0 s0 hf sf : Nat} (X : xCx G p R s m args meth c i d n0 s0 hf sf) {h : xH} {H : Heap} {locs : List Loc} (hP : xHP G h H) (hz : s.heap.size ≤ H.size) (hl : ∀ q ∈ locs, gB G ≤ q.base) : va_S (xA G) s.heap H locs := by
  obtain ⟨-, -, -, -, -, -, -, -, -, -, -, -, hs⟩ := X
  exact ⟨hz, fun q _ hA => by
    have : q < gB G := Nat.not_le.mp hA
    rw [hP.2.2.1 q this, hs q this], hl⟩
theorem xCx.hA {G : xWd} {p : Program} {R : Room} {s : State} {m : MethodId} {args : Array Value} {meth : Method} {c : Code} {i d n0 s0 hf sf : Nat} (X : xCx G p R s m args meth c i d n0 s0 hf sf) : ∀ q : Nat, s.heap.size ≤ q → xA G q := by
  obtain ⟨-, -, -, -, -, -, -, -, -, -, -, hb, -⟩ := X
  exact fun q hq => Nat.le_trans hb hq
/-- a cell of the list is written: the world goes on -/
theorem xHP.set {G : xWd} {h : xH} {H H1 : Heap} {a : Nat} {e : xC} (hP : xHP G h H) (h2 : 2 ≤ a) (hw : va_P (gD G) vwCl ((xws G h).set (a - 2) (xad G a, xcc G e)) H1) (hk : ∀ q : Nat, q < gB G → H1[q]? = (gH G)[q]?) : xHP G (h.set a e) H1 := by
  obtain ⟨p1, p2, p3, p4, p5⟩ := hP
  refine ⟨by rw [List.length_set]; exact p1, by rw [xws_set h2]; exact hw, hk, ?_, ?_⟩
  · rw [List.getElem?_set_ne (by omega)]; exact p4
  · rw [List.getElem?_set_ne (by omega)]; exact p5
theorem xHP.push {G : xWd} {h : xH} {H H1 : Heap} {e : xC} (hP : xHP G h H) (hw : va_P (gD G) vwCl (xws G h ++ [(xad G h.length, xcc G e)]) H1) (hk : ∀ q : Nat, q < gB G → H1[q]? = (gH G)[q]?) : xHP G (h ++ [e]) H1 := by
  obtain ⟨p1, p2, p3, p4, p5⟩ := hP
  refine ⟨by rw [List.length_append]; omega, by rw [xws_push p1]; exact hw, hk, ?_, ?_⟩
  · rw [List.getElem?_append_left (by omega)]; exact p4
  · rw [List.getElem?_append_left (by omega)]; exact p5
/-- behind a row that gives va_S: the heap below the base stays -/
theorem xCx.keep {G : xWd} {p : Program} {R : Room} {s : State} {m : MethodId} {args : Array Value} {meth : Method} {c : Code} {i d n0 s0 hf sf : Nat} (X : xCx G p R s m args meth c i d n0 s0 hf sf) {H1 : Heap} {locs1 : List Loc} (hS : va_S (xA G) s.heap H1 locs1) : ∀ q : Nat, q < gB G → H1[q]? = (gH G)[q]? := by
  obtain ⟨-, -, -, -, -, -, -, -, -, -, -, hb, hs⟩ := X
  intro q hq
  rw [hS.2.1 q (Nat.lt_of_lt_of_le hq hb) (Nat.not_le.mpr hq), hs q hq]
/-- the address of a new cell is the next one -/
theorem xnew_at {G : xWd} {h : xH} {H1 : Heap} {q : Nat} {e : va_E} (h2 : 2 ≤ h.length) (hP : va_P (gD G) vwCl (xws G h ++ [(q, e)]) H1) (hD : va_D (xA G) (xws G h ++ [(q, e)])) (hz : H1.size ≤ gB G + (h.length - 2) + 1) : q = xad G h.length := by
  rw [xad_2 h2]
  have hlast : (xws G h ++ [(q, e)])[h.length - 2]? = some (q, e) := by
    rw [List.getElem?_append_right (by rw [xws_len]; exact Nat.le_refl _), xws_len, Nat.sub_self]
    rfl
  have hlt : q < H1.size := (hP _ _ hlast).lt
  have hge : gB G ≤ q := hD.2 _ _ hlast
  by_cases hq : q = gB G + (h.length - 2)
  · exact hq
  · exfalso
    obtain ⟨x, hx⟩ : ∃ x, (xws G h)[q - gB G]? = some x := ⟨_, List.getElem?_eq_getElem (by rw [xws_len]; omega)⟩
    have hx1 := xws_at hx
    have hx2 : (xws G h ++ [(q, e)])[q - gB G]? = some x := by
      rw [List.getElem?_append_left (by rw [xws_len]; omega)]
      exact hx
    have := hD.1 _ _ _ _ hx2 hlast (by show x.1 = q; omega)
    omega
section SND
variable {G : xWd} {p : Program} {l : Launch} {e : Env} {R : Room} {s : State} {m : MethodId} {args : Array Value} {below : List Frame} {meth : Method} {c : Code} {i d n0 s0 hf sf : Nat} {Q : State → Prop} {pc : Nat} {ls : xL} {h : xH} {st : List Value}
theorem xs_goto {off : Int} (X : xCx G p R s m args meth c i d n0 s0 hf sf) (hd : decode (xMB i) pc = .ok (.goto off, 3)) (k : 0 ≤ (pc : Int) + off ∧ xKW G p l e R s m args below meth c i n0 s0 hf sf Q ((pc : Int) + off).toNat ls st h) : xKW G p l e R s m args below meth c i n0 s0 hf sf Q pc ls st h := by
  obtain ⟨hx, hb, hml, hown, hts⟩ := X.1
  refine ⟨k.2.1, k.2.2.1, fun H locs arr hn hs hP hl hL => ?_⟩
  refine lv_goto (tgt := ((pc : Int) + off).toNat) hx hb hd (by omega) ?_
  exact k.2.2.2 H locs arr hn hs hP hl hL
/-- a row that leaves heap and locals alone -/
theorem xs_stk {pc' : Nat} {st' : List Value} (hr : ∀ (H : Heap) (locs : List Loc) (arr : Array Slot) (cells slots : Nat), xLH G arr (xML i) ls → xHP G h H → W p l e R s m args below meth c H locs cells slots Q (F0 m pc' arr (st'.map (xcv G))) → W p l e R s m args below meth c H locs cells slots Q (F0 m pc arr (st.map (xcv G)))) (k : xKW G p l e R s m args below meth c i n0 s0 hf sf Q pc' ls st' h) : xKW G p l e R s m args below meth c i n0 s0 hf sf Q pc ls st h :=
  ⟨k.1, k.2.1, fun H locs arr hn hs hP hl hL => hr H locs arr _ _ hL hP (k.2.2 H locs arr hn hs hP hl hL)⟩
theorem xs_aload {k len : Nat} (X : xCx G p R s m args meth c i d n0 s0 hf sf) (hd : (∃ k' : Fin 4, (k' : Nat) = k ∧ len = 1 ∧ decode (xMB i) pc = .ok (.aload_n k', 1)) ∨ (len = 2 ∧ decode (xMB i) pc = .ok (.aload k, 2))) (kk : i_aload (xKW G p l e R s m args below meth c i n0 s0 hf sf Q) pc ls h k len st) : xKW G p l e R s m args below meth c i n0 s0 hf sf Q pc ls st h := by
  obtain ⟨hx, hb, hml, hown, hts⟩ := X.1
  unfold i_aload at kk
  split at kk
  · rename_i a ha
    refine xs_stk (fun H locs arr cells slots hL hP kw => ?_) kk
    rcases hd with ⟨k', rfl, rfl, hd⟩ | ⟨rfl, hd⟩
    · exact lv_aload_n hx hb hd rfl (hL.at ha) kw
    · exact lv_aload hx hb hd (hL.at ha) kw
  · rename_i ha
    refine xs_stk (fun H locs arr cells slots hL hP kw => ?_) kk
    rcases hd with ⟨k', rfl, rfl, hd⟩ | ⟨rfl, hd⟩
    · exact lv_aload_nN hx hb hd rfl (hL.at ha) kw
    · exact lv_aloadN hx hb hd (hL.at ha) kw
  · exact kk.elim
theorem xs_iload {k len : Nat} (X : xCx G p R s m args meth c i d n0 s0 hf sf) (hd : (∃ k' : Fin 4, (k' : Nat) = k ∧ len = 1 ∧ decode (xMB i) pc = .ok (.iload_n k', 1)) ∨ (len = 2 ∧ decode (xMB i) pc = .ok (.iload k, 2))) (kk : i_iload (xKW G p l e R s m args below meth c i n0 s0 hf sf Q) pc ls h k len st) : xKW G p l e R s m args below meth c i n0 s0 hf sf Q pc ls st h := by
  obtain ⟨hx, hb, hml, hown, hts⟩ := X.1
  unfold i_iload at kk
  split at kk
  · rename_i a ha
    refine xs_stk (fun H locs arr cells slots hL hP kw => ?_) kk
    rcases hd with ⟨k', rfl, rfl, hd⟩ | ⟨rfl, hd⟩
    · exact lv_iload_n hx hb hd rfl (hL.at ha) kw
    · exact lv_iload hx hb hd (hL.at ha) kw
  · exact kk.elim
theorem xs_lload {k len : Nat} (X : xCx G p R s m args meth c i d n0 s0 hf sf) (hd : (∃ k' : Fin 4, (k' : Nat) = k ∧ len = 1 ∧ decode (xMB i) pc = .ok (.lload_n k', 1)) ∨ (len = 2 ∧ decode (xMB i) pc = .ok (.lload k, 2))) (kk : i_lload (xKW G p l e R s m args below meth c i n0 s0 hf sf Q) pc ls h k len st) : xKW G p l e R s m args below meth c i n0 s0 hf sf Q pc ls st h := by
  obtain ⟨hx, hb, hml, hown, hts⟩ := X.1
  unfold i_lload at kk
  split at kk
  · rename_i a ha
    refine xs_stk (fun H locs arr cells slots hL hP kw => ?_) kk
    rcases hd with ⟨k', rfl, rfl, hd⟩ | ⟨rfl, hd⟩
    · exact lv_lload_n hx hb hd rfl (hL.at ha) kw
    · exact lv_lload hx hb hd (hL.at ha) kw
  · exact kk.elim
/-- a row that writes a slot -/
theorem xs_loc {pc' : Nat} {st' : List Value} {ls' : xL} (hr : ∀ (H : Heap) (locs : List Loc) (arr : Array Slot) (cells slots : Nat), xLH G arr (xML i) ls → (∀ arr', xLH G arr' (xML i) ls' → W p l e R s m args below meth c H locs cells slots Q (F0 m pc' arr' (st'.map (xcv G)))) → W p l e R s m args below meth c H locs cells slots Q (F0 m pc arr (st.map (xcv G)))) (k : xKW G p l e R s m args below meth c i n0 s0 hf sf Q pc' ls' st' h) : xKW G p l e R s m args below meth c i n0 s0 hf sf Q pc ls st h :=
  ⟨k.1, k.2.1, fun H locs arr hn hs hP hl hL => hr H locs arr _ _ hL (fun arr' hL' => k.2.2 H locs arr' hn hs hP hl hL')⟩
theorem xs_astore {k len : Nat} (X : xCx G p R s m args meth c i d n0 s0 hf sf) (hd : (∃ k' : Fin 4, (k' : Nat) = k ∧ len = 1 ∧ decode (xMB i) pc = .ok (.astore_n k', 1)) ∨ (len = 2 ∧ decode (xMB i) pc = .ok (.astore k, 2))) (kk : i_astore (xKW G p l e R s m args below meth c i n0 s0 hf sf Q) pc ls h k len st) : xKW G p l e R s m args below meth c i n0 s0 hf sf Q pc ls st h := by
  obtain ⟨hx, hb, hml, hown, hts⟩ := X.1
  unfold i_astore at kk
  split at kk
  · obtain ⟨hk, kk⟩ := kk
    refine xs_loc (fun H locs arr cells slots hL kw => ?_) kk
    rcases hd with ⟨k', rfl, rfl, hd⟩ | ⟨rfl, hd⟩
    · exact lv_astore_n hx hb hd rfl hL.2 (by rw [← hL.1]; exact hk) rfl (fun arr' h' => kw arr' (xLH.st1 hL.1 h' rfl))
    · exact lv_astore hx hb hd hL.2 (by rw [← hL.1]; exact hk) rfl (fun arr' h' => kw arr' (xLH.st1 hL.1 h' rfl))
  · obtain ⟨hk, kk⟩ := kk
    refine xs_loc (fun H locs arr cells slots hL kw => ?_) kk
    rcases hd with ⟨k', rfl, rfl, hd⟩ | ⟨rfl, hd⟩
    · exact lv_astore_nN hx hb hd rfl hL.2 (by rw [← hL.1]; exact hk) rfl (fun arr' h' => kw arr' (xLH.st1 hL.1 h' rfl))
    · exact lv_astoreN hx hb hd hL.2 (by rw [← hL.1]; exact hk) rfl (fun arr' h' => kw arr' (xLH.st1 hL.1 h' rfl))
  · exact kk.elim
theorem xs_istore {k len : Nat} (X : xCx G p R s m args meth c i d n0 s0 hf sf) (hd : (∃ k' : Fin 4, (k' : Nat) = k ∧ len = 1 ∧ decode (xMB i) pc = .ok (.istore_n k', 1)) ∨ (len = 2 ∧ decode (xMB i) pc = .ok (.istore k, 2))) (kk : i_istore (xKW G p l e R s m args below meth c i n0 s0 hf sf Q) pc ls h k len st) : xKW G p l e R s m args below meth c i n0 s0 hf sf Q pc ls st h := by
  obtain ⟨hx, hb, hml, hown, hts⟩ := X.1
  unfold i_istore at kk
  split at kk
  · obtain ⟨hk, kk⟩ := kk
    refine xs_loc (fun H locs arr cells slots hL kw => ?_) kk
    rcases hd with ⟨k', rfl, rfl, hd⟩ | ⟨rfl, hd⟩
    · exact lv_istore_n hx hb hd rfl hL.2 (by rw [← hL.1]; exact hk) rfl (fun arr' h' => kw arr' (xLH.st1 hL.1 h' rfl))
    · exact lv_istore hx hb hd hL.2 (by rw [← hL.1]; exact hk) rfl (fun arr' h' => kw arr' (xLH.st1 hL.1 h' rfl))
  · exact kk.elim
theorem xs_lstore {k len : Nat} (X : xCx G p R s m args meth c i d n0 s0 hf sf) (hd : (∃ k' : Fin 4, (k' : Nat) = k ∧ len = 1 ∧ decode (xMB i) pc = .ok (.lstore_n k', 1)) ∨ (len = 2 ∧ decode (xMB i) pc = .ok (.lstore k, 2))) (kk : i_lstore (xKW G p l e R s m args below meth c i n0 s0 hf sf Q) pc ls h k len st) : xKW G p l e R s m args below meth c i n0 s0 hf sf Q pc ls st h := by
  obtain ⟨hx, hb, hml, hown, hts⟩ := X.1
  unfold i_lstore at kk
  split at kk
  · obtain ⟨hk, kk⟩ := kk
    refine xs_loc (fun H locs arr cells slots hL kw => ?_) kk
    rcases hd with ⟨k', rfl, rfl, hd⟩ | ⟨rfl, hd⟩
    · exact lv_lstore_n hx hb hd rfl hL.2 (by rw [← hL.1]; exact hk) rfl (fun arr' h' => kw arr' (xLH.st2 hL.1 h' rfl))
    · exact lv_lstore hx hb hd hL.2 (by rw [← hL.1]; exact hk) rfl (fun arr' h' => kw arr' (xLH.st2 hL.1 h' rfl))
  · exact kk.elim
theorem xs_iinc {k : Nat} {n : Int} (X : xCx G p R s m args meth c i d n0 s0 hf sf) (hd : decode (xMB i) pc = .ok (.iinc k n, 3)) (kk : i_iinc (xKW G p l e R s m args below meth c i n0 s0 hf sf Q) pc ls h k n st) : xKW G p l e R s m args below meth c i n0 s0 hf sf Q pc ls st h := by
  obtain ⟨hx, hb, hml, hown, hts⟩ := X.1
  unfold i_iinc at kk
  split at kk
  · rename_i x hv
    obtain ⟨hk, kk⟩ := kk
    refine xs_loc (fun H locs arr cells slots hL kw => ?_) kk
    obtain ⟨z, hz⟩ := List.getElem?_of_mem (xal_mem (G := G).mpr ⟨_, hv, rfl⟩)
    exact lv_iinc hx hb hd hL.2 (k := z) hz rfl (by rw [← hL.1]; exact hk) rfl (fun arr' h' => kw arr' (xLH.st1 hL.1 h' rfl))
  · exact kk.elim
end SND
