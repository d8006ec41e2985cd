/-! ===== the whole: a run of the numbered machine is a run of the real one ===== -/
/-- does an answer suit the returning instruction -/
def xRok (rt : Option FieldType) (r : Option Value) (ins : Instr) : Prop := match ins, r with
  | .ireturn, some (.int x) => rt = some .int ∨ (rt = some .boolean ∧ narrow .boolean (.int x) = .int x)
  | .lreturn, some (.long _) => rt = some .long
  | .areturn, some .null => (∃ t, rt = some (.object t)) ∨ ∃ t, rt = some (.array t)
  | .areturn, some (.ref _) => (∃ t, rt = some (.object t)) ∨ ∃ t, rt = some (.array t)
  | .return_, none => rt = none
  | _, _ => False
def xRW (G : xWd) (p : Program) (l : Launch) (e : Env) (R : Room) (s : State) (m : MethodId) (args : Array Value) (below : List Frame) (meth : Method) (c : Code) (i n0 s0 hf sf : Nat) (Q : State → Prop) (r : Option Value) (h : xH) : Prop :=
  h.length ≤ hf ∧ xsl h ≤ sf ∧ ∀ (H : Heap) (locs : List Loc) (arr : Array Slot) (pc : Nat) (ins : Instr), n0 ≤ h.length → s0 ≤ xsl h → xHP G h H → (∀ q ∈ locs, gB G ≤ q.base) → decode (xMB i) pc = .ok (ins, 1) → xRok (xMR i) r ins →
    W p l e R s m args below meth c H locs (h.length - n0) (xsl h - s0) Q (F0 m pc arr (r.toList.map (xcv G)))
/-- the words of the arguments -/
def xfl (as : List Value) : List (Option Value) := as.flatMap fun v => if v.category = 2 then [some v, none] else [some v]
theorem xent_len {as : List Value} {n : Nat} (h : (xent as n).length = n) : (xfl as).length ≤ n := by
  unfold xent at h
  rw [List.length_append, List.length_replicate] at h
  show (xfl as).length ≤ n
  have : (xfl as).length + (n - (xfl as).length) = n := h
  omega
theorem xfl_len (G : xWd) (as : List Value) : (lg_sl (as.map (xcv G))).length = (xfl as).length := by
  induction as with
  | nil => rfl
  | cons a as ih =>
    show (((if (xcv G a).category = 2 then [Slot.val (xcv G a), Slot.second] else [Slot.val (xcv G a)]) ++ lg_sl (as.map (xcv G))) : List Slot).length = ((if a.category = 2 then [some a, none] else [some a]) ++ xfl as).length
    rw [List.length_append, List.length_append, ih, xcv_cat]
    by_cases q : a.category = 2
    · rw [if_pos q, if_pos q]; rfl
    · rw [if_neg q, if_neg q]; rfl
theorem xent_ld {as : List Value} {n k : Nat} {v : Value} (h : xld (xent as n) k = some v) : (xfl as)[k]? = some (some v) := by
  unfold xld xent at h
  rcases Nat.lt_or_ge k (xfl as).length with q | q
  · have e : ((xfl as) ++ List.replicate (n - (xfl as).length) none)[k]? = (xfl as)[k]? := List.getElem?_append_left q
    have h' : (((xfl as) ++ List.replicate (n - (xfl as).length) none)[k]?).join = some v := h
    rw [e] at h'
    cases hk : (xfl as)[k]? with
    | none => rw [hk] at h'; cases h'
    | some z => rw [hk] at h'; exact congrArg some h'
  · exfalso
    have e : ((xfl as) ++ List.replicate (n - (xfl as).length) none)[k]? = (List.replicate (n - (xfl as).length) (none : Option Value))[k - (xfl as).length]? := List.getElem?_append_right q
    have h' : (((xfl as) ++ List.replicate (n - (xfl as).length) none)[k]?).join = some v := h
    rw [e, List.getElem?_replicate] at h'
    split at h' <;> cases h'
theorem xfl_mem {G : xWd} : ∀ (as : List Value) (i k : Nat) (v : Value), (xfl as)[k]? = some (some v) → (i + k, xcv G v) ∈ lv_args i (as.map (xcv G))
  | [], _, _, _, h => by simp [xfl] at h
  | a :: as, i, k, v, h => by
    have e : xfl (a :: as) = (if a.category = 2 then [some a, none] else [some a]) ++ xfl as := rfl
    rw [e] at h
    show (i + k, xcv G v) ∈ (i, xcv G a) :: lv_args (if (xcv G a).category = 2 then i + 2 else i + 1) (as.map (xcv G))
    rw [xcv_cat]
    by_cases q : a.category = 2
    · rw [if_pos q] at h ⊢
      match k, h with
      | 0, h =>
        cases h
        exact List.mem_cons_self
      | 1, h => cases h
      | k + 2, h =>
        have := xfl_mem (G := G) as (i + 2) k v (by simpa using h)
        rw [show i + (k + 2) = i + 2 + k by omega]
        exact List.mem_cons_of_mem _ this
    · rw [if_neg q] at h ⊢
      match k, h with
      | 0, h =>
        cases h
        exact List.mem_cons_self
      | k + 1, h =>
        have := xfl_mem (G := G) as (i + 1) k v (by simpa using h)
        rw [show i + (k + 1) = i + 1 + k by omega]
        exact List.mem_cons_of_mem _ this
section SNE
variable {G : xWd} {p : Program} {l : Launch} {e : Env} {R : Room} {s : State} {m : MethodId} {args : Array Value} {below : List Frame} {meth : Method} {c : Code} {i d n0 s0 hf sf : Nat} {Q : State → Prop} {pc : Nat} {ls : xL} {h : xH} {st : List Value}
theorem xs_end {r : Option Value} {ins : Instr} (hd : decode (xMB i) pc = .ok (ins, 1)) (hr : xRok (xMR i) r ins) (hst : st = r.toList) (hh : xRW G p l e R s m args below meth c i n0 s0 hf sf Q r h) : xKW G p l e R s m args below meth c i n0 s0 hf sf Q pc ls st h := by
  subst hst
  exact ⟨hh.1, hh.2.1, fun H locs arr hn hs hP hl hL => hh.2.2 H locs arr pc ins hn hs hP hl hd hr⟩
theorem xs_step {ins : Instr} {len : Nat} (X : xCx G p R s m args meth c i d n0 s0 hf sf) (hd0 : decode (xMB i) pc = .ok (ins, len)) (hl : xlen ins len = true) (hh : exI (xKW G p l e R s m args below meth c i n0 s0 hf sf Q) (xCW G l d) (xRW G p l e R s m args below meth c i n0 s0 hf sf Q) (xMO i) (xMR i) (decide ((xMY i).name = "<init>")) pc ls h st ins) : xKW G p l e R s m args below meth c i n0 s0 hf sf Q pc ls st h := by
  have hd : ∀ {n : Nat}, len = n → decode (xMB i) pc = .ok (ins, n) := fun e => by rw [← e]; exact hd0
  cases ins <;> simp only [exI] at hh
  case aconst_null => exact xs_aconst_null X (hd (by simpa [xlen] using hl)) hh
  case iconst => exact xs_iconst X (hd (by simpa [xlen] using hl)) hh
  case bipush => exact xs_bipush X (hd (by simpa [xlen] using hl)) hh
  case sipush => exact xs_sipush X (hd (by simpa [xlen] using hl)) hh
  case lconst => exact xs_lconst X (hd (by simpa [xlen] using hl)) hh
  case ldc => exact xs_ldc X (hd (by simpa [xlen] using hl)) hh
  case ldc_w => exact xs_ldc_w X (hd (by simpa [xlen] using hl)) hh
  case ldc2_w => exact xs_ldc2_w X (hd (by simpa [xlen] using hl)) hh
  case iadd => exact xs_iadd X (hd (by simpa [xlen] using hl)) hh
  case isub => exact xs_isub X (hd (by simpa [xlen] using hl)) hh
  case imul => exact xs_imul X (hd (by simpa [xlen] using hl)) hh
  case iand => exact xs_iand X (hd (by simpa [xlen] using hl)) hh
  case ior => exact xs_ior X (hd (by simpa [xlen] using hl)) hh
  case ixor => exact xs_ixor X (hd (by simpa [xlen] using hl)) hh
  case ishl => exact xs_ishl X (hd (by simpa [xlen] using hl)) hh
  case ishr => exact xs_ishr X (hd (by simpa [xlen] using hl)) hh
  case iushr => exact xs_iushr X (hd (by simpa [xlen] using hl)) hh
  case idiv => exact xs_idiv X (hd (by simpa [xlen] using hl)) hh
  case irem => exact xs_irem X (hd (by simpa [xlen] using hl)) hh
  case ineg => exact xs_ineg X (hd (by simpa [xlen] using hl)) hh
  case i2b => exact xs_i2b X (hd (by simpa [xlen] using hl)) hh
  case i2s => exact xs_i2s X (hd (by simpa [xlen] using hl)) hh
  case i2c => exact xs_i2c X (hd (by simpa [xlen] using hl)) hh
  case i2l => exact xs_i2l X (hd (by simpa [xlen] using hl)) hh
  case l2i => exact xs_l2i X (hd (by simpa [xlen] using hl)) hh
  case ladd => exact xs_ladd X (hd (by simpa [xlen] using hl)) hh
  case lsub => exact xs_lsub X (hd (by simpa [xlen] using hl)) hh
  case lmul => exact xs_lmul X (hd (by simpa [xlen] using hl)) hh
  case land => exact xs_land X (hd (by simpa [xlen] using hl)) hh
  case lor => exact xs_lor X (hd (by simpa [xlen] using hl)) hh
  case lxor => exact xs_lxor X (hd (by simpa [xlen] using hl)) hh
  case ldiv => exact xs_ldiv X (hd (by simpa [xlen] using hl)) hh
  case lrem => exact xs_lrem X (hd (by simpa [xlen] using hl)) hh
  case lshl => exact xs_lshl X (hd (by simpa [xlen] using hl)) hh
  case lshr => exact xs_lshr X (hd (by simpa [xlen] using hl)) hh
  case lushr => exact xs_lushr X (hd (by simpa [xlen] using hl)) hh
  case lcmp => exact xs_lcmp X (hd (by simpa [xlen] using hl)) hh
  case dup => exact xs_dup X (hd (by simpa [xlen] using hl)) hh
  case pop => exact xs_pop X (hd (by simpa [xlen] using hl)) hh
  case dup_x1 => exact xs_dup_x1 X (hd (by simpa [xlen] using hl)) hh
  case dup2 => exact xs_dup2 X (hd (by simpa [xlen] using hl)) hh
  case iinc => exact xs_iinc X (hd (by simpa [xlen] using hl)) hh
  case goto => exact xs_goto X (hd (by simpa [xlen] using hl)) hh
  case ifnull => exact xs_ifnull X (hd (by simpa [xlen] using hl)) hh
  case ifnonnull => exact xs_ifnonnull X (hd (by simpa [xlen] using hl)) hh
  case ifCond => exact xs_if1 X (hd (by simpa [xlen] using hl)) hh
  case if_icmp => exact xs_if2 X (hd (by simpa [xlen] using hl)) hh
  case if_acmp => exact xs_acmp X (hd (by simpa [xlen] using hl)) hh
  case tableswitch => exact xs_tab X hd0 hh
  case lookupswitch => exact xs_lok X hd0 hh
  case aload => exact xs_aload X (Or.inr ⟨rfl, hd (by simpa [xlen] using hl)⟩) hh
  case aload_n => exact xs_aload X (Or.inl ⟨_, rfl, rfl, hd (by simpa [xlen] using hl)⟩) hh
  case iload => exact xs_iload X (Or.inr ⟨rfl, hd (by simpa [xlen] using hl)⟩) hh
  case iload_n => exact xs_iload X (Or.inl ⟨_, rfl, rfl, hd (by simpa [xlen] using hl)⟩) hh
  case lload => exact xs_lload X (Or.inr ⟨rfl, hd (by simpa [xlen] using hl)⟩) hh
  case lload_n => exact xs_lload X (Or.inl ⟨_, rfl, rfl, hd (by simpa [xlen] using hl)⟩) hh
  case astore => exact xs_astore X (Or.inr ⟨rfl, hd (by simpa [xlen] using hl)⟩) hh
  case astore_n => exact xs_astore X (Or.inl ⟨_, rfl, rfl, hd (by simpa [xlen] using hl)⟩) hh
  case istore => exact xs_istore X (Or.inr ⟨rfl, hd (by simpa [xlen] using hl)⟩) hh
  case istore_n => exact xs_istore X (Or.inl ⟨_, rfl, rfl, hd (by simpa [xlen] using hl)⟩) hh
  case lstore => exact xs_lstore X (Or.inr ⟨rfl, hd (by simpa [xlen] using hl)⟩) hh
  case lstore_n => exact xs_lstore X (Or.inl ⟨_, rfl, rfl, hd (by simpa [xlen] using hl)⟩) hh
  case getfield => exact xs_get X (hd (by simpa [xlen] using hl)) hh
  case putfield => exact xs_put X (hd (by simpa [xlen] using hl)) hh
  case iaload => exact xs_iald X (hd (by simpa [xlen] using hl)) hh
  case iastore => exact xs_iast X (hd (by simpa [xlen] using hl)) hh
  case baload => exact xs_zald X (hd (by simpa [xlen] using hl)) hh
  case bastore => exact xs_zast X (hd (by simpa [xlen] using hl)) hh
  case laload => exact xs_lald X (hd (by simpa [xlen] using hl)) hh
  case lastore => exact xs_last X (hd (by simpa [xlen] using hl)) hh
  case aaload => exact xs_aald X (hd (by simpa [xlen] using hl)) hh
  case aastore => exact xs_aast X (hd (by simpa [xlen] using hl)) hh
  case arraylength => exact xs_alen X (hd (by simpa [xlen] using hl)) hh
  case newarray => exact xs_newa X (hd (by simpa [xlen] using hl)) hh
  case anewarray => exact xs_newq X (hd (by simpa [xlen] using hl)) hh
  case new => exact xs_new X (hd (by simpa [xlen] using hl)) hh
  case checkcast => exact xs_cast X (hd (by simpa [xlen] using hl)) hh
  case getstatic => exact xs_gets X (hd (by simpa [xlen] using hl)) hh
  case invokevirtual =>
    have hd3 := hd (n := 3) (by simpa [xlen] using hl)
    split at hh
    · rename_i hq
      obtain ⟨w, hw⟩ := xcal_w hq
      exact xs_cal X (Or.inl ⟨rfl, hd3⟩) hw hh
    · exact hh.elim
  case invokespecial =>
    have hd3 := hd (n := 3) (by simpa [xlen] using hl)
    split at hh
    · rename_i hq
      obtain ⟨w, hw⟩ := xcal_w hq
      exact xs_cal X (Or.inr (Or.inl ⟨Or.inl rfl, hd3⟩)) hw hh
    · rename_i hq
      obtain ⟨w, hw⟩ := xcal_w hq
      exact xs_cal X (Or.inr (Or.inl ⟨Or.inr (Or.inl rfl), hd3⟩)) hw hh
    · rename_i hq
      obtain ⟨w, hw⟩ := xcal_w hq
      exact xs_cal X (Or.inr (Or.inl ⟨Or.inr (Or.inr rfl), hd3⟩)) hw hh
    · exact hh.elim
  case invokestatic =>
    have hd3 := hd (n := 3) (by simpa [xlen] using hl)
    split at hh
    · rename_i hq
      obtain ⟨w, hw⟩ := xcal_w hq
      exact xs_cal X (Or.inr (Or.inr ⟨Or.inl rfl, hd3⟩)) hw hh
    · rename_i hq
      obtain ⟨w, hw⟩ := xcal_w hq
      exact xs_cal X (Or.inr (Or.inr ⟨Or.inr (Or.inl rfl), hd3⟩)) hw hh
    · rename_i hq
      obtain ⟨w, hw⟩ := xcal_w hq
      exact xs_cal X (Or.inr (Or.inr ⟨Or.inr (Or.inr (Or.inl rfl)), hd3⟩)) hw hh
    · rename_i hq
      obtain ⟨w, hw⟩ := xcal_w hq
      exact xs_cal X (Or.inr (Or.inr ⟨Or.inr (Or.inr (Or.inr rfl)), hd3⟩)) hw hh
    · exact hh.elim
  case ireturn =>
    have hd1 := hd (n := 1) (by simpa [xlen] using hl)
    unfold i_iret at hh
    split at hh
    · exact xs_end hd1 (r := some (.int _)) hh.1 rfl hh.2
    · exact hh.elim
  case lreturn =>
    have hd1 := hd (n := 1) (by simpa [xlen] using hl)
    unfold i_lret at hh
    split at hh
    · exact xs_end hd1 (r := some (.long _)) hh.1 rfl hh.2
    · exact hh.elim
  case areturn =>
    have hd1 := hd (n := 1) (by simpa [xlen] using hl)
    unfold i_aret at hh
    split at hh
    · rename_i q
      split at hh
      · exact xs_end hd1 (r := some .null) (Or.inl ⟨_, q⟩) rfl hh
      · exact xs_end hd1 (r := some (.ref _)) (Or.inl ⟨_, q⟩) rfl hh
      · exact hh.elim
    · rename_i q
      split at hh
      · exact xs_end hd1 (r := some .null) (Or.inr ⟨_, q⟩) rfl hh
      · exact xs_end hd1 (r := some (.ref _)) (Or.inr ⟨_, q⟩) rfl hh
      · exact hh.elim
    · exact hh.elim
  case return_ =>
    have hd1 := hd (n := 1) (by simpa [xlen] using hl)
    obtain ⟨rfl, hrt, hh⟩ := hh
    exact xs_end hd1 (r := none) hrt rfl hh
  all_goals exact hh.elim
/-- the final theorem of the machine: any run -/
theorem xs_run {d i pc : Nat} {ls : xL} {st : List Value} {h : xH} {R0 : xR} (hg : xGo d i pc ls st h R0) : xle h R0.2 ∧ ∀ (G : xWd) (p : Program) (l : Launch) (e : Env) (R : Room) (s : State) (m : MethodId) (args : Array Value) (below : List Frame) (meth : Method) (c : Code) (n0 s0 : Nat) (Q : State → Prop), xCx G p R s m args meth c i d n0 s0 R0.2.length (xsl R0.2) → xRW G p l e R s m args below meth c i n0 s0 R0.2.length (xsl R0.2) Q R0.1 R0.2 → xKW G p l e R s m args below meth c i n0 s0 R0.2.length (xsl R0.2) Q pc ls st h := by
  refine xGo_ind (P := fun d i pc ls st h R0 => xle h R0.2 ∧ ∀ (G : xWd) (p : Program) (l : Launch) (e : Env) (R : Room) (s : State) (m : MethodId) (args : Array Value) (below : List Frame) (meth : Method) (c : Code) (n0 s0 : Nat) (Q : State → Prop), xCx G p R s m args meth c i d n0 s0 R0.2.length (xsl R0.2) → xRW G p l e R s m args below meth c i n0 s0 R0.2.length (xsl R0.2) Q R0.1 R0.2 → xKW G p l e R s m args below meth c i n0 s0 R0.2.length (xsl R0.2) Q pc ls st h) ?_ hg
  rintro d i pc ls st h R0 ⟨ins, len, hd, hl, hh⟩
  constructor
  · refine exI_const ins (exI_mono (K' := fun _ _ _ _ => xle h R0.2) (C' := fun _ _ _ k => ∃ v h1, k v h1) (Rt' := fun _ _ => xle h R0.2) ?_ ?_ ?_ ins hh)
    · exact fun _ _ _ h' a b => a.tr b.1
    · rintro j as k k' hk ⟨d', -, -, -, r, h1, -, q1, q2⟩
      exact ⟨r, h1, hk r h1 q1 q2⟩
    · rintro v rfl
      exact xle.rf
  · intro G p l e R s m args below meth c n0 s0 Q X hret
    refine xs_step X hd hl (exI_mono ?_ ?_ ?_ ins hh)
    · exact fun _ _ _ h' a b => b.2 G p l e R s m args below meth c n0 s0 Q X hret
    · rintro j as k k' hk ⟨d', rfl, hj, hent, r, h1, q1, q2, q3⟩
      refine ⟨d', rfl, hj, r, h1, fun hpl => ?_, q2, hk r h1 q2 q3⟩
      obtain ⟨m1, m2, m3, m4, m5, m6, y, c0, ml, rt, np, o, w, f1, f2, f3⟩ := xM_at hj
      refine Met.ofW (cc := xMB j) (maxL := xML j) (ret := xMR j) hpl rfl ?_
      intro p e s m args below meth c s₁ B hml hv
      obtain ⟨rfl, hP, hKK, hb1, hb2⟩ := hv
      have hx := B.exec
      have hb := B.bytes
      have hr := B.returns
      have hts := atoms_spec (ws := xws0 j) B.pre
      have hown : s.vm.findClass (xMY j).cls = some m.cls := findClass_of_methodNamed B.named
      have hlocks := B.notSynchronized
      have hin : (xMY j).name = "<init>" → meth.name = "<init>" := fun q => by rw [← q]; exact (name_of_methodNamed B.named B.method).1
      have hO : xownS (xMO j) = (xMY j).cls := by unfold xownS; rw [m1]; rfl
      have hG : xGk G := X.2.2.2.2.1
      have hP2 := hP.1
      have X1 : xCx G p (headSpec (xws0 j) (xrm h h1 d')).room s m (as.map (xcv G)).toArray meth c j d' h.length (xsl h) h1.length (xsl h1) := by
        refine ⟨⟨hx, hb, hml, by rw [hO]; exact hown, fun w hw => hts w (List.mem_cons_of_mem _ hw)⟩, hlocks, hin, hKK, hG, Nat.le_refl _, Nat.le_refl _, Nat.le_refl _, Nat.le_refl _, hP2, hb2, hb1, hP.2.2.1⟩
      have hret1 : xRW G p l e (headSpec (xws0 j) (xrm h h1 d')).room s m (as.map (xcv G)).toArray below meth c j h.length (xsl h) h1.length (xsl h1) (MQ below (xQc G r h1) (as.map (xcv G)).toArray s (h1.length - h.length) (xsl h1 - xsl h) (xA G)) r h1 := by
        refine ⟨Nat.le_refl _, Nat.le_refl _, fun H locs arr pc ins hn hs hP1 hlc hdc hrk => ?_⟩
        have hq : ∀ t : State, t.heap = H → s.WarmedH t.vm → xQc G r h1 (as.map (xcv G)).toArray s (.returned (r.map (xcv G))) t := fun t ht _ => ⟨rfl, by rw [ht]; exact hP1⟩
        unfold xRok at hrk
        split at hrk
        · rename_i x
          rcases hrk with q | ⟨q, qn⟩
          · exact W.iret hx hb (hr.trans q) hq hlc hdc
          · exact W.zret hx hb (hr.trans q) qn hq hlc hdc
        · exact W.lret hx hb (hr.trans hrk) hq hlc hdc
        · rcases hrk with ⟨t, q⟩ | ⟨t, q⟩
          · exact W.aret hx hb (hr.trans q) (Or.inl ⟨_, rfl⟩) (Or.inl rfl) hq hlc hdc
          · exact W.aret hx hb (hr.trans q) (Or.inr ⟨_, rfl⟩) (Or.inl rfl) hq hlc hdc
        · rcases hrk with ⟨t, q⟩ | ⟨t, q⟩
          · exact W.aret hx hb (hr.trans q) (Or.inl ⟨_, rfl⟩) (Or.inr ⟨_, rfl⟩) hq hlc hdc
          · exact W.aret hx hb (hr.trans q) (Or.inr ⟨_, rfl⟩) (Or.inr ⟨_, rfl⟩) hq hlc hdc
        · exact W.vret hx hb (hr.trans hrk) hq hlc hdc
        · exact hrk.elim
      have hk1 := q1.2 G p l e _ s m _ below meth c h.length (xsl h) _ X1 hret1
      have hlen := xent_len hent
      have hle := lv_entry (as.map (xcv G)) (n := xML j) (by rw [xfl_len]; exact hlen)
      rw [lg_entry_eq]
      generalize (lg_sl (as.map (xcv G)) ++ List.replicate (xML j - (lg_sl (as.map (xcv G))).length) Slot.unset).toArray = arr at hle ⊢
      have hL : xLH G arr (xML j) (xent as (xML j)) := ⟨hent, lv_has_mono hle (fun q hq => by
        obtain ⟨k, w⟩ := q
        obtain ⟨v, hv, rfl⟩ := xal_mem.mp hq
        have := xfl_mem (G := G) as 0 k v (xent_ld hv)
        rw [Nat.zero_add] at this
        exact this)⟩
      have := hk1.2.2 s.heap [] arr (Nat.le_refl _) (Nat.le_refl _) hP (fun q hq => by cases hq) hL
      rw [Nat.sub_self, Nat.sub_self] at this
      exact this
    · rintro v rfl
      exact hret
end SNE
