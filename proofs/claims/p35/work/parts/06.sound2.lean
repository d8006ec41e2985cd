/-! ===== each instruction: stack, numbers, branches ===== -/
section SND2
variable {G : xWd} {p : Program} {l : Launch} {e : Env} {R : Room} {s : State} {m : MethodId} {args : Array Value} {below : List Frame} {meth : Method} {c : Code} {i d n0 s0 hf sf : Nat} {Q : State → Prop} {pc : Nat} {ls : xL} {h : xH} {st : List Value}
theorem xs_aconst_null (X : xCx G p R s m args meth c i d n0 s0 hf sf) (hd : decode (xMB i) pc = .ok (.aconst_null, 1)) (kk : xKW G p l e R s m args below meth c i n0 s0 hf sf Q (pc + 1) ls (.null :: st) h) : xKW G p l e R s m args below meth c i n0 s0 hf sf Q pc ls st h := by
  obtain ⟨hx, hb, hml, hown, hts⟩ := X.1
  exact xs_stk (fun H locs arr cells slots hL hP kw => lv_null hx hb hd kw) kk
theorem xs_iconst {n : Int} (X : xCx G p R s m args meth c i d n0 s0 hf sf) (hd : decode (xMB i) pc = .ok (.iconst n, 1)) (kk : xKW G p l e R s m args below meth c i n0 s0 hf sf Q (pc + 1) ls (.int (Int32.ofInt n) :: st) h) : xKW G p l e R s m args below meth c i n0 s0 hf sf Q pc ls st h := by
  obtain ⟨hx, hb, hml, hown, hts⟩ := X.1
  exact xs_stk (fun H locs arr cells slots hL hP kw => lv_iconst hx hb hd rfl kw) kk
theorem xs_bipush {n : Int} (X : xCx G p R s m args meth c i d n0 s0 hf sf) (hd : decode (xMB i) pc = .ok (.bipush n, 2)) (kk : xKW G p l e R s m args below meth c i n0 s0 hf sf Q (pc + 2) ls (.int (Int8.ofInt n).toInt32 :: st) h) : xKW G p l e R s m args below meth c i n0 s0 hf sf Q pc ls st h := by
  obtain ⟨hx, hb, hml, hown, hts⟩ := X.1
  exact xs_stk (fun H locs arr cells slots hL hP kw => lv_bipush hx hb hd rfl kw) kk
theorem xs_sipush {n : Int} (X : xCx G p R s m args meth c i d n0 s0 hf sf) (hd : decode (xMB i) pc = .ok (.sipush n, 3)) (kk : xKW G p l e R s m args below meth c i n0 s0 hf sf Q (pc + 3) ls (.int (Int16.ofInt n).toInt32 :: st) h) : xKW G p l e R s m args below meth c i n0 s0 hf sf Q pc ls st h := by
  obtain ⟨hx, hb, hml, hown, hts⟩ := X.1
  exact xs_stk (fun H locs arr cells slots hL hP kw => lv_sipush hx hb hd rfl kw) kk
theorem xs_lconst {n : Fin 2} (X : xCx G p R s m args meth c i d n0 s0 hf sf) (hd : decode (xMB i) pc = .ok (.lconst n, 1)) (kk : xKW G p l e R s m args below meth c i n0 s0 hf sf Q (pc + 1) ls (.long (Int64.ofNat (n : Nat)) :: st) h) : xKW G p l e R s m args below meth c i n0 s0 hf sf Q pc ls st h := by
  obtain ⟨hx, hb, hml, hown, hts⟩ := X.1
  exact xs_stk (fun H locs arr cells slots hL hP kw => lv_lconst hx hb hd rfl kw) kk
theorem xs_iadd (X : xCx G p R s m args meth c i d n0 s0 hf sf) (hd : decode (xMB i) pc = .ok (.iadd, 1)) (kk : i_int2 (xKW G p l e R s m args below meth c i n0 s0 hf sf Q) pc ls h (fun x y => x + y) st) : xKW G p l e R s m args below meth c i n0 s0 hf sf Q pc ls st h := by
  obtain ⟨hx, hb, hml, hown, hts⟩ := X.1
  unfold i_int2 at kk
  split at kk
  · exact xs_stk (fun H locs arr cells slots hL hP kw => lv_iadd hx hb hd kw) kk
  · exact kk.elim
theorem xs_isub (X : xCx G p R s m args meth c i d n0 s0 hf sf) (hd : decode (xMB i) pc = .ok (.isub, 1)) (kk : i_int2 (xKW G p l e R s m args below meth c i n0 s0 hf sf Q) pc ls h (fun x y => x - y) st) : xKW G p l e R s m args below meth c i n0 s0 hf sf Q pc ls st h := by
  obtain ⟨hx, hb, hml, hown, hts⟩ := X.1
  unfold i_int2 at kk
  split at kk
  · exact xs_stk (fun H locs arr cells slots hL hP kw => lv_isub hx hb hd kw) kk
  · exact kk.elim
theorem xs_imul (X : xCx G p R s m args meth c i d n0 s0 hf sf) (hd : decode (xMB i) pc = .ok (.imul, 1)) (kk : i_int2 (xKW G p l e R s m args below meth c i n0 s0 hf sf Q) pc ls h (fun x y => x * y) st) : xKW G p l e R s m args below meth c i n0 s0 hf sf Q pc ls st h := by
  obtain ⟨hx, hb, hml, hown, hts⟩ := X.1
  unfold i_int2 at kk
  split at kk
  · exact xs_stk (fun H locs arr cells slots hL hP kw => lv_imul hx hb hd kw) kk
  · exact kk.elim
theorem xs_iand (X : xCx G p R s m args meth c i d n0 s0 hf sf) (hd : decode (xMB i) pc = .ok (.iand, 1)) (kk : i_int2 (xKW G p l e R s m args below meth c i n0 s0 hf sf Q) pc ls h (fun x y => x &&& y) st) : xKW G p l e R s m args below meth c i n0 s0 hf sf Q pc ls st h := by
  obtain ⟨hx, hb, hml, hown, hts⟩ := X.1
  unfold i_int2 at kk
  split at kk
  · exact xs_stk (fun H locs arr cells slots hL hP kw => lv_iand hx hb hd kw) kk
  · exact kk.elim
theorem xs_ior (X : xCx G p R s m args meth c i d n0 s0 hf sf) (hd : decode (xMB i) pc = .ok (.ior, 1)) (kk : i_int2 (xKW G p l e R s m args below meth c i n0 s0 hf sf Q) pc ls h (fun x y => x ||| y) st) : xKW G p l e R s m args below meth c i n0 s0 hf sf Q pc ls st h := by
  obtain ⟨hx, hb, hml, hown, hts⟩ := X.1
  unfold i_int2 at kk
  split at kk
  · exact xs_stk (fun H locs arr cells slots hL hP kw => lv_ior hx hb hd kw) kk
  · exact kk.elim
theorem xs_ixor (X : xCx G p R s m args meth c i d n0 s0 hf sf) (hd : decode (xMB i) pc = .ok (.ixor, 1)) (kk : i_int2 (xKW G p l e R s m args below meth c i n0 s0 hf sf Q) pc ls h (fun x y => x ^^^ y) st) : xKW G p l e R s m args below meth c i n0 s0 hf sf Q pc ls st h := by
  obtain ⟨hx, hb, hml, hown, hts⟩ := X.1
  unfold i_int2 at kk
  split at kk
  · exact xs_stk (fun H locs arr cells slots hL hP kw => lv_ixor hx hb hd kw) kk
  · exact kk.elim
theorem xs_ishl (X : xCx G p R s m args meth c i d n0 s0 hf sf) (hd : decode (xMB i) pc = .ok (.ishl, 1)) (kk : i_int2 (xKW G p l e R s m args below meth c i n0 s0 hf sf Q) pc ls h (fun x y => x <<< (y &&& 31)) st) : xKW G p l e R s m args below meth c i n0 s0 hf sf Q pc ls st h := by
  obtain ⟨hx, hb, hml, hown, hts⟩ := X.1
  unfold i_int2 at kk
  split at kk
  · exact xs_stk (fun H locs arr cells slots hL hP kw => lv_ishl hx hb hd kw) kk
  · exact kk.elim
theorem xs_ishr (X : xCx G p R s m args meth c i d n0 s0 hf sf) (hd : decode (xMB i) pc = .ok (.ishr, 1)) (kk : i_int2 (xKW G p l e R s m args below meth c i n0 s0 hf sf Q) pc ls h (fun x y => x >>> (y &&& 31)) st) : xKW G p l e R s m args below meth c i n0 s0 hf sf Q pc ls st h := by
  obtain ⟨hx, hb, hml, hown, hts⟩ := X.1
  unfold i_int2 at kk
  split at kk
  · exact xs_stk (fun H locs arr cells slots hL hP kw => lv_ishr hx hb hd kw) kk
  · exact kk.elim
theorem xs_iushr (X : xCx G p R s m args meth c i d n0 s0 hf sf) (hd : decode (xMB i) pc = .ok (.iushr, 1)) (kk : i_int2 (xKW G p l e R s m args below meth c i n0 s0 hf sf Q) pc ls h (fun x y => (x.toUInt32 >>> (y.toUInt32 &&& Int32.toUInt32 31)).toInt32) st) : xKW G p l e R s m args below meth c i n0 s0 hf sf Q pc ls st h := by
  obtain ⟨hx, hb, hml, hown, hts⟩ := X.1
  unfold i_int2 at kk
  split at kk
  · exact xs_stk (fun H locs arr cells slots hL hP kw => lv_iushr hx hb hd rfl kw) kk
  · exact kk.elim
theorem xs_idiv (X : xCx G p R s m args meth c i d n0 s0 hf sf) (hd : decode (xMB i) pc = .ok (.idiv, 1)) (kk : i_div2 (xKW G p l e R s m args below meth c i n0 s0 hf sf Q) pc ls h (fun x y => x / y) st) : xKW G p l e R s m args below meth c i n0 s0 hf sf Q pc ls st h := by
  obtain ⟨hx, hb, hml, hown, hts⟩ := X.1
  unfold i_div2 at kk
  split at kk
  · obtain ⟨hne, kk⟩ := kk
    exact xs_stk (fun H locs arr cells slots hL hP kw => lv_idiv hx hb hd hne kw) kk
  · exact kk.elim
theorem xs_irem (X : xCx G p R s m args meth c i d n0 s0 hf sf) (hd : decode (xMB i) pc = .ok (.irem, 1)) (kk : i_div2 (xKW G p l e R s m args below meth c i n0 s0 hf sf Q) pc ls h (fun x y => x - x / y * y) st) : xKW G p l e R s m args below meth c i n0 s0 hf sf Q pc ls st h := by
  obtain ⟨hx, hb, hml, hown, hts⟩ := X.1
  unfold i_div2 at kk
  split at kk
  · obtain ⟨hne, kk⟩ := kk
    exact xs_stk (fun H locs arr cells slots hL hP kw => lv_irem hx hb hd hne kw) kk
  · exact kk.elim
theorem xs_ineg (X : xCx G p R s m args meth c i d n0 s0 hf sf) (hd : decode (xMB i) pc = .ok (.ineg, 1)) (kk : i_int1 (xKW G p l e R s m args below meth c i n0 s0 hf sf Q) pc ls h (fun x => -x) st) : xKW G p l e R s m args below meth c i n0 s0 hf sf Q pc ls st h := by
  obtain ⟨hx, hb, hml, hown, hts⟩ := X.1
  unfold i_int1 at kk
  split at kk
  · exact xs_stk (fun H locs arr cells slots hL hP kw => lv_ineg hx hb hd kw) kk
  · exact kk.elim
theorem xs_i2b (X : xCx G p R s m args meth c i d n0 s0 hf sf) (hd : decode (xMB i) pc = .ok (.i2b, 1)) (kk : i_int1 (xKW G p l e R s m args below meth c i n0 s0 hf sf Q) pc ls h (fun x => x.toInt8.toInt32) st) : xKW G p l e R s m args below meth c i n0 s0 hf sf Q pc ls st h := by
  obtain ⟨hx, hb, hml, hown, hts⟩ := X.1
  unfold i_int1 at kk
  split at kk
  · exact xs_stk (fun H locs arr cells slots hL hP kw => lv_i2b hx hb hd rfl kw) kk
  · exact kk.elim
theorem xs_i2s (X : xCx G p R s m args meth c i d n0 s0 hf sf) (hd : decode (xMB i) pc = .ok (.i2s, 1)) (kk : i_int1 (xKW G p l e R s m args below meth c i n0 s0 hf sf Q) pc ls h (fun x => x.toInt16.toInt32) st) : xKW G p l e R s m args below meth c i n0 s0 hf sf Q pc ls st h := by
  obtain ⟨hx, hb, hml, hown, hts⟩ := X.1
  unfold i_int1 at kk
  split at kk
  · exact xs_stk (fun H locs arr cells slots hL hP kw => lv_i2s hx hb hd rfl kw) kk
  · exact kk.elim
theorem xs_i2c (X : xCx G p R s m args meth c i d n0 s0 hf sf) (hd : decode (xMB i) pc = .ok (.i2c, 1)) (kk : i_int1 (xKW G p l e R s m args below meth c i n0 s0 hf sf Q) pc ls h (fun x => (x.toUInt32 % 65536).toInt32) st) : xKW G p l e R s m args below meth c i n0 s0 hf sf Q pc ls st h := by
  obtain ⟨hx, hb, hml, hown, hts⟩ := X.1
  unfold i_int1 at kk
  split at kk
  · exact xs_stk (fun H locs arr cells slots hL hP kw => lv_i2c hx hb hd rfl kw) kk
  · exact kk.elim
theorem xs_ladd (X : xCx G p R s m args meth c i d n0 s0 hf sf) (hd : decode (xMB i) pc = .ok (.ladd, 1)) (kk : i_lng2 (xKW G p l e R s m args below meth c i n0 s0 hf sf Q) pc ls h (fun x y => x + y) st) : xKW G p l e R s m args below meth c i n0 s0 hf sf Q pc ls st h := by
  obtain ⟨hx, hb, hml, hown, hts⟩ := X.1
  unfold i_lng2 at kk
  split at kk
  · exact xs_stk (fun H locs arr cells slots hL hP kw => lv_ladd hx hb hd kw) kk
  · exact kk.elim
theorem xs_lsub (X : xCx G p R s m args meth c i d n0 s0 hf sf) (hd : decode (xMB i) pc = .ok (.lsub, 1)) (kk : i_lng2 (xKW G p l e R s m args below meth c i n0 s0 hf sf Q) pc ls h (fun x y => x - y) st) : xKW G p l e R s m args below meth c i n0 s0 hf sf Q pc ls st h := by
  obtain ⟨hx, hb, hml, hown, hts⟩ := X.1
  unfold i_lng2 at kk
  split at kk
  · exact xs_stk (fun H locs arr cells slots hL hP kw => lv_lsub hx hb hd kw) kk
  · exact kk.elim
theorem xs_lmul (X : xCx G p R s m args meth c i d n0 s0 hf sf) (hd : decode (xMB i) pc = .ok (.lmul, 1)) (kk : i_lng2 (xKW G p l e R s m args below meth c i n0 s0 hf sf Q) pc ls h (fun x y => x * y) st) : xKW G p l e R s m args below meth c i n0 s0 hf sf Q pc ls st h := by
  obtain ⟨hx, hb, hml, hown, hts⟩ := X.1
  unfold i_lng2 at kk
  split at kk
  · exact xs_stk (fun H locs arr cells slots hL hP kw => lv_lmul hx hb hd kw) kk
  · exact kk.elim
theorem xs_land (X : xCx G p R s m args meth c i d n0 s0 hf sf) (hd : decode (xMB i) pc = .ok (.land, 1)) (kk : i_lng2 (xKW G p l e R s m args below meth c i n0 s0 hf sf Q) pc ls h (fun x y => x &&& y) st) : xKW G p l e R s m args below meth c i n0 s0 hf sf Q pc ls st h := by
  obtain ⟨hx, hb, hml, hown, hts⟩ := X.1
  unfold i_lng2 at kk
  split at kk
  · exact xs_stk (fun H locs arr cells slots hL hP kw => lv_land hx hb hd kw) kk
  · exact kk.elim
theorem xs_lor (X : xCx G p R s m args meth c i d n0 s0 hf sf) (hd : decode (xMB i) pc = .ok (.lor, 1)) (kk : i_lng2 (xKW G p l e R s m args below meth c i n0 s0 hf sf Q) pc ls h (fun x y => x ||| y) st) : xKW G p l e R s m args below meth c i n0 s0 hf sf Q pc ls st h := by
  obtain ⟨hx, hb, hml, hown, hts⟩ := X.1
  unfold i_lng2 at kk
  split at kk
  · exact xs_stk (fun H locs arr cells slots hL hP kw => lv_lor hx hb hd kw) kk
  · exact kk.elim
theorem xs_lxor (X : xCx G p R s m args meth c i d n0 s0 hf sf) (hd : decode (xMB i) pc = .ok (.lxor, 1)) (kk : i_lng2 (xKW G p l e R s m args below meth c i n0 s0 hf sf Q) pc ls h (fun x y => x ^^^ y) st) : xKW G p l e R s m args below meth c i n0 s0 hf sf Q pc ls st h := by
  obtain ⟨hx, hb, hml, hown, hts⟩ := X.1
  unfold i_lng2 at kk
  split at kk
  · exact xs_stk (fun H locs arr cells slots hL hP kw => lv_lxor hx hb hd kw) kk
  · exact kk.elim
theorem xs_ldiv (X : xCx G p R s m args meth c i d n0 s0 hf sf) (hd : decode (xMB i) pc = .ok (.ldiv, 1)) (kk : i_ldv2 (xKW G p l e R s m args below meth c i n0 s0 hf sf Q) pc ls h (fun x y => x / y) st) : xKW G p l e R s m args below meth c i n0 s0 hf sf Q pc ls st h := by
  obtain ⟨hx, hb, hml, hown, hts⟩ := X.1
  unfold i_ldv2 at kk
  split at kk
  · obtain ⟨hne, kk⟩ := kk
    exact xs_stk (fun H locs arr cells slots hL hP kw => lv_ldiv hx hb hd hne kw) kk
  · exact kk.elim
theorem xs_lrem (X : xCx G p R s m args meth c i d n0 s0 hf sf) (hd : decode (xMB i) pc = .ok (.lrem, 1)) (kk : i_ldv2 (xKW G p l e R s m args below meth c i n0 s0 hf sf Q) pc ls h (fun x y => x - x / y * y) st) : xKW G p l e R s m args below meth c i n0 s0 hf sf Q pc ls st h := by
  obtain ⟨hx, hb, hml, hown, hts⟩ := X.1
  unfold i_ldv2 at kk
  split at kk
  · obtain ⟨hne, kk⟩ := kk
    exact xs_stk (fun H locs arr cells slots hL hP kw => lv_lrem hx hb hd hne kw) kk
  · exact kk.elim
theorem xs_lshl (X : xCx G p R s m args meth c i d n0 s0 hf sf) (hd : decode (xMB i) pc = .ok (.lshl, 1)) (kk : i_lsh (xKW G p l e R s m args below meth c i n0 s0 hf sf Q) pc ls h (fun x y => x <<< (y.toInt64 &&& 63)) st) : xKW G p l e R s m args below meth c i n0 s0 hf sf Q pc ls st h := by
  obtain ⟨hx, hb, hml, hown, hts⟩ := X.1
  unfold i_lsh at kk
  split at kk
  · exact xs_stk (fun H locs arr cells slots hL hP kw => lv_lshl hx hb hd rfl kw) kk
  · exact kk.elim
theorem xs_lshr (X : xCx G p R s m args meth c i d n0 s0 hf sf) (hd : decode (xMB i) pc = .ok (.lshr, 1)) (kk : i_lsh (xKW G p l e R s m args below meth c i n0 s0 hf sf Q) pc ls h (fun x y => x >>> (y.toInt64 &&& 63)) st) : xKW G p l e R s m args below meth c i n0 s0 hf sf Q pc ls st h := by
  obtain ⟨hx, hb, hml, hown, hts⟩ := X.1
  unfold i_lsh at kk
  split at kk
  · exact xs_stk (fun H locs arr cells slots hL hP kw => lv_lshr hx hb hd rfl kw) kk
  · exact kk.elim
theorem xs_lushr (X : xCx G p R s m args meth c i d n0 s0 hf sf) (hd : decode (xMB i) pc = .ok (.lushr, 1)) (kk : i_lsh (xKW G p l e R s m args below meth c i n0 s0 hf sf Q) pc ls h (fun x y => (x.toUInt64 >>> (y.toInt64.toUInt64 &&& Int64.toUInt64 63)).toInt64) st) : xKW G p l e R s m args below meth c i n0 s0 hf sf Q pc ls st h := by
  obtain ⟨hx, hb, hml, hown, hts⟩ := X.1
  unfold i_lsh at kk
  split at kk
  · exact xs_stk (fun H locs arr cells slots hL hP kw => lv_lushr hx hb hd rfl kw) kk
  · exact kk.elim
theorem xs_i2l (X : xCx G p R s m args meth c i d n0 s0 hf sf) (hd : decode (xMB i) pc = .ok (.i2l, 1)) (kk : i_i2l (xKW G p l e R s m args below meth c i n0 s0 hf sf Q) pc ls h st) : xKW G p l e R s m args below meth c i n0 s0 hf sf Q pc ls st h := by
  obtain ⟨hx, hb, hml, hown, hts⟩ := X.1
  unfold i_i2l at kk
  split at kk
  · exact xs_stk (fun H locs arr cells slots hL hP kw => lv_i2l hx hb hd rfl kw) kk
  · exact kk.elim
theorem xs_l2i (X : xCx G p R s m args meth c i d n0 s0 hf sf) (hd : decode (xMB i) pc = .ok (.l2i, 1)) (kk : i_l2i (xKW G p l e R s m args below meth c i n0 s0 hf sf Q) pc ls h st) : xKW G p l e R s m args below meth c i n0 s0 hf sf Q pc ls st h := by
  obtain ⟨hx, hb, hml, hown, hts⟩ := X.1
  unfold i_l2i at kk
  split at kk
  · exact xs_stk (fun H locs arr cells slots hL hP kw => lv_l2i hx hb hd rfl kw) kk
  · exact kk.elim
theorem xs_lcmp (X : xCx G p R s m args meth c i d n0 s0 hf sf) (hd : decode (xMB i) pc = .ok (.lcmp, 1)) (kk : i_lcmp (xKW G p l e R s m args below meth c i n0 s0 hf sf Q) pc ls h st) : xKW G p l e R s m args below meth c i n0 s0 hf sf Q pc ls st h := by
  obtain ⟨hx, hb, hml, hown, hts⟩ := X.1
  unfold i_lcmp at kk
  split at kk
  · exact xs_stk (fun H locs arr cells slots hL hP kw => W.lcmp hx hb hd kw) kk
  · exact kk.elim
theorem xs_dup (X : xCx G p R s m args meth c i d n0 s0 hf sf) (hd : decode (xMB i) pc = .ok (.dup, 1)) (kk : i_dup (xKW G p l e R s m args below meth c i n0 s0 hf sf Q) pc ls h st) : xKW G p l e R s m args below meth c i n0 s0 hf sf Q pc ls st h := by
  obtain ⟨hx, hb, hml, hown, hts⟩ := X.1
  unfold i_dup at kk
  split at kk
  · obtain ⟨h1, kk⟩ := kk
    exact xs_stk (fun H locs arr cells slots hL hP kw => lv_dup hx hb hd (by rw [xcv_cat]; exact h1) kw) kk
  · exact kk.elim
theorem xs_pop (X : xCx G p R s m args meth c i d n0 s0 hf sf) (hd : decode (xMB i) pc = .ok (.pop, 1)) (kk : i_pop (xKW G p l e R s m args below meth c i n0 s0 hf sf Q) pc ls h st) : xKW G p l e R s m args below meth c i n0 s0 hf sf Q pc ls st h := by
  obtain ⟨hx, hb, hml, hown, hts⟩ := X.1
  unfold i_pop at kk
  split at kk
  · obtain ⟨h1, kk⟩ := kk
    exact xs_stk (fun H locs arr cells slots hL hP kw => lv_pop hx hb hd (by rw [xcv_cat]; exact h1) kw) kk
  · exact kk.elim
theorem xs_dup_x1 (X : xCx G p R s m args meth c i d n0 s0 hf sf) (hd : decode (xMB i) pc = .ok (.dup_x1, 1)) (kk : i_dup_x1 (xKW G p l e R s m args below meth c i n0 s0 hf sf Q) pc ls h st) : xKW G p l e R s m args below meth c i n0 s0 hf sf Q pc ls st h := by
  obtain ⟨hx, hb, hml, hown, hts⟩ := X.1
  unfold i_dup_x1 at kk
  split at kk
  · obtain ⟨h1, h2, kk⟩ := kk
    exact xs_stk (fun H locs arr cells slots hL hP kw => lv_dup_x1 hx hb hd (by rw [xcv_cat]; exact h1) (by rw [xcv_cat]; exact h2) kw) kk
  · exact kk.elim
theorem xs_dup2 (X : xCx G p R s m args meth c i d n0 s0 hf sf) (hd : decode (xMB i) pc = .ok (.dup2, 1)) (kk : i_dup2 (xKW G p l e R s m args below meth c i n0 s0 hf sf Q) pc ls h st) : xKW G p l e R s m args below meth c i n0 s0 hf sf Q pc ls st h := by
  obtain ⟨hx, hb, hml, hown, hts⟩ := X.1
  unfold i_dup2 at kk
  split at kk
  · obtain ⟨h1, h2, kk⟩ := kk
    exact xs_stk (fun H locs arr cells slots hL hP kw => lv_dup2_11 hx hb hd (by rw [xcv_cat]; exact h1) (by rw [xcv_cat]; exact h2) kw) kk
  · exact kk.elim
/-- a row with two goals -/
theorem xs_br {P : Prop} {t1 t2 : Nat} {st' : List Value} (hr : ∀ (H : Heap) (locs : List Loc) (arr : Array Slot) (cells slots : Nat), (P → W p l e R s m args below meth c H locs cells slots Q (F0 m t1 arr (st'.map (xcv G)))) → (¬ P → W p l e R s m args below meth c H locs cells slots Q (F0 m t2 arr (st'.map (xcv G)))) → W p l e R s m args below meth c H locs cells slots Q (F0 m pc arr (st.map (xcv G)))) (k1 : P → xKW G p l e R s m args below meth c i n0 s0 hf sf Q t1 ls st' h) (k2 : ¬ P → xKW G p l e R s m args below meth c i n0 s0 hf sf Q t2 ls st' h) : xKW G p l e R s m args below meth c i n0 s0 hf sf Q pc ls st h := by
  have hz : h.length ≤ hf ∧ xsl h ≤ sf := by
    rcases Classical.em P with q | q
    · exact ⟨(k1 q).1, (k1 q).2.1⟩
    · exact ⟨(k2 q).1, (k2 q).2.1⟩
  exact ⟨hz.1, hz.2, fun H locs arr hn hs hP hl hL => hr H locs arr _ _ (fun q => (k1 q).2.2 H locs arr hn hs hP hl hL) (fun q => (k2 q).2.2 H locs arr hn hs hP hl hL)⟩
theorem xs_if1 {cd : ClassFile.Cond} {off : Int} (X : xCx G p R s m args meth c i d n0 s0 hf sf) (hd : decode (xMB i) pc = .ok (.ifCond cd off, 3)) (kk : i_if1 (xKW G p l e R s m args below meth c i n0 s0 hf sf Q) pc ls h cd off st) : xKW G p l e R s m args below meth c i n0 s0 hf sf Q pc ls st h := by
  obtain ⟨hx, hb, hml, hown, hts⟩ := X.1
  unfold i_if1 at kk
  split at kk
  · obtain ⟨ho, k1, k2⟩ := kk
    refine xs_br (fun H locs arr cells slots w1 w2 => ?_) k1 k2
    cases cd with
    | eq => exact lv_if_eq hx hb hd (tgt := ((pc : Int) + off).toNat) (by omega) w1 w2
    | ne => exact lv_if_ne hx hb hd (tgt := ((pc : Int) + off).toNat) (by omega) w1 (fun q => w2 (fun z => z q))
    | lt => exact lv_if_lt hx hb hd (tgt := ((pc : Int) + off).toNat) (by omega) w1 w2
    | ge => exact lv_if_ge hx hb hd (tgt := ((pc : Int) + off).toNat) (by omega) w1 w2
    | gt => exact lv_if_gt hx hb hd (tgt := ((pc : Int) + off).toNat) (by omega) w1 w2
    | le => exact lv_if_le hx hb hd (tgt := ((pc : Int) + off).toNat) (by omega) w1 w2
  · exact kk.elim
theorem xs_if2 {cd : ClassFile.Cond} {off : Int} (X : xCx G p R s m args meth c i d n0 s0 hf sf) (hd : decode (xMB i) pc = .ok (.if_icmp cd off, 3)) (kk : i_if2 (xKW G p l e R s m args below meth c i n0 s0 hf sf Q) pc ls h cd off st) : xKW G p l e R s m args below meth c i n0 s0 hf sf Q pc ls st h := by
  obtain ⟨hx, hb, hml, hown, hts⟩ := X.1
  unfold i_if2 at kk
  split at kk
  · obtain ⟨ho, k1, k2⟩ := kk
    refine xs_br (fun H locs arr cells slots w1 w2 => ?_) k1 k2
    cases cd with
    | eq => exact lv_icmp_eq hx hb hd (tgt := ((pc : Int) + off).toNat) (by omega) w1 w2
    | ne => exact lv_icmp_ne hx hb hd (tgt := ((pc : Int) + off).toNat) (by omega) w1 (fun q => w2 (fun z => z q))
    | lt => exact lv_icmp_lt hx hb hd (tgt := ((pc : Int) + off).toNat) (by omega) w1 w2
    | ge => exact lv_icmp_ge hx hb hd (tgt := ((pc : Int) + off).toNat) (by omega) w1 w2
    | gt => exact lv_icmp_gt hx hb hd (tgt := ((pc : Int) + off).toNat) (by omega) w1 w2
    | le => exact lv_icmp_le hx hb hd (tgt := ((pc : Int) + off).toNat) (by omega) w1 w2
  · exact kk.elim
theorem xs_ifnull {off : Int} (X : xCx G p R s m args meth c i d n0 s0 hf sf) (hd : decode (xMB i) pc = .ok (.ifnull off, 3)) (kk : i_ifnull (xKW G p l e R s m args below meth c i n0 s0 hf sf Q) pc ls h off st) : xKW G p l e R s m args below meth c i n0 s0 hf sf Q pc ls st h := by
  obtain ⟨hx, hb, hml, hown, hts⟩ := X.1
  unfold i_ifnull at kk
  split at kk
  · obtain ⟨ho, kk⟩ := kk
    exact xs_stk (fun H locs arr cells slots hL hP kw => lv_ifnullN hx hb hd (by omega) kw) kk
  · exact xs_stk (fun H locs arr cells slots hL hP kw => lv_ifnull hx hb hd kw) kk
  · exact kk.elim
theorem xs_ifnonnull {off : Int} (X : xCx G p R s m args meth c i d n0 s0 hf sf) (hd : decode (xMB i) pc = .ok (.ifnonnull off, 3)) (kk : i_ifnonnull (xKW G p l e R s m args below meth c i n0 s0 hf sf Q) pc ls h off st) : xKW G p l e R s m args below meth c i n0 s0 hf sf Q pc ls st h := by
  obtain ⟨hx, hb, hml, hown, hts⟩ := X.1
  unfold i_ifnonnull at kk
  split at kk
  · obtain ⟨ho, kk⟩ := kk
    exact xs_stk (fun H locs arr cells slots hL hP kw => lv_ifnonnull hx hb hd (by omega) kw) kk
  · exact xs_stk (fun H locs arr cells slots hL hP kw => lv_ifnonnullN hx hb hd kw) kk
  · exact kk.elim
theorem xad_inj {G : xWd} (hG : xGk G) {x y : Nat} (h : xad G x = xad G y) : x = y := by
  obtain ⟨-, g1, g2, g3⟩ := hG
  unfold xad at h
  split at h <;> split at h <;> (try split at h) <;> (try split at h) <;> first | omega | exact absurd h g3 | exact absurd h.symm g3
theorem xs_acmp {cd : ClassFile.ACond} {off : Int} (X : xCx G p R s m args meth c i d n0 s0 hf sf) (hd : decode (xMB i) pc = .ok (.if_acmp cd off, 3)) (kk : i_acmp (xKW G p l e R s m args below meth c i n0 s0 hf sf Q) pc ls h cd off st) : xKW G p l e R s m args below meth c i n0 s0 hf sf Q pc ls st h := by
  obtain ⟨hx, hb, hml, hown, hts⟩ := X.1
  have hG : xGk G := X.2.2.2.2.1
  unfold i_acmp at kk
  split at kk
  · rename_i y x st
    obtain ⟨ho, -, -, k1, k2⟩ := kk
    refine xs_br (fun H locs arr cells slots w1 w2 => ?_) k1 k2
    exact lv_acmp_eq (rx := some (xad G x)) (ry := some (xad G y)) hx hb hd (tgt := ((pc : Int) + off).toNat) (by omega) (fun q => w1 (xad_inj hG (Option.some.inj q))) (fun q => w2 (fun z => q (by rw [z])))
  · exact kk.elim
theorem xtab_at {J : Int → Prop} {x : Int} : ∀ {r : List Int} {lo : Int} {j : Nat} {off : Int}, xtab J x lo r → r[j]? = some off → x = lo + j → J off
  | [], _, _, _, _, h, _ => by simp at h
  | a :: r, lo, 0, off, hx, h, e => by
    simp at h
    subst h
    exact hx.1 (by omega)
  | a :: r, lo, j + 1, off, hx, h, e => by
    rw [List.getElem?_cons_succ] at h
    exact xtab_at hx.2 h (by omega)
theorem xtab_all {J : Int → Prop} {x : Int} {A : Prop} (hA : ∀ off, J off → A) : ∀ {r : List Int} {lo : Int}, xtab J x lo r → lo ≤ x → x < lo + r.length → A
  | [], lo, _, h1, h2 => by simp at h2; omega
  | a :: r, lo, hx, h1, h2 => by
    by_cases q : x = lo
    · exact hA _ (hx.1 q)
    · refine xtab_all hA hx.2 (by omega) ?_
      simp only [List.length_cons] at h2
      omega
theorem xs_tab {dflt lo hi : Int} {offs : Array Int} {len : Nat} (X : xCx G p R s m args meth c i d n0 s0 hf sf) (hd : decode (xMB i) pc = .ok (.tableswitch dflt lo hi offs, len)) (kk : i_tab (xKW G p l e R s m args below meth c i n0 s0 hf sf Q) pc ls h dflt lo hi offs st) : xKW G p l e R s m args below meth c i n0 s0 hf sf Q pc ls st h := by
  obtain ⟨hx, hb, hml, hown, hts⟩ := X.1
  unfold i_tab at kk
  split at kk
  · rename_i x st
    obtain ⟨hn, k1, k2⟩ := kk
    have hlen : (offs.toList.length : Int) = offs.size := by simp
    by_cases q : x.toInt < lo ∨ hi < x.toInt
    · obtain ⟨ho, kk⟩ := k1 q
      exact xs_stk (fun H locs arr cells slots hL hP kw => lv_tableOut hx hb hd q (by omega) kw) kk
    · have q1 : ¬ x.toInt < lo := fun z => q (Or.inl z)
      have q2 : ¬ hi < x.toInt := fun z => q (Or.inr z)
      have hj : (x.toInt - lo).toNat < offs.size := by omega
      obtain ⟨off, hoff⟩ : ∃ off, offs[(x.toInt - lo).toNat]? = some off := ⟨_, Array.getElem?_eq_getElem hj⟩
      obtain ⟨ho, kk⟩ := xtab_at k2 (j := (x.toInt - lo).toNat) (off := off) (by rw [Array.getElem?_toList]; exact hoff) (by omega)
      exact xs_stk (fun H locs arr cells slots hL hP kw => lv_tableIn hx hb hd q1 q2 hoff (by omega) kw) kk
  · exact kk.elim
theorem xlok_off {J : Int → Prop} {x dflt : Int} : ∀ {r : List (Int × Int)}, xlok J x dflt r → J (Op.lookupswitch.offset r dflt x)
  | [], hx => hx
  | (a, o) :: r, hx => by
    rw [Op.lookupswitch.offset_cons]
    by_cases q : a = x
    · rw [if_pos q]
      exact hx.1 q.symm
    · rw [if_neg q]
      exact xlok_off (hx.2 (fun z => q z.symm))
theorem xs_lok {dflt : Int} {ps : Array (Int × Int)} {len : Nat} (X : xCx G p R s m args meth c i d n0 s0 hf sf) (hd : decode (xMB i) pc = .ok (.lookupswitch dflt ps, len)) (kk : i_lok (xKW G p l e R s m args below meth c i n0 s0 hf sf Q) pc ls h dflt ps st) : xKW G p l e R s m args below meth c i n0 s0 hf sf Q pc ls st h := by
  obtain ⟨hx, hb, hml, hown, hts⟩ := X.1
  unfold i_lok at kk
  split at kk
  · rename_i x st
    obtain ⟨hp, k1⟩ := kk
    obtain ⟨ho, kk⟩ := xlok_off k1
    exact xs_stk (fun H locs arr cells slots hL hP kw => lv_lookup hx hb hd hp rfl (by omega) kw) kk
  · exact kk.elim
theorem xfind_mem {α : Type} {q : α} {f : α → Bool} {l : List α} (h : l.find? f = some q) : q ∈ l ∧ f q = true := ⟨List.mem_of_find?_eq_some h, List.find?_some h⟩
theorem xldi_w {o idx : Nat} {v : Int32} (h : xldi o idx = some v) : Cond.constant (xownS o) idx v ∈ xG := by
  unfold xldi at h
  cases hq : xI.find? (fun q => q.1 == o && q.2.1 == idx) with
  | none => rw [hq] at h; cases h
  | some q =>
    rw [hq] at h
    obtain ⟨h1, h2⟩ := xfind_mem hq
    have h3 := List.all_eq_true.mp xI_ok q h1
    simp only [Bool.and_eq_true, beq_iff_eq] at h2
    obtain ⟨rfl, rfl⟩ := h2
    cases h
    exact xok_in h3
theorem xldl_w {o idx : Nat} {v : Int64} (h : xldl o idx = some v) : Cond.constantLong (xownS o) idx v ∈ xG := by
  unfold xldl at h
  cases hq : xJ.find? (fun q => q.1 == o && q.2.1 == idx) with
  | none => rw [hq] at h; cases h
  | some q =>
    rw [hq] at h
    obtain ⟨h1, h2⟩ := xfind_mem hq
    have h3 := List.all_eq_true.mp xJ_ok q h1
    simp only [Bool.and_eq_true, beq_iff_eq] at h2
    obtain ⟨rfl, rfl⟩ := h2
    cases h
    exact xok_in h3
theorem xs_ldc {idx : Nat} (X : xCx G p R s m args meth c i d n0 s0 hf sf) (hd : decode (xMB i) pc = .ok (.ldc idx, 2)) (kk : match xldi (xMO i) idx with | some v => xKW G p l e R s m args below meth c i n0 s0 hf sf Q (pc + 2) ls (.int v :: st) h | none => False) : xKW G p l e R s m args below meth c i n0 s0 hf sf Q pc ls st h := by
  obtain ⟨hx, hb, hml, hown, hts⟩ := X.1
  split at kk
  · rename_i v hv
    exact xs_stk (fun H locs arr cells slots hL hP kw => lv_ldc hx hb hown (hts _ (xldi_w hv)) hd kw) kk
  · exact kk.elim
theorem xs_ldc_w {idx : Nat} (X : xCx G p R s m args meth c i d n0 s0 hf sf) (hd : decode (xMB i) pc = .ok (.ldc_w idx, 3)) (kk : match xldi (xMO i) idx with | some v => xKW G p l e R s m args below meth c i n0 s0 hf sf Q (pc + 3) ls (.int v :: st) h | none => False) : xKW G p l e R s m args below meth c i n0 s0 hf sf Q pc ls st h := by
  obtain ⟨hx, hb, hml, hown, hts⟩ := X.1
  split at kk
  · rename_i v hv
    exact xs_stk (fun H locs arr cells slots hL hP kw => lv_ldcw hx hb hown (hts _ (xldi_w hv)) hd kw) kk
  · exact kk.elim
theorem xs_ldc2_w {idx : Nat} (X : xCx G p R s m args meth c i d n0 s0 hf sf) (hd : decode (xMB i) pc = .ok (.ldc2_w idx, 3)) (kk : match xldl (xMO i) idx with | some v => xKW G p l e R s m args below meth c i n0 s0 hf sf Q (pc + 3) ls (.long v :: st) h | none => False) : xKW G p l e R s m args below meth c i n0 s0 hf sf Q pc ls st h := by
  obtain ⟨hx, hb, hml, hown, hts⟩ := X.1
  split at kk
  · rename_i v hv
    exact xs_stk (fun H locs arr cells slots hL hP kw => lv_ldc2 hx hb hown (hts _ (xldl_w hv)) hd kw) kk
  · exact kk.elim
end SND2
