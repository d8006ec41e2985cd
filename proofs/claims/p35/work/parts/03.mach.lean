/-! ===== the machine by numbers: what a method's bytecode does, on a heap that is a list of cells ===== -/
abbrev xL : Type := List (Option Value)
abbrev xC : Type := (Nat × vp_A) ⊕ (Nat × List Value)
abbrev xH : Type := List xC
abbrev xR : Type := Option Value × xH
def xsz (e : xC) : Nat := match e with
  | .inl (_, n, _) => n
  | .inr (_, fs) => fs.length
def xsl (h : xH) : Nat := (h.map xsz).sum
def xld (ls : xL) (k : Nat) : Option Value := (ls[k]?).join
def xclr (ls : xL) (k : Nat) : xL := match ls[k - 1]? with
  | some (some v) => if 0 < k ∧ v.category = 2 then ls.set (k - 1) none else ls
  | _ => ls
def xst1 (ls : xL) (k : Nat) (v : Value) : xL := (xclr ls k).set k (some v)
def xst2 (ls : xL) (k : Nat) (v : Value) : xL := ((xclr ls k).set (k + 1) none).set k (some v)
def xent (as : List Value) (n : Nat) : xL := (as.flatMap fun v => if v.category = 2 then [some v, none] else [some v]) ++ List.replicate (n - (as.flatMap fun v => if v.category = 2 then [some v, (none : Option Value)] else [some v]).length) none
def xfld (o idx : Nat) : Option (Nat × Nat) := (xF.find? (fun q => q.1 == o && q.2.1 == idx)).map (fun q => (q.2.2.1, q.2.2.2.1))
def xcal (o idx : Nat) : Option (Nat × Nat × Nat) := (xC0.find? (fun q => q.1 == o && q.2.1 == idx)).map (fun q => (q.2.2.1, q.2.2.2.1, q.2.2.2.2.1))
def xcls (o idx : Nat) : Option Nat := (xK.find? (fun q => q.1 == o && q.2.1 == idx)).map (fun q => q.2.2.1)
def xldi (o idx : Nat) : Option Int32 := (xI.find? (fun q => q.1 == o && q.2.1 == idx)).map (fun q => q.2.2.1)
def xldl (o idx : Nat) : Option Int64 := (xJ.find? (fun q => q.1 == o && q.2.1 == idx)).map (fun q => q.2.2.1)
def xMB (i : Nat) : ByteArray := match xM[i]? with
  | some q => q.2.1
  | none => ByteArray.empty
def xML (i : Nat) : Nat := match xM[i]? with
  | some q => q.2.2.1
  | none => 0
def xMR (i : Nat) : Option FieldType := match xM[i]? with
  | some q => q.2.2.2.1
  | none => none
def xMO (i : Nat) : Nat := match xM[i]? with
  | some q => q.2.2.2.2.2
  | none => 0
def xMY (i : Nat) : MethodName := match xM[i]? with
  | some q => q.1
  | none => ⟨"", "", ""⟩
/-- does a value stand for a type of a field -/
def xfit (ty : FieldType) (v : Value) : Prop := match ty, v with
  | .int, .int _ => True
  | .long, .long _ => True
  | .object _, .null => True
  | .object _, .ref _ => True
  | .array _, .null => True
  | .array _, .ref _ => True
  | _, _ => False
def xc1 (cd : ClassFile.Cond) (x : Int32) : Prop := match cd with
  | .eq => x = 0
  | .ne => ¬ x = 0
  | .lt => x < 0
  | .ge => 0 ≤ x
  | .gt => 0 < x
  | .le => x ≤ 0
def xc2 (cd : ClassFile.Cond) (x y : Int32) : Prop := match cd with
  | .eq => x = y
  | .ne => ¬ x = y
  | .lt => x < y
  | .ge => y ≤ x
  | .gt => y < x
  | .le => x ≤ y
def xtgt (pc : Nat) (off : Int) (J : Nat → Prop) : Prop := 0 ≤ (pc : Int) + off ∧ J ((pc : Int) + off).toNat
def xtab (J : Int → Prop) (x : Int) : Int → List Int → Prop
  | _, [] => True
  | lo, off :: r => (x = lo → J off) ∧ xtab J x (lo + 1) r
def xlok (J : Int → Prop) (x : Int) (dflt : Int) : List (Int × Int) → Prop
  | [] => J dflt
  | (a, off) :: r => (x = a → J off) ∧ (¬ x = a → xlok J x dflt r)
/-- the length of an instruction, as the rows have it -/
def xlen (i : Instr) (n : Nat) : Bool := match i with
  | .lookupswitch .. => true
  | .tableswitch .. => true
  | .aload _ | .astore _ | .bipush _ | .iload _ | .istore _ | .lload _ | .lstore _ | .ldc _ | .newarray _ => n == 2
  | .anewarray _ | .checkcast _ | .getfield _ | .getstatic _ | .goto _ | .if_acmp _ _ | .if_icmp _ _ | .ifCond _ _ | .ifnonnull _ | .ifnull _ | .iinc _ _ | .invokespecial _ | .invokestatic _ | .invokevirtual _ | .ldc_w _ | .ldc2_w _ | .new _ | .putfield _ | .sipush _ => n == 3
  | _ => n == 1
/-- the numbers of classes that stand for themselves (4 and 8 are second copies) -/
abbrev x9 (c : Nat) : Prop := c < 9 ∧ c ≠ 4 ∧ c ≠ 8
section XI
variable (K : Nat → xL → List Value → xH → Prop) (C : Nat → List Value → xH → (Option Value → xH → Prop) → Prop) (Rt : Option Value → xH → Prop) (o : Nat) (rt : Option FieldType) (ini : Bool) (pc : Nat) (ls : xL) (h : xH)
def i_aload (k len : Nat) (st : List Value) : Prop := match xld ls k with
  | some (.ref a) => K (pc + len) ls (.ref a :: st) h
  | some .null => K (pc + len) ls (.null :: st) h
  | _ => False
def i_iload (k len : Nat) (st : List Value) : Prop := match xld ls k with
  | some (.int x) => K (pc + len) ls (.int x :: st) h
  | _ => False
def i_lload (k len : Nat) (st : List Value) : Prop := match xld ls k with
  | some (.long x) => K (pc + len) ls (.long x :: st) h
  | _ => False
def i_astore (k len : Nat) (st : List Value) : Prop := match st with
  | .ref a :: st => k < ls.length ∧ K (pc + len) (xst1 ls k (.ref a)) st h
  | .null :: st => k < ls.length ∧ K (pc + len) (xst1 ls k .null) st h
  | _ => False
def i_istore (k len : Nat) (st : List Value) : Prop := match st with
  | .int x :: st => k < ls.length ∧ K (pc + len) (xst1 ls k (.int x)) st h
  | _ => False
def i_lstore (k len : Nat) (st : List Value) : Prop := match st with
  | .long x :: st => k + 1 < ls.length ∧ K (pc + len) (xst2 ls k (.long x)) st h
  | _ => False
def i_iinc (k : Nat) (n : Int) (st : List Value) : Prop := match xld ls k with
  | some (.int x) => k < ls.length ∧ K (pc + 3) (xst1 ls k (.int (x + Int32.ofInt n))) st h
  | _ => False
def i_int2 (f : Int32 → Int32 → Int32) (st : List Value) : Prop := match st with
  | .int y :: .int x :: st => K (pc + 1) ls (.int (f x y) :: st) h
  | _ => False
def i_div2 (f : Int32 → Int32 → Int32) (st : List Value) : Prop := match st with
  | .int y :: .int x :: st => ¬ y = 0 ∧ K (pc + 1) ls (.int (f x y) :: st) h
  | _ => False
def i_lng2 (f : Int64 → Int64 → Int64) (st : List Value) : Prop := match st with
  | .long y :: .long x :: st => K (pc + 1) ls (.long (f x y) :: st) h
  | _ => False
def i_ldv2 (f : Int64 → Int64 → Int64) (st : List Value) : Prop := match st with
  | .long y :: .long x :: st => ¬ y = 0 ∧ K (pc + 1) ls (.long (f x y) :: st) h
  | _ => False
def i_lsh (f : Int64 → Int32 → Int64) (st : List Value) : Prop := match st with
  | .int y :: .long x :: st => K (pc + 1) ls (.long (f x y) :: st) h
  | _ => False
def i_int1 (f : Int32 → Int32) (st : List Value) : Prop := match st with
  | .int x :: st => K (pc + 1) ls (.int (f x) :: st) h
  | _ => False
def i_i2l (st : List Value) : Prop := match st with
  | .int x :: st => K (pc + 1) ls (.long x.toInt64 :: st) h
  | _ => False
def i_l2i (st : List Value) : Prop := match st with
  | .long x :: st => K (pc + 1) ls (.int x.toInt32 :: st) h
  | _ => False
def i_lcmp (st : List Value) : Prop := match st with
  | .long y :: .long x :: st => K (pc + 1) ls (.int (lg_cmp x y) :: st) h
  | _ => False
def i_dup (st : List Value) : Prop := match st with
  | v :: st => v.category = 1 ∧ K (pc + 1) ls (v :: v :: st) h
  | _ => False
def i_pop (st : List Value) : Prop := match st with
  | v :: st => v.category = 1 ∧ K (pc + 1) ls st h
  | _ => False
def i_dup_x1 (st : List Value) : Prop := match st with
  | v :: w :: st => v.category = 1 ∧ w.category = 1 ∧ K (pc + 1) ls (v :: w :: v :: st) h
  | _ => False
def i_dup2 (st : List Value) : Prop := match st with
  | v :: w :: st => v.category = 1 ∧ w.category = 1 ∧ K (pc + 1) ls (v :: w :: v :: w :: st) h
  | _ => False
def i_if1 (cd : ClassFile.Cond) (off : Int) (st : List Value) : Prop := match st with
  | .int x :: st => 0 ≤ (pc : Int) + off ∧ (xc1 cd x → K ((pc : Int) + off).toNat ls st h) ∧ (¬ xc1 cd x → K (pc + 3) ls st h)
  | _ => False
def i_if2 (cd : ClassFile.Cond) (off : Int) (st : List Value) : Prop := match st with
  | .int y :: .int x :: st => 0 ≤ (pc : Int) + off ∧ (xc2 cd x y → K ((pc : Int) + off).toNat ls st h) ∧ (¬ xc2 cd x y → K (pc + 3) ls st h)
  | _ => False
def i_acmp (cd : ClassFile.ACond) (off : Int) (st : List Value) : Prop := match cd, st with
  | .eq, .ref y :: .ref x :: st => 0 ≤ (pc : Int) + off ∧ x < h.length ∧ y < h.length ∧ (x = y → K ((pc : Int) + off).toNat ls st h) ∧ (¬ x = y → K (pc + 3) ls st h)
  | _, _ => False
def i_ifnull (off : Int) (st : List Value) : Prop := match st with
  | .null :: st => 0 ≤ (pc : Int) + off ∧ K ((pc : Int) + off).toNat ls st h
  | .ref _ :: st => K (pc + 3) ls st h
  | _ => False
def i_ifnonnull (off : Int) (st : List Value) : Prop := match st with
  | .ref _ :: st => 0 ≤ (pc : Int) + off ∧ K ((pc : Int) + off).toNat ls st h
  | .null :: st => K (pc + 3) ls st h
  | _ => False
def i_tab (dflt lo hi : Int) (offs : Array Int) (st : List Value) : Prop := match st with
  | .int x :: st => (lo + offs.size = hi + 1) ∧ (x.toInt < lo ∨ hi < x.toInt → xtgt pc dflt (fun t => K t ls st h)) ∧ xtab (fun off => xtgt pc off (fun t => K t ls st h)) x.toInt lo offs.toList
  | _ => False
def i_lok (dflt : Int) (ps : Array (Int × Int)) (st : List Value) : Prop := match st with
  | .int x :: st => (ps.toList.zip (ps.toList.drop 1)).all (fun (a, next) => a.1 < next.1) = true ∧ xlok (fun off => xtgt pc off (fun t => K t ls st h)) x.toInt dflt ps.toList
  | _ => False
def i_get (idx : Nat) (st : List Value) : Prop := match st with
  | .ref a :: st => match xfld o idx with
    | some (ci, k) => match h[a]? with
      | some (.inr (cj, fs)) => cj = ci ∧ match fs[k]? with
        | some v => K (pc + 3) ls (v :: st) h
        | none => False
      | _ => False
    | none => False
  | _ => False
def i_put (idx : Nat) (st : List Value) : Prop := match st with
  | v :: .ref a :: st => match xfld o idx with
    | some (ci, k) => match h[a]? with
      | some (.inr (cj, fs)) => cj = ci ∧ 2 ≤ a ∧ k < fs.length ∧ (match xT[ci]? with
        | some ts => match ts[k]? with
          | some ty => xfit ty v
          | none => False
        | none => False) ∧ (match xFin[ci]? with
        | some fi => fi[k]? = some false ∨ (fi[k]? = some true ∧ ini = true ∧ o = ci)
        | none => False) ∧ K (pc + 3) ls st (h.set a (.inr (ci, fs.set k v)))
      | _ => False
    | none => False
  | _ => False
def i_iald (st : List Value) : Prop := match st with
  | .int i :: .ref a :: st => match h[a]? with
    | some (.inl (0, n, .inl f)) => vp_in i n ∧ K (pc + 1) ls (.int (f i.toNatClampNeg) :: st) h
    | _ => False
  | _ => False
def i_iast (st : List Value) : Prop := match st with
  | .int x :: .int i :: .ref a :: st => match h[a]? with
    | some (.inl (0, n, .inl f)) => 2 ≤ a ∧ vp_in i n ∧ K (pc + 1) ls st (h.set a (.inl (0, n, .inl (upd f i.toNatClampNeg x))))
    | _ => False
  | _ => False
def i_zald (st : List Value) : Prop := match st with
  | .int i :: .ref a :: st => match h[a]? with
    | some (.inl (1, n, .inl f)) => 2 ≤ a ∧ vp_in i n ∧ K (pc + 1) ls (.int (f i.toNatClampNeg) :: st) h
    | _ => False
  | _ => False
def i_zast (st : List Value) : Prop := match st with
  | .int x :: .int i :: .ref a :: st => match h[a]? with
    | some (.inl (1, n, .inl f)) => 2 ≤ a ∧ vp_in i n ∧ K (pc + 1) ls st (h.set a (.inl (1, n, .inl (upd f i.toNatClampNeg (vp_nar .boolean x)))))
    | _ => False
  | _ => False
def i_lald (st : List Value) : Prop := match st with
  | .int i :: .ref a :: st => match h[a]? with
    | some (.inl (4, n, .inr (.inl f))) => 2 ≤ a ∧ vp_in i n ∧ K (pc + 1) ls (.long (f i.toNatClampNeg) :: st) h
    | _ => False
  | _ => False
def i_last (st : List Value) : Prop := match st with
  | .long x :: .int i :: .ref a :: st => match h[a]? with
    | some (.inl (4, n, .inr (.inl f))) => 2 ≤ a ∧ vp_in i n ∧ K (pc + 1) ls st (h.set a (.inl (4, n, .inr (.inl (vp_updL f i.toNatClampNeg x)))))
    | _ => False
  | _ => False
def i_aald (st : List Value) : Prop := match st with
  | .int i :: .ref a :: st => match h[a]? with
    | some (.inl (t, n, .inr (.inr (.inr (.inr f))))) => 2 ≤ a ∧ (t = 2 ∨ t = 3) ∧ vp_in i n ∧ K (pc + 1) ls (va_rf (f i.toNatClampNeg) :: st) h
    | _ => False
  | _ => False
def i_aast (st : List Value) : Prop := match st with
  | v :: .int i :: .ref a :: st => match h[a]? with
    | some (.inl (t, n, .inr (.inr (.inr (.inr f))))) => 2 ≤ a ∧ vp_in i n ∧ match v with
      | .null => (t = 2 ∨ t = 3) ∧ K (pc + 1) ls st (h.set a (.inl (t, n, .inr (.inr (.inr (.inr (va_up f i.toNatClampNeg none)))))))
      | .ref b => 2 ≤ b ∧ (match h[b]? with
        | some (.inr (cj, _)) => cj < 9 ∧ (t = 2 ∨ (t = 3 ∧ cj = 5))
        | _ => False) ∧ K (pc + 1) ls st (h.set a (.inl (t, n, .inr (.inr (.inr (.inr (va_up f i.toNatClampNeg (some b))))))))
      | _ => False
    | _ => False
  | _ => False
def i_alen (st : List Value) : Prop := match st with
  | .ref a :: st => match h[a]? with
    | some (.inl (t, n, _)) => t < 5 ∧ K (pc + 1) ls (.int (Int32.ofNat n) :: st) h
    | _ => False
  | _ => False
def i_newa (ty : ArrayType) (st : List Value) : Prop := match st with
  | .int n :: st => ¬ n < 0 ∧ n.toNatClampNeg ≤ 1000 ∧ match ty with
    | .int => K (pc + 2) ls (.ref h.length :: st) (h ++ [.inl (0, n.toNatClampNeg, .inl (fun _ => 0))])
    | .boolean => K (pc + 2) ls (.ref h.length :: st) (h ++ [.inl (1, n.toNatClampNeg, .inl (fun _ => 0))])
    | .long => K (pc + 2) ls (.ref h.length :: st) (h ++ [.inl (4, n.toNatClampNeg, .inr (.inl (fun _ => 0)))])
    | _ => False
  | _ => False
def i_newq (idx : Nat) (st : List Value) : Prop := match st with
  | .int n :: st => ¬ n < 0 ∧ n.toNatClampNeg ≤ 1000 ∧ ((o = 7 ∧ idx = 28 ∧ K (pc + 3) ls (.ref h.length :: st) (h ++ [.inl (3, n.toNatClampNeg, .inr (.inr (.inr (.inr (fun _ => none)))))])) ∨ (o = 0 ∧ idx = 7 ∧ K (pc + 3) ls (.ref h.length :: st) (h ++ [.inl (2, n.toNatClampNeg, .inr (.inr (.inr (.inr (fun _ => none)))))])))
  | _ => False
def i_new (idx : Nat) (st : List Value) : Prop := match xcls o idx with
  | some ci => match xDef[ci]? with
    | some fs => K (pc + 3) ls (.ref h.length :: st) (h ++ [.inr (ci, fs)])
    | none => False
  | none => False
def i_cast (idx : Nat) (st : List Value) : Prop := match st with
  | .ref a :: st => match h[a]? with
    | some (.inr (cj, _)) => 2 ≤ a ∧ cj < 9 ∧ xcls o idx = some cj ∧ K (pc + 3) ls (.ref a :: st) h
    | _ => False
  | .null :: st => K (pc + 3) ls (.null :: st) h
  | _ => False
def i_gets (idx : Nat) (st : List Value) : Prop := o = 0 ∧ idx = 39 ∧ K (pc + 3) ls (.ref 1 :: st) h
def i_cal (kd j np : Nat) (st : List Value) : Prop := match kd with
  | 0 => match st.drop np with
    | .ref b :: rest => (match h[b]? with
      | some (.inr (cj, _)) => 2 ≤ b ∧ x9 cj ∧ xownS cj = (xMY j).cls
      | _ => False) ∧ np ≤ st.length ∧ (rest.map fun v => v.category).sum ≤ 8 ∧ C j (.ref b :: (st.take np).reverse) h (fun v h1 => K (pc + 3) ls (v.toList ++ rest) h1)
    | _ => False
  | 1 => match st.drop np with
    | .ref b :: rest => np ≤ st.length ∧ (rest.map fun v => v.category).sum ≤ 8 ∧ C j (.ref b :: (st.take np).reverse) h (fun v h1 => K (pc + 3) ls (v.toList ++ rest) h1)
    | _ => False
  | 2 => np ≤ st.length ∧ ((st.drop np).map fun v => v.category).sum ≤ 8 ∧ C j (st.take np).reverse h (fun v h1 => K (pc + 3) ls (v.toList ++ st.drop np) h1)
  | 3 => match st.drop np with
    | .ref b :: rest => np ≤ st.length ∧ (rest.map fun v => v.category).sum ≤ 8 ∧ C j (.ref b :: (st.take np).reverse) h (fun v h1 => K (pc + 3) ls (v.toList ++ rest) h1)
    | _ => False
  | 4 => match st with
    | .ref _ :: rest => (rest.map fun v => v.category).sum ≤ 8 ∧ K (pc + 3) ls rest h
    | _ => False
  | 5 => match st with
    | .int n :: .int dp :: .ref a :: .int sp :: .ref a0 :: rest => 2 ≤ a ∧ 2 ≤ a0 ∧ (rest.map fun v => v.category).sum ≤ 8 ∧ ¬ sp < 0 ∧ ¬ dp < 0 ∧ ¬ n < 0 ∧ (match h[a0]?, h[a]? with
      | some (.inl (0, n0, .inl f)), some (.inl (0, n1, .inl g)) => sp.toNatClampNeg + n.toNatClampNeg ≤ n0 ∧ dp.toNatClampNeg + n.toNatClampNeg ≤ n1 ∧ K (pc + 3) ls rest (h.set a (.inl (0, n1, .inl (va_cpy f g sp.toNatClampNeg dp.toNatClampNeg n.toNatClampNeg))))
      | some (.inl (2, n0, .inr (.inr (.inr (.inr f))))), some (.inl (2, n1, .inr (.inr (.inr (.inr g))))) => sp.toNatClampNeg + n.toNatClampNeg ≤ n0 ∧ dp.toNatClampNeg + n.toNatClampNeg ≤ n1 ∧ (∃ ce : Nat, ce < 9 ∧ ∀ i : Nat, i < n.toNatClampNeg → ∀ y : Nat, f (sp.toNatClampNeg + i) = some y → 2 ≤ y ∧ ∃ fs, h[y]? = some (.inr (ce, fs))) ∧ K (pc + 3) ls rest (h.set a (.inl (2, n1, .inr (.inr (.inr (.inr (va_cpy f g sp.toNatClampNeg dp.toNatClampNeg n.toNatClampNeg)))))))
      | _, _ => False)
    | _ => False
  | 6 => match st with
    | .int y :: .int x :: rest => (rest.map fun v => v.category).sum ≤ 8 ∧ K (pc + 3) ls (.int (if x < y then y else x) :: rest) h
    | _ => False
  | 7 => match st with
    | .int y :: .int x :: rest => (rest.map fun v => v.category).sum ≤ 8 ∧ K (pc + 3) ls (.int (if y < x then y else x) :: rest) h
    | _ => False
  | _ => False
def i_iret (st : List Value) : Prop := match st with
  | [.int x] => (rt = some .int ∨ (rt = some .boolean ∧ narrow .boolean (.int x) = .int x)) ∧ Rt (some (.int x)) h
  | _ => False
def i_lret (st : List Value) : Prop := match st with
  | [.long x] => rt = some .long ∧ Rt (some (.long x)) h
  | _ => False
def i_aret (st : List Value) : Prop := match rt with
  | some (.object _) | some (.array _) => (match st with
    | [.null] => Rt (some .null) h
    | [.ref a] => Rt (some (.ref a)) h
    | _ => False)
  | _ => False
def i_vret (st : List Value) : Prop := st = [] ∧ rt = none ∧ Rt none h
def exI (st : List Value) : Instr → Prop
  | .aconst_null => K (pc + 1) ls (.null :: st) h
  | .iconst n => K (pc + 1) ls (.int (Int32.ofInt n) :: st) h
  | .bipush n => K (pc + 2) ls (.int (Int8.ofInt n).toInt32 :: st) h
  | .sipush n => K (pc + 3) ls (.int (Int16.ofInt n).toInt32 :: st) h
  | .lconst n => K (pc + 1) ls (.long (Int64.ofNat (n : Nat)) :: st) h
  | .ldc idx => match xldi o idx with
    | some v => K (pc + 2) ls (.int v :: st) h
    | none => False
  | .ldc_w idx => match xldi o idx with
    | some v => K (pc + 3) ls (.int v :: st) h
    | none => False
  | .ldc2_w idx => match xldl o idx with
    | some v => K (pc + 3) ls (.long v :: st) h
    | none => False
  | .aload k => i_aload K pc ls h k 2 st
  | .aload_n k => i_aload K pc ls h (k : Nat) 1 st
  | .iload k => i_iload K pc ls h k 2 st
  | .iload_n k => i_iload K pc ls h (k : Nat) 1 st
  | .lload k => i_lload K pc ls h k 2 st
  | .lload_n k => i_lload K pc ls h (k : Nat) 1 st
  | .astore k => i_astore K pc ls h k 2 st
  | .astore_n k => i_astore K pc ls h (k : Nat) 1 st
  | .istore k => i_istore K pc ls h k 2 st
  | .istore_n k => i_istore K pc ls h (k : Nat) 1 st
  | .lstore k => i_lstore K pc ls h k 2 st
  | .lstore_n k => i_lstore K pc ls h (k : Nat) 1 st
  | .iinc k n => i_iinc K pc ls h k n st
  | .iadd => i_int2 K pc ls h (fun x y => x + y) st
  | .isub => i_int2 K pc ls h (fun x y => x - y) st
  | .imul => i_int2 K pc ls h (fun x y => x * y) st
  | .iand => i_int2 K pc ls h (fun x y => x &&& y) st
  | .ior => i_int2 K pc ls h (fun x y => x ||| y) st
  | .ixor => i_int2 K pc ls h (fun x y => x ^^^ y) st
  | .ishl => i_int2 K pc ls h (fun x y => x <<< (y &&& 31)) st
  | .ishr => i_int2 K pc ls h (fun x y => x >>> (y &&& 31)) st
  | .iushr => i_int2 K pc ls h (fun x y => (x.toUInt32 >>> (y.toUInt32 &&& Int32.toUInt32 31)).toInt32) st
  | .idiv => i_div2 K pc ls h (fun x y => x / y) st
  | .irem => i_div2 K pc ls h (fun x y => x - x / y * y) st
  | .ineg => i_int1 K pc ls h (fun x => -x) st
  | .i2b => i_int1 K pc ls h (fun x => x.toInt8.toInt32) st
  | .i2s => i_int1 K pc ls h (fun x => x.toInt16.toInt32) st
  | .i2c => i_int1 K pc ls h (fun x => (x.toUInt32 % 65536).toInt32) st
  | .i2l => i_i2l K pc ls h st
  | .l2i => i_l2i K pc ls h st
  | .ladd => i_lng2 K pc ls h (fun x y => x + y) st
  | .lsub => i_lng2 K pc ls h (fun x y => x - y) st
  | .lmul => i_lng2 K pc ls h (fun x y => x * y) st
  | .land => i_lng2 K pc ls h (fun x y => x &&& y) st
  | .lor => i_lng2 K pc ls h (fun x y => x ||| y) st
  | .lxor => i_lng2 K pc ls h (fun x y => x ^^^ y) st
  | .ldiv => i_ldv2 K pc ls h (fun x y => x / y) st
  | .lrem => i_ldv2 K pc ls h (fun x y => x - x / y * y) st
  | .lshl => i_lsh K pc ls h (fun x y => x <<< (y.toInt64 &&& 63)) st
  | .lshr => i_lsh K pc ls h (fun x y => x >>> (y.toInt64 &&& 63)) st
  | .lushr => i_lsh K pc ls h (fun x y => (x.toUInt64 >>> (y.toInt64.toUInt64 &&& Int64.toUInt64 63)).toInt64) st
  | .lcmp => i_lcmp K pc ls h st
  | .dup => i_dup K pc ls h st
  | .pop => i_pop K pc ls h st
  | .dup_x1 => i_dup_x1 K pc ls h st
  | .dup2 => i_dup2 K pc ls h st
  | .ifCond cd off => i_if1 K pc ls h cd off st
  | .if_icmp cd off => i_if2 K pc ls h cd off st
  | .if_acmp cd off => i_acmp K pc ls h cd off st
  | .ifnull off => i_ifnull K pc ls h off st
  | .ifnonnull off => i_ifnonnull K pc ls h off st
  | .goto off => 0 ≤ (pc : Int) + off ∧ K ((pc : Int) + off).toNat ls st h
  | .tableswitch d lo hi offs => i_tab K pc ls h d lo hi offs st
  | .lookupswitch d ps => i_lok K pc ls h d ps st
  | .getfield idx => i_get K o pc ls h idx st
  | .putfield idx => i_put K o ini pc ls h idx st
  | .iaload => i_iald K pc ls h st
  | .iastore => i_iast K pc ls h st
  | .baload => i_zald K pc ls h st
  | .bastore => i_zast K pc ls h st
  | .laload => i_lald K pc ls h st
  | .lastore => i_last K pc ls h st
  | .aaload => i_aald K pc ls h st
  | .aastore => i_aast K pc ls h st
  | .arraylength => i_alen K pc ls h st
  | .newarray ty => i_newa K pc ls h ty st
  | .anewarray idx => i_newq K o pc ls h idx st
  | .new idx => i_new K o pc ls h idx st
  | .checkcast idx => i_cast K o pc ls h idx st
  | .getstatic idx => i_gets K o pc ls h idx st
  | .invokevirtual idx => match xcal o idx with
    | some (0, j, np) => i_cal K C pc ls h 0 j np st
    | _ => False
  | .invokespecial idx => match xcal o idx with
    | some (1, j, np) => i_cal K C pc ls h 1 j np st
    | some (3, j, np) => i_cal K C pc ls h 3 j np st
    | some (4, j, np) => i_cal K C pc ls h 4 j np st
    | _ => False
  | .invokestatic idx => match xcal o idx with
    | some (2, j, np) => i_cal K C pc ls h 2 j np st
    | some (5, j, np) => i_cal K C pc ls h 5 j np st
    | some (6, j, np) => i_cal K C pc ls h 6 j np st
    | some (7, j, np) => i_cal K C pc ls h 7 j np st
    | _ => False
  | .ireturn => i_iret Rt rt h st
  | .lreturn => i_lret Rt rt h st
  | .areturn => i_aret Rt rt h st
  | .return_ => i_vret Rt rt h st
  | _ => False
end XI
