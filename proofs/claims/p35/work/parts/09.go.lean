section XO
variable {A : Prop} {o : Nat} {rt : Option FieldType} {ini : Bool} {pc : Nat} {ls : xL} {h : xH} {st : List Value}
theorem xlok_all {J : Int → Prop} {x dflt : Int} (hA : ∀ off, J off → A) : ∀ (r : List (Int × Int)), xlok J x dflt r → A
  | [], hx => hA _ hx
  | (a, off) :: r, hx => by
    by_cases q : x = a
    · exact hA _ (hx.1 q)
    · exact xlok_all hA r (hx.2 q)
theorem xcal_const {kd j np : Nat} : i_cal (fun _ _ _ _ => A) (fun _ _ _ k => ∃ v h1, k v h1) pc ls h kd j np st → A := by
  unfold i_cal
  intro hh
  split at hh
  · split at hh
    · obtain ⟨-, -, -, v, h1, q⟩ := hh; exact q
    · exact hh.elim
  · split at hh
    · obtain ⟨-, -, v, h1, q⟩ := hh; exact q
    · exact hh.elim
  · obtain ⟨-, -, v, h1, q⟩ := hh; exact q
  · split at hh
    · obtain ⟨-, -, v, h1, q⟩ := hh; exact q
    · exact hh.elim
  · split at hh
    · exact hh.2
    · exact hh.elim
  · split at hh
    · obtain ⟨-, -, -, -, -, -, hh⟩ := hh
      split at hh
      · exact hh.2.2
      · exact hh.2.2.2
      · exact hh.elim
    · exact hh.elim
  · split at hh
    · exact hh.2
    · exact hh.elim
  · split at hh
    · exact hh.2
    · exact hh.elim
  · exact hh.elim
theorem xem {c : Prop} (h : (c → A) ∧ (¬ c → A)) : A := (Classical.em c).elim h.1 h.2
theorem exI_const (ins : Instr) : exI (fun _ _ _ _ => A) (fun _ _ _ k => ∃ v h1, k v h1) (fun _ _ => A) o rt ini pc ls h st ins → A := by
  cases ins <;> simp only [exI] <;> intro hh
  case aload => unfold i_aload at hh; split at hh <;> first | exact hh | exact hh.elim
  case aload_n => unfold i_aload at hh; split at hh <;> first | exact hh | exact hh.elim
  case iload => unfold i_iload at hh; split at hh <;> first | exact hh | exact hh.elim
  case iload_n => unfold i_iload at hh; split at hh <;> first | exact hh | exact hh.elim
  case lload => unfold i_lload at hh; split at hh <;> first | exact hh | exact hh.elim
  case lload_n => unfold i_lload at hh; split at hh <;> first | exact hh | exact hh.elim
  case astore => unfold i_astore at hh; split at hh <;> first | exact hh.2 | exact hh.elim
  case astore_n => unfold i_astore at hh; split at hh <;> first | exact hh.2 | exact hh.elim
  case istore => unfold i_istore at hh; split at hh <;> first | exact hh.2 | exact hh.elim
  case istore_n => unfold i_istore at hh; split at hh <;> first | exact hh.2 | exact hh.elim
  case lstore => unfold i_lstore at hh; split at hh <;> first | exact hh.2 | exact hh.elim
  case lstore_n => unfold i_lstore at hh; split at hh <;> first | exact hh.2 | exact hh.elim
  case iinc => unfold i_iinc at hh; split at hh <;> first | exact hh.2 | exact hh.elim
  case dup => unfold i_dup at hh; split at hh <;> first | exact hh.2 | exact hh.elim
  case pop => unfold i_pop at hh; split at hh <;> first | exact hh.2 | exact hh.elim
  case dup_x1 => unfold i_dup_x1 at hh; split at hh <;> first | exact hh.2.2 | exact hh.elim
  case dup2 => unfold i_dup2 at hh; split at hh <;> first | exact hh.2.2 | exact hh.elim
  case i2l => unfold i_i2l at hh; split at hh <;> first | exact hh | exact hh.elim
  case l2i => unfold i_l2i at hh; split at hh <;> first | exact hh | exact hh.elim
  case lcmp => unfold i_lcmp at hh; split at hh <;> first | exact hh | exact hh.elim
  case ifCond => unfold i_if1 at hh; split at hh <;> first | exact xem hh.2 | exact hh.elim
  case if_icmp => unfold i_if2 at hh; split at hh <;> first | exact xem hh.2 | exact hh.elim
  case if_acmp => unfold i_acmp at hh; split at hh <;> first | exact xem hh.2.2.2 | exact hh.elim
  case ifnull => unfold i_ifnull at hh; split at hh <;> first | exact hh.2 | exact hh | exact hh.elim
  case ifnonnull => unfold i_ifnonnull at hh; split at hh <;> first | exact hh.2 | exact hh | exact hh.elim
  case goto => exact hh.2
  case tableswitch =>
    unfold i_tab at hh
    split at hh
    · rename_i x st
      obtain ⟨h1, h2, h3⟩ := hh
      rename_i dflt lo hi offs _
      by_cases q : x.toInt < lo ∨ hi < x.toInt
      · exact (h2 q).2
      · have hlen : (offs.toList.length : Int) = offs.size := by simp
        exact xtab_all (fun off z => z.2) h3 (by omega) (by omega)
    · exact hh.elim
  case lookupswitch =>
    unfold i_lok at hh
    split at hh
    · exact xlok_all (fun off z => z.2) _ hh.2
    · exact hh.elim
  case getfield => unfold i_get at hh; repeat' first | exact hh.elim | exact hh | exact hh.2 | (split at hh) | (replace hh := hh.2)
  case putfield => unfold i_put at hh; (repeat' split at hh) <;> first | exact hh.elim | exact hh.2.2.2.2.2
  case iaload => unfold i_iald at hh; (repeat' split at hh) <;> first | exact hh.elim | exact hh.2
  case baload => unfold i_zald at hh; (repeat' split at hh) <;> first | exact hh.elim | exact hh.2.2
  case laload => unfold i_lald at hh; (repeat' split at hh) <;> first | exact hh.elim | exact hh.2.2
  case lastore => unfold i_last at hh; (repeat' split at hh) <;> first | exact hh.elim | exact hh.2.2
  case aaload => unfold i_aald at hh; (repeat' split at hh) <;> first | exact hh.elim | exact hh.2.2.2
  case arraylength => unfold i_alen at hh; (repeat' split at hh) <;> first | exact hh.elim | exact hh.2
  case iastore => unfold i_iast at hh; (repeat' split at hh) <;> first | exact hh.elim | exact hh.2.2
  case bastore => unfold i_zast at hh; (repeat' split at hh) <;> first | exact hh.elim | exact hh.2.2
  case aastore =>
    unfold i_aast at hh
    split at hh
    case h_2 => exact hh.elim
    split at hh
    case h_2 => exact hh.elim
    replace hh := hh.2.2
    split at hh
    · exact hh.2
    · exact hh.2.2
    · exact hh.elim
  case newarray =>
    unfold i_newa at hh
    split at hh
    case h_2 => exact hh.elim
    replace hh := hh.2.2
    split at hh <;> first | exact hh | exact hh.elim
  case anewarray =>
    unfold i_newq at hh
    split at hh
    case h_2 => exact hh.elim
    replace hh := hh.2.2
    rcases hh with hh | hh
    · exact hh.2.2
    · exact hh.2.2
  case new => unfold i_new at hh; (repeat' split at hh) <;> first | exact hh.elim | exact hh
  case checkcast =>
    unfold i_cast at hh
    split at hh
    · split at hh
      · exact hh.2.2.2
      · exact hh.elim
    · exact hh
    · exact hh.elim
  case getstatic => exact hh.2.2
  case invokevirtual => split at hh <;> first | exact xcal_const hh | exact hh.elim
  case invokespecial => split at hh <;> first | exact xcal_const hh | exact hh.elim
  case invokestatic => split at hh <;> first | exact xcal_const hh | exact hh.elim
  case ireturn => unfold i_iret at hh; split at hh <;> first | exact hh.2 | exact hh.elim
  case lreturn => unfold i_lret at hh; split at hh <;> first | exact hh.2 | exact hh.elim
  case areturn => unfold i_aret at hh; (repeat' split at hh) <;> first | exact hh | exact hh.elim
  case return_ => exact hh.2.2
  all_goals first | exact hh.elim | exact hh | (unfold i_int2 at hh; split at hh <;> first | exact hh | exact hh.elim) | (unfold i_int1 at hh; split at hh <;> first | exact hh | exact hh.elim) | (unfold i_lng2 at hh; split at hh <;> first | exact hh | exact hh.elim) | (unfold i_lsh at hh; split at hh <;> first | exact hh | exact hh.elim) | (unfold i_div2 at hh; split at hh <;> first | exact hh.2 | exact hh.elim) | (unfold i_ldv2 at hh; split at hh <;> first | exact hh.2 | exact hh.elim) | (split at hh <;> first | exact hh | exact hh.elim)
end XO
abbrev xPr : Type := Nat → Nat → Nat → xL → List Value → xH → xR → Prop
/-- a call: the callee's run from its entry, one level down -/
def xCl (P : xPr) (d j : Nat) (as : List Value) (h : xH) (k : Option Value → xH → Prop) : Prop := ∃ d', d = d' + 1 ∧ j < xLaw ∧ (xent as (xML j)).length = xML j ∧ ∃ r h1, P d' j 0 (xent as (xML j)) [] h (r, h1) ∧ xle h h1 ∧ k r h1
def xStep (P : xPr) (d i pc : Nat) (ls : xL) (st : List Value) (h : xH) (R : xR) : Prop := ∃ ins len, decode (xMB i) pc = .ok (ins, len) ∧ xlen ins len = true ∧ exI (fun pc ls st h => P d i pc ls st h R) (xCl P d) (fun v h1 => R = (v, h1)) (xMO i) (xMR i) (decide ((xMY i).name = "<init>")) pc ls h st ins
/-- method i, from pc on with these locals, stack and heap, ends with R; d calls may be entered -/
def xGo : xPr := fun d i pc ls st h R => ∀ P : xPr, (∀ d i pc ls st h R, xStep P d i pc ls st h R → P d i pc ls st h R) → P d i pc ls st h R
theorem xGo_ind {P : xPr} (hP : ∀ d i pc ls st h R, xStep P d i pc ls st h R → P d i pc ls st h R) {d i pc : Nat} {ls : xL} {st : List Value} {h : xH} {R : xR} (hg : xGo d i pc ls st h R) : P d i pc ls st h R := hg P hP
theorem xGo_le {d i pc : Nat} {ls : xL} {st : List Value} {h : xH} {R : xR} (hg : xGo d i pc ls st h R) : xle h R.2 := by
  refine xGo_ind (P := fun _ _ _ _ _ h R => xle h R.2) ?_ hg
  rintro d i pc ls st h R ⟨ins, len, -, -, hh⟩
  refine exI_const ins (exI_mono (K' := fun _ _ _ _ => xle h R.2) (C' := fun _ _ _ k => ∃ v h1, k v h1) (Rt' := fun _ _ => xle h R.2) ?_ ?_ ?_ ins hh)
  · exact fun _ _ _ h' a b => a.tr b
  · rintro j as k k' hk ⟨d', -, -, -, r, h1, -, q1, q2⟩
    exact ⟨r, h1, hk r h1 q1 q2⟩
  · rintro v rfl
    exact xle.rf
theorem xStep_mono {P P' : xPr} (hP : ∀ d i pc ls st h R, P d i pc ls st h R → P' d i pc ls st h R) {d i pc : Nat} {ls : xL} {st : List Value} {h : xH} {R : xR} (hs : xStep P d i pc ls st h R) : xStep P' d i pc ls st h R := by
  obtain ⟨ins, len, h1, h2, hh⟩ := hs
  refine ⟨ins, len, h1, h2, exI_mono ?_ ?_ ?_ ins hh⟩
  · exact fun _ _ _ _ _ q => hP _ _ _ _ _ _ _ q
  · rintro j as k k' hk ⟨d', a1, a2, a3, r, h1, q1, q2, q3⟩
    exact ⟨d', a1, a2, a3, r, h1, hP _ _ _ _ _ _ _ q1, q2, hk r h1 q2 q3⟩
  · exact fun _ q => q
theorem xGo_in {d i pc : Nat} {ls : xL} {st : List Value} {h : xH} {R : xR} (hs : xStep xGo d i pc ls st h R) : xGo d i pc ls st h R :=
  fun _ hP => hP _ _ _ _ _ _ _ (xStep_mono (fun _ _ _ _ _ _ _ q => xGo_ind hP q) hs)
theorem xGo_out {d i pc : Nat} {ls : xL} {st : List Value} {h : xH} {R : xR} (hg : xGo d i pc ls st h R) : xStep xGo d i pc ls st h R :=
  xGo_ind (P := xStep xGo) (fun _ _ _ _ _ _ _ q => xStep_mono (fun _ _ _ _ _ _ _ z => xGo_in z) q) hg
/-- the step at a known instruction -/
theorem xGo_iff {d i pc : Nat} {ls : xL} {st : List Value} {h : xH} {R : xR} {ins : Instr} {len : Nat} (hd : decode (xMB i) pc = .ok (ins, len)) (hl : xlen ins len = true) : xGo d i pc ls st h R ↔ exI (fun pc ls st h => xGo d i pc ls st h R) (xCl xGo d) (fun v h1 => R = (v, h1)) (xMO i) (xMR i) (decide ((xMY i).name = "<init>")) pc ls h st ins := by
  constructor
  · intro hg
    obtain ⟨ins', len', h1, h2, hh⟩ := xGo_out hg
    rw [hd] at h1
    cases h1
    exact hh
  · exact fun hh => xGo_in ⟨ins, len, hd, hl, hh⟩
