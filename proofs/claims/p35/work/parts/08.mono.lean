/-! ===== the numbered machine's runs: the least relation that its steps close; heaps only grow ===== -/
def xle (h h' : xH) : Prop := h.length ≤ h'.length ∧ xsl h ≤ xsl h'
theorem xle.rf {h : xH} : xle h h := ⟨Nat.le_refl _, Nat.le_refl _⟩
theorem xle.tr {h h1 h2 : xH} (a : xle h h1) (b : xle h1 h2) : xle h h2 := ⟨Nat.le_trans a.1 b.1, Nat.le_trans a.2 b.2⟩
theorem xle.set {h : xH} {a : Nat} {e e0 : xC} (h0 : h[a]? = some e0) (hz : xsz e = xsz e0) : xle h (h.set a e) := ⟨by rw [List.length_set]; exact Nat.le_refl _, by rw [xsl_set h0 hz]; exact Nat.le_refl _⟩
theorem xle.push {h : xH} {e : xC} : xle h (h ++ [e]) := ⟨by rw [List.length_append]; omega, by rw [xsl_push]; omega⟩
section XN
variable {K K' : Nat → xL → List Value → xH → Prop} {C C' : Nat → List Value → xH → (Option Value → xH → Prop) → Prop} {Rt Rt' : Option Value → xH → Prop} {o : Nat} {rt : Option FieldType} {ini : Bool} {pc : Nat} {ls : xL} {h : xH} {st : List Value}
theorem xtab_mono {J J' : Int → Prop} (hJ : ∀ off, J off → J' off) (x : Int) : ∀ (r : List Int) (lo : Int), xtab J x lo r → xtab J' x lo r
  | [], _, _ => trivial
  | _ :: r, lo, hx => ⟨fun q => hJ _ (hx.1 q), xtab_mono hJ x r (lo + 1) hx.2⟩
theorem xlok_mono {J J' : Int → Prop} (hJ : ∀ off, J off → J' off) (x dflt : Int) : ∀ (r : List (Int × Int)), xlok J x dflt r → xlok J' x dflt r
  | [], hx => hJ _ hx
  | _ :: r, hx => ⟨fun q => hJ _ (hx.1 q), fun q => xlok_mono hJ x dflt r (hx.2 q)⟩
theorem xcal_mono {kd j np : Nat} (hK : ∀ pc ls st h', xle h h' → K pc ls st h' → K' pc ls st h') (hC : ∀ j as (k k' : Option Value → xH → Prop), (∀ v h1, xle h h1 → k v h1 → k' v h1) → C j as h k → C' j as h k') : i_cal K C pc ls h kd j np st → i_cal K' C' pc ls h kd j np st := by
  unfold i_cal
  split
  · split
    · refine And.imp_right (And.imp_right (And.imp_right ?_))
      exact hC _ _ _ _ (fun v h1 q => hK _ _ _ _ q)
    · exact id
  · split
    · refine And.imp_right (And.imp_right ?_)
      exact hC _ _ _ _ (fun v h1 q => hK _ _ _ _ q)
    · exact id
  · refine And.imp_right (And.imp_right ?_)
    exact hC _ _ _ _ (fun v h1 q => hK _ _ _ _ q)
  · split
    · refine And.imp_right (And.imp_right ?_)
      exact hC _ _ _ _ (fun v h1 q => hK _ _ _ _ q)
    · exact id
  · split
    · exact And.imp_right (hK _ _ _ _ xle.rf)
    · exact id
  · split
    · refine And.imp_right (And.imp_right (And.imp_right (And.imp_right (And.imp_right (And.imp_right ?_)))))
      split
      · rename_i q1 q2
        refine And.imp_right (And.imp_right (hK _ _ _ _ (xle.set q2 rfl)))
      · rename_i q1 q2
        refine And.imp_right (And.imp_right (And.imp_right (hK _ _ _ _ (xle.set q2 rfl))))
      · exact id
    · exact id
  · split
    · exact And.imp_right (hK _ _ _ _ xle.rf)
    · exact id
  · split
    · exact And.imp_right (hK _ _ _ _ xle.rf)
    · exact id
  · exact id
theorem exI_mono (hK : ∀ pc ls st h', xle h h' → K pc ls st h' → K' pc ls st h') (hC : ∀ j as (k k' : Option Value → xH → Prop), (∀ v h1, xle h h1 → k v h1 → k' v h1) → C j as h k → C' j as h k') (hR : ∀ v, Rt v h → Rt' v h) (ins : Instr) : exI K C Rt o rt ini pc ls h st ins → exI K' C' Rt' o rt ini pc ls h st ins := by
  have k0 : ∀ {pc ls st}, K pc ls st h → K' pc ls st h := fun q => hK _ _ _ _ xle.rf q
  cases ins <;> simp only [exI]
  case aload => unfold i_aload; repeat' first | exact id | exact k0 | split
  case aload_n => unfold i_aload; repeat' first | exact id | exact k0 | split
  case iload => unfold i_iload; repeat' first | exact id | exact k0 | split
  case iload_n => unfold i_iload; repeat' first | exact id | exact k0 | split
  case lload => unfold i_lload; repeat' first | exact id | exact k0 | split
  case lload_n => unfold i_lload; repeat' first | exact id | exact k0 | split
  case astore => unfold i_astore; repeat' first | exact id | exact k0 | exact And.imp_right k0 | split
  case astore_n => unfold i_astore; repeat' first | exact id | exact k0 | exact And.imp_right k0 | split
  case istore => unfold i_istore; repeat' first | exact id | exact k0 | exact And.imp_right k0 | split
  case istore_n => unfold i_istore; repeat' first | exact id | exact k0 | exact And.imp_right k0 | split
  case lstore => unfold i_lstore; repeat' first | exact id | exact k0 | exact And.imp_right k0 | split
  case lstore_n => unfold i_lstore; repeat' first | exact id | exact k0 | exact And.imp_right k0 | split
  case iinc => unfold i_iinc; repeat' first | exact id | exact k0 | exact And.imp_right k0 | split
  case dup => unfold i_dup; repeat' first | exact id | exact k0 | exact And.imp_right k0 | split
  case pop => unfold i_pop; repeat' first | exact id | exact k0 | exact And.imp_right k0 | split
  case dup_x1 => unfold i_dup_x1; repeat' first | exact id | exact k0 | exact And.imp_right (And.imp_right k0) | split
  case dup2 => unfold i_dup2; repeat' first | exact id | exact k0 | exact And.imp_right (And.imp_right k0) | split
  case i2l => unfold i_i2l; repeat' first | exact id | exact k0 | split
  case l2i => unfold i_l2i; repeat' first | exact id | exact k0 | split
  case lcmp => unfold i_lcmp; repeat' first | exact id | exact k0 | split
  case ifCond => unfold i_if1; repeat' first | exact id | exact And.imp_right (And.imp (fun f c => k0 (f c)) (fun f c => k0 (f c))) | split
  case if_icmp => unfold i_if2; repeat' first | exact id | exact And.imp_right (And.imp (fun f c => k0 (f c)) (fun f c => k0 (f c))) | split
  case if_acmp => unfold i_acmp; repeat' first | exact id | exact And.imp_right (And.imp_right (And.imp_right (And.imp (fun f c => k0 (f c)) (fun f c => k0 (f c))))) | split
  case ifnull => unfold i_ifnull; repeat' first | exact id | exact k0 | exact And.imp_right k0 | split
  case ifnonnull => unfold i_ifnonnull; repeat' first | exact id | exact k0 | exact And.imp_right k0 | split
  case goto => exact And.imp_right k0
  case tableswitch =>
    unfold i_tab
    split
    · exact And.imp_right (And.imp (fun f c => And.imp_right k0 (f c)) (xtab_mono (fun off => And.imp_right k0) _ _ _))
    · exact id
  case lookupswitch =>
    unfold i_lok
    split
    · exact And.imp_right (xlok_mono (fun off => And.imp_right k0) _ _ _)
    · exact id
  case getfield => unfold i_get; repeat' first | exact id | exact k0 | split | refine And.imp_right ?_
  case putfield =>
    unfold i_put
    split
    case h_2 => exact id
    split
    case h_2 => exact id
    split
    case h_2 => exact id
    rename_i q
    refine And.imp_right (And.imp_right (And.imp_right (And.imp_right (And.imp_right ?_))))
    exact hK _ _ _ _ (xle.set q (by simp [xsz]))
  case iaload => unfold i_iald; repeat' first | exact id | exact k0 | split | refine And.imp_right ?_
  case baload => unfold i_zald; repeat' first | exact id | exact k0 | split | refine And.imp_right ?_
  case laload => unfold i_lald; repeat' first | exact id | exact k0 | split | refine And.imp_right ?_
  case aaload => unfold i_aald; repeat' first | exact id | exact k0 | split | refine And.imp_right ?_
  case arraylength => unfold i_alen; repeat' first | exact id | exact k0 | split | refine And.imp_right ?_
  case iastore =>
    unfold i_iast
    split
    case h_2 => exact id
    split
    case h_2 => exact id
    rename_i q
    exact And.imp_right (And.imp_right (hK _ _ _ _ (xle.set q rfl)))
  case lastore =>
    unfold i_last
    split
    case h_2 => exact id
    split
    case h_2 => exact id
    rename_i q
    exact And.imp_right (And.imp_right (hK _ _ _ _ (xle.set q rfl)))
  case bastore =>
    unfold i_zast
    split
    case h_2 => exact id
    split
    case h_2 => exact id
    rename_i q
    exact And.imp_right (And.imp_right (hK _ _ _ _ (xle.set q rfl)))
  case aastore =>
    unfold i_aast
    split
    case h_2 => exact id
    split
    case h_2 => exact id
    rename_i q
    refine And.imp_right (And.imp_right ?_)
    split
    · exact And.imp_right (hK _ _ _ _ (xle.set q rfl))
    · exact And.imp_right (And.imp_right (hK _ _ _ _ (xle.set q rfl)))
    · exact id
  case newarray =>
    unfold i_newa
    split
    case h_2 => exact id
    refine And.imp_right (And.imp_right ?_)
    split
    · exact hK _ _ _ _ xle.push
    · exact hK _ _ _ _ xle.push
    · exact hK _ _ _ _ xle.push
    · exact id
  case anewarray =>
    unfold i_newq
    split
    case h_2 => exact id
    exact And.imp_right (And.imp_right (Or.imp (And.imp_right (And.imp_right (hK _ _ _ _ xle.push))) (And.imp_right (And.imp_right (hK _ _ _ _ xle.push)))))
  case new =>
    unfold i_new
    split
    case h_2 => exact id
    split
    case h_2 => exact id
    exact hK _ _ _ _ xle.push
  case checkcast => unfold i_cast; repeat' first | exact id | exact k0 | split | refine And.imp_right ?_
  case getstatic => unfold i_gets; exact And.imp_right (And.imp_right k0)
  case invokevirtual =>
    split
    · exact xcal_mono hK hC
    · exact id
  case invokespecial =>
    split
    · exact xcal_mono hK hC
    · exact xcal_mono hK hC
    · exact xcal_mono hK hC
    · exact id
  case invokestatic =>
    split
    · exact xcal_mono hK hC
    · exact xcal_mono hK hC
    · exact xcal_mono hK hC
    · exact xcal_mono hK hC
    · exact id
  case ireturn => unfold i_iret; repeat' first | exact id | exact And.imp_right (hR _) | split
  case lreturn => unfold i_lret; repeat' first | exact id | exact And.imp_right (hR _) | split
  case areturn => unfold i_aret; repeat' first | exact id | exact hR _ | split
  case return_ => unfold i_vret; exact And.imp_right (And.imp_right (hR _))
  all_goals first | exact id | exact k0 | (unfold i_int2; split; exact k0; exact id) | (unfold i_int1; split; exact k0; exact id) | (unfold i_lng2; split; exact k0; exact id) | (unfold i_lsh; split; exact k0; exact id) | (unfold i_div2; split; exact And.imp_right k0; exact id) | (unfold i_ldv2; split; exact And.imp_right k0; exact id) | (split; exact k0; exact id)
end XN
