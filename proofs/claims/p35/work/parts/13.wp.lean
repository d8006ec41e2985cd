/-! ===== what a run leads to, by what must hold behind it ===== -/
section XD
variable {ι : Type} {K : ι → Nat → xL → List Value → xH → Prop} {C : ι → Nat → List Value → xH → (Option Value → xH → Prop) → Prop} {C' : Nat → List Value → xH → (Option Value → xH → Prop) → Prop} {Rt : ι → Option Value → xH → Prop} {o : Nat} {rt : Option FieldType} {ini : Bool} {pc : Nat} {ls : xL} {h : xH} {st : List Value}
theorem xtab_dist {J : ι → Int → Prop} (hi : Nonempty ι) {x : Int} : ∀ {r : List Int} {lo : Int}, xtab (fun off => ∃ y, J y off) x lo r → ∃ y, xtab (J y) x lo r
  | [], _, _ => hi.elim fun y => ⟨y, trivial⟩
  | a :: r, lo, hx => by
    by_cases q : x = lo
    · obtain ⟨y, hy⟩ := hx.1 q
      refine ⟨y, fun _ => hy, ?_⟩
      subst q
      have : ∀ (r : List Int) (z : Int), x < z → xtab (J y) x z r := by
        intro r
        induction r with
        | nil => exact fun _ _ => trivial
        | cons b r ih => exact fun z hz => ⟨fun e => by omega, ih _ (by omega)⟩
      exact this r _ (by omega)
    · obtain ⟨y, hy⟩ := xtab_dist hi hx.2
      exact ⟨y, fun e => absurd e q, hy⟩
theorem xlok_dist {J : ι → Int → Prop} {x dflt : Int} : ∀ {r : List (Int × Int)}, xlok (fun off => ∃ y, J y off) x dflt r → ∃ y, xlok (J y) x dflt r
  | [], hx => hx
  | (a, b) :: r, hx => by
    by_cases q : x = a
    · obtain ⟨y, hy⟩ := hx.1 q
      exact ⟨y, fun _ => hy, fun e => absurd q e⟩
    · obtain ⟨y, hy⟩ := xlok_dist (hx.2 q)
      exact ⟨y, fun e => absurd e q, fun _ => hy⟩
theorem xif_dist {c : Prop} {P Q : ι → Prop} (h : (c → ∃ y, P y) ∧ (¬ c → ∃ y, Q y)) : ∃ y, (c → P y) ∧ (¬ c → Q y) := by
  by_cases q : c
  · obtain ⟨y, hy⟩ := h.1 q
    exact ⟨y, fun _ => hy, fun e => absurd q e⟩
  · obtain ⟨y, hy⟩ := h.2 q
    exact ⟨y, fun e => absurd e q, fun _ => hy⟩
theorem xcal_dist {kd j np : Nat} (hC : ∀ j as (k : ι → Option Value → xH → Prop), C' j as h (fun v h1 => ∃ y, k y v h1) → ∃ y, C y j as h (k y)) (hh : i_cal (fun a b c d => ∃ y, K y a b c d) C' pc ls h kd j np st) : ∃ y, i_cal (K y) (C y) pc ls h kd j np st := by
  unfold i_cal at hh ⊢
  split at hh
  · split at hh
    · obtain ⟨a1, a2, a3, a4⟩ := hh
      obtain ⟨y, hy⟩ := hC _ _ (fun y v h1 => K y (pc + 3) ls (v.toList ++ _) h1) a4
      rename_i q
      refine ⟨y, ?_⟩
      (try rw [q])
      exact ⟨a1, a2, a3, hy⟩
    · exact hh.elim
  · split at hh
    · obtain ⟨a2, a3, a4⟩ := hh
      obtain ⟨y, hy⟩ := hC _ _ (fun y v h1 => K y (pc + 3) ls (v.toList ++ _) h1) a4
      rename_i q
      refine ⟨y, ?_⟩
      (try rw [q])
      exact ⟨a2, a3, hy⟩
    · exact hh.elim
  · obtain ⟨a2, a3, a4⟩ := hh
    obtain ⟨y, hy⟩ := hC _ _ (fun y v h1 => K y (pc + 3) ls (v.toList ++ _) h1) a4
    exact ⟨y, a2, a3, hy⟩
  · split at hh
    · obtain ⟨a2, a3, a4⟩ := hh
      obtain ⟨y, hy⟩ := hC _ _ (fun y v h1 => K y (pc + 3) ls (v.toList ++ _) h1) a4
      rename_i q
      refine ⟨y, ?_⟩
      (try rw [q])
      exact ⟨a2, a3, hy⟩
    · exact hh.elim
  · split at hh
    · obtain ⟨a1, y, hy⟩ := hh
      exact ⟨y, a1, hy⟩
    · exact hh.elim
  · split at hh
    · obtain ⟨a1, a2, a3, a4, a5, a6, hh⟩ := hh
      split at hh
      · rename_i q1 q2
        obtain ⟨b1, b2, y, hy⟩ := hh
        refine ⟨y, a1, a2, a3, a4, a5, a6, ?_⟩
        (try rw [q1, q2])
        exact ⟨b1, b2, hy⟩
      · rename_i q1 q2
        obtain ⟨b1, b2, b3, y, hy⟩ := hh
        refine ⟨y, a1, a2, a3, a4, a5, a6, ?_⟩
        (try rw [q1, q2])
        exact ⟨b1, b2, b3, hy⟩
      · exact hh.elim
    · exact hh.elim
  · split at hh
    · obtain ⟨a1, y, hy⟩ := hh
      exact ⟨y, a1, hy⟩
    · exact hh.elim
  · split at hh
    · obtain ⟨a1, y, hy⟩ := hh
      exact ⟨y, a1, hy⟩
    · exact hh.elim
  · exact hh.elim
theorem exI_dist (hi : Nonempty ι) (hC : ∀ j as (k : ι → Option Value → xH → Prop), C' j as h (fun v h1 => ∃ y, k y v h1) → ∃ y, C y j as h (k y)) (ins : Instr) (hh : exI (fun a b c d => ∃ y, K y a b c d) C' (fun v h1 => ∃ y, Rt y v h1) o rt ini pc ls h st ins) : ∃ y, exI (K y) (C y) (Rt y) o rt ini pc ls h st ins := by
  cases ins <;> simp only [exI] at hh ⊢
  case aload => unfold i_aload at hh ⊢; split at hh <;> first | exact hh.elim | (rename_i q; (try rw [q]); exact hh)
  case aload_n => unfold i_aload at hh ⊢; split at hh <;> first | exact hh.elim | (rename_i q; (try rw [q]); exact hh)
  case iload => unfold i_iload at hh ⊢; split at hh <;> first | exact hh.elim | (rename_i q; (try rw [q]); exact hh)
  case iload_n => unfold i_iload at hh ⊢; split at hh <;> first | exact hh.elim | (rename_i q; (try rw [q]); exact hh)
  case lload => unfold i_lload at hh ⊢; split at hh <;> first | exact hh.elim | (rename_i q; (try rw [q]); exact hh)
  case lload_n => unfold i_lload at hh ⊢; split at hh <;> first | exact hh.elim | (rename_i q; (try rw [q]); exact hh)
  case astore => unfold i_astore at hh ⊢; split at hh <;> first | exact hh.elim | (obtain ⟨a, y, hy⟩ := hh; exact ⟨y, a, hy⟩)
  case astore_n => unfold i_astore at hh ⊢; split at hh <;> first | exact hh.elim | (obtain ⟨a, y, hy⟩ := hh; exact ⟨y, a, hy⟩)
  case istore => unfold i_istore at hh ⊢; split at hh <;> first | exact hh.elim | (obtain ⟨a, y, hy⟩ := hh; exact ⟨y, a, hy⟩)
  case istore_n => unfold i_istore at hh ⊢; split at hh <;> first | exact hh.elim | (obtain ⟨a, y, hy⟩ := hh; exact ⟨y, a, hy⟩)
  case lstore => unfold i_lstore at hh ⊢; split at hh <;> first | exact hh.elim | (obtain ⟨a, y, hy⟩ := hh; exact ⟨y, a, hy⟩)
  case lstore_n => unfold i_lstore at hh ⊢; split at hh <;> first | exact hh.elim | (obtain ⟨a, y, hy⟩ := hh; exact ⟨y, a, hy⟩)
  case iinc => unfold i_iinc at hh ⊢; split at hh <;> first | exact hh.elim | (rename_i q; (try rw [q]); obtain ⟨a, y, hy⟩ := hh; exact ⟨y, a, hy⟩)
  case dup => unfold i_dup at hh ⊢; split at hh <;> first | exact hh.elim | (obtain ⟨a, y, hy⟩ := hh; exact ⟨y, a, hy⟩)
  case pop => unfold i_pop at hh ⊢; split at hh <;> first | exact hh.elim | (obtain ⟨a, y, hy⟩ := hh; exact ⟨y, a, hy⟩)
  case dup_x1 => unfold i_dup_x1 at hh ⊢; split at hh <;> first | exact hh.elim | (obtain ⟨a, b, y, hy⟩ := hh; exact ⟨y, a, b, hy⟩)
  case dup2 => unfold i_dup2 at hh ⊢; split at hh <;> first | exact hh.elim | (obtain ⟨a, b, y, hy⟩ := hh; exact ⟨y, a, b, hy⟩)
  case i2l => unfold i_i2l at hh ⊢; split at hh <;> first | exact hh.elim | exact hh
  case l2i => unfold i_l2i at hh ⊢; split at hh <;> first | exact hh.elim | exact hh
  case lcmp => unfold i_lcmp at hh ⊢; split at hh <;> first | exact hh.elim | exact hh
  case ifCond => unfold i_if1 at hh ⊢; split at hh <;> first | exact hh.elim | (obtain ⟨y, hy⟩ := xif_dist hh.2; exact ⟨y, hh.1, hy⟩)
  case if_icmp => unfold i_if2 at hh ⊢; split at hh <;> first | exact hh.elim | (obtain ⟨y, hy⟩ := xif_dist hh.2; exact ⟨y, hh.1, hy⟩)
  case if_acmp => unfold i_acmp at hh ⊢; split at hh <;> first | exact hh.elim | (obtain ⟨y, hy⟩ := xif_dist hh.2.2.2; exact ⟨y, hh.1, hh.2.1, hh.2.2.1, hy⟩)
  case ifnull => unfold i_ifnull at hh ⊢; split at hh <;> first | exact hh.elim | (obtain ⟨a, y, hy⟩ := hh; exact ⟨y, a, hy⟩) | exact hh
  case ifnonnull => unfold i_ifnonnull at hh ⊢; split at hh <;> first | exact hh.elim | (obtain ⟨a, y, hy⟩ := hh; exact ⟨y, a, hy⟩) | exact hh
  case goto => obtain ⟨a, y, hy⟩ := hh; exact ⟨y, a, hy⟩
  case tableswitch =>
    unfold i_tab at hh ⊢
    split at hh
    · rename_i x st
      rename_i dflt lo hi' offs _
      obtain ⟨h1, h2, h3⟩ := hh
      have h3' : xtab (fun off => ∃ y, xtgt pc off (fun t => K y t ls st h)) x.toInt lo offs.toList := xtab_mono (fun off q => by obtain ⟨a, y, hy⟩ := q; exact ⟨y, a, hy⟩) _ _ _ h3
      by_cases q : x.toInt < lo ∨ hi' < x.toInt
      · obtain ⟨a, y, hy⟩ := h2 q
        refine ⟨y, h1, fun _ => ⟨a, hy⟩, ?_⟩
        have hlen : (offs.toList.length : Int) = offs.size := by simp
        have key : ∀ (r : List Int) (z : Int), (x.toInt < z ∨ z + r.length ≤ x.toInt) → xtab (fun off => xtgt pc off (fun t => K y t ls st h)) x.toInt z r := by
          intro r
          induction r with
          | nil => exact fun _ _ => trivial
          | cons b r ih => exact fun z hz => ⟨fun e => by simp only [List.length_cons] at hz; omega, ih _ (by simp only [List.length_cons] at hz; omega)⟩
        exact key _ _ (by omega)
      · obtain ⟨y, hy⟩ := xtab_dist hi h3'
        exact ⟨y, h1, fun e => absurd e q, hy⟩
    · exact hh.elim
  case lookupswitch =>
    unfold i_lok at hh ⊢
    split at hh
    · rename_i x st
      obtain ⟨y, hy⟩ := xlok_dist (xlok_mono (J' := fun off => ∃ y, xtgt pc off (fun t => K y t ls st h)) (fun off q => by obtain ⟨a, y, hy⟩ := q; exact ⟨y, a, hy⟩) _ _ _ hh.2)
      exact ⟨y, hh.1, hy⟩
    · exact hh.elim
  case getfield =>
    unfold i_get at hh ⊢
    split at hh
    case h_2 => exact hh.elim
    split at hh
    case h_2 => exact hh.elim
    rename_i q1
    split at hh
    case h_2 => exact hh.elim
    rename_i q2
    obtain ⟨a, hh⟩ := hh
    split at hh
    case h_2 => exact hh.elim
    rename_i q3
    obtain ⟨y, hy⟩ := hh
    refine ⟨y, ?_⟩
    (try dsimp only)
    (try rw [q1])
    (try dsimp only)
    (try rw [q2])
    (try dsimp only)
    (try rw [q3])
    exact ⟨a, hy⟩
  case putfield =>
    unfold i_put at hh ⊢
    split at hh
    case h_2 => exact hh.elim
    split at hh
    case h_2 => exact hh.elim
    rename_i q1
    split at hh
    case h_2 => exact hh.elim
    rename_i q2
    obtain ⟨a1, a2, a3, a4, a5, y, hy⟩ := hh
    refine ⟨y, ?_⟩
    (try dsimp only)
    (try rw [q1])
    (try dsimp only)
    (try rw [q2])
    exact ⟨a1, a2, a3, a4, a5, hy⟩
  case iaload => unfold i_iald at hh ⊢; split at hh <;> first | exact hh.elim | (split at hh <;> first | exact hh.elim | (rename_i q; obtain ⟨a, y, hy⟩ := hh; refine ⟨y, ?_⟩; (try dsimp only); (try rw [q]); exact ⟨a, hy⟩))
  case baload => unfold i_zald at hh ⊢; split at hh <;> first | exact hh.elim | (split at hh <;> first | exact hh.elim | (rename_i q; obtain ⟨a, b, y, hy⟩ := hh; refine ⟨y, ?_⟩; (try dsimp only); (try rw [q]); exact ⟨a, b, hy⟩))
  case laload => unfold i_lald at hh ⊢; split at hh <;> first | exact hh.elim | (split at hh <;> first | exact hh.elim | (rename_i q; obtain ⟨a, b, y, hy⟩ := hh; refine ⟨y, ?_⟩; (try dsimp only); (try rw [q]); exact ⟨a, b, hy⟩))
  case lastore => unfold i_last at hh ⊢; split at hh <;> first | exact hh.elim | (split at hh <;> first | exact hh.elim | (rename_i q; obtain ⟨a, b, y, hy⟩ := hh; refine ⟨y, ?_⟩; (try dsimp only); (try rw [q]); exact ⟨a, b, hy⟩))
  case aaload => unfold i_aald at hh ⊢; split at hh <;> first | exact hh.elim | (split at hh <;> first | exact hh.elim | (rename_i q; obtain ⟨a, b, c, y, hy⟩ := hh; refine ⟨y, ?_⟩; (try dsimp only); (try rw [q]); exact ⟨a, b, c, hy⟩))
  case arraylength => unfold i_alen at hh ⊢; split at hh <;> first | exact hh.elim | (split at hh <;> first | exact hh.elim | (rename_i q; obtain ⟨a, y, hy⟩ := hh; refine ⟨y, ?_⟩; (try dsimp only); (try rw [q]); exact ⟨a, hy⟩))
  case iastore => unfold i_iast at hh ⊢; split at hh <;> first | exact hh.elim | (split at hh <;> first | exact hh.elim | (rename_i q; obtain ⟨a, b, y, hy⟩ := hh; refine ⟨y, ?_⟩; (try dsimp only); (try rw [q]); exact ⟨a, b, hy⟩))
  case bastore => unfold i_zast at hh ⊢; split at hh <;> first | exact hh.elim | (split at hh <;> first | exact hh.elim | (rename_i q; obtain ⟨a, b, y, hy⟩ := hh; refine ⟨y, ?_⟩; (try dsimp only); (try rw [q]); exact ⟨a, b, hy⟩))
  case aastore =>
    unfold i_aast at hh ⊢
    split at hh
    case h_2 => exact hh.elim
    split at hh
    case h_2 => exact hh.elim
    rename_i q
    obtain ⟨a1, a2, hh⟩ := hh
    split at hh
    · obtain ⟨b, y, hy⟩ := hh
      refine ⟨y, ?_⟩
      (try dsimp only)
      (try rw [q])
      exact ⟨a1, a2, b, hy⟩
    · obtain ⟨b, c, y, hy⟩ := hh
      refine ⟨y, ?_⟩
      (try dsimp only)
      (try rw [q])
      exact ⟨a1, a2, b, c, hy⟩
    · exact hh.elim
  case newarray =>
    unfold i_newa at hh ⊢
    split at hh
    case h_2 => exact hh.elim
    obtain ⟨a1, a2, hh⟩ := hh
    split at hh
    · obtain ⟨y, hy⟩ := hh
      exact ⟨y, a1, a2, hy⟩
    · obtain ⟨y, hy⟩ := hh
      exact ⟨y, a1, a2, hy⟩
    · obtain ⟨y, hy⟩ := hh
      exact ⟨y, a1, a2, hy⟩
    · exact hh.elim
  case anewarray =>
    unfold i_newq at hh ⊢
    split at hh
    case h_2 => exact hh.elim
    obtain ⟨a1, a2, hh⟩ := hh
    rcases hh with ⟨b, c, y, hy⟩ | ⟨b, c, y, hy⟩
    · exact ⟨y, a1, a2, Or.inl ⟨b, c, hy⟩⟩
    · exact ⟨y, a1, a2, Or.inr ⟨b, c, hy⟩⟩
  case new =>
    unfold i_new at hh ⊢
    split at hh
    case h_2 => exact hh.elim
    rename_i q1
    split at hh
    case h_2 => exact hh.elim
    rename_i q2
    obtain ⟨y, hy⟩ := hh
    refine ⟨y, ?_⟩
    (try rw [q1])
    (try dsimp only)
    (try rw [q2])
    exact hy
  case checkcast =>
    unfold i_cast at hh ⊢
    split at hh
    · split at hh
      · rename_i q
        obtain ⟨a, b, c, y, hy⟩ := hh
        refine ⟨y, ?_⟩
        (try dsimp only)
        (try rw [q])
        exact ⟨a, b, c, hy⟩
      · exact hh.elim
    · exact hh
    · exact hh.elim
  case getstatic => obtain ⟨a, b, y, hy⟩ := hh; exact ⟨y, a, b, hy⟩
  case invokevirtual => split at hh <;> first | exact hh.elim | (rename_i q; (try rw [q]); exact xcal_dist hC hh)
  case invokespecial => split at hh <;> first | exact hh.elim | (rename_i q; (try rw [q]); exact xcal_dist hC hh)
  case invokestatic => split at hh <;> first | exact hh.elim | (rename_i q; (try rw [q]); exact xcal_dist hC hh)
  case ireturn => unfold i_iret at hh ⊢; split at hh <;> first | exact hh.elim | (obtain ⟨a, y, hy⟩ := hh; exact ⟨y, a, hy⟩)
  case lreturn => unfold i_lret at hh ⊢; split at hh <;> first | exact hh.elim | (obtain ⟨a, y, hy⟩ := hh; exact ⟨y, a, hy⟩)
  case areturn => unfold i_aret at hh ⊢; (repeat' split at hh) <;> first | exact hh.elim | exact hh
  case return_ => obtain ⟨a, b, y, hy⟩ := hh; exact ⟨y, a, b, hy⟩
  all_goals first | exact hh.elim | exact hh | (unfold i_int2 at hh ⊢; split at hh <;> first | exact hh | exact hh.elim) | (unfold i_int1 at hh ⊢; split at hh <;> first | exact hh | exact hh.elim) | (unfold i_lng2 at hh ⊢; split at hh <;> first | exact hh | exact hh.elim) | (unfold i_lsh at hh ⊢; split at hh <;> first | exact hh | exact hh.elim) | (unfold i_div2 at hh ⊢; split at hh <;> first | (obtain ⟨a, y, hy⟩ := hh; exact ⟨y, a, hy⟩) | exact hh.elim) | (unfold i_ldv2 at hh ⊢; split at hh <;> first | (obtain ⟨a, y, hy⟩ := hh; exact ⟨y, a, hy⟩) | exact hh.elim) | (split at hh <;> first | exact hh.elim | (rename_i q; (try rw [q]); exact hh))
end XD
/-- a run from here leads to what K asks -/
def wp (d i pc : Nat) (ls : xL) (st : List Value) (h : xH) (K : Option Value → xH → Prop) : Prop := ∃ R : xR, xGo d i pc ls st h R ∧ K R.1 R.2
def wpC (d j : Nat) (as : List Value) (h : xH) (k : Option Value → xH → Prop) : Prop := ∃ d', d = d' + 1 ∧ j < xLaw ∧ (xent as (xML j)).length = xML j ∧ wp d' j 0 (xent as (xML j)) [] h k
theorem wp_iff {d i pc : Nat} {ls : xL} {st : List Value} {h : xH} {K : Option Value → xH → Prop} {ins : Instr} {len : Nat} (hd : decode (xMB i) pc = .ok (ins, len)) (hl : xlen ins len = true) : wp d i pc ls st h K ↔ exI (fun pc ls st h => wp d i pc ls st h K) (wpC d) K (xMO i) (xMR i) (decide ((xMY i).name = "<init>")) pc ls h st ins := by
  constructor
  · rintro ⟨R, hg, hK⟩
    refine exI_mono ?_ ?_ ?_ ins ((xGo_iff hd hl).mp hg)
    · exact fun _ _ _ _ _ q => ⟨R, q, hK⟩
    · rintro j as k k' hk ⟨d', a1, a2, a3, r, h1, q1, q2, q3⟩
      exact ⟨d', a1, a2, a3, (r, h1), q1, hk r h1 q2 q3⟩
    · rintro v q
      subst q
      exact hK
  · intro hh
    have hA : exI (fun a b c d' => ∃ R : xR, xGo d i a b c d' R ∧ K R.1 R.2) (fun j as h k => wpC d j as h k) (fun v h1 => ∃ R : xR, R = (v, h1) ∧ K R.1 R.2) (xMO i) (xMR i) (decide ((xMY i).name = "<init>")) pc ls h st ins :=
      exI_mono (fun _ _ _ _ _ q => q) (fun j as k k' hk q => by
        obtain ⟨d', a1, a2, a3, ⟨r, h1⟩, q1, q2⟩ := q
        exact ⟨d', a1, a2, a3, (r, h1), q1, hk r h1 (xGo_le q1) q2⟩) (fun v q => ⟨(v, h), rfl, q⟩) ins hh
    obtain ⟨R, hR⟩ := exI_dist (ι := xR) (K := fun R pc ls st h => xGo d i pc ls st h R ∧ K R.1 R.2) (C := fun R j as h k => xCl xGo d j as h k ∧ ∃ r h1, k r h1) (Rt := fun R v h1 => R = (v, h1) ∧ K R.1 R.2) ⟨(none, [])⟩ (fun j as k q => by
      obtain ⟨d', a1, a2, a3, ⟨r, h1⟩, q1, y, q2⟩ := q
      exact ⟨y, ⟨d', a1, a2, a3, r, h1, q1, xGo_le q1, q2⟩, r, h1, q2⟩) ins hA
    refine ⟨R, (xGo_iff hd hl).mpr (exI_mono ?_ ?_ ?_ ins hR), ?_⟩
    · exact fun _ _ _ _ _ q => q.1
    · rintro j as k k' hk ⟨⟨d', a1, a2, a3, r, h1, q1, q2, q3⟩, -⟩
      exact ⟨d', a1, a2, a3, r, h1, q1, q2, hk r h1 q2 q3⟩
    · exact fun v q => q.1
    · refine exI_const ins (exI_mono (K' := fun _ _ _ _ => K R.1 R.2) (C' := fun _ _ _ k => ∃ v h1, k v h1) (Rt' := fun _ _ => K R.1 R.2) ?_ ?_ ?_ ins hR)
      · exact fun _ _ _ _ _ q => q.2
      · rintro j as k k' hk ⟨⟨d', a1, a2, a3, r, h1, q1, q2, q3⟩, -⟩
        exact ⟨r, h1, hk r h1 q2 q3⟩
      · exact fun v q => q.2
theorem wp_mono {d i pc : Nat} {ls : xL} {st : List Value} {h : xH} {K K' : Option Value → xH → Prop} (hw : wp d i pc ls st h K) (hk : ∀ r h1, xle h h1 → K r h1 → K' r h1) : wp d i pc ls st h K' := by
  obtain ⟨R, a, b⟩ := hw
  exact ⟨R, a, hk _ _ (xGo_le a) b⟩
