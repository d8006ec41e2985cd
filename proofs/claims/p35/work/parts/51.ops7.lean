/-! ===== the program's calls: law, prop, closed, first ===== -/
def outD (E : Gd) (fr : Nat → Bool) (v : Nat) : Option Nat := dayM fr (vo (runM E 80 v))
theorem dayOf_lt {fr : Nat → Bool} {m d : Nat} : ∀ {k : Nat}, dayOf fr m k = some d → d < k
  | 0, h => by cases h
  | k + 1, h => by
    unfold dayOf at h
    split at h
    · rename_i d' q
      cases h
      have := dayOf_lt q; omega
    · split at h
      · cases h
      · split at h
        · cases h; omega
        · cases h
theorem dayM_lt {fr : Nat → Bool} {o : Option Nat} {d : Nat} (h : dayM fr o = some d) : d < 80 := by
  cases o with
  | none => cases h
  | some m => exact dayOf_lt h
theorem outD_lt {E : Gd} {fr : Nat → Bool} {v : Nat} : ∀ x, outD E fr v = some x → x < 1000 := fun x h => by have := dayM_lt h; omega
theorem growN_vo {E : Gd} {t v m : Nat} {G : Nat → Vs} : ∀ {k : Nat}, vo (growN E t G k v) = some m → vo (G v) = some m ∨ m = t
  | 0, h => Or.inl h
  | k + 1, h => by
    replace h : vo (growV E t (growN E t G k) k v) = some m := h
    unfold growV at h
    split at h
    · exact growN_vo h
    · by_cases z : v = k
      · subst z
        rw [upG_at] at h
        unfold stepV at h
        split at h
        · split at h
          · replace h : (if gs E _ = 3 then some t else none) = some m := h
            split at h
            · cases h; exact Or.inr rfl
            · cases h
          · exact growN_vo h
        · split at h
          · cases h
          · split at h
            · cases h
            · exact growN_vo h
      · rw [upG_ne _ _ z] at h
        exact growN_vo h
theorem runM_vo {E : Gd} {v m : Nat} : ∀ {k : Nat}, vo (runM E k v) = some m → m < k
  | 0, h => by cases h
  | k + 1, h => by
    rcases growN_vo h with h | h
    · have := runM_vo h; omega
    · omega
section
variable {d : Nat} {K : Option Value → xH → Prop} {e : Nat} {E : Gd} {fr : Nat → Bool} {vs : Nat → Nat}
end
section
variable {d : Nat} {h : xH} {K : Option Value → xH → Prop} {s : St}
end
