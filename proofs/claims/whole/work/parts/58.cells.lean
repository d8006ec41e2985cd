/-! ===== the model's cells are read and written ===== -/
section
variable {d : Nat} {h : xH} {K : Option Value → xH → Prop} {fa tr hi w nv p rH rW nr : Int32} {A : Nat → Nat → Int32}
theorem MH.ld0 (H : MH h fa tr hi w nv p rH rW nr A) {i : Nat} (hi' : i < 4) (J : Int32 → Prop) : y_iald h 26 (Int32.ofNat i) J ↔ J (A 0 i) := by
  simp only [y_iald, H.a0]
  rw [n_in (by omega), n_cl (by omega)]
  exact ⟨fun z => z.2, fun z => ⟨hi', z⟩⟩
theorem MH.st0 (H : MH h fa tr hi w nv p rH rW nr A) {i : Nat} {x : Int32} {J : xH → Prop} (hi' : i < 4) (hJ : ∀ h', MH h' fa tr hi w nv p rH rW nr (upA A 0 (upd (A 0) i x)) → FR MP 0 0 h h' → J h') : y_iast h 26 (Int32.ofNat i) x J := by
  simp only [y_iast, H.a0]
  rw [n_in (by omega), n_cl (by omega)]
  have R := H.wr (j := 0) (by omega) (upd (A 0) i x)
  exact ⟨by omega, hi', hJ _ R.1 R.2⟩
theorem MH.ld1 (H : MH h fa tr hi w nv p rH rW nr A) {i : Nat} (hi' : i < 4) (J : Int32 → Prop) : y_iald h 27 (Int32.ofNat i) J ↔ J (A 1 i) := by
  simp only [y_iald, H.a1]
  rw [n_in (by omega), n_cl (by omega)]
  exact ⟨fun z => z.2, fun z => ⟨hi', z⟩⟩
theorem MH.st1 (H : MH h fa tr hi w nv p rH rW nr A) {i : Nat} {x : Int32} {J : xH → Prop} (hi' : i < 4) (hJ : ∀ h', MH h' fa tr hi w nv p rH rW nr (upA A 1 (upd (A 1) i x)) → FR MP 0 0 h h' → J h') : y_iast h 27 (Int32.ofNat i) x J := by
  simp only [y_iast, H.a1]
  rw [n_in (by omega), n_cl (by omega)]
  have R := H.wr (j := 1) (by omega) (upd (A 1) i x)
  exact ⟨by omega, hi', hJ _ R.1 R.2⟩
theorem MH.ld2 (H : MH h fa tr hi w nv p rH rW nr A) {i : Nat} (hi' : i < 200) (J : Int32 → Prop) : y_iald h 28 (Int32.ofNat i) J ↔ J (A 2 i) := by
  simp only [y_iald, H.a2]
  rw [n_in (by omega), n_cl (by omega)]
  exact ⟨fun z => z.2, fun z => ⟨hi', z⟩⟩
theorem MH.st2 (H : MH h fa tr hi w nv p rH rW nr A) {i : Nat} {x : Int32} {J : xH → Prop} (hi' : i < 200) (hJ : ∀ h', MH h' fa tr hi w nv p rH rW nr (upA A 2 (upd (A 2) i x)) → FR MP 0 0 h h' → J h') : y_iast h 28 (Int32.ofNat i) x J := by
  simp only [y_iast, H.a2]
  rw [n_in (by omega), n_cl (by omega)]
  have R := H.wr (j := 2) (by omega) (upd (A 2) i x)
  exact ⟨by omega, hi', hJ _ R.1 R.2⟩
theorem MH.ld3 (H : MH h fa tr hi w nv p rH rW nr A) {i : Nat} (hi' : i < 30) (J : Int32 → Prop) : y_iald h 29 (Int32.ofNat i) J ↔ J (A 3 i) := by
  simp only [y_iald, H.a3]
  rw [n_in (by omega), n_cl (by omega)]
  exact ⟨fun z => z.2, fun z => ⟨hi', z⟩⟩
theorem MH.st3 (H : MH h fa tr hi w nv p rH rW nr A) {i : Nat} {x : Int32} {J : xH → Prop} (hi' : i < 30) (hJ : ∀ h', MH h' fa tr hi w nv p rH rW nr (upA A 3 (upd (A 3) i x)) → FR MP 0 0 h h' → J h') : y_iast h 29 (Int32.ofNat i) x J := by
  simp only [y_iast, H.a3]
  rw [n_in (by omega), n_cl (by omega)]
  have R := H.wr (j := 3) (by omega) (upd (A 3) i x)
  exact ⟨by omega, hi', hJ _ R.1 R.2⟩
theorem MH.ld4 (H : MH h fa tr hi w nv p rH rW nr A) {i : Nat} (hi' : i < 3) (J : Int32 → Prop) : y_iald h 30 (Int32.ofNat i) J ↔ J (A 4 i) := by
  simp only [y_iald, H.a4]
  rw [n_in (by omega), n_cl (by omega)]
  exact ⟨fun z => z.2, fun z => ⟨hi', z⟩⟩
theorem MH.st4 (H : MH h fa tr hi w nv p rH rW nr A) {i : Nat} {x : Int32} {J : xH → Prop} (hi' : i < 3) (hJ : ∀ h', MH h' fa tr hi w nv p rH rW nr (upA A 4 (upd (A 4) i x)) → FR MP 0 0 h h' → J h') : y_iast h 30 (Int32.ofNat i) x J := by
  simp only [y_iast, H.a4]
  rw [n_in (by omega), n_cl (by omega)]
  have R := H.wr (j := 4) (by omega) (upd (A 4) i x)
  exact ⟨by omega, hi', hJ _ R.1 R.2⟩
theorem MH.ld5 (H : MH h fa tr hi w nv p rH rW nr A) {i : Nat} (hi' : i < 3) (J : Int32 → Prop) : y_iald h 31 (Int32.ofNat i) J ↔ J (A 5 i) := by
  simp only [y_iald, H.a5]
  rw [n_in (by omega), n_cl (by omega)]
  exact ⟨fun z => z.2, fun z => ⟨hi', z⟩⟩
theorem MH.st5 (H : MH h fa tr hi w nv p rH rW nr A) {i : Nat} {x : Int32} {J : xH → Prop} (hi' : i < 3) (hJ : ∀ h', MH h' fa tr hi w nv p rH rW nr (upA A 5 (upd (A 5) i x)) → FR MP 0 0 h h' → J h') : y_iast h 31 (Int32.ofNat i) x J := by
  simp only [y_iast, H.a5]
  rw [n_in (by omega), n_cl (by omega)]
  have R := H.wr (j := 5) (by omega) (upd (A 5) i x)
  exact ⟨by omega, hi', hJ _ R.1 R.2⟩
theorem MH.ld6 (H : MH h fa tr hi w nv p rH rW nr A) {i : Nat} (hi' : i < 3) (J : Int32 → Prop) : y_iald h 32 (Int32.ofNat i) J ↔ J (A 6 i) := by
  simp only [y_iald, H.a6]
  rw [n_in (by omega), n_cl (by omega)]
  exact ⟨fun z => z.2, fun z => ⟨hi', z⟩⟩
theorem MH.st6 (H : MH h fa tr hi w nv p rH rW nr A) {i : Nat} {x : Int32} {J : xH → Prop} (hi' : i < 3) (hJ : ∀ h', MH h' fa tr hi w nv p rH rW nr (upA A 6 (upd (A 6) i x)) → FR MP 0 0 h h' → J h') : y_iast h 32 (Int32.ofNat i) x J := by
  simp only [y_iast, H.a6]
  rw [n_in (by omega), n_cl (by omega)]
  have R := H.wr (j := 6) (by omega) (upd (A 6) i x)
  exact ⟨by omega, hi', hJ _ R.1 R.2⟩
theorem MH.ld7 (H : MH h fa tr hi w nv p rH rW nr A) {i : Nat} (hi' : i < 80) (J : Int32 → Prop) : y_zald h 33 (Int32.ofNat i) J ↔ J (A 7 i) := by
  simp only [y_zald, H.a7]
  rw [n_in (by omega), n_cl (by omega)]
  exact ⟨fun z => z.2.2, fun z => ⟨by omega, hi', z⟩⟩
theorem MH.st7 (H : MH h fa tr hi w nv p rH rW nr A) {i : Nat} {b : Bool} {J : xH → Prop} (hi' : i < 80) (hJ : ∀ h', MH h' fa tr hi w nv p rH rW nr (upA A 7 (upd (A 7) i (bi b))) → FR MP 0 0 h h' → J h') : y_zast h 33 (Int32.ofNat i) (bi b) J := by
  simp only [y_zast, H.a7]
  rw [n_in (by omega), n_cl (by omega), nar_bi]
  have R := H.wr (j := 7) (by omega) (upd (A 7) i (bi b))
  exact ⟨by omega, hi', hJ _ R.1 R.2⟩
theorem MH.ld8 (H : MH h fa tr hi w nv p rH rW nr A) {i : Nat} (hi' : i < 30) (J : Int32 → Prop) : y_iald h 34 (Int32.ofNat i) J ↔ J (A 8 i) := by
  simp only [y_iald, H.a8]
  rw [n_in (by omega), n_cl (by omega)]
  exact ⟨fun z => z.2, fun z => ⟨hi', z⟩⟩
theorem MH.st8 (H : MH h fa tr hi w nv p rH rW nr A) {i : Nat} {x : Int32} {J : xH → Prop} (hi' : i < 30) (hJ : ∀ h', MH h' fa tr hi w nv p rH rW nr (upA A 8 (upd (A 8) i x)) → FR MP 0 0 h h' → J h') : y_iast h 34 (Int32.ofNat i) x J := by
  simp only [y_iast, H.a8]
  rw [n_in (by omega), n_cl (by omega)]
  have R := H.wr (j := 8) (by omega) (upd (A 8) i x)
  exact ⟨by omega, hi', hJ _ R.1 R.2⟩
theorem MH.ld9 (H : MH h fa tr hi w nv p rH rW nr A) {i : Nat} (hi' : i < 3) (J : Int32 → Prop) : y_iald h 35 (Int32.ofNat i) J ↔ J (A 9 i) := by
  simp only [y_iald, H.a9]
  rw [n_in (by omega), n_cl (by omega)]
  exact ⟨fun z => z.2, fun z => ⟨hi', z⟩⟩
theorem MH.st9 (H : MH h fa tr hi w nv p rH rW nr A) {i : Nat} {x : Int32} {J : xH → Prop} (hi' : i < 3) (hJ : ∀ h', MH h' fa tr hi w nv p rH rW nr (upA A 9 (upd (A 9) i x)) → FR MP 0 0 h h' → J h') : y_iast h 35 (Int32.ofNat i) x J := by
  simp only [y_iast, H.a9]
  rw [n_in (by omega), n_cl (by omega)]
  have R := H.wr (j := 9) (by omega) (upd (A 9) i x)
  exact ⟨by omega, hi', hJ _ R.1 R.2⟩
theorem MH.ld10 (H : MH h fa tr hi w nv p rH rW nr A) {i : Nat} (hi' : i < 3) (J : Int32 → Prop) : y_iald h 36 (Int32.ofNat i) J ↔ J (A 10 i) := by
  simp only [y_iald, H.a10]
  rw [n_in (by omega), n_cl (by omega)]
  exact ⟨fun z => z.2, fun z => ⟨hi', z⟩⟩
theorem MH.st10 (H : MH h fa tr hi w nv p rH rW nr A) {i : Nat} {x : Int32} {J : xH → Prop} (hi' : i < 3) (hJ : ∀ h', MH h' fa tr hi w nv p rH rW nr (upA A 10 (upd (A 10) i x)) → FR MP 0 0 h h' → J h') : y_iast h 36 (Int32.ofNat i) x J := by
  simp only [y_iast, H.a10]
  rw [n_in (by omega), n_cl (by omega)]
  have R := H.wr (j := 10) (by omega) (upd (A 10) i x)
  exact ⟨by omega, hi', hJ _ R.1 R.2⟩
theorem MH.ld11 (H : MH h fa tr hi w nv p rH rW nr A) {i : Nat} (hi' : i < 3) (J : Int32 → Prop) : y_iald h 37 (Int32.ofNat i) J ↔ J (A 11 i) := by
  simp only [y_iald, H.a11]
  rw [n_in (by omega), n_cl (by omega)]
  exact ⟨fun z => z.2, fun z => ⟨hi', z⟩⟩
theorem MH.st11 (H : MH h fa tr hi w nv p rH rW nr A) {i : Nat} {x : Int32} {J : xH → Prop} (hi' : i < 3) (hJ : ∀ h', MH h' fa tr hi w nv p rH rW nr (upA A 11 (upd (A 11) i x)) → FR MP 0 0 h h' → J h') : y_iast h 37 (Int32.ofNat i) x J := by
  simp only [y_iast, H.a11]
  rw [n_in (by omega), n_cl (by omega)]
  have R := H.wr (j := 11) (by omega) (upd (A 11) i x)
  exact ⟨by omega, hi', hJ _ R.1 R.2⟩
theorem MH.ld12 (H : MH h fa tr hi w nv p rH rW nr A) {i : Nat} (hi' : i < 3) (J : Int32 → Prop) : y_iald h 38 (Int32.ofNat i) J ↔ J (A 12 i) := by
  simp only [y_iald, H.a12]
  rw [n_in (by omega), n_cl (by omega)]
  exact ⟨fun z => z.2, fun z => ⟨hi', z⟩⟩
theorem MH.st12 (H : MH h fa tr hi w nv p rH rW nr A) {i : Nat} {x : Int32} {J : xH → Prop} (hi' : i < 3) (hJ : ∀ h', MH h' fa tr hi w nv p rH rW nr (upA A 12 (upd (A 12) i x)) → FR MP 0 0 h h' → J h') : y_iast h 38 (Int32.ofNat i) x J := by
  simp only [y_iast, H.a12]
  rw [n_in (by omega), n_cl (by omega)]
  have R := H.wr (j := 12) (by omega) (upd (A 12) i x)
  exact ⟨by omega, hi', hJ _ R.1 R.2⟩
theorem MH.ld13 (H : MH h fa tr hi w nv p rH rW nr A) {i : Nat} (hi' : i < 3) (J : Int32 → Prop) : y_iald h 39 (Int32.ofNat i) J ↔ J (A 13 i) := by
  simp only [y_iald, H.a13]
  rw [n_in (by omega), n_cl (by omega)]
  exact ⟨fun z => z.2, fun z => ⟨hi', z⟩⟩
theorem MH.st13 (H : MH h fa tr hi w nv p rH rW nr A) {i : Nat} {x : Int32} {J : xH → Prop} (hi' : i < 3) (hJ : ∀ h', MH h' fa tr hi w nv p rH rW nr (upA A 13 (upd (A 13) i x)) → FR MP 0 0 h h' → J h') : y_iast h 39 (Int32.ofNat i) x J := by
  simp only [y_iast, H.a13]
  rw [n_in (by omega), n_cl (by omega)]
  have R := H.wr (j := 13) (by omega) (upd (A 13) i x)
  exact ⟨by omega, hi', hJ _ R.1 R.2⟩
theorem MH.ld14 (H : MH h fa tr hi w nv p rH rW nr A) {i : Nat} (hi' : i < 3) (J : Int32 → Prop) : y_iald h 40 (Int32.ofNat i) J ↔ J (A 14 i) := by
  simp only [y_iald, H.a14]
  rw [n_in (by omega), n_cl (by omega)]
  exact ⟨fun z => z.2, fun z => ⟨hi', z⟩⟩
theorem MH.st14 (H : MH h fa tr hi w nv p rH rW nr A) {i : Nat} {x : Int32} {J : xH → Prop} (hi' : i < 3) (hJ : ∀ h', MH h' fa tr hi w nv p rH rW nr (upA A 14 (upd (A 14) i x)) → FR MP 0 0 h h' → J h') : y_iast h 40 (Int32.ofNat i) x J := by
  simp only [y_iast, H.a14]
  rw [n_in (by omega), n_cl (by omega)]
  have R := H.wr (j := 14) (by omega) (upd (A 14) i x)
  exact ⟨by omega, hi', hJ _ R.1 R.2⟩
theorem MH.ld15 (H : MH h fa tr hi w nv p rH rW nr A) {i : Nat} (hi' : i < 90) (J : Int32 → Prop) : y_iald h 41 (Int32.ofNat i) J ↔ J (A 15 i) := by
  simp only [y_iald, H.a15]
  rw [n_in (by omega), n_cl (by omega)]
  exact ⟨fun z => z.2, fun z => ⟨hi', z⟩⟩
theorem MH.st15 (H : MH h fa tr hi w nv p rH rW nr A) {i : Nat} {x : Int32} {J : xH → Prop} (hi' : i < 90) (hJ : ∀ h', MH h' fa tr hi w nv p rH rW nr (upA A 15 (upd (A 15) i x)) → FR MP 0 0 h h' → J h') : y_iast h 41 (Int32.ofNat i) x J := by
  simp only [y_iast, H.a15]
  rw [n_in (by omega), n_cl (by omega)]
  have R := H.wr (j := 15) (by omega) (upd (A 15) i x)
  exact ⟨by omega, hi', hJ _ R.1 R.2⟩
theorem MH.ld16 (H : MH h fa tr hi w nv p rH rW nr A) {i : Nat} (hi' : i < 30) (J : Int32 → Prop) : y_iald h 42 (Int32.ofNat i) J ↔ J (A 16 i) := by
  simp only [y_iald, H.a16]
  rw [n_in (by omega), n_cl (by omega)]
  exact ⟨fun z => z.2, fun z => ⟨hi', z⟩⟩
theorem MH.st16 (H : MH h fa tr hi w nv p rH rW nr A) {i : Nat} {x : Int32} {J : xH → Prop} (hi' : i < 30) (hJ : ∀ h', MH h' fa tr hi w nv p rH rW nr (upA A 16 (upd (A 16) i x)) → FR MP 0 0 h h' → J h') : y_iast h 42 (Int32.ofNat i) x J := by
  simp only [y_iast, H.a16]
  rw [n_in (by omega), n_cl (by omega)]
  have R := H.wr (j := 16) (by omega) (upd (A 16) i x)
  exact ⟨by omega, hi', hJ _ R.1 R.2⟩
theorem MH.ld17 (H : MH h fa tr hi w nv p rH rW nr A) {i : Nat} (hi' : i < 30) (J : Int32 → Prop) : y_iald h 43 (Int32.ofNat i) J ↔ J (A 17 i) := by
  simp only [y_iald, H.a17]
  rw [n_in (by omega), n_cl (by omega)]
  exact ⟨fun z => z.2, fun z => ⟨hi', z⟩⟩
theorem MH.st17 (H : MH h fa tr hi w nv p rH rW nr A) {i : Nat} {x : Int32} {J : xH → Prop} (hi' : i < 30) (hJ : ∀ h', MH h' fa tr hi w nv p rH rW nr (upA A 17 (upd (A 17) i x)) → FR MP 0 0 h h' → J h') : y_iast h 43 (Int32.ofNat i) x J := by
  simp only [y_iast, H.a17]
  rw [n_in (by omega), n_cl (by omega)]
  have R := H.wr (j := 17) (by omega) (upd (A 17) i x)
  exact ⟨by omega, hi', hJ _ R.1 R.2⟩
theorem MH.ld18 (H : MH h fa tr hi w nv p rH rW nr A) {i : Nat} (hi' : i < 9) (J : Int32 → Prop) : y_iald h 44 (Int32.ofNat i) J ↔ J (A 18 i) := by
  simp only [y_iald, H.a18]
  rw [n_in (by omega), n_cl (by omega)]
  exact ⟨fun z => z.2, fun z => ⟨hi', z⟩⟩
theorem MH.st18 (H : MH h fa tr hi w nv p rH rW nr A) {i : Nat} {x : Int32} {J : xH → Prop} (hi' : i < 9) (hJ : ∀ h', MH h' fa tr hi w nv p rH rW nr (upA A 18 (upd (A 18) i x)) → FR MP 0 0 h h' → J h') : y_iast h 44 (Int32.ofNat i) x J := by
  simp only [y_iast, H.a18]
  rw [n_in (by omega), n_cl (by omega)]
  have R := H.wr (j := 18) (by omega) (upd (A 18) i x)
  exact ⟨by omega, hi', hJ _ R.1 R.2⟩
theorem MH.ld19 (H : MH h fa tr hi w nv p rH rW nr A) {i : Nat} (hi' : i < 80) (J : Int32 → Prop) : y_zald h 45 (Int32.ofNat i) J ↔ J (A 19 i) := by
  simp only [y_zald, H.a19]
  rw [n_in (by omega), n_cl (by omega)]
  exact ⟨fun z => z.2.2, fun z => ⟨by omega, hi', z⟩⟩
theorem MH.st19 (H : MH h fa tr hi w nv p rH rW nr A) {i : Nat} {b : Bool} {J : xH → Prop} (hi' : i < 80) (hJ : ∀ h', MH h' fa tr hi w nv p rH rW nr (upA A 19 (upd (A 19) i (bi b))) → FR MP 0 0 h h' → J h') : y_zast h 45 (Int32.ofNat i) (bi b) J := by
  simp only [y_zast, H.a19]
  rw [n_in (by omega), n_cl (by omega), nar_bi]
  have R := H.wr (j := 19) (by omega) (upd (A 19) i (bi b))
  exact ⟨by omega, hi', hJ _ R.1 R.2⟩
theorem MH.ld20 (H : MH h fa tr hi w nv p rH rW nr A) {i : Nat} (hi' : i < 8) (J : Int32 → Prop) : y_iald h 46 (Int32.ofNat i) J ↔ J (A 20 i) := by
  simp only [y_iald, H.a20]
  rw [n_in (by omega), n_cl (by omega)]
  exact ⟨fun z => z.2, fun z => ⟨hi', z⟩⟩
theorem MH.st20 (H : MH h fa tr hi w nv p rH rW nr A) {i : Nat} {x : Int32} {J : xH → Prop} (hi' : i < 8) (hJ : ∀ h', MH h' fa tr hi w nv p rH rW nr (upA A 20 (upd (A 20) i x)) → FR MP 0 0 h h' → J h') : y_iast h 46 (Int32.ofNat i) x J := by
  simp only [y_iast, H.a20]
  rw [n_in (by omega), n_cl (by omega)]
  have R := H.wr (j := 20) (by omega) (upd (A 20) i x)
  exact ⟨by omega, hi', hJ _ R.1 R.2⟩
theorem MH.ld21 (H : MH h fa tr hi w nv p rH rW nr A) {i : Nat} (hi' : i < 8) (J : Int32 → Prop) : y_iald h 47 (Int32.ofNat i) J ↔ J (A 21 i) := by
  simp only [y_iald, H.a21]
  rw [n_in (by omega), n_cl (by omega)]
  exact ⟨fun z => z.2, fun z => ⟨hi', z⟩⟩
theorem MH.st21 (H : MH h fa tr hi w nv p rH rW nr A) {i : Nat} {x : Int32} {J : xH → Prop} (hi' : i < 8) (hJ : ∀ h', MH h' fa tr hi w nv p rH rW nr (upA A 21 (upd (A 21) i x)) → FR MP 0 0 h h' → J h') : y_iast h 47 (Int32.ofNat i) x J := by
  simp only [y_iast, H.a21]
  rw [n_in (by omega), n_cl (by omega)]
  have R := H.wr (j := 21) (by omega) (upd (A 21) i x)
  exact ⟨by omega, hi', hJ _ R.1 R.2⟩
theorem MH.ld22 (H : MH h fa tr hi w nv p rH rW nr A) {i : Nat} (hi' : i < 8) (J : Int32 → Prop) : y_iald h 48 (Int32.ofNat i) J ↔ J (A 22 i) := by
  simp only [y_iald, H.a22]
  rw [n_in (by omega), n_cl (by omega)]
  exact ⟨fun z => z.2, fun z => ⟨hi', z⟩⟩
theorem MH.st22 (H : MH h fa tr hi w nv p rH rW nr A) {i : Nat} {x : Int32} {J : xH → Prop} (hi' : i < 8) (hJ : ∀ h', MH h' fa tr hi w nv p rH rW nr (upA A 22 (upd (A 22) i x)) → FR MP 0 0 h h' → J h') : y_iast h 48 (Int32.ofNat i) x J := by
  simp only [y_iast, H.a22]
  rw [n_in (by omega), n_cl (by omega)]
  have R := H.wr (j := 22) (by omega) (upd (A 22) i x)
  exact ⟨by omega, hi', hJ _ R.1 R.2⟩
theorem MH.p_fa (H : MH h fa tr hi w nv p rH rW nr A) {x : Int32} {J : xH → Prop} (hJ : ∀ h', MH h' x tr hi w nv p rH rW nr A → FR MP 0 0 h h' → J h') : y_put h 25 8 0 (.int x) J := by
  unfold y_put
  rw [H.o]
  have R := H.ob x tr hi w nv p rH rW nr
  exact ⟨rfl, by omega, (by simp), hJ _ R.1 R.2⟩
theorem MH.p_tr (H : MH h fa tr hi w nv p rH rW nr A) {x : Int32} {J : xH → Prop} (hJ : ∀ h', MH h' fa x hi w nv p rH rW nr A → FR MP 0 0 h h' → J h') : y_put h 25 8 1 (.int x) J := by
  unfold y_put
  rw [H.o]
  have R := H.ob fa x hi w nv p rH rW nr
  exact ⟨rfl, by omega, (by simp), hJ _ R.1 R.2⟩
theorem MH.p_hi (H : MH h fa tr hi w nv p rH rW nr A) {x : Int32} {J : xH → Prop} (hJ : ∀ h', MH h' fa tr x w nv p rH rW nr A → FR MP 0 0 h h' → J h') : y_put h 25 8 5 (.int x) J := by
  unfold y_put
  rw [H.o]
  have R := H.ob fa tr x w nv p rH rW nr
  exact ⟨rfl, by omega, (by simp), hJ _ R.1 R.2⟩
theorem MH.p_w (H : MH h fa tr hi w nv p rH rW nr A) {x : Int32} {J : xH → Prop} (hJ : ∀ h', MH h' fa tr hi x nv p rH rW nr A → FR MP 0 0 h h' → J h') : y_put h 25 8 6 (.int x) J := by
  unfold y_put
  rw [H.o]
  have R := H.ob fa tr hi x nv p rH rW nr
  exact ⟨rfl, by omega, (by simp), hJ _ R.1 R.2⟩
theorem MH.p_nv (H : MH h fa tr hi w nv p rH rW nr A) {x : Int32} {J : xH → Prop} (hJ : ∀ h', MH h' fa tr hi w x p rH rW nr A → FR MP 0 0 h h' → J h') : y_put h 25 8 8 (.int x) J := by
  unfold y_put
  rw [H.o]
  have R := H.ob fa tr hi w x p rH rW nr
  exact ⟨rfl, by omega, (by simp), hJ _ R.1 R.2⟩
theorem MH.p_p (H : MH h fa tr hi w nv p rH rW nr A) {x : Int32} {J : xH → Prop} (hJ : ∀ h', MH h' fa tr hi w nv x rH rW nr A → FR MP 0 0 h h' → J h') : y_put h 25 8 13 (.int x) J := by
  unfold y_put
  rw [H.o]
  have R := H.ob fa tr hi w nv x rH rW nr
  exact ⟨rfl, by omega, (by simp), hJ _ R.1 R.2⟩
theorem MH.p_rH (H : MH h fa tr hi w nv p rH rW nr A) {x : Int32} {J : xH → Prop} (hJ : ∀ h', MH h' fa tr hi w nv p x rW nr A → FR MP 0 0 h h' → J h') : y_put h 25 8 14 (.int x) J := by
  unfold y_put
  rw [H.o]
  have R := H.ob fa tr hi w nv p x rW nr
  exact ⟨rfl, by omega, (by simp), hJ _ R.1 R.2⟩
theorem MH.p_rW (H : MH h fa tr hi w nv p rH rW nr A) {x : Int32} {J : xH → Prop} (hJ : ∀ h', MH h' fa tr hi w nv p rH x nr A → FR MP 0 0 h h' → J h') : y_put h 25 8 15 (.int x) J := by
  unfold y_put
  rw [H.o]
  have R := H.ob fa tr hi w nv p rH x nr
  exact ⟨rfl, by omega, (by simp), hJ _ R.1 R.2⟩
theorem MH.p_nr (H : MH h fa tr hi w nv p rH rW nr A) {x : Int32} {J : xH → Prop} (hJ : ∀ h', MH h' fa tr hi w nv p rH rW x A → FR MP 0 0 h h' → J h') : y_put h 25 8 28 (.int x) J := by
  unfold y_put
  rw [H.o]
  have R := H.ob fa tr hi w nv p rH rW x
  exact ⟨rfl, by omega, (by simp), hJ _ R.1 R.2⟩
end
