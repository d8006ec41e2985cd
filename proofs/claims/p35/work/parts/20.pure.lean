/-! ===== the garden, as numbers: what both sides are held against ===== -/
/-- the cell beside a cell: w wide, n cells -/
def bes (w n c d : Nat) : Option Nat := match d with
  | 0 => if w ≤ c then some (c - w) else none
  | 1 => if c % w + 1 < w then some (c + 1) else none
  | 2 => if c + w < n then some (c + w) else none
  | _ => if 0 < c % w then some (c - 1) else none
/-- a garden: how wide, how many cells, their signs, how many vines, kind, cell, heading of each -/
abbrev Gd : Type := Nat × Nat × (Nat → Nat) × Nat × (Nat → Nat) × (Nat → Nat) × (Nat → Nat)
abbrev gw (E : Gd) : Nat := E.1
abbrev gn (E : Gd) : Nat := E.2.1
abbrev gs (E : Gd) : Nat → Nat := E.2.2.1
abbrev gv (E : Gd) : Nat := E.2.2.2.1
abbrev gk (E : Gd) : Nat → Nat := E.2.2.2.2.1
abbrev gp (E : Gd) : Nat → Nat := E.2.2.2.2.2.1
abbrev gh (E : Gd) : Nat → Nat := E.2.2.2.2.2.2
/-- a vine as it grows: tip, heading, doubts, leaves (bits), directions by which it came (two bits a cell), when out, when dead -/
abbrev Vs : Type := Nat × Nat × Nat × Nat × Nat × Option Nat × Option Nat
abbrev vt (x : Vs) : Nat := x.1
abbrev vh (x : Vs) : Nat := x.2.1
abbrev vd (x : Vs) : Nat := x.2.2.1
abbrev vl (x : Vs) : Nat := x.2.2.2.1
abbrev vc (x : Vs) : Nat := x.2.2.2.2.1
abbrev vo (x : Vs) : Option Nat := x.2.2.2.2.2.1
abbrev vx (x : Vs) : Option Nat := x.2.2.2.2.2.2
/-- all leaves of the first k vines -/
def allL (G : Nat → Vs) : Nat → Nat
  | 0 => 0
  | k + 1 => allL G k ||| vl (G k)
def ord3 (k h : Nat) : List Nat := if k = 2 then [(h + 1) % 4, h, (h + 3) % 4] else [(h + 3) % 4, h, (h + 1) % 4]
def isFr (E : Gd) (L t d : Nat) : Bool := match bes (gw E) (gn E) t d with
  | some c => gs E c != 1 && !L.testBit c
  | none => false
def isPr (E : Gd) (t d : Nat) : Bool := match bes (gw E) (gn E) t d with
  | some c => gs E c == 2
  | none => false
/-- the direction to the first free cell by a kind's law: L the leaves -/
def wayOf (E : Gd) (L k t h : Nat) : Option Nat := if k = 0 then (ord3 k h).find? (isFr E L t) else match (ord3 k h).find? (fun d => isFr E L t d && isPr E t d) with
  | some d => some d
  | none => (ord3 k h).find? (isFr E L t)
def stepV (E : Gd) (L t v : Nat) (x : Vs) : Vs := match wayOf E L (gk E v) (vt x) (vh x) with
  | some d => match bes (gw E) (gn E) (vt x) d with
    | some c => (c, d, vd x, vl x ||| 2 ^ c, vc x ||| d * 4 ^ c, if gs E c = 3 then some t else none, none)
    | none => x
  | none => if vt x = gp E v then (vt x, vh x, vd x, vl x, vc x, none, some t) else
    match bes (gw E) (gn E) (vt x) ((vc x / 4 ^ vt x + 2) % 4) with
    | some c => (c, (vc x / 4 ^ vt x + 2) % 4, vd x + 1, vl x, vc x, none, none)
    | none => x
def upG (G : Nat → Vs) (v : Nat) (x : Vs) : Nat → Vs := fun j => if j = v then x else G j
def growV (E : Gd) (t : Nat) (G : Nat → Vs) (v : Nat) : Nat → Vs := if (vo (G v)).isSome || (vx (G v)).isSome then G else upG G v (stepV E (allL G (gv E)) t v (G v))
/-- the first k vines grow -/
def growN (E : Gd) (t : Nat) (G : Nat → Vs) : Nat → Nat → Vs
  | 0 => G
  | k + 1 => growV E t (growN E t G k) k
def grow1 (E : Gd) (t : Nat) (G : Nat → Vs) : Nat → Vs := growN E t G (gv E)
def init1 (E : Gd) : Nat → Vs := fun v => (gp E v, gh E v, 0, 2 ^ gp E v, 0, none, none)
/-- behind k moves, stamped 0, 1, .. -/
def runM (E : Gd) : Nat → Nat → Vs
  | 0 => init1 E
  | k + 1 => grow1 E k (runM E k)
/-- behind the days 0 .. k less 1, stamped by the day -/
def runD (E : Gd) (fr : Nat → Bool) : Nat → Nat → Vs
  | 0 => init1 E
  | k + 1 => if fr k then runD E fr k else grow1 E k (runD E fr k)
/-- days without frost among the first k -/
def mild (fr : Nat → Bool) : Nat → Nat
  | 0 => 0
  | k + 1 => if fr k then mild fr k else mild fr k + 1
/-- the day of a move, among the first k days -/
def dayOf (fr : Nat → Bool) (m : Nat) : Nat → Option Nat
  | 0 => none
  | k + 1 => match dayOf fr m k with
    | some d => some d
    | none => if fr k then none else if mild fr k = m then some k else none
/-- a garden's frame: w wide, n cells -/
def okW (w n : Nat) : Prop := 2 ≤ w ∧ w ≤ 6 ∧ n ≤ 30 ∧ ∃ hi, n = hi * w
theorem bes_lt {w n c d x : Nat} (hw : okW w n) (hc : c < n) (hx : bes w n c d = some x) : x < n := by
  obtain ⟨w2, w6, n30, hi, rfl⟩ := hw
  unfold bes at hx
  split at hx
  · split at hx
    · cases hx; omega
    · cases hx
  · split at hx
    · rename_i q
      cases hx
      have h1 := Nat.div_add_mod c w
      have h2 : c / w < hi := Nat.div_lt_of_lt_mul (by rw [Nat.mul_comm]; exact hc)
      have h3 : w * (c / w + 1) ≤ w * hi := Nat.mul_le_mul_left _ h2
      rw [Nat.mul_add, Nat.mul_one] at h3
      rw [Nat.mul_comm hi w]
      omega
    · cases hx
  · split at hx
    · cases hx; assumption
    · cases hx
  · split at hx
    · cases hx; omega
    · cases hx
/-- the first free direction by a law, from what was found so far on -/
def fwL (fr pr : Nat → Bool) (k0 : Bool) : List Nat → Option Nat → Option Nat
  | [], w => w
  | d :: r, w => if fr d then (if k0 || pr d then some d else fwL fr pr k0 r (w.or (some d))) else fwL fr pr k0 r w
theorem fwL_c (fr pr : Nat → Bool) (k0 : Bool) (d : Nat) (r : List Nat) (w : Option Nat) : fwL fr pr k0 (d :: r) w = if fr d then (if k0 || pr d then some d else fwL fr pr k0 r (w.or (some d))) else fwL fr pr k0 r w := rfl
theorem fwL_t (fr pr : Nat → Bool) : ∀ l, fwL fr pr true l none = l.find? fr
  | [] => rfl
  | d :: r => by
    unfold fwL
    by_cases q : fr d = true
    · rw [if_pos q, List.find?_cons_of_pos q]; rfl
    · rw [if_neg q, List.find?_cons_of_neg q]; exact fwL_t fr pr r
theorem fwL_f (fr pr : Nat → Bool) : ∀ l w, fwL fr pr false l w = match l.find? (fun d => fr d && pr d) with
    | some d => some d
    | none => w.or (l.find? fr)
  | [], w => by cases w <;> rfl
  | d :: r, w => by
    unfold fwL
    by_cases q : fr d = true
    · rw [if_pos q, List.find?_cons_of_pos (p := fr) q]
      by_cases p : pr d = true
      · rw [if_pos (by rw [p]; rfl), List.find?_cons_of_pos (by rw [q, p]; rfl)]
      · rw [if_neg (by simpa using p), List.find?_cons_of_neg (by rw [q]; simpa using p), fwL_f fr pr r]
        cases r.find? (fun d => fr d && pr d) with
        | some _ => rfl
        | none => cases w <;> simp
    · rw [if_neg q, List.find?_cons_of_neg (p := fr) q, List.find?_cons_of_neg (by simp [q]), fwL_f fr pr r]
theorem fwL_way (E : Gd) (L k t h : Nat) : fwL (isFr E L t) (isPr E t) (k == 0) (ord3 k h) none = wayOf E L k t h := by
  unfold wayOf
  by_cases q : k = 0
  · rw [if_pos q]
    have : (k == 0) = true := by simpa using q
    rw [this, fwL_t]
  · rw [if_neg q]
    have : (k == 0) = false := by simpa using q
    rw [this, fwL_f]
    cases (ord3 k h).find? (fun d => isFr E L t d && isPr E t d) <;> simp
