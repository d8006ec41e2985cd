/-- what is left: the run of the numbered machine on every script -/
theorem law_go {L : Nat} (hL : L ≤ 3072) (xs : Nat → Int32) : ∃ h' : xH, xGo 9 xLaw 0 [some (.ref 0), none, none, none] [] (xh0 L xs) (some (.int 1), h') ∧ h'.length ≤ 600002 ∧ xsl h' ≤ L + 7302250 := sorry
