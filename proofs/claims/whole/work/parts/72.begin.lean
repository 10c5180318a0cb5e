/-! part 72: the start -/
theorem l_start (L : Nat) (xs : Nat → Int32) : ∃ h, INV 0 h ∧ h.2.2.2 = x_ext L xs ∧ RF 198 (Ev 1000) 0 [some (.retAddr 0), none, none, none] [] (x_h0 L xs) = RF 198 (Ev 1000) 18 [some (.retAddr 0), some (.ref 0), some (.ref 58), some (.int (nI 0))] [] h := by
  sorry
