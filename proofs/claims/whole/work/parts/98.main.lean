/-! part 98: every script -/
theorem x_main (L : Nat) (xs : Nat → Int32) (hL : L ≤ 3072) : ∃ h' : xh, RF 198 (Ev 1000) 0 [some (.retAddr 0), none, none, none] [] (x_h0 L xs) = some (some (.int 1), h') ∧ h'.1 ≤ 600000 ∧ h'.2.1 ≤ 7302249 := by
  sorry
