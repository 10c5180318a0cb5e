/-! part 98: every script -/
theorem x_main (L : Nat) (xs : Nat → Int32) (hL : L ≤ 3072) : ∃ h' : xh, RF 198 (Ev 1000) 0 [some (.retAddr 0), none, none, none] [] (x_h0 L xs) = some (some (.int 1), h') ∧ h'.1 ≤ 600000 ∧ h'.2.1 ≤ 7302249 := by
  obtain ⟨h, a1, a2, a3⟩ := l_start L xs
  obtain ⟨m', h', b1, b2, b3⟩ := l_loop hL L 0 0 h (by omega) (by omega) a1 a2
  refine ⟨h', a3.trans b3, ?_⟩
  obtain ⟨δ, τ1, ε, τ2, ζ, τ3, κ, n, l, ke, op, sz, B, S, b, a, s, w, X, rfl, R⟩ := b2
  obtain ⟨x1, x2, x3, x4, x5, x6⟩ := R.2.2.2.2.2.2.2.2.2.2.2.2
  refine ⟨?_, ?_⟩
  · show X.1 ≤ 600000; omega
  · show X.2.1 ≤ 7302249; omega
