/-! part 69: the constructors -/
section CONS
variable {p m : Nat} {F E : Nat → xc}
theorem na24 : (0 ≤ (24 : Int32).toInt ∧ (24 : Int32).toInt ≤ 100000) = True := eq_true (by decide)
theorem nt24 : (24 : Int32).toInt.toNat = 24 := rfl
theorem i_row (d : Nat) (hF : F p = .inr (.inr (1, xdv1))) : ∃ FF, Ev (d + 1) 25 [.ref p] (hq' (p + 1) m F E) = some (none, hq' (p + 2) (m + 24) FF E) ∧ FF p = .inr (.inr (1, [.int (-1), .int 0, .ref (p + 1)])) ∧ FF (p + 1) = .inl (0, 24, fun _ => 0) ∧ ∀ q, q ≠ p → q ≠ p + 1 → FF q = F q := by
  have p0 : hpf (hq' (p + 1) m F E) (.ref p) 1 0 (.int (-1)) = some (hq' (p + 1) m (va_up F p (.inr (.inr (1, [.int (-1), .int 0, .null])))) E) := hq_pf hF (by decide) _
  have p1 : hpf (hq' (p + 1) m (va_up F p (.inr (.inr (1, [.int (-1), .int 0, .null])))) E) (.ref p) 1 1 (.int 0) = some (hq' (p + 1) m (va_up (va_up F p (.inr (.inr (1, [.int (-1), .int 0, .null])))) p (.inr (.inr (1, [.int (-1), .int 0, .null])))) E) := hq_pf (vu_s _ _ _) (by decide) _
  rw [vu_u] at p1
  have p2 : hpf (hq' (p + 1 + 1) (m + 24) (va_up (va_up F p (.inr (.inr (1, [.int (-1), .int 0, .null])))) (p + 1) (.inl (0, 24, fun _ => 0))) E) (.ref p) 1 2 (.ref (p + 1)) = some (hq' (p + 1 + 1) (m + 24) (va_up (va_up (va_up F p (.inr (.inr (1, [.int (-1), .int 0, .null])))) (p + 1) (.inl (0, 24, fun _ => 0))) p (.inr (.inr (1, [.int (-1), .int 0, .ref (p + 1)])))) E) := hq_pf (fs := [.int (-1), .int 0, .null]) (by rw [vu_n _ _ (by omega), vu_s]) (by decide) _
  refine ⟨va_up (va_up (va_up F p (.inr (.inr (1, [.int (-1), .int 0, .null])))) (p + 1) (.inl (0, 24, fun _ => 0))) p (.inr (.inr (1, [.int (-1), .int 0, .ref (p + 1)]))), ?_, vu_s _ _ _, ?_, ?_⟩
  · rw [E25]
    simp only [S25_0, S25_1, S25_4, S25_5, S25_6, S25_9, S25_10, S25_11, S25_14, S25_15, S25_17, S25_19, S25_22, Option.bind_some, Option.map_some, xpush_s, xpush_n, xcat_0, xcat_i, xcat_r, xcat_l, xcat_n, xcat_e, xir_r, Nat.reduceAdd, Nat.reduceLeDiff, Nat.zero_le, Nat.le_refl, ↓reduceIte, p0, p1, na24, nt24, hq_new, hq_1, p2]
  · rw [vu_n _ _ (by omega), vu_s]
  · intro q h1 h2
    rw [vu_n _ _ h1, vu_n _ _ h2, vu_n _ _ h1]
end CONS
