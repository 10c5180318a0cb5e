/-! part 69: the constructors -/
section CONS
variable {p m : Nat} {F E : Nat → xc}
theorem na24 : (0 ≤ (24 : Int32).toInt ∧ (24 : Int32).toInt ≤ 100000) = True := eq_true (by decide)
theorem nt24 : (24 : Int32).toInt.toNat = 24 := rfl
theorem i_row (d : Nat) (hF : F p = .inr (.inr (1, xdv1))) : ∃ FF, Ev (d + 1) 25 [.ref p] (hq' (p + 1) m F E) = some (none, hq' (p + 2) (m + 24) FF E) ∧ FF p = .inr (.inr (1, [.int (-1), .int 0, .ref (p + 1)])) ∧ FF (p + 1) = .inl (0, 24, fun _ => 0) ∧ ∀ q, q ≠ p → q ≠ p + 1 → FF q = F q := by
  have p0 : hpf (hq' (p + 1) m F E) (.ref p) 1 0 (.int (-1)) = some (hq' (p + 1) m (va_up F p (.inr (.inr (1, [.int (-1), .int 0, .null])))) E) := hq_pf hF (by decide) _
  have p1 : hpf (hq' (p + 1) m (va_up F p (.inr (.inr (1, [.int (-1), .int 0, .null])))) E) (.ref p) 1 1 (.int 0) = some (hq' (p + 1) m (va_up (va_up F p (.inr (.inr (1, [.int (-1), .int 0, .null])))) p (.inr (.inr (1, [.int (-1), .int 0, .null])))) E) := hq_pf (vu_s _ _ _) (by decide) _
  rw [vu_u] at p1
  have p2 : hpf (hq' (p + 1 + 1) (m + 24) (va_up (va_up F p (.inr (.inr (1, [.int (-1), .int 0, .null])))) (p + 1) (.inl (0, 24, fun _ => 0))) E) (.ref p) 1 2 (.ref (p + 1)) = some (hq' (p + 1 + 1) (m + 24) (va_up (va_up (va_up F p (.inr (.inr (1, [.int (-1), .int 0, .null])))) (p + 1) (.inl (0, 24, fun _ => 0))) p (.inr (.inr (1, [.int (-1), .int 0, .ref (p + 1)])))) E) := hq_pf (fs := [.int (-1), .int 0, .null]) (by rw [vu_n _ _ (by omega), vu_s]) (by decide) _
  refine ⟨va_up (va_up (va_up F p (.inr (.inr (1, [.int (-1), .int 0, .null])))) (p + 1) (.inl (0, 24, fun _ => 0))) p (.inr (.inr (1, [.int (-1), .int 0, .ref (p + 1)]))), ?_, vu_s _ _ _, ?_, ?_⟩
  · rw [E25]
    simp only [S25_0, S25_1, S25_4, S25_5, S25_6, S25_9, S25_10, S25_11, S25_14, S25_15, S25_17, S25_19, S25_22, Option.bind_some, Option.map_some, xpush_s, xpush_n, xcat_0, xcat_i, xcat_r, xcat_l, xcat_n, xcat_e, xir_r, Nat.reduceAdd, Nat.reduceLeDiff, Nat.zero_le, Nat.le_refl, ↓reduceIte, p0, p1, na24, nt24, hq_new, hq_1, p2]
  · rw [vu_n _ _ (by omega), vu_s]
  · intro q h1 h2
    rw [vu_n _ _ h1, vu_n _ _ h2, vu_n _ _ h1]
theorem hp2 {P ci j : Nat} {A : Nat → xc} {fs : List Value} {w : Value} (hj : j < fs.length) : hpf (hq' P m (va_up A p (.inr (.inr (ci, fs)))) E) (.ref p) ci j w = some (hq' P m (va_up A p (.inr (.inr (ci, fs.set j w)))) E) := by
  rw [hq_pf (vu_s _ _ _) hj, vu_u]
theorem hn2 {P n : Nat} {A : Nat → xc} {o : (Nat × Nat × (Nat → Option Nat)) ⊕ (Nat × List Value)} {c : xc} (h : P ≠ p) : hnew (hq' P m (va_up A p (.inr o)) E) c n = hq' (P + 1) (m + n) (va_up (va_up A P c) p (.inr o)) E := by
  rw [hq_new, vu_c _ _ _ h]
theorem na96 : (0 ≤ (96 : Int32).toInt ∧ (96 : Int32).toInt ≤ 100000) = True := eq_true (by decide)
theorem nt96 : (96 : Int32).toInt.toNat = 96 := rfl
theorem i_tape (d : Nat) (hF : F p = .inr (.inr (3, xdv3))) : Ev (d + 1) 34 [.ref p] (hq' (p + 1) m F E) = some (none, hq' (p + 1 + 1 + 1) (m + 96 + 96) (va_up (va_up (va_up F (p + 1) (.inl (0, 96, fun _ => 0))) (p + 1 + 1) (.inl (0, 96, fun _ => 0))) p (.inr (.inr (3, [.ref (p + 1), .int 0, .int 0, .int 0, .int 0, .int 0, .int (-1), .int 0, .ref (p + 1 + 1), .int 0])))) E) := by
  have e : F = va_up F p (.inr (.inr (3, xdv3))) := by rw [← hF, vu_self]
  have h1 : p + 1 ≠ p := by omega
  have h2 : p + 1 + 1 ≠ p := by omega
  rw [e, E34]
  simp only [S34_0, S34_1, S34_4, S34_5, S34_7, S34_9, S34_12, S34_13, S34_14, S34_17, S34_18, S34_19, S34_22, S34_23, S34_24, S34_27, S34_28, S34_29, S34_32, S34_33, S34_34, S34_37, S34_38, S34_39, S34_42, S34_43, S34_44, S34_47, S34_48, S34_50, S34_52, S34_55, S34_56, S34_57, S34_60, Option.bind_some, Option.map_some, xpush_s, xpush_n, xcat_0, xcat_i, xcat_r, xcat_l, xcat_n, xcat_e, xir_r, Nat.reduceAdd, Nat.reduceLeDiff, Nat.zero_le, Nat.le_refl, ↓reduceIte, xdv3, na96, nt96, hq_1, hn2 h1, hn2 h2, hp2, List.length_cons, List.length_nil, Nat.reduceLT, List.set_cons_zero, List.set_cons_succ, true_or, or_true]
  rw [vu_c _ _ _ (show p + 1 ≠ p by omega), vu_c _ _ _ (show p + 1 + 1 ≠ p by omega), vu_u]
theorem i_row' (d : Nat) (hF : F p = .inr (.inr (1, xdv1))) : Ev (d + 1) 25 [.ref p] (hq' (p + 1) m F E) = some (none, hq' (p + 1 + 1) (m + 24) (va_up (va_up F (p + 1) (.inl (0, 24, fun _ => 0))) p (.inr (.inr (1, [.int (-1), .int 0, .ref (p + 1)])))) E) := by
  have e : F = va_up F p (.inr (.inr (1, xdv1))) := by rw [← hF, vu_self]
  have h1 : p + 1 ≠ p := by omega
  rw [e, E25]
  simp only [S25_0, S25_1, S25_4, S25_5, S25_6, S25_9, S25_10, S25_11, S25_14, S25_15, S25_17, S25_19, S25_22, Option.bind_some, Option.map_some, xpush_s, xpush_n, xcat_0, xcat_i, xcat_r, xcat_l, xcat_n, xcat_e, xir_r, Nat.reduceAdd, Nat.reduceLeDiff, Nat.zero_le, Nat.le_refl, ↓reduceIte, xdv1, na24, nt24, hq_1, hn2 h1, hp2, List.length_cons, List.length_nil, Nat.reduceLT, List.set_cons_zero, List.set_cons_succ, true_or, or_true]
  rw [vu_c _ _ _ (show p + 1 ≠ p by omega), vu_u]
theorem i_slot (d : Nat) (hF : F p = .inr (.inr (2, xdv2))) : Ev (d + 2) 32 [.ref p] (hq' (p + 1) m F E) = some (none, hq' (p + 1 + 1 + 1) (m + 3 + 24) (va_up (va_up (va_up F (p + 1 + 1) (.inl (0, 24, fun _ => 0))) (p + 1) (.inr (.inr (1, [.int (-1), .int 0, .ref (p + 1 + 1)])))) p (.inr (.inr (2, [.int 0, .int 0, .int 0, .int 0, .int 0, .ref (p + 1)])))) E) := by
  have e : F = va_up F p (.inr (.inr (2, xdv2))) := by rw [← hF, vu_self]
  have h1 : p + 1 ≠ p := by omega
  have hr := i_row' (p := p + 1) (m := m + 3) (E := E) (F := va_up (va_up F (p + 1) (.inr (.inr (1, xdv1)))) p (.inr (.inr (2, [.int 0, .int 0, .int 0, .int 0, .int 0, .null])))) d (by rw [vu_n _ _ (by omega), vu_s])
  rw [vu_c _ _ _ (show p + 1 + 1 ≠ p by omega), vu_c _ _ _ (show p + 1 ≠ p by omega), vu_c _ _ _ (show p + 1 + 1 ≠ p + 1 by omega), vu_u] at hr
  rw [e, E32]
  simp only [S32_0, S32_1, S32_4, S32_5, S32_6, S32_9, S32_10, S32_11, S32_14, S32_15, S32_16, S32_19, S32_20, S32_21, S32_24, S32_25, S32_26, S32_29, S32_30, S32_33, S32_34, S32_37, S32_40, Option.bind_some, Option.map_some, xpush_s, xpush_n, xcat_0, xcat_i, xcat_r, xcat_l, xcat_n, xcat_e, xir_r, Nat.reduceAdd, Nat.reduceLeDiff, Nat.zero_le, Nat.le_refl, ↓reduceIte, xdv2, hq_1, hn2 h1, hp2, List.length_cons, List.length_nil, Nat.reduceLT, List.set_cons_zero, List.set_cons_succ, hr, cat_r]
  rw [vu_c _ _ _ (show p + 1 + 1 ≠ p by omega), vu_c _ _ _ (show p + 1 ≠ p by omega), vu_u]
theorem hq_wr {P k n j : Nat} {f : Nat → Int32} {i x : Int32} (h : F k = .inl (0, n, f)) (hj : xix i n = some j) : hwr (hq' P m F E) (.ref k) 0 i x = some (hq' P m (va_up F k (.inl (0, n, upd f j x))) E) := by
  unfold hwr hq'
  dsimp only
  rw [h]
  show (match xix i n with | some t => some (hset _ k (.inl (0, n, upd f t x))) | none => none) = _
  rw [hj]
  rfl
theorem i_fill_l (ev : xe) {P k n : Nat} (hn : n ≤ 100) (x : Int32) (f : Nat → Int32) : ∀ j t, t + j = n → RF 215 ev 5 [some (.ref k), some (.int x), some (.int (nI t)), some (.int (nI n))] [] (hq' P m (va_up F k (.inl (0, n, fil f x t))) E) = some (none, hq' P m (va_up F k (.inl (0, n, fil f x n))) E)
  | 0, t, e => by
    have e' : t = n := by omega
    subst e'
    rw [S215_5]
    simp only [S215_0, S215_1, S215_2, S215_3, S215_4, S215_6, S215_7, S215_10, S215_11, S215_12, S215_13, S215_14, S215_17, S215_20, Option.bind_some, Option.map_some, xpush_s, xpush_n, xcat_0, xcat_i, xcat_r, xcat_l, xcat_n, xcat_e, xir_r, Nat.reduceAdd, Nat.reduceLeDiff, Nat.zero_le, Nat.le_refl, ↓reduceIte, show (nI t ≤ nI t) = True from eq_true (Int32.le_refl _)]
  | j + 1, t, e => by
    have hc : ¬ nI n ≤ nI t := nI_ge (by omega) (by omega)
    have ih := i_fill_l ev (P := P) (k := k) hn x f j (t + 1) (by omega)
    rw [S215_5]
    simp only [S215_0, S215_1, S215_2, S215_3, S215_4, S215_6, S215_7, S215_10, S215_11, S215_12, S215_13, S215_14, S215_17, S215_20, Option.bind_some, Option.map_some, xpush_s, xpush_n, xcat_0, xcat_i, xcat_r, xcat_l, xcat_n, xcat_e, xir_r, Nat.reduceAdd, Nat.reduceLeDiff, Nat.zero_le, Nat.le_refl, ↓reduceIte, hc, hq_wr (P := P) (m := m) (E := E) (x := x) (vu_s F k (.inl (0, n, fil f x t))) (xix_n (show t < n by omega) (by omega)), vu_u, fil_s, nI_1]
    exact ih
theorem i_fill (d : Nat) {P k n : Nat} (hn : n ≤ 100) (x : Int32) {f : Nat → Int32} (h : F k = .inl (0, n, f)) : Ev (d + 1) 215 [.ref k, .int x] (hq' P m F E) = some (none, hq' P m (va_up F k (.inl (0, n, fil f x n))) E) := by
  have h0 := i_fill_l (F := F) (m := m) (E := E) (Ev d) (P := P) (k := k) hn x f n 0 (by omega)
  rw [fil_0, ← h, vu_self] at h0
  rw [E215]
  simp only [S215_0, S215_1, S215_2, S215_3, S215_4, S215_6, S215_7, S215_10, S215_11, S215_12, S215_13, S215_14, S215_17, S215_20, Option.bind_some, Option.map_some, xpush_s, xpush_n, xcat_0, xcat_i, xcat_r, xcat_l, xcat_n, xcat_e, xir_r, Nat.reduceAdd, Nat.reduceLeDiff, Nat.zero_le, Nat.le_refl, ↓reduceIte, hq_len h]
  exact h0
end CONS
