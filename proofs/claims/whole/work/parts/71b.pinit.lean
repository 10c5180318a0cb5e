/-! part 71b: the class's constructor (gen/cons_proof.py) -/
def b0 : Nat → Nat → Int32 := fun q i => if ((35 ≤ q ∧ q < 43 ∧ q % 2 = 1) ∨ (43 ≤ q ∧ q % 3 = 2)) ∧ i = 0 then -1 else 0
def H0 : xh := (0, 0, fun _ => xnil, fun _ => xnil)
def T0 (q : Nat) : xc := (cG d0 t0 d0 t0 d0 t0 (fun _ _ => 0) 0 (0, 0, 0, false) (-1) 0 0 (fun _ => 0) (fun _ => 0) b0 H0).2.2.1 q
theorem b0_z {q : Nat} (h : ¬ ((35 ≤ q ∧ q < 43 ∧ q % 2 = 1) ∨ (43 ≤ q ∧ q % 3 = 2))) : b0 q = fun _ => 0 := by
  funext i
  unfold b0
  rw [if_neg (fun z => h z.1)]
theorem T_1 {j : Nat} (h : j < 9) : T0 (1 + j) = rC 1 d0 t0 j := by
  unfold T0 cG ov rh
  dsimp only
  rw [if_neg (by omega), if_pos (by omega), Nat.add_sub_cancel_left]
theorem T_10 {j : Nat} (h : j < 9) : T0 (10 + j) = rC 10 d0 t0 j := by
  unfold T0 cG ov rh
  dsimp only
  rw [if_neg (by omega), if_neg (by omega), if_pos (by omega), Nat.add_sub_cancel_left]
theorem T_19 {j : Nat} (h : j < 9) : T0 (19 + j) = rC 19 d0 t0 j := by
  unfold T0 cG ov rh
  dsimp only
  rw [if_neg (by omega), if_neg (by omega), if_neg (by omega), if_pos (by omega), Nat.add_sub_cancel_left]
theorem T_bq {q : Nat} (hq : q = 0 ∨ q = 28 ∨ (32 ≤ q ∧ q < 58)) : T0 q = bQ b0 q := cG_b hq
theorem T_28 : T0 28 = .inl (0, 12, fun _ => 0) := by
  rw [T_bq (by omega)]
  show Sum.inl (0, 12, b0 28) = _
  rw [b0_z (by omega)]
theorem T_34 : T0 34 = .inl (0, 60, fun _ => 0) := by
  rw [T_bq (by omega)]
  show Sum.inl (0, 60, b0 34) = _
  rw [b0_z (by omega)]
theorem T_29 : T0 29 = .inr (.inr (3, [.ref 30, .int 0, .int 0, .int 0, .int 0, .int 0, .int (-1), .int 0, .ref 31, .int 0])) := by
  unfold T0 cG ov rh tpk tp
  dsimp only
  rw [if_neg (by omega), if_neg (by omega), if_neg (by omega), if_neg (by omega), if_pos rfl]
  rfl
theorem T_30 : T0 30 = .inl (0, 96, fun _ => 0) := by
  unfold T0 cG ov rh tpk tp
  dsimp only
  rw [if_neg (by omega), if_neg (by omega), if_neg (by omega), if_neg (by omega), if_neg (by omega), if_pos rfl]
theorem T_31 : T0 31 = .inl (0, 96, fun _ => 0) := by
  unfold T0 cG ov rh tpk tp
  dsimp only
  rw [if_neg (by omega), if_neg (by omega), if_neg (by omega), if_neg (by omega), if_neg (by omega), if_neg (by omega), if_pos rfl]
theorem T_row {q : Nat} (h : (35 ≤ q ∧ q < 43 ∧ q % 2 = 1) ∨ (43 ≤ q ∧ q < 58 ∧ q % 3 = 2)) : T0 q = .inr (.inr (1, [.int (-1), .int 0, .ref (q + 1)])) := by
  rw [T_bq (by omega)]
  have e0 : b0 q 0 = -1 := by unfold b0; rw [if_pos ⟨by omega, rfl⟩]
  have e1 : b0 q 1 = 0 := by unfold b0; rw [if_neg (by omega)]
  unfold bQ
  rw [if_neg (by omega), if_neg (by omega), if_neg (by omega), if_neg (by omega), if_neg (by omega), if_pos (by omega), e0, e1]
theorem T_slot {q : Nat} (h : 43 ≤ q ∧ q < 58 ∧ q % 3 = 1) : T0 q = .inr (.inr (2, [.int 0, .int 0, .int 0, .int 0, .int 0, .ref (q + 1)])) := by
  rw [T_bq (by omega)]
  unfold bQ
  rw [if_neg (by omega), if_neg (by omega), if_neg (by omega), if_neg (by omega), if_neg (by omega), if_neg (by omega), if_pos (by omega), b0_z (by omega)]
theorem T_arr {q : Nat} (h : (35 ≤ q ∧ q < 43 ∧ q % 2 = 0) ∨ (43 ≤ q ∧ q < 58 ∧ q % 3 = 0)) : T0 q = .inl (0, 24, fun _ => 0) := by
  rw [T_bq (by omega)]
  unfold bQ
  rw [if_neg (by omega), if_neg (by omega), if_neg (by omega), if_neg (by omega), if_neg (by omega), if_neg (by omega), if_neg (by omega), b0_z (by omega)]
def shF (u : Nat) : Nat → Option Nat := fun i => if i < u then some (35 + 2 * i) else none
def slF (u : Nat) : Nat → Option Nat := fun i => if i < u then some (43 + 3 * i) else none
theorem shF_s (u : Nat) : va_up (shF u) u (some (35 + 2 * u)) = shF (u + 1) := by
  funext i
  unfold va_up shF
  by_cases h : i = u
  · subst h
    rw [if_pos rfl, if_pos (by omega)]
  · rw [if_neg h]
    by_cases h' : i < u
    · rw [if_pos h', if_pos (by omega)]
    · rw [if_neg h', if_neg (by omega)]
theorem slF_s (u : Nat) : va_up (slF u) u (some (43 + 3 * u)) = slF (u + 1) := by
  funext i
  unfold va_up slF
  by_cases h : i = u
  · subst h
    rw [if_pos rfl, if_pos (by omega)]
  · rw [if_neg h]
    by_cases h' : i < u
    · rw [if_pos h', if_pos (by omega)]
    · rw [if_neg h', if_neg (by omega)]
theorem shF_0 : (fun _ => none) = shF 0 := by
  funext i
  unfold shF
  rw [if_neg (by omega)]
theorem slF_0 : (fun _ => none) = slF 0 := by
  funext i
  unfold slF
  rw [if_neg (by omega)]
/-- cells 0 .. k - 1 are made -/
def St (k : Nat) (fs : List Value) (u v : Nat) (F : Nat → xc) : Prop := F 0 = .inr (.inr (5, fs)) ∧ (32 < k → F 32 = .inr (.inl (1, 4, shF u))) ∧ (33 < k → F 33 = .inr (.inl (2, 5, slF v))) ∧ (∀ q, 0 < q → q < k → q ≠ 32 → q ≠ 33 → F q = T0 q) ∧ ∀ q, k ≤ q → F q = xnil
section PIN
variable {p m u v : Nat} {F E : Nat → xc} {fs : List Value}
theorem hq_wq {P k ci n j q : Nat} {f : Nat → Option Nat} {i : Int32} {gs : List Value} (h : F k = .inr (.inl (ci, n, f))) (hc : ci = 1 ∨ ci = 2 ∨ ci = 4) (hj : xix i n = some j) (ho : F q = .inr (.inr (ci, gs))) : hwq (hq' P m F E) (.ref k) i (.ref q) = some (hq' P m (va_up F k (.inr (.inl (ci, n, va_up f j (some q))))) E) := by
  unfold hwq hq'
  dsimp only
  rw [h, ho]
  unfold xarq xobj
  dsimp only
  rw [if_pos hc]
  dsimp only
  rw [hj]
  dsimp only
  rw [if_pos rfl]
  rfl
theorem p_r0 (d : Nat) (hl : fs.length = 10) (S : St 1 fs u v F) : ∃ FF, RF 55 (Ev (d + 2)) 4 [some (.ref 0), none] [] (hq' 1 m F E) = RF 55 (Ev (d + 2)) 15 [some (.ref 0), none] [] (hq' 10 (m + 16 + 72) FF E) ∧ St 10 (fs.set 0 (.ref 1)) u v FF := by
  obtain ⟨s0, s32, s33, sT, sN⟩ := S
  obtain ⟨FF, e1, a1, b1⟩ := i_riv (p := 1) (m := m + 16) (E := E) (F := va_up F 1 (.inr (.inr (0, xdv0)))) d (vu_s _ _ _)
  have e1 : Ev (d + 2) 0 [.ref 1] (hq' 2 (m + 16) (va_up F 1 (.inr (.inr (0, xdv0)))) E) = some (none, hq' 10 (m + 16 + 72) FF E) := e1
  have h0 : FF 0 = .inr (.inr (5, fs)) := by rw [b1 0 (by omega), vu_n _ _ (by omega)]; exact s0
  have hp := hq_pf (p := 10) (m := m + 16 + 72) (E := E) (j := 0) h0 (by omega) (.ref 1)
  refine ⟨va_up FF 0 (.inr (.inr (5, fs.set 0 (.ref 1)))), ?_, vu_s _ _ _, fun z => absurd z (by omega), fun z => absurd z (by omega), ?_, ?_⟩
  · simp only [S55_4, S55_5, S55_8, S55_9, S55_12, Option.bind_some, Option.map_some, xpush_s, xpush_n, xcat_0, xcat_i, xcat_r, xcat_l, xcat_n, xcat_e, xir_r, Nat.reduceAdd, Nat.reduceLeDiff, Nat.zero_le, Nat.le_refl, ↓reduceIte, hq_new, hq_1, e1, cat_r, hp]
  · intro q q1 q2 q3 q4
    rw [vu_n _ _ (by omega)]
    by_cases hq : q < 1
    · rw [b1 q (by omega), vu_n _ _ (by omega)]
      exact sT q q1 hq q3 q4
    · have z := a1 (q - 1) (by omega)
      have y := T_1 (j := q - 1) (by omega)
      rw [show 1 + (q - 1) = q by omega] at z y
      rw [z, y]
  · intro q q1
    rw [vu_n _ _ (by omega), b1 q (by omega), vu_n _ _ (by omega)]
    exact sN q (by omega)
theorem p_r1 (d : Nat) (hl : fs.length = 10) (S : St 10 fs u v F) : ∃ FF, RF 55 (Ev (d + 2)) 15 [some (.ref 0), none] [] (hq' 10 m F E) = RF 55 (Ev (d + 2)) 26 [some (.ref 0), none] [] (hq' 19 (m + 16 + 72) FF E) ∧ St 19 (fs.set 1 (.ref 10)) u v FF := by
  obtain ⟨s0, s32, s33, sT, sN⟩ := S
  obtain ⟨FF, e1, a1, b1⟩ := i_riv (p := 10) (m := m + 16) (E := E) (F := va_up F 10 (.inr (.inr (0, xdv0)))) d (vu_s _ _ _)
  have e1 : Ev (d + 2) 0 [.ref 10] (hq' 11 (m + 16) (va_up F 10 (.inr (.inr (0, xdv0)))) E) = some (none, hq' 19 (m + 16 + 72) FF E) := e1
  have h0 : FF 0 = .inr (.inr (5, fs)) := by rw [b1 0 (by omega), vu_n _ _ (by omega)]; exact s0
  have hp := hq_pf (p := 19) (m := m + 16 + 72) (E := E) (j := 1) h0 (by omega) (.ref 10)
  refine ⟨va_up FF 0 (.inr (.inr (5, fs.set 1 (.ref 10)))), ?_, vu_s _ _ _, fun z => absurd z (by omega), fun z => absurd z (by omega), ?_, ?_⟩
  · simp only [S55_15, S55_16, S55_19, S55_20, S55_23, Option.bind_some, Option.map_some, xpush_s, xpush_n, xcat_0, xcat_i, xcat_r, xcat_l, xcat_n, xcat_e, xir_r, Nat.reduceAdd, Nat.reduceLeDiff, Nat.zero_le, Nat.le_refl, ↓reduceIte, hq_new, hq_1, e1, cat_r, hp]
  · intro q q1 q2 q3 q4
    rw [vu_n _ _ (by omega)]
    by_cases hq : q < 10
    · rw [b1 q (by omega), vu_n _ _ (by omega)]
      exact sT q q1 hq q3 q4
    · have z := a1 (q - 10) (by omega)
      have y := T_10 (j := q - 10) (by omega)
      rw [show 10 + (q - 10) = q by omega] at z y
      rw [z, y]
  · intro q q1
    rw [vu_n _ _ (by omega), b1 q (by omega), vu_n _ _ (by omega)]
    exact sN q (by omega)
theorem p_r2 (d : Nat) (hl : fs.length = 10) (S : St 19 fs u v F) : ∃ FF, RF 55 (Ev (d + 2)) 26 [some (.ref 0), none] [] (hq' 19 m F E) = RF 55 (Ev (d + 2)) 37 [some (.ref 0), none] [] (hq' 28 (m + 16 + 72) FF E) ∧ St 28 (fs.set 2 (.ref 19)) u v FF := by
  obtain ⟨s0, s32, s33, sT, sN⟩ := S
  obtain ⟨FF, e1, a1, b1⟩ := i_riv (p := 19) (m := m + 16) (E := E) (F := va_up F 19 (.inr (.inr (0, xdv0)))) d (vu_s _ _ _)
  have e1 : Ev (d + 2) 0 [.ref 19] (hq' 20 (m + 16) (va_up F 19 (.inr (.inr (0, xdv0)))) E) = some (none, hq' 28 (m + 16 + 72) FF E) := e1
  have h0 : FF 0 = .inr (.inr (5, fs)) := by rw [b1 0 (by omega), vu_n _ _ (by omega)]; exact s0
  have hp := hq_pf (p := 28) (m := m + 16 + 72) (E := E) (j := 2) h0 (by omega) (.ref 19)
  refine ⟨va_up FF 0 (.inr (.inr (5, fs.set 2 (.ref 19)))), ?_, vu_s _ _ _, fun z => absurd z (by omega), fun z => absurd z (by omega), ?_, ?_⟩
  · simp only [S55_26, S55_27, S55_30, S55_31, S55_34, Option.bind_some, Option.map_some, xpush_s, xpush_n, xcat_0, xcat_i, xcat_r, xcat_l, xcat_n, xcat_e, xir_r, Nat.reduceAdd, Nat.reduceLeDiff, Nat.zero_le, Nat.le_refl, ↓reduceIte, hq_new, hq_1, e1, cat_r, hp]
  · intro q q1 q2 q3 q4
    rw [vu_n _ _ (by omega)]
    by_cases hq : q < 19
    · rw [b1 q (by omega), vu_n _ _ (by omega)]
      exact sT q q1 hq q3 q4
    · have z := a1 (q - 19) (by omega)
      have y := T_19 (j := q - 19) (by omega)
      rw [show 19 + (q - 19) = q by omega] at z y
      rw [z, y]
  · intro q q1
    rw [vu_n _ _ (by omega), b1 q (by omega), vu_n _ _ (by omega)]
    exact sN q (by omega)
theorem p_tp (d : Nat) (hl : fs.length = 10) (S : St 28 fs u v F) : ∃ FF, RF 55 (Ev (d + 2)) 37 [some (.ref 0), none] [] (hq' 28 m F E) = RF 55 (Ev (d + 2)) 61 [some (.ref 0), none] [] (hq' 32 (m + 12 + 10 + 96 + 96) FF E) ∧ St 32 (((fs.set 3 (.int 0)).set 4 (.ref 28)).set 5 (.ref 29)) u v FF := by
  obtain ⟨s0, s32, s33, sT, sN⟩ := S
  have p1 := hq_pf (p := 28) (m := m) (E := E) (j := 3) s0 (by omega) (.int 0)
  have p2 := hq_pf (p := 29) (m := m + 12) (E := E) (F := va_up (va_up F 0 (.inr (.inr (5, fs.set 3 (.int 0))))) 28 (.inl (0, 12, fun _ => 0))) (k := 0) (j := 4) (fs := fs.set 3 (.int 0)) (ci := 5) (by rw [vu_n _ _ (by omega), vu_s]) (by rw [List.length_set]; omega) (.ref 28)
  have e1 := i_tape (p := 29) (m := m + 12 + 10) (E := E) (F := va_up (va_up (va_up (va_up F 0 (.inr (.inr (5, fs.set 3 (.int 0))))) 28 (.inl (0, 12, fun _ => 0))) 0 (.inr (.inr (5, (fs.set 3 (.int 0)).set 4 (.ref 28))))) 29 (.inr (.inr (3, xdv3)))) (d + 1) (vu_s _ _ _)
  rw [vu_c _ _ _ (show 29 + 1 ≠ 29 by omega), vu_c _ _ _ (show 29 + 1 + 1 ≠ 29 by omega), vu_u] at e1
  have e1 : Ev (d + 2) 34 [.ref 29] (hq' 30 (m + 12 + 10) (va_up (va_up (va_up (va_up F 0 (.inr (.inr (5, fs.set 3 (.int 0))))) 28 (.inl (0, 12, fun _ => 0))) 0 (.inr (.inr (5, (fs.set 3 (.int 0)).set 4 (.ref 28))))) 29 (.inr (.inr (3, xdv3)))) E) = some (none, hq' 32 (m + 12 + 10 + 96 + 96) (va_up (va_up (va_up (va_up (va_up (va_up F 0 (.inr (.inr (5, fs.set 3 (.int 0))))) 28 (.inl (0, 12, fun _ => 0))) 0 (.inr (.inr (5, (fs.set 3 (.int 0)).set 4 (.ref 28))))) 30 (.inl (0, 96, fun _ => 0))) 31 (.inl (0, 96, fun _ => 0))) 29 (.inr (.inr (3, [.ref 30, .int 0, .int 0, .int 0, .int 0, .int 0, .int (-1), .int 0, .ref 31, .int 0])))) E) := e1
  have p3 := hq_pf (p := 32) (m := m + 12 + 10 + 96 + 96) (E := E) (F := va_up (va_up (va_up (va_up (va_up (va_up F 0 (.inr (.inr (5, fs.set 3 (.int 0))))) 28 (.inl (0, 12, fun _ => 0))) 0 (.inr (.inr (5, (fs.set 3 (.int 0)).set 4 (.ref 28))))) 30 (.inl (0, 96, fun _ => 0))) 31 (.inl (0, 96, fun _ => 0))) 29 (.inr (.inr (3, [.ref 30, .int 0, .int 0, .int 0, .int 0, .int 0, .int (-1), .int 0, .ref 31, .int 0])))) (k := 0) (j := 5) (fs := (fs.set 3 (.int 0)).set 4 (.ref 28)) (ci := 5) (by rw [vu_n _ _ (by omega), vu_n _ _ (by omega), vu_n _ _ (by omega), vu_s]) (by rw [List.length_set, List.length_set]; omega) (.ref 29)
  refine ⟨va_up (va_up (va_up (va_up (va_up (va_up (va_up F 0 (.inr (.inr (5, fs.set 3 (.int 0))))) 28 (.inl (0, 12, fun _ => 0))) 0 (.inr (.inr (5, (fs.set 3 (.int 0)).set 4 (.ref 28))))) 30 (.inl (0, 96, fun _ => 0))) 31 (.inl (0, 96, fun _ => 0))) 29 (.inr (.inr (3, [.ref 30, .int 0, .int 0, .int 0, .int 0, .int 0, .int (-1), .int 0, .ref 31, .int 0])))) 0 (.inr (.inr (5, ((fs.set 3 (.int 0)).set 4 (.ref 28)).set 5 (.ref 29)))), ?_, vu_s _ _ _, fun z => absurd z (by omega), fun z => absurd z (by omega), ?_, ?_⟩
  · simp only [S55_37, S55_38, S55_39, S55_42, S55_43, S55_45, S55_47, S55_50, S55_51, S55_54, S55_55, S55_58, Option.bind_some, Option.map_some, xpush_s, xpush_n, xcat_0, xcat_i, xcat_r, xcat_l, xcat_n, xcat_e, xir_r, Nat.reduceAdd, Nat.reduceLeDiff, Nat.zero_le, Nat.le_refl, ↓reduceIte, hq_new, hq_1, p1, p2, show (0 ≤ (12 : Int32).toInt ∧ (12 : Int32).toInt ≤ 100000) = True from eq_true (by decide), show (12 : Int32).toInt.toNat = 12 from rfl, e1, cat_r, p3, true_or, or_true]
  · intro q q1 q2 q3 q4
    rw [vu_n _ _ (by omega)]
    by_cases h29 : q = 29
    · subst h29
      rw [vu_s, T_29]
    · rw [vu_n _ _ h29]
      by_cases h31 : q = 31
      · subst h31
        rw [vu_s, T_31]
      · rw [vu_n _ _ h31]
        by_cases h30 : q = 30
        · subst h30
          rw [vu_s, T_30]
        · rw [vu_n _ _ h30, vu_n _ _ (by omega)]
          by_cases h28 : q = 28
          · subst h28
            rw [vu_s, T_28]
          · rw [vu_n _ _ h28, vu_n _ _ (by omega)]
            exact sT q q1 (by omega) q3 q4
  · intro q q1
    rw [vu_n _ _ (by omega), vu_n _ _ (by omega), vu_n _ _ (by omega), vu_n _ _ (by omega), vu_n _ _ (by omega), vu_n _ _ (by omega), vu_n _ _ (by omega)]
    exact sN q (by omega)
theorem p_sh (d : Nat) (hl : fs.length = 10) (S : St 32 fs u v F) : ∃ FF, RF 55 (Ev (d + 2)) 61 [some (.ref 0), none] [] (hq' 32 m F E) = RF 55 (Ev (d + 2)) 92 [some (.ref 0), some (.int (nI 0))] [] (hq' 35 (m + 4 + 5 + 60) FF E) ∧ St 35 ((((fs.set 6 (.ref 32)).set 7 (.ref 33)).set 8 (.ref 34)).set 9 (.int 0)) 0 0 FF := by
  obtain ⟨s0, s32, s33, sT, sN⟩ := S
  have e : F = va_up F 0 (.inr (.inr (5, fs))) := by rw [← s0, vu_self]
  have h1 : 32 ≠ 0 := by omega
  have h2 : 33 ≠ 0 := by omega
  have h3 : 34 ≠ 0 := by omega
  have l6 : 6 < fs.length := by omega
  have l7 : 7 < (fs.set 6 (.ref 32)).length := by rw [List.length_set]; omega
  have l8 : 8 < ((fs.set 6 (.ref 32)).set 7 (.ref 33)).length := by rw [List.length_set, List.length_set]; omega
  have l9 : 9 < (((fs.set 6 (.ref 32)).set 7 (.ref 33)).set 8 (.ref 34)).length := by rw [List.length_set, List.length_set, List.length_set]; omega
  refine ⟨va_up (va_up (va_up (va_up F 32 (.inr (.inl (1, 4, fun _ => none)))) 33 (.inr (.inl (2, 5, fun _ => none)))) 34 (.inl (0, 60, fun _ => 0))) 0 (.inr (.inr (5, (((fs.set 6 (.ref 32)).set 7 (.ref 33)).set 8 (.ref 34)).set 9 (.int 0)))), ?_, vu_s _ _ _, fun _ => ?_, fun _ => ?_, ?_, ?_⟩
  · have er : RF 55 (Ev (d + 2)) 61 [some (.ref 0), none] [] (hq' 32 m (va_up F 0 (.inr (.inr (5, fs)))) E) = RF 55 (Ev (d + 2)) 92 [some (.ref 0), some (.int 0)] [] (hq' 35 (m + 4 + 5 + 60) (va_up (va_up (va_up (va_up F 32 (.inr (.inl (1, 4, fun _ => none)))) 33 (.inr (.inl (2, 5, fun _ => none)))) 34 (.inl (0, 60, fun _ => 0))) 0 (.inr (.inr (5, (((fs.set 6 (.ref 32)).set 7 (.ref 33)).set 8 (.ref 34)).set 9 (.int 0))))) E) := by
      simp only [S55_61, S55_62, S55_63, S55_66, S55_69, S55_70, S55_71, S55_74, S55_77, S55_78, S55_80, S55_82, S55_85, S55_86, S55_87, S55_90, S55_91, Option.bind_some, Option.map_some, xpush_s, xpush_n, xcat_0, xcat_i, xcat_r, xcat_l, xcat_n, xcat_e, xir_r, Nat.reduceAdd, Nat.reduceLeDiff, Nat.zero_le, Nat.le_refl, ↓reduceIte, hq_1, hn2 h1, hn2 h2, hn2 h3, hp2 l6, hp2 l7, hp2 l8, hp2 l9, show (0 ≤ (4 : Int32).toInt ∧ (4 : Int32).toInt ≤ 100000) = True from eq_true (by decide), show (4 : Int32).toInt.toNat = 4 from rfl, show (0 ≤ (5 : Int32).toInt ∧ (5 : Int32).toInt ≤ 100000) = True from eq_true (by decide), show (5 : Int32).toInt.toNat = 5 from rfl, show (0 ≤ (60 : Int32).toInt ∧ (60 : Int32).toInt ≤ 100000) = True from eq_true (by decide), show (60 : Int32).toInt.toNat = 60 from rfl, cat_r]
    rw [← e] at er
    exact er
  · rw [vu_n _ _ (by omega), vu_n _ _ (by omega), vu_n _ _ (by omega), vu_s, shF_0]
  · rw [vu_n _ _ (by omega), vu_n _ _ (by omega), vu_s, slF_0]
  · intro q q1 q2 q3 q4
    rw [vu_n _ _ (by omega)]
    by_cases h : q = 34
    · subst h
      rw [vu_s, T_34]
    · rw [vu_n _ _ h, vu_n _ _ q4, vu_n _ _ q3]
      exact sT q q1 (by omega) q3 q4
  · intro q q1
    rw [vu_n _ _ (by omega), vu_n _ _ (by omega), vu_n _ _ (by omega), vu_n _ _ (by omega)]
    exact sN q (by omega)
theorem p_l1 (d : Nat) {i : Nat} (hi : i < 4) (g6 : fs[6]? = some (.ref 32)) (S : St (35 + 2 * i) fs i v F) : ∃ FF, RF 55 (Ev (d + 2)) 92 [some (.ref 0), some (.int (nI i))] [] (hq' (35 + 2 * i) m F E) = RF 55 (Ev (d + 2)) 92 [some (.ref 0), some (.int (nI (i + 1)))] [] (hq' (35 + 2 * (i + 1)) (m + 3 + 24) FF E) ∧ St (35 + 2 * (i + 1)) fs (i + 1) v FF := by
  obtain ⟨s0, s32, s33, sT, sN⟩ := S
  have hc : ¬ (4 : Int32) ≤ nI i := nI_ge (b := 4) hi (by decide)
  have hg : hgf (hq' (35 + 2 * i) m F E) (.ref 0) 5 6 = some (.ref 32) := (hq_gf s0).trans g6
  have e1 := i_row' (p := 35 + 2 * i) (m := m + 3) (E := E) (F := va_up F (35 + 2 * i) (.inr (.inr (1, xdv1)))) (d + 1) (vu_s _ _ _)
  rw [vu_c _ _ _ (show 35 + 2 * i + 1 ≠ 35 + 2 * i by omega), vu_u] at e1
  have e1 : Ev (d + 2) 25 [.ref (35 + 2 * i)] (hq' (35 + 2 * i + 1) (m + 3) (va_up F (35 + 2 * i) (.inr (.inr (1, xdv1)))) E) = _ := e1
  have hw := hq_wq (P := 35 + 2 * i + 1 + 1) (m := m + 3 + 24) (E := E) (F := va_up (va_up F (35 + 2 * i + 1) (.inl (0, 24, fun _ => 0))) (35 + 2 * i) (.inr (.inr (1, [.int (-1), .int 0, .ref (35 + 2 * i + 1)])))) (k := 32) (q := 35 + 2 * i) (by rw [vu_n _ _ (by omega), vu_n _ _ (by omega)]; exact s32 (by omega)) (Or.inl rfl) (xix_n (k := i) hi (by decide)) (vu_s _ _ _)
  rw [shF_s] at hw
  refine ⟨va_up (va_up (va_up F (35 + 2 * i + 1) (.inl (0, 24, fun _ => 0))) (35 + 2 * i) (.inr (.inr (1, [.int (-1), .int 0, .ref (35 + 2 * i + 1)])))) 32 (.inr (.inl (1, 4, shF (i + 1)))), ?_, ?_, fun _ => vu_s _ _ _, fun _ => ?_, ?_, ?_⟩
  · rw [show 35 + 2 * (i + 1) = 35 + 2 * i + 1 + 1 by omega, S55_92]
    simp only [S55_93, S55_94, S55_97, S55_98, S55_101, S55_102, S55_105, S55_106, S55_109, S55_110, S55_113, Option.bind_some, Option.map_some, xpush_s, xpush_n, xcat_0, xcat_i, xcat_r, xcat_l, xcat_n, xcat_e, xir_r, Nat.reduceAdd, Nat.reduceLeDiff, Nat.zero_le, Nat.le_refl, ↓reduceIte, hc, hg, hq_new, hq_1, e1, cat_r, nI_1]
    refine (congrArg (fun z => Option.bind z _) hw).trans ?_
    simp only [S55_93, S55_94, S55_97, S55_98, S55_101, S55_102, S55_105, S55_106, S55_109, S55_110, S55_113, Option.bind_some, Option.map_some, xpush_s, xpush_n, xcat_0, xcat_i, xcat_r, xcat_l, xcat_n, xcat_e, xir_r, Nat.reduceAdd, Nat.reduceLeDiff, Nat.zero_le, Nat.le_refl, ↓reduceIte, nI_1]
  · rw [vu_n _ _ (by omega), vu_n _ _ (by omega), vu_n _ _ (by omega)]
    exact s0
  · rw [vu_n _ _ (by omega), vu_n _ _ (by omega), vu_n _ _ (by omega)]
    exact s33 (by omega)
  · intro q q1 q2 q3 q4
    rw [vu_n _ _ q3]
    by_cases ha : q = 35 + 2 * i
    · subst ha
      rw [vu_s, T_row (by omega)]
    · rw [vu_n _ _ ha]
      by_cases hb : q = 35 + 2 * i + 1
      · subst hb
        rw [vu_s, T_arr (by omega)]
      · rw [vu_n _ _ hb]
        exact sT q q1 (by omega) q3 q4
  · intro q q1
    rw [vu_n _ _ (by omega), vu_n _ _ (by omega), vu_n _ _ (by omega)]
    exact sN q (by omega)
theorem p_l2 (d : Nat) {i : Nat} (hi : i < 5) (g7 : fs[7]? = some (.ref 33)) (S : St (43 + 3 * i) fs u i F) : ∃ FF, RF 55 (Ev (d + 2)) 118 [some (.ref 0), some (.int (nI i))] [] (hq' (43 + 3 * i) m F E) = RF 55 (Ev (d + 2)) 118 [some (.ref 0), some (.int (nI (i + 1)))] [] (hq' (43 + 3 * (i + 1)) (m + 6 + 3 + 24) FF E) ∧ St (43 + 3 * (i + 1)) fs u (i + 1) FF := by
  obtain ⟨s0, s32, s33, sT, sN⟩ := S
  have hc : ¬ (5 : Int32) ≤ nI i := nI_ge (b := 5) hi (by decide)
  have hg : hgf (hq' (43 + 3 * i) m F E) (.ref 0) 5 7 = some (.ref 33) := (hq_gf s0).trans g7
  have e1 := i_slot (p := 43 + 3 * i) (m := m + 6) (E := E) (F := va_up F (43 + 3 * i) (.inr (.inr (2, xdv2)))) d (vu_s _ _ _)
  rw [vu_c _ _ _ (show 43 + 3 * i + 1 + 1 ≠ 43 + 3 * i by omega), vu_c _ _ _ (show 43 + 3 * i + 1 ≠ 43 + 3 * i by omega), vu_u] at e1
  have hw := hq_wq (P := 43 + 3 * i + 1 + 1 + 1) (m := m + 6 + 3 + 24) (E := E) (F := va_up (va_up (va_up F (43 + 3 * i + 1 + 1) (.inl (0, 24, fun _ => 0))) (43 + 3 * i + 1) (.inr (.inr (1, [.int (-1), .int 0, .ref (43 + 3 * i + 1 + 1)])))) (43 + 3 * i) (.inr (.inr (2, [.int 0, .int 0, .int 0, .int 0, .int 0, .ref (43 + 3 * i + 1)])))) (k := 33) (q := 43 + 3 * i) (by rw [vu_n _ _ (by omega), vu_n _ _ (by omega), vu_n _ _ (by omega)]; exact s33 (by omega)) (Or.inr (Or.inl rfl)) (xix_n (k := i) hi (by decide)) (vu_s _ _ _)
  rw [slF_s] at hw
  refine ⟨va_up (va_up (va_up (va_up F (43 + 3 * i + 1 + 1) (.inl (0, 24, fun _ => 0))) (43 + 3 * i + 1) (.inr (.inr (1, [.int (-1), .int 0, .ref (43 + 3 * i + 1 + 1)])))) (43 + 3 * i) (.inr (.inr (2, [.int 0, .int 0, .int 0, .int 0, .int 0, .ref (43 + 3 * i + 1)])))) 33 (.inr (.inl (2, 5, slF (i + 1)))), ?_, ?_, fun _ => ?_, fun _ => vu_s _ _ _, ?_, ?_⟩
  · rw [show 43 + 3 * (i + 1) = 43 + 3 * i + 1 + 1 + 1 by omega, S55_118]
    simp only [S55_119, S55_120, S55_123, S55_124, S55_127, S55_128, S55_131, S55_132, S55_135, S55_136, S55_139, Option.bind_some, Option.map_some, xpush_s, xpush_n, xcat_0, xcat_i, xcat_r, xcat_l, xcat_n, xcat_e, xir_r, Nat.reduceAdd, Nat.reduceLeDiff, Nat.zero_le, Nat.le_refl, ↓reduceIte, hc, hg, hq_new, hq_1, e1, cat_r, nI_1]
    refine (congrArg (fun z => Option.bind z _) hw).trans ?_
    simp only [S55_119, S55_120, S55_123, S55_124, S55_127, S55_128, S55_131, S55_132, S55_135, S55_136, S55_139, Option.bind_some, Option.map_some, xpush_s, xpush_n, xcat_0, xcat_i, xcat_r, xcat_l, xcat_n, xcat_e, xir_r, Nat.reduceAdd, Nat.reduceLeDiff, Nat.zero_le, Nat.le_refl, ↓reduceIte, nI_1]
  · rw [vu_n _ _ (by omega), vu_n _ _ (by omega), vu_n _ _ (by omega), vu_n _ _ (by omega)]
    exact s0
  · rw [vu_n _ _ (by omega), vu_n _ _ (by omega), vu_n _ _ (by omega), vu_n _ _ (by omega)]
    exact s32 (by omega)
  · intro q q1 q2 q3 q4
    rw [vu_n _ _ q4]
    by_cases ha : q = 43 + 3 * i
    · subst ha
      rw [vu_s, T_slot (by omega)]
    · rw [vu_n _ _ ha]
      by_cases hb : q = 43 + 3 * i + 1
      · subst hb
        rw [vu_s, T_row (by omega)]
      · rw [vu_n _ _ hb]
        by_cases hb2 : q = 43 + 3 * i + 1 + 1
        · subst hb2
          rw [vu_s, T_arr (by omega)]
        · rw [vu_n _ _ hb2]
          exact sT q q1 (by omega) q3 q4
  · intro q q1
    rw [vu_n _ _ (by omega), vu_n _ _ (by omega), vu_n _ _ (by omega), vu_n _ _ (by omega)]
    exact sN q (by omega)
theorem p_end (d : Nat) (S : St 1 xdv5 0 0 F) : ∃ FF M, Ev (d + 3) 55 [.ref 0] (hq' 1 m F E) = some (none, hq' 58 M FF E) ∧ St 58 (bF0 b0) 4 5 FF ∧ M ≤ m + 2000 := by
  obtain ⟨F1, e1, S1⟩ := p_r0 (m := m) (E := E) d rfl S
  obtain ⟨F2, e2, S2⟩ := p_r1 (m := m + 16 + 72) (E := E) d rfl S1
  obtain ⟨F3, e3, S3⟩ := p_r2 (m := m + 16 + 72 + 16 + 72) (E := E) d rfl S2
  obtain ⟨F4, e4, S4⟩ := p_tp (m := m + 16 + 72 + 16 + 72 + 16 + 72) (E := E) d rfl S3
  obtain ⟨F5, e5, S5⟩ := p_sh (m := m + 16 + 72 + 16 + 72 + 16 + 72 + 12 + 10 + 96 + 96) (E := E) d rfl S4
  generalize hM : m + 16 + 72 + 16 + 72 + 16 + 72 + 12 + 10 + 96 + 96 + 4 + 5 + 60 = M at e5
  obtain ⟨F6, e6, S6⟩ := p_l1 (m := M) (E := E) d (i := 0) (by decide) rfl S5
  obtain ⟨F7, e7, S7⟩ := p_l1 (m := M + 3 + 24) (E := E) d (i := 1) (by decide) rfl S6
  obtain ⟨F8, e8, S8⟩ := p_l1 (m := M + 3 + 24 + 3 + 24) (E := E) d (i := 2) (by decide) rfl S7
  obtain ⟨F9, e9, S9⟩ := p_l1 (m := M + 3 + 24 + 3 + 24 + 3 + 24) (E := E) d (i := 3) (by decide) rfl S8
  generalize hM' : M + 3 + 24 + 3 + 24 + 3 + 24 + 3 + 24 = M' at e9
  obtain ⟨G0, f0, R0⟩ := p_l2 (m := M') (E := E) d (i := 0) (by decide) rfl S9
  obtain ⟨G1, f1, R1⟩ := p_l2 (m := M' + 6 + 3 + 24) (E := E) d (i := 1) (by decide) rfl R0
  obtain ⟨G2, f2, R2⟩ := p_l2 (m := M' + 6 + 3 + 24 + 6 + 3 + 24) (E := E) d (i := 2) (by decide) rfl R1
  obtain ⟨G3, f3, R3⟩ := p_l2 (m := M' + 6 + 3 + 24 + 6 + 3 + 24 + 6 + 3 + 24) (E := E) d (i := 3) (by decide) rfl R2
  obtain ⟨G4, f4, R4⟩ := p_l2 (m := M' + 6 + 3 + 24 + 6 + 3 + 24 + 6 + 3 + 24 + 6 + 3 + 24) (E := E) d (i := 4) (by decide) rfl R3
  refine ⟨G4, M' + 6 + 3 + 24 + 6 + 3 + 24 + 6 + 3 + 24 + 6 + 3 + 24 + 6 + 3 + 24, ?_, R4, by omega⟩
  have a0 : RF 55 (Ev (d + 2)) 0 [some (.ref 0), none] [] (hq' 1 m F E) = RF 55 (Ev (d + 2)) 4 [some (.ref 0), none] [] (hq' 1 m F E) := by
    simp only [S55_0, S55_1, Option.bind_some, Option.map_some, xpush_s, xpush_n, xcat_0, xcat_i, xcat_r, xcat_l, xcat_n, xcat_e, xir_r, Nat.reduceAdd, Nat.reduceLeDiff, Nat.zero_le, Nat.le_refl, ↓reduceIte]
  have a1 : RF 55 (Ev (d + 2)) 92 [some (.ref 0), some (.int (nI 4))] [] (hq' 43 M' F9 E) = RF 55 (Ev (d + 2)) 118 [some (.ref 0), some (.int (nI 0))] [] (hq' 43 M' F9 E) := by
    simp only [S55_92, S55_93, S55_94, S55_116, S55_117, Option.bind_some, Option.map_some, xpush_s, xpush_n, xcat_0, xcat_i, xcat_r, xcat_l, xcat_n, xcat_e, xir_r, Nat.reduceAdd, Nat.reduceLeDiff, Nat.zero_le, Nat.le_refl, ↓reduceIte, show ((4 : Int32) ≤ nI 4) = True from eq_true (by decide)]
    rfl
  have a2 : RF 55 (Ev (d + 2)) 118 [some (.ref 0), some (.int (nI 5))] [] (hq' 58 (M' + 6 + 3 + 24 + 6 + 3 + 24 + 6 + 3 + 24 + 6 + 3 + 24 + 6 + 3 + 24) G4 E) = some (none, hq' 58 (M' + 6 + 3 + 24 + 6 + 3 + 24 + 6 + 3 + 24 + 6 + 3 + 24 + 6 + 3 + 24) G4 E) := by
    simp only [S55_118, S55_119, S55_120, S55_142, Option.bind_some, Option.map_some, xpush_s, xpush_n, xcat_0, xcat_i, xcat_r, xcat_l, xcat_n, xcat_e, xir_r, Nat.reduceAdd, Nat.reduceLeDiff, Nat.zero_le, Nat.le_refl, ↓reduceIte, show ((5 : Int32) ≤ nI 5) = True from eq_true (by decide)]
  refine (E55 (d + 2) 0 _).trans ?_
  exact a0.trans (e1.trans (e2.trans (e3.trans (e4.trans (e5.trans (e6.trans (e7.trans (e8.trans (e9.trans (a1.trans (f0.trans (f1.trans (f2.trans (f3.trans (f4.trans a2)))))))))))))))
end PIN
