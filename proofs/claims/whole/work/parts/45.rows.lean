/-! part 45: the class's other cells -/
def isRw (q : Nat) : Prop := (35 ≤ q ∧ q < 43 ∧ q % 2 = 1) ∨ (43 ≤ q ∧ q < 58 ∧ q % 3 = 2)
def isSl (q : Nat) : Prop := 43 ≤ q ∧ q < 58 ∧ q % 3 = 1
section ROWS
variable {δ ε ζ : Nat → Int32} {τ1 τ2 τ3 : xt} {κ : Nat → Nat → Int32} {n : Nat} {l : lk} {ke op sz : Int32} {B S : Nat → Int32} {b : Nat → Nat → Int32} {H : xh} {q q' : Nat}
theorem bQ_rw (hq : isRw q) : bQ b q = .inr (.inr (1, [.int (b q 0), .int (b q 1), .ref (q + 1)])) := by
  unfold isRw at hq
  unfold bQ
  rw [if_neg (by omega), if_neg (by omega), if_neg (by omega), if_neg (by omega), if_neg (by omega), if_pos (by omega)]
theorem bQ_rc (hq : isRw q) : bQ b (q + 1) = .inl (0, 24, b (q + 1)) := by
  unfold isRw at hq
  unfold bQ
  rw [if_neg (by omega), if_neg (by omega), if_neg (by omega), if_neg (by omega), if_neg (by omega), if_neg (by omega), if_neg (by omega)]
theorem bQ_sl (hq : isSl q) : bQ b q = .inr (.inr (2, [.int (b q 0), .int (b q 1), .int (b q 2), .int (b q 3), .int (b q 4), .ref (q + 1)])) := by
  unfold isSl at hq
  unfold bQ
  rw [if_neg (by omega), if_neg (by omega), if_neg (by omega), if_neg (by omega), if_neg (by omega), if_neg (by omega), if_pos (by omega)]
theorem rw_b (hq : isRw q) : (q = 0 ∨ q = 28 ∨ (32 ≤ q ∧ q < 58)) ∧ (q + 1 = 0 ∨ q + 1 = 28 ∨ (32 ≤ q + 1 ∧ q + 1 < 58)) := by unfold isRw at hq; omega
theorem sl_b (hq : isSl q) : q = 0 ∨ q = 28 ∨ (32 ≤ q ∧ q < 58) := by unfold isSl at hq; omega
theorem W_c (hq : isRw q) : (cG δ τ1 ε τ2 ζ τ3 κ n l ke op sz B S b H).2.2.1 q = .inr (.inr (1, [.int (b q 0), .int (b q 1), .ref (q + 1)])) := by rw [cG_b (rw_b hq).1, bQ_rw hq]
theorem W_d (hq : isRw q) : (cG δ τ1 ε τ2 ζ τ3 κ n l ke op sz B S b H).2.2.1 (q + 1) = .inl (0, 24, b (q + 1)) := by rw [cG_b (rw_b hq).2, bQ_rc hq]
theorem W_cls (hq : isRw q) : (xcls (cG δ τ1 ε τ2 ζ τ3 κ n l ke op sz B S b H) (.ref q) = 1) = True := eq_true (by
  unfold xcls hget
  dsimp only
  rw [W_c hq])
theorem W_g (hq : isRw q) (j : Nat) : hgf (cG δ τ1 ε τ2 ζ τ3 κ n l ke op sz B S b H) (.ref q) 1 j = ([.int (b q 0), .int (b q 1), .ref (q + 1)] : List Value)[j]? := by
  unfold hgf hget
  dsimp only
  rw [W_c hq]
  rfl
theorem W_g0 (hq : isRw q) : hgf (cG δ τ1 ε τ2 ζ τ3 κ n l ke op sz B S b H) (.ref q) 1 0 = some (.int (b q 0)) := W_g hq 0
theorem W_g1 (hq : isRw q) : hgf (cG δ τ1 ε τ2 ζ τ3 κ n l ke op sz B S b H) (.ref q) 1 1 = some (.int (b q 1)) := W_g hq 1
theorem W_g2 (hq : isRw q) : hgf (cG δ τ1 ε τ2 ζ τ3 κ n l ke op sz B S b H) (.ref q) 1 2 = some (.ref (q + 1)) := W_g hq 2
theorem W_p0 (hq : isRw q) (x : Int32) : hpf (cG δ τ1 ε τ2 ζ τ3 κ n l ke op sz B S b H) (.ref q) 1 0 (.int x) = some (cG δ τ1 ε τ2 ζ τ3 κ n l ke op sz B S (va_up b q (upd (b q) 0 x)) H) := by
  rw [← cG_set (rw_b hq).1, bQ_rw hq]
  unfold hpf
  dsimp only
  rw [W_c hq, vu_s]
  rfl
theorem W_p1 (hq : isRw q) (x : Int32) : hpf (cG δ τ1 ε τ2 ζ τ3 κ n l ke op sz B S b H) (.ref q) 1 1 (.int x) = some (cG δ τ1 ε τ2 ζ τ3 κ n l ke op sz B S (va_up b q (upd (b q) 1 x)) H) := by
  rw [← cG_set (rw_b hq).1, bQ_rw hq]
  unfold hpf
  dsimp only
  rw [W_c hq, vu_s]
  rfl
theorem W_r (hq : isRw q) (i : Int32) : hrd (cG δ τ1 ε τ2 ζ τ3 κ n l ke op sz B S b H) (.ref (q + 1)) 0 i = (xix i 24).map (b (q + 1)) := by
  unfold hrd hget
  dsimp only
  rw [W_d hq]
  show (match xix i 24 with | some j => some (b (q + 1) j) | none => none) = _
  cases xix i 24 <;> rfl
theorem W_w (hq : isRw q) (i x : Int32) : hwr (cG δ τ1 ε τ2 ζ τ3 κ n l ke op sz B S b H) (.ref (q + 1)) 0 i x = (xix i 24).map (fun t => cG δ τ1 ε τ2 ζ τ3 κ n l ke op sz B S (va_up b (q + 1) (upd (b (q + 1)) t x)) H) := by
  unfold hwr
  dsimp only
  rw [W_d hq]
  show (match xix i 24 with | some j => some (hset (cG δ τ1 ε τ2 ζ τ3 κ n l ke op sz B S b H) (q + 1) (.inl (0, 24, upd (b (q + 1)) j x))) | none => none) = _
  cases xix i 24 with
  | none => rfl
  | some j =>
    refine congrArg some ?_
    dsimp only
    rw [← cG_set (rw_b hq).2, bQ_rc hq, vu_s]
theorem W_len (hq : isRw q) : xalen (cG δ τ1 ε τ2 ζ τ3 κ n l ke op sz B S b H) (.ref (q + 1)) = some 24 := by
  unfold xalen hget
  dsimp only
  rw [W_d hq]
  rfl
theorem W_cp (hq : isRw q) (hq' : isRw q') {sp dp m : Nat} (h1 : sp + m ≤ 24) (h2 : dp + m ≤ 24) : hcp (cG δ τ1 ε τ2 ζ τ3 κ n l ke op sz B S b H) (.ref (q' + 1)) (nI sp) (.ref (q + 1)) (nI dp) (nI m) = some (cG δ τ1 ε τ2 ζ τ3 κ n l ke op sz B S (va_up b (q + 1) (va_cpy (b (q' + 1)) (b (q + 1)) sp dp m)) H) := by
  unfold hcp
  dsimp only
  rw [W_d hq, W_d hq']
  show (if 0 ≤ (nI sp).toInt ∧ 0 ≤ (nI dp).toInt ∧ 0 ≤ (nI m).toInt ∧ (nI sp).toInt + (nI m).toInt ≤ ((24 : Nat) : Int) ∧ (nI dp).toInt + (nI m).toInt ≤ ((24 : Nat) : Int) then some (hset (cG δ τ1 ε τ2 ζ τ3 κ n l ke op sz B S b H) (q + 1) (.inl (0, 24, va_cpy (b (q' + 1)) (b (q + 1)) (nI sp).toInt.toNat (nI dp).toInt.toNat (nI m).toInt.toNat))) else none) = _
  rw [nI_toInt (by omega), nI_toInt (by omega), nI_toInt (by omega), if_pos (by omega), Int.toNat_natCast, Int.toNat_natCast, Int.toNat_natCast]
  refine congrArg some ?_
  rw [← cG_set (rw_b hq).2, bQ_rc hq, vu_s]
theorem L_c (hq : isSl q) : (cG δ τ1 ε τ2 ζ τ3 κ n l ke op sz B S b H).2.2.1 q = .inr (.inr (2, [.int (b q 0), .int (b q 1), .int (b q 2), .int (b q 3), .int (b q 4), .ref (q + 1)])) := by rw [cG_b (sl_b hq), bQ_sl hq]
theorem L_cls (hq : isSl q) : (xcls (cG δ τ1 ε τ2 ζ τ3 κ n l ke op sz B S b H) (.ref q) = 2) = True := eq_true (by
  unfold xcls hget
  dsimp only
  rw [L_c hq])
theorem L_g (hq : isSl q) (j : Nat) : hgf (cG δ τ1 ε τ2 ζ τ3 κ n l ke op sz B S b H) (.ref q) 2 j = ([.int (b q 0), .int (b q 1), .int (b q 2), .int (b q 3), .int (b q 4), .ref (q + 1)] : List Value)[j]? := by
  unfold hgf hget
  dsimp only
  rw [L_c hq]
  rfl
theorem L_g0 (hq : isSl q) : hgf (cG δ τ1 ε τ2 ζ τ3 κ n l ke op sz B S b H) (.ref q) 2 0 = some (.int (b q 0)) := L_g hq 0
theorem L_g1 (hq : isSl q) : hgf (cG δ τ1 ε τ2 ζ τ3 κ n l ke op sz B S b H) (.ref q) 2 1 = some (.int (b q 1)) := L_g hq 1
theorem L_g2 (hq : isSl q) : hgf (cG δ τ1 ε τ2 ζ τ3 κ n l ke op sz B S b H) (.ref q) 2 2 = some (.int (b q 2)) := L_g hq 2
theorem L_g3 (hq : isSl q) : hgf (cG δ τ1 ε τ2 ζ τ3 κ n l ke op sz B S b H) (.ref q) 2 3 = some (.int (b q 3)) := L_g hq 3
theorem L_g4 (hq : isSl q) : hgf (cG δ τ1 ε τ2 ζ τ3 κ n l ke op sz B S b H) (.ref q) 2 4 = some (.int (b q 4)) := L_g hq 4
theorem L_g5 (hq : isSl q) : hgf (cG δ τ1 ε τ2 ζ τ3 κ n l ke op sz B S b H) (.ref q) 2 5 = some (.ref (q + 1)) := L_g hq 5
theorem L_p0 (hq : isSl q) (x : Int32) : hpf (cG δ τ1 ε τ2 ζ τ3 κ n l ke op sz B S b H) (.ref q) 2 0 (.int x) = some (cG δ τ1 ε τ2 ζ τ3 κ n l ke op sz B S (va_up b q (upd (b q) 0 x)) H) := by
  rw [← cG_set (sl_b hq), bQ_sl hq]
  unfold hpf
  dsimp only
  rw [L_c hq, vu_s]
  rfl
theorem L_p1 (hq : isSl q) (x : Int32) : hpf (cG δ τ1 ε τ2 ζ τ3 κ n l ke op sz B S b H) (.ref q) 2 1 (.int x) = some (cG δ τ1 ε τ2 ζ τ3 κ n l ke op sz B S (va_up b q (upd (b q) 1 x)) H) := by
  rw [← cG_set (sl_b hq), bQ_sl hq]
  unfold hpf
  dsimp only
  rw [L_c hq, vu_s]
  rfl
theorem L_p2 (hq : isSl q) (x : Int32) : hpf (cG δ τ1 ε τ2 ζ τ3 κ n l ke op sz B S b H) (.ref q) 2 2 (.int x) = some (cG δ τ1 ε τ2 ζ τ3 κ n l ke op sz B S (va_up b q (upd (b q) 2 x)) H) := by
  rw [← cG_set (sl_b hq), bQ_sl hq]
  unfold hpf
  dsimp only
  rw [L_c hq, vu_s]
  rfl
theorem L_p3 (hq : isSl q) (x : Int32) : hpf (cG δ τ1 ε τ2 ζ τ3 κ n l ke op sz B S b H) (.ref q) 2 3 (.int x) = some (cG δ τ1 ε τ2 ζ τ3 κ n l ke op sz B S (va_up b q (upd (b q) 3 x)) H) := by
  rw [← cG_set (sl_b hq), bQ_sl hq]
  unfold hpf
  dsimp only
  rw [L_c hq, vu_s]
  rfl
theorem L_p4 (hq : isSl q) (x : Int32) : hpf (cG δ τ1 ε τ2 ζ τ3 κ n l ke op sz B S b H) (.ref q) 2 4 (.int x) = some (cG δ τ1 ε τ2 ζ τ3 κ n l ke op sz B S (va_up b q (upd (b q) 4 x)) H) := by
  rw [← cG_set (sl_b hq), bQ_sl hq]
  unfold hpf
  dsimp only
  rw [L_c hq, vu_s]
  rfl
theorem C_0 : hgf (cG δ τ1 ε τ2 ζ τ3 κ n l ke op sz B S b H) (.ref 0) 5 0 = some (.ref 1) := (rfl)
theorem C_1 : hgf (cG δ τ1 ε τ2 ζ τ3 κ n l ke op sz B S b H) (.ref 0) 5 1 = some (.ref 10) := (rfl)
theorem C_2 : hgf (cG δ τ1 ε τ2 ζ τ3 κ n l ke op sz B S b H) (.ref 0) 5 2 = some (.ref 19) := (rfl)
theorem C_3 : hgf (cG δ τ1 ε τ2 ζ τ3 κ n l ke op sz B S b H) (.ref 0) 5 3 = some (.int (b 0 3)) := (rfl)
theorem C_4 : hgf (cG δ τ1 ε τ2 ζ τ3 κ n l ke op sz B S b H) (.ref 0) 5 4 = some (.ref 28) := (rfl)
theorem C_5 : hgf (cG δ τ1 ε τ2 ζ τ3 κ n l ke op sz B S b H) (.ref 0) 5 5 = some (.ref 29) := (rfl)
theorem C_6 : hgf (cG δ τ1 ε τ2 ζ τ3 κ n l ke op sz B S b H) (.ref 0) 5 6 = some (.ref 32) := (rfl)
theorem C_7 : hgf (cG δ τ1 ε τ2 ζ τ3 κ n l ke op sz B S b H) (.ref 0) 5 7 = some (.ref 33) := (rfl)
theorem C_8 : hgf (cG δ τ1 ε τ2 ζ τ3 κ n l ke op sz B S b H) (.ref 0) 5 8 = some (.ref 34) := (rfl)
theorem C_9 : hgf (cG δ τ1 ε τ2 ζ τ3 κ n l ke op sz B S b H) (.ref 0) 5 9 = some (.int (b 0 9)) := (rfl)
theorem C_cls : (xcls (cG δ τ1 ε τ2 ζ τ3 κ n l ke op sz B S b H) (.ref 0) = 5) = True := eq_true rfl
theorem C_p3 (x : Int32) : hpf (cG δ τ1 ε τ2 ζ τ3 κ n l ke op sz B S b H) (.ref 0) 5 3 (.int x) = some (cG δ τ1 ε τ2 ζ τ3 κ n l ke op sz B S (va_up b 0 (upd (b 0) 3 x)) H) := by
  rw [← cG_set (Or.inl rfl)]
  rfl
theorem C_p9 (x : Int32) : hpf (cG δ τ1 ε τ2 ζ τ3 κ n l ke op sz B S b H) (.ref 0) 5 9 (.int x) = some (cG δ τ1 ε τ2 ζ τ3 κ n l ke op sz B S (va_up b 0 (upd (b 0) 9 x)) H) := by
  rw [← cG_set (Or.inl rfl)]
  rfl
theorem C_r28 (i : Int32) : hrd (cG δ τ1 ε τ2 ζ τ3 κ n l ke op sz B S b H) (.ref 28) 0 i = (xix i 12).map (b 28) := by
  show (match xix i 12 with | some j => some (b 28 j) | none => none) = _
  cases xix i 12 <;> rfl
theorem C_w28 (i x : Int32) : hwr (cG δ τ1 ε τ2 ζ τ3 κ n l ke op sz B S b H) (.ref 28) 0 i x = (xix i 12).map (fun t => cG δ τ1 ε τ2 ζ τ3 κ n l ke op sz B S (va_up b 28 (upd (b 28) t x)) H) := by
  show (match xix i 12 with | some j => some (hset (cG δ τ1 ε τ2 ζ τ3 κ n l ke op sz B S b H) 28 (.inl (0, 12, upd (b 28) j x))) | none => none) = _
  cases xix i 12 with
  | none => rfl
  | some j =>
    refine congrArg some ?_
    dsimp only
    rw [← cG_set (Or.inr (Or.inl rfl))]
    rfl
theorem C_len28 : xalen (cG δ τ1 ε τ2 ζ τ3 κ n l ke op sz B S b H) (.ref 28) = some 12 := (rfl)
theorem C_r34 (i : Int32) : hrd (cG δ τ1 ε τ2 ζ τ3 κ n l ke op sz B S b H) (.ref 34) 0 i = (xix i 60).map (b 34) := by
  show (match xix i 60 with | some j => some (b 34 j) | none => none) = _
  cases xix i 60 <;> rfl
theorem C_w34 (i x : Int32) : hwr (cG δ τ1 ε τ2 ζ τ3 κ n l ke op sz B S b H) (.ref 34) 0 i x = (xix i 60).map (fun t => cG δ τ1 ε τ2 ζ τ3 κ n l ke op sz B S (va_up b 34 (upd (b 34) t x)) H) := by
  show (match xix i 60 with | some j => some (hset (cG δ τ1 ε τ2 ζ τ3 κ n l ke op sz B S b H) 34 (.inl (0, 60, upd (b 34) j x))) | none => none) = _
  cases xix i 60 with
  | none => rfl
  | some j =>
    refine congrArg some ?_
    dsimp only
    rw [← cG_set (q := 34) (Or.inr (Or.inr (by decide)))]
    rfl
theorem C_q32 {i : Nat} (hi : i < 4) : hrq (cG δ τ1 ε τ2 ζ τ3 κ n l ke op sz B S b H) (.ref 32) (nI i) = some (.ref (35 + 2 * i)) := by
  show (match xix (nI i) 4 with | some j => some (va_rf (if j < 4 then some (35 + 2 * j) else none)) | none => none) = _
  rw [xix_n hi (by decide)]
  show some (va_rf (if i < 4 then some (35 + 2 * i) else none)) = _
  rw [if_pos hi]
  rfl
theorem C_q33 {i : Nat} (hi : i < 5) : hrq (cG δ τ1 ε τ2 ζ τ3 κ n l ke op sz B S b H) (.ref 33) (nI i) = some (.ref (43 + 3 * i)) := by
  show (match xix (nI i) 5 with | some j => some (va_rf (if j < 5 then some (43 + 3 * j) else none)) | none => none) = _
  rw [xix_n hi (by decide)]
  show some (va_rf (if i < 5 then some (43 + 3 * i) else none)) = _
  rw [if_pos hi]
  rfl
theorem rw_s {i : Nat} (hi : i < 4) : isRw (35 + 2 * i) := by unfold isRw; omega
theorem rw_l {i : Nat} (hi : i < 5) : isRw (43 + 3 * i + 1) := by unfold isRw; omega
theorem sl_i {i : Nat} (hi : i < 5) : isSl (43 + 3 * i) := by unfold isSl; omega
/-- Row's methods -/
theorem w_miss (d : Nat) (hq : isRw q) : Ev (d + 1) 26 [.ref q] (cG δ τ1 ε τ2 ζ τ3 κ n l ke op sz B S b H) = some (some (.int (bi (b q 0 = -1))), cG δ τ1 ε τ2 ζ τ3 κ n l ke op sz B S b H) := by
  rw [E26]
  by_cases h : b q 0 = -1
  · rw [bi_t h]
    simp only [S26_0, S26_1, S26_4, S26_5, S26_8, S26_9, S26_12, S26_13, Option.bind_some, Option.map_some, xpush_s, xpush_n, xcat_0, xcat_i, xcat_r, xcat_l, xcat_n, xcat_e, xir_r, Nat.reduceAdd, Nat.reduceLeDiff, Nat.zero_le, Nat.le_refl, ↓reduceIte, W_g0 hq, if_pos h, nar_1]
  · rw [bi_f h]
    simp only [S26_0, S26_1, S26_4, S26_5, S26_8, S26_9, S26_12, S26_13, Option.bind_some, Option.map_some, xpush_s, xpush_n, xcat_0, xcat_i, xcat_r, xcat_l, xcat_n, xcat_e, xir_r, Nat.reduceAdd, Nat.reduceLeDiff, Nat.zero_le, Nat.le_refl, ↓reduceIte, W_g0 hq, if_neg h, nar_0]
theorem w_lacks (d : Nat) (hq : isRw q) (i : Int32) : Ev (d + 2) 28 [.ref q, .int i] (cG δ τ1 ε τ2 ζ τ3 κ n l ke op sz B S b H) = some (some (.int (bi (i < 0 ∨ b q 1 - 1 < i))), cG δ τ1 ε τ2 ζ τ3 κ n l ke op sz B S b H) := by
  rw [E28]
  simp only [S28_0, S28_1, S28_2, S28_3, S28_6, S28_7, S28_8, S28_11, Option.bind_some, Option.map_some, xpush_s, xpush_n, xcat_0, xcat_i, xcat_r, xcat_l, xcat_n, xcat_e, xir_r, Nat.reduceAdd, Nat.reduceLeDiff, Nat.zero_le, Nat.le_refl, ↓reduceIte, W_g1 hq, s_outside, bi_nar]
theorem w_has (d : Nat) (hq : isRw q) {i : Nat} (hi : i < 24) (hl : bi (nI i < 0 ∨ b q 1 - 1 < nI i) = 0) : Ev (d + 3) 27 [.ref q, .int (nI i)] (cG δ τ1 ε τ2 ζ τ3 κ n l ke op sz B S b H) = some (some (.int (bi (¬ b (q + 1) i = -1000000005))), cG δ τ1 ε τ2 ζ τ3 κ n l ke op sz B S b H) := by
  rw [E27]
  by_cases h : b (q + 1) i = -1000000005
  · rw [bi_f (fun z => z h)]
    simp only [S27_0, S27_1, S27_2, S27_5, S27_8, S27_9, S27_12, S27_13, S27_14, S27_16, S27_19, S27_20, S27_23, S27_24, Option.bind_some, Option.map_some, xpush_s, xpush_n, xcat_0, xcat_i, xcat_r, xcat_l, xcat_n, xcat_e, xir_r, Nat.reduceAdd, Nat.reduceLeDiff, Nat.zero_le, Nat.le_refl, ↓reduceIte, W_cls hq, w_lacks _ hq, hl, W_g2 hq, W_r hq, xix_n hi (show 24 ≤ 100000 by decide), if_pos h, nar_0]
  · rw [bi_t h]
    simp only [S27_0, S27_1, S27_2, S27_5, S27_8, S27_9, S27_12, S27_13, S27_14, S27_16, S27_19, S27_20, S27_23, S27_24, Option.bind_some, Option.map_some, xpush_s, xpush_n, xcat_0, xcat_i, xcat_r, xcat_l, xcat_n, xcat_e, xir_r, Nat.reduceAdd, Nat.reduceLeDiff, Nat.zero_le, Nat.le_refl, ↓reduceIte, W_cls hq, w_lacks _ hq, hl, W_g2 hq, W_r hq, xix_n hi (show 24 ≤ 100000 by decide), if_neg h, nar_1]
/-- a row of numbers all alike -/
def fil (f : Nat → Int32) (x : Int32) (k : Nat) : Nat → Int32 := fun j => if j < k then x else f j
theorem fil_0 (f : Nat → Int32) (x : Int32) : fil f x 0 = f := by
  funext j
  unfold fil
  rw [if_neg (by omega)]
theorem fil_s (f : Nat → Int32) (x : Int32) (k : Nat) : upd (fil f x k) k x = fil f x (k + 1) := by
  funext j
  unfold upd fil
  by_cases h : j = k
  · rw [if_pos h, if_pos (by omega)]
  · rw [if_neg h]
    by_cases h2 : j < k
    · rw [if_pos h2, if_pos (by omega)]
    · rw [if_neg h2, if_neg (by omega)]
theorem w_fill_l (ev : xe) (hq : isRw q) (x : Int32) : ∀ j k, k + j = 24 → ∀ b : Nat → Nat → Int32, RF 215 ev 5 [some (.ref (q + 1)), some (.int x), some (.int (nI k)), some (.int (nI 24))] [] (cG δ τ1 ε τ2 ζ τ3 κ n l ke op sz B S (va_up b (q + 1) (fil (b (q + 1)) x k)) H) = some (none, cG δ τ1 ε τ2 ζ τ3 κ n l ke op sz B S (va_up b (q + 1) (fil (b (q + 1)) x 24)) H)
  | 0, k, e, b => by
    have e' : k = 24 := by omega
    subst e'
    rw [S215_5]
    simp only [S215_0, S215_1, S215_2, S215_3, S215_4, S215_6, S215_7, S215_10, S215_11, S215_12, S215_13, S215_14, S215_17, S215_20, Option.bind_some, Option.map_some, xpush_s, xpush_n, xcat_0, xcat_i, xcat_r, xcat_l, xcat_n, xcat_e, xir_r, Nat.reduceAdd, Nat.reduceLeDiff, Nat.zero_le, Nat.le_refl, ↓reduceIte, show (nI 24 ≤ nI 24) = True from eq_true (Int32.le_refl _)]
  | j + 1, k, e, b => by
    have hc : ¬ nI 24 ≤ nI k := nI_ge (by omega) (by decide)
    have ih := w_fill_l ev hq x j (k + 1) (by omega) b
    rw [S215_5]
    simp only [S215_0, S215_1, S215_2, S215_3, S215_4, S215_6, S215_7, S215_10, S215_11, S215_12, S215_13, S215_14, S215_17, S215_20, Option.bind_some, Option.map_some, xpush_s, xpush_n, xcat_0, xcat_i, xcat_r, xcat_l, xcat_n, xcat_e, xir_r, Nat.reduceAdd, Nat.reduceLeDiff, Nat.zero_le, Nat.le_refl, ↓reduceIte, hc, W_w hq, xix_n (show k < 24 by omega) (show 24 ≤ 100000 by decide), vu_s, vu_u, fil_s, nI_1]
    exact ih
theorem w_fill (d : Nat) (hq : isRw q) (x : Int32) : Ev (d + 1) 215 [.ref (q + 1), .int x] (cG δ τ1 ε τ2 ζ τ3 κ n l ke op sz B S b H) = some (none, cG δ τ1 ε τ2 ζ τ3 κ n l ke op sz B S (va_up b (q + 1) (fil (b (q + 1)) x 24)) H) := by
  rw [E215]
  have h0 := w_fill_l (δ := δ) (τ1 := τ1) (ε := ε) (τ2 := τ2) (ζ := ζ) (τ3 := τ3) (κ := κ) (n := n) (l := l) (ke := ke) (op := op) (sz := sz) (B := B) (S := S) (H := H) (Ev d) hq x 24 0 rfl b
  rw [fil_0, vu_self] at h0
  simp only [S215_0, S215_1, S215_2, S215_3, S215_4, S215_6, S215_7, S215_10, S215_11, S215_12, S215_13, S215_14, S215_17, S215_20, Option.bind_some, Option.map_some, xpush_s, xpush_n, xcat_0, xcat_i, xcat_r, xcat_l, xcat_n, xcat_e, xir_r, Nat.reduceAdd, Nat.reduceLeDiff, Nat.zero_le, Nat.le_refl, ↓reduceIte, W_len hq]
  exact h0
theorem w_clear (d : Nat) (hq : isRw q) (x y : Int32) : Ev (d + 2) 29 [.ref q, .int x, .int y] (cG δ τ1 ε τ2 ζ τ3 κ n l ke op sz B S b H) = some (none, cG δ τ1 ε τ2 ζ τ3 κ n l ke op sz B S (va_up (va_up b q (upd (upd (b q) 0 x) 1 y)) (q + 1) (fil (b (q + 1)) 0 24)) H) := by
  rw [E29]
  simp only [S29_0, S29_1, S29_2, S29_5, S29_6, S29_7, S29_10, S29_11, S29_14, S29_15, S29_18, Option.bind_some, Option.map_some, xpush_s, xpush_n, xcat_0, xcat_i, xcat_r, xcat_l, xcat_n, xcat_e, xir_r, Nat.reduceAdd, Nat.reduceLeDiff, Nat.zero_le, Nat.le_refl, ↓reduceIte, W_p0 hq, W_p1 hq, W_g2 hq, w_fill _ hq, vu_s, vu_u, vu_n _ _ (show q + 1 ≠ q by omega)]
theorem w_become (d : Nat) (hq : isRw q) (hq' : isRw q') (hd : q ≠ q') (hd2 : q + 1 ≠ q') (hd3 : q' + 1 ≠ q) : Ev (d + 2) 31 [.ref q, .ref q'] (cG δ τ1 ε τ2 ζ τ3 κ n l ke op sz B S b H) = some (none, cG δ τ1 ε τ2 ζ τ3 κ n l ke op sz B S (va_up (va_up b q (upd (upd (b q) 0 (b q' 0)) 1 (b q' 1))) (q + 1) (va_cpy (b (q' + 1)) (b (q + 1)) 0 0 24)) H) := by
  rw [E31]
  have hcp := fun b => W_cp (δ := δ) (τ1 := τ1) (ε := ε) (τ2 := τ2) (ζ := ζ) (τ3 := τ3) (κ := κ) (n := n) (l := l) (ke := ke) (op := op) (sz := sz) (B := B) (S := S) (b := b) (H := H) hq hq' (sp := 0) (dp := 0) (m := 24) (by decide) (by decide)
  rw [show nI 0 = 0 from rfl, show nI 24 = 24 from rfl] at hcp
  simp only [S31_0, S31_1, S31_2, S31_5, S31_8, S31_9, S31_10, S31_13, S31_16, S31_17, S31_20, S31_21, S31_22, S31_25, S31_26, S31_28, S31_31, Option.bind_some, Option.map_some, xpush_s, xpush_n, xcat_0, xcat_i, xcat_r, xcat_l, xcat_n, xcat_e, xir_r, Nat.reduceAdd, Nat.reduceLeDiff, Nat.zero_le, Nat.le_refl, ↓reduceIte, W_g0 hq', W_g1 hq', W_g2 hq', W_g2 hq, W_p0 hq, W_p1 hq, hcp, vu_s, vu_u, vu_n _ _ (show q' ≠ q from hd.symm), vu_n _ _ (show q' + 1 ≠ q from hd3), vu_n _ _ (show q + 1 ≠ q by omega)]
end ROWS
