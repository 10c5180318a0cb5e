/-! part 15: small methods -/
theorem xpush_s (v : Value) (st : List Value) : xpush (some v) st = v :: st := (rfl)
theorem xpush_n (st : List Value) : xpush none st = st := (rfl)
theorem xcat_0 : xcat [] = 0 := (rfl)
theorem xcat_i (x : Int32) (st : List Value) : xcat (.int x :: st) = 1 + xcat st := (rfl)
theorem xcat_r (x : Nat) (st : List Value) : xcat (.ref x :: st) = 1 + xcat st := (rfl)
theorem xcat_e (x : Nat) (st : List Value) : xcat (.retAddr x :: st) = 1 + xcat st := (rfl)
theorem xcat_n (st : List Value) : xcat (.null :: st) = 1 + xcat st := (rfl)
theorem xcat_l (x : Int64) (st : List Value) : xcat (.long x :: st) = 2 + xcat st := (rfl)
theorem xir_r (a : Nat) : (xir (.ref a) = true) = True := eq_true rfl
theorem xir_e (a : Nat) : (xir (.retAddr a) = true) = True := eq_true rfl
theorem xir_n : (xir .null = true) = True := eq_true rfl
theorem cat_i (x : Int32) : (Value.int x).category = 1 := rfl
theorem cat_r (x : Nat) : (Value.ref x).category = 1 := rfl
theorem nar_1 : (narrow .boolean (.int 1) = .int 1) = True := eq_true rfl
theorem nar_0 : (narrow .boolean (.int 0) = .int 0) = True := eq_true rfl
/-- a boolean as an int -/
def bi (p : Prop) [Decidable p] : Int32 := if p then 1 else 0
theorem bi_0 (p : Prop) [Decidable p] : (bi p = 0) = ¬ p := by unfold bi; by_cases h : p <;> simp [h]
theorem bi_t {p : Prop} [Decidable p] (h : p) : bi p = 1 := if_pos h
theorem bi_f {p : Prop} [Decidable p] (h : ¬ p) : bi p = 0 := if_neg h
theorem bi_nar (p : Prop) [Decidable p] : (narrow .boolean (.int (bi p)) = .int (bi p)) = True := eq_true (by unfold bi; split <;> rfl)
theorem s_outside (d : Nat) (v a b : Int32) (h : xh) : Ev (d + 1) 57 [.int v, .int a, .int b] h = some (some (.int (bi (v < a ∨ b < v))), h) := by
  rw [E57]
  simp only [S57_0, S57_1, S57_2, S57_5, S57_6, S57_7, S57_10, S57_11, S57_14, S57_15, nar_1, nar_0, if_true]
  by_cases h1 : v < a
  · simp only [h1, if_true, true_or, bi_t]
  · by_cases h2 : v ≤ b
    · have h3 : ¬ b < v := Int32.not_lt.mpr h2
      simp only [h1, h2, h3, if_true, if_false, or_false, false_or]
      rw [bi_f (by simp)]
    · have h3 : b < v := Int32.not_le.mp h2
      simp only [h1, h2, h3, if_true, if_false, or_true, bi_t]
theorem s_min (d : Nat) (a b : Int32) (h : xh) : Ev (d + 1) 201 [.int a, .int b] h = some (some (.int (if b < a then b else a)), h) := by
  rw [E201]
  simp only [S201_0, S201_1, S201_2, S201_5, S201_6, S201_9, S201_10]
  split <;> rfl
theorem s_max (d : Nat) (a b : Int32) (h : xh) : Ev (d + 1) 202 [.int a, .int b] h = some (some (.int (if a < b then b else a)), h) := by
  rw [E202]
  simp only [S202_0, S202_1, S202_2, S202_5, S202_6, S202_9, S202_10]
  split <;> rfl
theorem s_abs (d : Nat) (a : Int32) (h : xh) : Ev (d + 1) 203 [.int a] h = some (some (.int (if 0 ≤ a then a else -a)), h) := by
  rw [E203]
  simp only [S203_0, S203_1, S203_4, S203_5, S203_6, S203_9, S203_10]
  split <;> rfl
/-- held within two bounds, as the class does it -/
def wi (v a b : Int32) : Int32 := if a < (if v < b then v else b) then (if v < b then v else b) else a
theorem s_within (d : Nat) (v a b : Int32) (h : xh) : Ev (d + 2) 59 [.int v, .int a, .int b] h = some (some (.int (wi v a b)), h) := by
  rw [E59]
  simp only [S59_0, S59_1, S59_2, S59_3, S59_6, S59_9, s_min, s_max, Option.bind_some, xpush_s, xcat_0, xcat_i, Nat.reduceAdd, Nat.reduceLeDiff, if_true, Nat.zero_le]
  rfl
