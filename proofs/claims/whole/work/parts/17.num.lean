/-! part 17: numbers -/
theorem xix_n {k n : Nat} (h : k < n) (hn : n ≤ 100000) : xix (nI k) n = some k := by
  have e : (nI k).toInt = k := nI_toInt (by omega)
  unfold xix
  rw [e, if_pos (by omega)]
  rfl
theorem ix8 (r : Nat) : (8 : Int32) + nI r = nI (8 + r) := nI_add 8 r
theorem ix4 (m w : Nat) : (20 : Int32) + 4 * nI m + nI w = nI (20 + 4 * m + w) := by
  have h1 : (4 : Int32) * nI m = nI (4 * m) := pk_mul 4 m
  have h2 : (20 : Int32) = nI 20 := rfl
  rw [h1, h2, nI_add, nI_add]
theorem ix40 (m : Nat) : (20 : Int32) + 4 * nI m = nI (20 + 4 * m) := by
  have h1 : (4 : Int32) * nI m = nI (4 * m) := pk_mul 4 m
  have h2 : (20 : Int32) = nI 20 := rfl
  rw [h1, h2, nI_add]
theorem vu_s {α : Type} (f : Nat → α) (k : Nat) (v : α) : va_up f k v k = v := by simp [va_up]
theorem vu_n {α : Type} (f : Nat → α) {k j : Nat} (v : α) (h : j ≠ k) : va_up f k v j = f j := by simp [va_up, h]
theorem vu_u {α : Type} (f : Nat → α) (k : Nat) (v w : α) : va_up (va_up f k v) k w = va_up f k w := by
  funext j
  by_cases h : j = k
  · subst h; simp [va_up]
  · simp [va_up, h]
theorem vu_c {α : Type} (f : Nat → α) {k j : Nat} (v w : α) (h : j ≠ k) : va_up (va_up f k v) j w = va_up (va_up f j w) k v := by
  funext i
  by_cases h1 : i = j
  · subst h1; simp [va_up, h]
  · by_cases h2 : i = k
    · subst h2; simp [va_up, h1]
    · simp [va_up, h1, h2]
theorem vu_self {α : Type} (f : Nat → α) (k : Nat) : va_up f k (f k) = f := by
  funext i
  by_cases h1 : i = k
  · subst h1; simp [va_up]
  · simp [va_up, h1]
theorem up_s (f : Nat → Int32) (k : Nat) (v : Int32) : upd f k v k = v := by simp [upd]
theorem up_n (f : Nat → Int32) {k j : Nat} (v : Int32) (h : j ≠ k) : upd f k v j = f j := by simp [upd, h]
theorem up_u (f : Nat → Int32) (k : Nat) (v w : Int32) : upd (upd f k v) k w = upd f k w := by
  funext j
  by_cases h : j = k
  · subst h; simp [upd]
  · simp [upd, h]
/-- held within two bounds, as the reference does it -/
def hd (v a b : Int32) : Int32 := if v < a then a else if b < v then b else v
theorem s_held (d : Nat) (v a b : Int32) (h : xh) : Ev (d + 1) 125 [.int v, .int a, .int b] h = some (some (.int (hd v a b)), h) := by
  rw [E125]
  simp only [S125_0, S125_1, S125_2, S125_5, S125_6, S125_9, S125_10, S125_11, S125_14, S125_15, S125_18, S125_19]
  unfold hd
  by_cases h1 : v < a
  · have h2 : ¬ a ≤ v := Int32.not_le.mpr h1
    simp only [h1, h2, if_true, if_false]
  · have h2 : a ≤ v := Int32.not_lt.mp h1
    simp only [h1, h2, if_true, if_false]
    by_cases h3 : b < v
    · have h4 : ¬ v ≤ b := Int32.not_le.mpr h3
      simp only [h3, h4, if_true, if_false]
    · have h4 : v ≤ b := Int32.not_lt.mp h3
      simp only [h3, h4, if_true, if_false]
theorem lg_lt (x y : Int64) : (lg_cmp x y < 0) = (x < y) := by
  apply propext
  unfold lg_cmp
  by_cases h1 : x > y
  · rw [if_pos h1]
    constructor
    · intro h; exact absurd h (by decide)
    · intro h; exact absurd h1 (Int64.not_lt.mpr (Int64.le_of_lt h))
  · rw [if_neg h1]
    by_cases h2 : x = y
    · rw [if_pos h2]
      constructor
      · intro h; exact absurd h (by decide)
      · intro h; rw [h2] at h; exact absurd h (Int64.lt_irrefl)
    · rw [if_neg h2]
      constructor
      · intro _
        rcases Int64.lt_or_eq_of_le (Int64.not_lt.mp h1) with h | h
        · exact h
        · exact absurd h h2
      · intro _; decide
theorem lg_gt (x y : Int64) : (0 < lg_cmp x y) = (y < x) := by
  apply propext
  unfold lg_cmp
  by_cases h1 : x > y
  · rw [if_pos h1]
    exact ⟨fun _ => h1, fun _ => by decide⟩
  · rw [if_neg h1]
    by_cases h2 : x = y
    · rw [if_pos h2]
      exact ⟨fun h => absurd h (by decide), fun h => absurd h h1⟩
    · rw [if_neg h2]
      exact ⟨fun h => absurd h (by decide), fun h => absurd h h1⟩
theorem s_in (d : Nat) (v a b : Int64) (h : xh) : Ev (d + 1) 112 [.long v, .long a, .long b] h = some (some (.int (bi (a ≤ v ∧ v ≤ b))), h) := by
  rw [E112]
  simp only [S112_0, S112_1, S112_2, S112_3, S112_6, S112_7, S112_9, S112_10, S112_13, S112_14, S112_17, S112_18, nar_1, nar_0, if_true, lg_lt, lg_gt]
  by_cases h1 : v < a
  · have h2 : ¬ a ≤ v := Int64.not_le.mpr h1
    simp only [h1, if_true, h2, false_and]
    rw [bi_f (by simp)]
  · have h2 : a ≤ v := Int64.not_lt.mp h1
    simp only [h1, if_false]
    by_cases h3 : b < v
    · have h4 : ¬ v ≤ b := Int64.not_le.mpr h3
      simp only [h3, if_true, h4, and_false]
      rw [bi_f (by simp)]
    · have h4 : v ≤ b := Int64.not_lt.mp h3
      simp only [h3, if_false]
      rw [bi_t ⟨h2, h4⟩]
