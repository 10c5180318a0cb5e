/-! part 24: sets as bits -/
theorem nI_or (a b : Nat) : nI a ||| nI b = nI (a ||| b) := Int32.toBitVec_inj.mp (by
  rw [Int32.toBitVec_or]
  show BitVec.ofNat 32 a ||| BitVec.ofNat 32 b = BitVec.ofNat 32 (a ||| b)
  rw [BitVec.ofNat_or])
theorem i_or0 (x : Int32) : x ||| 0 = x := Int32.or_zero
theorem sh1 : ∀ r, r < 31 → (1 : Int32) <<< (nI r &&& 31) = nI (2 ^ r) := by decide +kernel
theorem sm32 : ∀ r, r < 32 → ((nI r &&& 31).toBitVec.smod 32).toNat = r := by decide +kernel
theorem bit_n {n r : Nat} (hn : n < 2 ^ 31) (hr : r < 32) : nI n >>> (nI r &&& 31) &&& 1 = nI (n / 2 ^ r % 2) := by
  rw [pk_shrN hn _ r (sm32 r hr)]
  exact pk_andN (Nat.lt_of_le_of_lt (Nat.div_le_self _ _) (by omega)) 1 rfl
theorem bit_t {n r : Nat} (hn : n < 2 ^ 31) (hr : r < 32) : (nI n >>> (nI r &&& 31) &&& 1 = 1) ↔ n.testBit r = true := by
  rw [bit_n hn hr, Nat.testBit_eq_decide_div_mod_eq, decide_eq_true_iff]
  exact nI_eq (b := 1) (by omega) (by decide)
/-- a set of places below k, as a number -/
def nSet (p : Nat → Bool) : Nat → Nat
  | 0 => 0
  | k + 1 => if p k then nSet p k ||| 2 ^ k else nSet p k
theorem nSet_lt (p : Nat → Bool) : ∀ k, nSet p k < 2 ^ k
  | 0 => Nat.one_pos
  | k + 1 => by
    have h := nSet_lt p k
    have h2 : 2 ^ k < 2 ^ (k + 1) := Nat.pow_lt_pow_right (by decide) (by omega)
    unfold nSet
    by_cases hp : p k = true
    · rw [if_pos hp]; exact Nat.or_lt_two_pow (by omega) h2
    · rw [if_neg hp]; omega
theorem nSet_bit (p : Nat → Bool) (i : Nat) : ∀ k, (nSet p k).testBit i = (decide (i < k) && p i)
  | 0 => by simp [nSet]
  | k + 1 => by
    have h := nSet_bit p i k
    unfold nSet
    by_cases hp : p k = true
    · rw [if_pos hp, Nat.testBit_or, h, Nat.testBit_two_pow]
      by_cases e : k = i
      · subst e; simp [hp]
      · rw [show decide (k = i) = false by simp [e], Bool.or_false]
        congr 1
        exact decide_eq_decide.mpr (by omega)
    · rw [if_neg hp, h]
      by_cases e : i = k
      · subst e
        simp only [Bool.not_eq_true] at hp
        simp [hp]
      · congr 1
        exact decide_eq_decide.mpr (by omega)
theorem sSet_n (p : Nat → Bool) : ∀ k, k ≤ 31 → sSet p k = nI (nSet p k)
  | 0, _ => rfl
  | k + 1, hk => by
    have h := sSet_n p k (by omega)
    unfold nSet
    by_cases hp : p k = true
    · rw [sSet_t hp, if_pos hp, h, sh1 k (by omega), nI_or]
    · rw [sSet_f (by simpa using hp), if_neg hp, h, i_or0]
def bC (x : Int32) : Int32 :=
  let a := x - ((x.toUInt32 >>> (Int32.toUInt32 1 &&& Int32.toUInt32 31)).toInt32 &&& 1431655765)
  let b := (a &&& 858993459) + ((a.toUInt32 >>> (Int32.toUInt32 2 &&& Int32.toUInt32 31)).toInt32 &&& 858993459)
  let c := b + (b.toUInt32 >>> (Int32.toUInt32 4 &&& Int32.toUInt32 31)).toInt32 &&& 252645135
  let e := c + (c.toUInt32 >>> (Int32.toUInt32 8 &&& Int32.toUInt32 31)).toInt32
  let f := e + (e.toUInt32 >>> (Int32.toUInt32 16 &&& Int32.toUInt32 31)).toInt32
  f &&& 63
theorem s_bitCount (d : Nat) (x : Int32) (h : xh) : Ev (d + 1) 200 [.int x] h = some (some (.int (bC x)), h) := by
  rw [E200]
  simp only [S200_0, S200_1, S200_2, S200_3, S200_4, S200_7, S200_8, S200_9, S200_10, S200_11, S200_14, S200_15, S200_16, S200_17, S200_18, S200_21, S200_22, S200_23, S200_24, S200_25, S200_26, S200_27, S200_28, S200_29, S200_32, S200_33, S200_34, S200_35, S200_36, S200_38, S200_39, S200_40, S200_41, S200_42, S200_43, S200_45, S200_46, S200_47, S200_48, S200_49, S200_51, S200_52, bC]
theorem bC_n : ∀ j, j < 1024 → bC (nI j) = sOnes (nI j) := by decide +kernel
theorem zsub (x : Int32) : 0 - x = -x := by rw [Int32.sub_eq_add_neg, Int32.zero_add]
/-- the reaches let stand, as a number -/
def nStet (δ : Nat → Int32) : Nat → Nat
  | 0 => 0
  | k + 1 => if δ (20 + 4 * k) = 5 then nStet δ k ||| 2 ^ nn (δ (20 + 4 * k + 2)) else nStet δ k
theorem nStet_lt {δ : Nat → Int32} (hw : wf δ) : ∀ k, k ≤ 10 → nStet δ k < 2 ^ 12
  | 0, _ => (by show 0 < 4096; decide)
  | k + 1, hk => by
    have h := nStet_lt hw k (by omega)
    have h2 : 2 ^ nn (δ (20 + 4 * k + 2)) < 2 ^ 12 := Nat.pow_lt_pow_right (by decide) (by have := (hw.eR (show k < 10 by omega)).2; omega)
    unfold nStet
    by_cases hp : δ (20 + 4 * k) = 5
    · rw [if_pos hp]; exact Nat.or_lt_two_pow h h2
    · rw [if_neg hp]; exact h
theorem nStet_bit {δ : Nat → Int32} (hw : wf δ) {r : Nat} (hr : r < 12) : ∀ k, k ≤ 10 → (nStet δ k).testBit r = sLetB δ (nI r) k
  | 0, _ => by simp [nStet, sLetB]
  | k + 1, hk => by
    have h := nStet_bit hw hr k (by omega)
    have eR := hw.eR (show k < 10 by omega)
    have he : decide (nn (δ (20 + 4 * k + 2)) = r) = decide (δ (20 + 4 * k + 2) = nI r) := by
      apply decide_eq_decide.mpr
      constructor
      · intro e; rw [← e]; exact eR.1
      · intro e; rw [e]; exact nn_nI (by omega)
    unfold nStet sLetB
    by_cases hp : δ (20 + 4 * k) = 5
    · rw [if_pos hp, Nat.testBit_or, h, Nat.testBit_two_pow, he]
      simp [hp]
    · rw [if_neg hp, h]
      simp [hp]
