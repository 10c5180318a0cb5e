/-! part 19: the reference's month -/
/-- an int of 0 .. n -/
def bd (x : Int32) (n : Nat) : Prop := ∃ k : Nat, k ≤ n ∧ x = nI k
/-- a row of numbers as it may be -/
def wf (δ : Nat → Int32) : Prop := (bd (δ 0) 10) ∧ (bd (δ 2) 99) ∧ (bd (δ 3) 100) ∧ (bd (δ 4) 99999) ∧ (bd (δ 5) 99999) ∧ (bd (δ 7) 14) ∧ (∀ r, r < 12 → bd (δ (8 + r)) 99) ∧ (∀ m, m < 10 → bd (δ (20 + 4 * m)) 5) ∧ (∀ m, m < 10 → bd (δ (20 + 4 * m + 1)) 99) ∧ (∀ m, m < 10 → bd (δ (20 + 4 * m + 2)) 11) ∧ (∀ m, m < 10 → bd (δ (20 + 4 * m + 3)) 9999) ∧ (∀ k, 60 ≤ k → δ k = 0)
theorem wf.n {δ : Nat → Int32} (h : wf δ) : bd (δ 0) 10 := h.1
theorem wf.spring {δ : Nat → Int32} (h : wf δ) : bd (δ 2) 99 := h.2.1
theorem wf.clerk {δ : Nat → Int32} (h : wf δ) : bd (δ 3) 100 := h.2.2.1
theorem wf.sea {δ : Nat → Int32} (h : wf δ) : bd (δ 4) 99999 := h.2.2.2.1
theorem wf.floods {δ : Nat → Int32} (h : wf δ) : bd (δ 5) 99999 := h.2.2.2.2.1
theorem wf.texts {δ : Nat → Int32} (h : wf δ) : bd (δ 7) 14 := h.2.2.2.2.2.1
theorem wf.water {δ : Nat → Int32} (h : wf δ) : ∀ r, r < 12 → bd (δ (8 + r)) 99 := h.2.2.2.2.2.2.1
theorem wf.kind {δ : Nat → Int32} (h : wf δ) : ∀ m, m < 10 → bd (δ (20 + 4 * m)) 5 := h.2.2.2.2.2.2.2.1
theorem wf.ink {δ : Nat → Int32} (h : wf δ) : ∀ m, m < 10 → bd (δ (20 + 4 * m + 1)) 99 := h.2.2.2.2.2.2.2.2.1
theorem wf.reach {δ : Nat → Int32} (h : wf δ) : ∀ m, m < 10 → bd (δ (20 + 4 * m + 2)) 11 := h.2.2.2.2.2.2.2.2.2.1
theorem wf.stood {δ : Nat → Int32} (h : wf δ) : ∀ m, m < 10 → bd (δ (20 + 4 * m + 3)) 9999 := h.2.2.2.2.2.2.2.2.2.2.1
theorem wf.above {δ : Nat → Int32} (h : wf δ) : ∀ k, 60 ≤ k → δ k = 0 := h.2.2.2.2.2.2.2.2.2.2.2
/-- a set of places below k -/
def sSet (p : Nat → Bool) : Nat → Int32
  | 0 => 0
  | k + 1 => sSet p k ||| (if p k then 1 <<< (nI k &&& 31) else 0)
theorem sSet_t {p : Nat → Bool} {k : Nat} (h : p k = true) : sSet p (k + 1) = sSet p k ||| 1 <<< (nI k &&& 31) := by simp [sSet, h]
theorem sSet_f {p : Nat → Bool} {k : Nat} (h : p k = false) : sSet p (k + 1) = sSet p k ||| 0 := by simp [sSet, h]
/-- how many of the lowest k places a set has -/
def sOnesK (x : Int32) : Nat → Int32
  | 0 => 0
  | k + 1 => sOnesK x k + (x >>> (nI k &&& 31) &&& 1)
def sOnes (x : Int32) : Int32 := sOnesK x 12
theorem nI12 : (12 : Int32) = nI 12 := rfl
theorem l_ones (ev : xe) (x : Int32) (h : xh) : ∀ j k, k + j = 12 → RF 122 ev 4 [some (.int x), some (.int (sOnesK x k)), some (.int (nI k))] [] h = some (some (.int (sOnes x)), h)
  | 0, k, e => by
    have e' : k = 12 := by omega
    subst e'
    have hc : (12 : Int32) ≤ nI 12 := Int32.le_refl _
    rw [S122_4]
    simp only [S122_0, S122_1, S122_2, S122_3, S122_5, S122_7, S122_10, S122_11, S122_12, S122_13, S122_14, S122_15, S122_16, S122_17, S122_18, S122_21, S122_24, S122_25, hc, if_true]
    rfl
  | j + 1, k, e => by
    have hc : ¬ (12 : Int32) ≤ nI k := nI_ge (b := 12) (by omega) (by omega)
    have ih := l_ones ev x h j (k + 1) (by omega)
    rw [S122_4]
    simp only [S122_0, S122_1, S122_2, S122_3, S122_5, S122_7, S122_10, S122_11, S122_12, S122_13, S122_14, S122_15, S122_16, S122_17, S122_18, S122_21, S122_24, S122_25, hc, if_false, nI_1]
    exact ih
theorem s_ones (d : Nat) (x : Int32) (h : xh) : Ev (d + 1) 122 [.int x] h = some (some (.int (sOnes x)), h) := by
  rw [E122]
  have h0 := l_ones (Ev d) x h 12 0 rfl
  simp only [S122_0, S122_1, S122_2, S122_3, S122_5, S122_7, S122_10, S122_11, S122_12, S122_13, S122_14, S122_15, S122_16, S122_17, S122_18, S122_21, S122_24, S122_25]
  exact h0
section MONT
variable {a : Nat → Nat → Int32} {δ κ s : Nat → Int32} {w : Int64} {H : xh}
/-- the marks at a reach -/
def sAt (δ : Nat → Int32) (r : Int32) (n : Nat) : Int32 := sSet (fun m => decide (δ (20 + 4 * m + 2) = r)) n
theorem l_marksAt (d : Nat) {n : Nat} (r : Int32) (hn : δ 0 = nI n) (h10 : n ≤ 10) : ∀ j m, m + j = n → RF 121 (Ev (d + 1)) 4 [some (.ref 58), some (.int r), some (.int (sAt δ r m)), some (.int (nI m))] [] (md a δ κ s w H) = some (some (.int (sAt δ r n)), md a δ κ s w H)
  | 0, m, e => by
    have e' : m = n := by omega
    subst e'
    have hc : nI m ≤ nI m := Int32.le_refl _
    rw [S121_4]
    simp only [S121_0, S121_1, S121_2, S121_3, S121_5, S121_6, S121_9, S121_10, S121_11, S121_14, S121_15, S121_16, S121_17, S121_18, S121_21, S121_22, S121_25, S121_26, S121_27, S121_28, S121_31, S121_32, S121_33, S121_34, S121_37, S121_40, S121_41, Option.bind_some, Option.map_some, xpush_s, xpush_n, xcat_0, xcat_i, xcat_r, xcat_l, xcat_n, xcat_e, xir_r, Nat.reduceAdd, Nat.reduceLeDiff, Nat.zero_le, Nat.le_refl, if_true, if_false, Dg, Dr, ix_0, hn, hc]
  | j + 1, m, e => by
    have hc : ¬ nI n ≤ nI m := nI_ge (by omega) (by omega)
    have ih := l_marksAt d r hn h10 j (m + 1) (by omega)
    have h10' : m < 10 := by omega
    rw [S121_4]
    by_cases hr : δ (20 + 4 * m + 2) = r
    · rw [show sAt δ r (m + 1) = _ from sSet_t (by simp [hr])] at ih
      simp only [S121_0, S121_1, S121_2, S121_3, S121_5, S121_6, S121_9, S121_10, S121_11, S121_14, S121_15, S121_16, S121_17, S121_18, S121_21, S121_22, S121_25, S121_26, S121_27, S121_28, S121_31, S121_32, S121_33, S121_34, S121_37, S121_40, S121_41, Option.bind_some, Option.map_some, xpush_s, xpush_n, xcat_0, xcat_i, xcat_r, xcat_l, xcat_n, xcat_e, xir_r, Nat.reduceAdd, Nat.reduceLeDiff, Nat.zero_le, Nat.le_refl, if_true, if_false, Dg, Dr, Dcls, ix_0, hn, hc, s_of2 d h10', hr, nI_1]
      exact ih
    · rw [show sAt δ r (m + 1) = _ from sSet_f (by simp [hr])] at ih
      simp only [S121_0, S121_1, S121_2, S121_3, S121_5, S121_6, S121_9, S121_10, S121_11, S121_14, S121_15, S121_16, S121_17, S121_18, S121_21, S121_22, S121_25, S121_26, S121_27, S121_28, S121_31, S121_32, S121_33, S121_34, S121_37, S121_40, S121_41, Option.bind_some, Option.map_some, xpush_s, xpush_n, xcat_0, xcat_i, xcat_r, xcat_l, xcat_n, xcat_e, xir_r, Nat.reduceAdd, Nat.reduceLeDiff, Nat.zero_le, Nat.le_refl, if_true, if_false, Dg, Dr, Dcls, ix_0, hn, hc, s_of2 d h10', hr, nI_1]
      exact ih
theorem s_marksAt (d : Nat) {n : Nat} (r : Int32) (hn : δ 0 = nI n) (h10 : n ≤ 10) : Ev (d + 2) 121 [.ref 58, .int r] (md a δ κ s w H) = some (some (.int (sAt δ r n)), md a δ κ s w H) := by
  rw [E121]
  have h0 := l_marksAt (a := a) (κ := κ) (s := s) (w := w) (H := H) d r hn h10 n 0 (by omega)
  simp only [S121_0, S121_1, S121_2, S121_3, S121_5, S121_6, S121_9, S121_10, S121_11, S121_14, S121_15, S121_16, S121_17, S121_18, S121_21, S121_22, S121_25, S121_26, S121_27, S121_28, S121_31, S121_32, S121_33, S121_34, S121_37, S121_40, S121_41]
  exact h0
/-- a reach is let stand -/
def sLetB (δ : Nat → Int32) (r : Int32) : Nat → Bool
  | 0 => false
  | m + 1 => sLetB δ r m || (decide (δ (20 + 4 * m + 2) = r) && decide (δ (20 + 4 * m) = 5))
theorem sLetB_up {δ : Nat → Int32} {r : Int32} {m : Nat} (h : sLetB δ r m = true) : ∀ j, sLetB δ r (m + j) = true
  | 0 => h
  | j + 1 => by
    show (sLetB δ r (m + j) || _) = true
    rw [sLetB_up h j, Bool.true_or]
theorem l_isLet (d : Nat) {n : Nat} (r : Int32) (hn : δ 0 = nI n) (h10 : n ≤ 10) : ∀ j m, m + j = n → sLetB δ r m = false → RF 126 (Ev (d + 1)) 2 [some (.ref 58), some (.int r), some (.int (nI m))] [] (md a δ κ s w H) = some (some (.int (bi (sLetB δ r n = true))), md a δ κ s w H)
  | 0, m, e, hno => by
    have e' : m = n := by omega
    subst e'
    have hc : nI m ≤ nI m := Int32.le_refl _
    rw [S126_2, bi_f (by simp [hno])]
    simp only [S126_0, S126_1, S126_3, S126_4, S126_7, S126_8, S126_9, S126_12, S126_13, S126_14, S126_15, S126_18, S126_19, S126_22, S126_23, S126_24, S126_25, S126_28, S126_29, S126_32, S126_33, S126_34, S126_37, S126_40, S126_41, Option.bind_some, Option.map_some, xpush_s, xpush_n, xcat_0, xcat_i, xcat_r, xcat_l, xcat_n, xcat_e, xir_r, Nat.reduceAdd, Nat.reduceLeDiff, Nat.zero_le, Nat.le_refl, if_true, if_false, Dg, Dr, ix_0, hn, hc, nar_0]
  | j + 1, m, e, hno => by
    have hc : ¬ nI n ≤ nI m := nI_ge (by omega) (by omega)
    have h10' : m < 10 := by omega
    rw [S126_2]
    by_cases hr : δ (20 + 4 * m + 2) = r
    · by_cases hk : δ (20 + 4 * m) = 5
      · rw [bi_t (by
          have h1 : sLetB δ r (m + 1) = true := by simp [sLetB, hr, hk]
          have h2 := sLetB_up h1 j
          rw [show m + 1 + j = n by omega] at h2
          exact h2)]
        simp only [S126_0, S126_1, S126_3, S126_4, S126_7, S126_8, S126_9, S126_12, S126_13, S126_14, S126_15, S126_18, S126_19, S126_22, S126_23, S126_24, S126_25, S126_28, S126_29, S126_32, S126_33, S126_34, S126_37, S126_40, S126_41, Option.bind_some, Option.map_some, xpush_s, xpush_n, xcat_0, xcat_i, xcat_r, xcat_l, xcat_n, xcat_e, xir_r, Nat.reduceAdd, Nat.reduceLeDiff, Nat.zero_le, Nat.le_refl, if_true, if_false, Dg, Dr, Dcls, ix_0, hn, hc, s_of2 d h10', s_of0 d h10', hr, hk, nI_1, nar_1]
      · have ih := l_isLet d r hn h10 j (m + 1) (by omega) (by simp [sLetB, hno, hk])
        simp only [S126_0, S126_1, S126_3, S126_4, S126_7, S126_8, S126_9, S126_12, S126_13, S126_14, S126_15, S126_18, S126_19, S126_22, S126_23, S126_24, S126_25, S126_28, S126_29, S126_32, S126_33, S126_34, S126_37, S126_40, S126_41, Option.bind_some, Option.map_some, xpush_s, xpush_n, xcat_0, xcat_i, xcat_r, xcat_l, xcat_n, xcat_e, xir_r, Nat.reduceAdd, Nat.reduceLeDiff, Nat.zero_le, Nat.le_refl, if_true, if_false, Dg, Dr, Dcls, ix_0, hn, hc, s_of2 d h10', s_of0 d h10', hr, hk, nI_1]
        exact ih
    · have ih := l_isLet d r hn h10 j (m + 1) (by omega) (by simp [sLetB, hno, hr])
      simp only [S126_0, S126_1, S126_3, S126_4, S126_7, S126_8, S126_9, S126_12, S126_13, S126_14, S126_15, S126_18, S126_19, S126_22, S126_23, S126_24, S126_25, S126_28, S126_29, S126_32, S126_33, S126_34, S126_37, S126_40, S126_41, Option.bind_some, Option.map_some, xpush_s, xpush_n, xcat_0, xcat_i, xcat_r, xcat_l, xcat_n, xcat_e, xir_r, Nat.reduceAdd, Nat.reduceLeDiff, Nat.zero_le, Nat.le_refl, if_true, if_false, Dg, Dr, Dcls, ix_0, hn, hc, s_of2 d h10', hr, nI_1]
      exact ih
theorem s_isLet (d : Nat) {n : Nat} (r : Int32) (hn : δ 0 = nI n) (h10 : n ≤ 10) : Ev (d + 2) 126 [.ref 58, .int r] (md a δ κ s w H) = some (some (.int (bi (sLetB δ r n = true))), md a δ κ s w H) := by
  rw [E126]
  have h0 := l_isLet (a := a) (κ := κ) (s := s) (w := w) (H := H) d r hn h10 n 0 (by omega) rfl
  simp only [S126_0, S126_1, S126_3, S126_4, S126_7, S126_8, S126_9, S126_12, S126_13, S126_14, S126_15, S126_18, S126_19, S126_22, S126_23, S126_24, S126_25, S126_28, S126_29, S126_32, S126_33, S126_34, S126_37, S126_40, S126_41]
  exact h0
end MONT
