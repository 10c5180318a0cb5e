/-! part 19: the reference's month -/
/-- an int of 0 .. n -/
def bd (x : Int32) (n : Nat) : Prop := ∃ k : Nat, k ≤ n ∧ x = nI k
/-- a row of numbers as it may be -/
def bnd (k : Nat) : Option Nat := if k = 0 then some 10 else if k = 1 then none else if k = 2 then some 99 else if k = 3 then some 100 else if k = 4 then some 99999 else if k = 5 then some 99999 else if k = 6 then none else if k = 7 then some 14 else if k < 20 then some 99 else if 60 ≤ k then some 0 else if k % 4 = 0 then some 5 else if k % 4 = 1 then some 99 else if k % 4 = 2 then some 11 else some 9999
def okk (k : Nat) (x : Int32) : Prop := ∀ b, bnd k = some b → bd x b
def wf (δ : Nat → Int32) : Prop := ∀ k, okk k (δ k)
theorem wf_upd {δ : Nat → Int32} (h : wf δ) {k : Nat} {x : Int32} (hx : okk k x) : wf (upd δ k x) := by
  intro j
  by_cases hj : j = k
  · subst hj; rw [up_s]; exact hx
  · rw [up_n _ _ hj]; exact h j
theorem okk_of {k b : Nat} {x : Int32} (hb : bnd k = some b) (h : bd x b) : okk k x := fun c hc => by
  rw [hb] at hc
  injection hc with hc
  subst hc
  exact h
theorem bnd_water {r : Nat} (h : r < 12) : bnd (8 + r) = some 99 := by
  unfold bnd
  rw [if_neg (by omega), if_neg (by omega), if_neg (by omega), if_neg (by omega), if_neg (by omega), if_neg (by omega), if_neg (by omega), if_neg (by omega), if_pos (by omega)]
theorem bnd_kind {m : Nat} (h : m < 10) : bnd (20 + 4 * m) = some 5 := by
  unfold bnd
  rw [if_neg (by omega), if_neg (by omega), if_neg (by omega), if_neg (by omega), if_neg (by omega), if_neg (by omega), if_neg (by omega), if_neg (by omega), if_neg (by omega), if_neg (by omega), if_pos (by omega)]
theorem bnd_ink {m : Nat} (h : m < 10) : bnd (20 + 4 * m + 1) = some 99 := by
  unfold bnd
  rw [if_neg (by omega), if_neg (by omega), if_neg (by omega), if_neg (by omega), if_neg (by omega), if_neg (by omega), if_neg (by omega), if_neg (by omega), if_neg (by omega), if_neg (by omega), if_neg (by omega), if_pos (by omega)]
theorem bnd_reach {m : Nat} (h : m < 10) : bnd (20 + 4 * m + 2) = some 11 := by
  unfold bnd
  rw [if_neg (by omega), if_neg (by omega), if_neg (by omega), if_neg (by omega), if_neg (by omega), if_neg (by omega), if_neg (by omega), if_neg (by omega), if_neg (by omega), if_neg (by omega), if_neg (by omega), if_neg (by omega), if_pos (by omega)]
theorem bnd_stood {m : Nat} (h : m < 10) : bnd (20 + 4 * m + 3) = some 9999 := by
  unfold bnd
  rw [if_neg (by omega), if_neg (by omega), if_neg (by omega), if_neg (by omega), if_neg (by omega), if_neg (by omega), if_neg (by omega), if_neg (by omega), if_neg (by omega), if_neg (by omega), if_neg (by omega), if_neg (by omega), if_neg (by omega)]
theorem bnd_above {k : Nat} (h : 60 ≤ k) : bnd k = some 0 := by
  unfold bnd
  rw [if_neg (by omega), if_neg (by omega), if_neg (by omega), if_neg (by omega), if_neg (by omega), if_neg (by omega), if_neg (by omega), if_neg (by omega), if_neg (by omega), if_pos (by omega)]
theorem wf.n {δ : Nat → Int32} (h : wf δ) : bd (δ 0) 10 := h 0 _ rfl
theorem wf.spring {δ : Nat → Int32} (h : wf δ) : bd (δ 2) 99 := h 2 _ rfl
theorem wf.clerk {δ : Nat → Int32} (h : wf δ) : bd (δ 3) 100 := h 3 _ rfl
theorem wf.sea {δ : Nat → Int32} (h : wf δ) : bd (δ 4) 99999 := h 4 _ rfl
theorem wf.floods {δ : Nat → Int32} (h : wf δ) : bd (δ 5) 99999 := h 5 _ rfl
theorem wf.texts {δ : Nat → Int32} (h : wf δ) : bd (δ 7) 14 := h 7 _ rfl
theorem wf.water {δ : Nat → Int32} (h : wf δ) (r : Nat) (hr : r < 12) : bd (δ (8 + r)) 99 := h _ _ (bnd_water hr)
theorem wf.kind {δ : Nat → Int32} (h : wf δ) (m : Nat) (hm : m < 10) : bd (δ (20 + 4 * m)) 5 := h _ _ (bnd_kind hm)
theorem wf.ink {δ : Nat → Int32} (h : wf δ) (m : Nat) (hm : m < 10) : bd (δ (20 + 4 * m + 1)) 99 := h _ _ (bnd_ink hm)
theorem wf.reach {δ : Nat → Int32} (h : wf δ) (m : Nat) (hm : m < 10) : bd (δ (20 + 4 * m + 2)) 11 := h _ _ (bnd_reach hm)
theorem wf.stood {δ : Nat → Int32} (h : wf δ) (m : Nat) (hm : m < 10) : bd (δ (20 + 4 * m + 3)) 9999 := h _ _ (bnd_stood hm)
theorem wf.above {δ : Nat → Int32} (h : wf δ) (k : Nat) (hk : 60 ≤ k) : δ k = 0 := by
  obtain ⟨j, h1, h2⟩ := h k _ (bnd_above hk)
  have : j = 0 := by omega
  subst this; exact h2
theorem bd_hd (v : Int32) {n : Nat} {N : Int32} (hN : N = nI n) (hn : n < 2 ^ 31) : bd (hd v 0 N) n := by
  subst hN
  unfold hd
  by_cases h1 : v < 0
  · rw [if_pos h1]; exact ⟨0, Nat.zero_le _, rfl⟩
  · rw [if_neg h1]
    by_cases h2 : nI n < v
    · rw [if_pos h2]; exact ⟨n, Nat.le_refl _, rfl⟩
    · rw [if_neg h2]
      obtain ⟨j, hj, e⟩ := nI_of h1
      subst e
      rw [nI_ltI hn hj] at h2
      exact ⟨j, by omega, rfl⟩
theorem wf_more {δ : Nat → Int32} (h : wf δ) {r : Nat} (x : Int32) (hr : r < 12) : wf (sMore δ r x) := by
  unfold sMore
  exact wf_upd (wf_upd h (okk_of rfl (bd_hd _ rfl (by decide)))) (okk_of (bnd_water hr) (bd_hd _ rfl (by decide)))
/-- a set of places below k -/
def sSet (p : Nat → Bool) : Nat → Int32
  | 0 => 0
  | k + 1 => sSet p k ||| (if p k then 1 <<< (nI k &&& 31) else 0)
theorem sSet_t {p : Nat → Bool} {k : Nat} (h : p k = true) : sSet p (k + 1) = sSet p k ||| 1 <<< (nI k &&& 31) := by simp [sSet, h]
theorem sSet_f {p : Nat → Bool} {k : Nat} (h : p k = false) : sSet p (k + 1) = sSet p k ||| 0 := by simp [sSet, h]
/-- how many of the lowest k places a set has -/
def sOnesK (x : Int32) : Nat → Int32
  | 0 => 0
  | k + 1 => sOnesK x k + (x >>> (nI k &&& 31) &&& 1)
def sOnes (x : Int32) : Int32 := sOnesK x 12
theorem nI12 : (12 : Int32) = nI 12 := rfl
theorem l_ones (ev : xe) (x : Int32) (h : xh) : ∀ j k, k + j = 12 → RF 122 ev 4 [some (.int x), some (.int (sOnesK x k)), some (.int (nI k))] [] h = some (some (.int (sOnes x)), h)
  | 0, k, e => by
    have e' : k = 12 := by omega
    subst e'
    have hc : (12 : Int32) ≤ nI 12 := Int32.le_refl _
    rw [S122_4]
    simp only [S122_0, S122_1, S122_2, S122_3, S122_5, S122_7, S122_10, S122_11, S122_12, S122_13, S122_14, S122_15, S122_16, S122_17, S122_18, S122_21, S122_24, S122_25, hc, if_true]
    rfl
  | j + 1, k, e => by
    have hc : ¬ (12 : Int32) ≤ nI k := nI_ge (b := 12) (by omega) (by omega)
    have ih := l_ones ev x h j (k + 1) (by omega)
    rw [S122_4]
    simp only [S122_0, S122_1, S122_2, S122_3, S122_5, S122_7, S122_10, S122_11, S122_12, S122_13, S122_14, S122_15, S122_16, S122_17, S122_18, S122_21, S122_24, S122_25, hc, if_false, nI_1]
    exact ih
theorem s_ones (d : Nat) (x : Int32) (h : xh) : Ev (d + 1) 122 [.int x] h = some (some (.int (sOnes x)), h) := by
  rw [E122]
  have h0 := l_ones (Ev d) x h 12 0 rfl
  simp only [S122_0, S122_1, S122_2, S122_3, S122_5, S122_7, S122_10, S122_11, S122_12, S122_13, S122_14, S122_15, S122_16, S122_17, S122_18, S122_21, S122_24, S122_25]
  exact h0
section MONT
variable {a : Nat → Nat → Int32} {δ κ s : Nat → Int32} {w : Int64} {H : xh}
/-- the marks at a reach -/
def sAt (δ : Nat → Int32) (r : Int32) (n : Nat) : Int32 := sSet (fun m => decide (δ (20 + 4 * m + 2) = r)) n
theorem l_marksAt (d : Nat) {n : Nat} (r : Int32) (hn : δ 0 = nI n) (h10 : n ≤ 10) : ∀ j m, m + j = n → RF 121 (Ev (d + 1)) 4 [some (.ref 58), some (.int r), some (.int (sAt δ r m)), some (.int (nI m))] [] (md a δ κ s w H) = some (some (.int (sAt δ r n)), md a δ κ s w H)
  | 0, m, e => by
    have e' : m = n := by omega
    subst e'
    have hc : nI m ≤ nI m := Int32.le_refl _
    rw [S121_4]
    simp only [S121_0, S121_1, S121_2, S121_3, S121_5, S121_6, S121_9, S121_10, S121_11, S121_14, S121_15, S121_16, S121_17, S121_18, S121_21, S121_22, S121_25, S121_26, S121_27, S121_28, S121_31, S121_32, S121_33, S121_34, S121_37, S121_40, S121_41, Option.bind_some, Option.map_some, xpush_s, xpush_n, xcat_0, xcat_i, xcat_r, xcat_l, xcat_n, xcat_e, xir_r, Nat.reduceAdd, Nat.reduceLeDiff, Nat.zero_le, Nat.le_refl, ↓reduceIte, Dg, Dr, ix_0, hn, hc]
  | j + 1, m, e => by
    have hc : ¬ nI n ≤ nI m := nI_ge (by omega) (by omega)
    have ih := l_marksAt d r hn h10 j (m + 1) (by omega)
    have h10' : m < 10 := by omega
    rw [S121_4]
    by_cases hr : δ (20 + 4 * m + 2) = r
    · rw [show sAt δ r (m + 1) = _ from sSet_t (by simp [hr])] at ih
      simp only [S121_0, S121_1, S121_2, S121_3, S121_5, S121_6, S121_9, S121_10, S121_11, S121_14, S121_15, S121_16, S121_17, S121_18, S121_21, S121_22, S121_25, S121_26, S121_27, S121_28, S121_31, S121_32, S121_33, S121_34, S121_37, S121_40, S121_41, Option.bind_some, Option.map_some, xpush_s, xpush_n, xcat_0, xcat_i, xcat_r, xcat_l, xcat_n, xcat_e, xir_r, Nat.reduceAdd, Nat.reduceLeDiff, Nat.zero_le, Nat.le_refl, ↓reduceIte, Dg, Dr, Dcls, ix_0, hn, hc, s_of2 d h10', hr, nI_1]
      exact ih
    · rw [show sAt δ r (m + 1) = _ from sSet_f (by simp [hr])] at ih
      simp only [S121_0, S121_1, S121_2, S121_3, S121_5, S121_6, S121_9, S121_10, S121_11, S121_14, S121_15, S121_16, S121_17, S121_18, S121_21, S121_22, S121_25, S121_26, S121_27, S121_28, S121_31, S121_32, S121_33, S121_34, S121_37, S121_40, S121_41, Option.bind_some, Option.map_some, xpush_s, xpush_n, xcat_0, xcat_i, xcat_r, xcat_l, xcat_n, xcat_e, xir_r, Nat.reduceAdd, Nat.reduceLeDiff, Nat.zero_le, Nat.le_refl, ↓reduceIte, Dg, Dr, Dcls, ix_0, hn, hc, s_of2 d h10', hr, nI_1]
      exact ih
theorem s_marksAt (d : Nat) {n : Nat} (r : Int32) (hn : δ 0 = nI n) (h10 : n ≤ 10) : Ev (d + 2) 121 [.ref 58, .int r] (md a δ κ s w H) = some (some (.int (sAt δ r n)), md a δ κ s w H) := by
  rw [E121]
  have h0 := l_marksAt (a := a) (κ := κ) (s := s) (w := w) (H := H) d r hn h10 n 0 (by omega)
  simp only [S121_0, S121_1, S121_2, S121_3, S121_5, S121_6, S121_9, S121_10, S121_11, S121_14, S121_15, S121_16, S121_17, S121_18, S121_21, S121_22, S121_25, S121_26, S121_27, S121_28, S121_31, S121_32, S121_33, S121_34, S121_37, S121_40, S121_41]
  exact h0
/-- a reach is let stand -/
def sLetB (δ : Nat → Int32) (r : Int32) : Nat → Bool
  | 0 => false
  | m + 1 => sLetB δ r m || (decide (δ (20 + 4 * m + 2) = r) && decide (δ (20 + 4 * m) = 5))
theorem sLetB_up {δ : Nat → Int32} {r : Int32} {m : Nat} (h : sLetB δ r m = true) : ∀ j, sLetB δ r (m + j) = true
  | 0 => h
  | j + 1 => by
    show (sLetB δ r (m + j) || _) = true
    rw [sLetB_up h j, Bool.true_or]
theorem l_isLet (d : Nat) {n : Nat} (r : Int32) (hn : δ 0 = nI n) (h10 : n ≤ 10) : ∀ j m, m + j = n → sLetB δ r m = false → RF 126 (Ev (d + 1)) 2 [some (.ref 58), some (.int r), some (.int (nI m))] [] (md a δ κ s w H) = some (some (.int (bi (sLetB δ r n = true))), md a δ κ s w H)
  | 0, m, e, hno => by
    have e' : m = n := by omega
    subst e'
    have hc : nI m ≤ nI m := Int32.le_refl _
    rw [S126_2, bi_f (by simp [hno])]
    simp only [S126_0, S126_1, S126_3, S126_4, S126_7, S126_8, S126_9, S126_12, S126_13, S126_14, S126_15, S126_18, S126_19, S126_22, S126_23, S126_24, S126_25, S126_28, S126_29, S126_32, S126_33, S126_34, S126_37, S126_40, S126_41, Option.bind_some, Option.map_some, xpush_s, xpush_n, xcat_0, xcat_i, xcat_r, xcat_l, xcat_n, xcat_e, xir_r, Nat.reduceAdd, Nat.reduceLeDiff, Nat.zero_le, Nat.le_refl, ↓reduceIte, Dg, Dr, ix_0, hn, hc, nar_0]
  | j + 1, m, e, hno => by
    have hc : ¬ nI n ≤ nI m := nI_ge (by omega) (by omega)
    have h10' : m < 10 := by omega
    rw [S126_2]
    by_cases hr : δ (20 + 4 * m + 2) = r
    · by_cases hk : δ (20 + 4 * m) = 5
      · rw [bi_t (by
          have h1 : sLetB δ r (m + 1) = true := by simp [sLetB, hr, hk]
          have h2 := sLetB_up h1 j
          rw [show m + 1 + j = n by omega] at h2
          exact h2)]
        simp only [S126_0, S126_1, S126_3, S126_4, S126_7, S126_8, S126_9, S126_12, S126_13, S126_14, S126_15, S126_18, S126_19, S126_22, S126_23, S126_24, S126_25, S126_28, S126_29, S126_32, S126_33, S126_34, S126_37, S126_40, S126_41, Option.bind_some, Option.map_some, xpush_s, xpush_n, xcat_0, xcat_i, xcat_r, xcat_l, xcat_n, xcat_e, xir_r, Nat.reduceAdd, Nat.reduceLeDiff, Nat.zero_le, Nat.le_refl, ↓reduceIte, Dg, Dr, Dcls, ix_0, hn, hc, s_of2 d h10', s_of0 d h10', hr, hk, nI_1, nar_1]
      · have ih := l_isLet d r hn h10 j (m + 1) (by omega) (by simp [sLetB, hno, hk])
        simp only [S126_0, S126_1, S126_3, S126_4, S126_7, S126_8, S126_9, S126_12, S126_13, S126_14, S126_15, S126_18, S126_19, S126_22, S126_23, S126_24, S126_25, S126_28, S126_29, S126_32, S126_33, S126_34, S126_37, S126_40, S126_41, Option.bind_some, Option.map_some, xpush_s, xpush_n, xcat_0, xcat_i, xcat_r, xcat_l, xcat_n, xcat_e, xir_r, Nat.reduceAdd, Nat.reduceLeDiff, Nat.zero_le, Nat.le_refl, ↓reduceIte, Dg, Dr, Dcls, ix_0, hn, hc, s_of2 d h10', s_of0 d h10', hr, hk, nI_1]
        exact ih
    · have ih := l_isLet d r hn h10 j (m + 1) (by omega) (by simp [sLetB, hno, hr])
      simp only [S126_0, S126_1, S126_3, S126_4, S126_7, S126_8, S126_9, S126_12, S126_13, S126_14, S126_15, S126_18, S126_19, S126_22, S126_23, S126_24, S126_25, S126_28, S126_29, S126_32, S126_33, S126_34, S126_37, S126_40, S126_41, Option.bind_some, Option.map_some, xpush_s, xpush_n, xcat_0, xcat_i, xcat_r, xcat_l, xcat_n, xcat_e, xir_r, Nat.reduceAdd, Nat.reduceLeDiff, Nat.zero_le, Nat.le_refl, ↓reduceIte, Dg, Dr, Dcls, ix_0, hn, hc, s_of2 d h10', hr, nI_1]
      exact ih
theorem s_isLet (d : Nat) {n : Nat} (r : Int32) (hn : δ 0 = nI n) (h10 : n ≤ 10) : Ev (d + 2) 126 [.ref 58, .int r] (md a δ κ s w H) = some (some (.int (bi (sLetB δ r n = true))), md a δ κ s w H) := by
  rw [E126]
  have h0 := l_isLet (a := a) (κ := κ) (s := s) (w := w) (H := H) d r hn h10 n 0 (by omega) rfl
  simp only [S126_0, S126_1, S126_3, S126_4, S126_7, S126_8, S126_9, S126_12, S126_13, S126_14, S126_15, S126_18, S126_19, S126_22, S126_23, S126_24, S126_25, S126_28, S126_29, S126_32, S126_33, S126_34, S126_37, S126_40, S126_41]
  exact h0
end MONT
