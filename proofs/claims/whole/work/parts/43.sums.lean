/-! part 43: sums, sets, the deepest: both sides -/
def sWat (δ : Nat → Int32) : Nat → Int32
  | 0 => 0
  | k + 1 => sWat δ k + δ (8 + k)
def sInk (δ : Nat → Int32) : Nat → Int32
  | 0 => 0
  | m + 1 => sInk δ m + δ (20 + 4 * m + 1)
def sDry (δ : Nat → Int32) (k : Nat) : Int32 := sSet (fun r => decide (δ (8 + r) = 0)) k
def sDee (δ : Nat → Int32) : Nat → Nat
  | 0 => 0
  | r + 1 => if δ (8 + r) ≤ δ (8 + sDee δ r) then sDee δ r else r
theorem sDee_lt (δ : Nat → Int32) : ∀ r, r ≤ 12 → sDee δ r < 12
  | 0, _ => (show 0 < 12 by decide)
  | r + 1, h => by
    have := sDee_lt δ r (by omega)
    unfold sDee
    split <;> omega
theorem sDee_1 (δ : Nat → Int32) : sDee δ 1 = 0 := by
  show (if δ (8 + 0) ≤ δ (8 + 0) then 0 else 0) = 0
  split <;> rfl
def sWrk (q : Option xq) (δ : Nat → Int32) (n : Nat) : Int32 := sSet (fun m => decide (¬ sAdds q δ m = 0)) n
def sAdI (q : Option xq) (δ : Nat → Int32) (r : Int32) : Nat → Int32
  | 0 => 0
  | m + 1 => sAdI q δ r m + (if δ (20 + 4 * m + 2) = r then sAdds q δ m else 0)
def sMat (δ : Nat → Int32) (n : Nat) : Nat := nSet (fun m => decide (¬ δ (20 + 4 * m + 1) ≤ 0 ∧ ¬ δ (20 + 4 * m) = 5)) n
def sRub (S : Nat) : Nat → Nat → (Nat → Int32) → Nat → Int32
  | 0, _, δ => δ
  | j + 1, m, δ => sRub S j (m + 1) (if S.testBit m = true then upd δ (20 + 4 * m + 1) 0 else δ)
theorem mw_rub (S : Nat) : ∀ j m, m + j ≤ 10 → ∀ δ : Nat → Int32, wf δ → mw δ (sRub S j m δ)
  | 0, _, _, _, h => mw_refl h
  | j + 1, m, hm, δ, h => by
    unfold sRub
    by_cases hb : S.testBit m = true
    · rw [if_pos hb]
      have h1 := mw_upd h (k := 20 + 4 * m + 1) (x := 0) (by unfold fx; omega) (okk_of (bnd_ink (show m < 10 by omega)) ⟨0, by omega, rfl⟩)
      exact mw_trans h1 (mw_rub S j (m + 1) (by omega) _ h1.1)
    · rw [if_neg hb]
      exact mw_rub S j (m + 1) (by omega) _ h
section SUMR
variable {k : Nat} {δ : Nat → Int32} {τ : xt} {κ : Nat → Nat → Int32} {H : xh}
theorem r_lacks (d : Nat) (hk : k < 50) (m : Int32) : Ev (d + 2) 2 [.ref k, .int m] (rv k δ τ κ H) = some (some (.int (bi (m < 0 ∨ δ 0 - 1 < m))), rv k δ τ κ H) := by
  rw [E2]
  simp only [S2_0, S2_1, S2_2, S2_3, S2_6, S2_7, S2_8, S2_11, Option.bind_some, Option.map_some, xpush_s, xpush_n, xcat_0, xcat_i, xcat_r, xcat_l, xcat_n, xcat_e, xir_r, Nat.reduceAdd, Nat.reduceLeDiff, Nat.zero_le, Nat.le_refl, ↓reduceIte, Rg_1 hk, s_outside, bi_nar]
theorem r_wat_l (ev : xe) (hk : k < 50) : ∀ j r, r + j = 12 → RF 17 ev 4 [some (.ref k), some (.int (sWat δ r)), some (.int (nI r))] [] (rv k δ τ κ H) = some (some (.int (sWat δ 12)), rv k δ τ κ H)
  | 0, r, e => by
    have e' : r = 12 := by omega
    subst e'
    rw [S17_4]
    simp only [S17_0, S17_1, S17_2, S17_3, S17_5, S17_7, S17_10, S17_11, S17_12, S17_15, S17_16, S17_17, S17_18, S17_19, S17_22, S17_25, S17_26, Option.bind_some, Option.map_some, xpush_s, xpush_n, xcat_0, xcat_i, xcat_r, xcat_l, xcat_n, xcat_e, xir_r, Nat.reduceAdd, Nat.reduceLeDiff, Nat.zero_le, Nat.le_refl, ↓reduceIte, show ((12 : Int32) ≤ nI 12) = True from eq_true (Int32.le_refl _)]
  | j + 1, r, e => by
    have hc : ¬ (12 : Int32) ≤ nI r := nI_ge (b := 12) (by omega) (by decide)
    have ih := r_wat_l ev hk j (r + 1) (by omega)
    rw [S17_4]
    simp only [S17_0, S17_1, S17_2, S17_3, S17_5, S17_7, S17_10, S17_11, S17_12, S17_15, S17_16, S17_17, S17_18, S17_19, S17_22, S17_25, S17_26, Option.bind_some, Option.map_some, xpush_s, xpush_n, xcat_0, xcat_i, xcat_r, xcat_l, xcat_n, xcat_e, xir_r, Nat.reduceAdd, Nat.reduceLeDiff, Nat.zero_le, Nat.le_refl, ↓reduceIte, hc, Rg_0 hk, Rr_w hk (show r < 12 by omega), nI_1]
    exact ih
theorem r_wat (d : Nat) (hk : k < 50) : Ev (d + 1) 17 [.ref k] (rv k δ τ κ H) = some (some (.int (sWat δ 12)), rv k δ τ κ H) := by
  rw [E17]
  have h0 := r_wat_l (δ := δ) (τ := τ) (κ := κ) (H := H) (Ev d) hk 12 0 rfl
  simp only [S17_0, S17_1, S17_2, S17_3, S17_5, S17_7, S17_10, S17_11, S17_12, S17_15, S17_16, S17_17, S17_18, S17_19, S17_22, S17_25, S17_26]
  exact h0
theorem r_ink_l (ev : xe) (hk : k < 50) {n : Nat} (hn : δ 0 = nI n) (h10 : n ≤ 10) : ∀ j m, m + j = n → RF 18 ev 4 [some (.ref k), some (.int (sInk δ m)), some (.int (nI m))] [] (rv k δ τ κ H) = some (some (.int (sInk δ n)), rv k δ τ κ H)
  | 0, m, e => by
    have e' : m = n := by omega
    subst e'
    rw [S18_4]
    simp only [S18_0, S18_1, S18_2, S18_3, S18_5, S18_6, S18_9, S18_12, S18_13, S18_14, S18_17, S18_18, S18_19, S18_20, S18_21, S18_24, S18_27, S18_28, Option.bind_some, Option.map_some, xpush_s, xpush_n, xcat_0, xcat_i, xcat_r, xcat_l, xcat_n, xcat_e, xir_r, Nat.reduceAdd, Nat.reduceLeDiff, Nat.zero_le, Nat.le_refl, ↓reduceIte, Rg_1 hk, hn, show (nI m ≤ nI m) = True from eq_true (Int32.le_refl _)]
  | j + 1, m, e => by
    have hc : ¬ nI n ≤ nI m := nI_ge (by omega) (by omega)
    have ih := r_ink_l ev hk hn h10 j (m + 1) (by omega)
    rw [S18_4]
    simp only [S18_0, S18_1, S18_2, S18_3, S18_5, S18_6, S18_9, S18_12, S18_13, S18_14, S18_17, S18_18, S18_19, S18_20, S18_21, S18_24, S18_27, S18_28, Option.bind_some, Option.map_some, xpush_s, xpush_n, xcat_0, xcat_i, xcat_r, xcat_l, xcat_n, xcat_e, xir_r, Nat.reduceAdd, Nat.reduceLeDiff, Nat.zero_le, Nat.le_refl, ↓reduceIte, hc, Rg_1 hk, Rg_3 hk, hn, Rr_m1 hk (show m < 10 by omega), nI_1]
    exact ih
theorem r_ink (d : Nat) (hk : k < 50) (hw : wf δ) : Ev (d + 1) 18 [.ref k] (rv k δ τ κ H) = some (some (.int (sInk δ (nn (δ 0)))), rv k δ τ κ H) := by
  rw [E18]
  have h0 := r_ink_l (τ := τ) (κ := κ) (H := H) (Ev d) hk hw.eN.1 hw.eN.2 (nn (δ 0)) 0 (by omega)
  simp only [S18_0, S18_1, S18_2, S18_3, S18_5, S18_6, S18_9, S18_12, S18_13, S18_14, S18_17, S18_18, S18_19, S18_20, S18_21, S18_24, S18_27, S18_28]
  exact h0
theorem r_dry_l (ev : xe) (hk : k < 50) : ∀ j r, r + j = 12 → RF 19 ev 4 [some (.ref k), some (.int (sDry δ r)), some (.int (nI r))] [] (rv k δ τ κ H) = some (some (.int (sDry δ 12)), rv k δ τ κ H)
  | 0, r, e => by
    have e' : r = 12 := by omega
    subst e'
    rw [S19_4]
    simp only [S19_0, S19_1, S19_2, S19_3, S19_5, S19_7, S19_10, S19_11, S19_14, S19_15, S19_16, S19_19, S19_20, S19_21, S19_22, S19_23, S19_24, S19_25, S19_28, S19_31, S19_32, Option.bind_some, Option.map_some, xpush_s, xpush_n, xcat_0, xcat_i, xcat_r, xcat_l, xcat_n, xcat_e, xir_r, Nat.reduceAdd, Nat.reduceLeDiff, Nat.zero_le, Nat.le_refl, ↓reduceIte, show ((12 : Int32) ≤ nI 12) = True from eq_true (Int32.le_refl _)]
  | j + 1, r, e => by
    have hc : ¬ (12 : Int32) ≤ nI r := nI_ge (b := 12) (by omega) (by decide)
    have ih := r_dry_l ev hk j (r + 1) (by omega)
    rw [S19_4]
    by_cases hz : δ (8 + r) = 0
    · rw [show sDry δ (r + 1) = _ from sSet_t (by simp [hz])] at ih
      simp only [S19_0, S19_1, S19_2, S19_3, S19_5, S19_7, S19_10, S19_11, S19_14, S19_15, S19_16, S19_19, S19_20, S19_21, S19_22, S19_23, S19_24, S19_25, S19_28, S19_31, S19_32, Option.bind_some, Option.map_some, xpush_s, xpush_n, xcat_0, xcat_i, xcat_r, xcat_l, xcat_n, xcat_e, xir_r, Nat.reduceAdd, Nat.reduceLeDiff, Nat.zero_le, Nat.le_refl, ↓reduceIte, hc, Rg_0 hk, Rr_w hk (show r < 12 by omega), hz, nI_1]
      exact ih
    · rw [show sDry δ (r + 1) = _ from sSet_f (by simp [hz]), i_or0] at ih
      simp only [S19_0, S19_1, S19_2, S19_3, S19_5, S19_7, S19_10, S19_11, S19_14, S19_15, S19_16, S19_19, S19_20, S19_21, S19_22, S19_23, S19_24, S19_25, S19_28, S19_31, S19_32, Option.bind_some, Option.map_some, xpush_s, xpush_n, xcat_0, xcat_i, xcat_r, xcat_l, xcat_n, xcat_e, xir_r, Nat.reduceAdd, Nat.reduceLeDiff, Nat.zero_le, Nat.le_refl, ↓reduceIte, hc, Rg_0 hk, Rr_w hk (show r < 12 by omega), if_neg hz, nI_1]
      exact ih
theorem r_dry (d : Nat) (hk : k < 50) : Ev (d + 1) 19 [.ref k] (rv k δ τ κ H) = some (some (.int (sDry δ 12)), rv k δ τ κ H) := by
  rw [E19]
  have h0 := r_dry_l (δ := δ) (τ := τ) (κ := κ) (H := H) (Ev d) hk 12 0 rfl
  simp only [S19_0, S19_1, S19_2, S19_3, S19_5, S19_7, S19_10, S19_11, S19_14, S19_15, S19_16, S19_19, S19_20, S19_21, S19_22, S19_23, S19_24, S19_25, S19_28, S19_31, S19_32]
  exact h0
theorem r_dee_l (ev : xe) (hk : k < 50) : ∀ j r, r + j = 12 → RF 14 ev 4 [some (.ref k), some (.int (nI (sDee δ r))), some (.int (nI r))] [] (rv k δ τ κ H) = some (some (.int (nI (sDee δ 12))), rv k δ τ κ H)
  | 0, r, e => by
    have e' : r = 12 := by omega
    subst e'
    rw [S14_4]
    simp only [S14_0, S14_1, S14_2, S14_3, S14_5, S14_7, S14_10, S14_11, S14_14, S14_15, S14_16, S14_17, S14_20, S14_21, S14_22, S14_25, S14_26, S14_27, S14_30, S14_33, S14_34, Option.bind_some, Option.map_some, xpush_s, xpush_n, xcat_0, xcat_i, xcat_r, xcat_l, xcat_n, xcat_e, xir_r, Nat.reduceAdd, Nat.reduceLeDiff, Nat.zero_le, Nat.le_refl, ↓reduceIte, show ((12 : Int32) ≤ nI 12) = True from eq_true (Int32.le_refl _)]
  | j + 1, r, e => by
    have hc : ¬ (12 : Int32) ≤ nI r := nI_ge (b := 12) (by omega) (by decide)
    have hlt := sDee_lt δ r (by omega)
    have ih := r_dee_l ev hk j (r + 1) (by omega)
    rw [S14_4]
    by_cases hz : δ (8 + r) ≤ δ (8 + sDee δ r)
    · rw [show sDee δ (r + 1) = sDee δ r from if_pos hz] at ih
      simp only [S14_0, S14_1, S14_2, S14_3, S14_5, S14_7, S14_10, S14_11, S14_14, S14_15, S14_16, S14_17, S14_20, S14_21, S14_22, S14_25, S14_26, S14_27, S14_30, S14_33, S14_34, Option.bind_some, Option.map_some, xpush_s, xpush_n, xcat_0, xcat_i, xcat_r, xcat_l, xcat_n, xcat_e, xir_r, Nat.reduceAdd, Nat.reduceLeDiff, Nat.zero_le, Nat.le_refl, ↓reduceIte, hc, Rg_0 hk, Rr_w hk (show r < 12 by omega), Rr_w hk hlt, hz, nI_1]
      exact ih
    · rw [show sDee δ (r + 1) = r from if_neg hz] at ih
      simp only [S14_0, S14_1, S14_2, S14_3, S14_5, S14_7, S14_10, S14_11, S14_14, S14_15, S14_16, S14_17, S14_20, S14_21, S14_22, S14_25, S14_26, S14_27, S14_30, S14_33, S14_34, Option.bind_some, Option.map_some, xpush_s, xpush_n, xcat_0, xcat_i, xcat_r, xcat_l, xcat_n, xcat_e, xir_r, Nat.reduceAdd, Nat.reduceLeDiff, Nat.zero_le, Nat.le_refl, ↓reduceIte, hc, Rg_0 hk, Rr_w hk (show r < 12 by omega), Rr_w hk hlt, hz, nI_1]
      exact ih
theorem r_dee (d : Nat) (hk : k < 50) : Ev (d + 1) 14 [.ref k] (rv k δ τ κ H) = some (some (.int (nI (sDee δ 12))), rv k δ τ κ H) := by
  rw [E14]
  have h0 := r_dee_l (δ := δ) (τ := τ) (κ := κ) (H := H) (Ev d) hk 11 1 rfl
  rw [sDee_1] at h0
  simp only [S14_0, S14_1, S14_2, S14_3, S14_5, S14_7, S14_10, S14_11, S14_14, S14_15, S14_16, S14_17, S14_20, S14_21, S14_22, S14_25, S14_26, S14_27, S14_30, S14_33, S14_34]
  exact h0
/-- one number of the river -/
def sSum (δ : Nat → Int32) (w : Nat) : Int32 := if w = 0 then δ 4 else if w = 1 then δ 5 else if w = 2 then sWat δ 12 else if w = 3 then sInk δ (nn (δ 0)) else sDry δ 12
theorem r_sum (d : Nat) (hk : k < 50) (hw : wf δ) {w : Nat} (h : w < 5) : Ev (d + 2) 16 [.ref k, .int (nI w)] (rv k δ τ κ H) = some (some (.int (sSum δ w)), rv k δ τ κ H) := by
  rw [E16]
  match w, h with
  | 0, _ => simp (config := { decide := true }) only [S16_0, S16_1, S16_32, S16_33, S16_36, S16_37, S16_38, S16_41, S16_42, S16_43, S16_46, S16_47, S16_48, S16_51, S16_52, S16_53, S16_56, Option.bind_some, Option.map_some, xpush_s, xpush_n, xcat_0, xcat_i, xcat_r, xcat_l, xcat_n, xcat_e, xir_r, Nat.reduceAdd, Nat.reduceLeDiff, Nat.zero_le, Nat.le_refl, ↓reduceIte, Rg_8 hk, sSum, if_true, if_false]
  | 1, _ => simp (config := { decide := true }) only [S16_0, S16_1, S16_32, S16_33, S16_36, S16_37, S16_38, S16_41, S16_42, S16_43, S16_46, S16_47, S16_48, S16_51, S16_52, S16_53, S16_56, Option.bind_some, Option.map_some, xpush_s, xpush_n, xcat_0, xcat_i, xcat_r, xcat_l, xcat_n, xcat_e, xir_r, Nat.reduceAdd, Nat.reduceLeDiff, Nat.zero_le, Nat.le_refl, ↓reduceIte, Rg_9 hk, sSum, if_true, if_false]
  | 2, _ => simp (config := { decide := true }) only [S16_0, S16_1, S16_32, S16_33, S16_36, S16_37, S16_38, S16_41, S16_42, S16_43, S16_46, S16_47, S16_48, S16_51, S16_52, S16_53, S16_56, Option.bind_some, Option.map_some, xpush_s, xpush_n, xcat_0, xcat_i, xcat_r, xcat_l, xcat_n, xcat_e, xir_r, Nat.reduceAdd, Nat.reduceLeDiff, Nat.zero_le, Nat.le_refl, ↓reduceIte, Rcls hk, r_wat _ hk, sSum, if_true, if_false]
  | 3, _ => simp (config := { decide := true }) only [S16_0, S16_1, S16_32, S16_33, S16_36, S16_37, S16_38, S16_41, S16_42, S16_43, S16_46, S16_47, S16_48, S16_51, S16_52, S16_53, S16_56, Option.bind_some, Option.map_some, xpush_s, xpush_n, xcat_0, xcat_i, xcat_r, xcat_l, xcat_n, xcat_e, xir_r, Nat.reduceAdd, Nat.reduceLeDiff, Nat.zero_le, Nat.le_refl, ↓reduceIte, Rcls hk, r_ink _ hk hw, sSum, if_true, if_false]
  | 4, _ => simp (config := { decide := true }) only [S16_0, S16_1, S16_32, S16_33, S16_36, S16_37, S16_38, S16_41, S16_42, S16_43, S16_46, S16_47, S16_48, S16_51, S16_52, S16_53, S16_56, Option.bind_some, Option.map_some, xpush_s, xpush_n, xcat_0, xcat_i, xcat_r, xcat_l, xcat_n, xcat_e, xir_r, Nat.reduceAdd, Nat.reduceLeDiff, Nat.zero_le, Nat.le_refl, ↓reduceIte, Rcls hk, r_dry _ hk, sSum, if_true, if_false]
theorem r_mat_l (ev : xe) (hk : k < 50) {n : Nat} (hn : δ 0 = nI n) (h10 : n ≤ 10) : ∀ j m, m + j = n → RF 21 ev 4 [some (.ref k), some (.int (nI (sMat δ m))), some (.int (nI m))] [] (rv k δ τ κ H) = some (some (.int (nI (sMat δ n))), rv k δ τ κ H)
  | 0, m, e => by
    have e' : m = n := by omega
    subst e'
    rw [S21_4]
    simp only [S21_0, S21_1, S21_2, S21_3, S21_5, S21_6, S21_9, S21_12, S21_13, S21_16, S21_17, S21_18, S21_21, S21_22, S21_25, S21_26, S21_27, S21_28, S21_31, S21_32, S21_33, S21_34, S21_35, S21_36, S21_37, S21_40, S21_43, S21_44, Option.bind_some, Option.map_some, xpush_s, xpush_n, xcat_0, xcat_i, xcat_r, xcat_l, xcat_n, xcat_e, xir_r, Nat.reduceAdd, Nat.reduceLeDiff, Nat.zero_le, Nat.le_refl, ↓reduceIte, Rg_1 hk, hn, show (nI m ≤ nI m) = True from eq_true (Int32.le_refl _)]
  | j + 1, m, e => by
    have hc : ¬ nI n ≤ nI m := nI_ge (by omega) (by omega)
    have hm : m < 10 := by omega
    have ih := r_mat_l ev hk hn h10 j (m + 1) (by omega)
    rw [S21_4]
    by_cases h1 : δ (20 + 4 * m + 1) ≤ 0
    · rw [show sMat δ (m + 1) = sMat δ m from if_neg (by simp [h1])] at ih
      simp only [S21_0, S21_1, S21_2, S21_3, S21_5, S21_6, S21_9, S21_12, S21_13, S21_16, S21_17, S21_18, S21_21, S21_22, S21_25, S21_26, S21_27, S21_28, S21_31, S21_32, S21_33, S21_34, S21_35, S21_36, S21_37, S21_40, S21_43, S21_44, Option.bind_some, Option.map_some, xpush_s, xpush_n, xcat_0, xcat_i, xcat_r, xcat_l, xcat_n, xcat_e, xir_r, Nat.reduceAdd, Nat.reduceLeDiff, Nat.zero_le, Nat.le_refl, ↓reduceIte, hc, Rg_1 hk, Rg_3 hk, hn, Rr_m1 hk hm, h1, nI_1]
      exact ih
    · by_cases h2 : δ (20 + 4 * m) = 5
      · rw [show sMat δ (m + 1) = sMat δ m from if_neg (by simp [h2])] at ih
        simp only [S21_0, S21_1, S21_2, S21_3, S21_5, S21_6, S21_9, S21_12, S21_13, S21_16, S21_17, S21_18, S21_21, S21_22, S21_25, S21_26, S21_27, S21_28, S21_31, S21_32, S21_33, S21_34, S21_35, S21_36, S21_37, S21_40, S21_43, S21_44, Option.bind_some, Option.map_some, xpush_s, xpush_n, xcat_0, xcat_i, xcat_r, xcat_l, xcat_n, xcat_e, xir_r, Nat.reduceAdd, Nat.reduceLeDiff, Nat.zero_le, Nat.le_refl, ↓reduceIte, hc, Rg_1 hk, Rg_3 hk, Rg_2 hk, hn, Rr_m1 hk hm, Rr_m0 hk hm, h1, h2, nI_1]
        exact ih
      · rw [show sMat δ (m + 1) = sMat δ m ||| 2 ^ m from if_pos (by simp [h1, h2])] at ih
        simp only [S21_0, S21_1, S21_2, S21_3, S21_5, S21_6, S21_9, S21_12, S21_13, S21_16, S21_17, S21_18, S21_21, S21_22, S21_25, S21_26, S21_27, S21_28, S21_31, S21_32, S21_33, S21_34, S21_35, S21_36, S21_37, S21_40, S21_43, S21_44, Option.bind_some, Option.map_some, xpush_s, xpush_n, xcat_0, xcat_i, xcat_r, xcat_l, xcat_n, xcat_e, xir_r, Nat.reduceAdd, Nat.reduceLeDiff, Nat.zero_le, Nat.le_refl, ↓reduceIte, hc, Rg_1 hk, Rg_3 hk, Rg_2 hk, hn, Rr_m1 hk hm, Rr_m0 hk hm, h1, if_neg h2, sh1 m (by omega), nI_or, nI_1]
        exact ih
theorem r_mat (d : Nat) (hk : k < 50) (hw : wf δ) : Ev (d + 1) 21 [.ref k] (rv k δ τ κ H) = some (some (.int (nI (sMat δ (nn (δ 0))))), rv k δ τ κ H) := by
  rw [E21]
  have h0 := r_mat_l (τ := τ) (κ := κ) (H := H) (Ev d) hk hw.eN.1 hw.eN.2 (nn (δ 0)) 0 (by omega)
  simp only [S21_0, S21_1, S21_2, S21_3, S21_5, S21_6, S21_9, S21_12, S21_13, S21_16, S21_17, S21_18, S21_21, S21_22, S21_25, S21_26, S21_27, S21_28, S21_31, S21_32, S21_33, S21_34, S21_35, S21_36, S21_37, S21_40, S21_43, S21_44]
  exact h0
theorem r_rub_l (ev : xe) (hk : k < 50) {n S : Nat} (h10 : n ≤ 10) (hS : S < 2 ^ 31) : ∀ j m, m + j = n → ∀ δ : Nat → Int32, δ 0 = nI n → RF 22 ev 2 [some (.ref k), some (.int (nI S)), some (.int (nI m))] [] (rv k δ τ κ H) = some (none, rv k (sRub S j m δ) τ κ H)
  | 0, m, e, δ, hn => by
    have e' : m = n := by omega
    subst e'
    rw [S22_2]
    simp only [S22_0, S22_1, S22_3, S22_4, S22_7, S22_10, S22_11, S22_12, S22_13, S22_14, S22_15, S22_16, S22_19, S22_20, S22_23, S22_24, S22_25, S22_26, S22_29, S22_32, Option.bind_some, Option.map_some, xpush_s, xpush_n, xcat_0, xcat_i, xcat_r, xcat_l, xcat_n, xcat_e, xir_r, Nat.reduceAdd, Nat.reduceLeDiff, Nat.zero_le, Nat.le_refl, ↓reduceIte, Rg_1 hk, hn, show (nI m ≤ nI m) = True from eq_true (Int32.le_refl _)]
    rfl
  | j + 1, m, e, δ, hn => by
    have hc : ¬ nI n ≤ nI m := nI_ge (by omega) (by omega)
    have hm : m < 10 := by omega
    have hb := bit_t (n := S) (r := m) hS (by omega)
    rw [S22_2]
    unfold sRub
    by_cases h1 : S.testBit m = true
    · have h1' := hb.mpr h1
      have ih := r_rub_l ev hk h10 hS j (m + 1) (by omega) (upd δ (20 + 4 * m + 1) 0) (by rw [up_n _ _ (by omega)]; exact hn)
      rw [if_pos h1]
      simp only [S22_0, S22_1, S22_3, S22_4, S22_7, S22_10, S22_11, S22_12, S22_13, S22_14, S22_15, S22_16, S22_19, S22_20, S22_23, S22_24, S22_25, S22_26, S22_29, S22_32, Option.bind_some, Option.map_some, xpush_s, xpush_n, xcat_0, xcat_i, xcat_r, xcat_l, xcat_n, xcat_e, xir_r, Nat.reduceAdd, Nat.reduceLeDiff, Nat.zero_le, Nat.le_refl, ↓reduceIte, hc, Rg_1 hk, Rg_3 hk, hn, h1', Rw_m1 hk hm, nI_1]
      exact ih
    · have h1' : ¬ _ := fun q => h1 (hb.mp q)
      have ih := r_rub_l ev hk h10 hS j (m + 1) (by omega) δ hn
      rw [if_neg h1]
      simp only [S22_0, S22_1, S22_3, S22_4, S22_7, S22_10, S22_11, S22_12, S22_13, S22_14, S22_15, S22_16, S22_19, S22_20, S22_23, S22_24, S22_25, S22_26, S22_29, S22_32, Option.bind_some, Option.map_some, xpush_s, xpush_n, xcat_0, xcat_i, xcat_r, xcat_l, xcat_n, xcat_e, xir_r, Nat.reduceAdd, Nat.reduceLeDiff, Nat.zero_le, Nat.le_refl, ↓reduceIte, hc, Rg_1 hk, hn, h1', nI_1]
      exact ih
theorem r_rub (d : Nat) (hk : k < 50) (hw : wf δ) {S : Nat} (hS : S < 2 ^ 31) : Ev (d + 1) 22 [.ref k, .int (nI S)] (rv k δ τ κ H) = some (none, rv k (sRub S (nn (δ 0)) 0 δ) τ κ H) := by
  rw [E22]
  have h0 := r_rub_l (τ := τ) (κ := κ) (H := H) (Ev d) hk hw.eN.2 hS (nn (δ 0)) 0 (by omega) δ hw.eN.1
  simp only [S22_0, S22_1, S22_3, S22_4, S22_7, S22_10, S22_11, S22_12, S22_13, S22_14, S22_15, S22_16, S22_19, S22_20, S22_23, S22_24, S22_25, S22_26, S22_29, S22_32]
  exact h0
theorem r_addMark (d : Nat) (hk : k < 50) (hw : wf δ) (x y z : Int32) (h : nn (δ 0) < 10) : Ev (d + 2) 1 [.ref k, .int x, .int y, .int z] (rv k δ τ κ H) = some (some (.int (δ 0)), rv k (upd (upd (upd (upd (upd δ (20 + 4 * nn (δ 0)) x) (20 + 4 * nn (δ 0) + 1) y) (20 + 4 * nn (δ 0) + 2) z) (20 + 4 * nn (δ 0) + 3) 0) 0 (δ 0 + 1)) τ κ H) := by
  have eN := hw.eN
  have ho : bi (δ 0 < 0 ∨ 9 < δ 0) = 0 := bi_f (by
    rw [eN.1]
    rintro (q | q)
    · exact nI_pos (by omega) q
    · exact nI_nlt (b := nn (δ 0)) (a := 9) (by omega) (by decide) q)
  have w0 := Rw_m0 (δ := δ) (τ := τ) (κ := κ) (H := H) hk h x
  have w1 := Rw_m1 (δ := upd δ (20 + 4 * nn (δ 0)) x) (τ := τ) (κ := κ) (H := H) hk h y
  have w2 := Rw_m2 (δ := upd (upd δ (20 + 4 * nn (δ 0)) x) (20 + 4 * nn (δ 0) + 1) y) (τ := τ) (κ := κ) (H := H) hk h z
  have w3 := Rw_m3 (δ := upd (upd (upd δ (20 + 4 * nn (δ 0)) x) (20 + 4 * nn (δ 0) + 1) y) (20 + 4 * nn (δ 0) + 2) z) (τ := τ) (κ := κ) (H := H) hk h 0
  rw [← eN.1] at w0 w1 w2 w3
  rw [E1]
  simp only [S1_0, S1_1, S1_4, S1_5, S1_7, S1_10, S1_13, S1_15, S1_16, S1_17, S1_20, S1_22, S1_23, S1_26, S1_28, S1_29, S1_30, S1_31, S1_34, S1_36, S1_37, S1_38, S1_39, S1_42, S1_44, S1_45, S1_46, S1_47, S1_50, S1_52, S1_53, S1_54, S1_55, S1_56, S1_59, S1_60, S1_61, S1_64, S1_66, Option.bind_some, Option.map_some, xpush_s, xpush_n, xcat_0, xcat_i, xcat_r, xcat_l, xcat_n, xcat_e, xir_r, Nat.reduceAdd, Nat.reduceLeDiff, Nat.zero_le, Nat.le_refl, ↓reduceIte, Rg_1 hk, Rg_2 hk, Rg_3 hk, Rg_4 hk, Rg_5 hk, s_outside, ho, w0, w1, w2, w3, cat_r, Rp_1 hk, up_n _ _ (show 0 ≠ 20 + 4 * nn (δ 0) by omega), up_n _ _ (show 0 ≠ 20 + 4 * nn (δ 0) + 1 by omega), up_n _ _ (show 0 ≠ 20 + 4 * nn (δ 0) + 2 by omega), up_n _ _ (show 0 ≠ 20 + 4 * nn (δ 0) + 3 by omega)]
theorem r_addMarkF (d : Nat) (hk : k < 50) (x y z : Int32) (h : δ 0 = nI 10) : Ev (d + 2) 1 [.ref k, .int x, .int y, .int z] (rv k δ τ κ H) = some (some (.int (-1000000003)), rv k δ τ κ H) := by
  have ho : bi (δ 0 < 0 ∨ 9 < δ 0) = 1 := bi_t (by rw [h]; decide)
  rw [E1]
  simp only [S1_0, S1_1, S1_4, S1_5, S1_7, S1_10, S1_13, S1_15, S1_16, S1_17, S1_20, S1_22, S1_23, S1_26, S1_28, S1_29, S1_30, S1_31, S1_34, S1_36, S1_37, S1_38, S1_39, S1_42, S1_44, S1_45, S1_46, S1_47, S1_50, S1_52, S1_53, S1_54, S1_55, S1_56, S1_59, S1_60, S1_61, S1_64, S1_66, Option.bind_some, Option.map_some, xpush_s, xpush_n, xcat_0, xcat_i, xcat_r, xcat_l, xcat_n, xcat_e, xir_r, Nat.reduceAdd, Nat.reduceLeDiff, Nat.zero_le, Nat.le_refl, ↓reduceIte, Rg_1 hk, s_outside, ho, show ¬ (1 : Int32) = 0 by decide]
end SUMR
section SUMA
variable {k : Nat} {δ : Nat → Int32} {τ : xt} {H : xh}
theorem r_adI_l (d : Nat) (hk : k < 50) {q : Option xq} (hw : wf δ) (hq : QR H τ 0 q) {n : Nat} (hn : nn (δ 0) = n) (r : Int32) : ∀ j m, m + j = n → ∀ κ, ∃ κ', RF 6 (Ev (d + 3)) 10 [some (.ref k), some (.int r), some (.int (nI (nStet δ n))), some (.int (sAdI q δ r m)), some (.int (nI m))] [] (rv k δ τ κ H) = some (some (.int (sAdI q δ r n)), rv k δ τ κ' H)
  | 0, m, e, κ => by
    have e' : m = n := by omega
    subst e'
    have h0 := hw.eN.1
    rw [hn] at h0
    refine ⟨κ, ?_⟩
    rw [S6_10]
    simp only [S6_0, S6_1, S6_4, S6_5, S6_6, S6_7, S6_8, S6_12, S6_13, S6_16, S6_19, S6_20, S6_23, S6_25, S6_26, S6_27, S6_30, S6_31, S6_32, S6_34, S6_35, S6_38, S6_39, S6_40, S6_43, S6_46, S6_47, Option.bind_some, Option.map_some, xpush_s, xpush_n, xcat_0, xcat_i, xcat_r, xcat_l, xcat_n, xcat_e, xir_r, Nat.reduceAdd, Nat.reduceLeDiff, Nat.zero_le, Nat.le_refl, ↓reduceIte, Rg_1 hk, h0, show (nI m ≤ nI m) = True from eq_true (Int32.le_refl _)]
  | j + 1, m, e, κ => by
    have h0 := hw.eN
    rw [hn] at h0
    have hm : m < 10 := by omega
    have eR := hw.eR hm
    have hc : ¬ nI n ≤ nI m := nI_ge (by omega) (by omega)
    by_cases hr : δ (20 + 4 * m + 2) = r
    · obtain ⟨κ1, h1⟩ := r_adds (κ := κ) d hk hw hq (S := nStet δ n) (nStet_lt hw n h0.2) (m := m) (by omega) (by rw [hn, nStet_bit hw (by omega) n h0.2, ← eR.1])
      obtain ⟨κ2, ih⟩ := r_adI_l d hk hw hq hn r j (m + 1) (by omega) κ1
      refine ⟨κ2, ?_⟩
      rw [show sAdI q δ r (m + 1) = sAdI q δ r m + sAdds q δ m by show _ + (if _ then _ else _) = _; rw [if_pos hr]] at ih
      rw [S6_10]
      simp only [S6_0, S6_1, S6_4, S6_5, S6_6, S6_7, S6_8, S6_12, S6_13, S6_16, S6_19, S6_20, S6_23, S6_25, S6_26, S6_27, S6_30, S6_31, S6_32, S6_34, S6_35, S6_38, S6_39, S6_40, S6_43, S6_46, S6_47, Option.bind_some, Option.map_some, xpush_s, xpush_n, xcat_0, xcat_i, xcat_r, xcat_l, xcat_n, xcat_e, xir_r, Nat.reduceAdd, Nat.reduceLeDiff, Nat.zero_le, Nat.le_refl, ↓reduceIte, hc, Rg_1 hk, Rg_4 hk, Rcls hk, h0.1, Rr_m2 hk hm, if_pos hr, h1, nI_1]
      exact ih
    · obtain ⟨κ2, ih⟩ := r_adI_l d hk hw hq hn r j (m + 1) (by omega) κ
      refine ⟨κ2, ?_⟩
      rw [show sAdI q δ r (m + 1) = sAdI q δ r m by show _ + (if _ then _ else _) = _; rw [if_neg hr, Int32.add_zero]] at ih
      rw [S6_10]
      simp only [S6_0, S6_1, S6_4, S6_5, S6_6, S6_7, S6_8, S6_12, S6_13, S6_16, S6_19, S6_20, S6_23, S6_25, S6_26, S6_27, S6_30, S6_31, S6_32, S6_34, S6_35, S6_38, S6_39, S6_40, S6_43, S6_46, S6_47, Option.bind_some, Option.map_some, xpush_s, xpush_n, xcat_0, xcat_i, xcat_r, xcat_l, xcat_n, xcat_e, xir_r, Nat.reduceAdd, Nat.reduceLeDiff, Nat.zero_le, Nat.le_refl, ↓reduceIte, hc, Rg_1 hk, Rg_4 hk, h0.1, Rr_m2 hk hm, if_neg hr, nI_1]
      exact ih
theorem r_adI (d : Nat) (hk : k < 50) {q : Option xq} (hw : wf δ) (hq : QR H τ 0 q) (r : Int32) (κ : Nat → Nat → Int32) : ∃ κ', Ev (d + 4) 6 [.ref k, .int r] (rv k δ τ κ H) = some (some (.int (sAdI q δ r (nn (δ 0)))), rv k δ τ κ' H) := by
  obtain ⟨κ', h⟩ := r_adI_l d hk hw hq rfl r (nn (δ 0)) 0 (by omega) κ
  refine ⟨κ', ?_⟩
  rw [E6]
  simp only [S6_0, S6_1, S6_4, S6_5, S6_6, S6_7, S6_8, S6_12, S6_13, S6_16, S6_19, S6_20, S6_23, S6_25, S6_26, S6_27, S6_30, S6_31, S6_32, S6_34, S6_35, S6_38, S6_39, S6_40, S6_43, S6_46, S6_47, Option.bind_some, Option.map_some, xpush_s, xpush_n, xcat_0, xcat_i, xcat_r, xcat_l, xcat_n, xcat_e, xir_r, Nat.reduceAdd, Nat.reduceLeDiff, Nat.zero_le, Nat.le_refl, ↓reduceIte, Rcls hk, r_stet _ hk hw]
  exact h
theorem r_wrk_l (d : Nat) (hk : k < 50) {q : Option xq} (hw : wf δ) (hq : QR H τ 0 q) {n : Nat} (hn : nn (δ 0) = n) : ∀ j m, m + j = n → ∀ κ, ∃ κ', RF 15 (Ev (d + 3)) 9 [some (.ref k), some (.int (nI (nStet δ n))), some (.int (sWrk q δ m)), some (.int (nI m))] [] (rv k δ τ κ H) = some (some (.int (sWrk q δ n)), rv k δ τ κ' H)
  | 0, m, e, κ => by
    have e' : m = n := by omega
    subst e'
    have h0 := hw.eN.1
    rw [hn] at h0
    refine ⟨κ, ?_⟩
    rw [S15_9]
    simp only [S15_0, S15_1, S15_4, S15_5, S15_6, S15_7, S15_8, S15_10, S15_11, S15_14, S15_17, S15_18, S15_19, S15_20, S15_23, S15_26, S15_27, S15_28, S15_29, S15_30, S15_31, S15_32, S15_35, S15_38, S15_39, Option.bind_some, Option.map_some, xpush_s, xpush_n, xcat_0, xcat_i, xcat_r, xcat_l, xcat_n, xcat_e, xir_r, Nat.reduceAdd, Nat.reduceLeDiff, Nat.zero_le, Nat.le_refl, ↓reduceIte, Rg_1 hk, h0, show (nI m ≤ nI m) = True from eq_true (Int32.le_refl _)]
  | j + 1, m, e, κ => by
    have h0 := hw.eN
    rw [hn] at h0
    have hm : m < 10 := by omega
    have eR := hw.eR hm
    have hc : ¬ nI n ≤ nI m := nI_ge (by omega) (by omega)
    obtain ⟨κ1, h1⟩ := r_adds (κ := κ) d hk hw hq (S := nStet δ n) (nStet_lt hw n h0.2) (m := m) (by omega) (by rw [hn, nStet_bit hw (by omega) n h0.2, ← eR.1])
    obtain ⟨κ2, ih⟩ := r_wrk_l d hk hw hq hn j (m + 1) (by omega) κ1
    refine ⟨κ2, ?_⟩
    rw [S15_9]
    by_cases hz : sAdds q δ m = 0
    · rw [show sWrk q δ (m + 1) = _ from sSet_f (by simp [hz]), i_or0] at ih
      simp only [S15_0, S15_1, S15_4, S15_5, S15_6, S15_7, S15_8, S15_10, S15_11, S15_14, S15_17, S15_18, S15_19, S15_20, S15_23, S15_26, S15_27, S15_28, S15_29, S15_30, S15_31, S15_32, S15_35, S15_38, S15_39, Option.bind_some, Option.map_some, xpush_s, xpush_n, xcat_0, xcat_i, xcat_r, xcat_l, xcat_n, xcat_e, xir_r, Nat.reduceAdd, Nat.reduceLeDiff, Nat.zero_le, Nat.le_refl, ↓reduceIte, hc, Rg_1 hk, Rcls hk, h0.1, h1, hz, nI_1]
      exact ih
    · rw [show sWrk q δ (m + 1) = _ from sSet_t (by simp [hz])] at ih
      simp only [S15_0, S15_1, S15_4, S15_5, S15_6, S15_7, S15_8, S15_10, S15_11, S15_14, S15_17, S15_18, S15_19, S15_20, S15_23, S15_26, S15_27, S15_28, S15_29, S15_30, S15_31, S15_32, S15_35, S15_38, S15_39, Option.bind_some, Option.map_some, xpush_s, xpush_n, xcat_0, xcat_i, xcat_r, xcat_l, xcat_n, xcat_e, xir_r, Nat.reduceAdd, Nat.reduceLeDiff, Nat.zero_le, Nat.le_refl, ↓reduceIte, hc, Rg_1 hk, Rcls hk, h0.1, h1, if_neg hz, nI_1]
      exact ih
theorem r_wrk (d : Nat) (hk : k < 50) {q : Option xq} (hw : wf δ) (hq : QR H τ 0 q) (κ : Nat → Nat → Int32) : ∃ κ', Ev (d + 4) 15 [.ref k] (rv k δ τ κ H) = some (some (.int (sWrk q δ (nn (δ 0)))), rv k δ τ κ' H) := by
  obtain ⟨κ', h⟩ := r_wrk_l d hk hw hq rfl (nn (δ 0)) 0 (by omega) κ
  refine ⟨κ', ?_⟩
  rw [E15]
  simp only [S15_0, S15_1, S15_4, S15_5, S15_6, S15_7, S15_8, S15_10, S15_11, S15_14, S15_17, S15_18, S15_19, S15_20, S15_23, S15_26, S15_27, S15_28, S15_29, S15_30, S15_31, S15_32, S15_35, S15_38, S15_39, Option.bind_some, Option.map_some, xpush_s, xpush_n, xcat_0, xcat_i, xcat_r, xcat_l, xcat_n, xcat_e, xir_r, Nat.reduceAdd, Nat.reduceLeDiff, Nat.zero_le, Nat.le_refl, ↓reduceIte, Rcls hk, r_stet _ hk hw]
  exact h
end SUMA
section SUMM
variable {a : Nat → Nat → Int32} {δ κ s : Nat → Int32} {w : Int64} {H : xh}
theorem m_wat_l (ev : xe) : ∀ j r, r + j = 12 → RF 148 ev 4 [some (.ref 58), some (.int (sWat δ r)), some (.int (nI r))] [] (md a δ κ s w H) = some (some (.int (sWat δ 12)), md a δ κ s w H)
  | 0, r, e => by
    have e' : r = 12 := by omega
    subst e'
    rw [S148_4]
    simp only [S148_0, S148_1, S148_2, S148_3, S148_5, S148_7, S148_10, S148_11, S148_12, S148_15, S148_17, S148_18, S148_19, S148_20, S148_21, S148_22, S148_25, S148_28, S148_29, Option.bind_some, Option.map_some, xpush_s, xpush_n, xcat_0, xcat_i, xcat_r, xcat_l, xcat_n, xcat_e, xir_r, Nat.reduceAdd, Nat.reduceLeDiff, Nat.zero_le, Nat.le_refl, ↓reduceIte, show ((12 : Int32) ≤ nI 12) = True from eq_true (Int32.le_refl _)]
  | j + 1, r, e => by
    have hc : ¬ (12 : Int32) ≤ nI r := nI_ge (b := 12) (by omega) (by decide)
    have ih := m_wat_l ev j (r + 1) (by omega)
    rw [S148_4]
    simp only [S148_0, S148_1, S148_2, S148_3, S148_5, S148_7, S148_10, S148_11, S148_12, S148_15, S148_17, S148_18, S148_19, S148_20, S148_21, S148_22, S148_25, S148_28, S148_29, Option.bind_some, Option.map_some, xpush_s, xpush_n, xcat_0, xcat_i, xcat_r, xcat_l, xcat_n, xcat_e, xir_r, Nat.reduceAdd, Nat.reduceLeDiff, Nat.zero_le, Nat.le_refl, ↓reduceIte, hc, Dg, Dr, ix8, xix_n (show 8 + r < 60 by omega) (by omega), nI_1]
    exact ih
theorem m_wat (d : Nat) : Ev (d + 1) 148 [.ref 58] (md a δ κ s w H) = some (some (.int (sWat δ 12)), md a δ κ s w H) := by
  rw [E148]
  have h0 := m_wat_l (a := a) (δ := δ) (κ := κ) (s := s) (w := w) (H := H) (Ev d) 12 0 rfl
  simp only [S148_0, S148_1, S148_2, S148_3, S148_5, S148_7, S148_10, S148_11, S148_12, S148_15, S148_17, S148_18, S148_19, S148_20, S148_21, S148_22, S148_25, S148_28, S148_29]
  exact h0
theorem m_ink_l (d : Nat) {n : Nat} (hn : δ 0 = nI n) (h10 : n ≤ 10) : ∀ j m, m + j = n → RF 149 (Ev (d + 1)) 4 [some (.ref 58), some (.int (sInk δ m)), some (.int (nI m))] [] (md a δ κ s w H) = some (some (.int (sInk δ n)), md a δ κ s w H)
  | 0, m, e => by
    have e' : m = n := by omega
    subst e'
    rw [S149_4]
    simp only [S149_0, S149_1, S149_2, S149_3, S149_5, S149_6, S149_9, S149_10, S149_11, S149_14, S149_15, S149_16, S149_17, S149_18, S149_21, S149_22, S149_23, S149_26, S149_29, S149_30, Option.bind_some, Option.map_some, xpush_s, xpush_n, xcat_0, xcat_i, xcat_r, xcat_l, xcat_n, xcat_e, xir_r, Nat.reduceAdd, Nat.reduceLeDiff, Nat.zero_le, Nat.le_refl, ↓reduceIte, Dg, Dr, ix_0, hn, show (nI m ≤ nI m) = True from eq_true (Int32.le_refl _)]
  | j + 1, m, e => by
    have hc : ¬ nI n ≤ nI m := nI_ge (by omega) (by omega)
    have ih := m_ink_l d hn h10 j (m + 1) (by omega)
    rw [S149_4]
    simp only [S149_0, S149_1, S149_2, S149_3, S149_5, S149_6, S149_9, S149_10, S149_11, S149_14, S149_15, S149_16, S149_17, S149_18, S149_21, S149_22, S149_23, S149_26, S149_29, S149_30, Option.bind_some, Option.map_some, xpush_s, xpush_n, xcat_0, xcat_i, xcat_r, xcat_l, xcat_n, xcat_e, xir_r, Nat.reduceAdd, Nat.reduceLeDiff, Nat.zero_le, Nat.le_refl, ↓reduceIte, hc, Dg, Dr, Dcls, ix_0, hn, s_of1 d (show m < 10 by omega), nI_1]
    exact ih
theorem m_ink (d : Nat) (hw : wf δ) : Ev (d + 2) 149 [.ref 58] (md a δ κ s w H) = some (some (.int (sInk δ (nn (δ 0)))), md a δ κ s w H) := by
  rw [E149]
  have h0 := m_ink_l (a := a) (κ := κ) (s := s) (w := w) (H := H) d hw.eN.1 hw.eN.2 (nn (δ 0)) 0 (by omega)
  simp only [S149_0, S149_1, S149_2, S149_3, S149_5, S149_6, S149_9, S149_10, S149_11, S149_14, S149_15, S149_16, S149_17, S149_18, S149_21, S149_22, S149_23, S149_26, S149_29, S149_30]
  exact h0
theorem m_dry_l (ev : xe) : ∀ j r, r + j = 12 → RF 150 ev 4 [some (.ref 58), some (.int (sDry δ r)), some (.int (nI r))] [] (md a δ κ s w H) = some (some (.int (sDry δ 12)), md a δ κ s w H)
  | 0, r, e => by
    have e' : r = 12 := by omega
    subst e'
    rw [S150_4]
    simp only [S150_0, S150_1, S150_2, S150_3, S150_5, S150_7, S150_10, S150_11, S150_12, S150_15, S150_17, S150_18, S150_19, S150_20, S150_23, S150_24, S150_25, S150_26, S150_29, S150_30, S150_31, S150_32, S150_35, S150_38, S150_39, Option.bind_some, Option.map_some, xpush_s, xpush_n, xcat_0, xcat_i, xcat_r, xcat_l, xcat_n, xcat_e, xir_r, Nat.reduceAdd, Nat.reduceLeDiff, Nat.zero_le, Nat.le_refl, ↓reduceIte, show ((12 : Int32) ≤ nI 12) = True from eq_true (Int32.le_refl _)]
  | j + 1, r, e => by
    have hc : ¬ (12 : Int32) ≤ nI r := nI_ge (b := 12) (by omega) (by decide)
    have ih := m_dry_l ev j (r + 1) (by omega)
    rw [S150_4]
    by_cases hz : δ (8 + r) = 0
    · rw [show sDry δ (r + 1) = _ from sSet_t (by simp [hz])] at ih
      simp only [S150_0, S150_1, S150_2, S150_3, S150_5, S150_7, S150_10, S150_11, S150_12, S150_15, S150_17, S150_18, S150_19, S150_20, S150_23, S150_24, S150_25, S150_26, S150_29, S150_30, S150_31, S150_32, S150_35, S150_38, S150_39, Option.bind_some, Option.map_some, xpush_s, xpush_n, xcat_0, xcat_i, xcat_r, xcat_l, xcat_n, xcat_e, xir_r, Nat.reduceAdd, Nat.reduceLeDiff, Nat.zero_le, Nat.le_refl, ↓reduceIte, hc, Dg, Dr, ix8, xix_n (show 8 + r < 60 by omega) (by omega), hz, nI_1]
      exact ih
    · rw [show sDry δ (r + 1) = _ from sSet_f (by simp [hz])] at ih
      simp only [S150_0, S150_1, S150_2, S150_3, S150_5, S150_7, S150_10, S150_11, S150_12, S150_15, S150_17, S150_18, S150_19, S150_20, S150_23, S150_24, S150_25, S150_26, S150_29, S150_30, S150_31, S150_32, S150_35, S150_38, S150_39, Option.bind_some, Option.map_some, xpush_s, xpush_n, xcat_0, xcat_i, xcat_r, xcat_l, xcat_n, xcat_e, xir_r, Nat.reduceAdd, Nat.reduceLeDiff, Nat.zero_le, Nat.le_refl, ↓reduceIte, hc, Dg, Dr, ix8, xix_n (show 8 + r < 60 by omega) (by omega), if_neg hz, nI_1]
      exact ih
theorem m_dry (d : Nat) : Ev (d + 1) 150 [.ref 58] (md a δ κ s w H) = some (some (.int (sDry δ 12)), md a δ κ s w H) := by
  rw [E150]
  have h0 := m_dry_l (a := a) (δ := δ) (κ := κ) (s := s) (w := w) (H := H) (Ev d) 12 0 rfl
  simp only [S150_0, S150_1, S150_2, S150_3, S150_5, S150_7, S150_10, S150_11, S150_12, S150_15, S150_17, S150_18, S150_19, S150_20, S150_23, S150_24, S150_25, S150_26, S150_29, S150_30, S150_31, S150_32, S150_35, S150_38, S150_39]
  exact h0
theorem m_dee_l (ev : xe) : ∀ j r, r + j = 12 → RF 151 ev 4 [some (.ref 58), some (.int (nI (sDee δ r))), some (.int (nI r))] [] (md a δ κ s w H) = some (some (.int (nI (sDee δ 12))), md a δ κ s w H)
  | 0, r, e => by
    have e' : r = 12 := by omega
    subst e'
    rw [S151_4]
    simp only [S151_0, S151_1, S151_2, S151_3, S151_5, S151_7, S151_10, S151_11, S151_14, S151_16, S151_17, S151_18, S151_19, S151_20, S151_23, S151_25, S151_26, S151_27, S151_28, S151_31, S151_32, S151_35, S151_36, S151_37, S151_40, S151_43, S151_44, Option.bind_some, Option.map_some, xpush_s, xpush_n, xcat_0, xcat_i, xcat_r, xcat_l, xcat_n, xcat_e, xir_r, Nat.reduceAdd, Nat.reduceLeDiff, Nat.zero_le, Nat.le_refl, ↓reduceIte, show ((12 : Int32) ≤ nI 12) = True from eq_true (Int32.le_refl _)]
  | j + 1, r, e => by
    have hc : ¬ (12 : Int32) ≤ nI r := nI_ge (b := 12) (by omega) (by decide)
    have hlt := sDee_lt δ r (by omega)
    have ih := m_dee_l ev j (r + 1) (by omega)
    rw [S151_4]
    by_cases hz : δ (8 + r) ≤ δ (8 + sDee δ r)
    · rw [show sDee δ (r + 1) = sDee δ r from if_pos hz] at ih
      simp only [S151_0, S151_1, S151_2, S151_3, S151_5, S151_7, S151_10, S151_11, S151_14, S151_16, S151_17, S151_18, S151_19, S151_20, S151_23, S151_25, S151_26, S151_27, S151_28, S151_31, S151_32, S151_35, S151_36, S151_37, S151_40, S151_43, S151_44, Option.bind_some, Option.map_some, xpush_s, xpush_n, xcat_0, xcat_i, xcat_r, xcat_l, xcat_n, xcat_e, xir_r, Nat.reduceAdd, Nat.reduceLeDiff, Nat.zero_le, Nat.le_refl, ↓reduceIte, hc, Dg, Dr, ix8, xix_n (show 8 + r < 60 by omega) (show 60 ≤ 100000 by decide), xix_n (show 8 + sDee δ r < 60 by omega) (show 60 ≤ 100000 by decide), hz, nI_1]
      exact ih
    · rw [show sDee δ (r + 1) = r from if_neg hz] at ih
      simp only [S151_0, S151_1, S151_2, S151_3, S151_5, S151_7, S151_10, S151_11, S151_14, S151_16, S151_17, S151_18, S151_19, S151_20, S151_23, S151_25, S151_26, S151_27, S151_28, S151_31, S151_32, S151_35, S151_36, S151_37, S151_40, S151_43, S151_44, Option.bind_some, Option.map_some, xpush_s, xpush_n, xcat_0, xcat_i, xcat_r, xcat_l, xcat_n, xcat_e, xir_r, Nat.reduceAdd, Nat.reduceLeDiff, Nat.zero_le, Nat.le_refl, ↓reduceIte, hc, Dg, Dr, ix8, xix_n (show 8 + r < 60 by omega) (show 60 ≤ 100000 by decide), xix_n (show 8 + sDee δ r < 60 by omega) (show 60 ≤ 100000 by decide), hz, nI_1]
      exact ih
theorem m_dee (d : Nat) : Ev (d + 1) 151 [.ref 58] (md a δ κ s w H) = some (some (.int (nI (sDee δ 12))), md a δ κ s w H) := by
  rw [E151]
  have h0 := m_dee_l (a := a) (δ := δ) (κ := κ) (s := s) (w := w) (H := H) (Ev d) 11 1 rfl
  rw [sDee_1] at h0
  simp only [S151_0, S151_1, S151_2, S151_3, S151_5, S151_7, S151_10, S151_11, S151_14, S151_16, S151_17, S151_18, S151_19, S151_20, S151_23, S151_25, S151_26, S151_27, S151_28, S151_31, S151_32, S151_35, S151_36, S151_37, S151_40, S151_43, S151_44]
  exact h0
end SUMM
section SUMN
variable {a : Nat → Nat → Int32} {δ s : Nat → Int32} {w : Int64} {H : xh}
theorem m_wrk_l (d : Nat) {q : Option xq} (hw : wf δ) (hq : QM a 0 (nn (δ 7)) q) {n : Nat} (hn : nn (δ 0) = n) : ∀ j m, m + j = n → ∀ κ, ∃ κ', RF 152 (Ev (d + 4)) 4 [some (.ref 58), some (.int (sWrk q δ m)), some (.int (nI m))] [] (md a δ κ s w H) = some (some (.int (sWrk q δ n)), md a δ κ' s w H)
  | 0, m, e, κ => by
    have e' : m = n := by omega
    subst e'
    have h0 := hw.eN.1
    rw [hn] at h0
    refine ⟨κ, ?_⟩
    rw [S152_4]
    simp only [S152_0, S152_1, S152_2, S152_3, S152_5, S152_6, S152_9, S152_10, S152_11, S152_14, S152_15, S152_16, S152_17, S152_20, S152_23, S152_24, S152_25, S152_26, S152_29, S152_30, S152_31, S152_32, S152_35, S152_38, S152_39, Option.bind_some, Option.map_some, xpush_s, xpush_n, xcat_0, xcat_i, xcat_r, xcat_l, xcat_n, xcat_e, xir_r, Nat.reduceAdd, Nat.reduceLeDiff, Nat.zero_le, Nat.le_refl, ↓reduceIte, Dg, Dr, ix_0, h0, show (nI m ≤ nI m) = True from eq_true (Int32.le_refl _)]
  | j + 1, m, e, κ => by
    have h0 := hw.eN
    rw [hn] at h0
    have hm : m < 10 := by omega
    have hc : ¬ nI n ≤ nI m := nI_ge (by omega) (by omega)
    obtain ⟨κ1, h1⟩ := s_adds (κ := κ) (s := s) (w := w) (H := H) d hw hq hm
    obtain ⟨κ2, ih⟩ := m_wrk_l d hw hq hn j (m + 1) (by omega) κ1
    refine ⟨κ2, ?_⟩
    rw [S152_4]
    by_cases hz : sAdds q δ m = 0
    · rw [show sWrk q δ (m + 1) = _ from sSet_f (by simp [hz])] at ih
      simp only [S152_0, S152_1, S152_2, S152_3, S152_5, S152_6, S152_9, S152_10, S152_11, S152_14, S152_15, S152_16, S152_17, S152_20, S152_23, S152_24, S152_25, S152_26, S152_29, S152_30, S152_31, S152_32, S152_35, S152_38, S152_39, Option.bind_some, Option.map_some, xpush_s, xpush_n, xcat_0, xcat_i, xcat_r, xcat_l, xcat_n, xcat_e, xir_r, Nat.reduceAdd, Nat.reduceLeDiff, Nat.zero_le, Nat.le_refl, ↓reduceIte, hc, Dg, Dr, Dcls, ix_0, h0.1, h1, hz, nI_1]
      exact ih
    · rw [show sWrk q δ (m + 1) = _ from sSet_t (by simp [hz])] at ih
      simp only [S152_0, S152_1, S152_2, S152_3, S152_5, S152_6, S152_9, S152_10, S152_11, S152_14, S152_15, S152_16, S152_17, S152_20, S152_23, S152_24, S152_25, S152_26, S152_29, S152_30, S152_31, S152_32, S152_35, S152_38, S152_39, Option.bind_some, Option.map_some, xpush_s, xpush_n, xcat_0, xcat_i, xcat_r, xcat_l, xcat_n, xcat_e, xir_r, Nat.reduceAdd, Nat.reduceLeDiff, Nat.zero_le, Nat.le_refl, ↓reduceIte, hc, Dg, Dr, Dcls, ix_0, h0.1, h1, if_neg hz, nI_1]
      exact ih
theorem m_wrk (d : Nat) {q : Option xq} (hw : wf δ) (hq : QM a 0 (nn (δ 7)) q) (κ : Nat → Int32) : ∃ κ', Ev (d + 5) 152 [.ref 58] (md a δ κ s w H) = some (some (.int (sWrk q δ (nn (δ 0)))), md a δ κ' s w H) := by
  obtain ⟨κ', h⟩ := m_wrk_l (s := s) (w := w) (H := H) d hw hq rfl (nn (δ 0)) 0 (by omega) κ
  refine ⟨κ', ?_⟩
  rw [E152]
  simp only [S152_0, S152_1, S152_2, S152_3, S152_5, S152_6, S152_9, S152_10, S152_11, S152_14, S152_15, S152_16, S152_17, S152_20, S152_23, S152_24, S152_25, S152_26, S152_29, S152_30, S152_31, S152_32, S152_35, S152_38, S152_39]
  exact h
end SUMN
