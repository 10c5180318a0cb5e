/-! part 25: the class's month -/
/-- Text p of heap H gives f -/
def GR (H : xh) (p : Nat) (f : xq) : Prop := ∀ (d k : Nat) (δ : Nat → Int32) (τ : xt) (κ : Nat → Nat → Int32) (x y z u : Int32), k < 50 → xcls (rv k δ τ κ H) (.ref p) = 4 ∧ ∃ κ', Ev (d + 2) 51 [.ref p, .int x, .int y, .int z, .int u] (rv k δ τ κ H) = some (some (.int (f x y z u)), rv k δ τ κ' H)
/-- the law for a key -/
def QR (H : xh) (τ : xt) (key : Nat) (q : Option xq) : Prop := match τ.2.2 key with
  | none => q = none
  | some p => ∃ f, q = some f ∧ GR H p f
theorem wi_hd (v : Int32) {n : Nat} {N : Int32} (hN : N = nI n) (hn : n < 2 ^ 31) : wi v 0 N = hd v 0 N := by
  subst hN
  unfold wi hd
  by_cases h1 : v < 0
  · have h2 : v < nI n := Int32.lt_of_lt_of_le h1 (nI_pos' hn)
    have h3 : ¬ 0 < v := Int32.not_lt.mpr (Int32.le_of_lt h1)
    simp only [h1, h2, h3, if_true, if_false]
  · obtain ⟨j, hj, e⟩ := nI_of h1
    subst e
    have h0 : (0 : Int32) = nI 0 := rfl
    by_cases h2 : n < j
    · have h3 : nI n < nI j := nI_lt h2 hj
      have h4 : ¬ nI j < nI n := nI_nlt (by omega) hj
      simp only [h1, h3, h4, if_true, if_false]
      by_cases h5 : n = 0
      · subst h5; rfl
      · rw [if_pos (by rw [h0]; exact nI_lt (by omega) hn)]
    · have h3 : ¬ nI n < nI j := nI_nlt (by omega) hn
      simp only [h1, h3, if_false]
      by_cases h4 : nI j < nI n
      · simp only [h4, if_true]
        by_cases h5 : j = 0
        · subst h5; rfl
        · rw [if_pos (by rw [h0]; exact nI_lt (by omega) hj)]
      · have h6 : j = n := by
          rw [nI_ltI hj hn] at h4
          omega
        subst h6
        simp only [h3, if_false]
        by_cases h5 : j = 0
        · subst h5; rfl
        · rw [if_pos (by rw [h0]; exact nI_lt (by omega) hj)]
theorem hd_in {x : Int32} {n : Nat} {N : Int32} (hN : N = nI n) (hn : n < 2 ^ 31) (h : bd x n) : hd x 0 N = x := by
  obtain ⟨k, h1, h2⟩ := h
  subst hN; subst h2
  unfold hd
  rw [if_neg (nI_pos (by omega)), if_neg (nI_nlt h1 hn)]
/-- the lesser, as the class has it -/
theorem min_hd {x : Int32} {k n : Nat} {N : Int32} (hN : N = nI n) (hn : n < 2 ^ 31) (hx : x = nI k) (hk : k < 2 ^ 31) : (if x < N then x else N) = hd x 0 N := by
  subst hN; subst hx
  unfold hd
  rw [if_neg (nI_pos hk)]
  by_cases h : k < n
  · rw [if_pos (nI_lt h hn), if_neg (nI_nlt (by omega) hn)]
  · rw [if_neg (nI_nlt (by omega) hk)]
    by_cases h2 : n < k
    · rw [if_pos (nI_lt h2 hk)]
    · have : n = k := by omega
      subst this
      rw [if_neg (nI_nlt (by omega) hn)]
section RMON
variable {k : Nat} {δ : Nat → Int32} {τ : xt} {κ : Nat → Nat → Int32} {H : xh}
theorem r_draw (d : Nat) (hk : k < 50) : Ev (d + 1) 7 [.ref k] (rv k δ τ κ H) = some (some (.int (sD (δ 6))), rv k (sDraw δ) τ κ H) := by
  rw [E7]
  simp only [S7_0, S7_1, S7_2, S7_5, S7_7, S7_8, S7_11, S7_12, S7_15, S7_16, S7_19, S7_21, S7_22, Option.bind_some, Option.map_some, xpush_s, xpush_n, xcat_0, xcat_i, xcat_r, xcat_l, xcat_n, xcat_e, xir_r, Nat.reduceAdd, Nat.reduceLeDiff, Nat.zero_le, Nat.le_refl, ↓reduceIte, Rg_11 hk, Rp_11 hk, up_s]
  rfl
theorem r_more (d : Nat) (hk : k < 50) (hw : wf δ) {r : Nat} (x : Int32) (hr : r < 12) : Ev (d + 3) 9 [.ref k, .int (nI r), .int x] (rv k δ τ κ H) = some (none, rv k (sMore δ r x) τ κ H) := by
  rw [E9]
  have h0 := wi_hd (δ (8 + r) + x) (N := 99) (n := 99) rfl (by decide)
  by_cases h : δ (8 + r) + x ≤ 99
  · have hs : sMore δ r x = upd δ (8 + r) (hd (δ (8 + r) + x) 0 99) := by
      unfold sMore
      rw [if_pos h, show δ 5 + 0 = δ 5 from Int32.add_zero _, hd_in (n := 99999) (N := 99999) rfl (by decide) hw.floods]
      congr 1
      funext j
      by_cases hj : j = 5
      · subst hj; rw [up_s]
      · rw [up_n _ _ hj]
    rw [hs]
    simp only [S9_0, S9_1, S9_4, S9_5, S9_6, S9_7, S9_8, S9_9, S9_10, S9_12, S9_15, S9_16, S9_18, S9_19, S9_22, S9_23, S9_24, S9_27, S9_30, S9_31, S9_34, S9_35, S9_36, S9_37, S9_39, S9_42, S9_43, Option.bind_some, Option.map_some, xpush_s, xpush_n, xcat_0, xcat_i, xcat_r, xcat_l, xcat_n, xcat_e, xir_r, Nat.reduceAdd, Nat.reduceLeDiff, Nat.zero_le, Nat.le_refl, ↓reduceIte, Rg_0 hk, Rr_w hk hr, Rw_w hk hr, h, s_within, h0]
  · obtain ⟨f, hf, ef⟩ := hw.floods
    have h5 : (if δ 5 + 1 < 99999 then δ 5 + 1 else 99999) = hd (δ 5 + 1) 0 99999 := min_hd (k := f + 1) (n := 99999) rfl (by decide) (by rw [ef, nI_1]) (by omega)
    simp only [S9_0, S9_1, S9_4, S9_5, S9_6, S9_7, S9_8, S9_9, S9_10, S9_12, S9_15, S9_16, S9_18, S9_19, S9_22, S9_23, S9_24, S9_27, S9_30, S9_31, S9_34, S9_35, S9_36, S9_37, S9_39, S9_42, S9_43, Option.bind_some, Option.map_some, xpush_s, xpush_n, xcat_0, xcat_i, xcat_r, xcat_l, xcat_n, xcat_e, xir_r, Nat.reduceAdd, Nat.reduceLeDiff, Nat.zero_le, Nat.le_refl, ↓reduceIte, Rg_0 hk, Rg_9 hk, Rp_9 hk, Rr_w hk hr, Rw_w hk hr, h, s_min, h5, s_within, h0, sMore]
theorem r_runs_l (d : Nat) (hk : k < 50) : ∀ j, j ≤ 12 → ∀ (δ : Nat → Int32) (l : Option Value), wf δ → RF 8 (Ev (d + 3)) 3 [some (.ref k), some (.int (nI j - 1)), l] [] (rv k δ τ κ H) = some (none, rv k (sRunK j δ) τ κ H)
  | 0, _, δ, l, _ => by
    have hc : nI 0 - 1 < 0 := by decide
    rw [S8_3]
    simp only [S8_0, S8_2, S8_4, S8_7, S8_8, S8_11, S8_12, S8_13, S8_14, S8_15, S8_16, S8_17, S8_20, S8_21, S8_22, S8_23, S8_24, S8_25, S8_26, S8_27, S8_29, S8_32, S8_33, S8_35, S8_36, S8_39, S8_40, S8_41, S8_44, S8_47, S8_50, S8_51, S8_52, S8_53, S8_54, S8_55, S8_58, S8_61, S8_64, Option.bind_some, Option.map_some, xpush_s, xpush_n, xcat_0, xcat_i, xcat_r, xcat_l, xcat_n, xcat_e, xir_r, Nat.reduceAdd, Nat.reduceLeDiff, Nat.zero_le, Nat.le_refl, ↓reduceIte, hc]
    rfl
  | j + 1, hj, δ, l, hw => by
    have hc : ¬ nI j < 0 := nI_pos (by omega)
    have h4 : ¬ (4 : Int32) = 0 := by decide
    have hr : j < 12 := by omega
    have hw1 := wf_run1 hw hr
    obtain ⟨x, hx1, hx2⟩ := hw.water j hr
    have hb : δ (8 + j) / 4 = nI (x / 4) := by rw [hx2, show (4 : Int32) = nI 4 from rfl, pk_div (by omega) (by decide) (by decide)]
    have h3 : δ (8 + j) - δ (8 + j) / 4 = nI (x - x / 4) := by rw [hb, hx2, pk_sub (by omega)]
    have hw' : wf (upd δ (8 + j) (δ (8 + j) - δ (8 + j) / 4)) := wf_upd hw (okk_of (bnd_water hr) ⟨x - x / 4, by omega, h3⟩)
    have ih := r_runs_l d hk j (by omega) (sRun1 δ j) (some (.int (δ (8 + j) / 4))) hw1
    rw [S8_3]
    by_cases h11 : j = 11
    · subst h11
      have he : (nI 11 = 11) = True := eq_true rfl
      have hs : sRun1 δ 11 = upd (upd δ (8 + 11) (δ (8 + 11) - δ (8 + 11) / 4)) 4 (hd (δ 4 + δ (8 + 11) / 4) 0 99999) := by
        show upd _ 4 (hd (upd δ (8 + 11) (δ (8 + 11) - δ (8 + 11) / 4) 4 + δ (8 + 11) / 4) 0 99999) = _
        rw [up_n _ _ (show 4 ≠ 8 + 11 by decide)]
      obtain ⟨f, hf, ef⟩ := hw.sea
      have h5 : (if δ 4 + δ (8 + 11) / 4 < 99999 then δ 4 + δ (8 + 11) / 4 else 99999) = hd (δ 4 + δ (8 + 11) / 4) 0 99999 := min_hd (k := f + x / 4) (n := 99999) rfl (by decide) (by rw [ef, hb, nI_add]) (by omega)
      rw [hs] at ih
      rw [sRunK, hs]
      simp only [S8_0, S8_2, S8_4, S8_7, S8_8, S8_11, S8_12, S8_13, S8_14, S8_15, S8_16, S8_17, S8_20, S8_21, S8_22, S8_23, S8_24, S8_25, S8_26, S8_27, S8_29, S8_32, S8_33, S8_35, S8_36, S8_39, S8_40, S8_41, S8_44, S8_47, S8_50, S8_51, S8_52, S8_53, S8_54, S8_55, S8_58, S8_61, S8_64, Option.bind_some, Option.map_some, xpush_s, xpush_n, xcat_0, xcat_i, xcat_r, xcat_l, xcat_n, xcat_e, xir_r, Nat.reduceAdd, Nat.reduceLeDiff, Nat.zero_le, Nat.le_refl, ↓reduceIte, nI_pred, hc, Rg_0 hk, Rr_w hk hr, Rw_w hk hr, h4, cat_i, cat_r, and_self, he, Rg_8 hk, Rp_8 hk, up_n _ _ (show 4 ≠ 8 + 11 by decide), s_min, h5, m1]
      exact ih
    · have hne : ¬ nI j = 11 := fun h => h11 ((nI_eq (b := 11) (by omega) (by decide)).mp h)
      have hs : sRun1 δ j = sMore (upd δ (8 + j) (δ (8 + j) - δ (8 + j) / 4)) (j + 1) (δ (8 + j) / 4) := by
        unfold sRun1
        simp only [h11, if_false]
      rw [hs] at ih
      rw [sRunK, hs]
      simp only [S8_0, S8_2, S8_4, S8_7, S8_8, S8_11, S8_12, S8_13, S8_14, S8_15, S8_16, S8_17, S8_20, S8_21, S8_22, S8_23, S8_24, S8_25, S8_26, S8_27, S8_29, S8_32, S8_33, S8_35, S8_36, S8_39, S8_40, S8_41, S8_44, S8_47, S8_50, S8_51, S8_52, S8_53, S8_54, S8_55, S8_58, S8_61, S8_64, Option.bind_some, Option.map_some, xpush_s, xpush_n, xcat_0, xcat_i, xcat_r, xcat_l, xcat_n, xcat_e, xir_r, Nat.reduceAdd, Nat.reduceLeDiff, Nat.zero_le, Nat.le_refl, ↓reduceIte, nI_pred, hc, Rg_0 hk, Rcls hk, Rr_w hk hr, Rw_w hk hr, h4, cat_i, cat_r, and_self, hne, nI_1, r_more _ hk hw' _ (show j + 1 < 12 by omega), m1]
      exact ih
theorem r_runs (d : Nat) (hk : k < 50) (hw : wf δ) : Ev (d + 4) 8 [.ref k] (rv k δ τ κ H) = some (none, rv k (sRun δ) τ κ H) := by
  rw [E8]
  have h0 := r_runs_l (τ := τ) (κ := κ) (H := H) d hk 12 (by decide) δ none hw
  simp only [S8_0, S8_2, S8_4, S8_7, S8_8, S8_11, S8_12, S8_13, S8_14, S8_15, S8_16, S8_17, S8_20, S8_21, S8_22, S8_23, S8_24, S8_25, S8_26, S8_27, S8_29, S8_32, S8_33, S8_35, S8_36, S8_39, S8_40, S8_41, S8_44, S8_47, S8_50, S8_51, S8_52, S8_53, S8_54, S8_55, S8_58, S8_61, S8_64]
  exact h0
theorem r_marksIn_l (ev : xe) (hk : k < 50) {n : Nat} (r : Int32) (hn : δ 0 = nI n) (h10 : n ≤ 10) : ∀ j m, m + j = n → RF 5 ev 4 [some (.ref k), some (.int r), some (.int (sAt δ r m)), some (.int (nI m))] [] (rv k δ τ κ H) = some (some (.int (sAt δ r n)), rv k δ τ κ H)
  | 0, m, e => by
    have e' : m = n := by omega
    subst e'
    have hc : nI m ≤ nI m := Int32.le_refl _
    rw [S5_4]
    simp only [S5_0, S5_1, S5_2, S5_3, S5_5, S5_6, S5_9, S5_12, S5_13, S5_16, S5_17, S5_18, S5_19, S5_22, S5_23, S5_24, S5_25, S5_26, S5_27, S5_28, S5_31, S5_34, S5_35, Option.bind_some, Option.map_some, xpush_s, xpush_n, xcat_0, xcat_i, xcat_r, xcat_l, xcat_n, xcat_e, xir_r, Nat.reduceAdd, Nat.reduceLeDiff, Nat.zero_le, Nat.le_refl, ↓reduceIte, Rg_1 hk, hn, hc]
  | j + 1, m, e => by
    have hc : ¬ nI n ≤ nI m := nI_ge (by omega) (by omega)
    have ih := r_marksIn_l ev hk r hn h10 j (m + 1) (by omega)
    have h10' : m < 10 := by omega
    rw [S5_4]
    by_cases hr : δ (20 + 4 * m + 2) = r
    · rw [show sAt δ r (m + 1) = _ from sSet_t (by simp [hr])] at ih
      simp only [S5_0, S5_1, S5_2, S5_3, S5_5, S5_6, S5_9, S5_12, S5_13, S5_16, S5_17, S5_18, S5_19, S5_22, S5_23, S5_24, S5_25, S5_26, S5_27, S5_28, S5_31, S5_34, S5_35, Option.bind_some, Option.map_some, xpush_s, xpush_n, xcat_0, xcat_i, xcat_r, xcat_l, xcat_n, xcat_e, xir_r, Nat.reduceAdd, Nat.reduceLeDiff, Nat.zero_le, Nat.le_refl, ↓reduceIte, Rg_1 hk, Rg_4 hk, Rr_m2 hk h10', hn, hc, hr, nI_1]
      exact ih
    · rw [show sAt δ r (m + 1) = _ from sSet_f (by simp [hr]), i_or0] at ih
      simp only [S5_0, S5_1, S5_2, S5_3, S5_5, S5_6, S5_9, S5_12, S5_13, S5_16, S5_17, S5_18, S5_19, S5_22, S5_23, S5_24, S5_25, S5_26, S5_27, S5_28, S5_31, S5_34, S5_35, Option.bind_some, Option.map_some, xpush_s, xpush_n, xcat_0, xcat_i, xcat_r, xcat_l, xcat_n, xcat_e, xir_r, Nat.reduceAdd, Nat.reduceLeDiff, Nat.zero_le, Nat.le_refl, ↓reduceIte, Rg_1 hk, Rg_4 hk, Rr_m2 hk h10', hn, hc, hr, nI_1]
      exact ih
theorem r_marksIn (d : Nat) (hk : k < 50) {n : Nat} (r : Int32) (hn : δ 0 = nI n) (h10 : n ≤ 10) : Ev (d + 1) 5 [.ref k, .int r] (rv k δ τ κ H) = some (some (.int (sAt δ r n)), rv k δ τ κ H) := by
  rw [E5]
  have h0 := r_marksIn_l (τ := τ) (κ := κ) (H := H) (Ev d) hk r hn h10 n 0 (by omega)
  simp only [S5_0, S5_1, S5_2, S5_3, S5_5, S5_6, S5_9, S5_12, S5_13, S5_16, S5_17, S5_18, S5_19, S5_22, S5_23, S5_24, S5_25, S5_26, S5_27, S5_28, S5_31, S5_34, S5_35]
  exact h0
theorem r_stet_l (ev : xe) (hk : k < 50) (hw : wf δ) {n : Nat} (hn : δ 0 = nI n) (h10 : n ≤ 10) : ∀ j m, m + j = n → RF 3 ev 4 [some (.ref k), some (.int (nI (nStet δ m))), some (.int (nI m))] [] (rv k δ τ κ H) = some (some (.int (nI (nStet δ n))), rv k δ τ κ H)
  | 0, m, e => by
    have e' : m = n := by omega
    subst e'
    have hc : nI m ≤ nI m := Int32.le_refl _
    rw [S3_4]
    simp only [S3_0, S3_1, S3_2, S3_3, S3_5, S3_6, S3_9, S3_12, S3_13, S3_16, S3_17, S3_18, S3_19, S3_22, S3_23, S3_24, S3_25, S3_28, S3_29, S3_30, S3_31, S3_32, S3_33, S3_36, S3_39, S3_40, Option.bind_some, Option.map_some, xpush_s, xpush_n, xcat_0, xcat_i, xcat_r, xcat_l, xcat_n, xcat_e, xir_r, Nat.reduceAdd, Nat.reduceLeDiff, Nat.zero_le, Nat.le_refl, ↓reduceIte, Rg_1 hk, hn, hc]
  | j + 1, m, e => by
    have hc : ¬ nI n ≤ nI m := nI_ge (by omega) (by omega)
    have ih := r_stet_l ev hk hw hn h10 j (m + 1) (by omega)
    have h10' : m < 10 := by omega
    have eR := hw.eR h10'
    rw [S3_4]
    by_cases hr : δ (20 + 4 * m) = 5
    · have hs := sh1 (nn (δ (20 + 4 * m + 2))) (by omega)
      rw [← eR.1] at hs
      rw [show nStet δ (m + 1) = nStet δ m ||| 2 ^ nn (δ (20 + 4 * m + 2)) from if_pos hr] at ih
      simp only [S3_0, S3_1, S3_2, S3_3, S3_5, S3_6, S3_9, S3_12, S3_13, S3_16, S3_17, S3_18, S3_19, S3_22, S3_23, S3_24, S3_25, S3_28, S3_29, S3_30, S3_31, S3_32, S3_33, S3_36, S3_39, S3_40, Option.bind_some, Option.map_some, xpush_s, xpush_n, xcat_0, xcat_i, xcat_r, xcat_l, xcat_n, xcat_e, xir_r, Nat.reduceAdd, Nat.reduceLeDiff, Nat.zero_le, Nat.le_refl, ↓reduceIte, Rg_1 hk, Rg_2 hk, Rg_4 hk, Rr_m0 hk h10', Rr_m2 hk h10', hn, hc, hr, hs, nI_or, nI_1]
      exact ih
    · rw [show nStet δ (m + 1) = nStet δ m from if_neg hr] at ih
      simp only [S3_0, S3_1, S3_2, S3_3, S3_5, S3_6, S3_9, S3_12, S3_13, S3_16, S3_17, S3_18, S3_19, S3_22, S3_23, S3_24, S3_25, S3_28, S3_29, S3_30, S3_31, S3_32, S3_33, S3_36, S3_39, S3_40, Option.bind_some, Option.map_some, xpush_s, xpush_n, xcat_0, xcat_i, xcat_r, xcat_l, xcat_n, xcat_e, xir_r, Nat.reduceAdd, Nat.reduceLeDiff, Nat.zero_le, Nat.le_refl, ↓reduceIte, Rg_1 hk, Rg_2 hk, Rr_m0 hk h10', hn, hc, hr, nI_1]
      exact ih
theorem r_stet (d : Nat) (hk : k < 50) (hw : wf δ) : Ev (d + 1) 3 [.ref k] (rv k δ τ κ H) = some (some (.int (nI (nStet δ (nn (δ 0))))), rv k δ τ κ H) := by
  rw [E3]
  have h0 := r_stet_l (τ := τ) (κ := κ) (H := H) (Ev d) hk hw hw.eN.1 hw.eN.2 (nn (δ 0)) 0 (by omega)
  simp only [S3_0, S3_1, S3_2, S3_3, S3_5, S3_6, S3_9, S3_12, S3_13, S3_16, S3_17, S3_18, S3_19, S3_22, S3_23, S3_24, S3_25, S3_28, S3_29, S3_30, S3_31, S3_32, S3_33, S3_36, S3_39, S3_40]
  exact h0
end RMON
