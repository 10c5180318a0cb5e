/-! part 27: the class's month, end -/
theorem fade_eq : ∀ i, i < 100 → ∀ x, x < 6 → (if 0 < nI i - rFades (nI x) then nI i - rFades (nI x) else 0) = hd (nI i - sFades (nI x)) 0 99 := by decide +kernel
theorem sLetB_congr {δ δ' : Nat → Int32} (r : Int32) : ∀ n, (∀ m, m < n → δ' (20 + 4 * m) = δ (20 + 4 * m) ∧ δ' (20 + 4 * m + 2) = δ (20 + 4 * m + 2)) → sLetB δ' r n = sLetB δ r n
  | 0, _ => rfl
  | n + 1, h => by
    unfold sLetB
    rw [sLetB_congr r n (fun m hm => h m (by omega)), (h n (by omega)).1, (h n (by omega)).2]
theorem add1_keeps {δ : Nat → Int32} (q : Option xq) (hw : wf δ) {m j : Nat} (hm : m < 10) (hj : 20 ≤ j) : sAdd1 q δ m j = δ j := sMore_n (by omega) (by have := (hw.eR hm).2; omega)
section RMO3
variable {k : Nat} {τ : xt} {H : xh}
theorem r_mA_l (d : Nat) (hk : k < 50) {q : Option xq} (hq : QR H τ 0 q) {S n : Nat} (hS : S < 2 ^ 12) : ∀ j m, m + j = n → ∀ δ : Nat → Int32, wf δ → nn (δ 0) = n → (∀ r, r < 12 → S.testBit r = sLetB δ (nI r) n) → ∀ κ, ∃ κ', RF 11 (Ev (d + 3)) 7 [some (.ref k), some (.int (nI S)), some (.int (nI m))] [] (rv k δ τ κ H) = some (none, rv k (sAddF q j m δ) τ κ' H)
  | 0, m, e, δ, hw, hn, _, κ => by
    have e' : m = n := by omega
    subst e'
    have h0 := hw.eN.1
    rw [hn] at h0
    have hc : nI m ≤ nI m := Int32.le_refl _
    refine ⟨κ, ?_⟩
    rw [S11_7]
    simp only [S11_0, S11_1, S11_4, S11_5, S11_6, S11_8, S11_9, S11_12, S11_15, S11_16, S11_17, S11_20, S11_21, S11_22, S11_23, S11_24, S11_25, S11_28, S11_31, S11_34, S11_37, Option.bind_some, Option.map_some, xpush_s, xpush_n, xcat_0, xcat_i, xcat_r, xcat_l, xcat_n, xcat_e, xir_r, Nat.reduceAdd, Nat.reduceLeDiff, Nat.zero_le, Nat.le_refl, ↓reduceIte, Rg_1 hk, h0, hc]
    rfl
  | j + 1, m, e, δ, hw, hn, hb, κ => by
    have h0 := hw.eN
    rw [hn] at h0
    have hm : m < 10 := by omega
    have eR := hw.eR hm
    have hc : ¬ nI n ≤ nI m := nI_ge (by omega) (by omega)
    obtain ⟨κ1, h1⟩ := r_adds (κ := κ) d hk hw hq hS (m := m) (by omega) (by rw [hn, hb _ (by omega), ← eR.1])
    have hw1 := mw_add1 q hw hm
    obtain ⟨κ2, h2⟩ := r_mA_l d hk hq hS j (m + 1) (show m + 1 + j = n by omega) (sAdd1 q δ m) hw1.1 (by rw [hw1.2 0 fx0]; exact hn)
      (fun r hr => by rw [hb r hr]; exact (sLetB_congr _ n (fun t ht => ⟨add1_keeps q hw hm (by omega), add1_keeps q hw hm (by omega)⟩)).symm) κ1
    refine ⟨κ2, ?_⟩
    have hmo := r_more (τ := τ) (κ := κ1) (H := H) d hk hw (sAdds q δ m) (show nn (δ (20 + 4 * m + 2)) < 12 by omega)
    rw [← eR.1] at hmo
    rw [sAddF, ← h2, S11_7]
    simp only [S11_0, S11_1, S11_4, S11_5, S11_6, S11_8, S11_9, S11_12, S11_15, S11_16, S11_17, S11_20, S11_21, S11_22, S11_23, S11_24, S11_25, S11_28, S11_31, S11_34, S11_37, Option.bind_some, Option.map_some, xpush_s, xpush_n, xcat_0, xcat_i, xcat_r, xcat_l, xcat_n, xcat_e, xir_r, Nat.reduceAdd, Nat.reduceLeDiff, Nat.zero_le, Nat.le_refl, ↓reduceIte, Rg_1 hk, Rg_4 hk, Rcls hk, Rr_m2 hk hm, h0.1, hc, h1, hmo, nI_1]
    rfl
theorem r_mA (d : Nat) (hk : k < 50) {q : Option xq} (hq : QR H τ 0 q) {δ : Nat → Int32} (hw : wf δ) (κ : Nat → Nat → Int32) : ∃ κ', Ev (d + 4) 11 [.ref k] (rv k δ τ κ H) = some (none, rv k (sAddF q (nn (δ 0)) 0 δ) τ κ' H) := by
  obtain ⟨κ', h⟩ := r_mA_l d hk hq (nStet_lt hw (nn (δ 0)) hw.eN.2) (nn (δ 0)) 0 (by omega) δ hw rfl (fun r hr => nStet_bit hw hr _ hw.eN.2) κ
  refine ⟨κ', ?_⟩
  rw [E11]
  simp only [S11_0, S11_1, S11_4, S11_5, S11_6, S11_8, S11_9, S11_12, S11_15, S11_16, S11_17, S11_20, S11_21, S11_22, S11_23, S11_24, S11_25, S11_28, S11_31, S11_34, S11_37, Option.bind_some, Option.map_some, xpush_s, xpush_n, xcat_0, xcat_i, xcat_r, xcat_l, xcat_n, xcat_e, xir_r, Nat.reduceAdd, Nat.reduceLeDiff, Nat.zero_le, Nat.le_refl, ↓reduceIte, Rcls hk, r_stet _ hk hw]
  exact h
variable {κ : Nat → Nat → Int32}
theorem r_mF_l (d : Nat) (hk : k < 50) {n : Nat} : ∀ j m, m + j = n → ∀ δ : Nat → Int32, wf δ → nn (δ 0) = n → RF 12 (Ev (d + 1)) 2 [some (.ref k), some (.int (nI m))] [] (rv k δ τ κ H) = some (none, rv k (sFadeF j m δ) τ κ H)
  | 0, m, e, δ, hw, hn => by
    have e' : m = n := by omega
    subst e'
    have h0 := hw.eN.1
    rw [hn] at h0
    have hc : nI m ≤ nI m := Int32.le_refl _
    rw [S12_2]
    simp only [S12_0, S12_1, S12_3, S12_4, S12_7, S12_10, S12_11, S12_14, S12_15, S12_16, S12_17, S12_20, S12_21, S12_22, S12_23, S12_26, S12_27, S12_28, S12_31, S12_32, S12_35, S12_36, S12_37, S12_40, S12_41, S12_44, S12_45, S12_48, S12_49, S12_50, S12_51, S12_52, S12_55, S12_56, S12_59, S12_62, Option.bind_some, Option.map_some, xpush_s, xpush_n, xcat_0, xcat_i, xcat_r, xcat_l, xcat_n, xcat_e, xir_r, Nat.reduceAdd, Nat.reduceLeDiff, Nat.zero_le, Nat.le_refl, ↓reduceIte, Rg_1 hk, h0, hc]
    rfl
  | j + 1, m, e, δ, hw, hn => by
    have h0 := hw.eN
    rw [hn] at h0
    have hm : m < 10 := by omega
    have hc : ¬ nI n ≤ nI m := nI_ge (by omega) (by omega)
    have hw1 := mw_fade1 hw hm
    have h2 := r_mF_l d hk j (m + 1) (show m + 1 + j = n by omega) (sFade1 δ m) hw1.1 (by rw [hw1.2 0 fx0]; exact hn)
    obtain ⟨i, hi, ei⟩ := hw.ink m hm
    obtain ⟨x, hx, ex⟩ := hw.kind m hm
    obtain ⟨y, hy, ey⟩ := hw.stood m hm
    have hf := fade_eq i (by omega) x (by omega)
    rw [← ei, ← ex] at hf
    have hst : (if δ (20 + 4 * m + 3) + 1 < 9999 then δ (20 + 4 * m + 3) + 1 else 9999) = hd (δ (20 + 4 * m + 3) + 1) 0 9999 := min_hd (k := y + 1) (n := 9999) rfl (by decide) (by rw [ey, nI_1]) (by omega)
    have hs : sFade1 δ m = upd (upd δ (20 + 4 * m + 1) (hd (δ (20 + 4 * m + 1) - sFades (δ (20 + 4 * m))) 0 99)) (20 + 4 * m + 3) (hd (δ (20 + 4 * m + 3) + 1) 0 9999) := by
      show upd _ (20 + 4 * m + 3) (hd (upd δ (20 + 4 * m + 1) _ (20 + 4 * m + 3) + 1) 0 9999) = _
      rw [up_n _ _ (by omega)]
    rw [sFadeF, ← h2, hs, S12_2]
    simp only [S12_0, S12_1, S12_3, S12_4, S12_7, S12_10, S12_11, S12_14, S12_15, S12_16, S12_17, S12_20, S12_21, S12_22, S12_23, S12_26, S12_27, S12_28, S12_31, S12_32, S12_35, S12_36, S12_37, S12_40, S12_41, S12_44, S12_45, S12_48, S12_49, S12_50, S12_51, S12_52, S12_55, S12_56, S12_59, S12_62, Option.bind_some, Option.map_some, xpush_s, xpush_n, xcat_0, xcat_i, xcat_r, xcat_l, xcat_n, xcat_e, xir_r, Nat.reduceAdd, Nat.reduceLeDiff, Nat.zero_le, Nat.le_refl, ↓reduceIte, Rg_1 hk, Rg_2 hk, Rg_3 hk, Rg_5 hk, Rr_m0 hk hm, Rr_m1 hk hm, Rr_m3 hk hm, Rw_m1 hk hm, Rw_m3 hk hm, h0.1, hc, r_fadesOf, s_max, s_min, hf, up_n _ _ (show 20 + 4 * m + 3 ≠ 20 + 4 * m + 1 by omega), hst, nI_1]
theorem r_mF (d : Nat) (hk : k < 50) {δ : Nat → Int32} (hw : wf δ) : Ev (d + 2) 12 [.ref k] (rv k δ τ κ H) = some (none, rv k (sFadeF (nn (δ 0)) 0 δ) τ κ H) := by
  rw [E12]
  have h0 := r_mF_l (τ := τ) (κ := κ) (H := H) d hk (nn (δ 0)) 0 (show 0 + nn (δ 0) = nn (δ 0) by omega) δ hw rfl
  simp only [S12_0, S12_1, S12_3, S12_4, S12_7, S12_10, S12_11, S12_14, S12_15, S12_16, S12_17, S12_20, S12_21, S12_22, S12_23, S12_26, S12_27, S12_28, S12_31, S12_32, S12_35, S12_36, S12_37, S12_40, S12_41, S12_44, S12_45, S12_48, S12_49, S12_50, S12_51, S12_52, S12_55, S12_56, S12_59, S12_62]
  exact h0
theorem r_cl1 (d : Nat) (hk : k < 50) {δ ε : Nat → Int32} {x y : Int32} (hdr : Ev (d + 1) 7 [.ref k] (rv k δ τ κ H) = some (some (.int y), rv k ε τ κ H)) (h100 : y - y / 100 * 100 = x) (hc : ε 3 ≤ x) : Ev (d + 2) 13 [.ref k] (rv k δ τ κ H) = some (none, rv k ε τ κ H) := by
  have n100 : ¬ (100 : Int32) = 0 := by decide
  rw [E13]
  simp only [S13_0, S13_1, S13_4, S13_6, S13_7, S13_8, S13_11, S13_14, S13_15, S13_18, S13_21, S13_22, S13_25, S13_26, S13_29, S13_30, S13_31, S13_32, S13_35, S13_36, S13_37, S13_40, S13_42, S13_43, S13_44, Option.bind_some, Option.map_some, xpush_s, xpush_n, xcat_0, xcat_i, xcat_r, xcat_l, xcat_n, xcat_e, xir_r, Nat.reduceAdd, Nat.reduceLeDiff, Nat.zero_le, Nat.le_refl, ↓reduceIte, Rcls hk, Rg_7 hk, hdr, n100, h100, hc]
theorem r_cl2 (d : Nat) (hk : k < 50) {δ ε : Nat → Int32} {x y : Int32} (hdr : Ev (d + 1) 7 [.ref k] (rv k δ τ κ H) = some (some (.int y), rv k ε τ κ H)) (h100 : y - y / 100 * 100 = x) (hc : ¬ ε 3 ≤ x) (h0 : ε 0 ≤ 0) : Ev (d + 2) 13 [.ref k] (rv k δ τ κ H) = some (none, rv k ε τ κ H) := by
  have n100 : ¬ (100 : Int32) = 0 := by decide
  rw [E13]
  simp only [S13_0, S13_1, S13_4, S13_6, S13_7, S13_8, S13_11, S13_14, S13_15, S13_18, S13_21, S13_22, S13_25, S13_26, S13_29, S13_30, S13_31, S13_32, S13_35, S13_36, S13_37, S13_40, S13_42, S13_43, S13_44, Option.bind_some, Option.map_some, xpush_s, xpush_n, xcat_0, xcat_i, xcat_r, xcat_l, xcat_n, xcat_e, xir_r, Nat.reduceAdd, Nat.reduceLeDiff, Nat.zero_le, Nat.le_refl, ↓reduceIte, Rcls hk, Rg_7 hk, Rg_1 hk, hdr, n100, h100, hc, h0]
theorem r_cl3 (d : Nat) (hk : k < 50) {δ ε ε2 ε3 : Nat → Int32} {x y y2 y3 x3 : Int32} {m : Nat} (hdr : Ev (d + 1) 7 [.ref k] (rv k δ τ κ H) = some (some (.int y), rv k ε τ κ H)) (h100 : y - y / 100 * 100 = x) (hc : ¬ ε 3 ≤ x) (h0 : ¬ ε 0 ≤ 0) (hdr2 : Ev (d + 1) 7 [.ref k] (rv k ε τ κ H) = some (some (.int y2), rv k ε2 τ κ H)) (h00 : ¬ ε2 0 = 0) (hN : y2 - y2 / ε2 0 * ε2 0 = nI m) (hm : m < 10) (hdr3 : Ev (d + 1) 7 [.ref k] (rv k ε2 τ κ H) = some (some (.int y3), rv k ε3 τ κ H)) (h12 : y3 - y3 / 12 * 12 = x3) : Ev (d + 2) 13 [.ref k] (rv k δ τ κ H) = some (none, rv k (upd ε3 (20 + 4 * m + 2) x3) τ κ H) := by
  have n100 : ¬ (100 : Int32) = 0 := by decide
  have n12 : ¬ (12 : Int32) = 0 := by decide
  rw [E13]
  simp only [S13_0, S13_1, S13_4, S13_6, S13_7, S13_8, S13_11, S13_14, S13_15, S13_18, S13_21, S13_22, S13_25, S13_26, S13_29, S13_30, S13_31, S13_32, S13_35, S13_36, S13_37, S13_40, S13_42, S13_43, S13_44, Option.bind_some, Option.map_some, xpush_s, xpush_n, xcat_0, xcat_i, xcat_r, xcat_l, xcat_n, xcat_e, xir_r, Nat.reduceAdd, Nat.reduceLeDiff, Nat.zero_le, Nat.le_refl, ↓reduceIte, Rcls hk, Rg_7 hk, Rg_1 hk, Rg_4 hk, hdr, hdr2, hdr3, n100, n12, h100, hc, h0, h00, hN, h12, Rw_m2 hk hm]
theorem r_clerk (d : Nat) (hk : k < 50) {δ : Nat → Int32} (hw : wf δ) : Ev (d + 2) 13 [.ref k] (rv k δ τ κ H) = some (none, rv k (sClerk δ) τ κ H) := by
  have eN := hw.eN
  have h100 := sD_rem (δ 6) (N := 100) (n := 100) rfl (by decide) (by decide)
  by_cases hc : δ 3 ≤ nI (sDn (δ 6) % 100)
  · rw [sClerk_f (fun h => h.1 hc)]
    exact r_cl1 d hk (r_draw d hk) h100 (by rw [sDraw_3]; exact hc)
  · by_cases h0 : 0 < nn (δ 0)
    · have e0 : ¬ δ 0 ≤ 0 := by rw [eN.1]; exact nI_nle h0 (by omega)
      have e00 : ¬ δ 0 = 0 := by rw [eN.1]; exact nI_ne0 h0 (by omega)
      rw [sClerk_t hc h0]
      exact r_cl3 d hk (r_draw d hk) h100 (by rw [sDraw_3]; exact hc) (by rw [sDraw_0]; exact e0) (r_draw d hk) (by rw [sDraw_0, sDraw_0]; exact e00)
        (by rw [sDraw_0, sDraw_0]; exact sD_rem _ eN.1 h0 (by omega)) (Nat.lt_of_lt_of_le (Nat.mod_lt _ h0) eN.2) (r_draw d hk) (sD_rem _ rfl (by decide) (by decide))
    · have e0 : δ 0 ≤ 0 := by rw [eN.1, show nn (δ 0) = 0 by omega]; decide
      rw [sClerk_f (fun h => h0 h.2)]
      exact r_cl2 d hk (r_draw d hk) h100 (by rw [sDraw_3]; exact hc) (by rw [sDraw_0]; exact e0)
theorem r_pass_l (d : Nat) (hk : k < 50) {q : Option xq} (hq : QR H τ 0 q) {n : Nat} (hn : n < 2 ^ 31) : ∀ j m, m + j = n → ∀ δ : Nat → Int32, wf δ → ∀ κ, ∃ κ', RF 10 (Ev (d + 4)) 2 [some (.ref k), some (.int (nI n)), some (.int (nI m))] [] (rv k δ τ κ H) = some (none, rv k (sMonths q j δ) τ κ' H)
  | 0, m, e, δ, hw, κ => by
    have e' : m = n := by omega
    subst e'
    have hc : nI m ≤ nI m := Int32.le_refl _
    refine ⟨κ, ?_⟩
    rw [S10_2]
    simp only [S10_0, S10_1, S10_3, S10_4, S10_7, S10_8, S10_9, S10_10, S10_13, S10_16, S10_17, S10_20, S10_21, S10_24, S10_25, S10_28, S10_29, S10_32, S10_33, S10_34, S10_37, S10_38, S10_39, S10_42, S10_45, S10_48, Option.bind_some, Option.map_some, xpush_s, xpush_n, xcat_0, xcat_i, xcat_r, xcat_l, xcat_n, xcat_e, xir_r, Nat.reduceAdd, Nat.reduceLeDiff, Nat.zero_le, Nat.le_refl, ↓reduceIte, hc]
    rfl
  | j + 1, m, e, δ, hw, κ => by
    have hc : ¬ nI n ≤ nI m := nI_ge (by omega) (by omega)
    have h0 : (0 : Int32) = nI 0 := rfl
    have eN := hw.eN
    have h1 := mw_more hw (r := 0) (δ 2) (by decide)
    have e1 := r_more (τ := τ) (κ := κ) (H := H) (d + 1) hk hw (δ 2) (show 0 < 12 by decide)
    rw [← h0] at e1
    obtain ⟨κ1, e2⟩ := r_mA d hk hq h1.1 κ
    rw [h1.2 0 fx0] at e2
    have h2 := mw_trans h1 (mw_addF q (nn (δ 0)) 0 (by omega) _ h1.1)
    have e3 := r_runs (τ := τ) (κ := κ1) (H := H) d hk h2.1
    have h3 := mw_trans h2 (mw_run h2.1)
    have e4 := r_mF (τ := τ) (κ := κ1) (H := H) (d + 2) hk h3.1
    rw [h3.2 0 fx0] at e4
    have h4 := mw_trans h3 (mw_fadeF (nn (δ 0)) 0 (by omega) _ h3.1)
    have e5 := r_clerk (τ := τ) (κ := κ1) (H := H) (d + 2) hk h4.1
    have hw1 := mw_month q hw
    obtain ⟨κ2, ih⟩ := r_pass_l d hk hq hn j (m + 1) (by omega) (sMonth q δ) hw1.1 κ1
    refine ⟨κ2, ?_⟩
    rw [S10_2]
    simp only [S10_0, S10_1, S10_3, S10_4, S10_7, S10_8, S10_9, S10_10, S10_13, S10_16, S10_17, S10_20, S10_21, S10_24, S10_25, S10_28, S10_29, S10_32, S10_33, S10_34, S10_37, S10_38, S10_39, S10_42, S10_45, S10_48, Option.bind_some, Option.map_some, xpush_s, xpush_n, xcat_0, xcat_i, xcat_r, xcat_l, xcat_n, xcat_e, xir_r, Nat.reduceAdd, Nat.reduceLeDiff, Nat.zero_le, Nat.le_refl, ↓reduceIte, Rcls hk, hc, Rg_6 hk, e1, e2, e3, e4, e5, Rg_10 hk, Rp_10 hk, cat_r, cat_i, nI_1]
    exact ih
theorem r_pass (d : Nat) (hk : k < 50) {q : Option xq} (hq : QR H τ 0 q) {δ : Nat → Int32} (hw : wf δ) {n : Nat} (hn : n < 2 ^ 31) (κ : Nat → Nat → Int32) : ∃ κ', Ev (d + 5) 10 [.ref k, .int (nI n)] (rv k δ τ κ H) = some (none, rv k (sMonths q n δ) τ κ' H) := by
  obtain ⟨κ', h⟩ := r_pass_l d hk hq hn n 0 (by omega) δ hw κ
  refine ⟨κ', ?_⟩
  rw [E10]
  simp only [S10_0, S10_1, S10_3, S10_4, S10_7, S10_8, S10_9, S10_10, S10_13, S10_16, S10_17, S10_20, S10_21, S10_24, S10_25, S10_28, S10_29, S10_32, S10_33, S10_34, S10_37, S10_38, S10_39, S10_42, S10_45, S10_48]
  exact h
end RMO3
