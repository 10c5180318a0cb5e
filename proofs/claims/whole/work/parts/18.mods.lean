/-! part 18: the reference's small methods; md: its row d (δ) and its pile (κ) shown -/
def md (a : Nat → Nat → Int32) (δ κ : Nat → Int32) (s : Nat → Int32) (w : Int64) (H : xh) : xh := mh (va_up (va_up a 1 δ) 9 κ) s w H
theorem va1 (a : Nat → Nat → Int32) (δ κ : Nat → Int32) : va_up (va_up a 1 δ) 9 κ 1 = δ := by rw [vu_n _ _ (by decide), vu_s]
theorem va9 (a : Nat → Nat → Int32) (δ κ : Nat → Int32) : va_up (va_up a 1 δ) 9 κ 9 = κ := vu_s _ _ _
theorem vaj (a : Nat → Nat → Int32) (δ κ : Nat → Int32) {j : Nat} (h1 : j ≠ 1) (h9 : j ≠ 9) : va_up (va_up a 1 δ) 9 κ j = a j := by rw [vu_n _ _ h9, vu_n _ _ h1]
section MODS
variable {a : Nat → Nat → Int32} {δ κ s : Nat → Int32} {w : Int64} {H : xh}
theorem Dg : hgf (md a δ κ s w H) (.ref 58) 6 0 = some (.ref 59) := (rfl)
theorem Dg9 : hgf (md a δ κ s w H) (.ref 58) 6 9 = some (.ref 67) := (rfl)
theorem Dg6 : hgf (md a δ κ s w H) (.ref 58) 6 6 = some (.ref 64) := (rfl)
theorem Dcls : (xcls (md a δ κ s w H) (.ref 58) = 6) = True := eq_true rfl
theorem Dr (i : Int32) : hrd (md a δ κ s w H) (.ref 59) 0 i = (xix i 60).map δ := by unfold md; rw [Mr_1, va1]
theorem Dw (i x : Int32) : hwr (md a δ κ s w H) (.ref 59) 0 i x = (xix i 60).map (fun t => md a (upd δ t x) κ s w H) := by
  unfold md
  rw [Mw_1, va1]
  simp only [vu_c _ _ _ (show 1 ≠ 9 by decide), vu_u]
theorem Dr6 (i : Int32) : hrd (md a δ κ s w H) (.ref 64) 0 i = (xix i 14).map (a 6) := by unfold md; rw [Mr_6, vaj _ _ _ (by decide) (by decide)]
theorem ix_0 : xix 0 60 = some 0 := (rfl)
theorem ix_1 : xix 1 60 = some 1 := (rfl)
theorem ix_2 : xix 2 60 = some 2 := (rfl)
theorem ix_3 : xix 3 60 = some 3 := (rfl)
theorem ix_4 : xix 4 60 = some 4 := (rfl)
theorem ix_5 : xix 5 60 = some 5 := (rfl)
theorem ix_6 : xix 6 60 = some 6 := (rfl)
theorem ix_7 : xix 7 60 = some 7 := (rfl)
theorem ix_8 : xix 8 60 = some 8 := (rfl)
theorem s_of (d : Nat) {m k : Nat} (hm : m < 10) (hk : k < 4) : Ev (d + 1) 120 [.ref 58, .int (nI m), .int (nI k)] (md a δ κ s w H) = some (some (.int (δ (20 + 4 * m + k))), md a δ κ s w H) := by
  rw [E120]
  simp only [S120_0, S120_1, S120_4, S120_6, S120_7, S120_8, S120_9, S120_10, S120_11, S120_12, S120_13, Option.bind_some, Option.map_some, xpush_s, xpush_n, xcat_0, xcat_i, xcat_r, xcat_l, xcat_n, xcat_e, xir_r, Nat.reduceAdd, Nat.reduceLeDiff, Nat.zero_le, Nat.le_refl, ↓reduceIte, Dg, Dr, ix4, xix_n (show 20 + 4 * m + k < 60 by omega) (by omega)]
theorem s_of0 (d : Nat) {m : Nat} (hm : m < 10) : Ev (d + 1) 120 [.ref 58, .int (nI m), .int 0] (md a δ κ s w H) = some (some (.int (δ (20 + 4 * m))), md a δ κ s w H) := s_of d hm (k := 0) (by decide)
theorem s_of1 (d : Nat) {m : Nat} (hm : m < 10) : Ev (d + 1) 120 [.ref 58, .int (nI m), .int 1] (md a δ κ s w H) = some (some (.int (δ (20 + 4 * m + 1))), md a δ κ s w H) := s_of d hm (k := 1) (by decide)
theorem s_of2 (d : Nat) {m : Nat} (hm : m < 10) : Ev (d + 1) 120 [.ref 58, .int (nI m), .int 2] (md a δ κ s w H) = some (some (.int (δ (20 + 4 * m + 2))), md a δ κ s w H) := s_of d hm (k := 2) (by decide)
theorem s_of3 (d : Nat) {m : Nat} (hm : m < 10) : Ev (d + 1) 120 [.ref 58, .int (nI m), .int 3] (md a δ κ s w H) = some (some (.int (δ (20 + 4 * m + 3))), md a δ κ s w H) := s_of d hm (k := 3) (by decide)
theorem s_sets (d : Nat) {m k : Nat} (x : Int32) (hm : m < 10) (hk : k < 4) : Ev (d + 1) 114 [.ref 58, .int (nI m), .int (nI k), .int x] (md a δ κ s w H) = some (none, md a (upd δ (20 + 4 * m + k) x) κ s w H) := by
  rw [E114]
  simp only [S114_0, S114_1, S114_4, S114_6, S114_7, S114_8, S114_9, S114_10, S114_11, S114_12, S114_13, S114_14, Option.bind_some, Option.map_some, xpush_s, xpush_n, xcat_0, xcat_i, xcat_r, xcat_l, xcat_n, xcat_e, xir_r, Nat.reduceAdd, Nat.reduceLeDiff, Nat.zero_le, Nat.le_refl, ↓reduceIte, Dg, Dw, ix4, xix_n (show 20 + 4 * m + k < 60 by omega) (by omega)]
theorem s_sets0 (d : Nat) {m : Nat} (x : Int32) (hm : m < 10) : Ev (d + 1) 114 [.ref 58, .int (nI m), .int 0, .int x] (md a δ κ s w H) = some (none, md a (upd δ (20 + 4 * m) x) κ s w H) := s_sets d x hm (k := 0) (by decide)
theorem s_sets1 (d : Nat) {m : Nat} (x : Int32) (hm : m < 10) : Ev (d + 1) 114 [.ref 58, .int (nI m), .int 1, .int x] (md a δ κ s w H) = some (none, md a (upd δ (20 + 4 * m + 1) x) κ s w H) := s_sets d x hm (k := 1) (by decide)
theorem s_sets2 (d : Nat) {m : Nat} (x : Int32) (hm : m < 10) : Ev (d + 1) 114 [.ref 58, .int (nI m), .int 2, .int x] (md a δ κ s w H) = some (none, md a (upd δ (20 + 4 * m + 2) x) κ s w H) := s_sets d x hm (k := 2) (by decide)
theorem s_sets3 (d : Nat) {m : Nat} (x : Int32) (hm : m < 10) : Ev (d + 1) 114 [.ref 58, .int (nI m), .int 3, .int x] (md a δ κ s w H) = some (none, md a (upd δ (20 + 4 * m + 3) x) κ s w H) := s_sets d x hm (k := 3) (by decide)
theorem s_becomesAt (d : Nat) {k : Nat} (x : Int32) (hk : k < 60) : Ev (d + 1) 133 [.ref 58, .int (nI k), .int x] (md a δ κ s w H) = some (some (.int (δ k)), md a (upd δ k x) κ s w H) := by
  rw [E133]
  simp only [S133_0, S133_1, S133_4, S133_5, S133_6, S133_7, S133_8, S133_11, S133_12, S133_13, S133_14, S133_15, Option.bind_some, Option.map_some, xpush_s, xpush_n, xcat_0, xcat_i, xcat_r, xcat_l, xcat_n, xcat_e, xir_r, Nat.reduceAdd, Nat.reduceLeDiff, Nat.zero_le, Nat.le_refl, ↓reduceIte, Dg, Dr, Dw, xix_n hk (by omega)]
/-- water comes to a reach -/
def sMore (δ : Nat → Int32) (r : Nat) (x : Int32) : Nat → Int32 :=
  upd (upd δ 5 (hd (δ 5 + (if δ (8 + r) + x ≤ 99 then 0 else 1)) 0 99999)) (8 + r) (hd (δ (8 + r) + x) 0 99)
theorem s_more (d : Nat) {r : Nat} (x : Int32) (hr : r < 12) : Ev (d + 2) 143 [.ref 58, .int (nI r), .int x] (md a δ κ s w H) = some (none, md a (sMore δ r x) κ s w H) := by
  rw [E143]
  by_cases h : δ (8 + r) + x ≤ 99
  · simp only [S143_0, S143_1, S143_4, S143_6, S143_7, S143_8, S143_9, S143_10, S143_11, S143_12, S143_13, S143_16, S143_17, S143_18, S143_21, S143_22, S143_23, S143_24, S143_26, S143_29, S143_30, S143_33, S143_34, S143_35, S143_36, S143_38, S143_41, S143_42, S143_43, S143_46, S143_48, S143_49, S143_50, S143_51, S143_52, S143_54, S143_57, S143_58, Option.bind_some, Option.map_some, xpush_s, xpush_n, xcat_0, xcat_i, xcat_r, xcat_l, xcat_n, xcat_e, xir_r, Nat.reduceAdd, Nat.reduceLeDiff, Nat.zero_le, Nat.le_refl, ↓reduceIte, Dg, Dr, Dw, ix8, ix_5, xix_n (show 8 + r < 60 by omega) (by omega), h, s_held, sMore]
  · simp only [S143_0, S143_1, S143_4, S143_6, S143_7, S143_8, S143_9, S143_10, S143_11, S143_12, S143_13, S143_16, S143_17, S143_18, S143_21, S143_22, S143_23, S143_24, S143_26, S143_29, S143_30, S143_33, S143_34, S143_35, S143_36, S143_38, S143_41, S143_42, S143_43, S143_46, S143_48, S143_49, S143_50, S143_51, S143_52, S143_54, S143_57, S143_58, Option.bind_some, Option.map_some, xpush_s, xpush_n, xcat_0, xcat_i, xcat_r, xcat_l, xcat_n, xcat_e, xir_r, Nat.reduceAdd, Nat.reduceLeDiff, Nat.zero_le, Nat.le_refl, ↓reduceIte, Dg, Dr, Dw, ix8, ix_5, xix_n (show 8 + r < 60 by omega) (by omega), h, s_held, sMore]
/-- the next number -/
def sZ (z : Int32) : Int32 := z * 1103515245 + 12345
def sD (z : Int32) : Int32 := ((sZ z).toUInt32 >>> 8).toInt32
theorem s_draw (d : Nat) : Ev (d + 1) 139 [.ref 58] (md a δ κ s w H) = some (some (.int (sD (δ 6))), md a (upd δ 6 (sZ (δ 6))) κ s w H) := by
  rw [E139]
  simp only [S139_0, S139_1, S139_4, S139_6, S139_7, S139_10, S139_12, S139_13, S139_15, S139_16, S139_19, S139_20, S139_21, S139_22, S139_25, S139_27, S139_28, S139_30, S139_31, Option.bind_some, Option.map_some, xpush_s, xpush_n, xcat_0, xcat_i, xcat_r, xcat_l, xcat_n, xcat_e, xir_r, Nat.reduceAdd, Nat.reduceLeDiff, Nat.zero_le, Nat.le_refl, ↓reduceIte, Dg, Dr, Dw, ix_6, up_s]
  rfl
end MODS
