/-! part 22: the month -/
/-- what stays in a month: how many marks, the rules, the texts, the kinds -/
def fx (k : Nat) : Prop := k = 0 ∨ k = 2 ∨ k = 3 ∨ k = 7 ∨ (20 ≤ k ∧ k < 60 ∧ k % 4 = 0)
def mw (δ δ' : Nat → Int32) : Prop := wf δ' ∧ ∀ k, fx k → δ' k = δ k
theorem mw_refl {δ : Nat → Int32} (h : wf δ) : mw δ δ := ⟨h, fun _ _ => rfl⟩
theorem mw_trans {δ δ' δ'' : Nat → Int32} (h : mw δ δ') (h' : mw δ' δ'') : mw δ δ'' := ⟨h'.1, fun k hk => (h'.2 k hk).trans (h.2 k hk)⟩
theorem mw_upd {δ : Nat → Int32} (h : wf δ) {k : Nat} {x : Int32} (hk : ¬ fx k) (hx : okk k x) : mw δ (upd δ k x) := ⟨wf_upd h hx, fun j hj => up_n _ _ (fun e => hk (e ▸ hj))⟩
theorem sMore_n {δ : Nat → Int32} {r j : Nat} {x : Int32} (h5 : j ≠ 5) (h8 : j ≠ 8 + r) : sMore δ r x j = δ j := by
  unfold sMore
  rw [up_n _ _ h8, up_n _ _ h5]
theorem mw_more {δ : Nat → Int32} (h : wf δ) {r : Nat} (x : Int32) (hr : r < 12) : mw δ (sMore δ r x) := ⟨wf_more h x hr, fun j hj => by
  unfold fx at hj
  exact sMore_n (by omega) (by omega)⟩
theorem sRun1_n {δ : Nat → Int32} {r j : Nat} (h4 : j ≠ 4) (h5 : j ≠ 5) (h8 : j < 8 ∨ 20 ≤ j) (hr : r < 12) : sRun1 δ r j = δ j := by
  unfold sRun1
  by_cases h11 : r = 11
  · simp only [h11, if_true]
    rw [up_n _ _ h4, up_n _ _ (by omega)]
  · simp only [h11, if_false]
    rw [sMore_n h5 (by omega), up_n _ _ (by omega)]
theorem sRunK_n {j : Nat} (h4 : j ≠ 4) (h5 : j ≠ 5) (h8 : j < 8 ∨ 20 ≤ j) : ∀ k, k ≤ 12 → ∀ δ : Nat → Int32, sRunK k δ j = δ j
  | 0, _, _ => rfl
  | k + 1, hk, δ => (sRunK_n h4 h5 h8 k (by omega) (sRun1 δ k)).trans (sRun1_n h4 h5 h8 (by omega))
theorem mw_run {δ : Nat → Int32} (h : wf δ) : mw δ (sRun δ) := ⟨wf_runK 12 (by decide) δ h, fun j hj => by
  unfold fx at hj
  exact sRunK_n (by omega) (by omega) (by omega) 12 (by decide) δ⟩
def sAdd1 (q : Option xq) (δ : Nat → Int32) (m : Nat) : Nat → Int32 := sMore δ (nn (δ (20 + 4 * m + 2))) (sAdds q δ m)
/-- j marks from m on add -/
def sAddF (q : Option xq) : Nat → Nat → (Nat → Int32) → Nat → Int32
  | 0, _, δ => δ
  | j + 1, m, δ => sAddF q j (m + 1) (sAdd1 q δ m)
theorem mw_add1 {δ : Nat → Int32} (q : Option xq) (h : wf δ) {m : Nat} (hm : m < 10) : mw δ (sAdd1 q δ m) := mw_more h _ (by have := (h.eR hm).2; omega)
theorem mw_addF (q : Option xq) : ∀ j m, m + j ≤ 10 → ∀ δ : Nat → Int32, wf δ → mw δ (sAddF q j m δ)
  | 0, _, _, _, h => mw_refl h
  | j + 1, m, hm, _, h => mw_trans (mw_add1 q h (by omega)) (mw_addF q j (m + 1) (by omega) _ (mw_add1 q h (by omega)).1)
def sFade1 (δ : Nat → Int32) (m : Nat) : Nat → Int32 :=
  let δ' := upd δ (20 + 4 * m + 1) (hd (δ (20 + 4 * m + 1) - sFades (δ (20 + 4 * m))) 0 99)
  upd δ' (20 + 4 * m + 3) (hd (δ' (20 + 4 * m + 3) + 1) 0 9999)
def sFadeF : Nat → Nat → (Nat → Int32) → Nat → Int32
  | 0, _, δ => δ
  | j + 1, m, δ => sFadeF j (m + 1) (sFade1 δ m)
theorem mw_fade1 {δ : Nat → Int32} (h : wf δ) {m : Nat} (hm : m < 10) : mw δ (sFade1 δ m) := by
  have h1 := mw_upd h (k := 20 + 4 * m + 1) (x := hd (δ (20 + 4 * m + 1) - sFades (δ (20 + 4 * m))) 0 99) (by unfold fx; omega) (okk_of (bnd_ink hm) (bd_hd _ rfl (by decide)))
  exact mw_trans h1 (mw_upd h1.1 (by unfold fx; omega) (okk_of (bnd_stood hm) (bd_hd _ rfl (by decide))))
theorem mw_fadeF : ∀ j m, m + j ≤ 10 → ∀ δ : Nat → Int32, wf δ → mw δ (sFadeF j m δ)
  | 0, _, _, _, h => mw_refl h
  | j + 1, m, hm, _, h => mw_trans (mw_fade1 h (by omega)) (mw_fadeF j (m + 1) (by omega) _ (mw_fade1 h (by omega)).1)
def sDn (z : Int32) : Nat := (sZ z).toBitVec.toNat / 256
theorem sDn_lt (z : Int32) : sDn z < 16777216 := by
  have := (sZ z).toBitVec.isLt
  unfold sDn
  omega
theorem sD_n (z : Int32) : sD z = nI (sDn z) := by
  apply Int32.toBitVec_inj.mp
  apply BitVec.eq_of_toNat_eq
  rw [pk_tn (by have := sDn_lt z; omega)]
  exact pk_ushr (sZ z) 8 8 (by decide)
theorem sD_rem (z : Int32) {n : Nat} {N : Int32} (hN : N = nI n) (h0 : 0 < n) (h : n < 2 ^ 31) : sD z - sD z / N * N = nI (sDn z % n) := by
  subst hN
  rw [sD_n]
  exact pk_rem (by have := sDn_lt z; omega) h0 h
def sDraw (δ : Nat → Int32) : Nat → Int32 := upd δ 6 (sZ (δ 6))
def sClerk (δ : Nat → Int32) : Nat → Int32 :=
  let δ1 := sDraw δ
  if ¬ δ 3 ≤ nI (sDn (δ 6) % 100) ∧ 0 < nn (δ 0) then
    let δ2 := sDraw δ1
    upd (sDraw δ2) (20 + 4 * (sDn (δ1 6) % nn (δ 0)) + 2) (nI (sDn (δ2 6) % 12))
  else δ1
theorem mw_draw {δ : Nat → Int32} (h : wf δ) : mw δ (sDraw δ) := mw_upd h (by unfold fx; omega) (fun _ hb => nomatch hb)
theorem mw_clerk {δ : Nat → Int32} (h : wf δ) : mw δ (sClerk δ) := by
  unfold sClerk
  have hN := h.eN.2
  by_cases hc : ¬ δ 3 ≤ nI (sDn (δ 6) % 100) ∧ 0 < nn (δ 0)
  · simp only [hc, if_true, not_false_eq_true, and_self]
    have h1 := mw_draw h
    have h2 := mw_trans h1 (mw_draw h1.1)
    have h3 := mw_trans h2 (mw_draw h2.1)
    have hm : sDn (sDraw δ 6) % nn (δ 0) < nn (δ 0) := Nat.mod_lt _ hc.2
    exact mw_trans h3 (mw_upd h3.1 (by unfold fx; omega) (okk_of (bnd_reach (by omega)) ⟨_, by omega, rfl⟩))
  · simp only [hc, if_false]
    exact mw_draw h
def sMonth (q : Option xq) (δ : Nat → Int32) : Nat → Int32 :=
  let δ' := sClerk (sFadeF (nn (δ 0)) 0 (sRun (sAddF q (nn (δ 0)) 0 (sMore δ 0 (δ 2)))))
  upd δ' 1 (δ' 1 + 1)
theorem mw_month {δ : Nat → Int32} (q : Option xq) (h : wf δ) : mw δ (sMonth q δ) := by
  have hN := h.eN.2
  have h1 := mw_more h (r := 0) (δ 2) (by decide)
  have h2 := mw_trans h1 (mw_addF q (nn (δ 0)) 0 (by omega) _ h1.1)
  have h3 := mw_trans h2 (mw_run h2.1)
  have h4 := mw_trans h3 (mw_fadeF (nn (δ 0)) 0 (by omega) _ h3.1)
  have h5 := mw_trans h4 (mw_clerk h4.1)
  exact mw_trans h5 (mw_upd h5.1 (by unfold fx; omega) (fun _ hb => nomatch hb))
/-- k months -/
def sMonths (q : Option xq) : Nat → (Nat → Int32) → Nat → Int32
  | 0, δ => δ
  | k + 1, δ => sMonths q k (sMonth q δ)
theorem mw_months (q : Option xq) : ∀ k (δ : Nat → Int32), wf δ → mw δ (sMonths q k δ)
  | 0, _, h => mw_refl h
  | k + 1, _, h => mw_trans (mw_month q h) (mw_months q k _ (mw_month q h).1)
theorem fx0 : fx 0 := Or.inl rfl
theorem fx7 : fx 7 := by unfold fx; omega
section MON3
variable {a : Nat → Nat → Int32} {κ s : Nat → Int32} {w : Int64} {H : xh}
theorem l_mgA (d : Nat) {q : Option xq} {n : Nat} : ∀ j m, m + j = n → ∀ δ : Nat → Int32, wf δ → nn (δ 0) = n → QM a 0 (nn (δ 7)) q → ∀ κ, ∃ κ', RF 146 (Ev (d + 4)) 13 [some (.ref 58), some (.int (nI m))] [] (md a δ κ s w H) = RF 146 (Ev (d + 4)) 44 [some (.ref 58), some (.int (nI n))] [] (md a (sAddF q j m δ) κ' s w H)
  | 0, m, e, δ, hw, hn, hq, κ => by
    have e' : m = n := by omega
    subst e'
    have h0 := hw.eN.1
    rw [hn] at h0
    have hc : nI m ≤ nI m := Int32.le_refl _
    refine ⟨κ, ?_⟩
    rw [S146_13]
    simp only [S146_14, S146_15, S146_18, S146_19, S146_20, S146_23, S146_24, S146_25, S146_26, S146_27, S146_30, S146_31, S146_32, S146_35, S146_38, S146_41, Option.bind_some, Option.map_some, xpush_s, xpush_n, xcat_0, xcat_i, xcat_r, xcat_l, xcat_n, xcat_e, xir_r, Nat.reduceAdd, Nat.reduceLeDiff, Nat.zero_le, Nat.le_refl, ↓reduceIte, Dg, Dr, ix_0, h0, hc]
    rfl
  | j + 1, m, e, δ, hw, hn, hq, κ => by
    have h0 := hw.eN
    rw [hn] at h0
    have hm : m < 10 := by omega
    have eR := hw.eR hm
    have hc : ¬ nI n ≤ nI m := nI_ge (by omega) (by omega)
    obtain ⟨κ1, h1⟩ := s_adds (κ := κ) (s := s) (w := w) (H := H) d hw hq hm
    have hw1 := mw_add1 q hw hm
    obtain ⟨κ2, h2⟩ := l_mgA d j (m + 1) (show m + 1 + j = n by omega) (sAdd1 q δ m) hw1.1 (by rw [hw1.2 0 fx0]; exact hn) (by rw [hw1.2 7 fx7]; exact hq) κ1
    refine ⟨κ2, ?_⟩
    have hmo := s_more (a := a) (δ := δ) (κ := κ1) (s := s) (w := w) (H := H) (d + 2) (sAdds q δ m) (show nn (δ (20 + 4 * m + 2)) < 12 by omega)
    rw [← eR.1] at hmo
    rw [sAddF, ← h2, S146_13]
    simp only [S146_14, S146_15, S146_18, S146_19, S146_20, S146_23, S146_24, S146_25, S146_26, S146_27, S146_30, S146_31, S146_32, S146_35, S146_38, S146_41, Option.bind_some, Option.map_some, xpush_s, xpush_n, xcat_0, xcat_i, xcat_r, xcat_l, xcat_n, xcat_e, xir_r, Nat.reduceAdd, Nat.reduceLeDiff, Nat.zero_le, Nat.le_refl, ↓reduceIte, Dg, Dcls, Dr, ix_0, h0.1, hc, s_of2 _ hm, h1, hmo, nI_1]
    rfl
theorem l_mgF (d : Nat) {n : Nat} : ∀ j m, m + j = n → ∀ δ : Nat → Int32, wf δ → nn (δ 0) = n → RF 146 (Ev (d + 4)) 50 [some (.ref 58), some (.int (nI m))] [] (md a δ κ s w H) = RF 146 (Ev (d + 4)) 111 [some (.ref 58), some (.int (nI n))] [] (md a (sFadeF j m δ) κ s w H)
  | 0, m, e, δ, hw, hn => by
    have e' : m = n := by omega
    subst e'
    have h0 := hw.eN.1
    rw [hn] at h0
    have hc : nI m ≤ nI m := Int32.le_refl _
    rw [S146_50]
    simp only [S146_51, S146_52, S146_55, S146_56, S146_57, S146_60, S146_61, S146_62, S146_63, S146_64, S146_65, S146_66, S146_69, S146_70, S146_71, S146_74, S146_75, S146_76, S146_78, S146_81, S146_84, S146_85, S146_86, S146_87, S146_88, S146_89, S146_90, S146_93, S146_94, S146_95, S146_96, S146_99, S146_102, S146_105, S146_108, Option.bind_some, Option.map_some, xpush_s, xpush_n, xcat_0, xcat_i, xcat_r, xcat_l, xcat_n, xcat_e, xir_r, Nat.reduceAdd, Nat.reduceLeDiff, Nat.zero_le, Nat.le_refl, ↓reduceIte, Dg, Dr, ix_0, h0, hc]
    rfl
  | j + 1, m, e, δ, hw, hn => by
    have h0 := hw.eN
    rw [hn] at h0
    have hm : m < 10 := by omega
    have hc : ¬ nI n ≤ nI m := nI_ge (by omega) (by omega)
    have hw1 := mw_fade1 hw hm
    have h2 := l_mgF d j (m + 1) (show m + 1 + j = n by omega) (sFade1 δ m) hw1.1 (by rw [hw1.2 0 fx0]; exact hn)
    rw [sFadeF, ← h2, S146_50]
    simp only [S146_51, S146_52, S146_55, S146_56, S146_57, S146_60, S146_61, S146_62, S146_63, S146_64, S146_65, S146_66, S146_69, S146_70, S146_71, S146_74, S146_75, S146_76, S146_78, S146_81, S146_84, S146_85, S146_86, S146_87, S146_88, S146_89, S146_90, S146_93, S146_94, S146_95, S146_96, S146_99, S146_102, S146_105, S146_108, Option.bind_some, Option.map_some, xpush_s, xpush_n, xcat_0, xcat_i, xcat_r, xcat_l, xcat_n, xcat_e, xir_r, Nat.reduceAdd, Nat.reduceLeDiff, Nat.zero_le, Nat.le_refl, ↓reduceIte, Dg, Dcls, Dr, ix_0, h0.1, hc, s_of0 _ hm, s_of1 _ hm, s_of3 _ hm, s_fades _ hm, s_held, s_sets1 _ _ hm, s_sets3 _ _ hm, nI_1]
    rfl
theorem sClerk_t {δ : Nat → Int32} (hc : ¬ δ 3 ≤ nI (sDn (δ 6) % 100)) (h0 : 0 < nn (δ 0)) : sClerk δ = upd (sDraw (sDraw (sDraw δ))) (20 + 4 * (sDn (sDraw δ 6) % nn (δ 0)) + 2) (nI (sDn (sDraw (sDraw δ) 6) % 12)) := by
  unfold sClerk
  exact if_pos ⟨hc, h0⟩
theorem sClerk_f {δ : Nat → Int32} (hc : ¬ (¬ δ 3 ≤ nI (sDn (δ 6) % 100) ∧ 0 < nn (δ 0))) : sClerk δ = sDraw δ := by
  unfold sClerk
  exact if_neg hc
theorem s_draw' (d : Nat) {δ : Nat → Int32} : Ev (d + 1) 139 [.ref 58] (md a δ κ s w H) = some (some (.int (sD (δ 6))), md a (sDraw δ) κ s w H) := s_draw d
theorem sDraw_3 (δ : Nat → Int32) : sDraw δ 3 = δ 3 := up_n _ _ (by decide)
theorem sDraw_0 (δ : Nat → Int32) : sDraw δ 0 = δ 0 := up_n _ _ (by decide)
theorem l_mgC1 (d : Nat) {δ ε : Nat → Int32} {x y : Int32} (hdr : Ev (d + 4) 139 [.ref 58] (md a δ κ s w H) = some (some (.int y), md a ε κ s w H)) (h100 : y - y / 100 * 100 = x) (hc : ε 3 ≤ x) (l : Option Value) : RF 146 (Ev (d + 4)) 111 [some (.ref 58), l] [] (md a δ κ s w H) = some (none, md a (upd ε 1 (ε 1 + 1)) κ s w H) := by
  have n100 : ¬ (100 : Int32) = 0 := by decide
  rw [S146_111]
  simp only [S146_112, S146_115, S146_117, S146_118, S146_119, S146_122, S146_123, S146_124, S146_127, S146_128, S146_131, S146_132, S146_133, S146_136, S146_137, S146_140, S146_141, S146_144, S146_145, S146_146, S146_147, S146_148, S146_149, S146_150, S146_151, S146_152, S146_155, S146_157, S146_158, S146_161, S146_162, S146_165, S146_166, S146_167, S146_168, S146_169, S146_170, S146_171, Option.bind_some, Option.map_some, xpush_s, xpush_n, xcat_0, xcat_i, xcat_r, xcat_l, xcat_n, xcat_e, xir_r, Nat.reduceAdd, Nat.reduceLeDiff, Nat.zero_le, Nat.le_refl, ↓reduceIte, Dg, Dcls, Dr, Dw, ix_3, ix_1, hdr, n100, h100, hc, cat_i, cat_r, and_self]
theorem l_mgC2 (d : Nat) {δ ε : Nat → Int32} {x y : Int32} (hdr : Ev (d + 4) 139 [.ref 58] (md a δ κ s w H) = some (some (.int y), md a ε κ s w H)) (h100 : y - y / 100 * 100 = x) (hc : ¬ ε 3 ≤ x) (h0 : ε 0 ≤ 0) (l : Option Value) : RF 146 (Ev (d + 4)) 111 [some (.ref 58), l] [] (md a δ κ s w H) = some (none, md a (upd ε 1 (ε 1 + 1)) κ s w H) := by
  have n100 : ¬ (100 : Int32) = 0 := by decide
  rw [S146_111]
  simp only [S146_112, S146_115, S146_117, S146_118, S146_119, S146_122, S146_123, S146_124, S146_127, S146_128, S146_131, S146_132, S146_133, S146_136, S146_137, S146_140, S146_141, S146_144, S146_145, S146_146, S146_147, S146_148, S146_149, S146_150, S146_151, S146_152, S146_155, S146_157, S146_158, S146_161, S146_162, S146_165, S146_166, S146_167, S146_168, S146_169, S146_170, S146_171, Option.bind_some, Option.map_some, xpush_s, xpush_n, xcat_0, xcat_i, xcat_r, xcat_l, xcat_n, xcat_e, xir_r, Nat.reduceAdd, Nat.reduceLeDiff, Nat.zero_le, Nat.le_refl, ↓reduceIte, Dg, Dcls, Dr, Dw, ix_3, ix_1, ix_0, hdr, n100, h100, hc, h0, cat_i, cat_r, and_self]
theorem l_mgC3 (d : Nat) {δ ε ε2 ε3 : Nat → Int32} {x y y2 y3 x3 : Int32} {m : Nat} (hdr : Ev (d + 4) 139 [.ref 58] (md a δ κ s w H) = some (some (.int y), md a ε κ s w H)) (h100 : y - y / 100 * 100 = x) (hc : ¬ ε 3 ≤ x) (h0 : ¬ ε 0 ≤ 0) (hdr2 : Ev (d + 4) 139 [.ref 58] (md a ε κ s w H) = some (some (.int y2), md a ε2 κ s w H)) (h00 : ¬ ε2 0 = 0) (hN : y2 - y2 / ε2 0 * ε2 0 = nI m) (hm : m < 10) (hdr3 : Ev (d + 4) 139 [.ref 58] (md a ε2 κ s w H) = some (some (.int y3), md a ε3 κ s w H)) (h12 : y3 - y3 / 12 * 12 = x3) (l : Option Value) : RF 146 (Ev (d + 4)) 111 [some (.ref 58), l] [] (md a δ κ s w H) = some (none, md a (upd (upd ε3 (20 + 4 * m + 2) x3) 1 (upd ε3 (20 + 4 * m + 2) x3 1 + 1)) κ s w H) := by
  have n100 : ¬ (100 : Int32) = 0 := by decide
  have n12 : ¬ (12 : Int32) = 0 := by decide
  rw [S146_111]
  simp only [S146_112, S146_115, S146_117, S146_118, S146_119, S146_122, S146_123, S146_124, S146_127, S146_128, S146_131, S146_132, S146_133, S146_136, S146_137, S146_140, S146_141, S146_144, S146_145, S146_146, S146_147, S146_148, S146_149, S146_150, S146_151, S146_152, S146_155, S146_157, S146_158, S146_161, S146_162, S146_165, S146_166, S146_167, S146_168, S146_169, S146_170, S146_171, Option.bind_some, Option.map_some, xpush_s, xpush_n, xcat_0, xcat_i, xcat_r, xcat_l, xcat_n, xcat_e, xir_r, Nat.reduceAdd, Nat.reduceLeDiff, Nat.zero_le, Nat.le_refl, ↓reduceIte, Dg, Dcls, Dr, Dw, ix_3, ix_1, ix_0, hdr, hdr2, hdr3, n100, n12, h100, hc, h0, h00, hN, h12, s_sets2 _ _ hm, cat_i, cat_r, and_self]
theorem l_mgC (d : Nat) (δ : Nat → Int32) (hw : wf δ) (l : Option Value) : RF 146 (Ev (d + 4)) 111 [some (.ref 58), l] [] (md a δ κ s w H) = some (none, md a (upd (sClerk δ) 1 (sClerk δ 1 + 1)) κ s w H) := by
  have eN := hw.eN
  have h100 := sD_rem (δ 6) (N := 100) (n := 100) rfl (by decide) (by decide)
  by_cases hc : δ 3 ≤ nI (sDn (δ 6) % 100)
  · rw [sClerk_f (fun h => h.1 hc)]
    exact l_mgC1 d (s_draw' (d + 3)) h100 (by rw [sDraw_3]; exact hc) l
  · by_cases h0 : 0 < nn (δ 0)
    · have e0 : ¬ δ 0 ≤ 0 := by rw [eN.1]; exact nI_nle h0 (by omega)
      have e00 : ¬ δ 0 = 0 := by rw [eN.1]; exact nI_ne0 h0 (by omega)
      rw [sClerk_t hc h0]
      exact l_mgC3 d (s_draw' (d + 3)) h100 (by rw [sDraw_3]; exact hc) (by rw [sDraw_0]; exact e0) (s_draw' (d + 3)) (by rw [sDraw_0, sDraw_0]; exact e00)
        (by rw [sDraw_0, sDraw_0]; exact sD_rem _ eN.1 h0 (by omega)) (Nat.lt_of_lt_of_le (Nat.mod_lt _ h0) eN.2) (s_draw' (d + 3)) (sD_rem _ rfl (by decide) (by decide)) l
    · have e0 : δ 0 ≤ 0 := by rw [eN.1, show nn (δ 0) = 0 by omega]; decide
      rw [sClerk_f (fun h => h0 h.2)]
      exact l_mgC2 d (s_draw' (d + 3)) h100 (by rw [sDraw_3]; exact hc) (by rw [sDraw_0]; exact e0) l
theorem s_month (d : Nat) {q : Option xq} {δ : Nat → Int32} (hw : wf δ) (hq : QM a 0 (nn (δ 7)) q) : ∃ κ', Ev (d + 5) 146 [.ref 58] (md a δ κ s w H) = some (none, md a (sMonth q δ) κ' s w H) := by
  have eN := hw.eN
  have h1 := mw_more hw (r := 0) (δ 2) (by decide)
  obtain ⟨κ1, e1⟩ := l_mgA (s := s) (w := w) (H := H) d (n := nn (δ 0)) (nn (δ 0)) 0 (by omega) (sMore δ 0 (δ 2)) h1.1 (by rw [h1.2 0 fx0]) (by rw [h1.2 7 fx7]; exact hq) κ
  have h2 := mw_trans h1 (mw_addF q (nn (δ 0)) 0 (by omega) _ h1.1)
  have h3 := mw_trans h2 (mw_run h2.1)
  have e3 := l_mgF (a := a) (κ := κ1) (s := s) (w := w) (H := H) d (n := nn (δ 0)) (nn (δ 0)) 0 (by omega) _ h3.1 (by rw [h3.2 0 fx0])
  have h4 := mw_trans h3 (mw_fadeF (nn (δ 0)) 0 (by omega) _ h3.1)
  have e4 := l_mgC (a := a) (κ := κ1) (s := s) (w := w) (H := H) d _ h4.1 (some (.int (nI (nn (δ 0)))))
  have hmo := s_more (a := a) (δ := δ) (κ := κ) (s := s) (w := w) (H := H) (d + 2) (δ 2) (show 0 < 12 by decide)
  refine ⟨κ1, ?_⟩
  rw [E146]
  simp only [S146_0, S146_1, S146_2, S146_3, S146_6, S146_7, S146_8, S146_11, S146_12, Option.bind_some, Option.map_some, xpush_s, xpush_n, xcat_0, xcat_i, xcat_r, xcat_l, xcat_n, xcat_e, xir_r, Nat.reduceAdd, Nat.reduceLeDiff, Nat.zero_le, Nat.le_refl, ↓reduceIte, Dg, Dcls, Dr, ix_2]
  rw [show (0 : Int32) = nI 0 from rfl, hmo]
  simp only [S146_0, S146_1, S146_2, S146_3, S146_6, S146_7, S146_8, S146_11, S146_12, Option.bind_some, Option.map_some, xpush_s, xpush_n, xcat_0, xcat_i, xcat_r, xcat_l, xcat_n, xcat_e, xir_r, Nat.reduceAdd, Nat.reduceLeDiff, Nat.zero_le, Nat.le_refl, ↓reduceIte]
  rw [e1]
  simp only [S146_44, S146_45, S146_48, S146_49, Option.bind_some, Option.map_some, xpush_s, xpush_n, xcat_0, xcat_i, xcat_r, xcat_l, xcat_n, xcat_e, xir_r, Nat.reduceAdd, Nat.reduceLeDiff, Nat.zero_le, Nat.le_refl, ↓reduceIte, Dcls, s_runs]
  rw [show (0 : Int32) = nI 0 from rfl, e3, e4]
  rfl
theorem l_months (d : Nat) {q : Option xq} {n : Nat} (hn : n < 2 ^ 31) : ∀ j m, m + j = n → ∀ δ : Nat → Int32, wf δ → QM a 0 (nn (δ 7)) q → ∀ κ, ∃ κ', RF 145 (Ev (d + 5)) 2 [some (.ref 58), some (.int (nI n)), some (.int (nI m))] [] (md a δ κ s w H) = some (none, md a (sMonths q j δ) κ' s w H)
  | 0, m, e, δ, hw, hq, κ => by
    have e' : m = n := by omega
    subst e'
    have hc : nI m ≤ nI m := Int32.le_refl _
    refine ⟨κ, ?_⟩
    rw [S145_2]
    simp only [S145_0, S145_1, S145_3, S145_4, S145_7, S145_8, S145_11, S145_14, S145_17, Option.bind_some, Option.map_some, xpush_s, xpush_n, xcat_0, xcat_i, xcat_r, xcat_l, xcat_n, xcat_e, xir_r, Nat.reduceAdd, Nat.reduceLeDiff, Nat.zero_le, Nat.le_refl, ↓reduceIte, hc]
    rfl
  | j + 1, m, e, δ, hw, hq, κ => by
    have hc : ¬ nI n ≤ nI m := nI_ge (by omega) (by omega)
    obtain ⟨κ1, h1⟩ := s_month (κ := κ) (s := s) (w := w) (H := H) d hw hq
    have hw1 := mw_month q hw
    obtain ⟨κ2, h2⟩ := l_months d hn j (m + 1) (by omega) (sMonth q δ) hw1.1 (by rw [hw1.2 7 fx7]; exact hq) κ1
    refine ⟨κ2, ?_⟩
    rw [S145_2]
    simp only [S145_0, S145_1, S145_3, S145_4, S145_7, S145_8, S145_11, S145_14, S145_17, Option.bind_some, Option.map_some, xpush_s, xpush_n, xcat_0, xcat_i, xcat_r, xcat_l, xcat_n, xcat_e, xir_r, Nat.reduceAdd, Nat.reduceLeDiff, Nat.zero_le, Nat.le_refl, ↓reduceIte, Dcls, hc, h1, nI_1]
    exact h2
theorem s_months (d : Nat) {q : Option xq} {δ : Nat → Int32} {n : Nat} (hn : n < 2 ^ 31) (hw : wf δ) (hq : QM a 0 (nn (δ 7)) q) : ∃ κ', Ev (d + 6) 145 [.ref 58, .int (nI n)] (md a δ κ s w H) = some (none, md a (sMonths q n δ) κ' s w H) := by
  obtain ⟨κ', h⟩ := l_months (a := a) (s := s) (w := w) (H := H) d (q := q) hn n 0 (by omega) δ hw hq κ
  refine ⟨κ', ?_⟩
  rw [E145]
  simp only [S145_0, S145_1, S145_3, S145_4, S145_7, S145_8, S145_11, S145_14, S145_17]
  exact h
end MON3
