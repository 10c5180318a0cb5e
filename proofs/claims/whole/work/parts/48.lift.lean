/-! part 48: methods of the rivers in the whole heap -/
section LIFT
variable {δ ε ζ : Nat → Int32} {τ1 τ2 τ3 : xt} {κ : Nat → Nat → Int32} {n : Nat} {l : lk} {ke op sz : Int32} {B S : Nat → Int32} {b : Nat → Nat → Int32} {H : xh}
theorem QR_1 {X : xh} (hX : hi X H) {key : Nat} {q : Option xq} (h : LW X τ1 key q) : QR (rh 10 ε τ2 (rh 19 ζ τ3 (tpk n l ke op sz B S (bh b H)))) τ1 key q := LW_QR (hi_t hX (hi_t hi_bh (hi_t hi_tp (hi_t (hi_rh (by decide)) (hi_rh (by decide)))))) h
theorem QR_19 {X : xh} (hX : hi X H) {key : Nat} {q : Option xq} (h : LW X τ3 key q) : QR (rh 1 δ τ1 (rh 10 ε τ2 (tpk n l ke op sz B S (bh b H)))) τ3 key q := LW_QR (hi_t hX (hi_t hi_bh (hi_t hi_tp (hi_t (hi_rh (by decide)) (hi_rh (by decide)))))) h
theorem G_draw (d : Nat) : Ev (d + 1) 7 [.ref 1] (cG δ τ1 ε τ2 ζ τ3 κ n l ke op sz B S b H) = some (some (.int (sD (δ 6))), cG (sDraw δ) τ1 ε τ2 ζ τ3 κ n l ke op sz B S b H) := r_draw d (by decide)
theorem G_stet (d : Nat) (hw : wf δ) : Ev (d + 1) 3 [.ref 1] (cG δ τ1 ε τ2 ζ τ3 κ n l ke op sz B S b H) = some (some (.int (nI (nStet δ (nn (δ 0))))), cG δ τ1 ε τ2 ζ τ3 κ n l ke op sz B S b H) := r_stet d (by decide) hw
theorem G_marksIn (d : Nat) (hw : wf δ) (r : Int32) : Ev (d + 1) 5 [.ref 1, .int r] (cG δ τ1 ε τ2 ζ τ3 κ n l ke op sz B S b H) = some (some (.int (sAt δ r (nn (δ 0)))), cG δ τ1 ε τ2 ζ τ3 κ n l ke op sz B S b H) := r_marksIn d (by decide) r hw.eN.1 hw.eN.2
theorem G_adds (d : Nat) (hw : wf δ) {X : xh} (hX : hi X H) {q : Option xq} (h : LW X τ1 0 q) {m : Nat} (hm : m < nn (δ 0)) : ∃ κ', Ev (d + 3) 4 [.ref 1, .int (nI m), .int (nI (nStet δ (nn (δ 0))))] (cG δ τ1 ε τ2 ζ τ3 κ n l ke op sz B S b H) = some (some (.int (sAdds q δ m)), cG δ τ1 ε τ2 ζ τ3 κ' n l ke op sz B S b H) := by
  have eN := hw.eN
  have eR := hw.eR (show m < 10 by omega)
  exact r_adds d (by decide) hw (QR_1 hX h) (nStet_lt hw _ eN.2) hm (by rw [nStet_bit hw (by omega) _ eN.2, ← eR.1])
theorem G_adI (d : Nat) (hw : wf δ) {X : xh} (hX : hi X H) {q : Option xq} (h : LW X τ1 0 q) (r : Int32) : ∃ κ', Ev (d + 4) 6 [.ref 1, .int r] (cG δ τ1 ε τ2 ζ τ3 κ n l ke op sz B S b H) = some (some (.int (sAdI q δ r (nn (δ 0)))), cG δ τ1 ε τ2 ζ τ3 κ' n l ke op sz B S b H) := r_adI d (by decide) hw (QR_1 hX h) r κ
theorem G_wrk (d : Nat) (hw : wf δ) {X : xh} (hX : hi X H) {q : Option xq} (h : LW X τ1 0 q) : ∃ κ', Ev (d + 4) 15 [.ref 1] (cG δ τ1 ε τ2 ζ τ3 κ n l ke op sz B S b H) = some (some (.int (sWrk q δ (nn (δ 0)))), cG δ τ1 ε τ2 ζ τ3 κ' n l ke op sz B S b H) := r_wrk d (by decide) hw (QR_1 hX h) κ
theorem G_dee (d : Nat) : Ev (d + 1) 14 [.ref 1] (cG δ τ1 ε τ2 ζ τ3 κ n l ke op sz B S b H) = some (some (.int (nI (sDee δ 12))), cG δ τ1 ε τ2 ζ τ3 κ n l ke op sz B S b H) := r_dee d (by decide)
theorem G_sum (d : Nat) (hw : wf δ) {w : Nat} (h : w < 5) : Ev (d + 2) 16 [.ref 1, .int (nI w)] (cG δ τ1 ε τ2 ζ τ3 κ n l ke op sz B S b H) = some (some (.int (sSum δ w)), cG δ τ1 ε τ2 ζ τ3 κ n l ke op sz B S b H) := r_sum d (by decide) hw h
theorem G_runs (d : Nat) (hw : wf δ) : Ev (d + 4) 8 [.ref 1] (cG δ τ1 ε τ2 ζ τ3 κ n l ke op sz B S b H) = some (none, cG (sRun δ) τ1 ε τ2 ζ τ3 κ n l ke op sz B S b H) := r_runs d (by decide) hw
theorem G_mat (d : Nat) (hw : wf δ) : Ev (d + 1) 21 [.ref 1] (cG δ τ1 ε τ2 ζ τ3 κ n l ke op sz B S b H) = some (some (.int (nI (sMat δ (nn (δ 0))))), cG δ τ1 ε τ2 ζ τ3 κ n l ke op sz B S b H) := r_mat d (by decide) hw
theorem G_pass (d : Nat) (hw : wf δ) {X : xh} (hX : hi X H) {q : Option xq} (h : LW X τ1 0 q) {k : Nat} (hk : k < 2 ^ 31) : ∃ κ', Ev (d + 5) 10 [.ref 1, .int (nI k)] (cG δ τ1 ε τ2 ζ τ3 κ n l ke op sz B S b H) = some (none, cG (sMonths q k δ) τ1 ε τ2 ζ τ3 κ' n l ke op sz B S b H) := r_pass d (by decide) (QR_1 hX h) hw hk κ
/-- what a mark's coming makes of a row -/
def sPen (δ : Nat → Int32) (x y z : Int32) : Nat → Int32 := upd (upd (upd (upd (upd δ (20 + 4 * nn (δ 0)) x) (20 + 4 * nn (δ 0) + 1) y) (20 + 4 * nn (δ 0) + 2) z) (20 + 4 * nn (δ 0) + 3) 0) 0 (δ 0 + 1)
theorem G_add (d : Nat) (hw : wf δ) (x y z : Int32) (h : nn (δ 0) < 10) : Ev (d + 2) 1 [.ref 1, .int x, .int y, .int z] (cG δ τ1 ε τ2 ζ τ3 κ n l ke op sz B S b H) = some (some (.int (δ 0)), cG (sPen δ x y z) τ1 ε τ2 ζ τ3 κ n l ke op sz B S b H) := r_addMark d (by decide) hw x y z h
theorem G_addF (d : Nat) (x y z : Int32) (h : δ 0 = nI 10) : Ev (d + 2) 1 [.ref 1, .int x, .int y, .int z] (cG δ τ1 ε τ2 ζ τ3 κ n l ke op sz B S b H) = some (some (.int (-1000000003)), cG δ τ1 ε τ2 ζ τ3 κ n l ke op sz B S b H) := r_addMarkF d (by decide) x y z h
theorem Q_pass (d : Nat) (hw : wf ζ) {X : xh} (hX : hi X H) {q : Option xq} (h : LW X τ3 0 q) {k : Nat} (hk : k < 2 ^ 31) : ∃ κ', Ev (d + 5) 10 [.ref 19, .int (nI k)] (cG δ τ1 ε τ2 ζ τ3 κ n l ke op sz B S b H) = some (none, cG δ τ1 ε τ2 (sMonths q k ζ) τ3 κ' n l ke op sz B S b H) := by
  obtain ⟨κ', e⟩ := r_pass d (k := 19) (by decide) (QR_19 (δ := δ) (ε := ε) (τ1 := τ1) (τ2 := τ2) (n := n) (l := l) (ke := ke) (op := op) (sz := sz) (B := B) (S := S) (b := b) hX h) hw hk κ
  refine ⟨κ', ?_⟩
  rw [cG_19, cG_19]
  exact e
theorem Q_sum (d : Nat) (hw : wf ζ) {w : Nat} (h : w < 5) : Ev (d + 2) 16 [.ref 19, .int (nI w)] (cG δ τ1 ε τ2 ζ τ3 κ n l ke op sz B S b H) = some (some (.int (sSum ζ w)), cG δ τ1 ε τ2 ζ τ3 κ n l ke op sz B S b H) := by
  rw [cG_19]
  exact r_sum d (by decide) hw h
theorem Q_dry (d : Nat) : Ev (d + 1) 19 [.ref 19] (cG δ τ1 ε τ2 ζ τ3 κ n l ke op sz B S b H) = some (some (.int (sDry ζ 12)), cG δ τ1 ε τ2 ζ τ3 κ n l ke op sz B S b H) := by
  rw [cG_19]
  exact r_dry d (by decide)
theorem Q_wat (d : Nat) : Ev (d + 1) 17 [.ref 19] (cG δ τ1 ε τ2 ζ τ3 κ n l ke op sz B S b H) = some (some (.int (sWat ζ 12)), cG δ τ1 ε τ2 ζ τ3 κ n l ke op sz B S b H) := by
  rw [cG_19]
  exact r_wat d (by decide)
theorem Q_rub (d : Nat) (hw : wf ζ) {K : Nat} (hK : K < 2 ^ 31) : Ev (d + 1) 22 [.ref 19, .int (nI K)] (cG δ τ1 ε τ2 ζ τ3 κ n l ke op sz B S b H) = some (none, cG δ τ1 ε τ2 (sRub K (nn (ζ 0)) 0 ζ) τ3 κ n l ke op sz B S b H) := by
  rw [cG_19, cG_19]
  exact r_rub d (by decide) hw hK
theorem VT_hi {X : xh} {τ : xt} (hX : hi X H) (h : VT X τ) : VT H τ := by
  have key : ∀ p, vT X p → vT H p := by
    rintro p ⟨h1, h2, fs, h3⟩
    exact ⟨h1, h2, fs, by rw [hX p h1]; exact h3⟩
  exact ⟨fun i p hi e => key p (h.1 i p hi e), fun i p hi e => key p (h.2 i p hi e)⟩
theorem hi_r {H' : xh} : hi H' H → hi H' (rh 10 ε τ2 (tpk n l ke op sz B S (bh b H))) := fun h => hi_t h (hi_t hi_bh (hi_t hi_tp (hi_rh (by decide))))
/-- thought becomes now; thought becomes the image; the image becomes now; now becomes the image -/
theorem G_b19_1 (d : Nat) {X : xh} (hX : hi X H) (hv : VT X τ1) : ∃ τ, tE τ τ1 ∧ Ev (d + 1) 20 [.ref 19, .ref 1] (cG δ τ1 ε τ2 ζ τ3 κ n l ke op sz B S b H) = some (none, cG δ τ1 ε τ2 δ τ κ n l ke op sz B S b H) := by
  obtain ⟨τ, h1, h2⟩ := r_become (k := 19) (k' := 1) (δ := ζ) (τ := τ3) (δ' := δ) (τ' := τ1) (κ := κ) (H := rh 10 ε τ2 (tpk n l ke op sz B S (bh b H))) d ⟨by decide, by decide, by decide⟩ (VT_hi (hi_r hX) hv)
  refine ⟨τ, h1, ?_⟩
  rw [cG_19, cG_19]
  exact h2
theorem G_b19_10 (d : Nat) {X : xh} (hX : hi X H) (hv : VT X τ2) : ∃ τ, tE τ τ2 ∧ Ev (d + 1) 20 [.ref 19, .ref 10] (cG δ τ1 ε τ2 ζ τ3 κ n l ke op sz B S b H) = some (none, cG δ τ1 ε τ2 ε τ κ n l ke op sz B S b H) := by
  obtain ⟨τ, h1, h2⟩ := r_become (k := 19) (k' := 10) (δ := ζ) (τ := τ3) (δ' := ε) (τ' := τ2) (κ := κ) (H := rh 1 δ τ1 (tpk n l ke op sz B S (bh b H))) d ⟨by decide, by decide, by decide⟩ (VT_hi (hi_t hX (hi_t hi_bh (hi_t hi_tp (hi_rh (by decide))))) hv)
  refine ⟨τ, h1, ?_⟩
  rw [cG_19, cG_19]
  unfold rv
  rw [rh_rh (k := 1) (k' := 10) (by decide)]
  exact h2
theorem G_b10_1 (d : Nat) {X : xh} (hX : hi X H) (hv : VT X τ1) : ∃ τ, tE τ τ1 ∧ Ev (d + 1) 20 [.ref 10, .ref 1] (cG δ τ1 ε τ2 ζ τ3 κ n l ke op sz B S b H) = some (none, cG δ τ1 δ τ ζ τ3 κ n l ke op sz B S b H) := by
  obtain ⟨τ, h1, h2⟩ := r_become (k := 10) (k' := 1) (δ := ε) (τ := τ2) (δ' := δ) (τ' := τ1) (κ := κ) (H := rh 19 ζ τ3 (tpk n l ke op sz B S (bh b H))) d ⟨by decide, by decide, by decide⟩ (VT_hi (hi_t hX (hi_t hi_bh (hi_t hi_tp (hi_rh (by decide))))) hv)
  refine ⟨τ, h1, ?_⟩
  rw [cG_10, cG_10]
  exact h2
theorem G_b1_10 (d : Nat) {X : xh} (hX : hi X H) (hv : VT X τ2) : ∃ τ, tE τ τ2 ∧ Ev (d + 1) 20 [.ref 1, .ref 10] (cG δ τ1 ε τ2 ζ τ3 κ n l ke op sz B S b H) = some (none, cG ε τ ε τ2 ζ τ3 κ n l ke op sz B S b H) := by
  obtain ⟨τ, h1, h2⟩ := r_become (k := 1) (k' := 10) (δ := δ) (τ := τ1) (δ' := ε) (τ' := τ2) (κ := κ) (H := rh 19 ζ τ3 (tpk n l ke op sz B S (bh b H))) d ⟨by decide, by decide, by decide⟩ (VT_hi (hi_t hX (hi_t hi_bh (hi_t hi_tp (hi_rh (by decide))))) hv)
  exact ⟨τ, h1, h2⟩
end LIFT
theorem LW_E {X : xh} {τ τ' : xt} (h : tE τ τ') {key : Nat} (hk : key < 3) {q : Option xq} (hl : LW X τ' key q) : LW X τ key q := by
  unfold LW at hl ⊢
  rw [(h.2 key hk).2]
  exact hl
theorem wf_pen {δ : Nat → Int32} (hw : wf δ) {x y z : Int32} (h : nn (δ 0) < 10) (hx : bd x 5) (hy : bd y 99) (hz : bd z 11) : wf (sPen δ x y z) := by
  unfold sPen
  refine wf_upd (wf_upd (wf_upd (wf_upd (wf_upd hw (okk_of (bnd_kind h) hx)) (okk_of (bnd_ink h) hy)) (okk_of (bnd_reach h) hz)) (okk_of (bnd_stood h) ⟨0, by omega, rfl⟩)) (okk_of rfl ⟨nn (δ 0) + 1, by omega, ?_⟩)
  rw [← nI_1, ← hw.eN.1]
theorem pen_n {δ : Nat → Int32} {x y z : Int32} {j : Nat} (h0 : j ≠ 0) (h : j < 20) : sPen δ x y z j = δ j := by
  unfold sPen
  rw [up_n _ _ h0, up_n _ _ (by omega), up_n _ _ (by omega), up_n _ _ (by omega), up_n _ _ (by omega)]
theorem pen_0 {δ : Nat → Int32} {x y z : Int32} : sPen δ x y z 0 = δ 0 + 1 := up_s _ _ _
theorem m_pen (d : Nat) {a : Nat → Nat → Int32} {δ κ s : Nat → Int32} {w : Int64} {H : xh} (hw : wf δ) {x y z : Int32} (h : nn (δ 0) < 10) (hx : bd x 5) (hy : bd y 99) (hz : bd z 11) : Ev (d + 3) 111 [.ref 58, .int x, .int y, .int z] (md a δ κ s w H) = some (some (.int (δ 0)), md a (sPen δ x y z) κ s w H) := by
  have n1 : ¬ (1 : Int32) = 0 := by decide
  obtain ⟨N, hN, eN⟩ : ∃ N, nn (δ 0) = N ∧ δ 0 = nI N := ⟨_, rfl, hw.eN.1⟩
  have h10 : ¬ nI N = 10 := fun q => by have := (nI_eq (b := 10) (by omega) (by decide)).mp q; omega
  have hm : N < 10 := by omega
  rw [E111]
  unfold sPen
  rw [hN]
  simp only [S111_0, S111_1, S111_2, S111_3, S111_6, S111_9, S111_12, S111_13, S111_14, S111_15, S111_18, S111_21, S111_24, S111_25, S111_28, S111_31, S111_33, S111_34, S111_35, S111_38, S111_39, S111_40, S111_42, S111_45, S111_47, S111_48, S111_49, S111_52, S111_53, S111_54, S111_56, S111_57, S111_59, S111_60, S111_61, S111_64, S111_65, S111_67, S111_68, S111_69, S111_72, S111_73, S111_75, S111_76, S111_77, S111_80, S111_81, S111_83, S111_84, S111_85, S111_88, S111_89, S111_92, S111_93, S111_94, S111_95, S111_96, S111_97, S111_98, S111_100, Option.bind_some, Option.map_some, xpush_s, xpush_n, xcat_0, xcat_i, xcat_r, xcat_l, xcat_n, xcat_e, xir_r, Nat.reduceAdd, Nat.reduceLeDiff, Nat.zero_le, Nat.le_refl, ↓reduceIte, Dg, Dr, Dw, Dcls, ix_0, eN, if_neg h10, n1, in_t _ _ (n := 5) (N := 5) rfl (by decide) hx, in_t _ _ (n := 99) (N := 99) rfl (by decide) hy, m_rch_t _ _ hz, s_sets0 _ _ hm, s_sets1 _ _ hm, s_sets2 _ _ hm, s_sets3 _ _ hm, cat_i, cat_r, and_self, up_n _ _ (show 0 ≠ 20 + 4 * N by omega), up_n _ _ (show 0 ≠ 20 + 4 * N + 1 by omega), up_n _ _ (show 0 ≠ 20 + 4 * N + 2 by omega), up_n _ _ (show 0 ≠ 20 + 4 * N + 3 by omega)]
/-- two rows of the reference -/
def cpK (f g : Nat → Int32) (k : Nat) : Nat → Int32 := fun j => if j < k then f j else g j
theorem cpK_s (f g : Nat → Int32) (k : Nat) : upd (cpK f g k) k (f k) = cpK f g (k + 1) := by
  funext j
  unfold upd cpK
  by_cases h : j = k
  · subst h; rw [if_pos rfl, if_pos (by omega)]
  · rw [if_neg h]
    by_cases h2 : j < k
    · rw [if_pos h2, if_pos (by omega)]
    · rw [if_neg h2, if_neg (by omega)]
theorem cpK_0 (f g : Nat → Int32) : cpK f g 0 = g := by
  funext j
  unfold cpK
  rw [if_neg (by omega)]
theorem cpK_60 {f g : Nat → Int32} (hf : z60 f) (hg : z60 g) : cpK f g 60 = f := by
  funext j
  unfold cpK
  by_cases h : j < 60
  · rw [if_pos h]
  · rw [if_neg h, hg j (by omega), hf j (by omega)]
theorem wf.z {δ : Nat → Int32} (h : wf δ) : z60 δ := fun j hj => h.above j hj
section COPIES
variable {a : Nat → Nat → Int32} {s : Nat → Int32} {w : Int64} {H : xh}
theorem m_copies_l (ev : xe) {i j : Nat} (hij : i ≠ j) (hi : i = 1 ∨ i = 2 ∨ i = 3 ∨ i = 4) (hj : j = 1 ∨ j = 2 ∨ j = 3 ∨ j = 4) : ∀ t k, k + t = 60 → RF 154 ev 2 [some (.ref (58 + i)), some (.ref (58 + j)), some (.int (nI k))] [] (mh (va_up a j (cpK (a i) (a j) k)) s w H) = some (none, mh (va_up a j (cpK (a i) (a j) 60)) s w H)
  | 0, k, e => by
    have e' : k = 60 := by omega
    subst e'
    rw [S154_2]
    simp only [S154_0, S154_1, S154_3, S154_5, S154_8, S154_9, S154_10, S154_11, S154_12, S154_13, S154_14, S154_17, S154_20, Option.bind_some, Option.map_some, xpush_s, xpush_n, xcat_0, xcat_i, xcat_r, xcat_l, xcat_n, xcat_e, xir_r, Nat.reduceAdd, Nat.reduceLeDiff, Nat.zero_le, Nat.le_refl, ↓reduceIte, show ((60 : Int32) ≤ nI 60) = True from eq_true (Int32.le_refl _)]
  | t + 1, k, e => by
    have hc : ¬ (60 : Int32) ≤ nI k := nI_ge (b := 60) (by omega) (by decide)
    have hx := xix_n (show k < 60 by omega) (show 60 ≤ 100000 by decide)
    have hr : ∀ (a' : Nat → Nat → Int32), hrd (mh a' s w H) (.ref (58 + i)) 0 (nI k) = some (a' i k) := by
      intro a'
      rcases hi with rfl | rfl | rfl | rfl
      · rw [show 58 + 1 = 59 from rfl, Mr_1, hx]; rfl
      · rw [show 58 + 2 = 60 from rfl, Mr_2, hx]; rfl
      · rw [show 58 + 3 = 61 from rfl, Mr_3, hx]; rfl
      · rw [show 58 + 4 = 62 from rfl, Mr_4, hx]; rfl
    have hw : ∀ (a' : Nat → Nat → Int32) (x : Int32), hwr (mh a' s w H) (.ref (58 + j)) 0 (nI k) x = some (mh (va_up a' j (upd (a' j) k x)) s w H) := by
      intro a' x
      rcases hj with rfl | rfl | rfl | rfl
      · rw [show 58 + 1 = 59 from rfl, Mw_1, hx]; rfl
      · rw [show 58 + 2 = 60 from rfl, Mw_2, hx]; rfl
      · rw [show 58 + 3 = 61 from rfl, Mw_3, hx]; rfl
      · rw [show 58 + 4 = 62 from rfl, Mw_4, hx]; rfl
    have ih := m_copies_l ev hij hi hj t (k + 1) (by omega)
    rw [S154_2]
    simp only [S154_0, S154_1, S154_3, S154_5, S154_8, S154_9, S154_10, S154_11, S154_12, S154_13, S154_14, S154_17, S154_20, Option.bind_some, Option.map_some, xpush_s, xpush_n, xcat_0, xcat_i, xcat_r, xcat_l, xcat_n, xcat_e, xir_r, Nat.reduceAdd, Nat.reduceLeDiff, Nat.zero_le, Nat.le_refl, ↓reduceIte, hc, hr, hw, vu_n _ _ hij, vu_s, vu_u, cpK_s, nI_1]
    exact ih
theorem m_copies (d : Nat) {i j : Nat} (hij : i ≠ j) (hi : i = 1 ∨ i = 2 ∨ i = 3 ∨ i = 4) (hj : j = 1 ∨ j = 2 ∨ j = 3 ∨ j = 4) (zi : z60 (a i)) (zj : z60 (a j)) : Ev (d + 1) 154 [.ref (58 + i), .ref (58 + j)] (mh a s w H) = some (none, mh (va_up a j (a i)) s w H) := by
  have h0 := m_copies_l (a := a) (s := s) (w := w) (H := H) (Ev d) hij hi hj 60 0 rfl
  rw [cpK_0, vu_self, cpK_60 zi zj] at h0
  rw [E154]
  simp only [S154_0, S154_1, S154_3, S154_5, S154_8, S154_9, S154_10, S154_11, S154_12, S154_13, S154_14, S154_17, S154_20]
  exact h0
end COPIES
