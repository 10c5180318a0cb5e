/-! part 56, by program (wip/whole/gen/calls7.py): calls, seventh lot: pour, reads -/
/-- one reach poured -/
def pr1 (f : Nat → Option Int32) (δ : Nat → Int32) (r : Nat) : Int32 := match f r with
  | none => δ (8 + r)
  | some v => hd v 0 99
def prD (f : Nat → Option Int32) : Nat → Nat → (Nat → Int32) → Nat → Int32
  | 0, _, δ => δ
  | j + 1, r, δ => prD f j (r + 1) (upd δ (8 + r) (pr1 f δ r))
def prC (f : Nat → Option Int32) : Nat → Nat → (Nat → Int32) → Nat → Nat
  | 0, _, _, c => c
  | j + 1, r, δ, c => prC f j (r + 1) (upd δ (8 + r) (pr1 f δ r)) (c + if pr1 f δ r = δ (8 + r) then 0 else 1)
theorem pr1_bd (f : Nat → Option Int32) {δ : Nat → Int32} (hw : wf δ) {r : Nat} (hr : r < 12) : bd (pr1 f δ r) 99 := by
  unfold pr1
  cases f r with
  | none => exact hw.water r hr
  | some v => exact bd_hd v rfl (by decide)
theorem prD_mw (f : Nat → Option Int32) : ∀ j r, r + j ≤ 12 → ∀ δ : Nat → Int32, wf δ → wf (prD f j r δ) ∧ ∀ t, t < 8 → prD f j r δ t = δ t
  | 0, _, _, _, h => ⟨h, fun _ _ => rfl⟩
  | j + 1, r, hr, δ, h => by
    have h1 := wf_upd h (okk_of (bnd_water (show r < 12 by omega)) (pr1_bd f h (show r < 12 by omega)))
    have h2 := prD_mw f j (r + 1) (by omega) _ h1
    refine ⟨h2.1, fun t ht => (h2.2 t ht).trans (up_n _ _ (by omega))⟩
theorem up_self (f : Nat → Int32) (k : Nat) : upd f k (f k) = f := by
  funext j
  by_cases h : j = k
  · subst h; rw [up_s]
  · rw [up_n _ _ h]
/-- what a row of a sheet says -/
def cO (c : Int32) : Option Int32 := if c = -1000000005 then none else some c
section POUR
variable {m : Nat} {τ1 : xt} {ε : Nat → Int32} {τ2 : xt} {ζ : Nat → Int32} {τ3 : xt} {κ : Nat → Nat → Int32} {n : Nat} {l : lk} {ke op sz : Int32} {B S : Nat → Int32} {b a : Nat → Nat → Int32} {s : Nat → Int32} {w : Int64} {H X : xh}
theorem c_pour_l (d : Nat) {q z : Nat} (hq : isRw q) (hz : z ≤ 24) (ez : b q 1 = nI z) {x : Int32} : ∀ j r, r + j = min 12 z → ∀ (δ : Nat → Int32) (c : Nat) (lv : Option Value), wf δ → RF 97 (Ev (d + 3)) 34 [some (.ref 0), some (.int x), some (.ref q), some (.int (nI c)), some (.int (nI r)), lv] [] (cG δ τ1 ε τ2 ζ τ3 κ n l ke op sz B S b H) = some (some (.int (nI (prC (fun t => cO (b (q + 1) t)) j r δ c))), cG (prD (fun t => cO (b (q + 1) t)) j r δ) τ1 ε τ2 ζ τ3 κ n l ke op sz B S b H)
  | 0, r, e, δ, c, lv, hw => by
    rw [S97_34]
    by_cases h12 : r = 12
    · subst h12
      simp only [S97_36, S97_38, S97_41, S97_43, S97_44, S97_47, S97_50, S97_51, S97_53, S97_56, S97_59, S97_60, S97_63, S97_65, S97_66, S97_67, S97_69, S97_72, S97_75, S97_76, S97_79, S97_82, S97_84, S97_85, S97_87, S97_89, S97_90, S97_93, S97_96, S97_98, S97_99, S97_102, S97_103, S97_106, S97_109, S97_111, S97_113, S97_114, S97_117, S97_120, S97_123, S97_124, Option.bind_some, Option.map_some, xpush_s, xpush_n, xcat_0, xcat_i, xcat_r, xcat_l, xcat_n, xcat_e, xir_r, Nat.reduceAdd, Nat.reduceLeDiff, Nat.zero_le, Nat.le_refl, ↓reduceIte, show ((12 : Int32) ≤ nI 12) = True from eq_true (Int32.le_refl _)]
      rfl
    · have e' : r = z := by omega
      subst e'
      have hc : ¬ (12 : Int32) ≤ nI r := nI_ge (b := 12) (by omega) (by decide)
      simp only [S97_36, S97_38, S97_41, S97_43, S97_44, S97_47, S97_50, S97_51, S97_53, S97_56, S97_59, S97_60, S97_63, S97_65, S97_66, S97_67, S97_69, S97_72, S97_75, S97_76, S97_79, S97_82, S97_84, S97_85, S97_87, S97_89, S97_90, S97_93, S97_96, S97_98, S97_99, S97_102, S97_103, S97_106, S97_109, S97_111, S97_113, S97_114, S97_117, S97_120, S97_123, S97_124, Option.bind_some, Option.map_some, xpush_s, xpush_n, xcat_0, xcat_i, xcat_r, xcat_l, xcat_n, xcat_e, xir_r, Nat.reduceAdd, Nat.reduceLeDiff, Nat.zero_le, Nat.le_refl, ↓reduceIte, hc, W_g1 hq, ez, show (nI r ≤ nI r) = True from eq_true (Int32.le_refl _)]
      rfl
  | j + 1, r, e, δ, c, lv, hw => by
    have hr : r < 12 := by omega
    have hc : ¬ (12 : Int32) ≤ nI r := nI_ge (b := 12) hr (by decide)
    have hc2 : ¬ nI z ≤ nI r := nI_ge (by omega) (by omega)
    have hl : bi (nI r < 0 ∨ b q 1 - 1 < nI r) = 0 := bi_f (by rw [ez]; exact fun t => (ix_o (by omega)).mp t ⟨r, by omega, rfl⟩)
    have hw2 := wf_upd hw (okk_of (bnd_water hr) (pr1_bd (fun t => cO (b (q + 1) t)) hw hr))
    have ih := fun lv => c_pour_l d hq hz ez (x := x) j (r + 1) (by omega) (upd δ (8 + r) (pr1 (fun t => cO (b (q + 1) t)) δ r)) (c + if pr1 (fun t => cO (b (q + 1) t)) δ r = δ (8 + r) then 0 else 1) lv hw2
    have hxr := xix_n (show r < 24 by omega) (show 24 ≤ 100000 by decide)
    unfold prC prD
    rw [S97_34]
    by_cases hN : b (q + 1) r = -1000000005
    · have hp : pr1 (fun t => cO (b (q + 1) t)) δ r = δ (8 + r) := by
        unfold pr1 cO
        dsimp only
        rw [if_pos hN]
      have hb0 : bi (¬ b (q + 1) r = -1000000005) = 0 := bi_f (fun t => t hN)
      rw [hp, if_pos rfl, up_self, Nat.add_zero] at ih
      rw [hp, if_pos rfl, up_self, Nat.add_zero]
      simp only [S97_36, S97_38, S97_41, S97_43, S97_44, S97_47, S97_50, S97_51, S97_53, S97_56, S97_59, S97_60, S97_63, S97_65, S97_66, S97_67, S97_69, S97_72, S97_75, S97_76, S97_79, S97_82, S97_84, S97_85, S97_87, S97_89, S97_90, S97_93, S97_96, S97_98, S97_99, S97_102, S97_103, S97_106, S97_109, S97_111, S97_113, S97_114, S97_117, S97_120, S97_123, S97_124, Option.bind_some, Option.map_some, xpush_s, xpush_n, xcat_0, xcat_i, xcat_r, xcat_l, xcat_n, xcat_e, xir_r, Nat.reduceAdd, Nat.reduceLeDiff, Nat.zero_le, Nat.le_refl, ↓reduceIte, hc, hc2, W_g1 hq, ez, W_cls hq, w_has _ hq (show r < 24 by omega) hl, hb0, C_0, N_g0, N_w hr, nI_1]
      exact ih _
    · have hp : pr1 (fun t => cO (b (q + 1) t)) δ r = hd (b (q + 1) r) 0 99 := by
        unfold pr1 cO
        dsimp only
        rw [if_neg hN]
      have hb0 : bi (¬ b (q + 1) r = -1000000005) = 1 := bi_t hN
      have hwi := wi_hd (b (q + 1) r) (N := 99) (n := 99) rfl (by decide)
      rw [hp] at ih ⊢
      by_cases hd0 : hd (b (q + 1) r) 0 99 = δ (8 + r)
      · rw [if_pos hd0, hd0, up_self, Nat.add_zero] at ih
        rw [if_pos hd0, hd0, up_self, Nat.add_zero]
        simp only [S97_36, S97_38, S97_41, S97_43, S97_44, S97_47, S97_50, S97_51, S97_53, S97_56, S97_59, S97_60, S97_63, S97_65, S97_66, S97_67, S97_69, S97_72, S97_75, S97_76, S97_79, S97_82, S97_84, S97_85, S97_87, S97_89, S97_90, S97_93, S97_96, S97_98, S97_99, S97_102, S97_103, S97_106, S97_109, S97_111, S97_113, S97_114, S97_117, S97_120, S97_123, S97_124, Option.bind_some, Option.map_some, xpush_s, xpush_n, xcat_0, xcat_i, xcat_r, xcat_l, xcat_n, xcat_e, xir_r, Nat.reduceAdd, Nat.reduceLeDiff, Nat.zero_le, Nat.le_refl, ↓reduceIte, hc, hc2, W_g1 hq, ez, W_cls hq, w_has _ hq (show r < 24 by omega) hl, hb0, show ¬ (1 : Int32) = 0 by decide, W_g2 hq, W_r hq, hxr, s_within, hwi, hd0, C_0, N_g0, N_w hr, nI_1]
        exact ih _
      · rw [if_neg hd0] at ih
        rw [if_neg hd0]
        simp only [S97_36, S97_38, S97_41, S97_43, S97_44, S97_47, S97_50, S97_51, S97_53, S97_56, S97_59, S97_60, S97_63, S97_65, S97_66, S97_67, S97_69, S97_72, S97_75, S97_76, S97_79, S97_82, S97_84, S97_85, S97_87, S97_89, S97_90, S97_93, S97_96, S97_98, S97_99, S97_102, S97_103, S97_106, S97_109, S97_111, S97_113, S97_114, S97_117, S97_120, S97_123, S97_124, Option.bind_some, Option.map_some, xpush_s, xpush_n, xcat_0, xcat_i, xcat_r, xcat_l, xcat_n, xcat_e, xir_r, Nat.reduceAdd, Nat.reduceLeDiff, Nat.zero_le, Nat.le_refl, ↓reduceIte, hc, hc2, W_g1 hq, ez, W_cls hq, w_has _ hq (show r < 24 by omega) hl, hb0, show ¬ (1 : Int32) = 0 by decide, W_g2 hq, W_r hq, hxr, s_within, hwi, if_neg hd0, C_0, N_g0, N_w hr, N_ww hr, nI_1]
        exact ih _
theorem m_pour_l (d : Nat) {Z : xh} {i z : Nat} (hi : i < 4) (hz : z ≤ 24) (ez : a 13 i = nI z) (f : Nat → Option Int32) (hf : ∀ r, r < z → (a 15 (24 * i + r) = 1 ∧ f r = some (a 14 (24 * i + r))) ∨ (a 15 (24 * i + r) = 0 ∧ f r = none)) : ∀ j r, r + j = min 12 z → ∀ (δ : Nat → Int32) (c : Nat) (lv : Option Value), wf δ → RF 186 (Ev (d + 3)) 26 [some (.ref 58), some (.int (nI i)), some (.int (nI c)), some (.int (nI r)), lv] [] (md a δ (a 9) s w Z) = some (some (.int (nI (prC f j r δ c))), md a (prD f j r δ) (a 9) s w Z)
  | 0, r, e, δ, c, lv, hw => by
    have g25 : ∀ Z, hgf (md a δ (a 9) s w Z) (.ref 58) 6 25 = some (.ref 71) := fun Z => rfl
    have r13 : ∀ Z t, hrd (md a δ (a 9) s w Z) (.ref 71) 0 t = (xix t 4).map (a 13) := fun Z t => by unfold md; rw [Mr_13, vaj _ _ _ (by decide) (by decide)]
    rw [S186_26]
    by_cases h12 : r = 12
    · subst h12
      simp only [S186_27, S186_29, S186_32, S186_33, S186_34, S186_37, S186_38, S186_39, S186_42, S186_43, S186_46, S186_48, S186_49, S186_50, S186_51, S186_53, S186_54, S186_57, S186_59, S186_60, S186_61, S186_62, S186_65, S186_67, S186_68, S186_69, S186_70, S186_71, S186_72, S186_75, S186_76, S186_79, S186_81, S186_82, S186_83, S186_84, S186_85, S186_86, S186_87, S186_89, S186_92, S186_95, S186_97, S186_98, S186_99, S186_100, S186_103, S186_105, S186_106, S186_107, S186_108, S186_110, S186_113, S186_114, S186_117, S186_118, S186_119, S186_120, S186_123, S186_126, S186_127, Option.bind_some, Option.map_some, xpush_s, xpush_n, xcat_0, xcat_i, xcat_r, xcat_l, xcat_n, xcat_e, xir_r, Nat.reduceAdd, Nat.reduceLeDiff, Nat.zero_le, Nat.le_refl, ↓reduceIte, show ((12 : Int32) ≤ nI 12) = True from eq_true (Int32.le_refl _)]
      rfl
    · have e' : r = z := by omega
      subst e'
      have hc : ¬ (12 : Int32) ≤ nI r := nI_ge (b := 12) (by omega) (by decide)
      simp only [S186_27, S186_29, S186_32, S186_33, S186_34, S186_37, S186_38, S186_39, S186_42, S186_43, S186_46, S186_48, S186_49, S186_50, S186_51, S186_53, S186_54, S186_57, S186_59, S186_60, S186_61, S186_62, S186_65, S186_67, S186_68, S186_69, S186_70, S186_71, S186_72, S186_75, S186_76, S186_79, S186_81, S186_82, S186_83, S186_84, S186_85, S186_86, S186_87, S186_89, S186_92, S186_95, S186_97, S186_98, S186_99, S186_100, S186_103, S186_105, S186_106, S186_107, S186_108, S186_110, S186_113, S186_114, S186_117, S186_118, S186_119, S186_120, S186_123, S186_126, S186_127, Option.bind_some, Option.map_some, xpush_s, xpush_n, xcat_0, xcat_i, xcat_r, xcat_l, xcat_n, xcat_e, xir_r, Nat.reduceAdd, Nat.reduceLeDiff, Nat.zero_le, Nat.le_refl, ↓reduceIte, hc, g25, r13, xix_n hi (show 4 ≤ 100000 by decide), ez, show (nI r ≤ nI r) = True from eq_true (Int32.le_refl _)]
      rfl
  | j + 1, r, e, δ, c, lv, hw => by
    have hr : r < 12 := by omega
    have g25 : ∀ Z, hgf (md a δ (a 9) s w Z) (.ref 58) 6 25 = some (.ref 71) := fun Z => rfl
    have g26 : ∀ Z, hgf (md a δ (a 9) s w Z) (.ref 58) 6 26 = some (.ref 72) := fun Z => rfl
    have g27 : ∀ Z, hgf (md a δ (a 9) s w Z) (.ref 58) 6 27 = some (.ref 73) := fun Z => rfl
    have r13 : ∀ Z t, hrd (md a δ (a 9) s w Z) (.ref 71) 0 t = (xix t 4).map (a 13) := fun Z t => by unfold md; rw [Mr_13, vaj _ _ _ (by decide) (by decide)]
    have r14 : ∀ Z t, hrd (md a δ (a 9) s w Z) (.ref 72) 0 t = (xix t 96).map (a 14) := fun Z t => by unfold md; rw [Mr_14, vaj _ _ _ (by decide) (by decide)]
    have r15 : ∀ Z t, hrd (md a δ (a 9) s w Z) (.ref 73) 1 t = (xix t 96).map (a 15) := fun Z t => by unfold md; rw [Mr_15, vaj _ _ _ (by decide) (by decide)]
    have hc : ¬ (12 : Int32) ≤ nI r := nI_ge (b := 12) hr (by decide)
    have hc2 : ¬ nI z ≤ nI r := nI_ge (by omega) (by omega)
    have hw2 := wf_upd hw (okk_of (bnd_water hr) (pr1_bd f hw hr))
    have ih := m_pour_l d hi hz ez f hf (Z := Z) j (r + 1) (by omega) (upd δ (8 + r) (pr1 f δ r)) (c + if pr1 f δ r = δ (8 + r) then 0 else 1) (some (.int (δ (8 + r)))) hw2
    have hxr := xix_n (show 8 + r < 60 by omega) (show 60 ≤ 100000 by decide)
    have hxi := xix_n hi (show 4 ≤ 100000 by decide)
    have hxc := xix_n (show 24 * i + r < 96 by omega) (show 96 ≤ 100000 by decide)
    have add0 : nI c + 0 = nI (c + 0) := by rw [Int32.add_zero, Nat.add_zero]
    unfold prC prD
    rw [S186_26]
    rcases hf r (by omega) with ⟨f1, f2⟩ | ⟨f1, f2⟩
    · have hp : pr1 f δ r = hd (a 14 (24 * i + r)) 0 99 := by unfold pr1; rw [f2]
      rw [hp] at ih ⊢
      by_cases hd0 : hd (a 14 (24 * i + r)) 0 99 = δ (8 + r)
      · rw [if_pos hd0] at ih ⊢
        rw [hd0] at ih ⊢
        simp only [S186_27, S186_29, S186_32, S186_33, S186_34, S186_37, S186_38, S186_39, S186_42, S186_43, S186_46, S186_48, S186_49, S186_50, S186_51, S186_53, S186_54, S186_57, S186_59, S186_60, S186_61, S186_62, S186_65, S186_67, S186_68, S186_69, S186_70, S186_71, S186_72, S186_75, S186_76, S186_79, S186_81, S186_82, S186_83, S186_84, S186_85, S186_86, S186_87, S186_89, S186_92, S186_95, S186_97, S186_98, S186_99, S186_100, S186_103, S186_105, S186_106, S186_107, S186_108, S186_110, S186_113, S186_114, S186_117, S186_118, S186_119, S186_120, S186_123, S186_126, S186_127, Option.bind_some, Option.map_some, xpush_s, xpush_n, xcat_0, xcat_i, xcat_r, xcat_l, xcat_n, xcat_e, xir_r, Nat.reduceAdd, Nat.reduceLeDiff, Nat.zero_le, Nat.le_refl, ↓reduceIte, hc, hc2, g25, g26, g27, r13, r14, r15, hxi, ez, Dg, Dr, Dw, ix8, hxr, ix24, hxc, f1, show ¬ (1 : Int32) = 0 by decide, s_held, hd0, up_s, add0, nI_1]
        exact ih
      · rw [if_neg hd0] at ih ⊢
        simp only [S186_27, S186_29, S186_32, S186_33, S186_34, S186_37, S186_38, S186_39, S186_42, S186_43, S186_46, S186_48, S186_49, S186_50, S186_51, S186_53, S186_54, S186_57, S186_59, S186_60, S186_61, S186_62, S186_65, S186_67, S186_68, S186_69, S186_70, S186_71, S186_72, S186_75, S186_76, S186_79, S186_81, S186_82, S186_83, S186_84, S186_85, S186_86, S186_87, S186_89, S186_92, S186_95, S186_97, S186_98, S186_99, S186_100, S186_103, S186_105, S186_106, S186_107, S186_108, S186_110, S186_113, S186_114, S186_117, S186_118, S186_119, S186_120, S186_123, S186_126, S186_127, Option.bind_some, Option.map_some, xpush_s, xpush_n, xcat_0, xcat_i, xcat_r, xcat_l, xcat_n, xcat_e, xir_r, Nat.reduceAdd, Nat.reduceLeDiff, Nat.zero_le, Nat.le_refl, ↓reduceIte, hc, hc2, g25, g26, g27, r13, r14, r15, hxi, ez, Dg, Dr, Dw, ix8, hxr, ix24, hxc, f1, show ¬ (1 : Int32) = 0 by decide, s_held, up_s, if_neg hd0, nI_1]
        exact ih
    · have hp : pr1 f δ r = δ (8 + r) := by unfold pr1; rw [f2]
      rw [hp, if_pos rfl] at ih ⊢
      simp only [S186_27, S186_29, S186_32, S186_33, S186_34, S186_37, S186_38, S186_39, S186_42, S186_43, S186_46, S186_48, S186_49, S186_50, S186_51, S186_53, S186_54, S186_57, S186_59, S186_60, S186_61, S186_62, S186_65, S186_67, S186_68, S186_69, S186_70, S186_71, S186_72, S186_75, S186_76, S186_79, S186_81, S186_82, S186_83, S186_84, S186_85, S186_86, S186_87, S186_89, S186_92, S186_95, S186_97, S186_98, S186_99, S186_100, S186_103, S186_105, S186_106, S186_107, S186_108, S186_110, S186_113, S186_114, S186_117, S186_118, S186_119, S186_120, S186_123, S186_126, S186_127, Option.bind_some, Option.map_some, xpush_s, xpush_n, xcat_0, xcat_i, xcat_r, xcat_l, xcat_n, xcat_e, xir_r, Nat.reduceAdd, Nat.reduceLeDiff, Nat.zero_le, Nat.le_refl, ↓reduceIte, hc, hc2, g25, g26, g27, r13, r14, r15, hxi, ez, Dg, Dr, Dw, ix8, hxr, ix24, hxc, f1, up_s, add0, nI_1]
      exact ih
end POUR
theorem cR_f {c x y : Int32} (h : cR c x y) : (y = 1 ∧ cO c = some x) ∨ (y = 0 ∧ cO c = none) := by
  unfold cO
  rcases cR_n h with ⟨h1, h2, h3⟩ | ⟨h1, h2⟩
  · exact Or.inl ⟨h1, by rw [if_neg h3, h2]⟩
  · exact Or.inr ⟨h1, if_pos h2⟩
/-- a sheet's head on both sides: missing, or not -/
theorem k_pour (x : Int32) : CL 97 186 [.int x] := by
  intro d m h hI
  obtain ⟨δ, τ1, ε, τ2, ζ, τ3, κ, n, l, ke, op, sz, B, S, b, a, s, w, X, rfl, R⟩ := hI
  have hw := R.1
  have hmo := R.2.1
  have ha1 := R.2.2.1
  have hmd := fun Z => md_of (s := s) (w := w) (Z := Z) ha1
  have n1 : ¬ (1 : Int32) = 0 := by decide
  by_cases c1 : bd x 3
  · have o1 := fun d h => ou_f d h (v := x) (n := 3) (N := 3) rfl (by decide) c1
    have i1 := fun d h => m_sh_t d h c1
    obtain ⟨i, hi3, rfl⟩ := c1
    have hi4 : i < 4 := by omega
    have hq := rw_s hi4
    have hx := xix_n hi4 (show 4 ≤ 100000 by decide)
    obtain ⟨r1, r2, r3, ⟨z0, hz0, ez⟩, r5⟩ := R.2.2.2.2.2.2.1 i hi4
    rw [ez] at r2
    have g24 : ∀ Z, hgf (md a δ (a 9) s w Z) (.ref 58) 6 24 = some (.ref 70) := fun Z => rfl
    have r12 : ∀ Z t, hrd (md a δ (a 9) s w Z) (.ref 70) 0 t = (xix t 4).map (a 12) := fun Z t => by unfold md; rw [Mr_12, vaj _ _ _ (by decide) (by decide)]
    by_cases hm1 : a 12 i = -1
    · have hb : bi (b (35 + 2 * i) 0 = -1) = 1 := bi_t (by rw [r1]; exact hm1)
      refine comb0 (v := -1000000011) R ?_ ?_
      · rw [E97]
        simp only [S97_0, S97_1, S97_2, S97_3, S97_6, S97_9, S97_11, S97_12, S97_13, S97_16, S97_17, S97_18, S97_19, S97_20, S97_23, S97_26, S97_28, S97_29, S97_30, S97_31, S97_32, Option.bind_some, Option.map_some, xpush_s, xpush_n, xcat_0, xcat_i, xcat_r, xcat_l, xcat_n, xcat_e, xir_r, Nat.reduceAdd, Nat.reduceLeDiff, Nat.zero_le, Nat.le_refl, ↓reduceIte, C_6, C_q32 hi4, W_cls hq, o1, w_miss _ hq, hb, n1]
      · rw [hmd, E186]
        simp only [S186_0, S186_1, S186_4, S186_7, S186_9, S186_10, S186_11, S186_14, S186_15, S186_16, S186_19, S186_21, S186_22, S186_23, S186_24, S186_25, Option.bind_some, Option.map_some, xpush_s, xpush_n, xcat_0, xcat_i, xcat_r, xcat_l, xcat_n, xcat_e, xir_r, Nat.reduceAdd, Nat.reduceLeDiff, Nat.zero_le, Nat.le_refl, ↓reduceIte, g24, r12, hx, i1, n1, hm1, show ¬ (0 : Int32) ≤ -1 by decide]
    · have hb : bi (b (35 + 2 * i) 0 = -1) = 0 := bi_f (by rw [r1]; exact hm1)
      have hge : 0 ≤ a 12 i := r3.elim (fun e => absurd e hm1) (fun c => c.elim (fun e => by rw [e]; decide) (fun e => by rw [e]; decide))
      have hD := prD_mw (fun t => cO (b (35 + 2 * i + 1) t)) (min 12 z0) 0 (by omega) δ hw
      have e1 := c_pour_l (τ1 := τ1) (ε := ε) (τ2 := τ2) (ζ := ζ) (τ3 := τ3) (κ := κ) (n := n) (l := l) (ke := ke) (op := op) (sz := sz) (B := B) (S := S) (b := b) (H := mh a s w X) (d + 196) hq hz0 r2 (x := nI i) (min 12 z0) 0 (by omega) δ 0 none hw
      have e2 := m_pour_l (s := s) (w := w) (Z := cG (prD (fun t => cO (b (35 + 2 * i + 1) t)) (min 12 z0) 0 δ) τ1 ε τ2 ζ τ3 κ n l ke op sz B S b X) (d + 196) hi4 hz0 ez (fun t => cO (b (35 + 2 * i + 1) t)) (fun r hr => cR_f (r5 hm1 r (by omega))) (min 12 z0) 0 (by omega) δ 0 none hw
      refine combD (v := nI (prC (fun t => cO (b (35 + 2 * i + 1) t)) (min 12 z0) 0 δ 0)) (D := prD (fun t => cO (b (35 + 2 * i + 1) t)) (min 12 z0) 0 δ) (ζ' := ζ) (τ3' := τ3) (κ' := κ) (κm := a 9) R ?_ ?_ hD.1 (by rw [hD.2 1 (by decide)]; exact hmo) (hD.2 7 (by decide))
      · rw [E97]
        simp only [S97_0, S97_1, S97_2, S97_3, S97_6, S97_9, S97_11, S97_12, S97_13, S97_16, S97_17, S97_18, S97_19, S97_20, S97_23, S97_26, S97_28, S97_29, S97_30, S97_31, S97_32, Option.bind_some, Option.map_some, xpush_s, xpush_n, xcat_0, xcat_i, xcat_r, xcat_l, xcat_n, xcat_e, xir_r, Nat.reduceAdd, Nat.reduceLeDiff, Nat.zero_le, Nat.le_refl, ↓reduceIte, C_6, C_q32 hi4, W_cls hq, o1, w_miss _ hq, hb]
        exact e1
      · rw [E186]
        simp only [S186_0, S186_1, S186_4, S186_7, S186_9, S186_10, S186_11, S186_14, S186_15, S186_16, S186_19, S186_21, S186_22, S186_23, S186_24, S186_25, Option.bind_some, Option.map_some, xpush_s, xpush_n, xcat_0, xcat_i, xcat_r, xcat_l, xcat_n, xcat_e, xir_r, Nat.reduceAdd, Nat.reduceLeDiff, Nat.zero_le, Nat.le_refl, ↓reduceIte, g24, r12, hx, i1, n1, hge]
        exact e2
  · refine comb0 (v := -1000000001) R ?_ ?_
    · rw [E97]
      simp only [S97_0, S97_1, S97_2, S97_3, S97_6, S97_9, S97_11, S97_12, S97_13, S97_16, S97_17, S97_18, S97_19, S97_20, S97_23, S97_26, S97_28, S97_29, S97_30, S97_31, S97_32, Option.bind_some, Option.map_some, xpush_s, xpush_n, xcat_0, xcat_i, xcat_r, xcat_l, xcat_n, xcat_e, xir_r, Nat.reduceAdd, Nat.reduceLeDiff, Nat.zero_le, Nat.le_refl, ↓reduceIte, n1, ou_t _ _ (n := 3) (N := 3) rfl (by decide) c1]
    · rw [E186]
      simp only [S186_0, S186_1, S186_4, S186_7, S186_9, S186_10, S186_11, S186_14, S186_15, S186_16, S186_19, S186_21, S186_22, S186_23, S186_24, S186_25, Option.bind_some, Option.map_some, xpush_s, xpush_n, xcat_0, xcat_i, xcat_r, xcat_l, xcat_n, xcat_e, xir_r, Nat.reduceAdd, Nat.reduceLeDiff, Nat.zero_le, Nat.le_refl, ↓reduceIte, n1, m_sh_f _ _ c1]
/-- reads -/
def rdR (c : Nat → Bool) : Nat → Nat → Int32
  | 0, _ => -1000000005
  | j + 1, i => if c i = true then nI i else rdR c j (i + 1)
noncomputable def rdc (δ : Nat → Int32) (f : Nat → Option Int32) (i : Nat) : Bool := match f i with
  | none => false
  | some v => @decide (¬ (i < nn (δ 0) ∧ v = δ (20 + 4 * i + 2))) (Classical.propDecidable _)
section READS
variable {δ : Nat → Int32} {τ1 : xt} {ε : Nat → Int32} {τ2 : xt} {ζ : Nat → Int32} {τ3 : xt} {κ : Nat → Nat → Int32} {n : Nat} {l : lk} {ke op sz : Int32} {B S : Nat → Int32} {b a : Nat → Nat → Int32} {s : Nat → Int32} {w : Int64} {H X : xh}
theorem rdc_n {f : Nat → Option Int32} {i : Nat} (h : f i = none) : ¬ rdc δ f i = true := by
  unfold rdc
  rw [h]
  exact Bool.false_ne_true
theorem rdc_t {f : Nat → Option Int32} {i : Nat} {v : Int32} (h : f i = some v) (hv : ¬ (i < nn (δ 0) ∧ v = δ (20 + 4 * i + 2))) : rdc δ f i = true := by
  unfold rdc
  rw [h]
  exact @decide_eq_true _ (Classical.propDecidable _) hv
theorem rdc_f {f : Nat → Option Int32} {i : Nat} {v : Int32} (h : f i = some v) (hv : i < nn (δ 0) ∧ v = δ (20 + 4 * i + 2)) : ¬ rdc δ f i = true := by
  unfold rdc
  rw [h]
  intro e
  exact (@of_decide_eq_true _ (Classical.propDecidable _) e) hv
theorem c_reads_l (d : Nat) (hw : wf δ) {q z : Nat} (hq : isRw q) (hz : z ≤ 24) (ez : b q 1 = nI z) {x : Int32} : ∀ j i, i + j = z → RF 98 (Ev (d + 3)) 31 [some (.ref 0), some (.int x), some (.ref q), some (.int (nI i))] [] (cG δ τ1 ε τ2 ζ τ3 κ n l ke op sz B S b H) = some (some (.int (rdR (rdc δ (fun t => cO (b (q + 1) t))) j i)), cG δ τ1 ε τ2 ζ τ3 κ n l ke op sz B S b H)
  | 0, i, e => by
    have e' : i = z := by omega
    subst e'
    rw [S98_31]
    by_cases h24 : i = 24
    · subst h24
      simp only [S98_32, S98_34, S98_37, S98_38, S98_39, S98_42, S98_45, S98_46, S98_47, S98_50, S98_53, S98_54, S98_57, S98_58, S98_61, S98_64, S98_65, S98_68, S98_69, S98_70, S98_71, S98_74, S98_77, S98_78, S98_79, S98_82, S98_83, S98_84, S98_87, S98_90, S98_92, Option.bind_some, Option.map_some, xpush_s, xpush_n, xcat_0, xcat_i, xcat_r, xcat_l, xcat_n, xcat_e, xir_r, Nat.reduceAdd, Nat.reduceLeDiff, Nat.zero_le, Nat.le_refl, ↓reduceIte, show ((24 : Int32) ≤ nI 24) = True from eq_true (Int32.le_refl _)]
      rfl
    · have hc : ¬ (24 : Int32) ≤ nI i := nI_ge (b := 24) (by omega) (by decide)
      simp only [S98_32, S98_34, S98_37, S98_38, S98_39, S98_42, S98_45, S98_46, S98_47, S98_50, S98_53, S98_54, S98_57, S98_58, S98_61, S98_64, S98_65, S98_68, S98_69, S98_70, S98_71, S98_74, S98_77, S98_78, S98_79, S98_82, S98_83, S98_84, S98_87, S98_90, S98_92, Option.bind_some, Option.map_some, xpush_s, xpush_n, xcat_0, xcat_i, xcat_r, xcat_l, xcat_n, xcat_e, xir_r, Nat.reduceAdd, Nat.reduceLeDiff, Nat.zero_le, Nat.le_refl, ↓reduceIte, hc, W_g1 hq, ez, show (nI i ≤ nI i) = True from eq_true (Int32.le_refl _)]
      rfl
  | j + 1, i, e => by
    have hc : ¬ (24 : Int32) ≤ nI i := nI_ge (b := 24) (by omega) (by decide)
    have hc2 : ¬ nI z ≤ nI i := nI_ge (by omega) (by omega)
    have hl : bi (nI i < 0 ∨ b q 1 - 1 < nI i) = 0 := bi_f (by rw [ez]; exact fun t => (ix_o (by omega)).mp t ⟨i, by omega, rfl⟩)
    have ih := c_reads_l d hw hq hz ez (x := x) j (i + 1) (by omega)
    have hxr := xix_n (show i < 24 by omega) (show 24 ≤ 100000 by decide)
    have n1 : ¬ (1 : Int32) = 0 := by decide
    unfold rdR
    rw [S98_31]
    by_cases hN : b (q + 1) i = -1000000005
    · have hcn : cO (b (q + 1) i) = none := if_pos hN
      have hb0 : bi (¬ b (q + 1) i = -1000000005) = 0 := bi_f (fun t => t hN)
      rw [if_neg (rdc_n (f := fun t => cO (b (q + 1) t)) hcn)]
      simp only [S98_32, S98_34, S98_37, S98_38, S98_39, S98_42, S98_45, S98_46, S98_47, S98_50, S98_53, S98_54, S98_57, S98_58, S98_61, S98_64, S98_65, S98_68, S98_69, S98_70, S98_71, S98_74, S98_77, S98_78, S98_79, S98_82, S98_83, S98_84, S98_87, S98_90, S98_92, Option.bind_some, Option.map_some, xpush_s, xpush_n, xcat_0, xcat_i, xcat_r, xcat_l, xcat_n, xcat_e, xir_r, Nat.reduceAdd, Nat.reduceLeDiff, Nat.zero_le, Nat.le_refl, ↓reduceIte, hc, hc2, W_g1 hq, ez, W_cls hq, w_has _ hq (show i < 24 by omega) hl, hb0, nI_1]
      exact ih
    · have hcs : cO (b (q + 1) i) = some (b (q + 1) i) := if_neg hN
      have hb0 : bi (¬ b (q + 1) i = -1000000005) = 1 := bi_t hN
      by_cases hm : i < nn (δ 0)
      · have hm10 : i < 10 := by have := hw.eN.2; omega
        by_cases hv : b (q + 1) i = δ (20 + 4 * i + 2)
        · rw [if_neg (rdc_f (f := fun t => cO (b (q + 1) t)) hcs ⟨hm, hv⟩)]
          simp only [S98_32, S98_34, S98_37, S98_38, S98_39, S98_42, S98_45, S98_46, S98_47, S98_50, S98_53, S98_54, S98_57, S98_58, S98_61, S98_64, S98_65, S98_68, S98_69, S98_70, S98_71, S98_74, S98_77, S98_78, S98_79, S98_82, S98_83, S98_84, S98_87, S98_90, S98_92, Option.bind_some, Option.map_some, xpush_s, xpush_n, xcat_0, xcat_i, xcat_r, xcat_l, xcat_n, xcat_e, xir_r, Nat.reduceAdd, Nat.reduceLeDiff, Nat.zero_le, Nat.le_refl, ↓reduceIte, hc, hc2, n1, W_g1 hq, ez, W_cls hq, w_has _ hq (show i < 24 by omega) hl, hb0, C_0, N_cls, G_lk_t _ hw ⟨i, hm, rfl⟩, W_g2 hq, W_r hq, hxr, N_g4, N_m2 hm10, if_pos hv, nI_1]
          exact ih
        · rw [if_pos (rdc_t (f := fun t => cO (b (q + 1) t)) hcs (fun t => hv t.2))]
          simp only [S98_32, S98_34, S98_37, S98_38, S98_39, S98_42, S98_45, S98_46, S98_47, S98_50, S98_53, S98_54, S98_57, S98_58, S98_61, S98_64, S98_65, S98_68, S98_69, S98_70, S98_71, S98_74, S98_77, S98_78, S98_79, S98_82, S98_83, S98_84, S98_87, S98_90, S98_92, Option.bind_some, Option.map_some, xpush_s, xpush_n, xcat_0, xcat_i, xcat_r, xcat_l, xcat_n, xcat_e, xir_r, Nat.reduceAdd, Nat.reduceLeDiff, Nat.zero_le, Nat.le_refl, ↓reduceIte, hc, hc2, n1, W_g1 hq, ez, W_cls hq, w_has _ hq (show i < 24 by omega) hl, hb0, C_0, N_cls, G_lk_t _ hw ⟨i, hm, rfl⟩, W_g2 hq, W_r hq, hxr, N_g4, N_m2 hm10, if_neg hv]
      · have hni : ¬ ix (nI i) (nn (δ 0)) := by
          rintro ⟨k, hk, ek⟩
          have := (nI_eq (by omega) (by have := hw.eN.2; omega)).mp ek
          omega
        rw [if_pos (rdc_t (f := fun t => cO (b (q + 1) t)) hcs (fun t => hm t.1))]
        simp only [S98_32, S98_34, S98_37, S98_38, S98_39, S98_42, S98_45, S98_46, S98_47, S98_50, S98_53, S98_54, S98_57, S98_58, S98_61, S98_64, S98_65, S98_68, S98_69, S98_70, S98_71, S98_74, S98_77, S98_78, S98_79, S98_82, S98_83, S98_84, S98_87, S98_90, S98_92, Option.bind_some, Option.map_some, xpush_s, xpush_n, xcat_0, xcat_i, xcat_r, xcat_l, xcat_n, xcat_e, xir_r, Nat.reduceAdd, Nat.reduceLeDiff, Nat.zero_le, Nat.le_refl, ↓reduceIte, hc, hc2, n1, W_g1 hq, ez, W_cls hq, w_has _ hq (show i < 24 by omega) hl, hb0, C_0, N_cls, G_lk_f _ hw hni]
theorem m_reads_l (d : Nat) (hw : wf δ) {Z : xh} {p z : Nat} (hi : p < 4) (hz : z ≤ 24) (ez : a 13 p = nI z) (f : Nat → Option Int32) (hf : ∀ r, r < z → (a 15 (24 * p + r) = 1 ∧ f r = some (a 14 (24 * p + r))) ∨ (a 15 (24 * p + r) = 0 ∧ f r = none)) : ∀ j i, i + j = z → RF 187 (Ev (d + 3)) 24 [some (.ref 58), some (.int (nI p)), some (.int (nI i))] [] (md a δ (a 9) s w Z) = some (some (.int (rdR (rdc δ f) j i)), md a δ (a 9) s w Z)
  | 0, i, e => by
    have e' : i = z := by omega
    subst e'
    have g25 : hgf (md a δ (a 9) s w Z) (.ref 58) 6 25 = some (.ref 71) := rfl
    have r13 : ∀ t, hrd (md a δ (a 9) s w Z) (.ref 71) 0 t = (xix t 4).map (a 13) := fun t => by unfold md; rw [Mr_13, vaj _ _ _ (by decide) (by decide)]
    rw [S187_24]
    simp only [S187_25, S187_26, S187_29, S187_30, S187_31, S187_34, S187_35, S187_38, S187_40, S187_41, S187_42, S187_43, S187_44, S187_45, S187_48, S187_49, S187_50, S187_53, S187_56, S187_57, S187_60, S187_62, S187_63, S187_64, S187_65, S187_66, S187_67, S187_68, S187_69, S187_70, S187_73, S187_76, S187_77, S187_78, S187_81, S187_84, S187_86, Option.bind_some, Option.map_some, xpush_s, xpush_n, xcat_0, xcat_i, xcat_r, xcat_l, xcat_n, xcat_e, xir_r, Nat.reduceAdd, Nat.reduceLeDiff, Nat.zero_le, Nat.le_refl, ↓reduceIte, g25, r13, xix_n hi (show 4 ≤ 100000 by decide), ez, show (nI i ≤ nI i) = True from eq_true (Int32.le_refl _)]
    rfl
  | j + 1, i, e => by
    have g25 : hgf (md a δ (a 9) s w Z) (.ref 58) 6 25 = some (.ref 71) := rfl
    have g26 : hgf (md a δ (a 9) s w Z) (.ref 58) 6 26 = some (.ref 72) := rfl
    have g27 : hgf (md a δ (a 9) s w Z) (.ref 58) 6 27 = some (.ref 73) := rfl
    have r13 : ∀ t, hrd (md a δ (a 9) s w Z) (.ref 71) 0 t = (xix t 4).map (a 13) := fun t => by unfold md; rw [Mr_13, vaj _ _ _ (by decide) (by decide)]
    have r14 : ∀ t, hrd (md a δ (a 9) s w Z) (.ref 72) 0 t = (xix t 96).map (a 14) := fun t => by unfold md; rw [Mr_14, vaj _ _ _ (by decide) (by decide)]
    have r15 : ∀ t, hrd (md a δ (a 9) s w Z) (.ref 73) 1 t = (xix t 96).map (a 15) := fun t => by unfold md; rw [Mr_15, vaj _ _ _ (by decide) (by decide)]
    have hc2 : ¬ nI z ≤ nI i := nI_ge (by omega) (by omega)
    have ih := m_reads_l d hw hi hz ez f hf (Z := Z) j (i + 1) (by omega)
    have hxi := xix_n hi (show 4 ≤ 100000 by decide)
    have hxc := xix_n (show 24 * p + i < 96 by omega) (show 96 ≤ 100000 by decide)
    have n1 : ¬ (1 : Int32) = 0 := by decide
    unfold rdR
    rw [S187_24]
    rcases hf i (by omega) with ⟨f1, f2⟩ | ⟨f1, f2⟩
    · by_cases hm : i < nn (δ 0)
      · have hm10 : i < 10 := by have := hw.eN.2; omega
        by_cases hv : a 14 (24 * p + i) = δ (20 + 4 * i + 2)
        · rw [if_neg (rdc_f f2 ⟨hm, hv⟩)]
          simp only [S187_25, S187_26, S187_29, S187_30, S187_31, S187_34, S187_35, S187_38, S187_40, S187_41, S187_42, S187_43, S187_44, S187_45, S187_48, S187_49, S187_50, S187_53, S187_56, S187_57, S187_60, S187_62, S187_63, S187_64, S187_65, S187_66, S187_67, S187_68, S187_69, S187_70, S187_73, S187_76, S187_77, S187_78, S187_81, S187_84, S187_86, Option.bind_some, Option.map_some, xpush_s, xpush_n, xcat_0, xcat_i, xcat_r, xcat_l, xcat_n, xcat_e, xir_r, Nat.reduceAdd, Nat.reduceLeDiff, Nat.zero_le, Nat.le_refl, ↓reduceIte, hc2, n1, g25, g26, g27, r13, r14, r15, hxi, ez, ix24, hxc, f1, Dcls, m_mk_t _ hw ⟨i, hm, rfl⟩, s_of2 _ hm10, if_pos hv, nI_1]
          exact ih
        · rw [if_pos (rdc_t f2 (fun t => hv t.2))]
          simp only [S187_25, S187_26, S187_29, S187_30, S187_31, S187_34, S187_35, S187_38, S187_40, S187_41, S187_42, S187_43, S187_44, S187_45, S187_48, S187_49, S187_50, S187_53, S187_56, S187_57, S187_60, S187_62, S187_63, S187_64, S187_65, S187_66, S187_67, S187_68, S187_69, S187_70, S187_73, S187_76, S187_77, S187_78, S187_81, S187_84, S187_86, Option.bind_some, Option.map_some, xpush_s, xpush_n, xcat_0, xcat_i, xcat_r, xcat_l, xcat_n, xcat_e, xir_r, Nat.reduceAdd, Nat.reduceLeDiff, Nat.zero_le, Nat.le_refl, ↓reduceIte, hc2, n1, g25, g26, g27, r13, r14, r15, hxi, ez, ix24, hxc, f1, Dcls, m_mk_t _ hw ⟨i, hm, rfl⟩, s_of2 _ hm10, if_neg hv]
      · have hni : ¬ ix (nI i) (nn (δ 0)) := by
          rintro ⟨k, hk, ek⟩
          have := (nI_eq (by omega) (by have := hw.eN.2; omega)).mp ek
          omega
        rw [if_pos (rdc_t f2 (fun t => hm t.1))]
        simp only [S187_25, S187_26, S187_29, S187_30, S187_31, S187_34, S187_35, S187_38, S187_40, S187_41, S187_42, S187_43, S187_44, S187_45, S187_48, S187_49, S187_50, S187_53, S187_56, S187_57, S187_60, S187_62, S187_63, S187_64, S187_65, S187_66, S187_67, S187_68, S187_69, S187_70, S187_73, S187_76, S187_77, S187_78, S187_81, S187_84, S187_86, Option.bind_some, Option.map_some, xpush_s, xpush_n, xcat_0, xcat_i, xcat_r, xcat_l, xcat_n, xcat_e, xir_r, Nat.reduceAdd, Nat.reduceLeDiff, Nat.zero_le, Nat.le_refl, ↓reduceIte, hc2, n1, g25, g26, g27, r13, r14, r15, hxi, ez, ix24, hxc, f1, Dcls, m_mk_f _ hw hni]
    · rw [if_neg (rdc_n f2)]
      simp only [S187_25, S187_26, S187_29, S187_30, S187_31, S187_34, S187_35, S187_38, S187_40, S187_41, S187_42, S187_43, S187_44, S187_45, S187_48, S187_49, S187_50, S187_53, S187_56, S187_57, S187_60, S187_62, S187_63, S187_64, S187_65, S187_66, S187_67, S187_68, S187_69, S187_70, S187_73, S187_76, S187_77, S187_78, S187_81, S187_84, S187_86, Option.bind_some, Option.map_some, xpush_s, xpush_n, xcat_0, xcat_i, xcat_r, xcat_l, xcat_n, xcat_e, xir_r, Nat.reduceAdd, Nat.reduceLeDiff, Nat.zero_le, Nat.le_refl, ↓reduceIte, hc2, g25, g26, g27, r13, r14, r15, hxi, ez, ix24, hxc, f1, nI_1]
      exact ih
end READS
theorem k_reads (x : Int32) : CL 98 187 [.int x] := by
  intro d m h hI
  obtain ⟨δ, τ1, ε, τ2, ζ, τ3, κ, n, l, ke, op, sz, B, S, b, a, s, w, X, rfl, R⟩ := hI
  have hw := R.1
  have hmo := R.2.1
  have ha1 := R.2.2.1
  have hmd := fun Z => md_of (s := s) (w := w) (Z := Z) ha1
  have n1 : ¬ (1 : Int32) = 0 := by decide
  by_cases c1 : bd x 3
  · have o1 := fun d h => ou_f d h (v := x) (n := 3) (N := 3) rfl (by decide) c1
    have i1 := fun d h => m_sh_t d h c1
    obtain ⟨i, hi3, rfl⟩ := c1
    have hi4 : i < 4 := by omega
    have hq := rw_s hi4
    have hx := xix_n hi4 (show 4 ≤ 100000 by decide)
    obtain ⟨r1, r2, r3, ⟨z0, hz0, ez⟩, r5⟩ := R.2.2.2.2.2.2.1 i hi4
    rw [ez] at r2
    have g24 : ∀ Z, hgf (md a δ (a 9) s w Z) (.ref 58) 6 24 = some (.ref 70) := fun Z => rfl
    have r12 : ∀ Z t, hrd (md a δ (a 9) s w Z) (.ref 70) 0 t = (xix t 4).map (a 12) := fun Z t => by unfold md; rw [Mr_12, vaj _ _ _ (by decide) (by decide)]
    by_cases hm1 : a 12 i = -1
    · have hb : bi (b (35 + 2 * i) 0 = -1) = 1 := bi_t (by rw [r1]; exact hm1)
      refine comb0 (v := -1000000011) R ?_ ?_
      · rw [E98]
        simp only [S98_0, S98_1, S98_2, S98_3, S98_6, S98_9, S98_11, S98_12, S98_13, S98_16, S98_17, S98_18, S98_19, S98_20, S98_23, S98_26, S98_28, S98_29, S98_30, Option.bind_some, Option.map_some, xpush_s, xpush_n, xcat_0, xcat_i, xcat_r, xcat_l, xcat_n, xcat_e, xir_r, Nat.reduceAdd, Nat.reduceLeDiff, Nat.zero_le, Nat.le_refl, ↓reduceIte, C_6, C_q32 hi4, W_cls hq, o1, w_miss _ hq, hb, n1]
      · rw [hmd, E187]
        simp only [S187_0, S187_1, S187_4, S187_7, S187_9, S187_10, S187_11, S187_14, S187_15, S187_16, S187_19, S187_21, S187_22, S187_23, Option.bind_some, Option.map_some, xpush_s, xpush_n, xcat_0, xcat_i, xcat_r, xcat_l, xcat_n, xcat_e, xir_r, Nat.reduceAdd, Nat.reduceLeDiff, Nat.zero_le, Nat.le_refl, ↓reduceIte, g24, r12, hx, i1, n1, hm1, show ¬ (0 : Int32) ≤ -1 by decide]
    · have hb : bi (b (35 + 2 * i) 0 = -1) = 0 := bi_f (by rw [r1]; exact hm1)
      have hge : 0 ≤ a 12 i := r3.elim (fun e => absurd e hm1) (fun c => c.elim (fun e => by rw [e]; decide) (fun e => by rw [e]; decide))
      have e1 := c_reads_l (δ := δ) (τ1 := τ1) (ε := ε) (τ2 := τ2) (ζ := ζ) (τ3 := τ3) (κ := κ) (n := n) (l := l) (ke := ke) (op := op) (sz := sz) (B := B) (S := S) (b := b) (H := mh a s w X) (d + 196) hw hq hz0 r2 (x := nI i) z0 0 (by omega)
      have e2 := m_reads_l (s := s) (w := w) (Z := cG δ τ1 ε τ2 ζ τ3 κ n l ke op sz B S b X) (d + 196) hw hi4 hz0 ez (fun t => cO (b (35 + 2 * i + 1) t)) (fun r hr => cR_f (r5 hm1 r (by omega))) z0 0 (by omega)
      refine comb0 (v := rdR (rdc δ (fun t => cO (b (35 + 2 * i + 1) t))) z0 0) R ?_ ?_
      · rw [E98]
        simp only [S98_0, S98_1, S98_2, S98_3, S98_6, S98_9, S98_11, S98_12, S98_13, S98_16, S98_17, S98_18, S98_19, S98_20, S98_23, S98_26, S98_28, S98_29, S98_30, Option.bind_some, Option.map_some, xpush_s, xpush_n, xcat_0, xcat_i, xcat_r, xcat_l, xcat_n, xcat_e, xir_r, Nat.reduceAdd, Nat.reduceLeDiff, Nat.zero_le, Nat.le_refl, ↓reduceIte, C_6, C_q32 hi4, W_cls hq, o1, w_miss _ hq, hb]
        exact e1
      · rw [hmd, E187]
        simp only [S187_0, S187_1, S187_4, S187_7, S187_9, S187_10, S187_11, S187_14, S187_15, S187_16, S187_19, S187_21, S187_22, S187_23, Option.bind_some, Option.map_some, xpush_s, xpush_n, xcat_0, xcat_i, xcat_r, xcat_l, xcat_n, xcat_e, xir_r, Nat.reduceAdd, Nat.reduceLeDiff, Nat.zero_le, Nat.le_refl, ↓reduceIte, g24, r12, hx, i1, n1, hge]
        exact e2
  · refine comb0 (v := -1000000001) R ?_ ?_
    · rw [E98]
      simp only [S98_0, S98_1, S98_2, S98_3, S98_6, S98_9, S98_11, S98_12, S98_13, S98_16, S98_17, S98_18, S98_19, S98_20, S98_23, S98_26, S98_28, S98_29, S98_30, Option.bind_some, Option.map_some, xpush_s, xpush_n, xcat_0, xcat_i, xcat_r, xcat_l, xcat_n, xcat_e, xir_r, Nat.reduceAdd, Nat.reduceLeDiff, Nat.zero_le, Nat.le_refl, ↓reduceIte, n1, ou_t _ _ (n := 3) (N := 3) rfl (by decide) c1]
    · rw [E187]
      simp only [S187_0, S187_1, S187_4, S187_7, S187_9, S187_10, S187_11, S187_14, S187_15, S187_16, S187_19, S187_21, S187_22, S187_23, Option.bind_some, Option.map_some, xpush_s, xpush_n, xcat_0, xcat_i, xcat_r, xcat_l, xcat_n, xcat_e, xir_r, Nat.reduceAdd, Nat.reduceLeDiff, Nat.zero_le, Nat.le_refl, ↓reduceIte, n1, m_sh_f _ _ c1]

