/-! part 53, by program (wip/whole/gen/calls4.py): calls, fourth lot: ink, place, becomes -/
def fI (c : Nat → Bool) : Nat → Nat → Int32
  | 0, _ => -1000000005
  | j + 1, i => if c i = true then nI i else fI c j (i + 1)
def bst (f : Nat → Int32) : Nat → Int32 × Int32
  | 0 => (0, -1)
  | k + 1 => if f k ≤ (bst f k).2 then bst f k else (nI k, f k)
theorem bst_t {f : Nat → Int32} {k : Nat} (h : f k ≤ (bst f k).2) : bst f (k + 1) = bst f k := if_pos h
theorem bst_f {f : Nat → Int32} {k : Nat} (h : ¬ f k ≤ (bst f k).2) : bst f (k + 1) = (nI k, f k) := if_neg h
section INK
variable {m : Nat} {δ : Nat → Int32} {τ1 : xt} {ε : Nat → Int32} {τ2 : xt} {n : Nat} {l : lk} {ke op sz : Int32} {B S : Nat → Int32} {b a : Nat → Nat → Int32} {s : Nat → Int32} {w : Int64} {X : xh}
theorem c_ink_l (R : Rel m δ τ1 ε τ2 n B b a s X) (d : Nat) {q : Option xq} (hq : LW X τ1 0 q) {t k r : Nat} (ht : t < 10) (hk : k < 2 ^ 31) (hr : r < 12) (v : Int32) (c : Nat → Bool) (hc : ∀ i, c i = decide (¬ v < sMonths q k (upd δ (20 + 4 * t + 1) (nI i)) (8 + r))) : ∀ j i, i + j = 100 → ∀ (ζ : Nat → Int32) (τ3 : xt) (κ : Nat → Nat → Int32), ∃ ζ' τ' κ', RF 82 (Ev (d + 5)) 48 [some (.ref 0), some (.int (nI t)), some (.int (nI k)), some (.int v), some (.int (nI r)), some (.int (nI i))] [] (cG δ τ1 ε τ2 ζ τ3 κ n l ke op sz B S b (mh a s w X)) = some (some (.int (fI c j i)), cG δ τ1 ε τ2 ζ' τ' κ' n l ke op sz B S b (mh a s w X))
  | 0, i, e, ζ, τ3, κ => by
    have e' : i = 100 := by omega
    subst e'
    refine ⟨ζ, τ3, κ, ?_⟩
    rw [S82_48]
    simp only [S82_50, S82_52, S82_55, S82_56, S82_59, S82_60, S82_63, S82_66, S82_67, S82_70, S82_73, S82_74, S82_76, S82_77, S82_78, S82_81, S82_82, S82_85, S82_86, S82_89, S82_92, S82_94, S82_95, S82_96, S82_99, S82_101, S82_102, S82_105, S82_108, S82_110, Option.bind_some, Option.map_some, xpush_s, xpush_n, xcat_0, xcat_i, xcat_r, xcat_l, xcat_n, xcat_e, xir_r, Nat.reduceAdd, Nat.reduceLeDiff, Nat.zero_le, Nat.le_refl, ↓reduceIte, show (99 : Int32) < nI 100 by decide]
    rfl
  | j + 1, i, e, ζ, τ3, κ => by
    have h99 : ¬ (99 : Int32) < nI i := nI_nlt (a := 99) (by omega) (by decide)
    obtain ⟨τ, hE, e1⟩ := T_b (l := l) (ke := ke) (op := op) (sz := sz) (S := S) (w := w) R (d + 4) ζ τ3 κ
    have hw2 : wf (upd δ (20 + 4 * t + 1) (nI i)) := wf_upd R.1 (okk_of (bnd_ink ht) ⟨i, by omega, rfl⟩)
    obtain ⟨κ1, e2⟩ := T_p (δ := δ) (τ1 := τ1) (ε := ε) (τ2 := τ2) (n := n) (l := l) (ke := ke) (op := op) (sz := sz) (B := B) (S := S) (b := b) (a := a) (s := s) (w := w) (X := X) (ζ := upd δ (20 + 4 * t + 1) (nI i)) (τ3 := τ) (κ := κ) d hq hE hw2 hk
    have hci := hc i
    by_cases hv : v < sMonths q k (upd δ (20 + 4 * t + 1) (nI i)) (8 + r)
    · have hcf : ¬ c i = true := by rw [hci]; simp [hv]
      obtain ⟨ζ2, τ9, κ2, e3⟩ := c_ink_l R d hq ht hk hr v c hc j (i + 1) (by omega) (sMonths q k (upd δ (20 + 4 * t + 1) (nI i))) τ κ1
      refine ⟨ζ2, τ9, κ2, ?_⟩
      rw [show fI c (j + 1) i = fI c j (i + 1) from if_neg hcf, ← e3, S82_48]
      simp only [S82_50, S82_52, S82_55, S82_56, S82_59, S82_60, S82_63, S82_66, S82_67, S82_70, S82_73, S82_74, S82_76, S82_77, S82_78, S82_81, S82_82, S82_85, S82_86, S82_89, S82_92, S82_94, S82_95, S82_96, S82_99, S82_101, S82_102, S82_105, S82_108, S82_110, Option.bind_some, Option.map_some, xpush_s, xpush_n, xcat_0, xcat_i, xcat_r, xcat_l, xcat_n, xcat_e, xir_r, Nat.reduceAdd, Nat.reduceLeDiff, Nat.zero_le, Nat.le_refl, ↓reduceIte, h99, C_0, C_2, Q_cls, e1, Q_g3, Q_mw1 ht, e2, Q_g0, Q_w hr, hv, nI_1]
    · have hct : c i = true := by rw [hci]; simp [hv]
      refine ⟨sMonths q k (upd δ (20 + 4 * t + 1) (nI i)), τ, κ1, ?_⟩
      rw [show fI c (j + 1) i = nI i from if_pos hct, S82_48]
      simp only [S82_50, S82_52, S82_55, S82_56, S82_59, S82_60, S82_63, S82_66, S82_67, S82_70, S82_73, S82_74, S82_76, S82_77, S82_78, S82_81, S82_82, S82_85, S82_86, S82_89, S82_92, S82_94, S82_95, S82_96, S82_99, S82_101, S82_102, S82_105, S82_108, S82_110, Option.bind_some, Option.map_some, xpush_s, xpush_n, xcat_0, xcat_i, xcat_r, xcat_l, xcat_n, xcat_e, xir_r, Nat.reduceAdd, Nat.reduceLeDiff, Nat.zero_le, Nat.le_refl, ↓reduceIte, h99, C_0, C_2, Q_cls, e1, Q_g3, Q_mw1 ht, e2, Q_g0, Q_w hr, hv]
theorem m_ink_lp (d : Nat) {q : Option xq} {Z : xh} (hw : wf δ) (hq : QM (va_up a 3 δ) 0 (nn (δ 7)) q) {t k r : Nat} (ht : t < 10) (hk : k < 2 ^ 31) (hr : r < 12) (v : Int32) (c : Nat → Bool) (hc : ∀ i, c i = decide (¬ v < sMonths q k (upd δ (20 + 4 * t + 1) (nI i)) (8 + r))) : ∀ i, i ≤ 100 → ∀ κ, ∃ κ', RF 158 (Ev (d + 6)) 65 [some (.ref 58), some (.int (nI t)), some (.int (nI k)), some (.int v), some (.int (nI (8 + r))), some (.int (fI c (100 - i) i)), some (.int (nI i - 1))] [] (md (va_up a 3 δ) δ κ s w Z) = some (some (.int (fI c 100 0)), md (va_up a 3 δ) δ κ' s w Z)
  | 0, _, κ => by
    refine ⟨κ, ?_⟩
    rw [S158_65]
    simp only [S158_67, S158_70, S158_71, S158_72, S158_73, S158_75, S158_78, S158_79, S158_80, S158_83, S158_84, S158_87, S158_89, S158_90, S158_91, S158_94, S158_96, S158_99, S158_101, S158_103, S158_104, S158_107, S158_108, S158_111, S158_114, S158_117, S158_120, S158_122, Option.bind_some, Option.map_some, xpush_s, xpush_n, xcat_0, xcat_i, xcat_r, xcat_l, xcat_n, xcat_e, xir_r, Nat.reduceAdd, Nat.reduceLeDiff, Nat.zero_le, Nat.le_refl, ↓reduceIte, show nI 0 - 1 < 0 by decide]
  | i + 1, hi, κ => by
    have h0 : ¬ nI i < 0 := nI_pos (by omega)
    have hw2 : wf (upd δ (20 + 4 * t + 1) (nI i)) := wf_upd hw (okk_of (bnd_ink ht) ⟨i, by omega, rfl⟩)
    obtain ⟨κ1, e1⟩ := s_months (κ := κ) (s := s) (w := w) (H := Z) d (a := va_up a 3 δ) (δ := upd δ (20 + 4 * t + 1) (nI i)) hk hw2 (by rw [up_n _ _ (show 7 ≠ 20 + 4 * t + 1 by omega)]; exact hq)
    have hD := (mw_months q k _ hw2).1
    obtain ⟨κ2, ih⟩ := m_ink_lp d hw hq ht hk hr v c hc i (by omega) κ1
    have hx := xix_n (show 8 + r < 60 by omega) (show 60 ≤ 100000 by decide)
    have hci := hc i
    refine ⟨κ2, ?_⟩
    rw [show 100 - i = (100 - (i + 1)) + 1 by omega] at ih
    rw [S158_65]
    by_cases hv : v < sMonths q k (upd δ (20 + 4 * t + 1) (nI i)) (8 + r)
    · have hcf : ¬ c i = true := by rw [hci]; simp [hv]
      rw [show fI c (100 - (i + 1) + 1) i = fI c (100 - (i + 1)) (i + 1) from if_neg hcf] at ih
      simp only [S158_67, S158_70, S158_71, S158_72, S158_73, S158_75, S158_78, S158_79, S158_80, S158_83, S158_84, S158_87, S158_89, S158_90, S158_91, S158_94, S158_96, S158_99, S158_101, S158_103, S158_104, S158_107, S158_108, S158_111, S158_114, S158_117, S158_120, S158_122, Option.bind_some, Option.map_some, xpush_s, xpush_n, xcat_0, xcat_i, xcat_r, xcat_l, xcat_n, xcat_e, xir_r, Nat.reduceAdd, Nat.reduceLeDiff, Nat.zero_le, Nat.le_refl, ↓reduceIte, nI_pred, h0, Dcls, Dg, Dg3, Dr, s_sets1 _ _ ht, e1, hx, hv, m_cpb _ hD.z hw.z, m1]
      exact ih
    · have hct : c i = true := by rw [hci]; simp [hv]
      rw [show fI c (100 - (i + 1) + 1) i = nI i from if_pos hct] at ih
      simp only [S158_67, S158_70, S158_71, S158_72, S158_73, S158_75, S158_78, S158_79, S158_80, S158_83, S158_84, S158_87, S158_89, S158_90, S158_91, S158_94, S158_96, S158_99, S158_101, S158_103, S158_104, S158_107, S158_108, S158_111, S158_114, S158_117, S158_120, S158_122, Option.bind_some, Option.map_some, xpush_s, xpush_n, xcat_0, xcat_i, xcat_r, xcat_l, xcat_n, xcat_e, xir_r, Nat.reduceAdd, Nat.reduceLeDiff, Nat.zero_le, Nat.le_refl, ↓reduceIte, nI_pred, h0, Dcls, Dg, Dg3, Dr, s_sets1 _ _ ht, e1, hx, hv, m_cpb _ hD.z hw.z, m1]
      exact ih
theorem c_bst_l (R : Rel m δ τ1 ε τ2 n B b a s X) (d : Nat) {q : Option xq} (hq : LW X τ1 0 q) {t k j C : Nat} (ht : t < 10) (hk : k < 2 ^ 31) (hC : C ≤ 12) (y : Int32) (hj : (j = 0 ∧ C = 6) ∨ (j = 2 ∧ C = 12)) (f : Nat → Int32) (hf : ∀ i, f i = sMonths q k (upd δ (20 + 4 * t + j) (nI i)) 4) : ∀ u i, i + u = C → ∀ (ζ : Nat → Int32) (τ3 : xt) (κ : Nat → Nat → Int32), ∃ ζ' τ' κ', RF 84 (Ev (d + 5)) 9 [some (.ref 0), some (.ref (21 + j)), some (.int (nI t)), some (.int (nI C)), some (.int (nI k)), some (.int y), some (.int (bst f i).1), some (.int (bst f i).2), some (.int (nI i))] [] (cG δ τ1 ε τ2 ζ τ3 κ n l ke op sz B S b (mh a s w X)) = some (some (.int (if y = 0 then (bst f C).1 else (bst f C).2)), cG δ τ1 ε τ2 ζ' τ' κ' n l ke op sz B S b (mh a s w X))
  | 0, i, e, ζ, τ3, κ => by
    have e' : i = C := by omega
    subst e'
    refine ⟨ζ, τ3, κ, ?_⟩
    rw [S84_9]
    by_cases hy : y = 0
    · simp only [S84_11, S84_12, S84_15, S84_16, S84_19, S84_20, S84_23, S84_26, S84_27, S84_28, S84_30, S84_31, S84_32, S84_35, S84_37, S84_40, S84_41, S84_44, S84_47, S84_49, S84_52, S84_53, S84_56, S84_59, S84_61, S84_63, S84_65, S84_68, S84_71, S84_73, S84_76, S84_78, S84_81, S84_83, Option.bind_some, Option.map_some, xpush_s, xpush_n, xcat_0, xcat_i, xcat_r, xcat_l, xcat_n, xcat_e, xir_r, Nat.reduceAdd, Nat.reduceLeDiff, Nat.zero_le, Nat.le_refl, ↓reduceIte, show (nI i ≤ nI i) = True from eq_true (Int32.le_refl _), if_pos hy]
    · simp only [S84_11, S84_12, S84_15, S84_16, S84_19, S84_20, S84_23, S84_26, S84_27, S84_28, S84_30, S84_31, S84_32, S84_35, S84_37, S84_40, S84_41, S84_44, S84_47, S84_49, S84_52, S84_53, S84_56, S84_59, S84_61, S84_63, S84_65, S84_68, S84_71, S84_73, S84_76, S84_78, S84_81, S84_83, Option.bind_some, Option.map_some, xpush_s, xpush_n, xcat_0, xcat_i, xcat_r, xcat_l, xcat_n, xcat_e, xir_r, Nat.reduceAdd, Nat.reduceLeDiff, Nat.zero_le, Nat.le_refl, ↓reduceIte, show (nI i ≤ nI i) = True from eq_true (Int32.le_refl _), if_neg hy]
  | u + 1, i, e, ζ, τ3, κ => by
    have hc : ¬ nI C ≤ nI i := nI_ge (by omega) (by omega)
    obtain ⟨τ, hE, e1⟩ := T_b (l := l) (ke := ke) (op := op) (sz := sz) (S := S) (w := w) R (d + 4) ζ τ3 κ
    have hw2 : wf (upd δ (20 + 4 * t + j) (nI i)) := by
      rcases hj with ⟨rfl, rfl⟩ | ⟨rfl, rfl⟩
      · exact wf_upd R.1 (okk_of (bnd_kind ht) ⟨i, by omega, rfl⟩)
      · exact wf_upd R.1 (okk_of (bnd_reach ht) ⟨i, by omega, rfl⟩)
    have hwr : hwr (cG δ τ1 ε τ2 δ τ κ n l ke op sz B S b (mh a s w X)) (.ref (21 + j)) 0 (nI t) (nI i) = some (cG δ τ1 ε τ2 (upd δ (20 + 4 * t + j) (nI i)) τ κ n l ke op sz B S b (mh a s w X)) := by
      rcases hj with ⟨rfl, rfl⟩ | ⟨rfl, rfl⟩
      · exact Q_mw0 ht (nI i)
      · exact Q_mw2 ht (nI i)
    obtain ⟨κ1, e2⟩ := T_p (δ := δ) (τ1 := τ1) (ε := ε) (τ2 := τ2) (n := n) (l := l) (ke := ke) (op := op) (sz := sz) (B := B) (S := S) (b := b) (a := a) (s := s) (w := w) (X := X) (ζ := upd δ (20 + 4 * t + j) (nI i)) (τ3 := τ) (κ := κ) d hq hE hw2 hk
    obtain ⟨ζ2, τ9, κ2, e3⟩ := c_bst_l R d hq ht hk hC y hj f hf u (i + 1) (by omega) (sMonths q k (upd δ (20 + 4 * t + j) (nI i))) τ κ1
    refine ⟨ζ2, τ9, κ2, ?_⟩
    have hfi := hf i
    rw [S84_9]
    by_cases hv : f i ≤ (bst f i).2
    · rw [bst_t hv] at e3
      rw [hfi] at hv
      simp only [S84_11, S84_12, S84_15, S84_16, S84_19, S84_20, S84_23, S84_26, S84_27, S84_28, S84_30, S84_31, S84_32, S84_35, S84_37, S84_40, S84_41, S84_44, S84_47, S84_49, S84_52, S84_53, S84_56, S84_59, S84_61, S84_63, S84_65, S84_68, S84_71, S84_73, S84_76, S84_78, S84_81, S84_83, Option.bind_some, Option.map_some, xpush_s, xpush_n, xcat_0, xcat_i, xcat_r, xcat_l, xcat_n, xcat_e, xir_r, Nat.reduceAdd, Nat.reduceLeDiff, Nat.zero_le, Nat.le_refl, ↓reduceIte, hc, C_0, C_2, Q_cls, e1, hwr, e2, Q_g8, hv, nI_1]
      exact e3
    · rw [bst_f hv] at e3
      rw [hfi] at hv e3
      simp only [S84_11, S84_12, S84_15, S84_16, S84_19, S84_20, S84_23, S84_26, S84_27, S84_28, S84_30, S84_31, S84_32, S84_35, S84_37, S84_40, S84_41, S84_44, S84_47, S84_49, S84_52, S84_53, S84_56, S84_59, S84_61, S84_63, S84_65, S84_68, S84_71, S84_73, S84_76, S84_78, S84_81, S84_83, Option.bind_some, Option.map_some, xpush_s, xpush_n, xcat_0, xcat_i, xcat_r, xcat_l, xcat_n, xcat_e, xir_r, Nat.reduceAdd, Nat.reduceLeDiff, Nat.zero_le, Nat.le_refl, ↓reduceIte, hc, C_0, C_2, Q_cls, e1, hwr, e2, Q_g8, hv, nI_1]
      exact e3
theorem m_bst_l (d : Nat) {q : Option xq} {Z : xh} (hw : wf δ) (hq : QM (va_up a 3 δ) 0 (nn (δ 7)) q) {t k j C : Nat} (ht : t < 10) (hk : k < 2 ^ 31) (y : Int32) (hj : (j = 0 ∧ C = 6) ∨ (j = 2 ∧ C = 12)) (f : Nat → Int32) (hf : ∀ i, f i = sMonths q k (upd δ (20 + 4 * t + j) (nI i)) 4) : ∀ u i, i + u = C → ∀ κ, ∃ κ', RF 160 (Ev (d + 6)) 20 [some (.ref 58), some (.int (nI (20 + 4 * t + j))), some (.int (nI (C - 1))), some (.int (nI k)), some (.int y), some (.int (bst f i).1), some (.int (bst f i).2), some (.int (nI i))] [] (md (va_up a 3 δ) δ κ s w Z) = some (some (.int (if y = 0 then (bst f C).1 else (bst f C).2)), md (va_up a 3 δ) δ κ' s w Z)
  | 0, i, e, κ => by
    have e' : i = C := by omega
    subst e'
    have hc : nI (i - 1) < nI i := nI_lt (by omega) (by omega)
    refine ⟨κ, ?_⟩
    rw [S160_20]
    by_cases hy : y = 0
    · simp only [S160_22, S160_23, S160_26, S160_27, S160_30, S160_31, S160_33, S160_34, S160_35, S160_36, S160_39, S160_40, S160_43, S160_44, S160_45, S160_47, S160_50, S160_52, S160_55, S160_57, S160_59, S160_60, S160_63, S160_64, S160_65, S160_67, S160_70, S160_71, S160_74, S160_75, S160_76, S160_79, S160_81, S160_83, S160_84, S160_87, S160_88, S160_91, S160_94, S160_97, S160_100, S160_102, S160_105, S160_107, S160_110, S160_112, Option.bind_some, Option.map_some, xpush_s, xpush_n, xcat_0, xcat_i, xcat_r, xcat_l, xcat_n, xcat_e, xir_r, Nat.reduceAdd, Nat.reduceLeDiff, Nat.zero_le, Nat.le_refl, ↓reduceIte, hc, if_pos hy]
    · simp only [S160_22, S160_23, S160_26, S160_27, S160_30, S160_31, S160_33, S160_34, S160_35, S160_36, S160_39, S160_40, S160_43, S160_44, S160_45, S160_47, S160_50, S160_52, S160_55, S160_57, S160_59, S160_60, S160_63, S160_64, S160_65, S160_67, S160_70, S160_71, S160_74, S160_75, S160_76, S160_79, S160_81, S160_83, S160_84, S160_87, S160_88, S160_91, S160_94, S160_97, S160_100, S160_102, S160_105, S160_107, S160_110, S160_112, Option.bind_some, Option.map_some, xpush_s, xpush_n, xcat_0, xcat_i, xcat_r, xcat_l, xcat_n, xcat_e, xir_r, Nat.reduceAdd, Nat.reduceLeDiff, Nat.zero_le, Nat.le_refl, ↓reduceIte, hc, if_neg hy]
  | u + 1, i, e, κ => by
    have hc : ¬ nI (C - 1) < nI i := nI_nlt (by omega) (by omega)
    have hw2 : wf (upd δ (20 + 4 * t + j) (nI i)) := by
      rcases hj with ⟨rfl, rfl⟩ | ⟨rfl, rfl⟩
      · exact wf_upd hw (okk_of (bnd_kind ht) ⟨i, by omega, rfl⟩)
      · exact wf_upd hw (okk_of (bnd_reach ht) ⟨i, by omega, rfl⟩)
    have hx := xix_n (show 20 + 4 * t + j < 60 by omega) (show 60 ≤ 100000 by decide)
    obtain ⟨κ1, e1⟩ := s_months (κ := κ) (s := s) (w := w) (H := Z) d (a := va_up a 3 δ) (δ := upd δ (20 + 4 * t + j) (nI i)) hk hw2 (by rw [up_n _ _ (show 7 ≠ 20 + 4 * t + j by omega)]; exact hq)
    have hD := (mw_months q k _ hw2).1
    obtain ⟨κ2, ih⟩ := m_bst_l d hw hq ht hk y hj f hf u (i + 1) (by omega) κ1
    refine ⟨κ2, ?_⟩
    have hfi := hf i
    rw [S160_20]
    by_cases hv : f i ≤ (bst f i).2
    · rw [bst_t hv] at ih
      rw [hfi] at hv
      simp only [S160_22, S160_23, S160_26, S160_27, S160_30, S160_31, S160_33, S160_34, S160_35, S160_36, S160_39, S160_40, S160_43, S160_44, S160_45, S160_47, S160_50, S160_52, S160_55, S160_57, S160_59, S160_60, S160_63, S160_64, S160_65, S160_67, S160_70, S160_71, S160_74, S160_75, S160_76, S160_79, S160_81, S160_83, S160_84, S160_87, S160_88, S160_91, S160_94, S160_97, S160_100, S160_102, S160_105, S160_107, S160_110, S160_112, Option.bind_some, Option.map_some, xpush_s, xpush_n, xcat_0, xcat_i, xcat_r, xcat_l, xcat_n, xcat_e, xir_r, Nat.reduceAdd, Nat.reduceLeDiff, Nat.zero_le, Nat.le_refl, ↓reduceIte, hc, Dcls, Dg, Dg3, Dr, Dw, hx, e1, ix_4, hv, m_cpb _ hD.z hw.z, nI_1]
      exact ih
    · rw [bst_f hv] at ih
      rw [hfi] at hv ih
      simp only [S160_22, S160_23, S160_26, S160_27, S160_30, S160_31, S160_33, S160_34, S160_35, S160_36, S160_39, S160_40, S160_43, S160_44, S160_45, S160_47, S160_50, S160_52, S160_55, S160_57, S160_59, S160_60, S160_63, S160_64, S160_65, S160_67, S160_70, S160_71, S160_74, S160_75, S160_76, S160_79, S160_81, S160_83, S160_84, S160_87, S160_88, S160_91, S160_94, S160_97, S160_100, S160_102, S160_105, S160_107, S160_110, S160_112, Option.bind_some, Option.map_some, xpush_s, xpush_n, xcat_0, xcat_i, xcat_r, xcat_l, xcat_n, xcat_e, xir_r, Nat.reduceAdd, Nat.reduceLeDiff, Nat.zero_le, Nat.le_refl, ↓reduceIte, hc, Dcls, Dg, Dg3, Dr, Dw, hx, e1, ix_4, hv, m_cpb _ hD.z hw.z, nI_1]
      exact ih
end INK
theorem k_ink (x y z : Int32) : CL 82 158 [.int x, .int y, .int z] := by
  intro d m h hI
  obtain ⟨δ, τ1, ε, τ2, ζ, τ3, κ, n, l, ke, op, sz, B, S, b, a, s, w, X, rfl, R⟩ := hI
  have hw := R.1
  have hmo := R.2.1
  have ha1 := R.2.2.1
  have hmd := fun Z => md_of (s := s) (w := w) (Z := Z) ha1
  have n1 : ¬ (1 : Int32) = 0 := by decide
  by_cases c1 : ix x (nn (δ 0))
  · skip
    by_cases c2 : bd y 60
    · skip
      by_cases c3 : bd z 99
      · skip
        have l1 := fun d ζ τ3 κ H => G_lk_t (τ1 := τ1) (ε := ε) (τ2 := τ2) (ζ := ζ) (τ3 := τ3) (κ := κ) (n := n) (l := l) (ke := ke) (op := op) (sz := sz) (B := B) (S := S) (b := b) (H := H) d hw c1
        have l2 := fun d κ Z => m_mk_t (a := a) (κ := κ) (s := s) (w := w) (H := Z) d hw c1
        have o2 := fun d h => ou_f d h (n := 60) (N := 60) rfl (by decide) c2
        have i2 := fun d h => in_t d h (n := 60) (N := 60) rfl (by decide) c2
        have o3 := fun d h => ou_f d h (n := 99) (N := 99) rfl (by decide) c3
        have i3 := fun d h => in_t d h (n := 99) (N := 99) rfl (by decide) c3
        obtain ⟨t, ht, rfl⟩ := c1
        have hm : t < 10 := by have := hw.eN.2; omega
        obtain ⟨k, hk, rfl⟩ := c2
        have hk' : k < 2 ^ 31 := by omega
        have eR := hw.eR hm
        obtain ⟨r, hr⟩ : ∃ r, nn (δ (20 + 4 * t + 2)) = r := ⟨_, rfl⟩
        rw [hr] at eR
        have hr12 : r < 12 := by omega
        obtain ⟨q, hq1, hq2⟩ := TXT_3 R
        have z3 : z60 (a 3) := R.2.2.2.2.2.2.2.2.2.2.1
        obtain ⟨ζ2, τ9, κ1, e1⟩ := c_ink_l (l := l) (ke := ke) (op := op) (sz := sz) (S := S) (w := w) R (d + 194) hq1 hm hk' hr12 z (fun i => decide (¬ z < sMonths q k (upd δ (20 + 4 * t + 1) (nI i)) (8 + r))) (fun i => rfl) 100 0 rfl ζ τ3 κ
        obtain ⟨κ2, e2⟩ := m_ink_lp (s := s) (w := w) (Z := cG δ τ1 ε τ2 ζ2 τ9 κ1 n l ke op sz B S b X) (d + 193) hw hq2 hm hk' hr12 z (fun i => decide (¬ z < sMonths q k (upd δ (20 + 4 * t + 1) (nI i)) (8 + r))) (fun i => rfl) 100 (by omega) (a 9)
        refine combT (fI (fun i => decide (¬ z < sMonths q k (upd δ (20 + 4 * t + 1) (nI i)) (8 + r))) 100 0) ζ2 τ9 κ1 κ2 R ?_ ?_
        · rw [E82]
          simp only [S82_0, S82_1, S82_4, S82_5, S82_8, S82_11, S82_12, S82_13, S82_15, S82_18, S82_21, S82_22, S82_23, S82_25, S82_28, S82_31, S82_33, S82_34, S82_35, S82_38, S82_41, S82_42, S82_43, S82_45, S82_46, Option.bind_some, Option.map_some, xpush_s, xpush_n, xcat_0, xcat_i, xcat_r, xcat_l, xcat_n, xcat_e, xir_r, Nat.reduceAdd, Nat.reduceLeDiff, Nat.zero_le, Nat.le_refl, ↓reduceIte, C_0, N_cls, l1, o2, o3, N_g4, N_m2 hm, eR.1]
          exact e1
        · rw [E158]
          simp only [S158_0, S158_1, S158_2, S158_5, S158_8, S158_9, S158_10, S158_11, S158_14, S158_17, S158_20, S158_21, S158_22, S158_23, S158_26, S158_29, S158_32, S158_34, S158_35, S158_36, S158_39, S158_40, S158_43, S158_46, S158_48, S158_49, S158_50, S158_51, S158_54, S158_55, S158_57, S158_59, S158_61, S158_63, Option.bind_some, Option.map_some, xpush_s, xpush_n, xcat_0, xcat_i, xcat_r, xcat_l, xcat_n, xcat_e, xir_r, Nat.reduceAdd, Nat.reduceLeDiff, Nat.zero_le, Nat.le_refl, ↓reduceIte, Dcls, Dg, Dg3, n1, l2, i2, i3, m_cpi3 _ hw.z z3, s_of2 _ hm, eR.1, ix8]
          exact e2
      · refine comb0 (v := -1000000001) R ?_ ?_
        · rw [E82]
          simp only [S82_0, S82_1, S82_4, S82_5, S82_8, S82_11, S82_12, S82_13, S82_15, S82_18, S82_21, S82_22, S82_23, S82_25, S82_28, S82_31, S82_33, S82_34, S82_35, S82_38, S82_41, S82_42, S82_43, S82_45, S82_46, S82_48, S82_50, S82_52, S82_55, S82_56, S82_59, S82_60, S82_63, S82_66, S82_67, S82_70, S82_73, S82_74, S82_76, S82_77, S82_78, S82_81, S82_82, S82_85, S82_86, S82_89, S82_92, S82_94, S82_95, S82_96, S82_99, S82_101, S82_102, S82_105, S82_108, S82_110, Option.bind_some, Option.map_some, xpush_s, xpush_n, xcat_0, xcat_i, xcat_r, xcat_l, xcat_n, xcat_e, xir_r, Nat.reduceAdd, Nat.reduceLeDiff, Nat.zero_le, Nat.le_refl, ↓reduceIte, C_0, C_6, N_cls, n1, G_lk_t _ hw c1, ou_f _ _ (n := 60) (N := 60) rfl (by decide) c2, ou_t _ _ (n := 99) (N := 99) rfl (by decide) c3]
        · rw [hmd, E158]
          simp only [S158_0, S158_1, S158_2, S158_5, S158_8, S158_9, S158_10, S158_11, S158_14, S158_17, S158_20, S158_21, S158_22, S158_23, S158_26, S158_29, S158_32, S158_34, S158_35, S158_36, S158_39, S158_40, S158_43, S158_46, S158_48, S158_49, S158_50, S158_51, S158_54, S158_55, S158_57, S158_59, S158_61, S158_63, S158_65, S158_67, S158_70, S158_71, S158_72, S158_73, S158_75, S158_78, S158_79, S158_80, S158_83, S158_84, S158_87, S158_89, S158_90, S158_91, S158_94, S158_96, S158_99, S158_101, S158_103, S158_104, S158_107, S158_108, S158_111, S158_114, S158_117, S158_120, S158_122, Option.bind_some, Option.map_some, xpush_s, xpush_n, xcat_0, xcat_i, xcat_r, xcat_l, xcat_n, xcat_e, xir_r, Nat.reduceAdd, Nat.reduceLeDiff, Nat.zero_le, Nat.le_refl, ↓reduceIte, Dcls, n1, m_mk_t _ hw c1, in_t _ _ (n := 60) (N := 60) rfl (by decide) c2, in_f _ _ (n := 99) (N := 99) rfl (by decide) c3]
    · refine comb0 (v := -1000000001) R ?_ ?_
      · rw [E82]
        simp only [S82_0, S82_1, S82_4, S82_5, S82_8, S82_11, S82_12, S82_13, S82_15, S82_18, S82_21, S82_22, S82_23, S82_25, S82_28, S82_31, S82_33, S82_34, S82_35, S82_38, S82_41, S82_42, S82_43, S82_45, S82_46, S82_48, S82_50, S82_52, S82_55, S82_56, S82_59, S82_60, S82_63, S82_66, S82_67, S82_70, S82_73, S82_74, S82_76, S82_77, S82_78, S82_81, S82_82, S82_85, S82_86, S82_89, S82_92, S82_94, S82_95, S82_96, S82_99, S82_101, S82_102, S82_105, S82_108, S82_110, Option.bind_some, Option.map_some, xpush_s, xpush_n, xcat_0, xcat_i, xcat_r, xcat_l, xcat_n, xcat_e, xir_r, Nat.reduceAdd, Nat.reduceLeDiff, Nat.zero_le, Nat.le_refl, ↓reduceIte, C_0, C_6, N_cls, n1, G_lk_t _ hw c1, ou_t _ _ (n := 60) (N := 60) rfl (by decide) c2]
      · rw [hmd, E158]
        simp only [S158_0, S158_1, S158_2, S158_5, S158_8, S158_9, S158_10, S158_11, S158_14, S158_17, S158_20, S158_21, S158_22, S158_23, S158_26, S158_29, S158_32, S158_34, S158_35, S158_36, S158_39, S158_40, S158_43, S158_46, S158_48, S158_49, S158_50, S158_51, S158_54, S158_55, S158_57, S158_59, S158_61, S158_63, S158_65, S158_67, S158_70, S158_71, S158_72, S158_73, S158_75, S158_78, S158_79, S158_80, S158_83, S158_84, S158_87, S158_89, S158_90, S158_91, S158_94, S158_96, S158_99, S158_101, S158_103, S158_104, S158_107, S158_108, S158_111, S158_114, S158_117, S158_120, S158_122, Option.bind_some, Option.map_some, xpush_s, xpush_n, xcat_0, xcat_i, xcat_r, xcat_l, xcat_n, xcat_e, xir_r, Nat.reduceAdd, Nat.reduceLeDiff, Nat.zero_le, Nat.le_refl, ↓reduceIte, Dcls, n1, m_mk_t _ hw c1, in_f _ _ (n := 60) (N := 60) rfl (by decide) c2]
  · refine comb0 (v := -1000000001) R ?_ ?_
    · rw [E82]
      simp only [S82_0, S82_1, S82_4, S82_5, S82_8, S82_11, S82_12, S82_13, S82_15, S82_18, S82_21, S82_22, S82_23, S82_25, S82_28, S82_31, S82_33, S82_34, S82_35, S82_38, S82_41, S82_42, S82_43, S82_45, S82_46, S82_48, S82_50, S82_52, S82_55, S82_56, S82_59, S82_60, S82_63, S82_66, S82_67, S82_70, S82_73, S82_74, S82_76, S82_77, S82_78, S82_81, S82_82, S82_85, S82_86, S82_89, S82_92, S82_94, S82_95, S82_96, S82_99, S82_101, S82_102, S82_105, S82_108, S82_110, Option.bind_some, Option.map_some, xpush_s, xpush_n, xcat_0, xcat_i, xcat_r, xcat_l, xcat_n, xcat_e, xir_r, Nat.reduceAdd, Nat.reduceLeDiff, Nat.zero_le, Nat.le_refl, ↓reduceIte, C_0, C_6, N_cls, n1, G_lk_f _ hw c1]
    · rw [hmd, E158]
      simp only [S158_0, S158_1, S158_2, S158_5, S158_8, S158_9, S158_10, S158_11, S158_14, S158_17, S158_20, S158_21, S158_22, S158_23, S158_26, S158_29, S158_32, S158_34, S158_35, S158_36, S158_39, S158_40, S158_43, S158_46, S158_48, S158_49, S158_50, S158_51, S158_54, S158_55, S158_57, S158_59, S158_61, S158_63, S158_65, S158_67, S158_70, S158_71, S158_72, S158_73, S158_75, S158_78, S158_79, S158_80, S158_83, S158_84, S158_87, S158_89, S158_90, S158_91, S158_94, S158_96, S158_99, S158_101, S158_103, S158_104, S158_107, S158_108, S158_111, S158_114, S158_117, S158_120, S158_122, Option.bind_some, Option.map_some, xpush_s, xpush_n, xcat_0, xcat_i, xcat_r, xcat_l, xcat_n, xcat_e, xir_r, Nat.reduceAdd, Nat.reduceLeDiff, Nat.zero_le, Nat.le_refl, ↓reduceIte, Dcls, n1, m_mk_f _ hw c1]

theorem k_place (x y z : Int32) : CL 83 159 [.int x, .int y, .int z] := by
  intro d m h hI
  obtain ⟨δ, τ1, ε, τ2, ζ, τ3, κ, n, l, ke, op, sz, B, S, b, a, s, w, X, rfl, R⟩ := hI
  have hw := R.1
  have hmo := R.2.1
  have ha1 := R.2.2.1
  have hmd := fun Z => md_of (s := s) (w := w) (Z := Z) ha1
  have n1 : ¬ (1 : Int32) = 0 := by decide
  by_cases c1 : ix x (nn (δ 0))
  · skip
    by_cases c2 : bd1 y 60
    · skip
      by_cases c3 : bd z 1
      · skip
        have l1 := fun d ζ τ3 κ H => G_lk_t (τ1 := τ1) (ε := ε) (τ2 := τ2) (ζ := ζ) (τ3 := τ3) (κ := κ) (n := n) (l := l) (ke := ke) (op := op) (sz := sz) (B := B) (S := S) (b := b) (H := H) d hw c1
        have l2 := fun d κ Z => m_mk_t (a := a) (κ := κ) (s := s) (w := w) (H := Z) d hw c1
        have o2 := fun d h => ou1_f d h (n := 60) (N := 60) rfl (by decide) c2
        have i2 := fun d h => in1_t d h (n := 60) (N := 60) rfl (by decide) c2
        have o3 := fun d h => ou_f d h (n := 1) (N := 1) rfl (by decide) c3
        have i3 := fun d h => in_t d h (n := 1) (N := 1) rfl (by decide) c3
        obtain ⟨t, ht, rfl⟩ := c1
        have hm : t < 10 := by have := hw.eN.2; omega
        obtain ⟨k, hk1, hk, rfl⟩ := c2
        have hk' : k < 2 ^ 31 := by omega
        obtain ⟨q, hq1, hq2⟩ := TXT_3 R
        have z3 : z60 (a 3) := R.2.2.2.2.2.2.2.2.2.2.1
        have hjC : (2 = 0 ∧ 12 = 6) ∨ (2 = 2 ∧ 12 = 12) := by decide
        obtain ⟨ζ2, τ9, κ1, e1⟩ := c_bst_l (l := l) (ke := ke) (op := op) (sz := sz) (S := S) (w := w) R (d + 193) hq1 (t := t) (k := k) (j := 2) (C := 12) hm hk' (by decide) z hjC (fun i => sMonths q k (upd δ (20 + 4 * t + 2) (nI i)) 4) (fun i => rfl) 12 0 rfl ζ τ3 κ
        obtain ⟨κ2, e2⟩ := m_bst_l (s := s) (w := w) (Z := cG δ τ1 ε τ2 ζ2 τ9 κ1 n l ke op sz B S b X) (d + 192) hw hq2 (t := t) (k := k) (j := 2) (C := 12) hm hk' z hjC (fun i => sMonths q k (upd δ (20 + 4 * t + 2) (nI i)) 4) (fun i => rfl) 12 0 rfl (a 9)
        have e1' : Ev (d + 199) 84 [.ref 0, .ref 23, .int (nI t), .int 12, .int (nI k), .int z] (cG δ τ1 ε τ2 ζ τ3 κ n l ke op sz B S b (mh a s w X)) = some (some (.int (if z = 0 then (bst (fun i => sMonths q k (upd δ (20 + 4 * t + 2) (nI i)) 4) 12).1 else (bst (fun i => sMonths q k (upd δ (20 + 4 * t + 2) (nI i)) 4) 12).2)), cG δ τ1 ε τ2 ζ2 τ9 κ1 n l ke op sz B S b (mh a s w X)) := by
          rw [E84]
          simp only [S84_0, S84_1, S84_3, S84_4, S84_6, S84_7]
          exact e1
        have e2' : Ev (d + 199) 160 [.ref 58, .int (nI (20 + 4 * t + 2)), .int 11, .int (nI k), .int z] (md a δ (a 9) s w (cG δ τ1 ε τ2 ζ2 τ9 κ1 n l ke op sz B S b X)) = some (some (.int (if z = 0 then (bst (fun i => sMonths q k (upd δ (20 + 4 * t + 2) (nI i)) 4) 12).1 else (bst (fun i => sMonths q k (upd δ (20 + 4 * t + 2) (nI i)) 4) 12).2)), md (va_up a 3 δ) δ κ2 s w (cG δ τ1 ε τ2 ζ2 τ9 κ1 n l ke op sz B S b X)) := by
          rw [E160]
          simp only [S160_0, S160_1, S160_4, S160_5, S160_8, S160_11, S160_12, S160_14, S160_15, S160_17, S160_18, Option.bind_some, Option.map_some, xpush_s, xpush_n, xcat_0, xcat_i, xcat_r, xcat_l, xcat_n, xcat_e, xir_r, Nat.reduceAdd, Nat.reduceLeDiff, Nat.zero_le, Nat.le_refl, ↓reduceIte, Dg, Dg3, m_cpi3 _ hw.z z3]
          exact e2
        refine combT (if z = 0 then (bst (fun i => sMonths q k (upd δ (20 + 4 * t + 2) (nI i)) 4) 12).1 else (bst (fun i => sMonths q k (upd δ (20 + 4 * t + 2) (nI i)) 4) 12).2) ζ2 τ9 κ1 κ2 R ?_ ?_
        · rw [E83]
          simp only [S83_0, S83_1, S83_4, S83_5, S83_8, S83_11, S83_12, S83_13, S83_15, S83_18, S83_21, S83_22, S83_23, S83_24, S83_27, S83_30, S83_32, S83_33, S83_34, S83_35, S83_38, S83_41, S83_42, S83_44, S83_45, S83_46, S83_49, Option.bind_some, Option.map_some, xpush_s, xpush_n, xcat_0, xcat_i, xcat_r, xcat_l, xcat_n, xcat_e, xir_r, Nat.reduceAdd, Nat.reduceLeDiff, Nat.zero_le, Nat.le_refl, ↓reduceIte, C_cls, C_0, C_2, N_cls, l1, o2, o3, Q_g4, e1']
        · rw [E159]
          simp only [S159_0, S159_1, S159_2, S159_5, S159_8, S159_9, S159_10, S159_11, S159_14, S159_17, S159_20, S159_21, S159_22, S159_23, S159_24, S159_27, S159_30, S159_31, S159_33, S159_34, S159_35, S159_36, S159_37, S159_38, S159_39, S159_41, S159_42, S159_43, S159_46, S159_49, S159_51, Option.bind_some, Option.map_some, xpush_s, xpush_n, xcat_0, xcat_i, xcat_r, xcat_l, xcat_n, xcat_e, xir_r, Nat.reduceAdd, Nat.reduceLeDiff, Nat.zero_le, Nat.le_refl, ↓reduceIte, Dcls, n1, l2, i2, i3, show (20 : Int32) + 4 * nI t + 2 = nI (20 + 4 * t + 2) from ix4 t 2, e2']
      · refine comb0 (v := -1000000001) R ?_ ?_
        · rw [E83]
          simp only [S83_0, S83_1, S83_4, S83_5, S83_8, S83_11, S83_12, S83_13, S83_15, S83_18, S83_21, S83_22, S83_23, S83_24, S83_27, S83_30, S83_32, S83_33, S83_34, S83_35, S83_38, S83_41, S83_42, S83_44, S83_45, S83_46, S83_49, Option.bind_some, Option.map_some, xpush_s, xpush_n, xcat_0, xcat_i, xcat_r, xcat_l, xcat_n, xcat_e, xir_r, Nat.reduceAdd, Nat.reduceLeDiff, Nat.zero_le, Nat.le_refl, ↓reduceIte, C_0, C_6, N_cls, n1, G_lk_t _ hw c1, ou1_f _ _ (n := 60) (N := 60) rfl (by decide) c2, ou_t _ _ (n := 1) (N := 1) rfl (by decide) c3]
        · rw [hmd, E159]
          simp only [S159_0, S159_1, S159_2, S159_5, S159_8, S159_9, S159_10, S159_11, S159_14, S159_17, S159_20, S159_21, S159_22, S159_23, S159_24, S159_27, S159_30, S159_31, S159_33, S159_34, S159_35, S159_36, S159_37, S159_38, S159_39, S159_41, S159_42, S159_43, S159_46, S159_49, S159_51, Option.bind_some, Option.map_some, xpush_s, xpush_n, xcat_0, xcat_i, xcat_r, xcat_l, xcat_n, xcat_e, xir_r, Nat.reduceAdd, Nat.reduceLeDiff, Nat.zero_le, Nat.le_refl, ↓reduceIte, Dcls, n1, m_mk_t _ hw c1, in1_t _ _ (n := 60) (N := 60) rfl (by decide) c2, in_f _ _ (n := 1) (N := 1) rfl (by decide) c3]
    · refine comb0 (v := -1000000001) R ?_ ?_
      · rw [E83]
        simp only [S83_0, S83_1, S83_4, S83_5, S83_8, S83_11, S83_12, S83_13, S83_15, S83_18, S83_21, S83_22, S83_23, S83_24, S83_27, S83_30, S83_32, S83_33, S83_34, S83_35, S83_38, S83_41, S83_42, S83_44, S83_45, S83_46, S83_49, Option.bind_some, Option.map_some, xpush_s, xpush_n, xcat_0, xcat_i, xcat_r, xcat_l, xcat_n, xcat_e, xir_r, Nat.reduceAdd, Nat.reduceLeDiff, Nat.zero_le, Nat.le_refl, ↓reduceIte, C_0, C_6, N_cls, n1, G_lk_t _ hw c1, ou1_t _ _ (n := 60) (N := 60) rfl (by decide) c2]
      · rw [hmd, E159]
        simp only [S159_0, S159_1, S159_2, S159_5, S159_8, S159_9, S159_10, S159_11, S159_14, S159_17, S159_20, S159_21, S159_22, S159_23, S159_24, S159_27, S159_30, S159_31, S159_33, S159_34, S159_35, S159_36, S159_37, S159_38, S159_39, S159_41, S159_42, S159_43, S159_46, S159_49, S159_51, Option.bind_some, Option.map_some, xpush_s, xpush_n, xcat_0, xcat_i, xcat_r, xcat_l, xcat_n, xcat_e, xir_r, Nat.reduceAdd, Nat.reduceLeDiff, Nat.zero_le, Nat.le_refl, ↓reduceIte, Dcls, n1, m_mk_t _ hw c1, in1_f _ _ (n := 60) (N := 60) rfl (by decide) c2]
  · refine comb0 (v := -1000000001) R ?_ ?_
    · rw [E83]
      simp only [S83_0, S83_1, S83_4, S83_5, S83_8, S83_11, S83_12, S83_13, S83_15, S83_18, S83_21, S83_22, S83_23, S83_24, S83_27, S83_30, S83_32, S83_33, S83_34, S83_35, S83_38, S83_41, S83_42, S83_44, S83_45, S83_46, S83_49, Option.bind_some, Option.map_some, xpush_s, xpush_n, xcat_0, xcat_i, xcat_r, xcat_l, xcat_n, xcat_e, xir_r, Nat.reduceAdd, Nat.reduceLeDiff, Nat.zero_le, Nat.le_refl, ↓reduceIte, C_0, C_6, N_cls, n1, G_lk_f _ hw c1]
    · rw [hmd, E159]
      simp only [S159_0, S159_1, S159_2, S159_5, S159_8, S159_9, S159_10, S159_11, S159_14, S159_17, S159_20, S159_21, S159_22, S159_23, S159_24, S159_27, S159_30, S159_31, S159_33, S159_34, S159_35, S159_36, S159_37, S159_38, S159_39, S159_41, S159_42, S159_43, S159_46, S159_49, S159_51, Option.bind_some, Option.map_some, xpush_s, xpush_n, xcat_0, xcat_i, xcat_r, xcat_l, xcat_n, xcat_e, xir_r, Nat.reduceAdd, Nat.reduceLeDiff, Nat.zero_le, Nat.le_refl, ↓reduceIte, Dcls, n1, m_mk_f _ hw c1]

theorem k_becomes (x y z : Int32) : CL 85 161 [.int x, .int y, .int z] := by
  intro d m h hI
  obtain ⟨δ, τ1, ε, τ2, ζ, τ3, κ, n, l, ke, op, sz, B, S, b, a, s, w, X, rfl, R⟩ := hI
  have hw := R.1
  have hmo := R.2.1
  have ha1 := R.2.2.1
  have hmd := fun Z => md_of (s := s) (w := w) (Z := Z) ha1
  have n1 : ¬ (1 : Int32) = 0 := by decide
  by_cases c1 : ix x (nn (δ 0))
  · skip
    by_cases c2 : bd1 y 60
    · skip
      by_cases c3 : bd z 1
      · skip
        have l1 := fun d ζ τ3 κ H => G_lk_t (τ1 := τ1) (ε := ε) (τ2 := τ2) (ζ := ζ) (τ3 := τ3) (κ := κ) (n := n) (l := l) (ke := ke) (op := op) (sz := sz) (B := B) (S := S) (b := b) (H := H) d hw c1
        have l2 := fun d κ Z => m_mk_t (a := a) (κ := κ) (s := s) (w := w) (H := Z) d hw c1
        have o2 := fun d h => ou1_f d h (n := 60) (N := 60) rfl (by decide) c2
        have i2 := fun d h => in1_t d h (n := 60) (N := 60) rfl (by decide) c2
        have o3 := fun d h => ou_f d h (n := 1) (N := 1) rfl (by decide) c3
        have i3 := fun d h => in_t d h (n := 1) (N := 1) rfl (by decide) c3
        obtain ⟨t, ht, rfl⟩ := c1
        have hm : t < 10 := by have := hw.eN.2; omega
        obtain ⟨k, hk1, hk, rfl⟩ := c2
        have hk' : k < 2 ^ 31 := by omega
        obtain ⟨q, hq1, hq2⟩ := TXT_3 R
        have z3 : z60 (a 3) := R.2.2.2.2.2.2.2.2.2.2.1
        have hjC : (0 = 0 ∧ 6 = 6) ∨ (0 = 2 ∧ 6 = 12) := by decide
        obtain ⟨ζ2, τ9, κ1, e1⟩ := c_bst_l (l := l) (ke := ke) (op := op) (sz := sz) (S := S) (w := w) R (d + 193) hq1 (t := t) (k := k) (j := 0) (C := 6) hm hk' (by decide) z hjC (fun i => sMonths q k (upd δ (20 + 4 * t + 0) (nI i)) 4) (fun i => rfl) 6 0 rfl ζ τ3 κ
        obtain ⟨κ2, e2⟩ := m_bst_l (s := s) (w := w) (Z := cG δ τ1 ε τ2 ζ2 τ9 κ1 n l ke op sz B S b X) (d + 192) hw hq2 (t := t) (k := k) (j := 0) (C := 6) hm hk' z hjC (fun i => sMonths q k (upd δ (20 + 4 * t + 0) (nI i)) 4) (fun i => rfl) 6 0 rfl (a 9)
        have e1' : Ev (d + 199) 84 [.ref 0, .ref 21, .int (nI t), .int 6, .int (nI k), .int z] (cG δ τ1 ε τ2 ζ τ3 κ n l ke op sz B S b (mh a s w X)) = some (some (.int (if z = 0 then (bst (fun i => sMonths q k (upd δ (20 + 4 * t + 0) (nI i)) 4) 6).1 else (bst (fun i => sMonths q k (upd δ (20 + 4 * t + 0) (nI i)) 4) 6).2)), cG δ τ1 ε τ2 ζ2 τ9 κ1 n l ke op sz B S b (mh a s w X)) := by
          rw [E84]
          simp only [S84_0, S84_1, S84_3, S84_4, S84_6, S84_7]
          exact e1
        have e2' : Ev (d + 199) 160 [.ref 58, .int (nI (20 + 4 * t + 0)), .int 5, .int (nI k), .int z] (md a δ (a 9) s w (cG δ τ1 ε τ2 ζ2 τ9 κ1 n l ke op sz B S b X)) = some (some (.int (if z = 0 then (bst (fun i => sMonths q k (upd δ (20 + 4 * t + 0) (nI i)) 4) 6).1 else (bst (fun i => sMonths q k (upd δ (20 + 4 * t + 0) (nI i)) 4) 6).2)), md (va_up a 3 δ) δ κ2 s w (cG δ τ1 ε τ2 ζ2 τ9 κ1 n l ke op sz B S b X)) := by
          rw [E160]
          simp only [S160_0, S160_1, S160_4, S160_5, S160_8, S160_11, S160_12, S160_14, S160_15, S160_17, S160_18, Option.bind_some, Option.map_some, xpush_s, xpush_n, xcat_0, xcat_i, xcat_r, xcat_l, xcat_n, xcat_e, xir_r, Nat.reduceAdd, Nat.reduceLeDiff, Nat.zero_le, Nat.le_refl, ↓reduceIte, Dg, Dg3, m_cpi3 _ hw.z z3]
          exact e2
        refine combT (if z = 0 then (bst (fun i => sMonths q k (upd δ (20 + 4 * t + 0) (nI i)) 4) 6).1 else (bst (fun i => sMonths q k (upd δ (20 + 4 * t + 0) (nI i)) 4) 6).2) ζ2 τ9 κ1 κ2 R ?_ ?_
        · rw [E85]
          simp only [S85_0, S85_1, S85_4, S85_5, S85_8, S85_11, S85_12, S85_13, S85_15, S85_18, S85_21, S85_22, S85_23, S85_24, S85_27, S85_30, S85_32, S85_33, S85_34, S85_35, S85_38, S85_41, S85_42, S85_44, S85_45, S85_46, S85_49, Option.bind_some, Option.map_some, xpush_s, xpush_n, xcat_0, xcat_i, xcat_r, xcat_l, xcat_n, xcat_e, xir_r, Nat.reduceAdd, Nat.reduceLeDiff, Nat.zero_le, Nat.le_refl, ↓reduceIte, C_cls, C_0, C_2, N_cls, l1, o2, o3, Q_g2, e1']
        · rw [E161]
          simp only [S161_0, S161_1, S161_2, S161_5, S161_8, S161_9, S161_10, S161_11, S161_14, S161_17, S161_20, S161_21, S161_22, S161_23, S161_24, S161_27, S161_30, S161_31, S161_33, S161_34, S161_35, S161_36, S161_37, S161_38, S161_39, S161_40, S161_43, S161_46, S161_48, Option.bind_some, Option.map_some, xpush_s, xpush_n, xcat_0, xcat_i, xcat_r, xcat_l, xcat_n, xcat_e, xir_r, Nat.reduceAdd, Nat.reduceLeDiff, Nat.zero_le, Nat.le_refl, ↓reduceIte, Dcls, n1, l2, i2, i3, show (20 : Int32) + 4 * nI t = nI (20 + 4 * t + 0) from ix40 t, e2']
      · refine comb0 (v := -1000000001) R ?_ ?_
        · rw [E85]
          simp only [S85_0, S85_1, S85_4, S85_5, S85_8, S85_11, S85_12, S85_13, S85_15, S85_18, S85_21, S85_22, S85_23, S85_24, S85_27, S85_30, S85_32, S85_33, S85_34, S85_35, S85_38, S85_41, S85_42, S85_44, S85_45, S85_46, S85_49, Option.bind_some, Option.map_some, xpush_s, xpush_n, xcat_0, xcat_i, xcat_r, xcat_l, xcat_n, xcat_e, xir_r, Nat.reduceAdd, Nat.reduceLeDiff, Nat.zero_le, Nat.le_refl, ↓reduceIte, C_0, C_6, N_cls, n1, G_lk_t _ hw c1, ou1_f _ _ (n := 60) (N := 60) rfl (by decide) c2, ou_t _ _ (n := 1) (N := 1) rfl (by decide) c3]
        · rw [hmd, E161]
          simp only [S161_0, S161_1, S161_2, S161_5, S161_8, S161_9, S161_10, S161_11, S161_14, S161_17, S161_20, S161_21, S161_22, S161_23, S161_24, S161_27, S161_30, S161_31, S161_33, S161_34, S161_35, S161_36, S161_37, S161_38, S161_39, S161_40, S161_43, S161_46, S161_48, Option.bind_some, Option.map_some, xpush_s, xpush_n, xcat_0, xcat_i, xcat_r, xcat_l, xcat_n, xcat_e, xir_r, Nat.reduceAdd, Nat.reduceLeDiff, Nat.zero_le, Nat.le_refl, ↓reduceIte, Dcls, n1, m_mk_t _ hw c1, in1_t _ _ (n := 60) (N := 60) rfl (by decide) c2, in_f _ _ (n := 1) (N := 1) rfl (by decide) c3]
    · refine comb0 (v := -1000000001) R ?_ ?_
      · rw [E85]
        simp only [S85_0, S85_1, S85_4, S85_5, S85_8, S85_11, S85_12, S85_13, S85_15, S85_18, S85_21, S85_22, S85_23, S85_24, S85_27, S85_30, S85_32, S85_33, S85_34, S85_35, S85_38, S85_41, S85_42, S85_44, S85_45, S85_46, S85_49, Option.bind_some, Option.map_some, xpush_s, xpush_n, xcat_0, xcat_i, xcat_r, xcat_l, xcat_n, xcat_e, xir_r, Nat.reduceAdd, Nat.reduceLeDiff, Nat.zero_le, Nat.le_refl, ↓reduceIte, C_0, C_6, N_cls, n1, G_lk_t _ hw c1, ou1_t _ _ (n := 60) (N := 60) rfl (by decide) c2]
      · rw [hmd, E161]
        simp only [S161_0, S161_1, S161_2, S161_5, S161_8, S161_9, S161_10, S161_11, S161_14, S161_17, S161_20, S161_21, S161_22, S161_23, S161_24, S161_27, S161_30, S161_31, S161_33, S161_34, S161_35, S161_36, S161_37, S161_38, S161_39, S161_40, S161_43, S161_46, S161_48, Option.bind_some, Option.map_some, xpush_s, xpush_n, xcat_0, xcat_i, xcat_r, xcat_l, xcat_n, xcat_e, xir_r, Nat.reduceAdd, Nat.reduceLeDiff, Nat.zero_le, Nat.le_refl, ↓reduceIte, Dcls, n1, m_mk_t _ hw c1, in1_f _ _ (n := 60) (N := 60) rfl (by decide) c2]
  · refine comb0 (v := -1000000001) R ?_ ?_
    · rw [E85]
      simp only [S85_0, S85_1, S85_4, S85_5, S85_8, S85_11, S85_12, S85_13, S85_15, S85_18, S85_21, S85_22, S85_23, S85_24, S85_27, S85_30, S85_32, S85_33, S85_34, S85_35, S85_38, S85_41, S85_42, S85_44, S85_45, S85_46, S85_49, Option.bind_some, Option.map_some, xpush_s, xpush_n, xcat_0, xcat_i, xcat_r, xcat_l, xcat_n, xcat_e, xir_r, Nat.reduceAdd, Nat.reduceLeDiff, Nat.zero_le, Nat.le_refl, ↓reduceIte, C_0, C_6, N_cls, n1, G_lk_f _ hw c1]
    · rw [hmd, E161]
      simp only [S161_0, S161_1, S161_2, S161_5, S161_8, S161_9, S161_10, S161_11, S161_14, S161_17, S161_20, S161_21, S161_22, S161_23, S161_24, S161_27, S161_30, S161_31, S161_33, S161_34, S161_35, S161_36, S161_37, S161_38, S161_39, S161_40, S161_43, S161_46, S161_48, Option.bind_some, Option.map_some, xpush_s, xpush_n, xcat_0, xcat_i, xcat_r, xcat_l, xcat_n, xcat_e, xir_r, Nat.reduceAdd, Nat.reduceLeDiff, Nat.zero_le, Nat.le_refl, ↓reduceIte, Dcls, n1, m_mk_f _ hw c1]

