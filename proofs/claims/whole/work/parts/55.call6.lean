/-! part 55, by program (wip/whole/gen/calls6.py): calls, sixth lot: sheets -/
def so (y : Int32) : Prop := y = -1 ∨ y = 0 ∨ y = 1
theorem so_in (y : Int32) : (-1 ≤ y ∧ y ≤ 1) ↔ so y := by
  constructor
  · rintro ⟨h1, h2⟩
    have h1 := Int32.le_iff_toInt_le.mp h1
    have h2 := Int32.le_iff_toInt_le.mp h2
    rw [show (-1 : Int32).toInt = -1 from rfl] at h1
    rw [show (1 : Int32).toInt = 1 from rfl] at h2
    rcases (show y.toInt = -1 ∨ y.toInt = 0 ∨ y.toInt = 1 by omega) with e | e | e
    · exact Or.inl (Int32.toInt_inj.mp e)
    · exact Or.inr (Or.inl (Int32.toInt_inj.mp e))
    · exact Or.inr (Or.inr (Int32.toInt_inj.mp e))
  · rintro (rfl | rfl | rfl) <;> decide
theorem so_out (y : Int32) : (y < -1 ∨ 1 < y) ↔ ¬ so y := by
  rw [← so_in]
  constructor
  · rintro (h | h) ⟨h1, h2⟩
    · exact Int32.not_le.mpr h h1
    · exact Int32.not_le.mpr h h2
  · intro h
    by_cases h1 : -1 ≤ y
    · exact Or.inr (Int32.not_le.mp (fun q => h ⟨h1, q⟩))
    · exact Or.inl (Int32.not_le.mp h1)
theorem fl_0 (y : Int32) : vp_nar .boolean 1 = 1 := rfl
theorem bz0 : bi ((0 : Int32) = -1) = 0 := rfl
theorem bz1 : bi ((1 : Int32) = -1) = 0 := rfl
theorem nb_1 : vp_nar .boolean 1 = 1 := rfl
theorem nb_0 : vp_nar .boolean 0 = 0 := rfl
/-- k places of sheet i alike -/
def fl2 (f : Nat → Int32) (x : Int32) (i k : Nat) : Nat → Int32 := fun j => if 24 * i ≤ j ∧ j < 24 * i + k then x else f j
theorem fl2_0 (f : Nat → Int32) (x : Int32) (i : Nat) : fl2 f x i 0 = f := by
  funext j
  unfold fl2
  rw [if_neg (by omega)]
theorem fl2_s (f : Nat → Int32) (x : Int32) (i k : Nat) : upd (fl2 f x i k) (24 * i + k) x = fl2 f x i (k + 1) := by
  funext j
  unfold upd fl2
  by_cases h : j = 24 * i + k
  · rw [if_pos h, if_pos (by omega)]
  · rw [if_neg h]
    by_cases h2 : 24 * i ≤ j ∧ j < 24 * i + k
    · rw [if_pos h2, if_pos (by omega)]
    · rw [if_neg h2, if_neg (by omega)]
theorem m_shl (ev : xe) {a : Nat → Nat → Int32} {s : Nat → Int32} {w : Int64} {Z : xh} {i : Nat} (hi : i < 4) (y z : Int32) : ∀ u k, k + u = 24 → RF 184 ev 69 [some (.ref 58), some (.int (nI i)), some (.int y), some (.int z), some (.int (nI k))] [] (mh (va_up (va_up a 14 (fl2 (a 14) 0 i k)) 15 (fl2 (a 15) 1 i k)) s w Z) = RF 184 ev 108 [some (.ref 58), some (.int (nI i)), some (.int y), some (.int z), some (.int (nI 24))] [] (mh (va_up (va_up a 14 (fl2 (a 14) 0 i 24)) 15 (fl2 (a 15) 1 i 24)) s w Z)
  | 0, k, e => by
    have e' : k = 24 := by omega
    subst e'
    rw [S184_69]
    simp only [S184_71, S184_73, S184_76, S184_77, S184_80, S184_82, S184_83, S184_84, S184_86, S184_87, S184_88, S184_89, S184_90, S184_93, S184_95, S184_96, S184_97, S184_99, S184_100, S184_101, S184_102, S184_105, Option.bind_some, Option.map_some, xpush_s, xpush_n, xcat_0, xcat_i, xcat_r, xcat_l, xcat_n, xcat_e, xir_r, Nat.reduceAdd, Nat.reduceLeDiff, Nat.zero_le, Nat.le_refl, ↓reduceIte, show ((24 : Int32) ≤ nI 24) = True from eq_true (Int32.le_refl _)]
  | u + 1, k, e => by
    have hc : ¬ (24 : Int32) ≤ nI k := nI_ge (b := 24) (by omega) (by decide)
    have hx := xix_n (show 24 * i + k < 96 by omega) (show 96 ≤ 100000 by decide)
    have ih := m_shl ev hi y z (a := a) (s := s) (w := w) (Z := Z) u (k + 1) (by omega)
    rw [← ih, S184_69]
    simp only [S184_71, S184_73, S184_76, S184_77, S184_80, S184_82, S184_83, S184_84, S184_86, S184_87, S184_88, S184_89, S184_90, S184_93, S184_95, S184_96, S184_97, S184_99, S184_100, S184_101, S184_102, S184_105, Option.bind_some, Option.map_some, xpush_s, xpush_n, xcat_0, xcat_i, xcat_r, xcat_l, xcat_n, xcat_e, xir_r, Nat.reduceAdd, Nat.reduceLeDiff, Nat.zero_le, Nat.le_refl, ↓reduceIte, hc, Mg_26, Mg_27, Mw_14, Mw_15, ix24, hx, nb_1, nI_1, vu_s, vu_u, vu_n _ _ (show 14 ≠ 15 by decide), vu_n _ _ (show 15 ≠ 14 by decide), vu_c _ _ _ (show 14 ≠ 15 by decide), fl2_s]
theorem RS_clear {a b : Nat → Nat → Int32} (R : RS a b) {i : Nat} (hi : i < 4) {y z : Int32} (hy : so y) (hz : bd z 24) : RS (va_up (va_up (va_up (va_up a 12 (upd (a 12) i y)) 13 (upd (a 13) i z)) 14 (fl2 (a 14) 0 i 24)) 15 (fl2 (a 15) 1 i 24)) (va_up (va_up b (35 + 2 * i) (upd (upd (b (35 + 2 * i)) 0 y) 1 z)) (35 + 2 * i + 1) (fil (b (35 + 2 * i + 1)) 0 24)) := by
  intro i' hi'
  rw [show ∀ f g h k, va_up (va_up (va_up (va_up a 12 f) 13 g) 14 h) 15 k 12 = f from fun f g h k => by rw [vu_n _ _ (by decide), vu_n _ _ (by decide), vu_n _ _ (by decide), vu_s], show ∀ f g h k, va_up (va_up (va_up (va_up a 12 f) 13 g) 14 h) 15 k 13 = g from fun f g h k => by rw [vu_n _ _ (by decide), vu_n _ _ (by decide), vu_s], show ∀ f g h k, va_up (va_up (va_up (va_up a 12 f) 13 g) 14 h) 15 k 14 = h from fun f g h k => by rw [vu_n _ _ (by decide), vu_s], show ∀ f g h k, va_up (va_up (va_up (va_up a 12 f) 13 g) 14 h) 15 k 15 = k from fun f g h k => vu_s _ _ _]
  by_cases e : i' = i
  · subst e
    rw [vu_s, vu_n _ _ (show 35 + 2 * i' ≠ 35 + 2 * i' + 1 by omega), vu_s, up_s, up_s, up_s, up_n _ _ (by decide), up_s]
    refine ⟨rfl, rfl, hy, hz, fun _ j hj => ?_⟩
    refine Or.inl ⟨?_, ?_, ?_, ?_⟩
    · unfold fl2; rw [if_pos (by omega)]
    · unfold fl2 fil; rw [if_pos (by omega), if_pos (by omega)]
    · unfold fl2; rw [if_pos (by omega)]; decide
    · unfold fl2; rw [if_pos (by omega)]; decide
  · rw [vu_n _ _ (show 35 + 2 * i' ≠ 35 + 2 * i + 1 by omega), vu_n _ _ (show 35 + 2 * i' ≠ 35 + 2 * i by omega), vu_n _ _ (show 35 + 2 * i' + 1 ≠ 35 + 2 * i + 1 by omega), vu_n _ _ (show 35 + 2 * i' + 1 ≠ 35 + 2 * i by omega), up_n _ _ e, up_n _ _ e]
    obtain ⟨h1, h2, h3, h4, h5⟩ := R i' hi'
    refine ⟨h1, h2, h3, h4, fun q j hj => ?_⟩
    have := h5 q j hj
    rw [show fl2 (a 14) 0 i 24 (24 * i' + j) = a 14 (24 * i' + j) from if_neg (by omega), show fl2 (a 15) 1 i 24 (24 * i' + j) = a 15 (24 * i' + j) from if_neg (by omega)]
    exact this
section SHEET
variable {m : Nat} {δ : Nat → Int32} {τ1 : xt} {ε : Nat → Int32} {τ2 : xt} {ζ : Nat → Int32} {τ3 : xt} {κ : Nat → Nat → Int32} {n : Nat} {l : lk} {ke op sz : Int32} {B S : Nat → Int32} {b a : Nat → Nat → Int32} {s : Nat → Int32} {w : Int64} {X : xh}
/-- only the sheets have changed -/
theorem relS {b' a' : Nat → Nat → Int32} (R : Rel m δ τ1 ε τ2 n B b a s X) (hj : ∀ j, j ≠ 12 → j ≠ 13 → j ≠ 14 → j ≠ 15 → j ≠ 17 → j ≠ 18 → a' j = a j) (hb : ∀ q, ¬ (35 ≤ q ∧ q < 43) → b' q = b q) (hS : RS a' b') : Rel (m + 1) δ τ1 ε τ2 n B b' a' s X := by
  have e : ∀ j, j ≠ 12 ∧ j ≠ 13 ∧ j ≠ 14 ∧ j ≠ 15 ∧ j ≠ 17 ∧ j ≠ 18 → a' j = a j := fun j h => hj j h.1 h.2.1 h.2.2.1 h.2.2.2.1 h.2.2.2.2.1 h.2.2.2.2.2
  refine relN R (e _ (by decide)) (e _ (by decide)) (e _ (by decide)) (e _ (by decide)) (e _ (by decide)) (e _ (by decide)) (e _ (by decide)) (e _ (by decide)) (by rw [hb 0 (by omega)]) rfl ⟨R.2.2.2.2.2.1.1, R.2.2.2.2.2.1.2.1, by rw [e 10 (by decide)]; exact R.2.2.2.2.2.1.2.2⟩ hS (RL_e (e _ (by decide)) (e _ (by decide)) (e _ (by decide)) (e _ (by decide)) (e _ (by decide)) (e _ (by decide)) (fun q h1 h2 => hb q (by omega)) R.2.2.2.2.2.2.2.1) ⟨by rw [hb 0 (by omega)]; exact R.2.2.2.2.2.2.2.2.1.1, R.2.2.2.2.2.2.2.2.1.2.1, by rw [hb 34 (by omega), e 25 (by decide)]; exact R.2.2.2.2.2.2.2.2.1.2.2⟩
end SHEET
theorem va4 {a : Nat → Nat → Int32} {f g h k : Nat → Int32} {j : Nat} (h1 : j ≠ 12) (h2 : j ≠ 13) (h3 : j ≠ 14) (h4 : j ≠ 15) : va_up (va_up (va_up (va_up a 12 f) 13 g) 14 h) 15 k j = a j := by
  rw [vu_n _ _ h4, vu_n _ _ h3, vu_n _ _ h2, vu_n _ _ h1]
theorem m_sheet_end (d : Nat) {a : Nat → Nat → Int32} {s : Nat → Int32} {w : Int64} {Z : xh} {i : Nat} (hi : i < 4) (y z z' : Int32) (hz : (if 0 ≤ y then z else 0) = z') : RF 184 (Ev d) 44 [some (.ref 58), some (.int (nI i)), some (.int y), some (.int z), none] [] (mh a s w Z) = some (some (.int z'), mh (va_up (va_up (va_up (va_up a 12 (upd (a 12) i y)) 13 (upd (a 13) i z')) 14 (fl2 (a 14) 0 i 24)) 15 (fl2 (a 15) 1 i 24)) s w Z) := by
  have hx := xix_n hi (show 4 ≤ 100000 by decide)
  have hl := m_shl (Ev d) (a := va_up (va_up a 12 (upd (a 12) i y)) 13 (upd (a 13) i z')) (s := s) (w := w) (Z := Z) hi y z 24 0 rfl
  have e0 : va_up (va_up (va_up (va_up a 12 (upd (a 12) i y)) 13 (upd (a 13) i z')) 14 (fl2 (va_up (va_up a 12 (upd (a 12) i y)) 13 (upd (a 13) i z') 14) 0 i 0)) 15 (fl2 (va_up (va_up a 12 (upd (a 12) i y)) 13 (upd (a 13) i z') 15) 1 i 0) = va_up (va_up a 12 (upd (a 12) i y)) 13 (upd (a 13) i z') := by
    rw [fl2_0, fl2_0, vu_self]
    have := vu_self (va_up (va_up a 12 (upd (a 12) i y)) 13 (upd (a 13) i z')) 15
    exact this
  rw [e0, vu_n _ _ (show 14 ≠ 13 by decide), vu_n _ _ (show 14 ≠ 12 by decide), vu_n _ _ (show 15 ≠ 13 by decide), vu_n _ _ (show 15 ≠ 12 by decide)] at hl
  have pre : RF 184 (Ev d) 44 [some (.ref 58), some (.int (nI i)), some (.int y), some (.int z), none] [] (mh a s w Z) = RF 184 (Ev d) 69 [some (.ref 58), some (.int (nI i)), some (.int y), some (.int z), some (.int (nI 0))] [] (mh (va_up (va_up a 12 (upd (a 12) i y)) 13 (upd (a 13) i z')) s w Z) := by
    by_cases hy : 0 ≤ y
    · rw [if_pos hy] at hz
      subst hz
      simp only [S184_44, S184_45, S184_48, S184_49, S184_50, S184_51, S184_52, S184_55, S184_56, S184_57, S184_60, S184_61, S184_64, S184_65, S184_66, S184_67, Option.bind_some, Option.map_some, xpush_s, xpush_n, xcat_0, xcat_i, xcat_r, xcat_l, xcat_n, xcat_e, xir_r, Nat.reduceAdd, Nat.reduceLeDiff, Nat.zero_le, Nat.le_refl, ↓reduceIte, Mg_24, Mg_25, Mw_12, Mw_13, hx, hy, vu_n _ _ (show 13 ≠ 12 by decide)]
      rfl
    · rw [if_neg hy] at hz
      subst hz
      simp only [S184_44, S184_45, S184_48, S184_49, S184_50, S184_51, S184_52, S184_55, S184_56, S184_57, S184_60, S184_61, S184_64, S184_65, S184_66, S184_67, Option.bind_some, Option.map_some, xpush_s, xpush_n, xcat_0, xcat_i, xcat_r, xcat_l, xcat_n, xcat_e, xir_r, Nat.reduceAdd, Nat.reduceLeDiff, Nat.zero_le, Nat.le_refl, ↓reduceIte, Mg_24, Mg_25, Mw_12, Mw_13, hx, hy, vu_n _ _ (show 13 ≠ 12 by decide)]
      rfl
  rw [pre, hl]
  simp only [S184_108, S184_109, S184_112, S184_113, S184_114, Option.bind_some, Option.map_some, xpush_s, xpush_n, xcat_0, xcat_i, xcat_r, xcat_l, xcat_n, xcat_e, xir_r, Nat.reduceAdd, Nat.reduceLeDiff, Nat.zero_le, Nat.le_refl, ↓reduceIte, Mg_25, Mr_13, hx, vu_n _ _ (show 13 ≠ 15 by decide), vu_n _ _ (show 13 ≠ 14 by decide), vu_s, up_s]
theorem k_sheet (x y z : Int32) : CL 95 184 [.int x, .int y, .int z] := by
  intro d m h hI
  obtain ⟨δ, τ1, ε, τ2, ζ, τ3, κ, n, l, ke, op, sz, B, S, b, a, s, w, X, rfl, R⟩ := hI
  have hw := R.1
  have hmo := R.2.1
  have ha1 := R.2.2.1
  have hmd := fun Z => md_of (s := s) (w := w) (Z := Z) ha1
  have n1 : ¬ (1 : Int32) = 0 := by decide
  by_cases c1 : bd x 3
  · have o1 := fun d h => ou_f d h (v := x) (n := 3) (N := 3) rfl (by decide) c1
    have i1 := fun d h => m_sh_t d h c1
    obtain ⟨i, hi3, rfl⟩ := c1
    have hi4 : i < 4 := by omega
    have hq := rw_s hi4
    by_cases c2 : so y
    · have o2 : ∀ d h, Ev (d + 1) 57 [.int y, .int (-1), .int 1] h = some (some (.int 0), h) := fun d h => by rw [s_outside, bi_f (fun q => (so_out y).mp q c2)]
      have i2 : ∀ d h, Ev (d + 1) 112 [.long y.toInt64, .long (-1), .long 1] h = some (some (.int 1), h) := fun d h => by
        rw [s_in, bi_t]
        rw [show (-1 : Int64) = (-1 : Int32).toInt64 from rfl, show (1 : Int64) = (1 : Int32).toInt64 from rfl, l_le, l_le]
        exact (so_in y).mpr c2
      by_cases hm1 : y = -1
      · have hz : (if 0 ≤ y then z else 0) = 0 := if_neg (by rw [hm1]; decide)
        refine combN 0 (n' := n) (l' := l) (ke' := ke) (op' := op) (sz' := sz) (B' := B) (S' := S) (b' := va_up (va_up b (35 + 2 * i) (upd (upd (b (35 + 2 * i)) 0 y) 1 0)) (35 + 2 * i + 1) (fil (b (35 + 2 * i + 1)) 0 24)) (a' := va_up (va_up (va_up (va_up a 12 (upd (a 12) i y)) 13 (upd (a 13) i 0)) 14 (fl2 (a 14) 0 i 24)) 15 (fl2 (a 15) 1 i 24)) (s' := s) (w' := w) ?_ ?_ (relS R (fun j h1 h2 h3 h4 _ _ => va4 h1 h2 h3 h4) (fun q hq => by rw [vu_n _ _ (by omega), vu_n _ _ (by omega)]) (RS_clear R.2.2.2.2.2.2.1 hi4 c2 ⟨0, by omega, rfl⟩))
        · rw [E95]
          simp only [S95_0, S95_1, S95_2, S95_3, S95_6, S95_9, S95_10, S95_11, S95_12, S95_15, S95_18, S95_20, S95_21, S95_22, S95_23, S95_26, S95_27, S95_30, S95_31, S95_32, S95_33, S95_34, S95_37, S95_38, S95_39, S95_40, S95_42, S95_45, S95_47, S95_48, S95_49, S95_52, S95_54, S95_55, S95_56, S95_59, S95_60, S95_61, S95_62, S95_63, S95_66, S95_67, Option.bind_some, Option.map_some, xpush_s, xpush_n, xcat_0, xcat_i, xcat_r, xcat_l, xcat_n, xcat_e, xir_r, Nat.reduceAdd, Nat.reduceLeDiff, Nat.zero_le, Nat.le_refl, ↓reduceIte, C_6, C_q32 hi4, W_cls hq, o1, o2, if_pos hm1, w_clear _ hq]
          rw [hm1]
        · have hlt : y < 0 := by rw [hm1]; decide
          rw [E184, ← m_sheet_end (d + 199) hi4 y z 0 hz]
          simp only [S184_0, S184_1, S184_4, S184_7, S184_8, S184_9, S184_12, S184_13, S184_16, S184_19, S184_20, S184_23, S184_24, S184_26, S184_29, S184_31, S184_32, S184_33, S184_36, S184_37, S184_40, S184_43, Option.bind_some, Option.map_some, xpush_s, xpush_n, xcat_0, xcat_i, xcat_r, xcat_l, xcat_n, xcat_e, xir_r, Nat.reduceAdd, Nat.reduceLeDiff, Nat.zero_le, Nat.le_refl, ↓reduceIte, i1, i2, n1, hlt]
      · have h0 : 0 ≤ y := c2.elim (fun e => absurd e hm1) (fun c => c.elim (fun e => by rw [e]; decide) (fun e => by rw [e]; decide))
        have hnl : ¬ y < 0 := Int32.not_lt.mpr h0
        by_cases h24 : z ≤ 24
        · by_cases hz0 : 0 ≤ z
          · have hz : (if 0 ≤ y then z else 0) = z := if_pos h0
            refine combN z (n' := n) (l' := l) (ke' := ke) (op' := op) (sz' := sz) (B' := B) (S' := S) (b' := va_up (va_up b (35 + 2 * i) (upd (upd (b (35 + 2 * i)) 0 y) 1 z)) (35 + 2 * i + 1) (fil (b (35 + 2 * i + 1)) 0 24)) (a' := va_up (va_up (va_up (va_up a 12 (upd (a 12) i y)) 13 (upd (a 13) i z)) 14 (fl2 (a 14) 0 i 24)) 15 (fl2 (a 15) 1 i 24)) (s' := s) (w' := w) ?_ ?_ (relS R (fun j h1 h2 h3 h4 _ _ => va4 h1 h2 h3 h4) (fun q hq => by rw [vu_n _ _ (by omega), vu_n _ _ (by omega)]) (RS_clear R.2.2.2.2.2.2.1 hi4 c2 ((in_e (n := 24) rfl (by decide)).mp ⟨hz0, h24⟩)))
            · rw [E95]
              simp only [S95_0, S95_1, S95_2, S95_3, S95_6, S95_9, S95_10, S95_11, S95_12, S95_15, S95_18, S95_20, S95_21, S95_22, S95_23, S95_26, S95_27, S95_30, S95_31, S95_32, S95_33, S95_34, S95_37, S95_38, S95_39, S95_40, S95_42, S95_45, S95_47, S95_48, S95_49, S95_52, S95_54, S95_55, S95_56, S95_59, S95_60, S95_61, S95_62, S95_63, S95_66, S95_67, Option.bind_some, Option.map_some, xpush_s, xpush_n, xcat_0, xcat_i, xcat_r, xcat_l, xcat_n, xcat_e, xir_r, Nat.reduceAdd, Nat.reduceLeDiff, Nat.zero_le, Nat.le_refl, ↓reduceIte, C_6, C_q32 hi4, W_cls hq, o1, o2, if_neg hm1, h24, hz0, w_clear _ hq]
            · rw [E184, ← m_sheet_end (d + 199) hi4 y z z hz]
              simp only [S184_0, S184_1, S184_4, S184_7, S184_8, S184_9, S184_12, S184_13, S184_16, S184_19, S184_20, S184_23, S184_24, S184_26, S184_29, S184_31, S184_32, S184_33, S184_36, S184_37, S184_40, S184_43, Option.bind_some, Option.map_some, xpush_s, xpush_n, xcat_0, xcat_i, xcat_r, xcat_l, xcat_n, xcat_e, xir_r, Nat.reduceAdd, Nat.reduceLeDiff, Nat.zero_le, Nat.le_refl, ↓reduceIte, i1, i2, n1, hnl, h24, hz0]
          · refine comb0 (v := -1000000014) R ?_ ?_
            · rw [E95]
              simp only [S95_0, S95_1, S95_2, S95_3, S95_6, S95_9, S95_10, S95_11, S95_12, S95_15, S95_18, S95_20, S95_21, S95_22, S95_23, S95_26, S95_27, S95_30, S95_31, S95_32, S95_33, S95_34, S95_37, S95_38, S95_39, S95_40, S95_42, S95_45, S95_47, S95_48, S95_49, S95_52, S95_54, S95_55, S95_56, S95_59, S95_60, S95_61, S95_62, S95_63, S95_66, S95_67, Option.bind_some, Option.map_some, xpush_s, xpush_n, xcat_0, xcat_i, xcat_r, xcat_l, xcat_n, xcat_e, xir_r, Nat.reduceAdd, Nat.reduceLeDiff, Nat.zero_le, Nat.le_refl, ↓reduceIte, o1, o2, if_neg hm1, h24, hz0]
            · rw [E184]
              simp only [S184_0, S184_1, S184_4, S184_7, S184_8, S184_9, S184_12, S184_13, S184_16, S184_19, S184_20, S184_23, S184_24, S184_26, S184_29, S184_31, S184_32, S184_33, S184_36, S184_37, S184_40, S184_43, Option.bind_some, Option.map_some, xpush_s, xpush_n, xcat_0, xcat_i, xcat_r, xcat_l, xcat_n, xcat_e, xir_r, Nat.reduceAdd, Nat.reduceLeDiff, Nat.zero_le, Nat.le_refl, ↓reduceIte, i1, i2, n1, hnl, h24, hz0]
        · refine comb0 (v := -1000000001) R ?_ ?_
          · rw [E95]
            simp only [S95_0, S95_1, S95_2, S95_3, S95_6, S95_9, S95_10, S95_11, S95_12, S95_15, S95_18, S95_20, S95_21, S95_22, S95_23, S95_26, S95_27, S95_30, S95_31, S95_32, S95_33, S95_34, S95_37, S95_38, S95_39, S95_40, S95_42, S95_45, S95_47, S95_48, S95_49, S95_52, S95_54, S95_55, S95_56, S95_59, S95_60, S95_61, S95_62, S95_63, S95_66, S95_67, Option.bind_some, Option.map_some, xpush_s, xpush_n, xcat_0, xcat_i, xcat_r, xcat_l, xcat_n, xcat_e, xir_r, Nat.reduceAdd, Nat.reduceLeDiff, Nat.zero_le, Nat.le_refl, ↓reduceIte, o1, o2, if_neg hm1, h24]
          · rw [E184]
            simp only [S184_0, S184_1, S184_4, S184_7, S184_8, S184_9, S184_12, S184_13, S184_16, S184_19, S184_20, S184_23, S184_24, S184_26, S184_29, S184_31, S184_32, S184_33, S184_36, S184_37, S184_40, S184_43, Option.bind_some, Option.map_some, xpush_s, xpush_n, xcat_0, xcat_i, xcat_r, xcat_l, xcat_n, xcat_e, xir_r, Nat.reduceAdd, Nat.reduceLeDiff, Nat.zero_le, Nat.le_refl, ↓reduceIte, i1, i2, n1, hnl, h24]
    · have o2 : ∀ d h, Ev (d + 1) 57 [.int y, .int (-1), .int 1] h = some (some (.int 1), h) := fun d h => by rw [s_outside, bi_t ((so_out y).mpr c2)]
      have i2 : ∀ d h, Ev (d + 1) 112 [.long y.toInt64, .long (-1), .long 1] h = some (some (.int 0), h) := fun d h => by
        rw [s_in, bi_f]
        rw [show (-1 : Int64) = (-1 : Int32).toInt64 from rfl, show (1 : Int64) = (1 : Int32).toInt64 from rfl, l_le, l_le]
        exact fun q => c2 ((so_in y).mp q)
      refine comb0 (v := -1000000001) R ?_ ?_
      · rw [E95]
        simp only [S95_0, S95_1, S95_2, S95_3, S95_6, S95_9, S95_10, S95_11, S95_12, S95_15, S95_18, S95_20, S95_21, S95_22, S95_23, S95_26, S95_27, S95_30, S95_31, S95_32, S95_33, S95_34, S95_37, S95_38, S95_39, S95_40, S95_42, S95_45, S95_47, S95_48, S95_49, S95_52, S95_54, S95_55, S95_56, S95_59, S95_60, S95_61, S95_62, S95_63, S95_66, S95_67, Option.bind_some, Option.map_some, xpush_s, xpush_n, xcat_0, xcat_i, xcat_r, xcat_l, xcat_n, xcat_e, xir_r, Nat.reduceAdd, Nat.reduceLeDiff, Nat.zero_le, Nat.le_refl, ↓reduceIte, o1, o2, n1]
      · rw [E184]
        simp only [S184_0, S184_1, S184_4, S184_7, S184_8, S184_9, S184_12, S184_13, S184_16, S184_19, S184_20, S184_23, S184_24, S184_26, S184_29, S184_31, S184_32, S184_33, S184_36, S184_37, S184_40, S184_43, Option.bind_some, Option.map_some, xpush_s, xpush_n, xcat_0, xcat_i, xcat_r, xcat_l, xcat_n, xcat_e, xir_r, Nat.reduceAdd, Nat.reduceLeDiff, Nat.zero_le, Nat.le_refl, ↓reduceIte, i1, i2, n1]
  · refine comb0 (v := -1000000001) R ?_ ?_
    · rw [E95]
      simp only [S95_0, S95_1, S95_2, S95_3, S95_6, S95_9, S95_10, S95_11, S95_12, S95_15, S95_18, S95_20, S95_21, S95_22, S95_23, S95_26, S95_27, S95_30, S95_31, S95_32, S95_33, S95_34, S95_37, S95_38, S95_39, S95_40, S95_42, S95_45, S95_47, S95_48, S95_49, S95_52, S95_54, S95_55, S95_56, S95_59, S95_60, S95_61, S95_62, S95_63, S95_66, S95_67, Option.bind_some, Option.map_some, xpush_s, xpush_n, xcat_0, xcat_i, xcat_r, xcat_l, xcat_n, xcat_e, xir_r, Nat.reduceAdd, Nat.reduceLeDiff, Nat.zero_le, Nat.le_refl, ↓reduceIte, n1, ou_t _ _ (n := 3) (N := 3) rfl (by decide) c1]
    · rw [E184]
      simp only [S184_0, S184_1, S184_4, S184_7, S184_8, S184_9, S184_12, S184_13, S184_16, S184_19, S184_20, S184_23, S184_24, S184_26, S184_29, S184_31, S184_32, S184_33, S184_36, S184_37, S184_40, S184_43, Option.bind_some, Option.map_some, xpush_s, xpush_n, xcat_0, xcat_i, xcat_r, xcat_l, xcat_n, xcat_e, xir_r, Nat.reduceAdd, Nat.reduceLeDiff, Nat.zero_le, Nat.le_refl, ↓reduceIte, n1, m_sh_f _ _ c1]

theorem RS_cell {a b : Nat → Nat → Int32} (R : RS a b) {i j : Nat} (hi : i < 4) (hj : j < 24) {c x y : Int32} (h : cR c x y) : RS (va_up (va_up a 15 (upd (a 15) (24 * i + j) y)) 14 (upd (a 14) (24 * i + j) x)) (va_up b (35 + 2 * i + 1) (upd (b (35 + 2 * i + 1)) j c)) := by
  intro i' hi'
  rw [vu_n _ _ (show 12 ≠ 14 by decide), vu_n _ _ (show 12 ≠ 15 by decide), vu_n _ _ (show 13 ≠ 14 by decide), vu_n _ _ (show 13 ≠ 15 by decide), vu_s, vu_n _ _ (show 15 ≠ 14 by decide), vu_s, vu_n _ _ (show 35 + 2 * i' ≠ 35 + 2 * i + 1 by omega)]
  obtain ⟨h1, h2, h3, h4, h5⟩ := R i' hi'
  refine ⟨h1, h2, h3, h4, fun q j' hj' => ?_⟩
  by_cases e : i' = i
  · subst e
    rw [vu_s]
    by_cases ej : j' = j
    · subst ej
      rw [up_s, up_s, up_s]
      exact h
    · rw [up_n _ _ ej, up_n _ _ (by omega), up_n _ _ (by omega)]
      exact h5 q j' hj'
  · rw [vu_n _ _ (by omega), up_n _ _ (by omega), up_n _ _ (by omega)]
    exact h5 q j' hj'
theorem s16 (v : Int32) : -99999 ≤ v.toInt16.toInt32 ∧ v.toInt16.toInt32 ≤ 99999 := by
  have h1 := Int16.le_toInt v.toInt16
  have h2 := Int16.toInt_lt v.toInt16
  constructor
  · rw [Int32.le_iff_toInt_le, Int16.toInt_toInt32, show (-99999 : Int32).toInt = -99999 from rfl]
    omega
  · rw [Int32.le_iff_toInt_le, Int16.toInt_toInt32, show (99999 : Int32).toInt = 99999 from rfl]
    omega
theorem va2 {a : Nat → Nat → Int32} {f g : Nat → Int32} {j : Nat} (h3 : j ≠ 14) (h4 : j ≠ 15) : va_up (va_up a 15 f) 14 g j = a j := by
  rw [vu_n _ _ h3, vu_n _ _ h4]
theorem k_mark (x y z : Int32) : CL 96 185 [.int x, .int y, .int z] := by
  intro d m h hI
  obtain ⟨δ, τ1, ε, τ2, ζ, τ3, κ, n, l, ke, op, sz, B, S, b, a, s, w, X, rfl, R⟩ := hI
  have hw := R.1
  have hmo := R.2.1
  have ha1 := R.2.2.1
  have hmd := fun Z => md_of (s := s) (w := w) (Z := Z) ha1
  have n1 : ¬ (1 : Int32) = 0 := by decide
  by_cases c1 : bd x 3
  · have o1 := fun d h => ou_f d h (v := x) (n := 3) (N := 3) rfl (by decide) c1
    have i1 := fun d h => m_sh_t d h c1
    obtain ⟨i, hi3, rfl⟩ := c1
    have hi4 : i < 4 := by omega
    have hq := rw_s hi4
    have hx := xix_n hi4 (show 4 ≤ 100000 by decide)
    obtain ⟨r1, r2, r3, ⟨z0, hz0, ez⟩, r5⟩ := R.2.2.2.2.2.2.1 i hi4
    rw [ez] at r2
    by_cases hm1 : a 12 i = -1
    · have hb : bi (b (35 + 2 * i) 0 = -1) = 1 := bi_t (by rw [r1]; exact hm1)
      refine comb0 (v := -1000000011) R ?_ ?_
      · rw [E96]
        simp only [S96_0, S96_1, S96_2, S96_3, S96_6, S96_9, S96_11, S96_12, S96_13, S96_16, S96_17, S96_18, S96_20, S96_22, S96_25, S96_28, S96_30, S96_31, S96_33, S96_34, S96_37, S96_40, S96_42, S96_43, S96_45, S96_48, S96_51, S96_52, S96_54, S96_57, S96_59, S96_60, S96_62, S96_65, S96_66, S96_69, S96_70, S96_72, S96_75, S96_76, S96_78, S96_80, S96_83, S96_86, S96_88, S96_89, S96_91, S96_94, S96_95, S96_97, S96_100, S96_103, S96_104, S96_105, S96_108, S96_109, S96_110, S96_111, Option.bind_some, Option.map_some, xpush_s, xpush_n, xcat_0, xcat_i, xcat_r, xcat_l, xcat_n, xcat_e, xir_r, Nat.reduceAdd, Nat.reduceLeDiff, Nat.zero_le, Nat.le_refl, ↓reduceIte, C_6, C_q32 hi4, W_cls hq, o1, w_miss _ hq, hb, n1]
      · rw [E185]
        simp only [S185_0, S185_1, S185_4, S185_7, S185_9, S185_10, S185_11, S185_14, S185_15, S185_16, S185_19, S185_21, S185_22, S185_23, S185_24, S185_25, S185_26, S185_29, S185_30, S185_31, S185_32, S185_33, S185_34, S185_37, S185_40, S185_43, S185_44, S185_45, S185_48, S185_49, S185_50, S185_53, S185_54, S185_56, S185_59, S185_61, S185_62, S185_63, S185_66, S185_67, S185_68, S185_69, S185_72, S185_73, S185_75, S185_78, S185_79, S185_80, S185_83, S185_86, S185_89, S185_92, S185_94, S185_95, S185_96, S185_99, S185_101, S185_102, S185_103, S185_104, S185_105, S185_106, S185_108, S185_111, S185_112, S185_115, S185_116, S185_117, S185_118, S185_121, S185_123, S185_124, S185_125, S185_126, S185_127, S185_128, S185_130, S185_133, S185_134, S185_137, S185_138, S185_141, S185_142, S185_143, S185_146, S185_147, S185_148, S185_151, S185_152, S185_153, S185_154, Option.bind_some, Option.map_some, xpush_s, xpush_n, xcat_0, xcat_i, xcat_r, xcat_l, xcat_n, xcat_e, xir_r, Nat.reduceAdd, Nat.reduceLeDiff, Nat.zero_le, Nat.le_refl, ↓reduceIte, Mg_24, Mr_12, hx, i1, n1, hm1, show ¬ (0 : Int32) ≤ -1 by decide]
    · have hb : bi (b (35 + 2 * i) 0 = -1) = 0 := bi_f (by rw [r1]; exact hm1)
      have hge : 0 ≤ a 12 i := r3.elim (fun e => absurd e hm1) (fun c => c.elim (fun e => by rw [e]; decide) (fun e => by rw [e]; decide))
      by_cases c2 : ix y z0
      · have hl : bi (y < 0 ∨ b (35 + 2 * i) 1 - 1 < y) = 0 := bi_f (by rw [r2]; exact fun q => (ix_o (by omega)).mp q c2)
        have il : ∀ d h, Ev (d + 1) 112 [.long y.toInt64, .long 0, .long (nI z0 - 1).toInt64] h = some (some (.int 1), h) := fun d h => by rw [s_in, bi_t (by rw [show (0 : Int64) = (0 : Int32).toInt64 from rfl, l_le, l_le]; exact (ix_e (by omega)).mpr c2)]
        obtain ⟨j, hj, rfl⟩ := c2
        have hj24 : j < 24 := by omega
        have hxj := xix_n (show 24 * i + j < 96 by omega) (show 96 ≤ 100000 by decide)
        have hxc := xix_n hj24 (show 24 ≤ 100000 by decide)
        have fin : ∀ c x' y', cR c x' y' → Rel (m + 1) δ τ1 ε τ2 n B (va_up b (35 + 2 * i + 1) (upd (b (35 + 2 * i + 1)) j c)) (va_up (va_up a 15 (upd (a 15) (24 * i + j) y')) 14 (upd (a 14) (24 * i + j) x')) s X := fun c x' y' h => relS R (fun t h1 h2 h3 h4 _ _ => va2 h3 h4) (fun q hq => vu_n _ _ (by omega)) (RS_cell R.2.2.2.2.2.2.1 hi4 hj24 h)
        by_cases s0 : a 12 i = 0
        · rw [s0] at r1
          by_cases zN : z = -1000000005
          · refine comb0 (v := -1000000012) R ?_ ?_
            · rw [E96]
              simp only [S96_0, S96_1, S96_2, S96_3, S96_6, S96_9, S96_11, S96_12, S96_13, S96_16, S96_17, S96_18, S96_20, S96_22, S96_25, S96_28, S96_30, S96_31, S96_33, S96_34, S96_37, S96_40, S96_42, S96_43, S96_45, S96_48, S96_51, S96_52, S96_54, S96_57, S96_59, S96_60, S96_62, S96_65, S96_66, S96_69, S96_70, S96_72, S96_75, S96_76, S96_78, S96_80, S96_83, S96_86, S96_88, S96_89, S96_91, S96_94, S96_95, S96_97, S96_100, S96_103, S96_104, S96_105, S96_108, S96_109, S96_110, S96_111, Option.bind_some, Option.map_some, xpush_s, xpush_n, xcat_0, xcat_i, xcat_r, xcat_l, xcat_n, xcat_e, xir_r, Nat.reduceAdd, Nat.reduceLeDiff, Nat.zero_le, Nat.le_refl, ↓reduceIte, C_6, C_q32 hi4, W_cls hq, o1, w_miss _ hq, hb, bz0, bz1, w_lacks _ hq, hl, W_g0 hq, r1, if_pos zN]
            · rw [E185]
              simp only [S185_0, S185_1, S185_4, S185_7, S185_9, S185_10, S185_11, S185_14, S185_15, S185_16, S185_19, S185_21, S185_22, S185_23, S185_24, S185_25, S185_26, S185_29, S185_30, S185_31, S185_32, S185_33, S185_34, S185_37, S185_40, S185_43, S185_44, S185_45, S185_48, S185_49, S185_50, S185_53, S185_54, S185_56, S185_59, S185_61, S185_62, S185_63, S185_66, S185_67, S185_68, S185_69, S185_72, S185_73, S185_75, S185_78, S185_79, S185_80, S185_83, S185_86, S185_89, S185_92, S185_94, S185_95, S185_96, S185_99, S185_101, S185_102, S185_103, S185_104, S185_105, S185_106, S185_108, S185_111, S185_112, S185_115, S185_116, S185_117, S185_118, S185_121, S185_123, S185_124, S185_125, S185_126, S185_127, S185_128, S185_130, S185_133, S185_134, S185_137, S185_138, S185_141, S185_142, S185_143, S185_146, S185_147, S185_148, S185_151, S185_152, S185_153, S185_154, Option.bind_some, Option.map_some, xpush_s, xpush_n, xcat_0, xcat_i, xcat_r, xcat_l, xcat_n, xcat_e, xir_r, Nat.reduceAdd, Nat.reduceLeDiff, Nat.zero_le, Nat.le_refl, ↓reduceIte, Mg_24, Mg_25, Mr_12, Mr_13, hx, i1, n1, s0, show (0 : Int32) ≤ 0 by decide, ez, il, if_pos zN]
          · refine combN 1 (n' := n) (l' := l) (ke' := ke) (op' := op) (sz' := sz) (B' := B) (S' := S) (s' := s) (w' := w) ?_ ?_ (fin z.toInt16.toInt32 z.toInt16.toInt32 1 (Or.inl ⟨rfl, rfl, s16 z⟩))
            · rw [E96]
              simp only [S96_0, S96_1, S96_2, S96_3, S96_6, S96_9, S96_11, S96_12, S96_13, S96_16, S96_17, S96_18, S96_20, S96_22, S96_25, S96_28, S96_30, S96_31, S96_33, S96_34, S96_37, S96_40, S96_42, S96_43, S96_45, S96_48, S96_51, S96_52, S96_54, S96_57, S96_59, S96_60, S96_62, S96_65, S96_66, S96_69, S96_70, S96_72, S96_75, S96_76, S96_78, S96_80, S96_83, S96_86, S96_88, S96_89, S96_91, S96_94, S96_95, S96_97, S96_100, S96_103, S96_104, S96_105, S96_108, S96_109, S96_110, S96_111, Option.bind_some, Option.map_some, xpush_s, xpush_n, xcat_0, xcat_i, xcat_r, xcat_l, xcat_n, xcat_e, xir_r, Nat.reduceAdd, Nat.reduceLeDiff, Nat.zero_le, Nat.le_refl, ↓reduceIte, C_6, C_q32 hi4, W_cls hq, o1, w_miss _ hq, hb, bz0, bz1, w_lacks _ hq, hl, W_g0 hq, W_g2 hq, W_w hq, hxc, r1, if_neg zN, show ¬ (0 : Int32) = 1 by decide]
            · rw [E185]
              simp only [S185_0, S185_1, S185_4, S185_7, S185_9, S185_10, S185_11, S185_14, S185_15, S185_16, S185_19, S185_21, S185_22, S185_23, S185_24, S185_25, S185_26, S185_29, S185_30, S185_31, S185_32, S185_33, S185_34, S185_37, S185_40, S185_43, S185_44, S185_45, S185_48, S185_49, S185_50, S185_53, S185_54, S185_56, S185_59, S185_61, S185_62, S185_63, S185_66, S185_67, S185_68, S185_69, S185_72, S185_73, S185_75, S185_78, S185_79, S185_80, S185_83, S185_86, S185_89, S185_92, S185_94, S185_95, S185_96, S185_99, S185_101, S185_102, S185_103, S185_104, S185_105, S185_106, S185_108, S185_111, S185_112, S185_115, S185_116, S185_117, S185_118, S185_121, S185_123, S185_124, S185_125, S185_126, S185_127, S185_128, S185_130, S185_133, S185_134, S185_137, S185_138, S185_141, S185_142, S185_143, S185_146, S185_147, S185_148, S185_151, S185_152, S185_153, S185_154, Option.bind_some, Option.map_some, xpush_s, xpush_n, xcat_0, xcat_i, xcat_r, xcat_l, xcat_n, xcat_e, xir_r, Nat.reduceAdd, Nat.reduceLeDiff, Nat.zero_le, Nat.le_refl, ↓reduceIte, Mg_24, Mg_25, Mg_26, Mg_27, Mr_12, Mr_13, Mw_15, Mw_14, hx, hxj, ix24, i1, n1, s0, show (0 : Int32) ≤ 0 by decide, ez, il, if_neg zN, show ¬ (0 : Int32) = 1 by decide, nb_1, vu_n _ _ (show 12 ≠ 15 by decide), vu_n _ _ (show 14 ≠ 15 by decide)]
        · have s1 : a 12 i = 1 := r3.elim (fun e => absurd e hm1) (fun c => c.elim (fun e => absurd e s0) (fun e => e))
          rw [s1] at r1
          by_cases zN : z = -1000000005
          · refine combN 1 (n' := n) (l' := l) (ke' := ke) (op' := op) (sz' := sz) (B' := B) (S' := S) (s' := s) (w' := w) ?_ ?_ (fin z 0 0 (Or.inr ⟨rfl, zN⟩))
            · rw [E96]
              simp only [S96_0, S96_1, S96_2, S96_3, S96_6, S96_9, S96_11, S96_12, S96_13, S96_16, S96_17, S96_18, S96_20, S96_22, S96_25, S96_28, S96_30, S96_31, S96_33, S96_34, S96_37, S96_40, S96_42, S96_43, S96_45, S96_48, S96_51, S96_52, S96_54, S96_57, S96_59, S96_60, S96_62, S96_65, S96_66, S96_69, S96_70, S96_72, S96_75, S96_76, S96_78, S96_80, S96_83, S96_86, S96_88, S96_89, S96_91, S96_94, S96_95, S96_97, S96_100, S96_103, S96_104, S96_105, S96_108, S96_109, S96_110, S96_111, Option.bind_some, Option.map_some, xpush_s, xpush_n, xcat_0, xcat_i, xcat_r, xcat_l, xcat_n, xcat_e, xir_r, Nat.reduceAdd, Nat.reduceLeDiff, Nat.zero_le, Nat.le_refl, ↓reduceIte, C_6, C_q32 hi4, W_cls hq, o1, w_miss _ hq, hb, bz0, bz1, w_lacks _ hq, hl, W_g0 hq, W_g2 hq, W_w hq, hxc, r1, if_pos zN, n1]
            · rw [E185]
              simp only [S185_0, S185_1, S185_4, S185_7, S185_9, S185_10, S185_11, S185_14, S185_15, S185_16, S185_19, S185_21, S185_22, S185_23, S185_24, S185_25, S185_26, S185_29, S185_30, S185_31, S185_32, S185_33, S185_34, S185_37, S185_40, S185_43, S185_44, S185_45, S185_48, S185_49, S185_50, S185_53, S185_54, S185_56, S185_59, S185_61, S185_62, S185_63, S185_66, S185_67, S185_68, S185_69, S185_72, S185_73, S185_75, S185_78, S185_79, S185_80, S185_83, S185_86, S185_89, S185_92, S185_94, S185_95, S185_96, S185_99, S185_101, S185_102, S185_103, S185_104, S185_105, S185_106, S185_108, S185_111, S185_112, S185_115, S185_116, S185_117, S185_118, S185_121, S185_123, S185_124, S185_125, S185_126, S185_127, S185_128, S185_130, S185_133, S185_134, S185_137, S185_138, S185_141, S185_142, S185_143, S185_146, S185_147, S185_148, S185_151, S185_152, S185_153, S185_154, Option.bind_some, Option.map_some, xpush_s, xpush_n, xcat_0, xcat_i, xcat_r, xcat_l, xcat_n, xcat_e, xir_r, Nat.reduceAdd, Nat.reduceLeDiff, Nat.zero_le, Nat.le_refl, ↓reduceIte, Mg_24, Mg_25, Mg_26, Mg_27, Mr_12, Mr_13, Mw_15, Mw_14, hx, hxj, ix24, i1, n1, s1, show (0 : Int32) ≤ 1 by decide, ez, il, if_pos zN, nb_0, vu_n _ _ (show 12 ≠ 15 by decide), vu_n _ _ (show 14 ≠ 15 by decide)]
          · by_cases c3 : -99999 ≤ z ∧ z ≤ 99999
            · have o3 : ∀ d h, Ev (d + 1) 57 [.int z, .int (-99999), .int 99999] h = some (some (.int 0), h) := fun d h => by rw [s_outside, bi_f (fun q => q.elim (fun q => Int32.not_le.mpr q c3.1) (fun q => Int32.not_le.mpr q c3.2))]
              have i3 : ∀ d h, Ev (d + 1) 112 [.long z.toInt64, .long (-99999), .long 99999] h = some (some (.int 1), h) := fun d h => by rw [s_in, bi_t (by rw [show (-99999 : Int64) = (-99999 : Int32).toInt64 from rfl, show (99999 : Int64) = (99999 : Int32).toInt64 from rfl, l_le, l_le]; exact c3)]
              refine combN 1 (n' := n) (l' := l) (ke' := ke) (op' := op) (sz' := sz) (B' := B) (S' := S) (s' := s) (w' := w) ?_ ?_ (fin z z 1 (Or.inl ⟨rfl, rfl, c3⟩))
              · rw [E96]
                simp only [S96_0, S96_1, S96_2, S96_3, S96_6, S96_9, S96_11, S96_12, S96_13, S96_16, S96_17, S96_18, S96_20, S96_22, S96_25, S96_28, S96_30, S96_31, S96_33, S96_34, S96_37, S96_40, S96_42, S96_43, S96_45, S96_48, S96_51, S96_52, S96_54, S96_57, S96_59, S96_60, S96_62, S96_65, S96_66, S96_69, S96_70, S96_72, S96_75, S96_76, S96_78, S96_80, S96_83, S96_86, S96_88, S96_89, S96_91, S96_94, S96_95, S96_97, S96_100, S96_103, S96_104, S96_105, S96_108, S96_109, S96_110, S96_111, Option.bind_some, Option.map_some, xpush_s, xpush_n, xcat_0, xcat_i, xcat_r, xcat_l, xcat_n, xcat_e, xir_r, Nat.reduceAdd, Nat.reduceLeDiff, Nat.zero_le, Nat.le_refl, ↓reduceIte, C_6, C_q32 hi4, W_cls hq, o1, w_miss _ hq, hb, bz0, bz1, w_lacks _ hq, hl, W_g0 hq, W_g2 hq, W_w hq, hxc, r1, if_neg zN, n1, o3]
              · rw [E185]
                simp only [S185_0, S185_1, S185_4, S185_7, S185_9, S185_10, S185_11, S185_14, S185_15, S185_16, S185_19, S185_21, S185_22, S185_23, S185_24, S185_25, S185_26, S185_29, S185_30, S185_31, S185_32, S185_33, S185_34, S185_37, S185_40, S185_43, S185_44, S185_45, S185_48, S185_49, S185_50, S185_53, S185_54, S185_56, S185_59, S185_61, S185_62, S185_63, S185_66, S185_67, S185_68, S185_69, S185_72, S185_73, S185_75, S185_78, S185_79, S185_80, S185_83, S185_86, S185_89, S185_92, S185_94, S185_95, S185_96, S185_99, S185_101, S185_102, S185_103, S185_104, S185_105, S185_106, S185_108, S185_111, S185_112, S185_115, S185_116, S185_117, S185_118, S185_121, S185_123, S185_124, S185_125, S185_126, S185_127, S185_128, S185_130, S185_133, S185_134, S185_137, S185_138, S185_141, S185_142, S185_143, S185_146, S185_147, S185_148, S185_151, S185_152, S185_153, S185_154, Option.bind_some, Option.map_some, xpush_s, xpush_n, xcat_0, xcat_i, xcat_r, xcat_l, xcat_n, xcat_e, xir_r, Nat.reduceAdd, Nat.reduceLeDiff, Nat.zero_le, Nat.le_refl, ↓reduceIte, Mg_24, Mg_25, Mg_26, Mg_27, Mr_12, Mr_13, Mw_15, Mw_14, hx, hxj, ix24, i1, n1, s1, show (0 : Int32) ≤ 1 by decide, ez, il, i3, if_neg zN, nb_1, vu_n _ _ (show 12 ≠ 15 by decide), vu_n _ _ (show 14 ≠ 15 by decide)]
            · have o3 : ∀ d h, Ev (d + 1) 57 [.int z, .int (-99999), .int 99999] h = some (some (.int 1), h) := fun d h => by
                rw [s_outside, bi_t]
                by_cases q : -99999 ≤ z
                · exact Or.inr (Int32.not_le.mp (fun t => c3 ⟨q, t⟩))
                · exact Or.inl (Int32.not_le.mp q)
              have i3 : ∀ d h, Ev (d + 1) 112 [.long z.toInt64, .long (-99999), .long 99999] h = some (some (.int 0), h) := fun d h => by rw [s_in, bi_f (by rw [show (-99999 : Int64) = (-99999 : Int32).toInt64 from rfl, show (99999 : Int64) = (99999 : Int32).toInt64 from rfl, l_le, l_le]; exact c3)]
              refine comb0 (v := -1000000001) R ?_ ?_
              · rw [E96]
                simp only [S96_0, S96_1, S96_2, S96_3, S96_6, S96_9, S96_11, S96_12, S96_13, S96_16, S96_17, S96_18, S96_20, S96_22, S96_25, S96_28, S96_30, S96_31, S96_33, S96_34, S96_37, S96_40, S96_42, S96_43, S96_45, S96_48, S96_51, S96_52, S96_54, S96_57, S96_59, S96_60, S96_62, S96_65, S96_66, S96_69, S96_70, S96_72, S96_75, S96_76, S96_78, S96_80, S96_83, S96_86, S96_88, S96_89, S96_91, S96_94, S96_95, S96_97, S96_100, S96_103, S96_104, S96_105, S96_108, S96_109, S96_110, S96_111, Option.bind_some, Option.map_some, xpush_s, xpush_n, xcat_0, xcat_i, xcat_r, xcat_l, xcat_n, xcat_e, xir_r, Nat.reduceAdd, Nat.reduceLeDiff, Nat.zero_le, Nat.le_refl, ↓reduceIte, C_6, C_q32 hi4, W_cls hq, o1, w_miss _ hq, hb, bz0, bz1, w_lacks _ hq, hl, W_g0 hq, r1, if_neg zN, n1, o3]
              · rw [E185]
                simp only [S185_0, S185_1, S185_4, S185_7, S185_9, S185_10, S185_11, S185_14, S185_15, S185_16, S185_19, S185_21, S185_22, S185_23, S185_24, S185_25, S185_26, S185_29, S185_30, S185_31, S185_32, S185_33, S185_34, S185_37, S185_40, S185_43, S185_44, S185_45, S185_48, S185_49, S185_50, S185_53, S185_54, S185_56, S185_59, S185_61, S185_62, S185_63, S185_66, S185_67, S185_68, S185_69, S185_72, S185_73, S185_75, S185_78, S185_79, S185_80, S185_83, S185_86, S185_89, S185_92, S185_94, S185_95, S185_96, S185_99, S185_101, S185_102, S185_103, S185_104, S185_105, S185_106, S185_108, S185_111, S185_112, S185_115, S185_116, S185_117, S185_118, S185_121, S185_123, S185_124, S185_125, S185_126, S185_127, S185_128, S185_130, S185_133, S185_134, S185_137, S185_138, S185_141, S185_142, S185_143, S185_146, S185_147, S185_148, S185_151, S185_152, S185_153, S185_154, Option.bind_some, Option.map_some, xpush_s, xpush_n, xcat_0, xcat_i, xcat_r, xcat_l, xcat_n, xcat_e, xir_r, Nat.reduceAdd, Nat.reduceLeDiff, Nat.zero_le, Nat.le_refl, ↓reduceIte, Mg_24, Mg_25, Mr_12, Mr_13, hx, i1, n1, s1, show (0 : Int32) ≤ 1 by decide, ez, il, i3, if_neg zN]
      · have hl : bi (y < 0 ∨ b (35 + 2 * i) 1 - 1 < y) = 1 := bi_t (by rw [r2]; exact (ix_o (by omega)).mpr c2)
        have il : ∀ d h, Ev (d + 1) 112 [.long y.toInt64, .long 0, .long (nI z0 - 1).toInt64] h = some (some (.int 0), h) := fun d h => by rw [s_in, bi_f (by rw [show (0 : Int64) = (0 : Int32).toInt64 from rfl, l_le, l_le]; exact fun q => c2 ((ix_e (by omega)).mp q))]
        refine comb0 (v := -1000000013) R ?_ ?_
        · rw [E96]
          simp only [S96_0, S96_1, S96_2, S96_3, S96_6, S96_9, S96_11, S96_12, S96_13, S96_16, S96_17, S96_18, S96_20, S96_22, S96_25, S96_28, S96_30, S96_31, S96_33, S96_34, S96_37, S96_40, S96_42, S96_43, S96_45, S96_48, S96_51, S96_52, S96_54, S96_57, S96_59, S96_60, S96_62, S96_65, S96_66, S96_69, S96_70, S96_72, S96_75, S96_76, S96_78, S96_80, S96_83, S96_86, S96_88, S96_89, S96_91, S96_94, S96_95, S96_97, S96_100, S96_103, S96_104, S96_105, S96_108, S96_109, S96_110, S96_111, Option.bind_some, Option.map_some, xpush_s, xpush_n, xcat_0, xcat_i, xcat_r, xcat_l, xcat_n, xcat_e, xir_r, Nat.reduceAdd, Nat.reduceLeDiff, Nat.zero_le, Nat.le_refl, ↓reduceIte, C_6, C_q32 hi4, W_cls hq, o1, w_miss _ hq, hb, bz0, bz1, w_lacks _ hq, hl, n1]
        · rw [E185]
          simp only [S185_0, S185_1, S185_4, S185_7, S185_9, S185_10, S185_11, S185_14, S185_15, S185_16, S185_19, S185_21, S185_22, S185_23, S185_24, S185_25, S185_26, S185_29, S185_30, S185_31, S185_32, S185_33, S185_34, S185_37, S185_40, S185_43, S185_44, S185_45, S185_48, S185_49, S185_50, S185_53, S185_54, S185_56, S185_59, S185_61, S185_62, S185_63, S185_66, S185_67, S185_68, S185_69, S185_72, S185_73, S185_75, S185_78, S185_79, S185_80, S185_83, S185_86, S185_89, S185_92, S185_94, S185_95, S185_96, S185_99, S185_101, S185_102, S185_103, S185_104, S185_105, S185_106, S185_108, S185_111, S185_112, S185_115, S185_116, S185_117, S185_118, S185_121, S185_123, S185_124, S185_125, S185_126, S185_127, S185_128, S185_130, S185_133, S185_134, S185_137, S185_138, S185_141, S185_142, S185_143, S185_146, S185_147, S185_148, S185_151, S185_152, S185_153, S185_154, Option.bind_some, Option.map_some, xpush_s, xpush_n, xcat_0, xcat_i, xcat_r, xcat_l, xcat_n, xcat_e, xir_r, Nat.reduceAdd, Nat.reduceLeDiff, Nat.zero_le, Nat.le_refl, ↓reduceIte, Mg_24, Mg_25, Mr_12, Mr_13, hx, i1, n1, hge, ez, il]
  · refine comb0 (v := -1000000001) R ?_ ?_
    · rw [E96]
      simp only [S96_0, S96_1, S96_2, S96_3, S96_6, S96_9, S96_11, S96_12, S96_13, S96_16, S96_17, S96_18, S96_20, S96_22, S96_25, S96_28, S96_30, S96_31, S96_33, S96_34, S96_37, S96_40, S96_42, S96_43, S96_45, S96_48, S96_51, S96_52, S96_54, S96_57, S96_59, S96_60, S96_62, S96_65, S96_66, S96_69, S96_70, S96_72, S96_75, S96_76, S96_78, S96_80, S96_83, S96_86, S96_88, S96_89, S96_91, S96_94, S96_95, S96_97, S96_100, S96_103, S96_104, S96_105, S96_108, S96_109, S96_110, S96_111, Option.bind_some, Option.map_some, xpush_s, xpush_n, xcat_0, xcat_i, xcat_r, xcat_l, xcat_n, xcat_e, xir_r, Nat.reduceAdd, Nat.reduceLeDiff, Nat.zero_le, Nat.le_refl, ↓reduceIte, n1, ou_t _ _ (n := 3) (N := 3) rfl (by decide) c1]
    · rw [E185]
      simp only [S185_0, S185_1, S185_4, S185_7, S185_9, S185_10, S185_11, S185_14, S185_15, S185_16, S185_19, S185_21, S185_22, S185_23, S185_24, S185_25, S185_26, S185_29, S185_30, S185_31, S185_32, S185_33, S185_34, S185_37, S185_40, S185_43, S185_44, S185_45, S185_48, S185_49, S185_50, S185_53, S185_54, S185_56, S185_59, S185_61, S185_62, S185_63, S185_66, S185_67, S185_68, S185_69, S185_72, S185_73, S185_75, S185_78, S185_79, S185_80, S185_83, S185_86, S185_89, S185_92, S185_94, S185_95, S185_96, S185_99, S185_101, S185_102, S185_103, S185_104, S185_105, S185_106, S185_108, S185_111, S185_112, S185_115, S185_116, S185_117, S185_118, S185_121, S185_123, S185_124, S185_125, S185_126, S185_127, S185_128, S185_130, S185_133, S185_134, S185_137, S185_138, S185_141, S185_142, S185_143, S185_146, S185_147, S185_148, S185_151, S185_152, S185_153, S185_154, Option.bind_some, Option.map_some, xpush_s, xpush_n, xcat_0, xcat_i, xcat_r, xcat_l, xcat_n, xcat_e, xir_r, Nat.reduceAdd, Nat.reduceLeDiff, Nat.zero_le, Nat.le_refl, ↓reduceIte, n1, m_sh_f _ _ c1]

