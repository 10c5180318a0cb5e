/-! part 63, by program (wip/whole/gen/calls13.py): calls, thirteenth lot: rub -/
section RUBC
variable {m : Nat} {δ : Nat → Int32} {τ1 : xt} {ε : Nat → Int32} {τ2 : xt} {n : Nat} {l : lk} {ke op sz : Int32} {B S : Nat → Int32} {b a : Nat → Nat → Int32} {s : Nat → Int32} {w : Int64} {X : xh}
theorem c_kw (R : Rel m δ τ1 ε τ2 n B b a s X) (d : Nat) {q : Option xq} (hq : LW X τ1 0 q) {t k : Nat} (ht : t < 1024) (hk : k < 2 ^ 31) (ζ : Nat → Int32) (τ3 : xt) (κ : Nat → Nat → Int32) : ∃ ζ' τ' κ', Ev (d + 6) 81 [.ref 0, .int (nI t), .int (nI k)] (cG δ τ1 ε τ2 ζ τ3 κ n l ke op sz B S b (mh a s w X)) = some (some (.int (bi (sDry (sMonths q k (sRub t (nn (δ 0)) 0 δ)) 12 = 0))), cG δ τ1 ε τ2 ζ' τ' κ' n l ke op sz B S b (mh a s w X)) := by
  have hw := R.1
  have hN := hw.eN.2
  have hmw := mw_rub t (nn (δ 0)) 0 (by omega) δ hw
  obtain ⟨τ, hE, e1⟩ := T_b (l := l) (ke := ke) (op := op) (sz := sz) (S := S) (w := w) R (d + 4) ζ τ3 κ
  have e2 := Q_rub (δ := δ) (τ1 := τ1) (ε := ε) (τ2 := τ2) (ζ := δ) (τ3 := τ) (κ := κ) (n := n) (l := l) (ke := ke) (op := op) (sz := sz) (B := B) (S := S) (b := b) (H := mh a s w X) (d + 4) hw (K := t) (by omega)
  obtain ⟨κ1, e3⟩ := T_p (δ := δ) (ε := ε) (τ2 := τ2) (κ := κ) (n := n) (l := l) (ke := ke) (op := op) (sz := sz) (B := B) (S := S) (b := b) (a := a) (s := s) (w := w) d hq hE hmw.1 hk
  refine ⟨sMonths q k (sRub t (nn (δ 0)) 0 δ), τ, κ1, ?_⟩
  rw [E81]
  by_cases h : sDry (sMonths q k (sRub t (nn (δ 0)) 0 δ)) 12 = 0
  · rw [bi_t h]
    simp only [S81_0, S81_1, S81_4, S81_5, S81_8, S81_11, S81_12, S81_15, S81_16, S81_19, S81_20, S81_23, S81_24, S81_27, S81_28, S81_31, S81_34, S81_37, S81_38, S81_41, S81_42, Option.bind_some, Option.map_some, xpush_s, xpush_n, xcat_0, xcat_i, xcat_r, xcat_l, xcat_n, xcat_e, xir_r, Nat.reduceAdd, Nat.reduceLeDiff, Nat.zero_le, Nat.le_refl, ↓reduceIte, C_0, C_2, Q_cls, e1, e2, e3, Q_dry, h, nw_1]
  · rw [bi_f h]
    simp only [S81_0, S81_1, S81_4, S81_5, S81_8, S81_11, S81_12, S81_15, S81_16, S81_19, S81_20, S81_23, S81_24, S81_27, S81_28, S81_31, S81_34, S81_37, S81_38, S81_41, S81_42, Option.bind_some, Option.map_some, xpush_s, xpush_n, xcat_0, xcat_i, xcat_r, xcat_l, xcat_n, xcat_e, xir_r, Nat.reduceAdd, Nat.reduceLeDiff, Nat.zero_le, Nat.le_refl, ↓reduceIte, C_0, C_2, Q_cls, e1, e2, e3, Q_dry, h, nw_0]
theorem c_rbI (R : Rel m δ τ1 ε τ2 n B b a s X) (d : Nat) {q : Option xq} (hq : LW X τ1 0 q) {k M z Z : Nat} (hk : k < 2 ^ 31) (hM : M < 1024) (hz : z ≤ 10) : ∀ u t, t + u = M + 1 → ∀ (ζ : Nat → Int32) (τ3 : xt) (κ : Nat → Nat → Int32), (∀ S, S < t → S &&& M = S → pcK S 10 = z → ¬ sWet q k δ S) → ∃ ζ' τ' κ', (∃ r, r &&& M = r ∧ pcK r 10 = z ∧ sWet q k δ r ∧ (∀ S, S < r → S &&& M = S → pcK S 10 = z → ¬ sWet q k δ S) ∧ RF 80 (Ev (d + 6)) 38 [some (.ref 0), some (.int (nI k)), some (.int (nI M)), some (.int (nI Z)), some (.int (nI z)), some (.int (nI t))] [] (cG δ τ1 ε τ2 ζ τ3 κ n l ke op sz B S b (mh a s w X)) = some (some (.int (nI r)), cG δ τ1 ε τ2 ζ' τ' κ' n l ke op sz B S b (mh a s w X))) ∨ ((∀ S, S &&& M = S → pcK S 10 = z → ¬ sWet q k δ S) ∧ RF 80 (Ev (d + 6)) 38 [some (.ref 0), some (.int (nI k)), some (.int (nI M)), some (.int (nI Z)), some (.int (nI z)), some (.int (nI t))] [] (cG δ τ1 ε τ2 ζ τ3 κ n l ke op sz B S b (mh a s w X)) = RF 80 (Ev (d + 6)) 90 [some (.ref 0), some (.int (nI k)), some (.int (nI M)), some (.int (nI Z)), some (.int (nI z)), some (.int (nI (M + 1)))] [] (cG δ τ1 ε τ2 ζ' τ' κ' n l ke op sz B S b (mh a s w X))) := by
  intro u
  induction u with
  | zero =>
    intro t e ζ τ3 κ hno
    have e' : t = M + 1 := by omega
    subst e'
    refine ⟨ζ, τ3, κ, Or.inr ⟨fun S hS => hno S (by have := Nat.and_le_right (n := S) (m := M); omega) hS, ?_⟩⟩
    rw [S80_38]
    by_cases h : 1024 ≤ M + 1
    · have hc : (1024 : Int32) ≤ nI (M + 1) := nI_le (a := 1024) h (by omega)
      simp only [S80_40, S80_43, S80_46, S80_48, S80_49, Option.bind_some, Option.map_some, xpush_s, xpush_n, xcat_0, xcat_i, xcat_r, xcat_l, xcat_n, xcat_e, xir_r, Nat.reduceAdd, Nat.reduceLeDiff, Nat.zero_le, Nat.le_refl, ↓reduceIte, hc]
    · have hc : ¬ (1024 : Int32) ≤ nI (M + 1) := nI_ge (b := 1024) (by omega) (by decide)
      have hc2 : nI M < nI (M + 1) := nI_lt (by omega) (by omega)
      simp only [S80_40, S80_43, S80_46, S80_48, S80_49, Option.bind_some, Option.map_some, xpush_s, xpush_n, xcat_0, xcat_i, xcat_r, xcat_l, xcat_n, xcat_e, xir_r, Nat.reduceAdd, Nat.reduceLeDiff, Nat.zero_le, Nat.le_refl, ↓reduceIte, hc, hc2]
  | succ u ih =>
    intro t e ζ τ3 κ hno
    have hc : ¬ (1024 : Int32) ≤ nI t := nI_ge (b := 1024) (by omega) (by decide)
    have hc2 : ¬ nI M < nI t := nI_nlt (by omega) (by omega)
    have hbc : bC (nI t) = nI (pcK t 10) := by rw [bC_n t (by omega), ones_n t (by omega)]
    have l10 := pcK_10 t 10
    by_cases h1 : pcK t 10 = z
    · have g1 : nI (pcK t 10) = nI z := by rw [h1]
      by_cases h2 : t &&& M = t
      · have g2 := (sub_bits (M := M) (show t < 1024 by omega)).mpr h2
        obtain ⟨ζ1, τ4, κ1, e1⟩ := c_kw (l := l) (ke := ke) (op := op) (sz := sz) (S := S) (w := w) R d hq (show t < 1024 by omega) hk ζ τ3 κ
        by_cases h3 : sWet q k δ t
        · have h3' : sDry (sMonths q k (sRub t (nn (δ 0)) 0 δ)) 12 = 0 := h3
          rw [bi_t h3'] at e1
          refine ⟨ζ1, τ4, κ1, Or.inl ⟨t, h2, h1, h3, hno, ?_⟩⟩
          rw [S80_38]
          simp only [S80_40, S80_43, S80_46, S80_48, S80_49, S80_52, S80_54, S80_57, S80_59, S80_62, S80_64, S80_65, S80_66, S80_67, S80_68, S80_71, S80_72, S80_74, S80_75, S80_78, S80_81, S80_83, S80_84, S80_87, Option.bind_some, Option.map_some, xpush_s, xpush_n, xcat_0, xcat_i, xcat_r, xcat_l, xcat_n, xcat_e, xir_r, Nat.reduceAdd, Nat.reduceLeDiff, Nat.zero_le, Nat.le_refl, ↓reduceIte, hc, hc2, s_bitCount, hbc, g1, g2, C_cls, e1, show ¬ (1 : Int32) = 0 by decide]
        · have h3' : ¬ sDry (sMonths q k (sRub t (nn (δ 0)) 0 δ)) 12 = 0 := h3
          rw [bi_f h3'] at e1
          obtain ⟨ζ2, τ5, κ2, h4⟩ := ih (t + 1) (by omega) ζ1 τ4 κ1 (fun S hS a1 a2 => by
            by_cases e : S = t
            · subst e; exact h3
            · exact hno S (by omega) a1 a2)
          refine ⟨ζ2, τ5, κ2, ?_⟩
          rw [S80_38]
          simp only [S80_40, S80_43, S80_46, S80_48, S80_49, S80_52, S80_54, S80_57, S80_59, S80_62, S80_64, S80_65, S80_66, S80_67, S80_68, S80_71, S80_72, S80_74, S80_75, S80_78, S80_81, S80_83, S80_84, S80_87, Option.bind_some, Option.map_some, xpush_s, xpush_n, xcat_0, xcat_i, xcat_r, xcat_l, xcat_n, xcat_e, xir_r, Nat.reduceAdd, Nat.reduceLeDiff, Nat.zero_le, Nat.le_refl, ↓reduceIte, hc, hc2, s_bitCount, hbc, g1, g2, C_cls, e1, nI_1]
          exact h4
      · have g2 : ¬ nI t &&& (nI M ^^^ (-1)) = 0 := fun z => h2 ((sub_bits (M := M) (show t < 1024 by omega)).mp z)
        obtain ⟨ζ2, τ5, κ2, h4⟩ := ih (t + 1) (by omega) ζ τ3 κ (fun S hS a1 a2 => by
            by_cases e : S = t
            · subst e; exact absurd a1 h2
            · exact hno S (by omega) a1 a2)
        refine ⟨ζ2, τ5, κ2, ?_⟩
        rw [S80_38]
        simp only [S80_40, S80_43, S80_46, S80_48, S80_49, S80_52, S80_54, S80_57, S80_59, S80_62, S80_64, S80_65, S80_66, S80_67, S80_68, S80_71, S80_72, S80_74, S80_75, S80_78, S80_81, S80_83, S80_84, S80_87, Option.bind_some, Option.map_some, xpush_s, xpush_n, xcat_0, xcat_i, xcat_r, xcat_l, xcat_n, xcat_e, xir_r, Nat.reduceAdd, Nat.reduceLeDiff, Nat.zero_le, Nat.le_refl, ↓reduceIte, hc, hc2, s_bitCount, hbc, g1, g2, nI_1]
        exact h4
    · have g1 : ¬ nI (pcK t 10) = nI z := fun z => h1 ((nI_eq (by omega) (by omega)).mp z)
      obtain ⟨ζ2, τ5, κ2, h4⟩ := ih (t + 1) (by omega) ζ τ3 κ (fun S hS a1 a2 => by
            by_cases e : S = t
            · subst e; exact absurd a2 h1
            · exact hno S (by omega) a1 a2)
      refine ⟨ζ2, τ5, κ2, ?_⟩
      rw [S80_38]
      simp only [S80_40, S80_43, S80_46, S80_48, S80_49, S80_52, S80_54, S80_57, S80_59, S80_62, S80_64, S80_65, S80_66, S80_67, S80_68, S80_71, S80_72, S80_74, S80_75, S80_78, S80_81, S80_83, S80_84, S80_87, Option.bind_some, Option.map_some, xpush_s, xpush_n, xcat_0, xcat_i, xcat_r, xcat_l, xcat_n, xcat_e, xir_r, Nat.reduceAdd, Nat.reduceLeDiff, Nat.zero_le, Nat.le_refl, ↓reduceIte, hc, hc2, s_bitCount, hbc, g1, nI_1]
      exact h4
/-- what rub answers -/
def rbV (W C : Nat → Prop) (v : Int32) : Prop := (∃ r, v = nI r ∧ mstR W C r) ∨ (v = -1000000005 ∧ ∀ S, C S → ¬ W S)
theorem c_rbO (R : Rel m δ τ1 ε τ2 n B b a s X) (d : Nat) {q : Option xq} (hq : LW X τ1 0 q) {k M : Nat} (hk : k < 2 ^ 31) (hM : M < 1024) : ∀ u z, z + u = pcK M 10 + 1 → ∀ (ζ : Nat → Int32) (τ3 : xt) (κ : Nat → Nat → Int32) (l5 : Option Value), (∀ S, S &&& M = S → pcK S 10 < z → ¬ sWet q k δ S) → ∃ ζ' τ' κ' v, rbV (sWet q k δ) (fun S => S &&& M = S) v ∧ RF 80 (Ev (d + 6)) 29 [some (.ref 0), some (.int (nI k)), some (.int (nI M)), some (.int (nI (pcK M 10))), some (.int (nI z)), l5] [] (cG δ τ1 ε τ2 ζ τ3 κ n l ke op sz B S b (mh a s w X)) = some (some (.int v), cG δ τ1 ε τ2 ζ' τ' κ' n l ke op sz B S b (mh a s w X)) := by
  have lM := pcK_10 M 10
  intro u
  induction u with
  | zero =>
    intro z e ζ τ3 κ l5 hno
    have e' : z = pcK M 10 + 1 := by omega
    subst e'
    have hc : nI (pcK M 10) < nI (pcK M 10 + 1) := nI_lt (by omega) (by omega)
    refine ⟨ζ, τ3, κ, -1000000005, Or.inr ⟨rfl, fun S hS => hno S hS ?_⟩, ?_⟩
    · have := pcK_le M S 10
      rw [Nat.and_comm, hS] at this
      omega
    · rw [S80_29]
      simp only [S80_31, S80_32, S80_96, S80_98, Option.bind_some, Option.map_some, xpush_s, xpush_n, xcat_0, xcat_i, xcat_r, xcat_l, xcat_n, xcat_e, xir_r, Nat.reduceAdd, Nat.reduceLeDiff, Nat.zero_le, Nat.le_refl, ↓reduceIte, hc]
  | succ u ih =>
    intro z e ζ τ3 κ l5 hno
    have hc : ¬ nI (pcK M 10) < nI z := nI_nlt (by omega) (by omega)
    obtain ⟨ζ1, τ4, κ1, h1⟩ := c_rbI (l := l) (ke := ke) (op := op) (sz := sz) (S := S) (w := w) R d hq (Z := pcK M 10) hk hM (show z ≤ 10 by omega) (M + 1) 0 (by omega) ζ τ3 κ (fun S hS => absurd hS (by omega))
    rcases h1 with ⟨r, a1, a2, a3, a4, a5⟩ | ⟨a1, a2⟩
    · refine ⟨ζ1, τ4, κ1, nI r, Or.inl ⟨r, rfl, a1, a3, fun S c1 c2 => ?_⟩, ?_⟩
      · rcases (show pcK S 10 < z ∨ pcK S 10 = z ∨ z < pcK S 10 by omega) with g | g | g
        · exact absurd c2 (hno S c1 g)
        · right
          refine ⟨by omega, ?_⟩
          rcases Nat.lt_or_ge S r with x | x
          · exact absurd c2 (a4 S x c1 g)
          · exact x
        · left; omega
      · rw [S80_29]
        simp only [S80_31, S80_32, S80_35, S80_36, Option.bind_some, Option.map_some, xpush_s, xpush_n, xcat_0, xcat_i, xcat_r, xcat_l, xcat_n, xcat_e, xir_r, Nat.reduceAdd, Nat.reduceLeDiff, Nat.zero_le, Nat.le_refl, ↓reduceIte, hc]
        exact a5
    · obtain ⟨ζ2, τ5, κ2, v, c1, c2⟩ := ih (z + 1) (by omega) ζ1 τ4 κ1 (some (.int (nI (M + 1)))) (fun S x y => by
        by_cases g : pcK S 10 = z
        · exact a1 S x g
        · exact hno S x (by omega))
      refine ⟨ζ2, τ5, κ2, v, c1, ?_⟩
      rw [S80_29]
      simp only [S80_31, S80_32, S80_35, S80_36, Option.bind_some, Option.map_some, xpush_s, xpush_n, xcat_0, xcat_i, xcat_r, xcat_l, xcat_n, xcat_e, xir_r, Nat.reduceAdd, Nat.reduceLeDiff, Nat.zero_le, Nat.le_refl, ↓reduceIte, hc]
      refine a2.trans ?_
      simp only [S80_90, S80_93, Option.bind_some, Option.map_some, xpush_s, xpush_n, xcat_0, xcat_i, xcat_r, xcat_l, xcat_n, xcat_e, xir_r, Nat.reduceAdd, Nat.reduceLeDiff, Nat.zero_le, Nat.le_refl, ↓reduceIte, nI_1]
      exact c2
end RUBC
section RUBM
variable {a : Nat → Nat → Int32} {s : Nat → Int32} {w : Int64} {H : xh}
theorem m_rbI (d : Nat) {N t : Nat} {x y : Int32} (hN : N ≤ 10) (ht : t < 1024) (κ : Nat → Int32) : ∀ j m, m + j = N → ∀ δ : Nat → Int32, δ 0 = nI N → RF 157 (Ev (d + 1)) 60 [some (.ref 58), some (.int x), some (.int y), some (.int (nI t)), some (.int (nI m))] [] (md a δ κ s w H) = RF 157 (Ev (d + 1)) 105 [some (.ref 58), some (.int x), some (.int y), some (.int (nI t)), some (.int (nI N))] [] (md a (sRub t j m δ) κ s w H)
  | 0, m, e, δ, h0 => by
    have e' : m = N := by omega
    subst e'
    rw [S157_60]
    simp only [S157_62, S157_63, S157_66, S157_67, S157_68, S157_71, S157_72, S157_74, S157_75, S157_76, S157_78, S157_79, S157_80, S157_81, S157_82, S157_85, S157_86, S157_89, S157_90, S157_92, S157_93, S157_96, S157_99, S157_102, Option.bind_some, Option.map_some, xpush_s, xpush_n, xcat_0, xcat_i, xcat_r, xcat_l, xcat_n, xcat_e, xir_r, Nat.reduceAdd, Nat.reduceLeDiff, Nat.zero_le, Nat.le_refl, ↓reduceIte, Dg, Dr, ix_0, h0, show (nI m ≤ nI m) = True from eq_true (Int32.le_refl _)]
    rfl
  | j + 1, m, e, δ, h0 => by
    have hc : ¬ nI N ≤ nI m := nI_ge (by omega) (by omega)
    have hm : m < 10 := by omega
    have hbt := bit_t (n := t) (r := m) (by omega) (by omega)
    unfold sRub
    by_cases h : t.testBit m = true
    · have ih := m_rbI d hN ht (x := x) (y := y) κ j (m + 1) (by omega) (upd δ (20 + 4 * m + 1) 0) (by rw [up_n _ _ (by omega)]; exact h0)
      have hb := hbt.mpr h
      rw [if_pos h, ← ih, S157_60]
      simp only [S157_62, S157_63, S157_66, S157_67, S157_68, S157_71, S157_72, S157_74, S157_75, S157_76, S157_78, S157_79, S157_80, S157_81, S157_82, S157_85, S157_86, S157_89, S157_90, S157_92, S157_93, S157_96, S157_99, S157_102, Option.bind_some, Option.map_some, xpush_s, xpush_n, xcat_0, xcat_i, xcat_r, xcat_l, xcat_n, xcat_e, xir_r, Nat.reduceAdd, Nat.reduceLeDiff, Nat.zero_le, Nat.le_refl, ↓reduceIte, Dcls, Dg, Dr, ix_0, h0, hc, hb, s_sets1 _ _ hm, nI_1]
    · have ih := m_rbI d hN ht (x := x) (y := y) κ j (m + 1) (by omega) δ h0
      have hb : ¬ nI t >>> (nI m &&& 31) &&& 1 = 1 := fun z => h (hbt.mp z)
      rw [if_neg h, ← ih, S157_60]
      simp only [S157_62, S157_63, S157_66, S157_67, S157_68, S157_71, S157_72, S157_74, S157_75, S157_76, S157_78, S157_79, S157_80, S157_81, S157_82, S157_85, S157_86, S157_89, S157_90, S157_92, S157_93, S157_96, S157_99, S157_102, Option.bind_some, Option.map_some, xpush_s, xpush_n, xcat_0, xcat_i, xcat_r, xcat_l, xcat_n, xcat_e, xir_r, Nat.reduceAdd, Nat.reduceLeDiff, Nat.zero_le, Nat.le_refl, ↓reduceIte, Dcls, Dg, Dr, ix_0, h0, hc, hb, s_of1 _ hm, s_sets1 _ _ hm, up_self, nI_1]
theorem m_rbL (d : Nat) {q : Option xq} {k : Nat} {δ : Nat → Int32} (hk : k < 2 ^ 31) (hw : wf δ) (hq : QM (va_up a 3 δ) 0 (nn (δ 7)) q) : ∀ u t, t + u = 2 ^ nn (δ 0) → ∀ (κ : Nat → Int32) (bst : Int32) (l4 : Option Value), ((bst = -1 ∧ ∀ S, S < t → ¬ sWet q k δ S) ∨ (∃ r, bst = nI r ∧ mstR (sWet q k δ) (fun S => S < t) r)) → ∃ κ' v, rbV (sWet q k δ) (fun S => S < 2 ^ nn (δ 0)) v ∧ RF 157 (Ev (d + 6)) 30 [some (.ref 58), some (.int (nI k)), some (.int bst), some (.int (nI t)), l4] [] (md (va_up a 3 δ) δ κ s w H) = some (some (.int v), md (va_up a 3 δ) δ κ' s w H) := by
  have eN := hw.eN
  have h2N : 2 ^ nn (δ 0) ≤ 1024 := Nat.pow_le_pow_right (j := 10) (by decide) eN.2
  have hsh : (1 : Int32) <<< (δ 0 &&& 31) = nI (2 ^ nn (δ 0)) := by
    have := sh1 (nn (δ 0)) (by omega)
    rw [← eN.1] at this
    exact this
  intro u
  induction u with
  | zero =>
    intro t e κ bst l4 hb
    have e' : t = 2 ^ nn (δ 0) := by omega
    subst e'
    have hcc : (nI (2 ^ nn (δ 0)) ≤ nI (2 ^ nn (δ 0))) = True := eq_true (Int32.le_refl _)
    rcases hb with ⟨rfl, hb⟩ | ⟨r, rfl, hb⟩
    · refine ⟨κ, -1000000005, Or.inr ⟨rfl, hb⟩, ?_⟩
      rw [S157_30]
      simp only [S157_31, S157_32, S157_33, S157_36, S157_37, S157_38, S157_39, S157_140, S157_141, S157_144, S157_146, S157_149, S157_150, Option.bind_some, Option.map_some, xpush_s, xpush_n, xcat_0, xcat_i, xcat_r, xcat_l, xcat_n, xcat_e, xir_r, Nat.reduceAdd, Nat.reduceLeDiff, Nat.zero_le, Nat.le_refl, ↓reduceIte, Dg, Dr, ix_0, hsh, hcc, show ¬ (0 : Int32) ≤ -1 by decide]
    · have hr : r < 2 ^ nn (δ 0) := hb.1
      refine ⟨κ, nI r, Or.inl ⟨r, rfl, hb⟩, ?_⟩
      rw [S157_30]
      simp only [S157_31, S157_32, S157_33, S157_36, S157_37, S157_38, S157_39, S157_140, S157_141, S157_144, S157_146, S157_149, S157_150, Option.bind_some, Option.map_some, xpush_s, xpush_n, xcat_0, xcat_i, xcat_r, xcat_l, xcat_n, xcat_e, xir_r, Nat.reduceAdd, Nat.reduceLeDiff, Nat.zero_le, Nat.le_refl, ↓reduceIte, Dg, Dr, ix_0, hsh, hcc, show (0 : Int32) ≤ nI r from nI_pos' (by omega)]
  | succ u ih =>
    intro t e κ bst l4 hb
    have ht : t < 1024 := by omega
    have hc : ¬ nI (2 ^ nn (δ 0)) ≤ nI t := nI_ge (by omega) (by omega)
    have hmw := mw_rub t (nn (δ 0)) 0 (by omega) δ hw
    have lt := pcK_10 t 10
    have hot := ones_n t ht
    -- trying t
    have hi := m_rbI (a := va_up a 3 δ) (s := s) (w := w) (H := H) (d + 5) (x := nI k) (y := bst) eN.2 ht κ (nn (δ 0)) 0 (by omega) δ eN.1
    obtain ⟨κ1, e1⟩ := s_months (a := va_up a 3 δ) (κ := κ) (s := s) (w := w) (H := H) d hk hmw.1 (by rw [hmw.2 7 fx7]; exact hq)
    have hmm := mw_months q k _ hmw.1
    have hback := fun d => m_cpb (a := a) (κ := κ1) (s := s) (w := w) (H := H) d hmm.1.z hw.z
    have try_t : sWet q k δ t → RF 157 (Ev (d + 6)) 57 [some (.ref 58), some (.int (nI k)), some (.int bst), some (.int (nI t)), l4] [] (md (va_up a 3 δ) δ κ s w H) = RF 157 (Ev (d + 6)) 30 [some (.ref 58), some (.int (nI k)), some (.int (nI t)), some (.int (nI (t + 1))), some (.int (nI (nn (δ 0))))] [] (md (va_up a 3 δ) δ κ1 s w H) := by
      intro h3
      have h3' : sDry (sMonths q k (sRub t (nn (δ 0)) 0 δ)) 12 = 0 := h3
      simp only [S157_57, S157_58, Option.bind_some, Option.map_some, xpush_s, xpush_n, xcat_0, xcat_i, xcat_r, xcat_l, xcat_n, xcat_e, xir_r, Nat.reduceAdd, Nat.reduceLeDiff, Nat.zero_le, Nat.le_refl, ↓reduceIte]
      refine hi.trans ?_
      simp only [S157_105, S157_106, S157_107, S157_110, S157_111, S157_114, S157_117, S157_118, S157_121, S157_122, S157_123, S157_124, S157_127, S157_128, S157_131, S157_134, S157_137, Option.bind_some, Option.map_some, xpush_s, xpush_n, xcat_0, xcat_i, xcat_r, xcat_l, xcat_n, xcat_e, xir_r, Nat.reduceAdd, Nat.reduceLeDiff, Nat.zero_le, Nat.le_refl, ↓reduceIte, Dcls, e1, m_dry, h3', Dg, Dg3, hback, nI_1]
    have try_f : ¬ sWet q k δ t → RF 157 (Ev (d + 6)) 57 [some (.ref 58), some (.int (nI k)), some (.int bst), some (.int (nI t)), l4] [] (md (va_up a 3 δ) δ κ s w H) = RF 157 (Ev (d + 6)) 30 [some (.ref 58), some (.int (nI k)), some (.int bst), some (.int (nI (t + 1))), some (.int (nI (nn (δ 0))))] [] (md (va_up a 3 δ) δ κ1 s w H) := by
      intro h3
      have h3' : ¬ sDry (sMonths q k (sRub t (nn (δ 0)) 0 δ)) 12 = 0 := h3
      simp only [S157_57, S157_58, Option.bind_some, Option.map_some, xpush_s, xpush_n, xcat_0, xcat_i, xcat_r, xcat_l, xcat_n, xcat_e, xir_r, Nat.reduceAdd, Nat.reduceLeDiff, Nat.zero_le, Nat.le_refl, ↓reduceIte]
      refine hi.trans ?_
      simp only [S157_105, S157_106, S157_107, S157_110, S157_111, S157_114, S157_117, S157_118, S157_121, S157_122, S157_123, S157_124, S157_127, S157_128, S157_131, S157_134, S157_137, Option.bind_some, Option.map_some, xpush_s, xpush_n, xcat_0, xcat_i, xcat_r, xcat_l, xcat_n, xcat_e, xir_r, Nat.reduceAdd, Nat.reduceLeDiff, Nat.zero_le, Nat.le_refl, ↓reduceIte, Dcls, e1, m_dry, h3', Dg, Dg3, hback, nI_1]
    rcases hb with ⟨rfl, hb⟩ | ⟨r, rfl, hb⟩
    · have head : RF 157 (Ev (d + 6)) 30 [some (.ref 58), some (.int (nI k)), some (.int (-1)), some (.int (nI t)), l4] [] (md (va_up a 3 δ) δ κ s w H) = RF 157 (Ev (d + 6)) 57 [some (.ref 58), some (.int (nI k)), some (.int (-1)), some (.int (nI t)), l4] [] (md (va_up a 3 δ) δ κ s w H) := by
        rw [S157_30]
        simp only [S157_31, S157_32, S157_33, S157_36, S157_37, S157_38, S157_39, S157_42, S157_43, S157_46, S157_47, S157_50, S157_51, S157_54, Option.bind_some, Option.map_some, xpush_s, xpush_n, xcat_0, xcat_i, xcat_r, xcat_l, xcat_n, xcat_e, xir_r, Nat.reduceAdd, Nat.reduceLeDiff, Nat.zero_le, Nat.le_refl, ↓reduceIte, Dg, Dr, ix_0, hsh, hc, show ((-1 : Int32) < 0) = True from eq_true (by decide)]
      by_cases h3 : sWet q k δ t
      · obtain ⟨κ2, v, c1, c2⟩ := ih (t + 1) (by omega) κ1 (nI t) (some (.int (nI (nn (δ 0))))) (Or.inr ⟨t, rfl, by show t < t + 1; omega, h3, fun S x y => by
          have x' : S < t + 1 := x
          by_cases g : S = t
          · subst g; right; exact ⟨rfl, Nat.le_refl _⟩
          · exact absurd y (hb S (by omega))⟩)
        exact ⟨κ2, v, c1, by rw [head, try_t h3]; exact c2⟩
      · obtain ⟨κ2, v, c1, c2⟩ := ih (t + 1) (by omega) κ1 (-1) (some (.int (nI (nn (δ 0))))) (Or.inl ⟨rfl, fun S x => by
          by_cases g : S = t
          · subst g; exact h3
          · exact hb S (by omega)⟩)
        exact ⟨κ2, v, c1, by rw [head, try_f h3]; exact c2⟩
    · have hr : r < t := hb.1
      have lr := pcK_10 r 10
      have hor := ones_n r (by omega)
      have hr0 : ¬ nI r < 0 := nI_pos (by omega)
      by_cases hp : pcK t 10 < pcK r 10
      · have hcp : ¬ nI (pcK r 10) ≤ nI (pcK t 10) := nI_ge hp (by omega)
        have head : RF 157 (Ev (d + 6)) 30 [some (.ref 58), some (.int (nI k)), some (.int (nI r)), some (.int (nI t)), l4] [] (md (va_up a 3 δ) δ κ s w H) = RF 157 (Ev (d + 6)) 57 [some (.ref 58), some (.int (nI k)), some (.int (nI r)), some (.int (nI t)), l4] [] (md (va_up a 3 δ) δ κ s w H) := by
          rw [S157_30]
          simp only [S157_31, S157_32, S157_33, S157_36, S157_37, S157_38, S157_39, S157_42, S157_43, S157_46, S157_47, S157_50, S157_51, S157_54, Option.bind_some, Option.map_some, xpush_s, xpush_n, xcat_0, xcat_i, xcat_r, xcat_l, xcat_n, xcat_e, xir_r, Nat.reduceAdd, Nat.reduceLeDiff, Nat.zero_le, Nat.le_refl, ↓reduceIte, Dg, Dr, ix_0, hsh, hc, hr0, s_ones, hot, hor, hcp]
        by_cases h3 : sWet q k δ t
        · obtain ⟨κ2, v, c1, c2⟩ := ih (t + 1) (by omega) κ1 (nI t) (some (.int (nI (nn (δ 0))))) (Or.inr ⟨t, rfl, by show t < t + 1; omega, h3, fun S x y => by
            have x' : S < t + 1 := x
            by_cases g : S = t
            · subst g; right; exact ⟨rfl, Nat.le_refl _⟩
            · have := hb.2.2 S (by show S < t; omega) y
              left; omega⟩)
          exact ⟨κ2, v, c1, by rw [head, try_t h3]; exact c2⟩
        · obtain ⟨κ2, v, c1, c2⟩ := ih (t + 1) (by omega) κ1 (nI r) (some (.int (nI (nn (δ 0))))) (Or.inr ⟨r, rfl, by show r < t + 1; omega, hb.2.1, fun S x y => by
            have x' : S < t + 1 := x
            by_cases g : S = t
            · subst g; exact absurd y h3
            · exact hb.2.2 S (by show S < t; omega) y⟩)
          exact ⟨κ2, v, c1, by rw [head, try_f h3]; exact c2⟩
      · have hcp : nI (pcK r 10) ≤ nI (pcK t 10) := nI_le (by omega) (by omega)
        obtain ⟨κ2, v, c1, c2⟩ := ih (t + 1) (by omega) κ (nI r) l4 (Or.inr ⟨r, rfl, by show r < t + 1; omega, hb.2.1, fun S x y => by
            have x' : S < t + 1 := x
            by_cases g : S = t
            · subst g
              rcases (show pcK r 10 < pcK S 10 ∨ pcK r 10 = pcK S 10 by omega) with z | z
              · exact Or.inl z
              · exact Or.inr ⟨z, by omega⟩
            · exact hb.2.2 S (by show S < t; omega) y⟩)
        refine ⟨κ2, v, c1, ?_⟩
        rw [S157_30]
        simp only [S157_31, S157_32, S157_33, S157_36, S157_37, S157_38, S157_39, S157_42, S157_43, S157_46, S157_47, S157_50, S157_51, S157_54, S157_134, S157_137, Option.bind_some, Option.map_some, xpush_s, xpush_n, xcat_0, xcat_i, xcat_r, xcat_l, xcat_n, xcat_e, xir_r, Nat.reduceAdd, Nat.reduceLeDiff, Nat.zero_le, Nat.le_refl, ↓reduceIte, Dg, Dr, ix_0, hsh, hc, hr0, s_ones, hot, hor, hcp, nI_1]
        exact c2
end RUBM
theorem rb_same {W : Nat → Prop} {M P : Nat} (hM : M < P) (hP : P ≤ 1024) (hPM : ∀ S, S &&& M = S → S < P) (hW : ∀ S, W S ↔ W (S &&& M)) {v v' : Int32} (h : rbV W (fun S => S &&& M = S) v) (h' : rbV W (fun S => S < P) v') : v = v' := by
  have im : ∀ r, (r &&& M) &&& M = r &&& M := fun r => by rw [Nat.and_assoc, Nat.and_self]
  rcases h with ⟨r, rfl, h⟩ | ⟨rfl, h⟩
  · rcases h' with ⟨r', rfl, h'⟩ | ⟨rfl, h'⟩
    · rw [mst_e hM hP hPM hW h h']
    · exact absurd h.2.1 (h' r (hPM r h.1))
  · rcases h' with ⟨r', rfl, h'⟩ | ⟨rfl, h'⟩
    · exact absurd ((hW r').mp h'.2.1) (h (r' &&& M) (im r'))
    · rfl
theorem k_rub (x : Int32) : CL 80 157 [.int x] := by
  intro d m h hI
  obtain ⟨δ, τ1, ε, τ2, ζ, τ3, κ, n, l, ke, op, sz, B, S, b, a, s, w, X, rfl, R⟩ := hI
  have hw := R.1
  have hmo := R.2.1
  have ha1 := R.2.2.1
  have hmd := fun Z => md_of (s := s) (w := w) (Z := Z) ha1
  have n1 : ¬ (1 : Int32) = 0 := by decide
  by_cases c1 : bd x 20
  · have o1 := fun d h => ou_f d h (v := x) (n := 20) (N := 20) rfl (by decide) c1
    have i1 := fun d h => in_t d h (v := x) (n := 20) (N := 20) rfl (by decide) c1
    obtain ⟨k, hk, rfl⟩ := c1
    have eN := hw.eN
    have h2N : 2 ^ nn (δ 0) ≤ 1024 := Nat.pow_le_pow_right (j := 10) (by decide) eN.2
    have hM : sMat δ (nn (δ 0)) < 2 ^ nn (δ 0) := nSet_lt _ _
    have hbc : bC (nI (sMat δ (nn (δ 0)))) = nI (pcK (sMat δ (nn (δ 0))) 10) := by rw [bC_n _ (by omega), ones_n _ (by omega)]
    have z3 : z60 (a 3) := R.2.2.2.2.2.2.2.2.2.2.1
    obtain ⟨q, hq1, hq2⟩ := TXT_3 R
    obtain ⟨ζ2, τ9, κ1, v, hv, e1⟩ := c_rbO (l := l) (ke := ke) (op := op) (sz := sz) (S := S) (w := w) R (d + 193) hq1 (k := k) (M := sMat δ (nn (δ 0))) (by omega) (by omega) (pcK (sMat δ (nn (δ 0))) 10 + 1) 0 (by omega) ζ τ3 κ none (fun S _ z => absurd z (by omega))
    obtain ⟨κ2, v', hv', e2⟩ := m_rbL (a := a) (s := s) (w := w) (H := cG δ τ1 ε τ2 ζ2 τ9 κ1 n l ke op sz B S b X) (d + 193) (q := q) (k := k) (by omega) hw hq2 (2 ^ nn (δ 0)) 0 (by omega) (a 9) (-1) none (Or.inl ⟨rfl, fun S z => absurd z (by omega)⟩)
    have hs := rb_same hM h2N (fun S e => by have := Nat.and_le_right (n := S) (m := sMat δ (nn (δ 0))); omega) (fun S => wet_and hw S) hv hv'
    subst hs
    refine combT v ζ2 τ9 κ1 κ2 R ?_ ?_
    · rw [E80]
      simp only [S80_0, S80_1, S80_2, S80_4, S80_7, S80_10, S80_12, S80_13, S80_14, S80_17, S80_20, S80_21, S80_22, S80_25, S80_26, S80_27, Option.bind_some, Option.map_some, xpush_s, xpush_n, xcat_0, xcat_i, xcat_r, xcat_l, xcat_n, xcat_e, xir_r, Nat.reduceAdd, Nat.reduceLeDiff, Nat.zero_le, Nat.le_refl, ↓reduceIte, o1, C_0, N_cls, G_mat _ hw, s_bitCount, hbc]
      exact e1
    · rw [E157]
      simp only [S157_0, S157_1, S157_2, S157_3, S157_6, S157_9, S157_12, S157_14, S157_15, S157_16, S157_19, S157_20, S157_23, S157_26, S157_27, S157_28, S157_29, Option.bind_some, Option.map_some, xpush_s, xpush_n, xcat_0, xcat_i, xcat_r, xcat_l, xcat_n, xcat_e, xir_r, Nat.reduceAdd, Nat.reduceLeDiff, Nat.zero_le, Nat.le_refl, ↓reduceIte, i1, n1, Dg, Dg3, m_cpi3 _ hw.z z3]
      exact e2
  · refine comb0 (v := -1000000001) R ?_ ?_
    · rw [E80]
      simp only [S80_0, S80_1, S80_2, S80_4, S80_7, S80_10, S80_12, S80_13, S80_14, S80_17, S80_20, S80_21, S80_22, S80_25, S80_26, S80_27, Option.bind_some, Option.map_some, xpush_s, xpush_n, xcat_0, xcat_i, xcat_r, xcat_l, xcat_n, xcat_e, xir_r, Nat.reduceAdd, Nat.reduceLeDiff, Nat.zero_le, Nat.le_refl, ↓reduceIte, n1, ou_t _ _ (n := 20) (N := 20) rfl (by decide) c1]
    · rw [E157]
      simp only [S157_0, S157_1, S157_2, S157_3, S157_6, S157_9, S157_12, S157_14, S157_15, S157_16, S157_19, S157_20, S157_23, S157_26, S157_27, S157_28, S157_29, Option.bind_some, Option.map_some, xpush_s, xpush_n, xcat_0, xcat_i, xcat_r, xcat_l, xcat_n, xcat_e, xir_r, Nat.reduceAdd, Nat.reduceLeDiff, Nat.zero_le, Nat.le_refl, ↓reduceIte, n1, in_f _ _ (n := 20) (N := 20) rfl (by decide) c1]

