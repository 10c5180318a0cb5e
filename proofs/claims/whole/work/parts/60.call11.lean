/-! part 60, by program (wip/whole/gen/calls11.py): calls, eleventh lot: check -/
theorem nw_0 : (narrow .boolean (.int 0) = Value.int 0) = True := eq_true rfl
theorem nw_1 : (narrow .boolean (.int 1) = Value.int 1) = True := eq_true rfl
theorem c_dif (d : Nat) {δ ε ζ : Nat → Int32} {τ1 τ2 τ3 : xt} {κ : Nat → Nat → Int32} {n : Nat} {l : lk} {ke op sz : Int32} {B S : Nat → Int32} {b : Nat → Nat → Int32} {H : xh} {K t : Nat} (hK : K ≤ 60) (ht : t ≤ 61) (v : Int32) : Ev (d + 2) 106 [.ref 0, .int (nI t), .int (nI K), .int v] (cG δ τ1 ε τ2 ζ τ3 κ n l ke op sz B S b H) = some (some (.int (if t < K ∧ b 34 t = v then 0 else 1)), cG δ τ1 ε τ2 ζ τ3 κ n l ke op sz B S b H) := by
  rw [E106]
  by_cases h : t < K
  · have hc : ¬ nI K ≤ nI t := nI_ge h (by omega)
    have hx := xix_n (show t < 60 by omega) (show 60 ≤ 100000 by decide)
    by_cases e : b 34 t = v
    · rw [if_pos ⟨h, e⟩]
      simp only [S106_0, S106_1, S106_2, S106_5, S106_6, S106_7, S106_9, S106_12, S106_15, S106_16, S106_19, S106_20, S106_21, S106_22, S106_25, S106_26, S106_29, S106_30, Option.bind_some, Option.map_some, xpush_s, xpush_n, xcat_0, xcat_i, xcat_r, xcat_l, xcat_n, xcat_e, xir_r, Nat.reduceAdd, Nat.reduceLeDiff, Nat.zero_le, Nat.le_refl, ↓reduceIte, hc, ou_f _ _ (n := 59) (N := 59) rfl (by decide) (show bd (nI t) 59 from ⟨t, by omega, rfl⟩), C_8, C_r34, hx, e, nw_0, nw_1]
    · rw [if_neg (fun q => e q.2)]
      simp only [S106_0, S106_1, S106_2, S106_5, S106_6, S106_7, S106_9, S106_12, S106_15, S106_16, S106_19, S106_20, S106_21, S106_22, S106_25, S106_26, S106_29, S106_30, Option.bind_some, Option.map_some, xpush_s, xpush_n, xcat_0, xcat_i, xcat_r, xcat_l, xcat_n, xcat_e, xir_r, Nat.reduceAdd, Nat.reduceLeDiff, Nat.zero_le, Nat.le_refl, ↓reduceIte, hc, ou_f _ _ (n := 59) (N := 59) rfl (by decide) (show bd (nI t) 59 from ⟨t, by omega, rfl⟩), C_8, C_r34, hx, e, nw_0, nw_1]
  · have hc : nI K ≤ nI t := nI_le (by omega) (by omega)
    rw [if_neg (fun q => h q.1)]
    simp only [S106_0, S106_1, S106_2, S106_5, S106_6, S106_7, S106_9, S106_12, S106_15, S106_16, S106_19, S106_20, S106_21, S106_22, S106_25, S106_26, S106_29, S106_30, Option.bind_some, Option.map_some, xpush_s, xpush_n, xcat_0, xcat_i, xcat_r, xcat_l, xcat_n, xcat_e, xir_r, Nat.reduceAdd, Nat.reduceLeDiff, Nat.zero_le, Nat.le_refl, ↓reduceIte, hc, nw_0, nw_1]
/-- what check answers: j months still to see, i seen -/
def ckF (q : Option xq) (W : Nat → Int32) (K : Nat) : Nat → Nat → (Nat → Int32) → Nat
  | 0, i, _ => if 2 * i < K then 1 + 2 * i else 0
  | j + 1, i, δ => if 2 * i < K ∧ W (2 * i) = sMonth q δ 4 then (if 2 * i + 1 < K ∧ W (2 * i + 1) = sWat (sMonth q δ) 12 then ckF q W K j (i + 1) (sMonth q δ) else 2 + 2 * i) else 1 + 2 * i
theorem tw2 (i : Nat) : (2 : Int32) * nI i = nI (2 * i) := pk_mul 2 i
theorem o_n (i : Nat) : (1 : Int32) + nI i = nI (1 + i) := nI_add 1 i
theorem t_n (i : Nat) : (2 : Int32) + nI i = nI (2 + i) := nI_add 2 i
theorem c_ck_l (d : Nat) {δ ε ζ : Nat → Int32} {τ1 τ2 τ3 : xt} {κ : Nat → Nat → Int32} {n : Nat} {l : lk} {ke op sz : Int32} {B S : Nat → Int32} {b : Nat → Nat → Int32} {a : Nat → Nat → Int32} {s : Nat → Int32} {w : Int64} {X : xh} {q : Option xq} (hq : LW X τ3 0 q) {K C : Nat} (hK : K ≤ 60) (hC : C ≤ 30) {x : Int32} : ∀ j i, i + j = C → ∀ (ζ : Nat → Int32) (κ : Nat → Nat → Int32), wf ζ → ∃ ζ' κ', RF 105 (Ev (d + 5)) 64 [some (.ref 0), some (.int x), some (.int (nI K)), some (.int (nI C)), some (.int (nI i))] [] (cG δ τ1 ε τ2 ζ τ3 κ n l ke op sz B S b (mh a s w X)) = some (some (.int (nI (ckF q (b 34) K j i ζ))), cG δ τ1 ε τ2 ζ' τ3 κ' n l ke op sz B S b (mh a s w X)) := by
  intro j
  induction j with
  | zero =>
    intro i e ζ κ hw
    have e' : i = C := by omega
    subst e'
    refine ⟨ζ, κ, ?_⟩
    rw [S105_64]
    by_cases h : 2 * i < K
    · have hc : ¬ nI K ≤ nI (2 * i) := nI_ge (by omega) (by omega)
      rw [show ckF q (b 34) K 0 i ζ = 1 + 2 * i from if_pos h]
      simp only [S105_66, S105_67, S105_70, S105_71, S105_74, S105_75, S105_78, S105_79, S105_80, S105_82, S105_83, S105_84, S105_85, S105_88, S105_91, S105_94, S105_97, S105_98, S105_99, S105_101, S105_102, S105_103, S105_104, S105_105, S105_106, S105_108, S105_109, S105_110, S105_111, S105_112, S105_113, S105_116, S105_119, S105_122, S105_125, S105_126, S105_127, S105_129, S105_130, S105_131, S105_132, S105_135, S105_138, S105_139, S105_140, S105_141, S105_142, S105_145, S105_146, S105_147, S105_148, S105_149, S105_150, S105_153, S105_154, Option.bind_some, Option.map_some, xpush_s, xpush_n, xcat_0, xcat_i, xcat_r, xcat_l, xcat_n, xcat_e, xir_r, Nat.reduceAdd, Nat.reduceLeDiff, Nat.zero_le, Nat.le_refl, ↓reduceIte, show (nI i ≤ nI i) = True from eq_true (Int32.le_refl _), tw2, o_n, hc]
    · have hc : nI K ≤ nI (2 * i) := nI_le (by omega) (by omega)
      rw [show ckF q (b 34) K 0 i ζ = 0 from if_neg h]
      simp only [S105_66, S105_67, S105_70, S105_71, S105_74, S105_75, S105_78, S105_79, S105_80, S105_82, S105_83, S105_84, S105_85, S105_88, S105_91, S105_94, S105_97, S105_98, S105_99, S105_101, S105_102, S105_103, S105_104, S105_105, S105_106, S105_108, S105_109, S105_110, S105_111, S105_112, S105_113, S105_116, S105_119, S105_122, S105_125, S105_126, S105_127, S105_129, S105_130, S105_131, S105_132, S105_135, S105_138, S105_139, S105_140, S105_141, S105_142, S105_145, S105_146, S105_147, S105_148, S105_149, S105_150, S105_153, S105_154, Option.bind_some, Option.map_some, xpush_s, xpush_n, xcat_0, xcat_i, xcat_r, xcat_l, xcat_n, xcat_e, xir_r, Nat.reduceAdd, Nat.reduceLeDiff, Nat.zero_le, Nat.le_refl, ↓reduceIte, show (nI i ≤ nI i) = True from eq_true (Int32.le_refl _), tw2, o_n, hc]
      rfl
  | succ j ih =>
    intro i e ζ κ hw
    have hc : ¬ nI C ≤ nI i := nI_ge (by omega) (by omega)
    have e1 : ∃ κ', Ev (d + 5) 10 [.ref 19, .int 1] (cG δ τ1 ε τ2 ζ τ3 κ n l ke op sz B S b (mh a s w X)) = some (none, cG δ τ1 ε τ2 (sMonth q ζ) τ3 κ' n l ke op sz B S b (mh a s w X)) := Q_pass d hw hi_mh hq (k := 1) (by decide)
    obtain ⟨κ1, e1⟩ := e1
    have hmw := mw_month q hw
    have d1 := c_dif (δ := δ) (τ1 := τ1) (ε := ε) (τ2 := τ2) (ζ := sMonth q ζ) (τ3 := τ3) (κ := κ1) (n := n) (l := l) (ke := ke) (op := op) (sz := sz) (B := B) (S := S) (b := b) (H := mh a s w X) (d + 3) (t := 2 * i) hK (by omega) (sMonth q ζ 4)
    have d2 := c_dif (δ := δ) (τ1 := τ1) (ε := ε) (τ2 := τ2) (ζ := sMonth q ζ) (τ3 := τ3) (κ := κ1) (n := n) (l := l) (ke := ke) (op := op) (sz := sz) (B := B) (S := S) (b := b) (H := mh a s w X) (d + 3) (t := 2 * i + 1) hK (by omega) (sWat (sMonth q ζ) 12)
    rw [S105_64]
    by_cases h1 : 2 * i < K ∧ b 34 (2 * i) = sMonth q ζ 4
    · rw [if_pos h1] at d1
      by_cases h2 : 2 * i + 1 < K ∧ b 34 (2 * i + 1) = sWat (sMonth q ζ) 12
      · rw [if_pos h2] at d2
        obtain ⟨ζ2, κ2, h3⟩ := ih (i + 1) (by omega) (sMonth q ζ) κ1 hmw.1
        refine ⟨ζ2, κ2, ?_⟩
        rw [show ckF q (b 34) K (j + 1) i ζ = ckF q (b 34) K j (i + 1) (sMonth q ζ) from (if_pos h1).trans (if_pos h2), ← h3]
        simp only [S105_66, S105_67, S105_70, S105_71, S105_74, S105_75, S105_78, S105_79, S105_80, S105_82, S105_83, S105_84, S105_85, S105_88, S105_91, S105_94, S105_97, S105_98, S105_99, S105_101, S105_102, S105_103, S105_104, S105_105, S105_106, S105_108, S105_109, S105_110, S105_111, S105_112, S105_113, S105_116, S105_119, S105_122, S105_125, S105_126, S105_127, S105_129, S105_130, S105_131, S105_132, S105_135, Option.bind_some, Option.map_some, xpush_s, xpush_n, xcat_0, xcat_i, xcat_r, xcat_l, xcat_n, xcat_e, xir_r, Nat.reduceAdd, Nat.reduceLeDiff, Nat.zero_le, Nat.le_refl, ↓reduceIte, hc, C_2, Q_cls, C_cls, e1, tw2, nI_1, Q_g8, Q_wat, d1, d2]
      · rw [if_neg h2] at d2
        refine ⟨sMonth q ζ, κ1, ?_⟩
        rw [show ckF q (b 34) K (j + 1) i ζ = 2 + 2 * i from (if_pos h1).trans (if_neg h2)]
        simp only [S105_66, S105_67, S105_70, S105_71, S105_74, S105_75, S105_78, S105_79, S105_80, S105_82, S105_83, S105_84, S105_85, S105_88, S105_91, S105_94, S105_97, S105_98, S105_99, S105_101, S105_102, S105_103, S105_104, S105_105, S105_106, S105_108, S105_109, S105_110, S105_111, S105_112, S105_113, S105_116, S105_119, S105_122, S105_125, S105_126, S105_127, S105_129, S105_130, S105_131, S105_132, S105_135, Option.bind_some, Option.map_some, xpush_s, xpush_n, xcat_0, xcat_i, xcat_r, xcat_l, xcat_n, xcat_e, xir_r, Nat.reduceAdd, Nat.reduceLeDiff, Nat.zero_le, Nat.le_refl, ↓reduceIte, hc, C_2, Q_cls, C_cls, e1, tw2, nI_1, t_n, Q_g8, Q_wat, d1, d2, show ¬ (1 : Int32) = 0 by decide]
    · rw [if_neg h1] at d1
      refine ⟨sMonth q ζ, κ1, ?_⟩
      rw [show ckF q (b 34) K (j + 1) i ζ = 1 + 2 * i from if_neg h1]
      simp only [S105_66, S105_67, S105_70, S105_71, S105_74, S105_75, S105_78, S105_79, S105_80, S105_82, S105_83, S105_84, S105_85, S105_88, S105_91, S105_94, S105_97, S105_98, S105_99, S105_101, S105_102, S105_103, S105_104, S105_105, S105_106, S105_108, S105_109, S105_110, S105_111, S105_112, S105_113, S105_116, S105_119, S105_122, S105_125, S105_126, S105_127, S105_129, S105_130, S105_131, S105_132, S105_135, Option.bind_some, Option.map_some, xpush_s, xpush_n, xcat_0, xcat_i, xcat_r, xcat_l, xcat_n, xcat_e, xir_r, Nat.reduceAdd, Nat.reduceLeDiff, Nat.zero_le, Nat.le_refl, ↓reduceIte, hc, C_2, Q_cls, C_cls, e1, tw2, nI_1, o_n, Q_g8, Q_wat, d1, show ¬ (1 : Int32) = 0 by decide]
section CHK
variable {a : Nat → Nat → Int32} {κ s : Nat → Int32} {w : Int64} {H : xh} {δ : Nat → Int32}
theorem Dg37 : hgf (md a δ κ s w H) (.ref 58) 6 37 = some (.ref 83) := (rfl)
theorem Dr25 (i : Int32) : hrd (md a δ κ s w H) (.ref 83) 0 i = (xix i 60).map (a 25) := by unfold md; rw [Mr_25, vaj _ _ _ (by decide) (by decide)]
theorem rmE {i : Nat} (h : i ≤ 30) : nI (2 * i) - nI (2 * i) / 2 * 2 = 0 := (pk_rem (a := 2 * i) (d := 2) (by omega) (by decide) (by decide)).trans (by rw [Nat.mul_mod_right]; rfl)
theorem rmO {i : Nat} (h : i ≤ 30) : nI (2 * i + 1) - nI (2 * i + 1) / 2 * 2 = 1 := (pk_rem (a := 2 * i + 1) (d := 2) (by omega) (by decide) (by decide)).trans (by rw [show (2 * i + 1) % 2 = 1 by omega]; rfl)

theorem m_ckET (d : Nat) {K C i : Nat} (hK : K ≤ 60) (hC : C ≤ 30) (hiC : i < C) {δ D : Nat → Int32} {κ1 : Nat → Int32} (e1 : Ev (d + 5) 146 [.ref 58] (md a δ κ s w H) = some (none, md a D κ1 s w H)) {x : Int32} (h : 2 * i < K ∧ a 25 (2 * i) = D 4) : RF 194 (Ev (d + 5)) 85 [some (.ref 58), some (.int x), some (.int (nI K)), some (.int (nI (2 * C))), some (.int (nI (2 * i))), some (.int 1), some (.int (nI (2 * i)))] [] (md a δ κ s w H) = RF 194 (Ev (d + 5)) 85 [some (.ref 58), some (.int x), some (.int (nI K)), some (.int (nI (2 * C))), some (.int (nI (2 * i + 1))), some (.int 1), some (.int (nI (2 * i + 1)))] [] (md a D κ1 s w H) := by
  have hi : i ≤ 30 := by omega
  have hc : ¬ nI (2 * C) ≤ nI (2 * i) := nI_ge (by omega) (by omega)
  have hk : ¬ nI K ≤ nI (2 * i) := nI_ge h.1 (by omega)
  have hx := xix_n (show 2 * i < 60 by omega) (show 60 ≤ 100000 by decide)
  rw [S194_85]
  simp only [S194_87, S194_88, S194_91, S194_93, S194_96, S194_98, S194_99, S194_100, S194_103, S194_104, S194_107, S194_109, S194_110, S194_113, S194_114, S194_117, S194_119, S194_120, S194_122, S194_123, S194_124, S194_127, S194_128, S194_131, S194_132, S194_133, S194_136, S194_137, S194_140, S194_143, S194_144, S194_147, S194_148, S194_150, S194_152, S194_154, S194_157, S194_158, S194_161, S194_162, S194_163, S194_165, S194_168, Option.bind_some, Option.map_some, xpush_s, xpush_n, xcat_0, xcat_i, xcat_r, xcat_l, xcat_n, xcat_e, xir_r, Nat.reduceAdd, Nat.reduceLeDiff, Nat.zero_le, Nat.le_refl, ↓reduceIte, hc, hk, Dcls, Dg, Dr, Dg37, Dr25, hx, h.2, e1, rmE hi, ix_4, nI_1, show ¬ (1 : Int32) = 0 by decide, show ¬ (2 : Int32) = 0 by decide]
theorem m_ckEF (d : Nat) {K C i : Nat} (hK : K ≤ 60) (hC : C ≤ 30) (hiC : i < C) {δ D : Nat → Int32} {κ1 : Nat → Int32} (e1 : Ev (d + 5) 146 [.ref 58] (md a δ κ s w H) = some (none, md a D κ1 s w H)) {x : Int32} (h : ¬ (2 * i < K ∧ a 25 (2 * i) = D 4)) : RF 194 (Ev (d + 5)) 85 [some (.ref 58), some (.int x), some (.int (nI K)), some (.int (nI (2 * C))), some (.int (nI (2 * i))), some (.int 1), some (.int (nI (2 * i)))] [] (md a δ κ s w H) = RF 194 (Ev (d + 5)) 171 [some (.ref 58), some (.int x), some (.int (nI K)), some (.int (nI (2 * C))), some (.int (nI (2 * i))), some (.int 0), some (.int (nI (2 * i + 1)))] [] (md a D κ1 s w H) := by
  have hi : i ≤ 30 := by omega
  have hc : ¬ nI (2 * C) ≤ nI (2 * i) := nI_ge (by omega) (by omega)
  have hS : ∀ Z, RF 194 (Ev (d + 5)) 85 [some (.ref 58), some (.int x), some (.int (nI K)), some (.int (nI (2 * C))), some (.int (nI (2 * i))), some (.int 0), some (.int (nI (2 * i + 1)))] [] Z = RF 194 (Ev (d + 5)) 171 [some (.ref 58), some (.int x), some (.int (nI K)), some (.int (nI (2 * C))), some (.int (nI (2 * i))), some (.int 0), some (.int (nI (2 * i + 1)))] [] Z := by
    intro Z
    by_cases q : nI (2 * C) ≤ nI (2 * i + 1)
    · simp only [S194_85, S194_87, S194_88, S194_91, S194_93, Option.bind_some, Option.map_some, xpush_s, xpush_n, xcat_0, xcat_i, xcat_r, xcat_l, xcat_n, xcat_e, xir_r, Nat.reduceAdd, Nat.reduceLeDiff, Nat.zero_le, Nat.le_refl, ↓reduceIte, q]
    · simp only [S194_85, S194_87, S194_88, S194_91, S194_93, Option.bind_some, Option.map_some, xpush_s, xpush_n, xcat_0, xcat_i, xcat_r, xcat_l, xcat_n, xcat_e, xir_r, Nat.reduceAdd, Nat.reduceLeDiff, Nat.zero_le, Nat.le_refl, ↓reduceIte, q]
  rw [S194_85]
  by_cases hK' : 2 * i < K
  · have hk : ¬ nI K ≤ nI (2 * i) := nI_ge hK' (by omega)
    have hx := xix_n (show 2 * i < 60 by omega) (show 60 ≤ 100000 by decide)
    have hn : ¬ a 25 (2 * i) = D 4 := fun q => h ⟨hK', q⟩
    simp only [S194_87, S194_88, S194_91, S194_93, S194_96, S194_98, S194_99, S194_100, S194_103, S194_104, S194_107, S194_109, S194_110, S194_113, S194_114, S194_117, S194_119, S194_120, S194_122, S194_123, S194_124, S194_127, S194_128, S194_131, S194_132, S194_133, S194_136, S194_137, S194_140, S194_143, S194_144, S194_147, S194_148, S194_150, S194_152, S194_154, S194_157, S194_158, S194_161, S194_162, S194_163, S194_165, S194_168, Option.bind_some, Option.map_some, xpush_s, xpush_n, xcat_0, xcat_i, xcat_r, xcat_l, xcat_n, xcat_e, xir_r, Nat.reduceAdd, Nat.reduceLeDiff, Nat.zero_le, Nat.le_refl, ↓reduceIte, hc, hk, Dcls, Dg, Dr, Dg37, Dr25, hx, hn, e1, rmE hi, ix_4, nI_1, show ¬ (1 : Int32) = 0 by decide, show ¬ (2 : Int32) = 0 by decide, Int32.add_zero, hS]
  · have hk : nI K ≤ nI (2 * i) := nI_le (by omega) (by omega)
    simp only [S194_87, S194_88, S194_91, S194_93, S194_96, S194_98, S194_99, S194_100, S194_103, S194_104, S194_107, S194_109, S194_110, S194_113, S194_114, S194_117, S194_119, S194_120, S194_122, S194_123, S194_124, S194_127, S194_128, S194_131, S194_132, S194_133, S194_136, S194_137, S194_140, S194_143, S194_144, S194_147, S194_148, S194_150, S194_152, S194_154, S194_157, S194_158, S194_161, S194_162, S194_163, S194_165, S194_168, Option.bind_some, Option.map_some, xpush_s, xpush_n, xcat_0, xcat_i, xcat_r, xcat_l, xcat_n, xcat_e, xir_r, Nat.reduceAdd, Nat.reduceLeDiff, Nat.zero_le, Nat.le_refl, ↓reduceIte, hc, hk, Dcls, e1, rmE hi, nI_1, show ¬ (1 : Int32) = 0 by decide, show ¬ (2 : Int32) = 0 by decide, Int32.add_zero, hS]
theorem m_ckOT (d : Nat) {K C i : Nat} (hK : K ≤ 60) (hC : C ≤ 30) (hiC : i < C) {D : Nat → Int32} {x : Int32} (h : 2 * i + 1 < K ∧ a 25 (2 * i + 1) = sWat D 12) : RF 194 (Ev (d + 5)) 85 [some (.ref 58), some (.int x), some (.int (nI K)), some (.int (nI (2 * C))), some (.int (nI (2 * i + 1))), some (.int 1), some (.int (nI (2 * i + 1)))] [] (md a D κ s w H) = RF 194 (Ev (d + 5)) 85 [some (.ref 58), some (.int x), some (.int (nI K)), some (.int (nI (2 * C))), some (.int (nI (2 * i + 1 + 1))), some (.int 1), some (.int (nI (2 * i + 1 + 1)))] [] (md a D κ s w H) := by
  have hi : i ≤ 30 := by omega
  have hc : ¬ nI (2 * C) ≤ nI (2 * i + 1) := nI_ge (by omega) (by omega)
  have hk : ¬ nI K ≤ nI (2 * i + 1) := nI_ge h.1 (by omega)
  have hx := xix_n (show 2 * i + 1 < 60 by omega) (show 60 ≤ 100000 by decide)
  rw [S194_85]
  simp only [S194_87, S194_88, S194_91, S194_93, S194_96, S194_98, S194_99, S194_100, S194_103, S194_104, S194_107, S194_109, S194_110, S194_113, S194_114, S194_117, S194_119, S194_120, S194_122, S194_123, S194_124, S194_127, S194_128, S194_131, S194_132, S194_133, S194_136, S194_137, S194_140, S194_143, S194_144, S194_147, S194_148, S194_150, S194_152, S194_154, S194_157, S194_158, S194_161, S194_162, S194_163, S194_165, S194_168, Option.bind_some, Option.map_some, xpush_s, xpush_n, xcat_0, xcat_i, xcat_r, xcat_l, xcat_n, xcat_e, xir_r, Nat.reduceAdd, Nat.reduceLeDiff, Nat.zero_le, Nat.le_refl, ↓reduceIte, hc, hk, Dcls, Dg, Dr, Dg37, Dr25, hx, h.2, rmO hi, m_wat, ix_4, nI_1, show ¬ (1 : Int32) = 0 by decide, show ¬ (2 : Int32) = 0 by decide]
theorem m_ckOF (d : Nat) {K C i : Nat} (hK : K ≤ 60) (hC : C ≤ 30) (hiC : i < C) {D : Nat → Int32} {x : Int32} (h : ¬ (2 * i + 1 < K ∧ a 25 (2 * i + 1) = sWat D 12)) : RF 194 (Ev (d + 5)) 85 [some (.ref 58), some (.int x), some (.int (nI K)), some (.int (nI (2 * C))), some (.int (nI (2 * i + 1))), some (.int 1), some (.int (nI (2 * i + 1)))] [] (md a D κ s w H) = RF 194 (Ev (d + 5)) 171 [some (.ref 58), some (.int x), some (.int (nI K)), some (.int (nI (2 * C))), some (.int (nI (2 * i + 1))), some (.int 0), some (.int (nI (2 * i + 1 + 1)))] [] (md a D κ s w H) := by
  have hi : i ≤ 30 := by omega
  have hc : ¬ nI (2 * C) ≤ nI (2 * i + 1) := nI_ge (by omega) (by omega)
  have hS : ∀ Z, RF 194 (Ev (d + 5)) 85 [some (.ref 58), some (.int x), some (.int (nI K)), some (.int (nI (2 * C))), some (.int (nI (2 * i + 1))), some (.int 0), some (.int (nI (2 * i + 1 + 1)))] [] Z = RF 194 (Ev (d + 5)) 171 [some (.ref 58), some (.int x), some (.int (nI K)), some (.int (nI (2 * C))), some (.int (nI (2 * i + 1))), some (.int 0), some (.int (nI (2 * i + 1 + 1)))] [] Z := by
    intro Z
    by_cases q : nI (2 * C) ≤ nI (2 * i + 1 + 1)
    · simp only [S194_85, S194_87, S194_88, S194_91, S194_93, Option.bind_some, Option.map_some, xpush_s, xpush_n, xcat_0, xcat_i, xcat_r, xcat_l, xcat_n, xcat_e, xir_r, Nat.reduceAdd, Nat.reduceLeDiff, Nat.zero_le, Nat.le_refl, ↓reduceIte, q]
    · simp only [S194_85, S194_87, S194_88, S194_91, S194_93, Option.bind_some, Option.map_some, xpush_s, xpush_n, xcat_0, xcat_i, xcat_r, xcat_l, xcat_n, xcat_e, xir_r, Nat.reduceAdd, Nat.reduceLeDiff, Nat.zero_le, Nat.le_refl, ↓reduceIte, q]
  rw [S194_85]
  by_cases hK' : 2 * i + 1 < K
  · have hk : ¬ nI K ≤ nI (2 * i + 1) := nI_ge hK' (by omega)
    have hx := xix_n (show 2 * i + 1 < 60 by omega) (show 60 ≤ 100000 by decide)
    have hn : ¬ a 25 (2 * i + 1) = sWat D 12 := fun q => h ⟨hK', q⟩
    simp only [S194_87, S194_88, S194_91, S194_93, S194_96, S194_98, S194_99, S194_100, S194_103, S194_104, S194_107, S194_109, S194_110, S194_113, S194_114, S194_117, S194_119, S194_120, S194_122, S194_123, S194_124, S194_127, S194_128, S194_131, S194_132, S194_133, S194_136, S194_137, S194_140, S194_143, S194_144, S194_147, S194_148, S194_150, S194_152, S194_154, S194_157, S194_158, S194_161, S194_162, S194_163, S194_165, S194_168, Option.bind_some, Option.map_some, xpush_s, xpush_n, xcat_0, xcat_i, xcat_r, xcat_l, xcat_n, xcat_e, xir_r, Nat.reduceAdd, Nat.reduceLeDiff, Nat.zero_le, Nat.le_refl, ↓reduceIte, hc, hk, Dcls, Dg, Dr, Dg37, Dr25, hx, hn, rmO hi, m_wat, ix_4, nI_1, show ¬ (1 : Int32) = 0 by decide, show ¬ (2 : Int32) = 0 by decide, Int32.add_zero, hS]
  · have hk : nI K ≤ nI (2 * i + 1) := nI_le (by omega) (by omega)
    simp only [S194_87, S194_88, S194_91, S194_93, S194_96, S194_98, S194_99, S194_100, S194_103, S194_104, S194_107, S194_109, S194_110, S194_113, S194_114, S194_117, S194_119, S194_120, S194_122, S194_123, S194_124, S194_127, S194_128, S194_131, S194_132, S194_133, S194_136, S194_137, S194_140, S194_143, S194_144, S194_147, S194_148, S194_150, S194_152, S194_154, S194_157, S194_158, S194_161, S194_162, S194_163, S194_165, S194_168, Option.bind_some, Option.map_some, xpush_s, xpush_n, xcat_0, xcat_i, xcat_r, xcat_l, xcat_n, xcat_e, xir_r, Nat.reduceAdd, Nat.reduceLeDiff, Nat.zero_le, Nat.le_refl, ↓reduceIte, hc, hk, Dcls, rmO hi, m_wat, nI_1, show ¬ (1 : Int32) = 0 by decide, show ¬ (2 : Int32) = 0 by decide, Int32.add_zero, hS]
theorem m_ck_l (d : Nat) {q : Option xq} {K C : Nat} (hK : K ≤ 60) (hC : C ≤ 30) {x : Int32} : ∀ j i, i + j = C → 2 * i ≤ K → ∀ (δ κ : Nat → Int32), wf δ → QM a 0 (nn (δ 7)) q → ∃ δ' κ' r f k', wf δ' ∧ r ≤ 60 ∧ ((f = 0 ∧ ckF q (a 25) K j i δ = 1 + r) ∨ (f = 1 ∧ ckF q (a 25) K j i δ = if r = K then 0 else 1 + r)) ∧ RF 194 (Ev (d + 5)) 85 [some (.ref 58), some (.int x), some (.int (nI K)), some (.int (nI (2 * C))), some (.int (nI (2 * i))), some (.int 1), some (.int (nI (2 * i)))] [] (md a δ κ s w H) = RF 194 (Ev (d + 5)) 171 [some (.ref 58), some (.int x), some (.int (nI K)), some (.int (nI (2 * C))), some (.int (nI r)), some (.int f), some (.int (nI k'))] [] (md a δ' κ' s w H) := by
  intro j
  induction j with
  | zero =>
    intro i e hiK δ κ hw hq
    have e' : i = C := by omega
    subst e'
    refine ⟨δ, κ, 2 * i, 1, 2 * i, hw, by omega, Or.inr ⟨rfl, ?_⟩, ?_⟩
    · by_cases h : 2 * i < K
      · rw [if_neg (by omega)]; exact if_pos h
      · rw [if_pos (by omega)]; exact if_neg h
    · rw [S194_85]
      simp only [S194_87, S194_88, S194_91, S194_93, Option.bind_some, Option.map_some, xpush_s, xpush_n, xcat_0, xcat_i, xcat_r, xcat_l, xcat_n, xcat_e, xir_r, Nat.reduceAdd, Nat.reduceLeDiff, Nat.zero_le, Nat.le_refl, ↓reduceIte, show (nI (2 * i) ≤ nI (2 * i)) = True from eq_true (Int32.le_refl _)]
  | succ j ih =>
    intro i e hiK δ κ hw hq
    obtain ⟨κ1, e1⟩ := s_month (κ := κ) (s := s) (w := w) (H := H) d hw hq
    have hmw := mw_month q hw
    by_cases h1 : 2 * i < K ∧ a 25 (2 * i) = sMonth q δ 4
    · by_cases h2 : 2 * i + 1 < K ∧ a 25 (2 * i + 1) = sWat (sMonth q δ) 12
      · obtain ⟨δ2, κ2, r, f, k2, g1, g2, g3, g4⟩ := ih (i + 1) (by omega) (by omega) (sMonth q δ) κ1 hmw.1 (by rw [hmw.2 7 fx7]; exact hq)
        refine ⟨δ2, κ2, r, f, k2, g1, g2, ?_, ?_⟩
        · rw [show ckF q (a 25) K (j + 1) i δ = ckF q (a 25) K j (i + 1) (sMonth q δ) from (if_pos h1).trans (if_pos h2)]
          exact g3
        · rw [m_ckET d hK hC (by omega) e1 h1, m_ckOT d hK hC (by omega) h2]
          exact g4
      · refine ⟨sMonth q δ, κ1, 2 * i + 1, 0, 2 * i + 1 + 1, hmw.1, by omega, Or.inl ⟨rfl, ?_⟩, ?_⟩
        · rw [show ckF q (a 25) K (j + 1) i δ = 2 + 2 * i from (if_pos h1).trans (if_neg h2)]
          omega
        · rw [m_ckET d hK hC (by omega) e1 h1, m_ckOF d hK hC (by omega) h2]
    · refine ⟨sMonth q δ, κ1, 2 * i, 0, 2 * i + 1, hmw.1, by omega, Or.inl ⟨rfl, if_neg h1⟩, ?_⟩
      rw [m_ckEF d hK hC (by omega) e1 h1]
end CHK
section RELC
variable {m : Nat} {δ : Nat → Int32} {τ1 : xt} {ε : Nat → Int32} {τ2 : xt} {n : Nat} {B : Nat → Int32} {b a : Nat → Nat → Int32} {s : Nat → Int32} {X : xh}
theorem relC {a' : Nat → Nat → Int32} (R : Rel m δ τ1 ε τ2 n B b a s X) (hj : ∀ j, j ≠ 1 ∧ j ≠ 4 ∧ j ≠ 9 → a' j = a j) (h1 : a' 1 = δ) (h4 : z60 (a' 4)) : Rel (m + 1) δ τ1 ε τ2 n B (va_up b 0 (upd (b 0) 9 0)) a' (upd s 38 0) X := by
  obtain ⟨r1, r2, r3, r4, r5, r6, r7, r8, r9, r10, r11, r12, r13⟩ := R
  refine ⟨r1, r2, h1, TXT_a (hj _ (by decide)) (hj _ (by decide)) (hj _ (by decide)) (hj _ (by decide)) r4, RK_e (by rw [vu_s, up_n _ _ (by decide)]) (up_n _ _ (by decide)) (hj _ (by decide)) (hj _ (by decide)) (hj _ (by decide)) (hj _ (by decide)) (hj _ (by decide)) r5, ⟨by rw [up_n _ _ (by decide)]; exact r6.1, r6.2.1, by rw [hj _ (by decide)]; exact r6.2.2⟩, RS_e (hj _ (by decide)) (hj _ (by decide)) (hj _ (by decide)) (hj _ (by decide)) (fun q h1 h2 => vu_n _ _ (by omega)) r7, RL_e (hj _ (by decide)) (hj _ (by decide)) (hj _ (by decide)) (hj _ (by decide)) (hj _ (by decide)) (hj _ (by decide)) (fun q h1 h2 => vu_n _ _ (by omega)) r8, ⟨by rw [vu_s, up_s, up_s], ⟨0, by omega, up_s _ _ _⟩, by rw [vu_n _ _ (by decide), hj _ (by decide)]; exact r9.2.2⟩, by rw [hj _ (by decide)]; exact r10, by rw [hj _ (by decide)]; exact r11, h4, RX_s r13⟩
end RELC
theorem k_check (x : Int32) : CL 105 194 [.int x] := by
  intro d m h hI
  obtain ⟨δ, τ1, ε, τ2, ζ, τ3, κ, n, l, ke, op, sz, B, S, b, a, s, w, X, rfl, R⟩ := hI
  have hw := R.1
  have hmo := R.2.1
  have ha1 := R.2.2.1
  have hmd := fun Z => md_of (s := s) (w := w) (Z := Z) ha1
  have n1 : ¬ (1 : Int32) = 0 := by decide
  obtain ⟨w1, ⟨K, hK, ek⟩, w3⟩ := R.2.2.2.2.2.2.2.2.1
  have R0 := relC (a' := a) R (fun _ _ => rfl) ha1 R.2.2.2.2.2.2.2.2.2.2.2.1
  by_cases c1 : bd1 x 30
  · have o1 := fun d h => ou1_f d h (v := x) (n := 30) (N := 30) rfl (by decide) c1
    have i1 := fun d h => in1_t d h (v := x) (n := 30) (N := 30) rfl (by decide) c1
    obtain ⟨k1, k2⟩ := R.2.2.2.2.1
    rcases k2 with k0 | ⟨q1, q2, q3, q4, q5, q6⟩
    · refine combN (-1000000002) (n' := n) (l' := l) (ke' := ke) (op' := op) (sz' := sz) (B' := B) (S' := S) (b' := va_up b 0 (upd (b 0) 9 0)) (a' := a) (s' := upd s 38 0) (w' := w) ?_ ?_ R0
      · rw [E105]
        simp only [S105_0, S105_1, S105_4, S105_5, S105_6, S105_7, S105_10, S105_11, S105_12, S105_14, S105_17, S105_20, S105_22, S105_23, S105_24, S105_27, S105_30, S105_33, S105_34, S105_35, S105_38, S105_39, S105_42, S105_45, S105_46, S105_49, S105_50, S105_51, S105_54, S105_55, S105_58, S105_61, S105_62, Option.bind_some, Option.map_some, xpush_s, xpush_n, xcat_0, xcat_i, xcat_r, xcat_l, xcat_n, xcat_e, xir_r, Nat.reduceAdd, Nat.reduceLeDiff, Nat.zero_le, Nat.le_refl, ↓reduceIte, C_9, C_p9, C_3, vu_s, up_n _ _ (show 3 ≠ 9 by decide), k1, k0, o1]
      · rw [E194]
        simp only [S194_0, S194_1, S194_4, S194_5, S194_6, S194_7, S194_10, S194_11, S194_12, S194_13, S194_16, S194_19, S194_22, S194_24, S194_25, S194_26, S194_29, S194_32, S194_35, S194_36, S194_37, S194_40, S194_41, S194_44, S194_47, S194_48, S194_51, S194_52, S194_55, S194_58, S194_59, S194_60, S194_61, S194_64, S194_65, S194_68, S194_69, S194_70, S194_71, S194_74, S194_75, S194_76, S194_77, S194_79, S194_80, S194_82, S194_83, Option.bind_some, Option.map_some, xpush_s, xpush_n, xcat_0, xcat_i, xcat_r, xcat_l, xcat_n, xcat_e, xir_r, Nat.reduceAdd, Nat.reduceLeDiff, Nat.zero_le, Nat.le_refl, ↓reduceIte, Mg_38, Mp_38, Mg_4, up_n _ _ (show 4 ≠ 38 by decide), k0, i1, n1]
    · subst q2
      obtain ⟨xx, hx1, hx30, rfl⟩ := c1
      obtain ⟨mo, hmo', emo⟩ := q4
      have es : (9999 : Int32) - a 2 1 = nI (9999 - mo) := by rw [emo]; exact sub_n rfl hmo'
      obtain ⟨τ, hE, e1⟩ := G_b19_10 (δ := δ) (τ1 := τ1) (ε := a 2) (τ2 := τ2) (ζ := ζ) (τ3 := τ3) (κ := κ) (n := n) (l := l) (ke := ke) (op := op) (sz := sz) (B := B) (S := S) (b := va_up b 0 (upd (b 0) 9 0)) (H := mh a s w X) (d + 198) hi_mh q6.1
      obtain ⟨q, hq1, hq2⟩ := TXT_q (TXT_a (a' := va_up a 4 δ) (vu_n _ _ (by decide)) (vu_n _ _ (by decide)) (vu_n _ _ (by decide)) (vu_n _ _ (by decide)) q6) (key := 0) (by decide)
      obtain ⟨ζ2, κ1, e2⟩ := c_ck_l (δ := δ) (τ1 := τ1) (ε := a 2) (τ2 := τ2) (τ3 := τ) (ζ := ζ) (κ := κ) (n := n) (l := l) (ke := ke) (op := op) (sz := sz) (B := B) (S := S) (b := va_up b 0 (upd (b 0) 9 0)) (a := a) (s := s) (w := w) (d + 194) (LW_E hE (by decide) hq1) (K := K) (C := min xx (9999 - mo)) hK (by omega) (x := nI xx) (min xx (9999 - mo)) 0 (by omega) (a 2) κ q3
      obtain ⟨D, κ2, r, f, k2, hD, hr, hf, e3⟩ := m_ck_l (a := va_up a 4 δ) (s := upd s 38 0) (w := w) (H := cG δ τ1 (a 2) τ2 ζ2 τ κ1 n l ke op sz B S (va_up b 0 (upd (b 0) 9 0)) X) (d + 194) (q := q) (K := K) (C := min xx (9999 - mo)) hK (by omega) (x := nI xx) (min xx (9999 - mo)) 0 (by omega) (by omega) (a 2) (a 9) q3 hq2
      rw [vu_n _ _ (show 34 ≠ 0 by decide), w3] at e2
      rw [vu_n _ _ (show 25 ≠ 4 by decide)] at hf
      have z2 : z60 (a 2) := R.2.2.2.2.2.2.2.2.2.1
      have z4 : z60 (a 4) := R.2.2.2.2.2.2.2.2.2.2.2.1
      have hmd' : ∀ Z, mh a (upd s 38 0) w Z = md a δ (a 9) (upd s 38 0) w Z := fun Z => md_of ha1
      have hci := fun d Z => m_cpi (a := a) (δ := δ) (κ := a 9) (s := upd s 38 0) (w := w) (H := Z) d (j := 4) (Or.inr (Or.inr rfl)) hw.z z4
      have hco := fun d Z => m_cpo (a := va_up a 4 δ) (δ := δ) (κ := a 9) (s := upd s 38 0) (w := w) (H := Z) d (j := 2) (Or.inl rfl) hw.z (by rw [vu_n _ _ (by decide)]; exact z2)
      have hcb := fun d Z => m_cpo (a := va_up a 4 δ) (δ := D) (κ := κ2) (s := upd s 38 0) (w := w) (H := Z) d (j := 4) (Or.inr (Or.inr rfl)) hD.z (by rw [vu_s]; exact hw.z)
      rw [show 58 + 4 = 62 from rfl] at hci hcb
      rw [show 58 + 2 = 60 from rfl, vu_n _ _ (show 2 ≠ 4 by decide)] at hco
      rw [vu_s] at hcb
      refine ⟨nI (ckF q (a 25) K (min xx (9999 - mo)) 0 (a 2)), cG δ τ1 (a 2) τ2 ζ2 τ κ1 n l ke op sz B S (va_up b 0 (upd (b 0) 9 0)) (mh a s w X), mh (va_up (va_up (va_up a 4 δ) 1 δ) 9 κ2) (upd s 38 0) w (cG δ τ1 (a 2) τ2 ζ2 τ κ1 n l ke op sz B S (va_up b 0 (upd (b 0) 9 0)) X), ?_, ?_, INV_i (relC R (fun j h => by rw [vaj _ _ _ h.1 h.2.2, vu_n _ _ h.2.1]) (va1 _ _ _) (by rw [vaj _ _ _ (by decide) (by decide), vu_s]; exact hw.z)), rfl, rfl, rfl⟩
      · rw [E105]
        simp only [S105_0, S105_1, S105_4, S105_5, S105_6, S105_7, S105_10, S105_11, S105_12, S105_14, S105_17, S105_20, S105_22, S105_23, S105_24, S105_27, S105_30, S105_33, S105_34, S105_35, S105_38, S105_39, S105_42, S105_45, S105_46, S105_49, S105_50, S105_51, S105_54, S105_55, S105_58, S105_61, S105_62, Option.bind_some, Option.map_some, xpush_s, xpush_n, xcat_0, xcat_i, xcat_r, xcat_l, xcat_n, xcat_e, xir_r, Nat.reduceAdd, Nat.reduceLeDiff, Nat.zero_le, Nat.le_refl, ↓reduceIte, C_9, C_p9, C_3, C_1, C_2, I_g10, Q_cls, w1, ek, vu_s, up_n _ _ (show 3 ≠ 9 by decide), k1, q1, n1, o1, es, s_min, min_n (show xx < 2 ^ 31 by omega) (show 9999 - mo < 2 ^ 31 by omega), e1]
        exact e2
      · have em : ∀ Z, RF 194 (Ev (d + 199)) 171 [some (.ref 58), some (.int (nI xx)), some (.int (nI K)), some (.int (nI (2 * min xx (9999 - mo)))), some (.int (nI r)), some (.int f), some (.int (nI k2))] [] (md (va_up a 4 δ) D κ2 (upd s 38 0) w Z) = some (some (.int (nI (ckF q (a 25) K (min xx (9999 - mo)) 0 (a 2)))), md (va_up a 4 δ) δ κ2 (upd s 38 0) w Z) := by
          intro Z
          rcases hf with ⟨rfl, hf⟩ | ⟨rfl, hf⟩
          · rw [hf]
            simp only [S194_171, S194_172, S194_175, S194_176, S194_179, S194_182, S194_184, S194_187, S194_189, S194_190, S194_193, S194_194, S194_197, S194_198, S194_200, S194_201, Option.bind_some, Option.map_some, xpush_s, xpush_n, xcat_0, xcat_i, xcat_r, xcat_l, xcat_n, xcat_e, xir_r, Nat.reduceAdd, Nat.reduceLeDiff, Nat.zero_le, Nat.le_refl, ↓reduceIte, Dg4, Dg, hcb, o_n]
          · rw [hf]
            by_cases hrK : r = K
            · rw [if_pos hrK, hrK]
              simp only [S194_171, S194_172, S194_175, S194_176, S194_179, S194_182, S194_184, S194_187, S194_189, S194_190, S194_193, S194_194, S194_197, S194_198, S194_200, S194_201, Option.bind_some, Option.map_some, xpush_s, xpush_n, xcat_0, xcat_i, xcat_r, xcat_l, xcat_n, xcat_e, xir_r, Nat.reduceAdd, Nat.reduceLeDiff, Nat.zero_le, Nat.le_refl, ↓reduceIte, Dg4, Dg, hcb, o_n, n1]
              rfl
            · rw [if_neg hrK]
              have hne : ¬ nI r = nI K := fun q => hrK ((nI_eq (by omega) (by omega)).mp q)
              simp only [S194_171, S194_172, S194_175, S194_176, S194_179, S194_182, S194_184, S194_187, S194_189, S194_190, S194_193, S194_194, S194_197, S194_198, S194_200, S194_201, Option.bind_some, Option.map_some, xpush_s, xpush_n, xcat_0, xcat_i, xcat_r, xcat_l, xcat_n, xcat_e, xir_r, Nat.reduceAdd, Nat.reduceLeDiff, Nat.zero_le, Nat.le_refl, ↓reduceIte, Dg4, Dg, hcb, o_n, n1, hne]
        rw [cG_mh, E194]
        simp only [S194_0, S194_1, S194_4, S194_5, S194_6, S194_7, S194_10, S194_11, S194_12, S194_13, S194_16, S194_19, S194_22, S194_24, S194_25, S194_26, S194_29, S194_32, S194_35, Option.bind_some, Option.map_some, xpush_s, xpush_n, xcat_0, xcat_i, xcat_r, xcat_l, xcat_n, xcat_e, xir_r, Nat.reduceAdd, Nat.reduceLeDiff, Nat.zero_le, Nat.le_refl, ↓reduceIte, Mg_38, Mp_38, Mg_4, up_n _ _ (show 4 ≠ 38 by decide), ek, i1, n1, q1]
        rw [hmd']
        simp only [S194_36, S194_37, S194_40, S194_41, S194_44, S194_47, S194_48, S194_51, S194_52, S194_55, S194_58, S194_59, S194_60, S194_61, S194_64, S194_65, S194_68, S194_69, S194_70, S194_71, S194_74, S194_75, S194_76, S194_77, S194_79, S194_80, S194_82, S194_83, Option.bind_some, Option.map_some, xpush_s, xpush_n, xcat_0, xcat_i, xcat_r, xcat_l, xcat_n, xcat_e, xir_r, Nat.reduceAdd, Nat.reduceLeDiff, Nat.zero_le, Nat.le_refl, ↓reduceIte, Dg, Dg2, Dg4, Dr, ix_1, hci, hco, es, s_held, hd_n (show xx < 2 ^ 31 by omega) (show 9999 - mo < 2 ^ 31 by omega), tw2]
        exact e3.trans (em _)
  · refine combN (-1000000001) (n' := n) (l' := l) (ke' := ke) (op' := op) (sz' := sz) (B' := B) (S' := S) (b' := va_up b 0 (upd (b 0) 9 0)) (a' := a) (s' := upd s 38 0) (w' := w) ?_ ?_ R0
    · rw [E105]
      simp only [S105_0, S105_1, S105_4, S105_5, S105_6, S105_7, S105_10, S105_11, S105_12, S105_14, S105_17, S105_20, S105_22, S105_23, S105_24, S105_27, S105_30, S105_33, S105_34, S105_35, S105_38, S105_39, S105_42, S105_45, S105_46, S105_49, S105_50, S105_51, S105_54, S105_55, S105_58, S105_61, S105_62, Option.bind_some, Option.map_some, xpush_s, xpush_n, xcat_0, xcat_i, xcat_r, xcat_l, xcat_n, xcat_e, xir_r, Nat.reduceAdd, Nat.reduceLeDiff, Nat.zero_le, Nat.le_refl, ↓reduceIte, C_9, C_p9, n1, ou1_t _ _ (n := 30) (N := 30) rfl (by decide) c1]
    · rw [E194]
      simp only [S194_0, S194_1, S194_4, S194_5, S194_6, S194_7, S194_10, S194_11, S194_12, S194_13, S194_16, S194_19, S194_22, S194_24, S194_25, S194_26, S194_29, S194_32, S194_35, S194_36, S194_37, S194_40, S194_41, S194_44, S194_47, S194_48, S194_51, S194_52, S194_55, S194_58, S194_59, S194_60, S194_61, S194_64, S194_65, S194_68, S194_69, S194_70, S194_71, S194_74, S194_75, S194_76, S194_77, S194_79, S194_80, S194_82, S194_83, Option.bind_some, Option.map_some, xpush_s, xpush_n, xcat_0, xcat_i, xcat_r, xcat_l, xcat_n, xcat_e, xir_r, Nat.reduceAdd, Nat.reduceLeDiff, Nat.zero_le, Nat.le_refl, ↓reduceIte, Mg_38, Mp_38, n1, in1_f _ _ (n := 30) (N := 30) rfl (by decide) c1]

