/-! part 57, by program (wip/whole/gen/calls8.py): calls, eighth lot: copy, lay -/
theorem lg_le0 (x y : Int64) : (lg_cmp x y ≤ 0) = (x ≤ y) := by
  rw [← Int32.not_lt, lg_gt, Int64.not_lt]
def okr (p m : Int32) (z : Nat) : Prop := ∃ P M, p = nI P ∧ m = nI M ∧ P + M ≤ z
theorem lsum {P M : Nat} (hP : P < 2 ^ 31) (hM : M < 2 ^ 31) : (nI P).toInt64 + (nI M).toInt64 = lN (P + M) := by rw [nI_l hP, nI_l hM, lN_add]
theorem okr_le {P M z : Nat} (hP : P < 2 ^ 31) (hM : M < 2 ^ 31) (hz : z ≤ 24) : ((nI P).toInt64 + (nI M).toInt64 ≤ (nI z).toInt64) ↔ P + M ≤ z := by
  rw [lsum hP hM, nI_l (show z < 2 ^ 31 by omega), pk_lLE (by omega) (by omega)]
section COPY
variable {δ ε ζ : Nat → Int32} {τ1 τ2 τ3 : xt} {κ : Nat → Nat → Int32} {n : Nat} {l : lk} {ke op sz : Int32} {B S : Nat → Int32} {b : Nat → Nat → Int32} {H : xh} {q z : Nat}
theorem w_run_t (d : Nat) (hq : isRw q) (ez : b q 1 = nI z) (hz : z ≤ 24) {p m : Int32} (h : okr p m z) : Ev (d + 1) 30 [.ref q, .int p, .int m] (cG δ τ1 ε τ2 ζ τ3 κ n l ke op sz B S b H) = some (some (.int 0), cG δ τ1 ε τ2 ζ τ3 κ n l ke op sz B S b H) := by
  obtain ⟨P, M, rfl, rfl, h⟩ := h
  have h1 : ¬ nI P < 0 := nI_pos (by omega)
  have h2 : ¬ nI M < 0 := nI_pos (by omega)
  have h3 : (nI P).toInt64 + (nI M).toInt64 ≤ (nI z).toInt64 := (okr_le (by omega) (by omega) hz).mpr h
  rw [E30]
  simp only [S30_0, S30_1, S30_4, S30_5, S30_8, S30_9, S30_10, S30_11, S30_12, S30_13, S30_14, S30_17, S30_18, S30_19, S30_22, S30_23, S30_26, S30_27, Option.bind_some, Option.map_some, xpush_s, xpush_n, xcat_0, xcat_i, xcat_r, xcat_l, xcat_n, xcat_e, xir_r, Nat.reduceAdd, Nat.reduceLeDiff, Nat.zero_le, Nat.le_refl, ↓reduceIte, h1, h2, W_g1 hq, ez, lg_le0, h3, nar_0]
theorem w_run_f (d : Nat) (hq : isRw q) (ez : b q 1 = nI z) (hz : z ≤ 24) {p m : Int32} (h : ¬ okr p m z) : Ev (d + 1) 30 [.ref q, .int p, .int m] (cG δ τ1 ε τ2 ζ τ3 κ n l ke op sz B S b H) = some (some (.int 1), cG δ τ1 ε τ2 ζ τ3 κ n l ke op sz B S b H) := by
  rw [E30]
  by_cases h1 : p < 0
  · simp only [S30_0, S30_1, S30_4, S30_5, S30_8, S30_9, S30_10, S30_11, S30_12, S30_13, S30_14, S30_17, S30_18, S30_19, S30_22, S30_23, S30_26, S30_27, Option.bind_some, Option.map_some, xpush_s, xpush_n, xcat_0, xcat_i, xcat_r, xcat_l, xcat_n, xcat_e, xir_r, Nat.reduceAdd, Nat.reduceLeDiff, Nat.zero_le, Nat.le_refl, ↓reduceIte, h1, nar_1]
  · by_cases h2 : m < 0
    · simp only [S30_0, S30_1, S30_4, S30_5, S30_8, S30_9, S30_10, S30_11, S30_12, S30_13, S30_14, S30_17, S30_18, S30_19, S30_22, S30_23, S30_26, S30_27, Option.bind_some, Option.map_some, xpush_s, xpush_n, xcat_0, xcat_i, xcat_r, xcat_l, xcat_n, xcat_e, xir_r, Nat.reduceAdd, Nat.reduceLeDiff, Nat.zero_le, Nat.le_refl, ↓reduceIte, h1, h2, nar_1]
    · obtain ⟨P, hP, rfl⟩ := nI_of h1
      obtain ⟨M, hM, rfl⟩ := nI_of h2
      have h3 : ¬ (nI P).toInt64 + (nI M).toInt64 ≤ (nI z).toInt64 := fun t => h ⟨P, M, rfl, rfl, (okr_le hP hM hz).mp t⟩
      simp only [S30_0, S30_1, S30_4, S30_5, S30_8, S30_9, S30_10, S30_11, S30_12, S30_13, S30_14, S30_17, S30_18, S30_19, S30_22, S30_23, S30_26, S30_27, Option.bind_some, Option.map_some, xpush_s, xpush_n, xcat_0, xcat_i, xcat_r, xcat_l, xcat_n, xcat_e, xir_r, Nat.reduceAdd, Nat.reduceLeDiff, Nat.zero_le, Nat.le_refl, ↓reduceIte, h1, h2, W_g1 hq, ez, lg_le0, h3, nar_1]
end COPY
def cpX (f g : Nat → Int32) (off k : Nat) : Nat → Int32 := fun j => if j < k then f (off + j) else g j
theorem cpX_s (f g : Nat → Int32) (off k : Nat) : upd (cpX f g off k) k (f (off + k)) = cpX f g off (k + 1) := by
  funext j
  unfold upd cpX
  by_cases h : j = k
  · subst h; rw [if_pos rfl, if_pos (by omega)]
  · rw [if_neg h]
    by_cases h2 : j < k
    · rw [if_pos h2, if_pos (by omega)]
    · rw [if_neg h2, if_neg (by omega)]
theorem cpX_0 (f g : Nat → Int32) (off : Nat) : cpX f g off 0 = g := by
  funext j
  unfold cpX
  rw [if_neg (by omega)]
/-- k places from off on, out of a row from off' on -/
def puX (f g : Nat → Int32) (off off' k : Nat) : Nat → Int32 := fun j => if off ≤ j ∧ j < off + k then f (off' + (j - off)) else g j
theorem puX_s (f g : Nat → Int32) (off off' k : Nat) : upd (puX f g off off' k) (off + k) (f (off' + k)) = puX f g off off' (k + 1) := by
  funext j
  unfold upd puX
  by_cases h : j = off + k
  · subst h; rw [if_pos rfl, if_pos (by omega), show off + k - off = k by omega]
  · rw [if_neg h]
    by_cases h2 : off ≤ j ∧ j < off + k
    · rw [if_pos h2, if_pos (by omega)]
    · rw [if_neg h2, if_neg (by omega)]
theorem puX_0 (f g : Nat → Int32) (off off' : Nat) : puX f g off off' 0 = g := by
  funext j
  unfold puX
  rw [if_neg (by omega)]
theorem puX_c (f g c : Nat → Int32) (off o2 k : Nat) : puX (cpX f c o2 k) g off 0 k = puX f g off o2 k := by
  funext j
  unfold puX cpX
  by_cases h2 : off ≤ j ∧ j < off + k
  · rw [if_pos h2, if_pos h2, if_pos (by omega), Nat.zero_add]
  · rw [if_neg h2, if_neg h2]
theorem nbo {x : Int32} (h : x = 0 ∨ x = 1) : vp_nar .boolean x = x := by rcases h with rfl | rfl <;> rfl
theorem ix24b (t p k : Nat) : (24 : Int32) * nI t + nI p + nI k = nI (24 * t + p + k) := by
  rw [show (24 : Int32) = nI 24 from rfl, pk_mul, nI_add, nI_add]
theorem m_cp1 (ev : xe) {a : Nat → Nat → Int32} {s : Nat → Int32} {w : Int64} {Z : xh} {i P M : Nat} {x t : Int32} (hi : i < 4) (hPM : P + M ≤ 24) (hb : ∀ k, k < M → a 15 (24 * i + P + k) = 0 ∨ a 15 (24 * i + P + k) = 1) : ∀ u k, k + u = M → RF 188 ev 112 [some (.ref 58), some (.int (nI i)), some (.int (nI P)), some (.int x), some (.int t), some (.int (nI M)), some (.int (nI k))] [] (mh (va_up (va_up a 17 (cpX (a 14) (a 17) (24 * i + P) k)) 18 (cpX (a 15) (a 18) (24 * i + P) k)) s w Z) = RF 188 ev 167 [some (.ref 58), some (.int (nI i)), some (.int (nI P)), some (.int x), some (.int t), some (.int (nI M)), some (.int (nI M))] [] (mh (va_up (va_up a 17 (cpX (a 14) (a 17) (24 * i + P) M)) 18 (cpX (a 15) (a 18) (24 * i + P) M)) s w Z)
  | 0, k, e => by
    have e' : k = M := by omega
    subst e'
    rw [S188_112]
    simp only [S188_114, S188_116, S188_119, S188_120, S188_123, S188_125, S188_126, S188_129, S188_131, S188_132, S188_133, S188_134, S188_135, S188_137, S188_138, S188_139, S188_140, S188_141, S188_144, S188_146, S188_147, S188_150, S188_152, S188_153, S188_154, S188_155, S188_156, S188_158, S188_159, S188_160, S188_161, S188_164, Option.bind_some, Option.map_some, xpush_s, xpush_n, xcat_0, xcat_i, xcat_r, xcat_l, xcat_n, xcat_e, xir_r, Nat.reduceAdd, Nat.reduceLeDiff, Nat.zero_le, Nat.le_refl, ↓reduceIte, show (nI k ≤ nI k) = True from eq_true (Int32.le_refl _)]
  | u + 1, k, e => by
    have hc : ¬ nI M ≤ nI k := nI_ge (by omega) (by omega)
    have hx := xix_n (show 24 * i + P + k < 96 by omega) (show 96 ≤ 100000 by decide)
    have hk := xix_n (show k < 24 by omega) (show 24 ≤ 100000 by decide)
    have ih := m_cp1 ev hi hPM hb (a := a) (s := s) (w := w) (Z := Z) (x := x) (t := t) u (k + 1) (by omega)
    rw [← ih, S188_112]
    simp only [S188_114, S188_116, S188_119, S188_120, S188_123, S188_125, S188_126, S188_129, S188_131, S188_132, S188_133, S188_134, S188_135, S188_137, S188_138, S188_139, S188_140, S188_141, S188_144, S188_146, S188_147, S188_150, S188_152, S188_153, S188_154, S188_155, S188_156, S188_158, S188_159, S188_160, S188_161, S188_164, Option.bind_some, Option.map_some, xpush_s, xpush_n, xcat_0, xcat_i, xcat_r, xcat_l, xcat_n, xcat_e, xir_r, Nat.reduceAdd, Nat.reduceLeDiff, Nat.zero_le, Nat.le_refl, ↓reduceIte, hc, Mg_26, Mg_27, Mg_29, Mg_30, Mr_14, Mr_15, Mw_17, Mw_18, ix24b, hx, hk, nbo (hb k (by omega)), nI_1, vu_s, vu_u, vu_n _ _ (show 14 ≠ 18 by decide), vu_n _ _ (show 14 ≠ 17 by decide), vu_n _ _ (show 15 ≠ 18 by decide), vu_n _ _ (show 15 ≠ 17 by decide), vu_n _ _ (show 17 ≠ 18 by decide), vu_n _ _ (show 18 ≠ 17 by decide), vu_c _ _ _ (show 17 ≠ 18 by decide), cpX_s]
theorem m_cp2 (ev : xe) {a : Nat → Nat → Int32} {s : Nat → Int32} {w : Int64} {Z : xh} {i T M : Nat} {x p : Int32} (hi : i < 4) (hPM : T + M ≤ 24) (hb : ∀ k, k < M → a 18 k = 0 ∨ a 18 k = 1) : ∀ u k, k + u = M → RF 188 ev 170 [some (.ref 58), some (.int x), some (.int p), some (.int (nI i)), some (.int (nI T)), some (.int (nI M)), some (.int (nI k))] [] (mh (va_up (va_up a 14 (puX (a 17) (a 14) (24 * i + T) 0 k)) 15 (puX (a 18) (a 15) (24 * i + T) 0 k)) s w Z) = some (some (.int (nI M)), mh (va_up (va_up a 14 (puX (a 17) (a 14) (24 * i + T) 0 M)) 15 (puX (a 18) (a 15) (24 * i + T) 0 M)) s w Z)
  | 0, k, e => by
    have e' : k = M := by omega
    subst e'
    rw [S188_170]
    simp only [S188_172, S188_174, S188_177, S188_178, S188_181, S188_183, S188_184, S188_185, S188_187, S188_188, S188_190, S188_191, S188_192, S188_195, S188_197, S188_198, S188_199, S188_200, S188_203, S188_205, S188_206, S188_207, S188_209, S188_210, S188_212, S188_213, S188_214, S188_217, S188_219, S188_220, S188_221, S188_224, S188_227, S188_229, Option.bind_some, Option.map_some, xpush_s, xpush_n, xcat_0, xcat_i, xcat_r, xcat_l, xcat_n, xcat_e, xir_r, Nat.reduceAdd, Nat.reduceLeDiff, Nat.zero_le, Nat.le_refl, ↓reduceIte, show (nI k ≤ nI k) = True from eq_true (Int32.le_refl _)]
  | u + 1, k, e => by
    have hc : ¬ nI M ≤ nI k := nI_ge (by omega) (by omega)
    have hx := xix_n (show 24 * i + T + k < 96 by omega) (show 96 ≤ 100000 by decide)
    have hk := xix_n (show k < 24 by omega) (show 24 ≤ 100000 by decide)
    have ih := m_cp2 ev hi hPM hb (a := a) (s := s) (w := w) (Z := Z) (x := x) (p := p) u (k + 1) (by omega)
    have p14 : upd (puX (a 17) (a 14) (24 * i + T) 0 k) (24 * i + T + k) (a 17 k) = puX (a 17) (a 14) (24 * i + T) 0 (k + 1) := by
      have := puX_s (a 17) (a 14) (24 * i + T) 0 k
      rw [Nat.zero_add] at this
      exact this
    have p15 : upd (puX (a 18) (a 15) (24 * i + T) 0 k) (24 * i + T + k) (a 18 k) = puX (a 18) (a 15) (24 * i + T) 0 (k + 1) := by
      have := puX_s (a 18) (a 15) (24 * i + T) 0 k
      rw [Nat.zero_add] at this
      exact this
    rw [← ih, S188_170]
    simp only [S188_172, S188_174, S188_177, S188_178, S188_181, S188_183, S188_184, S188_185, S188_187, S188_188, S188_190, S188_191, S188_192, S188_195, S188_197, S188_198, S188_199, S188_200, S188_203, S188_205, S188_206, S188_207, S188_209, S188_210, S188_212, S188_213, S188_214, S188_217, S188_219, S188_220, S188_221, S188_224, S188_227, S188_229, Option.bind_some, Option.map_some, xpush_s, xpush_n, xcat_0, xcat_i, xcat_r, xcat_l, xcat_n, xcat_e, xir_r, Nat.reduceAdd, Nat.reduceLeDiff, Nat.zero_le, Nat.le_refl, ↓reduceIte, hc, Mg_26, Mg_27, Mg_29, Mg_30, Mr_17, Mr_18, Mw_14, Mw_15, ix24b, hx, hk, nbo (hb k (by omega)), nI_1, vu_s, vu_u, vu_n _ _ (show 17 ≠ 14 by decide), vu_n _ _ (show 17 ≠ 15 by decide), vu_n _ _ (show 18 ≠ 14 by decide), vu_n _ _ (show 18 ≠ 15 by decide), vu_n _ _ (show 14 ≠ 15 by decide), vu_n _ _ (show 15 ≠ 14 by decide), vu_c _ _ _ (show 14 ≠ 15 by decide), p14, p15]
/-- the two loops together -/
theorem m_cp (ev : xe) {a : Nat → Nat → Int32} {s : Nat → Int32} {w : Int64} {Z : xh} {i i' P T M : Nat} (hi : i < 4) (hi' : i' < 4) (hPM : P + M ≤ 24) (hTM : T + M ≤ 24) (hb : ∀ k, k < M → a 15 (24 * i + P + k) = 0 ∨ a 15 (24 * i + P + k) = 1) : ∃ a' : Nat → Nat → Int32, (∀ j, j ≠ 14 → j ≠ 15 → j ≠ 17 → j ≠ 18 → a' j = a j) ∧ a' 14 = puX (a 14) (a 14) (24 * i' + T) (24 * i + P) M ∧ a' 15 = puX (a 15) (a 15) (24 * i' + T) (24 * i + P) M ∧ RF 188 ev 109 [some (.ref 58), some (.int (nI i)), some (.int (nI P)), some (.int (nI i')), some (.int (nI T)), some (.int (nI M)), none] [] (mh a s w Z) = some (some (.int (nI M)), mh a' s w Z) := by
  have h1 := m_cp1 ev (a := a) (s := s) (w := w) (Z := Z) (x := nI i') (t := nI T) hi hPM hb M 0 (by omega)
  rw [cpX_0, cpX_0, vu_self] at h1
  rw [show va_up a 18 (a 18) = a from vu_self a 18] at h1
  have h2 := m_cp2 ev (a := va_up (va_up a 17 (cpX (a 14) (a 17) (24 * i + P) M)) 18 (cpX (a 15) (a 18) (24 * i + P) M)) (s := s) (w := w) (Z := Z) (x := nI i) (p := nI P) hi' hTM (by
    intro k hk
    rw [vu_s]
    unfold cpX
    rw [if_pos hk]
    exact hb k hk) M 0 (by omega)
  rw [puX_0, puX_0, vu_self] at h2
  rw [vu_self] at h2
  refine ⟨va_up (va_up (va_up (va_up a 17 (cpX (a 14) (a 17) (24 * i + P) M)) 18 (cpX (a 15) (a 18) (24 * i + P) M)) 14 (puX ((va_up (va_up a 17 (cpX (a 14) (a 17) (24 * i + P) M)) 18 (cpX (a 15) (a 18) (24 * i + P) M)) 17) ((va_up (va_up a 17 (cpX (a 14) (a 17) (24 * i + P) M)) 18 (cpX (a 15) (a 18) (24 * i + P) M)) 14) (24 * i' + T) 0 M)) 15 (puX ((va_up (va_up a 17 (cpX (a 14) (a 17) (24 * i + P) M)) 18 (cpX (a 15) (a 18) (24 * i + P) M)) 18) ((va_up (va_up a 17 (cpX (a 14) (a 17) (24 * i + P) M)) 18 (cpX (a 15) (a 18) (24 * i + P) M)) 15) (24 * i' + T) 0 M), ?_, ?_, ?_, ?_⟩
  rotate_left 3
  · rw [show RF 188 ev 109 [some (.ref 58), some (.int (nI i)), some (.int (nI P)), some (.int (nI i')), some (.int (nI T)), some (.int (nI M)), none] [] (mh a s w Z) = RF 188 ev 112 [some (.ref 58), some (.int (nI i)), some (.int (nI P)), some (.int (nI i')), some (.int (nI T)), some (.int (nI M)), some (.int (nI 0))] [] (mh a s w Z) by simp only [S188_109, S188_110]; rfl, h1]
    rw [show ∀ h, RF 188 ev 167 [some (.ref 58), some (.int (nI i)), some (.int (nI P)), some (.int (nI i')), some (.int (nI T)), some (.int (nI M)), some (.int (nI M))] [] h = RF 188 ev 170 [some (.ref 58), some (.int (nI i)), some (.int (nI P)), some (.int (nI i')), some (.int (nI T)), some (.int (nI M)), some (.int (nI 0))] [] h by intro h; simp only [S188_167, S188_168]; rfl, h2]
  · intro j j1 j2 j3 j4
    rw [vu_n _ _ j2, vu_n _ _ j1, vu_n _ _ j4, vu_n _ _ j3]
  · rw [vu_n _ _ (show 14 ≠ 15 by decide), vu_s, vu_n _ _ (show 17 ≠ 18 by decide), vu_s, vu_n _ _ (show 14 ≠ 18 by decide), vu_n _ _ (show 14 ≠ 17 by decide), puX_c]
  · rw [vu_s, vu_s, vu_n _ _ (show 15 ≠ 18 by decide), vu_n _ _ (show 15 ≠ 17 by decide), puX_c]
theorem RS_copy {a a' b : Nat → Nat → Int32} (R : RS a b) {i i' P T M : Nat} (hi : i < 4) (hi' : i' < 4) (hs : a 12 i ≠ -1) (hPM : P + M ≤ 24) (hTM : T + M ≤ 24) (h12 : a' 12 = a 12) (h13 : a' 13 = a 13) (h14 : a' 14 = puX (a 14) (a 14) (24 * i' + T) (24 * i + P) M) (h15 : a' 15 = puX (a 15) (a 15) (24 * i' + T) (24 * i + P) M) : RS a' (va_up b (35 + 2 * i' + 1) (va_cpy (b (35 + 2 * i + 1)) (b (35 + 2 * i' + 1)) P T M)) := by
  intro e he
  rw [h12, h13, h14, h15, vu_n _ _ (show 35 + 2 * e ≠ 35 + 2 * i' + 1 by omega)]
  obtain ⟨q1, q2, q3, q4, q5⟩ := R e he
  refine ⟨q1, q2, q3, q4, fun hq j hj => ?_⟩
  by_cases ee : e = i'
  · subst ee
    rw [vu_s]
    by_cases hin : T ≤ j ∧ j < T + M
    · rw [pk_cpy_in hin.1 hin.2]
      unfold puX
      rw [if_pos (by omega), if_pos (by omega), show 24 * i + P + (24 * e + j - (24 * e + T)) = 24 * i + (P + (j - T)) by omega]
      exact (R i hi).2.2.2.2 hs (P + (j - T)) (by omega)
    · rw [pk_cpy_out (by omega)]
      unfold puX
      rw [if_neg (by omega), if_neg (by omega)]
      exact q5 hq j hj
  · rw [vu_n _ _ (by omega)]
    unfold puX
    rw [if_neg (by omega), if_neg (by omega)]
    exact q5 hq j hj
theorem k_copy (x p y t u : Int32) : CL 99 188 [.int x, .int p, .int y, .int t, .int u] := by
  intro d m h hI
  obtain ⟨δ, τ1, ε, τ2, ζ, τ3, κ, n, l, ke, op, sz, B, S, b, a, s, w, X, rfl, R⟩ := hI
  have hw := R.1
  have hmo := R.2.1
  have ha1 := R.2.2.1
  have hmd := fun Z => md_of (s := s) (w := w) (Z := Z) ha1
  have n1 : ¬ (1 : Int32) = 0 := by decide
  by_cases c1 : bd x 3
  · have o1 := fun d h => ou_f d h (v := x) (n := 3) (N := 3) rfl (by decide) c1
    have i1 := fun d h => m_sh_t d h c1
    obtain ⟨i, hi3, rfl⟩ := c1
    by_cases c2 : bd y 3
    · have o2 := fun d h => ou_f d h (v := y) (n := 3) (N := 3) rfl (by decide) c2
      have i2 := fun d h => m_sh_t d h c2
      obtain ⟨k, hk3, rfl⟩ := c2
      have hi4 : i < 4 := by omega
      have hk4 : k < 4 := by omega
      have hq := rw_s hi4
      have hq' := rw_s hk4
      have hx := xix_n hi4 (show 4 ≤ 100000 by decide)
      have hx' := xix_n hk4 (show 4 ≤ 100000 by decide)
      obtain ⟨r1, r2, r3, ⟨z0, hz0, ez⟩, r5⟩ := R.2.2.2.2.2.2.1 i hi4
      obtain ⟨q1, q2, q3, ⟨z1, hz1, ez1⟩, q5⟩ := R.2.2.2.2.2.2.1 k hk4
      rw [ez] at r2
      rw [ez1] at q2
      by_cases hm1 : a 12 i = -1
      · have hb : bi (b (35 + 2 * i) 0 = -1) = 1 := bi_t (by rw [r1]; exact hm1)
        refine comb0 (v := -1000000011) R ?_ ?_
        · rw [E99]
          simp only [S99_0, S99_1, S99_2, S99_3, S99_6, S99_9, S99_10, S99_11, S99_12, S99_15, S99_18, S99_20, S99_21, S99_22, S99_25, S99_26, S99_27, S99_29, S99_30, S99_33, S99_34, S99_35, S99_37, S99_39, S99_42, S99_45, S99_47, S99_50, S99_53, S99_55, S99_56, S99_58, S99_61, S99_63, S99_66, S99_69, S99_71, S99_72, S99_74, S99_75, S99_77, S99_80, S99_83, S99_85, S99_87, S99_89, S99_92, S99_95, S99_97, S99_98, S99_100, S99_103, S99_104, S99_106, S99_109, S99_111, S99_113, S99_116, S99_118, Option.bind_some, Option.map_some, xpush_s, xpush_n, xcat_0, xcat_i, xcat_r, xcat_l, xcat_n, xcat_e, xir_r, Nat.reduceAdd, Nat.reduceLeDiff, Nat.zero_le, Nat.le_refl, ↓reduceIte, C_6, C_q32 hi4, C_q32 hk4, W_cls hq, o1, o2, w_miss _ hq, hb, n1]
        · rw [E188]
          simp only [S188_0, S188_1, S188_4, S188_7, S188_8, S188_11, S188_14, S188_16, S188_17, S188_18, S188_21, S188_22, S188_23, S188_26, S188_27, S188_30, S188_31, S188_32, S188_35, S188_37, S188_38, S188_39, S188_42, S188_43, S188_44, S188_45, S188_48, S188_49, S188_50, S188_53, S188_55, Option.bind_some, Option.map_some, xpush_s, xpush_n, xcat_0, xcat_i, xcat_r, xcat_l, xcat_n, xcat_e, xir_r, Nat.reduceAdd, Nat.reduceLeDiff, Nat.zero_le, Nat.le_refl, ↓reduceIte, Mg_24, Mr_12, hx, i1, i2, n1, hm1, show (-1 : Int32) < 0 by decide]
      · have hb : bi (b (35 + 2 * i) 0 = -1) = 0 := bi_f (by rw [r1]; exact hm1)
        have hge : 0 ≤ a 12 i := r3.elim (fun e => absurd e hm1) (fun c => c.elim (fun e => by rw [e]; decide) (fun e => by rw [e]; decide))
        have hnl : ¬ a 12 i < 0 := Int32.not_lt.mpr hge
        by_cases hm2 : a 12 k = -1
        · have hb2 : bi (b (35 + 2 * k) 0 = -1) = 1 := bi_t (by rw [q1]; exact hm2)
          refine comb0 (v := -1000000011) R ?_ ?_
          · rw [E99]
            simp only [S99_0, S99_1, S99_2, S99_3, S99_6, S99_9, S99_10, S99_11, S99_12, S99_15, S99_18, S99_20, S99_21, S99_22, S99_25, S99_26, S99_27, S99_29, S99_30, S99_33, S99_34, S99_35, S99_37, S99_39, S99_42, S99_45, S99_47, S99_50, S99_53, S99_55, S99_56, S99_58, S99_61, S99_63, S99_66, S99_69, S99_71, S99_72, S99_74, S99_75, S99_77, S99_80, S99_83, S99_85, S99_87, S99_89, S99_92, S99_95, S99_97, S99_98, S99_100, S99_103, S99_104, S99_106, S99_109, S99_111, S99_113, S99_116, S99_118, Option.bind_some, Option.map_some, xpush_s, xpush_n, xcat_0, xcat_i, xcat_r, xcat_l, xcat_n, xcat_e, xir_r, Nat.reduceAdd, Nat.reduceLeDiff, Nat.zero_le, Nat.le_refl, ↓reduceIte, C_6, C_q32 hi4, C_q32 hk4, W_cls hq, W_cls hq', o1, o2, w_miss _ hq, w_miss _ hq', hb, hb2, n1]
          · rw [E188]
            simp only [S188_0, S188_1, S188_4, S188_7, S188_8, S188_11, S188_14, S188_16, S188_17, S188_18, S188_21, S188_22, S188_23, S188_26, S188_27, S188_30, S188_31, S188_32, S188_35, S188_37, S188_38, S188_39, S188_42, S188_43, S188_44, S188_45, S188_48, S188_49, S188_50, S188_53, S188_55, Option.bind_some, Option.map_some, xpush_s, xpush_n, xcat_0, xcat_i, xcat_r, xcat_l, xcat_n, xcat_e, xir_r, Nat.reduceAdd, Nat.reduceLeDiff, Nat.zero_le, Nat.le_refl, ↓reduceIte, Mg_24, Mr_12, hx, hx', i1, i2, n1, hnl, hm2, show ¬ (0 : Int32) ≤ -1 by decide]
        · have hb2 : bi (b (35 + 2 * k) 0 = -1) = 0 := bi_f (by rw [q1]; exact hm2)
          have hge2 : 0 ≤ a 12 k := q3.elim (fun e => absurd e hm2) (fun c => c.elim (fun e => by rw [e]; decide) (fun e => by rw [e]; decide))
          by_cases hso : a 12 i = a 12 k
          · by_cases kF : okr p u z0
            · by_cases kT : okr t u z1
              · have wF := fun d => w_run_t (δ := δ) (τ1 := τ1) (ε := ε) (τ2 := τ2) (ζ := ζ) (τ3 := τ3) (κ := κ) (n := n) (l := l) (ke := ke) (op := op) (sz := sz) (B := B) (S := S) (b := b) (H := mh a s w X) d hq r2 hz0 kF
                have wT := fun d => w_run_t (δ := δ) (τ1 := τ1) (ε := ε) (τ2 := τ2) (ζ := ζ) (τ3 := τ3) (κ := κ) (n := n) (l := l) (ke := ke) (op := op) (sz := sz) (B := B) (S := S) (b := b) (H := mh a s w X) d hq' q2 hz1 kT
                obtain ⟨P, M, rfl, rfl, hPM⟩ := kF
                obtain ⟨T, M', rfl, eM, hTM⟩ := kT
                have eM' : M = M' := (nI_eq (by omega) (by omega)).mp eM
                subst eM'
                obtain ⟨a', a1, a14, a15, eM2⟩ := m_cp (Ev (d + 199)) (a := a) (s := s) (w := w) (Z := cG δ τ1 ε τ2 ζ τ3 κ n l ke op sz B S (va_up b (35 + 2 * k + 1) (va_cpy (b (35 + 2 * i + 1)) (b (35 + 2 * k + 1)) P T M)) X) (i := i) (i' := k) (P := P) (T := T) (M := M) hi4 hk4 (by omega) (by omega) (fun j hj => by
                  have := r5 hm1 (P + j) (by omega)
                  rw [show 24 * i + P + j = 24 * i + (P + j) by omega]
                  rcases this with h | h
                  · exact Or.inr h.1
                  · exact Or.inl h.1)
                refine combN (nI M) (n' := n) (l' := l) (ke' := ke) (op' := op) (sz' := sz) (B' := B) (S' := S) (b' := va_up b (35 + 2 * k + 1) (va_cpy (b (35 + 2 * i + 1)) (b (35 + 2 * k + 1)) P T M)) (a' := a') (s' := s) (w' := w) ?_ ?_ (relS R (fun j h1 h2 h3 h4 h5 h6 => a1 j h3 h4 h5 h6) (fun q hq => vu_n _ _ (by omega)) (RS_copy R.2.2.2.2.2.2.1 hi4 hk4 hm1 (by omega) (by omega) (a1 _ (by decide) (by decide) (by decide) (by decide)) (a1 _ (by decide) (by decide) (by decide) (by decide)) a14 a15))
                · rw [E99]
                  simp only [S99_0, S99_1, S99_2, S99_3, S99_6, S99_9, S99_10, S99_11, S99_12, S99_15, S99_18, S99_20, S99_21, S99_22, S99_25, S99_26, S99_27, S99_29, S99_30, S99_33, S99_34, S99_35, S99_37, S99_39, S99_42, S99_45, S99_47, S99_50, S99_53, S99_55, S99_56, S99_58, S99_61, S99_63, S99_66, S99_69, S99_71, S99_72, S99_74, S99_75, S99_77, S99_80, S99_83, S99_85, S99_87, S99_89, S99_92, S99_95, S99_97, S99_98, S99_100, S99_103, S99_104, S99_106, S99_109, S99_111, S99_113, S99_116, S99_118, Option.bind_some, Option.map_some, xpush_s, xpush_n, xcat_0, xcat_i, xcat_r, xcat_l, xcat_n, xcat_e, xir_r, Nat.reduceAdd, Nat.reduceLeDiff, Nat.zero_le, Nat.le_refl, ↓reduceIte, C_6, C_q32 hi4, C_q32 hk4, W_cls hq, W_cls hq', o1, o2, w_miss _ hq, w_miss _ hq', hb, hb2, W_g0 hq, W_g0 hq', r1, q1, if_pos hso, wF, wT, W_g2 hq, W_g2 hq', W_cp hq' hq (show P + M ≤ 24 by omega) (show T + M ≤ 24 by omega), bi_f hm1, bi_f hm2]
                · have n0 : ¬ nI P < 0 := nI_pos (by omega)
                  have n2 : ¬ nI T < 0 := nI_pos (by omega)
                  have n3 : ¬ nI M < 0 := nI_pos (by omega)
                  have l1 : ¬ (nI z0).toInt64 < (nI P).toInt64 + (nI M).toInt64 := Int64.not_lt.mpr ((okr_le (by omega) (by omega) hz0).mpr hPM)
                  have l2 : (nI T).toInt64 + (nI M).toInt64 ≤ (nI z1).toInt64 := (okr_le (by omega) (by omega) hz1).mpr hTM
                  rw [E188]
                  simp only [S188_0, S188_1, S188_4, S188_7, S188_8, S188_11, S188_14, S188_16, S188_17, S188_18, S188_21, S188_22, S188_23, S188_26, S188_27, S188_30, S188_31, S188_32, S188_35, S188_37, S188_38, S188_39, S188_42, S188_43, S188_44, S188_45, S188_48, S188_49, S188_50, S188_53, S188_55, S188_56, S188_57, S188_60, S188_62, S188_65, S188_67, S188_70, S188_71, S188_72, S188_74, S188_75, S188_76, S188_77, S188_80, S188_81, S188_82, S188_83, S188_84, S188_87, S188_89, S188_90, S188_92, S188_93, S188_94, S188_95, S188_98, S188_99, S188_100, S188_101, S188_102, S188_105, S188_108, Option.bind_some, Option.map_some, xpush_s, xpush_n, xcat_0, xcat_i, xcat_r, xcat_l, xcat_n, xcat_e, xir_r, Nat.reduceAdd, Nat.reduceLeDiff, Nat.zero_le, Nat.le_refl, ↓reduceIte, Mg_24, Mg_25, Mr_12, Mr_13, hx, hx', i1, i2, n1, hnl, hge2, if_pos hso, n0, n2, n3, ez, ez1, lg_gt, lg_le0, l1, l2]
                  exact eM2
              · refine comb0 (v := -1000000013) R ?_ ?_
                · rw [E99]
                  simp only [S99_0, S99_1, S99_2, S99_3, S99_6, S99_9, S99_10, S99_11, S99_12, S99_15, S99_18, S99_20, S99_21, S99_22, S99_25, S99_26, S99_27, S99_29, S99_30, S99_33, S99_34, S99_35, S99_37, S99_39, S99_42, S99_45, S99_47, S99_50, S99_53, S99_55, S99_56, S99_58, S99_61, S99_63, S99_66, S99_69, S99_71, S99_72, S99_74, S99_75, S99_77, S99_80, S99_83, S99_85, S99_87, S99_89, S99_92, S99_95, S99_97, S99_98, S99_100, S99_103, S99_104, S99_106, S99_109, S99_111, S99_113, S99_116, S99_118, Option.bind_some, Option.map_some, xpush_s, xpush_n, xcat_0, xcat_i, xcat_r, xcat_l, xcat_n, xcat_e, xir_r, Nat.reduceAdd, Nat.reduceLeDiff, Nat.zero_le, Nat.le_refl, ↓reduceIte, C_6, C_q32 hi4, C_q32 hk4, W_cls hq, W_cls hq', o1, o2, w_miss _ hq, w_miss _ hq', hb, hb2, W_g0 hq, W_g0 hq', r1, q1, if_pos hso, w_run_t _ hq r2 hz0 kF, w_run_f _ hq' q2 hz1 kT, n1, bi_f hm1, bi_f hm2]
                · obtain ⟨P, M, rfl, rfl, hPM⟩ := kF
                  have n0 : ¬ nI P < 0 := nI_pos (by omega)
                  have n3 : ¬ nI M < 0 := nI_pos (by omega)
                  have l1 : ¬ (nI z0).toInt64 < (nI P).toInt64 + (nI M).toInt64 := Int64.not_lt.mpr ((okr_le (by omega) (by omega) hz0).mpr hPM)
                  rw [E188]
                  by_cases h2 : t < 0
                  · simp only [S188_0, S188_1, S188_4, S188_7, S188_8, S188_11, S188_14, S188_16, S188_17, S188_18, S188_21, S188_22, S188_23, S188_26, S188_27, S188_30, S188_31, S188_32, S188_35, S188_37, S188_38, S188_39, S188_42, S188_43, S188_44, S188_45, S188_48, S188_49, S188_50, S188_53, S188_55, S188_56, S188_57, S188_60, S188_62, S188_65, S188_67, S188_70, S188_71, S188_72, S188_74, S188_75, S188_76, S188_77, S188_80, S188_81, S188_82, S188_83, S188_84, S188_87, S188_89, S188_90, S188_92, S188_93, S188_94, S188_95, S188_98, S188_99, S188_100, S188_101, S188_102, S188_105, S188_108, Option.bind_some, Option.map_some, xpush_s, xpush_n, xcat_0, xcat_i, xcat_r, xcat_l, xcat_n, xcat_e, xir_r, Nat.reduceAdd, Nat.reduceLeDiff, Nat.zero_le, Nat.le_refl, ↓reduceIte, Mg_24, Mg_25, Mr_12, Mr_13, hx, hx', i1, i2, n1, hnl, hge2, if_pos hso, n0, h2]
                  · obtain ⟨T, hT, rfl⟩ := nI_of h2
                    have l2 : ¬ (nI T).toInt64 + (nI M).toInt64 ≤ (nI z1).toInt64 := fun e => kT ⟨T, M, rfl, rfl, (okr_le hT (by omega) hz1).mp e⟩
                    simp only [S188_0, S188_1, S188_4, S188_7, S188_8, S188_11, S188_14, S188_16, S188_17, S188_18, S188_21, S188_22, S188_23, S188_26, S188_27, S188_30, S188_31, S188_32, S188_35, S188_37, S188_38, S188_39, S188_42, S188_43, S188_44, S188_45, S188_48, S188_49, S188_50, S188_53, S188_55, S188_56, S188_57, S188_60, S188_62, S188_65, S188_67, S188_70, S188_71, S188_72, S188_74, S188_75, S188_76, S188_77, S188_80, S188_81, S188_82, S188_83, S188_84, S188_87, S188_89, S188_90, S188_92, S188_93, S188_94, S188_95, S188_98, S188_99, S188_100, S188_101, S188_102, S188_105, S188_108, Option.bind_some, Option.map_some, xpush_s, xpush_n, xcat_0, xcat_i, xcat_r, xcat_l, xcat_n, xcat_e, xir_r, Nat.reduceAdd, Nat.reduceLeDiff, Nat.zero_le, Nat.le_refl, ↓reduceIte, Mg_24, Mg_25, Mr_12, Mr_13, hx, hx', i1, i2, n1, hnl, hge2, if_pos hso, n0, h2, n3, ez, ez1, lg_gt, lg_le0, l1, l2]
            · refine comb0 (v := -1000000013) R ?_ ?_
              · rw [E99]
                simp only [S99_0, S99_1, S99_2, S99_3, S99_6, S99_9, S99_10, S99_11, S99_12, S99_15, S99_18, S99_20, S99_21, S99_22, S99_25, S99_26, S99_27, S99_29, S99_30, S99_33, S99_34, S99_35, S99_37, S99_39, S99_42, S99_45, S99_47, S99_50, S99_53, S99_55, S99_56, S99_58, S99_61, S99_63, S99_66, S99_69, S99_71, S99_72, S99_74, S99_75, S99_77, S99_80, S99_83, S99_85, S99_87, S99_89, S99_92, S99_95, S99_97, S99_98, S99_100, S99_103, S99_104, S99_106, S99_109, S99_111, S99_113, S99_116, S99_118, Option.bind_some, Option.map_some, xpush_s, xpush_n, xcat_0, xcat_i, xcat_r, xcat_l, xcat_n, xcat_e, xir_r, Nat.reduceAdd, Nat.reduceLeDiff, Nat.zero_le, Nat.le_refl, ↓reduceIte, C_6, C_q32 hi4, C_q32 hk4, W_cls hq, W_cls hq', o1, o2, w_miss _ hq, w_miss _ hq', hb, hb2, W_g0 hq, W_g0 hq', r1, q1, if_pos hso, w_run_f _ hq r2 hz0 kF, n1, bi_f hm1, bi_f hm2]
              · rw [E188]
                by_cases h1 : p < 0
                · simp only [S188_0, S188_1, S188_4, S188_7, S188_8, S188_11, S188_14, S188_16, S188_17, S188_18, S188_21, S188_22, S188_23, S188_26, S188_27, S188_30, S188_31, S188_32, S188_35, S188_37, S188_38, S188_39, S188_42, S188_43, S188_44, S188_45, S188_48, S188_49, S188_50, S188_53, S188_55, S188_56, S188_57, S188_60, S188_62, S188_65, S188_67, S188_70, S188_71, S188_72, S188_74, S188_75, S188_76, S188_77, S188_80, S188_81, S188_82, S188_83, S188_84, S188_87, S188_89, S188_90, S188_92, S188_93, S188_94, S188_95, S188_98, S188_99, S188_100, S188_101, S188_102, S188_105, S188_108, Option.bind_some, Option.map_some, xpush_s, xpush_n, xcat_0, xcat_i, xcat_r, xcat_l, xcat_n, xcat_e, xir_r, Nat.reduceAdd, Nat.reduceLeDiff, Nat.zero_le, Nat.le_refl, ↓reduceIte, Mg_24, Mg_25, Mr_12, Mr_13, hx, hx', i1, i2, n1, hnl, hge2, if_pos hso, h1]
                · by_cases h2 : t < 0
                  · simp only [S188_0, S188_1, S188_4, S188_7, S188_8, S188_11, S188_14, S188_16, S188_17, S188_18, S188_21, S188_22, S188_23, S188_26, S188_27, S188_30, S188_31, S188_32, S188_35, S188_37, S188_38, S188_39, S188_42, S188_43, S188_44, S188_45, S188_48, S188_49, S188_50, S188_53, S188_55, S188_56, S188_57, S188_60, S188_62, S188_65, S188_67, S188_70, S188_71, S188_72, S188_74, S188_75, S188_76, S188_77, S188_80, S188_81, S188_82, S188_83, S188_84, S188_87, S188_89, S188_90, S188_92, S188_93, S188_94, S188_95, S188_98, S188_99, S188_100, S188_101, S188_102, S188_105, S188_108, Option.bind_some, Option.map_some, xpush_s, xpush_n, xcat_0, xcat_i, xcat_r, xcat_l, xcat_n, xcat_e, xir_r, Nat.reduceAdd, Nat.reduceLeDiff, Nat.zero_le, Nat.le_refl, ↓reduceIte, Mg_24, Mg_25, Mr_12, Mr_13, hx, hx', i1, i2, n1, hnl, hge2, if_pos hso, h1, h2]
                  · by_cases h3 : u < 0
                    · simp only [S188_0, S188_1, S188_4, S188_7, S188_8, S188_11, S188_14, S188_16, S188_17, S188_18, S188_21, S188_22, S188_23, S188_26, S188_27, S188_30, S188_31, S188_32, S188_35, S188_37, S188_38, S188_39, S188_42, S188_43, S188_44, S188_45, S188_48, S188_49, S188_50, S188_53, S188_55, S188_56, S188_57, S188_60, S188_62, S188_65, S188_67, S188_70, S188_71, S188_72, S188_74, S188_75, S188_76, S188_77, S188_80, S188_81, S188_82, S188_83, S188_84, S188_87, S188_89, S188_90, S188_92, S188_93, S188_94, S188_95, S188_98, S188_99, S188_100, S188_101, S188_102, S188_105, S188_108, Option.bind_some, Option.map_some, xpush_s, xpush_n, xcat_0, xcat_i, xcat_r, xcat_l, xcat_n, xcat_e, xir_r, Nat.reduceAdd, Nat.reduceLeDiff, Nat.zero_le, Nat.le_refl, ↓reduceIte, Mg_24, Mg_25, Mr_12, Mr_13, hx, hx', i1, i2, n1, hnl, hge2, if_pos hso, h1, h2, h3]
                    · obtain ⟨P, hP, rfl⟩ := nI_of h1
                      obtain ⟨M, hM, rfl⟩ := nI_of h3
                      have l1 : (nI z0).toInt64 < (nI P).toInt64 + (nI M).toInt64 := Int64.not_le.mp (fun e => kF ⟨P, M, rfl, rfl, (okr_le hP hM hz0).mp e⟩)
                      simp only [S188_0, S188_1, S188_4, S188_7, S188_8, S188_11, S188_14, S188_16, S188_17, S188_18, S188_21, S188_22, S188_23, S188_26, S188_27, S188_30, S188_31, S188_32, S188_35, S188_37, S188_38, S188_39, S188_42, S188_43, S188_44, S188_45, S188_48, S188_49, S188_50, S188_53, S188_55, S188_56, S188_57, S188_60, S188_62, S188_65, S188_67, S188_70, S188_71, S188_72, S188_74, S188_75, S188_76, S188_77, S188_80, S188_81, S188_82, S188_83, S188_84, S188_87, S188_89, S188_90, S188_92, S188_93, S188_94, S188_95, S188_98, S188_99, S188_100, S188_101, S188_102, S188_105, S188_108, Option.bind_some, Option.map_some, xpush_s, xpush_n, xcat_0, xcat_i, xcat_r, xcat_l, xcat_n, xcat_e, xir_r, Nat.reduceAdd, Nat.reduceLeDiff, Nat.zero_le, Nat.le_refl, ↓reduceIte, Mg_24, Mg_25, Mr_12, Mr_13, hx, hx', i1, i2, n1, hnl, hge2, if_pos hso, h1, h2, h3, ez, lg_gt, l1]
          · refine comb0 (v := -1000000012) R ?_ ?_
            · rw [E99]
              simp only [S99_0, S99_1, S99_2, S99_3, S99_6, S99_9, S99_10, S99_11, S99_12, S99_15, S99_18, S99_20, S99_21, S99_22, S99_25, S99_26, S99_27, S99_29, S99_30, S99_33, S99_34, S99_35, S99_37, S99_39, S99_42, S99_45, S99_47, S99_50, S99_53, S99_55, S99_56, S99_58, S99_61, S99_63, S99_66, S99_69, S99_71, S99_72, S99_74, S99_75, S99_77, S99_80, S99_83, S99_85, S99_87, S99_89, S99_92, S99_95, S99_97, S99_98, S99_100, S99_103, S99_104, S99_106, S99_109, S99_111, S99_113, S99_116, S99_118, Option.bind_some, Option.map_some, xpush_s, xpush_n, xcat_0, xcat_i, xcat_r, xcat_l, xcat_n, xcat_e, xir_r, Nat.reduceAdd, Nat.reduceLeDiff, Nat.zero_le, Nat.le_refl, ↓reduceIte, C_6, C_q32 hi4, C_q32 hk4, W_cls hq, W_cls hq', o1, o2, w_miss _ hq, w_miss _ hq', hb, hb2, W_g0 hq, W_g0 hq', r1, q1, if_neg hso, n1, bi_f hm1, bi_f hm2]
            · rw [E188]
              simp only [S188_0, S188_1, S188_4, S188_7, S188_8, S188_11, S188_14, S188_16, S188_17, S188_18, S188_21, S188_22, S188_23, S188_26, S188_27, S188_30, S188_31, S188_32, S188_35, S188_37, S188_38, S188_39, S188_42, S188_43, S188_44, S188_45, S188_48, S188_49, S188_50, S188_53, S188_55, S188_56, S188_57, S188_60, S188_62, S188_65, S188_67, S188_70, S188_71, S188_72, S188_74, S188_75, S188_76, S188_77, S188_80, S188_81, S188_82, S188_83, S188_84, S188_87, S188_89, S188_90, S188_92, S188_93, S188_94, S188_95, S188_98, S188_99, S188_100, S188_101, S188_102, S188_105, S188_108, Option.bind_some, Option.map_some, xpush_s, xpush_n, xcat_0, xcat_i, xcat_r, xcat_l, xcat_n, xcat_e, xir_r, Nat.reduceAdd, Nat.reduceLeDiff, Nat.zero_le, Nat.le_refl, ↓reduceIte, Mg_24, Mr_12, hx, hx', i1, i2, n1, hnl, hge2, if_neg hso]
    · refine comb0 (v := -1000000001) R ?_ ?_
      · rw [E99]
        simp only [S99_0, S99_1, S99_2, S99_3, S99_6, S99_9, S99_10, S99_11, S99_12, S99_15, S99_18, S99_20, S99_21, S99_22, S99_25, S99_26, S99_27, S99_29, S99_30, S99_33, S99_34, S99_35, S99_37, S99_39, S99_42, S99_45, S99_47, S99_50, S99_53, S99_55, S99_56, S99_58, S99_61, S99_63, S99_66, S99_69, S99_71, S99_72, S99_74, S99_75, S99_77, S99_80, S99_83, S99_85, S99_87, S99_89, S99_92, S99_95, S99_97, S99_98, S99_100, S99_103, S99_104, S99_106, S99_109, S99_111, S99_113, S99_116, S99_118, Option.bind_some, Option.map_some, xpush_s, xpush_n, xcat_0, xcat_i, xcat_r, xcat_l, xcat_n, xcat_e, xir_r, Nat.reduceAdd, Nat.reduceLeDiff, Nat.zero_le, Nat.le_refl, ↓reduceIte, n1, o1, ou_t _ _ (n := 3) (N := 3) rfl (by decide) c2]
      · rw [E188]
        simp only [S188_0, S188_1, S188_4, S188_7, S188_8, S188_11, S188_14, S188_16, S188_17, S188_18, S188_21, S188_22, S188_23, S188_26, S188_27, S188_30, S188_31, S188_32, S188_35, S188_37, S188_38, S188_39, S188_42, S188_43, S188_44, S188_45, S188_48, S188_49, S188_50, S188_53, S188_55, Option.bind_some, Option.map_some, xpush_s, xpush_n, xcat_0, xcat_i, xcat_r, xcat_l, xcat_n, xcat_e, xir_r, Nat.reduceAdd, Nat.reduceLeDiff, Nat.zero_le, Nat.le_refl, ↓reduceIte, n1, i1, m_sh_f _ _ c2]
  · refine comb0 (v := -1000000001) R ?_ ?_
    · rw [E99]
      simp only [S99_0, S99_1, S99_2, S99_3, S99_6, S99_9, S99_10, S99_11, S99_12, S99_15, S99_18, S99_20, S99_21, S99_22, S99_25, S99_26, S99_27, S99_29, S99_30, S99_33, S99_34, S99_35, S99_37, S99_39, S99_42, S99_45, S99_47, S99_50, S99_53, S99_55, S99_56, S99_58, S99_61, S99_63, S99_66, S99_69, S99_71, S99_72, S99_74, S99_75, S99_77, S99_80, S99_83, S99_85, S99_87, S99_89, S99_92, S99_95, S99_97, S99_98, S99_100, S99_103, S99_104, S99_106, S99_109, S99_111, S99_113, S99_116, S99_118, Option.bind_some, Option.map_some, xpush_s, xpush_n, xcat_0, xcat_i, xcat_r, xcat_l, xcat_n, xcat_e, xir_r, Nat.reduceAdd, Nat.reduceLeDiff, Nat.zero_le, Nat.le_refl, ↓reduceIte, n1, ou_t _ _ (n := 3) (N := 3) rfl (by decide) c1]
    · rw [E188]
      simp only [S188_0, S188_1, S188_4, S188_7, S188_8, S188_11, S188_14, S188_16, S188_17, S188_18, S188_21, S188_22, S188_23, S188_26, S188_27, S188_30, S188_31, S188_32, S188_35, S188_37, S188_38, S188_39, S188_42, S188_43, S188_44, S188_45, S188_48, S188_49, S188_50, S188_53, S188_55, Option.bind_some, Option.map_some, xpush_s, xpush_n, xcat_0, xcat_i, xcat_r, xcat_l, xcat_n, xcat_e, xir_r, Nat.reduceAdd, Nat.reduceLeDiff, Nat.zero_le, Nat.le_refl, ↓reduceIte, n1, m_sh_f _ _ c1]

