/-! part 61, by program (wip/whole/gen/calls12.py): calls, twelfth lot: like -/
def ab (x : Int32) : Int32 := if 0 ≤ x then x else -x
theorem s_ab (d : Nat) (x : Int32) (h : xh) : Ev (d + 1) 203 [.int x] h = some (some (.int (ab x)), h) := s_abs d x h
theorem m_size (d : Nat) (x : Int32) (h : xh) : Ev (d + 1) 164 [.int x] h = some (some (.int (ab x)), h) := by
  rw [E164]
  unfold ab
  by_cases c : 0 ≤ x
  · simp only [S164_0, S164_1, S164_4, S164_5, S164_6, S164_9, S164_10, Option.bind_some, Option.map_some, xpush_s, xpush_n, xcat_0, xcat_i, xcat_r, xcat_l, xcat_n, xcat_e, xir_r, Nat.reduceAdd, Nat.reduceLeDiff, Nat.zero_le, Nat.le_refl, ↓reduceIte, c]
  · simp only [S164_0, S164_1, S164_4, S164_5, S164_6, S164_9, S164_10, Option.bind_some, Option.map_some, xpush_s, xpush_n, xcat_0, xcat_i, xcat_r, xcat_l, xcat_n, xcat_e, xir_r, Nat.reduceAdd, Nat.reduceLeDiff, Nat.zero_le, Nat.le_refl, ↓reduceIte, c]
/-- t cells have grown by f -/
def adI (g f : Nat → Int32) (t : Nat) : Nat → Int32 := fun j => if j < t then g j + f j else g j
theorem adI_0 (g f : Nat → Int32) : adI g f 0 = g := by
  funext j
  unfold adI
  rw [if_neg (by omega)]
theorem adI_r (g f : Nat → Int32) (t : Nat) : adI g f t t = g t := if_neg (by omega)
theorem adI_s (g f : Nat → Int32) (t : Nat) : upd (adI g f t) t (g t + f t) = adI g f (t + 1) := by
  funext j
  unfold upd adI
  by_cases h : j = t
  · rw [if_pos h, if_pos (by omega), h]
  · rw [if_neg h]
    by_cases h2 : j < t
    · rw [if_pos h2, if_pos (by omega)]
    · rw [if_neg h2, if_neg (by omega)]
def lkf (δ : Nat → Int32) (c : Int32) : Nat → Int32 := fun t => ab (δ (8 + t) - c)
/-- the sums of like: u places still to see, k seen -/
def lkF (Q : Option xq) (c : Nat → Int32) : Nat → Nat → (Nat → Int32) → (Nat → Int32) → Nat → Int32
  | 0, _, _, g => g
  | u + 1, k, δ, g => lkF Q c u (k + 1) (sMonth Q δ) (if c k = -1000000005 then g else adI g (lkf δ (c k)) 12)
theorem lkF_e (Q : Option xq) (c : Nat → Int32) : ∀ u k (δ g g' : Nat → Int32), (∀ t, t < 12 → g t = g' t) → ∀ t, t < 12 → lkF Q c u k δ g t = lkF Q c u k δ g' t
  | 0, _, _, _, _, h => h
  | u + 1, k, δ, g, g', h => by
    refine lkF_e Q c u (k + 1) (sMonth Q δ) _ _ ?_
    intro t ht
    by_cases e : c k = -1000000005
    · rw [if_pos e, if_pos e]; exact h t ht
    · rw [if_neg e, if_neg e]
      unfold adI
      rw [if_pos ht, if_pos ht, h t ht]
def mnF (A : Nat → Int32) : Nat → Nat → Nat → Nat
  | 0, _, b => b
  | j + 1, r, b => mnF A j (r + 1) (if A r < A b then r else b)
theorem mnF_lt (A : Nat → Int32) : ∀ j r b, r + j = 12 → b < 12 → mnF A j r b < 12
  | 0, _, _, _, h => h
  | j + 1, r, b, e, h => mnF_lt A j (r + 1) _ (by omega) (by split <;> omega)
theorem mnF_e {A A' : Nat → Int32} (h : ∀ t, t < 12 → A t = A' t) : ∀ j r b, r + j = 12 → b < 12 → mnF A j r b = mnF A' j r b
  | 0, _, _, _, _ => rfl
  | j + 1, r, b, e, hb => by
    show mnF A j (r + 1) _ = mnF A' j (r + 1) _
    rw [h r (by omega), h b hb]
    exact mnF_e h j (r + 1) _ (by omega) (by split <;> omega)
section LKC
variable {δ ε ζ : Nat → Int32} {τ1 τ2 τ3 : xt} {κ : Nat → Nat → Int32} {n : Nat} {l : lk} {ke op sz : Int32} {B S : Nat → Int32} {b : Nat → Nat → Int32} {H : xh}
theorem c_fill28_l (ev : xe) (x : Int32) : ∀ j k, k + j = 12 → ∀ b : Nat → Nat → Int32, RF 215 ev 5 [some (.ref 28), some (.int x), some (.int (nI k)), some (.int (nI 12))] [] (cG δ τ1 ε τ2 ζ τ3 κ n l ke op sz B S (va_up b 28 (fil (b 28) x k)) H) = some (none, cG δ τ1 ε τ2 ζ τ3 κ n l ke op sz B S (va_up b 28 (fil (b 28) x 12)) H)
  | 0, k, e, b => by
    have e' : k = 12 := by omega
    subst e'
    rw [S215_5]
    simp only [S215_0, S215_1, S215_2, S215_3, S215_4, S215_6, S215_7, S215_10, S215_11, S215_12, S215_13, S215_14, S215_17, S215_20, Option.bind_some, Option.map_some, xpush_s, xpush_n, xcat_0, xcat_i, xcat_r, xcat_l, xcat_n, xcat_e, xir_r, Nat.reduceAdd, Nat.reduceLeDiff, Nat.zero_le, Nat.le_refl, ↓reduceIte, show (nI 12 ≤ nI 12) = True from eq_true (Int32.le_refl _)]
  | j + 1, k, e, b => by
    have hc : ¬ nI 12 ≤ nI k := nI_ge (by omega) (by decide)
    have ih := c_fill28_l ev x j (k + 1) (by omega) b
    rw [S215_5]
    simp only [S215_0, S215_1, S215_2, S215_3, S215_4, S215_6, S215_7, S215_10, S215_11, S215_12, S215_13, S215_14, S215_17, S215_20, Option.bind_some, Option.map_some, xpush_s, xpush_n, xcat_0, xcat_i, xcat_r, xcat_l, xcat_n, xcat_e, xir_r, Nat.reduceAdd, Nat.reduceLeDiff, Nat.zero_le, Nat.le_refl, ↓reduceIte, hc, C_w28, xix_n (show k < 12 by omega) (show 12 ≤ 100000 by decide), vu_s, vu_u, fil_s, nI_1]
    exact ih
theorem c_fill28 (d : Nat) (x : Int32) : Ev (d + 1) 215 [.ref 28, .int x] (cG δ τ1 ε τ2 ζ τ3 κ n l ke op sz B S b H) = some (none, cG δ τ1 ε τ2 ζ τ3 κ n l ke op sz B S (va_up b 28 (fil (b 28) x 12)) H) := by
  rw [E215]
  have h0 := c_fill28_l (δ := δ) (τ1 := τ1) (ε := ε) (τ2 := τ2) (ζ := ζ) (τ3 := τ3) (κ := κ) (n := n) (l := l) (ke := ke) (op := op) (sz := sz) (B := B) (S := S) (H := H) (Ev d) x 12 0 rfl b
  rw [fil_0, vu_self] at h0
  simp only [S215_0, S215_1, S215_2, S215_3, S215_4, S215_6, S215_7, S215_10, S215_11, S215_12, S215_13, S215_14, S215_17, S215_20, Option.bind_some, Option.map_some, xpush_s, xpush_n, xcat_0, xcat_i, xcat_r, xcat_l, xcat_n, xcat_e, xir_r, Nat.reduceAdd, Nat.reduceLeDiff, Nat.zero_le, Nat.le_refl, ↓reduceIte, C_len28]
  exact h0
theorem c_li (d : Nat) {q k : Nat} (hq : isRw q) (hk : k < 24) (hh : ∀ g, Ev (d + 3) 27 [.ref q, .int (nI k)] (cG δ τ1 ε τ2 ζ τ3 κ n l ke op sz B S (va_up b 28 g) H) = some (some (.int 1), cG δ τ1 ε τ2 ζ τ3 κ n l ke op sz B S (va_up b 28 g) H)) (g : Nat → Int32) : ∀ j r, r + j = 12 → RF 87 (Ev (d + 3)) 37 [some (.ref 0), some (.ref q), some (.int (nI k)), some (.int (nI r))] [] (cG δ τ1 ε τ2 ζ τ3 κ n l ke op sz B S (va_up b 28 (adI g (lkf ζ (b (q + 1) k)) r)) H) = RF 87 (Ev (d + 3)) 85 [some (.ref 0), some (.ref q), some (.int (nI k)), some (.int (nI 12))] [] (cG δ τ1 ε τ2 ζ τ3 κ n l ke op sz B S (va_up b 28 (adI g (lkf ζ (b (q + 1) k)) 12)) H)
  | 0, r, e => by
    have e' : r = 12 := by omega
    subst e'
    rw [S87_37]
    simp only [S87_38, S87_40, S87_43, S87_44, S87_45, S87_48, S87_51, S87_52, S87_55, S87_56, S87_57, S87_58, S87_59, S87_62, S87_65, S87_66, S87_67, S87_68, S87_71, S87_72, S87_73, S87_74, S87_77, S87_78, S87_79, S87_82, Option.bind_some, Option.map_some, xpush_s, xpush_n, xcat_0, xcat_i, xcat_r, xcat_l, xcat_n, xcat_e, xir_r, Nat.reduceAdd, Nat.reduceLeDiff, Nat.zero_le, Nat.le_refl, ↓reduceIte, show ((12 : Int32) ≤ nI 12) = True from eq_true (Int32.le_refl _)]
  | j + 1, r, e => by
    have hc : ¬ (12 : Int32) ≤ nI r := nI_ge (b := 12) (by omega) (by decide)
    have hr : r < 12 := by omega
    have hx := xix_n hr (show 12 ≤ 100000 by decide)
    have hxk := xix_n hk (show 24 ≤ 100000 by decide)
    have hs : upd (adI g (lkf ζ (b (q + 1) k)) r) r (g r + ab (ζ (8 + r) - b (q + 1) k)) = adI g (lkf ζ (b (q + 1) k)) (r + 1) := adI_s _ _ _
    have hn : q + 1 ≠ 28 := by unfold isRw at hq; omega
    rw [S87_37]
    simp only [S87_38, S87_40, S87_43, S87_44, S87_45, S87_48, S87_51, S87_52, S87_55, S87_56, S87_57, S87_58, S87_59, S87_62, S87_65, S87_66, S87_67, S87_68, S87_71, S87_72, S87_73, S87_74, S87_77, S87_78, S87_79, S87_82, Option.bind_some, Option.map_some, xpush_s, xpush_n, xcat_0, xcat_i, xcat_r, xcat_l, xcat_n, xcat_e, xir_r, Nat.reduceAdd, Nat.reduceLeDiff, Nat.zero_le, Nat.le_refl, ↓reduceIte, hc, W_cls hq, hh, show ¬ (1 : Int32) = 0 by decide, C_4, C_r28, C_w28, hx, C_2, Q_g0, Q_w hr, W_g2 hq, W_r hq, hxk, s_ab, vu_s, vu_u, vu_n _ _ hn, adI_r, hs, nI_1]
    exact c_li d hq hk hh g j (r + 1) (by omega)
end LKC
theorem c_lo (d : Nat) {δ ε ζ : Nat → Int32} {τ1 τ2 τ3 : xt} {κ : Nat → Nat → Int32} {n : Nat} {l : lk} {ke op sz : Int32} {B S : Nat → Int32} {b : Nat → Nat → Int32} {a : Nat → Nat → Int32} {s : Nat → Int32} {w : Int64} {X : xh} {Q : Option xq} (hQ : LW X τ3 0 Q) {q Z : Nat} (hq : isRw q) (hZ : Z ≤ 24) (hs : b q 1 = nI Z) : ∀ u k, k + u = Z → ∀ (ζ : Nat → Int32) (κ : Nat → Nat → Int32) (g : Nat → Int32) (l3 : Option Value), wf ζ → ∃ ζ' κ', RF 87 (Ev (d + 5)) 21 [some (.ref 0), some (.ref q), some (.int (nI k)), l3] [] (cG δ τ1 ε τ2 ζ τ3 κ n l ke op sz B S (va_up b 28 g) (mh a s w X)) = some (none, cG δ τ1 ε τ2 ζ' τ3 κ' n l ke op sz B S (va_up b 28 (lkF Q (b (q + 1)) u k ζ g)) (mh a s w X)) := by
  have hn : q ≠ 28 := by unfold isRw at hq; omega
  have hn1 : q + 1 ≠ 28 := by unfold isRw at hq; omega
  intro u
  induction u with
  | zero =>
    intro k e ζ κ g l3 hw
    have e' : k = Z := by omega
    subst e'
    refine ⟨ζ, κ, ?_⟩
    rw [S87_21]
    by_cases h : 24 ≤ k
    · have hc : (24 : Int32) ≤ nI k := nI_le (a := 24) h (by omega)
      simp only [S87_22, S87_24, S87_27, S87_28, S87_29, S87_32, S87_99, Option.bind_some, Option.map_some, xpush_s, xpush_n, xcat_0, xcat_i, xcat_r, xcat_l, xcat_n, xcat_e, xir_r, Nat.reduceAdd, Nat.reduceLeDiff, Nat.zero_le, Nat.le_refl, ↓reduceIte, hc]
      rfl
    · have hc : ¬ (24 : Int32) ≤ nI k := nI_ge (b := 24) (by omega) (by decide)
      simp only [S87_22, S87_24, S87_27, S87_28, S87_29, S87_32, S87_99, Option.bind_some, Option.map_some, xpush_s, xpush_n, xcat_0, xcat_i, xcat_r, xcat_l, xcat_n, xcat_e, xir_r, Nat.reduceAdd, Nat.reduceLeDiff, Nat.zero_le, Nat.le_refl, ↓reduceIte, hc, W_g1 hq, vu_n _ _ hn, hs, show (nI k ≤ nI k) = True from eq_true (Int32.le_refl _)]
      rfl
  | succ u ih =>
    intro k e ζ κ g l3 hw
    have hc : ¬ (24 : Int32) ≤ nI k := nI_ge (b := 24) (by omega) (by decide)
    have hc2 : ¬ nI Z ≤ nI k := nI_ge (by omega) (by omega)
    have hmw := mw_month Q hw
    have hh : ∀ g, Ev (d + 5) 27 [.ref q, .int (nI k)] (cG δ τ1 ε τ2 ζ τ3 κ n l ke op sz B S (va_up b 28 g) (mh a s w X)) = some (some (.int (bi (¬ b (q + 1) k = -1000000005))), cG δ τ1 ε τ2 ζ τ3 κ n l ke op sz B S (va_up b 28 g) (mh a s w X)) := by
      intro g
      have := w_has (δ := δ) (τ1 := τ1) (ε := ε) (τ2 := τ2) (ζ := ζ) (τ3 := τ3) (κ := κ) (n := n) (l := l) (ke := ke) (op := op) (sz := sz) (B := B) (S := S) (b := va_up b 28 g) (H := mh a s w X) (d + 2) hq (i := k) (by omega) (bi_f (by rw [vu_n _ _ hn, hs]; exact fun z => (ix_o (by omega)).mp z ⟨k, by omega, rfl⟩))
      rw [vu_n _ _ hn1] at this
      exact this
    by_cases h : b (q + 1) k = -1000000005
    · have e1 : ∃ κ', Ev (d + 5) 10 [.ref 19, .int 1] (cG δ τ1 ε τ2 ζ τ3 κ n l ke op sz B S (va_up b 28 g) (mh a s w X)) = some (none, cG δ τ1 ε τ2 (sMonth Q ζ) τ3 κ' n l ke op sz B S (va_up b 28 g) (mh a s w X)) := Q_pass d hw hi_mh hQ (k := 1) (by decide)
      obtain ⟨κ1, e1⟩ := e1
      obtain ⟨ζ2, κ2, e2⟩ := ih (k + 1) (by omega) (sMonth Q ζ) κ1 g (some (.int 0)) hmw.1
      refine ⟨ζ2, κ2, ?_⟩
      rw [show lkF Q (b (q + 1)) (u + 1) k ζ g = lkF Q (b (q + 1)) u (k + 1) (sMonth Q ζ) g from by show lkF Q (b (q + 1)) u (k + 1) (sMonth Q ζ) _ = _; rw [if_pos h], ← e2, S87_21]
      simp only [S87_22, S87_24, S87_27, S87_28, S87_29, S87_32, S87_35, S87_36, S87_37, S87_38, S87_40, S87_43, S87_44, S87_45, S87_48, S87_51, S87_52, S87_55, S87_56, S87_57, S87_58, S87_59, S87_62, S87_65, S87_66, S87_67, S87_68, S87_71, S87_72, S87_73, S87_74, S87_77, S87_78, S87_79, S87_82, S87_85, S87_86, S87_89, S87_90, S87_93, S87_96, Option.bind_some, Option.map_some, xpush_s, xpush_n, xcat_0, xcat_i, xcat_r, xcat_l, xcat_n, xcat_e, xir_r, Nat.reduceAdd, Nat.reduceLeDiff, Nat.zero_le, Nat.le_refl, ↓reduceIte, hc, hc2, W_cls hq, W_g1 hq, vu_n _ _ hn, hs, hh, bi_f (show ¬ ¬ b (q + 1) k = -1000000005 from fun z => z h), show ¬ (12 : Int32) ≤ 0 by decide, C_2, Q_cls, e1, nI_1]
    · have e1 : ∃ κ', Ev (d + 5) 10 [.ref 19, .int 1] (cG δ τ1 ε τ2 ζ τ3 κ n l ke op sz B S (va_up b 28 (adI g (lkf ζ (b (q + 1) k)) 12)) (mh a s w X)) = some (none, cG δ τ1 ε τ2 (sMonth Q ζ) τ3 κ' n l ke op sz B S (va_up b 28 (adI g (lkf ζ (b (q + 1) k)) 12)) (mh a s w X)) := Q_pass d hw hi_mh hQ (k := 1) (by decide)
      obtain ⟨κ1, e1⟩ := e1
      obtain ⟨ζ2, κ2, e2⟩ := ih (k + 1) (by omega) (sMonth Q ζ) κ1 (adI g (lkf ζ (b (q + 1) k)) 12) (some (.int (nI 12))) hmw.1
      refine ⟨ζ2, κ2, ?_⟩
      have hl := c_li (δ := δ) (τ1 := τ1) (ε := ε) (τ2 := τ2) (ζ := ζ) (τ3 := τ3) (κ := κ) (n := n) (l := l) (ke := ke) (op := op) (sz := sz) (B := B) (S := S) (b := b) (H := mh a s w X) (d + 2) hq (show k < 24 by omega) (fun g => by rw [hh g, bi_t h]) g 12 0 rfl
      rw [adI_0] at hl
      rw [show lkF Q (b (q + 1)) (u + 1) k ζ g = lkF Q (b (q + 1)) u (k + 1) (sMonth Q ζ) (adI g (lkf ζ (b (q + 1) k)) 12) from by show lkF Q (b (q + 1)) u (k + 1) (sMonth Q ζ) _ = _; rw [if_neg h], ← e2, S87_21]
      simp only [S87_22, S87_24, S87_27, S87_28, S87_29, S87_32, S87_35, S87_36, Option.bind_some, Option.map_some, xpush_s, xpush_n, xcat_0, xcat_i, xcat_r, xcat_l, xcat_n, xcat_e, xir_r, Nat.reduceAdd, Nat.reduceLeDiff, Nat.zero_le, Nat.le_refl, ↓reduceIte, hc, hc2, W_g1 hq, vu_n _ _ hn, hs]
      rw [show (0 : Int32) = nI 0 from rfl, hl]
      simp only [S87_85, S87_86, S87_89, S87_90, S87_93, S87_96, Option.bind_some, Option.map_some, xpush_s, xpush_n, xcat_0, xcat_i, xcat_r, xcat_l, xcat_n, xcat_e, xir_r, Nat.reduceAdd, Nat.reduceLeDiff, Nat.zero_le, Nat.le_refl, ↓reduceIte, C_2, Q_cls, e1, nI_1]
theorem c_mn (ev : xe) {δ ε ζ : Nat → Int32} {τ1 τ2 τ3 : xt} {κ : Nat → Nat → Int32} {n : Nat} {l : lk} {ke op sz : Int32} {B S : Nat → Int32} {b : Nat → Nat → Int32} {H : xh} {x y : Int32} : ∀ j r t, r + j = 12 → t < 12 → RF 86 ev 51 [some (.ref 0), some (.int x), some (.int y), some (.int (nI t)), some (.int (nI r))] [] (cG δ τ1 ε τ2 ζ τ3 κ n l ke op sz B S b H) = RF 86 ev 83 [some (.ref 0), some (.int x), some (.int y), some (.int (nI (mnF (b 28) j r t))), some (.int (nI 12))] [] (cG δ τ1 ε τ2 ζ τ3 κ n l ke op sz B S b H)
  | 0, r, t, e, ht => by
    have e' : r = 12 := by omega
    subst e'
    rw [S86_51]
    simp only [S86_53, S86_55, S86_58, S86_59, S86_62, S86_64, S86_65, S86_66, S86_69, S86_70, S86_71, S86_74, S86_76, S86_77, S86_80, Option.bind_some, Option.map_some, xpush_s, xpush_n, xcat_0, xcat_i, xcat_r, xcat_l, xcat_n, xcat_e, xir_r, Nat.reduceAdd, Nat.reduceLeDiff, Nat.zero_le, Nat.le_refl, ↓reduceIte, show ((12 : Int32) ≤ nI 12) = True from eq_true (Int32.le_refl _)]
    rfl
  | j + 1, r, t, e, ht => by
    have hc : ¬ (12 : Int32) ≤ nI r := nI_ge (b := 12) (by omega) (by decide)
    have hx := xix_n (show r < 12 by omega) (show 12 ≤ 100000 by decide)
    have hx2 := xix_n ht (show 12 ≤ 100000 by decide)
    have ih := c_mn ev (δ := δ) (τ1 := τ1) (ε := ε) (τ2 := τ2) (ζ := ζ) (τ3 := τ3) (κ := κ) (n := n) (l := l) (ke := ke) (op := op) (sz := sz) (B := B) (S := S) (b := b) (H := H) (x := x) (y := y) j (r + 1) (if b 28 r < b 28 t then r else t) (by omega) (by split <;> omega)
    rw [show mnF (b 28) (j + 1) r t = mnF (b 28) j (r + 1) (if b 28 r < b 28 t then r else t) from rfl, ← ih, S86_51]
    by_cases h : b 28 r < b 28 t
    · rw [if_pos h]
      simp only [S86_53, S86_55, S86_58, S86_59, S86_62, S86_64, S86_65, S86_66, S86_69, S86_70, S86_71, S86_74, S86_76, S86_77, S86_80, Option.bind_some, Option.map_some, xpush_s, xpush_n, xcat_0, xcat_i, xcat_r, xcat_l, xcat_n, xcat_e, xir_r, Nat.reduceAdd, Nat.reduceLeDiff, Nat.zero_le, Nat.le_refl, ↓reduceIte, hc, C_4, C_r28, hx, hx2, nI_1, show ¬ b 28 t ≤ b 28 r from Int32.not_le.mpr h]
    · rw [if_neg h]
      simp only [S86_53, S86_55, S86_58, S86_59, S86_62, S86_64, S86_65, S86_66, S86_69, S86_70, S86_71, S86_74, S86_76, S86_77, S86_80, Option.bind_some, Option.map_some, xpush_s, xpush_n, xcat_0, xcat_i, xcat_r, xcat_l, xcat_n, xcat_e, xir_r, Nat.reduceAdd, Nat.reduceLeDiff, Nat.zero_le, Nat.le_refl, ↓reduceIte, hc, C_4, C_r28, hx, hx2, nI_1, show b 28 t ≤ b 28 r from Int32.not_lt.mp h]
section LKM
variable {a : Nat → Nat → Int32} {κ s : Nat → Int32} {w : Int64} {H : xh} {δ : Nat → Int32}
theorem Dg25 : hgf (md a δ κ s w H) (.ref 58) 6 25 = some (.ref 71) := (rfl)
theorem Dg26 : hgf (md a δ κ s w H) (.ref 58) 6 26 = some (.ref 72) := (rfl)
theorem Dg27 : hgf (md a δ κ s w H) (.ref 58) 6 27 = some (.ref 73) := (rfl)
theorem Dg28 : hgf (md a δ κ s w H) (.ref 58) 6 28 = some (.ref 74) := (rfl)
theorem Dr13 (i : Int32) : hrd (md a δ κ s w H) (.ref 71) 0 i = (xix i 4).map (a 13) := by unfold md; rw [Mr_13, vaj _ _ _ (by decide) (by decide)]
theorem Dr14 (i : Int32) : hrd (md a δ κ s w H) (.ref 72) 0 i = (xix i 96).map (a 14) := by unfold md; rw [Mr_14, vaj _ _ _ (by decide) (by decide)]
theorem Dr15 (i : Int32) : hrd (md a δ κ s w H) (.ref 73) 1 i = (xix i 96).map (a 15) := by unfold md; rw [Mr_15, vaj _ _ _ (by decide) (by decide)]
theorem Dr16 (i : Int32) : hrd (md a δ κ s w H) (.ref 74) 0 i = (xix i 12).map (a 16) := by unfold md; rw [Mr_16, vaj _ _ _ (by decide) (by decide)]
theorem Dw16 (i x : Int32) : hwr (md a δ κ s w H) (.ref 74) 0 i x = (xix i 12).map (fun t => md (va_up a 16 (upd (a 16) t x)) δ κ s w H) := by
  unfold md
  rw [Mw_16, vaj _ _ _ (by decide) (by decide)]
  congr 1
  funext t
  rw [vu_c _ _ _ (show 16 ≠ 9 by decide), vu_c _ _ _ (show 16 ≠ 1 by decide)]
theorem m_z_l (ev : xe) {x y : Int32} (a : Nat → Nat → Int32) : ∀ j r, r + j = 12 → RF 162 ev 34 [some (.ref 58), some (.int x), some (.int y), some (.int (nI r)), none] [] (md (va_up a 16 (fil (a 16) 0 r)) δ κ s w H) = RF 162 ev 53 [some (.ref 58), some (.int x), some (.int y), some (.int (nI 12)), none] [] (md (va_up a 16 (fil (a 16) 0 12)) δ κ s w H)
  | 0, r, e => by
    have e' : r = 12 := by omega
    subst e'
    rw [S162_34]
    simp only [S162_35, S162_37, S162_40, S162_41, S162_44, S162_45, S162_46, S162_47, S162_50, Option.bind_some, Option.map_some, xpush_s, xpush_n, xcat_0, xcat_i, xcat_r, xcat_l, xcat_n, xcat_e, xir_r, Nat.reduceAdd, Nat.reduceLeDiff, Nat.zero_le, Nat.le_refl, ↓reduceIte, show ((12 : Int32) ≤ nI 12) = True from eq_true (Int32.le_refl _)]
  | j + 1, r, e => by
    have hc : ¬ (12 : Int32) ≤ nI r := nI_ge (b := 12) (by omega) (by decide)
    have hx := xix_n (show r < 12 by omega) (show 12 ≤ 100000 by decide)
    rw [S162_34]
    simp only [S162_35, S162_37, S162_40, S162_41, S162_44, S162_45, S162_46, S162_47, S162_50, Option.bind_some, Option.map_some, xpush_s, xpush_n, xcat_0, xcat_i, xcat_r, xcat_l, xcat_n, xcat_e, xir_r, Nat.reduceAdd, Nat.reduceLeDiff, Nat.zero_le, Nat.le_refl, ↓reduceIte, hc, Dg28, Dw16, hx, vu_s, vu_u, fil_s, nI_1]
    exact m_z_l ev a j (r + 1) (by omega)
theorem m_li (d : Nat) {i k : Nat} {y c : Int32} (hi : i < 4) (hk : k < 24) (h14 : a 14 (24 * i + k) = c) (h15 : ¬ a 15 (24 * i + k) = 0) (g : Nat → Int32) : ∀ j r, r + j = 12 → RF 162 (Ev (d + 1)) 79 [some (.ref 58), some (.int (nI i)), some (.int y), some (.int (nI k)), some (.int (nI r))] [] (md (va_up a 16 (adI g (lkf δ c) r)) δ κ s w H) = RF 162 (Ev (d + 1)) 141 [some (.ref 58), some (.int (nI i)), some (.int y), some (.int (nI k)), some (.int (nI 12))] [] (md (va_up a 16 (adI g (lkf δ c) 12)) δ κ s w H)
  | 0, r, e => by
    have e' : r = 12 := by omega
    subst e'
    rw [S162_79]
    simp only [S162_81, S162_83, S162_86, S162_87, S162_90, S162_92, S162_93, S162_94, S162_95, S162_96, S162_97, S162_100, S162_101, S162_104, S162_106, S162_107, S162_108, S162_109, S162_112, S162_114, S162_116, S162_117, S162_118, S162_119, S162_122, S162_124, S162_125, S162_126, S162_127, S162_128, S162_129, S162_130, S162_133, S162_134, S162_135, S162_138, Option.bind_some, Option.map_some, xpush_s, xpush_n, xcat_0, xcat_i, xcat_r, xcat_l, xcat_n, xcat_e, xir_r, Nat.reduceAdd, Nat.reduceLeDiff, Nat.zero_le, Nat.le_refl, ↓reduceIte, show ((12 : Int32) ≤ nI 12) = True from eq_true (Int32.le_refl _)]
  | j + 1, r, e => by
    have hc : ¬ (12 : Int32) ≤ nI r := nI_ge (b := 12) (by omega) (by decide)
    have hr : r < 12 := by omega
    have hx := xix_n hr (show 12 ≤ 100000 by decide)
    have hx8 := xix_n (show 8 + r < 60 by omega) (show 60 ≤ 100000 by decide)
    have hxk := xix_n (show 24 * i + k < 96 by omega) (show 96 ≤ 100000 by decide)
    have hs : upd (adI g (lkf δ c) r) r (g r + ab (δ (8 + r) - c)) = adI g (lkf δ c) (r + 1) := adI_s _ _ _
    rw [S162_79]
    simp only [S162_81, S162_83, S162_86, S162_87, S162_90, S162_92, S162_93, S162_94, S162_95, S162_96, S162_97, S162_100, S162_101, S162_104, S162_106, S162_107, S162_108, S162_109, S162_112, S162_114, S162_116, S162_117, S162_118, S162_119, S162_122, S162_124, S162_125, S162_126, S162_127, S162_128, S162_129, S162_130, S162_133, S162_134, S162_135, S162_138, Option.bind_some, Option.map_some, xpush_s, xpush_n, xcat_0, xcat_i, xcat_r, xcat_l, xcat_n, xcat_e, xir_r, Nat.reduceAdd, Nat.reduceLeDiff, Nat.zero_le, Nat.le_refl, ↓reduceIte, hc, Dg, Dg26, Dg27, Dg28, Dr, Dr14, Dr15, Dr16, Dw16, ix8, ix24, hx, hx8, hxk, m_size, vu_s, vu_u, vu_n _ _ (show 14 ≠ 16 by decide), vu_n _ _ (show 15 ≠ 16 by decide), h14, h15, adI_r, hs, nI_1]
    exact m_li d hi hk h14 h15 g j (r + 1) (by omega)
theorem m_lo (d : Nat) {Q : Option xq} {i Z : Nat} {y : Int32} {c : Nat → Int32} (hi : i < 4) (hZ : Z ≤ 24) (hs : a 13 i = nI Z) (hc : ∀ j, j < 24 → cR (c j) (a 14 (24 * i + j)) (a 15 (24 * i + j))) {N : Nat} (hqa : ∀ g, QM (va_up a 16 g) 0 N Q) : ∀ u k, k + u = Z → ∀ (δ κ g : Nat → Int32) (l4 : Option Value), wf δ → nn (δ 7) = N → ∃ δ' κ' l4', wf δ' ∧ RF 162 (Ev (d + 5)) 66 [some (.ref 58), some (.int (nI i)), some (.int y), some (.int (nI k)), l4] [] (md (va_up a 16 g) δ κ s w H) = RF 162 (Ev (d + 5)) 151 [some (.ref 58), some (.int (nI i)), some (.int y), some (.int (nI Z)), l4'] [] (md (va_up a 16 (lkF Q c u k δ g)) δ' κ' s w H) := by
  have hx := xix_n hi (show 4 ≤ 100000 by decide)
  intro u
  induction u with
  | zero =>
    intro k e δ κ g l4 hw hq
    have e' : k = Z := by omega
    subst e'
    refine ⟨δ, κ, l4, hw, ?_⟩
    rw [S162_66]
    simp only [S162_67, S162_68, S162_71, S162_72, S162_73, Option.bind_some, Option.map_some, xpush_s, xpush_n, xcat_0, xcat_i, xcat_r, xcat_l, xcat_n, xcat_e, xir_r, Nat.reduceAdd, Nat.reduceLeDiff, Nat.zero_le, Nat.le_refl, ↓reduceIte, Dg25, Dr13, hx, vu_n _ _ (show 13 ≠ 16 by decide), hs, show (nI k ≤ nI k) = True from eq_true (Int32.le_refl _)]
    rfl
  | succ u ih =>
    intro k e δ κ g l4 hw hq
    have hk : k < 24 := by omega
    have hc2 : ¬ nI Z ≤ nI k := nI_ge (by omega) (by omega)
    have hxk := xix_n (show 24 * i + k < 96 by omega) (show 96 ≤ 100000 by decide)
    have hmw := mw_month Q hw
    rcases hc k hk with ⟨h15, h14, -, -⟩ | ⟨h15, h14⟩
    · have hne : ¬ c k = -1000000005 := by
        obtain ⟨_, _, l1, _⟩ | ⟨z, _⟩ := hc k hk
        · rw [h14]; intro z; rw [z] at l1; exact absurd l1 (by decide)
        · rw [h15] at z; exact absurd z (by decide)
      obtain ⟨κ1, e1⟩ := s_month (a := va_up a 16 (adI g (lkf δ (c k)) 12)) (κ := κ) (s := s) (w := w) (H := H) d hw (by rw [hq]; exact hqa _)
      obtain ⟨δ2, κ2, l42, h1, h2⟩ := ih (k + 1) (by omega) (sMonth Q δ) κ1 (adI g (lkf δ (c k)) 12) (some (.int (nI 12))) hmw.1 (by rw [hmw.2 7 fx7]; exact hq)
      refine ⟨δ2, κ2, l42, h1, ?_⟩
      have hl := m_li (a := a) (κ := κ) (s := s) (w := w) (H := H) (δ := δ) (d + 4) (y := y) hi hk h14.symm (by rw [h15]; decide) g 12 0 rfl
      rw [adI_0] at hl
      rw [show lkF Q c (u + 1) k δ g = lkF Q c u (k + 1) (sMonth Q δ) (adI g (lkf δ (c k)) 12) from by show lkF Q c u (k + 1) (sMonth Q δ) _ = _; rw [if_neg hne], ← h2, S162_66]
      simp only [S162_67, S162_68, S162_71, S162_72, S162_73, S162_76, S162_77, Option.bind_some, Option.map_some, xpush_s, xpush_n, xcat_0, xcat_i, xcat_r, xcat_l, xcat_n, xcat_e, xir_r, Nat.reduceAdd, Nat.reduceLeDiff, Nat.zero_le, Nat.le_refl, ↓reduceIte, Dg25, Dr13, hx, vu_n _ _ (show 13 ≠ 16 by decide), hs, hc2]
      rw [show (0 : Int32) = nI 0 from rfl, hl]
      simp only [S162_141, S162_142, S162_145, S162_148, Option.bind_some, Option.map_some, xpush_s, xpush_n, xcat_0, xcat_i, xcat_r, xcat_l, xcat_n, xcat_e, xir_r, Nat.reduceAdd, Nat.reduceLeDiff, Nat.zero_le, Nat.le_refl, ↓reduceIte, Dcls, e1, nI_1]
    · obtain ⟨κ1, e1⟩ := s_month (a := va_up a 16 g) (κ := κ) (s := s) (w := w) (H := H) d hw (by rw [hq]; exact hqa _)
      obtain ⟨δ2, κ2, l42, h1, h2⟩ := ih (k + 1) (by omega) (sMonth Q δ) κ1 g (some (.int 0)) hmw.1 (by rw [hmw.2 7 fx7]; exact hq)
      refine ⟨δ2, κ2, l42, h1, ?_⟩
      rw [show lkF Q c (u + 1) k δ g = lkF Q c u (k + 1) (sMonth Q δ) g from by show lkF Q c u (k + 1) (sMonth Q δ) _ = _; rw [if_pos h14], ← h2, S162_66]
      simp only [S162_67, S162_68, S162_71, S162_72, S162_73, S162_76, S162_77, S162_79, S162_81, S162_83, S162_86, S162_87, S162_90, S162_92, S162_93, S162_94, S162_95, S162_96, S162_97, S162_100, S162_101, S162_104, S162_106, S162_107, S162_108, S162_109, S162_112, S162_114, S162_116, S162_117, S162_118, S162_119, S162_122, S162_124, S162_125, S162_126, S162_127, S162_128, S162_129, S162_130, S162_133, S162_134, S162_135, S162_138, S162_141, S162_142, S162_145, S162_148, Option.bind_some, Option.map_some, xpush_s, xpush_n, xcat_0, xcat_i, xcat_r, xcat_l, xcat_n, xcat_e, xir_r, Nat.reduceAdd, Nat.reduceLeDiff, Nat.zero_le, Nat.le_refl, ↓reduceIte, Dg25, Dg27, Dr13, Dr15, ix24, hx, hxk, vu_n _ _ (show 13 ≠ 16 by decide), vu_n _ _ (show 15 ≠ 16 by decide), hs, hc2, h15, show ¬ (12 : Int32) ≤ 0 by decide, Dcls, e1, nI_1]
theorem m_mn (ev : xe) {x y : Int32} : ∀ j r t, r + j = 12 → t < 12 → RF 162 ev 167 [some (.ref 58), some (.int x), some (.int y), some (.int (nI t)), some (.int (nI r))] [] (md a δ κ s w H) = RF 162 ev 203 [some (.ref 58), some (.int x), some (.int y), some (.int (nI (mnF (a 16) j r t))), some (.int (nI 12))] [] (md a δ κ s w H)
  | 0, r, t, e, ht => by
    have e' : r = 12 := by omega
    subst e'
    rw [S162_167]
    simp only [S162_169, S162_171, S162_174, S162_175, S162_178, S162_180, S162_181, S162_182, S162_185, S162_186, S162_187, S162_190, S162_192, S162_195, S162_196, S162_197, S162_200, Option.bind_some, Option.map_some, xpush_s, xpush_n, xcat_0, xcat_i, xcat_r, xcat_l, xcat_n, xcat_e, xir_r, Nat.reduceAdd, Nat.reduceLeDiff, Nat.zero_le, Nat.le_refl, ↓reduceIte, show ((12 : Int32) ≤ nI 12) = True from eq_true (Int32.le_refl _)]
    rfl
  | j + 1, r, t, e, ht => by
    have hc : ¬ (12 : Int32) ≤ nI r := nI_ge (b := 12) (by omega) (by decide)
    have hx := xix_n (show r < 12 by omega) (show 12 ≤ 100000 by decide)
    have hx2 := xix_n ht (show 12 ≤ 100000 by decide)
    have ih := m_mn ev (x := x) (y := y) j (r + 1) (if a 16 r < a 16 t then r else t) (by omega) (by split <;> omega)
    rw [show mnF (a 16) (j + 1) r t = mnF (a 16) j (r + 1) (if a 16 r < a 16 t then r else t) from rfl, ← ih, S162_167]
    by_cases h : a 16 r < a 16 t
    · rw [if_pos h]
      simp only [S162_169, S162_171, S162_174, S162_175, S162_178, S162_180, S162_181, S162_182, S162_185, S162_186, S162_187, S162_190, S162_192, S162_195, S162_196, S162_197, S162_200, Option.bind_some, Option.map_some, xpush_s, xpush_n, xcat_0, xcat_i, xcat_r, xcat_l, xcat_n, xcat_e, xir_r, Nat.reduceAdd, Nat.reduceLeDiff, Nat.zero_le, Nat.le_refl, ↓reduceIte, hc, Dg28, Dr16, hx, hx2, nI_1, show ¬ a 16 t ≤ a 16 r from Int32.not_le.mpr h]
    · rw [if_neg h]
      simp only [S162_169, S162_171, S162_174, S162_175, S162_178, S162_180, S162_181, S162_182, S162_185, S162_186, S162_187, S162_190, S162_192, S162_195, S162_196, S162_197, S162_200, Option.bind_some, Option.map_some, xpush_s, xpush_n, xcat_0, xcat_i, xcat_r, xcat_l, xcat_n, xcat_e, xir_r, Nat.reduceAdd, Nat.reduceLeDiff, Nat.zero_le, Nat.le_refl, ↓reduceIte, hc, Dg28, Dr16, hx, hx2, nI_1, show a 16 t ≤ a 16 r from Int32.not_lt.mp h]
end LKM
theorem TXT_qa {X : xh} {a : Nat → Nat → Int32} {τ : xt} {N : Nat} (h : TXT X a τ N) {key : Nat} (hk : key < 3) : ∃ q, LW X τ key q ∧ ∀ a' : Nat → Nat → Int32, a' 5 = a 5 → a' 6 = a 6 → a' 7 = a 7 → QM a' (nI key) N q := by
  obtain ⟨h1, h2, h3⟩ := h
  have h3 := h3 key hk
  unfold LW QM
  cases e : sCnt (a 6) (nI key) N with
  | none =>
    rw [e] at h3
    refine ⟨none, ?_, fun a' _ h6 _ => ?_⟩
    · rw [h3.2]
    · rw [h6, e]
  | some t =>
    rw [e] at h3
    obtain ⟨p, P, q1, q2, q3, -⟩ := h2 t (sCnt_lt _ e)
    refine ⟨some (pv P), ?_, fun a' h5 h6 h7 => ?_⟩
    · rw [h3.2, q1]
      exact ⟨P, _, _, rfl, q3⟩
    · rw [h6, e]
      exact ⟨pv P, rfl, GM_of (TM_a h5 h7 q2)⟩
theorem k_like (x y : Int32) : CL 86 162 [.int x, .int y] := by
  intro d m h hI
  obtain ⟨δ, τ1, ε, τ2, ζ, τ3, κ, n, l, ke, op, sz, B, S, b, a, s, w, X, rfl, R⟩ := hI
  have hw := R.1
  have hmo := R.2.1
  have ha1 := R.2.2.1
  have hmd := fun Z => md_of (s := s) (w := w) (Z := Z) ha1
  have n1 : ¬ (1 : Int32) = 0 := by decide
  by_cases c1 : bd x 3
  · have o1 := fun d h => ou_f d h (v := x) (n := 3) (N := 3) rfl (by decide) c1
    have i1 := fun d h => m_sh_t d h c1
    by_cases c2 : bd y 1
    · have o2 := fun d h => ou_f d h (v := y) (n := 1) (N := 1) rfl (by decide) c2
      have i2 := fun d h => in_t d h (v := y) (n := 1) (N := 1) rfl (by decide) c2
      obtain ⟨i, hi3, rfl⟩ := c1
      have hi : i < 4 := by omega
      have hq := rw_s hi
      have hxi := xix_n hi (show 4 ≤ 100000 by decide)
      obtain ⟨s1, s2, s3, ⟨Z, hZ, s4⟩, s5⟩ := R.2.2.2.2.2.2.1 i hi
      by_cases hm1 : a 12 i = -1
      · have hb : bi (b (35 + 2 * i) 0 = -1) = 1 := bi_t (by rw [s1]; exact hm1)
        refine comb0 (v := -1000000011) R ?_ ?_
        · rw [E86]
          simp only [S86_0, S86_1, S86_2, S86_3, S86_6, S86_9, S86_10, S86_11, S86_12, S86_15, S86_18, S86_20, S86_21, S86_22, S86_25, S86_26, S86_27, S86_30, S86_33, S86_35, S86_36, S86_37, S86_38, S86_41, S86_42, S86_43, S86_46, S86_47, S86_48, S86_49, Option.bind_some, Option.map_some, xpush_s, xpush_n, xcat_0, xcat_i, xcat_r, xcat_l, xcat_n, xcat_e, xir_r, Nat.reduceAdd, Nat.reduceLeDiff, Nat.zero_le, Nat.le_refl, ↓reduceIte, C_6, C_q32 hi, W_cls hq, o1, o2, w_miss _ hq, hb, n1]
        · rw [E162]
          simp only [S162_0, S162_1, S162_4, S162_7, S162_8, S162_9, S162_10, S162_11, S162_14, S162_17, S162_19, S162_20, S162_21, S162_24, S162_25, S162_26, S162_29, S162_31, S162_32, S162_33, Option.bind_some, Option.map_some, xpush_s, xpush_n, xcat_0, xcat_i, xcat_r, xcat_l, xcat_n, xcat_e, xir_r, Nat.reduceAdd, Nat.reduceLeDiff, Nat.zero_le, Nat.le_refl, ↓reduceIte, Mg_24, Mr_12, hxi, hm1, i1, i2, n1, show ¬ (0 : Int32) ≤ -1 by decide]
      · have hb : bi (b (35 + 2 * i) 0 = -1) = 0 := bi_f (by rw [s1]; exact hm1)
        have hge : 0 ≤ a 12 i := s3.elim (fun e => absurd e hm1) (fun c => c.elim (fun e => by rw [e]; decide) (fun e => by rw [e]; decide))
        obtain ⟨Q, hq1, hq2⟩ := TXT_qa R.2.2.2.1 (key := 0) (by decide)
        obtain ⟨τ, hE, e1⟩ := G_b19_1 (δ := δ) (τ1 := τ1) (ε := ε) (τ2 := τ2) (ζ := ζ) (τ3 := τ3) (κ := κ) (n := n) (l := l) (ke := ke) (op := op) (sz := sz) (B := B) (S := S) (b := va_up b 28 (fil (b 28) 0 12)) (H := mh a s w X) (d + 197) hi_mh R.2.2.2.1.1
        obtain ⟨ζ2, κ1, e2⟩ := c_lo (δ := δ) (τ1 := τ1) (ε := ε) (τ2 := τ2) (ζ := ζ) (τ3 := τ) (κ := κ) (n := n) (l := l) (ke := ke) (op := op) (sz := sz) (B := B) (S := S) (b := b) (a := a) (s := s) (w := w) (d + 193) (LW_E hE (by decide) hq1) hq hZ (by rw [s2, s4]) Z 0 (by omega) δ κ (fil (b 28) 0 12) none hw
        have z3 : z60 (a 3) := R.2.2.2.2.2.2.2.2.2.2.1
        have em := fun Z => m_z_l (Ev (d + 199)) (δ := δ) (κ := a 9) (s := s) (w := w) (H := Z) (x := nI i) (y := y) a 12 0 rfl
        rw [fil_0, vu_self] at em
        obtain ⟨D, κ2, l4, hD, e3⟩ := m_lo (a := va_up (va_up a 16 (fil (a 16) 0 12)) 3 δ) (s := s) (w := w) (H := cG δ τ1 ε τ2 ζ2 τ κ1 n l ke op sz B S (va_up b 28 (lkF Q (b (35 + 2 * i + 1)) Z 0 δ (fil (b 28) 0 12))) X) (d + 194) (Q := Q) (y := y) (c := b (35 + 2 * i + 1)) hi hZ (by rw [vu_n _ _ (by decide), vu_n _ _ (by decide)]; exact s4) (by intro j hj; rw [vu_n _ _ (by decide), vu_n _ _ (by decide), vu_n _ _ (by decide), vu_n _ _ (by decide)]; exact s5 hm1 j hj) (fun g => hq2 _ (by rw [vu_n _ _ (by decide), vu_n _ _ (by decide), vu_n _ _ (by decide)]) (by rw [vu_n _ _ (by decide), vu_n _ _ (by decide), vu_n _ _ (by decide)]) (by rw [vu_n _ _ (by decide), vu_n _ _ (by decide), vu_n _ _ (by decide)])) Z 0 (by omega) δ (a 9) (fil (a 16) 0 12) none hw rfl
        have ev0 : va_up (va_up (va_up a 16 (fil (a 16) 0 12)) 3 δ) 16 (fil (a 16) 0 12) = va_up (va_up a 16 (fil (a 16) 0 12)) 3 δ := by
          rw [vu_c _ _ _ (show 16 ≠ 3 by decide), vu_u]
        rw [ev0] at e3
        have ev1 : ∀ g, va_up (va_up (va_up a 16 (fil (a 16) 0 12)) 3 δ) 16 g = va_up (va_up a 3 δ) 16 g := fun g => by
          rw [vu_c _ _ _ (show 3 ≠ 16 by decide), vu_u]
        rw [ev1] at e3
        have hag := lkF_e Q (b (35 + 2 * i + 1)) Z 0 δ (fil (b 28) 0 12) (fil (a 16) 0 12) (fun t ht => by unfold fil; rw [if_pos ht, if_pos ht])
        have hmn := mnF_e hag 11 1 0 rfl (by decide)
        have hlt := mnF_lt (lkF Q (b (35 + 2 * i + 1)) Z 0 δ (fil (a 16) 0 12)) 11 1 0 rfl (by decide)
        have hxb := xix_n hlt (show 12 ≤ 100000 by decide)
        have hcl : ∀ v, (if y = 0 then nI (mnF (lkF Q (b (35 + 2 * i + 1)) Z 0 δ (fil (a 16) 0 12)) 11 1 0) else lkF Q (b (35 + 2 * i + 1)) Z 0 δ (fil (a 16) 0 12) (mnF (lkF Q (b (35 + 2 * i + 1)) Z 0 δ (fil (a 16) 0 12)) 11 1 0)) = v → ∃ v h1 h2, Ev (d + 200) 86 (.ref 0 :: [.int (nI i), .int y]) (cG δ τ1 ε τ2 ζ τ3 κ n l ke op sz B S b (mh a s w X)) = some (some (.int v), h1) ∧ Ev (d + 200) 162 (.ref 58 :: [.int (nI i), .int y]) h1 = some (some (.int v), h2) ∧ INV (m + 1) h2 ∧ h2.2.2.2 = X.2.2.2 ∧ h1.2.2.2 = X.2.2.2 ∧ xcls h1 (.ref 58) = 6 := by
          intro v hv
          refine comb (v := v) (δ' := δ) (ζ' := ζ2) (τ3' := τ) (κ' := κ1) (b' := va_up b 28 (lkF Q (b (35 + 2 * i + 1)) Z 0 δ (fil (b 28) 0 12))) (a' := va_up (va_up (va_up (va_up a 3 δ) 16 (lkF Q (b (35 + 2 * i + 1)) Z 0 δ (fil (a 16) 0 12))) 1 δ) 9 κ2) R ?_ ?_ (fun j h1 h3 h4 h9 h11 h16 h17 h18 => by rw [vaj _ _ _ h1 h9, vu_n _ _ h16, vu_n _ _ h3]) (va1 _ _ _) (by rw [vaj _ _ _ (by decide) (by decide), vu_n _ _ (by decide), vu_s]; exact hw.z) (by rw [vaj _ _ _ (by decide) (by decide), vu_n _ _ (by decide), vu_n _ _ (by decide)]; exact R.2.2.2.2.2.2.2.2.2.2.2.1) hw hmo rfl (fun j hj => vu_n _ _ hj)
          · have eM : Ev (d + 199) 87 [.ref 0, .ref (35 + 2 * i)] (cG δ τ1 ε τ2 ζ τ3 κ n l ke op sz B S b (mh a s w X)) = some (none, cG δ τ1 ε τ2 ζ2 τ κ1 n l ke op sz B S (va_up b 28 (lkF Q (b (35 + 2 * i + 1)) Z 0 δ (fil (b 28) 0 12))) (mh a s w X)) := by
              rw [E87]
              simp only [S87_0, S87_1, S87_4, S87_5, S87_8, S87_9, S87_12, S87_13, S87_16, S87_19, S87_20, Option.bind_some, Option.map_some, xpush_s, xpush_n, xcat_0, xcat_i, xcat_r, xcat_l, xcat_n, xcat_e, xir_r, Nat.reduceAdd, Nat.reduceLeDiff, Nat.zero_le, Nat.le_refl, ↓reduceIte, C_4, C_2, C_0, Q_cls, c_fill28, e1]
              exact e2
            have hn := c_mn (Ev (d + 199)) (δ := δ) (τ1 := τ1) (ε := ε) (τ2 := τ2) (ζ := ζ2) (τ3 := τ) (κ := κ1) (n := n) (l := l) (ke := ke) (op := op) (sz := sz) (B := B) (S := S) (b := va_up b 28 (lkF Q (b (35 + 2 * i + 1)) Z 0 δ (fil (b 28) 0 12))) (H := mh a s w X) (x := nI i) (y := y) 11 1 0 rfl (by decide)
            rw [vu_s, hmn] at hn
            have hn' : ∀ l5, RF 86 (Ev (d + 199)) 83 [some (.ref 0), some (.int (nI i)), some (.int y), some (.int (nI (mnF (lkF Q (b (35 + 2 * i + 1)) Z 0 δ (fil (a 16) 0 12)) 11 1 0))), l5] [] (cG δ τ1 ε τ2 ζ2 τ κ1 n l ke op sz B S (va_up b 28 (lkF Q (b (35 + 2 * i + 1)) Z 0 δ (fil (b 28) 0 12))) (mh a s w X)) = some (some (.int v), cG δ τ1 ε τ2 ζ2 τ κ1 n l ke op sz B S (va_up b 28 (lkF Q (b (35 + 2 * i + 1)) Z 0 δ (fil (b 28) 0 12))) (mh a s w X)) := by
              intro l5
              by_cases hy : y = 0
              · rw [if_pos hy] at hv
                simp only [S86_83, S86_84, S86_87, S86_88, S86_91, S86_92, S86_95, S86_96, S86_97, Option.bind_some, Option.map_some, xpush_s, xpush_n, xcat_0, xcat_i, xcat_r, xcat_l, xcat_n, xcat_e, xir_r, Nat.reduceAdd, Nat.reduceLeDiff, Nat.zero_le, Nat.le_refl, ↓reduceIte, hy, hv]
              · rw [if_neg hy, ← hag _ hlt] at hv
                simp only [S86_83, S86_84, S86_87, S86_88, S86_91, S86_92, S86_95, S86_96, S86_97, Option.bind_some, Option.map_some, xpush_s, xpush_n, xcat_0, xcat_i, xcat_r, xcat_l, xcat_n, xcat_e, xir_r, Nat.reduceAdd, Nat.reduceLeDiff, Nat.zero_le, Nat.le_refl, ↓reduceIte, hy, C_4, C_r28, hxb, vu_s, hv]
            rw [E86]
            simp only [S86_0, S86_1, S86_2, S86_3, S86_6, S86_9, S86_10, S86_11, S86_12, S86_15, S86_18, S86_20, S86_21, S86_22, S86_25, S86_26, S86_27, S86_30, S86_33, S86_35, S86_36, S86_37, S86_38, S86_41, S86_42, S86_43, S86_46, S86_47, S86_48, S86_49, Option.bind_some, Option.map_some, xpush_s, xpush_n, xcat_0, xcat_i, xcat_r, xcat_l, xcat_n, xcat_e, xir_r, Nat.reduceAdd, Nat.reduceLeDiff, Nat.zero_le, Nat.le_refl, ↓reduceIte, C_6, C_q32 hi, W_cls hq, C_cls, o1, o2, w_miss _ hq, hb, eM]
            exact hn.trans (hn' _)
          · have hn := m_mn (Ev (d + 199)) (a := va_up (va_up a 3 δ) 16 (lkF Q (b (35 + 2 * i + 1)) Z 0 δ (fil (a 16) 0 12))) (δ := δ) (κ := κ2) (s := s) (w := w) (H := cG δ τ1 ε τ2 ζ2 τ κ1 n l ke op sz B S (va_up b 28 (lkF Q (b (35 + 2 * i + 1)) Z 0 δ (fil (b 28) 0 12))) X) (x := nI i) (y := y) 11 1 0 rfl (by decide)
            rw [vu_s] at hn
            have hcb : ∀ d Z', Ev (d + 1) 154 [.ref 61, .ref 59] (md (va_up (va_up a 3 δ) 16 (lkF Q (b (35 + 2 * i + 1)) Z 0 δ (fil (a 16) 0 12))) D κ2 s w Z') = some (none, md (va_up (va_up a 3 δ) 16 (lkF Q (b (35 + 2 * i + 1)) Z 0 δ (fil (a 16) 0 12))) δ κ2 s w Z') := by
              intro d Z'
              have := m_cpo3 (a := va_up (va_up a 3 δ) 16 (lkF Q (b (35 + 2 * i + 1)) Z 0 δ (fil (a 16) 0 12))) (δ := D) (κ := κ2) (s := s) (w := w) (H := Z') d hD.z (by rw [vu_n _ _ (by decide), vu_s]; exact hw.z)
              rw [vu_n _ _ (show 3 ≠ 16 by decide), vu_s] at this
              exact this
            have hn' : ∀ l5 Z', RF 162 (Ev (d + 199)) 203 [some (.ref 58), some (.int (nI i)), some (.int y), some (.int (nI (mnF (lkF Q (b (35 + 2 * i + 1)) Z 0 δ (fil (a 16) 0 12)) 11 1 0))), l5] [] (md (va_up (va_up a 3 δ) 16 (lkF Q (b (35 + 2 * i + 1)) Z 0 δ (fil (a 16) 0 12))) δ κ2 s w Z') = some (some (.int v), md (va_up (va_up a 3 δ) 16 (lkF Q (b (35 + 2 * i + 1)) Z 0 δ (fil (a 16) 0 12))) δ κ2 s w Z') := by
              intro l5 Z'
              by_cases hy : y = 0
              · rw [if_pos hy] at hv
                simp only [S162_203, S162_204, S162_207, S162_208, S162_211, S162_212, S162_215, S162_216, S162_217, Option.bind_some, Option.map_some, xpush_s, xpush_n, xcat_0, xcat_i, xcat_r, xcat_l, xcat_n, xcat_e, xir_r, Nat.reduceAdd, Nat.reduceLeDiff, Nat.zero_le, Nat.le_refl, ↓reduceIte, hy, hv]
              · rw [if_neg hy] at hv
                simp only [S162_203, S162_204, S162_207, S162_208, S162_211, S162_212, S162_215, S162_216, S162_217, Option.bind_some, Option.map_some, xpush_s, xpush_n, xcat_0, xcat_i, xcat_r, xcat_l, xcat_n, xcat_e, xir_r, Nat.reduceAdd, Nat.reduceLeDiff, Nat.zero_le, Nat.le_refl, ↓reduceIte, hy, Dg28, Dr16, hxb, vu_s, hv]
            have hci := fun d Z' => m_cpi3 (a := va_up a 16 (fil (a 16) 0 12)) (δ := δ) (κ := a 9) (s := s) (w := w) (H := Z') d hw.z (by rw [vu_n _ _ (by decide)]; exact z3)
            rw [E162]
            simp only [S162_0, S162_1, S162_4, S162_7, S162_8, S162_9, S162_10, S162_11, S162_14, S162_17, S162_19, S162_20, S162_21, S162_24, S162_25, S162_26, S162_29, S162_31, S162_32, S162_33, Option.bind_some, Option.map_some, xpush_s, xpush_n, xcat_0, xcat_i, xcat_r, xcat_l, xcat_n, xcat_e, xir_r, Nat.reduceAdd, Nat.reduceLeDiff, Nat.zero_le, Nat.le_refl, ↓reduceIte, Mg_24, Mr_12, hxi, hge, i1, i2, n1]
            rw [hmd]
            refine (em _).trans ?_
            simp only [S162_53, S162_54, S162_57, S162_58, S162_61, S162_64, S162_65, Option.bind_some, Option.map_some, xpush_s, xpush_n, xcat_0, xcat_i, xcat_r, xcat_l, xcat_n, xcat_e, xir_r, Nat.reduceAdd, Nat.reduceLeDiff, Nat.zero_le, Nat.le_refl, ↓reduceIte, Dg, Dg3, hci]
            refine e3.trans ?_
            simp only [S162_151, S162_152, S162_155, S162_156, S162_159, S162_162, S162_163, S162_164, S162_165, Option.bind_some, Option.map_some, xpush_s, xpush_n, xcat_0, xcat_i, xcat_r, xcat_l, xcat_n, xcat_e, xir_r, Nat.reduceAdd, Nat.reduceLeDiff, Nat.zero_le, Nat.le_refl, ↓reduceIte, Dg, Dg3, hcb]
            exact hn.trans (hn' _ _)
        exact hcl _ rfl
    · refine comb0 (v := -1000000001) R ?_ ?_
      · rw [E86]
        simp only [S86_0, S86_1, S86_2, S86_3, S86_6, S86_9, S86_10, S86_11, S86_12, S86_15, S86_18, S86_20, S86_21, S86_22, S86_25, S86_26, S86_27, S86_30, S86_33, S86_35, S86_36, S86_37, S86_38, S86_41, S86_42, S86_43, S86_46, S86_47, S86_48, S86_49, Option.bind_some, Option.map_some, xpush_s, xpush_n, xcat_0, xcat_i, xcat_r, xcat_l, xcat_n, xcat_e, xir_r, Nat.reduceAdd, Nat.reduceLeDiff, Nat.zero_le, Nat.le_refl, ↓reduceIte, n1, o1, ou_t _ _ (n := 1) (N := 1) rfl (by decide) c2]
      · rw [E162]
        simp only [S162_0, S162_1, S162_4, S162_7, S162_8, S162_9, S162_10, S162_11, S162_14, S162_17, S162_19, S162_20, S162_21, S162_24, S162_25, S162_26, S162_29, S162_31, S162_32, S162_33, Option.bind_some, Option.map_some, xpush_s, xpush_n, xcat_0, xcat_i, xcat_r, xcat_l, xcat_n, xcat_e, xir_r, Nat.reduceAdd, Nat.reduceLeDiff, Nat.zero_le, Nat.le_refl, ↓reduceIte, n1, i1, in_f _ _ (n := 1) (N := 1) rfl (by decide) c2]
  · refine comb0 (v := -1000000001) R ?_ ?_
    · rw [E86]
      simp only [S86_0, S86_1, S86_2, S86_3, S86_6, S86_9, S86_10, S86_11, S86_12, S86_15, S86_18, S86_20, S86_21, S86_22, S86_25, S86_26, S86_27, S86_30, S86_33, S86_35, S86_36, S86_37, S86_38, S86_41, S86_42, S86_43, S86_46, S86_47, S86_48, S86_49, Option.bind_some, Option.map_some, xpush_s, xpush_n, xcat_0, xcat_i, xcat_r, xcat_l, xcat_n, xcat_e, xir_r, Nat.reduceAdd, Nat.reduceLeDiff, Nat.zero_le, Nat.le_refl, ↓reduceIte, n1, ou_t _ _ (n := 3) (N := 3) rfl (by decide) c1]
    · rw [E162]
      simp only [S162_0, S162_1, S162_4, S162_7, S162_8, S162_9, S162_10, S162_11, S162_14, S162_17, S162_19, S162_20, S162_21, S162_24, S162_25, S162_26, S162_29, S162_31, S162_32, S162_33, Option.bind_some, Option.map_some, xpush_s, xpush_n, xcat_0, xcat_i, xcat_r, xcat_l, xcat_n, xcat_e, xir_r, Nat.reduceAdd, Nat.reduceLeDiff, Nat.zero_le, Nat.le_refl, ↓reduceIte, n1, m_sh_f _ _ c1]

