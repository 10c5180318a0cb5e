/-! part 59, by program (wip/whole/gen/calls10.py): calls, tenth lot: feed, check -/
theorem by_sh (v s : Int32) (k : Nat) (hk : k = 0 ∨ k = 8 ∨ k = 16 ∨ k = 24) (hs : (s.toBitVec.smod 32).toNat = k) : (v >>> s).toBitVec.toNat % 2 ^ 8 = v.toBitVec.toNat / 2 ^ k % 2 ^ 8 := by
  have h := pk_shr v s k hs
  have e1 : (v >>> s).toInt = if 2 * (v >>> s).toBitVec.toNat < 2 ^ 32 then ((v >>> s).toBitVec.toNat : Int) else ((v >>> s).toBitVec.toNat : Int) - (2 ^ 32 : Nat) := BitVec.toInt_eq_toNat_cond (v >>> s).toBitVec
  have e2 : v.toInt = if 2 * v.toBitVec.toNat < 2 ^ 32 then (v.toBitVec.toNat : Int) else (v.toBitVec.toNat : Int) - (2 ^ 32 : Nat) := BitVec.toInt_eq_toNat_cond v.toBitVec
  have l1 := (v >>> s).toBitVec.isLt
  have l2 := v.toBitVec.isLt
  rw [Int.shiftRight_eq_div_pow] at h
  rcases hk with rfl | rfl | rfl | rfl
  all_goals
    simp only [Nat.reducePow] at h e1 e2 l1 l2 ⊢
    split at e1 <;> split at e2 <;> omega
/-- a byte of a number -/
def byt (v : Int32) (k : Nat) : Int32 := nI (v.toBitVec.toNat / 2 ^ k % 2 ^ 8)
theorem byt_c (v s : Int32) (k : Nat) (hk : k = 0 ∨ k = 8 ∨ k = 16 ∨ k = 24) (hs : ((s &&& 31).toBitVec.smod 32).toNat = k) : v >>> (s &&& 31) &&& 255 = byt v k := by
  rw [pk_and _ (m := 255) 8 (by decide), by_sh v _ k hk hs]
  rfl
theorem byt_m (v s : Int32) (k : Nat) (hs : ((s.toUInt32 &&& Int32.toUInt32 31).toBitVec % 32).toNat = k) : (v.toUInt32 >>> (s.toUInt32 &&& Int32.toUInt32 31)).toInt32 &&& 255 = byt v k := by
  rw [pk_and _ (m := 255) 8 (by decide), pk_ushr v s k hs]
  rfl
def b4 (B : Nat → Int32) (n : Nat) (v : Int32) : Nat → Int32 := upd (upd (upd (upd B n (byt v 24)) (n + 1) (byt v 16)) (n + 2) (byt v 8)) (n + 3) (byt v 0)
theorem r_addNum (d : Nat) {n : Nat} {st pa ty lb ke op sz v : Int32} {B S : Nat → Int32} {H : xh} (h : n + 4 ≤ 96) : Ev (d + 1) 35 [.ref 29, .int v] (tp (nI n) st pa ty lb ke op sz B S H) = some (none, tp (nI (n + 4)) st pa ty lb ke op sz (b4 B n v) S H) := by
  rw [E35]
  have c0 : ¬ (96 : Int32) ≤ nI n := nI_ge (b := 96) (by omega) (by decide)
  have c1 : ¬ (96 : Int32) ≤ nI (n + 1) := nI_ge (b := 96) (by omega) (by decide)
  have c2 : ¬ (96 : Int32) ≤ nI (n + 1 + 1) := nI_ge (b := 96) (by omega) (by decide)
  have c3 : ¬ (96 : Int32) ≤ nI (n + 1 + 1 + 1) := nI_ge (b := 96) (by omega) (by decide)
  have b24 := byt_c v 24 24 (by decide) (by decide)
  have b16 := byt_c v 16 16 (by decide) (by decide)
  have b8 := byt_c v 8 8 (by decide) (by decide)
  have b0 := byt_c v 0 0 (by decide) (by decide)
  simp only [S35_0, S35_2, S35_3, S35_4, S35_7, S35_8, S35_11, S35_13, S35_16, S35_17, S35_20, S35_21, S35_24, S35_25, S35_26, S35_27, S35_30, S35_31, S35_32, S35_33, S35_34, S35_37, S35_38, S35_39, S35_42, S35_45, S35_48, Option.bind_some, Option.map_some, xpush_s, xpush_n, xcat_0, xcat_i, xcat_r, xcat_l, xcat_n, xcat_e, xir_r, Nat.reduceAdd, Nat.reduceLeDiff, Nat.zero_le, Nat.le_refl, ↓reduceIte, Tg_0, Tg_1, Tp_1, Tw_B, cat_r, nI_1, c0, c1, c2, c3, xix_n (show n < 96 by omega) (show 96 ≤ 100000 by decide), xix_n (show n + 1 < 96 by omega) (show 96 ≤ 100000 by decide), xix_n (show n + 1 + 1 < 96 by omega) (show 96 ≤ 100000 by decide), xix_n (show n + 1 + 1 + 1 < 96 by omega) (show 96 ≤ 100000 by decide), show ¬ (24 : Int32) < 0 by decide, show ¬ (16 : Int32) < 0 by decide, show ¬ (8 : Int32) < 0 by decide, show ¬ (0 : Int32) < 0 by decide, show (-8 : Int32) < 0 by decide, show (24 : Int32) + (-8) = 16 from rfl, show (16 : Int32) + (-8) = 8 from rfl, show (8 : Int32) + (-8) = 0 from rfl, show (0 : Int32) + (-8) = -8 from rfl, b24, b16, b8, b0]
  rfl
theorem C_addNum (d : Nat) {δ ε ζ : Nat → Int32} {τ1 τ2 τ3 : xt} {κ : Nat → Nat → Int32} {n : Nat} {l : lk} {ke op sz v : Int32} {B S : Nat → Int32} {b : Nat → Nat → Int32} {H : xh} (h : n + 4 ≤ 96) : Ev (d + 1) 35 [.ref 29, .int v] (cG δ τ1 ε τ2 ζ τ3 κ n l ke op sz B S b H) = some (none, cG δ τ1 ε τ2 ζ τ3 κ (n + 4) l ke op sz (b4 B n v) S b H) := by
  rw [cG_t, cG_t]
  exact r_addNum d h
theorem C_tcls {δ ε ζ : Nat → Int32} {τ1 τ2 τ3 : xt} {κ : Nat → Nat → Int32} {n : Nat} {l : lk} {ke op sz : Int32} {B S : Nat → Int32} {b : Nat → Nat → Int32} {H : xh} : (xcls (cG δ τ1 ε τ2 ζ τ3 κ n l ke op sz B S b H) (.ref 29) = 3) = True := eq_true rfl
theorem m_feed1 (ev : xe) {a : Nat → Nat → Int32} {s : Nat → Int32} {w : Int64} {Z : xh} {x y z k sh v : Int32} {n t : Nat} {lv : Option Value} (hk : ¬ 12 ≤ k) (hs : s 11 = nI n) (hn : n < 96) (hv : (if 4 ≤ k then (if 8 ≤ k then z else y) else x) = v) (hsh : 24 - 8 * (k - k / 4 * 4) = sh) (ht : ((sh.toUInt32 &&& Int32.toUInt32 31).toBitVec % 32).toNat = t) : RF 167 ev 18 [some (.ref 58), some (.int x), some (.int y), some (.int z), some (.int k), lv] [] (mh a s w Z) = RF 167 ev 18 [some (.ref 58), some (.int x), some (.int y), some (.int z), some (.int (k + 1)), some (.int v)] [] (mh (va_up a 10 (upd (a 10) n (byt v t))) (upd s 11 (nI (n + 1))) w Z) := by
  have hx := xix_n hn (show 96 ≤ 100000 by decide)
  have hb := byt_m v sh t ht
  rw [S167_18]
  by_cases h4 : 4 ≤ k
  · rw [if_pos h4] at hv
    by_cases h8 : 8 ≤ k
    · rw [if_pos h8] at hv
      subst hv
      simp only [S167_20, S167_22, S167_25, S167_27, S167_28, S167_31, S167_32, S167_35, S167_37, S167_39, S167_42, S167_43, S167_46, S167_47, S167_49, S167_50, S167_53, S167_54, S167_57, S167_59, S167_61, S167_63, S167_65, S167_66, S167_67, S167_68, S167_69, S167_70, S167_73, S167_74, S167_75, S167_76, S167_77, S167_80, S167_81, S167_82, S167_85, S167_88, Option.bind_some, Option.map_some, xpush_s, xpush_n, xcat_0, xcat_i, xcat_r, xcat_l, xcat_n, xcat_e, xir_r, Nat.reduceAdd, Nat.reduceLeDiff, Nat.zero_le, Nat.le_refl, ↓reduceIte, hk, h4, h8, Mg_10, Mg_11, hs, hsh, hb, Mw_10, hx, cat_r, nI_1, Mp_11, show ¬ (4 : Int32) = 0 by decide]
    · rw [if_neg h8] at hv
      subst hv
      simp only [S167_20, S167_22, S167_25, S167_27, S167_28, S167_31, S167_32, S167_35, S167_37, S167_39, S167_42, S167_43, S167_46, S167_47, S167_49, S167_50, S167_53, S167_54, S167_57, S167_59, S167_61, S167_63, S167_65, S167_66, S167_67, S167_68, S167_69, S167_70, S167_73, S167_74, S167_75, S167_76, S167_77, S167_80, S167_81, S167_82, S167_85, S167_88, Option.bind_some, Option.map_some, xpush_s, xpush_n, xcat_0, xcat_i, xcat_r, xcat_l, xcat_n, xcat_e, xir_r, Nat.reduceAdd, Nat.reduceLeDiff, Nat.zero_le, Nat.le_refl, ↓reduceIte, hk, h4, h8, Mg_10, Mg_11, hs, hsh, hb, Mw_10, hx, cat_r, nI_1, Mp_11, show ¬ (4 : Int32) = 0 by decide]
  · rw [if_neg h4] at hv
    subst hv
    simp only [S167_20, S167_22, S167_25, S167_27, S167_28, S167_31, S167_32, S167_35, S167_37, S167_39, S167_42, S167_43, S167_46, S167_47, S167_49, S167_50, S167_53, S167_54, S167_57, S167_59, S167_61, S167_63, S167_65, S167_66, S167_67, S167_68, S167_69, S167_70, S167_73, S167_74, S167_75, S167_76, S167_77, S167_80, S167_81, S167_82, S167_85, S167_88, Option.bind_some, Option.map_some, xpush_s, xpush_n, xcat_0, xcat_i, xcat_r, xcat_l, xcat_n, xcat_e, xir_r, Nat.reduceAdd, Nat.reduceLeDiff, Nat.zero_le, Nat.le_refl, ↓reduceIte, hk, h4, Mg_10, Mg_11, hs, hsh, hb, Mw_10, hx, cat_r, nI_1, Mp_11, show ¬ (4 : Int32) = 0 by decide]
theorem m_feed4 (ev : xe) {a : Nat → Nat → Int32} {s : Nat → Int32} {w : Int64} {Z : xh} {x y z v : Int32} {n : Nat} {k0 k1 k2 k3 k4 : Int32} {lv : Option Value} (hs : s 11 = nI n) (hn : n + 4 ≤ 96) (e1 : k0 + 1 = k1) (e2 : k1 + 1 = k2) (e3 : k2 + 1 = k3) (e4 : k3 + 1 = k4) (q0 : ¬ 12 ≤ k0 ∧ (if 4 ≤ k0 then (if 8 ≤ k0 then z else y) else x) = v ∧ 24 - 8 * (k0 - k0 / 4 * 4) = 24) (q1 : ¬ 12 ≤ k1 ∧ (if 4 ≤ k1 then (if 8 ≤ k1 then z else y) else x) = v ∧ 24 - 8 * (k1 - k1 / 4 * 4) = 16) (q2 : ¬ 12 ≤ k2 ∧ (if 4 ≤ k2 then (if 8 ≤ k2 then z else y) else x) = v ∧ 24 - 8 * (k2 - k2 / 4 * 4) = 8) (q3 : ¬ 12 ≤ k3 ∧ (if 4 ≤ k3 then (if 8 ≤ k3 then z else y) else x) = v ∧ 24 - 8 * (k3 - k3 / 4 * 4) = 0) : RF 167 ev 18 [some (.ref 58), some (.int x), some (.int y), some (.int z), some (.int k0), lv] [] (mh a s w Z) = RF 167 ev 18 [some (.ref 58), some (.int x), some (.int y), some (.int z), some (.int k4), some (.int v)] [] (mh (va_up a 10 (b4 (a 10) n v)) (upd s 11 (nI (n + 4))) w Z) := by
  subst e1; subst e2; subst e3; subst e4
  rw [m_feed1 ev q0.1 hs (by omega) q0.2.1 q0.2.2 (t := 24) (by decide), m_feed1 ev q1.1 (up_s _ _ _) (by omega) q1.2.1 q1.2.2 (t := 16) (by decide), m_feed1 ev q2.1 (up_s _ _ _) (by omega) q2.2.1 q2.2.2 (t := 8) (by decide), m_feed1 ev q3.1 (up_s _ _ _) (by omega) q3.2.1 q3.2.2 (t := 0) (by decide)]
  simp only [vu_s, vu_u, up_u]
  rfl
theorem k_feed (x y z : Int32) : CL 90 167 [.int x, .int y, .int z] := by
  intro d m h hI
  obtain ⟨δ, τ1, ε, τ2, ζ, τ3, κ, n, l, ke, op, sz, B, S, b, a, s, w, X, rfl, R⟩ := hI
  have hw := R.1
  have hmo := R.2.1
  have ha1 := R.2.2.1
  have hmd := fun Z => md_of (s := s) (w := w) (Z := Z) ha1
  have n1 : ¬ (1 : Int32) = 0 := by decide
  obtain ⟨t1, t2, t3⟩ := R.2.2.2.2.2.1
  have es : nI n + 12 = nI (n + 12) := nI_add n 12
  by_cases h : n + 12 ≤ 96
  · have hc : nI (n + 12) ≤ 96 := nI_le (b := 96) h (by decide)
    have f1 := m_feed4 (Ev (d + 199)) (a := a) (s := s) (w := w) (Z := cG δ τ1 ε τ2 ζ τ3 κ (n + 4 + 4 + 4) l ke op sz (b4 (b4 (b4 B n x) (n + 4) y) (n + 4 + 4) z) S b X) (x := x) (y := y) (z := z) (v := x) (n := n) (k0 := 0) (k1 := 1) (k2 := 2) (k3 := 3) (k4 := 4) (lv := none) t1 (by omega) rfl rfl rfl rfl ⟨by decide, if_neg (by decide), rfl⟩ ⟨by decide, if_neg (by decide), rfl⟩ ⟨by decide, if_neg (by decide), rfl⟩ ⟨by decide, if_neg (by decide), rfl⟩
    have f2 := m_feed4 (Ev (d + 199)) (a := va_up a 10 (b4 (a 10) n x)) (s := upd s 11 (nI (n + 4))) (w := w) (Z := cG δ τ1 ε τ2 ζ τ3 κ (n + 4 + 4 + 4) l ke op sz (b4 (b4 (b4 B n x) (n + 4) y) (n + 4 + 4) z) S b X) (x := x) (y := y) (z := z) (v := y) (n := n + 4) (k0 := 4) (k1 := 5) (k2 := 6) (k3 := 7) (k4 := 8) (lv := some (.int x)) (up_s _ _ _) (by omega) rfl rfl rfl rfl ⟨by decide, by rw [if_pos (by decide), if_neg (by decide)], rfl⟩ ⟨by decide, by rw [if_pos (by decide), if_neg (by decide)], rfl⟩ ⟨by decide, by rw [if_pos (by decide), if_neg (by decide)], rfl⟩ ⟨by decide, by rw [if_pos (by decide), if_neg (by decide)], rfl⟩
    have f3 := m_feed4 (Ev (d + 199)) (a := va_up a 10 (b4 (b4 (a 10) n x) (n + 4) y)) (s := upd s 11 (nI (n + 4 + 4))) (w := w) (Z := cG δ τ1 ε τ2 ζ τ3 κ (n + 4 + 4 + 4) l ke op sz (b4 (b4 (b4 B n x) (n + 4) y) (n + 4 + 4) z) S b X) (x := x) (y := y) (z := z) (v := z) (n := n + 4 + 4) (k0 := 8) (k1 := 9) (k2 := 10) (k3 := 11) (k4 := 12) (lv := some (.int y)) (up_s _ _ _) (by omega) rfl rfl rfl rfl ⟨by decide, by rw [if_pos (by decide), if_pos (by decide)], rfl⟩ ⟨by decide, by rw [if_pos (by decide), if_pos (by decide)], rfl⟩ ⟨by decide, by rw [if_pos (by decide), if_pos (by decide)], rfl⟩ ⟨by decide, by rw [if_pos (by decide), if_pos (by decide)], rfl⟩
    rw [vu_s, vu_u, up_u] at f2 f3
    refine combN (nI (n + 4 + 4 + 4)) (n' := n + 4 + 4 + 4) (l' := l) (ke' := ke) (op' := op) (sz' := sz) (B' := b4 (b4 (b4 B n x) (n + 4) y) (n + 4 + 4) z) (S' := S) (b' := b) (a' := va_up a 10 (b4 (b4 (b4 (a 10) n x) (n + 4) y) (n + 4 + 4) z)) (s' := upd s 11 (nI (n + 4 + 4 + 4))) (w' := w) ?_ ?_ (relN R (vu_n _ _ (by decide)) (vu_n _ _ (by decide)) (vu_n _ _ (by decide)) (vu_n _ _ (by decide)) (vu_n _ _ (by decide)) (vu_n _ _ (by decide)) (vu_n _ _ (by decide)) (vu_n _ _ (by decide)) rfl (up_n _ _ (by decide)) ⟨up_s _ _ _, by omega, by rw [vu_s, t3]⟩ (RS_e (vu_n _ _ (by decide)) (vu_n _ _ (by decide)) (vu_n _ _ (by decide)) (vu_n _ _ (by decide)) (fun _ _ _ => rfl) R.2.2.2.2.2.2.1) (RL_e (vu_n _ _ (by decide)) (vu_n _ _ (by decide)) (vu_n _ _ (by decide)) (vu_n _ _ (by decide)) (vu_n _ _ (by decide)) (vu_n _ _ (by decide)) (fun _ _ _ => rfl) R.2.2.2.2.2.2.2.1) ⟨by rw [up_n _ _ (by decide)]; exact R.2.2.2.2.2.2.2.2.1.1, by rw [up_n _ _ (by decide)]; exact R.2.2.2.2.2.2.2.2.1.2.1, by rw [vu_n _ _ (by decide)]; exact R.2.2.2.2.2.2.2.2.1.2.2⟩)
    · rw [E90]
      simp only [S90_0, S90_1, S90_4, S90_7, S90_9, S90_10, S90_12, S90_15, S90_17, S90_18, S90_19, S90_22, S90_23, S90_26, S90_27, S90_30, S90_31, S90_34, S90_35, S90_38, S90_39, S90_42, S90_43, S90_46, S90_49, Option.bind_some, Option.map_some, xpush_s, xpush_n, xcat_0, xcat_i, xcat_r, xcat_l, xcat_n, xcat_e, xir_r, Nat.reduceAdd, Nat.reduceLeDiff, Nat.zero_le, Nat.le_refl, ↓reduceIte, C_5, Ct_1, C_tcls, es, hc, C_addNum _ (show n + 4 ≤ 96 by omega), C_addNum _ (show n + 4 + 4 ≤ 96 by omega), C_addNum _ (show n + 4 + 4 + 4 ≤ 96 by omega)]
    · rw [E167]
      simp only [S167_0, S167_1, S167_4, S167_6, S167_7, S167_9, S167_12, S167_14, S167_15, S167_16, Option.bind_some, Option.map_some, xpush_s, xpush_n, xcat_0, xcat_i, xcat_r, xcat_l, xcat_n, xcat_e, xir_r, Nat.reduceAdd, Nat.reduceLeDiff, Nat.zero_le, Nat.le_refl, ↓reduceIte, Mg_11, t1, es, hc]
      rw [f1, f2, f3]
      simp only [S167_18, S167_20, S167_22, S167_91, S167_92, S167_95, Option.bind_some, Option.map_some, xpush_s, xpush_n, xcat_0, xcat_i, xcat_r, xcat_l, xcat_n, xcat_e, xir_r, Nat.reduceAdd, Nat.reduceLeDiff, Nat.zero_le, Nat.le_refl, ↓reduceIte, show ((12 : Int32) ≤ 12) = True from eq_true (Int32.le_refl _), Mg_11, up_s]
  · have hc : ¬ nI (n + 12) ≤ 96 := nI_ge (a := 96) (by omega) (by omega)
    refine comb0 (v := -1000000003) R ?_ ?_
    · rw [E90]
      simp only [S90_0, S90_1, S90_4, S90_7, S90_9, S90_10, S90_12, S90_15, S90_17, S90_18, S90_19, S90_22, S90_23, S90_26, S90_27, S90_30, S90_31, S90_34, S90_35, S90_38, S90_39, S90_42, S90_43, S90_46, S90_49, Option.bind_some, Option.map_some, xpush_s, xpush_n, xcat_0, xcat_i, xcat_r, xcat_l, xcat_n, xcat_e, xir_r, Nat.reduceAdd, Nat.reduceLeDiff, Nat.zero_le, Nat.le_refl, ↓reduceIte, C_5, Ct_1, es, hc]
    · rw [E167]
      simp only [S167_0, S167_1, S167_4, S167_6, S167_7, S167_9, S167_12, S167_14, S167_15, S167_16, Option.bind_some, Option.map_some, xpush_s, xpush_n, xcat_0, xcat_i, xcat_r, xcat_l, xcat_n, xcat_e, xir_r, Nat.reduceAdd, Nat.reduceLeDiff, Nat.zero_le, Nat.le_refl, ↓reduceIte, Mg_11, t1, es, hc]

