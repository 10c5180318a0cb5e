/-! part 51, by program (wip/whole/gen/calls2.py): calls, second lot -/
theorem RS_e {a b a' b' : Nat → Nat → Int32} (h12 : a' 12 = a 12) (h13 : a' 13 = a 13) (h14 : a' 14 = a 14) (h15 : a' 15 = a 15) (hb : ∀ q, 35 ≤ q → q < 43 → b' q = b q) (h : RS a b) : RS a' b' := by
  intro i hi
  rw [h12, h13, h14, h15, hb (35 + 2 * i) (by omega) (by omega), hb (35 + 2 * i + 1) (by omega) (by omega)]
  exact h i hi
theorem RL_e {a b a' b' : Nat → Nat → Int32} (h19 : a' 19 = a 19) (h20 : a' 20 = a 20) (h21 : a' 21 = a 21) (h22 : a' 22 = a 22) (h23 : a' 23 = a 23) (h24 : a' 24 = a 24) (hb : ∀ q, 43 ≤ q → q < 58 → b' q = b q) (h : RL a b) : RL a' b' := by
  intro i hi
  rw [h19, h20, h21, h22, h23, h24, hb (43 + 3 * i) (by omega) (by omega), hb (43 + 3 * i + 1) (by omega) (by omega), hb (43 + 3 * i + 1 + 1) (by omega) (by omega)]
  exact h i hi
theorem RK_e {X : xh} {a b a' b' : Nat → Nat → Int32} {s s' ε : Nat → Int32} {τ2 : xt} {δ : Nat → Int32} (hb : b' 0 3 = b 0 3) (hs : s' 4 = s 4) (h2 : a' 2 = a 2) (h5 : a' 5 = a 5) (h6 : a' 6 = a 6) (h7 : a' 7 = a 7) (h8 : a' 8 = a 8) (h : RK X a b s ε τ2 δ) : RK X a' b' s' ε τ2 δ := by
  unfold RK at h ⊢
  rw [hb, hs, h2]
  refine ⟨h.1, ?_⟩
  rcases h.2 with q | ⟨q1, q2, q3, q4, q5, q6⟩
  · exact Or.inl q
  · exact Or.inr ⟨q1, q2, q3, q4, q5, TXT_a h5 h6 h7 h8 q6⟩
/-- the reaches' months: what month it is -/
theorem addF_n (q : Option xq) : ∀ j m, m + j ≤ 10 → ∀ δ : Nat → Int32, wf δ → sAddF q j m δ 1 = δ 1
  | 0, _, _, _, _ => rfl
  | j + 1, m, hm, δ, h => by
    have h1 := mw_add1 q h (show m < 10 by omega)
    show sAddF q j (m + 1) (sAdd1 q δ m) 1 = _
    rw [addF_n q j (m + 1) (by omega) _ h1.1]
    exact sMore_n (by decide) (by omega)
theorem fadeF_n : ∀ j m (δ : Nat → Int32), sFadeF j m δ 1 = δ 1
  | 0, _, _ => rfl
  | j + 1, m, δ => by
    show sFadeF j (m + 1) (sFade1 δ m) 1 = _
    rw [fadeF_n j (m + 1)]
    unfold sFade1
    rw [up_n _ _ (by omega), up_n _ _ (by omega)]
theorem clerk_n (δ : Nat → Int32) : sClerk δ 1 = δ 1 := by
  by_cases hc : ¬ δ 3 ≤ nI (sDn (δ 6) % 100) ∧ 0 < nn (δ 0)
  · rw [sClerk_t hc.1 hc.2, up_n _ _ (by omega)]
    show upd _ 6 _ 1 = _
    rw [up_n _ _ (by decide)]
    show upd _ 6 _ 1 = _
    rw [up_n _ _ (by decide)]
    show upd _ 6 _ 1 = _
    rw [up_n _ _ (by decide)]
  · rw [sClerk_f hc]
    show upd _ 6 _ 1 = _
    rw [up_n _ _ (by decide)]
theorem month_1 (q : Option xq) {δ : Nat → Int32} (h : wf δ) : sMonth q δ 1 = δ 1 + 1 := by
  have hN := h.eN.2
  have h1 := mw_more h (r := 0) (δ 2) (by decide)
  unfold sMonth
  rw [up_s, clerk_n, fadeF_n, show ∀ δ : Nat → Int32, sRun δ 1 = δ 1 from fun δ => sRunK_n (by decide) (by decide) (by decide) 12 (by decide) δ, addF_n q _ 0 (by omega) _ h1.1, sMore_n (by decide) (by decide)]
theorem months_1 (q : Option xq) {mo : Nat} : ∀ k (δ : Nat → Int32), wf δ → δ 1 = nI mo → sMonths q k δ 1 = nI (mo + k)
  | 0, _, _, h => h
  | k + 1, δ, hw, h => by
    have e : ∀ mo k (δ : Nat → Int32), wf δ → δ 1 = nI mo → sMonths q k δ 1 = nI (mo + k) := by
      intro mo k
      induction k generalizing mo with
      | zero => intro δ _ h; exact h
      | succ k ih =>
        intro δ hw h
        show sMonths q k (sMonth q δ) 1 = _
        rw [ih (mo + 1) (sMonth q δ) (mw_month q hw).1 (by rw [month_1 q hw, h, nI_1])]
        congr 1
        omega
    exact e mo (k + 1) δ hw h
theorem min_n {x y : Nat} (hx : x < 2 ^ 31) (hy : y < 2 ^ 31) : (if nI y < nI x then nI y else nI x) = nI (min x y) := by
  by_cases h : y < x
  · rw [if_pos (nI_lt h hx), Nat.min_eq_right (by omega)]
  · rw [if_neg (nI_nlt (by omega) hy), Nat.min_eq_left (by omega)]
theorem hd_n {x y : Nat} (hx : x < 2 ^ 31) (hy : y < 2 ^ 31) : hd (nI x) 0 (nI y) = nI (min x y) := by
  unfold hd
  rw [if_neg (nI_pos hx)]
  by_cases h : y < x
  · rw [if_pos (nI_lt h hx), Nat.min_eq_right (by omega)]
  · rw [if_neg (nI_nlt (by omega) hy), Nat.min_eq_left (by omega)]
theorem sub_n {x y : Nat} {N : Int32} (hN : N = nI x) (h : y ≤ x) : N - nI y = nI (x - y) := by
  subst hN
  exact pk_sub h
/-- texts' values in the whole heap -/
theorem G_val {δ ε ζ : Nat → Int32} {τ1 τ2 τ3 : xt} {κ : Nat → Nat → Int32} {n : Nat} {l : lk} {ke op sz : Int32} {B S : Nat → Int32} {b : Nat → Nat → Int32} {H X : xh} (hX : hi X H) {key p : Nat} {q : Option xq} (h : LW X τ1 key q) (hp : τ1.2.2 key = some p) : ∃ f, q = some f ∧ ∀ (d : Nat) (x y z u : Int32), xcls (cG δ τ1 ε τ2 ζ τ3 κ n l ke op sz B S b H) (.ref p) = 4 ∧ ∃ κ', Ev (d + 2) 51 [.ref p, .int x, .int y, .int z, .int u] (cG δ τ1 ε τ2 ζ τ3 κ n l ke op sz B S b H) = some (some (.int (f x y z u)), cG δ τ1 ε τ2 ζ τ3 κ' n l ke op sz B S b H) := by
  have hq := QR_1 (ε := ε) (ζ := ζ) (τ2 := τ2) (τ3 := τ3) (n := n) (l := l) (ke := ke) (op := op) (sz := sz) (B := B) (S := S) (b := b) hX h
  unfold QR at hq
  rw [hp] at hq
  obtain ⟨f, hf, hg⟩ := hq
  exact ⟨f, hf, fun d x y z u => hg d 1 δ τ1 κ x y z u (by decide)⟩
theorem LW_n {X : xh} {τ : xt} {key : Nat} {q : Option xq} (h : LW X τ key q) (hp : τ.2.2 key = none) : q = none := by
  unfold LW at h
  rw [hp] at h
  exact h
theorem k_months (x : Int32) : CL 74 144 [.int x] := by
  intro d m h hI
  obtain ⟨δ, τ1, ε, τ2, ζ, τ3, κ, n, l, ke, op, sz, B, S, b, a, s, w, X, rfl, R⟩ := hI
  have hw := R.1
  have hmo := R.2.1
  have ha1 := R.2.2.1
  have hmd := fun Z => md_of (s := s) (w := w) (Z := Z) ha1
  have n1 : ¬ (1 : Int32) = 0 := by decide
  by_cases c1 : bd1 x 100
  · have ho := fun d h => ou1_f d h (n := 100) (N := 100) rfl (by decide) c1
    have hin := fun d h => in1_t d h (n := 100) (N := 100) rfl (by decide) c1
    obtain ⟨j, hj1, hj, rfl⟩ := c1
    obtain ⟨mo, hmo1, hmo2⟩ := hmo
    obtain ⟨q, hq1, hq2⟩ := TXT_q R.2.2.2.1 (key := 0) (by decide)
    have hK : min j (9999 - mo) < 2 ^ 31 := by omega
    have es : (9999 : Int32) - δ 1 = nI (9999 - mo) := by rw [hmo2]; exact sub_n rfl hmo1
    obtain ⟨κ1, e1⟩ := G_pass (δ := δ) (τ1 := τ1) (ε := ε) (τ2 := τ2) (ζ := ζ) (τ3 := τ3) (κ := κ) (n := n) (l := l) (ke := ke) (op := op) (sz := sz) (B := B) (S := S) (b := b) (H := mh a s w X) (d + 194) hw hi_mh hq1 hK
    obtain ⟨κ2, e2⟩ := s_months (κ := a 9) (s := s) (w := w) (H := cG (sMonths q (min j (9999 - mo)) δ) τ1 ε τ2 ζ τ3 κ1 n l ke op sz B S b X) (d + 193) hK hw hq2
    have hmw := mw_months q (min j (9999 - mo)) δ hw
    refine combD (v := sMonths q (min j (9999 - mo)) δ 4 - δ 4) (D := sMonths q (min j (9999 - mo)) δ) (ζ' := ζ) (τ3' := τ3) (κ' := κ1) (κm := κ2) R ?_ ?_ hmw.1 (by rw [months_1 q _ δ hw hmo2]; exact ⟨_, by omega, rfl⟩) (hmw.2 7 fx7)
    · rw [E74]
      simp only [S74_0, S74_1, S74_2, S74_4, S74_7, S74_10, S74_12, S74_13, S74_14, S74_17, S74_20, S74_21, S74_22, S74_25, S74_26, S74_29, S74_30, S74_33, S74_36, S74_37, S74_40, S74_43, S74_44, S74_47, S74_50, S74_51, S74_52, Option.bind_some, Option.map_some, xpush_s, xpush_n, xcat_0, xcat_i, xcat_r, xcat_l, xcat_n, xcat_e, xir_r, Nat.reduceAdd, Nat.reduceLeDiff, Nat.zero_le, Nat.le_refl, ↓reduceIte, C_0, N_cls, ho, N_g8, N_g10, es, s_min, min_n (show j < 2 ^ 31 by omega) (show 9999 - mo < 2 ^ 31 by omega), e1]
    · rw [E144]
      simp only [S144_0, S144_1, S144_2, S144_3, S144_6, S144_9, S144_12, S144_14, S144_15, S144_16, S144_19, S144_20, S144_21, S144_22, S144_23, S144_24, S144_25, S144_28, S144_29, S144_32, S144_33, S144_34, S144_35, S144_38, S144_41, S144_42, S144_45, S144_46, S144_47, S144_48, S144_49, Option.bind_some, Option.map_some, xpush_s, xpush_n, xcat_0, xcat_i, xcat_r, xcat_l, xcat_n, xcat_e, xir_r, Nat.reduceAdd, Nat.reduceLeDiff, Nat.zero_le, Nat.le_refl, ↓reduceIte, Dcls, Dg, Dr, n1, hin, ix_4, ix_1, es, s_held, hd_n (show j < 2 ^ 31 by omega) (show 9999 - mo < 2 ^ 31 by omega), e2]
  · refine comb0 (v := -1000000001) R ?_ ?_
    · rw [E74]
      simp only [S74_0, S74_1, S74_2, S74_4, S74_7, S74_10, S74_12, S74_13, S74_14, S74_17, S74_20, S74_21, S74_22, S74_25, S74_26, S74_29, S74_30, S74_33, S74_36, S74_37, S74_40, S74_43, S74_44, S74_47, S74_50, S74_51, S74_52, Option.bind_some, Option.map_some, xpush_s, xpush_n, xcat_0, xcat_i, xcat_r, xcat_l, xcat_n, xcat_e, xir_r, Nat.reduceAdd, Nat.reduceLeDiff, Nat.zero_le, Nat.le_refl, ↓reduceIte, n1, ou1_t _ _ (n := 100) (N := 100) rfl (by decide) c1]
    · rw [hmd, E144]
      simp only [S144_0, S144_1, S144_2, S144_3, S144_6, S144_9, S144_12, S144_14, S144_15, S144_16, S144_19, S144_20, S144_21, S144_22, S144_23, S144_24, S144_25, S144_28, S144_29, S144_32, S144_33, S144_34, S144_35, S144_38, S144_41, S144_42, S144_45, S144_46, S144_47, S144_48, S144_49, Option.bind_some, Option.map_some, xpush_s, xpush_n, xcat_0, xcat_i, xcat_r, xcat_l, xcat_n, xcat_e, xir_r, Nat.reduceAdd, Nat.reduceLeDiff, Nat.zero_le, Nat.le_refl, ↓reduceIte, Dcls, n1, in1_f _ _ (n := 100) (N := 100) rfl (by decide) c1]

theorem k_fee : CL 88 165 [] := by
  intro d m h hI
  obtain ⟨δ, τ1, ε, τ2, ζ, τ3, κ, n, l, ke, op, sz, B, S, b, a, s, w, X, rfl, R⟩ := hI
  have hw := R.1
  have hmo := R.2.1
  have ha1 := R.2.2.1
  have hmd := fun Z => md_of (s := s) (w := w) (Z := Z) ha1
  have n1 : ¬ (1 : Int32) = 0 := by decide
  obtain ⟨q, hq1, hq2⟩ := TXT_q R.2.2.2.1 (key := 1) (by decide)
  have e7 := bd_e hw.texts (by decide)
  have hct := fun d Z => s_counts (a := a) (δ := δ) (κ := a 9) (s := s) (w := w) (H := Z) d (nI 1) e7.1 e7.2
  rw [show nI 1 = 1 from rfl] at hct
  have hq8 := N_q8 (δ := δ) (τ1 := τ1) (ε := ε) (τ2 := τ2) (ζ := ζ) (τ3 := τ3) (κ := κ) (n := n) (l := l) (ke := ke) (op := op) (sz := sz) (B := B) (S := S) (b := b) (H := mh a s w X) (i := 1) (by decide)
  rw [show nI 1 = 1 from rfl] at hq8
  unfold QM at hq2
  rw [show nI 1 = 1 from rfl] at hq2
  cases hp : τ1.2.2 1 with
  | none =>
    have hqn := LW_n hq1 hp
    subst hqn
    have hc : sCnt (a 6) 1 (nn (δ 7)) = none := by
      cases hc : sCnt (a 6) 1 (nn (δ 7)) with
      | none => rfl
      | some t => rw [hc] at hq2; obtain ⟨f, hf, -⟩ := hq2; cases hf
    rw [hp] at hq8
    refine comb0 (v := δ 4) R ?_ ?_
    · rw [E88]
      simp only [S88_0, S88_1, S88_4, S88_7, S88_8, S88_9, S88_10, S88_11, S88_11n, S88_14, S88_15, S88_18, S88_21, S88_24, S88_25, S88_26, S88_29, S88_32, S88_33, S88_36, S88_39, S88_40, S88_41, S88_44, Option.bind_some, Option.map_some, xpush_s, xpush_n, xcat_0, xcat_i, xcat_r, xcat_l, xcat_n, xcat_e, xir_r, Nat.reduceAdd, Nat.reduceLeDiff, Nat.zero_le, Nat.le_refl, ↓reduceIte, C_0, N_cls, N_g15, hq8, va_rf, xir_n, N_g8, N_g9]
    · rw [hmd, E165]
      simp only [S165_0, S165_1, S165_2, S165_5, S165_6, S165_7, S165_10, S165_11, S165_14, S165_15, S165_16, S165_19, S165_20, S165_21, S165_22, S165_25, S165_26, S165_27, S165_28, S165_31, S165_32, S165_33, S165_34, S165_35, S165_38, Option.bind_some, Option.map_some, xpush_s, xpush_n, xcat_0, xcat_i, xcat_r, xcat_l, xcat_n, xcat_e, xir_r, Nat.reduceAdd, Nat.reduceLeDiff, Nat.zero_le, Nat.le_refl, ↓reduceIte, Dcls, hct, hc, show ¬ (0 : Int32) ≤ oI none by decide, Dg, Dr, ix_4, ix_5]
  | some p =>
    obtain ⟨f, hf, hg⟩ := G_val (δ := δ) (τ1 := τ1) (ε := ε) (τ2 := τ2) (ζ := ζ) (τ3 := τ3) (κ := κ) (n := n) (l := l) (ke := ke) (op := op) (sz := sz) (B := B) (S := S) (b := b) (H := mh a s w X) hi_mh hq1 hp
    obtain ⟨hcl, κ1, e1⟩ := hg (d + 197) (δ 4) (δ 5) 0 0
    have hcl' := eq_true hcl
    subst hf
    obtain ⟨t, hc⟩ : ∃ t, sCnt (a 6) 1 (nn (δ 7)) = some t := by
      cases hc : sCnt (a 6) 1 (nn (δ 7)) with
      | none => rw [hc] at hq2; cases hq2
      | some t => exact ⟨t, rfl⟩
    rw [hc] at hq2
    obtain ⟨f', hf', hgm⟩ := hq2
    injection hf' with hf'
    subst hf'
    obtain ⟨κ2, e2⟩ := hgm (d + 197) δ (a 9) s w (cG δ τ1 ε τ2 ζ τ3 κ1 n l ke op sz B S b X) (δ 4) (δ 5) 0 0
    have hge : (0 : Int32) ≤ oI (some t) := nI_pos' (by have := sCnt_lt _ hc; have := e7.2; omega)
    have eo : oI (some t) = nI t := rfl
    rw [hp] at hq8
    refine combD (v := f (δ 4) (δ 5) 0 0) (D := δ) (ζ' := ζ) (τ3' := τ3) (κ' := κ1) (κm := κ2) R ?_ ?_ hw hmo rfl
    · rw [E88]
      simp only [S88_0, S88_1, S88_4, S88_7, S88_8, S88_9, S88_10, S88_11, S88_11n, S88_14, S88_15, S88_18, S88_21, S88_24, S88_25, S88_26, S88_29, S88_32, S88_33, S88_36, S88_39, S88_40, S88_41, S88_44, Option.bind_some, Option.map_some, xpush_s, xpush_n, xcat_0, xcat_i, xcat_r, xcat_l, xcat_n, xcat_e, xir_r, Nat.reduceAdd, Nat.reduceLeDiff, Nat.zero_le, Nat.le_refl, ↓reduceIte, C_0, N_cls, N_g15, hq8, va_rf, hcl', N_g8, N_g9, e1]
    · rw [E165]
      simp only [S165_0, S165_1, S165_2, S165_5, S165_6, S165_7, S165_10, S165_11, S165_14, S165_15, S165_16, S165_19, S165_20, S165_21, S165_22, S165_25, S165_26, S165_27, S165_28, S165_31, S165_32, S165_33, S165_34, S165_35, S165_38, Option.bind_some, Option.map_some, xpush_s, xpush_n, xcat_0, xcat_i, xcat_r, xcat_l, xcat_n, xcat_e, xir_r, Nat.reduceAdd, Nat.reduceLeDiff, Nat.zero_le, Nat.le_refl, ↓reduceIte, Dcls, hct, hc, hge, Dg, Dr, ix_4, ix_5]
      rw [eo, e2]
      simp only [S165_0, S165_1, S165_2, S165_5, S165_6, S165_7, S165_10, S165_11, S165_14, S165_15, S165_16, S165_19, S165_20, S165_21, S165_22, S165_25, S165_26, S165_27, S165_28, S165_31, S165_32, S165_33, S165_34, S165_35, S165_38, Option.bind_some, Option.map_some, xpush_s, xpush_n, xcat_0, xcat_i, xcat_r, xcat_l, xcat_n, xcat_e, xir_r, Nat.reduceAdd, Nat.reduceLeDiff, Nat.zero_le, Nat.le_refl, ↓reduceIte]

theorem k_fine (x : Int32) : CL 89 166 [.int x] := by
  intro d m h hI
  obtain ⟨δ, τ1, ε, τ2, ζ, τ3, κ, n, l, ke, op, sz, B, S, b, a, s, w, X, rfl, R⟩ := hI
  have hw := R.1
  have hmo := R.2.1
  have ha1 := R.2.2.1
  have hmd := fun Z => md_of (s := s) (w := w) (Z := Z) ha1
  have n1 : ¬ (1 : Int32) = 0 := by decide
  by_cases c1 : ix x (nn (δ 0))
  · skip
    obtain ⟨k, hk, rfl⟩ := c1
    have hm : k < 10 := by have := hw.eN.2; omega
    have c1 : ix (nI k) (nn (δ 0)) := ⟨k, hk, rfl⟩
    obtain ⟨q, hq1, hq2⟩ := TXT_q R.2.2.2.1 (key := 2) (by decide)
    have e7 := bd_e hw.texts (by decide)
    have hct := fun d Z => s_counts (a := a) (δ := δ) (κ := a 9) (s := s) (w := w) (H := Z) d (nI 2) e7.1 e7.2
    rw [show nI 2 = 2 from rfl] at hct
    have hq8 := N_q8 (δ := δ) (τ1 := τ1) (ε := ε) (τ2 := τ2) (ζ := ζ) (τ3 := τ3) (κ := κ) (n := n) (l := l) (ke := ke) (op := op) (sz := sz) (B := B) (S := S) (b := b) (H := mh a s w X) (i := 2) (by decide)
    rw [show nI 2 = 2 from rfl] at hq8
    unfold QM at hq2
    rw [show nI 2 = 2 from rfl] at hq2
    cases hp : τ1.2.2 2 with
    | none =>
      have hqn := LW_n hq1 hp
      subst hqn
      have hc : sCnt (a 6) 2 (nn (δ 7)) = none := by
        cases hc : sCnt (a 6) 2 (nn (δ 7)) with
        | none => rfl
        | some t => rw [hc] at hq2; obtain ⟨f, hf, -⟩ := hq2; cases hf
      rw [hp] at hq8
      refine comb0 (v := δ (20 + 4 * k + 1)) R ?_ ?_
      · rw [E89]
        simp only [S89_0, S89_1, S89_4, S89_5, S89_8, S89_11, S89_13, S89_14, S89_15, S89_18, S89_21, S89_22, S89_23, S89_24, S89_25, S89_25n, S89_28, S89_29, S89_32, S89_35, S89_36, S89_37, S89_40, S89_41, S89_42, S89_45, S89_48, S89_49, S89_50, S89_51, S89_54, S89_57, S89_58, S89_59, S89_60, S89_61, S89_64, Option.bind_some, Option.map_some, xpush_s, xpush_n, xcat_0, xcat_i, xcat_r, xcat_l, xcat_n, xcat_e, xir_r, Nat.reduceAdd, Nat.reduceLeDiff, Nat.zero_le, Nat.le_refl, ↓reduceIte, C_0, N_cls, N_g15, hq8, va_rf, xir_n, N_g3, N_g5, N_m1 hm, N_m3 hm, G_lk_t _ hw c1]
      · rw [hmd, E166]
        simp only [S166_0, S166_1, S166_2, S166_5, S166_8, S166_10, S166_11, S166_12, S166_13, S166_16, S166_17, S166_18, S166_21, S166_22, S166_23, S166_24, S166_27, S166_30, S166_31, S166_32, S166_33, S166_34, S166_35, S166_38, S166_39, S166_40, S166_41, S166_44, S166_45, S166_46, S166_49, Option.bind_some, Option.map_some, xpush_s, xpush_n, xcat_0, xcat_i, xcat_r, xcat_l, xcat_n, xcat_e, xir_r, Nat.reduceAdd, Nat.reduceLeDiff, Nat.zero_le, Nat.le_refl, ↓reduceIte, Dcls, hct, hc, show ¬ (0 : Int32) ≤ oI none by decide, s_of1 _ hm, s_of3 _ hm, m_mk_t _ hw c1, n1]
    | some p =>
      obtain ⟨f, hf, hg⟩ := G_val (δ := δ) (τ1 := τ1) (ε := ε) (τ2 := τ2) (ζ := ζ) (τ3 := τ3) (κ := κ) (n := n) (l := l) (ke := ke) (op := op) (sz := sz) (B := B) (S := S) (b := b) (H := mh a s w X) hi_mh hq1 hp
      obtain ⟨hcl, κ1, e1⟩ := hg (d + 197) (δ (20 + 4 * k + 1)) (δ (20 + 4 * k + 3)) 0 0
      have hcl' := eq_true hcl
      subst hf
      obtain ⟨t, hc⟩ : ∃ t, sCnt (a 6) 2 (nn (δ 7)) = some t := by
        cases hc : sCnt (a 6) 2 (nn (δ 7)) with
        | none => rw [hc] at hq2; cases hq2
        | some t => exact ⟨t, rfl⟩
      rw [hc] at hq2
      obtain ⟨f', hf', hgm⟩ := hq2
      injection hf' with hf'
      subst hf'
      obtain ⟨κ2, e2⟩ := hgm (d + 197) δ (a 9) s w (cG δ τ1 ε τ2 ζ τ3 κ1 n l ke op sz B S b X) (δ (20 + 4 * k + 1)) (δ (20 + 4 * k + 3)) 0 0
      have hge : (0 : Int32) ≤ oI (some t) := nI_pos' (by have := sCnt_lt _ hc; have := e7.2; omega)
      have eo : oI (some t) = nI t := rfl
      rw [hp] at hq8
      refine combD (v := f (δ (20 + 4 * k + 1)) (δ (20 + 4 * k + 3)) 0 0) (D := δ) (ζ' := ζ) (τ3' := τ3) (κ' := κ1) (κm := κ2) R ?_ ?_ hw hmo rfl
      · rw [E89]
        simp only [S89_0, S89_1, S89_4, S89_5, S89_8, S89_11, S89_13, S89_14, S89_15, S89_18, S89_21, S89_22, S89_23, S89_24, S89_25, S89_25n, S89_28, S89_29, S89_32, S89_35, S89_36, S89_37, S89_40, S89_41, S89_42, S89_45, S89_48, S89_49, S89_50, S89_51, S89_54, S89_57, S89_58, S89_59, S89_60, S89_61, S89_64, Option.bind_some, Option.map_some, xpush_s, xpush_n, xcat_0, xcat_i, xcat_r, xcat_l, xcat_n, xcat_e, xir_r, Nat.reduceAdd, Nat.reduceLeDiff, Nat.zero_le, Nat.le_refl, ↓reduceIte, C_0, N_cls, N_g15, hq8, va_rf, hcl', N_g3, N_g5, N_m1 hm, N_m3 hm, G_lk_t _ hw c1, e1]
      · rw [E166]
        simp only [S166_0, S166_1, S166_2, S166_5, S166_8, S166_10, S166_11, S166_12, S166_13, S166_16, S166_17, S166_18, S166_21, S166_22, S166_23, S166_24, S166_27, S166_30, S166_31, S166_32, S166_33, S166_34, S166_35, S166_38, S166_39, S166_40, S166_41, S166_44, S166_45, S166_46, S166_49, Option.bind_some, Option.map_some, xpush_s, xpush_n, xcat_0, xcat_i, xcat_r, xcat_l, xcat_n, xcat_e, xir_r, Nat.reduceAdd, Nat.reduceLeDiff, Nat.zero_le, Nat.le_refl, ↓reduceIte, Dcls, hct, hc, hge, s_of1 _ hm, s_of3 _ hm, m_mk_t _ hw c1, n1]
        rw [eo, e2]
        simp only [S166_0, S166_1, S166_2, S166_5, S166_8, S166_10, S166_11, S166_12, S166_13, S166_16, S166_17, S166_18, S166_21, S166_22, S166_23, S166_24, S166_27, S166_30, S166_31, S166_32, S166_33, S166_34, S166_35, S166_38, S166_39, S166_40, S166_41, S166_44, S166_45, S166_46, S166_49, Option.bind_some, Option.map_some, xpush_s, xpush_n, xcat_0, xcat_i, xcat_r, xcat_l, xcat_n, xcat_e, xir_r, Nat.reduceAdd, Nat.reduceLeDiff, Nat.zero_le, Nat.le_refl, ↓reduceIte]
  · refine comb0 (v := -1000000001) R ?_ ?_
    · rw [E89]
      simp only [S89_0, S89_1, S89_4, S89_5, S89_8, S89_11, S89_13, S89_14, S89_15, S89_18, S89_21, S89_22, S89_23, S89_24, S89_25, S89_25n, S89_28, S89_29, S89_32, S89_35, S89_36, S89_37, S89_40, S89_41, S89_42, S89_45, S89_48, S89_49, S89_50, S89_51, S89_54, S89_57, S89_58, S89_59, S89_60, S89_61, S89_64, Option.bind_some, Option.map_some, xpush_s, xpush_n, xcat_0, xcat_i, xcat_r, xcat_l, xcat_n, xcat_e, xir_r, Nat.reduceAdd, Nat.reduceLeDiff, Nat.zero_le, Nat.le_refl, ↓reduceIte, C_0, C_6, N_cls, n1, G_lk_f _ hw c1]
    · rw [hmd, E166]
      simp only [S166_0, S166_1, S166_2, S166_5, S166_8, S166_10, S166_11, S166_12, S166_13, S166_16, S166_17, S166_18, S166_21, S166_22, S166_23, S166_24, S166_27, S166_30, S166_31, S166_32, S166_33, S166_34, S166_35, S166_38, S166_39, S166_40, S166_41, S166_44, S166_45, S166_46, S166_49, Option.bind_some, Option.map_some, xpush_s, xpush_n, xcat_0, xcat_i, xcat_r, xcat_l, xcat_n, xcat_e, xir_r, Nat.reduceAdd, Nat.reduceLeDiff, Nat.zero_le, Nat.le_refl, ↓reduceIte, Dcls, n1, m_mk_f _ hw c1]

theorem k_why (x : Int32) : CL 94 183 [.int x] := by
  intro d m h hI
  obtain ⟨δ, τ1, ε, τ2, ζ, τ3, κ, n, l, ke, op, sz, B, S, b, a, s, w, X, rfl, R⟩ := hI
  have hw := R.1
  have hmo := R.2.1
  have ha1 := R.2.2.1
  have hmd := fun Z => md_of (s := s) (w := w) (Z := Z) ha1
  have n1 : ¬ (1 : Int32) = 0 := by decide
  by_cases c1 : bd x 2
  · have ho := fun d h => ou_f d h (n := 2) (N := 2) rfl (by decide) c1
    have hin := fun d h => in_t d h (n := 2) (N := 2) rfl (by decide) c1
    obtain ⟨j, hj, rfl⟩ := c1
    have e7 := bd_e hw.texts (by decide)
    have hct := fun d Z => s_counts (a := a) (δ := δ) (κ := a 9) (s := s) (w := w) (H := Z) d (nI j) e7.1 e7.2
    have h3 := R.2.2.2.1.2.2 j (by omega)
    have hr7 := N_r7 (δ := δ) (τ1 := τ1) (ε := ε) (τ2 := τ2) (ζ := ζ) (τ3 := τ3) (κ := κ) (n := n) (l := l) (ke := ke) (op := op) (sz := sz) (B := B) (S := S) (b := b) (H := mh a s w X) (i := j) (by omega)
    cases hc : sCnt (a 6) (nI j) (nn (δ 7)) with
    | none =>
      rw [hc] at h3
      rw [h3.1] at hr7
      refine comb0 (v := -1000000005) R ?_ ?_
      · rw [E94]
        simp only [S94_0, S94_1, S94_2, S94_3, S94_6, S94_9, S94_11, S94_12, S94_13, S94_16, S94_19, S94_20, S94_21, Option.bind_some, Option.map_some, xpush_s, xpush_n, xcat_0, xcat_i, xcat_r, xcat_l, xcat_n, xcat_e, xir_r, Nat.reduceAdd, Nat.reduceLeDiff, Nat.zero_le, Nat.le_refl, ↓reduceIte, C_0, N_cls, ho, N_g14, hr7]
      · rw [hmd, E183]
        simp only [S183_0, S183_1, S183_2, S183_3, S183_6, S183_9, S183_12, S183_14, S183_15, S183_16, S183_17, S183_20, S183_21, S183_22, S183_25, S183_27, S183_30, S183_31, Option.bind_some, Option.map_some, xpush_s, xpush_n, xcat_0, xcat_i, xcat_r, xcat_l, xcat_n, xcat_e, xir_r, Nat.reduceAdd, Nat.reduceLeDiff, Nat.zero_le, Nat.le_refl, ↓reduceIte, Dcls, n1, hin, hct, hc, show ¬ (0 : Int32) ≤ oI none by decide]
    | some t =>
      rw [hc] at h3
      rw [h3.1] at hr7
      have hge : (0 : Int32) ≤ oI (some t) := nI_pos' (by have := sCnt_lt _ hc; have := e7.2; omega)
      refine comb0 (v := nI t) R ?_ ?_
      · rw [E94]
        simp only [S94_0, S94_1, S94_2, S94_3, S94_6, S94_9, S94_11, S94_12, S94_13, S94_16, S94_19, S94_20, S94_21, Option.bind_some, Option.map_some, xpush_s, xpush_n, xcat_0, xcat_i, xcat_r, xcat_l, xcat_n, xcat_e, xir_r, Nat.reduceAdd, Nat.reduceLeDiff, Nat.zero_le, Nat.le_refl, ↓reduceIte, C_0, N_cls, ho, N_g14, hr7]
      · rw [hmd, E183]
        simp only [S183_0, S183_1, S183_2, S183_3, S183_6, S183_9, S183_12, S183_14, S183_15, S183_16, S183_17, S183_20, S183_21, S183_22, S183_25, S183_27, S183_30, S183_31, Option.bind_some, Option.map_some, xpush_s, xpush_n, xcat_0, xcat_i, xcat_r, xcat_l, xcat_n, xcat_e, xir_r, Nat.reduceAdd, Nat.reduceLeDiff, Nat.zero_le, Nat.le_refl, ↓reduceIte, Dcls, n1, hin, hct, hc, hge]
        rfl
  · refine comb0 (v := -1000000001) R ?_ ?_
    · rw [E94]
      simp only [S94_0, S94_1, S94_2, S94_3, S94_6, S94_9, S94_11, S94_12, S94_13, S94_16, S94_19, S94_20, S94_21, Option.bind_some, Option.map_some, xpush_s, xpush_n, xcat_0, xcat_i, xcat_r, xcat_l, xcat_n, xcat_e, xir_r, Nat.reduceAdd, Nat.reduceLeDiff, Nat.zero_le, Nat.le_refl, ↓reduceIte, n1, ou_t _ _ (n := 2) (N := 2) rfl (by decide) c1]
    · rw [hmd, E183]
      simp only [S183_0, S183_1, S183_2, S183_3, S183_6, S183_9, S183_12, S183_14, S183_15, S183_16, S183_17, S183_20, S183_21, S183_22, S183_25, S183_27, S183_30, S183_31, Option.bind_some, Option.map_some, xpush_s, xpush_n, xcat_0, xcat_i, xcat_r, xcat_l, xcat_n, xcat_e, xir_r, Nat.reduceAdd, Nat.reduceLeDiff, Nat.zero_le, Nat.le_refl, ↓reduceIte, Dcls, n1, in_f _ _ (n := 2) (N := 2) rfl (by decide) c1]

theorem m_adI_l (d : Nat) {a : Nat → Nat → Int32} {δ s : Nat → Int32} {w : Int64} {H : xh} {q : Option xq} (hw : wf δ) (hq : QM a 0 (nn (δ 7)) q) {n : Nat} (hn : nn (δ 0) = n) (r y : Int32) : ∀ j m, m + j = n → ∀ κ, ∃ κ', RF 136 (Ev (d + 4)) 27 [some (.ref 58), some (.int r), some (.int y), some (.int (sAdI q δ r m)), some (.int (nI m))] [] (md a δ κ s w H) = RF 136 (Ev (d + 4)) 68 [some (.ref 58), some (.int r), some (.int y), some (.int (sAdI q δ r n)), some (.int (nI n))] [] (md a δ κ' s w H)
  | 0, m, e, κ => by
    have e' : m = n := by omega
    subst e'
    have h0 := hw.eN.1
    rw [hn] at h0
    refine ⟨κ, ?_⟩
    rw [S136_27]
    simp only [S136_29, S136_30, S136_33, S136_34, S136_35, S136_38, S136_39, S136_40, S136_42, S136_43, S136_46, S136_47, S136_50, S136_51, S136_53, S136_56, S136_59, S136_60, S136_61, S136_62, S136_65, Option.bind_some, Option.map_some, xpush_s, xpush_n, xcat_0, xcat_i, xcat_r, xcat_l, xcat_n, xcat_e, xir_r, Nat.reduceAdd, Nat.reduceLeDiff, Nat.zero_le, Nat.le_refl, ↓reduceIte, Dg, Dr, ix_0, h0, show (nI m ≤ nI m) = True from eq_true (Int32.le_refl _)]
  | j + 1, m, e, κ => by
    have h0 := hw.eN
    rw [hn] at h0
    have hm : m < 10 := by omega
    have hc : ¬ nI n ≤ nI m := nI_ge (by omega) (by omega)
    by_cases hr : δ (20 + 4 * m + 2) = r
    · obtain ⟨κ1, h1⟩ := s_adds (κ := κ) (s := s) (w := w) (H := H) d hw hq hm
      obtain ⟨κ2, ih⟩ := m_adI_l d hw hq hn r y j (m + 1) (by omega) κ1
      refine ⟨κ2, ?_⟩
      rw [show sAdI q δ r (m + 1) = sAdI q δ r m + sAdds q δ m by show _ + (if _ then _ else _) = _; rw [if_pos hr]] at ih
      rw [← ih, S136_27]
      simp only [S136_29, S136_30, S136_33, S136_34, S136_35, S136_38, S136_39, S136_40, S136_42, S136_43, S136_46, S136_47, S136_50, S136_51, S136_53, S136_56, S136_59, S136_60, S136_61, S136_62, S136_65, Option.bind_some, Option.map_some, xpush_s, xpush_n, xcat_0, xcat_i, xcat_r, xcat_l, xcat_n, xcat_e, xir_r, Nat.reduceAdd, Nat.reduceLeDiff, Nat.zero_le, Nat.le_refl, ↓reduceIte, hc, Dg, Dr, Dcls, ix_0, h0.1, s_of2 _ hm, if_pos hr, h1, nI_1]
    · obtain ⟨κ2, ih⟩ := m_adI_l d hw hq hn r y j (m + 1) (by omega) κ
      refine ⟨κ2, ?_⟩
      rw [show sAdI q δ r (m + 1) = sAdI q δ r m + 0 by show _ + (if _ then _ else _) = _; rw [if_neg hr]] at ih
      rw [← ih, S136_27]
      simp only [S136_29, S136_30, S136_33, S136_34, S136_35, S136_38, S136_39, S136_40, S136_42, S136_43, S136_46, S136_47, S136_50, S136_51, S136_53, S136_56, S136_59, S136_60, S136_61, S136_62, S136_65, Option.bind_some, Option.map_some, xpush_s, xpush_n, xcat_0, xcat_i, xcat_r, xcat_l, xcat_n, xcat_e, xir_r, Nat.reduceAdd, Nat.reduceLeDiff, Nat.zero_le, Nat.le_refl, ↓reduceIte, hc, Dg, Dr, Dcls, ix_0, h0.1, s_of2 _ hm, if_neg hr, nI_1]
theorem bit_b {K r : Nat} (hK : K < 2 ^ 31) (hr : r < 32) : nI K >>> (nI r &&& 31) &&& 1 = bi (K.testBit r = true) := by
  have h := bit_t hK hr
  rw [bit_n hK hr] at h ⊢
  by_cases q : K.testBit r = true
  · rw [bi_t q]; exact h.mpr q
  · rw [bi_f q]
    have h1 : K / 2 ^ r % 2 ≠ 1 := fun e => q (h.mp (by rw [e]; rfl))
    rw [show K / 2 ^ r % 2 = 0 by omega]
    rfl
theorem k_reachOf (x y : Int32) : CL 69 136 [.int x, .int y] := by
  intro d m h hI
  obtain ⟨δ, τ1, ε, τ2, ζ, τ3, κ, n, l, ke, op, sz, B, S, b, a, s, w, X, rfl, R⟩ := hI
  have hw := R.1
  have hmo := R.2.1
  have ha1 := R.2.2.1
  have hmd := fun Z => md_of (s := s) (w := w) (Z := Z) ha1
  have n1 : ¬ (1 : Int32) = 0 := by decide
  by_cases c1 : bd x 11
  · skip
    by_cases c2 : bd y 3
    · skip
      have hr := fun d h => m_rch_t d h c1
      have ho := fun d h => ou_f d h (n := 11) (N := 11) rfl (by decide) c1
      have hin := fun d h => in_t d h (n := 3) (N := 3) rfl (by decide) c2
      obtain ⟨r, hr11, rfl⟩ := c1
      obtain ⟨j, hj, rfl⟩ := c2
      obtain ⟨q, hq1, hq2⟩ := TXT_q R.2.2.2.1 (key := 0) (by decide)
      have eN := hw.eN
      have pre : ∀ (Z : xh) (y : Int32), (∀ d h, Ev (d + 1) 112 [.long y.toInt64, .long 0, .long 3] h = some (some (.int 1), h)) → ∃ κ2, RF 136 (Ev (d + 199)) 0 [some (.ref 58), some (.int (nI r)), some (.int y), none, none] [] (md a δ (a 9) s w Z) = RF 136 (Ev (d + 199)) 68 [some (.ref 58), some (.int (nI r)), some (.int y), some (.int (sAdI q δ (nI r) (nn (δ 0)))), some (.int (nI (nn (δ 0))))] [] (md a δ κ2 s w Z) := by
        intro Z y hy
        obtain ⟨κ2, h2⟩ := m_adI_l (s := s) (w := w) (H := Z) (d + 195) hw hq2 rfl (nI r) y (nn (δ 0)) 0 (by omega) (a 9)
        refine ⟨κ2, ?_⟩
        rw [← h2]
        simp only [S136_0, S136_1, S136_4, S136_7, S136_8, S136_9, S136_10, S136_13, S136_16, S136_19, S136_21, S136_22, S136_23, S136_24, S136_25, Option.bind_some, Option.map_some, xpush_s, xpush_n, xcat_0, xcat_i, xcat_r, xcat_l, xcat_n, xcat_e, xir_r, Nat.reduceAdd, Nat.reduceLeDiff, Nat.zero_le, Nat.le_refl, ↓reduceIte, hr, hy, n1]
        rfl
      rcases (show j = 0 ∨ j = 1 ∨ j = 2 ∨ j = 3 by omega) with rfl | rfl | rfl | rfl
      · skip
        obtain ⟨κ2, h2⟩ := pre (cG δ τ1 ε τ2 ζ τ3 κ n l ke op sz B S b X) (nI 0) hin
        refine combD (v := δ (8 + r)) (D := δ) (ζ' := ζ) (τ3' := τ3) (κ' := κ) (κm := κ2) R ?_ ?_ hw hmo rfl
        · rw [E69]
          simp (config := { decide := true }) only [S69_0, S69_1, S69_2, S69_4, S69_7, S69_10, S69_12, S69_13, S69_14, S69_44, S69_45, S69_48, S69_51, S69_52, S69_53, S69_54, S69_55, S69_58, S69_59, S69_62, S69_63, S69_64, S69_67, S69_68, S69_71, S69_72, S69_73, S69_76, S69_79, S69_80, S69_81, S69_82, S69_83, S69_84, S69_86, Option.bind_some, Option.map_some, xpush_s, xpush_n, xcat_0, xcat_i, xcat_r, xcat_l, xcat_n, xcat_e, xir_r, Nat.reduceAdd, Nat.reduceLeDiff, Nat.zero_le, Nat.le_refl, ↓reduceIte, C_0, N_cls, ho, N_g0, N_w (show r < 12 by omega), if_true, if_false]
        · rw [E136, h2]
          simp (config := { decide := true }) only [S136_68, S136_69, S136_72, S136_73, S136_76, S136_78, S136_79, S136_80, S136_81, S136_84, S136_85, S136_86, S136_89, S136_90, S136_91, S136_94, S136_97, S136_98, S136_99, S136_102, S136_103, S136_106, S136_107, S136_108, S136_111, S136_114, S136_115, S136_118, S136_119, Option.bind_some, Option.map_some, xpush_s, xpush_n, xcat_0, xcat_i, xcat_r, xcat_l, xcat_n, xcat_e, xir_r, Nat.reduceAdd, Nat.reduceLeDiff, Nat.zero_le, Nat.le_refl, ↓reduceIte, Dg, Dr, ix8, xix_n (show 8 + r < 60 by omega) (show 60 ≤ 100000 by decide), if_true, if_false]
      · skip
        obtain ⟨κ2, h2⟩ := pre (cG δ τ1 ε τ2 ζ τ3 κ n l ke op sz B S b X) (nI 1) hin
        refine combD (v := sAt δ (nI r) (nn (δ 0))) (D := δ) (ζ' := ζ) (τ3' := τ3) (κ' := κ) (κm := κ2) R ?_ ?_ hw hmo rfl
        · rw [E69]
          simp (config := { decide := true }) only [S69_0, S69_1, S69_2, S69_4, S69_7, S69_10, S69_12, S69_13, S69_14, S69_44, S69_45, S69_48, S69_51, S69_52, S69_53, S69_54, S69_55, S69_58, S69_59, S69_62, S69_63, S69_64, S69_67, S69_68, S69_71, S69_72, S69_73, S69_76, S69_79, S69_80, S69_81, S69_82, S69_83, S69_84, S69_86, Option.bind_some, Option.map_some, xpush_s, xpush_n, xcat_0, xcat_i, xcat_r, xcat_l, xcat_n, xcat_e, xir_r, Nat.reduceAdd, Nat.reduceLeDiff, Nat.zero_le, Nat.le_refl, ↓reduceIte, C_0, N_cls, ho, G_marksIn _ hw, if_true, if_false]
        · rw [E136, h2]
          simp (config := { decide := true }) only [S136_68, S136_69, S136_72, S136_73, S136_76, S136_78, S136_79, S136_80, S136_81, S136_84, S136_85, S136_86, S136_89, S136_90, S136_91, S136_94, S136_97, S136_98, S136_99, S136_102, S136_103, S136_106, S136_107, S136_108, S136_111, S136_114, S136_115, S136_118, S136_119, Option.bind_some, Option.map_some, xpush_s, xpush_n, xcat_0, xcat_i, xcat_r, xcat_l, xcat_n, xcat_e, xir_r, Nat.reduceAdd, Nat.reduceLeDiff, Nat.zero_le, Nat.le_refl, ↓reduceIte, Dcls, s_marksAt _ _ eN.1 eN.2, if_true, if_false]
      · skip
        obtain ⟨κ1, e1⟩ := G_adI (δ := δ) (τ1 := τ1) (ε := ε) (τ2 := τ2) (ζ := ζ) (τ3 := τ3) (κ := κ) (n := n) (l := l) (ke := ke) (op := op) (sz := sz) (B := B) (S := S) (b := b) (H := mh a s w X) (d + 195) hw hi_mh hq1 (nI r)
        obtain ⟨κ2, h2⟩ := pre (cG δ τ1 ε τ2 ζ τ3 κ1 n l ke op sz B S b X) (nI 2) hin
        refine combD (v := sAdI q δ (nI r) (nn (δ 0))) (D := δ) (ζ' := ζ) (τ3' := τ3) (κ' := κ1) (κm := κ2) R ?_ ?_ hw hmo rfl
        · rw [E69]
          simp (config := { decide := true }) only [S69_0, S69_1, S69_2, S69_4, S69_7, S69_10, S69_12, S69_13, S69_14, S69_44, S69_45, S69_48, S69_51, S69_52, S69_53, S69_54, S69_55, S69_58, S69_59, S69_62, S69_63, S69_64, S69_67, S69_68, S69_71, S69_72, S69_73, S69_76, S69_79, S69_80, S69_81, S69_82, S69_83, S69_84, S69_86, Option.bind_some, Option.map_some, xpush_s, xpush_n, xcat_0, xcat_i, xcat_r, xcat_l, xcat_n, xcat_e, xir_r, Nat.reduceAdd, Nat.reduceLeDiff, Nat.zero_le, Nat.le_refl, ↓reduceIte, C_0, N_cls, ho, e1, if_true, if_false]
        · rw [E136, h2]
          simp (config := { decide := true }) only [S136_68, S136_69, S136_72, S136_73, S136_76, S136_78, S136_79, S136_80, S136_81, S136_84, S136_85, S136_86, S136_89, S136_90, S136_91, S136_94, S136_97, S136_98, S136_99, S136_102, S136_103, S136_106, S136_107, S136_108, S136_111, S136_114, S136_115, S136_118, S136_119, Option.bind_some, Option.map_some, xpush_s, xpush_n, xcat_0, xcat_i, xcat_r, xcat_l, xcat_n, xcat_e, xir_r, Nat.reduceAdd, Nat.reduceLeDiff, Nat.zero_le, Nat.le_refl, ↓reduceIte, if_true, if_false]
      · skip
        obtain ⟨κ2, h2⟩ := pre (cG δ τ1 ε τ2 ζ τ3 κ n l ke op sz B S b X) (nI 3) hin
        have hlt := nStet_lt hw (nn (δ 0)) eN.2
        have hbb := bit_b (K := nStet δ (nn (δ 0))) (r := r) (by omega) (by omega)
        have hsb : bi ((nStet δ (nn (δ 0))).testBit r = true) = bi (sLetB δ (nI r) (nn (δ 0)) = true) := by rw [nStet_bit hw (by omega) _ eN.2]
        rw [hsb] at hbb
        refine combD (v := bi (sLetB δ (nI r) (nn (δ 0)) = true)) (D := δ) (ζ' := ζ) (τ3' := τ3) (κ' := κ) (κm := κ2) R ?_ ?_ hw hmo rfl
        · rw [E69]
          simp (config := { decide := true }) only [S69_0, S69_1, S69_2, S69_4, S69_7, S69_10, S69_12, S69_13, S69_14, S69_44, S69_45, S69_48, S69_51, S69_52, S69_53, S69_54, S69_55, S69_58, S69_59, S69_62, S69_63, S69_64, S69_67, S69_68, S69_71, S69_72, S69_73, S69_76, S69_79, S69_80, S69_81, S69_82, S69_83, S69_84, S69_86, Option.bind_some, Option.map_some, xpush_s, xpush_n, xcat_0, xcat_i, xcat_r, xcat_l, xcat_n, xcat_e, xir_r, Nat.reduceAdd, Nat.reduceLeDiff, Nat.zero_le, Nat.le_refl, ↓reduceIte, C_0, N_cls, ho, G_stet _ hw, hbb, if_true, if_false]
        · rw [E136, h2]
          cases hz : sLetB δ (nI r) (nn (δ 0)) with
          | true =>
            have hb1 : bi (sLetB δ (nI r) (nn (δ 0)) = true) = 1 := bi_t hz
            simp (config := { decide := true }) only [S136_68, S136_69, S136_72, S136_73, S136_76, S136_78, S136_79, S136_80, S136_81, S136_84, S136_85, S136_86, S136_89, S136_90, S136_91, S136_94, S136_97, S136_98, S136_99, S136_102, S136_103, S136_106, S136_107, S136_108, S136_111, S136_114, S136_115, S136_118, S136_119, Option.bind_some, Option.map_some, xpush_s, xpush_n, xcat_0, xcat_i, xcat_r, xcat_l, xcat_n, xcat_e, xir_r, Nat.reduceAdd, Nat.reduceLeDiff, Nat.zero_le, Nat.le_refl, ↓reduceIte, Dcls, s_isLet _ _ eN.1 eN.2, hb1, if_true, if_false]
            rfl
          | false =>
            have hb1 : bi (sLetB δ (nI r) (nn (δ 0)) = true) = 0 := bi_f (by rw [hz]; decide)
            simp (config := { decide := true }) only [S136_68, S136_69, S136_72, S136_73, S136_76, S136_78, S136_79, S136_80, S136_81, S136_84, S136_85, S136_86, S136_89, S136_90, S136_91, S136_94, S136_97, S136_98, S136_99, S136_102, S136_103, S136_106, S136_107, S136_108, S136_111, S136_114, S136_115, S136_118, S136_119, Option.bind_some, Option.map_some, xpush_s, xpush_n, xcat_0, xcat_i, xcat_r, xcat_l, xcat_n, xcat_e, xir_r, Nat.reduceAdd, Nat.reduceLeDiff, Nat.zero_le, Nat.le_refl, ↓reduceIte, Dcls, s_isLet _ _ eN.1 eN.2, hb1, if_true, if_false]
            rfl
    · refine comb0 (v := -1000000001) R ?_ ?_
      · rw [E69]
        simp only [S69_0, S69_1, S69_2, S69_4, S69_7, S69_10, S69_12, S69_13, S69_14, S69_44, S69_45, S69_48, S69_51, S69_52, S69_53, S69_54, S69_55, S69_58, S69_59, S69_62, S69_63, S69_64, S69_67, S69_68, S69_71, S69_72, S69_73, S69_76, S69_79, S69_80, S69_81, S69_82, S69_83, S69_84, S69_86, Option.bind_some, Option.map_some, xpush_s, xpush_n, xcat_0, xcat_i, xcat_r, xcat_l, xcat_n, xcat_e, xir_r, Nat.reduceAdd, Nat.reduceLeDiff, Nat.zero_le, Nat.le_refl, ↓reduceIte, C_0, C_6, N_cls, n1, ou_f _ _ (n := 11) (N := 11) rfl (by decide) c1, ou_t _ _ (n := 3) (N := 3) rfl (by decide) c2, show ¬ y = 0 from fun q => c2 ⟨0, by decide, q⟩, show ¬ y = 1 from fun q => c2 ⟨1, by decide, q⟩, show ¬ y = 2 from fun q => c2 ⟨2, by decide, q⟩, show ¬ y = 3 from fun q => c2 ⟨3, by decide, q⟩]
      · rw [hmd, E136]
        simp only [S136_0, S136_1, S136_4, S136_7, S136_8, S136_9, S136_10, S136_13, S136_16, S136_19, S136_21, S136_22, S136_23, S136_24, S136_25, S136_27, S136_29, S136_30, S136_33, S136_34, S136_35, S136_38, S136_39, S136_40, S136_42, S136_43, S136_46, S136_47, S136_50, S136_51, S136_53, S136_56, S136_59, S136_60, S136_61, S136_62, S136_65, S136_68, S136_69, S136_72, S136_73, S136_76, S136_78, S136_79, S136_80, S136_81, S136_84, S136_85, S136_86, S136_89, S136_90, S136_91, S136_94, S136_97, S136_98, S136_99, S136_102, S136_103, S136_106, S136_107, S136_108, S136_111, S136_114, S136_115, S136_118, S136_119, Option.bind_some, Option.map_some, xpush_s, xpush_n, xcat_0, xcat_i, xcat_r, xcat_l, xcat_n, xcat_e, xir_r, Nat.reduceAdd, Nat.reduceLeDiff, Nat.zero_le, Nat.le_refl, ↓reduceIte, Dcls, n1, m_rch_t _ _ c1, in_f _ _ (n := 3) (N := 3) rfl (by decide) c2]
  · refine comb0 (v := -1000000001) R ?_ ?_
    · rw [E69]
      simp only [S69_0, S69_1, S69_2, S69_4, S69_7, S69_10, S69_12, S69_13, S69_14, S69_44, S69_45, S69_48, S69_51, S69_52, S69_53, S69_54, S69_55, S69_58, S69_59, S69_62, S69_63, S69_64, S69_67, S69_68, S69_71, S69_72, S69_73, S69_76, S69_79, S69_80, S69_81, S69_82, S69_83, S69_84, S69_86, Option.bind_some, Option.map_some, xpush_s, xpush_n, xcat_0, xcat_i, xcat_r, xcat_l, xcat_n, xcat_e, xir_r, Nat.reduceAdd, Nat.reduceLeDiff, Nat.zero_le, Nat.le_refl, ↓reduceIte, C_0, C_6, N_cls, n1, ou_t _ _ (n := 11) (N := 11) rfl (by decide) c1]
    · rw [hmd, E136]
      simp only [S136_0, S136_1, S136_4, S136_7, S136_8, S136_9, S136_10, S136_13, S136_16, S136_19, S136_21, S136_22, S136_23, S136_24, S136_25, S136_27, S136_29, S136_30, S136_33, S136_34, S136_35, S136_38, S136_39, S136_40, S136_42, S136_43, S136_46, S136_47, S136_50, S136_51, S136_53, S136_56, S136_59, S136_60, S136_61, S136_62, S136_65, S136_68, S136_69, S136_72, S136_73, S136_76, S136_78, S136_79, S136_80, S136_81, S136_84, S136_85, S136_86, S136_89, S136_90, S136_91, S136_94, S136_97, S136_98, S136_99, S136_102, S136_103, S136_106, S136_107, S136_108, S136_111, S136_114, S136_115, S136_118, S136_119, Option.bind_some, Option.map_some, xpush_s, xpush_n, xcat_0, xcat_i, xcat_r, xcat_l, xcat_n, xcat_e, xir_r, Nat.reduceAdd, Nat.reduceLeDiff, Nat.zero_le, Nat.le_refl, ↓reduceIte, Dcls, n1, m_rch_f _ _ c1]

theorem Ct_1 {δ ε ζ : Nat → Int32} {τ1 τ2 τ3 : xt} {κ : Nat → Nat → Int32} {n : Nat} {l : lk} {ke op sz : Int32} {B S : Nat → Int32} {b : Nat → Nat → Int32} {H : xh} : hgf (cG δ τ1 ε τ2 ζ τ3 κ n l ke op sz B S b H) (.ref 29) 3 1 = some (.int (nI n)) := (rfl)
theorem D38 {a : Nat → Nat → Int32} {δ κ s : Nat → Int32} {w : Int64} {H : xh} : hgf (md a δ κ s w H) (.ref 58) 6 38 = some (.int (s 38)) := (rfl)
theorem D11 {a : Nat → Nat → Int32} {δ κ s : Nat → Int32} {w : Int64} {H : xh} : hgf (md a δ κ s w H) (.ref 58) 6 11 = some (.int (s 11)) := (rfl)
theorem k_count (x : Int32) : CL 109 197 [.int x] := by
  intro d m h hI
  obtain ⟨δ, τ1, ε, τ2, ζ, τ3, κ, n, l, ke, op, sz, B, S, b, a, s, w, X, rfl, R⟩ := hI
  have hw := R.1
  have hmo := R.2.1
  have ha1 := R.2.2.1
  have hmd := fun Z => md_of (s := s) (w := w) (Z := Z) ha1
  have n1 : ¬ (1 : Int32) = 0 := by decide
  by_cases c1 : bd x 7
  · obtain ⟨j, hj, rfl⟩ := c1
    rcases (show j = 0 ∨ j = 1 ∨ j = 2 ∨ j = 3 ∨ j = 4 ∨ j = 5 ∨ j = 6 ∨ j = 7 by omega) with rfl | rfl | rfl | rfl | rfl | rfl | rfl | rfl
    · skip
      refine comb0 (v := δ 0) R ?_ ?_
      · rw [E109]
        simp (config := { decide := true }) only [S109_0, S109_1, S109_48, S109_49, S109_52, S109_55, S109_56, S109_57, S109_60, S109_63, S109_64, S109_65, S109_68, S109_71, S109_72, S109_73, S109_76, S109_79, S109_80, S109_81, S109_84, S109_87, S109_88, S109_89, S109_92, S109_93, S109_94, S109_97, S109_100, S109_101, S109_102, S109_105, S109_108, S109_109, S109_111, Option.bind_some, Option.map_some, xpush_s, xpush_n, xcat_0, xcat_i, xcat_r, xcat_l, xcat_n, xcat_e, xir_r, Nat.reduceAdd, Nat.reduceLeDiff, Nat.zero_le, Nat.le_refl, ↓reduceIte, C_0, N_g1, if_true, if_false]
      · rw [hmd, E197]
        simp (config := { decide := true }) only [S197_0, S197_1, S197_48, S197_49, S197_52, S197_53, S197_54, S197_55, S197_56, S197_59, S197_61, S197_62, S197_63, S197_64, S197_67, S197_68, S197_69, S197_72, S197_73, S197_74, S197_77, S197_79, S197_80, S197_81, S197_83, Option.bind_some, Option.map_some, xpush_s, xpush_n, xcat_0, xcat_i, xcat_r, xcat_l, xcat_n, xcat_e, xir_r, Nat.reduceAdd, Nat.reduceLeDiff, Nat.zero_le, Nat.le_refl, ↓reduceIte, Dg, Dr, ix_0, if_true, if_false, show xix (nI 0) 60 = some 0 from rfl]
    · skip
      refine comb0 (v := δ 1) R ?_ ?_
      · rw [E109]
        simp (config := { decide := true }) only [S109_0, S109_1, S109_48, S109_49, S109_52, S109_55, S109_56, S109_57, S109_60, S109_63, S109_64, S109_65, S109_68, S109_71, S109_72, S109_73, S109_76, S109_79, S109_80, S109_81, S109_84, S109_87, S109_88, S109_89, S109_92, S109_93, S109_94, S109_97, S109_100, S109_101, S109_102, S109_105, S109_108, S109_109, S109_111, Option.bind_some, Option.map_some, xpush_s, xpush_n, xcat_0, xcat_i, xcat_r, xcat_l, xcat_n, xcat_e, xir_r, Nat.reduceAdd, Nat.reduceLeDiff, Nat.zero_le, Nat.le_refl, ↓reduceIte, C_0, N_g10, if_true, if_false]
      · rw [hmd, E197]
        simp (config := { decide := true }) only [S197_0, S197_1, S197_48, S197_49, S197_52, S197_53, S197_54, S197_55, S197_56, S197_59, S197_61, S197_62, S197_63, S197_64, S197_67, S197_68, S197_69, S197_72, S197_73, S197_74, S197_77, S197_79, S197_80, S197_81, S197_83, Option.bind_some, Option.map_some, xpush_s, xpush_n, xcat_0, xcat_i, xcat_r, xcat_l, xcat_n, xcat_e, xir_r, Nat.reduceAdd, Nat.reduceLeDiff, Nat.zero_le, Nat.le_refl, ↓reduceIte, Dg, Dr, ix_1, if_true, if_false, show xix (nI 1) 60 = some 1 from rfl]
    · skip
      refine comb0 (v := δ 2) R ?_ ?_
      · rw [E109]
        simp (config := { decide := true }) only [S109_0, S109_1, S109_48, S109_49, S109_52, S109_55, S109_56, S109_57, S109_60, S109_63, S109_64, S109_65, S109_68, S109_71, S109_72, S109_73, S109_76, S109_79, S109_80, S109_81, S109_84, S109_87, S109_88, S109_89, S109_92, S109_93, S109_94, S109_97, S109_100, S109_101, S109_102, S109_105, S109_108, S109_109, S109_111, Option.bind_some, Option.map_some, xpush_s, xpush_n, xcat_0, xcat_i, xcat_r, xcat_l, xcat_n, xcat_e, xir_r, Nat.reduceAdd, Nat.reduceLeDiff, Nat.zero_le, Nat.le_refl, ↓reduceIte, C_0, N_g6, if_true, if_false]
      · rw [hmd, E197]
        simp (config := { decide := true }) only [S197_0, S197_1, S197_48, S197_49, S197_52, S197_53, S197_54, S197_55, S197_56, S197_59, S197_61, S197_62, S197_63, S197_64, S197_67, S197_68, S197_69, S197_72, S197_73, S197_74, S197_77, S197_79, S197_80, S197_81, S197_83, Option.bind_some, Option.map_some, xpush_s, xpush_n, xcat_0, xcat_i, xcat_r, xcat_l, xcat_n, xcat_e, xir_r, Nat.reduceAdd, Nat.reduceLeDiff, Nat.zero_le, Nat.le_refl, ↓reduceIte, Dg, Dr, ix_2, if_true, if_false, show xix (nI 2) 60 = some 2 from rfl]
    · skip
      refine comb0 (v := δ 3) R ?_ ?_
      · rw [E109]
        simp (config := { decide := true }) only [S109_0, S109_1, S109_48, S109_49, S109_52, S109_55, S109_56, S109_57, S109_60, S109_63, S109_64, S109_65, S109_68, S109_71, S109_72, S109_73, S109_76, S109_79, S109_80, S109_81, S109_84, S109_87, S109_88, S109_89, S109_92, S109_93, S109_94, S109_97, S109_100, S109_101, S109_102, S109_105, S109_108, S109_109, S109_111, Option.bind_some, Option.map_some, xpush_s, xpush_n, xcat_0, xcat_i, xcat_r, xcat_l, xcat_n, xcat_e, xir_r, Nat.reduceAdd, Nat.reduceLeDiff, Nat.zero_le, Nat.le_refl, ↓reduceIte, C_0, N_g7, if_true, if_false]
      · rw [hmd, E197]
        simp (config := { decide := true }) only [S197_0, S197_1, S197_48, S197_49, S197_52, S197_53, S197_54, S197_55, S197_56, S197_59, S197_61, S197_62, S197_63, S197_64, S197_67, S197_68, S197_69, S197_72, S197_73, S197_74, S197_77, S197_79, S197_80, S197_81, S197_83, Option.bind_some, Option.map_some, xpush_s, xpush_n, xcat_0, xcat_i, xcat_r, xcat_l, xcat_n, xcat_e, xir_r, Nat.reduceAdd, Nat.reduceLeDiff, Nat.zero_le, Nat.le_refl, ↓reduceIte, Dg, Dr, ix_3, if_true, if_false, show xix (nI 3) 60 = some 3 from rfl]
    · skip
      refine comb0 (v := δ 7) R ?_ ?_
      · rw [E109]
        simp (config := { decide := true }) only [S109_0, S109_1, S109_48, S109_49, S109_52, S109_55, S109_56, S109_57, S109_60, S109_63, S109_64, S109_65, S109_68, S109_71, S109_72, S109_73, S109_76, S109_79, S109_80, S109_81, S109_84, S109_87, S109_88, S109_89, S109_92, S109_93, S109_94, S109_97, S109_100, S109_101, S109_102, S109_105, S109_108, S109_109, S109_111, Option.bind_some, Option.map_some, xpush_s, xpush_n, xcat_0, xcat_i, xcat_r, xcat_l, xcat_n, xcat_e, xir_r, Nat.reduceAdd, Nat.reduceLeDiff, Nat.zero_le, Nat.le_refl, ↓reduceIte, C_0, N_g12, if_true, if_false]
      · rw [hmd, E197]
        simp (config := { decide := true }) only [S197_0, S197_1, S197_48, S197_49, S197_52, S197_53, S197_54, S197_55, S197_56, S197_59, S197_61, S197_62, S197_63, S197_64, S197_67, S197_68, S197_69, S197_72, S197_73, S197_74, S197_77, S197_79, S197_80, S197_81, S197_83, Option.bind_some, Option.map_some, xpush_s, xpush_n, xcat_0, xcat_i, xcat_r, xcat_l, xcat_n, xcat_e, xir_r, Nat.reduceAdd, Nat.reduceLeDiff, Nat.zero_le, Nat.le_refl, ↓reduceIte, Dg, Dr, ix_7, if_true, if_false]
    · skip
      refine comb0 (v := s 38) R ?_ ?_
      · rw [E109]
        simp (config := { decide := true }) only [S109_0, S109_1, S109_48, S109_49, S109_52, S109_55, S109_56, S109_57, S109_60, S109_63, S109_64, S109_65, S109_68, S109_71, S109_72, S109_73, S109_76, S109_79, S109_80, S109_81, S109_84, S109_87, S109_88, S109_89, S109_92, S109_93, S109_94, S109_97, S109_100, S109_101, S109_102, S109_105, S109_108, S109_109, S109_111, Option.bind_some, Option.map_some, xpush_s, xpush_n, xcat_0, xcat_i, xcat_r, xcat_l, xcat_n, xcat_e, xir_r, Nat.reduceAdd, Nat.reduceLeDiff, Nat.zero_le, Nat.le_refl, ↓reduceIte, C_9, R.2.2.2.2.2.2.2.2.1.1, if_true, if_false]
      · rw [hmd, E197]
        simp (config := { decide := true }) only [S197_0, S197_1, S197_48, S197_49, S197_52, S197_53, S197_54, S197_55, S197_56, S197_59, S197_61, S197_62, S197_63, S197_64, S197_67, S197_68, S197_69, S197_72, S197_73, S197_74, S197_77, S197_79, S197_80, S197_81, S197_83, Option.bind_some, Option.map_some, xpush_s, xpush_n, xcat_0, xcat_i, xcat_r, xcat_l, xcat_n, xcat_e, xir_r, Nat.reduceAdd, Nat.reduceLeDiff, Nat.zero_le, Nat.le_refl, ↓reduceIte, D38, if_true, if_false]
    · skip
      refine comb0 (v := nI n) R ?_ ?_
      · rw [E109]
        simp (config := { decide := true }) only [S109_0, S109_1, S109_48, S109_49, S109_52, S109_55, S109_56, S109_57, S109_60, S109_63, S109_64, S109_65, S109_68, S109_71, S109_72, S109_73, S109_76, S109_79, S109_80, S109_81, S109_84, S109_87, S109_88, S109_89, S109_92, S109_93, S109_94, S109_97, S109_100, S109_101, S109_102, S109_105, S109_108, S109_109, S109_111, Option.bind_some, Option.map_some, xpush_s, xpush_n, xcat_0, xcat_i, xcat_r, xcat_l, xcat_n, xcat_e, xir_r, Nat.reduceAdd, Nat.reduceLeDiff, Nat.zero_le, Nat.le_refl, ↓reduceIte, C_5, Ct_1, if_true, if_false]
      · rw [hmd, E197]
        simp (config := { decide := true }) only [S197_0, S197_1, S197_48, S197_49, S197_52, S197_53, S197_54, S197_55, S197_56, S197_59, S197_61, S197_62, S197_63, S197_64, S197_67, S197_68, S197_69, S197_72, S197_73, S197_74, S197_77, S197_79, S197_80, S197_81, S197_83, Option.bind_some, Option.map_some, xpush_s, xpush_n, xcat_0, xcat_i, xcat_r, xcat_l, xcat_n, xcat_e, xir_r, Nat.reduceAdd, Nat.reduceLeDiff, Nat.zero_le, Nat.le_refl, ↓reduceIte, D11, R.2.2.2.2.2.1.1, if_true, if_false]
    · skip
      refine comb0 (v := δ 6) R ?_ ?_
      · rw [E109]
        simp (config := { decide := true }) only [S109_0, S109_1, S109_48, S109_49, S109_52, S109_55, S109_56, S109_57, S109_60, S109_63, S109_64, S109_65, S109_68, S109_71, S109_72, S109_73, S109_76, S109_79, S109_80, S109_81, S109_84, S109_87, S109_88, S109_89, S109_92, S109_93, S109_94, S109_97, S109_100, S109_101, S109_102, S109_105, S109_108, S109_109, S109_111, Option.bind_some, Option.map_some, xpush_s, xpush_n, xcat_0, xcat_i, xcat_r, xcat_l, xcat_n, xcat_e, xir_r, Nat.reduceAdd, Nat.reduceLeDiff, Nat.zero_le, Nat.le_refl, ↓reduceIte, C_0, N_g11, if_true, if_false]
      · rw [hmd, E197]
        simp (config := { decide := true }) only [S197_0, S197_1, S197_48, S197_49, S197_52, S197_53, S197_54, S197_55, S197_56, S197_59, S197_61, S197_62, S197_63, S197_64, S197_67, S197_68, S197_69, S197_72, S197_73, S197_74, S197_77, S197_79, S197_80, S197_81, S197_83, Option.bind_some, Option.map_some, xpush_s, xpush_n, xcat_0, xcat_i, xcat_r, xcat_l, xcat_n, xcat_e, xir_r, Nat.reduceAdd, Nat.reduceLeDiff, Nat.zero_le, Nat.le_refl, ↓reduceIte, Dg, Dr, ix_6, if_true, if_false]
  · refine comb0 (v := -1000000001) R ?_ ?_
    · rw [E109]
      simp only [S109_0, S109_1, S109_48, S109_49, S109_52, S109_55, S109_56, S109_57, S109_60, S109_63, S109_64, S109_65, S109_68, S109_71, S109_72, S109_73, S109_76, S109_79, S109_80, S109_81, S109_84, S109_87, S109_88, S109_89, S109_92, S109_93, S109_94, S109_97, S109_100, S109_101, S109_102, S109_105, S109_108, S109_109, S109_111, Option.bind_some, Option.map_some, xpush_s, xpush_n, xcat_0, xcat_i, xcat_r, xcat_l, xcat_n, xcat_e, xir_r, Nat.reduceAdd, Nat.reduceLeDiff, Nat.zero_le, Nat.le_refl, ↓reduceIte, show ¬ x = 0 from fun q => c1 ⟨0, by decide, q⟩, show ¬ x = 1 from fun q => c1 ⟨1, by decide, q⟩, show ¬ x = 2 from fun q => c1 ⟨2, by decide, q⟩, show ¬ x = 3 from fun q => c1 ⟨3, by decide, q⟩, show ¬ x = 4 from fun q => c1 ⟨4, by decide, q⟩, show ¬ x = 5 from fun q => c1 ⟨5, by decide, q⟩, show ¬ x = 6 from fun q => c1 ⟨6, by decide, q⟩, show ¬ x = 7 from fun q => c1 ⟨7, by decide, q⟩]
    · rw [hmd, E197]
      simp only [S197_0, S197_1, S197_48, S197_49, S197_52, S197_53, S197_54, S197_55, S197_56, S197_59, S197_61, S197_62, S197_63, S197_64, S197_67, S197_68, S197_69, S197_72, S197_73, S197_74, S197_77, S197_79, S197_80, S197_81, S197_83, Option.bind_some, Option.map_some, xpush_s, xpush_n, xcat_0, xcat_i, xcat_r, xcat_l, xcat_n, xcat_e, xir_r, Nat.reduceAdd, Nat.reduceLeDiff, Nat.zero_le, Nat.le_refl, ↓reduceIte, show ¬ x = 0 from fun q => c1 ⟨0, by decide, q⟩, show ¬ x = 1 from fun q => c1 ⟨1, by decide, q⟩, show ¬ x = 2 from fun q => c1 ⟨2, by decide, q⟩, show ¬ x = 3 from fun q => c1 ⟨3, by decide, q⟩, show ¬ x = 4 from fun q => c1 ⟨4, by decide, q⟩, show ¬ x = 5 from fun q => c1 ⟨5, by decide, q⟩, show ¬ x = 6 from fun q => c1 ⟨6, by decide, q⟩, show ¬ x = 7 from fun q => c1 ⟨7, by decide, q⟩]

