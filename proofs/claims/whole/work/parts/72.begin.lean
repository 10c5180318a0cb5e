/-! part 72: the start -/
def aM : Nat → Nat → Int32 := fun j => if j = 1 then d0 else a1 j
def sZ0 : Nat → Int32 := fun _ => 0
def zX (M : Nat) (E : Nat → xc) : xh := (84, M, fun _ => xnil, E)
def hS (M : Nat) (E : Nat → xc) : xh := cG d0 t0 d0 t0 d0 t0 (fun _ _ => 0) 0 (0, 0, 0, false) (-1) 0 0 (fun _ => 0) (fun _ => 0) b0 (mh aM sZ0 0 (zX M E))
theorem st_low {M : Nat} {E : Nat → xc} {q : Nat} (h : q < 58) : T0 q = (hS M E).2.2.1 q := by
  unfold T0 hS
  refine cG_cong ?_ rfl
  unfold mh
  dsimp only
  rw [if_neg (by omega), if_neg (by omega)]
  rfl
theorem st_mid {M : Nat} {E : Nat → xc} {q : Nat} (h1 : 58 ≤ q) (h2 : q < 84) : (hS M E).2.2.1 q = (mh aM sZ0 0 (zX M E)).2.2.1 q := by
  unfold hS cG ov rh tpk tp bh
  dsimp only
  rw [if_neg (by omega), if_neg (by omega), if_neg (by omega), if_neg (by omega), if_neg (by omega), if_neg (by omega), if_neg (by omega), if_neg (by omega)]
theorem st_high {M : Nat} {E : Nat → xc} {q : Nat} (h1 : 84 ≤ q) : (hS M E).2.2.1 q = xnil := by
  unfold hS
  by_cases h : q % 3 = 2
  · rw [cG_h2 h1 h]
    rfl
  · rw [cG_h1 h1 h]
    rfl
theorem st_heap {M : Nat} {E F FF : Nat → xc} (S : St 58 (bF0 b0) 4 5 F) (e58 : FF 58 = .inr (.inr (6, moF (fun _ => 0) 0))) (eM : ∀ q, 58 < q → q < 84 → FF q = .inl (mkd (q - 58), mln (q - 58), if q = 59 then d0 else a1 (q - 58))) (eN : ∀ q, 84 ≤ q → FF q = xnil) (eL : ∀ q, q < 58 → FF q = F q) : hq' 84 M FF E = hS M E := by
  obtain ⟨s0, s32, s33, sT, sN⟩ := S
  refine xh_ext rfl rfl (fun q => ?_) rfl
  show FF q = _
  by_cases h1 : q < 58
  · rw [eL q h1, ← st_low h1]
    by_cases h0 : q = 0
    · subst h0
      rw [s0, T_bq (by omega)]
      rfl
    · by_cases h32 : q = 32
      · subst h32
        rw [s32 (by omega), T_bq (by omega)]
        rfl
      · by_cases h33 : q = 33
        · subst h33
          rw [s33 (by omega), T_bq (by omega)]
          rfl
        · exact sT q (by omega) h1 h32 h33
  · by_cases h2 : q < 84
    · rw [st_mid (by omega) h2]
      unfold mh
      dsimp only
      by_cases h58 : q = 58
      · subst h58
        rw [e58, if_pos rfl]
        rfl
      · rw [eM q (by omega) h2, if_neg h58, if_pos (show 58 < q ∧ q < 84 by omega)]
        unfold aM
        by_cases h59 : q = 59
        · subst h59
          rfl
        · rw [if_neg h59, if_neg (show ¬ q - 58 = 1 by omega)]
    · rw [eN q (by omega), st_high (by omega)]
theorem bd_0 (n : Nat) : bd 0 n := ⟨0, Nat.zero_le _, rfl⟩
theorem wf_d0 : wf d0 := by
  intro k b hb
  by_cases h2 : k = 2
  · subst h2
    have e : b = 99 := (Option.some.inj hb).symm
    subst e
    exact ⟨10, by decide, rfl⟩
  · by_cases h6 : k = 6
    · subst h6
      exact nomatch (show (none : Option Nat) = some b from hb)
    · by_cases h8 : 8 ≤ k ∧ k < 20
      · have e : bnd k = some 99 := by
          unfold bnd
          rw [if_neg (by omega), if_neg (by omega), if_neg (by omega), if_neg (by omega), if_neg (by omega), if_neg (by omega), if_neg (by omega), if_neg (by omega), if_pos (by omega)]
        rw [e] at hb
        have e : b = 99 := (Option.some.inj hb).symm
        subst e
        refine ⟨20, by decide, ?_⟩
        unfold d0
        rw [if_neg h2, if_neg h6, if_pos h8]
        rfl
      · have e : d0 k = 0 := by
          unfold d0
          rw [if_neg h2, if_neg h6, if_neg h8]
        rw [e]
        exact bd_0 b
theorem aM_z {j : Nat} (h1 : j ≠ 1) (h2 : j ≠ 12) : aM j = fun _ => 0 := by
  unfold aM a1
  rw [if_neg h1, if_neg h2]
theorem aM_12 {i : Nat} (h : i < 4) : aM 12 i = -1 := by
  have hc : i = 0 ∨ i = 1 ∨ i = 2 ∨ i = 3 := by omega
  rcases hc with e | e | e | e <;> subst e <;> rfl
theorem st_txt (X : xh) (a : Nat → Nat → Int32) : TXT X a t0 0 := by
  refine ⟨⟨fun i p _ h => (nomatch (show (none : Option Nat) = some p from h)), fun i p _ h => (nomatch (show (none : Option Nat) = some p from h))⟩, fun t ht => absurd ht (by omega), fun key hk => ?_⟩
  refine ⟨?_, rfl⟩
  have hc : key = 0 ∨ key = 1 ∨ key = 2 := by omega
  rcases hc with e | e | e <;> subst e <;> rfl
theorem st_rel {M L : Nat} {xs : Nat → Int32} (hM : M ≤ 20000) : Rel 0 d0 t0 d0 t0 0 (fun _ => 0) b0 aM sZ0 (zX M (x_ext L xs)) := by
  refine ⟨wf_d0, bd_0 _, rfl, st_txt _ _, ⟨rfl, Or.inl rfl⟩, ⟨rfl, by decide, ?_⟩, ?_, ?_, ⟨rfl, bd_0 _, ?_⟩, ?_, ?_, ?_, ⟨⟨L, xs, rfl⟩, show 84 % 3 = 0 by decide, Nat.le_refl _, Nat.le_refl _, hM, fun _ _ => rfl⟩⟩
  · rw [aM_z (by decide) (by decide)]
  · intro i hi
    rw [aM_12 hi, aM_z (j := 13) (by decide) (by decide)]
    refine ⟨?_, ?_, Or.inl rfl, bd_0 _, fun h => absurd rfl h⟩
    · unfold b0
      rw [if_pos ⟨by omega, rfl⟩]
    · unfold b0
      rw [if_neg (by omega)]
  · intro i hi
    have hb : b0 (43 + 3 * i) = fun _ => 0 := b0_z (by omega)
    rw [aM_z (j := 19) (by decide) (by decide), hb]
    exact ⟨rfl, bd_0 _, fun h => absurd h (show ¬ (0 : Int32) = 1 by decide), fun h => absurd h (show ¬ (0 : Int32) = 2 by decide), fun h => absurd h (show ¬ (0 : Int32) = 3 by decide)⟩
  · rw [aM_z (by decide) (by decide), b0_z (by omega)]
  · rw [aM_z (by decide) (by decide)]
    exact fun _ _ => rfl
  · rw [aM_z (by decide) (by decide)]
    exact fun _ _ => rfl
  · rw [aM_z (by decide) (by decide)]
    exact fun _ _ => rfl
theorem l_start (L : Nat) (xs : Nat → Int32) : ∃ h, INV 0 h ∧ h.2.2.2 = x_ext L xs ∧ RF 198 (Ev 1000) 0 [some (.retAddr 0), none, none, none] [] (x_h0 L xs) = RF 198 (Ev 1000) 18 [some (.retAddr 0), some (.ref 0), some (.ref 58), some (.int (nI 0))] [] h := by
  have S0 : St 1 xdv5 0 0 (va_up (fun _ => xnil) 0 (.inr (.inr (5, xdv5)))) := by
    refine ⟨vu_s _ _ _, fun z => absurd z (by omega), fun z => absurd z (by omega), fun q q1 q2 => absurd q2 (by omega), fun q q1 => ?_⟩
    rw [vu_n _ _ (by omega)]
  obtain ⟨G, N, e1, S1, hN⟩ := p_end (m := 10) (E := x_ext L xs) 997 S0
  have e1 : Ev 1000 55 [.ref 0] (hq' 1 10 (va_up (fun _ => xnil) 0 (.inr (.inr (5, xdv5)))) (x_ext L xs)) = some (none, hq' 58 N G (x_ext L xs)) := e1
  have S2 : SM 59 xdv6 (va_up G 58 (.inr (.inr (6, xdv6)))) G := by
    refine ⟨vu_s _ _ _, fun q q1 q2 => absurd q2 (by omega), fun q q1 => ?_, fun q q1 => ?_⟩
    · rw [vu_n _ _ (by omega)]
      exact S1.2.2.2.2 q (by omega)
    · rw [vu_n _ _ (by omega)]
  obtain ⟨K, M, e2, k1, k2, k3, k4, hM⟩ := m_end (m := N + 39) (E := x_ext L xs) 999 S2
  have e2 : Ev 1000 110 [.ref 58] (hq' 59 (N + 39) (va_up G 58 (.inr (.inr (6, xdv6)))) (x_ext L xs)) = some (none, hq' 84 M K (x_ext L xs)) := e2
  have eh : hq' 84 M K (x_ext L xs) = hS M (x_ext L xs) := st_heap S1 k1 k2 k3 k4
  refine ⟨hS M (x_ext L xs), ⟨d0, t0, d0, t0, d0, t0, fun _ _ => 0, 0, (0, 0, 0, false), -1, 0, 0, fun _ => 0, fun _ => 0, b0, aM, sZ0, 0, zX M (x_ext L xs), rfl, st_rel (by omega)⟩, rfl, ?_⟩
  rw [eh] at e2
  have er : RF 198 (Ev 1000) 0 [some (.retAddr 0), none, none, none] [] (hq' 0 0 (fun _ => xnil) (x_ext L xs)) = RF 198 (Ev 1000) 18 [some (.retAddr 0), some (.ref 0), some (.ref 58), some (.int 0)] [] (hS M (x_ext L xs)) := by
    simp only [S198_0, S198_3, S198_4, S198_7, S198_8, S198_11, S198_12, S198_15, S198_16, S198_17, Option.bind_some, Option.map_some, xpush_s, xpush_n, xcat_0, xcat_i, xcat_r, xcat_l, xcat_n, xcat_e, xir_r, Nat.reduceAdd, Nat.reduceLeDiff, Nat.zero_le, Nat.le_refl, ↓reduceIte, hq_new, hq_1, e1, e2, cat_r]
  exact er
