/-! part 68: the call text -/
section RELT
variable {m : Nat} {δ : Nat → Int32} {τ1 : xt} {ε : Nat → Int32} {τ2 : xt} {n : Nat} {B : Nat → Int32} {b a : Nat → Nat → Int32} {s : Nat → Int32} {X : xh}
theorem relT {δ' : Nat → Int32} {τ1' : xt} {a' : Nat → Nat → Int32} {s' : Nat → Int32} {X' : xh} (R : Rel m δ τ1 ε τ2 n B b a s X) (hw : wf δ') (hm : bd (δ' 1) 9999) (h1 : a' 1 = δ') (hT : TXT X' a' τ1' (nn (δ' 7))) (h7 : nn (δ 7) ≤ nn (δ' 7)) (hK : ∀ τ N, N ≤ nn (δ 7) → TXT X a τ N → TXT X' a' τ N) (hj : ∀ j, j ≠ 1 ∧ (j < 5 ∨ 8 < j) ∧ j ≠ 11 → a' j = a j) (h4 : s' 4 = s 4) (h38 : s' 38 = s 38) (h11 : s' 11 = 0) (hX : RX (m + 1) X') : Rel (m + 1) δ' τ1' ε τ2 0 B b a' s' X' := by
  obtain ⟨r1, r2, r3, r4, r5, r6, r7, r8, r9, r10, r11, r12, r13⟩ := R
  refine ⟨hw, hm, h1, hT, ⟨by rw [h4]; exact r5.1, ?_⟩, ⟨h11, Nat.zero_le _, by rw [hj 10 (by decide)]; exact r6.2.2⟩, RS_e (hj _ (by decide)) (hj _ (by decide)) (hj _ (by decide)) (hj _ (by decide)) (fun _ _ _ => rfl) r7, RL_e (hj _ (by decide)) (hj _ (by decide)) (hj _ (by decide)) (hj _ (by decide)) (hj _ (by decide)) (hj _ (by decide)) (fun _ _ _ => rfl) r8, ⟨by rw [h38]; exact r9.1, by rw [h38]; exact r9.2.1, by rw [hj 25 (by decide)]; exact r9.2.2⟩, by rw [hj 2 (by decide)]; exact r10, by rw [hj 3 (by decide)]; exact r11, by rw [hj 4 (by decide)]; exact r12, hX⟩
  rw [h4, hj 2 (by decide)]
  rcases r5.2 with q | ⟨q1, q2, q3, q4, q5, q6⟩
  · exact Or.inl q
  · exact Or.inr ⟨q1, q2, q3, q4, by omega, hK _ _ q5 q6⟩
end RELT
theorem RX_g {m : Nat} {X : xh} {key : Nat} {P : List Nat} {S : Nat → Int32} (h : RX m X) (hl : P.length < 96) : RX (m + 1) (gT X key P S) := by
  obtain ⟨h1, h2, h3, h4, h5, h6⟩ := h
  have hc := cnt_l P
  refine ⟨h1, ?_, ?_, ?_, ?_, fun q hq => ?_⟩
  · show (X.1 + 3) % 3 = 0; omega
  · show 84 ≤ X.1 + 3; omega
  · show X.1 + 3 ≤ 84 + 3 * (m + 1); omega
  · show X.2.1 + (4 + P.length + max 1 (cnt P)) ≤ 20000 + 300 * (m + 1); omega
  · have hq' : X.1 + 3 ≤ q := hq
    show (gX X _ _ _ _).2.2.1 q = _
    rw [gX_o (by omega) (by omega) (by omega)]
    exact h6 q (by omega)
theorem k_text : CL 92 169 [] := by
  intro d m h hI
  obtain ⟨δ, τ1, ε, τ2, ζ, τ3, κ, n, l, ke, op, sz, B, S, b, a, s, w, X, rfl, R⟩ := hI
  have hw := R.1
  have hmo := R.2.1
  have ha1 := R.2.2.1
  have hmd := fun Z => md_of (s := s) (w := w) (Z := Z) ha1
  have n1 : ¬ (1 : Int32) = 0 := by decide
  obtain ⟨t1, t2, t3⟩ := R.2.2.2.2.2.1
  obtain ⟨x1, x2, x3, x4, x5, x6⟩ := id R.2.2.2.2.2.2.2.2.2.2.2.2
  have e7 := bd_e hw.texts (by decide)
  have hok := rdT_ok (B := B) t2
  have n0 : ¬ (0 : Int32) = 1 := by decide
  cases hr : rdT B n with
  | inl f =>
    rw [hr] at hok
    have hok : f ≤ 96 := hok
    obtain ⟨l', ke', op', sz', S', h1⟩ := c_textS (δ := δ) (τ1 := τ1) (ε := ε) (τ2 := τ2) (ζ := ζ) (τ3 := τ3) (κ := κ) (n := n) (l := l) (ke := ke) (op := op) (sz := sz) (B := B) (S := S) (b := b) (a := a) (s := s) (w := w) (X := X) d x1 t2 hok hr
    have h2 := p_text (a := a) (s := s) (w := w) (H := cG δ τ1 ε τ2 ζ τ3 κ 0 l' ke' op' sz' B S' b X) (k := n) (d + 99) t2 t1
    rw [← t3, hr] at h2
    obtain ⟨C', pa, to, co, wo, ke2, op2, nt, bw, w', h2⟩ := h2
    refine combN (-100 - nI f) (n' := 0) (l' := l') (ke' := ke') (op' := op') (sz' := sz') (B' := B) (S' := S') (b' := b) (a' := va_up a 11 C') (s' := ms (upd s 11 0) pa (nI f) to co wo ke2 op2 nt 1 bw) (w' := w') h1 ?_ (relN R (vu_n _ _ (by decide)) (vu_n _ _ (by decide)) (vu_n _ _ (by decide)) (vu_n _ _ (by decide)) (vu_n _ _ (by decide)) (vu_n _ _ (by decide)) (vu_n _ _ (by decide)) (vu_n _ _ (by decide)) rfl (up_n s 0 (show 4 ≠ 11 by decide)) ⟨up_s s 11 0, Nat.zero_le _, by rw [vu_n _ _ (by decide)]; exact t3⟩ (RS_e (vu_n _ _ (by decide)) (vu_n _ _ (by decide)) (vu_n _ _ (by decide)) (vu_n _ _ (by decide)) (fun _ _ _ => rfl) R.2.2.2.2.2.2.1) (RL_e (vu_n _ _ (by decide)) (vu_n _ _ (by decide)) (vu_n _ _ (by decide)) (vu_n _ _ (by decide)) (vu_n _ _ (by decide)) (vu_n _ _ (by decide)) (fun _ _ _ => rfl) R.2.2.2.2.2.2.2.1) ⟨R.2.2.2.2.2.2.2.2.1.1.trans (up_n s 0 (show 38 ≠ 11 by decide)).symm, (show bd (upd s 11 0 38) 60 by rw [up_n _ _ (by decide)]; exact R.2.2.2.2.2.2.2.2.1.2.1), by rw [vu_n _ _ (by decide)]; exact R.2.2.2.2.2.2.2.2.1.2.2⟩)
    rw [E169]
    refine h2.trans ?_
    simp only [S169_161, S169_162, S169_165, S169_168, S169_170, S169_171, S169_174, S169_175, Option.bind_some, Option.map_some, xpush_s, xpush_n, xcat_0, xcat_i, xcat_r, xcat_l, xcat_n, xcat_e, xir_r, Nat.reduceAdd, Nat.reduceLeDiff, Nat.zero_le, Nat.le_refl, ↓reduceIte, Pg_21, Pg_13, n1]
    rfl
  | inr q =>
    rw [hr] at hok
    obtain ⟨k1, k2, k3, k4⟩ := hok
    obtain ⟨l', S', hS, hF, hT⟩ := c_textT (δ := δ) (τ1 := τ1) (ε := ε) (τ2 := τ2) (ζ := ζ) (τ3 := τ3) (κ := κ) (n := n) (l := l) (ke := ke) (op := op) (sz := sz) (B := B) (S := S) (b := b) (a := a) (s := s) (w := w) (X := X) d x1 t2 x3 x2 hr
    by_cases hfull : nn (δ 7) = 14
    · have h7 : δ 7 = nI 14 := by rw [e7.1, hfull]
      have h1 := hF h7
      have h2 := p_text (a := a) (s := s) (w := w) (H := cG δ τ1 ε τ2 ζ τ3 (va_up κ (X.1 + 2) (fun _ => 0)) 0 l' (nI q.1) (nI (cnt q.2)) (nI q.2.length) B S' b (gT X q.1 q.2 S')) (k := n) (d + 99) t2 t1
      rw [← t3, hr] at h2
      obtain ⟨C', pa, be, to, op2, nt, bw, w', hC, h2⟩ := h2
      refine ⟨-1000000003, cG δ τ1 ε τ2 ζ τ3 (va_up κ (X.1 + 2) (fun _ => 0)) 0 l' (nI q.1) (nI (cnt q.2)) (nI q.2.length) B S' b (mh a s w (gT X q.1 q.2 S')), mh (va_up a 11 C') (ms (upd s 11 0) pa be to (nI q.2.length) (nI (cnt q.2)) (nI q.1) op2 nt 0 bw) w' (cG δ τ1 ε τ2 ζ τ3 (va_up κ (X.1 + 2) (fun _ => 0)) 0 l' (nI q.1) (nI (cnt q.2)) (nI q.2.length) B S' b (gT X q.1 q.2 S')), h1, ?_, INV_i (relT R hw hmo (by rw [vu_n _ _ (by decide)]; exact ha1) (TXT_g x2 x6 (Nat.le_refl _) (fun _ _ => by rw [vu_n _ _ (by decide)]) (fun _ _ => by rw [vu_n _ _ (by decide)]) (fun _ _ => by rw [vu_n _ _ (by decide)]) (fun _ _ => by rw [vu_n _ _ (by decide)]) R.2.2.2.1) (Nat.le_refl _) (fun τ N hN hh => TXT_g x2 x6 (Nat.le_refl _) (fun _ _ => by rw [vu_n _ _ (by decide)]) (fun _ _ => by rw [vu_n _ _ (by decide)]) (fun _ _ => by rw [vu_n _ _ (by decide)]) (fun _ _ => by rw [vu_n _ _ (by decide)]) hh) (fun j h => vu_n _ _ h.2.2) (up_n s 0 (show 4 ≠ 11 by decide)) (up_n s 0 (show 38 ≠ 11 by decide)) (up_s s 11 0) (RX_g R.2.2.2.2.2.2.2.2.2.2.2.2 k2)), rfl, rfl, rfl⟩
      rw [cG_mh, E169]
      refine h2.trans ?_
      have hx7 := xix_n (show 7 < 60 by decide) (show 60 ≤ 100000 by decide)
      rw [show nI 7 = 7 from rfl] at hx7
      simp only [S169_161, S169_162, S169_165, Option.bind_some, Option.map_some, xpush_s, xpush_n, xcat_0, xcat_i, xcat_r, xcat_l, xcat_n, xcat_e, xir_r, Nat.reduceAdd, Nat.reduceLeDiff, Nat.zero_le, Nat.le_refl, ↓reduceIte, Pg_21]
      unfold pm
      simp only [S169_176, S169_177, S169_180, S169_182, S169_183, S169_185, S169_188, S169_190, Option.bind_some, Option.map_some, xpush_s, xpush_n, xcat_0, xcat_i, xcat_r, xcat_l, xcat_n, xcat_e, xir_r, Nat.reduceAdd, Nat.reduceLeDiff, Nat.zero_le, Nat.le_refl, ↓reduceIte, Mg_0, Mr_1, hx7, vu_n _ _ (show 1 ≠ 11 by decide), ha1, h7, show (nI 14 = 14) = True from eq_true rfl]
    · have ht : nn (δ 7) < 14 := by omega
      have h1 := hT (nn (δ 7)) ht e7.1
      have h2 := p_text (a := a) (s := s) (w := w) (H := cG (upd δ 7 (nI (nn (δ 7) + 1))) (mkt (va_up τ1.1 (nn (δ 7)) (some X.1)) (upd τ1.2.1 q.1 (nI (nn (δ 7)))) (va_up τ1.2.2 q.1 (some X.1))) ε τ2 ζ τ3 (va_up κ (X.1 + 2) (fun _ => 0)) 0 l' (nI q.1) (nI (cnt q.2)) (nI q.2.length) B S' b (gT X q.1 q.2 S')) (k := n) (d + 99) t2 t1
      rw [← t3, hr] at h2
      obtain ⟨C', pa, be, to, op2, nt, bw, w', hC, h2⟩ := h2
      generalize hgt : nn (δ 7) = t at *
      have hne : ¬ nI t = 14 := fun z => absurd ((nI_eq (b := 14) (by omega) (by decide)).mp z) (by omega)
      have hwd : wf (upd δ 7 (nI (t + 1))) := wf_upd hw (okk_of rfl ⟨t + 1, by omega, rfl⟩)
      have hnn : nn (upd δ 7 (nI (t + 1)) 7) = t + 1 := by rw [up_s, nn_nI (by omega)]
      have hx7 := xix_n (show 7 < 60 by decide) (show 60 ≤ 100000 by decide)
      rw [show nI 7 = 7 from rfl] at hx7
      have hxt := xix_n ht (show 14 ≤ 100000 by decide)
      have hl := fun Z => m_txl (Ev (d + 199)) (A := va_up (va_up (va_up (va_up a 11 C') 6 (upd (a 6) t (nI q.1))) 7 (upd (a 7) t (nI q.2.length))) 8 (upd (a 8) t (nI (cnt q.2)))) (S := ms (upd s 11 0) pa be to (nI q.2.length) (nI (cnt q.2)) (nI q.1) op2 nt 0 bw) (w := w') (H := Z) ht k2 rfl q.2.length 0 (by omega)
      rw [puX_0, vu_self, vu_n _ _ (show 11 ≠ 8 by decide), vu_n _ _ (show 11 ≠ 7 by decide), vu_n _ _ (show 11 ≠ 6 by decide), vu_s, vu_n _ _ (show 5 ≠ 8 by decide), vu_n _ _ (show 5 ≠ 7 by decide), vu_n _ _ (show 5 ≠ 6 by decide), vu_n _ _ (show 5 ≠ 11 by decide)] at hl
      refine ⟨nI t, cG (upd δ 7 (nI (t + 1))) (mkt (va_up τ1.1 t (some X.1)) (upd τ1.2.1 q.1 (nI t)) (va_up τ1.2.2 q.1 (some X.1))) ε τ2 ζ τ3 (va_up κ (X.1 + 2) (fun _ => 0)) 0 l' (nI q.1) (nI (cnt q.2)) (nI q.2.length) B S' b (mh a s w (gT X q.1 q.2 S')), mh (va_up (va_up (va_up (va_up (va_up (va_up a 11 C') 6 (upd (a 6) t (nI q.1))) 7 (upd (a 7) t (nI q.2.length))) 8 (upd (a 8) t (nI (cnt q.2)))) 5 (puX C' (a 5) (96 * t) 0 q.2.length)) 1 (upd δ 7 (nI (t + 1)))) (ms (upd s 11 0) pa be to (nI q.2.length) (nI (cnt q.2)) (nI q.1) op2 nt 0 bw) w' (cG (upd δ 7 (nI (t + 1))) (mkt (va_up τ1.1 t (some X.1)) (upd τ1.2.1 q.1 (nI t)) (va_up τ1.2.2 q.1 (some X.1))) ε τ2 ζ τ3 (va_up κ (X.1 + 2) (fun _ => 0)) 0 l' (nI q.1) (nI (cnt q.2)) (nI q.2.length) B S' b (gT X q.1 q.2 S')), h1, ?_, ?_, rfl, rfl, rfl⟩
      · rw [cG_mh, E169]
        refine h2.trans ?_
        simp only [S169_161, S169_162, S169_165, Option.bind_some, Option.map_some, xpush_s, xpush_n, xcat_0, xcat_i, xcat_r, xcat_l, xcat_n, xcat_e, xir_r, Nat.reduceAdd, Nat.reduceLeDiff, Nat.zero_le, Nat.le_refl, ↓reduceIte, Pg_21]
        unfold pm
        simp only [S169_176, S169_177, S169_180, S169_182, S169_183, S169_185, S169_188, S169_190, S169_191, S169_192, S169_195, S169_197, S169_198, S169_199, S169_200, S169_203, S169_204, S169_205, S169_208, S169_209, S169_210, S169_213, S169_214, S169_215, S169_218, S169_219, S169_220, S169_223, S169_224, S169_225, S169_228, S169_229, S169_230, Option.bind_some, Option.map_some, xpush_s, xpush_n, xcat_0, xcat_i, xcat_r, xcat_l, xcat_n, xcat_e, xir_r, Nat.reduceAdd, Nat.reduceLeDiff, Nat.zero_le, Nat.le_refl, ↓reduceIte, Mg_0, Mr_1, hx7, vu_n _ _ (show 1 ≠ 11 by decide), ha1, e7.1, hne, Mg_6, Mg_7, Mg_8, Mg_16, Mg_17, Mg_18, show ∀ s' : Nat → Int32, ms s' pa be to (nI q.2.length) (nI (cnt q.2)) (nI q.1) op2 nt 0 bw 16 = nI q.2.length from fun _ => rfl, show ∀ s' : Nat → Int32, ms s' pa be to (nI q.2.length) (nI (cnt q.2)) (nI q.1) op2 nt 0 bw 17 = nI (cnt q.2) from fun _ => rfl, show ∀ s' : Nat → Int32, ms s' pa be to (nI q.2.length) (nI (cnt q.2)) (nI q.1) op2 nt 0 bw 18 = nI q.1 from fun _ => rfl, Mw_6, Mw_7, Mw_8, hxt, vu_n _ _ (show 6 ≠ 11 by decide), vu_n _ _ (show 7 ≠ 6 by decide), vu_n _ _ (show 7 ≠ 11 by decide), vu_n _ _ (show 8 ≠ 7 by decide), vu_n _ _ (show 8 ≠ 6 by decide), vu_n _ _ (show 8 ≠ 11 by decide)]
        refine (hl _).trans ?_
        simp only [S169_262, S169_263, S169_266, S169_268, S169_269, S169_270, S169_271, S169_272, S169_273, S169_274, Option.bind_some, Option.map_some, xpush_s, xpush_n, xcat_0, xcat_i, xcat_r, xcat_l, xcat_n, xcat_e, xir_r, Nat.reduceAdd, Nat.reduceLeDiff, Nat.zero_le, Nat.le_refl, ↓reduceIte, Mg_0, Mr_1, Mw_1, hx7, vu_n _ _ (show 1 ≠ 5 by decide), vu_n _ _ (show 1 ≠ 8 by decide), vu_n _ _ (show 1 ≠ 7 by decide), vu_n _ _ (show 1 ≠ 6 by decide), vu_n _ _ (show 1 ≠ 11 by decide), ha1, e7.1, nI_1, cat_r]
        exact if_pos ⟨trivial, rfl⟩
      · have gj : ∀ j, j ≠ 1 ∧ (j < 5 ∨ 8 < j) ∧ j ≠ 11 → va_up (va_up (va_up (va_up (va_up (va_up a 11 C') 6 (upd (a 6) t (nI q.1))) 7 (upd (a 7) t (nI q.2.length))) 8 (upd (a 8) t (nI (cnt q.2)))) 5 (puX C' (a 5) (96 * t) 0 q.2.length)) 1 (upd δ 7 (nI (t + 1))) j = a j := fun j h => by
          rw [vu_n _ _ h.1, vu_n _ _ (by omega), vu_n _ _ (by omega), vu_n _ _ (by omega), vu_n _ _ (by omega), vu_n _ _ h.2.2]
        have g5 : va_up (va_up (va_up (va_up (va_up (va_up a 11 C') 6 (upd (a 6) t (nI q.1))) 7 (upd (a 7) t (nI q.2.length))) 8 (upd (a 8) t (nI (cnt q.2)))) 5 (puX C' (a 5) (96 * t) 0 q.2.length)) 1 (upd δ 7 (nI (t + 1))) 5 = puX C' (a 5) (96 * t) 0 q.2.length := by rw [vu_n _ _ (by decide), vu_s]
        have g6 : va_up (va_up (va_up (va_up (va_up (va_up a 11 C') 6 (upd (a 6) t (nI q.1))) 7 (upd (a 7) t (nI q.2.length))) 8 (upd (a 8) t (nI (cnt q.2)))) 5 (puX C' (a 5) (96 * t) 0 q.2.length)) 1 (upd δ 7 (nI (t + 1))) 6 = upd (a 6) t (nI q.1) := by rw [vu_n _ _ (by decide), vu_n _ _ (by decide), vu_n _ _ (by decide), vu_n _ _ (by decide), vu_s]
        have g7 : va_up (va_up (va_up (va_up (va_up (va_up a 11 C') 6 (upd (a 6) t (nI q.1))) 7 (upd (a 7) t (nI q.2.length))) 8 (upd (a 8) t (nI (cnt q.2)))) 5 (puX C' (a 5) (96 * t) 0 q.2.length)) 1 (upd δ 7 (nI (t + 1))) 7 = upd (a 7) t (nI q.2.length) := by rw [vu_n _ _ (by decide), vu_n _ _ (by decide), vu_n _ _ (by decide), vu_s]
        have g8 : va_up (va_up (va_up (va_up (va_up (va_up a 11 C') 6 (upd (a 6) t (nI q.1))) 7 (upd (a 7) t (nI q.2.length))) 8 (upd (a 8) t (nI (cnt q.2)))) 5 (puX C' (a 5) (96 * t) 0 q.2.length)) 1 (upd δ 7 (nI (t + 1))) 8 = upd (a 8) t (nI (cnt q.2)) := by rw [vu_n _ _ (by decide), vu_n _ _ (by decide), vu_s]
        have f5 : ∀ e, e < 96 * t → puX C' (a 5) (96 * t) 0 q.2.length e = a 5 e := fun e he => if_neg (by omega)
        have hRT : TXT X a τ1 t := by have := R.2.2.2.1; rw [hgt] at this; exact this
        refine INV_i (relT R hwd (by rw [up_n _ _ (by decide)]; exact hmo) (vu_s _ _ _) ?_ (by rw [hnn, hgt]; omega) (fun τ N hN hh => TXT_g x2 x6 (t := t) (by omega) (fun e he => by rw [g5]; exact f5 e he) (fun e he => by rw [g6, up_n _ _ (by omega)]) (fun e he => by rw [g7, up_n _ _ (by omega)]) (fun e he => by rw [g8, up_n _ _ (by omega)]) hh) gj (up_n s 0 (show 4 ≠ 11 by decide)) (up_n s 0 (show 38 ≠ 11 by decide)) (up_s s 11 0) (RX_g R.2.2.2.2.2.2.2.2.2.2.2.2 k2))
        rw [hnn]
        exact TXT_new x3 x2 x6 ht k1 k2 k4 hS (fun e he => by rw [g5]; exact f5 e he) (fun e he => by rw [g6, up_n _ _ (by omega)]) (fun e he => by rw [g7, up_n _ _ (by omega)]) (fun e he => by rw [g8, up_n _ _ (by omega)]) (fun j hj => by
          rw [g5]
          show (if 96 * t ≤ 96 * t + j ∧ 96 * t + j < 96 * t + q.2.length then C' (0 + (96 * t + j - 96 * t)) else _) = _
          rw [if_pos (by omega), show 0 + (96 * t + j - 96 * t) = j by omega]
          exact hC j hj) (by rw [g6, up_s]) (by rw [g7, up_s]) (by rw [g8, up_s]) hRT
