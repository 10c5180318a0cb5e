/-! part 62: what rubbing changes -/
/-- alike but for the ink of strokes that let stand -/
def er (N : Nat) (δ δ' : Nat → Int32) : Prop := ∀ k, (∀ m, m < N → k = 20 + 4 * m + 1 → ¬ δ (20 + 4 * m) = 5) → δ k = δ' k
theorem er.o {N : Nat} {δ δ' : Nat → Int32} (h : er N δ δ') (k : Nat) (hk : k % 4 ≠ 1 ∨ k < 20) : δ k = δ' k := h k (fun m _ e => by omega)
theorem er_upd {N : Nat} {δ δ' : Nat → Int32} (h : er N δ δ') {k : Nat} {x x' : Int32} (hk : k % 4 ≠ 0 ∨ k < 20) (hv : (∀ m, m < N → k = 20 + 4 * m + 1 → ¬ δ (20 + 4 * m) = 5) → x = x') : er N (upd δ k x) (upd δ' k x') := by
  intro j hj
  have hj' : ∀ m, m < N → j = 20 + 4 * m + 1 → ¬ δ (20 + 4 * m) = 5 := fun m hm e => by
    have := hj m hm e
    rwa [up_n _ _ (by omega)] at this
  by_cases e : j = k
  · subst e
    rw [up_s, up_s]
    exact hv hj'
  · rw [up_n _ _ e, up_n _ _ e]
    exact h j hj'
theorem er_more {N : Nat} {δ δ' : Nat → Int32} (h : er N δ δ') {r : Nat} (hr : r < 12) (x : Int32) : er N (sMore δ r x) (sMore δ' r x) := by
  unfold sMore
  rw [← h.o 5 (by omega), ← h.o (8 + r) (by omega)]
  exact er_upd (er_upd h (by omega) (fun _ => rfl)) (by omega) (fun _ => rfl)
theorem er_run1 {N : Nat} {δ δ' : Nat → Int32} (h : er N δ δ') {r : Nat} (hr : r < 12) : er N (sRun1 δ r) (sRun1 δ' r) := by
  have h1 : er N (upd δ (8 + r) (δ (8 + r) - δ (8 + r) / 4)) (upd δ' (8 + r) (δ' (8 + r) - δ' (8 + r) / 4)) := by
    rw [← h.o (8 + r) (by omega)]
    exact er_upd h (by omega) (fun _ => rfl)
  by_cases e : r = 11
  · rw [show sRun1 δ r = upd (upd δ (8 + r) (δ (8 + r) - δ (8 + r) / 4)) 4 (hd (upd δ (8 + r) (δ (8 + r) - δ (8 + r) / 4) 4 + δ (8 + r) / 4) 0 99999) from if_pos e, show sRun1 δ' r = upd (upd δ' (8 + r) (δ' (8 + r) - δ' (8 + r) / 4)) 4 (hd (upd δ' (8 + r) (δ' (8 + r) - δ' (8 + r) / 4) 4 + δ' (8 + r) / 4) 0 99999) from if_pos e]
    refine er_upd h1 (by omega) (fun _ => ?_)
    rw [h1.o 4 (by omega), h.o (8 + r) (by omega)]
  · rw [show sRun1 δ r = sMore (upd δ (8 + r) (δ (8 + r) - δ (8 + r) / 4)) (r + 1) (δ (8 + r) / 4) from if_neg e, show sRun1 δ' r = sMore (upd δ' (8 + r) (δ' (8 + r) - δ' (8 + r) / 4)) (r + 1) (δ' (8 + r) / 4) from if_neg e]
    have := er_more h1 (show r + 1 < 12 by omega) (δ (8 + r) / 4)
    rw [h.o (8 + r) (by omega)] at this ⊢
    exact this
theorem er_runK {N : Nat} : ∀ k, k ≤ 12 → ∀ δ δ' : Nat → Int32, er N δ δ' → er N (sRunK k δ) (sRunK k δ')
  | 0, _, _, _, h => h
  | k + 1, hk, δ, δ', h => er_runK k (by omega) _ _ (er_run1 h (by omega))
theorem er_let {N : Nat} {δ δ' : Nat → Int32} (h : er N δ δ') (r : Int32) : ∀ n, sLetB δ r n = sLetB δ' r n
  | 0 => rfl
  | n + 1 => by
    unfold sLetB
    rw [er_let h r n, h.o (20 + 4 * n + 2) (by omega), h.o (20 + 4 * n) (by omega)]
theorem er_at {N : Nat} {δ δ' : Nat → Int32} (h : er N δ δ') (r : Int32) (n : Nat) : sAt δ r n = sAt δ' r n := by
  unfold sAt
  rw [show (fun m => decide (δ (20 + 4 * m + 2) = r)) = (fun m => decide (δ' (20 + 4 * m + 2) = r)) from funext fun m => by rw [h.o (20 + 4 * m + 2) (by omega)]]
theorem er_adds {N : Nat} {δ δ' : Nat → Int32} (q : Option xq) (h : er N δ δ') (hw : wf δ) (h0 : nn (δ 0) = N) {m : Nat} (hm : m < N) : sAdds q δ m = sAdds q δ' m := by
  have hN := hw.eN.2
  have e0 := h.o 0 (by omega)
  have e2 := h.o (20 + 4 * m + 2) (by omega)
  have ek := h.o (20 + 4 * m) (by omega)
  have e3 := h.o (20 + 4 * m + 3) (by omega)
  have eR := hw.eR (show m < 10 by omega)
  have ew := h.o (8 + nn (δ (20 + 4 * m + 2))) (by omega)
  unfold sAdds
  rw [← e0, ← e2, ← er_let h, ← ek]
  by_cases hl : sLetB δ (δ (20 + 4 * m + 2)) (nn (δ 0)) = true
  · rw [if_pos hl, if_pos hl]
  · rw [if_neg hl, if_neg hl]
    have h5 : ¬ δ (20 + 4 * m) = 5 := fun e => hl (sLetB_own e _ (by omega))
    have ei : δ (20 + 4 * m + 1) = δ' (20 + 4 * m + 1) := h _ (fun m' _ e => by
      have : m' = m := by omega
      subst this
      exact h5)
    have ep : sPlain q δ m = sPlain q δ' m := by
      unfold sPlain
      rw [← ei, ← e2, ← e3, ← ew, ← e0, ← er_at h]
    rw [ep, ← ew]
theorem er_addF {N : Nat} (q : Option xq) : ∀ j m, m + j ≤ N → ∀ δ δ' : Nat → Int32, er N δ δ' → wf δ → nn (δ 0) = N → er N (sAddF q j m δ) (sAddF q j m δ')
  | 0, _, _, _, _, h, _, _ => h
  | j + 1, m, hm, δ, δ', h, hw, h0 => by
    have hN := hw.eN.2
    have eR := hw.eR (show m < 10 by omega)
    have hmw := mw_add1 q hw (show m < 10 by omega)
    refine er_addF q j (m + 1) (by omega) _ _ ?_ hmw.1 (by rw [hmw.2 0 fx0]; exact h0)
    unfold sAdd1
    rw [← er_adds q h hw h0 (by omega), ← h.o (20 + 4 * m + 2) (by omega)]
    exact er_more h (by omega) _
theorem er_fade1 {N : Nat} {δ δ' : Nat → Int32} (h : er N δ δ') {m : Nat} (hm : m < N) : er N (sFade1 δ m) (sFade1 δ' m) := by
  have h1 : er N (upd δ (20 + 4 * m + 1) (hd (δ (20 + 4 * m + 1) - sFades (δ (20 + 4 * m))) 0 99)) (upd δ' (20 + 4 * m + 1) (hd (δ' (20 + 4 * m + 1) - sFades (δ' (20 + 4 * m))) 0 99)) := by
    refine er_upd h (by omega) (fun hq => ?_)
    rw [h (20 + 4 * m + 1) hq, h.o (20 + 4 * m) (by omega)]
  exact er_upd h1 (by omega) (fun _ => by rw [h1.o (20 + 4 * m + 3) (by omega)])
theorem er_fadeF {N : Nat} : ∀ j m, m + j ≤ N → ∀ δ δ' : Nat → Int32, er N δ δ' → er N (sFadeF j m δ) (sFadeF j m δ')
  | 0, _, _, _, _, h => h
  | j + 1, m, hm, δ, δ', h => er_fadeF j (m + 1) (by omega) _ _ (er_fade1 h (by omega))
theorem er_draw {N : Nat} {δ δ' : Nat → Int32} (h : er N δ δ') : er N (sDraw δ) (sDraw δ') := by
  unfold sDraw
  rw [← h.o 6 (by omega)]
  exact er_upd h (by omega) (fun _ => rfl)
theorem sClk_t {δ : Nat → Int32} (hc : ¬ δ 3 ≤ nI (sDn (δ 6) % 100) ∧ 0 < nn (δ 0)) : sClerk δ = upd (sDraw (sDraw (sDraw δ))) (20 + 4 * (sDn (sDraw δ 6) % nn (δ 0)) + 2) (nI (sDn (sDraw (sDraw δ) 6) % 12)) := if_pos hc
theorem sClk_f {δ : Nat → Int32} (hc : ¬ (¬ δ 3 ≤ nI (sDn (δ 6) % 100) ∧ 0 < nn (δ 0))) : sClerk δ = sDraw δ := if_neg hc
theorem er_clerk {N : Nat} {δ δ' : Nat → Int32} (h : er N δ δ') : er N (sClerk δ) (sClerk δ') := by
  have h1 := er_draw h
  have h2 := er_draw h1
  have h3 := er_draw h2
  have e0 := h.o 0 (by omega)
  have e3 := h.o 3 (by omega)
  have e6 := h.o 6 (by omega)
  have e61 := h1.o 6 (by omega)
  have e62 := h2.o 6 (by omega)
  by_cases hc : ¬ δ 3 ≤ nI (sDn (δ 6) % 100) ∧ 0 < nn (δ 0)
  · have hc' : ¬ δ' 3 ≤ nI (sDn (δ' 6) % 100) ∧ 0 < nn (δ' 0) := by rw [← e0, ← e3, ← e6]; exact hc
    rw [sClk_t hc, sClk_t hc', ← e0, ← e61, ← e62]
    exact er_upd h3 (by omega) (fun _ => rfl)
  · have hc' : ¬ (¬ δ' 3 ≤ nI (sDn (δ' 6) % 100) ∧ 0 < nn (δ' 0)) := by rw [← e0, ← e3, ← e6]; exact hc
    rw [sClk_f hc, sClk_f hc']
    exact h1
theorem er_month {N : Nat} (q : Option xq) {δ δ' : Nat → Int32} (h : er N δ δ') (hw : wf δ) (h0 : nn (δ 0) = N) : er N (sMonth q δ) (sMonth q δ') := by
  have hN := hw.eN.2
  have e0 := h.o 0 (by omega)
  have e2 := h.o 2 (by omega)
  have m1 := mw_more hw (r := 0) (δ 2) (by decide)
  have h1 := er_more h (r := 0) (by decide) (δ 2)
  have h2 := er_addF q N 0 (by omega) _ _ h1 m1.1 (by rw [m1.2 0 fx0]; exact h0)
  have h3 := er_runK 12 (by decide) _ _ h2
  have h4 := er_fadeF N 0 (by omega) _ _ h3
  have h5 := er_clerk h4
  have h6 := er_upd h5 (k := 1) (by omega) (fun _ => by rw [h5.o 1 (by omega)] : _ → sClerk (sFadeF N 0 (sRunK 12 (sAddF q N 0 (sMore δ 0 (δ 2))))) 1 + 1 = sClerk (sFadeF N 0 (sRunK 12 (sAddF q N 0 (sMore δ' 0 (δ 2))))) 1 + 1)
  show er N (upd (sClerk (sFadeF (nn (δ 0)) 0 (sRunK 12 (sAddF q (nn (δ 0)) 0 (sMore δ 0 (δ 2)))))) 1 _) (upd (sClerk (sFadeF (nn (δ' 0)) 0 (sRunK 12 (sAddF q (nn (δ' 0)) 0 (sMore δ' 0 (δ' 2)))))) 1 _)
  rw [← e0, ← e2, h0]
  exact h6
theorem er_months {N : Nat} (q : Option xq) : ∀ k (δ δ' : Nat → Int32), er N δ δ' → wf δ → nn (δ 0) = N → er N (sMonths q k δ) (sMonths q k δ')
  | 0, _, _, h, _, _ => h
  | k + 1, _, _, h, hw, h0 => by
    have hmw := mw_month q hw
    exact er_months q k _ _ (er_month q h hw h0) hmw.1 (by rw [hmw.2 0 fx0]; exact h0)
theorem sSet_e {p p' : Nat → Bool} : ∀ k, (∀ i, i < k → p i = p' i) → sSet p k = sSet p' k
  | 0, _ => rfl
  | k + 1, h => by
    unfold sSet
    rw [sSet_e k (fun i hi => h i (by omega)), h k (by omega)]
theorem er_dry {N : Nat} {δ δ' : Nat → Int32} (h : er N δ δ') : sDry δ 12 = sDry δ' 12 := sSet_e 12 (fun i hi => by rw [h.o (8 + i) (by omega)])
theorem rub_o (S : Nat) {k : Nat} : ∀ j m (δ : Nat → Int32), (∀ i, m ≤ i → i < m + j → k = 20 + 4 * i + 1 → S.testBit i = false) → sRub S j m δ k = δ k
  | 0, _, _, _ => rfl
  | j + 1, m, δ, h => by
    unfold sRub
    rw [rub_o S j (m + 1) _ (fun i h1 h2 h3 => h i (by omega) (by omega) h3)]
    by_cases hb : S.testBit m = true
    · rw [if_pos hb]
      refine up_n _ _ (fun e => ?_)
      rw [h m (by omega) (by omega) e] at hb
      exact absurd hb (by decide)
    · rw [if_neg hb]
theorem rub_i (S : Nat) {i : Nat} (hi : S.testBit i = true) : ∀ j m (δ : Nat → Int32), m ≤ i → i < m + j → sRub S j m δ (20 + 4 * i + 1) = 0
  | 0, _, _, h1, h2 => absurd h2 (by omega)
  | j + 1, m, δ, h1, h2 => by
    unfold sRub
    by_cases e : m = i
    · subst e
      rw [if_pos hi, rub_o S j (m + 1) _ (fun i' q1 q2 q3 => by omega), up_s]
    · exact rub_i S hi j (m + 1) _ (by omega) (by omega)
theorem er_rub {δ : Nat → Int32} (hw : wf δ) (S : Nat) : er (nn (δ 0)) (sRub S (nn (δ 0)) 0 δ) (sRub (S &&& sMat δ (nn (δ 0))) (nn (δ 0)) 0 δ) := by
  have hN := hw.eN.2
  intro k hk
  by_cases h : ∃ i, i < nn (δ 0) ∧ k = 20 + 4 * i + 1
  · obtain ⟨i, hi, rfl⟩ := h
    have h5 := hk i hi rfl
    rw [rub_o S _ _ _ (fun i' _ _ e => by omega)] at h5
    have hb : (S &&& sMat δ (nn (δ 0))).testBit i = (S.testBit i && (decide (i < nn (δ 0)) && decide (¬ δ (20 + 4 * i + 1) ≤ 0 ∧ ¬ δ (20 + 4 * i) = 5))) := by
      rw [Nat.testBit_and]
      unfold sMat
      rw [nSet_bit]
    cases hS : S.testBit i with
    | false =>
      rw [rub_o S _ _ _ (fun i' _ _ e => by have : i' = i := by omega
                                            rw [this]; exact hS), rub_o _ _ _ _ (fun i' _ _ e => by have : i' = i := by omega
                                                                                                    rw [this, hb, hS]; rfl)]
    | true =>
      rw [rub_i S hS _ _ _ (by omega) (by omega)]
      by_cases hz : δ (20 + 4 * i + 1) ≤ 0
      · rw [rub_o _ _ _ _ (fun i' _ _ e => by
          have : i' = i := by omega
          rw [this, hb, show decide (¬ δ (20 + 4 * i + 1) ≤ 0 ∧ ¬ δ (20 + 4 * i) = 5) = false from decide_eq_false (fun q => q.1 hz), Bool.and_false, Bool.and_false])]
        obtain ⟨v, hv, ev⟩ := hw.ink i (by omega)
        rw [ev] at hz ⊢
        have : v ≤ 0 := (nI_leI (b := 0) (by omega) (by decide)).mp hz
        rw [show v = 0 by omega]
        rfl
      · rw [rub_i _ (by rw [hb, hS, show decide (i < nn (δ 0)) = true from decide_eq_true hi, show decide (¬ δ (20 + 4 * i + 1) ≤ 0 ∧ ¬ δ (20 + 4 * i) = 5) = true from decide_eq_true ⟨hz, h5⟩]; rfl) _ _ _ (by omega) (by omega)]
  · rw [rub_o S _ _ _ (fun i _ h2 e => absurd ⟨i, by omega, e⟩ h), rub_o _ _ _ _ (fun i _ h2 e => absurd ⟨i, by omega, e⟩ h)]
/-- with these rubbed out no reach is dry after k months -/
def sWet (q : Option xq) (k : Nat) (δ : Nat → Int32) (S : Nat) : Prop := sDry (sMonths q k (sRub S (nn (δ 0)) 0 δ)) 12 = 0
theorem wet_and {q : Option xq} {k : Nat} {δ : Nat → Int32} (hw : wf δ) (S : Nat) : sWet q k δ S ↔ sWet q k δ (S &&& sMat δ (nn (δ 0))) := by
  have hN := hw.eN.2
  have hmw := mw_rub S (nn (δ 0)) 0 (by omega) δ hw
  unfold sWet
  rw [er_dry (er_months q k _ _ (er_rub hw S) hmw.1 (by rw [hmw.2 0 fx0]))]
/-- how many -/
def pcK (j : Nat) : Nat → Nat
  | 0 => 0
  | k + 1 => pcK j k + (if j.testBit k then 1 else 0)
theorem ones_n : ∀ j, j < 1024 → sOnes (nI j) = nI (pcK j 10) := by decide +kernel
theorem pcK_le (S M : Nat) : ∀ k, pcK (S &&& M) k ≤ pcK S k
  | 0 => Nat.le_refl _
  | k + 1 => by
    have := pcK_le S M k
    unfold pcK
    rw [Nat.testBit_and]
    cases S.testBit k <;> cases M.testBit k <;> simp <;> omega
theorem pcK_10 (j : Nat) : ∀ k, pcK j k ≤ k
  | 0 => Nat.le_refl _
  | k + 1 => by
    have := pcK_10 j k
    unfold pcK
    split <;> omega
theorem pcK_eq (S M : Nat) : ∀ k, pcK (S &&& M) k = pcK S k → ∀ i, i < k → (S &&& M).testBit i = S.testBit i
  | 0, _, i, hi => absurd hi (by omega)
  | k + 1, h, i, hi => by
    have l := pcK_le S M k
    unfold pcK at h
    rw [Nat.testBit_and] at h
    have h1 : pcK (S &&& M) k = pcK S k := by
      revert h
      cases S.testBit k <;> cases M.testBit k <;> simp <;> omega
    by_cases e : i = k
    · subst e
      rw [Nat.testBit_and]
      rw [h1] at h
      revert h
      cases S.testBit i <;> cases M.testBit i <;> simp
    · exact pcK_eq S M k h1 i (by omega)
theorem and_self_of {S M : Nat} (hS : S < 1024) (h : pcK (S &&& M) 10 = pcK S 10) : S &&& M = S := by
  apply Nat.eq_of_testBit_eq
  intro i
  by_cases hi : i < 10
  · exact pcK_eq S M 10 h i hi
  · have h2 : S.testBit i = false := Nat.testBit_lt_two_pow (Nat.lt_of_lt_of_le hS (Nat.pow_le_pow_right (n := 2) (by decide) (by omega : 10 ≤ i)))
    rw [Nat.testBit_and, h2, Bool.false_and]
theorem sub_bits {S M : Nat} (hS : S < 1024) : (nI S &&& (nI M ^^^ (-1)) = 0) ↔ S &&& M = S := by
  rw [← Int32.toBitVec_inj, Int32.toBitVec_and, Int32.toBitVec_xor]
  show (BitVec.ofNat 32 S &&& (BitVec.ofNat 32 M ^^^ BitVec.allOnes 32) = BitVec.ofNat 32 0) ↔ _
  constructor
  · intro h
    apply Nat.eq_of_testBit_eq
    intro i
    by_cases hi : i < 32
    · have h' := congrArg (fun v => BitVec.getLsbD v i) h
      simp only [BitVec.getLsbD_and, BitVec.getLsbD_xor, BitVec.getLsbD_ofNat, BitVec.getLsbD_allOnes, hi, decide_true, Bool.true_and, Nat.zero_testBit] at h'
      rw [Nat.testBit_and]
      revert h'
      cases S.testBit i <;> cases M.testBit i <;> simp
    · have h2 : S.testBit i = false := Nat.testBit_lt_two_pow (Nat.lt_of_lt_of_le hS (Nat.pow_le_pow_right (n := 2) (by decide) (by omega : 10 ≤ i)))
      rw [Nat.testBit_and, h2, Bool.false_and]
  · intro h
    apply BitVec.eq_of_getLsbD_eq
    intro i hi
    have h' := congrArg (fun v => Nat.testBit v i) h
    simp only [Nat.testBit_and] at h'
    simp only [BitVec.getLsbD_and, BitVec.getLsbD_xor, BitVec.getLsbD_ofNat, BitVec.getLsbD_allOnes, hi, decide_true, Bool.true_and, Nat.zero_testBit]
    revert h'
    cases S.testBit i <;> cases M.testBit i <;> simp
/-- what rub finds: over the sets of a sort -/
def mstR (W C : Nat → Prop) (r : Nat) : Prop := C r ∧ W r ∧ ∀ S, C S → W S → (pcK r 10 < pcK S 10 ∨ (pcK r 10 = pcK S 10 ∧ r ≤ S))
theorem mst_e {W : Nat → Prop} {M P : Nat} (hM : M < P) (hP : P ≤ 1024) (hPM : ∀ S, S &&& M = S → S < P) (hW : ∀ S, W S ↔ W (S &&& M)) {r r' : Nat} (h : mstR W (fun S => S &&& M = S) r) (h' : mstR W (fun S => S < P) r') : r = r' := by
  obtain ⟨a1, a2, a3⟩ := h
  obtain ⟨b1, b2, b3⟩ := h'
  have a4 := a3 (r' &&& M) (by show r' &&& M &&& M = r' &&& M; rw [Nat.and_assoc, Nat.and_self]) ((hW r').mp b2)
  have b4 := b3 r (hPM r a1) a2
  have l := pcK_le r' M 10
  have e : r' &&& M = r' := and_self_of (by have : r' < P := b1; omega) (by omega)
  rw [e] at a4
  omega
