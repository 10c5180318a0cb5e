/-! part 26: the class's month, whole -/
def rAddsOf (kind plain water : Int32) : Int32 := if kind = 0 then -plain else if kind = 1 then -plain / 2 else if kind = 2 then -plain + 5 else if kind = 3 then -(-plain / 2) else if kind = 4 then -plain + 5 - water / 10 else 0
theorem r_addsOf (d : Nat) (x y z : Int32) (h : xh) : Ev (d + 1) 60 [.int x, .int y, .int z] h = some (some (.int (rAddsOf x y z)), h) := by
  rw [E60]
  have h2 : ¬ (2 : Int32) = 0 := by decide
  have h3 : ¬ (10 : Int32) = 0 := by decide
  unfold rAddsOf
  simp only [S60_0, S60_1, S60_2, S60_3, S60_4, S60_5, S60_6, S60_8, S60_9, S60_10, S60_11, S60_13, S60_14, S60_48, S60_49, S60_50, S60_52, S60_53, S60_55, S60_56, S60_57, S60_59, S60_60, S60_62, S60_63, S60_65, S60_66, S60_67, S60_68, S60_69, h2, h3, if_false]
  split
  · rfl
  · split
    · rfl
    · split
      · rfl
      · split
        · rfl
        · split <;> rfl
def rFades (kind : Int32) : Int32 := if kind = 0 then 1 else if kind = 1 then 2 else if kind = 2 then 0 else if kind = 3 then 4 else if kind = 4 then 3 else 0
theorem r_fadesOf (d : Nat) (x : Int32) (h : xh) : Ev (d + 1) 61 [.int x] h = some (some (.int (rFades x)), h) := by
  rw [E61]
  unfold rFades
  simp only [S61_0, S61_1, S61_36, S61_37, S61_38, S61_39, S61_40, S61_41, S61_42, S61_43, S61_44, S61_45]
  split
  · rfl
  · split
    · rfl
    · split
      · rfl
      · split
        · rfl
        · split <;> rfl
theorem fades_eq : ∀ x, x ≤ 5 → rFades (nI x) = sFades (nI x) := by decide +kernel
theorem addsOf_eq {x : Nat} (h : x < 5) (y z : Int32) : rAddsOf (nI x) y z = sAddsOf (nI x) y z := by
  unfold rAddsOf sAddsOf
  match x, h with
  | 0, _ => simp only [zsub]; rfl
  | 1, _ => simp only [zsub]; rfl
  | 2, _ => simp only [zsub]; rfl
  | 3, _ => simp only [zsub]; rfl
  | 4, _ => simp only [zsub]; rfl
section RMO2
variable {k : Nat} {δ : Nat → Int32} {τ : xt} {κ : Nat → Nat → Int32} {H : xh}
theorem sLetB_own {δ : Nat → Int32} {m : Nat} (h5 : δ (20 + 4 * m) = 5) : ∀ n, m < n → sLetB δ (δ (20 + 4 * m + 2)) n = true
  | 0, h => absurd h (by omega)
  | n + 1, h => by
    unfold sLetB
    by_cases e : n = m
    · subst e; simp [h5]
    · rw [sLetB_own h5 n (by omega), Bool.true_or]
theorem r_adds (d : Nat) (hk : k < 50) {q : Option xq} (hw : wf δ) (hq : QR H τ 0 q) {S : Nat} (hS : S < 2 ^ 12) {m : Nat} (hm : m < nn (δ 0)) (hb : S.testBit (nn (δ (20 + 4 * m + 2))) = sLetB δ (δ (20 + 4 * m + 2)) (nn (δ 0))) : ∃ κ', Ev (d + 3) 4 [.ref k, .int (nI m), .int (nI S)] (rv k δ τ κ H) = some (some (.int (sAdds q δ m)), rv k δ τ κ' H) := by
  have eN := hw.eN
  have hm10 : m < 10 := by omega
  have eR := hw.eR hm10
  have hr : nn (δ (20 + 4 * m + 2)) < 12 := by omega
  have hbt := bit_t (n := S) (r := nn (δ (20 + 4 * m + 2))) (by omega) (by omega)
  rw [hb, ← eR.1] at hbt
  have h10 : ¬ (10 : Int32) = 0 := by decide
  have h30 := fun v => wi_hd v (N := 30) (n := 30) rfl (by decide)
  have hRw := Rr_w (δ := δ) (τ := τ) (κ := κ) (H := H) hk hr
  rw [← eR.1] at hRw
  unfold sAdds
  by_cases hl : sLetB δ (δ (20 + 4 * m + 2)) (nn (δ 0)) = true
  · have hc := hbt.mpr hl
    refine ⟨κ, ?_⟩
    rw [if_pos hl, E4]
    simp only [S4_0, S4_1, S4_4, S4_5, S4_6, S4_7, S4_8, S4_9, S4_10, S4_11, S4_12, S4_13, S4_16, S4_17, S4_18, S4_19, S4_22, S4_23, S4_24, S4_26, S4_27, S4_30, S4_31, S4_32, S4_34, S4_35, S4_37, S4_39, S4_39n, S4_42, S4_44, S4_45, S4_48, S4_49, S4_50, S4_51, S4_54, S4_55, S4_56, S4_57, S4_60, S4_61, S4_62, S4_63, S4_64, S4_67, S4_70, S4_73, S4_75, S4_76, S4_79, S4_80, S4_81, S4_83, S4_84, S4_86, S4_89, S4_90, S4_93, S4_94, S4_95, S4_98, Option.bind_some, Option.map_some, xpush_s, xpush_n, xcat_0, xcat_i, xcat_r, xcat_l, xcat_n, xcat_e, xir_r, Nat.reduceAdd, Nat.reduceLeDiff, Nat.zero_le, Nat.le_refl, ↓reduceIte, Rg_4 hk, Rr_m2 hk hm10, hc]
  · have hc : ¬ _ := fun h => hl (hbt.mp h)
    obtain ⟨kd, hkd, ekd⟩ := hw.kind m hm10
    have hkd5 : kd < 5 := by
      rcases Nat.lt_or_ge kd 5 with h | h
      · exact h
      · have : kd = 5 := by omega
        subst this
        exact absurd (sLetB_own ekd _ hm) hl
    have hae := fun y z => addsOf_eq hkd5 y z
    rw [← ekd] at hae
    unfold QR at hq
    rw [if_neg hl]
    have h0 : (0 : Int32) = nI 0 := rfl
    have hq8 := Rq_8 (δ := δ) (τ := τ) (κ := κ) (H := H) hk (i := 0) (by decide)
    rw [← h0] at hq8
    cases hp : τ.2.2 0 with
    | none =>
      rw [hp] at hq hq8
      subst hq
      refine ⟨κ, ?_⟩
      rw [E4]
      simp only [S4_0, S4_1, S4_4, S4_5, S4_6, S4_7, S4_8, S4_9, S4_10, S4_11, S4_12, S4_13, S4_16, S4_17, S4_18, S4_19, S4_22, S4_23, S4_24, S4_26, S4_27, S4_30, S4_31, S4_32, S4_34, S4_35, S4_37, S4_39, S4_39n, S4_42, S4_44, S4_45, S4_48, S4_49, S4_50, S4_51, S4_54, S4_55, S4_56, S4_57, S4_60, S4_61, S4_62, S4_63, S4_64, S4_67, S4_70, S4_73, S4_75, S4_76, S4_79, S4_80, S4_81, S4_83, S4_84, S4_86, S4_89, S4_90, S4_93, S4_94, S4_95, S4_98, Option.bind_some, Option.map_some, xpush_s, xpush_n, xcat_0, xcat_i, xcat_r, xcat_l, xcat_n, xcat_e, xir_r, Nat.reduceAdd, Nat.reduceLeDiff, Nat.zero_le, Nat.le_refl, ↓reduceIte, Rg_4 hk, Rg_15 hk, Rg_3 hk, Rg_2 hk, Rg_0 hk, Rr_m2 hk hm10, Rr_m1 hk hm10, Rr_m0 hk hm10, hRw, hc, hq8, va_rf, h10, xir_n, s_within, h30, r_addsOf, hae, sPlain]
    | some p =>
      rw [hp] at hq hq8
      obtain ⟨f, hf, hg⟩ := hq
      subst hf
      have hset : sAt δ (δ (20 + 4 * m + 2)) (nn (δ 0)) = nI (nSet (fun m' => decide (δ (20 + 4 * m' + 2) = δ (20 + 4 * m + 2))) (nn (δ 0))) := sSet_n _ _ (by omega)
      have hlt := nSet_lt (fun m' => decide (δ (20 + 4 * m' + 2) = δ (20 + 4 * m + 2))) (nn (δ 0))
      have hlt2 : nSet (fun m' => decide (δ (20 + 4 * m' + 2) = δ (20 + 4 * m + 2))) (nn (δ 0)) < 1024 := Nat.lt_of_lt_of_le hlt ((show 2 ^ nn (δ 0) ≤ 2 ^ 10 from Nat.pow_le_pow_right (by decide) eN.2))
      have hbc : bC (sAt δ (δ (20 + 4 * m + 2)) (nn (δ 0))) = sOnes (sAt δ (δ (20 + 4 * m + 2)) (nn (δ 0))) := by rw [hset]; exact bC_n _ hlt2
      obtain ⟨hcl, κ', hκ⟩ := hg d k δ τ κ (δ (20 + 4 * m + 1)) (δ (8 + nn (δ (20 + 4 * m + 2)))) (δ (20 + 4 * m + 3)) (sOnes (sAt δ (δ (20 + 4 * m + 2)) (nn (δ 0)))) hk
      have hcl' := eq_true hcl
      have hRw' := Rr_w (δ := δ) (τ := τ) (κ := κ') (H := H) hk hr
      rw [← eR.1] at hRw'
      refine ⟨κ', ?_⟩
      rw [E4]
      simp only [S4_0, S4_1, S4_4, S4_5, S4_6, S4_7, S4_8, S4_9, S4_10, S4_11, S4_12, S4_13, S4_16, S4_17, S4_18, S4_19, S4_22, S4_23, S4_24, S4_26, S4_27, S4_30, S4_31, S4_32, S4_34, S4_35, S4_37, S4_39, S4_39n, S4_42, S4_44, S4_45, S4_48, S4_49, S4_50, S4_51, S4_54, S4_55, S4_56, S4_57, S4_60, S4_61, S4_62, S4_63, S4_64, S4_67, S4_70, S4_73, S4_75, S4_76, S4_79, S4_80, S4_81, S4_83, S4_84, S4_86, S4_89, S4_90, S4_93, S4_94, S4_95, S4_98, Option.bind_some, Option.map_some, xpush_s, xpush_n, xcat_0, xcat_i, xcat_r, xcat_l, xcat_n, xcat_e, xir_r, Nat.reduceAdd, Nat.reduceLeDiff, Nat.zero_le, Nat.le_refl, ↓reduceIte, Rg_4 hk, Rg_15 hk, Rg_3 hk, Rg_2 hk, Rg_0 hk, Rg_5 hk, Rcls hk, Rr_m2 hk hm10, Rr_m1 hk hm10, Rr_m0 hk hm10, Rr_m3 hk hm10, hRw, hRw', hc, hq8, va_rf, h10, r_marksIn _ hk _ eN.1 eN.2, s_bitCount, hbc, hcl', hκ, s_within, h30, r_addsOf, hae, sPlain]
end RMO2
