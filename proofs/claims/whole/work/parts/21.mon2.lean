/-! part 21: marks that add, the run down, the month -/
def sAddsOf (kind plain water : Int32) : Int32 := if kind = 1 then (0 - plain) / 2 else if kind = 2 then (0 - plain) + 5 else if kind = 3 then 0 - (0 - plain) / 2 else if kind = 4 then (0 - plain) + 5 - water / 10 else 0 - plain
def sAdds (q : Option xq) (δ : Nat → Int32) (m : Nat) : Int32 := if sLetB δ (δ (20 + 4 * m + 2)) (nn (δ 0)) = true then 0 else sAddsOf (δ (20 + 4 * m)) (sPlain q δ m) (δ (8 + nn (δ (20 + 4 * m + 2))))
def sFades (kind : Int32) : Int32 := if kind = 1 then 2 else if kind = 2 then 0 else if kind = 3 then 4 else if kind = 4 then 3 else if kind = 5 then 0 else 1
def sRun1 (δ : Nat → Int32) (r : Nat) : Nat → Int32 :=
  let by' := δ (8 + r) / 4
  let δ' := upd δ (8 + r) (δ (8 + r) - by')
  if r = 11 then upd δ' 4 (hd (δ' 4 + by') 0 99999) else sMore δ' (r + 1) by'
/-- the reaches below k run down, the lowest first -/
def sRunK : Nat → (Nat → Int32) → Nat → Int32
  | 0, δ => δ
  | k + 1, δ => sRunK k (sRun1 δ k)
def sRun (δ : Nat → Int32) : Nat → Int32 := sRunK 12 δ
section MON2
variable {a : Nat → Nat → Int32} {δ κ s : Nat → Int32} {w : Int64} {H : xh}
theorem s_adds (d : Nat) {q : Option xq} (hw : wf δ) (hq : QM a 0 (nn (δ 7)) q) {m : Nat} (hm : m < 10) : ∃ κ', Ev (d + 4) 117 [.ref 58, .int (nI m)] (md a δ κ s w H) = some (some (.int (sAdds q δ m)), md a δ κ' s w H) := by
  obtain ⟨κ', hκ⟩ := s_plain (κ := κ) (s := s) (w := w) (H := H) d hw hq hm
  refine ⟨κ', ?_⟩
  have eN := hw.eN
  have eR := hw.eR hm
  have hx := xix_n (show 8 + nn (δ (20 + 4 * m + 2)) < 60 by omega) (by omega)
  have hx8 : (8 : Int32) + δ (20 + 4 * m + 2) = nI (8 + nn (δ (20 + 4 * m + 2))) := by rw [eR.1, ix8, ← eR.1]
  have h2 : ¬ (2 : Int32) = 0 := by decide
  have h3 : ¬ (10 : Int32) = 0 := by decide
  rw [E117]
  unfold sAdds
  by_cases hl : sLetB δ (δ (20 + 4 * m + 2)) (nn (δ 0)) = true
  · rw [if_pos hl]
    have hb : bi (sLetB δ (δ (20 + 4 * m + 2)) (nn (δ 0)) = true) = 1 := bi_t hl
    simp only [S117_0, S117_1, S117_2, S117_3, S117_6, S117_7, S117_8, S117_9, S117_10, S117_11, S117_12, S117_15, S117_18, S117_21, S117_22, S117_23, S117_24, S117_25, S117_26, S117_29, S117_60, S117_61, S117_62, S117_63, S117_64, S117_65, S117_66, S117_67, S117_68, S117_69, S117_70, S117_71, S117_72, S117_73, S117_74, S117_75, S117_76, S117_77, S117_78, S117_81, S117_83, S117_84, S117_85, S117_86, S117_89, S117_90, S117_91, S117_93, S117_94, S117_95, S117_96, S117_97, Option.bind_some, Option.map_some, xpush_s, xpush_n, xcat_0, xcat_i, xcat_r, xcat_l, xcat_n, xcat_e, xir_r, Nat.reduceAdd, Nat.reduceLeDiff, Nat.zero_le, Nat.le_refl, ↓reduceIte, Dg, Dcls, Dr, hκ, s_of2 _ hm, s_isLet _ _ eN.1 eN.2, hb, show ¬ (1 : Int32) = 0 by decide]
  · rw [if_neg hl]
    have hb : bi (sLetB δ (δ (20 + 4 * m + 2)) (nn (δ 0)) = true) = 0 := bi_f hl
    unfold sAddsOf
    simp only [S117_0, S117_1, S117_2, S117_3, S117_6, S117_7, S117_8, S117_9, S117_10, S117_11, S117_12, S117_15, S117_18, S117_21, S117_22, S117_23, S117_24, S117_25, S117_26, S117_29, S117_60, S117_61, S117_62, S117_63, S117_64, S117_65, S117_66, S117_67, S117_68, S117_69, S117_70, S117_71, S117_72, S117_73, S117_74, S117_75, S117_76, S117_77, S117_78, S117_81, S117_83, S117_84, S117_85, S117_86, S117_89, S117_90, S117_91, S117_93, S117_94, S117_95, S117_96, S117_97, Option.bind_some, Option.map_some, xpush_s, xpush_n, xcat_0, xcat_i, xcat_r, xcat_l, xcat_n, xcat_e, xir_r, Nat.reduceAdd, Nat.reduceLeDiff, Nat.zero_le, Nat.le_refl, ↓reduceIte, Dg, Dcls, Dr, hκ, s_of2 _ hm, s_of0 _ hm, s_isLet _ _ eN.1 eN.2, hb, hx8, hx, h2, h3]
    split
    · rfl
    · split
      · rfl
      · split
        · rfl
        · split <;> rfl
theorem s_fades (d : Nat) {m : Nat} (hm : m < 10) : Ev (d + 2) 127 [.ref 58, .int (nI m)] (md a δ κ s w H) = some (some (.int (sFades (δ (20 + 4 * m)))), md a δ κ s w H) := by
  rw [E127]
  unfold sFades
  simp only [S127_0, S127_1, S127_2, S127_3, S127_6, S127_40, S127_41, S127_42, S127_43, S127_44, S127_45, S127_46, S127_47, S127_48, S127_49, Option.bind_some, Option.map_some, xpush_s, xpush_n, xcat_0, xcat_i, xcat_r, xcat_l, xcat_n, xcat_e, xir_r, Nat.reduceAdd, Nat.reduceLeDiff, Nat.zero_le, Nat.le_refl, ↓reduceIte, Dcls, s_of0 _ hm]
  split
  · rfl
  · split
    · rfl
    · split
      · rfl
      · split
        · rfl
        · split <;> rfl
theorem wf_run1 (hw : wf δ) {r : Nat} (hr : r < 12) : wf (sRun1 δ r) := by
  obtain ⟨x, h1, h2⟩ := hw.water r hr
  have h3 : δ (8 + r) - δ (8 + r) / 4 = nI (x - x / 4) := by
    rw [h2, show (4 : Int32) = nI 4 from rfl, pk_div (by omega) (by decide) (by decide), pk_sub (by omega)]
  have hw' : wf (upd δ (8 + r) (δ (8 + r) - δ (8 + r) / 4)) := wf_upd hw (okk_of (bnd_water hr) ⟨x - x / 4, by omega, h3⟩)
  unfold sRun1
  by_cases h11 : r = 11
  · simp only [h11, if_true]
    subst h11
    exact wf_upd hw' (okk_of rfl (bd_hd _ rfl (by decide)))
  · simp only [h11, if_false]
    exact wf_more hw' _ (by omega)
theorem wf_runK : ∀ k, k ≤ 12 → ∀ δ : Nat → Int32, wf δ → wf (sRunK k δ)
  | 0, _, _, h => h
  | k + 1, hk, _, h => wf_runK k (by omega) _ (wf_run1 h (by omega))
theorem l_runs (d : Nat) : ∀ k, k ≤ 12 → ∀ (δ : Nat → Int32) (l : Option Value), RF 142 (Ev (d + 2)) 3 [some (.ref 58), some (.int (nI k - 1)), l] [] (md a δ κ s w H) = some (none, md a (sRunK k δ) κ s w H)
  | 0, _, δ, l => by
    have hc : nI 0 - 1 < 0 := by decide
    rw [S142_3]
    simp only [S142_0, S142_2, S142_4, S142_7, S142_8, S142_11, S142_13, S142_14, S142_15, S142_16, S142_17, S142_18, S142_19, S142_20, S142_23, S142_25, S142_26, S142_27, S142_28, S142_29, S142_30, S142_31, S142_32, S142_33, S142_35, S142_38, S142_39, S142_42, S142_43, S142_44, S142_47, S142_48, S142_49, S142_50, S142_51, S142_52, S142_54, S142_57, S142_58, S142_61, S142_62, S142_63, S142_64, S142_65, S142_66, S142_69, S142_72, S142_75, Option.bind_some, Option.map_some, xpush_s, xpush_n, xcat_0, xcat_i, xcat_r, xcat_l, xcat_n, xcat_e, xir_r, Nat.reduceAdd, Nat.reduceLeDiff, Nat.zero_le, Nat.le_refl, ↓reduceIte, hc]
    rfl
  | k + 1, hk, δ, l => by
    have hc : ¬ nI k < 0 := nI_pos (by omega)
    have h4 : ¬ (4 : Int32) = 0 := by decide
    have hx := xix_n (show 8 + k < 60 by omega) (by omega)
    have ih := l_runs d k (by omega) (sRun1 δ k) (some (.int (δ (8 + k) / 4)))
    rw [S142_3]
    by_cases h11 : k = 11
    · subst h11
      have he : (nI 11 = 11) = True := eq_true rfl
      have hs : sRun1 δ 11 = upd (upd δ (8 + 11) (δ (8 + 11) - δ (8 + 11) / 4)) 4 (hd (upd δ (8 + 11) (δ (8 + 11) - δ (8 + 11) / 4) 4 + δ (8 + 11) / 4) 0 99999) := rfl
      rw [hs] at ih
      simp only [S142_0, S142_2, S142_4, S142_7, S142_8, S142_11, S142_13, S142_14, S142_15, S142_16, S142_17, S142_18, S142_19, S142_20, S142_23, S142_25, S142_26, S142_27, S142_28, S142_29, S142_30, S142_31, S142_32, S142_33, S142_35, S142_38, S142_39, S142_42, S142_43, S142_44, S142_47, S142_48, S142_49, S142_50, S142_51, S142_52, S142_54, S142_57, S142_58, S142_61, S142_62, S142_63, S142_64, S142_65, S142_66, S142_69, S142_72, S142_75, Option.bind_some, Option.map_some, xpush_s, xpush_n, xcat_0, xcat_i, xcat_r, xcat_l, xcat_n, xcat_e, xir_r, Nat.reduceAdd, Nat.reduceLeDiff, Nat.zero_le, Nat.le_refl, ↓reduceIte, nI_pred, hc, Dg, Dr, Dw, ix8, hx, h4, cat_i, cat_r, and_self, he, ix_4, s_held, m1]
      rw [sRunK, hs]
      exact ih
    · have hne : ¬ nI k = 11 := fun h => h11 ((nI_eq (b := 11) (by omega) (by decide)).mp h)
      have hs : sRun1 δ k = sMore (upd δ (8 + k) (δ (8 + k) - δ (8 + k) / 4)) (k + 1) (δ (8 + k) / 4) := by
        unfold sRun1
        simp only [h11, if_false]
      rw [hs] at ih
      simp only [S142_0, S142_2, S142_4, S142_7, S142_8, S142_11, S142_13, S142_14, S142_15, S142_16, S142_17, S142_18, S142_19, S142_20, S142_23, S142_25, S142_26, S142_27, S142_28, S142_29, S142_30, S142_31, S142_32, S142_33, S142_35, S142_38, S142_39, S142_42, S142_43, S142_44, S142_47, S142_48, S142_49, S142_50, S142_51, S142_52, S142_54, S142_57, S142_58, S142_61, S142_62, S142_63, S142_64, S142_65, S142_66, S142_69, S142_72, S142_75, Option.bind_some, Option.map_some, xpush_s, xpush_n, xcat_0, xcat_i, xcat_r, xcat_l, xcat_n, xcat_e, xir_r, Nat.reduceAdd, Nat.reduceLeDiff, Nat.zero_le, Nat.le_refl, ↓reduceIte, nI_pred, hc, Dg, Dcls, Dr, Dw, ix8, hx, h4, cat_i, cat_r, and_self, hne, nI_1, s_more _ _ (show k + 1 < 12 by omega), m1]
      rw [sRunK, hs]
      exact ih
theorem s_runs (d : Nat) : Ev (d + 3) 142 [.ref 58] (md a δ κ s w H) = some (none, md a (sRun δ) κ s w H) := by
  rw [E142]
  have h0 := l_runs (a := a) (κ := κ) (s := s) (w := w) (H := H) d 12 (by decide) δ none
  simp only [S142_0, S142_2, S142_4, S142_7, S142_8, S142_11, S142_13, S142_14, S142_15, S142_16, S142_17, S142_18, S142_19, S142_20, S142_23, S142_25, S142_26, S142_27, S142_28, S142_29, S142_30, S142_31, S142_32, S142_33, S142_35, S142_38, S142_39, S142_42, S142_43, S142_44, S142_47, S142_48, S142_49, S142_50, S142_51, S142_52, S142_54, S142_57, S142_58, S142_61, S142_62, S142_63, S142_64, S142_65, S142_66, S142_69, S142_72, S142_75]
  exact h0
end MON2
