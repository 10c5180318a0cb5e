/-! part 71c: the reference's constructor (gen/cons_model.py) -/
def u4 : Nat → Int32 := upd (upd (upd (upd (fun _ => 0) 0 (-1)) 1 (-1)) 2 (-1)) 3 (-1)
def a1 : Nat → Nat → Int32 := fun j => if j = 12 then u4 else fun _ => 0
def SM (k : Nat) (fs : List Value) (F F0 : Nat → xc) : Prop := F 58 = .inr (.inr (6, fs)) ∧ (∀ q, 58 < q → q < k → F q = .inl (mkd (q - 58), mln (q - 58), a1 (q - 58))) ∧ (∀ q, k ≤ q → F q = xnil) ∧ ∀ q, q < 58 → F q = F0 q
section MIN
variable {k m M : Nat} {F F0 E : Nat → xc} {fs gs : List Value} {ev : xe}
theorem SM_s {c : xc} (hk : 58 < k) (S : SM k fs F F0) (hc : c = .inl (mkd (k - 58), mln (k - 58), a1 (k - 58))) : SM (k + 1) gs (va_up (va_up F k c) 58 (.inr (.inr (6, gs)))) F0 := by
  obtain ⟨s1, s2, s3, s4⟩ := S
  refine ⟨vu_s _ _ _, ?_, ?_, ?_⟩
  · intro q q1 q2
    rw [vu_n _ _ (by omega)]
    by_cases h : q = k
    · subst h
      rw [vu_s, hc]
    · rw [vu_n _ _ h]
      exact s2 q q1 (by omega)
  · intro q q1
    rw [vu_n _ _ (by omega), vu_n _ _ (by omega)]
    exact s3 q (by omega)
  · intro q q1
    rw [vu_n _ _ (by omega), vu_n _ _ (by omega)]
    exact s4 q q1
theorem m_1 (hl : fs.length = 39) (S : SM 59 fs F F0) : ∃ FF, RF 110 ev 4 [some (.ref 58), none] [] (hq' 59 m F E) = RF 110 ev 12 [some (.ref 58), none] [] (hq' 60 (m + 60) FF E) ∧ SM 60 (fs.set 0 (.ref 59)) FF F0 := by
  have hp := hq_pf (p := 60) (m := m + 60) (E := E) (F := va_up F 59 (.inl (0, 60, fun _ => 0))) (k := 58) (ci := 6) (fs := fs) (j := 0) (by rw [vu_n _ _ (by omega)]; exact S.1) (by omega) (.ref 59)
  refine ⟨va_up (va_up F 59 (.inl (0, 60, fun _ => 0))) 58 (.inr (.inr (6, fs.set 0 (.ref 59)))), ?_, SM_s (by decide) S rfl⟩
  simp only [S110_4, S110_5, S110_7, S110_9, Option.bind_some, Option.map_some, xpush_s, xpush_n, xcat_0, xcat_i, xcat_r, xcat_l, xcat_n, xcat_e, xir_r, Nat.reduceAdd, Nat.reduceLeDiff, Nat.zero_le, Nat.le_refl, ↓reduceIte, show (0 ≤ (60 : Int32).toInt ∧ (60 : Int32).toInt ≤ 100000) = True from eq_true (by decide), show (60 : Int32).toInt.toNat = 60 from rfl, hq_new, hq_1, cat_r, hp]
theorem m_2 (hl : fs.length = 39) (S : SM 60 fs F F0) : ∃ FF, RF 110 ev 12 [some (.ref 58), none] [] (hq' 60 m F E) = RF 110 ev 20 [some (.ref 58), none] [] (hq' 61 (m + 60) FF E) ∧ SM 61 (fs.set 1 (.ref 60)) FF F0 := by
  have hp := hq_pf (p := 61) (m := m + 60) (E := E) (F := va_up F 60 (.inl (0, 60, fun _ => 0))) (k := 58) (ci := 6) (fs := fs) (j := 1) (by rw [vu_n _ _ (by omega)]; exact S.1) (by omega) (.ref 60)
  refine ⟨va_up (va_up F 60 (.inl (0, 60, fun _ => 0))) 58 (.inr (.inr (6, fs.set 1 (.ref 60)))), ?_, SM_s (by decide) S rfl⟩
  simp only [S110_12, S110_13, S110_15, S110_17, Option.bind_some, Option.map_some, xpush_s, xpush_n, xcat_0, xcat_i, xcat_r, xcat_l, xcat_n, xcat_e, xir_r, Nat.reduceAdd, Nat.reduceLeDiff, Nat.zero_le, Nat.le_refl, ↓reduceIte, show (0 ≤ (60 : Int32).toInt ∧ (60 : Int32).toInt ≤ 100000) = True from eq_true (by decide), show (60 : Int32).toInt.toNat = 60 from rfl, hq_new, hq_1, cat_r, hp]
theorem m_3 (hl : fs.length = 39) (S : SM 61 fs F F0) : ∃ FF, RF 110 ev 20 [some (.ref 58), none] [] (hq' 61 m F E) = RF 110 ev 28 [some (.ref 58), none] [] (hq' 62 (m + 60) FF E) ∧ SM 62 (fs.set 2 (.ref 61)) FF F0 := by
  have hp := hq_pf (p := 62) (m := m + 60) (E := E) (F := va_up F 61 (.inl (0, 60, fun _ => 0))) (k := 58) (ci := 6) (fs := fs) (j := 2) (by rw [vu_n _ _ (by omega)]; exact S.1) (by omega) (.ref 61)
  refine ⟨va_up (va_up F 61 (.inl (0, 60, fun _ => 0))) 58 (.inr (.inr (6, fs.set 2 (.ref 61)))), ?_, SM_s (by decide) S rfl⟩
  simp only [S110_20, S110_21, S110_23, S110_25, Option.bind_some, Option.map_some, xpush_s, xpush_n, xcat_0, xcat_i, xcat_r, xcat_l, xcat_n, xcat_e, xir_r, Nat.reduceAdd, Nat.reduceLeDiff, Nat.zero_le, Nat.le_refl, ↓reduceIte, show (0 ≤ (60 : Int32).toInt ∧ (60 : Int32).toInt ≤ 100000) = True from eq_true (by decide), show (60 : Int32).toInt.toNat = 60 from rfl, hq_new, hq_1, cat_r, hp]
theorem m_4 (hl : fs.length = 39) (S : SM 62 fs F F0) : ∃ FF, RF 110 ev 28 [some (.ref 58), none] [] (hq' 62 m F E) = RF 110 ev 36 [some (.ref 58), none] [] (hq' 63 (m + 60) FF E) ∧ SM 63 (fs.set 3 (.ref 62)) FF F0 := by
  have hp := hq_pf (p := 63) (m := m + 60) (E := E) (F := va_up F 62 (.inl (0, 60, fun _ => 0))) (k := 58) (ci := 6) (fs := fs) (j := 3) (by rw [vu_n _ _ (by omega)]; exact S.1) (by omega) (.ref 62)
  refine ⟨va_up (va_up F 62 (.inl (0, 60, fun _ => 0))) 58 (.inr (.inr (6, fs.set 3 (.ref 62)))), ?_, SM_s (by decide) S rfl⟩
  simp only [S110_28, S110_29, S110_31, S110_33, Option.bind_some, Option.map_some, xpush_s, xpush_n, xcat_0, xcat_i, xcat_r, xcat_l, xcat_n, xcat_e, xir_r, Nat.reduceAdd, Nat.reduceLeDiff, Nat.zero_le, Nat.le_refl, ↓reduceIte, show (0 ≤ (60 : Int32).toInt ∧ (60 : Int32).toInt ≤ 100000) = True from eq_true (by decide), show (60 : Int32).toInt.toNat = 60 from rfl, hq_new, hq_1, cat_r, hp]
theorem m_5 (hl : fs.length = 39) (S : SM 63 fs F F0) : ∃ FF, RF 110 ev 36 [some (.ref 58), none] [] (hq' 63 m F E) = RF 110 ev 45 [some (.ref 58), none] [] (hq' 64 (m + 1344) FF E) ∧ SM 64 (fs.set 5 (.ref 63)) FF F0 := by
  have hp := hq_pf (p := 64) (m := m + 1344) (E := E) (F := va_up F 63 (.inl (0, 1344, fun _ => 0))) (k := 58) (ci := 6) (fs := fs) (j := 5) (by rw [vu_n _ _ (by omega)]; exact S.1) (by omega) (.ref 63)
  refine ⟨va_up (va_up F 63 (.inl (0, 1344, fun _ => 0))) 58 (.inr (.inr (6, fs.set 5 (.ref 63)))), ?_, SM_s (by decide) S rfl⟩
  simp only [S110_36, S110_37, S110_40, S110_42, Option.bind_some, Option.map_some, xpush_s, xpush_n, xcat_0, xcat_i, xcat_r, xcat_l, xcat_n, xcat_e, xir_r, Nat.reduceAdd, Nat.reduceLeDiff, Nat.zero_le, Nat.le_refl, ↓reduceIte, show (0 ≤ (1344 : Int32).toInt ∧ (1344 : Int32).toInt ≤ 100000) = True from eq_true (by decide), show (1344 : Int32).toInt.toNat = 1344 from rfl, hq_new, hq_1, cat_r, hp]
theorem m_6 (hl : fs.length = 39) (S : SM 64 fs F F0) : ∃ FF, RF 110 ev 45 [some (.ref 58), none] [] (hq' 64 m F E) = RF 110 ev 53 [some (.ref 58), none] [] (hq' 65 (m + 14) FF E) ∧ SM 65 (fs.set 6 (.ref 64)) FF F0 := by
  have hp := hq_pf (p := 65) (m := m + 14) (E := E) (F := va_up F 64 (.inl (0, 14, fun _ => 0))) (k := 58) (ci := 6) (fs := fs) (j := 6) (by rw [vu_n _ _ (by omega)]; exact S.1) (by omega) (.ref 64)
  refine ⟨va_up (va_up F 64 (.inl (0, 14, fun _ => 0))) 58 (.inr (.inr (6, fs.set 6 (.ref 64)))), ?_, SM_s (by decide) S rfl⟩
  simp only [S110_45, S110_46, S110_48, S110_50, Option.bind_some, Option.map_some, xpush_s, xpush_n, xcat_0, xcat_i, xcat_r, xcat_l, xcat_n, xcat_e, xir_r, Nat.reduceAdd, Nat.reduceLeDiff, Nat.zero_le, Nat.le_refl, ↓reduceIte, show (0 ≤ (14 : Int32).toInt ∧ (14 : Int32).toInt ≤ 100000) = True from eq_true (by decide), show (14 : Int32).toInt.toNat = 14 from rfl, hq_new, hq_1, cat_r, hp]
theorem m_7 (hl : fs.length = 39) (S : SM 65 fs F F0) : ∃ FF, RF 110 ev 53 [some (.ref 58), none] [] (hq' 65 m F E) = RF 110 ev 61 [some (.ref 58), none] [] (hq' 66 (m + 14) FF E) ∧ SM 66 (fs.set 7 (.ref 65)) FF F0 := by
  have hp := hq_pf (p := 66) (m := m + 14) (E := E) (F := va_up F 65 (.inl (0, 14, fun _ => 0))) (k := 58) (ci := 6) (fs := fs) (j := 7) (by rw [vu_n _ _ (by omega)]; exact S.1) (by omega) (.ref 65)
  refine ⟨va_up (va_up F 65 (.inl (0, 14, fun _ => 0))) 58 (.inr (.inr (6, fs.set 7 (.ref 65)))), ?_, SM_s (by decide) S rfl⟩
  simp only [S110_53, S110_54, S110_56, S110_58, Option.bind_some, Option.map_some, xpush_s, xpush_n, xcat_0, xcat_i, xcat_r, xcat_l, xcat_n, xcat_e, xir_r, Nat.reduceAdd, Nat.reduceLeDiff, Nat.zero_le, Nat.le_refl, ↓reduceIte, show (0 ≤ (14 : Int32).toInt ∧ (14 : Int32).toInt ≤ 100000) = True from eq_true (by decide), show (14 : Int32).toInt.toNat = 14 from rfl, hq_new, hq_1, cat_r, hp]
theorem m_8 (hl : fs.length = 39) (S : SM 66 fs F F0) : ∃ FF, RF 110 ev 61 [some (.ref 58), none] [] (hq' 66 m F E) = RF 110 ev 69 [some (.ref 58), none] [] (hq' 67 (m + 14) FF E) ∧ SM 67 (fs.set 8 (.ref 66)) FF F0 := by
  have hp := hq_pf (p := 67) (m := m + 14) (E := E) (F := va_up F 66 (.inl (0, 14, fun _ => 0))) (k := 58) (ci := 6) (fs := fs) (j := 8) (by rw [vu_n _ _ (by omega)]; exact S.1) (by omega) (.ref 66)
  refine ⟨va_up (va_up F 66 (.inl (0, 14, fun _ => 0))) 58 (.inr (.inr (6, fs.set 8 (.ref 66)))), ?_, SM_s (by decide) S rfl⟩
  simp only [S110_61, S110_62, S110_64, S110_66, Option.bind_some, Option.map_some, xpush_s, xpush_n, xcat_0, xcat_i, xcat_r, xcat_l, xcat_n, xcat_e, xir_r, Nat.reduceAdd, Nat.reduceLeDiff, Nat.zero_le, Nat.le_refl, ↓reduceIte, show (0 ≤ (14 : Int32).toInt ∧ (14 : Int32).toInt ≤ 100000) = True from eq_true (by decide), show (14 : Int32).toInt.toNat = 14 from rfl, hq_new, hq_1, cat_r, hp]
theorem m_9 (hl : fs.length = 39) (S : SM 67 fs F F0) : ∃ FF, RF 110 ev 69 [some (.ref 58), none] [] (hq' 67 m F E) = RF 110 ev 77 [some (.ref 58), none] [] (hq' 68 (m + 96) FF E) ∧ SM 68 (fs.set 9 (.ref 67)) FF F0 := by
  have hp := hq_pf (p := 68) (m := m + 96) (E := E) (F := va_up F 67 (.inl (0, 96, fun _ => 0))) (k := 58) (ci := 6) (fs := fs) (j := 9) (by rw [vu_n _ _ (by omega)]; exact S.1) (by omega) (.ref 67)
  refine ⟨va_up (va_up F 67 (.inl (0, 96, fun _ => 0))) 58 (.inr (.inr (6, fs.set 9 (.ref 67)))), ?_, SM_s (by decide) S rfl⟩
  simp only [S110_69, S110_70, S110_72, S110_74, Option.bind_some, Option.map_some, xpush_s, xpush_n, xcat_0, xcat_i, xcat_r, xcat_l, xcat_n, xcat_e, xir_r, Nat.reduceAdd, Nat.reduceLeDiff, Nat.zero_le, Nat.le_refl, ↓reduceIte, show (0 ≤ (96 : Int32).toInt ∧ (96 : Int32).toInt ≤ 100000) = True from eq_true (by decide), show (96 : Int32).toInt.toNat = 96 from rfl, hq_new, hq_1, cat_r, hp]
theorem m_10 (hl : fs.length = 39) (S : SM 68 fs F F0) : ∃ FF, RF 110 ev 77 [some (.ref 58), none] [] (hq' 68 m F E) = RF 110 ev 85 [some (.ref 58), none] [] (hq' 69 (m + 96) FF E) ∧ SM 69 (fs.set 10 (.ref 68)) FF F0 := by
  have hp := hq_pf (p := 69) (m := m + 96) (E := E) (F := va_up F 68 (.inl (0, 96, fun _ => 0))) (k := 58) (ci := 6) (fs := fs) (j := 10) (by rw [vu_n _ _ (by omega)]; exact S.1) (by omega) (.ref 68)
  refine ⟨va_up (va_up F 68 (.inl (0, 96, fun _ => 0))) 58 (.inr (.inr (6, fs.set 10 (.ref 68)))), ?_, SM_s (by decide) S rfl⟩
  simp only [S110_77, S110_78, S110_80, S110_82, Option.bind_some, Option.map_some, xpush_s, xpush_n, xcat_0, xcat_i, xcat_r, xcat_l, xcat_n, xcat_e, xir_r, Nat.reduceAdd, Nat.reduceLeDiff, Nat.zero_le, Nat.le_refl, ↓reduceIte, show (0 ≤ (96 : Int32).toInt ∧ (96 : Int32).toInt ≤ 100000) = True from eq_true (by decide), show (96 : Int32).toInt.toNat = 96 from rfl, hq_new, hq_1, cat_r, hp]
theorem m_11 (hl : fs.length = 39) (S : SM 69 fs F F0) : ∃ FF, RF 110 ev 85 [some (.ref 58), none] [] (hq' 69 m F E) = RF 110 ev 93 [some (.ref 58), none] [] (hq' 70 (m + 96) FF E) ∧ SM 70 (fs.set 23 (.ref 69)) FF F0 := by
  have hp := hq_pf (p := 70) (m := m + 96) (E := E) (F := va_up F 69 (.inl (0, 96, fun _ => 0))) (k := 58) (ci := 6) (fs := fs) (j := 23) (by rw [vu_n _ _ (by omega)]; exact S.1) (by omega) (.ref 69)
  refine ⟨va_up (va_up F 69 (.inl (0, 96, fun _ => 0))) 58 (.inr (.inr (6, fs.set 23 (.ref 69)))), ?_, SM_s (by decide) S rfl⟩
  simp only [S110_85, S110_86, S110_88, S110_90, Option.bind_some, Option.map_some, xpush_s, xpush_n, xcat_0, xcat_i, xcat_r, xcat_l, xcat_n, xcat_e, xir_r, Nat.reduceAdd, Nat.reduceLeDiff, Nat.zero_le, Nat.le_refl, ↓reduceIte, show (0 ≤ (96 : Int32).toInt ∧ (96 : Int32).toInt ≤ 100000) = True from eq_true (by decide), show (96 : Int32).toInt.toNat = 96 from rfl, hq_new, hq_1, cat_r, hp]
theorem m_12 (hl : fs.length = 39) (S : SM 70 fs F F0) : ∃ FF, RF 110 ev 93 [some (.ref 58), none] [] (hq' 70 m F E) = RF 110 ev 116 [some (.ref 58), none] [] (hq' 71 (m + 4) FF E) ∧ SM 71 (fs.set 24 (.ref 70)) FF F0 := by
  have hp := hq_pf (p := 71) (m := m + 4) (E := E) (F := va_up F 70 (.inl (0, 4, u4))) (k := 58) (ci := 6) (fs := fs) (j := 24) (by rw [vu_n _ _ (by omega)]; exact S.1) (by omega) (.ref 70)
  have w0 := hq_wr (P := 71) (m := m + 4) (E := E) (F := va_up F 70 (.inl (0, 4, fun _ => 0))) (k := 70) (n := 4) (i := 0) (x := -1) (vu_s _ _ _) (show xix 0 4 = some 0 from rfl)
  rw [vu_u] at w0
  have w1 := hq_wr (P := 71) (m := m + 4) (E := E) (F := va_up F 70 (.inl (0, 4, upd (fun _ => 0) 0 (-1)))) (k := 70) (n := 4) (i := 1) (x := -1) (vu_s _ _ _) (show xix 1 4 = some 1 from rfl)
  rw [vu_u] at w1
  have w2 := hq_wr (P := 71) (m := m + 4) (E := E) (F := va_up F 70 (.inl (0, 4, upd (upd (fun _ => 0) 0 (-1)) 1 (-1)))) (k := 70) (n := 4) (i := 2) (x := -1) (vu_s _ _ _) (show xix 2 4 = some 2 from rfl)
  rw [vu_u] at w2
  have w3 := hq_wr (P := 71) (m := m + 4) (E := E) (F := va_up F 70 (.inl (0, 4, upd (upd (upd (fun _ => 0) 0 (-1)) 1 (-1)) 2 (-1)))) (k := 70) (n := 4) (i := 3) (x := -1) (vu_s _ _ _) (show xix 3 4 = some 3 from rfl)
  rw [vu_u] at w3
  unfold u4 at hp
  refine ⟨va_up (va_up F 70 (.inl (0, 4, u4))) 58 (.inr (.inr (6, fs.set 24 (.ref 70)))), ?_, SM_s (by decide) S rfl⟩
  unfold u4
  simp only [S110_93, S110_94, S110_95, S110_97, S110_98, S110_99, S110_100, S110_101, S110_102, S110_103, S110_104, S110_105, S110_106, S110_107, S110_108, S110_109, S110_110, S110_111, S110_112, S110_113, Option.bind_some, Option.map_some, xpush_s, xpush_n, xcat_0, xcat_i, xcat_r, xcat_l, xcat_n, xcat_e, xir_r, Nat.reduceAdd, Nat.reduceLeDiff, Nat.zero_le, Nat.le_refl, ↓reduceIte, show (0 ≤ (4 : Int32).toInt ∧ (4 : Int32).toInt ≤ 100000) = True from eq_true (by decide), show (4 : Int32).toInt.toNat = 4 from rfl, hq_new, hq_1, cat_r, hp, w0, w1, w2, w3]
theorem m_13 (hl : fs.length = 39) (S : SM 71 fs F F0) : ∃ FF, RF 110 ev 116 [some (.ref 58), none] [] (hq' 71 m F E) = RF 110 ev 123 [some (.ref 58), none] [] (hq' 72 (m + 4) FF E) ∧ SM 72 (fs.set 25 (.ref 71)) FF F0 := by
  have hp := hq_pf (p := 72) (m := m + 4) (E := E) (F := va_up F 71 (.inl (0, 4, fun _ => 0))) (k := 58) (ci := 6) (fs := fs) (j := 25) (by rw [vu_n _ _ (by omega)]; exact S.1) (by omega) (.ref 71)
  refine ⟨va_up (va_up F 71 (.inl (0, 4, fun _ => 0))) 58 (.inr (.inr (6, fs.set 25 (.ref 71)))), ?_, SM_s (by decide) S rfl⟩
  simp only [S110_116, S110_117, S110_118, S110_120, Option.bind_some, Option.map_some, xpush_s, xpush_n, xcat_0, xcat_i, xcat_r, xcat_l, xcat_n, xcat_e, xir_r, Nat.reduceAdd, Nat.reduceLeDiff, Nat.zero_le, Nat.le_refl, ↓reduceIte, show (0 ≤ (4 : Int32).toInt ∧ (4 : Int32).toInt ≤ 100000) = True from eq_true (by decide), show (4 : Int32).toInt.toNat = 4 from rfl, hq_new, hq_1, cat_r, hp]
theorem m_14 (hl : fs.length = 39) (S : SM 72 fs F F0) : ∃ FF, RF 110 ev 123 [some (.ref 58), none] [] (hq' 72 m F E) = RF 110 ev 131 [some (.ref 58), none] [] (hq' 73 (m + 96) FF E) ∧ SM 73 (fs.set 26 (.ref 72)) FF F0 := by
  have hp := hq_pf (p := 73) (m := m + 96) (E := E) (F := va_up F 72 (.inl (0, 96, fun _ => 0))) (k := 58) (ci := 6) (fs := fs) (j := 26) (by rw [vu_n _ _ (by omega)]; exact S.1) (by omega) (.ref 72)
  refine ⟨va_up (va_up F 72 (.inl (0, 96, fun _ => 0))) 58 (.inr (.inr (6, fs.set 26 (.ref 72)))), ?_, SM_s (by decide) S rfl⟩
  simp only [S110_123, S110_124, S110_126, S110_128, Option.bind_some, Option.map_some, xpush_s, xpush_n, xcat_0, xcat_i, xcat_r, xcat_l, xcat_n, xcat_e, xir_r, Nat.reduceAdd, Nat.reduceLeDiff, Nat.zero_le, Nat.le_refl, ↓reduceIte, show (0 ≤ (96 : Int32).toInt ∧ (96 : Int32).toInt ≤ 100000) = True from eq_true (by decide), show (96 : Int32).toInt.toNat = 96 from rfl, hq_new, hq_1, cat_r, hp]
theorem m_15 (hl : fs.length = 39) (S : SM 73 fs F F0) : ∃ FF, RF 110 ev 131 [some (.ref 58), none] [] (hq' 73 m F E) = RF 110 ev 139 [some (.ref 58), none] [] (hq' 74 (m + 96) FF E) ∧ SM 74 (fs.set 27 (.ref 73)) FF F0 := by
  have hp := hq_pf (p := 74) (m := m + 96) (E := E) (F := va_up F 73 (.inl (1, 96, fun _ => 0))) (k := 58) (ci := 6) (fs := fs) (j := 27) (by rw [vu_n _ _ (by omega)]; exact S.1) (by omega) (.ref 73)
  refine ⟨va_up (va_up F 73 (.inl (1, 96, fun _ => 0))) 58 (.inr (.inr (6, fs.set 27 (.ref 73)))), ?_, SM_s (by decide) S rfl⟩
  simp only [S110_131, S110_132, S110_134, S110_136, Option.bind_some, Option.map_some, xpush_s, xpush_n, xcat_0, xcat_i, xcat_r, xcat_l, xcat_n, xcat_e, xir_r, Nat.reduceAdd, Nat.reduceLeDiff, Nat.zero_le, Nat.le_refl, ↓reduceIte, show (0 ≤ (96 : Int32).toInt ∧ (96 : Int32).toInt ≤ 100000) = True from eq_true (by decide), show (96 : Int32).toInt.toNat = 96 from rfl, hq_new, hq_1, cat_r, hp]
theorem m_16 (hl : fs.length = 39) (S : SM 74 fs F F0) : ∃ FF, RF 110 ev 139 [some (.ref 58), none] [] (hq' 74 m F E) = RF 110 ev 147 [some (.ref 58), none] [] (hq' 75 (m + 12) FF E) ∧ SM 75 (fs.set 28 (.ref 74)) FF F0 := by
  have hp := hq_pf (p := 75) (m := m + 12) (E := E) (F := va_up F 74 (.inl (0, 12, fun _ => 0))) (k := 58) (ci := 6) (fs := fs) (j := 28) (by rw [vu_n _ _ (by omega)]; exact S.1) (by omega) (.ref 74)
  refine ⟨va_up (va_up F 74 (.inl (0, 12, fun _ => 0))) 58 (.inr (.inr (6, fs.set 28 (.ref 74)))), ?_, SM_s (by decide) S rfl⟩
  simp only [S110_139, S110_140, S110_142, S110_144, Option.bind_some, Option.map_some, xpush_s, xpush_n, xcat_0, xcat_i, xcat_r, xcat_l, xcat_n, xcat_e, xir_r, Nat.reduceAdd, Nat.reduceLeDiff, Nat.zero_le, Nat.le_refl, ↓reduceIte, show (0 ≤ (12 : Int32).toInt ∧ (12 : Int32).toInt ≤ 100000) = True from eq_true (by decide), show (12 : Int32).toInt.toNat = 12 from rfl, hq_new, hq_1, cat_r, hp]
theorem m_17 (hl : fs.length = 39) (S : SM 75 fs F F0) : ∃ FF, RF 110 ev 147 [some (.ref 58), none] [] (hq' 75 m F E) = RF 110 ev 155 [some (.ref 58), none] [] (hq' 76 (m + 24) FF E) ∧ SM 76 (fs.set 29 (.ref 75)) FF F0 := by
  have hp := hq_pf (p := 76) (m := m + 24) (E := E) (F := va_up F 75 (.inl (0, 24, fun _ => 0))) (k := 58) (ci := 6) (fs := fs) (j := 29) (by rw [vu_n _ _ (by omega)]; exact S.1) (by omega) (.ref 75)
  refine ⟨va_up (va_up F 75 (.inl (0, 24, fun _ => 0))) 58 (.inr (.inr (6, fs.set 29 (.ref 75)))), ?_, SM_s (by decide) S rfl⟩
  simp only [S110_147, S110_148, S110_150, S110_152, Option.bind_some, Option.map_some, xpush_s, xpush_n, xcat_0, xcat_i, xcat_r, xcat_l, xcat_n, xcat_e, xir_r, Nat.reduceAdd, Nat.reduceLeDiff, Nat.zero_le, Nat.le_refl, ↓reduceIte, show (0 ≤ (24 : Int32).toInt ∧ (24 : Int32).toInt ≤ 100000) = True from eq_true (by decide), show (24 : Int32).toInt.toNat = 24 from rfl, hq_new, hq_1, cat_r, hp]
theorem m_18 (hl : fs.length = 39) (S : SM 76 fs F F0) : ∃ FF, RF 110 ev 155 [some (.ref 58), none] [] (hq' 76 m F E) = RF 110 ev 163 [some (.ref 58), none] [] (hq' 77 (m + 24) FF E) ∧ SM 77 (fs.set 30 (.ref 76)) FF F0 := by
  have hp := hq_pf (p := 77) (m := m + 24) (E := E) (F := va_up F 76 (.inl (1, 24, fun _ => 0))) (k := 58) (ci := 6) (fs := fs) (j := 30) (by rw [vu_n _ _ (by omega)]; exact S.1) (by omega) (.ref 76)
  refine ⟨va_up (va_up F 76 (.inl (1, 24, fun _ => 0))) 58 (.inr (.inr (6, fs.set 30 (.ref 76)))), ?_, SM_s (by decide) S rfl⟩
  simp only [S110_155, S110_156, S110_158, S110_160, Option.bind_some, Option.map_some, xpush_s, xpush_n, xcat_0, xcat_i, xcat_r, xcat_l, xcat_n, xcat_e, xir_r, Nat.reduceAdd, Nat.reduceLeDiff, Nat.zero_le, Nat.le_refl, ↓reduceIte, show (0 ≤ (24 : Int32).toInt ∧ (24 : Int32).toInt ≤ 100000) = True from eq_true (by decide), show (24 : Int32).toInt.toNat = 24 from rfl, hq_new, hq_1, cat_r, hp]
theorem m_19 (hl : fs.length = 39) (S : SM 77 fs F F0) : ∃ FF, RF 110 ev 163 [some (.ref 58), none] [] (hq' 77 m F E) = RF 110 ev 170 [some (.ref 58), none] [] (hq' 78 (m + 5) FF E) ∧ SM 78 (fs.set 31 (.ref 77)) FF F0 := by
  have hp := hq_pf (p := 78) (m := m + 5) (E := E) (F := va_up F 77 (.inl (0, 5, fun _ => 0))) (k := 58) (ci := 6) (fs := fs) (j := 31) (by rw [vu_n _ _ (by omega)]; exact S.1) (by omega) (.ref 77)
  refine ⟨va_up (va_up F 77 (.inl (0, 5, fun _ => 0))) 58 (.inr (.inr (6, fs.set 31 (.ref 77)))), ?_, SM_s (by decide) S rfl⟩
  simp only [S110_163, S110_164, S110_165, S110_167, Option.bind_some, Option.map_some, xpush_s, xpush_n, xcat_0, xcat_i, xcat_r, xcat_l, xcat_n, xcat_e, xir_r, Nat.reduceAdd, Nat.reduceLeDiff, Nat.zero_le, Nat.le_refl, ↓reduceIte, show (0 ≤ (5 : Int32).toInt ∧ (5 : Int32).toInt ≤ 100000) = True from eq_true (by decide), show (5 : Int32).toInt.toNat = 5 from rfl, hq_new, hq_1, cat_r, hp]
theorem m_20 (hl : fs.length = 39) (S : SM 78 fs F F0) : ∃ FF, RF 110 ev 170 [some (.ref 58), none] [] (hq' 78 m F E) = RF 110 ev 177 [some (.ref 58), none] [] (hq' 79 (m + 5) FF E) ∧ SM 79 (fs.set 32 (.ref 78)) FF F0 := by
  have hp := hq_pf (p := 79) (m := m + 5) (E := E) (F := va_up F 78 (.inl (0, 5, fun _ => 0))) (k := 58) (ci := 6) (fs := fs) (j := 32) (by rw [vu_n _ _ (by omega)]; exact S.1) (by omega) (.ref 78)
  refine ⟨va_up (va_up F 78 (.inl (0, 5, fun _ => 0))) 58 (.inr (.inr (6, fs.set 32 (.ref 78)))), ?_, SM_s (by decide) S rfl⟩
  simp only [S110_170, S110_171, S110_172, S110_174, Option.bind_some, Option.map_some, xpush_s, xpush_n, xcat_0, xcat_i, xcat_r, xcat_l, xcat_n, xcat_e, xir_r, Nat.reduceAdd, Nat.reduceLeDiff, Nat.zero_le, Nat.le_refl, ↓reduceIte, show (0 ≤ (5 : Int32).toInt ∧ (5 : Int32).toInt ≤ 100000) = True from eq_true (by decide), show (5 : Int32).toInt.toNat = 5 from rfl, hq_new, hq_1, cat_r, hp]
theorem m_21 (hl : fs.length = 39) (S : SM 79 fs F F0) : ∃ FF, RF 110 ev 177 [some (.ref 58), none] [] (hq' 79 m F E) = RF 110 ev 184 [some (.ref 58), none] [] (hq' 80 (m + 5) FF E) ∧ SM 80 (fs.set 33 (.ref 79)) FF F0 := by
  have hp := hq_pf (p := 80) (m := m + 5) (E := E) (F := va_up F 79 (.inl (0, 5, fun _ => 0))) (k := 58) (ci := 6) (fs := fs) (j := 33) (by rw [vu_n _ _ (by omega)]; exact S.1) (by omega) (.ref 79)
  refine ⟨va_up (va_up F 79 (.inl (0, 5, fun _ => 0))) 58 (.inr (.inr (6, fs.set 33 (.ref 79)))), ?_, SM_s (by decide) S rfl⟩
  simp only [S110_177, S110_178, S110_179, S110_181, Option.bind_some, Option.map_some, xpush_s, xpush_n, xcat_0, xcat_i, xcat_r, xcat_l, xcat_n, xcat_e, xir_r, Nat.reduceAdd, Nat.reduceLeDiff, Nat.zero_le, Nat.le_refl, ↓reduceIte, show (0 ≤ (5 : Int32).toInt ∧ (5 : Int32).toInt ≤ 100000) = True from eq_true (by decide), show (5 : Int32).toInt.toNat = 5 from rfl, hq_new, hq_1, cat_r, hp]
theorem m_22 (hl : fs.length = 39) (S : SM 80 fs F F0) : ∃ FF, RF 110 ev 184 [some (.ref 58), none] [] (hq' 80 m F E) = RF 110 ev 191 [some (.ref 58), none] [] (hq' 81 (m + 5) FF E) ∧ SM 81 (fs.set 34 (.ref 80)) FF F0 := by
  have hp := hq_pf (p := 81) (m := m + 5) (E := E) (F := va_up F 80 (.inl (0, 5, fun _ => 0))) (k := 58) (ci := 6) (fs := fs) (j := 34) (by rw [vu_n _ _ (by omega)]; exact S.1) (by omega) (.ref 80)
  refine ⟨va_up (va_up F 80 (.inl (0, 5, fun _ => 0))) 58 (.inr (.inr (6, fs.set 34 (.ref 80)))), ?_, SM_s (by decide) S rfl⟩
  simp only [S110_184, S110_185, S110_186, S110_188, Option.bind_some, Option.map_some, xpush_s, xpush_n, xcat_0, xcat_i, xcat_r, xcat_l, xcat_n, xcat_e, xir_r, Nat.reduceAdd, Nat.reduceLeDiff, Nat.zero_le, Nat.le_refl, ↓reduceIte, show (0 ≤ (5 : Int32).toInt ∧ (5 : Int32).toInt ≤ 100000) = True from eq_true (by decide), show (5 : Int32).toInt.toNat = 5 from rfl, hq_new, hq_1, cat_r, hp]
theorem m_23 (hl : fs.length = 39) (S : SM 81 fs F F0) : ∃ FF, RF 110 ev 191 [some (.ref 58), none] [] (hq' 81 m F E) = RF 110 ev 199 [some (.ref 58), none] [] (hq' 82 (m + 120) FF E) ∧ SM 82 (fs.set 35 (.ref 81)) FF F0 := by
  have hp := hq_pf (p := 82) (m := m + 120) (E := E) (F := va_up F 81 (.inl (0, 120, fun _ => 0))) (k := 58) (ci := 6) (fs := fs) (j := 35) (by rw [vu_n _ _ (by omega)]; exact S.1) (by omega) (.ref 81)
  refine ⟨va_up (va_up F 81 (.inl (0, 120, fun _ => 0))) 58 (.inr (.inr (6, fs.set 35 (.ref 81)))), ?_, SM_s (by decide) S rfl⟩
  simp only [S110_191, S110_192, S110_194, S110_196, Option.bind_some, Option.map_some, xpush_s, xpush_n, xcat_0, xcat_i, xcat_r, xcat_l, xcat_n, xcat_e, xir_r, Nat.reduceAdd, Nat.reduceLeDiff, Nat.zero_le, Nat.le_refl, ↓reduceIte, show (0 ≤ (120 : Int32).toInt ∧ (120 : Int32).toInt ≤ 100000) = True from eq_true (by decide), show (120 : Int32).toInt.toNat = 120 from rfl, hq_new, hq_1, cat_r, hp]
theorem m_24 (hl : fs.length = 39) (S : SM 82 fs F F0) : ∃ FF, RF 110 ev 199 [some (.ref 58), none] [] (hq' 82 m F E) = RF 110 ev 207 [some (.ref 58), none] [] (hq' 83 (m + 120) FF E) ∧ SM 83 (fs.set 36 (.ref 82)) FF F0 := by
  have hp := hq_pf (p := 83) (m := m + 120) (E := E) (F := va_up F 82 (.inl (1, 120, fun _ => 0))) (k := 58) (ci := 6) (fs := fs) (j := 36) (by rw [vu_n _ _ (by omega)]; exact S.1) (by omega) (.ref 82)
  refine ⟨va_up (va_up F 82 (.inl (1, 120, fun _ => 0))) 58 (.inr (.inr (6, fs.set 36 (.ref 82)))), ?_, SM_s (by decide) S rfl⟩
  simp only [S110_199, S110_200, S110_202, S110_204, Option.bind_some, Option.map_some, xpush_s, xpush_n, xcat_0, xcat_i, xcat_r, xcat_l, xcat_n, xcat_e, xir_r, Nat.reduceAdd, Nat.reduceLeDiff, Nat.zero_le, Nat.le_refl, ↓reduceIte, show (0 ≤ (120 : Int32).toInt ∧ (120 : Int32).toInt ≤ 100000) = True from eq_true (by decide), show (120 : Int32).toInt.toNat = 120 from rfl, hq_new, hq_1, cat_r, hp]
theorem m_25 (hl : fs.length = 39) (S : SM 83 fs F F0) : ∃ FF, RF 110 ev 207 [some (.ref 58), none] [] (hq' 83 m F E) = RF 110 ev 215 [some (.ref 58), none] [] (hq' 84 (m + 60) FF E) ∧ SM 84 (fs.set 37 (.ref 83)) FF F0 := by
  have hp := hq_pf (p := 84) (m := m + 60) (E := E) (F := va_up F 83 (.inl (0, 60, fun _ => 0))) (k := 58) (ci := 6) (fs := fs) (j := 37) (by rw [vu_n _ _ (by omega)]; exact S.1) (by omega) (.ref 83)
  refine ⟨va_up (va_up F 83 (.inl (0, 60, fun _ => 0))) 58 (.inr (.inr (6, fs.set 37 (.ref 83)))), ?_, SM_s (by decide) S rfl⟩
  simp only [S110_207, S110_208, S110_210, S110_212, Option.bind_some, Option.map_some, xpush_s, xpush_n, xcat_0, xcat_i, xcat_r, xcat_l, xcat_n, xcat_e, xir_r, Nat.reduceAdd, Nat.reduceLeDiff, Nat.zero_le, Nat.le_refl, ↓reduceIte, show (0 ≤ (60 : Int32).toInt ∧ (60 : Int32).toInt ≤ 100000) = True from eq_true (by decide), show (60 : Int32).toInt.toNat = 60 from rfl, hq_new, hq_1, cat_r, hp]
theorem fs_e : (((((((((((((((((((((((((xdv6.set 0 (.ref 59)).set 1 (.ref 60)).set 2 (.ref 61)).set 3 (.ref 62)).set 5 (.ref 63)).set 6 (.ref 64)).set 7 (.ref 65)).set 8 (.ref 66)).set 9 (.ref 67)).set 10 (.ref 68)).set 23 (.ref 69)).set 24 (.ref 70)).set 25 (.ref 71)).set 26 (.ref 72)).set 27 (.ref 73)).set 28 (.ref 74)).set 29 (.ref 75)).set 30 (.ref 76)).set 31 (.ref 77)).set 32 (.ref 78)).set 33 (.ref 79)).set 34 (.ref 80)).set 35 (.ref 81)).set 36 (.ref 82)).set 37 (.ref 83)) = moF (fun _ => 0) 0 := rfl
theorem m_all (S : SM 59 xdv6 F F0) : ∃ FF M, RF 110 ev 4 [some (.ref 58), none] [] (hq' 59 m F E) = RF 110 ev 215 [some (.ref 58), none] [] (hq' 84 M FF E) ∧ SM 84 (moF (fun _ => 0) 0) FF F0 ∧ M ≤ m + 3000 := by
  obtain ⟨F1, e1, S1⟩ := m_1 (ev := ev) (m := m) (E := E) rfl S
  obtain ⟨F2, e2, S2⟩ := m_2 (ev := ev) (m := m + 60) (E := E) rfl S1
  obtain ⟨F3, e3, S3⟩ := m_3 (ev := ev) (m := m + 60 + 60) (E := E) rfl S2
  obtain ⟨F4, e4, S4⟩ := m_4 (ev := ev) (m := m + 60 + 60 + 60) (E := E) rfl S3
  obtain ⟨F5, e5, S5⟩ := m_5 (ev := ev) (m := m + 60 + 60 + 60 + 60) (E := E) rfl S4
  obtain ⟨F6, e6, S6⟩ := m_6 (ev := ev) (m := m + 60 + 60 + 60 + 60 + 1344) (E := E) rfl S5
  obtain ⟨F7, e7, S7⟩ := m_7 (ev := ev) (m := m + 60 + 60 + 60 + 60 + 1344 + 14) (E := E) rfl S6
  obtain ⟨F8, e8, S8⟩ := m_8 (ev := ev) (m := m + 60 + 60 + 60 + 60 + 1344 + 14 + 14) (E := E) rfl S7
  obtain ⟨F9, e9, S9⟩ := m_9 (ev := ev) (m := m + 60 + 60 + 60 + 60 + 1344 + 14 + 14 + 14) (E := E) rfl S8
  obtain ⟨F10, e10, S10⟩ := m_10 (ev := ev) (m := m + 60 + 60 + 60 + 60 + 1344 + 14 + 14 + 14 + 96) (E := E) rfl S9
  obtain ⟨F11, e11, S11⟩ := m_11 (ev := ev) (m := m + 60 + 60 + 60 + 60 + 1344 + 14 + 14 + 14 + 96 + 96) (E := E) rfl S10
  obtain ⟨F12, e12, S12⟩ := m_12 (ev := ev) (m := m + 60 + 60 + 60 + 60 + 1344 + 14 + 14 + 14 + 96 + 96 + 96) (E := E) rfl S11
  obtain ⟨F13, e13, S13⟩ := m_13 (ev := ev) (m := m + 60 + 60 + 60 + 60 + 1344 + 14 + 14 + 14 + 96 + 96 + 96 + 4) (E := E) rfl S12
  obtain ⟨F14, e14, S14⟩ := m_14 (ev := ev) (m := m + 60 + 60 + 60 + 60 + 1344 + 14 + 14 + 14 + 96 + 96 + 96 + 4 + 4) (E := E) rfl S13
  obtain ⟨F15, e15, S15⟩ := m_15 (ev := ev) (m := m + 60 + 60 + 60 + 60 + 1344 + 14 + 14 + 14 + 96 + 96 + 96 + 4 + 4 + 96) (E := E) rfl S14
  obtain ⟨F16, e16, S16⟩ := m_16 (ev := ev) (m := m + 60 + 60 + 60 + 60 + 1344 + 14 + 14 + 14 + 96 + 96 + 96 + 4 + 4 + 96 + 96) (E := E) rfl S15
  obtain ⟨F17, e17, S17⟩ := m_17 (ev := ev) (m := m + 60 + 60 + 60 + 60 + 1344 + 14 + 14 + 14 + 96 + 96 + 96 + 4 + 4 + 96 + 96 + 12) (E := E) rfl S16
  obtain ⟨F18, e18, S18⟩ := m_18 (ev := ev) (m := m + 60 + 60 + 60 + 60 + 1344 + 14 + 14 + 14 + 96 + 96 + 96 + 4 + 4 + 96 + 96 + 12 + 24) (E := E) rfl S17
  obtain ⟨F19, e19, S19⟩ := m_19 (ev := ev) (m := m + 60 + 60 + 60 + 60 + 1344 + 14 + 14 + 14 + 96 + 96 + 96 + 4 + 4 + 96 + 96 + 12 + 24 + 24) (E := E) rfl S18
  obtain ⟨F20, e20, S20⟩ := m_20 (ev := ev) (m := m + 60 + 60 + 60 + 60 + 1344 + 14 + 14 + 14 + 96 + 96 + 96 + 4 + 4 + 96 + 96 + 12 + 24 + 24 + 5) (E := E) rfl S19
  obtain ⟨F21, e21, S21⟩ := m_21 (ev := ev) (m := m + 60 + 60 + 60 + 60 + 1344 + 14 + 14 + 14 + 96 + 96 + 96 + 4 + 4 + 96 + 96 + 12 + 24 + 24 + 5 + 5) (E := E) rfl S20
  obtain ⟨F22, e22, S22⟩ := m_22 (ev := ev) (m := m + 60 + 60 + 60 + 60 + 1344 + 14 + 14 + 14 + 96 + 96 + 96 + 4 + 4 + 96 + 96 + 12 + 24 + 24 + 5 + 5 + 5) (E := E) rfl S21
  obtain ⟨F23, e23, S23⟩ := m_23 (ev := ev) (m := m + 60 + 60 + 60 + 60 + 1344 + 14 + 14 + 14 + 96 + 96 + 96 + 4 + 4 + 96 + 96 + 12 + 24 + 24 + 5 + 5 + 5 + 5) (E := E) rfl S22
  obtain ⟨F24, e24, S24⟩ := m_24 (ev := ev) (m := m + 60 + 60 + 60 + 60 + 1344 + 14 + 14 + 14 + 96 + 96 + 96 + 4 + 4 + 96 + 96 + 12 + 24 + 24 + 5 + 5 + 5 + 5 + 120) (E := E) rfl S23
  obtain ⟨F25, e25, S25⟩ := m_25 (ev := ev) (m := m + 60 + 60 + 60 + 60 + 1344 + 14 + 14 + 14 + 96 + 96 + 96 + 4 + 4 + 96 + 96 + 12 + 24 + 24 + 5 + 5 + 5 + 5 + 120 + 120) (E := E) rfl S24
  rw [fs_e] at S25
  refine ⟨F25, m + 60 + 60 + 60 + 60 + 1344 + 14 + 14 + 14 + 96 + 96 + 96 + 4 + 4 + 96 + 96 + 12 + 24 + 24 + 5 + 5 + 5 + 5 + 120 + 120 + 60, ?_, S25, by omega⟩
  exact e1.trans (e2.trans (e3.trans (e4.trans (e5.trans (e6.trans (e7.trans (e8.trans (e9.trans (e10.trans (e11.trans (e12.trans (e13.trans (e14.trans (e15.trans (e16.trans (e17.trans (e18.trans (e19.trans (e20.trans (e21.trans (e22.trans (e23.trans (e24.trans (e25))))))))))))))))))))))))
def gD (x : Nat) : Nat → Int32 := fun i => if i = 2 then 10 else if i = 6 then 1 else if 8 ≤ i ∧ i < 8 + x then 20 else 0
theorem gD_0 : upd (upd (fun _ => 0) 2 10) 6 1 = gD 0 := by
  funext i
  unfold upd gD
  by_cases h6 : i = 6
  · subst h6
    rfl
  · rw [if_neg h6]
    by_cases h2 : i = 2
    · rw [if_pos h2, if_pos h2]
    · rw [if_neg h2, if_neg h2, if_neg h6, if_neg (by omega)]
theorem gD_s {x : Nat} : upd (gD x) (8 + x) 20 = gD (x + 1) := by
  funext i
  unfold upd gD
  by_cases h : i = 8 + x
  · rw [if_pos h, if_neg (by omega), if_neg (by omega), if_pos (by omega)]
  · rw [if_neg h]
    by_cases h2 : i = 2
    · rw [if_pos h2, if_pos h2]
    · rw [if_neg h2, if_neg h2]
      by_cases h6 : i = 6
      · rw [if_pos h6, if_pos h6]
      · rw [if_neg h6, if_neg h6]
        by_cases h3 : 8 ≤ i ∧ i < 8 + x
        · rw [if_pos h3, if_pos (by omega)]
        · rw [if_neg h3, if_neg (by omega)]
theorem gD_e : gD 12 = d0 := rfl
theorem m_loop (S : SM 84 (moF (fun _ => 0) 0) F F0) : ∀ j t, t + j = 12 → RF 110 ev 233 [some (.ref 58), some (.int (nI t))] [] (hq' 84 M (va_up F 59 (.inl (0, 60, gD t))) E) = some (none, hq' 84 M (va_up F 59 (.inl (0, 60, gD 12))) E)
  | 0, t, e => by
    have e' : t = 12 := by omega
    subst e'
    simp only [S110_233, S110_234, S110_236, S110_256, Option.bind_some, Option.map_some, xpush_s, xpush_n, xcat_0, xcat_i, xcat_r, xcat_l, xcat_n, xcat_e, xir_r, Nat.reduceAdd, Nat.reduceLeDiff, Nat.zero_le, Nat.le_refl, ↓reduceIte, show ((12 : Int32) ≤ nI 12) = True from eq_true (by decide)]
  | j + 1, t, e => by
    have ih := m_loop S j (t + 1) (by omega)
    have hc : ¬ (12 : Int32) ≤ nI t := nI_ge (b := 12) (by omega) (by decide)
    have hg : hgf (hq' 84 M (va_up F 59 (.inl (0, 60, gD t))) E) (.ref 58) 6 0 = some (.ref 59) := (hq_gf (by rw [vu_n _ _ (by omega)]; exact S.1)).trans rfl
    have ha : (8 : Int32) + nI t = nI (8 + t) := nI_add 8 t
    have hw := hq_wr (P := 84) (m := M) (E := E) (F := va_up F 59 (.inl (0, 60, gD t))) (k := 59) (x := 20) (vu_s _ _ _) (xix_n (k := 8 + t) (n := 60) (by omega) (by decide))
    rw [vu_u, gD_s] at hw
    rw [S110_233]
    simp only [S110_234, S110_236, S110_239, S110_240, S110_243, S110_245, S110_246, S110_247, S110_249, S110_250, S110_253, Option.bind_some, Option.map_some, xpush_s, xpush_n, xcat_0, xcat_i, xcat_r, xcat_l, xcat_n, xcat_e, xir_r, Nat.reduceAdd, Nat.reduceLeDiff, Nat.zero_le, Nat.le_refl, ↓reduceIte, hc, hg, ha, hw, nI_1]
    exact ih
theorem m_end (d : Nat) (S : SM 59 xdv6 F F0) : ∃ FF M, Ev (d + 1) 110 [.ref 58] (hq' 59 m F E) = some (none, hq' 84 M FF E) ∧ FF 58 = .inr (.inr (6, moF (fun _ => 0) 0)) ∧ (∀ q, 58 < q → q < 84 → FF q = .inl (mkd (q - 58), mln (q - 58), if q = 59 then d0 else a1 (q - 58))) ∧ (∀ q, 84 ≤ q → FF q = xnil) ∧ (∀ q, q < 58 → FF q = F0 q) ∧ M ≤ m + 3000 := by
  obtain ⟨G, M, e1, S1, hM⟩ := m_all (ev := Ev d) (m := m) (E := E) S
  have e2 := m_loop (ev := Ev d) (M := M) (E := E) S1 12 0 rfl
  have g59 : G 59 = .inl (0, 60, fun _ => 0) := S1.2.1 59 (by decide) (by decide)
  have hg1 : hgf (hq' 84 M G E) (.ref 58) 6 0 = some (.ref 59) := (hq_gf S1.1).trans rfl
  have hw1 := hq_wr (P := 84) (m := M) (E := E) (x := 10) g59 (show xix 2 60 = some 2 from rfl)
  have hg2 : hgf (hq' 84 M (va_up G 59 (.inl (0, 60, upd (fun _ => 0) 2 10))) E) (.ref 58) 6 0 = some (.ref 59) := (hq_gf (by rw [vu_n _ _ (by omega)]; exact S1.1)).trans rfl
  have hw2' := hq_wr (P := 84) (m := M) (E := E) (F := va_up G 59 (.inl (0, 60, upd (fun _ => 0) 2 10))) (k := 59) (x := 1) (vu_s _ _ _) (show xix 6 60 = some 6 from rfl)
  rw [vu_u, gD_0] at hw2'
  have a0 : RF 110 (Ev d) 0 [some (.ref 58), none] [] (hq' 59 m F E) = RF 110 (Ev d) 4 [some (.ref 58), none] [] (hq' 59 m F E) := by
    simp only [S110_0, S110_1, Option.bind_some, Option.map_some, xpush_s, xpush_n, xcat_0, xcat_i, xcat_r, xcat_l, xcat_n, xcat_e, xir_r, Nat.reduceAdd, Nat.reduceLeDiff, Nat.zero_le, Nat.le_refl, ↓reduceIte]
  have b0 : RF 110 (Ev d) 215 [some (.ref 58), none] [] (hq' 84 M G E) = RF 110 (Ev d) 233 [some (.ref 58), some (.int 0)] [] (hq' 84 M (va_up G 59 (.inl (0, 60, gD 0))) E) := by
    simp only [S110_215, S110_216, S110_219, S110_220, S110_222, S110_223, S110_224, S110_227, S110_229, S110_230, S110_231, S110_232, Option.bind_some, Option.map_some, xpush_s, xpush_n, xcat_0, xcat_i, xcat_r, xcat_l, xcat_n, xcat_e, xir_r, Nat.reduceAdd, Nat.reduceLeDiff, Nat.zero_le, Nat.le_refl, ↓reduceIte, hg1, hw1, hg2, hw2']
  refine ⟨va_up G 59 (.inl (0, 60, gD 12)), M, (E110 d 58 _).trans (a0.trans (e1.trans (b0.trans e2))), ?_, ?_, ?_, ?_, hM⟩
  · rw [vu_n _ _ (by omega)]
    exact S1.1
  · intro q q1 q2
    by_cases h : q = 59
    · subst h
      rw [vu_s, gD_e]
      rfl
    · rw [vu_n _ _ h, if_neg h]
      exact S1.2.1 q q1 q2
  · intro q q1
    rw [vu_n _ _ (by omega)]
    exact S1.2.2.1 q q1
  · intro q q1
    rw [vu_n _ _ (by omega)]
    exact S1.2.2.2 q q1
end MIN
