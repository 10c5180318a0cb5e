/-! part 39: the reference's signs, steps, names -/
theorem lg_eq (x y : Int64) : (lg_cmp x y = 0) = (x = y) := by
  apply propext
  unfold lg_cmp
  by_cases h1 : x > y
  · rw [if_pos h1]
    constructor
    · intro h; exact absurd h (by decide)
    · intro h; rw [h] at h1; exact absurd h1 Int64.lt_irrefl
  · rw [if_neg h1]
    by_cases h2 : x = y
    · rw [if_pos h2]; exact ⟨fun _ => h2, fun _ => rfl⟩
    · rw [if_neg h2]
      constructor
      · intro h; exact absurd h (by decide)
      · intro h; exact absurd h h2
theorem lg_le (x y : Int64) : (0 ≤ lg_cmp x y) = (y ≤ x) := by
  rw [← Int32.not_lt, lg_lt, Int64.not_lt]
theorem l32 (x : Int32) : x.toInt64.toInt32 = x := by
  apply Int32.toInt_inj.mp
  rw [Int64.toInt_toInt32, Int32.toInt_toInt64]
  exact Int32.toInt_bmod_size x
/-- the reference with what is looked at -/
def mk' (a : Nat → Nat → Int32) (s C : Nat → Int32) (l : lk) (co wo ke op no wr : Int32) (b : Nat) (H : xh) : xh := pm a s C (nI l.2.1) (nI l.1) (nI (tkn l)) co wo ke op no wr (nI b) (vlu (a 10) l) H
section MSIG
variable {a : Nat → Nat → Int32} {s C : Nat → Int32} {pa be to co wo ke op no wr bw : Int32} {w : Int64} {H : xh} {k b : Nat} {l : lk}
theorem tkn_3 (hl : okl (a 10) k l) : nI (tkn l) = 3 ↔ l.2.2.1 = 3 := by
  have ht : l.2.2.1 ≤ 3 := by rw [hl.2.2.1]; exact tya_le _ _ _
  unfold tkn
  by_cases h : l.2.2.2 = true
  · rw [if_pos h]
    have hw := (isW_i _).mp (hl.2.2.2.2.2.2.2 h)
    constructor
    · intro q; exact absurd q (by decide)
    · intro q; omega
  · rw [if_neg h]
    exact nI_eq (b := 3) (by omega) (by decide)
theorem p_isSign (d : Nat) (hl : okl (a 10) k l) {c : Int32} (hc : c ≠ -1) : Ev (d + 1) 179 [.ref 58, .int c] (mk' a s C l co wo ke op no 0 b H) = some (some (.int (bi (sg (a 10) l = c))), mk' a s C l co wo ke op no 0 b H) := by
  rw [E179]
  have h3 := tkn_3 hl
  by_cases h : l.2.2.1 = 3
  · have e3 : nI (tkn l) = 3 := h3.mpr h
    have hv : vlu (a 10) l = (a 10 l.1).toInt64 := by
      unfold vlu
      rw [if_neg (by omega), if_neg (by omega), if_neg (by omega)]
    have hs : sg (a 10) l = a 10 l.1 := if_pos h
    unfold mk'
    rw [hv, hs]
    by_cases e : a 10 l.1 = c
    · rw [bi_t e]
      simp only [S179_0, S179_1, S179_4, S179_5, S179_8, S179_9, S179_12, S179_13, S179_14, S179_15, S179_18, S179_19, S179_22, S179_25, S179_26, S179_29, S179_30, Option.bind_some, Option.map_some, xpush_s, xpush_n, xcat_0, xcat_i, xcat_r, xcat_l, xcat_n, xcat_e, xir_r, Nat.reduceAdd, Nat.reduceLeDiff, Nat.zero_le, Nat.le_refl, ↓reduceIte, Pg_14, Pg_15, Pg_21, if_pos e3, lg_eq, l_eq, if_pos e, nar_1]
    · rw [bi_f e]
      simp only [S179_0, S179_1, S179_4, S179_5, S179_8, S179_9, S179_12, S179_13, S179_14, S179_15, S179_18, S179_19, S179_22, S179_25, S179_26, S179_29, S179_30, Option.bind_some, Option.map_some, xpush_s, xpush_n, xcat_0, xcat_i, xcat_r, xcat_l, xcat_n, xcat_e, xir_r, Nat.reduceAdd, Nat.reduceLeDiff, Nat.zero_le, Nat.le_refl, ↓reduceIte, Pg_14, Pg_15, Pg_21, if_pos e3, lg_eq, l_eq, if_neg e, nar_0]
  · have e3 : ¬ nI (tkn l) = 3 := fun q => h (h3.mp q)
    have hs : sg (a 10) l = -1 := if_neg h
    rw [hs, bi_f (fun q => hc q.symm)]
    unfold mk'
    simp only [S179_0, S179_1, S179_4, S179_5, S179_8, S179_9, S179_12, S179_13, S179_14, S179_15, S179_18, S179_19, S179_22, S179_25, S179_26, S179_29, S179_30, Option.bind_some, Option.map_some, xpush_s, xpush_n, xcat_0, xcat_i, xcat_r, xcat_l, xcat_n, xcat_e, xir_r, Nat.reduceAdd, Nat.reduceLeDiff, Nat.zero_le, Nat.le_refl, ↓reduceIte, Pg_14, if_neg e3, nar_0]
theorem p_isSignW (d : Nat) (c : Int32) : Ev (d + 1) 179 [.ref 58, .int c] (pm a s C pa be to co wo ke op no 1 bw w H) = some (some (.int 0), pm a s C pa be to co wo ke op no 1 bw w H) := by
  rw [E179]
  by_cases e3 : to = 3
  · by_cases e : w = c.toInt64
    · simp only [S179_0, S179_1, S179_4, S179_5, S179_8, S179_9, S179_12, S179_13, S179_14, S179_15, S179_18, S179_19, S179_22, S179_25, S179_26, S179_29, S179_30, Option.bind_some, Option.map_some, xpush_s, xpush_n, xcat_0, xcat_i, xcat_r, xcat_l, xcat_n, xcat_e, xir_r, Nat.reduceAdd, Nat.reduceLeDiff, Nat.zero_le, Nat.le_refl, ↓reduceIte, Pg_14, Pg_15, Pg_21, if_pos e3, lg_eq, if_pos e, show ¬ (1 : Int32) = 0 by decide, nar_0]
    · simp only [S179_0, S179_1, S179_4, S179_5, S179_8, S179_9, S179_12, S179_13, S179_14, S179_15, S179_18, S179_19, S179_22, S179_25, S179_26, S179_29, S179_30, Option.bind_some, Option.map_some, xpush_s, xpush_n, xcat_0, xcat_i, xcat_r, xcat_l, xcat_n, xcat_e, xir_r, Nat.reduceAdd, Nat.reduceLeDiff, Nat.zero_le, Nat.le_refl, ↓reduceIte, Pg_14, Pg_15, Pg_21, if_pos e3, lg_eq, if_neg e, nar_0]
  · simp only [S179_0, S179_1, S179_4, S179_5, S179_8, S179_9, S179_12, S179_13, S179_14, S179_15, S179_18, S179_19, S179_22, S179_25, S179_26, S179_29, S179_30, Option.bind_some, Option.map_some, xpush_s, xpush_n, xcat_0, xcat_i, xcat_r, xcat_l, xcat_n, xcat_e, xir_r, Nat.reduceAdd, Nat.reduceLeDiff, Nat.zero_le, Nat.le_refl, ↓reduceIte, Pg_14, if_neg e3, nar_0]
theorem p_lays (d : Nat) {z : Nat} (hz : z < 96) (v : Int32) : Ev (d + 1) 180 [.ref 58, .int v] (pm a s C pa be to (nI z) wo ke op no 0 bw w H) = some (none, pm a s (upd C z v) pa be to (nI (z + 1)) wo ke op no 0 bw w H) := by
  rw [E180]
  simp only [S180_0, S180_1, S180_4, S180_7, S180_8, S180_11, S180_12, S180_15, S180_16, S180_17, S180_18, S180_19, S180_22, S180_23, S180_24, S180_27, Option.bind_some, Option.map_some, xpush_s, xpush_n, xcat_0, xcat_i, xcat_r, xcat_l, xcat_n, xcat_e, xir_r, Nat.reduceAdd, Nat.reduceLeDiff, Nat.zero_le, Nat.le_refl, ↓reduceIte, Pg_21, Pg_23, Pg_16, Pw_11, xix_n hz (show 96 ≤ 100000 by decide), Pp_16, cat_r, nI_1]
theorem p_laysW (d : Nat) (v : Int32) : Ev (d + 1) 180 [.ref 58, .int v] (pm a s C pa be to co wo ke op no 1 bw w H) = some (none, pm a s C pa be to co wo ke op no 1 bw w H) := by
  rw [E180]
  simp only [S180_0, S180_1, S180_4, S180_7, S180_8, S180_11, S180_12, S180_15, S180_16, S180_17, S180_18, S180_19, S180_22, S180_23, S180_24, S180_27, Option.bind_some, Option.map_some, xpush_s, xpush_n, xcat_0, xcat_i, xcat_r, xcat_l, xcat_n, xcat_e, xir_r, Nat.reduceAdd, Nat.reduceLeDiff, Nat.zero_le, Nat.le_refl, ↓reduceIte, Pg_21, show ¬ (1 : Int32) = 0 by decide]
theorem p_goesF (d : Nat) : Ev (d + 1) 172 [.ref 58, .int 0] (pm a s C pa be to co wo ke op no 0 bw w H) = some (none, pm a s C pa be to co wo ke op no 1 bw w H) := by
  rw [E172]
  simp only [S172_0, S172_1, S172_2, S172_5, S172_8, S172_9, S172_12, S172_13, S172_16, S172_17, S172_20, S172_21, S172_24, S172_27, S172_28, S172_31, Option.bind_some, Option.map_some, xpush_s, xpush_n, xcat_0, xcat_i, xcat_r, xcat_l, xcat_n, xcat_e, xir_r, Nat.reduceAdd, Nat.reduceLeDiff, Nat.zero_le, Nat.le_refl, ↓reduceIte, Pg_21, Pp_21, show ¬ (1 : Int32) = 0 by decide, or_true]
theorem p_goesW (d : Nat) (x : Int32) : Ev (d + 1) 172 [.ref 58, .int x] (pm a s C pa be to co wo ke op no 1 bw w H) = some (none, pm a s C pa be to co wo ke op no 1 bw w H) := by
  rw [E172]
  simp only [S172_0, S172_1, S172_2, S172_5, S172_8, S172_9, S172_12, S172_13, S172_16, S172_17, S172_20, S172_21, S172_24, S172_27, S172_28, S172_31, Option.bind_some, Option.map_some, xpush_s, xpush_n, xcat_0, xcat_i, xcat_r, xcat_l, xcat_n, xcat_e, xir_r, Nat.reduceAdd, Nat.reduceLeDiff, Nat.zero_le, Nat.le_refl, ↓reduceIte, Pg_21, Pp_21, show ¬ (1 : Int32) = 0 by decide, or_true]
theorem p_nextK (d : Nat) (hk : k ≤ 96) (hs : s 11 = nI k) (hb : bwk k l b) : ∃ b', bwk k (nxk (a 10) k l) b' ∧ Ev (d + 3) 170 [.ref 58] (mk' a s C l co wo ke op no wr b H) = some (none, mk' a s C (nxk (a 10) k l) co wo ke op no wr b' H) := ⟨_, bwk_nxk hb, p_next d hk hs hb⟩
theorem p_goesT (d : Nat) (hk : k ≤ 96) (hs : s 11 = nI k) (hb : bwk k l b) : ∃ b', bwk k (nxk (a 10) k l) b' ∧ Ev (d + 4) 172 [.ref 58, .int 1] (mk' a s C l co wo ke op no 0 b H) = some (none, mk' a s C (nxk (a 10) k l) co wo ke op no 0 b' H) := by
  obtain ⟨b', h1, h2⟩ := p_nextK (a := a) (C := C) (co := co) (wo := wo) (ke := ke) (op := op) (no := no) (wr := 0) (H := H) d hk hs hb
  refine ⟨b', h1, ?_⟩
  rw [E172]
  unfold mk' at h2 ⊢
  simp only [S172_0, S172_1, S172_2, S172_5, S172_8, S172_9, S172_12, S172_13, S172_16, S172_17, S172_20, S172_21, S172_24, S172_27, S172_28, S172_31, Option.bind_some, Option.map_some, xpush_s, xpush_n, xcat_0, xcat_i, xcat_r, xcat_l, xcat_n, xcat_e, xir_r, Nat.reduceAdd, Nat.reduceLeDiff, Nat.zero_le, Nat.le_refl, ↓reduceIte, Pg_21, Pp_21, Pcls, show ¬ (1 : Int32) = 0 by decide, true_or, h2]
/-- the name of what is looked at -/
def nmM (B : Nat → Int32) (key : Nat) (l : lk) : Option Nat := if l.2.2.2 = true then none else if l.2.2.1 = 1 then (if l.2.1 - l.1 = 1 then nmx key (B l.1) else none) else none
theorem vL_1 (hl : okl (a 10) k l) (h1 : l.2.2.1 = 1) : (l.2.1 - l.1 = 1 ∧ ∃ c, 97 ≤ c ∧ c ≤ 122 ∧ a 10 l.1 = nI c ∧ vlu (a 10) l = lN (c - 96)) ∨ (l.2.1 - l.1 ≠ 1 ∧ (26 < vlu (a 10) l ∨ vlu (a 10) l < 1)) := by
  have hw := hl.2.2.2.2.2.2.1 (by rw [h1]; rfl)
  rw [h1] at hw
  have hlt := hl.2.2.2.1 (by omega)
  have hv : vlu (a 10) l = vL (a 10) l.1 (l.2.1 - l.1) := by
    unfold vlu
    rw [if_neg (by omega), if_pos h1]
  rw [hv]
  by_cases e : l.2.1 - l.1 = 1
  · obtain ⟨c, c1, c2, ec⟩ := nn_ty1 (hw l.1 (by omega) (by omega))
    refine Or.inl ⟨e, c, c1, c2, ec, ?_⟩
    unfold vL
    rw [e, if_pos (by decide)]
    show lN (27 * 0 + (nn (a 10 (l.1 + 0)) - 96)) = _
    rw [Nat.add_zero, ec, nn_nI (by omega)]
    congr 1
    omega
  · refine Or.inr ⟨e, ?_⟩
    unfold vL
    by_cases h9 : l.2.1 - l.1 ≤ 9
    · rw [if_pos h9]
      left
      have hlow : ∀ m, m + 2 ≤ l.2.1 - l.1 → 27 < hsv (a 10) l.1 (m + 2) := by
        intro m
        induction m with
        | zero =>
          intro hm
          obtain ⟨c, c1, c2, ec⟩ := nn_ty1 (hw (l.1 + 0) (by omega) (by omega))
          obtain ⟨c', c1', c2', ec'⟩ := nn_ty1 (hw (l.1 + 1) (by omega) (by omega))
          show 27 < 27 * (27 * 0 + (nn (a 10 (l.1 + 0)) - 96)) + (nn (a 10 (l.1 + 1)) - 96)
          rw [ec, ec', nn_nI (by omega), nn_nI (by omega)]
          omega
        | succ m ih =>
          intro hm
          have := ih (by omega)
          show 27 < 27 * hsv (a 10) l.1 (m + 2) + (nn (a 10 (l.1 + (m + 2))) - 96)
          omega
      have h27 := hlow (l.2.1 - l.1 - 2) (by omega)
      rw [show l.2.1 - l.1 - 2 + 2 = l.2.1 - l.1 by omega] at h27
      have hub := hsv_lt (B := a 10) (s := l.1) (l.2.1 - l.1) (fun e h1 h2 => hw e h1 (by omega))
      have hpw : 27 ^ (l.2.1 - l.1) ≤ 27 ^ 9 := Nat.pow_le_pow_right (by decide) h9
      rw [show (26 : Int64) = lN 26 from rfl, pk_lLT (by decide) (by omega)]
      omega
    · rw [if_neg h9]
      right
      decide
theorem p_name (d : Nat) {key : Nat} (hkey : key ≤ 2) (hl : okl (a 10) k l) : Ev (d + 1) 181 [.ref 58] (mk' a s C l co wo (nI key) op no wr b H) = some (some (.int (nmJ (nmM (a 10) key l))), mk' a s C l co wo (nI key) op no wr b H) := by
  have ht : l.2.2.1 ≤ 3 := by rw [hl.2.2.1]; exact tya_le _ _ _
  rw [E181]
  unfold nmM
  by_cases hb : l.2.2.2 = true
  · have e : ¬ nI (tkn l) = 1 := by unfold tkn; rw [if_pos hb]; decide
    rw [if_pos hb]
    unfold mk'
    simp only [S181_0, S181_1, S181_4, S181_5, S181_8, S181_9, S181_12, S181_15, S181_16, S181_19, S181_20, S181_23, S181_24, S181_25, S181_28, S181_29, S181_30, S181_33, S181_34, S181_37, S181_38, S181_39, S181_40, S181_41, S181_42, S181_43, S181_44, S181_47, S181_50, S181_51, S181_53, S181_56, S181_57, S181_60, S181_61, S181_63, S181_66, S181_67, S181_70, S181_71, S181_73, S181_76, S181_77, S181_80, S181_81, S181_83, S181_86, S181_87, S181_90, S181_91, S181_92, S181_93, S181_96, S181_97, S181_100, S181_101, S181_103, S181_106, S181_107, S181_110, S181_111, S181_113, S181_116, S181_117, S181_120, S181_121, S181_122, S181_123, S181_125, S181_128, S181_129, S181_132, S181_133, S181_135, S181_138, S181_139, S181_142, S181_143, Option.bind_some, Option.map_some, xpush_s, xpush_n, xcat_0, xcat_i, xcat_r, xcat_l, xcat_n, xcat_e, xir_r, Nat.reduceAdd, Nat.reduceLeDiff, Nat.zero_le, Nat.le_refl, ↓reduceIte, Pg_14, if_neg e]
    rfl
  · rw [if_neg hb]
    have et : tkn l = l.2.2.1 := if_neg hb
    by_cases h1 : l.2.2.1 = 1
    · rw [if_pos h1]
      have e : nI (tkn l) = 1 := by rw [et, h1]; rfl
      rcases vL_1 hl h1 with ⟨q1, c, c1, c2, ec, ev⟩ | ⟨q1, q2⟩
      · rw [if_pos q1, ec]
        have g1 : ¬ 26 < lN (c - 96) := by rw [show (26 : Int64) = lN 26 from rfl, pk_lLT (by decide) (by omega)]; omega
        have g2 : 1 ≤ lN (c - 96) := by rw [show (1 : Int64) = lN 1 from rfl, pk_lLE (by decide) (by omega)]; omega
        have g3 : (97 + lN (c - 96) - 1).toInt32 = nI c := by
          rw [show (97 : Int64) = lN 97 from rfl, show (1 : Int64) = lN 1 from rfl, lN_add, lN_sub (by omega), lN_i, show 97 + (c - 96) - 1 = c by omega]
        have g4 := (ch_n c (by omega)).2.1
        have en : ∀ q, q < 128 → (nI c = nI q ↔ c = q) := fun q hq => nI_eq (by omega) (by omega)
        unfold mk'
        rw [ev]
        have pre : RF 181 (Ev d) 0 [some (.ref 58), none] [] (pm a s C (nI l.2.1) (nI l.1) (nI (tkn l)) co wo (nI key) op no wr (nI b) (lN (c - 96)) H) = RF 181 (Ev d) 43 [some (.ref 58), some (.int (nI c))] [] (pm a s C (nI l.2.1) (nI l.1) (nI (tkn l)) co wo (nI key) op no wr (nI b) (lN (c - 96)) H) := by
          simp only [S181_0, S181_1, S181_4, S181_5, S181_8, S181_9, S181_12, S181_15, S181_16, S181_19, S181_20, S181_23, S181_24, S181_25, S181_28, S181_29, S181_30, S181_33, S181_34, S181_37, S181_38, S181_39, S181_40, S181_41, S181_42, Option.bind_some, Option.map_some, xpush_s, xpush_n, xcat_0, xcat_i, xcat_r, xcat_l, xcat_n, xcat_e, xir_r, Nat.reduceAdd, Nat.reduceLeDiff, Nat.zero_le, Nat.le_refl, ↓reduceIte, Pg_14, Pg_15, if_pos e, lg_gt, lg_le, g1, g2, g3, g4]
        rw [pre]
        match key, hkey with
        | 0, _ =>
          show _ = some (some (Value.int (nmJ (if nI c = 105 then some 0 else if nI c = 119 then some 1 else if nI c = 116 then some 2 else if nI c = 110 then some 3 else none))), _)
          simp only [S181_43, S181_44, S181_47, S181_50, S181_51, S181_53, S181_56, S181_57, S181_60, S181_61, S181_63, S181_66, S181_67, S181_70, S181_71, S181_73, S181_76, S181_77, S181_80, S181_81, S181_83, S181_86, S181_87, S181_90, S181_91, Option.bind_some, Option.map_some, xpush_s, xpush_n, xcat_0, xcat_i, xcat_r, xcat_l, xcat_n, xcat_e, xir_r, Nat.reduceAdd, Nat.reduceLeDiff, Nat.zero_le, Nat.le_refl, ↓reduceIte, Pg_18, show (nI 0 = 0) = True from eq_true rfl]
          split
          · rfl
          · split
            · rfl
            · split
              · rfl
              · split <;> rfl
        | 1, _ =>
          show _ = some (some (Value.int (nmJ (if nI c = 115 then some 0 else if nI c = 102 then some 1 else none))), _)
          simp only [S181_43, S181_44, S181_47, S181_92, S181_93, S181_96, S181_97, S181_100, S181_101, S181_103, S181_106, S181_107, S181_110, S181_111, S181_113, S181_116, S181_117, S181_120, S181_121, Option.bind_some, Option.map_some, xpush_s, xpush_n, xcat_0, xcat_i, xcat_r, xcat_l, xcat_n, xcat_e, xir_r, Nat.reduceAdd, Nat.reduceLeDiff, Nat.zero_le, Nat.le_refl, ↓reduceIte, Pg_18, show ¬ nI 1 = 0 by decide, show (nI 1 = 1) = True from eq_true rfl]
          split
          · rfl
          · split <;> rfl
        | 2, _ =>
          show _ = some (some (Value.int (nmJ (if nI c = 105 then some 0 else if nI c = 116 then some 1 else none))), _)
          simp only [S181_43, S181_44, S181_47, S181_92, S181_93, S181_96, S181_97, S181_122, S181_123, S181_125, S181_128, S181_129, S181_132, S181_133, S181_135, S181_138, S181_139, S181_142, S181_143, Option.bind_some, Option.map_some, xpush_s, xpush_n, xcat_0, xcat_i, xcat_r, xcat_l, xcat_n, xcat_e, xir_r, Nat.reduceAdd, Nat.reduceLeDiff, Nat.zero_le, Nat.le_refl, ↓reduceIte, Pg_18, show ¬ nI 2 = 0 by decide, show ¬ nI 2 = 1 by decide]
          split
          · rfl
          · split <;> rfl
      · rw [if_neg q1]
        unfold mk'
        rcases q2 with q2 | q2
        · simp only [S181_0, S181_1, S181_4, S181_5, S181_8, S181_9, S181_12, S181_15, S181_16, S181_19, S181_20, S181_23, S181_24, S181_25, S181_28, S181_29, S181_30, S181_33, S181_34, S181_37, S181_38, S181_39, S181_40, S181_41, S181_42, S181_43, S181_44, S181_47, S181_50, S181_51, S181_53, S181_56, S181_57, S181_60, S181_61, S181_63, S181_66, S181_67, S181_70, S181_71, S181_73, S181_76, S181_77, S181_80, S181_81, S181_83, S181_86, S181_87, S181_90, S181_91, S181_92, S181_93, S181_96, S181_97, S181_100, S181_101, S181_103, S181_106, S181_107, S181_110, S181_111, S181_113, S181_116, S181_117, S181_120, S181_121, S181_122, S181_123, S181_125, S181_128, S181_129, S181_132, S181_133, S181_135, S181_138, S181_139, S181_142, S181_143, Option.bind_some, Option.map_some, xpush_s, xpush_n, xcat_0, xcat_i, xcat_r, xcat_l, xcat_n, xcat_e, xir_r, Nat.reduceAdd, Nat.reduceLeDiff, Nat.zero_le, Nat.le_refl, ↓reduceIte, Pg_14, Pg_15, if_pos e, lg_gt, q2]
          rfl
        · have q3 : ¬ 26 < vlu (a 10) l := fun z => absurd (Int64.lt_trans z q2) (by decide)
          have q4 : ¬ 1 ≤ vlu (a 10) l := Int64.not_le.mpr q2
          simp only [S181_0, S181_1, S181_4, S181_5, S181_8, S181_9, S181_12, S181_15, S181_16, S181_19, S181_20, S181_23, S181_24, S181_25, S181_28, S181_29, S181_30, S181_33, S181_34, S181_37, S181_38, S181_39, S181_40, S181_41, S181_42, S181_43, S181_44, S181_47, S181_50, S181_51, S181_53, S181_56, S181_57, S181_60, S181_61, S181_63, S181_66, S181_67, S181_70, S181_71, S181_73, S181_76, S181_77, S181_80, S181_81, S181_83, S181_86, S181_87, S181_90, S181_91, S181_92, S181_93, S181_96, S181_97, S181_100, S181_101, S181_103, S181_106, S181_107, S181_110, S181_111, S181_113, S181_116, S181_117, S181_120, S181_121, S181_122, S181_123, S181_125, S181_128, S181_129, S181_132, S181_133, S181_135, S181_138, S181_139, S181_142, S181_143, Option.bind_some, Option.map_some, xpush_s, xpush_n, xcat_0, xcat_i, xcat_r, xcat_l, xcat_n, xcat_e, xir_r, Nat.reduceAdd, Nat.reduceLeDiff, Nat.zero_le, Nat.le_refl, ↓reduceIte, Pg_14, Pg_15, if_pos e, lg_gt, lg_le, q3, q4]
          rfl
    · have e : ¬ nI (tkn l) = 1 := fun q => h1 ((nI_eq (b := 1) (by omega) (by decide)).mp (by rw [← et]; exact q))
      rw [if_neg h1]
      unfold mk'
      simp only [S181_0, S181_1, S181_4, S181_5, S181_8, S181_9, S181_12, S181_15, S181_16, S181_19, S181_20, S181_23, S181_24, S181_25, S181_28, S181_29, S181_30, S181_33, S181_34, S181_37, S181_38, S181_39, S181_40, S181_41, S181_42, S181_43, S181_44, S181_47, S181_50, S181_51, S181_53, S181_56, S181_57, S181_60, S181_61, S181_63, S181_66, S181_67, S181_70, S181_71, S181_73, S181_76, S181_77, S181_80, S181_81, S181_83, S181_86, S181_87, S181_90, S181_91, S181_92, S181_93, S181_96, S181_97, S181_100, S181_101, S181_103, S181_106, S181_107, S181_110, S181_111, S181_113, S181_116, S181_117, S181_120, S181_121, S181_122, S181_123, S181_125, S181_128, S181_129, S181_132, S181_133, S181_135, S181_138, S181_139, S181_142, S181_143, Option.bind_some, Option.map_some, xpush_s, xpush_n, xcat_0, xcat_i, xcat_r, xcat_l, xcat_n, xcat_e, xir_r, Nat.reduceAdd, Nat.reduceLeDiff, Nat.zero_le, Nat.le_refl, ↓reduceIte, Pg_14, if_neg e]
      rfl
end MSIG
