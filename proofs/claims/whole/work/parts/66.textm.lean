/-! part 66: the reference reads a text and keeps it -/
section TXM
variable {a : Nat → Nat → Int32} {s C : Nat → Int32} {pa be to co wo ke op no wr bw : Int32} {w : Int64} {H : xh} {k b : Nat} {l : lk}
theorem ms_self (s : Nat → Int32) : ms s (s 12) (s 13) (s 14) (s 16) (s 17) (s 18) (s 19) (s 20) (s 21) (s 22) = s := by
  funext q
  unfold ms
  repeat' split
  all_goals first | rfl | (subst_vars; rfl)
theorem pm_of : mh a s w H = pm a s (a 11) (s 12) (s 13) (s 14) (s 16) (s 17) (s 18) (s 19) (s 20) (s 21) (s 22) w H := by
  unfold pm
  rw [vu_self, ms_self]
theorem ms_11 (x : Int32) : upd (ms s pa be to co wo ke op no wr bw) 11 x = ms (upd s 11 x) pa be to co wo ke op no wr bw := by
  funext q
  by_cases h : q = 11
  · subst h
    rw [up_s]
    exact (up_s s 11 x).symm
  · rw [up_n _ _ h]
    unfold ms
    rw [up_n _ _ h]
theorem Pp_11 (x : Int32) : hpf (pm a s C pa be to co wo ke op no wr bw w H) (.ref 58) 6 11 (.int x) = some (pm a (upd s 11 x) C pa be to co wo ke op no wr bw w H) := by unfold pm; rw [Mp_11, ms_11]
theorem lg_e0 (x y : Int64) : (lg_cmp x y = 0) = (x = y) := lg_eq x y
theorem p_key (ev : xe) {l1 l2 : Option Value} (hl : okl (a 10) k l) (hf : l.2.2.2 = false) : RF 169 ev 39 [some (.ref 58), l1, l2] [] (mk' a s C l co wo ke op no wr b H) = RF 169 ev 113 [some (.ref 58), l1, l2] [] (mk' a s C l co wo (oI (keyV (a 10) l)) op no wr b H) := by
  have et : tkn l = l.2.2.1 := if_neg (by rw [hf]; decide)
  have ht : l.2.2.1 ≤ 3 := by rw [hl.2.2.1]; exact tya_le _ _ _
  have hp18 : ∀ x, hpf (mk' a s C l co wo ke op no wr b H) (.ref 58) 6 18 (.int x) = some (mk' a s C l co wo x op no wr b H) := fun x => Pp_18 x
  by_cases h1 : l.2.2.1 = 1
  · have e : (nI (tkn l) = 1) = True := eq_true (by rw [et, h1]; rfl)
    by_cases h9 : l.2.1 - l.1 ≤ 9
    · have hv : vlu (a 10) l = lN (hsv (a 10) l.1 (l.2.1 - l.1)) := by
        unfold vlu
        rw [if_neg (by omega), if_pos h1]
        exact if_pos h9
      have hlt : hsv (a 10) l.1 (l.2.1 - l.1) < 27 ^ (l.2.1 - l.1) := hsv_lt _ (fun e h2 h3 => by
        have := hl.2.2.2.2.2.2.1 (by rw [h1]; rfl) e h2 (by have := hl.1; omega)
        rw [this, h1])
      have hle : 27 ^ (l.2.1 - l.1) ≤ 27 ^ 9 := Nat.pow_le_pow_right (by decide) h9
      have hle' : hsv (a 10) l.1 (l.2.1 - l.1) < 2 ^ 63 := Nat.lt_of_lt_of_le (Nat.lt_of_lt_of_le hlt hle) (by decide)
      have c0 : (lN (hsv (a 10) l.1 (l.2.1 - l.1)) = 283623584) ↔ hsv (a 10) l.1 (l.2.1 - l.1) = 283623584 := pk_lEQ hle' (b := 283623584) (by decide)
      have c1 : (lN (hsv (a 10) l.1 (l.2.1 - l.1)) = 4514) ↔ hsv (a 10) l.1 (l.2.1 - l.1) = 4514 := pk_lEQ hle' (b := 4514) (by decide)
      have c2 : (lN (hsv (a 10) l.1 (l.2.1 - l.1)) = 125042) ↔ hsv (a 10) l.1 (l.2.1 - l.1) = 125042 := pk_lEQ hle' (b := 125042) (by decide)
      unfold keyV
      rw [if_pos ⟨h1, h9⟩]
      by_cases g0 : hsv (a 10) l.1 (l.2.1 - l.1) = 283623584
      · rw [if_pos g0]
        simp only [S169_39, S169_40, S169_41, S169_44, S169_45, S169_48, S169_49, S169_52, S169_55, S169_56, S169_59, S169_60, S169_63, S169_64, S169_67, S169_68, S169_71, S169_72, S169_75, S169_78, S169_79, S169_82, S169_83, S169_86, S169_87, S169_90, S169_91, S169_94, S169_95, S169_98, S169_101, S169_102, S169_105, S169_106, S169_109, S169_110, Option.bind_some, Option.map_some, xpush_s, xpush_n, xcat_0, xcat_i, xcat_r, xcat_l, xcat_n, xcat_e, xir_r, Nat.reduceAdd, Nat.reduceLeDiff, Nat.zero_le, Nat.le_refl, ↓reduceIte, Mk_14, Mk_15, hv, e, lg_e0, show (lN (hsv (a 10) l.1 (l.2.1 - l.1)) = 283623584) = True from eq_true (c0.mpr g0), hp18]
        rfl
      · rw [if_neg g0]
        have d0 : (lN (hsv (a 10) l.1 (l.2.1 - l.1)) = 283623584) = False := eq_false (fun z => g0 (c0.mp z))
        by_cases g1 : hsv (a 10) l.1 (l.2.1 - l.1) = 4514
        · rw [if_pos g1]
          simp only [S169_39, S169_40, S169_41, S169_44, S169_45, S169_48, S169_49, S169_52, S169_55, S169_56, S169_59, S169_60, S169_63, S169_64, S169_67, S169_68, S169_71, S169_72, S169_75, S169_78, S169_79, S169_82, S169_83, S169_86, S169_87, S169_90, S169_91, S169_94, S169_95, S169_98, S169_101, S169_102, S169_105, S169_106, S169_109, S169_110, Option.bind_some, Option.map_some, xpush_s, xpush_n, xcat_0, xcat_i, xcat_r, xcat_l, xcat_n, xcat_e, xir_r, Nat.reduceAdd, Nat.reduceLeDiff, Nat.zero_le, Nat.le_refl, ↓reduceIte, Mk_14, Mk_15, hv, e, lg_e0, d0, show (lN (hsv (a 10) l.1 (l.2.1 - l.1)) = 4514) = True from eq_true (c1.mpr g1), hp18]
          rfl
        · rw [if_neg g1]
          have d1 : (lN (hsv (a 10) l.1 (l.2.1 - l.1)) = 4514) = False := eq_false (fun z => g1 (c1.mp z))
          by_cases g2 : hsv (a 10) l.1 (l.2.1 - l.1) = 125042
          · rw [if_pos g2]
            simp only [S169_39, S169_40, S169_41, S169_44, S169_45, S169_48, S169_49, S169_52, S169_55, S169_56, S169_59, S169_60, S169_63, S169_64, S169_67, S169_68, S169_71, S169_72, S169_75, S169_78, S169_79, S169_82, S169_83, S169_86, S169_87, S169_90, S169_91, S169_94, S169_95, S169_98, S169_101, S169_102, S169_105, S169_106, S169_109, S169_110, Option.bind_some, Option.map_some, xpush_s, xpush_n, xcat_0, xcat_i, xcat_r, xcat_l, xcat_n, xcat_e, xir_r, Nat.reduceAdd, Nat.reduceLeDiff, Nat.zero_le, Nat.le_refl, ↓reduceIte, Mk_14, Mk_15, hv, e, lg_e0, d0, d1, show (lN (hsv (a 10) l.1 (l.2.1 - l.1)) = 125042) = True from eq_true (c2.mpr g2), hp18]
            rfl
          · rw [if_neg g2]
            have d2 : (lN (hsv (a 10) l.1 (l.2.1 - l.1)) = 125042) = False := eq_false (fun z => g2 (c2.mp z))
            simp only [S169_39, S169_40, S169_41, S169_44, S169_45, S169_48, S169_49, S169_52, S169_55, S169_56, S169_59, S169_60, S169_63, S169_64, S169_67, S169_68, S169_71, S169_72, S169_75, S169_78, S169_79, S169_82, S169_83, S169_86, S169_87, S169_90, S169_91, S169_94, S169_95, S169_98, S169_101, S169_102, S169_105, S169_106, S169_109, S169_110, Option.bind_some, Option.map_some, xpush_s, xpush_n, xcat_0, xcat_i, xcat_r, xcat_l, xcat_n, xcat_e, xir_r, Nat.reduceAdd, Nat.reduceLeDiff, Nat.zero_le, Nat.le_refl, ↓reduceIte, Mk_14, Mk_15, hv, e, lg_e0, d0, d1, d2, hp18]
            rfl
    · have hv : vlu (a 10) l = -1 := by
        unfold vlu
        rw [if_neg (by omega), if_pos h1]
        exact if_neg h9
      unfold keyV
      rw [if_neg (fun z => h9 z.2)]
      simp only [S169_39, S169_40, S169_41, S169_44, S169_45, S169_48, S169_49, S169_52, S169_55, S169_56, S169_59, S169_60, S169_63, S169_64, S169_67, S169_68, S169_71, S169_72, S169_75, S169_78, S169_79, S169_82, S169_83, S169_86, S169_87, S169_90, S169_91, S169_94, S169_95, S169_98, S169_101, S169_102, S169_105, S169_106, S169_109, S169_110, Option.bind_some, Option.map_some, xpush_s, xpush_n, xcat_0, xcat_i, xcat_r, xcat_l, xcat_n, xcat_e, xir_r, Nat.reduceAdd, Nat.reduceLeDiff, Nat.zero_le, Nat.le_refl, ↓reduceIte, Mk_14, Mk_15, hv, e, lg_e0, show ((-1 : Int64) = 283623584) = False from eq_false (by decide), show ((-1 : Int64) = 4514) = False from eq_false (by decide), show ((-1 : Int64) = 125042) = False from eq_false (by decide), hp18]
      rfl
  · have e : (nI (tkn l) = 1) = False := eq_false (fun z => h1 (by
      have := (nI_eq (b := 1) (by omega) (by decide)).mp z
      omega))
    unfold keyV
    rw [if_neg (fun z => h1 z.1)]
    simp only [S169_39, S169_40, S169_41, S169_44, S169_45, S169_48, S169_49, S169_52, S169_55, S169_56, S169_59, S169_60, S169_63, S169_64, S169_67, S169_68, S169_71, S169_72, S169_75, S169_78, S169_79, S169_82, S169_83, S169_86, S169_87, S169_90, S169_91, S169_94, S169_95, S169_98, S169_101, S169_102, S169_105, S169_106, S169_109, S169_110, Option.bind_some, Option.map_some, xpush_s, xpush_n, xcat_0, xcat_i, xcat_r, xcat_l, xcat_n, xcat_e, xir_r, Nat.reduceAdd, Nat.reduceLeDiff, Nat.zero_le, Nat.le_refl, ↓reduceIte, Mk_14, e, hp18]
    rfl
theorem bwk_0 (k : Nat) : bwk k lk0 0 := ⟨Nat.zero_le _, Nat.le_refl _, fun h => absurd h (by decide), fun _ => Or.inr rfl, fun h => absurd h (by decide), Nat.zero_le _⟩
/-- what the reading gives: wrong at a place, or right with a program -/
theorem p_text (d : Nat) (hk : k ≤ 96) (hs : s 11 = nI k) : match rdT (a 10) k with
    | .inl f => ∃ (C' : Nat → Int32) (pa to co wo ke op nt bw : Int32) (w' : Int64), RF 169 (Ev (d + 100)) 0 [some (.ref 58), none, none] [] (mh a s w H) = RF 169 (Ev (d + 100)) 161 [some (.ref 58), none, none] [] (pm a (upd s 11 0) C' pa (nI f) to co wo ke op nt 1 bw w' H)
    | .inr q => ∃ (C' : Nat → Int32) (pa be to op nt bw : Int32) (w' : Int64), cM C' q.2 ∧ RF 169 (Ev (d + 100)) 0 [some (.ref 58), none, none] [] (mh a s w H) = RF 169 (Ev (d + 100)) 161 [some (.ref 58), none, none] [] (pm a (upd s 11 0) C' pa be to (nI q.2.length) (nI (cnt q.2)) (nI q.1) op nt 0 bw w' H) := by
  have hl : okl (a 10) k (nxk (a 10) k lk0) := okl_nxk (Nat.zero_le _)
  have hf : (nxk (a 10) k lk0).2.2.2 = false := rfl
  have hnx : ∃ b1, bwk k (nxk (a 10) k lk0) b1 ∧ Ev (d + 100) 170 [.ref 58] (pm a s (a 11) 0 (s 13) (s 14) 0 0 (s 18) 0 0 0 0 w H) = some (none, mk' a s (a 11) (nxk (a 10) k lk0) 0 0 (s 18) 0 0 0 b1 H) := ⟨_, bwk_nxk (bwk_0 k), p_next (d + 97) (l := lk0) (b := 0) hk hs (bwk_0 k)⟩
  obtain ⟨b1, hb1, hnx⟩ := hnx
  have e0 : RF 169 (Ev (d + 100)) 0 [some (.ref 58), none, none] [] (mh a s w H) = RF 169 (Ev (d + 100)) 39 [some (.ref 58), none, none] [] (mk' a s (a 11) (nxk (a 10) k lk0) 0 0 (s 18) 0 0 0 b1 H) := by
    rw [pm_of]
    simp only [S169_0, S169_1, S169_2, S169_5, S169_6, S169_7, S169_10, S169_11, S169_12, S169_15, S169_16, S169_17, S169_20, S169_21, S169_22, S169_25, S169_26, S169_27, S169_30, S169_31, S169_32, S169_35, S169_36, Option.bind_some, Option.map_some, xpush_s, xpush_n, xcat_0, xcat_i, xcat_r, xcat_l, xcat_n, xcat_e, xir_r, Nat.reduceAdd, Nat.reduceLeDiff, Nat.zero_le, Nat.le_refl, ↓reduceIte, Pp_12, Pp_22, Pp_16, Pp_17, Pp_19, Pp_20, Pp_21, Pcls, hnx, true_or, or_true, show ((0 : Int32) = 0 ∨ (0 : Int32) = 1) = True from eq_true (Or.inl rfl)]
  have hpk := p_key (a := a) (s := s) (C := a 11) (co := 0) (wo := 0) (ke := s 18) (op := 0) (no := 0) (wr := 0) (H := H) (b := b1) (Ev (d + 100)) (l1 := none) (l2 := none) hl hf
  have e1 := e0.trans hpk
  have h11 : ((1 : Int32) = 0 ∨ (1 : Int32) = 1) = True := eq_true (Or.inr rfl)
  have h01 : ((0 : Int32) = 0 ∨ (0 : Int32) = 1) = True := eq_true (Or.inl rfl)
  have n1 : ¬ (1 : Int32) = 0 := by decide
  unfold rdT
  cases hk0 : keyV (a 10) (nxk (a 10) k lk0) with
  | none =>
    rw [hk0] at e1
    have hg : Ev (d + 100) 172 [.ref 58, .int 0] (mk' a s (a 11) (nxk (a 10) k lk0) 0 0 (-1) 0 0 0 b1 H) = _ := Mk_goesF (d + 99)
    have hg18 : hgf (mk' a s (a 11) (nxk (a 10) k lk0) 0 0 (-1) 0 0 0 b1 H) (.ref 58) 6 18 = some (.int (-1)) := Pg_18
    refine ⟨a 11, nI (nxk (a 10) k lk0).2.1, nI (tkn (nxk (a 10) k lk0)), 0, 0, -1, 0, 0, nI b1, vlu (a 10) (nxk (a 10) k lk0), ?_⟩
    rw [e1, show oI none = -1 from rfl]
    simp only [S169_113, S169_114, S169_115, S169_118, S169_121, S169_122, S169_125, S169_126, S169_129, S169_130, S169_133, S169_134, S169_135, S169_138, S169_141, S169_142, S169_145, S169_148, S169_149, S169_152, S169_153, S169_156, S169_157, S169_158, Option.bind_some, Option.map_some, xpush_s, xpush_n, xcat_0, xcat_i, xcat_r, xcat_l, xcat_n, xcat_e, xir_r, Nat.reduceAdd, Nat.reduceLeDiff, Nat.zero_le, Nat.le_refl, ↓reduceIte, hg18, show ((-1 : Int32) < 0) = True from eq_true (by decide), Mk_cls, hg, Pcls, p_wholeW, Pg_21, n1, h11, or_true, true_or, Pp_21, Pp_11]
  | some key =>
    rw [hk0] at e1
    obtain ⟨k2, h1⟩ := keyV_lt hk0
    have hl' : okl (a 10) k (nxk (a 10) k (nxk (a 10) k lk0)) := okl_nxk hl.2.1
    have hn := nxk_1 hl (by omega)
    have hge : ¬ nI key < 0 := nI_pos (by omega)
    obtain ⟨b2, hb2, hg⟩ := p_goesT (a := a) (s := s) (C := a 11) (co := 0) (wo := 0) (ke := nI key) (op := 0) (no := 0) (H := H) (d + 96) hk hs hb1
    have hg18 : hgf (mk' a s (a 11) (nxk (a 10) k lk0) 0 0 (nI key) 0 0 0 b1 H) (.ref 58) 6 18 = some (.int (nI key)) := Pg_18
    have hL := p_level (a := a) (s := s) (H := H) k2 hk hs 70 (d + 24) 0 0 0 (nxk (a 10) k (nxk (a 10) k lk0)) [] (a 11) b2 (by decide) (by decide) (by decide) (by decide) hl' (by simp only [List.length_nil]; omega) (fun j h => absurd h (Nat.not_lt_zero _)) hb2
    rw [show cnt [] = 0 from rfl, show ([] : List Nat).length = 0 from rfl, show nI 0 = 0 from rfl, show d + 24 + 70 + 6 = d + 100 from rfl, show mth 0 = 173 from rfl] at hL
    have e2 : RF 169 (Ev (d + 100)) 0 [some (.ref 58), none, none] [] (mh a s w H) = RF 169 (Ev (d + 100)) 129 [some (.ref 58), none, none] [] (mk' a s (a 11) (nxk (a 10) k (nxk (a 10) k lk0)) 0 0 (nI key) 0 0 0 b2 H) := by
      rw [e1, show oI (some key) = nI key from rfl]
      simp only [S169_113, S169_114, S169_115, S169_118, S169_121, S169_122, S169_125, S169_126, Option.bind_some, Option.map_some, xpush_s, xpush_n, xcat_0, xcat_i, xcat_r, xcat_l, xcat_n, xcat_e, xir_r, Nat.reduceAdd, Nat.reduceLeDiff, Nat.zero_le, Nat.le_refl, ↓reduceIte, hg18, hge, Mk_cls, hg]
    dsimp only
    cases hq : ps (a 10) k key 70 0 0 0 (nxk (a 10) k (nxk (a 10) k lk0)) [] with
    | inl f =>
      rw [hq] at hL
      obtain ⟨C', pa, to, co, wo, op, nt, bw, w', hL⟩ := hL
      refine ⟨C', pa, to, co, wo, nI key, op, nt, bw, w', ?_⟩
      rw [e2]
      simp only [S169_129, S169_130, S169_133, S169_134, S169_135, S169_138, S169_141, S169_142, S169_145, S169_148, S169_149, S169_152, S169_153, S169_156, S169_157, S169_158, Option.bind_some, Option.map_some, xpush_s, xpush_n, xcat_0, xcat_i, xcat_r, xcat_l, xcat_n, xcat_e, xir_r, Nat.reduceAdd, Nat.reduceLeDiff, Nat.zero_le, Nat.le_refl, ↓reduceIte, Mk_cls, hL, Pcls, Pg_21, n1, h11, or_true, true_or, Pp_21, Pp_11]
    | inr q =>
      rw [hq] at hL
      obtain ⟨C', b', hL, hC, hbw⟩ := hL
      have hr := rok_ps (a 10) k key 70 0 0 0 (nxk (a 10) k (nxk (a 10) k lk0)) [] hl'
      rw [hq] at hr
      have hlq : okl (a 10) k q.1 := hr.1
      have htq : q.1.2.2.1 ≤ 3 := by rw [hlq.2.2.1]; exact tya_le _ _ _
      have hp21 : ∀ x, hpf (mk' a s C' q.1 (nI q.2.length) (nI (cnt q.2)) (nI key) 0 0 0 b' H) (.ref 58) 6 21 (.int x) = some (mk' a s C' q.1 (nI q.2.length) (nI (cnt q.2)) (nI key) 0 0 x b' H) := fun x => Pp_21 x
      have hp11 : ∀ x, hpf (mk' a s C' q.1 (nI q.2.length) (nI (cnt q.2)) (nI key) 0 0 x b' H) (.ref 58) 6 11 (.int 0) = some (mk' a (upd s 11 0) C' q.1 (nI q.2.length) (nI (cnt q.2)) (nI key) 0 0 x b' H) := fun x => Pp_11 0
      rw [show nI 0 = 0 from rfl] at hL
      dsimp only
      by_cases h0 : q.1.2.2.1 = 0
      · rw [if_pos h0]
        have ht0 : (nI (tkn q.1) = 0) = True := eq_true (by
          have hff : ¬ q.1.2.2.2 = true := fun z => by
            have := hlq.2.2.2.2.2.2.2 z
            rw [h0] at this
            exact absurd this (by decide)
          rw [show tkn q.1 = q.1.2.2.1 from if_neg hff, h0]
          rfl)
        refine ⟨C', nI q.1.2.1, nI q.1.1, nI (tkn q.1), 0, 0, nI b', vlu (a 10) q.1, hC, ?_⟩
        rw [e2]
        simp only [S169_129, S169_130, S169_133, S169_134, S169_135, S169_138, S169_141, S169_142, S169_145, S169_148, S169_149, S169_152, S169_153, S169_156, S169_157, S169_158, Option.bind_some, Option.map_some, xpush_s, xpush_n, xcat_0, xcat_i, xcat_r, xcat_l, xcat_n, xcat_e, xir_r, Nat.reduceAdd, Nat.reduceLeDiff, Nat.zero_le, Nat.le_refl, ↓reduceIte, Mk_cls, hL, Mk_21, Mk_14, ht0, h01, or_true, true_or, hp21, hp11]
        rfl
      · rw [if_neg h0]
        have ht0 : (nI (tkn q.1) = 0) = False := eq_false (fun z => by
          have hz := (nI_eq (b := 0) (show tkn q.1 < 2 ^ 31 by unfold tkn; split <;> omega) (by decide)).mp z
          unfold tkn at hz
          split at hz <;> omega)
        refine ⟨C', nI q.1.2.1, nI (tkn q.1), nI q.2.length, nI (cnt q.2), nI key, 0, 0, nI b', vlu (a 10) q.1, ?_⟩
        rw [e2]
        simp only [S169_129, S169_130, S169_133, S169_134, S169_135, S169_138, S169_141, S169_142, S169_145, S169_148, S169_149, S169_152, S169_153, S169_156, S169_157, S169_158, Option.bind_some, Option.map_some, xpush_s, xpush_n, xcat_0, xcat_i, xcat_r, xcat_l, xcat_n, xcat_e, xir_r, Nat.reduceAdd, Nat.reduceLeDiff, Nat.zero_le, Nat.le_refl, ↓reduceIte, Mk_cls, hL, Mk_21, Mk_14, ht0, h11, or_true, true_or, hp21, hp11]
        rfl
end TXM
