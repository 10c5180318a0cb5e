/-! part 71a: a river's constructor (gen/cons_river.py) -/
def d0 : Nat → Int32 := fun i => if i = 2 then 10 else if i = 6 then 1 else if 8 ≤ i ∧ i < 20 then 20 else 0
def t0 : xt := mkt (fun _ => none) (upd (upd (upd (fun _ => 0) 0 (-1000000005)) 1 (-1000000005)) 2 (-1000000005)) (fun _ => none)
theorem wA0 : wA d0 = fil (fun _ => 0) 20 12 := by
  funext r
  unfold wA fil d0
  by_cases h : r < 12
  · rw [if_pos h, if_pos h, if_neg (by omega), if_neg (by omega), if_pos (by omega)]
  · rw [if_neg h, if_neg h]
theorem mA0 (j : Nat) : mA d0 j = fun _ => 0 := by
  funext r
  unfold mA d0
  by_cases h : r < 10
  · rw [if_pos h, if_neg (by omega), if_neg (by omega), if_neg (by omega)]
  · rw [if_neg h]
def rI (i : Nat) : xc := match i with
  | 1 => .inl (0, 12, fun _ => 0)
  | 2 => .inl (0, 10, fun _ => 0)
  | 3 => .inl (0, 10, fun _ => 0)
  | 4 => .inl (0, 10, fun _ => 0)
  | 5 => .inl (0, 10, fun _ => 0)
  | 6 => .inr (.inl (4, 14, fun _ => none))
  | 7 => .inl (0, 3, upd (upd (upd (fun _ => 0) 0 (-1000000005)) 1 (-1000000005)) 2 (-1000000005))
  | 8 => .inr (.inl (4, 3, fun _ => none))
  | _ => xnil
/-- j rows of a river at p are made -/
def SR (p j : Nat) (fs : List Value) (F F0 : Nat → xc) : Prop := F p = .inr (.inr (0, fs)) ∧ (∀ i, 0 < i → i ≤ j → F (p + i) = rI i) ∧ ∀ q, q < p ∨ p + j < q → F q = F0 q
section CONS
variable {p k m j : Nat} {F F0 E : Nat → xc} {fs gs : List Value} {ev : xe}
theorem SR_s {c : xc} (S : SR p j fs F F0) (hk : k = p + (j + 1)) (hc : c = rI (j + 1)) : SR p (j + 1) gs (va_up (va_up F k c) p (.inr (.inr (0, gs)))) F0 := by
  subst hk
  obtain ⟨s1, s2, s3⟩ := S
  refine ⟨vu_s _ _ _, ?_, ?_⟩
  · intro i i1 i2
    rw [vu_n _ _ (by omega)]
    by_cases h : i = j + 1
    · subst h
      rw [vu_s, hc]
    · rw [vu_n _ _ (by omega)]
      exact s2 i i1 (by omega)
  · intro q q1
    rw [vu_n _ _ (by omega), vu_n _ _ (by omega)]
    exact s3 q (by omega)
theorem SR_f (S : SR p j fs F F0) : SR p j gs (va_up F p (.inr (.inr (0, gs)))) F0 := by
  obtain ⟨s1, s2, s3⟩ := S
  refine ⟨vu_s _ _ _, ?_, ?_⟩
  · intro i i1 i2
    rw [vu_n _ _ (by omega)]
    exact s2 i i1 (by omega)
  · intro q q1
    rw [vu_n _ _ (by omega)]
    exact s3 q (by omega)
theorem r_1 (hl : fs.length = 16) (hk : k = p + 1) (S : SR p 0 fs F F0) : ∃ FF, RF 0 ev 4 [some (.ref p)] [] (hq' k m F E) = RF 0 ev 12 [some (.ref p)] [] (hq' (k + 1) (m + 12) FF E) ∧ SR p 1 (fs.set 0 (.ref k)) FF F0 := by
  have hp := hq_pf (p := k + 1) (m := m + 12) (E := E) (F := va_up F k (.inl (0, 12, fun _ => 0))) (k := p) (ci := 0) (fs := fs) (j := 0) (by rw [vu_n _ _ (by omega)]; exact S.1) (by omega) (.ref k)
  refine ⟨va_up (va_up F k (.inl (0, 12, fun _ => 0))) p (.inr (.inr (0, fs.set 0 (.ref k)))), ?_, SR_s S hk rfl⟩
  simp only [S0_4, S0_5, S0_7, S0_9, Option.bind_some, Option.map_some, xpush_s, xpush_n, xcat_0, xcat_i, xcat_r, xcat_l, xcat_n, xcat_e, xir_r, Nat.reduceAdd, Nat.reduceLeDiff, Nat.zero_le, Nat.le_refl, ↓reduceIte, show (0 ≤ (12 : Int32).toInt ∧ (12 : Int32).toInt ≤ 100000) = True from eq_true (by decide), show (12 : Int32).toInt.toNat = 12 from rfl, hq_new, hq_1, cat_r, hp]
theorem r_2 (hl : fs.length = 16) (hk : k = p + 2) (S : SR p 1 fs F F0) : ∃ FF, RF 0 ev 17 [some (.ref p)] [] (hq' k m F E) = RF 0 ev 25 [some (.ref p)] [] (hq' (k + 1) (m + 10) FF E) ∧ SR p 2 (fs.set 2 (.ref k)) FF F0 := by
  have hp := hq_pf (p := k + 1) (m := m + 10) (E := E) (F := va_up F k (.inl (0, 10, fun _ => 0))) (k := p) (ci := 0) (fs := fs) (j := 2) (by rw [vu_n _ _ (by omega)]; exact S.1) (by omega) (.ref k)
  refine ⟨va_up (va_up F k (.inl (0, 10, fun _ => 0))) p (.inr (.inr (0, fs.set 2 (.ref k)))), ?_, SR_s S hk rfl⟩
  simp only [S0_17, S0_18, S0_20, S0_22, Option.bind_some, Option.map_some, xpush_s, xpush_n, xcat_0, xcat_i, xcat_r, xcat_l, xcat_n, xcat_e, xir_r, Nat.reduceAdd, Nat.reduceLeDiff, Nat.zero_le, Nat.le_refl, ↓reduceIte, show (0 ≤ (10 : Int32).toInt ∧ (10 : Int32).toInt ≤ 100000) = True from eq_true (by decide), show (10 : Int32).toInt.toNat = 10 from rfl, hq_new, hq_1, cat_r, hp]
theorem r_3 (hl : fs.length = 16) (hk : k = p + 3) (S : SR p 2 fs F F0) : ∃ FF, RF 0 ev 25 [some (.ref p)] [] (hq' k m F E) = RF 0 ev 33 [some (.ref p)] [] (hq' (k + 1) (m + 10) FF E) ∧ SR p 3 (fs.set 3 (.ref k)) FF F0 := by
  have hp := hq_pf (p := k + 1) (m := m + 10) (E := E) (F := va_up F k (.inl (0, 10, fun _ => 0))) (k := p) (ci := 0) (fs := fs) (j := 3) (by rw [vu_n _ _ (by omega)]; exact S.1) (by omega) (.ref k)
  refine ⟨va_up (va_up F k (.inl (0, 10, fun _ => 0))) p (.inr (.inr (0, fs.set 3 (.ref k)))), ?_, SR_s S hk rfl⟩
  simp only [S0_25, S0_26, S0_28, S0_30, Option.bind_some, Option.map_some, xpush_s, xpush_n, xcat_0, xcat_i, xcat_r, xcat_l, xcat_n, xcat_e, xir_r, Nat.reduceAdd, Nat.reduceLeDiff, Nat.zero_le, Nat.le_refl, ↓reduceIte, show (0 ≤ (10 : Int32).toInt ∧ (10 : Int32).toInt ≤ 100000) = True from eq_true (by decide), show (10 : Int32).toInt.toNat = 10 from rfl, hq_new, hq_1, cat_r, hp]
theorem r_4 (hl : fs.length = 16) (hk : k = p + 4) (S : SR p 3 fs F F0) : ∃ FF, RF 0 ev 33 [some (.ref p)] [] (hq' k m F E) = RF 0 ev 41 [some (.ref p)] [] (hq' (k + 1) (m + 10) FF E) ∧ SR p 4 (fs.set 4 (.ref k)) FF F0 := by
  have hp := hq_pf (p := k + 1) (m := m + 10) (E := E) (F := va_up F k (.inl (0, 10, fun _ => 0))) (k := p) (ci := 0) (fs := fs) (j := 4) (by rw [vu_n _ _ (by omega)]; exact S.1) (by omega) (.ref k)
  refine ⟨va_up (va_up F k (.inl (0, 10, fun _ => 0))) p (.inr (.inr (0, fs.set 4 (.ref k)))), ?_, SR_s S hk rfl⟩
  simp only [S0_33, S0_34, S0_36, S0_38, Option.bind_some, Option.map_some, xpush_s, xpush_n, xcat_0, xcat_i, xcat_r, xcat_l, xcat_n, xcat_e, xir_r, Nat.reduceAdd, Nat.reduceLeDiff, Nat.zero_le, Nat.le_refl, ↓reduceIte, show (0 ≤ (10 : Int32).toInt ∧ (10 : Int32).toInt ≤ 100000) = True from eq_true (by decide), show (10 : Int32).toInt.toNat = 10 from rfl, hq_new, hq_1, cat_r, hp]
theorem r_5 (hl : fs.length = 16) (hk : k = p + 5) (S : SR p 4 fs F F0) : ∃ FF, RF 0 ev 41 [some (.ref p)] [] (hq' k m F E) = RF 0 ev 49 [some (.ref p)] [] (hq' (k + 1) (m + 10) FF E) ∧ SR p 5 (fs.set 5 (.ref k)) FF F0 := by
  have hp := hq_pf (p := k + 1) (m := m + 10) (E := E) (F := va_up F k (.inl (0, 10, fun _ => 0))) (k := p) (ci := 0) (fs := fs) (j := 5) (by rw [vu_n _ _ (by omega)]; exact S.1) (by omega) (.ref k)
  refine ⟨va_up (va_up F k (.inl (0, 10, fun _ => 0))) p (.inr (.inr (0, fs.set 5 (.ref k)))), ?_, SR_s S hk rfl⟩
  simp only [S0_41, S0_42, S0_44, S0_46, Option.bind_some, Option.map_some, xpush_s, xpush_n, xcat_0, xcat_i, xcat_r, xcat_l, xcat_n, xcat_e, xir_r, Nat.reduceAdd, Nat.reduceLeDiff, Nat.zero_le, Nat.le_refl, ↓reduceIte, show (0 ≤ (10 : Int32).toInt ∧ (10 : Int32).toInt ≤ 100000) = True from eq_true (by decide), show (10 : Int32).toInt.toNat = 10 from rfl, hq_new, hq_1, cat_r, hp]
theorem r_6 (hl : fs.length = 16) (hk : k = p + 6) (S : SR p 5 fs F F0) : ∃ FF, RF 0 ev 85 [some (.ref p)] [] (hq' k m F E) = RF 0 ev 94 [some (.ref p)] [] (hq' (k + 1) (m + 14) FF E) ∧ SR p 6 (fs.set 13 (.ref k)) FF F0 := by
  have hp := hq_pf (p := k + 1) (m := m + 14) (E := E) (F := va_up F k (.inr (.inl (4, 14, fun _ => none)))) (k := p) (ci := 0) (fs := fs) (j := 13) (by rw [vu_n _ _ (by omega)]; exact S.1) (by omega) (.ref k)
  refine ⟨va_up (va_up F k (.inr (.inl (4, 14, fun _ => none)))) p (.inr (.inr (0, fs.set 13 (.ref k)))), ?_, SR_s S hk rfl⟩
  simp only [S0_85, S0_86, S0_88, S0_91, Option.bind_some, Option.map_some, xpush_s, xpush_n, xcat_0, xcat_i, xcat_r, xcat_l, xcat_n, xcat_e, xir_r, Nat.reduceAdd, Nat.reduceLeDiff, Nat.zero_le, Nat.le_refl, ↓reduceIte, show (0 ≤ (14 : Int32).toInt ∧ (14 : Int32).toInt ≤ 100000) = True from eq_true (by decide), show (14 : Int32).toInt.toNat = 14 from rfl, hq_new, hq_1, cat_r, hp]
theorem r_7 (hl : fs.length = 16) (hk : k = p + 7) (S : SR p 6 fs F F0) : ∃ FF, RF 0 ev 94 [some (.ref p)] [] (hq' k m F E) = RF 0 ev 116 [some (.ref p)] [] (hq' (k + 1) (m + 3) FF E) ∧ SR p 7 (fs.set 14 (.ref k)) FF F0 := by
  have hp := hq_pf (p := k + 1) (m := m + 3) (E := E) (F := va_up F k (.inl (0, 3, upd (upd (upd (fun _ => 0) 0 (-1000000005)) 1 (-1000000005)) 2 (-1000000005)))) (k := p) (ci := 0) (fs := fs) (j := 14) (by rw [vu_n _ _ (by omega)]; exact S.1) (by omega) (.ref k)
  have w0 := hq_wr (P := k + 1) (m := m + 3) (E := E) (F := va_up F k (.inl (0, 3, fun _ => 0))) (k := k) (n := 3) (i := 0) (x := (-1000000005)) (vu_s _ _ _) (show xix 0 3 = some 0 from rfl)
  rw [vu_u] at w0
  have w1 := hq_wr (P := k + 1) (m := m + 3) (E := E) (F := va_up F k (.inl (0, 3, upd (fun _ => 0) 0 (-1000000005)))) (k := k) (n := 3) (i := 1) (x := (-1000000005)) (vu_s _ _ _) (show xix 1 3 = some 1 from rfl)
  rw [vu_u] at w1
  have w2 := hq_wr (P := k + 1) (m := m + 3) (E := E) (F := va_up F k (.inl (0, 3, upd (upd (fun _ => 0) 0 (-1000000005)) 1 (-1000000005)))) (k := k) (n := 3) (i := 2) (x := (-1000000005)) (vu_s _ _ _) (show xix 2 3 = some 2 from rfl)
  rw [vu_u] at w2
  refine ⟨va_up (va_up F k (.inl (0, 3, upd (upd (upd (fun _ => 0) 0 (-1000000005)) 1 (-1000000005)) 2 (-1000000005)))) p (.inr (.inr (0, fs.set 14 (.ref k)))), ?_, SR_s S hk rfl⟩
  simp only [S0_94, S0_95, S0_96, S0_98, S0_99, S0_100, S0_102, S0_103, S0_104, S0_105, S0_107, S0_108, S0_109, S0_110, S0_112, S0_113, Option.bind_some, Option.map_some, xpush_s, xpush_n, xcat_0, xcat_i, xcat_r, xcat_l, xcat_n, xcat_e, xir_r, Nat.reduceAdd, Nat.reduceLeDiff, Nat.zero_le, Nat.le_refl, ↓reduceIte, show (0 ≤ (3 : Int32).toInt ∧ (3 : Int32).toInt ≤ 100000) = True from eq_true (by decide), show (3 : Int32).toInt.toNat = 3 from rfl, hq_new, hq_1, cat_r, hp, w0, w1, w2]
theorem r_8 (hl : fs.length = 16) (hk : k = p + 8) (S : SR p 7 fs F F0) : ∃ FF, RF 0 ev 116 [some (.ref p)] [] (hq' k m F E) = RF 0 ev 124 [some (.ref p)] [] (hq' (k + 1) (m + 3) FF E) ∧ SR p 8 (fs.set 15 (.ref k)) FF F0 := by
  have hp := hq_pf (p := k + 1) (m := m + 3) (E := E) (F := va_up F k (.inr (.inl (4, 3, fun _ => none)))) (k := p) (ci := 0) (fs := fs) (j := 15) (by rw [vu_n _ _ (by omega)]; exact S.1) (by omega) (.ref k)
  refine ⟨va_up (va_up F k (.inr (.inl (4, 3, fun _ => none)))) p (.inr (.inr (0, fs.set 15 (.ref k)))), ?_, SR_s S hk rfl⟩
  simp only [S0_116, S0_117, S0_118, S0_121, Option.bind_some, Option.map_some, xpush_s, xpush_n, xcat_0, xcat_i, xcat_r, xcat_l, xcat_n, xcat_e, xir_r, Nat.reduceAdd, Nat.reduceLeDiff, Nat.zero_le, Nat.le_refl, ↓reduceIte, show (0 ≤ (3 : Int32).toInt ∧ (3 : Int32).toInt ≤ 100000) = True from eq_true (by decide), show (3 : Int32).toInt.toNat = 3 from rfl, hq_new, hq_1, cat_r, hp]
theorem r_f1 (hl : fs.length = 16) (S : SR p 1 fs F F0) : ∃ FF, RF 0 ev 12 [some (.ref p)] [] (hq' k m F E) = RF 0 ev 17 [some (.ref p)] [] (hq' k m FF E) ∧ SR p 1 (fs.set 1 (.int 0)) FF F0 := by
  have p0 := hq_pf (p := k) (m := m) (E := E) (F := F) (k := p) (ci := 0) (fs := fs) (j := 1) S.1 (by omega) (.int 0)
  refine ⟨va_up F p (.inr (.inr (0, fs.set 1 (.int 0)))), ?_, SR_f S⟩
  simp only [S0_12, S0_13, S0_14, Option.bind_some, Option.map_some, xpush_s, xpush_n, xcat_0, xcat_i, xcat_r, xcat_l, xcat_n, xcat_e, xir_r, Nat.reduceAdd, Nat.reduceLeDiff, Nat.zero_le, Nat.le_refl, ↓reduceIte, hq_1, p0]
theorem r_f2 (hl : fs.length = 16) (S : SR p 5 fs F F0) : ∃ FF, RF 0 ev 49 [some (.ref p)] [] (hq' k m F E) = RF 0 ev 85 [some (.ref p)] [] (hq' k m FF E) ∧ SR p 5 (((((((fs.set 6 (.int 10)).set 7 (.int 0)).set 8 (.int 0)).set 9 (.int 0)).set 10 (.int 0)).set 11 (.int 1)).set 12 (.int 0)) FF F0 := by
  have p0 := hq_pf (p := k) (m := m) (E := E) (F := F) (k := p) (ci := 0) (fs := fs) (j := 6) S.1 (by omega) (.int 10)
  have p1 := hq_pf (p := k) (m := m) (E := E) (F := va_up F p (.inr (.inr (0, fs.set 6 (.int 10))))) (k := p) (ci := 0) (fs := fs.set 6 (.int 10)) (j := 7) (vu_s _ _ _) (by rw [List.length_set]; omega) (.int 0)
  rw [vu_u] at p1
  have p2 := hq_pf (p := k) (m := m) (E := E) (F := va_up F p (.inr (.inr (0, (fs.set 6 (.int 10)).set 7 (.int 0))))) (k := p) (ci := 0) (fs := (fs.set 6 (.int 10)).set 7 (.int 0)) (j := 8) (vu_s _ _ _) (by rw [List.length_set, List.length_set]; omega) (.int 0)
  rw [vu_u] at p2
  have p3 := hq_pf (p := k) (m := m) (E := E) (F := va_up F p (.inr (.inr (0, ((fs.set 6 (.int 10)).set 7 (.int 0)).set 8 (.int 0))))) (k := p) (ci := 0) (fs := ((fs.set 6 (.int 10)).set 7 (.int 0)).set 8 (.int 0)) (j := 9) (vu_s _ _ _) (by rw [List.length_set, List.length_set, List.length_set]; omega) (.int 0)
  rw [vu_u] at p3
  have p4 := hq_pf (p := k) (m := m) (E := E) (F := va_up F p (.inr (.inr (0, (((fs.set 6 (.int 10)).set 7 (.int 0)).set 8 (.int 0)).set 9 (.int 0))))) (k := p) (ci := 0) (fs := (((fs.set 6 (.int 10)).set 7 (.int 0)).set 8 (.int 0)).set 9 (.int 0)) (j := 10) (vu_s _ _ _) (by rw [List.length_set, List.length_set, List.length_set, List.length_set]; omega) (.int 0)
  rw [vu_u] at p4
  have p5 := hq_pf (p := k) (m := m) (E := E) (F := va_up F p (.inr (.inr (0, ((((fs.set 6 (.int 10)).set 7 (.int 0)).set 8 (.int 0)).set 9 (.int 0)).set 10 (.int 0))))) (k := p) (ci := 0) (fs := ((((fs.set 6 (.int 10)).set 7 (.int 0)).set 8 (.int 0)).set 9 (.int 0)).set 10 (.int 0)) (j := 11) (vu_s _ _ _) (by rw [List.length_set, List.length_set, List.length_set, List.length_set, List.length_set]; omega) (.int 1)
  rw [vu_u] at p5
  have p6 := hq_pf (p := k) (m := m) (E := E) (F := va_up F p (.inr (.inr (0, (((((fs.set 6 (.int 10)).set 7 (.int 0)).set 8 (.int 0)).set 9 (.int 0)).set 10 (.int 0)).set 11 (.int 1))))) (k := p) (ci := 0) (fs := (((((fs.set 6 (.int 10)).set 7 (.int 0)).set 8 (.int 0)).set 9 (.int 0)).set 10 (.int 0)).set 11 (.int 1)) (j := 12) (vu_s _ _ _) (by rw [List.length_set, List.length_set, List.length_set, List.length_set, List.length_set, List.length_set]; omega) (.int 0)
  rw [vu_u] at p6
  refine ⟨va_up F p (.inr (.inr (0, ((((((fs.set 6 (.int 10)).set 7 (.int 0)).set 8 (.int 0)).set 9 (.int 0)).set 10 (.int 0)).set 11 (.int 1)).set 12 (.int 0)))), ?_, SR_f S⟩
  simp only [S0_49, S0_50, S0_52, S0_55, S0_56, S0_57, S0_60, S0_61, S0_62, S0_65, S0_66, S0_67, S0_70, S0_71, S0_72, S0_75, S0_76, S0_77, S0_80, S0_81, S0_82, Option.bind_some, Option.map_some, xpush_s, xpush_n, xcat_0, xcat_i, xcat_r, xcat_l, xcat_n, xcat_e, xir_r, Nat.reduceAdd, Nat.reduceLeDiff, Nat.zero_le, Nat.le_refl, ↓reduceIte, hq_1, p0, p1, p2, p3, p4, p5, p6]
theorem i_riv (d : Nat) (hF : F p = .inr (.inr (0, xdv0))) : ∃ FF, Ev (d + 2) 0 [.ref p] (hq' (p + 1) m F E) = some (none, hq' (p + 9) (m + 72) FF E) ∧ (∀ j, j < 9 → FF (p + j) = rC p d0 t0 j) ∧ ∀ q, q < p ∨ p + 9 ≤ q → FF q = F q := by
  have S0 : SR p 0 xdv0 F F := ⟨hF, fun i i1 i2 => absurd i2 (by omega), fun q _ => rfl⟩
  obtain ⟨F1, e1, S1⟩ := r_1 (ev := Ev (d + 1)) (k := p + 1) (m := m) (E := E) rfl rfl S0
  obtain ⟨F2, e2, S2⟩ := r_f1 (ev := Ev (d + 1)) (k := p + 1 + 1) (m := m + 12) (E := E) rfl S1
  obtain ⟨F3, e3, S3⟩ := r_2 (ev := Ev (d + 1)) (k := p + 1 + 1) (m := m + 12) (E := E) rfl rfl S2
  obtain ⟨F4, e4, S4⟩ := r_3 (ev := Ev (d + 1)) (k := p + 1 + 1 + 1) (m := m + 12 + 10) (E := E) rfl rfl S3
  obtain ⟨F5, e5, S5⟩ := r_4 (ev := Ev (d + 1)) (k := p + 1 + 1 + 1 + 1) (m := m + 12 + 10 + 10) (E := E) rfl rfl S4
  obtain ⟨F6, e6, S6⟩ := r_5 (ev := Ev (d + 1)) (k := p + 1 + 1 + 1 + 1 + 1) (m := m + 12 + 10 + 10 + 10) (E := E) rfl rfl S5
  obtain ⟨F7, e7, S7⟩ := r_f2 (ev := Ev (d + 1)) (k := p + 1 + 1 + 1 + 1 + 1 + 1) (m := m + 12 + 10 + 10 + 10 + 10) (E := E) rfl S6
  obtain ⟨F8, e8, S8⟩ := r_6 (ev := Ev (d + 1)) (k := p + 1 + 1 + 1 + 1 + 1 + 1) (m := m + 12 + 10 + 10 + 10 + 10) (E := E) rfl rfl S7
  obtain ⟨F9, e9, S9⟩ := r_7 (ev := Ev (d + 1)) (k := p + 1 + 1 + 1 + 1 + 1 + 1 + 1) (m := m + 12 + 10 + 10 + 10 + 10 + 14) (E := E) rfl rfl S8
  obtain ⟨G, e10, SG⟩ := r_8 (ev := Ev (d + 1)) (k := p + 1 + 1 + 1 + 1 + 1 + 1 + 1 + 1) (m := m + 12 + 10 + 10 + 10 + 10 + 14 + 3) (E := E) rfl rfl S9
  have SG : SR p 8 (riF p d0) G F := SG
  have a0 : RF 0 (Ev (d + 1)) 0 [some (.ref p)] [] (hq' (p + 1) m F E) = RF 0 (Ev (d + 1)) 4 [some (.ref p)] [] (hq' (p + 1) m F E) := by
    simp only [S0_0, S0_1, Option.bind_some, Option.map_some, xpush_s, xpush_n, xcat_0, xcat_i, xcat_r, xcat_l, xcat_n, xcat_e, xir_r, Nat.reduceAdd, Nat.reduceLeDiff, Nat.zero_le, Nat.le_refl, ↓reduceIte]
  have g1 : G (p + 1) = .inl (0, 12, fun _ => 0) := SG.2.1 1 (by decide) (by decide)
  have hf := i_fill (F := G) (m := m + 72) (E := E) d (P := p + 9) (k := p + 1) (n := 12) (f := fun _ => 0) (by decide) 20 g1
  have hg : hgf (hq' (p + 9) (m + 72) G E) (.ref p) 0 0 = some (.ref (p + 1)) := (hq_gf SG.1).trans rfl
  have b0 : RF 0 (Ev (d + 1)) 124 [some (.ref p)] [] (hq' (p + 9) (m + 72) G E) = some (none, hq' (p + 9) (m + 72) (va_up G (p + 1) (.inl (0, 12, fil (fun _ => 0) 20 12))) E) := by
    simp only [S0_124, S0_125, S0_128, S0_130, S0_133, Option.bind_some, Option.map_some, xpush_s, xpush_n, xcat_0, xcat_i, xcat_r, xcat_l, xcat_n, xcat_e, xir_r, Nat.reduceAdd, Nat.reduceLeDiff, Nat.zero_le, Nat.le_refl, ↓reduceIte, hg, hf]
  refine ⟨va_up G (p + 1) (.inl (0, 12, fil (fun _ => 0) 20 12)), (E0 (d + 1) p _).trans (a0.trans (e1.trans (e2.trans (e3.trans (e4.trans (e5.trans (e6.trans (e7.trans (e8.trans (e9.trans (e10.trans b0))))))))))), ?_, ?_⟩
  · intro j hj
    have hc : j = 0 ∨ j = 1 ∨ j = 2 ∨ j = 3 ∨ j = 4 ∨ j = 5 ∨ j = 6 ∨ j = 7 ∨ j = 8 := by omega
    rcases hc with h | h | h | h | h | h | h | h | h <;> subst h
    · rw [vu_n _ _ (by omega)]
      exact SG.1
    · rw [vu_s]
      show _ = Sum.inl (0, 12, wA d0)
      rw [wA0]
    · rw [vu_n _ _ (by omega), SG.2.1 2 (by decide) (by decide)]
      show _ = Sum.inl (0, 10, mA d0 0)
      rw [mA0]
      rfl
    · rw [vu_n _ _ (by omega), SG.2.1 3 (by decide) (by decide)]
      show _ = Sum.inl (0, 10, mA d0 1)
      rw [mA0]
      rfl
    · rw [vu_n _ _ (by omega), SG.2.1 4 (by decide) (by decide)]
      show _ = Sum.inl (0, 10, mA d0 2)
      rw [mA0]
      rfl
    · rw [vu_n _ _ (by omega), SG.2.1 5 (by decide) (by decide)]
      show _ = Sum.inl (0, 10, mA d0 3)
      rw [mA0]
      rfl
    · rw [vu_n _ _ (by omega), SG.2.1 6 (by decide) (by decide)]
      rfl
    · rw [vu_n _ _ (by omega), SG.2.1 7 (by decide) (by decide)]
      rfl
    · rw [vu_n _ _ (by omega), SG.2.1 8 (by decide) (by decide)]
      rfl
  · intro q hq
    rw [vu_n _ _ (by omega)]
    exact SG.2.2 q (by omega)
end CONS
