/-! part 52, by program (wip/whole/gen/calls3.py): calls, third lot: what is thought -/
section CPY
variable {a : Nat → Nat → Int32} {δ κ s : Nat → Int32} {w : Int64} {H : xh}
theorem va_c3 {j : Nat} (hj : j ≠ 1) (h9 : j ≠ 9) (f δ κ : Nat → Int32) : va_up (va_up (va_up a 1 δ) 9 κ) j f = va_up (va_up (va_up a j f) 1 δ) 9 κ := by
  rw [vu_c _ _ _ (show j ≠ 9 from h9), vu_c _ _ _ (show j ≠ 1 from hj)]
theorem m_cpi (d : Nat) {j : Nat} (hj : j = 2 ∨ j = 3 ∨ j = 4) (zd : z60 δ) (zj : z60 (a j)) : Ev (d + 1) 154 [.ref 59, .ref (58 + j)] (md a δ κ s w H) = some (none, md (va_up a j δ) δ κ s w H) := by
  unfold md
  have h := m_copies (a := va_up (va_up a 1 δ) 9 κ) (s := s) (w := w) (H := H) d (i := 1) (j := j) (by omega) (Or.inl rfl) (by omega) (by rw [va1]; exact zd) (by rw [vaj _ _ _ (by omega) (by omega)]; exact zj)
  rw [va1, va_c3 (by omega) (by omega)] at h
  exact h
theorem m_cpo (d : Nat) {j : Nat} (hj : j = 2 ∨ j = 3 ∨ j = 4) (zd : z60 δ) (zj : z60 (a j)) : Ev (d + 1) 154 [.ref (58 + j), .ref 59] (md a δ κ s w H) = some (none, md a (a j) κ s w H) := by
  unfold md
  have h := m_copies (a := va_up (va_up a 1 δ) 9 κ) (s := s) (w := w) (H := H) d (i := j) (j := 1) (by omega) (by omega) (Or.inl rfl) (by rw [vaj _ _ _ (by omega) (by omega)]; exact zj) (by rw [va1]; exact zd)
  rw [vaj _ _ _ (by omega) (by omega), vu_c _ _ _ (show (1 : Nat) ≠ 9 by decide), vu_u] at h
  exact h
theorem m_cpi3 (d : Nat) (zd : z60 δ) (zj : z60 (a 3)) : Ev (d + 1) 154 [.ref 59, .ref 61] (md a δ κ s w H) = some (none, md (va_up a 3 δ) δ κ s w H) := by
  have h := m_cpi (κ := κ) (s := s) (w := w) (H := H) d (j := 3) (Or.inr (Or.inl rfl)) zd zj
  rw [show 58 + 3 = 61 from rfl] at h
  exact h
theorem m_cpo3 (d : Nat) (zd : z60 δ) (zj : z60 (a 3)) : Ev (d + 1) 154 [.ref 61, .ref 59] (md a δ κ s w H) = some (none, md a (a 3) κ s w H) := by
  have h := m_cpo (κ := κ) (s := s) (w := w) (H := H) d (j := 3) (Or.inr (Or.inl rfl)) zd zj
  rw [show 58 + 3 = 61 from rfl] at h
  exact h
/-- back out of aside, once laid there -/
theorem m_cpb (d : Nat) {ε : Nat → Int32} (zd : z60 δ) (ze : z60 ε) : Ev (d + 1) 154 [.ref 61, .ref 59] (md (va_up a 3 ε) δ κ s w H) = some (none, md (va_up a 3 ε) ε κ s w H) := by
  have h := m_cpo3 (a := va_up a 3 ε) (δ := δ) (κ := κ) (s := s) (w := w) (H := H) d zd (by rw [vu_s]; exact ze)
  rw [vu_s] at h
  exact h
theorem Dg2 : hgf (md a δ κ s w H) (.ref 58) 6 1 = some (.ref 60) := (rfl)
theorem Dg3 : hgf (md a δ κ s w H) (.ref 58) 6 2 = some (.ref 61) := (rfl)
theorem Dg4 : hgf (md a δ κ s w H) (.ref 58) 6 3 = some (.ref 62) := (rfl)
end CPY
section COMBT
variable {m : Nat} {δ : Nat → Int32} {τ1 : xt} {ε : Nat → Int32} {τ2 : xt} {ζ : Nat → Int32} {τ3 : xt} {κ : Nat → Nat → Int32} {n : Nat} {l : lk} {ke op sz : Int32} {B S : Nat → Int32} {b a : Nat → Nat → Int32} {s : Nat → Int32} {w : Int64} {X : xh}
theorem combT {c mo : Nat} {args : List Value} {d : Nat} (v : Int32) (ζ' : Nat → Int32) (τ3' : xt) (κ' : Nat → Nat → Int32) (κm : Nat → Int32) (R : Rel m δ τ1 ε τ2 n B b a s X) (e1 : Ev (d + 200) c (.ref 0 :: args) (cG δ τ1 ε τ2 ζ τ3 κ n l ke op sz B S b (mh a s w X)) = some (some (.int v), cG δ τ1 ε τ2 ζ' τ3' κ' n l ke op sz B S b (mh a s w X))) (e2 : Ev (d + 200) mo (.ref 58 :: args) (md a δ (a 9) s w (cG δ τ1 ε τ2 ζ' τ3' κ' n l ke op sz B S b X)) = some (some (.int v), md (va_up a 3 δ) δ κm s w (cG δ τ1 ε τ2 ζ' τ3' κ' n l ke op sz B S b X))) : ∃ v h1 h2, Ev (d + 200) c (.ref 0 :: args) (cG δ τ1 ε τ2 ζ τ3 κ n l ke op sz B S b (mh a s w X)) = some (some (.int v), h1) ∧ Ev (d + 200) mo (.ref 58 :: args) h1 = some (some (.int v), h2) ∧ INV (m + 1) h2 ∧ h2.2.2.2 = X.2.2.2 ∧ h1.2.2.2 = X.2.2.2 ∧ xcls h1 (.ref 58) = 6 :=
  comb (a' := va_up (va_up (va_up a 3 δ) 1 δ) 9 κm) R e1 (by rw [md_of R.2.2.1]; exact e2) (fun j h1 h3 h4 h9 h11 h16 h17 h18 => by rw [vaj _ _ _ h1 h9, vu_n _ _ h3]) (va1 _ _ _) (by rw [vaj _ _ _ (by decide) (by decide), vu_s]; exact R.1.z) (by rw [vaj _ _ _ (by decide) (by decide), vu_n _ _ (by decide)]; exact R.2.2.2.2.2.2.2.2.2.2.2.1) R.1 R.2.1 rfl (sb_r b)
/-- the law of strokes, with aside laid -/
theorem TXT_3 (R : Rel m δ τ1 ε τ2 n B b a s X) : ∃ q, LW X τ1 0 q ∧ QM (va_up a 3 δ) 0 (nn (δ 7)) q := TXT_q (TXT_a (a' := va_up a 3 δ) (vu_n _ _ (by decide)) (vu_n _ _ (by decide)) (vu_n _ _ (by decide)) (vu_n _ _ (by decide)) R.2.2.2.1) (key := 0) (by decide)
/-- thought becomes now, and months go by there -/
theorem T_b (R : Rel m δ τ1 ε τ2 n B b a s X) (d : Nat) (ζ : Nat → Int32) (τ3 : xt) (κ : Nat → Nat → Int32) : ∃ τ, tE τ τ1 ∧ Ev (d + 1) 20 [.ref 19, .ref 1] (cG δ τ1 ε τ2 ζ τ3 κ n l ke op sz B S b (mh a s w X)) = some (none, cG δ τ1 ε τ2 δ τ κ n l ke op sz B S b (mh a s w X)) := G_b19_1 d hi_mh R.2.2.2.1.1
theorem T_p (d : Nat) {q : Option xq} (hq : LW X τ1 0 q) (ht : tE τ3 τ1) (hw : wf ζ) {k : Nat} (hk : k < 2 ^ 31) : ∃ κ', Ev (d + 5) 10 [.ref 19, .int (nI k)] (cG δ τ1 ε τ2 ζ τ3 κ n l ke op sz B S b (mh a s w X)) = some (none, cG δ τ1 ε τ2 (sMonths q k ζ) τ3 κ' n l ke op sz B S b (mh a s w X)) := Q_pass d hw hi_mh (LW_E ht (by decide) hq) hk
end COMBT
theorem m_riv (d : Nat) {a : Nat → Nat → Int32} {δ κ s : Nat → Int32} {w : Int64} {H : xh} (hw : wf δ) {j : Nat} (hj : j < 5) : Ev (d + 3) 147 [.ref 58, .int (nI j)] (md a δ κ s w H) = some (some (.int (sSum δ j)), md a δ κ s w H) := by
  rw [E147]
  rcases (show j = 0 ∨ j = 1 ∨ j = 2 ∨ j = 3 ∨ j = 4 by omega) with rfl | rfl | rfl | rfl | rfl
  · simp (config := { decide := true }) only [S147_0, S147_1, S147_44, S147_45, S147_48, S147_49, S147_50, S147_51, S147_52, S147_55, S147_56, S147_57, S147_58, S147_59, S147_62, S147_63, S147_64, S147_67, S147_68, S147_69, S147_72, S147_73, S147_74, S147_77, S147_78, S147_79, S147_82, S147_83, S147_85, Option.bind_some, Option.map_some, xpush_s, xpush_n, xcat_0, xcat_i, xcat_r, xcat_l, xcat_n, xcat_e, xir_r, Nat.reduceAdd, Nat.reduceLeDiff, Nat.zero_le, Nat.le_refl, ↓reduceIte, Dcls, Dg, Dr, ix_4, if_true, if_false, sSum]
  · simp (config := { decide := true }) only [S147_0, S147_1, S147_44, S147_45, S147_48, S147_49, S147_50, S147_51, S147_52, S147_55, S147_56, S147_57, S147_58, S147_59, S147_62, S147_63, S147_64, S147_67, S147_68, S147_69, S147_72, S147_73, S147_74, S147_77, S147_78, S147_79, S147_82, S147_83, S147_85, Option.bind_some, Option.map_some, xpush_s, xpush_n, xcat_0, xcat_i, xcat_r, xcat_l, xcat_n, xcat_e, xir_r, Nat.reduceAdd, Nat.reduceLeDiff, Nat.zero_le, Nat.le_refl, ↓reduceIte, Dcls, Dg, Dr, ix_5, if_true, if_false, sSum]
  · simp (config := { decide := true }) only [S147_0, S147_1, S147_44, S147_45, S147_48, S147_49, S147_50, S147_51, S147_52, S147_55, S147_56, S147_57, S147_58, S147_59, S147_62, S147_63, S147_64, S147_67, S147_68, S147_69, S147_72, S147_73, S147_74, S147_77, S147_78, S147_79, S147_82, S147_83, S147_85, Option.bind_some, Option.map_some, xpush_s, xpush_n, xcat_0, xcat_i, xcat_r, xcat_l, xcat_n, xcat_e, xir_r, Nat.reduceAdd, Nat.reduceLeDiff, Nat.zero_le, Nat.le_refl, ↓reduceIte, Dcls, m_wat, if_true, if_false, sSum]
  · simp (config := { decide := true }) only [S147_0, S147_1, S147_44, S147_45, S147_48, S147_49, S147_50, S147_51, S147_52, S147_55, S147_56, S147_57, S147_58, S147_59, S147_62, S147_63, S147_64, S147_67, S147_68, S147_69, S147_72, S147_73, S147_74, S147_77, S147_78, S147_79, S147_82, S147_83, S147_85, Option.bind_some, Option.map_some, xpush_s, xpush_n, xcat_0, xcat_i, xcat_r, xcat_l, xcat_n, xcat_e, xir_r, Nat.reduceAdd, Nat.reduceLeDiff, Nat.zero_le, Nat.le_refl, ↓reduceIte, Dcls, m_ink _ hw, if_true, if_false, sSum]
  · simp (config := { decide := true }) only [S147_0, S147_1, S147_44, S147_45, S147_48, S147_49, S147_50, S147_51, S147_52, S147_55, S147_56, S147_57, S147_58, S147_59, S147_62, S147_63, S147_64, S147_67, S147_68, S147_69, S147_72, S147_73, S147_74, S147_77, S147_78, S147_79, S147_82, S147_83, S147_85, Option.bind_some, Option.map_some, xpush_s, xpush_n, xcat_0, xcat_i, xcat_r, xcat_l, xcat_n, xcat_e, xir_r, Nat.reduceAdd, Nat.reduceLeDiff, Nat.zero_le, Nat.le_refl, ↓reduceIte, Dcls, m_dry, if_true, if_false, sSum]
theorem k_behind (x y : Int32) : CL 76 153 [.int x, .int y] := by
  intro d m h hI
  obtain ⟨δ, τ1, ε, τ2, ζ, τ3, κ, n, l, ke, op, sz, B, S, b, a, s, w, X, rfl, R⟩ := hI
  have hw := R.1
  have hmo := R.2.1
  have ha1 := R.2.2.1
  have hmd := fun Z => md_of (s := s) (w := w) (Z := Z) ha1
  have n1 : ¬ (1 : Int32) = 0 := by decide
  by_cases c1 : bd x 100
  · skip
    by_cases c2 : bd y 16
    · skip
      have o1 := fun d h => ou_f d h (n := 100) (N := 100) rfl (by decide) c1
      have o2 := fun d h => ou_f d h (n := 16) (N := 16) rfl (by decide) c2
      have i1 := fun d h => in_t d h (n := 100) (N := 100) rfl (by decide) c1
      have i2 := fun d h => in_t d h (n := 16) (N := 16) rfl (by decide) c2
      obtain ⟨k, hk, rfl⟩ := c1
      obtain ⟨j, hj, rfl⟩ := c2
      obtain ⟨q, hq1, hq2⟩ := TXT_3 R
      obtain ⟨τ, ht, e1⟩ := T_b (l := l) (ke := ke) (op := op) (sz := sz) (S := S) (w := w) R (d + 198) ζ τ3 κ
      obtain ⟨κ1, e2⟩ := T_p (δ := δ) (τ1 := τ1) (ε := ε) (τ2 := τ2) (ζ := δ) (τ3 := τ) (κ := κ) (n := n) (l := l) (ke := ke) (op := op) (sz := sz) (B := B) (S := S) (b := b) (a := a) (s := s) (w := w) (X := X) (d + 194) hq1 ht hw (show k < 2 ^ 31 by omega)
      obtain ⟨κ2, e3⟩ := s_months (κ := a 9) (s := s) (w := w) (H := cG δ τ1 ε τ2 (sMonths q k δ) τ κ1 n l ke op sz B S b X) (d + 193) (show k < 2 ^ 31 by omega) hw hq2
      have hD := (mw_months q k δ hw).1
      have z3 : z60 (a 3) := R.2.2.2.2.2.2.2.2.2.2.1
      by_cases h5 : j < 5
      · have c5 : ¬ (5 : Int32) ≤ nI j := nI_ge (b := 5) h5 (by decide)
        refine combT (sSum (sMonths q k δ) j) (sMonths q k δ) τ κ1 κ2 R ?_ ?_
        · rw [E76]
          simp only [S76_0, S76_1, S76_2, S76_4, S76_7, S76_10, S76_11, S76_12, S76_14, S76_17, S76_20, S76_22, S76_23, S76_24, S76_27, S76_28, S76_31, S76_34, S76_35, S76_38, S76_39, S76_42, S76_43, S76_44, S76_47, S76_48, S76_51, S76_52, S76_55, S76_58, S76_59, S76_62, S76_65, S76_66, S76_67, S76_68, S76_69, Option.bind_some, Option.map_some, xpush_s, xpush_n, xcat_0, xcat_i, xcat_r, xcat_l, xcat_n, xcat_e, xir_r, Nat.reduceAdd, Nat.reduceLeDiff, Nat.zero_le, Nat.le_refl, ↓reduceIte, C_0, C_2, Q_cls, o1, o2, e1, e2, c5, Q_sum _ hD h5]
        · rw [E153]
          simp only [S153_0, S153_1, S153_2, S153_3, S153_6, S153_9, S153_12, S153_13, S153_14, S153_15, S153_18, S153_21, S153_24, S153_26, S153_27, S153_28, S153_31, S153_32, S153_35, S153_38, S153_39, S153_40, S153_43, S153_44, S153_45, S153_48, S153_49, S153_50, S153_53, S153_56, S153_57, S153_60, S153_62, S153_63, S153_64, S153_65, S153_66, S153_67, S153_68, S153_69, S153_72, S153_73, S153_76, S153_79, S153_80, Option.bind_some, Option.map_some, xpush_s, xpush_n, xcat_0, xcat_i, xcat_r, xcat_l, xcat_n, xcat_e, xir_r, Nat.reduceAdd, Nat.reduceLeDiff, Nat.zero_le, Nat.le_refl, ↓reduceIte, Dcls, Dg, Dg3, n1, i1, i2, m_cpi3 _ hw.z z3, e3, c5, m_riv _ hD h5, m_cpb _ hD.z hw.z]
      · have c5 : (5 : Int32) ≤ nI j := nI_le (a := 5) (by omega) (by omega)
        have es : nI j - 5 = nI (j - 5) := pk_sub (b := 5) (by omega)
        have es2 : (8 : Int32) + nI j - 5 = nI (8 + (j - 5)) := by
          rw [show (8 : Int32) = nI 8 from rfl, nI_add, show (5 : Int32) = nI 5 from rfl, pk_sub (by omega), show 8 + j - 5 = 8 + (j - 5) by omega]
        refine combT (sMonths q k δ (8 + (j - 5))) (sMonths q k δ) τ κ1 κ2 R ?_ ?_
        · rw [E76]
          simp only [S76_0, S76_1, S76_2, S76_4, S76_7, S76_10, S76_11, S76_12, S76_14, S76_17, S76_20, S76_22, S76_23, S76_24, S76_27, S76_28, S76_31, S76_34, S76_35, S76_38, S76_39, S76_42, S76_43, S76_44, S76_47, S76_48, S76_51, S76_52, S76_55, S76_58, S76_59, S76_62, S76_65, S76_66, S76_67, S76_68, S76_69, Option.bind_some, Option.map_some, xpush_s, xpush_n, xcat_0, xcat_i, xcat_r, xcat_l, xcat_n, xcat_e, xir_r, Nat.reduceAdd, Nat.reduceLeDiff, Nat.zero_le, Nat.le_refl, ↓reduceIte, C_0, C_2, Q_cls, o1, o2, e1, e2, c5, Q_g0, es, Q_w (show j - 5 < 12 by omega)]
        · rw [E153]
          simp only [S153_0, S153_1, S153_2, S153_3, S153_6, S153_9, S153_12, S153_13, S153_14, S153_15, S153_18, S153_21, S153_24, S153_26, S153_27, S153_28, S153_31, S153_32, S153_35, S153_38, S153_39, S153_40, S153_43, S153_44, S153_45, S153_48, S153_49, S153_50, S153_53, S153_56, S153_57, S153_60, S153_62, S153_63, S153_64, S153_65, S153_66, S153_67, S153_68, S153_69, S153_72, S153_73, S153_76, S153_79, S153_80, Option.bind_some, Option.map_some, xpush_s, xpush_n, xcat_0, xcat_i, xcat_r, xcat_l, xcat_n, xcat_e, xir_r, Nat.reduceAdd, Nat.reduceLeDiff, Nat.zero_le, Nat.le_refl, ↓reduceIte, Dcls, Dg, Dg3, Dr, n1, i1, i2, m_cpi3 _ hw.z z3, e3, c5, es2, xix_n (show 8 + (j - 5) < 60 by omega) (show 60 ≤ 100000 by decide), m_cpb _ hD.z hw.z]
    · refine comb0 (v := -1000000001) R ?_ ?_
      · rw [E76]
        simp only [S76_0, S76_1, S76_2, S76_4, S76_7, S76_10, S76_11, S76_12, S76_14, S76_17, S76_20, S76_22, S76_23, S76_24, S76_27, S76_28, S76_31, S76_34, S76_35, S76_38, S76_39, S76_42, S76_43, S76_44, S76_47, S76_48, S76_51, S76_52, S76_55, S76_58, S76_59, S76_62, S76_65, S76_66, S76_67, S76_68, S76_69, Option.bind_some, Option.map_some, xpush_s, xpush_n, xcat_0, xcat_i, xcat_r, xcat_l, xcat_n, xcat_e, xir_r, Nat.reduceAdd, Nat.reduceLeDiff, Nat.zero_le, Nat.le_refl, ↓reduceIte, C_0, C_6, N_cls, n1, ou_f _ _ (n := 100) (N := 100) rfl (by decide) c1, ou_t _ _ (n := 16) (N := 16) rfl (by decide) c2]
      · rw [hmd, E153]
        simp only [S153_0, S153_1, S153_2, S153_3, S153_6, S153_9, S153_12, S153_13, S153_14, S153_15, S153_18, S153_21, S153_24, S153_26, S153_27, S153_28, S153_31, S153_32, S153_35, S153_38, S153_39, S153_40, S153_43, S153_44, S153_45, S153_48, S153_49, S153_50, S153_53, S153_56, S153_57, S153_60, S153_62, S153_63, S153_64, S153_65, S153_66, S153_67, S153_68, S153_69, S153_72, S153_73, S153_76, S153_79, S153_80, Option.bind_some, Option.map_some, xpush_s, xpush_n, xcat_0, xcat_i, xcat_r, xcat_l, xcat_n, xcat_e, xir_r, Nat.reduceAdd, Nat.reduceLeDiff, Nat.zero_le, Nat.le_refl, ↓reduceIte, Dcls, n1, in_t _ _ (n := 100) (N := 100) rfl (by decide) c1, in_f _ _ (n := 16) (N := 16) rfl (by decide) c2]
  · refine comb0 (v := -1000000001) R ?_ ?_
    · rw [E76]
      simp only [S76_0, S76_1, S76_2, S76_4, S76_7, S76_10, S76_11, S76_12, S76_14, S76_17, S76_20, S76_22, S76_23, S76_24, S76_27, S76_28, S76_31, S76_34, S76_35, S76_38, S76_39, S76_42, S76_43, S76_44, S76_47, S76_48, S76_51, S76_52, S76_55, S76_58, S76_59, S76_62, S76_65, S76_66, S76_67, S76_68, S76_69, Option.bind_some, Option.map_some, xpush_s, xpush_n, xcat_0, xcat_i, xcat_r, xcat_l, xcat_n, xcat_e, xir_r, Nat.reduceAdd, Nat.reduceLeDiff, Nat.zero_le, Nat.le_refl, ↓reduceIte, C_0, C_6, N_cls, n1, ou_t _ _ (n := 100) (N := 100) rfl (by decide) c1]
    · rw [hmd, E153]
      simp only [S153_0, S153_1, S153_2, S153_3, S153_6, S153_9, S153_12, S153_13, S153_14, S153_15, S153_18, S153_21, S153_24, S153_26, S153_27, S153_28, S153_31, S153_32, S153_35, S153_38, S153_39, S153_40, S153_43, S153_44, S153_45, S153_48, S153_49, S153_50, S153_53, S153_56, S153_57, S153_60, S153_62, S153_63, S153_64, S153_65, S153_66, S153_67, S153_68, S153_69, S153_72, S153_73, S153_76, S153_79, S153_80, Option.bind_some, Option.map_some, xpush_s, xpush_n, xcat_0, xcat_i, xcat_r, xcat_l, xcat_n, xcat_e, xir_r, Nat.reduceAdd, Nat.reduceLeDiff, Nat.zero_le, Nat.le_refl, ↓reduceIte, Dcls, n1, in_f _ _ (n := 100) (N := 100) rfl (by decide) c1]

/-- the first month that a row has a property -/
def fsM (q : Option xq) (P : (Nat → Int32) → Bool) : Nat → (Nat → Int32) → Option Nat
  | 0, δ => if P δ = true then some 0 else none
  | j + 1, δ => if P δ = true then some 0 else (fsM q P j (sMonth q δ)).map (fun k => k + 1)
def fmW (o : Option Nat) (n : Nat) : Int32 := match o with
  | none => -1000000005
  | some k => nI (n + k)
theorem fmW_s (o : Option Nat) (n : Nat) : fmW (o.map (fun k => k + 1)) n = fmW o (n + 1) := by
  cases o with
  | none => rfl
  | some k => show nI (n + (k + 1)) = nI (n + 1 + k); congr 1; omega
section FMW
variable {m : Nat} {δ : Nat → Int32} {τ1 : xt} {ε : Nat → Int32} {τ2 : xt} {τ3 : xt} {n : Nat} {l : lk} {ke op sz : Int32} {B S : Nat → Int32} {b a : Nat → Nat → Int32} {s : Nat → Int32} {w : Int64} {X : xh}
theorem c_fm_l (d : Nat) {q : Option xq} (hq : LW X τ1 0 q) (ht : tE τ3 τ1) {r : Nat} (hr : r < 12) {lo hi : Int32} (P : (Nat → Int32) → Bool) (hP : ∀ ζ : Nat → Int32, wf ζ → ∀ d h, Ev (d + 1) 57 [.int (ζ (8 + r)), .int lo, .int hi] h = some (some (.int (if P ζ = true then 0 else 1)), h)) : ∀ j k, k + j = 200 → ∀ (ζ : Nat → Int32) (κ : Nat → Nat → Int32), wf ζ → ∃ ζ' κ', RF 78 (Ev (d + 5)) 14 [some (.ref 0), some (.int (nI r)), some (.int lo), some (.int hi), some (.int (nI k))] [] (cG δ τ1 ε τ2 ζ τ3 κ n l ke op sz B S b (mh a s w X)) = some (some (.int (fmW (fsM q P j ζ) k)), cG δ τ1 ε τ2 ζ' τ3 κ' n l ke op sz B S b (mh a s w X)) := by
  intro j
  have n1 : ¬ (1 : Int32) = 0 := by decide
  have step : ∀ k, k ≤ 200 → ∀ (ζ : Nat → Int32) (κ : Nat → Nat → Int32), wf ζ → P ζ = true → RF 78 (Ev (d + 5)) 14 [some (.ref 0), some (.int (nI r)), some (.int lo), some (.int hi), some (.int (nI k))] [] (cG δ τ1 ε τ2 ζ τ3 κ n l ke op sz B S b (mh a s w X)) = some (some (.int (nI k)), cG δ τ1 ε τ2 ζ τ3 κ n l ke op sz B S b (mh a s w X)) := by
    intro k hk ζ κ hw hp
    have hc : ¬ (200 : Int32) < nI k := nI_nlt (a := 200) hk (by decide)
    have ho := hP ζ hw
    rw [if_pos hp] at ho
    simp only [S78_14, S78_16, S78_19, S78_22, S78_23, S78_26, S78_29, S78_30, S78_31, S78_32, S78_33, S78_36, S78_39, S78_41, Option.bind_some, Option.map_some, xpush_s, xpush_n, xcat_0, xcat_i, xcat_r, xcat_l, xcat_n, xcat_e, xir_r, Nat.reduceAdd, Nat.reduceLeDiff, Nat.zero_le, Nat.le_refl, ↓reduceIte, hc, C_2, Q_g0, Q_w hr, ho]
  have step2 : ∀ k, k ≤ 200 → ∀ (ζ : Nat → Int32) (κ : Nat → Nat → Int32), wf ζ → ¬ P ζ = true → ∃ κ', RF 78 (Ev (d + 5)) 14 [some (.ref 0), some (.int (nI r)), some (.int lo), some (.int hi), some (.int (nI k))] [] (cG δ τ1 ε τ2 ζ τ3 κ n l ke op sz B S b (mh a s w X)) = RF 78 (Ev (d + 5)) 14 [some (.ref 0), some (.int (nI r)), some (.int lo), some (.int hi), some (.int (nI (k + 1)))] [] (cG δ τ1 ε τ2 (sMonth q ζ) τ3 κ' n l ke op sz B S b (mh a s w X)) := by
    intro k hk ζ κ hw hp
    have hc : ¬ (200 : Int32) < nI k := nI_nlt (a := 200) hk (by decide)
    have ho := hP ζ hw
    rw [if_neg hp] at ho
    obtain ⟨κ', e⟩ := T_p (δ := δ) (τ1 := τ1) (ε := ε) (τ2 := τ2) (ζ := ζ) (τ3 := τ3) (κ := κ) (n := n) (l := l) (ke := ke) (op := op) (sz := sz) (B := B) (S := S) (b := b) (a := a) (s := s) (w := w) (X := X) d hq ht hw (show 1 < 2 ^ 31 by decide)
    rw [show nI 1 = 1 from rfl, show sMonths q 1 ζ = sMonth q ζ from rfl] at e
    refine ⟨κ', ?_⟩
    rw [S78_14]
    simp only [S78_16, S78_19, S78_22, S78_23, S78_26, S78_29, S78_30, S78_31, S78_32, S78_33, S78_36, S78_39, S78_41, S78_42, S78_43, S78_46, S78_47, S78_50, S78_53, S78_56, S78_58, Option.bind_some, Option.map_some, xpush_s, xpush_n, xcat_0, xcat_i, xcat_r, xcat_l, xcat_n, xcat_e, xir_r, Nat.reduceAdd, Nat.reduceLeDiff, Nat.zero_le, Nat.le_refl, ↓reduceIte, hc, C_2, Q_cls, Q_g0, Q_w hr, ho, n1, e, nI_1]
  induction j with
  | zero =>
    intro k hk ζ κ hw
    have e' : k = 200 := by omega
    subst e'
    by_cases hp : P ζ = true
    · refine ⟨ζ, κ, ?_⟩
      rw [step 200 (by omega) ζ κ hw hp, show fsM q P 0 ζ = some 0 from if_pos hp]
      rfl
    · obtain ⟨κ', e⟩ := step2 200 (by omega) ζ κ hw hp
      refine ⟨sMonth q ζ, κ', ?_⟩
      rw [e, show fsM q P 0 ζ = none from if_neg hp]
      simp only [S78_14, S78_16, S78_19, S78_22, S78_23, S78_26, S78_29, S78_30, S78_31, S78_32, S78_33, S78_36, S78_39, S78_41, S78_42, S78_43, S78_46, S78_47, S78_50, S78_53, S78_56, S78_58, Option.bind_some, Option.map_some, xpush_s, xpush_n, xcat_0, xcat_i, xcat_r, xcat_l, xcat_n, xcat_e, xir_r, Nat.reduceAdd, Nat.reduceLeDiff, Nat.zero_le, Nat.le_refl, ↓reduceIte, show (200 : Int32) < nI (200 + 1) by decide]
      rfl
  | succ j ih =>
    intro k hk ζ κ hw
    by_cases hp : P ζ = true
    · refine ⟨ζ, κ, ?_⟩
      rw [step k (by omega) ζ κ hw hp, show fsM q P (j + 1) ζ = some 0 from if_pos hp]
      rfl
    · obtain ⟨κ1, e⟩ := step2 k (by omega) ζ κ hw hp
      obtain ⟨ζ2, κ2, e2⟩ := ih (k + 1) (by omega) (sMonth q ζ) κ1 (mw_month q hw).1
      refine ⟨ζ2, κ2, ?_⟩
      rw [e, e2, show fsM q P (j + 1) ζ = _ from if_neg hp, fmW_s]
theorem c_fm (R : Rel m δ τ1 ε τ2 n B b a s X) (d : Nat) {q : Option xq} (hq : LW X τ1 0 q) {r : Nat} (hr : r < 12) {lo hi : Int32} (P : (Nat → Int32) → Bool) (hP : ∀ ζ : Nat → Int32, wf ζ → ∀ d h, Ev (d + 1) 57 [.int (ζ (8 + r)), .int lo, .int hi] h = some (some (.int (if P ζ = true then 0 else 1)), h)) (ζ : Nat → Int32) (τ3 : xt) (κ : Nat → Nat → Int32) : ∃ ζ' τ' κ', Ev (d + 6) 78 [.ref 0, .int (nI r), .int lo, .int hi] (cG δ τ1 ε τ2 ζ τ3 κ n l ke op sz B S b (mh a s w X)) = some (some (.int (fmW (fsM q P 200 δ) 0)), cG δ τ1 ε τ2 ζ' τ' κ' n l ke op sz B S b (mh a s w X)) := by
  obtain ⟨τ, ht, e1⟩ := T_b (l := l) (ke := ke) (op := op) (sz := sz) (S := S) (w := w) R (d + 4) ζ τ3 κ
  obtain ⟨ζ2, κ2, e2⟩ := c_fm_l (δ := δ) (τ1 := τ1) (ε := ε) (τ2 := τ2) (τ3 := τ) (n := n) (l := l) (ke := ke) (op := op) (sz := sz) (B := B) (S := S) (b := b) (a := a) (s := s) (w := w) (X := X) d hq ht hr P hP 200 0 rfl δ κ R.1
  refine ⟨ζ2, τ, κ2, ?_⟩
  rw [E78]
  simp only [S78_0, S78_1, S78_4, S78_5, S78_8, S78_11, S78_12, Option.bind_some, Option.map_some, xpush_s, xpush_n, xcat_0, xcat_i, xcat_r, xcat_l, xcat_n, xcat_e, xir_r, Nat.reduceAdd, Nat.reduceLeDiff, Nat.zero_le, Nat.le_refl, ↓reduceIte, C_0, C_2, Q_cls, e1]
  exact e2
end FMW
theorem bi_if (b : Bool) : (if b = true then (1 : Int32) else 0) = bi (b = true) := rfl
theorem m_dries_l (d : Nat) {a : Nat → Nat → Int32} {s : Nat → Int32} {w : Int64} {H : xh} {q : Option xq} {r : Nat} (hr : r < 12) : ∀ j k, k + j = 200 → ∀ (δ κ : Nat → Int32), wf δ → QM a 0 (nn (δ 7)) q → ∃ δ' κ' k', wf δ' ∧ (match fsM q (fun δ => decide (δ (8 + r) = 0)) j δ with | none => ¬ ((δ' (8 + r) = 0)) | some t => ((δ' (8 + r) = 0)) ∧ k' = k + t) ∧ RF 155 (Ev (d + 5)) 23 [some (.ref 58), some (.int (nI r)), some (.int (nI k)), none] [] (md a δ κ s w H) = RF 155 (Ev (d + 5)) 52 [some (.ref 58), some (.int (nI r)), some (.int (nI k')), none] [] (md a δ' κ' s w H) := by
  intro j
  induction j with
  | zero =>
    intro k hk δ κ hw hq
    have e' : k = 200 := by omega
    subst e'
    refine ⟨δ, κ, 200, hw, ?_, ?_⟩
    · by_cases hp : (δ (8 + r) = 0)
      · rw [show fsM q (fun δ => decide (δ (8 + r) = 0)) 0 δ = some 0 from if_pos (by simpa using hp)]
        exact ⟨hp, rfl⟩
      · rw [show fsM q (fun δ => decide (δ (8 + r) = 0)) 0 δ = none from if_neg (by simpa using hp)]
        exact hp
    · rw [S155_23]
      simp only [S155_24, S155_27, S155_30, S155_31, S155_34, S155_36, S155_37, S155_38, S155_39, S155_42, S155_43, S155_46, S155_49, Option.bind_some, Option.map_some, xpush_s, xpush_n, xcat_0, xcat_i, xcat_r, xcat_l, xcat_n, xcat_e, xir_r, Nat.reduceAdd, Nat.reduceLeDiff, Nat.zero_le, Nat.le_refl, ↓reduceIte, show ((200 : Int32) ≤ nI 200) = True from eq_true (Int32.le_refl _)]
  | succ j ih =>
    intro k hk δ κ hw hq
    have hc : ¬ (200 : Int32) ≤ nI k := nI_ge (b := 200) (by omega) (by decide)
    have hx := xix_n (show 8 + r < 60 by omega) (show 60 ≤ 100000 by decide)
    obtain ⟨wv, hwv, ew⟩ := hw.water r hr
    by_cases hp : (δ (8 + r) = 0)
    · refine ⟨δ, κ, k, hw, ?_, ?_⟩
      · rw [show fsM q (fun δ => decide (δ (8 + r) = 0)) (j + 1) δ = some 0 from if_pos (by simpa using hp)]
        exact ⟨hp, rfl⟩
      · have hp' : δ (8 + r) ≤ 0 := by rw [show δ (8 + r) = 0 from hp]; decide
        rw [S155_23]
        simp only [S155_24, S155_27, S155_30, S155_31, S155_34, S155_36, S155_37, S155_38, S155_39, S155_42, S155_43, S155_46, S155_49, Option.bind_some, Option.map_some, xpush_s, xpush_n, xcat_0, xcat_i, xcat_r, xcat_l, xcat_n, xcat_e, xir_r, Nat.reduceAdd, Nat.reduceLeDiff, Nat.zero_le, Nat.le_refl, ↓reduceIte, hc, Dg, Dr, ix8, hx, hp', if_true]
    · obtain ⟨κ1, e1⟩ := s_month (κ := κ) (s := s) (w := w) (H := H) d hw hq
      have hmw := mw_month q hw
      obtain ⟨δ2, κ2, k2, h1, h2, h3⟩ := ih (k + 1) (by omega) (sMonth q δ) κ1 hmw.1 (by rw [hmw.2 7 fx7]; exact hq)
      refine ⟨δ2, κ2, k2, h1, ?_, ?_⟩
      · rw [show fsM q (fun δ => decide (δ (8 + r) = 0)) (j + 1) δ = _ from if_neg (by simpa using hp)]
        cases hf : fsM q (fun δ => decide (δ (8 + r) = 0)) j (sMonth q δ) with
        | none => rw [hf] at h2; exact h2
        | some t => rw [hf] at h2; exact ⟨h2.1, (by have h22 : k2 = k + 1 + t := h2.2; omega : k2 = k + (t + 1))⟩
      · have hp' : ¬ δ (8 + r) ≤ 0 := by rw [ew]; exact nI_nle (Nat.pos_of_ne_zero (fun z => hp (by rw [ew, z]; rfl))) (by omega)
        rw [S155_23]
        simp only [S155_24, S155_27, S155_30, S155_31, S155_34, S155_36, S155_37, S155_38, S155_39, S155_42, S155_43, S155_46, S155_49, Option.bind_some, Option.map_some, xpush_s, xpush_n, xcat_0, xcat_i, xcat_r, xcat_l, xcat_n, xcat_e, xir_r, Nat.reduceAdd, Nat.reduceLeDiff, Nat.zero_le, Nat.le_refl, ↓reduceIte, hc, Dg, Dr, Dcls, ix8, hx, hp', e1, nI_1]
        exact h3

theorem k_dries (x : Int32) : CL 77 155 [.int x] := by
  intro d m h hI
  obtain ⟨δ, τ1, ε, τ2, ζ, τ3, κ, n, l, ke, op, sz, B, S, b, a, s, w, X, rfl, R⟩ := hI
  have hw := R.1
  have hmo := R.2.1
  have ha1 := R.2.2.1
  have hmd := fun Z => md_of (s := s) (w := w) (Z := Z) ha1
  have n1 : ¬ (1 : Int32) = 0 := by decide
  by_cases c1 : bd x 11
  · skip
    have o1 := fun d h => ou_f d h (n := 11) (N := 11) rfl (by decide) c1
    have i1 := fun d h => m_rch_t d h c1
    obtain ⟨r, hr11, rfl⟩ := c1
    have hr : r < 12 := by omega
    obtain ⟨q, hq1, hq2⟩ := TXT_3 R
    have z3 : z60 (a 3) := R.2.2.2.2.2.2.2.2.2.2.1
    have hPP : ∀ ζ : Nat → Int32, wf ζ → ∀ d h, Ev (d + 1) 57 [.int (ζ (8 + r)), .int 0, .int 0] h = some (some (.int (if (fun δ => decide (δ (8 + r) = 0)) ζ = true then 0 else 1)), h) := by
      intro ζ hz d h
      obtain ⟨wv, hwv, ew⟩ := hz.water r hr
      by_cases hp : (ζ (8 + r) = 0)
      · rw [if_pos (by simpa using hp), s_outside, bi_f]
        rintro (z | z)
        · rw [show ζ (8 + r) = 0 from hp] at z; exact absurd z (by decide)
        · rw [show ζ (8 + r) = 0 from hp] at z; exact absurd z (by decide)
      · rw [if_neg (by simpa using hp), s_outside, bi_t]
        exact Or.inr (by rw [ew]; exact nI_lt (a := 0) (Nat.pos_of_ne_zero (fun z => hp (by rw [ew, z]; rfl))) (by omega))
    obtain ⟨ζ2, τ9, κ1, e1⟩ := c_fm (l := l) (ke := ke) (op := op) (sz := sz) (S := S) (w := w) R (d + 193) hq1 hr (lo := 0) (hi := 0) (fun δ => decide (δ (8 + r) = 0)) hPP ζ τ3 κ
    obtain ⟨D, κ2, k2, hD, h2, h3⟩ := m_dries_l (s := s) (w := w) (H := cG δ τ1 ε τ2 ζ2 τ9 κ1 n l ke op sz B S b X) (d + 194) (q := q) hr 200 0 rfl δ (a 9) hw hq2
    have hx := xix_n (show 8 + r < 60 by omega) (show 60 ≤ 100000 by decide)
    refine combT (fmW (fsM q (fun δ => decide (δ (8 + r) = 0)) 200 δ) 0) ζ2 τ9 κ1 κ2 R ?_ ?_
    · rw [E77]
      simp only [S77_0, S77_1, S77_2, S77_4, S77_7, S77_10, S77_12, S77_15, S77_16, S77_17, S77_18, S77_19, S77_22, Option.bind_some, Option.map_some, xpush_s, xpush_n, xcat_0, xcat_i, xcat_r, xcat_l, xcat_n, xcat_e, xir_r, Nat.reduceAdd, Nat.reduceLeDiff, Nat.zero_le, Nat.le_refl, ↓reduceIte, C_cls, o1, e1]
    · rw [E155]
      simp only [S155_0, S155_1, S155_4, S155_7, S155_9, S155_10, S155_11, S155_14, S155_15, S155_18, S155_21, S155_22, Option.bind_some, Option.map_some, xpush_s, xpush_n, xcat_0, xcat_i, xcat_r, xcat_l, xcat_n, xcat_e, xir_r, Nat.reduceAdd, Nat.reduceLeDiff, Nat.zero_le, Nat.le_refl, ↓reduceIte, Dcls, Dg, Dg3, n1, i1, m_cpi3 _ hw.z z3]
      rw [show nI 0 = 0 from rfl] at h3
      rw [h3]
      cases hf : fsM q (fun δ => decide (δ (8 + r) = 0)) 200 δ with
      | none =>
        rw [hf] at h2
        have h2' : ¬ (D (8 + r) = 0) := h2
        simp only [S155_52, S155_53, S155_56, S155_58, S155_59, S155_60, S155_61, S155_64, S155_65, S155_68, S155_69, S155_70, S155_71, S155_74, S155_75, S155_78, S155_81, S155_82, S155_85, S155_86, S155_89, S155_91, Option.bind_some, Option.map_some, xpush_s, xpush_n, xcat_0, xcat_i, xcat_r, xcat_l, xcat_n, xcat_e, xir_r, Nat.reduceAdd, Nat.reduceLeDiff, Nat.zero_le, Nat.le_refl, ↓reduceIte, Dg, Dg3, Dr, ix8, hx, if_neg h2', m_cpb _ hD.z hw.z]
        rfl
      | some t =>
        rw [hf] at h2
        have h2' : (D (8 + r) = 0) := h2.1
        have hk : k2 = 0 + t := h2.2
        subst hk
        simp only [S155_52, S155_53, S155_56, S155_58, S155_59, S155_60, S155_61, S155_64, S155_65, S155_68, S155_69, S155_70, S155_71, S155_74, S155_75, S155_78, S155_81, S155_82, S155_85, S155_86, S155_89, S155_91, Option.bind_some, Option.map_some, xpush_s, xpush_n, xcat_0, xcat_i, xcat_r, xcat_l, xcat_n, xcat_e, xir_r, Nat.reduceAdd, Nat.reduceLeDiff, Nat.zero_le, Nat.le_refl, ↓reduceIte, Dg, Dg3, Dr, ix8, hx, if_pos h2', n1, m_cpb _ hD.z hw.z]
        rfl
  · refine comb0 (v := -1000000001) R ?_ ?_
    · rw [E77]
      simp only [S77_0, S77_1, S77_2, S77_4, S77_7, S77_10, S77_12, S77_15, S77_16, S77_17, S77_18, S77_19, S77_22, Option.bind_some, Option.map_some, xpush_s, xpush_n, xcat_0, xcat_i, xcat_r, xcat_l, xcat_n, xcat_e, xir_r, Nat.reduceAdd, Nat.reduceLeDiff, Nat.zero_le, Nat.le_refl, ↓reduceIte, C_0, C_6, N_cls, n1, ou_t _ _ (n := 11) (N := 11) rfl (by decide) c1]
    · rw [hmd, E155]
      simp only [S155_0, S155_1, S155_4, S155_7, S155_9, S155_10, S155_11, S155_14, S155_15, S155_18, S155_21, S155_22, S155_23, S155_24, S155_27, S155_30, S155_31, S155_34, S155_36, S155_37, S155_38, S155_39, S155_42, S155_43, S155_46, S155_49, S155_52, S155_53, S155_56, S155_58, S155_59, S155_60, S155_61, S155_64, S155_65, S155_68, S155_69, S155_70, S155_71, S155_74, S155_75, S155_78, S155_81, S155_82, S155_85, S155_86, S155_89, S155_91, Option.bind_some, Option.map_some, xpush_s, xpush_n, xcat_0, xcat_i, xcat_r, xcat_l, xcat_n, xcat_e, xir_r, Nat.reduceAdd, Nat.reduceLeDiff, Nat.zero_le, Nat.le_refl, ↓reduceIte, Dcls, n1, m_rch_f _ _ c1]

theorem m_rises_l (d : Nat) {a : Nat → Nat → Int32} {s : Nat → Int32} {w : Int64} {H : xh} {q : Option xq} {r : Nat} (hr : r < 12) (v : Int32) : ∀ j k, k + j = 200 → ∀ (δ κ : Nat → Int32), wf δ → QM a 0 (nn (δ 7)) q → ∃ δ' κ' k', wf δ' ∧ (match fsM q (fun δ => decide (v ≤ δ (8 + r))) j δ with | none => ¬ ((v ≤ δ' (8 + r))) | some t => ((v ≤ δ' (8 + r))) ∧ k' = k + t) ∧ RF 156 (Ev (d + 5)) 35 [some (.ref 58), some (.int (nI r)), some (.int v), some (.int (nI k)), none] [] (md a δ κ s w H) = RF 156 (Ev (d + 5)) 65 [some (.ref 58), some (.int (nI r)), some (.int v), some (.int (nI k')), none] [] (md a δ' κ' s w H) := by
  intro j
  induction j with
  | zero =>
    intro k hk δ κ hw hq
    have e' : k = 200 := by omega
    subst e'
    refine ⟨δ, κ, 200, hw, ?_, ?_⟩
    · by_cases hp : (v ≤ δ (8 + r))
      · rw [show fsM q (fun δ => decide (v ≤ δ (8 + r))) 0 δ = some 0 from if_pos (by simpa using hp)]
        exact ⟨hp, rfl⟩
      · rw [show fsM q (fun δ => decide (v ≤ δ (8 + r))) 0 δ = none from if_neg (by simpa using hp)]
        exact hp
    · rw [S156_35]
      simp only [S156_36, S156_39, S156_42, S156_43, S156_46, S156_48, S156_49, S156_50, S156_51, S156_52, S156_55, S156_56, S156_59, S156_62, Option.bind_some, Option.map_some, xpush_s, xpush_n, xcat_0, xcat_i, xcat_r, xcat_l, xcat_n, xcat_e, xir_r, Nat.reduceAdd, Nat.reduceLeDiff, Nat.zero_le, Nat.le_refl, ↓reduceIte, show ((200 : Int32) ≤ nI 200) = True from eq_true (Int32.le_refl _)]
  | succ j ih =>
    intro k hk δ κ hw hq
    have hc : ¬ (200 : Int32) ≤ nI k := nI_ge (b := 200) (by omega) (by decide)
    have hx := xix_n (show 8 + r < 60 by omega) (show 60 ≤ 100000 by decide)
    obtain ⟨wv, hwv, ew⟩ := hw.water r hr
    by_cases hp : (v ≤ δ (8 + r))
    · refine ⟨δ, κ, k, hw, ?_, ?_⟩
      · rw [show fsM q (fun δ => decide (v ≤ δ (8 + r))) (j + 1) δ = some 0 from if_pos (by simpa using hp)]
        exact ⟨hp, rfl⟩
      · have hp' : v ≤ δ (8 + r) := hp
        rw [S156_35]
        simp only [S156_36, S156_39, S156_42, S156_43, S156_46, S156_48, S156_49, S156_50, S156_51, S156_52, S156_55, S156_56, S156_59, S156_62, Option.bind_some, Option.map_some, xpush_s, xpush_n, xcat_0, xcat_i, xcat_r, xcat_l, xcat_n, xcat_e, xir_r, Nat.reduceAdd, Nat.reduceLeDiff, Nat.zero_le, Nat.le_refl, ↓reduceIte, hc, Dg, Dr, ix8, hx, hp', if_true]
    · obtain ⟨κ1, e1⟩ := s_month (κ := κ) (s := s) (w := w) (H := H) d hw hq
      have hmw := mw_month q hw
      obtain ⟨δ2, κ2, k2, h1, h2, h3⟩ := ih (k + 1) (by omega) (sMonth q δ) κ1 hmw.1 (by rw [hmw.2 7 fx7]; exact hq)
      refine ⟨δ2, κ2, k2, h1, ?_, ?_⟩
      · rw [show fsM q (fun δ => decide (v ≤ δ (8 + r))) (j + 1) δ = _ from if_neg (by simpa using hp)]
        cases hf : fsM q (fun δ => decide (v ≤ δ (8 + r))) j (sMonth q δ) with
        | none => rw [hf] at h2; exact h2
        | some t => rw [hf] at h2; exact ⟨h2.1, (by have h22 : k2 = k + 1 + t := h2.2; omega : k2 = k + (t + 1))⟩
      · have hp' : ¬ v ≤ δ (8 + r) := hp
        rw [S156_35]
        simp only [S156_36, S156_39, S156_42, S156_43, S156_46, S156_48, S156_49, S156_50, S156_51, S156_52, S156_55, S156_56, S156_59, S156_62, Option.bind_some, Option.map_some, xpush_s, xpush_n, xcat_0, xcat_i, xcat_r, xcat_l, xcat_n, xcat_e, xir_r, Nat.reduceAdd, Nat.reduceLeDiff, Nat.zero_le, Nat.le_refl, ↓reduceIte, hc, Dg, Dr, Dcls, ix8, hx, hp', e1, nI_1]
        exact h3

theorem k_rises (x y : Int32) : CL 79 156 [.int x, .int y] := by
  intro d m h hI
  obtain ⟨δ, τ1, ε, τ2, ζ, τ3, κ, n, l, ke, op, sz, B, S, b, a, s, w, X, rfl, R⟩ := hI
  have hw := R.1
  have hmo := R.2.1
  have ha1 := R.2.2.1
  have hmd := fun Z => md_of (s := s) (w := w) (Z := Z) ha1
  have n1 : ¬ (1 : Int32) = 0 := by decide
  by_cases c1 : bd x 11
  · skip
    by_cases c2 : bd y 99
    · skip
      have o1 := fun d h => ou_f d h (n := 11) (N := 11) rfl (by decide) c1
      have i1 := fun d h => m_rch_t d h c1
      have o2 := fun d h => ou_f d h (n := 99) (N := 99) rfl (by decide) c2
      have i2 := fun d h => in_t d h (n := 99) (N := 99) rfl (by decide) c2
      obtain ⟨r, hr11, rfl⟩ := c1
      have hr : r < 12 := by omega
      obtain ⟨q, hq1, hq2⟩ := TXT_3 R
      have z3 : z60 (a 3) := R.2.2.2.2.2.2.2.2.2.2.1
      have hPP : ∀ ζ : Nat → Int32, wf ζ → ∀ d h, Ev (d + 1) 57 [.int (ζ (8 + r)), .int y, .int 99] h = some (some (.int (if (fun δ => decide (y ≤ δ (8 + r))) ζ = true then 0 else 1)), h) := by
        intro ζ hz d h
        obtain ⟨wv, hwv, ew⟩ := hz.water r hr
        by_cases hp : (y ≤ ζ (8 + r))
        · rw [if_pos (by simpa using hp), s_outside, bi_f]
          rintro (z | z)
          · exact absurd hp (Int32.not_le.mpr z)
          · rw [ew] at z; exact nI_nlt (a := 99) (b := wv) (by omega) (by decide) z
        · rw [if_neg (by simpa using hp), s_outside, bi_t]
          exact Or.inl (Int32.not_le.mp hp)
      obtain ⟨ζ2, τ9, κ1, e1⟩ := c_fm (l := l) (ke := ke) (op := op) (sz := sz) (S := S) (w := w) R (d + 193) hq1 hr (lo := y) (hi := 99) (fun δ => decide (y ≤ δ (8 + r))) hPP ζ τ3 κ
      obtain ⟨D, κ2, k2, hD, h2, h3⟩ := m_rises_l (s := s) (w := w) (H := cG δ τ1 ε τ2 ζ2 τ9 κ1 n l ke op sz B S b X) (d + 194) (q := q) hr y 200 0 rfl δ (a 9) hw hq2
      have hx := xix_n (show 8 + r < 60 by omega) (show 60 ≤ 100000 by decide)
      refine combT (fmW (fsM q (fun δ => decide (y ≤ δ (8 + r))) 200 δ) 0) ζ2 τ9 κ1 κ2 R ?_ ?_
      · rw [E79]
        simp only [S79_0, S79_1, S79_2, S79_4, S79_7, S79_10, S79_11, S79_12, S79_14, S79_17, S79_20, S79_22, S79_23, S79_24, S79_25, S79_26, S79_28, S79_31, Option.bind_some, Option.map_some, xpush_s, xpush_n, xcat_0, xcat_i, xcat_r, xcat_l, xcat_n, xcat_e, xir_r, Nat.reduceAdd, Nat.reduceLeDiff, Nat.zero_le, Nat.le_refl, ↓reduceIte, C_cls, o1, o2, e1]
      · rw [E156]
        simp only [S156_0, S156_1, S156_4, S156_7, S156_8, S156_9, S156_10, S156_13, S156_16, S156_19, S156_21, S156_22, S156_23, S156_26, S156_27, S156_30, S156_33, S156_34, Option.bind_some, Option.map_some, xpush_s, xpush_n, xcat_0, xcat_i, xcat_r, xcat_l, xcat_n, xcat_e, xir_r, Nat.reduceAdd, Nat.reduceLeDiff, Nat.zero_le, Nat.le_refl, ↓reduceIte, Dcls, Dg, Dg3, n1, i1, i2, m_cpi3 _ hw.z z3]
        rw [show nI 0 = 0 from rfl] at h3
        rw [h3]
        cases hf : fsM q (fun δ => decide (y ≤ δ (8 + r))) 200 δ with
        | none =>
          rw [hf] at h2
          have h2' : ¬ (y ≤ D (8 + r)) := h2
          simp only [S156_65, S156_66, S156_69, S156_71, S156_72, S156_73, S156_74, S156_75, S156_78, S156_79, S156_82, S156_83, S156_85, S156_86, S156_89, S156_90, S156_93, S156_96, S156_98, S156_101, S156_102, S156_105, S156_107, Option.bind_some, Option.map_some, xpush_s, xpush_n, xcat_0, xcat_i, xcat_r, xcat_l, xcat_n, xcat_e, xir_r, Nat.reduceAdd, Nat.reduceLeDiff, Nat.zero_le, Nat.le_refl, ↓reduceIte, Dg, Dg3, Dr, ix8, hx, show D (8 + r) < y from Int32.not_le.mp h2', m_cpb _ hD.z hw.z]
          rfl
        | some t =>
          rw [hf] at h2
          have h2' : (y ≤ D (8 + r)) := h2.1
          have hk : k2 = 0 + t := h2.2
          subst hk
          simp only [S156_65, S156_66, S156_69, S156_71, S156_72, S156_73, S156_74, S156_75, S156_78, S156_79, S156_82, S156_83, S156_85, S156_86, S156_89, S156_90, S156_93, S156_96, S156_98, S156_101, S156_102, S156_105, S156_107, Option.bind_some, Option.map_some, xpush_s, xpush_n, xcat_0, xcat_i, xcat_r, xcat_l, xcat_n, xcat_e, xir_r, Nat.reduceAdd, Nat.reduceLeDiff, Nat.zero_le, Nat.le_refl, ↓reduceIte, Dg, Dg3, Dr, ix8, hx, show ¬ D (8 + r) < y from Int32.not_lt.mpr h2', n1, m_cpb _ hD.z hw.z]
          rfl
    · refine comb0 (v := -1000000001) R ?_ ?_
      · rw [E79]
        simp only [S79_0, S79_1, S79_2, S79_4, S79_7, S79_10, S79_11, S79_12, S79_14, S79_17, S79_20, S79_22, S79_23, S79_24, S79_25, S79_26, S79_28, S79_31, Option.bind_some, Option.map_some, xpush_s, xpush_n, xcat_0, xcat_i, xcat_r, xcat_l, xcat_n, xcat_e, xir_r, Nat.reduceAdd, Nat.reduceLeDiff, Nat.zero_le, Nat.le_refl, ↓reduceIte, C_0, C_6, N_cls, n1, ou_f _ _ (n := 11) (N := 11) rfl (by decide) c1, ou_t _ _ (n := 99) (N := 99) rfl (by decide) c2]
      · rw [hmd, E156]
        simp only [S156_0, S156_1, S156_4, S156_7, S156_8, S156_9, S156_10, S156_13, S156_16, S156_19, S156_21, S156_22, S156_23, S156_26, S156_27, S156_30, S156_33, S156_34, S156_35, S156_36, S156_39, S156_42, S156_43, S156_46, S156_48, S156_49, S156_50, S156_51, S156_52, S156_55, S156_56, S156_59, S156_62, S156_65, S156_66, S156_69, S156_71, S156_72, S156_73, S156_74, S156_75, S156_78, S156_79, S156_82, S156_83, S156_85, S156_86, S156_89, S156_90, S156_93, S156_96, S156_98, S156_101, S156_102, S156_105, S156_107, Option.bind_some, Option.map_some, xpush_s, xpush_n, xcat_0, xcat_i, xcat_r, xcat_l, xcat_n, xcat_e, xir_r, Nat.reduceAdd, Nat.reduceLeDiff, Nat.zero_le, Nat.le_refl, ↓reduceIte, Dcls, n1, m_rch_t _ _ c1, in_f _ _ (n := 99) (N := 99) rfl (by decide) c2]
  · refine comb0 (v := -1000000001) R ?_ ?_
    · rw [E79]
      simp only [S79_0, S79_1, S79_2, S79_4, S79_7, S79_10, S79_11, S79_12, S79_14, S79_17, S79_20, S79_22, S79_23, S79_24, S79_25, S79_26, S79_28, S79_31, Option.bind_some, Option.map_some, xpush_s, xpush_n, xcat_0, xcat_i, xcat_r, xcat_l, xcat_n, xcat_e, xir_r, Nat.reduceAdd, Nat.reduceLeDiff, Nat.zero_le, Nat.le_refl, ↓reduceIte, C_0, C_6, N_cls, n1, ou_t _ _ (n := 11) (N := 11) rfl (by decide) c1]
    · rw [hmd, E156]
      simp only [S156_0, S156_1, S156_4, S156_7, S156_8, S156_9, S156_10, S156_13, S156_16, S156_19, S156_21, S156_22, S156_23, S156_26, S156_27, S156_30, S156_33, S156_34, S156_35, S156_36, S156_39, S156_42, S156_43, S156_46, S156_48, S156_49, S156_50, S156_51, S156_52, S156_55, S156_56, S156_59, S156_62, S156_65, S156_66, S156_69, S156_71, S156_72, S156_73, S156_74, S156_75, S156_78, S156_79, S156_82, S156_83, S156_85, S156_86, S156_89, S156_90, S156_93, S156_96, S156_98, S156_101, S156_102, S156_105, S156_107, Option.bind_some, Option.map_some, xpush_s, xpush_n, xcat_0, xcat_i, xcat_r, xcat_l, xcat_n, xcat_e, xir_r, Nat.reduceAdd, Nat.reduceLeDiff, Nat.zero_le, Nat.le_refl, ↓reduceIte, Dcls, n1, m_rch_f _ _ c1]

