/-! part 50, by program (wip/whole/gen/calls1.py): calls, one by one -/
section COMBD
variable {m : Nat} {δ : Nat → Int32} {τ1 : xt} {ε : Nat → Int32} {τ2 : xt} {ζ : Nat → Int32} {τ3 : xt} {κ : Nat → Nat → Int32} {n : Nat} {l : lk} {ke op sz : Int32} {B S : Nat → Int32} {b a : Nat → Nat → Int32} {s : Nat → Int32} {w : Int64} {X : xh}
theorem combD {c mo : Nat} {args : List Value} {d : Nat} {v : Int32} {D ζ' : Nat → Int32} {τ3' : xt} {κ' : Nat → Nat → Int32} {κm : Nat → Int32} (R : Rel m δ τ1 ε τ2 n B b a s X) (e1 : Ev (d + 200) c (.ref 0 :: args) (cG δ τ1 ε τ2 ζ τ3 κ n l ke op sz B S b (mh a s w X)) = some (some (.int v), cG D τ1 ε τ2 ζ' τ3' κ' n l ke op sz B S b (mh a s w X))) (e2 : Ev (d + 200) mo (.ref 58 :: args) (md a δ (a 9) s w (cG D τ1 ε τ2 ζ' τ3' κ' n l ke op sz B S b X)) = some (some (.int v), md a D κm s w (cG D τ1 ε τ2 ζ' τ3' κ' n l ke op sz B S b X))) (hw : wf D) (hm : bd (D 1) 9999) (h7 : D 7 = δ 7) : ∃ v h1 h2, Ev (d + 200) c (.ref 0 :: args) (cG δ τ1 ε τ2 ζ τ3 κ n l ke op sz B S b (mh a s w X)) = some (some (.int v), h1) ∧ Ev (d + 200) mo (.ref 58 :: args) h1 = some (some (.int v), h2) ∧ INV (m + 1) h2 ∧ h2.2.2.2 = X.2.2.2 ∧ h1.2.2.2 = X.2.2.2 ∧ xcls h1 (.ref 58) = 6 :=
  comb (a' := va_up (va_up a 1 D) 9 κm) R e1 (by rw [md_of R.2.2.1]; exact e2) (sm_d _ _ _) (va1 _ _ _) (by rw [vaj _ _ _ (by decide) (by decide)]; exact R.2.2.2.2.2.2.2.2.2.2.1) (by rw [vaj _ _ _ (by decide) (by decide)]; exact R.2.2.2.2.2.2.2.2.2.2.2.1) hw hm h7 (sb_r b)
end COMBD
theorem c_change_t (d : Nat) {h h' : xh} {q L : Nat} {i v M x : Int32} (hl : xalen h (.ref q) = some L) (h1 : ∀ h, Ev (d + 1) 57 [.int i, .int 0, .int (Int32.ofNat L - 1)] h = some (some (.int 0), h)) (h2 : ∀ h, Ev (d + 1) 57 [.int v, .int 0, .int M] h = some (some (.int 0), h)) (hr : hrd h (.ref q) 0 i = some x) (hwr' : hwr h (.ref q) 0 i v = some h') : Ev (d + 2) 67 [.ref q, .int i, .int v, .int M] h = some (some (.int x), h') := by
  rw [E67]
  simp only [S67_0, S67_1, S67_2, S67_3, S67_4, S67_5, S67_6, S67_9, S67_12, S67_13, S67_14, S67_15, S67_18, S67_21, S67_23, S67_24, S67_25, S67_26, S67_27, S67_29, S67_30, S67_31, S67_32, S67_33, S67_35, Option.bind_some, Option.map_some, xpush_s, xpush_n, xcat_0, xcat_i, xcat_r, xcat_l, xcat_n, xcat_e, xir_r, Nat.reduceAdd, Nat.reduceLeDiff, Nat.zero_le, Nat.le_refl, ↓reduceIte, hl, h1, h2, hr, hwr']
theorem c_change_f (d : Nat) {h : xh} {q L : Nat} {i v M : Int32} (hl : xalen h (.ref q) = some L) (h1 : ∀ h, Ev (d + 1) 57 [.int i, .int 0, .int (Int32.ofNat L - 1)] h = some (some (.int 0), h)) (h2 : ∀ h, Ev (d + 1) 57 [.int v, .int 0, .int M] h = some (some (.int 1), h)) : Ev (d + 2) 67 [.ref q, .int i, .int v, .int M] h = some (some (.int (-1000000001)), h) := by
  rw [E67]
  simp only [S67_0, S67_1, S67_2, S67_3, S67_4, S67_5, S67_6, S67_9, S67_12, S67_13, S67_14, S67_15, S67_18, S67_21, S67_23, S67_24, S67_25, S67_26, S67_27, S67_29, S67_30, S67_31, S67_32, S67_33, S67_35, Option.bind_some, Option.map_some, xpush_s, xpush_n, xcat_0, xcat_i, xcat_r, xcat_l, xcat_n, xcat_e, xir_r, Nat.reduceAdd, Nat.reduceLeDiff, Nat.zero_le, Nat.le_refl, ↓reduceIte, hl, h1, h2, show ¬ (1 : Int32) = 0 by decide]
theorem c_change_i (d : Nat) {h : xh} {q L : Nat} {i v M : Int32} (hl : xalen h (.ref q) = some L) (h1 : ∀ h, Ev (d + 1) 57 [.int i, .int 0, .int (Int32.ofNat L - 1)] h = some (some (.int 1), h)) : Ev (d + 2) 67 [.ref q, .int i, .int v, .int M] h = some (some (.int (-1000000001)), h) := by
  rw [E67]
  simp only [S67_0, S67_1, S67_2, S67_3, S67_4, S67_5, S67_6, S67_9, S67_12, S67_13, S67_14, S67_15, S67_18, S67_21, S67_23, S67_24, S67_25, S67_26, S67_27, S67_29, S67_30, S67_31, S67_32, S67_33, S67_35, Option.bind_some, Option.map_some, xpush_s, xpush_n, xcat_0, xcat_i, xcat_r, xcat_l, xcat_n, xcat_e, xir_r, Nat.reduceAdd, Nat.reduceLeDiff, Nat.zero_le, Nat.le_refl, ↓reduceIte, hl, h1, show ¬ (1 : Int32) = 0 by decide]
theorem ix_bd {v : Int32} {N : Nat} (h : ix v N) (hN : N ≤ 10) : bd v 9 := by
  obtain ⟨k, hk, e⟩ := h
  exact ⟨k, by omega, e⟩
theorem k_pencil (x y z : Int32) : CL 56 111 [.int x, .int y, .int z] := by
  intro d m h hI
  obtain ⟨δ, τ1, ε, τ2, ζ, τ3, κ, n, l, ke, op, sz, B, S, b, a, s, w, X, rfl, R⟩ := hI
  have hw := R.1
  have hmo := R.2.1
  have ha1 := R.2.2.1
  have hmd := fun Z => md_of (s := s) (w := w) (Z := Z) ha1
  have n1 : ¬ (1 : Int32) = 0 := by decide
  by_cases c1 : bd x 5
  · skip
    by_cases c2 : bd y 99
    · skip
      by_cases c3 : bd z 11
      · skip
        by_cases hN : nn (δ 0) < 10
        · refine combD (v := δ 0) (D := sPen δ x y z) (ζ' := ζ) (τ3' := τ3) (κ' := κ) (κm := a 9) R ?_ (m_pen _ hw hN c1 c2 c3) (wf_pen hw hN c1 c2 c3) (by rw [pen_n (by decide) (by decide)]; exact hmo) (pen_n (by decide) (by decide))
          rw [E56]
          simp only [S56_0, S56_1, S56_2, S56_3, S56_6, S56_9, S56_10, S56_11, S56_13, S56_16, S56_19, S56_20, S56_21, S56_23, S56_26, S56_29, S56_31, S56_32, S56_33, S56_36, S56_37, S56_38, S56_39, S56_42, Option.bind_some, Option.map_some, xpush_s, xpush_n, xcat_0, xcat_i, xcat_r, xcat_l, xcat_n, xcat_e, xir_r, Nat.reduceAdd, Nat.reduceLeDiff, Nat.zero_le, Nat.le_refl, ↓reduceIte, C_0, N_cls, n1, ou_f _ _ (n := 5) (N := 5) rfl (by decide) c1, ou_f _ _ (n := 99) (N := 99) rfl (by decide) c2, ou_f _ _ (n := 11) (N := 11) rfl (by decide) c3, G_add _ hw _ _ _ hN]
        · have e10 : δ 0 = nI 10 := by rw [hw.eN.1, show nn (δ 0) = 10 by have := hw.eN.2; omega]
          refine comb0 (v := -1000000003) R ?_ ?_
          · rw [E56]
            simp only [S56_0, S56_1, S56_2, S56_3, S56_6, S56_9, S56_10, S56_11, S56_13, S56_16, S56_19, S56_20, S56_21, S56_23, S56_26, S56_29, S56_31, S56_32, S56_33, S56_36, S56_37, S56_38, S56_39, S56_42, Option.bind_some, Option.map_some, xpush_s, xpush_n, xcat_0, xcat_i, xcat_r, xcat_l, xcat_n, xcat_e, xir_r, Nat.reduceAdd, Nat.reduceLeDiff, Nat.zero_le, Nat.le_refl, ↓reduceIte, C_0, N_cls, n1, ou_f _ _ (n := 5) (N := 5) rfl (by decide) c1, ou_f _ _ (n := 99) (N := 99) rfl (by decide) c2, ou_f _ _ (n := 11) (N := 11) rfl (by decide) c3, G_addF _ _ _ _ e10]
          · rw [hmd, E111]
            simp only [S111_0, S111_1, S111_2, S111_3, S111_6, S111_9, S111_12, S111_13, S111_14, S111_15, S111_18, S111_21, S111_24, S111_25, S111_28, S111_31, S111_33, S111_34, S111_35, S111_38, S111_39, S111_40, S111_42, S111_45, S111_47, S111_48, S111_49, S111_52, S111_53, S111_54, S111_56, S111_57, S111_59, S111_60, S111_61, S111_64, S111_65, S111_67, S111_68, S111_69, S111_72, S111_73, S111_75, S111_76, S111_77, S111_80, S111_81, S111_83, S111_84, S111_85, S111_88, S111_89, S111_92, S111_93, S111_94, S111_95, S111_96, S111_97, S111_98, S111_100, Option.bind_some, Option.map_some, xpush_s, xpush_n, xcat_0, xcat_i, xcat_r, xcat_l, xcat_n, xcat_e, xir_r, Nat.reduceAdd, Nat.reduceLeDiff, Nat.zero_le, Nat.le_refl, ↓reduceIte, Dg, Dr, Dcls, n1, ix_0, in_t _ _ (n := 5) (N := 5) rfl (by decide) c1, in_t _ _ (n := 99) (N := 99) rfl (by decide) c2, m_rch_t _ _ c3, e10, show (nI 10 = 10) = True from eq_true rfl]
      · refine comb0 (v := -1000000001) R ?_ ?_
        · rw [E56]
          simp only [S56_0, S56_1, S56_2, S56_3, S56_6, S56_9, S56_10, S56_11, S56_13, S56_16, S56_19, S56_20, S56_21, S56_23, S56_26, S56_29, S56_31, S56_32, S56_33, S56_36, S56_37, S56_38, S56_39, S56_42, Option.bind_some, Option.map_some, xpush_s, xpush_n, xcat_0, xcat_i, xcat_r, xcat_l, xcat_n, xcat_e, xir_r, Nat.reduceAdd, Nat.reduceLeDiff, Nat.zero_le, Nat.le_refl, ↓reduceIte, C_0, C_6, N_cls, n1, ou_f _ _ (n := 5) (N := 5) rfl (by decide) c1, ou_f _ _ (n := 99) (N := 99) rfl (by decide) c2, ou_t _ _ (n := 11) (N := 11) rfl (by decide) c3]
        · rw [hmd, E111]
          simp only [S111_0, S111_1, S111_2, S111_3, S111_6, S111_9, S111_12, S111_13, S111_14, S111_15, S111_18, S111_21, S111_24, S111_25, S111_28, S111_31, S111_33, S111_34, S111_35, S111_38, S111_39, S111_40, S111_42, S111_45, S111_47, S111_48, S111_49, S111_52, S111_53, S111_54, S111_56, S111_57, S111_59, S111_60, S111_61, S111_64, S111_65, S111_67, S111_68, S111_69, S111_72, S111_73, S111_75, S111_76, S111_77, S111_80, S111_81, S111_83, S111_84, S111_85, S111_88, S111_89, S111_92, S111_93, S111_94, S111_95, S111_96, S111_97, S111_98, S111_100, Option.bind_some, Option.map_some, xpush_s, xpush_n, xcat_0, xcat_i, xcat_r, xcat_l, xcat_n, xcat_e, xir_r, Nat.reduceAdd, Nat.reduceLeDiff, Nat.zero_le, Nat.le_refl, ↓reduceIte, Dcls, n1, in_t _ _ (n := 5) (N := 5) rfl (by decide) c1, in_t _ _ (n := 99) (N := 99) rfl (by decide) c2, m_rch_f _ _ c3]
    · refine comb0 (v := -1000000001) R ?_ ?_
      · rw [E56]
        simp only [S56_0, S56_1, S56_2, S56_3, S56_6, S56_9, S56_10, S56_11, S56_13, S56_16, S56_19, S56_20, S56_21, S56_23, S56_26, S56_29, S56_31, S56_32, S56_33, S56_36, S56_37, S56_38, S56_39, S56_42, Option.bind_some, Option.map_some, xpush_s, xpush_n, xcat_0, xcat_i, xcat_r, xcat_l, xcat_n, xcat_e, xir_r, Nat.reduceAdd, Nat.reduceLeDiff, Nat.zero_le, Nat.le_refl, ↓reduceIte, C_0, C_6, N_cls, n1, ou_f _ _ (n := 5) (N := 5) rfl (by decide) c1, ou_t _ _ (n := 99) (N := 99) rfl (by decide) c2]
      · rw [hmd, E111]
        simp only [S111_0, S111_1, S111_2, S111_3, S111_6, S111_9, S111_12, S111_13, S111_14, S111_15, S111_18, S111_21, S111_24, S111_25, S111_28, S111_31, S111_33, S111_34, S111_35, S111_38, S111_39, S111_40, S111_42, S111_45, S111_47, S111_48, S111_49, S111_52, S111_53, S111_54, S111_56, S111_57, S111_59, S111_60, S111_61, S111_64, S111_65, S111_67, S111_68, S111_69, S111_72, S111_73, S111_75, S111_76, S111_77, S111_80, S111_81, S111_83, S111_84, S111_85, S111_88, S111_89, S111_92, S111_93, S111_94, S111_95, S111_96, S111_97, S111_98, S111_100, Option.bind_some, Option.map_some, xpush_s, xpush_n, xcat_0, xcat_i, xcat_r, xcat_l, xcat_n, xcat_e, xir_r, Nat.reduceAdd, Nat.reduceLeDiff, Nat.zero_le, Nat.le_refl, ↓reduceIte, Dcls, n1, in_t _ _ (n := 5) (N := 5) rfl (by decide) c1, in_f _ _ (n := 99) (N := 99) rfl (by decide) c2]
  · refine comb0 (v := -1000000001) R ?_ ?_
    · rw [E56]
      simp only [S56_0, S56_1, S56_2, S56_3, S56_6, S56_9, S56_10, S56_11, S56_13, S56_16, S56_19, S56_20, S56_21, S56_23, S56_26, S56_29, S56_31, S56_32, S56_33, S56_36, S56_37, S56_38, S56_39, S56_42, Option.bind_some, Option.map_some, xpush_s, xpush_n, xcat_0, xcat_i, xcat_r, xcat_l, xcat_n, xcat_e, xir_r, Nat.reduceAdd, Nat.reduceLeDiff, Nat.zero_le, Nat.le_refl, ↓reduceIte, C_0, C_6, N_cls, n1, ou_t _ _ (n := 5) (N := 5) rfl (by decide) c1]
    · rw [hmd, E111]
      simp only [S111_0, S111_1, S111_2, S111_3, S111_6, S111_9, S111_12, S111_13, S111_14, S111_15, S111_18, S111_21, S111_24, S111_25, S111_28, S111_31, S111_33, S111_34, S111_35, S111_38, S111_39, S111_40, S111_42, S111_45, S111_47, S111_48, S111_49, S111_52, S111_53, S111_54, S111_56, S111_57, S111_59, S111_60, S111_61, S111_64, S111_65, S111_67, S111_68, S111_69, S111_72, S111_73, S111_75, S111_76, S111_77, S111_80, S111_81, S111_83, S111_84, S111_85, S111_88, S111_89, S111_92, S111_93, S111_94, S111_95, S111_96, S111_97, S111_98, S111_100, Option.bind_some, Option.map_some, xpush_s, xpush_n, xcat_0, xcat_i, xcat_r, xcat_l, xcat_n, xcat_e, xir_r, Nat.reduceAdd, Nat.reduceLeDiff, Nat.zero_le, Nat.le_refl, ↓reduceIte, Dcls, n1, in_f _ _ (n := 5) (N := 5) rfl (by decide) c1]

theorem k_told (x y : Int32) : CL 58 115 [.int x, .int y] := by
  intro d m h hI
  obtain ⟨δ, τ1, ε, τ2, ζ, τ3, κ, n, l, ke, op, sz, B, S, b, a, s, w, X, rfl, R⟩ := hI
  have hw := R.1
  have hmo := R.2.1
  have ha1 := R.2.2.1
  have hmd := fun Z => md_of (s := s) (w := w) (Z := Z) ha1
  have n1 : ¬ (1 : Int32) = 0 := by decide
  by_cases c1 : ix x (nn (δ 0))
  · skip
    by_cases c2 : bd y 6
    · skip
      obtain ⟨k, hk, rfl⟩ := c1
      have hm : k < 10 := by have := hw.eN.2; omega
      have hlk := fun d => G_lk_t (τ1 := τ1) (ε := ε) (τ2 := τ2) (ζ := ζ) (τ3 := τ3) (κ := κ) (n := n) (l := l) (ke := ke) (op := op) (sz := sz) (B := B) (S := S) (b := b) (H := mh a s w X) d hw (v := nI k) ⟨k, hk, rfl⟩
      have him := fun d Z => m_mk_t (a := a) (κ := a 9) (s := s) (w := w) (H := Z) d hw (v := nI k) ⟨k, hk, rfl⟩
      have hin := fun d h => in_t d h (n := 6) (N := 6) rfl (by decide) c2
      have h00 : ∀ d Z, Ev (d + 1) 120 [.ref 58, .int (nI k), .int (nI 0)] (md a δ (a 9) s w Z) = some (some (.int (δ (20 + 4 * k))), md a δ (a 9) s w Z) := fun d Z => s_of0 d hm
      obtain ⟨j, hj, rfl⟩ := c2
      rcases (show j = 0 ∨ j = 1 ∨ j = 2 ∨ j = 3 ∨ j = 4 ∨ j = 5 ∨ j = 6 by omega) with rfl | rfl | rfl | rfl | rfl | rfl | rfl
      · skip
        refine comb0 (v := δ (20 + 4 * k)) R ?_ ?_
        · rw [E58]
          simp (config := { decide := true }) only [S58_0, S58_1, S58_4, S58_5, S58_8, S58_11, S58_13, S58_14, S58_15, S58_56, S58_57, S58_60, S58_63, S58_64, S58_65, S58_66, S58_67, S58_70, S58_73, S58_74, S58_75, S58_76, S58_77, S58_80, S58_83, S58_84, S58_85, S58_86, S58_87, S58_90, S58_93, S58_94, S58_95, S58_96, S58_97, S58_100, S58_101, S58_102, S58_105, S58_108, S58_111, S58_112, S58_113, S58_116, S58_119, S58_120, S58_121, S58_124, S58_125, S58_126, S58_129, S58_132, S58_133, S58_134, S58_135, S58_138, S58_141, S58_142, S58_143, S58_144, S58_147, S58_150, S58_151, S58_152, S58_155, S58_156, S58_158, Option.bind_some, Option.map_some, xpush_s, xpush_n, xcat_0, xcat_i, xcat_r, xcat_l, xcat_n, xcat_e, xir_r, Nat.reduceAdd, Nat.reduceLeDiff, Nat.zero_le, Nat.le_refl, ↓reduceIte, C_0, N_cls, hlk, N_g2, N_m0 hm, if_true, if_false]
        · rw [hmd, E115]
          simp (config := { decide := true }) only [S115_0, S115_1, S115_2, S115_5, S115_8, S115_9, S115_10, S115_11, S115_14, S115_17, S115_20, S115_22, S115_23, S115_24, S115_52, S115_53, S115_54, S115_57, S115_58, S115_59, S115_60, S115_63, S115_64, S115_65, S115_66, S115_67, S115_70, S115_71, S115_72, S115_73, S115_76, S115_77, S115_78, S115_79, S115_82, S115_85, S115_86, S115_87, S115_88, S115_89, S115_92, Option.bind_some, Option.map_some, xpush_s, xpush_n, xcat_0, xcat_i, xcat_r, xcat_l, xcat_n, xcat_e, xir_r, Nat.reduceAdd, Nat.reduceLeDiff, Nat.zero_le, Nat.le_refl, ↓reduceIte, Dcls, him, hin, h00, if_true, if_false]
      · skip
        refine comb0 (v := δ (20 + 4 * k + 1)) R ?_ ?_
        · rw [E58]
          simp (config := { decide := true }) only [S58_0, S58_1, S58_4, S58_5, S58_8, S58_11, S58_13, S58_14, S58_15, S58_56, S58_57, S58_60, S58_63, S58_64, S58_65, S58_66, S58_67, S58_70, S58_73, S58_74, S58_75, S58_76, S58_77, S58_80, S58_83, S58_84, S58_85, S58_86, S58_87, S58_90, S58_93, S58_94, S58_95, S58_96, S58_97, S58_100, S58_101, S58_102, S58_105, S58_108, S58_111, S58_112, S58_113, S58_116, S58_119, S58_120, S58_121, S58_124, S58_125, S58_126, S58_129, S58_132, S58_133, S58_134, S58_135, S58_138, S58_141, S58_142, S58_143, S58_144, S58_147, S58_150, S58_151, S58_152, S58_155, S58_156, S58_158, Option.bind_some, Option.map_some, xpush_s, xpush_n, xcat_0, xcat_i, xcat_r, xcat_l, xcat_n, xcat_e, xir_r, Nat.reduceAdd, Nat.reduceLeDiff, Nat.zero_le, Nat.le_refl, ↓reduceIte, C_0, N_cls, hlk, N_g3, N_m1 hm, if_true, if_false]
        · rw [hmd, E115]
          simp (config := { decide := true }) only [S115_0, S115_1, S115_2, S115_5, S115_8, S115_9, S115_10, S115_11, S115_14, S115_17, S115_20, S115_22, S115_23, S115_24, S115_52, S115_53, S115_54, S115_57, S115_58, S115_59, S115_60, S115_63, S115_64, S115_65, S115_66, S115_67, S115_70, S115_71, S115_72, S115_73, S115_76, S115_77, S115_78, S115_79, S115_82, S115_85, S115_86, S115_87, S115_88, S115_89, S115_92, Option.bind_some, Option.map_some, xpush_s, xpush_n, xcat_0, xcat_i, xcat_r, xcat_l, xcat_n, xcat_e, xir_r, Nat.reduceAdd, Nat.reduceLeDiff, Nat.zero_le, Nat.le_refl, ↓reduceIte, Dcls, him, hin, s_of _ hm (show 1 < 4 by decide), if_true, if_false]
      · skip
        refine comb0 (v := δ (20 + 4 * k + 2)) R ?_ ?_
        · rw [E58]
          simp (config := { decide := true }) only [S58_0, S58_1, S58_4, S58_5, S58_8, S58_11, S58_13, S58_14, S58_15, S58_56, S58_57, S58_60, S58_63, S58_64, S58_65, S58_66, S58_67, S58_70, S58_73, S58_74, S58_75, S58_76, S58_77, S58_80, S58_83, S58_84, S58_85, S58_86, S58_87, S58_90, S58_93, S58_94, S58_95, S58_96, S58_97, S58_100, S58_101, S58_102, S58_105, S58_108, S58_111, S58_112, S58_113, S58_116, S58_119, S58_120, S58_121, S58_124, S58_125, S58_126, S58_129, S58_132, S58_133, S58_134, S58_135, S58_138, S58_141, S58_142, S58_143, S58_144, S58_147, S58_150, S58_151, S58_152, S58_155, S58_156, S58_158, Option.bind_some, Option.map_some, xpush_s, xpush_n, xcat_0, xcat_i, xcat_r, xcat_l, xcat_n, xcat_e, xir_r, Nat.reduceAdd, Nat.reduceLeDiff, Nat.zero_le, Nat.le_refl, ↓reduceIte, C_0, N_cls, hlk, N_g4, N_m2 hm, if_true, if_false]
        · rw [hmd, E115]
          simp (config := { decide := true }) only [S115_0, S115_1, S115_2, S115_5, S115_8, S115_9, S115_10, S115_11, S115_14, S115_17, S115_20, S115_22, S115_23, S115_24, S115_52, S115_53, S115_54, S115_57, S115_58, S115_59, S115_60, S115_63, S115_64, S115_65, S115_66, S115_67, S115_70, S115_71, S115_72, S115_73, S115_76, S115_77, S115_78, S115_79, S115_82, S115_85, S115_86, S115_87, S115_88, S115_89, S115_92, Option.bind_some, Option.map_some, xpush_s, xpush_n, xcat_0, xcat_i, xcat_r, xcat_l, xcat_n, xcat_e, xir_r, Nat.reduceAdd, Nat.reduceLeDiff, Nat.zero_le, Nat.le_refl, ↓reduceIte, Dcls, him, hin, s_of _ hm (show 2 < 4 by decide), if_true, if_false]
      · skip
        refine comb0 (v := δ (20 + 4 * k + 3)) R ?_ ?_
        · rw [E58]
          simp (config := { decide := true }) only [S58_0, S58_1, S58_4, S58_5, S58_8, S58_11, S58_13, S58_14, S58_15, S58_56, S58_57, S58_60, S58_63, S58_64, S58_65, S58_66, S58_67, S58_70, S58_73, S58_74, S58_75, S58_76, S58_77, S58_80, S58_83, S58_84, S58_85, S58_86, S58_87, S58_90, S58_93, S58_94, S58_95, S58_96, S58_97, S58_100, S58_101, S58_102, S58_105, S58_108, S58_111, S58_112, S58_113, S58_116, S58_119, S58_120, S58_121, S58_124, S58_125, S58_126, S58_129, S58_132, S58_133, S58_134, S58_135, S58_138, S58_141, S58_142, S58_143, S58_144, S58_147, S58_150, S58_151, S58_152, S58_155, S58_156, S58_158, Option.bind_some, Option.map_some, xpush_s, xpush_n, xcat_0, xcat_i, xcat_r, xcat_l, xcat_n, xcat_e, xir_r, Nat.reduceAdd, Nat.reduceLeDiff, Nat.zero_le, Nat.le_refl, ↓reduceIte, C_0, N_cls, hlk, N_g5, N_m3 hm, if_true, if_false]
        · rw [hmd, E115]
          simp (config := { decide := true }) only [S115_0, S115_1, S115_2, S115_5, S115_8, S115_9, S115_10, S115_11, S115_14, S115_17, S115_20, S115_22, S115_23, S115_24, S115_52, S115_53, S115_54, S115_57, S115_58, S115_59, S115_60, S115_63, S115_64, S115_65, S115_66, S115_67, S115_70, S115_71, S115_72, S115_73, S115_76, S115_77, S115_78, S115_79, S115_82, S115_85, S115_86, S115_87, S115_88, S115_89, S115_92, Option.bind_some, Option.map_some, xpush_s, xpush_n, xcat_0, xcat_i, xcat_r, xcat_l, xcat_n, xcat_e, xir_r, Nat.reduceAdd, Nat.reduceLeDiff, Nat.zero_le, Nat.le_refl, ↓reduceIte, Dcls, him, hin, s_of _ hm (show 3 < 4 by decide), if_true, if_false]
      · skip
        obtain ⟨q, hq1, hq2⟩ := TXT_q R.2.2.2.1 (key := 0) (by decide)
        obtain ⟨κ1, e1⟩ := G_adds (δ := δ) (τ1 := τ1) (ε := ε) (τ2 := τ2) (ζ := ζ) (τ3 := τ3) (κ := κ) (n := n) (l := l) (ke := ke) (op := op) (sz := sz) (B := B) (S := S) (b := b) (H := mh a s w X) (d + 196) hw hi_mh hq1 hk
        obtain ⟨κ2, e2⟩ := s_adds (κ := a 9) (s := s) (w := w) (H := cG δ τ1 ε τ2 ζ τ3 κ1 n l ke op sz B S b X) (d + 195) hw hq2 hm
        refine combD (v := sAdds q δ k) (D := δ) (ζ' := ζ) (τ3' := τ3) (κ' := κ1) (κm := κ2) R ?_ ?_ hw hmo rfl
        · rw [E58]
          simp (config := { decide := true }) only [S58_0, S58_1, S58_4, S58_5, S58_8, S58_11, S58_13, S58_14, S58_15, S58_56, S58_57, S58_60, S58_63, S58_64, S58_65, S58_66, S58_67, S58_70, S58_73, S58_74, S58_75, S58_76, S58_77, S58_80, S58_83, S58_84, S58_85, S58_86, S58_87, S58_90, S58_93, S58_94, S58_95, S58_96, S58_97, S58_100, S58_101, S58_102, S58_105, S58_108, S58_111, S58_112, S58_113, S58_116, S58_119, S58_120, S58_121, S58_124, S58_125, S58_126, S58_129, S58_132, S58_133, S58_134, S58_135, S58_138, S58_141, S58_142, S58_143, S58_144, S58_147, S58_150, S58_151, S58_152, S58_155, S58_156, S58_158, Option.bind_some, Option.map_some, xpush_s, xpush_n, xcat_0, xcat_i, xcat_r, xcat_l, xcat_n, xcat_e, xir_r, Nat.reduceAdd, Nat.reduceLeDiff, Nat.zero_le, Nat.le_refl, ↓reduceIte, C_0, N_cls, hlk, G_stet _ hw, e1, if_true, if_false]
        · rw [E115]
          simp (config := { decide := true }) only [S115_0, S115_1, S115_2, S115_5, S115_8, S115_9, S115_10, S115_11, S115_14, S115_17, S115_20, S115_22, S115_23, S115_24, S115_52, S115_53, S115_54, S115_57, S115_58, S115_59, S115_60, S115_63, S115_64, S115_65, S115_66, S115_67, S115_70, S115_71, S115_72, S115_73, S115_76, S115_77, S115_78, S115_79, S115_82, S115_85, S115_86, S115_87, S115_88, S115_89, S115_92, Option.bind_some, Option.map_some, xpush_s, xpush_n, xcat_0, xcat_i, xcat_r, xcat_l, xcat_n, xcat_e, xir_r, Nat.reduceAdd, Nat.reduceLeDiff, Nat.zero_le, Nat.le_refl, ↓reduceIte, Dcls, him, hin, e2, if_true, if_false]
      · skip
        obtain ⟨x, hx, ex⟩ := hw.kind k hm
        have hf := fades_eq x hx
        rw [← ex] at hf
        refine comb0 (v := sFades (δ (20 + 4 * k))) R ?_ ?_
        · rw [E58]
          simp (config := { decide := true }) only [S58_0, S58_1, S58_4, S58_5, S58_8, S58_11, S58_13, S58_14, S58_15, S58_56, S58_57, S58_60, S58_63, S58_64, S58_65, S58_66, S58_67, S58_70, S58_73, S58_74, S58_75, S58_76, S58_77, S58_80, S58_83, S58_84, S58_85, S58_86, S58_87, S58_90, S58_93, S58_94, S58_95, S58_96, S58_97, S58_100, S58_101, S58_102, S58_105, S58_108, S58_111, S58_112, S58_113, S58_116, S58_119, S58_120, S58_121, S58_124, S58_125, S58_126, S58_129, S58_132, S58_133, S58_134, S58_135, S58_138, S58_141, S58_142, S58_143, S58_144, S58_147, S58_150, S58_151, S58_152, S58_155, S58_156, S58_158, Option.bind_some, Option.map_some, xpush_s, xpush_n, xcat_0, xcat_i, xcat_r, xcat_l, xcat_n, xcat_e, xir_r, Nat.reduceAdd, Nat.reduceLeDiff, Nat.zero_le, Nat.le_refl, ↓reduceIte, C_0, N_cls, hlk, N_g2, N_m0 hm, r_fadesOf, hf, if_true, if_false]
        · rw [hmd, E115]
          simp (config := { decide := true }) only [S115_0, S115_1, S115_2, S115_5, S115_8, S115_9, S115_10, S115_11, S115_14, S115_17, S115_20, S115_22, S115_23, S115_24, S115_52, S115_53, S115_54, S115_57, S115_58, S115_59, S115_60, S115_63, S115_64, S115_65, S115_66, S115_67, S115_70, S115_71, S115_72, S115_73, S115_76, S115_77, S115_78, S115_79, S115_82, S115_85, S115_86, S115_87, S115_88, S115_89, S115_92, Option.bind_some, Option.map_some, xpush_s, xpush_n, xcat_0, xcat_i, xcat_r, xcat_l, xcat_n, xcat_e, xir_r, Nat.reduceAdd, Nat.reduceLeDiff, Nat.zero_le, Nat.le_refl, ↓reduceIte, Dcls, him, hin, s_fades _ hm, if_true, if_false]
      · skip
        refine comb0 (v := sWor (δ (20 + 4 * k)) (δ (20 + 4 * k + 1)) (δ (20 + 4 * k + 3))) R ?_ ?_
        · rw [E58]
          simp (config := { decide := true }) only [S58_0, S58_1, S58_4, S58_5, S58_8, S58_11, S58_13, S58_14, S58_15, S58_56, S58_57, S58_60, S58_63, S58_64, S58_65, S58_66, S58_67, S58_70, S58_73, S58_74, S58_75, S58_76, S58_77, S58_80, S58_83, S58_84, S58_85, S58_86, S58_87, S58_90, S58_93, S58_94, S58_95, S58_96, S58_97, S58_100, S58_101, S58_102, S58_105, S58_108, S58_111, S58_112, S58_113, S58_116, S58_119, S58_120, S58_121, S58_124, S58_125, S58_126, S58_129, S58_132, S58_133, S58_134, S58_135, S58_138, S58_141, S58_142, S58_143, S58_144, S58_147, S58_150, S58_151, S58_152, S58_155, S58_156, S58_158, Option.bind_some, Option.map_some, xpush_s, xpush_n, xcat_0, xcat_i, xcat_r, xcat_l, xcat_n, xcat_e, xir_r, Nat.reduceAdd, Nat.reduceLeDiff, Nat.zero_le, Nat.le_refl, ↓reduceIte, C_0, N_cls, hlk, N_g2, N_g3, N_g5, N_m0 hm, N_m1 hm, N_m3 hm, r_worth, wor_e (hw.kind k hm), if_true, if_false]
        · rw [hmd, E115]
          simp (config := { decide := true }) only [S115_0, S115_1, S115_2, S115_5, S115_8, S115_9, S115_10, S115_11, S115_14, S115_17, S115_20, S115_22, S115_23, S115_24, S115_52, S115_53, S115_54, S115_57, S115_58, S115_59, S115_60, S115_63, S115_64, S115_65, S115_66, S115_67, S115_70, S115_71, S115_72, S115_73, S115_76, S115_77, S115_78, S115_79, S115_82, S115_85, S115_86, S115_87, S115_88, S115_89, S115_92, Option.bind_some, Option.map_some, xpush_s, xpush_n, xcat_0, xcat_i, xcat_r, xcat_l, xcat_n, xcat_e, xir_r, Nat.reduceAdd, Nat.reduceLeDiff, Nat.zero_le, Nat.le_refl, ↓reduceIte, Dcls, him, hin, s_of0 _ hm, s_of1 _ hm, s_of3 _ hm, m_worth, if_true, if_false]
    · refine comb0 (v := -1000000001) R ?_ ?_
      · rw [E58]
        simp only [S58_0, S58_1, S58_4, S58_5, S58_8, S58_11, S58_13, S58_14, S58_15, S58_56, S58_57, S58_60, S58_63, S58_64, S58_65, S58_66, S58_67, S58_70, S58_73, S58_74, S58_75, S58_76, S58_77, S58_80, S58_83, S58_84, S58_85, S58_86, S58_87, S58_90, S58_93, S58_94, S58_95, S58_96, S58_97, S58_100, S58_101, S58_102, S58_105, S58_108, S58_111, S58_112, S58_113, S58_116, S58_119, S58_120, S58_121, S58_124, S58_125, S58_126, S58_129, S58_132, S58_133, S58_134, S58_135, S58_138, S58_141, S58_142, S58_143, S58_144, S58_147, S58_150, S58_151, S58_152, S58_155, S58_156, S58_158, Option.bind_some, Option.map_some, xpush_s, xpush_n, xcat_0, xcat_i, xcat_r, xcat_l, xcat_n, xcat_e, xir_r, Nat.reduceAdd, Nat.reduceLeDiff, Nat.zero_le, Nat.le_refl, ↓reduceIte, C_0, C_6, N_cls, n1, G_lk_t _ hw c1, ou_t _ _ (n := 6) (N := 6) rfl (by decide) c2, show ¬ y = 0 from fun q => c2 ⟨0, by decide, q⟩, show ¬ y = 1 from fun q => c2 ⟨1, by decide, q⟩, show ¬ y = 2 from fun q => c2 ⟨2, by decide, q⟩, show ¬ y = 3 from fun q => c2 ⟨3, by decide, q⟩, show ¬ y = 4 from fun q => c2 ⟨4, by decide, q⟩, show ¬ y = 5 from fun q => c2 ⟨5, by decide, q⟩, show ¬ y = 6 from fun q => c2 ⟨6, by decide, q⟩]
      · rw [hmd, E115]
        simp only [S115_0, S115_1, S115_2, S115_5, S115_8, S115_9, S115_10, S115_11, S115_14, S115_17, S115_20, S115_22, S115_23, S115_24, S115_52, S115_53, S115_54, S115_57, S115_58, S115_59, S115_60, S115_63, S115_64, S115_65, S115_66, S115_67, S115_70, S115_71, S115_72, S115_73, S115_76, S115_77, S115_78, S115_79, S115_82, S115_85, S115_86, S115_87, S115_88, S115_89, S115_92, Option.bind_some, Option.map_some, xpush_s, xpush_n, xcat_0, xcat_i, xcat_r, xcat_l, xcat_n, xcat_e, xir_r, Nat.reduceAdd, Nat.reduceLeDiff, Nat.zero_le, Nat.le_refl, ↓reduceIte, Dcls, n1, m_mk_t _ hw c1, in_f _ _ (n := 6) (N := 6) rfl (by decide) c2]
  · refine comb0 (v := -1000000001) R ?_ ?_
    · rw [E58]
      simp only [S58_0, S58_1, S58_4, S58_5, S58_8, S58_11, S58_13, S58_14, S58_15, S58_56, S58_57, S58_60, S58_63, S58_64, S58_65, S58_66, S58_67, S58_70, S58_73, S58_74, S58_75, S58_76, S58_77, S58_80, S58_83, S58_84, S58_85, S58_86, S58_87, S58_90, S58_93, S58_94, S58_95, S58_96, S58_97, S58_100, S58_101, S58_102, S58_105, S58_108, S58_111, S58_112, S58_113, S58_116, S58_119, S58_120, S58_121, S58_124, S58_125, S58_126, S58_129, S58_132, S58_133, S58_134, S58_135, S58_138, S58_141, S58_142, S58_143, S58_144, S58_147, S58_150, S58_151, S58_152, S58_155, S58_156, S58_158, Option.bind_some, Option.map_some, xpush_s, xpush_n, xcat_0, xcat_i, xcat_r, xcat_l, xcat_n, xcat_e, xir_r, Nat.reduceAdd, Nat.reduceLeDiff, Nat.zero_le, Nat.le_refl, ↓reduceIte, C_0, C_6, N_cls, n1, G_lk_f _ hw c1]
    · rw [hmd, E115]
      simp only [S115_0, S115_1, S115_2, S115_5, S115_8, S115_9, S115_10, S115_11, S115_14, S115_17, S115_20, S115_22, S115_23, S115_24, S115_52, S115_53, S115_54, S115_57, S115_58, S115_59, S115_60, S115_63, S115_64, S115_65, S115_66, S115_67, S115_70, S115_71, S115_72, S115_73, S115_76, S115_77, S115_78, S115_79, S115_82, S115_85, S115_86, S115_87, S115_88, S115_89, S115_92, Option.bind_some, Option.map_some, xpush_s, xpush_n, xcat_0, xcat_i, xcat_r, xcat_l, xcat_n, xcat_e, xir_r, Nat.reduceAdd, Nat.reduceLeDiff, Nat.zero_le, Nat.le_refl, ↓reduceIte, Dcls, n1, m_mk_f _ hw c1]

theorem k_as (x y : Int32) : CL 63 129 [.int x, .int y] := by
  intro d m h hI
  obtain ⟨δ, τ1, ε, τ2, ζ, τ3, κ, n, l, ke, op, sz, B, S, b, a, s, w, X, rfl, R⟩ := hI
  have hw := R.1
  have hmo := R.2.1
  have ha1 := R.2.2.1
  have hmd := fun Z => md_of (s := s) (w := w) (Z := Z) ha1
  have n1 : ¬ (1 : Int32) = 0 := by decide
  by_cases c1 : ix x (nn (δ 0))
  · skip
    by_cases c2 : bd y 5
    · skip
      obtain ⟨k, hk, rfl⟩ := c1
      have hm : k < 10 := by have := hw.eN.2; omega
      have c1 : ix (nI k) (nn (δ 0)) := ⟨k, hk, rfl⟩
      obtain ⟨j, hj, ej⟩ := c2
      have c2 : bd y 5 := ⟨j, hj, ej⟩
      obtain ⟨t, ht, et⟩ := hw.kind k hm
      have hX : oX (cG δ τ1 ε τ2 ζ τ3 κ n l ke op sz B S b (mh a s w X)) := R.2.2.2.2.2.2.2.2.2.2.2.2.1
      have u1 := fun d => c_under d hX (x := t) (y := j) (by omega) hj
      have u2 := fun d h => m_under d (x := t) (y := j) (by omega) hj h
      rw [← ej, ← et] at u1
      simp only [← ej, ← et] at u2
      cases hu : sUn t j with
      | true =>
        rw [hu, show bi (true = true) = 1 from rfl] at u1
        simp only [hu, bi_T] at u2
        refine comb0 (v := δ (20 + 4 * k + 1)) R ?_ ?_
        · rw [E63]
          simp only [S63_0, S63_1, S63_4, S63_5, S63_8, S63_11, S63_12, S63_13, S63_14, S63_17, S63_20, S63_22, S63_23, S63_24, S63_27, S63_30, S63_31, S63_32, S63_33, S63_36, S63_39, S63_40, S63_43, S63_46, S63_47, S63_48, S63_51, S63_53, Option.bind_some, Option.map_some, xpush_s, xpush_n, xcat_0, xcat_i, xcat_r, xcat_l, xcat_n, xcat_e, xir_r, Nat.reduceAdd, Nat.reduceLeDiff, Nat.zero_le, Nat.le_refl, ↓reduceIte, C_0, N_cls, n1, G_lk_t _ hw c1, ou_f _ _ (n := 5) (N := 5) rfl (by decide) c2, N_g2, N_g3, N_m0 hm, N_m1 hm, u1]
        · rw [hmd, E129]
          simp only [S129_0, S129_1, S129_2, S129_5, S129_8, S129_9, S129_10, S129_11, S129_14, S129_17, S129_20, S129_22, S129_23, S129_24, S129_25, S129_26, S129_29, S129_30, S129_33, S129_36, S129_37, S129_38, S129_39, S129_42, S129_45, S129_47, Option.bind_some, Option.map_some, xpush_s, xpush_n, xcat_0, xcat_i, xcat_r, xcat_l, xcat_n, xcat_e, xir_r, Nat.reduceAdd, Nat.reduceLeDiff, Nat.zero_le, Nat.le_refl, ↓reduceIte, Dcls, n1, m_mk_t _ hw c1, in_t _ _ (n := 5) (N := 5) rfl (by decide) c2, s_of0 _ hm, s_of1 _ hm, u2]
      | false =>
        have z : bi (false = true) = 0 := rfl
        rw [hu, z] at u1
        simp only [hu, z] at u2
        refine comb0 (v := -1000000012) R ?_ ?_
        · rw [E63]
          simp only [S63_0, S63_1, S63_4, S63_5, S63_8, S63_11, S63_12, S63_13, S63_14, S63_17, S63_20, S63_22, S63_23, S63_24, S63_27, S63_30, S63_31, S63_32, S63_33, S63_36, S63_39, S63_40, S63_43, S63_46, S63_47, S63_48, S63_51, S63_53, Option.bind_some, Option.map_some, xpush_s, xpush_n, xcat_0, xcat_i, xcat_r, xcat_l, xcat_n, xcat_e, xir_r, Nat.reduceAdd, Nat.reduceLeDiff, Nat.zero_le, Nat.le_refl, ↓reduceIte, C_0, N_cls, n1, G_lk_t _ hw c1, ou_f _ _ (n := 5) (N := 5) rfl (by decide) c2, N_g2, N_g3, N_m0 hm, N_m1 hm, u1]
        · rw [hmd, E129]
          simp only [S129_0, S129_1, S129_2, S129_5, S129_8, S129_9, S129_10, S129_11, S129_14, S129_17, S129_20, S129_22, S129_23, S129_24, S129_25, S129_26, S129_29, S129_30, S129_33, S129_36, S129_37, S129_38, S129_39, S129_42, S129_45, S129_47, Option.bind_some, Option.map_some, xpush_s, xpush_n, xcat_0, xcat_i, xcat_r, xcat_l, xcat_n, xcat_e, xir_r, Nat.reduceAdd, Nat.reduceLeDiff, Nat.zero_le, Nat.le_refl, ↓reduceIte, Dcls, n1, m_mk_t _ hw c1, in_t _ _ (n := 5) (N := 5) rfl (by decide) c2, s_of0 _ hm, s_of1 _ hm, u2]
    · refine comb0 (v := -1000000001) R ?_ ?_
      · rw [E63]
        simp only [S63_0, S63_1, S63_4, S63_5, S63_8, S63_11, S63_12, S63_13, S63_14, S63_17, S63_20, S63_22, S63_23, S63_24, S63_27, S63_30, S63_31, S63_32, S63_33, S63_36, S63_39, S63_40, S63_43, S63_46, S63_47, S63_48, S63_51, S63_53, Option.bind_some, Option.map_some, xpush_s, xpush_n, xcat_0, xcat_i, xcat_r, xcat_l, xcat_n, xcat_e, xir_r, Nat.reduceAdd, Nat.reduceLeDiff, Nat.zero_le, Nat.le_refl, ↓reduceIte, C_0, C_6, N_cls, n1, G_lk_t _ hw c1, ou_t _ _ (n := 5) (N := 5) rfl (by decide) c2]
      · rw [hmd, E129]
        simp only [S129_0, S129_1, S129_2, S129_5, S129_8, S129_9, S129_10, S129_11, S129_14, S129_17, S129_20, S129_22, S129_23, S129_24, S129_25, S129_26, S129_29, S129_30, S129_33, S129_36, S129_37, S129_38, S129_39, S129_42, S129_45, S129_47, Option.bind_some, Option.map_some, xpush_s, xpush_n, xcat_0, xcat_i, xcat_r, xcat_l, xcat_n, xcat_e, xir_r, Nat.reduceAdd, Nat.reduceLeDiff, Nat.zero_le, Nat.le_refl, ↓reduceIte, Dcls, n1, m_mk_t _ hw c1, in_f _ _ (n := 5) (N := 5) rfl (by decide) c2]
  · refine comb0 (v := -1000000001) R ?_ ?_
    · rw [E63]
      simp only [S63_0, S63_1, S63_4, S63_5, S63_8, S63_11, S63_12, S63_13, S63_14, S63_17, S63_20, S63_22, S63_23, S63_24, S63_27, S63_30, S63_31, S63_32, S63_33, S63_36, S63_39, S63_40, S63_43, S63_46, S63_47, S63_48, S63_51, S63_53, Option.bind_some, Option.map_some, xpush_s, xpush_n, xcat_0, xcat_i, xcat_r, xcat_l, xcat_n, xcat_e, xir_r, Nat.reduceAdd, Nat.reduceLeDiff, Nat.zero_le, Nat.le_refl, ↓reduceIte, C_0, C_6, N_cls, n1, G_lk_f _ hw c1]
    · rw [hmd, E129]
      simp only [S129_0, S129_1, S129_2, S129_5, S129_8, S129_9, S129_10, S129_11, S129_14, S129_17, S129_20, S129_22, S129_23, S129_24, S129_25, S129_26, S129_29, S129_30, S129_33, S129_36, S129_37, S129_38, S129_39, S129_42, S129_45, S129_47, Option.bind_some, Option.map_some, xpush_s, xpush_n, xcat_0, xcat_i, xcat_r, xcat_l, xcat_n, xcat_e, xir_r, Nat.reduceAdd, Nat.reduceLeDiff, Nat.zero_le, Nat.le_refl, ↓reduceIte, Dcls, n1, m_mk_f _ hw c1]

theorem k_turns (x y : Int32) : CL 65 132 [.int x, .int y] := by
  intro d m h hI
  obtain ⟨δ, τ1, ε, τ2, ζ, τ3, κ, n, l, ke, op, sz, B, S, b, a, s, w, X, rfl, R⟩ := hI
  have hw := R.1
  have hmo := R.2.1
  have ha1 := R.2.2.1
  have hmd := fun Z => md_of (s := s) (w := w) (Z := Z) ha1
  have n1 : ¬ (1 : Int32) = 0 := by decide
  by_cases c1 : ix x (nn (δ 0))
  · skip
    by_cases c2 : bd y 5
    · skip
      obtain ⟨k, hk, rfl⟩ := c1
      have hm : k < 10 := by have := hw.eN.2; omega
      have c1 : ix (nI k) (nn (δ 0)) := ⟨k, hk, rfl⟩
      refine combD (v := δ (20 + 4 * k)) (D := upd δ (20 + 4 * k) y) (ζ' := ζ) (τ3' := τ3) (κ' := κ) (κm := a 9) R ?_ ?_ (wf_upd hw (okk_of (bnd_kind hm) c2)) (by rw [up_n _ _ (by omega)]; exact hmo) (up_n _ _ (by omega))
      · rw [E65]
        simp only [S65_0, S65_1, S65_4, S65_5, S65_8, S65_11, S65_12, S65_13, S65_14, S65_17, S65_20, S65_22, S65_23, S65_24, S65_27, S65_30, S65_31, S65_32, S65_33, S65_34, S65_37, S65_40, S65_41, S65_42, S65_43, S65_44, Option.bind_some, Option.map_some, xpush_s, xpush_n, xcat_0, xcat_i, xcat_r, xcat_l, xcat_n, xcat_e, xir_r, Nat.reduceAdd, Nat.reduceLeDiff, Nat.zero_le, Nat.le_refl, ↓reduceIte, C_0, N_cls, n1, G_lk_t _ hw c1, ou_f _ _ (n := 5) (N := 5) rfl (by decide) c2, N_g2, N_m0 hm, N_mw0 hm]
      · rw [E132]
        simp only [S132_0, S132_1, S132_2, S132_5, S132_8, S132_9, S132_10, S132_11, S132_14, S132_17, S132_20, S132_21, S132_23, S132_24, S132_25, S132_26, S132_27, S132_28, S132_31, S132_34, S132_36, Option.bind_some, Option.map_some, xpush_s, xpush_n, xcat_0, xcat_i, xcat_r, xcat_l, xcat_n, xcat_e, xir_r, Nat.reduceAdd, Nat.reduceLeDiff, Nat.zero_le, Nat.le_refl, ↓reduceIte, Dcls, n1, m_mk_t _ hw c1, in_t _ _ (n := 5) (N := 5) rfl (by decide) c2, ix40, s_becomesAt _ _ (show 20 + 4 * k < 60 by omega)]
    · refine comb0 (v := -1000000001) R ?_ ?_
      · rw [E65]
        simp only [S65_0, S65_1, S65_4, S65_5, S65_8, S65_11, S65_12, S65_13, S65_14, S65_17, S65_20, S65_22, S65_23, S65_24, S65_27, S65_30, S65_31, S65_32, S65_33, S65_34, S65_37, S65_40, S65_41, S65_42, S65_43, S65_44, Option.bind_some, Option.map_some, xpush_s, xpush_n, xcat_0, xcat_i, xcat_r, xcat_l, xcat_n, xcat_e, xir_r, Nat.reduceAdd, Nat.reduceLeDiff, Nat.zero_le, Nat.le_refl, ↓reduceIte, C_0, C_6, N_cls, n1, G_lk_t _ hw c1, ou_t _ _ (n := 5) (N := 5) rfl (by decide) c2]
      · rw [hmd, E132]
        simp only [S132_0, S132_1, S132_2, S132_5, S132_8, S132_9, S132_10, S132_11, S132_14, S132_17, S132_20, S132_21, S132_23, S132_24, S132_25, S132_26, S132_27, S132_28, S132_31, S132_34, S132_36, Option.bind_some, Option.map_some, xpush_s, xpush_n, xcat_0, xcat_i, xcat_r, xcat_l, xcat_n, xcat_e, xir_r, Nat.reduceAdd, Nat.reduceLeDiff, Nat.zero_le, Nat.le_refl, ↓reduceIte, Dcls, n1, m_mk_t _ hw c1, in_f _ _ (n := 5) (N := 5) rfl (by decide) c2]
  · refine comb0 (v := -1000000001) R ?_ ?_
    · rw [E65]
      simp only [S65_0, S65_1, S65_4, S65_5, S65_8, S65_11, S65_12, S65_13, S65_14, S65_17, S65_20, S65_22, S65_23, S65_24, S65_27, S65_30, S65_31, S65_32, S65_33, S65_34, S65_37, S65_40, S65_41, S65_42, S65_43, S65_44, Option.bind_some, Option.map_some, xpush_s, xpush_n, xcat_0, xcat_i, xcat_r, xcat_l, xcat_n, xcat_e, xir_r, Nat.reduceAdd, Nat.reduceLeDiff, Nat.zero_le, Nat.le_refl, ↓reduceIte, C_0, C_6, N_cls, n1, G_lk_f _ hw c1]
    · rw [hmd, E132]
      simp only [S132_0, S132_1, S132_2, S132_5, S132_8, S132_9, S132_10, S132_11, S132_14, S132_17, S132_20, S132_21, S132_23, S132_24, S132_25, S132_26, S132_27, S132_28, S132_31, S132_34, S132_36, Option.bind_some, Option.map_some, xpush_s, xpush_n, xcat_0, xcat_i, xcat_r, xcat_l, xcat_n, xcat_e, xir_r, Nat.reduceAdd, Nat.reduceLeDiff, Nat.zero_le, Nat.le_refl, ↓reduceIte, Dcls, n1, m_mk_f _ hw c1]

theorem k_set (x y z : Int32) : CL 66 134 [.int x, .int y, .int z] := by
  intro d m h hI
  obtain ⟨δ, τ1, ε, τ2, ζ, τ3, κ, n, l, ke, op, sz, B, S, b, a, s, w, X, rfl, R⟩ := hI
  have hw := R.1
  have hmo := R.2.1
  have ha1 := R.2.2.1
  have hmd := fun Z => md_of (s := s) (w := w) (Z := Z) ha1
  have n1 : ¬ (1 : Int32) = 0 := by decide
  by_cases c1 : ix x (nn (δ 0))
  · skip
    by_cases c2 : bd1 y 3
    · skip
      obtain ⟨k, hk, rfl⟩ := c1
      have hm : k < 10 := by have := hw.eN.2; omega
      have c1 : ix (nI k) (nn (δ 0)) := ⟨k, hk, rfl⟩
      have h9 : ∀ d h, Ev (d + 1) 57 [.int (nI k), .int 0, .int (Int32.ofNat 10 - 1)] h = some (some (.int 0), h) := fun d h => ou_f d h (n := 9) rfl (by decide) (ix_bd c1 hw.eN.2)
      have hin := fun d h => in1_t d h (n := 3) (N := 3) rfl (by decide) c2
      obtain ⟨j, hj1, hj, rfl⟩ := c2
      rcases (show j = 1 ∨ j = 2 ∨ j = 3 by omega) with rfl | rfl | rfl
      · skip
        by_cases c3 : bd z 99
        · refine combD (v := δ (20 + 4 * k + 1)) (D := upd δ (20 + 4 * k + 1) z) (ζ' := ζ) (τ3' := τ3) (κ' := κ) (κm := a 9) R ?_ ?_ (wf_upd hw (okk_of (bnd_ink hm) c3)) (by rw [up_n _ _ (by omega)]; exact hmo) (up_n _ _ (by omega))
          · have hch : Ev (d + 199) 67 [.ref 4, .int (nI k), .int z, .int 99] (cG δ τ1 ε τ2 ζ τ3 κ n l ke op sz B S b (mh a s w X)) = some (some (.int (δ (20 + 4 * k + 1))), cG (upd δ (20 + 4 * k + 1) z) τ1 ε τ2 ζ τ3 κ n l ke op sz B S b (mh a s w X)) := c_change_t (d + 197) N_len3 (h9 _) (fun h => ou_f _ h (n := 99) rfl (by decide) c3) (N_m1 hm) (N_mw1 hm z)
            rw [E66]
            simp (config := { decide := true }) only [S66_0, S66_1, S66_4, S66_5, S66_8, S66_11, S66_13, S66_14, S66_15, S66_40, S66_41, S66_44, S66_47, S66_48, S66_49, S66_51, S66_54, S66_55, S66_56, S66_59, S66_62, S66_63, S66_64, S66_66, S66_69, S66_70, S66_71, S66_74, S66_77, S66_78, S66_79, S66_82, S66_85, S66_86, S66_88, Option.bind_some, Option.map_some, xpush_s, xpush_n, xcat_0, xcat_i, xcat_r, xcat_l, xcat_n, xcat_e, xir_r, Nat.reduceAdd, Nat.reduceLeDiff, Nat.zero_le, Nat.le_refl, ↓reduceIte, C_0, N_cls, G_lk_t _ hw c1, N_g3, hch, if_true, if_false]
          · rw [E134]
            simp (config := { decide := true }) only [S134_0, S134_1, S134_2, S134_5, S134_7, S134_10, S134_11, S134_12, S134_15, S134_17, S134_20, S134_23, S134_25, S134_26, S134_27, S134_30, S134_33, S134_34, S134_35, S134_36, S134_39, S134_42, S134_45, S134_46, S134_47, S134_48, S134_50, S134_51, S134_54, S134_57, S134_58, S134_60, S134_61, S134_62, S134_63, S134_64, S134_65, S134_66, S134_67, S134_70, S134_73, S134_75, Option.bind_some, Option.map_some, xpush_s, xpush_n, xcat_0, xcat_i, xcat_r, xcat_l, xcat_n, xcat_e, xir_r, Nat.reduceAdd, Nat.reduceLeDiff, Nat.zero_le, Nat.le_refl, ↓reduceIte, Dcls, m_mk_t _ hw c1, hin, in_t _ _ (n := 99) (N := (99 : Int32).toInt64) rfl (by decide) c3, ix4, s_becomesAt _ _ (show 20 + 4 * k + 1 < 60 by omega), if_true, if_false]
        · refine comb0 (v := -1000000001) R ?_ ?_
          · have hch : Ev (d + 199) 67 [.ref 4, .int (nI k), .int z, .int 99] (cG δ τ1 ε τ2 ζ τ3 κ n l ke op sz B S b (mh a s w X)) = some (some (.int (-1000000001)), cG δ τ1 ε τ2 ζ τ3 κ n l ke op sz B S b (mh a s w X)) := c_change_f (d + 197) N_len3 (h9 _) (fun h => ou_t _ h (n := 99) rfl (by decide) c3)
            rw [E66]
            simp (config := { decide := true }) only [S66_0, S66_1, S66_4, S66_5, S66_8, S66_11, S66_13, S66_14, S66_15, S66_40, S66_41, S66_44, S66_47, S66_48, S66_49, S66_51, S66_54, S66_55, S66_56, S66_59, S66_62, S66_63, S66_64, S66_66, S66_69, S66_70, S66_71, S66_74, S66_77, S66_78, S66_79, S66_82, S66_85, S66_86, S66_88, Option.bind_some, Option.map_some, xpush_s, xpush_n, xcat_0, xcat_i, xcat_r, xcat_l, xcat_n, xcat_e, xir_r, Nat.reduceAdd, Nat.reduceLeDiff, Nat.zero_le, Nat.le_refl, ↓reduceIte, C_0, N_cls, G_lk_t _ hw c1, N_g3, hch, if_true, if_false]
          · rw [hmd, E134]
            simp (config := { decide := true }) only [S134_0, S134_1, S134_2, S134_5, S134_7, S134_10, S134_11, S134_12, S134_15, S134_17, S134_20, S134_23, S134_25, S134_26, S134_27, S134_30, S134_33, S134_34, S134_35, S134_36, S134_39, S134_42, S134_45, S134_46, S134_47, S134_48, S134_50, S134_51, S134_54, S134_57, S134_58, S134_60, S134_61, S134_62, S134_63, S134_64, S134_65, S134_66, S134_67, S134_70, S134_73, S134_75, Option.bind_some, Option.map_some, xpush_s, xpush_n, xcat_0, xcat_i, xcat_r, xcat_l, xcat_n, xcat_e, xir_r, Nat.reduceAdd, Nat.reduceLeDiff, Nat.zero_le, Nat.le_refl, ↓reduceIte, Dcls, m_mk_t _ hw c1, hin, in_f _ _ (n := 99) (N := (99 : Int32).toInt64) rfl (by decide) c3, if_true, if_false]
      · skip
        by_cases c3 : bd z 11
        · refine combD (v := δ (20 + 4 * k + 2)) (D := upd δ (20 + 4 * k + 2) z) (ζ' := ζ) (τ3' := τ3) (κ' := κ) (κm := a 9) R ?_ ?_ (wf_upd hw (okk_of (bnd_reach hm) c3)) (by rw [up_n _ _ (by omega)]; exact hmo) (up_n _ _ (by omega))
          · have hch : Ev (d + 199) 67 [.ref 5, .int (nI k), .int z, .int 11] (cG δ τ1 ε τ2 ζ τ3 κ n l ke op sz B S b (mh a s w X)) = some (some (.int (δ (20 + 4 * k + 2))), cG (upd δ (20 + 4 * k + 2) z) τ1 ε τ2 ζ τ3 κ n l ke op sz B S b (mh a s w X)) := c_change_t (d + 197) N_len4 (h9 _) (fun h => ou_f _ h (n := 11) rfl (by decide) c3) (N_m2 hm) (N_mw2 hm z)
            rw [E66]
            simp (config := { decide := true }) only [S66_0, S66_1, S66_4, S66_5, S66_8, S66_11, S66_13, S66_14, S66_15, S66_40, S66_41, S66_44, S66_47, S66_48, S66_49, S66_51, S66_54, S66_55, S66_56, S66_59, S66_62, S66_63, S66_64, S66_66, S66_69, S66_70, S66_71, S66_74, S66_77, S66_78, S66_79, S66_82, S66_85, S66_86, S66_88, Option.bind_some, Option.map_some, xpush_s, xpush_n, xcat_0, xcat_i, xcat_r, xcat_l, xcat_n, xcat_e, xir_r, Nat.reduceAdd, Nat.reduceLeDiff, Nat.zero_le, Nat.le_refl, ↓reduceIte, C_0, N_cls, G_lk_t _ hw c1, N_g4, hch, if_true, if_false]
          · rw [E134]
            simp (config := { decide := true }) only [S134_0, S134_1, S134_2, S134_5, S134_7, S134_10, S134_11, S134_12, S134_15, S134_17, S134_20, S134_23, S134_25, S134_26, S134_27, S134_30, S134_33, S134_34, S134_35, S134_36, S134_39, S134_42, S134_45, S134_46, S134_47, S134_48, S134_50, S134_51, S134_54, S134_57, S134_58, S134_60, S134_61, S134_62, S134_63, S134_64, S134_65, S134_66, S134_67, S134_70, S134_73, S134_75, Option.bind_some, Option.map_some, xpush_s, xpush_n, xcat_0, xcat_i, xcat_r, xcat_l, xcat_n, xcat_e, xir_r, Nat.reduceAdd, Nat.reduceLeDiff, Nat.zero_le, Nat.le_refl, ↓reduceIte, Dcls, m_mk_t _ hw c1, hin, in_t _ _ (n := 11) (N := (11 : Int32).toInt64) rfl (by decide) c3, ix4, s_becomesAt _ _ (show 20 + 4 * k + 2 < 60 by omega), if_true, if_false]
        · refine comb0 (v := -1000000001) R ?_ ?_
          · have hch : Ev (d + 199) 67 [.ref 5, .int (nI k), .int z, .int 11] (cG δ τ1 ε τ2 ζ τ3 κ n l ke op sz B S b (mh a s w X)) = some (some (.int (-1000000001)), cG δ τ1 ε τ2 ζ τ3 κ n l ke op sz B S b (mh a s w X)) := c_change_f (d + 197) N_len4 (h9 _) (fun h => ou_t _ h (n := 11) rfl (by decide) c3)
            rw [E66]
            simp (config := { decide := true }) only [S66_0, S66_1, S66_4, S66_5, S66_8, S66_11, S66_13, S66_14, S66_15, S66_40, S66_41, S66_44, S66_47, S66_48, S66_49, S66_51, S66_54, S66_55, S66_56, S66_59, S66_62, S66_63, S66_64, S66_66, S66_69, S66_70, S66_71, S66_74, S66_77, S66_78, S66_79, S66_82, S66_85, S66_86, S66_88, Option.bind_some, Option.map_some, xpush_s, xpush_n, xcat_0, xcat_i, xcat_r, xcat_l, xcat_n, xcat_e, xir_r, Nat.reduceAdd, Nat.reduceLeDiff, Nat.zero_le, Nat.le_refl, ↓reduceIte, C_0, N_cls, G_lk_t _ hw c1, N_g4, hch, if_true, if_false]
          · rw [hmd, E134]
            simp (config := { decide := true }) only [S134_0, S134_1, S134_2, S134_5, S134_7, S134_10, S134_11, S134_12, S134_15, S134_17, S134_20, S134_23, S134_25, S134_26, S134_27, S134_30, S134_33, S134_34, S134_35, S134_36, S134_39, S134_42, S134_45, S134_46, S134_47, S134_48, S134_50, S134_51, S134_54, S134_57, S134_58, S134_60, S134_61, S134_62, S134_63, S134_64, S134_65, S134_66, S134_67, S134_70, S134_73, S134_75, Option.bind_some, Option.map_some, xpush_s, xpush_n, xcat_0, xcat_i, xcat_r, xcat_l, xcat_n, xcat_e, xir_r, Nat.reduceAdd, Nat.reduceLeDiff, Nat.zero_le, Nat.le_refl, ↓reduceIte, Dcls, m_mk_t _ hw c1, hin, in_f _ _ (n := 11) (N := (11 : Int32).toInt64) rfl (by decide) c3, if_true, if_false]
      · skip
        by_cases c3 : bd z 9999
        · refine combD (v := δ (20 + 4 * k + 3)) (D := upd δ (20 + 4 * k + 3) z) (ζ' := ζ) (τ3' := τ3) (κ' := κ) (κm := a 9) R ?_ ?_ (wf_upd hw (okk_of (bnd_stood hm) c3)) (by rw [up_n _ _ (by omega)]; exact hmo) (up_n _ _ (by omega))
          · have hch : Ev (d + 199) 67 [.ref 6, .int (nI k), .int z, .int 9999] (cG δ τ1 ε τ2 ζ τ3 κ n l ke op sz B S b (mh a s w X)) = some (some (.int (δ (20 + 4 * k + 3))), cG (upd δ (20 + 4 * k + 3) z) τ1 ε τ2 ζ τ3 κ n l ke op sz B S b (mh a s w X)) := c_change_t (d + 197) N_len5 (h9 _) (fun h => ou_f _ h (n := 9999) rfl (by decide) c3) (N_m3 hm) (N_mw3 hm z)
            rw [E66]
            simp (config := { decide := true }) only [S66_0, S66_1, S66_4, S66_5, S66_8, S66_11, S66_13, S66_14, S66_15, S66_40, S66_41, S66_44, S66_47, S66_48, S66_49, S66_51, S66_54, S66_55, S66_56, S66_59, S66_62, S66_63, S66_64, S66_66, S66_69, S66_70, S66_71, S66_74, S66_77, S66_78, S66_79, S66_82, S66_85, S66_86, S66_88, Option.bind_some, Option.map_some, xpush_s, xpush_n, xcat_0, xcat_i, xcat_r, xcat_l, xcat_n, xcat_e, xir_r, Nat.reduceAdd, Nat.reduceLeDiff, Nat.zero_le, Nat.le_refl, ↓reduceIte, C_0, N_cls, G_lk_t _ hw c1, N_g5, hch, if_true, if_false]
          · rw [E134]
            simp (config := { decide := true }) only [S134_0, S134_1, S134_2, S134_5, S134_7, S134_10, S134_11, S134_12, S134_15, S134_17, S134_20, S134_23, S134_25, S134_26, S134_27, S134_30, S134_33, S134_34, S134_35, S134_36, S134_39, S134_42, S134_45, S134_46, S134_47, S134_48, S134_50, S134_51, S134_54, S134_57, S134_58, S134_60, S134_61, S134_62, S134_63, S134_64, S134_65, S134_66, S134_67, S134_70, S134_73, S134_75, Option.bind_some, Option.map_some, xpush_s, xpush_n, xcat_0, xcat_i, xcat_r, xcat_l, xcat_n, xcat_e, xir_r, Nat.reduceAdd, Nat.reduceLeDiff, Nat.zero_le, Nat.le_refl, ↓reduceIte, Dcls, m_mk_t _ hw c1, hin, in_t _ _ (n := 9999) (N := (9999 : Int32).toInt64) rfl (by decide) c3, ix4, s_becomesAt _ _ (show 20 + 4 * k + 3 < 60 by omega), if_true, if_false]
        · refine comb0 (v := -1000000001) R ?_ ?_
          · have hch : Ev (d + 199) 67 [.ref 6, .int (nI k), .int z, .int 9999] (cG δ τ1 ε τ2 ζ τ3 κ n l ke op sz B S b (mh a s w X)) = some (some (.int (-1000000001)), cG δ τ1 ε τ2 ζ τ3 κ n l ke op sz B S b (mh a s w X)) := c_change_f (d + 197) N_len5 (h9 _) (fun h => ou_t _ h (n := 9999) rfl (by decide) c3)
            rw [E66]
            simp (config := { decide := true }) only [S66_0, S66_1, S66_4, S66_5, S66_8, S66_11, S66_13, S66_14, S66_15, S66_40, S66_41, S66_44, S66_47, S66_48, S66_49, S66_51, S66_54, S66_55, S66_56, S66_59, S66_62, S66_63, S66_64, S66_66, S66_69, S66_70, S66_71, S66_74, S66_77, S66_78, S66_79, S66_82, S66_85, S66_86, S66_88, Option.bind_some, Option.map_some, xpush_s, xpush_n, xcat_0, xcat_i, xcat_r, xcat_l, xcat_n, xcat_e, xir_r, Nat.reduceAdd, Nat.reduceLeDiff, Nat.zero_le, Nat.le_refl, ↓reduceIte, C_0, N_cls, G_lk_t _ hw c1, N_g5, hch, if_true, if_false]
          · rw [hmd, E134]
            simp (config := { decide := true }) only [S134_0, S134_1, S134_2, S134_5, S134_7, S134_10, S134_11, S134_12, S134_15, S134_17, S134_20, S134_23, S134_25, S134_26, S134_27, S134_30, S134_33, S134_34, S134_35, S134_36, S134_39, S134_42, S134_45, S134_46, S134_47, S134_48, S134_50, S134_51, S134_54, S134_57, S134_58, S134_60, S134_61, S134_62, S134_63, S134_64, S134_65, S134_66, S134_67, S134_70, S134_73, S134_75, Option.bind_some, Option.map_some, xpush_s, xpush_n, xcat_0, xcat_i, xcat_r, xcat_l, xcat_n, xcat_e, xir_r, Nat.reduceAdd, Nat.reduceLeDiff, Nat.zero_le, Nat.le_refl, ↓reduceIte, Dcls, m_mk_t _ hw c1, hin, in_f _ _ (n := 9999) (N := (9999 : Int32).toInt64) rfl (by decide) c3, if_true, if_false]
    · refine comb0 (v := -1000000001) R ?_ ?_
      · rw [E66]
        simp only [S66_0, S66_1, S66_4, S66_5, S66_8, S66_11, S66_13, S66_14, S66_15, S66_40, S66_41, S66_44, S66_47, S66_48, S66_49, S66_51, S66_54, S66_55, S66_56, S66_59, S66_62, S66_63, S66_64, S66_66, S66_69, S66_70, S66_71, S66_74, S66_77, S66_78, S66_79, S66_82, S66_85, S66_86, S66_88, Option.bind_some, Option.map_some, xpush_s, xpush_n, xcat_0, xcat_i, xcat_r, xcat_l, xcat_n, xcat_e, xir_r, Nat.reduceAdd, Nat.reduceLeDiff, Nat.zero_le, Nat.le_refl, ↓reduceIte, C_0, C_6, N_cls, n1, G_lk_t _ hw c1, ou1_t _ _ (n := 3) (N := 3) rfl (by decide) c2, show ¬ y = 1 from fun q => c2 ⟨1, by decide, by decide, q⟩, show ¬ y = 2 from fun q => c2 ⟨2, by decide, by decide, q⟩, show ¬ y = 3 from fun q => c2 ⟨3, by decide, by decide, q⟩]
      · rw [hmd, E134]
        simp only [S134_0, S134_1, S134_2, S134_5, S134_7, S134_10, S134_11, S134_12, S134_15, S134_17, S134_20, S134_23, S134_25, S134_26, S134_27, S134_30, S134_33, S134_34, S134_35, S134_36, S134_39, S134_42, S134_45, S134_46, S134_47, S134_48, S134_50, S134_51, S134_54, S134_57, S134_58, S134_60, S134_61, S134_62, S134_63, S134_64, S134_65, S134_66, S134_67, S134_70, S134_73, S134_75, Option.bind_some, Option.map_some, xpush_s, xpush_n, xcat_0, xcat_i, xcat_r, xcat_l, xcat_n, xcat_e, xir_r, Nat.reduceAdd, Nat.reduceLeDiff, Nat.zero_le, Nat.le_refl, ↓reduceIte, Dcls, n1, m_mk_t _ hw c1, in1_f _ _ (n := 3) (N := 3) rfl (by decide) c2, show ¬ y = 1 from fun q => c2 ⟨1, by decide, by decide, q⟩, show ¬ y = 2 from fun q => c2 ⟨2, by decide, by decide, q⟩]
  · refine comb0 (v := -1000000001) R ?_ ?_
    · rw [E66]
      simp only [S66_0, S66_1, S66_4, S66_5, S66_8, S66_11, S66_13, S66_14, S66_15, S66_40, S66_41, S66_44, S66_47, S66_48, S66_49, S66_51, S66_54, S66_55, S66_56, S66_59, S66_62, S66_63, S66_64, S66_66, S66_69, S66_70, S66_71, S66_74, S66_77, S66_78, S66_79, S66_82, S66_85, S66_86, S66_88, Option.bind_some, Option.map_some, xpush_s, xpush_n, xcat_0, xcat_i, xcat_r, xcat_l, xcat_n, xcat_e, xir_r, Nat.reduceAdd, Nat.reduceLeDiff, Nat.zero_le, Nat.le_refl, ↓reduceIte, C_0, C_6, N_cls, n1, G_lk_f _ hw c1]
    · rw [hmd, E134]
      by_cases y1 : y = 1
      · simp only [S134_0, S134_1, S134_2, S134_5, S134_7, S134_10, S134_11, S134_12, S134_15, S134_17, S134_20, S134_23, S134_25, S134_26, S134_27, S134_30, S134_33, S134_34, S134_35, S134_36, S134_39, S134_42, S134_45, S134_46, S134_47, S134_48, S134_50, S134_51, S134_54, S134_57, S134_58, S134_60, S134_61, S134_62, S134_63, S134_64, S134_65, S134_66, S134_67, S134_70, S134_73, S134_75, Option.bind_some, Option.map_some, xpush_s, xpush_n, xcat_0, xcat_i, xcat_r, xcat_l, xcat_n, xcat_e, xir_r, Nat.reduceAdd, Nat.reduceLeDiff, Nat.zero_le, Nat.le_refl, ↓reduceIte, Dcls, n1, m_mk_f _ hw c1, if_pos y1]
      · by_cases y2 : y = 2
        · simp only [S134_0, S134_1, S134_2, S134_5, S134_7, S134_10, S134_11, S134_12, S134_15, S134_17, S134_20, S134_23, S134_25, S134_26, S134_27, S134_30, S134_33, S134_34, S134_35, S134_36, S134_39, S134_42, S134_45, S134_46, S134_47, S134_48, S134_50, S134_51, S134_54, S134_57, S134_58, S134_60, S134_61, S134_62, S134_63, S134_64, S134_65, S134_66, S134_67, S134_70, S134_73, S134_75, Option.bind_some, Option.map_some, xpush_s, xpush_n, xcat_0, xcat_i, xcat_r, xcat_l, xcat_n, xcat_e, xir_r, Nat.reduceAdd, Nat.reduceLeDiff, Nat.zero_le, Nat.le_refl, ↓reduceIte, Dcls, n1, m_mk_f _ hw c1, if_neg y1, if_pos y2]
        · simp only [S134_0, S134_1, S134_2, S134_5, S134_7, S134_10, S134_11, S134_12, S134_15, S134_17, S134_20, S134_23, S134_25, S134_26, S134_27, S134_30, S134_33, S134_34, S134_35, S134_36, S134_39, S134_42, S134_45, S134_46, S134_47, S134_48, S134_50, S134_51, S134_54, S134_57, S134_58, S134_60, S134_61, S134_62, S134_63, S134_64, S134_65, S134_66, S134_67, S134_70, S134_73, S134_75, Option.bind_some, Option.map_some, xpush_s, xpush_n, xcat_0, xcat_i, xcat_r, xcat_l, xcat_n, xcat_e, xir_r, Nat.reduceAdd, Nat.reduceLeDiff, Nat.zero_le, Nat.le_refl, ↓reduceIte, Dcls, n1, m_mk_f _ hw c1, if_neg y1, if_neg y2]

theorem k_water (x y : Int32) : CL 68 135 [.int x, .int y] := by
  intro d m h hI
  obtain ⟨δ, τ1, ε, τ2, ζ, τ3, κ, n, l, ke, op, sz, B, S, b, a, s, w, X, rfl, R⟩ := hI
  have hw := R.1
  have hmo := R.2.1
  have ha1 := R.2.2.1
  have hmd := fun Z => md_of (s := s) (w := w) (Z := Z) ha1
  have n1 : ¬ (1 : Int32) = 0 := by decide
  by_cases c1 : bd x 11
  · have h9 : ∀ d h, Ev (d + 1) 57 [.int x, .int 0, .int (Int32.ofNat 12 - 1)] h = some (some (.int 0), h) := fun d h => ou_f d h (n := 11) rfl (by decide) c1
    have hr := fun d h => m_rch_t d h c1
    obtain ⟨r, hr', rfl⟩ := c1
    by_cases c2 : bd y 99
    · refine combD (v := δ (8 + r)) (D := upd δ (8 + r) y) (ζ' := ζ) (τ3' := τ3) (κ' := κ) (κm := a 9) R ?_ ?_ (wf_upd hw (okk_of (bnd_water (by omega)) c2)) (by rw [up_n _ _ (by omega)]; exact hmo) (up_n _ _ (by omega))
      · have hch : Ev (d + 199) 67 [.ref 2, .int (nI r), .int y, .int 99] (cG δ τ1 ε τ2 ζ τ3 κ n l ke op sz B S b (mh a s w X)) = some (some (.int (δ (8 + r))), cG (upd δ (8 + r) y) τ1 ε τ2 ζ τ3 κ n l ke op sz B S b (mh a s w X)) := c_change_t (d + 197) N_len1 (h9 _) (fun h => ou_f _ h (n := 99) rfl (by decide) c2) (N_w (show r < 12 by omega)) (N_ww (show r < 12 by omega) y)
        rw [E68]
        simp only [S68_0, S68_1, S68_4, S68_7, S68_8, S68_9, S68_11, S68_14, Option.bind_some, Option.map_some, xpush_s, xpush_n, xcat_0, xcat_i, xcat_r, xcat_l, xcat_n, xcat_e, xir_r, Nat.reduceAdd, Nat.reduceLeDiff, Nat.zero_le, Nat.le_refl, ↓reduceIte, C_0, N_g0, hch]
      · rw [E135]
        simp only [S135_0, S135_1, S135_4, S135_7, S135_8, S135_9, S135_10, S135_13, S135_16, S135_19, S135_20, S135_22, S135_23, S135_24, S135_25, S135_28, S135_31, S135_33, Option.bind_some, Option.map_some, xpush_s, xpush_n, xcat_0, xcat_i, xcat_r, xcat_l, xcat_n, xcat_e, xir_r, Nat.reduceAdd, Nat.reduceLeDiff, Nat.zero_le, Nat.le_refl, ↓reduceIte, Dcls, n1, hr, in_t _ _ (n := 99) (N := 99) rfl (by decide) c2, ix8, s_becomesAt _ _ (show 8 + r < 60 by omega)]
    · refine comb0 (v := -1000000001) R ?_ ?_
      · have hch : Ev (d + 199) 67 [.ref 2, .int (nI r), .int y, .int 99] (cG δ τ1 ε τ2 ζ τ3 κ n l ke op sz B S b (mh a s w X)) = some (some (.int (-1000000001)), cG δ τ1 ε τ2 ζ τ3 κ n l ke op sz B S b (mh a s w X)) := c_change_f (d + 197) N_len1 (h9 _) (fun h => ou_t _ h (n := 99) rfl (by decide) c2)
        rw [E68]
        simp only [S68_0, S68_1, S68_4, S68_7, S68_8, S68_9, S68_11, S68_14, Option.bind_some, Option.map_some, xpush_s, xpush_n, xcat_0, xcat_i, xcat_r, xcat_l, xcat_n, xcat_e, xir_r, Nat.reduceAdd, Nat.reduceLeDiff, Nat.zero_le, Nat.le_refl, ↓reduceIte, C_0, N_g0, hch]
      · rw [hmd, E135]
        simp only [S135_0, S135_1, S135_4, S135_7, S135_8, S135_9, S135_10, S135_13, S135_16, S135_19, S135_20, S135_22, S135_23, S135_24, S135_25, S135_28, S135_31, S135_33, Option.bind_some, Option.map_some, xpush_s, xpush_n, xcat_0, xcat_i, xcat_r, xcat_l, xcat_n, xcat_e, xir_r, Nat.reduceAdd, Nat.reduceLeDiff, Nat.zero_le, Nat.le_refl, ↓reduceIte, Dcls, n1, hr, in_f _ _ (n := 99) (N := 99) rfl (by decide) c2]
  · refine comb0 (v := -1000000001) R ?_ ?_
    · have hch : Ev (d + 199) 67 [.ref 2, .int x, .int y, .int 99] (cG δ τ1 ε τ2 ζ τ3 κ n l ke op sz B S b (mh a s w X)) = some (some (.int (-1000000001)), cG δ τ1 ε τ2 ζ τ3 κ n l ke op sz B S b (mh a s w X)) := c_change_i (d + 197) N_len1 (fun h => ou_t _ h (n := 11) rfl (by decide) c1)
      rw [E68]
      simp only [S68_0, S68_1, S68_4, S68_7, S68_8, S68_9, S68_11, S68_14, Option.bind_some, Option.map_some, xpush_s, xpush_n, xcat_0, xcat_i, xcat_r, xcat_l, xcat_n, xcat_e, xir_r, Nat.reduceAdd, Nat.reduceLeDiff, Nat.zero_le, Nat.le_refl, ↓reduceIte, C_0, N_g0, hch]
    · rw [hmd, E135]
      simp only [S135_0, S135_1, S135_4, S135_7, S135_8, S135_9, S135_10, S135_13, S135_16, S135_19, S135_20, S135_22, S135_23, S135_24, S135_25, S135_28, S135_31, S135_33, Option.bind_some, Option.map_some, xpush_s, xpush_n, xcat_0, xcat_i, xcat_r, xcat_l, xcat_n, xcat_e, xir_r, Nat.reduceAdd, Nat.reduceLeDiff, Nat.zero_le, Nat.le_refl, ↓reduceIte, Dcls, n1, m_rch_f _ _ c1]

theorem k_seed (x : Int32) : CL 72 140 [.int x] := by
  intro d m h hI
  obtain ⟨δ, τ1, ε, τ2, ζ, τ3, κ, n, l, ke, op, sz, B, S, b, a, s, w, X, rfl, R⟩ := hI
  have hw := R.1
  have hmo := R.2.1
  have ha1 := R.2.2.1
  have hmd := fun Z => md_of (s := s) (w := w) (Z := Z) ha1
  have n1 : ¬ (1 : Int32) = 0 := by decide
  refine combD (v := δ 6) (D := upd δ 6 x) (ζ' := ζ) (τ3' := τ3) (κ' := κ) (κm := a 9) R ?_ ?_ (wf_upd hw (fun _ hb => nomatch hb)) (by rw [up_n _ _ (by decide)]; exact hmo) (up_n _ _ (by decide))
  · rw [E72]
    simp only [S72_0, S72_1, S72_4, S72_7, S72_8, S72_9, S72_12, S72_13, S72_16, S72_17, Option.bind_some, Option.map_some, xpush_s, xpush_n, xcat_0, xcat_i, xcat_r, xcat_l, xcat_n, xcat_e, xir_r, Nat.reduceAdd, Nat.reduceLeDiff, Nat.zero_le, Nat.le_refl, ↓reduceIte, C_0, N_g11, N_p11]
  · have e := fun d Z => s_becomesAt (a := a) (δ := δ) (κ := a 9) (s := s) (w := w) (H := Z) d x (show 6 < 60 by decide)
    rw [show nI 6 = 6 from rfl] at e
    rw [E140]
    simp only [S140_0, S140_1, S140_3, S140_4, S140_7, Option.bind_some, Option.map_some, xpush_s, xpush_n, xcat_0, xcat_i, xcat_r, xcat_l, xcat_n, xcat_e, xir_r, Nat.reduceAdd, Nat.reduceLeDiff, Nat.zero_le, Nat.le_refl, ↓reduceIte, Dcls, e]

theorem k_rule (x y : Int32) : CL 70 137 [.int x, .int y] := by
  intro d m h hI
  obtain ⟨δ, τ1, ε, τ2, ζ, τ3, κ, n, l, ke, op, sz, B, S, b, a, s, w, X, rfl, R⟩ := hI
  have hw := R.1
  have hmo := R.2.1
  have ha1 := R.2.2.1
  have hmd := fun Z => md_of (s := s) (w := w) (Z := Z) ha1
  have n1 : ¬ (1 : Int32) = 0 := by decide
  have e2 := fun d Z => s_becomesAt (a := a) (δ := δ) (κ := a 9) (s := s) (w := w) (H := Z) d y (show 2 < 60 by decide)
  have e3 := fun d Z => s_becomesAt (a := a) (δ := δ) (κ := a 9) (s := s) (w := w) (H := Z) d y (show 3 < 60 by decide)
  rw [show nI 2 = 2 from rfl] at e2
  rw [show nI 3 = 3 from rfl] at e3
  by_cases c1 : bd x 1
  · have hin := fun d h => in_t d h (n := 1) (N := 1) rfl (by decide) c1
    obtain ⟨j, hj, rfl⟩ := c1
    rcases (show j = 0 ∨ j = 1 by omega) with rfl | rfl
    · skip
      by_cases c2 : bd y 99
      · refine combD (v := δ 2) (D := upd δ 2 y) (ζ' := ζ) (τ3' := τ3) (κ' := κ) (κm := a 9) R ?_ ?_ (wf_upd hw (okk_of rfl c2)) (by rw [up_n _ _ (by decide)]; exact hmo) (up_n _ _ (by decide))
        · rw [E70]
          simp (config := { decide := true }) only [S70_0, S70_1, S70_4, S70_5, S70_6, S70_8, S70_11, S70_14, S70_15, S70_18, S70_21, S70_22, S70_23, S70_26, S70_27, S70_30, S70_31, S70_32, S70_33, S70_34, S70_37, S70_38, S70_39, S70_41, S70_44, S70_47, S70_48, S70_51, S70_54, S70_55, S70_56, S70_59, S70_60, S70_63, S70_64, S70_65, S70_67, Option.bind_some, Option.map_some, xpush_s, xpush_n, xcat_0, xcat_i, xcat_r, xcat_l, xcat_n, xcat_e, xir_r, Nat.reduceAdd, Nat.reduceLeDiff, Nat.zero_le, Nat.le_refl, ↓reduceIte, C_0, N_g6, N_p6, ou_f _ _ (n := 99) (N := 99) rfl (by decide) c2, if_true, if_false]
        · rw [E137]
          simp (config := { decide := true }) only [S137_0, S137_1, S137_2, S137_3, S137_4, S137_7, S137_10, S137_11, S137_12, S137_13, S137_14, S137_17, S137_20, S137_23, S137_26, S137_29, S137_32, S137_33, S137_34, S137_35, S137_36, S137_37, S137_40, S137_43, S137_45, Option.bind_some, Option.map_some, xpush_s, xpush_n, xcat_0, xcat_i, xcat_r, xcat_l, xcat_n, xcat_e, xir_r, Nat.reduceAdd, Nat.reduceLeDiff, Nat.zero_le, Nat.le_refl, ↓reduceIte, Dcls, hin, in_t _ _ (n := 99) (N := 99) rfl (by decide) c2, show (2 : Int32) + nI 0 = 2 from rfl, e2, if_true, if_false]
      · refine comb0 (v := -1000000001) R ?_ ?_
        · rw [E70]
          simp (config := { decide := true }) only [S70_0, S70_1, S70_4, S70_5, S70_6, S70_8, S70_11, S70_14, S70_15, S70_18, S70_21, S70_22, S70_23, S70_26, S70_27, S70_30, S70_31, S70_32, S70_33, S70_34, S70_37, S70_38, S70_39, S70_41, S70_44, S70_47, S70_48, S70_51, S70_54, S70_55, S70_56, S70_59, S70_60, S70_63, S70_64, S70_65, S70_67, Option.bind_some, Option.map_some, xpush_s, xpush_n, xcat_0, xcat_i, xcat_r, xcat_l, xcat_n, xcat_e, xir_r, Nat.reduceAdd, Nat.reduceLeDiff, Nat.zero_le, Nat.le_refl, ↓reduceIte, C_0, ou_t _ _ (n := 99) (N := 99) rfl (by decide) c2, if_true, if_false]
        · rw [hmd, E137]
          simp (config := { decide := true }) only [S137_0, S137_1, S137_2, S137_3, S137_4, S137_7, S137_10, S137_11, S137_12, S137_13, S137_14, S137_17, S137_20, S137_23, S137_26, S137_29, S137_32, S137_33, S137_34, S137_35, S137_36, S137_37, S137_40, S137_43, S137_45, Option.bind_some, Option.map_some, xpush_s, xpush_n, xcat_0, xcat_i, xcat_r, xcat_l, xcat_n, xcat_e, xir_r, Nat.reduceAdd, Nat.reduceLeDiff, Nat.zero_le, Nat.le_refl, ↓reduceIte, Dcls, hin, in_f _ _ (n := 99) (N := 99) rfl (by decide) c2, if_true, if_false]
    · skip
      by_cases c2 : bd y 100
      · refine combD (v := δ 3) (D := upd δ 3 y) (ζ' := ζ) (τ3' := τ3) (κ' := κ) (κm := a 9) R ?_ ?_ (wf_upd hw (okk_of rfl c2)) (by rw [up_n _ _ (by decide)]; exact hmo) (up_n _ _ (by decide))
        · rw [E70]
          simp (config := { decide := true }) only [S70_0, S70_1, S70_4, S70_5, S70_6, S70_8, S70_11, S70_14, S70_15, S70_18, S70_21, S70_22, S70_23, S70_26, S70_27, S70_30, S70_31, S70_32, S70_33, S70_34, S70_37, S70_38, S70_39, S70_41, S70_44, S70_47, S70_48, S70_51, S70_54, S70_55, S70_56, S70_59, S70_60, S70_63, S70_64, S70_65, S70_67, Option.bind_some, Option.map_some, xpush_s, xpush_n, xcat_0, xcat_i, xcat_r, xcat_l, xcat_n, xcat_e, xir_r, Nat.reduceAdd, Nat.reduceLeDiff, Nat.zero_le, Nat.le_refl, ↓reduceIte, C_0, N_g7, N_p7, ou_f _ _ (n := 100) (N := 100) rfl (by decide) c2, if_true, if_false]
        · rw [E137]
          simp (config := { decide := true }) only [S137_0, S137_1, S137_2, S137_3, S137_4, S137_7, S137_10, S137_11, S137_12, S137_13, S137_14, S137_17, S137_20, S137_23, S137_26, S137_29, S137_32, S137_33, S137_34, S137_35, S137_36, S137_37, S137_40, S137_43, S137_45, Option.bind_some, Option.map_some, xpush_s, xpush_n, xcat_0, xcat_i, xcat_r, xcat_l, xcat_n, xcat_e, xir_r, Nat.reduceAdd, Nat.reduceLeDiff, Nat.zero_le, Nat.le_refl, ↓reduceIte, Dcls, hin, in_t _ _ (n := 100) (N := 100) rfl (by decide) c2, show (2 : Int32) + nI 1 = 3 from rfl, e3, if_true, if_false]
      · refine comb0 (v := -1000000001) R ?_ ?_
        · rw [E70]
          simp (config := { decide := true }) only [S70_0, S70_1, S70_4, S70_5, S70_6, S70_8, S70_11, S70_14, S70_15, S70_18, S70_21, S70_22, S70_23, S70_26, S70_27, S70_30, S70_31, S70_32, S70_33, S70_34, S70_37, S70_38, S70_39, S70_41, S70_44, S70_47, S70_48, S70_51, S70_54, S70_55, S70_56, S70_59, S70_60, S70_63, S70_64, S70_65, S70_67, Option.bind_some, Option.map_some, xpush_s, xpush_n, xcat_0, xcat_i, xcat_r, xcat_l, xcat_n, xcat_e, xir_r, Nat.reduceAdd, Nat.reduceLeDiff, Nat.zero_le, Nat.le_refl, ↓reduceIte, C_0, ou_t _ _ (n := 100) (N := 100) rfl (by decide) c2, if_true, if_false]
        · rw [hmd, E137]
          simp (config := { decide := true }) only [S137_0, S137_1, S137_2, S137_3, S137_4, S137_7, S137_10, S137_11, S137_12, S137_13, S137_14, S137_17, S137_20, S137_23, S137_26, S137_29, S137_32, S137_33, S137_34, S137_35, S137_36, S137_37, S137_40, S137_43, S137_45, Option.bind_some, Option.map_some, xpush_s, xpush_n, xcat_0, xcat_i, xcat_r, xcat_l, xcat_n, xcat_e, xir_r, Nat.reduceAdd, Nat.reduceLeDiff, Nat.zero_le, Nat.le_refl, ↓reduceIte, Dcls, hin, in_f _ _ (n := 100) (N := 100) rfl (by decide) c2, if_true, if_false]
  · refine comb0 (v := -1000000001) R ?_ ?_
    · rw [E70]
      simp only [S70_0, S70_1, S70_4, S70_5, S70_6, S70_8, S70_11, S70_14, S70_15, S70_18, S70_21, S70_22, S70_23, S70_26, S70_27, S70_30, S70_31, S70_32, S70_33, S70_34, S70_37, S70_38, S70_39, S70_41, S70_44, S70_47, S70_48, S70_51, S70_54, S70_55, S70_56, S70_59, S70_60, S70_63, S70_64, S70_65, S70_67, Option.bind_some, Option.map_some, xpush_s, xpush_n, xcat_0, xcat_i, xcat_r, xcat_l, xcat_n, xcat_e, xir_r, Nat.reduceAdd, Nat.reduceLeDiff, Nat.zero_le, Nat.le_refl, ↓reduceIte, show ¬ x = 0 from fun q => c1 ⟨0, by decide, q⟩, show ¬ x = 1 from fun q => c1 ⟨1, by decide, q⟩]
    · rw [hmd, E137]
      simp only [S137_0, S137_1, S137_2, S137_3, S137_4, S137_7, S137_10, S137_11, S137_12, S137_13, S137_14, S137_17, S137_20, S137_23, S137_26, S137_29, S137_32, S137_33, S137_34, S137_35, S137_36, S137_37, S137_40, S137_43, S137_45, Option.bind_some, Option.map_some, xpush_s, xpush_n, xcat_0, xcat_i, xcat_r, xcat_l, xcat_n, xcat_e, xir_r, Nat.reduceAdd, Nat.reduceLeDiff, Nat.zero_le, Nat.le_refl, ↓reduceIte, Dcls, n1, in_f _ _ (n := 1) (N := 1) rfl (by decide) c1]

theorem k_runs : CL 73 141 [] := by
  intro d m h hI
  obtain ⟨δ, τ1, ε, τ2, ζ, τ3, κ, n, l, ke, op, sz, B, S, b, a, s, w, X, rfl, R⟩ := hI
  have hw := R.1
  have hmo := R.2.1
  have ha1 := R.2.2.1
  have hmd := fun Z => md_of (s := s) (w := w) (Z := Z) ha1
  have n1 : ¬ (1 : Int32) = 0 := by decide
  have hr := mw_run hw
  refine combD (v := sRun δ 4 - δ 4) (D := sRun δ) (ζ' := ζ) (τ3' := τ3) (κ' := κ) (κm := a 9) R ?_ ?_ hr.1 (by rw [show sRun δ 1 = δ 1 from sRunK_n (by decide) (by decide) (by decide) 12 (by decide) δ]; exact hmo) (hr.2 7 fx7)
  · rw [E73]
    simp only [S73_0, S73_1, S73_4, S73_7, S73_8, S73_9, S73_12, S73_15, S73_16, S73_19, S73_22, S73_23, S73_24, Option.bind_some, Option.map_some, xpush_s, xpush_n, xcat_0, xcat_i, xcat_r, xcat_l, xcat_n, xcat_e, xir_r, Nat.reduceAdd, Nat.reduceLeDiff, Nat.zero_le, Nat.le_refl, ↓reduceIte, C_0, N_cls, N_g8, G_runs _ hw]
  · rw [E141]
    simp only [S141_0, S141_1, S141_4, S141_5, S141_6, S141_7, S141_8, S141_11, S141_12, S141_15, S141_16, S141_17, S141_18, S141_19, Option.bind_some, Option.map_some, xpush_s, xpush_n, xcat_0, xcat_i, xcat_r, xcat_l, xcat_n, xcat_e, xir_r, Nat.reduceAdd, Nat.reduceLeDiff, Nat.zero_le, Nat.le_refl, ↓reduceIte, Dcls, Dg, Dr, ix_4, s_runs]

theorem k_river (x : Int32) : CL 75 147 [.int x] := by
  intro d m h hI
  obtain ⟨δ, τ1, ε, τ2, ζ, τ3, κ, n, l, ke, op, sz, B, S, b, a, s, w, X, rfl, R⟩ := hI
  have hw := R.1
  have hmo := R.2.1
  have ha1 := R.2.2.1
  have hmd := fun Z => md_of (s := s) (w := w) (Z := Z) ha1
  have n1 : ¬ (1 : Int32) = 0 := by decide
  by_cases c1 : bd x 6
  · obtain ⟨j, hj, rfl⟩ := c1
    rcases (show j = 0 ∨ j = 1 ∨ j = 2 ∨ j = 3 ∨ j = 4 ∨ j = 5 ∨ j = 6 by omega) with rfl | rfl | rfl | rfl | rfl | rfl | rfl
    · skip
      have ho := fun d h => ou_f d h (v := nI 0) (n := 4) (N := 4) rfl (by decide) ⟨0, by decide, rfl⟩
      refine comb0 (v := sSum δ 0) R ?_ ?_
      · rw [E75]
        simp (config := { decide := true }) only [S75_0, S75_1, S75_28, S75_29, S75_32, S75_35, S75_36, S75_37, S75_40, S75_43, S75_44, S75_45, S75_46, S75_47, S75_50, S75_53, S75_55, S75_58, S75_59, S75_62, S75_63, S75_66, Option.bind_some, Option.map_some, xpush_s, xpush_n, xcat_0, xcat_i, xcat_r, xcat_l, xcat_n, xcat_e, xir_r, Nat.reduceAdd, Nat.reduceLeDiff, Nat.zero_le, Nat.le_refl, ↓reduceIte, C_0, N_cls, ho, G_sum _ hw (w := 0) (by decide), if_true, if_false]
      · rw [hmd, E147]
        simp (config := { decide := true }) only [S147_0, S147_1, S147_44, S147_45, S147_48, S147_49, S147_50, S147_51, S147_52, S147_55, S147_56, S147_57, S147_58, S147_59, S147_62, S147_63, S147_64, S147_67, S147_68, S147_69, S147_72, S147_73, S147_74, S147_77, S147_78, S147_79, S147_82, S147_83, S147_85, Option.bind_some, Option.map_some, xpush_s, xpush_n, xcat_0, xcat_i, xcat_r, xcat_l, xcat_n, xcat_e, xir_r, Nat.reduceAdd, Nat.reduceLeDiff, Nat.zero_le, Nat.le_refl, ↓reduceIte, Dcls, Dg, Dr, ix_4, if_true, if_false, sSum]
    · skip
      have ho := fun d h => ou_f d h (v := nI 1) (n := 4) (N := 4) rfl (by decide) ⟨1, by decide, rfl⟩
      refine comb0 (v := sSum δ 1) R ?_ ?_
      · rw [E75]
        simp (config := { decide := true }) only [S75_0, S75_1, S75_28, S75_29, S75_32, S75_35, S75_36, S75_37, S75_40, S75_43, S75_44, S75_45, S75_46, S75_47, S75_50, S75_53, S75_55, S75_58, S75_59, S75_62, S75_63, S75_66, Option.bind_some, Option.map_some, xpush_s, xpush_n, xcat_0, xcat_i, xcat_r, xcat_l, xcat_n, xcat_e, xir_r, Nat.reduceAdd, Nat.reduceLeDiff, Nat.zero_le, Nat.le_refl, ↓reduceIte, C_0, N_cls, ho, G_sum _ hw (w := 1) (by decide), if_true, if_false]
      · rw [hmd, E147]
        simp (config := { decide := true }) only [S147_0, S147_1, S147_44, S147_45, S147_48, S147_49, S147_50, S147_51, S147_52, S147_55, S147_56, S147_57, S147_58, S147_59, S147_62, S147_63, S147_64, S147_67, S147_68, S147_69, S147_72, S147_73, S147_74, S147_77, S147_78, S147_79, S147_82, S147_83, S147_85, Option.bind_some, Option.map_some, xpush_s, xpush_n, xcat_0, xcat_i, xcat_r, xcat_l, xcat_n, xcat_e, xir_r, Nat.reduceAdd, Nat.reduceLeDiff, Nat.zero_le, Nat.le_refl, ↓reduceIte, Dcls, Dg, Dr, ix_5, if_true, if_false, sSum]
    · skip
      have ho := fun d h => ou_f d h (v := nI 2) (n := 4) (N := 4) rfl (by decide) ⟨2, by decide, rfl⟩
      refine comb0 (v := sSum δ 2) R ?_ ?_
      · rw [E75]
        simp (config := { decide := true }) only [S75_0, S75_1, S75_28, S75_29, S75_32, S75_35, S75_36, S75_37, S75_40, S75_43, S75_44, S75_45, S75_46, S75_47, S75_50, S75_53, S75_55, S75_58, S75_59, S75_62, S75_63, S75_66, Option.bind_some, Option.map_some, xpush_s, xpush_n, xcat_0, xcat_i, xcat_r, xcat_l, xcat_n, xcat_e, xir_r, Nat.reduceAdd, Nat.reduceLeDiff, Nat.zero_le, Nat.le_refl, ↓reduceIte, C_0, N_cls, ho, G_sum _ hw (w := 2) (by decide), if_true, if_false]
      · rw [hmd, E147]
        simp (config := { decide := true }) only [S147_0, S147_1, S147_44, S147_45, S147_48, S147_49, S147_50, S147_51, S147_52, S147_55, S147_56, S147_57, S147_58, S147_59, S147_62, S147_63, S147_64, S147_67, S147_68, S147_69, S147_72, S147_73, S147_74, S147_77, S147_78, S147_79, S147_82, S147_83, S147_85, Option.bind_some, Option.map_some, xpush_s, xpush_n, xcat_0, xcat_i, xcat_r, xcat_l, xcat_n, xcat_e, xir_r, Nat.reduceAdd, Nat.reduceLeDiff, Nat.zero_le, Nat.le_refl, ↓reduceIte, Dcls, m_wat, if_true, if_false, sSum]
    · skip
      have ho := fun d h => ou_f d h (v := nI 3) (n := 4) (N := 4) rfl (by decide) ⟨3, by decide, rfl⟩
      refine comb0 (v := sSum δ 3) R ?_ ?_
      · rw [E75]
        simp (config := { decide := true }) only [S75_0, S75_1, S75_28, S75_29, S75_32, S75_35, S75_36, S75_37, S75_40, S75_43, S75_44, S75_45, S75_46, S75_47, S75_50, S75_53, S75_55, S75_58, S75_59, S75_62, S75_63, S75_66, Option.bind_some, Option.map_some, xpush_s, xpush_n, xcat_0, xcat_i, xcat_r, xcat_l, xcat_n, xcat_e, xir_r, Nat.reduceAdd, Nat.reduceLeDiff, Nat.zero_le, Nat.le_refl, ↓reduceIte, C_0, N_cls, ho, G_sum _ hw (w := 3) (by decide), if_true, if_false]
      · rw [hmd, E147]
        simp (config := { decide := true }) only [S147_0, S147_1, S147_44, S147_45, S147_48, S147_49, S147_50, S147_51, S147_52, S147_55, S147_56, S147_57, S147_58, S147_59, S147_62, S147_63, S147_64, S147_67, S147_68, S147_69, S147_72, S147_73, S147_74, S147_77, S147_78, S147_79, S147_82, S147_83, S147_85, Option.bind_some, Option.map_some, xpush_s, xpush_n, xcat_0, xcat_i, xcat_r, xcat_l, xcat_n, xcat_e, xir_r, Nat.reduceAdd, Nat.reduceLeDiff, Nat.zero_le, Nat.le_refl, ↓reduceIte, Dcls, m_ink _ hw, if_true, if_false, sSum]
    · skip
      have ho := fun d h => ou_f d h (v := nI 4) (n := 4) (N := 4) rfl (by decide) ⟨4, by decide, rfl⟩
      refine comb0 (v := sSum δ 4) R ?_ ?_
      · rw [E75]
        simp (config := { decide := true }) only [S75_0, S75_1, S75_28, S75_29, S75_32, S75_35, S75_36, S75_37, S75_40, S75_43, S75_44, S75_45, S75_46, S75_47, S75_50, S75_53, S75_55, S75_58, S75_59, S75_62, S75_63, S75_66, Option.bind_some, Option.map_some, xpush_s, xpush_n, xcat_0, xcat_i, xcat_r, xcat_l, xcat_n, xcat_e, xir_r, Nat.reduceAdd, Nat.reduceLeDiff, Nat.zero_le, Nat.le_refl, ↓reduceIte, C_0, N_cls, ho, G_sum _ hw (w := 4) (by decide), if_true, if_false]
      · rw [hmd, E147]
        simp (config := { decide := true }) only [S147_0, S147_1, S147_44, S147_45, S147_48, S147_49, S147_50, S147_51, S147_52, S147_55, S147_56, S147_57, S147_58, S147_59, S147_62, S147_63, S147_64, S147_67, S147_68, S147_69, S147_72, S147_73, S147_74, S147_77, S147_78, S147_79, S147_82, S147_83, S147_85, Option.bind_some, Option.map_some, xpush_s, xpush_n, xcat_0, xcat_i, xcat_r, xcat_l, xcat_n, xcat_e, xir_r, Nat.reduceAdd, Nat.reduceLeDiff, Nat.zero_le, Nat.le_refl, ↓reduceIte, Dcls, m_dry, if_true, if_false, sSum]
    · skip
      refine comb0 (v := nI (sDee δ 12)) R ?_ ?_
      · rw [E75]
        simp (config := { decide := true }) only [S75_0, S75_1, S75_28, S75_29, S75_32, S75_35, S75_36, S75_37, S75_40, S75_43, S75_44, S75_45, S75_46, S75_47, S75_50, S75_53, S75_55, S75_58, S75_59, S75_62, S75_63, S75_66, Option.bind_some, Option.map_some, xpush_s, xpush_n, xcat_0, xcat_i, xcat_r, xcat_l, xcat_n, xcat_e, xir_r, Nat.reduceAdd, Nat.reduceLeDiff, Nat.zero_le, Nat.le_refl, ↓reduceIte, C_0, N_cls, G_dee, if_true, if_false]
      · rw [hmd, E147]
        simp (config := { decide := true }) only [S147_0, S147_1, S147_44, S147_45, S147_48, S147_49, S147_50, S147_51, S147_52, S147_55, S147_56, S147_57, S147_58, S147_59, S147_62, S147_63, S147_64, S147_67, S147_68, S147_69, S147_72, S147_73, S147_74, S147_77, S147_78, S147_79, S147_82, S147_83, S147_85, Option.bind_some, Option.map_some, xpush_s, xpush_n, xcat_0, xcat_i, xcat_r, xcat_l, xcat_n, xcat_e, xir_r, Nat.reduceAdd, Nat.reduceLeDiff, Nat.zero_le, Nat.le_refl, ↓reduceIte, Dcls, m_dee, if_true, if_false]
    · skip
      obtain ⟨q, hq1, hq2⟩ := TXT_q R.2.2.2.1 (key := 0) (by decide)
      obtain ⟨κ1, e1⟩ := G_wrk (δ := δ) (τ1 := τ1) (ε := ε) (τ2 := τ2) (ζ := ζ) (τ3 := τ3) (κ := κ) (n := n) (l := l) (ke := ke) (op := op) (sz := sz) (B := B) (S := S) (b := b) (H := mh a s w X) (d + 195) hw hi_mh hq1
      obtain ⟨κ2, e2⟩ := m_wrk (s := s) (w := w) (H := cG δ τ1 ε τ2 ζ τ3 κ1 n l ke op sz B S b X) (d + 194) hw hq2 (a 9)
      refine combD (v := sWrk q δ (nn (δ 0))) (D := δ) (ζ' := ζ) (τ3' := τ3) (κ' := κ1) (κm := κ2) R ?_ ?_ hw hmo rfl
      · rw [E75]
        simp (config := { decide := true }) only [S75_0, S75_1, S75_28, S75_29, S75_32, S75_35, S75_36, S75_37, S75_40, S75_43, S75_44, S75_45, S75_46, S75_47, S75_50, S75_53, S75_55, S75_58, S75_59, S75_62, S75_63, S75_66, Option.bind_some, Option.map_some, xpush_s, xpush_n, xcat_0, xcat_i, xcat_r, xcat_l, xcat_n, xcat_e, xir_r, Nat.reduceAdd, Nat.reduceLeDiff, Nat.zero_le, Nat.le_refl, ↓reduceIte, C_0, N_cls, e1, if_true, if_false]
      · rw [E147]
        simp (config := { decide := true }) only [S147_0, S147_1, S147_44, S147_45, S147_48, S147_49, S147_50, S147_51, S147_52, S147_55, S147_56, S147_57, S147_58, S147_59, S147_62, S147_63, S147_64, S147_67, S147_68, S147_69, S147_72, S147_73, S147_74, S147_77, S147_78, S147_79, S147_82, S147_83, S147_85, Option.bind_some, Option.map_some, xpush_s, xpush_n, xcat_0, xcat_i, xcat_r, xcat_l, xcat_n, xcat_e, xir_r, Nat.reduceAdd, Nat.reduceLeDiff, Nat.zero_le, Nat.le_refl, ↓reduceIte, Dcls, e2, if_true, if_false]
  · refine comb0 (v := -1000000001) R ?_ ?_
    · have ho := fun d h => ou_t d h (v := x) (n := 4) (N := 4) rfl (by decide) (fun ⟨k, q1, q2⟩ => c1 ⟨k, by omega, q2⟩)
      rw [E75]
      simp only [S75_0, S75_1, S75_28, S75_29, S75_32, S75_35, S75_36, S75_37, S75_40, S75_43, S75_44, S75_45, S75_46, S75_47, S75_50, S75_53, S75_55, S75_58, S75_59, S75_62, S75_63, S75_66, Option.bind_some, Option.map_some, xpush_s, xpush_n, xcat_0, xcat_i, xcat_r, xcat_l, xcat_n, xcat_e, xir_r, Nat.reduceAdd, Nat.reduceLeDiff, Nat.zero_le, Nat.le_refl, ↓reduceIte, ho, n1, show ¬ x = 5 from fun q => c1 ⟨5, by decide, q⟩, show ¬ x = 6 from fun q => c1 ⟨6, by decide, q⟩]
    · rw [hmd, E147]
      simp only [S147_0, S147_1, S147_44, S147_45, S147_48, S147_49, S147_50, S147_51, S147_52, S147_55, S147_56, S147_57, S147_58, S147_59, S147_62, S147_63, S147_64, S147_67, S147_68, S147_69, S147_72, S147_73, S147_74, S147_77, S147_78, S147_79, S147_82, S147_83, S147_85, Option.bind_some, Option.map_some, xpush_s, xpush_n, xcat_0, xcat_i, xcat_r, xcat_l, xcat_n, xcat_e, xir_r, Nat.reduceAdd, Nat.reduceLeDiff, Nat.zero_le, Nat.le_refl, ↓reduceIte, show ¬ x = 0 from fun q => c1 ⟨0, by decide, q⟩, show ¬ x = 1 from fun q => c1 ⟨1, by decide, q⟩, show ¬ x = 2 from fun q => c1 ⟨2, by decide, q⟩, show ¬ x = 3 from fun q => c1 ⟨3, by decide, q⟩, show ¬ x = 4 from fun q => c1 ⟨4, by decide, q⟩, show ¬ x = 5 from fun q => c1 ⟨5, by decide, q⟩, show ¬ x = 6 from fun q => c1 ⟨6, by decide, q⟩]

