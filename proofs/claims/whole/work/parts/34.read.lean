/-! part 34: the class reads a text -/
/-- the outer things -/
def oX (H : xh) : Prop := ∃ L xs, H.2.2.2 = x_ext L xs
def xsb (i : Nat) : Nat → Int32 := fun j => (x_sb.getD i []).getD j 0
theorem oX_s {H : xh} (h : oX H) (i : Nat) (hi : i < 6) : sT H (2 + i) (12 + i) (x_sn.getD i 0) (xsb i) := by
  obtain ⟨L, xs, e⟩ := h
  unfold sT
  rw [e]
  match i, hi with
  | 0, _ => exact ⟨rfl, rfl⟩
  | 1, _ => exact ⟨rfl, rfl⟩
  | 2, _ => exact ⟨rfl, rfl⟩
  | 3, _ => exact ⟨rfl, rfl⟩
  | 4, _ => exact ⟨rfl, rfl⟩
  | 5, _ => exact ⟨rfl, rfl⟩
def nmI : Option Nat → Int32
  | none => -1
  | some i => nI (10000 + i)
def nmJ : Option Nat → Int32
  | none => -1
  | some i => nI i
theorem fst_0 (b : Int32) : fst' (xsb 3) b 4 0 = nmJ (nmx 0 b) := by
  show (if (105 : Int32) = b then nI 0 else if (119 : Int32) = b then nI 1 else if (116 : Int32) = b then nI 2 else if (110 : Int32) = b then nI 3 else -1) = nmJ (if b = 105 then some 0 else if b = 119 then some 1 else if b = 116 then some 2 else if b = 110 then some 3 else none)
  by_cases h1 : b = 105
  · rw [if_pos h1.symm, if_pos h1]; rfl
  · rw [if_neg (Ne.symm h1), if_neg h1]
    by_cases h2 : b = 119
    · rw [if_pos h2.symm, if_pos h2]; rfl
    · rw [if_neg (Ne.symm h2), if_neg h2]
      by_cases h3 : b = 116
      · rw [if_pos h3.symm, if_pos h3]; rfl
      · rw [if_neg (Ne.symm h3), if_neg h3]
        by_cases h4 : b = 110
        · rw [if_pos h4.symm, if_pos h4]; rfl
        · rw [if_neg (Ne.symm h4), if_neg h4]; rfl
theorem fst_1 (b : Int32) : fst' (xsb 4) b 2 0 = nmJ (nmx 1 b) := by
  show (if (115 : Int32) = b then nI 0 else if (102 : Int32) = b then nI 1 else -1) = nmJ (if b = 115 then some 0 else if b = 102 then some 1 else none)
  by_cases h1 : b = 115
  · rw [if_pos h1.symm, if_pos h1]; rfl
  · rw [if_neg (Ne.symm h1), if_neg h1]
    by_cases h2 : b = 102
    · rw [if_pos h2.symm, if_pos h2]; rfl
    · rw [if_neg (Ne.symm h2), if_neg h2]; rfl
theorem fst_2 (b : Int32) : fst' (xsb 5) b 2 0 = nmJ (nmx 2 b) := by
  show (if (105 : Int32) = b then nI 0 else if (116 : Int32) = b then nI 1 else -1) = nmJ (if b = 105 then some 0 else if b = 116 then some 1 else none)
  by_cases h1 : b = 105
  · rw [if_pos h1.symm, if_pos h1]; rfl
  · rw [if_neg (Ne.symm h1), if_neg h1]
    by_cases h2 : b = 116
    · rw [if_pos h2.symm, if_pos h2]; rfl
    · rw [if_neg (Ne.symm h2), if_neg h2]; rfl
theorem nmx_lt {key i : Nat} {b : Int32} (hn : nmx key b = some i) : i < 4 := by
  unfold nmx at hn
  repeat' split at hn
  all_goals (cases hn <;> decide)
section READ
variable {ke op sz : Int32} {B S : Nat → Int32} {H : xh} {k : Nat} {l : lk}
theorem r_num_l (ev : xe) (hk : k ≤ 96) (hl : okl B k l) (h2 : l.2.2.1 = 2) : ∀ j m, m + j = l.2.1 - l.1 → RF 45 ev 22 [some (.ref 29), some (.int (nI (nuv B l.1 m))), some (.int (nI (l.1 + m)))] [] (tpk k l ke op sz B S H) = some (some (.int (nI (nuv B l.1 (l.2.1 - l.1)))), tpk k l ke op sz B S H)
  | 0, m, e => by
    have e' : m = l.2.1 - l.1 := by omega
    have e2 : l.1 + m = l.2.1 := by have := hl.1; omega
    rw [← e', e2]
    have hc : nI l.2.1 ≤ nI l.2.1 := Int32.le_refl _
    unfold tpk
    rw [S45_22]
    simp only [S45_23, S45_24, S45_27, S45_30, S45_31, S45_33, S45_34, S45_35, S45_38, S45_39, S45_40, S45_41, S45_43, S45_44, S45_45, S45_48, S45_51, S45_52, Option.bind_some, Option.map_some, xpush_s, xpush_n, xcat_0, xcat_i, xcat_r, xcat_l, xcat_n, xcat_e, xir_r, Nat.reduceAdd, Nat.reduceLeDiff, Nat.zero_le, Nat.le_refl, ↓reduceIte, Tg_3, hc]
  | j + 1, m, e => by
    have h1 := hl.1
    have h3 := hl.2.1
    have hc : ¬ nI l.2.1 ≤ nI (l.1 + m) := nI_ge (by omega) (by omega)
    have hx := xix_n (show l.1 + m < 96 by omega) (by omega)
    have ih := r_num_l ev hk hl h2 j (m + 1) (by omega)
    have hw := hl.2.2.2.2.2.2.1 (by rw [h2]; rfl) (l.1 + m) (by omega) (by omega)
    rw [h2] at hw
    obtain ⟨c, c1, c2, ec⟩ := nn_ty2 hw
    have ev' : nI (nuv B l.1 m) * 10 + B (l.1 + m) - 48 = nI (nuv B l.1 (m + 1)) := by
      rw [show nuv B l.1 (m + 1) = 10 * nuv B l.1 m + (nn (B (l.1 + m)) - 48) from rfl, ec, nn_nI (by omega), show (10 : Int32) = nI 10 from rfl, show (48 : Int32) = nI 48 from rfl, pk_mul, nI_add, pk_sub (by omega)]
      congr 1
      omega
    unfold tpk at ih ⊢
    rw [S45_22]
    simp only [S45_23, S45_24, S45_27, S45_30, S45_31, S45_33, S45_34, S45_35, S45_38, S45_39, S45_40, S45_41, S45_43, S45_44, S45_45, S45_48, S45_51, S45_52, Option.bind_some, Option.map_some, xpush_s, xpush_n, xcat_0, xcat_i, xcat_r, xcat_l, xcat_n, xcat_e, xir_r, Nat.reduceAdd, Nat.reduceLeDiff, Nat.zero_le, Nat.le_refl, ↓reduceIte, Tg_0, Tg_3, Tr_B, hc, hx, ev', nI_1, Nat.add_assoc]
    exact ih
theorem r_number (d : Nat) (hk : k ≤ 96) (hl : okl B k l) (h2 : l.2.2.1 = 2) : Ev (d + 1) 45 [.ref 29] (tpk k l ke op sz B S H) = some (some (.int (if 4 < l.2.1 - l.1 then -1 else nI (nuv B l.1 (l.2.1 - l.1)))), tpk k l ke op sz B S H) := by
  have h1 := hl.1
  have h3 := hl.2.1
  have ih := r_num_l (ke := ke) (op := op) (sz := sz) (S := S) (H := H) (Ev d) hk hl h2 (l.2.1 - l.1) 0 (by omega)
  have es : nI l.2.1 - nI l.1 = nI (l.2.1 - l.1) := pk_sub h1
  rw [Nat.add_zero] at ih
  rw [E45]
  unfold tpk at ih ⊢
  by_cases h : 4 < l.2.1 - l.1
  · have hc : ¬ nI (l.2.1 - l.1) ≤ 4 := nI_ge (a := 4) h (by omega)
    rw [if_pos h]
    simp only [S45_0, S45_1, S45_4, S45_5, S45_8, S45_9, S45_10, S45_13, S45_14, S45_15, S45_16, S45_17, S45_18, S45_21, Option.bind_some, Option.map_some, xpush_s, xpush_n, xcat_0, xcat_i, xcat_r, xcat_l, xcat_n, xcat_e, xir_r, Nat.reduceAdd, Nat.reduceLeDiff, Nat.zero_le, Nat.le_refl, ↓reduceIte, Tg_2, Tg_3, es, hc]
  · have hc : nI (l.2.1 - l.1) ≤ 4 := nI_le (b := 4) (by omega) (by decide)
    rw [if_neg h]
    simp only [S45_0, S45_1, S45_4, S45_5, S45_8, S45_9, S45_10, S45_13, S45_14, S45_15, S45_16, S45_17, S45_18, S45_21, Option.bind_some, Option.map_some, xpush_s, xpush_n, xcat_0, xcat_i, xcat_r, xcat_l, xcat_n, xcat_e, xir_r, Nat.reduceAdd, Nat.reduceLeDiff, Nat.zero_le, Nat.le_refl, ↓reduceIte, Tg_2, Tg_3, es, hc]
    exact ih
theorem r_name_x (d : Nat) {key e : Nat} (hk : k ≤ 96) (hl : okl B k l) (h1 : l.2.2.1 = 1) {v n : Nat} {f : Nat → Int32} (t : sT H e v n f) (hn0 : 0 < n) (hn : n ≤ 100) (hf : ∀ b, fst' f b n 0 = nmJ (nmx key b)) {l2 : Option Value} : RF 46 (Ev (d + 4)) 27 [some (.ref 29), none, l2] [.retAddr e] (tpk k l ke op sz B S H) = some (some (.int (nmI (if l.2.1 - l.1 = 1 then nmx key (B l.1) else none))), tpk k l ke op sz B S H) := by
  have es : nI l.2.1 - nI l.1 = nI (l.2.1 - l.1) := pk_sub hl.1
  have hl1 := hl.1
  have hl2 := hl.2.1
  have hlt := okl_in hl (by omega)
  have t' : sT (tpk k l ke op sz B S H) e v n f := t
  have hw := hl.2.2.2.2.2.2.1 (by rw [h1]; rfl) l.1 (Nat.le_refl _) (hl.2.2.2.1 (by omega))
  rw [h1] at hw
  obtain ⟨c, c1, c2, ec⟩ := nn_ty1 hw
  have hx := xix_n (show l.1 < 96 by omega) (show 96 ≤ 100000 by decide)
  have hio := t_indexOf d t' hn0 hn (q := c) (by omega)
  have hcl := sT_cls t'
  have hcn := (ch_n c (by omega)).2.1
  rw [hf] at hio
  unfold tpk at hio hcl ⊢
  by_cases h : l.2.1 - l.1 = 1
  · rw [if_pos h, ec]
    rw [h] at es
    cases hm : nmx key (nI c) with
    | none =>
      rw [hm] at hio
      simp only [S46_27, S46_28, S46_29, S46_32, S46_33, S46_36, S46_37, S46_38, S46_41, S46_42, S46_43, S46_46, S46_47, S46_50, S46_51, S46_52, S46_55, S46_58, S46_59, S46_60, S46_61, S46_64, S46_65, S46_68, S46_71, S46_72, S46_73, Option.bind_some, Option.map_some, xpush_s, xpush_n, xcat_0, xcat_i, xcat_r, xcat_l, xcat_n, xcat_e, xir_r, Nat.reduceAdd, Nat.reduceLeDiff, Nat.zero_le, Nat.le_refl, ↓reduceIte, xir_e, Tg_0, Tg_2, Tg_3, es, show (nI 1 = 1) = True from eq_true rfl, Tr_B, hx, ec, hcn, hcl, hio, nmJ, nmI, show ¬ (0 : Int32) ≤ -1 by decide]
    | some i =>
      rw [hm] at hio
      have h4 := nmx_lt hm
      have hge : 0 ≤ nI i := nI_pos' (by omega)
      simp only [S46_27, S46_28, S46_29, S46_32, S46_33, S46_36, S46_37, S46_38, S46_41, S46_42, S46_43, S46_46, S46_47, S46_50, S46_51, S46_52, S46_55, S46_58, S46_59, S46_60, S46_61, S46_64, S46_65, S46_68, S46_71, S46_72, S46_73, Option.bind_some, Option.map_some, xpush_s, xpush_n, xcat_0, xcat_i, xcat_r, xcat_l, xcat_n, xcat_e, xir_r, Nat.reduceAdd, Nat.reduceLeDiff, Nat.zero_le, Nat.le_refl, ↓reduceIte, xir_e, Tg_0, Tg_2, Tg_3, es, show (nI 1 = 1) = True from eq_true rfl, Tr_B, hx, ec, hcn, hcl, hio, nmJ, nmI, hge, show (10000 : Int32) = nI 10000 from rfl, nI_add]
  · have h' : ¬ nI (l.2.1 - l.1) = 1 := fun q => h ((nI_eq (b := 1) (by omega) (by decide)).mp q)
    rw [if_neg h]
    simp only [S46_27, S46_28, S46_29, S46_32, S46_33, S46_36, S46_37, S46_38, S46_41, S46_42, S46_43, S46_46, S46_47, S46_50, S46_51, S46_52, S46_55, S46_58, S46_59, S46_60, S46_61, S46_64, S46_65, S46_68, S46_71, S46_72, S46_73, Option.bind_some, Option.map_some, xpush_s, xpush_n, xcat_0, xcat_i, xcat_r, xcat_l, xcat_n, xcat_e, xir_r, Nat.reduceAdd, Nat.reduceLeDiff, Nat.zero_le, Nat.le_refl, ↓reduceIte, xir_e, Tg_0, Tg_2, Tg_3, es, if_neg h', nmI, show ¬ (0 : Int32) ≤ -1 by decide]
theorem r_name (d : Nat) {key : Nat} (hkey : key ≤ 2) (hX : oX H) (hk : k ≤ 96) (hl : okl B k l) (h1 : l.2.2.1 = 1) : Ev (d + 5) 46 [.ref 29] (tpk k l (nI key) op sz B S H) = some (some (.int (nmI (if l.2.1 - l.1 = 1 then nmx key (B l.1) else none))), tpk k l (nI key) op sz B S H) := by
  rw [E46]
  match key, hkey with
  | 0, _ =>
    have hr := r_name_x (ke := nI 0) (op := op) (sz := sz) (S := S) (key := 0) d hk hl h1 (oX_s hX 3 (by decide)) (by decide) (by decide) fst_0 (l2 := none)
    unfold tpk at hr ⊢
    simp only [S46_0, S46_1, S46_4, S46_7, S46_9, S46_12, S46_13, S46_16, S46_17, S46_20, S46_22, S46_25, Option.bind_some, Option.map_some, xpush_s, xpush_n, xcat_0, xcat_i, xcat_r, xcat_l, xcat_n, xcat_e, xir_r, Nat.reduceAdd, Nat.reduceLeDiff, Nat.zero_le, Nat.le_refl, ↓reduceIte, Tg_6, show (nI 0 = 0) = True from eq_true rfl]
    exact hr
  | 1, _ =>
    have hr := r_name_x (ke := nI 1) (op := op) (sz := sz) (S := S) (key := 1) d hk hl h1 (oX_s hX 4 (by decide)) (by decide) (by decide) fst_1 (l2 := none)
    unfold tpk at hr ⊢
    simp only [S46_0, S46_1, S46_4, S46_7, S46_9, S46_12, S46_13, S46_16, S46_17, S46_20, S46_22, S46_25, Option.bind_some, Option.map_some, xpush_s, xpush_n, xcat_0, xcat_i, xcat_r, xcat_l, xcat_n, xcat_e, xir_r, Nat.reduceAdd, Nat.reduceLeDiff, Nat.zero_le, Nat.le_refl, ↓reduceIte, Tg_6, show ¬ nI 1 = 0 by decide, show (nI 1 = 1) = True from eq_true rfl]
    exact hr
  | 2, _ =>
    have hr := r_name_x (ke := nI 2) (op := op) (sz := sz) (S := S) (key := 2) d hk hl h1 (oX_s hX 5 (by decide)) (by decide) (by decide) fst_2 (l2 := none)
    unfold tpk at hr ⊢
    simp only [S46_0, S46_1, S46_4, S46_7, S46_9, S46_12, S46_13, S46_16, S46_17, S46_20, S46_22, S46_25, Option.bind_some, Option.map_some, xpush_s, xpush_n, xcat_0, xcat_i, xcat_r, xcat_l, xcat_n, xcat_e, xir_r, Nat.reduceAdd, Nat.reduceLeDiff, Nat.zero_le, Nat.le_refl, ↓reduceIte, Tg_6, show ¬ nI 2 = 0 by decide, show ¬ nI 2 = 1 by decide]
    exact hr
/-- an operand's step, as the class finds it -/
theorem opr_step {B : Nat → Int32} {key : Nat} {l : lk} : opr B key l = if l.2.2.2 = true then none else if l.2.2.1 = 2 then (if 4 < l.2.1 - l.1 then none else some (nuv B l.1 (l.2.1 - l.1))) else (if l.2.1 - l.1 = 1 then nmx key (B l.1) else none).map (fun i => 10000 + i) := by
  unfold opr
  split
  · rfl
  · split
    · rfl
    · split
      · rfl
      · rfl
theorem r_operand_f (d : Nat) {key : Nat} (hkey : key ≤ 2) (hX : oX H) (hk : k ≤ 96) (hl : okl B k l) (hW : isW l.2.2.1 = true) (ho : opr B key l = none) : Ev (d + 6) 44 [.ref 29] (tpk k l (nI key) op sz B S H) = some (some (.int 0), tpk k l (nI key) op sz B S H) := by
  rw [opr_step] at ho
  rw [E44]
  have hcls : (xcls (tpk k l (nI key) op sz B S H) (.ref 29) = 3) = True := Tcls
  have hg4 : hgf (tpk k l (nI key) op sz B S H) (.ref 29) 3 4 = some (.int (nI l.2.2.1)) := Tg_4
  have hg5 : hgf (tpk k l (nI key) op sz B S H) (.ref 29) 3 5 = some (.int (bi (l.2.2.2 = true))) := Tg_5
  have n1 : ¬ (0 : Int32) ≤ -1 := by decide
  rcases (isW_i _).mp hW with h1 | h2
  · have hg4' := hg4
    rw [h1] at hg4'
    rw [if_neg (show ¬ l.2.2.1 = 2 by omega)] at ho
    have hr := r_name (op := op) (sz := sz) (S := S) d hkey hX hk hl h1
    by_cases hb : l.2.2.2 = true
    · simp only [S44_0, S44_1, S44_4, S44_5, S44_8, S44_9, S44_12, S44_15, S44_16, S44_19, S44_20, S44_21, S44_24, S44_27, S44_28, S44_31, S44_32, S44_33, S44_34, S44_35, S44_38, S44_39, S44_40, S44_43, S44_44, S44_45, S44_48, S44_49, S44_52, S44_53, Option.bind_some, Option.map_some, xpush_s, xpush_n, xcat_0, xcat_i, xcat_r, xcat_l, xcat_n, xcat_e, xir_r, Nat.reduceAdd, Nat.reduceLeDiff, Nat.zero_le, Nat.le_refl, ↓reduceIte, hcls, hg4', show ¬ nI 1 = 2 by decide, hr, hg5, bi_t hb, show ¬ (1 : Int32) = 0 by decide, nar_0]
    · rw [if_neg hb] at ho
      have hn : (if l.2.1 - l.1 = 1 then nmx key (B l.1) else none) = none := by
        cases hq : (if l.2.1 - l.1 = 1 then nmx key (B l.1) else none) with
        | none => rfl
        | some i => rw [hq] at ho; cases ho
      rw [hn] at hr
      simp only [S44_0, S44_1, S44_4, S44_5, S44_8, S44_9, S44_12, S44_15, S44_16, S44_19, S44_20, S44_21, S44_24, S44_27, S44_28, S44_31, S44_32, S44_33, S44_34, S44_35, S44_38, S44_39, S44_40, S44_43, S44_44, S44_45, S44_48, S44_49, S44_52, S44_53, Option.bind_some, Option.map_some, xpush_s, xpush_n, xcat_0, xcat_i, xcat_r, xcat_l, xcat_n, xcat_e, xir_r, Nat.reduceAdd, Nat.reduceLeDiff, Nat.zero_le, Nat.le_refl, ↓reduceIte, hcls, hg4', show ¬ nI 1 = 2 by decide, hr, hg5, bi_f hb, nmI, n1, nar_0]
  · have hg4' := hg4
    rw [h2] at hg4'
    rw [if_pos h2] at ho
    have hr := r_number (ke := nI key) (op := op) (sz := sz) (S := S) (H := H) (d + 4) hk hl h2
    by_cases hb : l.2.2.2 = true
    · simp only [S44_0, S44_1, S44_4, S44_5, S44_8, S44_9, S44_12, S44_15, S44_16, S44_19, S44_20, S44_21, S44_24, S44_27, S44_28, S44_31, S44_32, S44_33, S44_34, S44_35, S44_38, S44_39, S44_40, S44_43, S44_44, S44_45, S44_48, S44_49, S44_52, S44_53, Option.bind_some, Option.map_some, xpush_s, xpush_n, xcat_0, xcat_i, xcat_r, xcat_l, xcat_n, xcat_e, xir_r, Nat.reduceAdd, Nat.reduceLeDiff, Nat.zero_le, Nat.le_refl, ↓reduceIte, hcls, hg4', show (nI 2 = 2) = True from eq_true rfl, hr, hg5, bi_t hb, show ¬ (1 : Int32) = 0 by decide, nar_0]
    · rw [if_neg hb] at ho
      have h4 : 4 < l.2.1 - l.1 := by
        rcases Nat.lt_or_ge 4 (l.2.1 - l.1) with h | h
        · exact h
        · rw [if_neg (by omega)] at ho; cases ho
      rw [if_pos h4] at hr
      simp only [S44_0, S44_1, S44_4, S44_5, S44_8, S44_9, S44_12, S44_15, S44_16, S44_19, S44_20, S44_21, S44_24, S44_27, S44_28, S44_31, S44_32, S44_33, S44_34, S44_35, S44_38, S44_39, S44_40, S44_43, S44_44, S44_45, S44_48, S44_49, S44_52, S44_53, Option.bind_some, Option.map_some, xpush_s, xpush_n, xcat_0, xcat_i, xcat_r, xcat_l, xcat_n, xcat_e, xir_r, Nat.reduceAdd, Nat.reduceLeDiff, Nat.zero_le, Nat.le_refl, ↓reduceIte, hcls, hg4', show (nI 2 = 2) = True from eq_true rfl, hr, hg5, bi_f hb, n1, nar_0]
theorem r_operand_t (d : Nat) {key c z : Nat} {o : Nat} (hkey : key ≤ 2) (hX : oX H) (hk : k ≤ 96) (hl : okl B k l) (hW : isW l.2.2.1 = true) (ho : opr B key l = some c) (hz : z < 96) : Ev (d + 6) 44 [.ref 29] (tpk k l (nI key) (nI o) (nI z) B S H) = some (some (.int 1), tpk k (nxk B k l) (nI key) (nI (o + 1)) (nI (z + 1)) B (upd S z (nI c)) H) := by
  have hc := opr_lt hl ho
  rw [opr_step] at ho
  rw [E44]
  have hcls : (xcls (tpk k l (nI key) (nI o) (nI z) B S H) (.ref 29) = 3) = True := Tcls
  have hg4 : hgf (tpk k l (nI key) (nI o) (nI z) B S H) (.ref 29) 3 4 = some (.int (nI l.2.2.1)) := Tg_4
  have hg5 : hgf (tpk k l (nI key) (nI o) (nI z) B S H) (.ref 29) 3 5 = some (.int (bi (l.2.2.2 = true))) := Tg_5
  have hlk := r_look (ke := nI key) (op := nI (o + 1)) (sz := nI (z + 1)) (B := B) (S := upd S z (nI c)) (H := H) (d + 3) hk hl.2.1 (by rw [hl.2.2.1]; exact tya_le _ _ _)
  have has : Ev (d + 5) 47 [.ref 29, .int (nI c)] (tpk k l (nI key) (nI o) (nI z) B S H) = some (none, tpk k l (nI key) (nI o) (nI (z + 1)) B (upd S z (nI c)) H) := r_addStep (d + 4) hz _
  have hg7 : hgf (tpk k l (nI key) (nI o) (nI (z + 1)) B (upd S z (nI c)) H) (.ref 29) 3 7 = some (.int (nI o)) := Tg_7
  have hp7 : hpf (tpk k l (nI key) (nI o) (nI (z + 1)) B (upd S z (nI c)) H) (.ref 29) 3 7 (.int (nI (o + 1))) = some (tpk k l (nI key) (nI (o + 1)) (nI (z + 1)) B (upd S z (nI c)) H) := Tp_7 _
  have hcls2 : (xcls (tpk k l (nI key) (nI (o + 1)) (nI (z + 1)) B (upd S z (nI c)) H) (.ref 29) = 3) = True := Tcls
  have hge : (0 : Int32) ≤ nI c := nI_pos' (by omega)
  by_cases hb : l.2.2.2 = true
  · rw [if_pos hb] at ho; cases ho
  rw [if_neg hb] at ho
  rcases (isW_i _).mp hW with h1 | h2
  · have hg4' := hg4
    rw [h1] at hg4'
    rw [if_neg (show ¬ l.2.2.1 = 2 by omega)] at ho
    have hr := r_name (op := nI o) (sz := nI z) (S := S) d hkey hX hk hl h1
    cases hq : (if l.2.1 - l.1 = 1 then nmx key (B l.1) else none) with
    | none => rw [hq] at ho; cases ho
    | some i =>
      rw [hq] at ho hr
      have ho : 10000 + i = c := by injection ho
      rw [show nmI (some i) = nI (10000 + i) from rfl, ho] at hr
      simp only [S44_0, S44_1, S44_4, S44_5, S44_8, S44_9, S44_12, S44_15, S44_16, S44_19, S44_20, S44_21, S44_24, S44_27, S44_28, S44_31, S44_32, S44_33, S44_34, S44_35, S44_38, S44_39, S44_40, S44_43, S44_44, S44_45, S44_48, S44_49, S44_52, S44_53, Option.bind_some, Option.map_some, xpush_s, xpush_n, xcat_0, xcat_i, xcat_r, xcat_l, xcat_n, xcat_e, xir_r, Nat.reduceAdd, Nat.reduceLeDiff, Nat.zero_le, Nat.le_refl, ↓reduceIte, hcls, hg4', show ¬ nI 1 = 2 by decide, hr, hg5, bi_f hb, hge, has, hg7, cat_r, nI_1, hp7, hcls2, hlk, nar_1]
  · have hg4' := hg4
    rw [h2] at hg4'
    rw [if_pos h2] at ho
    have hr := r_number (ke := nI key) (op := nI o) (sz := nI z) (S := S) (H := H) (d + 4) hk hl h2
    by_cases h4 : 4 < l.2.1 - l.1
    · rw [if_pos h4] at ho; cases ho
    · rw [if_neg h4] at ho hr
      have ho : nuv B l.1 (l.2.1 - l.1) = c := by injection ho
      rw [ho] at hr
      simp only [S44_0, S44_1, S44_4, S44_5, S44_8, S44_9, S44_12, S44_15, S44_16, S44_19, S44_20, S44_21, S44_24, S44_27, S44_28, S44_31, S44_32, S44_33, S44_34, S44_35, S44_38, S44_39, S44_40, S44_43, S44_44, S44_45, S44_48, S44_49, S44_52, S44_53, Option.bind_some, Option.map_some, xpush_s, xpush_n, xcat_0, xcat_i, xcat_r, xcat_l, xcat_n, xcat_e, xir_r, Nat.reduceAdd, Nat.reduceLeDiff, Nat.zero_le, Nat.le_refl, ↓reduceIte, hcls, hg4', show (nI 2 = 2) = True from eq_true rfl, hr, hg5, bi_f hb, hge, has, hg7, cat_r, nI_1, hp7, hcls2, hlk, nar_1]
end READ
theorem r_joins_t (d : Nat) {lv : Nat} (hlv : lv < 5) {x : Int32} (h : xh) (hj : jnz lv x) : Ev (d + 1) 49 [.int (nI lv), .int x] h = some (some (.int 1), h) := by
  rw [E49]
  unfold jnz at hj
  match lv, hlv with
  | 0, _ =>
    rw [if_pos rfl] at hj
    subst hj
    rw [show nI 0 = 0 from rfl]
    simp (config := { decide := true }) only [S49_0, S49_1, S49_32, S49_33, S49_35, S49_38, S49_39, S49_42, S49_43, S49_44, S49_45, S49_47, S49_50, S49_51, S49_54, S49_55, S49_56, S49_57, S49_59, S49_62, S49_63, S49_65, S49_68, S49_69, S49_71, S49_74, S49_75, S49_78, S49_79, S49_80, S49_81, S49_83, S49_86, S49_87, S49_89, S49_92, S49_93, S49_96, S49_97, S49_98, S49_99, S49_101, S49_104, S49_105, S49_107, S49_110, S49_111, S49_114, S49_115, if_true, if_false, nar_1]
  | 1, _ =>
    rw [if_neg (by decide), if_pos rfl] at hj
    subst hj
    rw [show nI 1 = 1 from rfl]
    simp (config := { decide := true }) only [S49_0, S49_1, S49_32, S49_33, S49_35, S49_38, S49_39, S49_42, S49_43, S49_44, S49_45, S49_47, S49_50, S49_51, S49_54, S49_55, S49_56, S49_57, S49_59, S49_62, S49_63, S49_65, S49_68, S49_69, S49_71, S49_74, S49_75, S49_78, S49_79, S49_80, S49_81, S49_83, S49_86, S49_87, S49_89, S49_92, S49_93, S49_96, S49_97, S49_98, S49_99, S49_101, S49_104, S49_105, S49_107, S49_110, S49_111, S49_114, S49_115, if_true, if_false, nar_1]
  | 2, _ =>
    rw [if_neg (by decide), if_neg (by decide), if_pos rfl] at hj
    rw [show nI 2 = 2 from rfl]
    rcases hj with hj | hj | hj <;> subst hj <;> simp (config := { decide := true }) only [S49_0, S49_1, S49_32, S49_33, S49_35, S49_38, S49_39, S49_42, S49_43, S49_44, S49_45, S49_47, S49_50, S49_51, S49_54, S49_55, S49_56, S49_57, S49_59, S49_62, S49_63, S49_65, S49_68, S49_69, S49_71, S49_74, S49_75, S49_78, S49_79, S49_80, S49_81, S49_83, S49_86, S49_87, S49_89, S49_92, S49_93, S49_96, S49_97, S49_98, S49_99, S49_101, S49_104, S49_105, S49_107, S49_110, S49_111, S49_114, S49_115, if_true, if_false, nar_1]
  | 3, _ =>
    rw [if_neg (by decide), if_neg (by decide), if_neg (by decide), if_pos rfl] at hj
    rw [show nI 3 = 3 from rfl]
    rcases hj with hj | hj <;> subst hj <;> simp (config := { decide := true }) only [S49_0, S49_1, S49_32, S49_33, S49_35, S49_38, S49_39, S49_42, S49_43, S49_44, S49_45, S49_47, S49_50, S49_51, S49_54, S49_55, S49_56, S49_57, S49_59, S49_62, S49_63, S49_65, S49_68, S49_69, S49_71, S49_74, S49_75, S49_78, S49_79, S49_80, S49_81, S49_83, S49_86, S49_87, S49_89, S49_92, S49_93, S49_96, S49_97, S49_98, S49_99, S49_101, S49_104, S49_105, S49_107, S49_110, S49_111, S49_114, S49_115, if_true, if_false, nar_1]
  | 4, _ =>
    rw [if_neg (by decide), if_neg (by decide), if_neg (by decide), if_neg (by decide)] at hj
    rw [show nI 4 = 4 from rfl]
    rcases hj with hj | hj <;> subst hj <;> simp (config := { decide := true }) only [S49_0, S49_1, S49_32, S49_33, S49_35, S49_38, S49_39, S49_42, S49_43, S49_44, S49_45, S49_47, S49_50, S49_51, S49_54, S49_55, S49_56, S49_57, S49_59, S49_62, S49_63, S49_65, S49_68, S49_69, S49_71, S49_74, S49_75, S49_78, S49_79, S49_80, S49_81, S49_83, S49_86, S49_87, S49_89, S49_92, S49_93, S49_96, S49_97, S49_98, S49_99, S49_101, S49_104, S49_105, S49_107, S49_110, S49_111, S49_114, S49_115, if_true, if_false, nar_1]
theorem r_joins_f (d : Nat) {lv : Nat} (hlv : lv < 5) {x : Int32} (h : xh) (hj : ¬ jnz lv x) : Ev (d + 1) 49 [.int (nI lv), .int x] h = some (some (.int 0), h) := by
  rw [E49]
  unfold jnz at hj
  match lv, hlv with
  | 0, _ =>
    rw [if_pos rfl] at hj
    rw [show nI 0 = 0 from rfl]
    simp (config := { decide := true }) only [S49_0, S49_1, S49_32, S49_33, S49_35, S49_38, S49_39, S49_42, S49_43, S49_44, S49_45, S49_47, S49_50, S49_51, S49_54, S49_55, S49_56, S49_57, S49_59, S49_62, S49_63, S49_65, S49_68, S49_69, S49_71, S49_74, S49_75, S49_78, S49_79, S49_80, S49_81, S49_83, S49_86, S49_87, S49_89, S49_92, S49_93, S49_96, S49_97, S49_98, S49_99, S49_101, S49_104, S49_105, S49_107, S49_110, S49_111, S49_114, S49_115, if_true, if_false, if_neg hj, nar_0]
  | 1, _ =>
    rw [if_neg (by decide), if_pos rfl] at hj
    rw [show nI 1 = 1 from rfl]
    simp (config := { decide := true }) only [S49_0, S49_1, S49_32, S49_33, S49_35, S49_38, S49_39, S49_42, S49_43, S49_44, S49_45, S49_47, S49_50, S49_51, S49_54, S49_55, S49_56, S49_57, S49_59, S49_62, S49_63, S49_65, S49_68, S49_69, S49_71, S49_74, S49_75, S49_78, S49_79, S49_80, S49_81, S49_83, S49_86, S49_87, S49_89, S49_92, S49_93, S49_96, S49_97, S49_98, S49_99, S49_101, S49_104, S49_105, S49_107, S49_110, S49_111, S49_114, S49_115, if_true, if_false, if_neg hj, nar_0]
  | 2, _ =>
    rw [if_neg (by decide), if_neg (by decide), if_pos rfl] at hj
    rw [show nI 2 = 2 from rfl]
    simp (config := { decide := true }) only [S49_0, S49_1, S49_32, S49_33, S49_35, S49_38, S49_39, S49_42, S49_43, S49_44, S49_45, S49_47, S49_50, S49_51, S49_54, S49_55, S49_56, S49_57, S49_59, S49_62, S49_63, S49_65, S49_68, S49_69, S49_71, S49_74, S49_75, S49_78, S49_79, S49_80, S49_81, S49_83, S49_86, S49_87, S49_89, S49_92, S49_93, S49_96, S49_97, S49_98, S49_99, S49_101, S49_104, S49_105, S49_107, S49_110, S49_111, S49_114, S49_115, if_true, if_false, if_neg (fun q => hj (Or.inl q)), if_neg (fun q => hj (Or.inr (Or.inl q))), if_neg (fun q => hj (Or.inr (Or.inr q))), nar_0]
  | 3, _ =>
    rw [if_neg (by decide), if_neg (by decide), if_neg (by decide), if_pos rfl] at hj
    rw [show nI 3 = 3 from rfl]
    simp (config := { decide := true }) only [S49_0, S49_1, S49_32, S49_33, S49_35, S49_38, S49_39, S49_42, S49_43, S49_44, S49_45, S49_47, S49_50, S49_51, S49_54, S49_55, S49_56, S49_57, S49_59, S49_62, S49_63, S49_65, S49_68, S49_69, S49_71, S49_74, S49_75, S49_78, S49_79, S49_80, S49_81, S49_83, S49_86, S49_87, S49_89, S49_92, S49_93, S49_96, S49_97, S49_98, S49_99, S49_101, S49_104, S49_105, S49_107, S49_110, S49_111, S49_114, S49_115, if_true, if_false, if_neg (fun q => hj (Or.inl q)), if_neg (fun q => hj (Or.inr q)), nar_0]
  | 4, _ =>
    rw [if_neg (by decide), if_neg (by decide), if_neg (by decide), if_neg (by decide)] at hj
    rw [show nI 4 = 4 from rfl]
    simp (config := { decide := true }) only [S49_0, S49_1, S49_32, S49_33, S49_35, S49_38, S49_39, S49_42, S49_43, S49_44, S49_45, S49_47, S49_50, S49_51, S49_54, S49_55, S49_56, S49_57, S49_59, S49_62, S49_63, S49_65, S49_68, S49_69, S49_71, S49_74, S49_75, S49_78, S49_79, S49_80, S49_81, S49_83, S49_86, S49_87, S49_89, S49_92, S49_93, S49_96, S49_97, S49_98, S49_99, S49_101, S49_104, S49_105, S49_107, S49_110, S49_111, S49_114, S49_115, if_true, if_false, if_neg (fun q => hj (Or.inl q)), if_neg (fun q => hj (Or.inr q)), nar_0]
