/-! part 38: the reference's next -/
theorem l_le (x y : Int32) : (x.toInt64 ≤ y.toInt64) = (x ≤ y) := propext (by rw [Int64.le_iff_toInt_le, Int32.le_iff_toInt_le, Int32.toInt_toInt64, Int32.toInt_toInt64])
theorem l_eq (x y : Int32) : (x.toInt64 = y.toInt64) = (x = y) := propext (by rw [← Int64.toInt_inj, ← Int32.toInt_inj, Int32.toInt_toInt64, Int32.toInt_toInt64])
/-- the token, the value of what is looked at -/
def tkn (l : lk) : Nat := if l.2.2.2 = true then 4 else l.2.2.1
def vL (B : Nat → Int32) (s m : Nat) : Int64 := if m ≤ 9 then lN (hsv B s m) else -1
def vD (B : Nat → Int32) (s m : Nat) : Int64 := if m ≤ 4 then lN (nuv B s m) else 10000
def vlu (B : Nat → Int32) (l : lk) : Int64 := if l.2.2.1 = 0 then 0 else if l.2.2.1 = 1 then vL B l.1 (l.2.1 - l.1) else if l.2.2.1 = 2 then vD B l.1 (l.2.1 - l.1) else (B l.1).toInt64
/-- the place behind the last word -/
def bwk (k : Nat) (l : lk) (b : Nat) : Prop := l.2.1 ≤ k ∧ l.2.2.1 ≤ 3 ∧ (isW l.2.2.1 = true → b = l.2.1 ∧ 0 < l.2.1) ∧ (l.2.2.1 = 3 → b < l.2.1 ∨ b = 0) ∧ (l.2.2.1 = 0 → l.2.1 = k) ∧ b ≤ k
theorem bwk_nxk {B : Nat → Int32} {k : Nat} {l : lk} {b : Nat} (h : bwk k l b) : bwk k (nxk B k l) (if isW (nT B k l) = true then nP B k l else b) := by
  have hl : okl B k (nxk B k l) := okl_nxk h.1
  have hs := nS_le (B := B) h.1
  obtain ⟨h1, h2, h3, h4, h5, h6⟩ := h
  refine ⟨hl.2.1, tya_le _ _ _, fun hW => ?_, fun h3' => ?_, fun h0 => ?_, ?_⟩
  · have hW : isW (nT B k l) = true := hW
    rw [if_pos hW]
    have := hl.2.2.2.1 (by intro e; rw [show (nxk B k l).2.2.1 = nT B k l from rfl] at e; rw [e] at hW; cases hW)
    exact ⟨rfl, by omega⟩
  · have h3' : nT B k l = 3 := h3'
    rw [h3', if_neg (by decide)]
    have e : (nxk B k l).2.1 = nS B k l + 1 := hl.2.2.2.2.2.1 h3'
    rw [e]
    rcases Nat.lt_or_ge b (nS B k l + 1) with q | q
    · exact Or.inl q
    · exfalso
      have hn : nS B k l < k := by
        rcases Nat.lt_or_ge (nS B k l) k with z | z
        · exact z
        · have : nT B k l = 0 := if_neg (by omega)
          omega
      by_cases hW : isW l.2.2.1 = true
      · have := h3 hW; omega
      · by_cases t3 : l.2.2.1 = 3
        · have := h4 t3; omega
        · have t0 : l.2.2.1 = 0 := by
            have := mt (isW_i l.2.2.1).mpr hW
            omega
          have := h5 t0
          omega
  · have := hl.2.2.2.2.1 h0
    have := hl.1
    have := hl.2.1
    omega
  · split
    · exact hl.2.1
    · exact h6
theorem bw_4 {B : Nat → Int32} {k : Nat} {l : lk} {b : Nat} (h : bwk k l b) (hW : isW (nT B k l) = true) : (0 < nS B k l ∧ nS B k l = b) ↔ nB B k l = true := by
  have hs := nS_le (B := B) h.1
  obtain ⟨h1, h2, h3, h4, h5, h6⟩ := h
  unfold nB
  rw [hW]
  by_cases w : isW l.2.2.1 = true
  · have := h3 w
    rw [w]
    simp only [Bool.true_and, decide_eq_true_eq]
    omega
  · have w' : isW l.2.2.1 = false := by simpa using w
    rw [w']
    simp only [Bool.false_and]
    constructor
    · intro q
      exfalso
      by_cases t3 : l.2.2.1 = 3
      · have := h4 t3; omega
      · have t0 : l.2.2.1 = 0 := by
          have := mt (isW_i l.2.2.1).mpr w
          omega
        have := h5 t0
        have : nT B k l = 0 := if_neg (by omega)
        rw [this] at hW
        cases hW
    · intro q; cases q
theorem hsv_lt {B : Nat → Int32} {s : Nat} : ∀ m, (∀ e, s ≤ e → e < s + m → tyb (B e) = 1) → hsv B s m < 27 ^ m
  | 0, _ => Nat.one_pos
  | m + 1, h => by
    have ih := hsv_lt m (fun e h1 h2 => h e h1 (by omega))
    obtain ⟨c, h1, h2, e⟩ := nn_ty1 (h (s + m) (by omega) (by omega))
    unfold hsv
    rw [e, nn_nI (by omega), Nat.pow_succ]
    omega
theorem vL_s {B : Nat → Int32} {s m : Nat} (hm : m < 9) (h : tyb (B (s + m)) = 1) : 27 * vL B s m + (B (s + m)).toInt64 - 97 + 1 = vL B s (m + 1) := by
  obtain ⟨c, h1, h2, e⟩ := nn_ty1 h
  unfold vL
  rw [if_pos (by omega), if_pos (by omega), show hsv B s (m + 1) = 27 * hsv B s m + (nn (B (s + m)) - 96) from rfl, e, nn_nI (by omega), nI_l (by omega), show (27 : Int64) = lN 27 from rfl, show (97 : Int64) = lN 97 from rfl, lN_mul, lN_add, lN_sub (by omega), lN_1]
  congr 1
  omega
theorem vD_s {B : Nat → Int32} {s m : Nat} (hm : m < 4) (h : tyb (B (s + m)) = 2) : 10 * vD B s m + (B (s + m)).toInt64 - 48 = vD B s (m + 1) := by
  obtain ⟨c, h1, h2, e⟩ := nn_ty2 h
  unfold vD
  rw [if_pos (by omega), if_pos (by omega), show nuv B s (m + 1) = 10 * nuv B s m + (nn (B (s + m)) - 48) from rfl, e, nn_nI (by omega), nI_l (by omega), show (10 : Int64) = lN 10 from rfl, show (48 : Int64) = lN 48 from rfl, lN_mul, lN_add, lN_sub (by omega)]
  congr 1
  omega
section MNXT
variable {a : Nat → Nat → Int32} {s C : Nat → Int32} {pa be to co wo ke op no wr bw : Int32} {w : Int64} {H : xh} {k : Nat}
theorem p_isRow (d : Nat) {i : Nat} (hk : k ≤ 96) (hs : s 11 = nI k) (hi : i ≤ k) (lo hi' : Int32) : Ev (d + 2) 171 [.ref 58, .int lo, .int hi'] (pm a s C (nI i) be to co wo ke op no wr bw w H) = some (some (.int (bi (i < k ∧ (lo ≤ a 10 i ∧ a 10 i ≤ hi')))), pm a s C (nI i) be to co wo ke op no wr bw w H) := by
  rw [E171]
  by_cases h : i < k
  · have hc : ¬ nI k ≤ nI i := nI_ge h (by omega)
    have hx := xix_n (show i < 96 by omega) (show 96 ≤ 100000 by decide)
    by_cases h2 : lo ≤ a 10 i ∧ a 10 i ≤ hi'
    · rw [bi_t ⟨h, h2⟩]
      simp only [S171_0, S171_1, S171_4, S171_5, S171_8, S171_11, S171_12, S171_15, S171_16, S171_19, S171_20, S171_21, S171_22, S171_23, S171_24, S171_25, S171_28, S171_31, S171_32, S171_35, S171_36, Option.bind_some, Option.map_some, xpush_s, xpush_n, xcat_0, xcat_i, xcat_r, xcat_l, xcat_n, xcat_e, xir_r, Nat.reduceAdd, Nat.reduceLeDiff, Nat.zero_le, Nat.le_refl, ↓reduceIte, Pg_12, Pg_11, Pg_10, Pr_10, hs, hc, hx, s_in, l_le, bi_t h2, show ¬ (1 : Int32) = 0 by decide, nar_1]
    · rw [bi_f (fun q => h2 q.2)]
      simp only [S171_0, S171_1, S171_4, S171_5, S171_8, S171_11, S171_12, S171_15, S171_16, S171_19, S171_20, S171_21, S171_22, S171_23, S171_24, S171_25, S171_28, S171_31, S171_32, S171_35, S171_36, Option.bind_some, Option.map_some, xpush_s, xpush_n, xcat_0, xcat_i, xcat_r, xcat_l, xcat_n, xcat_e, xir_r, Nat.reduceAdd, Nat.reduceLeDiff, Nat.zero_le, Nat.le_refl, ↓reduceIte, Pg_12, Pg_11, Pg_10, Pr_10, hs, hc, hx, s_in, l_le, bi_f h2, nar_0]
  · have hc : nI k ≤ nI i := nI_le (by omega) (by omega)
    rw [bi_f (fun q => h q.1)]
    simp only [S171_0, S171_1, S171_4, S171_5, S171_8, S171_11, S171_12, S171_15, S171_16, S171_19, S171_20, S171_21, S171_22, S171_23, S171_24, S171_25, S171_28, S171_31, S171_32, S171_35, S171_36, Option.bind_some, Option.map_some, xpush_s, xpush_n, xcat_0, xcat_i, xcat_r, xcat_l, xcat_n, xcat_e, xir_r, Nat.reduceAdd, Nat.reduceLeDiff, Nat.zero_le, Nat.le_refl, ↓reduceIte, Pg_12, Pg_11, hs, hc, nar_0]
theorem p_nx1 (ev : xe) (hk : k ≤ 96) (hs : s 11 = nI k) {l1 l2 : Option Value} : ∀ j i, i + j = k → RF 170 ev 0 [some (.ref 58), l1, l2] [] (pm a s C (nI i) be to co wo ke op no wr bw w H) = RF 170 ev 38 [some (.ref 58), l1, l2] [] (pm a s C (nI (skp (a 10) j i)) be to co wo ke op no wr bw w H)
  | 0, i, e => by
    have e' : i = k := by omega
    subst e'
    have hc : nI i ≤ nI i := Int32.le_refl _
    rw [S170_0]
    simp only [S170_1, S170_4, S170_5, S170_8, S170_11, S170_12, S170_15, S170_16, S170_19, S170_20, S170_22, S170_25, S170_26, S170_27, S170_30, S170_31, S170_32, S170_35, Option.bind_some, Option.map_some, xpush_s, xpush_n, xcat_0, xcat_i, xcat_r, xcat_l, xcat_n, xcat_e, xir_r, Nat.reduceAdd, Nat.reduceLeDiff, Nat.zero_le, Nat.le_refl, ↓reduceIte, Pg_12, Pg_11, hs, hc, skp]
  | j + 1, i, e => by
    have hc : ¬ nI k ≤ nI i := nI_ge (by omega) (by omega)
    have hx := xix_n (show i < 96 by omega) (show 96 ≤ 100000 by decide)
    have ih := p_nx1 ev hk hs (l1 := l1) (l2 := l2) j (i + 1) (by omega)
    rw [S170_0]
    by_cases h : a 10 i = 32
    · simp only [S170_1, S170_4, S170_5, S170_8, S170_11, S170_12, S170_15, S170_16, S170_19, S170_20, S170_22, S170_25, S170_26, S170_27, S170_30, S170_31, S170_32, S170_35, Option.bind_some, Option.map_some, xpush_s, xpush_n, xcat_0, xcat_i, xcat_r, xcat_l, xcat_n, xcat_e, xir_r, Nat.reduceAdd, Nat.reduceLeDiff, Nat.zero_le, Nat.le_refl, ↓reduceIte, Pg_12, Pg_11, Pg_10, Pr_10, Pp_12, hs, hc, hx, if_pos h, skp, cat_r, nI_1]
      exact ih
    · simp only [S170_1, S170_4, S170_5, S170_8, S170_11, S170_12, S170_15, S170_16, S170_19, S170_20, S170_22, S170_25, S170_26, S170_27, S170_30, S170_31, S170_32, S170_35, Option.bind_some, Option.map_some, xpush_s, xpush_n, xcat_0, xcat_i, xcat_r, xcat_l, xcat_n, xcat_e, xir_r, Nat.reduceAdd, Nat.reduceLeDiff, Nat.zero_le, Nat.le_refl, ↓reduceIte, Pg_12, Pg_11, Pg_10, Pr_10, hs, hc, hx, if_neg h, skp]
theorem ty1_i {b : Int32} : tyb b = 1 ↔ (97 ≤ b ∧ b ≤ 122) := by
  unfold tyb
  by_cases h : 97 ≤ b ∧ b ≤ 122
  · rw [if_pos h]; exact ⟨fun _ => h, fun _ => rfl⟩
  · rw [if_neg h]
    constructor
    · intro q; split at q <;> omega
    · intro q; exact absurd q h
theorem ty2_i {b : Int32} : tyb b = 2 ↔ (48 ≤ b ∧ b ≤ 57) := by
  unfold tyb
  by_cases h : 97 ≤ b ∧ b ≤ 122
  · rw [if_pos h]
    constructor
    · intro q; omega
    · intro q
      exact absurd (Int32.le_trans h.1 q.2) (by decide)
  · rw [if_neg h]
    by_cases h2 : 48 ≤ b ∧ b ≤ 57
    · rw [if_pos h2]; exact ⟨fun _ => h2, fun _ => rfl⟩
    · rw [if_neg h2]
      constructor
      · intro q; omega
      · intro q; exact absurd q h2
theorem p_nx2 (d : Nat) (hk : k ≤ 96) (hs : s 11 = nI k) {b0 : Nat} {l1 l2 : Option Value} : ∀ j m, b0 + m + j = k → RF 170 (Ev (d + 2)) 95 [some (.ref 58), l1, l2] [] (pm a s C (nI (b0 + m)) (nI b0) to co wo ke op no wr bw (vL (a 10) b0 m) H) = RF 170 (Ev (d + 2)) 168 [some (.ref 58), l1, l2] [] (pm a s C (nI (wen (a 10) 1 j (b0 + m))) (nI b0) to co wo ke op no wr bw (vL (a 10) b0 (wen (a 10) 1 j (b0 + m) - b0)) H)
  | 0, m, e => by
    have hr := p_isRow (a := a) (C := C) (be := nI b0) (to := to) (co := co) (wo := wo) (ke := ke) (op := op) (no := no) (wr := wr) (bw := bw) (w := vL (a 10) b0 m) (H := H) d hk hs (show b0 + m ≤ k by omega) 97 122
    rw [bi_f (fun q => by omega)] at hr
    rw [S170_95, show wen (a 10) 1 0 (b0 + m) = b0 + m from rfl, show b0 + m - b0 = m by omega]
    simp only [S170_96, S170_98, S170_100, S170_103, S170_106, S170_107, S170_108, S170_111, S170_112, S170_115, S170_116, S170_118, S170_121, S170_124, S170_125, S170_128, S170_129, S170_130, S170_133, S170_134, S170_137, S170_138, S170_139, S170_140, S170_143, S170_144, S170_145, S170_146, S170_149, S170_152, S170_155, S170_156, S170_157, S170_160, S170_161, S170_162, S170_165, Option.bind_some, Option.map_some, xpush_s, xpush_n, xcat_0, xcat_i, xcat_r, xcat_l, xcat_n, xcat_e, xir_r, Nat.reduceAdd, Nat.reduceLeDiff, Nat.zero_le, Nat.le_refl, ↓reduceIte, Pcls, hr]
  | j + 1, m, e => by
    have hr := p_isRow (a := a) (C := C) (be := nI b0) (to := to) (co := co) (wo := wo) (ke := ke) (op := op) (no := no) (wr := wr) (bw := bw) (w := vL (a 10) b0 m) (H := H) d hk hs (show b0 + m ≤ k by omega) 97 122
    have hx := xix_n (show b0 + m < 96 by omega) (show 96 ≤ 100000 by decide)
    have ih := p_nx2 d hk hs (b0 := b0) (l1 := l1) (l2 := l2) j (m + 1) (by omega)
    have es : nI (b0 + m) - nI b0 = nI m := by rw [pk_sub (by omega), show b0 + m - b0 = m by omega]
    rw [S170_95]
    by_cases h : tyb (a 10 (b0 + m)) = 1
    · have ew : wen (a 10) 1 (j + 1) (b0 + m) = wen (a 10) 1 j (b0 + (m + 1)) := if_pos h
      rw [bi_t ⟨by omega, ty1_i.mp h⟩] at hr
      rw [ew]
      by_cases h9 : m < 9
      · have hc : ¬ (9 : Int32) ≤ nI m := nI_ge (b := 9) h9 (by decide)
        simp only [S170_96, S170_98, S170_100, S170_103, S170_106, S170_107, S170_108, S170_111, S170_112, S170_115, S170_116, S170_118, S170_121, S170_124, S170_125, S170_128, S170_129, S170_130, S170_133, S170_134, S170_137, S170_138, S170_139, S170_140, S170_143, S170_144, S170_145, S170_146, S170_149, S170_152, S170_155, S170_156, S170_157, S170_160, S170_161, S170_162, S170_165, Option.bind_some, Option.map_some, xpush_s, xpush_n, xcat_0, xcat_i, xcat_r, xcat_l, xcat_n, xcat_e, xir_r, Nat.reduceAdd, Nat.reduceLeDiff, Nat.zero_le, Nat.le_refl, ↓reduceIte, Pcls, hr, show ¬ (1 : Int32) = 0 by decide, Pg_12, Pg_13, Pg_15, Pg_10, Pr_10, hx, es, hc, vL_s h9 h, Pp_15, Pp_12, cat_r, nI_1, Nat.add_assoc]
        exact ih
      · have hc : (9 : Int32) ≤ nI m := nI_le (a := 9) (by omega) (by omega)
        have hv : vL (a 10) b0 (m + 1) = -1 := if_neg (by omega)
        rw [hv] at ih
        simp only [S170_96, S170_98, S170_100, S170_103, S170_106, S170_107, S170_108, S170_111, S170_112, S170_115, S170_116, S170_118, S170_121, S170_124, S170_125, S170_128, S170_129, S170_130, S170_133, S170_134, S170_137, S170_138, S170_139, S170_140, S170_143, S170_144, S170_145, S170_146, S170_149, S170_152, S170_155, S170_156, S170_157, S170_160, S170_161, S170_162, S170_165, Option.bind_some, Option.map_some, xpush_s, xpush_n, xcat_0, xcat_i, xcat_r, xcat_l, xcat_n, xcat_e, xir_r, Nat.reduceAdd, Nat.reduceLeDiff, Nat.zero_le, Nat.le_refl, ↓reduceIte, Pcls, hr, show ¬ (1 : Int32) = 0 by decide, Pg_12, Pg_13, Pg_15, Pg_10, Pr_10, hx, es, hc, Pp_15, Pp_12, cat_r, nI_1, Nat.add_assoc]
        exact ih
    · have ew : wen (a 10) 1 (j + 1) (b0 + m) = b0 + m := if_neg h
      rw [bi_f (fun q => h (ty1_i.mpr q.2))] at hr
      rw [ew, show b0 + m - b0 = m by omega]
      simp only [S170_96, S170_98, S170_100, S170_103, S170_106, S170_107, S170_108, S170_111, S170_112, S170_115, S170_116, S170_118, S170_121, S170_124, S170_125, S170_128, S170_129, S170_130, S170_133, S170_134, S170_137, S170_138, S170_139, S170_140, S170_143, S170_144, S170_145, S170_146, S170_149, S170_152, S170_155, S170_156, S170_157, S170_160, S170_161, S170_162, S170_165, Option.bind_some, Option.map_some, xpush_s, xpush_n, xcat_0, xcat_i, xcat_r, xcat_l, xcat_n, xcat_e, xir_r, Nat.reduceAdd, Nat.reduceLeDiff, Nat.zero_le, Nat.le_refl, ↓reduceIte, Pcls, hr]
theorem p_nx3 (d : Nat) (hk : k ≤ 96) (hs : s 11 = nI k) {b0 : Nat} {l1 l2 : Option Value} : ∀ j m, b0 + m + j = k → RF 170 (Ev (d + 2)) 208 [some (.ref 58), l1, l2] [] (pm a s C (nI (b0 + m)) (nI b0) to co wo ke op no wr bw (vD (a 10) b0 m) H) = RF 170 (Ev (d + 2)) 278 [some (.ref 58), l1, l2] [] (pm a s C (nI (wen (a 10) 2 j (b0 + m))) (nI b0) to co wo ke op no wr bw (vD (a 10) b0 (wen (a 10) 2 j (b0 + m) - b0)) H)
  | 0, m, e => by
    have hr := p_isRow (a := a) (C := C) (be := nI b0) (to := to) (co := co) (wo := wo) (ke := ke) (op := op) (no := no) (wr := wr) (bw := bw) (w := vD (a 10) b0 m) (H := H) d hk hs (show b0 + m ≤ k by omega) 48 57
    rw [bi_f (fun q => by omega)] at hr
    rw [S170_208, show wen (a 10) 2 0 (b0 + m) = b0 + m from rfl, show b0 + m - b0 = m by omega]
    simp only [S170_209, S170_211, S170_213, S170_216, S170_219, S170_220, S170_221, S170_224, S170_225, S170_228, S170_229, S170_230, S170_233, S170_236, S170_237, S170_240, S170_241, S170_242, S170_245, S170_246, S170_249, S170_250, S170_251, S170_252, S170_255, S170_256, S170_259, S170_262, S170_265, S170_266, S170_267, S170_270, S170_271, S170_272, S170_275, Option.bind_some, Option.map_some, xpush_s, xpush_n, xcat_0, xcat_i, xcat_r, xcat_l, xcat_n, xcat_e, xir_r, Nat.reduceAdd, Nat.reduceLeDiff, Nat.zero_le, Nat.le_refl, ↓reduceIte, Pcls, hr]
  | j + 1, m, e => by
    have hr := p_isRow (a := a) (C := C) (be := nI b0) (to := to) (co := co) (wo := wo) (ke := ke) (op := op) (no := no) (wr := wr) (bw := bw) (w := vD (a 10) b0 m) (H := H) d hk hs (show b0 + m ≤ k by omega) 48 57
    have hx := xix_n (show b0 + m < 96 by omega) (show 96 ≤ 100000 by decide)
    have ih := p_nx3 d hk hs (b0 := b0) (l1 := l1) (l2 := l2) j (m + 1) (by omega)
    have es : nI (b0 + m) - nI b0 = nI m := by rw [pk_sub (by omega), show b0 + m - b0 = m by omega]
    rw [S170_208]
    by_cases h : tyb (a 10 (b0 + m)) = 2
    · have ew : wen (a 10) 2 (j + 1) (b0 + m) = wen (a 10) 2 j (b0 + (m + 1)) := if_pos h
      rw [bi_t ⟨by omega, ty2_i.mp h⟩] at hr
      rw [ew]
      by_cases h9 : m < 4
      · have hc : ¬ (4 : Int32) ≤ nI m := nI_ge (b := 4) h9 (by decide)
        simp only [S170_209, S170_211, S170_213, S170_216, S170_219, S170_220, S170_221, S170_224, S170_225, S170_228, S170_229, S170_230, S170_233, S170_236, S170_237, S170_240, S170_241, S170_242, S170_245, S170_246, S170_249, S170_250, S170_251, S170_252, S170_255, S170_256, S170_259, S170_262, S170_265, S170_266, S170_267, S170_270, S170_271, S170_272, S170_275, Option.bind_some, Option.map_some, xpush_s, xpush_n, xcat_0, xcat_i, xcat_r, xcat_l, xcat_n, xcat_e, xir_r, Nat.reduceAdd, Nat.reduceLeDiff, Nat.zero_le, Nat.le_refl, ↓reduceIte, Pcls, hr, show ¬ (1 : Int32) = 0 by decide, Pg_12, Pg_13, Pg_15, Pg_10, Pr_10, hx, es, hc, vD_s h9 h, Pp_15, Pp_12, cat_r, nI_1, Nat.add_assoc]
        exact ih
      · have hc : (4 : Int32) ≤ nI m := nI_le (a := 4) (by omega) (by omega)
        have hv : vD (a 10) b0 (m + 1) = 10000 := if_neg (by omega)
        rw [hv] at ih
        simp only [S170_209, S170_211, S170_213, S170_216, S170_219, S170_220, S170_221, S170_224, S170_225, S170_228, S170_229, S170_230, S170_233, S170_236, S170_237, S170_240, S170_241, S170_242, S170_245, S170_246, S170_249, S170_250, S170_251, S170_252, S170_255, S170_256, S170_259, S170_262, S170_265, S170_266, S170_267, S170_270, S170_271, S170_272, S170_275, Option.bind_some, Option.map_some, xpush_s, xpush_n, xcat_0, xcat_i, xcat_r, xcat_l, xcat_n, xcat_e, xir_r, Nat.reduceAdd, Nat.reduceLeDiff, Nat.zero_le, Nat.le_refl, ↓reduceIte, Pcls, hr, show ¬ (1 : Int32) = 0 by decide, Pg_12, Pg_13, Pg_15, Pg_10, Pr_10, hx, es, hc, Pp_15, Pp_12, cat_r, nI_1, Nat.add_assoc]
        exact ih
    · have ew : wen (a 10) 2 (j + 1) (b0 + m) = b0 + m := if_neg h
      rw [bi_f (fun q => h (ty2_i.mpr q.2))] at hr
      rw [ew, show b0 + m - b0 = m by omega]
      simp only [S170_209, S170_211, S170_213, S170_216, S170_219, S170_220, S170_221, S170_224, S170_225, S170_228, S170_229, S170_230, S170_233, S170_236, S170_237, S170_240, S170_241, S170_242, S170_245, S170_246, S170_249, S170_250, S170_251, S170_252, S170_255, S170_256, S170_259, S170_262, S170_265, S170_266, S170_267, S170_270, S170_271, S170_272, S170_275, Option.bind_some, Option.map_some, xpush_s, xpush_n, xcat_0, xcat_i, xcat_r, xcat_l, xcat_n, xcat_e, xir_r, Nat.reduceAdd, Nat.reduceLeDiff, Nat.zero_le, Nat.le_refl, ↓reduceIte, Pcls, hr]
/-- the end of next: a word may lack its blank -/
theorem p_nx4 (ev : xe) {b0 b t e : Nat} {x y : Int32} (hx : x = 1 ∨ (x = 0 ∧ y = 1)) (h0 : b0 < 2 ^ 31) (hb : b < 2 ^ 31) : RF 170 ev 337 [some (.ref 58), some (.int x), some (.int y)] [] (pm a s C (nI e) (nI b0) (nI t) co wo ke op no wr (nI b) w H) = some (none, pm a s C (nI e) (nI b0) (nI (if 0 < b0 ∧ b0 = b then 4 else t)) co wo ke op no wr (nI e) w H) := by
  have n1 : ¬ (1 : Int32) = 0 := by decide
  by_cases c1 : 0 < b0
  · have c1' : ¬ nI b0 ≤ 0 := nI_nle c1 h0
    by_cases c2 : b0 = b
    · have c2' : nI b0 = nI b := by rw [c2]
      rw [if_pos ⟨c1, c2⟩]
      rcases hx with hx | ⟨hx, hy⟩
      · subst hx
        simp only [S170_337, S170_338, S170_341, S170_342, S170_345, S170_346, S170_347, S170_350, S170_353, S170_354, S170_357, S170_358, S170_361, S170_364, S170_365, S170_368, S170_369, S170_372, S170_375, S170_376, S170_377, S170_380, S170_383, Option.bind_some, Option.map_some, xpush_s, xpush_n, xcat_0, xcat_i, xcat_r, xcat_l, xcat_n, xcat_e, xir_r, Nat.reduceAdd, Nat.reduceLeDiff, Nat.zero_le, Nat.le_refl, ↓reduceIte, n1, Pg_13, Pg_22, Pg_12, Pp_14, Pp_22, if_pos c2', c1']
        rfl
      · subst hx; subst hy
        simp only [S170_337, S170_338, S170_341, S170_342, S170_345, S170_346, S170_347, S170_350, S170_353, S170_354, S170_357, S170_358, S170_361, S170_364, S170_365, S170_368, S170_369, S170_372, S170_375, S170_376, S170_377, S170_380, S170_383, Option.bind_some, Option.map_some, xpush_s, xpush_n, xcat_0, xcat_i, xcat_r, xcat_l, xcat_n, xcat_e, xir_r, Nat.reduceAdd, Nat.reduceLeDiff, Nat.zero_le, Nat.le_refl, ↓reduceIte, n1, Pg_13, Pg_22, Pg_12, Pp_14, Pp_22, if_pos c2', c1']
        rfl
    · have c2' : ¬ nI b0 = nI b := fun q => c2 ((nI_eq h0 hb).mp q)
      rw [if_neg (fun q => c2 q.2)]
      rcases hx with hx | ⟨hx, hy⟩
      · subst hx
        simp only [S170_337, S170_338, S170_341, S170_342, S170_345, S170_346, S170_347, S170_350, S170_353, S170_354, S170_357, S170_358, S170_361, S170_364, S170_365, S170_368, S170_369, S170_372, S170_375, S170_376, S170_377, S170_380, S170_383, Option.bind_some, Option.map_some, xpush_s, xpush_n, xcat_0, xcat_i, xcat_r, xcat_l, xcat_n, xcat_e, xir_r, Nat.reduceAdd, Nat.reduceLeDiff, Nat.zero_le, Nat.le_refl, ↓reduceIte, n1, Pg_13, Pg_14, Pg_22, Pg_12, Pp_14, Pp_22, if_neg c2', c1']
      · subst hx; subst hy
        simp only [S170_337, S170_338, S170_341, S170_342, S170_345, S170_346, S170_347, S170_350, S170_353, S170_354, S170_357, S170_358, S170_361, S170_364, S170_365, S170_368, S170_369, S170_372, S170_375, S170_376, S170_377, S170_380, S170_383, Option.bind_some, Option.map_some, xpush_s, xpush_n, xcat_0, xcat_i, xcat_r, xcat_l, xcat_n, xcat_e, xir_r, Nat.reduceAdd, Nat.reduceLeDiff, Nat.zero_le, Nat.le_refl, ↓reduceIte, n1, Pg_13, Pg_14, Pg_22, Pg_12, Pp_14, Pp_22, if_neg c2', c1']
  · have c1' : nI b0 ≤ 0 := by
      have : b0 = 0 := by omega
      subst this
      decide
    rw [if_neg (fun q => c1 q.1)]
    rcases hx with hx | ⟨hx, hy⟩
    · subst hx
      simp only [S170_337, S170_338, S170_341, S170_342, S170_345, S170_346, S170_347, S170_350, S170_353, S170_354, S170_357, S170_358, S170_361, S170_364, S170_365, S170_368, S170_369, S170_372, S170_375, S170_376, S170_377, S170_380, S170_383, Option.bind_some, Option.map_some, xpush_s, xpush_n, xcat_0, xcat_i, xcat_r, xcat_l, xcat_n, xcat_e, xir_r, Nat.reduceAdd, Nat.reduceLeDiff, Nat.zero_le, Nat.le_refl, ↓reduceIte, n1, Pg_13, Pg_14, Pg_22, Pg_12, Pp_14, Pp_22, c1']
    · subst hx; subst hy
      simp only [S170_337, S170_338, S170_341, S170_342, S170_345, S170_346, S170_347, S170_350, S170_353, S170_354, S170_357, S170_358, S170_361, S170_364, S170_365, S170_368, S170_369, S170_372, S170_375, S170_376, S170_377, S170_380, S170_383, Option.bind_some, Option.map_some, xpush_s, xpush_n, xcat_0, xcat_i, xcat_r, xcat_l, xcat_n, xcat_e, xir_r, Nat.reduceAdd, Nat.reduceLeDiff, Nat.zero_le, Nat.le_refl, ↓reduceIte, n1, Pg_13, Pg_14, Pg_22, Pg_12, Pp_14, Pp_22, c1']
theorem p_next (d : Nat) {l : lk} {b : Nat} (hk : k ≤ 96) (hs : s 11 = nI k) (hb : bwk k l b) : Ev (d + 3) 170 [.ref 58] (pm a s C (nI l.2.1) be to co wo ke op no wr (nI b) w H) = some (none, pm a s C (nI (nxk (a 10) k l).2.1) (nI (nxk (a 10) k l).1) (nI (tkn (nxk (a 10) k l))) co wo ke op no wr (nI (if isW (nT (a 10) k l) = true then nP (a 10) k l else b)) (vlu (a 10) (nxk (a 10) k l)) H) := by
  have hl : okl (a 10) k (nxk (a 10) k l) := okl_nxk hb.1
  have hS := nS_le (B := a 10) hb.1
  have hbb : b < 2 ^ 31 := by have := hb.2.2.2.2.2; omega
  have e1 := p_nx1 (a := a) (C := C) (be := be) (to := to) (co := co) (wo := wo) (ke := ke) (op := op) (no := no) (wr := wr) (bw := nI b) (w := w) (H := H) (Ev (d + 2)) hk hs (l1 := none) (l2 := none) (k - l.2.1) l.2.1 (by have := hb.1; omega)
  rw [show skp (a 10) (k - l.2.1) l.2.1 = nS (a 10) k l from rfl] at e1
  have n1 : ¬ (1 : Int32) = 0 := by decide
  rw [E170, e1]
  show _ = some (none, pm a s C (nI (nP (a 10) k l)) (nI (nS (a 10) k l)) (nI (tkn (nxk (a 10) k l))) co wo ke op no wr (nI (if isW (nT (a 10) k l) = true then nP (a 10) k l else b)) (vlu (a 10) (nxk (a 10) k l)) H)
  have hv : vlu (a 10) (nxk (a 10) k l) = if nT (a 10) k l = 0 then 0 else if nT (a 10) k l = 1 then vL (a 10) (nS (a 10) k l) (nP (a 10) k l - nS (a 10) k l) else if nT (a 10) k l = 2 then vD (a 10) (nS (a 10) k l) (nP (a 10) k l - nS (a 10) k l) else (a 10 (nS (a 10) k l)).toInt64 := rfl
  have ht : tkn (nxk (a 10) k l) = if nB (a 10) k l = true then 4 else nT (a 10) k l := rfl
  by_cases hn : nS (a 10) k l < k
  · have hT : nT (a 10) k l = tyb (a 10 (nS (a 10) k l)) := if_pos hn
    have hc : ¬ nI (nS (a 10) k l) = nI k := fun q => by have := (nI_eq (by omega) (by omega)).mp q; omega
    have hx := xix_n (show nS (a 10) k l < 96 by omega) (show 96 ≤ 100000 by decide)
    have r1 := p_isRow (a := a) (C := C) (be := nI (nS (a 10) k l)) (to := to) (co := co) (wo := wo) (ke := ke) (op := op) (no := no) (wr := wr) (bw := nI b) (w := 0) (H := H) d hk hs hS.2 97 122
    have r2 := p_isRow (a := a) (C := C) (be := nI (nS (a 10) k l)) (to := to) (co := co) (wo := wo) (ke := ke) (op := op) (no := no) (wr := wr) (bw := nI b) (w := 0) (H := H) d hk hs hS.2 48 57
    have hw := wen_le (a 10) (nT (a 10) k l) (k - (nS (a 10) k l + 1)) (nS (a 10) k l + 1)
    by_cases t1 : nT (a 10) k l = 1
    · have hy := ty1_i.mp (hT.symm.trans t1)
      rw [bi_t ⟨hn, hy⟩] at r1
      rw [bi_f (fun q => absurd (Int32.le_trans hy.1 q.2.2) (by decide))] at r2
      have hW : isW (nT (a 10) k l) = true := by rw [t1]; rfl
      have hP : nP (a 10) k l = wen (a 10) 1 (k - nS (a 10) k l) (nS (a 10) k l + 0) := by
        unfold nP
        rw [if_pos hW, t1, show k - nS (a 10) k l = (k - (nS (a 10) k l + 1)) + 1 by omega, Nat.add_zero]
        exact (if_pos (hT.symm.trans t1)).symm
      have e2 := p_nx2 (a := a) (C := C) (to := 1) (co := co) (wo := wo) (ke := ke) (op := op) (no := no) (wr := wr) (bw := nI b) (H := H) d hk hs (b0 := nS (a 10) k l) (l1 := some (.int 1)) (l2 := some (.int 0)) (k - nS (a 10) k l) 0 (by omega)
      rw [← hP, show vL (a 10) (nS (a 10) k l) 0 = 0 from rfl, Nat.add_zero (nS (a 10) k l)] at e2
      have hP2 : nS (a 10) k l < nP (a 10) k l ∧ nP (a 10) k l ≤ k := by
        have := hl.2.2.2.1 (show nT (a 10) k l ≠ 0 by omega)
        exact ⟨this, hl.2.1⟩
      have es : nI (nP (a 10) k l) - nI (nS (a 10) k l) = nI (nP (a 10) k l - nS (a 10) k l) := pk_sub (by omega)
      have e4 := p_nx4 (a := a) (s := s) (C := C) (co := co) (wo := wo) (ke := ke) (op := op) (no := no) (wr := wr) (w := vL (a 10) (nS (a 10) k l) (nP (a 10) k l - nS (a 10) k l)) (H := H) (Ev (d + 2)) (b0 := nS (a 10) k l) (b := b) (t := 1) (e := nP (a 10) k l) (x := 1) (y := 0) (Or.inl rfl) (by omega) hbb
      have hq : (if 0 < nS (a 10) k l ∧ nS (a 10) k l = b then 4 else 1) = tkn (nxk (a 10) k l) := by
        rw [ht, t1]
        by_cases q : nB (a 10) k l = true
        · rw [if_pos q, if_pos ((bw_4 hb hW).mpr q)]
        · rw [if_neg q, if_neg (fun z => q ((bw_4 hb hW).mp z))]
      rw [hq] at e4
      simp only [S170_38, S170_39, S170_40, S170_43, S170_46, S170_47, S170_48, S170_51, S170_52, S170_55, S170_56, S170_59, S170_62, S170_63, S170_64, S170_67, S170_68, S170_69, S170_71, S170_73, S170_76, S170_77, S170_78, S170_80, S170_82, S170_85, S170_86, S170_87, S170_90, S170_91, S170_92, Option.bind_some, Option.map_some, xpush_s, xpush_n, xcat_0, xcat_i, xcat_r, xcat_l, xcat_n, xcat_e, xir_r, Nat.reduceAdd, Nat.reduceLeDiff, Nat.zero_le, Nat.le_refl, ↓reduceIte, Pg_12, Pg_11, hs, Pp_13, Pp_15, hc, Pcls, r1, r2, n1, Pp_14]
      rw [e2, hv, if_neg (show ¬ nT (a 10) k l = 0 by omega), if_pos t1, if_pos hW]
      by_cases h9 : nP (a 10) k l - nS (a 10) k l ≤ 9
      · have hc9 : nI (nP (a 10) k l - nS (a 10) k l) ≤ 9 := nI_le (b := 9) h9 (by decide)
        simp only [S170_168, S170_169, S170_170, S170_173, S170_174, S170_177, S170_178, S170_180, S170_183, S170_186, S170_189, S170_190, S170_193, S170_196, Option.bind_some, Option.map_some, xpush_s, xpush_n, xcat_0, xcat_i, xcat_r, xcat_l, xcat_n, xcat_e, xir_r, Nat.reduceAdd, Nat.reduceLeDiff, Nat.zero_le, Nat.le_refl, ↓reduceIte, Pg_12, Pg_13, Pg_15, es, hc9, Pp_15]
        exact e4
      · have hc9 : ¬ nI (nP (a 10) k l - nS (a 10) k l) ≤ 9 := nI_ge (a := 9) (by omega) (by omega)
        have hv9 : vL (a 10) (nS (a 10) k l) (nP (a 10) k l - nS (a 10) k l) = -1 := if_neg h9
        rw [hv9] at e4 ⊢
        simp only [S170_168, S170_169, S170_170, S170_173, S170_174, S170_177, S170_178, S170_180, S170_183, S170_186, S170_189, S170_190, S170_193, S170_196, Option.bind_some, Option.map_some, xpush_s, xpush_n, xcat_0, xcat_i, xcat_r, xcat_l, xcat_n, xcat_e, xir_r, Nat.reduceAdd, Nat.reduceLeDiff, Nat.zero_le, Nat.le_refl, ↓reduceIte, Pg_12, Pg_13, Pg_15, es, hc9, Pp_15]
        exact e4
    · have ny1 : ¬ (97 ≤ a 10 (nS (a 10) k l) ∧ a 10 (nS (a 10) k l) ≤ 122) := fun q => t1 (hT.trans (ty1_i.mpr q))
      rw [bi_f (fun q => ny1 q.2)] at r1
      by_cases t2 : nT (a 10) k l = 2
      · have hy := ty2_i.mp (hT.symm.trans t2)
        rw [bi_t ⟨hn, hy⟩] at r2
        have hW : isW (nT (a 10) k l) = true := by rw [t2]; rfl
        have hP : nP (a 10) k l = wen (a 10) 2 (k - nS (a 10) k l) (nS (a 10) k l + 0) := by
          unfold nP
          rw [if_pos hW, t2, show k - nS (a 10) k l = (k - (nS (a 10) k l + 1)) + 1 by omega, Nat.add_zero]
          exact (if_pos (hT.symm.trans t2)).symm
        have e2 := p_nx3 (a := a) (C := C) (to := 2) (co := co) (wo := wo) (ke := ke) (op := op) (no := no) (wr := wr) (bw := nI b) (H := H) d hk hs (b0 := nS (a 10) k l) (l1 := some (.int 0)) (l2 := some (.int 1)) (k - nS (a 10) k l) 0 (by omega)
        rw [← hP, show vD (a 10) (nS (a 10) k l) 0 = 0 from rfl, Nat.add_zero (nS (a 10) k l)] at e2
        have hP2 : nS (a 10) k l < nP (a 10) k l ∧ nP (a 10) k l ≤ k := by
          have := hl.2.2.2.1 (show nT (a 10) k l ≠ 0 by omega)
          exact ⟨this, hl.2.1⟩
        have es : nI (nP (a 10) k l) - nI (nS (a 10) k l) = nI (nP (a 10) k l - nS (a 10) k l) := pk_sub (by omega)
        have e4 := p_nx4 (a := a) (s := s) (C := C) (co := co) (wo := wo) (ke := ke) (op := op) (no := no) (wr := wr) (w := vD (a 10) (nS (a 10) k l) (nP (a 10) k l - nS (a 10) k l)) (H := H) (Ev (d + 2)) (b0 := nS (a 10) k l) (b := b) (t := 2) (e := nP (a 10) k l) (x := 0) (y := 1) (Or.inr ⟨rfl, rfl⟩) (by omega) hbb
        have hq : (if 0 < nS (a 10) k l ∧ nS (a 10) k l = b then 4 else 2) = tkn (nxk (a 10) k l) := by
          rw [ht, t2]
          by_cases q : nB (a 10) k l = true
          · rw [if_pos q, if_pos ((bw_4 hb hW).mpr q)]
          · rw [if_neg q, if_neg (fun z => q ((bw_4 hb hW).mp z))]
        rw [hq] at e4
        simp only [S170_38, S170_39, S170_40, S170_43, S170_46, S170_47, S170_48, S170_51, S170_52, S170_55, S170_56, S170_59, S170_62, S170_63, S170_64, S170_67, S170_68, S170_69, S170_71, S170_73, S170_76, S170_77, S170_78, S170_80, S170_82, S170_85, S170_86, S170_87, S170_199, S170_200, S170_203, S170_204, S170_205, Option.bind_some, Option.map_some, xpush_s, xpush_n, xcat_0, xcat_i, xcat_r, xcat_l, xcat_n, xcat_e, xir_r, Nat.reduceAdd, Nat.reduceLeDiff, Nat.zero_le, Nat.le_refl, ↓reduceIte, Pg_12, Pg_11, hs, Pp_13, Pp_15, hc, Pcls, r1, r2, n1, Pp_14]
        rw [e2, hv, if_neg (show ¬ nT (a 10) k l = 0 by omega), if_neg t1, if_pos t2, if_pos hW]
        by_cases h9 : nP (a 10) k l - nS (a 10) k l ≤ 4
        · have hc9 : nI (nP (a 10) k l - nS (a 10) k l) ≤ 4 := nI_le (b := 4) h9 (by decide)
          simp only [S170_278, S170_279, S170_280, S170_283, S170_284, S170_287, S170_288, S170_289, S170_292, S170_295, S170_298, S170_299, S170_302, S170_305, Option.bind_some, Option.map_some, xpush_s, xpush_n, xcat_0, xcat_i, xcat_r, xcat_l, xcat_n, xcat_e, xir_r, Nat.reduceAdd, Nat.reduceLeDiff, Nat.zero_le, Nat.le_refl, ↓reduceIte, Pg_12, Pg_13, Pg_15, es, hc9, Pp_15]
          exact e4
        · have hc9 : ¬ nI (nP (a 10) k l - nS (a 10) k l) ≤ 4 := nI_ge (a := 4) (by omega) (by omega)
          have hv9 : vD (a 10) (nS (a 10) k l) (nP (a 10) k l - nS (a 10) k l) = 10000 := if_neg h9
          rw [hv9] at e4 ⊢
          simp only [S170_278, S170_279, S170_280, S170_283, S170_284, S170_287, S170_288, S170_289, S170_292, S170_295, S170_298, S170_299, S170_302, S170_305, Option.bind_some, Option.map_some, xpush_s, xpush_n, xcat_0, xcat_i, xcat_r, xcat_l, xcat_n, xcat_e, xir_r, Nat.reduceAdd, Nat.reduceLeDiff, Nat.zero_le, Nat.le_refl, ↓reduceIte, Pg_12, Pg_13, Pg_15, es, hc9, Pp_15]
          exact e4
      · have ny2 : ¬ (48 ≤ a 10 (nS (a 10) k l) ∧ a 10 (nS (a 10) k l) ≤ 57) := fun q => t2 (hT.trans (ty2_i.mpr q))
        rw [bi_f (fun q => ny2 q.2)] at r2
        have hpos := tyb_pos (a 10 (nS (a 10) k l))
        have hle := tyb_le (a 10 (nS (a 10) k l))
        have t3 : nT (a 10) k l = 3 := by omega
        have hP : nP (a 10) k l = nS (a 10) k l + 1 := hl.2.2.2.2.2.1 t3
        have hb0 : nB (a 10) k l = false := by unfold nB; rw [t3]; simp [isW]
        rw [hv, if_neg (show ¬ nT (a 10) k l = 0 by omega), if_neg t1, if_neg t2, ht, hb0, hP, t3]
        simp only [S170_38, S170_39, S170_40, S170_43, S170_46, S170_47, S170_48, S170_51, S170_52, S170_55, S170_56, S170_59, S170_62, S170_63, S170_64, S170_67, S170_68, S170_69, S170_71, S170_73, S170_76, S170_77, S170_78, S170_80, S170_82, S170_85, S170_86, S170_87, S170_199, S170_200, S170_308, S170_309, S170_310, S170_313, S170_314, S170_315, S170_318, S170_319, S170_322, S170_323, S170_324, S170_327, S170_328, S170_329, S170_332, S170_333, S170_334, S170_337, S170_338, S170_341, S170_342, S170_383, Option.bind_some, Option.map_some, xpush_s, xpush_n, xcat_0, xcat_i, xcat_r, xcat_l, xcat_n, xcat_e, xir_r, Nat.reduceAdd, Nat.reduceLeDiff, Nat.zero_le, Nat.le_refl, ↓reduceIte, Pg_12, Pg_11, Pg_10, Pr_10, hx, hs, Pp_12, Pp_13, Pp_15, hc, Pcls, r1, r2, Pp_14, cat_r, nI_1, show isW 3 = false from rfl, Bool.false_eq_true]
        rfl
  · have e' : nS (a 10) k l = k := by omega
    have t0 : nT (a 10) k l = 0 := if_neg (by omega)
    have hP : nP (a 10) k l = k := by
      unfold nP
      rw [t0, if_neg (by decide)]
      omega
    have hb0 : nB (a 10) k l = false := by unfold nB; rw [t0]; simp [isW]
    rw [hv, if_pos t0, ht, hb0, hP, t0, e']
    simp only [S170_38, S170_39, S170_40, S170_43, S170_46, S170_47, S170_48, S170_51, S170_52, S170_55, S170_56, S170_59, S170_62, S170_63, S170_64, S170_67, Option.bind_some, Option.map_some, xpush_s, xpush_n, xcat_0, xcat_i, xcat_r, xcat_l, xcat_n, xcat_e, xir_r, Nat.reduceAdd, Nat.reduceLeDiff, Nat.zero_le, Nat.le_refl, ↓reduceIte, Pg_12, Pg_11, hs, Pp_13, Pp_15, Pp_14, show isW 0 = false from rfl, Bool.false_eq_true]
    rfl
end MNXT
