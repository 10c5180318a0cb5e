/-! part 33: strings, the class's tape -/
/-- a text of the constant pool -/
def sT (h : xh) (e v n : Nat) (f : Nat → Int32) : Prop := h.2.2.2 e = .inr (.inr (7, [.retAddr v, .int 0])) ∧ h.2.2.2 v = .inl (2, n, f)
section STR
variable {h : xh} {e v n : Nat} {f : Nat → Int32}
theorem sT_cls (t : sT h e v n f) : (xcls h (.retAddr e) = 7) = True := eq_true (by
  unfold xcls hget
  dsimp only
  rw [t.1])
theorem sT_g0 (t : sT h e v n f) : hgf h (.retAddr e) 7 0 = some (.retAddr v) := by
  unfold hgf hget
  dsimp only
  rw [t.1]
  rfl
theorem sT_g1 (t : sT h e v n f) : hgf h (.retAddr e) 7 1 = some (.int 0) := by
  unfold hgf hget
  dsimp only
  rw [t.1]
  rfl
theorem sT_len (t : sT h e v n f) : xalen h (.retAddr v) = some n := by
  unfold xalen hget
  dsimp only
  rw [t.2]
  rfl
theorem sT_r (t : sT h e v n f) (i : Int32) : hrd h (.retAddr v) 2 i = (xix i n).map f := by
  unfold hrd hget
  dsimp only
  rw [t.2]
  show (match xix i n with | some j => some (f j) | none => none) = _
  cases xix i n <;> rfl
theorem nar_b0 : (narrow .byte (.int 0) = .int 0) = True := eq_true rfl
theorem t_coder (d : Nat) (t : sT h e v n f) : Ev (d + 1) 205 [.retAddr e] h = some (some (.int 0), h) := by
  rw [E205]
  simp only [S205_0, S205_3, S205_6, S205_7, S205_10, S205_13, S205_14, Option.bind_some, Option.map_some, xpush_s, xpush_n, xcat_0, xcat_i, xcat_r, xcat_l, xcat_n, xcat_e, xir_r, Nat.reduceAdd, Nat.reduceLeDiff, Nat.zero_le, Nat.le_refl, ↓reduceIte, xir_e, sT_g1 t, show ¬ (1 : Int32) = 0 by decide, nar_b0]
theorem sh0 (x : Int32) : x >>> ((0 : Int32) &&& 31) = x := by
  rw [show (0 : Int32) &&& 31 = 0 from rfl]
  exact Int32.shiftRight_zero
theorem t_length (d : Nat) (t : sT h e v n f) : Ev (d + 2) 204 [.retAddr e] h = some (some (.int (Int32.ofNat n)), h) := by
  rw [E204]
  simp only [S204_0, S204_1, S204_4, S204_5, S204_6, S204_9, S204_10, Option.bind_some, Option.map_some, xpush_s, xpush_n, xcat_0, xcat_i, xcat_r, xcat_l, xcat_n, xcat_e, xir_r, Nat.reduceAdd, Nat.reduceLeDiff, Nat.zero_le, Nat.le_refl, ↓reduceIte, xir_e, sT_g0 t, sT_len t, sT_cls t, t_coder _ t, sh0]
theorem t_latin (d : Nat) (t : sT h e v n f) : Ev (d + 1) 207 [.retAddr e] h = some (some (.int 1), h) := by
  rw [E207]
  simp only [S207_0, S207_3, S207_6, S207_7, S207_10, S207_13, S207_14, S207_17, S207_18, Option.bind_some, Option.map_some, xpush_s, xpush_n, xcat_0, xcat_i, xcat_r, xcat_l, xcat_n, xcat_e, xir_r, Nat.reduceAdd, Nat.reduceLeDiff, Nat.zero_le, Nat.le_refl, ↓reduceIte, xir_e, sT_g1 t, show ¬ (1 : Int32) = 0 by decide, nar_1]
theorem ch_n : ∀ q, q < 128 → ((nI q &&& 255).toUInt32 % 65536).toInt32 = nI q ∧ ((nI q).toUInt32 % 65536).toInt32 = nI q ∧ (nI q).toInt8.toInt32 = nI q ∧ ¬ nI q < 0 ∧ ¬ (255 : Int32) < nI q := by decide +kernel
theorem t_pre (d : Nat) {i k : Nat} (hi : i < k) (hk : k < 2 ^ 31) : Ev (d + 1) 217 [.int (nI i), .int (Int32.ofNat k), .retAddr 20] h = some (some (.int (nI i)), h) := by
  rw [E217]
  have h1 : ¬ nI i < 0 := nI_pos (by omega)
  have h2 : nI i < Int32.ofNat k := nI_lt hi hk
  simp only [S217_0, S217_1, S217_4, S217_5, S217_6, S217_9, S217_10, S217_11, S217_16, S217_17, Option.bind_some, Option.map_some, xpush_s, xpush_n, xcat_0, xcat_i, xcat_r, xcat_l, xcat_n, xcat_e, xir_r, Nat.reduceAdd, Nat.reduceLeDiff, Nat.zero_le, Nat.le_refl, ↓reduceIte, xir_e, h1, h2]
theorem t_chk (d : Nat) {i k : Nat} (hi : i < k) (hk : k < 2 ^ 31) : Ev (d + 2) 208 [.int (nI i), .int (Int32.ofNat k)] h = some (none, h) := by
  rw [E208]
  simp only [S208_0, S208_1, S208_2, S208_5, S208_8, S208_9, Option.bind_some, Option.map_some, xpush_s, xpush_n, xcat_0, xcat_i, xcat_r, xcat_l, xcat_n, xcat_e, xir_r, Nat.reduceAdd, Nat.reduceLeDiff, Nat.zero_le, Nat.le_refl, ↓reduceIte, t_pre _ hi hk, cat_i]
theorem t_charAt (d : Nat) (t : sT h e v n f) (hn : n ≤ 100) {i q : Nat} (hi : i < n) (hq : q < 128) (hf : f i = nI q) : Ev (d + 4) 206 [.retAddr e, .int (nI i)] h = some (some (.int (nI q)), h) := by
  have h1 : Ev (d + 3) 211 [.retAddr v, .int (nI i)] h = some (some (.int (nI q)), h) := by
    rw [E211]
    have hx := xix_n hi (show n ≤ 100000 by omega)
    simp only [S211_0, S211_1, S211_2, S211_3, S211_6, S211_7, S211_9, S211_12, S211_13, S211_14, Option.bind_some, Option.map_some, xpush_s, xpush_n, xcat_0, xcat_i, xcat_r, xcat_l, xcat_n, xcat_e, xir_r, Nat.reduceAdd, Nat.reduceLeDiff, Nat.zero_le, Nat.le_refl, ↓reduceIte, xir_e, sT_len t, t_chk _ hi (show n < 2 ^ 31 by omega), S211_8 _ _ _ _ _ _ _ _ t.2, sT_r t, hx, hf, (ch_n q hq).1, eq_true (pk_charN (show q < 65536 by omega)).1]
  rw [E206]
  simp only [S206_0, S206_1, S206_4, S206_7, S206_8, S206_11, S206_12, S206_15, S206_16, S206_17, S206_20, S206_24, Option.bind_some, Option.map_some, xpush_s, xpush_n, xcat_0, xcat_i, xcat_r, xcat_l, xcat_n, xcat_e, xir_r, Nat.reduceAdd, Nat.reduceLeDiff, Nat.zero_le, Nat.le_refl, ↓reduceIte, xir_e, sT_cls t, t_latin _ t, sT_g0 t, show ¬ (1 : Int32) = 0 by decide, h1, eq_true (pk_charN (show q < 65536 by omega)).1]
/-- the first place from i on, j to go -/
def fst' (f : Nat → Int32) (c : Int32) : Nat → Nat → Int32
  | 0, _ => -1
  | j + 1, i => if f i = c then nI i else fst' f c j (i + 1)
theorem t_ixc_l (ev : xe) (t : sT h e v n f) (hn : n ≤ 100) (c : Int32) {l1 l2 : Option Value} : ∀ j i, i + j = n → RF 214 ev 7 [some (.retAddr v), l1, l2, some (.int (Int32.ofNat n)), some (.int c), some (.int (nI i))] [] h = some (some (.int (fst' f c j i)), h)
  | 0, i, hi => by
    have e' : i = n := by omega
    subst e'
    have hc : Int32.ofNat i ≤ nI i := Int32.le_refl _
    rw [S214_7]
    simp only [S214_0, S214_1, S214_2, S214_4, S214_5, S214_9, S214_10, S214_13, S214_14, S214_17, S214_19, S214_22, S214_24, S214_25, S214_28, S214_31, S214_32, Option.bind_some, Option.map_some, xpush_s, xpush_n, xcat_0, xcat_i, xcat_r, xcat_l, xcat_n, xcat_e, xir_r, Nat.reduceAdd, Nat.reduceLeDiff, Nat.zero_le, Nat.le_refl, ↓reduceIte, hc, fst']
  | j + 1, i, hi => by
    have hc : ¬ Int32.ofNat n ≤ nI i := nI_ge (by omega) (by omega)
    have ih := t_ixc_l ev t hn c (l1 := l1) (l2 := l2) j (i + 1) (by omega)
    have hx := xix_n (show i < n by omega) (show n ≤ 100000 by omega)
    rw [S214_7]
    by_cases hf : f i = c
    · simp only [S214_0, S214_1, S214_2, S214_4, S214_5, S214_9, S214_10, S214_13, S214_14, S214_17, S214_19, S214_22, S214_24, S214_25, S214_28, S214_31, S214_32, Option.bind_some, Option.map_some, xpush_s, xpush_n, xcat_0, xcat_i, xcat_r, xcat_l, xcat_n, xcat_e, xir_r, Nat.reduceAdd, Nat.reduceLeDiff, Nat.zero_le, Nat.le_refl, ↓reduceIte, xir_e, S214_16 _ _ _ _ _ _ _ _ t.2, hc, sT_r t, hx, fst', if_pos hf]
    · simp only [S214_0, S214_1, S214_2, S214_4, S214_5, S214_9, S214_10, S214_13, S214_14, S214_17, S214_19, S214_22, S214_24, S214_25, S214_28, S214_31, S214_32, Option.bind_some, Option.map_some, xpush_s, xpush_n, xcat_0, xcat_i, xcat_r, xcat_l, xcat_n, xcat_e, xir_r, Nat.reduceAdd, Nat.reduceLeDiff, Nat.zero_le, Nat.le_refl, ↓reduceIte, xir_e, S214_16 _ _ _ _ _ _ _ _ t.2, hc, sT_r t, hx, fst', if_neg hf, nI_1]
      exact ih
theorem t_indexOf (d : Nat) (t : sT h e v n f) (h0 : 0 < n) (hn : n ≤ 100) {q : Nat} (hq : q < 128) : Ev (d + 4) 209 [.retAddr e, .int (nI q)] h = some (some (.int (fst' f (nI q) n 0)), h) := by
  have c1 : Ev (d + 1) 213 [.int (nI q)] h = some (some (.int 1), h) := by
    rw [E213]
    simp only [S213_0, S213_1, S213_4, S213_5, S213_8, S213_11, S213_12, S213_15, S213_16, Option.bind_some, Option.map_some, xpush_s, xpush_n, xcat_0, xcat_i, xcat_r, xcat_l, xcat_n, xcat_e, xir_r, Nat.reduceAdd, Nat.reduceLeDiff, Nat.zero_le, Nat.le_refl, ↓reduceIte, (ch_n q hq).2.2.2.1, (ch_n q hq).2.2.2.2, nar_1]
  have c2 : Ev (d + 1) 214 [.retAddr v, .int (nI q), .int 0, .int (Int32.ofNat n)] h = some (some (.int (fst' f (nI q) n 0)), h) := by
    rw [E214]
    have := t_ixc_l (Ev d) t hn (nI q) (l1 := some (.int (nI q))) (l2 := some (.int 0)) n 0 (by omega)
    simp only [S214_0, S214_1, S214_2, S214_4, S214_5, S214_9, S214_10, S214_13, S214_14, S214_17, S214_19, S214_22, S214_24, S214_25, S214_28, S214_31, S214_32, Option.bind_some, Option.map_some, xpush_s, xpush_n, xcat_0, xcat_i, xcat_r, xcat_l, xcat_n, xcat_e, xir_r, Nat.reduceAdd, Nat.reduceLeDiff, Nat.zero_le, Nat.le_refl, ↓reduceIte, (ch_n q hq).2.2.1]
    exact this
  have c3 : Ev (d + 2) 212 [.retAddr v, .int (nI q), .int 0, .int (Int32.ofNat n)] h = some (some (.int (fst' f (nI q) n 0)), h) := by
    rw [E212]
    have m0 : (0 : Int32) < Int32.ofNat n := nI_lt (a := 0) h0 (by omega)
    have mn : (if Int32.ofNat n < Int32.ofNat n then Int32.ofNat n else Int32.ofNat n) = Int32.ofNat n := by split <;> rfl
    have mz : (if (0 : Int32) < 0 then (0 : Int32) else 0) = 0 := by split <;> rfl
    simp only [S212_0, S212_1, S212_4, S212_7, S212_8, S212_9, S212_10, S212_11, S212_14, S212_15, S212_16, S212_17, S212_18, S212_21, S212_22, S212_23, S212_24, S212_27, S212_28, S212_29, S212_30, S212_31, S212_32, S212_33, S212_36, Option.bind_some, Option.map_some, xpush_s, xpush_n, xcat_0, xcat_i, xcat_r, xcat_l, xcat_n, xcat_e, xir_r, Nat.reduceAdd, Nat.reduceLeDiff, Nat.zero_le, Nat.le_refl, ↓reduceIte, xir_e, c1, show ¬ (1 : Int32) = 0 by decide, s_max, s_min, sT_len t, mn, mz, m0, c2]
  have c4 : Ev (d + 3) 210 [.retAddr e, .int (nI q), .int 0] h = some (some (.int (fst' f (nI q) n 0)), h) := by
    rw [E210]
    simp only [S210_0, S210_1, S210_4, S210_7, S210_8, S210_11, S210_12, S210_13, S210_14, S210_17, S210_20, S210_23, S210_24, S210_27, S210_28, S210_29, S210_30, S210_36, Option.bind_some, Option.map_some, xpush_s, xpush_n, xcat_0, xcat_i, xcat_r, xcat_l, xcat_n, xcat_e, xir_r, Nat.reduceAdd, Nat.reduceLeDiff, Nat.zero_le, Nat.le_refl, ↓reduceIte, xir_e, sT_cls t, t_latin _ t, sT_g0 t, t_length _ t, show ¬ (1 : Int32) = 0 by decide, c3]
  rw [E209]
  simp only [S209_0, S209_1, S209_2, S209_3, S209_6, Option.bind_some, Option.map_some, xpush_s, xpush_n, xcat_0, xcat_i, xcat_r, xcat_l, xcat_n, xcat_e, xir_r, Nat.reduceAdd, Nat.reduceLeDiff, Nat.zero_le, Nat.le_refl, ↓reduceIte, xir_e, sT_cls t, c4]
end STR
def tpF (n st pa ty lb ke op sz : Int32) : List Value := [.ref 30, .int n, .int st, .int pa, .int ty, .int lb, .int ke, .int op, .ref 31, .int sz]
/-- the tape's cells 29 .. 31 -/
def tp (n st pa ty lb ke op sz : Int32) (B S : Nat → Int32) (H : xh) : xh := (H.1, H.2.1, fun q => if q = 29 then .inr (.inr (3, tpF n st pa ty lb ke op sz)) else if q = 30 then .inl (0, 96, B) else if q = 31 then .inl (0, 96, S) else H.2.2.1 q, H.2.2.2)
section TAPE
variable {n st pa ty lb ke op sz : Int32} {B S : Nat → Int32} {H : xh}
theorem tp_obj {n' st' pa' ty' lb' ke' op' sz' : Int32} : hset (tp n st pa ty lb ke op sz B S H) 29 (.inr (.inr (3, tpF n' st' pa' ty' lb' ke' op' sz'))) = tp n' st' pa' ty' lb' ke' op' sz' B S H := by
  unfold hset tp
  congr 3
  funext q
  dsimp only
  unfold va_up
  by_cases h : q = 29
  · rw [if_pos h, if_pos h]
  · rw [if_neg h, if_neg h]
    dsimp only
    rw [if_neg h]
theorem tp_B {B' : Nat → Int32} : hset (tp n st pa ty lb ke op sz B S H) 30 (.inl (0, 96, B')) = tp n st pa ty lb ke op sz B' S H := by
  unfold hset tp
  congr 3
  funext q
  dsimp only
  unfold va_up
  by_cases h : q = 30
  · subst h; rfl
  · rw [if_neg h, if_neg h]
    dsimp only
    rw [if_neg h]
theorem tp_S {S' : Nat → Int32} : hset (tp n st pa ty lb ke op sz B S H) 31 (.inl (0, 96, S')) = tp n st pa ty lb ke op sz B S' H := by
  unfold hset tp
  congr 3
  funext q
  dsimp only
  unfold va_up
  by_cases h : q = 31
  · subst h; rfl
  · rw [if_neg h, if_neg h]
    dsimp only
    rw [if_neg h]
theorem Tg_0 : hgf (tp n st pa ty lb ke op sz B S H) (.ref 29) 3 0 = some (.ref 30) := (rfl)
theorem Tg_1 : hgf (tp n st pa ty lb ke op sz B S H) (.ref 29) 3 1 = some (.int n) := (rfl)
theorem Tg_2 : hgf (tp n st pa ty lb ke op sz B S H) (.ref 29) 3 2 = some (.int st) := (rfl)
theorem Tg_3 : hgf (tp n st pa ty lb ke op sz B S H) (.ref 29) 3 3 = some (.int pa) := (rfl)
theorem Tg_4 : hgf (tp n st pa ty lb ke op sz B S H) (.ref 29) 3 4 = some (.int ty) := (rfl)
theorem Tg_5 : hgf (tp n st pa ty lb ke op sz B S H) (.ref 29) 3 5 = some (.int lb) := (rfl)
theorem Tg_6 : hgf (tp n st pa ty lb ke op sz B S H) (.ref 29) 3 6 = some (.int ke) := (rfl)
theorem Tg_7 : hgf (tp n st pa ty lb ke op sz B S H) (.ref 29) 3 7 = some (.int op) := (rfl)
theorem Tg_8 : hgf (tp n st pa ty lb ke op sz B S H) (.ref 29) 3 8 = some (.ref 31) := (rfl)
theorem Tg_9 : hgf (tp n st pa ty lb ke op sz B S H) (.ref 29) 3 9 = some (.int sz) := (rfl)
theorem Tcls : (xcls (tp n st pa ty lb ke op sz B S H) (.ref 29) = 3) = True := eq_true rfl
theorem Tp_1 (x : Int32) : hpf (tp n st pa ty lb ke op sz B S H) (.ref 29) 3 1 (.int x) = some (tp x st pa ty lb ke op sz B S H) := congrArg some tp_obj
theorem Tp_2 (x : Int32) : hpf (tp n st pa ty lb ke op sz B S H) (.ref 29) 3 2 (.int x) = some (tp n x pa ty lb ke op sz B S H) := congrArg some tp_obj
theorem Tp_3 (x : Int32) : hpf (tp n st pa ty lb ke op sz B S H) (.ref 29) 3 3 (.int x) = some (tp n st x ty lb ke op sz B S H) := congrArg some tp_obj
theorem Tp_4 (x : Int32) : hpf (tp n st pa ty lb ke op sz B S H) (.ref 29) 3 4 (.int x) = some (tp n st pa x lb ke op sz B S H) := congrArg some tp_obj
theorem Tp_5 (x : Int32) : hpf (tp n st pa ty lb ke op sz B S H) (.ref 29) 3 5 (.int x) = some (tp n st pa ty x ke op sz B S H) := congrArg some tp_obj
theorem Tp_6 (x : Int32) : hpf (tp n st pa ty lb ke op sz B S H) (.ref 29) 3 6 (.int x) = some (tp n st pa ty lb x op sz B S H) := congrArg some tp_obj
theorem Tp_7 (x : Int32) : hpf (tp n st pa ty lb ke op sz B S H) (.ref 29) 3 7 (.int x) = some (tp n st pa ty lb ke x sz B S H) := congrArg some tp_obj
theorem Tp_9 (x : Int32) : hpf (tp n st pa ty lb ke op sz B S H) (.ref 29) 3 9 (.int x) = some (tp n st pa ty lb ke op x B S H) := congrArg some tp_obj
theorem Tr_B (i : Int32) : hrd (tp n st pa ty lb ke op sz B S H) (.ref 30) 0 i = (xix i 96).map B := by
  show (match xix i 96 with | some j => some (B j) | none => none) = _
  cases xix i 96 <;> rfl
theorem Tw_B (i x : Int32) : hwr (tp n st pa ty lb ke op sz B S H) (.ref 30) 0 i x = (xix i 96).map (fun t => tp n st pa ty lb ke op sz (upd B t x) S H) := by
  show (match xix i 96 with | some j => some (hset (tp n st pa ty lb ke op sz B S H) 30 (.inl (0, 96, upd B j x))) | none => none) = _
  cases xix i 96 with
  | none => rfl
  | some j => exact congrArg some tp_B
theorem Tw_S (i x : Int32) : hwr (tp n st pa ty lb ke op sz B S H) (.ref 31) 0 i x = (xix i 96).map (fun t => tp n st pa ty lb ke op sz B (upd S t x) H) := by
  show (match xix i 96 with | some j => some (hset (tp n st pa ty lb ke op sz B S H) 31 (.inl (0, 96, upd S j x))) | none => none) = _
  cases xix i 96 with
  | none => rfl
  | some j => exact congrArg some tp_S
theorem bi_T [Decidable True] : bi True = 1 := bi_t trivial
theorem bi_01 (p : Prop) [Decidable p] : (bi p = 0 ∨ bi p = 1) = True := eq_true (by unfold bi; split <;> simp)
theorem r_isWord (d : Nat) {t : Nat} (ht : t ≤ 3) : Ev (d + 1) 38 [.ref 29] (tp n st pa (nI t) lb ke op sz B S H) = some (some (.int (bi (isW t = true))), tp n st pa (nI t) lb ke op sz B S H) := by
  rw [E38]
  match t, ht with
  | 0, _ =>
    rw [bi_f (by decide)]
    simp only [S38_0, S38_1, S38_4, S38_5, S38_8, S38_9, S38_12, S38_13, S38_16, S38_17, S38_20, S38_21, Option.bind_some, Option.map_some, xpush_s, xpush_n, xcat_0, xcat_i, xcat_r, xcat_l, xcat_n, xcat_e, xir_r, Nat.reduceAdd, Nat.reduceLeDiff, Nat.zero_le, Nat.le_refl, ↓reduceIte, Tg_4, show ¬ nI 0 = 1 by decide, show ¬ nI 0 = 2 by decide, nar_0]
  | 1, _ =>
    rw [bi_t (by decide)]
    simp only [S38_0, S38_1, S38_4, S38_5, S38_8, S38_9, S38_12, S38_13, S38_16, S38_17, S38_20, S38_21, Option.bind_some, Option.map_some, xpush_s, xpush_n, xcat_0, xcat_i, xcat_r, xcat_l, xcat_n, xcat_e, xir_r, Nat.reduceAdd, Nat.reduceLeDiff, Nat.zero_le, Nat.le_refl, ↓reduceIte, Tg_4, show nI 1 = 1 from rfl, nar_1]
  | 2, _ =>
    rw [bi_t (by decide)]
    simp only [S38_0, S38_1, S38_4, S38_5, S38_8, S38_9, S38_12, S38_13, S38_16, S38_17, S38_20, S38_21, Option.bind_some, Option.map_some, xpush_s, xpush_n, xcat_0, xcat_i, xcat_r, xcat_l, xcat_n, xcat_e, xir_r, Nat.reduceAdd, Nat.reduceLeDiff, Nat.zero_le, Nat.le_refl, ↓reduceIte, Tg_4, show ¬ nI 2 = 1 by decide, show (nI 2 = 2) = True from eq_true rfl, nar_1]
  | 3, _ =>
    rw [bi_f (by decide)]
    simp only [S38_0, S38_1, S38_4, S38_5, S38_8, S38_9, S38_12, S38_13, S38_16, S38_17, S38_20, S38_21, Option.bind_some, Option.map_some, xpush_s, xpush_n, xcat_0, xcat_i, xcat_r, xcat_l, xcat_n, xcat_e, xir_r, Nat.reduceAdd, Nat.reduceLeDiff, Nat.zero_le, Nat.le_refl, ↓reduceIte, Tg_4, show ¬ nI 3 = 1 by decide, show ¬ nI 3 = 2 by decide, nar_0]
theorem r_typeAt (d : Nat) {i k : Nat} (hi : i < 2 ^ 31) (hk : k ≤ 96) : Ev (d + 1) 39 [.ref 29, .int (nI i)] (tp (nI k) st pa ty lb ke op sz B S H) = some (some (.int (nI (tya B k i))), tp (nI k) st pa ty lb ke op sz B S H) := by
  rw [E39]
  have h0 : ¬ nI i < 0 := nI_pos hi
  unfold tya
  by_cases h : i < k
  · have h1 : nI i < nI k := nI_lt h (by omega)
    have hx := xix_n (show i < 96 by omega) (by omega)
    rw [if_pos h]
    unfold tyb
    by_cases c1 : 97 ≤ B i
    · have c1' : ¬ B i < 97 := Int32.not_lt.mpr c1
      by_cases c2 : B i ≤ 122
      · have c2' : ¬ 122 < B i := Int32.not_lt.mpr c2
        rw [if_pos ⟨c1, c2⟩]
        simp only [S39_0, S39_1, S39_4, S39_5, S39_6, S39_9, S39_12, S39_13, S39_14, S39_15, S39_18, S39_19, S39_20, S39_21, S39_22, S39_24, S39_27, S39_28, S39_30, S39_33, S39_34, S39_35, S39_36, S39_38, S39_41, S39_42, S39_44, S39_47, S39_48, S39_51, S39_52, Option.bind_some, Option.map_some, xpush_s, xpush_n, xcat_0, xcat_i, xcat_r, xcat_l, xcat_n, xcat_e, xir_r, Nat.reduceAdd, Nat.reduceLeDiff, Nat.zero_le, Nat.le_refl, ↓reduceIte, h0, h1, Tg_0, Tg_1, Tr_B, hx, c1', c2']
        rfl
      · have c2' : 122 < B i := Int32.not_le.mp c2
        have c4 : 57 < B i := Int32.lt_trans (by decide) c2'
        have c3' : ¬ B i < 48 := Int32.not_lt.mpr (Int32.le_trans (by decide) c1)
        rw [if_neg (fun h => c2 h.2), if_neg (fun h => Int32.not_le.mpr c4 h.2)]
        simp only [S39_0, S39_1, S39_4, S39_5, S39_6, S39_9, S39_12, S39_13, S39_14, S39_15, S39_18, S39_19, S39_20, S39_21, S39_22, S39_24, S39_27, S39_28, S39_30, S39_33, S39_34, S39_35, S39_36, S39_38, S39_41, S39_42, S39_44, S39_47, S39_48, S39_51, S39_52, Option.bind_some, Option.map_some, xpush_s, xpush_n, xcat_0, xcat_i, xcat_r, xcat_l, xcat_n, xcat_e, xir_r, Nat.reduceAdd, Nat.reduceLeDiff, Nat.zero_le, Nat.le_refl, ↓reduceIte, h0, h1, Tg_0, Tg_1, Tr_B, hx, c1', c2', c3', c4]
        rfl
    · have c1' : B i < 97 := Int32.not_le.mp c1
      rw [if_neg (fun h => c1 h.1)]
      by_cases c3 : 48 ≤ B i
      · have c3' : ¬ B i < 48 := Int32.not_lt.mpr c3
        by_cases c4 : B i ≤ 57
        · have c4' : ¬ 57 < B i := Int32.not_lt.mpr c4
          rw [if_pos ⟨c3, c4⟩]
          simp only [S39_0, S39_1, S39_4, S39_5, S39_6, S39_9, S39_12, S39_13, S39_14, S39_15, S39_18, S39_19, S39_20, S39_21, S39_22, S39_24, S39_27, S39_28, S39_30, S39_33, S39_34, S39_35, S39_36, S39_38, S39_41, S39_42, S39_44, S39_47, S39_48, S39_51, S39_52, Option.bind_some, Option.map_some, xpush_s, xpush_n, xcat_0, xcat_i, xcat_r, xcat_l, xcat_n, xcat_e, xir_r, Nat.reduceAdd, Nat.reduceLeDiff, Nat.zero_le, Nat.le_refl, ↓reduceIte, h0, h1, Tg_0, Tg_1, Tr_B, hx, c1', c3', c4']
          rfl
        · have c4' : 57 < B i := Int32.not_le.mp c4
          rw [if_neg (fun h => c4 h.2)]
          simp only [S39_0, S39_1, S39_4, S39_5, S39_6, S39_9, S39_12, S39_13, S39_14, S39_15, S39_18, S39_19, S39_20, S39_21, S39_22, S39_24, S39_27, S39_28, S39_30, S39_33, S39_34, S39_35, S39_36, S39_38, S39_41, S39_42, S39_44, S39_47, S39_48, S39_51, S39_52, Option.bind_some, Option.map_some, xpush_s, xpush_n, xcat_0, xcat_i, xcat_r, xcat_l, xcat_n, xcat_e, xir_r, Nat.reduceAdd, Nat.reduceLeDiff, Nat.zero_le, Nat.le_refl, ↓reduceIte, h0, h1, Tg_0, Tg_1, Tr_B, hx, c1', c3', c4']
          rfl
      · have c3' : B i < 48 := Int32.not_le.mp c3
        rw [if_neg (fun h => c3 h.1)]
        simp only [S39_0, S39_1, S39_4, S39_5, S39_6, S39_9, S39_12, S39_13, S39_14, S39_15, S39_18, S39_19, S39_20, S39_21, S39_22, S39_24, S39_27, S39_28, S39_30, S39_33, S39_34, S39_35, S39_36, S39_38, S39_41, S39_42, S39_44, S39_47, S39_48, S39_51, S39_52, Option.bind_some, Option.map_some, xpush_s, xpush_n, xcat_0, xcat_i, xcat_r, xcat_l, xcat_n, xcat_e, xir_r, Nat.reduceAdd, Nat.reduceLeDiff, Nat.zero_le, Nat.le_refl, ↓reduceIte, h0, h1, Tg_0, Tg_1, Tr_B, hx, c1', c3']
        rfl
  · have h1 : ¬ nI i < nI k := nI_nlt (by omega) hi
    rw [if_neg h]
    simp only [S39_0, S39_1, S39_4, S39_5, S39_6, S39_9, S39_12, S39_13, S39_14, S39_15, S39_18, S39_19, S39_20, S39_21, S39_22, S39_24, S39_27, S39_28, S39_30, S39_33, S39_34, S39_35, S39_36, S39_38, S39_41, S39_42, S39_44, S39_47, S39_48, S39_51, S39_52, Option.bind_some, Option.map_some, xpush_s, xpush_n, xcat_0, xcat_i, xcat_r, xcat_l, xcat_n, xcat_e, xir_r, Nat.reduceAdd, Nat.reduceLeDiff, Nat.zero_le, Nat.le_refl, ↓reduceIte, h0, h1, Tg_1]
    rfl
theorem r_addStep (d : Nat) {z : Nat} (hz : z < 96) (x : Int32) : Ev (d + 1) 47 [.ref 29, .int x] (tp n st pa ty lb ke op (nI z) B S H) = some (none, tp n st pa ty lb ke op (nI (z + 1)) B (upd S z x) H) := by
  rw [E47]
  have h1 : ¬ (96 : Int32) ≤ nI z := nI_ge (b := 96) hz (by decide)
  simp only [S47_0, S47_1, S47_4, S47_6, S47_9, S47_10, S47_13, S47_14, S47_17, S47_18, S47_19, S47_20, S47_21, S47_24, S47_25, S47_26, S47_29, Option.bind_some, Option.map_some, xpush_s, xpush_n, xcat_0, xcat_i, xcat_r, xcat_l, xcat_n, xcat_e, xir_r, Nat.reduceAdd, Nat.reduceLeDiff, Nat.zero_le, Nat.le_refl, ↓reduceIte, Tg_9, Tg_8, Tw_S, Tp_9, h1, xix_n hz (by omega), cat_r, nI_1]
theorem r_addStepG (d : Nat) {z : Nat} (hz : z ≤ 96) (x : Int32) : ∃ z' S', z' ≤ 96 ∧ Ev (d + 1) 47 [.ref 29, .int x] (tp n st pa ty lb ke op (nI z) B S H) = some (none, tp n st pa ty lb ke op (nI z') B S' H) := by
  by_cases h : z < 96
  · exact ⟨z + 1, _, by omega, r_addStep d h x⟩
  · refine ⟨z, S, hz, ?_⟩
    rw [E47]
    have e : z = 96 := by omega
    subst e
    simp only [S47_0, S47_1, S47_4, S47_6, S47_9, S47_10, S47_13, S47_14, S47_17, S47_18, S47_19, S47_20, S47_21, S47_24, S47_25, S47_26, S47_29, Option.bind_some, Option.map_some, xpush_s, xpush_n, xcat_0, xcat_i, xcat_r, xcat_l, xcat_n, xcat_e, xir_r, Nat.reduceAdd, Nat.reduceLeDiff, Nat.zero_le, Nat.le_refl, ↓reduceIte, Tg_9, show ((96 : Int32) ≤ nI 96) = True from eq_true (Int32.le_refl _)]
theorem r_look1 (ev : xe) {k : Nat} (hk : k ≤ 96) {l1 l2 : Option Value} : ∀ j i, i + j = k → RF 37 ev 15 [some (.ref 29), l1, l2] [] (tp (nI k) (nI i) pa ty lb ke op sz B S H) = RF 37 ev 53 [some (.ref 29), l1, l2] [] (tp (nI k) (nI (skp B j i)) pa ty lb ke op sz B S H)
  | 0, i, e => by
    have e' : i = k := by omega
    subst e'
    have hc : nI i ≤ nI i := Int32.le_refl _
    rw [S37_15]
    simp only [S37_16, S37_19, S37_20, S37_23, S37_26, S37_27, S37_30, S37_31, S37_34, S37_35, S37_37, S37_40, S37_41, S37_42, S37_45, S37_46, S37_47, S37_50, Option.bind_some, Option.map_some, xpush_s, xpush_n, xcat_0, xcat_i, xcat_r, xcat_l, xcat_n, xcat_e, xir_r, Nat.reduceAdd, Nat.reduceLeDiff, Nat.zero_le, Nat.le_refl, ↓reduceIte, Tg_1, Tg_2, hc, skp]
  | j + 1, i, e => by
    have hc : ¬ nI k ≤ nI i := nI_ge (by omega) (by omega)
    have hx := xix_n (show i < 96 by omega) (by omega)
    have ih := r_look1 ev hk (l1 := l1) (l2 := l2) j (i + 1) (by omega)
    rw [S37_15]
    by_cases h : B i = 32
    · simp only [S37_16, S37_19, S37_20, S37_23, S37_26, S37_27, S37_30, S37_31, S37_34, S37_35, S37_37, S37_40, S37_41, S37_42, S37_45, S37_46, S37_47, S37_50, Option.bind_some, Option.map_some, xpush_s, xpush_n, xcat_0, xcat_i, xcat_r, xcat_l, xcat_n, xcat_e, xir_r, Nat.reduceAdd, Nat.reduceLeDiff, Nat.zero_le, Nat.le_refl, ↓reduceIte, Tg_0, Tg_1, Tg_2, Tr_B, Tp_2, hc, hx, if_pos h, skp, cat_r, nI_1]
      exact ih
    · simp only [S37_16, S37_19, S37_20, S37_23, S37_26, S37_27, S37_30, S37_31, S37_34, S37_35, S37_37, S37_40, S37_41, S37_42, S37_45, S37_46, S37_47, S37_50, Option.bind_some, Option.map_some, xpush_s, xpush_n, xcat_0, xcat_i, xcat_r, xcat_l, xcat_n, xcat_e, xir_r, Nat.reduceAdd, Nat.reduceLeDiff, Nat.zero_le, Nat.le_refl, ↓reduceIte, Tg_0, Tg_1, Tg_2, Tr_B, hc, hx, if_neg h, skp]
theorem r_look2 (d : Nat) {k t : Nat} (hk : k ≤ 96) (ht : t = 1 ∨ t = 2) {l1 l2 : Option Value} : ∀ j i, i + j = k → RF 37 (Ev (d + 1)) 110 [some (.ref 29), l1, l2] [] (tp (nI k) st (nI i) (nI t) lb ke op sz B S H) = some (none, tp (nI k) st (nI (wen B t j i)) (nI t) lb ke op sz B S H)
  | 0, i, e => by
    have e' : i = k := by omega
    subst e'
    have hc : nI i ≤ nI i := Int32.le_refl _
    have hw : isW t = true := (isW_i t).mpr ht
    rw [S37_110]
    simp only [S37_111, S37_114, S37_117, S37_118, S37_121, S37_122, S37_125, S37_128, S37_129, S37_130, S37_133, S37_136, S37_137, S37_140, S37_143, S37_144, S37_145, S37_148, S37_149, S37_150, S37_153, S37_156, Option.bind_some, Option.map_some, xpush_s, xpush_n, xcat_0, xcat_i, xcat_r, xcat_l, xcat_n, xcat_e, xir_r, Nat.reduceAdd, Nat.reduceLeDiff, Nat.zero_le, Nat.le_refl, ↓reduceIte, Tcls, Tg_1, Tg_3, r_isWord _ (show t ≤ 3 by omega), bi_t hw, show ¬ (1 : Int32) = 0 by decide, hc, wen]
  | j + 1, i, e => by
    have hc : ¬ nI k ≤ nI i := nI_ge (by omega) (by omega)
    have hw : isW t = true := (isW_i t).mpr ht
    have ih := r_look2 d hk ht (l1 := l1) (l2 := l2) j (i + 1) (by omega)
    have hty : tya B k i = tyb (B i) := if_pos (by omega)
    have hle := tyb_le (B i)
    rw [S37_110]
    by_cases h : tyb (B i) = t
    · simp only [S37_111, S37_114, S37_117, S37_118, S37_121, S37_122, S37_125, S37_128, S37_129, S37_130, S37_133, S37_136, S37_137, S37_140, S37_143, S37_144, S37_145, S37_148, S37_149, S37_150, S37_153, S37_156, Option.bind_some, Option.map_some, xpush_s, xpush_n, xcat_0, xcat_i, xcat_r, xcat_l, xcat_n, xcat_e, xir_r, Nat.reduceAdd, Nat.reduceLeDiff, Nat.zero_le, Nat.le_refl, ↓reduceIte, Tcls, Tg_1, Tg_3, Tg_4, r_isWord _ (show t ≤ 3 by omega), r_typeAt _ (show i < 2 ^ 31 by omega) hk, bi_t hw, show ¬ (1 : Int32) = 0 by decide, hc, hty, h, wen, Tp_3, cat_r, nI_1]
      exact ih
    · have h' : ¬ nI (tyb (B i)) = nI t := fun q => h ((nI_eq (by omega) (by omega)).mp q)
      simp only [S37_111, S37_114, S37_117, S37_118, S37_121, S37_122, S37_125, S37_128, S37_129, S37_130, S37_133, S37_136, S37_137, S37_140, S37_143, S37_144, S37_145, S37_148, S37_149, S37_150, S37_153, S37_156, Option.bind_some, Option.map_some, xpush_s, xpush_n, xcat_0, xcat_i, xcat_r, xcat_l, xcat_n, xcat_e, xir_r, Nat.reduceAdd, Nat.reduceLeDiff, Nat.zero_le, Nat.le_refl, ↓reduceIte, Tcls, Tg_1, Tg_3, Tg_4, r_isWord _ (show t ≤ 3 by omega), r_typeAt _ (show i < 2 ^ 31 by omega) hk, bi_t hw, show ¬ (1 : Int32) = 0 by decide, hc, hty, if_neg h', if_neg h, wen]
theorem r_look3 (d : Nat) {t s p : Nat} {w : Bool} (ht : t ≤ 3) (hs : s ≤ 96) (hp : p ≤ 96) : RF 37 (Ev (d + 1)) 65 [some (.ref 29), some (.int (bi (w = true))), some (.int (nI p))] [] (tp n (nI s) pa (nI t) lb ke op sz B S H) = RF 37 (Ev (d + 1)) 93 [some (.ref 29), some (.int (bi (w = true))), some (.int (nI p))] [] (tp n (nI s) pa (nI t) (bi ((w && isW t && decide (s = p)) = true)) ke op sz B S H) := by
  have n1 : ¬ (1 : Int32) = 0 := by decide
  cases hw : w with
  | false =>
    rw [show bi (false = true) = 0 from rfl, show bi ((false && isW t && decide (s = p)) = true) = 0 from bi_f (by simp)]
    simp only [S37_65, S37_66, S37_67, S37_70, S37_71, S37_74, S37_77, S37_78, S37_81, S37_82, S37_85, S37_86, S37_89, S37_90, Option.bind_some, Option.map_some, xpush_s, xpush_n, xcat_0, xcat_i, xcat_r, xcat_l, xcat_n, xcat_e, xir_r, Nat.reduceAdd, Nat.reduceLeDiff, Nat.zero_le, Nat.le_refl, ↓reduceIte, Tp_5, true_or]
  | true =>
    rw [show bi (true = true) = 1 from rfl]
    cases hW : isW t with
    | false =>
      rw [show bi ((true && false && decide (s = p)) = true) = 0 from bi_f (by simp)]
      simp only [S37_65, S37_66, S37_67, S37_70, S37_71, S37_74, S37_77, S37_78, S37_81, S37_82, S37_85, S37_86, S37_89, S37_90, Option.bind_some, Option.map_some, xpush_s, xpush_n, xcat_0, xcat_i, xcat_r, xcat_l, xcat_n, xcat_e, xir_r, Nat.reduceAdd, Nat.reduceLeDiff, Nat.zero_le, Nat.le_refl, ↓reduceIte, n1, Tcls, r_isWord _ ht, hW, show bi (false = true) = 0 from rfl, Tp_5, true_or]
    | true =>
      by_cases e : s = p
      · subst e
        rw [show bi ((true && true && decide (s = s)) = true) = 1 from bi_t (by simp)]
        simp only [S37_65, S37_66, S37_67, S37_70, S37_71, S37_74, S37_77, S37_78, S37_81, S37_82, S37_85, S37_86, S37_89, S37_90, Option.bind_some, Option.map_some, xpush_s, xpush_n, xcat_0, xcat_i, xcat_r, xcat_l, xcat_n, xcat_e, xir_r, Nat.reduceAdd, Nat.reduceLeDiff, Nat.zero_le, Nat.le_refl, ↓reduceIte, n1, Tcls, r_isWord _ ht, hW, bi_T, Tg_2, Tp_5, or_true]
      · have e' : ¬ nI s = nI p := fun q => e ((nI_eq (by omega) (by omega)).mp q)
        rw [show bi ((true && true && decide (s = p)) = true) = 0 from bi_f (by simp [e])]
        simp only [S37_65, S37_66, S37_67, S37_70, S37_71, S37_74, S37_77, S37_78, S37_81, S37_82, S37_85, S37_86, S37_89, S37_90, Option.bind_some, Option.map_some, xpush_s, xpush_n, xcat_0, xcat_i, xcat_r, xcat_l, xcat_n, xcat_e, xir_r, Nat.reduceAdd, Nat.reduceLeDiff, Nat.zero_le, Nat.le_refl, ↓reduceIte, n1, Tcls, r_isWord _ ht, hW, bi_T, Tg_2, if_neg e', Tp_5, true_or]
end TAPE
/-- the tape with what is looked at -/
def tpk (k : Nat) (l : lk) (ke op sz : Int32) (B S : Nat → Int32) (H : xh) : xh := tp (nI k) (nI l.1) (nI l.2.1) (nI l.2.2.1) (bi (l.2.2.2 = true)) ke op sz B S H
section TAP2
variable {ke op sz : Int32} {B S : Nat → Int32} {H : xh} {k : Nat} {l : lk}
theorem tya_le (B : Nat → Int32) (k i : Nat) : tya B k i ≤ 3 := by
  unfold tya
  split
  · exact tyb_le _
  · decide
theorem r_look (d : Nat) (hk : k ≤ 96) (hp : l.2.1 ≤ k) (ht : l.2.2.1 ≤ 3) : Ev (d + 2) 37 [.ref 29] (tpk k l ke op sz B S H) = some (none, tpk k (nxk B k l) ke op sz B S H) := by
  have hs := nS_le (B := B) hp
  have e1 := r_look1 (ty := nI l.2.2.1) (lb := bi (l.2.2.2 = true)) (pa := nI l.2.1) (ke := ke) (op := op) (sz := sz) (B := B) (S := S) (H := H) (Ev (d + 1)) hk (l1 := some (.int (bi (isW l.2.2.1 = true)))) (l2 := some (.int (nI l.2.1))) (k - l.2.1) l.2.1 (by omega)
  have hT : nT B k l ≤ 3 := tya_le B k (nS B k l)
  have e3 := r_look3 (n := nI k) (pa := nI l.2.1) (lb := bi (l.2.2.2 = true)) (ke := ke) (op := op) (sz := sz) (B := B) (S := S) (H := H) d (t := nT B k l) (s := nS B k l) (p := l.2.1) (w := isW l.2.2.1) hT (by omega) (by omega)
  unfold tpk
  rw [E37]
  simp only [S37_0, S37_1, S37_4, S37_5, S37_6, S37_9, S37_10, S37_11, S37_12, Option.bind_some, Option.map_some, xpush_s, xpush_n, xcat_0, xcat_i, xcat_r, xcat_l, xcat_n, xcat_e, xir_r, Nat.reduceAdd, Nat.reduceLeDiff, Nat.zero_le, Nat.le_refl, ↓reduceIte, Tcls, r_isWord _ ht, Tg_3, Tp_2]
  rw [e1]
  simp only [S37_53, S37_54, S37_55, S37_56, S37_59, S37_62, Option.bind_some, Option.map_some, xpush_s, xpush_n, xcat_0, xcat_i, xcat_r, xcat_l, xcat_n, xcat_e, xir_r, Nat.reduceAdd, Nat.reduceLeDiff, Nat.zero_le, Nat.le_refl, ↓reduceIte, Tcls, Tg_2, r_typeAt _ (show nS B k l < 2 ^ 31 by omega) hk, Tp_4, show skp B (k - l.2.1) l.2.1 = nS B k l from rfl, show tya B k (nS B k l) = nT B k l from rfl]
  rw [e3]
  have hmin : (if nI (nS B k l + 1) < nI k then nI (nS B k l + 1) else nI k) = nI (min k (nS B k l + 1)) := by
    by_cases h : nS B k l + 1 < k
    · rw [if_pos (nI_lt h (by omega)), Nat.min_eq_right (by omega)]
    · rw [if_neg (nI_nlt (by omega) (by omega)), Nat.min_eq_left (by omega)]
  simp only [S37_93, S37_94, S37_95, S37_98, S37_99, S37_102, S37_103, S37_104, S37_107, Option.bind_some, Option.map_some, xpush_s, xpush_n, xcat_0, xcat_i, xcat_r, xcat_l, xcat_n, xcat_e, xir_r, Nat.reduceAdd, Nat.reduceLeDiff, Nat.zero_le, Nat.le_refl, ↓reduceIte, Tg_1, Tg_2, nI_1, s_min, hmin, Tp_3]
  by_cases hW : isW (nT B k l) = true
  · have h12 := (isW_i _).mp hW
    have hlt : nS B k l < k := by
      rcases Nat.lt_or_ge (nS B k l) k with h | h
      · exact h
      · have : nT B k l = 0 := if_neg (by omega)
        omega
    have hP : nP B k l = wen B (nT B k l) (k - (nS B k l + 1)) (nS B k l + 1) := if_pos hW
    rw [Nat.min_eq_right (by omega), r_look2 d hk h12 (k - (nS B k l + 1)) (nS B k l + 1) (by omega), ← hP]
    rfl
  · have hP : nP B k l = min k (nS B k l + 1) := if_neg hW
    rw [← hP, S37_110]
    simp only [S37_111, S37_114, S37_117, S37_118, S37_121, S37_122, S37_125, S37_128, S37_129, S37_130, S37_133, S37_136, S37_137, S37_140, S37_143, S37_144, S37_145, S37_148, S37_149, S37_150, S37_153, S37_156, Option.bind_some, Option.map_some, xpush_s, xpush_n, xcat_0, xcat_i, xcat_r, xcat_l, xcat_n, xcat_e, xir_r, Nat.reduceAdd, Nat.reduceLeDiff, Nat.zero_le, Nat.le_refl, ↓reduceIte, Tcls, r_isWord _ hT, bi_f hW]
    rfl
theorem r_sign (d : Nat) (hk : k ≤ 96) (hl : okl B k l) : Ev (d + 1) 48 [.ref 29] (tpk k l ke op sz B S H) = some (some (.int (sg B l)), tpk k l ke op sz B S H) := by
  unfold tpk sg
  rw [E48]
  have ht := tya_le B k l.1
  rw [← hl.2.2.1] at ht
  by_cases h : l.2.2.1 = 3
  · have hx := xix_n (show l.1 < 96 by have := okl_in hl (by omega); omega) (show 96 ≤ 100000 by decide)
    rw [if_pos h, h]
    simp only [S48_0, S48_1, S48_4, S48_5, S48_8, S48_9, S48_12, S48_13, S48_16, S48_17, S48_20, S48_21, Option.bind_some, Option.map_some, xpush_s, xpush_n, xcat_0, xcat_i, xcat_r, xcat_l, xcat_n, xcat_e, xir_r, Nat.reduceAdd, Nat.reduceLeDiff, Nat.zero_le, Nat.le_refl, ↓reduceIte, Tg_4, Tg_0, Tg_2, Tr_B, hx, show (nI 3 = 3) = True from eq_true rfl]
  · have h' : ¬ nI l.2.2.1 = 3 := fun q => h ((nI_eq (b := 3) (by omega) (by decide)).mp q)
    rw [if_neg h]
    simp only [S48_0, S48_1, S48_4, S48_5, S48_8, S48_9, S48_12, S48_13, S48_16, S48_17, S48_20, S48_21, Option.bind_some, Option.map_some, xpush_s, xpush_n, xcat_0, xcat_i, xcat_r, xcat_l, xcat_n, xcat_e, xir_r, Nat.reduceAdd, Nat.reduceLeDiff, Nat.zero_le, Nat.le_refl, ↓reduceIte, Tg_4, if_neg h']
end TAP2
