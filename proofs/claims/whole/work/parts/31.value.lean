/-! part 31: what a Text of the class gives -/
/-- a Text at p: its object, its steps, its stack -/
def tX (H : xh) (p len cap : Nat) (key ops : Int32) (sf cf : Nat → Int32) : Prop := 84 ≤ p ∧ p % 3 = 0 ∧ H.2.2.1 p = .inr (.inr (4, [.int key, .int ops, .ref (p + 1), .ref (p + 2)])) ∧ H.2.2.1 (p + 1) = .inl (0, len, sf) ∧ H.2.2.1 (p + 2) = .inl (0, cap, cf)
section VAL
variable {k p len cap : Nat} {δ : Nat → Int32} {τ : xt} {κ : Nat → Nat → Int32} {H : xh} {key ops : Int32} {sf cf : Nat → Int32}
theorem T_c0 (hk : k < 50) (t : tX H p len cap key ops sf cf) : (rv k δ τ κ H).2.2.1 p = .inr (.inr (4, [.int key, .int ops, .ref (p + 1), .ref (p + 2)])) := by
  obtain ⟨h1, h2, h3, -, -⟩ := t
  show (if 84 ≤ p ∧ p % 3 = 2 then _ else if k ≤ p ∧ p < k + 9 then _ else H.2.2.1 p) = _
  rw [if_neg (by omega), if_neg (by omega), h3]
theorem T_c1 (hk : k < 50) (t : tX H p len cap key ops sf cf) : (rv k δ τ κ H).2.2.1 (p + 1) = .inl (0, len, sf) := by
  obtain ⟨h1, h2, -, h3, -⟩ := t
  show (if 84 ≤ p + 1 ∧ (p + 1) % 3 = 2 then _ else if k ≤ p + 1 ∧ p + 1 < k + 9 then _ else H.2.2.1 (p + 1)) = _
  rw [if_neg (by omega), if_neg (by omega), h3]
theorem T_c2 (hk : k < 50) (t : tX H p len cap key ops sf cf) : (rv k δ τ κ H).2.2.1 (p + 2) = .inl (0, cap, κ (p + 2)) := by
  obtain ⟨h1, h2, -, -, h3⟩ := t
  show (if 84 ≤ p + 2 ∧ (p + 2) % 3 = 2 then scr (if k ≤ p + 2 ∧ p + 2 < k + 9 then _ else H.2.2.1 (p + 2)) (κ (p + 2)) else _) = _
  rw [if_pos (by omega), if_neg (by omega), h3]
  rfl
theorem T_cls (hk : k < 50) (t : tX H p len cap key ops sf cf) : xcls (rv k δ τ κ H) (.ref p) = 4 := by
  unfold xcls hget
  dsimp only
  rw [T_c0 hk t]
theorem T_g (hk : k < 50) (t : tX H p len cap key ops sf cf) (j : Nat) : hgf (rv k δ τ κ H) (.ref p) 4 j = ([.int key, .int ops, .ref (p + 1), .ref (p + 2)] : List Value)[j]? := by
  unfold hgf hget
  dsimp only
  rw [T_c0 hk t]
  rfl
theorem T_g0 (hk : k < 50) (t : tX H p len cap key ops sf cf) : hgf (rv k δ τ κ H) (.ref p) 4 0 = some (.int key) := T_g hk t 0
theorem T_g1 (hk : k < 50) (t : tX H p len cap key ops sf cf) : hgf (rv k δ τ κ H) (.ref p) 4 1 = some (.int ops) := T_g hk t 1
theorem T_g2 (hk : k < 50) (t : tX H p len cap key ops sf cf) : hgf (rv k δ τ κ H) (.ref p) 4 2 = some (.ref (p + 1)) := T_g hk t 2
theorem T_g3 (hk : k < 50) (t : tX H p len cap key ops sf cf) : hgf (rv k δ τ κ H) (.ref p) 4 3 = some (.ref (p + 2)) := T_g hk t 3
theorem T_len (hk : k < 50) (t : tX H p len cap key ops sf cf) : xalen (rv k δ τ κ H) (.ref (p + 1)) = some len := by
  unfold xalen hget
  dsimp only
  rw [T_c1 hk t]
  rfl
theorem T_cap (hk : k < 50) (t : tX H p len cap key ops sf cf) : xalen (rv k δ τ κ H) (.ref (p + 2)) = some cap := by
  unfold xalen hget
  dsimp only
  rw [T_c2 hk t]
  rfl
theorem T_r1 (hk : k < 50) (t : tX H p len cap key ops sf cf) (i : Int32) : hrd (rv k δ τ κ H) (.ref (p + 1)) 0 i = (xix i len).map sf := by
  unfold hrd hget
  dsimp only
  rw [T_c1 hk t]
  show (match xix i len with | some j => some (sf j) | none => none) = _
  cases xix i len <;> rfl
theorem T_r2 (hk : k < 50) (t : tX H p len cap key ops sf cf) (i : Int32) : hrd (rv k δ τ κ H) (.ref (p + 2)) 0 i = (xix i cap).map (κ (p + 2)) := by
  unfold hrd hget
  dsimp only
  rw [T_c2 hk t]
  show (match xix i cap with | some j => some (κ (p + 2) j) | none => none) = _
  cases xix i cap <;> rfl
theorem T_set (hk : k < 50) (t : tX H p len cap key ops sf cf) (f : Nat → Int32) : hset (rv k δ τ κ H) (p + 2) (.inl (0, cap, f)) = rv k δ τ (va_up κ (p + 2) f) H := by
  obtain ⟨h1, h2, -, -, h3⟩ := t
  unfold hset rv ov rh
  congr 3
  funext q
  dsimp only
  unfold va_up
  by_cases hq : q = p + 2
  · subst hq
    rw [if_pos rfl, if_pos (by omega), if_neg (by omega), if_pos rfl, h3]
    rfl
  · rw [if_neg hq, if_neg hq]
theorem T_w2 (hk : k < 50) (t : tX H p len cap key ops sf cf) (i x : Int32) : hwr (rv k δ τ κ H) (.ref (p + 2)) 0 i x = (xix i cap).map (fun j => rv k δ τ (va_up κ (p + 2) (upd (κ (p + 2)) j x)) H) := by
  unfold hwr
  dsimp only
  rw [T_c2 hk t]
  show (match xix i cap with | some j => some (hset (rv k δ τ κ H) (p + 2) (.inl (0, cap, upd (κ (p + 2)) j x))) | none => none) = _
  cases xix i cap with
  | none => rfl
  | some j => exact congrArg some (T_set hk t _)
theorem vl_a (hk : k < 50) (T : tX H p len cap key ops sf cf) (ev : xe) {i : Nat} {c t x y z u : Int32} {l : Option Value} (hc : ¬ Int32.ofNat len ≤ nI i) (hx : xix (nI i) len = some i) (hs : sf i = c) :
    RF 51 ev 6 [some (.ref p), some (.int x), some (.int y), some (.int z), some (.int u), some (.int t), some (.int (nI i)), l] [] (rv k δ τ κ H) = RF 51 ev 25 [some (.ref p), some (.int x), some (.int y), some (.int z), some (.int u), some (.int t), some (.int (nI i)), some (.int c)] [] (rv k δ τ κ H) := by
  simp only [S51_6, S51_8, S51_9, S51_12, S51_13, S51_16, S51_17, S51_20, S51_22, S51_23, Option.bind_some, Option.map_some, xpush_s, xpush_n, xcat_0, xcat_i, xcat_r, xcat_l, xcat_n, xcat_e, xir_r, Nat.reduceAdd, Nat.reduceLeDiff, Nat.zero_le, Nat.le_refl, ↓reduceIte, T_g2 hk T, T_len hk T, T_r1 hk T, hc, hx, hs]
theorem vl_not (hk : k < 50) (T : tX H p len cap key ops sf cf) (ev : xe) {i n1 : Nat} {c t x y z u : Int32} (hc : c = -33) (ht : ¬ t < 0) (hx : xix t cap = some n1) :
    RF 51 ev 25 [some (.ref p), some (.int x), some (.int y), some (.int z), some (.int u), some (.int t), some (.int (nI i)), some (.int c)] [] (rv k δ τ κ H) = RF 51 ev 6 [some (.ref p), some (.int x), some (.int y), some (.int z), some (.int u), some (.int t), some (.int (nI (i + 1))), some (.int c)] [] (rv k δ τ (va_up κ (p + 2) (upd (κ (p + 2)) n1 (if κ (p + 2) n1 = 0 then 1 else 0))) H) := by
  by_cases hz : κ (p + 2) n1 = 0
  · simp only [S51_25, S51_27, S51_29, S51_32, S51_34, S51_37, S51_38, S51_41, S51_43, S51_44, S51_47, S51_49, S51_50, S51_53, S51_54, S51_57, S51_58, S51_59, S51_158, S51_161, Option.bind_some, Option.map_some, xpush_s, xpush_n, xcat_0, xcat_i, xcat_r, xcat_l, xcat_n, xcat_e, xir_r, Nat.reduceAdd, Nat.reduceLeDiff, Nat.zero_le, Nat.le_refl, ↓reduceIte, if_pos hc, T_g3 hk T, T_r2 hk T, T_w2 hk T, ht, hx, if_pos hz, nI_1]
  · simp only [S51_25, S51_27, S51_29, S51_32, S51_34, S51_37, S51_38, S51_41, S51_43, S51_44, S51_47, S51_49, S51_50, S51_53, S51_54, S51_57, S51_58, S51_59, S51_158, S51_161, Option.bind_some, Option.map_some, xpush_s, xpush_n, xcat_0, xcat_i, xcat_r, xcat_l, xcat_n, xcat_e, xir_r, Nat.reduceAdd, Nat.reduceLeDiff, Nat.zero_le, Nat.le_refl, ↓reduceIte, if_pos hc, T_g3 hk T, T_r2 hk T, T_w2 hk T, ht, hx, if_neg hz, nI_1]
theorem vl_sign (hk : k < 50) (T : tX H p len cap key ops sf cf) (ev : xe) {i n1 n2 : Nat} {c sc t t' x y z u r : Int32} (hc : ¬ c = -33) (hn : ¬ 0 ≤ c) (ht : ¬ t < 1) (h1 : t + (-1) = t') (h2 : t' + 1 = t) (hsc : -c = sc) (hx1 : xix t cap = some n1) (hx2 : xix t' cap = some n2) (hd : ∀ h, ev 52 [.int sc, .int (κ (p + 2) n2), .int (κ (p + 2) n1)] h = some (some (.int r), h)) :
    RF 51 ev 25 [some (.ref p), some (.int x), some (.int y), some (.int z), some (.int u), some (.int t), some (.int (nI i)), some (.int c)] [] (rv k δ τ κ H) = RF 51 ev 6 [some (.ref p), some (.int x), some (.int y), some (.int z), some (.int u), some (.int t'), some (.int (nI (i + 1))), some (.int c)] [] (rv k δ τ (va_up κ (p + 2) (upd (κ (p + 2)) n2 r)) H) := by
  simp only [S51_25, S51_27, S51_29, S51_62, S51_64, S51_67, S51_69, S51_70, S51_73, S51_76, S51_77, S51_80, S51_82, S51_84, S51_85, S51_86, S51_89, S51_91, S51_92, S51_93, S51_96, S51_98, S51_99, S51_100, S51_101, S51_104, S51_105, S51_158, S51_161, Option.bind_some, Option.map_some, xpush_s, xpush_n, xcat_0, xcat_i, xcat_r, xcat_l, xcat_n, xcat_e, xir_r, Nat.reduceAdd, Nat.reduceLeDiff, Nat.zero_le, Nat.le_refl, ↓reduceIte, if_neg hc, T_g3 hk T, T_r2 hk T, T_w2 hk T, hn, ht, h1, h2, hsc, hx1, hx2, hd, nI_1]
theorem vl_num (hk : k < 50) (T : tX H p len cap key ops sf cf) (ev : xe) {i n : Nat} {c t t' x y z u : Int32} (hc : ¬ c = -33) (hn : 0 ≤ c) (hn2 : ¬ c < 0) (ht : ¬ Int32.ofNat cap - 1 ≤ t) (h1 : t + 1 = t') (hx : xix t' cap = some n) (h4 : ¬ 10000 ≤ c) :
    RF 51 ev 25 [some (.ref p), some (.int x), some (.int y), some (.int z), some (.int u), some (.int t), some (.int (nI i)), some (.int c)] [] (rv k δ τ κ H) = RF 51 ev 6 [some (.ref p), some (.int x), some (.int y), some (.int z), some (.int u), some (.int t'), some (.int (nI (i + 1))), some (.int c)] [] (rv k δ τ (va_up κ (p + 2) (upd (κ (p + 2)) n c)) H) := by
  simp only [S51_25, S51_27, S51_29, S51_62, S51_64, S51_108, S51_110, S51_113, S51_115, S51_116, S51_119, S51_120, S51_121, S51_122, S51_125, S51_128, S51_129, S51_132, S51_134, S51_136, S51_139, S51_142, S51_144, S51_147, S51_149, S51_150, S51_151, S51_152, S51_154, S51_157, S51_158, S51_161, Option.bind_some, Option.map_some, xpush_s, xpush_n, xcat_0, xcat_i, xcat_r, xcat_l, xcat_n, xcat_e, xir_r, Nat.reduceAdd, Nat.reduceLeDiff, Nat.zero_le, Nat.le_refl, ↓reduceIte, if_neg hc, T_g3 hk T, T_cap hk T, T_r2 hk T, T_w2 hk T, hn, hn2, ht, h1, hx, h4, nI_1]
theorem vl_name (hk : k < 50) (T : tX H p len cap key ops sf cf) (ev : xe) {i n : Nat} {c t t' x y z u v : Int32} (hc : ¬ c = -33) (hn : 0 ≤ c) (hn2 : ¬ c < 0) (ht : ¬ Int32.ofNat cap - 1 ≤ t) (h1 : t + 1 = t') (hx : xix t' cap = some n) (h4 : 10000 ≤ c) (hd : ∀ h, ev 53 [.int c, .int x, .int y, .int z, .int u] h = some (some (.int v), h)) :
    RF 51 ev 25 [some (.ref p), some (.int x), some (.int y), some (.int z), some (.int u), some (.int t), some (.int (nI i)), some (.int c)] [] (rv k δ τ κ H) = RF 51 ev 6 [some (.ref p), some (.int x), some (.int y), some (.int z), some (.int u), some (.int t'), some (.int (nI (i + 1))), some (.int c)] [] (rv k δ τ (va_up κ (p + 2) (upd (κ (p + 2)) n v)) H) := by
  simp only [S51_25, S51_27, S51_29, S51_62, S51_64, S51_108, S51_110, S51_113, S51_115, S51_116, S51_119, S51_120, S51_121, S51_122, S51_125, S51_128, S51_129, S51_132, S51_134, S51_136, S51_139, S51_142, S51_144, S51_147, S51_149, S51_150, S51_151, S51_152, S51_154, S51_157, S51_158, S51_161, Option.bind_some, Option.map_some, xpush_s, xpush_n, xcat_0, xcat_i, xcat_r, xcat_l, xcat_n, xcat_e, xir_r, Nat.reduceAdd, Nat.reduceLeDiff, Nat.zero_le, Nat.le_refl, ↓reduceIte, if_neg hc, T_g3 hk T, T_cap hk T, T_r2 hk T, T_w2 hk T, hn, hn2, ht, h1, hx, h4, hd, nI_1]
theorem vl_end (hk : k < 50) (T : tX H p len cap key ops sf cf) (ev : xe) {i : Nat} {t x y z u : Int32} {l : Option Value} (hc : Int32.ofNat len ≤ nI i) (ht : ¬ t < 0) (hx : xix t cap = some 0) :
    RF 51 ev 6 [some (.ref p), some (.int x), some (.int y), some (.int z), some (.int u), some (.int t), some (.int (nI i)), l] [] (rv k δ τ κ H) = some (some (.int (κ (p + 2) 0)), rv k δ τ κ H) := by
  simp only [S51_6, S51_8, S51_9, S51_12, S51_13, S51_164, S51_166, S51_169, S51_170, S51_173, S51_175, S51_176, S51_179, S51_180, Option.bind_some, Option.map_some, xpush_s, xpush_n, xcat_0, xcat_i, xcat_r, xcat_l, xcat_n, xcat_e, xir_r, Nat.reduceAdd, Nat.reduceLeDiff, Nat.zero_le, Nat.le_refl, ↓reduceIte, T_g2 hk T, T_g3 hk T, T_len hk T, T_r2 hk T, hc, ht, hx]
end VAL
theorem r_named (d : Nat) {p : Nat} (h0 : ¬ p < 10000) (h1 : p < 10004) (x y z u : Int32) (h : xh) : Ev (d + 1) 53 [.int (nI p), .int x, .int y, .int z, .int u] h = some (some (.int (nmv x y z u (p - 10000))), h) := by
  obtain ⟨q, hq, rfl⟩ : ∃ q, q < 4 ∧ p = 10000 + q := ⟨p - 10000, by omega, by omega⟩
  rw [Nat.add_sub_cancel_left, E53]
  have e : nI (10000 + q) - 10000 = nI q := by
    rw [show (10000 : Int32) = nI 10000 from rfl, pk_sub (by omega), Nat.add_sub_cancel_left]
  simp only [S53_0, S53_1, S53_4, S53_5, S53_32, S53_33, S53_34, S53_35, S53_36, S53_37, S53_38, S53_40, e]
  match q, hq with
  | 0, _ => rfl
  | 1, _ => rfl
  | 2, _ => rfl
  | 3, _ => rfl
/-- a piece of a program as the class keeps it -/
def cde (t : Nat) : Int32 := if t < 10004 then nI t else -(nI (t - 20000))
/-- how many operands -/
def cnt : List Nat → Nat
  | [] => 0
  | t :: P => (if t < 10004 then 1 else 0) + cnt P
theorem cde_lo {t : Nat} (h : t < 10004) : cde t = nI t := if_pos h
theorem cde_sg {c : Nat} : cde (20000 + c) = -(nI c) := by
  unfold cde
  rw [if_neg (by omega), Nat.add_sub_cancel_left]
theorem sg_f {c : Nat} (h : isSg c) : ¬ -(nI c) = -33 ∧ ¬ 0 ≤ -(nI c) ∧ - -(nI c) = nI c := by
  unfold isSg at h
  rcases h with h | h | h | h | h | h | h | h | h <;> subst h <;> decide
theorem vu_vu {α : Type} (f : Nat → α) (k : Nat) (v w : α) : va_up (va_up f k v) k w = va_up f k w := vu_u f k v w
section VAL2
variable {k p len cap : Nat} {δ : Nat → Int32} {τ : xt} {H : xh} {key ops : Int32} {sf cf : Nat → Int32}
theorem l_value (d : Nat) (hk : k < 50) (T : tX H p len cap key ops sf cf) (x y z u : Int32) (hlen : len ≤ 96) (hcap : cap ≤ 96) : ∀ (P : List Nat) (i n : Nat) (κ : Nat → Nat → Int32) (f : Nat → Int32) (l : Option Value), κ (p + 2) = f → i + P.length = len → n + cnt P ≤ cap → (∀ j (h : j < P.length), sf (i + j) = cde P[j]) → Gd P n →
    RF 51 (Ev (d + 1)) 6 [some (.ref p), some (.int x), some (.int y), some (.int z), some (.int u), some (.int (nI n - 1)), some (.int (nI i)), l] [] (rv k δ τ κ H) = some (some (.int ((prg x y z u P (n, f)).2 0)), rv k δ τ (va_up κ (p + 2) (prg x y z u P (n, f)).2) H) := by
  intro P
  induction P with
  | nil =>
    intro i n κ f l hf hi hn hP hg
    have e : i = len := by simpa using hi
    subst e
    have e1 : n = 1 := hg
    subst e1
    subst hf
    rw [vl_end hk T _ (Int32.le_refl _) (by decide) (show xix (nI 1 - 1) cap = some 0 from xix_n (k := 0) (by omega) (by omega))]
    rw [show (prg x y z u [] (1, κ (p + 2))).2 = κ (p + 2) from rfl, vu_self]
  | cons q P ih =>
    intro i n κ f l hf hi hn hP hg
    have hi' : i + 1 + P.length = len := by simp only [List.length_cons] at hi; omega
    have hc : ¬ Int32.ofNat len ≤ nI i := nI_ge (by omega) (by omega)
    have hp : sf i = cde q := hP 0 (Nat.zero_lt_succ _)
    have hP' : ∀ j (h : j < P.length), sf (i + 1 + j) = cde P[j] := fun j h => by
      have := hP (j + 1) (Nat.succ_lt_succ h)
      rw [show i + (j + 1) = i + 1 + j by omega] at this
      exact this
    have hx := xix_n (k := i) (n := len) (by omega) (by omega)
    rw [vl_a hk T _ hc hx hp]
    unfold Gd at hg
    unfold prg
    unfold cnt at hn
    have go : ∀ (n' : Nat) (g : Nat → Int32), n' + cnt P ≤ cap → Gd P n' → stp x y z u q (n, f) = (n', g) → ∀ (c t' : Int32), t' = nI n' - 1 → RF 51 (Ev (d + 1)) 6 [some (.ref p), some (.int x), some (.int y), some (.int z), some (.int u), some (.int t'), some (.int (nI (i + 1))), some (.int c)] [] (rv k δ τ (va_up κ (p + 2) g) H) = some (some (.int ((prg x y z u P (stp x y z u q (n, f))).2 0)), rv k δ τ (va_up κ (p + 2) (prg x y z u P (stp x y z u q (n, f))).2) H) := by
      intro n' g h1 h2 h3 c t' h4
      subst h4
      rw [h3, ih (i + 1) n' (va_up κ (p + 2) g) g (some (.int c)) (vu_s _ _ _) hi' h1 hP' h2, vu_vu]
    by_cases c1 : q < 10004
    · rw [if_pos c1] at hg hn
      have hxn := xix_n (k := n) (n := cap) (by omega) (by omega)
      have h33 : ¬ nI q = -33 := fun e => by
        have h1 := nI_pos (n := q) (by omega)
        rw [e] at h1
        exact h1 (by decide)
      have htop : ¬ Int32.ofNat cap - 1 ≤ nI n - 1 := by
        intro h
        have h := Int32.le_iff_toInt_le.mp h
        rw [show Int32.ofNat cap - 1 = nI cap - nI 1 from rfl, show nI n - 1 = nI n - nI 1 from rfl, pk_sub_toInt (by omega) (by decide), pk_sub_toInt (by omega) (by decide)] at h
        omega
      have hup : nI n - 1 + 1 = nI n := Int32.sub_add_cancel _ _
      rw [cde_lo c1]
      by_cases c0 : q < 10000
      · rw [vl_num hk T _ h33 (nI_pos' (by omega)) (nI_pos (by omega)) htop hup hxn (nI_ge (b := 10000) c0 (by decide)), hf]
        exact go (n + 1) _ (by omega) hg (stp_num c0) _ _ (nI_pred n).symm
      · rw [vl_name hk T _ h33 (nI_pos' (by omega)) (nI_pos (by omega)) htop hup hxn (nI_le (a := 10000) (by omega) (by omega)) (fun h => r_named d c0 c1 x y z u h), hf]
        exact go (n + 1) _ (by omega) hg (stp_name c0 c1) _ _ (nI_pred n).symm
    · rw [if_neg c1] at hg hn
      by_cases c3 : q = 20033
      · rw [if_pos c3] at hg
        have e1 : nI n - 1 = nI (n - 1) := pk_sub (b := 1) hg.1
        rw [vl_not hk T _ (n1 := n - 1) (by rw [c3]; rfl) (by rw [e1]; exact nI_pos (by omega)) (by rw [e1]; exact xix_n (by omega) (by omega)), hf]
        exact go n _ (by omega) hg.2 (stp_not c1 c3) _ _ rfl
      · rw [if_neg c3] at hg
        obtain ⟨h2, ⟨c, hsg, e⟩, hg'⟩ := hg
        have hsf := sg_f hsg
        have e1 : nI n - 1 = nI (n - 1) := pk_sub (b := 1) (by omega)
        have e2 : nI (n - 1) + (-1) = nI (n - 2) := by
          rw [m1]
          have := pk_sub (a := n - 1) (b := 1) (by omega)
          rw [show n - 1 - 1 = n - 2 by omega] at this
          exact this
        have e3 : nI (n - 2) + 1 = nI (n - 1) := by rw [nI_1, show n - 2 + 1 = n - 1 by omega]
        have e4 : nI (n - 2) = nI (n - 1) - 1 := by
          have := pk_sub (a := n - 1) (b := 1) (by omega)
          rw [show n - 1 - 1 = n - 2 by omega] at this
          exact this.symm
        have hst : stp x y z u q (n, f) = (n - 1, upd f (n - 2) (jn c (f (n - 2)) (f (n - 1)))) := by rw [e]; exact stp_sign (by omega)
        rw [e, cde_sg, e1, vl_sign hk T _ (n1 := n - 1) (n2 := n - 2) (sc := nI c) (r := jn c (f (n - 2)) (f (n - 1))) hsf.1 hsf.2.1 (nI_nlt (b := 1) (by omega) (by omega)) e2 e3 hsf.2.2 (xix_n (by omega) (by omega)) (xix_n (by omega) (by omega)) (fun h => by rw [hf]; exact r_joined d hsg _ _ h), hf, ← e]
        exact go (n - 1) _ (by omega) hg' hst _ _ e4
end VAL2
/-- the Text at p holds the program P -/
def TR (H : xh) (p : Nat) (key ops : Int32) (P : List Nat) : Prop := P.length ≤ 96 ∧ Gd P 0 ∧ ∃ cap sf cf, tX H p P.length cap key ops sf cf ∧ cap ≤ 96 ∧ cnt P ≤ cap ∧ ∀ j (h : j < P.length), sf j = cde P[j]
theorem GR_of {H : xh} {p : Nat} {key ops : Int32} {P : List Nat} (h : TR H p key ops P) : GR H p (pv P) := by
  intro d k δ τ κ x y z u hk
  obtain ⟨hl, hg, cap, sf, cf, T, hcap, hcnt, hP⟩ := h
  refine ⟨T_cls hk T, va_up κ (p + 2) (prg x y z u P (0, κ (p + 2))).2, ?_⟩
  have h0 := l_value (δ := δ) (τ := τ) d hk T x y z u hl hcap P 0 0 κ (κ (p + 2)) none rfl (by omega) (by omega) (fun j h => by rw [Nat.zero_add]; exact hP j h) hg
  rw [E51]
  simp only [S51_0, S51_1, S51_3, S51_4]
  rw [show pv P x y z u = (prg x y z u P (0, κ (p + 2))).2 0 from prg_alk x y z u P _ _ hg ⟨rfl, fun i hi => absurd hi (Nat.not_lt_zero _)⟩]
  exact h0
