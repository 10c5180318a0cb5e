/-! part 64: the class tells a text: its cells -/
def hq' (p m : Nat) (F E : Nat → xc) : xh := (p, m, F, E)
section LAST
variable {p m : Nat} {F E : Nat → xc}
theorem hq_new (c : xc) (n : Nat) : hnew (hq' p m F E) c n = hq' (p + 1) (m + n) (va_up F p c) E := rfl
theorem hq_1 : (hq' p m F E).1 = p := rfl
theorem hq_gf {k ci j : Nat} {fs : List Value} (h : F k = .inr (.inr (ci, fs))) : hgf (hq' p m F E) (.ref k) ci j = fs[j]? := by
  unfold hgf hget hq'
  dsimp only
  rw [h]
  unfold xobj
  dsimp only
  rw [if_pos rfl]
theorem hq_pf {k ci j : Nat} {fs : List Value} (h : F k = .inr (.inr (ci, fs))) (hj : j < fs.length) (w : Value) : hpf (hq' p m F E) (.ref k) ci j w = some (hq' p m (va_up F k (.inr (.inr (ci, fs.set j w)))) E) := by
  unfold hpf hq'
  dsimp only
  rw [h]
  unfold xobj
  dsimp only
  rw [if_pos rfl]
  dsimp only
  rw [if_pos hj]
  rfl
theorem hq_len {k n : Nat} {f : Nat → Int32} (h : F k = .inl (0, n, f)) : xalen (hq' p m F E) (.ref k) = some n := by
  unfold xalen hget hq'
  dsimp only
  rw [h]
  rfl
theorem hq_cp {k k' n n' len : Nat} {f g : Nat → Int32} (h : F k = .inl (0, n, f)) (h' : F k' = .inl (0, n', g)) (h1 : len ≤ n) (h2 : len ≤ n') (h3 : len < 2 ^ 31) : hcp (hq' p m F E) (.ref k) 0 (.ref k') 0 (nI len) = some (hq' p m (va_up F k' (.inl (0, n', va_cpy f g 0 0 len))) E) := by
  have ht : (nI len).toInt = (len : Int) := nI_toInt h3
  unfold hcp hq'
  dsimp only
  rw [h, h']
  show (if 0 ≤ (0 : Int32).toInt ∧ 0 ≤ (0 : Int32).toInt ∧ 0 ≤ (nI len).toInt ∧ (0 : Int32).toInt + (nI len).toInt ≤ n ∧ (0 : Int32).toInt + (nI len).toInt ≤ n' then some (hset _ k' (.inl (0, n', va_cpy f g (0 : Int32).toInt.toNat (0 : Int32).toInt.toNat (nI len).toInt.toNat))) else none) = _
  rw [ht, show (0 : Int32).toInt = 0 from rfl, if_pos (by omega), Int.toNat_natCast]
  rfl
theorem r_copyOf (d : Nat) {S : Nat → Int32} {len : Nat} (h31 : F 31 = .inl (0, 96, S)) (hp : 84 ≤ p) (hl : len < 96) : Ev (d + 2) 216 [.ref 31, .int (nI len)] (hq' p m F E) = some (some (.ref p), hq' (p + 1) (m + len) (va_up F p (.inl (0, len, va_cpy S (fun _ => 0) 0 0 len))) E) := by
  have ht : (nI len).toInt = (len : Int) := nI_toInt (by omega)
  have hne : ¬ nI len = Int32.ofNat 96 := fun z => absurd ((nI_eq (b := 96) (by omega) (by decide)).mp z) (by omega)
  have hlt : nI len < Int32.ofNat 96 := nI_lt (b := 96) hl (by decide)
  have h31' : ∀ c, (va_up F p c) 31 = .inl (0, 96, S) := fun c => by rw [vu_n _ _ (by omega)]; exact h31
  have hcp := hq_cp (p := p + 1) (m := m + len) (E := E) (F := va_up F p (.inl (0, len, fun _ => 0))) (k := 31) (k' := p) (len := len) (h31' _) (vu_s _ _ _) (by omega) (Nat.le_refl _) (by omega)
  have hc : (0 ≤ (len : Int) ∧ (len : Int) ≤ 100000) = True := eq_true (by omega)
  rw [E216]
  simp only [S216_0, S216_1, S216_2, S216_3, S216_6, S216_13, S216_13n, S216_14, S216_15, S216_17, S216_18, S216_19, S216_20, S216_21, S216_22, S216_23, S216_24, S216_25, S216_28, S216_31, S216_32, S216_32n, Option.bind_some, Option.map_some, xpush_s, xpush_n, xcat_0, xcat_i, xcat_r, xcat_l, xcat_n, xcat_e, xir_r, Nat.reduceAdd, Nat.reduceLeDiff, Nat.zero_le, Nat.le_refl, ↓reduceIte, hq_len h31, hne, ht, hc, Int.toNat_natCast, hq_new, hq_1, hq_len (h31' _), s_min, hlt, hcp, vu_u]
theorem r_tinit (d : Nat) {key : Int32} {c k1 : Nat} (hc : c ≤ 96) (hF : F p = .inr (.inr (4, xdv4))) : Ev (d + 2) 54 [.ref p, .int key, .int (nI c), .ref k1] (hq' (p + 2) m F E) = some (none, hq' (p + 3) (m + max 1 c) (va_up (va_up (va_up F p (.inr (.inr (4, [.int key, .int (nI c), .ref k1, .null])))) (p + 2) (.inl (0, max 1 c, fun _ => 0))) p (.inr (.inr (4, [.int key, .int (nI c), .ref k1, .ref (p + 2)])))) E) := by
  have ht : (nI (max 1 c)).toInt = ((max 1 c : Nat) : Int) := nI_toInt (by omega)
  have hcc : (0 ≤ ((max 1 c : Nat) : Int) ∧ ((max 1 c : Nat) : Int) ≤ 100000) = True := eq_true (by omega)
  have hmx : ∀ h, Ev (d + 1) 202 [.int 1, .int (nI c)] h = some (some (.int (nI (max 1 c))), h) := by
    intro h
    rw [s_max]
    by_cases h1 : 1 < c
    · rw [if_pos (show (1 : Int32) < nI c from nI_lt (a := 1) h1 (by omega)), show max 1 c = c by omega]
    · rw [if_neg (show ¬ (1 : Int32) < nI c from nI_nlt (a := 1) (b := c) (by omega) (by decide)), show max 1 c = 1 by omega]
      rfl
  have p0 := hq_pf (p := p + 2) (m := m) (E := E) (j := 0) hF (by decide) (.int key)
  have p1 := hq_pf (p := p + 2) (m := m) (E := E) (F := va_up F p (.inr (.inr (4, [.int key, .int 0, .null, .null])))) (k := p) (j := 1) (vu_s _ _ _) (Nat.le_of_ble_eq_true rfl) (.int (nI c))
  have p2 := hq_pf (p := p + 2) (m := m) (E := E) (F := va_up F p (.inr (.inr (4, [.int key, .int (nI c), .null, .null])))) (k := p) (j := 2) (vu_s _ _ _) (Nat.le_of_ble_eq_true rfl) (.ref k1)
  have p3 := hq_pf (p := p + 2 + 1) (m := m + max 1 c) (E := E) (F := va_up (va_up F p (.inr (.inr (4, [.int key, .int (nI c), .ref k1, .null])))) (p + 2) (.inl (0, max 1 c, fun _ => 0))) (k := p) (j := 3) (by rw [vu_n _ _ (by omega), vu_s]) (Nat.le_of_ble_eq_true rfl) (.ref (p + 2))
  rw [vu_u] at p1 p2
  have p0' : hpf (hq' (p + 2) m F E) (.ref p) 4 0 (.int key) = some (hq' (p + 2) m (va_up F p (.inr (.inr (4, [.int key, .int 0, .null, .null])))) E) := p0
  have p1' : hpf (hq' (p + 2) m (va_up F p (.inr (.inr (4, [.int key, .int 0, .null, .null])))) E) (.ref p) 4 1 (.int (nI c)) = some (hq' (p + 2) m (va_up F p (.inr (.inr (4, [.int key, .int (nI c), .null, .null])))) E) := p1
  have p2' : hpf (hq' (p + 2) m (va_up F p (.inr (.inr (4, [.int key, .int (nI c), .null, .null])))) E) (.ref p) 4 2 (.ref k1) = some (hq' (p + 2) m (va_up F p (.inr (.inr (4, [.int key, .int (nI c), .ref k1, .null])))) E) := p2
  have p3' : hpf (hq' (p + 2 + 1) (m + max 1 c) (va_up (va_up F p (.inr (.inr (4, [.int key, .int (nI c), .ref k1, .null])))) (p + 2) (.inl (0, max 1 c, fun _ => 0))) E) (.ref p) 4 3 (.ref (p + 2)) = some (hq' (p + 2 + 1) (m + max 1 c) (va_up (va_up (va_up F p (.inr (.inr (4, [.int key, .int (nI c), .ref k1, .null])))) (p + 2) (.inl (0, max 1 c, fun _ => 0))) p (.inr (.inr (4, [.int key, .int (nI c), .ref k1, .ref (p + 2)])))) E) := p3
  rw [E54]
  simp only [S54_0, S54_1, S54_4, S54_5, S54_6, S54_9, S54_10, S54_11, S54_14, S54_15, S54_16, S54_19, S54_20, S54_21, S54_22, S54_25, S54_27, S54_30, Option.bind_some, Option.map_some, xpush_s, xpush_n, xcat_0, xcat_i, xcat_r, xcat_l, xcat_n, xcat_e, xir_r, Nat.reduceAdd, Nat.reduceLeDiff, Nat.zero_le, Nat.le_refl, ↓reduceIte, p0', p1', p2', hmx, ht, hcc, Int.toNat_natCast, hq_new, hq_1, p3']
theorem r_last (d : Nat) {key : Int32} {c len : Nat} {S : Nat → Int32} {fs : List Value} (h29 : F 29 = .inr (.inr (3, fs))) (g6 : fs[6]? = some (.int key)) (g7 : fs[7]? = some (.int (nI c))) (g8 : fs[8]? = some (.ref 31)) (g9 : fs[9]? = some (.int (nI len))) (h31 : F 31 = .inl (0, 96, S)) (hp : 84 ≤ p) (hl : len < 96) (hc : c ≤ 96) : ∃ FF, Ev (d + 3) 50 [.ref 29] (hq' p m F E) = some (some (.ref p), hq' (p + 3) (m + 4 + len + max 1 c) FF E) ∧ FF p = .inr (.inr (4, [.int key, .int (nI c), .ref (p + 1), .ref (p + 2)])) ∧ FF (p + 1) = .inl (0, len, va_cpy S (fun _ => 0) 0 0 len) ∧ FF (p + 2) = .inl (0, max 1 c, fun _ => 0) ∧ ∀ q, q ≠ p → q ≠ p + 1 → q ≠ p + 2 → FF q = F q := by
  have h29' : (va_up F p (.inr (.inr (4, xdv4)))) 29 = .inr (.inr (3, fs)) := by rw [vu_n _ _ (by omega)]; exact h29
  have e1 := r_copyOf (p := p + 1) (m := m + 4) (E := E) (F := va_up F p (.inr (.inr (4, xdv4)))) d (S := S) (by rw [vu_n _ _ (by omega)]; exact h31) (by omega) hl
  have e2 := r_tinit (p := p) (m := m + 4 + len) (E := E) (F := va_up (va_up F p (.inr (.inr (4, xdv4)))) (p + 1) (.inl (0, len, va_cpy S (fun _ => 0) 0 0 len))) d (key := key) (k1 := p + 1) hc (by rw [vu_n _ _ (by omega), vu_s])
  refine ⟨va_up (va_up (va_up (va_up (va_up F p (.inr (.inr (4, xdv4)))) (p + 1) (.inl (0, len, va_cpy S (fun _ => 0) 0 0 len))) p (.inr (.inr (4, [.int key, .int (nI c), .ref (p + 1), .null])))) (p + 2) (.inl (0, max 1 c, fun _ => 0))) p (.inr (.inr (4, [.int key, .int (nI c), .ref (p + 1), .ref (p + 2)]))), ?_, vu_s _ _ _, ?_, ?_, ?_⟩
  · rw [E50]
    simp only [S50_0, S50_3, S50_4, S50_5, S50_8, S50_9, S50_12, S50_13, S50_16, S50_17, S50_20, S50_23, S50_26, S50_26n, Option.bind_some, Option.map_some, xpush_s, xpush_n, xcat_0, xcat_i, xcat_r, xcat_l, xcat_n, xcat_e, xir_r, Nat.reduceAdd, Nat.reduceLeDiff, Nat.zero_le, Nat.le_refl, ↓reduceIte, hq_new, hq_1, hq_gf h29', g6, g7, g8, g9, e1, cat_r]
    refine (congrArg (fun z => Option.bind z _) e2).trans ?_
    simp only [S50_0, S50_3, S50_4, S50_5, S50_8, S50_9, S50_12, S50_13, S50_16, S50_17, S50_20, S50_23, S50_26, S50_26n, Option.bind_some, Option.map_some, xpush_s, xpush_n, xcat_0, xcat_i, xcat_r, xcat_l, xcat_n, xcat_e, xir_r, Nat.reduceAdd, Nat.reduceLeDiff, Nat.zero_le, Nat.le_refl, ↓reduceIte]
  · rw [vu_n _ _ (by omega), vu_n _ _ (by omega), vu_n _ _ (by omega), vu_s]
  · rw [vu_n _ _ (by omega), vu_s]
  · intro q h1 h2 h3
    rw [vu_n _ _ h1, vu_n _ _ h3, vu_n _ _ h1, vu_n _ _ h2, vu_n _ _ h1]
end LAST
section CGQ
variable {δ ε ζ : Nat → Int32} {τ1 τ2 τ3 : xt} {κ κ' : Nat → Nat → Int32} {n : Nat} {l : lk} {ke op sz : Int32} {B S : Nat → Int32} {b : Nat → Nat → Int32} {H H' : xh} {a : Nat → Nat → Int32} {s : Nat → Int32} {w : Int64} {X X' : xh}
theorem cG_cong {q : Nat} (h : H.2.2.1 q = H'.2.2.1 q) (hκ : κ q = κ' q) : (cG δ τ1 ε τ2 ζ τ3 κ n l ke op sz B S b H).2.2.1 q = (cG δ τ1 ε τ2 ζ τ3 κ' n l ke op sz B S b H').2.2.1 q := by
  unfold cG ov rh tpk tp bh
  dsimp only
  rw [h, hκ]
theorem mh_cong {q : Nat} (h : X.2.2.1 q = X'.2.2.1 q) : (mh a s w X).2.2.1 q = (mh a s w X').2.2.1 q := by
  unfold mh
  dsimp only
  rw [h]
theorem cG_h1 {q : Nat} (h : 84 ≤ q) (h3 : q % 3 ≠ 2) : (cG δ τ1 ε τ2 ζ τ3 κ n l ke op sz B S b (mh a s w X)).2.2.1 q = X.2.2.1 q := by
  unfold cG ov rh tpk tp bh mh
  dsimp only
  rw [if_neg (by omega), if_neg (by omega), if_neg (by omega), if_neg (by omega), if_neg (by omega), if_neg (by omega), if_neg (by omega), if_neg (by omega), if_neg (by omega), if_neg (by omega)]
theorem cG_h2 {q : Nat} (h : 84 ≤ q) (h3 : q % 3 = 2) : (cG δ τ1 ε τ2 ζ τ3 κ n l ke op sz B S b (mh a s w X)).2.2.1 q = scr (X.2.2.1 q) (κ q) := by
  unfold cG ov rh tpk tp bh mh
  dsimp only
  rw [if_pos ⟨h, h3⟩, if_neg (by omega), if_neg (by omega), if_neg (by omega), if_neg (by omega), if_neg (by omega), if_neg (by omega), if_neg (by omega), if_neg (by omega), if_neg (by omega)]
/-- three cells more -/
def gX (X : xh) (c0 c1 c2 : xc) (k : Nat) : xh := (X.1 + 3, X.2.1 + k, va_up (va_up (va_up X.2.2.1 X.1 c0) (X.1 + 1) c1) (X.1 + 2) c2, X.2.2.2)
theorem cG_grow {FF : Nat → xc} {k cap : Nat} {c0 c1 : xc} (hp : 84 ≤ X.1) (h3 : X.1 % 3 = 0) (h0 : FF X.1 = c0) (h1 : FF (X.1 + 1) = c1) (h2 : FF (X.1 + 2) = .inl (0, cap, fun _ => 0)) (ho : ∀ q, q ≠ X.1 → q ≠ X.1 + 1 → q ≠ X.1 + 2 → FF q = (cG δ τ1 ε τ2 ζ τ3 κ n l ke op sz B S b (mh a s w X)).2.2.1 q) : hq' (X.1 + 3) (X.2.1 + k) FF X.2.2.2 = cG δ τ1 ε τ2 ζ τ3 (va_up κ (X.1 + 2) (fun _ => 0)) n l ke op sz B S b (mh a s w (gX X c0 c1 (.inl (0, cap, fun _ => 0)) k)) := by
  refine xh_ext rfl rfl (fun q => ?_) rfl
  show FF q = _
  by_cases e0 : q = X.1
  · subst e0
    rw [h0, cG_h1 hp (by omega)]
    show _ = va_up (va_up (va_up X.2.2.1 X.1 c0) (X.1 + 1) c1) (X.1 + 2) _ X.1
    rw [vu_n _ _ (by omega), vu_n _ _ (by omega), vu_s]
  · by_cases e1 : q = X.1 + 1
    · subst e1
      rw [h1, cG_h1 (by omega) (by omega)]
      show _ = va_up (va_up (va_up X.2.2.1 X.1 c0) (X.1 + 1) c1) (X.1 + 2) _ (X.1 + 1)
      rw [vu_n _ _ (by omega), vu_s]
    · by_cases e2 : q = X.1 + 2
      · subst e2
        rw [h2, cG_h2 (by omega) (by omega), vu_s]
        show _ = scr (va_up (va_up (va_up X.2.2.1 X.1 c0) (X.1 + 1) c1) (X.1 + 2) _ (X.1 + 2)) _
        rw [vu_s]
        rfl
      · rw [ho q e0 e1 e2]
        refine cG_cong (mh_cong ?_) (vu_n _ _ e2).symm
        show _ = va_up (va_up (va_up X.2.2.1 X.1 c0) (X.1 + 1) c1) (X.1 + 2) _ q
        rw [vu_n _ _ e2, vu_n _ _ e1, vu_n _ _ e0]
end CGQ
