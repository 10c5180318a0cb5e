/-! part 44: a river becomes another -/
/-- a river's cells, each for itself -/
def rD (k : Nat) (e W M0 M1 M2 M3 : Nat → Int32) (τ : xt) (j : Nat) : xc := match j with
  | 0 => .inr (.inr (0, riF k e))
  | 1 => .inl (0, 12, W)
  | 2 => .inl (0, 10, M0)
  | 3 => .inl (0, 10, M1)
  | 4 => .inl (0, 10, M2)
  | 5 => .inl (0, 10, M3)
  | 6 => .inr (.inl (4, 14, τ.1))
  | 7 => .inl (0, 3, τ.2.1)
  | _ => .inr (.inl (4, 3, τ.2.2))
def rk (k : Nat) (e W M0 M1 M2 M3 : Nat → Int32) (τ : xt) (H : xh) : xh := (H.1, H.2.1, fun q => if k ≤ q ∧ q < k + 9 then rD k e W M0 M1 M2 M3 τ (q - k) else H.2.2.1 q, H.2.2.2)
theorem rk_rh (k : Nat) (δ : Nat → Int32) (τ : xt) (H : xh) : rh k δ τ H = rk k δ (wA δ) (mA δ 0) (mA δ 1) (mA δ 2) (mA δ 3) τ H := by
  refine xh_ext rfl rfl (fun q => ?_) rfl
  unfold rh rk
  dsimp only
  split
  · generalize q - k = j
    match j with
    | 0 => rfl
    | 1 => rfl
    | 2 => rfl
    | 3 => rfl
    | 4 => rfl
    | 5 => rfl
    | 6 => rfl
    | 7 => rfl
    | n + 8 => rfl
  · rfl
/-- two rivers: the first is being written, the second read -/
def r2 (k k' : Nat) (e W M0 M1 M2 M3 : Nat → Int32) (τ : xt) (δ' : Nat → Int32) (τ' : xt) (κ : Nat → Nat → Int32) (H : xh) : xh := ov κ (rk k e W M0 M1 M2 M3 τ (rh k' δ' τ' H))
def mkt (f : Nat → Option Nat) (g : Nat → Int32) (h : Nat → Option Nat) : xt := (f, g, h)
def dj (k k' : Nat) : Prop := (k + 9 ≤ k' ∨ k' + 9 ≤ k) ∧ k < 50 ∧ k' < 50
/-- a Text lies at p -/
def vT (H : xh) (p : Nat) : Prop := 84 ≤ p ∧ p % 3 = 0 ∧ ∃ fs, H.2.2.1 p = .inr (.inr (4, fs))
def VT (H : xh) (τ : xt) : Prop := (∀ i p, i < 14 → τ.1 i = some p → vT H p) ∧ (∀ i p, i < 3 → τ.2.2 i = some p → vT H p)
/-- texts, lastTold, laws alike -/
def tE (τ τ' : xt) : Prop := (∀ i, i < 14 → τ.1 i = τ'.1 i) ∧ ∀ i, i < 3 → τ.2.1 i = τ'.2.1 i ∧ τ.2.2 i = τ'.2.2 i
section BECO
variable {k k' : Nat} {e W M0 M1 M2 M3 : Nat → Int32} {τ : xt} {δ' : Nat → Int32} {τ' : xt} {κ : Nat → Nat → Int32} {H : xh}
theorem r2_c (hd : dj k k') {j : Nat} (hj : j < 9) : (r2 k k' e W M0 M1 M2 M3 τ δ' τ' κ H).2.2.1 (k + j) = rD k e W M0 M1 M2 M3 τ j := by
  obtain ⟨h1, h2, h3⟩ := hd
  show (if 84 ≤ k + j ∧ (k + j) % 3 = 2 then _ else if k ≤ k + j ∧ k + j < k + 9 then rD k e W M0 M1 M2 M3 τ (k + j - k) else _) = _
  rw [if_neg (by omega), if_pos (by omega), show k + j - k = j by omega]
theorem r2_d (hd : dj k k') {j : Nat} (hj : j < 9) : (r2 k k' e W M0 M1 M2 M3 τ δ' τ' κ H).2.2.1 (k' + j) = rC k' δ' τ' j := by
  obtain ⟨h1, h2, h3⟩ := hd
  show (if 84 ≤ k' + j ∧ (k' + j) % 3 = 2 then _ else if k ≤ k' + j ∧ k' + j < k + 9 then _ else if k' ≤ k' + j ∧ k' + j < k' + 9 then rC k' δ' τ' (k' + j - k') else _) = _
  rw [if_neg (by omega), if_neg (by omega), if_pos (by omega), show k' + j - k' = j by omega]
theorem r2_set (hd : dj k k') {j : Nat} (hj : j < 9) {c : xc} {e1 W1 M01 M11 M21 M31 : Nat → Int32} {τ1 : xt} (hc : ∀ i, i < 9 → rD k e1 W1 M01 M11 M21 M31 τ1 i = if i = j then c else rD k e W M0 M1 M2 M3 τ i) : hset (r2 k k' e W M0 M1 M2 M3 τ δ' τ' κ H) (k + j) c = r2 k k' e1 W1 M01 M11 M21 M31 τ1 δ' τ' κ H := by
  obtain ⟨h1, h2, h3⟩ := hd
  refine xh_ext rfl rfl (fun q => ?_) rfl
  unfold hset r2 ov rk
  dsimp only
  unfold va_up
  by_cases hq : q = k + j
  · subst hq
    have := hc j hj
    rw [if_pos rfl] at this
    rw [if_pos rfl, if_neg (by omega), if_pos (by omega), show k + j - k = j by omega, this]
  · rw [if_neg hq]
    dsimp only
    by_cases h5 : 84 ≤ q ∧ q % 3 = 2
    · rw [if_pos h5, if_pos h5, if_neg (show ¬ (k ≤ q ∧ q < k + 9) by omega), if_neg (show ¬ (k ≤ q ∧ q < k + 9) by omega)]
    · rw [if_neg h5, if_neg h5]
      by_cases h6 : k ≤ q ∧ q < k + 9
      · rw [if_pos h6, if_pos h6, hc (q - k) (by omega), if_neg (by omega)]
      · rw [if_neg h6, if_neg h6]
theorem r2_g (hd : dj k k') (j : Nat) : hgf (r2 k k' e W M0 M1 M2 M3 τ δ' τ' κ H) (.ref k) 0 j = (riF k e)[j]? := by
  have := r2_c (e := e) (W := W) (M0 := M0) (M1 := M1) (M2 := M2) (M3 := M3) (τ := τ) (δ' := δ') (τ' := τ') (κ := κ) (H := H) hd (j := 0) (by decide)
  unfold hgf hget
  dsimp only
  rw [Nat.add_zero] at this
  rw [this]
  rfl
theorem r2_h (hd : dj k k') (j : Nat) : hgf (r2 k k' e W M0 M1 M2 M3 τ δ' τ' κ H) (.ref k') 0 j = (riF k' δ')[j]? := by
  have := r2_d (e := e) (W := W) (M0 := M0) (M1 := M1) (M2 := M2) (M3 := M3) (τ := τ) (δ' := δ') (τ' := τ') (κ := κ) (H := H) hd (j := 0) (by decide)
  unfold hgf hget
  dsimp only
  rw [Nat.add_zero] at this
  rw [this]
  rfl
theorem r2_p (hd : dj k k') {j : Nat} (hj : j < 16) {v : Value} {e1 : Nat → Int32} (h0 : (riF k e).set j v = riF k e1) : hpf (r2 k k' e W M0 M1 M2 M3 τ δ' τ' κ H) (.ref k) 0 j v = some (r2 k k' e1 W M0 M1 M2 M3 τ δ' τ' κ H) := by
  have h1 := r2_c (e := e) (W := W) (M0 := M0) (M1 := M1) (M2 := M2) (M3 := M3) (τ := τ) (δ' := δ') (τ' := τ') (κ := κ) (H := H) hd (j := 0) (by decide)
  unfold hpf
  dsimp only
  rw [Nat.add_zero] at h1
  rw [h1]
  show (if j < 16 then some (hset _ k (.inr (.inr (0, (riF k e).set j v)))) else none) = _
  rw [if_pos hj, h0]
  refine congrArg some (r2_set (j := 0) hd (by decide) ?_)
  intro i hi
  by_cases h : i = 0
  · subst h; rfl
  · rw [if_neg h]
    match i, h with
    | 1, _ => rfl
    | 2, _ => rfl
    | 3, _ => rfl
    | 4, _ => rfl
    | 5, _ => rfl
    | 6, _ => rfl
    | 7, _ => rfl
    | n + 8, _ => rfl
theorem r2_cp (hd : dj k k') {j n : Nat} (hj : j < 9) {N : Int32} (hN : N.toInt = n) {f g : Nat → Int32} (h1 : rC k' δ' τ' j = .inl (0, n, f)) (h2 : rD k e W M0 M1 M2 M3 τ j = .inl (0, n, g)) : hcp (r2 k k' e W M0 M1 M2 M3 τ δ' τ' κ H) (.ref (k' + j)) 0 (.ref (k + j)) 0 N = some (hset (r2 k k' e W M0 M1 M2 M3 τ δ' τ' κ H) (k + j) (.inl (0, n, va_cpy f g 0 0 n))) := by
  unfold hcp
  dsimp only
  rw [r2_d hd hj, r2_c hd hj, h1, h2]
  show (if 0 ≤ (0 : Int32).toInt ∧ 0 ≤ (0 : Int32).toInt ∧ 0 ≤ N.toInt ∧ (0 : Int32).toInt + N.toInt ≤ (n : Int) ∧ (0 : Int32).toInt + N.toInt ≤ (n : Int) then some (hset _ (k + j) (.inl (0, n, va_cpy f g (0 : Int32).toInt.toNat (0 : Int32).toInt.toNat N.toInt.toNat))) else none) = _
  rw [hN, show (0 : Int32).toInt = 0 from rfl, if_pos (by omega)]
  rfl
theorem cpy_wA (δ δ' : Nat → Int32) : va_cpy (wA δ') (wA δ) 0 0 12 = wA δ' := by
  funext j
  by_cases h : j < 12
  · rw [pk_cpy_in (by omega) (by omega), Nat.zero_add, Nat.sub_zero]
  · rw [pk_cpy_out (by omega)]
    unfold wA
    rw [if_neg h, if_neg h]
theorem cpy_mA (δ δ' : Nat → Int32) (i : Nat) : va_cpy (mA δ' i) (mA δ i) 0 0 10 = mA δ' i := by
  funext j
  by_cases h : j < 10
  · rw [pk_cpy_in (by omega) (by omega), Nat.zero_add, Nat.sub_zero]
  · rw [pk_cpy_out (by omega)]
    unfold mA
    rw [if_neg h, if_neg h]
end BECO
theorem riF_low {k : Nat} {e e' : Nat → Int32} (h : ∀ i, i < 8 → e i = e' i) : riF k e = riF k e' := by
  unfold riF
  rw [h 0 (by decide), h 1 (by decide), h 2 (by decide), h 3 (by decide), h 4 (by decide), h 5 (by decide), h 6 (by decide), h 7 (by decide)]
section BEC2
variable {k k' : Nat} {δ : Nat → Int32} {τ : xt} {δ' : Nat → Int32} {τ' : xt} {κ : Nat → Nat → Int32} {H : xh}
theorem rD_o {k : Nat} {e W M0 M1 M2 M3 : Nat → Int32} {τ : xt} (i : Nat) : rD k e W M0 M1 M2 M3 τ i = if i = 0 then .inr (.inr (0, riF k e)) else if i = 1 then .inl (0, 12, W) else if i = 2 then .inl (0, 10, M0) else if i = 3 then .inl (0, 10, M1) else if i = 4 then .inl (0, 10, M2) else if i = 5 then .inl (0, 10, M3) else if i = 6 then .inr (.inl (4, 14, τ.1)) else if i = 7 then .inl (0, 3, τ.2.1) else .inr (.inl (4, 3, τ.2.2)) := by
  match i with
  | 0 => rfl
  | 1 => rfl
  | 2 => rfl
  | 3 => rfl
  | 4 => rfl
  | 5 => rfl
  | 6 => rfl
  | 7 => rfl
  | n + 8 => simp [rD]
theorem b_cp1 (hd : dj k k') {e M0 M1 M2 M3 : Nat → Int32} : hcp (r2 k k' e (wA δ) M0 M1 M2 M3 τ δ' τ' κ H) (.ref (k' + 1)) 0 (.ref (k + 1)) 0 12 = some (r2 k k' e (wA δ') M0 M1 M2 M3 τ δ' τ' κ H) := by
  rw [r2_cp hd (j := 1) (n := 12) (by decide) rfl rfl rfl, cpy_wA]
  refine congrArg some (r2_set hd (by decide) (fun i hi => ?_))
  match i, hi with
  | 0, _ => rfl
  | 1, _ => rfl
  | 2, _ => rfl
  | 3, _ => rfl
  | 4, _ => rfl
  | 5, _ => rfl
  | 6, _ => rfl
  | 7, _ => rfl
  | 8, _ => rfl
theorem b_cp2 (hd : dj k k') {e W M1 M2 M3 : Nat → Int32} : hcp (r2 k k' e W (mA δ 0) M1 M2 M3 τ δ' τ' κ H) (.ref (k' + 2)) 0 (.ref (k + 2)) 0 10 = some (r2 k k' e W (mA δ' 0) M1 M2 M3 τ δ' τ' κ H) := by
  rw [r2_cp hd (j := 2) (n := 10) (by decide) rfl rfl rfl, cpy_mA]
  refine congrArg some (r2_set hd (by decide) (fun i hi => ?_))
  match i, hi with
  | 0, _ => rfl
  | 1, _ => rfl
  | 2, _ => rfl
  | 3, _ => rfl
  | 4, _ => rfl
  | 5, _ => rfl
  | 6, _ => rfl
  | 7, _ => rfl
  | 8, _ => rfl
theorem b_cp3 (hd : dj k k') {e W M0 M2 M3 : Nat → Int32} : hcp (r2 k k' e W M0 (mA δ 1) M2 M3 τ δ' τ' κ H) (.ref (k' + 3)) 0 (.ref (k + 3)) 0 10 = some (r2 k k' e W M0 (mA δ' 1) M2 M3 τ δ' τ' κ H) := by
  rw [r2_cp hd (j := 3) (n := 10) (by decide) rfl rfl rfl, cpy_mA]
  refine congrArg some (r2_set hd (by decide) (fun i hi => ?_))
  match i, hi with
  | 0, _ => rfl
  | 1, _ => rfl
  | 2, _ => rfl
  | 3, _ => rfl
  | 4, _ => rfl
  | 5, _ => rfl
  | 6, _ => rfl
  | 7, _ => rfl
  | 8, _ => rfl
theorem b_cp4 (hd : dj k k') {e W M0 M1 M3 : Nat → Int32} : hcp (r2 k k' e W M0 M1 (mA δ 2) M3 τ δ' τ' κ H) (.ref (k' + 4)) 0 (.ref (k + 4)) 0 10 = some (r2 k k' e W M0 M1 (mA δ' 2) M3 τ δ' τ' κ H) := by
  rw [r2_cp hd (j := 4) (n := 10) (by decide) rfl rfl rfl, cpy_mA]
  refine congrArg some (r2_set hd (by decide) (fun i hi => ?_))
  match i, hi with
  | 0, _ => rfl
  | 1, _ => rfl
  | 2, _ => rfl
  | 3, _ => rfl
  | 4, _ => rfl
  | 5, _ => rfl
  | 6, _ => rfl
  | 7, _ => rfl
  | 8, _ => rfl
theorem b_cp5 (hd : dj k k') {e W M0 M1 M2 : Nat → Int32} : hcp (r2 k k' e W M0 M1 M2 (mA δ 3) τ δ' τ' κ H) (.ref (k' + 5)) 0 (.ref (k + 5)) 0 10 = some (r2 k k' e W M0 M1 M2 (mA δ' 3) τ δ' τ' κ H) := by
  rw [r2_cp hd (j := 5) (n := 10) (by decide) rfl rfl rfl, cpy_mA]
  refine congrArg some (r2_set hd (by decide) (fun i hi => ?_))
  match i, hi with
  | 0, _ => rfl
  | 1, _ => rfl
  | 2, _ => rfl
  | 3, _ => rfl
  | 4, _ => rfl
  | 5, _ => rfl
  | 6, _ => rfl
  | 7, _ => rfl
  | 8, _ => rfl
variable {e W M0 M1 M2 M3 : Nat → Int32}
theorem b_q (hd : dj k k') {j n : Nat} (hj : j < 9) {f : Nat → Option Nat} (hc : rC k' δ' τ' j = .inr (.inl (4, n, f))) {i : Nat} (hi : i < n) (hn : n ≤ 100) : hrq (r2 k k' e W M0 M1 M2 M3 τ δ' τ' κ H) (.ref (k' + j)) (nI i) = some (va_rf (f i)) := by
  unfold hrq
  dsimp only
  rw [r2_d hd hj, hc]
  show (match xix (nI i) n with | some j => some (va_rf (f j)) | none => none) = _
  rw [xix_n hi (by omega)]
theorem b_w (hd : dj k k') {j n : Nat} (hj : j < 9) {f : Nat → Option Nat} (hc : rD k e W M0 M1 M2 M3 τ j = .inr (.inl (4, n, f))) {i : Nat} (hi : i < n) (hn : n ≤ 100) {o : Option Nat} (ho : ∀ p, o = some p → vT H p) : hwq (r2 k k' e W M0 M1 M2 M3 τ δ' τ' κ H) (.ref (k + j)) (nI i) (va_rf o) = some (hset (r2 k k' e W M0 M1 M2 M3 τ δ' τ' κ H) (k + j) (.inr (.inl (4, n, va_up f i o)))) := by
  unfold hwq
  dsimp only
  rw [r2_c hd hj, hc]
  show (match xix (nI i) n with | some j' => (match va_rf o with | .null => some (hset (r2 k k' e W M0 M1 M2 M3 τ δ' τ' κ H) (k + j) (.inr (.inl (4, n, va_up f j' none)))) | .ref q => (match xobj ((r2 k k' e W M0 M1 M2 M3 τ δ' τ' κ H).2.2.1 q) 4 with | some _ => some (hset (r2 k k' e W M0 M1 M2 M3 τ δ' τ' κ H) (k + j) (.inr (.inl (4, n, va_up f j' (some q))))) | none => none) | _ => none) | none => none) = _
  rw [xix_n hi (by omega)]
  cases o with
  | none => rfl
  | some p =>
    obtain ⟨p1, p2, fs, p3⟩ := ho p rfl
    have hp : (r2 k k' e W M0 M1 M2 M3 τ δ' τ' κ H).2.2.1 p = .inr (.inr (4, fs)) := by
      obtain ⟨h1, h2, h3⟩ := hd
      show (if 84 ≤ p ∧ p % 3 = 2 then _ else if k ≤ p ∧ p < k + 9 then _ else if k' ≤ p ∧ p < k' + 9 then _ else H.2.2.1 p) = _
      rw [if_neg (by omega), if_neg (by omega), if_neg (by omega), p3]
    show (match xobj ((r2 k k' e W M0 M1 M2 M3 τ δ' τ' κ H).2.2.1 p) 4 with | some _ => some (hset (r2 k k' e W M0 M1 M2 M3 τ δ' τ' κ H) (k + j) (.inr (.inl (4, n, va_up f i (some p))))) | none => none) = _
    rw [hp]
    rfl
theorem b_t (hd : dj k k') {i : Nat} (hi : i < 14) (hv : VT H τ') : hwq (r2 k k' e W M0 M1 M2 M3 τ δ' τ' κ H) (.ref (k + 6)) (nI i) (va_rf (τ'.1 i)) = some (r2 k k' e W M0 M1 M2 M3 (mkt (va_up τ.1 i (τ'.1 i)) τ.2.1 τ.2.2) δ' τ' κ H) := by
  rw [b_w hd (j := 6) (n := 14) (by decide) rfl hi (by decide) (fun p hp => hv.1 i p hi hp)]
  refine congrArg some (r2_set hd (by decide) (fun j hj => ?_))
  match j, hj with
  | 0, _ => rfl
  | 1, _ => rfl
  | 2, _ => rfl
  | 3, _ => rfl
  | 4, _ => rfl
  | 5, _ => rfl
  | 6, _ => rfl
  | 7, _ => rfl
  | 8, _ => rfl
theorem b_l (hd : dj k k') {i : Nat} (hi : i < 3) (hv : VT H τ') : hwq (r2 k k' e W M0 M1 M2 M3 τ δ' τ' κ H) (.ref (k + 8)) (nI i) (va_rf (τ'.2.2 i)) = some (r2 k k' e W M0 M1 M2 M3 (mkt τ.1 τ.2.1 (va_up τ.2.2 i (τ'.2.2 i))) δ' τ' κ H) := by
  rw [b_w hd (j := 8) (n := 3) (by decide) rfl hi (by decide) (fun p hp => hv.2 i p hi hp)]
  refine congrArg some (r2_set hd (by decide) (fun j hj => ?_))
  match j, hj with
  | 0, _ => rfl
  | 1, _ => rfl
  | 2, _ => rfl
  | 3, _ => rfl
  | 4, _ => rfl
  | 5, _ => rfl
  | 6, _ => rfl
  | 7, _ => rfl
  | 8, _ => rfl
theorem b_r7 (hd : dj k k') {i : Nat} (hi : i < 3) : hrd (r2 k k' e W M0 M1 M2 M3 τ δ' τ' κ H) (.ref (k' + 7)) 0 (nI i) = some (τ'.2.1 i) := by
  unfold hrd hget
  dsimp only
  rw [r2_d hd (by decide)]
  show (match xix (nI i) 3 with | some j => some (τ'.2.1 j) | none => none) = _
  rw [xix_n hi (by decide)]
theorem b_w7 (hd : dj k k') {i : Nat} (hi : i < 3) (x : Int32) : hwr (r2 k k' e W M0 M1 M2 M3 τ δ' τ' κ H) (.ref (k + 7)) 0 (nI i) x = some (r2 k k' e W M0 M1 M2 M3 (mkt τ.1 (upd τ.2.1 i x) τ.2.2) δ' τ' κ H) := by
  unfold hwr
  dsimp only
  rw [r2_c hd (by decide)]
  show (match xix (nI i) 3 with | some j => some (hset (r2 k k' e W M0 M1 M2 M3 τ δ' τ' κ H) (k + 7) (.inl (0, 3, upd τ.2.1 j x))) | none => none) = _
  rw [xix_n hi (by decide)]
  refine congrArg some (r2_set hd (by decide) (fun j hj => ?_))
  match j, hj with
  | 0, _ => rfl
  | 1, _ => rfl
  | 2, _ => rfl
  | 3, _ => rfl
  | 4, _ => rfl
  | 5, _ => rfl
  | 6, _ => rfl
  | 7, _ => rfl
  | 8, _ => rfl
theorem bq_6 (hd : dj k k') {i : Nat} (hi : i < 14) : hrq (r2 k k' e W M0 M1 M2 M3 τ δ' τ' κ H) (.ref (k' + 6)) (nI i) = some (va_rf (τ'.1 i)) := b_q hd (by decide) rfl hi (by decide)
theorem bq_8 (hd : dj k k') {i : Nat} (hi : i < 3) : hrq (r2 k k' e W M0 M1 M2 M3 τ δ' τ' κ H) (.ref (k' + 8)) (nI i) = some (va_rf (τ'.2.2 i)) := b_q hd (by decide) rfl hi (by decide)
theorem bg_6 (hd : dj k k') : hgf (r2 k k' e W M0 M1 M2 M3 τ δ' τ' κ H) (.ref k) 0 13 = some (.ref (k + 6)) := r2_g hd 13
theorem bg_7 (hd : dj k k') : hgf (r2 k k' e W M0 M1 M2 M3 τ δ' τ' κ H) (.ref k) 0 14 = some (.ref (k + 7)) := r2_g hd 14
theorem bg_8 (hd : dj k k') : hgf (r2 k k' e W M0 M1 M2 M3 τ δ' τ' κ H) (.ref k) 0 15 = some (.ref (k + 8)) := r2_g hd 15
theorem bh_6 (hd : dj k k') : hgf (r2 k k' e W M0 M1 M2 M3 τ δ' τ' κ H) (.ref k') 0 13 = some (.ref (k' + 6)) := r2_h hd 13
theorem bh_7 (hd : dj k k') : hgf (r2 k k' e W M0 M1 M2 M3 τ δ' τ' κ H) (.ref k') 0 14 = some (.ref (k' + 7)) := r2_h hd 14
theorem bh_8 (hd : dj k k') : hgf (r2 k k' e W M0 M1 M2 M3 τ δ' τ' κ H) (.ref k') 0 15 = some (.ref (k' + 8)) := r2_h hd 15
theorem b_loop1 (ev : xe) (hd : dj k k') (hv : VT H τ') : ∀ j i, i + j = 14 → ∀ τ : xt, (∀ t, t < i → τ.1 t = τ'.1 t) → ∃ f, (∀ t, t < 14 → f t = τ'.1 t) ∧ RF 20 ev 141 [some (.ref k), some (.ref k'), some (.int (nI i))] [] (r2 k k' e W M0 M1 M2 M3 τ δ' τ' κ H) = RF 20 ev 165 [some (.ref k), some (.ref k'), some (.int (nI 14))] [] (r2 k k' e W M0 M1 M2 M3 (mkt f τ.2.1 τ.2.2) δ' τ' κ H)
  | 0, i, h, τ, ht => by
    have e' : i = 14 := by omega
    subst e'
    refine ⟨τ.1, ht, ?_⟩
    rw [S20_141]
    simp only [S20_142, S20_144, S20_147, S20_148, S20_151, S20_152, S20_153, S20_156, S20_157, S20_158, S20_159, S20_162, Option.bind_some, Option.map_some, xpush_s, xpush_n, xcat_0, xcat_i, xcat_r, xcat_l, xcat_n, xcat_e, xir_r, Nat.reduceAdd, Nat.reduceLeDiff, Nat.zero_le, Nat.le_refl, ↓reduceIte, show ((14 : Int32) ≤ nI 14) = True from eq_true (Int32.le_refl _)]
    rfl
  | j + 1, i, h, τ, ht => by
    have hc : ¬ (14 : Int32) ≤ nI i := nI_ge (b := 14) (by omega) (by decide)
    obtain ⟨f, h1, h2⟩ := b_loop1 ev hd hv j (i + 1) (by omega) (mkt (va_up τ.1 i (τ'.1 i)) τ.2.1 τ.2.2) (fun t ht' => by
      show va_up τ.1 i (τ'.1 i) t = _
      by_cases q : t = i
      · subst q; rw [vu_s]
      · rw [vu_n _ _ q]; exact ht t (by omega))
    refine ⟨f, h1, ?_⟩
    rw [S20_141]
    simp only [S20_142, S20_144, S20_147, S20_148, S20_151, S20_152, S20_153, S20_156, S20_157, S20_158, S20_159, S20_162, Option.bind_some, Option.map_some, xpush_s, xpush_n, xcat_0, xcat_i, xcat_r, xcat_l, xcat_n, xcat_e, xir_r, Nat.reduceAdd, Nat.reduceLeDiff, Nat.zero_le, Nat.le_refl, ↓reduceIte, hc, bg_6 hd, bh_6 hd, bq_6 hd (show i < 14 by omega), b_t hd (show i < 14 by omega) hv, nI_1]
    exact h2
theorem b_loop2 (ev : xe) (hd : dj k k') (hv : VT H τ') : ∀ j i, i + j = 3 → ∀ τ : xt, (∀ t, t < i → τ.2.1 t = τ'.2.1 t ∧ τ.2.2 t = τ'.2.2 t) → ∃ g h, (∀ t, t < 3 → g t = τ'.2.1 t ∧ h t = τ'.2.2 t) ∧ RF 20 ev 167 [some (.ref k), some (.ref k'), some (.int (nI i))] [] (r2 k k' e W M0 M1 M2 M3 τ δ' τ' κ H) = some (none, r2 k k' e W M0 M1 M2 M3 (mkt τ.1 g h) δ' τ' κ H)
  | 0, i, h, τ, ht => by
    have e' : i = 3 := by omega
    subst e'
    refine ⟨τ.2.1, τ.2.2, ht, ?_⟩
    rw [S20_167]
    simp only [S20_168, S20_169, S20_172, S20_173, S20_176, S20_177, S20_178, S20_181, S20_182, S20_183, S20_184, S20_185, S20_188, S20_189, S20_190, S20_193, S20_194, S20_195, S20_196, S20_199, S20_202, Option.bind_some, Option.map_some, xpush_s, xpush_n, xcat_0, xcat_i, xcat_r, xcat_l, xcat_n, xcat_e, xir_r, Nat.reduceAdd, Nat.reduceLeDiff, Nat.zero_le, Nat.le_refl, ↓reduceIte, show ((3 : Int32) ≤ nI 3) = True from eq_true (Int32.le_refl _)]
    rfl
  | j + 1, i, hij, τ, ht => by
    have hc : ¬ (3 : Int32) ≤ nI i := nI_ge (b := 3) (by omega) (by decide)
    obtain ⟨g, h0, h1, h2⟩ := b_loop2 ev hd hv j (i + 1) (by omega) (mkt τ.1 (upd τ.2.1 i (τ'.2.1 i)) (va_up τ.2.2 i (τ'.2.2 i))) (fun t ht' => by
      show upd τ.2.1 i (τ'.2.1 i) t = _ ∧ va_up τ.2.2 i (τ'.2.2 i) t = _
      by_cases q : t = i
      · subst q; rw [vu_s, up_s]; exact ⟨rfl, rfl⟩
      · rw [vu_n _ _ q, up_n _ _ q]; exact ht t (by omega))
    refine ⟨g, h0, h1, ?_⟩
    rw [S20_167]
    simp only [S20_168, S20_169, S20_172, S20_173, S20_176, S20_177, S20_178, S20_181, S20_182, S20_183, S20_184, S20_185, S20_188, S20_189, S20_190, S20_193, S20_194, S20_195, S20_196, S20_199, S20_202, Option.bind_some, Option.map_some, xpush_s, xpush_n, xcat_0, xcat_i, xcat_r, xcat_l, xcat_n, xcat_e, xir_r, Nat.reduceAdd, Nat.reduceLeDiff, Nat.zero_le, Nat.le_refl, ↓reduceIte, hc, bg_7 hd, bh_7 hd, bg_8 hd, bh_8 hd, b_r7 hd (show i < 3 by omega), b_w7 hd (show i < 3 by omega), bq_8 hd (show i < 3 by omega), b_l hd (show i < 3 by omega) hv, nI_1]
    exact h2
end BEC2
section BEC3
variable {k k' : Nat} {δ : Nat → Int32} {τ : xt} {δ' : Nat → Int32} {τ' : xt} {κ : Nat → Nat → Int32} {H : xh}
theorem r_become (d : Nat) (hd : dj k k') (hv : VT H τ') : ∃ τ'', tE τ'' τ' ∧ Ev (d + 1) 20 [.ref k, .ref k'] (ov κ (rh k δ τ (rh k' δ' τ' H))) = some (none, ov κ (rh k δ' τ'' (rh k' δ' τ' H))) := by
  have low : ∃ e1 : Nat → Int32, (∀ i, i < 8 → e1 i = δ' i) ∧ RF 20 (Ev d) 0 [some (.ref k), some (.ref k'), none] [] (r2 k k' δ (wA δ) (mA δ 0) (mA δ 1) (mA δ 2) (mA δ 3) τ δ' τ' κ H) = RF 20 (Ev d) 141 [some (.ref k), some (.ref k'), some (.int (nI 0))] [] (r2 k k' e1 (wA δ') (mA δ' 0) (mA δ' 1) (mA δ' 2) (mA δ' 3) τ δ' τ' κ H) := by
    refine ⟨upd (upd (upd (upd (upd (upd (upd (upd δ 0 (δ' 0)) 2 (δ' 2)) 3 (δ' 3)) 4 (δ' 4)) 5 (δ' 5)) 1 (δ' 1)) 6 (δ' 6)) 7 (δ' 7), ?_, ?_⟩
    · intro i hi
      match i, hi with
      | 0, _ => rfl
      | 1, _ => rfl
      | 2, _ => rfl
      | 3, _ => rfl
      | 4, _ => rfl
      | 5, _ => rfl
      | 6, _ => rfl
      | 7, _ => rfl
    · have g0 : ∀ {e W M0 M1 M2 M3 : Nat → Int32}, hgf (r2 k k' e W M0 M1 M2 M3 τ δ' τ' κ H) (.ref k) 0 0 = some (.ref (k + 1)) := r2_g hd 0
      have g2 : ∀ {e W M0 M1 M2 M3 : Nat → Int32}, hgf (r2 k k' e W M0 M1 M2 M3 τ δ' τ' κ H) (.ref k) 0 2 = some (.ref (k + 2)) := r2_g hd 2
      have g3 : ∀ {e W M0 M1 M2 M3 : Nat → Int32}, hgf (r2 k k' e W M0 M1 M2 M3 τ δ' τ' κ H) (.ref k) 0 3 = some (.ref (k + 3)) := r2_g hd 3
      have g4 : ∀ {e W M0 M1 M2 M3 : Nat → Int32}, hgf (r2 k k' e W M0 M1 M2 M3 τ δ' τ' κ H) (.ref k) 0 4 = some (.ref (k + 4)) := r2_g hd 4
      have g5 : ∀ {e W M0 M1 M2 M3 : Nat → Int32}, hgf (r2 k k' e W M0 M1 M2 M3 τ δ' τ' κ H) (.ref k) 0 5 = some (.ref (k + 5)) := r2_g hd 5
      have q0 : ∀ {e W M0 M1 M2 M3 : Nat → Int32}, hgf (r2 k k' e W M0 M1 M2 M3 τ δ' τ' κ H) (.ref k') 0 0 = some (.ref (k' + 1)) := r2_h hd 0
      have q1 : ∀ {e W M0 M1 M2 M3 : Nat → Int32}, hgf (r2 k k' e W M0 M1 M2 M3 τ δ' τ' κ H) (.ref k') 0 1 = some (.int (δ' 0)) := r2_h hd 1
      have q2 : ∀ {e W M0 M1 M2 M3 : Nat → Int32}, hgf (r2 k k' e W M0 M1 M2 M3 τ δ' τ' κ H) (.ref k') 0 2 = some (.ref (k' + 2)) := r2_h hd 2
      have q3 : ∀ {e W M0 M1 M2 M3 : Nat → Int32}, hgf (r2 k k' e W M0 M1 M2 M3 τ δ' τ' κ H) (.ref k') 0 3 = some (.ref (k' + 3)) := r2_h hd 3
      have q4 : ∀ {e W M0 M1 M2 M3 : Nat → Int32}, hgf (r2 k k' e W M0 M1 M2 M3 τ δ' τ' κ H) (.ref k') 0 4 = some (.ref (k' + 4)) := r2_h hd 4
      have q5 : ∀ {e W M0 M1 M2 M3 : Nat → Int32}, hgf (r2 k k' e W M0 M1 M2 M3 τ δ' τ' κ H) (.ref k') 0 5 = some (.ref (k' + 5)) := r2_h hd 5
      have q6 : ∀ {e W M0 M1 M2 M3 : Nat → Int32}, hgf (r2 k k' e W M0 M1 M2 M3 τ δ' τ' κ H) (.ref k') 0 6 = some (.int (δ' 2)) := r2_h hd 6
      have q7 : ∀ {e W M0 M1 M2 M3 : Nat → Int32}, hgf (r2 k k' e W M0 M1 M2 M3 τ δ' τ' κ H) (.ref k') 0 7 = some (.int (δ' 3)) := r2_h hd 7
      have q8 : ∀ {e W M0 M1 M2 M3 : Nat → Int32}, hgf (r2 k k' e W M0 M1 M2 M3 τ δ' τ' κ H) (.ref k') 0 8 = some (.int (δ' 4)) := r2_h hd 8
      have q9 : ∀ {e W M0 M1 M2 M3 : Nat → Int32}, hgf (r2 k k' e W M0 M1 M2 M3 τ δ' τ' κ H) (.ref k') 0 9 = some (.int (δ' 5)) := r2_h hd 9
      have q10 : ∀ {e W M0 M1 M2 M3 : Nat → Int32}, hgf (r2 k k' e W M0 M1 M2 M3 τ δ' τ' κ H) (.ref k') 0 10 = some (.int (δ' 1)) := r2_h hd 10
      have q11 : ∀ {e W M0 M1 M2 M3 : Nat → Int32}, hgf (r2 k k' e W M0 M1 M2 M3 τ δ' τ' κ H) (.ref k') 0 11 = some (.int (δ' 6)) := r2_h hd 11
      have q12 : ∀ {e W M0 M1 M2 M3 : Nat → Int32}, hgf (r2 k k' e W M0 M1 M2 M3 τ δ' τ' κ H) (.ref k') 0 12 = some (.int (δ' 7)) := r2_h hd 12
      have p1 : ∀ {e W M0 M1 M2 M3 : Nat → Int32} (x : Int32), hpf (r2 k k' e W M0 M1 M2 M3 τ δ' τ' κ H) (.ref k) 0 1 (.int x) = some (r2 k k' (upd e 0 x) W M0 M1 M2 M3 τ δ' τ' κ H) := fun x => r2_p hd (by decide) rfl
      have p6 : ∀ {e W M0 M1 M2 M3 : Nat → Int32} (x : Int32), hpf (r2 k k' e W M0 M1 M2 M3 τ δ' τ' κ H) (.ref k) 0 6 (.int x) = some (r2 k k' (upd e 2 x) W M0 M1 M2 M3 τ δ' τ' κ H) := fun x => r2_p hd (by decide) rfl
      have p7 : ∀ {e W M0 M1 M2 M3 : Nat → Int32} (x : Int32), hpf (r2 k k' e W M0 M1 M2 M3 τ δ' τ' κ H) (.ref k) 0 7 (.int x) = some (r2 k k' (upd e 3 x) W M0 M1 M2 M3 τ δ' τ' κ H) := fun x => r2_p hd (by decide) rfl
      have p8 : ∀ {e W M0 M1 M2 M3 : Nat → Int32} (x : Int32), hpf (r2 k k' e W M0 M1 M2 M3 τ δ' τ' κ H) (.ref k) 0 8 (.int x) = some (r2 k k' (upd e 4 x) W M0 M1 M2 M3 τ δ' τ' κ H) := fun x => r2_p hd (by decide) rfl
      have p9 : ∀ {e W M0 M1 M2 M3 : Nat → Int32} (x : Int32), hpf (r2 k k' e W M0 M1 M2 M3 τ δ' τ' κ H) (.ref k) 0 9 (.int x) = some (r2 k k' (upd e 5 x) W M0 M1 M2 M3 τ δ' τ' κ H) := fun x => r2_p hd (by decide) rfl
      have p10 : ∀ {e W M0 M1 M2 M3 : Nat → Int32} (x : Int32), hpf (r2 k k' e W M0 M1 M2 M3 τ δ' τ' κ H) (.ref k) 0 10 (.int x) = some (r2 k k' (upd e 1 x) W M0 M1 M2 M3 τ δ' τ' κ H) := fun x => r2_p hd (by decide) rfl
      have p11 : ∀ {e W M0 M1 M2 M3 : Nat → Int32} (x : Int32), hpf (r2 k k' e W M0 M1 M2 M3 τ δ' τ' κ H) (.ref k) 0 11 (.int x) = some (r2 k k' (upd e 6 x) W M0 M1 M2 M3 τ δ' τ' κ H) := fun x => r2_p hd (by decide) rfl
      have p12 : ∀ {e W M0 M1 M2 M3 : Nat → Int32} (x : Int32), hpf (r2 k k' e W M0 M1 M2 M3 τ δ' τ' κ H) (.ref k) 0 12 (.int x) = some (r2 k k' (upd e 7 x) W M0 M1 M2 M3 τ δ' τ' κ H) := fun x => r2_p hd (by decide) rfl
      simp only [S20_0, S20_1, S20_4, S20_5, S20_6, S20_9, S20_10, S20_12, S20_15, S20_16, S20_17, S20_20, S20_23, S20_24, S20_27, S20_28, S20_29, S20_32, S20_33, S20_35, S20_38, S20_39, S20_42, S20_43, S20_44, S20_47, S20_48, S20_50, S20_53, S20_54, S20_57, S20_58, S20_59, S20_62, S20_63, S20_65, S20_68, S20_69, S20_72, S20_73, S20_74, S20_77, S20_78, S20_80, S20_83, S20_84, S20_85, S20_88, S20_91, S20_92, S20_93, S20_96, S20_99, S20_100, S20_101, S20_104, S20_107, S20_108, S20_109, S20_112, S20_115, S20_116, S20_117, S20_120, S20_123, S20_124, S20_125, S20_128, S20_131, S20_132, S20_133, S20_136, S20_139, S20_140, Option.bind_some, Option.map_some, xpush_s, xpush_n, xcat_0, xcat_i, xcat_r, xcat_l, xcat_n, xcat_e, xir_r, Nat.reduceAdd, Nat.reduceLeDiff, Nat.zero_le, Nat.le_refl, ↓reduceIte, g0, g2, g3, g4, g5, q0, q1, q2, q3, q4, q5, q6, q7, q8, q9, q10, q11, q12, p1, p6, p7, p8, p9, p10, p11, p12, b_cp1 hd, b_cp2 hd, b_cp3 hd, b_cp4 hd, b_cp5 hd]
      rfl
  obtain ⟨e1, h1, h2⟩ := low
  obtain ⟨f, h3, h4⟩ := b_loop1 (k := k) (k' := k') (e := e1) (W := wA δ') (M0 := mA δ' 0) (M1 := mA δ' 1) (M2 := mA δ' 2) (M3 := mA δ' 3) (δ' := δ') (κ := κ) (Ev d) hd hv 14 0 rfl τ (fun t ht => absurd ht (Nat.not_lt_zero _))
  obtain ⟨g, g', h5, h6⟩ := b_loop2 (k := k) (k' := k') (e := e1) (W := wA δ') (M0 := mA δ' 0) (M1 := mA δ' 1) (M2 := mA δ' 2) (M3 := mA δ' 3) (δ' := δ') (κ := κ) (Ev d) hd hv 3 0 rfl (mkt f τ.2.1 τ.2.2) (fun t ht => absurd ht (Nat.not_lt_zero _))
  refine ⟨mkt f g g', ⟨h3, h5⟩, ?_⟩
  have e2 : r2 k k' e1 (wA δ') (mA δ' 0) (mA δ' 1) (mA δ' 2) (mA δ' 3) (mkt f g g') δ' τ' κ H = ov κ (rh k δ' (mkt f g g') (rh k' δ' τ' H)) := by
    unfold r2
    rw [rk_rh k δ' (mkt f g g')]
    unfold rk
    congr 1
    refine xh_ext rfl rfl (fun q => ?_) rfl
    dsimp only
    split
    · rw [rD_o, rD_o, riF_low h1]
    · rfl
  rw [rk_rh k δ τ, E20]
  show RF 20 (Ev d) 0 [some (.ref k), some (.ref k'), none] [] (r2 k k' δ (wA δ) (mA δ 0) (mA δ 1) (mA δ 2) (mA δ 3) τ δ' τ' κ H) = _
  rw [h2, h4]
  simp only [S20_165, S20_166]
  rw [show (0 : Int32) = nI 0 from rfl, h6]
  exact congrArg (fun z => some ((none : Option Value), z)) e2
end BEC3
