/-! part 23, by program (wip/whole/gen/gen_riv.py): a river's cells k .. k + 8, and the scratch rows of texts -/
def wA (δ : Nat → Int32) : Nat → Int32 := fun r => if r < 12 then δ (8 + r) else 0
def mA (δ : Nat → Int32) (j : Nat) : Nat → Int32 := fun m => if m < 10 then δ (20 + 4 * m + j) else 0
theorem wA_s (δ : Nat → Int32) {i : Nat} (x : Int32) (h : i < 12) : wA (upd δ (8 + i) x) = upd (wA δ) i x := by
  funext r
  unfold wA
  by_cases hr : r = i
  · subst hr
    rw [if_pos h, up_s, up_s]
  · rw [up_n _ _ (show 8 + r ≠ 8 + i by omega), up_n _ _ hr]
theorem wA_n (δ : Nat → Int32) {i : Nat} (x : Int32) (h : i < 8 ∨ 20 ≤ i) : wA (upd δ i x) = wA δ := by
  funext r
  unfold wA
  by_cases hr : r < 12
  · rw [if_pos hr, if_pos hr, up_n _ _ (by omega)]
  · rw [if_neg hr, if_neg hr]
theorem mA_s (δ : Nat → Int32) {i : Nat} (j : Nat) (x : Int32) (h : i < 10) : mA (upd δ (20 + 4 * i + j) x) j = upd (mA δ j) i x := by
  funext r
  unfold mA
  by_cases hr : r = i
  · subst hr
    rw [if_pos h, up_s, up_s]
  · rw [up_n _ _ (show 20 + 4 * r + j ≠ 20 + 4 * i + j by omega), up_n _ _ hr]
theorem mA_n (δ : Nat → Int32) {i : Nat} {j : Nat} (x : Int32) (h : ∀ m, m < 10 → 20 + 4 * m + j ≠ i) : mA (upd δ i x) j = mA δ j := by
  funext r
  unfold mA
  by_cases hr : r < 10
  · rw [if_pos hr, if_pos hr, up_n _ _ (h r hr)]
  · rw [if_neg hr, if_neg hr]
/-- texts, lastTold, laws -/
def xt : Type := (Nat → Option Nat) × (Nat → Int32) × (Nat → Option Nat)
def riF (k : Nat) (δ : Nat → Int32) : List Value := [.ref (k + 1), .int (δ 0), .ref (k + 2), .ref (k + 3), .ref (k + 4), .ref (k + 5), .int (δ 2), .int (δ 3), .int (δ 4), .int (δ 5), .int (δ 1), .int (δ 6), .int (δ 7), .ref (k + 6), .ref (k + 7), .ref (k + 8)]
def rC (k : Nat) (δ : Nat → Int32) (τ : xt) (j : Nat) : xc := match j with
  | 0 => .inr (.inr (0, riF k δ))
  | 1 => .inl (0, 12, wA δ)
  | 2 => .inl (0, 10, mA δ 0)
  | 3 => .inl (0, 10, mA δ 1)
  | 4 => .inl (0, 10, mA δ 2)
  | 5 => .inl (0, 10, mA δ 3)
  | 6 => .inr (.inl (4, 14, τ.1))
  | 7 => .inl (0, 3, τ.2.1)
  | _ => .inr (.inl (4, 3, τ.2.2))
def rh (k : Nat) (δ : Nat → Int32) (τ : xt) (H : xh) : xh := (H.1, H.2.1, fun q => if k ≤ q ∧ q < k + 9 then rC k δ τ (q - k) else H.2.2.1 q, H.2.2.2)
def scr (c : xc) (f : Nat → Int32) : xc := match c with
  | .inl (kd, n, _) => .inl (kd, n, f)
  | c => c
/-- the scratch rows of texts hold κ -/
def ov (κ : Nat → Nat → Int32) (H : xh) : xh := (H.1, H.2.1, fun q => if 84 ≤ q ∧ q % 3 = 2 then scr (H.2.2.1 q) (κ q) else H.2.2.1 q, H.2.2.2)
def rv (k : Nat) (δ : Nat → Int32) (τ : xt) (κ : Nat → Nat → Int32) (H : xh) : xh := ov κ (rh k δ τ H)
section RIV
variable {k : Nat} {δ : Nat → Int32} {τ : xt} {κ : Nat → Nat → Int32} {H : xh}
theorem rv_c (hk : k < 50) {j : Nat} (hj : j < 9) : (rv k δ τ κ H).2.2.1 (k + j) = rC k δ τ j := by
  show (if 84 ≤ k + j ∧ (k + j) % 3 = 2 then _ else if k ≤ k + j ∧ k + j < k + 9 then rC k δ τ (k + j - k) else _) = _
  rw [if_neg (by omega), if_pos (by omega), show k + j - k = j by omega]
theorem rv_set (hk : k < 50) {j : Nat} (hj : j < 9) {c : xc} {δ' : Nat → Int32} {τ' : xt} (hc : ∀ i, i < 9 → rC k δ' τ' i = if i = j then c else rC k δ τ i) : hset (rv k δ τ κ H) (k + j) c = rv k δ' τ' κ H := by
  unfold hset rv ov rh
  congr 3
  funext q
  dsimp only
  unfold va_up
  by_cases hq : q = k + j
  · subst hq
    have := hc j hj
    rw [if_pos rfl] at this
    rw [if_pos rfl, if_neg (by omega), if_pos (by omega), show k + j - k = j by omega, this]
  · rw [if_neg hq]
    dsimp only
    by_cases h1 : 84 ≤ q ∧ q % 3 = 2
    · rw [if_pos h1, if_pos h1, if_neg (show ¬ (k ≤ q ∧ q < k + 9) by omega), if_neg (show ¬ (k ≤ q ∧ q < k + 9) by omega)]
    · rw [if_neg h1, if_neg h1]
      by_cases h2 : k ≤ q ∧ q < k + 9
      · rw [if_pos h2, if_pos h2, hc (q - k) (by omega), if_neg (by omega)]
      · rw [if_neg h2, if_neg h2]
theorem Rcls (hk : k < 50) : (xcls (rv k δ τ κ H) (.ref k) = 0) = True := eq_true (by
  have := rv_c (δ := δ) (τ := τ) (κ := κ) (H := H) hk (j := 0) (by decide)
  unfold xcls hget
  dsimp only
  rw [Nat.add_zero] at this
  rw [this]
  rfl)
theorem Rg (hk : k < 50) (j : Nat) : hgf (rv k δ τ κ H) (.ref k) 0 j = (riF k δ)[j]? := by
  have := rv_c (δ := δ) (τ := τ) (κ := κ) (H := H) hk (j := 0) (by decide)
  unfold hgf hget
  dsimp only
  rw [Nat.add_zero] at this
  rw [this]
  rfl
theorem Rp (hk : k < 50) {j : Nat} (hj : j < 16) {v : Value} {δ' : Nat → Int32} (h0 : (riF k δ).set j v = riF k δ') (hc : ∀ i, i < 9 → i ≠ 0 → rC k δ' τ i = rC k δ τ i) : hpf (rv k δ τ κ H) (.ref k) 0 j v = some (rv k δ' τ κ H) := by
  have h1 := rv_c (δ := δ) (τ := τ) (κ := κ) (H := H) hk (j := 0) (by decide)
  unfold hpf
  dsimp only
  rw [Nat.add_zero] at h1
  rw [h1]
  show (if j < 16 then some (hset _ k (.inr (.inr (0, (riF k δ).set j v)))) else none) = _
  rw [if_pos hj, h0]
  refine congrArg some (rv_set (j := 0) hk (by decide) (δ' := δ') (τ' := τ) ?_)
  intro i hi
  by_cases h : i = 0
  · subst h; rfl
  · rw [if_neg h]; exact hc i hi h
theorem Rr {j : Nat} (hk : k < 50) (hj : j < 9) {n : Nat} {f : Nat → Int32} (hc : rC k δ τ j = .inl (0, n, f)) {i : Nat} (hi : i < n) (hn : n ≤ 100) : hrd (rv k δ τ κ H) (.ref (k + j)) 0 (nI i) = some (f i) := by
  have h1 := rv_c (δ := δ) (τ := τ) (κ := κ) (H := H) hk hj
  unfold hrd hget
  dsimp only
  rw [h1, hc]
  show (match xix (nI i) n with | some j => some (f j) | none => none) = _
  rw [xix_n hi (by omega)]
theorem Rw {j : Nat} (hk : k < 50) (hj : j < 9) {n : Nat} {f : Nat → Int32} (hc : rC k δ τ j = .inl (0, n, f)) {i : Nat} (hi : i < n) (hn : n ≤ 100) {x : Int32} {δ' : Nat → Int32} {τ' : xt} (h' : ∀ t, t < 9 → rC k δ' τ' t = if t = j then .inl (0, n, upd f i x) else rC k δ τ t) : hwr (rv k δ τ κ H) (.ref (k + j)) 0 (nI i) x = some (rv k δ' τ' κ H) := by
  have h1 := rv_c (δ := δ) (τ := τ) (κ := κ) (H := H) hk hj
  unfold hwr
  dsimp only
  rw [h1, hc]
  show (match xix (nI i) n with | some t => some (hset _ _ (.inl (0, n, upd f t x))) | none => none) = _
  rw [xix_n hi (by omega)]
  dsimp only
  rw [rv_set hk hj h']
theorem Rq {j : Nat} (hk : k < 50) (hj : j < 9) {n : Nat} {f : Nat → Option Nat} (hc : rC k δ τ j = .inr (.inl (4, n, f))) {i : Nat} (hi : i < n) (hn : n ≤ 100) : hrq (rv k δ τ κ H) (.ref (k + j)) (nI i) = some (va_rf (f i)) := by
  have h1 := rv_c (δ := δ) (τ := τ) (κ := κ) (H := H) hk hj
  unfold hrq
  dsimp only
  rw [h1, hc]
  show (match xix (nI i) n with | some j => some (va_rf (f j)) | none => none) = _
  rw [xix_n hi (by omega)]

theorem Rg_0 (hk : k < 50) : hgf (rv k δ τ κ H) (.ref k) 0 0 = some (.ref (k + 1)) := Rg hk 0
theorem Rg_1 (hk : k < 50) : hgf (rv k δ τ κ H) (.ref k) 0 1 = some (.int (δ 0)) := Rg hk 1
theorem Rg_2 (hk : k < 50) : hgf (rv k δ τ κ H) (.ref k) 0 2 = some (.ref (k + 2)) := Rg hk 2
theorem Rg_3 (hk : k < 50) : hgf (rv k δ τ κ H) (.ref k) 0 3 = some (.ref (k + 3)) := Rg hk 3
theorem Rg_4 (hk : k < 50) : hgf (rv k δ τ κ H) (.ref k) 0 4 = some (.ref (k + 4)) := Rg hk 4
theorem Rg_5 (hk : k < 50) : hgf (rv k δ τ κ H) (.ref k) 0 5 = some (.ref (k + 5)) := Rg hk 5
theorem Rg_6 (hk : k < 50) : hgf (rv k δ τ κ H) (.ref k) 0 6 = some (.int (δ 2)) := Rg hk 6
theorem Rg_7 (hk : k < 50) : hgf (rv k δ τ κ H) (.ref k) 0 7 = some (.int (δ 3)) := Rg hk 7
theorem Rg_8 (hk : k < 50) : hgf (rv k δ τ κ H) (.ref k) 0 8 = some (.int (δ 4)) := Rg hk 8
theorem Rg_9 (hk : k < 50) : hgf (rv k δ τ κ H) (.ref k) 0 9 = some (.int (δ 5)) := Rg hk 9
theorem Rg_10 (hk : k < 50) : hgf (rv k δ τ κ H) (.ref k) 0 10 = some (.int (δ 1)) := Rg hk 10
theorem Rg_11 (hk : k < 50) : hgf (rv k δ τ κ H) (.ref k) 0 11 = some (.int (δ 6)) := Rg hk 11
theorem Rg_12 (hk : k < 50) : hgf (rv k δ τ κ H) (.ref k) 0 12 = some (.int (δ 7)) := Rg hk 12
theorem Rg_13 (hk : k < 50) : hgf (rv k δ τ κ H) (.ref k) 0 13 = some (.ref (k + 6)) := Rg hk 13
theorem Rg_14 (hk : k < 50) : hgf (rv k δ τ κ H) (.ref k) 0 14 = some (.ref (k + 7)) := Rg hk 14
theorem Rg_15 (hk : k < 50) : hgf (rv k δ τ κ H) (.ref k) 0 15 = some (.ref (k + 8)) := Rg hk 15
theorem rC_low {i : Nat} (x : Int32) (hi : i < 8) : ∀ t, t < 9 → t ≠ 0 → rC k (upd δ i x) τ t = rC k δ τ t := by
  intro t ht h0
  match t, ht, h0 with
  | 1, _, _ => show (.inl (0, 12, wA (upd δ i x)) : xc) = _; rw [wA_n _ _ (by omega)]; rfl
  | 2, _, _ => show (.inl (0, 10, mA (upd δ i x) 0) : xc) = _; rw [mA_n _ _ (fun m _ => by omega)]; rfl
  | 3, _, _ => show (.inl (0, 10, mA (upd δ i x) 1) : xc) = _; rw [mA_n _ _ (fun m _ => by omega)]; rfl
  | 4, _, _ => show (.inl (0, 10, mA (upd δ i x) 2) : xc) = _; rw [mA_n _ _ (fun m _ => by omega)]; rfl
  | 5, _, _ => show (.inl (0, 10, mA (upd δ i x) 3) : xc) = _; rw [mA_n _ _ (fun m _ => by omega)]; rfl
  | 6, _, _ => rfl
  | 7, _, _ => rfl
  | 8, _, _ => rfl

theorem Rp_1 (hk : k < 50) (x : Int32) : hpf (rv k δ τ κ H) (.ref k) 0 1 (.int x) = some (rv k (upd δ 0 x) τ κ H) := Rp hk (by decide) rfl (rC_low x (by decide))
theorem Rp_6 (hk : k < 50) (x : Int32) : hpf (rv k δ τ κ H) (.ref k) 0 6 (.int x) = some (rv k (upd δ 2 x) τ κ H) := Rp hk (by decide) rfl (rC_low x (by decide))
theorem Rp_7 (hk : k < 50) (x : Int32) : hpf (rv k δ τ κ H) (.ref k) 0 7 (.int x) = some (rv k (upd δ 3 x) τ κ H) := Rp hk (by decide) rfl (rC_low x (by decide))
theorem Rp_8 (hk : k < 50) (x : Int32) : hpf (rv k δ τ κ H) (.ref k) 0 8 (.int x) = some (rv k (upd δ 4 x) τ κ H) := Rp hk (by decide) rfl (rC_low x (by decide))
theorem Rp_9 (hk : k < 50) (x : Int32) : hpf (rv k δ τ κ H) (.ref k) 0 9 (.int x) = some (rv k (upd δ 5 x) τ κ H) := Rp hk (by decide) rfl (rC_low x (by decide))
theorem Rp_10 (hk : k < 50) (x : Int32) : hpf (rv k δ τ κ H) (.ref k) 0 10 (.int x) = some (rv k (upd δ 1 x) τ κ H) := Rp hk (by decide) rfl (rC_low x (by decide))
theorem Rp_11 (hk : k < 50) (x : Int32) : hpf (rv k δ τ κ H) (.ref k) 0 11 (.int x) = some (rv k (upd δ 6 x) τ κ H) := Rp hk (by decide) rfl (rC_low x (by decide))
theorem Rp_12 (hk : k < 50) (x : Int32) : hpf (rv k δ τ κ H) (.ref k) 0 12 (.int x) = some (rv k (upd δ 7 x) τ κ H) := Rp hk (by decide) rfl (rC_low x (by decide))
theorem riF_up {i : Nat} (x : Int32) (hi : 8 ≤ i) : riF k (upd δ i x) = riF k δ := by
  unfold riF
  rw [up_n _ _ (show 0 ≠ i by omega), up_n _ _ (show 1 ≠ i by omega), up_n _ _ (show 2 ≠ i by omega), up_n _ _ (show 3 ≠ i by omega), up_n _ _ (show 4 ≠ i by omega), up_n _ _ (show 5 ≠ i by omega), up_n _ _ (show 6 ≠ i by omega), up_n _ _ (show 7 ≠ i by omega)]
theorem Rr_w (hk : k < 50) {r : Nat} (hr : r < 12) : hrd (rv k δ τ κ H) (.ref (k + 1)) 0 (nI r) = some (δ (8 + r)) := by
  rw [Rr hk (by decide) (show rC k δ τ 1 = _ from rfl) hr (by decide)]
  exact congrArg some (if_pos hr)
theorem Rw_w (hk : k < 50) {r : Nat} (hr : r < 12) (x : Int32) : hwr (rv k δ τ κ H) (.ref (k + 1)) 0 (nI r) x = some (rv k (upd δ (8 + r) x) τ κ H) := by
  refine Rw hk (by decide) (show rC k δ τ 1 = _ from rfl) hr (by decide) ?_
  intro t ht
  match t, ht with
  | 0, _ => show (.inr (.inr (0, riF k (upd δ (8 + r) x))) : xc) = _; rw [riF_up _ (by omega)]; rfl
  | 1, _ => show (.inl (0, 12, wA (upd δ (8 + r) x)) : xc) = _; rw [wA_s _ _ hr]; rfl
  | 2, _ => show (.inl (0, 10, mA (upd δ (8 + r) x) 0) : xc) = _; rw [mA_n _ _ (fun m _ => by omega)]; rfl
  | 3, _ => show (.inl (0, 10, mA (upd δ (8 + r) x) 1) : xc) = _; rw [mA_n _ _ (fun m _ => by omega)]; rfl
  | 4, _ => show (.inl (0, 10, mA (upd δ (8 + r) x) 2) : xc) = _; rw [mA_n _ _ (fun m _ => by omega)]; rfl
  | 5, _ => show (.inl (0, 10, mA (upd δ (8 + r) x) 3) : xc) = _; rw [mA_n _ _ (fun m _ => by omega)]; rfl
  | 6, _ => rfl
  | 7, _ => rfl
  | 8, _ => rfl

theorem Rr_m0 (hk : k < 50) {m : Nat} (hm : m < 10) : hrd (rv k δ τ κ H) (.ref (k + 2)) 0 (nI m) = some (δ (20 + 4 * m)) := by
  rw [Rr hk (by decide) (show rC k δ τ 2 = _ from rfl) hm (by decide)]
  exact congrArg some (if_pos hm)
theorem Rw_m0 (hk : k < 50) {m : Nat} (hm : m < 10) (x : Int32) : hwr (rv k δ τ κ H) (.ref (k + 2)) 0 (nI m) x = some (rv k (upd δ (20 + 4 * m) x) τ κ H) := by
  refine Rw hk (by decide) (show rC k δ τ 2 = _ from rfl) hm (by decide) ?_
  intro t ht
  match t, ht with
  | 0, _ => show (.inr (.inr (0, riF k (upd δ (20 + 4 * m) x))) : xc) = _; rw [riF_up _ (by omega)]; rfl
  | 1, _ => show (.inl (0, 12, wA (upd δ (20 + 4 * m) x)) : xc) = _; rw [wA_n _ _ (by omega)]; rfl
  | 2, _ => show (.inl (0, 10, mA (upd δ (20 + 4 * m + 0) x) 0) : xc) = _; rw [mA_s _ _ _ hm]; rfl
  | 3, _ => show (.inl (0, 10, mA (upd δ (20 + 4 * m) x) 1) : xc) = _; rw [mA_n _ _ (fun t _ => by omega)]; rfl
  | 4, _ => show (.inl (0, 10, mA (upd δ (20 + 4 * m) x) 2) : xc) = _; rw [mA_n _ _ (fun t _ => by omega)]; rfl
  | 5, _ => show (.inl (0, 10, mA (upd δ (20 + 4 * m) x) 3) : xc) = _; rw [mA_n _ _ (fun t _ => by omega)]; rfl
  | 6, _ => rfl
  | 7, _ => rfl
  | 8, _ => rfl
theorem Rr_m1 (hk : k < 50) {m : Nat} (hm : m < 10) : hrd (rv k δ τ κ H) (.ref (k + 3)) 0 (nI m) = some (δ (20 + 4 * m + 1)) := by
  rw [Rr hk (by decide) (show rC k δ τ 3 = _ from rfl) hm (by decide)]
  exact congrArg some (if_pos hm)
theorem Rw_m1 (hk : k < 50) {m : Nat} (hm : m < 10) (x : Int32) : hwr (rv k δ τ κ H) (.ref (k + 3)) 0 (nI m) x = some (rv k (upd δ (20 + 4 * m + 1) x) τ κ H) := by
  refine Rw hk (by decide) (show rC k δ τ 3 = _ from rfl) hm (by decide) ?_
  intro t ht
  match t, ht with
  | 0, _ => show (.inr (.inr (0, riF k (upd δ (20 + 4 * m + 1) x))) : xc) = _; rw [riF_up _ (by omega)]; rfl
  | 1, _ => show (.inl (0, 12, wA (upd δ (20 + 4 * m + 1) x)) : xc) = _; rw [wA_n _ _ (by omega)]; rfl
  | 2, _ => show (.inl (0, 10, mA (upd δ (20 + 4 * m + 1) x) 0) : xc) = _; rw [mA_n _ _ (fun t _ => by omega)]; rfl
  | 3, _ => show (.inl (0, 10, mA (upd δ (20 + 4 * m + 1) x) 1) : xc) = _; rw [mA_s _ _ _ hm]; rfl
  | 4, _ => show (.inl (0, 10, mA (upd δ (20 + 4 * m + 1) x) 2) : xc) = _; rw [mA_n _ _ (fun t _ => by omega)]; rfl
  | 5, _ => show (.inl (0, 10, mA (upd δ (20 + 4 * m + 1) x) 3) : xc) = _; rw [mA_n _ _ (fun t _ => by omega)]; rfl
  | 6, _ => rfl
  | 7, _ => rfl
  | 8, _ => rfl
theorem Rr_m2 (hk : k < 50) {m : Nat} (hm : m < 10) : hrd (rv k δ τ κ H) (.ref (k + 4)) 0 (nI m) = some (δ (20 + 4 * m + 2)) := by
  rw [Rr hk (by decide) (show rC k δ τ 4 = _ from rfl) hm (by decide)]
  exact congrArg some (if_pos hm)
theorem Rw_m2 (hk : k < 50) {m : Nat} (hm : m < 10) (x : Int32) : hwr (rv k δ τ κ H) (.ref (k + 4)) 0 (nI m) x = some (rv k (upd δ (20 + 4 * m + 2) x) τ κ H) := by
  refine Rw hk (by decide) (show rC k δ τ 4 = _ from rfl) hm (by decide) ?_
  intro t ht
  match t, ht with
  | 0, _ => show (.inr (.inr (0, riF k (upd δ (20 + 4 * m + 2) x))) : xc) = _; rw [riF_up _ (by omega)]; rfl
  | 1, _ => show (.inl (0, 12, wA (upd δ (20 + 4 * m + 2) x)) : xc) = _; rw [wA_n _ _ (by omega)]; rfl
  | 2, _ => show (.inl (0, 10, mA (upd δ (20 + 4 * m + 2) x) 0) : xc) = _; rw [mA_n _ _ (fun t _ => by omega)]; rfl
  | 3, _ => show (.inl (0, 10, mA (upd δ (20 + 4 * m + 2) x) 1) : xc) = _; rw [mA_n _ _ (fun t _ => by omega)]; rfl
  | 4, _ => show (.inl (0, 10, mA (upd δ (20 + 4 * m + 2) x) 2) : xc) = _; rw [mA_s _ _ _ hm]; rfl
  | 5, _ => show (.inl (0, 10, mA (upd δ (20 + 4 * m + 2) x) 3) : xc) = _; rw [mA_n _ _ (fun t _ => by omega)]; rfl
  | 6, _ => rfl
  | 7, _ => rfl
  | 8, _ => rfl
theorem Rr_m3 (hk : k < 50) {m : Nat} (hm : m < 10) : hrd (rv k δ τ κ H) (.ref (k + 5)) 0 (nI m) = some (δ (20 + 4 * m + 3)) := by
  rw [Rr hk (by decide) (show rC k δ τ 5 = _ from rfl) hm (by decide)]
  exact congrArg some (if_pos hm)
theorem Rw_m3 (hk : k < 50) {m : Nat} (hm : m < 10) (x : Int32) : hwr (rv k δ τ κ H) (.ref (k + 5)) 0 (nI m) x = some (rv k (upd δ (20 + 4 * m + 3) x) τ κ H) := by
  refine Rw hk (by decide) (show rC k δ τ 5 = _ from rfl) hm (by decide) ?_
  intro t ht
  match t, ht with
  | 0, _ => show (.inr (.inr (0, riF k (upd δ (20 + 4 * m + 3) x))) : xc) = _; rw [riF_up _ (by omega)]; rfl
  | 1, _ => show (.inl (0, 12, wA (upd δ (20 + 4 * m + 3) x)) : xc) = _; rw [wA_n _ _ (by omega)]; rfl
  | 2, _ => show (.inl (0, 10, mA (upd δ (20 + 4 * m + 3) x) 0) : xc) = _; rw [mA_n _ _ (fun t _ => by omega)]; rfl
  | 3, _ => show (.inl (0, 10, mA (upd δ (20 + 4 * m + 3) x) 1) : xc) = _; rw [mA_n _ _ (fun t _ => by omega)]; rfl
  | 4, _ => show (.inl (0, 10, mA (upd δ (20 + 4 * m + 3) x) 2) : xc) = _; rw [mA_n _ _ (fun t _ => by omega)]; rfl
  | 5, _ => show (.inl (0, 10, mA (upd δ (20 + 4 * m + 3) x) 3) : xc) = _; rw [mA_s _ _ _ hm]; rfl
  | 6, _ => rfl
  | 7, _ => rfl
  | 8, _ => rfl
theorem Rq_6 (hk : k < 50) {i : Nat} (hi : i < 14) : hrq (rv k δ τ κ H) (.ref (k + 6)) (nI i) = some (va_rf (τ.1 i)) := Rq hk (by decide) rfl hi (by decide)
theorem Rr_7 (hk : k < 50) {i : Nat} (hi : i < 3) : hrd (rv k δ τ κ H) (.ref (k + 7)) 0 (nI i) = some (τ.2.1 i) := Rr hk (by decide) rfl hi (by decide)
theorem Rq_8 (hk : k < 50) {i : Nat} (hi : i < 3) : hrq (rv k δ τ κ H) (.ref (k + 8)) (nI i) = some (va_rf (τ.2.2 i)) := Rq hk (by decide) rfl hi (by decide)
end RIV
