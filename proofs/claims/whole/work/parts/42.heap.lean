/-! part 42: the whole heap: layers that commute -/
def bF0 (b : Nat → Nat → Int32) : List Value := [.ref 1, .ref 10, .ref 19, .int (b 0 3), .ref 28, .ref 29, .ref 32, .ref 33, .ref 34, .int (b 0 9)]
/-- the class's other cells: what q holds, by its number -/
def bQ (b : Nat → Nat → Int32) (q : Nat) : xc :=
  if q = 0 then .inr (.inr (5, bF0 b))
  else if q = 28 then .inl (0, 12, b 28)
  else if q = 32 then .inr (.inl (1, 4, fun i => if i < 4 then some (35 + 2 * i) else none))
  else if q = 33 then .inr (.inl (2, 5, fun i => if i < 5 then some (43 + 3 * i) else none))
  else if q = 34 then .inl (0, 60, b 34)
  else if (q < 43 ∧ q % 2 = 1) ∨ (43 ≤ q ∧ q % 3 = 2) then .inr (.inr (1, [.int (b q 0), .int (b q 1), .ref (q + 1)]))
  else if 43 ≤ q ∧ q % 3 = 1 then .inr (.inr (2, [.int (b q 0), .int (b q 1), .int (b q 2), .int (b q 3), .int (b q 4), .ref (q + 1)]))
  else .inl (0, 24, b q)
def bh (b : Nat → Nat → Int32) (X : xh) : xh := (X.1, X.2.1, fun q => if q = 0 ∨ q = 28 ∨ (32 ≤ q ∧ q < 58) then bQ b q else X.2.2.1 q, X.2.2.2)
def cG (δ : Nat → Int32) (τ1 : xt) (ε : Nat → Int32) (τ2 : xt) (ζ : Nat → Int32) (τ3 : xt) (κ : Nat → Nat → Int32) (n : Nat) (l : lk) (ke op sz : Int32) (B S : Nat → Int32) (b : Nat → Nat → Int32) (X : xh) : xh := ov κ (rh 1 δ τ1 (rh 10 ε τ2 (rh 19 ζ τ3 (tpk n l ke op sz B S (bh b X)))))
section LAY
variable {δ ε ζ : Nat → Int32} {τ1 τ2 τ3 τ τ' : xt} {κ : Nat → Nat → Int32} {n : Nat} {l : lk} {ke op sz : Int32} {B S : Nat → Int32} {b : Nat → Nat → Int32} {X : xh} {a : Nat → Nat → Int32} {s : Nat → Int32} {w : Int64} {k k' : Nat} {δ' : Nat → Int32}
theorem xh_ext {h h' : xh} (h1 : h.1 = h'.1) (h2 : h.2.1 = h'.2.1) (h3 : ∀ q, h.2.2.1 q = h'.2.2.1 q) (h4 : h.2.2.2 = h'.2.2.2) : h = h' := Prod.ext h1 (Prod.ext h2 (Prod.ext (funext h3) h4))
theorem ov_mh : ov κ (mh a s w X) = mh a s w (ov κ X) := by
  refine xh_ext rfl rfl (fun q => ?_) rfl
  unfold ov mh
  dsimp only
  repeat' split
  all_goals first | rfl | (exfalso; omega)
theorem rh_mh (hk : k < 40) : rh k δ τ (mh a s w X) = mh a s w (rh k δ τ X) := by
  refine xh_ext rfl rfl (fun q => ?_) rfl
  unfold rh mh
  dsimp only
  repeat' split
  all_goals first | rfl | (exfalso; omega)
theorem tp_mh : tpk n l ke op sz B S (mh a s w X) = mh a s w (tpk n l ke op sz B S X) := by
  refine xh_ext rfl rfl (fun q => ?_) rfl
  unfold tpk tp mh
  dsimp only
  repeat' split
  all_goals first | rfl | (exfalso; omega)
theorem bh_mh : bh b (mh a s w X) = mh a s w (bh b X) := by
  refine xh_ext rfl rfl (fun q => ?_) rfl
  unfold bh mh
  dsimp only
  repeat' split
  all_goals first | rfl | (exfalso; omega)
theorem cG_mh : cG δ τ1 ε τ2 ζ τ3 κ n l ke op sz B S b (mh a s w X) = mh a s w (cG δ τ1 ε τ2 ζ τ3 κ n l ke op sz B S b X) := by
  unfold cG
  rw [bh_mh, tp_mh, rh_mh (by decide), rh_mh (by decide), rh_mh (by decide), ov_mh]
theorem rh_rh (hd : k + 9 ≤ k' ∨ k' + 9 ≤ k) : rh k δ τ (rh k' δ' τ' X) = rh k' δ' τ' (rh k δ τ X) := by
  refine xh_ext rfl rfl (fun q => ?_) rfl
  unfold rh
  dsimp only
  repeat' split
  all_goals first | rfl | (exfalso; omega)
theorem rh_tp (hd : k + 9 ≤ 29) : rh k δ τ (tpk n l ke op sz B S X) = tpk n l ke op sz B S (rh k δ τ X) := by
  refine xh_ext rfl rfl (fun q => ?_) rfl
  unfold rh tpk tp
  dsimp only
  repeat' split
  all_goals first | rfl | (exfalso; omega)
theorem ov_tp : ov κ (tpk n l ke op sz B S X) = tpk n l ke op sz B S (ov κ X) := by
  refine xh_ext rfl rfl (fun q => ?_) rfl
  unfold ov tpk tp
  dsimp only
  repeat' split
  all_goals first | rfl | (exfalso; omega)
/-- the three rivers and the tape, each as the outermost layer -/
theorem cG_1 : cG δ τ1 ε τ2 ζ τ3 κ n l ke op sz B S b X = rv 1 δ τ1 κ (rh 10 ε τ2 (rh 19 ζ τ3 (tpk n l ke op sz B S (bh b X)))) := rfl
theorem cG_10 : cG δ τ1 ε τ2 ζ τ3 κ n l ke op sz B S b X = rv 10 ε τ2 κ (rh 1 δ τ1 (rh 19 ζ τ3 (tpk n l ke op sz B S (bh b X)))) := by
  unfold cG rv
  rw [rh_rh (k := 1) (k' := 10) (by decide)]
theorem cG_19 : cG δ τ1 ε τ2 ζ τ3 κ n l ke op sz B S b X = rv 19 ζ τ3 κ (rh 1 δ τ1 (rh 10 ε τ2 (tpk n l ke op sz B S (bh b X)))) := by
  unfold cG rv
  rw [rh_rh (k := 10) (k' := 19) (by decide), rh_rh (k := 1) (k' := 19) (by decide)]
theorem cG_t : cG δ τ1 ε τ2 ζ τ3 κ n l ke op sz B S b X = tpk n l ke op sz B S (ov κ (rh 1 δ τ1 (rh 10 ε τ2 (rh 19 ζ τ3 (bh b X))))) := by
  unfold cG
  rw [rh_tp (k := 19) (by decide), rh_tp (k := 10) (by decide), rh_tp (k := 1) (by decide), ov_tp]
theorem cG_b {q : Nat} (hq : q = 0 ∨ q = 28 ∨ (32 ≤ q ∧ q < 58)) : (cG δ τ1 ε τ2 ζ τ3 κ n l ke op sz B S b X).2.2.1 q = bQ b q := by
  unfold cG ov rh tpk tp bh
  dsimp only
  rw [if_neg (by omega), if_neg (by omega), if_neg (by omega), if_neg (by omega), if_neg (by omega), if_neg (by omega), if_neg (by omega), if_pos hq]
theorem cG_set {q : Nat} (hq : q = 0 ∨ q = 28 ∨ (32 ≤ q ∧ q < 58)) {f : Nat → Int32} : hset (cG δ τ1 ε τ2 ζ τ3 κ n l ke op sz B S b X) q (bQ (va_up b q f) q) = cG δ τ1 ε τ2 ζ τ3 κ n l ke op sz B S (va_up b q f) X := by
  refine xh_ext rfl rfl (fun j => ?_) rfl
  by_cases hj : j = q
  · subst hj
    rw [cG_b hq]
    unfold hset va_up
    dsimp only
    rw [if_pos rfl]
  · unfold hset
    dsimp only
    rw [vu_n _ _ hj]
    unfold cG ov rh tpk tp bh
    dsimp only
    have e : ∀ z, z ≠ q → va_up b q f z = b z := fun z hz => vu_n _ _ hz
    have hb : bQ (va_up b q f) j = bQ b j := by
      unfold bQ bF0
      have h0 : j = 0 → va_up b q f 0 = b 0 := fun h => e 0 (by omega)
      have h28 : j = 28 → va_up b q f 28 = b 28 := fun h => e 28 (by omega)
      have h34 : j = 34 → va_up b q f 34 = b 34 := fun h => e 34 (by omega)
      rw [e j hj]
      split
      · rename_i h; rw [h0 h]
      · split
        · rename_i h; rw [h28 h]
        · split
          · rfl
          · split
            · rfl
            · split
              · rename_i h; rw [h34 h]
              · rfl
    rw [hb]
theorem cG_hi {q : Nat} (h1 : 84 ≤ q) (h2 : q % 3 ≠ 2) : (cG δ τ1 ε τ2 ζ τ3 κ n l ke op sz B S b X).2.2.1 q = X.2.2.1 q := by
  unfold cG ov rh tpk tp bh
  dsimp only
  rw [if_neg (by omega), if_neg (by omega), if_neg (by omega), if_neg (by omega), if_neg (by omega), if_neg (by omega), if_neg (by omega), if_neg (by omega)]
theorem mh_hi {q : Nat} (h1 : 84 ≤ q) : (mh a s w X).2.2.1 q = X.2.2.1 q := by
  unfold mh
  dsimp only
  rw [if_neg (by omega), if_neg (by omega)]
end LAY
/-- cells from 84 on alike -/
def hi (H H' : xh) : Prop := ∀ q, 84 ≤ q → H'.2.2.1 q = H.2.2.1 q
theorem TR_hi {H H' : xh} (h : hi H H') {p : Nat} {key ops : Int32} {P : List Nat} (t : TR H p key ops P) : TR H' p key ops P := by
  obtain ⟨h1, h2, cap, sf, cf, ⟨t1, t2, t3, t4, t5⟩, h3⟩ := t
  exact ⟨h1, h2, cap, sf, cf, ⟨t1, t2, by rw [h p (by omega)]; exact t3, by rw [h (p + 1) (by omega)]; exact t4, by rw [h (p + 2) (by omega)]; exact t5⟩, h3⟩
/-- the law for a key, as the texts tell it -/
def LW (H : xh) (τ : xt) (key : Nat) (q : Option xq) : Prop := match τ.2.2 key with
  | none => q = none
  | some p => ∃ P ke ops, q = some (pv P) ∧ TR H p ke ops P
theorem LW_QR {H H' : xh} (h : hi H H') {τ : xt} {key : Nat} {q : Option xq} (hl : LW H τ key q) : QR H' τ key q := by
  unfold LW at hl
  unfold QR
  cases e : τ.2.2 key with
  | none => rw [e] at hl; exact hl
  | some p =>
    rw [e] at hl
    obtain ⟨P, ke, ops, h1, h2⟩ := hl
    exact ⟨pv P, h1, GR_of (TR_hi h h2)⟩
theorem hi_rh {k : Nat} {δ : Nat → Int32} {τ : xt} {H : xh} (hk : k < 50) : hi H (rh k δ τ H) := fun q hq => by
  unfold rh
  dsimp only
  rw [if_neg (by omega)]
theorem hi_tp {n : Nat} {l : lk} {ke op sz : Int32} {B S : Nat → Int32} {H : xh} : hi H (tpk n l ke op sz B S H) := fun q hq => by
  unfold tpk tp
  dsimp only
  rw [if_neg (by omega), if_neg (by omega), if_neg (by omega)]
theorem hi_bh {b : Nat → Nat → Int32} {H : xh} : hi H (bh b H) := fun q hq => by
  unfold bh
  dsimp only
  rw [if_neg (by omega)]
theorem hi_t {H H' H'' : xh} (h : hi H H') (h' : hi H' H'') : hi H H'' := fun q hq => (h' q hq).trans (h q hq)
theorem hi_mh {a : Nat → Nat → Int32} {s : Nat → Int32} {w : Int64} {H : xh} : hi H (mh a s w H) := fun q hq => mh_hi hq
