/-! part 32: the reading of a text, pure -/
/-- what is looked at: its first byte, the place behind it, its type (0 end, 1 letters, 2 digits, 3 a sign), whether it lacks a blank -/
abbrev lk : Type := Nat × Nat × Nat × Bool
def isW (t : Nat) : Bool := t == 1 || t == 2
def skp (B : Nat → Int32) : Nat → Nat → Nat
  | 0, i => i
  | j + 1, i => if B i = 32 then skp B j (i + 1) else i
def tyb (b : Int32) : Nat := if 97 ≤ b ∧ b ≤ 122 then 1 else if 48 ≤ b ∧ b ≤ 57 then 2 else 3
def tya (B : Nat → Int32) (n i : Nat) : Nat := if i < n then tyb (B i) else 0
def wen (B : Nat → Int32) (t : Nat) : Nat → Nat → Nat
  | 0, i => i
  | j + 1, i => if tyb (B i) = t then wen B t j (i + 1) else i
def nS (B : Nat → Int32) (n : Nat) (l : lk) : Nat := skp B (n - l.2.1) l.2.1
def nT (B : Nat → Int32) (n : Nat) (l : lk) : Nat := tya B n (nS B n l)
def nP (B : Nat → Int32) (n : Nat) (l : lk) : Nat := if isW (nT B n l) = true then wen B (nT B n l) (n - (nS B n l + 1)) (nS B n l + 1) else min n (nS B n l + 1)
def nB (B : Nat → Int32) (n : Nat) (l : lk) : Bool := isW l.2.2.1 && isW (nT B n l) && decide (nS B n l = l.2.1)
def nxk (B : Nat → Int32) (n : Nat) (l : lk) : lk := (nS B n l, nP B n l, nT B n l, nB B n l)
def sg (B : Nat → Int32) (l : lk) : Int32 := if l.2.2.1 = 3 then B l.1 else -1
/-- a word's letters, its digits -/
def hsv (B : Nat → Int32) (s : Nat) : Nat → Nat
  | 0 => 0
  | k + 1 => 27 * hsv B s k + (nn (B (s + k)) - 96)
def nuv (B : Nat → Int32) (s : Nat) : Nat → Nat
  | 0 => 0
  | k + 1 => 10 * nuv B s k + (nn (B (s + k)) - 48)
def nmx (key : Nat) (b : Int32) : Option Nat :=
  if key = 0 then (if b = 105 then some 0 else if b = 119 then some 1 else if b = 116 then some 2 else if b = 110 then some 3 else none)
  else if key = 1 then (if b = 115 then some 0 else if b = 102 then some 1 else none)
  else (if b = 105 then some 0 else if b = 116 then some 1 else none)
def opr (B : Nat → Int32) (key : Nat) (l : lk) : Option Nat :=
  if l.2.2.2 = true then none
  else if l.2.2.1 = 2 then (if 4 < l.2.1 - l.1 then none else some (nuv B l.1 (l.2.1 - l.1)))
  else if l.2.1 - l.1 = 1 then (nmx key (B l.1)).map (fun i => 10000 + i) else none
def jnz (lv : Nat) (x : Int32) : Prop := if lv = 0 then x = 124 else if lv = 1 then x = 38 else if lv = 2 then (x = 60 ∨ x = 61 ∨ x = 62) else if lv = 3 then (x = 43 ∨ x = 45) else (x = 42 ∨ x = 47)
theorem jnz_dec (lv : Nat) (x : Int32) : jnz lv x ∨ ¬ jnz lv x := Classical.em _
/-- a fault's place, or what is looked at behind what was read, and the program -/
abbrev pr : Type := Nat ⊕ (lk × List Nat)
noncomputable def lp (B : Nat → Int32) (n : Nat) (g : lk → List Nat → pr) (lv : Nat) : Nat → lk → List Nat → pr
  | 0, l, P => .inr (l, P)
  | m + 1, l, P => @ite _ (jnz lv (sg B l)) (Classical.propDecidable _) (match g (nxk B n l) P with
    | .inl s => .inl s
    | .inr q => lp B n g lv m q.1 (q.2 ++ [20000 + nn (sg B l)])) (.inr (l, P))
def mst (lv : Nat) : Nat := if lv = 2 then 1 else 96
noncomputable def ps (B : Nat → Int32) (n key : Nat) : Nat → Nat → Nat → Nat → lk → List Nat → pr
  | 0, _, _, _, l, _ => .inl l.1
  | f + 1, lv, br, no, l, P => if lv < 5 then (match ps B n key f (lv + 1) br no l P with
      | .inl s => .inl s
      | .inr q => lp B n (fun l P => ps B n key f (lv + 1) br no l P) lv (mst lv) q.1 q.2)
    else if isW l.2.2.1 = true then (match opr B key l with
      | none => .inl l.1
      | some c => .inr (nxk B n l, P ++ [c]))
    else if sg B l = 33 ∧ no < 8 then (match ps B n key f 5 br (no + 1) (nxk B n l) P with
      | .inl s => .inl s
      | .inr q => .inr (q.1, q.2 ++ [20033]))
    else if sg B l = 40 ∧ br < 8 then (match ps B n key f 0 (br + 1) no (nxk B n l) P with
      | .inl s => .inl s
      | .inr q => if sg B q.1 = 41 then .inr (nxk B n q.1, q.2) else .inl q.1.1)
    else .inl l.1
theorem skp_le (B : Nat → Int32) : ∀ j i, i ≤ skp B j i ∧ skp B j i ≤ i + j
  | 0, i => ⟨Nat.le_refl _, Nat.le_refl _⟩
  | j + 1, i => by
    unfold skp
    have := skp_le B j (i + 1)
    split <;> omega
theorem wen_le (B : Nat → Int32) (t : Nat) : ∀ j i, i ≤ wen B t j i ∧ wen B t j i ≤ i + j
  | 0, i => ⟨Nat.le_refl _, Nat.le_refl _⟩
  | j + 1, i => by
    unfold wen
    have := wen_le B t j (i + 1)
    split <;> omega
theorem wen_ty (B : Nat → Int32) (t : Nat) : ∀ j i e, i ≤ e → e < wen B t j i → tyb (B e) = t
  | 0, i, e, h1, h2 => by unfold wen at h2; omega
  | j + 1, i, e, h1, h2 => by
    unfold wen at h2
    by_cases h : tyb (B i) = t
    · rw [if_pos h] at h2
      by_cases he : e = i
      · subst he; exact h
      · exact wen_ty B t j (i + 1) e (by omega) h2
    · rw [if_neg h] at h2; omega
theorem tyb_pos (b : Int32) : tyb b ≠ 0 := by
  unfold tyb
  split
  · decide
  · split <;> decide
theorem tyb_le (b : Int32) : tyb b ≤ 3 := by
  unfold tyb
  split
  · decide
  · split <;> decide
theorem isW_i (t : Nat) : isW t = true ↔ (t = 1 ∨ t = 2) := by unfold isW; simp
/-- what is looked at, as it may be -/
def okl (B : Nat → Int32) (n : Nat) (l : lk) : Prop := l.1 ≤ l.2.1 ∧ l.2.1 ≤ n ∧ l.2.2.1 = tya B n l.1 ∧ (l.2.2.1 ≠ 0 → l.1 < l.2.1) ∧ (l.2.2.1 = 0 → l.1 = n) ∧ (l.2.2.1 = 3 → l.2.1 = l.1 + 1) ∧ (isW l.2.2.1 = true → ∀ e, l.1 ≤ e → e < l.2.1 → tyb (B e) = l.2.2.1) ∧ (l.2.2.2 = true → isW l.2.2.1 = true)
theorem nS_le {B : Nat → Int32} {n : Nat} {l : lk} (h : l.2.1 ≤ n) : l.2.1 ≤ nS B n l ∧ nS B n l ≤ n := by
  have := skp_le B (n - l.2.1) l.2.1
  unfold nS
  omega
theorem okl_nxk {B : Nat → Int32} {n : Nat} {l : lk} (h : l.2.1 ≤ n) : okl B n (nxk B n l) := by
  have hs := nS_le (B := B) h
  unfold okl nxk
  dsimp only
  have ht : nT B n l = tya B n (nS B n l) := rfl
  by_cases hn : nS B n l < n
  · have ht2 : nT B n l = tyb (B (nS B n l)) := by rw [ht]; exact if_pos hn
    have hpos := tyb_pos (B (nS B n l))
    rw [← ht2] at hpos
    have hw := wen_le B (nT B n l) (n - (nS B n l + 1)) (nS B n l + 1)
    have hp : nP B n l = if isW (nT B n l) = true then wen B (nT B n l) (n - (nS B n l + 1)) (nS B n l + 1) else min n (nS B n l + 1) := rfl
    by_cases hW : isW (nT B n l) = true
    · rw [if_pos hW] at hp
      refine ⟨by omega, by omega, ht, fun _ => by omega, fun h0 => absurd h0 hpos, fun h3 => ?_, fun _ e h1 h2 => ?_, fun hb => ?_⟩
      · rw [h3] at hW; cases hW
      · by_cases he : e = nS B n l
        · subst he; exact ht2.symm
        · rw [hp] at h2
          exact wen_ty B _ _ _ e (by omega) h2
      · exact hW
    · rw [if_neg hW] at hp
      refine ⟨by omega, by omega, ht, fun _ => by omega, fun h0 => absurd h0 hpos, fun h3 => by omega, fun h => absurd h hW, fun hb => ?_⟩
      unfold nB at hb
      simp only [Bool.and_eq_true] at hb
      exact hb.1.2
  · have ht2 : nT B n l = 0 := by rw [ht]; exact if_neg hn
    have hp : nP B n l = min n (nS B n l + 1) := by
      unfold nP
      rw [ht2]
      rfl
    refine ⟨by omega, by omega, ht, fun h0 => absurd ht2 h0, fun _ => by omega, fun h3 => by omega, fun hW => ?_, fun hb => ?_⟩
    · rw [ht2] at hW; cases hW
    · unfold nB at hb
      rw [ht2] at hb
      simp [isW] at hb
theorem okl_in {B : Nat → Int32} {n : Nat} {l : lk} (h : okl B n l) (h0 : l.2.2.1 ≠ 0) : l.1 < n := by
  have := h.2.2.2.1 h0
  have := h.2.1
  omega
theorem sg_3 {B : Nat → Int32} {l : lk} {x : Int32} (h : sg B l = x) (hx : x ≠ -1) : l.2.2.1 = 3 ∧ B l.1 = x := by
  unfold sg at h
  by_cases h3 : l.2.2.1 = 3
  · rw [if_pos h3] at h; exact ⟨h3, h⟩
  · rw [if_neg h3] at h; exact absurd h.symm hx
theorem jnz_3 {B : Nat → Int32} {l : lk} {lv : Nat} (h : jnz lv (sg B l)) : l.2.2.1 = 3 ∧ isSg (nn (sg B l)) ∧ sg B l = nI (nn (sg B l)) := by
  have key : ∀ x : Int32, jnz lv x → x ≠ -1 ∧ isSg (nn x) ∧ x = nI (nn x) := by
    intro x hx
    unfold jnz at hx
    split at hx
    · subst hx; exact ⟨by decide, by unfold isSg; decide, by decide⟩
    · split at hx
      · subst hx; exact ⟨by decide, by unfold isSg; decide, by decide⟩
      · split at hx
        · rcases hx with hx | hx | hx <;> subst hx <;> exact ⟨by decide, by unfold isSg; decide, by decide⟩
        · split at hx
          · rcases hx with hx | hx <;> subst hx <;> exact ⟨by decide, by unfold isSg; decide, by decide⟩
          · rcases hx with hx | hx <;> subst hx <;> exact ⟨by decide, by unfold isSg; decide, by decide⟩
  obtain ⟨h1, h2, h3⟩ := key _ h
  exact ⟨(sg_3 rfl h1).1, h2, h3⟩
theorem lp_0 (B : Nat → Int32) (n : Nat) (g : lk → List Nat → pr) (lv : Nat) (l : lk) (P : List Nat) : lp B n g lv 0 l P = .inr (l, P) := rfl
theorem lp_f {B : Nat → Int32} {n : Nat} {g : lk → List Nat → pr} {lv m : Nat} {l : lk} {P : List Nat} (h : ¬ jnz lv (sg B l)) : lp B n g lv (m + 1) l P = .inr (l, P) := if_neg h
theorem lp_t {B : Nat → Int32} {n : Nat} {g : lk → List Nat → pr} {lv m : Nat} {l : lk} {P : List Nat} (h : jnz lv (sg B l)) : lp B n g lv (m + 1) l P = match g (nxk B n l) P with
    | .inl s => .inl s
    | .inr q => lp B n g lv m q.1 (q.2 ++ [20000 + nn (sg B l)]) := if_pos h
theorem ps_lv {B : Nat → Int32} {n key f lv br no : Nat} {l : lk} {P : List Nat} (h : lv < 5) : ps B n key (f + 1) lv br no l P = match ps B n key f (lv + 1) br no l P with
      | .inl s => .inl s
      | .inr q => lp B n (fun l P => ps B n key f (lv + 1) br no l P) lv (mst lv) q.1 q.2 := if_pos h
theorem ps_w {B : Nat → Int32} {n key f br no : Nat} {l : lk} {P : List Nat} (h : isW l.2.2.1 = true) : ps B n key (f + 1) 5 br no l P = match opr B key l with
      | none => .inl l.1
      | some c => .inr (nxk B n l, P ++ [c]) := by
  rw [ps, if_neg (by decide), if_pos h]
theorem ps_n {B : Nat → Int32} {n key f br no : Nat} {l : lk} {P : List Nat} (h : ¬ isW l.2.2.1 = true) (h1 : sg B l = 33 ∧ no < 8) : ps B n key (f + 1) 5 br no l P = match ps B n key f 5 br (no + 1) (nxk B n l) P with
      | .inl s => .inl s
      | .inr q => .inr (q.1, q.2 ++ [20033]) := by
  rw [ps, if_neg (by decide), if_neg h, if_pos h1]
theorem ps_b {B : Nat → Int32} {n key f br no : Nat} {l : lk} {P : List Nat} (h : ¬ isW l.2.2.1 = true) (h1 : ¬ (sg B l = 33 ∧ no < 8)) (h2 : sg B l = 40 ∧ br < 8) : ps B n key (f + 1) 5 br no l P = match ps B n key f 0 (br + 1) no (nxk B n l) P with
      | .inl s => .inl s
      | .inr q => if sg B q.1 = 41 then .inr (nxk B n q.1, q.2) else .inl q.1.1 := by
  rw [ps, if_neg (by decide), if_neg h, if_neg h1, if_pos h2]
theorem ps_x {B : Nat → Int32} {n key f br no : Nat} {l : lk} {P : List Nat} (h : ¬ isW l.2.2.1 = true) (h1 : ¬ (sg B l = 33 ∧ no < 8)) (h2 : ¬ (sg B l = 40 ∧ br < 8)) : ps B n key (f + 1) 5 br no l P = .inl l.1 := by
  rw [ps, if_neg (by decide), if_neg h, if_neg h1, if_neg h2]
theorem nxk_1 {B : Nat → Int32} {n : Nat} {l : lk} (h : okl B n l) (h0 : l.2.2.1 ≠ 0) : l.1 < (nxk B n l).1 ∧ l.2.1 ≤ (nxk B n l).1 := by
  have h1 := nS_le (B := B) h.2.1
  have h2 := h.2.2.2.1 h0
  show l.1 < nS B n l ∧ l.2.1 ≤ nS B n l
  omega
/-- what reading leaves: it goes on at least as far as the program grows -/
def rok (B : Nat → Int32) (n : Nat) (l : lk) (P : List Nat) (r : pr) : Prop := match r with
  | .inl s => s ≤ n
  | .inr q => okl B n q.1 ∧ P.length + 1 ≤ q.2.length ∧ q.2.length + l.1 ≤ P.length + q.1.1 ∧ ∃ Q, q.2 = P ++ Q ∧ ∀ R h, Gd R (h + 1) → Gd (Q ++ R) h
theorem rok_lp {B : Nat → Int32} {n : Nat} {g : lk → List Nat → pr} (lv : Nat) (hg : ∀ l P, okl B n l → rok B n l P (g l P)) : ∀ m (l0 l : lk) (P0 P : List Nat), okl B n l → P0.length + 1 ≤ P.length → P.length + l0.1 ≤ P0.length + l.1 → (∃ Q, P = P0 ++ Q ∧ ∀ R h, Gd R (h + 1) → Gd (Q ++ R) h) → rok B n l0 P0 (lp B n g lv m l P)
  | 0, l0, l, P0, P, h1, h2, h3, h4 => ⟨h1, h2, h3, h4⟩
  | m + 1, l0, l, P0, P, h1, h2, h3, h4 => by
    by_cases hj : jnz lv (sg B l)
    · rw [lp_t hj]
      obtain ⟨j1, j2, -⟩ := jnz_3 hj
      have hn := nxk_1 h1 (by omega)
      have hr := hg (nxk B n l) P (okl_nxk h1.2.1)
      cases he : g (nxk B n l) P with
      | inl s => rw [he] at hr; exact hr
      | inr q =>
        rw [he] at hr
        obtain ⟨r1, r2, r3, Q, r4, r5⟩ := hr
        obtain ⟨Q0, e0, g0⟩ := h4
        refine rok_lp lv hg m l0 q.1 P0 _ r1 ?_ ?_ ⟨Q0 ++ (Q ++ [20000 + nn (sg B l)]), ?_, ?_⟩
        · simp only [List.length_append, List.length_cons, List.length_nil]; omega
        · simp only [List.length_append, List.length_cons, List.length_nil]; omega
        · rw [r4, e0]; simp only [List.append_assoc]
        · intro R h hR
          simp only [List.append_assoc]
          refine g0 _ h (r5 _ (h + 1) ?_)
          show Gd ((20000 + nn (sg B l)) :: R) (h + 1 + 1)
          have hc : nn (sg B l) < 125 := by unfold isSg at j2; omega
          have h33 : nn (sg B l) ≠ 33 := by unfold isSg at j2; omega
          unfold Gd
          rw [if_neg (by omega), if_neg (by omega)]
          exact ⟨by omega, ⟨_, j2, rfl⟩, hR⟩
    · rw [lp_f hj]
      exact ⟨h1, h2, h3, h4⟩
theorem nn_ty1 {b : Int32} (h : tyb b = 1) : ∃ c, 97 ≤ c ∧ c ≤ 122 ∧ b = nI c := by
  unfold tyb at h
  by_cases h1 : 97 ≤ b ∧ b ≤ 122
  · have h0 : ¬ b < 0 := Int32.not_lt.mpr (Int32.le_trans (by decide) h1.1)
    obtain ⟨j, hj, e⟩ := nI_of2 (M := 122) (n := 122) rfl h0 h1.2
    refine ⟨j, ?_, hj, e⟩
    have := h1.1
    rw [e, show (97 : Int32) = nI 97 from rfl, nI_leI (by decide) (by omega)] at this
    exact this
  · rw [if_neg h1] at h
    split at h <;> omega
theorem nn_ty2 {b : Int32} (h : tyb b = 2) : ∃ c, 48 ≤ c ∧ c ≤ 57 ∧ b = nI c := by
  unfold tyb at h
  by_cases h1 : 97 ≤ b ∧ b ≤ 122
  · rw [if_pos h1] at h; omega
  · rw [if_neg h1] at h
    by_cases h2 : 48 ≤ b ∧ b ≤ 57
    · have h0 : ¬ b < 0 := Int32.not_lt.mpr (Int32.le_trans (by decide) h2.1)
      obtain ⟨j, hj, e⟩ := nI_of2 (M := 57) (n := 57) rfl h0 h2.2
      refine ⟨j, ?_, hj, e⟩
      have := h2.1
      rw [e, show (48 : Int32) = nI 48 from rfl, nI_leI (by decide) (by omega)] at this
      exact this
    · rw [if_neg h2] at h; omega
theorem nuv_lt {B : Nat → Int32} {s : Nat} : ∀ k, (∀ e, s ≤ e → e < s + k → tyb (B e) = 2) → nuv B s k < 10 ^ k
  | 0, _ => Nat.one_pos
  | k + 1, h => by
    have ih := nuv_lt k (fun e h1 h2 => h e h1 (by omega))
    obtain ⟨c, h1, h2, e⟩ := nn_ty2 (h (s + k) (by omega) (by omega))
    unfold nuv
    rw [e, nn_nI (by omega), Nat.pow_succ]
    omega
theorem opr_lt {B : Nat → Int32} {n key c : Nat} {l : lk} (hl : okl B n l) (h : opr B key l = some c) : c < 10004 := by
  unfold opr at h
  split at h
  · cases h
  · split at h
    · rename_i h2
      split at h
      · cases h
      · rename_i h4
        injection h with h
        have hw := hl.2.2.2.2.2.2.1 (by rw [h2]; rfl)
        have := nuv_lt (B := B) (s := l.1) (l.2.1 - l.1) (fun e h1 h2' => by rw [← h2]; exact hw e h1 (by have := hl.1; omega))
        have h10 : 10 ^ (l.2.1 - l.1) ≤ 10 ^ 4 := Nat.pow_le_pow_right (by decide) (by omega)
        omega
    · split at h
      · cases hn : nmx key (B l.1) with
        | none => rw [hn] at h; cases h
        | some i =>
          rw [hn] at h
          have h : 10000 + i = c := by injection h
          have : i < 4 := by
            unfold nmx at hn
            repeat' split at hn
            all_goals (cases hn <;> decide)
          omega
      · cases h
theorem rok_ps (B : Nat → Int32) (n key : Nat) : ∀ f lv br no (l : lk) (P : List Nat), okl B n l → rok B n l P (ps B n key f lv br no l P)
  | 0, _, _, _, l, _, h => (by have := h.1; have := h.2.1; show l.1 ≤ n; omega)
  | f + 1, lv, br, no, l, P, h => by
    have hsn : l.1 ≤ n := by have := h.1; have := h.2.1; omega
    by_cases hlv : lv < 5
    · rw [ps_lv hlv]
      have ih := rok_ps B n key f (lv + 1) br no l P h
      cases he : ps B n key f (lv + 1) br no l P with
      | inl s => rw [he] at ih; exact ih
      | inr q =>
        rw [he] at ih
        obtain ⟨r1, r2, r3, r4⟩ := ih
        exact rok_lp lv (fun l P h => rok_ps B n key f (lv + 1) br no l P h) _ l q.1 P q.2 r1 r2 r3 r4
    · have e5 : ps B n key (f + 1) lv br no l P = ps B n key (f + 1) 5 br no l P := by
        rw [ps, ps, if_neg hlv, if_neg (show ¬ (5 : Nat) < 5 by decide)]
      rw [e5]
      by_cases hW : isW l.2.2.1 = true
      · rw [ps_w hW]
        cases ho : opr B key l with
        | none => exact hsn
        | some c =>
          have hc := opr_lt h ho
          have hn := nxk_1 h (by intro e; rw [e] at hW; cases hW)
          refine ⟨okl_nxk h.2.1, by simp, ?_, [c], rfl, ?_⟩
          · dsimp only
            rw [List.length_append]
            show P.length + 1 + l.1 ≤ _
            omega
          · intro R k hR
            show Gd (c :: R) k
            unfold Gd
            rw [if_pos hc]
            exact hR
      · by_cases h1 : sg B l = 33 ∧ no < 8
        · rw [ps_n hW h1]
          have h3 := (sg_3 h1.1 (by decide)).1
          have hn := nxk_1 h (by omega)
          have ih := rok_ps B n key f 5 br (no + 1) (nxk B n l) P (okl_nxk h.2.1)
          cases he : ps B n key f 5 br (no + 1) (nxk B n l) P with
          | inl s => rw [he] at ih; exact ih
          | inr q =>
            rw [he] at ih
            obtain ⟨r1, r2, r3, Q, r4, r5⟩ := ih
            refine ⟨r1, ?_, ?_, Q ++ [20033], by dsimp only; rw [r4, List.append_assoc], ?_⟩
            · dsimp only
              rw [List.length_append]
              omega
            · dsimp only
              rw [List.length_append]
              show q.2.length + 1 + l.1 ≤ _
              omega
            · intro R k hR
              rw [List.append_assoc]
              refine r5 _ k ?_
              show Gd (20033 :: R) (k + 1)
              unfold Gd
              rw [if_neg (by decide), if_pos rfl]
              exact ⟨by omega, hR⟩
        · by_cases h2 : sg B l = 40 ∧ br < 8
          · rw [ps_b hW h1 h2]
            have h3 := (sg_3 h2.1 (by decide)).1
            have hn := nxk_1 h (by omega)
            have ih := rok_ps B n key f 0 (br + 1) no (nxk B n l) P (okl_nxk h.2.1)
            cases he : ps B n key f 0 (br + 1) no (nxk B n l) P with
            | inl s => rw [he] at ih; exact ih
            | inr q =>
              rw [he] at ih
              obtain ⟨r1, r2, r3, r4⟩ := ih
              dsimp only
              by_cases h41 : sg B q.1 = 41
              · rw [if_pos h41]
                have h3' := (sg_3 h41 (by decide)).1
                have hn' := nxk_1 r1 (by omega)
                refine ⟨okl_nxk r1.2.1, r2, ?_, r4⟩
                dsimp only
                omega
              · rw [if_neg h41]
                have := r1.1
                have := r1.2.1
                show q.1.1 ≤ n
                omega
          · rw [ps_x hW h1 h2]
            exact hsn
