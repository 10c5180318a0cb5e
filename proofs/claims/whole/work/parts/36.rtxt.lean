/-! part 36: the class reads a text, whole -/
def keyV (B : Nat → Int32) (l : lk) : Option Nat := if l.2.2.1 = 1 ∧ l.2.1 - l.1 ≤ 9 then (if hsv B l.1 (l.2.1 - l.1) = 283623584 then some 0 else if hsv B l.1 (l.2.1 - l.1) = 4514 then some 1 else if hsv B l.1 (l.2.1 - l.1) = 125042 then some 2 else none) else none
def hvr : List Nat → Nat
  | [] => 0
  | c :: r => 27 * hvr r + c
def mtr (B : Nat → Int32) (s : Nat) : List Nat → Nat → Prop
  | [], m => m = 0
  | c :: r, m => ∃ m', m = m' + 1 ∧ B (s + m') = nI (c + 96) ∧ mtr B s r m'
theorem hsv_mtr {B : Nat → Int32} {s : Nat} : ∀ (r : List Nat) (m : Nat), (∀ c ∈ r, 1 ≤ c ∧ c ≤ 26) → (∀ e, s ≤ e → e < s + m → tyb (B e) = 1) → (hsv B s m = hvr r ↔ mtr B s r m)
  | [], 0, _, _ => ⟨fun _ => rfl, fun _ => rfl⟩
  | [], m + 1, _, hB => by
    obtain ⟨x, h1, h2, e⟩ := nn_ty1 (hB (s + m) (by omega) (by omega))
    constructor
    · intro h
      unfold hsv hvr at h
      rw [e, nn_nI (by omega)] at h
      omega
    · intro h
      have h : m + 1 = 0 := h
      omega
  | c :: r, 0, hr, _ => by
    have hc := hr c List.mem_cons_self
    constructor
    · intro h
      have h : 0 = 27 * hvr r + c := h
      omega
    · rintro ⟨m', h, -⟩
      omega
  | c :: r, m + 1, hr, hB => by
    have hc := hr c List.mem_cons_self
    have ih := hsv_mtr r m (fun x hx => hr x (List.mem_cons_of_mem _ hx)) (fun e h1 h2 => hB e h1 (by omega))
    obtain ⟨x, h1, h2, e⟩ := nn_ty1 (hB (s + m) (by omega) (by omega))
    have eH : hsv B s (m + 1) = 27 * hsv B s m + (x - 96) := by
      show 27 * hsv B s m + (nn (B (s + m)) - 96) = _
      rw [e, nn_nI (by omega)]
    have eV : hvr (c :: r) = 27 * hvr r + c := rfl
    rw [eH, eV]
    constructor
    · intro h
      have hx : x = c + 96 := by omega
      exact ⟨m, rfl, by rw [e, hx], ih.mp (by omega)⟩
    · rintro ⟨m', h3, h4, h5⟩
      have e3 : m' = m := by omega
      subst e3
      rw [e] at h4
      have h4 := (nI_eq (by omega) (by omega)).mp h4
      have := ih.mpr h5
      omega
def mtc (B f : Nat → Int32) (s : Nat) : Nat → Nat → Bool
  | 0, _ => true
  | j + 1, i => if B (s + i) = f i then mtc B f s j (i + 1) else false
theorem mtc_s {B f : Nat → Int32} {s j i : Nat} : mtc B f s (j + 1) i = true ↔ (B (s + i) = f i ∧ mtc B f s j (i + 1) = true) := by
  show (if B (s + i) = f i then mtc B f s j (i + 1) else false) = true ↔ _
  by_cases h : B (s + i) = f i
  · rw [if_pos h]; exact ⟨fun q => ⟨h, q⟩, fun q => q.2⟩
  · rw [if_neg h]; exact ⟨fun q => (by cases q), fun q => absurd q.1 h⟩
theorem mt_0 (B : Nat → Int32) (s m : Nat) : (m = 6 ∧ mtc B (xsb 0) s 6 0 = true) ↔ mtr B s [5, 11, 15, 18, 20, 19] m := by
  constructor
  · rintro ⟨rfl, h⟩
    obtain ⟨a0, h⟩ := mtc_s.mp h
    obtain ⟨a1, h⟩ := mtc_s.mp h
    obtain ⟨a2, h⟩ := mtc_s.mp h
    obtain ⟨a3, h⟩ := mtc_s.mp h
    obtain ⟨a4, h⟩ := mtc_s.mp h
    obtain ⟨a5, h⟩ := mtc_s.mp h
    exact ⟨5, rfl, a5, 4, rfl, a4, 3, rfl, a3, 2, rfl, a2, 1, rfl, a1, 0, rfl, a0, rfl⟩
  · rintro ⟨m5, rfl, a5, m4, rfl, a4, m3, rfl, a3, m2, rfl, a2, m1, rfl, a1, m0, rfl, a0, hz⟩
    have hz : m0 = 0 := hz
    subst hz
    exact ⟨rfl, mtc_s.mpr ⟨a0, mtc_s.mpr ⟨a1, mtc_s.mpr ⟨a2, mtc_s.mpr ⟨a3, mtc_s.mpr ⟨a4, mtc_s.mpr ⟨a5, rfl⟩⟩⟩⟩⟩⟩⟩
theorem mt_1 (B : Nat → Int32) (s m : Nat) : (m = 3 ∧ mtc B (xsb 1) s 3 0 = true) ↔ mtr B s [5, 5, 6] m := by
  constructor
  · rintro ⟨rfl, h⟩
    obtain ⟨a0, h⟩ := mtc_s.mp h
    obtain ⟨a1, h⟩ := mtc_s.mp h
    obtain ⟨a2, h⟩ := mtc_s.mp h
    exact ⟨2, rfl, a2, 1, rfl, a1, 0, rfl, a0, rfl⟩
  · rintro ⟨m2, rfl, a2, m1, rfl, a1, m0, rfl, a0, hz⟩
    have hz : m0 = 0 := hz
    subst hz
    exact ⟨rfl, mtc_s.mpr ⟨a0, mtc_s.mpr ⟨a1, mtc_s.mpr ⟨a2, rfl⟩⟩⟩⟩
theorem mt_2 (B : Nat → Int32) (s m : Nat) : (m = 4 ∧ mtc B (xsb 2) s 4 0 = true) ↔ mtr B s [5, 14, 9, 6] m := by
  constructor
  · rintro ⟨rfl, h⟩
    obtain ⟨a0, h⟩ := mtc_s.mp h
    obtain ⟨a1, h⟩ := mtc_s.mp h
    obtain ⟨a2, h⟩ := mtc_s.mp h
    obtain ⟨a3, h⟩ := mtc_s.mp h
    exact ⟨3, rfl, a3, 2, rfl, a2, 1, rfl, a1, 0, rfl, a0, rfl⟩
  · rintro ⟨m3, rfl, a3, m2, rfl, a2, m1, rfl, a1, m0, rfl, a0, hz⟩
    have hz : m0 = 0 := hz
    subst hz
    exact ⟨rfl, mtc_s.mpr ⟨a0, mtc_s.mpr ⟨a1, mtc_s.mpr ⟨a2, mtc_s.mpr ⟨a3, rfl⟩⟩⟩⟩⟩
section RTXT
variable {ke op sz : Int32} {B S : Nat → Int32} {H : xh} {k : Nat} {l : lk}
def isH (B f : Nat → Int32) (l : lk) (n : Nat) : Bool := decide (l.2.2.1 = 1) && (decide (l.2.1 - l.1 = n) && mtc B f l.1 n 0)
theorem r_here_l (d : Nat) (hk : k ≤ 96) (hl : okl B k l) {e v n : Nat} {f : Nat → Int32} (t : sT H e v n f) (hn : n ≤ 100) (hf : ∀ i, i < n → ∃ q, q < 128 ∧ f i = nI q) (hm : l.2.1 - l.1 = n) : ∀ j i, i + j = n → RF 41 (Ev (d + 4)) 28 [some (.ref 29), some (.retAddr e), some (.int (nI i))] [] (tpk k l ke op sz B S H) = some (some (.int (bi (mtc B f l.1 j i = true))), tpk k l ke op sz B S H)
  | 0, i, e0 => by
    have e' : i = n := by omega
    subst e'
    have t' : sT (tpk k l ke op sz B S H) e v i f := t
    have hc : Int32.ofNat i ≤ nI i := Int32.le_refl _
    rw [S41_28, show bi (mtc B f l.1 0 i = true) = 1 from rfl]
    simp only [S41_29, S41_30, S41_33, S41_36, S41_37, S41_40, S41_41, S41_44, S41_45, S41_46, S41_47, S41_48, S41_49, S41_52, S41_55, S41_56, S41_57, S41_60, S41_63, S41_64, Option.bind_some, Option.map_some, xpush_s, xpush_n, xcat_0, xcat_i, xcat_r, xcat_l, xcat_n, xcat_e, xir_r, Nat.reduceAdd, Nat.reduceLeDiff, Nat.zero_le, Nat.le_refl, ↓reduceIte, xir_e, sT_cls t', t_length _ t', hc, nar_1]
  | j + 1, i, e0 => by
    have t' : sT (tpk k l ke op sz B S H) e v n f := t
    have hl1 := hl.1
    have hl2 := hl.2.1
    have hc : ¬ Int32.ofNat n ≤ nI i := nI_ge (by omega) (by omega)
    have hx := xix_n (show l.1 + i < 96 by omega) (show 96 ≤ 100000 by decide)
    obtain ⟨q, hq, eq⟩ := hf i (by omega)
    have hch := t_charAt d t' hn (i := i) (by omega) hq eq
    have hg0 : hgf (tpk k l ke op sz B S H) (.ref 29) 3 0 = some (.ref 30) := Tg_0
    have hg2 : hgf (tpk k l ke op sz B S H) (.ref 29) 3 2 = some (.int (nI l.1)) := Tg_2
    have hrb : hrd (tpk k l ke op sz B S H) (.ref 30) 0 (nI (l.1 + i)) = (xix (nI (l.1 + i)) 96).map B := Tr_B _
    have ih := r_here_l d hk hl t hn hf hm j (i + 1) (by omega)
    rw [S41_28]
    by_cases h : B (l.1 + i) = nI q
    · have em : mtc B f l.1 (j + 1) i = mtc B f l.1 j (i + 1) := if_pos (by rw [h, eq])
      rw [em]
      simp only [S41_29, S41_30, S41_33, S41_36, S41_37, S41_40, S41_41, S41_44, S41_45, S41_46, S41_47, S41_48, S41_49, S41_52, S41_55, S41_56, S41_57, S41_60, S41_63, S41_64, Option.bind_some, Option.map_some, xpush_s, xpush_n, xcat_0, xcat_i, xcat_r, xcat_l, xcat_n, xcat_e, xir_r, Nat.reduceAdd, Nat.reduceLeDiff, Nat.zero_le, Nat.le_refl, ↓reduceIte, xir_e, sT_cls t', t_length _ t', hc, hg0, hg2, nI_add, hrb, hx, hch, if_pos h, nI_1]
      exact ih
    · have em : mtc B f l.1 (j + 1) i = false := if_neg (by rw [eq]; exact h)
      rw [em, show bi (false = true) = 0 from rfl]
      simp only [S41_29, S41_30, S41_33, S41_36, S41_37, S41_40, S41_41, S41_44, S41_45, S41_46, S41_47, S41_48, S41_49, S41_52, S41_55, S41_56, S41_57, S41_60, S41_63, S41_64, Option.bind_some, Option.map_some, xpush_s, xpush_n, xcat_0, xcat_i, xcat_r, xcat_l, xcat_n, xcat_e, xir_r, Nat.reduceAdd, Nat.reduceLeDiff, Nat.zero_le, Nat.le_refl, ↓reduceIte, xir_e, sT_cls t', t_length _ t', hc, hg0, hg2, nI_add, hrb, hx, hch, if_neg h, nar_0]
theorem r_here (d : Nat) (hk : k ≤ 96) (hl : okl B k l) {e v n : Nat} {f : Nat → Int32} (t : sT H e v n f) (hn : n ≤ 100) (hf : ∀ i, i < n → ∃ q, q < 128 ∧ f i = nI q) : Ev (d + 5) 41 [.ref 29, .retAddr e] (tpk k l ke op sz B S H) = some (some (.int (bi (isH B f l n = true))), tpk k l ke op sz B S H) := by
  have t' : sT (tpk k l ke op sz B S H) e v n f := t
  have hl1 := hl.1
  have hl2 := hl.2.1
  have es : nI l.2.1 - nI l.1 = nI (l.2.1 - l.1) := pk_sub hl.1
  have hg2 : hgf (tpk k l ke op sz B S H) (.ref 29) 3 2 = some (.int (nI l.1)) := Tg_2
  have hg3 : hgf (tpk k l ke op sz B S H) (.ref 29) 3 3 = some (.int (nI l.2.1)) := Tg_3
  have hg4 : hgf (tpk k l ke op sz B S H) (.ref 29) 3 4 = some (.int (nI l.2.2.1)) := Tg_4
  have ht : l.2.2.1 ≤ 3 := by rw [hl.2.2.1]; exact tya_le _ _ _
  rw [E41]
  by_cases h1 : l.2.2.1 = 1
  · have h1' : nI l.2.2.1 = 1 := by rw [h1]; rfl
    by_cases h2 : l.2.1 - l.1 = n
    · have h2' : nI (l.2.1 - l.1) = Int32.ofNat n := by rw [h2]; rfl
      have e : isH B f l n = mtc B f l.1 n 0 := by unfold isH; simp [h1, h2]
      rw [e]
      have hr := r_here_l (ke := ke) (op := op) (sz := sz) (S := S) d hk hl t hn hf h2 n 0 (by omega)
      simp only [S41_0, S41_1, S41_4, S41_5, S41_8, S41_9, S41_12, S41_13, S41_16, S41_17, S41_18, S41_21, S41_24, S41_25, S41_26, S41_27, Option.bind_some, Option.map_some, xpush_s, xpush_n, xcat_0, xcat_i, xcat_r, xcat_l, xcat_n, xcat_e, xir_r, Nat.reduceAdd, Nat.reduceLeDiff, Nat.zero_le, Nat.le_refl, ↓reduceIte, xir_e, hg4, hg3, hg2, es, sT_cls t', t_length _ t', if_pos h1', if_pos h2']
      exact hr
    · have h2' : ¬ nI (l.2.1 - l.1) = Int32.ofNat n := fun q => h2 ((nI_eq (by omega) (by omega)).mp q)
      rw [bi_f (by unfold isH; simp [h2])]
      simp only [S41_0, S41_1, S41_4, S41_5, S41_8, S41_9, S41_12, S41_13, S41_16, S41_17, S41_18, S41_21, S41_24, S41_25, S41_26, S41_27, Option.bind_some, Option.map_some, xpush_s, xpush_n, xcat_0, xcat_i, xcat_r, xcat_l, xcat_n, xcat_e, xir_r, Nat.reduceAdd, Nat.reduceLeDiff, Nat.zero_le, Nat.le_refl, ↓reduceIte, xir_e, hg4, hg3, hg2, es, sT_cls t', t_length _ t', if_pos h1', if_neg h2', nar_0]
  · have h1' : ¬ nI l.2.2.1 = 1 := fun q => h1 ((nI_eq (b := 1) (by omega) (by decide)).mp q)
    rw [bi_f (by unfold isH; simp [h1])]
    simp only [S41_0, S41_1, S41_4, S41_5, S41_8, S41_9, S41_12, S41_13, S41_16, S41_17, S41_18, S41_21, S41_24, S41_25, S41_26, S41_27, Option.bind_some, Option.map_some, xpush_s, xpush_n, xcat_0, xcat_i, xcat_r, xcat_l, xcat_n, xcat_e, xir_r, Nat.reduceAdd, Nat.reduceLeDiff, Nat.zero_le, Nat.le_refl, ↓reduceIte, xir_e, hg4, if_neg h1', nar_0]
theorem xsb_q (i : Nat) (hi : i < 6) : ∀ j, j < x_sn.getD i 0 → ∃ q, q < 128 ∧ xsb i j = nI q := by
  have key : ∀ i, i < 6 → ∀ j, j < x_sn.getD i 0 → (nn (xsb i j) < 128 ∧ xsb i j = nI (nn (xsb i j))) := by decide +kernel
  intro j hj
  exact ⟨nn (xsb i j), (key i hi j hj).1, (key i hi j hj).2⟩
theorem keyV_h (hl : okl B k l) : keyV B l = if isH B (xsb 0) l 6 = true then some 0 else if isH B (xsb 1) l 3 = true then some 1 else if isH B (xsb 2) l 4 = true then some 2 else none := by
  unfold keyV
  by_cases h1 : l.2.2.1 = 1
  · have hw := hl.2.2.2.2.2.2.1 (by rw [h1]; rfl)
    rw [h1] at hw
    have hw' : ∀ e, l.1 ≤ e → e < l.1 + (l.2.1 - l.1) → tyb (B e) = 1 := fun e a b => hw e a (by have := hl.1; omega)
    have k0 : (hsv B l.1 (l.2.1 - l.1) = 283623584) ↔ isH B (xsb 0) l 6 = true := by
      rw [show (283623584 : Nat) = hvr [5, 11, 15, 18, 20, 19] from rfl, hsv_mtr _ _ (by decide) hw', ← mt_0]
      unfold isH
      simp [h1]
    have k1 : (hsv B l.1 (l.2.1 - l.1) = 4514) ↔ isH B (xsb 1) l 3 = true := by
      rw [show (4514 : Nat) = hvr [5, 5, 6] from rfl, hsv_mtr _ _ (by decide) hw', ← mt_1]
      unfold isH
      simp [h1]
    have k2 : (hsv B l.1 (l.2.1 - l.1) = 125042) ↔ isH B (xsb 2) l 4 = true := by
      rw [show (125042 : Nat) = hvr [5, 14, 9, 6] from rfl, hsv_mtr _ _ (by decide) hw', ← mt_2]
      unfold isH
      simp [h1]
    simp only [k0, k1, k2]
    by_cases h9 : l.2.1 - l.1 ≤ 9
    · rw [if_pos ⟨h1, h9⟩]
    · rw [if_neg (fun q => h9 q.2)]
      have z0 : ¬ isH B (xsb 0) l 6 = true := by unfold isH; simp [show ¬ l.2.1 - l.1 = 6 by omega]
      have z1 : ¬ isH B (xsb 1) l 3 = true := by unfold isH; simp [show ¬ l.2.1 - l.1 = 3 by omega]
      have z2 : ¬ isH B (xsb 2) l 4 = true := by unfold isH; simp [show ¬ l.2.1 - l.1 = 4 by omega]
      rw [if_neg z0, if_neg z1, if_neg z2]
  · rw [if_neg (fun q => h1 q.1)]
    have z0 : ¬ isH B (xsb 0) l 6 = true := by unfold isH; simp [h1]
    have z1 : ¬ isH B (xsb 1) l 3 = true := by unfold isH; simp [h1]
    have z2 : ¬ isH B (xsb 2) l 4 = true := by unfold isH; simp [h1]
    rw [if_neg z0, if_neg z1, if_neg z2]
theorem r_keyHere (d : Nat) (hX : oX H) (hk : k ≤ 96) (hl : okl B k l) : Ev (d + 6) 40 [.ref 29] (tpk k l ke op sz B S H) = some (some (.int (oI (keyV B l))), tpk k l ke op sz B S H) := by
  have r0 := r_here (ke := ke) (op := op) (sz := sz) (S := S) d hk hl (oX_s hX 0 (by decide)) (by decide) (xsb_q 0 (by decide))
  have r1 := r_here (ke := ke) (op := op) (sz := sz) (S := S) d hk hl (oX_s hX 1 (by decide)) (by decide) (xsb_q 1 (by decide))
  have r2 := r_here (ke := ke) (op := op) (sz := sz) (S := S) d hk hl (oX_s hX 2 (by decide)) (by decide) (xsb_q 2 (by decide))
  rw [show x_sn.getD 0 0 = 6 from rfl, Nat.add_zero] at r0
  rw [show x_sn.getD 1 0 = 3 from rfl, show 2 + 1 = 3 from rfl] at r1
  rw [show x_sn.getD 2 0 = 4 from rfl, show 2 + 2 = 4 from rfl] at r2
  have n1 : ¬ (1 : Int32) = 0 := by decide
  rw [E40, keyV_h hl]
  by_cases h0 : isH B (xsb 0) l 6 = true
  · rw [bi_t h0] at r0
    simp only [S40_0, S40_1, S40_3, S40_6, S40_9, S40_10, S40_11, S40_12, S40_14, S40_17, S40_20, S40_21, S40_22, S40_23, S40_25, S40_28, S40_31, S40_32, S40_35, S40_36, Option.bind_some, Option.map_some, xpush_s, xpush_n, xcat_0, xcat_i, xcat_r, xcat_l, xcat_n, xcat_e, xir_r, Nat.reduceAdd, Nat.reduceLeDiff, Nat.zero_le, Nat.le_refl, ↓reduceIte, Kcls, r0, n1, if_pos h0]
    rfl
  · rw [bi_f h0] at r0
    by_cases h1 : isH B (xsb 1) l 3 = true
    · rw [bi_t h1] at r1
      simp only [S40_0, S40_1, S40_3, S40_6, S40_9, S40_10, S40_11, S40_12, S40_14, S40_17, S40_20, S40_21, S40_22, S40_23, S40_25, S40_28, S40_31, S40_32, S40_35, S40_36, Option.bind_some, Option.map_some, xpush_s, xpush_n, xcat_0, xcat_i, xcat_r, xcat_l, xcat_n, xcat_e, xir_r, Nat.reduceAdd, Nat.reduceLeDiff, Nat.zero_le, Nat.le_refl, ↓reduceIte, Kcls, r0, r1, n1, if_neg h0, if_pos h1]
      rfl
    · rw [bi_f h1] at r1
      by_cases h2 : isH B (xsb 2) l 4 = true
      · rw [bi_t h2] at r2
        simp only [S40_0, S40_1, S40_3, S40_6, S40_9, S40_10, S40_11, S40_12, S40_14, S40_17, S40_20, S40_21, S40_22, S40_23, S40_25, S40_28, S40_31, S40_32, S40_35, S40_36, Option.bind_some, Option.map_some, xpush_s, xpush_n, xcat_0, xcat_i, xcat_r, xcat_l, xcat_n, xcat_e, xir_r, Nat.reduceAdd, Nat.reduceLeDiff, Nat.zero_le, Nat.le_refl, ↓reduceIte, Kcls, r0, r1, r2, n1, if_neg h0, if_neg h1, if_pos h2]
        rfl
      · rw [bi_f h2] at r2
        simp only [S40_0, S40_1, S40_3, S40_6, S40_9, S40_10, S40_11, S40_12, S40_14, S40_17, S40_20, S40_21, S40_22, S40_23, S40_25, S40_28, S40_31, S40_32, S40_35, S40_36, Option.bind_some, Option.map_some, xpush_s, xpush_n, xcat_0, xcat_i, xcat_r, xcat_l, xcat_n, xcat_e, xir_r, Nat.reduceAdd, Nat.reduceLeDiff, Nat.zero_le, Nat.le_refl, ↓reduceIte, Kcls, r0, r1, r2, n1, if_neg h0, if_neg h1, if_neg h2]
        rfl
end RTXT
theorem keyV_lt {B : Nat → Int32} {l : lk} {key : Nat} (h : keyV B l = some key) : key ≤ 2 ∧ l.2.2.1 = 1 := by
  unfold keyV at h
  split at h
  · rename_i h1
    refine ⟨?_, h1.1⟩
    repeat' split at h
    all_goals (cases h <;> decide)
  · cases h
def lk0 : lk := (0, 0, 3, false)
/-- a text's fault, or its key and its program -/
noncomputable def rdT (B : Nat → Int32) (k : Nat) : Nat ⊕ (Nat × List Nat) := match keyV B (nxk B k lk0) with
  | none => .inl (nxk B k lk0).1
  | some key => match ps B k key 70 0 0 0 (nxk B k (nxk B k lk0)) [] with
    | .inl s => .inl s
    | .inr q => if q.1.2.2.1 = 0 then .inr (key, q.2) else .inl q.1.1
theorem rdT_ok {B : Nat → Int32} {k : Nat} (hk : k ≤ 96) : match rdT B k with
    | .inl s => s ≤ 96
    | .inr q => q.1 ≤ 2 ∧ q.2.length < 96 ∧ 1 ≤ q.2.length ∧ Gd q.2 0 := by
  have hl : okl B k (nxk B k lk0) := okl_nxk (Nat.zero_le _)
  unfold rdT
  cases hk0 : keyV B (nxk B k lk0) with
  | none => have := hl.1; have := hl.2.1; dsimp only; omega
  | some key =>
    obtain ⟨k2, h1⟩ := keyV_lt hk0
    have hl' : okl B k (nxk B k (nxk B k lk0)) := okl_nxk hl.2.1
    have hr := rok_ps B k key 70 0 0 0 (nxk B k (nxk B k lk0)) [] hl'
    have hn := nxk_1 hl (by omega)
    dsimp only
    cases hq : ps B k key 70 0 0 0 (nxk B k (nxk B k lk0)) [] with
    | inl s => rw [hq] at hr; have hr : s ≤ k := hr; dsimp only; omega
    | inr q =>
      rw [hq] at hr
      obtain ⟨r1, r2, r3, Q, r4, r5⟩ := hr
      have := r1.1
      have := r1.2.1
      dsimp only
      by_cases h0 : q.1.2.2.1 = 0
      · rw [if_pos h0]
        refine ⟨k2, ?_, ?_, ?_⟩
        · simp only [List.length_nil] at r3
          dsimp only
          omega
        · simp only [List.length_nil] at r2
          dsimp only
          omega
        · dsimp only
          rw [r4, List.nil_append]
          have := r5 [] 0 rfl
          rw [List.append_nil] at this
          exact this
      · rw [if_neg h0]
        dsimp only
        omega
theorem r_readText (d : Nat) {B S : Nat → Int32} {H : xh} {k : Nat} {l : lk} {ke op sz : Int32} (hX : oX H) (hk : k ≤ 96) : match rdT B k with
    | .inl s => ∃ (l' : lk) (ke' op' sz' : Int32) (S' : Nat → Int32), Ev (d + 152) 36 [.ref 29] (tpk k l ke op sz B S H) = some (some (.int (nI s)), tpk k l' ke' op' sz' B S' H)
    | .inr q => ∃ (l' : lk) (S' : Nat → Int32), Ev (d + 152) 36 [.ref 29] (tpk k l ke op sz B S H) = some (some (.int (-1)), tpk k l' (nI q.1) (nI (cnt q.2)) (nI q.2.length) B S' H) ∧ cS S' q.2 := by
  have hl : okl B k (nxk B k lk0) := okl_nxk (Nat.zero_le _)
  have hlook : ∀ d, Ev (d + 2) 37 [.ref 29] (tp (nI k) (nI l.1) 0 3 (bi (l.2.2.2 = true)) ke 0 0 B S H) = some (none, tpk k (nxk B k lk0) ke 0 0 B S H) := fun d => r_look (l := (l.1, 0, 3, l.2.2.2)) (ke := ke) (op := 0) (sz := 0) (B := B) (S := S) (H := H) d hk (Nat.zero_le _) (show (3 : Nat) ≤ 3 by decide)
  have e0 : RF 36 (Ev (d + 151)) 0 [some (.ref 29)] [] (tpk k l ke op sz B S H) = RF 36 (Ev (d + 151)) 24 [some (.ref 29)] [] (tpk k (nxk B k lk0) ke 0 0 B S H) := by
    unfold tpk
    simp only [S36_0, S36_1, S36_2, S36_5, S36_6, S36_7, S36_10, S36_11, S36_12, S36_15, S36_16, S36_17, S36_20, S36_21, Option.bind_some, Option.map_some, xpush_s, xpush_n, xcat_0, xcat_i, xcat_r, xcat_l, xcat_n, xcat_e, xir_r, Nat.reduceAdd, Nat.reduceLeDiff, Nat.zero_le, Nat.le_refl, ↓reduceIte, Tp_3, Tp_4, Tp_7, Tp_9, Tcls, hlook]
    rfl
  have hkh := r_keyHere (ke := ke) (op := 0) (sz := 0) (S := S) (d + 145) hX hk hl
  have hp6 : ∀ x, hpf (tpk k (nxk B k lk0) ke 0 0 B S H) (.ref 29) 3 6 (.int x) = some (tpk k (nxk B k lk0) x 0 0 B S H) := fun x => Tp_6 x
  have hg6 : ∀ x, hgf (tpk k (nxk B k lk0) x 0 0 B S H) (.ref 29) 3 6 = some (.int x) := fun x => Tg_6
  have hg2 : ∀ (l : lk) (x y z : Int32) (S : Nat → Int32), hgf (tpk k l x y z B S H) (.ref 29) 3 2 = some (.int (nI l.1)) := fun l x y z S => Tg_2
  have hg4 : ∀ (l : lk) (x y z : Int32) (S : Nat → Int32), hgf (tpk k l x y z B S H) (.ref 29) 3 4 = some (.int (nI l.2.2.1)) := fun l x y z S => Tg_4
  unfold rdT
  cases hk0 : keyV B (nxk B k lk0) with
  | none =>
    rw [hk0] at hkh
    refine ⟨nxk B k lk0, -1, 0, 0, S, ?_⟩
    rw [E36, e0]
    simp only [S36_24, S36_25, S36_26, S36_29, S36_32, S36_33, S36_36, S36_39, S36_40, S36_43, S36_44, S36_45, S36_48, S36_49, S36_50, S36_51, S36_52, S36_55, S36_58, S36_59, S36_62, S36_65, S36_66, S36_69, S36_70, S36_73, Option.bind_some, Option.map_some, xpush_s, xpush_n, xcat_0, xcat_i, xcat_r, xcat_l, xcat_n, xcat_e, xir_r, Nat.reduceAdd, Nat.reduceLeDiff, Nat.zero_le, Nat.le_refl, ↓reduceIte, Kcls, hkh, hp6, hg6, hg2, show oI none = -1 from rfl, show ¬ (0 : Int32) ≤ -1 by decide]
  | some key =>
    rw [hk0] at hkh
    obtain ⟨k2, h1⟩ := keyV_lt hk0
    have hl' : okl B k (nxk B k (nxk B k lk0)) := okl_nxk hl.2.1
    have hn := nxk_1 hl (by omega)
    have hge : (0 : Int32) ≤ nI key := nI_pos' (by omega)
    have hL := (r_level (B := B) k2 hX hk 70).2 d 0 0 0 (nxk B k (nxk B k lk0)) [] S (by decide) (by decide) (by decide) (by decide) hl' (by simp only [List.length_nil]; omega) (fun j h => absurd h (Nat.not_lt_zero _))
    rw [show cnt [] = 0 from rfl, show ([] : List Nat).length = 0 from rfl, show nI 0 = 0 from rfl, show d + 2 * 70 + 11 = d + 151 from rfl] at hL
    have hr := rok_ps B k key 70 0 0 0 (nxk B k (nxk B k lk0)) [] hl'
    have e1 : RF 36 (Ev (d + 151)) 24 [some (.ref 29)] [] (tpk k (nxk B k lk0) ke 0 0 B S H) = RF 36 (Ev (d + 151)) 48 [some (.ref 29)] [] (tpk k (nxk B k (nxk B k lk0)) (nI key) 0 0 B S H) := by
      simp only [S36_24, S36_25, S36_26, S36_29, S36_32, S36_33, S36_36, S36_39, S36_40, S36_43, S36_44, S36_45, Option.bind_some, Option.map_some, xpush_s, xpush_n, xcat_0, xcat_i, xcat_r, xcat_l, xcat_n, xcat_e, xir_r, Nat.reduceAdd, Nat.reduceLeDiff, Nat.zero_le, Nat.le_refl, ↓reduceIte, Kcls, hkh, hp6, hg6, show oI (some key) = nI key from rfl, hge, K_look _ hk hl]
    dsimp only
    cases hq : ps B k key 70 0 0 0 (nxk B k (nxk B k lk0)) [] with
    | inl s =>
      rw [hq] at hL
      obtain ⟨l', op', z', S', a1, a2, a3⟩ := hL
      refine ⟨l', nI key, op', nI z', S', ?_⟩
      rw [E36, e0, e1]
      simp only [S36_48, S36_49, S36_50, S36_51, S36_52, S36_55, S36_58, S36_59, S36_62, S36_65, S36_66, S36_69, S36_70, S36_73, Option.bind_some, Option.map_some, xpush_s, xpush_n, xcat_0, xcat_i, xcat_r, xcat_l, xcat_n, xcat_e, xir_r, Nat.reduceAdd, Nat.reduceLeDiff, Nat.zero_le, Nat.le_refl, ↓reduceIte, Kcls, a1, hg2, a2]
    | inr q =>
      rw [hq] at hL hr
      obtain ⟨S', a1, a2⟩ := hL
      obtain ⟨r1, -⟩ := hr
      have ht : q.1.2.2.1 ≤ 3 := by rw [r1.2.2.1]; exact tya_le _ _ _
      dsimp only
      by_cases h0 : q.1.2.2.1 = 0
      · rw [if_pos h0]
        refine ⟨q.1, S', ?_, a2⟩
        have h0' : nI q.1.2.2.1 = 0 := by rw [h0]; rfl
        rw [E36, e0, e1]
        simp only [S36_48, S36_49, S36_50, S36_51, S36_52, S36_55, S36_58, S36_59, S36_62, S36_65, S36_66, S36_69, S36_70, S36_73, Option.bind_some, Option.map_some, xpush_s, xpush_n, xcat_0, xcat_i, xcat_r, xcat_l, xcat_n, xcat_e, xir_r, Nat.reduceAdd, Nat.reduceLeDiff, Nat.zero_le, Nat.le_refl, ↓reduceIte, Kcls, a1, hg4, if_pos h0', show ¬ (1 : Int32) = 0 by decide]
      · rw [if_neg h0]
        have h0' : ¬ nI q.1.2.2.1 = 0 := fun h => h0 ((nI_eq (b := 0) (by omega) (by decide)).mp h)
        refine ⟨q.1, nI key, nI (cnt q.2), nI q.2.length, S', ?_⟩
        rw [E36, e0, e1]
        simp only [S36_48, S36_49, S36_50, S36_51, S36_52, S36_55, S36_58, S36_59, S36_62, S36_65, S36_66, S36_69, S36_70, S36_73, Option.bind_some, Option.map_some, xpush_s, xpush_n, xcat_0, xcat_i, xcat_r, xcat_l, xcat_n, xcat_e, xir_r, Nat.reduceAdd, Nat.reduceLeDiff, Nat.zero_le, Nat.le_refl, ↓reduceIte, Kcls, a1, hg4, hg2, if_neg h0', show ¬ (1 : Int32) = 0 by decide]
