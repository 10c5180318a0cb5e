/-! part 46: both sides together -/
theorem in_e {v N : Int32} {n : Nat} (hN : N = nI n) (hn : n < 2 ^ 31) : (0 ≤ v ∧ v ≤ N) ↔ bd v n := by
  subst hN
  constructor
  · rintro ⟨h1, h2⟩
    obtain ⟨j, hj, e⟩ := nI_of (Int32.not_lt.mpr h1)
    subst e
    exact ⟨j, (nI_leI hj hn).mp h2, rfl⟩
  · rintro ⟨j, hj, e⟩
    subst e
    exact ⟨nI_pos' (by omega), nI_le hj hn⟩
theorem ou_e {v N : Int32} {n : Nat} (hN : N = nI n) (hn : n < 2 ^ 31) : (v < 0 ∨ N < v) ↔ ¬ bd v n := by
  rw [← in_e hN hn]
  constructor
  · rintro (h | h) ⟨h1, h2⟩
    · exact Int32.not_le.mpr h h1
    · exact Int32.not_le.mpr h h2
  · intro h
    by_cases h1 : 0 ≤ v
    · exact Or.inr (Int32.not_le.mp (fun q => h ⟨h1, q⟩))
    · exact Or.inl (Int32.not_le.mp h1)
def bd1 (v : Int32) (n : Nat) : Prop := ∃ k, 1 ≤ k ∧ k ≤ n ∧ v = nI k
theorem in1_e {v N : Int32} {n : Nat} (hN : N = nI n) (hn : n < 2 ^ 31) : (1 ≤ v ∧ v ≤ N) ↔ bd1 v n := by
  subst hN
  constructor
  · rintro ⟨h1, h2⟩
    obtain ⟨j, hj, e⟩ := nI_of (Int32.not_lt.mpr (Int32.le_trans (show (0 : Int32) ≤ 1 by decide) h1))
    subst e
    exact ⟨j, (nI_leI (a := 1) (by decide) hj).mp h1, (nI_leI hj hn).mp h2, rfl⟩
  · rintro ⟨j, h1, hj, e⟩
    subst e
    exact ⟨nI_le (a := 1) h1 (by omega), nI_le hj hn⟩
theorem ou1_e {v N : Int32} {n : Nat} (hN : N = nI n) (hn : n < 2 ^ 31) : (v < 1 ∨ N < v) ↔ ¬ bd1 v n := by
  rw [← in1_e hN hn]
  constructor
  · rintro (h | h) ⟨h1, h2⟩
    · exact Int32.not_le.mpr h h1
    · exact Int32.not_le.mpr h h2
  · intro h
    by_cases h1 : 1 ≤ v
    · exact Or.inr (Int32.not_le.mp (fun q => h ⟨h1, q⟩))
    · exact Or.inl (Int32.not_le.mp h1)
section RNG
variable (d : Nat) (h : xh) {v : Int32} {n : Nat}
theorem in_t {N : Int64} (hN : N = (nI n).toInt64) (hn : n < 2 ^ 31) (hv : bd v n) : Ev (d + 1) 112 [.long v.toInt64, .long 0, .long N] h = some (some (.int 1), h) := by
  subst hN
  rw [s_in, bi_t]
  rw [show (0 : Int64) = (0 : Int32).toInt64 from rfl, l_le, l_le]
  exact (in_e rfl hn).mpr hv
theorem in_f {N : Int64} (hN : N = (nI n).toInt64) (hn : n < 2 ^ 31) (hv : ¬ bd v n) : Ev (d + 1) 112 [.long v.toInt64, .long 0, .long N] h = some (some (.int 0), h) := by
  subst hN
  rw [s_in, bi_f]
  rw [show (0 : Int64) = (0 : Int32).toInt64 from rfl, l_le, l_le]
  exact fun q => hv ((in_e rfl hn).mp q)
theorem in1_t {N : Int64} (hN : N = (nI n).toInt64) (hn : n < 2 ^ 31) (hv : bd1 v n) : Ev (d + 1) 112 [.long v.toInt64, .long 1, .long N] h = some (some (.int 1), h) := by
  subst hN
  rw [s_in, bi_t]
  rw [show (1 : Int64) = (1 : Int32).toInt64 from rfl, l_le, l_le]
  exact (in1_e rfl hn).mpr hv
theorem in1_f {N : Int64} (hN : N = (nI n).toInt64) (hn : n < 2 ^ 31) (hv : ¬ bd1 v n) : Ev (d + 1) 112 [.long v.toInt64, .long 1, .long N] h = some (some (.int 0), h) := by
  subst hN
  rw [s_in, bi_f]
  rw [show (1 : Int64) = (1 : Int32).toInt64 from rfl, l_le, l_le]
  exact fun q => hv ((in1_e rfl hn).mp q)
theorem ou_f {N : Int32} (hN : N = nI n) (hn : n < 2 ^ 31) (hv : bd v n) : Ev (d + 1) 57 [.int v, .int 0, .int N] h = some (some (.int 0), h) := by
  rw [s_outside, bi_f (fun q => (ou_e hN hn).mp q hv)]
theorem ou_t {N : Int32} (hN : N = nI n) (hn : n < 2 ^ 31) (hv : ¬ bd v n) : Ev (d + 1) 57 [.int v, .int 0, .int N] h = some (some (.int 1), h) := by
  rw [s_outside, bi_t ((ou_e hN hn).mpr hv)]
theorem ou1_f {N : Int32} (hN : N = nI n) (hn : n < 2 ^ 31) (hv : bd1 v n) : Ev (d + 1) 57 [.int v, .int 1, .int N] h = some (some (.int 0), h) := by
  rw [s_outside, bi_f (fun q => (ou1_e hN hn).mp q hv)]
theorem ou1_t {N : Int32} (hN : N = nI n) (hn : n < 2 ^ 31) (hv : ¬ bd1 v n) : Ev (d + 1) 57 [.int v, .int 1, .int N] h = some (some (.int 1), h) := by
  rw [s_outside, bi_t ((ou1_e hN hn).mpr hv)]
end RNG
/-- one of n -/
def ix (v : Int32) (n : Nat) : Prop := ∃ k, k < n ∧ v = nI k
theorem ix_e {v : Int32} {n : Nat} (hn : n < 2 ^ 30) : (0 ≤ v ∧ v ≤ nI n - 1) ↔ ix v n := by
  by_cases h0 : n = 0
  · subst h0
    constructor
    · rintro ⟨h1, h2⟩
      exact absurd (Int32.le_trans h1 h2) (by decide)
    · rintro ⟨k, hk, -⟩
      omega
  · rw [show nI n - 1 = nI (n - 1) from pk_sub (b := 1) (by omega), in_e rfl (by omega)]
    constructor
    · rintro ⟨k, hk, e⟩; exact ⟨k, by omega, e⟩
    · rintro ⟨k, hk, e⟩; exact ⟨k, by omega, e⟩
theorem ix_o {v : Int32} {n : Nat} (hn : n < 2 ^ 30) : (v < 0 ∨ nI n - 1 < v) ↔ ¬ ix v n := by
  rw [← ix_e hn]
  constructor
  · rintro (h | h) ⟨h1, h2⟩
    · exact Int32.not_le.mpr h h1
    · exact Int32.not_le.mpr h h2
  · intro h
    by_cases h1 : 0 ≤ v
    · exact Or.inr (Int32.not_le.mp (fun q => h ⟨h1, q⟩))
    · exact Or.inl (Int32.not_le.mp h1)
/-- worth of a kind -/
def sWor (kd ink st : Int32) : Int32 := if kd = 1 then ink + st else if kd = 2 then 99 - ink else if kd = 3 then (ink + st) / 2 else if kd = 4 then 99 - ink + 7 else if kd = 5 then st else ink
/-- a place of a sheet, on both sides -/
def cR (c x y : Int32) : Prop := (y = 1 ∧ c = x ∧ -99999 ≤ x ∧ x ≤ 99999) ∨ (y = 0 ∧ c = -1000000005)
def RS (a b : Nat → Nat → Int32) : Prop := ∀ i, i < 4 → b (35 + 2 * i) 0 = a 12 i ∧ b (35 + 2 * i) 1 = a 13 i ∧ (a 12 i = -1 ∨ a 12 i = 0 ∨ a 12 i = 1) ∧ bd (a 13 i) 24 ∧ (a 12 i ≠ -1 → ∀ j, j < 24 → cR (b (35 + 2 * i + 1) j) (a 14 (24 * i + j)) (a 15 (24 * i + j)))
def RL (a b : Nat → Nat → Int32) : Prop := ∀ i, i < 5 → b (43 + 3 * i) 0 = a 19 i ∧ bd (a 19 i) 3 ∧ (a 19 i = 1 → b (43 + 3 * i) 1 = a 21 i ∧ bd (a 21 i) 5 ∧ a 20 i = sWor (a 21 i) (b (43 + 3 * i) 2) (b (43 + 3 * i) 3)) ∧ (a 19 i = 2 → b (43 + 3 * i + 1) 1 = a 22 i ∧ bd (a 22 i) 24 ∧ ∀ j, j < 24 → cR (b (43 + 3 * i + 1 + 1) j) (a 23 (24 * i + j)) (a 24 (24 * i + j))) ∧ (a 19 i = 3 → b (43 + 3 * i) 4 = a 20 i)
def RW (a b : Nat → Nat → Int32) (s : Nat → Int32) : Prop := b 0 9 = s 38 ∧ bd (s 38) 60 ∧ b 34 = a 25
def RT (a : Nat → Nat → Int32) (s : Nat → Int32) (n : Nat) (B : Nat → Int32) : Prop := s 11 = nI n ∧ n ≤ 96 ∧ B = a 10
def TXT (X : xh) (a : Nat → Nat → Int32) (τ : xt) (N : Nat) : Prop := VT X τ ∧ (∀ t, t < N → ∃ p P, τ.1 t = some p ∧ TM a t P ∧ TR X p (a 6 t) (a 8 t) P ∧ ∃ key, key ≤ 2 ∧ a 6 t = nI key) ∧ (∀ key, key < 3 → match sCnt (a 6) (nI key) N with
  | none => τ.2.1 key = -1000000005 ∧ τ.2.2 key = none
  | some t => τ.2.1 key = nI t ∧ τ.2.2 key = τ.1 t)
def RK (X : xh) (a b : Nat → Nat → Int32) (s : Nat → Int32) (ε : Nat → Int32) (τ2 : xt) (δ : Nat → Int32) : Prop := b 0 3 = s 4 ∧ (s 4 = 0 ∨ (s 4 = 1 ∧ ε = a 2 ∧ wf (a 2) ∧ bd (a 2 1) 9999 ∧ nn (a 2 7) ≤ nn (δ 7) ∧ TXT X a τ2 (nn (a 2 7))))
def z60 (f : Nat → Int32) : Prop := ∀ j, 60 ≤ j → f j = 0
def RX (m : Nat) (X : xh) : Prop := oX X ∧ X.1 % 3 = 0 ∧ 84 ≤ X.1 ∧ X.1 ≤ 84 + 3 * m ∧ X.2.1 ≤ 20000 + 300 * m ∧ ∀ q, X.1 ≤ q → X.2.2.1 q = xnil
def Rel (m : Nat) (δ : Nat → Int32) (τ1 : xt) (ε : Nat → Int32) (τ2 : xt) (n : Nat) (B : Nat → Int32) (b a : Nat → Nat → Int32) (s : Nat → Int32) (X : xh) : Prop := wf δ ∧ bd (δ 1) 9999 ∧ a 1 = δ ∧ TXT X a τ1 (nn (δ 7)) ∧ RK X a b s ε τ2 δ ∧ RT a s n B ∧ RS a b ∧ RL a b ∧ RW a b s ∧ z60 (a 2) ∧ z60 (a 3) ∧ z60 (a 4) ∧ RX m X
def INV (m : Nat) (h : xh) : Prop := ∃ (δ : Nat → Int32) (τ1 : xt) (ε : Nat → Int32) (τ2 : xt) (ζ : Nat → Int32) (τ3 : xt) (κ : Nat → Nat → Int32) (n : Nat) (l : lk) (ke op sz : Int32) (B S : Nat → Int32) (b a : Nat → Nat → Int32) (s : Nat → Int32) (w : Int64) (X : xh), h = cG δ τ1 ε τ2 ζ τ3 κ n l ke op sz B S b (mh a s w X) ∧ Rel m δ τ1 ε τ2 n B b a s X
/-- a call answers alike on both sides -/
def CL (c mo : Nat) (args : List Value) : Prop := ∀ d m h, INV m h → ∃ v h1 h2, Ev (d + 200) c (.ref 0 :: args) h = some (some (.int v), h1) ∧ Ev (d + 200) mo (.ref 58 :: args) h1 = some (some (.int v), h2) ∧ INV (m + 1) h2 ∧ h2.2.2.2 = h.2.2.2 ∧ h1.2.2.2 = h.2.2.2 ∧ xcls h1 (.ref 58) = 6
/-- rows of the reference alike but for scratch -/
def sm (a a' : Nat → Nat → Int32) : Prop := ∀ j, j ≠ 1 → j ≠ 3 → j ≠ 4 → j ≠ 9 → j ≠ 11 → j ≠ 16 → j ≠ 17 → j ≠ 18 → a' j = a j
def sb (b b' : Nat → Nat → Int32) : Prop := ∀ j, j ≠ 28 → b' j = b j
theorem sm_r (a : Nat → Nat → Int32) : sm a a := fun _ _ _ _ _ _ _ _ _ => rfl
theorem sb_r (b : Nat → Nat → Int32) : sb b b := fun _ _ => rfl
theorem sm_t {a a' a'' : Nat → Nat → Int32} (h : sm a a') (h' : sm a' a'') : sm a a'' := fun j h1 h2 h3 h4 h5 h6 h7 h8 => (h' j h1 h2 h3 h4 h5 h6 h7 h8).trans (h j h1 h2 h3 h4 h5 h6 h7 h8)
theorem sm_d (a : Nat → Nat → Int32) (δ κ : Nat → Int32) : sm a (va_up (va_up a 1 δ) 9 κ) := fun j h1 _ _ h9 _ _ _ _ => vaj a δ κ h1 h9
theorem TM_a {a a' : Nat → Nat → Int32} {t : Nat} {P : List Nat} (h5 : a' 5 = a 5) (h7 : a' 7 = a 7) (h : TM a t P) : TM a' t P := by
  unfold TM at h ⊢
  rw [h5, h7]
  exact h
theorem TXT_a {X : xh} {a a' : Nat → Nat → Int32} {τ : xt} {N : Nat} (h5 : a' 5 = a 5) (h6 : a' 6 = a 6) (h7 : a' 7 = a 7) (h8 : a' 8 = a 8) (h : TXT X a τ N) : TXT X a' τ N := by
  obtain ⟨h1, h2, h3⟩ := h
  refine ⟨h1, fun t ht => ?_, fun key hk => ?_⟩
  · obtain ⟨p, P, q1, q2, q3, q4⟩ := h2 t ht
    refine ⟨p, P, q1, TM_a h5 h7 q2, ?_, ?_⟩
    · rw [h6, h8]; exact q3
    · rw [h6]; exact q4
  · rw [h6]; exact h3 key hk
theorem TXT_q {X : xh} {a : Nat → Nat → Int32} {τ : xt} {N : Nat} (h : TXT X a τ N) {key : Nat} (hk : key < 3) : ∃ q, LW X τ key q ∧ QM a (nI key) N q := by
  obtain ⟨h1, h2, h3⟩ := h
  have h3 := h3 key hk
  unfold LW QM
  cases e : sCnt (a 6) (nI key) N with
  | none =>
    rw [e] at h3
    refine ⟨none, ?_, rfl⟩
    rw [h3.2]
  | some t =>
    rw [e] at h3
    obtain ⟨p, P, q1, q2, q3, -⟩ := h2 t (sCnt_lt _ e)
    refine ⟨some (pv P), ?_, pv P, rfl, GM_of q2⟩
    rw [h3.2, q1]
    exact ⟨P, _, _, rfl, q3⟩
theorem RX_s {m : Nat} {X : xh} (h : RX m X) : RX (m + 1) X := by
  obtain ⟨h1, h2, h3, h4, h5, h6⟩ := h
  exact ⟨h1, h2, h3, by omega, by omega, h6⟩
section FRAME
variable {m : Nat} {δ : Nat → Int32} {τ1 : xt} {ε : Nat → Int32} {τ2 : xt} {ζ : Nat → Int32} {τ3 : xt} {κ : Nat → Nat → Int32} {n : Nat} {l : lk} {ke op sz : Int32} {B S : Nat → Int32} {b a : Nat → Nat → Int32} {s : Nat → Int32} {w : Int64} {X : xh}
theorem frame {δ' : Nat → Int32} {b' a' : Nat → Nat → Int32} (R : Rel m δ τ1 ε τ2 n B b a s X) (h1 : sm a a') (h2 : a' 1 = δ') (h3 : z60 (a' 3)) (h4 : z60 (a' 4)) (hw : wf δ') (hm : bd (δ' 1) 9999) (h7 : δ' 7 = δ 7) (hb : sb b b') : Rel (m + 1) δ' τ1 ε τ2 n B b' a' s X := by
  obtain ⟨r1, r2, r3, r4, r5, r6, r7, r8, r9, r10, r11, r12, r13⟩ := R
  have e : ∀ j, j ≠ 1 → j ≠ 3 → j ≠ 4 → j ≠ 9 → j ≠ 11 → j ≠ 16 → j ≠ 17 → j ≠ 18 → a' j = a j := h1
  have e2 := e 2 (by decide) (by decide) (by decide) (by decide) (by decide) (by decide) (by decide) (by decide)
  have e5 := e 5 (by decide) (by decide) (by decide) (by decide) (by decide) (by decide) (by decide) (by decide)
  have e6 := e 6 (by decide) (by decide) (by decide) (by decide) (by decide) (by decide) (by decide) (by decide)
  have e7 := e 7 (by decide) (by decide) (by decide) (by decide) (by decide) (by decide) (by decide) (by decide)
  have e8 := e 8 (by decide) (by decide) (by decide) (by decide) (by decide) (by decide) (by decide) (by decide)
  have e10 := e 10 (by decide) (by decide) (by decide) (by decide) (by decide) (by decide) (by decide) (by decide)
  have e12 := e 12 (by decide) (by decide) (by decide) (by decide) (by decide) (by decide) (by decide) (by decide)
  have e13 := e 13 (by decide) (by decide) (by decide) (by decide) (by decide) (by decide) (by decide) (by decide)
  have e14 := e 14 (by decide) (by decide) (by decide) (by decide) (by decide) (by decide) (by decide) (by decide)
  have e15 := e 15 (by decide) (by decide) (by decide) (by decide) (by decide) (by decide) (by decide) (by decide)
  have e19 := e 19 (by decide) (by decide) (by decide) (by decide) (by decide) (by decide) (by decide) (by decide)
  have e20 := e 20 (by decide) (by decide) (by decide) (by decide) (by decide) (by decide) (by decide) (by decide)
  have e21 := e 21 (by decide) (by decide) (by decide) (by decide) (by decide) (by decide) (by decide) (by decide)
  have e22 := e 22 (by decide) (by decide) (by decide) (by decide) (by decide) (by decide) (by decide) (by decide)
  have e23 := e 23 (by decide) (by decide) (by decide) (by decide) (by decide) (by decide) (by decide) (by decide)
  have e24 := e 24 (by decide) (by decide) (by decide) (by decide) (by decide) (by decide) (by decide) (by decide)
  have e25 := e 25 (by decide) (by decide) (by decide) (by decide) (by decide) (by decide) (by decide) (by decide)
  have hT : ∀ τ N, TXT X a τ N → TXT X a' τ N := fun τ N => TXT_a e5 e6 e7 e8
  refine ⟨hw, hm, h2, by rw [h7]; exact hT _ _ r4, ⟨by rw [hb 0 (by decide)]; exact r5.1, ?_⟩, ⟨r6.1, r6.2.1, by rw [e10]; exact r6.2.2⟩, ?_, ?_, ⟨by rw [hb 0 (by decide)]; exact r9.1, r9.2.1, by rw [hb 34 (by decide), e25]; exact r9.2.2⟩, by rw [e2]; exact r10, h3, h4, RX_s r13⟩
  · rcases r5.2 with q | ⟨q1, q2, q3, q4, q5, q6⟩
    · exact Or.inl q
    · rw [e2, h7]
      exact Or.inr ⟨q1, q2, q3, q4, q5, hT _ _ q6⟩
  · intro i hi
    rw [e12, e13, e14, e15, hb (35 + 2 * i) (by omega), hb (35 + 2 * i + 1) (by omega)]
    exact r7 i hi
  · intro i hi
    rw [e19, e20, e21, e22, e23, e24, hb (43 + 3 * i) (by omega), hb (43 + 3 * i + 1) (by omega), hb (43 + 3 * i + 1 + 1) (by omega)]
    exact r8 i hi
theorem INV_i (R : Rel m δ τ1 ε τ2 n B b a s X) : INV m (mh a s w (cG δ τ1 ε τ2 ζ τ3 κ n l ke op sz B S b X)) := ⟨δ, τ1, ε, τ2, ζ, τ3, κ, n, l, ke, op, sz, B, S, b, a, s, w, X, by rw [cG_mh], R⟩
/-- nothing but the river's row has changed -/
theorem comb {c mo : Nat} {args : List Value} {d : Nat} {v : Int32} {δ' ζ' : Nat → Int32} {τ3' : xt} {κ' b' a' : Nat → Nat → Int32} (R : Rel m δ τ1 ε τ2 n B b a s X) (e1 : Ev (d + 200) c (.ref 0 :: args) (cG δ τ1 ε τ2 ζ τ3 κ n l ke op sz B S b (mh a s w X)) = some (some (.int v), cG δ' τ1 ε τ2 ζ' τ3' κ' n l ke op sz B S b' (mh a s w X))) (e2 : Ev (d + 200) mo (.ref 58 :: args) (mh a s w (cG δ' τ1 ε τ2 ζ' τ3' κ' n l ke op sz B S b' X)) = some (some (.int v), mh a' s w (cG δ' τ1 ε τ2 ζ' τ3' κ' n l ke op sz B S b' X))) (h1 : sm a a') (h2 : a' 1 = δ') (h3 : z60 (a' 3)) (h4 : z60 (a' 4)) (hw : wf δ') (hm : bd (δ' 1) 9999) (h7 : δ' 7 = δ 7) (hb : sb b b') : ∃ v h1 h2, Ev (d + 200) c (.ref 0 :: args) (cG δ τ1 ε τ2 ζ τ3 κ n l ke op sz B S b (mh a s w X)) = some (some (.int v), h1) ∧ Ev (d + 200) mo (.ref 58 :: args) h1 = some (some (.int v), h2) ∧ INV (m + 1) h2 ∧ h2.2.2.2 = X.2.2.2 ∧ h1.2.2.2 = X.2.2.2 ∧ xcls h1 (.ref 58) = 6 :=
  ⟨v, _, _, e1, by rw [cG_mh]; exact e2, INV_i (frame R h1 h2 h3 h4 hw hm h7 hb), rfl, rfl, rfl⟩
theorem comb0 {c mo : Nat} {args : List Value} {d : Nat} {v : Int32} (R : Rel m δ τ1 ε τ2 n B b a s X) (e1 : Ev (d + 200) c (.ref 0 :: args) (cG δ τ1 ε τ2 ζ τ3 κ n l ke op sz B S b (mh a s w X)) = some (some (.int v), cG δ τ1 ε τ2 ζ τ3 κ n l ke op sz B S b (mh a s w X))) (e2 : Ev (d + 200) mo (.ref 58 :: args) (mh a s w (cG δ τ1 ε τ2 ζ τ3 κ n l ke op sz B S b X)) = some (some (.int v), mh a s w (cG δ τ1 ε τ2 ζ τ3 κ n l ke op sz B S b X))) : ∃ v h1 h2, Ev (d + 200) c (.ref 0 :: args) (cG δ τ1 ε τ2 ζ τ3 κ n l ke op sz B S b (mh a s w X)) = some (some (.int v), h1) ∧ Ev (d + 200) mo (.ref 58 :: args) h1 = some (some (.int v), h2) ∧ INV (m + 1) h2 ∧ h2.2.2.2 = X.2.2.2 ∧ h1.2.2.2 = X.2.2.2 ∧ xcls h1 (.ref 58) = 6 :=
  comb R e1 e2 (sm_r a) R.2.2.1 R.2.2.2.2.2.2.2.2.2.2.1 R.2.2.2.2.2.2.2.2.2.2.2.1 R.1 R.2.1 rfl (sb_r b)
end FRAME
theorem md_of {a : Nat → Nat → Int32} {s : Nat → Int32} {w : Int64} {Z : xh} {δ : Nat → Int32} (h : a 1 = δ) : mh a s w Z = md a δ (a 9) s w Z := by
  unfold md
  rw [← h, vu_self, vu_self]
