/-! part 65: the class reads a text and keeps it -/
section TXC
variable {δ ε ζ : Nat → Int32} {τ1 τ2 τ3 : xt} {κ : Nat → Nat → Int32} {n : Nat} {l : lk} {ke op sz : Int32} {B S : Nat → Int32} {b : Nat → Nat → Int32} {H : xh}
theorem C_read (d : Nat) (hX : oX H) (hn : n ≤ 96) : match rdT B n with
    | .inl s => ∃ (l' : lk) (ke' op' sz' : Int32) (S' : Nat → Int32), Ev (d + 152) 36 [.ref 29] (cG δ τ1 ε τ2 ζ τ3 κ n l ke op sz B S b H) = some (some (.int (nI s)), cG δ τ1 ε τ2 ζ τ3 κ n l' ke' op' sz' B S' b H)
    | .inr q => ∃ (l' : lk) (S' : Nat → Int32), Ev (d + 152) 36 [.ref 29] (cG δ τ1 ε τ2 ζ τ3 κ n l ke op sz B S b H) = some (some (.int (-1)), cG δ τ1 ε τ2 ζ τ3 κ n l' (nI q.1) (nI (cnt q.2)) (nI q.2.length) B S' b H) ∧ cS S' q.2 := by
  have hX' : oX (ov κ (rh 1 δ τ1 (rh 10 ε τ2 (rh 19 ζ τ3 (bh b H))))) := hX
  have h0 := r_readText d (B := B) (S := S) (k := n) (l := l) (ke := ke) (op := op) (sz := sz) hX' hn
  cases e : rdT B n with
  | inl s =>
    rw [e] at h0
    obtain ⟨l', ke', op', sz', S', h1⟩ := h0
    refine ⟨l', ke', op', sz', S', ?_⟩
    rw [cG_t, cG_t]
    exact h1
  | inr q =>
    rw [e] at h0
    obtain ⟨l', S', h1, h2⟩ := h0
    refine ⟨l', S', ?_, h2⟩
    rw [cG_t, cG_t]
    exact h1
theorem rv_wq {k : Nat} {τ : xt} (hk : k < 50) {j n : Nat} (hj : j < 9) {f : Nat → Option Nat} (hc : rC k δ τ j = .inr (.inl (4, n, f))) {i : Nat} (hi : i < n) (hn : n ≤ 100) {p : Nat} {fs : List Value} (hp : (rv k δ τ κ H).2.2.1 p = .inr (.inr (4, fs))) : hwq (rv k δ τ κ H) (.ref (k + j)) (nI i) (.ref p) = some (hset (rv k δ τ κ H) (k + j) (.inr (.inl (4, n, va_up f i (some p))))) := by
  unfold hwq
  dsimp only
  rw [rv_c hk hj, hc]
  show (match xix (nI i) n with | some j' => (match xobj ((rv k δ τ κ H).2.2.1 p) 4 with | some _ => some (hset (rv k δ τ κ H) (k + j) (.inr (.inl (4, n, va_up f j' (some p))))) | none => none) | none => none) = _
  rw [xix_n hi (by omega), hp]
  rfl
theorem N_w6 {i p : Nat} {fs : List Value} (hi : i < 14) (hp : (cG δ τ1 ε τ2 ζ τ3 κ n l ke op sz B S b H).2.2.1 p = .inr (.inr (4, fs))) : hwq (cG δ τ1 ε τ2 ζ τ3 κ n l ke op sz B S b H) (.ref 7) (nI i) (.ref p) = some (cG δ (mkt (va_up τ1.1 i (some p)) τ1.2.1 τ1.2.2) ε τ2 ζ τ3 κ n l ke op sz B S b H) := by
  rw [cG_1] at hp
  rw [cG_1, cG_1]
  refine (rv_wq (k := 1) (by decide) (j := 6) (n := 14) (by decide) rfl hi (by decide) hp).trans ?_
  refine congrArg some (rv_set (k := 1) (by decide) (by decide) (fun j hj => ?_))
  match j, hj with
  | 0, _ => rfl
  | 1, _ => rfl
  | 2, _ => rfl
  | 3, _ => rfl
  | 4, _ => rfl
  | 5, _ => rfl
  | 6, _ => rfl
  | 7, _ => rfl
  | 8, _ => rfl
theorem N_w8 {i p : Nat} {fs : List Value} (hi : i < 3) (hp : (cG δ τ1 ε τ2 ζ τ3 κ n l ke op sz B S b H).2.2.1 p = .inr (.inr (4, fs))) : hwq (cG δ τ1 ε τ2 ζ τ3 κ n l ke op sz B S b H) (.ref 9) (nI i) (.ref p) = some (cG δ (mkt τ1.1 τ1.2.1 (va_up τ1.2.2 i (some p))) ε τ2 ζ τ3 κ n l ke op sz B S b H) := by
  rw [cG_1] at hp
  rw [cG_1, cG_1]
  refine (rv_wq (k := 1) (by decide) (j := 8) (n := 3) (by decide) rfl hi (by decide) hp).trans ?_
  refine congrArg some (rv_set (k := 1) (by decide) (by decide) (fun j hj => ?_))
  match j, hj with
  | 0, _ => rfl
  | 1, _ => rfl
  | 2, _ => rfl
  | 3, _ => rfl
  | 4, _ => rfl
  | 5, _ => rfl
  | 6, _ => rfl
  | 7, _ => rfl
  | 8, _ => rfl
theorem N_w7 {i : Nat} (hi : i < 3) (x : Int32) : hwr (cG δ τ1 ε τ2 ζ τ3 κ n l ke op sz B S b H) (.ref 8) 0 (nI i) x = some (cG δ (mkt τ1.1 (upd τ1.2.1 i x) τ1.2.2) ε τ2 ζ τ3 κ n l ke op sz B S b H) := by
  rw [cG_1, cG_1]
  have hc : (rv 1 δ τ1 κ (rh 10 ε τ2 (rh 19 ζ τ3 (tpk n l ke op sz B S (bh b H))))).2.2.1 8 = .inl (0, 3, τ1.2.1) := rv_c (k := 1) (j := 7) (by decide) (by decide)
  unfold hwr
  dsimp only
  rw [hc]
  show (match xix (nI i) 3 with | some j => some (hset _ 8 (.inl (0, 3, upd τ1.2.1 j x))) | none => none) = _
  rw [xix_n hi (by omega)]
  refine congrArg some (rv_set (k := 1) (j := 7) (by decide) (by decide) (fun j hj => ?_))
  match j, hj with
  | 0, _ => rfl
  | 1, _ => rfl
  | 2, _ => rfl
  | 3, _ => rfl
  | 4, _ => rfl
  | 5, _ => rfl
  | 6, _ => rfl
  | 7, _ => rfl
  | 8, _ => rfl
theorem mkt_1 (f : Nat → Option Nat) (g : Nat → Int32) (h : Nat → Option Nat) : (mkt f g h).1 = f := rfl
theorem mkt_2 (f : Nat → Option Nat) (g : Nat → Int32) (h : Nat → Option Nat) : (mkt f g h).2.1 = g := rfl
theorem mkt_3 (f : Nat → Option Nat) (g : Nat → Int32) (h : Nat → Option Nat) : (mkt f g h).2.2 = h := rfl
theorem G_addT (d : Nat) {t key p : Nat} {fs : List Value} (ht : t < 14) (hk : key < 3) (h7 : δ 7 = nI t) (hp : ∀ δ τ1, (cG δ τ1 ε τ2 ζ τ3 κ n l ke op sz B S b H).2.2.1 p = .inr (.inr (4, fs))) (hf : fs[0]? = some (.int (nI key))) : Ev (d + 2) 23 [.ref 1, .ref p] (cG δ τ1 ε τ2 ζ τ3 κ n l ke op sz B S b H) = some (some (.int (nI t)), cG (upd δ 7 (nI (t + 1))) (mkt (va_up τ1.1 t (some p)) (upd τ1.2.1 key (nI t)) (va_up τ1.2.2 key (some p))) ε τ2 ζ τ3 κ n l ke op sz B S b H) := by
  have hg : ∀ δ τ1, hgf (cG δ τ1 ε τ2 ζ τ3 κ n l ke op sz B S b H) (.ref p) 4 0 = some (.int (nI key)) := fun δ τ1 => by
    unfold hgf hget
    dsimp only
    rw [hp δ τ1]
    exact hf
  rw [E23]
  simp only [S23_0, S23_1, S23_4, S23_5, S23_7, S23_10, S23_13, S23_15, S23_16, S23_17, S23_20, S23_21, S23_22, S23_25, S23_26, S23_27, S23_28, S23_29, S23_32, S23_33, S23_36, S23_37, S23_38, S23_39, S23_42, S23_43, S23_46, S23_47, S23_48, S23_49, S23_50, S23_53, S23_54, S23_55, S23_58, S23_59, Option.bind_some, Option.map_some, xpush_s, xpush_n, xcat_0, xcat_i, xcat_r, xcat_l, xcat_n, xcat_e, xir_r, Nat.reduceAdd, Nat.reduceLeDiff, Nat.zero_le, Nat.le_refl, ↓reduceIte, N_g12, N_g13, N_g14, N_g15, h7, ou_f _ _ (n := 13) (N := 13) rfl (by decide) (show bd (nI t) 13 from ⟨t, by omega, rfl⟩), N_w6 ht (hp _ _), hg, N_w7 hk, N_w8 hk (hp _ _), mkt_1, mkt_2, mkt_3, cat_r, nI_1, N_p12]
theorem G_addTF (d : Nat) {p : Nat} (h7 : δ 7 = nI 14) : Ev (d + 2) 23 [.ref 1, .ref p] (cG δ τ1 ε τ2 ζ τ3 κ n l ke op sz B S b H) = some (some (.int (-1000000003)), cG δ τ1 ε τ2 ζ τ3 κ n l ke op sz B S b H) := by
  rw [E23]
  simp only [S23_0, S23_1, S23_4, S23_5, S23_7, S23_10, S23_13, S23_15, S23_16, S23_17, S23_20, S23_21, S23_22, S23_25, S23_26, S23_27, S23_28, S23_29, S23_32, S23_33, S23_36, S23_37, S23_38, S23_39, S23_42, S23_43, S23_46, S23_47, S23_48, S23_49, S23_50, S23_53, S23_54, S23_55, S23_58, S23_59, Option.bind_some, Option.map_some, xpush_s, xpush_n, xcat_0, xcat_i, xcat_r, xcat_l, xcat_n, xcat_e, xir_r, Nat.reduceAdd, Nat.reduceLeDiff, Nat.zero_le, Nat.le_refl, ↓reduceIte, N_g12, h7, ou_t _ _ (n := 13) (N := 13) rfl (by decide) (show ¬ bd (nI 14) 13 from fun ⟨k, h1, h2⟩ => absurd ((nI_eq (by decide) (by omega)).mp h2) (by omega)), show ¬ (1 : Int32) = 0 by decide]
end TXC
theorem cnt_l : ∀ P : List Nat, cnt P ≤ P.length
  | [] => Nat.le_refl _
  | t :: P => by
    have := cnt_l P
    show (if t < 10004 then 1 else 0) + cnt P ≤ P.length + 1
    split <;> omega
section TXD
variable {δ ε ζ : Nat → Int32} {τ1 τ2 τ3 : xt} {κ : Nat → Nat → Int32} {n : Nat} {l : lk} {B S : Nat → Int32} {b : Nat → Nat → Int32} {a : Nat → Nat → Int32} {s : Nat → Int32} {w : Int64} {X : xh}
/-- the cells of a text -/
def gT (X : xh) (key : Nat) (P : List Nat) (S : Nat → Int32) : xh := gX X (.inr (.inr (4, [.int (nI key), .int (nI (cnt P)), .ref (X.1 + 1), .ref (X.1 + 2)]))) (.inl (0, P.length, va_cpy S (fun _ => 0) 0 0 P.length)) (.inl (0, max 1 (cnt P), fun _ => 0)) (4 + P.length + max 1 (cnt P))
theorem c_last (d : Nat) {key : Nat} {P : List Nat} (hp : 84 ≤ X.1) (h3 : X.1 % 3 = 0) (hl : P.length < 96) : Ev (d + 3) 50 [.ref 29] (cG δ τ1 ε τ2 ζ τ3 κ n l (nI key) (nI (cnt P)) (nI P.length) B S b (mh a s w X)) = some (some (.ref X.1), cG δ τ1 ε τ2 ζ τ3 (va_up κ (X.1 + 2) (fun _ => 0)) n l (nI key) (nI (cnt P)) (nI P.length) B S b (mh a s w (gT X key P S))) := by
  have hc := cnt_l P
  have e : (cG δ τ1 ε τ2 ζ τ3 κ n l (nI key) (nI (cnt P)) (nI P.length) B S b (mh a s w X)) = hq' X.1 X.2.1 (cG δ τ1 ε τ2 ζ τ3 κ n l (nI key) (nI (cnt P)) (nI P.length) B S b (mh a s w X)).2.2.1 X.2.2.2 := rfl
  have h29 : (cG δ τ1 ε τ2 ζ τ3 κ n l (nI key) (nI (cnt P)) (nI P.length) B S b (mh a s w X)).2.2.1 29 = .inr (.inr (3, tpF (nI n) (nI l.1) (nI l.2.1) (nI l.2.2.1) (bi (l.2.2.2 = true)) (nI key) (nI (cnt P)) (nI P.length))) := by rw [cG_t]; rfl
  have h31 : (cG δ τ1 ε τ2 ζ τ3 κ n l (nI key) (nI (cnt P)) (nI P.length) B S b (mh a s w X)).2.2.1 31 = .inl (0, 96, S) := by rw [cG_t]; rfl
  obtain ⟨FF, f1, f2, f3, f4, f5⟩ := r_last (p := X.1) (m := X.2.1) (F := (cG δ τ1 ε τ2 ζ τ3 κ n l (nI key) (nI (cnt P)) (nI P.length) B S b (mh a s w X)).2.2.1) (E := X.2.2.2) d h29 rfl rfl rfl rfl h31 hp hl (by omega)
  have g := cG_grow (δ := δ) (τ1 := τ1) (ε := ε) (τ2 := τ2) (ζ := ζ) (τ3 := τ3) (κ := κ) (n := n) (l := l) (ke := nI key) (op := nI (cnt P)) (sz := nI P.length) (B := B) (S := S) (b := b) (a := a) (s := s) (w := w) (X := X) (k := 4 + P.length + max 1 (cnt P)) hp h3 f2 f3 f4 f5
  rw [show X.2.1 + 4 + P.length + max 1 (cnt P) = X.2.1 + (4 + P.length + max 1 (cnt P)) by omega, g] at f1
  rw [e]
  exact f1
theorem gT_p {key : Nat} {P : List Nat} {S : Nat → Int32} {n : Nat} {l : lk} {ke op sz : Int32} {B S' : Nat → Int32} (hp : 84 ≤ X.1) (h3 : X.1 % 3 = 0) : (cG δ τ1 ε τ2 ζ τ3 κ n l ke op sz B S' b (mh a s w (gT X key P S))).2.2.1 X.1 = .inr (.inr (4, [.int (nI key), .int (nI (cnt P)), .ref (X.1 + 1), .ref (X.1 + 2)])) := by
  rw [cG_h1 hp (by omega)]
  show va_up (va_up (va_up X.2.2.1 X.1 _) (X.1 + 1) _) (X.1 + 2) _ X.1 = _
  rw [vu_n _ _ (by omega), vu_n _ _ (by omega), vu_s]
variable {ke op sz : Int32}
theorem c_textS (d : Nat) (hX : oX X) (hn : n ≤ 96) {f : Nat} (hf : f ≤ 96) (hr : rdT B n = .inl f) : ∃ (l' : lk) (ke' op' sz' : Int32) (S' : Nat → Int32), Ev (d + 200) 92 [.ref 0] (cG δ τ1 ε τ2 ζ τ3 κ n l ke op sz B S b (mh a s w X)) = some (some (.int (-100 - nI f)), cG δ τ1 ε τ2 ζ τ3 κ 0 l' ke' op' sz' B S' b (mh a s w X)) := by
  have h0 := C_read (δ := δ) (τ1 := τ1) (ε := ε) (τ2 := τ2) (ζ := ζ) (τ3 := τ3) (κ := κ) (n := n) (l := l) (ke := ke) (op := op) (sz := sz) (B := B) (S := S) (b := b) (H := mh a s w X) (d + 47) hX hn
  rw [hr] at h0
  obtain ⟨l', ke', op', sz', S', h1⟩ := h0
  refine ⟨l', ke', op', sz', S', ?_⟩
  have hpl := C_pl (δ := δ) (τ1 := τ1) (ε := ε) (τ2 := τ2) (ζ := ζ) (τ3 := τ3) (κ := κ) (n := n) (l := l') (ke := ke') (op := op') (sz := sz') (B := B) (S := S') (b := b) (H := mh a s w X) 0
  rw [show nI 0 = 0 from rfl] at hpl
  have hge : ¬ nI f < 0 := nI_pos (by omega)
  rw [E92]
  simp only [S92_0, S92_1, S92_4, S92_7, S92_8, S92_9, S92_12, S92_13, S92_16, S92_17, S92_20, S92_22, S92_23, S92_24, S92_27, S92_28, S92_31, S92_32, S92_35, S92_38, S92_41, Option.bind_some, Option.map_some, xpush_s, xpush_n, xcat_0, xcat_i, xcat_r, xcat_l, xcat_n, xcat_e, xir_r, Nat.reduceAdd, Nat.reduceLeDiff, Nat.zero_le, Nat.le_refl, ↓reduceIte, C_5, C_tcls, h1, hpl, hge]
theorem c_textT (d : Nat) (hX : oX X) (hn : n ≤ 96) (hp : 84 ≤ X.1) (h3 : X.1 % 3 = 0) {q : Nat × List Nat} (hr : rdT B n = .inr q) : ∃ (l' : lk) (S' : Nat → Int32), cS S' q.2 ∧ (δ 7 = nI 14 → Ev (d + 200) 92 [.ref 0] (cG δ τ1 ε τ2 ζ τ3 κ n l ke op sz B S b (mh a s w X)) = some (some (.int (-1000000003)), cG δ τ1 ε τ2 ζ τ3 (va_up κ (X.1 + 2) (fun _ => 0)) 0 l' (nI q.1) (nI (cnt q.2)) (nI q.2.length) B S' b (mh a s w (gT X q.1 q.2 S')))) ∧ (∀ t, t < 14 → δ 7 = nI t → Ev (d + 200) 92 [.ref 0] (cG δ τ1 ε τ2 ζ τ3 κ n l ke op sz B S b (mh a s w X)) = some (some (.int (nI t)), cG (upd δ 7 (nI (t + 1))) (mkt (va_up τ1.1 t (some X.1)) (upd τ1.2.1 q.1 (nI t)) (va_up τ1.2.2 q.1 (some X.1))) ε τ2 ζ τ3 (va_up κ (X.1 + 2) (fun _ => 0)) 0 l' (nI q.1) (nI (cnt q.2)) (nI q.2.length) B S' b (mh a s w (gT X q.1 q.2 S')))) := by
  have h0 := C_read (δ := δ) (τ1 := τ1) (ε := ε) (τ2 := τ2) (ζ := ζ) (τ3 := τ3) (κ := κ) (n := n) (l := l) (ke := ke) (op := op) (sz := sz) (B := B) (S := S) (b := b) (H := mh a s w X) (d + 47) hX hn
  have hok := rdT_ok (B := B) hn
  rw [hr] at h0 hok
  obtain ⟨l', S', h1, h2⟩ := h0
  obtain ⟨k1, k2, k3, k4⟩ := hok
  refine ⟨l', S', h2, ?_, ?_⟩
  all_goals
    have hpl := C_pl (δ := δ) (τ1 := τ1) (ε := ε) (τ2 := τ2) (ζ := ζ) (τ3 := τ3) (κ := κ) (n := n) (l := l') (ke := nI q.1) (op := nI (cnt q.2)) (sz := nI q.2.length) (B := B) (S := S') (b := b) (H := mh a s w X) 0
    rw [show nI 0 = 0 from rfl] at hpl
    have hl := fun d => c_last (δ := δ) (τ1 := τ1) (ε := ε) (τ2 := τ2) (ζ := ζ) (τ3 := τ3) (κ := κ) (n := 0) (l := l') (B := B) (S := S') (b := b) (a := a) (s := s) (w := w) (X := X) (key := q.1) (P := q.2) d hp h3 k2
    have hlt : ((-1 : Int32) < 0) = True := eq_true (by decide)
  · intro h7
    rw [E92]
    simp only [S92_0, S92_1, S92_4, S92_7, S92_8, S92_9, S92_12, S92_13, S92_16, S92_17, S92_20, S92_22, S92_23, S92_24, S92_27, S92_28, S92_31, S92_32, S92_35, S92_38, S92_41, Option.bind_some, Option.map_some, xpush_s, xpush_n, xcat_0, xcat_i, xcat_r, xcat_l, xcat_n, xcat_e, xir_r, Nat.reduceAdd, Nat.reduceLeDiff, Nat.zero_le, Nat.le_refl, ↓reduceIte, C_0, C_5, C_tcls, N_cls, h1, hpl, hlt, hl, G_addTF _ h7]
  · intro t ht h7
    have ha := fun d => G_addT (δ := δ) (τ1 := τ1) (ε := ε) (τ2 := τ2) (ζ := ζ) (τ3 := τ3) (κ := va_up κ (X.1 + 2) (fun _ => 0)) (n := 0) (l := l') (ke := nI q.1) (op := nI (cnt q.2)) (sz := nI q.2.length) (B := B) (S := S') (b := b) (H := mh a s w (gT X q.1 q.2 S')) d ht (show q.1 < 3 by omega) h7 (fun δ τ1 => gT_p hp h3) rfl
    rw [E92]
    simp only [S92_0, S92_1, S92_4, S92_7, S92_8, S92_9, S92_12, S92_13, S92_16, S92_17, S92_20, S92_22, S92_23, S92_24, S92_27, S92_28, S92_31, S92_32, S92_35, S92_38, S92_41, Option.bind_some, Option.map_some, xpush_s, xpush_n, xcat_0, xcat_i, xcat_r, xcat_l, xcat_n, xcat_e, xir_r, Nat.reduceAdd, Nat.reduceLeDiff, Nat.zero_le, Nat.le_refl, ↓reduceIte, C_0, C_5, C_tcls, N_cls, h1, hpl, hlt, hl, ha]
end TXD
