/-! part 20: the reference's month, whole -/
/-- an int as a number -/
def nn (x : Int32) : Nat := x.toNatClampNeg
theorem nn_nI {k : Nat} (h : k < 2 ^ 31) : nn (nI k) = k := nI_clamp h
theorem bd_e {x : Int32} {n : Nat} (h : bd x n) (hn : n < 2 ^ 31) : x = nI (nn x) ∧ nn x ≤ n := by
  obtain ⟨k, h1, h2⟩ := h
  subst h2
  rw [nn_nI (by omega)]
  exact ⟨rfl, h1⟩
theorem wf.eN {δ : Nat → Int32} (h : wf δ) : δ 0 = nI (nn (δ 0)) ∧ nn (δ 0) ≤ 10 := bd_e h.n (by decide)
theorem wf.eR {δ : Nat → Int32} (h : wf δ) {m : Nat} (hm : m < 10) : δ (20 + 4 * m + 2) = nI (nn (δ (20 + 4 * m + 2))) ∧ nn (δ (20 + 4 * m + 2)) ≤ 11 := bd_e (h.reach m hm) (by decide)
/-- the text that counts for a key -/
def sCnt (f : Nat → Int32) (key : Int32) : Nat → Option Nat
  | 0 => none
  | t + 1 => if f t = key then some t else sCnt f key t
theorem sCnt_lt {f : Nat → Int32} {key : Int32} {t : Nat} : ∀ n, sCnt f key n = some t → t < n
  | 0, h => nomatch h
  | n + 1, h => by
    unfold sCnt at h
    by_cases hf : f n = key
    · rw [if_pos hf] at h
      injection h with h
      omega
    · rw [if_neg hf] at h
      have := sCnt_lt n h
      omega
def oI : Option Nat → Int32
  | none => -1
  | some t => nI t
theorem m1 (x : Int32) : x + (-1) = x - 1 := (Int32.sub_eq_add_neg x 1).symm
section YEAR
variable {a : Nat → Nat → Int32} {δ κ s : Nat → Int32} {w : Int64} {H : xh}
theorem l_counts (ev : xe) (key : Int32) : ∀ k, k ≤ 14 → RF 119 ev 10 [some (.ref 58), some (.int key), some (.int (nI k - 1))] [] (md a δ κ s w H) = some (some (.int (oI (sCnt (a 6) key k))), md a δ κ s w H)
  | 0, _ => by
    have hc : nI 0 - 1 < 0 := by decide
    rw [S119_10]
    simp only [S119_0, S119_1, S119_4, S119_6, S119_7, S119_8, S119_9, S119_11, S119_14, S119_15, S119_18, S119_19, S119_20, S119_21, S119_24, S119_25, S119_26, S119_29, S119_32, S119_33, Option.bind_some, Option.map_some, xpush_s, xpush_n, xcat_0, xcat_i, xcat_r, xcat_l, xcat_n, xcat_e, xir_r, Nat.reduceAdd, Nat.reduceLeDiff, Nat.zero_le, Nat.le_refl, ↓reduceIte, hc]
    rfl
  | k + 1, hk => by
    have ih := l_counts ev key k (by omega)
    have hc : ¬ nI k < 0 := nI_pos (by omega)
    rw [S119_10]
    by_cases hf : a 6 k = key
    · simp only [S119_0, S119_1, S119_4, S119_6, S119_7, S119_8, S119_9, S119_11, S119_14, S119_15, S119_18, S119_19, S119_20, S119_21, S119_24, S119_25, S119_26, S119_29, S119_32, S119_33, Option.bind_some, Option.map_some, xpush_s, xpush_n, xcat_0, xcat_i, xcat_r, xcat_l, xcat_n, xcat_e, xir_r, Nat.reduceAdd, Nat.reduceLeDiff, Nat.zero_le, Nat.le_refl, ↓reduceIte, nI_pred, hc, Dg6, Dr6, xix_n (show k < 14 by omega) (by omega), hf, sCnt]
      rfl
    · simp only [S119_0, S119_1, S119_4, S119_6, S119_7, S119_8, S119_9, S119_11, S119_14, S119_15, S119_18, S119_19, S119_20, S119_21, S119_24, S119_25, S119_26, S119_29, S119_32, S119_33, Option.bind_some, Option.map_some, xpush_s, xpush_n, xcat_0, xcat_i, xcat_r, xcat_l, xcat_n, xcat_e, xir_r, Nat.reduceAdd, Nat.reduceLeDiff, Nat.zero_le, Nat.le_refl, ↓reduceIte, nI_pred, hc, Dg6, Dr6, xix_n (show k < 14 by omega) (by omega), hf, sCnt, m1]
      exact ih
theorem s_counts (d : Nat) {n : Nat} (key : Int32) (hn : δ 7 = nI n) (h14 : n ≤ 14) : Ev (d + 1) 119 [.ref 58, .int key] (md a δ κ s w H) = some (some (.int (oI (sCnt (a 6) key n))), md a δ κ s w H) := by
  rw [E119]
  have h0 := l_counts (a := a) (δ := δ) (κ := κ) (s := s) (w := w) (H := H) (Ev d) key n h14
  simp only [S119_0, S119_1, S119_4, S119_6, S119_7, S119_8, S119_9, S119_11, S119_14, S119_15, S119_18, S119_19, S119_20, S119_21, S119_24, S119_25, S119_26, S119_29, S119_32, S119_33, Option.bind_some, Option.map_some, xpush_s, xpush_n, xcat_0, xcat_i, xcat_r, xcat_l, xcat_n, xcat_e, xir_r, Nat.reduceAdd, Nat.reduceLeDiff, Nat.zero_le, Nat.le_refl, ↓reduceIte, Dg, Dr, ix_7, hn]
  exact h0
/-- a law of four numbers -/
def xq : Type := Int32 → Int32 → Int32 → Int32 → Int32
/-- text t of the reference gives f -/
def GM (a : Nat → Nat → Int32) (t : Nat) (f : xq) : Prop := ∀ (d : Nat) (δ κ s : Nat → Int32) (w : Int64) (H : xh) (x y z u : Int32), ∃ κ', Ev (d + 2) 123 [.ref 58, .int (nI t), .int x, .int y, .int z, .int u] (md a δ κ s w H) = some (some (.int (f x y z u)), md a δ κ' s w H)
/-- the law for a key, n texts told -/
def QM (a : Nat → Nat → Int32) (key : Int32) (n : Nat) (q : Option xq) : Prop := match sCnt (a 6) key n with
  | none => q = none
  | some t => ∃ f, q = some f ∧ GM a t f
def sPlain (q : Option xq) (δ : Nat → Int32) (m : Nat) : Int32 := hd (match q with
  | none => δ (20 + 4 * m + 1) / 10
  | some f => f (δ (20 + 4 * m + 1)) (δ (8 + nn (δ (20 + 4 * m + 2)))) (δ (20 + 4 * m + 3)) (sOnes (sAt δ (δ (20 + 4 * m + 2)) (nn (δ 0))))) 0 30
theorem s_plain (d : Nat) {q : Option xq} (hw : wf δ) (hq : QM a 0 (nn (δ 7)) q) {m : Nat} (hm : m < 10) : ∃ κ', Ev (d + 3) 118 [.ref 58, .int (nI m)] (md a δ κ s w H) = some (some (.int (sPlain q δ m)), md a δ κ' s w H) := by
  have e7 := bd_e hw.texts (by decide)
  have eN := hw.eN
  have eR := hw.eR hm
  unfold QM at hq
  have hx := xix_n (show 8 + nn (δ (20 + 4 * m + 2)) < 60 by omega) (by omega)
  have hx8 : (8 : Int32) + δ (20 + 4 * m + 2) = nI (8 + nn (δ (20 + 4 * m + 2))) := by rw [eR.1, ix8, ← eR.1]
  cases hc : sCnt (a 6) 0 (nn (δ 7)) with
  | none =>
    rw [hc] at hq
    subst hq
    refine ⟨κ, ?_⟩
    have h1 : ¬ (0 : Int32) ≤ oI none := by decide
    have h2 : ¬ (10 : Int32) = 0 := by decide
    rw [E118]
    simp only [S118_0, S118_1, S118_2, S118_5, S118_6, S118_7, S118_10, S118_11, S118_12, S118_13, S118_16, S118_18, S118_19, S118_22, S118_23, S118_24, S118_25, S118_26, S118_27, S118_30, S118_31, S118_34, S118_36, S118_37, S118_38, S118_39, S118_42, S118_43, S118_44, S118_45, S118_46, S118_47, S118_50, S118_51, S118_52, S118_53, S118_54, S118_57, S118_60, S118_63, S118_66, S118_67, S118_68, S118_69, S118_71, S118_74, Option.bind_some, Option.map_some, xpush_s, xpush_n, xcat_0, xcat_i, xcat_r, xcat_l, xcat_n, xcat_e, xir_r, Nat.reduceAdd, Nat.reduceLeDiff, Nat.zero_le, Nat.le_refl, ↓reduceIte, Dg, Dcls, Dr, s_counts _ _ e7.1 e7.2, hc, h1, h2, s_of1 _ hm, s_held, sPlain]
  | some t =>
    rw [hc] at hq
    obtain ⟨f, hf, hg⟩ := hq
    subst hf
    have ht := sCnt_lt _ hc
    have h1 : (0 : Int32) ≤ oI (some t) := nI_pos' (by omega)
    obtain ⟨κ', hκ⟩ := hg d δ κ s w H (δ (20 + 4 * m + 1)) (δ (8 + nn (δ (20 + 4 * m + 2)))) (δ (20 + 4 * m + 3)) (sOnes (sAt δ (δ (20 + 4 * m + 2)) (nn (δ 0))))
    refine ⟨κ', ?_⟩
    rw [E118]
    simp only [S118_0, S118_1, S118_2, S118_5, S118_6, S118_7, S118_10, S118_11, S118_12, S118_13, S118_16, S118_18, S118_19, S118_22, S118_23, S118_24, S118_25, S118_26, S118_27, S118_30, S118_31, S118_34, S118_36, S118_37, S118_38, S118_39, S118_42, S118_43, S118_44, S118_45, S118_46, S118_47, S118_50, S118_51, S118_52, S118_53, S118_54, S118_57, S118_60, S118_63, S118_66, S118_67, S118_68, S118_69, S118_71, S118_74, Option.bind_some, Option.map_some, xpush_s, xpush_n, xcat_0, xcat_i, xcat_r, xcat_l, xcat_n, xcat_e, xir_r, Nat.reduceAdd, Nat.reduceLeDiff, Nat.zero_le, Nat.le_refl, ↓reduceIte, Dg, Dcls, Dr, s_counts _ _ e7.1 e7.2, hc, h1, s_of1 _ hm, s_of2 _ hm, s_of3 _ hm, s_marksAt _ _ eN.1 eN.2, s_ones, hx8, hx, s_held, sPlain]
    rw [show oI (some t) = nI t from rfl, hκ]
    simp only [S118_0, S118_1, S118_2, S118_5, S118_6, S118_7, S118_10, S118_11, S118_12, S118_13, S118_16, S118_18, S118_19, S118_22, S118_23, S118_24, S118_25, S118_26, S118_27, S118_30, S118_31, S118_34, S118_36, S118_37, S118_38, S118_39, S118_42, S118_43, S118_44, S118_45, S118_46, S118_47, S118_50, S118_51, S118_52, S118_53, S118_54, S118_57, S118_60, S118_63, S118_66, S118_67, S118_68, S118_69, S118_71, S118_74, Option.bind_some, Option.map_some, xpush_s, xpush_n, xcat_0, xcat_i, xcat_r, xcat_l, xcat_n, xcat_e, xir_r, Nat.reduceAdd, Nat.reduceLeDiff, Nat.zero_le, Nat.le_refl, ↓reduceIte, s_held]
end YEAR
