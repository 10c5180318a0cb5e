/-! part 67: texts, one more -/
theorem gX_o {X : xh} {c0 c1 c2 : xc} {k q : Nat} (h0 : q ≠ X.1) (h1 : q ≠ X.1 + 1) (h2 : q ≠ X.1 + 2) : (gX X c0 c1 c2 k).2.2.1 q = X.2.2.1 q := by
  show va_up (va_up (va_up X.2.2.1 X.1 c0) (X.1 + 1) c1) (X.1 + 2) c2 q = _
  rw [vu_n _ _ h2, vu_n _ _ h1, vu_n _ _ h0]
theorem nil_lt {X : xh} (hn : ∀ q, X.1 ≤ q → X.2.2.1 q = xnil) {p : Nat} (h : vT X p) : p < X.1 := by
  obtain ⟨-, -, fs, h⟩ := h
  rcases Nat.lt_or_ge p X.1 with z | z
  · exact z
  · rw [hn p z] at h
    unfold xnil at h
    injection h with h
    injection h with h
    injection h with h
    exact absurd h (by decide)
theorem vT_g {X : xh} {c0 c1 c2 : xc} {k p : Nat} (hn : ∀ q, X.1 ≤ q → X.2.2.1 q = xnil) (h : vT X p) : vT (gX X c0 c1 c2 k) p := by
  have hl := nil_lt hn h
  obtain ⟨h1, h2, fs, h3⟩ := h
  exact ⟨h1, h2, fs, by rw [gX_o (by omega) (by omega) (by omega)]; exact h3⟩
theorem VT_g {X : xh} {c0 c1 c2 : xc} {k : Nat} {τ : xt} (hn : ∀ q, X.1 ≤ q → X.2.2.1 q = xnil) (h : VT X τ) : VT (gX X c0 c1 c2 k) τ := ⟨fun i p hi e => vT_g hn (h.1 i p hi e), fun i p hi e => vT_g hn (h.2 i p hi e)⟩
theorem TR_vT {X : xh} {p : Nat} {key ops : Int32} {P : List Nat} (h : TR X p key ops P) : vT X p := by
  obtain ⟨-, -, cap, sf, cf, ⟨t1, t2, t3, -, -⟩, -⟩ := h
  exact ⟨t1, t2, _, t3⟩
theorem TR_g {X : xh} {c0 c1 c2 : xc} {k p : Nat} {key ops : Int32} {P : List Nat} (h3 : X.1 % 3 = 0) (hn : ∀ q, X.1 ≤ q → X.2.2.1 q = xnil) (h : TR X p key ops P) : TR (gX X c0 c1 c2 k) p key ops P := by
  have hl := nil_lt hn (TR_vT h)
  obtain ⟨g1, g2, cap, sf, cf, ⟨t1, t2, t3, t4, t5⟩, g3⟩ := h
  exact ⟨g1, g2, cap, sf, cf, ⟨t1, t2, by rw [gX_o (by omega) (by omega) (by omega)]; exact t3, by rw [gX_o (by omega) (by omega) (by omega)]; exact t4, by rw [gX_o (by omega) (by omega) (by omega)]; exact t5⟩, g3⟩
theorem sCnt_e {f g : Nat → Int32} {key : Int32} : ∀ n, (∀ i, i < n → f i = g i) → sCnt f key n = sCnt g key n
  | 0, _ => rfl
  | n + 1, h => by
    unfold sCnt
    rw [h n (by omega), sCnt_e n (fun i hi => h i (by omega))]
theorem TXT_g {X : xh} {a a' : Nat → Nat → Int32} {τ : xt} {N t : Nat} {c0 c1 c2 : xc} {k : Nat} (h3 : X.1 % 3 = 0) (hn : ∀ q, X.1 ≤ q → X.2.2.1 q = xnil) (hN : N ≤ t) (h5 : ∀ e, e < 96 * t → a' 5 e = a 5 e) (h6 : ∀ e, e < t → a' 6 e = a 6 e) (h7 : ∀ e, e < t → a' 7 e = a 7 e) (h8 : ∀ e, e < t → a' 8 e = a 8 e) (h : TXT X a τ N) : TXT (gX X c0 c1 c2 k) a' τ N := by
  obtain ⟨g1, g2, g3⟩ := h
  refine ⟨VT_g hn g1, fun t' ht' => ?_, fun key hk => ?_⟩
  · obtain ⟨p, P, q1, q2, q3, q4⟩ := g2 t' ht'
    obtain ⟨m1, m2, m3, m4, m5⟩ := q2
    refine ⟨p, P, q1, ⟨m1, m2, by rw [h7 t' (by omega)]; exact m3, fun j hj => by rw [h5 (96 * t' + j) (by omega)]; exact m4 j hj, m5⟩, ?_, ?_⟩
    · rw [h6 t' (by omega), h8 t' (by omega)]
      exact TR_g h3 hn q3
    · rw [h6 t' (by omega)]
      exact q4
  · rw [sCnt_e (g := a 6) N (fun i hi => h6 i (by omega))]
    exact g3 key hk
theorem TXT_new {X : xh} {a a' : Nat → Nat → Int32} {τ : xt} {t key : Nat} {P : List Nat} {S' : Nat → Int32} (hp : 84 ≤ X.1) (h3 : X.1 % 3 = 0) (hn : ∀ q, X.1 ≤ q → X.2.2.1 q = xnil) (ht : t < 14) (hkey : key ≤ 2) (hl : P.length < 96) (hg : Gd P 0) (hS : cS S' P) (h5 : ∀ e, e < 96 * t → a' 5 e = a 5 e) (h6 : ∀ e, e < t → a' 6 e = a 6 e) (h7 : ∀ e, e < t → a' 7 e = a 7 e) (h8 : ∀ e, e < t → a' 8 e = a 8 e) (n5 : ∀ j (h : j < P.length), a' 5 (96 * t + j) = nI P[j]) (n6 : a' 6 t = nI key) (n7 : a' 7 t = nI P.length) (n8 : a' 8 t = nI (cnt P)) (h : TXT X a τ t) : TXT (gT X key P S') a' (mkt (va_up τ.1 t (some X.1)) (upd τ.2.1 key (nI t)) (va_up τ.2.2 key (some X.1))) (t + 1) := by
  have hc := cnt_l P
  have hG : TXT (gT X key P S') a' τ t := TXT_g h3 hn (Nat.le_refl _) h5 h6 h7 h8 h
  have cp : (gT X key P S').2.2.1 X.1 = .inr (.inr (4, [.int (nI key), .int (nI (cnt P)), .ref (X.1 + 1), .ref (X.1 + 2)])) := by
    show va_up (va_up (va_up X.2.2.1 X.1 _) (X.1 + 1) _) (X.1 + 2) _ X.1 = _
    rw [vu_n _ _ (by omega), vu_n _ _ (by omega), vu_s]
  have cp1 : (gT X key P S').2.2.1 (X.1 + 1) = .inl (0, P.length, va_cpy S' (fun _ => 0) 0 0 P.length) := by
    show va_up (va_up (va_up X.2.2.1 X.1 _) (X.1 + 1) _) (X.1 + 2) _ (X.1 + 1) = _
    rw [vu_n _ _ (by omega), vu_s]
  have cp2 : (gT X key P S').2.2.1 (X.1 + 2) = .inl (0, max 1 (cnt P), fun _ => 0) := by
    show va_up (va_up (va_up X.2.2.1 X.1 _) (X.1 + 1) _) (X.1 + 2) _ (X.1 + 2) = _
    rw [vu_s]
  have hv : vT (gT X key P S') X.1 := ⟨hp, h3, _, cp⟩
  have hR : TR (gT X key P S') X.1 (nI key) (nI (cnt P)) P := ⟨by omega, hg, max 1 (cnt P), _, _, ⟨hp, h3, cp, cp1, cp2⟩, by omega, by omega, fun j hj => by
    rw [pk_cpy_in (by omega) (by omega), Nat.zero_add, Nat.sub_zero]
    exact hS j hj⟩
  obtain ⟨g1, g2, g3⟩ := hG
  refine ⟨⟨fun i p hi e => ?_, fun i p hi e => ?_⟩, fun t' ht' => ?_, fun key' hk' => ?_⟩
  · rw [mkt_1] at e
    by_cases ei : i = t
    · subst ei
      rw [vu_s] at e
      injection e with e
      subst e
      exact hv
    · rw [vu_n _ _ ei] at e
      exact g1.1 i p hi e
  · rw [mkt_3] at e
    by_cases ei : i = key
    · subst ei
      rw [vu_s] at e
      injection e with e
      subst e
      exact hv
    · rw [vu_n _ _ ei] at e
      exact g1.2 i p hi e
  · by_cases et : t' = t
    · subst et
      refine ⟨X.1, P, by rw [mkt_1, vu_s], ⟨ht, by omega, n7, n5, hg⟩, by rw [n6, n8]; exact hR, key, hkey, n6⟩
    · obtain ⟨p, P', q1, q2, q3, q4⟩ := g2 t' (by omega)
      exact ⟨p, P', by rw [mkt_1, vu_n _ _ et]; exact q1, q2, q3, q4⟩
  · rw [mkt_1, mkt_2, mkt_3]
    by_cases ek : key' = key
    · subst ek
      rw [show sCnt (a' 6) (nI key') (t + 1) = some t from if_pos n6]
      refine ⟨up_s _ _ _, ?_⟩
      rw [vu_s, vu_s]
    · rw [show sCnt (a' 6) (nI key') (t + 1) = sCnt (a' 6) (nI key') t from if_neg (fun z => ek (by
        rw [n6] at z
        exact ((nI_eq (by omega) (by omega)).mp z).symm))]
      have := g3 key' hk'
      cases e : sCnt (a' 6) (nI key') t with
      | none =>
        rw [e] at this
        refine ⟨?_, ?_⟩
        · rw [up_n _ _ ek]; exact this.1
        · rw [vu_n _ _ ek]; exact this.2
      | some t' =>
        rw [e] at this
        have hlt := sCnt_lt _ e
        refine ⟨?_, ?_⟩
        · rw [up_n _ _ ek]; exact this.1
        · rw [vu_n _ _ ek, vu_n _ _ (show t' ≠ t by omega)]; exact this.2
theorem m_txl (ev : xe) {A : Nat → Nat → Int32} {S : Nat → Int32} {w : Int64} {H : xh} {t len : Nat} (ht : t < 14) (hl : len < 96) (hS : S 16 = nI len) : ∀ u j, j + u = len → RF 169 ev 231 [some (.ref 58), some (.int (nI t)), some (.int (nI j))] [] (mh (va_up A 5 (puX (A 11) (A 5) (96 * t) 0 j)) S w H) = RF 169 ev 262 [some (.ref 58), some (.int (nI t)), some (.int (nI len))] [] (mh (va_up A 5 (puX (A 11) (A 5) (96 * t) 0 len)) S w H)
  | 0, j, e => by
    have e' : j = len := by omega
    subst e'
    rw [S169_231]
    simp only [S169_232, S169_233, S169_236, S169_239, S169_240, S169_243, S169_245, S169_246, S169_247, S169_248, S169_249, S169_250, S169_253, S169_254, S169_255, S169_256, S169_259, Option.bind_some, Option.map_some, xpush_s, xpush_n, xcat_0, xcat_i, xcat_r, xcat_l, xcat_n, xcat_e, xir_r, Nat.reduceAdd, Nat.reduceLeDiff, Nat.zero_le, Nat.le_refl, ↓reduceIte, Mg_16, hS, show (nI j ≤ nI j) = True from eq_true (Int32.le_refl _)]
  | u + 1, j, e => by
    have hc : ¬ nI len ≤ nI j := nI_ge (by omega) (by omega)
    have hx := xix_n (show 96 * t + j < 1344 by omega) (show 1344 ≤ 100000 by decide)
    have hx2 := xix_n (show j < 96 by omega) (show 96 ≤ 100000 by decide)
    have ih := m_txl ev (A := A) (S := S) (w := w) (H := H) ht hl hS u (j + 1) (by omega)
    have hs := puX_s (A 11) (A 5) (96 * t) 0 j
    rw [Nat.zero_add] at hs
    rw [← ih, S169_231]
    simp only [S169_232, S169_233, S169_236, S169_239, S169_240, S169_243, S169_245, S169_246, S169_247, S169_248, S169_249, S169_250, S169_253, S169_254, S169_255, S169_256, S169_259, Option.bind_some, Option.map_some, xpush_s, xpush_n, xcat_0, xcat_i, xcat_r, xcat_l, xcat_n, xcat_e, xir_r, Nat.reduceAdd, Nat.reduceLeDiff, Nat.zero_le, Nat.le_refl, ↓reduceIte, Mg_16, hS, hc, Mg_5, Mg_23, Mr_11, Mw_5, ix96, hx, hx2, vu_s, vu_u, vu_n _ _ (show 11 ≠ 5 by decide), hs, nI_1]
