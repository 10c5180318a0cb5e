/-! part 30: the reference's gives, whole -/
theorem stp_num {x y z u : Int32} {p n : Nat} {κ : Nat → Int32} (c0 : p < 10000) : stp x y z u p (n, κ) = (n + 1, upd κ n (nI p)) := if_pos c0
theorem stp_name {x y z u : Int32} {p n : Nat} {κ : Nat → Int32} (c0 : ¬ p < 10000) (c1 : p < 10004) : stp x y z u p (n, κ) = (n + 1, upd κ n (nmv x y z u (p - 10000))) := by
  unfold stp
  rw [if_neg c0, if_pos c1]
theorem stp_not {x y z u : Int32} {p n : Nat} {κ : Nat → Int32} (c1 : ¬ p < 10004) (c3 : p = 20033) : stp x y z u p (n, κ) = (n, upd κ (n - 1) (if κ (n - 1) = 0 then 1 else 0)) := by
  unfold stp
  rw [if_neg (by omega), if_neg c1, if_pos c3]
theorem stp_sign {x y z u : Int32} {c n : Nat} {κ : Nat → Int32} (c3 : ¬ 20000 + c = 20033) : stp x y z u (20000 + c) (n, κ) = (n - 1, upd κ (n - 2) (jn c (κ (n - 2)) (κ (n - 1)))) := by
  unfold stp
  rw [if_neg (by omega), if_neg (by omega), if_neg c3, Nat.add_sub_cancel_left]
theorem nm_eq (x y z u : Int32) {p : Nat} (h0 : ¬ p < 10000) (h1 : p < 10004) : (if nI p = 10000 then x else if nI p = 10001 then y else if nI p = 10002 then z else u) = nmv x y z u (p - 10000) := by
  have e : ∀ k, k < 20000 → ((nI p = nI k) = (p = k)) := fun k hk => propext (nI_eq (by omega) (by omega))
  rw [show (10000 : Int32) = nI 10000 from rfl, show (10001 : Int32) = nI 10001 from rfl, show (10002 : Int32) = nI 10002 from rfl]
  simp only [e 10000 (by decide), e 10001 (by decide), e 10002 (by decide)]
  obtain ⟨q, hq, rfl⟩ : ∃ q, q < 4 ∧ p = 10000 + q := ⟨p - 10000, by omega, by omega⟩
  rw [Nat.add_sub_cancel_left]
  unfold nmv
  match q, hq with
  | 0, _ => rfl
  | 1, _ => rfl
  | 2, _ => rfl
  | 3, _ => rfl
section GIVE2
variable {a : Nat → Nat → Int32} {δ s : Nat → Int32} {w : Int64} {H : xh}
theorem l_gives (d : Nat) {t len : Nat} (x y z u : Int32) (ht : t < 14) (hlen : len ≤ 96) (hs : a 7 t = nI len) : ∀ (P : List Nat) (i n : Nat) (κ : Nat → Int32) (l : Option Value), i + P.length = len → n ≤ i → (∀ j (h : j < P.length), a 5 (96 * t + (i + j)) = nI P[j]) → Gd P n →
    RF 123 (Ev (d + 1)) 6 [some (.ref 58), some (.int (nI t)), some (.int x), some (.int y), some (.int z), some (.int u), some (.int (nI n)), some (.int (nI i)), l] [] (md a δ κ s w H) = some (some (.int ((prg x y z u P (n, κ)).2 0)), md a δ (prg x y z u P (n, κ)).2 s w H) := by
  have hxt := xix_n ht (show 14 ≤ 100000 by decide)
  intro P
  induction P with
  | nil =>
    intro i n κ l hi hn hP hg
    have e : i = len := by simpa using hi
    subst e
    exact gv_end _ hxt hs
  | cons p P ih =>
    intro i n κ l hi hn hP hg
    have hi' : i + 1 + P.length = len := by simp only [List.length_cons] at hi; omega
    have hc : ¬ nI len ≤ nI i := nI_ge (by omega) (by omega)
    have hp : a 5 (96 * t + i) = nI p := hP 0 (Nat.zero_lt_succ _)
    have hP' : ∀ j (h : j < P.length), a 5 (96 * t + (i + 1 + j)) = nI P[j] := fun j h => by
      have := hP (j + 1) (Nat.succ_lt_succ h)
      rw [show i + (j + 1) = i + 1 + j by omega] at this
      exact this
    have hx := xix_n (k := 96 * t + i) (n := 1344) (by omega) (by omega)
    rw [gv_a (cp := 0) _ hxt hs hc, gv_b _ hx hp]
    unfold Gd at hg
    unfold prg
    by_cases c1 : p < 10004
    · rw [if_pos c1] at hg
      have hxn := xix_n (k := n) (n := 96) (by omega) (by omega)
      by_cases c0 : p < 10000
      · rw [stp_num c0, gv_c1 _ (nI_ge (b := 10000) c0 (by decide)), gv_c2 _ hxn]
        exact ih (i + 1) (n + 1) _ _ hi' (by omega) hP' hg
      · rw [stp_name c0 c1, gv_d1 _ (nI_le (a := 10000) (by omega) (by omega)) (nI_ge (b := 20000) (by omega) (by decide)), gv_d3 _ hxn (nm_eq x y z u c0 c1)]
        exact ih (i + 1) (n + 1) _ _ hi' (by omega) hP' hg
    · rw [if_neg c1] at hg
      by_cases c3 : p = 20033
      · rw [if_pos c3] at hg
        have hb : p < 2 ^ 31 := by omega
        rw [stp_not c1 c3, gv_e1 _ (nI_le (a := 10000) (by omega) hb) (nI_le (a := 20000) (by omega) hb), gv_e2 _ (by rw [c3]; rfl) (pk_sub (b := 1) hg.1) (xix_n (k := n - 1) (by omega) (by omega))]
        exact ih (i + 1) n _ _ hi' (by omega) hP' hg.2
      · rw [if_neg c3] at hg
        obtain ⟨h2, ⟨c, hsg, e⟩, hg'⟩ := hg
        have hcb : c < 125 := by unfold isSg at hsg; omega
        have hb : p < 2 ^ 31 := by omega
        have hm2 : nI (n - 1) - 1 = nI (n - 2) := by
          have := pk_sub (a := n - 1) (b := 1) (by omega)
          rw [show n - 1 - 1 = n - 2 by omega] at this
          exact this
        have hsub : nI p - 20000 = nI c := by
          rw [show (20000 : Int32) = nI 20000 from rfl, pk_sub (by omega), show p - 20000 = c by omega]
        have hst : stp x y z u p (n, κ) = (n - 1, upd κ (n - 2) (jn c (κ (n - 2)) (κ (n - 1)))) := by rw [e]; exact stp_sign (by omega)
        rw [hst, gv_e1 _ (nI_le (a := 10000) (by omega) hb) (nI_le (a := 20000) (by omega) hb), gv_f _ (fun h => c3 ((nI_eq (b := 20033) hb (by decide)).mp h)) (by rw [m1]; exact pk_sub (b := 1) (by omega)) hm2 (xix_n (by omega) (by omega)) (xix_n (by omega) (by omega)) hsub (fun h => s_done d hsg _ _ h)]
        exact ih (i + 1) (n - 1) _ _ hi' (by omega) hP' hg'
end GIVE2
/-- text t of the reference holds the program P -/
def TM (a : Nat → Nat → Int32) (t : Nat) (P : List Nat) : Prop := t < 14 ∧ P.length ≤ 96 ∧ a 7 t = nI P.length ∧ (∀ j (h : j < P.length), a 5 (96 * t + j) = nI P[j]) ∧ Gd P 0
theorem GM_of {a : Nat → Nat → Int32} {t : Nat} {P : List Nat} (h : TM a t P) : GM a t (pv P) := by
  intro d δ κ s w H x y z u
  obtain ⟨ht, hl, hs, hP, hg⟩ := h
  have h0 := l_gives (δ := δ) (s := s) (w := w) (H := H) d x y z u ht hl hs P 0 0 κ none (by omega) (by omega) (fun j h => by rw [Nat.zero_add]; exact hP j h) hg
  refine ⟨(prg x y z u P (0, κ)).2, ?_⟩
  rw [E123]
  simp only [S123_0, S123_1, S123_3, S123_4]
  rw [show pv P x y z u = (prg x y z u P (0, κ)).2 0 from prg_alk x y z u P _ _ hg ⟨rfl, fun i hi => absurd hi (Nat.not_lt_zero _)⟩]
  exact h0
