/-! part 54, by program (wip/whole/gen/calls5.py): calls, fifth lot -/
section RELN
variable {m : Nat} {δ : Nat → Int32} {τ1 : xt} {ε : Nat → Int32} {τ2 : xt} {ζ : Nat → Int32} {τ3 : xt} {κ : Nat → Nat → Int32} {n : Nat} {l : lk} {ke op sz : Int32} {B S : Nat → Int32} {b a : Nat → Nat → Int32} {s : Nat → Int32} {w : Int64} {X : xh}
theorem relN {n' : Nat} {B' : Nat → Int32} {b' a' : Nat → Nat → Int32} {s' : Nat → Int32} (R : Rel m δ τ1 ε τ2 n B b a s X) (h1 : a' 1 = a 1) (h2 : a' 2 = a 2) (h3 : a' 3 = a 3) (h4 : a' 4 = a 4) (h5 : a' 5 = a 5) (h6 : a' 6 = a 6) (h7 : a' 7 = a 7) (h8 : a' 8 = a 8) (hb : b' 0 3 = b 0 3) (hs : s' 4 = s 4) (hT : RT a' s' n' B') (hS : RS a' b') (hL : RL a' b') (hW : RW a' b' s') : Rel (m + 1) δ τ1 ε τ2 n' B' b' a' s' X := by
  obtain ⟨r1, r2, r3, r4, r5, r6, r7, r8, r9, r10, r11, r12, r13⟩ := R
  exact ⟨r1, r2, by rw [h1]; exact r3, TXT_a h5 h6 h7 h8 r4, RK_e hb hs h2 h5 h6 h7 h8 r5, hT, hS, hL, hW, by rw [h2]; exact r10, by rw [h3]; exact r11, by rw [h4]; exact r12, RX_s r13⟩
/-- an end with another state -/
theorem combN {c mo : Nat} {args : List Value} {d : Nat} (v : Int32) {n' : Nat} {l' : lk} {ke' op' sz' : Int32} {B' S' : Nat → Int32} {b' a' : Nat → Nat → Int32} {s' : Nat → Int32} {w' : Int64} (e1 : Ev (d + 200) c (.ref 0 :: args) (cG δ τ1 ε τ2 ζ τ3 κ n l ke op sz B S b (mh a s w X)) = some (some (.int v), cG δ τ1 ε τ2 ζ τ3 κ n' l' ke' op' sz' B' S' b' (mh a s w X))) (e2 : Ev (d + 200) mo (.ref 58 :: args) (mh a s w (cG δ τ1 ε τ2 ζ τ3 κ n' l' ke' op' sz' B' S' b' X)) = some (some (.int v), mh a' s' w' (cG δ τ1 ε τ2 ζ τ3 κ n' l' ke' op' sz' B' S' b' X))) (R' : Rel (m + 1) δ τ1 ε τ2 n' B' b' a' s' X) : ∃ v h1 h2, Ev (d + 200) c (.ref 0 :: args) (cG δ τ1 ε τ2 ζ τ3 κ n l ke op sz B S b (mh a s w X)) = some (some (.int v), h1) ∧ Ev (d + 200) mo (.ref 58 :: args) h1 = some (some (.int v), h2) ∧ INV (m + 1) h2 ∧ h2.2.2.2 = X.2.2.2 ∧ h1.2.2.2 = X.2.2.2 ∧ xcls h1 (.ref 58) = 6 :=
  ⟨v, _, _, e1, by rw [cG_mh]; exact e2, INV_i R', rfl, rfl, rfl⟩
end RELN
theorem TXT_E {X : xh} {a : Nat → Nat → Int32} {τ τ' : xt} {N : Nat} (h : tE τ τ') (hN : N ≤ 14) (t : TXT X a τ' N) : TXT X a τ N := by
  obtain ⟨t1, t2, t3⟩ := t
  refine ⟨⟨fun i p hi e => t1.1 i p hi (by rw [← h.1 i hi]; exact e), fun i p hi e => t1.2 i p hi (by rw [← (h.2 i hi).2]; exact e)⟩, fun u hu => ?_, fun key hk => ?_⟩
  · obtain ⟨p, P, q1, q2⟩ := t2 u hu
    exact ⟨p, P, by rw [h.1 u (by omega)]; exact q1, q2⟩
  · have := t3 key hk
    cases e : sCnt (a 6) (nI key) N with
    | none =>
      rw [e] at this
      exact ⟨by rw [(h.2 key hk).1]; exact this.1, by rw [(h.2 key hk).2]; exact this.2⟩
    | some u =>
      rw [e] at this
      exact ⟨by rw [(h.2 key hk).1]; exact this.1, by rw [(h.2 key hk).2, h.1 u (by have := sCnt_lt _ e; omega)]; exact this.2⟩
theorem k_tell (x : Int32) : CL 104 193 [.int x] := by
  intro d m h hI
  obtain ⟨δ, τ1, ε, τ2, ζ, τ3, κ, n, l, ke, op, sz, B, S, b, a, s, w, X, rfl, R⟩ := hI
  have hw := R.1
  have hmo := R.2.1
  have ha1 := R.2.2.1
  have hmd := fun Z => md_of (s := s) (w := w) (Z := Z) ha1
  have n1 : ¬ (1 : Int32) = 0 := by decide
  obtain ⟨w1, ⟨k, hk, ek⟩, w3⟩ := R.2.2.2.2.2.2.2.2.1
  by_cases h60 : k = 60
  · subst h60
    refine comb0 (v := -1000000003) R ?_ ?_
    · rw [E104]
      simp only [S104_0, S104_1, S104_4, S104_6, S104_9, S104_11, S104_12, S104_13, S104_16, S104_17, S104_20, S104_21, S104_22, S104_23, S104_24, S104_27, S104_28, S104_29, S104_32, S104_33, S104_36, Option.bind_some, Option.map_some, xpush_s, xpush_n, xcat_0, xcat_i, xcat_r, xcat_l, xcat_n, xcat_e, xir_r, Nat.reduceAdd, Nat.reduceLeDiff, Nat.zero_le, Nat.le_refl, ↓reduceIte, C_9, w1, ek, show ¬ nI 60 < 60 by decide]
    · rw [E193]
      simp only [S193_0, S193_1, S193_4, S193_6, S193_9, S193_11, S193_12, S193_13, S193_16, S193_17, S193_20, S193_21, S193_22, S193_23, S193_24, S193_27, S193_28, S193_29, S193_32, S193_33, S193_36, Option.bind_some, Option.map_some, xpush_s, xpush_n, xcat_0, xcat_i, xcat_r, xcat_l, xcat_n, xcat_e, xir_r, Nat.reduceAdd, Nat.reduceLeDiff, Nat.zero_le, Nat.le_refl, ↓reduceIte, Mg_38, ek, show (nI 60 = 60) = True from eq_true rfl]
  · have c1 : nI k < 60 := nI_lt (b := 60) (by omega) (by decide)
    have c2 : ¬ nI k = 60 := fun q => h60 ((nI_eq (b := 60) (by omega) (by decide)).mp q)
    have hx := xix_n (show k < 60 by omega) (show 60 ≤ 100000 by decide)
    refine combN (nI (k + 1)) (n' := n) (l' := l) (ke' := ke) (op' := op) (sz' := sz) (B' := B) (S' := S) (b' := va_up (va_up b 34 (upd (b 34) k x)) 0 (upd (b 0) 9 (nI (k + 1)))) (a' := va_up a 25 (upd (a 25) k x)) (s' := upd s 38 (nI (k + 1))) (w' := w) ?_ ?_ (relN R (vu_n _ _ (by decide)) (vu_n _ _ (by decide)) (vu_n _ _ (by decide)) (vu_n _ _ (by decide)) (vu_n _ _ (by decide)) (vu_n _ _ (by decide)) (vu_n _ _ (by decide)) (vu_n _ _ (by decide)) ?_ (up_n _ _ (by decide)) ?_ ?_ ?_ ?_)
    · rw [E104]
      simp only [S104_0, S104_1, S104_4, S104_6, S104_9, S104_11, S104_12, S104_13, S104_16, S104_17, S104_20, S104_21, S104_22, S104_23, S104_24, S104_27, S104_28, S104_29, S104_32, S104_33, S104_36, Option.bind_some, Option.map_some, xpush_s, xpush_n, xcat_0, xcat_i, xcat_r, xcat_l, xcat_n, xcat_e, xir_r, Nat.reduceAdd, Nat.reduceLeDiff, Nat.zero_le, Nat.le_refl, ↓reduceIte, C_9, w1, ek, c1, C_8, C_w34, hx, vu_n _ _ (show 0 ≠ 34 by decide), cat_r, nI_1, C_p9, vu_s, up_s]
    · rw [E193]
      simp only [S193_0, S193_1, S193_4, S193_6, S193_9, S193_11, S193_12, S193_13, S193_16, S193_17, S193_20, S193_21, S193_22, S193_23, S193_24, S193_27, S193_28, S193_29, S193_32, S193_33, S193_36, Option.bind_some, Option.map_some, xpush_s, xpush_n, xcat_0, xcat_i, xcat_r, xcat_l, xcat_n, xcat_e, xir_r, Nat.reduceAdd, Nat.reduceLeDiff, Nat.zero_le, Nat.le_refl, ↓reduceIte, Mg_38, ek, if_neg c2, Mg_37, Mw_25, hx, cat_r, nI_1, Mp_38, up_s]
    · rw [vu_s, up_n _ _ (by decide)]
    · refine ⟨by rw [up_n _ _ (by decide)]; exact R.2.2.2.2.2.1.1, R.2.2.2.2.2.1.2.1, by rw [vu_n _ _ (by decide)]; exact R.2.2.2.2.2.1.2.2⟩
    · exact RS_e (vu_n _ _ (by decide)) (vu_n _ _ (by decide)) (vu_n _ _ (by decide)) (vu_n _ _ (by decide)) (fun q h1 h2 => by rw [vu_n _ _ (by omega), vu_n _ _ (by omega)]) R.2.2.2.2.2.2.1
    · exact RL_e (vu_n _ _ (by decide)) (vu_n _ _ (by decide)) (vu_n _ _ (by decide)) (vu_n _ _ (by decide)) (vu_n _ _ (by decide)) (vu_n _ _ (by decide)) (fun q h1 h2 => by rw [vu_n _ _ (by omega), vu_n _ _ (by omega)]) R.2.2.2.2.2.2.2.1
    · refine ⟨by rw [vu_s, up_s, up_s], ⟨k + 1, by omega, up_s _ _ _⟩, by rw [vu_n _ _ (by decide), vu_s, vu_s, w3]⟩

theorem C_pl {δ ε ζ : Nat → Int32} {τ1 τ2 τ3 : xt} {κ : Nat → Nat → Int32} {n : Nat} {l : lk} {ke op sz : Int32} {B S : Nat → Int32} {b : Nat → Nat → Int32} {H : xh} (k : Nat) : hpf (cG δ τ1 ε τ2 ζ τ3 κ n l ke op sz B S b H) (.ref 29) 3 1 (.int (nI k)) = some (cG δ τ1 ε τ2 ζ τ3 κ k l ke op sz B S b H) := by
  rw [cG_t, cG_t]
  exact Tp_1 (nI k)
theorem k_trim (x : Int32) : CL 91 168 [.int x] := by
  intro d m h hI
  obtain ⟨δ, τ1, ε, τ2, ζ, τ3, κ, n, l, ke, op, sz, B, S, b, a, s, w, X, rfl, R⟩ := hI
  have hw := R.1
  have hmo := R.2.1
  have ha1 := R.2.2.1
  have hmd := fun Z => md_of (s := s) (w := w) (Z := Z) ha1
  have n1 : ¬ (1 : Int32) = 0 := by decide
  obtain ⟨t1, t2, t3⟩ := R.2.2.2.2.2.1
  by_cases c1 : bd x n
  · have o1 := fun d h => ou_f d h (v := x) (n := n) rfl (by omega) c1
    have i1 := fun d h => in_t d h (v := x) (n := n) rfl (by omega) c1
    obtain ⟨k, hk, rfl⟩ := c1
    refine combN (nI k) (n' := k) (l' := l) (ke' := ke) (op' := op) (sz' := sz) (B' := B) (S' := S) (b' := b) (a' := a) (s' := upd s 11 (nI k)) (w' := w) ?_ ?_ (relN R rfl rfl rfl rfl rfl rfl rfl rfl rfl (up_n _ _ (by decide)) ⟨up_s _ _ _, by omega, t3⟩ R.2.2.2.2.2.2.1 R.2.2.2.2.2.2.2.1 ?_)
    · rw [E91]
      simp only [S91_0, S91_1, S91_2, S91_3, S91_6, S91_9, S91_12, S91_15, S91_17, S91_18, S91_19, S91_22, S91_23, S91_26, S91_27, Option.bind_some, Option.map_some, xpush_s, xpush_n, xcat_0, xcat_i, xcat_r, xcat_l, xcat_n, xcat_e, xir_r, Nat.reduceAdd, Nat.reduceLeDiff, Nat.zero_le, Nat.le_refl, ↓reduceIte, C_5, Ct_1, o1, C_pl]
    · rw [E168]
      simp only [S168_0, S168_1, S168_2, S168_3, S168_4, S168_7, S168_8, S168_11, S168_14, S168_16, S168_17, S168_18, S168_19, S168_22, S168_23, Option.bind_some, Option.map_some, xpush_s, xpush_n, xcat_0, xcat_i, xcat_r, xcat_l, xcat_n, xcat_e, xir_r, Nat.reduceAdd, Nat.reduceLeDiff, Nat.zero_le, Nat.le_refl, ↓reduceIte, Mg_11, t1, i1, n1, Mp_11]
    · obtain ⟨q1, q2, q3⟩ := R.2.2.2.2.2.2.2.2.1
      exact ⟨by rw [up_n _ _ (by decide)]; exact q1, by rw [up_n _ _ (by decide)]; exact q2, q3⟩
  · refine comb0 (v := -1000000001) R ?_ ?_
    · rw [E91]
      simp only [S91_0, S91_1, S91_2, S91_3, S91_6, S91_9, S91_12, S91_15, S91_17, S91_18, S91_19, S91_22, S91_23, S91_26, S91_27, Option.bind_some, Option.map_some, xpush_s, xpush_n, xcat_0, xcat_i, xcat_r, xcat_l, xcat_n, xcat_e, xir_r, Nat.reduceAdd, Nat.reduceLeDiff, Nat.zero_le, Nat.le_refl, ↓reduceIte, C_5, Ct_1, ou_t _ _ (v := x) (n := n) rfl (by omega) c1, n1]
    · rw [E168]
      simp only [S168_0, S168_1, S168_2, S168_3, S168_4, S168_7, S168_8, S168_11, S168_14, S168_16, S168_17, S168_18, S168_19, S168_22, S168_23, Option.bind_some, Option.map_some, xpush_s, xpush_n, xcat_0, xcat_i, xcat_r, xcat_l, xcat_n, xcat_e, xir_r, Nat.reduceAdd, Nat.reduceLeDiff, Nat.zero_le, Nat.le_refl, ↓reduceIte, Mg_11, t1, in_f _ _ (v := x) (n := n) rfl (by omega) c1, n1]

theorem ix24 (t i : Nat) : (24 : Int32) * nI t + nI i = nI (24 * t + i) := by
  rw [show (24 : Int32) = nI 24 from rfl, pk_mul, nI_add]
theorem k_ask (x y : Int32) : CL 101 190 [.int x, .int y] := by
  intro d m h hI
  obtain ⟨δ, τ1, ε, τ2, ζ, τ3, κ, n, l, ke, op, sz, B, S, b, a, s, w, X, rfl, R⟩ := hI
  have hw := R.1
  have hmo := R.2.1
  have ha1 := R.2.2.1
  have hmd := fun Z => md_of (s := s) (w := w) (Z := Z) ha1
  have n1 : ¬ (1 : Int32) = 0 := by decide
  by_cases c1 : bd x 4
  · have o1 := fun d h => ou_f d h (v := x) (n := 4) (N := 4) rfl (by decide) c1
    have i1 := fun d h => in_t d h (v := x) (n := 4) (N := 4) rfl (by decide) c1
    by_cases c2 : bd y 5
    · have o2 := fun d h => ou_f d h (v := y) (n := 5) (N := 5) rfl (by decide) c2
      have i2 := fun d h => in_t d h (v := y) (n := 5) (N := 5) rfl (by decide) c2
      obtain ⟨i, hi, rfl⟩ := c1
      obtain ⟨j, hj, ej⟩ := c2
      obtain ⟨r1, ⟨h, hh, eh⟩, r3, -, -⟩ := R.2.2.2.2.2.2.2.1 i (by omega)
      have hs := sl_i (show i < 5 by omega)
      have hx := xix_n (show i < 5 by omega) (show 5 ≤ 100000 by decide)
      rw [eh] at r1 r3
      rcases (show h = 0 ∨ h = 1 ∨ (2 ≤ h ∧ h ≤ 3) by omega) with rfl | rfl | hb
      · refine comb0 (v := -1000000011) R ?_ ?_
        · rw [E101]
          simp only [S101_0, S101_1, S101_2, S101_3, S101_6, S101_9, S101_10, S101_11, S101_12, S101_15, S101_18, S101_20, S101_21, S101_22, S101_25, S101_26, S101_27, S101_28, S101_29, S101_32, S101_35, S101_37, S101_38, S101_39, S101_42, S101_43, S101_46, S101_47, S101_50, S101_51, S101_54, S101_57, S101_59, S101_60, S101_61, S101_64, S101_65, S101_68, S101_69, S101_72, S101_75, Option.bind_some, Option.map_some, xpush_s, xpush_n, xcat_0, xcat_i, xcat_r, xcat_l, xcat_n, xcat_e, xir_r, Nat.reduceAdd, Nat.reduceLeDiff, Nat.zero_le, Nat.le_refl, ↓reduceIte, C_7, C_q33 (show i < 5 by omega), L_g0 hs, r1, o1, o2, show (nI 0 = 0) = True from eq_true rfl]
        · rw [E190]
          simp only [S190_0, S190_1, S190_2, S190_3, S190_6, S190_9, S190_12, S190_13, S190_14, S190_15, S190_18, S190_21, S190_24, S190_26, S190_27, S190_28, S190_31, S190_32, S190_33, S190_36, S190_38, S190_39, S190_40, S190_43, S190_44, S190_45, S190_46, S190_49, S190_50, S190_53, S190_54, S190_55, S190_56, S190_59, S190_62, S190_63, S190_66, S190_67, S190_68, S190_71, S190_73, Option.bind_some, Option.map_some, xpush_s, xpush_n, xcat_0, xcat_i, xcat_r, xcat_l, xcat_n, xcat_e, xir_r, Nat.reduceAdd, Nat.reduceLeDiff, Nat.zero_le, Nat.le_refl, ↓reduceIte, Mg_31, Mr_19, hx, eh, i1, i2, n1, show (nI 0 = 0) = True from eq_true rfl]
      · obtain ⟨q1, ⟨t, ht, et⟩, q3⟩ := r3 rfl
        have hX : oX (cG δ τ1 ε τ2 ζ τ3 κ n l ke op sz B S b (mh a s w X)) := R.2.2.2.2.2.2.2.2.2.2.2.2.1
        have u1 := fun d => c_under d hX (x := t) (y := j) ht hj
        have u2 := fun d h => m_under d (x := t) (y := j) ht hj h
        rw [← ej] at u1
        simp only [← ej] at u2
        cases hu : sUn t j with
        | true =>
          rw [hu, show bi (true = true) = 1 from rfl] at u1
          simp only [hu, bi_T] at u2
          rw [et] at q1 q3
          refine comb0 (v := a 20 i) R ?_ ?_
          · rw [E101]
            simp only [S101_0, S101_1, S101_2, S101_3, S101_6, S101_9, S101_10, S101_11, S101_12, S101_15, S101_18, S101_20, S101_21, S101_22, S101_25, S101_26, S101_27, S101_28, S101_29, S101_32, S101_35, S101_37, S101_38, S101_39, S101_42, S101_43, S101_46, S101_47, S101_50, S101_51, S101_54, S101_57, S101_59, S101_60, S101_61, S101_64, S101_65, S101_68, S101_69, S101_72, S101_75, Option.bind_some, Option.map_some, xpush_s, xpush_n, xcat_0, xcat_i, xcat_r, xcat_l, xcat_n, xcat_e, xir_r, Nat.reduceAdd, Nat.reduceLeDiff, Nat.zero_le, Nat.le_refl, ↓reduceIte, C_7, C_q33 (show i < 5 by omega), L_g0 hs, L_g1 hs, L_g2 hs, L_g3 hs, r1, q1, o1, o2, show ¬ nI 1 = 0 by decide, show (nI 1 = 1) = True from eq_true rfl, u1, n1, r_worth, wor_e ⟨t, ht, rfl⟩, q3]
          · rw [E190]
            simp only [S190_0, S190_1, S190_2, S190_3, S190_6, S190_9, S190_12, S190_13, S190_14, S190_15, S190_18, S190_21, S190_24, S190_26, S190_27, S190_28, S190_31, S190_32, S190_33, S190_36, S190_38, S190_39, S190_40, S190_43, S190_44, S190_45, S190_46, S190_49, S190_50, S190_53, S190_54, S190_55, S190_56, S190_59, S190_62, S190_63, S190_66, S190_67, S190_68, S190_71, S190_73, Option.bind_some, Option.map_some, xpush_s, xpush_n, xcat_0, xcat_i, xcat_r, xcat_l, xcat_n, xcat_e, xir_r, Nat.reduceAdd, Nat.reduceLeDiff, Nat.zero_le, Nat.le_refl, ↓reduceIte, Mg_31, Mg_32, Mg_33, Mr_19, Mr_20, Mr_21, hx, eh, et, i1, i2, n1, show ¬ nI 1 = 0 by decide, show (nI 1 = 1) = True from eq_true rfl, u2]
        | false =>
          have z : bi (false = true) = 0 := rfl
          rw [hu, z] at u1
          simp only [hu, z] at u2
          rw [et] at q1 q3
          refine comb0 (v := -1000000012) R ?_ ?_
          · rw [E101]
            simp only [S101_0, S101_1, S101_2, S101_3, S101_6, S101_9, S101_10, S101_11, S101_12, S101_15, S101_18, S101_20, S101_21, S101_22, S101_25, S101_26, S101_27, S101_28, S101_29, S101_32, S101_35, S101_37, S101_38, S101_39, S101_42, S101_43, S101_46, S101_47, S101_50, S101_51, S101_54, S101_57, S101_59, S101_60, S101_61, S101_64, S101_65, S101_68, S101_69, S101_72, S101_75, Option.bind_some, Option.map_some, xpush_s, xpush_n, xcat_0, xcat_i, xcat_r, xcat_l, xcat_n, xcat_e, xir_r, Nat.reduceAdd, Nat.reduceLeDiff, Nat.zero_le, Nat.le_refl, ↓reduceIte, C_7, C_q33 (show i < 5 by omega), L_g0 hs, L_g1 hs, r1, q1, o1, o2, show ¬ nI 1 = 0 by decide, show (nI 1 = 1) = True from eq_true rfl, u1, n1]
          · rw [E190]
            simp only [S190_0, S190_1, S190_2, S190_3, S190_6, S190_9, S190_12, S190_13, S190_14, S190_15, S190_18, S190_21, S190_24, S190_26, S190_27, S190_28, S190_31, S190_32, S190_33, S190_36, S190_38, S190_39, S190_40, S190_43, S190_44, S190_45, S190_46, S190_49, S190_50, S190_53, S190_54, S190_55, S190_56, S190_59, S190_62, S190_63, S190_66, S190_67, S190_68, S190_71, S190_73, Option.bind_some, Option.map_some, xpush_s, xpush_n, xcat_0, xcat_i, xcat_r, xcat_l, xcat_n, xcat_e, xir_r, Nat.reduceAdd, Nat.reduceLeDiff, Nat.zero_le, Nat.le_refl, ↓reduceIte, Mg_31, Mg_33, Mr_19, Mr_21, hx, eh, et, i1, i2, n1, show ¬ nI 1 = 0 by decide, show (nI 1 = 1) = True from eq_true rfl, u2]
      · have z0 : ¬ nI h = 0 := fun q => by have := (nI_eq (b := 0) (by omega) (by decide)).mp q; omega
        have z1 : ¬ nI h = 1 := fun q => by have := (nI_eq (b := 1) (by omega) (by decide)).mp q; omega
        refine comb0 (v := -1000000012) R ?_ ?_
        · rw [E101]
          simp only [S101_0, S101_1, S101_2, S101_3, S101_6, S101_9, S101_10, S101_11, S101_12, S101_15, S101_18, S101_20, S101_21, S101_22, S101_25, S101_26, S101_27, S101_28, S101_29, S101_32, S101_35, S101_37, S101_38, S101_39, S101_42, S101_43, S101_46, S101_47, S101_50, S101_51, S101_54, S101_57, S101_59, S101_60, S101_61, S101_64, S101_65, S101_68, S101_69, S101_72, S101_75, Option.bind_some, Option.map_some, xpush_s, xpush_n, xcat_0, xcat_i, xcat_r, xcat_l, xcat_n, xcat_e, xir_r, Nat.reduceAdd, Nat.reduceLeDiff, Nat.zero_le, Nat.le_refl, ↓reduceIte, C_7, C_q33 (show i < 5 by omega), L_g0 hs, r1, o1, o2, if_neg z0, if_neg z1]
        · rw [E190]
          simp only [S190_0, S190_1, S190_2, S190_3, S190_6, S190_9, S190_12, S190_13, S190_14, S190_15, S190_18, S190_21, S190_24, S190_26, S190_27, S190_28, S190_31, S190_32, S190_33, S190_36, S190_38, S190_39, S190_40, S190_43, S190_44, S190_45, S190_46, S190_49, S190_50, S190_53, S190_54, S190_55, S190_56, S190_59, S190_62, S190_63, S190_66, S190_67, S190_68, S190_71, S190_73, Option.bind_some, Option.map_some, xpush_s, xpush_n, xcat_0, xcat_i, xcat_r, xcat_l, xcat_n, xcat_e, xir_r, Nat.reduceAdd, Nat.reduceLeDiff, Nat.zero_le, Nat.le_refl, ↓reduceIte, Mg_31, Mr_19, hx, eh, i1, i2, n1, if_neg z0, if_neg z1]
    · refine comb0 (v := -1000000001) R ?_ ?_
      · rw [E101]
        simp only [S101_0, S101_1, S101_2, S101_3, S101_6, S101_9, S101_10, S101_11, S101_12, S101_15, S101_18, S101_20, S101_21, S101_22, S101_25, S101_26, S101_27, S101_28, S101_29, S101_32, S101_35, S101_37, S101_38, S101_39, S101_42, S101_43, S101_46, S101_47, S101_50, S101_51, S101_54, S101_57, S101_59, S101_60, S101_61, S101_64, S101_65, S101_68, S101_69, S101_72, S101_75, Option.bind_some, Option.map_some, xpush_s, xpush_n, xcat_0, xcat_i, xcat_r, xcat_l, xcat_n, xcat_e, xir_r, Nat.reduceAdd, Nat.reduceLeDiff, Nat.zero_le, Nat.le_refl, ↓reduceIte, n1, o1, ou_t _ _ (n := 5) (N := 5) rfl (by decide) c2]
      · rw [E190]
        simp only [S190_0, S190_1, S190_2, S190_3, S190_6, S190_9, S190_12, S190_13, S190_14, S190_15, S190_18, S190_21, S190_24, S190_26, S190_27, S190_28, S190_31, S190_32, S190_33, S190_36, S190_38, S190_39, S190_40, S190_43, S190_44, S190_45, S190_46, S190_49, S190_50, S190_53, S190_54, S190_55, S190_56, S190_59, S190_62, S190_63, S190_66, S190_67, S190_68, S190_71, S190_73, Option.bind_some, Option.map_some, xpush_s, xpush_n, xcat_0, xcat_i, xcat_r, xcat_l, xcat_n, xcat_e, xir_r, Nat.reduceAdd, Nat.reduceLeDiff, Nat.zero_le, Nat.le_refl, ↓reduceIte, n1, i1, in_f _ _ (n := 5) (N := 5) rfl (by decide) c2]
  · refine comb0 (v := -1000000001) R ?_ ?_
    · rw [E101]
      simp only [S101_0, S101_1, S101_2, S101_3, S101_6, S101_9, S101_10, S101_11, S101_12, S101_15, S101_18, S101_20, S101_21, S101_22, S101_25, S101_26, S101_27, S101_28, S101_29, S101_32, S101_35, S101_37, S101_38, S101_39, S101_42, S101_43, S101_46, S101_47, S101_50, S101_51, S101_54, S101_57, S101_59, S101_60, S101_61, S101_64, S101_65, S101_68, S101_69, S101_72, S101_75, Option.bind_some, Option.map_some, xpush_s, xpush_n, xcat_0, xcat_i, xcat_r, xcat_l, xcat_n, xcat_e, xir_r, Nat.reduceAdd, Nat.reduceLeDiff, Nat.zero_le, Nat.le_refl, ↓reduceIte, n1, ou_t _ _ (n := 4) (N := 4) rfl (by decide) c1]
    · rw [E190]
      simp only [S190_0, S190_1, S190_2, S190_3, S190_6, S190_9, S190_12, S190_13, S190_14, S190_15, S190_18, S190_21, S190_24, S190_26, S190_27, S190_28, S190_31, S190_32, S190_33, S190_36, S190_38, S190_39, S190_40, S190_43, S190_44, S190_45, S190_46, S190_49, S190_50, S190_53, S190_54, S190_55, S190_56, S190_59, S190_62, S190_63, S190_66, S190_67, S190_68, S190_71, S190_73, Option.bind_some, Option.map_some, xpush_s, xpush_n, xcat_0, xcat_i, xcat_r, xcat_l, xcat_n, xcat_e, xir_r, Nat.reduceAdd, Nat.reduceLeDiff, Nat.zero_le, Nat.le_refl, ↓reduceIte, n1, in_f _ _ (n := 4) (N := 4) rfl (by decide) c1]
theorem cR_n {c x y : Int32} (h : cR c x y) : (y = 1 ∧ c = x ∧ ¬ c = -1000000005) ∨ (y = 0 ∧ c = -1000000005) := by
  rcases h with ⟨h1, h2, h3, h4⟩ | h
  · refine Or.inl ⟨h1, h2, fun e => ?_⟩
    rw [← h2, e] at h3
    exact absurd h3 (by decide)
  · exact Or.inr h
theorem k_item (x y : Int32) : CL 102 191 [.int x, .int y] := by
  intro d m h hI
  obtain ⟨δ, τ1, ε, τ2, ζ, τ3, κ, n, l, ke, op, sz, B, S, b, a, s, w, X, rfl, R⟩ := hI
  have hw := R.1
  have hmo := R.2.1
  have ha1 := R.2.2.1
  have hmd := fun Z => md_of (s := s) (w := w) (Z := Z) ha1
  have n1 : ¬ (1 : Int32) = 0 := by decide
  by_cases c1 : bd x 4
  · have o1 := fun d h => ou_f d h (v := x) (n := 4) (N := 4) rfl (by decide) c1
    have i1 := fun d h => in_t d h (v := x) (n := 4) (N := 4) rfl (by decide) c1
    obtain ⟨i, hi, rfl⟩ := c1
    obtain ⟨r1, ⟨h, hh, eh⟩, -, r4, -⟩ := R.2.2.2.2.2.2.2.1 i (by omega)
    have hs := sl_i (show i < 5 by omega)
    have hq := rw_l (show i < 5 by omega)
    have hx := xix_n (show i < 5 by omega) (show 5 ≤ 100000 by decide)
    rw [eh] at r1 r4
    rcases (show h = 0 ∨ h = 2 ∨ (h ≠ 0 ∧ h ≠ 2) by omega) with rfl | rfl | hb
    · refine comb0 (v := -1000000011) R ?_ ?_
      · rw [E102]
        simp only [S102_0, S102_1, S102_2, S102_3, S102_6, S102_9, S102_11, S102_12, S102_13, S102_16, S102_17, S102_18, S102_19, S102_20, S102_23, S102_26, S102_28, S102_29, S102_30, S102_33, S102_34, S102_37, S102_39, S102_40, S102_41, S102_44, S102_45, S102_48, S102_51, S102_53, S102_54, S102_55, S102_58, S102_59, S102_62, S102_65, S102_66, S102_69, S102_72, S102_73, S102_74, S102_77, S102_79, Option.bind_some, Option.map_some, xpush_s, xpush_n, xcat_0, xcat_i, xcat_r, xcat_l, xcat_n, xcat_e, xir_r, Nat.reduceAdd, Nat.reduceLeDiff, Nat.zero_le, Nat.le_refl, ↓reduceIte, C_7, C_q33 (show i < 5 by omega), L_g0 hs, r1, o1, show (nI 0 = 0) = True from eq_true rfl]
      · rw [E191]
        simp only [S191_0, S191_1, S191_2, S191_3, S191_6, S191_9, S191_12, S191_14, S191_15, S191_16, S191_19, S191_20, S191_21, S191_24, S191_26, S191_27, S191_28, S191_31, S191_32, S191_33, S191_34, S191_37, S191_39, S191_40, S191_41, S191_42, S191_43, S191_44, S191_47, S191_48, S191_49, S191_50, S191_51, S191_52, S191_55, S191_58, S191_61, S191_62, S191_63, S191_66, S191_68, S191_69, S191_70, S191_71, S191_72, S191_73, S191_76, S191_77, S191_80, S191_82, S191_83, S191_84, S191_85, S191_86, S191_87, S191_90, S191_92, Option.bind_some, Option.map_some, xpush_s, xpush_n, xcat_0, xcat_i, xcat_r, xcat_l, xcat_n, xcat_e, xir_r, Nat.reduceAdd, Nat.reduceLeDiff, Nat.zero_le, Nat.le_refl, ↓reduceIte, Mg_31, Mr_19, hx, eh, i1, n1, show (nI 0 = 0) = True from eq_true rfl]
    · obtain ⟨q1, ⟨z, hz, ez⟩, q3⟩ := r4 rfl
      rw [ez] at q1
      by_cases c2 : ix y z
      · have hl : bi (y < 0 ∨ b (43 + 3 * i + 1) 1 - 1 < y) = 0 := bi_f (by rw [q1]; exact fun q => (ix_o (by omega)).mp q c2)
        have il : bi (0 ≤ y.toInt64 ∧ y.toInt64 ≤ (nI z - 1).toInt64) = 1 := bi_t (by rw [show (0 : Int64) = (0 : Int32).toInt64 from rfl, l_le, l_le]; exact (ix_e (by omega)).mpr c2)
        obtain ⟨j, hj, rfl⟩ := c2
        have hj24 : j < 24 := by omega
        have hxj := xix_n (show 24 * i + j < 120 by omega) (show 120 ≤ 100000 by decide)
        rcases cR_n (q3 j hj24) with ⟨p1, p2, p3⟩ | ⟨p1, p2⟩
        · have hb1 : bi (¬ a 23 (24 * i + j) = -1000000005) = 1 := bi_t (by rw [← p2]; exact p3)
          refine comb0 (v := a 23 (24 * i + j)) R ?_ ?_
          · rw [E102]
            simp only [S102_0, S102_1, S102_2, S102_3, S102_6, S102_9, S102_11, S102_12, S102_13, S102_16, S102_17, S102_18, S102_19, S102_20, S102_23, S102_26, S102_28, S102_29, S102_30, S102_33, S102_34, S102_37, S102_39, S102_40, S102_41, S102_44, S102_45, S102_48, S102_51, S102_53, S102_54, S102_55, S102_58, S102_59, S102_62, S102_65, S102_66, S102_69, S102_72, S102_73, S102_74, S102_77, S102_79, Option.bind_some, Option.map_some, xpush_s, xpush_n, xcat_0, xcat_i, xcat_r, xcat_l, xcat_n, xcat_e, xir_r, Nat.reduceAdd, Nat.reduceLeDiff, Nat.zero_le, Nat.le_refl, ↓reduceIte, C_7, C_q33 (show i < 5 by omega), L_g0 hs, L_g5 hs, r1, o1, show ¬ nI 2 = 0 by decide, show (nI 2 = 2) = True from eq_true rfl, W_cls hq, w_lacks _ hq, hl, w_has _ hq hj24 hl, hb1, n1, W_g2 hq, W_r hq, xix_n hj24 (show 24 ≤ 100000 by decide), p2]
          · rw [E191]
            simp only [S191_0, S191_1, S191_2, S191_3, S191_6, S191_9, S191_12, S191_14, S191_15, S191_16, S191_19, S191_20, S191_21, S191_24, S191_26, S191_27, S191_28, S191_31, S191_32, S191_33, S191_34, S191_37, S191_39, S191_40, S191_41, S191_42, S191_43, S191_44, S191_47, S191_48, S191_49, S191_50, S191_51, S191_52, S191_55, S191_58, S191_61, S191_62, S191_63, S191_66, S191_68, S191_69, S191_70, S191_71, S191_72, S191_73, S191_76, S191_77, S191_80, S191_82, S191_83, S191_84, S191_85, S191_86, S191_87, S191_90, S191_92, Option.bind_some, Option.map_some, xpush_s, xpush_n, xcat_0, xcat_i, xcat_r, xcat_l, xcat_n, xcat_e, xir_r, Nat.reduceAdd, Nat.reduceLeDiff, Nat.zero_le, Nat.le_refl, ↓reduceIte, Mg_31, Mg_34, Mg_35, Mg_36, Mr_19, Mr_22, Mr_23, Mr_24, hx, eh, ez, i1, n1, show ¬ nI 2 = 0 by decide, show (nI 2 = 2) = True from eq_true rfl, s_in, il, ix24, hxj, p1]
        · have hb1 : bi (¬ b (43 + 3 * i + 1 + 1) j = -1000000005) = 0 := bi_f (fun z => z p2)
          refine comb0 (v := -1000000012) R ?_ ?_
          · rw [E102]
            simp only [S102_0, S102_1, S102_2, S102_3, S102_6, S102_9, S102_11, S102_12, S102_13, S102_16, S102_17, S102_18, S102_19, S102_20, S102_23, S102_26, S102_28, S102_29, S102_30, S102_33, S102_34, S102_37, S102_39, S102_40, S102_41, S102_44, S102_45, S102_48, S102_51, S102_53, S102_54, S102_55, S102_58, S102_59, S102_62, S102_65, S102_66, S102_69, S102_72, S102_73, S102_74, S102_77, S102_79, Option.bind_some, Option.map_some, xpush_s, xpush_n, xcat_0, xcat_i, xcat_r, xcat_l, xcat_n, xcat_e, xir_r, Nat.reduceAdd, Nat.reduceLeDiff, Nat.zero_le, Nat.le_refl, ↓reduceIte, C_7, C_q33 (show i < 5 by omega), L_g0 hs, L_g5 hs, r1, o1, show ¬ nI 2 = 0 by decide, show (nI 2 = 2) = True from eq_true rfl, W_cls hq, w_lacks _ hq, hl, w_has _ hq hj24 hl, hb1]
          · rw [E191]
            simp only [S191_0, S191_1, S191_2, S191_3, S191_6, S191_9, S191_12, S191_14, S191_15, S191_16, S191_19, S191_20, S191_21, S191_24, S191_26, S191_27, S191_28, S191_31, S191_32, S191_33, S191_34, S191_37, S191_39, S191_40, S191_41, S191_42, S191_43, S191_44, S191_47, S191_48, S191_49, S191_50, S191_51, S191_52, S191_55, S191_58, S191_61, S191_62, S191_63, S191_66, S191_68, S191_69, S191_70, S191_71, S191_72, S191_73, S191_76, S191_77, S191_80, S191_82, S191_83, S191_84, S191_85, S191_86, S191_87, S191_90, S191_92, Option.bind_some, Option.map_some, xpush_s, xpush_n, xcat_0, xcat_i, xcat_r, xcat_l, xcat_n, xcat_e, xir_r, Nat.reduceAdd, Nat.reduceLeDiff, Nat.zero_le, Nat.le_refl, ↓reduceIte, Mg_31, Mg_34, Mg_35, Mg_36, Mr_19, Mr_22, Mr_23, Mr_24, hx, eh, ez, i1, n1, show ¬ nI 2 = 0 by decide, show (nI 2 = 2) = True from eq_true rfl, s_in, il, ix24, hxj, p1]
      · have hl : bi (y < 0 ∨ b (43 + 3 * i + 1) 1 - 1 < y) = 1 := bi_t (by rw [q1]; exact (ix_o (by omega)).mpr c2)
        have il : bi (0 ≤ y.toInt64 ∧ y.toInt64 ≤ (nI z - 1).toInt64) = 0 := bi_f (by rw [show (0 : Int64) = (0 : Int32).toInt64 from rfl, l_le, l_le]; exact fun q => c2 ((ix_e (by omega)).mp q))
        refine comb0 (v := -1000000013) R ?_ ?_
        · rw [E102]
          simp only [S102_0, S102_1, S102_2, S102_3, S102_6, S102_9, S102_11, S102_12, S102_13, S102_16, S102_17, S102_18, S102_19, S102_20, S102_23, S102_26, S102_28, S102_29, S102_30, S102_33, S102_34, S102_37, S102_39, S102_40, S102_41, S102_44, S102_45, S102_48, S102_51, S102_53, S102_54, S102_55, S102_58, S102_59, S102_62, S102_65, S102_66, S102_69, S102_72, S102_73, S102_74, S102_77, S102_79, Option.bind_some, Option.map_some, xpush_s, xpush_n, xcat_0, xcat_i, xcat_r, xcat_l, xcat_n, xcat_e, xir_r, Nat.reduceAdd, Nat.reduceLeDiff, Nat.zero_le, Nat.le_refl, ↓reduceIte, C_7, C_q33 (show i < 5 by omega), L_g0 hs, L_g5 hs, r1, o1, show ¬ nI 2 = 0 by decide, show (nI 2 = 2) = True from eq_true rfl, W_cls hq, w_lacks _ hq, hl, n1]
        · rw [E191]
          simp only [S191_0, S191_1, S191_2, S191_3, S191_6, S191_9, S191_12, S191_14, S191_15, S191_16, S191_19, S191_20, S191_21, S191_24, S191_26, S191_27, S191_28, S191_31, S191_32, S191_33, S191_34, S191_37, S191_39, S191_40, S191_41, S191_42, S191_43, S191_44, S191_47, S191_48, S191_49, S191_50, S191_51, S191_52, S191_55, S191_58, S191_61, S191_62, S191_63, S191_66, S191_68, S191_69, S191_70, S191_71, S191_72, S191_73, S191_76, S191_77, S191_80, S191_82, S191_83, S191_84, S191_85, S191_86, S191_87, S191_90, S191_92, Option.bind_some, Option.map_some, xpush_s, xpush_n, xcat_0, xcat_i, xcat_r, xcat_l, xcat_n, xcat_e, xir_r, Nat.reduceAdd, Nat.reduceLeDiff, Nat.zero_le, Nat.le_refl, ↓reduceIte, Mg_31, Mg_34, Mr_19, Mr_22, hx, eh, ez, i1, n1, show ¬ nI 2 = 0 by decide, show (nI 2 = 2) = True from eq_true rfl, s_in, il]
    · have z0 : ¬ nI h = 0 := fun q => by have := (nI_eq (b := 0) (by omega) (by decide)).mp q; omega
      have z2 : ¬ nI h = 2 := fun q => by have := (nI_eq (b := 2) (by omega) (by decide)).mp q; omega
      refine comb0 (v := -1000000012) R ?_ ?_
      · rw [E102]
        simp only [S102_0, S102_1, S102_2, S102_3, S102_6, S102_9, S102_11, S102_12, S102_13, S102_16, S102_17, S102_18, S102_19, S102_20, S102_23, S102_26, S102_28, S102_29, S102_30, S102_33, S102_34, S102_37, S102_39, S102_40, S102_41, S102_44, S102_45, S102_48, S102_51, S102_53, S102_54, S102_55, S102_58, S102_59, S102_62, S102_65, S102_66, S102_69, S102_72, S102_73, S102_74, S102_77, S102_79, Option.bind_some, Option.map_some, xpush_s, xpush_n, xcat_0, xcat_i, xcat_r, xcat_l, xcat_n, xcat_e, xir_r, Nat.reduceAdd, Nat.reduceLeDiff, Nat.zero_le, Nat.le_refl, ↓reduceIte, C_7, C_q33 (show i < 5 by omega), L_g0 hs, r1, o1, if_neg z0, if_neg z2]
      · rw [E191]
        simp only [S191_0, S191_1, S191_2, S191_3, S191_6, S191_9, S191_12, S191_14, S191_15, S191_16, S191_19, S191_20, S191_21, S191_24, S191_26, S191_27, S191_28, S191_31, S191_32, S191_33, S191_34, S191_37, S191_39, S191_40, S191_41, S191_42, S191_43, S191_44, S191_47, S191_48, S191_49, S191_50, S191_51, S191_52, S191_55, S191_58, S191_61, S191_62, S191_63, S191_66, S191_68, S191_69, S191_70, S191_71, S191_72, S191_73, S191_76, S191_77, S191_80, S191_82, S191_83, S191_84, S191_85, S191_86, S191_87, S191_90, S191_92, Option.bind_some, Option.map_some, xpush_s, xpush_n, xcat_0, xcat_i, xcat_r, xcat_l, xcat_n, xcat_e, xir_r, Nat.reduceAdd, Nat.reduceLeDiff, Nat.zero_le, Nat.le_refl, ↓reduceIte, Mg_31, Mr_19, hx, eh, i1, n1, if_neg z0, if_neg z2]
  · refine comb0 (v := -1000000001) R ?_ ?_
    · rw [E102]
      simp only [S102_0, S102_1, S102_2, S102_3, S102_6, S102_9, S102_11, S102_12, S102_13, S102_16, S102_17, S102_18, S102_19, S102_20, S102_23, S102_26, S102_28, S102_29, S102_30, S102_33, S102_34, S102_37, S102_39, S102_40, S102_41, S102_44, S102_45, S102_48, S102_51, S102_53, S102_54, S102_55, S102_58, S102_59, S102_62, S102_65, S102_66, S102_69, S102_72, S102_73, S102_74, S102_77, S102_79, Option.bind_some, Option.map_some, xpush_s, xpush_n, xcat_0, xcat_i, xcat_r, xcat_l, xcat_n, xcat_e, xir_r, Nat.reduceAdd, Nat.reduceLeDiff, Nat.zero_le, Nat.le_refl, ↓reduceIte, n1, ou_t _ _ (n := 4) (N := 4) rfl (by decide) c1]
    · rw [E191]
      simp only [S191_0, S191_1, S191_2, S191_3, S191_6, S191_9, S191_12, S191_14, S191_15, S191_16, S191_19, S191_20, S191_21, S191_24, S191_26, S191_27, S191_28, S191_31, S191_32, S191_33, S191_34, S191_37, S191_39, S191_40, S191_41, S191_42, S191_43, S191_44, S191_47, S191_48, S191_49, S191_50, S191_51, S191_52, S191_55, S191_58, S191_61, S191_62, S191_63, S191_66, S191_68, S191_69, S191_70, S191_71, S191_72, S191_73, S191_76, S191_77, S191_80, S191_82, S191_83, S191_84, S191_85, S191_86, S191_87, S191_90, S191_92, Option.bind_some, Option.map_some, xpush_s, xpush_n, xcat_0, xcat_i, xcat_r, xcat_l, xcat_n, xcat_e, xir_r, Nat.reduceAdd, Nat.reduceLeDiff, Nat.zero_le, Nat.le_refl, ↓reduceIte, n1, in_f _ _ (n := 4) (N := 4) rfl (by decide) c1]
theorem rem_m1 (x : Int32) : x - x / (-1) * (-1) = 0 := by
  rw [div_m1, Int32.zero_sub, Int32.neg_mul_neg, Int32.mul_one, Int32.sub_self]
theorem k_rest (x y : Int32) : CL 103 192 [.int x, .int y] := by
  intro d m h hI
  obtain ⟨δ, τ1, ε, τ2, ζ, τ3, κ, n, l, ke, op, sz, B, S, b, a, s, w, X, rfl, R⟩ := hI
  have hw := R.1
  have hmo := R.2.1
  have ha1 := R.2.2.1
  have hmd := fun Z => md_of (s := s) (w := w) (Z := Z) ha1
  have n1 : ¬ (1 : Int32) = 0 := by decide
  by_cases c1 : bd x 4
  · have o1 := fun d h => ou_f d h (v := x) (n := 4) (N := 4) rfl (by decide) c1
    have i1 := fun d h => in_t d h (v := x) (n := 4) (N := 4) rfl (by decide) c1
    obtain ⟨i, hi, rfl⟩ := c1
    obtain ⟨r1, ⟨h, hh, eh⟩, -, -, r5⟩ := R.2.2.2.2.2.2.2.1 i (by omega)
    have hs := sl_i (show i < 5 by omega)
    have hx := xix_n (show i < 5 by omega) (show 5 ≤ 100000 by decide)
    rw [eh] at r1 r5
    rcases (show h = 0 ∨ h = 3 ∨ (h ≠ 0 ∧ h ≠ 3) by omega) with rfl | rfl | hb
    · refine comb0 (v := -1000000011) R ?_ ?_
      · rw [E103]
        simp only [S103_0, S103_1, S103_2, S103_3, S103_6, S103_9, S103_11, S103_12, S103_13, S103_16, S103_17, S103_18, S103_19, S103_20, S103_23, S103_26, S103_28, S103_29, S103_30, S103_33, S103_34, S103_37, S103_39, S103_40, S103_41, S103_44, S103_47, S103_50, S103_51, S103_54, S103_55, S103_56, Option.bind_some, Option.map_some, xpush_s, xpush_n, xcat_0, xcat_i, xcat_r, xcat_l, xcat_n, xcat_e, xir_r, Nat.reduceAdd, Nat.reduceLeDiff, Nat.zero_le, Nat.le_refl, ↓reduceIte, C_7, C_q33 (show i < 5 by omega), L_g0 hs, r1, o1, show (nI 0 = 0) = True from eq_true rfl]
      · rw [E192]
        simp only [S192_0, S192_1, S192_2, S192_3, S192_6, S192_9, S192_12, S192_14, S192_15, S192_16, S192_19, S192_20, S192_21, S192_24, S192_26, S192_27, S192_28, S192_31, S192_32, S192_33, S192_34, S192_37, S192_39, S192_40, S192_41, S192_44, S192_47, S192_50, S192_51, S192_52, S192_55, S192_56, S192_59, S192_60, S192_63, S192_64, S192_65, S192_66, S192_67, Option.bind_some, Option.map_some, xpush_s, xpush_n, xcat_0, xcat_i, xcat_r, xcat_l, xcat_n, xcat_e, xir_r, Nat.reduceAdd, Nat.reduceLeDiff, Nat.zero_le, Nat.le_refl, ↓reduceIte, Mg_31, Mr_19, hx, eh, i1, n1, show (nI 0 = 0) = True from eq_true rfl]
    · have q5 := r5 rfl
      by_cases y0 : y = 0
      · refine comb0 (v := -1000000002) R ?_ ?_
        · rw [E103]
          simp only [S103_0, S103_1, S103_2, S103_3, S103_6, S103_9, S103_11, S103_12, S103_13, S103_16, S103_17, S103_18, S103_19, S103_20, S103_23, S103_26, S103_28, S103_29, S103_30, S103_33, S103_34, S103_37, S103_39, S103_40, S103_41, S103_44, S103_47, S103_50, S103_51, S103_54, S103_55, S103_56, Option.bind_some, Option.map_some, xpush_s, xpush_n, xcat_0, xcat_i, xcat_r, xcat_l, xcat_n, xcat_e, xir_r, Nat.reduceAdd, Nat.reduceLeDiff, Nat.zero_le, Nat.le_refl, ↓reduceIte, C_7, C_q33 (show i < 5 by omega), L_g0 hs, r1, o1, show ¬ nI 3 = 0 by decide, show (nI 3 = 3) = True from eq_true rfl, if_pos y0]
        · rw [E192]
          simp only [S192_0, S192_1, S192_2, S192_3, S192_6, S192_9, S192_12, S192_14, S192_15, S192_16, S192_19, S192_20, S192_21, S192_24, S192_26, S192_27, S192_28, S192_31, S192_32, S192_33, S192_34, S192_37, S192_39, S192_40, S192_41, S192_44, S192_47, S192_50, S192_51, S192_52, S192_55, S192_56, S192_59, S192_60, S192_63, S192_64, S192_65, S192_66, S192_67, Option.bind_some, Option.map_some, xpush_s, xpush_n, xcat_0, xcat_i, xcat_r, xcat_l, xcat_n, xcat_e, xir_r, Nat.reduceAdd, Nat.reduceLeDiff, Nat.zero_le, Nat.le_refl, ↓reduceIte, Mg_31, Mr_19, hx, eh, i1, n1, show ¬ nI 3 = 0 by decide, show (nI 3 = 3) = True from eq_true rfl, if_pos y0]
      · refine comb0 (v := a 20 i - a 20 i / y * y) R ?_ ?_
        · rw [E103]
          simp only [S103_0, S103_1, S103_2, S103_3, S103_6, S103_9, S103_11, S103_12, S103_13, S103_16, S103_17, S103_18, S103_19, S103_20, S103_23, S103_26, S103_28, S103_29, S103_30, S103_33, S103_34, S103_37, S103_39, S103_40, S103_41, S103_44, S103_47, S103_50, S103_51, S103_54, S103_55, S103_56, Option.bind_some, Option.map_some, xpush_s, xpush_n, xcat_0, xcat_i, xcat_r, xcat_l, xcat_n, xcat_e, xir_r, Nat.reduceAdd, Nat.reduceLeDiff, Nat.zero_le, Nat.le_refl, ↓reduceIte, C_7, C_q33 (show i < 5 by omega), L_g0 hs, L_g4 hs, r1, q5, o1, show ¬ nI 3 = 0 by decide, show (nI 3 = 3) = True from eq_true rfl, if_neg y0]
        · rw [E192]
          by_cases ym : y = -1
          · subst ym
            simp only [S192_0, S192_1, S192_2, S192_3, S192_6, S192_9, S192_12, S192_14, S192_15, S192_16, S192_19, S192_20, S192_21, S192_24, S192_26, S192_27, S192_28, S192_31, S192_32, S192_33, S192_34, S192_37, S192_39, S192_40, S192_41, S192_44, S192_47, S192_50, S192_51, S192_52, S192_55, S192_56, S192_59, S192_60, S192_63, S192_64, S192_65, S192_66, S192_67, Option.bind_some, Option.map_some, xpush_s, xpush_n, xcat_0, xcat_i, xcat_r, xcat_l, xcat_n, xcat_e, xir_r, Nat.reduceAdd, Nat.reduceLeDiff, Nat.zero_le, Nat.le_refl, ↓reduceIte, Mg_31, Mr_19, hx, eh, i1, n1, show ¬ nI 3 = 0 by decide, show (nI 3 = 3) = True from eq_true rfl, if_neg y0, rem_m1]
          · simp only [S192_0, S192_1, S192_2, S192_3, S192_6, S192_9, S192_12, S192_14, S192_15, S192_16, S192_19, S192_20, S192_21, S192_24, S192_26, S192_27, S192_28, S192_31, S192_32, S192_33, S192_34, S192_37, S192_39, S192_40, S192_41, S192_44, S192_47, S192_50, S192_51, S192_52, S192_55, S192_56, S192_59, S192_60, S192_63, S192_64, S192_65, S192_66, S192_67, Option.bind_some, Option.map_some, xpush_s, xpush_n, xcat_0, xcat_i, xcat_r, xcat_l, xcat_n, xcat_e, xir_r, Nat.reduceAdd, Nat.reduceLeDiff, Nat.zero_le, Nat.le_refl, ↓reduceIte, Mg_31, Mg_32, Mr_19, Mr_20, hx, eh, i1, n1, show ¬ nI 3 = 0 by decide, show (nI 3 = 3) = True from eq_true rfl, if_neg y0, if_neg ym]
    · have z0 : ¬ nI h = 0 := fun q => by have := (nI_eq (b := 0) (by omega) (by decide)).mp q; omega
      have z2 : ¬ nI h = 3 := fun q => by have := (nI_eq (b := 3) (by omega) (by decide)).mp q; omega
      refine comb0 (v := -1000000012) R ?_ ?_
      · rw [E103]
        simp only [S103_0, S103_1, S103_2, S103_3, S103_6, S103_9, S103_11, S103_12, S103_13, S103_16, S103_17, S103_18, S103_19, S103_20, S103_23, S103_26, S103_28, S103_29, S103_30, S103_33, S103_34, S103_37, S103_39, S103_40, S103_41, S103_44, S103_47, S103_50, S103_51, S103_54, S103_55, S103_56, Option.bind_some, Option.map_some, xpush_s, xpush_n, xcat_0, xcat_i, xcat_r, xcat_l, xcat_n, xcat_e, xir_r, Nat.reduceAdd, Nat.reduceLeDiff, Nat.zero_le, Nat.le_refl, ↓reduceIte, C_7, C_q33 (show i < 5 by omega), L_g0 hs, r1, o1, if_neg z0, if_neg z2]
      · rw [E192]
        simp only [S192_0, S192_1, S192_2, S192_3, S192_6, S192_9, S192_12, S192_14, S192_15, S192_16, S192_19, S192_20, S192_21, S192_24, S192_26, S192_27, S192_28, S192_31, S192_32, S192_33, S192_34, S192_37, S192_39, S192_40, S192_41, S192_44, S192_47, S192_50, S192_51, S192_52, S192_55, S192_56, S192_59, S192_60, S192_63, S192_64, S192_65, S192_66, S192_67, Option.bind_some, Option.map_some, xpush_s, xpush_n, xcat_0, xcat_i, xcat_r, xcat_l, xcat_n, xcat_e, xir_r, Nat.reduceAdd, Nat.reduceLeDiff, Nat.zero_le, Nat.le_refl, ↓reduceIte, Mg_31, Mr_19, hx, eh, i1, n1, if_neg z0, if_neg z2]
  · refine comb0 (v := -1000000001) R ?_ ?_
    · rw [E103]
      simp only [S103_0, S103_1, S103_2, S103_3, S103_6, S103_9, S103_11, S103_12, S103_13, S103_16, S103_17, S103_18, S103_19, S103_20, S103_23, S103_26, S103_28, S103_29, S103_30, S103_33, S103_34, S103_37, S103_39, S103_40, S103_41, S103_44, S103_47, S103_50, S103_51, S103_54, S103_55, S103_56, Option.bind_some, Option.map_some, xpush_s, xpush_n, xcat_0, xcat_i, xcat_r, xcat_l, xcat_n, xcat_e, xir_r, Nat.reduceAdd, Nat.reduceLeDiff, Nat.zero_le, Nat.le_refl, ↓reduceIte, n1, ou_t _ _ (n := 4) (N := 4) rfl (by decide) c1]
    · rw [E192]
      simp only [S192_0, S192_1, S192_2, S192_3, S192_6, S192_9, S192_12, S192_14, S192_15, S192_16, S192_19, S192_20, S192_21, S192_24, S192_26, S192_27, S192_28, S192_31, S192_32, S192_33, S192_34, S192_37, S192_39, S192_40, S192_41, S192_44, S192_47, S192_50, S192_51, S192_52, S192_55, S192_56, S192_59, S192_60, S192_63, S192_64, S192_65, S192_66, S192_67, Option.bind_some, Option.map_some, xpush_s, xpush_n, xcat_0, xcat_i, xcat_r, xcat_l, xcat_n, xcat_e, xir_r, Nat.reduceAdd, Nat.reduceLeDiff, Nat.zero_le, Nat.le_refl, ↓reduceIte, n1, in_f _ _ (n := 4) (N := 4) rfl (by decide) c1]

theorem k_keep : CL 107 195 [] := by
  intro d m h hI
  obtain ⟨δ, τ1, ε, τ2, ζ, τ3, κ, n, l, ke, op, sz, B, S, b, a, s, w, X, rfl, R⟩ := hI
  have hw := R.1
  have hmo := R.2.1
  have ha1 := R.2.2.1
  have hmd := fun Z => md_of (s := s) (w := w) (Z := Z) ha1
  have n1 : ¬ (1 : Int32) = 0 := by decide
  obtain ⟨r1, r2, r3, r4, r5, r6, r7, r8, r9, r10, r11, r12, r13⟩ := R
  obtain ⟨τ, hE, e1⟩ := G_b10_1 (δ := δ) (τ1 := τ1) (ε := ε) (τ2 := τ2) (ζ := ζ) (τ3 := τ3) (κ := κ) (n := n) (l := l) (ke := ke) (op := op) (sz := sz) (B := B) (S := S) (b := b) (H := mh a s w X) (d + 198) hi_mh r4.1
  have e7 := bd_e hw.texts (by decide)
  have hT : TXT X (va_up (va_up (va_up a 2 δ) 1 δ) 9 (a 9)) τ1 (nn (δ 7)) := TXT_a (by rw [vaj _ _ _ (by decide) (by decide), vu_n _ _ (by decide)]) (by rw [vaj _ _ _ (by decide) (by decide), vu_n _ _ (by decide)]) (by rw [vaj _ _ _ (by decide) (by decide), vu_n _ _ (by decide)]) (by rw [vaj _ _ _ (by decide) (by decide), vu_n _ _ (by decide)]) r4
  have hj : ∀ j, j ≠ 1 → j ≠ 9 → j ≠ 2 → va_up (va_up (va_up a 2 δ) 1 δ) 9 (a 9) j = a j := fun j h1 h9 h2 => by rw [vaj _ _ _ h1 h9, vu_n _ _ h2]
  have h2 : va_up (va_up (va_up a 2 δ) 1 δ) 9 (a 9) 2 = δ := by rw [vaj _ _ _ (by decide) (by decide), vu_s]
  refine ⟨δ 0, cG δ τ1 δ τ ζ τ3 κ n l ke op sz B S (va_up b 0 (upd (b 0) 3 1)) (mh a s w X), mh (va_up (va_up (va_up a 2 δ) 1 δ) 9 (a 9)) (upd s 4 1) w (cG δ τ1 δ τ ζ τ3 κ n l ke op sz B S (va_up b 0 (upd (b 0) 3 1)) X), ?_, ?_, INV_i ⟨hw, hmo, va1 _ _ _, hT, ⟨by rw [vu_s, up_s, up_s], Or.inr ⟨up_s _ _ _, h2.symm, by rw [h2]; exact hw, by rw [h2]; exact hmo, by rw [h2]; exact Nat.le_refl _, by rw [h2]; exact TXT_E hE e7.2 hT⟩⟩, ⟨by rw [up_n _ _ (by decide)]; exact r6.1, r6.2.1, by rw [hj 10 (by decide) (by decide) (by decide)]; exact r6.2.2⟩, RS_e (hj _ (by decide) (by decide) (by decide)) (hj _ (by decide) (by decide) (by decide)) (hj _ (by decide) (by decide) (by decide)) (hj _ (by decide) (by decide) (by decide)) (fun q h1 h2 => vu_n _ _ (by omega)) r7, RL_e (hj _ (by decide) (by decide) (by decide)) (hj _ (by decide) (by decide) (by decide)) (hj _ (by decide) (by decide) (by decide)) (hj _ (by decide) (by decide) (by decide)) (hj _ (by decide) (by decide) (by decide)) (hj _ (by decide) (by decide) (by decide)) (fun q h1 h2 => vu_n _ _ (by omega)) r8, ⟨by rw [vu_s, up_n _ _ (by decide), up_n _ _ (by decide)]; exact r9.1, by rw [up_n _ _ (by decide)]; exact r9.2.1, by rw [vu_n _ _ (by decide), hj 25 (by decide) (by decide) (by decide)]; exact r9.2.2⟩, by rw [h2]; exact hw.z, by rw [hj 3 (by decide) (by decide) (by decide)]; exact r11, by rw [hj 4 (by decide) (by decide) (by decide)]; exact r12, RX_s r13⟩, rfl, rfl, rfl⟩
  · rw [E107]
    simp only [S107_0, S107_1, S107_4, S107_5, S107_8, S107_11, S107_12, S107_13, S107_16, S107_17, S107_20, S107_23, Option.bind_some, Option.map_some, xpush_s, xpush_n, xcat_0, xcat_i, xcat_r, xcat_l, xcat_n, xcat_e, xir_r, Nat.reduceAdd, Nat.reduceLeDiff, Nat.zero_le, Nat.le_refl, ↓reduceIte, C_0, C_1, I_cls, e1, or_true, C_p3, I_g1]
  · have hcp := fun d Z => m_cpi (a := a) (δ := δ) (κ := a 9) (s := s) (w := w) (H := Z) d (j := 2) (Or.inl rfl) hw.z r10
    rw [show 58 + 2 = 60 from rfl] at hcp
    have hp4 : ∀ Z x, hpf (md (va_up a 2 δ) δ (a 9) s w Z) (.ref 58) 6 4 (.int x) = some (md (va_up a 2 δ) δ (a 9) (upd s 4 x) w Z) := fun Z x => Mp_4 x
    rw [cG_mh, hmd, E195]
    simp only [S195_0, S195_1, S195_4, S195_5, S195_8, S195_11, S195_12, S195_13, S195_16, S195_17, S195_20, S195_21, S195_22, Option.bind_some, Option.map_some, xpush_s, xpush_n, xcat_0, xcat_i, xcat_r, xcat_l, xcat_n, xcat_e, xir_r, Nat.reduceAdd, Nat.reduceLeDiff, Nat.zero_le, Nat.le_refl, ↓reduceIte, Dg, Dg2, hcp, or_true, hp4, Dr, ix_0]
    rfl
theorem k_back : CL 108 196 [] := by
  intro d m h hI
  obtain ⟨δ, τ1, ε, τ2, ζ, τ3, κ, n, l, ke, op, sz, B, S, b, a, s, w, X, rfl, R⟩ := hI
  have hw := R.1
  have hmo := R.2.1
  have ha1 := R.2.2.1
  have hmd := fun Z => md_of (s := s) (w := w) (Z := Z) ha1
  have n1 : ¬ (1 : Int32) = 0 := by decide
  obtain ⟨r1, r2, r3, r4, r5, r6, r7, r8, r9, r10, r11, r12, r13⟩ := id R
  obtain ⟨k1, k2⟩ := r5
  have hg4 : ∀ Z, hgf (md a δ (a 9) s w Z) (.ref 58) 6 4 = some (.int (s 4)) := fun Z => rfl
  rcases k2 with k0 | ⟨q1, q2, q3, q4, q5, q6⟩
  · refine comb0 (v := -1000000002) R ?_ ?_
    · rw [E108]
      simp only [S108_0, S108_1, S108_4, S108_7, S108_10, S108_11, S108_12, S108_15, S108_16, S108_19, S108_22, S108_23, S108_26, S108_29, Option.bind_some, Option.map_some, xpush_s, xpush_n, xcat_0, xcat_i, xcat_r, xcat_l, xcat_n, xcat_e, xir_r, Nat.reduceAdd, Nat.reduceLeDiff, Nat.zero_le, Nat.le_refl, ↓reduceIte, C_3, k1, k0]
    · rw [hmd, E196]
      simp only [S196_0, S196_1, S196_4, S196_7, S196_10, S196_11, S196_12, S196_15, S196_16, S196_19, S196_22, S196_23, S196_26, S196_27, S196_28, Option.bind_some, Option.map_some, xpush_s, xpush_n, xcat_0, xcat_i, xcat_r, xcat_l, xcat_n, xcat_e, xir_r, Nat.reduceAdd, Nat.reduceLeDiff, Nat.zero_le, Nat.le_refl, ↓reduceIte, hg4, k0]
  · subst q2
    obtain ⟨τ, hE, e1⟩ := G_b1_10 (δ := δ) (τ1 := τ1) (ε := a 2) (τ2 := τ2) (ζ := ζ) (τ3 := τ3) (κ := κ) (n := n) (l := l) (ke := ke) (op := op) (sz := sz) (B := B) (S := S) (b := b) (H := mh a s w X) (d + 198) hi_mh q6.1
    have e7 := bd_e q3.texts (by decide)
    have hj : ∀ j, j ≠ 1 → j ≠ 9 → va_up (va_up a 1 (a 2)) 9 (a 9) j = a j := fun j h1 h9 => vaj _ _ _ h1 h9
    have hT : TXT X (va_up (va_up a 1 (a 2)) 9 (a 9)) τ2 (nn (a 2 7)) := TXT_a (hj _ (by decide) (by decide)) (hj _ (by decide) (by decide)) (hj _ (by decide) (by decide)) (hj _ (by decide) (by decide)) q6
    refine ⟨a 2 0, cG (a 2) τ (a 2) τ2 ζ τ3 κ n l ke op sz B S b (mh a s w X), mh (va_up (va_up a 1 (a 2)) 9 (a 9)) s w (cG (a 2) τ (a 2) τ2 ζ τ3 κ n l ke op sz B S b X), ?_, ?_, INV_i ⟨q3, q4, va1 _ _ _, TXT_E hE e7.2 hT, ⟨k1, Or.inr ⟨q1, (hj 2 (by decide) (by decide)).symm, by rw [hj 2 (by decide) (by decide)]; exact q3, by rw [hj 2 (by decide) (by decide)]; exact q4, by rw [hj 2 (by decide) (by decide)]; exact Nat.le_refl _, by rw [hj 2 (by decide) (by decide)]; exact hT⟩⟩, ⟨r6.1, r6.2.1, by rw [hj 10 (by decide) (by decide)]; exact r6.2.2⟩, RS_e (hj _ (by decide) (by decide)) (hj _ (by decide) (by decide)) (hj _ (by decide) (by decide)) (hj _ (by decide) (by decide)) (fun q h1 h2 => rfl) r7, RL_e (hj _ (by decide) (by decide)) (hj _ (by decide) (by decide)) (hj _ (by decide) (by decide)) (hj _ (by decide) (by decide)) (hj _ (by decide) (by decide)) (hj _ (by decide) (by decide)) (fun q h1 h2 => rfl) r8, ⟨r9.1, r9.2.1, by rw [hj 25 (by decide) (by decide)]; exact r9.2.2⟩, by rw [hj 2 (by decide) (by decide)]; exact r10, by rw [hj 3 (by decide) (by decide)]; exact r11, by rw [hj 4 (by decide) (by decide)]; exact r12, RX_s r13⟩, rfl, rfl, rfl⟩
    · rw [E108]
      simp only [S108_0, S108_1, S108_4, S108_7, S108_10, S108_11, S108_12, S108_15, S108_16, S108_19, S108_22, S108_23, S108_26, S108_29, Option.bind_some, Option.map_some, xpush_s, xpush_n, xcat_0, xcat_i, xcat_r, xcat_l, xcat_n, xcat_e, xir_r, Nat.reduceAdd, Nat.reduceLeDiff, Nat.zero_le, Nat.le_refl, ↓reduceIte, C_3, k1, q1, n1, C_0, C_1, N_cls, e1, N_g1]
    · have hcp := fun d Z => m_cpo (a := a) (δ := δ) (κ := a 9) (s := s) (w := w) (H := Z) d (j := 2) (Or.inl rfl) hw.z r10
      rw [show 58 + 2 = 60 from rfl] at hcp
      rw [cG_mh, hmd, E196]
      simp only [S196_0, S196_1, S196_4, S196_7, S196_10, S196_11, S196_12, S196_15, S196_16, S196_19, S196_22, S196_23, S196_26, S196_27, S196_28, Option.bind_some, Option.map_some, xpush_s, xpush_n, xcat_0, xcat_i, xcat_r, xcat_l, xcat_n, xcat_e, xir_r, Nat.reduceAdd, Nat.reduceLeDiff, Nat.zero_le, Nat.le_refl, ↓reduceIte, hg4, q1, n1, Dg, Dg2, hcp, Dr, ix_0]
      rfl

section TXA
variable {δ ε ζ : Nat → Int32} {τ1 τ2 τ3 : xt} {κ : Nat → Nat → Int32} {n : Nat} {l : lk} {ke op sz : Int32} {B S : Nat → Int32} {b : Nat → Nat → Int32} {H X : xh}
theorem G_tx_t (d : Nat) (hw : wf δ) {t p : Nat} (ht : t < nn (δ 7)) (hp : τ1.1 t = some p) : Ev (d + 2) 24 [.ref 1, .int (nI t)] (cG δ τ1 ε τ2 ζ τ3 κ n l ke op sz B S b H) = some (some (.ref p), cG δ τ1 ε τ2 ζ τ3 κ n l ke op sz B S b H) := by
  have e7 := bd_e hw.texts (by decide)
  have h0 : bi (nI t < 0 ∨ δ 7 - 1 < nI t) = 0 := bi_f (by rw [e7.1]; exact fun q => (ix_o (by omega)).mp q ⟨t, ht, rfl⟩)
  have hq := N_q6 (δ := δ) (τ1 := τ1) (ε := ε) (τ2 := τ2) (ζ := ζ) (τ3 := τ3) (κ := κ) (n := n) (l := l) (ke := ke) (op := op) (sz := sz) (B := B) (S := S) (b := b) (H := H) (i := t) (by omega)
  rw [hp] at hq
  rw [E24]
  simp only [S24_0, S24_1, S24_2, S24_3, S24_6, S24_7, S24_8, S24_11, S24_14, S24_15, S24_18, S24_19, S24_22, S24_23, S24_24, S24_24n, Option.bind_some, Option.map_some, xpush_s, xpush_n, xcat_0, xcat_i, xcat_r, xcat_l, xcat_n, xcat_e, xir_r, Nat.reduceAdd, Nat.reduceLeDiff, Nat.zero_le, Nat.le_refl, ↓reduceIte, N_g12, N_g13, s_outside, h0, hq, va_rf]
theorem G_tx_f (d : Nat) (hw : wf δ) {v : Int32} (hv : ¬ ix v (nn (δ 7))) : Ev (d + 2) 24 [.ref 1, .int v] (cG δ τ1 ε τ2 ζ τ3 κ n l ke op sz B S b H) = some (some .null, cG δ τ1 ε τ2 ζ τ3 κ n l ke op sz B S b H) := by
  have e7 := bd_e hw.texts (by decide)
  have h0 : bi (v < 0 ∨ δ 7 - 1 < v) = 1 := bi_t (by rw [e7.1]; exact (ix_o (by omega)).mpr hv)
  rw [E24]
  simp only [S24_0, S24_1, S24_2, S24_3, S24_6, S24_7, S24_8, S24_11, S24_14, S24_15, S24_18, S24_19, S24_22, S24_23, S24_24, S24_24n, Option.bind_some, Option.map_some, xpush_s, xpush_n, xcat_0, xcat_i, xcat_r, xcat_l, xcat_n, xcat_e, xir_r, Nat.reduceAdd, Nat.reduceLeDiff, Nat.zero_le, Nat.le_refl, ↓reduceIte, N_g12, s_outside, h0, show ¬ (1 : Int32) = 0 by decide]
theorem G_tf (hX : hi X H) {p : Nat} {key ops : Int32} {P : List Nat} (t : TR X p key ops P) : hgf (cG δ τ1 ε τ2 ζ τ3 κ n l ke op sz B S b H) (.ref p) 4 0 = some (.int key) ∧ hgf (cG δ τ1 ε τ2 ζ τ3 κ n l ke op sz B S b H) (.ref p) 4 1 = some (.int ops) := by
  obtain ⟨-, -, cap, sf, cf, T, -⟩ := TR_hi (hi_t hX (hi_t hi_bh (hi_t hi_tp (hi_t (hi_rh (k := 19) (δ := ζ) (τ := τ3) (by decide)) (hi_rh (k := 10) (δ := ε) (τ := τ2) (by decide)))))) (H' := rh 10 ε τ2 (rh 19 ζ τ3 (tpk n l ke op sz B S (bh b H)))) t
  exact ⟨T_g0 (k := 1) (by decide) T, T_g1 (k := 1) (by decide) T⟩
end TXA
theorem k_textTold (x y : Int32) : CL 93 182 [.int x, .int y] := by
  intro d m h hI
  obtain ⟨δ, τ1, ε, τ2, ζ, τ3, κ, n, l, ke, op, sz, B, S, b, a, s, w, X, rfl, R⟩ := hI
  have hw := R.1
  have hmo := R.2.1
  have ha1 := R.2.2.1
  have hmd := fun Z => md_of (s := s) (w := w) (Z := Z) ha1
  have n1 : ¬ (1 : Int32) = 0 := by decide
  have e7 := bd_e hw.texts (by decide)
  by_cases c1 : ix x (nn (δ 7))
  · have il : bi (0 ≤ x.toInt64 ∧ x.toInt64 ≤ (δ 7 - 1).toInt64) = 1 := bi_t (by rw [show (0 : Int64) = (0 : Int32).toInt64 from rfl, l_le, l_le, e7.1]; exact (ix_e (by omega)).mpr c1)
    have it : ∀ d h, Ev (d + 1) 112 [.long x.toInt64, .long 0, .long (δ 7 - 1).toInt64] h = some (some (.int 1), h) := fun d h => by rw [s_in, il]
    obtain ⟨t, ht, rfl⟩ := c1
    obtain ⟨p, P, p1, p2, p3, -⟩ := R.2.2.2.1.2.1 t ht
    have e1 := fun d => G_tx_t (τ1 := τ1) (ε := ε) (τ2 := τ2) (ζ := ζ) (τ3 := τ3) (κ := κ) (n := n) (l := l) (ke := ke) (op := op) (sz := sz) (B := B) (S := S) (b := b) (H := mh a s w X) d hw ht p1
    obtain ⟨g0, g1⟩ := G_tf (δ := δ) (τ1 := τ1) (ε := ε) (τ2 := τ2) (ζ := ζ) (τ3 := τ3) (κ := κ) (n := n) (l := l) (ke := ke) (op := op) (sz := sz) (B := B) (S := S) (b := b) (H := mh a s w X) hi_mh p3
    have hx := xix_n (show t < 14 by omega) (show 14 ≤ 100000 by decide)
    have dg8 : ∀ Z, hgf (md a δ (a 9) s w Z) (.ref 58) 6 8 = some (.ref 66) := fun Z => rfl
    have dr8 : ∀ Z i, hrd (md a δ (a 9) s w Z) (.ref 66) 0 i = (xix i 14).map (a 8) := fun Z i => by unfold md; rw [Mr_8, vaj _ _ _ (by decide) (by decide)]
    by_cases c2 : bd y 1
    · have o2 := fun d h => ou_f d h (v := y) (n := 1) (N := 1) rfl (by decide) c2
      have i2 := fun d h => in_t d h (v := y) (n := 1) (N := 1) rfl (by decide) c2
      by_cases y0 : y = 0
      · refine comb0 (v := a 6 t) R ?_ ?_
        · rw [E93]
          simp only [S93_0, S93_1, S93_4, S93_5, S93_8, S93_9, S93_10, S93_10n, S93_13, S93_14, S93_15, S93_16, S93_19, S93_22, S93_24, S93_25, S93_26, S93_29, S93_30, S93_33, S93_36, S93_37, S93_40, Option.bind_some, Option.map_some, xpush_s, xpush_n, xcat_0, xcat_i, xcat_r, xcat_l, xcat_n, xcat_e, xir_r, Nat.reduceAdd, Nat.reduceLeDiff, Nat.zero_le, Nat.le_refl, ↓reduceIte, C_0, N_cls, e1, o2, if_pos y0, g0]
        · rw [hmd, E182]
          simp only [S182_0, S182_1, S182_2, S182_3, S182_4, S182_7, S182_9, S182_10, S182_11, S182_12, S182_13, S182_16, S182_19, S182_20, S182_21, S182_22, S182_23, S182_26, S182_29, S182_31, S182_32, S182_33, S182_36, S182_37, S182_40, S182_41, S182_42, S182_45, S182_46, S182_49, S182_50, S182_51, Option.bind_some, Option.map_some, xpush_s, xpush_n, xcat_0, xcat_i, xcat_r, xcat_l, xcat_n, xcat_e, xir_r, Nat.reduceAdd, Nat.reduceLeDiff, Nat.zero_le, Nat.le_refl, ↓reduceIte, Dg, Dr, show xix 7 60 = some 7 from rfl, it, i2, n1, if_pos y0, Dg6, Dr6, hx]
      · refine comb0 (v := a 8 t) R ?_ ?_
        · rw [E93]
          simp only [S93_0, S93_1, S93_4, S93_5, S93_8, S93_9, S93_10, S93_10n, S93_13, S93_14, S93_15, S93_16, S93_19, S93_22, S93_24, S93_25, S93_26, S93_29, S93_30, S93_33, S93_36, S93_37, S93_40, Option.bind_some, Option.map_some, xpush_s, xpush_n, xcat_0, xcat_i, xcat_r, xcat_l, xcat_n, xcat_e, xir_r, Nat.reduceAdd, Nat.reduceLeDiff, Nat.zero_le, Nat.le_refl, ↓reduceIte, C_0, N_cls, e1, o2, if_neg y0, g1]
        · rw [hmd, E182]
          simp only [S182_0, S182_1, S182_2, S182_3, S182_4, S182_7, S182_9, S182_10, S182_11, S182_12, S182_13, S182_16, S182_19, S182_20, S182_21, S182_22, S182_23, S182_26, S182_29, S182_31, S182_32, S182_33, S182_36, S182_37, S182_40, S182_41, S182_42, S182_45, S182_46, S182_49, S182_50, S182_51, Option.bind_some, Option.map_some, xpush_s, xpush_n, xcat_0, xcat_i, xcat_r, xcat_l, xcat_n, xcat_e, xir_r, Nat.reduceAdd, Nat.reduceLeDiff, Nat.zero_le, Nat.le_refl, ↓reduceIte, Dg, Dr, show xix 7 60 = some 7 from rfl, it, i2, n1, if_neg y0, dg8, dr8, hx]
    · refine comb0 (v := -1000000001) R ?_ ?_
      · rw [E93]
        simp only [S93_0, S93_1, S93_4, S93_5, S93_8, S93_9, S93_10, S93_10n, S93_13, S93_14, S93_15, S93_16, S93_19, S93_22, S93_24, S93_25, S93_26, S93_29, S93_30, S93_33, S93_36, S93_37, S93_40, Option.bind_some, Option.map_some, xpush_s, xpush_n, xcat_0, xcat_i, xcat_r, xcat_l, xcat_n, xcat_e, xir_r, Nat.reduceAdd, Nat.reduceLeDiff, Nat.zero_le, Nat.le_refl, ↓reduceIte, C_0, N_cls, e1, n1, ou_t _ _ (n := 1) (N := 1) rfl (by decide) c2]
      · rw [hmd, E182]
        simp only [S182_0, S182_1, S182_2, S182_3, S182_4, S182_7, S182_9, S182_10, S182_11, S182_12, S182_13, S182_16, S182_19, S182_20, S182_21, S182_22, S182_23, S182_26, S182_29, S182_31, S182_32, S182_33, S182_36, S182_37, S182_40, S182_41, S182_42, S182_45, S182_46, S182_49, S182_50, S182_51, Option.bind_some, Option.map_some, xpush_s, xpush_n, xcat_0, xcat_i, xcat_r, xcat_l, xcat_n, xcat_e, xir_r, Nat.reduceAdd, Nat.reduceLeDiff, Nat.zero_le, Nat.le_refl, ↓reduceIte, Dg, Dr, show xix 7 60 = some 7 from rfl, it, in_f _ _ (n := 1) (N := 1) rfl (by decide) c2, n1]
  · have il : bi (0 ≤ x.toInt64 ∧ x.toInt64 ≤ (δ 7 - 1).toInt64) = 0 := bi_f (by rw [show (0 : Int64) = (0 : Int32).toInt64 from rfl, l_le, l_le, e7.1]; exact fun q => c1 ((ix_e (by omega)).mp q))
    refine comb0 (v := -1000000001) R ?_ ?_
    · rw [E93]
      simp only [S93_0, S93_1, S93_4, S93_5, S93_8, S93_9, S93_10, S93_10n, S93_13, S93_14, S93_15, S93_16, S93_19, S93_22, S93_24, S93_25, S93_26, S93_29, S93_30, S93_33, S93_36, S93_37, S93_40, Option.bind_some, Option.map_some, xpush_s, xpush_n, xcat_0, xcat_i, xcat_r, xcat_l, xcat_n, xcat_e, xir_r, Nat.reduceAdd, Nat.reduceLeDiff, Nat.zero_le, Nat.le_refl, ↓reduceIte, C_0, N_cls, G_tx_f _ hw c1, xir_n]
    · rw [hmd, E182]
      simp only [S182_0, S182_1, S182_2, S182_3, S182_4, S182_7, S182_9, S182_10, S182_11, S182_12, S182_13, S182_16, S182_19, S182_20, S182_21, S182_22, S182_23, S182_26, S182_29, S182_31, S182_32, S182_33, S182_36, S182_37, S182_40, S182_41, S182_42, S182_45, S182_46, S182_49, S182_50, S182_51, Option.bind_some, Option.map_some, xpush_s, xpush_n, xcat_0, xcat_i, xcat_r, xcat_l, xcat_n, xcat_e, xir_r, Nat.reduceAdd, Nat.reduceLeDiff, Nat.zero_le, Nat.le_refl, ↓reduceIte, Dg, Dr, show xix 7 60 = some 7 from rfl, s_in, il]

