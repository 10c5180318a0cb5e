/-! part 41, by program (wip/whole/gen/gen_mle2.py): the reference reads, whole -/
section MLE2
variable {a : Nat → Nat → Int32} {s C : Nat → Int32} {H : xh} {k key br no b : Nat} {l : lk} {P : List Nat}
theorem p_opF (d : Nat) (hkey : key ≤ 2) (hl : okl (a 10) k l) (hP : P.length < 96) (hnm : nmM (a 10) key l = none) (hnum : ¬ (nI (tkn l) = 2 ∧ vlu (a 10) l < 10000)) : RF 178 (Ev (d + 4)) 133 [some (.ref 58), none, none] [] (mk' a s C l (nI P.length) (nI (cnt P)) (nI key) (nI br) (nI no) 0 b H) = some (none, pm a s (upd C P.length (10000 + -1)) (nI l.2.1) (nI l.1) (nI (tkn l)) (nI (P.length + 1)) (nI (cnt P + 1)) (nI key) (nI br) (nI no) 1 (nI b) (vlu (a 10) l) H) := by
  have n0 : (-1 : Int32) < 0 := by decide
  have hn := p_name (s := s) (C := C) (co := nI P.length) (wo := nI (cnt P)) (op := nI br) (no := nI no) (wr := 0) (b := b) (H := H) (d + 3) hkey hl
  rw [hnm, show nmJ none = -1 from rfl] at hn
  by_cases h2 : nI (tkn l) = 2
  · have h3 : 10000 ≤ vlu (a 10) l := Int64.not_lt.mp (fun q => hnum ⟨h2, q⟩)
    simp only [S178_133, S178_134, S178_137, S178_138, S178_139, S178_142, S178_143, S178_146, S178_147, S178_150, S178_153, S178_154, S178_157, S178_158, S178_161, S178_162, S178_163, S178_164, S178_165, S178_168, S178_169, S178_172, S178_173, S178_176, S178_179, S178_180, S178_181, S178_184, S178_185, S178_186, S178_189, S178_190, S178_193, S178_196, S178_197, S178_200, S178_201, S178_202, S178_205, S178_206, S178_207, S178_210, S178_211, S178_214, S178_215, S178_218, S178_219, S178_222, Option.bind_some, Option.map_some, xpush_s, xpush_n, xcat_0, xcat_i, xcat_r, xcat_l, xcat_n, xcat_e, xir_r, Nat.reduceAdd, Nat.reduceLeDiff, Nat.zero_le, Nat.le_refl, ↓reduceIte, Mk_cls, hn, Mk_14, if_pos h2, Mk_15, lg_le, h3, Mk_lays _ hP, Mk_17, Mk_21, Mk_p17, cat_r, nI_1, n0, Mk_goesF]
  · simp only [S178_133, S178_134, S178_137, S178_138, S178_139, S178_142, S178_143, S178_146, S178_147, S178_150, S178_153, S178_154, S178_157, S178_158, S178_161, S178_162, S178_163, S178_164, S178_165, S178_168, S178_169, S178_172, S178_173, S178_176, S178_179, S178_180, S178_181, S178_184, S178_185, S178_186, S178_189, S178_190, S178_193, S178_196, S178_197, S178_200, S178_201, S178_202, S178_205, S178_206, S178_207, S178_210, S178_211, S178_214, S178_215, S178_218, S178_219, S178_222, Option.bind_some, Option.map_some, xpush_s, xpush_n, xcat_0, xcat_i, xcat_r, xcat_l, xcat_n, xcat_e, xir_r, Nat.reduceAdd, Nat.reduceLeDiff, Nat.zero_le, Nat.le_refl, ↓reduceIte, Mk_cls, hn, Mk_14, if_neg h2, Mk_lays _ hP, Mk_17, Mk_21, Mk_p17, cat_r, nI_1, n0, Mk_goesF]
theorem p_opN (d : Nat) (hk : k ≤ 96) (hs : s 11 = nI k) (hkey : key ≤ 2) (hl : okl (a 10) k l) (hP : P.length < 96) (hb : bwk k l b) (h2 : nI (tkn l) = 2) (h3 : ¬ 10000 ≤ vlu (a 10) l) {x nm : Int32} (hx : (vlu (a 10) l).toInt32 = x) : ∃ b', bwk k (nxk (a 10) k l) b' ∧ RF 178 (Ev (d + 4)) 133 [some (.ref 58), none, none] [] (mk' a s C l (nI P.length) (nI (cnt P)) (nI key) (nI br) (nI no) 0 b H) = some (none, mk' a s (upd C P.length x) (nxk (a 10) k l) (nI (P.length + 1)) (nI (cnt P + 1)) (nI key) (nI br) (nI no) 0 b' H) := by
  have n1 : ¬ (1 : Int32) = 0 := by decide
  obtain ⟨b', hb', e⟩ := p_goesT (a := a) (C := upd C P.length x) (co := nI (P.length + 1)) (wo := nI (cnt P + 1)) (ke := nI key) (op := nI br) (no := nI no) (H := H) d hk hs hb
  refine ⟨b', hb', ?_⟩
  have hn := p_name (s := s) (C := C) (co := nI P.length) (wo := nI (cnt P)) (op := nI br) (no := nI no) (wr := 0) (b := b) (H := H) (d + 3) hkey hl
  simp only [S178_133, S178_134, S178_137, S178_138, S178_139, S178_142, S178_143, S178_146, S178_147, S178_150, S178_153, S178_154, S178_157, S178_158, S178_161, S178_162, S178_163, S178_164, S178_165, S178_168, S178_169, S178_172, S178_173, S178_176, S178_179, S178_180, S178_181, S178_184, S178_185, S178_186, S178_189, S178_190, S178_193, S178_196, S178_197, S178_200, S178_201, S178_202, S178_205, S178_206, S178_207, S178_210, S178_211, S178_214, S178_215, S178_218, S178_219, S178_222, Option.bind_some, Option.map_some, xpush_s, xpush_n, xcat_0, xcat_i, xcat_r, xcat_l, xcat_n, xcat_e, xir_r, Nat.reduceAdd, Nat.reduceLeDiff, Nat.zero_le, Nat.le_refl, ↓reduceIte, Mk_cls, hn, Mk_14, if_pos h2, Mk_15, lg_le, h3, hx, n1, Mk_lays _ hP, Mk_17, Mk_21, Mk_p17, cat_r, nI_1, e]
theorem p_opI (d : Nat) (hk : k ≤ 96) (hs : s 11 = nI k) (hkey : key ≤ 2) (hl : okl (a 10) k l) (hP : P.length < 96) (hb : bwk k l b) {i : Nat} (hnm : nmM (a 10) key l = some i) (h2 : ¬ nI (tkn l) = 2) (hi : i < 4) : ∃ b', bwk k (nxk (a 10) k l) b' ∧ RF 178 (Ev (d + 4)) 133 [some (.ref 58), none, none] [] (mk' a s C l (nI P.length) (nI (cnt P)) (nI key) (nI br) (nI no) 0 b H) = some (none, mk' a s (upd C P.length (10000 + nI i)) (nxk (a 10) k l) (nI (P.length + 1)) (nI (cnt P + 1)) (nI key) (nI br) (nI no) 0 b' H) := by
  obtain ⟨b', hb', e⟩ := p_goesT (a := a) (C := upd C P.length (10000 + nI i)) (co := nI (P.length + 1)) (wo := nI (cnt P + 1)) (ke := nI key) (op := nI br) (no := nI no) (H := H) d hk hs hb
  refine ⟨b', hb', ?_⟩
  have n0 : ¬ nI i < 0 := nI_pos (by omega)
  have hn := p_name (s := s) (C := C) (co := nI P.length) (wo := nI (cnt P)) (op := nI br) (no := nI no) (wr := 0) (b := b) (H := H) (d + 3) hkey hl
  rw [hnm, show nmJ (some i) = nI i from rfl] at hn
  simp only [S178_133, S178_134, S178_137, S178_138, S178_139, S178_142, S178_143, S178_146, S178_147, S178_150, S178_153, S178_154, S178_157, S178_158, S178_161, S178_162, S178_163, S178_164, S178_165, S178_168, S178_169, S178_172, S178_173, S178_176, S178_179, S178_180, S178_181, S178_184, S178_185, S178_186, S178_189, S178_190, S178_193, S178_196, S178_197, S178_200, S178_201, S178_202, S178_205, S178_206, S178_207, S178_210, S178_211, S178_214, S178_215, S178_218, S178_219, S178_222, Option.bind_some, Option.map_some, xpush_s, xpush_n, xcat_0, xcat_i, xcat_r, xcat_l, xcat_n, xcat_e, xir_r, Nat.reduceAdd, Nat.reduceLeDiff, Nat.zero_le, Nat.le_refl, ↓reduceIte, Mk_cls, hn, Mk_14, if_neg h2, n0, Mk_lays _ hP, Mk_17, Mk_21, Mk_p17, cat_r, nI_1, e]
theorem tkn_2 (hl : okl (a 10) k l) : nI (tkn l) = 2 ↔ (l.2.2.2 = false ∧ l.2.2.1 = 2) := by
  have ht : l.2.2.1 ≤ 3 := by rw [hl.2.2.1]; exact tya_le _ _ _
  unfold tkn
  by_cases hb : l.2.2.2 = true
  · rw [if_pos hb]
    exact ⟨fun q => absurd q (by decide), fun q => by rw [hb] at q; cases q.1⟩
  · rw [if_neg hb]
    have hb' : l.2.2.2 = false := by simpa using hb
    exact ⟨fun q => ⟨hb', (nI_eq (b := 2) (by omega) (by decide)).mp q⟩, fun q => by rw [q.2]; rfl⟩
theorem vlu_2 (hl : okl (a 10) k l) (h2 : l.2.2.1 = 2) : vlu (a 10) l = vD (a 10) l.1 (l.2.1 - l.1) := by
  unfold vlu
  rw [if_neg (by omega), if_neg (by omega), if_pos h2]
theorem nuv_4 (hl : okl (a 10) k l) (h2 : l.2.2.1 = 2) (h4 : l.2.1 - l.1 ≤ 4) : nuv (a 10) l.1 (l.2.1 - l.1) < 10000 := by
  have hw := hl.2.2.2.2.2.2.1 (by rw [h2]; rfl)
  have := nuv_lt (B := a 10) (s := l.1) (l.2.1 - l.1) (fun e h1 h2' => by rw [← h2]; exact hw e h1 (by have := hl.1; omega))
  have h10 : 10 ^ (l.2.1 - l.1) ≤ 10 ^ 4 := Nat.pow_le_pow_right (by decide) h4
  omega
/-- an operand, as the reference finds it -/
theorem opr_n (hl : okl (a 10) k l) (ho : opr (a 10) key l = none ∨ ¬ isW l.2.2.1 = true) : nmM (a 10) key l = none ∧ ¬ (nI (tkn l) = 2 ∧ vlu (a 10) l < 10000) := by
  have hnm : nmM (a 10) key l = none := by
    unfold nmM
    rcases ho with ho | ho
    · rw [opr_step] at ho
      by_cases hb : l.2.2.2 = true
      · rw [if_pos hb]
      · rw [if_neg hb] at ho ⊢
        by_cases h1 : l.2.2.1 = 1
        · rw [if_neg (by omega)] at ho
          rw [if_pos h1]
          cases hq : (if l.2.1 - l.1 = 1 then nmx key (a 10 l.1) else none) with
          | none => rfl
          | some i => rw [hq] at ho; cases ho
        · rw [if_neg h1]
    · split
      · rfl
      · rw [if_neg (fun q => ho ((isW_i _).mpr (Or.inl q)))]
  refine ⟨hnm, ?_⟩
  rintro ⟨h2, h3⟩
  obtain ⟨b1, b2⟩ := (tkn_2 hl).mp h2
  rcases ho with ho | ho
  · rw [opr_step, if_neg (by rw [b1]; decide), if_pos b2] at ho
    rw [vlu_2 hl b2] at h3
    by_cases h4 : 4 < l.2.1 - l.1
    · rw [show vD (a 10) l.1 (l.2.1 - l.1) = 10000 from if_neg (by omega)] at h3
      exact absurd h3 (by decide)
    · rw [if_neg h4] at ho; cases ho
  · exact ho ((isW_i _).mpr (Or.inr b2))
theorem opr_s (hl : okl (a 10) k l) {c : Nat} (hW : isW l.2.2.1 = true) (ho : opr (a 10) key l = some c) : (nI (tkn l) = 2 ∧ ¬ 10000 ≤ vlu (a 10) l ∧ (vlu (a 10) l).toInt32 = nI c) ∨ (∃ i, i < 4 ∧ nmM (a 10) key l = some i ∧ ¬ nI (tkn l) = 2 ∧ c = 10000 + i) := by
  rw [opr_step] at ho
  by_cases hb : l.2.2.2 = true
  · rw [if_pos hb] at ho; cases ho
  · rw [if_neg hb] at ho
    have hb' : l.2.2.2 = false := by simpa using hb
    rcases (isW_i _).mp hW with h1 | h2
    · right
      rw [if_neg (by omega)] at ho
      cases hq : (if l.2.1 - l.1 = 1 then nmx key (a 10 l.1) else none) with
      | none => rw [hq] at ho; cases ho
      | some i =>
        rw [hq] at ho
        have ho : 10000 + i = c := by injection ho
        refine ⟨i, ?_, ?_, fun q => by have := ((tkn_2 hl).mp q).2; omega, ho.symm⟩
        · split at hq
          · exact nmx_lt hq
          · cases hq
        · unfold nmM
          rw [if_neg hb, if_pos h1, hq]
    · left
      rw [if_pos h2] at ho
      by_cases h4 : 4 < l.2.1 - l.1
      · rw [if_pos h4] at ho; cases ho
      · rw [if_neg h4] at ho
        have ho : nuv (a 10) l.1 (l.2.1 - l.1) = c := by injection ho
        have hv : vlu (a 10) l = lN c := by
          rw [vlu_2 hl h2]
          unfold vD
          rw [if_pos (by omega), ho]
        have hc := nuv_4 hl h2 (by omega)
        refine ⟨(tkn_2 hl).mpr ⟨hb', h2⟩, ?_, by rw [hv, lN_i]⟩
        rw [hv, show (10000 : Int64) = lN 10000 from rfl, pk_lLE (by decide) (by omega)]
        omega
theorem p_level (hkey : key ≤ 2) (hk : k ≤ 96) (hs : s 11 = nI k) : ∀ (f d lv br no : Nat) (l : lk) (P : List Nat) (C : Nat → Int32) (b : Nat), lv ≤ 5 → dee lv br no ≤ f → br ≤ 8 → no ≤ 8 → okl (a 10) k l → P.length < l.1 → cM C P → bwk k l b → rsM a s k key br no H (Ev (d + f + 6) (mth lv) [.ref 58] (mk' a s C l (nI P.length) (nI (cnt P)) (nI key) (nI br) (nI no) 0 b H)) (ps (a 10) k key f lv br no l P)
  | 0, d, lv, br, no, l, P, C, b, _, h, _, _, _, _, _, _ => by unfold dee at h; omega
  | f + 1, d, lv, br, no, l, P, C, b, hlv5, hf, hbr, hno, hl, hP, hC, hb => by
    have ih := p_level hkey hk hs f
    have eD : d + (f + 1) + 6 = d + f + 6 + 1 := by omega
    have n1 : ¬ (1 : Int32) = 0 := by decide
    have hl96 : l.1 ≤ 96 := by have := hl.1; have := hl.2.1; omega
    rw [eD]
    match lv, hlv5 with
    | 0, _ =>
      rw [ps_lv (by decide)]
      have hG := ih d 1 br no l P C b (by decide) (by unfold dee at hf ⊢; omega) hbr hno hl hP hC hb
      have hrk := rok_ps (a 10) k key f 1 br no l P hl
      show rsM a s k key br no H (Ev (d + f + 6 + 1) 173 [.ref 58] _) _
      rw [E173]
      cases hq : ps (a 10) k key f 1 br no l P with
      | inl sf =>
        rw [hq] at hG
        obtain ⟨C', pa, to, co, wo, op, nt, bw, w, e2⟩ := hG
        rw [show mth 1 = 174 from rfl] at e2
        refine ⟨C', pa, to, co, wo, op, nt, bw, w, ?_⟩
        simp only [S173_0, S173_1, S173_4, S173_7, S173_8, S173_9, Option.bind_some, Option.map_some, xpush_s, xpush_n, xcat_0, xcat_i, xcat_r, xcat_l, xcat_n, xcat_e, xir_r, Nat.reduceAdd, Nat.reduceLeDiff, Nat.zero_le, Nat.le_refl, ↓reduceIte, Mk_cls, Mk_21, e2]
        exact p_w0 (d + f + 5)
      | inr q =>
        rw [hq] at hG hrk
        obtain ⟨C', b', e2, hC', hb'⟩ := hG
        obtain ⟨r1, r2, r3, -⟩ := hrk
        have hq1 := r1.1
        have hL := p_lp0 (a := a) (s := s) (H := H) (key := key) (d + f) hk hs (br := br) (no := no) (fun l P => ps (a 10) k key f 1 br no l P) (fun l P h => rok_ps (a 10) k key f 1 br no l P h) (fun l P C b h1 h2 h3 h4 => ih d 1 br no l P C b (by decide) (by unfold dee at hf ⊢; omega) hbr hno h1 h2 h3 h4) (mst 0) q.1 q.2 C' b' (by show 96 < q.1.2.1 + 96; omega) r1 (by omega) hC' hb'
        rw [show mth 1 = 174 from rfl] at e2
        simp only [S173_0, S173_1, S173_4, S173_7, S173_8, S173_9, Option.bind_some, Option.map_some, xpush_s, xpush_n, xcat_0, xcat_i, xcat_r, xcat_l, xcat_n, xcat_e, xir_r, Nat.reduceAdd, Nat.reduceLeDiff, Nat.zero_le, Nat.le_refl, ↓reduceIte, Mk_cls, Mk_21, e2]
        exact hL
    | 1, _ =>
      rw [ps_lv (by decide)]
      have hG := ih d 2 br no l P C b (by decide) (by unfold dee at hf ⊢; omega) hbr hno hl hP hC hb
      have hrk := rok_ps (a 10) k key f 2 br no l P hl
      show rsM a s k key br no H (Ev (d + f + 6 + 1) 174 [.ref 58] _) _
      rw [E174]
      cases hq : ps (a 10) k key f 2 br no l P with
      | inl sf =>
        rw [hq] at hG
        obtain ⟨C', pa, to, co, wo, op, nt, bw, w, e2⟩ := hG
        rw [show mth 2 = 175 from rfl] at e2
        refine ⟨C', pa, to, co, wo, op, nt, bw, w, ?_⟩
        simp only [S174_0, S174_1, Option.bind_some, Option.map_some, xpush_s, xpush_n, xcat_0, xcat_i, xcat_r, xcat_l, xcat_n, xcat_e, xir_r, Nat.reduceAdd, Nat.reduceLeDiff, Nat.zero_le, Nat.le_refl, ↓reduceIte, Mk_cls, Mk_21, e2]
        exact p_w1 (d + f + 5)
      | inr q =>
        rw [hq] at hG hrk
        obtain ⟨C', b', e2, hC', hb'⟩ := hG
        obtain ⟨r1, r2, r3, -⟩ := hrk
        have hq1 := r1.1
        have hL := p_lp1 (a := a) (s := s) (H := H) (key := key) (d + f) hk hs (br := br) (no := no) (fun l P => ps (a 10) k key f 2 br no l P) (fun l P h => rok_ps (a 10) k key f 2 br no l P h) (fun l P C b h1 h2 h3 h4 => ih d 2 br no l P C b (by decide) (by unfold dee at hf ⊢; omega) hbr hno h1 h2 h3 h4) (mst 1) q.1 q.2 C' b' (by show 96 < q.1.2.1 + 96; omega) r1 (by omega) hC' hb'
        rw [show mth 2 = 175 from rfl] at e2
        simp only [S174_0, S174_1, Option.bind_some, Option.map_some, xpush_s, xpush_n, xcat_0, xcat_i, xcat_r, xcat_l, xcat_n, xcat_e, xir_r, Nat.reduceAdd, Nat.reduceLeDiff, Nat.zero_le, Nat.le_refl, ↓reduceIte, Mk_cls, Mk_21, e2]
        exact hL
    | 2, _ =>
      rw [ps_lv (by decide)]
      have hG := ih d 3 br no l P C b (by decide) (by unfold dee at hf ⊢; omega) hbr hno hl hP hC hb
      have hrk := rok_ps (a 10) k key f 3 br no l P hl
      show rsM a s k key br no H (Ev (d + f + 6 + 1) 175 [.ref 58] _) _
      rw [E175]
      cases hq : ps (a 10) k key f 3 br no l P with
      | inl sf =>
        rw [hq] at hG
        obtain ⟨C', pa, to, co, wo, op, nt, bw, w, e2⟩ := hG
        rw [show mth 3 = 176 from rfl] at e2
        refine ⟨C', pa, to, co, wo, op, nt, bw, w, ?_⟩
        simp only [S175_0, S175_1, Option.bind_some, Option.map_some, xpush_s, xpush_n, xcat_0, xcat_i, xcat_r, xcat_l, xcat_n, xcat_e, xir_r, Nat.reduceAdd, Nat.reduceLeDiff, Nat.zero_le, Nat.le_refl, ↓reduceIte, Mk_cls, Mk_21, e2]
        exact p_w2 (d + f + 5)
      | inr q =>
        rw [hq] at hG hrk
        obtain ⟨C', b', e2, hC', hb'⟩ := hG
        obtain ⟨r1, r2, r3, -⟩ := hrk
        have hq1 := r1.1
        have hL := p_lp2 (a := a) (s := s) (H := H) (key := key) (d + f) hk hs (br := br) (no := no) (fun l P => ps (a 10) k key f 3 br no l P) (fun l P h => rok_ps (a 10) k key f 3 br no l P h) (fun l P C b h1 h2 h3 h4 => ih d 3 br no l P C b (by decide) (by unfold dee at hf ⊢; omega) hbr hno h1 h2 h3 h4) (mst 2) q.1 q.2 C' b' none (rfl) r1 (by omega) hC' hb'
        rw [show mth 3 = 176 from rfl] at e2
        simp only [S175_0, S175_1, Option.bind_some, Option.map_some, xpush_s, xpush_n, xcat_0, xcat_i, xcat_r, xcat_l, xcat_n, xcat_e, xir_r, Nat.reduceAdd, Nat.reduceLeDiff, Nat.zero_le, Nat.le_refl, ↓reduceIte, Mk_cls, Mk_21, e2]
        exact hL
    | 3, _ =>
      rw [ps_lv (by decide)]
      have hG := ih d 4 br no l P C b (by decide) (by unfold dee at hf ⊢; omega) hbr hno hl hP hC hb
      have hrk := rok_ps (a 10) k key f 4 br no l P hl
      show rsM a s k key br no H (Ev (d + f + 6 + 1) 176 [.ref 58] _) _
      rw [E176]
      cases hq : ps (a 10) k key f 4 br no l P with
      | inl sf =>
        rw [hq] at hG
        obtain ⟨C', pa, to, co, wo, op, nt, bw, w, e2⟩ := hG
        rw [show mth 4 = 177 from rfl] at e2
        refine ⟨C', pa, to, co, wo, op, nt, bw, w, ?_⟩
        simp only [S176_0, S176_1, Option.bind_some, Option.map_some, xpush_s, xpush_n, xcat_0, xcat_i, xcat_r, xcat_l, xcat_n, xcat_e, xir_r, Nat.reduceAdd, Nat.reduceLeDiff, Nat.zero_le, Nat.le_refl, ↓reduceIte, Mk_cls, Mk_21, e2]
        exact p_w3 (d + f + 5)
      | inr q =>
        rw [hq] at hG hrk
        obtain ⟨C', b', e2, hC', hb'⟩ := hG
        obtain ⟨r1, r2, r3, -⟩ := hrk
        have hq1 := r1.1
        have hL := p_lp3 (a := a) (s := s) (H := H) (key := key) (d + f) hk hs (br := br) (no := no) (fun l P => ps (a 10) k key f 4 br no l P) (fun l P h => rok_ps (a 10) k key f 4 br no l P h) (fun l P C b h1 h2 h3 h4 => ih d 4 br no l P C b (by decide) (by unfold dee at hf ⊢; omega) hbr hno h1 h2 h3 h4) (mst 3) q.1 q.2 C' b' none (by show 96 < q.1.2.1 + 96; omega) r1 (by omega) hC' hb'
        rw [show mth 4 = 177 from rfl] at e2
        simp only [S176_0, S176_1, Option.bind_some, Option.map_some, xpush_s, xpush_n, xcat_0, xcat_i, xcat_r, xcat_l, xcat_n, xcat_e, xir_r, Nat.reduceAdd, Nat.reduceLeDiff, Nat.zero_le, Nat.le_refl, ↓reduceIte, Mk_cls, Mk_21, e2]
        exact hL
    | 4, _ =>
      rw [ps_lv (by decide)]
      have hG := ih d 5 br no l P C b (by decide) (by unfold dee at hf ⊢; omega) hbr hno hl hP hC hb
      have hrk := rok_ps (a 10) k key f 5 br no l P hl
      show rsM a s k key br no H (Ev (d + f + 6 + 1) 177 [.ref 58] _) _
      rw [E177]
      cases hq : ps (a 10) k key f 5 br no l P with
      | inl sf =>
        rw [hq] at hG
        obtain ⟨C', pa, to, co, wo, op, nt, bw, w, e2⟩ := hG
        rw [show mth 5 = 178 from rfl] at e2
        refine ⟨C', pa, to, co, wo, op, nt, bw, w, ?_⟩
        simp only [S177_0, S177_1, Option.bind_some, Option.map_some, xpush_s, xpush_n, xcat_0, xcat_i, xcat_r, xcat_l, xcat_n, xcat_e, xir_r, Nat.reduceAdd, Nat.reduceLeDiff, Nat.zero_le, Nat.le_refl, ↓reduceIte, Mk_cls, Mk_21, e2]
        exact p_w4 (d + f + 5)
      | inr q =>
        rw [hq] at hG hrk
        obtain ⟨C', b', e2, hC', hb'⟩ := hG
        obtain ⟨r1, r2, r3, -⟩ := hrk
        have hq1 := r1.1
        have hL := p_lp4 (a := a) (s := s) (H := H) (key := key) (d + f) hk hs (br := br) (no := no) (fun l P => ps (a 10) k key f 5 br no l P) (fun l P h => rok_ps (a 10) k key f 5 br no l P h) (fun l P C b h1 h2 h3 h4 => ih d 5 br no l P C b (by decide) (by unfold dee at hf ⊢; omega) hbr hno h1 h2 h3 h4) (mst 4) q.1 q.2 C' b' none (by show 96 < q.1.2.1 + 96; omega) r1 (by omega) hC' hb'
        rw [show mth 5 = 178 from rfl] at e2
        simp only [S177_0, S177_1, Option.bind_some, Option.map_some, xpush_s, xpush_n, xcat_0, xcat_i, xcat_r, xcat_l, xcat_n, xcat_e, xir_r, Nat.reduceAdd, Nat.reduceLeDiff, Nat.zero_le, Nat.le_refl, ↓reduceIte, Mk_cls, Mk_21, e2]
        exact hL
    | 5, _ =>
      show rsM a s k key br no H (Ev (d + f + 6 + 1) 178 [.ref 58] _) _
      rw [E178]
      have i33 := p_isSign (s := s) (C := C) (co := nI P.length) (wo := nI (cnt P)) (ke := nI key) (op := nI br) (no := nI no) (b := b) (H := H) (d + f + 5) hl (c := 33) (by decide)
      have i40 := p_isSign (s := s) (C := C) (co := nI P.length) (wo := nI (cnt P)) (ke := nI key) (op := nI br) (no := nI no) (b := b) (H := H) (d + f + 5) hl (c := 40) (by decide)
      have to133 : ¬ sg (a 10) l = 33 → ¬ sg (a 10) l = 40 → RF 178 (Ev (d + f + 6)) 0 [some (.ref 58), none, none] [] (mk' a s C l (nI P.length) (nI (cnt P)) (nI key) (nI br) (nI no) 0 b H) = RF 178 (Ev (d + f + 6)) 133 [some (.ref 58), none, none] [] (mk' a s C l (nI P.length) (nI (cnt P)) (nI key) (nI br) (nI no) 0 b H) := by
        intro q1 q2
        rw [bi_f q1] at i33
        rw [bi_f q2] at i40
        simp only [S178_0, S178_1, S178_4, S178_7, S178_8, S178_9, S178_11, S178_14, S178_69, S178_70, S178_72, S178_75, Option.bind_some, Option.map_some, xpush_s, xpush_n, xcat_0, xcat_i, xcat_r, xcat_l, xcat_n, xcat_e, xir_r, Nat.reduceAdd, Nat.reduceLeDiff, Nat.zero_le, Nat.le_refl, ↓reduceIte, Mk_cls, Mk_21, i33, i40]
      by_cases hW : isW l.2.2.1 = true
      · have hsg : sg (a 10) l = -1 := if_neg (by intro e; rw [e] at hW; cases hW)
        rw [ps_w hW, to133 (by rw [hsg]; decide) (by rw [hsg]; decide)]
        cases ho : opr (a 10) key l with
        | none =>
          obtain ⟨q1, q2⟩ := opr_n hl (Or.inl ho)
          exact ⟨_, _, _, _, _, _, _, _, _, p_opF (d + f + 2) hkey hl (by omega) q1 q2⟩
        | some c =>
          have hc := opr_lt hl ho
          rcases opr_s hl hW ho with ⟨q1, q2, q3⟩ | ⟨i, q0, q1, q2, q3⟩
          · obtain ⟨b', hb', e⟩ := p_opN (C := C) (H := H) (br := br) (no := no) (P := P) (nm := 0) (d + f + 2) hk hs hkey hl (by omega) hb q1 q2 q3
            refine ⟨upd C P.length (nI c), b', ?_, cM_snoc hC rfl, hb'⟩
            dsimp only
            rw [cnt_lo hc, len_snoc]
            exact e
          · obtain ⟨b', hb', e⟩ := p_opI (C := C) (H := H) (br := br) (no := no) (P := P) (d + f + 2) hk hs hkey hl (by omega) hb q1 q2 q0
            refine ⟨upd C P.length (10000 + nI i), b', ?_, cM_snoc hC (by rw [q3]; exact nI_add 10000 i), hb'⟩
            dsimp only
            rw [cnt_lo hc, len_snoc]
            exact e
      · by_cases s33 : sg (a 10) l = 33
        · have n40 : ¬ sg (a 10) l = 40 := by rw [s33]; decide
          rw [bi_t s33] at i33
          by_cases h8 : no < 8
          · rw [ps_n hW ⟨s33, h8⟩]
            have hno8 : ¬ (8 : Int32) ≤ nI no := nI_ge (b := 8) h8 (by decide)
            have hn := nxk_1 hl (by have := (sg_3 s33 (by decide)).1; omega)
            have hl' : okl (a 10) k (nxk (a 10) k l) := okl_nxk hl.2.1
            obtain ⟨b1, hb1, e1⟩ := p_goesT (a := a) (C := C) (co := nI P.length) (wo := nI (cnt P)) (ke := nI key) (op := nI br) (no := nI no) (H := H) (d + f + 2) hk hs hb
            have hG := ih d 5 br (no + 1) (nxk (a 10) k l) P C b1 (by decide) (by unfold dee at hf ⊢; omega) hbr (by omega) hl' (by omega) hC hb1
            have hrk := rok_ps (a 10) k key f 5 br (no + 1) (nxk (a 10) k l) P hl'
            cases hq : ps (a 10) k key f 5 br (no + 1) (nxk (a 10) k l) P with
            | inl sf =>
              rw [hq] at hG
              obtain ⟨C', pa, to, co, wo, op, nt, bw, w, e2⟩ := hG
              rw [show mth 5 = 178 from rfl] at e2
              refine ⟨C', pa, to, co, wo, op, nt - 1, bw, w, ?_⟩
              simp only [S178_0, S178_1, S178_4, S178_7, S178_8, S178_9, S178_11, S178_14, S178_17, S178_18, S178_19, S178_22, S178_24, S178_27, S178_28, S178_31, S178_32, S178_35, S178_36, S178_37, S178_40, S178_41, S178_42, S178_45, S178_46, S178_49, S178_50, S178_51, S178_54, S178_55, S178_56, S178_59, S178_60, S178_63, S178_66, S178_222, Option.bind_some, Option.map_some, xpush_s, xpush_n, xcat_0, xcat_i, xcat_r, xcat_l, xcat_n, xcat_e, xir_r, Nat.reduceAdd, Nat.reduceLeDiff, Nat.zero_le, Nat.le_refl, ↓reduceIte, Mk_cls, Mk_21, i33, n1, Mk_20, hno8, e1, Mk_p20, cat_r, nI_1, e2, Pcls, Pg_20, Pp_20, p_laysW]
            | inr q =>
              rw [hq] at hG hrk
              obtain ⟨C', b', e2, hC', hb'⟩ := hG
              obtain ⟨r1, r2, r3, -⟩ := hrk
              have hq1 := r1.1
              have hq2 := r1.2.1
              rw [show mth 5 = 178 from rfl] at e2
              refine ⟨upd C' q.2.length 20033, b', ?_, cM_snoc hC' rfl, hb'⟩
              dsimp only
              rw [cnt_hi (by decide), len_snoc]
              simp only [S178_0, S178_1, S178_4, S178_7, S178_8, S178_9, S178_11, S178_14, S178_17, S178_18, S178_19, S178_22, S178_24, S178_27, S178_28, S178_31, S178_32, S178_35, S178_36, S178_37, S178_40, S178_41, S178_42, S178_45, S178_46, S178_49, S178_50, S178_51, S178_54, S178_55, S178_56, S178_59, S178_60, S178_63, S178_66, S178_222, Option.bind_some, Option.map_some, xpush_s, xpush_n, xcat_0, xcat_i, xcat_r, xcat_l, xcat_n, xcat_e, xir_r, Nat.reduceAdd, Nat.reduceLeDiff, Nat.zero_le, Nat.le_refl, ↓reduceIte, Mk_cls, Mk_21, i33, n1, Mk_20, hno8, e1, Mk_p20, cat_r, nI_1, e2, nI_pred, Mk_lays _ (show q.2.length < 96 by omega)]
          · rw [ps_x hW (fun q => h8 q.2) (fun q => n40 q.1)]
            have hno8 : (8 : Int32) ≤ nI no := nI_le (a := 8) (by omega) (by omega)
            refine ⟨C, nI l.2.1, nI (tkn l), nI P.length, nI (cnt P), nI br, nI no + 1 - 1, nI b, vlu (a 10) l, ?_⟩
            simp only [S178_0, S178_1, S178_4, S178_7, S178_8, S178_9, S178_11, S178_14, S178_17, S178_18, S178_19, S178_22, S178_24, S178_27, S178_28, S178_31, S178_32, S178_35, S178_36, S178_37, S178_40, S178_41, S178_42, S178_45, S178_46, S178_49, S178_50, S178_51, S178_54, S178_55, S178_56, S178_59, S178_60, S178_63, S178_66, S178_222, Option.bind_some, Option.map_some, xpush_s, xpush_n, xcat_0, xcat_i, xcat_r, xcat_l, xcat_n, xcat_e, xir_r, Nat.reduceAdd, Nat.reduceLeDiff, Nat.zero_le, Nat.le_refl, ↓reduceIte, Mk_cls, Mk_21, i33, n1, Mk_20, hno8, Mk_goesF, Pcls, Pg_20, Pp_20, cat_r, p_pieceW, p_laysW]
        · rw [bi_f s33] at i33
          by_cases s40 : sg (a 10) l = 40
          · rw [bi_t s40] at i40
            by_cases h8 : br < 8
            · rw [ps_b hW (fun q => s33 q.1) ⟨s40, h8⟩]
              have hbr8 : ¬ (8 : Int32) ≤ nI br := nI_ge (b := 8) h8 (by decide)
              have hn := nxk_1 hl (by have := (sg_3 s40 (by decide)).1; omega)
              have hl' : okl (a 10) k (nxk (a 10) k l) := okl_nxk hl.2.1
              obtain ⟨b1, hb1, e1⟩ := p_goesT (a := a) (C := C) (co := nI P.length) (wo := nI (cnt P)) (ke := nI key) (op := nI br) (no := nI no) (H := H) (d + f + 2) hk hs hb
              have hG := ih d 0 (br + 1) no (nxk (a 10) k l) P C b1 (by decide) (by unfold dee at hf ⊢; omega) (by omega) hno hl' (by omega) hC hb1
              have hrk := rok_ps (a 10) k key f 0 (br + 1) no (nxk (a 10) k l) P hl'
              cases hq : ps (a 10) k key f 0 (br + 1) no (nxk (a 10) k l) P with
              | inl sf =>
                rw [hq] at hG
                obtain ⟨C', pa, to, co, wo, op, nt, bw, w, e2⟩ := hG
                rw [show mth 0 = 173 from rfl] at e2
                refine ⟨C', pa, to, co, wo, op - 1, nt, bw, w, ?_⟩
                simp only [S178_0, S178_1, S178_4, S178_7, S178_8, S178_9, S178_11, S178_14, S178_69, S178_70, S178_72, S178_75, S178_78, S178_79, S178_80, S178_83, S178_85, S178_88, S178_89, S178_92, S178_93, S178_96, S178_97, S178_98, S178_101, S178_102, S178_103, S178_106, S178_107, S178_110, S178_111, S178_112, S178_115, S178_116, S178_117, S178_120, S178_121, S178_122, S178_124, S178_127, S178_130, S178_222, Option.bind_some, Option.map_some, xpush_s, xpush_n, xcat_0, xcat_i, xcat_r, xcat_l, xcat_n, xcat_e, xir_r, Nat.reduceAdd, Nat.reduceLeDiff, Nat.zero_le, Nat.le_refl, ↓reduceIte, Mk_cls, Mk_21, i33, i40, n1, Mk_19, hbr8, e1, Mk_p19, cat_r, nI_1, e2, Pcls, Pg_19, Pp_19, p_isSignW, p_goesW]
              | inr q =>
                rw [hq] at hG hrk
                obtain ⟨C', b', e2, hC', hb'⟩ := hG
                obtain ⟨r1, r2, r3, -⟩ := hrk
                rw [show mth 0 = 173 from rfl] at e2
                have i41 := p_isSign (s := s) (C := C') (co := nI q.2.length) (wo := nI (cnt q.2)) (ke := nI key) (op := nI br) (no := nI no) (b := b') (H := H) (d + f + 5) r1 (c := 41) (by decide)
                dsimp only
                by_cases h41 : sg (a 10) q.1 = 41
                · rw [bi_t h41] at i41
                  obtain ⟨b2, hb2, e3⟩ := p_goesT (a := a) (C := C') (co := nI q.2.length) (wo := nI (cnt q.2)) (ke := nI key) (op := nI br) (no := nI no) (H := H) (d + f + 2) hk hs hb'
                  rw [if_pos h41]
                  refine ⟨C', b2, ?_, hC', hb2⟩
                  simp only [S178_0, S178_1, S178_4, S178_7, S178_8, S178_9, S178_11, S178_14, S178_69, S178_70, S178_72, S178_75, S178_78, S178_79, S178_80, S178_83, S178_85, S178_88, S178_89, S178_92, S178_93, S178_96, S178_97, S178_98, S178_101, S178_102, S178_103, S178_106, S178_107, S178_110, S178_111, S178_112, S178_115, S178_116, S178_117, S178_120, S178_121, S178_122, S178_124, S178_127, S178_130, S178_222, Option.bind_some, Option.map_some, xpush_s, xpush_n, xcat_0, xcat_i, xcat_r, xcat_l, xcat_n, xcat_e, xir_r, Nat.reduceAdd, Nat.reduceLeDiff, Nat.zero_le, Nat.le_refl, ↓reduceIte, Mk_cls, Mk_21, i33, i40, n1, Mk_19, hbr8, e1, Mk_p19, cat_r, nI_1, e2, nI_pred, i41, e3]
                · rw [bi_f h41] at i41
                  rw [if_neg h41]
                  refine ⟨C', nI q.1.2.1, nI (tkn q.1), nI q.2.length, nI (cnt q.2), nI br, nI no, nI b', vlu (a 10) q.1, ?_⟩
                  simp only [S178_0, S178_1, S178_4, S178_7, S178_8, S178_9, S178_11, S178_14, S178_69, S178_70, S178_72, S178_75, S178_78, S178_79, S178_80, S178_83, S178_85, S178_88, S178_89, S178_92, S178_93, S178_96, S178_97, S178_98, S178_101, S178_102, S178_103, S178_106, S178_107, S178_110, S178_111, S178_112, S178_115, S178_116, S178_117, S178_120, S178_121, S178_122, S178_124, S178_127, S178_130, S178_222, Option.bind_some, Option.map_some, xpush_s, xpush_n, xcat_0, xcat_i, xcat_r, xcat_l, xcat_n, xcat_e, xir_r, Nat.reduceAdd, Nat.reduceLeDiff, Nat.zero_le, Nat.le_refl, ↓reduceIte, Mk_cls, Mk_21, i33, i40, n1, Mk_19, hbr8, e1, Mk_p19, cat_r, nI_1, e2, nI_pred, i41, Mk_goesF]
            · rw [ps_x hW (fun q => s33 q.1) (fun q => h8 q.2)]
              have hbr8 : (8 : Int32) ≤ nI br := nI_le (a := 8) (by omega) (by omega)
              refine ⟨C, nI l.2.1, nI (tkn l), nI P.length, nI (cnt P), nI br + 1 - 1, nI no, nI b, vlu (a 10) l, ?_⟩
              simp only [S178_0, S178_1, S178_4, S178_7, S178_8, S178_9, S178_11, S178_14, S178_69, S178_70, S178_72, S178_75, S178_78, S178_79, S178_80, S178_83, S178_85, S178_88, S178_89, S178_92, S178_93, S178_96, S178_97, S178_98, S178_101, S178_102, S178_103, S178_106, S178_107, S178_110, S178_111, S178_112, S178_115, S178_116, S178_117, S178_120, S178_121, S178_122, S178_124, S178_127, S178_130, S178_222, Option.bind_some, Option.map_some, xpush_s, xpush_n, xcat_0, xcat_i, xcat_r, xcat_l, xcat_n, xcat_e, xir_r, Nat.reduceAdd, Nat.reduceLeDiff, Nat.zero_le, Nat.le_refl, ↓reduceIte, Mk_cls, Mk_21, i33, i40, n1, Mk_19, hbr8, Mk_goesF, Pcls, Pg_19, Pp_19, cat_r, p_wholeW, p_isSignW, p_goesW]
          · rw [ps_x hW (fun q => s33 q.1) (fun q => s40 q.1), to133 s33 s40]
            obtain ⟨q1, q2⟩ := opr_n (key := key) hl (Or.inr hW)
            exact ⟨_, _, _, _, _, _, _, _, _, p_opF (d + f + 2) hkey hl (by omega) q1 q2⟩
end MLE2
