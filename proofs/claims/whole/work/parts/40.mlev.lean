/-! part 40, by program (wip/whole/gen/gen_mlev.py): the reference reads, levels -/
def cM (C : Nat → Int32) (P : List Nat) : Prop := ∀ j (h : j < P.length), C j = nI P[j]
theorem cM_snoc {C : Nat → Int32} {P : List Nat} (h : cM C P) {c : Nat} {x : Int32} (hx : x = nI c) : cM (upd C P.length x) (P ++ [c]) := by
  intro j hj
  rw [List.length_append] at hj
  have hj : j < P.length + 1 := hj
  by_cases e : j = P.length
  · subst e
    rw [up_s, hx]
    simp
  · rw [up_n _ _ e, h j (by omega), List.getElem_append_left (by omega)]
theorem tw {x : Int32} {n : Nat} (h : x = nI n) : 20000 + x = nI (20000 + n) := by
  subst h
  exact nI_add 20000 n
section KM
variable {a : Nat → Nat → Int32} {s C : Nat → Int32} {co wo ke op no wr : Int32} {H : xh} {k b : Nat} {l : lk}
theorem Mk_cls : (xcls (mk' a s C l co wo ke op no wr b H) (.ref 58) = 6) = True := Pcls
theorem Mk_15 : hgf (mk' a s C l co wo ke op no wr b H) (.ref 58) 6 15 = some (.long (vlu (a 10) l)) := Pg_15
theorem Mk_14 : hgf (mk' a s C l co wo ke op no wr b H) (.ref 58) 6 14 = some (.int (nI (tkn l))) := Pg_14
theorem Mk_17 : hgf (mk' a s C l co wo ke op no wr b H) (.ref 58) 6 17 = some (.int wo) := Pg_17
theorem Mk_19 : hgf (mk' a s C l co wo ke op no wr b H) (.ref 58) 6 19 = some (.int op) := Pg_19
theorem Mk_20 : hgf (mk' a s C l co wo ke op no wr b H) (.ref 58) 6 20 = some (.int no) := Pg_20
theorem Mk_21 : hgf (mk' a s C l co wo ke op no wr b H) (.ref 58) 6 21 = some (.int wr) := Pg_21
theorem Mk_p17 (x : Int32) : hpf (mk' a s C l co wo ke op no wr b H) (.ref 58) 6 17 (.int x) = some (mk' a s C l co x ke op no wr b H) := Pp_17 x
theorem Mk_p19 (x : Int32) : hpf (mk' a s C l co wo ke op no wr b H) (.ref 58) 6 19 (.int x) = some (mk' a s C l co wo ke x no wr b H) := Pp_19 x
theorem Mk_p20 (x : Int32) : hpf (mk' a s C l co wo ke op no wr b H) (.ref 58) 6 20 (.int x) = some (mk' a s C l co wo ke op x wr b H) := Pp_20 x
theorem Mk_lays (d : Nat) {z : Nat} (hz : z < 96) (v : Int32) : Ev (d + 1) 180 [.ref 58, .int v] (mk' a s C l (nI z) wo ke op no 0 b H) = some (none, mk' a s (upd C z v) l (nI (z + 1)) wo ke op no 0 b H) := p_lays d hz v
theorem Mk_goesF (d : Nat) : Ev (d + 1) 172 [.ref 58, .int 0] (mk' a s C l co wo ke op no 0 b H) = some (none, pm a s C (nI l.2.1) (nI l.1) (nI (tkn l)) co wo ke op no 1 (nI b) (vlu (a 10) l) H) := p_goesF d
theorem vlu_sg (h : l.2.2.1 = 3) : (vlu (a 10) l).toInt32 = sg (a 10) l := by
  unfold vlu sg
  rw [if_neg (by omega), if_neg (by omega), if_neg (by omega), if_pos h, l32]
end KM
/-- what a reading of the reference comes to -/
def rsM (a : Nat → Nat → Int32) (s : Nat → Int32) (k key br no : Nat) (H : xh) (o : Option xr) (r : pr) : Prop := match r with
  | .inl sf => ∃ (C' : Nat → Int32) (pa to co wo op nt bw : Int32) (w : Int64), o = some (none, pm a s C' pa (nI sf) to co wo (nI key) op nt 1 bw w H)
  | .inr q => ∃ (C' : Nat → Int32) (b' : Nat), o = some (none, mk' a s C' q.1 (nI q.2.length) (nI (cnt q.2)) (nI key) (nI br) (nI no) 0 b' H) ∧ cM C' q.2 ∧ bwk k q.1 b'
section MLEV
variable {a : Nat → Nat → Int32} {s : Nat → Int32} {H : xh} {k key : Nat}
theorem p_w0 (d : Nat) {C : Nat → Int32} {pa be to co wo ke op nt bw : Int32} {w : Int64} : RF 173 (Ev (d + 1)) 12 [some (.ref 58)] [] (pm a s C pa be to co wo ke op nt 1 bw w H) = some (none, pm a s C pa be to co wo ke op nt 1 bw w H) := by
  simp only [S173_12, S173_13, S173_15, S173_18, S173_39, Option.bind_some, Option.map_some, xpush_s, xpush_n, xcat_0, xcat_i, xcat_r, xcat_l, xcat_n, xcat_e, xir_r, Nat.reduceAdd, Nat.reduceLeDiff, Nat.zero_le, Nat.le_refl, ↓reduceIte, Pcls, p_isSignW]
theorem p_j0 (d : Nat) {C : Nat → Int32} {l : lk} {co wo ke op nt : Int32} {b : Nat} (hl : okl (a 10) k l) (hj : jnz 0 (sg (a 10) l)) : RF 173 (Ev (d + 1)) 12 [some (.ref 58)] [] (mk' a s C l co wo ke op nt 0 b H) = RF 173 (Ev (d + 1)) 21 [some (.ref 58)] [] (mk' a s C l co wo ke op nt 0 b H) := by
  have n1 : ¬ (1 : Int32) = 0 := by decide
  have e0 := p_isSign (s := s) (C := C) (co := co) (wo := wo) (ke := ke) (op := op) (no := nt) (b := b) (H := H) d hl (c := 124) (by decide)
  have hj : sg (a 10) l = 124 := hj
  rw [bi_t hj] at e0
  simp only [S173_12, S173_13, S173_15, S173_18, Option.bind_some, Option.map_some, xpush_s, xpush_n, xcat_0, xcat_i, xcat_r, xcat_l, xcat_n, xcat_e, xir_r, Nat.reduceAdd, Nat.reduceLeDiff, Nat.zero_le, Nat.le_refl, ↓reduceIte, Mk_cls, e0, n1]
theorem p_n0 (d : Nat) {C : Nat → Int32} {l : lk} {co wo ke op nt : Int32} {b : Nat} (hl : okl (a 10) k l) (hj : ¬ jnz 0 (sg (a 10) l)) : RF 173 (Ev (d + 1)) 12 [some (.ref 58)] [] (mk' a s C l co wo ke op nt 0 b H) = some (none, mk' a s C l co wo ke op nt 0 b H) := by
  have e0 := p_isSign (s := s) (C := C) (co := co) (wo := wo) (ke := ke) (op := op) (no := nt) (b := b) (H := H) d hl (c := 124) (by decide)
  rw [bi_f (fun (q : sg (a 10) l = 124) => hj q)] at e0
  simp only [S173_12, S173_13, S173_15, S173_18, S173_39, Option.bind_some, Option.map_some, xpush_s, xpush_n, xcat_0, xcat_i, xcat_r, xcat_l, xcat_n, xcat_e, xir_r, Nat.reduceAdd, Nat.reduceLeDiff, Nat.zero_le, Nat.le_refl, ↓reduceIte, Mk_cls, e0]
theorem p_lp0 (d : Nat) (hk : k ≤ 96) (hs : s 11 = nI k) {br no : Nat} (g : lk → List Nat → pr) (hr : ∀ l P, okl (a 10) k l → rok (a 10) k l P (g l P)) (hg : ∀ (l : lk) (P : List Nat) (C : Nat → Int32) (b : Nat), okl (a 10) k l → P.length < l.1 → cM C P → bwk k l b → rsM a s k key br no H (Ev (d + 6) 174 [.ref 58] (mk' a s C l (nI P.length) (nI (cnt P)) (nI key) (nI br) (nI no) 0 b H)) (g l P)) : ∀ (m : Nat) (l : lk) (P : List Nat) (C : Nat → Int32) (b : Nat), 96 < l.2.1 + m → okl (a 10) k l → P.length < l.1 → cM C P → bwk k l b → rsM a s k key br no H (RF 173 (Ev (d + 6)) 12 [some (.ref 58)] [] (mk' a s C l (nI P.length) (nI (cnt P)) (nI key) (nI br) (nI no) 0 b H)) (lp (a 10) k g 0 m l P)
  | 0, l, P, C, b, h96, hl, hP, hC, hb => absurd hl.2.1 (by omega)
  | m + 1, l, P, C, b, h96, hl, hP, hC, hb => by
    by_cases hj : jnz 0 (sg (a 10) l)
    · obtain ⟨j1, j2, j3⟩ := jnz_3 hj
      have hn := nxk_1 hl (by omega)
      have hl' : okl (a 10) k (nxk (a 10) k l) := okl_nxk hl.2.1
      obtain ⟨b1, hb1, e1⟩ := p_nextK (a := a) (C := C) (co := nI P.length) (wo := nI (cnt P)) (ke := nI key) (op := nI br) (no := nI no) (wr := 0) (H := H) (d + 3) hk hs hb
      have hG := hg (nxk (a 10) k l) P C b1 hl' (by omega) hC hb1
      have hrk := hr (nxk (a 10) k l) P hl'
      rw [lp_t hj, p_j0 (d + 5) hl hj]
      cases hq : g (nxk (a 10) k l) P with
      | inl sf =>
        rw [hq] at hG
        obtain ⟨C', pa, to, co, wo, op, nt, bw, w, e2⟩ := hG
        refine ⟨C', pa, to, co, wo, op, nt, bw, w, ?_⟩
        simp only [S173_21, S173_22, S173_25, S173_26, S173_29, S173_30, S173_33, S173_36, Option.bind_some, Option.map_some, xpush_s, xpush_n, xcat_0, xcat_i, xcat_r, xcat_l, xcat_n, xcat_e, xir_r, Nat.reduceAdd, Nat.reduceLeDiff, Nat.zero_le, Nat.le_refl, ↓reduceIte, Mk_cls, Mk_15, e1, e2, Pcls, p_laysW]
        exact p_w0 (d + 5)
      | inr q =>
        rw [hq] at hG hrk
        obtain ⟨C', b', e2, hC', hb'⟩ := hG
        obtain ⟨r1, r2, r3, -⟩ := hrk
        have hq1 := r1.1
        have hq2 := r1.2.1
        have hz : q.2.length < 96 := by omega
        have hj' : sg (a 10) l = 124 := hj
        have hx : (20124 : Int32) = nI (20000 + nn (sg (a 10) l)) := by rw [hj']; rfl
        have ih := p_lp0 d hk hs g hr hg m q.1 (q.2 ++ [20000 + nn (sg (a 10) l)]) (upd C' q.2.length ((20124 : Int32))) b' (by omega) r1 (by rw [len_snoc]; omega) (cM_snoc hC' hx) hb'
        rw [cnt_hi (by omega), len_snoc] at ih
        simp only [S173_21, S173_22, S173_25, S173_26, S173_29, S173_30, S173_33, S173_36, Option.bind_some, Option.map_some, xpush_s, xpush_n, xcat_0, xcat_i, xcat_r, xcat_l, xcat_n, xcat_e, xir_r, Nat.reduceAdd, Nat.reduceLeDiff, Nat.zero_le, Nat.le_refl, ↓reduceIte, Mk_cls, Mk_15, e1, e2, Mk_lays _ hz]
        exact ih
    · rw [lp_f hj, p_n0 (d + 5) hl hj]
      exact ⟨C, b, rfl, hC, hb⟩
theorem p_w1 (d : Nat) {C : Nat → Int32} {pa be to co wo ke op nt bw : Int32} {w : Int64} : RF 174 (Ev (d + 1)) 4 [some (.ref 58)] [] (pm a s C pa be to co wo ke op nt 1 bw w H) = some (none, pm a s C pa be to co wo ke op nt 1 bw w H) := by
  simp only [S174_4, S174_5, S174_7, S174_10, S174_31, Option.bind_some, Option.map_some, xpush_s, xpush_n, xcat_0, xcat_i, xcat_r, xcat_l, xcat_n, xcat_e, xir_r, Nat.reduceAdd, Nat.reduceLeDiff, Nat.zero_le, Nat.le_refl, ↓reduceIte, Pcls, p_isSignW]
theorem p_j1 (d : Nat) {C : Nat → Int32} {l : lk} {co wo ke op nt : Int32} {b : Nat} (hl : okl (a 10) k l) (hj : jnz 1 (sg (a 10) l)) : RF 174 (Ev (d + 1)) 4 [some (.ref 58)] [] (mk' a s C l co wo ke op nt 0 b H) = RF 174 (Ev (d + 1)) 13 [some (.ref 58)] [] (mk' a s C l co wo ke op nt 0 b H) := by
  have n1 : ¬ (1 : Int32) = 0 := by decide
  have e0 := p_isSign (s := s) (C := C) (co := co) (wo := wo) (ke := ke) (op := op) (no := nt) (b := b) (H := H) d hl (c := 38) (by decide)
  have hj : sg (a 10) l = 38 := hj
  rw [bi_t hj] at e0
  simp only [S174_4, S174_5, S174_7, S174_10, Option.bind_some, Option.map_some, xpush_s, xpush_n, xcat_0, xcat_i, xcat_r, xcat_l, xcat_n, xcat_e, xir_r, Nat.reduceAdd, Nat.reduceLeDiff, Nat.zero_le, Nat.le_refl, ↓reduceIte, Mk_cls, e0, n1]
theorem p_n1 (d : Nat) {C : Nat → Int32} {l : lk} {co wo ke op nt : Int32} {b : Nat} (hl : okl (a 10) k l) (hj : ¬ jnz 1 (sg (a 10) l)) : RF 174 (Ev (d + 1)) 4 [some (.ref 58)] [] (mk' a s C l co wo ke op nt 0 b H) = some (none, mk' a s C l co wo ke op nt 0 b H) := by
  have e0 := p_isSign (s := s) (C := C) (co := co) (wo := wo) (ke := ke) (op := op) (no := nt) (b := b) (H := H) d hl (c := 38) (by decide)
  rw [bi_f (fun (q : sg (a 10) l = 38) => hj q)] at e0
  simp only [S174_4, S174_5, S174_7, S174_10, S174_31, Option.bind_some, Option.map_some, xpush_s, xpush_n, xcat_0, xcat_i, xcat_r, xcat_l, xcat_n, xcat_e, xir_r, Nat.reduceAdd, Nat.reduceLeDiff, Nat.zero_le, Nat.le_refl, ↓reduceIte, Mk_cls, e0]
theorem p_lp1 (d : Nat) (hk : k ≤ 96) (hs : s 11 = nI k) {br no : Nat} (g : lk → List Nat → pr) (hr : ∀ l P, okl (a 10) k l → rok (a 10) k l P (g l P)) (hg : ∀ (l : lk) (P : List Nat) (C : Nat → Int32) (b : Nat), okl (a 10) k l → P.length < l.1 → cM C P → bwk k l b → rsM a s k key br no H (Ev (d + 6) 175 [.ref 58] (mk' a s C l (nI P.length) (nI (cnt P)) (nI key) (nI br) (nI no) 0 b H)) (g l P)) : ∀ (m : Nat) (l : lk) (P : List Nat) (C : Nat → Int32) (b : Nat), 96 < l.2.1 + m → okl (a 10) k l → P.length < l.1 → cM C P → bwk k l b → rsM a s k key br no H (RF 174 (Ev (d + 6)) 4 [some (.ref 58)] [] (mk' a s C l (nI P.length) (nI (cnt P)) (nI key) (nI br) (nI no) 0 b H)) (lp (a 10) k g 1 m l P)
  | 0, l, P, C, b, h96, hl, hP, hC, hb => absurd hl.2.1 (by omega)
  | m + 1, l, P, C, b, h96, hl, hP, hC, hb => by
    by_cases hj : jnz 1 (sg (a 10) l)
    · obtain ⟨j1, j2, j3⟩ := jnz_3 hj
      have hn := nxk_1 hl (by omega)
      have hl' : okl (a 10) k (nxk (a 10) k l) := okl_nxk hl.2.1
      obtain ⟨b1, hb1, e1⟩ := p_nextK (a := a) (C := C) (co := nI P.length) (wo := nI (cnt P)) (ke := nI key) (op := nI br) (no := nI no) (wr := 0) (H := H) (d + 3) hk hs hb
      have hG := hg (nxk (a 10) k l) P C b1 hl' (by omega) hC hb1
      have hrk := hr (nxk (a 10) k l) P hl'
      rw [lp_t hj, p_j1 (d + 5) hl hj]
      cases hq : g (nxk (a 10) k l) P with
      | inl sf =>
        rw [hq] at hG
        obtain ⟨C', pa, to, co, wo, op, nt, bw, w, e2⟩ := hG
        refine ⟨C', pa, to, co, wo, op, nt, bw, w, ?_⟩
        simp only [S174_13, S174_14, S174_17, S174_18, S174_21, S174_22, S174_25, S174_28, Option.bind_some, Option.map_some, xpush_s, xpush_n, xcat_0, xcat_i, xcat_r, xcat_l, xcat_n, xcat_e, xir_r, Nat.reduceAdd, Nat.reduceLeDiff, Nat.zero_le, Nat.le_refl, ↓reduceIte, Mk_cls, Mk_15, e1, e2, Pcls, p_laysW]
        exact p_w1 (d + 5)
      | inr q =>
        rw [hq] at hG hrk
        obtain ⟨C', b', e2, hC', hb'⟩ := hG
        obtain ⟨r1, r2, r3, -⟩ := hrk
        have hq1 := r1.1
        have hq2 := r1.2.1
        have hz : q.2.length < 96 := by omega
        have hj' : sg (a 10) l = 38 := hj
        have hx : (20038 : Int32) = nI (20000 + nn (sg (a 10) l)) := by rw [hj']; rfl
        have ih := p_lp1 d hk hs g hr hg m q.1 (q.2 ++ [20000 + nn (sg (a 10) l)]) (upd C' q.2.length ((20038 : Int32))) b' (by omega) r1 (by rw [len_snoc]; omega) (cM_snoc hC' hx) hb'
        rw [cnt_hi (by omega), len_snoc] at ih
        simp only [S174_13, S174_14, S174_17, S174_18, S174_21, S174_22, S174_25, S174_28, Option.bind_some, Option.map_some, xpush_s, xpush_n, xcat_0, xcat_i, xcat_r, xcat_l, xcat_n, xcat_e, xir_r, Nat.reduceAdd, Nat.reduceLeDiff, Nat.zero_le, Nat.le_refl, ↓reduceIte, Mk_cls, Mk_15, e1, e2, Mk_lays _ hz]
        exact ih
    · rw [lp_f hj, p_n1 (d + 5) hl hj]
      exact ⟨C, b, rfl, hC, hb⟩
theorem p_w2 (d : Nat) {C : Nat → Int32} {pa be to co wo ke op nt bw : Int32} {w : Int64} {l1 : Option Value} : RF 175 (Ev (d + 1)) 4 [some (.ref 58), l1] [] (pm a s C pa be to co wo ke op nt 1 bw w H) = some (none, pm a s C pa be to co wo ke op nt 1 bw w H) := by
  simp only [S175_4, S175_5, S175_7, S175_10, S175_13, S175_14, S175_16, S175_19, S175_22, S175_23, S175_25, S175_28, S175_54, Option.bind_some, Option.map_some, xpush_s, xpush_n, xcat_0, xcat_i, xcat_r, xcat_l, xcat_n, xcat_e, xir_r, Nat.reduceAdd, Nat.reduceLeDiff, Nat.zero_le, Nat.le_refl, ↓reduceIte, Pcls, p_isSignW]
theorem p_j2 (d : Nat) {C : Nat → Int32} {l : lk} {co wo ke op nt : Int32} {b : Nat} {l1 : Option Value} (hl : okl (a 10) k l) (hj : jnz 2 (sg (a 10) l)) : RF 175 (Ev (d + 1)) 4 [some (.ref 58), l1] [] (mk' a s C l co wo ke op nt 0 b H) = RF 175 (Ev (d + 1)) 31 [some (.ref 58), l1] [] (mk' a s C l co wo ke op nt 0 b H) := by
  have n1 : ¬ (1 : Int32) = 0 := by decide
  have e0 := p_isSign (s := s) (C := C) (co := co) (wo := wo) (ke := ke) (op := op) (no := nt) (b := b) (H := H) d hl (c := 60) (by decide)
  have e1 := p_isSign (s := s) (C := C) (co := co) (wo := wo) (ke := ke) (op := op) (no := nt) (b := b) (H := H) d hl (c := 61) (by decide)
  have e2 := p_isSign (s := s) (C := C) (co := co) (wo := wo) (ke := ke) (op := op) (no := nt) (b := b) (H := H) d hl (c := 62) (by decide)
  have hj : sg (a 10) l = 60 ∨ sg (a 10) l = 61 ∨ sg (a 10) l = 62 := hj
  rcases hj with hj | hj | hj
  · rw [bi_t hj] at e0
    simp only [S175_4, S175_5, S175_7, S175_10, S175_13, S175_14, S175_16, S175_19, S175_22, S175_23, S175_25, S175_28, Option.bind_some, Option.map_some, xpush_s, xpush_n, xcat_0, xcat_i, xcat_r, xcat_l, xcat_n, xcat_e, xir_r, Nat.reduceAdd, Nat.reduceLeDiff, Nat.zero_le, Nat.le_refl, ↓reduceIte, Mk_cls, e0, n1]
  · rw [bi_f (by rw [hj]; decide)] at e0
    rw [bi_t hj] at e1
    simp only [S175_4, S175_5, S175_7, S175_10, S175_13, S175_14, S175_16, S175_19, S175_22, S175_23, S175_25, S175_28, Option.bind_some, Option.map_some, xpush_s, xpush_n, xcat_0, xcat_i, xcat_r, xcat_l, xcat_n, xcat_e, xir_r, Nat.reduceAdd, Nat.reduceLeDiff, Nat.zero_le, Nat.le_refl, ↓reduceIte, Mk_cls, e0, e1, n1]
  · rw [bi_f (by rw [hj]; decide)] at e0
    rw [bi_f (by rw [hj]; decide)] at e1
    rw [bi_t hj] at e2
    simp only [S175_4, S175_5, S175_7, S175_10, S175_13, S175_14, S175_16, S175_19, S175_22, S175_23, S175_25, S175_28, Option.bind_some, Option.map_some, xpush_s, xpush_n, xcat_0, xcat_i, xcat_r, xcat_l, xcat_n, xcat_e, xir_r, Nat.reduceAdd, Nat.reduceLeDiff, Nat.zero_le, Nat.le_refl, ↓reduceIte, Mk_cls, e0, e1, e2, n1]
theorem p_n2 (d : Nat) {C : Nat → Int32} {l : lk} {co wo ke op nt : Int32} {b : Nat} {l1 : Option Value} (hl : okl (a 10) k l) (hj : ¬ jnz 2 (sg (a 10) l)) : RF 175 (Ev (d + 1)) 4 [some (.ref 58), l1] [] (mk' a s C l co wo ke op nt 0 b H) = some (none, mk' a s C l co wo ke op nt 0 b H) := by
  have e0 := p_isSign (s := s) (C := C) (co := co) (wo := wo) (ke := ke) (op := op) (no := nt) (b := b) (H := H) d hl (c := 60) (by decide)
  rw [bi_f (fun q => hj (Or.inl q))] at e0
  have e1 := p_isSign (s := s) (C := C) (co := co) (wo := wo) (ke := ke) (op := op) (no := nt) (b := b) (H := H) d hl (c := 61) (by decide)
  rw [bi_f (fun q => hj (Or.inr (Or.inl q)))] at e1
  have e2 := p_isSign (s := s) (C := C) (co := co) (wo := wo) (ke := ke) (op := op) (no := nt) (b := b) (H := H) d hl (c := 62) (by decide)
  rw [bi_f (fun q => hj (Or.inr (Or.inr q)))] at e2
  simp only [S175_4, S175_5, S175_7, S175_10, S175_13, S175_14, S175_16, S175_19, S175_22, S175_23, S175_25, S175_28, S175_54, Option.bind_some, Option.map_some, xpush_s, xpush_n, xcat_0, xcat_i, xcat_r, xcat_l, xcat_n, xcat_e, xir_r, Nat.reduceAdd, Nat.reduceLeDiff, Nat.zero_le, Nat.le_refl, ↓reduceIte, Mk_cls, e0, e1, e2]
theorem p_lp2 (d : Nat) (hk : k ≤ 96) (hs : s 11 = nI k) {br no : Nat} (g : lk → List Nat → pr) (hr : ∀ l P, okl (a 10) k l → rok (a 10) k l P (g l P)) (hg : ∀ (l : lk) (P : List Nat) (C : Nat → Int32) (b : Nat), okl (a 10) k l → P.length < l.1 → cM C P → bwk k l b → rsM a s k key br no H (Ev (d + 6) 176 [.ref 58] (mk' a s C l (nI P.length) (nI (cnt P)) (nI key) (nI br) (nI no) 0 b H)) (g l P)) : ∀ (m : Nat) (l : lk) (P : List Nat) (C : Nat → Int32) (b : Nat) (l1 : Option Value), m = 1 → okl (a 10) k l → P.length < l.1 → cM C P → bwk k l b → rsM a s k key br no H (RF 175 (Ev (d + 6)) 4 [some (.ref 58), l1] [] (mk' a s C l (nI P.length) (nI (cnt P)) (nI key) (nI br) (nI no) 0 b H)) (lp (a 10) k g 2 m l P)
  | 0, l, P, C, b, l1, h96, hl, hP, hC, hb => absurd h96 (by decide)
  | m + 1, l, P, C, b, l1, h96, hl, hP, hC, hb => by
    by_cases hj : jnz 2 (sg (a 10) l)
    · obtain ⟨j1, j2, j3⟩ := jnz_3 hj
      have hn := nxk_1 hl (by omega)
      have hl' : okl (a 10) k (nxk (a 10) k l) := okl_nxk hl.2.1
      obtain ⟨b1, hb1, e1⟩ := p_nextK (a := a) (C := C) (co := nI P.length) (wo := nI (cnt P)) (ke := nI key) (op := nI br) (no := nI no) (wr := 0) (H := H) (d + 3) hk hs hb
      have hG := hg (nxk (a 10) k l) P C b1 hl' (by omega) hC hb1
      have hrk := hr (nxk (a 10) k l) P hl'
      rw [lp_t hj, p_j2 (d + 5) hl hj]
      cases hq : g (nxk (a 10) k l) P with
      | inl sf =>
        rw [hq] at hG
        obtain ⟨C', pa, to, co, wo, op, nt, bw, w, e2⟩ := hG
        refine ⟨C', pa, to, co, wo, op, nt, bw, w, ?_⟩
        simp only [S175_31, S175_32, S175_35, S175_36, S175_37, S175_38, S175_41, S175_42, S175_45, S175_46, S175_49, S175_50, S175_51, S175_54, Option.bind_some, Option.map_some, xpush_s, xpush_n, xcat_0, xcat_i, xcat_r, xcat_l, xcat_n, xcat_e, xir_r, Nat.reduceAdd, Nat.reduceLeDiff, Nat.zero_le, Nat.le_refl, ↓reduceIte, Mk_cls, Mk_15, e1, e2, Pcls, p_laysW]
      | inr q =>
        rw [hq] at hG hrk
        obtain ⟨C', b', e2, hC', hb'⟩ := hG
        obtain ⟨r1, r2, r3, -⟩ := hrk
        have hq1 := r1.1
        have hq2 := r1.2.1
        have hz : q.2.length < 96 := by omega
        have hv := vlu_sg (a := a) j1
        have hx := tw j3
        have hm : m = 0 := by omega
        subst hm
        dsimp only
        rw [lp_0]
        refine ⟨upd C' q.2.length (20000 + sg (a 10) l), b', ?_, cM_snoc hC' hx, hb'⟩
        dsimp only
        rw [cnt_hi (by omega), len_snoc]
        simp only [S175_31, S175_32, S175_35, S175_36, S175_37, S175_38, S175_41, S175_42, S175_45, S175_46, S175_49, S175_50, S175_51, S175_54, Option.bind_some, Option.map_some, xpush_s, xpush_n, xcat_0, xcat_i, xcat_r, xcat_l, xcat_n, xcat_e, xir_r, Nat.reduceAdd, Nat.reduceLeDiff, Nat.zero_le, Nat.le_refl, ↓reduceIte, Mk_cls, Mk_15, hv, e1, e2, Mk_lays _ hz]
    · rw [lp_f hj, p_n2 (d + 5) hl hj]
      exact ⟨C, b, rfl, hC, hb⟩
theorem p_w3 (d : Nat) {C : Nat → Int32} {pa be to co wo ke op nt bw : Int32} {w : Int64} {l1 : Option Value} : RF 176 (Ev (d + 1)) 4 [some (.ref 58), l1] [] (pm a s C pa be to co wo ke op nt 1 bw w H) = some (none, pm a s C pa be to co wo ke op nt 1 bw w H) := by
  simp only [S176_4, S176_5, S176_7, S176_10, S176_13, S176_14, S176_16, S176_19, S176_48, Option.bind_some, Option.map_some, xpush_s, xpush_n, xcat_0, xcat_i, xcat_r, xcat_l, xcat_n, xcat_e, xir_r, Nat.reduceAdd, Nat.reduceLeDiff, Nat.zero_le, Nat.le_refl, ↓reduceIte, Pcls, p_isSignW]
theorem p_j3 (d : Nat) {C : Nat → Int32} {l : lk} {co wo ke op nt : Int32} {b : Nat} {l1 : Option Value} (hl : okl (a 10) k l) (hj : jnz 3 (sg (a 10) l)) : RF 176 (Ev (d + 1)) 4 [some (.ref 58), l1] [] (mk' a s C l co wo ke op nt 0 b H) = RF 176 (Ev (d + 1)) 22 [some (.ref 58), l1] [] (mk' a s C l co wo ke op nt 0 b H) := by
  have n1 : ¬ (1 : Int32) = 0 := by decide
  have e0 := p_isSign (s := s) (C := C) (co := co) (wo := wo) (ke := ke) (op := op) (no := nt) (b := b) (H := H) d hl (c := 43) (by decide)
  have e1 := p_isSign (s := s) (C := C) (co := co) (wo := wo) (ke := ke) (op := op) (no := nt) (b := b) (H := H) d hl (c := 45) (by decide)
  have hj : sg (a 10) l = 43 ∨ sg (a 10) l = 45 := hj
  rcases hj with hj | hj
  · rw [bi_t hj] at e0
    simp only [S176_4, S176_5, S176_7, S176_10, S176_13, S176_14, S176_16, S176_19, Option.bind_some, Option.map_some, xpush_s, xpush_n, xcat_0, xcat_i, xcat_r, xcat_l, xcat_n, xcat_e, xir_r, Nat.reduceAdd, Nat.reduceLeDiff, Nat.zero_le, Nat.le_refl, ↓reduceIte, Mk_cls, e0, n1]
  · rw [bi_f (by rw [hj]; decide)] at e0
    rw [bi_t hj] at e1
    simp only [S176_4, S176_5, S176_7, S176_10, S176_13, S176_14, S176_16, S176_19, Option.bind_some, Option.map_some, xpush_s, xpush_n, xcat_0, xcat_i, xcat_r, xcat_l, xcat_n, xcat_e, xir_r, Nat.reduceAdd, Nat.reduceLeDiff, Nat.zero_le, Nat.le_refl, ↓reduceIte, Mk_cls, e0, e1, n1]
theorem p_n3 (d : Nat) {C : Nat → Int32} {l : lk} {co wo ke op nt : Int32} {b : Nat} {l1 : Option Value} (hl : okl (a 10) k l) (hj : ¬ jnz 3 (sg (a 10) l)) : RF 176 (Ev (d + 1)) 4 [some (.ref 58), l1] [] (mk' a s C l co wo ke op nt 0 b H) = some (none, mk' a s C l co wo ke op nt 0 b H) := by
  have e0 := p_isSign (s := s) (C := C) (co := co) (wo := wo) (ke := ke) (op := op) (no := nt) (b := b) (H := H) d hl (c := 43) (by decide)
  rw [bi_f (fun q => hj (Or.inl q))] at e0
  have e1 := p_isSign (s := s) (C := C) (co := co) (wo := wo) (ke := ke) (op := op) (no := nt) (b := b) (H := H) d hl (c := 45) (by decide)
  rw [bi_f (fun q => hj (Or.inr q))] at e1
  simp only [S176_4, S176_5, S176_7, S176_10, S176_13, S176_14, S176_16, S176_19, S176_48, Option.bind_some, Option.map_some, xpush_s, xpush_n, xcat_0, xcat_i, xcat_r, xcat_l, xcat_n, xcat_e, xir_r, Nat.reduceAdd, Nat.reduceLeDiff, Nat.zero_le, Nat.le_refl, ↓reduceIte, Mk_cls, e0, e1]
theorem p_lp3 (d : Nat) (hk : k ≤ 96) (hs : s 11 = nI k) {br no : Nat} (g : lk → List Nat → pr) (hr : ∀ l P, okl (a 10) k l → rok (a 10) k l P (g l P)) (hg : ∀ (l : lk) (P : List Nat) (C : Nat → Int32) (b : Nat), okl (a 10) k l → P.length < l.1 → cM C P → bwk k l b → rsM a s k key br no H (Ev (d + 6) 177 [.ref 58] (mk' a s C l (nI P.length) (nI (cnt P)) (nI key) (nI br) (nI no) 0 b H)) (g l P)) : ∀ (m : Nat) (l : lk) (P : List Nat) (C : Nat → Int32) (b : Nat) (l1 : Option Value), 96 < l.2.1 + m → okl (a 10) k l → P.length < l.1 → cM C P → bwk k l b → rsM a s k key br no H (RF 176 (Ev (d + 6)) 4 [some (.ref 58), l1] [] (mk' a s C l (nI P.length) (nI (cnt P)) (nI key) (nI br) (nI no) 0 b H)) (lp (a 10) k g 3 m l P)
  | 0, l, P, C, b, l1, h96, hl, hP, hC, hb => absurd hl.2.1 (by omega)
  | m + 1, l, P, C, b, l1, h96, hl, hP, hC, hb => by
    by_cases hj : jnz 3 (sg (a 10) l)
    · obtain ⟨j1, j2, j3⟩ := jnz_3 hj
      have hn := nxk_1 hl (by omega)
      have hl' : okl (a 10) k (nxk (a 10) k l) := okl_nxk hl.2.1
      obtain ⟨b1, hb1, e1⟩ := p_nextK (a := a) (C := C) (co := nI P.length) (wo := nI (cnt P)) (ke := nI key) (op := nI br) (no := nI no) (wr := 0) (H := H) (d + 3) hk hs hb
      have hG := hg (nxk (a 10) k l) P C b1 hl' (by omega) hC hb1
      have hrk := hr (nxk (a 10) k l) P hl'
      rw [lp_t hj, p_j3 (d + 5) hl hj]
      cases hq : g (nxk (a 10) k l) P with
      | inl sf =>
        rw [hq] at hG
        obtain ⟨C', pa, to, co, wo, op, nt, bw, w, e2⟩ := hG
        refine ⟨C', pa, to, co, wo, op, nt, bw, w, ?_⟩
        simp only [S176_22, S176_23, S176_26, S176_27, S176_28, S176_29, S176_32, S176_33, S176_36, S176_37, S176_40, S176_41, S176_42, S176_45, Option.bind_some, Option.map_some, xpush_s, xpush_n, xcat_0, xcat_i, xcat_r, xcat_l, xcat_n, xcat_e, xir_r, Nat.reduceAdd, Nat.reduceLeDiff, Nat.zero_le, Nat.le_refl, ↓reduceIte, Mk_cls, Mk_15, e1, e2, Pcls, p_laysW]
        exact p_w3 (d + 5)
      | inr q =>
        rw [hq] at hG hrk
        obtain ⟨C', b', e2, hC', hb'⟩ := hG
        obtain ⟨r1, r2, r3, -⟩ := hrk
        have hq1 := r1.1
        have hq2 := r1.2.1
        have hz : q.2.length < 96 := by omega
        have hv := vlu_sg (a := a) j1
        have hx := tw j3
        have ih := p_lp3 d hk hs g hr hg m q.1 (q.2 ++ [20000 + nn (sg (a 10) l)]) (upd C' q.2.length (20000 + sg (a 10) l)) b' (some (.int (sg (a 10) l))) (by omega) r1 (by rw [len_snoc]; omega) (cM_snoc hC' hx) hb'
        rw [cnt_hi (by omega), len_snoc] at ih
        simp only [S176_22, S176_23, S176_26, S176_27, S176_28, S176_29, S176_32, S176_33, S176_36, S176_37, S176_40, S176_41, S176_42, S176_45, Option.bind_some, Option.map_some, xpush_s, xpush_n, xcat_0, xcat_i, xcat_r, xcat_l, xcat_n, xcat_e, xir_r, Nat.reduceAdd, Nat.reduceLeDiff, Nat.zero_le, Nat.le_refl, ↓reduceIte, Mk_cls, Mk_15, hv, e1, e2, Mk_lays _ hz]
        exact ih
    · rw [lp_f hj, p_n3 (d + 5) hl hj]
      exact ⟨C, b, rfl, hC, hb⟩
theorem p_w4 (d : Nat) {C : Nat → Int32} {pa be to co wo ke op nt bw : Int32} {w : Int64} {l1 : Option Value} : RF 177 (Ev (d + 1)) 4 [some (.ref 58), l1] [] (pm a s C pa be to co wo ke op nt 1 bw w H) = some (none, pm a s C pa be to co wo ke op nt 1 bw w H) := by
  simp only [S177_4, S177_5, S177_7, S177_10, S177_13, S177_14, S177_16, S177_19, S177_48, Option.bind_some, Option.map_some, xpush_s, xpush_n, xcat_0, xcat_i, xcat_r, xcat_l, xcat_n, xcat_e, xir_r, Nat.reduceAdd, Nat.reduceLeDiff, Nat.zero_le, Nat.le_refl, ↓reduceIte, Pcls, p_isSignW]
theorem p_j4 (d : Nat) {C : Nat → Int32} {l : lk} {co wo ke op nt : Int32} {b : Nat} {l1 : Option Value} (hl : okl (a 10) k l) (hj : jnz 4 (sg (a 10) l)) : RF 177 (Ev (d + 1)) 4 [some (.ref 58), l1] [] (mk' a s C l co wo ke op nt 0 b H) = RF 177 (Ev (d + 1)) 22 [some (.ref 58), l1] [] (mk' a s C l co wo ke op nt 0 b H) := by
  have n1 : ¬ (1 : Int32) = 0 := by decide
  have e0 := p_isSign (s := s) (C := C) (co := co) (wo := wo) (ke := ke) (op := op) (no := nt) (b := b) (H := H) d hl (c := 42) (by decide)
  have e1 := p_isSign (s := s) (C := C) (co := co) (wo := wo) (ke := ke) (op := op) (no := nt) (b := b) (H := H) d hl (c := 47) (by decide)
  have hj : sg (a 10) l = 42 ∨ sg (a 10) l = 47 := hj
  rcases hj with hj | hj
  · rw [bi_t hj] at e0
    simp only [S177_4, S177_5, S177_7, S177_10, S177_13, S177_14, S177_16, S177_19, Option.bind_some, Option.map_some, xpush_s, xpush_n, xcat_0, xcat_i, xcat_r, xcat_l, xcat_n, xcat_e, xir_r, Nat.reduceAdd, Nat.reduceLeDiff, Nat.zero_le, Nat.le_refl, ↓reduceIte, Mk_cls, e0, n1]
  · rw [bi_f (by rw [hj]; decide)] at e0
    rw [bi_t hj] at e1
    simp only [S177_4, S177_5, S177_7, S177_10, S177_13, S177_14, S177_16, S177_19, Option.bind_some, Option.map_some, xpush_s, xpush_n, xcat_0, xcat_i, xcat_r, xcat_l, xcat_n, xcat_e, xir_r, Nat.reduceAdd, Nat.reduceLeDiff, Nat.zero_le, Nat.le_refl, ↓reduceIte, Mk_cls, e0, e1, n1]
theorem p_n4 (d : Nat) {C : Nat → Int32} {l : lk} {co wo ke op nt : Int32} {b : Nat} {l1 : Option Value} (hl : okl (a 10) k l) (hj : ¬ jnz 4 (sg (a 10) l)) : RF 177 (Ev (d + 1)) 4 [some (.ref 58), l1] [] (mk' a s C l co wo ke op nt 0 b H) = some (none, mk' a s C l co wo ke op nt 0 b H) := by
  have e0 := p_isSign (s := s) (C := C) (co := co) (wo := wo) (ke := ke) (op := op) (no := nt) (b := b) (H := H) d hl (c := 42) (by decide)
  rw [bi_f (fun q => hj (Or.inl q))] at e0
  have e1 := p_isSign (s := s) (C := C) (co := co) (wo := wo) (ke := ke) (op := op) (no := nt) (b := b) (H := H) d hl (c := 47) (by decide)
  rw [bi_f (fun q => hj (Or.inr q))] at e1
  simp only [S177_4, S177_5, S177_7, S177_10, S177_13, S177_14, S177_16, S177_19, S177_48, Option.bind_some, Option.map_some, xpush_s, xpush_n, xcat_0, xcat_i, xcat_r, xcat_l, xcat_n, xcat_e, xir_r, Nat.reduceAdd, Nat.reduceLeDiff, Nat.zero_le, Nat.le_refl, ↓reduceIte, Mk_cls, e0, e1]
theorem p_lp4 (d : Nat) (hk : k ≤ 96) (hs : s 11 = nI k) {br no : Nat} (g : lk → List Nat → pr) (hr : ∀ l P, okl (a 10) k l → rok (a 10) k l P (g l P)) (hg : ∀ (l : lk) (P : List Nat) (C : Nat → Int32) (b : Nat), okl (a 10) k l → P.length < l.1 → cM C P → bwk k l b → rsM a s k key br no H (Ev (d + 6) 178 [.ref 58] (mk' a s C l (nI P.length) (nI (cnt P)) (nI key) (nI br) (nI no) 0 b H)) (g l P)) : ∀ (m : Nat) (l : lk) (P : List Nat) (C : Nat → Int32) (b : Nat) (l1 : Option Value), 96 < l.2.1 + m → okl (a 10) k l → P.length < l.1 → cM C P → bwk k l b → rsM a s k key br no H (RF 177 (Ev (d + 6)) 4 [some (.ref 58), l1] [] (mk' a s C l (nI P.length) (nI (cnt P)) (nI key) (nI br) (nI no) 0 b H)) (lp (a 10) k g 4 m l P)
  | 0, l, P, C, b, l1, h96, hl, hP, hC, hb => absurd hl.2.1 (by omega)
  | m + 1, l, P, C, b, l1, h96, hl, hP, hC, hb => by
    by_cases hj : jnz 4 (sg (a 10) l)
    · obtain ⟨j1, j2, j3⟩ := jnz_3 hj
      have hn := nxk_1 hl (by omega)
      have hl' : okl (a 10) k (nxk (a 10) k l) := okl_nxk hl.2.1
      obtain ⟨b1, hb1, e1⟩ := p_nextK (a := a) (C := C) (co := nI P.length) (wo := nI (cnt P)) (ke := nI key) (op := nI br) (no := nI no) (wr := 0) (H := H) (d + 3) hk hs hb
      have hG := hg (nxk (a 10) k l) P C b1 hl' (by omega) hC hb1
      have hrk := hr (nxk (a 10) k l) P hl'
      rw [lp_t hj, p_j4 (d + 5) hl hj]
      cases hq : g (nxk (a 10) k l) P with
      | inl sf =>
        rw [hq] at hG
        obtain ⟨C', pa, to, co, wo, op, nt, bw, w, e2⟩ := hG
        refine ⟨C', pa, to, co, wo, op, nt, bw, w, ?_⟩
        simp only [S177_22, S177_23, S177_26, S177_27, S177_28, S177_29, S177_32, S177_33, S177_36, S177_37, S177_40, S177_41, S177_42, S177_45, Option.bind_some, Option.map_some, xpush_s, xpush_n, xcat_0, xcat_i, xcat_r, xcat_l, xcat_n, xcat_e, xir_r, Nat.reduceAdd, Nat.reduceLeDiff, Nat.zero_le, Nat.le_refl, ↓reduceIte, Mk_cls, Mk_15, e1, e2, Pcls, p_laysW]
        exact p_w4 (d + 5)
      | inr q =>
        rw [hq] at hG hrk
        obtain ⟨C', b', e2, hC', hb'⟩ := hG
        obtain ⟨r1, r2, r3, -⟩ := hrk
        have hq1 := r1.1
        have hq2 := r1.2.1
        have hz : q.2.length < 96 := by omega
        have hv := vlu_sg (a := a) j1
        have hx := tw j3
        have ih := p_lp4 d hk hs g hr hg m q.1 (q.2 ++ [20000 + nn (sg (a 10) l)]) (upd C' q.2.length (20000 + sg (a 10) l)) b' (some (.int (sg (a 10) l))) (by omega) r1 (by rw [len_snoc]; omega) (cM_snoc hC' hx) hb'
        rw [cnt_hi (by omega), len_snoc] at ih
        simp only [S177_22, S177_23, S177_26, S177_27, S177_28, S177_29, S177_32, S177_33, S177_36, S177_37, S177_40, S177_41, S177_42, S177_45, Option.bind_some, Option.map_some, xpush_s, xpush_n, xcat_0, xcat_i, xcat_r, xcat_l, xcat_n, xcat_e, xir_r, Nat.reduceAdd, Nat.reduceLeDiff, Nat.zero_le, Nat.le_refl, ↓reduceIte, Mk_cls, Mk_15, hv, e1, e2, Mk_lays _ hz]
        exact ih
    · rw [lp_f hj, p_n4 (d + 5) hl hj]
      exact ⟨C, b, rfl, hC, hb⟩
def mth : Nat → Nat
  | 0 => 173
  | 1 => 174
  | 2 => 175
  | 3 => 176
  | 4 => 177
  | _ => 178
theorem p_wholeW (d : Nat) {C : Nat → Int32} {pa be to co wo ke op nt bw : Int32} {w : Int64} : Ev (d + 1) 173 [.ref 58] (pm a s C pa be to co wo ke op nt 1 bw w H) = some (none, pm a s C pa be to co wo ke op nt 1 bw w H) := by
  rw [E173]
  simp only [S173_0, S173_1, S173_4, S173_7, Option.bind_some, Option.map_some, xpush_s, xpush_n, xcat_0, xcat_i, xcat_r, xcat_l, xcat_n, xcat_e, xir_r, Nat.reduceAdd, Nat.reduceLeDiff, Nat.zero_le, Nat.le_refl, ↓reduceIte, Pg_21, show ¬ (1 : Int32) = 0 by decide]
theorem p_pieceW (d : Nat) {C : Nat → Int32} {pa be to co wo ke op nt bw : Int32} {w : Int64} : Ev (d + 1) 178 [.ref 58] (pm a s C pa be to co wo ke op nt 1 bw w H) = some (none, pm a s C pa be to co wo ke op nt 1 bw w H) := by
  rw [E178]
  simp only [S178_0, S178_1, S178_4, S178_7, Option.bind_some, Option.map_some, xpush_s, xpush_n, xcat_0, xcat_i, xcat_r, xcat_l, xcat_n, xcat_e, xir_r, Nat.reduceAdd, Nat.reduceLeDiff, Nat.zero_le, Nat.le_refl, ↓reduceIte, Pg_21, show ¬ (1 : Int32) = 0 by decide]
/-- the number of what is looked at, if it is one -/
theorem p_num {l : lk} (hl : okl (a 10) k l) (h2 : nI (tkn l) = 2) : l.2.2.2 = false ∧ l.2.2.1 = 2 ∧ vlu (a 10) l = vD (a 10) l.1 (l.2.1 - l.1) := by
  have ht : l.2.2.1 ≤ 3 := by rw [hl.2.2.1]; exact tya_le _ _ _
  unfold tkn at h2
  by_cases hb : l.2.2.2 = true
  · rw [if_pos hb] at h2; exact absurd h2 (by decide)
  · rw [if_neg hb] at h2
    have e : l.2.2.1 = 2 := (nI_eq (b := 2) (by omega) (by decide)).mp h2
    refine ⟨by simpa using hb, e, ?_⟩
    unfold vlu
    rw [if_neg (by omega), if_neg (by omega), if_pos e]
end MLEV
