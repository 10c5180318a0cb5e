/-! part 35: the class reads a text, levels -/
/-- the steps hold the program -/
def cS (S : Nat → Int32) (P : List Nat) : Prop := ∀ j (h : j < P.length), S j = cde P[j]
theorem cS_snoc {S : Nat → Int32} {P : List Nat} (h : cS S P) (c : Nat) : cS (upd S P.length (cde c)) (P ++ [c]) := by
  intro j hj
  rw [List.length_append] at hj
  have hj : j < P.length + 1 := hj
  by_cases e : j = P.length
  · subst e
    rw [up_s]
    simp
  · rw [up_n _ _ e, h j (by omega), List.getElem_append_left (by omega)]
theorem cnt_snoc (P : List Nat) (c : Nat) : cnt (P ++ [c]) = cnt P + (if c < 10004 then 1 else 0) := by
  induction P with
  | nil => simp [cnt]
  | cons t P ih => rw [List.cons_append, cnt, cnt, ih]; omega
theorem cnt_lo {P : List Nat} {c : Nat} (h : c < 10004) : cnt (P ++ [c]) = cnt P + 1 := by rw [cnt_snoc, if_pos h]
theorem cnt_hi {P : List Nat} {c : Nat} (h : ¬ c < 10004) : cnt (P ++ [c]) = cnt P := by rw [cnt_snoc, if_neg h]; rfl
theorem len_snoc (P : List Nat) (c : Nat) : (P ++ [c]).length = P.length + 1 := by rw [List.length_append]; rfl
section RLEV
variable {B : Nat → Int32} {H : xh} {k key : Nat}
/-- what a reading of the class comes to -/
def rsC (B : Nat → Int32) (H : xh) (k key : Nat) (o : Option xr) (r : pr) : Prop := match r with
  | .inl s => ∃ (l' : lk) (op' : Int32) (z' : Nat) (S' : Nat → Int32), o = some (some (.int 0), tpk k l' (nI key) op' (nI z') B S' H) ∧ l'.1 = s ∧ z' ≤ 96
  | .inr q => ∃ S' : Nat → Int32, o = some (some (.int 1), tpk k q.1 (nI key) (nI (cnt q.2)) (nI q.2.length) B S' H) ∧ cS S' q.2
theorem Kcls {l : lk} {ke op sz : Int32} {B S : Nat → Int32} : (xcls (tpk k l ke op sz B S H) (.ref 29) = 3) = True := Tcls
theorem K_as {l : lk} {ke op : Int32} {S : Nat → Int32} (d : Nat) {z : Nat} (hz : z < 96) (x : Int32) : Ev (d + 1) 47 [.ref 29, .int x] (tpk k l ke op (nI z) B S H) = some (none, tpk k l ke op (nI (z + 1)) B (upd S z x) H) := r_addStep d hz x
theorem K_asG {l : lk} {ke op : Int32} {S : Nat → Int32} (d : Nat) {z : Nat} (hz : z ≤ 96) (x : Int32) : ∃ z' S', z' ≤ 96 ∧ Ev (d + 1) 47 [.ref 29, .int x] (tpk k l ke op (nI z) B S H) = some (none, tpk k l ke op (nI z') B S' H) := r_addStepG d hz x
theorem K_w {l : lk} {ke op sz : Int32} {S : Nat → Int32} (d : Nat) (hl : okl B k l) : Ev (d + 1) 38 [.ref 29] (tpk k l ke op sz B S H) = some (some (.int (bi (isW l.2.2.1 = true))), tpk k l ke op sz B S H) := r_isWord d (by rw [hl.2.2.1]; exact tya_le _ _ _)
theorem K_look {l : lk} {ke op sz : Int32} {S : Nat → Int32} (d : Nat) (hk : k ≤ 96) (hl : okl B k l) : Ev (d + 2) 37 [.ref 29] (tpk k l ke op sz B S H) = some (none, tpk k (nxk B k l) ke op sz B S H) := r_look d hk hl.2.1 (by rw [hl.2.2.1]; exact tya_le _ _ _)
theorem r_lp0 (ev : xe) {l1 l2 l3 l7 : Option Value} {m i : Int32} {h : xh} : RF 42 ev 39 [some (.ref 29), l1, l2, l3, some (.int 0), some (.int m), some (.int i), l7] [] h = some (some (.int 0), h) := by
  by_cases hc : m ≤ i
  · simp only [S42_39, S42_41, S42_43, S42_46, S42_48, S42_51, S42_52, S42_53, S42_56, S42_59, S42_62, S42_63, S42_66, S42_68, S42_69, S42_72, S42_73, S42_74, S42_75, S42_76, S42_77, S42_78, S42_81, S42_83, S42_84, S42_86, S42_87, S42_90, S42_93, S42_96, S42_98, Option.bind_some, Option.map_some, xpush_s, xpush_n, xcat_0, xcat_i, xcat_r, xcat_l, xcat_n, xcat_e, xir_r, Nat.reduceAdd, Nat.reduceLeDiff, Nat.zero_le, Nat.le_refl, ↓reduceIte, hc, nar_0]
  · simp only [S42_39, S42_41, S42_43, S42_46, S42_48, S42_51, S42_52, S42_53, S42_56, S42_59, S42_62, S42_63, S42_66, S42_68, S42_69, S42_72, S42_73, S42_74, S42_75, S42_76, S42_77, S42_78, S42_81, S42_83, S42_84, S42_86, S42_87, S42_90, S42_93, S42_96, S42_98, Option.bind_some, Option.map_some, xpush_s, xpush_n, xcat_0, xcat_i, xcat_r, xcat_l, xcat_n, xcat_e, xir_r, Nat.reduceAdd, Nat.reduceLeDiff, Nat.zero_le, Nat.le_refl, ↓reduceIte, hc, nar_0]
theorem mst_le (lv : Nat) : mst lv ≤ 96 := by unfold mst; split <;> omega
theorem r_lp (d : Nat) (hk : k ≤ 96) {lv br no : Nat} (hlv : lv < 5) (g : lk → List Nat → pr) (hr : ∀ l P, okl B k l → rok B k l P (g l P)) (hg : ∀ (l : lk) (P : List Nat) (S : Nat → Int32), okl B k l → P.length < l.1 → cS S P → rsC B H k key (Ev (d + 3) 42 [.ref 29, .int (nI (lv + 1)), .int (nI br), .int (nI no)] (tpk k l (nI key) (nI (cnt P)) (nI P.length) B S H)) (g l P)) : ∀ m i (l : lk) (P : List Nat) (S : Nat → Int32) (l7 : Option Value), i + m = mst lv → okl B k l → P.length < l.1 → cS S P →
    rsC B H k key (RF 42 (Ev (d + 3)) 39 [some (.ref 29), some (.int (nI lv)), some (.int (nI br)), some (.int (nI no)), some (.int 1), some (.int (nI (mst lv))), some (.int (nI i)), l7] [] (tpk k l (nI key) (nI (cnt P)) (nI P.length) B S H)) (lp B k g lv m l P)
  | 0, i, l, P, S, l7, e, hl, hP, hS => by
    have e' : i = mst lv := by omega
    subst e'
    have hc : nI (mst lv) ≤ nI (mst lv) := Int32.le_refl _
    refine ⟨S, ?_, hS⟩
    rw [S42_39]
    simp only [S42_41, S42_43, S42_46, S42_48, S42_51, S42_52, S42_53, S42_56, S42_59, S42_62, S42_63, S42_66, S42_68, S42_69, S42_72, S42_73, S42_74, S42_75, S42_76, S42_77, S42_78, S42_81, S42_83, S42_84, S42_86, S42_87, S42_90, S42_93, S42_96, S42_98, Option.bind_some, Option.map_some, xpush_s, xpush_n, xcat_0, xcat_i, xcat_r, xcat_l, xcat_n, xcat_e, xir_r, Nat.reduceAdd, Nat.reduceLeDiff, Nat.zero_le, Nat.le_refl, ↓reduceIte, hc, nar_1]
  | m + 1, i, l, P, S, l7, e, hl, hP, hS => by
    have hml := mst_le lv
    have hc : ¬ nI (mst lv) ≤ nI i := nI_ge (by omega) (by omega)
    have n1 : ¬ (1 : Int32) = 0 := by decide
    have hsg := fun x => r_sign (ke := nI key) (op := nI (cnt P)) (sz := nI P.length) (S := S) (H := H) x hk hl
    by_cases hj : jnz lv (sg B l)
    · obtain ⟨j1, j2, j3⟩ := jnz_3 hj
      have hn := nxk_1 hl (by omega)
      have hl' : okl B k (nxk B k l) := okl_nxk hl.2.1
      have hG := hg (nxk B k l) P S hl' (by omega) hS
      have hrk := hr (nxk B k l) P hl'
      rw [lp_t hj]
      cases hq : g (nxk B k l) P with
      | inl s =>
        rw [hq] at hG
        obtain ⟨l', op', z', S', h1, h2, h3⟩ := hG
        obtain ⟨z2, S2, h4, h5⟩ := K_asG (k := k) (H := H) (B := B) (l := l') (ke := nI key) (op := op') (S := S') (d + 2) h3 (-(sg B l))
        refine ⟨l', op', z2, S2, ?_, h2, h4⟩
        rw [S42_39]
        simp only [S42_41, S42_43, S42_46, S42_48, S42_51, S42_52, S42_53, S42_56, S42_59, S42_62, S42_63, S42_66, S42_68, S42_69, S42_72, S42_73, S42_74, S42_75, S42_76, S42_77, S42_78, S42_81, S42_83, S42_84, S42_86, S42_87, S42_90, S42_93, S42_96, S42_98, Option.bind_some, Option.map_some, xpush_s, xpush_n, xcat_0, xcat_i, xcat_r, xcat_l, xcat_n, xcat_e, xir_r, Nat.reduceAdd, Nat.reduceLeDiff, Nat.zero_le, Nat.le_refl, ↓reduceIte, hc, n1, Kcls, hsg, r_joins_t _ hlv _ hj, K_look _ hk hl, nI_1, h1, h5]
        exact r_lp0 _
      | inr q =>
        rw [hq] at hG hrk
        obtain ⟨S', h1, h2⟩ := hG
        obtain ⟨r1, r2, r3, -⟩ := hrk
        have hql : q.1.1 ≤ 96 := by have := r1.1; have := r1.2.1; omega
        have has := K_as (k := k) (H := H) (B := B) (l := q.1) (ke := nI key) (op := nI (cnt q.2)) (S := S') (d + 2) (z := q.2.length) (by omega) (-(sg B l))
        have hcd : -(sg B l) = cde (20000 + nn (sg B l)) := by rw [cde_sg, ← j3]
        have ih := r_lp d hk hlv g hr hg m (i + 1) q.1 (q.2 ++ [20000 + nn (sg B l)]) (upd S' q.2.length (-(sg B l))) (some (.int (sg B l))) (by omega) r1 (by rw [len_snoc]; omega) (by rw [hcd]; exact cS_snoc h2 _)
        rw [cnt_hi (by omega), len_snoc] at ih
        rw [S42_39]
        simp only [S42_41, S42_43, S42_46, S42_48, S42_51, S42_52, S42_53, S42_56, S42_59, S42_62, S42_63, S42_66, S42_68, S42_69, S42_72, S42_73, S42_74, S42_75, S42_76, S42_77, S42_78, S42_81, S42_83, S42_84, S42_86, S42_87, S42_90, S42_93, S42_96, S42_98, Option.bind_some, Option.map_some, xpush_s, xpush_n, xcat_0, xcat_i, xcat_r, xcat_l, xcat_n, xcat_e, xir_r, Nat.reduceAdd, Nat.reduceLeDiff, Nat.zero_le, Nat.le_refl, ↓reduceIte, hc, n1, Kcls, hsg, r_joins_t _ hlv _ hj, K_look _ hk hl, nI_1, h1, has]
        exact ih
    · rw [lp_f hj]
      refine ⟨S, ?_, hS⟩
      rw [S42_39]
      simp only [S42_41, S42_43, S42_46, S42_48, S42_51, S42_52, S42_53, S42_56, S42_59, S42_62, S42_63, S42_66, S42_68, S42_69, S42_72, S42_73, S42_74, S42_75, S42_76, S42_77, S42_78, S42_81, S42_83, S42_84, S42_86, S42_87, S42_90, S42_93, S42_96, S42_98, Option.bind_some, Option.map_some, xpush_s, xpush_n, xcat_0, xcat_i, xcat_r, xcat_l, xcat_n, xcat_e, xir_r, Nat.reduceAdd, Nat.reduceLeDiff, Nat.zero_le, Nat.le_refl, ↓reduceIte, hc, n1, Kcls, hsg, r_joins_f _ hlv _ hj, nar_1]
/-- how deep a reading goes -/
def dee (lv br no : Nat) : Nat := 1 + (5 - lv) + 7 * (8 - br) + (8 - no)
theorem r_level (hkey : key ≤ 2) (hX : oX H) (hk : k ≤ 96) : ∀ f,
    (∀ d br no (l : lk) (P : List Nat) (S : Nat → Int32), dee 5 br no ≤ f → br ≤ 8 → no ≤ 8 → okl B k l → P.length < l.1 → cS S P → rsC B H k key (Ev (d + 2 * f + 10) 43 [.ref 29, .int (nI br), .int (nI no)] (tpk k l (nI key) (nI (cnt P)) (nI P.length) B S H)) (ps B k key f 5 br no l P)) ∧
    (∀ d lv br no (l : lk) (P : List Nat) (S : Nat → Int32), lv ≤ 5 → dee lv br no ≤ f → br ≤ 8 → no ≤ 8 → okl B k l → P.length < l.1 → cS S P → rsC B H k key (Ev (d + 2 * f + 11) 42 [.ref 29, .int (nI lv), .int (nI br), .int (nI no)] (tpk k l (nI key) (nI (cnt P)) (nI P.length) B S H)) (ps B k key f lv br no l P))
  | 0 => ⟨fun d br no l P S h => by unfold dee at h; omega, fun d lv br no l P S _ h => by unfold dee at h; omega⟩
  | f + 1 => by
    obtain ⟨ihA, ihL⟩ := r_level hkey hX hk f
    have hA : ∀ d br no (l : lk) (P : List Nat) (S : Nat → Int32), dee 5 br no ≤ f + 1 → br ≤ 8 → no ≤ 8 → okl B k l → P.length < l.1 → cS S P → rsC B H k key (Ev (d + 2 * (f + 1) + 10) 43 [.ref 29, .int (nI br), .int (nI no)] (tpk k l (nI key) (nI (cnt P)) (nI P.length) B S H)) (ps B k key (f + 1) 5 br no l P) := by
      intro d br no l P S hf hbr hno hl hP hS
      have n1 : ¬ (1 : Int32) = 0 := by decide
      have hlk : l.1 ≤ 96 := by have := hl.1; have := hl.2.1; omega
      have eD : d + 2 * (f + 1) + 10 = d + 2 * f + 11 + 1 := by omega
      rw [eD, E43]
      have hsg := fun x => r_sign (ke := nI key) (op := nI (cnt P)) (sz := nI P.length) (S := S) (H := H) x hk hl
      by_cases hW : isW l.2.2.1 = true
      · rw [ps_w hW]
        cases ho : opr B key l with
        | none =>
          refine ⟨l, nI (cnt P), P.length, S, ?_, rfl, by omega⟩
          have := r_operand_f (op := nI (cnt P)) (sz := nI P.length) (S := S) (d + 2 * f + 5) hkey hX hk hl hW ho
          simp only [S43_0, S43_1, S43_4, S43_7, S43_8, S43_11, S43_12, S43_13, S43_16, S43_17, S43_18, S43_20, S43_23, S43_24, S43_26, S43_29, S43_30, S43_33, S43_34, S43_35, S43_36, S43_37, S43_38, S43_41, S43_43, S43_44, S43_46, S43_49, S43_51, S43_52, S43_53, S43_55, S43_58, S43_59, S43_61, S43_64, S43_65, S43_68, S43_69, S43_70, S43_71, S43_72, S43_73, S43_74, S43_77, S43_80, S43_81, S43_84, S43_86, S43_89, S43_90, S43_91, S43_92, S43_95, S43_96, S43_97, S43_98, Option.bind_some, Option.map_some, xpush_s, xpush_n, xcat_0, xcat_i, xcat_r, xcat_l, xcat_n, xcat_e, xir_r, Nat.reduceAdd, Nat.reduceLeDiff, Nat.zero_le, Nat.le_refl, ↓reduceIte, Kcls, K_w _ hl, bi_t hW, n1, this, nar_0]
        | some c =>
          have hc := opr_lt hl ho
          have := r_operand_t (S := S) (o := cnt P) (d + 2 * f + 5) (z := P.length) hkey hX hk hl hW ho (by omega)
          refine ⟨upd S P.length (cde c), ?_, cS_snoc hS c⟩
          dsimp only
          rw [cnt_lo hc, len_snoc, cde_lo hc]
          simp only [S43_0, S43_1, S43_4, S43_7, S43_8, S43_11, S43_12, S43_13, S43_16, S43_17, S43_18, S43_20, S43_23, S43_24, S43_26, S43_29, S43_30, S43_33, S43_34, S43_35, S43_36, S43_37, S43_38, S43_41, S43_43, S43_44, S43_46, S43_49, S43_51, S43_52, S43_53, S43_55, S43_58, S43_59, S43_61, S43_64, S43_65, S43_68, S43_69, S43_70, S43_71, S43_72, S43_73, S43_74, S43_77, S43_80, S43_81, S43_84, S43_86, S43_89, S43_90, S43_91, S43_92, S43_95, S43_96, S43_97, S43_98, Option.bind_some, Option.map_some, xpush_s, xpush_n, xcat_0, xcat_i, xcat_r, xcat_l, xcat_n, xcat_e, xir_r, Nat.reduceAdd, Nat.reduceLeDiff, Nat.zero_le, Nat.le_refl, ↓reduceIte, Kcls, K_w _ hl, bi_t hW, n1, this, nar_1]
      · by_cases h1 : sg B l = 33 ∧ no < 8
        · rw [ps_n hW h1]
          have hn := nxk_1 hl (by have := (sg_3 h1.1 (by decide)).1; omega)
          have hl' : okl B k (nxk B k l) := okl_nxk hl.2.1
          have hG := ihA (d + 1) br (no + 1) (nxk B k l) P S (by unfold dee at hf ⊢; omega) hbr (by omega) hl' (by omega) hS
          rw [show d + 1 + 2 * f + 10 = d + 2 * f + 11 by omega] at hG
          have hrk := rok_ps B k key f 5 br (no + 1) (nxk B k l) P hl'
          have hno8 : ¬ (8 : Int32) ≤ nI no := nI_ge (b := 8) h1.2 (by decide)
          cases hq : ps B k key f 5 br (no + 1) (nxk B k l) P with
          | inl s =>
            rw [hq] at hG
            obtain ⟨l', op', z', S', e1, e2, e3⟩ := hG
            obtain ⟨z2, S2, e4, e5⟩ := K_asG (k := k) (H := H) (B := B) (l := l') (ke := nI key) (op := op') (S := S') (d + 2 * f + 10) e3 (-33)
            refine ⟨l', op', z2, S2, ?_, e2, e4⟩
            simp only [S43_0, S43_1, S43_4, S43_7, S43_8, S43_11, S43_12, S43_13, S43_16, S43_17, S43_18, S43_20, S43_23, S43_24, S43_26, S43_29, S43_30, S43_33, S43_34, S43_35, S43_36, S43_37, S43_38, S43_41, S43_43, S43_44, S43_46, S43_49, S43_51, S43_52, S43_53, S43_55, S43_58, S43_59, S43_61, S43_64, S43_65, S43_68, S43_69, S43_70, S43_71, S43_72, S43_73, S43_74, S43_77, S43_80, S43_81, S43_84, S43_86, S43_89, S43_90, S43_91, S43_92, S43_95, S43_96, S43_97, S43_98, Option.bind_some, Option.map_some, xpush_s, xpush_n, xcat_0, xcat_i, xcat_r, xcat_l, xcat_n, xcat_e, xir_r, Nat.reduceAdd, Nat.reduceLeDiff, Nat.zero_le, Nat.le_refl, ↓reduceIte, Kcls, K_w _ hl, bi_f hW, hsg, h1.1, hno8, K_look _ hk hl, nI_1, e1, e5, nar_0]
          | inr q =>
            rw [hq] at hG hrk
            obtain ⟨S', e1, e2⟩ := hG
            obtain ⟨r1, r2, r3, -⟩ := hrk
            have hql : q.1.1 ≤ 96 := by have := r1.1; have := r1.2.1; omega
            have has := K_as (k := k) (H := H) (B := B) (l := q.1) (ke := nI key) (op := nI (cnt q.2)) (S := S') (d + 2 * f + 10) (z := q.2.length) (by omega) (-33)
            refine ⟨upd S' q.2.length (cde 20033), ?_, cS_snoc e2 _⟩
            dsimp only
            rw [cnt_hi (by decide), len_snoc]
            simp only [S43_0, S43_1, S43_4, S43_7, S43_8, S43_11, S43_12, S43_13, S43_16, S43_17, S43_18, S43_20, S43_23, S43_24, S43_26, S43_29, S43_30, S43_33, S43_34, S43_35, S43_36, S43_37, S43_38, S43_41, S43_43, S43_44, S43_46, S43_49, S43_51, S43_52, S43_53, S43_55, S43_58, S43_59, S43_61, S43_64, S43_65, S43_68, S43_69, S43_70, S43_71, S43_72, S43_73, S43_74, S43_77, S43_80, S43_81, S43_84, S43_86, S43_89, S43_90, S43_91, S43_92, S43_95, S43_96, S43_97, S43_98, Option.bind_some, Option.map_some, xpush_s, xpush_n, xcat_0, xcat_i, xcat_r, xcat_l, xcat_n, xcat_e, xir_r, Nat.reduceAdd, Nat.reduceLeDiff, Nat.zero_le, Nat.le_refl, ↓reduceIte, Kcls, K_w _ hl, bi_f hW, hsg, h1.1, hno8, K_look _ hk hl, nI_1, e1, has, nar_1]
            rfl
        · by_cases h2 : sg B l = 40 ∧ br < 8
          · rw [ps_b hW h1 h2]
            have hn := nxk_1 hl (by have := (sg_3 h2.1 (by decide)).1; omega)
            have hl' : okl B k (nxk B k l) := okl_nxk hl.2.1
            have hG := ihL d 0 (br + 1) no (nxk B k l) P S (by omega) (by unfold dee at hf ⊢; omega) (by omega) hno hl' (by omega) hS
            rw [show nI 0 = 0 from rfl] at hG
            have hrk := rok_ps B k key f 0 (br + 1) no (nxk B k l) P hl'
            have hbr8 : ¬ (8 : Int32) ≤ nI br := nI_ge (b := 8) h2.2 (by decide)
            have n33 : ¬ (40 : Int32) = 33 := by decide
            cases hq : ps B k key f 0 (br + 1) no (nxk B k l) P with
            | inl s =>
              rw [hq] at hG
              obtain ⟨l', op', z', S', e1, e2, e3⟩ := hG
              refine ⟨l', op', z', S', ?_, e2, e3⟩
              simp only [S43_0, S43_1, S43_4, S43_7, S43_8, S43_11, S43_12, S43_13, S43_16, S43_17, S43_18, S43_20, S43_23, S43_24, S43_26, S43_29, S43_30, S43_33, S43_34, S43_35, S43_36, S43_37, S43_38, S43_41, S43_43, S43_44, S43_46, S43_49, S43_51, S43_52, S43_53, S43_55, S43_58, S43_59, S43_61, S43_64, S43_65, S43_68, S43_69, S43_70, S43_71, S43_72, S43_73, S43_74, S43_77, S43_80, S43_81, S43_84, S43_86, S43_89, S43_90, S43_91, S43_92, S43_95, S43_96, S43_97, S43_98, Option.bind_some, Option.map_some, xpush_s, xpush_n, xcat_0, xcat_i, xcat_r, xcat_l, xcat_n, xcat_e, xir_r, Nat.reduceAdd, Nat.reduceLeDiff, Nat.zero_le, Nat.le_refl, ↓reduceIte, Kcls, K_w _ hl, bi_f hW, hsg, h2.1, n33, hbr8, K_look _ hk hl, nI_1, e1, nar_0]
            | inr q =>
              rw [hq] at hG hrk
              obtain ⟨S', e1, e2⟩ := hG
              obtain ⟨r1, r2, r3, -⟩ := hrk
              have hsq := fun x => r_sign (ke := nI key) (op := nI (cnt q.2)) (sz := nI q.2.length) (S := S') (H := H) x hk r1
              dsimp only
              by_cases h41 : sg B q.1 = 41
              · rw [if_pos h41]
                refine ⟨S', ?_, e2⟩
                simp only [S43_0, S43_1, S43_4, S43_7, S43_8, S43_11, S43_12, S43_13, S43_16, S43_17, S43_18, S43_20, S43_23, S43_24, S43_26, S43_29, S43_30, S43_33, S43_34, S43_35, S43_36, S43_37, S43_38, S43_41, S43_43, S43_44, S43_46, S43_49, S43_51, S43_52, S43_53, S43_55, S43_58, S43_59, S43_61, S43_64, S43_65, S43_68, S43_69, S43_70, S43_71, S43_72, S43_73, S43_74, S43_77, S43_80, S43_81, S43_84, S43_86, S43_89, S43_90, S43_91, S43_92, S43_95, S43_96, S43_97, S43_98, Option.bind_some, Option.map_some, xpush_s, xpush_n, xcat_0, xcat_i, xcat_r, xcat_l, xcat_n, xcat_e, xir_r, Nat.reduceAdd, Nat.reduceLeDiff, Nat.zero_le, Nat.le_refl, ↓reduceIte, Kcls, K_w _ hl, bi_f hW, hsg, h2.1, n33, n1, hbr8, K_look _ hk hl, K_look _ hk r1, nI_1, e1, hsq, h41, nar_1]
              · rw [if_neg h41]
                have hql : q.1.1 ≤ 96 := by have := r1.1; have := r1.2.1; omega
                refine ⟨q.1, nI (cnt q.2), q.2.length, S', ?_, rfl, by omega⟩
                simp only [S43_0, S43_1, S43_4, S43_7, S43_8, S43_11, S43_12, S43_13, S43_16, S43_17, S43_18, S43_20, S43_23, S43_24, S43_26, S43_29, S43_30, S43_33, S43_34, S43_35, S43_36, S43_37, S43_38, S43_41, S43_43, S43_44, S43_46, S43_49, S43_51, S43_52, S43_53, S43_55, S43_58, S43_59, S43_61, S43_64, S43_65, S43_68, S43_69, S43_70, S43_71, S43_72, S43_73, S43_74, S43_77, S43_80, S43_81, S43_84, S43_86, S43_89, S43_90, S43_91, S43_92, S43_95, S43_96, S43_97, S43_98, Option.bind_some, Option.map_some, xpush_s, xpush_n, xcat_0, xcat_i, xcat_r, xcat_l, xcat_n, xcat_e, xir_r, Nat.reduceAdd, Nat.reduceLeDiff, Nat.zero_le, Nat.le_refl, ↓reduceIte, Kcls, K_w _ hl, bi_f hW, hsg, h2.1, n33, n1, hbr8, K_look _ hk hl, nI_1, e1, hsq, h41, nar_0]
          · rw [ps_x hW h1 h2]
            refine ⟨l, nI (cnt P), P.length, S, ?_, rfl, by omega⟩
            by_cases s33 : sg B l = 33
            · have n8 : (8 : Int32) ≤ nI no := nI_le (a := 8) (by have : ¬ no < 8 := fun h => h1 ⟨s33, h⟩; omega) (by omega)
              simp only [S43_0, S43_1, S43_4, S43_7, S43_8, S43_11, S43_12, S43_13, S43_16, S43_17, S43_18, S43_20, S43_23, S43_24, S43_26, S43_29, S43_30, S43_33, S43_34, S43_35, S43_36, S43_37, S43_38, S43_41, S43_43, S43_44, S43_46, S43_49, S43_51, S43_52, S43_53, S43_55, S43_58, S43_59, S43_61, S43_64, S43_65, S43_68, S43_69, S43_70, S43_71, S43_72, S43_73, S43_74, S43_77, S43_80, S43_81, S43_84, S43_86, S43_89, S43_90, S43_91, S43_92, S43_95, S43_96, S43_97, S43_98, Option.bind_some, Option.map_some, xpush_s, xpush_n, xcat_0, xcat_i, xcat_r, xcat_l, xcat_n, xcat_e, xir_r, Nat.reduceAdd, Nat.reduceLeDiff, Nat.zero_le, Nat.le_refl, ↓reduceIte, Kcls, K_w _ hl, bi_f hW, hsg, s33, n8, show ¬ (33 : Int32) = 40 by decide, nar_0]
            · by_cases s40 : sg B l = 40
              · have n8 : (8 : Int32) ≤ nI br := nI_le (a := 8) (by have : ¬ br < 8 := fun h => h2 ⟨s40, h⟩; omega) (by omega)
                simp only [S43_0, S43_1, S43_4, S43_7, S43_8, S43_11, S43_12, S43_13, S43_16, S43_17, S43_18, S43_20, S43_23, S43_24, S43_26, S43_29, S43_30, S43_33, S43_34, S43_35, S43_36, S43_37, S43_38, S43_41, S43_43, S43_44, S43_46, S43_49, S43_51, S43_52, S43_53, S43_55, S43_58, S43_59, S43_61, S43_64, S43_65, S43_68, S43_69, S43_70, S43_71, S43_72, S43_73, S43_74, S43_77, S43_80, S43_81, S43_84, S43_86, S43_89, S43_90, S43_91, S43_92, S43_95, S43_96, S43_97, S43_98, Option.bind_some, Option.map_some, xpush_s, xpush_n, xcat_0, xcat_i, xcat_r, xcat_l, xcat_n, xcat_e, xir_r, Nat.reduceAdd, Nat.reduceLeDiff, Nat.zero_le, Nat.le_refl, ↓reduceIte, Kcls, K_w _ hl, bi_f hW, hsg, s40, n8, show ¬ (40 : Int32) = 33 by decide, nar_0]
              · simp only [S43_0, S43_1, S43_4, S43_7, S43_8, S43_11, S43_12, S43_13, S43_16, S43_17, S43_18, S43_20, S43_23, S43_24, S43_26, S43_29, S43_30, S43_33, S43_34, S43_35, S43_36, S43_37, S43_38, S43_41, S43_43, S43_44, S43_46, S43_49, S43_51, S43_52, S43_53, S43_55, S43_58, S43_59, S43_61, S43_64, S43_65, S43_68, S43_69, S43_70, S43_71, S43_72, S43_73, S43_74, S43_77, S43_80, S43_81, S43_84, S43_86, S43_89, S43_90, S43_91, S43_92, S43_95, S43_96, S43_97, S43_98, Option.bind_some, Option.map_some, xpush_s, xpush_n, xcat_0, xcat_i, xcat_r, xcat_l, xcat_n, xcat_e, xir_r, Nat.reduceAdd, Nat.reduceLeDiff, Nat.zero_le, Nat.le_refl, ↓reduceIte, Kcls, K_w _ hl, bi_f hW, hsg, if_neg s33, if_neg s40, nar_0]
    refine ⟨hA, ?_⟩
    intro d lv br no l P S hlv5 hf hbr hno hl hP hS
    have eD : d + 2 * (f + 1) + 11 = d + 2 * f + 12 + 1 := by omega
    rw [eD, E42]
    by_cases hlv : lv < 5
    · rw [ps_lv hlv]
      have h5 : nI lv < 5 := nI_lt (b := 5) hlv (by decide)
      have hG := ihL (d + 1) (lv + 1) br no l P S (by omega) (by unfold dee at hf ⊢; omega) hbr hno hl hP hS
      rw [show d + 1 + 2 * f + 11 = d + 2 * f + 12 by omega] at hG
      have hrk := rok_ps B k key f (lv + 1) br no l P hl
      have most : ∀ (g : Int32) (h : xh), RF 42 (Ev (d + 2 * f + 12)) 23 [some (.ref 29), some (.int (nI lv)), some (.int (nI br)), some (.int (nI no)), some (.int g), none, none, none] [] h = RF 42 (Ev (d + 2 * f + 12)) 39 [some (.ref 29), some (.int (nI lv)), some (.int (nI br)), some (.int (nI no)), some (.int g), some (.int (nI (mst lv))), some (.int (nI 0)), none] [] h := by
        intro g h
        by_cases e2 : lv = 2
        · subst e2
          simp only [S42_23, S42_24, S42_25, S42_28, S42_29, S42_32, S42_34, S42_36, S42_37, Option.bind_some, Option.map_some, xpush_s, xpush_n, xcat_0, xcat_i, xcat_r, xcat_l, xcat_n, xcat_e, xir_r, Nat.reduceAdd, Nat.reduceLeDiff, Nat.zero_le, Nat.le_refl, ↓reduceIte, show (nI 2 = 2) = True from eq_true rfl]
          rfl
        · have e2' : ¬ nI lv = 2 := fun q => e2 ((nI_eq (b := 2) (by omega) (by decide)).mp q)
          simp only [S42_23, S42_24, S42_25, S42_28, S42_29, S42_32, S42_34, S42_36, S42_37, Option.bind_some, Option.map_some, xpush_s, xpush_n, xcat_0, xcat_i, xcat_r, xcat_l, xcat_n, xcat_e, xir_r, Nat.reduceAdd, Nat.reduceLeDiff, Nat.zero_le, Nat.le_refl, ↓reduceIte, if_neg e2', mst, if_neg e2]
          rfl
      cases hq : ps B k key f (lv + 1) br no l P with
      | inl s =>
        rw [hq] at hG
        obtain ⟨l', op', z', S', e1, e2, e3⟩ := hG
        refine ⟨l', op', z', S', ?_, e2, e3⟩
        simp only [S42_0, S42_1, S42_2, S42_5, S42_6, S42_7, S42_8, S42_11, S42_12, S42_13, S42_14, S42_15, S42_16, S42_17, S42_18, S42_21, Option.bind_some, Option.map_some, xpush_s, xpush_n, xcat_0, xcat_i, xcat_r, xcat_l, xcat_n, xcat_e, xir_r, Nat.reduceAdd, Nat.reduceLeDiff, Nat.zero_le, Nat.le_refl, ↓reduceIte, h5, Kcls, nI_1, e1]
        rw [most]
        exact r_lp0 _
      | inr q =>
        rw [hq] at hG hrk
        obtain ⟨S', e1, e2⟩ := hG
        obtain ⟨r1, r2, r3, -⟩ := hrk
        have hL := r_lp (H := H) (key := key) (d + 2 * f + 9) hk (br := br) (no := no) hlv (fun l P => ps B k key f (lv + 1) br no l P) (fun l P h => rok_ps B k key f (lv + 1) br no l P h) (fun l P S h1 h2 h3 => by
          have := ihL (d + 1) (lv + 1) br no l P S (by omega) (by unfold dee at hf ⊢; omega) hbr hno h1 h2 h3
          rw [show d + 1 + 2 * f + 11 = d + 2 * f + 9 + 3 by omega] at this
          exact this) (mst lv) 0 q.1 q.2 S' none (by omega) r1 (by omega) e2
        simp only [S42_0, S42_1, S42_2, S42_5, S42_6, S42_7, S42_8, S42_11, S42_12, S42_13, S42_14, S42_15, S42_16, S42_17, S42_18, S42_21, Option.bind_some, Option.map_some, xpush_s, xpush_n, xcat_0, xcat_i, xcat_r, xcat_l, xcat_n, xcat_e, xir_r, Nat.reduceAdd, Nat.reduceLeDiff, Nat.zero_le, Nat.le_refl, ↓reduceIte, h5, Kcls, nI_1, e1]
        rw [most]
        exact hL
    · have e5 : lv = 5 := by omega
      subst e5
      have h5 : ¬ nI 5 < 5 := by decide
      have hG := hA d br no l P S hf hbr hno hl hP hS
      rw [show d + 2 * (f + 1) + 10 = d + 2 * f + 12 by omega] at hG
      cases hq : ps B k key (f + 1) 5 br no l P with
      | inl s =>
        rw [hq] at hG
        obtain ⟨l', op', z', S', e1, e2, e3⟩ := hG
        refine ⟨l', op', z', S', ?_, e2, e3⟩
        simp only [S42_0, S42_1, S42_2, S42_5, S42_6, S42_7, S42_8, S42_11, S42_12, S42_13, S42_14, S42_15, S42_16, S42_17, S42_18, S42_21, Option.bind_some, Option.map_some, xpush_s, xpush_n, xcat_0, xcat_i, xcat_r, xcat_l, xcat_n, xcat_e, xir_r, Nat.reduceAdd, Nat.reduceLeDiff, Nat.zero_le, Nat.le_refl, ↓reduceIte, h5, Kcls, e1, nar_0]
      | inr q =>
        rw [hq] at hG
        obtain ⟨S', e1, e2⟩ := hG
        refine ⟨S', ?_, e2⟩
        simp only [S42_0, S42_1, S42_2, S42_5, S42_6, S42_7, S42_8, S42_11, S42_12, S42_13, S42_14, S42_15, S42_16, S42_17, S42_18, S42_21, Option.bind_some, Option.map_some, xpush_s, xpush_n, xcat_0, xcat_i, xcat_r, xcat_l, xcat_n, xcat_e, xir_r, Nat.reduceAdd, Nat.reduceLeDiff, Nat.zero_le, Nat.le_refl, ↓reduceIte, h5, Kcls, e1, nar_1]
end RLEV
