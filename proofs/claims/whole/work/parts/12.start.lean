/-! THE CLAIM OUT OF ONE WALK OF THE LAW'S BODY. Your part is whole_start (and what it stands on); all else here is the same for every law, but numbers. -/
def R_law : String := "RiverProofLaw"
def lw_P (b : Addr) (xs : List Int32) (args : Array Value) (s : State) : Prop := args = #[.ref b] ∧ s.IntsAt b xs ∧ xs.length ≤ 3072 ∧ (Jvm.Cond.and given_1 narrow_1).before args s = true
def lw_Q (_ : Array Value) (s : State) (o : Outcome) (t : State) : Prop := o = .returned (some (.int 1)) ∧ Framed s o t [] 600000 7302249
def lw_Z (below : List Frame) (a : Array Value) (s : State) : State → Prop := fun t => ∃ o, t.status = .running ∧ Ended t below o ∧ lw_Q a s o t
/-- the law's own end, with 1 on the stack, nothing written that was there before, its room as the claim has it -/
theorem lw_ret {p : Program} {l : Launch} {e : Env} {s : State} {m : MethodId} {below : List Frame} {meth : Method} {c : Code} {b : Nat} (hx : p.tables.exec = Jvm.exec) (hb : c.code = code) (hr : meth.sig.returnType = ret) (hlocks : meth.locks = false) {pc : Nat} {H : Heap} {ls : Array Slot} (hdg : decode code pc = .ok (.ireturn, 1)) : W p l e room_1 s m #[Value.ref b] below meth c H [] 600000 7302249 (lw_Z below #[Value.ref b] s) (F0 m pc ls [.int 1]) := by
  intro T hT X
  obtain ⟨fs, hret, hrun, hended, hW, hframe⟩ := X.leave (v := some (.int 1)) (hlocks := hlocks) (fun h => by rw [hr] at h; cases h)
  have hmeth' : T.vm.method? m = some meth := X.method'
  refine ⟨T.setFrames fs, ?_, .returned (some (.int 1)), hrun, hended, rfl, ⟨_, rfl⟩, hW, hframe⟩
  jvm_step X.here [X.here.top, hx, hb, hdg, hmeth', hr, ret, narrow_b1]
  (try refine ⟨rfl, ?_⟩); (try refine ⟨rfl, ?_⟩)
  first | (intro acts; rw [hret _ acts rfl rfl rfl]) | rw [hret _ _ rfl rfl rfl]
  exact Steps.refl _
/-- what holds at the law's entry: the machine, the code, the tables' words (any of lw_tbl by 'hts w (by decide +kernel)'), the script of L ints xs at the cell b, what the Statement gives of the start (any of its parts by flat_of_before) -/
def lw_At (p : Program) (s : State) (m : MethodId) (meth : Method) (c : Code) (b L : Nat) (xs : Nat → Int32) : Prop :=
  p.tables.exec = Jvm.exec ∧ c.code = code ∧ meth.sig.returnType = ret ∧ c.maxLocals = 4 ∧ s.vm.findClass R_law = some m.cls ∧ (∀ w ∈ lw_tbl, w.before #[Value.ref b] s = true) ∧ va_X b L xs s s.heap ∧ b < s.heap.size ∧ meth.locks = false ∧ (Jvm.Cond.and given_1 narrow_1).before #[Value.ref b] s = true

/-! part 12: the start: the outer things, and the law as a run of the machine of part 03 -/
def x_ab : Nat → Int32 := fun k => match k with
  | 0 => -1
  | 3 => 1
  | 4 => 2
  | _ => 0
def x_si : List Nat := [80, 86, 88, 121, 123, 125]
def x_sn : List Nat := [6, 3, 4, 4, 2, 2]
def x_sb : List (List Int32) := [[115, 116, 114, 111, 107, 101], [102, 101, 101], [102, 105, 110, 101], [105, 119, 116, 110], [115, 102], [105, 116]]
def x_tm (i : Nat) : Term := Term.string "RiverProof$Tape" (x_si.getD i 0)
def x_ext (L : Nat) (xs : Nat → Int32) : Nat → xc := fun e => match e with
  | 0 => .inl (0, L, xs)
  | 1 => .inl (0, 6, x_ab)
  | 2 => .inr (.inr (7, [.retAddr 12, .int 0]))
  | 3 => .inr (.inr (7, [.retAddr 13, .int 0]))
  | 4 => .inr (.inr (7, [.retAddr 14, .int 0]))
  | 5 => .inr (.inr (7, [.retAddr 15, .int 0]))
  | 6 => .inr (.inr (7, [.retAddr 16, .int 0]))
  | 7 => .inr (.inr (7, [.retAddr 17, .int 0]))
  | 12 => .inl (2, x_sn.getD 0 0, fun j => (x_sb.getD 0 []).getD j 0)
  | 13 => .inl (2, x_sn.getD 1 0, fun j => (x_sb.getD 1 []).getD j 0)
  | 14 => .inl (2, x_sn.getD 2 0, fun j => (x_sb.getD 2 []).getD j 0)
  | 15 => .inl (2, x_sn.getD 3 0, fun j => (x_sb.getD 3 []).getD j 0)
  | 16 => .inl (2, x_sn.getD 4 0, fun j => (x_sb.getD 4 []).getD j 0)
  | 17 => .inl (2, x_sn.getD 5 0, fun j => (x_sb.getD 5 []).getD j 0)
  | _ => xnil
def x_h0 (L : Nat) (xs : Nat → Int32) : xh := (0, 0, fun _ => xnil, x_ext L xs)
def x_ex (b t : Nat) (adK adV : Nat → Nat) (f : Value) : Nat → Value := fun e => match e with
  | 0 => .ref b
  | 1 => .ref t
  | 2 => .ref (adK 0)
  | 3 => .ref (adK 1)
  | 4 => .ref (adK 2)
  | 5 => .ref (adK 3)
  | 6 => .ref (adK 4)
  | 7 => .ref (adK 5)
  | 12 => .ref (adV 0)
  | 13 => .ref (adV 1)
  | 14 => .ref (adV 2)
  | 15 => .ref (adV 3)
  | 16 => .ref (adV 4)
  | 17 => .ref (adV 5)
  | 20 => f
  | _ => .null
abbrev x_fl : List Cond := flatC (Jvm.Cond.and given_1 narrow_1)
theorem xz_ab : Cond.arrayOf (.static "RiverProof" "ABOVE" "[I") .int ∈ x_fl ∧ Cond.eq (.length (.static "RiverProof" "ABOVE" "[I")) (.int 6) ∈ x_fl ∧ (∀ j : Nat, j < 6 → Cond.eq (.elem (.static "RiverProof" "ABOVE" "[I") (.int (Int32.ofNat j))) (.int (x_ab j)) ∈ x_fl) ∧ Cond.eq (.static "java/lang/String" "COMPACT_STRINGS" "Z") (.int 1) ∈ x_fl ∧ Cond.isRef (.static "jdk/internal/util/Preconditions" "SIOOBE_FORMATTER" "Ljava/util/function/BiFunction;") ∈ x_fl := by decide +kernel
theorem xz_s1 : ∀ i : Nat, i < 6 → Cond.exactly (x_tm i) "java/lang/String" ∈ x_fl ∧ Cond.eq (.field (x_tm i) "java/lang/String" "coder" "B") (.int 0) ∈ x_fl ∧ Cond.arrayOf (.field (x_tm i) "java/lang/String" "value" "[B") .byte ∈ x_fl ∧ Cond.eq (.length (.field (x_tm i) "java/lang/String" "value" "[B")) (.int (Int32.ofNat (x_sn.getD i 0))) ∈ x_fl := by decide +kernel
theorem xz_s2 : ∀ i : Nat, i < 6 → ∀ j : Nat, j < x_sn.getD i 0 → Cond.eq (.elem (.field (x_tm i) "java/lang/String" "value" "[B") (.int (Int32.ofNat j))) (.int ((x_sb.getD i []).getD j 0)) ∈ x_fl := by decide +kernel
theorem xz_s3 : ∀ i : Nat, i < 6 → ∀ j : Nat, j < 6 → i ≠ j → Cond.not (Cond.eq (x_tm i) (x_tm j)) ∈ x_fl ∨ Cond.not (Cond.eq (x_tm j) (x_tm i)) ∈ x_fl := by decide +kernel
theorem xz_sl : ∀ i : Nat, i < 6 → x_sn.getD i 0 < 2 ^ 31 := by decide +kernel
set_option maxRecDepth 100000 in
theorem xz_st : Cond.laysStatic "RiverProof" "ABOVE" "[I" ∈ lw_tbl ∧ Cond.initialized "RiverProof" ∈ lw_tbl ∧ Cond.laysStatic "java/lang/String" "COMPACT_STRINGS" "Z" ∈ lw_tbl ∧ Cond.initialized "java/lang/String" ∈ lw_tbl ∧ Cond.laysStatic "jdk/internal/util/Preconditions" "SIOOBE_FORMATTER" "Ljava/util/function/BiFunction;" ∈ lw_tbl ∧ Cond.initialized "jdk/internal/util/Preconditions" ∈ lw_tbl := ⟨List.mem_of_getElem? (i := 360) rfl, List.mem_of_getElem? (i := 57) rfl, List.mem_of_getElem? (i := 617) rfl, List.mem_of_getElem? (i := 68) rfl, List.mem_of_getElem? (i := 633) rfl, List.mem_of_getElem? (i := 70) rfl⟩
set_option maxRecDepth 100000 in
theorem xz_sr : ∀ i : Nat, i < 6 → Cond.stringRef "RiverProof$Tape" (x_si.getD i 0) (["stroke", "fee", "fine", "iwtn", "sf", "it"].getD i "") ∈ lw_tbl := by
  intro i hi
  match i, hi with
  | 0, _ => exact List.mem_of_getElem? (i := 603) rfl
  | 1, _ => exact List.mem_of_getElem? (i := 656) rfl
  | 2, _ => exact List.mem_of_getElem? (i := 657) rfl
  | 3, _ => exact List.mem_of_getElem? (i := 678) rfl
  | 4, _ => exact List.mem_of_getElem? (i := 679) rfl
  | 5, _ => exact List.mem_of_getElem? (i := 680) rfl
  | n + 6, h => exact absurd h (by omega)
theorem xz_arr {s : State} {args : Array Value} {ty : FieldType} (h : (Cond.arrayClass ty).before args s = true) : ∃ c : ClassId, ArrOfT s c ty ∧ s.vm.findClass ("[" ++ ty.toString) = some c := by
  obtain ⟨c, k, comp, h1, h2, h3⟩ := Cond.arrayClass_spec h
  exact ⟨c, fun n z => ⟨fun k h => (by cases h), k, h2, comp, h3⟩, h1⟩
theorem xz_arq {s : State} {args : Array Value} {C : String} (h : (Cond.arrayOver (.object C)).before args s = true) : ∃ c : ClassId, ArrOfT s c (.object C) ∧ va_RA s c (.object C) := by
  obtain ⟨comp, c, k, h1, -, h3, h4, h5⟩ := Cond.arrayOver_spec h
  exact ⟨c, fun n z => ⟨fun k h => (by cases h), k, h3, comp, h4⟩, k, comp, h3, h4, h1, h5⟩
/-- what the Statement gives at the law's entry -/
theorem x_start {p : Program} {s : State} {m : MethodId} {meth : Method} {c : Code} {b L : Nat} {xs : Nat → Int32} (C0 : lw_At p s m meth c b L xs) : ∃ G : xg, G.1 = s ∧ xK G ∧ xX G (x_ext L xs) ∧ G.2.2.2.2.1 0 = .ref b := by
  obtain ⟨hx, hb, hr, hml, hown, hts, hX, hbl, hlocks, hgv⟩ := id C0
  have hF := flat_of_before _ hgv
  have hA : ∀ a : Nat, a < s.heap.size → ¬ (fun q : Nat => s.heap.size ≤ q) a := fun a h => Nat.not_le.mpr h
  -- classes
  have hKn : ∀ ci : Nat, ∃ (cC : ClassId) (iS : Nat → Nat), ci < 7 → u_Kn s (xcn ci) (xFs.getD ci xF0) (xdv ci).length cC iS := by
    intro ci
    by_cases h7 : ci < 7
    · obtain ⟨cC, iS, h⟩ := u_known (C := xcn ci) (T := xFs.getD ci xF0) (N := (xdv ci).length) (n := (xdv ci).length) hts (xcl_at h7).2.1 (hts _ (xinst_in ci (x_mem7 h7)))
      exact ⟨cC, iS, fun _ => h⟩
    · exact ⟨0, fun _ => 0, fun h => absurd h h7⟩
  obtain ⟨dC, hdC⟩ := Classical.axiomOfChoice hKn
  obtain ⟨dI, hdI⟩ := Classical.axiomOfChoice hdC
  have hca : ∀ kd : Nat, ∃ c : ClassId, kd < 2 → ArrOfT s c (xkt kd) ∧ s.vm.findClass ("[" ++ (xkt kd).toString) = some c := by
    intro kd
    by_cases h2 : kd < 2
    · obtain ⟨c, h⟩ := xz_arr (hts _ (xac_in kd (by rcases (show kd = 0 ∨ kd = 1 by omega) with rfl | rfl <;> decide)))
      exact ⟨c, fun _ => h⟩
    · exact ⟨0, fun h => absurd h h2⟩
  obtain ⟨ca, hca⟩ := Classical.axiomOfChoice hca
  have hcq : ∀ ci : Nat, ∃ c : ClassId, ci = 1 ∨ ci = 2 ∨ ci = 4 → ArrOfT s c (.object (xcn ci)) ∧ va_RA s c (.object (xcn ci)) := by
    intro ci
    by_cases h2 : ci = 1 ∨ ci = 2 ∨ ci = 4
    · obtain ⟨c, h⟩ := xz_arq (hts _ (xAO_in ci (by rcases h2 with rfl | rfl | rfl <;> decide)))
      exact ⟨c, fun _ => h⟩
    · exact ⟨0, fun h => absurd h h2⟩
  obtain ⟨cq, hcq⟩ := Classical.axiomOfChoice hcq
  -- statics
  obtain ⟨a1, a2, a3, a4, a5⟩ := xz_ab
  obtain ⟨t, ht, hT⟩ := va_Tof (N := 6) (f := fun j => .int (x_ab j)) (A := fun q => s.heap.size ≤ q) (by decide) (hF _ a1) (va_eqt (hF _ a2)) (fun j hj => va_eqt (hF _ (a3 j hj))) hA
  obtain ⟨b1, b2, b3, b4, b5, b6⟩ := xz_st
  have z1 := va_Zref (A := fun q => s.heap.size ≤ q) (hts _ b1) (hts _ b2) ht hA
  have z2 := va_Zof (A := fun q => s.heap.size ≤ q) (hts _ b3) (hts _ b4) (va_eqi (hF _ a4)) hA
  have z3 : ∃ f : Value, ((∃ a : Nat, f = .ref a) ∨ f = .null) ∧ va_Z "jdk/internal/util/Preconditions" "SIOOBE_FORMATTER" "Ljava/util/function/BiFunction;" f (fun q => s.heap.size ≤ q) s s.heap := by
    rcases va_Zqof (A := fun q => s.heap.size ≤ q) (hts _ b5) (hts _ b6) (hF _ a5) hA with h | ⟨t, h⟩
    · exact ⟨_, Or.inr rfl, h⟩
    · exact ⟨_, Or.inl ⟨t, rfl⟩, h⟩
  obtain ⟨f, hf, z3⟩ := z3
  -- texts
  obtain ⟨adK, adV, hS, hev⟩ := vk_Sof (N := 6) (tm := x_tm) (len := x_sn) (byt := x_sb) (A := fun q => s.heap.size ≤ q) xz_sl (fun i hi => hF _ (xz_s1 i hi).1) (fun i hi => hF _ (xz_s1 i hi).2.1) (fun i hi => hF _ (xz_s1 i hi).2.2.1) (fun i hi => hF _ (xz_s1 i hi).2.2.2) (fun i hi j hj => hF _ (xz_s2 i hi j hj)) (fun i j hi hj hij => (xz_s3 i hi j hj hij).imp (hF _) (hF _)) hA
  have hR : ∀ i : Nat, i < 6 → ∃ tx : String, vk_R "RiverProof$Tape" (x_si.getD i 0) tx (adK i) s := fun i hi => ⟨_, vk_R.of (hts _ (xz_sr i hi)) (hev i hi)⟩
  refine ⟨(s, (dC, dI), ca, cq, x_ex b t adK adV f, #[Value.ref b]), rfl, ⟨hts, ?_, hca, hcq, ?_, ⟨z1, z2, z3⟩, ?_⟩, ⟨?_, ?_, ?_⟩, rfl⟩
  · intro ci q hq
    have h7 : ci < 7 := (List.getElem?_eq_some_iff.mp hq).1
    rw [(xcl_at h7).1] at hq
    cases hq
    exact hdI ci h7
  · intro e
    show (∃ a : Nat, x_ex b t adK adV f e = .ref a) ∨ x_ex b t adK adV f e = .null
    unfold x_ex
    split
    all_goals first | exact Or.inl ⟨_, rfl⟩ | exact Or.inr rfl | exact hf
  · intro k e hk
    have hm := xlk_mem hk
    simp only [xlS, List.mem_cons, Prod.mk.injEq, List.not_mem_nil, or_false] at hm
    rcases hm with hm0 | hm1 | hm2 | hm3 | hm4 | hm5
    · obtain ⟨e1, e2⟩ := hm0
      subst e1; subst e2
      obtain ⟨tx, h⟩ := hR 0 (by decide)
      exact ⟨tx, adK 0, rfl, h⟩
    · obtain ⟨e1, e2⟩ := hm1
      subst e1; subst e2
      obtain ⟨tx, h⟩ := hR 1 (by decide)
      exact ⟨tx, adK 1, rfl, h⟩
    · obtain ⟨e1, e2⟩ := hm2
      subst e1; subst e2
      obtain ⟨tx, h⟩ := hR 2 (by decide)
      exact ⟨tx, adK 2, rfl, h⟩
    · obtain ⟨e1, e2⟩ := hm3
      subst e1; subst e2
      obtain ⟨tx, h⟩ := hR 3 (by decide)
      exact ⟨tx, adK 3, rfl, h⟩
    · obtain ⟨e1, e2⟩ := hm4
      subst e1; subst e2
      obtain ⟨tx, h⟩ := hR 4 (by decide)
      exact ⟨tx, adK 4, rfl, h⟩
    · obtain ⟨e1, e2⟩ := hm5
      subst e1; subst e2
      obtain ⟨tx, h⟩ := hR 5 (by decide)
      exact ⟨tx, adK 5, rfl, h⟩
  · intro e kd n g he
    have T0 : va_T .int b L (fun j => .int (xs j)) (fun q => s.heap.size ≤ q) s s.heap := by
      obtain ⟨scr, h1, h2, h3, h4, h5⟩ := hX
      exact ⟨scr, h1, h2, h3, (by rw [h4]; exact Nat.le_refl _), (by rw [h4]), h5, Nat.not_le.mpr hbl⟩
    unfold x_ext at he
    split at he
    · cases he; exact ⟨b, rfl, T0⟩
    · cases he; exact ⟨t, rfl, hT⟩
    · cases he
    · cases he
    · cases he
    · cases he
    · cases he
    · cases he
    · cases he; exact ⟨adV 0, rfl, (hS.1 0 (by decide)).2.2.2⟩
    · cases he; exact ⟨adV 1, rfl, (hS.1 1 (by decide)).2.2.2⟩
    · cases he; exact ⟨adV 2, rfl, (hS.1 2 (by decide)).2.2.2⟩
    · cases he; exact ⟨adV 3, rfl, (hS.1 3 (by decide)).2.2.2⟩
    · cases he; exact ⟨adV 4, rfl, (hS.1 4 (by decide)).2.2.2⟩
    · cases he; exact ⟨adV 5, rfl, (hS.1 5 (by decide)).2.2.2⟩
    · cases he
  · intro e ci fs he hne
    have go : ∀ i : Nat, i < 6 → ci = 7 → fs = [.retAddr (12 + i), .int 0] → x_ex b t adK adV f (12 + i) = .ref (adV i) → x_ex b t adK adV f e = .ref (adK i) → ci = 7 ∧ ∃ t' : Nat, x_ex b t adK adV f e = .ref t' ∧ va_O "java/lang/String" t' (fun q => s.heap.size ≤ q) s s.heap ∧ (∀ v : Value, fs[0]? = some v → va_OF "java/lang/String" "value" "[B" (xcv (s, (dC, dI), ca, cq, x_ex b t adK adV f, #[Value.ref b]) v) t' (fun q => s.heap.size ≤ q) s s.heap) ∧ (∀ v : Value, fs[1]? = some v → va_OF "java/lang/String" "coder" "B" (xcv (s, (dC, dI), ca, cq, x_ex b t adK adV f, #[Value.ref b]) v) t' (fun q => s.heap.size ≤ q) s s.heap) ∧ ∀ k : Nat, 2 ≤ k → fs[k]? = none := by
      intro i hi h1 h2 h3 h4
      obtain ⟨s1, s2, s3, -⟩ := hS.1 i hi
      subst h2
      refine ⟨h1, adK i, h4, s1, fun v hv => ?_, fun v hv => ?_, fun k hk => ?_⟩
      · cases hv
        show va_OF "java/lang/String" "value" "[B" (x_ex b t adK adV f (12 + i)) (adK i) _ s s.heap
        rw [h3]
        exact s3
      · cases hv
        exact s2
      · match k, hk with
        | k + 2, _ => rfl
    have he0 := he
    unfold x_ext at he
    split at he
    · cases he
    · cases he
    · cases he; exact go 0 (by decide) rfl rfl rfl rfl
    · cases he; exact go 1 (by decide) rfl rfl rfl rfl
    · cases he; exact go 2 (by decide) rfl rfl rfl rfl
    · cases he; exact go 3 (by decide) rfl rfl rfl rfl
    · cases he; exact go 4 (by decide) rfl rfl rfl rfl
    · cases he; exact go 5 (by decide) rfl rfl rfl rfl
    · cases he
    · cases he
    · cases he
    · cases he
    · cases he
    · cases he
    · exact absurd (he0.trans he.symm) hne
  · intro e q he
    unfold x_ext at he
    split at he <;> cases he
/-- the law, out of a run of the machine of part 03 -/
theorem x_law {p : Program} {e : Env} {s : State} {m : MethodId} {below : List Frame} {meth : Method} {c : Code} (l : Launch) {b L : Nat} {xs : Nat → Int32} (C0 : lw_At p s m meth c b L xs) {d : Nat} (hd : d ≤ 1300) {h' : xh} (hrun : RF 198 (Ev d) 0 [some (.retAddr 0), none, none, none] [] (x_h0 L xs) = some (some (.int 1), h')) (h1 : h'.1 ≤ 600000) (h2 : h'.2.1 ≤ 7302249) : W p l e room_1 s m #[Value.ref b] below meth c s.heap [] 0 0 (lw_Z below #[Value.ref b] s) (entryFrame m ([Value.ref b] : List Value).toArray 4) := by
  obtain ⟨G, rfl, hK, hX, hb0⟩ := x_start C0
  obtain ⟨hx, hb, hr, hml, hown, hts, -, hbl, hlocks, hgv⟩ := id C0
  obtain ⟨n, hn⟩ := RF_to hrun
  have F : xFr G 198 p G.1 m meth c := ⟨hx, hb, hml, hown, hr, hlocks, (fun q => by cases q), State.WarmedH.refl _, hK⟩
  obtain ⟨-, g2⟩ := x_run (R := room_1) (n0 := 0) (s0 := 0) (e := e) (args := #[Value.ref b]) (below := below) (Q := lw_Z below #[Value.ref b] G.1) (Ev_ok G hK l d) F (by show d + 1 ≤ 2048; omega) (by show 64 * (d + 1) ≤ 84000; omega) (by decide) (by show h'.1 - 0 ≤ 600000; omega) (by show h'.2.1 - 0 ≤ 7302249; omega) (fun pc i len L' st h'' hdd hln hs => by
    rcases x_end hs with ⟨rfl, v, ty, rfl, hty, hn, hre⟩ | ⟨rfl, v, ty, rfl, hv, hty, hr9, hre⟩ | ⟨rfl, rfl, hty, hre⟩
    · cases hre
      refine ⟨⟨Nat.le_refl _, Nat.le_refl _⟩, fun _ _ H locs ls hR hL => ?_⟩
      refine va_forget (fun q hq => hR.2.2.2.1 q hq) ?_
      refine W.widen (k := 600000) (n := 7302249) (by show h'.1 - 0 ≤ _; omega) (by show h'.2.1 - 0 ≤ _; omega) ?_
      exact lw_ret hx hb hr hlocks (x_len rfl (by decide) hln hdd)
    · cases hty
      cases hr9
    · cases hre) n 0 _ [] _ hn
  rw [lg_entry_eq]
  have hR0 : xR G (x_h0 L xs) G.1.heap [] := ⟨rfl, fun k hk => absurd rfl hk, fun _ _ => rfl, (fun q hq => by cases hq), hX⟩
  have g3 := g2 (Nat.le_refl _) (Nat.le_refl _) G.1.heap [] _ hR0 (xL_entry (n := 4) (a := [.retAddr 0]) hK.2.2.2.2.1 (by decide) (fun _ => rfl))
  rw [show [Value.retAddr 0].map (xcv G) = [Value.ref b] from congrArg (fun z => [z]) hb0] at g3
  exact g3
