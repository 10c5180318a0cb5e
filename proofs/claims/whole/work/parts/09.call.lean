/-! part 09: calls -/
def xPc (G : xg) (h : xh) (a : List Value) : Array Value → State → Prop := fun v U => v = (a.map (xcv G)).toArray ∧ xR G h U.heap [] ∧ G.1.WarmedH U.vm
def xQc (G : xg) (r : xr) : Array Value → State → Outcome → State → Prop := fun _ _ oc t => oc = .returned (r.1.map (xcv G)) ∧ xR G r.2 t.heap []
def xrm (d mc ms : Nat) : Room := { frames := d, cells := mc, slots := ms, locals := 64 * d }
def xMet (G : xg) (l : Launch) (d y : Nat) (a : List Value) (h : xh) (r : xr) : Prop := (h.1 ≤ r.2.1 ∧ h.2.1 ≤ r.2.2.1) ∧ Met l (xmd y).1 [xwC y] (xrm d (r.2.1 - h.1) (r.2.2.1 - h.2.1)) (xPc G h a) (xQc G r) (r.2.1 - h.1) (r.2.2.1 - h.2.1) (xA G)
def xEvOk (G : xg) (l : Launch) (d : Nat) (ev : xe) : Prop := ∀ (y : Nat) (a : List Value) (h : xh) (r : xr), y ≠ xobji → ev y a h = some r → xMet G l d y a h r
theorem xPc_blind (G : xg) (h : xh) (a : List Value) : FrameBlind (xPc G h a) := fun _ _ _ _ q => q
theorem xmd_mem (y : Nat) : xmd y ∈ xms := by
  unfold xmd
  rw [List.getD_eq_getElem?_getD]
  cases hq : xms[y]? with
  | none => exact List.mem_of_getElem? (i := 0) rfl
  | some q => exact List.mem_of_getElem? hq
theorem xmd_ok (y : Nat) : (plainFor (xmd y).1 = true ∨ (xmd y).1.cls = "java/lang/Object") ∧ (xmd y).1.cls ≠ "java/lang/invoke/MethodHandle" ∧ (xmd y).1.cls ≠ "java/lang/invoke/VarHandle" ∧ xcn (xown y) = (xmd y).1.cls ∧ xmax y ≤ 40 ∧ (xini y = true → (xmd y).1.name = "<init>") := by
  have h := List.all_eq_true.mp xms_ok _ (xmd_mem y)
  simp only [Bool.and_eq_true, Bool.or_eq_true, decide_eq_true_eq] at h
  obtain ⟨⟨⟨⟨⟨h1, h2⟩, h3⟩, h4⟩, h5⟩, h6⟩ := h
  exact ⟨h1, h2, h3, h4, h5, h6⟩
section XS5
variable {p : Program} {l : Launch} {e : Env} {R : Room} {s : State} {m : MethodId} {args : Array Value} {below : List Frame} {meth : Method} {c : Code} {Q : State → Prop}
variable {G : xg} {y n0 s0 pc d : Nat} {L : xl} {st rest As : List Value} {h : xh} {ev : xe} {r : xr}
theorem x_cont {H : Heap} {locs : List Loc} {ls : Array Slot} {st0 : List Value} {av : Array Value} (hrun : va_Run p l e R s m args below meth c H locs (h.1 - n0) (h.2.1 - s0) (r.2.1 - h.1) (r.2.2.1 - h.2.1) (F0 m pc ls st0) (rest.map (xcv G)) (xQc G r av) (xA G)) (hm : h.1 ≤ r.2.1 ∧ h.2.1 ≤ r.2.2.1) (h1 : n0 ≤ h.1) (h2 : s0 ≤ h.2.1) (hR : xR G h H locs) (hL : xL G (xnj y) (xmax y) L ls) (k : xWs G y p l e R s m args below meth c Q n0 s0 (pc + 3) L (r.1.toList ++ rest) r.2) : W p l e R s m args below meth c H locs (h.1 - n0) (h.2.1 - s0) Q (F0 m pc ls st0) := by
  intro T hT X
  obtain ⟨v, st₀, t, T', L2, g0, X', hL2, e1, e2, ⟨hv, hR'⟩, go⟩ := hrun T hT X
  cases hv
  have hR2 : xR G r.2 T'.heap (locs ++ L2) := by
    rw [e1]
    refine hR'.locs (fun q hq => ?_)
    rcases List.mem_append.mp hq with z | z
    · exact hR.2.2.2.1 q z
    · exact hL2 q z
  have k1 := k (Nat.le_trans h1 hm.1) (Nat.le_trans h2 hm.2) T'.heap (locs ++ L2) ls hR2 hL
  have q1 : r.2.1 - n0 = h.1 - n0 + (r.2.1 - h.1) := by omega
  have q2 : r.2.2.1 - s0 = h.2.1 - s0 + (r.2.2.1 - h.2.1) := by omega
  rw [q1, q2, List.map_append] at k1
  obtain ⟨t2, a1, b1⟩ := k1 T' rfl X'
  refine ⟨t2, go t2 ?_, b1⟩
  have q3 : (r.1.map (xcv G)).toList = r.1.toList.map (xcv G) := by cases r.1 <;> rfl
  rw [q3]
  exact a1
theorem x_callfix (F : xFr G y p s m meth c) : CallFix p m c (xmd y).2.1 (xmax y) s args [] (xcn (xown y)) := ⟨F.1, F.2.1, F.2.2.1, F.2.2.2.1, fun w h => by cases h⟩
theorem x_wcode (F : xFr G y p s m meth c) {mm : Nat} (hm : mm ∈ xcal) : ∀ w ∈ [xwC mm], ∀ (a' : Array Value) (U : State), s.WarmedH U.vm → w.before a' U = true := by
  intro w hw a' U hU
  cases List.mem_singleton.mp hw
  exact word_at (args := #[]) hU (Or.inl rfl) (F.2.2.2.2.2.2.2.2.w F.2.2.2.2.2.2.2.1 (xwC_in mm hm) rfl)
theorem x_pre (F : xFr G y p s m meth c) {H : Heap} {locs : List Loc} (hR : xR G h H locs) : ∀ U : State, U.heap = H → s.WarmedH U.vm → xPc G h As (As.map (xcv G)).toArray U := fun U hU hW => ⟨rfl, by rw [hU]; exact hR.locs (fun q hq => by cases hq), F.2.2.2.2.2.2.2.1.trans hW⟩
/-- what the tables say of a call -/
theorem xlM_at {i mm n kd : Nat} (hl : xlk (xkey y i) xlM = some (mm, n, kd)) (h9 : mm ≠ 999) : (mm ∈ xcal ∧ (mm ∈ xcal1 ∨ mm = xobji) ∧ (kd = 0 → mm ∈ xsta) ∧ (kd = 1 → mm ∈ xvir ∧ mm ∈ xins) ∧ (kd = 2 → mm ∈ xspe ∧ mm ∈ xins) ∧ (parseMethodDescriptor (xmd mm).1.desc).map (fun d => d.parameters.length) = some n) ∧ ((xkey y i ∈ xnest ∧ Cond.methodLinkNest (xcn (xown y)) i (xmd mm).1 "RiverProof" ∈ lw_tbl) ∨ (xkey y i ∉ xnest ∧ Cond.methodLink (xcn (xown y)) i (xmd mm).1 ∈ lw_tbl)) := by
  have hk : xkey y i ≠ 99999999 := by
    intro e
    rw [e, xlM_no] at hl
    cases hl
  obtain ⟨g1, g2⟩ := x_key rfl hk
  have hm : (xkey y i, mm, n, kd) ∈ xl1M := List.mem_filter.mpr ⟨xlk_mem hl, decide_eq_true h9⟩
  have ho := List.all_eq_true.mp xlM_ok _ hm
  simp only [Bool.and_eq_true, decide_eq_true_eq] at ho
  obtain ⟨⟨⟨⟨⟨o1, o2⟩, o3⟩, o4⟩, o5⟩, o6⟩ := ho
  refine ⟨⟨o1, o2, o3, o4, o5, o6⟩, ?_⟩
  have hw := xwM_in _ hm
  unfold xwM at hw
  dsimp only at hw
  by_cases hn : xkey y i ∈ xnest
  · rw [if_pos hn, g1, g2] at hw
    exact Or.inl ⟨hn, hw⟩
  · rw [if_neg hn, g1, g2] at hw
    exact Or.inr ⟨hn, hw⟩
theorem x_init (F : xFr G y p s m meth c) {mm : Nat} (hm : mm ∈ xcal1) : (Cond.initialized (xmd mm).1.cls).before args s = true := F.2.2.2.2.2.2.2.2.w F.2.2.2.2.2.2.2.1 (xwT_in mm hm) rfl
theorem x_par {mm n : Nat} (h6 : (parseMethodDescriptor (xmd mm).1.desc).map (fun d => d.parameters.length) = some n) : ∀ sig, parseMethodDescriptor (xmd mm).1.desc = some sig → n = sig.parameters.length := by
  intro sig hs
  rw [hs] at h6
  exact (Option.some.inj h6).symm
theorem x_stk (As rest : List Value) : (As.reverse ++ rest).map (xcv G) = (As.map (xcv G)).reverse ++ rest.map (xcv G) := by rw [List.map_append, List.map_reverse]
theorem xs_calls (F : xFr G y p s m meth c) (hev : xEvOk G l d ev) {i mm n : Nat} (hd : decode (xmd y).2.1 pc = .ok (.invokestatic i, 3)) (hl : xlk (xkey y i) xlM = some (mm, n, 0)) (h9 : mm ≠ 999) (hn : As.length = n) (hcat : xcat rest ≤ 8) (he : ev mm As h = some r) (hRf : d + 1 ≤ R.frames) (hRl : 64 * (d + 1) ≤ R.locals) : (h.1 ≤ r.2.1 ∧ h.2.1 ≤ r.2.2.1) ∧ (r.2.1 - n0 ≤ R.cells → r.2.2.1 - s0 ≤ R.slots → xWs G y p l e R s m args below meth c Q n0 s0 (pc + 3) L (r.1.toList ++ rest) r.2 → xWs G y p l e R s m args below meth c Q n0 s0 pc L (As.reverse ++ rest) h) := by
  obtain ⟨⟨o1, o2, o3, -, -, o6⟩, ow⟩ := xlM_at hl h9
  have hs := o3 rfl
  have hne : mm ≠ xobji := fun q => absurd (q ▸ hs) (by decide +kernel)
  have hi1 : mm ∈ xcal1 := o2.resolve_right hne
  obtain ⟨hm, hM⟩ := hev mm As h r hne he
  refine ⟨hm, fun hc hsl k h1 h2 H locs ls hR hL => ?_⟩
  have hK := F.2.2.2.2.2.2.2.2
  have hW := F.2.2.2.2.2.2.2.1
  obtain ⟨-, y1, y2, -, y3, -⟩ := xmd_ok mm
  have y3' : (xmd mm).2.2.1 ≤ 40 := y3
  rw [x_stk]
  have hroom : 2 * (F0 m pc ls ((As.map (xcv G)).reverse ++ rest.map (xcv G))).monitorRoom + ((rest.map (xcv G)).map fun v => v.category).sum ≤ 8 := by
    rw [xcat_map hK.2.2.2.2.1]
    show 2 * 0 + _ ≤ 8
    omega
  rcases ow with ⟨-, ow⟩ | ⟨-, ow⟩
  · refine x_cont (va_runSN (x_callfix F) hM ⟨⟨⟨rfl, rfl, hRf, by show 8 + ((xmd mm).2.2.1 + 11) + 64 * d ≤ _; omega, x_wcode F o1, List.mem_singleton.mpr rfl⟩, hK.w hW (xwC_in mm o1) rfl, x_init F hi1, ⟨y1, y2⟩, x_par o6, va_Nw.use rfl (va_Nw.warmM hW (va_Nw.of rfl (hK.1 _ ow)))⟩, hK.w hW (xwA_in mm hs) rfl, trivial⟩ ⟨xPc_blind G h As, x_pre F hR⟩ rfl (by rw [List.length_map]; exact hn) hL.1 rfl hroom hd ⟨by show h.1 - n0 + (r.2.1 - h.1) ≤ _; omega, by show h.2.1 - s0 + (r.2.2.1 - h.2.1) ≤ _; omega⟩) hm h1 h2 hR hL k
  · refine x_cont (va_runS (x_callfix F) hM ⟨⟨rfl, rfl, hRf, by show 8 + ((xmd mm).2.2.1 + 11) + 64 * d ≤ _; omega, x_wcode F o1, List.mem_singleton.mpr rfl, hK.w hW (xwC_in mm o1) rfl, x_init F hi1, ⟨y1, y2⟩, x_par o6, hK.w hW ow rfl⟩, hK.w hW (xwA_in mm hs) rfl⟩ ⟨xPc_blind G h As, x_pre F hR⟩ rfl (by rw [List.length_map]; exact hn) hL.1 rfl hroom hd ⟨by show h.1 - n0 + (r.2.1 - h.1) ≤ _; omega, by show h.2.1 - s0 + (r.2.2.1 - h.2.1) ≤ _; omega⟩) hm h1 h2 hR hL k
theorem xs_calli (F : xFr G y p s m meth c) (hev : xEvOk G l d ev) {i mm n a : Nat} (hd : decode (xmd y).2.1 pc = .ok (.invokespecial i, 3)) (hl : xlk (xkey y i) xlM = some (mm, n, 2)) (h9 : mm ≠ 999) (hne : mm ≠ xobji) (hn : As.length = n) (hcat : xcat rest ≤ 8) (he : ev mm (.ref a :: As) h = some r) (hRf : d + 1 ≤ R.frames) (hRl : 64 * (d + 1) ≤ R.locals) : (h.1 ≤ r.2.1 ∧ h.2.1 ≤ r.2.2.1) ∧ (r.2.1 - n0 ≤ R.cells → r.2.2.1 - s0 ≤ R.slots → xWs G y p l e R s m args below meth c Q n0 s0 (pc + 3) L (r.1.toList ++ rest) r.2 → xWs G y p l e R s m args below meth c Q n0 s0 pc L (As.reverse ++ .ref a :: rest) h) := by
  obtain ⟨⟨o1, o2, -, -, o5, o6⟩, ow⟩ := xlM_at hl h9
  obtain ⟨hs, hin⟩ := o5 rfl
  have hi1 : mm ∈ xcal1 := o2.resolve_right hne
  obtain ⟨hm, hM⟩ := hev mm (.ref a :: As) h r hne he
  refine ⟨hm, fun hc hsl k h1 h2 H locs ls hR hL => ?_⟩
  have hK := F.2.2.2.2.2.2.2.2
  have hW := F.2.2.2.2.2.2.2.1
  obtain ⟨-, y1, y2, -, y3, -⟩ := xmd_ok mm
  have y3' : (xmd mm).2.2.1 ≤ 40 := y3
  have hsp := List.all_eq_true.mp xspe_ok mm hs
  simp only [Bool.and_eq_true, decide_eq_true_eq] at hsp
  have hC : xwC mm = Cond.code (xmd mm).1 (xmd mm).2.1 (xmd mm).2.2.1 none := by unfold xwC; rw [hsp.2]
  have hcw : Cond.code (xmd mm).1 (xmd mm).2.1 (xmd mm).2.2.1 none ∈ [xwC mm] := by rw [hC]; exact List.mem_singleton.mpr rfl
  have hcb : (Cond.code (xmd mm).1 (xmd mm).2.1 (xmd mm).2.2.1 none).before args s = true := by rw [← hC]; exact hK.w hW (xwC_in mm o1) rfl
  rw [x_stk]
  have hroom : 2 * (F0 m pc ls ((As.map (xcv G)).reverse ++ (.ref a :: rest).map (xcv G))).monitorRoom + ((rest.map (xcv G)).map fun v => v.category).sum ≤ 8 := by
    rw [xcat_map hK.2.2.2.2.1]
    show 2 * 0 + _ ≤ 8
    omega
  rcases ow with ⟨-, ow⟩ | ⟨-, ow⟩
  · refine x_cont (va_runIN (b := gz G + a) (As := As.map (xcv G)) (x_callfix F) hM ⟨⟨⟨rfl, rfl, hRf, by show 8 + ((xmd mm).2.2.1 + 11) + 64 * d ≤ _; omega, x_wcode F o1, hcw⟩, hcb, x_init F hi1, ⟨y1, y2⟩, x_par o6, va_Nw.use rfl (va_Nw.warmM hW (va_Nw.of rfl (hK.1 _ ow)))⟩, hsp.1, hK.w hW (xwI_in mm hin) rfl⟩ ⟨xPc_blind G h (.ref a :: As), x_pre (As := .ref a :: As) F hR⟩ rfl (by rw [List.length_map]; exact hn) hL.1 rfl hroom hd ⟨by show h.1 - n0 + (r.2.1 - h.1) ≤ _; omega, by show h.2.1 - s0 + (r.2.2.1 - h.2.1) ≤ _; omega⟩) hm h1 h2 hR hL k
  · refine x_cont (va_runI (b := gz G + a) (As := As.map (xcv G)) (x_callfix F) hM ⟨⟨rfl, rfl, hRf, by show 8 + ((xmd mm).2.2.1 + 11) + 64 * d ≤ _; omega, x_wcode F o1, hcw, hcb, x_init F hi1, ⟨y1, y2⟩, x_par o6, hK.w hW ow rfl⟩, hsp.1, hK.w hW (xwI_in mm hin) rfl⟩ ⟨xPc_blind G h (.ref a :: As), x_pre (As := .ref a :: As) F hR⟩ rfl (by rw [List.length_map]; exact hn) hL.1 rfl hroom hd ⟨by show h.1 - n0 + (r.2.1 - h.1) ≤ _; omega, by show h.2.1 - s0 + (r.2.2.1 - h.2.1) ≤ _; omega⟩) hm h1 h2 hR hL k
/-- the receiver stands -/
theorem x_recv (F : xFr G y p s m meth c) {H : Heap} {locs : List Loc} (hR : xR G h H locs) {v : Value} {mm : Nat} (hv : mm ∈ xvir) (hc : xcls h v = xcix mm) : ∃ b : Nat, xcv G v = .ref b ∧ ∃ cellB : Cell, H[b]? = some cellB ∧ cellB.vm.isStatics = false ∧ s.vm.findClass (xmd mm).1.cls = some cellB.cls := by
  have hK := F.2.2.2.2.2.2.2.2
  have hW := F.2.2.2.2.2.2.2.1
  have ho := of_decide_eq_true (List.all_eq_true.mp xvir_ok mm hv)
  unfold xcls at hc
  cases hg : hget h v with
  | inl q => rw [hg] at hc; dsimp only at hc; omega
  | inr q =>
    cases q with
    | inl q => rw [hg] at hc; dsimp only at hc; omega
    | inr q =>
      obtain ⟨ci, fs⟩ := q
      rw [hg] at hc
      dsimp only at hc
      cases v with
      | ref a =>
        have ha : h.2.2.1 a = .inr (.inr (ci, fs)) := hg
        have g1 := (hR.2.1 a (by rw [ha]; exact xnil_o (by omega))).2
        rw [ha] at g1
        obtain ⟨r', hr', cell, q1, q2, q3, -⟩ := g1
        rcases ho with ⟨o1, o2⟩ | ⟨o1, o2⟩
        · have hKn := (hK.v0 hW).1 ci _ (xcl_at (ci := ci) (by omega)).1
          refine ⟨gz G + a, rfl, cell, q1, by rw [q3]; rfl, ?_⟩
          rw [o2, ← hc, q2]
          exact hKn.2.1
        · have hr2 : xcl[ci]? = some r' := hr'
          rw [hc, o1] at hr2
          cases hr2
      | retAddr q =>
        have ha : h.2.2.2 q = .inr (.inr (ci, fs)) := hg
        obtain ⟨e7, t, t1, t2, -⟩ := hR.2.2.2.2.2.1 q ci fs ha (by rw [ha]; exact xnil_o (by omega))
        rcases ho with ⟨o1, o2⟩ | ⟨o1, o2⟩
        · omega
        · obtain ⟨cell, c1, c2, c3, c4⟩ := va_O.moved hW.alike t2
          refine ⟨t, t1, cell, by rw [hR.2.2.1 t (Nat.not_le.mp c4)]; exact c1, c2, ?_⟩
          rw [o2]
          exact c3
      | _ =>
        unfold hget xnil at hg
        cases hg
        omega
theorem xs_callv (F : xFr G y p s m meth c) (hev : xEvOk G l d ev) {i mm n : Nat} {v : Value} (hd : decode (xmd y).2.1 pc = .ok (.invokevirtual i, 3)) (hl : xlk (xkey y i) xlM = some (mm, n, 1)) (h9 : mm ≠ 999) (hn : As.length = n) (hcat : xcat rest ≤ 8) (hcl : xcls h v = xcix mm) (he : ev mm (v :: As) h = some r) (hRf : d + 1 ≤ R.frames) (hRl : 64 * (d + 1) ≤ R.locals) : (h.1 ≤ r.2.1 ∧ h.2.1 ≤ r.2.2.1) ∧ (r.2.1 - n0 ≤ R.cells → r.2.2.1 - s0 ≤ R.slots → xWs G y p l e R s m args below meth c Q n0 s0 (pc + 3) L (r.1.toList ++ rest) r.2 → xWs G y p l e R s m args below meth c Q n0 s0 pc L (As.reverse ++ v :: rest) h) := by
  obtain ⟨⟨o1, o2, -, o4, -, o6⟩, ow⟩ := xlM_at hl h9
  obtain ⟨hs, hin⟩ := o4 rfl
  have hne : mm ≠ xobji := fun q => absurd (q ▸ hs) (by decide +kernel)
  have hi1 : mm ∈ xcal1 := o2.resolve_right hne
  obtain ⟨hm, hM⟩ := hev mm (v :: As) h r hne he
  refine ⟨hm, fun hc hsl k h1 h2 H locs ls hR hL => ?_⟩
  have hK := F.2.2.2.2.2.2.2.2
  have hW := F.2.2.2.2.2.2.2.1
  obtain ⟨-, y1, y2, -, y3, -⟩ := xmd_ok mm
  have y3' : (xmd mm).2.2.1 ≤ 40 := y3
  obtain ⟨b, hb, hrecv⟩ := x_recv F hR hs hcl
  rw [x_stk, List.map_cons, hb]
  have hroom : 2 * (F0 m pc ls ((As.map (xcv G)).reverse ++ .ref b :: rest.map (xcv G))).monitorRoom + ((rest.map (xcv G)).map fun v => v.category).sum ≤ 8 := by
    rw [xcat_map hK.2.2.2.2.1]
    show 2 * 0 + _ ≤ 8
    omega
  have hpre : ∀ U : State, U.heap = H → s.WarmedH U.vm → xPc G h (v :: As) (Value.ref b :: As.map (xcv G)).toArray U := by
    intro U hU hW'
    have := x_pre (As := v :: As) F hR U hU hW'
    rw [List.map_cons, hb] at this
    exact this
  have hnn : xkey y i ∉ xnest := by
    intro hq
    have : (xnest.all (fun q => decide ((xlk q xlM).map (fun z => z.2.2) ≠ some 1))) = true := by decide +kernel
    have := of_decide_eq_true (List.all_eq_true.mp this _ hq)
    rw [hl] at this
    exact this rfl
  rcases ow with ⟨oq, -⟩ | ⟨-, ow⟩
  · exact absurd oq hnn
  · refine x_cont (va_runV (C := (xmd mm).1.cls) (b := b) (As := As.map (xcv G)) (x_callfix F) hM ⟨⟨rfl, rfl, hRf, by show 8 + ((xmd mm).2.2.1 + 11) + 64 * d ≤ _; omega, x_wcode F o1, List.mem_singleton.mpr rfl, hK.w hW (xwC_in mm o1) rfl, x_init F hi1, ⟨y1, y2⟩, x_par o6, hK.w hW ow rfl⟩, hK.w hW (xwI_in mm hin) rfl, hK.w hW (xwV_in mm hs) rfl⟩ ⟨xPc_blind G h (v :: As), hrecv, hpre⟩ rfl (by rw [List.length_map]; exact hn) hL.1 rfl hroom hd ⟨by show h.1 - n0 + (r.2.1 - h.1) ≤ _; omega, by show h.2.1 - s0 + (r.2.2.1 - h.2.1) ≤ _; omega⟩) hm h1 h2 hR hL k
end XS5
