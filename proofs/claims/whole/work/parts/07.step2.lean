/-! part 07: the instructions on the heap -/
set_option maxRecDepth 10000 in
theorem xms_len : xms.length = 218 := rfl
theorem x_key {y i k : Nat} (h : xkey y i = k) (hk : k ≠ 99999999) : k / 10000 = xown y ∧ k % 10000 = i := by
  unfold xkey at h
  cases hb : Nat.ble i 9999 with
  | true =>
    rw [hb] at h
    have hi := Nat.le_of_ble_eq_true hb
    dsimp only at h
    rw [← h]
    show (xown y * 10000 + i) / 10000 = xown y ∧ (xown y * 10000 + i) % 10000 = i
    omega
  | false =>
    rw [hb] at h
    exact absurd h.symm hk
/-- what the tables say of an entry -/
theorem xlF_at {y i ci f : Nat} (h : xlk (xkey y i) xlF = some (ci, f)) : (ci = 7 ∧ f < 2 ∧ xown y = 11 ∧ Cond.fieldLink (xcn (xown y)) i "java/lang/String" (if f = 0 then "value" else "coder") (if f = 0 then "[B" else "B") ∈ lw_tbl) ∨ (ci < 7 ∧ f < (xdv ci).length ∧ Cond.fieldLink (xcn (xown y)) i (xcn ci) ((xFs.getD ci xF0) f).2.1 ((xFs.getD ci xF0) f).2.2.1 ∈ lw_tbl) := by
  have hm := xlk_mem h
  have ho := of_decide_eq_true (List.all_eq_true.mp xlF_ok _ hm)
  dsimp only at ho
  have hk : xkey y i ≠ 99999999 := by
    intro e
    rw [e] at h
    cases h
  obtain ⟨h1, h2⟩ := x_key rfl hk
  rcases ho with ⟨a1, a2, a3⟩ | ⟨a1, a2⟩
  · subst a1
    have hw := xlFS_in _ (List.mem_filter.mpr ⟨hm, decide_eq_true rfl⟩)
    unfold xwS at hw
    dsimp only at hw
    rw [h1, h2] at hw
    exact Or.inl ⟨rfl, a2, by rw [← h1]; exact a3, hw⟩
  · have hw := xlF_in _ (List.mem_filter.mpr ⟨hm, decide_eq_true a1⟩)
    unfold xwF at hw
    dsimp only at hw
    rw [h1, h2] at hw
    exact Or.inr ⟨a1, a2, hw⟩
theorem xlI_at {y i : Nat} {v : Int32} (h : xlk (xkey y i) xlI = some v) : Cond.constant (xcn (xown y)) i v ∈ lw_tbl := by
  have hk : xkey y i ≠ 99999999 := by
    intro e
    rw [e] at h
    cases h
  obtain ⟨h1, h2⟩ := x_key rfl hk
  have hw := xlI_in _ (xlk_mem h)
  dsimp only at hw
  rw [h1, h2] at hw
  exact hw
theorem xlJ_at {y i : Nat} {v : Int64} (h : xlk (xkey y i) xlJ = some v) : Cond.constantLong (xcn (xown y)) i v ∈ lw_tbl := by
  have hk : xkey y i ≠ 99999999 := by
    intro e
    rw [e] at h
    cases h
  obtain ⟨h1, h2⟩ := x_key rfl hk
  have hw := xlJ_in _ (xlk_mem h)
  dsimp only at hw
  rw [h1, h2] at hw
  exact hw
theorem xlN_at {y i ci : Nat} (h : xlk (xkey y i) xlN = some ci) : ci < 7 ∧ Cond.classLink (xcn (xown y)) i (xcn ci) ∈ lw_tbl := by
  have hk : xkey y i ≠ 99999999 := by
    intro e
    rw [e] at h
    cases h
  obtain ⟨h1, h2⟩ := x_key rfl hk
  have hw := xlN_in _ (xlk_mem h)
  have ho := of_decide_eq_true (List.all_eq_true.mp xlN_ok _ (xlk_mem h))
  dsimp only at hw ho
  rw [h1, h2] at hw
  exact ⟨ho, hw⟩
theorem xlA_at {y i ci : Nat} (h : xlk (xkey y i) xlA = some ci) : (ci = 1 ∨ ci = 2 ∨ ci = 4) ∧ Cond.classLink (xcn (xown y)) i (xcn ci) ∈ lw_tbl := by
  have hk : xkey y i ≠ 99999999 := by
    intro e
    rw [e] at h
    cases h
  obtain ⟨h1, h2⟩ := x_key rfl hk
  have hw := xlA_in _ (xlk_mem h)
  have ho := of_decide_eq_true (List.all_eq_true.mp xlA_ok _ (xlk_mem h))
  dsimp only at hw ho
  rw [h1, h2] at hw
  exact ⟨ho, hw⟩
/-- the classes of our own cells, by their numbers -/
theorem xcl_at {ci : Nat} (h : ci < 7) : xcl[ci]? = some (xcn ci, xFs.getD ci xF0, (xdv ci).length) ∧ (∀ w ∈ u_ws (xcn ci) (xFs.getD ci xF0) (xdv ci).length, w ∈ lw_tbl) ∧ (∀ k, k < (xdv ci).length → parseFieldDescriptor ((xFs.getD ci xF0) k).2.2.1 = some (xft ci k)) ∧ (∀ a, a < (xdv ci).length → ∀ b, b < (xdv ci).length → a ≠ b → ((xFs.getD ci xF0) a).2.1 ≠ ((xFs.getD ci xF0) b).2.1) ∧ (∀ k, k < (xdv ci).length → ((xFs.getD ci xF0) k).1 = xcn ci) ∧ ∀ k, k < (xdv ci).length → defaultValue (xft ci k) = vp_V (xdv ci) k := by
  match ci, h with
  | 0, _ => exact ⟨rfl, xlay0, xF0_ty, xF0_nm, by decide +kernel, by decide +kernel⟩
  | 1, _ => exact ⟨rfl, xlay1, xF1_ty, xF1_nm, by decide +kernel, by decide +kernel⟩
  | 2, _ => exact ⟨rfl, xlay2, xF2_ty, xF2_nm, by decide +kernel, by decide +kernel⟩
  | 3, _ => exact ⟨rfl, xlay3, xF3_ty, xF3_nm, by decide +kernel, by decide +kernel⟩
  | 4, _ => exact ⟨rfl, xlay4, xF4_ty, xF4_nm, by decide +kernel, by decide +kernel⟩
  | 5, _ => exact ⟨rfl, xlay5, xF5_ty, xF5_nm, by decide +kernel, by decide +kernel⟩
  | 6, _ => exact ⟨rfl, xlay6, xF6_ty, xF6_nm, by decide +kernel, by decide +kernel⟩
  | n + 7, h => exact absurd h (by omega)
/-- the words of a class's fields hold in every later state -/
theorem x_ws {G : xg} (hK : xK G) {s : State} {args : Array Value} (hw : G.1.WarmedH s.vm) {ci : Nat} (h : ci < 7) : ∀ w ∈ u_ws (xcn ci) (xFs.getD ci xF0) (xdv ci).length, w.before args s = true := by
  intro w hin
  refine hK.w hw ((xcl_at h).2.1 w hin) ?_
  obtain ⟨k, -, rfl⟩ := List.mem_map.mp hin
  unfold u_lay
  split <;> rfl
theorem x_gz {G : xg} : ∀ a : Nat, a < G.1.heap.size → ¬ xA G a := fun a h => Nat.not_le.mpr h
section XS2
variable {p : Program} {l : Launch} {e : Env} {R : Room} {s : State} {m : MethodId} {args : Array Value} {below : List Frame} {meth : Method} {c : Code} {Q : State → Prop}
variable {G : xg} {y n0 s0 pc : Nat} {L : xl} {st r : List Value} {h : xh}
theorem xs_ldc (F : xFr G y p s m meth c) {i : Nat} {v : Int32} (hd : decode (xmd y).2.1 pc = .ok (.ldc i, 2)) (hl : xlk (xkey y i) xlI = some v) (k : xWs G y p l e R s m args below meth c Q n0 s0 (pc + 2) L (.int v :: st) h) : xWs G y p l e R s m args below meth c Q n0 s0 pc L st h := fun h1 h2 H locs ls hR hL => lv_ldc F.1 F.2.1 F.2.2.2.1 (F.2.2.2.2.2.2.2.2.w F.2.2.2.2.2.2.2.1 (xlI_at hl) rfl) hd (k h1 h2 H locs ls hR hL)
theorem xs_ldcw (F : xFr G y p s m meth c) {i : Nat} {v : Int32} (hd : decode (xmd y).2.1 pc = .ok (.ldc_w i, 3)) (hl : xlk (xkey y i) xlI = some v) (k : xWs G y p l e R s m args below meth c Q n0 s0 (pc + 3) L (.int v :: st) h) : xWs G y p l e R s m args below meth c Q n0 s0 pc L st h := fun h1 h2 H locs ls hR hL => lv_ldcw F.1 F.2.1 F.2.2.2.1 (F.2.2.2.2.2.2.2.2.w F.2.2.2.2.2.2.2.1 (xlI_at hl) rfl) hd (k h1 h2 H locs ls hR hL)
theorem xs_ldc2 (F : xFr G y p s m meth c) {i : Nat} {v : Int64} (hd : decode (xmd y).2.1 pc = .ok (.ldc2_w i, 3)) (hl : xlk (xkey y i) xlJ = some v) (k : xWs G y p l e R s m args below meth c Q n0 s0 (pc + 3) L (.long v :: st) h) : xWs G y p l e R s m args below meth c Q n0 s0 pc L st h := fun h1 h2 H locs ls hR hL => lv_ldc2 F.1 F.2.1 F.2.2.2.1 (F.2.2.2.2.2.2.2.2.w F.2.2.2.2.2.2.2.1 (xlJ_at hl) rfl) hd (k h1 h2 H locs ls hR hL)
theorem xs_ldcS (F : xFr G y p s m meth c) {i q : Nat} (hd : decode (xmd y).2.1 pc = .ok (.ldc i, 2)) (hl : xlk (xkey y i) xlS = some q) (k : xWs G y p l e R s m args below meth c Q n0 s0 (pc + 2) L (.retAddr q :: st) h) : xWs G y p l e R s m args below meth c Q n0 s0 pc L st h := by
  intro h1 h2 H locs ls hR hL
  have k1 := k h1 h2 H locs ls hR hL
  have hk : xkey y i ≠ 99999999 := by
    intro e
    rw [e] at hl
    cases hl
  obtain ⟨g1, g2⟩ := x_key rfl hk
  obtain ⟨tx, a, ha, hv⟩ := F.2.2.2.2.2.2.2.2.2.2.2.2.2.2 _ _ hl
  rw [g1, g2] at hv
  rw [List.map_cons, show xcv G (.retAddr q) = .ref a from ha] at k1
  exact va_ldcS F.1 F.2.1 F.2.2.2.1 (vk_R.warm F.2.2.2.2.2.2.2.1 hv) hd k1
theorem xs_gets (F : xFr G y p s m meth c) {i : Nat} {v : Value} (hd : decode (xmd y).2.1 pc = .ok (.getstatic i, 3)) (hl : xlk (xkey y i) xlG = some v) (k : xWs G y p l e R s m args below meth c Q n0 s0 (pc + 3) L (v :: st) h) : xWs G y p l e R s m args below meth c Q n0 s0 pc L st h := by
  intro h1 h2 H locs ls hR hL
  have k1 := k h1 h2 H locs ls hR hL
  have hk : xkey y i ≠ 99999999 := by
    intro e
    rw [e] at hl
    cases hl
  obtain ⟨g1, g2⟩ := x_key rfl hk
  obtain ⟨z1, z2, z3⟩ := F.2.2.2.2.2.2.2.2.2.2.2.2.2.1
  have hw := F.2.2.2.2.2.2.2.1
  have hm := xlk_mem hl
  have go : ∀ {C n d ref : String} {u : Value}, va_Z C n d u (xA G) G.1 G.1.heap → ref = C → Cond.fieldLink (xcn (xown y)) i ref n d ∈ lw_tbl → xcv G v = u → W p l e R s m args below meth c H locs (h.1 - n0) (h.2.1 - s0) Q (F0 m pc ls (st.map (xcv G))) := by
    intro C n d ref u hz hr hin hu
    subst hr
    rw [List.map_cons, hu] at k1
    obtain ⟨cf, kf, fi, f, a, cell, q1, q2, q3, q4, q5, q6, q7, q8⟩ := va_Z.moved hw.alike hz
    exact W.gets F.1 F.2.1 F.2.2.2.1 (F.2.2.2.2.2.2.2.2.w hw hin rfl) q1 q2 q3 q4 (by rw [hR.2.2.1 a (Nat.not_le.mp q8)]; exact q5) (fun e => by rw [e] at q6; cases q6) q7 rfl hd k1
  simp only [xlG, List.mem_cons, Prod.mk.injEq, List.not_mem_nil, or_false] at hm
  rcases hm with ⟨e1, e2⟩ | ⟨e1, e2⟩ | ⟨e1, e2⟩
  · have o1 : xown y = 5 := by omega
    have o2 : i = 319 := by omega
    subst e2
    refine go z1 rfl ?_ rfl
    rw [o1, o2]
    exact xg_above
  · have o1 : xown y = 11 := by omega
    have o2 : i = 38 := by omega
    subst e2
    refine go z2 rfl ?_ rfl
    rw [o1, o2]
    exact xg_compact
  · have o1 : xown y = 11 := by omega
    have o2 : i = 1053 := by omega
    subst e2
    refine go z3 rfl ?_ rfl
    rw [o1, o2]
    exact xg_form
/-- an outer row -/
theorem x_outer {H : Heap} {locs : List Loc} (hR : xR G h H locs) (hw : G.1.WarmedH s.vm) {q kd n : Nat} {f : Nat → Int32} (hx : h.2.2.2 q = .inl (kd, n, f)) : ∃ (t : Nat) (cell : Cell), xcv G (.retAddr q) = .ref t ∧ H[t]? = some cell ∧ s.isArrayOf cell (xkt kd) ∧ cell.vm ≠ .unknown ∧ n ≤ cell.slots.size ∧ cell.slots.size.toInt32 = Int32.ofNat n ∧ ∀ j : Nat, j < n → cell.slots[j]? = some (.int (f j)) := by
  obtain ⟨t, ht, hT⟩ := hR.2.2.2.2.1 q kd n f hx
  obtain ⟨cell, h1, h2, h3, h4, h5, h6, h7⟩ := va_T.moved hw.alike hT
  exact ⟨t, cell, ht, by rw [hR.2.2.1 t (Nat.not_le.mp h7)]; exact h1, h2, h3, h4, h5, h6⟩
theorem x_inN {i : Int32} {n N j : Nat} (hj : xix i n = some j) (hN : n ≤ N) : ¬ (i < 0 ∨ N ≤ i.toNatClampNeg) ∧ i.toNatClampNeg = j ∧ j < n := by
  obtain ⟨h1, h2⟩ := xix_some hj
  unfold vp_in at h1
  refine ⟨fun q => ?_, h2, Nat.not_le.mp fun q => h1 (Or.inr (by rw [h2]; exact q))⟩
  rcases q with q | q
  · exact h1 (Or.inl q)
  · exact h1 (Or.inr (Nat.le_trans hN q))
theorem hrd_some {v : Value} {kd : Nat} {i x : Int32} (hx : hrd h v kd i = some x) : ∃ (n : Nat) (f : Nat → Int32) (j : Nat), hget h v = .inl (kd, n, f) ∧ xix i n = some j ∧ f j = x := by
  unfold hrd at hx
  cases ha : xarr (hget h v) kd with
  | none => rw [ha] at hx; cases hx
  | some q =>
    obtain ⟨n, f⟩ := q
    rw [ha] at hx
    dsimp only at hx
    cases hi : xix i n with
    | none => rw [hi] at hx; cases hx
    | some j =>
      rw [hi] at hx
      exact ⟨n, f, j, xarr_some ha, hi, Option.some.inj hx⟩
/-- a number out of a row, ours or an outer one: the cell in the Statement's heap -/
theorem x_row {H : Heap} {locs : List Loc} (hR : xR G h H locs) (hK : xK G) (hw : G.1.WarmedH s.vm) {v : Value} {kd n : Nat} {f : Nat → Int32} (hkd : kd < 2 ∨ ∃ q, v = .retAddr q) (hv : hget h v = .inl (kd, n, f)) : ∃ (t : Nat) (cell : Cell), xcv G v = .ref t ∧ H[t]? = some cell ∧ s.isArrayOf cell (xkt kd) ∧ cell.vm ≠ .unknown ∧ n ≤ cell.slots.size ∧ cell.slots.size.toInt32 = Int32.ofNat n ∧ ∀ j : Nat, j < n → cell.slots[j]? = some (.int (f j)) := by
  cases v with
  | ref a =>
    have ha : h.2.2.1 a = .inl (kd, n, f) := hv
    have hkd : kd < 2 := by
      rcases hkd with q | ⟨q, e⟩
      · exact q
      · cases e
    have h1 := (hR.2.1 a (by rw [ha]; exact xnil_l)).2
    rw [ha] at h1
    have h2 : H[gz G + a]? = some (arrV (G.2.2.1 kd) n (fun j => .int (f j))) := h1
    refine ⟨gz G + a, _, rfl, h2, arrOfT_moved hw.alike (hK.2.2.1 kd hkd).1 n _, (fun q => by cases q), ?_, ?_, fun j hj => ?_⟩
    · rw [arrV_size]; exact Nat.le_refl _
    · rw [arrV_size]
    · rw [arrV_read _ _ hj]
  | retAddr q => exact x_outer hR hw hv
  | _ => exact absurd hv.symm xnil_l
theorem xs_iald (F : xFr G y p s m meth c) {v : Value} {i x : Int32} (hd : decode (xmd y).2.1 pc = .ok (.iaload, 1)) (hx : hrd h v 0 i = some x) (k : xWs G y p l e R s m args below meth c Q n0 s0 (pc + 1) L (.int x :: st) h) : xWs G y p l e R s m args below meth c Q n0 s0 pc L (.int i :: v :: st) h := by
  intro h1 h2 H locs ls hR hL
  obtain ⟨n, f, j, a1, a2, a3⟩ := hrd_some hx
  obtain ⟨t, cell, b1, b2, b3, b4, b5, b6, b7⟩ := x_row hR F.2.2.2.2.2.2.2.2 F.2.2.2.2.2.2.2.1 (Or.inl (by decide)) a1
  obtain ⟨c1, c2, c3⟩ := x_inN a2 b5
  show W p l e R s m args below meth c H locs _ _ Q (F0 m pc ls (.int i :: xcv G v :: st.map (xcv G)))
  rw [b1]
  exact W.iald (v := .int x) F.1 F.2.1 b2 b3 b4 c1 (by rw [c2, b7 j c3, a3]) rfl rfl hd (k h1 h2 H locs ls hR hL)
theorem xs_bald (F : xFr G y p s m meth c) {v : Value} {i x : Int32} {kd : Nat} (hd : decode (xmd y).2.1 pc = .ok (.baload, 1)) (hkd : kd = 1 ∨ kd = 2 ∧ ∃ q, v = .retAddr q) (hx : hrd h v kd i = some x) (k : xWs G y p l e R s m args below meth c Q n0 s0 (pc + 1) L (.int x :: st) h) : xWs G y p l e R s m args below meth c Q n0 s0 pc L (.int i :: v :: st) h := by
  intro h1 h2 H locs ls hR hL
  obtain ⟨n, f, j, a1, a2, a3⟩ := hrd_some hx
  obtain ⟨t, cell, b1, b2, b3, b4, b5, b6, b7⟩ := x_row hR F.2.2.2.2.2.2.2.2 F.2.2.2.2.2.2.2.1 (by rcases hkd with q | q; exact Or.inl (by omega); exact Or.inr q.2) a1
  obtain ⟨c1, c2, c3⟩ := x_inN a2 b5
  show W p l e R s m args below meth c H locs _ _ Q (F0 m pc ls (.int i :: xcv G v :: st.map (xcv G)))
  rw [b1]
  rcases hkd with rfl | ⟨rfl, -⟩
  · exact W.zald (v := .int x) F.1 F.2.1 b2 b3 b4 c1 (by rw [c2, b7 j c3, a3]) rfl rfl hd (k h1 h2 H locs ls hR hL)
  · exact W.bald (v := .int x) F.1 F.2.1 b2 b3 b4 c1 (by rw [c2, b7 j c3, a3]) rfl rfl hd (k h1 h2 H locs ls hR hL)
end XS2
section XS3
variable {p : Program} {l : Launch} {e : Env} {R : Room} {s : State} {m : MethodId} {args : Array Value} {below : List Frame} {meth : Method} {c : Code} {Q : State → Prop}
variable {G : xg} {y n0 s0 pc : Nat} {L : xl} {st r : List Value} {h : xh}
theorem xs_alen (F : xFr G y p s m meth c) {v : Value} {n : Nat} (hd : decode (xmd y).2.1 pc = .ok (.arraylength, 1)) (hx : xalen h v = some n) (k : xWs G y p l e R s m args below meth c Q n0 s0 (pc + 1) L (.int (Int32.ofNat n) :: st) h) : xWs G y p l e R s m args below meth c Q n0 s0 pc L (v :: st) h := by
  intro h1 h2 H locs ls hR hL
  have key : ∃ (kd : Nat) (f : Nat → Int32), (kd < 2 ∨ ∃ q, v = .retAddr q) ∧ hget h v = .inl (kd, n, f) := by
    unfold xalen at hx
    cases ha : xarr (hget h v) 0 with
    | some q =>
      obtain ⟨n', f⟩ := q
      rw [ha] at hx
      cases hx
      exact ⟨0, f, Or.inl (by decide), xarr_some ha⟩
    | none =>
      rw [ha] at hx
      cases v with
      | retAddr q =>
        dsimp only at hx
        cases hb : xarr (hget h (.retAddr q)) 2 with
        | none => rw [hb] at hx; cases hx
        | some z =>
          obtain ⟨n', f⟩ := z
          rw [hb] at hx
          cases hx
          exact ⟨2, f, Or.inr ⟨q, rfl⟩, xarr_some hb⟩
      | _ => cases hx
  obtain ⟨kd, f, g1, g2⟩ := key
  obtain ⟨t, cell, b1, b2, b3, b4, b5, b6, b7⟩ := x_row hR F.2.2.2.2.2.2.2.2 F.2.2.2.2.2.2.2.1 g1 g2
  show W p l e R s m args below meth c H locs _ _ Q (F0 m pc ls (xcv G v :: st.map (xcv G)))
  rw [b1]
  exact W.alen F.1 F.2.1 b2 b3 b6 rfl rfl hd (k h1 h2 H locs ls hR hL)
theorem hwr_some {v : Value} {kd : Nat} {i x : Int32} {h' : xh} (hx : hwr h v kd i x = some h') : ∃ (a n : Nat) (f : Nat → Int32) (j : Nat), v = .ref a ∧ h.2.2.1 a = .inl (kd, n, f) ∧ xix i n = some j ∧ h' = hset h a (.inl (kd, n, upd f j x)) := by
  unfold hwr at hx
  cases v with
  | ref a =>
    dsimp only at hx
    cases ha : xarr (h.2.2.1 a) kd with
    | none => rw [ha] at hx; cases hx
    | some q =>
      obtain ⟨n, f⟩ := q
      rw [ha] at hx
      dsimp only at hx
      cases hi : xix i n with
      | none => rw [hi] at hx; cases hx
      | some j =>
        rw [hi] at hx
        exact ⟨a, n, f, j, rfl, xarr_some ha, hi, (Option.some.inj hx).symm⟩
  | _ => cases hx
theorem x_upd (cA : ClassId) (n j : Nat) (f : Nat → Int32) (x : Int32) : (arrV cA n (fun j => .int (f j))).setSlot j (.int x) = arrV cA n (fun q => .int (upd f j x q)) := by
  rw [arrV_store]
  congr 1
  funext q
  by_cases hq : q = j
  · subst hq
    simp [updV, upd]
  · simp [updV, upd, hq]
theorem xs_iast (F : xFr G y p s m meth c) {v : Value} {i x : Int32} {h' : xh} (hd : decode (xmd y).2.1 pc = .ok (.iastore, 1)) (hx : hwr h v 0 i x = some h') (k : xWs G y p l e R s m args below meth c Q n0 s0 (pc + 1) L st h') : xWs G y p l e R s m args below meth c Q n0 s0 pc L (.int x :: .int i :: v :: st) h := by
  intro h1 h2 H locs ls hR hL
  obtain ⟨a, n, f, j, rfl, a1, a2, rfl⟩ := hwr_some hx
  have hne : h.2.2.1 a ≠ xnil := by rw [a1]; exact xnil_l
  have g1 := (hR.2.1 a hne).2
  rw [a1] at g1
  have g2 : H[gz G + a]? = some (arrV (G.2.2.1 0) n (fun j => .int (f j))) := g1
  obtain ⟨c1, c2, c3⟩ := x_inN a2 (Nat.le_refl n)
  refine W.iast F.1 F.2.1 g2 (arrOfT_moved F.2.2.2.2.2.2.2.1.alike (F.2.2.2.2.2.2.2.2.2.2.1 0 (by decide)).1 n _) (fun q => by cases q) (by rw [arrV_size]; exact c1) rfl rfl hd (fun H' e1 e2 e3 => ?_)
  refine k h1 h2 H' _ ls (xR_set hR hne ?_ e2 e3) hL
  show H'[gz G + a]? = some (vp_cell _ _)
  rw [e1, c2]
  exact congrArg some (x_upd _ _ _ _ _)
theorem xs_zast (F : xFr G y p s m meth c) {v : Value} {i x : Int32} {h' : xh} (hd : decode (xmd y).2.1 pc = .ok (.bastore, 1)) (hx : hwr h v 1 i (vp_nar .boolean x) = some h') (k : xWs G y p l e R s m args below meth c Q n0 s0 (pc + 1) L st h') : xWs G y p l e R s m args below meth c Q n0 s0 pc L (.int x :: .int i :: v :: st) h := by
  intro h1 h2 H locs ls hR hL
  obtain ⟨a, n, f, j, rfl, a1, a2, rfl⟩ := hwr_some hx
  have hne : h.2.2.1 a ≠ xnil := by rw [a1]; exact xnil_l
  have g1 := (hR.2.1 a hne).2
  rw [a1] at g1
  have g2 : H[gz G + a]? = some (arrV (G.2.2.1 1) n (fun j => .int (f j))) := g1
  obtain ⟨c1, c2, c3⟩ := x_inN a2 (Nat.le_refl n)
  refine W.zast F.1 F.2.1 g2 (arrOfT_moved F.2.2.2.2.2.2.2.1.alike (F.2.2.2.2.2.2.2.2.2.2.1 1 (by decide)).1 n _) (fun q => by cases q) (by rw [arrV_size]; exact c1) rfl rfl hd (fun H' e1 e2 e3 => ?_)
  refine k h1 h2 H' _ ls (xR_set hR hne ?_ e2 e3) hL
  show H'[gz G + a]? = some (vp_cell _ _)
  rw [e1, c2]
  exact congrArg some (x_upd _ _ _ _ _)
theorem x_rf (G : xg) (o : Option Nat) : va_rf (o.map (fun k => gz G + k)) = xcv G (va_rf o) := by cases o <;> rfl
theorem hrq_some {v w : Value} {i : Int32} (hx : hrq h v i = some w) : ∃ (a ci n : Nat) (f : Nat → Option Nat) (j : Nat), v = .ref a ∧ h.2.2.1 a = .inr (.inl (ci, n, f)) ∧ (ci = 1 ∨ ci = 2 ∨ ci = 4) ∧ xix i n = some j ∧ w = va_rf (f j) := by
  unfold hrq at hx
  cases v with
  | ref a =>
    dsimp only at hx
    cases ha : xarq (h.2.2.1 a) with
    | none => rw [ha] at hx; cases hx
    | some q =>
      obtain ⟨ci, n, f⟩ := q
      rw [ha] at hx
      dsimp only at hx
      cases hi : xix i n with
      | none => rw [hi] at hx; cases hx
      | some j =>
        rw [hi] at hx
        exact ⟨a, ci, n, f, j, rfl, (xarq_some ha).1, (xarq_some ha).2, hi, (Option.some.inj hx).symm⟩
  | _ => cases hx
theorem xs_aald (F : xFr G y p s m meth c) {v w : Value} {i : Int32} (hd : decode (xmd y).2.1 pc = .ok (.aaload, 1)) (hx : hrq h v i = some w) (k : xWs G y p l e R s m args below meth c Q n0 s0 (pc + 1) L (w :: st) h) : xWs G y p l e R s m args below meth c Q n0 s0 pc L (.int i :: v :: st) h := by
  intro h1 h2 H locs ls hR hL
  obtain ⟨a, ci, n, f, j, rfl, a1, hci, a2, rfl⟩ := hrq_some hx
  have g1 := (hR.2.1 a (by rw [a1]; exact xnil_q)).2
  rw [a1] at g1
  have g2 : H[gz G + a]? = some (arrV (G.2.2.2.1 ci) n (fun j => va_rf ((f j).map (fun k => gz G + k)))) := g1
  obtain ⟨c1, c2, c3⟩ := x_inN a2 (Nat.le_refl n)
  have k1 := k h1 h2 H locs ls hR hL
  rw [List.map_cons, ← x_rf] at k1
  exact W.aald (v := va_rf ((f j).map (fun k => gz G + k))) (ty := .object (xcn ci)) F.1 F.2.1 g2 (arrOfT_moved F.2.2.2.2.2.2.2.1.alike (F.2.2.2.2.2.2.2.2.2.2.2.1 ci hci).1 n _) rfl (fun q => by cases q) (by rw [arrV_size]; exact c1) (by rw [c2, arrV_read _ _ c3]) rfl rfl hd k1
theorem hwq_some {v w : Value} {i : Int32} {h' : xh} (hx : hwq h v i w = some h') : ∃ (a ci n : Nat) (f : Nat → Option Nat) (j : Nat), v = .ref a ∧ h.2.2.1 a = .inr (.inl (ci, n, f)) ∧ (ci = 1 ∨ ci = 2 ∨ ci = 4) ∧ xix i n = some j ∧ ((w = .null ∧ h' = hset h a (.inr (.inl (ci, n, va_up f j none)))) ∨ ∃ (q : Nat) (fs : List Value), w = .ref q ∧ h.2.2.1 q = .inr (.inr (ci, fs)) ∧ h' = hset h a (.inr (.inl (ci, n, va_up f j (some q))))) := by
  unfold hwq at hx
  cases v with
  | ref a =>
    dsimp only at hx
    cases ha : xarq (h.2.2.1 a) with
    | none => rw [ha] at hx; cases hx
    | some q =>
      obtain ⟨ci, n, f⟩ := q
      rw [ha] at hx
      dsimp only at hx
      cases hi : xix i n with
      | none => rw [hi] at hx; cases hx
      | some j =>
        rw [hi] at hx
        dsimp only at hx
        refine ⟨a, ci, n, f, j, rfl, (xarq_some ha).1, (xarq_some ha).2, hi, ?_⟩
        cases w with
        | null => exact Or.inl ⟨rfl, (Option.some.inj hx).symm⟩
        | ref q =>
          dsimp only at hx
          cases ho : xobj (h.2.2.1 q) ci with
          | none => rw [ho] at hx; cases hx
          | some fs =>
            rw [ho] at hx
            exact Or.inr ⟨q, fs, rfl, xobj_some ho, (Option.some.inj hx).symm⟩
        | _ => cases hx
  | _ => cases hx
theorem x_updq (G : xg) (cA : ClassId) (n j : Nat) (f : Nat → Option Nat) (o : Option Nat) : (arrV cA n (fun j => va_rf ((f j).map (fun k => gz G + k)))).setSlot j (va_rf (o.map (fun k => gz G + k))) = arrV cA n (fun q => va_rf ((va_up f j o q).map (fun k => gz G + k))) := by
  rw [arrV_store]
  congr 1
  funext q
  by_cases hq : q = j
  · subst hq
    simp [updV, va_up]
  · simp [updV, va_up, hq]
theorem xs_aast (F : xFr G y p s m meth c) {v w : Value} {i : Int32} {h' : xh} (hd : decode (xmd y).2.1 pc = .ok (.aastore, 1)) (hx : hwq h v i w = some h') (k : xWs G y p l e R s m args below meth c Q n0 s0 (pc + 1) L st h') : xWs G y p l e R s m args below meth c Q n0 s0 pc L (w :: .int i :: v :: st) h := by
  intro h1 h2 H locs ls hR hL
  obtain ⟨a, ci, n, f, j, rfl, a1, hci, a2, hw⟩ := hwq_some hx
  have hne : h.2.2.1 a ≠ xnil := by rw [a1]; exact xnil_q
  have g1 := (hR.2.1 a hne).2
  rw [a1] at g1
  have g2 : H[gz G + a]? = some (arrV (G.2.2.2.1 ci) n (fun j => va_rf ((f j).map (fun k => gz G + k)))) := g1
  obtain ⟨c1, c2, c3⟩ := x_inN a2 (Nat.le_refl n)
  have hal := F.2.2.2.2.2.2.2.1.alike
  obtain ⟨d1, d2⟩ := F.2.2.2.2.2.2.2.2.2.2.2.1 ci hci
  rcases hw with ⟨rfl, rfl⟩ | ⟨q, fs, rfl, b1, rfl⟩
  · refine va_WaastN (C := xcn ci) F.1 F.2.1 g2 (arrOfT_moved hal d1 n _) (fun q => by cases q) (by rw [arrV_size]; exact c1) rfl rfl hd (fun H' e1 e2 e3 => ?_)
    refine k h1 h2 H' _ ls (xR_set hR hne ?_ e2 e3) hL
    show H'[gz G + a]? = some (vp_cell _ _)
    rw [e1, c2]
    exact congrArg some (x_updq G _ _ _ f none)
  · have hc7 : ci < 7 := by omega
    obtain ⟨r', hr', cellV, v1, v2, v3, -⟩ := (by have z := (hR.2.1 q (by rw [b1]; exact xnil_o (by omega))).2; rw [b1] at z; exact z : va_at G.2.1 xcl (gz G + q, xcc G (.inr (.inr (ci, fs)))) H)
    obtain ⟨kA, comp, k1, k2, k3, -⟩ := d2.moved hal
    have hcls : ClassAt s (xcn ci) (G.2.1.1 ci) := (u_Kn_moved hal (F.2.2.2.2.2.2.2.2.2.1 ci _ (xcl_at hc7).1)).2
    have hcomp : comp = G.2.1.1 ci := Option.some.inj (k3.symm.trans hcls.1)
    subst hcomp
    obtain ⟨kC, hkC, -⟩ := id hcls.2
    refine W.aast F.1 F.2.1 g2 (fun q h => by cases h) (fun h => by cases h) k1 k2 rfl hkC ⟨fun z => c1 (Or.inl z), by rw [arrV_size, c2]; exact c3⟩ v1 (fun q h => by rw [v3] at h; cases h) (by rw [v2]; exact hkC) (by rw [v2]; exact va_assign hcls) rfl rfl hd (fun H' e1 e2 e3 => ?_)
    refine k h1 h2 H' _ ls (xR_set hR hne ?_ e2 e3) hL
    show H'[gz G + a]? = some (vp_cell _ _)
    rw [e1, c2]
    exact congrArg some (x_updq G _ _ _ f (some q))
theorem hgf_some {v w : Value} {ci f : Nat} (hx : hgf h v ci f = some w) : ∃ fs : List Value, hget h v = .inr (.inr (ci, fs)) ∧ fs[f]? = some w := by
  unfold hgf at hx
  cases ho : xobj (hget h v) ci with
  | none => rw [ho] at hx; cases hx
  | some fs =>
    rw [ho] at hx
    exact ⟨fs, xobj_some ho, hx⟩
theorem xs_getf (F : xFr G y p s m meth c) {v w : Value} {i ci f : Nat} (hd : decode (xmd y).2.1 pc = .ok (.getfield i, 3)) (hl : xlk (xkey y i) xlF = some (ci, f)) (hx : hgf h v ci f = some w) (k : xWs G y p l e R s m args below meth c Q n0 s0 (pc + 3) L (w :: st) h) : xWs G y p l e R s m args below meth c Q n0 s0 pc L (v :: st) h := by
  intro h1 h2 H locs ls hR hL
  obtain ⟨fs, a1, a2⟩ := hgf_some hx
  have hK := F.2.2.2.2.2.2.2.2
  have hW := F.2.2.2.2.2.2.2.1
  have k1 := k h1 h2 H locs ls hR hL
  cases v with
  | ref a =>
    have a3 : h.2.2.1 a = .inr (.inr (ci, fs)) := a1
    rcases xlF_at hl with ⟨rfl, -, -, -⟩ | ⟨b1, b2, b3⟩
    · have g1 := (hR.2.1 a (by rw [a3]; exact xnil_o (by omega))).2
      rw [a3] at g1
      obtain ⟨r', hr', -⟩ := g1
      exact absurd hr' (by simp)
    · have hP := hR.p1 (k := a) (by rw [a3]; exact xnil_o (by omega))
      rw [a3] at hP
      obtain ⟨z1, z2, z3, z4, z5, z6⟩ := xcl_at b1
      refine va_get (D := G.2.1) (cl := xcl) (tys := []) (ws := [(gz G + a, .inr (ci, fs.map (xcv G)))]) (ci := ci) (fs := fs.map (xcv G)) (v := xcv G w) (C := xcn ci) (T := xFs.getD ci xF0) (N := (xdv ci).length) F.1 F.2.1 (x_ws hK hW b1) (fun w h => h) F.2.2.2.1 (hK.v0 hW) hP 0 rfl z1 f b2 (hK.w hW b3 rfl) (fun x hx => by rw [z5 f b2] at hx; exact hx) (by rw [List.getElem?_map, a2]; rfl) hd k1
  | retAddr q =>
    have a3 : h.2.2.2 q = .inr (.inr (ci, fs)) := a1
    rcases xlF_at hl with ⟨rfl, b2, b3, b4⟩ | ⟨b1, -, -⟩
    · obtain ⟨-, t, t1, t2, t3, t4, t5⟩ := hR.2.2.2.2.2.1 q 7 fs a3 (by rw [a3]; exact xnil_o (by omega))
      show W p l e R s m args below meth c H locs _ _ Q (F0 m pc ls (xcv G (.retAddr q) :: st.map (xcv G)))
      rw [show xcv G (.retAddr q) = .ref t from t1]
      have hz : ∀ {n d : String}, va_OF "java/lang/String" n d (xcv G w) t (xA G) G.1 G.1.heap → Cond.fieldLink (xcn (xown y)) i "java/lang/String" n d ∈ lw_tbl → W p l e R s m args below meth c H locs (h.1 - n0) (h.2.1 - s0) Q (F0 m pc ls (.ref t :: st.map (xcv G))) := by
        intro n d hO hin
        obtain ⟨cf, kf, fi, fd, cell, q1, q2, q3, q4, q5, q6⟩ := va_OF.moved hW.alike hO
        exact W.getf F.1 F.2.1 F.2.2.2.1 (hK.w hW hin rfl) q1 q2 (by rw [hR.2.2.1 t (Nat.not_le.mp q6)]; exact q3) q4 (v := xcv G w) q5 rfl rfl hd k1
      rcases (show f = 0 ∨ f = 1 by omega) with rfl | rfl
      · exact hz (t3 w a2) b4
      · exact hz (t4 w a2) b4
    · obtain ⟨e7, -⟩ := hR.2.2.2.2.2.1 q ci fs a3 (by rw [a3]; exact xnil_o (by omega))
      omega
  | _ =>
    have e1 := a1
    unfold hget xnil at e1
    cases e1
    rcases xlF_at hl with ⟨e7, -⟩ | ⟨e7, -⟩ <;> omega
theorem hpf_some {v w : Value} {ci f : Nat} {h' : xh} (hx : hpf h v ci f w = some h') : ∃ (a : Nat) (fs : List Value), v = .ref a ∧ h.2.2.1 a = .inr (.inr (ci, fs)) ∧ f < fs.length ∧ h' = hset h a (.inr (.inr (ci, fs.set f w))) := by
  unfold hpf at hx
  cases v with
  | ref a =>
    dsimp only at hx
    cases ho : xobj (h.2.2.1 a) ci with
    | none => rw [ho] at hx; cases hx
    | some fs =>
      rw [ho] at hx
      dsimp only at hx
      split at hx
      · rename_i hlt
        exact ⟨a, fs, rfl, xobj_some ho, hlt, (Option.some.inj hx).symm⟩
      · cases hx
  | _ => cases hx
theorem x_fit {w : Value} {ty : FieldType} (h1 : narrow ty w = w) (h2 : fits ty w = true) : narrow ty (xcv G w) = xcv G w ∧ fits ty (xcv G w) = true := by
  cases w with
  | ref k => cases ty <;> first | exact ⟨rfl, rfl⟩ | cases h2
  | retAddr q => cases ty <;> cases h2
  | _ => exact ⟨h1, h2⟩
theorem xs_putf (F : xFr G y p s m meth c) {v w : Value} {i ci f : Nat} {h' : xh} (hd : decode (xmd y).2.1 pc = .ok (.putfield i, 3)) (hl : xlk (xkey y i) xlF = some (ci, f)) (hfin : xfin ci f = false ∨ (xini y = true ∧ xown y = ci)) (hn : narrow (xft ci f) w = w) (hfi : fits (xft ci f) w = true) (hx : hpf h v ci f w = some h') (k : xWs G y p l e R s m args below meth c Q n0 s0 (pc + 3) L st h') : xWs G y p l e R s m args below meth c Q n0 s0 pc L (w :: v :: st) h := by
  intro h1 h2 H locs ls hR hL
  obtain ⟨a, fs, rfl, a1, a2, rfl⟩ := hpf_some hx
  have hK := F.2.2.2.2.2.2.2.2
  have hW := F.2.2.2.2.2.2.2.1
  rcases xlF_at hl with ⟨rfl, -, -, -⟩ | ⟨b1, b2, b3⟩
  · have g1 := (hR.2.1 a (by rw [a1]; exact xnil_o (by omega))).2
    rw [a1] at g1
    obtain ⟨r', hr', -⟩ := g1
    exact absurd hr' (by simp)
  · have hne : h.2.2.1 a ≠ xnil := by rw [a1]; exact xnil_o (by omega)
    have g1 := (hR.2.1 a hne).2
    rw [a1] at g1
    obtain ⟨r, hr, cell, q1, q2, q3, q4⟩ := g1
    obtain ⟨z1, z2, z3, z4, z5, z6⟩ := xcl_at b1
    have er : r = (xcn ci, xFs.getD ci xF0, (xdv ci).length) := Option.some.inj (hr.symm.trans z1)
    subst er
    have hts := x_ws (args := args) hK hW b1
    have hv0 := hK.v0 hW
    have hap := va_apart (own := xcn ci) (args := args) (D := G.2.1) (cl := xcl) (tys := []) hts (fun w h => h) (xft ci) z3 z4 hv0 z1
    obtain ⟨hS, hfc, kC, hkC, hkind⟩ := hv0.1 ci _ z1
    obtain ⟨cf, kf, fi, fd, hi, hsl⟩ := hS f b2
    have hst := (u_facts hfc hkC (u_lays hts (fun w h => h) b2) hi).1
    obtain ⟨n1, n2⟩ := x_fit (G := G) hn hfi
    have hlay := hts _ (u_in_lay b2)
    unfold u_lay at hlay
    have hlink : (Cond.fieldLink (xcn (xown y)) i (xcn ci) ((xFs.getD ci xF0) f).2.1 ((xFs.getD ci xF0) f).2.2.1).before args s = true := hK.w hW b3 rfl
    have hi' : s.fieldFound? (xcn ci) ((xFs.getD ci xF0) f).2.1 ((xFs.getD ci xF0) f).2.2.1 = some (cf, kf, fi, fd) := by have hi0 := hi; dsimp only at hi0; rw [z5 f b2] at hi0; exact hi0
    have key : ∀ H' : Heap, H'[gz G + a]? = some (cell.setSlot fd.slot (xcv G w)) → H'.size = H.size → (∀ q : Nat, q ≠ gz G + a → H'[q]? = H[q]?) → W p l e R s m args below meth c H' (locs ++ [⟨gz G + a, fd.slot⟩]) (h.1 - n0) (h.2.1 - s0) Q (F0 m (pc + 3) ls (st.map (xcv G))) := by
      intro H' e1 e2 e3
      refine k h1 h2 H' _ ls (xR_set hR hne ?_ e2 e3) hL
      refine ⟨_, z1, t_OB.to (V := updV (vp_V (fs.map (xcv G))) f (xcv G w)) ⟨_, e1, q2, q3, by rw [hsl]; exact t_set q4 hap b2 _⟩ (fun j _ => ?_)⟩
      rw [vp_updV_set (by rw [List.length_map]; exact a2), List.map_set]
    by_cases hf : xfin ci f = false
    · rw [if_neg (by rw [show ((xFs.getD ci xF0) f).2.2.2 = false from hf]; decide)] at hlay
      have h6 := u_store hfc hkC hkind hlay hi (z3 f b2) n1 n2
      exact W.putK F.1 F.2.1 (f := fd) ⟨F.2.2.2.1, hlink, ⟨_, _, _, hi'⟩, hst⟩ (by rw [q2]; exact h6) q1 q3 (by rw [hsl]; exact k2_hasslot (q4 f b2)) rfl rfl hd key
    · obtain ⟨j1, j2⟩ := hfin.resolve_left hf
      have hf' : ((xFs.getD ci xF0) f).2.2.2 = true := by
        cases hq : ((xFs.getD ci xF0) f).2.2.2 with
        | true => rfl
        | false => exact absurd hq hf
      rw [if_pos hf'] at hlay
      have hcf : m.cls = cf := by
        obtain ⟨_, _, c', _, _, _, -, -, hf2, -, -, -, hown2, -⟩ := Cond.laysFinal_spec hlay
        have e1 : c' = cf := by have := hi.symm.trans hf2; simp at this; exact this.1.symm
        rw [z5 f b2, ← j2] at hown2
        rw [← e1]; exact Option.some.inj (F.2.2.2.1.symm.trans hown2)
      have h6 := u_fits hfc hkC hkind (Or.inr hlay) hi (z3 f b2) n1 n2
      exact W.putFinK F.1 F.2.1 F.2.2.2.1 hlink hi' hst hcf (F.2.2.2.2.2.2.1 j1) (by rw [q2]; exact h6) q1 q3 (by rw [hsl]; exact k2_hasslot (q4 f b2)) rfl rfl hd key
end XS3
