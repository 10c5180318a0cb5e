/-! part 08: making cells, copying -/
section XS4
variable {p : Program} {l : Launch} {e : Env} {R : Room} {s : State} {m : MethodId} {args : Array Value} {below : List Frame} {meth : Method} {c : Code} {Q : State → Prop}
variable {G : xg} {y n0 s0 pc : Nat} {L : xl} {st r : List Value} {h : xh}
theorem xlM_no : xlk 99999999 xlM = none := by decide +kernel
theorem x_mem7 {ci : Nat} (h : ci < 7) : ci ∈ List.range 7 := List.mem_range.mpr h
theorem xs_new (F : xFr G y p s m meth c) {i ci : Nat} (hd : decode (xmd y).2.1 pc = .ok (.new i, 3)) (hl : xlk (xkey y i) xlN = some ci) (hc : h.1 + 1 - n0 ≤ R.cells) (hs : h.2.1 + (xdv ci).length - s0 ≤ R.slots) (k : xWs G y p l e R s m args below meth c Q n0 s0 (pc + 3) L (.ref h.1 :: st) (hnew h (.inr (.inr (ci, xdv ci))) (xdv ci).length)) : xWs G y p l e R s m args below meth c Q n0 s0 pc L st h := by
  intro h1 h2 H locs ls hR hL
  have hK := F.2.2.2.2.2.2.2.2
  have hW := F.2.2.2.2.2.2.2.1
  obtain ⟨b1, b2⟩ := xlN_at hl
  obtain ⟨z1, z2, z3, z4, z5, z6⟩ := xcl_at b1
  have hKn := (hK.v0 hW).1 ci _ z1
  refine W.newcK F.1 F.2.1 F.2.2.2.1 (hK.w hW b2 rfl) (hK.w hW (xinst_in ci (x_mem7 b1)) rfl) (hK.w hW (xinit_in ci (x_mem7 b1)) rfl) rfl hd (by omega) (by omega) hKn.2.1 rfl (fun H1 kC hkC e1 e2 e3 => ?_)
  have hdv : (xdv ci).map (xcv G) = xdv ci := by
    match ci, b1 with
    | 0, _ => rfl
    | 1, _ => rfl
    | 2, _ => rfl
    | 3, _ => rfl
    | 4, _ => rfl
    | 5, _ => rfl
    | 6, _ => rfl
    | n + 7, h => exact absurd h (by omega)
  have hR1 : xR G (hnew h (.inr (.inr (ci, xdv ci))) (xdv ci).length) H1 locs := by
    refine xR_new hR ?_ e2 e3
    refine ⟨_, z1, (u_born (xft ci) (x_ws (args := args) hK hW b1) (fun w h => h) hKn hkC e1 z3).to (fun j hj => ?_)⟩
    rw [z6 j hj, hdv]
  have k1 := k (Nat.le_succ_of_le h1) (Nat.le_add_right_of_le h2) H1 locs ls hR1 hL
  have q1 : (hnew h (.inr (.inr (ci, xdv ci))) (xdv ci).length).1 - n0 = h.1 - n0 + 1 := by show h.1 + 1 - n0 = _; omega
  have q2 : (hnew h (.inr (.inr (ci, xdv ci))) (xdv ci).length).2.1 - s0 = h.2.1 - s0 + (xdv ci).length := by show h.2.1 + (xdv ci).length - s0 = _; omega
  rw [q1, q2, List.map_cons, show xcv G (.ref h.1) = .ref H.size by rw [hR.1]; rfl] at k1
  exact k1
theorem x_nn {z : Int32} (h0 : 0 ≤ z.toInt) : ¬ z < 0 := fun q => by
  have := Int32.lt_iff_toInt_lt.mp q
  simp at this
  omega
theorem xs_newa (F : xFr G y p s m meth c) {kd : Nat} {t : ArrayType} (ht : kd = 0 ∧ t = .int ∨ kd = 1 ∧ t = .boolean) {n : Int32} (hd : decode (xmd y).2.1 pc = .ok (.newarray t, 2)) (hn : 0 ≤ n.toInt ∧ n.toInt ≤ 100000) (hc : h.1 + 1 - n0 ≤ R.cells) (hs : h.2.1 + n.toInt.toNat - s0 ≤ R.slots) (k : xWs G y p l e R s m args below meth c Q n0 s0 (pc + 2) L (.ref h.1 :: st) (hnew h (.inl (kd, n.toInt.toNat, fun _ => 0)) n.toInt.toNat)) : xWs G y p l e R s m args below meth c Q n0 s0 pc L (.int n :: st) h := by
  intro h1 h2 H locs ls hR hL
  have hK := F.2.2.2.2.2.2.2.2
  have hW := F.2.2.2.2.2.2.2.1
  have hty : newarray.typeOf t = xkt kd := by rcases ht with ⟨rfl, rfl⟩ | ⟨rfl, rfl⟩ <;> rfl
  have hk2 : kd < 2 := by rcases ht with ⟨rfl, rfl⟩ | ⟨rfl, rfl⟩ <;> decide
  have hin : Cond.arrayClass (xkt kd) ∈ lw_tbl := xac_in kd (by rcases ht with ⟨rfl, rfl⟩ | ⟨rfl, rfl⟩ <;> decide)
  have harr : (Cond.arrayClass (newarray.typeOf t)).before args s = true := by
    rw [hty]
    exact word_at hW (Or.inr ⟨_, rfl⟩) (hK.1 _ hin)
  have hby : n.toInt.toNat * componentBytes (newarray.typeOf t) ≤ 536870912 := by
    have : n.toInt.toNat ≤ 100000 := by omega
    rcases ht with ⟨rfl, rfl⟩ | ⟨rfl, rfl⟩
    · show n.toInt.toNat * 4 ≤ _; omega
    · show n.toInt.toNat * 1 ≤ _; omega
  refine va_newaK (N := n.toInt.toNat) F.1 F.2.1 harr rfl hd rfl (x_nn hn.1) rfl hby (by omega) (by omega) rfl (fun H1 cA e1 e2 e3 e4 e5 => ?_)
  have hcA : cA = G.2.2.1 kd := by
    rw [hty] at e5
    have := (hK.2.2.1 kd hk2).2
    rw [← hW.alike.findClass] at this
    exact Option.some.inj (e5.symm.trans this)
  have hR1 : xR G (hnew h (.inl (kd, n.toInt.toNat, fun _ => 0)) n.toInt.toNat) H1 locs := by
    refine xR_new hR ?_ e2 e3
    show H1[H.size]? = some (vp_cell _ _)
    rw [e1, hcA, hty]
    rcases ht with ⟨rfl, rfl⟩ | ⟨rfl, rfl⟩ <;> rfl
  have k1 := k (Nat.le_succ_of_le h1) (Nat.le_add_right_of_le h2) H1 locs ls hR1 hL
  have q1 : (hnew h (.inl (kd, n.toInt.toNat, fun _ => 0)) n.toInt.toNat).1 - n0 = h.1 - n0 + 1 := by show h.1 + 1 - n0 = _; omega
  have q2 : (hnew h (.inl (kd, n.toInt.toNat, fun _ => 0)) n.toInt.toNat).2.1 - s0 = h.2.1 - s0 + n.toInt.toNat := by show h.2.1 + n.toInt.toNat - s0 = _; omega
  rw [q1, q2, List.map_cons, show xcv G (.ref h.1) = .ref H.size by rw [hR.1]; rfl] at k1
  exact k1
theorem xs_anew (F : xFr G y p s m meth c) {i ci : Nat} {n : Int32} (hd : decode (xmd y).2.1 pc = .ok (.anewarray i, 3)) (hl : xlk (xkey y i) xlA = some ci) (hn : 0 ≤ n.toInt ∧ n.toInt ≤ 100000) (hc : h.1 + 1 - n0 ≤ R.cells) (hs : h.2.1 + n.toInt.toNat - s0 ≤ R.slots) (k : xWs G y p l e R s m args below meth c Q n0 s0 (pc + 3) L (.ref h.1 :: st) (hnew h (.inr (.inl (ci, n.toInt.toNat, fun _ => none))) n.toInt.toNat)) : xWs G y p l e R s m args below meth c Q n0 s0 pc L (.int n :: st) h := by
  intro h1 h2 H locs ls hR hL
  have hK := F.2.2.2.2.2.2.2.2
  have hW := F.2.2.2.2.2.2.2.1
  obtain ⟨b1, b2⟩ := xlA_at hl
  have hmem : ci ∈ [1, 2, 4] := by rcases b1 with rfl | rfl | rfl <;> decide
  have hover : va_AO (xcn ci) s := va_AO.moved hW.alike (va_AO.of (hK.1 _ (xAO_in ci hmem)))
  refine W.anew F.1 F.2.1 F.2.2.2.1 (hK.w hW b2 rfl) (va_AO.use hover) rfl hd rfl (x_nn hn.1) (by show n.toInt.toNat * 4 ≤ _; omega) (by omega) (by show _ + n.toInt.toNat ≤ _; omega) (fun cA kA comp f1 f2 f3 f4 => ?_)
  have hcA : cA = G.2.2.2.1 ci := by
    obtain ⟨kA2, comp2, -, -, -, g4⟩ := (hK.2.2.2.1 ci b1).2
    rw [← hW.alike.findClass] at g4
    exact Option.some.inj (f1.symm.trans g4)
  generalize hH1 : H.push ({ cls := cA, slots := Array.replicate n.toNatClampNeg .null, vm := .none } : Cell) = H1
  have hR1 : xR G (hnew h (.inr (.inl (ci, n.toInt.toNat, fun _ => none))) n.toInt.toNat) H1 locs := by
    refine xR_new hR ?_ (by rw [← hH1, Array.size_push]) (fun q hq => by rw [← hH1, Array.getElem?_push, if_neg (Nat.ne_of_lt hq)])
    show H1[H.size]? = some (vp_cell _ _)
    rw [← hH1, Array.getElem?_push_size, arrV_new, hcA]
    rfl
  have k1 := k (Nat.le_succ_of_le h1) (Nat.le_add_right_of_le h2) H1 locs ls hR1 hL
  have q1 : (hnew h (.inr (.inl (ci, n.toInt.toNat, fun _ => none))) n.toInt.toNat).1 - n0 = h.1 - n0 + 1 := by show h.1 + 1 - n0 = _; omega
  have q2 : (hnew h (.inr (.inl (ci, n.toInt.toNat, fun _ => none))) n.toInt.toNat).2.1 - s0 = h.2.1 - s0 + n.toInt.toNat := by show h.2.1 + n.toInt.toNat - s0 = _; omega
  rw [q1, q2, List.map_cons, show xcv G (.ref h.1) = .ref H.size by rw [hR.1]; rfl] at k1
  exact k1
theorem hcp_some {a b : Value} {sp dp n : Int32} {h' : xh} (hx : hcp h a sp b dp n = some h') : ∃ (a1 b1 n1 n2 : Nat) (f g : Nat → Int32), a = .ref a1 ∧ b = .ref b1 ∧ h.2.2.1 a1 = .inl (0, n1, f) ∧ h.2.2.1 b1 = .inl (0, n2, g) ∧ (0 ≤ sp.toInt ∧ 0 ≤ dp.toInt ∧ 0 ≤ n.toInt ∧ sp.toInt + n.toInt ≤ n1 ∧ dp.toInt + n.toInt ≤ n2) ∧ h' = hset h b1 (.inl (0, n2, va_cpy f g sp.toInt.toNat dp.toInt.toNat n.toInt.toNat)) := by
  unfold hcp at hx
  cases a with
  | ref a1 =>
    cases b with
    | ref b1 =>
      dsimp only at hx
      cases ha : xarr (h.2.2.1 a1) 0 with
      | none => rw [ha] at hx; cases hx
      | some q =>
        obtain ⟨n1, f⟩ := q
        cases hb : xarr (h.2.2.1 b1) 0 with
        | none => rw [ha, hb] at hx; cases hx
        | some q2 =>
          obtain ⟨n2, g⟩ := q2
          rw [ha, hb] at hx
          dsimp only at hx
          split at hx
          · rename_i hc
            exact ⟨a1, b1, n1, n2, f, g, rfl, rfl, xarr_some ha, xarr_some hb, hc, (Option.some.inj hx).symm⟩
          · cases hx
    | _ => cases hx
  | _ => cases hx
theorem xR_sets {H H' : Heap} {locs L2 : List Loc} {k : Nat} {c : xc} (hR : xR G h H locs) (hk : h.2.2.1 k ≠ xnil) (hat : va_at G.2.1 xcl (gz G + k, xcc G c) H') (hsz : H'.size = H.size) (ho : ∀ q : Nat, q ≠ gz G + k → H'[q]? = H[q]?) (hL : ∀ q ∈ L2, gz G ≤ q.base) : xR G (hset h k c) H' L2 := (xR_set (j := 0) hR hk hat hsz ho).locs hL
theorem xs_acopy (F : xFr G y p s m meth c) {i : Nat} {a b : Value} {sp dp n : Int32} {kd nn : Nat} {h' : xh} (hd : decode (xmd y).2.1 pc = .ok (.invokestatic i, 3)) (hl : xlk (xkey y i) xlM = some (999, nn, kd)) (hcat : xcat st ≤ 8) (hRf : 1 ≤ R.frames) (hRl : 64 ≤ R.locals) (hx : hcp h a sp b dp n = some h') (k : xWs G y p l e R s m args below meth c Q n0 s0 (pc + 3) L st h') : xWs G y p l e R s m args below meth c Q n0 s0 pc L (.int n :: .int dp :: b :: .int sp :: a :: st) h := by
  intro h1 h2 H locs ls hR hL
  have hK := F.2.2.2.2.2.2.2.2
  have hW := F.2.2.2.2.2.2.2.1
  obtain ⟨a1, b1, n1, n2, f, g, rfl, rfl, c1, c2, ⟨d1, d2, d3, d4, d5⟩, rfl⟩ := hcp_some hx
  have hk : xkey y i ≠ 99999999 := by
    intro e
    rw [e, xlM_no] at hl
    cases hl
  obtain ⟨g1, g2⟩ := x_key rfl hk
  have hw := xacp_in _ (List.mem_filter.mpr ⟨xlk_mem hl, decide_eq_true rfl⟩)
  dsimp only at hw
  rw [g1, g2] at hw
  have hnea : h.2.2.1 a1 ≠ xnil := by rw [c1]; exact xnil_l
  have hneb : h.2.2.1 b1 ≠ xnil := by rw [c2]; exact xnil_l
  have e1 := (hR.2.1 a1 hnea).2
  have e2 := (hR.2.1 b1 hneb).2
  rw [c1] at e1
  rw [c2] at e2
  have hc0 : H[gz G + a1]? = some (vp_cell (G.2.2.1 0) (n1, .inl f)) := e1
  have hc1 : H[gz G + b1]? = some (vp_cell (G.2.2.1 0) (n2, .inl g)) := e2
  have hAr := arrOfT_moved hW.alike (hK.2.2.1 0 (by decide)).1
  obtain ⟨-, k0, hk0, cm0, hkk0⟩ := hAr n1 (fun j => .int (f j))
  obtain ⟨-, k9, hk9, cm9, hkk9⟩ := hAr n2 (fun j => .int (g j))
  have nn : ∀ z : Int32, 0 ≤ z.toInt → (z.toNatClampNeg : Int) = z.toInt := by
    intro z hz
    show ((z.toInt.toNat : Nat) : Int) = z.toInt
    omega
  intro T hT X
  obtain ⟨vm', X', step⟩ := X.arraycopy F.1 F.2.2.2.1 (hK.w hW hw rfl) (hK.w hW xacn_in rfl) (hK.w hW xacs_in rfl) (hK.w hW xaci_in rfl) (src := gz G + a1) (dst := gz G + b1) (cs := vp_cell (G.2.2.1 0) (n1, .inl f)) (cd := vp_cell (G.2.2.1 0) (n2, .inl g)) (srcPos := sp) (destPos := dp) (n := n) (by rw [hT]; exact hc0) (by rw [hT]; exact hc1)
    (fun _ h => by cases h) (fun _ h => by cases h) (fun h => by cases h) (fun h => by cases h) hk0 hk9 hkk0 hkk9 rfl (x_nn d1) (x_nn d2) (x_nn d3)
    (by show ¬ _ > ((arrV _ n1 (fun j => .int (f j))).slots.size : Int); rw [arrV_size]; omega)
    (by show ¬ _ > ((arrV _ n2 (fun j => .int (g j))).slots.size : Int); rw [arrV_size]; omega)
    (fun vm₁ _ j hj => by
      have e : (vp_cell (G.2.2.1 0) (n1, .inl f)).slots.getD (sp.toNatClampNeg + j) .null = .int (f (sp.toNatClampNeg + j)) := by
        show (arrV (G.2.2.1 0) n1 (fun j => .int (f j))).slots.getD _ _ = _
        have q1 := nn sp d1
        have q2 := nn n d3
        rw [Array.getD_eq_getD_getElem?, arrV_read _ _ (by omega)]
        rfl
      rw [e]
      exact ⟨rfl, trivial⟩)
    (g := F0 m pc ls (.int n :: .int dp :: .ref (gz G + b1) :: .int sp :: .ref (gz G + a1) :: st.map (xcv G))) rfl (by rw [F.2.2.1]; exact hL.1) (rest := st.map (xcv G)) rfl (by rw [F.2.1]; exact hd) hRf (by
      show 2 * 0 + _ + _ ≤ _
      rw [xcat_map hK.2.2.2.2.1]
      show 2 * 0 + xcat st + (5 + 2 + 11) ≤ _
      omega)
  have q1 := nn sp d1
  have q2 := nn n d3
  have e3 : copied (vp_cell (G.2.2.1 0) (n1, .inl f)) (vp_cell (G.2.2.1 0) (n2, .inl g)) sp dp n = vp_cell (G.2.2.1 0) (n2, .inl (va_cpy f g sp.toNatClampNeg dp.toNatClampNeg n.toNatClampNeg)) := va_copied (fun z => .int z) _ _ f g (by omega)
  rw [e3] at X' step
  have hl2 : gz G + b1 < H.size := (Array.getElem?_eq_some_iff.mp hc1).1
  have hheap : ((T.setVm vm').setCell (gz G + b1) (vp_cell (G.2.2.1 0) (n2, .inl (va_cpy f g sp.toNatClampNeg dp.toNatClampNeg n.toNatClampNeg)))).heap = H.setIfInBounds (gz G + b1) (vp_cell (G.2.2.1 0) (n2, .inl (va_cpy f g sp.toNatClampNeg dp.toNatClampNeg n.toNatClampNeg))) := by rw [← hT]; rfl
  obtain ⟨t, t1, t2⟩ := k h1 h2 _ _ ls (xR_sets (k := b1) (c := .inl (0, n2, va_cpy f g sp.toInt.toNat dp.toInt.toNat n.toInt.toNat)) hR hneb (show (H.setIfInBounds (gz G + b1) (vp_cell (G.2.2.1 0) (n2, .inl (va_cpy f g sp.toNatClampNeg dp.toNatClampNeg n.toNatClampNeg))))[gz G + b1]? = some (vp_cell (G.2.2.1 0) (n2, .inl (va_cpy f g sp.toNatClampNeg dp.toNatClampNeg n.toNatClampNeg))) by simp [Array.getElem?_setIfInBounds, hl2]) (by simp) (fun q hq => by simp [Array.getElem?_setIfInBounds, Ne.symm hq]) (L2 := locs ++ ((vp_cell (G.2.2.1 0) (n1, .inl f)).stretch sp.toNatClampNeg n.toNatClampNeg).zipIdx.map fun q => ⟨gz G + b1, dp.toNatClampNeg + q.2⟩) (fun q hq => by
      rcases List.mem_append.mp hq with h | h
      · exact hR.2.2.2.1 q h
      · obtain ⟨z, -, hz⟩ := List.mem_map.mp h
        rw [← hz]
        exact Nat.le_add_right _ _)) hL _ hheap X'
  exact ⟨t, step t t1, t2⟩
theorem xs_objinit (F : xFr G y p s m meth c) {i a nn kd : Nat} (hd : decode (xmd y).2.1 pc = .ok (.invokespecial i, 3)) (hl : xlk (xkey y i) xlM = some (xobji, nn, kd)) (hcat : xcat st ≤ 8) (hRf : 1 ≤ R.frames) (hRl : 64 ≤ R.locals) (k : xWs G y p l e R s m args below meth c Q n0 s0 (pc + 3) L st h) : xWs G y p l e R s m args below meth c Q n0 s0 pc L (.ref a :: st) h := by
  intro h1 h2 H locs ls hR hL
  have hK := F.2.2.2.2.2.2.2.2
  have hW := F.2.2.2.2.2.2.2.1
  have hk : xkey y i ≠ 99999999 := by
    intro e
    rw [e, xlM_no] at hl
    cases hl
  obtain ⟨g1, g2⟩ := x_key rfl hk
  have hm : (xkey y i, xobji, nn, kd) ∈ xl1M := List.mem_filter.mpr ⟨xlk_mem hl, rfl⟩
  have hw := xwM_in _ hm
  unfold xwM at hw
  dsimp only at hw
  rw [g1, g2] at hw
  have hnn : xkey y i ∉ xnest := by
    intro hin
    have hz : (xnest.all (fun q => decide ((xlk q xlM).map (fun z => z.1) ≠ some xobji))) = true := by decide +kernel
    have := of_decide_eq_true (List.all_eq_true.mp hz _ hin)
    rw [hl] at this
    exact this rfl
  rw [if_neg hnn] at hw
  have hI := xwI_in xobji (by decide +kernel)
  have hC := xwC_in xobji (by decide +kernel)
  refine W.objInit F.1 F.2.1 F.2.2.2.1 (hK.w hW hw rfl) (hK.w hW hI rfl) (hK.w hW hC rfl) rfl (by rw [F.2.2.1]; exact hL.1) rfl hd hRf ?_ (k h1 h2 H locs ls hR hL)
  show 2 * 0 + _ + 12 ≤ _
  rw [xcat_map hK.2.2.2.2.1]
  omega
end XS4
