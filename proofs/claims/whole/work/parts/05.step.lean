/-! part 05: each instruction of the machine of part 03 is one of the Statement's -/
/-- a frame of method y stands -/
def xFr (G : xg) (y : Nat) (p : Program) (s : State) (m : MethodId) (meth : Method) (c : Code) : Prop :=
  p.tables.exec = Jvm.exec ∧ c.code = (xmd y).2.1 ∧ c.maxLocals = xmax y ∧ s.vm.findClass (xcn (xown y)) = some m.cls ∧ meth.sig.returnType = xret y ∧ meth.locks = false ∧ (xini y = true → meth.name = "<init>") ∧ G.1.WarmedH s.vm ∧ xK G
def xWs (G : xg) (y : Nat) (p : Program) (l : Launch) (e : Env) (R : Room) (s : State) (m : MethodId) (args : Array Value) (below : List Frame) (meth : Method) (c : Code) (Q : State → Prop) (n0 s0 : Nat) (pc : Nat) (L : xl) (st : List Value) (h : xh) : Prop :=
  n0 ≤ h.1 → s0 ≤ h.2.1 → ∀ (H : Heap) (locs : List Loc) (ls : Array Slot), xR G h H locs → xL G (xnj y) (xmax y) L ls → W p l e R s m args below meth c H locs (h.1 - n0) (h.2.1 - s0) Q (F0 m pc ls (st.map (xcv G)))
section XS
variable {p : Program} {l : Launch} {e : Env} {R : Room} {s : State} {m : MethodId} {args : Array Value} {below : List Frame} {meth : Method} {c : Code} {Q : State → Prop}
variable {G : xg} {y n0 s0 pc : Nat} {L : xl} {st r : List Value} {h : xh}
theorem xs_null (F : xFr G y p s m meth c) (hd : decode (xmd y).2.1 pc = .ok (.aconst_null, 1)) (k : xWs G y p l e R s m args below meth c Q n0 s0 (pc + 1) L (.null :: st) h) : xWs G y p l e R s m args below meth c Q n0 s0 pc L st h := fun h1 h2 H locs ls hR hL => lv_null F.1 F.2.1 hd (k h1 h2 H locs ls hR hL)
theorem xs_iconst (F : xFr G y p s m meth c) {n : Int} (hd : decode (xmd y).2.1 pc = .ok (.iconst n, 1)) (k : xWs G y p l e R s m args below meth c Q n0 s0 (pc + 1) L (.int (Int32.ofInt n) :: st) h) : xWs G y p l e R s m args below meth c Q n0 s0 pc L st h := fun h1 h2 H locs ls hR hL => lv_iconst F.1 F.2.1 hd rfl (k h1 h2 H locs ls hR hL)
theorem xs_bipush (F : xFr G y p s m meth c) {n : Int} (hd : decode (xmd y).2.1 pc = .ok (.bipush n, 2)) (k : xWs G y p l e R s m args below meth c Q n0 s0 (pc + 2) L (.int (Int8.ofInt n).toInt32 :: st) h) : xWs G y p l e R s m args below meth c Q n0 s0 pc L st h := fun h1 h2 H locs ls hR hL => lv_bipush F.1 F.2.1 hd rfl (k h1 h2 H locs ls hR hL)
theorem xs_sipush (F : xFr G y p s m meth c) {n : Int} (hd : decode (xmd y).2.1 pc = .ok (.sipush n, 3)) (k : xWs G y p l e R s m args below meth c Q n0 s0 (pc + 3) L (.int (Int16.ofInt n).toInt32 :: st) h) : xWs G y p l e R s m args below meth c Q n0 s0 pc L st h := fun h1 h2 H locs ls hR hL => lv_sipush F.1 F.2.1 hd rfl (k h1 h2 H locs ls hR hL)
theorem xs_lconst (F : xFr G y p s m meth c) {n : Fin 2} (hd : decode (xmd y).2.1 pc = .ok (.lconst n, 1)) (k : xWs G y p l e R s m args below meth c Q n0 s0 (pc + 1) L (.long (Int64.ofNat (n : Nat)) :: st) h) : xWs G y p l e R s m args below meth c Q n0 s0 pc L st h := fun h1 h2 H locs ls hR hL => lv_lconst F.1 F.2.1 hd rfl (k h1 h2 H locs ls hR hL)
theorem xs_iload (F : xFr G y p s m meth c) {i : Nat} {x : Int32} (hd : decode (xmd y).2.1 pc = .ok (.iload i, 2)) (hi : L[i]? = some (some (.int x))) (k : xWs G y p l e R s m args below meth c Q n0 s0 (pc + 2) L (.int x :: st) h) : xWs G y p l e R s m args below meth c Q n0 s0 pc L st h := fun h1 h2 H locs ls hR hL => lv_iload F.1 F.2.1 hd (hL.2.2.2.1 i _ hi) (k h1 h2 H locs ls hR hL)
theorem xs_iload_n (F : xFr G y p s m meth c) {i : Fin 4} {x : Int32} (hd : decode (xmd y).2.1 pc = .ok (.iload_n i, 1)) (hi : L[(i : Nat)]? = some (some (.int x))) (k : xWs G y p l e R s m args below meth c Q n0 s0 (pc + 1) L (.int x :: st) h) : xWs G y p l e R s m args below meth c Q n0 s0 pc L st h := fun h1 h2 H locs ls hR hL => lv_iload_n F.1 F.2.1 hd rfl (hL.2.2.2.1 _ _ hi) (k h1 h2 H locs ls hR hL)
theorem xs_lload (F : xFr G y p s m meth c) {i : Nat} {x : Int64} (hd : decode (xmd y).2.1 pc = .ok (.lload i, 2)) (hi : L[i]? = some (some (.long x))) (k : xWs G y p l e R s m args below meth c Q n0 s0 (pc + 2) L (.long x :: st) h) : xWs G y p l e R s m args below meth c Q n0 s0 pc L st h := fun h1 h2 H locs ls hR hL => lv_lload F.1 F.2.1 hd (hL.2.2.2.1 i _ hi) (k h1 h2 H locs ls hR hL)
theorem xs_lload_n (F : xFr G y p s m meth c) {i : Fin 4} {x : Int64} (hd : decode (xmd y).2.1 pc = .ok (.lload_n i, 1)) (hi : L[(i : Nat)]? = some (some (.long x))) (k : xWs G y p l e R s m args below meth c Q n0 s0 (pc + 1) L (.long x :: st) h) : xWs G y p l e R s m args below meth c Q n0 s0 pc L st h := fun h1 h2 H locs ls hR hL => lv_lload_n F.1 F.2.1 hd rfl (hL.2.2.2.1 _ _ hi) (k h1 h2 H locs ls hR hL)
/-- a reference, or null -/
theorem xir_cv (hK : xK G) {v : Value} (hv : xir v = true) : (∃ a : Nat, xcv G v = .ref a) ∨ xcv G v = .null := by
  cases v with
  | ref k => exact Or.inl ⟨_, rfl⟩
  | null => exact Or.inr rfl
  | retAddr q => exact hK.2.2.2.2.1 q
  | _ => cases hv
theorem xs_aload (F : xFr G y p s m meth c) {i : Nat} {v : Value} (hd : decode (xmd y).2.1 pc = .ok (.aload i, 2)) (hi : L[i]? = some (some v)) (hv : xir v = true) (k : xWs G y p l e R s m args below meth c Q n0 s0 (pc + 2) L (v :: st) h) : xWs G y p l e R s m args below meth c Q n0 s0 pc L st h := by
  intro h1 h2 H locs ls hR hL
  have k1 := k h1 h2 H locs ls hR hL
  have hl := hL.2.2.2.1 i _ hi
  rw [List.map_cons] at k1
  rcases xir_cv F.2.2.2.2.2.2.2.2 hv with ⟨a, ha⟩ | ha
  · rw [ha] at k1 hl
    exact lv_aload F.1 F.2.1 hd hl k1
  · rw [ha] at k1 hl
    exact lv_aloadN F.1 F.2.1 hd hl k1
theorem xs_aload_n (F : xFr G y p s m meth c) {i : Fin 4} {v : Value} (hd : decode (xmd y).2.1 pc = .ok (.aload_n i, 1)) (hi : L[(i : Nat)]? = some (some v)) (hv : xir v = true) (k : xWs G y p l e R s m args below meth c Q n0 s0 (pc + 1) L (v :: st) h) : xWs G y p l e R s m args below meth c Q n0 s0 pc L st h := by
  intro h1 h2 H locs ls hR hL
  have k1 := k h1 h2 H locs ls hR hL
  have hl := hL.2.2.2.1 _ _ hi
  rw [List.map_cons] at k1
  rcases xir_cv F.2.2.2.2.2.2.2.2 hv with ⟨a, ha⟩ | ha
  · rw [ha] at k1 hl
    exact lv_aload_n F.1 F.2.1 hd rfl hl k1
  · rw [ha] at k1 hl
    exact lv_aload_nN F.1 F.2.1 hd rfl hl k1
theorem xL_t {nL : Nat} {ls : Array Slot} (hj : xnj y = true) (hL : xL G (xnj y) nL L ls) : xL G true nL L ls := by
  rw [hj] at hL
  exact hL
theorem xs_istore (F : xFr G y p s m meth c) {i : Nat} {x : Int32} (hd : decode (xmd y).2.1 pc = .ok (.istore i, 2)) (hj : xnj y = true) (hi : i < L.length) (k : xWs G y p l e R s m args below meth c Q n0 s0 (pc + 2) (L.set i (some (.int x))) st h) : xWs G y p l e R s m args below meth c Q n0 s0 pc L (.int x :: st) h := by
  intro h1 h2 H locs ls hR hL
  have hL1 := xL_t hj hL
  refine lv_istore F.1 F.2.1 hd (xlv_has hL) (by rw [← hL.2.1]; exact hi) rfl (fun ls' hls => k h1 h2 H locs ls' hR ?_)
  rw [hj]
  exact xL_set (v := .int x) hL1 rfl hi hls (fun j w hjw hji => xlv_keep F.2.2.2.2.2.2.2.2.2.2.2.2.1 hL1 j w hjw hji)
theorem xs_istore_n (F : xFr G y p s m meth c) {i : Fin 4} {x : Int32} (hd : decode (xmd y).2.1 pc = .ok (.istore_n i, 1)) (hj : xnj y = true) (hi : (i : Nat) < L.length) (k : xWs G y p l e R s m args below meth c Q n0 s0 (pc + 1) (L.set (i : Nat) (some (.int x))) st h) : xWs G y p l e R s m args below meth c Q n0 s0 pc L (.int x :: st) h := by
  intro h1 h2 H locs ls hR hL
  have hL1 := xL_t hj hL
  refine lv_istore_n F.1 F.2.1 hd rfl (xlv_has hL) (by rw [← hL.2.1]; exact hi) rfl (fun ls' hls => k h1 h2 H locs ls' hR ?_)
  rw [hj]
  exact xL_set (v := .int x) hL1 rfl hi hls (fun j w hjw hji => xlv_keep F.2.2.2.2.2.2.2.2.2.2.2.2.1 hL1 j w hjw hji)
theorem xir_cat {v : Value} (hv : xir v = true) : v.category = 1 := by cases v <;> first | rfl | cases hv
theorem xs_astore (F : xFr G y p s m meth c) {i : Nat} {v : Value} (hd : decode (xmd y).2.1 pc = .ok (.astore i, 2)) (hv : xir v = true) (hj : xnj y = true) (hi : i < L.length) (k : xWs G y p l e R s m args below meth c Q n0 s0 (pc + 2) (L.set i (some v)) st h) : xWs G y p l e R s m args below meth c Q n0 s0 pc L (v :: st) h := by
  intro h1 h2 H locs ls hR hL
  have hL1 := xL_t hj hL
  rw [List.map_cons]
  have hk := fun (ls' : Array Slot) hls => k h1 h2 H locs ls' hR (by rw [hj]; exact xL_set (v := v) hL1 (xir_cat hv) hi hls (fun j w hjw hji => xlv_keep F.2.2.2.2.2.2.2.2.2.2.2.2.1 hL1 j w hjw hji))
  rcases xir_cv F.2.2.2.2.2.2.2.2 hv with ⟨a, ha⟩ | ha
  · rw [ha] at hk ⊢
    exact lv_astore F.1 F.2.1 hd (xlv_has hL) (by rw [← hL.2.1]; exact hi) rfl hk
  · rw [ha] at hk ⊢
    exact lv_astoreN F.1 F.2.1 hd (xlv_has hL) (by rw [← hL.2.1]; exact hi) rfl hk
theorem xs_astore_n (F : xFr G y p s m meth c) {i : Fin 4} {v : Value} (hd : decode (xmd y).2.1 pc = .ok (.astore_n i, 1)) (hv : xir v = true) (hj : xnj y = true) (hi : (i : Nat) < L.length) (k : xWs G y p l e R s m args below meth c Q n0 s0 (pc + 1) (L.set (i : Nat) (some v)) st h) : xWs G y p l e R s m args below meth c Q n0 s0 pc L (v :: st) h := by
  intro h1 h2 H locs ls hR hL
  have hL1 := xL_t hj hL
  rw [List.map_cons]
  have hk := fun (ls' : Array Slot) hls => k h1 h2 H locs ls' hR (by rw [hj]; exact xL_set (v := v) hL1 (xir_cat hv) hi hls (fun j w hjw hji => xlv_keep F.2.2.2.2.2.2.2.2.2.2.2.2.1 hL1 j w hjw hji))
  rcases xir_cv F.2.2.2.2.2.2.2.2 hv with ⟨a, ha⟩ | ha
  · rw [ha] at hk ⊢
    exact lv_astore_n F.1 F.2.1 hd rfl (xlv_has hL) (by rw [← hL.2.1]; exact hi) rfl hk
  · rw [ha] at hk ⊢
    exact lv_astore_nN F.1 F.2.1 hd rfl (xlv_has hL) (by rw [← hL.2.1]; exact hi) rfl hk
theorem xs_iinc (F : xFr G y p s m meth c) {i : Nat} {n : Int} {x : Int32} (hd : decode (xmd y).2.1 pc = .ok (.iinc i n, 3)) (hx : L[i]? = some (some (.int x))) (hj : xnj y = true) (k : xWs G y p l e R s m args below meth c Q n0 s0 (pc + 3) (L.set i (some (.int (x + Int32.ofInt n)))) st h) : xWs G y p l e R s m args below meth c Q n0 s0 pc L st h := by
  intro h1 h2 H locs ls hR hL
  have hL1 := xL_t hj hL
  have hi : i < L.length := (List.getElem?_eq_some_iff.mp hx).1
  obtain ⟨q, hq⟩ := List.getElem?_of_mem (xlv_mem (G := G) hx)
  refine lv_iinc (k := q) F.1 F.2.1 hd (xlv_has hL) hq rfl (by rw [← hL.2.1]; exact hi) rfl (fun ls' hls => k h1 h2 H locs ls' hR ?_)
  rw [hj]
  exact xL_set (v := .int (x + Int32.ofInt n)) hL1 rfl hi hls (fun j w hjw hji => xlv_keep F.2.2.2.2.2.2.2.2.2.2.2.2.1 hL1 j w hjw hji)
theorem xs_pop (F : xFr G y p s m meth c) {v : Value} (hd : decode (xmd y).2.1 pc = .ok (.pop, 1)) (hv : v.category = 1) (k : xWs G y p l e R s m args below meth c Q n0 s0 (pc + 1) L st h) : xWs G y p l e R s m args below meth c Q n0 s0 pc L (v :: st) h := fun h1 h2 H locs ls hR hL => lv_pop F.1 F.2.1 hd (by rw [xcv_cat F.2.2.2.2.2.2.2.2.2.2.2.2.1]; exact hv) (k h1 h2 H locs ls hR hL)
theorem xs_dup (F : xFr G y p s m meth c) {v : Value} (hd : decode (xmd y).2.1 pc = .ok (.dup, 1)) (hv : v.category = 1) (k : xWs G y p l e R s m args below meth c Q n0 s0 (pc + 1) L (v :: v :: st) h) : xWs G y p l e R s m args below meth c Q n0 s0 pc L (v :: st) h := fun h1 h2 H locs ls hR hL => lv_dup F.1 F.2.1 hd (by rw [xcv_cat F.2.2.2.2.2.2.2.2.2.2.2.2.1]; exact hv) (k h1 h2 H locs ls hR hL)
theorem xs_dup2 (F : xFr G y p s m meth c) {v w : Value} (hd : decode (xmd y).2.1 pc = .ok (.dup2, 1)) (hv : v.category = 1) (hw : w.category = 1) (k : xWs G y p l e R s m args below meth c Q n0 s0 (pc + 1) L (v :: w :: v :: w :: st) h) : xWs G y p l e R s m args below meth c Q n0 s0 pc L (v :: w :: st) h := fun h1 h2 H locs ls hR hL => lv_dup2_11 F.1 F.2.1 hd (by rw [xcv_cat F.2.2.2.2.2.2.2.2.2.2.2.2.1]; exact hv) (by rw [xcv_cat F.2.2.2.2.2.2.2.2.2.2.2.2.1]; exact hw) (k h1 h2 H locs ls hR hL)
theorem xs_iadd (F : xFr G y p s m meth c) {a b : Int32} (hd : decode (xmd y).2.1 pc = .ok (.iadd, 1)) (k : xWs G y p l e R s m args below meth c Q n0 s0 (pc + 1) L (.int (a + b) :: st) h) : xWs G y p l e R s m args below meth c Q n0 s0 pc L (.int b :: .int a :: st) h := fun h1 h2 H locs ls hR hL => lv_iadd F.1 F.2.1 hd (k h1 h2 H locs ls hR hL)
theorem xs_isub (F : xFr G y p s m meth c) {a b : Int32} (hd : decode (xmd y).2.1 pc = .ok (.isub, 1)) (k : xWs G y p l e R s m args below meth c Q n0 s0 (pc + 1) L (.int (a - b) :: st) h) : xWs G y p l e R s m args below meth c Q n0 s0 pc L (.int b :: .int a :: st) h := fun h1 h2 H locs ls hR hL => lv_isub F.1 F.2.1 hd (k h1 h2 H locs ls hR hL)
theorem xs_imul (F : xFr G y p s m meth c) {a b : Int32} (hd : decode (xmd y).2.1 pc = .ok (.imul, 1)) (k : xWs G y p l e R s m args below meth c Q n0 s0 (pc + 1) L (.int (a * b) :: st) h) : xWs G y p l e R s m args below meth c Q n0 s0 pc L (.int b :: .int a :: st) h := fun h1 h2 H locs ls hR hL => lv_imul F.1 F.2.1 hd (k h1 h2 H locs ls hR hL)
theorem xs_idiv (F : xFr G y p s m meth c) {a b : Int32} (hd : decode (xmd y).2.1 pc = .ok (.idiv, 1)) (hb : ¬ b = 0) (k : xWs G y p l e R s m args below meth c Q n0 s0 (pc + 1) L (.int (a / b) :: st) h) : xWs G y p l e R s m args below meth c Q n0 s0 pc L (.int b :: .int a :: st) h := fun h1 h2 H locs ls hR hL => lv_idiv F.1 F.2.1 hd hb (k h1 h2 H locs ls hR hL)
theorem xs_irem (F : xFr G y p s m meth c) {a b : Int32} (hd : decode (xmd y).2.1 pc = .ok (.irem, 1)) (hb : ¬ b = 0) (k : xWs G y p l e R s m args below meth c Q n0 s0 (pc + 1) L (.int (a - a / b * b) :: st) h) : xWs G y p l e R s m args below meth c Q n0 s0 pc L (.int b :: .int a :: st) h := fun h1 h2 H locs ls hR hL => lv_irem F.1 F.2.1 hd hb (k h1 h2 H locs ls hR hL)
theorem xs_ineg (F : xFr G y p s m meth c) {a : Int32} (hd : decode (xmd y).2.1 pc = .ok (.ineg, 1)) (k : xWs G y p l e R s m args below meth c Q n0 s0 (pc + 1) L (.int (-a) :: st) h) : xWs G y p l e R s m args below meth c Q n0 s0 pc L (.int a :: st) h := fun h1 h2 H locs ls hR hL => lv_ineg F.1 F.2.1 hd (k h1 h2 H locs ls hR hL)
theorem xs_iand (F : xFr G y p s m meth c) {a b : Int32} (hd : decode (xmd y).2.1 pc = .ok (.iand, 1)) (k : xWs G y p l e R s m args below meth c Q n0 s0 (pc + 1) L (.int (a &&& b) :: st) h) : xWs G y p l e R s m args below meth c Q n0 s0 pc L (.int b :: .int a :: st) h := fun h1 h2 H locs ls hR hL => lv_iand F.1 F.2.1 hd (k h1 h2 H locs ls hR hL)
theorem xs_ior (F : xFr G y p s m meth c) {a b : Int32} (hd : decode (xmd y).2.1 pc = .ok (.ior, 1)) (k : xWs G y p l e R s m args below meth c Q n0 s0 (pc + 1) L (.int (a ||| b) :: st) h) : xWs G y p l e R s m args below meth c Q n0 s0 pc L (.int b :: .int a :: st) h := fun h1 h2 H locs ls hR hL => lv_ior F.1 F.2.1 hd (k h1 h2 H locs ls hR hL)
theorem xs_ixor (F : xFr G y p s m meth c) {a b : Int32} (hd : decode (xmd y).2.1 pc = .ok (.ixor, 1)) (k : xWs G y p l e R s m args below meth c Q n0 s0 (pc + 1) L (.int (a ^^^ b) :: st) h) : xWs G y p l e R s m args below meth c Q n0 s0 pc L (.int b :: .int a :: st) h := fun h1 h2 H locs ls hR hL => lv_ixor F.1 F.2.1 hd (k h1 h2 H locs ls hR hL)
theorem xs_ishl (F : xFr G y p s m meth c) {a b : Int32} (hd : decode (xmd y).2.1 pc = .ok (.ishl, 1)) (k : xWs G y p l e R s m args below meth c Q n0 s0 (pc + 1) L (.int (a <<< (b &&& 31)) :: st) h) : xWs G y p l e R s m args below meth c Q n0 s0 pc L (.int b :: .int a :: st) h := fun h1 h2 H locs ls hR hL => lv_ishl F.1 F.2.1 hd (k h1 h2 H locs ls hR hL)
theorem xs_ishr (F : xFr G y p s m meth c) {a b : Int32} (hd : decode (xmd y).2.1 pc = .ok (.ishr, 1)) (k : xWs G y p l e R s m args below meth c Q n0 s0 (pc + 1) L (.int (a >>> (b &&& 31)) :: st) h) : xWs G y p l e R s m args below meth c Q n0 s0 pc L (.int b :: .int a :: st) h := fun h1 h2 H locs ls hR hL => lv_ishr F.1 F.2.1 hd (k h1 h2 H locs ls hR hL)
theorem xs_iushr (F : xFr G y p s m meth c) {a b : Int32} (hd : decode (xmd y).2.1 pc = .ok (.iushr, 1)) (k : xWs G y p l e R s m args below meth c Q n0 s0 (pc + 1) L (.int (a.toUInt32 >>> (b.toUInt32 &&& Int32.toUInt32 31)).toInt32 :: st) h) : xWs G y p l e R s m args below meth c Q n0 s0 pc L (.int b :: .int a :: st) h := fun h1 h2 H locs ls hR hL => lv_iushr F.1 F.2.1 hd rfl (k h1 h2 H locs ls hR hL)
theorem xs_ladd (F : xFr G y p s m meth c) {a b : Int64} (hd : decode (xmd y).2.1 pc = .ok (.ladd, 1)) (k : xWs G y p l e R s m args below meth c Q n0 s0 (pc + 1) L (.long (a + b) :: st) h) : xWs G y p l e R s m args below meth c Q n0 s0 pc L (.long b :: .long a :: st) h := fun h1 h2 H locs ls hR hL => lv_ladd F.1 F.2.1 hd (k h1 h2 H locs ls hR hL)
theorem xs_lsub (F : xFr G y p s m meth c) {a b : Int64} (hd : decode (xmd y).2.1 pc = .ok (.lsub, 1)) (k : xWs G y p l e R s m args below meth c Q n0 s0 (pc + 1) L (.long (a - b) :: st) h) : xWs G y p l e R s m args below meth c Q n0 s0 pc L (.long b :: .long a :: st) h := fun h1 h2 H locs ls hR hL => lv_lsub F.1 F.2.1 hd (k h1 h2 H locs ls hR hL)
theorem xs_lmul (F : xFr G y p s m meth c) {a b : Int64} (hd : decode (xmd y).2.1 pc = .ok (.lmul, 1)) (k : xWs G y p l e R s m args below meth c Q n0 s0 (pc + 1) L (.long (a * b) :: st) h) : xWs G y p l e R s m args below meth c Q n0 s0 pc L (.long b :: .long a :: st) h := fun h1 h2 H locs ls hR hL => lv_lmul F.1 F.2.1 hd (k h1 h2 H locs ls hR hL)
theorem xs_lcmp (F : xFr G y p s m meth c) {a b : Int64} (hd : decode (xmd y).2.1 pc = .ok (.lcmp, 1)) (k : xWs G y p l e R s m args below meth c Q n0 s0 (pc + 1) L (.int (lg_cmp a b) :: st) h) : xWs G y p l e R s m args below meth c Q n0 s0 pc L (.long b :: .long a :: st) h := fun h1 h2 H locs ls hR hL => W.lcmp F.1 F.2.1 hd (k h1 h2 H locs ls hR hL)
theorem xs_i2l (F : xFr G y p s m meth c) {a : Int32} (hd : decode (xmd y).2.1 pc = .ok (.i2l, 1)) (k : xWs G y p l e R s m args below meth c Q n0 s0 (pc + 1) L (.long a.toInt64 :: st) h) : xWs G y p l e R s m args below meth c Q n0 s0 pc L (.int a :: st) h := fun h1 h2 H locs ls hR hL => lv_i2l F.1 F.2.1 hd rfl (k h1 h2 H locs ls hR hL)
theorem xs_l2i (F : xFr G y p s m meth c) {a : Int64} (hd : decode (xmd y).2.1 pc = .ok (.l2i, 1)) (k : xWs G y p l e R s m args below meth c Q n0 s0 (pc + 1) L (.int a.toInt32 :: st) h) : xWs G y p l e R s m args below meth c Q n0 s0 pc L (.long a :: st) h := fun h1 h2 H locs ls hR hL => lv_l2i F.1 F.2.1 hd rfl (k h1 h2 H locs ls hR hL)
theorem xs_i2b (F : xFr G y p s m meth c) {a : Int32} (hd : decode (xmd y).2.1 pc = .ok (.i2b, 1)) (k : xWs G y p l e R s m args below meth c Q n0 s0 (pc + 1) L (.int a.toInt8.toInt32 :: st) h) : xWs G y p l e R s m args below meth c Q n0 s0 pc L (.int a :: st) h := fun h1 h2 H locs ls hR hL => lv_i2b F.1 F.2.1 hd rfl (k h1 h2 H locs ls hR hL)
theorem xs_i2s (F : xFr G y p s m meth c) {a : Int32} (hd : decode (xmd y).2.1 pc = .ok (.i2s, 1)) (k : xWs G y p l e R s m args below meth c Q n0 s0 (pc + 1) L (.int a.toInt16.toInt32 :: st) h) : xWs G y p l e R s m args below meth c Q n0 s0 pc L (.int a :: st) h := fun h1 h2 H locs ls hR hL => lv_i2s F.1 F.2.1 hd rfl (k h1 h2 H locs ls hR hL)
theorem xs_i2c (F : xFr G y p s m meth c) {a : Int32} (hd : decode (xmd y).2.1 pc = .ok (.i2c, 1)) (k : xWs G y p l e R s m args below meth c Q n0 s0 (pc + 1) L (.int (a.toUInt32 % 65536).toInt32 :: st) h) : xWs G y p l e R s m args below meth c Q n0 s0 pc L (.int a :: st) h := fun h1 h2 H locs ls hR hL => lv_i2c F.1 F.2.1 hd rfl (k h1 h2 H locs ls hR hL)
theorem xs_goto (F : xFr G y p s m meth c) {off : Int} {tgt : Nat} (hd : decode (xmd y).2.1 pc = .ok (.goto off, 3)) (ht : (pc : Int) + off = (tgt : Int)) (k : xWs G y p l e R s m args below meth c Q n0 s0 tgt L st h) : xWs G y p l e R s m args below meth c Q n0 s0 pc L st h := fun h1 h2 H locs ls hR hL => lv_goto F.1 F.2.1 hd ht (k h1 h2 H locs ls hR hL)
theorem xs_if (F : xFr G y p s m meth c) {cd : Jvm.ClassFile.Cond} {off : Int} {tgt : Nat} {a : Int32} (hd : decode (xmd y).2.1 pc = .ok (.ifCond cd off, 3)) (ht : (pc : Int) + off = (tgt : Int)) (kt : xcnd cd a 0 = true → xWs G y p l e R s m args below meth c Q n0 s0 tgt L st h) (kf : ¬ xcnd cd a 0 = true → xWs G y p l e R s m args below meth c Q n0 s0 (pc + 3) L st h) : xWs G y p l e R s m args below meth c Q n0 s0 pc L (.int a :: st) h := by
  intro h1 h2 H locs ls hR hL
  cases cd with
  | eq => exact lv_if_eq F.1 F.2.1 hd ht (fun q => kt (by simpa [xcnd] using q) h1 h2 H locs ls hR hL) (fun q => kf (by simpa [xcnd] using q) h1 h2 H locs ls hR hL)
  | ne => exact lv_if_ne F.1 F.2.1 hd ht (fun q => kt (by simpa [xcnd] using q) h1 h2 H locs ls hR hL) (fun q => kf (by simpa [xcnd] using q) h1 h2 H locs ls hR hL)
  | lt => exact lv_if_lt F.1 F.2.1 hd ht (fun q => kt (by simpa [xcnd] using q) h1 h2 H locs ls hR hL) (fun q => kf (by simpa [xcnd] using q) h1 h2 H locs ls hR hL)
  | ge => exact lv_if_ge F.1 F.2.1 hd ht (fun q => kt (by simpa [xcnd] using q) h1 h2 H locs ls hR hL) (fun q => kf (by simpa [xcnd] using q) h1 h2 H locs ls hR hL)
  | gt => exact lv_if_gt F.1 F.2.1 hd ht (fun q => kt (by simpa [xcnd] using q) h1 h2 H locs ls hR hL) (fun q => kf (by simpa [xcnd] using q) h1 h2 H locs ls hR hL)
  | le => exact lv_if_le F.1 F.2.1 hd ht (fun q => kt (by simpa [xcnd] using q) h1 h2 H locs ls hR hL) (fun q => kf (by simpa [xcnd] using q) h1 h2 H locs ls hR hL)
theorem xs_icmp (F : xFr G y p s m meth c) {cd : Jvm.ClassFile.Cond} {off : Int} {tgt : Nat} {a b : Int32} (hd : decode (xmd y).2.1 pc = .ok (.if_icmp cd off, 3)) (ht : (pc : Int) + off = (tgt : Int)) (kt : xcnd cd a b = true → xWs G y p l e R s m args below meth c Q n0 s0 tgt L st h) (kf : ¬ xcnd cd a b = true → xWs G y p l e R s m args below meth c Q n0 s0 (pc + 3) L st h) : xWs G y p l e R s m args below meth c Q n0 s0 pc L (.int b :: .int a :: st) h := by
  intro h1 h2 H locs ls hR hL
  cases cd with
  | eq => exact lv_icmp_eq F.1 F.2.1 hd ht (fun q => kt (by simpa [xcnd] using q) h1 h2 H locs ls hR hL) (fun q => kf (by simpa [xcnd] using q) h1 h2 H locs ls hR hL)
  | ne => exact lv_icmp_ne F.1 F.2.1 hd ht (fun q => kt (by simpa [xcnd] using q) h1 h2 H locs ls hR hL) (fun q => kf (by simpa [xcnd] using q) h1 h2 H locs ls hR hL)
  | lt => exact lv_icmp_lt F.1 F.2.1 hd ht (fun q => kt (by simpa [xcnd] using q) h1 h2 H locs ls hR hL) (fun q => kf (by simpa [xcnd] using q) h1 h2 H locs ls hR hL)
  | ge => exact lv_icmp_ge F.1 F.2.1 hd ht (fun q => kt (by simpa [xcnd] using q) h1 h2 H locs ls hR hL) (fun q => kf (by simpa [xcnd] using q) h1 h2 H locs ls hR hL)
  | gt => exact lv_icmp_gt F.1 F.2.1 hd ht (fun q => kt (by simpa [xcnd] using q) h1 h2 H locs ls hR hL) (fun q => kf (by simpa [xcnd] using q) h1 h2 H locs ls hR hL)
  | le => exact lv_icmp_le F.1 F.2.1 hd ht (fun q => kt (by simpa [xcnd] using q) h1 h2 H locs ls hR hL) (fun q => kf (by simpa [xcnd] using q) h1 h2 H locs ls hR hL)
theorem xs_ifnullN (F : xFr G y p s m meth c) {off : Int} {tgt : Nat} (hd : decode (xmd y).2.1 pc = .ok (.ifnull off, 3)) (ht : (pc : Int) + off = (tgt : Int)) (k : xWs G y p l e R s m args below meth c Q n0 s0 tgt L st h) : xWs G y p l e R s m args below meth c Q n0 s0 pc L (.null :: st) h := fun h1 h2 H locs ls hR hL => lv_ifnullN F.1 F.2.1 hd ht (k h1 h2 H locs ls hR hL)
theorem xs_ifnull (F : xFr G y p s m meth c) {off : Int} {a : Nat} (hd : decode (xmd y).2.1 pc = .ok (.ifnull off, 3)) (k : xWs G y p l e R s m args below meth c Q n0 s0 (pc + 3) L st h) : xWs G y p l e R s m args below meth c Q n0 s0 pc L (.ref a :: st) h := fun h1 h2 H locs ls hR hL => lv_ifnull F.1 F.2.1 hd (k h1 h2 H locs ls hR hL)
theorem xs_ifnonnull (F : xFr G y p s m meth c) {off : Int} {tgt a : Nat} (hd : decode (xmd y).2.1 pc = .ok (.ifnonnull off, 3)) (ht : (pc : Int) + off = (tgt : Int)) (k : xWs G y p l e R s m args below meth c Q n0 s0 tgt L st h) : xWs G y p l e R s m args below meth c Q n0 s0 pc L (.ref a :: st) h := fun h1 h2 H locs ls hR hL => lv_ifnonnull F.1 F.2.1 hd ht (k h1 h2 H locs ls hR hL)
theorem xs_ifnonnullN (F : xFr G y p s m meth c) {off : Int} (hd : decode (xmd y).2.1 pc = .ok (.ifnonnull off, 3)) (k : xWs G y p l e R s m args below meth c Q n0 s0 (pc + 3) L st h) : xWs G y p l e R s m args below meth c Q n0 s0 pc L (.null :: st) h := fun h1 h2 H locs ls hR hL => lv_ifnonnullN F.1 F.2.1 hd (k h1 h2 H locs ls hR hL)
theorem x_ofInt {x : Int32} {k : Int} (h1 : -1000 ≤ k) (h2 : k ≤ 1000) : x = Int32.ofInt k ↔ x.toInt = k := by
  have hk : (Int32.ofInt k).toInt = k := Int32.toInt_ofInt_of_le (by omega) (by omega)
  constructor
  · intro e; rw [e]; exact hk
  · intro e; rw [← Int32.toInt_inj, hk]; exact e
theorem xtabl_out {x : Int32} {d : Int} : ∀ (os : List Int) (lo : Int), -1000 ≤ lo → lo + os.length - 1 ≤ 1000 → (x.toInt < lo ∨ lo + os.length - 1 < x.toInt) → xtabl x lo d os = d
  | [], lo, _, _, _ => rfl
  | o :: os, lo, h1, h2, h3 => by
    rw [xtabl, if_neg (by rw [x_ofInt h1 (by simp at h2; omega)]; simp at h3; omega)]
    exact xtabl_out os (lo + 1) (by omega) (by simp at h2; omega) (by simp at h3; omega)
theorem xtabl_in {x : Int32} {d : Int} : ∀ (os : List Int) (lo : Int), -1000 ≤ lo → lo + os.length - 1 ≤ 1000 → ¬ x.toInt < lo → ¬ lo + os.length - 1 < x.toInt → os[(x.toInt - lo).toNat]? = some (xtabl x lo d os)
  | [], lo, _, _, h3, h4 => by simp at h4; omega
  | o :: os, lo, h1, h2, h3, h4 => by
    rw [xtabl]
    by_cases he : x = Int32.ofInt lo
    · rw [if_pos he]
      have hx := (x_ofInt h1 (by simp at h2; omega)).mp he
      rw [show (x.toInt - lo).toNat = 0 by omega]
      rfl
    · rw [if_neg he]
      have hx : ¬ x.toInt = lo := fun q => he ((x_ofInt h1 (by simp at h2; omega)).mpr q)
      rw [show (x.toInt - lo).toNat = (x.toInt - (lo + 1)).toNat + 1 by omega, List.getElem?_cons_succ]
      exact xtabl_in os (lo + 1) (by omega) (by simp at h2; omega) (by omega) (by simp at h4; omega)
theorem xs_table (F : xFr G y p s m meth c) {d lo hi : Int} {offs : Array Int} {len tgt : Nat} {a : Int32} (hd : decode (xmd y).2.1 pc = .ok (.tableswitch d lo hi offs, len)) (hc : hi = lo + offs.size - 1 ∧ (-1000 ≤ lo ∧ hi ≤ 1000)) (ht : (pc : Int) + xtabl a lo d offs.toList = (tgt : Int)) (k : xWs G y p l e R s m args below meth c Q n0 s0 tgt L st h) : xWs G y p l e R s m args below meth c Q n0 s0 pc L (.int a :: st) h := by
  intro h1 h2 H locs ls hR hL
  obtain ⟨rfl, h3, h4⟩ := hc
  have hs : (offs.toList.length : Int) = offs.size := by simp
  by_cases ho : a.toInt < lo ∨ lo + offs.size - 1 < a.toInt
  · refine lv_tableOut F.1 F.2.1 hd ho ?_ (k h1 h2 H locs ls hR hL)
    rw [xtabl_out offs.toList lo h3 (by rw [hs]; exact h4) (by rw [hs]; exact ho)] at ht
    exact ht
  · have hi := xtabl_in (d := d) (x := a) offs.toList lo h3 (by rw [hs]; exact h4) (fun q => ho (Or.inl q)) (by rw [hs]; exact fun q => ho (Or.inr q))
    exact lv_tableIn F.1 F.2.1 hd (fun q => ho (Or.inl q)) (fun q => ho (Or.inr q)) (by rw [← Array.getElem?_toList]; exact hi) ht (k h1 h2 H locs ls hR hL)
theorem xlook_eq {x : Int32} {d : Int} : ∀ (ps : List (Int × Int)), ps.all (fun q => decide (-1000 ≤ q.1 ∧ q.1 ≤ 1000)) = true → Op.lookupswitch.offset ps d x.toInt = xlook x d ps
  | [], _ => rfl
  | (a, o) :: ps, h => by
    rw [List.all_cons, Bool.and_eq_true] at h
    have ha := of_decide_eq_true h.1
    rw [xlook, Op.lookupswitch.offset_cons, xlook_eq ps h.2]
    by_cases he : x = Int32.ofInt a
    · rw [if_pos he, if_pos ((x_ofInt ha.1 ha.2).mp he).symm]
    · rw [if_neg he, if_neg (fun q => he ((x_ofInt ha.1 ha.2).mpr q.symm))]
theorem xs_lookup (F : xFr G y p s m meth c) {d : Int} {ps : Array (Int × Int)} {len tgt : Nat} {a : Int32} (hd : decode (xmd y).2.1 pc = .ok (.lookupswitch d ps, len)) (hc : (ps.toList.zip (ps.toList.drop 1)).all (fun (a, next) => a.1 < next.1) = true ∧ ps.toList.all (fun q => decide (-1000 ≤ q.1 ∧ q.1 ≤ 1000)) = true) (ht : (pc : Int) + xlook a d ps.toList = (tgt : Int)) (k : xWs G y p l e R s m args below meth c Q n0 s0 tgt L st h) : xWs G y p l e R s m args below meth c Q n0 s0 pc L (.int a :: st) h := fun h1 h2 H locs ls hR hL => lv_lookup F.1 F.2.1 hd hc.1 (xlook_eq ps.toList hc.2) ht (k h1 h2 H locs ls hR hL)
end XS
