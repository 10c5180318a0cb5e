/-! part 13: the laws of a step, one a kind, as equations -/
def xpush (o : Option Value) (st : List Value) : List Value := match o with
  | some v => v :: st
  | none => st
section GEN
variable {y : Nat} {ev : xe} {pc len : Nat} {L L' : xl} {st : List Value} {h : xh}
theorem g_null (hc : xcode y pc = some (.aconst_null, len)) : RF y ev pc L st h = RF y ev (pc + 1) L (.null :: st) h := RF_go hc rfl
theorem g_iconst {n : Int} {v : Int32} (hc : xcode y pc = some (.iconst n, len)) (hv : Int32.ofInt n = v) : RF y ev pc L st h = RF y ev (pc + 1) L (.int v :: st) h := RF_go hc (by rw [← hv]; rfl)
theorem g_bipush {n : Int} {v : Int32} (hc : xcode y pc = some (.bipush n, len)) (hv : (Int8.ofInt n).toInt32 = v) : RF y ev pc L st h = RF y ev (pc + 2) L (.int v :: st) h := RF_go hc (by rw [← hv]; rfl)
theorem g_sipush {n : Int} {v : Int32} (hc : xcode y pc = some (.sipush n, len)) (hv : (Int16.ofInt n).toInt32 = v) : RF y ev pc L st h = RF y ev (pc + 3) L (.int v :: st) h := RF_go hc (by rw [← hv]; rfl)
theorem g_lconst {n : Fin 2} {v : Int64} (hc : xcode y pc = some (.lconst n, len)) (hv : Int64.ofNat (n : Nat) = v) : RF y ev pc L st h = RF y ev (pc + 1) L (.long v :: st) h := RF_go hc (by rw [← hv]; rfl)
theorem g_ldc {k : Nat} {v : Int32} (hc : xcode y pc = some (.ldc k, len)) (hl : xlk (xkey y k) xlI = some v) : RF y ev pc L st h = RF y ev (pc + 2) L (.int v :: st) h := RF_go hc (by unfold xst; dsimp only; rw [hl])
theorem g_ldcS {k e : Nat} (hc : xcode y pc = some (.ldc k, len)) (hn : xlk (xkey y k) xlI = none) (hl : xlk (xkey y k) xlS = some e) : RF y ev pc L st h = RF y ev (pc + 2) L (.retAddr e :: st) h := RF_go hc (by unfold xst; dsimp only; rw [hn]; dsimp only; rw [hl])
theorem g_ldcw {k : Nat} {v : Int32} (hc : xcode y pc = some (.ldc_w k, len)) (hl : xlk (xkey y k) xlI = some v) : RF y ev pc L st h = RF y ev (pc + 3) L (.int v :: st) h := RF_go hc (by unfold xst; dsimp only; rw [hl])
theorem g_ldc2 {k : Nat} {v : Int64} (hc : xcode y pc = some (.ldc2_w k, len)) (hl : xlk (xkey y k) xlJ = some v) : RF y ev pc L st h = RF y ev (pc + 3) L (.long v :: st) h := RF_go hc (by unfold xst; dsimp only; rw [hl])
theorem g_iload {k : Nat} {x : Int32} (hc : xcode y pc = some (.iload k, len)) (hL : L[k]? = some (some (.int x))) : RF y ev pc L st h = RF y ev (pc + 2) L (.int x :: st) h := RF_go hc (by unfold xst xldi; dsimp only; rw [hL])
theorem g_iload_n {k : Fin 4} {x : Int32} (hc : xcode y pc = some (.iload_n k, len)) (hL : L[(k : Nat)]? = some (some (.int x))) : RF y ev pc L st h = RF y ev (pc + 1) L (.int x :: st) h := RF_go hc (by unfold xst xldi; dsimp only; rw [hL])
theorem g_lload {k : Nat} {x : Int64} (hc : xcode y pc = some (.lload k, len)) (hL : L[k]? = some (some (.long x))) : RF y ev pc L st h = RF y ev (pc + 2) L (.long x :: st) h := RF_go hc (by unfold xst xldl; dsimp only; rw [hL])
theorem g_lload_n {k : Fin 4} {x : Int64} (hc : xcode y pc = some (.lload_n k, len)) (hL : L[(k : Nat)]? = some (some (.long x))) : RF y ev pc L st h = RF y ev (pc + 1) L (.long x :: st) h := RF_go hc (by unfold xst xldl; dsimp only; rw [hL])
theorem g_aload {k : Nat} {v : Value} (hc : xcode y pc = some (.aload k, len)) (hL : L[k]? = some (some v)) : RF y ev pc L st h = if xir v = true then RF y ev (pc + 2) L (v :: st) h else none := by
  rw [RF_step hc]
  unfold xst xlda
  dsimp only
  rw [hL]
  dsimp only
  by_cases hv : xir v = true
  · rw [if_pos hv, if_pos hv]; rfl
  · rw [if_neg hv, if_neg hv]; rfl
theorem g_aload_n {k : Fin 4} {v : Value} (hc : xcode y pc = some (.aload_n k, len)) (hL : L[(k : Nat)]? = some (some v)) : RF y ev pc L st h = if xir v = true then RF y ev (pc + 1) L (v :: st) h else none := by
  rw [RF_step hc]
  unfold xst xlda
  dsimp only
  rw [hL]
  dsimp only
  by_cases hv : xir v = true
  · rw [if_pos hv, if_pos hv]; rfl
  · rw [if_neg hv, if_neg hv]; rfl
theorem x_sto {pc' i : Nat} {v : Value} (hj : xnj y = true) (hi : i < L.length) (hL : L.set i (some v) = L') : xsto y pc' i L v st h = xgo pc' L' st h := by
  unfold xsto
  rw [if_pos ⟨hj, hi⟩, hL]
theorem g_istore {k : Nat} {x : Int32} (hc : xcode y pc = some (.istore k, len)) (hj : xnj y = true) (hi : k < L.length) (hL : L.set k (some (.int x)) = L') : RF y ev pc L (.int x :: st) h = RF y ev (pc + 2) L' st h := RF_go hc (x_sto hj hi hL)
theorem g_istore_n {k : Fin 4} {x : Int32} (hc : xcode y pc = some (.istore_n k, len)) (hj : xnj y = true) (hi : (k : Nat) < L.length) (hL : L.set (k : Nat) (some (.int x)) = L') : RF y ev pc L (.int x :: st) h = RF y ev (pc + 1) L' st h := RF_go hc (x_sto hj hi hL)
theorem g_astore {k : Nat} {v : Value} (hc : xcode y pc = some (.astore k, len)) (hj : xnj y = true) (hi : k < L.length) (hL : L.set k (some v) = L') : RF y ev pc L (v :: st) h = if xir v = true then RF y ev (pc + 2) L' st h else none := by
  rw [RF_step hc]
  show (match (if xir v = true then xsto y (pc + 2) k L v st h else xno) with | .inl (pc', L', st', h') => RF y ev pc' L' st' h' | .inr r => r) = _
  by_cases hv : xir v = true
  · rw [if_pos hv, if_pos hv, x_sto hj hi hL]; rfl
  · rw [if_neg hv, if_neg hv]; rfl
theorem g_astore_n {k : Fin 4} {v : Value} (hc : xcode y pc = some (.astore_n k, len)) (hj : xnj y = true) (hi : (k : Nat) < L.length) (hL : L.set (k : Nat) (some v) = L') : RF y ev pc L (v :: st) h = if xir v = true then RF y ev (pc + 1) L' st h else none := by
  rw [RF_step hc]
  show (match (if xir v = true then xsto y (pc + 1) (k : Nat) L v st h else xno) with | .inl (pc', L', st', h') => RF y ev pc' L' st' h' | .inr r => r) = _
  by_cases hv : xir v = true
  · rw [if_pos hv, if_pos hv, x_sto hj hi hL]; rfl
  · rw [if_neg hv, if_neg hv]; rfl
theorem g_iinc {k : Nat} {n : Int} {x a : Int32} (hc : xcode y pc = some (.iinc k n, len)) (hj : xnj y = true) (hx : L[k]? = some (some (.int x))) (ha : Int32.ofInt n = a) (hL : L.set k (some (.int (x + a))) = L') : RF y ev pc L st h = RF y ev (pc + 3) L' st h := RF_go hc (by
  unfold xst
  dsimp only
  rw [hx]
  dsimp only
  rw [ha]
  exact x_sto hj (List.getElem?_eq_some_iff.mp hx).1 hL)
theorem g_ps {o : Option Value} {i : Instr} {pc' : Nat} {st' : List Value} (hc : xcode y pc = some (i, len)) (hs : xst y ev i pc L st h = xps pc' L st' h o) : RF y ev pc L st h = o.bind (fun v => RF y ev pc' L (v :: st') h) := by
  rw [RF_step hc, hs]
  cases o <;> rfl
theorem g_hp {o : Option xh} {i : Instr} {pc' : Nat} {st' : List Value} (hc : xcode y pc = some (i, len)) (hs : xst y ev i pc L st h = xhp pc' L st' o) : RF y ev pc L st h = o.bind (fun h' => RF y ev pc' L st' h') := by
  rw [RF_step hc, hs]
  cases o <;> rfl
theorem g_iald {i : Int32} {v : Value} (hc : xcode y pc = some (.iaload, len)) : RF y ev pc L (.int i :: v :: st) h = (hrd h v 0 i).bind (fun x => RF y ev (pc + 1) L (.int x :: st) h) := by
  rw [g_ps hc (pc' := pc + 1) (st' := st) (o := (hrd h v 0 i).map .int) rfl]
  cases hrd h v 0 i <;> rfl
theorem g_zald {i : Int32} {a : Nat} (hc : xcode y pc = some (.baload, len)) : RF y ev pc L (.int i :: .ref a :: st) h = (hrd h (.ref a) 1 i).bind (fun x => RF y ev (pc + 1) L (.int x :: st) h) := by
  rw [RF_step hc]
  show (match (match hrd h (.ref a) 1 i with | some x => xgo (pc + 1) L (.int x :: st) h | none => xno) with | .inl (pc', L', st', h') => RF y ev pc' L' st' h' | .inr r => r) = _
  cases hrd h (.ref a) 1 i <;> rfl
theorem g_bald {i : Int32} {e n : Nat} {f : Nat → Int32} (hc : xcode y pc = some (.baload, len)) (hx : h.2.2.2 e = .inl (2, n, f)) : RF y ev pc L (.int i :: .retAddr e :: st) h = (hrd h (.retAddr e) 2 i).bind (fun x => RF y ev (pc + 1) L (.int x :: st) h) := by
  have h1 : hrd h (.retAddr e) 1 i = none := by
    unfold hrd hget xarr
    dsimp only
    rw [hx]
    rfl
  rw [RF_step hc]
  show (match (match hrd h (.retAddr e) 1 i with | some x => xgo (pc + 1) L (.int x :: st) h | none => xps (pc + 1) L st h ((hrd h (.retAddr e) 2 i).map .int)) with | .inl (pc', L', st', h') => RF y ev pc' L' st' h' | .inr r => r) = _
  rw [h1]
  cases hrd h (.retAddr e) 2 i <;> rfl
theorem g_aald {i : Int32} {v : Value} (hc : xcode y pc = some (.aaload, len)) : RF y ev pc L (.int i :: v :: st) h = (hrq h v i).bind (fun w => RF y ev (pc + 1) L (w :: st) h) := g_ps hc rfl
theorem g_iast {i x : Int32} {v : Value} (hc : xcode y pc = some (.iastore, len)) : RF y ev pc L (.int x :: .int i :: v :: st) h = (hwr h v 0 i x).bind (fun h' => RF y ev (pc + 1) L st h') := g_hp hc rfl
theorem g_zast {i x : Int32} {v : Value} (hc : xcode y pc = some (.bastore, len)) : RF y ev pc L (.int x :: .int i :: v :: st) h = (hwr h v 1 i (vp_nar .boolean x)).bind (fun h' => RF y ev (pc + 1) L st h') := g_hp hc rfl
theorem g_aast {i : Int32} {v w : Value} (hc : xcode y pc = some (.aastore, len)) : RF y ev pc L (w :: .int i :: v :: st) h = (hwq h v i w).bind (fun h' => RF y ev (pc + 1) L st h') := g_hp hc rfl
theorem g_alen {v : Value} (hc : xcode y pc = some (.arraylength, len)) : RF y ev pc L (v :: st) h = (xalen h v).bind (fun n => RF y ev (pc + 1) L (.int (Int32.ofNat n) :: st) h) := by
  rw [g_ps hc (pc' := pc + 1) (st' := st) (o := (xalen h v).map (fun n => .int (Int32.ofNat n))) rfl]
  cases xalen h v <;> rfl
theorem g_if {c : Prop} {i : Instr} [Decidable c] {pc' : Nat} {st' : List Value} {h' : xh} (hc : xcode y pc = some (i, len)) (hs : xst y ev i pc L st h = if c then xgo pc' L' st' h' else xno) : RF y ev pc L st h = if c then RF y ev pc' L' st' h' else none := by
  rw [RF_step hc, hs]
  by_cases q : c
  · rw [if_pos q, if_pos q]; rfl
  · rw [if_neg q, if_neg q]; rfl
theorem g_pop {v : Value} (hc : xcode y pc = some (.pop, len)) : RF y ev pc L (v :: st) h = if v.category = 1 then RF y ev (pc + 1) L st h else none := g_if hc rfl
theorem g_dup {v : Value} (hc : xcode y pc = some (.dup, len)) : RF y ev pc L (v :: st) h = if v.category = 1 then RF y ev (pc + 1) L (v :: v :: st) h else none := g_if hc rfl
theorem g_dup2 {v w : Value} (hc : xcode y pc = some (.dup2, len)) : RF y ev pc L (w :: v :: st) h = if v.category = 1 ∧ w.category = 1 then RF y ev (pc + 1) L (w :: v :: w :: v :: st) h else none := g_if hc rfl
theorem g_iadd {a b : Int32} (hc : xcode y pc = some (.iadd, len)) : RF y ev pc L (.int b :: .int a :: st) h = RF y ev (pc + 1) L (.int (a + b) :: st) h := RF_go hc rfl
theorem g_isub {a b : Int32} (hc : xcode y pc = some (.isub, len)) : RF y ev pc L (.int b :: .int a :: st) h = RF y ev (pc + 1) L (.int (a - b) :: st) h := RF_go hc rfl
theorem g_imul {a b : Int32} (hc : xcode y pc = some (.imul, len)) : RF y ev pc L (.int b :: .int a :: st) h = RF y ev (pc + 1) L (.int (a * b) :: st) h := RF_go hc rfl
theorem g_idiv {a b : Int32} (hc : xcode y pc = some (.idiv, len)) : RF y ev pc L (.int b :: .int a :: st) h = if b = 0 then none else RF y ev (pc + 1) L (.int (a / b) :: st) h := by
  rw [RF_step hc]
  show (match (if b = 0 then xno else xgo (pc + 1) L (.int (a / b) :: st) h) with | .inl (pc', L', st', h') => RF y ev pc' L' st' h' | .inr r => r) = _
  by_cases q : b = 0
  · rw [if_pos q, if_pos q]; rfl
  · rw [if_neg q, if_neg q]; rfl
theorem g_irem {a b : Int32} (hc : xcode y pc = some (.irem, len)) : RF y ev pc L (.int b :: .int a :: st) h = if b = 0 then none else RF y ev (pc + 1) L (.int (a - a / b * b) :: st) h := by
  rw [RF_step hc]
  show (match (if b = 0 then xno else xgo (pc + 1) L (.int (a - a / b * b) :: st) h) with | .inl (pc', L', st', h') => RF y ev pc' L' st' h' | .inr r => r) = _
  by_cases q : b = 0
  · rw [if_pos q, if_pos q]; rfl
  · rw [if_neg q, if_neg q]; rfl
theorem g_ineg {a : Int32} (hc : xcode y pc = some (.ineg, len)) : RF y ev pc L (.int a :: st) h = RF y ev (pc + 1) L (.int (-a) :: st) h := RF_go hc rfl
theorem g_iand {a b : Int32} (hc : xcode y pc = some (.iand, len)) : RF y ev pc L (.int b :: .int a :: st) h = RF y ev (pc + 1) L (.int (a &&& b) :: st) h := RF_go hc rfl
theorem g_ior {a b : Int32} (hc : xcode y pc = some (.ior, len)) : RF y ev pc L (.int b :: .int a :: st) h = RF y ev (pc + 1) L (.int (a ||| b) :: st) h := RF_go hc rfl
theorem g_ixor {a b : Int32} (hc : xcode y pc = some (.ixor, len)) : RF y ev pc L (.int b :: .int a :: st) h = RF y ev (pc + 1) L (.int (a ^^^ b) :: st) h := RF_go hc rfl
theorem g_ishl {a b : Int32} (hc : xcode y pc = some (.ishl, len)) : RF y ev pc L (.int b :: .int a :: st) h = RF y ev (pc + 1) L (.int (a <<< (b &&& 31)) :: st) h := RF_go hc rfl
theorem g_ishr {a b : Int32} (hc : xcode y pc = some (.ishr, len)) : RF y ev pc L (.int b :: .int a :: st) h = RF y ev (pc + 1) L (.int (a >>> (b &&& 31)) :: st) h := RF_go hc rfl
theorem g_iushr {a b : Int32} (hc : xcode y pc = some (.iushr, len)) : RF y ev pc L (.int b :: .int a :: st) h = RF y ev (pc + 1) L (.int (a.toUInt32 >>> (b.toUInt32 &&& Int32.toUInt32 31)).toInt32 :: st) h := RF_go hc rfl
theorem g_ladd {a b : Int64} (hc : xcode y pc = some (.ladd, len)) : RF y ev pc L (.long b :: .long a :: st) h = RF y ev (pc + 1) L (.long (a + b) :: st) h := RF_go hc rfl
theorem g_lsub {a b : Int64} (hc : xcode y pc = some (.lsub, len)) : RF y ev pc L (.long b :: .long a :: st) h = RF y ev (pc + 1) L (.long (a - b) :: st) h := RF_go hc rfl
theorem g_lmul {a b : Int64} (hc : xcode y pc = some (.lmul, len)) : RF y ev pc L (.long b :: .long a :: st) h = RF y ev (pc + 1) L (.long (a * b) :: st) h := RF_go hc rfl
theorem g_lcmp {a b : Int64} (hc : xcode y pc = some (.lcmp, len)) : RF y ev pc L (.long b :: .long a :: st) h = RF y ev (pc + 1) L (.int (lg_cmp a b) :: st) h := RF_go hc rfl
theorem g_i2l {a : Int32} (hc : xcode y pc = some (.i2l, len)) : RF y ev pc L (.int a :: st) h = RF y ev (pc + 1) L (.long a.toInt64 :: st) h := RF_go hc rfl
theorem g_l2i {a : Int64} (hc : xcode y pc = some (.l2i, len)) : RF y ev pc L (.long a :: st) h = RF y ev (pc + 1) L (.int a.toInt32 :: st) h := RF_go hc rfl
theorem g_i2b {a : Int32} (hc : xcode y pc = some (.i2b, len)) : RF y ev pc L (.int a :: st) h = RF y ev (pc + 1) L (.int a.toInt8.toInt32 :: st) h := RF_go hc rfl
theorem g_i2s {a : Int32} (hc : xcode y pc = some (.i2s, len)) : RF y ev pc L (.int a :: st) h = RF y ev (pc + 1) L (.int a.toInt16.toInt32 :: st) h := RF_go hc rfl
theorem g_i2c {a : Int32} (hc : xcode y pc = some (.i2c, len)) : RF y ev pc L (.int a :: st) h = RF y ev (pc + 1) L (.int (a.toUInt32 % 65536).toInt32 :: st) h := RF_go hc rfl
theorem g_jp {i : Instr} {off : Int} {tgt : Nat} {st' : List Value} (hc : xcode y pc = some (i, len)) (ht : (pc : Int) + off = (tgt : Int)) (hs : xst y ev i pc L st h = xjp pc off L st' h) : RF y ev pc L st h = RF y ev tgt L st' h := RF_go hc (by
  rw [hs]
  unfold xjp
  rw [if_pos (by omega)]
  congr 1
  omega)
theorem g_goto {off : Int} {tgt : Nat} (hc : xcode y pc = some (.goto off, len)) (ht : (pc : Int) + off = (tgt : Int)) : RF y ev pc L st h = RF y ev tgt L st h := g_jp hc ht rfl
theorem g_cnd {i : Instr} {off : Int} {tgt : Nat} {st' : List Value} {b : Bool} (hc : xcode y pc = some (i, len)) (ht : (pc : Int) + off = (tgt : Int)) (hs : xst y ev i pc L st h = if 0 ≤ (pc : Int) + off then (if b = true then xgo ((pc : Int) + off).toNat L st' h else xgo (pc + 3) L st' h) else xno) : RF y ev pc L st h = if b = true then RF y ev tgt L st' h else RF y ev (pc + 3) L st' h := by
  rw [RF_step hc, hs, if_pos (by omega)]
  have e : ((pc : Int) + off).toNat = tgt := by omega
  cases b
  · rfl
  · simp only [if_true]
    show RF y ev ((pc : Int) + off).toNat L st' h = _
    rw [e]
theorem g_ifeq {off : Int} {tgt : Nat} {a : Int32} (hc : xcode y pc = some (.ifCond .eq off, len)) (ht : (pc : Int) + off = (tgt : Int)) : RF y ev pc L (.int a :: st) h = if a = 0 then RF y ev tgt L st h else RF y ev (pc + 3) L st h := by rw [g_cnd (st' := st) (b := decide (a = 0)) hc ht rfl]; simp only [decide_eq_true_eq]
theorem g_ifne {off : Int} {tgt : Nat} {a : Int32} (hc : xcode y pc = some (.ifCond .ne off, len)) (ht : (pc : Int) + off = (tgt : Int)) : RF y ev pc L (.int a :: st) h = if a = 0 then RF y ev (pc + 3) L st h else RF y ev tgt L st h := by rw [g_cnd (st' := st) (b := decide (¬ a = 0)) hc ht rfl]; by_cases q : a = 0 <;> simp [q]
theorem g_iflt {off : Int} {tgt : Nat} {a : Int32} (hc : xcode y pc = some (.ifCond .lt off, len)) (ht : (pc : Int) + off = (tgt : Int)) : RF y ev pc L (.int a :: st) h = if a < 0 then RF y ev tgt L st h else RF y ev (pc + 3) L st h := by rw [g_cnd (st' := st) (b := decide (a < 0)) hc ht rfl]; simp only [decide_eq_true_eq]
theorem g_ifge {off : Int} {tgt : Nat} {a : Int32} (hc : xcode y pc = some (.ifCond .ge off, len)) (ht : (pc : Int) + off = (tgt : Int)) : RF y ev pc L (.int a :: st) h = if 0 ≤ a then RF y ev tgt L st h else RF y ev (pc + 3) L st h := by rw [g_cnd (st' := st) (b := decide (0 ≤ a)) hc ht rfl]; simp only [decide_eq_true_eq]
theorem g_ifgt {off : Int} {tgt : Nat} {a : Int32} (hc : xcode y pc = some (.ifCond .gt off, len)) (ht : (pc : Int) + off = (tgt : Int)) : RF y ev pc L (.int a :: st) h = if 0 < a then RF y ev tgt L st h else RF y ev (pc + 3) L st h := by rw [g_cnd (st' := st) (b := decide (0 < a)) hc ht rfl]; simp only [decide_eq_true_eq]
theorem g_ifle {off : Int} {tgt : Nat} {a : Int32} (hc : xcode y pc = some (.ifCond .le off, len)) (ht : (pc : Int) + off = (tgt : Int)) : RF y ev pc L (.int a :: st) h = if a ≤ 0 then RF y ev tgt L st h else RF y ev (pc + 3) L st h := by rw [g_cnd (st' := st) (b := decide (a ≤ 0)) hc ht rfl]; simp only [decide_eq_true_eq]
theorem g_icmpeq {off : Int} {tgt : Nat} {a b : Int32} (hc : xcode y pc = some (.if_icmp .eq off, len)) (ht : (pc : Int) + off = (tgt : Int)) : RF y ev pc L (.int b :: .int a :: st) h = if a = b then RF y ev tgt L st h else RF y ev (pc + 3) L st h := by rw [g_cnd (st' := st) (b := decide (a = b)) hc ht rfl]; simp only [decide_eq_true_eq]
theorem g_icmpne {off : Int} {tgt : Nat} {a b : Int32} (hc : xcode y pc = some (.if_icmp .ne off, len)) (ht : (pc : Int) + off = (tgt : Int)) : RF y ev pc L (.int b :: .int a :: st) h = if a = b then RF y ev (pc + 3) L st h else RF y ev tgt L st h := by rw [g_cnd (st' := st) (b := decide (¬ a = b)) hc ht rfl]; by_cases q : a = b <;> simp [q]
theorem g_icmplt {off : Int} {tgt : Nat} {a b : Int32} (hc : xcode y pc = some (.if_icmp .lt off, len)) (ht : (pc : Int) + off = (tgt : Int)) : RF y ev pc L (.int b :: .int a :: st) h = if a < b then RF y ev tgt L st h else RF y ev (pc + 3) L st h := by rw [g_cnd (st' := st) (b := decide (a < b)) hc ht rfl]; simp only [decide_eq_true_eq]
theorem g_icmpge {off : Int} {tgt : Nat} {a b : Int32} (hc : xcode y pc = some (.if_icmp .ge off, len)) (ht : (pc : Int) + off = (tgt : Int)) : RF y ev pc L (.int b :: .int a :: st) h = if b ≤ a then RF y ev tgt L st h else RF y ev (pc + 3) L st h := by rw [g_cnd (st' := st) (b := decide (b ≤ a)) hc ht rfl]; simp only [decide_eq_true_eq]
theorem g_icmpgt {off : Int} {tgt : Nat} {a b : Int32} (hc : xcode y pc = some (.if_icmp .gt off, len)) (ht : (pc : Int) + off = (tgt : Int)) : RF y ev pc L (.int b :: .int a :: st) h = if b < a then RF y ev tgt L st h else RF y ev (pc + 3) L st h := by rw [g_cnd (st' := st) (b := decide (b < a)) hc ht rfl]; simp only [decide_eq_true_eq]
theorem g_icmple {off : Int} {tgt : Nat} {a b : Int32} (hc : xcode y pc = some (.if_icmp .le off, len)) (ht : (pc : Int) + off = (tgt : Int)) : RF y ev pc L (.int b :: .int a :: st) h = if a ≤ b then RF y ev tgt L st h else RF y ev (pc + 3) L st h := by rw [g_cnd (st' := st) (b := decide (a ≤ b)) hc ht rfl]; simp only [decide_eq_true_eq]
theorem g_ifnull {off : Int} {a : Nat} (hc : xcode y pc = some (.ifnull off, len)) : RF y ev pc L (.ref a :: st) h = RF y ev (pc + 3) L st h := RF_go hc rfl
theorem g_ifnullN {off : Int} {tgt : Nat} (hc : xcode y pc = some (.ifnull off, len)) (ht : (pc : Int) + off = (tgt : Int)) : RF y ev pc L (.null :: st) h = RF y ev tgt L st h := g_jp hc ht rfl
theorem g_ifnonnull {off : Int} {a tgt : Nat} (hc : xcode y pc = some (.ifnonnull off, len)) (ht : (pc : Int) + off = (tgt : Int)) : RF y ev pc L (.ref a :: st) h = RF y ev tgt L st h := g_jp hc ht rfl
theorem g_ifnonnullN {off : Int} (hc : xcode y pc = some (.ifnonnull off, len)) : RF y ev pc L (.null :: st) h = RF y ev (pc + 3) L st h := RF_go hc rfl
/-- a switch: the target by the number -/
theorem g_table {d lo hi : Int} {offs : Array Int} {a : Int32} {tgt : Nat} (hc : xcode y pc = some (.tableswitch d lo hi offs, len)) (hk : hi = lo + offs.size - 1 ∧ (-1000 ≤ lo ∧ hi ≤ 1000)) (ht : (pc : Int) + xtabl a lo d offs.toList = (tgt : Int)) : RF y ev pc L (.int a :: st) h = RF y ev tgt L st h := by
  refine g_jp hc ht ?_
  show (if hi = lo + offs.size - 1 ∧ (-1000 ≤ lo ∧ hi ≤ 1000) then xjp pc (xtabl a lo d offs.toList) L st h else xno) = _
  rw [if_pos hk]
theorem g_look {d : Int} {ps : Array (Int × Int)} {a : Int32} {tgt : Nat} (hc : xcode y pc = some (.lookupswitch d ps, len)) (hk : (ps.toList.zip (ps.toList.drop 1)).all (fun (a, next) => a.1 < next.1) = true ∧ ps.toList.all (fun q => decide (-1000 ≤ q.1 ∧ q.1 ≤ 1000)) = true) (ht : (pc : Int) + xlook a d ps.toList = (tgt : Int)) : RF y ev pc L (.int a :: st) h = RF y ev tgt L st h := by
  refine g_jp hc ht ?_
  show (if (ps.toList.zip (ps.toList.drop 1)).all (fun (a, next) => a.1 < next.1) = true ∧ ps.toList.all (fun q => decide (-1000 ≤ q.1 ∧ q.1 ≤ 1000)) = true then xjp pc (xlook a d ps.toList) L st h else xno) = _
  rw [if_pos hk]
theorem g_iret {v : Int32} (hc : xcode y pc = some (.ireturn, len)) (hr : xret y = some .int) : RF y ev pc L [.int v] h = some (some (.int v), h) := RF_end hc (by
  unfold xst
  dsimp only
  rw [hr]
  dsimp only
  rw [if_pos ⟨rfl, rfl⟩])
theorem g_zret {v : Int32} {ty : FieldType} (hc : xcode y pc = some (.ireturn, len)) (hr : xret y = some ty) (hty : ty.isReference = false) : RF y ev pc L [.int v] h = if narrow ty (.int v) = .int v then some (some (.int v), h) else none := by
  rw [RF_step hc]
  unfold xst
  dsimp only
  rw [hr]
  dsimp only
  rw [hty]
  by_cases q : narrow ty (.int v) = .int v
  · rw [if_pos ⟨q, rfl⟩, if_pos q]
  · rw [if_neg (fun z => q z.1), if_neg q]; rfl
theorem g_aret {a : Nat} {ty : FieldType} (hc : xcode y pc = some (.areturn, len)) (hr : xret y = some ty) (hty : ty.isReference = true) : RF y ev pc L [.ref a] h = some (some (.ref a), h) := RF_end hc (by
  unfold xst
  dsimp only
  rw [hr]
  dsimp only
  rw [if_pos hty])
theorem g_aretN {ty : FieldType} (hc : xcode y pc = some (.areturn, len)) (hr : xret y = some ty) (hty : ty.isReference = true) : RF y ev pc L [.null] h = some (some .null, h) := RF_end hc (by
  unfold xst
  dsimp only
  rw [hr]
  dsimp only
  rw [if_pos hty])
theorem g_ret (hc : xcode y pc = some (.return_, len)) (hr : xret y = none) : RF y ev pc L [] h = some (none, h) := RF_end hc (by
  unfold xst
  dsimp only
  rw [hr])
theorem g_gets {k : Nat} {v : Value} (hc : xcode y pc = some (.getstatic k, len)) (hl : xlk (xkey y k) xlG = some v) : RF y ev pc L st h = RF y ev (pc + 3) L (v :: st) h := RF_go hc (by
  show xps (pc + 3) L st h (xlk (xkey y k) xlG) = _
  rw [hl]
  rfl)
theorem g_getf {k ci f : Nat} {v : Value} (hc : xcode y pc = some (.getfield k, len)) (hl : xlk (xkey y k) xlF = some (ci, f)) : RF y ev pc L (v :: st) h = (hgf h v ci f).bind (fun w => RF y ev (pc + 3) L (w :: st) h) := g_ps hc (by
  unfold xst
  dsimp only
  rw [hl]
  rfl)
theorem g_putf {k ci f : Nat} {v w : Value} (hc : xcode y pc = some (.putfield k, len)) (hl : xlk (xkey y k) xlF = some (ci, f)) (hf : xfin ci f = false ∨ (xini y = true ∧ xown y = ci)) (hn : narrow (xft ci f) w = w) (hi : fits (xft ci f) w = true) : RF y ev pc L (w :: v :: st) h = (hpf h v ci f w).bind (fun h' => RF y ev (pc + 3) L st h') := g_hp hc (by
  unfold xst
  dsimp only
  rw [hl]
  dsimp only
  show (if _ then xhp (pc + 3) L st (hpf h v ci f w) else xno) = _
  rw [if_pos ⟨hf, hn, hi⟩])
theorem g_putz {k ci f : Nat} {v : Value} {x : Int32} (hc : xcode y pc = some (.putfield k, len)) (hl : xlk (xkey y k) xlF = some (ci, f)) (hf : xfin ci f = false ∨ (xini y = true ∧ xown y = ci)) (hz : xft ci f = .boolean) : RF y ev pc L (.int x :: v :: st) h = if x = 0 ∨ x = 1 then (hpf h v ci f (.int x)).bind (fun h' => RF y ev (pc + 3) L st h') else none := by
  by_cases q : x = 0 ∨ x = 1
  · rw [if_pos q]
    refine g_putf hc hl hf ?_ ?_
    · rw [hz]; rcases q with rfl | rfl <;> rfl
    · rw [hz]; rcases q with rfl | rfl <;> rfl
  · rw [if_neg q]
    refine RF_end hc ?_
    unfold xst
    dsimp only
    rw [hl]
    dsimp only
    show (if _ then xhp (pc + 3) L st (hpf h v ci f (.int x)) else xno) = _
    rw [if_neg (fun z => q ?_)]
    · rfl
    · have := z.2.2
      rw [hz] at this
      simpa [fits] using this
theorem g_new {k ci : Nat} (hc : xcode y pc = some (.new k, len)) (hl : xlk (xkey y k) xlN = some ci) : RF y ev pc L st h = RF y ev (pc + 3) L (.ref h.1 :: st) (hnew h (.inr (.inr (ci, xdv ci))) (xdv ci).length) := RF_go hc (by
  unfold xst
  dsimp only
  rw [hl])
theorem g_newi {n : Int32} (hc : xcode y pc = some (.newarray .int, len)) : RF y ev pc L (.int n :: st) h = if 0 ≤ n.toInt ∧ n.toInt ≤ 100000 then RF y ev (pc + 2) L (.ref h.1 :: st) (hnew h (.inl (0, n.toInt.toNat, fun _ => 0)) n.toInt.toNat) else none := g_if hc rfl
theorem g_newz {n : Int32} (hc : xcode y pc = some (.newarray .boolean, len)) : RF y ev pc L (.int n :: st) h = if 0 ≤ n.toInt ∧ n.toInt ≤ 100000 then RF y ev (pc + 2) L (.ref h.1 :: st) (hnew h (.inl (1, n.toInt.toNat, fun _ => 0)) n.toInt.toNat) else none := g_if hc rfl
theorem g_anew {n : Int32} {k ci : Nat} (hc : xcode y pc = some (.anewarray k, len)) (hl : xlk (xkey y k) xlA = some ci) : RF y ev pc L (.int n :: st) h = if 0 ≤ n.toInt ∧ n.toInt ≤ 100000 then RF y ev (pc + 3) L (.ref h.1 :: st) (hnew h (.inr (.inl (ci, n.toInt.toNat, fun _ => none))) n.toInt.toNat) else none := g_if hc (by
  unfold xst
  dsimp only
  rw [hl]
  rfl)
theorem xpush_eq (o : Option Value) : o.toList ++ st = xpush o st := by cases o <;> rfl
theorem x_call_eq {m n pc' : Nat} {As rest : List Value} (hst : st = As.reverse ++ rest) (hn : As.length = n) : (match xcall ev m n pc' L st h with | .inl (pc', L', st', h') => RF y ev pc' L' st' h' | .inr r => r) = if xcat rest ≤ 8 then (ev m As h).bind (fun r => RF y ev pc' L (xpush r.1 rest) r.2) else none := by
  have e1 : st.drop n = rest := by rw [hst, List.drop_append_of_le_length (by simp [hn]), List.drop_of_length_le (by simp [hn])]; rfl
  have e2 : (st.take n).reverse = As := by rw [hst, List.take_append_of_le_length (by simp [hn]), List.take_of_length_le (by simp [hn]), List.reverse_reverse]
  have e3 : n ≤ st.length := by rw [hst]; simp [hn]
  unfold xcall
  rw [e1, e2]
  by_cases q : xcat rest ≤ 8
  · rw [if_pos ⟨e3, q⟩, if_pos q]
    cases ev m As h with
    | none => rfl
    | some r =>
      obtain ⟨r1, r2⟩ := r
      show RF y ev pc' L (r1.toList ++ rest) r2 = RF y ev pc' L (xpush r1 rest) r2
      rw [xpush_eq]
  · rw [if_neg (fun z => q z.2), if_neg q]; rfl
theorem g_calls {k m n : Nat} {As rest : List Value} (hc : xcode y pc = some (.invokestatic k, len)) (hl : xlk (xkey y k) xlM = some (m, n, 0)) (h9 : m ≠ 999) (hn : As.length = n) : RF y ev pc L (As.reverse ++ rest) h = if xcat rest ≤ 8 then (ev m As h).bind (fun r => RF y ev (pc + 3) L (xpush r.1 rest) r.2) else none := by
  rw [RF_step hc]
  refine Eq.trans ?_ (x_call_eq (As := As) (rest := rest) rfl hn)
  unfold xst
  dsimp only
  rw [hl]
  dsimp only
  rw [if_neg h9, if_pos rfl]
  rfl
theorem g_callv {k m n ci : Nat} {v : Value} {As rest : List Value} (hc : xcode y pc = some (.invokevirtual k, len)) (hl : xlk (xkey y k) xlM = some (m, n, 1)) (hn : As.length = n) (hci : xcix m = ci) : RF y ev pc L (As.reverse ++ v :: rest) h = if xcls h v = ci then (if xcat rest ≤ 8 then (ev m (v :: As) h).bind (fun r => RF y ev (pc + 3) L (xpush r.1 rest) r.2) else none) else none := by
  rw [RF_step hc]
  have e1 : (As.reverse ++ v :: rest).drop n = v :: rest := by rw [List.drop_append_of_le_length (by simp [hn]), List.drop_of_length_le (by simp [hn])]; rfl
  unfold xst
  dsimp only
  rw [hl]
  dsimp only
  rw [if_pos rfl, e1]
  dsimp only
  rw [hci]
  by_cases q : xcls h v = ci
  · rw [if_pos q, if_pos q]
    exact x_call_eq (As := v :: As) (by simp) (by simp [hn])
  · rw [if_neg q, if_neg q]; rfl
theorem g_calli {k m n a : Nat} {As rest : List Value} (hc : xcode y pc = some (.invokespecial k, len)) (hl : xlk (xkey y k) xlM = some (m, n, 2)) (ho : m ≠ xobji) (hn : As.length = n) : RF y ev pc L (As.reverse ++ .ref a :: rest) h = if xcat rest ≤ 8 then (ev m (.ref a :: As) h).bind (fun r => RF y ev (pc + 3) L (xpush r.1 rest) r.2) else none := by
  rw [RF_step hc]
  have e1 : (As.reverse ++ .ref a :: rest).drop n = .ref a :: rest := by rw [List.drop_append_of_le_length (by simp [hn]), List.drop_of_length_le (by simp [hn])]; rfl
  unfold xst
  dsimp only
  rw [hl]
  dsimp only
  rw [if_pos rfl, e1]
  dsimp only
  rw [if_neg ho]
  exact x_call_eq (As := .ref a :: As) (by simp) (by simp [hn])
theorem g_obj {k n a : Nat} {rest : List Value} (hc : xcode y pc = some (.invokespecial k, len)) (hl : xlk (xkey y k) xlM = some (xobji, 0, 2)) : RF y ev pc L (.ref a :: rest) h = if xcat rest ≤ 8 then RF y ev (pc + 3) L rest h else none := by
  rw [RF_step hc]
  unfold xst
  dsimp only
  rw [hl]
  dsimp only
  rw [if_pos rfl]
  show (match (if xobji = xobji then (if 0 = 0 ∧ xcat rest ≤ 8 then xgo (pc + 3) L rest h else xno) else _) with | .inl (pc', L', st', h') => RF y ev pc' L' st' h' | .inr r => r) = _
  rw [if_pos rfl]
  by_cases q : xcat rest ≤ 8
  · rw [if_pos ⟨rfl, q⟩, if_pos q]; rfl
  · rw [if_neg (fun z => q z.2), if_neg q]; rfl
theorem g_acp {k nn kd : Nat} {a b : Value} {sp dp n : Int32} {rest : List Value} (hc : xcode y pc = some (.invokestatic k, len)) (hl : xlk (xkey y k) xlM = some (999, nn, kd)) : RF y ev pc L (.int n :: .int dp :: b :: .int sp :: a :: rest) h = if xcat rest ≤ 8 then (hcp h a sp b dp n).bind (fun h' => RF y ev (pc + 3) L rest h') else none := by
  rw [RF_step hc]
  unfold xst
  dsimp only
  rw [hl]
  dsimp only
  rw [if_pos rfl]
  by_cases q : xcat rest ≤ 8
  · rw [if_pos q, if_pos q]
    cases hcp h a sp b dp n <;> rfl
  · rw [if_neg q, if_neg q]; rfl
/-- switches as nested ifs -/
def xtabK {α : Type} (a : Int32) (lo : Int) (K : Int → α) (d : Int) : List Int → α
  | [] => K d
  | o :: os => if a = Int32.ofInt lo then K o else xtabK a (lo + 1) K d os
theorem xtabK_eq {α : Type} (a : Int32) (K : Int → α) (d : Int) : ∀ (os : List Int) (lo : Int), K (xtabl a lo d os) = xtabK a lo K d os
  | [], _ => rfl
  | o :: os, lo => by
    rw [xtabl, xtabK]
    by_cases q : a = Int32.ofInt lo
    · rw [if_pos q, if_pos q]
    · rw [if_neg q, if_neg q]
      exact xtabK_eq a K d os (lo + 1)
theorem xtabl_mem (a : Int32) (d : Int) : ∀ (os : List Int) (lo : Int), xtabl a lo d os ∈ d :: os
  | [], _ => List.mem_cons_self
  | o :: os, lo => by
    rw [xtabl]
    by_cases q : a = Int32.ofInt lo
    · rw [if_pos q]; simp
    · rw [if_neg q]
      rcases List.mem_cons.mp (xtabl_mem a d os (lo + 1)) with h | h
      · rw [h]; exact List.mem_cons_self
      · exact List.mem_cons_of_mem _ (List.mem_cons_of_mem _ h)
theorem g_tableK {d lo hi : Int} {offs : Array Int} {a : Int32} (hc : xcode y pc = some (.tableswitch d lo hi offs, len)) (hk : hi = lo + offs.size - 1 ∧ (-1000 ≤ lo ∧ hi ≤ 1000)) (hp : ∀ o ∈ d :: offs.toList, 0 ≤ (pc : Int) + o) : RF y ev pc L (.int a :: st) h = xtabK a lo (fun o => RF y ev ((pc : Int) + o).toNat L st h) d offs.toList := by
  rw [← xtabK_eq]
  refine g_table hc hk ?_
  have := hp _ (xtabl_mem a d offs.toList lo)
  omega
def xlookK {α : Type} (a : Int32) (K : Int → α) (d : Int) : List (Int × Int) → α
  | [] => K d
  | o :: os => if a = Int32.ofInt o.1 then K o.2 else xlookK a K d os
theorem xlookK_eq {α : Type} (a : Int32) (K : Int → α) (d : Int) : ∀ (os : List (Int × Int)), K (xlook a d os) = xlookK a K d os
  | [] => rfl
  | o :: os => by
    rw [xlook, xlookK]
    by_cases q : a = Int32.ofInt o.1
    · rw [if_pos q, if_pos q]
    · rw [if_neg q, if_neg q]
      exact xlookK_eq a K d os
theorem xlook_mem (a : Int32) (d : Int) : ∀ (os : List (Int × Int)), xlook a d os ∈ d :: os.map (fun q => q.2)
  | [] => List.mem_cons_self
  | o :: os => by
    rw [xlook]
    by_cases q : a = Int32.ofInt o.1
    · rw [if_pos q]; simp
    · rw [if_neg q]
      rcases List.mem_cons.mp (xlook_mem a d os) with h | h
      · rw [h]; exact List.mem_cons_self
      · exact List.mem_cons_of_mem _ (List.mem_cons_of_mem _ h)
theorem g_lookK {d : Int} {ps : Array (Int × Int)} {a : Int32} (hc : xcode y pc = some (.lookupswitch d ps, len)) (hk : (ps.toList.zip (ps.toList.drop 1)).all (fun (a, next) => a.1 < next.1) = true ∧ ps.toList.all (fun q => decide (-1000 ≤ q.1 ∧ q.1 ≤ 1000)) = true) (hp : ∀ o ∈ d :: ps.toList.map (fun q => q.2), 0 ≤ (pc : Int) + o) : RF y ev pc L (.int a :: st) h = xlookK a (fun o => RF y ev ((pc : Int) + o).toNat L st h) d ps.toList := by
  rw [← xlookK_eq]
  refine g_look hc hk ?_
  have := hp _ (xlook_mem a d ps.toList)
  omega
theorem x_lt {y : Nat} (h : Nat.blt y 218 = true) : y < xms.length := by rw [xms_len]; exact Nat.lt_of_lt_of_le (Nat.le_of_ble_eq_true h) (Nat.le_refl _)
end GEN
