/-! part 03: a machine of our own, over named cells: what part 04 shows to be what the Statement's machine does. A reference is the number of a cell in the order of making; .retAddr e stands for an outer thing (the script, a table, a text) -/
abbrev xl : Type := List (Option Value)
abbrev xc : Type := (Nat × Nat × (Nat → Int32)) ⊕ ((Nat × Nat × (Nat → Option Nat)) ⊕ (Nat × List Value))
/-- how many cells, how many slots, the cells, the outer ones -/
abbrev xh : Type := Nat × Nat × (Nat → xc) × (Nat → xc)
abbrev xr : Type := Option Value × xh
abbrev xe : Type := Nat → List Value → xh → Option xr
abbrev xf : Type := Nat × xl × List Value × xh
abbrev xo : Type := xf ⊕ Option xr
def xnil : xc := .inr (.inr (99, []))
def hset (h : xh) (k : Nat) (c : xc) : xh := (h.1, h.2.1, va_up h.2.2.1 k c, h.2.2.2)
def hnew (h : xh) (c : xc) (n : Nat) : xh := (h.1 + 1, h.2.1 + n, va_up h.2.2.1 h.1 c, h.2.2.2)
def hget (h : xh) (v : Value) : xc := match v with
  | .ref k => h.2.2.1 k
  | .retAddr e => h.2.2.2 e
  | _ => xnil
def xix (i : Int32) (n : Nat) : Option Nat := if 0 ≤ i.toInt ∧ i.toInt < n then some i.toInt.toNat else none
def xir (v : Value) : Bool := match v with
  | .ref _ => true
  | .retAddr _ => true
  | .null => true
  | _ => false
def xcat : List Value → Nat
  | [] => 0
  | v :: t => v.category + xcat t
/-- an array of numbers, of a kind (0 int, 1 boolean, 2 byte) -/
def xarr (c : xc) (kd : Nat) : Option (Nat × (Nat → Int32)) := match c with
  | .inl (k, n, f) => if k = kd then some (n, f) else none
  | _ => none
def xarq (c : xc) : Option (Nat × Nat × (Nat → Option Nat)) := match c with
  | .inr (.inl q) => if q.1 = 1 ∨ q.1 = 2 ∨ q.1 = 4 then some q else none
  | _ => none
def xobj (c : xc) (ci : Nat) : Option (List Value) := match c with
  | .inr (.inr (k, fs)) => if k = ci then some fs else none
  | _ => none
def xalen (h : xh) (v : Value) : Option Nat := match xarr (hget h v) 0 with
  | some q => some q.1
  | none => match v with
    | .retAddr _ => (xarr (hget h v) 2).map (fun q => q.1)
    | _ => none
/-- the heap behind a store, if it goes -/
def hwr (h : xh) (v : Value) (kd : Nat) (i : Int32) (x : Int32) : Option xh := match v with
  | .ref a => match xarr (h.2.2.1 a) kd with
    | some (n, f) => match xix i n with
      | some j => some (hset h a (.inl (kd, n, upd f j x)))
      | none => none
    | none => none
  | _ => none
def hrd (h : xh) (v : Value) (kd : Nat) (i : Int32) : Option Int32 := match xarr (hget h v) kd with
  | some (n, f) => match xix i n with
    | some j => some (f j)
    | none => none
  | none => none
def hrq (h : xh) (v : Value) (i : Int32) : Option Value := match v with
  | .ref a => match xarq (h.2.2.1 a) with
    | some (_, n, f) => match xix i n with
      | some j => some (va_rf (f j))
      | none => none
    | none => none
  | _ => none
def hwq (h : xh) (v : Value) (i : Int32) (w : Value) : Option xh := match v with
  | .ref a => match xarq (h.2.2.1 a) with
    | some (ci, n, f) => match xix i n with
      | some j => match w with
        | .null => some (hset h a (.inr (.inl (ci, n, va_up f j none))))
        | .ref q => match xobj (h.2.2.1 q) ci with
          | some _ => some (hset h a (.inr (.inl (ci, n, va_up f j (some q)))))
          | none => none
        | _ => none
      | none => none
    | none => none
  | _ => none
def hgf (h : xh) (v : Value) (ci k : Nat) : Option Value := match xobj (hget h v) ci with
  | some fs => fs[k]?
  | none => none
def hpf (h : xh) (v : Value) (ci k : Nat) (w : Value) : Option xh := match v with
  | .ref a => match xobj (h.2.2.1 a) ci with
    | some fs => if k < fs.length then some (hset h a (.inr (.inr (ci, fs.set k w)))) else none
    | none => none
  | _ => none
/-- System.arraycopy between two rows of ints -/
def hcp (h : xh) (a : Value) (sp : Int32) (b : Value) (dp n : Int32) : Option xh := match a, b with
  | .ref a, .ref b => match xarr (h.2.2.1 a) 0, xarr (h.2.2.1 b) 0 with
    | some (n0, f), some (n1, g) => if 0 ≤ sp.toInt ∧ 0 ≤ dp.toInt ∧ 0 ≤ n.toInt ∧ sp.toInt + n.toInt ≤ n0 ∧ dp.toInt + n.toInt ≤ n1 then some (hset h b (.inl (0, n1, va_cpy f g sp.toInt.toNat dp.toInt.toNat n.toInt.toNat))) else none
    | _, _ => none
  | _, _ => none
def xgo (pc : Nat) (L : xl) (st : List Value) (h : xh) : xo := .inl (pc, L, st, h)
def xno : xo := .inr none
def xps (pc : Nat) (L : xl) (st : List Value) (h : xh) (v : Option Value) : xo := match v with
  | some v => xgo pc L (v :: st) h
  | none => xno
def xhp (pc : Nat) (L : xl) (st : List Value) (v : Option xh) : xo := match v with
  | some h => xgo pc L st h
  | none => xno
/-- a jump -/
def xjp (pc : Nat) (off : Int) (L : xl) (st : List Value) (h : xh) : xo := if 0 ≤ (pc : Int) + off then xgo ((pc : Int) + off).toNat L st h else xno
def xcnd (c : Jvm.ClassFile.Cond) (x y : Int32) : Bool := match c with
  | .eq => decide (x = y)
  | .ne => decide (¬ x = y)
  | .lt => decide (x < y)
  | .ge => decide (y ≤ x)
  | .gt => decide (y < x)
  | .le => decide (x ≤ y)
def xtabl (x : Int32) (lo : Int) (d : Int) : List Int → Int
  | [] => d
  | o :: os => if x = Int32.ofInt lo then o else xtabl x (lo + 1) d os
def xlook (x : Int32) (d : Int) : List (Int × Int) → Int
  | [] => d
  | o :: os => if x = Int32.ofInt o.1 then o.2 else xlook x d os
def xb1 (st : List Value) (f : Int32 → List Value → xo) : xo := match st with
  | .int a :: r => f a r
  | _ => xno
def xb2 (st : List Value) (f : Int32 → Int32 → List Value → xo) : xo := match st with
  | .int b :: .int a :: r => f a b r
  | _ => xno
def xl1 (st : List Value) (f : Int64 → List Value → xo) : xo := match st with
  | .long a :: r => f a r
  | _ => xno
def xl2 (st : List Value) (f : Int64 → Int64 → List Value → xo) : xo := match st with
  | .long b :: .long a :: r => f a b r
  | _ => xno
def xv1 (st : List Value) (f : Value → List Value → xo) : xo := match st with
  | a :: r => f a r
  | _ => xno
def xv2 (st : List Value) (f : Value → Value → List Value → xo) : xo := match st with
  | b :: a :: r => f a b r
  | _ => xno
def xldi (pc i : Nat) (L : xl) (st : List Value) (h : xh) : xo := match L[i]? with
  | some (some (.int x)) => xgo pc L (.int x :: st) h
  | _ => xno
def xldl (pc i : Nat) (L : xl) (st : List Value) (h : xh) : xo := match L[i]? with
  | some (some (.long x)) => xgo pc L (.long x :: st) h
  | _ => xno
def xlda (pc i : Nat) (L : xl) (st : List Value) (h : xh) : xo := match L[i]? with
  | some (some v) => if xir v = true then xgo pc L (v :: st) h else xno
  | _ => xno
def xnj (y : Nat) : Bool := (xmd y).2.2.2.2.2.1
def xini (y : Nat) : Bool := (xmd y).2.2.2.2.2.2
def xown (y : Nat) : Nat := (xmd y).2.2.2.2.1
def xret (y : Nat) : Option FieldType := (xmd y).2.2.2.1
def xmax (y : Nat) : Nat := (xmd y).2.2.1
def xsto (y pc i : Nat) (L : xl) (v : Value) (st : List Value) (h : xh) : xo := if xnj y = true ∧ i < L.length then xgo pc (L.set i (some v)) st h else xno
def xcall (ev : xe) (m n : Nat) (pc : Nat) (L : xl) (st : List Value) (h : xh) : xo :=
  if n ≤ st.length ∧ xcat (st.drop n) ≤ 8 then match ev m (st.take n).reverse h with
    | some (r, h') => xgo pc L (r.toList ++ st.drop n) h'
    | none => xno
  else xno
/-- the class of a receiver -/
def xcls (h : xh) (v : Value) : Nat := match hget h v with
  | .inr (.inr (k, _)) => k
  | _ => 99
def xnewa (pc kd : Nat) (n : Int32) (L : xl) (st : List Value) (h : xh) : xo :=
  if 0 ≤ n.toInt ∧ n.toInt ≤ 100000 then xgo pc L (.ref h.1 :: st) (hnew h (.inl (kd, n.toInt.toNat, fun _ => 0)) n.toInt.toNat) else xno
def xst (y : Nat) (ev : xe) (i : Instr) (pc : Nat) (L : xl) (st : List Value) (h : xh) : xo := match i with
  | .aconst_null => xgo (pc + 1) L (.null :: st) h
  | .iconst n => xgo (pc + 1) L (.int (Int32.ofInt n) :: st) h
  | .bipush n => xgo (pc + 2) L (.int (Int8.ofInt n).toInt32 :: st) h
  | .sipush n => xgo (pc + 3) L (.int (Int16.ofInt n).toInt32 :: st) h
  | .lconst n => xgo (pc + 1) L (.long (Int64.ofNat (n : Nat)) :: st) h
  | .ldc k => match xlk (xkey y k) xlI with
    | some v => xgo (pc + 2) L (.int v :: st) h
    | none => match xlk (xkey y k) xlS with
      | some e => xgo (pc + 2) L (.retAddr e :: st) h
      | none => xno
  | .ldc_w k => match xlk (xkey y k) xlI with
    | some v => xgo (pc + 3) L (.int v :: st) h
    | none => xno
  | .ldc2_w k => match xlk (xkey y k) xlJ with
    | some v => xgo (pc + 3) L (.long v :: st) h
    | none => xno
  | .iload k => xldi (pc + 2) k L st h
  | .iload_n k => xldi (pc + 1) k L st h
  | .lload k => xldl (pc + 2) k L st h
  | .lload_n k => xldl (pc + 1) k L st h
  | .aload k => xlda (pc + 2) k L st h
  | .aload_n k => xlda (pc + 1) k L st h
  | .istore k => xb1 st (fun x r => xsto y (pc + 2) k L (.int x) r h)
  | .istore_n k => xb1 st (fun x r => xsto y (pc + 1) k L (.int x) r h)
  | .astore k => xv1 st (fun v r => if xir v = true then xsto y (pc + 2) k L v r h else xno)
  | .astore_n k => xv1 st (fun v r => if xir v = true then xsto y (pc + 1) k L v r h else xno)
  | .iinc k n => match L[k]? with
    | some (some (.int x)) => xsto y (pc + 3) k L (.int (x + Int32.ofInt n)) st h
    | _ => xno
  | .iaload => xb1 st (fun i r => xv1 r (fun v r => xps (pc + 1) L r h ((hrd h v 0 i).map .int)))
  | .baload => xb1 st (fun i r => xv1 r (fun v r => match hrd h v 1 i with
    | some x => xgo (pc + 1) L (.int x :: r) h
    | none => match v with
      | .retAddr _ => xps (pc + 1) L r h ((hrd h v 2 i).map .int)
      | _ => xno))
  | .aaload => xb1 st (fun i r => xv1 r (fun v r => xps (pc + 1) L r h (hrq h v i)))
  | .iastore => xb2 st (fun i x r => xv1 r (fun v r => xhp (pc + 1) L r (hwr h v 0 i x)))
  | .bastore => xb2 st (fun i x r => xv1 r (fun v r => xhp (pc + 1) L r (hwr h v 1 i (vp_nar .boolean x))))
  | .aastore => xv1 st (fun w r => xb1 r (fun i r => xv1 r (fun v r => xhp (pc + 1) L r (hwq h v i w))))
  | .arraylength => xv1 st (fun v r => xps (pc + 1) L r h ((xalen h v).map (fun n => .int (Int32.ofNat n))))
  | .pop => xv1 st (fun v r => if v.category = 1 then xgo (pc + 1) L r h else xno)
  | .dup => xv1 st (fun v r => if v.category = 1 then xgo (pc + 1) L (v :: v :: r) h else xno)
  | .dup2 => xv2 st (fun a b r => if a.category = 1 ∧ b.category = 1 then xgo (pc + 1) L (b :: a :: b :: a :: r) h else xno)
  | .iadd => xb2 st (fun a b r => xgo (pc + 1) L (.int (a + b) :: r) h)
  | .isub => xb2 st (fun a b r => xgo (pc + 1) L (.int (a - b) :: r) h)
  | .imul => xb2 st (fun a b r => xgo (pc + 1) L (.int (a * b) :: r) h)
  | .idiv => xb2 st (fun a b r => if b = 0 then xno else xgo (pc + 1) L (.int (a / b) :: r) h)
  | .irem => xb2 st (fun a b r => if b = 0 then xno else xgo (pc + 1) L (.int (a - a / b * b) :: r) h)
  | .ineg => xb1 st (fun a r => xgo (pc + 1) L (.int (-a) :: r) h)
  | .iand => xb2 st (fun a b r => xgo (pc + 1) L (.int (a &&& b) :: r) h)
  | .ior => xb2 st (fun a b r => xgo (pc + 1) L (.int (a ||| b) :: r) h)
  | .ixor => xb2 st (fun a b r => xgo (pc + 1) L (.int (a ^^^ b) :: r) h)
  | .ishl => xb2 st (fun a b r => xgo (pc + 1) L (.int (a <<< (b &&& 31)) :: r) h)
  | .ishr => xb2 st (fun a b r => xgo (pc + 1) L (.int (a >>> (b &&& 31)) :: r) h)
  | .iushr => xb2 st (fun a b r => xgo (pc + 1) L (.int (a.toUInt32 >>> (b.toUInt32 &&& Int32.toUInt32 31)).toInt32 :: r) h)
  | .ladd => xl2 st (fun a b r => xgo (pc + 1) L (.long (a + b) :: r) h)
  | .lsub => xl2 st (fun a b r => xgo (pc + 1) L (.long (a - b) :: r) h)
  | .lmul => xl2 st (fun a b r => xgo (pc + 1) L (.long (a * b) :: r) h)
  | .lcmp => xl2 st (fun a b r => xgo (pc + 1) L (.int (lg_cmp a b) :: r) h)
  | .i2l => xb1 st (fun a r => xgo (pc + 1) L (.long a.toInt64 :: r) h)
  | .l2i => xl1 st (fun a r => xgo (pc + 1) L (.int a.toInt32 :: r) h)
  | .i2b => xb1 st (fun a r => xgo (pc + 1) L (.int a.toInt8.toInt32 :: r) h)
  | .i2s => xb1 st (fun a r => xgo (pc + 1) L (.int a.toInt16.toInt32 :: r) h)
  | .i2c => xb1 st (fun a r => xgo (pc + 1) L (.int (a.toUInt32 % 65536).toInt32 :: r) h)
  | .ifCond c off => xb1 st (fun a r => if 0 ≤ (pc : Int) + off then (if xcnd c a 0 = true then xgo ((pc : Int) + off).toNat L r h else xgo (pc + 3) L r h) else xno)
  | .if_icmp c off => xb2 st (fun a b r => if 0 ≤ (pc : Int) + off then (if xcnd c a b = true then xgo ((pc : Int) + off).toNat L r h else xgo (pc + 3) L r h) else xno)
  | .goto off => xjp pc off L st h
  | .ifnull off => xv1 st (fun v r => match v with
    | .null => xjp pc off L r h
    | .ref _ => xgo (pc + 3) L r h
    | _ => xno)
  | .ifnonnull off => xv1 st (fun v r => match v with
    | .null => xgo (pc + 3) L r h
    | .ref _ => xjp pc off L r h
    | _ => xno)
  | .tableswitch d lo hi offs => xb1 st (fun a r => if hi = lo + offs.size - 1 ∧ (-1000 ≤ lo ∧ hi ≤ 1000) then xjp pc (xtabl a lo d offs.toList) L r h else xno)
  | .lookupswitch d ps => xb1 st (fun a r => if (ps.toList.zip (ps.toList.drop 1)).all (fun (a, next) => a.1 < next.1) = true ∧ ps.toList.all (fun q => decide (-1000 ≤ q.1 ∧ q.1 ≤ 1000)) = true then xjp pc (xlook a d ps.toList) L r h else xno)
  | .ireturn => match st with
    | [.int v] => match xret y with
      | some ty => if narrow ty (.int v) = .int v ∧ ty.isReference = false then .inr (some (some (.int v), h)) else xno
      | none => xno
    | _ => xno
  | .areturn => match xret y with
    | some ty => if ty.isReference = true then (match st with
      | [.ref a] => .inr (some (some (.ref a), h))
      | [.null] => .inr (some (some .null, h))
      | _ => xno) else xno
    | none => xno
  | .return_ => match st with
    | [] => (match xret y with
      | none => .inr (some (none, h))
      | some _ => xno)
    | _ => xno
  | .getstatic k => xps (pc + 3) L st h (xlk (xkey y k) xlG)
  | .getfield k => match xlk (xkey y k) xlF with
    | some (ci, f) => xv1 st (fun v r => xps (pc + 3) L r h (hgf h v ci f))
    | none => xno
  | .putfield k => match xlk (xkey y k) xlF with
    | some (ci, f) => xv2 st (fun v w r => if (xfin ci f = false ∨ (xini y = true ∧ xown y = ci)) ∧ narrow (xft ci f) w = w ∧ fits (xft ci f) w = true then xhp (pc + 3) L r (hpf h v ci f w) else xno)
    | none => xno
  | .new k => match xlk (xkey y k) xlN with
    | some ci => xgo (pc + 3) L (.ref h.1 :: st) (hnew h (.inr (.inr (ci, xdv ci))) (xdv ci).length)
    | none => xno
  | .newarray t => xb1 st (fun n r => match t with
    | .int => xnewa (pc + 2) 0 n L r h
    | .boolean => xnewa (pc + 2) 1 n L r h
    | _ => xno)
  | .anewarray k => match xlk (xkey y k) xlA with
    | some ci => xb1 st (fun n r => if 0 ≤ n.toInt ∧ n.toInt ≤ 100000 then xgo (pc + 3) L (.ref h.1 :: r) (hnew h (.inr (.inl (ci, n.toInt.toNat, fun _ => none))) n.toInt.toNat) else xno)
    | none => xno
  | .invokestatic k => match xlk (xkey y k) xlM with
    | some (m, n, kd) => if m = 999 then (match st with
        | .int n :: .int dp :: b :: .int sp :: a :: r => if xcat r ≤ 8 then xhp (pc + 3) L r (hcp h a sp b dp n) else xno
        | _ => xno)
      else if kd = 0 then xcall ev m n (pc + 3) L st h else xno
    | none => xno
  | .invokespecial k => match xlk (xkey y k) xlM with
    | some (m, n, kd) => if kd = 2 then (match (st.drop n) with
        | .ref _ :: r => if m = xobji then (if n = 0 ∧ xcat r ≤ 8 then xgo (pc + 3) L r h else xno) else xcall ev m (n + 1) (pc + 3) L st h
        | _ => xno) else xno
    | none => xno
  | .invokevirtual k => match xlk (xkey y k) xlM with
    | some (m, n, kd) => if kd = 1 then (match (st.drop n) with
        | v :: _ => if xcls h v = xcix m then xcall ev m (n + 1) (pc + 3) L st h else xno
        | _ => xno) else xno
    | none => xno
  | _ => xno
def xrun (y : Nat) (ev : xe) : Nat → Nat → xl → List Value → xh → Option xr
  | 0, _, _, _, _ => none
  | n + 1, pc, L, st, h => match xcode y pc with
    | none => none
    | some i => match xst y ev i.1 pc L st h with
      | .inl (pc', L', st', h') => xrun y ev n pc' L' st' h'
      | .inr r => r
theorem xrun_succ {y : Nat} {ev : xe} : ∀ {n pc : Nat} {L : xl} {st : List Value} {h : xh} {r : xr}, xrun y ev n pc L st h = some r → xrun y ev (n + 1) pc L st h = some r := by
  intro n
  induction n with
  | zero => intro pc L st h r e; cases e
  | succ n ih =>
    intro pc L st h r e
    rw [xrun] at e ⊢
    cases hc : xcode y pc with
    | none => rw [hc] at e; cases e
    | some i =>
      rw [hc] at e
      dsimp only at e ⊢
      cases hs : xst y ev i.1 pc L st h with
      | inr q => rw [hs] at e; exact e
      | inl f =>
        rw [hs] at e
        exact ih e
theorem xrun_le {y : Nat} {ev : xe} {n m pc : Nat} {L : xl} {st : List Value} {h : xh} {r : xr} (hm : n ≤ m) (e : xrun y ev n pc L st h = some r) : xrun y ev m pc L st h = some r := by
  induction hm with
  | refl => exact e
  | step _ ih => exact xrun_succ ih
noncomputable def RF (y : Nat) (ev : xe) (pc : Nat) (L : xl) (st : List Value) (h : xh) : Option xr :=
  @dite _ (∃ q : Nat × xr, xrun y ev q.1 pc L st h = some q.2) (Classical.propDecidable _) (fun e => some (Classical.choose e).2) (fun _ => none)
theorem RF_of {y : Nat} {ev : xe} {n pc : Nat} {L : xl} {st : List Value} {h : xh} {r : xr} (e : xrun y ev n pc L st h = some r) : RF y ev pc L st h = some r := by
  have he : ∃ q : Nat × xr, xrun y ev q.1 pc L st h = some q.2 := ⟨(n, r), e⟩
  unfold RF
  rw [dif_pos he]
  have h2 := Classical.choose_spec he
  congr 1
  have a := xrun_le (Nat.le_max_left n (Classical.choose he).1) e
  have b := xrun_le (Nat.le_max_right n (Classical.choose he).1) h2
  rw [a] at b
  exact (Option.some.inj b).symm
theorem RF_to {y : Nat} {ev : xe} {pc : Nat} {L : xl} {st : List Value} {h : xh} {r : xr} (e : RF y ev pc L st h = some r) : ∃ n, xrun y ev n pc L st h = some r := by
  unfold RF at e
  by_cases he : ∃ q : Nat × xr, xrun y ev q.1 pc L st h = some q.2
  · rw [dif_pos he] at e
    cases e
    exact ⟨_, Classical.choose_spec he⟩
  · rw [dif_neg he] at e
    cases e
theorem opt_ext {α : Type} {a b : Option α} (h : ∀ r, a = some r ↔ b = some r) : a = b := by
  cases a with
  | none => cases b with
    | none => rfl
    | some y => exact absurd ((h y).mpr rfl) (by simp)
  | some x => exact ((h x).mp rfl).symm
/-- the law of a step -/
theorem RF_step {y : Nat} {ev : xe} {pc : Nat} {L : xl} {st : List Value} {h : xh} {i : Instr} {len : Nat} (hc : xcode y pc = some (i, len)) :
    RF y ev pc L st h = match xst y ev i pc L st h with
      | .inl (pc', L', st', h') => RF y ev pc' L' st' h'
      | .inr r => r := by
  apply opt_ext
  intro r
  constructor
  · intro e
    obtain ⟨n, e⟩ := RF_to e
    cases n with
    | zero => cases e
    | succ n =>
      rw [xrun, hc] at e
      dsimp only at e
      cases hs : xst y ev i pc L st h with
      | inr q => rw [hs] at e; exact e
      | inl f => rw [hs] at e; exact RF_of e
  · intro e
    cases hs : xst y ev i pc L st h with
    | inr q =>
      rw [hs] at e
      refine RF_of (n := 1) ?_
      rw [xrun, hc]
      dsimp only
      rw [hs]
      exact e
    | inl f =>
      rw [hs] at e
      obtain ⟨n, e⟩ := RF_to e
      refine RF_of (n := n + 1) ?_
      rw [xrun, hc]
      dsimp only
      rw [hs]
      exact e
theorem RF_go {y : Nat} {ev : xe} {pc : Nat} {L : xl} {st : List Value} {h : xh} {i : Instr} {len : Nat} (hc : xcode y pc = some (i, len)) {pc' : Nat} {L' : xl} {st' : List Value} {h' : xh} (hs : xst y ev i pc L st h = xgo pc' L' st' h') : RF y ev pc L st h = RF y ev pc' L' st' h' := by
  rw [RF_step hc, hs]
  rfl
theorem RF_end {y : Nat} {ev : xe} {pc : Nat} {L : xl} {st : List Value} {h : xh} {i : Instr} {len : Nat} (hc : xcode y pc = some (i, len)) {r : Option xr} (hs : xst y ev i pc L st h = .inr r) : RF y ev pc L st h = r := by
  rw [RF_step hc, hs]
/-- the locals at a method's entry -/
def xla : List Value → xl
  | [] => []
  | v :: t => if v.category = 2 then some v :: none :: xla t else some v :: xla t
def xpad (n : Nat) (L : xl) : xl := L ++ List.replicate (n - L.length) none
noncomputable def Ev : Nat → xe
  | 0 => fun _ _ _ => none
  | d + 1 => fun y a h => if (xla a).length ≤ xmax y ∧ y < xms.length ∧ (xnj y = true → a.all (fun v => v.category == 1) = true) then RF y (Ev d) 0 (xpad (xmax y) (xla a)) [] h else none
theorem Ev_in {d y : Nat} {a : List Value} {h : xh} {L : xl} (hj : xnj y = true) (h1 : a.all (fun v => v.category == 1) = true) (h2 : (xla a).length ≤ xmax y) (h3 : y < xms.length) (hL : xpad (xmax y) (xla a) = L) : Ev (d + 1) y a h = RF y (Ev d) 0 L [] h := by
  rw [Ev]
  dsimp only
  rw [if_pos ⟨h2, h3, fun _ => h1⟩, hL]
theorem Ev_inJ {d y : Nat} {a : List Value} {h : xh} {L : xl} (hj : xnj y = false) (h2 : (xla a).length ≤ xmax y) (h3 : y < xms.length) (hL : xpad (xmax y) (xla a) = L) : Ev (d + 1) y a h = RF y (Ev d) 0 L [] h := by
  rw [Ev]
  dsimp only
  rw [if_pos ⟨h2, h3, fun e => by rw [hj] at e; cases e⟩, hL]
