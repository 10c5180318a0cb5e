/-! part 10: every step, every run, every call -/
theorem xno_inl {q : xf} (h : xno = .inl q) : False := by unfold xno at h; cases h
theorem xno_inr {r : xr} (h : xno = .inr (some r)) : False := by unfold xno at h; cases h
theorem xgo_inl {a : Nat} {b : xl} {c : List Value} {d : xh} {q : xf} (h : xgo a b c d = .inl q) : q = (a, b, c, d) := by unfold xgo at h; cases h; rfl
theorem xgo_inr {a : Nat} {b : xl} {c : List Value} {d : xh} {r : xr} (h : xgo a b c d = .inr (some r)) : False := by unfold xgo at h; cases h
theorem xb1_i {st : List Value} {f : Int32 → List Value → xo} {o : xo} (h : xb1 st f = o) (ho : o ≠ xno) : ∃ a r, st = .int a :: r ∧ f a r = o := by
  unfold xb1 at h
  split at h
  · exact ⟨_, _, rfl, h⟩
  · exact absurd h.symm ho
theorem xb2_i {st : List Value} {f : Int32 → Int32 → List Value → xo} {o : xo} (h : xb2 st f = o) (ho : o ≠ xno) : ∃ a b r, st = .int b :: .int a :: r ∧ f a b r = o := by
  unfold xb2 at h
  split at h
  · exact ⟨_, _, _, rfl, h⟩
  · exact absurd h.symm ho
theorem xl1_i {st : List Value} {f : Int64 → List Value → xo} {o : xo} (h : xl1 st f = o) (ho : o ≠ xno) : ∃ a r, st = .long a :: r ∧ f a r = o := by
  unfold xl1 at h
  split at h
  · exact ⟨_, _, rfl, h⟩
  · exact absurd h.symm ho
theorem xl2_i {st : List Value} {f : Int64 → Int64 → List Value → xo} {o : xo} (h : xl2 st f = o) (ho : o ≠ xno) : ∃ a b r, st = .long b :: .long a :: r ∧ f a b r = o := by
  unfold xl2 at h
  split at h
  · exact ⟨_, _, _, rfl, h⟩
  · exact absurd h.symm ho
theorem xv1_i {st : List Value} {f : Value → List Value → xo} {o : xo} (h : xv1 st f = o) (ho : o ≠ xno) : ∃ a r, st = a :: r ∧ f a r = o := by
  unfold xv1 at h
  split at h
  · exact ⟨_, _, rfl, h⟩
  · exact absurd h.symm ho
theorem xv2_i {st : List Value} {f : Value → Value → List Value → xo} {o : xo} (h : xv2 st f = o) (ho : o ≠ xno) : ∃ a b r, st = b :: a :: r ∧ f a b r = o := by
  unfold xv2 at h
  split at h
  · exact ⟨_, _, _, rfl, h⟩
  · exact absurd h.symm ho
theorem xps_i {pc : Nat} {L : xl} {st : List Value} {h : xh} {v : Option Value} {q : xf} (e : xps pc L st h v = .inl q) : ∃ w, v = some w ∧ q = (pc, L, w :: st, h) := by
  unfold xps at e
  split at e
  · exact ⟨_, rfl, xgo_inl e⟩
  · exact (xno_inl e).elim
theorem xhp_i {pc : Nat} {L : xl} {st : List Value} {v : Option xh} {q : xf} (e : xhp pc L st v = .inl q) : ∃ h', v = some h' ∧ q = (pc, L, st, h') := by
  unfold xhp at e
  split at e
  · exact ⟨_, rfl, xgo_inl e⟩
  · exact (xno_inl e).elim
theorem xjp_i {pc : Nat} {off : Int} {L : xl} {st : List Value} {h : xh} {q : xf} (e : xjp pc off L st h = .inl q) : ∃ t : Nat, (pc : Int) + off = t ∧ q = (t, L, st, h) := by
  unfold xjp at e
  split at e
  · rename_i hc
    exact ⟨((pc : Int) + off).toNat, by omega, xgo_inl e⟩
  · exact (xno_inl e).elim
theorem x_len {b : ByteArray} {pc len k : Nat} {i : Instr} (hk : xln i = k) (hk0 : k ≠ 0) (hln : xln i = 0 ∨ xln i = len) (hd : decode b pc = .ok (i, len)) : decode b pc = .ok (i, k) := by
  rcases hln with h | h
  · exact absurd (hk.symm.trans h) hk0
  · rw [hd, ← h, hk]
theorem x_inl {q : xf} : (.inl q : xo) ≠ xno := fun h => by unfold xno at h; cases h
theorem x_inr {r : xr} : (.inr (some r) : xo) ≠ xno := fun h => by unfold xno at h; cases h
section XS6
variable {p : Program} {l : Launch} {e : Env} {R : Room} {s : State} {m : MethodId} {args : Array Value} {below : List Frame} {meth : Method} {c : Code} {Q : State → Prop}
variable {G : xg} {y n0 s0 pc d : Nat} {L : xl} {st rest As : List Value} {h : xh} {ev : xe} {r : xr}
/-- what a step owes -/
def xOw (G : xg) (y : Nat) (p : Program) (l : Launch) (e : Env) (R : Room) (s : State) (m : MethodId) (args : Array Value) (below : List Frame) (meth : Method) (c : Code) (Q : State → Prop) (n0 s0 : Nat) (pc : Nat) (L : xl) (st : List Value) (h : xh) (q : xf) : Prop :=
  (h.1 ≤ q.2.2.2.1 ∧ h.2.1 ≤ q.2.2.2.2.1) ∧ (q.2.2.2.1 - n0 ≤ R.cells → q.2.2.2.2.1 - s0 ≤ R.slots → xWs G y p l e R s m args below meth c Q n0 s0 q.1 q.2.1 q.2.2.1 q.2.2.2 → xWs G y p l e R s m args below meth c Q n0 s0 pc L st h)
theorem x_same {q : xf} {pc' : Nat} {L' : xl} {st' : List Value} {h' : xh} (hq : q = (pc', L', st', h')) (h1 : h'.1 = h.1) (h2 : h'.2.1 = h.2.1) (k : xWs G y p l e R s m args below meth c Q n0 s0 pc' L' st' h' → xWs G y p l e R s m args below meth c Q n0 s0 pc L st h) : xOw G y p l e R s m args below meth c Q n0 s0 pc L st h q := by
  subst hq
  exact ⟨⟨Nat.le_of_eq h1.symm, Nat.le_of_eq h2.symm⟩, fun _ _ z => k z⟩
theorem hwr_n {v : Value} {kd : Nat} {i x : Int32} {h' : xh} (hx : hwr h v kd i x = some h') : h'.1 = h.1 ∧ h'.2.1 = h.2.1 := by
  obtain ⟨a, n, f, j, -, -, -, rfl⟩ := hwr_some hx
  exact ⟨rfl, rfl⟩
theorem xsto_i {i : Nat} {v : Value} {q : xf} (hs : xsto y pc i L v st h = .inl q) : (xnj y = true ∧ i < L.length) ∧ q = (pc, L.set i (some v), st, h) := by
  unfold xsto at hs
  split at hs
  · rename_i hc
    exact ⟨hc, xgo_inl hs⟩
  · exact (xno_inl hs).elim
theorem xcall_i {mm n pc' : Nat} {q : xf} (hs : xcall ev mm n pc' L st h = .inl q) : ∃ (As rest : List Value) (r : xr), st = As.reverse ++ rest ∧ As.length = n ∧ rest = st.drop n ∧ xcat rest ≤ 8 ∧ ev mm As h = some r ∧ q = (pc', L, r.1.toList ++ rest, r.2) := by
  unfold xcall at hs
  split at hs
  · rename_i hc
    cases he : ev mm (st.take n).reverse h with
    | none => rw [he] at hs; exact (xno_inl hs).elim
    | some r =>
      obtain ⟨r1, r2⟩ := r
      rw [he] at hs
      exact ⟨(st.take n).reverse, st.drop n, (r1, r2), by rw [List.reverse_reverse, List.take_append_drop], by rw [List.length_reverse, List.length_take]; omega, rfl, hc.2, he, xgo_inl hs⟩
  · exact (xno_inl hs).elim
theorem x_args {n : Nat} {a : Value} {r rest As st : List Value} (hdr : st.drop n = a :: r) (h1 : st = As.reverse ++ rest) (h2 : As.length = n + 1) (h2' : rest = st.drop (n + 1)) : ∃ Bs : List Value, As = a :: Bs ∧ Bs.length = n ∧ st = Bs.reverse ++ a :: rest := by
  cases As with
  | nil => simp at h2
  | cons x xs =>
    have hl : xs.length = n := by simpa using h2
    have e : st.drop n = x :: rest := by
      rw [h1, List.reverse_cons, List.append_assoc, List.drop_append_of_le_length (by simp [hl]), List.drop_of_length_le (by simp [hl])]
      rfl
    rw [hdr] at e
    obtain ⟨rfl, -⟩ := List.cons.inj e
    exact ⟨xs, rfl, hl, by rw [h1]; simp⟩
theorem xlM_9 {i n kd : Nat} (hl : xlk (xkey y i) xlM = some (999, n, kd)) : kd = 0 := by
  have := List.all_eq_true.mp (show (xlM.all (fun q => decide (q.2.1 = 999 → q.2.2.2 = 0))) = true by decide +kernel) _ (xlk_mem hl)
  exact of_decide_eq_true this rfl
set_option maxHeartbeats 4000000 in
theorem x_step (hev : xEvOk G l d ev) (F : xFr G y p s m meth c) (hRf : d + 1 ≤ R.frames) (hRl : 64 * (d + 1) ≤ R.locals) {i : Instr} {len : Nat} (hd : decode (xmd y).2.1 pc = .ok (i, len)) (hln : xln i = 0 ∨ xln i = len) {q : xf} (hs : xst y ev i pc L st h = .inl q) : xOw G y p l e R s m args below meth c Q n0 s0 pc L st h q := by
  cases i with
  | aconst_null => exact x_same (xgo_inl hs) rfl rfl (xs_null F (x_len rfl (by decide) hln hd))
  | iconst n => exact x_same (xgo_inl hs) rfl rfl (xs_iconst F (x_len rfl (by decide) hln hd))
  | bipush n => exact x_same (xgo_inl hs) rfl rfl (xs_bipush F (x_len rfl (by decide) hln hd))
  | sipush n => exact x_same (xgo_inl hs) rfl rfl (xs_sipush F (x_len rfl (by decide) hln hd))
  | lconst n => exact x_same (xgo_inl hs) rfl rfl (xs_lconst F (x_len rfl (by decide) hln hd))
  | ldc k =>
    unfold xst at hs
    dsimp only at hs
    cases hv : xlk (xkey y k) xlI with
    | some v => rw [hv] at hs; exact x_same (xgo_inl hs) rfl rfl (xs_ldc F (x_len rfl (by decide) hln hd) hv)
    | none =>
      rw [hv] at hs
      dsimp only at hs
      cases hv2 : xlk (xkey y k) xlS with
      | some v => rw [hv2] at hs; exact x_same (xgo_inl hs) rfl rfl (xs_ldcS F (x_len rfl (by decide) hln hd) hv2)
      | none => rw [hv2] at hs; exact (xno_inl hs).elim
  | ldc_w k =>
    unfold xst at hs
    dsimp only at hs
    cases hv : xlk (xkey y k) xlI with
    | some v => rw [hv] at hs; exact x_same (xgo_inl hs) rfl rfl (xs_ldcw F (x_len rfl (by decide) hln hd) hv)
    | none => rw [hv] at hs; exact (xno_inl hs).elim
  | ldc2_w k =>
    unfold xst at hs
    dsimp only at hs
    cases hv : xlk (xkey y k) xlJ with
    | some v => rw [hv] at hs; exact x_same (xgo_inl hs) rfl rfl (xs_ldc2 F (x_len rfl (by decide) hln hd) hv)
    | none => rw [hv] at hs; exact (xno_inl hs).elim
  | iload k =>
    unfold xst xldi at hs
    dsimp only at hs
    split at hs
    · rename_i hi; exact x_same (xgo_inl hs) rfl rfl (xs_iload F (x_len rfl (by decide) hln hd) hi)
    · exact (xno_inl hs).elim
  | iload_n k =>
    unfold xst xldi at hs
    dsimp only at hs
    split at hs
    · rename_i hi; exact x_same (xgo_inl hs) rfl rfl (xs_iload_n F (x_len rfl (by decide) hln hd) hi)
    · exact (xno_inl hs).elim
  | lload k =>
    unfold xst xldl at hs
    dsimp only at hs
    split at hs
    · rename_i hi; exact x_same (xgo_inl hs) rfl rfl (xs_lload F (x_len rfl (by decide) hln hd) hi)
    · exact (xno_inl hs).elim
  | lload_n k =>
    unfold xst xldl at hs
    dsimp only at hs
    split at hs
    · rename_i hi; exact x_same (xgo_inl hs) rfl rfl (xs_lload_n F (x_len rfl (by decide) hln hd) hi)
    · exact (xno_inl hs).elim
  | aload k =>
    unfold xst xlda at hs
    dsimp only at hs
    split at hs
    · rename_i hi
      split at hs
      · rename_i hv; exact x_same (xgo_inl hs) rfl rfl (xs_aload F (x_len rfl (by decide) hln hd) hi hv)
      · exact (xno_inl hs).elim
    · exact (xno_inl hs).elim
  | aload_n k =>
    unfold xst xlda at hs
    dsimp only at hs
    split at hs
    · rename_i hi
      split at hs
      · rename_i hv; exact x_same (xgo_inl hs) rfl rfl (xs_aload_n F (x_len rfl (by decide) hln hd) hi hv)
      · exact (xno_inl hs).elim
    · exact (xno_inl hs).elim
  | istore k =>
    have hs0 := xb1_i hs x_inl
    clear hs
    obtain ⟨a, r, rfl, hs⟩ := hs0
    obtain ⟨⟨h1, h2⟩, hq⟩ := xsto_i hs
    exact x_same hq rfl rfl (xs_istore F (x_len rfl (by decide) hln hd) h1 h2)
  | istore_n k =>
    have hs0 := xb1_i hs x_inl
    clear hs
    obtain ⟨a, r, rfl, hs⟩ := hs0
    obtain ⟨⟨h1, h2⟩, hq⟩ := xsto_i hs
    exact x_same hq rfl rfl (xs_istore_n F (x_len rfl (by decide) hln hd) h1 h2)
  | astore k =>
    have hs0 := xv1_i hs x_inl
    clear hs
    obtain ⟨a, r, rfl, hs⟩ := hs0
    split at hs
    · rename_i hv
      obtain ⟨⟨h1, h2⟩, hq⟩ := xsto_i hs
      exact x_same hq rfl rfl (xs_astore F (x_len rfl (by decide) hln hd) hv h1 h2)
    · exact (xno_inl hs).elim
  | astore_n k =>
    have hs0 := xv1_i hs x_inl
    clear hs
    obtain ⟨a, r, rfl, hs⟩ := hs0
    split at hs
    · rename_i hv
      obtain ⟨⟨h1, h2⟩, hq⟩ := xsto_i hs
      exact x_same hq rfl rfl (xs_astore_n F (x_len rfl (by decide) hln hd) hv h1 h2)
    · exact (xno_inl hs).elim
  | iinc k n =>
    unfold xst at hs
    dsimp only at hs
    split at hs
    · rename_i hi
      obtain ⟨⟨h1, h2⟩, hq⟩ := xsto_i hs
      exact x_same hq rfl rfl (xs_iinc F (x_len rfl (by decide) hln hd) hi h1)
    · exact (xno_inl hs).elim
  | iaload =>
    have hs0 := xb1_i hs x_inl
    clear hs
    obtain ⟨a, r, rfl, hs⟩ := hs0
    have hs0 := xv1_i hs x_inl
    clear hs
    obtain ⟨v, r, rfl, hs⟩ := hs0
    obtain ⟨w, hw, hq⟩ := xps_i hs
    cases hx : hrd h v 0 a with
    | none => rw [hx] at hw; cases hw
    | some x =>
      rw [hx] at hw
      cases hw
      exact x_same hq rfl rfl (xs_iald F (x_len rfl (by decide) hln hd) hx)
  | baload =>
    have hs0 := xb1_i hs x_inl
    clear hs
    obtain ⟨a, r, rfl, hs⟩ := hs0
    have hs0 := xv1_i hs x_inl
    clear hs
    obtain ⟨v, r, rfl, hs⟩ := hs0
    cases hx : hrd h v 1 a with
    | some x =>
      rw [hx] at hs
      exact x_same (xgo_inl hs) rfl rfl (xs_bald (kd := 1) F (x_len rfl (by decide) hln hd) (Or.inl rfl) hx)
    | none =>
      rw [hx] at hs
      dsimp only at hs
      split at hs
      · rename_i q0
        obtain ⟨w, hw, hq⟩ := xps_i hs
        cases hx2 : hrd h (.retAddr q0) 2 a with
        | none => rw [hx2] at hw; cases hw
        | some x =>
          rw [hx2] at hw
          cases hw
          exact x_same hq rfl rfl (xs_bald (kd := 2) F (x_len rfl (by decide) hln hd) (Or.inr ⟨rfl, _, rfl⟩) hx2)
      · exact (xno_inl hs).elim
  | aaload =>
    have hs0 := xb1_i hs x_inl
    clear hs
    obtain ⟨a, r, rfl, hs⟩ := hs0
    have hs0 := xv1_i hs x_inl
    clear hs
    obtain ⟨v, r, rfl, hs⟩ := hs0
    obtain ⟨w, hw, hq⟩ := xps_i hs
    exact x_same hq rfl rfl (xs_aald F (x_len rfl (by decide) hln hd) hw)
  | iastore =>
    have hs0 := xb2_i hs x_inl
    clear hs
    obtain ⟨a, b, r, rfl, hs⟩ := hs0
    have hs0 := xv1_i hs x_inl
    clear hs
    obtain ⟨v, r, rfl, hs⟩ := hs0
    obtain ⟨h', hw, hq⟩ := xhp_i hs
    exact x_same hq (hwr_n hw).1 (hwr_n hw).2 (xs_iast F (x_len rfl (by decide) hln hd) hw)
  | bastore =>
    have hs0 := xb2_i hs x_inl
    clear hs
    obtain ⟨a, b, r, rfl, hs⟩ := hs0
    have hs0 := xv1_i hs x_inl
    clear hs
    obtain ⟨v, r, rfl, hs⟩ := hs0
    obtain ⟨h', hw, hq⟩ := xhp_i hs
    exact x_same hq (hwr_n hw).1 (hwr_n hw).2 (xs_zast F (x_len rfl (by decide) hln hd) hw)
  | aastore =>
    have hs0 := xv1_i hs x_inl
    clear hs
    obtain ⟨w, r, rfl, hs⟩ := hs0
    have hs0 := xb1_i hs x_inl
    clear hs
    obtain ⟨a, r, rfl, hs⟩ := hs0
    have hs0 := xv1_i hs x_inl
    clear hs
    obtain ⟨v, r, rfl, hs⟩ := hs0
    obtain ⟨h', hw, hq⟩ := xhp_i hs
    have hn : h'.1 = h.1 ∧ h'.2.1 = h.2.1 := by
      obtain ⟨a, ci, n, f, j, -, -, -, -, hz⟩ := hwq_some hw
      rcases hz with ⟨-, rfl⟩ | ⟨q, fs, -, -, rfl⟩ <;> exact ⟨rfl, rfl⟩
    exact x_same hq hn.1 hn.2 (xs_aast F (x_len rfl (by decide) hln hd) hw)
  | arraylength =>
    have hs0 := xv1_i hs x_inl
    clear hs
    obtain ⟨v, r, rfl, hs⟩ := hs0
    obtain ⟨w, hw, hq⟩ := xps_i hs
    cases hx : xalen h v with
    | none => rw [hx] at hw; cases hw
    | some n =>
      rw [hx] at hw
      cases hw
      exact x_same hq rfl rfl (xs_alen F (x_len rfl (by decide) hln hd) hx)
  | pop =>
    have hs0 := xv1_i hs x_inl
    clear hs
    obtain ⟨v, r, rfl, hs⟩ := hs0
    split at hs
    · rename_i hv; exact x_same (xgo_inl hs) rfl rfl (xs_pop F (x_len rfl (by decide) hln hd) hv)
    · exact (xno_inl hs).elim
  | dup =>
    have hs0 := xv1_i hs x_inl
    clear hs
    obtain ⟨v, r, rfl, hs⟩ := hs0
    split at hs
    · rename_i hv; exact x_same (xgo_inl hs) rfl rfl (xs_dup F (x_len rfl (by decide) hln hd) hv)
    · exact (xno_inl hs).elim
  | dup2 =>
    have hs0 := xv2_i hs x_inl
    clear hs
    obtain ⟨v, w, r, rfl, hs⟩ := hs0
    split at hs
    · rename_i hv; exact x_same (xgo_inl hs) rfl rfl (xs_dup2 F (x_len rfl (by decide) hln hd) hv.2 hv.1)
    · exact (xno_inl hs).elim
  | idiv =>
    have hs0 := xb2_i hs x_inl
    clear hs
    obtain ⟨a, b, r, rfl, hs⟩ := hs0
    split at hs
    · exact (xno_inl hs).elim
    · rename_i hb; exact x_same (xgo_inl hs) rfl rfl (xs_idiv F (x_len rfl (by decide) hln hd) hb)
  | irem =>
    have hs0 := xb2_i hs x_inl
    clear hs
    obtain ⟨a, b, r, rfl, hs⟩ := hs0
    split at hs
    · exact (xno_inl hs).elim
    · rename_i hb; exact x_same (xgo_inl hs) rfl rfl (xs_irem F (x_len rfl (by decide) hln hd) hb)
  | iadd =>
    have hs0 := xb2_i hs x_inl
    clear hs
    obtain ⟨a, b, r, rfl, hs⟩ := hs0
    exact x_same (xgo_inl hs) rfl rfl (xs_iadd F (x_len rfl (by decide) hln hd))
  | isub =>
    have hs0 := xb2_i hs x_inl
    clear hs
    obtain ⟨a, b, r, rfl, hs⟩ := hs0
    exact x_same (xgo_inl hs) rfl rfl (xs_isub F (x_len rfl (by decide) hln hd))
  | imul =>
    have hs0 := xb2_i hs x_inl
    clear hs
    obtain ⟨a, b, r, rfl, hs⟩ := hs0
    exact x_same (xgo_inl hs) rfl rfl (xs_imul F (x_len rfl (by decide) hln hd))
  | iand =>
    have hs0 := xb2_i hs x_inl
    clear hs
    obtain ⟨a, b, r, rfl, hs⟩ := hs0
    exact x_same (xgo_inl hs) rfl rfl (xs_iand F (x_len rfl (by decide) hln hd))
  | ior =>
    have hs0 := xb2_i hs x_inl
    clear hs
    obtain ⟨a, b, r, rfl, hs⟩ := hs0
    exact x_same (xgo_inl hs) rfl rfl (xs_ior F (x_len rfl (by decide) hln hd))
  | ixor =>
    have hs0 := xb2_i hs x_inl
    clear hs
    obtain ⟨a, b, r, rfl, hs⟩ := hs0
    exact x_same (xgo_inl hs) rfl rfl (xs_ixor F (x_len rfl (by decide) hln hd))
  | ishl =>
    have hs0 := xb2_i hs x_inl
    clear hs
    obtain ⟨a, b, r, rfl, hs⟩ := hs0
    exact x_same (xgo_inl hs) rfl rfl (xs_ishl F (x_len rfl (by decide) hln hd))
  | ishr =>
    have hs0 := xb2_i hs x_inl
    clear hs
    obtain ⟨a, b, r, rfl, hs⟩ := hs0
    exact x_same (xgo_inl hs) rfl rfl (xs_ishr F (x_len rfl (by decide) hln hd))
  | iushr =>
    have hs0 := xb2_i hs x_inl
    clear hs
    obtain ⟨a, b, r, rfl, hs⟩ := hs0
    exact x_same (xgo_inl hs) rfl rfl (xs_iushr F (x_len rfl (by decide) hln hd))
  | ladd =>
    have hs0 := xl2_i hs x_inl
    clear hs
    obtain ⟨a, b, r, rfl, hs⟩ := hs0
    exact x_same (xgo_inl hs) rfl rfl (xs_ladd F (x_len rfl (by decide) hln hd))
  | lsub =>
    have hs0 := xl2_i hs x_inl
    clear hs
    obtain ⟨a, b, r, rfl, hs⟩ := hs0
    exact x_same (xgo_inl hs) rfl rfl (xs_lsub F (x_len rfl (by decide) hln hd))
  | lmul =>
    have hs0 := xl2_i hs x_inl
    clear hs
    obtain ⟨a, b, r, rfl, hs⟩ := hs0
    exact x_same (xgo_inl hs) rfl rfl (xs_lmul F (x_len rfl (by decide) hln hd))
  | lcmp =>
    have hs0 := xl2_i hs x_inl
    clear hs
    obtain ⟨a, b, r, rfl, hs⟩ := hs0
    exact x_same (xgo_inl hs) rfl rfl (xs_lcmp F (x_len rfl (by decide) hln hd))
  | ineg =>
    have hs0 := xb1_i hs x_inl
    clear hs
    obtain ⟨a, r, rfl, hs⟩ := hs0
    exact x_same (xgo_inl hs) rfl rfl (xs_ineg F (x_len rfl (by decide) hln hd))
  | i2l =>
    have hs0 := xb1_i hs x_inl
    clear hs
    obtain ⟨a, r, rfl, hs⟩ := hs0
    exact x_same (xgo_inl hs) rfl rfl (xs_i2l F (x_len rfl (by decide) hln hd))
  | i2b =>
    have hs0 := xb1_i hs x_inl
    clear hs
    obtain ⟨a, r, rfl, hs⟩ := hs0
    exact x_same (xgo_inl hs) rfl rfl (xs_i2b F (x_len rfl (by decide) hln hd))
  | i2s =>
    have hs0 := xb1_i hs x_inl
    clear hs
    obtain ⟨a, r, rfl, hs⟩ := hs0
    exact x_same (xgo_inl hs) rfl rfl (xs_i2s F (x_len rfl (by decide) hln hd))
  | i2c =>
    have hs0 := xb1_i hs x_inl
    clear hs
    obtain ⟨a, r, rfl, hs⟩ := hs0
    exact x_same (xgo_inl hs) rfl rfl (xs_i2c F (x_len rfl (by decide) hln hd))
  | l2i =>
    have hs0 := xl1_i hs x_inl
    clear hs
    obtain ⟨a, r, rfl, hs⟩ := hs0
    exact x_same (xgo_inl hs) rfl rfl (xs_l2i F (x_len rfl (by decide) hln hd))
  | ifCond cd off =>
    have hs0 := xb1_i hs x_inl
    clear hs
    obtain ⟨a, r, rfl, hs⟩ := hs0
    split at hs
    · rename_i ho
      split at hs
      · rename_i hc
        exact x_same (xgo_inl hs) rfl rfl (fun z => xs_if F (x_len rfl (by decide) hln hd) (by omega) (fun _ => z) (fun n => absurd hc n))
      · rename_i hc
        exact x_same (xgo_inl hs) rfl rfl (fun z => xs_if (tgt := ((pc : Int) + off).toNat) F (x_len rfl (by decide) hln hd) (by omega) (fun n => absurd n hc) (fun _ => z))
    · exact (xno_inl hs).elim
  | if_icmp cd off =>
    have hs0 := xb2_i hs x_inl
    clear hs
    obtain ⟨a, b, r, rfl, hs⟩ := hs0
    split at hs
    · rename_i ho
      split at hs
      · rename_i hc
        exact x_same (xgo_inl hs) rfl rfl (fun z => xs_icmp F (x_len rfl (by decide) hln hd) (by omega) (fun _ => z) (fun n => absurd hc n))
      · rename_i hc
        exact x_same (xgo_inl hs) rfl rfl (fun z => xs_icmp (tgt := ((pc : Int) + off).toNat) F (x_len rfl (by decide) hln hd) (by omega) (fun n => absurd n hc) (fun _ => z))
    · exact (xno_inl hs).elim
  | goto off =>
    obtain ⟨t, ht, hq⟩ := xjp_i hs
    exact x_same hq rfl rfl (xs_goto F (x_len rfl (by decide) hln hd) ht)
  | ifnull off =>
    have hs0 := xv1_i hs x_inl
    clear hs
    obtain ⟨v, r, rfl, hs⟩ := hs0
    split at hs
    · obtain ⟨t, ht, hq⟩ := xjp_i hs
      exact x_same hq rfl rfl (xs_ifnullN F (x_len rfl (by decide) hln hd) ht)
    · exact x_same (xgo_inl hs) rfl rfl (xs_ifnull F (x_len rfl (by decide) hln hd))
    · exact (xno_inl hs).elim
  | ifnonnull off =>
    have hs0 := xv1_i hs x_inl
    clear hs
    obtain ⟨v, r, rfl, hs⟩ := hs0
    split at hs
    · exact x_same (xgo_inl hs) rfl rfl (xs_ifnonnullN F (x_len rfl (by decide) hln hd))
    · obtain ⟨t, ht, hq⟩ := xjp_i hs
      exact x_same hq rfl rfl (xs_ifnonnull F (x_len rfl (by decide) hln hd) ht)
    · exact (xno_inl hs).elim
  | tableswitch dd lo hi offs =>
    have hs0 := xb1_i hs x_inl
    clear hs
    obtain ⟨a, r, rfl, hs⟩ := hs0
    split at hs
    · rename_i hc
      obtain ⟨t, ht, hq⟩ := xjp_i hs
      exact x_same hq rfl rfl (xs_table F hd hc ht)
    · exact (xno_inl hs).elim
  | lookupswitch dd ps =>
    have hs0 := xb1_i hs x_inl
    clear hs
    obtain ⟨a, r, rfl, hs⟩ := hs0
    split at hs
    · rename_i hc
      obtain ⟨t, ht, hq⟩ := xjp_i hs
      exact x_same hq rfl rfl (xs_lookup F hd hc ht)
    · exact (xno_inl hs).elim
  | ireturn =>
    unfold xst at hs
    dsimp only at hs
    split at hs
    · split at hs
      · split at hs
        · cases hs
        · exact (xno_inl hs).elim
      · exact (xno_inl hs).elim
    · exact (xno_inl hs).elim
  | areturn =>
    unfold xst at hs
    dsimp only at hs
    repeat' (split at hs)
    all_goals first | cases hs | exact (xno_inl hs).elim
  | return_ =>
    unfold xst at hs
    dsimp only at hs
    repeat' (split at hs)
    all_goals first | cases hs | exact (xno_inl hs).elim
  | getstatic k =>
    obtain ⟨w, hw, hq⟩ := xps_i hs
    exact x_same hq rfl rfl (xs_gets F (x_len rfl (by decide) hln hd) hw)
  | getfield k =>
    unfold xst at hs
    dsimp only at hs
    split at hs
    · rename_i ci f hl
      have hs0 := xv1_i hs x_inl
      clear hs
      obtain ⟨v, r, rfl, hs⟩ := hs0
      obtain ⟨w, hw, hq⟩ := xps_i hs
      exact x_same hq rfl rfl (xs_getf F (x_len rfl (by decide) hln hd) hl hw)
    · exact (xno_inl hs).elim
  | putfield k =>
    unfold xst at hs
    dsimp only at hs
    split at hs
    · rename_i ci f hl
      have hs0 := xv2_i hs x_inl
      clear hs
      obtain ⟨v, w, r, rfl, hs⟩ := hs0
      split at hs
      · rename_i hc
        obtain ⟨h', hw, hq⟩ := xhp_i hs
        have hn : h'.1 = h.1 ∧ h'.2.1 = h.2.1 := by
          obtain ⟨a, fs, -, -, -, rfl⟩ := hpf_some hw
          exact ⟨rfl, rfl⟩
        exact x_same hq hn.1 hn.2 (xs_putf F (x_len rfl (by decide) hln hd) hl hc.1 hc.2.1 hc.2.2 hw)
      · exact (xno_inl hs).elim
    · exact (xno_inl hs).elim
  | new k =>
    unfold xst at hs
    dsimp only at hs
    split at hs
    · rename_i ci hl
      have hq := xgo_inl hs
      subst hq
      exact ⟨⟨Nat.le_succ _, Nat.le_add_right _ _⟩, fun h1 h2 z => xs_new F (x_len rfl (by decide) hln hd) hl h1 h2 z⟩
    · exact (xno_inl hs).elim
  | newarray t =>
    have hs0 := xb1_i hs x_inl
    clear hs
    obtain ⟨a, r, rfl, hs⟩ := hs0
    split at hs
    · unfold xnewa at hs
      split at hs
      · rename_i hn
        have hq := xgo_inl hs
        subst hq
        exact ⟨⟨Nat.le_succ _, Nat.le_add_right _ _⟩, fun h1 h2 z => xs_newa F (Or.inl ⟨rfl, rfl⟩) (x_len rfl (by decide) hln hd) hn h1 h2 z⟩
      · exact (xno_inl hs).elim
    · unfold xnewa at hs
      split at hs
      · rename_i hn
        have hq := xgo_inl hs
        subst hq
        exact ⟨⟨Nat.le_succ _, Nat.le_add_right _ _⟩, fun h1 h2 z => xs_newa F (Or.inr ⟨rfl, rfl⟩) (x_len rfl (by decide) hln hd) hn h1 h2 z⟩
      · exact (xno_inl hs).elim
    · exact (xno_inl hs).elim
  | anewarray k =>
    unfold xst at hs
    dsimp only at hs
    split at hs
    · rename_i ci hl
      have hs0 := xb1_i hs x_inl
      clear hs
      obtain ⟨a, r, rfl, hs⟩ := hs0
      split at hs
      · rename_i hn
        have hq := xgo_inl hs
        subst hq
        exact ⟨⟨Nat.le_succ _, Nat.le_add_right _ _⟩, fun h1 h2 z => xs_anew F (x_len rfl (by decide) hln hd) hl hn h1 h2 z⟩
      · exact (xno_inl hs).elim
    · exact (xno_inl hs).elim
  | invokestatic k =>
    unfold xst at hs
    dsimp only at hs
    split at hs
    · rename_i mm n kd hl
      split at hs
      · rename_i h9
        subst h9
        split at hs
        · rename_i nn dp b sp a r
          split at hs
          · rename_i hc
            obtain ⟨h', hw, hq⟩ := xhp_i hs
            have hn : h'.1 = h.1 ∧ h'.2.1 = h.2.1 := by
              obtain ⟨_, _, _, _, _, _, -, -, -, -, -, rfl⟩ := hcp_some hw
              exact ⟨rfl, rfl⟩
            exact x_same hq hn.1 hn.2 (xs_acopy F (x_len rfl (by decide) hln hd) hl hc (by omega) (by omega) hw)
          · exact (xno_inl hs).elim
        · exact (xno_inl hs).elim
      · rename_i h9
        split at hs
        · rename_i hk
          subst hk
          obtain ⟨As, rest, r, h1, h2, -, h3, h4, hq⟩ := xcall_i hs
          subst hq
          rw [h1]
          exact xs_calls F hev (x_len rfl (by decide) hln hd) hl h9 h2 h3 h4 hRf hRl
        · exact (xno_inl hs).elim
    · exact (xno_inl hs).elim
  | invokespecial k =>
    unfold xst at hs
    dsimp only at hs
    split at hs
    · rename_i mm n kd hl
      split at hs
      · rename_i hk
        subst hk
        split at hs
        · rename_i a r hdr
          split at hs
          · rename_i ho
            subst ho
            split at hs
            · rename_i hc
              have hst : st = .ref a :: r := by rw [hc.1] at hdr; exact hdr
              subst hst
              exact x_same (xgo_inl hs) rfl rfl (xs_objinit F (x_len rfl (by decide) hln hd) hl hc.2 (by omega) (by omega))
            · exact (xno_inl hs).elim
          · rename_i ho
            obtain ⟨As, rest, r', h1, h2, h2', h3, h4, hq⟩ := xcall_i hs
            subst hq
            obtain ⟨Bs, rfl, g2, g3⟩ := x_args hdr h1 h2 h2'
            rw [g3]
            exact xs_calli F hev (x_len rfl (by decide) hln hd) hl (fun q => by subst q; exact absurd (xlM_9 hl) (by decide)) ho g2 h3 h4 hRf hRl
        · exact (xno_inl hs).elim
      · exact (xno_inl hs).elim
    · exact (xno_inl hs).elim
  | invokevirtual k =>
    unfold xst at hs
    dsimp only at hs
    split at hs
    · rename_i mm n kd hl
      split at hs
      · rename_i hk
        subst hk
        split at hs
        · rename_i a r hdr
          split at hs
          · rename_i hcl
            obtain ⟨As, rest, r', h1, h2, h2', h3, h4, hq⟩ := xcall_i hs
            subst hq
            obtain ⟨Bs, rfl, g2, g3⟩ := x_args hdr h1 h2 h2'
            rw [g3]
            exact xs_callv F hev (x_len rfl (by decide) hln hd) hl (fun q => by subst q; exact absurd (xlM_9 hl) (by decide)) g2 h3 hcl h4 hRf hRl
          · exact (xno_inl hs).elim
        · exact (xno_inl hs).elim
      · exact (xno_inl hs).elim
    · exact (xno_inl hs).elim
  | _ => exact (xno_inl hs).elim
end XS6
