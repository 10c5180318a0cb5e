/-! part 04: how the machine of part 03 lies in the Statement's heap -/
/-- the start: state, slots of fields, classes of arrays (of numbers, of references), outer things, the law's arguments -/
abbrev xg : Type := State × va_G × (Nat → ClassId) × (Nat → ClassId) × (Nat → Value) × Array Value
def gz (G : xg) : Nat := G.1.heap.size
def xcv (G : xg) (v : Value) : Value := match v with
  | .ref k => .ref (gz G + k)
  | .retAddr e => G.2.2.2.2.1 e
  | v => v
def xcc (G : xg) (c : xc) : va_E := match c with
  | .inl (kd, n, f) => .inl (G.2.2.1 kd, n, .inl f)
  | .inr (.inl (ci, n, f)) => .inl (G.2.2.2.1 ci, n, .inr (.inr (.inr (.inr (fun i => (f i).map (fun k => gz G + k))))))
  | .inr (.inr (ci, fs)) => .inr (ci, fs.map (xcv G))
def xA (G : xg) : Nat → Prop := fun q => gz G ≤ q
/-- the outer things -/
def xX (G : xg) (x : Nat → xc) : Prop :=
  (∀ (e kd n : Nat) (f : Nat → Int32), x e = .inl (kd, n, f) → ∃ t : Nat, G.2.2.2.2.1 e = .ref t ∧ va_T (xkt kd) t n (fun j => .int (f j)) (xA G) G.1 G.1.heap) ∧
  (∀ (e ci : Nat) (fs : List Value), x e = .inr (.inr (ci, fs)) → x e ≠ xnil → ci = 7 ∧ ∃ t : Nat, G.2.2.2.2.1 e = .ref t ∧ va_O "java/lang/String" t (xA G) G.1 G.1.heap ∧ (∀ v : Value, fs[0]? = some v → va_OF "java/lang/String" "value" "[B" (xcv G v) t (xA G) G.1 G.1.heap) ∧ (∀ v : Value, fs[1]? = some v → va_OF "java/lang/String" "coder" "B" (xcv G v) t (xA G) G.1 G.1.heap) ∧ ∀ k : Nat, 2 ≤ k → fs[k]? = none) ∧
  (∀ (e : Nat) (q : Nat × Nat × (Nat → Option Nat)), x e ≠ .inr (.inl q))
def xR (G : xg) (h : xh) (H : Heap) (locs : List Loc) : Prop :=
  H.size = gz G + h.1 ∧ (∀ k : Nat, h.2.2.1 k ≠ xnil → k < h.1 ∧ va_at G.2.1 xcl (gz G + k, xcc G (h.2.2.1 k)) H) ∧ (∀ q : Nat, q < gz G → H[q]? = G.1.heap[q]?) ∧ (∀ q ∈ locs, gz G ≤ q.base) ∧ xX G h.2.2.2
def xL (G : xg) (nj : Bool) (nL : Nat) (L : xl) (ls : Array Slot) : Prop :=
  ls.size = nL ∧ L.length = nL ∧ lv_wf ls ∧ (∀ (i : Nat) (v : Value), L[i]? = some (some v) → ls[i]? = some (.val (xcv G v))) ∧ (nj = true → ∀ v : Value, some v ∈ L → v.category = 1)
theorem xcv_cat {G : xg} (hx : ∀ e : Nat, (∃ a : Nat, G.2.2.2.2.1 e = .ref a) ∨ G.2.2.2.2.1 e = .null) (v : Value) : (xcv G v).category = v.category := by
  cases v with
  | retAddr e => show (G.2.2.2.2.1 e).category = 1
                 rcases hx e with ⟨a, h⟩ | h <;> rw [h] <;> rfl
  | _ => rfl
theorem xcat_map {G : xg} (hx : ∀ e : Nat, (∃ a : Nat, G.2.2.2.2.1 e = .ref a) ∨ G.2.2.2.2.1 e = .null) : ∀ st : List Value, ((st.map (xcv G)).map fun v => v.category).sum = xcat st
  | [] => rfl
  | v :: t => by
    show (xcv G v).category + ((t.map (xcv G)).map fun v => v.category).sum = v.category + xcat t
    rw [xcv_cat hx, xcat_map hx t]
theorem xR_set {G : xg} {h : xh} {H H' : Heap} {locs : List Loc} {k j : Nat} {c : xc} (hR : xR G h H locs) (hk : h.2.2.1 k ≠ xnil) (hat : va_at G.2.1 xcl (gz G + k, xcc G c) H') (hsz : H'.size = H.size) (ho : ∀ q : Nat, q ≠ gz G + k → H'[q]? = H[q]?) : xR G (hset h k c) H' (locs ++ [⟨gz G + k, j⟩]) := by
  obtain ⟨h1, h2, h3, h4, h5⟩ := hR
  refine ⟨hsz.trans h1, fun i hi => ?_, fun q hq => ?_, fun q hq => ?_, h5⟩
  · by_cases hik : i = k
    · subst hik
      refine ⟨(h2 i hk).1, ?_⟩
      have e : (hset h i c).2.2.1 i = c := by simp [hset, va_up]
      rw [e]
      exact hat
    · have e : (hset h k c).2.2.1 i = h.2.2.1 i := by simp [hset, va_up, hik]
      rw [e] at hi ⊢
      obtain ⟨a1, a2⟩ := h2 i hi
      exact ⟨a1, a2.kept (ho _ (by show gz G + i ≠ gz G + k; omega))⟩
  · rw [ho q (by omega)]
    exact h3 q hq
  · rcases List.mem_append.mp hq with h | h
    · exact h4 q h
    · rw [List.mem_singleton.mp h]
      exact Nat.le_add_right _ _
theorem xR_new {G : xg} {h : xh} {H H' : Heap} {locs : List Loc} {c : xc} {n : Nat} (hR : xR G h H locs) (hat : va_at G.2.1 xcl (H.size, xcc G c) H') (hsz : H'.size = H.size + 1) (ho : ∀ q : Nat, q < H.size → H'[q]? = H[q]?) : xR G (hnew h c n) H' locs := by
  obtain ⟨h1, h2, h3, h4, h5⟩ := hR
  refine ⟨by rw [hsz, h1]; rfl, fun i hi => ?_, fun q hq => ?_, h4, h5⟩
  · by_cases hik : i = h.1
    · subst hik
      refine ⟨Nat.lt_succ_self _, ?_⟩
      have e : (hnew h c n).2.2.1 h.1 = c := by simp [hnew, va_up]
      rw [e, ← h1]
      exact hat
    · have e : (hnew h c n).2.2.1 i = h.2.2.1 i := by simp [hnew, va_up, hik]
      rw [e] at hi ⊢
      obtain ⟨a1, a2⟩ := h2 i hi
      exact ⟨Nat.lt_succ_of_lt a1, a2.kept (ho _ (by show gz G + i < H.size; omega))⟩
  · rw [ho q (by omega)]
    exact h3 q hq
theorem xR.locs {G : xg} {h : xh} {H : Heap} {locs locs' : List Loc} (hR : xR G h H locs) (hl : ∀ q ∈ locs', gz G ≤ q.base) : xR G h H locs' := ⟨hR.1, hR.2.1, hR.2.2.1, hl, hR.2.2.2.2⟩
/-- the Statement's words at the start, its classes, what statics and text constants hold -/
def xK (G : xg) : Prop :=
  (∀ w ∈ lw_tbl, w.before G.2.2.2.2.2 G.1 = true) ∧ (∀ (c : Nat) (q : vw_C), xcl[c]? = some q → u_Kn G.1 q.1 q.2.1 q.2.2 (G.2.1.1 c) (G.2.1.2 c)) ∧
  (∀ kd : Nat, kd < 2 → ArrOfT G.1 (G.2.2.1 kd) (xkt kd) ∧ G.1.vm.findClass ("[" ++ (xkt kd).toString) = some (G.2.2.1 kd)) ∧
  (∀ ci : Nat, ci = 1 ∨ ci = 2 ∨ ci = 4 → ArrOfT G.1 (G.2.2.2.1 ci) (.object (xcn ci)) ∧ va_RA G.1 (G.2.2.2.1 ci) (.object (xcn ci))) ∧
  (∀ e : Nat, (∃ a : Nat, G.2.2.2.2.1 e = .ref a) ∨ G.2.2.2.2.1 e = .null) ∧
  (va_Z "RiverProof" "ABOVE" "[I" (G.2.2.2.2.1 1) (xA G) G.1 G.1.heap ∧ va_Z "java/lang/String" "COMPACT_STRINGS" "Z" (.int 1) (xA G) G.1 G.1.heap ∧ va_Z "jdk/internal/util/Preconditions" "SIOOBE_FORMATTER" "Ljava/util/function/BiFunction;" (G.2.2.2.2.1 20) (xA G) G.1 G.1.heap) ∧
  (∀ (k e : Nat), xlk k xlS = some e → ∃ (tx : String) (a : Nat), G.2.2.2.2.1 e = .ref a ∧ vk_R (xcn (k / 10000)) (k % 10000) tx a G.1)
theorem xK.w {G : xg} (hK : xK G) {s : State} {args : Array Value} (hw : G.1.WarmedH s.vm) {w : Cond} (hm : w ∈ lw_tbl) (hg : (w.onTables && w.keeps) = true) : w.before args s = true := word_at hw (Or.inl hg) (hK.1 w hm)
theorem xK.va {G : xg} (hK : xK G) {s : State} (hw : G.1.WarmedH s.vm) {kd : Nat} (hkd : kd < 2) : va_K G.2.1 xcl [(G.2.2.1 kd, xkt kd)] s := by
  refine va_K.moved hw.alike ⟨hK.2.1, fun k q hq => ?_⟩
  have hk : k = 0 := by have := (List.getElem?_eq_some_iff.mp hq).1; simpa using this
  subst hk
  cases hq
  obtain ⟨h1, h2⟩ := hK.2.2.1 kd hkd
  refine ⟨h1, ?_⟩
  rcases (show kd = 0 ∨ kd = 1 by omega) with rfl | rfl <;> exact h2
theorem xK.vq {G : xg} (hK : xK G) {s : State} (hw : G.1.WarmedH s.vm) {ci : Nat} (hci : ci = 1 ∨ ci = 2 ∨ ci = 4) : va_K G.2.1 xcl [(G.2.2.2.1 ci, .object (xcn ci))] s := by
  refine va_K.moved hw.alike ⟨hK.2.1, fun k q hq => ?_⟩
  have hk : k = 0 := by have := (List.getElem?_eq_some_iff.mp hq).1; simpa using this
  subst hk
  cases hq
  exact hK.2.2.2.1 ci hci
theorem xK.v0 {G : xg} (hK : xK G) {s : State} (hw : G.1.WarmedH s.vm) : va_K G.2.1 xcl [] s := va_K.moved hw.alike ⟨hK.2.1, fun k q hq => by simp at hq⟩
/-- one cell as a world -/
theorem xR.p1 {G : xg} {h : xh} {H : Heap} {locs : List Loc} (hR : xR G h H locs) {k : Nat} (hk : h.2.2.1 k ≠ xnil) : va_P G.2.1 xcl [(gz G + k, xcc G (h.2.2.1 k))] H := by
  intro i q hq
  have hi : i = 0 := by have := (List.getElem?_eq_some_iff.mp hq).1; simpa using this
  subst hi
  cases hq
  exact (hR.2.1 k hk).2
theorem xR.S {G : xg} {h : xh} {H : Heap} {locs : List Loc} (hR : xR G h H locs) : va_S (xA G) G.1.heap H locs := ⟨by rw [hR.1]; exact Nat.le_add_right _ _, fun q hq _ => hR.2.2.1 q hq, hR.2.2.2.1⟩
theorem xix_some {i : Int32} {n j : Nat} (h : xix i n = some j) : vp_in i n ∧ i.toNatClampNeg = j := by
  unfold xix at h
  split at h
  · rename_i hc
    cases h
    exact ⟨vp_in_iff.mpr hc, rfl⟩
  · cases h
theorem xlk_mem {α : Type} {k : Nat} {v : α} : ∀ {l : List (Nat × α)}, xlk k l = some v → (k, v) ∈ l
  | [], h => by cases h
  | (a, w) :: t, h => by
    rw [xlk] at h
    cases hb : Nat.beq a k with
    | true =>
      rw [hb] at h
      have e := Nat.eq_of_beq_eq_true hb
      cases h
      rw [e]
      exact List.mem_cons_self
    | false =>
      rw [hb] at h
      exact List.mem_cons_of_mem _ (xlk_mem h)
theorem xarr_some {c : xc} {kd n : Nat} {f : Nat → Int32} (h : xarr c kd = some (n, f)) : c = .inl (kd, n, f) := by
  unfold xarr at h
  split at h
  · split at h
    · rename_i he
      cases h
      rw [he]
    · cases h
  · cases h
theorem xarq_some {c : xc} {q : Nat × Nat × (Nat → Option Nat)} (h : xarq c = some q) : c = .inr (.inl q) ∧ (q.1 = 1 ∨ q.1 = 2 ∨ q.1 = 4) := by
  unfold xarq at h
  split at h
  · split at h
    · rename_i hc
      cases h
      exact ⟨rfl, hc⟩
    · cases h
  · cases h
theorem xobj_some {c : xc} {ci : Nat} {fs : List Value} (h : xobj c ci = some fs) : c = .inr (.inr (ci, fs)) := by
  unfold xobj at h
  split at h
  · split at h
    · rename_i he
      cases h
      rw [he]
    · cases h
  · cases h
theorem xnil_l {q : Nat × Nat × (Nat → Int32)} : (.inl q : xc) ≠ xnil := fun h => by cases h
theorem xnil_q {q : Nat × Nat × (Nat → Option Nat)} : (.inr (.inl q) : xc) ≠ xnil := fun h => by cases h
theorem xnil_o {ci : Nat} {fs : List Value} (h : ci < 99) : (.inr (.inr (ci, fs)) : xc) ≠ xnil := fun e => by
  cases e
  exact absurd h (Nat.lt_irrefl _)
theorem xL_set {G : xg} {nL i : Nat} {L : xl} {ls ls' : Array Slot} {v : Value} {lv : List (Nat × Value)} (hL : xL G true nL L ls) (hv : v.category = 1) (hi : i < L.length) (hls : lv_has ls' nL ((i, xcv G v) :: lv)) (hlv : ∀ (j : Nat) (w : Value), L[j]? = some (some w) → j ≠ i → (j, xcv G w) ∈ lv) : xL G true nL (L.set i (some v)) ls' := by
  obtain ⟨h1, h2, h3, h4, h5⟩ := hL
  refine ⟨hls.1, by rw [List.length_set]; exact h2, hls.2.1, fun j w hj => ?_, fun _ w hw => ?_⟩
  · by_cases hji : j = i
    · subst hji
      rw [List.getElem?_set_self hi] at hj
      cases hj
      exact hls.2.2 (j, xcv G v) List.mem_cons_self
    · rw [List.getElem?_set_ne (Ne.symm hji)] at hj
      exact hls.2.2 (j, xcv G w) (List.mem_cons_of_mem _ (hlv j w hj hji))
  · rcases List.mem_or_eq_of_mem_set hw with h | h
    · exact h5 rfl w h
    · cases h
      exact hv
/-- the listed locals -/
def xlv (G : xg) (L : xl) : List (Nat × Value) := (List.range L.length).filterMap (fun i => match L[i]? with
  | some (some v) => some (i, xcv G v)
  | _ => none)
theorem xlv_mem {G : xg} {L : xl} {i : Nat} {v : Value} (h : L[i]? = some (some v)) : (i, xcv G v) ∈ xlv G L := by
  refine List.mem_filterMap.mpr ⟨i, List.mem_range.mpr (List.getElem?_eq_some_iff.mp h).1, ?_⟩
  rw [h]
theorem xlv_has {G : xg} {nj : Bool} {nL : Nat} {L : xl} {ls : Array Slot} (hL : xL G nj nL L ls) : lv_has ls nL (xlv G L) := by
  refine ⟨hL.1, hL.2.2.1, fun q hq => ?_⟩
  obtain ⟨i, -, hi⟩ := List.mem_filterMap.mp hq
  split at hi
  · rename_i v hv
    cases hi
    exact hL.2.2.2.1 i v hv
  · cases hi
theorem xlv_keep {G : xg} (hx : ∀ e : Nat, (∃ a : Nat, G.2.2.2.2.1 e = .ref a) ∨ G.2.2.2.2.1 e = .null) {nL i : Nat} {L : xl} {ls : Array Slot} (hL : xL G true nL L ls) (j : Nat) (w : Value) (hj : L[j]? = some (some w)) (hji : j ≠ i) : (j, xcv G w) ∈ (xlv G L).filter (fun q => !(q.1 == i) && !(q.1 + 1 == i && q.2.category == 2)) := by
  refine List.mem_filter.mpr ⟨xlv_mem hj, ?_⟩
  have h1 : (xcv G w).category = 1 := by rw [xcv_cat hx]; exact hL.2.2.2.2 rfl w (List.mem_of_getElem? hj)
  simp [hji, h1]
