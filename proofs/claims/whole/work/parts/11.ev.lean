/-! part 11: every run, every call -/
section XS7
variable {p : Program} {l : Launch} {e : Env} {R : Room} {s : State} {m : MethodId} {args : Array Value} {below : List Frame} {meth : Method} {c : Code} {Q : State → Prop}
variable {G : xg} {y n0 s0 d : Nat} {ev : xe} {r : xr}
theorem x_run (hev : xEvOk G l d ev) (F : xFr G y p s m meth c) (hRf : d + 1 ≤ R.frames) (hRl : 64 * (d + 1) ≤ R.locals) (hy : y < 218) (hc : r.2.1 - n0 ≤ R.cells) (hsl : r.2.2.1 - s0 ≤ R.slots)
    (hret : ∀ (pc : Nat) (i : Instr) (len : Nat) (L : xl) (st : List Value) (h : xh), decode (xmd y).2.1 pc = .ok (i, len) → (xln i = 0 ∨ xln i = len) → xst y ev i pc L st h = .inr (some r) → (h.1 ≤ r.2.1 ∧ h.2.1 ≤ r.2.2.1) ∧ xWs G y p l e R s m args below meth c Q n0 s0 pc L st h) :
    ∀ (n pc : Nat) (L : xl) (st : List Value) (h : xh), xrun y ev n pc L st h = some r → (h.1 ≤ r.2.1 ∧ h.2.1 ≤ r.2.2.1) ∧ xWs G y p l e R s m args below meth c Q n0 s0 pc L st h := by
  intro n
  induction n with
  | zero => intro pc L st h hr; cases hr
  | succ n ih =>
    intro pc L st h hr
    rw [xrun] at hr
    cases hcode : xcode y pc with
    | none => rw [hcode] at hr; cases hr
    | some v =>
      obtain ⟨i, len⟩ := v
      rw [hcode] at hr
      dsimp only at hr
      obtain ⟨hd, hln⟩ := xd_all y hy hcode
      cases hs : xst y ev i pc L st h with
      | inr o =>
        rw [hs] at hr
        dsimp only at hr
        subst hr
        exact hret pc i len L st h hd hln hs
      | inl q =>
        rw [hs] at hr
        obtain ⟨pc', L', st', h'⟩ := q
        dsimp only at hr
        obtain ⟨g1, g2⟩ := ih pc' L' st' h' hr
        obtain ⟨o1, o2⟩ := x_step (args := args) (below := below) (Q := Q) (n0 := n0) (s0 := s0) (e := e) hev F hRf hRl hd hln hs
        dsimp only at o1 o2
        exact ⟨⟨Nat.le_trans o1.1 g1.1, Nat.le_trans o1.2 g1.2⟩, o2 (by omega) (by omega) g2⟩
theorem xps_r {pc : Nat} {L : xl} {st : List Value} {h : xh} {v : Option Value} {o : xr} (e : xps pc L st h v = .inr (some o)) : False := by
  unfold xps at e
  split at e
  · exact xgo_inr e
  · exact xno_inr e
theorem xhp_r {pc : Nat} {L : xl} {st : List Value} {v : Option xh} {o : xr} (e : xhp pc L st v = .inr (some o)) : False := by
  unfold xhp at e
  split at e
  · exact xgo_inr e
  · exact xno_inr e
theorem xjp_r {pc : Nat} {off : Int} {L : xl} {st : List Value} {h : xh} {o : xr} (e : xjp pc off L st h = .inr (some o)) : False := by
  unfold xjp at e
  split at e
  · exact xgo_inr e
  · exact xno_inr e
theorem xsto_r {pc i : Nat} {L : xl} {v : Value} {st : List Value} {h : xh} {o : xr} (e : xsto y pc i L v st h = .inr (some o)) : False := by
  unfold xsto at e
  split at e
  · exact xgo_inr e
  · exact xno_inr e
theorem xcall_r {mm n pc' : Nat} {L : xl} {st : List Value} {h : xh} {o : xr} (hs : xcall ev mm n pc' L st h = .inr (some o)) : False := by
  unfold xcall at hs
  split at hs
  · split at hs
    · exact xgo_inr hs
    · exact xno_inr hs
  · exact xno_inr hs
/-- only a return ends a method -/
theorem x_end {pc : Nat} {i : Instr} {L : xl} {st : List Value} {h : xh} (hs : xst y ev i pc L st h = .inr (some r)) : (i = .ireturn ∧ ∃ (v : Int32) (ty : FieldType), st = [.int v] ∧ xret y = some ty ∧ narrow ty (.int v) = .int v ∧ r = (some (.int v), h)) ∨ (i = .areturn ∧ ∃ (v : Value) (ty : FieldType), st = [v] ∧ (v = .null ∨ ∃ a, v = .ref a) ∧ xret y = some ty ∧ ty.isReference = true ∧ r = (some v, h)) ∨ (i = .return_ ∧ st = [] ∧ xret y = none ∧ r = (none, h)) := by
  cases i with
  | ireturn =>
    unfold xst at hs
    dsimp only at hs
    split at hs
    · rename_i v
      split at hs
      · rename_i ty hty
        split at hs
        · rename_i hn
          cases hs
          exact Or.inl ⟨rfl, v, ty, rfl, hty, hn.1, rfl⟩
        · exact (xno_inr hs).elim
      · exact (xno_inr hs).elim
    · exact (xno_inr hs).elim
  | areturn =>
    unfold xst at hs
    dsimp only at hs
    split at hs
    · rename_i ty hty
      split at hs
      · rename_i hr
        split at hs
        · cases hs
          exact Or.inr (Or.inl ⟨rfl, _, ty, rfl, Or.inr ⟨_, rfl⟩, hty, hr, rfl⟩)
        · cases hs
          exact Or.inr (Or.inl ⟨rfl, _, ty, rfl, Or.inl rfl, hty, hr, rfl⟩)
        · exact (xno_inr hs).elim
      · exact (xno_inr hs).elim
    · exact (xno_inr hs).elim
  | return_ =>
    unfold xst at hs
    dsimp only at hs
    split at hs
    · split at hs
      · rename_i hty
        cases hs
        exact Or.inr (Or.inr ⟨rfl, rfl, hty, rfl⟩)
      · exact (xno_inr hs).elim
    · exact (xno_inr hs).elim
  | _ =>
    exfalso
    unfold xst at hs
    dsimp only at hs
    try unfold xldi at hs
    try unfold xldl at hs
    try unfold xlda at hs
    try unfold xb1 at hs
    try unfold xb2 at hs
    try unfold xl1 at hs
    try unfold xl2 at hs
    try unfold xv1 at hs
    try unfold xv2 at hs
    try unfold xnewa at hs
    try dsimp only at hs
    repeat' (split at hs)
    all_goals first | exact xno_inr hs | exact xgo_inr hs | exact xps_r hs | exact xhp_r hs | exact xjp_r hs | exact xsto_r hs | exact xcall_r hs | skip
    all_goals (try dsimp only at hs; try unfold xv1 at hs; try unfold xb1 at hs; try unfold xnewa at hs; try dsimp only at hs; repeat' (split at hs))
    all_goals first | exact xno_inr hs | exact xgo_inr hs | exact xps_r hs | exact xhp_r hs | exact xjp_r hs | exact xsto_r hs | exact xcall_r hs | skip
    all_goals (try dsimp only at hs; try unfold xv1 at hs; try unfold xb1 at hs; try unfold xnewa at hs; try dsimp only at hs; repeat' (split at hs))
    all_goals first | exact xno_inr hs | exact xgo_inr hs | exact xps_r hs | exact xhp_r hs | exact xjp_r hs | exact xsto_r hs | exact xcall_r hs | skip
    all_goals (try dsimp only at hs; try unfold xv1 at hs; try unfold xb1 at hs; try unfold xnewa at hs; try dsimp only at hs; repeat' (split at hs))
    all_goals first | exact xno_inr hs | exact xgo_inr hs | exact xps_r hs | exact xhp_r hs | exact xjp_r hs | exact xsto_r hs | exact xcall_r hs
/-- a method's end -/
theorem x_ret (F : xFr G y p s m meth c) {pc : Nat} {i : Instr} {len : Nat} {L : xl} {st : List Value} {h : xh} (hd : decode (xmd y).2.1 pc = .ok (i, len)) (hln : xln i = 0 ∨ xln i = len) (hs : xst y ev i pc L st h = .inr (some r)) : (h.1 ≤ r.2.1 ∧ h.2.1 ≤ r.2.2.1) ∧ xWs G y p l e R s m args below meth c (MQ below (xQc G r) args s (r.2.1 - n0) (r.2.2.1 - s0) (xA G)) n0 s0 pc L st h := by
  rcases x_end hs with ⟨rfl, v, ty, rfl, hty, hn, rfl⟩ | ⟨rfl, v, ty, rfl, hv, hty, hr, rfl⟩ | ⟨rfl, rfl, hty, rfl⟩
  · refine ⟨⟨Nat.le_refl _, Nat.le_refl _⟩, fun h1 h2 H locs ls hR hL => ?_⟩
    exact W.zret F.1 F.2.1 (F.2.2.2.2.1.trans hty) hn (fun t ht hW => ⟨rfl, by rw [ht]; exact hR.locs (fun q hq => by cases hq)⟩) (fun q hq => hR.2.2.2.1 q hq) (x_len rfl (by decide) hln hd) F.2.2.2.2.2.1
  · refine ⟨⟨Nat.le_refl _, Nat.le_refl _⟩, fun h1 h2 H locs ls hR hL => ?_⟩
    exact W.aret F.1 F.2.1 (F.2.2.2.2.1.trans hty) (by cases ty <;> first | exact Or.inl ⟨_, rfl⟩ | exact Or.inr ⟨_, rfl⟩ | cases hr) (by rcases hv with rfl | ⟨a, rfl⟩; exact Or.inl rfl; exact Or.inr ⟨_, rfl⟩) (fun t ht hW => ⟨rfl, by rw [ht]; exact hR.locs (fun q hq => by cases hq)⟩) (fun q hq => hR.2.2.2.1 q hq) (x_len rfl (by decide) hln hd) F.2.2.2.2.2.1
  · refine ⟨⟨Nat.le_refl _, Nat.le_refl _⟩, fun h1 h2 H locs ls hR hL => ?_⟩
    exact W.vret F.1 F.2.1 (F.2.2.2.2.1.trans hty) (fun t ht hW => ⟨rfl, by rw [ht]; exact hR.locs (fun q hq => by cases hq)⟩) (fun q hq => hR.2.2.2.1 q hq) (x_len rfl (by decide) hln hd) F.2.2.2.2.2.1
end XS7
theorem xla_len : ∀ a : List Value, (xla a).length = (lg_sl a).length
  | [] => rfl
  | v :: t => by
    have ih := xla_len t
    unfold lg_sl at ih ⊢
    rw [xla, List.flatMap_cons, List.length_append]
    by_cases hv : v.category = 2
    · rw [if_pos hv, if_pos hv]
      simp only [List.length_cons, List.length_nil, ih]
      omega
    · rw [if_neg hv, if_neg hv]
      simp only [List.length_cons, List.length_nil, ih]
      omega
theorem lg_map {G : xg} (hx : ∀ e : Nat, (∃ a : Nat, G.2.2.2.2.1 e = .ref a) ∨ G.2.2.2.2.1 e = .null) : ∀ (a : List Value), (lg_sl (a.map (xcv G))).length = (lg_sl a).length ∧ ∀ (i : Nat) (v : Value), (xla a)[i]? = some (some v) → (lg_sl (a.map (xcv G)))[i]? = some (.val (xcv G v))
  | [] => ⟨rfl, fun i v h => by simp [xla] at h⟩
  | v :: t => by
    obtain ⟨ih1, ih2⟩ := lg_map hx t
    have hc := xcv_cat hx v
    unfold lg_sl at ih1 ih2 ⊢
    rw [List.map_cons, List.flatMap_cons, List.flatMap_cons, xla, hc]
    by_cases hv : v.category = 2
    · rw [if_pos hv, if_pos hv, if_pos hv]
      refine ⟨by simp only [List.length_append, ih1]; rfl, fun i w hi => ?_⟩
      match i with
      | 0 => simp at hi; rw [hi]; rfl
      | 1 => simp at hi
      | i + 2 => exact ih2 i w (by simpa using hi)
    · rw [if_neg hv, if_neg hv, if_neg hv]
      refine ⟨by simp only [List.length_append, ih1]; rfl, fun i w hi => ?_⟩
      match i with
      | 0 => simp at hi; rw [hi]; rfl
      | i + 1 => exact ih2 i w (by simpa using hi)
theorem xla_mem {w : Value} : ∀ {a : List Value}, some w ∈ xla a → w ∈ a
  | [], h => by simp [xla] at h
  | v :: t, h => by
    rw [xla] at h
    split at h
    · simp at h
      rcases h with h | h
      · rw [h]; exact List.mem_cons_self
      · exact List.mem_cons_of_mem _ (xla_mem h)
    · simp at h
      rcases h with h | h
      · rw [h]; exact List.mem_cons_self
      · exact List.mem_cons_of_mem _ (xla_mem h)
theorem xL_entry {G : xg} (hx : ∀ e : Nat, (∃ a : Nat, G.2.2.2.2.1 e = .ref a) ∨ G.2.2.2.2.1 e = .null) {nj : Bool} {n : Nat} {a : List Value} (hn : (xla a).length ≤ n) (hj : nj = true → a.all (fun v => v.category == 1) = true) : xL G nj n (xpad n (xla a)) ((lg_sl (a.map (xcv G)) ++ List.replicate (n - (lg_sl (a.map (xcv G))).length) Slot.unset).toArray) := by
  obtain ⟨l1, l2⟩ := lg_map hx a
  have hl := xla_len a
  obtain ⟨e1, e2, e3⟩ := lv_entry (a.map (xcv G)) (n := n) (by rw [l1, ← hl]; exact hn)
  refine ⟨e1, by unfold xpad; simp; omega, e2, fun i v hi => ?_, fun h v hv => ?_⟩
  · unfold xpad at hi
    by_cases hlt : i < (xla a).length
    · rw [List.getElem?_append_left hlt] at hi
      have h3 := l2 i v hi
      rw [List.getElem?_toArray, List.getElem?_append_left (List.getElem?_eq_some_iff.mp h3).1]
      exact h3
    · rw [List.getElem?_append_right (by omega)] at hi
      have := List.mem_of_getElem? hi
      have := (List.mem_replicate.mp this).2
      cases this
  · unfold xpad at hv
    rcases List.mem_append.mp hv with q | q
    · have := List.all_eq_true.mp (hj h) v (xla_mem q)
      simpa using this
    · have := (List.mem_replicate.mp q).2
      cases this
/-- cells and slots only grow -/
def xmon (h : xh) (h' : xh) : Prop := h.1 ≤ h'.1 ∧ h.2.1 ≤ h'.2.1
theorem xmon_go {a : Nat} {b : xl} {c : List Value} {h : xh} {q : xf} (hs : xgo a b c h = .inl q) : xmon h q.2.2.2 := by rw [xgo_inl hs]; exact ⟨Nat.le_refl _, Nat.le_refl _⟩
theorem xmon_new {a n : Nat} {b : xl} {c : List Value} {h : xh} {x : xc} {q : xf} (hs : xgo a b c (hnew h x n) = .inl q) : xmon h q.2.2.2 := by rw [xgo_inl hs]; exact ⟨Nat.le_succ _, Nat.le_add_right _ _⟩
theorem xmon_ps {a : Nat} {b : xl} {c : List Value} {h : xh} {o : Option Value} {q : xf} (hs : xps a b c h o = .inl q) : xmon h q.2.2.2 := by
  obtain ⟨w, -, rfl⟩ := xps_i hs
  exact ⟨Nat.le_refl _, Nat.le_refl _⟩
theorem xmon_jp {a : Nat} {off : Int} {b : xl} {c : List Value} {h : xh} {q : xf} (hs : xjp a off b c h = .inl q) : xmon h q.2.2.2 := by
  obtain ⟨w, -, rfl⟩ := xjp_i hs
  exact ⟨Nat.le_refl _, Nat.le_refl _⟩
theorem xmon_sto {y pc i : Nat} {L : xl} {v : Value} {st : List Value} {h : xh} {q : xf} (hs : xsto y pc i L v st h = .inl q) : xmon h q.2.2.2 := by
  obtain ⟨-, rfl⟩ := xsto_i hs
  exact ⟨Nat.le_refl _, Nat.le_refl _⟩
theorem xmon_wr {a : Nat} {b : xl} {c : List Value} {h : xh} {v : Value} {kd : Nat} {i x : Int32} {q : xf} (hs : xhp a b c (hwr h v kd i x) = .inl q) : xmon h q.2.2.2 := by
  obtain ⟨h', hw, rfl⟩ := xhp_i hs
  obtain ⟨_, _, _, _, -, -, -, rfl⟩ := hwr_some hw
  exact ⟨Nat.le_refl _, Nat.le_refl _⟩
theorem xmon_wq {a : Nat} {b : xl} {c : List Value} {h : xh} {v w : Value} {i : Int32} {q : xf} (hs : xhp a b c (hwq h v i w) = .inl q) : xmon h q.2.2.2 := by
  obtain ⟨h', hw, rfl⟩ := xhp_i hs
  obtain ⟨a, ci, n, f, j, -, -, -, -, hz⟩ := hwq_some hw
  rcases hz with ⟨-, rfl⟩ | ⟨q, fs, -, -, rfl⟩ <;> exact ⟨Nat.le_refl _, Nat.le_refl _⟩
theorem xmon_pf {a : Nat} {b : xl} {c : List Value} {h : xh} {v w : Value} {ci f : Nat} {q : xf} (hs : xhp a b c (hpf h v ci f w) = .inl q) : xmon h q.2.2.2 := by
  obtain ⟨h', hw, rfl⟩ := xhp_i hs
  obtain ⟨_, _, -, -, -, rfl⟩ := hpf_some hw
  exact ⟨Nat.le_refl _, Nat.le_refl _⟩
theorem xmon_cp {a : Nat} {b : xl} {c : List Value} {h : xh} {v w : Value} {x z n : Int32} {q : xf} (hs : xhp a b c (hcp h v x w z n) = .inl q) : xmon h q.2.2.2 := by
  obtain ⟨h', hw, rfl⟩ := xhp_i hs
  obtain ⟨_, _, _, _, _, _, -, -, -, -, -, rfl⟩ := hcp_some hw
  exact ⟨Nat.le_refl _, Nat.le_refl _⟩
theorem xmon_call {ev : xe} (hev : ∀ y a h r, ev y a h = some r → xmon h r.2) {mm n pc' : Nat} {L : xl} {st : List Value} {h : xh} {q : xf} (hs : xcall ev mm n pc' L st h = .inl q) : xmon h q.2.2.2 := by
  obtain ⟨As, rest, r, -, -, -, -, he, rfl⟩ := xcall_i hs
  exact hev _ _ _ _ he
theorem x_mono {y : Nat} {ev : xe} (hev : ∀ y a h r, ev y a h = some r → xmon h r.2) {pc : Nat} {i : Instr} {L : xl} {st : List Value} {h : xh} {q : xf} (hs : xst y ev i pc L st h = .inl q) : xmon h q.2.2.2 := by
  cases i with
  | _ =>
    unfold xst at hs
    dsimp only at hs
    try unfold xldi at hs
    try unfold xldl at hs
    try unfold xlda at hs
    try unfold xb1 at hs
    try unfold xb2 at hs
    try unfold xl1 at hs
    try unfold xl2 at hs
    try unfold xv1 at hs
    try unfold xv2 at hs
    try unfold xnewa at hs
    try dsimp only at hs
    repeat' (split at hs)
    all_goals first | exact (xno_inl hs).elim | exact xmon_go hs | exact xmon_new hs | exact xmon_ps hs | exact xmon_jp hs | exact xmon_sto hs | exact xmon_wr hs | exact xmon_wq hs | exact xmon_pf hs | exact xmon_cp hs | exact xmon_call hev hs | cases hs | skip
    all_goals (try dsimp only at hs; try unfold xv1 at hs; try unfold xv2 at hs; try unfold xb1 at hs; try unfold xnewa at hs; try dsimp only at hs; repeat' (split at hs))
    all_goals first | exact (xno_inl hs).elim | exact xmon_go hs | exact xmon_new hs | exact xmon_ps hs | exact xmon_jp hs | exact xmon_sto hs | exact xmon_wr hs | exact xmon_wq hs | exact xmon_pf hs | exact xmon_cp hs | exact xmon_call hev hs | cases hs | skip
    all_goals (try dsimp only at hs; try unfold xv1 at hs; try unfold xb1 at hs; try unfold xnewa at hs; try dsimp only at hs; repeat' (split at hs))
    all_goals first | exact (xno_inl hs).elim | exact xmon_go hs | exact xmon_new hs | exact xmon_ps hs | exact xmon_jp hs | exact xmon_sto hs | exact xmon_wr hs | exact xmon_wq hs | exact xmon_pf hs | exact xmon_cp hs | exact xmon_call hev hs | cases hs | skip
    all_goals (try dsimp only at hs; try unfold xv1 at hs; try unfold xb1 at hs; try unfold xnewa at hs; try dsimp only at hs; repeat' (split at hs))
    all_goals first | exact (xno_inl hs).elim | exact xmon_go hs | exact xmon_new hs | exact xmon_ps hs | exact xmon_jp hs | exact xmon_sto hs | exact xmon_wr hs | exact xmon_wq hs | exact xmon_pf hs | exact xmon_cp hs | exact xmon_call hev hs | cases hs
theorem x_monr {y : Nat} {ev : xe} (hev : ∀ y a h r, ev y a h = some r → xmon h r.2) : ∀ (n pc : Nat) (L : xl) (st : List Value) (h : xh) (r : xr), xrun y ev n pc L st h = some r → xmon h r.2 := by
  intro n
  induction n with
  | zero => intro pc L st h r hr; cases hr
  | succ n ih =>
    intro pc L st h r hr
    rw [xrun] at hr
    cases hcode : xcode y pc with
    | none => rw [hcode] at hr; cases hr
    | some v =>
      obtain ⟨i, len⟩ := v
      rw [hcode] at hr
      dsimp only at hr
      cases hs : xst y ev i pc L st h with
      | inr o =>
        rw [hs] at hr
        dsimp only at hr
        subst hr
        rcases x_end hs with ⟨-, v, ty, -, -, -, rfl⟩ | ⟨-, v, ty, -, -, -, -, rfl⟩ | ⟨-, -, -, rfl⟩ <;> exact ⟨Nat.le_refl _, Nat.le_refl _⟩
      | inl q =>
        rw [hs] at hr
        obtain ⟨pc', L', st', h'⟩ := q
        dsimp only at hr
        have g1 := ih pc' L' st' h' r hr
        have g2 := x_mono hev hs
        exact ⟨Nat.le_trans g2.1 g1.1, Nat.le_trans g2.2 g1.2⟩
theorem Ev_mono : ∀ (d y : Nat) (a : List Value) (h : xh) (r : xr), Ev d y a h = some r → xmon h r.2 := by
  intro d
  induction d with
  | zero => intro y a h r hr; cases hr
  | succ d ih =>
    intro y a h r hr
    rw [Ev] at hr
    dsimp only at hr
    split at hr
    · obtain ⟨n, hn⟩ := RF_to hr
      exact x_monr ih n _ _ _ _ _ hn
    · cases hr
theorem Ev_ok (G : xg) (hK : xK G) (l : Launch) : ∀ d : Nat, xEvOk G l d (Ev d) := by
  intro d
  induction d with
  | zero => intro y a h r _ hr; cases hr
  | succ d ih =>
    intro y a h r hy hr
    rw [Ev] at hr
    dsimp only at hr
    split at hr
    · rename_i hc
      obtain ⟨c1, c2, c3⟩ := hc
      obtain ⟨n, hn⟩ := RF_to hr
      have hy9 : y < 218 := by rw [← xms_len]; exact c2
      obtain ⟨o1, o2, o3, o4, o5, o6⟩ := xmd_ok y
      have hpl : plainFor (xmd y).1 = true := by
        rcases o1 with q | q
        · exact q
        · exfalso
          have : ∀ y : Nat, y < 218 → y ≠ xobji → (xmd y).1.cls ≠ "java/lang/Object" := by decide +kernel
          exact this y hy9 hy q
      have key : ∀ (p : Program) (e : Env) (s : State) (m : MethodId) (args : Array Value) (below : List Frame) (meth : Method) (c : Code), xFr G y p s m meth c → xPc G h a args s → (h.1 ≤ r.2.1 ∧ h.2.1 ≤ r.2.2.1) ∧ W p l e (xrm (d + 1) (r.2.1 - h.1) (r.2.2.1 - h.2.1)) s m args below meth c s.heap [] 0 0 (MQ below (xQc G r) args s (r.2.1 - h.1) (r.2.2.1 - h.2.1) (xA G)) (entryFrame m args (xmax y)) := by
        intro p e s m args below meth c F hP
        obtain ⟨rfl, hR, hW⟩ := hP
        obtain ⟨g1, g2⟩ := x_run (R := xrm (d + 1) (r.2.1 - h.1) (r.2.2.1 - h.2.1)) (n0 := h.1) (s0 := h.2.1) (e := e) (args := (a.map (xcv G)).toArray) (below := below) ih F (Nat.le_refl _) (Nat.le_refl _) hy9 (Nat.le_refl _) (Nat.le_refl _) (fun pc i len L st h' hd hln hs => x_ret F hd hln hs) n 0 _ [] h hn
        refine ⟨g1, ?_⟩
        rw [lg_entry_eq]
        have g3 := g2 (Nat.le_refl _) (Nat.le_refl _) s.heap [] _ hR (xL_entry hK.2.2.2.2.1 c1 c3)
        rw [Nat.sub_self, Nat.sub_self] at g3
        exact g3
      refine ⟨Ev_mono (d + 1) y a h r (by rw [Ev]; dsimp only; rw [if_pos ⟨c1, c2, c3⟩]; exact hr), ?_⟩
      · refine va_MetF (cc := (xmd y).2.1) (maxL := xmax y) (ret := xret y) hpl rfl ?_
        intro p e s m args below meth c s₁ B hml hP
        have F : xFr G y p s m meth c := ⟨B.exec, B.bytes, hml, by rw [o4]; exact findClass_of_methodNamed B.named, B.returns, B.notSynchronized, fun q => by rw [(name_of_methodNamed B.named B.method).1]; exact o6 q, hP.2.2, hK⟩
        exact (key p e s m args below meth c F hP).2
    · cases hr
