/-! part 16, by program (wip/whole/gen/gen_mod.py): the reference's cells 58 .. 83: a j is what its j-th array holds, s k its k-th field, w the field value -/
def moF (s : Nat → Int32) (w : Int64) : List Value := [.ref 59, .ref 60, .ref 61, .ref 62, .int (s 4), .ref 63, .ref 64, .ref 65, .ref 66, .ref 67, .ref 68, .int (s 11), .int (s 12), .int (s 13), .int (s 14), .long w, .int (s 16), .int (s 17), .int (s 18), .int (s 19), .int (s 20), .int (s 21), .int (s 22), .ref 69, .ref 70, .ref 71, .ref 72, .ref 73, .ref 74, .ref 75, .ref 76, .ref 77, .ref 78, .ref 79, .ref 80, .ref 81, .ref 82, .ref 83, .int (s 38)]
def mkd (j : Nat) : Nat := if j = 15 ∨ j = 18 ∨ j = 24 then 1 else 0
def mln (j : Nat) : Nat := match j with
  | 1 => 60
  | 2 => 60
  | 3 => 60
  | 4 => 60
  | 5 => 1344
  | 6 => 14
  | 7 => 14
  | 8 => 14
  | 9 => 96
  | 10 => 96
  | 11 => 96
  | 12 => 4
  | 13 => 4
  | 14 => 96
  | 15 => 96
  | 16 => 12
  | 17 => 24
  | 18 => 24
  | 19 => 5
  | 20 => 5
  | 21 => 5
  | 22 => 5
  | 23 => 120
  | 24 => 120
  | 25 => 60
  | _ => 0
def mh (a : Nat → Nat → Int32) (s : Nat → Int32) (w : Int64) (H : xh) : xh := (H.1, H.2.1, fun q => if q = 58 then .inr (.inr (6, moF s w)) else if 58 < q ∧ q < 84 then .inl (mkd (q - 58), mln (q - 58), a (q - 58)) else H.2.2.1 q, H.2.2.2)
theorem mh_set {a : Nat → Nat → Int32} {s : Nat → Int32} {w : Int64} {H : xh} {j kd n : Nat} (hj : 0 < j ∧ j < 26) (hk : mkd j = kd) (hn : mln j = n) (f : Nat → Int32) : hset (mh a s w H) (58 + j) (.inl (kd, n, f)) = mh (va_up a j f) s w H := by
  subst hk; subst hn
  unfold hset mh
  congr 3
  funext q
  dsimp only
  unfold va_up
  by_cases hq : q = 58 + j
  · subst hq
    rw [if_pos rfl, if_neg (by omega), if_pos (by omega), show 58 + j - 58 = j by omega, if_pos rfl]
  · rw [if_neg hq]
    dsimp only
    by_cases h1 : q = 58
    · rw [if_pos h1, if_pos h1]
    · rw [if_neg h1, if_neg h1]
      by_cases h2 : 58 < q ∧ q < 84
      · rw [if_pos h2, if_pos h2, if_neg (by omega)]
      · rw [if_neg h2, if_neg h2]
theorem mh_obj {a : Nat → Nat → Int32} {s s' : Nat → Int32} {w w' : Int64} {H : xh} : hset (mh a s w H) 58 (.inr (.inr (6, moF s' w'))) = mh a s' w' H := by
  unfold hset mh
  congr 3
  funext q
  dsimp only
  unfold va_up
  by_cases h1 : q = 58
  · rw [if_pos h1, if_pos h1]
  · rw [if_neg h1]
    dsimp only
    rw [if_neg h1, if_neg h1]
section MOD
variable {a : Nat → Nat → Int32} {s : Nat → Int32} {w : Int64} {H : xh}
theorem Mg_0 : hgf (mh a s w H) (.ref 58) 6 0 = some (.ref 59) := rfl
theorem Mg_1 : hgf (mh a s w H) (.ref 58) 6 1 = some (.ref 60) := rfl
theorem Mg_2 : hgf (mh a s w H) (.ref 58) 6 2 = some (.ref 61) := rfl
theorem Mg_3 : hgf (mh a s w H) (.ref 58) 6 3 = some (.ref 62) := rfl
theorem Mg_4 : hgf (mh a s w H) (.ref 58) 6 4 = some (.int (s 4)) := rfl
theorem Mg_5 : hgf (mh a s w H) (.ref 58) 6 5 = some (.ref 63) := rfl
theorem Mg_6 : hgf (mh a s w H) (.ref 58) 6 6 = some (.ref 64) := rfl
theorem Mg_7 : hgf (mh a s w H) (.ref 58) 6 7 = some (.ref 65) := rfl
theorem Mg_8 : hgf (mh a s w H) (.ref 58) 6 8 = some (.ref 66) := rfl
theorem Mg_9 : hgf (mh a s w H) (.ref 58) 6 9 = some (.ref 67) := rfl
theorem Mg_10 : hgf (mh a s w H) (.ref 58) 6 10 = some (.ref 68) := rfl
theorem Mg_11 : hgf (mh a s w H) (.ref 58) 6 11 = some (.int (s 11)) := rfl
theorem Mg_12 : hgf (mh a s w H) (.ref 58) 6 12 = some (.int (s 12)) := rfl
theorem Mg_13 : hgf (mh a s w H) (.ref 58) 6 13 = some (.int (s 13)) := rfl
theorem Mg_14 : hgf (mh a s w H) (.ref 58) 6 14 = some (.int (s 14)) := rfl
theorem Mg_15 : hgf (mh a s w H) (.ref 58) 6 15 = some (.long w) := rfl
theorem Mg_16 : hgf (mh a s w H) (.ref 58) 6 16 = some (.int (s 16)) := rfl
theorem Mg_17 : hgf (mh a s w H) (.ref 58) 6 17 = some (.int (s 17)) := rfl
theorem Mg_18 : hgf (mh a s w H) (.ref 58) 6 18 = some (.int (s 18)) := rfl
theorem Mg_19 : hgf (mh a s w H) (.ref 58) 6 19 = some (.int (s 19)) := rfl
theorem Mg_20 : hgf (mh a s w H) (.ref 58) 6 20 = some (.int (s 20)) := rfl
theorem Mg_21 : hgf (mh a s w H) (.ref 58) 6 21 = some (.int (s 21)) := rfl
theorem Mg_22 : hgf (mh a s w H) (.ref 58) 6 22 = some (.int (s 22)) := rfl
theorem Mg_23 : hgf (mh a s w H) (.ref 58) 6 23 = some (.ref 69) := rfl
theorem Mg_24 : hgf (mh a s w H) (.ref 58) 6 24 = some (.ref 70) := rfl
theorem Mg_25 : hgf (mh a s w H) (.ref 58) 6 25 = some (.ref 71) := rfl
theorem Mg_26 : hgf (mh a s w H) (.ref 58) 6 26 = some (.ref 72) := rfl
theorem Mg_27 : hgf (mh a s w H) (.ref 58) 6 27 = some (.ref 73) := rfl
theorem Mg_28 : hgf (mh a s w H) (.ref 58) 6 28 = some (.ref 74) := rfl
theorem Mg_29 : hgf (mh a s w H) (.ref 58) 6 29 = some (.ref 75) := rfl
theorem Mg_30 : hgf (mh a s w H) (.ref 58) 6 30 = some (.ref 76) := rfl
theorem Mg_31 : hgf (mh a s w H) (.ref 58) 6 31 = some (.ref 77) := rfl
theorem Mg_32 : hgf (mh a s w H) (.ref 58) 6 32 = some (.ref 78) := rfl
theorem Mg_33 : hgf (mh a s w H) (.ref 58) 6 33 = some (.ref 79) := rfl
theorem Mg_34 : hgf (mh a s w H) (.ref 58) 6 34 = some (.ref 80) := rfl
theorem Mg_35 : hgf (mh a s w H) (.ref 58) 6 35 = some (.ref 81) := rfl
theorem Mg_36 : hgf (mh a s w H) (.ref 58) 6 36 = some (.ref 82) := rfl
theorem Mg_37 : hgf (mh a s w H) (.ref 58) 6 37 = some (.ref 83) := rfl
theorem Mg_38 : hgf (mh a s w H) (.ref 58) 6 38 = some (.int (s 38)) := rfl
theorem Mcls : xcls (mh a s w H) (.ref 58) = 6 := rfl
theorem mh_fld {s' : Nat → Int32} {w' : Int64} {k : Nat} {v : Value} (hk : k < 39) (he : (moF s w).set k v = moF s' w') : hpf (mh a s w H) (.ref 58) 6 k v = some (mh a s' w' H) := by
  show (if k < 39 then some (hset (mh a s w H) 58 (.inr (.inr (6, (moF s w).set k v)))) else none) = _
  rw [if_pos hk, he, mh_obj]
theorem Mp_4 (x : Int32) : hpf (mh a s w H) (.ref 58) 6 4 (.int x) = some (mh a (upd s 4 x) w H) := mh_fld (by decide) rfl
theorem Mp_11 (x : Int32) : hpf (mh a s w H) (.ref 58) 6 11 (.int x) = some (mh a (upd s 11 x) w H) := mh_fld (by decide) rfl
theorem Mp_12 (x : Int32) : hpf (mh a s w H) (.ref 58) 6 12 (.int x) = some (mh a (upd s 12 x) w H) := mh_fld (by decide) rfl
theorem Mp_13 (x : Int32) : hpf (mh a s w H) (.ref 58) 6 13 (.int x) = some (mh a (upd s 13 x) w H) := mh_fld (by decide) rfl
theorem Mp_14 (x : Int32) : hpf (mh a s w H) (.ref 58) 6 14 (.int x) = some (mh a (upd s 14 x) w H) := mh_fld (by decide) rfl
theorem Mp_15 (x : Int64) : hpf (mh a s w H) (.ref 58) 6 15 (.long x) = some (mh a s x H) := mh_fld (by decide) rfl
theorem Mp_16 (x : Int32) : hpf (mh a s w H) (.ref 58) 6 16 (.int x) = some (mh a (upd s 16 x) w H) := mh_fld (by decide) rfl
theorem Mp_17 (x : Int32) : hpf (mh a s w H) (.ref 58) 6 17 (.int x) = some (mh a (upd s 17 x) w H) := mh_fld (by decide) rfl
theorem Mp_18 (x : Int32) : hpf (mh a s w H) (.ref 58) 6 18 (.int x) = some (mh a (upd s 18 x) w H) := mh_fld (by decide) rfl
theorem Mp_19 (x : Int32) : hpf (mh a s w H) (.ref 58) 6 19 (.int x) = some (mh a (upd s 19 x) w H) := mh_fld (by decide) rfl
theorem Mp_20 (x : Int32) : hpf (mh a s w H) (.ref 58) 6 20 (.int x) = some (mh a (upd s 20 x) w H) := mh_fld (by decide) rfl
theorem Mp_21 (x : Int32) : hpf (mh a s w H) (.ref 58) 6 21 (.int x) = some (mh a (upd s 21 x) w H) := mh_fld (by decide) rfl
theorem Mp_22 (x : Int32) : hpf (mh a s w H) (.ref 58) 6 22 (.int x) = some (mh a (upd s 22 x) w H) := mh_fld (by decide) rfl
theorem Mp_38 (x : Int32) : hpf (mh a s w H) (.ref 58) 6 38 (.int x) = some (mh a (upd s 38 x) w H) := mh_fld (by decide) rfl
theorem Mr_1 (i : Int32) : hrd (mh a s w H) (.ref 59) 0 i = (xix i 60).map (a 1) := by
  show (match xix i 60 with | some j => some (a 1 j) | none => none) = _
  cases xix i 60 <;> rfl
theorem Mw_1 (i x : Int32) : hwr (mh a s w H) (.ref 59) 0 i x = (xix i 60).map (fun t => mh (va_up a 1 (upd (a 1) t x)) s w H) := by
  show (match xix i 60 with | some j => some (hset (mh a s w H) 59 (.inl (0, 60, upd (a 1) j x))) | none => none) = _
  cases xix i 60 with
  | none => rfl
  | some t => exact congrArg some (mh_set (j := 1) (by decide) rfl rfl _)
theorem Mr_2 (i : Int32) : hrd (mh a s w H) (.ref 60) 0 i = (xix i 60).map (a 2) := by
  show (match xix i 60 with | some j => some (a 2 j) | none => none) = _
  cases xix i 60 <;> rfl
theorem Mw_2 (i x : Int32) : hwr (mh a s w H) (.ref 60) 0 i x = (xix i 60).map (fun t => mh (va_up a 2 (upd (a 2) t x)) s w H) := by
  show (match xix i 60 with | some j => some (hset (mh a s w H) 60 (.inl (0, 60, upd (a 2) j x))) | none => none) = _
  cases xix i 60 with
  | none => rfl
  | some t => exact congrArg some (mh_set (j := 2) (by decide) rfl rfl _)
theorem Mr_3 (i : Int32) : hrd (mh a s w H) (.ref 61) 0 i = (xix i 60).map (a 3) := by
  show (match xix i 60 with | some j => some (a 3 j) | none => none) = _
  cases xix i 60 <;> rfl
theorem Mw_3 (i x : Int32) : hwr (mh a s w H) (.ref 61) 0 i x = (xix i 60).map (fun t => mh (va_up a 3 (upd (a 3) t x)) s w H) := by
  show (match xix i 60 with | some j => some (hset (mh a s w H) 61 (.inl (0, 60, upd (a 3) j x))) | none => none) = _
  cases xix i 60 with
  | none => rfl
  | some t => exact congrArg some (mh_set (j := 3) (by decide) rfl rfl _)
theorem Mr_4 (i : Int32) : hrd (mh a s w H) (.ref 62) 0 i = (xix i 60).map (a 4) := by
  show (match xix i 60 with | some j => some (a 4 j) | none => none) = _
  cases xix i 60 <;> rfl
theorem Mw_4 (i x : Int32) : hwr (mh a s w H) (.ref 62) 0 i x = (xix i 60).map (fun t => mh (va_up a 4 (upd (a 4) t x)) s w H) := by
  show (match xix i 60 with | some j => some (hset (mh a s w H) 62 (.inl (0, 60, upd (a 4) j x))) | none => none) = _
  cases xix i 60 with
  | none => rfl
  | some t => exact congrArg some (mh_set (j := 4) (by decide) rfl rfl _)
theorem Mr_5 (i : Int32) : hrd (mh a s w H) (.ref 63) 0 i = (xix i 1344).map (a 5) := by
  show (match xix i 1344 with | some j => some (a 5 j) | none => none) = _
  cases xix i 1344 <;> rfl
theorem Mw_5 (i x : Int32) : hwr (mh a s w H) (.ref 63) 0 i x = (xix i 1344).map (fun t => mh (va_up a 5 (upd (a 5) t x)) s w H) := by
  show (match xix i 1344 with | some j => some (hset (mh a s w H) 63 (.inl (0, 1344, upd (a 5) j x))) | none => none) = _
  cases xix i 1344 with
  | none => rfl
  | some t => exact congrArg some (mh_set (j := 5) (by decide) rfl rfl _)
theorem Mr_6 (i : Int32) : hrd (mh a s w H) (.ref 64) 0 i = (xix i 14).map (a 6) := by
  show (match xix i 14 with | some j => some (a 6 j) | none => none) = _
  cases xix i 14 <;> rfl
theorem Mw_6 (i x : Int32) : hwr (mh a s w H) (.ref 64) 0 i x = (xix i 14).map (fun t => mh (va_up a 6 (upd (a 6) t x)) s w H) := by
  show (match xix i 14 with | some j => some (hset (mh a s w H) 64 (.inl (0, 14, upd (a 6) j x))) | none => none) = _
  cases xix i 14 with
  | none => rfl
  | some t => exact congrArg some (mh_set (j := 6) (by decide) rfl rfl _)
theorem Mr_7 (i : Int32) : hrd (mh a s w H) (.ref 65) 0 i = (xix i 14).map (a 7) := by
  show (match xix i 14 with | some j => some (a 7 j) | none => none) = _
  cases xix i 14 <;> rfl
theorem Mw_7 (i x : Int32) : hwr (mh a s w H) (.ref 65) 0 i x = (xix i 14).map (fun t => mh (va_up a 7 (upd (a 7) t x)) s w H) := by
  show (match xix i 14 with | some j => some (hset (mh a s w H) 65 (.inl (0, 14, upd (a 7) j x))) | none => none) = _
  cases xix i 14 with
  | none => rfl
  | some t => exact congrArg some (mh_set (j := 7) (by decide) rfl rfl _)
theorem Mr_8 (i : Int32) : hrd (mh a s w H) (.ref 66) 0 i = (xix i 14).map (a 8) := by
  show (match xix i 14 with | some j => some (a 8 j) | none => none) = _
  cases xix i 14 <;> rfl
theorem Mw_8 (i x : Int32) : hwr (mh a s w H) (.ref 66) 0 i x = (xix i 14).map (fun t => mh (va_up a 8 (upd (a 8) t x)) s w H) := by
  show (match xix i 14 with | some j => some (hset (mh a s w H) 66 (.inl (0, 14, upd (a 8) j x))) | none => none) = _
  cases xix i 14 with
  | none => rfl
  | some t => exact congrArg some (mh_set (j := 8) (by decide) rfl rfl _)
theorem Mr_9 (i : Int32) : hrd (mh a s w H) (.ref 67) 0 i = (xix i 96).map (a 9) := by
  show (match xix i 96 with | some j => some (a 9 j) | none => none) = _
  cases xix i 96 <;> rfl
theorem Mw_9 (i x : Int32) : hwr (mh a s w H) (.ref 67) 0 i x = (xix i 96).map (fun t => mh (va_up a 9 (upd (a 9) t x)) s w H) := by
  show (match xix i 96 with | some j => some (hset (mh a s w H) 67 (.inl (0, 96, upd (a 9) j x))) | none => none) = _
  cases xix i 96 with
  | none => rfl
  | some t => exact congrArg some (mh_set (j := 9) (by decide) rfl rfl _)
theorem Mr_10 (i : Int32) : hrd (mh a s w H) (.ref 68) 0 i = (xix i 96).map (a 10) := by
  show (match xix i 96 with | some j => some (a 10 j) | none => none) = _
  cases xix i 96 <;> rfl
theorem Mw_10 (i x : Int32) : hwr (mh a s w H) (.ref 68) 0 i x = (xix i 96).map (fun t => mh (va_up a 10 (upd (a 10) t x)) s w H) := by
  show (match xix i 96 with | some j => some (hset (mh a s w H) 68 (.inl (0, 96, upd (a 10) j x))) | none => none) = _
  cases xix i 96 with
  | none => rfl
  | some t => exact congrArg some (mh_set (j := 10) (by decide) rfl rfl _)
theorem Mr_11 (i : Int32) : hrd (mh a s w H) (.ref 69) 0 i = (xix i 96).map (a 11) := by
  show (match xix i 96 with | some j => some (a 11 j) | none => none) = _
  cases xix i 96 <;> rfl
theorem Mw_11 (i x : Int32) : hwr (mh a s w H) (.ref 69) 0 i x = (xix i 96).map (fun t => mh (va_up a 11 (upd (a 11) t x)) s w H) := by
  show (match xix i 96 with | some j => some (hset (mh a s w H) 69 (.inl (0, 96, upd (a 11) j x))) | none => none) = _
  cases xix i 96 with
  | none => rfl
  | some t => exact congrArg some (mh_set (j := 11) (by decide) rfl rfl _)
theorem Mr_12 (i : Int32) : hrd (mh a s w H) (.ref 70) 0 i = (xix i 4).map (a 12) := by
  show (match xix i 4 with | some j => some (a 12 j) | none => none) = _
  cases xix i 4 <;> rfl
theorem Mw_12 (i x : Int32) : hwr (mh a s w H) (.ref 70) 0 i x = (xix i 4).map (fun t => mh (va_up a 12 (upd (a 12) t x)) s w H) := by
  show (match xix i 4 with | some j => some (hset (mh a s w H) 70 (.inl (0, 4, upd (a 12) j x))) | none => none) = _
  cases xix i 4 with
  | none => rfl
  | some t => exact congrArg some (mh_set (j := 12) (by decide) rfl rfl _)
theorem Mr_13 (i : Int32) : hrd (mh a s w H) (.ref 71) 0 i = (xix i 4).map (a 13) := by
  show (match xix i 4 with | some j => some (a 13 j) | none => none) = _
  cases xix i 4 <;> rfl
theorem Mw_13 (i x : Int32) : hwr (mh a s w H) (.ref 71) 0 i x = (xix i 4).map (fun t => mh (va_up a 13 (upd (a 13) t x)) s w H) := by
  show (match xix i 4 with | some j => some (hset (mh a s w H) 71 (.inl (0, 4, upd (a 13) j x))) | none => none) = _
  cases xix i 4 with
  | none => rfl
  | some t => exact congrArg some (mh_set (j := 13) (by decide) rfl rfl _)
theorem Mr_14 (i : Int32) : hrd (mh a s w H) (.ref 72) 0 i = (xix i 96).map (a 14) := by
  show (match xix i 96 with | some j => some (a 14 j) | none => none) = _
  cases xix i 96 <;> rfl
theorem Mw_14 (i x : Int32) : hwr (mh a s w H) (.ref 72) 0 i x = (xix i 96).map (fun t => mh (va_up a 14 (upd (a 14) t x)) s w H) := by
  show (match xix i 96 with | some j => some (hset (mh a s w H) 72 (.inl (0, 96, upd (a 14) j x))) | none => none) = _
  cases xix i 96 with
  | none => rfl
  | some t => exact congrArg some (mh_set (j := 14) (by decide) rfl rfl _)
theorem Mr_15 (i : Int32) : hrd (mh a s w H) (.ref 73) 1 i = (xix i 96).map (a 15) := by
  show (match xix i 96 with | some j => some (a 15 j) | none => none) = _
  cases xix i 96 <;> rfl
theorem Mw_15 (i x : Int32) : hwr (mh a s w H) (.ref 73) 1 i x = (xix i 96).map (fun t => mh (va_up a 15 (upd (a 15) t x)) s w H) := by
  show (match xix i 96 with | some j => some (hset (mh a s w H) 73 (.inl (1, 96, upd (a 15) j x))) | none => none) = _
  cases xix i 96 with
  | none => rfl
  | some t => exact congrArg some (mh_set (j := 15) (by decide) rfl rfl _)
theorem Mr_16 (i : Int32) : hrd (mh a s w H) (.ref 74) 0 i = (xix i 12).map (a 16) := by
  show (match xix i 12 with | some j => some (a 16 j) | none => none) = _
  cases xix i 12 <;> rfl
theorem Mw_16 (i x : Int32) : hwr (mh a s w H) (.ref 74) 0 i x = (xix i 12).map (fun t => mh (va_up a 16 (upd (a 16) t x)) s w H) := by
  show (match xix i 12 with | some j => some (hset (mh a s w H) 74 (.inl (0, 12, upd (a 16) j x))) | none => none) = _
  cases xix i 12 with
  | none => rfl
  | some t => exact congrArg some (mh_set (j := 16) (by decide) rfl rfl _)
theorem Mr_17 (i : Int32) : hrd (mh a s w H) (.ref 75) 0 i = (xix i 24).map (a 17) := by
  show (match xix i 24 with | some j => some (a 17 j) | none => none) = _
  cases xix i 24 <;> rfl
theorem Mw_17 (i x : Int32) : hwr (mh a s w H) (.ref 75) 0 i x = (xix i 24).map (fun t => mh (va_up a 17 (upd (a 17) t x)) s w H) := by
  show (match xix i 24 with | some j => some (hset (mh a s w H) 75 (.inl (0, 24, upd (a 17) j x))) | none => none) = _
  cases xix i 24 with
  | none => rfl
  | some t => exact congrArg some (mh_set (j := 17) (by decide) rfl rfl _)
theorem Mr_18 (i : Int32) : hrd (mh a s w H) (.ref 76) 1 i = (xix i 24).map (a 18) := by
  show (match xix i 24 with | some j => some (a 18 j) | none => none) = _
  cases xix i 24 <;> rfl
theorem Mw_18 (i x : Int32) : hwr (mh a s w H) (.ref 76) 1 i x = (xix i 24).map (fun t => mh (va_up a 18 (upd (a 18) t x)) s w H) := by
  show (match xix i 24 with | some j => some (hset (mh a s w H) 76 (.inl (1, 24, upd (a 18) j x))) | none => none) = _
  cases xix i 24 with
  | none => rfl
  | some t => exact congrArg some (mh_set (j := 18) (by decide) rfl rfl _)
theorem Mr_19 (i : Int32) : hrd (mh a s w H) (.ref 77) 0 i = (xix i 5).map (a 19) := by
  show (match xix i 5 with | some j => some (a 19 j) | none => none) = _
  cases xix i 5 <;> rfl
theorem Mw_19 (i x : Int32) : hwr (mh a s w H) (.ref 77) 0 i x = (xix i 5).map (fun t => mh (va_up a 19 (upd (a 19) t x)) s w H) := by
  show (match xix i 5 with | some j => some (hset (mh a s w H) 77 (.inl (0, 5, upd (a 19) j x))) | none => none) = _
  cases xix i 5 with
  | none => rfl
  | some t => exact congrArg some (mh_set (j := 19) (by decide) rfl rfl _)
theorem Mr_20 (i : Int32) : hrd (mh a s w H) (.ref 78) 0 i = (xix i 5).map (a 20) := by
  show (match xix i 5 with | some j => some (a 20 j) | none => none) = _
  cases xix i 5 <;> rfl
theorem Mw_20 (i x : Int32) : hwr (mh a s w H) (.ref 78) 0 i x = (xix i 5).map (fun t => mh (va_up a 20 (upd (a 20) t x)) s w H) := by
  show (match xix i 5 with | some j => some (hset (mh a s w H) 78 (.inl (0, 5, upd (a 20) j x))) | none => none) = _
  cases xix i 5 with
  | none => rfl
  | some t => exact congrArg some (mh_set (j := 20) (by decide) rfl rfl _)
theorem Mr_21 (i : Int32) : hrd (mh a s w H) (.ref 79) 0 i = (xix i 5).map (a 21) := by
  show (match xix i 5 with | some j => some (a 21 j) | none => none) = _
  cases xix i 5 <;> rfl
theorem Mw_21 (i x : Int32) : hwr (mh a s w H) (.ref 79) 0 i x = (xix i 5).map (fun t => mh (va_up a 21 (upd (a 21) t x)) s w H) := by
  show (match xix i 5 with | some j => some (hset (mh a s w H) 79 (.inl (0, 5, upd (a 21) j x))) | none => none) = _
  cases xix i 5 with
  | none => rfl
  | some t => exact congrArg some (mh_set (j := 21) (by decide) rfl rfl _)
theorem Mr_22 (i : Int32) : hrd (mh a s w H) (.ref 80) 0 i = (xix i 5).map (a 22) := by
  show (match xix i 5 with | some j => some (a 22 j) | none => none) = _
  cases xix i 5 <;> rfl
theorem Mw_22 (i x : Int32) : hwr (mh a s w H) (.ref 80) 0 i x = (xix i 5).map (fun t => mh (va_up a 22 (upd (a 22) t x)) s w H) := by
  show (match xix i 5 with | some j => some (hset (mh a s w H) 80 (.inl (0, 5, upd (a 22) j x))) | none => none) = _
  cases xix i 5 with
  | none => rfl
  | some t => exact congrArg some (mh_set (j := 22) (by decide) rfl rfl _)
theorem Mr_23 (i : Int32) : hrd (mh a s w H) (.ref 81) 0 i = (xix i 120).map (a 23) := by
  show (match xix i 120 with | some j => some (a 23 j) | none => none) = _
  cases xix i 120 <;> rfl
theorem Mw_23 (i x : Int32) : hwr (mh a s w H) (.ref 81) 0 i x = (xix i 120).map (fun t => mh (va_up a 23 (upd (a 23) t x)) s w H) := by
  show (match xix i 120 with | some j => some (hset (mh a s w H) 81 (.inl (0, 120, upd (a 23) j x))) | none => none) = _
  cases xix i 120 with
  | none => rfl
  | some t => exact congrArg some (mh_set (j := 23) (by decide) rfl rfl _)
theorem Mr_24 (i : Int32) : hrd (mh a s w H) (.ref 82) 1 i = (xix i 120).map (a 24) := by
  show (match xix i 120 with | some j => some (a 24 j) | none => none) = _
  cases xix i 120 <;> rfl
theorem Mw_24 (i x : Int32) : hwr (mh a s w H) (.ref 82) 1 i x = (xix i 120).map (fun t => mh (va_up a 24 (upd (a 24) t x)) s w H) := by
  show (match xix i 120 with | some j => some (hset (mh a s w H) 82 (.inl (1, 120, upd (a 24) j x))) | none => none) = _
  cases xix i 120 with
  | none => rfl
  | some t => exact congrArg some (mh_set (j := 24) (by decide) rfl rfl _)
theorem Mr_25 (i : Int32) : hrd (mh a s w H) (.ref 83) 0 i = (xix i 60).map (a 25) := by
  show (match xix i 60 with | some j => some (a 25 j) | none => none) = _
  cases xix i 60 <;> rfl
theorem Mw_25 (i x : Int32) : hwr (mh a s w H) (.ref 83) 0 i x = (xix i 60).map (fun t => mh (va_up a 25 (upd (a 25) t x)) s w H) := by
  show (match xix i 60 with | some j => some (hset (mh a s w H) 83 (.inl (0, 60, upd (a 25) j x))) | none => none) = _
  cases xix i 60 with
  | none => rfl
  | some t => exact congrArg some (mh_set (j := 25) (by decide) rfl rfl _)
theorem mh_n : (mh a s w H).1 = H.1 := rfl
end MOD
