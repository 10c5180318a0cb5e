/-! part 37, by program (wip/whole/gen/gen_pm.py): the reference's cells while it reads -/
def ms (s : Nat → Int32) (pa be to co wo ke op no wr bw : Int32) : Nat → Int32 := fun q => if q = 12 then pa else if q = 13 then be else if q = 14 then to else if q = 16 then co else if q = 17 then wo else if q = 18 then ke else if q = 19 then op else if q = 20 then no else if q = 21 then wr else if q = 22 then bw else s q
def pm (a : Nat → Nat → Int32) (s : Nat → Int32) (C : Nat → Int32) (pa be to co wo ke op no wr bw : Int32) (w : Int64) (H : xh) : xh := mh (va_up a 11 C) (ms s pa be to co wo ke op no wr bw) w H
section PM
variable {a : Nat → Nat → Int32} {s C : Nat → Int32} {pa be to co wo ke op no wr bw : Int32} {w : Int64} {H : xh}
theorem ms_12 (x : Int32) : upd (ms s pa be to co wo ke op no wr bw) 12 x = ms s x be to co wo ke op no wr bw := by
  funext q
  by_cases h : q = 12
  · subst h; rw [up_s]; rfl
  · rw [up_n _ _ h]; unfold ms; simp only [h, if_false]
theorem Pg_12 : hgf (pm a s C pa be to co wo ke op no wr bw w H) (.ref 58) 6 12 = some (.int pa) := (rfl)
theorem Pp_12 (x : Int32) : hpf (pm a s C pa be to co wo ke op no wr bw w H) (.ref 58) 6 12 (.int x) = some (pm a s C x be to co wo ke op no wr bw w H) := by unfold pm; rw [Mp_12, ms_12]
theorem ms_13 (x : Int32) : upd (ms s pa be to co wo ke op no wr bw) 13 x = ms s pa x to co wo ke op no wr bw := by
  funext q
  by_cases h : q = 13
  · subst h; rw [up_s]; rfl
  · rw [up_n _ _ h]; unfold ms; simp only [h, if_false]
theorem Pg_13 : hgf (pm a s C pa be to co wo ke op no wr bw w H) (.ref 58) 6 13 = some (.int be) := (rfl)
theorem Pp_13 (x : Int32) : hpf (pm a s C pa be to co wo ke op no wr bw w H) (.ref 58) 6 13 (.int x) = some (pm a s C pa x to co wo ke op no wr bw w H) := by unfold pm; rw [Mp_13, ms_13]
theorem ms_14 (x : Int32) : upd (ms s pa be to co wo ke op no wr bw) 14 x = ms s pa be x co wo ke op no wr bw := by
  funext q
  by_cases h : q = 14
  · subst h; rw [up_s]; rfl
  · rw [up_n _ _ h]; unfold ms; simp only [h, if_false]
theorem Pg_14 : hgf (pm a s C pa be to co wo ke op no wr bw w H) (.ref 58) 6 14 = some (.int to) := (rfl)
theorem Pp_14 (x : Int32) : hpf (pm a s C pa be to co wo ke op no wr bw w H) (.ref 58) 6 14 (.int x) = some (pm a s C pa be x co wo ke op no wr bw w H) := by unfold pm; rw [Mp_14, ms_14]
theorem ms_16 (x : Int32) : upd (ms s pa be to co wo ke op no wr bw) 16 x = ms s pa be to x wo ke op no wr bw := by
  funext q
  by_cases h : q = 16
  · subst h; rw [up_s]; rfl
  · rw [up_n _ _ h]; unfold ms; simp only [h, if_false]
theorem Pg_16 : hgf (pm a s C pa be to co wo ke op no wr bw w H) (.ref 58) 6 16 = some (.int co) := (rfl)
theorem Pp_16 (x : Int32) : hpf (pm a s C pa be to co wo ke op no wr bw w H) (.ref 58) 6 16 (.int x) = some (pm a s C pa be to x wo ke op no wr bw w H) := by unfold pm; rw [Mp_16, ms_16]
theorem ms_17 (x : Int32) : upd (ms s pa be to co wo ke op no wr bw) 17 x = ms s pa be to co x ke op no wr bw := by
  funext q
  by_cases h : q = 17
  · subst h; rw [up_s]; rfl
  · rw [up_n _ _ h]; unfold ms; simp only [h, if_false]
theorem Pg_17 : hgf (pm a s C pa be to co wo ke op no wr bw w H) (.ref 58) 6 17 = some (.int wo) := (rfl)
theorem Pp_17 (x : Int32) : hpf (pm a s C pa be to co wo ke op no wr bw w H) (.ref 58) 6 17 (.int x) = some (pm a s C pa be to co x ke op no wr bw w H) := by unfold pm; rw [Mp_17, ms_17]
theorem ms_18 (x : Int32) : upd (ms s pa be to co wo ke op no wr bw) 18 x = ms s pa be to co wo x op no wr bw := by
  funext q
  by_cases h : q = 18
  · subst h; rw [up_s]; rfl
  · rw [up_n _ _ h]; unfold ms; simp only [h, if_false]
theorem Pg_18 : hgf (pm a s C pa be to co wo ke op no wr bw w H) (.ref 58) 6 18 = some (.int ke) := (rfl)
theorem Pp_18 (x : Int32) : hpf (pm a s C pa be to co wo ke op no wr bw w H) (.ref 58) 6 18 (.int x) = some (pm a s C pa be to co wo x op no wr bw w H) := by unfold pm; rw [Mp_18, ms_18]
theorem ms_19 (x : Int32) : upd (ms s pa be to co wo ke op no wr bw) 19 x = ms s pa be to co wo ke x no wr bw := by
  funext q
  by_cases h : q = 19
  · subst h; rw [up_s]; rfl
  · rw [up_n _ _ h]; unfold ms; simp only [h, if_false]
theorem Pg_19 : hgf (pm a s C pa be to co wo ke op no wr bw w H) (.ref 58) 6 19 = some (.int op) := (rfl)
theorem Pp_19 (x : Int32) : hpf (pm a s C pa be to co wo ke op no wr bw w H) (.ref 58) 6 19 (.int x) = some (pm a s C pa be to co wo ke x no wr bw w H) := by unfold pm; rw [Mp_19, ms_19]
theorem ms_20 (x : Int32) : upd (ms s pa be to co wo ke op no wr bw) 20 x = ms s pa be to co wo ke op x wr bw := by
  funext q
  by_cases h : q = 20
  · subst h; rw [up_s]; rfl
  · rw [up_n _ _ h]; unfold ms; simp only [h, if_false]
theorem Pg_20 : hgf (pm a s C pa be to co wo ke op no wr bw w H) (.ref 58) 6 20 = some (.int no) := (rfl)
theorem Pp_20 (x : Int32) : hpf (pm a s C pa be to co wo ke op no wr bw w H) (.ref 58) 6 20 (.int x) = some (pm a s C pa be to co wo ke op x wr bw w H) := by unfold pm; rw [Mp_20, ms_20]
theorem ms_21 (x : Int32) : upd (ms s pa be to co wo ke op no wr bw) 21 x = ms s pa be to co wo ke op no x bw := by
  funext q
  by_cases h : q = 21
  · subst h; rw [up_s]; rfl
  · rw [up_n _ _ h]; unfold ms; simp only [h, if_false]
theorem Pg_21 : hgf (pm a s C pa be to co wo ke op no wr bw w H) (.ref 58) 6 21 = some (.int wr) := (rfl)
theorem Pp_21 (x : Int32) : hpf (pm a s C pa be to co wo ke op no wr bw w H) (.ref 58) 6 21 (.int x) = some (pm a s C pa be to co wo ke op no x bw w H) := by unfold pm; rw [Mp_21, ms_21]
theorem ms_22 (x : Int32) : upd (ms s pa be to co wo ke op no wr bw) 22 x = ms s pa be to co wo ke op no wr x := by
  funext q
  by_cases h : q = 22
  · subst h; rw [up_s]; rfl
  · rw [up_n _ _ h]; unfold ms; simp only [h, if_false]
theorem Pg_22 : hgf (pm a s C pa be to co wo ke op no wr bw w H) (.ref 58) 6 22 = some (.int bw) := (rfl)
theorem Pp_22 (x : Int32) : hpf (pm a s C pa be to co wo ke op no wr bw w H) (.ref 58) 6 22 (.int x) = some (pm a s C pa be to co wo ke op no wr x w H) := by unfold pm; rw [Mp_22, ms_22]
theorem Pg_15 : hgf (pm a s C pa be to co wo ke op no wr bw w H) (.ref 58) 6 15 = some (.long w) := (rfl)
theorem Pp_15 (x : Int64) : hpf (pm a s C pa be to co wo ke op no wr bw w H) (.ref 58) 6 15 (.long x) = some (pm a s C pa be to co wo ke op no wr bw x H) := by unfold pm; rw [Mp_15]
theorem Pg_11 : hgf (pm a s C pa be to co wo ke op no wr bw w H) (.ref 58) 6 11 = some (.int (s 11)) := (rfl)
theorem Pg_10 : hgf (pm a s C pa be to co wo ke op no wr bw w H) (.ref 58) 6 10 = some (.ref 68) := (rfl)
theorem Pg_23 : hgf (pm a s C pa be to co wo ke op no wr bw w H) (.ref 58) 6 23 = some (.ref 69) := (rfl)
theorem Pcls : (xcls (pm a s C pa be to co wo ke op no wr bw w H) (.ref 58) = 6) = True := eq_true rfl
theorem Pr_10 (i : Int32) : hrd (pm a s C pa be to co wo ke op no wr bw w H) (.ref 68) 0 i = (xix i 96).map (a 10) := by unfold pm; rw [Mr_10, vu_n _ _ (by decide)]
theorem Pw_11 (i x : Int32) : hwr (pm a s C pa be to co wo ke op no wr bw w H) (.ref 69) 0 i x = (xix i 96).map (fun t => pm a s (upd C t x) pa be to co wo ke op no wr bw w H) := by
  unfold pm
  rw [Mw_11, vu_s]
  simp only [vu_u]
end PM
