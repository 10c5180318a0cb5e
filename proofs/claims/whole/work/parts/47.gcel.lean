/-! part 47, by program (wip/whole/gen/gen_g.py): the rivers' cells in the whole heap -/
section GCEL
variable {δ ε ζ : Nat → Int32} {τ1 τ2 τ3 : xt} {κ : Nat → Nat → Int32} {n : Nat} {l : lk} {ke op sz : Int32} {B S : Nat → Int32} {b : Nat → Nat → Int32} {H : xh}
theorem N_cls : (xcls (cG δ τ1 ε τ2 ζ τ3 κ n l ke op sz B S b H) (.ref 1) = 0) = True := by rw [cG_1]; exact Rcls (by decide)
theorem N_g0 : hgf (cG δ τ1 ε τ2 ζ τ3 κ n l ke op sz B S b H) (.ref 1) 0 0 = some (.ref 2) := by rw [cG_1]; exact Rg_0 (by decide)
theorem N_g1 : hgf (cG δ τ1 ε τ2 ζ τ3 κ n l ke op sz B S b H) (.ref 1) 0 1 = some (.int (δ 0)) := by rw [cG_1]; exact Rg_1 (by decide)
theorem N_g2 : hgf (cG δ τ1 ε τ2 ζ τ3 κ n l ke op sz B S b H) (.ref 1) 0 2 = some (.ref 3) := by rw [cG_1]; exact Rg_2 (by decide)
theorem N_g3 : hgf (cG δ τ1 ε τ2 ζ τ3 κ n l ke op sz B S b H) (.ref 1) 0 3 = some (.ref 4) := by rw [cG_1]; exact Rg_3 (by decide)
theorem N_g4 : hgf (cG δ τ1 ε τ2 ζ τ3 κ n l ke op sz B S b H) (.ref 1) 0 4 = some (.ref 5) := by rw [cG_1]; exact Rg_4 (by decide)
theorem N_g5 : hgf (cG δ τ1 ε τ2 ζ τ3 κ n l ke op sz B S b H) (.ref 1) 0 5 = some (.ref 6) := by rw [cG_1]; exact Rg_5 (by decide)
theorem N_g6 : hgf (cG δ τ1 ε τ2 ζ τ3 κ n l ke op sz B S b H) (.ref 1) 0 6 = some (.int (δ 2)) := by rw [cG_1]; exact Rg_6 (by decide)
theorem N_g7 : hgf (cG δ τ1 ε τ2 ζ τ3 κ n l ke op sz B S b H) (.ref 1) 0 7 = some (.int (δ 3)) := by rw [cG_1]; exact Rg_7 (by decide)
theorem N_g8 : hgf (cG δ τ1 ε τ2 ζ τ3 κ n l ke op sz B S b H) (.ref 1) 0 8 = some (.int (δ 4)) := by rw [cG_1]; exact Rg_8 (by decide)
theorem N_g9 : hgf (cG δ τ1 ε τ2 ζ τ3 κ n l ke op sz B S b H) (.ref 1) 0 9 = some (.int (δ 5)) := by rw [cG_1]; exact Rg_9 (by decide)
theorem N_g10 : hgf (cG δ τ1 ε τ2 ζ τ3 κ n l ke op sz B S b H) (.ref 1) 0 10 = some (.int (δ 1)) := by rw [cG_1]; exact Rg_10 (by decide)
theorem N_g11 : hgf (cG δ τ1 ε τ2 ζ τ3 κ n l ke op sz B S b H) (.ref 1) 0 11 = some (.int (δ 6)) := by rw [cG_1]; exact Rg_11 (by decide)
theorem N_g12 : hgf (cG δ τ1 ε τ2 ζ τ3 κ n l ke op sz B S b H) (.ref 1) 0 12 = some (.int (δ 7)) := by rw [cG_1]; exact Rg_12 (by decide)
theorem N_g13 : hgf (cG δ τ1 ε τ2 ζ τ3 κ n l ke op sz B S b H) (.ref 1) 0 13 = some (.ref 7) := by rw [cG_1]; exact Rg_13 (by decide)
theorem N_g14 : hgf (cG δ τ1 ε τ2 ζ τ3 κ n l ke op sz B S b H) (.ref 1) 0 14 = some (.ref 8) := by rw [cG_1]; exact Rg_14 (by decide)
theorem N_g15 : hgf (cG δ τ1 ε τ2 ζ τ3 κ n l ke op sz B S b H) (.ref 1) 0 15 = some (.ref 9) := by rw [cG_1]; exact Rg_15 (by decide)
theorem N_w {r : Nat} (hr : r < 12) : hrd (cG δ τ1 ε τ2 ζ τ3 κ n l ke op sz B S b H) (.ref 2) 0 (nI r) = some (δ (8 + r)) := by rw [cG_1]; exact Rr_w (by decide) hr
theorem N_ww {r : Nat} (hr : r < 12) (x : Int32) : hwr (cG δ τ1 ε τ2 ζ τ3 κ n l ke op sz B S b H) (.ref 2) 0 (nI r) x = some (cG (upd δ (8 + r) x) τ1 ε τ2 ζ τ3 κ n l ke op sz B S b H) := by rw [cG_1, cG_1]; exact Rw_w (by decide) hr x
theorem N_m0 {m : Nat} (hm : m < 10) : hrd (cG δ τ1 ε τ2 ζ τ3 κ n l ke op sz B S b H) (.ref 3) 0 (nI m) = some (δ (20 + 4 * m)) := by rw [cG_1]; exact Rr_m0 (by decide) hm
theorem N_mw0 {m : Nat} (hm : m < 10) (x : Int32) : hwr (cG δ τ1 ε τ2 ζ τ3 κ n l ke op sz B S b H) (.ref 3) 0 (nI m) x = some (cG (upd δ (20 + 4 * m) x) τ1 ε τ2 ζ τ3 κ n l ke op sz B S b H) := by rw [cG_1, cG_1]; exact Rw_m0 (by decide) hm x
theorem N_m1 {m : Nat} (hm : m < 10) : hrd (cG δ τ1 ε τ2 ζ τ3 κ n l ke op sz B S b H) (.ref 4) 0 (nI m) = some (δ (20 + 4 * m + 1)) := by rw [cG_1]; exact Rr_m1 (by decide) hm
theorem N_mw1 {m : Nat} (hm : m < 10) (x : Int32) : hwr (cG δ τ1 ε τ2 ζ τ3 κ n l ke op sz B S b H) (.ref 4) 0 (nI m) x = some (cG (upd δ (20 + 4 * m + 1) x) τ1 ε τ2 ζ τ3 κ n l ke op sz B S b H) := by rw [cG_1, cG_1]; exact Rw_m1 (by decide) hm x
theorem N_m2 {m : Nat} (hm : m < 10) : hrd (cG δ τ1 ε τ2 ζ τ3 κ n l ke op sz B S b H) (.ref 5) 0 (nI m) = some (δ (20 + 4 * m + 2)) := by rw [cG_1]; exact Rr_m2 (by decide) hm
theorem N_mw2 {m : Nat} (hm : m < 10) (x : Int32) : hwr (cG δ τ1 ε τ2 ζ τ3 κ n l ke op sz B S b H) (.ref 5) 0 (nI m) x = some (cG (upd δ (20 + 4 * m + 2) x) τ1 ε τ2 ζ τ3 κ n l ke op sz B S b H) := by rw [cG_1, cG_1]; exact Rw_m2 (by decide) hm x
theorem N_m3 {m : Nat} (hm : m < 10) : hrd (cG δ τ1 ε τ2 ζ τ3 κ n l ke op sz B S b H) (.ref 6) 0 (nI m) = some (δ (20 + 4 * m + 3)) := by rw [cG_1]; exact Rr_m3 (by decide) hm
theorem N_mw3 {m : Nat} (hm : m < 10) (x : Int32) : hwr (cG δ τ1 ε τ2 ζ τ3 κ n l ke op sz B S b H) (.ref 6) 0 (nI m) x = some (cG (upd δ (20 + 4 * m + 3) x) τ1 ε τ2 ζ τ3 κ n l ke op sz B S b H) := by rw [cG_1, cG_1]; exact Rw_m3 (by decide) hm x
theorem N_p1 (x : Int32) : hpf (cG δ τ1 ε τ2 ζ τ3 κ n l ke op sz B S b H) (.ref 1) 0 1 (.int x) = some (cG (upd δ 0 x) τ1 ε τ2 ζ τ3 κ n l ke op sz B S b H) := by rw [cG_1, cG_1]; exact Rp_1 (by decide) x
theorem N_p6 (x : Int32) : hpf (cG δ τ1 ε τ2 ζ τ3 κ n l ke op sz B S b H) (.ref 1) 0 6 (.int x) = some (cG (upd δ 2 x) τ1 ε τ2 ζ τ3 κ n l ke op sz B S b H) := by rw [cG_1, cG_1]; exact Rp_6 (by decide) x
theorem N_p7 (x : Int32) : hpf (cG δ τ1 ε τ2 ζ τ3 κ n l ke op sz B S b H) (.ref 1) 0 7 (.int x) = some (cG (upd δ 3 x) τ1 ε τ2 ζ τ3 κ n l ke op sz B S b H) := by rw [cG_1, cG_1]; exact Rp_7 (by decide) x
theorem N_p8 (x : Int32) : hpf (cG δ τ1 ε τ2 ζ τ3 κ n l ke op sz B S b H) (.ref 1) 0 8 (.int x) = some (cG (upd δ 4 x) τ1 ε τ2 ζ τ3 κ n l ke op sz B S b H) := by rw [cG_1, cG_1]; exact Rp_8 (by decide) x
theorem N_p9 (x : Int32) : hpf (cG δ τ1 ε τ2 ζ τ3 κ n l ke op sz B S b H) (.ref 1) 0 9 (.int x) = some (cG (upd δ 5 x) τ1 ε τ2 ζ τ3 κ n l ke op sz B S b H) := by rw [cG_1, cG_1]; exact Rp_9 (by decide) x
theorem N_p10 (x : Int32) : hpf (cG δ τ1 ε τ2 ζ τ3 κ n l ke op sz B S b H) (.ref 1) 0 10 (.int x) = some (cG (upd δ 1 x) τ1 ε τ2 ζ τ3 κ n l ke op sz B S b H) := by rw [cG_1, cG_1]; exact Rp_10 (by decide) x
theorem N_p11 (x : Int32) : hpf (cG δ τ1 ε τ2 ζ τ3 κ n l ke op sz B S b H) (.ref 1) 0 11 (.int x) = some (cG (upd δ 6 x) τ1 ε τ2 ζ τ3 κ n l ke op sz B S b H) := by rw [cG_1, cG_1]; exact Rp_11 (by decide) x
theorem N_p12 (x : Int32) : hpf (cG δ τ1 ε τ2 ζ τ3 κ n l ke op sz B S b H) (.ref 1) 0 12 (.int x) = some (cG (upd δ 7 x) τ1 ε τ2 ζ τ3 κ n l ke op sz B S b H) := by rw [cG_1, cG_1]; exact Rp_12 (by decide) x
theorem N_q6 {i : Nat} (hi : i < 14) : hrq (cG δ τ1 ε τ2 ζ τ3 κ n l ke op sz B S b H) (.ref 7) (nI i) = some (va_rf (τ1.1 i)) := by rw [cG_1]; exact Rq_6 (by decide) hi
theorem N_r7 {i : Nat} (hi : i < 3) : hrd (cG δ τ1 ε τ2 ζ τ3 κ n l ke op sz B S b H) (.ref 8) 0 (nI i) = some (τ1.2.1 i) := by rw [cG_1]; exact Rr_7 (by decide) hi
theorem N_q8 {i : Nat} (hi : i < 3) : hrq (cG δ τ1 ε τ2 ζ τ3 κ n l ke op sz B S b H) (.ref 9) (nI i) = some (va_rf (τ1.2.2 i)) := by rw [cG_1]; exact Rq_8 (by decide) hi
theorem N_len1 : xalen (cG δ τ1 ε τ2 ζ τ3 κ n l ke op sz B S b H) (.ref 2) = some 12 := (rfl)
theorem N_len2 : xalen (cG δ τ1 ε τ2 ζ τ3 κ n l ke op sz B S b H) (.ref 3) = some 10 := (rfl)
theorem N_len3 : xalen (cG δ τ1 ε τ2 ζ τ3 κ n l ke op sz B S b H) (.ref 4) = some 10 := (rfl)
theorem N_len4 : xalen (cG δ τ1 ε τ2 ζ τ3 κ n l ke op sz B S b H) (.ref 5) = some 10 := (rfl)
theorem N_len5 : xalen (cG δ τ1 ε τ2 ζ τ3 κ n l ke op sz B S b H) (.ref 6) = some 10 := (rfl)
theorem I_cls : (xcls (cG δ τ1 ε τ2 ζ τ3 κ n l ke op sz B S b H) (.ref 10) = 0) = True := by rw [cG_10]; exact Rcls (by decide)
theorem I_g0 : hgf (cG δ τ1 ε τ2 ζ τ3 κ n l ke op sz B S b H) (.ref 10) 0 0 = some (.ref 11) := by rw [cG_10]; exact Rg_0 (by decide)
theorem I_g1 : hgf (cG δ τ1 ε τ2 ζ τ3 κ n l ke op sz B S b H) (.ref 10) 0 1 = some (.int (ε 0)) := by rw [cG_10]; exact Rg_1 (by decide)
theorem I_g2 : hgf (cG δ τ1 ε τ2 ζ τ3 κ n l ke op sz B S b H) (.ref 10) 0 2 = some (.ref 12) := by rw [cG_10]; exact Rg_2 (by decide)
theorem I_g3 : hgf (cG δ τ1 ε τ2 ζ τ3 κ n l ke op sz B S b H) (.ref 10) 0 3 = some (.ref 13) := by rw [cG_10]; exact Rg_3 (by decide)
theorem I_g4 : hgf (cG δ τ1 ε τ2 ζ τ3 κ n l ke op sz B S b H) (.ref 10) 0 4 = some (.ref 14) := by rw [cG_10]; exact Rg_4 (by decide)
theorem I_g5 : hgf (cG δ τ1 ε τ2 ζ τ3 κ n l ke op sz B S b H) (.ref 10) 0 5 = some (.ref 15) := by rw [cG_10]; exact Rg_5 (by decide)
theorem I_g6 : hgf (cG δ τ1 ε τ2 ζ τ3 κ n l ke op sz B S b H) (.ref 10) 0 6 = some (.int (ε 2)) := by rw [cG_10]; exact Rg_6 (by decide)
theorem I_g7 : hgf (cG δ τ1 ε τ2 ζ τ3 κ n l ke op sz B S b H) (.ref 10) 0 7 = some (.int (ε 3)) := by rw [cG_10]; exact Rg_7 (by decide)
theorem I_g8 : hgf (cG δ τ1 ε τ2 ζ τ3 κ n l ke op sz B S b H) (.ref 10) 0 8 = some (.int (ε 4)) := by rw [cG_10]; exact Rg_8 (by decide)
theorem I_g9 : hgf (cG δ τ1 ε τ2 ζ τ3 κ n l ke op sz B S b H) (.ref 10) 0 9 = some (.int (ε 5)) := by rw [cG_10]; exact Rg_9 (by decide)
theorem I_g10 : hgf (cG δ τ1 ε τ2 ζ τ3 κ n l ke op sz B S b H) (.ref 10) 0 10 = some (.int (ε 1)) := by rw [cG_10]; exact Rg_10 (by decide)
theorem I_g11 : hgf (cG δ τ1 ε τ2 ζ τ3 κ n l ke op sz B S b H) (.ref 10) 0 11 = some (.int (ε 6)) := by rw [cG_10]; exact Rg_11 (by decide)
theorem I_g12 : hgf (cG δ τ1 ε τ2 ζ τ3 κ n l ke op sz B S b H) (.ref 10) 0 12 = some (.int (ε 7)) := by rw [cG_10]; exact Rg_12 (by decide)
theorem I_g13 : hgf (cG δ τ1 ε τ2 ζ τ3 κ n l ke op sz B S b H) (.ref 10) 0 13 = some (.ref 16) := by rw [cG_10]; exact Rg_13 (by decide)
theorem I_g14 : hgf (cG δ τ1 ε τ2 ζ τ3 κ n l ke op sz B S b H) (.ref 10) 0 14 = some (.ref 17) := by rw [cG_10]; exact Rg_14 (by decide)
theorem I_g15 : hgf (cG δ τ1 ε τ2 ζ τ3 κ n l ke op sz B S b H) (.ref 10) 0 15 = some (.ref 18) := by rw [cG_10]; exact Rg_15 (by decide)
theorem I_w {r : Nat} (hr : r < 12) : hrd (cG δ τ1 ε τ2 ζ τ3 κ n l ke op sz B S b H) (.ref 11) 0 (nI r) = some (ε (8 + r)) := by rw [cG_10]; exact Rr_w (by decide) hr
theorem I_ww {r : Nat} (hr : r < 12) (x : Int32) : hwr (cG δ τ1 ε τ2 ζ τ3 κ n l ke op sz B S b H) (.ref 11) 0 (nI r) x = some (cG δ τ1 (upd ε (8 + r) x) τ2 ζ τ3 κ n l ke op sz B S b H) := by rw [cG_10, cG_10]; exact Rw_w (by decide) hr x
theorem I_m0 {m : Nat} (hm : m < 10) : hrd (cG δ τ1 ε τ2 ζ τ3 κ n l ke op sz B S b H) (.ref 12) 0 (nI m) = some (ε (20 + 4 * m)) := by rw [cG_10]; exact Rr_m0 (by decide) hm
theorem I_mw0 {m : Nat} (hm : m < 10) (x : Int32) : hwr (cG δ τ1 ε τ2 ζ τ3 κ n l ke op sz B S b H) (.ref 12) 0 (nI m) x = some (cG δ τ1 (upd ε (20 + 4 * m) x) τ2 ζ τ3 κ n l ke op sz B S b H) := by rw [cG_10, cG_10]; exact Rw_m0 (by decide) hm x
theorem I_m1 {m : Nat} (hm : m < 10) : hrd (cG δ τ1 ε τ2 ζ τ3 κ n l ke op sz B S b H) (.ref 13) 0 (nI m) = some (ε (20 + 4 * m + 1)) := by rw [cG_10]; exact Rr_m1 (by decide) hm
theorem I_mw1 {m : Nat} (hm : m < 10) (x : Int32) : hwr (cG δ τ1 ε τ2 ζ τ3 κ n l ke op sz B S b H) (.ref 13) 0 (nI m) x = some (cG δ τ1 (upd ε (20 + 4 * m + 1) x) τ2 ζ τ3 κ n l ke op sz B S b H) := by rw [cG_10, cG_10]; exact Rw_m1 (by decide) hm x
theorem I_m2 {m : Nat} (hm : m < 10) : hrd (cG δ τ1 ε τ2 ζ τ3 κ n l ke op sz B S b H) (.ref 14) 0 (nI m) = some (ε (20 + 4 * m + 2)) := by rw [cG_10]; exact Rr_m2 (by decide) hm
theorem I_mw2 {m : Nat} (hm : m < 10) (x : Int32) : hwr (cG δ τ1 ε τ2 ζ τ3 κ n l ke op sz B S b H) (.ref 14) 0 (nI m) x = some (cG δ τ1 (upd ε (20 + 4 * m + 2) x) τ2 ζ τ3 κ n l ke op sz B S b H) := by rw [cG_10, cG_10]; exact Rw_m2 (by decide) hm x
theorem I_m3 {m : Nat} (hm : m < 10) : hrd (cG δ τ1 ε τ2 ζ τ3 κ n l ke op sz B S b H) (.ref 15) 0 (nI m) = some (ε (20 + 4 * m + 3)) := by rw [cG_10]; exact Rr_m3 (by decide) hm
theorem I_mw3 {m : Nat} (hm : m < 10) (x : Int32) : hwr (cG δ τ1 ε τ2 ζ τ3 κ n l ke op sz B S b H) (.ref 15) 0 (nI m) x = some (cG δ τ1 (upd ε (20 + 4 * m + 3) x) τ2 ζ τ3 κ n l ke op sz B S b H) := by rw [cG_10, cG_10]; exact Rw_m3 (by decide) hm x
theorem I_p1 (x : Int32) : hpf (cG δ τ1 ε τ2 ζ τ3 κ n l ke op sz B S b H) (.ref 10) 0 1 (.int x) = some (cG δ τ1 (upd ε 0 x) τ2 ζ τ3 κ n l ke op sz B S b H) := by rw [cG_10, cG_10]; exact Rp_1 (by decide) x
theorem I_p6 (x : Int32) : hpf (cG δ τ1 ε τ2 ζ τ3 κ n l ke op sz B S b H) (.ref 10) 0 6 (.int x) = some (cG δ τ1 (upd ε 2 x) τ2 ζ τ3 κ n l ke op sz B S b H) := by rw [cG_10, cG_10]; exact Rp_6 (by decide) x
theorem I_p7 (x : Int32) : hpf (cG δ τ1 ε τ2 ζ τ3 κ n l ke op sz B S b H) (.ref 10) 0 7 (.int x) = some (cG δ τ1 (upd ε 3 x) τ2 ζ τ3 κ n l ke op sz B S b H) := by rw [cG_10, cG_10]; exact Rp_7 (by decide) x
theorem I_p8 (x : Int32) : hpf (cG δ τ1 ε τ2 ζ τ3 κ n l ke op sz B S b H) (.ref 10) 0 8 (.int x) = some (cG δ τ1 (upd ε 4 x) τ2 ζ τ3 κ n l ke op sz B S b H) := by rw [cG_10, cG_10]; exact Rp_8 (by decide) x
theorem I_p9 (x : Int32) : hpf (cG δ τ1 ε τ2 ζ τ3 κ n l ke op sz B S b H) (.ref 10) 0 9 (.int x) = some (cG δ τ1 (upd ε 5 x) τ2 ζ τ3 κ n l ke op sz B S b H) := by rw [cG_10, cG_10]; exact Rp_9 (by decide) x
theorem I_p10 (x : Int32) : hpf (cG δ τ1 ε τ2 ζ τ3 κ n l ke op sz B S b H) (.ref 10) 0 10 (.int x) = some (cG δ τ1 (upd ε 1 x) τ2 ζ τ3 κ n l ke op sz B S b H) := by rw [cG_10, cG_10]; exact Rp_10 (by decide) x
theorem I_p11 (x : Int32) : hpf (cG δ τ1 ε τ2 ζ τ3 κ n l ke op sz B S b H) (.ref 10) 0 11 (.int x) = some (cG δ τ1 (upd ε 6 x) τ2 ζ τ3 κ n l ke op sz B S b H) := by rw [cG_10, cG_10]; exact Rp_11 (by decide) x
theorem I_p12 (x : Int32) : hpf (cG δ τ1 ε τ2 ζ τ3 κ n l ke op sz B S b H) (.ref 10) 0 12 (.int x) = some (cG δ τ1 (upd ε 7 x) τ2 ζ τ3 κ n l ke op sz B S b H) := by rw [cG_10, cG_10]; exact Rp_12 (by decide) x
theorem I_q6 {i : Nat} (hi : i < 14) : hrq (cG δ τ1 ε τ2 ζ τ3 κ n l ke op sz B S b H) (.ref 16) (nI i) = some (va_rf (τ2.1 i)) := by rw [cG_10]; exact Rq_6 (by decide) hi
theorem I_r7 {i : Nat} (hi : i < 3) : hrd (cG δ τ1 ε τ2 ζ τ3 κ n l ke op sz B S b H) (.ref 17) 0 (nI i) = some (τ2.2.1 i) := by rw [cG_10]; exact Rr_7 (by decide) hi
theorem I_q8 {i : Nat} (hi : i < 3) : hrq (cG δ τ1 ε τ2 ζ τ3 κ n l ke op sz B S b H) (.ref 18) (nI i) = some (va_rf (τ2.2.2 i)) := by rw [cG_10]; exact Rq_8 (by decide) hi
theorem I_len1 : xalen (cG δ τ1 ε τ2 ζ τ3 κ n l ke op sz B S b H) (.ref 11) = some 12 := (rfl)
theorem I_len2 : xalen (cG δ τ1 ε τ2 ζ τ3 κ n l ke op sz B S b H) (.ref 12) = some 10 := (rfl)
theorem I_len3 : xalen (cG δ τ1 ε τ2 ζ τ3 κ n l ke op sz B S b H) (.ref 13) = some 10 := (rfl)
theorem I_len4 : xalen (cG δ τ1 ε τ2 ζ τ3 κ n l ke op sz B S b H) (.ref 14) = some 10 := (rfl)
theorem I_len5 : xalen (cG δ τ1 ε τ2 ζ τ3 κ n l ke op sz B S b H) (.ref 15) = some 10 := (rfl)
theorem Q_cls : (xcls (cG δ τ1 ε τ2 ζ τ3 κ n l ke op sz B S b H) (.ref 19) = 0) = True := by rw [cG_19]; exact Rcls (by decide)
theorem Q_g0 : hgf (cG δ τ1 ε τ2 ζ τ3 κ n l ke op sz B S b H) (.ref 19) 0 0 = some (.ref 20) := by rw [cG_19]; exact Rg_0 (by decide)
theorem Q_g1 : hgf (cG δ τ1 ε τ2 ζ τ3 κ n l ke op sz B S b H) (.ref 19) 0 1 = some (.int (ζ 0)) := by rw [cG_19]; exact Rg_1 (by decide)
theorem Q_g2 : hgf (cG δ τ1 ε τ2 ζ τ3 κ n l ke op sz B S b H) (.ref 19) 0 2 = some (.ref 21) := by rw [cG_19]; exact Rg_2 (by decide)
theorem Q_g3 : hgf (cG δ τ1 ε τ2 ζ τ3 κ n l ke op sz B S b H) (.ref 19) 0 3 = some (.ref 22) := by rw [cG_19]; exact Rg_3 (by decide)
theorem Q_g4 : hgf (cG δ τ1 ε τ2 ζ τ3 κ n l ke op sz B S b H) (.ref 19) 0 4 = some (.ref 23) := by rw [cG_19]; exact Rg_4 (by decide)
theorem Q_g5 : hgf (cG δ τ1 ε τ2 ζ τ3 κ n l ke op sz B S b H) (.ref 19) 0 5 = some (.ref 24) := by rw [cG_19]; exact Rg_5 (by decide)
theorem Q_g6 : hgf (cG δ τ1 ε τ2 ζ τ3 κ n l ke op sz B S b H) (.ref 19) 0 6 = some (.int (ζ 2)) := by rw [cG_19]; exact Rg_6 (by decide)
theorem Q_g7 : hgf (cG δ τ1 ε τ2 ζ τ3 κ n l ke op sz B S b H) (.ref 19) 0 7 = some (.int (ζ 3)) := by rw [cG_19]; exact Rg_7 (by decide)
theorem Q_g8 : hgf (cG δ τ1 ε τ2 ζ τ3 κ n l ke op sz B S b H) (.ref 19) 0 8 = some (.int (ζ 4)) := by rw [cG_19]; exact Rg_8 (by decide)
theorem Q_g9 : hgf (cG δ τ1 ε τ2 ζ τ3 κ n l ke op sz B S b H) (.ref 19) 0 9 = some (.int (ζ 5)) := by rw [cG_19]; exact Rg_9 (by decide)
theorem Q_g10 : hgf (cG δ τ1 ε τ2 ζ τ3 κ n l ke op sz B S b H) (.ref 19) 0 10 = some (.int (ζ 1)) := by rw [cG_19]; exact Rg_10 (by decide)
theorem Q_g11 : hgf (cG δ τ1 ε τ2 ζ τ3 κ n l ke op sz B S b H) (.ref 19) 0 11 = some (.int (ζ 6)) := by rw [cG_19]; exact Rg_11 (by decide)
theorem Q_g12 : hgf (cG δ τ1 ε τ2 ζ τ3 κ n l ke op sz B S b H) (.ref 19) 0 12 = some (.int (ζ 7)) := by rw [cG_19]; exact Rg_12 (by decide)
theorem Q_g13 : hgf (cG δ τ1 ε τ2 ζ τ3 κ n l ke op sz B S b H) (.ref 19) 0 13 = some (.ref 25) := by rw [cG_19]; exact Rg_13 (by decide)
theorem Q_g14 : hgf (cG δ τ1 ε τ2 ζ τ3 κ n l ke op sz B S b H) (.ref 19) 0 14 = some (.ref 26) := by rw [cG_19]; exact Rg_14 (by decide)
theorem Q_g15 : hgf (cG δ τ1 ε τ2 ζ τ3 κ n l ke op sz B S b H) (.ref 19) 0 15 = some (.ref 27) := by rw [cG_19]; exact Rg_15 (by decide)
theorem Q_w {r : Nat} (hr : r < 12) : hrd (cG δ τ1 ε τ2 ζ τ3 κ n l ke op sz B S b H) (.ref 20) 0 (nI r) = some (ζ (8 + r)) := by rw [cG_19]; exact Rr_w (by decide) hr
theorem Q_ww {r : Nat} (hr : r < 12) (x : Int32) : hwr (cG δ τ1 ε τ2 ζ τ3 κ n l ke op sz B S b H) (.ref 20) 0 (nI r) x = some (cG δ τ1 ε τ2 (upd ζ (8 + r) x) τ3 κ n l ke op sz B S b H) := by rw [cG_19, cG_19]; exact Rw_w (by decide) hr x
theorem Q_m0 {m : Nat} (hm : m < 10) : hrd (cG δ τ1 ε τ2 ζ τ3 κ n l ke op sz B S b H) (.ref 21) 0 (nI m) = some (ζ (20 + 4 * m)) := by rw [cG_19]; exact Rr_m0 (by decide) hm
theorem Q_mw0 {m : Nat} (hm : m < 10) (x : Int32) : hwr (cG δ τ1 ε τ2 ζ τ3 κ n l ke op sz B S b H) (.ref 21) 0 (nI m) x = some (cG δ τ1 ε τ2 (upd ζ (20 + 4 * m) x) τ3 κ n l ke op sz B S b H) := by rw [cG_19, cG_19]; exact Rw_m0 (by decide) hm x
theorem Q_m1 {m : Nat} (hm : m < 10) : hrd (cG δ τ1 ε τ2 ζ τ3 κ n l ke op sz B S b H) (.ref 22) 0 (nI m) = some (ζ (20 + 4 * m + 1)) := by rw [cG_19]; exact Rr_m1 (by decide) hm
theorem Q_mw1 {m : Nat} (hm : m < 10) (x : Int32) : hwr (cG δ τ1 ε τ2 ζ τ3 κ n l ke op sz B S b H) (.ref 22) 0 (nI m) x = some (cG δ τ1 ε τ2 (upd ζ (20 + 4 * m + 1) x) τ3 κ n l ke op sz B S b H) := by rw [cG_19, cG_19]; exact Rw_m1 (by decide) hm x
theorem Q_m2 {m : Nat} (hm : m < 10) : hrd (cG δ τ1 ε τ2 ζ τ3 κ n l ke op sz B S b H) (.ref 23) 0 (nI m) = some (ζ (20 + 4 * m + 2)) := by rw [cG_19]; exact Rr_m2 (by decide) hm
theorem Q_mw2 {m : Nat} (hm : m < 10) (x : Int32) : hwr (cG δ τ1 ε τ2 ζ τ3 κ n l ke op sz B S b H) (.ref 23) 0 (nI m) x = some (cG δ τ1 ε τ2 (upd ζ (20 + 4 * m + 2) x) τ3 κ n l ke op sz B S b H) := by rw [cG_19, cG_19]; exact Rw_m2 (by decide) hm x
theorem Q_m3 {m : Nat} (hm : m < 10) : hrd (cG δ τ1 ε τ2 ζ τ3 κ n l ke op sz B S b H) (.ref 24) 0 (nI m) = some (ζ (20 + 4 * m + 3)) := by rw [cG_19]; exact Rr_m3 (by decide) hm
theorem Q_mw3 {m : Nat} (hm : m < 10) (x : Int32) : hwr (cG δ τ1 ε τ2 ζ τ3 κ n l ke op sz B S b H) (.ref 24) 0 (nI m) x = some (cG δ τ1 ε τ2 (upd ζ (20 + 4 * m + 3) x) τ3 κ n l ke op sz B S b H) := by rw [cG_19, cG_19]; exact Rw_m3 (by decide) hm x
theorem Q_p1 (x : Int32) : hpf (cG δ τ1 ε τ2 ζ τ3 κ n l ke op sz B S b H) (.ref 19) 0 1 (.int x) = some (cG δ τ1 ε τ2 (upd ζ 0 x) τ3 κ n l ke op sz B S b H) := by rw [cG_19, cG_19]; exact Rp_1 (by decide) x
theorem Q_p6 (x : Int32) : hpf (cG δ τ1 ε τ2 ζ τ3 κ n l ke op sz B S b H) (.ref 19) 0 6 (.int x) = some (cG δ τ1 ε τ2 (upd ζ 2 x) τ3 κ n l ke op sz B S b H) := by rw [cG_19, cG_19]; exact Rp_6 (by decide) x
theorem Q_p7 (x : Int32) : hpf (cG δ τ1 ε τ2 ζ τ3 κ n l ke op sz B S b H) (.ref 19) 0 7 (.int x) = some (cG δ τ1 ε τ2 (upd ζ 3 x) τ3 κ n l ke op sz B S b H) := by rw [cG_19, cG_19]; exact Rp_7 (by decide) x
theorem Q_p8 (x : Int32) : hpf (cG δ τ1 ε τ2 ζ τ3 κ n l ke op sz B S b H) (.ref 19) 0 8 (.int x) = some (cG δ τ1 ε τ2 (upd ζ 4 x) τ3 κ n l ke op sz B S b H) := by rw [cG_19, cG_19]; exact Rp_8 (by decide) x
theorem Q_p9 (x : Int32) : hpf (cG δ τ1 ε τ2 ζ τ3 κ n l ke op sz B S b H) (.ref 19) 0 9 (.int x) = some (cG δ τ1 ε τ2 (upd ζ 5 x) τ3 κ n l ke op sz B S b H) := by rw [cG_19, cG_19]; exact Rp_9 (by decide) x
theorem Q_p10 (x : Int32) : hpf (cG δ τ1 ε τ2 ζ τ3 κ n l ke op sz B S b H) (.ref 19) 0 10 (.int x) = some (cG δ τ1 ε τ2 (upd ζ 1 x) τ3 κ n l ke op sz B S b H) := by rw [cG_19, cG_19]; exact Rp_10 (by decide) x
theorem Q_p11 (x : Int32) : hpf (cG δ τ1 ε τ2 ζ τ3 κ n l ke op sz B S b H) (.ref 19) 0 11 (.int x) = some (cG δ τ1 ε τ2 (upd ζ 6 x) τ3 κ n l ke op sz B S b H) := by rw [cG_19, cG_19]; exact Rp_11 (by decide) x
theorem Q_p12 (x : Int32) : hpf (cG δ τ1 ε τ2 ζ τ3 κ n l ke op sz B S b H) (.ref 19) 0 12 (.int x) = some (cG δ τ1 ε τ2 (upd ζ 7 x) τ3 κ n l ke op sz B S b H) := by rw [cG_19, cG_19]; exact Rp_12 (by decide) x
theorem Q_q6 {i : Nat} (hi : i < 14) : hrq (cG δ τ1 ε τ2 ζ τ3 κ n l ke op sz B S b H) (.ref 25) (nI i) = some (va_rf (τ3.1 i)) := by rw [cG_19]; exact Rq_6 (by decide) hi
theorem Q_r7 {i : Nat} (hi : i < 3) : hrd (cG δ τ1 ε τ2 ζ τ3 κ n l ke op sz B S b H) (.ref 26) 0 (nI i) = some (τ3.2.1 i) := by rw [cG_19]; exact Rr_7 (by decide) hi
theorem Q_q8 {i : Nat} (hi : i < 3) : hrq (cG δ τ1 ε τ2 ζ τ3 κ n l ke op sz B S b H) (.ref 27) (nI i) = some (va_rf (τ3.2.2 i)) := by rw [cG_19]; exact Rq_8 (by decide) hi
theorem Q_len1 : xalen (cG δ τ1 ε τ2 ζ τ3 κ n l ke op sz B S b H) (.ref 20) = some 12 := (rfl)
theorem Q_len2 : xalen (cG δ τ1 ε τ2 ζ τ3 κ n l ke op sz B S b H) (.ref 21) = some 10 := (rfl)
theorem Q_len3 : xalen (cG δ τ1 ε τ2 ζ τ3 κ n l ke op sz B S b H) (.ref 22) = some 10 := (rfl)
theorem Q_len4 : xalen (cG δ τ1 ε τ2 ζ τ3 κ n l ke op sz B S b H) (.ref 23) = some 10 := (rfl)
theorem Q_len5 : xalen (cG δ τ1 ε τ2 ζ τ3 κ n l ke op sz B S b H) (.ref 24) = some 10 := (rfl)
theorem G_lk_t (d : Nat) (hw : wf δ) {v : Int32} (hv : ix v (nn (δ 0))) : Ev (d + 2) 2 [.ref 1, .int v] (cG δ τ1 ε τ2 ζ τ3 κ n l ke op sz B S b H) = some (some (.int 0), cG δ τ1 ε τ2 ζ τ3 κ n l ke op sz B S b H) := by
  rw [cG_1, r_lacks d (by decide), bi_f]
  rw [hw.eN.1]
  exact fun q => (ix_o (by have := hw.eN.2; omega)).mp q hv
theorem G_lk_f (d : Nat) (hw : wf δ) {v : Int32} (hv : ¬ ix v (nn (δ 0))) : Ev (d + 2) 2 [.ref 1, .int v] (cG δ τ1 ε τ2 ζ τ3 κ n l ke op sz B S b H) = some (some (.int 1), cG δ τ1 ε τ2 ζ τ3 κ n l ke op sz B S b H) := by
  rw [cG_1, r_lacks d (by decide), bi_t]
  rw [hw.eN.1]
  exact (ix_o (by have := hw.eN.2; omega)).mpr hv
end GCEL
section GMOD
variable {a : Nat → Nat → Int32} {δ κ s : Nat → Int32} {w : Int64} {H : xh}
theorem m_mk_t (d : Nat) (hw : wf δ) {v : Int32} (hv : ix v (nn (δ 0))) : Ev (d + 2) 116 [.ref 58, .int v] (md a δ κ s w H) = some (some (.int 1), md a δ κ s w H) := by
  have e : bi (0 ≤ v.toInt64 ∧ v.toInt64 ≤ (δ 0 - 1).toInt64) = 1 := bi_t (by
    rw [show (0 : Int64) = (0 : Int32).toInt64 from rfl, l_le, l_le, hw.eN.1]
    exact (ix_e (by have := hw.eN.2; omega)).mpr hv)
  rw [E116]
  simp only [S116_0, S116_1, S116_2, S116_3, S116_4, S116_7, S116_8, S116_9, S116_10, S116_11, S116_12, S116_15, Option.bind_some, Option.map_some, xpush_s, xpush_n, xcat_0, xcat_i, xcat_r, xcat_l, xcat_n, xcat_e, xir_r, Nat.reduceAdd, Nat.reduceLeDiff, Nat.zero_le, Nat.le_refl, ↓reduceIte, Dg, Dr, ix_0, s_in, e, nar_1]
theorem m_mk_f (d : Nat) (hw : wf δ) {v : Int32} (hv : ¬ ix v (nn (δ 0))) : Ev (d + 2) 116 [.ref 58, .int v] (md a δ κ s w H) = some (some (.int 0), md a δ κ s w H) := by
  have e : bi (0 ≤ v.toInt64 ∧ v.toInt64 ≤ (δ 0 - 1).toInt64) = 0 := bi_f (by
    rw [show (0 : Int64) = (0 : Int32).toInt64 from rfl, l_le, l_le, hw.eN.1]
    exact fun q => hv ((ix_e (by have := hw.eN.2; omega)).mp q))
  rw [E116]
  simp only [S116_0, S116_1, S116_2, S116_3, S116_4, S116_7, S116_8, S116_9, S116_10, S116_11, S116_12, S116_15, Option.bind_some, Option.map_some, xpush_s, xpush_n, xcat_0, xcat_i, xcat_r, xcat_l, xcat_n, xcat_e, xir_r, Nat.reduceAdd, Nat.reduceLeDiff, Nat.zero_le, Nat.le_refl, ↓reduceIte, Dg, Dr, ix_0, s_in, e, nar_0]
end GMOD
theorem m_rch_t (d : Nat) (h : xh) {v : Int32} (hv : bd v 11) : Ev (d + 2) 113 [.int v] h = some (some (.int 1), h) := by
  rw [E113]
  simp only [S113_0, S113_1, S113_2, S113_3, S113_6, S113_9, Option.bind_some, Option.map_some, xpush_s, xpush_n, xcat_0, xcat_i, xcat_r, xcat_l, xcat_n, xcat_e, xir_r, Nat.reduceAdd, Nat.reduceLeDiff, Nat.zero_le, Nat.le_refl, ↓reduceIte, in_t _ _ (n := 11) (N := 11) rfl (by decide) hv, nar_1]
theorem m_rch_f (d : Nat) (h : xh) {v : Int32} (hv : ¬ bd v 11) : Ev (d + 2) 113 [.int v] h = some (some (.int 0), h) := by
  rw [E113]
  simp only [S113_0, S113_1, S113_2, S113_3, S113_6, S113_9, Option.bind_some, Option.map_some, xpush_s, xpush_n, xcat_0, xcat_i, xcat_r, xcat_l, xcat_n, xcat_e, xir_r, Nat.reduceAdd, Nat.reduceLeDiff, Nat.zero_le, Nat.le_refl, ↓reduceIte, in_f _ _ (n := 11) (N := 11) rfl (by decide) hv, nar_0]
theorem m_sh_t (d : Nat) (h : xh) {v : Int32} (hv : bd v 3) : Ev (d + 2) 163 [.int v] h = some (some (.int 1), h) := by
  rw [E163]
  simp only [S163_0, S163_1, S163_2, S163_3, S163_6, S163_9, Option.bind_some, Option.map_some, xpush_s, xpush_n, xcat_0, xcat_i, xcat_r, xcat_l, xcat_n, xcat_e, xir_r, Nat.reduceAdd, Nat.reduceLeDiff, Nat.zero_le, Nat.le_refl, ↓reduceIte, in_t _ _ (n := 3) (N := 3) rfl (by decide) hv, nar_1]
theorem m_sh_f (d : Nat) (h : xh) {v : Int32} (hv : ¬ bd v 3) : Ev (d + 2) 163 [.int v] h = some (some (.int 0), h) := by
  rw [E163]
  simp only [S163_0, S163_1, S163_2, S163_3, S163_6, S163_9, Option.bind_some, Option.map_some, xpush_s, xpush_n, xcat_0, xcat_i, xcat_r, xcat_l, xcat_n, xcat_e, xir_r, Nat.reduceAdd, Nat.reduceLeDiff, Nat.zero_le, Nat.le_refl, ↓reduceIte, in_f _ _ (n := 3) (N := 3) rfl (by decide) hv, nar_0]
/-- worth -/
theorem m_worth (d : Nat) (x y z : Int32) (h : xh) : Ev (d + 1) 128 [.int x, .int y, .int z] h = some (some (.int (sWor x y z)), h) := by
  rw [E128]
  have h2 : ¬ (2 : Int32) = 0 := by decide
  unfold sWor
  simp only [S128_0, S128_1, S128_36, S128_37, S128_38, S128_39, S128_40, S128_41, S128_42, S128_43, S128_44, S128_45, S128_46, S128_48, S128_49, S128_50, S128_51, S128_53, S128_54, S128_55, S128_57, S128_58, S128_59, S128_60, S128_61, S128_62, h2, if_false]
  repeat' split
  all_goals rfl
def rWor (kd ink st : Int32) : Int32 := if kd = 0 then ink else if kd = 1 then ink + st else if kd = 2 then 99 - ink else if kd = 3 then (ink + st) / 2 else if kd = 4 then 99 - ink + 7 else st
theorem r_worth (d : Nat) (x y z : Int32) (h : xh) : Ev (d + 1) 62 [.int x, .int y, .int z] h = some (some (.int (rWor x y z)), h) := by
  rw [E62]
  have h2 : ¬ (2 : Int32) = 0 := by decide
  unfold rWor
  simp only [S62_0, S62_1, S62_36, S62_37, S62_38, S62_39, S62_40, S62_41, S62_42, S62_43, S62_44, S62_45, S62_46, S62_47, S62_48, S62_50, S62_51, S62_52, S62_53, S62_55, S62_56, S62_57, S62_59, S62_60, S62_61, S62_62, h2, if_false]
  repeat' split
  all_goals rfl
theorem wor_e {x : Int32} (hx : bd x 5) (y z : Int32) : rWor x y z = sWor x y z := by
  obtain ⟨k, hk, rfl⟩ := hx
  unfold rWor sWor
  match k, hk with
  | 0, _ => rfl
  | 1, _ => rfl
  | 2, _ => rfl
  | 3, _ => rfl
  | 4, _ => rfl
  | 5, _ => rfl
/-- a kind under another -/
def sUn (x y : Nat) : Bool := y == 0 || x == y || (x == 3 && y == 1) || (x == 4 && y == 2)
theorem m_under (d : Nat) {x y : Nat} (hx : x ≤ 5) (hy : y ≤ 5) (h : xh) : Ev (d + 2) 130 [.int (nI x), .int (nI y)] h = some (some (.int (bi (sUn x y = true))), h) := by
  have ab : ∀ x, x ≤ 5 → Ev (d + 1) 131 [.int (nI x)] h = some (some (.int (if nI x = 3 then 1 else if nI x = 4 then 2 else 0)), h) := by
    intro x hx
    rw [E131]
    simp only [S131_0, S131_1, S131_2, S131_5, S131_6, S131_9, S131_10, S131_11, S131_14, S131_15, S131_18, S131_19]
    repeat' split
    all_goals rfl
  rw [E130]
  have e : ∀ x, x ≤ 5 → ∀ y, y ≤ 5 → (if nI y = 0 then (1 : Int32) else if nI x = nI y then 1 else if (if nI x = 3 then (1 : Int32) else if nI x = 4 then 2 else 0) = nI y then 1 else 0) = bi (sUn x y = true) := by decide +kernel
  rw [← e x hx y hy]
  simp only [S130_0, S130_1, S130_4, S130_5, S130_6, S130_9, S130_10, S130_13, S130_14, S130_17, S130_18, S130_21, S130_22, Option.bind_some, Option.map_some, xpush_s, xpush_n, xcat_0, xcat_i, xcat_r, xcat_l, xcat_n, xcat_e, xir_r, Nat.reduceAdd, Nat.reduceLeDiff, Nat.zero_le, Nat.le_refl, ↓reduceIte, ab x hx, nar_1, nar_0]
  repeat' split
  all_goals rfl
def abv (k : Nat) : Int32 := x_ab k
theorem H1 {h : xh} (hX : oX h) (i : Int32) : hrd h (.retAddr 1) 0 i = (xix i 6).map x_ab := by
  obtain ⟨L, xs, e⟩ := hX
  unfold hrd hget
  dsimp only
  rw [e]
  show (match xix i 6 with | some j => some (x_ab j) | none => none) = _
  cases xix i 6 <;> rfl
/-- the class's walk upwards: fuel, kind -/
def upk : Nat → Int32 → Int32 → Int32
  | 0, _, _ => 0
  | j + 1, k, y => if bi (k < 0 ∨ 5 < k) = 0 then (if k = y then 1 else upk j (x_ab (nn k)) y) else 0
theorem c_under_l (d : Nat) {h : xh} (hX : oX h) (x y : Int32) : ∀ j i (k : Int32), i + j = 6 → RF 64 (Ev (d + 1)) 4 [some (.int x), some (.int y), some (.int k), some (.int (nI i))] [] h = some (some (.int (upk j k y)), h)
  | 0, i, k, e => by
    have e' : i = 6 := by omega
    subst e'
    rw [S64_4]
    simp only [S64_0, S64_1, S64_2, S64_3, S64_5, S64_7, S64_10, S64_11, S64_12, S64_13, S64_16, S64_19, S64_20, S64_21, S64_24, S64_25, S64_26, S64_29, S64_30, S64_31, S64_32, S64_35, S64_38, S64_39, Option.bind_some, Option.map_some, xpush_s, xpush_n, xcat_0, xcat_i, xcat_r, xcat_l, xcat_n, xcat_e, xir_r, Nat.reduceAdd, Nat.reduceLeDiff, Nat.zero_le, Nat.le_refl, ↓reduceIte, show ((6 : Int32) ≤ nI 6) = True from eq_true (Int32.le_refl _), nar_0, upk]
  | j + 1, i, k, e => by
    have hc : ¬ (6 : Int32) ≤ nI i := nI_ge (b := 6) (by omega) (by decide)
    rw [S64_4]
    by_cases hb : bd k 5
    · have h0 : bi (k < 0 ∨ 5 < k) = 0 := bi_f (fun q => (ou_e (n := 5) rfl (by decide)).mp q hb)
      obtain ⟨k0, hk0, ek⟩ := hb
      subst ek
      by_cases hy : nI k0 = y
      · simp only [S64_0, S64_1, S64_2, S64_3, S64_5, S64_7, S64_10, S64_11, S64_12, S64_13, S64_16, S64_19, S64_20, S64_21, S64_24, S64_25, S64_26, S64_29, S64_30, S64_31, S64_32, S64_35, S64_38, S64_39, Option.bind_some, Option.map_some, xpush_s, xpush_n, xcat_0, xcat_i, xcat_r, xcat_l, xcat_n, xcat_e, xir_r, Nat.reduceAdd, Nat.reduceLeDiff, Nat.zero_le, Nat.le_refl, ↓reduceIte, hc, s_outside, h0, if_pos hy, nar_1, upk]
      · have ih := c_under_l d hX x y j (i + 1) (x_ab (nn (nI k0))) (by omega)
        rw [nn_nI (by omega)] at ih
        simp only [S64_0, S64_1, S64_2, S64_3, S64_5, S64_7, S64_10, S64_11, S64_12, S64_13, S64_16, S64_19, S64_20, S64_21, S64_24, S64_25, S64_26, S64_29, S64_30, S64_31, S64_32, S64_35, S64_38, S64_39, Option.bind_some, Option.map_some, xpush_s, xpush_n, xcat_0, xcat_i, xcat_r, xcat_l, xcat_n, xcat_e, xir_r, Nat.reduceAdd, Nat.reduceLeDiff, Nat.zero_le, Nat.le_refl, ↓reduceIte, hc, s_outside, h0, if_neg hy, xir_e, H1 hX, xix_n (show k0 < 6 by omega) (show 6 ≤ 100000 by decide), nI_1, upk, nn_nI (show k0 < 2 ^ 31 by omega)]
        exact ih
    · have h0 : bi (k < 0 ∨ 5 < k) = 1 := bi_t ((ou_e (n := 5) rfl (by decide)).mpr hb)
      simp only [S64_0, S64_1, S64_2, S64_3, S64_5, S64_7, S64_10, S64_11, S64_12, S64_13, S64_16, S64_19, S64_20, S64_21, S64_24, S64_25, S64_26, S64_29, S64_30, S64_31, S64_32, S64_35, S64_38, S64_39, Option.bind_some, Option.map_some, xpush_s, xpush_n, xcat_0, xcat_i, xcat_r, xcat_l, xcat_n, xcat_e, xir_r, Nat.reduceAdd, Nat.reduceLeDiff, Nat.zero_le, Nat.le_refl, ↓reduceIte, hc, s_outside, h0, show ¬ (1 : Int32) = 0 by decide, nar_0, upk]
theorem c_under (d : Nat) {h : xh} (hX : oX h) {x y : Nat} (hx : x ≤ 5) (hy : y ≤ 5) : Ev (d + 2) 64 [.int (nI x), .int (nI y)] h = some (some (.int (bi (sUn x y = true))), h) := by
  rw [E64]
  have h0 := c_under_l d hX (nI x) (nI y) 6 0 (nI x) rfl
  have e : ∀ x, x ≤ 5 → ∀ y, y ≤ 5 → upk 6 (nI x) (nI y) = bi (sUn x y = true) := by decide +kernel
  rw [e x hx y hy] at h0
  simp only [S64_0, S64_1, S64_2, S64_3, S64_5, S64_7, S64_10, S64_11, S64_12, S64_13, S64_16, S64_19, S64_20, S64_21, S64_24, S64_25, S64_26, S64_29, S64_30, S64_31, S64_32, S64_35, S64_38, S64_39]
  exact h0
