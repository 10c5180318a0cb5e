/-! part 29: the reference's gives -/
section GIVES
variable {a : Nat → Nat → Int32} {δ κ s : Nat → Int32} {w : Int64} {H : xh}
theorem Dg5 : hgf (md a δ κ s w H) (.ref 58) 6 5 = some (.ref 63) := (rfl)
theorem Dg7 : hgf (md a δ κ s w H) (.ref 58) 6 7 = some (.ref 65) := (rfl)
theorem Dr5 (i : Int32) : hrd (md a δ κ s w H) (.ref 63) 0 i = (xix i 1344).map (a 5) := by unfold md; rw [Mr_5, vaj _ _ _ (by decide) (by decide)]
theorem Dr7 (i : Int32) : hrd (md a δ κ s w H) (.ref 65) 0 i = (xix i 14).map (a 7) := by unfold md; rw [Mr_7, vaj _ _ _ (by decide) (by decide)]
theorem Dr9 (i : Int32) : hrd (md a δ κ s w H) (.ref 67) 0 i = (xix i 96).map κ := by unfold md; rw [Mr_9, va9]
theorem Dw9 (i x : Int32) : hwr (md a δ κ s w H) (.ref 67) 0 i x = (xix i 96).map (fun t => md a δ (upd κ t x) s w H) := by
  unfold md
  rw [Mw_9, va9]
  simp only [vu_u]
theorem ix96 (t i : Nat) : (96 : Int32) * nI t + nI i = nI (96 * t + i) := by
  rw [show (96 : Int32) = nI 96 from rfl, pk_mul, nI_add]
theorem gv_a (ev : xe) {t len i n : Nat} {cp x y z u : Int32} {l : Option Value} (ht : xix (nI t) 14 = some t) (hs : a 7 t = nI len) (hc : ¬ nI len ≤ nI i) :
    RF 123 ev 6 [some (.ref 58), some (.int (nI t)), some (.int x), some (.int y), some (.int z), some (.int u), some (.int (nI n)), some (.int (nI i)), l] [] (md a δ κ s w H) = RF 123 ev 17 [some (.ref 58), some (.int (nI t)), some (.int x), some (.int y), some (.int z), some (.int u), some (.int (nI n)), some (.int (nI i)), l] [] (md a δ κ s w H) := by
  simp only [S123_6, S123_8, S123_9, S123_12, S123_13, S123_14, Option.bind_some, Option.map_some, xpush_s, xpush_n, xcat_0, xcat_i, xcat_r, xcat_l, xcat_n, xcat_e, xir_r, Nat.reduceAdd, Nat.reduceLeDiff, Nat.zero_le, Nat.le_refl, ↓reduceIte, Dg7, Dr7, ht, hs, hc]
theorem gv_b (ev : xe) {t i n : Nat} {cp x y z u : Int32} {l : Option Value} (hx : xix (nI (96 * t + i)) 1344 = some (96 * t + i)) (hp : a 5 (96 * t + i) = cp) :
    RF 123 ev 17 [some (.ref 58), some (.int (nI t)), some (.int x), some (.int y), some (.int z), some (.int u), some (.int (nI n)), some (.int (nI i)), l] [] (md a δ κ s w H) = RF 123 ev 31 [some (.ref 58), some (.int (nI t)), some (.int x), some (.int y), some (.int z), some (.int u), some (.int (nI n)), some (.int (nI i)), some (.int cp)] [] (md a δ κ s w H) := by
  simp only [S123_17, S123_18, S123_21, S123_23, S123_24, S123_25, S123_27, S123_28, S123_29, Option.bind_some, Option.map_some, xpush_s, xpush_n, xcat_0, xcat_i, xcat_r, xcat_l, xcat_n, xcat_e, xir_r, Nat.reduceAdd, Nat.reduceLeDiff, Nat.zero_le, Nat.le_refl, ↓reduceIte, Dg5, Dr5, ix96, hx, hp]
theorem gv_c1 (ev : xe) {t i n : Nat} {cp x y z u : Int32} (k1 : ¬ (10000 : Int32) ≤ cp) :
    RF 123 ev 31 [some (.ref 58), some (.int (nI t)), some (.int x), some (.int y), some (.int z), some (.int u), some (.int (nI n)), some (.int (nI i)), some (.int cp)] [] (md a δ κ s w H) = RF 123 ev 39 [some (.ref 58), some (.int (nI t)), some (.int x), some (.int y), some (.int z), some (.int u), some (.int (nI n)), some (.int (nI i)), some (.int cp)] [] (md a δ κ s w H) := by
  simp only [S123_31, S123_33, S123_36, k1, if_false]
theorem gv_c2 (ev : xe) {t i n : Nat} {cp x y z u : Int32} (hxn : xix (nI n) 96 = some n) :
    RF 123 ev 39 [some (.ref 58), some (.int (nI t)), some (.int x), some (.int y), some (.int z), some (.int u), some (.int (nI n)), some (.int (nI i)), some (.int cp)] [] (md a δ κ s w H) = RF 123 ev 6 [some (.ref 58), some (.int (nI t)), some (.int x), some (.int y), some (.int z), some (.int u), some (.int (nI (n + 1))), some (.int (nI (i + 1))), some (.int cp)] [] (md a δ (upd κ n cp) s w H) := by
  simp only [S123_39, S123_40, S123_43, S123_45, S123_47, S123_48, S123_51, S123_188, S123_191, Option.bind_some, Option.map_some, xpush_s, xpush_n, xcat_0, xcat_i, xcat_r, xcat_l, xcat_n, xcat_e, xir_r, Nat.reduceAdd, Nat.reduceLeDiff, Nat.zero_le, Nat.le_refl, ↓reduceIte, Dg9, Dw9, hxn, nI_1]
theorem gv_end (ev : xe) {t len n : Nat} {x y z u : Int32} {l : Option Value} (ht : xix (nI t) 14 = some t) (hs : a 7 t = nI len) :
    RF 123 ev 6 [some (.ref 58), some (.int (nI t)), some (.int x), some (.int y), some (.int z), some (.int u), some (.int (nI n)), some (.int (nI len)), l] [] (md a δ κ s w H) = some (some (.int (κ 0)), md a δ κ s w H) := by
  have hc : nI len ≤ nI len := Int32.le_refl _
  have h0 : xix 0 96 = some 0 := rfl
  simp only [S123_6, S123_8, S123_9, S123_12, S123_13, S123_14, S123_194, S123_195, S123_198, S123_199, S123_200, Option.bind_some, Option.map_some, xpush_s, xpush_n, xcat_0, xcat_i, xcat_r, xcat_l, xcat_n, xcat_e, xir_r, Nat.reduceAdd, Nat.reduceLeDiff, Nat.zero_le, Nat.le_refl, ↓reduceIte, Dg7, Dr7, ht, hs, hc, Dg9, Dr9, h0]
theorem gv_num (ev : xe) {t len i n : Nat} {cp x y z u : Int32} {l : Option Value} (ht : xix (nI t) 14 = some t) (hs : a 7 t = nI len) (hc : ¬ nI len ≤ nI i) (hx : xix (nI (96 * t + i)) 1344 = some (96 * t + i)) (hp : a 5 (96 * t + i) = cp) (k1 : ¬ (10000 : Int32) ≤ cp) (hxn : xix (nI n) 96 = some n) :
    RF 123 ev 6 [some (.ref 58), some (.int (nI t)), some (.int x), some (.int y), some (.int z), some (.int u), some (.int (nI n)), some (.int (nI i)), l] [] (md a δ κ s w H) = RF 123 ev 6 [some (.ref 58), some (.int (nI t)), some (.int x), some (.int y), some (.int z), some (.int u), some (.int (nI (n + 1))), some (.int (nI (i + 1))), some (.int cp)] [] (md a δ (upd κ n cp) s w H) := by
  rw [gv_a (cp := cp) ev ht hs hc, gv_b ev hx hp, gv_c1 ev k1, gv_c2 ev hxn]
theorem gv_d1 (ev : xe) {t i n : Nat} {cp x y z u : Int32} {h : xh} (k1 : (10000 : Int32) ≤ cp) (k2 : ¬ (20000 : Int32) ≤ cp) :
    RF 123 ev 31 [some (.ref 58), some (.int (nI t)), some (.int x), some (.int y), some (.int z), some (.int u), some (.int (nI n)), some (.int (nI i)), some (.int cp)] [] h = RF 123 ev 62 [some (.ref 58), some (.int (nI t)), some (.int x), some (.int y), some (.int z), some (.int u), some (.int (nI n)), some (.int (nI i)), some (.int cp)] [] h := by
  simp only [S123_31, S123_33, S123_36, S123_54, S123_56, S123_59, k1, k2, ↓reduceIte]
theorem gv_d2 (ev : xe) {t i n : Nat} {cp x y z u v : Int32} {r : Value} {h : xh} (hv : (if cp = 10000 then x else if cp = 10001 then y else if cp = 10002 then z else u) = v) :
    RF 123 ev 68 [some (.ref 58), some (.int (nI t)), some (.int x), some (.int y), some (.int z), some (.int u), some (.int (nI n)), some (.int (nI i)), some (.int cp)] [.int (nI n), r] h = RF 123 ev 107 [some (.ref 58), some (.int (nI t)), some (.int x), some (.int y), some (.int z), some (.int u), some (.int (nI n)), some (.int (nI i)), some (.int cp)] [.int v, .int (nI n), r] h := by
  subst hv
  by_cases q1 : cp = 10000
  · simp only [S123_68, S123_70, S123_73, S123_76, S123_77, if_pos q1]
  · by_cases q2 : cp = 10001
    · simp only [S123_68, S123_70, S123_73, S123_76, S123_77, S123_80, S123_82, S123_85, S123_88, S123_89, if_neg q1, if_pos q2]
    · by_cases q3 : cp = 10002
      · simp only [S123_68, S123_70, S123_73, S123_76, S123_77, S123_80, S123_82, S123_85, S123_88, S123_89, S123_92, S123_94, S123_97, S123_100, S123_102, if_neg q1, if_neg q2, if_pos q3]
      · simp only [S123_68, S123_70, S123_73, S123_76, S123_77, S123_80, S123_82, S123_85, S123_88, S123_89, S123_92, S123_94, S123_97, S123_100, S123_102, S123_105, if_neg q1, if_neg q2, if_neg q3]
theorem gv_d3 (ev : xe) {t i n : Nat} {cp x y z u v : Int32} (hxn : xix (nI n) 96 = some n) (hv : (if cp = 10000 then x else if cp = 10001 then y else if cp = 10002 then z else u) = v) :
    RF 123 ev 62 [some (.ref 58), some (.int (nI t)), some (.int x), some (.int y), some (.int z), some (.int u), some (.int (nI n)), some (.int (nI i)), some (.int cp)] [] (md a δ κ s w H) = RF 123 ev 6 [some (.ref 58), some (.int (nI t)), some (.int x), some (.int y), some (.int z), some (.int u), some (.int (nI (n + 1))), some (.int (nI (i + 1))), some (.int cp)] [] (md a δ (upd κ n v) s w H) := by
  simp only [S123_62, S123_63, S123_66, Option.bind_some, Option.map_some, xpush_s, xpush_n, xcat_0, xcat_i, xcat_r, xcat_l, xcat_n, xcat_e, xir_r, Nat.reduceAdd, Nat.reduceLeDiff, Nat.zero_le, Nat.le_refl, ↓reduceIte, Dg9]
  rw [gv_d2 ev hv]
  simp only [S123_107, S123_108, S123_111, S123_188, S123_191, Option.bind_some, Option.map_some, xpush_s, xpush_n, xcat_0, xcat_i, xcat_r, xcat_l, xcat_n, xcat_e, xir_r, Nat.reduceAdd, Nat.reduceLeDiff, Nat.zero_le, Nat.le_refl, ↓reduceIte, Dw9, hxn, nI_1]
theorem gv_e1 (ev : xe) {t i n : Nat} {cp x y z u : Int32} {h : xh} (k1 : (10000 : Int32) ≤ cp) (k2 : (20000 : Int32) ≤ cp) :
    RF 123 ev 31 [some (.ref 58), some (.int (nI t)), some (.int x), some (.int y), some (.int z), some (.int u), some (.int (nI n)), some (.int (nI i)), some (.int cp)] [] h = RF 123 ev 114 [some (.ref 58), some (.int (nI t)), some (.int x), some (.int y), some (.int z), some (.int u), some (.int (nI n)), some (.int (nI i)), some (.int cp)] [] h := by
  simp only [S123_31, S123_33, S123_36, S123_54, S123_56, S123_59, k1, k2, ↓reduceIte]
theorem gv_e2 (ev : xe) {t i n n1 : Nat} {cp x y z u : Int32} (q1 : cp = 20033) (hm : nI n - 1 = nI n1) (hxn : xix (nI n1) 96 = some n1) :
    RF 123 ev 114 [some (.ref 58), some (.int (nI t)), some (.int x), some (.int y), some (.int z), some (.int u), some (.int (nI n)), some (.int (nI i)), some (.int cp)] [] (md a δ κ s w H) = RF 123 ev 6 [some (.ref 58), some (.int (nI t)), some (.int x), some (.int y), some (.int z), some (.int u), some (.int (nI n)), some (.int (nI (i + 1))), some (.int cp)] [] (md a δ (upd κ n1 (if κ n1 = 0 then 1 else 0)) s w H) := by
  by_cases hz : κ n1 = 0
  · simp only [S123_114, S123_116, S123_119, S123_122, S123_123, S123_126, S123_128, S123_129, S123_130, S123_131, S123_134, S123_136, S123_137, S123_138, S123_139, S123_142, S123_143, S123_146, S123_147, S123_148, S123_188, S123_191, Option.bind_some, Option.map_some, xpush_s, xpush_n, xcat_0, xcat_i, xcat_r, xcat_l, xcat_n, xcat_e, xir_r, Nat.reduceAdd, Nat.reduceLeDiff, Nat.zero_le, Nat.le_refl, ↓reduceIte, if_pos q1, Dg9, Dr9, Dw9, hm, hxn, if_pos hz, nI_1]
  · simp only [S123_114, S123_116, S123_119, S123_122, S123_123, S123_126, S123_128, S123_129, S123_130, S123_131, S123_134, S123_136, S123_137, S123_138, S123_139, S123_142, S123_143, S123_146, S123_147, S123_148, S123_188, S123_191, Option.bind_some, Option.map_some, xpush_s, xpush_n, xcat_0, xcat_i, xcat_r, xcat_l, xcat_n, xcat_e, xir_r, Nat.reduceAdd, Nat.reduceLeDiff, Nat.zero_le, Nat.le_refl, ↓reduceIte, if_pos q1, Dg9, Dr9, Dw9, hm, hxn, if_neg hz, nI_1]
theorem gv_f (ev : xe) {t i n n1 n2 : Nat} {cp x y z u sc r : Int32} (q1 : ¬ cp = 20033) (hm1 : nI n + (-1) = nI n1) (hm2 : nI n1 - 1 = nI n2) (hx1 : xix (nI n1) 96 = some n1) (hx2 : xix (nI n2) 96 = some n2) (hsub : cp - 20000 = sc) (hd : ∀ h, ev 124 [.int sc, .int (κ n2), .int (κ n1)] h = some (some (.int r), h)) :
    RF 123 ev 114 [some (.ref 58), some (.int (nI t)), some (.int x), some (.int y), some (.int z), some (.int u), some (.int (nI n)), some (.int (nI i)), some (.int cp)] [] (md a δ κ s w H) = RF 123 ev 6 [some (.ref 58), some (.int (nI t)), some (.int x), some (.int y), some (.int z), some (.int u), some (.int (nI n1)), some (.int (nI (i + 1))), some (.int cp)] [] (md a δ (upd κ n2 r) s w H) := by
  simp only [S123_114, S123_116, S123_119, S123_151, S123_154, S123_155, S123_158, S123_160, S123_161, S123_162, S123_164, S123_167, S123_168, S123_169, S123_172, S123_174, S123_175, S123_176, S123_177, S123_178, S123_181, S123_183, S123_184, S123_187, S123_188, S123_191, Option.bind_some, Option.map_some, xpush_s, xpush_n, xcat_0, xcat_i, xcat_r, xcat_l, xcat_n, xcat_e, xir_r, Nat.reduceAdd, Nat.reduceLeDiff, Nat.zero_le, Nat.le_refl, ↓reduceIte, Dcls, if_neg q1, Dg9, Dr9, Dw9, hm1, hm2, hx1, hx2, hsub, hd, nI_1]
end GIVES
