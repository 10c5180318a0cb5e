/-! part 70, by program (wip/whole/gen/lawloop.py): the loop of the law -/
theorem e_rd {h : xh} {L : Nat} {xs : Nat → Int32} (hE : h.2.2.2 = x_ext L xs) (hL : L ≤ 3072) {i : Nat} (hi : i < L) : hrd h (.retAddr 0) 0 (nI i) = some (xs i) := by
  unfold hrd hget
  dsimp only
  rw [hE]
  show (match xix (nI i) L with | some j => some (xs j) | none => none) = _
  rw [xix_n hi (by omega)]
theorem e_len {h : xh} {L : Nat} {xs : Nat → Int32} (hE : h.2.2.2 = x_ext L xs) : xalen h (.retAddr 0) = some L := by
  unfold xalen hget
  dsimp only
  rw [hE]
  rfl
theorem ia1 (i : Nat) : nI i + 1 = nI (i + 1) := nI_add i 1
theorem ia2 (i : Nat) : nI i + 2 = nI (i + 2) := nI_add i 2
theorem ia3 (i : Nat) : nI i + 3 = nI (i + 3) := nI_add i 3
theorem ia4 (i : Nat) : nI i + 4 = nI (i + 4) := nI_add i 4
theorem ia5 (i : Nat) : nI i + 5 = nI (i + 5) := nI_add i 5
theorem ia6 (i : Nat) : nI i + 6 = nI (i + 6) := nI_add i 6
theorem x_ir : (xir (.retAddr 0) = true) = True := eq_true rfl
theorem INV_c {m : Nat} {h : xh} (hI : INV m h) : xcls h (.ref 0) = 5 := by
  obtain ⟨δ, τ1, ε, τ2, ζ, τ3, κ, n, l, ke, op, sz, B, S, b, a, s, w, X, rfl, R⟩ := hI
  rfl
def lst (L : Nat) (xs : Nat → Int32) (m i P : Nat) (h : xh) : Prop := ∃ h2, INV (m + 1) h2 ∧ h2.2.2.2 = x_ext L xs ∧ RF 198 (Ev 1000) P [some (.retAddr 0), some (.ref 0), some (.ref 58), some (.int (nI i))] [] h = RF 198 (Ev 1000) 1482 [some (.retAddr 0), some (.ref 0), some (.ref 58), some (.int (nI i))] [] h2
theorem lc_0 {m : Nat} {h : xh} {L i : Nat} {xs : Nat → Int32} (hI : INV m h) (hE : h.2.2.2 = x_ext L xs) (hL : L ≤ 3072) (hi : i + 6 ≤ L) : lst L xs m i 216 h := by
  obtain ⟨v, h1, h2, e1, e2, e3, e4, e5, e6⟩ := k_pencil (xs (i + 1)) (xs (i + 2)) (xs (i + 3)) 800 m h hI
  have f := INV_c hI
  have hE1 := e5.trans hE
  refine ⟨h2, e3, e4.trans hE, ?_⟩
  simp only [S198_216, S198_217, S198_218, S198_219, S198_220, S198_221, S198_222, S198_223, S198_224, S198_225, S198_226, S198_227, S198_228, S198_229, S198_230, S198_231, S198_232, S198_235, S198_236, S198_237, S198_238, S198_239, S198_240, S198_241, S198_242, S198_243, S198_244, S198_245, S198_246, S198_247, S198_248, S198_249, S198_250, S198_251, S198_254, S198_257, Option.bind_some, Option.map_some, xpush_s, xpush_n, xcat_0, xcat_i, xcat_r, xcat_l, xcat_n, xcat_e, xir_r, Nat.reduceAdd, Nat.reduceLeDiff, Nat.zero_le, Nat.le_refl, ↓reduceIte, x_ir, ia1, ia2, ia3, ia4, ia5, e_rd hE hL (show i + 1 < L by omega), e_rd hE1 hL (show i + 1 < L by omega), e_rd hE hL (show i + 2 < L by omega), e_rd hE1 hL (show i + 2 < L by omega), e_rd hE hL (show i + 3 < L by omega), e_rd hE1 hL (show i + 3 < L by omega), f, e6, e1, e2]
theorem lc_1 {m : Nat} {h : xh} {L i : Nat} {xs : Nat → Int32} (hI : INV m h) (hE : h.2.2.2 = x_ext L xs) (hL : L ≤ 3072) (hi : i + 6 ≤ L) : lst L xs m i 259 h := by
  obtain ⟨v, h1, h2, e1, e2, e3, e4, e5, e6⟩ := k_told (xs (i + 1)) (xs (i + 2)) 800 m h hI
  have f := INV_c hI
  have hE1 := e5.trans hE
  refine ⟨h2, e3, e4.trans hE, ?_⟩
  simp only [S198_259, S198_260, S198_261, S198_262, S198_263, S198_264, S198_265, S198_266, S198_267, S198_268, S198_269, S198_270, S198_273, S198_274, S198_275, S198_276, S198_277, S198_278, S198_279, S198_280, S198_281, S198_282, S198_283, S198_284, S198_287, S198_290, Option.bind_some, Option.map_some, xpush_s, xpush_n, xcat_0, xcat_i, xcat_r, xcat_l, xcat_n, xcat_e, xir_r, Nat.reduceAdd, Nat.reduceLeDiff, Nat.zero_le, Nat.le_refl, ↓reduceIte, x_ir, ia1, ia2, ia3, ia4, ia5, e_rd hE hL (show i + 1 < L by omega), e_rd hE1 hL (show i + 1 < L by omega), e_rd hE hL (show i + 2 < L by omega), e_rd hE1 hL (show i + 2 < L by omega), f, e6, e1, e2]
theorem lc_2 {m : Nat} {h : xh} {L i : Nat} {xs : Nat → Int32} (hI : INV m h) (hE : h.2.2.2 = x_ext L xs) (hL : L ≤ 3072) (hi : i + 6 ≤ L) : lst L xs m i 292 h := by
  obtain ⟨v, h1, h2, e1, e2, e3, e4, e5, e6⟩ := k_as (xs (i + 1)) (xs (i + 2)) 800 m h hI
  have f := INV_c hI
  have hE1 := e5.trans hE
  refine ⟨h2, e3, e4.trans hE, ?_⟩
  simp only [S198_292, S198_293, S198_294, S198_295, S198_296, S198_297, S198_298, S198_299, S198_300, S198_301, S198_302, S198_303, S198_306, S198_307, S198_308, S198_309, S198_310, S198_311, S198_312, S198_313, S198_314, S198_315, S198_316, S198_317, S198_320, S198_323, Option.bind_some, Option.map_some, xpush_s, xpush_n, xcat_0, xcat_i, xcat_r, xcat_l, xcat_n, xcat_e, xir_r, Nat.reduceAdd, Nat.reduceLeDiff, Nat.zero_le, Nat.le_refl, ↓reduceIte, x_ir, ia1, ia2, ia3, ia4, ia5, e_rd hE hL (show i + 1 < L by omega), e_rd hE1 hL (show i + 1 < L by omega), e_rd hE hL (show i + 2 < L by omega), e_rd hE1 hL (show i + 2 < L by omega), f, e6, e1, e2]
theorem lc_3 {m : Nat} {h : xh} {L i : Nat} {xs : Nat → Int32} (hI : INV m h) (hE : h.2.2.2 = x_ext L xs) (hL : L ≤ 3072) (hi : i + 6 ≤ L) : lst L xs m i 325 h := by
  obtain ⟨v, h1, h2, e1, e2, e3, e4, e5, e6⟩ := k_turns (xs (i + 1)) (xs (i + 2)) 800 m h hI
  have f := INV_c hI
  have hE1 := e5.trans hE
  refine ⟨h2, e3, e4.trans hE, ?_⟩
  simp only [S198_325, S198_326, S198_327, S198_328, S198_329, S198_330, S198_331, S198_332, S198_333, S198_334, S198_335, S198_336, S198_339, S198_340, S198_341, S198_342, S198_343, S198_344, S198_345, S198_346, S198_347, S198_348, S198_349, S198_350, S198_353, S198_356, Option.bind_some, Option.map_some, xpush_s, xpush_n, xcat_0, xcat_i, xcat_r, xcat_l, xcat_n, xcat_e, xir_r, Nat.reduceAdd, Nat.reduceLeDiff, Nat.zero_le, Nat.le_refl, ↓reduceIte, x_ir, ia1, ia2, ia3, ia4, ia5, e_rd hE hL (show i + 1 < L by omega), e_rd hE1 hL (show i + 1 < L by omega), e_rd hE hL (show i + 2 < L by omega), e_rd hE1 hL (show i + 2 < L by omega), f, e6, e1, e2]
theorem lc_4 {m : Nat} {h : xh} {L i : Nat} {xs : Nat → Int32} (hI : INV m h) (hE : h.2.2.2 = x_ext L xs) (hL : L ≤ 3072) (hi : i + 6 ≤ L) : lst L xs m i 358 h := by
  obtain ⟨v, h1, h2, e1, e2, e3, e4, e5, e6⟩ := k_set (xs (i + 1)) (xs (i + 2)) (xs (i + 3)) 800 m h hI
  have f := INV_c hI
  have hE1 := e5.trans hE
  refine ⟨h2, e3, e4.trans hE, ?_⟩
  simp only [S198_358, S198_359, S198_360, S198_361, S198_362, S198_363, S198_364, S198_365, S198_366, S198_367, S198_368, S198_369, S198_370, S198_371, S198_372, S198_373, S198_374, S198_377, S198_378, S198_379, S198_380, S198_381, S198_382, S198_383, S198_384, S198_385, S198_386, S198_387, S198_388, S198_389, S198_390, S198_391, S198_392, S198_393, S198_396, S198_399, Option.bind_some, Option.map_some, xpush_s, xpush_n, xcat_0, xcat_i, xcat_r, xcat_l, xcat_n, xcat_e, xir_r, Nat.reduceAdd, Nat.reduceLeDiff, Nat.zero_le, Nat.le_refl, ↓reduceIte, x_ir, ia1, ia2, ia3, ia4, ia5, e_rd hE hL (show i + 1 < L by omega), e_rd hE1 hL (show i + 1 < L by omega), e_rd hE hL (show i + 2 < L by omega), e_rd hE1 hL (show i + 2 < L by omega), e_rd hE hL (show i + 3 < L by omega), e_rd hE1 hL (show i + 3 < L by omega), f, e6, e1, e2]
theorem lc_5 {m : Nat} {h : xh} {L i : Nat} {xs : Nat → Int32} (hI : INV m h) (hE : h.2.2.2 = x_ext L xs) (hL : L ≤ 3072) (hi : i + 6 ≤ L) : lst L xs m i 401 h := by
  obtain ⟨v, h1, h2, e1, e2, e3, e4, e5, e6⟩ := k_water (xs (i + 1)) (xs (i + 2)) 800 m h hI
  have f := INV_c hI
  have hE1 := e5.trans hE
  refine ⟨h2, e3, e4.trans hE, ?_⟩
  simp only [S198_401, S198_402, S198_403, S198_404, S198_405, S198_406, S198_407, S198_408, S198_409, S198_410, S198_411, S198_412, S198_415, S198_416, S198_417, S198_418, S198_419, S198_420, S198_421, S198_422, S198_423, S198_424, S198_425, S198_426, S198_429, S198_432, Option.bind_some, Option.map_some, xpush_s, xpush_n, xcat_0, xcat_i, xcat_r, xcat_l, xcat_n, xcat_e, xir_r, Nat.reduceAdd, Nat.reduceLeDiff, Nat.zero_le, Nat.le_refl, ↓reduceIte, x_ir, ia1, ia2, ia3, ia4, ia5, e_rd hE hL (show i + 1 < L by omega), e_rd hE1 hL (show i + 1 < L by omega), e_rd hE hL (show i + 2 < L by omega), e_rd hE1 hL (show i + 2 < L by omega), f, e6, e1, e2]
theorem lc_6 {m : Nat} {h : xh} {L i : Nat} {xs : Nat → Int32} (hI : INV m h) (hE : h.2.2.2 = x_ext L xs) (hL : L ≤ 3072) (hi : i + 6 ≤ L) : lst L xs m i 434 h := by
  obtain ⟨v, h1, h2, e1, e2, e3, e4, e5, e6⟩ := k_reachOf (xs (i + 1)) (xs (i + 2)) 800 m h hI
  have f := INV_c hI
  have hE1 := e5.trans hE
  refine ⟨h2, e3, e4.trans hE, ?_⟩
  simp only [S198_434, S198_435, S198_436, S198_437, S198_438, S198_439, S198_440, S198_441, S198_442, S198_443, S198_444, S198_445, S198_448, S198_449, S198_450, S198_451, S198_452, S198_453, S198_454, S198_455, S198_456, S198_457, S198_458, S198_459, S198_462, S198_465, Option.bind_some, Option.map_some, xpush_s, xpush_n, xcat_0, xcat_i, xcat_r, xcat_l, xcat_n, xcat_e, xir_r, Nat.reduceAdd, Nat.reduceLeDiff, Nat.zero_le, Nat.le_refl, ↓reduceIte, x_ir, ia1, ia2, ia3, ia4, ia5, e_rd hE hL (show i + 1 < L by omega), e_rd hE1 hL (show i + 1 < L by omega), e_rd hE hL (show i + 2 < L by omega), e_rd hE1 hL (show i + 2 < L by omega), f, e6, e1, e2]
theorem lc_7 {m : Nat} {h : xh} {L i : Nat} {xs : Nat → Int32} (hI : INV m h) (hE : h.2.2.2 = x_ext L xs) (hL : L ≤ 3072) (hi : i + 6 ≤ L) : lst L xs m i 467 h := by
  obtain ⟨v, h1, h2, e1, e2, e3, e4, e5, e6⟩ := k_rule (xs (i + 1)) (xs (i + 2)) 800 m h hI
  have f := INV_c hI
  have hE1 := e5.trans hE
  refine ⟨h2, e3, e4.trans hE, ?_⟩
  simp only [S198_467, S198_468, S198_469, S198_470, S198_471, S198_472, S198_473, S198_474, S198_475, S198_476, S198_477, S198_478, S198_481, S198_482, S198_483, S198_484, S198_485, S198_486, S198_487, S198_488, S198_489, S198_490, S198_491, S198_492, S198_495, S198_498, Option.bind_some, Option.map_some, xpush_s, xpush_n, xcat_0, xcat_i, xcat_r, xcat_l, xcat_n, xcat_e, xir_r, Nat.reduceAdd, Nat.reduceLeDiff, Nat.zero_le, Nat.le_refl, ↓reduceIte, x_ir, ia1, ia2, ia3, ia4, ia5, e_rd hE hL (show i + 1 < L by omega), e_rd hE1 hL (show i + 1 < L by omega), e_rd hE hL (show i + 2 < L by omega), e_rd hE1 hL (show i + 2 < L by omega), f, e6, e1, e2]
theorem lc_8 {m : Nat} {h : xh} {L i : Nat} {xs : Nat → Int32} (hI : INV m h) (hE : h.2.2.2 = x_ext L xs) (hL : L ≤ 3072) (hi : i + 6 ≤ L) : lst L xs m i 500 h := by
  obtain ⟨v, h1, h2, e1, e2, e3, e4, e5, e6⟩ := k_deal (xs (i + 1)) 800 m h hI
  have f := INV_c hI
  have hE1 := e5.trans hE
  refine ⟨h2, e3, e4.trans hE, ?_⟩
  simp only [S198_500, S198_501, S198_502, S198_503, S198_504, S198_505, S198_506, S198_509, S198_510, S198_511, S198_512, S198_513, S198_514, S198_515, S198_518, S198_521, Option.bind_some, Option.map_some, xpush_s, xpush_n, xcat_0, xcat_i, xcat_r, xcat_l, xcat_n, xcat_e, xir_r, Nat.reduceAdd, Nat.reduceLeDiff, Nat.zero_le, Nat.le_refl, ↓reduceIte, x_ir, ia1, ia2, ia3, ia4, ia5, e_rd hE hL (show i + 1 < L by omega), e_rd hE1 hL (show i + 1 < L by omega), f, e6, e1, e2]
theorem lc_9 {m : Nat} {h : xh} {L i : Nat} {xs : Nat → Int32} (hI : INV m h) (hE : h.2.2.2 = x_ext L xs) (hL : L ≤ 3072) (hi : i + 6 ≤ L) : lst L xs m i 523 h := by
  obtain ⟨v, h1, h2, e1, e2, e3, e4, e5, e6⟩ := k_seed (xs (i + 1)) 800 m h hI
  have f := INV_c hI
  have hE1 := e5.trans hE
  refine ⟨h2, e3, e4.trans hE, ?_⟩
  simp only [S198_523, S198_524, S198_525, S198_526, S198_527, S198_528, S198_529, S198_532, S198_533, S198_534, S198_535, S198_536, S198_537, S198_538, S198_541, S198_544, Option.bind_some, Option.map_some, xpush_s, xpush_n, xcat_0, xcat_i, xcat_r, xcat_l, xcat_n, xcat_e, xir_r, Nat.reduceAdd, Nat.reduceLeDiff, Nat.zero_le, Nat.le_refl, ↓reduceIte, x_ir, ia1, ia2, ia3, ia4, ia5, e_rd hE hL (show i + 1 < L by omega), e_rd hE1 hL (show i + 1 < L by omega), f, e6, e1, e2]
theorem lc_10 {m : Nat} {h : xh} {L i : Nat} {xs : Nat → Int32} (hI : INV m h) (hE : h.2.2.2 = x_ext L xs) (hL : L ≤ 3072) (hi : i + 6 ≤ L) : lst L xs m i 546 h := by
  obtain ⟨v, h1, h2, e1, e2, e3, e4, e5, e6⟩ := k_runs  800 m h hI
  have f := INV_c hI
  have hE1 := e5.trans hE
  refine ⟨h2, e3, e4.trans hE, ?_⟩
  simp only [S198_546, S198_547, S198_550, S198_551, S198_554, S198_557, Option.bind_some, Option.map_some, xpush_s, xpush_n, xcat_0, xcat_i, xcat_r, xcat_l, xcat_n, xcat_e, xir_r, Nat.reduceAdd, Nat.reduceLeDiff, Nat.zero_le, Nat.le_refl, ↓reduceIte, x_ir, ia1, ia2, ia3, ia4, ia5, f, e6, e1, e2]
theorem lc_11 {m : Nat} {h : xh} {L i : Nat} {xs : Nat → Int32} (hI : INV m h) (hE : h.2.2.2 = x_ext L xs) (hL : L ≤ 3072) (hi : i + 6 ≤ L) : lst L xs m i 559 h := by
  obtain ⟨v, h1, h2, e1, e2, e3, e4, e5, e6⟩ := k_months (xs (i + 1)) 800 m h hI
  have f := INV_c hI
  have hE1 := e5.trans hE
  refine ⟨h2, e3, e4.trans hE, ?_⟩
  simp only [S198_559, S198_560, S198_561, S198_562, S198_563, S198_564, S198_565, S198_568, S198_569, S198_570, S198_571, S198_572, S198_573, S198_574, S198_577, S198_580, Option.bind_some, Option.map_some, xpush_s, xpush_n, xcat_0, xcat_i, xcat_r, xcat_l, xcat_n, xcat_e, xir_r, Nat.reduceAdd, Nat.reduceLeDiff, Nat.zero_le, Nat.le_refl, ↓reduceIte, x_ir, ia1, ia2, ia3, ia4, ia5, e_rd hE hL (show i + 1 < L by omega), e_rd hE1 hL (show i + 1 < L by omega), f, e6, e1, e2]
theorem lc_12 {m : Nat} {h : xh} {L i : Nat} {xs : Nat → Int32} (hI : INV m h) (hE : h.2.2.2 = x_ext L xs) (hL : L ≤ 3072) (hi : i + 6 ≤ L) : lst L xs m i 582 h := by
  obtain ⟨v, h1, h2, e1, e2, e3, e4, e5, e6⟩ := k_river (xs (i + 1)) 800 m h hI
  have f := INV_c hI
  have hE1 := e5.trans hE
  refine ⟨h2, e3, e4.trans hE, ?_⟩
  simp only [S198_582, S198_583, S198_584, S198_585, S198_586, S198_587, S198_588, S198_591, S198_592, S198_593, S198_594, S198_595, S198_596, S198_597, S198_600, S198_603, Option.bind_some, Option.map_some, xpush_s, xpush_n, xcat_0, xcat_i, xcat_r, xcat_l, xcat_n, xcat_e, xir_r, Nat.reduceAdd, Nat.reduceLeDiff, Nat.zero_le, Nat.le_refl, ↓reduceIte, x_ir, ia1, ia2, ia3, ia4, ia5, e_rd hE hL (show i + 1 < L by omega), e_rd hE1 hL (show i + 1 < L by omega), f, e6, e1, e2]
theorem lc_13 {m : Nat} {h : xh} {L i : Nat} {xs : Nat → Int32} (hI : INV m h) (hE : h.2.2.2 = x_ext L xs) (hL : L ≤ 3072) (hi : i + 6 ≤ L) : lst L xs m i 605 h := by
  obtain ⟨v, h1, h2, e1, e2, e3, e4, e5, e6⟩ := k_behind (xs (i + 1)) (xs (i + 2)) 800 m h hI
  have f := INV_c hI
  have hE1 := e5.trans hE
  refine ⟨h2, e3, e4.trans hE, ?_⟩
  simp only [S198_605, S198_606, S198_607, S198_608, S198_609, S198_610, S198_611, S198_612, S198_613, S198_614, S198_615, S198_616, S198_619, S198_620, S198_621, S198_622, S198_623, S198_624, S198_625, S198_626, S198_627, S198_628, S198_629, S198_630, S198_633, S198_636, Option.bind_some, Option.map_some, xpush_s, xpush_n, xcat_0, xcat_i, xcat_r, xcat_l, xcat_n, xcat_e, xir_r, Nat.reduceAdd, Nat.reduceLeDiff, Nat.zero_le, Nat.le_refl, ↓reduceIte, x_ir, ia1, ia2, ia3, ia4, ia5, e_rd hE hL (show i + 1 < L by omega), e_rd hE1 hL (show i + 1 < L by omega), e_rd hE hL (show i + 2 < L by omega), e_rd hE1 hL (show i + 2 < L by omega), f, e6, e1, e2]
theorem lc_14 {m : Nat} {h : xh} {L i : Nat} {xs : Nat → Int32} (hI : INV m h) (hE : h.2.2.2 = x_ext L xs) (hL : L ≤ 3072) (hi : i + 6 ≤ L) : lst L xs m i 638 h := by
  obtain ⟨v, h1, h2, e1, e2, e3, e4, e5, e6⟩ := k_dries (xs (i + 1)) 800 m h hI
  have f := INV_c hI
  have hE1 := e5.trans hE
  refine ⟨h2, e3, e4.trans hE, ?_⟩
  simp only [S198_638, S198_639, S198_640, S198_641, S198_642, S198_643, S198_644, S198_647, S198_648, S198_649, S198_650, S198_651, S198_652, S198_653, S198_656, S198_659, Option.bind_some, Option.map_some, xpush_s, xpush_n, xcat_0, xcat_i, xcat_r, xcat_l, xcat_n, xcat_e, xir_r, Nat.reduceAdd, Nat.reduceLeDiff, Nat.zero_le, Nat.le_refl, ↓reduceIte, x_ir, ia1, ia2, ia3, ia4, ia5, e_rd hE hL (show i + 1 < L by omega), e_rd hE1 hL (show i + 1 < L by omega), f, e6, e1, e2]
theorem lc_15 {m : Nat} {h : xh} {L i : Nat} {xs : Nat → Int32} (hI : INV m h) (hE : h.2.2.2 = x_ext L xs) (hL : L ≤ 3072) (hi : i + 6 ≤ L) : lst L xs m i 661 h := by
  obtain ⟨v, h1, h2, e1, e2, e3, e4, e5, e6⟩ := k_rises (xs (i + 1)) (xs (i + 2)) 800 m h hI
  have f := INV_c hI
  have hE1 := e5.trans hE
  refine ⟨h2, e3, e4.trans hE, ?_⟩
  simp only [S198_661, S198_662, S198_663, S198_664, S198_665, S198_666, S198_667, S198_668, S198_669, S198_670, S198_671, S198_672, S198_675, S198_676, S198_677, S198_678, S198_679, S198_680, S198_681, S198_682, S198_683, S198_684, S198_685, S198_686, S198_689, S198_692, Option.bind_some, Option.map_some, xpush_s, xpush_n, xcat_0, xcat_i, xcat_r, xcat_l, xcat_n, xcat_e, xir_r, Nat.reduceAdd, Nat.reduceLeDiff, Nat.zero_le, Nat.le_refl, ↓reduceIte, x_ir, ia1, ia2, ia3, ia4, ia5, e_rd hE hL (show i + 1 < L by omega), e_rd hE1 hL (show i + 1 < L by omega), e_rd hE hL (show i + 2 < L by omega), e_rd hE1 hL (show i + 2 < L by omega), f, e6, e1, e2]
theorem lc_16 {m : Nat} {h : xh} {L i : Nat} {xs : Nat → Int32} (hI : INV m h) (hE : h.2.2.2 = x_ext L xs) (hL : L ≤ 3072) (hi : i + 6 ≤ L) : lst L xs m i 694 h := by
  obtain ⟨v, h1, h2, e1, e2, e3, e4, e5, e6⟩ := k_rub (xs (i + 1)) 800 m h hI
  have f := INV_c hI
  have hE1 := e5.trans hE
  refine ⟨h2, e3, e4.trans hE, ?_⟩
  simp only [S198_694, S198_695, S198_696, S198_697, S198_698, S198_699, S198_700, S198_703, S198_704, S198_705, S198_706, S198_707, S198_708, S198_709, S198_712, S198_715, Option.bind_some, Option.map_some, xpush_s, xpush_n, xcat_0, xcat_i, xcat_r, xcat_l, xcat_n, xcat_e, xir_r, Nat.reduceAdd, Nat.reduceLeDiff, Nat.zero_le, Nat.le_refl, ↓reduceIte, x_ir, ia1, ia2, ia3, ia4, ia5, e_rd hE hL (show i + 1 < L by omega), e_rd hE1 hL (show i + 1 < L by omega), f, e6, e1, e2]
theorem lc_17 {m : Nat} {h : xh} {L i : Nat} {xs : Nat → Int32} (hI : INV m h) (hE : h.2.2.2 = x_ext L xs) (hL : L ≤ 3072) (hi : i + 6 ≤ L) : lst L xs m i 717 h := by
  obtain ⟨v, h1, h2, e1, e2, e3, e4, e5, e6⟩ := k_ink (xs (i + 1)) (xs (i + 2)) (xs (i + 3)) 800 m h hI
  have f := INV_c hI
  have hE1 := e5.trans hE
  refine ⟨h2, e3, e4.trans hE, ?_⟩
  simp only [S198_717, S198_718, S198_719, S198_720, S198_721, S198_722, S198_723, S198_724, S198_725, S198_726, S198_727, S198_728, S198_729, S198_730, S198_731, S198_732, S198_733, S198_736, S198_737, S198_738, S198_739, S198_740, S198_741, S198_742, S198_743, S198_744, S198_745, S198_746, S198_747, S198_748, S198_749, S198_750, S198_751, S198_752, S198_755, S198_758, Option.bind_some, Option.map_some, xpush_s, xpush_n, xcat_0, xcat_i, xcat_r, xcat_l, xcat_n, xcat_e, xir_r, Nat.reduceAdd, Nat.reduceLeDiff, Nat.zero_le, Nat.le_refl, ↓reduceIte, x_ir, ia1, ia2, ia3, ia4, ia5, e_rd hE hL (show i + 1 < L by omega), e_rd hE1 hL (show i + 1 < L by omega), e_rd hE hL (show i + 2 < L by omega), e_rd hE1 hL (show i + 2 < L by omega), e_rd hE hL (show i + 3 < L by omega), e_rd hE1 hL (show i + 3 < L by omega), f, e6, e1, e2]
theorem lc_18 {m : Nat} {h : xh} {L i : Nat} {xs : Nat → Int32} (hI : INV m h) (hE : h.2.2.2 = x_ext L xs) (hL : L ≤ 3072) (hi : i + 6 ≤ L) : lst L xs m i 760 h := by
  obtain ⟨v, h1, h2, e1, e2, e3, e4, e5, e6⟩ := k_place (xs (i + 1)) (xs (i + 2)) (xs (i + 3)) 800 m h hI
  have f := INV_c hI
  have hE1 := e5.trans hE
  refine ⟨h2, e3, e4.trans hE, ?_⟩
  simp only [S198_760, S198_761, S198_762, S198_763, S198_764, S198_765, S198_766, S198_767, S198_768, S198_769, S198_770, S198_771, S198_772, S198_773, S198_774, S198_775, S198_776, S198_779, S198_780, S198_781, S198_782, S198_783, S198_784, S198_785, S198_786, S198_787, S198_788, S198_789, S198_790, S198_791, S198_792, S198_793, S198_794, S198_795, S198_798, S198_801, Option.bind_some, Option.map_some, xpush_s, xpush_n, xcat_0, xcat_i, xcat_r, xcat_l, xcat_n, xcat_e, xir_r, Nat.reduceAdd, Nat.reduceLeDiff, Nat.zero_le, Nat.le_refl, ↓reduceIte, x_ir, ia1, ia2, ia3, ia4, ia5, e_rd hE hL (show i + 1 < L by omega), e_rd hE1 hL (show i + 1 < L by omega), e_rd hE hL (show i + 2 < L by omega), e_rd hE1 hL (show i + 2 < L by omega), e_rd hE hL (show i + 3 < L by omega), e_rd hE1 hL (show i + 3 < L by omega), f, e6, e1, e2]
theorem lc_19 {m : Nat} {h : xh} {L i : Nat} {xs : Nat → Int32} (hI : INV m h) (hE : h.2.2.2 = x_ext L xs) (hL : L ≤ 3072) (hi : i + 6 ≤ L) : lst L xs m i 803 h := by
  obtain ⟨v, h1, h2, e1, e2, e3, e4, e5, e6⟩ := k_becomes (xs (i + 1)) (xs (i + 2)) (xs (i + 3)) 800 m h hI
  have f := INV_c hI
  have hE1 := e5.trans hE
  refine ⟨h2, e3, e4.trans hE, ?_⟩
  simp only [S198_803, S198_804, S198_805, S198_806, S198_807, S198_808, S198_809, S198_810, S198_811, S198_812, S198_813, S198_814, S198_815, S198_816, S198_817, S198_818, S198_819, S198_822, S198_823, S198_824, S198_825, S198_826, S198_827, S198_828, S198_829, S198_830, S198_831, S198_832, S198_833, S198_834, S198_835, S198_836, S198_837, S198_838, S198_841, S198_844, Option.bind_some, Option.map_some, xpush_s, xpush_n, xcat_0, xcat_i, xcat_r, xcat_l, xcat_n, xcat_e, xir_r, Nat.reduceAdd, Nat.reduceLeDiff, Nat.zero_le, Nat.le_refl, ↓reduceIte, x_ir, ia1, ia2, ia3, ia4, ia5, e_rd hE hL (show i + 1 < L by omega), e_rd hE1 hL (show i + 1 < L by omega), e_rd hE hL (show i + 2 < L by omega), e_rd hE1 hL (show i + 2 < L by omega), e_rd hE hL (show i + 3 < L by omega), e_rd hE1 hL (show i + 3 < L by omega), f, e6, e1, e2]
theorem lc_20 {m : Nat} {h : xh} {L i : Nat} {xs : Nat → Int32} (hI : INV m h) (hE : h.2.2.2 = x_ext L xs) (hL : L ≤ 3072) (hi : i + 6 ≤ L) : lst L xs m i 846 h := by
  obtain ⟨v, h1, h2, e1, e2, e3, e4, e5, e6⟩ := k_like (xs (i + 1)) (xs (i + 2)) 800 m h hI
  have f := INV_c hI
  have hE1 := e5.trans hE
  refine ⟨h2, e3, e4.trans hE, ?_⟩
  simp only [S198_846, S198_847, S198_848, S198_849, S198_850, S198_851, S198_852, S198_853, S198_854, S198_855, S198_856, S198_857, S198_860, S198_861, S198_862, S198_863, S198_864, S198_865, S198_866, S198_867, S198_868, S198_869, S198_870, S198_871, S198_874, S198_877, Option.bind_some, Option.map_some, xpush_s, xpush_n, xcat_0, xcat_i, xcat_r, xcat_l, xcat_n, xcat_e, xir_r, Nat.reduceAdd, Nat.reduceLeDiff, Nat.zero_le, Nat.le_refl, ↓reduceIte, x_ir, ia1, ia2, ia3, ia4, ia5, e_rd hE hL (show i + 1 < L by omega), e_rd hE1 hL (show i + 1 < L by omega), e_rd hE hL (show i + 2 < L by omega), e_rd hE1 hL (show i + 2 < L by omega), f, e6, e1, e2]
theorem lc_21 {m : Nat} {h : xh} {L i : Nat} {xs : Nat → Int32} (hI : INV m h) (hE : h.2.2.2 = x_ext L xs) (hL : L ≤ 3072) (hi : i + 6 ≤ L) : lst L xs m i 879 h := by
  obtain ⟨v, h1, h2, e1, e2, e3, e4, e5, e6⟩ := k_fee  800 m h hI
  have f := INV_c hI
  have hE1 := e5.trans hE
  refine ⟨h2, e3, e4.trans hE, ?_⟩
  simp only [S198_879, S198_880, S198_883, S198_884, S198_887, S198_890, Option.bind_some, Option.map_some, xpush_s, xpush_n, xcat_0, xcat_i, xcat_r, xcat_l, xcat_n, xcat_e, xir_r, Nat.reduceAdd, Nat.reduceLeDiff, Nat.zero_le, Nat.le_refl, ↓reduceIte, x_ir, ia1, ia2, ia3, ia4, ia5, f, e6, e1, e2]
theorem lc_22 {m : Nat} {h : xh} {L i : Nat} {xs : Nat → Int32} (hI : INV m h) (hE : h.2.2.2 = x_ext L xs) (hL : L ≤ 3072) (hi : i + 6 ≤ L) : lst L xs m i 892 h := by
  obtain ⟨v, h1, h2, e1, e2, e3, e4, e5, e6⟩ := k_fine (xs (i + 1)) 800 m h hI
  have f := INV_c hI
  have hE1 := e5.trans hE
  refine ⟨h2, e3, e4.trans hE, ?_⟩
  simp only [S198_892, S198_893, S198_894, S198_895, S198_896, S198_897, S198_898, S198_901, S198_902, S198_903, S198_904, S198_905, S198_906, S198_907, S198_910, S198_913, Option.bind_some, Option.map_some, xpush_s, xpush_n, xcat_0, xcat_i, xcat_r, xcat_l, xcat_n, xcat_e, xir_r, Nat.reduceAdd, Nat.reduceLeDiff, Nat.zero_le, Nat.le_refl, ↓reduceIte, x_ir, ia1, ia2, ia3, ia4, ia5, e_rd hE hL (show i + 1 < L by omega), e_rd hE1 hL (show i + 1 < L by omega), f, e6, e1, e2]
theorem lc_23 {m : Nat} {h : xh} {L i : Nat} {xs : Nat → Int32} (hI : INV m h) (hE : h.2.2.2 = x_ext L xs) (hL : L ≤ 3072) (hi : i + 6 ≤ L) : lst L xs m i 915 h := by
  obtain ⟨v, h1, h2, e1, e2, e3, e4, e5, e6⟩ := k_feed (xs (i + 1)) (xs (i + 2)) (xs (i + 3)) 800 m h hI
  have f := INV_c hI
  have hE1 := e5.trans hE
  refine ⟨h2, e3, e4.trans hE, ?_⟩
  simp only [S198_915, S198_916, S198_917, S198_918, S198_919, S198_920, S198_921, S198_922, S198_923, S198_924, S198_925, S198_926, S198_927, S198_928, S198_929, S198_930, S198_931, S198_934, S198_935, S198_936, S198_937, S198_938, S198_939, S198_940, S198_941, S198_942, S198_943, S198_944, S198_945, S198_946, S198_947, S198_948, S198_949, S198_950, S198_953, S198_956, Option.bind_some, Option.map_some, xpush_s, xpush_n, xcat_0, xcat_i, xcat_r, xcat_l, xcat_n, xcat_e, xir_r, Nat.reduceAdd, Nat.reduceLeDiff, Nat.zero_le, Nat.le_refl, ↓reduceIte, x_ir, ia1, ia2, ia3, ia4, ia5, e_rd hE hL (show i + 1 < L by omega), e_rd hE1 hL (show i + 1 < L by omega), e_rd hE hL (show i + 2 < L by omega), e_rd hE1 hL (show i + 2 < L by omega), e_rd hE hL (show i + 3 < L by omega), e_rd hE1 hL (show i + 3 < L by omega), f, e6, e1, e2]
theorem lc_24 {m : Nat} {h : xh} {L i : Nat} {xs : Nat → Int32} (hI : INV m h) (hE : h.2.2.2 = x_ext L xs) (hL : L ≤ 3072) (hi : i + 6 ≤ L) : lst L xs m i 958 h := by
  obtain ⟨v, h1, h2, e1, e2, e3, e4, e5, e6⟩ := k_trim (xs (i + 1)) 800 m h hI
  have f := INV_c hI
  have hE1 := e5.trans hE
  refine ⟨h2, e3, e4.trans hE, ?_⟩
  simp only [S198_958, S198_959, S198_960, S198_961, S198_962, S198_963, S198_964, S198_967, S198_968, S198_969, S198_970, S198_971, S198_972, S198_973, S198_976, S198_979, Option.bind_some, Option.map_some, xpush_s, xpush_n, xcat_0, xcat_i, xcat_r, xcat_l, xcat_n, xcat_e, xir_r, Nat.reduceAdd, Nat.reduceLeDiff, Nat.zero_le, Nat.le_refl, ↓reduceIte, x_ir, ia1, ia2, ia3, ia4, ia5, e_rd hE hL (show i + 1 < L by omega), e_rd hE1 hL (show i + 1 < L by omega), f, e6, e1, e2]
theorem lc_25 {m : Nat} {h : xh} {L i : Nat} {xs : Nat → Int32} (hI : INV m h) (hE : h.2.2.2 = x_ext L xs) (hL : L ≤ 3072) (hi : i + 6 ≤ L) : lst L xs m i 981 h := by
  obtain ⟨v, h1, h2, e1, e2, e3, e4, e5, e6⟩ := k_text  800 m h hI
  have f := INV_c hI
  have hE1 := e5.trans hE
  refine ⟨h2, e3, e4.trans hE, ?_⟩
  simp only [S198_981, S198_982, S198_985, S198_986, S198_989, S198_992, Option.bind_some, Option.map_some, xpush_s, xpush_n, xcat_0, xcat_i, xcat_r, xcat_l, xcat_n, xcat_e, xir_r, Nat.reduceAdd, Nat.reduceLeDiff, Nat.zero_le, Nat.le_refl, ↓reduceIte, x_ir, ia1, ia2, ia3, ia4, ia5, f, e6, e1, e2]
theorem lc_26 {m : Nat} {h : xh} {L i : Nat} {xs : Nat → Int32} (hI : INV m h) (hE : h.2.2.2 = x_ext L xs) (hL : L ≤ 3072) (hi : i + 6 ≤ L) : lst L xs m i 994 h := by
  obtain ⟨v, h1, h2, e1, e2, e3, e4, e5, e6⟩ := k_textTold (xs (i + 1)) (xs (i + 2)) 800 m h hI
  have f := INV_c hI
  have hE1 := e5.trans hE
  refine ⟨h2, e3, e4.trans hE, ?_⟩
  simp only [S198_994, S198_995, S198_996, S198_997, S198_998, S198_999, S198_1000, S198_1001, S198_1002, S198_1003, S198_1004, S198_1005, S198_1008, S198_1009, S198_1010, S198_1011, S198_1012, S198_1013, S198_1014, S198_1015, S198_1016, S198_1017, S198_1018, S198_1019, S198_1022, S198_1025, Option.bind_some, Option.map_some, xpush_s, xpush_n, xcat_0, xcat_i, xcat_r, xcat_l, xcat_n, xcat_e, xir_r, Nat.reduceAdd, Nat.reduceLeDiff, Nat.zero_le, Nat.le_refl, ↓reduceIte, x_ir, ia1, ia2, ia3, ia4, ia5, e_rd hE hL (show i + 1 < L by omega), e_rd hE1 hL (show i + 1 < L by omega), e_rd hE hL (show i + 2 < L by omega), e_rd hE1 hL (show i + 2 < L by omega), f, e6, e1, e2]
theorem lc_27 {m : Nat} {h : xh} {L i : Nat} {xs : Nat → Int32} (hI : INV m h) (hE : h.2.2.2 = x_ext L xs) (hL : L ≤ 3072) (hi : i + 6 ≤ L) : lst L xs m i 1027 h := by
  obtain ⟨v, h1, h2, e1, e2, e3, e4, e5, e6⟩ := k_why (xs (i + 1)) 800 m h hI
  have f := INV_c hI
  have hE1 := e5.trans hE
  refine ⟨h2, e3, e4.trans hE, ?_⟩
  simp only [S198_1027, S198_1028, S198_1029, S198_1030, S198_1031, S198_1032, S198_1033, S198_1036, S198_1037, S198_1038, S198_1039, S198_1040, S198_1041, S198_1042, S198_1045, S198_1048, Option.bind_some, Option.map_some, xpush_s, xpush_n, xcat_0, xcat_i, xcat_r, xcat_l, xcat_n, xcat_e, xir_r, Nat.reduceAdd, Nat.reduceLeDiff, Nat.zero_le, Nat.le_refl, ↓reduceIte, x_ir, ia1, ia2, ia3, ia4, ia5, e_rd hE hL (show i + 1 < L by omega), e_rd hE1 hL (show i + 1 < L by omega), f, e6, e1, e2]
theorem lc_28 {m : Nat} {h : xh} {L i : Nat} {xs : Nat → Int32} (hI : INV m h) (hE : h.2.2.2 = x_ext L xs) (hL : L ≤ 3072) (hi : i + 6 ≤ L) : lst L xs m i 1050 h := by
  obtain ⟨v, h1, h2, e1, e2, e3, e4, e5, e6⟩ := k_sheet (xs (i + 1)) (xs (i + 2)) (xs (i + 3)) 800 m h hI
  have f := INV_c hI
  have hE1 := e5.trans hE
  refine ⟨h2, e3, e4.trans hE, ?_⟩
  simp only [S198_1050, S198_1051, S198_1052, S198_1053, S198_1054, S198_1055, S198_1056, S198_1057, S198_1058, S198_1059, S198_1060, S198_1061, S198_1062, S198_1063, S198_1064, S198_1065, S198_1066, S198_1069, S198_1070, S198_1071, S198_1072, S198_1073, S198_1074, S198_1075, S198_1076, S198_1077, S198_1078, S198_1079, S198_1080, S198_1081, S198_1082, S198_1083, S198_1084, S198_1085, S198_1088, S198_1091, Option.bind_some, Option.map_some, xpush_s, xpush_n, xcat_0, xcat_i, xcat_r, xcat_l, xcat_n, xcat_e, xir_r, Nat.reduceAdd, Nat.reduceLeDiff, Nat.zero_le, Nat.le_refl, ↓reduceIte, x_ir, ia1, ia2, ia3, ia4, ia5, e_rd hE hL (show i + 1 < L by omega), e_rd hE1 hL (show i + 1 < L by omega), e_rd hE hL (show i + 2 < L by omega), e_rd hE1 hL (show i + 2 < L by omega), e_rd hE hL (show i + 3 < L by omega), e_rd hE1 hL (show i + 3 < L by omega), f, e6, e1, e2]
theorem lc_29 {m : Nat} {h : xh} {L i : Nat} {xs : Nat → Int32} (hI : INV m h) (hE : h.2.2.2 = x_ext L xs) (hL : L ≤ 3072) (hi : i + 6 ≤ L) : lst L xs m i 1093 h := by
  obtain ⟨v, h1, h2, e1, e2, e3, e4, e5, e6⟩ := k_mark (xs (i + 1)) (xs (i + 2)) (xs (i + 3)) 800 m h hI
  have f := INV_c hI
  have hE1 := e5.trans hE
  refine ⟨h2, e3, e4.trans hE, ?_⟩
  simp only [S198_1093, S198_1094, S198_1095, S198_1096, S198_1097, S198_1098, S198_1099, S198_1100, S198_1101, S198_1102, S198_1103, S198_1104, S198_1105, S198_1106, S198_1107, S198_1108, S198_1109, S198_1112, S198_1113, S198_1114, S198_1115, S198_1116, S198_1117, S198_1118, S198_1119, S198_1120, S198_1121, S198_1122, S198_1123, S198_1124, S198_1125, S198_1126, S198_1127, S198_1128, S198_1131, S198_1134, Option.bind_some, Option.map_some, xpush_s, xpush_n, xcat_0, xcat_i, xcat_r, xcat_l, xcat_n, xcat_e, xir_r, Nat.reduceAdd, Nat.reduceLeDiff, Nat.zero_le, Nat.le_refl, ↓reduceIte, x_ir, ia1, ia2, ia3, ia4, ia5, e_rd hE hL (show i + 1 < L by omega), e_rd hE1 hL (show i + 1 < L by omega), e_rd hE hL (show i + 2 < L by omega), e_rd hE1 hL (show i + 2 < L by omega), e_rd hE hL (show i + 3 < L by omega), e_rd hE1 hL (show i + 3 < L by omega), f, e6, e1, e2]
theorem lc_30 {m : Nat} {h : xh} {L i : Nat} {xs : Nat → Int32} (hI : INV m h) (hE : h.2.2.2 = x_ext L xs) (hL : L ≤ 3072) (hi : i + 6 ≤ L) : lst L xs m i 1136 h := by
  obtain ⟨v, h1, h2, e1, e2, e3, e4, e5, e6⟩ := k_pour (xs (i + 1)) 800 m h hI
  have f := INV_c hI
  have hE1 := e5.trans hE
  refine ⟨h2, e3, e4.trans hE, ?_⟩
  simp only [S198_1136, S198_1137, S198_1138, S198_1139, S198_1140, S198_1141, S198_1142, S198_1145, S198_1146, S198_1147, S198_1148, S198_1149, S198_1150, S198_1151, S198_1154, S198_1157, Option.bind_some, Option.map_some, xpush_s, xpush_n, xcat_0, xcat_i, xcat_r, xcat_l, xcat_n, xcat_e, xir_r, Nat.reduceAdd, Nat.reduceLeDiff, Nat.zero_le, Nat.le_refl, ↓reduceIte, x_ir, ia1, ia2, ia3, ia4, ia5, e_rd hE hL (show i + 1 < L by omega), e_rd hE1 hL (show i + 1 < L by omega), f, e6, e1, e2]
theorem lc_31 {m : Nat} {h : xh} {L i : Nat} {xs : Nat → Int32} (hI : INV m h) (hE : h.2.2.2 = x_ext L xs) (hL : L ≤ 3072) (hi : i + 6 ≤ L) : lst L xs m i 1159 h := by
  obtain ⟨v, h1, h2, e1, e2, e3, e4, e5, e6⟩ := k_reads (xs (i + 1)) 800 m h hI
  have f := INV_c hI
  have hE1 := e5.trans hE
  refine ⟨h2, e3, e4.trans hE, ?_⟩
  simp only [S198_1159, S198_1160, S198_1161, S198_1162, S198_1163, S198_1164, S198_1165, S198_1168, S198_1169, S198_1170, S198_1171, S198_1172, S198_1173, S198_1174, S198_1177, S198_1180, Option.bind_some, Option.map_some, xpush_s, xpush_n, xcat_0, xcat_i, xcat_r, xcat_l, xcat_n, xcat_e, xir_r, Nat.reduceAdd, Nat.reduceLeDiff, Nat.zero_le, Nat.le_refl, ↓reduceIte, x_ir, ia1, ia2, ia3, ia4, ia5, e_rd hE hL (show i + 1 < L by omega), e_rd hE1 hL (show i + 1 < L by omega), f, e6, e1, e2]
theorem lc_32 {m : Nat} {h : xh} {L i : Nat} {xs : Nat → Int32} (hI : INV m h) (hE : h.2.2.2 = x_ext L xs) (hL : L ≤ 3072) (hi : i + 6 ≤ L) : lst L xs m i 1182 h := by
  obtain ⟨v, h1, h2, e1, e2, e3, e4, e5, e6⟩ := k_copy (xs (i + 1)) (xs (i + 2)) (xs (i + 3)) (xs (i + 4)) (xs (i + 5)) 800 m h hI
  have f := INV_c hI
  have hE1 := e5.trans hE
  refine ⟨h2, e3, e4.trans hE, ?_⟩
  simp only [S198_1182, S198_1183, S198_1184, S198_1185, S198_1186, S198_1187, S198_1188, S198_1189, S198_1190, S198_1191, S198_1192, S198_1193, S198_1194, S198_1195, S198_1196, S198_1197, S198_1198, S198_1199, S198_1200, S198_1201, S198_1202, S198_1203, S198_1204, S198_1205, S198_1206, S198_1207, S198_1208, S198_1211, S198_1212, S198_1213, S198_1214, S198_1215, S198_1216, S198_1217, S198_1218, S198_1219, S198_1220, S198_1221, S198_1222, S198_1223, S198_1224, S198_1225, S198_1226, S198_1227, S198_1228, S198_1229, S198_1230, S198_1231, S198_1232, S198_1233, S198_1234, S198_1235, S198_1236, S198_1237, S198_1240, S198_1243, Option.bind_some, Option.map_some, xpush_s, xpush_n, xcat_0, xcat_i, xcat_r, xcat_l, xcat_n, xcat_e, xir_r, Nat.reduceAdd, Nat.reduceLeDiff, Nat.zero_le, Nat.le_refl, ↓reduceIte, x_ir, ia1, ia2, ia3, ia4, ia5, e_rd hE hL (show i + 1 < L by omega), e_rd hE1 hL (show i + 1 < L by omega), e_rd hE hL (show i + 2 < L by omega), e_rd hE1 hL (show i + 2 < L by omega), e_rd hE hL (show i + 3 < L by omega), e_rd hE1 hL (show i + 3 < L by omega), e_rd hE hL (show i + 4 < L by omega), e_rd hE1 hL (show i + 4 < L by omega), e_rd hE hL (show i + 5 < L by omega), e_rd hE1 hL (show i + 5 < L by omega), f, e6, e1, e2]
theorem lc_33 {m : Nat} {h : xh} {L i : Nat} {xs : Nat → Int32} (hI : INV m h) (hE : h.2.2.2 = x_ext L xs) (hL : L ≤ 3072) (hi : i + 6 ≤ L) : lst L xs m i 1245 h := by
  obtain ⟨v, h1, h2, e1, e2, e3, e4, e5, e6⟩ := k_lay (xs (i + 1)) (xs (i + 2)) (xs (i + 3)) 800 m h hI
  have f := INV_c hI
  have hE1 := e5.trans hE
  refine ⟨h2, e3, e4.trans hE, ?_⟩
  simp only [S198_1245, S198_1246, S198_1247, S198_1248, S198_1249, S198_1250, S198_1251, S198_1252, S198_1253, S198_1254, S198_1255, S198_1256, S198_1257, S198_1258, S198_1259, S198_1260, S198_1261, S198_1264, S198_1265, S198_1266, S198_1267, S198_1268, S198_1269, S198_1270, S198_1271, S198_1272, S198_1273, S198_1274, S198_1275, S198_1276, S198_1277, S198_1278, S198_1279, S198_1280, S198_1283, S198_1286, Option.bind_some, Option.map_some, xpush_s, xpush_n, xcat_0, xcat_i, xcat_r, xcat_l, xcat_n, xcat_e, xir_r, Nat.reduceAdd, Nat.reduceLeDiff, Nat.zero_le, Nat.le_refl, ↓reduceIte, x_ir, ia1, ia2, ia3, ia4, ia5, e_rd hE hL (show i + 1 < L by omega), e_rd hE1 hL (show i + 1 < L by omega), e_rd hE hL (show i + 2 < L by omega), e_rd hE1 hL (show i + 2 < L by omega), e_rd hE hL (show i + 3 < L by omega), e_rd hE1 hL (show i + 3 < L by omega), f, e6, e1, e2]
theorem lc_34 {m : Nat} {h : xh} {L i : Nat} {xs : Nat → Int32} (hI : INV m h) (hE : h.2.2.2 = x_ext L xs) (hL : L ≤ 3072) (hi : i + 6 ≤ L) : lst L xs m i 1288 h := by
  obtain ⟨v, h1, h2, e1, e2, e3, e4, e5, e6⟩ := k_ask (xs (i + 1)) (xs (i + 2)) 800 m h hI
  have f := INV_c hI
  have hE1 := e5.trans hE
  refine ⟨h2, e3, e4.trans hE, ?_⟩
  simp only [S198_1288, S198_1289, S198_1290, S198_1291, S198_1292, S198_1293, S198_1294, S198_1295, S198_1296, S198_1297, S198_1298, S198_1299, S198_1302, S198_1303, S198_1304, S198_1305, S198_1306, S198_1307, S198_1308, S198_1309, S198_1310, S198_1311, S198_1312, S198_1313, S198_1316, S198_1319, Option.bind_some, Option.map_some, xpush_s, xpush_n, xcat_0, xcat_i, xcat_r, xcat_l, xcat_n, xcat_e, xir_r, Nat.reduceAdd, Nat.reduceLeDiff, Nat.zero_le, Nat.le_refl, ↓reduceIte, x_ir, ia1, ia2, ia3, ia4, ia5, e_rd hE hL (show i + 1 < L by omega), e_rd hE1 hL (show i + 1 < L by omega), e_rd hE hL (show i + 2 < L by omega), e_rd hE1 hL (show i + 2 < L by omega), f, e6, e1, e2]
theorem lc_35 {m : Nat} {h : xh} {L i : Nat} {xs : Nat → Int32} (hI : INV m h) (hE : h.2.2.2 = x_ext L xs) (hL : L ≤ 3072) (hi : i + 6 ≤ L) : lst L xs m i 1321 h := by
  obtain ⟨v, h1, h2, e1, e2, e3, e4, e5, e6⟩ := k_item (xs (i + 1)) (xs (i + 2)) 800 m h hI
  have f := INV_c hI
  have hE1 := e5.trans hE
  refine ⟨h2, e3, e4.trans hE, ?_⟩
  simp only [S198_1321, S198_1322, S198_1323, S198_1324, S198_1325, S198_1326, S198_1327, S198_1328, S198_1329, S198_1330, S198_1331, S198_1332, S198_1335, S198_1336, S198_1337, S198_1338, S198_1339, S198_1340, S198_1341, S198_1342, S198_1343, S198_1344, S198_1345, S198_1346, S198_1349, S198_1352, Option.bind_some, Option.map_some, xpush_s, xpush_n, xcat_0, xcat_i, xcat_r, xcat_l, xcat_n, xcat_e, xir_r, Nat.reduceAdd, Nat.reduceLeDiff, Nat.zero_le, Nat.le_refl, ↓reduceIte, x_ir, ia1, ia2, ia3, ia4, ia5, e_rd hE hL (show i + 1 < L by omega), e_rd hE1 hL (show i + 1 < L by omega), e_rd hE hL (show i + 2 < L by omega), e_rd hE1 hL (show i + 2 < L by omega), f, e6, e1, e2]
theorem lc_36 {m : Nat} {h : xh} {L i : Nat} {xs : Nat → Int32} (hI : INV m h) (hE : h.2.2.2 = x_ext L xs) (hL : L ≤ 3072) (hi : i + 6 ≤ L) : lst L xs m i 1354 h := by
  obtain ⟨v, h1, h2, e1, e2, e3, e4, e5, e6⟩ := k_rest (xs (i + 1)) (xs (i + 2)) 800 m h hI
  have f := INV_c hI
  have hE1 := e5.trans hE
  refine ⟨h2, e3, e4.trans hE, ?_⟩
  simp only [S198_1354, S198_1355, S198_1356, S198_1357, S198_1358, S198_1359, S198_1360, S198_1361, S198_1362, S198_1363, S198_1364, S198_1365, S198_1368, S198_1369, S198_1370, S198_1371, S198_1372, S198_1373, S198_1374, S198_1375, S198_1376, S198_1377, S198_1378, S198_1379, S198_1382, S198_1385, Option.bind_some, Option.map_some, xpush_s, xpush_n, xcat_0, xcat_i, xcat_r, xcat_l, xcat_n, xcat_e, xir_r, Nat.reduceAdd, Nat.reduceLeDiff, Nat.zero_le, Nat.le_refl, ↓reduceIte, x_ir, ia1, ia2, ia3, ia4, ia5, e_rd hE hL (show i + 1 < L by omega), e_rd hE1 hL (show i + 1 < L by omega), e_rd hE hL (show i + 2 < L by omega), e_rd hE1 hL (show i + 2 < L by omega), f, e6, e1, e2]
theorem lc_37 {m : Nat} {h : xh} {L i : Nat} {xs : Nat → Int32} (hI : INV m h) (hE : h.2.2.2 = x_ext L xs) (hL : L ≤ 3072) (hi : i + 6 ≤ L) : lst L xs m i 1387 h := by
  obtain ⟨v, h1, h2, e1, e2, e3, e4, e5, e6⟩ := k_tell (xs (i + 1)) 800 m h hI
  have f := INV_c hI
  have hE1 := e5.trans hE
  refine ⟨h2, e3, e4.trans hE, ?_⟩
  simp only [S198_1387, S198_1388, S198_1389, S198_1390, S198_1391, S198_1392, S198_1393, S198_1396, S198_1397, S198_1398, S198_1399, S198_1400, S198_1401, S198_1402, S198_1405, S198_1408, Option.bind_some, Option.map_some, xpush_s, xpush_n, xcat_0, xcat_i, xcat_r, xcat_l, xcat_n, xcat_e, xir_r, Nat.reduceAdd, Nat.reduceLeDiff, Nat.zero_le, Nat.le_refl, ↓reduceIte, x_ir, ia1, ia2, ia3, ia4, ia5, e_rd hE hL (show i + 1 < L by omega), e_rd hE1 hL (show i + 1 < L by omega), f, e6, e1, e2]
theorem lc_38 {m : Nat} {h : xh} {L i : Nat} {xs : Nat → Int32} (hI : INV m h) (hE : h.2.2.2 = x_ext L xs) (hL : L ≤ 3072) (hi : i + 6 ≤ L) : lst L xs m i 1410 h := by
  obtain ⟨v, h1, h2, e1, e2, e3, e4, e5, e6⟩ := k_check (xs (i + 1)) 800 m h hI
  have f := INV_c hI
  have hE1 := e5.trans hE
  refine ⟨h2, e3, e4.trans hE, ?_⟩
  simp only [S198_1410, S198_1411, S198_1412, S198_1413, S198_1414, S198_1415, S198_1416, S198_1419, S198_1420, S198_1421, S198_1422, S198_1423, S198_1424, S198_1425, S198_1428, S198_1431, Option.bind_some, Option.map_some, xpush_s, xpush_n, xcat_0, xcat_i, xcat_r, xcat_l, xcat_n, xcat_e, xir_r, Nat.reduceAdd, Nat.reduceLeDiff, Nat.zero_le, Nat.le_refl, ↓reduceIte, x_ir, ia1, ia2, ia3, ia4, ia5, e_rd hE hL (show i + 1 < L by omega), e_rd hE1 hL (show i + 1 < L by omega), f, e6, e1, e2]
theorem lc_39 {m : Nat} {h : xh} {L i : Nat} {xs : Nat → Int32} (hI : INV m h) (hE : h.2.2.2 = x_ext L xs) (hL : L ≤ 3072) (hi : i + 6 ≤ L) : lst L xs m i 1433 h := by
  obtain ⟨v, h1, h2, e1, e2, e3, e4, e5, e6⟩ := k_keep  800 m h hI
  have f := INV_c hI
  have hE1 := e5.trans hE
  refine ⟨h2, e3, e4.trans hE, ?_⟩
  simp only [S198_1433, S198_1434, S198_1437, S198_1438, S198_1441, S198_1444, Option.bind_some, Option.map_some, xpush_s, xpush_n, xcat_0, xcat_i, xcat_r, xcat_l, xcat_n, xcat_e, xir_r, Nat.reduceAdd, Nat.reduceLeDiff, Nat.zero_le, Nat.le_refl, ↓reduceIte, x_ir, ia1, ia2, ia3, ia4, ia5, f, e6, e1, e2]
theorem lc_40 {m : Nat} {h : xh} {L i : Nat} {xs : Nat → Int32} (hI : INV m h) (hE : h.2.2.2 = x_ext L xs) (hL : L ≤ 3072) (hi : i + 6 ≤ L) : lst L xs m i 1446 h := by
  obtain ⟨v, h1, h2, e1, e2, e3, e4, e5, e6⟩ := k_back  800 m h hI
  have f := INV_c hI
  have hE1 := e5.trans hE
  refine ⟨h2, e3, e4.trans hE, ?_⟩
  simp only [S198_1446, S198_1447, S198_1450, S198_1451, S198_1454, S198_1457, Option.bind_some, Option.map_some, xpush_s, xpush_n, xcat_0, xcat_i, xcat_r, xcat_l, xcat_n, xcat_e, xir_r, Nat.reduceAdd, Nat.reduceLeDiff, Nat.zero_le, Nat.le_refl, ↓reduceIte, x_ir, ia1, ia2, ia3, ia4, ia5, f, e6, e1, e2]
theorem lc_41 {m : Nat} {h : xh} {L i : Nat} {xs : Nat → Int32} (hI : INV m h) (hE : h.2.2.2 = x_ext L xs) (hL : L ≤ 3072) (hi : i + 6 ≤ L) : lst L xs m i 1459 h := by
  obtain ⟨v, h1, h2, e1, e2, e3, e4, e5, e6⟩ := k_count (xs (i + 1)) 800 m h hI
  have f := INV_c hI
  have hE1 := e5.trans hE
  refine ⟨h2, e3, e4.trans hE, ?_⟩
  simp only [S198_1459, S198_1460, S198_1461, S198_1462, S198_1463, S198_1464, S198_1465, S198_1468, S198_1469, S198_1470, S198_1471, S198_1472, S198_1473, S198_1474, S198_1477, S198_1480, Option.bind_some, Option.map_some, xpush_s, xpush_n, xcat_0, xcat_i, xcat_r, xcat_l, xcat_n, xcat_e, xir_r, Nat.reduceAdd, Nat.reduceLeDiff, Nat.zero_le, Nat.le_refl, ↓reduceIte, x_ir, ia1, ia2, ia3, ia4, ia5, e_rd hE hL (show i + 1 < L by omega), e_rd hE1 hL (show i + 1 < L by omega), f, e6, e1, e2]
