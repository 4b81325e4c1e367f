/-! THE LAW: one call after the other; printed by gen_law.py -/
section
variable {H : zH} {L i : Nat} {xs : Nat → Int32}
theorem St.k (h : St L xs H i) : zkd H 100 = 11 ∧ H.2.2 0 = zSt0 L xs 0 := by
  obtain ⟨s, hs, nx, ct, sb, sv, T, cap, t, r, sg, n, hc, hM, hz, -, -⟩ := h
  exact ⟨kd_c hc.1, hz 0 (by omega)⟩
theorem scr (h : H.2.2 0 = zSt0 L xs 0) (hL : L ≤ 2560) : ∀ (β : Type) (f : Int32 → Option β) (k : Nat), k < L → zli H 0 0 (nI k) f = f (xs k) := fun _ f k hk => li_c (m := L) (h.trans rfl) hk (by omega) f
theorem scrL (h : H.2.2 0 = zSt0 L xs 0) : ∀ (β : Type) (f : Int32 → Option β), zal H 0 f = f (nI L) := fun _ f => al_c (m := L) (h.trans rfl) (by omega) f
theorem sub5 {L k : Nat} (hL : L ≤ 2560) (hk : k ≤ 5000) : (nI L - nI 5 < nI k) ↔ L < k + 5 := by
  have h1 : (nI L).toInt = (L : Int) := nI_toInt (by omega)
  have h2 : (nI L - nI 5).toInt = (L : Int) - 5 := by
    rw [Int32.toInt_sub, h1, nI_toInt (by omega)]
    exact Int.bmod_eq_of_le (by omega) (by omega)
  rw [Int32.lt_iff_toInt_lt, h2, nI_toInt (by omega)]
  omega
theorem lc_0 (hSt : St L xs H i) (hi : 5 * i + 5 ≤ L) (hL : L ≤ 2560) : ∃ H2, rn 294 220 [.ref 0, .ref 100, .ref 463, .int (nI (5 * i))] [] H = rn 294 18 [.ref 0, .ref 100, .ref 463, .int (nI (5 * i + 5))] [] H2 ∧ St L xs H2 (i + 1) := by
  have hs : stepI L xs i (fun h => ev 16 [.ref 100, .int (xs (5 * i + 1)), .int (xs (5 * i + 2)), .int (xs (5 * i + 3))] h) (fun h => ev 203 [.ref 463, .int (xs (5 * i + 1)), .int (xs (5 * i + 2)), .int (xs (5 * i + 3))] h) := st_salary (show i < 512 by omega) (xs (5 * i + 1)) (xs (5 * i + 2)) (xs (5 * i + 3))
  obtain ⟨v, H1, H2, e1, e2, hm, h2⟩ := hs H hSt
  obtain ⟨k0, s0⟩ := hSt.k
  have rd0 := scr s0 hL
  have rd1 := scr hm.1 hL
  refine ⟨H2, ?_, h2⟩
  dsimp only at e1 e2
  simp (implicitDefEqProofs := false) (disch := omega) only [zr_294_220, zr_294_221, zr_294_222, zr_294_223, zr_294_224, zr_294_225, zr_294_226, zr_294_227, zr_294_228, zr_294_229, zr_294_230, zr_294_231, zr_294_232, zr_294_233, zr_294_234, zr_294_235, zr_294_236, zr_294_239, zr_294_240, zr_294_241, zr_294_242, zr_294_243, zr_294_244, zr_294_245, zr_294_246, zr_294_247, zr_294_248, zr_294_249, zr_294_250, zr_294_251, zr_294_252, zr_294_253, zr_294_254, zr_294_255, zr_294_258, zr_294_261, zr_294_262, zr_294_1562, zr_294_1565, true_or, or_true, true_and, and_true, if_true, if_false, ldA_ref, ldA_null, nl_int, nl_ref, nl_fl, nl_null, c1_int, c1_ref, c1_null, Nat.zero_add, Nat.zero_mul, Nat.one_mul, nI_add, nI_leI, nI_ltI, nI_eq, nI_mul, cmp_lt, cmp_gt, cmp_le, cmp_ge, cmp_eq, rd0, rd1, k0, hm.2, e1, e2, zcall_some, zpush_some, zpush_none, zsum_ref, zsum_int, zsum_long, zsum_nil, zsum_null, Nat.reduceAdd, Nat.reduceLeDiff, if_true]
theorem lc_1 (hSt : St L xs H i) (hi : 5 * i + 5 ≤ L) (hL : L ≤ 2560) : ∃ H2, rn 294 263 [.ref 0, .ref 100, .ref 463, .int (nI (5 * i))] [] H = rn 294 18 [.ref 0, .ref 100, .ref 463, .int (nI (5 * i + 5))] [] H2 ∧ St L xs H2 (i + 1) := by
  have hs : stepI L xs i (fun h => ev 29 [.ref 100, .int (xs (5 * i + 1)), .int (xs (5 * i + 2)), .int (xs (5 * i + 3))] h) (fun h => ev 210 [.ref 463, .int (xs (5 * i + 1)), .int (xs (5 * i + 2)), .int (xs (5 * i + 3))] h) := st_days (show i < 512 by omega) (xs (5 * i + 1)) (xs (5 * i + 2)) (xs (5 * i + 3))
  obtain ⟨v, H1, H2, e1, e2, hm, h2⟩ := hs H hSt
  obtain ⟨k0, s0⟩ := hSt.k
  have rd0 := scr s0 hL
  have rd1 := scr hm.1 hL
  refine ⟨H2, ?_, h2⟩
  dsimp only at e1 e2
  simp (implicitDefEqProofs := false) (disch := omega) only [zr_294_263, zr_294_264, zr_294_265, zr_294_266, zr_294_267, zr_294_268, zr_294_269, zr_294_270, zr_294_271, zr_294_272, zr_294_273, zr_294_274, zr_294_275, zr_294_276, zr_294_277, zr_294_278, zr_294_279, zr_294_282, zr_294_283, zr_294_284, zr_294_285, zr_294_286, zr_294_287, zr_294_288, zr_294_289, zr_294_290, zr_294_291, zr_294_292, zr_294_293, zr_294_294, zr_294_295, zr_294_296, zr_294_297, zr_294_298, zr_294_301, zr_294_304, zr_294_305, zr_294_1562, zr_294_1565, true_or, or_true, true_and, and_true, if_true, if_false, ldA_ref, ldA_null, nl_int, nl_ref, nl_fl, nl_null, c1_int, c1_ref, c1_null, Nat.zero_add, Nat.zero_mul, Nat.one_mul, nI_add, nI_leI, nI_ltI, nI_eq, nI_mul, cmp_lt, cmp_gt, cmp_le, cmp_ge, cmp_eq, rd0, rd1, k0, hm.2, e1, e2, zcall_some, zpush_some, zpush_none, zsum_ref, zsum_int, zsum_long, zsum_nil, zsum_null, Nat.reduceAdd, Nat.reduceLeDiff, if_true]
theorem lc_2 (hSt : St L xs H i) (hi : 5 * i + 5 ≤ L) (hL : L ≤ 2560) : ∃ H2, rn 294 306 [.ref 0, .ref 100, .ref 463, .int (nI (5 * i))] [] H = rn 294 18 [.ref 0, .ref 100, .ref 463, .int (nI (5 * i + 5))] [] H2 ∧ St L xs H2 (i + 1) := by
  have hs : stepI L xs i (fun h => ev 31 [.ref 100, .int (xs (5 * i + 1)), .int (xs (5 * i + 2)), .int (xs (5 * i + 3))] h) (fun h => ev 211 [.ref 463, .int (xs (5 * i + 1)), .int (xs (5 * i + 2)), .int (xs (5 * i + 3))] h) := st_bonus (show i < 512 by omega) (xs (5 * i + 1)) (xs (5 * i + 2)) (xs (5 * i + 3))
  obtain ⟨v, H1, H2, e1, e2, hm, h2⟩ := hs H hSt
  obtain ⟨k0, s0⟩ := hSt.k
  have rd0 := scr s0 hL
  have rd1 := scr hm.1 hL
  refine ⟨H2, ?_, h2⟩
  dsimp only at e1 e2
  simp (implicitDefEqProofs := false) (disch := omega) only [zr_294_306, zr_294_307, zr_294_308, zr_294_309, zr_294_310, zr_294_311, zr_294_312, zr_294_313, zr_294_314, zr_294_315, zr_294_316, zr_294_317, zr_294_318, zr_294_319, zr_294_320, zr_294_321, zr_294_322, zr_294_325, zr_294_326, zr_294_327, zr_294_328, zr_294_329, zr_294_330, zr_294_331, zr_294_332, zr_294_333, zr_294_334, zr_294_335, zr_294_336, zr_294_337, zr_294_338, zr_294_339, zr_294_340, zr_294_341, zr_294_344, zr_294_347, zr_294_348, zr_294_1562, zr_294_1565, true_or, or_true, true_and, and_true, if_true, if_false, ldA_ref, ldA_null, nl_int, nl_ref, nl_fl, nl_null, c1_int, c1_ref, c1_null, Nat.zero_add, Nat.zero_mul, Nat.one_mul, nI_add, nI_leI, nI_ltI, nI_eq, nI_mul, cmp_lt, cmp_gt, cmp_le, cmp_ge, cmp_eq, rd0, rd1, k0, hm.2, e1, e2, zcall_some, zpush_some, zpush_none, zsum_ref, zsum_int, zsum_long, zsum_nil, zsum_null, Nat.reduceAdd, Nat.reduceLeDiff, if_true]
theorem lc_3 (hSt : St L xs H i) (hi : 5 * i + 5 ≤ L) (hL : L ≤ 2560) : ∃ H2, rn 294 349 [.ref 0, .ref 100, .ref 463, .int (nI (5 * i))] [] H = rn 294 18 [.ref 0, .ref 100, .ref 463, .int (nI (5 * i + 5))] [] H2 ∧ St L xs H2 (i + 1) := by
  have hs : stepI L xs i (fun h => ev 33 [.ref 100, .int (xs (5 * i + 1)), .int (xs (5 * i + 2))] h) (fun h => ev 212 [.ref 463, .int (xs (5 * i + 1)), .int (xs (5 * i + 2))] h) := st_setFloor (show i < 512 by omega) (xs (5 * i + 1)) (xs (5 * i + 2))
  obtain ⟨v, H1, H2, e1, e2, hm, h2⟩ := hs H hSt
  obtain ⟨k0, s0⟩ := hSt.k
  have rd0 := scr s0 hL
  have rd1 := scr hm.1 hL
  refine ⟨H2, ?_, h2⟩
  dsimp only at e1 e2
  simp (implicitDefEqProofs := false) (disch := omega) only [zr_294_349, zr_294_350, zr_294_351, zr_294_352, zr_294_353, zr_294_354, zr_294_355, zr_294_356, zr_294_357, zr_294_358, zr_294_359, zr_294_360, zr_294_363, zr_294_364, zr_294_365, zr_294_366, zr_294_367, zr_294_368, zr_294_369, zr_294_370, zr_294_371, zr_294_372, zr_294_373, zr_294_374, zr_294_377, zr_294_380, zr_294_381, zr_294_1562, zr_294_1565, true_or, or_true, true_and, and_true, if_true, if_false, ldA_ref, ldA_null, nl_int, nl_ref, nl_fl, nl_null, c1_int, c1_ref, c1_null, Nat.zero_add, Nat.zero_mul, Nat.one_mul, nI_add, nI_leI, nI_ltI, nI_eq, nI_mul, cmp_lt, cmp_gt, cmp_le, cmp_ge, cmp_eq, rd0, rd1, k0, hm.2, e1, e2, zcall_some, zpush_some, zpush_none, zsum_ref, zsum_int, zsum_long, zsum_nil, zsum_null, Nat.reduceAdd, Nat.reduceLeDiff, if_true]
theorem lc_4 (hSt : St L xs H i) (hi : 5 * i + 5 ≤ L) (hL : L ≤ 2560) : ∃ H2, rn 294 382 [.ref 0, .ref 100, .ref 463, .int (nI (5 * i))] [] H = rn 294 18 [.ref 0, .ref 100, .ref 463, .int (nI (5 * i + 5))] [] H2 ∧ St L xs H2 (i + 1) := by
  have hs : stepI L xs i (fun h => ev 35 [.ref 100, .int (xs (5 * i + 1)), .int (xs (5 * i + 2))] h) (fun h => ev 213 [.ref 463, .int (xs (5 * i + 1)), .int (xs (5 * i + 2))] h) := st_setRate (show i < 512 by omega) (xs (5 * i + 1)) (xs (5 * i + 2))
  obtain ⟨v, H1, H2, e1, e2, hm, h2⟩ := hs H hSt
  obtain ⟨k0, s0⟩ := hSt.k
  have rd0 := scr s0 hL
  have rd1 := scr hm.1 hL
  refine ⟨H2, ?_, h2⟩
  dsimp only at e1 e2
  simp (implicitDefEqProofs := false) (disch := omega) only [zr_294_382, zr_294_383, zr_294_384, zr_294_385, zr_294_386, zr_294_387, zr_294_388, zr_294_389, zr_294_390, zr_294_391, zr_294_392, zr_294_393, zr_294_396, zr_294_397, zr_294_398, zr_294_399, zr_294_400, zr_294_401, zr_294_402, zr_294_403, zr_294_404, zr_294_405, zr_294_406, zr_294_407, zr_294_410, zr_294_413, zr_294_414, zr_294_1562, zr_294_1565, true_or, or_true, true_and, and_true, if_true, if_false, ldA_ref, ldA_null, nl_int, nl_ref, nl_fl, nl_null, c1_int, c1_ref, c1_null, Nat.zero_add, Nat.zero_mul, Nat.one_mul, nI_add, nI_leI, nI_ltI, nI_eq, nI_mul, cmp_lt, cmp_gt, cmp_le, cmp_ge, cmp_eq, rd0, rd1, k0, hm.2, e1, e2, zcall_some, zpush_some, zpush_none, zsum_ref, zsum_int, zsum_long, zsum_nil, zsum_null, Nat.reduceAdd, Nat.reduceLeDiff, if_true]
theorem lc_5 (hSt : St L xs H i) (hi : 5 * i + 5 ≤ L) (hL : L ≤ 2560) : ∃ H2, rn 294 415 [.ref 0, .ref 100, .ref 463, .int (nI (5 * i))] [] H = rn 294 18 [.ref 0, .ref 100, .ref 463, .int (nI (5 * i + 5))] [] H2 ∧ St L xs H2 (i + 1) := by
  have hs : stepI L xs i (fun h => ev 37 [.ref 100, .int (xs (5 * i + 1)), .int (xs (5 * i + 2))] h) (fun h => ev 215 [.ref 463, .int (xs (5 * i + 1)), .int (xs (5 * i + 2))] h) := st_setCap (show i < 512 by omega) (xs (5 * i + 1)) (xs (5 * i + 2))
  obtain ⟨v, H1, H2, e1, e2, hm, h2⟩ := hs H hSt
  obtain ⟨k0, s0⟩ := hSt.k
  have rd0 := scr s0 hL
  have rd1 := scr hm.1 hL
  refine ⟨H2, ?_, h2⟩
  dsimp only at e1 e2
  simp (implicitDefEqProofs := false) (disch := omega) only [zr_294_415, zr_294_416, zr_294_417, zr_294_418, zr_294_419, zr_294_420, zr_294_421, zr_294_422, zr_294_423, zr_294_424, zr_294_425, zr_294_426, zr_294_429, zr_294_430, zr_294_431, zr_294_432, zr_294_433, zr_294_434, zr_294_435, zr_294_436, zr_294_437, zr_294_438, zr_294_439, zr_294_440, zr_294_443, zr_294_446, zr_294_447, zr_294_1562, zr_294_1565, true_or, or_true, true_and, and_true, if_true, if_false, ldA_ref, ldA_null, nl_int, nl_ref, nl_fl, nl_null, c1_int, c1_ref, c1_null, Nat.zero_add, Nat.zero_mul, Nat.one_mul, nI_add, nI_leI, nI_ltI, nI_eq, nI_mul, cmp_lt, cmp_gt, cmp_le, cmp_ge, cmp_eq, rd0, rd1, k0, hm.2, e1, e2, zcall_some, zpush_some, zpush_none, zsum_ref, zsum_int, zsum_long, zsum_nil, zsum_null, Nat.reduceAdd, Nat.reduceLeDiff, if_true]
theorem lc_6 (hSt : St L xs H i) (hi : 5 * i + 5 ≤ L) (hL : L ≤ 2560) : ∃ H2, rn 294 448 [.ref 0, .ref 100, .ref 463, .int (nI (5 * i))] [] H = rn 294 18 [.ref 0, .ref 100, .ref 463, .int (nI (5 * i + 5))] [] H2 ∧ St L xs H2 (i + 1) := by
  have hs : stepI L xs i (fun h => ev 39 [.ref 100, .int (xs (5 * i + 1)), .int (xs (5 * i + 2))] h) (fun h => ev 216 [.ref 463, .int (xs (5 * i + 1)), .int (xs (5 * i + 2))] h) := st_bracket (show i < 512 by omega) (xs (5 * i + 1)) (xs (5 * i + 2))
  obtain ⟨v, H1, H2, e1, e2, hm, h2⟩ := hs H hSt
  obtain ⟨k0, s0⟩ := hSt.k
  have rd0 := scr s0 hL
  have rd1 := scr hm.1 hL
  refine ⟨H2, ?_, h2⟩
  dsimp only at e1 e2
  simp (implicitDefEqProofs := false) (disch := omega) only [zr_294_448, zr_294_449, zr_294_450, zr_294_451, zr_294_452, zr_294_453, zr_294_454, zr_294_455, zr_294_456, zr_294_457, zr_294_458, zr_294_459, zr_294_462, zr_294_463, zr_294_464, zr_294_465, zr_294_466, zr_294_467, zr_294_468, zr_294_469, zr_294_470, zr_294_471, zr_294_472, zr_294_473, zr_294_476, zr_294_479, zr_294_480, zr_294_1562, zr_294_1565, true_or, or_true, true_and, and_true, if_true, if_false, ldA_ref, ldA_null, nl_int, nl_ref, nl_fl, nl_null, c1_int, c1_ref, c1_null, Nat.zero_add, Nat.zero_mul, Nat.one_mul, nI_add, nI_leI, nI_ltI, nI_eq, nI_mul, cmp_lt, cmp_gt, cmp_le, cmp_ge, cmp_eq, rd0, rd1, k0, hm.2, e1, e2, zcall_some, zpush_some, zpush_none, zsum_ref, zsum_int, zsum_long, zsum_nil, zsum_null, Nat.reduceAdd, Nat.reduceLeDiff, if_true]
theorem lc_7 (hSt : St L xs H i) (hi : 5 * i + 5 ≤ L) (hL : L ≤ 2560) : ∃ H2, rn 294 481 [.ref 0, .ref 100, .ref 463, .int (nI (5 * i))] [] H = rn 294 18 [.ref 0, .ref 100, .ref 463, .int (nI (5 * i + 5))] [] H2 ∧ St L xs H2 (i + 1) := by
  have hs : stepI L xs i (fun h => ev 42 [.ref 100] h) (fun h => ev 217 [.ref 463] h) := st_clearBrackets (show i < 512 by omega) 
  obtain ⟨v, H1, H2, e1, e2, hm, h2⟩ := hs H hSt
  obtain ⟨k0, s0⟩ := hSt.k
  have rd0 := scr s0 hL
  have rd1 := scr hm.1 hL
  refine ⟨H2, ?_, h2⟩
  dsimp only at e1 e2
  simp (implicitDefEqProofs := false) (disch := omega) only [zr_294_481, zr_294_482, zr_294_485, zr_294_486, zr_294_489, zr_294_492, zr_294_493, zr_294_1562, zr_294_1565, true_or, or_true, true_and, and_true, if_true, if_false, ldA_ref, ldA_null, nl_int, nl_ref, nl_fl, nl_null, c1_int, c1_ref, c1_null, Nat.zero_add, Nat.zero_mul, Nat.one_mul, nI_add, nI_leI, nI_ltI, nI_eq, nI_mul, cmp_lt, cmp_gt, cmp_le, cmp_ge, cmp_eq, rd0, rd1, k0, hm.2, e1, e2, zcall_some, zpush_some, zpush_none, zsum_ref, zsum_int, zsum_long, zsum_nil, zsum_null, Nat.reduceAdd, Nat.reduceLeDiff, if_true]
theorem lc_8 (hSt : St L xs H i) (hi : 5 * i + 5 ≤ L) (hL : L ≤ 2560) : ∃ H2, rn 294 494 [.ref 0, .ref 100, .ref 463, .int (nI (5 * i))] [] H = rn 294 18 [.ref 0, .ref 100, .ref 463, .int (nI (5 * i + 5))] [] H2 ∧ St L xs H2 (i + 1) := by
  have hs : stepI L xs i (fun h => ev 44 [.ref 100, .int (xs (5 * i + 1)), .int (xs (5 * i + 2)), .int (xs (5 * i + 3))] h) (fun h => ev 218 [.ref 463, .int (xs (5 * i + 1)), .int (xs (5 * i + 2)), .int (xs (5 * i + 3))] h) := st_fixed (show i < 512 by omega) (xs (5 * i + 1)) (xs (5 * i + 2)) (xs (5 * i + 3))
  obtain ⟨v, H1, H2, e1, e2, hm, h2⟩ := hs H hSt
  obtain ⟨k0, s0⟩ := hSt.k
  have rd0 := scr s0 hL
  have rd1 := scr hm.1 hL
  refine ⟨H2, ?_, h2⟩
  dsimp only at e1 e2
  simp (implicitDefEqProofs := false) (disch := omega) only [zr_294_494, zr_294_495, zr_294_496, zr_294_497, zr_294_498, zr_294_499, zr_294_500, zr_294_501, zr_294_502, zr_294_503, zr_294_504, zr_294_505, zr_294_506, zr_294_507, zr_294_508, zr_294_509, zr_294_510, zr_294_513, zr_294_514, zr_294_515, zr_294_516, zr_294_517, zr_294_518, zr_294_519, zr_294_520, zr_294_521, zr_294_522, zr_294_523, zr_294_524, zr_294_525, zr_294_526, zr_294_527, zr_294_528, zr_294_529, zr_294_532, zr_294_535, zr_294_536, zr_294_1562, zr_294_1565, true_or, or_true, true_and, and_true, if_true, if_false, ldA_ref, ldA_null, nl_int, nl_ref, nl_fl, nl_null, c1_int, c1_ref, c1_null, Nat.zero_add, Nat.zero_mul, Nat.one_mul, nI_add, nI_leI, nI_ltI, nI_eq, nI_mul, cmp_lt, cmp_gt, cmp_le, cmp_ge, cmp_eq, rd0, rd1, k0, hm.2, e1, e2, zcall_some, zpush_some, zpush_none, zsum_ref, zsum_int, zsum_long, zsum_nil, zsum_null, Nat.reduceAdd, Nat.reduceLeDiff, if_true]
theorem lc_9 (hSt : St L xs H i) (hi : 5 * i + 5 ≤ L) (hL : L ≤ 2560) : ∃ H2, rn 294 537 [.ref 0, .ref 100, .ref 463, .int (nI (5 * i))] [] H = rn 294 18 [.ref 0, .ref 100, .ref 463, .int (nI (5 * i + 5))] [] H2 ∧ St L xs H2 (i + 1) := by
  have hs : stepI L xs i (fun h => ev 47 [.ref 100, .int (xs (5 * i + 1)), .int (xs (5 * i + 2)), .int (xs (5 * i + 3))] h) (fun h => ev 221 [.ref 463, .int (xs (5 * i + 1)), .int (xs (5 * i + 2)), .int (xs (5 * i + 3))] h) := st_share (show i < 512 by omega) (xs (5 * i + 1)) (xs (5 * i + 2)) (xs (5 * i + 3))
  obtain ⟨v, H1, H2, e1, e2, hm, h2⟩ := hs H hSt
  obtain ⟨k0, s0⟩ := hSt.k
  have rd0 := scr s0 hL
  have rd1 := scr hm.1 hL
  refine ⟨H2, ?_, h2⟩
  dsimp only at e1 e2
  simp (implicitDefEqProofs := false) (disch := omega) only [zr_294_537, zr_294_538, zr_294_539, zr_294_540, zr_294_541, zr_294_542, zr_294_543, zr_294_544, zr_294_545, zr_294_546, zr_294_547, zr_294_548, zr_294_549, zr_294_550, zr_294_551, zr_294_552, zr_294_553, zr_294_556, zr_294_557, zr_294_558, zr_294_559, zr_294_560, zr_294_561, zr_294_562, zr_294_563, zr_294_564, zr_294_565, zr_294_566, zr_294_567, zr_294_568, zr_294_569, zr_294_570, zr_294_571, zr_294_572, zr_294_575, zr_294_578, zr_294_579, zr_294_1562, zr_294_1565, true_or, or_true, true_and, and_true, if_true, if_false, ldA_ref, ldA_null, nl_int, nl_ref, nl_fl, nl_null, c1_int, c1_ref, c1_null, Nat.zero_add, Nat.zero_mul, Nat.one_mul, nI_add, nI_leI, nI_ltI, nI_eq, nI_mul, cmp_lt, cmp_gt, cmp_le, cmp_ge, cmp_eq, rd0, rd1, k0, hm.2, e1, e2, zcall_some, zpush_some, zpush_none, zsum_ref, zsum_int, zsum_long, zsum_nil, zsum_null, Nat.reduceAdd, Nat.reduceLeDiff, if_true]
theorem lc_10 (hSt : St L xs H i) (hi : 5 * i + 5 ≤ L) (hL : L ≤ 2560) : ∃ H2, rn 294 580 [.ref 0, .ref 100, .ref 463, .int (nI (5 * i))] [] H = rn 294 18 [.ref 0, .ref 100, .ref 463, .int (nI (5 * i + 5))] [] H2 ∧ St L xs H2 (i + 1) := by
  have hs : stepI L xs i (fun h => ev 49 [.ref 100, .int (xs (5 * i + 1)), .int (xs (5 * i + 2))] h) (fun h => ev 222 [.ref 463, .int (xs (5 * i + 1)), .int (xs (5 * i + 2))] h) := st_dropGarnishment (show i < 512 by omega) (xs (5 * i + 1)) (xs (5 * i + 2))
  obtain ⟨v, H1, H2, e1, e2, hm, h2⟩ := hs H hSt
  obtain ⟨k0, s0⟩ := hSt.k
  have rd0 := scr s0 hL
  have rd1 := scr hm.1 hL
  refine ⟨H2, ?_, h2⟩
  dsimp only at e1 e2
  simp (implicitDefEqProofs := false) (disch := omega) only [zr_294_580, zr_294_581, zr_294_582, zr_294_583, zr_294_584, zr_294_585, zr_294_586, zr_294_587, zr_294_588, zr_294_589, zr_294_590, zr_294_591, zr_294_594, zr_294_595, zr_294_596, zr_294_597, zr_294_598, zr_294_599, zr_294_600, zr_294_601, zr_294_602, zr_294_603, zr_294_604, zr_294_605, zr_294_608, zr_294_611, zr_294_612, zr_294_1562, zr_294_1565, true_or, or_true, true_and, and_true, if_true, if_false, ldA_ref, ldA_null, nl_int, nl_ref, nl_fl, nl_null, c1_int, c1_ref, c1_null, Nat.zero_add, Nat.zero_mul, Nat.one_mul, nI_add, nI_leI, nI_ltI, nI_eq, nI_mul, cmp_lt, cmp_gt, cmp_le, cmp_ge, cmp_eq, rd0, rd1, k0, hm.2, e1, e2, zcall_some, zpush_some, zpush_none, zsum_ref, zsum_int, zsum_long, zsum_nil, zsum_null, Nat.reduceAdd, Nat.reduceLeDiff, if_true]
theorem lc_11 (hSt : St L xs H i) (hi : 5 * i + 5 ≤ L) (hL : L ≤ 2560) : ∃ H2, rn 294 613 [.ref 0, .ref 100, .ref 463, .int (nI (5 * i))] [] H = rn 294 18 [.ref 0, .ref 100, .ref 463, .int (nI (5 * i + 5))] [] H2 ∧ St L xs H2 (i + 1) := by
  have hs : stepI L xs i (fun h => ev 55 [.ref 100, .int (xs (5 * i + 1)), .int (xs (5 * i + 2)), .int (xs (5 * i + 3))] h) (fun h => ev 225 [.ref 463, .int (xs (5 * i + 1)), .int (xs (5 * i + 2)), .int (xs (5 * i + 3))] h) := st_moveGarnishment (show i < 512 by omega) (xs (5 * i + 1)) (xs (5 * i + 2)) (xs (5 * i + 3))
  obtain ⟨v, H1, H2, e1, e2, hm, h2⟩ := hs H hSt
  obtain ⟨k0, s0⟩ := hSt.k
  have rd0 := scr s0 hL
  have rd1 := scr hm.1 hL
  refine ⟨H2, ?_, h2⟩
  dsimp only at e1 e2
  simp (implicitDefEqProofs := false) (disch := omega) only [zr_294_613, zr_294_614, zr_294_615, zr_294_616, zr_294_617, zr_294_618, zr_294_619, zr_294_620, zr_294_621, zr_294_622, zr_294_623, zr_294_624, zr_294_625, zr_294_626, zr_294_627, zr_294_628, zr_294_629, zr_294_632, zr_294_633, zr_294_634, zr_294_635, zr_294_636, zr_294_637, zr_294_638, zr_294_639, zr_294_640, zr_294_641, zr_294_642, zr_294_643, zr_294_644, zr_294_645, zr_294_646, zr_294_647, zr_294_648, zr_294_651, zr_294_654, zr_294_655, zr_294_1562, zr_294_1565, true_or, or_true, true_and, and_true, if_true, if_false, ldA_ref, ldA_null, nl_int, nl_ref, nl_fl, nl_null, c1_int, c1_ref, c1_null, Nat.zero_add, Nat.zero_mul, Nat.one_mul, nI_add, nI_leI, nI_ltI, nI_eq, nI_mul, cmp_lt, cmp_gt, cmp_le, cmp_ge, cmp_eq, rd0, rd1, k0, hm.2, e1, e2, zcall_some, zpush_some, zpush_none, zsum_ref, zsum_int, zsum_long, zsum_nil, zsum_null, Nat.reduceAdd, Nat.reduceLeDiff, if_true]
theorem lc_12 (hSt : St L xs H i) (hi : 5 * i + 5 ≤ L) (hL : L ≤ 2560) : ∃ H2, rn 294 656 [.ref 0, .ref 100, .ref 463, .int (nI (5 * i))] [] H = rn 294 18 [.ref 0, .ref 100, .ref 463, .int (nI (5 * i + 5))] [] H2 ∧ St L xs H2 (i + 1) := by
  have hs : stepI L xs i (fun h => ev 57 [.ref 100] h) (fun h => ev 226 [.ref 463] h) := st_closeMonth (show i < 512 by omega) 
  obtain ⟨v, H1, H2, e1, e2, hm, h2⟩ := hs H hSt
  obtain ⟨k0, s0⟩ := hSt.k
  have rd0 := scr s0 hL
  have rd1 := scr hm.1 hL
  refine ⟨H2, ?_, h2⟩
  dsimp only at e1 e2
  simp (implicitDefEqProofs := false) (disch := omega) only [zr_294_656, zr_294_657, zr_294_660, zr_294_661, zr_294_664, zr_294_667, zr_294_668, zr_294_1562, zr_294_1565, true_or, or_true, true_and, and_true, if_true, if_false, ldA_ref, ldA_null, nl_int, nl_ref, nl_fl, nl_null, c1_int, c1_ref, c1_null, Nat.zero_add, Nat.zero_mul, Nat.one_mul, nI_add, nI_leI, nI_ltI, nI_eq, nI_mul, cmp_lt, cmp_gt, cmp_le, cmp_ge, cmp_eq, rd0, rd1, k0, hm.2, e1, e2, zcall_some, zpush_some, zpush_none, zsum_ref, zsum_int, zsum_long, zsum_nil, zsum_null, Nat.reduceAdd, Nat.reduceLeDiff, if_true]
theorem lc_13 (hSt : St L xs H i) (hi : 5 * i + 5 ≤ L) (hL : L ≤ 2560) : ∃ H2, rn 294 669 [.ref 0, .ref 100, .ref 463, .int (nI (5 * i))] [] H = rn 294 18 [.ref 0, .ref 100, .ref 463, .int (nI (5 * i + 5))] [] H2 ∧ St L xs H2 (i + 1) := by
  have hs : stepI L xs i (fun h => ev 77 [.ref 100] h) (fun h => ev 244 [.ref 463] h) := st_newYear (show i < 512 by omega) 
  obtain ⟨v, H1, H2, e1, e2, hm, h2⟩ := hs H hSt
  obtain ⟨k0, s0⟩ := hSt.k
  have rd0 := scr s0 hL
  have rd1 := scr hm.1 hL
  refine ⟨H2, ?_, h2⟩
  dsimp only at e1 e2
  simp (implicitDefEqProofs := false) (disch := omega) only [zr_294_669, zr_294_670, zr_294_673, zr_294_674, zr_294_677, zr_294_680, zr_294_681, zr_294_1562, zr_294_1565, true_or, or_true, true_and, and_true, if_true, if_false, ldA_ref, ldA_null, nl_int, nl_ref, nl_fl, nl_null, c1_int, c1_ref, c1_null, Nat.zero_add, Nat.zero_mul, Nat.one_mul, nI_add, nI_leI, nI_ltI, nI_eq, nI_mul, cmp_lt, cmp_gt, cmp_le, cmp_ge, cmp_eq, rd0, rd1, k0, hm.2, e1, e2, zcall_some, zpush_some, zpush_none, zsum_ref, zsum_int, zsum_long, zsum_nil, zsum_null, Nat.reduceAdd, Nat.reduceLeDiff, if_true]
theorem lc_14 (hSt : St L xs H i) (hi : 5 * i + 5 ≤ L) (hL : L ≤ 2560) : ∃ H2, rn 294 682 [.ref 0, .ref 100, .ref 463, .int (nI (5 * i))] [] H = rn 294 18 [.ref 0, .ref 100, .ref 463, .int (nI (5 * i + 5))] [] H2 ∧ St L xs H2 (i + 1) := by
  have hs : stepI L xs i (fun h => ev 81 [.ref 100] h) (fun h => ev 245 [.ref 463] h) := (q_closed ).step
  obtain ⟨v, H1, H2, e1, e2, hm, h2⟩ := hs H hSt
  obtain ⟨k0, s0⟩ := hSt.k
  have rd0 := scr s0 hL
  have rd1 := scr hm.1 hL
  refine ⟨H2, ?_, h2⟩
  dsimp only at e1 e2
  simp (implicitDefEqProofs := false) (disch := omega) only [zr_294_682, zr_294_683, zr_294_686, zr_294_687, zr_294_690, zr_294_693, zr_294_694, zr_294_1562, zr_294_1565, true_or, or_true, true_and, and_true, if_true, if_false, ldA_ref, ldA_null, nl_int, nl_ref, nl_fl, nl_null, c1_int, c1_ref, c1_null, Nat.zero_add, Nat.zero_mul, Nat.one_mul, nI_add, nI_leI, nI_ltI, nI_eq, nI_mul, cmp_lt, cmp_gt, cmp_le, cmp_ge, cmp_eq, rd0, rd1, k0, hm.2, e1, e2, zcall_some, zpush_some, zpush_none, zsum_ref, zsum_int, zsum_long, zsum_nil, zsum_null, Nat.reduceAdd, Nat.reduceLeDiff, if_true]
theorem lc_15 (hSt : St L xs H i) (hi : 5 * i + 5 ≤ L) (hL : L ≤ 2560) : ∃ H2, rn 294 695 [.ref 0, .ref 100, .ref 463, .int (nI (5 * i))] [] H = rn 294 18 [.ref 0, .ref 100, .ref 463, .int (nI (5 * i + 5))] [] H2 ∧ St L xs H2 (i + 1) := by
  have hs : stepI L xs i (fun h => ev 82 [.ref 100, .int (xs (5 * i + 1)), .int (xs (5 * i + 2)), .int (xs (5 * i + 3))] h) (fun h => ev 246 [.ref 463, .int (xs (5 * i + 1)), .int (xs (5 * i + 2)), .int (xs (5 * i + 3))] h) := (q_data (xs (5 * i + 1)) (xs (5 * i + 2)) (xs (5 * i + 3))).step
  obtain ⟨v, H1, H2, e1, e2, hm, h2⟩ := hs H hSt
  obtain ⟨k0, s0⟩ := hSt.k
  have rd0 := scr s0 hL
  have rd1 := scr hm.1 hL
  refine ⟨H2, ?_, h2⟩
  dsimp only at e1 e2
  simp (implicitDefEqProofs := false) (disch := omega) only [zr_294_695, zr_294_696, zr_294_697, zr_294_698, zr_294_699, zr_294_700, zr_294_701, zr_294_702, zr_294_703, zr_294_704, zr_294_705, zr_294_706, zr_294_707, zr_294_708, zr_294_709, zr_294_710, zr_294_711, zr_294_714, zr_294_715, zr_294_716, zr_294_717, zr_294_718, zr_294_719, zr_294_720, zr_294_721, zr_294_722, zr_294_723, zr_294_724, zr_294_725, zr_294_726, zr_294_727, zr_294_728, zr_294_729, zr_294_730, zr_294_733, zr_294_736, zr_294_737, zr_294_1562, zr_294_1565, true_or, or_true, true_and, and_true, if_true, if_false, ldA_ref, ldA_null, nl_int, nl_ref, nl_fl, nl_null, c1_int, c1_ref, c1_null, Nat.zero_add, Nat.zero_mul, Nat.one_mul, nI_add, nI_leI, nI_ltI, nI_eq, nI_mul, cmp_lt, cmp_gt, cmp_le, cmp_ge, cmp_eq, rd0, rd1, k0, hm.2, e1, e2, zcall_some, zpush_some, zpush_none, zsum_ref, zsum_int, zsum_long, zsum_nil, zsum_null, Nat.reduceAdd, Nat.reduceLeDiff, if_true]
theorem lc_16 (hSt : St L xs H i) (hi : 5 * i + 5 ≤ L) (hL : L ≤ 2560) : ∃ H2, rn 294 738 [.ref 0, .ref 100, .ref 463, .int (nI (5 * i))] [] H = rn 294 18 [.ref 0, .ref 100, .ref 463, .int (nI (5 * i + 5))] [] H2 ∧ St L xs H2 (i + 1) := by
  have hs : stepI L xs i (fun h => ev 83 [.ref 100, .int (xs (5 * i + 1)), .int (xs (5 * i + 2))] h) (fun h => ev 247 [.ref 463, .int (xs (5 * i + 1)), .int (xs (5 * i + 2))] h) := (q_setting (xs (5 * i + 1)) (xs (5 * i + 2))).step
  obtain ⟨v, H1, H2, e1, e2, hm, h2⟩ := hs H hSt
  obtain ⟨k0, s0⟩ := hSt.k
  have rd0 := scr s0 hL
  have rd1 := scr hm.1 hL
  refine ⟨H2, ?_, h2⟩
  dsimp only at e1 e2
  simp (implicitDefEqProofs := false) (disch := omega) only [zr_294_738, zr_294_739, zr_294_740, zr_294_741, zr_294_742, zr_294_743, zr_294_744, zr_294_745, zr_294_746, zr_294_747, zr_294_748, zr_294_749, zr_294_752, zr_294_753, zr_294_754, zr_294_755, zr_294_756, zr_294_757, zr_294_758, zr_294_759, zr_294_760, zr_294_761, zr_294_762, zr_294_763, zr_294_766, zr_294_769, zr_294_770, zr_294_1562, zr_294_1565, true_or, or_true, true_and, and_true, if_true, if_false, ldA_ref, ldA_null, nl_int, nl_ref, nl_fl, nl_null, c1_int, c1_ref, c1_null, Nat.zero_add, Nat.zero_mul, Nat.one_mul, nI_add, nI_leI, nI_ltI, nI_eq, nI_mul, cmp_lt, cmp_gt, cmp_le, cmp_ge, cmp_eq, rd0, rd1, k0, hm.2, e1, e2, zcall_some, zpush_some, zpush_none, zsum_ref, zsum_int, zsum_long, zsum_nil, zsum_null, Nat.reduceAdd, Nat.reduceLeDiff, if_true]
theorem lc_17 (hSt : St L xs H i) (hi : 5 * i + 5 ≤ L) (hL : L ≤ 2560) : ∃ H2, rn 294 771 [.ref 0, .ref 100, .ref 463, .int (nI (5 * i))] [] H = rn 294 18 [.ref 0, .ref 100, .ref 463, .int (nI (5 * i + 5))] [] H2 ∧ St L xs H2 (i + 1) := by
  have hs : stepI L xs i (fun h => ev 85 [.ref 100, .int (xs (5 * i + 1)), .int (xs (5 * i + 2)), .int (xs (5 * i + 3))] h) (fun h => ev 248 [.ref 463, .int (xs (5 * i + 1)), .int (xs (5 * i + 2)), .int (xs (5 * i + 3))] h) := (q_garnishment (xs (5 * i + 1)) (xs (5 * i + 2)) (xs (5 * i + 3))).step
  obtain ⟨v, H1, H2, e1, e2, hm, h2⟩ := hs H hSt
  obtain ⟨k0, s0⟩ := hSt.k
  have rd0 := scr s0 hL
  have rd1 := scr hm.1 hL
  refine ⟨H2, ?_, h2⟩
  dsimp only at e1 e2
  simp (implicitDefEqProofs := false) (disch := omega) only [zr_294_771, zr_294_772, zr_294_773, zr_294_774, zr_294_775, zr_294_776, zr_294_777, zr_294_778, zr_294_779, zr_294_780, zr_294_781, zr_294_782, zr_294_783, zr_294_784, zr_294_785, zr_294_786, zr_294_787, zr_294_790, zr_294_791, zr_294_792, zr_294_793, zr_294_794, zr_294_795, zr_294_796, zr_294_797, zr_294_798, zr_294_799, zr_294_800, zr_294_801, zr_294_802, zr_294_803, zr_294_804, zr_294_805, zr_294_806, zr_294_809, zr_294_812, zr_294_813, zr_294_1562, zr_294_1565, true_or, or_true, true_and, and_true, if_true, if_false, ldA_ref, ldA_null, nl_int, nl_ref, nl_fl, nl_null, c1_int, c1_ref, c1_null, Nat.zero_add, Nat.zero_mul, Nat.one_mul, nI_add, nI_leI, nI_ltI, nI_eq, nI_mul, cmp_lt, cmp_gt, cmp_le, cmp_ge, cmp_eq, rd0, rd1, k0, hm.2, e1, e2, zcall_some, zpush_some, zpush_none, zsum_ref, zsum_int, zsum_long, zsum_nil, zsum_null, Nat.reduceAdd, Nat.reduceLeDiff, if_true]
theorem lc_18 (hSt : St L xs H i) (hi : 5 * i + 5 ≤ L) (hL : L ≤ 2560) : ∃ H2, rn 294 814 [.ref 0, .ref 100, .ref 463, .int (nI (5 * i))] [] H = rn 294 18 [.ref 0, .ref 100, .ref 463, .int (nI (5 * i + 5))] [] H2 ∧ St L xs H2 (i + 1) := by
  have hs : stepJ L xs i (fun h => ev 86 [.ref 100, .int (xs (5 * i + 1)), .int (xs (5 * i + 2))] h) (fun h => ev 249 [.ref 463, .int (xs (5 * i + 1)), .int (xs (5 * i + 2))] h) := (q_rest (xs (5 * i + 1)) (xs (5 * i + 2))).step
  obtain ⟨v, H1, H2, e1, e2, hm, h2⟩ := hs H hSt
  obtain ⟨k0, s0⟩ := hSt.k
  have rd0 := scr s0 hL
  have rd1 := scr hm.1 hL
  refine ⟨H2, ?_, h2⟩
  dsimp only at e1 e2
  simp (implicitDefEqProofs := false) (disch := omega) only [zr_294_814, zr_294_815, zr_294_816, zr_294_817, zr_294_818, zr_294_819, zr_294_820, zr_294_821, zr_294_822, zr_294_823, zr_294_824, zr_294_825, zr_294_828, zr_294_829, zr_294_830, zr_294_831, zr_294_832, zr_294_833, zr_294_834, zr_294_835, zr_294_836, zr_294_837, zr_294_838, zr_294_839, zr_294_842, zr_294_843, zr_294_846, zr_294_847, zr_294_1562, zr_294_1565, true_or, or_true, true_and, and_true, if_true, if_false, ldA_ref, ldA_null, nl_int, nl_ref, nl_fl, nl_null, c1_int, c1_ref, c1_null, Nat.zero_add, Nat.zero_mul, Nat.one_mul, nI_add, nI_leI, nI_ltI, nI_eq, nI_mul, cmp_lt, cmp_gt, cmp_le, cmp_ge, cmp_eq, rd0, rd1, k0, hm.2, e1, e2, zcall_some, zpush_some, zpush_none, zsum_ref, zsum_int, zsum_long, zsum_nil, zsum_null, Nat.reduceAdd, Nat.reduceLeDiff, if_true]
theorem lc_19 (hSt : St L xs H i) (hi : 5 * i + 5 ≤ L) (hL : L ≤ 2560) : ∃ H2, rn 294 848 [.ref 0, .ref 100, .ref 463, .int (nI (5 * i))] [] H = rn 294 18 [.ref 0, .ref 100, .ref 463, .int (nI (5 * i + 5))] [] H2 ∧ St L xs H2 (i + 1) := by
  have hs : stepJ L xs i (fun h => ev 87 [.ref 100, .int (xs (5 * i + 1)), .int (xs (5 * i + 2)), .int (xs (5 * i + 3))] h) (fun h => ev 250 [.ref 463, .int (xs (5 * i + 1)), .int (xs (5 * i + 2)), .int (xs (5 * i + 3))] h) := (q_due (xs (5 * i + 1)) (xs (5 * i + 2)) (xs (5 * i + 3))).step
  obtain ⟨v, H1, H2, e1, e2, hm, h2⟩ := hs H hSt
  obtain ⟨k0, s0⟩ := hSt.k
  have rd0 := scr s0 hL
  have rd1 := scr hm.1 hL
  refine ⟨H2, ?_, h2⟩
  dsimp only at e1 e2
  simp (implicitDefEqProofs := false) (disch := omega) only [zr_294_848, zr_294_849, zr_294_850, zr_294_851, zr_294_852, zr_294_853, zr_294_854, zr_294_855, zr_294_856, zr_294_857, zr_294_858, zr_294_859, zr_294_860, zr_294_861, zr_294_862, zr_294_863, zr_294_864, zr_294_867, zr_294_868, zr_294_869, zr_294_870, zr_294_871, zr_294_872, zr_294_873, zr_294_874, zr_294_875, zr_294_876, zr_294_877, zr_294_878, zr_294_879, zr_294_880, zr_294_881, zr_294_882, zr_294_883, zr_294_886, zr_294_887, zr_294_890, zr_294_891, zr_294_1562, zr_294_1565, true_or, or_true, true_and, and_true, if_true, if_false, ldA_ref, ldA_null, nl_int, nl_ref, nl_fl, nl_null, c1_int, c1_ref, c1_null, Nat.zero_add, Nat.zero_mul, Nat.one_mul, nI_add, nI_leI, nI_ltI, nI_eq, nI_mul, cmp_lt, cmp_gt, cmp_le, cmp_ge, cmp_eq, rd0, rd1, k0, hm.2, e1, e2, zcall_some, zpush_some, zpush_none, zsum_ref, zsum_int, zsum_long, zsum_nil, zsum_null, Nat.reduceAdd, Nat.reduceLeDiff, if_true]
theorem lc_20 (hSt : St L xs H i) (hi : 5 * i + 5 ≤ L) (hL : L ≤ 2560) : ∃ H2, rn 294 892 [.ref 0, .ref 100, .ref 463, .int (nI (5 * i))] [] H = rn 294 18 [.ref 0, .ref 100, .ref 463, .int (nI (5 * i + 5))] [] H2 ∧ St L xs H2 (i + 1) := by
  have hs : stepJ L xs i (fun h => ev 88 [.ref 100, .int (xs (5 * i + 1)), .int (xs (5 * i + 2)), .int (xs (5 * i + 3))] h) (fun h => ev 251 [.ref 463, .int (xs (5 * i + 1)), .int (xs (5 * i + 2)), .int (xs (5 * i + 3))] h) := (q_settled (xs (5 * i + 1)) (xs (5 * i + 2)) (xs (5 * i + 3))).step
  obtain ⟨v, H1, H2, e1, e2, hm, h2⟩ := hs H hSt
  obtain ⟨k0, s0⟩ := hSt.k
  have rd0 := scr s0 hL
  have rd1 := scr hm.1 hL
  refine ⟨H2, ?_, h2⟩
  dsimp only at e1 e2
  simp (implicitDefEqProofs := false) (disch := omega) only [zr_294_892, zr_294_893, zr_294_894, zr_294_895, zr_294_896, zr_294_897, zr_294_898, zr_294_899, zr_294_900, zr_294_901, zr_294_902, zr_294_903, zr_294_904, zr_294_905, zr_294_906, zr_294_907, zr_294_908, zr_294_911, zr_294_912, zr_294_913, zr_294_914, zr_294_915, zr_294_916, zr_294_917, zr_294_918, zr_294_919, zr_294_920, zr_294_921, zr_294_922, zr_294_923, zr_294_924, zr_294_925, zr_294_926, zr_294_927, zr_294_930, zr_294_931, zr_294_934, zr_294_935, zr_294_1562, zr_294_1565, true_or, or_true, true_and, and_true, if_true, if_false, ldA_ref, ldA_null, nl_int, nl_ref, nl_fl, nl_null, c1_int, c1_ref, c1_null, Nat.zero_add, Nat.zero_mul, Nat.one_mul, nI_add, nI_leI, nI_ltI, nI_eq, nI_mul, cmp_lt, cmp_gt, cmp_le, cmp_ge, cmp_eq, rd0, rd1, k0, hm.2, e1, e2, zcall_some, zpush_some, zpush_none, zsum_ref, zsum_int, zsum_long, zsum_nil, zsum_null, Nat.reduceAdd, Nat.reduceLeDiff, if_true]
theorem lc_21 (hSt : St L xs H i) (hi : 5 * i + 5 ≤ L) (hL : L ≤ 2560) : ∃ H2, rn 294 936 [.ref 0, .ref 100, .ref 463, .int (nI (5 * i))] [] H = rn 294 18 [.ref 0, .ref 100, .ref 463, .int (nI (5 * i + 5))] [] H2 ∧ St L xs H2 (i + 1) := by
  have hs : stepJ L xs i (fun h => ev 89 [.ref 100, .int (xs (5 * i + 1))] h) (fun h => ev 253 [.ref 463, .int (xs (5 * i + 1))] h) := (q_pending (xs (5 * i + 1))).step
  obtain ⟨v, H1, H2, e1, e2, hm, h2⟩ := hs H hSt
  obtain ⟨k0, s0⟩ := hSt.k
  have rd0 := scr s0 hL
  have rd1 := scr hm.1 hL
  refine ⟨H2, ?_, h2⟩
  dsimp only at e1 e2
  simp (implicitDefEqProofs := false) (disch := omega) only [zr_294_936, zr_294_937, zr_294_938, zr_294_939, zr_294_940, zr_294_941, zr_294_942, zr_294_945, zr_294_946, zr_294_947, zr_294_948, zr_294_949, zr_294_950, zr_294_951, zr_294_954, zr_294_955, zr_294_958, zr_294_959, zr_294_1562, zr_294_1565, true_or, or_true, true_and, and_true, if_true, if_false, ldA_ref, ldA_null, nl_int, nl_ref, nl_fl, nl_null, c1_int, c1_ref, c1_null, Nat.zero_add, Nat.zero_mul, Nat.one_mul, nI_add, nI_leI, nI_ltI, nI_eq, nI_mul, cmp_lt, cmp_gt, cmp_le, cmp_ge, cmp_eq, rd0, rd1, k0, hm.2, e1, e2, zcall_some, zpush_some, zpush_none, zsum_ref, zsum_int, zsum_long, zsum_nil, zsum_null, Nat.reduceAdd, Nat.reduceLeDiff, if_true]
theorem lc_22 (hSt : St L xs H i) (hi : 5 * i + 5 ≤ L) (hL : L ≤ 2560) : ∃ H2, rn 294 960 [.ref 0, .ref 100, .ref 463, .int (nI (5 * i))] [] H = rn 294 18 [.ref 0, .ref 100, .ref 463, .int (nI (5 * i + 5))] [] H2 ∧ St L xs H2 (i + 1) := by
  have hs : stepJ L xs i (fun h => ev 90 [.ref 100, .int (xs (5 * i + 1))] h) (fun h => ev 254 [.ref 463, .int (xs (5 * i + 1))] h) := (q_owed (xs (5 * i + 1))).step
  obtain ⟨v, H1, H2, e1, e2, hm, h2⟩ := hs H hSt
  obtain ⟨k0, s0⟩ := hSt.k
  have rd0 := scr s0 hL
  have rd1 := scr hm.1 hL
  refine ⟨H2, ?_, h2⟩
  dsimp only at e1 e2
  simp (implicitDefEqProofs := false) (disch := omega) only [zr_294_960, zr_294_961, zr_294_962, zr_294_963, zr_294_964, zr_294_965, zr_294_966, zr_294_969, zr_294_970, zr_294_971, zr_294_972, zr_294_973, zr_294_974, zr_294_975, zr_294_978, zr_294_979, zr_294_982, zr_294_983, zr_294_1562, zr_294_1565, true_or, or_true, true_and, and_true, if_true, if_false, ldA_ref, ldA_null, nl_int, nl_ref, nl_fl, nl_null, c1_int, c1_ref, c1_null, Nat.zero_add, Nat.zero_mul, Nat.one_mul, nI_add, nI_leI, nI_ltI, nI_eq, nI_mul, cmp_lt, cmp_gt, cmp_le, cmp_ge, cmp_eq, rd0, rd1, k0, hm.2, e1, e2, zcall_some, zpush_some, zpush_none, zsum_ref, zsum_int, zsum_long, zsum_nil, zsum_null, Nat.reduceAdd, Nat.reduceLeDiff, if_true]
theorem lc_23 (hSt : St L xs H i) (hi : 5 * i + 5 ≤ L) (hL : L ≤ 2560) : ∃ H2, rn 294 984 [.ref 0, .ref 100, .ref 463, .int (nI (5 * i))] [] H = rn 294 18 [.ref 0, .ref 100, .ref 463, .int (nI (5 * i + 5))] [] H2 ∧ St L xs H2 (i + 1) := by
  have hs : stepI L xs i (fun h => ev 91 [.ref 100, .int (xs (5 * i + 1)), .int (xs (5 * i + 2))] h) (fun h => ev 255 [.ref 463, .int (xs (5 * i + 1)), .int (xs (5 * i + 2))] h) := (q_lineCount (xs (5 * i + 1)) (xs (5 * i + 2))).step
  obtain ⟨v, H1, H2, e1, e2, hm, h2⟩ := hs H hSt
  obtain ⟨k0, s0⟩ := hSt.k
  have rd0 := scr s0 hL
  have rd1 := scr hm.1 hL
  refine ⟨H2, ?_, h2⟩
  dsimp only at e1 e2
  simp (implicitDefEqProofs := false) (disch := omega) only [zr_294_984, zr_294_985, zr_294_986, zr_294_987, zr_294_988, zr_294_989, zr_294_990, zr_294_991, zr_294_992, zr_294_993, zr_294_994, zr_294_995, zr_294_998, zr_294_999, zr_294_1000, zr_294_1001, zr_294_1002, zr_294_1003, zr_294_1004, zr_294_1005, zr_294_1006, zr_294_1007, zr_294_1008, zr_294_1009, zr_294_1012, zr_294_1015, zr_294_1016, zr_294_1562, zr_294_1565, true_or, or_true, true_and, and_true, if_true, if_false, ldA_ref, ldA_null, nl_int, nl_ref, nl_fl, nl_null, c1_int, c1_ref, c1_null, Nat.zero_add, Nat.zero_mul, Nat.one_mul, nI_add, nI_leI, nI_ltI, nI_eq, nI_mul, cmp_lt, cmp_gt, cmp_le, cmp_ge, cmp_eq, rd0, rd1, k0, hm.2, e1, e2, zcall_some, zpush_some, zpush_none, zsum_ref, zsum_int, zsum_long, zsum_nil, zsum_null, Nat.reduceAdd, Nat.reduceLeDiff, if_true]
theorem lc_24 (hSt : St L xs H i) (hi : 5 * i + 5 ≤ L) (hL : L ≤ 2560) : ∃ H2, rn 294 1017 [.ref 0, .ref 100, .ref 463, .int (nI (5 * i))] [] H = rn 294 18 [.ref 0, .ref 100, .ref 463, .int (nI (5 * i + 5))] [] H2 ∧ St L xs H2 (i + 1) := by
  have hs : stepI L xs i (fun h => ev 92 [.ref 100, .int (xs (5 * i + 1)), .int (xs (5 * i + 2)), .int (xs (5 * i + 3)), .int (xs (5 * i + 4))] h) (fun h => ev 256 [.ref 463, .int (xs (5 * i + 1)), .int (xs (5 * i + 2)), .int (xs (5 * i + 3)), .int (xs (5 * i + 4))] h) := (q_line (xs (5 * i + 1)) (xs (5 * i + 2)) (xs (5 * i + 3)) (xs (5 * i + 4))).step
  obtain ⟨v, H1, H2, e1, e2, hm, h2⟩ := hs H hSt
  obtain ⟨k0, s0⟩ := hSt.k
  have rd0 := scr s0 hL
  have rd1 := scr hm.1 hL
  refine ⟨H2, ?_, h2⟩
  dsimp only at e1 e2
  simp (implicitDefEqProofs := false) (disch := omega) only [zr_294_1017, zr_294_1018, zr_294_1019, zr_294_1020, zr_294_1021, zr_294_1022, zr_294_1023, zr_294_1024, zr_294_1025, zr_294_1026, zr_294_1027, zr_294_1028, zr_294_1029, zr_294_1030, zr_294_1031, zr_294_1032, zr_294_1033, zr_294_1034, zr_294_1035, zr_294_1036, zr_294_1037, zr_294_1038, zr_294_1041, zr_294_1042, zr_294_1043, zr_294_1044, zr_294_1045, zr_294_1046, zr_294_1047, zr_294_1048, zr_294_1049, zr_294_1050, zr_294_1051, zr_294_1052, zr_294_1053, zr_294_1054, zr_294_1055, zr_294_1056, zr_294_1057, zr_294_1058, zr_294_1059, zr_294_1060, zr_294_1061, zr_294_1062, zr_294_1065, zr_294_1068, zr_294_1069, zr_294_1562, zr_294_1565, true_or, or_true, true_and, and_true, if_true, if_false, ldA_ref, ldA_null, nl_int, nl_ref, nl_fl, nl_null, c1_int, c1_ref, c1_null, Nat.zero_add, Nat.zero_mul, Nat.one_mul, nI_add, nI_leI, nI_ltI, nI_eq, nI_mul, cmp_lt, cmp_gt, cmp_le, cmp_ge, cmp_eq, rd0, rd1, k0, hm.2, e1, e2, zcall_some, zpush_some, zpush_none, zsum_ref, zsum_int, zsum_long, zsum_nil, zsum_null, Nat.reduceAdd, Nat.reduceLeDiff, if_true]
theorem lc_25 (hSt : St L xs H i) (hi : 5 * i + 5 ≤ L) (hL : L ≤ 2560) : ∃ H2, rn 294 1070 [.ref 0, .ref 100, .ref 463, .int (nI (5 * i))] [] H = rn 294 18 [.ref 0, .ref 100, .ref 463, .int (nI (5 * i + 5))] [] H2 ∧ St L xs H2 (i + 1) := by
  have hs : stepJ L xs i (fun h => ev 94 [.ref 100, .int (xs (5 * i + 1)), .int (xs (5 * i + 2)), .int (xs (5 * i + 3))] h) (fun h => ev 258 [.ref 463, .int (xs (5 * i + 1)), .int (xs (5 * i + 2)), .int (xs (5 * i + 3))] h) := (q_amount (xs (5 * i + 1)) (xs (5 * i + 2)) (xs (5 * i + 3))).step
  obtain ⟨v, H1, H2, e1, e2, hm, h2⟩ := hs H hSt
  obtain ⟨k0, s0⟩ := hSt.k
  have rd0 := scr s0 hL
  have rd1 := scr hm.1 hL
  refine ⟨H2, ?_, h2⟩
  dsimp only at e1 e2
  simp (implicitDefEqProofs := false) (disch := omega) only [zr_294_1070, zr_294_1071, zr_294_1072, zr_294_1073, zr_294_1074, zr_294_1075, zr_294_1076, zr_294_1077, zr_294_1078, zr_294_1079, zr_294_1080, zr_294_1081, zr_294_1082, zr_294_1083, zr_294_1084, zr_294_1085, zr_294_1086, zr_294_1089, zr_294_1090, zr_294_1091, zr_294_1092, zr_294_1093, zr_294_1094, zr_294_1095, zr_294_1096, zr_294_1097, zr_294_1098, zr_294_1099, zr_294_1100, zr_294_1101, zr_294_1102, zr_294_1103, zr_294_1104, zr_294_1105, zr_294_1108, zr_294_1109, zr_294_1112, zr_294_1113, zr_294_1562, zr_294_1565, true_or, or_true, true_and, and_true, if_true, if_false, ldA_ref, ldA_null, nl_int, nl_ref, nl_fl, nl_null, c1_int, c1_ref, c1_null, Nat.zero_add, Nat.zero_mul, Nat.one_mul, nI_add, nI_leI, nI_ltI, nI_eq, nI_mul, cmp_lt, cmp_gt, cmp_le, cmp_ge, cmp_eq, rd0, rd1, k0, hm.2, e1, e2, zcall_some, zpush_some, zpush_none, zsum_ref, zsum_int, zsum_long, zsum_nil, zsum_null, Nat.reduceAdd, Nat.reduceLeDiff, if_true]
theorem lc_26 (hSt : St L xs H i) (hi : 5 * i + 5 ≤ L) (hL : L ≤ 2560) : ∃ H2, rn 294 1114 [.ref 0, .ref 100, .ref 463, .int (nI (5 * i))] [] H = rn 294 18 [.ref 0, .ref 100, .ref 463, .int (nI (5 * i + 5))] [] H2 ∧ St L xs H2 (i + 1) := by
  have hs : stepI L xs i (fun h => ev 95 [.ref 100, .int (xs (5 * i + 1)), .int (xs (5 * i + 2)), .int (xs (5 * i + 3))] h) (fun h => ev 259 [.ref 463, .int (xs (5 * i + 1)), .int (xs (5 * i + 2)), .int (xs (5 * i + 3))] h) := (q_letter (xs (5 * i + 1)) (xs (5 * i + 2)) (xs (5 * i + 3))).step
  obtain ⟨v, H1, H2, e1, e2, hm, h2⟩ := hs H hSt
  obtain ⟨k0, s0⟩ := hSt.k
  have rd0 := scr s0 hL
  have rd1 := scr hm.1 hL
  refine ⟨H2, ?_, h2⟩
  dsimp only at e1 e2
  simp (implicitDefEqProofs := false) (disch := omega) only [zr_294_1114, zr_294_1115, zr_294_1116, zr_294_1117, zr_294_1118, zr_294_1119, zr_294_1120, zr_294_1121, zr_294_1122, zr_294_1123, zr_294_1124, zr_294_1125, zr_294_1126, zr_294_1127, zr_294_1128, zr_294_1129, zr_294_1130, zr_294_1133, zr_294_1134, zr_294_1135, zr_294_1136, zr_294_1137, zr_294_1138, zr_294_1139, zr_294_1140, zr_294_1141, zr_294_1142, zr_294_1143, zr_294_1144, zr_294_1145, zr_294_1146, zr_294_1147, zr_294_1148, zr_294_1149, zr_294_1152, zr_294_1155, zr_294_1156, zr_294_1562, zr_294_1565, true_or, or_true, true_and, and_true, if_true, if_false, ldA_ref, ldA_null, nl_int, nl_ref, nl_fl, nl_null, c1_int, c1_ref, c1_null, Nat.zero_add, Nat.zero_mul, Nat.one_mul, nI_add, nI_leI, nI_ltI, nI_eq, nI_mul, cmp_lt, cmp_gt, cmp_le, cmp_ge, cmp_eq, rd0, rd1, k0, hm.2, e1, e2, zcall_some, zpush_some, zpush_none, zsum_ref, zsum_int, zsum_long, zsum_nil, zsum_null, Nat.reduceAdd, Nat.reduceLeDiff, if_true]
theorem lc_27 (hSt : St L xs H i) (hi : 5 * i + 5 ≤ L) (hL : L ≤ 2560) : ∃ H2, rn 294 1157 [.ref 0, .ref 100, .ref 463, .int (nI (5 * i))] [] H = rn 294 18 [.ref 0, .ref 100, .ref 463, .int (nI (5 * i + 5))] [] H2 ∧ St L xs H2 (i + 1) := by
  have hs : stepJ L xs i (fun h => ev 148 [.ref 100, .int (xs (5 * i + 1)), .int (xs (5 * i + 2))] h) (fun h => ev 265 [.ref 463, .int (xs (5 * i + 1)), .int (xs (5 * i + 2))] h) := (q_payout (xs (5 * i + 1)) (xs (5 * i + 2))).step
  obtain ⟨v, H1, H2, e1, e2, hm, h2⟩ := hs H hSt
  obtain ⟨k0, s0⟩ := hSt.k
  have rd0 := scr s0 hL
  have rd1 := scr hm.1 hL
  refine ⟨H2, ?_, h2⟩
  dsimp only at e1 e2
  simp (implicitDefEqProofs := false) (disch := omega) only [zr_294_1157, zr_294_1158, zr_294_1159, zr_294_1160, zr_294_1161, zr_294_1162, zr_294_1163, zr_294_1164, zr_294_1165, zr_294_1166, zr_294_1167, zr_294_1168, zr_294_1171, zr_294_1172, zr_294_1173, zr_294_1174, zr_294_1175, zr_294_1176, zr_294_1177, zr_294_1178, zr_294_1179, zr_294_1180, zr_294_1181, zr_294_1182, zr_294_1185, zr_294_1186, zr_294_1189, zr_294_1190, zr_294_1562, zr_294_1565, true_or, or_true, true_and, and_true, if_true, if_false, ldA_ref, ldA_null, nl_int, nl_ref, nl_fl, nl_null, c1_int, c1_ref, c1_null, Nat.zero_add, Nat.zero_mul, Nat.one_mul, nI_add, nI_leI, nI_ltI, nI_eq, nI_mul, cmp_lt, cmp_gt, cmp_le, cmp_ge, cmp_eq, rd0, rd1, k0, hm.2, e1, e2, zcall_some, zpush_some, zpush_none, zsum_ref, zsum_int, zsum_long, zsum_nil, zsum_null, Nat.reduceAdd, Nat.reduceLeDiff, if_true]
theorem lc_28 (hSt : St L xs H i) (hi : 5 * i + 5 ≤ L) (hL : L ≤ 2560) : ∃ H2, rn 294 1191 [.ref 0, .ref 100, .ref 463, .int (nI (5 * i))] [] H = rn 294 18 [.ref 0, .ref 100, .ref 463, .int (nI (5 * i + 5))] [] H2 ∧ St L xs H2 (i + 1) := by
  have hs : stepJ L xs i (fun h => ev 150 [.ref 100, .int (xs (5 * i + 1))] h) (fun h => ev 267 [.ref 463, .int (xs (5 * i + 1))] h) := (q_preview (xs (5 * i + 1))).step
  obtain ⟨v, H1, H2, e1, e2, hm, h2⟩ := hs H hSt
  obtain ⟨k0, s0⟩ := hSt.k
  have rd0 := scr s0 hL
  have rd1 := scr hm.1 hL
  refine ⟨H2, ?_, h2⟩
  dsimp only at e1 e2
  simp (implicitDefEqProofs := false) (disch := omega) only [zr_294_1191, zr_294_1192, zr_294_1193, zr_294_1194, zr_294_1195, zr_294_1196, zr_294_1197, zr_294_1200, zr_294_1201, zr_294_1202, zr_294_1203, zr_294_1204, zr_294_1205, zr_294_1206, zr_294_1209, zr_294_1210, zr_294_1213, zr_294_1214, zr_294_1562, zr_294_1565, true_or, or_true, true_and, and_true, if_true, if_false, ldA_ref, ldA_null, nl_int, nl_ref, nl_fl, nl_null, c1_int, c1_ref, c1_null, Nat.zero_add, Nat.zero_mul, Nat.one_mul, nI_add, nI_leI, nI_ltI, nI_eq, nI_mul, cmp_lt, cmp_gt, cmp_le, cmp_ge, cmp_eq, rd0, rd1, k0, hm.2, e1, e2, zcall_some, zpush_some, zpush_none, zsum_ref, zsum_int, zsum_long, zsum_nil, zsum_null, Nat.reduceAdd, Nat.reduceLeDiff, if_true]
theorem lc_29 (hSt : St L xs H i) (hi : 5 * i + 5 ≤ L) (hL : L ≤ 2560) : ∃ H2, rn 294 1215 [.ref 0, .ref 100, .ref 463, .int (nI (5 * i))] [] H = rn 294 18 [.ref 0, .ref 100, .ref 463, .int (nI (5 * i + 5))] [] H2 ∧ St L xs H2 (i + 1) := by
  have hs : stepJ L xs i (fun h => ev 154 [.ref 100, .int (xs (5 * i + 1))] h) (fun h => ev 271 [.ref 463, .int (xs (5 * i + 1))] h) := (q_marginal (xs (5 * i + 1))).step
  obtain ⟨v, H1, H2, e1, e2, hm, h2⟩ := hs H hSt
  obtain ⟨k0, s0⟩ := hSt.k
  have rd0 := scr s0 hL
  have rd1 := scr hm.1 hL
  refine ⟨H2, ?_, h2⟩
  dsimp only at e1 e2
  simp (implicitDefEqProofs := false) (disch := omega) only [zr_294_1215, zr_294_1216, zr_294_1217, zr_294_1218, zr_294_1219, zr_294_1220, zr_294_1221, zr_294_1224, zr_294_1225, zr_294_1226, zr_294_1227, zr_294_1228, zr_294_1229, zr_294_1230, zr_294_1233, zr_294_1234, zr_294_1237, zr_294_1238, zr_294_1562, zr_294_1565, true_or, or_true, true_and, and_true, if_true, if_false, ldA_ref, ldA_null, nl_int, nl_ref, nl_fl, nl_null, c1_int, c1_ref, c1_null, Nat.zero_add, Nat.zero_mul, Nat.one_mul, nI_add, nI_leI, nI_ltI, nI_eq, nI_mul, cmp_lt, cmp_gt, cmp_le, cmp_ge, cmp_eq, rd0, rd1, k0, hm.2, e1, e2, zcall_some, zpush_some, zpush_none, zsum_ref, zsum_int, zsum_long, zsum_nil, zsum_null, Nat.reduceAdd, Nat.reduceLeDiff, if_true]
theorem lc_30 (hSt : St L xs H i) (hi : 5 * i + 5 ≤ L) (hL : L ≤ 2560) : ∃ H2, rn 294 1239 [.ref 0, .ref 100, .ref 463, .int (nI (5 * i))] [] H = rn 294 18 [.ref 0, .ref 100, .ref 463, .int (nI (5 * i + 5))] [] H2 ∧ St L xs H2 (i + 1) := by
  have hs : stepI L xs i (fun h => ev 155 [.ref 100, .int (xs (5 * i + 1)), .int (xs (5 * i + 2))] h) (fun h => ev 272 [.ref 463, .int (xs (5 * i + 1)), .int (xs (5 * i + 2))] h) := (q_leastSalary (xs (5 * i + 1)) (xs (5 * i + 2))).step
  obtain ⟨v, H1, H2, e1, e2, hm, h2⟩ := hs H hSt
  obtain ⟨k0, s0⟩ := hSt.k
  have rd0 := scr s0 hL
  have rd1 := scr hm.1 hL
  refine ⟨H2, ?_, h2⟩
  dsimp only at e1 e2
  simp (implicitDefEqProofs := false) (disch := omega) only [zr_294_1239, zr_294_1240, zr_294_1241, zr_294_1242, zr_294_1243, zr_294_1244, zr_294_1245, zr_294_1246, zr_294_1247, zr_294_1248, zr_294_1249, zr_294_1250, zr_294_1253, zr_294_1254, zr_294_1255, zr_294_1256, zr_294_1257, zr_294_1258, zr_294_1259, zr_294_1260, zr_294_1261, zr_294_1262, zr_294_1263, zr_294_1264, zr_294_1267, zr_294_1270, zr_294_1271, zr_294_1562, zr_294_1565, true_or, or_true, true_and, and_true, if_true, if_false, ldA_ref, ldA_null, nl_int, nl_ref, nl_fl, nl_null, c1_int, c1_ref, c1_null, Nat.zero_add, Nat.zero_mul, Nat.one_mul, nI_add, nI_leI, nI_ltI, nI_eq, nI_mul, cmp_lt, cmp_gt, cmp_le, cmp_ge, cmp_eq, rd0, rd1, k0, hm.2, e1, e2, zcall_some, zpush_some, zpush_none, zsum_ref, zsum_int, zsum_long, zsum_nil, zsum_null, Nat.reduceAdd, Nat.reduceLeDiff, if_true]
theorem lc_31 (hSt : St L xs H i) (hi : 5 * i + 5 ≤ L) (hL : L ≤ 2560) : ∃ H2, rn 294 1272 [.ref 0, .ref 100, .ref 463, .int (nI (5 * i))] [] H = rn 294 18 [.ref 0, .ref 100, .ref 463, .int (nI (5 * i + 5))] [] H2 ∧ St L xs H2 (i + 1) := by
  have hs : stepJ L xs i (fun h => ev 158 [.ref 100, .int (xs (5 * i + 1))] h) (fun h => ev 273 [.ref 463, .int (xs (5 * i + 1))] h) := (q_projected (xs (5 * i + 1))).step
  obtain ⟨v, H1, H2, e1, e2, hm, h2⟩ := hs H hSt
  obtain ⟨k0, s0⟩ := hSt.k
  have rd0 := scr s0 hL
  have rd1 := scr hm.1 hL
  refine ⟨H2, ?_, h2⟩
  dsimp only at e1 e2
  simp (implicitDefEqProofs := false) (disch := omega) only [zr_294_1272, zr_294_1273, zr_294_1274, zr_294_1275, zr_294_1276, zr_294_1277, zr_294_1278, zr_294_1281, zr_294_1282, zr_294_1283, zr_294_1284, zr_294_1285, zr_294_1286, zr_294_1287, zr_294_1290, zr_294_1291, zr_294_1294, zr_294_1295, zr_294_1562, zr_294_1565, true_or, or_true, true_and, and_true, if_true, if_false, ldA_ref, ldA_null, nl_int, nl_ref, nl_fl, nl_null, c1_int, c1_ref, c1_null, Nat.zero_add, Nat.zero_mul, Nat.one_mul, nI_add, nI_leI, nI_ltI, nI_eq, nI_mul, cmp_lt, cmp_gt, cmp_le, cmp_ge, cmp_eq, rd0, rd1, k0, hm.2, e1, e2, zcall_some, zpush_some, zpush_none, zsum_ref, zsum_int, zsum_long, zsum_nil, zsum_null, Nat.reduceAdd, Nat.reduceLeDiff, if_true]
theorem lc_32 (hSt : St L xs H i) (hi : 5 * i + 5 ≤ L) (hL : L ≤ 2560) : ∃ H2, rn 294 1296 [.ref 0, .ref 100, .ref 463, .int (nI (5 * i))] [] H = rn 294 18 [.ref 0, .ref 100, .ref 463, .int (nI (5 * i + 5))] [] H2 ∧ St L xs H2 (i + 1) := by
  have hs : stepJ L xs i (fun h => ev 163 [.ref 100, .int (xs (5 * i + 1)), .int (xs (5 * i + 2))] h) (fun h => ev 275 [.ref 463, .int (xs (5 * i + 1)), .int (xs (5 * i + 2))] h) := (q_total (xs (5 * i + 1)) (xs (5 * i + 2))).step
  obtain ⟨v, H1, H2, e1, e2, hm, h2⟩ := hs H hSt
  obtain ⟨k0, s0⟩ := hSt.k
  have rd0 := scr s0 hL
  have rd1 := scr hm.1 hL
  refine ⟨H2, ?_, h2⟩
  dsimp only at e1 e2
  simp (implicitDefEqProofs := false) (disch := omega) only [zr_294_1296, zr_294_1297, zr_294_1298, zr_294_1299, zr_294_1300, zr_294_1301, zr_294_1302, zr_294_1303, zr_294_1304, zr_294_1305, zr_294_1306, zr_294_1307, zr_294_1310, zr_294_1311, zr_294_1312, zr_294_1313, zr_294_1314, zr_294_1315, zr_294_1316, zr_294_1317, zr_294_1318, zr_294_1319, zr_294_1320, zr_294_1321, zr_294_1324, zr_294_1325, zr_294_1328, zr_294_1329, zr_294_1562, zr_294_1565, true_or, or_true, true_and, and_true, if_true, if_false, ldA_ref, ldA_null, nl_int, nl_ref, nl_fl, nl_null, c1_int, c1_ref, c1_null, Nat.zero_add, Nat.zero_mul, Nat.one_mul, nI_add, nI_leI, nI_ltI, nI_eq, nI_mul, cmp_lt, cmp_gt, cmp_le, cmp_ge, cmp_eq, rd0, rd1, k0, hm.2, e1, e2, zcall_some, zpush_some, zpush_none, zsum_ref, zsum_int, zsum_long, zsum_nil, zsum_null, Nat.reduceAdd, Nat.reduceLeDiff, if_true]
theorem lc_33 (hSt : St L xs H i) (hi : 5 * i + 5 ≤ L) (hL : L ≤ 2560) : ∃ H2, rn 294 1330 [.ref 0, .ref 100, .ref 463, .int (nI (5 * i))] [] H = rn 294 18 [.ref 0, .ref 100, .ref 463, .int (nI (5 * i + 5))] [] H2 ∧ St L xs H2 (i + 1) := by
  have hs : stepJ L xs i (fun h => ev 164 [.ref 100, .int (xs (5 * i + 1)), .int (xs (5 * i + 2))] h) (fun h => ev 278 [.ref 463, .int (xs (5 * i + 1)), .int (xs (5 * i + 2))] h) := (q_oneRun (xs (5 * i + 1)) (xs (5 * i + 2))).step
  obtain ⟨v, H1, H2, e1, e2, hm, h2⟩ := hs H hSt
  obtain ⟨k0, s0⟩ := hSt.k
  have rd0 := scr s0 hL
  have rd1 := scr hm.1 hL
  refine ⟨H2, ?_, h2⟩
  dsimp only at e1 e2
  simp (implicitDefEqProofs := false) (disch := omega) only [zr_294_1330, zr_294_1331, zr_294_1332, zr_294_1333, zr_294_1334, zr_294_1335, zr_294_1336, zr_294_1337, zr_294_1338, zr_294_1339, zr_294_1340, zr_294_1341, zr_294_1344, zr_294_1345, zr_294_1346, zr_294_1347, zr_294_1348, zr_294_1349, zr_294_1350, zr_294_1351, zr_294_1352, zr_294_1353, zr_294_1354, zr_294_1355, zr_294_1358, zr_294_1359, zr_294_1362, zr_294_1363, zr_294_1562, zr_294_1565, true_or, or_true, true_and, and_true, if_true, if_false, ldA_ref, ldA_null, nl_int, nl_ref, nl_fl, nl_null, c1_int, c1_ref, c1_null, Nat.zero_add, Nat.zero_mul, Nat.one_mul, nI_add, nI_leI, nI_ltI, nI_eq, nI_mul, cmp_lt, cmp_gt, cmp_le, cmp_ge, cmp_eq, rd0, rd1, k0, hm.2, e1, e2, zcall_some, zpush_some, zpush_none, zsum_ref, zsum_int, zsum_long, zsum_nil, zsum_null, Nat.reduceAdd, Nat.reduceLeDiff, if_true]
theorem lc_34 (hSt : St L xs H i) (hi : 5 * i + 5 ≤ L) (hL : L ≤ 2560) : ∃ H2, rn 294 1364 [.ref 0, .ref 100, .ref 463, .int (nI (5 * i))] [] H = rn 294 18 [.ref 0, .ref 100, .ref 463, .int (nI (5 * i + 5))] [] H2 ∧ St L xs H2 (i + 1) := by
  have hs : stepJ L xs i (fun h => ev 166 [.ref 100, .int (xs (5 * i + 1)), .int (xs (5 * i + 2))] h) (fun h => ev 279 [.ref 463, .int (xs (5 * i + 1)), .int (xs (5 * i + 2))] h) := (q_account (xs (5 * i + 1)) (xs (5 * i + 2))).step
  obtain ⟨v, H1, H2, e1, e2, hm, h2⟩ := hs H hSt
  obtain ⟨k0, s0⟩ := hSt.k
  have rd0 := scr s0 hL
  have rd1 := scr hm.1 hL
  refine ⟨H2, ?_, h2⟩
  dsimp only at e1 e2
  simp (implicitDefEqProofs := false) (disch := omega) only [zr_294_1364, zr_294_1365, zr_294_1366, zr_294_1367, zr_294_1368, zr_294_1369, zr_294_1370, zr_294_1371, zr_294_1372, zr_294_1373, zr_294_1374, zr_294_1375, zr_294_1378, zr_294_1379, zr_294_1380, zr_294_1381, zr_294_1382, zr_294_1383, zr_294_1384, zr_294_1385, zr_294_1386, zr_294_1387, zr_294_1388, zr_294_1389, zr_294_1392, zr_294_1393, zr_294_1396, zr_294_1397, zr_294_1562, zr_294_1565, true_or, or_true, true_and, and_true, if_true, if_false, ldA_ref, ldA_null, nl_int, nl_ref, nl_fl, nl_null, c1_int, c1_ref, c1_null, Nat.zero_add, Nat.zero_mul, Nat.one_mul, nI_add, nI_leI, nI_ltI, nI_eq, nI_mul, cmp_lt, cmp_gt, cmp_le, cmp_ge, cmp_eq, rd0, rd1, k0, hm.2, e1, e2, zcall_some, zpush_some, zpush_none, zsum_ref, zsum_int, zsum_long, zsum_nil, zsum_null, Nat.reduceAdd, Nat.reduceLeDiff, if_true]
theorem lc_35 (hSt : St L xs H i) (hi : 5 * i + 5 ≤ L) (hL : L ≤ 2560) : ∃ H2, rn 294 1398 [.ref 0, .ref 100, .ref 463, .int (nI (5 * i))] [] H = rn 294 18 [.ref 0, .ref 100, .ref 463, .int (nI (5 * i + 5))] [] H2 ∧ St L xs H2 (i + 1) := by
  have hs : stepI L xs i (fun h => ev 168 [.ref 100, .int (xs (5 * i + 1)), .int (xs (5 * i + 2))] h) (fun h => ev 280 [.ref 463, .int (xs (5 * i + 1)), .int (xs (5 * i + 2))] h) := (q_statement (xs (5 * i + 1)) (xs (5 * i + 2))).step
  obtain ⟨v, H1, H2, e1, e2, hm, h2⟩ := hs H hSt
  obtain ⟨k0, s0⟩ := hSt.k
  have rd0 := scr s0 hL
  have rd1 := scr hm.1 hL
  refine ⟨H2, ?_, h2⟩
  dsimp only at e1 e2
  simp (implicitDefEqProofs := false) (disch := omega) only [zr_294_1398, zr_294_1399, zr_294_1400, zr_294_1401, zr_294_1402, zr_294_1403, zr_294_1404, zr_294_1405, zr_294_1406, zr_294_1407, zr_294_1408, zr_294_1409, zr_294_1412, zr_294_1413, zr_294_1414, zr_294_1415, zr_294_1416, zr_294_1417, zr_294_1418, zr_294_1419, zr_294_1420, zr_294_1421, zr_294_1422, zr_294_1423, zr_294_1426, zr_294_1429, zr_294_1430, zr_294_1562, zr_294_1565, true_or, or_true, true_and, and_true, if_true, if_false, ldA_ref, ldA_null, nl_int, nl_ref, nl_fl, nl_null, c1_int, c1_ref, c1_null, Nat.zero_add, Nat.zero_mul, Nat.one_mul, nI_add, nI_leI, nI_ltI, nI_eq, nI_mul, cmp_lt, cmp_gt, cmp_le, cmp_ge, cmp_eq, rd0, rd1, k0, hm.2, e1, e2, zcall_some, zpush_some, zpush_none, zsum_ref, zsum_int, zsum_long, zsum_nil, zsum_null, Nat.reduceAdd, Nat.reduceLeDiff, if_true]
theorem lc_36 (hSt : St L xs H i) (hi : 5 * i + 5 ≤ L) (hL : L ≤ 2560) : ∃ H2, rn 294 1431 [.ref 0, .ref 100, .ref 463, .int (nI (5 * i))] [] H = rn 294 18 [.ref 0, .ref 100, .ref 463, .int (nI (5 * i + 5))] [] H2 ∧ St L xs H2 (i + 1) := by
  have hs : stepI L xs i (fun h => ev 169 [.ref 100, .int (xs (5 * i + 1))] h) (fun h => ev 281 [.ref 463, .int (xs (5 * i + 1))] h) := (q_lowest (xs (5 * i + 1))).step
  obtain ⟨v, H1, H2, e1, e2, hm, h2⟩ := hs H hSt
  obtain ⟨k0, s0⟩ := hSt.k
  have rd0 := scr s0 hL
  have rd1 := scr hm.1 hL
  refine ⟨H2, ?_, h2⟩
  dsimp only at e1 e2
  simp (implicitDefEqProofs := false) (disch := omega) only [zr_294_1431, zr_294_1432, zr_294_1433, zr_294_1434, zr_294_1435, zr_294_1436, zr_294_1437, zr_294_1440, zr_294_1441, zr_294_1442, zr_294_1443, zr_294_1444, zr_294_1445, zr_294_1446, zr_294_1449, zr_294_1452, zr_294_1453, zr_294_1562, zr_294_1565, true_or, or_true, true_and, and_true, if_true, if_false, ldA_ref, ldA_null, nl_int, nl_ref, nl_fl, nl_null, c1_int, c1_ref, c1_null, Nat.zero_add, Nat.zero_mul, Nat.one_mul, nI_add, nI_leI, nI_ltI, nI_eq, nI_mul, cmp_lt, cmp_gt, cmp_le, cmp_ge, cmp_eq, rd0, rd1, k0, hm.2, e1, e2, zcall_some, zpush_some, zpush_none, zsum_ref, zsum_int, zsum_long, zsum_nil, zsum_null, Nat.reduceAdd, Nat.reduceLeDiff, if_true]
theorem lc_37 (hSt : St L xs H i) (hi : 5 * i + 5 ≤ L) (hL : L ≤ 2560) : ∃ H2, rn 294 1454 [.ref 0, .ref 100, .ref 463, .int (nI (5 * i))] [] H = rn 294 18 [.ref 0, .ref 100, .ref 463, .int (nI (5 * i + 5))] [] H2 ∧ St L xs H2 (i + 1) := by
  have hs : stepI L xs i (fun h => ev 171 [.ref 100, .int (xs (5 * i + 1)), .int (xs (5 * i + 2))] h) (fun h => ev 282 [.ref 463, .int (xs (5 * i + 1)), .int (xs (5 * i + 2))] h) := (q_corrections (xs (5 * i + 1)) (xs (5 * i + 2))).step
  obtain ⟨v, H1, H2, e1, e2, hm, h2⟩ := hs H hSt
  obtain ⟨k0, s0⟩ := hSt.k
  have rd0 := scr s0 hL
  have rd1 := scr hm.1 hL
  refine ⟨H2, ?_, h2⟩
  dsimp only at e1 e2
  simp (implicitDefEqProofs := false) (disch := omega) only [zr_294_1454, zr_294_1455, zr_294_1456, zr_294_1457, zr_294_1458, zr_294_1459, zr_294_1460, zr_294_1461, zr_294_1462, zr_294_1463, zr_294_1464, zr_294_1465, zr_294_1468, zr_294_1469, zr_294_1470, zr_294_1471, zr_294_1472, zr_294_1473, zr_294_1474, zr_294_1475, zr_294_1476, zr_294_1477, zr_294_1478, zr_294_1479, zr_294_1482, zr_294_1485, zr_294_1486, zr_294_1562, zr_294_1565, true_or, or_true, true_and, and_true, if_true, if_false, ldA_ref, ldA_null, nl_int, nl_ref, nl_fl, nl_null, c1_int, c1_ref, c1_null, Nat.zero_add, Nat.zero_mul, Nat.one_mul, nI_add, nI_leI, nI_ltI, nI_eq, nI_mul, cmp_lt, cmp_gt, cmp_le, cmp_ge, cmp_eq, rd0, rd1, k0, hm.2, e1, e2, zcall_some, zpush_some, zpush_none, zsum_ref, zsum_int, zsum_long, zsum_nil, zsum_null, Nat.reduceAdd, Nat.reduceLeDiff, if_true]
theorem lc_38 (hSt : St L xs H i) (hi : 5 * i + 5 ≤ L) (hL : L ≤ 2560) : ∃ H2, rn 294 1487 [.ref 0, .ref 100, .ref 463, .int (nI (5 * i))] [] H = rn 294 18 [.ref 0, .ref 100, .ref 463, .int (nI (5 * i + 5))] [] H2 ∧ St L xs H2 (i + 1) := by
  have hs : stepI L xs i (fun h => ev 173 [.ref 100, .int (xs (5 * i + 1))] h) (fun h => ev 283 [.ref 463, .int (xs (5 * i + 1))] h) := st_feed (xs (5 * i + 1))
  obtain ⟨v, H1, H2, e1, e2, hm, h2⟩ := hs H hSt
  obtain ⟨k0, s0⟩ := hSt.k
  have rd0 := scr s0 hL
  have rd1 := scr hm.1 hL
  refine ⟨H2, ?_, h2⟩
  dsimp only at e1 e2
  simp (implicitDefEqProofs := false) (disch := omega) only [zr_294_1487, zr_294_1488, zr_294_1489, zr_294_1490, zr_294_1491, zr_294_1492, zr_294_1493, zr_294_1496, zr_294_1497, zr_294_1498, zr_294_1499, zr_294_1500, zr_294_1501, zr_294_1502, zr_294_1505, zr_294_1508, zr_294_1509, zr_294_1562, zr_294_1565, true_or, or_true, true_and, and_true, if_true, if_false, ldA_ref, ldA_null, nl_int, nl_ref, nl_fl, nl_null, c1_int, c1_ref, c1_null, Nat.zero_add, Nat.zero_mul, Nat.one_mul, nI_add, nI_leI, nI_ltI, nI_eq, nI_mul, cmp_lt, cmp_gt, cmp_le, cmp_ge, cmp_eq, rd0, rd1, k0, hm.2, e1, e2, zcall_some, zpush_some, zpush_none, zsum_ref, zsum_int, zsum_long, zsum_nil, zsum_null, Nat.reduceAdd, Nat.reduceLeDiff, if_true]
theorem lc_39 (hSt : St L xs H i) (hi : 5 * i + 5 ≤ L) (hL : L ≤ 2560) : ∃ H2, rn 294 1510 [.ref 0, .ref 100, .ref 463, .int (nI (5 * i))] [] H = rn 294 18 [.ref 0, .ref 100, .ref 463, .int (nI (5 * i + 5))] [] H2 ∧ St L xs H2 (i + 1) := by
  have hs : stepI L xs i (fun h => ev 175 [.ref 100] h) (fun h => ev 284 [.ref 463] h) := st_execute (show i < 512 by omega) 
  obtain ⟨v, H1, H2, e1, e2, hm, h2⟩ := hs H hSt
  obtain ⟨k0, s0⟩ := hSt.k
  have rd0 := scr s0 hL
  have rd1 := scr hm.1 hL
  refine ⟨H2, ?_, h2⟩
  dsimp only at e1 e2
  simp (implicitDefEqProofs := false) (disch := omega) only [zr_294_1510, zr_294_1511, zr_294_1514, zr_294_1515, zr_294_1518, zr_294_1521, zr_294_1522, zr_294_1562, zr_294_1565, true_or, or_true, true_and, and_true, if_true, if_false, ldA_ref, ldA_null, nl_int, nl_ref, nl_fl, nl_null, c1_int, c1_ref, c1_null, Nat.zero_add, Nat.zero_mul, Nat.one_mul, nI_add, nI_leI, nI_ltI, nI_eq, nI_mul, cmp_lt, cmp_gt, cmp_le, cmp_ge, cmp_eq, rd0, rd1, k0, hm.2, e1, e2, zcall_some, zpush_some, zpush_none, zsum_ref, zsum_int, zsum_long, zsum_nil, zsum_null, Nat.reduceAdd, Nat.reduceLeDiff, if_true]
theorem lc_40 (hSt : St L xs H i) (hi : 5 * i + 5 ≤ L) (hL : L ≤ 2560) : ∃ H2, rn 294 1523 [.ref 0, .ref 100, .ref 463, .int (nI (5 * i))] [] H = rn 294 18 [.ref 0, .ref 100, .ref 463, .int (nI (5 * i + 5))] [] H2 ∧ St L xs H2 (i + 1) := by
  have hs : stepI L xs i (fun h => ev 197 [.ref 100] h) (fun h => ev 291 [.ref 463] h) := st_save 
  obtain ⟨v, H1, H2, e1, e2, hm, h2⟩ := hs H hSt
  obtain ⟨k0, s0⟩ := hSt.k
  have rd0 := scr s0 hL
  have rd1 := scr hm.1 hL
  refine ⟨H2, ?_, h2⟩
  dsimp only at e1 e2
  simp (implicitDefEqProofs := false) (disch := omega) only [zr_294_1523, zr_294_1524, zr_294_1527, zr_294_1528, zr_294_1531, zr_294_1534, zr_294_1535, zr_294_1562, zr_294_1565, true_or, or_true, true_and, and_true, if_true, if_false, ldA_ref, ldA_null, nl_int, nl_ref, nl_fl, nl_null, c1_int, c1_ref, c1_null, Nat.zero_add, Nat.zero_mul, Nat.one_mul, nI_add, nI_leI, nI_ltI, nI_eq, nI_mul, cmp_lt, cmp_gt, cmp_le, cmp_ge, cmp_eq, rd0, rd1, k0, hm.2, e1, e2, zcall_some, zpush_some, zpush_none, zsum_ref, zsum_int, zsum_long, zsum_nil, zsum_null, Nat.reduceAdd, Nat.reduceLeDiff, if_true]
theorem lc_41 (hSt : St L xs H i) (hi : 5 * i + 5 ≤ L) (hL : L ≤ 2560) : ∃ H2, rn 294 1536 [.ref 0, .ref 100, .ref 463, .int (nI (5 * i))] [] H = rn 294 18 [.ref 0, .ref 100, .ref 463, .int (nI (5 * i + 5))] [] H2 ∧ St L xs H2 (i + 1) := by
  have hs : stepI L xs i (fun h => ev 198 [.ref 100] h) (fun h => ev 292 [.ref 463] h) := st_restore 
  obtain ⟨v, H1, H2, e1, e2, hm, h2⟩ := hs H hSt
  obtain ⟨k0, s0⟩ := hSt.k
  have rd0 := scr s0 hL
  have rd1 := scr hm.1 hL
  refine ⟨H2, ?_, h2⟩
  dsimp only at e1 e2
  simp (implicitDefEqProofs := false) (disch := omega) only [zr_294_1536, zr_294_1537, zr_294_1540, zr_294_1541, zr_294_1544, zr_294_1547, zr_294_1548, zr_294_1562, zr_294_1565, true_or, or_true, true_and, and_true, if_true, if_false, ldA_ref, ldA_null, nl_int, nl_ref, nl_fl, nl_null, c1_int, c1_ref, c1_null, Nat.zero_add, Nat.zero_mul, Nat.one_mul, nI_add, nI_leI, nI_ltI, nI_eq, nI_mul, cmp_lt, cmp_gt, cmp_le, cmp_ge, cmp_eq, rd0, rd1, k0, hm.2, e1, e2, zcall_some, zpush_some, zpush_none, zsum_ref, zsum_int, zsum_long, zsum_nil, zsum_null, Nat.reduceAdd, Nat.reduceLeDiff, if_true]
theorem lc_42 (hSt : St L xs H i) (hi : 5 * i + 5 ≤ L) (hL : L ≤ 2560) : ∃ H2, rn 294 1549 [.ref 0, .ref 100, .ref 463, .int (nI (5 * i))] [] H = rn 294 18 [.ref 0, .ref 100, .ref 463, .int (nI (5 * i + 5))] [] H2 ∧ St L xs H2 (i + 1) := by
  have hs : stepI L xs i (fun h => ev 199 [.ref 100] h) (fun h => ev 293 [.ref 463] h) := st_undo 
  obtain ⟨v, H1, H2, e1, e2, hm, h2⟩ := hs H hSt
  obtain ⟨k0, s0⟩ := hSt.k
  have rd0 := scr s0 hL
  have rd1 := scr hm.1 hL
  refine ⟨H2, ?_, h2⟩
  dsimp only at e1 e2
  simp (implicitDefEqProofs := false) (disch := omega) only [zr_294_1549, zr_294_1550, zr_294_1553, zr_294_1554, zr_294_1557, zr_294_1560, zr_294_1561, zr_294_1562, zr_294_1565, true_or, or_true, true_and, and_true, if_true, if_false, ldA_ref, ldA_null, nl_int, nl_ref, nl_fl, nl_null, c1_int, c1_ref, c1_null, Nat.zero_add, Nat.zero_mul, Nat.one_mul, nI_add, nI_leI, nI_ltI, nI_eq, nI_mul, cmp_lt, cmp_gt, cmp_le, cmp_ge, cmp_eq, rd0, rd1, k0, hm.2, e1, e2, zcall_some, zpush_some, zpush_none, zsum_ref, zsum_int, zsum_long, zsum_nil, zsum_null, Nat.reduceAdd, Nat.reduceLeDiff, if_true]
theorem law_sw (hSt : St L xs H i) (hi : 5 * i + 5 ≤ L) (hL : L ≤ 2560) : rn 294 18 [.ref 0, .ref 100, .ref 463, .int (nI (5 * i))] [] H = rn 294 32 [.ref 0, .ref 100, .ref 463, .int (nI (5 * i))] [.int (xs (5 * i) &&& nI 63)] H := by
  obtain ⟨k0, s0⟩ := hSt.k
  have rd0 := scr s0 hL
  have rdL := scrL s0
  rw [zl_294_18]
  simp (implicitDefEqProofs := false) (disch := omega) only [zr_294_19, zr_294_20, zr_294_21, zr_294_22, zr_294_23, zr_294_26, zr_294_27, zr_294_28, zr_294_29, zr_294_31, true_or, or_true, true_and, and_true, if_true, if_false, ldA_ref, ldA_null, nl_int, nl_ref, nl_fl, nl_null, c1_int, c1_ref, c1_null, Nat.zero_add, Nat.zero_mul, Nat.one_mul, nI_add, nI_leI, nI_ltI, nI_eq, nI_mul, rd0, rdL, sub5, show ¬ L < 5 * i + 5 from by omega, zcall_some, zpush_some, zpush_none, zsum_ref, zsum_int, zsum_long, zsum_nil, zsum_null, Nat.reduceAdd, Nat.reduceLeDiff, if_true]
theorem law_step (hSt : St L xs H i) (hi : 5 * i + 5 ≤ L) (hL : L ≤ 2560) : ∃ H2, rn 294 18 [.ref 0, .ref 100, .ref 463, .int (nI (5 * i))] [] H = rn 294 18 [.ref 0, .ref 100, .ref 463, .int (nI (5 * i + 5))] [] H2 ∧ St L xs H2 (i + 1) := by
  have e0 := (law_sw hSt hi hL).trans (zr_294_32 _ _ _ _ _ _ _)
  generalize xs (5 * i) &&& nI 63 = X at e0
  by_cases c0 : X = nI 0
  · rw [if_pos c0] at e0
    obtain ⟨H2, e, h2⟩ := lc_0 hSt hi hL
    exact ⟨H2, e0.trans e, h2⟩
  rw [if_neg c0] at e0
  by_cases c1 : X = nI 1
  · rw [if_pos c1] at e0
    obtain ⟨H2, e, h2⟩ := lc_1 hSt hi hL
    exact ⟨H2, e0.trans e, h2⟩
  rw [if_neg c1] at e0
  by_cases c2 : X = nI 2
  · rw [if_pos c2] at e0
    obtain ⟨H2, e, h2⟩ := lc_2 hSt hi hL
    exact ⟨H2, e0.trans e, h2⟩
  rw [if_neg c2] at e0
  by_cases c3 : X = nI 3
  · rw [if_pos c3] at e0
    obtain ⟨H2, e, h2⟩ := lc_3 hSt hi hL
    exact ⟨H2, e0.trans e, h2⟩
  rw [if_neg c3] at e0
  by_cases c4 : X = nI 4
  · rw [if_pos c4] at e0
    obtain ⟨H2, e, h2⟩ := lc_4 hSt hi hL
    exact ⟨H2, e0.trans e, h2⟩
  rw [if_neg c4] at e0
  by_cases c5 : X = nI 5
  · rw [if_pos c5] at e0
    obtain ⟨H2, e, h2⟩ := lc_5 hSt hi hL
    exact ⟨H2, e0.trans e, h2⟩
  rw [if_neg c5] at e0
  by_cases c6 : X = nI 6
  · rw [if_pos c6] at e0
    obtain ⟨H2, e, h2⟩ := lc_6 hSt hi hL
    exact ⟨H2, e0.trans e, h2⟩
  rw [if_neg c6] at e0
  by_cases c7 : X = nI 7
  · rw [if_pos c7] at e0
    obtain ⟨H2, e, h2⟩ := lc_7 hSt hi hL
    exact ⟨H2, e0.trans e, h2⟩
  rw [if_neg c7] at e0
  by_cases c8 : X = nI 8
  · rw [if_pos c8] at e0
    obtain ⟨H2, e, h2⟩ := lc_8 hSt hi hL
    exact ⟨H2, e0.trans e, h2⟩
  rw [if_neg c8] at e0
  by_cases c9 : X = nI 9
  · rw [if_pos c9] at e0
    obtain ⟨H2, e, h2⟩ := lc_9 hSt hi hL
    exact ⟨H2, e0.trans e, h2⟩
  rw [if_neg c9] at e0
  by_cases c10 : X = nI 10
  · rw [if_pos c10] at e0
    obtain ⟨H2, e, h2⟩ := lc_10 hSt hi hL
    exact ⟨H2, e0.trans e, h2⟩
  rw [if_neg c10] at e0
  by_cases c11 : X = nI 11
  · rw [if_pos c11] at e0
    obtain ⟨H2, e, h2⟩ := lc_11 hSt hi hL
    exact ⟨H2, e0.trans e, h2⟩
  rw [if_neg c11] at e0
  by_cases c12 : X = nI 12
  · rw [if_pos c12] at e0
    obtain ⟨H2, e, h2⟩ := lc_12 hSt hi hL
    exact ⟨H2, e0.trans e, h2⟩
  rw [if_neg c12] at e0
  by_cases c13 : X = nI 13
  · rw [if_pos c13] at e0
    obtain ⟨H2, e, h2⟩ := lc_13 hSt hi hL
    exact ⟨H2, e0.trans e, h2⟩
  rw [if_neg c13] at e0
  by_cases c14 : X = nI 14
  · rw [if_pos c14] at e0
    obtain ⟨H2, e, h2⟩ := lc_14 hSt hi hL
    exact ⟨H2, e0.trans e, h2⟩
  rw [if_neg c14] at e0
  by_cases c15 : X = nI 15
  · rw [if_pos c15] at e0
    obtain ⟨H2, e, h2⟩ := lc_15 hSt hi hL
    exact ⟨H2, e0.trans e, h2⟩
  rw [if_neg c15] at e0
  by_cases c16 : X = nI 16
  · rw [if_pos c16] at e0
    obtain ⟨H2, e, h2⟩ := lc_16 hSt hi hL
    exact ⟨H2, e0.trans e, h2⟩
  rw [if_neg c16] at e0
  by_cases c17 : X = nI 17
  · rw [if_pos c17] at e0
    obtain ⟨H2, e, h2⟩ := lc_17 hSt hi hL
    exact ⟨H2, e0.trans e, h2⟩
  rw [if_neg c17] at e0
  by_cases c18 : X = nI 18
  · rw [if_pos c18] at e0
    obtain ⟨H2, e, h2⟩ := lc_18 hSt hi hL
    exact ⟨H2, e0.trans e, h2⟩
  rw [if_neg c18] at e0
  by_cases c19 : X = nI 19
  · rw [if_pos c19] at e0
    obtain ⟨H2, e, h2⟩ := lc_19 hSt hi hL
    exact ⟨H2, e0.trans e, h2⟩
  rw [if_neg c19] at e0
  by_cases c20 : X = nI 20
  · rw [if_pos c20] at e0
    obtain ⟨H2, e, h2⟩ := lc_20 hSt hi hL
    exact ⟨H2, e0.trans e, h2⟩
  rw [if_neg c20] at e0
  by_cases c21 : X = nI 21
  · rw [if_pos c21] at e0
    obtain ⟨H2, e, h2⟩ := lc_21 hSt hi hL
    exact ⟨H2, e0.trans e, h2⟩
  rw [if_neg c21] at e0
  by_cases c22 : X = nI 22
  · rw [if_pos c22] at e0
    obtain ⟨H2, e, h2⟩ := lc_22 hSt hi hL
    exact ⟨H2, e0.trans e, h2⟩
  rw [if_neg c22] at e0
  by_cases c23 : X = nI 23
  · rw [if_pos c23] at e0
    obtain ⟨H2, e, h2⟩ := lc_23 hSt hi hL
    exact ⟨H2, e0.trans e, h2⟩
  rw [if_neg c23] at e0
  by_cases c24 : X = nI 24
  · rw [if_pos c24] at e0
    obtain ⟨H2, e, h2⟩ := lc_24 hSt hi hL
    exact ⟨H2, e0.trans e, h2⟩
  rw [if_neg c24] at e0
  by_cases c25 : X = nI 25
  · rw [if_pos c25] at e0
    obtain ⟨H2, e, h2⟩ := lc_25 hSt hi hL
    exact ⟨H2, e0.trans e, h2⟩
  rw [if_neg c25] at e0
  by_cases c26 : X = nI 26
  · rw [if_pos c26] at e0
    obtain ⟨H2, e, h2⟩ := lc_26 hSt hi hL
    exact ⟨H2, e0.trans e, h2⟩
  rw [if_neg c26] at e0
  by_cases c27 : X = nI 27
  · rw [if_pos c27] at e0
    obtain ⟨H2, e, h2⟩ := lc_27 hSt hi hL
    exact ⟨H2, e0.trans e, h2⟩
  rw [if_neg c27] at e0
  by_cases c28 : X = nI 28
  · rw [if_pos c28] at e0
    obtain ⟨H2, e, h2⟩ := lc_28 hSt hi hL
    exact ⟨H2, e0.trans e, h2⟩
  rw [if_neg c28] at e0
  by_cases c29 : X = nI 29
  · rw [if_pos c29] at e0
    obtain ⟨H2, e, h2⟩ := lc_29 hSt hi hL
    exact ⟨H2, e0.trans e, h2⟩
  rw [if_neg c29] at e0
  by_cases c30 : X = nI 30
  · rw [if_pos c30] at e0
    obtain ⟨H2, e, h2⟩ := lc_30 hSt hi hL
    exact ⟨H2, e0.trans e, h2⟩
  rw [if_neg c30] at e0
  by_cases c31 : X = nI 31
  · rw [if_pos c31] at e0
    obtain ⟨H2, e, h2⟩ := lc_31 hSt hi hL
    exact ⟨H2, e0.trans e, h2⟩
  rw [if_neg c31] at e0
  by_cases c32 : X = nI 32
  · rw [if_pos c32] at e0
    obtain ⟨H2, e, h2⟩ := lc_32 hSt hi hL
    exact ⟨H2, e0.trans e, h2⟩
  rw [if_neg c32] at e0
  by_cases c33 : X = nI 33
  · rw [if_pos c33] at e0
    obtain ⟨H2, e, h2⟩ := lc_33 hSt hi hL
    exact ⟨H2, e0.trans e, h2⟩
  rw [if_neg c33] at e0
  by_cases c34 : X = nI 34
  · rw [if_pos c34] at e0
    obtain ⟨H2, e, h2⟩ := lc_34 hSt hi hL
    exact ⟨H2, e0.trans e, h2⟩
  rw [if_neg c34] at e0
  by_cases c35 : X = nI 35
  · rw [if_pos c35] at e0
    obtain ⟨H2, e, h2⟩ := lc_35 hSt hi hL
    exact ⟨H2, e0.trans e, h2⟩
  rw [if_neg c35] at e0
  by_cases c36 : X = nI 36
  · rw [if_pos c36] at e0
    obtain ⟨H2, e, h2⟩ := lc_36 hSt hi hL
    exact ⟨H2, e0.trans e, h2⟩
  rw [if_neg c36] at e0
  by_cases c37 : X = nI 37
  · rw [if_pos c37] at e0
    obtain ⟨H2, e, h2⟩ := lc_37 hSt hi hL
    exact ⟨H2, e0.trans e, h2⟩
  rw [if_neg c37] at e0
  by_cases c38 : X = nI 38
  · rw [if_pos c38] at e0
    obtain ⟨H2, e, h2⟩ := lc_38 hSt hi hL
    exact ⟨H2, e0.trans e, h2⟩
  rw [if_neg c38] at e0
  by_cases c39 : X = nI 39
  · rw [if_pos c39] at e0
    obtain ⟨H2, e, h2⟩ := lc_39 hSt hi hL
    exact ⟨H2, e0.trans e, h2⟩
  rw [if_neg c39] at e0
  by_cases c40 : X = nI 40
  · rw [if_pos c40] at e0
    obtain ⟨H2, e, h2⟩ := lc_40 hSt hi hL
    exact ⟨H2, e0.trans e, h2⟩
  rw [if_neg c40] at e0
  by_cases c41 : X = nI 41
  · rw [if_pos c41] at e0
    obtain ⟨H2, e, h2⟩ := lc_41 hSt hi hL
    exact ⟨H2, e0.trans e, h2⟩
  rw [if_neg c41] at e0
  by_cases c42 : X = nI 42
  · rw [if_pos c42] at e0
    obtain ⟨H2, e, h2⟩ := lc_42 hSt hi hL
    exact ⟨H2, e0.trans e, h2⟩
  rw [if_neg c42] at e0
  refine ⟨H, ?_, hSt.up⟩
  rw [e0]
  simp (implicitDefEqProofs := false) (disch := omega) only [zr_294_1562, zr_294_1565, true_or, or_true, true_and, and_true, if_true, if_false, ldA_ref, ldA_null, nl_int, nl_ref, nl_fl, nl_null, c1_int, c1_ref, c1_null, Nat.zero_add, Nat.zero_mul, Nat.one_mul, nI_add, nI_leI, nI_ltI, nI_eq, nI_mul, zcall_some, zpush_some, zpush_none, zsum_ref, zsum_int, zsum_long, zsum_nil, zsum_null, Nat.reduceAdd, Nat.reduceLeDiff, if_true]
theorem law_loop (hL : L ≤ 2560) : ∀ (j i : Nat) (H : zH), St L xs H i → 5 * i ≤ L → L ≤ 5 * (i + j) + 4 → ∃ h', rn 294 18 [.ref 0, .ref 100, .ref 463, .int (nI (5 * i))] [] H = some (some (.int 1), h') ∧ h'.1 ≤ 600000 ∧ h'.2.1 ≤ 7302250 := by
  intro j
  induction j with
  | zero =>
    intro i H hSt h1 h2
    obtain ⟨k0, s0⟩ := hSt.k
    have rdL := scrL s0
    refine ⟨H, ?_, ?_⟩
    · rw [zl_294_18]
      simp (implicitDefEqProofs := false) (disch := omega) only [zr_294_19, zr_294_20, zr_294_21, zr_294_22, zr_294_23, zr_294_1568, zr_294_1569, true_or, or_true, true_and, and_true, if_true, if_false, ldA_ref, ldA_null, nl_int, nl_ref, nl_fl, nl_null, c1_int, c1_ref, c1_null, Nat.zero_add, Nat.zero_mul, Nat.one_mul, nI_add, nI_leI, nI_ltI, nI_eq, nI_mul, rdL, sub5, show L < 5 * i + 5 from by omega, zcall_some, zpush_some, zpush_none, zsum_ref, zsum_int, zsum_long, zsum_nil, zsum_null, Nat.reduceAdd, Nat.reduceLeDiff, if_true]
      rfl
    · obtain ⟨s, hs, nx, ct, sb, sv, T, cap, t, r, sg, n, hc, hM, hz, ⟨z1, z2, z3, z4⟩, hr⟩ := hSt
      omega
  | succ j ih =>
    intro i H hSt h1 h2
    by_cases h3 : 5 * i + 5 ≤ L
    · obtain ⟨H2, e, hS2⟩ := law_step hSt h3 hL
      obtain ⟨h', e2, g⟩ := ih (i + 1) H2 hS2 (by omega) (by omega)
      exact ⟨h', e.trans e2, g⟩
    · obtain ⟨k0, s0⟩ := hSt.k
      have rdL := scrL s0
      refine ⟨H, ?_, ?_⟩
      · rw [zl_294_18]
        simp (implicitDefEqProofs := false) (disch := omega) only [zr_294_19, zr_294_20, zr_294_21, zr_294_22, zr_294_23, zr_294_1568, zr_294_1569, true_or, or_true, true_and, and_true, if_true, if_false, ldA_ref, ldA_null, nl_int, nl_ref, nl_fl, nl_null, c1_int, c1_ref, c1_null, Nat.zero_add, Nat.zero_mul, Nat.one_mul, nI_add, nI_leI, nI_ltI, nI_eq, nI_mul, rdL, sub5, show L < 5 * i + 5 from by omega, zcall_some, zpush_some, zpush_none, zsum_ref, zsum_int, zsum_long, zsum_nil, zsum_null, Nat.reduceAdd, Nat.reduceLeDiff, if_true]
        rfl
      · obtain ⟨s, hs, nx, ct, sb, sv, T, cap, t, r, sg, n, hc, hM, hz, ⟨z1, z2, z3, z4⟩, hr⟩ := hSt
        omega
end
