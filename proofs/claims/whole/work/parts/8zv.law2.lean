/-! THE LAW: one call after the other; printed by gen_law.py -/
section
variable {H : zH} {L i : Nat} {xs : Nat → Int32}
theorem St.k (h : St L xs H i) : zkd H 100 = 11 ∧ H.2.2 0 = zSt0 L xs 0 := by
  obtain ⟨s, hs, nx, ct, sb, sv, T, cap, t, r, sg, n, hc, hM, hz, -, -⟩ := h
  exact ⟨kd_c hc.1, hz 0 (by omega)⟩
theorem scr (h : H.2.2 0 = zSt0 L xs 0) (hL : L ≤ 2560) : ∀ (β : Type) (f : Int32 → Option β) (k : Nat), k < L → zli H 0 0 (nI k) f = f (xs k) := fun _ f k hk => li_c (m := L) (h.trans rfl) hk (by omega) f
theorem scrL (h : H.2.2 0 = zSt0 L xs 0) : ∀ (β : Type) (f : Int32 → Option β), zal H 0 f = f (nI L) := fun _ f => al_c (m := L) (h.trans rfl) (by omega) f
theorem sub5 {L k : Nat} (hL : L ≤ 2560) (hk : k ≤ 5000) : (nI L - nI 5 < nI k) ↔ L < k + 5 := by
  have h1 : (nI L).toInt = (L : Int) := nI_toInt (by omega)
  have h2 : (nI L - nI 5).toInt = (L : Int) - 5 := by
    rw [Int32.toInt_sub, h1, nI_toInt (by omega)]
    exact Int.bmod_eq_of_le (by omega) (by omega)
  rw [Int32.lt_iff_toInt_lt, h2, nI_toInt (by omega)]
  omega
theorem lc_0 (hSt : St L xs H i) (hi : 5 * i + 5 ≤ L) (hL : L ≤ 2560) : ∃ H2, rn 300 220 [.ref 0, .ref 100, .ref 463, .int (nI (5 * i))] [] H = rn 300 18 [.ref 0, .ref 100, .ref 463, .int (nI (5 * i + 5))] [] H2 ∧ St L xs H2 (i + 1) := by
  have hs : stepI L xs i (fun h => ev 16 [.ref 100, .int (xs (5 * i + 1)), .int (xs (5 * i + 2)), .int (xs (5 * i + 3))] h) (fun h => ev 209 [.ref 463, .int (xs (5 * i + 1)), .int (xs (5 * i + 2)), .int (xs (5 * i + 3))] h) := st_salary (show i < 512 by omega) (xs (5 * i + 1)) (xs (5 * i + 2)) (xs (5 * i + 3))
  obtain ⟨v, H1, H2, e1, e2, hm, h2⟩ := hs H hSt
  obtain ⟨k0, s0⟩ := hSt.k
  have rd0 := scr s0 hL
  have rd1 := scr hm.1 hL
  refine ⟨H2, ?_, h2⟩
  dsimp only at e1 e2
  simp (implicitDefEqProofs := false) (disch := omega) only [zr_300_220, zr_300_221, zr_300_222, zr_300_223, zr_300_224, zr_300_225, zr_300_226, zr_300_227, zr_300_228, zr_300_229, zr_300_230, zr_300_231, zr_300_232, zr_300_233, zr_300_234, zr_300_235, zr_300_236, zr_300_239, zr_300_240, zr_300_241, zr_300_242, zr_300_243, zr_300_244, zr_300_245, zr_300_246, zr_300_247, zr_300_248, zr_300_249, zr_300_250, zr_300_251, zr_300_252, zr_300_253, zr_300_254, zr_300_255, zr_300_258, zr_300_261, zr_300_262, zr_300_1562, zr_300_1565, true_or, or_true, true_and, and_true, if_true, if_false, ldA_ref, ldA_null, nl_int, nl_ref, nl_fl, nl_null, c1_int, c1_ref, c1_null, Nat.zero_add, Nat.zero_mul, Nat.one_mul, nI_add, nI_leI, nI_ltI, nI_eq, nI_mul, cmp_lt, cmp_gt, cmp_le, cmp_ge, cmp_eq, rd0, rd1, k0, hm.2, e1, e2, zcall_some, zpush_some, zpush_none, zsum_ref, zsum_int, zsum_long, zsum_nil, zsum_null, Nat.reduceAdd, Nat.reduceLeDiff, if_true]
theorem lc_1 (hSt : St L xs H i) (hi : 5 * i + 5 ≤ L) (hL : L ≤ 2560) : ∃ H2, rn 300 263 [.ref 0, .ref 100, .ref 463, .int (nI (5 * i))] [] H = rn 300 18 [.ref 0, .ref 100, .ref 463, .int (nI (5 * i + 5))] [] H2 ∧ St L xs H2 (i + 1) := by
  have hs : stepI L xs i (fun h => ev 29 [.ref 100, .int (xs (5 * i + 1)), .int (xs (5 * i + 2)), .int (xs (5 * i + 3))] h) (fun h => ev 216 [.ref 463, .int (xs (5 * i + 1)), .int (xs (5 * i + 2)), .int (xs (5 * i + 3))] h) := st_days (show i < 512 by omega) (xs (5 * i + 1)) (xs (5 * i + 2)) (xs (5 * i + 3))
  obtain ⟨v, H1, H2, e1, e2, hm, h2⟩ := hs H hSt
  obtain ⟨k0, s0⟩ := hSt.k
  have rd0 := scr s0 hL
  have rd1 := scr hm.1 hL
  refine ⟨H2, ?_, h2⟩
  dsimp only at e1 e2
  simp (implicitDefEqProofs := false) (disch := omega) only [zr_300_263, zr_300_264, zr_300_265, zr_300_266, zr_300_267, zr_300_268, zr_300_269, zr_300_270, zr_300_271, zr_300_272, zr_300_273, zr_300_274, zr_300_275, zr_300_276, zr_300_277, zr_300_278, zr_300_279, zr_300_282, zr_300_283, zr_300_284, zr_300_285, zr_300_286, zr_300_287, zr_300_288, zr_300_289, zr_300_290, zr_300_291, zr_300_292, zr_300_293, zr_300_294, zr_300_295, zr_300_296, zr_300_297, zr_300_298, zr_300_301, zr_300_304, zr_300_305, zr_300_1562, zr_300_1565, true_or, or_true, true_and, and_true, if_true, if_false, ldA_ref, ldA_null, nl_int, nl_ref, nl_fl, nl_null, c1_int, c1_ref, c1_null, Nat.zero_add, Nat.zero_mul, Nat.one_mul, nI_add, nI_leI, nI_ltI, nI_eq, nI_mul, cmp_lt, cmp_gt, cmp_le, cmp_ge, cmp_eq, rd0, rd1, k0, hm.2, e1, e2, zcall_some, zpush_some, zpush_none, zsum_ref, zsum_int, zsum_long, zsum_nil, zsum_null, Nat.reduceAdd, Nat.reduceLeDiff, if_true]
theorem lc_2 (hSt : St L xs H i) (hi : 5 * i + 5 ≤ L) (hL : L ≤ 2560) : ∃ H2, rn 300 306 [.ref 0, .ref 100, .ref 463, .int (nI (5 * i))] [] H = rn 300 18 [.ref 0, .ref 100, .ref 463, .int (nI (5 * i + 5))] [] H2 ∧ St L xs H2 (i + 1) := by
  have hs : stepI L xs i (fun h => ev 31 [.ref 100, .int (xs (5 * i + 1)), .int (xs (5 * i + 2)), .int (xs (5 * i + 3))] h) (fun h => ev 217 [.ref 463, .int (xs (5 * i + 1)), .int (xs (5 * i + 2)), .int (xs (5 * i + 3))] h) := st_bonus (show i < 512 by omega) (xs (5 * i + 1)) (xs (5 * i + 2)) (xs (5 * i + 3))
  obtain ⟨v, H1, H2, e1, e2, hm, h2⟩ := hs H hSt
  obtain ⟨k0, s0⟩ := hSt.k
  have rd0 := scr s0 hL
  have rd1 := scr hm.1 hL
  refine ⟨H2, ?_, h2⟩
  dsimp only at e1 e2
  simp (implicitDefEqProofs := false) (disch := omega) only [zr_300_306, zr_300_307, zr_300_308, zr_300_309, zr_300_310, zr_300_311, zr_300_312, zr_300_313, zr_300_314, zr_300_315, zr_300_316, zr_300_317, zr_300_318, zr_300_319, zr_300_320, zr_300_321, zr_300_322, zr_300_325, zr_300_326, zr_300_327, zr_300_328, zr_300_329, zr_300_330, zr_300_331, zr_300_332, zr_300_333, zr_300_334, zr_300_335, zr_300_336, zr_300_337, zr_300_338, zr_300_339, zr_300_340, zr_300_341, zr_300_344, zr_300_347, zr_300_348, zr_300_1562, zr_300_1565, true_or, or_true, true_and, and_true, if_true, if_false, ldA_ref, ldA_null, nl_int, nl_ref, nl_fl, nl_null, c1_int, c1_ref, c1_null, Nat.zero_add, Nat.zero_mul, Nat.one_mul, nI_add, nI_leI, nI_ltI, nI_eq, nI_mul, cmp_lt, cmp_gt, cmp_le, cmp_ge, cmp_eq, rd0, rd1, k0, hm.2, e1, e2, zcall_some, zpush_some, zpush_none, zsum_ref, zsum_int, zsum_long, zsum_nil, zsum_null, Nat.reduceAdd, Nat.reduceLeDiff, if_true]
theorem lc_3 (hSt : St L xs H i) (hi : 5 * i + 5 ≤ L) (hL : L ≤ 2560) : ∃ H2, rn 300 349 [.ref 0, .ref 100, .ref 463, .int (nI (5 * i))] [] H = rn 300 18 [.ref 0, .ref 100, .ref 463, .int (nI (5 * i + 5))] [] H2 ∧ St L xs H2 (i + 1) := by
  have hs : stepI L xs i (fun h => ev 33 [.ref 100, .int (xs (5 * i + 1)), .int (xs (5 * i + 2))] h) (fun h => ev 218 [.ref 463, .int (xs (5 * i + 1)), .int (xs (5 * i + 2))] h) := st_setFloor (show i < 512 by omega) (xs (5 * i + 1)) (xs (5 * i + 2))
  obtain ⟨v, H1, H2, e1, e2, hm, h2⟩ := hs H hSt
  obtain ⟨k0, s0⟩ := hSt.k
  have rd0 := scr s0 hL
  have rd1 := scr hm.1 hL
  refine ⟨H2, ?_, h2⟩
  dsimp only at e1 e2
  simp (implicitDefEqProofs := false) (disch := omega) only [zr_300_349, zr_300_350, zr_300_351, zr_300_352, zr_300_353, zr_300_354, zr_300_355, zr_300_356, zr_300_357, zr_300_358, zr_300_359, zr_300_360, zr_300_363, zr_300_364, zr_300_365, zr_300_366, zr_300_367, zr_300_368, zr_300_369, zr_300_370, zr_300_371, zr_300_372, zr_300_373, zr_300_374, zr_300_377, zr_300_380, zr_300_381, zr_300_1562, zr_300_1565, true_or, or_true, true_and, and_true, if_true, if_false, ldA_ref, ldA_null, nl_int, nl_ref, nl_fl, nl_null, c1_int, c1_ref, c1_null, Nat.zero_add, Nat.zero_mul, Nat.one_mul, nI_add, nI_leI, nI_ltI, nI_eq, nI_mul, cmp_lt, cmp_gt, cmp_le, cmp_ge, cmp_eq, rd0, rd1, k0, hm.2, e1, e2, zcall_some, zpush_some, zpush_none, zsum_ref, zsum_int, zsum_long, zsum_nil, zsum_null, Nat.reduceAdd, Nat.reduceLeDiff, if_true]
theorem lc_4 (hSt : St L xs H i) (hi : 5 * i + 5 ≤ L) (hL : L ≤ 2560) : ∃ H2, rn 300 382 [.ref 0, .ref 100, .ref 463, .int (nI (5 * i))] [] H = rn 300 18 [.ref 0, .ref 100, .ref 463, .int (nI (5 * i + 5))] [] H2 ∧ St L xs H2 (i + 1) := by
  have hs : stepI L xs i (fun h => ev 35 [.ref 100, .int (xs (5 * i + 1)), .int (xs (5 * i + 2))] h) (fun h => ev 219 [.ref 463, .int (xs (5 * i + 1)), .int (xs (5 * i + 2))] h) := st_setRate (show i < 512 by omega) (xs (5 * i + 1)) (xs (5 * i + 2))
  obtain ⟨v, H1, H2, e1, e2, hm, h2⟩ := hs H hSt
  obtain ⟨k0, s0⟩ := hSt.k
  have rd0 := scr s0 hL
  have rd1 := scr hm.1 hL
  refine ⟨H2, ?_, h2⟩
  dsimp only at e1 e2
  simp (implicitDefEqProofs := false) (disch := omega) only [zr_300_382, zr_300_383, zr_300_384, zr_300_385, zr_300_386, zr_300_387, zr_300_388, zr_300_389, zr_300_390, zr_300_391, zr_300_392, zr_300_393, zr_300_396, zr_300_397, zr_300_398, zr_300_399, zr_300_400, zr_300_401, zr_300_402, zr_300_403, zr_300_404, zr_300_405, zr_300_406, zr_300_407, zr_300_410, zr_300_413, zr_300_414, zr_300_1562, zr_300_1565, true_or, or_true, true_and, and_true, if_true, if_false, ldA_ref, ldA_null, nl_int, nl_ref, nl_fl, nl_null, c1_int, c1_ref, c1_null, Nat.zero_add, Nat.zero_mul, Nat.one_mul, nI_add, nI_leI, nI_ltI, nI_eq, nI_mul, cmp_lt, cmp_gt, cmp_le, cmp_ge, cmp_eq, rd0, rd1, k0, hm.2, e1, e2, zcall_some, zpush_some, zpush_none, zsum_ref, zsum_int, zsum_long, zsum_nil, zsum_null, Nat.reduceAdd, Nat.reduceLeDiff, if_true]
theorem lc_5 (hSt : St L xs H i) (hi : 5 * i + 5 ≤ L) (hL : L ≤ 2560) : ∃ H2, rn 300 415 [.ref 0, .ref 100, .ref 463, .int (nI (5 * i))] [] H = rn 300 18 [.ref 0, .ref 100, .ref 463, .int (nI (5 * i + 5))] [] H2 ∧ St L xs H2 (i + 1) := by
  have hs : stepI L xs i (fun h => ev 37 [.ref 100, .int (xs (5 * i + 1)), .int (xs (5 * i + 2))] h) (fun h => ev 221 [.ref 463, .int (xs (5 * i + 1)), .int (xs (5 * i + 2))] h) := st_setCap (show i < 512 by omega) (xs (5 * i + 1)) (xs (5 * i + 2))
  obtain ⟨v, H1, H2, e1, e2, hm, h2⟩ := hs H hSt
  obtain ⟨k0, s0⟩ := hSt.k
  have rd0 := scr s0 hL
  have rd1 := scr hm.1 hL
  refine ⟨H2, ?_, h2⟩
  dsimp only at e1 e2
  simp (implicitDefEqProofs := false) (disch := omega) only [zr_300_415, zr_300_416, zr_300_417, zr_300_418, zr_300_419, zr_300_420, zr_300_421, zr_300_422, zr_300_423, zr_300_424, zr_300_425, zr_300_426, zr_300_429, zr_300_430, zr_300_431, zr_300_432, zr_300_433, zr_300_434, zr_300_435, zr_300_436, zr_300_437, zr_300_438, zr_300_439, zr_300_440, zr_300_443, zr_300_446, zr_300_447, zr_300_1562, zr_300_1565, true_or, or_true, true_and, and_true, if_true, if_false, ldA_ref, ldA_null, nl_int, nl_ref, nl_fl, nl_null, c1_int, c1_ref, c1_null, Nat.zero_add, Nat.zero_mul, Nat.one_mul, nI_add, nI_leI, nI_ltI, nI_eq, nI_mul, cmp_lt, cmp_gt, cmp_le, cmp_ge, cmp_eq, rd0, rd1, k0, hm.2, e1, e2, zcall_some, zpush_some, zpush_none, zsum_ref, zsum_int, zsum_long, zsum_nil, zsum_null, Nat.reduceAdd, Nat.reduceLeDiff, if_true]
theorem lc_6 (hSt : St L xs H i) (hi : 5 * i + 5 ≤ L) (hL : L ≤ 2560) : ∃ H2, rn 300 448 [.ref 0, .ref 100, .ref 463, .int (nI (5 * i))] [] H = rn 300 18 [.ref 0, .ref 100, .ref 463, .int (nI (5 * i + 5))] [] H2 ∧ St L xs H2 (i + 1) := by
  have hs : stepI L xs i (fun h => ev 39 [.ref 100, .int (xs (5 * i + 1)), .int (xs (5 * i + 2))] h) (fun h => ev 222 [.ref 463, .int (xs (5 * i + 1)), .int (xs (5 * i + 2))] h) := st_bracket (show i < 512 by omega) (xs (5 * i + 1)) (xs (5 * i + 2))
  obtain ⟨v, H1, H2, e1, e2, hm, h2⟩ := hs H hSt
  obtain ⟨k0, s0⟩ := hSt.k
  have rd0 := scr s0 hL
  have rd1 := scr hm.1 hL
  refine ⟨H2, ?_, h2⟩
  dsimp only at e1 e2
  simp (implicitDefEqProofs := false) (disch := omega) only [zr_300_448, zr_300_449, zr_300_450, zr_300_451, zr_300_452, zr_300_453, zr_300_454, zr_300_455, zr_300_456, zr_300_457, zr_300_458, zr_300_459, zr_300_462, zr_300_463, zr_300_464, zr_300_465, zr_300_466, zr_300_467, zr_300_468, zr_300_469, zr_300_470, zr_300_471, zr_300_472, zr_300_473, zr_300_476, zr_300_479, zr_300_480, zr_300_1562, zr_300_1565, true_or, or_true, true_and, and_true, if_true, if_false, ldA_ref, ldA_null, nl_int, nl_ref, nl_fl, nl_null, c1_int, c1_ref, c1_null, Nat.zero_add, Nat.zero_mul, Nat.one_mul, nI_add, nI_leI, nI_ltI, nI_eq, nI_mul, cmp_lt, cmp_gt, cmp_le, cmp_ge, cmp_eq, rd0, rd1, k0, hm.2, e1, e2, zcall_some, zpush_some, zpush_none, zsum_ref, zsum_int, zsum_long, zsum_nil, zsum_null, Nat.reduceAdd, Nat.reduceLeDiff, if_true]
theorem lc_7 (hSt : St L xs H i) (hi : 5 * i + 5 ≤ L) (hL : L ≤ 2560) : ∃ H2, rn 300 481 [.ref 0, .ref 100, .ref 463, .int (nI (5 * i))] [] H = rn 300 18 [.ref 0, .ref 100, .ref 463, .int (nI (5 * i + 5))] [] H2 ∧ St L xs H2 (i + 1) := by
  have hs : stepI L xs i (fun h => ev 42 [.ref 100] h) (fun h => ev 223 [.ref 463] h) := st_clearBrackets (show i < 512 by omega) 
  obtain ⟨v, H1, H2, e1, e2, hm, h2⟩ := hs H hSt
  obtain ⟨k0, s0⟩ := hSt.k
  have rd0 := scr s0 hL
  have rd1 := scr hm.1 hL
  refine ⟨H2, ?_, h2⟩
  dsimp only at e1 e2
  simp (implicitDefEqProofs := false) (disch := omega) only [zr_300_481, zr_300_482, zr_300_485, zr_300_486, zr_300_489, zr_300_492, zr_300_493, zr_300_1562, zr_300_1565, true_or, or_true, true_and, and_true, if_true, if_false, ldA_ref, ldA_null, nl_int, nl_ref, nl_fl, nl_null, c1_int, c1_ref, c1_null, Nat.zero_add, Nat.zero_mul, Nat.one_mul, nI_add, nI_leI, nI_ltI, nI_eq, nI_mul, cmp_lt, cmp_gt, cmp_le, cmp_ge, cmp_eq, rd0, rd1, k0, hm.2, e1, e2, zcall_some, zpush_some, zpush_none, zsum_ref, zsum_int, zsum_long, zsum_nil, zsum_null, Nat.reduceAdd, Nat.reduceLeDiff, if_true]
theorem lc_8 (hSt : St L xs H i) (hi : 5 * i + 5 ≤ L) (hL : L ≤ 2560) : ∃ H2, rn 300 494 [.ref 0, .ref 100, .ref 463, .int (nI (5 * i))] [] H = rn 300 18 [.ref 0, .ref 100, .ref 463, .int (nI (5 * i + 5))] [] H2 ∧ St L xs H2 (i + 1) := by
  have hs : stepI L xs i (fun h => ev 44 [.ref 100, .int (xs (5 * i + 1)), .int (xs (5 * i + 2)), .int (xs (5 * i + 3))] h) (fun h => ev 224 [.ref 463, .int (xs (5 * i + 1)), .int (xs (5 * i + 2)), .int (xs (5 * i + 3))] h) := st_fixed (show i < 512 by omega) (xs (5 * i + 1)) (xs (5 * i + 2)) (xs (5 * i + 3))
  obtain ⟨v, H1, H2, e1, e2, hm, h2⟩ := hs H hSt
  obtain ⟨k0, s0⟩ := hSt.k
  have rd0 := scr s0 hL
  have rd1 := scr hm.1 hL
  refine ⟨H2, ?_, h2⟩
  dsimp only at e1 e2
  simp (implicitDefEqProofs := false) (disch := omega) only [zr_300_494, zr_300_495, zr_300_496, zr_300_497, zr_300_498, zr_300_499, zr_300_500, zr_300_501, zr_300_502, zr_300_503, zr_300_504, zr_300_505, zr_300_506, zr_300_507, zr_300_508, zr_300_509, zr_300_510, zr_300_513, zr_300_514, zr_300_515, zr_300_516, zr_300_517, zr_300_518, zr_300_519, zr_300_520, zr_300_521, zr_300_522, zr_300_523, zr_300_524, zr_300_525, zr_300_526, zr_300_527, zr_300_528, zr_300_529, zr_300_532, zr_300_535, zr_300_536, zr_300_1562, zr_300_1565, true_or, or_true, true_and, and_true, if_true, if_false, ldA_ref, ldA_null, nl_int, nl_ref, nl_fl, nl_null, c1_int, c1_ref, c1_null, Nat.zero_add, Nat.zero_mul, Nat.one_mul, nI_add, nI_leI, nI_ltI, nI_eq, nI_mul, cmp_lt, cmp_gt, cmp_le, cmp_ge, cmp_eq, rd0, rd1, k0, hm.2, e1, e2, zcall_some, zpush_some, zpush_none, zsum_ref, zsum_int, zsum_long, zsum_nil, zsum_null, Nat.reduceAdd, Nat.reduceLeDiff, if_true]
theorem lc_9 (hSt : St L xs H i) (hi : 5 * i + 5 ≤ L) (hL : L ≤ 2560) : ∃ H2, rn 300 537 [.ref 0, .ref 100, .ref 463, .int (nI (5 * i))] [] H = rn 300 18 [.ref 0, .ref 100, .ref 463, .int (nI (5 * i + 5))] [] H2 ∧ St L xs H2 (i + 1) := by
  have hs : stepI L xs i (fun h => ev 47 [.ref 100, .int (xs (5 * i + 1)), .int (xs (5 * i + 2)), .int (xs (5 * i + 3))] h) (fun h => ev 227 [.ref 463, .int (xs (5 * i + 1)), .int (xs (5 * i + 2)), .int (xs (5 * i + 3))] h) := st_share (show i < 512 by omega) (xs (5 * i + 1)) (xs (5 * i + 2)) (xs (5 * i + 3))
  obtain ⟨v, H1, H2, e1, e2, hm, h2⟩ := hs H hSt
  obtain ⟨k0, s0⟩ := hSt.k
  have rd0 := scr s0 hL
  have rd1 := scr hm.1 hL
  refine ⟨H2, ?_, h2⟩
  dsimp only at e1 e2
  simp (implicitDefEqProofs := false) (disch := omega) only [zr_300_537, zr_300_538, zr_300_539, zr_300_540, zr_300_541, zr_300_542, zr_300_543, zr_300_544, zr_300_545, zr_300_546, zr_300_547, zr_300_548, zr_300_549, zr_300_550, zr_300_551, zr_300_552, zr_300_553, zr_300_556, zr_300_557, zr_300_558, zr_300_559, zr_300_560, zr_300_561, zr_300_562, zr_300_563, zr_300_564, zr_300_565, zr_300_566, zr_300_567, zr_300_568, zr_300_569, zr_300_570, zr_300_571, zr_300_572, zr_300_575, zr_300_578, zr_300_579, zr_300_1562, zr_300_1565, true_or, or_true, true_and, and_true, if_true, if_false, ldA_ref, ldA_null, nl_int, nl_ref, nl_fl, nl_null, c1_int, c1_ref, c1_null, Nat.zero_add, Nat.zero_mul, Nat.one_mul, nI_add, nI_leI, nI_ltI, nI_eq, nI_mul, cmp_lt, cmp_gt, cmp_le, cmp_ge, cmp_eq, rd0, rd1, k0, hm.2, e1, e2, zcall_some, zpush_some, zpush_none, zsum_ref, zsum_int, zsum_long, zsum_nil, zsum_null, Nat.reduceAdd, Nat.reduceLeDiff, if_true]
theorem lc_10 (hSt : St L xs H i) (hi : 5 * i + 5 ≤ L) (hL : L ≤ 2560) : ∃ H2, rn 300 580 [.ref 0, .ref 100, .ref 463, .int (nI (5 * i))] [] H = rn 300 18 [.ref 0, .ref 100, .ref 463, .int (nI (5 * i + 5))] [] H2 ∧ St L xs H2 (i + 1) := by
  have hs : stepI L xs i (fun h => ev 49 [.ref 100, .int (xs (5 * i + 1)), .int (xs (5 * i + 2))] h) (fun h => ev 228 [.ref 463, .int (xs (5 * i + 1)), .int (xs (5 * i + 2))] h) := st_dropGarnishment (show i < 512 by omega) (xs (5 * i + 1)) (xs (5 * i + 2))
  obtain ⟨v, H1, H2, e1, e2, hm, h2⟩ := hs H hSt
  obtain ⟨k0, s0⟩ := hSt.k
  have rd0 := scr s0 hL
  have rd1 := scr hm.1 hL
  refine ⟨H2, ?_, h2⟩
  dsimp only at e1 e2
  simp (implicitDefEqProofs := false) (disch := omega) only [zr_300_580, zr_300_581, zr_300_582, zr_300_583, zr_300_584, zr_300_585, zr_300_586, zr_300_587, zr_300_588, zr_300_589, zr_300_590, zr_300_591, zr_300_594, zr_300_595, zr_300_596, zr_300_597, zr_300_598, zr_300_599, zr_300_600, zr_300_601, zr_300_602, zr_300_603, zr_300_604, zr_300_605, zr_300_608, zr_300_611, zr_300_612, zr_300_1562, zr_300_1565, true_or, or_true, true_and, and_true, if_true, if_false, ldA_ref, ldA_null, nl_int, nl_ref, nl_fl, nl_null, c1_int, c1_ref, c1_null, Nat.zero_add, Nat.zero_mul, Nat.one_mul, nI_add, nI_leI, nI_ltI, nI_eq, nI_mul, cmp_lt, cmp_gt, cmp_le, cmp_ge, cmp_eq, rd0, rd1, k0, hm.2, e1, e2, zcall_some, zpush_some, zpush_none, zsum_ref, zsum_int, zsum_long, zsum_nil, zsum_null, Nat.reduceAdd, Nat.reduceLeDiff, if_true]
theorem lc_11 (hSt : St L xs H i) (hi : 5 * i + 5 ≤ L) (hL : L ≤ 2560) : ∃ H2, rn 300 613 [.ref 0, .ref 100, .ref 463, .int (nI (5 * i))] [] H = rn 300 18 [.ref 0, .ref 100, .ref 463, .int (nI (5 * i + 5))] [] H2 ∧ St L xs H2 (i + 1) := by
  have hs : stepI L xs i (fun h => ev 55 [.ref 100, .int (xs (5 * i + 1)), .int (xs (5 * i + 2)), .int (xs (5 * i + 3))] h) (fun h => ev 231 [.ref 463, .int (xs (5 * i + 1)), .int (xs (5 * i + 2)), .int (xs (5 * i + 3))] h) := st_moveGarnishment (show i < 512 by omega) (xs (5 * i + 1)) (xs (5 * i + 2)) (xs (5 * i + 3))
  obtain ⟨v, H1, H2, e1, e2, hm, h2⟩ := hs H hSt
  obtain ⟨k0, s0⟩ := hSt.k
  have rd0 := scr s0 hL
  have rd1 := scr hm.1 hL
  refine ⟨H2, ?_, h2⟩
  dsimp only at e1 e2
  simp (implicitDefEqProofs := false) (disch := omega) only [zr_300_613, zr_300_614, zr_300_615, zr_300_616, zr_300_617, zr_300_618, zr_300_619, zr_300_620, zr_300_621, zr_300_622, zr_300_623, zr_300_624, zr_300_625, zr_300_626, zr_300_627, zr_300_628, zr_300_629, zr_300_632, zr_300_633, zr_300_634, zr_300_635, zr_300_636, zr_300_637, zr_300_638, zr_300_639, zr_300_640, zr_300_641, zr_300_642, zr_300_643, zr_300_644, zr_300_645, zr_300_646, zr_300_647, zr_300_648, zr_300_651, zr_300_654, zr_300_655, zr_300_1562, zr_300_1565, true_or, or_true, true_and, and_true, if_true, if_false, ldA_ref, ldA_null, nl_int, nl_ref, nl_fl, nl_null, c1_int, c1_ref, c1_null, Nat.zero_add, Nat.zero_mul, Nat.one_mul, nI_add, nI_leI, nI_ltI, nI_eq, nI_mul, cmp_lt, cmp_gt, cmp_le, cmp_ge, cmp_eq, rd0, rd1, k0, hm.2, e1, e2, zcall_some, zpush_some, zpush_none, zsum_ref, zsum_int, zsum_long, zsum_nil, zsum_null, Nat.reduceAdd, Nat.reduceLeDiff, if_true]
theorem lc_12 (hSt : St L xs H i) (hi : 5 * i + 5 ≤ L) (hL : L ≤ 2560) : ∃ H2, rn 300 656 [.ref 0, .ref 100, .ref 463, .int (nI (5 * i))] [] H = rn 300 18 [.ref 0, .ref 100, .ref 463, .int (nI (5 * i + 5))] [] H2 ∧ St L xs H2 (i + 1) := by
  have hs : stepI L xs i (fun h => ev 57 [.ref 100] h) (fun h => ev 232 [.ref 463] h) := st_closeMonth (show i < 512 by omega) 
  obtain ⟨v, H1, H2, e1, e2, hm, h2⟩ := hs H hSt
  obtain ⟨k0, s0⟩ := hSt.k
  have rd0 := scr s0 hL
  have rd1 := scr hm.1 hL
  refine ⟨H2, ?_, h2⟩
  dsimp only at e1 e2
  simp (implicitDefEqProofs := false) (disch := omega) only [zr_300_656, zr_300_657, zr_300_660, zr_300_661, zr_300_664, zr_300_667, zr_300_668, zr_300_1562, zr_300_1565, true_or, or_true, true_and, and_true, if_true, if_false, ldA_ref, ldA_null, nl_int, nl_ref, nl_fl, nl_null, c1_int, c1_ref, c1_null, Nat.zero_add, Nat.zero_mul, Nat.one_mul, nI_add, nI_leI, nI_ltI, nI_eq, nI_mul, cmp_lt, cmp_gt, cmp_le, cmp_ge, cmp_eq, rd0, rd1, k0, hm.2, e1, e2, zcall_some, zpush_some, zpush_none, zsum_ref, zsum_int, zsum_long, zsum_nil, zsum_null, Nat.reduceAdd, Nat.reduceLeDiff, if_true]
theorem lc_13 (hSt : St L xs H i) (hi : 5 * i + 5 ≤ L) (hL : L ≤ 2560) : ∃ H2, rn 300 669 [.ref 0, .ref 100, .ref 463, .int (nI (5 * i))] [] H = rn 300 18 [.ref 0, .ref 100, .ref 463, .int (nI (5 * i + 5))] [] H2 ∧ St L xs H2 (i + 1) := by
  have hs : stepI L xs i (fun h => ev 77 [.ref 100] h) (fun h => ev 250 [.ref 463] h) := st_newYear (show i < 512 by omega) 
  obtain ⟨v, H1, H2, e1, e2, hm, h2⟩ := hs H hSt
  obtain ⟨k0, s0⟩ := hSt.k
  have rd0 := scr s0 hL
  have rd1 := scr hm.1 hL
  refine ⟨H2, ?_, h2⟩
  dsimp only at e1 e2
  simp (implicitDefEqProofs := false) (disch := omega) only [zr_300_669, zr_300_670, zr_300_673, zr_300_674, zr_300_677, zr_300_680, zr_300_681, zr_300_1562, zr_300_1565, true_or, or_true, true_and, and_true, if_true, if_false, ldA_ref, ldA_null, nl_int, nl_ref, nl_fl, nl_null, c1_int, c1_ref, c1_null, Nat.zero_add, Nat.zero_mul, Nat.one_mul, nI_add, nI_leI, nI_ltI, nI_eq, nI_mul, cmp_lt, cmp_gt, cmp_le, cmp_ge, cmp_eq, rd0, rd1, k0, hm.2, e1, e2, zcall_some, zpush_some, zpush_none, zsum_ref, zsum_int, zsum_long, zsum_nil, zsum_null, Nat.reduceAdd, Nat.reduceLeDiff, if_true]
theorem lc_14 (hSt : St L xs H i) (hi : 5 * i + 5 ≤ L) (hL : L ≤ 2560) : ∃ H2, rn 300 682 [.ref 0, .ref 100, .ref 463, .int (nI (5 * i))] [] H = rn 300 18 [.ref 0, .ref 100, .ref 463, .int (nI (5 * i + 5))] [] H2 ∧ St L xs H2 (i + 1) := by
  have hs : stepI L xs i (fun h => ev 81 [.ref 100] h) (fun h => ev 251 [.ref 463] h) := (q_closed ).step
  obtain ⟨v, H1, H2, e1, e2, hm, h2⟩ := hs H hSt
  obtain ⟨k0, s0⟩ := hSt.k
  have rd0 := scr s0 hL
  have rd1 := scr hm.1 hL
  refine ⟨H2, ?_, h2⟩
  dsimp only at e1 e2
  simp (implicitDefEqProofs := false) (disch := omega) only [zr_300_682, zr_300_683, zr_300_686, zr_300_687, zr_300_690, zr_300_693, zr_300_694, zr_300_1562, zr_300_1565, true_or, or_true, true_and, and_true, if_true, if_false, ldA_ref, ldA_null, nl_int, nl_ref, nl_fl, nl_null, c1_int, c1_ref, c1_null, Nat.zero_add, Nat.zero_mul, Nat.one_mul, nI_add, nI_leI, nI_ltI, nI_eq, nI_mul, cmp_lt, cmp_gt, cmp_le, cmp_ge, cmp_eq, rd0, rd1, k0, hm.2, e1, e2, zcall_some, zpush_some, zpush_none, zsum_ref, zsum_int, zsum_long, zsum_nil, zsum_null, Nat.reduceAdd, Nat.reduceLeDiff, if_true]
theorem lc_15 (hSt : St L xs H i) (hi : 5 * i + 5 ≤ L) (hL : L ≤ 2560) : ∃ H2, rn 300 695 [.ref 0, .ref 100, .ref 463, .int (nI (5 * i))] [] H = rn 300 18 [.ref 0, .ref 100, .ref 463, .int (nI (5 * i + 5))] [] H2 ∧ St L xs H2 (i + 1) := by
  have hs : stepI L xs i (fun h => ev 82 [.ref 100, .int (xs (5 * i + 1)), .int (xs (5 * i + 2)), .int (xs (5 * i + 3))] h) (fun h => ev 252 [.ref 463, .int (xs (5 * i + 1)), .int (xs (5 * i + 2)), .int (xs (5 * i + 3))] h) := (q_data (xs (5 * i + 1)) (xs (5 * i + 2)) (xs (5 * i + 3))).step
  obtain ⟨v, H1, H2, e1, e2, hm, h2⟩ := hs H hSt
  obtain ⟨k0, s0⟩ := hSt.k
  have rd0 := scr s0 hL
  have rd1 := scr hm.1 hL
  refine ⟨H2, ?_, h2⟩
  dsimp only at e1 e2
  simp (implicitDefEqProofs := false) (disch := omega) only [zr_300_695, zr_300_696, zr_300_697, zr_300_698, zr_300_699, zr_300_700, zr_300_701, zr_300_702, zr_300_703, zr_300_704, zr_300_705, zr_300_706, zr_300_707, zr_300_708, zr_300_709, zr_300_710, zr_300_711, zr_300_714, zr_300_715, zr_300_716, zr_300_717, zr_300_718, zr_300_719, zr_300_720, zr_300_721, zr_300_722, zr_300_723, zr_300_724, zr_300_725, zr_300_726, zr_300_727, zr_300_728, zr_300_729, zr_300_730, zr_300_733, zr_300_736, zr_300_737, zr_300_1562, zr_300_1565, true_or, or_true, true_and, and_true, if_true, if_false, ldA_ref, ldA_null, nl_int, nl_ref, nl_fl, nl_null, c1_int, c1_ref, c1_null, Nat.zero_add, Nat.zero_mul, Nat.one_mul, nI_add, nI_leI, nI_ltI, nI_eq, nI_mul, cmp_lt, cmp_gt, cmp_le, cmp_ge, cmp_eq, rd0, rd1, k0, hm.2, e1, e2, zcall_some, zpush_some, zpush_none, zsum_ref, zsum_int, zsum_long, zsum_nil, zsum_null, Nat.reduceAdd, Nat.reduceLeDiff, if_true]
theorem lc_16 (hSt : St L xs H i) (hi : 5 * i + 5 ≤ L) (hL : L ≤ 2560) : ∃ H2, rn 300 738 [.ref 0, .ref 100, .ref 463, .int (nI (5 * i))] [] H = rn 300 18 [.ref 0, .ref 100, .ref 463, .int (nI (5 * i + 5))] [] H2 ∧ St L xs H2 (i + 1) := by
  have hs : stepI L xs i (fun h => ev 83 [.ref 100, .int (xs (5 * i + 1)), .int (xs (5 * i + 2))] h) (fun h => ev 253 [.ref 463, .int (xs (5 * i + 1)), .int (xs (5 * i + 2))] h) := (q_setting (xs (5 * i + 1)) (xs (5 * i + 2))).step
  obtain ⟨v, H1, H2, e1, e2, hm, h2⟩ := hs H hSt
  obtain ⟨k0, s0⟩ := hSt.k
  have rd0 := scr s0 hL
  have rd1 := scr hm.1 hL
  refine ⟨H2, ?_, h2⟩
  dsimp only at e1 e2
  simp (implicitDefEqProofs := false) (disch := omega) only [zr_300_738, zr_300_739, zr_300_740, zr_300_741, zr_300_742, zr_300_743, zr_300_744, zr_300_745, zr_300_746, zr_300_747, zr_300_748, zr_300_749, zr_300_752, zr_300_753, zr_300_754, zr_300_755, zr_300_756, zr_300_757, zr_300_758, zr_300_759, zr_300_760, zr_300_761, zr_300_762, zr_300_763, zr_300_766, zr_300_769, zr_300_770, zr_300_1562, zr_300_1565, true_or, or_true, true_and, and_true, if_true, if_false, ldA_ref, ldA_null, nl_int, nl_ref, nl_fl, nl_null, c1_int, c1_ref, c1_null, Nat.zero_add, Nat.zero_mul, Nat.one_mul, nI_add, nI_leI, nI_ltI, nI_eq, nI_mul, cmp_lt, cmp_gt, cmp_le, cmp_ge, cmp_eq, rd0, rd1, k0, hm.2, e1, e2, zcall_some, zpush_some, zpush_none, zsum_ref, zsum_int, zsum_long, zsum_nil, zsum_null, Nat.reduceAdd, Nat.reduceLeDiff, if_true]
theorem lc_17 (hSt : St L xs H i) (hi : 5 * i + 5 ≤ L) (hL : L ≤ 2560) : ∃ H2, rn 300 771 [.ref 0, .ref 100, .ref 463, .int (nI (5 * i))] [] H = rn 300 18 [.ref 0, .ref 100, .ref 463, .int (nI (5 * i + 5))] [] H2 ∧ St L xs H2 (i + 1) := by
  have hs : stepI L xs i (fun h => ev 85 [.ref 100, .int (xs (5 * i + 1)), .int (xs (5 * i + 2)), .int (xs (5 * i + 3))] h) (fun h => ev 254 [.ref 463, .int (xs (5 * i + 1)), .int (xs (5 * i + 2)), .int (xs (5 * i + 3))] h) := (q_garnishment (xs (5 * i + 1)) (xs (5 * i + 2)) (xs (5 * i + 3))).step
  obtain ⟨v, H1, H2, e1, e2, hm, h2⟩ := hs H hSt
  obtain ⟨k0, s0⟩ := hSt.k
  have rd0 := scr s0 hL
  have rd1 := scr hm.1 hL
  refine ⟨H2, ?_, h2⟩
  dsimp only at e1 e2
  simp (implicitDefEqProofs := false) (disch := omega) only [zr_300_771, zr_300_772, zr_300_773, zr_300_774, zr_300_775, zr_300_776, zr_300_777, zr_300_778, zr_300_779, zr_300_780, zr_300_781, zr_300_782, zr_300_783, zr_300_784, zr_300_785, zr_300_786, zr_300_787, zr_300_790, zr_300_791, zr_300_792, zr_300_793, zr_300_794, zr_300_795, zr_300_796, zr_300_797, zr_300_798, zr_300_799, zr_300_800, zr_300_801, zr_300_802, zr_300_803, zr_300_804, zr_300_805, zr_300_806, zr_300_809, zr_300_812, zr_300_813, zr_300_1562, zr_300_1565, true_or, or_true, true_and, and_true, if_true, if_false, ldA_ref, ldA_null, nl_int, nl_ref, nl_fl, nl_null, c1_int, c1_ref, c1_null, Nat.zero_add, Nat.zero_mul, Nat.one_mul, nI_add, nI_leI, nI_ltI, nI_eq, nI_mul, cmp_lt, cmp_gt, cmp_le, cmp_ge, cmp_eq, rd0, rd1, k0, hm.2, e1, e2, zcall_some, zpush_some, zpush_none, zsum_ref, zsum_int, zsum_long, zsum_nil, zsum_null, Nat.reduceAdd, Nat.reduceLeDiff, if_true]
theorem lc_18 (hSt : St L xs H i) (hi : 5 * i + 5 ≤ L) (hL : L ≤ 2560) : ∃ H2, rn 300 814 [.ref 0, .ref 100, .ref 463, .int (nI (5 * i))] [] H = rn 300 18 [.ref 0, .ref 100, .ref 463, .int (nI (5 * i + 5))] [] H2 ∧ St L xs H2 (i + 1) := by
  have hs : stepJ L xs i (fun h => ev 86 [.ref 100, .int (xs (5 * i + 1)), .int (xs (5 * i + 2))] h) (fun h => ev 255 [.ref 463, .int (xs (5 * i + 1)), .int (xs (5 * i + 2))] h) := (q_rest (xs (5 * i + 1)) (xs (5 * i + 2))).step
  obtain ⟨v, H1, H2, e1, e2, hm, h2⟩ := hs H hSt
  obtain ⟨k0, s0⟩ := hSt.k
  have rd0 := scr s0 hL
  have rd1 := scr hm.1 hL
  refine ⟨H2, ?_, h2⟩
  dsimp only at e1 e2
  simp (implicitDefEqProofs := false) (disch := omega) only [zr_300_814, zr_300_815, zr_300_816, zr_300_817, zr_300_818, zr_300_819, zr_300_820, zr_300_821, zr_300_822, zr_300_823, zr_300_824, zr_300_825, zr_300_828, zr_300_829, zr_300_830, zr_300_831, zr_300_832, zr_300_833, zr_300_834, zr_300_835, zr_300_836, zr_300_837, zr_300_838, zr_300_839, zr_300_842, zr_300_843, zr_300_846, zr_300_847, zr_300_1562, zr_300_1565, true_or, or_true, true_and, and_true, if_true, if_false, ldA_ref, ldA_null, nl_int, nl_ref, nl_fl, nl_null, c1_int, c1_ref, c1_null, Nat.zero_add, Nat.zero_mul, Nat.one_mul, nI_add, nI_leI, nI_ltI, nI_eq, nI_mul, cmp_lt, cmp_gt, cmp_le, cmp_ge, cmp_eq, rd0, rd1, k0, hm.2, e1, e2, zcall_some, zpush_some, zpush_none, zsum_ref, zsum_int, zsum_long, zsum_nil, zsum_null, Nat.reduceAdd, Nat.reduceLeDiff, if_true]
theorem lc_19 (hSt : St L xs H i) (hi : 5 * i + 5 ≤ L) (hL : L ≤ 2560) : ∃ H2, rn 300 848 [.ref 0, .ref 100, .ref 463, .int (nI (5 * i))] [] H = rn 300 18 [.ref 0, .ref 100, .ref 463, .int (nI (5 * i + 5))] [] H2 ∧ St L xs H2 (i + 1) := by
  have hs : stepJ L xs i (fun h => ev 87 [.ref 100, .int (xs (5 * i + 1)), .int (xs (5 * i + 2)), .int (xs (5 * i + 3))] h) (fun h => ev 256 [.ref 463, .int (xs (5 * i + 1)), .int (xs (5 * i + 2)), .int (xs (5 * i + 3))] h) := (q_due (xs (5 * i + 1)) (xs (5 * i + 2)) (xs (5 * i + 3))).step
  obtain ⟨v, H1, H2, e1, e2, hm, h2⟩ := hs H hSt
  obtain ⟨k0, s0⟩ := hSt.k
  have rd0 := scr s0 hL
  have rd1 := scr hm.1 hL
  refine ⟨H2, ?_, h2⟩
  dsimp only at e1 e2
  simp (implicitDefEqProofs := false) (disch := omega) only [zr_300_848, zr_300_849, zr_300_850, zr_300_851, zr_300_852, zr_300_853, zr_300_854, zr_300_855, zr_300_856, zr_300_857, zr_300_858, zr_300_859, zr_300_860, zr_300_861, zr_300_862, zr_300_863, zr_300_864, zr_300_867, zr_300_868, zr_300_869, zr_300_870, zr_300_871, zr_300_872, zr_300_873, zr_300_874, zr_300_875, zr_300_876, zr_300_877, zr_300_878, zr_300_879, zr_300_880, zr_300_881, zr_300_882, zr_300_883, zr_300_886, zr_300_887, zr_300_890, zr_300_891, zr_300_1562, zr_300_1565, true_or, or_true, true_and, and_true, if_true, if_false, ldA_ref, ldA_null, nl_int, nl_ref, nl_fl, nl_null, c1_int, c1_ref, c1_null, Nat.zero_add, Nat.zero_mul, Nat.one_mul, nI_add, nI_leI, nI_ltI, nI_eq, nI_mul, cmp_lt, cmp_gt, cmp_le, cmp_ge, cmp_eq, rd0, rd1, k0, hm.2, e1, e2, zcall_some, zpush_some, zpush_none, zsum_ref, zsum_int, zsum_long, zsum_nil, zsum_null, Nat.reduceAdd, Nat.reduceLeDiff, if_true]
theorem lc_20 (hSt : St L xs H i) (hi : 5 * i + 5 ≤ L) (hL : L ≤ 2560) : ∃ H2, rn 300 892 [.ref 0, .ref 100, .ref 463, .int (nI (5 * i))] [] H = rn 300 18 [.ref 0, .ref 100, .ref 463, .int (nI (5 * i + 5))] [] H2 ∧ St L xs H2 (i + 1) := by
  have hs : stepJ L xs i (fun h => ev 88 [.ref 100, .int (xs (5 * i + 1)), .int (xs (5 * i + 2)), .int (xs (5 * i + 3))] h) (fun h => ev 257 [.ref 463, .int (xs (5 * i + 1)), .int (xs (5 * i + 2)), .int (xs (5 * i + 3))] h) := (q_settled (xs (5 * i + 1)) (xs (5 * i + 2)) (xs (5 * i + 3))).step
  obtain ⟨v, H1, H2, e1, e2, hm, h2⟩ := hs H hSt
  obtain ⟨k0, s0⟩ := hSt.k
  have rd0 := scr s0 hL
  have rd1 := scr hm.1 hL
  refine ⟨H2, ?_, h2⟩
  dsimp only at e1 e2
  simp (implicitDefEqProofs := false) (disch := omega) only [zr_300_892, zr_300_893, zr_300_894, zr_300_895, zr_300_896, zr_300_897, zr_300_898, zr_300_899, zr_300_900, zr_300_901, zr_300_902, zr_300_903, zr_300_904, zr_300_905, zr_300_906, zr_300_907, zr_300_908, zr_300_911, zr_300_912, zr_300_913, zr_300_914, zr_300_915, zr_300_916, zr_300_917, zr_300_918, zr_300_919, zr_300_920, zr_300_921, zr_300_922, zr_300_923, zr_300_924, zr_300_925, zr_300_926, zr_300_927, zr_300_930, zr_300_931, zr_300_934, zr_300_935, zr_300_1562, zr_300_1565, true_or, or_true, true_and, and_true, if_true, if_false, ldA_ref, ldA_null, nl_int, nl_ref, nl_fl, nl_null, c1_int, c1_ref, c1_null, Nat.zero_add, Nat.zero_mul, Nat.one_mul, nI_add, nI_leI, nI_ltI, nI_eq, nI_mul, cmp_lt, cmp_gt, cmp_le, cmp_ge, cmp_eq, rd0, rd1, k0, hm.2, e1, e2, zcall_some, zpush_some, zpush_none, zsum_ref, zsum_int, zsum_long, zsum_nil, zsum_null, Nat.reduceAdd, Nat.reduceLeDiff, if_true]
theorem lc_21 (hSt : St L xs H i) (hi : 5 * i + 5 ≤ L) (hL : L ≤ 2560) : ∃ H2, rn 300 936 [.ref 0, .ref 100, .ref 463, .int (nI (5 * i))] [] H = rn 300 18 [.ref 0, .ref 100, .ref 463, .int (nI (5 * i + 5))] [] H2 ∧ St L xs H2 (i + 1) := by
  have hs : stepJ L xs i (fun h => ev 89 [.ref 100, .int (xs (5 * i + 1))] h) (fun h => ev 259 [.ref 463, .int (xs (5 * i + 1))] h) := (q_pending (xs (5 * i + 1))).step
  obtain ⟨v, H1, H2, e1, e2, hm, h2⟩ := hs H hSt
  obtain ⟨k0, s0⟩ := hSt.k
  have rd0 := scr s0 hL
  have rd1 := scr hm.1 hL
  refine ⟨H2, ?_, h2⟩
  dsimp only at e1 e2
  simp (implicitDefEqProofs := false) (disch := omega) only [zr_300_936, zr_300_937, zr_300_938, zr_300_939, zr_300_940, zr_300_941, zr_300_942, zr_300_945, zr_300_946, zr_300_947, zr_300_948, zr_300_949, zr_300_950, zr_300_951, zr_300_954, zr_300_955, zr_300_958, zr_300_959, zr_300_1562, zr_300_1565, true_or, or_true, true_and, and_true, if_true, if_false, ldA_ref, ldA_null, nl_int, nl_ref, nl_fl, nl_null, c1_int, c1_ref, c1_null, Nat.zero_add, Nat.zero_mul, Nat.one_mul, nI_add, nI_leI, nI_ltI, nI_eq, nI_mul, cmp_lt, cmp_gt, cmp_le, cmp_ge, cmp_eq, rd0, rd1, k0, hm.2, e1, e2, zcall_some, zpush_some, zpush_none, zsum_ref, zsum_int, zsum_long, zsum_nil, zsum_null, Nat.reduceAdd, Nat.reduceLeDiff, if_true]
theorem lc_22 (hSt : St L xs H i) (hi : 5 * i + 5 ≤ L) (hL : L ≤ 2560) : ∃ H2, rn 300 960 [.ref 0, .ref 100, .ref 463, .int (nI (5 * i))] [] H = rn 300 18 [.ref 0, .ref 100, .ref 463, .int (nI (5 * i + 5))] [] H2 ∧ St L xs H2 (i + 1) := by
  have hs : stepJ L xs i (fun h => ev 90 [.ref 100, .int (xs (5 * i + 1))] h) (fun h => ev 260 [.ref 463, .int (xs (5 * i + 1))] h) := (q_owed (xs (5 * i + 1))).step
  obtain ⟨v, H1, H2, e1, e2, hm, h2⟩ := hs H hSt
  obtain ⟨k0, s0⟩ := hSt.k
  have rd0 := scr s0 hL
  have rd1 := scr hm.1 hL
  refine ⟨H2, ?_, h2⟩
  dsimp only at e1 e2
  simp (implicitDefEqProofs := false) (disch := omega) only [zr_300_960, zr_300_961, zr_300_962, zr_300_963, zr_300_964, zr_300_965, zr_300_966, zr_300_969, zr_300_970, zr_300_971, zr_300_972, zr_300_973, zr_300_974, zr_300_975, zr_300_978, zr_300_979, zr_300_982, zr_300_983, zr_300_1562, zr_300_1565, true_or, or_true, true_and, and_true, if_true, if_false, ldA_ref, ldA_null, nl_int, nl_ref, nl_fl, nl_null, c1_int, c1_ref, c1_null, Nat.zero_add, Nat.zero_mul, Nat.one_mul, nI_add, nI_leI, nI_ltI, nI_eq, nI_mul, cmp_lt, cmp_gt, cmp_le, cmp_ge, cmp_eq, rd0, rd1, k0, hm.2, e1, e2, zcall_some, zpush_some, zpush_none, zsum_ref, zsum_int, zsum_long, zsum_nil, zsum_null, Nat.reduceAdd, Nat.reduceLeDiff, if_true]
theorem lc_23 (hSt : St L xs H i) (hi : 5 * i + 5 ≤ L) (hL : L ≤ 2560) : ∃ H2, rn 300 984 [.ref 0, .ref 100, .ref 463, .int (nI (5 * i))] [] H = rn 300 18 [.ref 0, .ref 100, .ref 463, .int (nI (5 * i + 5))] [] H2 ∧ St L xs H2 (i + 1) := by
  have hs : stepI L xs i (fun h => ev 91 [.ref 100, .int (xs (5 * i + 1)), .int (xs (5 * i + 2))] h) (fun h => ev 261 [.ref 463, .int (xs (5 * i + 1)), .int (xs (5 * i + 2))] h) := (q_lineCount (xs (5 * i + 1)) (xs (5 * i + 2))).step
  obtain ⟨v, H1, H2, e1, e2, hm, h2⟩ := hs H hSt
  obtain ⟨k0, s0⟩ := hSt.k
  have rd0 := scr s0 hL
  have rd1 := scr hm.1 hL
  refine ⟨H2, ?_, h2⟩
  dsimp only at e1 e2
  simp (implicitDefEqProofs := false) (disch := omega) only [zr_300_984, zr_300_985, zr_300_986, zr_300_987, zr_300_988, zr_300_989, zr_300_990, zr_300_991, zr_300_992, zr_300_993, zr_300_994, zr_300_995, zr_300_998, zr_300_999, zr_300_1000, zr_300_1001, zr_300_1002, zr_300_1003, zr_300_1004, zr_300_1005, zr_300_1006, zr_300_1007, zr_300_1008, zr_300_1009, zr_300_1012, zr_300_1015, zr_300_1016, zr_300_1562, zr_300_1565, true_or, or_true, true_and, and_true, if_true, if_false, ldA_ref, ldA_null, nl_int, nl_ref, nl_fl, nl_null, c1_int, c1_ref, c1_null, Nat.zero_add, Nat.zero_mul, Nat.one_mul, nI_add, nI_leI, nI_ltI, nI_eq, nI_mul, cmp_lt, cmp_gt, cmp_le, cmp_ge, cmp_eq, rd0, rd1, k0, hm.2, e1, e2, zcall_some, zpush_some, zpush_none, zsum_ref, zsum_int, zsum_long, zsum_nil, zsum_null, Nat.reduceAdd, Nat.reduceLeDiff, if_true]
theorem lc_24 (hSt : St L xs H i) (hi : 5 * i + 5 ≤ L) (hL : L ≤ 2560) : ∃ H2, rn 300 1017 [.ref 0, .ref 100, .ref 463, .int (nI (5 * i))] [] H = rn 300 18 [.ref 0, .ref 100, .ref 463, .int (nI (5 * i + 5))] [] H2 ∧ St L xs H2 (i + 1) := by
  have hs : stepI L xs i (fun h => ev 92 [.ref 100, .int (xs (5 * i + 1)), .int (xs (5 * i + 2)), .int (xs (5 * i + 3)), .int (xs (5 * i + 4))] h) (fun h => ev 262 [.ref 463, .int (xs (5 * i + 1)), .int (xs (5 * i + 2)), .int (xs (5 * i + 3)), .int (xs (5 * i + 4))] h) := (q_line (xs (5 * i + 1)) (xs (5 * i + 2)) (xs (5 * i + 3)) (xs (5 * i + 4))).step
  obtain ⟨v, H1, H2, e1, e2, hm, h2⟩ := hs H hSt
  obtain ⟨k0, s0⟩ := hSt.k
  have rd0 := scr s0 hL
  have rd1 := scr hm.1 hL
  refine ⟨H2, ?_, h2⟩
  dsimp only at e1 e2
  simp (implicitDefEqProofs := false) (disch := omega) only [zr_300_1017, zr_300_1018, zr_300_1019, zr_300_1020, zr_300_1021, zr_300_1022, zr_300_1023, zr_300_1024, zr_300_1025, zr_300_1026, zr_300_1027, zr_300_1028, zr_300_1029, zr_300_1030, zr_300_1031, zr_300_1032, zr_300_1033, zr_300_1034, zr_300_1035, zr_300_1036, zr_300_1037, zr_300_1038, zr_300_1041, zr_300_1042, zr_300_1043, zr_300_1044, zr_300_1045, zr_300_1046, zr_300_1047, zr_300_1048, zr_300_1049, zr_300_1050, zr_300_1051, zr_300_1052, zr_300_1053, zr_300_1054, zr_300_1055, zr_300_1056, zr_300_1057, zr_300_1058, zr_300_1059, zr_300_1060, zr_300_1061, zr_300_1062, zr_300_1065, zr_300_1068, zr_300_1069, zr_300_1562, zr_300_1565, true_or, or_true, true_and, and_true, if_true, if_false, ldA_ref, ldA_null, nl_int, nl_ref, nl_fl, nl_null, c1_int, c1_ref, c1_null, Nat.zero_add, Nat.zero_mul, Nat.one_mul, nI_add, nI_leI, nI_ltI, nI_eq, nI_mul, cmp_lt, cmp_gt, cmp_le, cmp_ge, cmp_eq, rd0, rd1, k0, hm.2, e1, e2, zcall_some, zpush_some, zpush_none, zsum_ref, zsum_int, zsum_long, zsum_nil, zsum_null, Nat.reduceAdd, Nat.reduceLeDiff, if_true]
theorem lc_25 (hSt : St L xs H i) (hi : 5 * i + 5 ≤ L) (hL : L ≤ 2560) : ∃ H2, rn 300 1070 [.ref 0, .ref 100, .ref 463, .int (nI (5 * i))] [] H = rn 300 18 [.ref 0, .ref 100, .ref 463, .int (nI (5 * i + 5))] [] H2 ∧ St L xs H2 (i + 1) := by
  have hs : stepJ L xs i (fun h => ev 94 [.ref 100, .int (xs (5 * i + 1)), .int (xs (5 * i + 2)), .int (xs (5 * i + 3))] h) (fun h => ev 264 [.ref 463, .int (xs (5 * i + 1)), .int (xs (5 * i + 2)), .int (xs (5 * i + 3))] h) := (q_amount (xs (5 * i + 1)) (xs (5 * i + 2)) (xs (5 * i + 3))).step
  obtain ⟨v, H1, H2, e1, e2, hm, h2⟩ := hs H hSt
  obtain ⟨k0, s0⟩ := hSt.k
  have rd0 := scr s0 hL
  have rd1 := scr hm.1 hL
  refine ⟨H2, ?_, h2⟩
  dsimp only at e1 e2
  simp (implicitDefEqProofs := false) (disch := omega) only [zr_300_1070, zr_300_1071, zr_300_1072, zr_300_1073, zr_300_1074, zr_300_1075, zr_300_1076, zr_300_1077, zr_300_1078, zr_300_1079, zr_300_1080, zr_300_1081, zr_300_1082, zr_300_1083, zr_300_1084, zr_300_1085, zr_300_1086, zr_300_1089, zr_300_1090, zr_300_1091, zr_300_1092, zr_300_1093, zr_300_1094, zr_300_1095, zr_300_1096, zr_300_1097, zr_300_1098, zr_300_1099, zr_300_1100, zr_300_1101, zr_300_1102, zr_300_1103, zr_300_1104, zr_300_1105, zr_300_1108, zr_300_1109, zr_300_1112, zr_300_1113, zr_300_1562, zr_300_1565, true_or, or_true, true_and, and_true, if_true, if_false, ldA_ref, ldA_null, nl_int, nl_ref, nl_fl, nl_null, c1_int, c1_ref, c1_null, Nat.zero_add, Nat.zero_mul, Nat.one_mul, nI_add, nI_leI, nI_ltI, nI_eq, nI_mul, cmp_lt, cmp_gt, cmp_le, cmp_ge, cmp_eq, rd0, rd1, k0, hm.2, e1, e2, zcall_some, zpush_some, zpush_none, zsum_ref, zsum_int, zsum_long, zsum_nil, zsum_null, Nat.reduceAdd, Nat.reduceLeDiff, if_true]
theorem lc_26 (hSt : St L xs H i) (hi : 5 * i + 5 ≤ L) (hL : L ≤ 2560) : ∃ H2, rn 300 1114 [.ref 0, .ref 100, .ref 463, .int (nI (5 * i))] [] H = rn 300 18 [.ref 0, .ref 100, .ref 463, .int (nI (5 * i + 5))] [] H2 ∧ St L xs H2 (i + 1) := by
  have hs : stepI L xs i (fun h => ev 95 [.ref 100, .int (xs (5 * i + 1)), .int (xs (5 * i + 2)), .int (xs (5 * i + 3))] h) (fun h => ev 265 [.ref 463, .int (xs (5 * i + 1)), .int (xs (5 * i + 2)), .int (xs (5 * i + 3))] h) := (q_letter (xs (5 * i + 1)) (xs (5 * i + 2)) (xs (5 * i + 3))).step
  obtain ⟨v, H1, H2, e1, e2, hm, h2⟩ := hs H hSt
  obtain ⟨k0, s0⟩ := hSt.k
  have rd0 := scr s0 hL
  have rd1 := scr hm.1 hL
  refine ⟨H2, ?_, h2⟩
  dsimp only at e1 e2
  simp (implicitDefEqProofs := false) (disch := omega) only [zr_300_1114, zr_300_1115, zr_300_1116, zr_300_1117, zr_300_1118, zr_300_1119, zr_300_1120, zr_300_1121, zr_300_1122, zr_300_1123, zr_300_1124, zr_300_1125, zr_300_1126, zr_300_1127, zr_300_1128, zr_300_1129, zr_300_1130, zr_300_1133, zr_300_1134, zr_300_1135, zr_300_1136, zr_300_1137, zr_300_1138, zr_300_1139, zr_300_1140, zr_300_1141, zr_300_1142, zr_300_1143, zr_300_1144, zr_300_1145, zr_300_1146, zr_300_1147, zr_300_1148, zr_300_1149, zr_300_1152, zr_300_1155, zr_300_1156, zr_300_1562, zr_300_1565, true_or, or_true, true_and, and_true, if_true, if_false, ldA_ref, ldA_null, nl_int, nl_ref, nl_fl, nl_null, c1_int, c1_ref, c1_null, Nat.zero_add, Nat.zero_mul, Nat.one_mul, nI_add, nI_leI, nI_ltI, nI_eq, nI_mul, cmp_lt, cmp_gt, cmp_le, cmp_ge, cmp_eq, rd0, rd1, k0, hm.2, e1, e2, zcall_some, zpush_some, zpush_none, zsum_ref, zsum_int, zsum_long, zsum_nil, zsum_null, Nat.reduceAdd, Nat.reduceLeDiff, if_true]
theorem lc_27 (hSt : St L xs H i) (hi : 5 * i + 5 ≤ L) (hL : L ≤ 2560) : ∃ H2, rn 300 1157 [.ref 0, .ref 100, .ref 463, .int (nI (5 * i))] [] H = rn 300 18 [.ref 0, .ref 100, .ref 463, .int (nI (5 * i + 5))] [] H2 ∧ St L xs H2 (i + 1) := by
  have hs : stepJ L xs i (fun h => ev 154 [.ref 100, .int (xs (5 * i + 1)), .int (xs (5 * i + 2))] h) (fun h => ev 271 [.ref 463, .int (xs (5 * i + 1)), .int (xs (5 * i + 2))] h) := (q_payout (xs (5 * i + 1)) (xs (5 * i + 2))).step
  obtain ⟨v, H1, H2, e1, e2, hm, h2⟩ := hs H hSt
  obtain ⟨k0, s0⟩ := hSt.k
  have rd0 := scr s0 hL
  have rd1 := scr hm.1 hL
  refine ⟨H2, ?_, h2⟩
  dsimp only at e1 e2
  simp (implicitDefEqProofs := false) (disch := omega) only [zr_300_1157, zr_300_1158, zr_300_1159, zr_300_1160, zr_300_1161, zr_300_1162, zr_300_1163, zr_300_1164, zr_300_1165, zr_300_1166, zr_300_1167, zr_300_1168, zr_300_1171, zr_300_1172, zr_300_1173, zr_300_1174, zr_300_1175, zr_300_1176, zr_300_1177, zr_300_1178, zr_300_1179, zr_300_1180, zr_300_1181, zr_300_1182, zr_300_1185, zr_300_1186, zr_300_1189, zr_300_1190, zr_300_1562, zr_300_1565, true_or, or_true, true_and, and_true, if_true, if_false, ldA_ref, ldA_null, nl_int, nl_ref, nl_fl, nl_null, c1_int, c1_ref, c1_null, Nat.zero_add, Nat.zero_mul, Nat.one_mul, nI_add, nI_leI, nI_ltI, nI_eq, nI_mul, cmp_lt, cmp_gt, cmp_le, cmp_ge, cmp_eq, rd0, rd1, k0, hm.2, e1, e2, zcall_some, zpush_some, zpush_none, zsum_ref, zsum_int, zsum_long, zsum_nil, zsum_null, Nat.reduceAdd, Nat.reduceLeDiff, if_true]
theorem lc_28 (hSt : St L xs H i) (hi : 5 * i + 5 ≤ L) (hL : L ≤ 2560) : ∃ H2, rn 300 1191 [.ref 0, .ref 100, .ref 463, .int (nI (5 * i))] [] H = rn 300 18 [.ref 0, .ref 100, .ref 463, .int (nI (5 * i + 5))] [] H2 ∧ St L xs H2 (i + 1) := by
  have hs : stepJ L xs i (fun h => ev 156 [.ref 100, .int (xs (5 * i + 1))] h) (fun h => ev 273 [.ref 463, .int (xs (5 * i + 1))] h) := (q_preview (xs (5 * i + 1))).step
  obtain ⟨v, H1, H2, e1, e2, hm, h2⟩ := hs H hSt
  obtain ⟨k0, s0⟩ := hSt.k
  have rd0 := scr s0 hL
  have rd1 := scr hm.1 hL
  refine ⟨H2, ?_, h2⟩
  dsimp only at e1 e2
  simp (implicitDefEqProofs := false) (disch := omega) only [zr_300_1191, zr_300_1192, zr_300_1193, zr_300_1194, zr_300_1195, zr_300_1196, zr_300_1197, zr_300_1200, zr_300_1201, zr_300_1202, zr_300_1203, zr_300_1204, zr_300_1205, zr_300_1206, zr_300_1209, zr_300_1210, zr_300_1213, zr_300_1214, zr_300_1562, zr_300_1565, true_or, or_true, true_and, and_true, if_true, if_false, ldA_ref, ldA_null, nl_int, nl_ref, nl_fl, nl_null, c1_int, c1_ref, c1_null, Nat.zero_add, Nat.zero_mul, Nat.one_mul, nI_add, nI_leI, nI_ltI, nI_eq, nI_mul, cmp_lt, cmp_gt, cmp_le, cmp_ge, cmp_eq, rd0, rd1, k0, hm.2, e1, e2, zcall_some, zpush_some, zpush_none, zsum_ref, zsum_int, zsum_long, zsum_nil, zsum_null, Nat.reduceAdd, Nat.reduceLeDiff, if_true]
theorem lc_29 (hSt : St L xs H i) (hi : 5 * i + 5 ≤ L) (hL : L ≤ 2560) : ∃ H2, rn 300 1215 [.ref 0, .ref 100, .ref 463, .int (nI (5 * i))] [] H = rn 300 18 [.ref 0, .ref 100, .ref 463, .int (nI (5 * i + 5))] [] H2 ∧ St L xs H2 (i + 1) := by
  have hs : stepJ L xs i (fun h => ev 160 [.ref 100, .int (xs (5 * i + 1))] h) (fun h => ev 277 [.ref 463, .int (xs (5 * i + 1))] h) := (q_marginal (xs (5 * i + 1))).step
  obtain ⟨v, H1, H2, e1, e2, hm, h2⟩ := hs H hSt
  obtain ⟨k0, s0⟩ := hSt.k
  have rd0 := scr s0 hL
  have rd1 := scr hm.1 hL
  refine ⟨H2, ?_, h2⟩
  dsimp only at e1 e2
  simp (implicitDefEqProofs := false) (disch := omega) only [zr_300_1215, zr_300_1216, zr_300_1217, zr_300_1218, zr_300_1219, zr_300_1220, zr_300_1221, zr_300_1224, zr_300_1225, zr_300_1226, zr_300_1227, zr_300_1228, zr_300_1229, zr_300_1230, zr_300_1233, zr_300_1234, zr_300_1237, zr_300_1238, zr_300_1562, zr_300_1565, true_or, or_true, true_and, and_true, if_true, if_false, ldA_ref, ldA_null, nl_int, nl_ref, nl_fl, nl_null, c1_int, c1_ref, c1_null, Nat.zero_add, Nat.zero_mul, Nat.one_mul, nI_add, nI_leI, nI_ltI, nI_eq, nI_mul, cmp_lt, cmp_gt, cmp_le, cmp_ge, cmp_eq, rd0, rd1, k0, hm.2, e1, e2, zcall_some, zpush_some, zpush_none, zsum_ref, zsum_int, zsum_long, zsum_nil, zsum_null, Nat.reduceAdd, Nat.reduceLeDiff, if_true]
theorem lc_30 (hSt : St L xs H i) (hi : 5 * i + 5 ≤ L) (hL : L ≤ 2560) : ∃ H2, rn 300 1239 [.ref 0, .ref 100, .ref 463, .int (nI (5 * i))] [] H = rn 300 18 [.ref 0, .ref 100, .ref 463, .int (nI (5 * i + 5))] [] H2 ∧ St L xs H2 (i + 1) := by
  have hs : stepI L xs i (fun h => ev 161 [.ref 100, .int (xs (5 * i + 1)), .int (xs (5 * i + 2))] h) (fun h => ev 278 [.ref 463, .int (xs (5 * i + 1)), .int (xs (5 * i + 2))] h) := (q_leastSalary (xs (5 * i + 1)) (xs (5 * i + 2))).step
  obtain ⟨v, H1, H2, e1, e2, hm, h2⟩ := hs H hSt
  obtain ⟨k0, s0⟩ := hSt.k
  have rd0 := scr s0 hL
  have rd1 := scr hm.1 hL
  refine ⟨H2, ?_, h2⟩
  dsimp only at e1 e2
  simp (implicitDefEqProofs := false) (disch := omega) only [zr_300_1239, zr_300_1240, zr_300_1241, zr_300_1242, zr_300_1243, zr_300_1244, zr_300_1245, zr_300_1246, zr_300_1247, zr_300_1248, zr_300_1249, zr_300_1250, zr_300_1253, zr_300_1254, zr_300_1255, zr_300_1256, zr_300_1257, zr_300_1258, zr_300_1259, zr_300_1260, zr_300_1261, zr_300_1262, zr_300_1263, zr_300_1264, zr_300_1267, zr_300_1270, zr_300_1271, zr_300_1562, zr_300_1565, true_or, or_true, true_and, and_true, if_true, if_false, ldA_ref, ldA_null, nl_int, nl_ref, nl_fl, nl_null, c1_int, c1_ref, c1_null, Nat.zero_add, Nat.zero_mul, Nat.one_mul, nI_add, nI_leI, nI_ltI, nI_eq, nI_mul, cmp_lt, cmp_gt, cmp_le, cmp_ge, cmp_eq, rd0, rd1, k0, hm.2, e1, e2, zcall_some, zpush_some, zpush_none, zsum_ref, zsum_int, zsum_long, zsum_nil, zsum_null, Nat.reduceAdd, Nat.reduceLeDiff, if_true]
theorem lc_31 (hSt : St L xs H i) (hi : 5 * i + 5 ≤ L) (hL : L ≤ 2560) : ∃ H2, rn 300 1272 [.ref 0, .ref 100, .ref 463, .int (nI (5 * i))] [] H = rn 300 18 [.ref 0, .ref 100, .ref 463, .int (nI (5 * i + 5))] [] H2 ∧ St L xs H2 (i + 1) := by
  have hs : stepJ L xs i (fun h => ev 164 [.ref 100, .int (xs (5 * i + 1))] h) (fun h => ev 279 [.ref 463, .int (xs (5 * i + 1))] h) := (q_projected (xs (5 * i + 1))).step
  obtain ⟨v, H1, H2, e1, e2, hm, h2⟩ := hs H hSt
  obtain ⟨k0, s0⟩ := hSt.k
  have rd0 := scr s0 hL
  have rd1 := scr hm.1 hL
  refine ⟨H2, ?_, h2⟩
  dsimp only at e1 e2
  simp (implicitDefEqProofs := false) (disch := omega) only [zr_300_1272, zr_300_1273, zr_300_1274, zr_300_1275, zr_300_1276, zr_300_1277, zr_300_1278, zr_300_1281, zr_300_1282, zr_300_1283, zr_300_1284, zr_300_1285, zr_300_1286, zr_300_1287, zr_300_1290, zr_300_1291, zr_300_1294, zr_300_1295, zr_300_1562, zr_300_1565, true_or, or_true, true_and, and_true, if_true, if_false, ldA_ref, ldA_null, nl_int, nl_ref, nl_fl, nl_null, c1_int, c1_ref, c1_null, Nat.zero_add, Nat.zero_mul, Nat.one_mul, nI_add, nI_leI, nI_ltI, nI_eq, nI_mul, cmp_lt, cmp_gt, cmp_le, cmp_ge, cmp_eq, rd0, rd1, k0, hm.2, e1, e2, zcall_some, zpush_some, zpush_none, zsum_ref, zsum_int, zsum_long, zsum_nil, zsum_null, Nat.reduceAdd, Nat.reduceLeDiff, if_true]
theorem lc_32 (hSt : St L xs H i) (hi : 5 * i + 5 ≤ L) (hL : L ≤ 2560) : ∃ H2, rn 300 1296 [.ref 0, .ref 100, .ref 463, .int (nI (5 * i))] [] H = rn 300 18 [.ref 0, .ref 100, .ref 463, .int (nI (5 * i + 5))] [] H2 ∧ St L xs H2 (i + 1) := by
  have hs : stepJ L xs i (fun h => ev 169 [.ref 100, .int (xs (5 * i + 1)), .int (xs (5 * i + 2))] h) (fun h => ev 281 [.ref 463, .int (xs (5 * i + 1)), .int (xs (5 * i + 2))] h) := (q_total (xs (5 * i + 1)) (xs (5 * i + 2))).step
  obtain ⟨v, H1, H2, e1, e2, hm, h2⟩ := hs H hSt
  obtain ⟨k0, s0⟩ := hSt.k
  have rd0 := scr s0 hL
  have rd1 := scr hm.1 hL
  refine ⟨H2, ?_, h2⟩
  dsimp only at e1 e2
  simp (implicitDefEqProofs := false) (disch := omega) only [zr_300_1296, zr_300_1297, zr_300_1298, zr_300_1299, zr_300_1300, zr_300_1301, zr_300_1302, zr_300_1303, zr_300_1304, zr_300_1305, zr_300_1306, zr_300_1307, zr_300_1310, zr_300_1311, zr_300_1312, zr_300_1313, zr_300_1314, zr_300_1315, zr_300_1316, zr_300_1317, zr_300_1318, zr_300_1319, zr_300_1320, zr_300_1321, zr_300_1324, zr_300_1325, zr_300_1328, zr_300_1329, zr_300_1562, zr_300_1565, true_or, or_true, true_and, and_true, if_true, if_false, ldA_ref, ldA_null, nl_int, nl_ref, nl_fl, nl_null, c1_int, c1_ref, c1_null, Nat.zero_add, Nat.zero_mul, Nat.one_mul, nI_add, nI_leI, nI_ltI, nI_eq, nI_mul, cmp_lt, cmp_gt, cmp_le, cmp_ge, cmp_eq, rd0, rd1, k0, hm.2, e1, e2, zcall_some, zpush_some, zpush_none, zsum_ref, zsum_int, zsum_long, zsum_nil, zsum_null, Nat.reduceAdd, Nat.reduceLeDiff, if_true]
theorem lc_33 (hSt : St L xs H i) (hi : 5 * i + 5 ≤ L) (hL : L ≤ 2560) : ∃ H2, rn 300 1330 [.ref 0, .ref 100, .ref 463, .int (nI (5 * i))] [] H = rn 300 18 [.ref 0, .ref 100, .ref 463, .int (nI (5 * i + 5))] [] H2 ∧ St L xs H2 (i + 1) := by
  have hs : stepJ L xs i (fun h => ev 170 [.ref 100, .int (xs (5 * i + 1)), .int (xs (5 * i + 2))] h) (fun h => ev 284 [.ref 463, .int (xs (5 * i + 1)), .int (xs (5 * i + 2))] h) := (q_oneRun (xs (5 * i + 1)) (xs (5 * i + 2))).step
  obtain ⟨v, H1, H2, e1, e2, hm, h2⟩ := hs H hSt
  obtain ⟨k0, s0⟩ := hSt.k
  have rd0 := scr s0 hL
  have rd1 := scr hm.1 hL
  refine ⟨H2, ?_, h2⟩
  dsimp only at e1 e2
  simp (implicitDefEqProofs := false) (disch := omega) only [zr_300_1330, zr_300_1331, zr_300_1332, zr_300_1333, zr_300_1334, zr_300_1335, zr_300_1336, zr_300_1337, zr_300_1338, zr_300_1339, zr_300_1340, zr_300_1341, zr_300_1344, zr_300_1345, zr_300_1346, zr_300_1347, zr_300_1348, zr_300_1349, zr_300_1350, zr_300_1351, zr_300_1352, zr_300_1353, zr_300_1354, zr_300_1355, zr_300_1358, zr_300_1359, zr_300_1362, zr_300_1363, zr_300_1562, zr_300_1565, true_or, or_true, true_and, and_true, if_true, if_false, ldA_ref, ldA_null, nl_int, nl_ref, nl_fl, nl_null, c1_int, c1_ref, c1_null, Nat.zero_add, Nat.zero_mul, Nat.one_mul, nI_add, nI_leI, nI_ltI, nI_eq, nI_mul, cmp_lt, cmp_gt, cmp_le, cmp_ge, cmp_eq, rd0, rd1, k0, hm.2, e1, e2, zcall_some, zpush_some, zpush_none, zsum_ref, zsum_int, zsum_long, zsum_nil, zsum_null, Nat.reduceAdd, Nat.reduceLeDiff, if_true]
theorem lc_34 (hSt : St L xs H i) (hi : 5 * i + 5 ≤ L) (hL : L ≤ 2560) : ∃ H2, rn 300 1364 [.ref 0, .ref 100, .ref 463, .int (nI (5 * i))] [] H = rn 300 18 [.ref 0, .ref 100, .ref 463, .int (nI (5 * i + 5))] [] H2 ∧ St L xs H2 (i + 1) := by
  have hs : stepJ L xs i (fun h => ev 172 [.ref 100, .int (xs (5 * i + 1)), .int (xs (5 * i + 2))] h) (fun h => ev 285 [.ref 463, .int (xs (5 * i + 1)), .int (xs (5 * i + 2))] h) := (q_account (xs (5 * i + 1)) (xs (5 * i + 2))).step
  obtain ⟨v, H1, H2, e1, e2, hm, h2⟩ := hs H hSt
  obtain ⟨k0, s0⟩ := hSt.k
  have rd0 := scr s0 hL
  have rd1 := scr hm.1 hL
  refine ⟨H2, ?_, h2⟩
  dsimp only at e1 e2
  simp (implicitDefEqProofs := false) (disch := omega) only [zr_300_1364, zr_300_1365, zr_300_1366, zr_300_1367, zr_300_1368, zr_300_1369, zr_300_1370, zr_300_1371, zr_300_1372, zr_300_1373, zr_300_1374, zr_300_1375, zr_300_1378, zr_300_1379, zr_300_1380, zr_300_1381, zr_300_1382, zr_300_1383, zr_300_1384, zr_300_1385, zr_300_1386, zr_300_1387, zr_300_1388, zr_300_1389, zr_300_1392, zr_300_1393, zr_300_1396, zr_300_1397, zr_300_1562, zr_300_1565, true_or, or_true, true_and, and_true, if_true, if_false, ldA_ref, ldA_null, nl_int, nl_ref, nl_fl, nl_null, c1_int, c1_ref, c1_null, Nat.zero_add, Nat.zero_mul, Nat.one_mul, nI_add, nI_leI, nI_ltI, nI_eq, nI_mul, cmp_lt, cmp_gt, cmp_le, cmp_ge, cmp_eq, rd0, rd1, k0, hm.2, e1, e2, zcall_some, zpush_some, zpush_none, zsum_ref, zsum_int, zsum_long, zsum_nil, zsum_null, Nat.reduceAdd, Nat.reduceLeDiff, if_true]
theorem lc_35 (hSt : St L xs H i) (hi : 5 * i + 5 ≤ L) (hL : L ≤ 2560) : ∃ H2, rn 300 1398 [.ref 0, .ref 100, .ref 463, .int (nI (5 * i))] [] H = rn 300 18 [.ref 0, .ref 100, .ref 463, .int (nI (5 * i + 5))] [] H2 ∧ St L xs H2 (i + 1) := by
  have hs : stepI L xs i (fun h => ev 174 [.ref 100, .int (xs (5 * i + 1)), .int (xs (5 * i + 2))] h) (fun h => ev 286 [.ref 463, .int (xs (5 * i + 1)), .int (xs (5 * i + 2))] h) := (q_statement (xs (5 * i + 1)) (xs (5 * i + 2))).step
  obtain ⟨v, H1, H2, e1, e2, hm, h2⟩ := hs H hSt
  obtain ⟨k0, s0⟩ := hSt.k
  have rd0 := scr s0 hL
  have rd1 := scr hm.1 hL
  refine ⟨H2, ?_, h2⟩
  dsimp only at e1 e2
  simp (implicitDefEqProofs := false) (disch := omega) only [zr_300_1398, zr_300_1399, zr_300_1400, zr_300_1401, zr_300_1402, zr_300_1403, zr_300_1404, zr_300_1405, zr_300_1406, zr_300_1407, zr_300_1408, zr_300_1409, zr_300_1412, zr_300_1413, zr_300_1414, zr_300_1415, zr_300_1416, zr_300_1417, zr_300_1418, zr_300_1419, zr_300_1420, zr_300_1421, zr_300_1422, zr_300_1423, zr_300_1426, zr_300_1429, zr_300_1430, zr_300_1562, zr_300_1565, true_or, or_true, true_and, and_true, if_true, if_false, ldA_ref, ldA_null, nl_int, nl_ref, nl_fl, nl_null, c1_int, c1_ref, c1_null, Nat.zero_add, Nat.zero_mul, Nat.one_mul, nI_add, nI_leI, nI_ltI, nI_eq, nI_mul, cmp_lt, cmp_gt, cmp_le, cmp_ge, cmp_eq, rd0, rd1, k0, hm.2, e1, e2, zcall_some, zpush_some, zpush_none, zsum_ref, zsum_int, zsum_long, zsum_nil, zsum_null, Nat.reduceAdd, Nat.reduceLeDiff, if_true]
theorem lc_36 (hSt : St L xs H i) (hi : 5 * i + 5 ≤ L) (hL : L ≤ 2560) : ∃ H2, rn 300 1431 [.ref 0, .ref 100, .ref 463, .int (nI (5 * i))] [] H = rn 300 18 [.ref 0, .ref 100, .ref 463, .int (nI (5 * i + 5))] [] H2 ∧ St L xs H2 (i + 1) := by
  have hs : stepI L xs i (fun h => ev 175 [.ref 100, .int (xs (5 * i + 1))] h) (fun h => ev 287 [.ref 463, .int (xs (5 * i + 1))] h) := (q_lowest (xs (5 * i + 1))).step
  obtain ⟨v, H1, H2, e1, e2, hm, h2⟩ := hs H hSt
  obtain ⟨k0, s0⟩ := hSt.k
  have rd0 := scr s0 hL
  have rd1 := scr hm.1 hL
  refine ⟨H2, ?_, h2⟩
  dsimp only at e1 e2
  simp (implicitDefEqProofs := false) (disch := omega) only [zr_300_1431, zr_300_1432, zr_300_1433, zr_300_1434, zr_300_1435, zr_300_1436, zr_300_1437, zr_300_1440, zr_300_1441, zr_300_1442, zr_300_1443, zr_300_1444, zr_300_1445, zr_300_1446, zr_300_1449, zr_300_1452, zr_300_1453, zr_300_1562, zr_300_1565, true_or, or_true, true_and, and_true, if_true, if_false, ldA_ref, ldA_null, nl_int, nl_ref, nl_fl, nl_null, c1_int, c1_ref, c1_null, Nat.zero_add, Nat.zero_mul, Nat.one_mul, nI_add, nI_leI, nI_ltI, nI_eq, nI_mul, cmp_lt, cmp_gt, cmp_le, cmp_ge, cmp_eq, rd0, rd1, k0, hm.2, e1, e2, zcall_some, zpush_some, zpush_none, zsum_ref, zsum_int, zsum_long, zsum_nil, zsum_null, Nat.reduceAdd, Nat.reduceLeDiff, if_true]
theorem lc_37 (hSt : St L xs H i) (hi : 5 * i + 5 ≤ L) (hL : L ≤ 2560) : ∃ H2, rn 300 1454 [.ref 0, .ref 100, .ref 463, .int (nI (5 * i))] [] H = rn 300 18 [.ref 0, .ref 100, .ref 463, .int (nI (5 * i + 5))] [] H2 ∧ St L xs H2 (i + 1) := by
  have hs : stepI L xs i (fun h => ev 177 [.ref 100, .int (xs (5 * i + 1)), .int (xs (5 * i + 2))] h) (fun h => ev 288 [.ref 463, .int (xs (5 * i + 1)), .int (xs (5 * i + 2))] h) := (q_corrections (xs (5 * i + 1)) (xs (5 * i + 2))).step
  obtain ⟨v, H1, H2, e1, e2, hm, h2⟩ := hs H hSt
  obtain ⟨k0, s0⟩ := hSt.k
  have rd0 := scr s0 hL
  have rd1 := scr hm.1 hL
  refine ⟨H2, ?_, h2⟩
  dsimp only at e1 e2
  simp (implicitDefEqProofs := false) (disch := omega) only [zr_300_1454, zr_300_1455, zr_300_1456, zr_300_1457, zr_300_1458, zr_300_1459, zr_300_1460, zr_300_1461, zr_300_1462, zr_300_1463, zr_300_1464, zr_300_1465, zr_300_1468, zr_300_1469, zr_300_1470, zr_300_1471, zr_300_1472, zr_300_1473, zr_300_1474, zr_300_1475, zr_300_1476, zr_300_1477, zr_300_1478, zr_300_1479, zr_300_1482, zr_300_1485, zr_300_1486, zr_300_1562, zr_300_1565, true_or, or_true, true_and, and_true, if_true, if_false, ldA_ref, ldA_null, nl_int, nl_ref, nl_fl, nl_null, c1_int, c1_ref, c1_null, Nat.zero_add, Nat.zero_mul, Nat.one_mul, nI_add, nI_leI, nI_ltI, nI_eq, nI_mul, cmp_lt, cmp_gt, cmp_le, cmp_ge, cmp_eq, rd0, rd1, k0, hm.2, e1, e2, zcall_some, zpush_some, zpush_none, zsum_ref, zsum_int, zsum_long, zsum_nil, zsum_null, Nat.reduceAdd, Nat.reduceLeDiff, if_true]
theorem lc_38 (hSt : St L xs H i) (hi : 5 * i + 5 ≤ L) (hL : L ≤ 2560) : ∃ H2, rn 300 1487 [.ref 0, .ref 100, .ref 463, .int (nI (5 * i))] [] H = rn 300 18 [.ref 0, .ref 100, .ref 463, .int (nI (5 * i + 5))] [] H2 ∧ St L xs H2 (i + 1) := by
  have hs : stepI L xs i (fun h => ev 179 [.ref 100, .int (xs (5 * i + 1))] h) (fun h => ev 289 [.ref 463, .int (xs (5 * i + 1))] h) := st_feed (xs (5 * i + 1))
  obtain ⟨v, H1, H2, e1, e2, hm, h2⟩ := hs H hSt
  obtain ⟨k0, s0⟩ := hSt.k
  have rd0 := scr s0 hL
  have rd1 := scr hm.1 hL
  refine ⟨H2, ?_, h2⟩
  dsimp only at e1 e2
  simp (implicitDefEqProofs := false) (disch := omega) only [zr_300_1487, zr_300_1488, zr_300_1489, zr_300_1490, zr_300_1491, zr_300_1492, zr_300_1493, zr_300_1496, zr_300_1497, zr_300_1498, zr_300_1499, zr_300_1500, zr_300_1501, zr_300_1502, zr_300_1505, zr_300_1508, zr_300_1509, zr_300_1562, zr_300_1565, true_or, or_true, true_and, and_true, if_true, if_false, ldA_ref, ldA_null, nl_int, nl_ref, nl_fl, nl_null, c1_int, c1_ref, c1_null, Nat.zero_add, Nat.zero_mul, Nat.one_mul, nI_add, nI_leI, nI_ltI, nI_eq, nI_mul, cmp_lt, cmp_gt, cmp_le, cmp_ge, cmp_eq, rd0, rd1, k0, hm.2, e1, e2, zcall_some, zpush_some, zpush_none, zsum_ref, zsum_int, zsum_long, zsum_nil, zsum_null, Nat.reduceAdd, Nat.reduceLeDiff, if_true]
theorem lc_39 (hSt : St L xs H i) (hi : 5 * i + 5 ≤ L) (hL : L ≤ 2560) : ∃ H2, rn 300 1510 [.ref 0, .ref 100, .ref 463, .int (nI (5 * i))] [] H = rn 300 18 [.ref 0, .ref 100, .ref 463, .int (nI (5 * i + 5))] [] H2 ∧ St L xs H2 (i + 1) := by
  have hs : stepI L xs i (fun h => ev 181 [.ref 100] h) (fun h => ev 290 [.ref 463] h) := st_execute (show i < 512 by omega) 
  obtain ⟨v, H1, H2, e1, e2, hm, h2⟩ := hs H hSt
  obtain ⟨k0, s0⟩ := hSt.k
  have rd0 := scr s0 hL
  have rd1 := scr hm.1 hL
  refine ⟨H2, ?_, h2⟩
  dsimp only at e1 e2
  simp (implicitDefEqProofs := false) (disch := omega) only [zr_300_1510, zr_300_1511, zr_300_1514, zr_300_1515, zr_300_1518, zr_300_1521, zr_300_1522, zr_300_1562, zr_300_1565, true_or, or_true, true_and, and_true, if_true, if_false, ldA_ref, ldA_null, nl_int, nl_ref, nl_fl, nl_null, c1_int, c1_ref, c1_null, Nat.zero_add, Nat.zero_mul, Nat.one_mul, nI_add, nI_leI, nI_ltI, nI_eq, nI_mul, cmp_lt, cmp_gt, cmp_le, cmp_ge, cmp_eq, rd0, rd1, k0, hm.2, e1, e2, zcall_some, zpush_some, zpush_none, zsum_ref, zsum_int, zsum_long, zsum_nil, zsum_null, Nat.reduceAdd, Nat.reduceLeDiff, if_true]
theorem lc_40 (hSt : St L xs H i) (hi : 5 * i + 5 ≤ L) (hL : L ≤ 2560) : ∃ H2, rn 300 1523 [.ref 0, .ref 100, .ref 463, .int (nI (5 * i))] [] H = rn 300 18 [.ref 0, .ref 100, .ref 463, .int (nI (5 * i + 5))] [] H2 ∧ St L xs H2 (i + 1) := by
  have hs : stepI L xs i (fun h => ev 203 [.ref 100] h) (fun h => ev 297 [.ref 463] h) := st_save 
  obtain ⟨v, H1, H2, e1, e2, hm, h2⟩ := hs H hSt
  obtain ⟨k0, s0⟩ := hSt.k
  have rd0 := scr s0 hL
  have rd1 := scr hm.1 hL
  refine ⟨H2, ?_, h2⟩
  dsimp only at e1 e2
  simp (implicitDefEqProofs := false) (disch := omega) only [zr_300_1523, zr_300_1524, zr_300_1527, zr_300_1528, zr_300_1531, zr_300_1534, zr_300_1535, zr_300_1562, zr_300_1565, true_or, or_true, true_and, and_true, if_true, if_false, ldA_ref, ldA_null, nl_int, nl_ref, nl_fl, nl_null, c1_int, c1_ref, c1_null, Nat.zero_add, Nat.zero_mul, Nat.one_mul, nI_add, nI_leI, nI_ltI, nI_eq, nI_mul, cmp_lt, cmp_gt, cmp_le, cmp_ge, cmp_eq, rd0, rd1, k0, hm.2, e1, e2, zcall_some, zpush_some, zpush_none, zsum_ref, zsum_int, zsum_long, zsum_nil, zsum_null, Nat.reduceAdd, Nat.reduceLeDiff, if_true]
theorem lc_41 (hSt : St L xs H i) (hi : 5 * i + 5 ≤ L) (hL : L ≤ 2560) : ∃ H2, rn 300 1536 [.ref 0, .ref 100, .ref 463, .int (nI (5 * i))] [] H = rn 300 18 [.ref 0, .ref 100, .ref 463, .int (nI (5 * i + 5))] [] H2 ∧ St L xs H2 (i + 1) := by
  have hs : stepI L xs i (fun h => ev 204 [.ref 100] h) (fun h => ev 298 [.ref 463] h) := st_restore 
  obtain ⟨v, H1, H2, e1, e2, hm, h2⟩ := hs H hSt
  obtain ⟨k0, s0⟩ := hSt.k
  have rd0 := scr s0 hL
  have rd1 := scr hm.1 hL
  refine ⟨H2, ?_, h2⟩
  dsimp only at e1 e2
  simp (implicitDefEqProofs := false) (disch := omega) only [zr_300_1536, zr_300_1537, zr_300_1540, zr_300_1541, zr_300_1544, zr_300_1547, zr_300_1548, zr_300_1562, zr_300_1565, true_or, or_true, true_and, and_true, if_true, if_false, ldA_ref, ldA_null, nl_int, nl_ref, nl_fl, nl_null, c1_int, c1_ref, c1_null, Nat.zero_add, Nat.zero_mul, Nat.one_mul, nI_add, nI_leI, nI_ltI, nI_eq, nI_mul, cmp_lt, cmp_gt, cmp_le, cmp_ge, cmp_eq, rd0, rd1, k0, hm.2, e1, e2, zcall_some, zpush_some, zpush_none, zsum_ref, zsum_int, zsum_long, zsum_nil, zsum_null, Nat.reduceAdd, Nat.reduceLeDiff, if_true]
theorem lc_42 (hSt : St L xs H i) (hi : 5 * i + 5 ≤ L) (hL : L ≤ 2560) : ∃ H2, rn 300 1549 [.ref 0, .ref 100, .ref 463, .int (nI (5 * i))] [] H = rn 300 18 [.ref 0, .ref 100, .ref 463, .int (nI (5 * i + 5))] [] H2 ∧ St L xs H2 (i + 1) := by
  have hs : stepI L xs i (fun h => ev 205 [.ref 100] h) (fun h => ev 299 [.ref 463] h) := st_undo 
  obtain ⟨v, H1, H2, e1, e2, hm, h2⟩ := hs H hSt
  obtain ⟨k0, s0⟩ := hSt.k
  have rd0 := scr s0 hL
  have rd1 := scr hm.1 hL
  refine ⟨H2, ?_, h2⟩
  dsimp only at e1 e2
  simp (implicitDefEqProofs := false) (disch := omega) only [zr_300_1549, zr_300_1550, zr_300_1553, zr_300_1554, zr_300_1557, zr_300_1560, zr_300_1561, zr_300_1562, zr_300_1565, true_or, or_true, true_and, and_true, if_true, if_false, ldA_ref, ldA_null, nl_int, nl_ref, nl_fl, nl_null, c1_int, c1_ref, c1_null, Nat.zero_add, Nat.zero_mul, Nat.one_mul, nI_add, nI_leI, nI_ltI, nI_eq, nI_mul, cmp_lt, cmp_gt, cmp_le, cmp_ge, cmp_eq, rd0, rd1, k0, hm.2, e1, e2, zcall_some, zpush_some, zpush_none, zsum_ref, zsum_int, zsum_long, zsum_nil, zsum_null, Nat.reduceAdd, Nat.reduceLeDiff, if_true]
theorem law_sw (hSt : St L xs H i) (hi : 5 * i + 5 ≤ L) (hL : L ≤ 2560) : rn 300 18 [.ref 0, .ref 100, .ref 463, .int (nI (5 * i))] [] H = rn 300 32 [.ref 0, .ref 100, .ref 463, .int (nI (5 * i))] [.int (xs (5 * i) &&& nI 63)] H := by
  obtain ⟨k0, s0⟩ := hSt.k
  have rd0 := scr s0 hL
  have rdL := scrL s0
  rw [zl_300_18]
  simp (implicitDefEqProofs := false) (disch := omega) only [zr_300_19, zr_300_20, zr_300_21, zr_300_22, zr_300_23, zr_300_26, zr_300_27, zr_300_28, zr_300_29, zr_300_31, true_or, or_true, true_and, and_true, if_true, if_false, ldA_ref, ldA_null, nl_int, nl_ref, nl_fl, nl_null, c1_int, c1_ref, c1_null, Nat.zero_add, Nat.zero_mul, Nat.one_mul, nI_add, nI_leI, nI_ltI, nI_eq, nI_mul, rd0, rdL, sub5, show ¬ L < 5 * i + 5 from by omega, zcall_some, zpush_some, zpush_none, zsum_ref, zsum_int, zsum_long, zsum_nil, zsum_null, Nat.reduceAdd, Nat.reduceLeDiff, if_true]
theorem law_step (hSt : St L xs H i) (hi : 5 * i + 5 ≤ L) (hL : L ≤ 2560) : ∃ H2, rn 300 18 [.ref 0, .ref 100, .ref 463, .int (nI (5 * i))] [] H = rn 300 18 [.ref 0, .ref 100, .ref 463, .int (nI (5 * i + 5))] [] H2 ∧ St L xs H2 (i + 1) := by
  have e0 := (law_sw hSt hi hL).trans (zr_300_32 _ _ _ _ _ _ _)
  generalize xs (5 * i) &&& nI 63 = X at e0
  by_cases c0 : X = nI 0
  · rw [if_pos c0] at e0
    obtain ⟨H2, e, h2⟩ := lc_0 hSt hi hL
    exact ⟨H2, e0.trans e, h2⟩
  rw [if_neg c0] at e0
  by_cases c1 : X = nI 1
  · rw [if_pos c1] at e0
    obtain ⟨H2, e, h2⟩ := lc_1 hSt hi hL
    exact ⟨H2, e0.trans e, h2⟩
  rw [if_neg c1] at e0
  by_cases c2 : X = nI 2
  · rw [if_pos c2] at e0
    obtain ⟨H2, e, h2⟩ := lc_2 hSt hi hL
    exact ⟨H2, e0.trans e, h2⟩
  rw [if_neg c2] at e0
  by_cases c3 : X = nI 3
  · rw [if_pos c3] at e0
    obtain ⟨H2, e, h2⟩ := lc_3 hSt hi hL
    exact ⟨H2, e0.trans e, h2⟩
  rw [if_neg c3] at e0
  by_cases c4 : X = nI 4
  · rw [if_pos c4] at e0
    obtain ⟨H2, e, h2⟩ := lc_4 hSt hi hL
    exact ⟨H2, e0.trans e, h2⟩
  rw [if_neg c4] at e0
  by_cases c5 : X = nI 5
  · rw [if_pos c5] at e0
    obtain ⟨H2, e, h2⟩ := lc_5 hSt hi hL
    exact ⟨H2, e0.trans e, h2⟩
  rw [if_neg c5] at e0
  by_cases c6 : X = nI 6
  · rw [if_pos c6] at e0
    obtain ⟨H2, e, h2⟩ := lc_6 hSt hi hL
    exact ⟨H2, e0.trans e, h2⟩
  rw [if_neg c6] at e0
  by_cases c7 : X = nI 7
  · rw [if_pos c7] at e0
    obtain ⟨H2, e, h2⟩ := lc_7 hSt hi hL
    exact ⟨H2, e0.trans e, h2⟩
  rw [if_neg c7] at e0
  by_cases c8 : X = nI 8
  · rw [if_pos c8] at e0
    obtain ⟨H2, e, h2⟩ := lc_8 hSt hi hL
    exact ⟨H2, e0.trans e, h2⟩
  rw [if_neg c8] at e0
  by_cases c9 : X = nI 9
  · rw [if_pos c9] at e0
    obtain ⟨H2, e, h2⟩ := lc_9 hSt hi hL
    exact ⟨H2, e0.trans e, h2⟩
  rw [if_neg c9] at e0
  by_cases c10 : X = nI 10
  · rw [if_pos c10] at e0
    obtain ⟨H2, e, h2⟩ := lc_10 hSt hi hL
    exact ⟨H2, e0.trans e, h2⟩
  rw [if_neg c10] at e0
  by_cases c11 : X = nI 11
  · rw [if_pos c11] at e0
    obtain ⟨H2, e, h2⟩ := lc_11 hSt hi hL
    exact ⟨H2, e0.trans e, h2⟩
  rw [if_neg c11] at e0
  by_cases c12 : X = nI 12
  · rw [if_pos c12] at e0
    obtain ⟨H2, e, h2⟩ := lc_12 hSt hi hL
    exact ⟨H2, e0.trans e, h2⟩
  rw [if_neg c12] at e0
  by_cases c13 : X = nI 13
  · rw [if_pos c13] at e0
    obtain ⟨H2, e, h2⟩ := lc_13 hSt hi hL
    exact ⟨H2, e0.trans e, h2⟩
  rw [if_neg c13] at e0
  by_cases c14 : X = nI 14
  · rw [if_pos c14] at e0
    obtain ⟨H2, e, h2⟩ := lc_14 hSt hi hL
    exact ⟨H2, e0.trans e, h2⟩
  rw [if_neg c14] at e0
  by_cases c15 : X = nI 15
  · rw [if_pos c15] at e0
    obtain ⟨H2, e, h2⟩ := lc_15 hSt hi hL
    exact ⟨H2, e0.trans e, h2⟩
  rw [if_neg c15] at e0
  by_cases c16 : X = nI 16
  · rw [if_pos c16] at e0
    obtain ⟨H2, e, h2⟩ := lc_16 hSt hi hL
    exact ⟨H2, e0.trans e, h2⟩
  rw [if_neg c16] at e0
  by_cases c17 : X = nI 17
  · rw [if_pos c17] at e0
    obtain ⟨H2, e, h2⟩ := lc_17 hSt hi hL
    exact ⟨H2, e0.trans e, h2⟩
  rw [if_neg c17] at e0
  by_cases c18 : X = nI 18
  · rw [if_pos c18] at e0
    obtain ⟨H2, e, h2⟩ := lc_18 hSt hi hL
    exact ⟨H2, e0.trans e, h2⟩
  rw [if_neg c18] at e0
  by_cases c19 : X = nI 19
  · rw [if_pos c19] at e0
    obtain ⟨H2, e, h2⟩ := lc_19 hSt hi hL
    exact ⟨H2, e0.trans e, h2⟩
  rw [if_neg c19] at e0
  by_cases c20 : X = nI 20
  · rw [if_pos c20] at e0
    obtain ⟨H2, e, h2⟩ := lc_20 hSt hi hL
    exact ⟨H2, e0.trans e, h2⟩
  rw [if_neg c20] at e0
  by_cases c21 : X = nI 21
  · rw [if_pos c21] at e0
    obtain ⟨H2, e, h2⟩ := lc_21 hSt hi hL
    exact ⟨H2, e0.trans e, h2⟩
  rw [if_neg c21] at e0
  by_cases c22 : X = nI 22
  · rw [if_pos c22] at e0
    obtain ⟨H2, e, h2⟩ := lc_22 hSt hi hL
    exact ⟨H2, e0.trans e, h2⟩
  rw [if_neg c22] at e0
  by_cases c23 : X = nI 23
  · rw [if_pos c23] at e0
    obtain ⟨H2, e, h2⟩ := lc_23 hSt hi hL
    exact ⟨H2, e0.trans e, h2⟩
  rw [if_neg c23] at e0
  by_cases c24 : X = nI 24
  · rw [if_pos c24] at e0
    obtain ⟨H2, e, h2⟩ := lc_24 hSt hi hL
    exact ⟨H2, e0.trans e, h2⟩
  rw [if_neg c24] at e0
  by_cases c25 : X = nI 25
  · rw [if_pos c25] at e0
    obtain ⟨H2, e, h2⟩ := lc_25 hSt hi hL
    exact ⟨H2, e0.trans e, h2⟩
  rw [if_neg c25] at e0
  by_cases c26 : X = nI 26
  · rw [if_pos c26] at e0
    obtain ⟨H2, e, h2⟩ := lc_26 hSt hi hL
    exact ⟨H2, e0.trans e, h2⟩
  rw [if_neg c26] at e0
  by_cases c27 : X = nI 27
  · rw [if_pos c27] at e0
    obtain ⟨H2, e, h2⟩ := lc_27 hSt hi hL
    exact ⟨H2, e0.trans e, h2⟩
  rw [if_neg c27] at e0
  by_cases c28 : X = nI 28
  · rw [if_pos c28] at e0
    obtain ⟨H2, e, h2⟩ := lc_28 hSt hi hL
    exact ⟨H2, e0.trans e, h2⟩
  rw [if_neg c28] at e0
  by_cases c29 : X = nI 29
  · rw [if_pos c29] at e0
    obtain ⟨H2, e, h2⟩ := lc_29 hSt hi hL
    exact ⟨H2, e0.trans e, h2⟩
  rw [if_neg c29] at e0
  by_cases c30 : X = nI 30
  · rw [if_pos c30] at e0
    obtain ⟨H2, e, h2⟩ := lc_30 hSt hi hL
    exact ⟨H2, e0.trans e, h2⟩
  rw [if_neg c30] at e0
  by_cases c31 : X = nI 31
  · rw [if_pos c31] at e0
    obtain ⟨H2, e, h2⟩ := lc_31 hSt hi hL
    exact ⟨H2, e0.trans e, h2⟩
  rw [if_neg c31] at e0
  by_cases c32 : X = nI 32
  · rw [if_pos c32] at e0
    obtain ⟨H2, e, h2⟩ := lc_32 hSt hi hL
    exact ⟨H2, e0.trans e, h2⟩
  rw [if_neg c32] at e0
  by_cases c33 : X = nI 33
  · rw [if_pos c33] at e0
    obtain ⟨H2, e, h2⟩ := lc_33 hSt hi hL
    exact ⟨H2, e0.trans e, h2⟩
  rw [if_neg c33] at e0
  by_cases c34 : X = nI 34
  · rw [if_pos c34] at e0
    obtain ⟨H2, e, h2⟩ := lc_34 hSt hi hL
    exact ⟨H2, e0.trans e, h2⟩
  rw [if_neg c34] at e0
  by_cases c35 : X = nI 35
  · rw [if_pos c35] at e0
    obtain ⟨H2, e, h2⟩ := lc_35 hSt hi hL
    exact ⟨H2, e0.trans e, h2⟩
  rw [if_neg c35] at e0
  by_cases c36 : X = nI 36
  · rw [if_pos c36] at e0
    obtain ⟨H2, e, h2⟩ := lc_36 hSt hi hL
    exact ⟨H2, e0.trans e, h2⟩
  rw [if_neg c36] at e0
  by_cases c37 : X = nI 37
  · rw [if_pos c37] at e0
    obtain ⟨H2, e, h2⟩ := lc_37 hSt hi hL
    exact ⟨H2, e0.trans e, h2⟩
  rw [if_neg c37] at e0
  by_cases c38 : X = nI 38
  · rw [if_pos c38] at e0
    obtain ⟨H2, e, h2⟩ := lc_38 hSt hi hL
    exact ⟨H2, e0.trans e, h2⟩
  rw [if_neg c38] at e0
  by_cases c39 : X = nI 39
  · rw [if_pos c39] at e0
    obtain ⟨H2, e, h2⟩ := lc_39 hSt hi hL
    exact ⟨H2, e0.trans e, h2⟩
  rw [if_neg c39] at e0
  by_cases c40 : X = nI 40
  · rw [if_pos c40] at e0
    obtain ⟨H2, e, h2⟩ := lc_40 hSt hi hL
    exact ⟨H2, e0.trans e, h2⟩
  rw [if_neg c40] at e0
  by_cases c41 : X = nI 41
  · rw [if_pos c41] at e0
    obtain ⟨H2, e, h2⟩ := lc_41 hSt hi hL
    exact ⟨H2, e0.trans e, h2⟩
  rw [if_neg c41] at e0
  by_cases c42 : X = nI 42
  · rw [if_pos c42] at e0
    obtain ⟨H2, e, h2⟩ := lc_42 hSt hi hL
    exact ⟨H2, e0.trans e, h2⟩
  rw [if_neg c42] at e0
  refine ⟨H, ?_, hSt.up⟩
  rw [e0]
  simp (implicitDefEqProofs := false) (disch := omega) only [zr_300_1562, zr_300_1565, true_or, or_true, true_and, and_true, if_true, if_false, ldA_ref, ldA_null, nl_int, nl_ref, nl_fl, nl_null, c1_int, c1_ref, c1_null, Nat.zero_add, Nat.zero_mul, Nat.one_mul, nI_add, nI_leI, nI_ltI, nI_eq, nI_mul, zcall_some, zpush_some, zpush_none, zsum_ref, zsum_int, zsum_long, zsum_nil, zsum_null, Nat.reduceAdd, Nat.reduceLeDiff, if_true]
theorem law_loop (hL : L ≤ 2560) : ∀ (j i : Nat) (H : zH), St L xs H i → 5 * i ≤ L → L ≤ 5 * (i + j) + 4 → ∃ h', rn 300 18 [.ref 0, .ref 100, .ref 463, .int (nI (5 * i))] [] H = some (some (.int 1), h') ∧ h'.1 ≤ 600000 ∧ h'.2.1 ≤ 7302250 := by
  intro j
  induction j with
  | zero =>
    intro i H hSt h1 h2
    obtain ⟨k0, s0⟩ := hSt.k
    have rdL := scrL s0
    refine ⟨H, ?_, ?_⟩
    · rw [zl_300_18]
      simp (implicitDefEqProofs := false) (disch := omega) only [zr_300_19, zr_300_20, zr_300_21, zr_300_22, zr_300_23, zr_300_1568, zr_300_1569, true_or, or_true, true_and, and_true, if_true, if_false, ldA_ref, ldA_null, nl_int, nl_ref, nl_fl, nl_null, c1_int, c1_ref, c1_null, Nat.zero_add, Nat.zero_mul, Nat.one_mul, nI_add, nI_leI, nI_ltI, nI_eq, nI_mul, rdL, sub5, show L < 5 * i + 5 from by omega, zcall_some, zpush_some, zpush_none, zsum_ref, zsum_int, zsum_long, zsum_nil, zsum_null, Nat.reduceAdd, Nat.reduceLeDiff, if_true]
      rfl
    · obtain ⟨s, hs, nx, ct, sb, sv, T, cap, t, r, sg, n, hc, hM, hz, ⟨z1, z2, z3, z4⟩, hr⟩ := hSt
      omega
  | succ j ih =>
    intro i H hSt h1 h2
    by_cases h3 : 5 * i + 5 ≤ L
    · obtain ⟨H2, e, hS2⟩ := law_step hSt h3 hL
      obtain ⟨h', e2, g⟩ := ih (i + 1) H2 hS2 (by omega) (by omega)
      exact ⟨h', e.trans e2, g⟩
    · obtain ⟨k0, s0⟩ := hSt.k
      have rdL := scrL s0
      refine ⟨H, ?_, ?_⟩
      · rw [zl_300_18]
        simp (implicitDefEqProofs := false) (disch := omega) only [zr_300_19, zr_300_20, zr_300_21, zr_300_22, zr_300_23, zr_300_1568, zr_300_1569, true_or, or_true, true_and, and_true, if_true, if_false, ldA_ref, ldA_null, nl_int, nl_ref, nl_fl, nl_null, c1_int, c1_ref, c1_null, Nat.zero_add, Nat.zero_mul, Nat.one_mul, nI_add, nI_leI, nI_ltI, nI_eq, nI_mul, rdL, sub5, show L < 5 * i + 5 from by omega, zcall_some, zpush_some, zpush_none, zsum_ref, zsum_int, zsum_long, zsum_nil, zsum_null, Nat.reduceAdd, Nat.reduceLeDiff, if_true]
        rfl
      · obtain ⟨s, hs, nx, ct, sb, sv, T, cap, t, r, sg, n, hc, hM, hz, ⟨z1, z2, z3, z4⟩, hr⟩ := hSt
        omega
end
