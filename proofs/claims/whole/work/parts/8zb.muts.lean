/-! THE FOURTEEN CALLS that change the books -/
section
variable {L i : Nat} {xs : Nat → Int32}
theorem st_salary (hi : i < 512) (x y z : Int32) : stepI L xs i (fun h => ev 16 [.ref 100, .int x, .int y, .int z] h) (fun h => ev 203 [.ref 463, .int x, .int y, .int z] h) := by
  refine mut_step (chg := fun h => ev 22 [.ref 101, .int x, .int y, .int z] h) hi ?_ fun H s q K hp => cmd_sal hp x y z
  intro H H1 H2 R sv v hx hx1 hx2 hk hk1 e1 e2 e3
  dsimp only at e2
  simp (implicitDefEqProofs := false) (disch := omega) only [ze_16, zr_16_0, zr_16_1, zr_16_4, zr_16_5, zr_16_8, zr_16_11, zr_16_12, zr_16_13, zr_16_16, zr_16_17, zr_16_18, zr_16_19, zr_16_22, zr_16_25, true_or, or_true, true_and, and_true, if_true, if_false, ldA_ref, ldA_null, nl_int, nl_ref, nl_fl, nl_null, c1_int, c1_ref, c1_null, Nat.zero_add, Nat.zero_mul, Nat.one_mul, nI_add, nI_leI, nI_ltI, nI_eq, nI_mul, x_at hx, x_at hx1, x_at hx2, hk, hk1, e1, e2, e3, zcall_some, zpush_some, zpush_none, zsum_ref, zsum_int, zsum_long, zsum_nil, zsum_null, Nat.reduceAdd, Nat.reduceLeDiff, if_true]
theorem st_days (hi : i < 512) (x y z : Int32) : stepI L xs i (fun h => ev 29 [.ref 100, .int x, .int y, .int z] h) (fun h => ev 210 [.ref 463, .int x, .int y, .int z] h) := by
  refine mut_step (chg := fun h => ev 30 [.ref 101, .int x, .int y, .int z] h) hi ?_ fun H s q K hp => cmd_day hp x y z
  intro H H1 H2 R sv v hx hx1 hx2 hk hk1 e1 e2 e3
  dsimp only at e2
  simp (implicitDefEqProofs := false) (disch := omega) only [ze_29, zr_29_0, zr_29_1, zr_29_4, zr_29_5, zr_29_8, zr_29_11, zr_29_12, zr_29_13, zr_29_16, zr_29_17, zr_29_18, zr_29_19, zr_29_22, zr_29_25, true_or, or_true, true_and, and_true, if_true, if_false, ldA_ref, ldA_null, nl_int, nl_ref, nl_fl, nl_null, c1_int, c1_ref, c1_null, Nat.zero_add, Nat.zero_mul, Nat.one_mul, nI_add, nI_leI, nI_ltI, nI_eq, nI_mul, x_at hx, x_at hx1, x_at hx2, hk, hk1, e1, e2, e3, zcall_some, zpush_some, zpush_none, zsum_ref, zsum_int, zsum_long, zsum_nil, zsum_null, Nat.reduceAdd, Nat.reduceLeDiff, if_true]
theorem st_bonus (hi : i < 512) (x y z : Int32) : stepI L xs i (fun h => ev 31 [.ref 100, .int x, .int y, .int z] h) (fun h => ev 211 [.ref 463, .int x, .int y, .int z] h) := by
  refine mut_step (chg := fun h => ev 32 [.ref 101, .int x, .int y, .int z] h) hi ?_ fun H s q K hp => cmd_bon hp x y z
  intro H H1 H2 R sv v hx hx1 hx2 hk hk1 e1 e2 e3
  dsimp only at e2
  simp (implicitDefEqProofs := false) (disch := omega) only [ze_31, zr_31_0, zr_31_1, zr_31_4, zr_31_5, zr_31_8, zr_31_11, zr_31_12, zr_31_13, zr_31_16, zr_31_17, zr_31_18, zr_31_19, zr_31_22, zr_31_25, true_or, or_true, true_and, and_true, if_true, if_false, ldA_ref, ldA_null, nl_int, nl_ref, nl_fl, nl_null, c1_int, c1_ref, c1_null, Nat.zero_add, Nat.zero_mul, Nat.one_mul, nI_add, nI_leI, nI_ltI, nI_eq, nI_mul, x_at hx, x_at hx1, x_at hx2, hk, hk1, e1, e2, e3, zcall_some, zpush_some, zpush_none, zsum_ref, zsum_int, zsum_long, zsum_nil, zsum_null, Nat.reduceAdd, Nat.reduceLeDiff, if_true]
theorem st_setFloor (hi : i < 512) (x y : Int32) : stepI L xs i (fun h => ev 33 [.ref 100, .int x, .int y] h) (fun h => ev 212 [.ref 463, .int x, .int y] h) := by
  refine mut_step (chg := fun h => ev 34 [.ref 101, .int x, .int y] h) hi ?_ fun H s q K hp => cmd_flo hp x y
  intro H H1 H2 R sv v hx hx1 hx2 hk hk1 e1 e2 e3
  dsimp only at e2
  simp (implicitDefEqProofs := false) (disch := omega) only [ze_33, zr_33_0, zr_33_1, zr_33_4, zr_33_5, zr_33_8, zr_33_11, zr_33_12, zr_33_13, zr_33_16, zr_33_17, zr_33_18, zr_33_21, zr_33_24, true_or, or_true, true_and, and_true, if_true, if_false, ldA_ref, ldA_null, nl_int, nl_ref, nl_fl, nl_null, c1_int, c1_ref, c1_null, Nat.zero_add, Nat.zero_mul, Nat.one_mul, nI_add, nI_leI, nI_ltI, nI_eq, nI_mul, x_at hx, x_at hx1, x_at hx2, hk, hk1, e1, e2, e3, zcall_some, zpush_some, zpush_none, zsum_ref, zsum_int, zsum_long, zsum_nil, zsum_null, Nat.reduceAdd, Nat.reduceLeDiff, if_true]
theorem st_setRate (hi : i < 512) (x y : Int32) : stepI L xs i (fun h => ev 35 [.ref 100, .int x, .int y] h) (fun h => ev 213 [.ref 463, .int x, .int y] h) := by
  refine mut_step (chg := fun h => ev 36 [.ref 101, .int x, .int y] h) hi ?_ fun H s q K hp => cmd_rat hp x y
  intro H H1 H2 R sv v hx hx1 hx2 hk hk1 e1 e2 e3
  dsimp only at e2
  simp (implicitDefEqProofs := false) (disch := omega) only [ze_35, zr_35_0, zr_35_1, zr_35_4, zr_35_5, zr_35_8, zr_35_11, zr_35_12, zr_35_13, zr_35_16, zr_35_17, zr_35_18, zr_35_21, zr_35_24, true_or, or_true, true_and, and_true, if_true, if_false, ldA_ref, ldA_null, nl_int, nl_ref, nl_fl, nl_null, c1_int, c1_ref, c1_null, Nat.zero_add, Nat.zero_mul, Nat.one_mul, nI_add, nI_leI, nI_ltI, nI_eq, nI_mul, x_at hx, x_at hx1, x_at hx2, hk, hk1, e1, e2, e3, zcall_some, zpush_some, zpush_none, zsum_ref, zsum_int, zsum_long, zsum_nil, zsum_null, Nat.reduceAdd, Nat.reduceLeDiff, if_true]
theorem st_setCap (hi : i < 512) (x y : Int32) : stepI L xs i (fun h => ev 37 [.ref 100, .int x, .int y] h) (fun h => ev 215 [.ref 463, .int x, .int y] h) := by
  refine mut_step (chg := fun h => ev 38 [.ref 101, .int x, .int y] h) hi ?_ fun H s q K hp => cmd_cap hp x y
  intro H H1 H2 R sv v hx hx1 hx2 hk hk1 e1 e2 e3
  dsimp only at e2
  simp (implicitDefEqProofs := false) (disch := omega) only [ze_37, zr_37_0, zr_37_1, zr_37_4, zr_37_5, zr_37_8, zr_37_11, zr_37_12, zr_37_13, zr_37_16, zr_37_17, zr_37_18, zr_37_21, zr_37_24, true_or, or_true, true_and, and_true, if_true, if_false, ldA_ref, ldA_null, nl_int, nl_ref, nl_fl, nl_null, c1_int, c1_ref, c1_null, Nat.zero_add, Nat.zero_mul, Nat.one_mul, nI_add, nI_leI, nI_ltI, nI_eq, nI_mul, x_at hx, x_at hx1, x_at hx2, hk, hk1, e1, e2, e3, zcall_some, zpush_some, zpush_none, zsum_ref, zsum_int, zsum_long, zsum_nil, zsum_null, Nat.reduceAdd, Nat.reduceLeDiff, if_true]
theorem st_bracket (hi : i < 512) (x y : Int32) : stepI L xs i (fun h => ev 39 [.ref 100, .int x, .int y] h) (fun h => ev 216 [.ref 463, .int x, .int y] h) := by
  refine mut_step (chg := fun h => ev 40 [.ref 101, .int x, .int y] h) hi ?_ fun H s q K hp => cmd_bra hp x y
  intro H H1 H2 R sv v hx hx1 hx2 hk hk1 e1 e2 e3
  dsimp only at e2
  simp (implicitDefEqProofs := false) (disch := omega) only [ze_39, zr_39_0, zr_39_1, zr_39_4, zr_39_5, zr_39_8, zr_39_11, zr_39_12, zr_39_13, zr_39_16, zr_39_17, zr_39_18, zr_39_21, zr_39_24, true_or, or_true, true_and, and_true, if_true, if_false, ldA_ref, ldA_null, nl_int, nl_ref, nl_fl, nl_null, c1_int, c1_ref, c1_null, Nat.zero_add, Nat.zero_mul, Nat.one_mul, nI_add, nI_leI, nI_ltI, nI_eq, nI_mul, x_at hx, x_at hx1, x_at hx2, hk, hk1, e1, e2, e3, zcall_some, zpush_some, zpush_none, zsum_ref, zsum_int, zsum_long, zsum_nil, zsum_null, Nat.reduceAdd, Nat.reduceLeDiff, if_true]
theorem st_clearBrackets (hi : i < 512) : stepI L xs i (fun h => ev 42 [.ref 100] h) (fun h => ev 217 [.ref 463] h) := by
  refine mut_step (chg := fun h => ev 43 [.ref 101] h) hi ?_ fun H s q K hp => cmd_clr hp 
  intro H H1 H2 R sv v hx hx1 hx2 hk hk1 e1 e2 e3
  dsimp only at e2
  simp (implicitDefEqProofs := false) (disch := omega) only [ze_42, zr_42_0, zr_42_1, zr_42_4, zr_42_5, zr_42_8, zr_42_11, zr_42_12, zr_42_13, zr_42_16, zr_42_19, zr_42_22, true_or, or_true, true_and, and_true, if_true, if_false, ldA_ref, ldA_null, nl_int, nl_ref, nl_fl, nl_null, c1_int, c1_ref, c1_null, Nat.zero_add, Nat.zero_mul, Nat.one_mul, nI_add, nI_leI, nI_ltI, nI_eq, nI_mul, x_at hx, x_at hx1, x_at hx2, hk, hk1, e1, e2, e3, zcall_some, zpush_some, zpush_none, zsum_ref, zsum_int, zsum_long, zsum_nil, zsum_null, Nat.reduceAdd, Nat.reduceLeDiff, if_true]
theorem st_fixed (hi : i < 512) (x y z : Int32) : stepI L xs i (fun h => ev 44 [.ref 100, .int x, .int y, .int z] h) (fun h => ev 218 [.ref 463, .int x, .int y, .int z] h) := by
  refine mut_step (chg := fun h => ev 45 [.ref 101, .int x, .int y, .int z] h) hi ?_ fun H s q K hp => cmd_fix hp x y z
  intro H H1 H2 R sv v hx hx1 hx2 hk hk1 e1 e2 e3
  dsimp only at e2
  simp (implicitDefEqProofs := false) (disch := omega) only [ze_44, zr_44_0, zr_44_1, zr_44_4, zr_44_5, zr_44_8, zr_44_11, zr_44_12, zr_44_13, zr_44_16, zr_44_17, zr_44_18, zr_44_19, zr_44_22, zr_44_25, true_or, or_true, true_and, and_true, if_true, if_false, ldA_ref, ldA_null, nl_int, nl_ref, nl_fl, nl_null, c1_int, c1_ref, c1_null, Nat.zero_add, Nat.zero_mul, Nat.one_mul, nI_add, nI_leI, nI_ltI, nI_eq, nI_mul, x_at hx, x_at hx1, x_at hx2, hk, hk1, e1, e2, e3, zcall_some, zpush_some, zpush_none, zsum_ref, zsum_int, zsum_long, zsum_nil, zsum_null, Nat.reduceAdd, Nat.reduceLeDiff, if_true]
theorem st_share (hi : i < 512) (x y z : Int32) : stepI L xs i (fun h => ev 47 [.ref 100, .int x, .int y, .int z] h) (fun h => ev 221 [.ref 463, .int x, .int y, .int z] h) := by
  refine mut_step (chg := fun h => ev 48 [.ref 101, .int x, .int y, .int z] h) hi ?_ fun H s q K hp => cmd_sha hp x y z
  intro H H1 H2 R sv v hx hx1 hx2 hk hk1 e1 e2 e3
  dsimp only at e2
  simp (implicitDefEqProofs := false) (disch := omega) only [ze_47, zr_47_0, zr_47_1, zr_47_4, zr_47_5, zr_47_8, zr_47_11, zr_47_12, zr_47_13, zr_47_16, zr_47_17, zr_47_18, zr_47_19, zr_47_22, zr_47_25, true_or, or_true, true_and, and_true, if_true, if_false, ldA_ref, ldA_null, nl_int, nl_ref, nl_fl, nl_null, c1_int, c1_ref, c1_null, Nat.zero_add, Nat.zero_mul, Nat.one_mul, nI_add, nI_leI, nI_ltI, nI_eq, nI_mul, x_at hx, x_at hx1, x_at hx2, hk, hk1, e1, e2, e3, zcall_some, zpush_some, zpush_none, zsum_ref, zsum_int, zsum_long, zsum_nil, zsum_null, Nat.reduceAdd, Nat.reduceLeDiff, if_true]
theorem st_dropGarnishment (hi : i < 512) (x y : Int32) : stepI L xs i (fun h => ev 49 [.ref 100, .int x, .int y] h) (fun h => ev 222 [.ref 463, .int x, .int y] h) := by
  refine mut_step (chg := fun h => ev 50 [.ref 101, .int x, .int y] h) hi ?_ fun H s q K hp => cmd_dro hp x y
  intro H H1 H2 R sv v hx hx1 hx2 hk hk1 e1 e2 e3
  dsimp only at e2
  simp (implicitDefEqProofs := false) (disch := omega) only [ze_49, zr_49_0, zr_49_1, zr_49_4, zr_49_5, zr_49_8, zr_49_11, zr_49_12, zr_49_13, zr_49_16, zr_49_17, zr_49_18, zr_49_21, zr_49_24, true_or, or_true, true_and, and_true, if_true, if_false, ldA_ref, ldA_null, nl_int, nl_ref, nl_fl, nl_null, c1_int, c1_ref, c1_null, Nat.zero_add, Nat.zero_mul, Nat.one_mul, nI_add, nI_leI, nI_ltI, nI_eq, nI_mul, x_at hx, x_at hx1, x_at hx2, hk, hk1, e1, e2, e3, zcall_some, zpush_some, zpush_none, zsum_ref, zsum_int, zsum_long, zsum_nil, zsum_null, Nat.reduceAdd, Nat.reduceLeDiff, if_true]
theorem st_moveGarnishment (hi : i < 512) (x y z : Int32) : stepI L xs i (fun h => ev 55 [.ref 100, .int x, .int y, .int z] h) (fun h => ev 225 [.ref 463, .int x, .int y, .int z] h) := by
  refine mut_step (chg := fun h => ev 56 [.ref 101, .int x, .int y, .int z] h) hi ?_ fun H s q K hp => cmd_mov hp x y z
  intro H H1 H2 R sv v hx hx1 hx2 hk hk1 e1 e2 e3
  dsimp only at e2
  simp (implicitDefEqProofs := false) (disch := omega) only [ze_55, zr_55_0, zr_55_1, zr_55_4, zr_55_5, zr_55_8, zr_55_11, zr_55_12, zr_55_13, zr_55_16, zr_55_17, zr_55_18, zr_55_19, zr_55_22, zr_55_25, true_or, or_true, true_and, and_true, if_true, if_false, ldA_ref, ldA_null, nl_int, nl_ref, nl_fl, nl_null, c1_int, c1_ref, c1_null, Nat.zero_add, Nat.zero_mul, Nat.one_mul, nI_add, nI_leI, nI_ltI, nI_eq, nI_mul, x_at hx, x_at hx1, x_at hx2, hk, hk1, e1, e2, e3, zcall_some, zpush_some, zpush_none, zsum_ref, zsum_int, zsum_long, zsum_nil, zsum_null, Nat.reduceAdd, Nat.reduceLeDiff, if_true]
theorem st_closeMonth (hi : i < 512) : stepI L xs i (fun h => ev 57 [.ref 100] h) (fun h => ev 226 [.ref 463] h) := by
  refine mut_step (chg := fun h => ev 58 [.ref 101, .ref 441] h) hi ?_ fun H s q K hp => cmd_clo hp 
  intro H H1 H2 R sv v hx hx1 hx2 hk hk1 e1 e2 e3
  dsimp only at e2
  simp (implicitDefEqProofs := false) (disch := omega) only [ze_57, zr_57_0, zr_57_1, zr_57_4, zr_57_5, zr_57_8, zr_57_11, zr_57_12, zr_57_13, zr_57_16, zr_57_17, zr_57_20, zr_57_23, zr_57_26, true_or, or_true, true_and, and_true, if_true, if_false, ldA_ref, ldA_null, nl_int, nl_ref, nl_fl, nl_null, c1_int, c1_ref, c1_null, Nat.zero_add, Nat.zero_mul, Nat.one_mul, nI_add, nI_leI, nI_ltI, nI_eq, nI_mul, x_at hx, x_at hx1, x_at hx2, hk, hk1, e1, e2, e3, zcall_some, zpush_some, zpush_none, zsum_ref, zsum_int, zsum_long, zsum_nil, zsum_null, Nat.reduceAdd, Nat.reduceLeDiff, if_true]
theorem st_newYear (hi : i < 512) : stepI L xs i (fun h => ev 77 [.ref 100] h) (fun h => ev 244 [.ref 463] h) := by
  refine mut_step (chg := fun h => ev 78 [.ref 101] h) hi ?_ fun H s q K hp => cmd_ny hp 
  intro H H1 H2 R sv v hx hx1 hx2 hk hk1 e1 e2 e3
  dsimp only at e2
  simp (implicitDefEqProofs := false) (disch := omega) only [ze_77, zr_77_0, zr_77_1, zr_77_4, zr_77_5, zr_77_8, zr_77_11, zr_77_12, zr_77_13, zr_77_16, zr_77_19, zr_77_22, true_or, or_true, true_and, and_true, if_true, if_false, ldA_ref, ldA_null, nl_int, nl_ref, nl_fl, nl_null, c1_int, c1_ref, c1_null, Nat.zero_add, Nat.zero_mul, Nat.one_mul, nI_add, nI_leI, nI_ltI, nI_eq, nI_mul, x_at hx, x_at hx1, x_at hx2, hk, hk1, e1, e2, e3, zcall_some, zpush_some, zpush_none, zsum_ref, zsum_int, zsum_long, zsum_nil, zsum_null, Nat.reduceAdd, Nat.reduceLeDiff, if_true]
end
