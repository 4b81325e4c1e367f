/-! THE REFERENCE: reads -/
section
variable {m e : Nat} {r : Rst} {h : zH}
def rX (e w : Nat) : Nat := 18 + 2751 * e + w
theorem s_at (e w : Nat) (h : zH) : ev 202 [.int (nI e), .int (nI w)] h = some (some (.int (nI (rX e w))), h) := by
  simp (implicitDefEqProofs := false) (disch := omega) only [ze_202, zr_202_0, zr_202_2, zr_202_5, zr_202_6, zr_202_7, zr_202_8, zr_202_9, zr_202_10, true_or, or_true, true_and, and_true, if_true, if_false, ldA_ref, ldA_null, nl_int, nl_ref, nl_fl, nl_null, c1_int, c1_ref, c1_null, Nat.zero_add, Nat.zero_mul, Nat.one_mul, nI_add, nI_leI, nI_ltI, nI_eq, nI_mul]
  rfl
theorem s_of {w : Nat} (hb : rX e w < 8271) : ev 220 [.ref m, .int (nI e), .int (nI w)] (putM m r h) = some (some (.long (rS r (rX e w))), putM m r h) := by
  simp (implicitDefEqProofs := false) (disch := omega) only [ze_220, zr_220_0, zr_220_1, zr_220_4, zr_220_5, zr_220_6, zr_220_9, zr_220_10, true_or, or_true, true_and, and_true, if_true, if_false, ldA_ref, ldA_null, nl_int, nl_ref, nl_fl, nl_null, c1_int, c1_ref, c1_null, gf_M0, s_at, zcall_some, zpush_some, zpush_none, zsum_ref, zsum_int, zsum_long, zsum_nil, zsum_null, Nat.reduceAdd, Nat.reduceLeDiff, if_true, lj_M1 hb]
def rGr (r : Rst) (e k : Nat) : Int64 := rS r (rX e (2 + k)) * rS r (rX e (14 + k)) / 30 + rS r (rX e (26 + k))
def rG (r : Rst) (e : Nat) : Nat → Int64
  | 0 => 0
  | k + 1 => rG r e k + rGr r e k
theorem s_rgross {k : Nat} (he : e < 3) (hk : k < 12) : ev 233 [.ref m, .int (nI e), .int (nI k)] (putM m r h) = some (some (.long (rGr r e k)), putM m r h) := by
  simp (implicitDefEqProofs := false) (disch := omega) only [ze_233, zr_233_0, zr_233_1, zr_233_2, zr_233_3, zr_233_4, zr_233_5, zr_233_8, zr_233_9, zr_233_10, zr_233_12, zr_233_13, zr_233_14, zr_233_17, zr_233_18, zr_233_21, zr_233_22, zr_233_23, zr_233_24, zr_233_26, zr_233_27, zr_233_28, zr_233_31, zr_233_32, true_or, or_true, true_and, and_true, if_true, if_false, ldA_ref, ldA_null, nl_int, nl_ref, nl_fl, nl_null, c1_int, c1_ref, c1_null, kd_M, Nat.zero_add, Nat.zero_mul, Nat.one_mul, nI_add, nI_leI, nI_ltI, nI_eq, nI_mul, s_of (show rX e (2 + k) < 8271 by unfold rX; omega), s_of (show rX e (14 + k) < 8271 by unfold rX; omega), s_of (show rX e (26 + k) < 8271 by unfold rX; omega), zcall_some, zpush_some, zpush_none, zsum_ref, zsum_int, zsum_long, zsum_nil, zsum_null, Nat.reduceAdd, Nat.reduceLeDiff, if_true, dvJ_30]
  rfl
theorem s_rsumL {n : Nat} (he : e < 3) (hn : n ≤ 12) : ∀ (j k : Nat), k + j = n → rn 232 5 [.ref m, .int (nI e), .int (nI n), .long (rG r e k), .float 0, .int (nI k)] [] (putM m r h) = some (some (.long (rG r e n)), putM m r h) := by
  intro j
  induction j with
  | zero =>
    intro k hk
    rw [Nat.add_zero] at hk
    subst hk
    rw [zl_232_5]
    simp (implicitDefEqProofs := false) (disch := omega) only [ze_232, zr_232_0, zr_232_1, zr_232_2, zr_232_3, zr_232_7, zr_232_8, zr_232_11, zr_232_12, zr_232_13, zr_232_14, zr_232_16, zr_232_19, zr_232_20, zr_232_21, zr_232_24, zr_232_27, zr_232_28, true_or, or_true, true_and, and_true, if_true, if_false, ldA_ref, ldA_null, nl_int, nl_ref, nl_fl, nl_null, c1_int, c1_ref, c1_null, kd_M, Nat.zero_add, Nat.zero_mul, Nat.one_mul, nI_add, nI_leI, nI_ltI, nI_eq, nI_mul, Nat.le_refl]
  | succ j ih =>
    intro k hk
    rw [zl_232_5]
    simp (implicitDefEqProofs := false) (disch := omega) only [ze_232, zr_232_0, zr_232_1, zr_232_2, zr_232_3, zr_232_7, zr_232_8, zr_232_11, zr_232_12, zr_232_13, zr_232_14, zr_232_16, zr_232_19, zr_232_20, zr_232_21, zr_232_24, zr_232_27, zr_232_28, true_or, or_true, true_and, and_true, if_true, if_false, ldA_ref, ldA_null, nl_int, nl_ref, nl_fl, nl_null, c1_int, c1_ref, c1_null, kd_M, Nat.zero_add, Nat.zero_mul, Nat.one_mul, nI_add, nI_leI, nI_ltI, nI_eq, nI_mul, show ¬ n ≤ k from by omega, s_rgross he (show k < 12 by omega), zcall_some, zpush_some, zpush_none, zsum_ref, zsum_int, zsum_long, zsum_nil, zsum_null, Nat.reduceAdd, Nat.reduceLeDiff, if_true]
    exact ih (k + 1) (by omega)
theorem s_rsum {n : Nat} (he : e < 3) (hn : n ≤ 12) : ev 232 [.ref m, .int (nI e), .int (nI n)] (putM m r h) = some (some (.long (rG r e n)), putM m r h) := by
  simp (implicitDefEqProofs := false) (disch := omega) only [ze_232, zr_232_0, zr_232_1, zr_232_2, zr_232_3, zr_232_7, zr_232_8, zr_232_11, zr_232_12, zr_232_13, zr_232_14, zr_232_16, zr_232_19, zr_232_20, zr_232_21, zr_232_24, zr_232_27, zr_232_28, true_or, or_true, true_and, and_true, if_true, if_false, ldA_ref, ldA_null, nl_int, nl_ref, nl_fl, nl_null, c1_int, c1_ref, c1_null]
  exact s_rsumL he hn n 0 (by omega)
def rC (r : Rst) (c : Nat) (x : Int64) : Int64 := rS r (3 + c) * (if rS r (5 + c) < x then rS r (5 + c) else x) * 1000
theorem s_rcontr {c : Nat} (hc : c < 2) (x : Int64) : ev 235 [.ref m, .int (nI c), .long x] (putM m r h) = some (some (.long (rC r c x)), putM m r h) := by
  simp (implicitDefEqProofs := false) (disch := omega) only [ze_235, zr_235_0, zr_235_1, zr_235_4, zr_235_5, zr_235_6, zr_235_7, zr_235_8, zr_235_9, zr_235_10, zr_235_13, zr_235_14, zr_235_15, zr_235_16, zr_235_17, zr_235_20, zr_235_21, zr_235_24, zr_235_25, true_or, or_true, true_and, and_true, if_true, if_false, ldA_ref, ldA_null, nl_int, nl_ref, nl_fl, nl_null, c1_int, c1_ref, c1_null, gf_M0, Nat.zero_add, Nat.zero_mul, Nat.one_mul, nI_add, nI_leI, nI_ltI, nI_eq, nI_mul, lj_M1 (show 3 + c < 8271 by omega), lj_M1 (show 5 + c < 8271 by omega), zcall_some, zpush_some, zpush_none, zsum_ref, zsum_int, zsum_long, zsum_nil, zsum_null, Nat.reduceAdd, Nat.reduceLeDiff, if_true]
  rfl
end
