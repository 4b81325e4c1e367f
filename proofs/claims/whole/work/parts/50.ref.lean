/-! THE REFERENCE: reads -/
section
variable {m e : Nat} {r : Rst} {h : zH}
def rX (e w : Nat) : Nat := 18 + 2751 * e + w
theorem s_at (e w : Nat) (h : zH) : ev 208 [.int (nI e), .int (nI w)] h = some (some (.int (nI (rX e w))), h) := by
  simp (implicitDefEqProofs := false) (disch := omega) only [ze_208, zr_208_0, zr_208_2, zr_208_5, zr_208_6, zr_208_7, zr_208_8, zr_208_9, zr_208_10, true_or, or_true, true_and, and_true, if_true, if_false, ldA_ref, ldA_null, nl_int, nl_ref, nl_fl, nl_null, c1_int, c1_ref, c1_null, Nat.zero_add, Nat.zero_mul, Nat.one_mul, nI_add, nI_leI, nI_ltI, nI_eq, nI_mul]
  rfl
theorem s_of {w : Nat} (hb : rX e w < 8271) : ev 226 [.ref m, .int (nI e), .int (nI w)] (putM m r h) = some (some (.long (rS r (rX e w))), putM m r h) := by
  simp (implicitDefEqProofs := false) (disch := omega) only [ze_226, zr_226_0, zr_226_1, zr_226_4, zr_226_5, zr_226_6, zr_226_9, zr_226_10, true_or, or_true, true_and, and_true, if_true, if_false, ldA_ref, ldA_null, nl_int, nl_ref, nl_fl, nl_null, c1_int, c1_ref, c1_null, gf_M0, s_at, zcall_some, zpush_some, zpush_none, zsum_ref, zsum_int, zsum_long, zsum_nil, zsum_null, Nat.reduceAdd, Nat.reduceLeDiff, if_true, lj_M1 hb]
def rGr (r : Rst) (e k : Nat) : Int64 := rS r (rX e (2 + k)) * rS r (rX e (14 + k)) / 30 + rS r (rX e (26 + k))
def rG (r : Rst) (e : Nat) : Nat → Int64
  | 0 => 0
  | k + 1 => rG r e k + rGr r e k
theorem s_rgross {k : Nat} (he : e < 3) (hk : k < 12) : ev 239 [.ref m, .int (nI e), .int (nI k)] (putM m r h) = some (some (.long (rGr r e k)), putM m r h) := by
  simp (implicitDefEqProofs := false) (disch := omega) only [ze_239, zr_239_0, zr_239_1, zr_239_2, zr_239_3, zr_239_4, zr_239_5, zr_239_8, zr_239_9, zr_239_10, zr_239_12, zr_239_13, zr_239_14, zr_239_17, zr_239_18, zr_239_21, zr_239_22, zr_239_23, zr_239_24, zr_239_26, zr_239_27, zr_239_28, zr_239_31, zr_239_32, true_or, or_true, true_and, and_true, if_true, if_false, ldA_ref, ldA_null, nl_int, nl_ref, nl_fl, nl_null, c1_int, c1_ref, c1_null, kd_M, Nat.zero_add, Nat.zero_mul, Nat.one_mul, nI_add, nI_leI, nI_ltI, nI_eq, nI_mul, s_of (show rX e (2 + k) < 8271 by unfold rX; omega), s_of (show rX e (14 + k) < 8271 by unfold rX; omega), s_of (show rX e (26 + k) < 8271 by unfold rX; omega), zcall_some, zpush_some, zpush_none, zsum_ref, zsum_int, zsum_long, zsum_nil, zsum_null, Nat.reduceAdd, Nat.reduceLeDiff, if_true, dvJ_30]
  rfl
theorem s_rsumL {n : Nat} (he : e < 3) (hn : n ≤ 12) : ∀ (j k : Nat), k + j = n → rn 238 5 [.ref m, .int (nI e), .int (nI n), .long (rG r e k), .float 0, .int (nI k)] [] (putM m r h) = some (some (.long (rG r e n)), putM m r h) := by
  intro j
  induction j with
  | zero =>
    intro k hk
    rw [Nat.add_zero] at hk
    subst hk
    rw [zl_238_5]
    simp (implicitDefEqProofs := false) (disch := omega) only [ze_238, zr_238_0, zr_238_1, zr_238_2, zr_238_3, zr_238_7, zr_238_8, zr_238_11, zr_238_12, zr_238_13, zr_238_14, zr_238_16, zr_238_19, zr_238_20, zr_238_21, zr_238_24, zr_238_27, zr_238_28, true_or, or_true, true_and, and_true, if_true, if_false, ldA_ref, ldA_null, nl_int, nl_ref, nl_fl, nl_null, c1_int, c1_ref, c1_null, kd_M, Nat.zero_add, Nat.zero_mul, Nat.one_mul, nI_add, nI_leI, nI_ltI, nI_eq, nI_mul, Nat.le_refl]
  | succ j ih =>
    intro k hk
    rw [zl_238_5]
    simp (implicitDefEqProofs := false) (disch := omega) only [ze_238, zr_238_0, zr_238_1, zr_238_2, zr_238_3, zr_238_7, zr_238_8, zr_238_11, zr_238_12, zr_238_13, zr_238_14, zr_238_16, zr_238_19, zr_238_20, zr_238_21, zr_238_24, zr_238_27, zr_238_28, true_or, or_true, true_and, and_true, if_true, if_false, ldA_ref, ldA_null, nl_int, nl_ref, nl_fl, nl_null, c1_int, c1_ref, c1_null, kd_M, Nat.zero_add, Nat.zero_mul, Nat.one_mul, nI_add, nI_leI, nI_ltI, nI_eq, nI_mul, show ¬ n ≤ k from by omega, s_rgross he (show k < 12 by omega), zcall_some, zpush_some, zpush_none, zsum_ref, zsum_int, zsum_long, zsum_nil, zsum_null, Nat.reduceAdd, Nat.reduceLeDiff, if_true]
    exact ih (k + 1) (by omega)
theorem s_rsum {n : Nat} (he : e < 3) (hn : n ≤ 12) : ev 238 [.ref m, .int (nI e), .int (nI n)] (putM m r h) = some (some (.long (rG r e n)), putM m r h) := by
  simp (implicitDefEqProofs := false) (disch := omega) only [ze_238, zr_238_0, zr_238_1, zr_238_2, zr_238_3, zr_238_7, zr_238_8, zr_238_11, zr_238_12, zr_238_13, zr_238_14, zr_238_16, zr_238_19, zr_238_20, zr_238_21, zr_238_24, zr_238_27, zr_238_28, true_or, or_true, true_and, and_true, if_true, if_false, ldA_ref, ldA_null, nl_int, nl_ref, nl_fl, nl_null, c1_int, c1_ref, c1_null]
  exact s_rsumL he hn n 0 (by omega)
def rC (r : Rst) (c : Nat) (x : Int64) : Int64 := rS r (3 + c) * (if rS r (5 + c) < x then rS r (5 + c) else x) * 1000
theorem s_rcontr {c : Nat} (hc : c < 2) (x : Int64) : ev 241 [.ref m, .int (nI c), .long x] (putM m r h) = some (some (.long (rC r c x)), putM m r h) := by
  simp (implicitDefEqProofs := false) (disch := omega) only [ze_241, zr_241_0, zr_241_1, zr_241_4, zr_241_5, zr_241_6, zr_241_7, zr_241_8, zr_241_9, zr_241_10, zr_241_13, zr_241_14, zr_241_15, zr_241_16, zr_241_17, zr_241_20, zr_241_21, zr_241_24, zr_241_25, true_or, or_true, true_and, and_true, if_true, if_false, ldA_ref, ldA_null, nl_int, nl_ref, nl_fl, nl_null, c1_int, c1_ref, c1_null, gf_M0, Nat.zero_add, Nat.zero_mul, Nat.one_mul, nI_add, nI_leI, nI_ltI, nI_eq, nI_mul, lj_M1 (show 3 + c < 8271 by omega), lj_M1 (show 5 + c < 8271 by omega), zcall_some, zpush_some, zpush_none, zsum_ref, zsum_int, zsum_long, zsum_nil, zsum_null, Nat.reduceAdd, Nat.reduceLeDiff, if_true]
  rfl
end
