/-! THE REFERENCE: adding a line, the sum of the lines -/
section
variable {m e n : Nat} {r : Rst} {h : zH}
theorem lN1 (n : Nat) : (nI n).toInt64 + 1 = (nI n).toInt64 + 1 := rfl
def wLine (r : Rst) (e mo c : Nat) (k i re : Int32) (x : Int64) : Rst := wAt (wAt (wAt (wAt (wAt r (rLp e mo c) k.toInt64) (rLp e mo c + 1) i.toInt64) (rLp e mo c + 2) re.toInt64) (rLp e mo c + 3) x) (rX e (147 + mo)) (rS (wAt (wAt (wAt (wAt r (rLp e mo c) k.toInt64) (rLp e mo c + 1) i.toInt64) (rLp e mo c + 2) re.toInt64) (rLp e mo c + 3) x) (rX e (147 + mo)) + 1)
theorem s_raddLine {mo c : Nat} (hm : 100 ≤ m) (he : e < 3) (hmo : mo < 12) (hc : c < 54) (hb : rS r (rX e (147 + mo)) = (nI c).toInt64) (k i re : Int32) (x : Int64) : ev 237 [.ref m, .int (nI e), .int (nI mo), .int k, .int i, .int re, .long x] (putM m r h) = some (none, putM m (wLine r e mo c k i re x) h) := by
  have b1 : rX e (147 + mo) < 8271 := by unfold rX; omega
  have b2 : rLp e mo c + 4 ≤ 8271 := by unfold rLp rX; omega
  have e1 : (nI c).toInt64.toInt32 = nI c := Int32.toInt32_toInt64 _
  simp (implicitDefEqProofs := false) (disch := omega) only [ze_237, zr_237_0, zr_237_1, zr_237_2, zr_237_5, zr_237_6, zr_237_7, zr_237_10, zr_237_11, zr_237_13, zr_237_14, zr_237_15, zr_237_17, zr_237_20, zr_237_22, zr_237_23, zr_237_26, zr_237_28, zr_237_29, zr_237_30, zr_237_31, zr_237_32, zr_237_35, zr_237_37, zr_237_38, zr_237_39, zr_237_41, zr_237_42, zr_237_43, zr_237_44, zr_237_47, zr_237_49, zr_237_50, zr_237_51, zr_237_53, zr_237_54, zr_237_55, zr_237_56, zr_237_59, zr_237_61, zr_237_62, zr_237_63, zr_237_65, zr_237_66, zr_237_67, zr_237_70, zr_237_71, zr_237_74, zr_237_75, zr_237_76, zr_237_79, zr_237_80, zr_237_81, zr_237_82, zr_237_83, zr_237_84, true_or, or_true, true_and, and_true, if_true, if_false, ldA_ref, ldA_null, nl_int, nl_ref, nl_fl, nl_null, c1_int, c1_ref, c1_null, kd_M, Nat.zero_add, Nat.zero_mul, Nat.one_mul, nI_add, nI_leI, nI_ltI, nI_eq, nI_mul, gf_M0, s_of b1, hb, e1, s_rlineAt, s_at, sj_S hm (show rLp e mo c < 8271 by omega), sj_S hm (show rLp e mo c + 1 < 8271 by omega), sj_S hm (show rLp e mo c + 2 < 8271 by omega), sj_S hm (show rLp e mo c + 3 < 8271 by omega), sj_S hm b1, lj_M1 b1, c1_int, c1_ref, zcall_some, zpush_some, zpush_none, zsum_ref, zsum_int, zsum_long, zsum_nil, zsum_null, Nat.reduceAdd, Nat.reduceLeDiff, if_true]
  rfl
end
