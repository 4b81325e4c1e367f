/-! THE REFERENCE: adding a line, the sum of the lines -/
section
variable {m e n : Nat} {r : Rst} {h : zH}
theorem lN1 (n : Nat) : (nI n).toInt64 + 1 = (nI n).toInt64 + 1 := rfl
def wLine (r : Rst) (e mo c : Nat) (k i re : Int32) (x : Int64) : Rst := wAt (wAt (wAt (wAt (wAt r (rLp e mo c) k.toInt64) (rLp e mo c + 1) i.toInt64) (rLp e mo c + 2) re.toInt64) (rLp e mo c + 3) x) (rX e (147 + mo)) (rS (wAt (wAt (wAt (wAt r (rLp e mo c) k.toInt64) (rLp e mo c + 1) i.toInt64) (rLp e mo c + 2) re.toInt64) (rLp e mo c + 3) x) (rX e (147 + mo)) + 1)
theorem s_raddLine {mo c : Nat} (hm : 100 ≤ m) (he : e < 3) (hmo : mo < 12) (hc : c < 54) (hb : rS r (rX e (147 + mo)) = (nI c).toInt64) (k i re : Int32) (x : Int64) : ev 243 [.ref m, .int (nI e), .int (nI mo), .int k, .int i, .int re, .long x] (putM m r h) = some (none, putM m (wLine r e mo c k i re x) h) := by
  have b1 : rX e (147 + mo) < 8271 := by unfold rX; omega
  have b2 : rLp e mo c + 4 ≤ 8271 := by unfold rLp rX; omega
  have e1 : (nI c).toInt64.toInt32 = nI c := Int32.toInt32_toInt64 _
  simp (implicitDefEqProofs := false) (disch := omega) only [ze_243, zr_243_0, zr_243_1, zr_243_2, zr_243_5, zr_243_6, zr_243_7, zr_243_10, zr_243_11, zr_243_13, zr_243_14, zr_243_15, zr_243_17, zr_243_20, zr_243_22, zr_243_23, zr_243_26, zr_243_28, zr_243_29, zr_243_30, zr_243_31, zr_243_32, zr_243_35, zr_243_37, zr_243_38, zr_243_39, zr_243_41, zr_243_42, zr_243_43, zr_243_44, zr_243_47, zr_243_49, zr_243_50, zr_243_51, zr_243_53, zr_243_54, zr_243_55, zr_243_56, zr_243_59, zr_243_61, zr_243_62, zr_243_63, zr_243_65, zr_243_66, zr_243_67, zr_243_70, zr_243_71, zr_243_74, zr_243_75, zr_243_76, zr_243_79, zr_243_80, zr_243_81, zr_243_82, zr_243_83, zr_243_84, true_or, or_true, true_and, and_true, if_true, if_false, ldA_ref, ldA_null, nl_int, nl_ref, nl_fl, nl_null, c1_int, c1_ref, c1_null, kd_M, Nat.zero_add, Nat.zero_mul, Nat.one_mul, nI_add, nI_leI, nI_ltI, nI_eq, nI_mul, gf_M0, s_of b1, hb, e1, s_rlineAt, s_at, sj_S hm (show rLp e mo c < 8271 by omega), sj_S hm (show rLp e mo c + 1 < 8271 by omega), sj_S hm (show rLp e mo c + 2 < 8271 by omega), sj_S hm (show rLp e mo c + 3 < 8271 by omega), sj_S hm b1, lj_M1 b1, c1_int, c1_ref, zcall_some, zpush_some, zpush_none, zsum_ref, zsum_int, zsum_long, zsum_nil, zsum_null, Nat.reduceAdd, Nat.reduceLeDiff, if_true]
  rfl
end
