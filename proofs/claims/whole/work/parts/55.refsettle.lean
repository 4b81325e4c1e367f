/-! THE REFERENCE: settling a month -/
def wSet (r : Rst) (n e mo : Nat) : Nat → Rst
  | 0 => r
  | k + 1 => wAt (wSet r n e mo k) (rX e (38 + 4 * mo + k)) (rDue r n e mo k)
def wOld (r : Rst) (e mo : Nat) : Rst :=
  let r1 := wAt r (rX e (86 + mo)) (rS r (rX e (2 + mo)))
  let r2 := wAt r1 (rX e (98 + mo)) (rS r1 (rX e (14 + mo)))
  let r3 := wAt r2 (rX e (110 + mo)) (rS r2 (rX e (26 + mo)))
  wAt r3 (rX e (122 + mo)) (rS r3 2)
def wSettle (r : Rst) (n e mo : Nat) : Rst := wOld (wSet r n e mo 4) e mo
section
variable {m e n : Nat} {r : Rst} {h : zH}
theorem wSet_fr {mo : Nat} (k : Nat) : rFr (wSet r n e mo k) r e := by
  induction k with
  | zero => exact rFr.rf r e
  | succ k ih => exact (rFr.at (by unfold rX; omega) (Or.inr (by unfold rX; omega))).tr ih
theorem wSet_7 {mo : Nat} (k : Nat) : rS (wSet r n e mo k) 7 = rS r 7 := (wSet_fr k).1 7 (by omega) (by omega)
theorem s_rsettleL {mo : Nat} (hm : 100 ≤ m) (hn : n ≤ 5) (hb : rS r 7 = (nI n).toInt64) (he : e < 3) (hmo : mo < 12) : ∀ (j k : Nat), k + j = 4 → rn 247 2 [.ref m, .int (nI e), .int (nI mo), .int (nI k)] [] (putM m (wSet r n e mo k) h) = some (none, putM m (wSettle r n e mo) h) := by
  have b : ∀ q, q ≤ 122 → rX e (q + mo) < 8271 := fun q hq => by unfold rX; omega
  intro j
  induction j with
  | zero =>
    intro k hk
    rw [Nat.add_zero] at hk
    subst hk
    rw [zl_247_2]
    simp (implicitDefEqProofs := false) (disch := omega) only [ze_247, zr_247_0, zr_247_1, zr_247_3, zr_247_4, zr_247_7, zr_247_8, zr_247_11, zr_247_12, zr_247_14, zr_247_15, zr_247_16, zr_247_17, zr_247_18, zr_247_19, zr_247_20, zr_247_23, zr_247_24, zr_247_25, zr_247_26, zr_247_27, zr_247_30, zr_247_31, zr_247_34, zr_247_37, zr_247_38, zr_247_41, zr_247_42, zr_247_44, zr_247_45, zr_247_46, zr_247_49, zr_247_50, zr_247_51, zr_247_52, zr_247_53, zr_247_54, zr_247_57, zr_247_58, zr_247_59, zr_247_62, zr_247_63, zr_247_65, zr_247_66, zr_247_67, zr_247_70, zr_247_71, zr_247_72, zr_247_74, zr_247_75, zr_247_76, zr_247_79, zr_247_80, zr_247_81, zr_247_84, zr_247_85, zr_247_87, zr_247_88, zr_247_89, zr_247_92, zr_247_93, zr_247_94, zr_247_96, zr_247_97, zr_247_98, zr_247_101, zr_247_102, zr_247_103, zr_247_106, zr_247_107, zr_247_109, zr_247_110, zr_247_111, zr_247_114, zr_247_115, zr_247_118, zr_247_119, zr_247_120, zr_247_121, true_or, or_true, true_and, and_true, if_true, if_false, ldA_ref, ldA_null, nl_int, nl_ref, nl_fl, nl_null, c1_int, c1_ref, c1_null, kd_M, Nat.zero_add, Nat.zero_mul, Nat.one_mul, nI_add, nI_leI, nI_ltI, nI_eq, nI_mul, gf_M0, Nat.le_refl, s_at, s_of (b 2 (by omega)), s_of (b 14 (by omega)), s_of (b 26 (by omega)), sj_S hm (b 86 (by omega)), sj_S hm (b 98 (by omega)), sj_S hm (b 110 (by omega)), sj_S hm (b 122 (by omega)), lj_M1 (show 2 < 8271 by omega), zcall_some, zpush_some, zpush_none, zsum_ref, zsum_int, zsum_long, zsum_nil, zsum_null, Nat.reduceAdd, Nat.reduceLeDiff, if_true]
    rfl
  | succ j ih =>
    intro k hk
    have ih2 := ih (k + 1) (by omega)
    rw [wSet] at ih2
    have b1 : rX e (38 + 4 * mo + k) < 8271 := by unfold rX; omega
    have hd : rDue (wSet r n e mo k) n e mo k = rDue r n e mo k := rDue_fr (wSet_fr k) hn hmo k
    rw [zl_247_2]
    simp (implicitDefEqProofs := false) (disch := omega) only [ze_247, zr_247_0, zr_247_1, zr_247_3, zr_247_4, zr_247_7, zr_247_8, zr_247_11, zr_247_12, zr_247_14, zr_247_15, zr_247_16, zr_247_17, zr_247_18, zr_247_19, zr_247_20, zr_247_23, zr_247_24, zr_247_25, zr_247_26, zr_247_27, zr_247_30, zr_247_31, zr_247_34, zr_247_37, zr_247_38, zr_247_41, zr_247_42, zr_247_44, zr_247_45, zr_247_46, zr_247_49, zr_247_50, zr_247_51, zr_247_52, zr_247_53, zr_247_54, zr_247_57, zr_247_58, zr_247_59, zr_247_62, zr_247_63, zr_247_65, zr_247_66, zr_247_67, zr_247_70, zr_247_71, zr_247_72, zr_247_74, zr_247_75, zr_247_76, zr_247_79, zr_247_80, zr_247_81, zr_247_84, zr_247_85, zr_247_87, zr_247_88, zr_247_89, zr_247_92, zr_247_93, zr_247_94, zr_247_96, zr_247_97, zr_247_98, zr_247_101, zr_247_102, zr_247_103, zr_247_106, zr_247_107, zr_247_109, zr_247_110, zr_247_111, zr_247_114, zr_247_115, zr_247_118, zr_247_119, zr_247_120, zr_247_121, true_or, or_true, true_and, and_true, if_true, if_false, ldA_ref, ldA_null, nl_int, nl_ref, nl_fl, nl_null, c1_int, c1_ref, c1_null, kd_M, Nat.zero_add, Nat.zero_mul, Nat.one_mul, nI_add, nI_leI, nI_ltI, nI_eq, nI_mul, gf_M0, show ¬ 4 ≤ k from by omega, s_at, s_rdue hn ((wSet_7 k).trans hb) he hmo (show k < 5 by omega), hd, sj_S hm b1, zcall_some, zpush_some, zpush_none, zsum_ref, zsum_int, zsum_long, zsum_nil, zsum_null, Nat.reduceAdd, Nat.reduceLeDiff, if_true]
    exact ih2
theorem s_rsettle {mo : Nat} (hm : 100 ≤ m) (hn : n ≤ 5) (hb : rS r 7 = (nI n).toInt64) (he : e < 3) (hmo : mo < 12) : ev 247 [.ref m, .int (nI e), .int (nI mo)] (putM m r h) = some (none, putM m (wSettle r n e mo) h) := by
  simp (implicitDefEqProofs := false) (disch := omega) only [ze_247, zr_247_0, zr_247_1, zr_247_3, zr_247_4, zr_247_7, zr_247_8, zr_247_11, zr_247_12, zr_247_14, zr_247_15, zr_247_16, zr_247_17, zr_247_18, zr_247_19, zr_247_20, zr_247_23, zr_247_24, zr_247_25, zr_247_26, zr_247_27, zr_247_30, zr_247_31, zr_247_34, zr_247_37, zr_247_38, zr_247_41, zr_247_42, zr_247_44, zr_247_45, zr_247_46, zr_247_49, zr_247_50, zr_247_51, zr_247_52, zr_247_53, zr_247_54, zr_247_57, zr_247_58, zr_247_59, zr_247_62, zr_247_63, zr_247_65, zr_247_66, zr_247_67, zr_247_70, zr_247_71, zr_247_72, zr_247_74, zr_247_75, zr_247_76, zr_247_79, zr_247_80, zr_247_81, zr_247_84, zr_247_85, zr_247_87, zr_247_88, zr_247_89, zr_247_92, zr_247_93, zr_247_94, zr_247_96, zr_247_97, zr_247_98, zr_247_101, zr_247_102, zr_247_103, zr_247_106, zr_247_107, zr_247_109, zr_247_110, zr_247_111, zr_247_114, zr_247_115, zr_247_118, zr_247_119, zr_247_120, zr_247_121, true_or, or_true, true_and, and_true, if_true, if_false, ldA_ref, ldA_null, nl_int, nl_ref, nl_fl, nl_null, c1_int, c1_ref, c1_null]
  exact s_rsettleL hm hn hb he hmo 4 0 (by omega)
end
