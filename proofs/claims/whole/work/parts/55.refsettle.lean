/-! THE REFERENCE: settling a month -/
def wSet (r : Rst) (n e mo : Nat) : Nat → Rst
  | 0 => r
  | k + 1 => wAt (wSet r n e mo k) (rX e (38 + 4 * mo + k)) (rDue r n e mo k)
def wOld (r : Rst) (e mo : Nat) : Rst :=
  let r1 := wAt r (rX e (86 + mo)) (rS r (rX e (2 + mo)))
  let r2 := wAt r1 (rX e (98 + mo)) (rS r1 (rX e (14 + mo)))
  let r3 := wAt r2 (rX e (110 + mo)) (rS r2 (rX e (26 + mo)))
  wAt r3 (rX e (122 + mo)) (rS r3 2)
def wSettle (r : Rst) (n e mo : Nat) : Rst := wOld (wSet r n e mo 4) e mo
section
variable {m e n : Nat} {r : Rst} {h : zH}
theorem wSet_fr {mo : Nat} (k : Nat) : rFr (wSet r n e mo k) r e := by
  induction k with
  | zero => exact rFr.rf r e
  | succ k ih => exact (rFr.at (by unfold rX; omega) (Or.inr (by unfold rX; omega))).tr ih
theorem wSet_7 {mo : Nat} (k : Nat) : rS (wSet r n e mo k) 7 = rS r 7 := (wSet_fr k).1 7 (by omega) (by omega)
theorem s_rsettleL {mo : Nat} (hm : 100 ≤ m) (hn : n ≤ 5) (hb : rS r 7 = (nI n).toInt64) (he : e < 3) (hmo : mo < 12) : ∀ (j k : Nat), k + j = 4 → rn 241 2 [.ref m, .int (nI e), .int (nI mo), .int (nI k)] [] (putM m (wSet r n e mo k) h) = some (none, putM m (wSettle r n e mo) h) := by
  have b : ∀ q, q ≤ 122 → rX e (q + mo) < 8271 := fun q hq => by unfold rX; omega
  intro j
  induction j with
  | zero =>
    intro k hk
    rw [Nat.add_zero] at hk
    subst hk
    rw [zl_241_2]
    simp (implicitDefEqProofs := false) (disch := omega) only [ze_241, zr_241_0, zr_241_1, zr_241_3, zr_241_4, zr_241_7, zr_241_8, zr_241_11, zr_241_12, zr_241_14, zr_241_15, zr_241_16, zr_241_17, zr_241_18, zr_241_19, zr_241_20, zr_241_23, zr_241_24, zr_241_25, zr_241_26, zr_241_27, zr_241_30, zr_241_31, zr_241_34, zr_241_37, zr_241_38, zr_241_41, zr_241_42, zr_241_44, zr_241_45, zr_241_46, zr_241_49, zr_241_50, zr_241_51, zr_241_52, zr_241_53, zr_241_54, zr_241_57, zr_241_58, zr_241_59, zr_241_62, zr_241_63, zr_241_65, zr_241_66, zr_241_67, zr_241_70, zr_241_71, zr_241_72, zr_241_74, zr_241_75, zr_241_76, zr_241_79, zr_241_80, zr_241_81, zr_241_84, zr_241_85, zr_241_87, zr_241_88, zr_241_89, zr_241_92, zr_241_93, zr_241_94, zr_241_96, zr_241_97, zr_241_98, zr_241_101, zr_241_102, zr_241_103, zr_241_106, zr_241_107, zr_241_109, zr_241_110, zr_241_111, zr_241_114, zr_241_115, zr_241_118, zr_241_119, zr_241_120, zr_241_121, true_or, or_true, true_and, and_true, if_true, if_false, ldA_ref, ldA_null, nl_int, nl_ref, nl_fl, nl_null, c1_int, c1_ref, c1_null, kd_M, Nat.zero_add, Nat.zero_mul, Nat.one_mul, nI_add, nI_leI, nI_ltI, nI_eq, nI_mul, gf_M0, Nat.le_refl, s_at, s_of (b 2 (by omega)), s_of (b 14 (by omega)), s_of (b 26 (by omega)), sj_S hm (b 86 (by omega)), sj_S hm (b 98 (by omega)), sj_S hm (b 110 (by omega)), sj_S hm (b 122 (by omega)), lj_M1 (show 2 < 8271 by omega), zcall_some, zpush_some, zpush_none, zsum_ref, zsum_int, zsum_long, zsum_nil, zsum_null, Nat.reduceAdd, Nat.reduceLeDiff, if_true]
    rfl
  | succ j ih =>
    intro k hk
    have ih2 := ih (k + 1) (by omega)
    rw [wSet] at ih2
    have b1 : rX e (38 + 4 * mo + k) < 8271 := by unfold rX; omega
    have hd : rDue (wSet r n e mo k) n e mo k = rDue r n e mo k := rDue_fr (wSet_fr k) hn hmo k
    rw [zl_241_2]
    simp (implicitDefEqProofs := false) (disch := omega) only [ze_241, zr_241_0, zr_241_1, zr_241_3, zr_241_4, zr_241_7, zr_241_8, zr_241_11, zr_241_12, zr_241_14, zr_241_15, zr_241_16, zr_241_17, zr_241_18, zr_241_19, zr_241_20, zr_241_23, zr_241_24, zr_241_25, zr_241_26, zr_241_27, zr_241_30, zr_241_31, zr_241_34, zr_241_37, zr_241_38, zr_241_41, zr_241_42, zr_241_44, zr_241_45, zr_241_46, zr_241_49, zr_241_50, zr_241_51, zr_241_52, zr_241_53, zr_241_54, zr_241_57, zr_241_58, zr_241_59, zr_241_62, zr_241_63, zr_241_65, zr_241_66, zr_241_67, zr_241_70, zr_241_71, zr_241_72, zr_241_74, zr_241_75, zr_241_76, zr_241_79, zr_241_80, zr_241_81, zr_241_84, zr_241_85, zr_241_87, zr_241_88, zr_241_89, zr_241_92, zr_241_93, zr_241_94, zr_241_96, zr_241_97, zr_241_98, zr_241_101, zr_241_102, zr_241_103, zr_241_106, zr_241_107, zr_241_109, zr_241_110, zr_241_111, zr_241_114, zr_241_115, zr_241_118, zr_241_119, zr_241_120, zr_241_121, true_or, or_true, true_and, and_true, if_true, if_false, ldA_ref, ldA_null, nl_int, nl_ref, nl_fl, nl_null, c1_int, c1_ref, c1_null, kd_M, Nat.zero_add, Nat.zero_mul, Nat.one_mul, nI_add, nI_leI, nI_ltI, nI_eq, nI_mul, gf_M0, show ¬ 4 ≤ k from by omega, s_at, s_rdue hn ((wSet_7 k).trans hb) he hmo (show k < 5 by omega), hd, sj_S hm b1, zcall_some, zpush_some, zpush_none, zsum_ref, zsum_int, zsum_long, zsum_nil, zsum_null, Nat.reduceAdd, Nat.reduceLeDiff, if_true]
    exact ih2
theorem s_rsettle {mo : Nat} (hm : 100 ≤ m) (hn : n ≤ 5) (hb : rS r 7 = (nI n).toInt64) (he : e < 3) (hmo : mo < 12) : ev 241 [.ref m, .int (nI e), .int (nI mo)] (putM m r h) = some (none, putM m (wSettle r n e mo) h) := by
  simp (implicitDefEqProofs := false) (disch := omega) only [ze_241, zr_241_0, zr_241_1, zr_241_3, zr_241_4, zr_241_7, zr_241_8, zr_241_11, zr_241_12, zr_241_14, zr_241_15, zr_241_16, zr_241_17, zr_241_18, zr_241_19, zr_241_20, zr_241_23, zr_241_24, zr_241_25, zr_241_26, zr_241_27, zr_241_30, zr_241_31, zr_241_34, zr_241_37, zr_241_38, zr_241_41, zr_241_42, zr_241_44, zr_241_45, zr_241_46, zr_241_49, zr_241_50, zr_241_51, zr_241_52, zr_241_53, zr_241_54, zr_241_57, zr_241_58, zr_241_59, zr_241_62, zr_241_63, zr_241_65, zr_241_66, zr_241_67, zr_241_70, zr_241_71, zr_241_72, zr_241_74, zr_241_75, zr_241_76, zr_241_79, zr_241_80, zr_241_81, zr_241_84, zr_241_85, zr_241_87, zr_241_88, zr_241_89, zr_241_92, zr_241_93, zr_241_94, zr_241_96, zr_241_97, zr_241_98, zr_241_101, zr_241_102, zr_241_103, zr_241_106, zr_241_107, zr_241_109, zr_241_110, zr_241_111, zr_241_114, zr_241_115, zr_241_118, zr_241_119, zr_241_120, zr_241_121, true_or, or_true, true_and, and_true, if_true, if_false, ldA_ref, ldA_null, nl_int, nl_ref, nl_fl, nl_null, c1_int, c1_ref, c1_null]
  exact s_rsettleL hm hn hb he hmo 4 0 (by omega)
end
