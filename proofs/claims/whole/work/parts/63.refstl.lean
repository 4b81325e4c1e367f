/-! THE REFERENCE: addDueLines, the settling -/
section
variable {m e n mo : Nat} {r : Rst} {h : zH}
def wStl (r : Rst) (n e : Nat) : Nat → Rst
  | 0 => r
  | k + 1 => wSettle (wStl r n e k) n e k
theorem wOld_fr (r : Rst) (e mo : Nat) : rFr (wOld r e mo) r e := by
  unfold wOld
  exact (rFr.at (by unfold rX; omega) (Or.inr (by unfold rX; omega))).tr ((rFr.at (by unfold rX; omega) (Or.inr (by unfold rX; omega))).tr ((rFr.at (by unfold rX; omega) (Or.inr (by unfold rX; omega))).tr (rFr.at (by unfold rX; omega) (Or.inr (by unfold rX; omega)))))
theorem wSettle_fr (r : Rst) (n e mo : Nat) : rFr (wSettle r n e mo) r e := (wOld_fr _ e mo).tr (wSet_fr 4)
theorem wStl_fr (r : Rst) (n e k : Nat) : rFr (wStl r n e k) r e := by
  induction k with
  | zero => exact rFr.rf r e
  | succ k ih => exact (wSettle_fr _ n e k).tr ih
theorem s_rstlL (hm : 100 ≤ m) (hn : n ≤ 5) (hb : rS r 7 = (nI n).toInt64) (he : e < 3) (hmo : mo < 12) (v4 v5 v6 : Value) : ∀ (j k : Nat), k + j = mo + 1 → rn 236 127 [.ref m, .int (nI e), .int (nI mo), .int (nI k), v4, v5, v6] [] (putM m (wStl r n e k) h) = some (none, putM m (wStl r n e (mo + 1)) h) := by
  intro j
  induction j with
  | zero =>
    intro k hk
    rw [Nat.add_zero] at hk
    subst hk
    rw [zl_236_127]
    simp (implicitDefEqProofs := false) (disch := omega) only [ze_236, zr_236_0, zr_236_1, zr_236_3, zr_236_4, zr_236_7, zr_236_8, zr_236_9, zr_236_10, zr_236_11, zr_236_14, zr_236_16, zr_236_17, zr_236_18, zr_236_19, zr_236_20, zr_236_21, zr_236_22, zr_236_23, zr_236_26, zr_236_28, zr_236_31, zr_236_33, zr_236_34, zr_236_37, zr_236_40, zr_236_43, zr_236_44, zr_236_46, zr_236_47, zr_236_50, zr_236_51, zr_236_55, zr_236_56, zr_236_59, zr_236_60, zr_236_61, zr_236_62, zr_236_64, zr_236_67, zr_236_68, zr_236_69, zr_236_70, zr_236_72, zr_236_75, zr_236_76, zr_236_78, zr_236_80, zr_236_81, zr_236_82, zr_236_85, zr_236_86, zr_236_87, zr_236_88, zr_236_90, zr_236_91, zr_236_92, zr_236_93, zr_236_94, zr_236_97, zr_236_99, zr_236_102, zr_236_104, zr_236_107, zr_236_109, zr_236_110, zr_236_113, zr_236_116, zr_236_119, zr_236_122, zr_236_125, zr_236_126, zr_236_128, zr_236_129, zr_236_132, zr_236_133, zr_236_134, zr_236_135, zr_236_138, zr_236_141, zr_236_144, true_or, or_true, true_and, and_true, if_true, if_false, ldA_ref, ldA_null, nl_int, nl_ref, nl_fl, nl_null, c1_int, c1_ref, c1_null, Nat.zero_add, Nat.zero_mul, Nat.one_mul, nI_add, nI_leI, nI_ltI, nI_eq, nI_mul, show (mo < mo + 1) = True from by simp, show ¬ mo + 1 ≤ mo from by omega]
  | succ j ih =>
    intro k hk
    have e1 := s_rsettle (r := wStl r n e k) (h := h) (mo := k) hm hn (((wStl_fr r n e k).1 7 (by omega) (by omega)).trans hb) he (show k < 12 by omega)
    rw [zl_236_127]
    simp (implicitDefEqProofs := false) (disch := omega) only [ze_236, zr_236_0, zr_236_1, zr_236_3, zr_236_4, zr_236_7, zr_236_8, zr_236_9, zr_236_10, zr_236_11, zr_236_14, zr_236_16, zr_236_17, zr_236_18, zr_236_19, zr_236_20, zr_236_21, zr_236_22, zr_236_23, zr_236_26, zr_236_28, zr_236_31, zr_236_33, zr_236_34, zr_236_37, zr_236_40, zr_236_43, zr_236_44, zr_236_46, zr_236_47, zr_236_50, zr_236_51, zr_236_55, zr_236_56, zr_236_59, zr_236_60, zr_236_61, zr_236_62, zr_236_64, zr_236_67, zr_236_68, zr_236_69, zr_236_70, zr_236_72, zr_236_75, zr_236_76, zr_236_78, zr_236_80, zr_236_81, zr_236_82, zr_236_85, zr_236_86, zr_236_87, zr_236_88, zr_236_90, zr_236_91, zr_236_92, zr_236_93, zr_236_94, zr_236_97, zr_236_99, zr_236_102, zr_236_104, zr_236_107, zr_236_109, zr_236_110, zr_236_113, zr_236_116, zr_236_119, zr_236_122, zr_236_125, zr_236_126, zr_236_128, zr_236_129, zr_236_132, zr_236_133, zr_236_134, zr_236_135, zr_236_138, zr_236_141, zr_236_144, true_or, or_true, true_and, and_true, if_true, if_false, ldA_ref, ldA_null, nl_int, nl_ref, nl_fl, nl_null, c1_int, c1_ref, c1_null, kd_M, Nat.zero_add, Nat.zero_mul, Nat.one_mul, nI_add, nI_leI, nI_ltI, nI_eq, nI_mul, show ¬ mo < k from by omega, show (k ≤ mo) = True from by simp; omega, e1, zcall_some, zpush_some, zpush_none, zsum_ref, zsum_int, zsum_long, zsum_nil, zsum_null, Nat.reduceAdd, Nat.reduceLeDiff, if_true]
    exact ih (k + 1) (by omega)
end
