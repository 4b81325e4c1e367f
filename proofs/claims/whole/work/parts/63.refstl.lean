/-! THE REFERENCE: addDueLines, the settling -/
section
variable {m e n mo : Nat} {r : Rst} {h : zH}
def wStl (r : Rst) (n e : Nat) : Nat → Rst
  | 0 => r
  | k + 1 => wSettle (wStl r n e k) n e k
theorem wOld_fr (r : Rst) (e mo : Nat) : rFr (wOld r e mo) r e := by
  unfold wOld
  exact (rFr.at (by unfold rX; omega) (Or.inr (by unfold rX; omega))).tr ((rFr.at (by unfold rX; omega) (Or.inr (by unfold rX; omega))).tr ((rFr.at (by unfold rX; omega) (Or.inr (by unfold rX; omega))).tr (rFr.at (by unfold rX; omega) (Or.inr (by unfold rX; omega)))))
theorem wSettle_fr (r : Rst) (n e mo : Nat) : rFr (wSettle r n e mo) r e := (wOld_fr _ e mo).tr (wSet_fr 4)
theorem wStl_fr (r : Rst) (n e k : Nat) : rFr (wStl r n e k) r e := by
  induction k with
  | zero => exact rFr.rf r e
  | succ k ih => exact (wSettle_fr _ n e k).tr ih
theorem s_rstlL (hm : 100 ≤ m) (hn : n ≤ 5) (hb : rS r 7 = (nI n).toInt64) (he : e < 3) (hmo : mo < 12) (v4 v5 v6 : Value) : ∀ (j k : Nat), k + j = mo + 1 → rn 230 127 [.ref m, .int (nI e), .int (nI mo), .int (nI k), v4, v5, v6] [] (putM m (wStl r n e k) h) = some (none, putM m (wStl r n e (mo + 1)) h) := by
  intro j
  induction j with
  | zero =>
    intro k hk
    rw [Nat.add_zero] at hk
    subst hk
    rw [zl_230_127]
    simp (implicitDefEqProofs := false) (disch := omega) only [ze_230, zr_230_0, zr_230_1, zr_230_3, zr_230_4, zr_230_7, zr_230_8, zr_230_9, zr_230_10, zr_230_11, zr_230_14, zr_230_16, zr_230_17, zr_230_18, zr_230_19, zr_230_20, zr_230_21, zr_230_22, zr_230_23, zr_230_26, zr_230_28, zr_230_31, zr_230_33, zr_230_34, zr_230_37, zr_230_40, zr_230_43, zr_230_44, zr_230_46, zr_230_47, zr_230_50, zr_230_51, zr_230_55, zr_230_56, zr_230_59, zr_230_60, zr_230_61, zr_230_62, zr_230_64, zr_230_67, zr_230_68, zr_230_69, zr_230_70, zr_230_72, zr_230_75, zr_230_76, zr_230_78, zr_230_80, zr_230_81, zr_230_82, zr_230_85, zr_230_86, zr_230_87, zr_230_88, zr_230_90, zr_230_91, zr_230_92, zr_230_93, zr_230_94, zr_230_97, zr_230_99, zr_230_102, zr_230_104, zr_230_107, zr_230_109, zr_230_110, zr_230_113, zr_230_116, zr_230_119, zr_230_122, zr_230_125, zr_230_126, zr_230_128, zr_230_129, zr_230_132, zr_230_133, zr_230_134, zr_230_135, zr_230_138, zr_230_141, zr_230_144, true_or, or_true, true_and, and_true, if_true, if_false, ldA_ref, ldA_null, nl_int, nl_ref, nl_fl, nl_null, c1_int, c1_ref, c1_null, Nat.zero_add, Nat.zero_mul, Nat.one_mul, nI_add, nI_leI, nI_ltI, nI_eq, nI_mul, show (mo < mo + 1) = True from by simp, show ¬ mo + 1 ≤ mo from by omega]
  | succ j ih =>
    intro k hk
    have e1 := s_rsettle (r := wStl r n e k) (h := h) (mo := k) hm hn (((wStl_fr r n e k).1 7 (by omega) (by omega)).trans hb) he (show k < 12 by omega)
    rw [zl_230_127]
    simp (implicitDefEqProofs := false) (disch := omega) only [ze_230, zr_230_0, zr_230_1, zr_230_3, zr_230_4, zr_230_7, zr_230_8, zr_230_9, zr_230_10, zr_230_11, zr_230_14, zr_230_16, zr_230_17, zr_230_18, zr_230_19, zr_230_20, zr_230_21, zr_230_22, zr_230_23, zr_230_26, zr_230_28, zr_230_31, zr_230_33, zr_230_34, zr_230_37, zr_230_40, zr_230_43, zr_230_44, zr_230_46, zr_230_47, zr_230_50, zr_230_51, zr_230_55, zr_230_56, zr_230_59, zr_230_60, zr_230_61, zr_230_62, zr_230_64, zr_230_67, zr_230_68, zr_230_69, zr_230_70, zr_230_72, zr_230_75, zr_230_76, zr_230_78, zr_230_80, zr_230_81, zr_230_82, zr_230_85, zr_230_86, zr_230_87, zr_230_88, zr_230_90, zr_230_91, zr_230_92, zr_230_93, zr_230_94, zr_230_97, zr_230_99, zr_230_102, zr_230_104, zr_230_107, zr_230_109, zr_230_110, zr_230_113, zr_230_116, zr_230_119, zr_230_122, zr_230_125, zr_230_126, zr_230_128, zr_230_129, zr_230_132, zr_230_133, zr_230_134, zr_230_135, zr_230_138, zr_230_141, zr_230_144, true_or, or_true, true_and, and_true, if_true, if_false, ldA_ref, ldA_null, nl_int, nl_ref, nl_fl, nl_null, c1_int, c1_ref, c1_null, kd_M, Nat.zero_add, Nat.zero_mul, Nat.one_mul, nI_add, nI_leI, nI_ltI, nI_eq, nI_mul, show ¬ mo < k from by omega, show (k ≤ mo) = True from by simp; omega, e1, zcall_some, zpush_some, zpush_none, zsum_ref, zsum_int, zsum_long, zsum_nil, zsum_null, Nat.reduceAdd, Nat.reduceLeDiff, if_true]
    exact ih (k + 1) (by omega)
end
