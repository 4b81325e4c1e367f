/-! THE REFERENCE: corrections of an earlier month -/
section
variable {m e n mo m2 : Nat} {r : Rst} {h : zH} {l : List Ln}
theorem rSet_out {r1 : Rst} (o : rOut r1 r e mo) (hmo : mo < 12) (hm2 : m2 < 12) {k : Nat} (hk : k < 5) : rSet r1 e m2 k = rSet r e m2 k := by
  have key : ∀ i, i < 4 → rS r1 (rX e (38 + 4 * m2) + i) = rS r (rX e (38 + 4 * m2) + i) := fun i hi => by
    have := o.num hmo (w := 38 + 4 * m2 + i) (by omega)
    rw [show rX e (38 + 4 * m2 + i) = rX e (38 + 4 * m2) + i by unfold rX; omega] at this
    exact this
  unfold rSet
  by_cases h4 : k < 4
  · rw [if_pos h4, if_pos h4, key k h4]
  · have k0 := key 0 (by omega)
    rw [Nat.add_zero] at k0
    rw [if_neg h4, if_neg h4, k0, key 1 (by omega), key 2 (by omega), key 3 (by omega)]
theorem rReason_out {r1 : Rst} (o : rOut r1 r e mo) (hmo : mo < 12) (hm2 : m2 < 12) : rReason r1 e m2 = rReason r e m2 := by
  unfold rReason
  rw [o.num hmo (w := 2 + m2) (by omega), o.num hmo (w := 86 + m2) (by omega), o.num hmo (w := 14 + m2) (by omega), o.num hmo (w := 98 + m2) (by omega), o.num hmo (w := 26 + m2) (by omega), o.num hmo (w := 110 + m2) (by omega), o.num hmo (w := 122 + m2) (by omega), o.low (q := 2) (by omega)]
theorem s_rcorL {D : Nat → Int64} {w : tyW} {re : Int32} (hm : 100 ≤ m) (hn : n ≤ 5) (hb : rS r 7 = (nI n).toInt64) (he : e < 3) (hmo : mo < 12) (hm2 : m2 < mo) (hD : ∀ k, k < 4 → rDue r n e m2 k = D (k * 12 + m2)) (hA : ∀ k, k < 4 → rSet r e m2 k = gW_am w (k * 12 + m2)) (hr : rReason r e m2 = re) (hl : l.length ≤ 50) : ∀ (j k : Nat) (r1 : Rst) (v5 v6 : Value), k + j = 4 → rOut r1 r e mo → rLines r1 e mo (l ++ pCor w D m2 re k) → ∃ (r2 : Rst) (w4 w5 w6 : Value), rn 230 53 [.ref m, .int (nI e), .int (nI mo), .int (nI m2), .int (nI k), v5, v6] [] (putM m r1 h) = rn 230 45 [.ref m, .int (nI e), .int (nI mo), .int (nI (m2 + 1)), w4, w5, w6] [] (putM m r2 h) ∧ rOut r2 r e mo ∧ rLines r2 e mo (l ++ pCor w D m2 re 4) := by
  intro j
  induction j with
  | zero =>
    intro k r1 v5 v6 hk ho hL
    rw [Nat.add_zero] at hk
    subst hk
    refine ⟨r1, .int (nI 4), v5, v6, ?_, ho, hL⟩
    rw [zl_230_53, zr_230_55, zr_230_56, if_pos (by decide)]
    simp (implicitDefEqProofs := false) (disch := omega) only [zr_230_119, zr_230_122, true_or, or_true, true_and, and_true, if_true, if_false, ldA_ref, ldA_null, nl_int, nl_ref, nl_fl, nl_null, c1_int, c1_ref, c1_null, Nat.zero_add, Nat.zero_mul, Nat.one_mul, nI_add, nI_leI, nI_ltI, nI_eq, nI_mul]
  | succ j ih =>
    intro k r1 v5 v6 hk ho hL
    have hd : rDue r1 n e m2 k = D (k * 12 + m2) := (rDue_fr (ho.fr hmo) hn (by omega) k).trans (hD k (by omega))
    have hs : rSet r1 e m2 k = gW_am w (k * 12 + m2) := (rSet_out ho hmo (by omega) (by omega)).trans (hA k (by omega))
    have hb1 : rS r1 7 = (nI n).toInt64 := (ho.low (by omega)).trans hb
    have hr1 : rReason r1 e m2 = re := (rReason_out ho hmo (by omega)).trans hr
    have hlen : (l ++ pCor w D m2 re k).length < 54 := by
      have := pCor_len w D m2 re k
      rw [List.length_append]; omega
    by_cases h0 : pDiff w D m2 k = 0
    · obtain ⟨r3, w4, w5, w6, e2, ho3, hL3⟩ := ih (k + 1) r1 (.long (pDiff w D m2 k)) (.float 0) (by omega) ho (by rw [pCor, if_pos h0, List.append_nil]; exact hL)
      refine ⟨r3, w4, w5, w6, ?_, ho3, hL3⟩
      rw [← e2, h0]
      have h0' : D (k * 12 + m2) - gW_am w (k * 12 + m2) = 0 := h0
      rw [zl_230_53, zr_230_55, zr_230_56, if_neg (by rw [nI_leI (by omega) (by omega)]; omega)]
      simp (implicitDefEqProofs := false) (disch := omega) only [ze_230, zr_230_0, zr_230_1, zr_230_3, zr_230_4, zr_230_7, zr_230_8, zr_230_9, zr_230_10, zr_230_11, zr_230_14, zr_230_16, zr_230_17, zr_230_18, zr_230_19, zr_230_20, zr_230_21, zr_230_22, zr_230_23, zr_230_26, zr_230_28, zr_230_31, zr_230_33, zr_230_34, zr_230_37, zr_230_40, zr_230_43, zr_230_44, zr_230_46, zr_230_47, zr_230_50, zr_230_51, zr_230_55, zr_230_56, zr_230_59, zr_230_60, zr_230_61, zr_230_62, zr_230_64, zr_230_67, zr_230_68, zr_230_69, zr_230_70, zr_230_72, zr_230_75, zr_230_76, zr_230_78, zr_230_80, zr_230_81, zr_230_82, zr_230_85, zr_230_86, zr_230_87, zr_230_88, zr_230_90, zr_230_91, zr_230_92, zr_230_93, zr_230_94, zr_230_97, zr_230_99, zr_230_102, zr_230_104, zr_230_107, zr_230_109, zr_230_110, zr_230_113, zr_230_116, zr_230_119, zr_230_122, zr_230_125, zr_230_126, zr_230_128, zr_230_129, zr_230_132, zr_230_133, zr_230_134, zr_230_135, zr_230_138, zr_230_141, zr_230_144, true_or, or_true, true_and, and_true, if_true, if_false, ldA_ref, ldA_null, nl_int, nl_ref, nl_fl, nl_null, c1_int, c1_ref, c1_null, kd_M, Nat.zero_add, Nat.zero_mul, Nat.one_mul, nI_add, nI_leI, nI_ltI, nI_eq, nI_mul, cmp_lt, cmp_gt, cmp_le, cmp_ge, cmp_eq, s_rdue hn hb1 he (show m2 < 12 by omega) (show k < 5 by omega), s_rset he (show m2 < 12 by omega) (show k < 5 by omega), hd, hs, h0', zcall_some, zpush_some, zpush_none, zsum_ref, zsum_int, zsum_long, zsum_nil, zsum_null, Nat.reduceAdd, Nat.reduceLeDiff, if_true]
    · obtain ⟨r2, e1, hL2, ho2⟩ := s_raddL (h := h) hm he hmo hL hlen (nI k, nI m2, re, pSg k (pDiff w D m2 k))
      obtain ⟨r3, w4, w5, w6, e2, ho3, hL3⟩ := ih (k + 1) r2 (.long (pDiff w D m2 k)) (.float 0) (by omega) (ho2.tr ho) (by rw [pCor, if_neg h0, ← List.append_assoc]; exact hL2)
      refine ⟨r3, w4, w5, w6, ?_, ho3, hL3⟩
      have h0' : ¬ D (k * 12 + m2) - gW_am w (k * 12 + m2) = 0 := h0
      dsimp only at e1
      rw [← e2]
      unfold pSg at e1
      unfold pDiff at e1 ⊢
      rw [zl_230_53, zr_230_55, zr_230_56, if_neg (by rw [nI_leI (by omega) (by omega)]; omega)]
      by_cases hk0 : k = 0
      · subst hk0
        rw [if_pos rfl] at e1
        simp only [Nat.zero_mul, Nat.zero_add] at e1 hd hs h0'
        simp (implicitDefEqProofs := false) (disch := omega) only [zr_230_59, zr_230_60, zr_230_61, zr_230_62, zr_230_64, zr_230_67, zr_230_68, zr_230_69, zr_230_70, zr_230_72, zr_230_75, zr_230_76, zr_230_78, zr_230_80, zr_230_81, zr_230_82, zr_230_85, zr_230_86, zr_230_87, zr_230_88, zr_230_90, zr_230_91, zr_230_92, zr_230_93, zr_230_94, zr_230_97, zr_230_99, zr_230_102, zr_230_104, zr_230_107, zr_230_109, zr_230_110, zr_230_113, zr_230_116, true_or, or_true, true_and, and_true, if_true, if_false, ldA_ref, ldA_null, nl_int, nl_ref, nl_fl, nl_null, c1_int, c1_ref, c1_null, kd_M, Nat.zero_add, Nat.zero_mul, Nat.one_mul, nI_add, nI_leI, nI_ltI, nI_eq, nI_mul, cmp_lt, cmp_gt, cmp_le, cmp_ge, cmp_eq, s_rdue hn hb1 he (show m2 < 12 by omega) (show 0 < 5 by omega), s_rset he (show m2 < 12 by omega) (show 0 < 5 by omega), s_rreason he (show m2 < 12 by omega), hr1, hd, hs, h0', e1, zcall_some, zpush_some, zpush_none, zsum_ref, zsum_int, zsum_long, zsum_nil, zsum_null, Nat.reduceAdd, Nat.reduceLeDiff, if_true]
      · rw [if_neg hk0] at e1
        simp (implicitDefEqProofs := false) (disch := omega) only [zr_230_59, zr_230_60, zr_230_61, zr_230_62, zr_230_64, zr_230_67, zr_230_68, zr_230_69, zr_230_70, zr_230_72, zr_230_75, zr_230_76, zr_230_78, zr_230_80, zr_230_81, zr_230_82, zr_230_85, zr_230_86, zr_230_87, zr_230_88, zr_230_90, zr_230_91, zr_230_92, zr_230_93, zr_230_94, zr_230_97, zr_230_99, zr_230_102, zr_230_104, zr_230_107, zr_230_109, zr_230_110, zr_230_113, zr_230_116, true_or, or_true, true_and, and_true, if_true, if_false, ldA_ref, ldA_null, nl_int, nl_ref, nl_fl, nl_null, c1_int, c1_ref, c1_null, kd_M, Nat.zero_add, Nat.zero_mul, Nat.one_mul, nI_add, nI_leI, nI_ltI, nI_eq, nI_mul, cmp_lt, cmp_gt, cmp_le, cmp_ge, cmp_eq, s_rdue hn hb1 he (show m2 < 12 by omega) (show k < 5 by omega), s_rset he (show m2 < 12 by omega) (show k < 5 by omega), s_rreason he (show m2 < 12 by omega), hr1, hd, hs, h0', hk0, e1, zcall_some, zpush_some, zpush_none, zsum_ref, zsum_int, zsum_long, zsum_nil, zsum_null, Nat.reduceAdd, Nat.reduceLeDiff, if_true]
end
