/-! THE REFERENCE: corrections of an earlier month -/
section
variable {m e n mo m2 : Nat} {r : Rst} {h : zH} {l : List Ln}
theorem rSet_out {r1 : Rst} (o : rOut r1 r e mo) (hmo : mo < 12) (hm2 : m2 < 12) {k : Nat} (hk : k < 5) : rSet r1 e m2 k = rSet r e m2 k := by
  have key : ∀ i, i < 4 → rS r1 (rX e (38 + 4 * m2) + i) = rS r (rX e (38 + 4 * m2) + i) := fun i hi => by
    have := o.num hmo (w := 38 + 4 * m2 + i) (by omega)
    rw [show rX e (38 + 4 * m2 + i) = rX e (38 + 4 * m2) + i by unfold rX; omega] at this
    exact this
  unfold rSet
  by_cases h4 : k < 4
  · rw [if_pos h4, if_pos h4, key k h4]
  · have k0 := key 0 (by omega)
    rw [Nat.add_zero] at k0
    rw [if_neg h4, if_neg h4, k0, key 1 (by omega), key 2 (by omega), key 3 (by omega)]
theorem rReason_out {r1 : Rst} (o : rOut r1 r e mo) (hmo : mo < 12) (hm2 : m2 < 12) : rReason r1 e m2 = rReason r e m2 := by
  unfold rReason
  rw [o.num hmo (w := 2 + m2) (by omega), o.num hmo (w := 86 + m2) (by omega), o.num hmo (w := 14 + m2) (by omega), o.num hmo (w := 98 + m2) (by omega), o.num hmo (w := 26 + m2) (by omega), o.num hmo (w := 110 + m2) (by omega), o.num hmo (w := 122 + m2) (by omega), o.low (q := 2) (by omega)]
theorem s_rcorL {D : Nat → Int64} {w : tyW} {re : Int32} (hm : 100 ≤ m) (hn : n ≤ 5) (hb : rS r 7 = (nI n).toInt64) (he : e < 3) (hmo : mo < 12) (hm2 : m2 < mo) (hD : ∀ k, k < 4 → rDue r n e m2 k = D (k * 12 + m2)) (hA : ∀ k, k < 4 → rSet r e m2 k = gW_am w (k * 12 + m2)) (hr : rReason r e m2 = re) (hl : l.length ≤ 50) : ∀ (j k : Nat) (r1 : Rst) (v5 v6 : Value), k + j = 4 → rOut r1 r e mo → rLines r1 e mo (l ++ pCor w D m2 re k) → ∃ (r2 : Rst) (w4 w5 w6 : Value), rn 236 53 [.ref m, .int (nI e), .int (nI mo), .int (nI m2), .int (nI k), v5, v6] [] (putM m r1 h) = rn 236 45 [.ref m, .int (nI e), .int (nI mo), .int (nI (m2 + 1)), w4, w5, w6] [] (putM m r2 h) ∧ rOut r2 r e mo ∧ rLines r2 e mo (l ++ pCor w D m2 re 4) := by
  intro j
  induction j with
  | zero =>
    intro k r1 v5 v6 hk ho hL
    rw [Nat.add_zero] at hk
    subst hk
    refine ⟨r1, .int (nI 4), v5, v6, ?_, ho, hL⟩
    rw [zl_236_53, zr_236_55, zr_236_56, if_pos (by decide)]
    simp (implicitDefEqProofs := false) (disch := omega) only [zr_236_119, zr_236_122, true_or, or_true, true_and, and_true, if_true, if_false, ldA_ref, ldA_null, nl_int, nl_ref, nl_fl, nl_null, c1_int, c1_ref, c1_null, Nat.zero_add, Nat.zero_mul, Nat.one_mul, nI_add, nI_leI, nI_ltI, nI_eq, nI_mul]
  | succ j ih =>
    intro k r1 v5 v6 hk ho hL
    have hd : rDue r1 n e m2 k = D (k * 12 + m2) := (rDue_fr (ho.fr hmo) hn (by omega) k).trans (hD k (by omega))
    have hs : rSet r1 e m2 k = gW_am w (k * 12 + m2) := (rSet_out ho hmo (by omega) (by omega)).trans (hA k (by omega))
    have hb1 : rS r1 7 = (nI n).toInt64 := (ho.low (by omega)).trans hb
    have hr1 : rReason r1 e m2 = re := (rReason_out ho hmo (by omega)).trans hr
    have hlen : (l ++ pCor w D m2 re k).length < 54 := by
      have := pCor_len w D m2 re k
      rw [List.length_append]; omega
    by_cases h0 : pDiff w D m2 k = 0
    · obtain ⟨r3, w4, w5, w6, e2, ho3, hL3⟩ := ih (k + 1) r1 (.long (pDiff w D m2 k)) (.float 0) (by omega) ho (by rw [pCor, if_pos h0, List.append_nil]; exact hL)
      refine ⟨r3, w4, w5, w6, ?_, ho3, hL3⟩
      rw [← e2, h0]
      have h0' : D (k * 12 + m2) - gW_am w (k * 12 + m2) = 0 := h0
      rw [zl_236_53, zr_236_55, zr_236_56, if_neg (by rw [nI_leI (by omega) (by omega)]; omega)]
      simp (implicitDefEqProofs := false) (disch := omega) only [ze_236, zr_236_0, zr_236_1, zr_236_3, zr_236_4, zr_236_7, zr_236_8, zr_236_9, zr_236_10, zr_236_11, zr_236_14, zr_236_16, zr_236_17, zr_236_18, zr_236_19, zr_236_20, zr_236_21, zr_236_22, zr_236_23, zr_236_26, zr_236_28, zr_236_31, zr_236_33, zr_236_34, zr_236_37, zr_236_40, zr_236_43, zr_236_44, zr_236_46, zr_236_47, zr_236_50, zr_236_51, zr_236_55, zr_236_56, zr_236_59, zr_236_60, zr_236_61, zr_236_62, zr_236_64, zr_236_67, zr_236_68, zr_236_69, zr_236_70, zr_236_72, zr_236_75, zr_236_76, zr_236_78, zr_236_80, zr_236_81, zr_236_82, zr_236_85, zr_236_86, zr_236_87, zr_236_88, zr_236_90, zr_236_91, zr_236_92, zr_236_93, zr_236_94, zr_236_97, zr_236_99, zr_236_102, zr_236_104, zr_236_107, zr_236_109, zr_236_110, zr_236_113, zr_236_116, zr_236_119, zr_236_122, zr_236_125, zr_236_126, zr_236_128, zr_236_129, zr_236_132, zr_236_133, zr_236_134, zr_236_135, zr_236_138, zr_236_141, zr_236_144, true_or, or_true, true_and, and_true, if_true, if_false, ldA_ref, ldA_null, nl_int, nl_ref, nl_fl, nl_null, c1_int, c1_ref, c1_null, kd_M, Nat.zero_add, Nat.zero_mul, Nat.one_mul, nI_add, nI_leI, nI_ltI, nI_eq, nI_mul, cmp_lt, cmp_gt, cmp_le, cmp_ge, cmp_eq, s_rdue hn hb1 he (show m2 < 12 by omega) (show k < 5 by omega), s_rset he (show m2 < 12 by omega) (show k < 5 by omega), hd, hs, h0', zcall_some, zpush_some, zpush_none, zsum_ref, zsum_int, zsum_long, zsum_nil, zsum_null, Nat.reduceAdd, Nat.reduceLeDiff, if_true]
    · obtain ⟨r2, e1, hL2, ho2⟩ := s_raddL (h := h) hm he hmo hL hlen (nI k, nI m2, re, pSg k (pDiff w D m2 k))
      obtain ⟨r3, w4, w5, w6, e2, ho3, hL3⟩ := ih (k + 1) r2 (.long (pDiff w D m2 k)) (.float 0) (by omega) (ho2.tr ho) (by rw [pCor, if_neg h0, ← List.append_assoc]; exact hL2)
      refine ⟨r3, w4, w5, w6, ?_, ho3, hL3⟩
      have h0' : ¬ D (k * 12 + m2) - gW_am w (k * 12 + m2) = 0 := h0
      dsimp only at e1
      rw [← e2]
      unfold pSg at e1
      unfold pDiff at e1 ⊢
      rw [zl_236_53, zr_236_55, zr_236_56, if_neg (by rw [nI_leI (by omega) (by omega)]; omega)]
      by_cases hk0 : k = 0
      · subst hk0
        rw [if_pos rfl] at e1
        simp only [Nat.zero_mul, Nat.zero_add] at e1 hd hs h0'
        simp (implicitDefEqProofs := false) (disch := omega) only [zr_236_59, zr_236_60, zr_236_61, zr_236_62, zr_236_64, zr_236_67, zr_236_68, zr_236_69, zr_236_70, zr_236_72, zr_236_75, zr_236_76, zr_236_78, zr_236_80, zr_236_81, zr_236_82, zr_236_85, zr_236_86, zr_236_87, zr_236_88, zr_236_90, zr_236_91, zr_236_92, zr_236_93, zr_236_94, zr_236_97, zr_236_99, zr_236_102, zr_236_104, zr_236_107, zr_236_109, zr_236_110, zr_236_113, zr_236_116, true_or, or_true, true_and, and_true, if_true, if_false, ldA_ref, ldA_null, nl_int, nl_ref, nl_fl, nl_null, c1_int, c1_ref, c1_null, kd_M, Nat.zero_add, Nat.zero_mul, Nat.one_mul, nI_add, nI_leI, nI_ltI, nI_eq, nI_mul, cmp_lt, cmp_gt, cmp_le, cmp_ge, cmp_eq, s_rdue hn hb1 he (show m2 < 12 by omega) (show 0 < 5 by omega), s_rset he (show m2 < 12 by omega) (show 0 < 5 by omega), s_rreason he (show m2 < 12 by omega), hr1, hd, hs, h0', e1, zcall_some, zpush_some, zpush_none, zsum_ref, zsum_int, zsum_long, zsum_nil, zsum_null, Nat.reduceAdd, Nat.reduceLeDiff, if_true]
      · rw [if_neg hk0] at e1
        simp (implicitDefEqProofs := false) (disch := omega) only [zr_236_59, zr_236_60, zr_236_61, zr_236_62, zr_236_64, zr_236_67, zr_236_68, zr_236_69, zr_236_70, zr_236_72, zr_236_75, zr_236_76, zr_236_78, zr_236_80, zr_236_81, zr_236_82, zr_236_85, zr_236_86, zr_236_87, zr_236_88, zr_236_90, zr_236_91, zr_236_92, zr_236_93, zr_236_94, zr_236_97, zr_236_99, zr_236_102, zr_236_104, zr_236_107, zr_236_109, zr_236_110, zr_236_113, zr_236_116, true_or, or_true, true_and, and_true, if_true, if_false, ldA_ref, ldA_null, nl_int, nl_ref, nl_fl, nl_null, c1_int, c1_ref, c1_null, kd_M, Nat.zero_add, Nat.zero_mul, Nat.one_mul, nI_add, nI_leI, nI_ltI, nI_eq, nI_mul, cmp_lt, cmp_gt, cmp_le, cmp_ge, cmp_eq, s_rdue hn hb1 he (show m2 < 12 by omega) (show k < 5 by omega), s_rset he (show m2 < 12 by omega) (show k < 5 by omega), s_rreason he (show m2 < 12 by omega), hr1, hd, hs, h0', hk0, e1, zcall_some, zpush_some, zpush_none, zsum_ref, zsum_int, zsum_long, zsum_nil, zsum_null, Nat.reduceAdd, Nat.reduceLeDiff, if_true]
end
