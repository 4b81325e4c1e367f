/-! THE REFERENCE: the own lines of a month -/
section
variable {m e n mo : Nat} {r : Rst} {h : zH}
theorem s_rownL {D : Nat → Int64} (hm : 100 ≤ m) (hn : n ≤ 5) (hb : rS r 7 = (nI n).toInt64) (he : e < 3) (hmo : mo < 12) (hD : ∀ k, k < 4 → rDue r n e mo k = D (k * 12 + mo)) (v4 v5 : Value) : ∀ (j k : Nat) (r1 : Rst) (v4 v5 v6 : Value), k + j = 4 → rOut r1 r e mo → rLines r1 e mo (pOwn D mo k) → ∃ (r2 : Rst) (w4 w5 w6 : Value), rn 230 2 [.ref m, .int (nI e), .int (nI mo), .int (nI k), v4, v5, v6] [] (putM m r1 h) = rn 230 43 [.ref m, .int (nI e), .int (nI mo), .int (nI 4), w4, w5, w6] [] (putM m r2 h) ∧ rOut r2 r e mo ∧ rLines r2 e mo (pOwn D mo 4) := by
  intro j
  induction j with
  | zero =>
    intro k r1 v4 v5 v6 hk ho hL
    rw [Nat.add_zero] at hk
    subst hk
    refine ⟨r1, v4, v5, v6, ?_, ho, hL⟩
    rw [zl_230_2, zr_230_3, zr_230_4, if_pos (by decide)]
  | succ j ih =>
    intro k r1 v4 v5 v6 hk ho hL
    obtain ⟨r2, e1, hL2, ho2⟩ := s_raddL (h := h) hm he hmo hL (by rw [pOwn_len]; omega) (nI k, nI mo, nI 0, pSg k (D (k * 12 + mo)))
    obtain ⟨r3, w4, w5, w6, e2, ho3, hL3⟩ := ih (k + 1) r2 (.long (D (k * 12 + mo))) (.float 0) v6 (by omega) (ho2.tr ho) hL2
    refine ⟨r3, w4, w5, w6, ?_, ho3, hL3⟩
    have hd : rDue r1 n e mo k = D (k * 12 + mo) := (rDue_fr (ho.fr hmo) hn hmo k).trans (hD k (by omega))
    have hb1 : rS r1 7 = (nI n).toInt64 := (ho.low (by omega)).trans hb
    dsimp only at e1
    rw [← e2]
    rw [zl_230_2, zr_230_3, zr_230_4, if_neg (by rw [nI_leI (by omega) (by omega)]; omega)]
    unfold pSg at e1
    by_cases h0 : k = 0
    · subst h0
      rw [if_pos rfl] at e1
      simp only [Nat.zero_mul, Nat.zero_add] at e1 hd
      simp (implicitDefEqProofs := false) (disch := omega) only [zr_230_7, zr_230_8, zr_230_9, zr_230_10, zr_230_11, zr_230_14, zr_230_16, zr_230_17, zr_230_18, zr_230_19, zr_230_20, zr_230_21, zr_230_22, zr_230_23, zr_230_26, zr_230_28, zr_230_31, zr_230_33, zr_230_34, zr_230_37, zr_230_40, true_or, or_true, true_and, and_true, if_true, if_false, ldA_ref, ldA_null, nl_int, nl_ref, nl_fl, nl_null, c1_int, c1_ref, c1_null, kd_M, Nat.zero_add, Nat.zero_mul, Nat.one_mul, nI_add, nI_leI, nI_ltI, nI_eq, nI_mul, s_rdue hn hb1 he hmo (show 0 < 5 by omega), hd, e1, zcall_some, zpush_some, zpush_none, zsum_ref, zsum_int, zsum_long, zsum_nil, zsum_null, Nat.reduceAdd, Nat.reduceLeDiff, if_true]
    · rw [if_neg h0] at e1
      simp (implicitDefEqProofs := false) (disch := omega) only [zr_230_7, zr_230_8, zr_230_9, zr_230_10, zr_230_11, zr_230_14, zr_230_16, zr_230_17, zr_230_18, zr_230_19, zr_230_20, zr_230_21, zr_230_22, zr_230_23, zr_230_26, zr_230_28, zr_230_31, zr_230_33, zr_230_34, zr_230_37, zr_230_40, true_or, or_true, true_and, and_true, if_true, if_false, ldA_ref, ldA_null, nl_int, nl_ref, nl_fl, nl_null, c1_int, c1_ref, c1_null, kd_M, Nat.zero_add, Nat.zero_mul, Nat.one_mul, nI_add, nI_leI, nI_ltI, nI_eq, nI_mul, s_rdue hn hb1 he hmo (show k < 5 by omega), hd, h0, e1, zcall_some, zpush_some, zpush_none, zsum_ref, zsum_int, zsum_long, zsum_nil, zsum_null, Nat.reduceAdd, Nat.reduceLeDiff, if_true]
end
