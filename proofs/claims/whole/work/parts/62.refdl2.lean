/-! THE REFERENCE: addDueLines, the loop of corrections -/
section
variable {m e n mo : Nat} {r : Rst} {h : zH}
theorem s_rcorsL {D : Nat → Int64} {w : tyW} {re : Nat → Int32} (hm : 100 ≤ m) (hn : n ≤ 5) (hb : rS r 7 = (nI n).toInt64) (he : e < 3) (hmo : mo < 12) (hD : ∀ k m2, k < 4 → m2 < mo → rDue r n e m2 k = D (k * 12 + m2)) (hA : ∀ k m2, k < 4 → m2 < mo → rSet r e m2 k = gW_am w (k * 12 + m2)) (hr : ∀ m2, m2 < mo → rReason r e m2 = re m2) : ∀ (j m2 : Nat) (r1 : Rst) (v4 v5 v6 : Value), m2 + j = mo → rOut r1 r e mo → rLines r1 e mo (qLs w D mo re m2) → ∃ (r2 : Rst) (w4 w5 w6 : Value), rn 230 45 [.ref m, .int (nI e), .int (nI mo), .int (nI m2), v4, v5, v6] [] (putM m r1 h) = rn 230 125 [.ref m, .int (nI e), .int (nI mo), .int (nI mo), w4, w5, w6] [] (putM m r2 h) ∧ rOut r2 r e mo ∧ rLines r2 e mo (qLs w D mo re mo) := by
  intro j
  induction j with
  | zero =>
    intro m2 r1 v4 v5 v6 hk ho hL
    rw [Nat.add_zero] at hk
    subst hk
    refine ⟨r1, v4, v5, v6, ?_, ho, hL⟩
    rw [zl_230_45, zr_230_46, zr_230_47, if_pos (Int32.le_refl _)]
  | succ j ih =>
    intro m2 r1 v4 v5 v6 hk ho hL
    have hlen := qLs_len w D mo re m2
    obtain ⟨r2, w4, w5, w6, e1, ho2, hL2⟩ := s_rcorL (h := h) (l := qLs w D mo re m2) (D := D) (w := w) (re := re m2) hm hn hb he hmo (show m2 < mo by omega) (fun k hk => hD k m2 hk (by omega)) (fun k hk => hA k m2 hk (by omega)) (hr m2 (by omega)) (by omega) 4 0 r1 v5 v6 (by omega) ho (by rw [pCor, List.append_nil]; exact hL)
    obtain ⟨r3, x4, x5, x6, e2, ho3, hL3⟩ := ih (m2 + 1) r2 w4 w5 w6 (by omega) ho2 hL2
    refine ⟨r3, x4, x5, x6, ?_, ho3, hL3⟩
    rw [← e2, ← e1]
    rw [zl_230_45, zr_230_46, zr_230_47, if_neg (by rw [nI_leI (by omega) (by omega)]; omega)]
    simp (implicitDefEqProofs := false) (disch := omega) only [zr_230_50, zr_230_51, true_or, or_true, true_and, and_true, if_true, if_false, ldA_ref, ldA_null, nl_int, nl_ref, nl_fl, nl_null, c1_int, c1_ref, c1_null, Nat.zero_add, Nat.zero_mul, Nat.one_mul, nI_add, nI_leI, nI_ltI, nI_eq, nI_mul]
end
