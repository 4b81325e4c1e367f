/-! THE REFERENCE: addDueLines -/
section
variable {m e n mo : Nat} {r : Rst} {h : zH}
theorem s_raddDue {D : Nat → Int64} {w : tyW} {re : Nat → Int32} (hm : 100 ≤ m) (hn : n ≤ 5) (hb : rS r 7 = (nI n).toInt64) (he : e < 3) (hmo : mo < 12) (hD : ∀ k m2, k < 4 → m2 ≤ mo → rDue r n e m2 k = D (k * 12 + m2)) (hA : ∀ k m2, k < 4 → m2 < mo → rSet r e m2 k = gW_am w (k * 12 + m2)) (hr : ∀ m2, m2 < mo → rReason r e m2 = re m2) (hL : rLines r e mo []) : ∃ r2 : Rst, ev 230 [.ref m, .int (nI e), .int (nI mo)] (putM m r h) = some (none, putM m (wStl r2 n e (mo + 1)) h) ∧ rOut r2 r e mo ∧ rLines r2 e mo (qLs w D mo re mo) := by
  obtain ⟨r1, a4, a5, a6, e1, ho1, hL1⟩ := s_rownL (h := h) (D := D) hm hn hb he hmo (fun k hk => hD k mo hk (Nat.le_refl _)) .null .null 4 0 r (.float 0) (.float 0) (.float 0) (by omega) (rOut.rf r e mo) hL
  obtain ⟨r2, b4, b5, b6, e2, ho2, hL2⟩ := s_rcorsL (h := h) (D := D) (w := w) (re := re) hm hn hb he hmo (fun k m2 hk h2 => hD k m2 hk (by omega)) hA hr mo 0 r1 a4 a5 a6 (by omega) ho1 hL1
  have e3 := s_rstlL (r := r2) (h := h) hm hn ((ho2.low (by omega)).trans hb) he hmo b4 b5 b6 (mo + 1) 0 (by omega)
  refine ⟨r2, ?_, ho2, hL2⟩
  rw [← e3]
  have c0 : ev 230 [.ref m, .int (nI e), .int (nI mo)] (putM m r h) = rn 230 2 [.ref m, .int (nI e), .int (nI mo), .int (nI 0), .float 0, .float 0, .float 0] [] (putM m r h) := by
    simp (implicitDefEqProofs := false) (disch := omega) only [ze_230, zr_230_0, zr_230_1, true_or, or_true, true_and, and_true, if_true, if_false, ldA_ref, ldA_null, nl_int, nl_ref, nl_fl, nl_null, c1_int, c1_ref, c1_null]
  rw [c0, e1]
  have c1 : rn 230 43 [.ref m, .int (nI e), .int (nI mo), .int (nI 4), a4, a5, a6] [] (putM m r1 h) = rn 230 45 [.ref m, .int (nI e), .int (nI mo), .int (nI 0), a4, a5, a6] [] (putM m r1 h) := by
    simp (implicitDefEqProofs := false) (disch := omega) only [zr_230_43, zr_230_44, true_or, or_true, true_and, and_true, if_true, if_false, ldA_ref, ldA_null, nl_int, nl_ref, nl_fl, nl_null, c1_int, c1_ref, c1_null]
  rw [c1, e2]
  simp (implicitDefEqProofs := false) (disch := omega) only [zr_230_125, zr_230_126, true_or, or_true, true_and, and_true, if_true, if_false, ldA_ref, ldA_null, nl_int, nl_ref, nl_fl, nl_null, c1_int, c1_ref, c1_null]
  rfl
end
