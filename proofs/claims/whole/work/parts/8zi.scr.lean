/-! QUESTIONS that use rows for thinking: what stays -/
section
variable {H H1 : zH} {s sb : tyB} {hs : Nat → tyB} {nx ct cap cap' K n i L : Nat} {sv : Int32} {T : tyT} {t t' : List Nat} {r r' : Rst} {sg : Nat → Nat} {xs : Nat → Int32}
def rAg (r' r : Rst) : Prop := (∀ k, k < 8271 → rS r' k = rS r k) ∧ rSv r' = rSv r ∧ rPa r' = rPa r ∧ rIs r' = rIs r ∧ rPm r' = rPm r ∧ rQ r' = rQ r ∧ rLn r' = rLn r ∧ rTx r' = rTx r
theorem rAg.rf (r : Rst) : rAg r r := ⟨fun _ _ => rfl, rfl, rfl, rfl, rfl, rfl, rfl, rfl⟩
theorem relW.ag (a : rAg r' r) (h : relW H s hs nx ct sb sv T r sg n K) : relW H s hs nx ct sb sv T r' sg n K := by
  obtain ⟨a1, a2, a3, a4, a5, a6, a7, a8⟩ := a
  obtain ⟨h1, h2, h3, h4, h5, h6, h7⟩ := h
  refine ⟨h1.ag a1, ⟨h2.1, h2.2.1, a5.trans h2.2.2⟩, fun j hj => ?_, ⟨h4.1.trans a4.symm, ?_⟩, a6.trans h5, h6, ?_⟩
  · rw [a3]; exact h3 j hj
  · rw [a2]; exact h4.2
  · unfold bufR
    rw [a7, a8]; exact h7
def frQ (H' H : zH) : Prop := H.1 ≤ H'.1 ∧ ∀ p, p < 100 + H.1 → (p < 441 ∨ 459 ≤ p) → p ≠ 460 → p ≠ 462 → (zkd H p ≠ 1003 ∨ p < 100) → H'.2.2 p = H.2.2 p
theorem frQ.of (f : frm H1 H 441 18) : frQ H1 H := ⟨Nat.le_of_eq f.1.symm, fun p _ h _ _ _ => f.2.2 p (by omega)⟩
theorem frQ.M (hM : isB H 463 9 (cellM 463 r)) (f : frQ H1 H) (hz : 472 ≤ 100 + H.1) : isB H1 463 9 (cellM 463 r) := fun k hk => (f.2 _ (by omega) (by omega) (by omega) (by omega) (Or.inl (hM.kn kn_M (by omega) (by omega)))).trans (hM k hk)
theorem St.scr (hc : clsB H s hs nx ct sb sv T cap t) (hM : isB H 463 9 (cellM 463 r)) (hz : stz L xs H) (h472 : 472 ≤ 100 + H.1) (hr : relW H s hs nx ct sb sv T r sg n (12 * i)) (f : frQ H1 H) (hd : ∃ du, isB H1 441 2 (cD 441 du)) (ht : ∃ w, trB H1 443 w) (hx : txB H1 459 cap' t') (z1 : H1.1 ≤ 1000 + 132 * (i + 1) + cap') (z2 : H1.2.1 ≤ 200000 + 8208 * (i + 1) + 2 * cap') (z3 : cap' ≤ 4002) (a : rAg r' r) : St L xs (putM 463 r' H1) (i + 1) := by
  have hk := fun p => clsB.kn (p := p) hc
  have hM1 := frQ.M hM f h472
  obtain ⟨a1, a2, a3, a4, a5, -, -, -⟩ := hc
  have g : ∀ p, p < 463 → (p < 441 ∨ 459 ≤ p) → p ≠ 460 → p ≠ 461 → p ≠ 462 → 100 ≤ p → (putM 463 r' H1).2.2 p = H.2.2 p := fun p h1 h2 h3 h4 h5 h6 => (putM_out _ _ (by omega)).trans (f.2 p (by omega) h2 h3 h5 (Or.inl (hk p h6 h1 h4)))
  obtain ⟨du, hd⟩ := hd
  obtain ⟨w, ht⟩ := ht
  have fG : frG (putM 463 r' H1) H := ⟨f.1, fun p h1 h2 h3 => (putM_out _ _ (by omega)).trans (f.2 p h2 (by omega) (by omega) (by omega) (Or.inl h3))⟩
  refine ⟨s, hs, nx, ct, sb, sv, T, cap', t', r', sg, n, ⟨(g 100 (by omega) (by omega) (by omega) (by omega) (by omega) (by omega)).trans a1, a2.to fun p h1 h2 => g p (by omega) (by omega) (by omega) (by omega) (by omega) (by omega), a3.to fun p h1 h2 => g p (by omega) (by omega) (by omega) (by omega) (by omega) (by omega), a4.to fun p h1 h2 => g p (by omega) (by omega) (by omega) (by omega) (by omega) (by omega), a5.to fun p h1 h2 => g p (by omega) (by omega) (by omega) (by omega) (by omega) (by omega), ⟨du, hd.to fun p h1 h2 => putM_out _ _ (by omega)⟩, ⟨w, ht.to fun p h1 h2 => putM_out _ _ (by omega)⟩, hx.to (Nat.le_refl _) (fun p h1 => putM_out _ _ (by omega)) fun p h1 h2 h3 => ?_⟩, putM_isB _ _ _, fun p h1 => (putM_out _ _ (by omega)).trans ((f.2 p (by omega) (by omega) (by omega) (by omega) (Or.inr h1)).trans (hz p h1)), ⟨?_, z1, z2, z3⟩, (hr.fr fG (by omega)).ag a⟩
  · by_cases c1 : p < 463
    · exact putM_out _ _ (by omega)
    · by_cases c2 : p < 472
      · exact absurd h3 (hM1.kn kn_M (by omega) (by omega))
      · exact putM_out _ _ (by omega)
  · have : (putM 463 r' H1).1 = H1.1 := rfl
    have := f.1
    omega
end
section
variable {L i : Nat} {xs : Nat → Int32}
def qK (H : zH) (s : tyB) (q : Nat → Int64) (K : Nat) : Prop := qC H s q K ∧ (∃ du, isB H 441 2 (cD 441 du)) ∧ ∃ w, trB H 443 w
def qryK (X M : zH → Option (Option Value × zH)) : Prop := ∀ H s q K, qK H s q K → ∃ v H1, X H = some (some (.long v), H1) ∧ frm H1 H 441 18 ∧ (∃ du, isB H1 441 2 (cD 441 du)) ∧ (∃ w, trB H1 443 w) ∧ ∀ r h, rS r = q → ∃ r', M (putM 463 r h) = some (some (.long v), putM 463 r' h) ∧ rAg r' r
theorem qryK.step {X M : zH → Option (Option Value × zH)} (h : qryK X M) : stepJ L xs i X M := by
  intro H hSt
  obtain ⟨s, hs, nx, ct, sb, sv, T, cap, t, r, sg, n, hc, hM, hz, ⟨z1, z2, z3, z4⟩, hr⟩ := hSt
  obtain ⟨v, H1, e1, f, hd, ht, e2⟩ := h H s (rS r) (12 * i) ⟨⟨⟨sv, hc.1⟩, hc.2.1, hr.1⟩, hc.2.2.2.2.2.1, hc.2.2.2.2.2.2.1⟩
  obtain ⟨r', e3, a⟩ := e2 r H1 rfl
  have fq := frQ.of f
  rw [putM_id (frQ.M hM fq z1)] at e3
  refine ⟨v, H1, _, e1, e3, ⟨(f.2.2 0 (by omega)).trans (hz 0 (by omega)), kd_c (frQ.M hM fq z1 0 (by omega))⟩, St.scr hc hM hz z1 hr fq hd ht (hc.2.2.2.2.2.2.2.to (Nat.le_of_eq f.1.symm) (fun p h1 => f.2.2 p (by omega)) fun p h1 h2 h3 => f.2.2 p ?_) (by rw [f.1]; omega) (by rw [f.2.1]; omega) z4 a⟩
  by_cases c1 : p < 463
  · by_cases c2 : p = 461
    · omega
    · exact absurd h3 (hc.kn h1 c1 c2)
  · omega
theorem pDues_at {s : tyR} {n : Nat} {w : tyW} {du : Nat → Int64} {k m : Nat} (hk : k < 5) (hm : m < 12) : gD_du (pDues s n w 60 du) (k * 12 + m) = pDue s n w k m := by
  show pDues s n w 60 du (k * 12 + m) = _
  unfold pDues
  rw [if_pos (by omega), show (k * 12 + m) / 12 = k by omega, show (k * 12 + m) % 12 = m by omega]
/-- the dues of an employee, put into the closing's row -/
theorem s_fill {H : zH} {s : tyB} {e n : Nat} {du : tyD} (hB : isB H 101 37 (cB 101 s)) (hD : isB H 441 2 (cD 441 du)) (he : e < 3) (hn : n ≤ 5) (hbn : gR_bn (gB_ru s) = nI n) : ev 60 [.ref (101 + 2), .ref (101 + 7 + 10 * e), .ref (441 + 1)] H = some (none, blk 441 2 (cD 441 (pDues (gB_ru s) n (gB_wk s e) 60 du)) H) := by
  have h1 := s_fillDues (h := H) (c := 441) (by omega) (B_R hB) (B_W hB he) (by omega) (by omega) hn hbn du
  rw [blk_id hD] at h1; exact h1
theorem q_due (x y z : Int32) : qryK (fun h => ev 87 [.ref 100, .int x, .int y, .int z] h) (fun h => ev 250 [.ref 463, .int x, .int y, .int z] h) := by
  intro H s q K ⟨⟨⟨sv, hx⟩, hB, c, n, gs, LS, hb, hs⟩, ⟨du, hD⟩, tw, hT⟩
  dsimp only
  obtain ⟨hn, hbn, h7, -⟩ := hb.2.1
  by_cases h0 : nI 0 ≤ x ∧ x ≤ nI 2
  · obtain ⟨e, he, rfl⟩ := in_nI (by omega) h0.1 h0.2
    have hE := good.rE hb (show e < 3 by omega)
    by_cases h1 : nI 0 ≤ y ∧ y ≤ nI 11
    · obtain ⟨mo, hmo, rfl⟩ := in_nI (by omega) h1.1 h1.2
      by_cases h2 : nI 0 ≤ z ∧ z ≤ nI 4
      · obtain ⟨k, hk, rfl⟩ := in_nI (by omega) h2.1 h2.2
        have hf := s_fill hB hD (show e < 3 by omega) hn hbn
        generalize hH1 : blk 441 2 (cD 441 (pDues (gB_ru s) n (gB_wk s e) 60 du)) H = H1 at hf
        have hx1 : H1.2.2 100 = xC sv := by rw [← hH1]; exact (blk_out (by omega)).trans hx
        have hD1 : isB H1 441 2 (cD 441 (pDues (gB_ru s) n (gB_wk s e) 60 du)) := by rw [← hH1]; exact blk_isB
        refine ⟨pDue (gB_ru s) n (gB_wk s e) k mo, H1, ?_, ?_, ⟨_, hD1⟩, ⟨tw, hT.to fun p h1 h2 => by rw [← hH1]; exact blk_out (by omega)⟩, fun r h hq => ⟨r, ?_, rAg.rf r⟩⟩
        · simp (implicitDefEqProofs := false) (disch := omega) only [ze_87, zr_87_0, zr_87_1, zr_87_4, zr_87_7, zr_87_8, zr_87_11, zr_87_14, zr_87_15, zr_87_16, zr_87_17, zr_87_20, zr_87_23, zr_87_26, zr_87_27, zr_87_28, zr_87_31, zr_87_34, zr_87_35, zr_87_38, zr_87_41, zr_87_42, zr_87_43, zr_87_44, zr_87_47, zr_87_50, zr_87_53, zr_87_54, zr_87_57, zr_87_60, zr_87_61, zr_87_63, zr_87_64, zr_87_65, zr_87_66, zr_87_67, true_or, or_true, true_and, and_true, if_true, if_false, ldA_ref, ldA_null, nl_int, nl_ref, nl_fl, nl_null, c1_int, c1_ref, c1_null, Nat.zero_add, Nat.zero_mul, Nat.one_mul, nI_add, nI_leI, nI_ltI, nI_eq, nI_mul, s_isEmployee, s_isMonth, s_within, bI_0, show ¬ ¬ (0 ≤ e ∧ e ≤ 2) from by omega, show ¬ ¬ (0 ≤ mo ∧ mo ≤ 11) from by omega, show ¬ ¬ (0 ≤ k ∧ k ≤ 4) from by omega, x_at hx, x_at hx1, rdB_0 (hB), rdB_1 (hB), rdB_2 (hB), rdB_3 (hB), rdB_4 (hB), rdB_5 (hB), rdB_6 (hB), rdB_7 (hB), rf_some, rdR_0 (B_R hB), rdD_0 (hD), rdD_1 (hD), rdD_2 (hD), rdD_3 (hD), rdD_0 (hD1), rdD_1 (hD1), rdD_2 (hD1), rdD_3 (hD1), hf, pDues_at (show k < 5 by omega) (show mo < 12 by omega), zcall_some, zpush_some, zpush_none, zsum_ref, zsum_int, zsum_long, zsum_nil, zsum_null, Nat.reduceAdd, Nat.reduceLeDiff, if_true]
        · rw [← hH1]; exact frm.blk (by omega) (by omega)
        · simp (implicitDefEqProofs := false) (disch := omega) only [ze_250, zr_250_0, zr_250_1, zr_250_4, zr_250_7, zr_250_8, zr_250_11, zr_250_14, zr_250_15, zr_250_16, zr_250_17, zr_250_20, zr_250_23, zr_250_24, zr_250_25, zr_250_26, zr_250_27, zr_250_30, zr_250_33, zr_250_36, true_or, or_true, true_and, and_true, if_true, if_false, ldA_ref, ldA_null, nl_int, nl_ref, nl_fl, nl_null, c1_int, c1_ref, c1_null, Nat.zero_add, Nat.zero_mul, Nat.one_mul, nI_add, nI_leI, nI_ltI, nI_eq, nI_mul, kd_M, s_isPerson, s_rMonth, s_in, bI_0, bI_ok, show ¬ ¬ (0 ≤ e ∧ e ≤ 2) from by omega, show ¬ ¬ (0 ≤ mo ∧ mo ≤ 11) from by omega, show ¬ ¬ (0 ≤ k ∧ k ≤ 4) from by omega, s_rdue hn (show rS r 7 = (nI n).toInt64 by rw [hq]; exact h7) (show e < 3 by omega) (show mo < 12 by omega) (show k < 5 by omega), zcall_some, zpush_some, zpush_none, zsum_ref, zsum_int, zsum_long, zsum_nil, zsum_null, Nat.reduceAdd, Nat.reduceLeDiff, if_true]
          rw [rDue_eq (s := gB_ru s) (by rw [hq]; exact hb.2.1) hE.2.1 (by rw [hq]; exact hE.1) (show mo < 12 by omega)]
      · refine ⟨-1, H, ?_, frm.rf H _ _, ⟨du, hD⟩, ⟨tw, hT⟩, fun r h hq => ⟨r, ?_, rAg.rf r⟩⟩
        · simp (implicitDefEqProofs := false) (disch := omega) only [ze_87, zr_87_0, zr_87_1, zr_87_4, zr_87_7, zr_87_8, zr_87_11, zr_87_14, zr_87_15, zr_87_16, zr_87_17, zr_87_20, zr_87_23, zr_87_26, zr_87_27, zr_87_28, zr_87_31, zr_87_34, zr_87_35, zr_87_38, zr_87_41, zr_87_42, zr_87_43, zr_87_44, zr_87_47, zr_87_50, zr_87_53, zr_87_54, zr_87_57, zr_87_60, zr_87_61, zr_87_63, zr_87_64, zr_87_65, zr_87_66, zr_87_67, true_or, or_true, true_and, and_true, if_true, if_false, ldA_ref, ldA_null, nl_int, nl_ref, nl_fl, nl_null, c1_int, c1_ref, c1_null, s_isEmployee, s_isMonth, s_within, bI_0, not_false_eq_true, nn h0, nn h1, h2, zcall_some, zpush_some, zpush_none, zsum_ref, zsum_int, zsum_long, zsum_nil, zsum_null, Nat.reduceAdd, Nat.reduceLeDiff, if_true]
        · simp (implicitDefEqProofs := false) (disch := omega) only [ze_250, zr_250_0, zr_250_1, zr_250_4, zr_250_7, zr_250_8, zr_250_11, zr_250_14, zr_250_15, zr_250_16, zr_250_17, zr_250_20, zr_250_23, zr_250_24, zr_250_25, zr_250_26, zr_250_27, zr_250_30, zr_250_33, zr_250_36, true_or, or_true, true_and, and_true, if_true, if_false, ldA_ref, ldA_null, nl_int, nl_ref, nl_fl, nl_null, c1_int, c1_ref, c1_null, kd_M, s_isPerson, s_rMonth, s_in, bI_0, bI_ok, not_false_eq_true, nn h0, nn h1, h2, zcall_some, zpush_some, zpush_none, zsum_ref, zsum_int, zsum_long, zsum_nil, zsum_null, Nat.reduceAdd, Nat.reduceLeDiff, if_true]
    · refine ⟨-1, H, ?_, frm.rf H _ _, ⟨du, hD⟩, ⟨tw, hT⟩, fun r h hq => ⟨r, ?_, rAg.rf r⟩⟩
      · simp (implicitDefEqProofs := false) (disch := omega) only [ze_87, zr_87_0, zr_87_1, zr_87_4, zr_87_7, zr_87_8, zr_87_11, zr_87_14, zr_87_15, zr_87_16, zr_87_17, zr_87_20, zr_87_23, zr_87_26, zr_87_27, zr_87_28, zr_87_31, zr_87_34, zr_87_35, zr_87_38, zr_87_41, zr_87_42, zr_87_43, zr_87_44, zr_87_47, zr_87_50, zr_87_53, zr_87_54, zr_87_57, zr_87_60, zr_87_61, zr_87_63, zr_87_64, zr_87_65, zr_87_66, zr_87_67, true_or, or_true, true_and, and_true, if_true, if_false, ldA_ref, ldA_null, nl_int, nl_ref, nl_fl, nl_null, c1_int, c1_ref, c1_null, s_isEmployee, s_isMonth, s_within, bI_0, not_false_eq_true, nn h0, h1, zcall_some, zpush_some, zpush_none, zsum_ref, zsum_int, zsum_long, zsum_nil, zsum_null, Nat.reduceAdd, Nat.reduceLeDiff, if_true]
      · simp (implicitDefEqProofs := false) (disch := omega) only [ze_250, zr_250_0, zr_250_1, zr_250_4, zr_250_7, zr_250_8, zr_250_11, zr_250_14, zr_250_15, zr_250_16, zr_250_17, zr_250_20, zr_250_23, zr_250_24, zr_250_25, zr_250_26, zr_250_27, zr_250_30, zr_250_33, zr_250_36, true_or, or_true, true_and, and_true, if_true, if_false, ldA_ref, ldA_null, nl_int, nl_ref, nl_fl, nl_null, c1_int, c1_ref, c1_null, kd_M, s_isPerson, s_rMonth, s_in, bI_0, bI_ok, not_false_eq_true, nn h0, h1, zcall_some, zpush_some, zpush_none, zsum_ref, zsum_int, zsum_long, zsum_nil, zsum_null, Nat.reduceAdd, Nat.reduceLeDiff, if_true]
  · refine ⟨-1, H, ?_, frm.rf H _ _, ⟨du, hD⟩, ⟨tw, hT⟩, fun r h hq => ⟨r, ?_, rAg.rf r⟩⟩
    · simp (implicitDefEqProofs := false) (disch := omega) only [ze_87, zr_87_0, zr_87_1, zr_87_4, zr_87_7, zr_87_8, zr_87_11, zr_87_14, zr_87_15, zr_87_16, zr_87_17, zr_87_20, zr_87_23, zr_87_26, zr_87_27, zr_87_28, zr_87_31, zr_87_34, zr_87_35, zr_87_38, zr_87_41, zr_87_42, zr_87_43, zr_87_44, zr_87_47, zr_87_50, zr_87_53, zr_87_54, zr_87_57, zr_87_60, zr_87_61, zr_87_63, zr_87_64, zr_87_65, zr_87_66, zr_87_67, true_or, or_true, true_and, and_true, if_true, if_false, ldA_ref, ldA_null, nl_int, nl_ref, nl_fl, nl_null, c1_int, c1_ref, c1_null, s_isEmployee, s_isMonth, s_within, bI_0, not_false_eq_true, h0, zcall_some, zpush_some, zpush_none, zsum_ref, zsum_int, zsum_long, zsum_nil, zsum_null, Nat.reduceAdd, Nat.reduceLeDiff, if_true]
    · simp (implicitDefEqProofs := false) (disch := omega) only [ze_250, zr_250_0, zr_250_1, zr_250_4, zr_250_7, zr_250_8, zr_250_11, zr_250_14, zr_250_15, zr_250_16, zr_250_17, zr_250_20, zr_250_23, zr_250_24, zr_250_25, zr_250_26, zr_250_27, zr_250_30, zr_250_33, zr_250_36, true_or, or_true, true_and, and_true, if_true, if_false, ldA_ref, ldA_null, nl_int, nl_ref, nl_fl, nl_null, c1_int, c1_ref, c1_null, kd_M, s_isPerson, s_rMonth, s_in, bI_0, bI_ok, not_false_eq_true, h0, zcall_some, zpush_some, zpush_none, zsum_ref, zsum_int, zsum_long, zsum_nil, zsum_null, Nat.reduceAdd, Nat.reduceLeDiff, if_true]
def sP (s : tyR) (n : Nat) (w : tyW) : Nat → Int64
  | 0 => 0
  | m + 1 => sP s n w m + (pDue s n w 4 m - gW_am w (48 + m))
theorem s_pendL {H1 : zH} {s : tyB} {sv : Int32} {e n c : Nat} {du : tyD} (hx : H1.2.2 100 = xC sv) (hB : isB H1 101 37 (cB 101 s)) (hD : isB H1 441 2 (cD 441 (pDues (gB_ru s) n (gB_wk s e) 60 du))) (he : e < 3) (hc : c ≤ 12) (hcl : gB_cl s = nI c) : ∀ (j m : Nat) (v6 : Value), m + j = c → rn 89 44 [.ref 100, .int (nI e), .ref (101 + 7 + 10 * e), .long (sP (gB_ru s) n (gB_wk s e) m), .float 0, .int (nI m), v6] [] H1 = some (some (.long (sP (gB_ru s) n (gB_wk s e) c)), H1) := by
  intro j
  have hW := B_W hB he
  induction j with
  | zero =>
    intro m v6 hm
    rw [zl_89_44, show m = c by omega]
    by_cases c1 : 12 ≤ c
    · simp (implicitDefEqProofs := false) (disch := omega) only [zr_89_46, zr_89_48, zr_89_51, zr_89_53, zr_89_54, zr_89_57, zr_89_60, zr_89_63, zr_89_65, zr_89_67, zr_89_68, zr_89_70, zr_89_71, zr_89_72, zr_89_75, zr_89_78, zr_89_80, zr_89_81, zr_89_82, zr_89_85, zr_89_87, zr_89_88, zr_89_89, zr_89_90, zr_89_91, zr_89_94, zr_89_97, zr_89_98, true_or, or_true, true_and, and_true, if_true, if_false, ldA_ref, ldA_null, nl_int, nl_ref, nl_fl, nl_null, c1_int, c1_ref, c1_null, Nat.zero_add, Nat.zero_mul, Nat.one_mul, nI_add, nI_leI, nI_ltI, nI_eq, nI_mul, c1, zcall_some, zpush_some, zpush_none, zsum_ref, zsum_int, zsum_long, zsum_nil, zsum_null, Nat.reduceAdd, Nat.reduceLeDiff, if_true]
    · simp (implicitDefEqProofs := false) (disch := omega) only [zr_89_46, zr_89_48, zr_89_51, zr_89_53, zr_89_54, zr_89_57, zr_89_60, zr_89_63, zr_89_65, zr_89_67, zr_89_68, zr_89_70, zr_89_71, zr_89_72, zr_89_75, zr_89_78, zr_89_80, zr_89_81, zr_89_82, zr_89_85, zr_89_87, zr_89_88, zr_89_89, zr_89_90, zr_89_91, zr_89_94, zr_89_97, zr_89_98, true_or, or_true, true_and, and_true, if_true, if_false, ldA_ref, ldA_null, nl_int, nl_ref, nl_fl, nl_null, c1_int, c1_ref, c1_null, Nat.zero_add, Nat.zero_mul, Nat.one_mul, nI_add, nI_leI, nI_ltI, nI_eq, nI_mul, c1, x_at hx, rdB_0 (hB), rdB_1 (hB), rdB_2 (hB), rdB_3 (hB), rdB_4 (hB), rdB_5 (hB), rdB_6 (hB), rdB_7 (hB), hcl, Nat.le_refl, zcall_some, zpush_some, zpush_none, zsum_ref, zsum_int, zsum_long, zsum_nil, zsum_null, Nat.reduceAdd, Nat.reduceLeDiff, if_true]
  | succ j ih =>
    intro m v6 hm
    have ih2 := ih (m + 1) (.int (nI (48 + m))) (by omega)
    have hd := pDues_at (s := gB_ru s) (n := n) (w := gB_wk s e) (du := du) (show 4 < 5 by omega) (show m < 12 by omega)
    rw [show 4 * 12 + m = 48 + m by omega] at hd
    rw [zl_89_44]
    simp (implicitDefEqProofs := false) (disch := omega) only [zr_89_46, zr_89_48, zr_89_51, zr_89_53, zr_89_54, zr_89_57, zr_89_60, zr_89_63, zr_89_65, zr_89_67, zr_89_68, zr_89_70, zr_89_71, zr_89_72, zr_89_75, zr_89_78, zr_89_80, zr_89_81, zr_89_82, zr_89_85, zr_89_87, zr_89_88, zr_89_89, zr_89_90, zr_89_91, zr_89_94, zr_89_97, zr_89_98, true_or, or_true, true_and, and_true, if_true, if_false, ldA_ref, ldA_null, nl_int, nl_ref, nl_fl, nl_null, c1_int, c1_ref, c1_null, Nat.zero_add, Nat.zero_mul, Nat.one_mul, nI_add, nI_leI, nI_ltI, nI_eq, nI_mul, show ¬ 12 ≤ m from by omega, show ¬ c ≤ m from by omega, x_at hx, rdB_0 (hB), rdB_1 (hB), rdB_2 (hB), rdB_3 (hB), rdB_4 (hB), rdB_5 (hB), rdB_6 (hB), rdB_7 (hB), hcl, rdW_0 (hW), rdW_1 (hW), rdW_2 (hW), rdW_3 (hW), rdW_4 (hW), rdW_5 (hW), rdW_6 (hW), rdW_7 (hW), rdW_8 (hW), rdW_9 (hW), rdW_10 (hW), rdW_11 (hW), rdW_12 (hW), rdW_13 (hW), rdW_14 (hW), rdW_15 (hW), rdW_16 (hW), rdW_17 (hW), rdW_18 (hW), rdW_19 (hW), rdW_20 (hW), rdW_21 (hW), rdW_22 (hW), rdW_23 (hW), rdW_24 (hW), rdW_25 (hW), rdW_26 (hW), rdW_27 (hW), rdW_28 (hW), rdW_29 (hW), rdD_0 (hD), rdD_1 (hD), rdD_2 (hD), rdD_3 (hD), hd, zcall_some, zpush_some, zpush_none, zsum_ref, zsum_int, zsum_long, zsum_nil, zsum_null, Nat.reduceAdd, Nat.reduceLeDiff, if_true]
    exact ih2
theorem s_rpendL {m e n c g : Nat} {s : tyR} {w : tyW} {r : Rst} {h : zH} {LS : Nat → List Ln} (hr : RelR s (rS r) n) (hE : RelE w (rS r) e c g LS) (he : e < 3) (hc : c ≤ 12) (h0 : rS r 0 = (nI c).toInt64) : ∀ (j i : Nat), i + j = c → rn 253 16 [.ref m, .int (nI e), .long (sP s n w i), .float 0, .int (nI i)] [] (putM m r h) = some (some (.long (sP s n w c)), putM m r h) := by
  intro j
  obtain ⟨hn, hbn, h7, -⟩ := id hr
  induction j with
  | zero =>
    intro i hi
    rw [zl_253_16, show i = c by omega]
    simp (implicitDefEqProofs := false) (disch := omega) only [zr_253_18, zr_253_19, zr_253_22, zr_253_25, zr_253_26, zr_253_27, zr_253_28, zr_253_30, zr_253_31, zr_253_34, zr_253_35, zr_253_36, zr_253_38, zr_253_39, zr_253_42, zr_253_43, zr_253_44, zr_253_45, zr_253_48, zr_253_51, zr_253_52, true_or, or_true, true_and, and_true, if_true, if_false, ldA_ref, ldA_null, nl_int, nl_ref, nl_fl, nl_null, c1_int, c1_ref, c1_null, Nat.zero_add, Nat.zero_mul, Nat.one_mul, nI_add, nI_leI, nI_ltI, nI_eq, nI_mul, kd_M, s_rcm h0, Nat.le_refl, zcall_some, zpush_some, zpush_none, zsum_ref, zsum_int, zsum_long, zsum_nil, zsum_null, Nat.reduceAdd, Nat.reduceLeDiff, if_true]
  | succ j ih =>
    intro i hi
    have ih2 := ih (i + 1) (by omega)
    have e1 := rDue_eq (k := 4) hr hE.2.1 hE.1 (show i < 12 by omega)
    have e2 := rSet_eq hE (show i < c by omega) (show 4 < 5 by omega)
    rw [show 4 * 12 + i = 48 + i by omega] at e2
    rw [zl_253_16]
    simp (implicitDefEqProofs := false) (disch := omega) only [zr_253_18, zr_253_19, zr_253_22, zr_253_25, zr_253_26, zr_253_27, zr_253_28, zr_253_30, zr_253_31, zr_253_34, zr_253_35, zr_253_36, zr_253_38, zr_253_39, zr_253_42, zr_253_43, zr_253_44, zr_253_45, zr_253_48, zr_253_51, zr_253_52, true_or, or_true, true_and, and_true, if_true, if_false, ldA_ref, ldA_null, nl_int, nl_ref, nl_fl, nl_null, c1_int, c1_ref, c1_null, Nat.zero_add, Nat.zero_mul, Nat.one_mul, nI_add, nI_leI, nI_ltI, nI_eq, nI_mul, kd_M, s_rcm h0, show ¬ c ≤ i from by omega, s_rdue hn h7 he (show i < 12 by omega) (show 4 < 5 by omega), s_rset he (show i < 12 by omega) (show 4 < 5 by omega), e1, e2, zcall_some, zpush_some, zpush_none, zsum_ref, zsum_int, zsum_long, zsum_nil, zsum_null, Nat.reduceAdd, Nat.reduceLeDiff, if_true]
    exact ih2
theorem q_pending (x : Int32) : qryK (fun h => ev 89 [.ref 100, .int x] h) (fun h => ev 253 [.ref 463, .int x] h) := by
  intro H s q K ⟨⟨⟨sv, hx⟩, hB, c, n, gs, LS, hb, hs⟩, ⟨du, hD⟩, tw, hT⟩
  dsimp only
  have hc := hb.1.1
  obtain ⟨hn, hbn, h7, -⟩ := hb.2.1
  by_cases h0 : nI 0 ≤ x ∧ x ≤ nI 2
  · obtain ⟨e, he, rfl⟩ := in_nI (by omega) h0.1 h0.2
    have hE := good.rE hb (show e < 3 by omega)
    have hf := s_fill hB hD (show e < 3 by omega) hn hbn
    generalize hH1 : blk 441 2 (cD 441 (pDues (gB_ru s) n (gB_wk s e) 60 du)) H = H1 at hf
    have hx1 : H1.2.2 100 = xC sv := by rw [← hH1]; exact (blk_out (by omega)).trans hx
    have hD1 : isB H1 441 2 (cD 441 (pDues (gB_ru s) n (gB_wk s e) 60 du)) := by rw [← hH1]; exact blk_isB
    have hB1 : isB H1 101 37 (cB 101 s) := by rw [← hH1]; exact isB_skip (by omega) hB
    refine ⟨sP (gB_ru s) n (gB_wk s e) c, H1, ?_, ?_, ⟨_, hD1⟩, ⟨tw, hT.to fun p h1 h2 => by rw [← hH1]; exact blk_out (by omega)⟩, fun r h hq => ⟨r, ?_, rAg.rf r⟩⟩
    · have hl := fun v6 => s_pendL hx1 hB1 hD1 (show e < 3 by omega) hc hb.1.2.1 c 0 v6 (by omega)
      simp (implicitDefEqProofs := false) (disch := omega) only [ze_89, zr_89_0, zr_89_1, zr_89_4, zr_89_7, zr_89_10, zr_89_11, zr_89_12, zr_89_15, zr_89_18, zr_89_19, zr_89_20, zr_89_21, zr_89_22, zr_89_25, zr_89_28, zr_89_29, zr_89_30, zr_89_33, zr_89_36, zr_89_39, zr_89_40, zr_89_41, zr_89_42, zr_89_46, zr_89_48, zr_89_51, zr_89_53, zr_89_54, zr_89_57, zr_89_60, zr_89_63, zr_89_65, zr_89_67, zr_89_68, zr_89_70, zr_89_71, zr_89_72, zr_89_75, zr_89_78, zr_89_80, zr_89_81, zr_89_82, zr_89_85, zr_89_87, zr_89_88, zr_89_89, zr_89_90, zr_89_91, zr_89_94, zr_89_97, zr_89_98, true_or, or_true, true_and, and_true, if_true, if_false, ldA_ref, ldA_null, nl_int, nl_ref, nl_fl, nl_null, c1_int, c1_ref, c1_null, Nat.zero_add, Nat.zero_mul, Nat.one_mul, nI_add, nI_leI, nI_ltI, nI_eq, nI_mul, s_isEmployee, bI_0, show ¬ ¬ (0 ≤ e ∧ e ≤ 2) from by omega, x_at hx, rdB_0 (hB), rdB_1 (hB), rdB_2 (hB), rdB_3 (hB), rdB_4 (hB), rdB_5 (hB), rdB_6 (hB), rdB_7 (hB), rf_some, rdR_0 (B_R hB), rdD_0 (hD), rdD_1 (hD), rdD_2 (hD), rdD_3 (hD), hf, zcall_some, zpush_some, zpush_none, zsum_ref, zsum_int, zsum_long, zsum_nil, zsum_null, Nat.reduceAdd, Nat.reduceLeDiff, if_true]
      exact hl _
    · rw [← hH1]; exact frm.blk (by omega) (by omega)
    · simp (implicitDefEqProofs := false) (disch := omega) only [ze_253, zr_253_0, zr_253_1, zr_253_4, zr_253_7, zr_253_10, zr_253_11, zr_253_12, zr_253_13, zr_253_14, zr_253_18, zr_253_19, zr_253_22, zr_253_25, zr_253_26, zr_253_27, zr_253_28, zr_253_30, zr_253_31, zr_253_34, zr_253_35, zr_253_36, zr_253_38, zr_253_39, zr_253_42, zr_253_43, zr_253_44, zr_253_45, zr_253_48, zr_253_51, zr_253_52, true_or, or_true, true_and, and_true, if_true, if_false, ldA_ref, ldA_null, nl_int, nl_ref, nl_fl, nl_null, c1_int, c1_ref, c1_null, Nat.zero_add, Nat.zero_mul, Nat.one_mul, nI_add, nI_leI, nI_ltI, nI_eq, nI_mul, kd_M, s_isPerson, bI_0, bI_ok, show ¬ ¬ (0 ≤ e ∧ e ≤ 2) from by omega, zcall_some, zpush_some, zpush_none, zsum_ref, zsum_int, zsum_long, zsum_nil, zsum_null, Nat.reduceAdd, Nat.reduceLeDiff, if_true]
      exact s_rpendL (s := gB_ru s) (w := gB_wk s e) (g := gs e) (LS := LS e) (by rw [hq]; exact hb.2.1) (by rw [hq]; exact hE) (by omega) hc (by rw [hq]; exact hb.1.2.2.1) c 0 (by omega)
  · refine ⟨-9223372036854775808, H, ?_, frm.rf H _ _, ⟨du, hD⟩, ⟨tw, hT⟩, fun r h hq => ⟨r, ?_, rAg.rf r⟩⟩
    · simp (implicitDefEqProofs := false) (disch := omega) only [ze_89, zr_89_0, zr_89_1, zr_89_4, zr_89_7, zr_89_10, zr_89_11, zr_89_12, zr_89_15, zr_89_18, zr_89_19, zr_89_20, zr_89_21, zr_89_22, zr_89_25, zr_89_28, zr_89_29, zr_89_30, zr_89_33, zr_89_36, zr_89_39, zr_89_40, zr_89_41, zr_89_42, zr_89_46, zr_89_48, zr_89_51, zr_89_53, zr_89_54, zr_89_57, zr_89_60, zr_89_63, zr_89_65, zr_89_67, zr_89_68, zr_89_70, zr_89_71, zr_89_72, zr_89_75, zr_89_78, zr_89_80, zr_89_81, zr_89_82, zr_89_85, zr_89_87, zr_89_88, zr_89_89, zr_89_90, zr_89_91, zr_89_94, zr_89_97, zr_89_98, true_or, or_true, true_and, and_true, if_true, if_false, ldA_ref, ldA_null, nl_int, nl_ref, nl_fl, nl_null, c1_int, c1_ref, c1_null, s_isEmployee, bI_0, not_false_eq_true, h0, zcall_some, zpush_some, zpush_none, zsum_ref, zsum_int, zsum_long, zsum_nil, zsum_null, Nat.reduceAdd, Nat.reduceLeDiff, if_true]
    · simp (implicitDefEqProofs := false) (disch := omega) only [ze_253, zr_253_0, zr_253_1, zr_253_4, zr_253_7, zr_253_10, zr_253_11, zr_253_12, zr_253_13, zr_253_14, zr_253_18, zr_253_19, zr_253_22, zr_253_25, zr_253_26, zr_253_27, zr_253_28, zr_253_30, zr_253_31, zr_253_34, zr_253_35, zr_253_36, zr_253_38, zr_253_39, zr_253_42, zr_253_43, zr_253_44, zr_253_45, zr_253_48, zr_253_51, zr_253_52, true_or, or_true, true_and, and_true, if_true, if_false, ldA_ref, ldA_null, nl_int, nl_ref, nl_fl, nl_null, c1_int, c1_ref, c1_null, kd_M, s_isPerson, bI_0, bI_ok, not_false_eq_true, h0, zcall_some, zpush_some, zpush_none, zsum_ref, zsum_int, zsum_long, zsum_nil, zsum_null, Nat.reduceAdd, Nat.reduceLeDiff, if_true]
end
