/-! FEED, SAVE, RESTORE, UNDO -/
section
variable {H H' H1 : zH} {s s' sb sb' : tyB} {hs hs' : Nat → tyB} {nx ct nx' ct' cap K K2 n n' i L : Nat} {sv sv' : Int32} {T T' : tyT} {t : List Nat} {r r' : Rst} {sg sg' : Nat → Nat} {xs : Nat → Int32}
theorem clsB.nw (hc : clsB H s hs nx ct sb sv T cap t) (hM : isB H 463 9 (cellM 463 r)) (h472 : 472 ≤ 100 + H.1) (h11 : H.1 ≤ H'.1) (f : ∀ p, p < 100 + H.1 → (p < 100 ∨ 441 ≤ p) → (p < 463 ∨ 472 ≤ p) → H'.2.2 p = H.2.2 p) (h0 : H'.2.2 100 = xC sv') (h1 : isB H' 101 37 (cB 101 s')) (h2 : hiB H' 138 hs' nx' ct') (h3 : isB H' 399 37 (cB 399 sb')) (h4 : isB H' 436 5 (cT 436 T')) : clsB H' s' hs' nx' ct' sb' sv' T' cap t := by
  have hk := fun p => hc.kn (p := p)
  obtain ⟨-, -, -, -, -, ⟨du, hd⟩, ⟨w, ht⟩, hx⟩ := hc
  refine ⟨h0, h1, h2, h3, h4, ⟨du, hd.to fun p x y => f p (by omega) (by omega) (by omega)⟩, ⟨w, ht.to fun p x y => f p (by omega) (by omega) (by omega)⟩, hx.to h11 (fun p x => f p (by omega) (by omega) (by omega)) fun p x y z => ?_⟩
  by_cases c1 : p = 461
  · exact f p y (by omega) (by omega)
  · by_cases c2 : p < 463
    · exact absurd z (hk p x c2 c1)
    · by_cases c3 : p < 472
      · exact absurd z (hM.kn kn_M (by omega) (by omega))
      · exact f p y (by omega) (by omega)
theorem St.nw (hc : clsB H s hs nx ct sb sv T cap t) (hM : isB H 463 9 (cellM 463 r)) (hz : stz L xs H) (h472 : 472 ≤ 100 + H.1) (h11 : H.1 ≤ H1.1) (f : ∀ p, p < 100 + H.1 → (p < 100 ∨ 441 ≤ p) → (p < 463 ∨ 472 ≤ p) → H1.2.2 p = H.2.2 p) (h0 : H1.2.2 100 = xC sv') (h1 : isB H1 101 37 (cB 101 s')) (h2 : hiB H1 138 hs' nx' ct') (h3 : isB H1 399 37 (cB 399 sb')) (h4 : isB H1 436 5 (cT 436 T')) (z1 : H1.1 ≤ 1000 + 132 * (i + 1) + cap) (z2 : H1.2.1 ≤ 200000 + 8208 * (i + 1) + 2 * cap) (z3 : cap ≤ 4002) (hr : relW H1 s' hs' nx' ct' sb' sv' T' r' sg' n' (12 * (i + 1))) : St L xs (putM 463 r' H1) (i + 1) := by
  have g : ∀ p, (p < 463 ∨ 472 ≤ p) → (putM 463 r' H1).2.2 p = H1.2.2 p := fun p h => putM_out _ _ (by omega)
  refine ⟨s', hs', nx', ct', sb', sv', T', cap, t, r', sg', n', hc.nw hM h472 h11 (fun p x y z => (g p z).trans (f p x y z)) ((g 100 (by omega)).trans h0) (h1.to fun p x y => g p (by omega)) (h2.to fun p x y => g p (by omega)) (h3.to fun p x y => g p (by omega)) (h4.to fun p x y => g p (by omega)), putM_isB _ _ _, fun a ha => (g a (by omega)).trans ((f a (by omega) (by omega) (by omega)).trans (hz a ha)), ⟨?_, z1, z2, z3⟩, hr.fr (frM.M r' H1).G (Nat.le_refl _)⟩
  have : (putM 463 r' H1).1 = H1.1 := rfl
  omega
/-- one more sign -/
def sgU (sg : Nat → Nat) (n c : Nat) : Nat → Nat := fun j => if j = n then c else sg j
theorem bufT_up {c : Nat} (h : bufT T sg n) (hn : n < 60) (h1 : 32 ≤ c) (h2 : c ≤ 126) : bufT (sT_ln (sT_sg T (upd (gT_sg T) n (nI c))) (nI (n + 1))) (sgU sg n c) (n + 1) := ⟨rfl, by omega, fun j hj => by
  by_cases h3 : j = n
  · subst h3
    unfold sgU
    rw [if_pos rfl]
    exact ⟨if_pos rfl, h1, h2⟩
  · obtain ⟨a1, a2⟩ := h.2.2 j (by omega)
    unfold sgU
    rw [if_neg h3]
    exact ⟨(if_neg h3).trans a1, a2⟩⟩
theorem bufR_up {c : Nat} (h : bufR r sg n) (hn : n < 60) (h1 : 32 ≤ c) (h2 : c ≤ 126) : bufR (wLn (wTx r (upd (rTx r) n (nI c))) (nI (n + 1))) (sgU sg n c) (n + 1) := ⟨rfl, by omega, fun j hj => by
  by_cases h3 : j = n
  · subst h3
    unfold sgU
    rw [if_pos rfl]
    exact ⟨if_pos rfl, h1, h2⟩
  · obtain ⟨a1, a2⟩ := h.2.2 j (by omega)
    unfold sgU
    rw [if_neg h3]
    exact ⟨(if_neg h3).trans a1, a2⟩⟩
theorem chrC : ∀ c : Nat, c < 128 → vp_nar .char ((nI c).toUInt32 % 65536).toInt32 = nI c := by decide +kernel
theorem frG.lo (h11 : H.1 ≤ H1.1) (f : ∀ p, 472 ≤ p → p < 100 + H.1 → H1.2.2 p = H.2.2 p) : frG H1 H := ⟨h11, fun p h1 h2 _ => f p h1 h2⟩
theorem st_feed (x : Int32) : stepI L xs i (fun h => ev 173 [.ref 100, .int x] h) (fun h => ev 283 [.ref 463, .int x] h) := by
  intro H hSt
  have hS2 := hSt.up
  obtain ⟨s, hs, nx, ct, sb, sv, T, cap, t, r, sg, n, hc, hM, hz, ⟨z1, z2, z3, z4⟩, hr⟩ := hSt
  have hx := hc.1
  have hT := hc.2.2.2.2.1
  have hbT := hr.2.2.2.2.2.1
  have hbR := hr.2.2.2.2.2.2
  have eM := putM_id hM
  dsimp only
  by_cases h0 : nI 32 ≤ x ∧ x ≤ nI 126
  · obtain ⟨c, rfl, hc1, hc2⟩ := nI_mk h0.1 h0.2 (by omega) (by omega)
    by_cases hn : n < 60
    · have eT : blk 436 5 (cT 436 T) H = H := blk_id hT
      have e1 : ev 173 [.ref 100, .int (nI c)] H = some (some (.int (nI (n + 1))), blk 436 5 (cT 436 (sT_ln (sT_sg T (upd (gT_sg T) n (nI c))) (nI (n + 1)))) H) := by
        have e0 : ev 174 [.ref 436, .int (nI c)] (blk 436 5 (cT 436 T) H) = some (some (.int (nI (n + 1))), blk 436 5 (cT 436 (sT_ln (sT_sg T (upd (gT_sg T) n (nI c))) (nI (n + 1)))) H) := by
          simp (implicitDefEqProofs := false) (disch := omega) only [ze_174, zr_174_0, zr_174_1, zr_174_3, zr_174_5, zr_174_8, zr_174_11, zr_174_12, zr_174_13, zr_174_14, zr_174_17, zr_174_19, zr_174_22, zr_174_24, zr_174_25, zr_174_26, zr_174_29, zr_174_30, zr_174_33, zr_174_34, zr_174_35, zr_174_36, zr_174_37, zr_174_38, zr_174_41, zr_174_42, zr_174_43, zr_174_46, zr_174_47, zr_174_50, true_or, or_true, true_and, and_true, if_true, if_false, ldA_ref, ldA_null, nl_int, nl_ref, nl_fl, nl_null, c1_int, c1_ref, c1_null, Nat.zero_add, Nat.zero_mul, Nat.one_mul, nI_add, nI_leI, nI_ltI, nI_eq, nI_mul, s_within, bI_0, show ¬ ¬ (32 ≤ c ∧ c ≤ 126) from by omega, rdT_0 (blk_isB), rdT_1 (blk_isB), rdT_2 (blk_isB), rdT_3 (blk_isB), rdT_4 (blk_isB), rdT_5 (blk_isB), rdT_6 (blk_isB), rdT_7 (blk_isB), rdT_8 (blk_isB), rdT_9 (blk_isB), rdT_10 (blk_isB), rdT_11 (blk_isB), rdT_12 (blk_isB), rdT_13 (blk_isB), rdT_14 (blk_isB), hbT.1, hn, chrC c (by omega), wrT_0 (show 100 ≤ 436 by omega), wrT_1 (show 100 ≤ 436 by omega), wrT_2 (show 100 ≤ 436 by omega), wrT_3 (show 100 ≤ 436 by omega), wrT_4 (show 100 ≤ 436 by omega), wrT_5 (show 100 ≤ 436 by omega), gsT_0, gsT_1, gsT_2, gsT_3, gsT_4, gsT_5, gsT_6, gsT_7, gsT_8, gsT_9, gsT_10, gsT_11, gsT_12, gsT_13, gsT_14, gsT_15, gsT_16, gsT_17, gsT_18, gsT_19, gsT_20, gsT_21, gsT_22, gsT_23, gsT_24, gsT_25, gsT_26, gsT_27, gsT_28, gsT_29, gsT_30, gsT_31, gsT_32, gsT_33, gsT_34, gsT_35, zcall_some, zpush_some, zpush_none, zsum_ref, zsum_int, zsum_long, zsum_nil, zsum_null, Nat.reduceAdd, Nat.reduceLeDiff, if_true]
        rw [eT] at e0
        simp (implicitDefEqProofs := false) (disch := omega) only [ze_173, zr_173_0, zr_173_1, zr_173_4, zr_173_5, zr_173_8, true_or, or_true, true_and, and_true, if_true, if_false, ldA_ref, ldA_null, nl_int, nl_ref, nl_fl, nl_null, c1_int, c1_ref, c1_null, x_at hx, rdT_0 hT, e0, zcall_some, zpush_some, zpush_none, zsum_ref, zsum_int, zsum_long, zsum_nil, zsum_null, Nat.reduceAdd, Nat.reduceLeDiff, if_true]
      have e2 : ∀ h, ev 283 [.ref 463, .int (nI c)] (putM 463 r h) = some (some (.int (nI (n + 1))), putM 463 (wLn (wTx r (upd (rTx r) n (nI c))) (nI (n + 1))) h) := fun h => by
        have l1 : ∀ g, rLn (wTx r g) = rLn r := fun _ => rfl
        have l2 : ∀ (r : Rst) v, rLn (wLn r v) = v := fun _ _ => rfl
        simp (implicitDefEqProofs := false) (disch := omega) only [ze_283, zr_283_0, zr_283_1, zr_283_3, zr_283_5, zr_283_8, zr_283_11, zr_283_12, zr_283_13, zr_283_14, zr_283_17, zr_283_19, zr_283_22, zr_283_24, zr_283_25, zr_283_26, zr_283_29, zr_283_30, zr_283_33, zr_283_34, zr_283_35, zr_283_36, zr_283_37, zr_283_38, zr_283_41, zr_283_42, zr_283_43, zr_283_46, zr_283_47, zr_283_50, true_or, or_true, true_and, and_true, if_true, if_false, ldA_ref, ldA_null, nl_int, nl_ref, nl_fl, nl_null, c1_int, c1_ref, c1_null, Nat.zero_add, Nat.zero_mul, Nat.one_mul, nI_add, nI_leI, nI_ltI, nI_eq, nI_mul, s_in, bI_0, show ¬ ¬ (32 ≤ c ∧ c ≤ 126) from by omega, gf_M, hbR.1, l1, l2, show ¬ n = 60 from by omega, chrC c (by omega), si_M7 (show 100 ≤ 463 by omega) hn, pf_M11 (show 100 ≤ 463 by omega), zcall_some, zpush_some, zpush_none, zsum_ref, zsum_int, zsum_long, zsum_nil, zsum_null, Nat.reduceAdd, Nat.reduceLeDiff, if_true]
      generalize hH1 : blk 436 5 (cT 436 (sT_ln (sT_sg T (upd (gT_sg T) n (nI c))) (nI (n + 1)))) H = H1 at e1
      have fo : ∀ p, (p < 436 ∨ 441 ≤ p) → H1.2.2 p = H.2.2 p := fun p hp => by rw [← hH1]; exact blk_out (by omega)
      have hs1 : H1.1 = H.1 ∧ H1.2.1 = H.2.1 := by rw [← hH1]; exact ⟨rfl, rfl⟩
      have hM1 : isB H1 463 9 (cellM 463 r) := hM.to fun p h1 h2 => fo p (by omega)
      have e3 := e2 H1
      rw [putM_id hM1] at e3
      refine ⟨_, H1, _, e1, e3, ⟨(fo 0 (by omega)).trans (hz 0 (by omega)), kd_c (hM1 0 (by omega))⟩, St.nw (sg' := sgU sg n c) (n' := n + 1) hc hM hz z1 (by omega) (fun p _ _ _ => fo p (by omega)) ((fo _ (by omega)).trans hx) (hc.2.1.to fun p _ _ => fo p (by omega)) (hc.2.2.1.to fun p _ _ => fo p (by omega)) (hc.2.2.2.1.to fun p _ _ => fo p (by omega)) (by rw [← hH1]; exact blk_isB) (by omega) (by omega) z4 ?_⟩
      obtain ⟨k1, k2, k3, k4, k5, k6, k7⟩ := hr.fr (H' := H1) (K2 := 12 * (i + 1)) (frG.lo (by omega) fun p h1 _ => fo p (by omega)) (by omega)
      exact ⟨k1, k2, k3, k4, k5, bufT_up k6 hn hc1 hc2, bufR_up k7 hn hc1 hc2⟩
    · have hn60 : n = 60 := by have := hbT.2.1; omega
      refine ⟨-3, H, H, ?_, ?_, mid.of hz hM, hS2⟩
      · simp (implicitDefEqProofs := false) (disch := omega) only [ze_173, zr_173_0, zr_173_1, zr_173_4, zr_173_5, zr_173_8, ze_174, zr_174_0, zr_174_1, zr_174_3, zr_174_5, zr_174_8, zr_174_11, zr_174_12, zr_174_13, zr_174_14, zr_174_17, zr_174_19, zr_174_22, zr_174_24, zr_174_25, zr_174_26, zr_174_29, zr_174_30, zr_174_33, zr_174_34, zr_174_35, zr_174_36, zr_174_37, zr_174_38, zr_174_41, zr_174_42, zr_174_43, zr_174_46, zr_174_47, zr_174_50, true_or, or_true, true_and, and_true, if_true, if_false, ldA_ref, ldA_null, nl_int, nl_ref, nl_fl, nl_null, c1_int, c1_ref, c1_null, Nat.zero_add, Nat.zero_mul, Nat.one_mul, nI_add, nI_leI, nI_ltI, nI_eq, nI_mul, x_at hx, s_within, bI_0, show ¬ ¬ (32 ≤ c ∧ c ≤ 126) from by omega, rdT_0 (hT), rdT_1 (hT), rdT_2 (hT), rdT_3 (hT), rdT_4 (hT), rdT_5 (hT), rdT_6 (hT), rdT_7 (hT), rdT_8 (hT), rdT_9 (hT), rdT_10 (hT), rdT_11 (hT), rdT_12 (hT), rdT_13 (hT), rdT_14 (hT), hbT.1, hn, zcall_some, zpush_some, zpush_none, zsum_ref, zsum_int, zsum_long, zsum_nil, zsum_null, Nat.reduceAdd, Nat.reduceLeDiff, if_true]
      · have e2 : ev 283 [.ref 463, .int (nI c)] (putM 463 r H) = some (some (.int (-3)), putM 463 r H) := by
          simp (implicitDefEqProofs := false) (disch := omega) only [ze_283, zr_283_0, zr_283_1, zr_283_3, zr_283_5, zr_283_8, zr_283_11, zr_283_12, zr_283_13, zr_283_14, zr_283_17, zr_283_19, zr_283_22, zr_283_24, zr_283_25, zr_283_26, zr_283_29, zr_283_30, zr_283_33, zr_283_34, zr_283_35, zr_283_36, zr_283_37, zr_283_38, zr_283_41, zr_283_42, zr_283_43, zr_283_46, zr_283_47, zr_283_50, true_or, or_true, true_and, and_true, if_true, if_false, ldA_ref, ldA_null, nl_int, nl_ref, nl_fl, nl_null, c1_int, c1_ref, c1_null, Nat.zero_add, Nat.zero_mul, Nat.one_mul, nI_add, nI_leI, nI_ltI, nI_eq, nI_mul, s_in, bI_0, show ¬ ¬ (32 ≤ c ∧ c ≤ 126) from by omega, gf_M, hbR.1, hn60, zcall_some, zpush_some, zpush_none, zsum_ref, zsum_int, zsum_long, zsum_nil, zsum_null, Nat.reduceAdd, Nat.reduceLeDiff, if_true]
        rw [eM] at e2; exact e2
  · refine ⟨-1, H, H, ?_, ?_, mid.of hz hM, hS2⟩
    · simp (implicitDefEqProofs := false) (disch := omega) only [ze_173, zr_173_0, zr_173_1, zr_173_4, zr_173_5, zr_173_8, ze_174, zr_174_0, zr_174_1, zr_174_3, zr_174_5, zr_174_8, zr_174_11, zr_174_12, zr_174_13, zr_174_14, zr_174_17, zr_174_19, zr_174_22, zr_174_24, zr_174_25, zr_174_26, zr_174_29, zr_174_30, zr_174_33, zr_174_34, zr_174_35, zr_174_36, zr_174_37, zr_174_38, zr_174_41, zr_174_42, zr_174_43, zr_174_46, zr_174_47, zr_174_50, true_or, or_true, true_and, and_true, if_true, if_false, ldA_ref, ldA_null, nl_int, nl_ref, nl_fl, nl_null, c1_int, c1_ref, c1_null, x_at hx, rdT_0 hT, s_within, bI_0, not_false_eq_true, h0, zcall_some, zpush_some, zpush_none, zsum_ref, zsum_int, zsum_long, zsum_nil, zsum_null, Nat.reduceAdd, Nat.reduceLeDiff, if_true]
    · simp (implicitDefEqProofs := false) (disch := omega) only [ze_283, zr_283_0, zr_283_1, zr_283_3, zr_283_5, zr_283_8, zr_283_11, zr_283_12, zr_283_13, zr_283_14, zr_283_17, zr_283_19, zr_283_22, zr_283_24, zr_283_25, zr_283_26, zr_283_29, zr_283_30, zr_283_33, zr_283_34, zr_283_35, zr_283_36, zr_283_37, zr_283_38, zr_283_41, zr_283_42, zr_283_43, zr_283_46, zr_283_47, zr_283_50, true_or, or_true, true_and, and_true, if_true, if_false, ldA_ref, ldA_null, nl_int, nl_ref, nl_fl, nl_null, c1_int, c1_ref, c1_null, s_in, bI_0, not_false_eq_true, h0, zcall_some, zpush_some, zpush_none, zsum_ref, zsum_int, zsum_long, zsum_nil, zsum_null, Nat.reduceAdd, Nat.reduceLeDiff, if_true]
theorem x_put (hx : H.2.2 100 = xC sv) {β : Type} (f : zH → Option β) : zpf H 100 11 3 (.int (nI 1)) f = f (zset H 100 (xC (nI 1))) := pf_c hx (Nat.le_of_ble_eq_true rfl) (by omega) rfl f
theorem zset_o {a p : Nat} {v : zC} (h : p ≠ a) : (zset H a v).2.2 p = H.2.2 p := if_neg h
theorem zset_e {a : Nat} {v : zC} : (zset H a v).2.2 a = v := if_pos rfl
theorem st_save : stepI L xs i (fun h => ev 197 [.ref 100] h) (fun h => ev 291 [.ref 463] h) := by
  intro H hSt
  obtain ⟨s, hs, nx, ct, sb, sv, T, cap, t, r, sg, n, hc, hM, hz, ⟨z1, z2, z3, z4⟩, hr⟩ := hSt
  have hx := hc.1
  have hB := hc.2.1
  have hSB := hc.2.2.2.1
  have hg := hr.1
  have e0 := s_cpB hSB hB (by omega) (by omega) (by omega) hg.bSl hg.fg
  generalize hH1 : blk 399 37 (cB 399 (pCpB sb s)) H = H1 at e0
  have fo : ∀ p, (p < 399 ∨ 436 ≤ p) → H1.2.2 p = H.2.2 p := fun p hp => by rw [← hH1]; exact blk_out (by omega)
  have hs1 : H1.1 = H.1 ∧ H1.2.1 = H.2.1 := by rw [← hH1]; exact ⟨rfl, rfl⟩
  have hx1 : H1.2.2 100 = xC sv := (fo _ (by omega)).trans hx
  have hx2 : (zset H1 100 (xC (nI 1))).2.2 100 = xC (nI 1) := zset_e
  have hB2 : isB (zset H1 100 (xC (nI 1))) 101 37 (cB 101 s) := hB.to fun p h1 h2 => (zset_o (by omega)).trans (fo p (by omega))
  have hg0 := hg
  obtain ⟨c, n2, gs, LS, hb, hsl⟩ := hg
  dsimp only
  have e1 : ev 197 [.ref 100] H = some (some (.int (nI c)), zset H1 100 (xC (nI 1))) := by
    simp (implicitDefEqProofs := false) (disch := omega) only [ze_197, zr_197_0, zr_197_1, zr_197_4, zr_197_5, zr_197_8, zr_197_11, zr_197_12, zr_197_13, zr_197_16, zr_197_17, zr_197_20, zr_197_23, true_or, or_true, true_and, and_true, if_true, if_false, ldA_ref, ldA_null, nl_int, nl_ref, nl_fl, nl_null, c1_int, c1_ref, c1_null, x_at hx, rdB_0 hSB, e0, x_put hx1, x_at hx2, rdB_0 (hB2), rdB_1 (hB2), rdB_2 (hB2), rdB_3 (hB2), rdB_4 (hB2), rdB_5 (hB2), rdB_6 (hB2), rdB_7 (hB2), hb.1.2.1, zcall_some, zpush_some, zpush_none, zsum_ref, zsum_int, zsum_long, zsum_nil, zsum_null, Nat.reduceAdd, Nat.reduceLeDiff, if_true]
  have e2 : ∀ h, ev 291 [.ref 463] (putM 463 r h) = some (some (.int (nI c)), putM 463 (wIs (wSv r (va_cpy (rS r) (rSv r) 0 0 8271)) (nI 1)) h) := fun h => by
    simp (implicitDefEqProofs := false) (disch := omega) only [ze_291, zr_291_0, zr_291_1, zr_291_4, zr_291_5, zr_291_6, zr_291_9, zr_291_10, zr_291_13, zr_291_16, zr_291_17, zr_291_18, zr_291_21, zr_291_22, zr_291_25, true_or, or_true, true_and, and_true, if_true, if_false, ldA_ref, ldA_null, nl_int, nl_ref, nl_fl, nl_null, c1_int, c1_ref, c1_null, Nat.zero_add, Nat.zero_mul, Nat.one_mul, nI_add, nI_leI, nI_ltI, nI_eq, nI_mul, kd_M, gf_M, cp_M12 (show 100 ≤ 463 by omega), pf_M2 (show 100 ≤ 463 by omega) (nI 1) (Or.inr rfl), s_rcm (show rS (wIs (wSv r (va_cpy (rS r) (rSv r) 0 0 8271)) (nI 1)) 0 = (nI c).toInt64 from hb.1.2.2.1), zcall_some, zpush_some, zpush_none, zsum_ref, zsum_int, zsum_long, zsum_nil, zsum_null, Nat.reduceAdd, Nat.reduceLeDiff, if_true]
  have fo2 : ∀ p, p ≠ 100 → (p < 399 ∨ 436 ≤ p) → (zset H1 100 (xC (nI 1))).2.2 p = H.2.2 p := fun p h1 h2 => (zset_o h1).trans (fo p h2)
  have hM1 : isB (zset H1 100 (xC (nI 1))) 463 9 (cellM 463 r) := hM.to fun p h1 h2 => fo2 p (by omega) (by omega)
  have e3 := e2 (zset H1 100 (xC (nI 1)))
  rw [putM_id hM1] at e3
  have z5 : (zset H1 100 (xC (nI 1))).1 = H.1 ∧ (zset H1 100 (xC (nI 1))).2.1 = H.2.1 := hs1
  refine ⟨_, _, _, e1, e3, ⟨(fo2 0 (by omega) (by omega)).trans (hz 0 (by omega)), kd_c (hM1 0 (by omega))⟩, St.nw (sg' := sg) (n' := n) hc hM hz z1 (by omega) (fun p _ _ _ => fo2 p (by omega) (by omega)) hx2 hB2 (hc.2.2.1.to fun p _ _ => fo2 p (by omega) (by omega)) (?_ : isB _ 399 37 (cB 399 (pCpB sb s))) (hc.2.2.2.2.1.to fun p _ _ => fo2 p (by omega) (by omega)) (by omega) (by omega) z4 ?_⟩
  · have : isB H1 399 37 (cB 399 (pCpB sb s)) := by rw [← hH1]; exact blk_isB
    exact this.to fun p h1 h2 => zset_o (by omega)
  · have hfr : frG (zset H1 100 (xC (nI 1))) H := frG.lo (by omega) fun p h1 _ => fo2 p (by omega) (by omega)
    obtain ⟨k1, k2, k3, k4, k5, k6, k7⟩ := hr.fr (K2 := 12 * (i + 1)) hfr (by omega)
    exact ⟨k1, k2, k3, ⟨rfl, Or.inr ⟨rfl, ((k1.cp sb).ag fun k hk => cpy0 _ _ hk)⟩⟩, k5, k6, k7⟩
theorem rChg_Sv (r : Rst) (p : Nat) : rSv (rChg r p) = rSv r := by
  unfold rChg
  split
  · rfl
  · rfl
theorem st_restore : stepI L xs i (fun h => ev 198 [.ref 100] h) (fun h => ev 292 [.ref 463] h) := by
  intro H hSt
  have hS2 := hSt.up
  obtain ⟨s, hs, nx, ct, sb, sv, T, cap, t, r, sg, n, hc, hM, hz, ⟨z1, z2, z3, z4⟩, hr⟩ := hSt
  have hx := hc.1
  have hB := hc.2.1
  have hSB := hc.2.2.2.1
  have hH := hc.2.2.1
  have hg := hr.1
  have hr0 := hr
  obtain ⟨-, ⟨n1, n2, n3⟩, -, ⟨v1, v2⟩, -⟩ := hr
  dsimp only
  rcases v2 with v2 | ⟨v2, hgb⟩
  · subst v2
    refine ⟨-2, H, H, ?_, ?_, mid.of hz hM, hS2⟩
    · simp (implicitDefEqProofs := false) (disch := omega) only [ze_198, zr_198_0, zr_198_1, zr_198_4, zr_198_7, zr_198_9, zr_198_10, zr_198_11, zr_198_14, zr_198_15, zr_198_18, zr_198_21, zr_198_22, zr_198_25, zr_198_26, zr_198_29, zr_198_32, zr_198_33, zr_198_34, zr_198_37, zr_198_40, zr_198_43, true_or, or_true, true_and, and_true, if_true, if_false, ldA_ref, ldA_null, nl_int, nl_ref, nl_fl, nl_null, c1_int, c1_ref, c1_null, x_at hx, zcall_some, zpush_some, zpush_none, zsum_ref, zsum_int, zsum_long, zsum_nil, zsum_null, Nat.reduceAdd, Nat.reduceLeDiff, if_true]
    · have e2 : ev 292 [.ref 463] (putM 463 r H) = some (some (.int (-2)), putM 463 r H) := by
        simp (implicitDefEqProofs := false) (disch := omega) only [ze_292, zr_292_0, zr_292_1, zr_292_4, zr_292_7, zr_292_9, zr_292_10, zr_292_11, zr_292_14, zr_292_15, zr_292_18, zr_292_19, zr_292_20, zr_292_23, zr_292_24, zr_292_27, zr_292_30, zr_292_31, zr_292_34, true_or, or_true, true_and, and_true, if_true, if_false, ldA_ref, ldA_null, nl_int, nl_ref, nl_fl, nl_null, c1_int, c1_ref, c1_null, gf_M, ← v1, zcall_some, zpush_some, zpush_none, zsum_ref, zsum_int, zsum_long, zsum_nil, zsum_null, Nat.reduceAdd, Nat.reduceLeDiff, if_true]
      rw [putM_id hM] at e2; exact e2
  · subst v2
    have e0 := s_hBegin hH hB (by omega) (by omega) (by omega) n1 hg.bSl hg.fg
    generalize hH1 : blk (138 + 2 + 37 * nx) 37 (cB (138 + 2 + 37 * nx) (pCpB (hs nx) s)) H = H1 at e0
    have fo1 : ∀ p, (p < 138 ∨ 399 ≤ p) → H1.2.2 p = H.2.2 p := fun p hp => by rw [← hH1]; exact blk_out (by omega)
    have hh1 : hiB H1 138 (fun i => if i = nx then pCpB (hs nx) s else hs i) nx ct := by rw [← hH1]; exact hiB_put hH n1 _
    have s1 : H1.1 = H.1 ∧ H1.2.1 = H.2.1 := by rw [← hH1]; exact ⟨rfl, rfl⟩
    have hB1 : isB H1 101 37 (cB 101 s) := hB.to fun p _ _ => fo1 p (by omega)
    have hSB1 : isB H1 399 37 (cB 399 sb) := hSB.to fun p _ _ => fo1 p (by omega)
    have hx1 : H1.2.2 100 = xC (nI 1) := (fo1 _ (by omega)).trans hx
    have fG1 : frG H1 H := frG.lo (by omega) fun p _ _ => fo1 p (by omega)
    have hgb1 := hgb.fr fG1
    have e1 := s_cpB hB1 hSB1 (by omega) (by omega) (by omega) hgb1.bSl hgb1.fg
    generalize hH2 : blk 101 37 (cB 101 (pCpB s sb)) H1 = H2 at e1
    have fo2 : ∀ p, (p < 101 ∨ 138 ≤ p) → H2.2.2 p = H1.2.2 p := fun p hp => by rw [← hH2]; exact blk_out (by omega)
    have s2 : H2.1 = H.1 ∧ H2.2.1 = H.2.1 := by rw [← hH2]; exact s1
    have hB2 : isB H2 101 37 (cB 101 (pCpB s sb)) := by rw [← hH2]; exact blk_isB
    have hx2 : H2.2.2 100 = xC (nI 1) := (fo2 _ (by omega)).trans hx1
    have hh2 : hiB H2 138 (fun i => if i = nx then pCpB (hs nx) s else hs i) nx ct := hh1.to fun p _ _ => fo2 p (by omega)
    obtain ⟨c, m2, gs, LS, hb, hsl⟩ := id hgb
    have hcl : gB_cl (pCpB s sb) = nI c := hb.1.2.1
    have hc12 := hb.1.1
    have e2 := s_finish (v := nI c) hx2 hh2 n1 n2
    rw [if_pos (nnN (by omega))] at e2
    have foA : ∀ p, p ≠ 138 → (hiO H2 138 ((nx + 1) % 7) (min (ct + 1) 6)).2.2 p = H2.2.2 p := fun p hp => hiO_o p hp
    have e3 : ev 198 [.ref 100] H = some (some (.int (nI c)), hiO H2 138 ((nx + 1) % 7) (min (ct + 1) 6)) := by
      simp (implicitDefEqProofs := false) (disch := omega) only [ze_198, zr_198_0, zr_198_1, zr_198_4, zr_198_7, zr_198_9, zr_198_10, zr_198_11, zr_198_14, zr_198_15, zr_198_18, zr_198_21, zr_198_22, zr_198_25, zr_198_26, zr_198_29, zr_198_32, zr_198_33, zr_198_34, zr_198_37, zr_198_40, zr_198_43, true_or, or_true, true_and, and_true, if_true, if_false, ldA_ref, ldA_null, nl_int, nl_ref, nl_fl, nl_null, c1_int, c1_ref, c1_null, Nat.zero_add, Nat.zero_mul, Nat.one_mul, nI_add, nI_leI, nI_ltI, nI_eq, nI_mul, x_at hx, x_at hx1, x_at hx2, show ¬ (1 : Nat) = 0 from by omega, (hi_at hH).1, e0, rdB_0 hB1, e1, rdB_0 (hB2), rdB_1 (hB2), rdB_2 (hB2), rdB_3 (hB2), rdB_4 (hB2), rdB_5 (hB2), rdB_6 (hB2), rdB_7 (hB2), hcl, e2, zcall_some, zpush_some, zpush_none, zsum_ref, zsum_int, zsum_long, zsum_nil, zsum_null, Nat.reduceAdd, Nat.reduceLeDiff, if_true]
    have e4 : ∀ h, ev 292 [.ref 463] (putM 463 r h) = some (some (.int (nI c)), putM 463 (wS (rChg r ct) (va_cpy (rSv r) (rS r) 0 0 8271)) h) := fun h => by
      have hv : rIs r = nI 1 := v1.symm
      have h00 : rS (wS (rChg r ct) (va_cpy (rSv r) (rS r) 0 0 8271)) 0 = (nI c).toInt64 := (cpy0 (rSv r) (rS r) (show 0 < 8271 by omega)).trans hb.1.2.2.1
      simp (implicitDefEqProofs := false) (disch := omega) only [ze_292, zr_292_0, zr_292_1, zr_292_4, zr_292_7, zr_292_9, zr_292_10, zr_292_11, zr_292_14, zr_292_15, zr_292_18, zr_292_19, zr_292_20, zr_292_23, zr_292_24, zr_292_27, zr_292_30, zr_292_31, zr_292_34, true_or, or_true, true_and, and_true, if_true, if_false, ldA_ref, ldA_null, nl_int, nl_ref, nl_fl, nl_null, c1_int, c1_ref, c1_null, Nat.zero_add, Nat.zero_mul, Nat.one_mul, nI_add, nI_leI, nI_ltI, nI_eq, nI_mul, kd_M, gf_M, hv, show ¬ (1 : Nat) = 0 from by omega, s_rchange (show 100 ≤ 463 by omega) n2 n3, cp_M21 (show 100 ≤ 463 by omega), rChg_Sv, rChg_S, s_rcm h00, zcall_some, zpush_some, zpush_none, zsum_ref, zsum_int, zsum_long, zsum_nil, zsum_null, Nat.reduceAdd, Nat.reduceLeDiff, if_true]
    generalize hH3 : hiO H2 138 ((nx + 1) % 7) (min (ct + 1) 6) = H3 at e3 foA
    have s3 : H3.1 = H.1 ∧ H3.2.1 = H.2.1 := by rw [← hH3]; exact s2
    have foB : ∀ p, (p < 101 ∨ 399 ≤ p) → H3.2.2 p = H.2.2 p := fun p hp => (foA p (by omega)).trans ((fo2 p (by omega)).trans (fo1 p (by omega)))
    have hM3 : isB H3 463 9 (cellM 463 r) := hM.to fun p _ _ => foB p (by omega)
    have e5 := e4 H3
    rw [putM_id hM3] at e5
    have fG3 : frG H3 H := frG.lo (by omega) fun p _ _ => foB p (by omega)
    refine ⟨_, _, _, e3, e5, ⟨(foB 0 (by omega)).trans (hz 0 (by omega)), kd_c (hM3 0 (by omega))⟩, St.nw (sg' := sg) (n' := n) hc hM hz z1 (by omega) (fun p _ _ _ => foB p (by omega)) ((foB _ (by omega)).trans hx) (hB2.to fun p _ _ => foA p (by omega)) (by rw [← hH3]; exact hiB_set hh2 _ _) (hSB.to fun p _ _ => foB p (by omega)) (hc.2.2.2.2.1.to fun p _ _ => foB p (by omega)) (by omega) (by omega) z4 ((hr0.fr fG3 (Nat.le_refl _)).mu (by omega) ?_)⟩
    exact (((hgb.fr fG3).cp s).ag fun k hk => cpy0 _ _ hk).up (by omega)
theorem st_undo : stepI L xs i (fun h => ev 199 [.ref 100] h) (fun h => ev 293 [.ref 463] h) := by
  intro H hSt
  have hS2 := hSt.up
  obtain ⟨s, hs, nx, ct, sb, sv, T, cap, t, r, sg, n, hc, hM, hz, ⟨z1, z2, z3, z4⟩, hr⟩ := hSt
  have hx := hc.1
  have hB := hc.2.1
  have hH := hc.2.2.1
  have hr0 := hr
  obtain ⟨hg, ⟨n1, n2, n3⟩, hp, -, -⟩ := hr
  dsimp only
  have hlast : 0 < ct → good H (hs ((nx + 6) % 7)) (fun k => rPa r (8271 * (ct - 1) + k)) (12 * i) := fun h => by
    have := hp (ct - 1) (by omega)
    rw [show nx + 7 - ct + (ct - 1) = nx + 6 by omega] at this
    exact this
  have e0 := s_hBack hH hB (by omega) (by omega) (by omega) n1 n2 (fun h => (hlast h).bSl) (fun h => (hlast h).fg)
  by_cases h0 : ct = 0
  · rw [if_pos h0] at e0
    refine ⟨-2, H, H, ?_, ?_, mid.of hz hM, hS2⟩
    · simp (implicitDefEqProofs := false) (disch := omega) only [ze_199, zr_199_0, zr_199_1, zr_199_4, zr_199_5, zr_199_8, zr_199_11, true_or, or_true, true_and, and_true, if_true, if_false, ldA_ref, ldA_null, nl_int, nl_ref, nl_fl, nl_null, c1_int, c1_ref, c1_null, x_at hx, (hi_at hH).1, e0, zcall_some, zpush_some, zpush_none, zsum_ref, zsum_int, zsum_long, zsum_nil, zsum_null, Nat.reduceAdd, Nat.reduceLeDiff, if_true]
    · have e2 : ev 293 [.ref 463] (putM 463 r H) = some (some (.int (-2)), putM 463 r H) := by
        simp (implicitDefEqProofs := false) (disch := omega) only [ze_293, zr_293_0, zr_293_1, zr_293_4, zr_293_7, zr_293_9, zr_293_10, zr_293_11, zr_293_12, zr_293_15, zr_293_16, zr_293_17, zr_293_20, zr_293_21, zr_293_24, zr_293_27, zr_293_28, zr_293_31, zr_293_32, zr_293_33, zr_293_36, zr_293_37, zr_293_40, zr_293_43, zr_293_44, zr_293_47, true_or, or_true, true_and, and_true, if_true, if_false, ldA_ref, ldA_null, nl_int, nl_ref, nl_fl, nl_null, c1_int, c1_ref, c1_null, Nat.zero_add, Nat.zero_mul, Nat.one_mul, nI_add, nI_leI, nI_ltI, nI_eq, nI_mul, gf_M, n3, h0, zcall_some, zpush_some, zpush_none, zsum_ref, zsum_int, zsum_long, zsum_nil, zsum_null, Nat.reduceAdd, Nat.reduceLeDiff, if_true]
      rw [putM_id hM] at e2; exact e2
  · rw [if_neg h0] at e0
    have hl := hlast (by omega)
    generalize hH1 : blk 101 37 (cB 101 (pCpB s (hs ((nx + 6) % 7)))) (hiO H 138 ((nx + 6) % 7) (ct - 1)) = H1 at e0
    have fo : ∀ p, p ≠ 138 → (p < 101 ∨ 138 ≤ p) → H1.2.2 p = H.2.2 p := fun p h1 h2 => by rw [← hH1]; exact (blk_out (by omega)).trans (hiO_o p h1)
    have s1 : H1.1 = H.1 ∧ H1.2.1 = H.2.1 := by rw [← hH1]; exact ⟨rfl, rfl⟩
    have e1 : ev 199 [.ref 100] H = some (some (.int (nI (ct - 1))), H1) := by
      simp (implicitDefEqProofs := false) (disch := omega) only [ze_199, zr_199_0, zr_199_1, zr_199_4, zr_199_5, zr_199_8, zr_199_11, true_or, or_true, true_and, and_true, if_true, if_false, ldA_ref, ldA_null, nl_int, nl_ref, nl_fl, nl_null, c1_int, c1_ref, c1_null, x_at hx, (hi_at hH).1, e0, zcall_some, zpush_some, zpush_none, zsum_ref, zsum_int, zsum_long, zsum_nil, zsum_null, Nat.reduceAdd, Nat.reduceLeDiff, if_true]
    have e2 : ∀ h, ev 293 [.ref 463] (putM 463 r h) = some (some (.int (nI (ct - 1))), putM 463 (wS (wPm r (nI (ct - 1))) (va_cpy (rPa r) (rS r) (8271 * (ct - 1)) 0 8271)) h) := fun h => by
      have l1 : ∀ v, rPm (wPm r v) = v := fun _ => rfl
      have l2 : ∀ v g, rPm (wS (wPm r v) g) = v := fun _ _ => rfl
      have l3 : ∀ v, rPa (wPm r v) = rPa r := fun _ => rfl
      have l4 : ∀ v, rS (wPm r v) = rS r := fun _ => rfl
      simp (implicitDefEqProofs := false) (disch := omega) only [ze_293, zr_293_0, zr_293_1, zr_293_4, zr_293_7, zr_293_9, zr_293_10, zr_293_11, zr_293_12, zr_293_15, zr_293_16, zr_293_17, zr_293_20, zr_293_21, zr_293_24, zr_293_27, zr_293_28, zr_293_31, zr_293_32, zr_293_33, zr_293_36, zr_293_37, zr_293_40, zr_293_43, zr_293_44, zr_293_47, true_or, or_true, true_and, and_true, if_true, if_false, ldA_ref, ldA_null, nl_int, nl_ref, nl_fl, nl_null, c1_int, c1_ref, c1_null, Nat.zero_add, Nat.zero_mul, Nat.one_mul, nI_add, nI_leI, nI_ltI, nI_eq, nI_mul, gf_M, n3, h0, nI_sub1, pf_M4 (show 100 ≤ 463 by omega), l1, l2, l3, l4, cp_M31 (show 100 ≤ 463 by omega), zcall_some, zpush_some, zpush_none, zsum_ref, zsum_int, zsum_long, zsum_nil, zsum_null, Nat.reduceAdd, Nat.reduceLeDiff, if_true]
    have hM1 : isB H1 463 9 (cellM 463 r) := hM.to fun p _ _ => fo p (by omega) (by omega)
    have e3 := e2 H1
    rw [putM_id hM1] at e3
    have fG : frG H1 H := frG.lo (by omega) fun p _ _ => fo p (by omega) (by omega)
    obtain ⟨k1, k2, k3, k4, k5, k6, k7⟩ := hr0.fr (K2 := 12 * (i + 1)) fG (by omega)
    refine ⟨_, _, _, e1, e3, ⟨(fo 0 (by omega) (by omega)).trans (hz 0 (by omega)), kd_c (hM1 0 (by omega))⟩, St.nw (sg' := sg) (n' := n) hc hM hz z1 (by omega) (fun p _ _ _ => fo p (by omega) (by omega)) ((fo _ (by omega) (by omega)).trans hx) (?_ : isB _ 101 37 (cB 101 (pCpB s (hs ((nx + 6) % 7))))) (?_ : hiB _ 138 hs ((nx + 6) % 7) (ct - 1)) (hc.2.2.2.1.to fun p _ _ => fo p (by omega) (by omega)) (hc.2.2.2.2.1.to fun p _ _ => fo p (by omega) (by omega)) (by omega) (by omega) z4 ⟨?_, ⟨Nat.mod_lt _ (by omega), by omega, rfl⟩, fun j hj => ?_, k4, k5, k6, k7⟩⟩
    · rw [← hH1]; exact blk_isB
    · rw [← hH1]; exact (hiB_set hH _ _).to fun p h1 h2 => blk_out (by omega)
    · refine ((((hl.fr fG).up (K2 := 12 * (i + 1)) (by omega)).cp s).ag fun k hk => ?_)
      show va_cpy (rPa r) (rS r) (8271 * (ct - 1)) 0 8271 k = rPa r (8271 * (ct - 1) + k)
      show (if 0 ≤ k ∧ k < 0 + 8271 then rPa r (8271 * (ct - 1) + (k - 0)) else rS r k) = _
      rw [if_pos (by omega), Nat.sub_zero]
    · have := k3 j (by omega)
      rw [show (nx + 7 - ct + j) % 7 = ((nx + 6) % 7 + 7 - (ct - 1) + j) % 7 by omega] at this
      exact this
end
