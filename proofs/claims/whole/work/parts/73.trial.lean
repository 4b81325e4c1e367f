/-! TRIAL: closings on a copy -/
section
variable {H : zH}
/-- only cells of a stretch have changed -/
def frm (H' H : zH) (a n : Nat) : Prop := H'.1 = H.1 ∧ H'.2.1 = H.2.1 ∧ ∀ p, (p < a ∨ a + n ≤ p) → H'.2.2 p = H.2.2 p
theorem frm.rf (H : zH) (a n : Nat) : frm H H a n := ⟨rfl, rfl, fun _ _ => rfl⟩
theorem frm.tr {H2 H1 : zH} {a n : Nat} (x : frm H2 H1 a n) (y : frm H1 H a n) : frm H2 H a n := ⟨x.1.trans y.1, x.2.1.trans y.2.1, fun p hp => (x.2.2 p hp).trans (y.2.2 p hp)⟩
theorem frm.blk {a n a2 n2 : Nat} {c : Nat → zC} (h1 : a ≤ a2) (h2 : a2 + n2 ≤ a + n) : frm (blk a2 n2 c H) H a n := ⟨rfl, rfl, fun p hp => blk_out (by omega)⟩
theorem frm.isB {H' : zH} {a n a2 n2 : Nat} {c : Nat → zC} (f : frm H' H a n) (hd : a2 + n2 ≤ a ∨ a + n ≤ a2) (hB : isB H a2 n2 c) : isB H' a2 n2 c := fun k hk => (f.2.2 _ (by omega)).trans (hB k hk)
end
section
variable {h H : zH} {b tr e n m ng : Nat} {s : tyB} {w : tyW}
def trB (H : zH) (tr : Nat) (w : tyW) : Prop := H.2.2 tr = .inr (9, [.ref (tr + 1), .ref (tr + 3), .ref (tr + 13)]) ∧ (∃ du, isB H (tr + 1) 2 (cD (tr + 1) du)) ∧ isB H (tr + 3) 10 (cW (tr + 3) w) ∧ ∃ d, isB H (tr + 13) 3 (cS (tr + 13) d)
theorem tr_at (hT : trB H tr w) : zkd H tr = 9 ∧ (∀ (β : Type) (f : Value → Option β), zgf H tr 9 0 f = f (.ref (tr + 1))) ∧ (∀ (β : Type) (f : Value → Option β), zgf H tr 9 1 f = f (.ref (tr + 3))) ∧ ∀ (β : Type) (f : Value → Option β), zgf H tr 9 2 f = f (.ref (tr + 13)) := ⟨kd_c hT.1, fun _ f => gf_c hT.1 rfl f, fun _ f => gf_c hT.1 rfl f, fun _ f => gf_c hT.1 rfl f⟩
theorem pW3_gc {D : Nat → Int64} {f : Int32} : gW_gc (pW3 w D m f ng) = gW_gc w := rfl
theorem s_payoutOf (hT : trB H tr w) (hB : isB H b 37 (cB b s)) (ht : 100 ≤ tr) (hb : 100 ≤ b) (dj : b + 37 ≤ tr ∨ tr + 16 ≤ b) (hm : m < 12) (hn : n ≤ 5) (hbn : gR_bn (gB_ru s) = nI n) (hng : ng ≤ 3) (hg : gW_gc w = nI ng) :
    ∃ H', ev 152 [.ref tr, .int (nI m), .ref b] H = some (some (.long (pSum (pL4 w (pDD (gB_ru s) n w) m (gB_fg s) ng))), H') ∧ frm H' H tr 16 ∧ trB H' tr (pW3 w (pDD (gB_ru s) n w) m (gB_fg s) ng) := by
  have hT0 := hT
  obtain ⟨h0, ⟨du, hD⟩, hW, ⟨d, hS⟩⟩ := hT
  have c1 := s_slipClear (h := H) (q := tr + 13) (d := d) (by omega)
  rw [blk_id hS] at c1
  generalize hd0 : sS_sm (sS_ct d (nI 0)) 0 = d0 at c1
  have hL0 : isL d0 [] := by rw [← hd0]; exact isL_clear d
  have hW1 : isB (blk (tr + 13) 3 (cS (tr + 13) d0) H) (tr + 3) 10 (cW (tr + 3) w) := isB_skip (by omega) hW
  have hD1 : isB (blk (tr + 13) 3 (cS (tr + 13) d0) H) (tr + 1) 2 (cD (tr + 1) du) := isB_skip (by omega) hD
  have hR1 : isB (blk (tr + 13) 3 (cS (tr + 13) d0) H) (b + 2) 5 (cR (b + 2) (gB_ru s)) := isB_skip (by omega) (B_R hB)
  have hB1 : isB (blk (tr + 13) 3 (cS (tr + 13) d0) H) b 37 (cB b s) := isB_skip (by omega) hB
  obtain ⟨d', e1, hL'⟩ := s_close (q := tr + 13) (a := tr + 3) (c := tr + 1) (r := b + 2) (h := blk (tr + 13) 3 (cS (tr + 13) d0) H) (d := d0) (w := w) (du := du) (f := gB_fg s) ⟨by omega, by omega, by omega, by omega, by omega, by omega⟩ (by omega) (by omega) (by omega) hm hR1 hn hbn hng hg hL0
  have k1 : zZ (tr + 13) (tr + 3) (tr + 1) d0 w du (blk (tr + 13) 3 (cS (tr + 13) d0) H) = blk (tr + 13) 3 (cS (tr + 13) d0) H := by
    unfold zZ
    rw [blk_id hD1, blk_id hW1, blk_over]
  rw [k1] at e1
  rw [eq_pW3 (pDD_eq du) hm] at e1
  rw [eq_pL5 (pDD_eq du) hm] at hL'
  generalize pDues (gB_ru s) n w 60 du = D at e1
  generalize hH2 : zZ (tr + 13) (tr + 3) (tr + 1) d' (pW3 w (pDD (gB_ru s) n w) m (gB_fg s) ng) D (blk (tr + 13) 3 (cS (tr + 13) d0) H) = H2 at e1
  have hS2 : isB H2 (tr + 13) 3 (cS (tr + 13) d') := by rw [← hH2]; exact blk_isB
  have hW2 : isB H2 (tr + 3) 10 (cW (tr + 3) (pW3 w (pDD (gB_ru s) n w) m (gB_fg s) ng)) := by rw [← hH2]; exact isB_skip (by omega) blk_isB
  have hD2 : isB H2 (tr + 1) 2 (cD (tr + 1) D) := by rw [← hH2]; exact isB_skip (by omega) (isB_skip (by omega) blk_isB)
  have fr : frm H2 H tr 16 := by
    rw [← hH2]
    exact (frm.blk (by omega) (by omega)).tr ((frm.blk (by omega) (by omega)).tr ((frm.blk (by omega) (by omega)).tr (frm.blk (by omega) (by omega))))
  have h02 : H2.2.2 tr = .inr (9, [.ref (tr + 1), .ref (tr + 3), .ref (tr + 13)]) := by
    rw [← hH2]
    unfold zZ
    rw [blk_out (by omega), blk_out (by omega), blk_out (by omega), blk_out (by omega)]; exact h0
  have h01 : (blk (tr + 13) 3 (cS (tr + 13) d0) H).2.2 tr = .inr (9, [.ref (tr + 1), .ref (tr + 3), .ref (tr + 13)]) := by
    rw [blk_out (by omega)]; exact h0
  have hp : ev 149 [.ref (tr + 13)] H2 = some (some (.long (pPd (pL5 w (pDD (gB_ru s) n w) m (gB_fg s) ng))), H2) := s_paid hS2 hL' pL5_pos
  rw [pPd_pL5] at hp
  have hT1 : trB (blk (tr + 13) 3 (cS (tr + 13) d0) H) tr w := ⟨h01, ⟨du, hD1⟩, hW1, ⟨d0, blk_isB⟩⟩
  have hT2 : trB H2 tr (pW3 w (pDD (gB_ru s) n w) m (gB_fg s) ng) := ⟨h02, ⟨D, hD2⟩, hW2, ⟨d', hS2⟩⟩
  refine ⟨H2, ?_, fr, hT2⟩
  simp (implicitDefEqProofs := false) (disch := omega) only [ze_152, zr_152_0, zr_152_1, zr_152_4, zr_152_7, zr_152_8, zr_152_11, zr_152_12, zr_152_15, zr_152_16, zr_152_17, zr_152_20, zr_152_21, zr_152_24, zr_152_25, zr_152_28, zr_152_31, zr_152_32, zr_152_35, zr_152_38, true_or, or_true, true_and, and_true, if_true, if_false, ldA_ref, ldA_null, nl_int, nl_ref, nl_fl, nl_null, c1_int, c1_ref, c1_null, Nat.zero_add, Nat.zero_mul, Nat.one_mul, nI_add, nI_leI, nI_ltI, nI_eq, nI_mul, tr_at hT0, tr_at hT1, tr_at hT2, rdS_0 hS, c1, rdB_0 (hB1), rdB_1 (hB1), rdB_2 (hB1), rdB_3 (hB1), rdB_4 (hB1), rdB_5 (hB1), rdB_6 (hB1), rdB_7 (hB1), rdD_0 hD1, e1, rdS_0 hS2, hp, zcall_some, zpush_some, zpush_none, zsum_ref, zsum_int, zsum_long, zsum_nil, zsum_null, Nat.reduceAdd, Nat.reduceLeDiff, if_true]
def wNx (w t : tyW) (m : Nat) (x : Int32) : tyW := sW_en (pCpW w t) (upd (gW_en (pCpW w t)) (24 + m) (gW_en (pCpW w t) (24 + m) + x))
theorem s_trCopy (hT : trB H tr w) (hB : isB H b 37 (cB b s)) (ht : 100 ≤ tr) (hb : 100 ≤ b) (dj : b + 37 ≤ tr ∨ tr + 16 ≤ b) (he : e < 3) (hs : bSl H s) : ev 19 [.ref (tr + 3), .ref (b + 7 + 10 * e)] H = some (none, blk (tr + 3) 10 (cW (tr + 3) (pCpW w (gB_wk s e))) H) := by
  have e1 := s_cpW (h := H) (a := tr + 3) (b := b + 7 + 10 * e) (s := w) (by omega) (by omega) (B_W hB he) (by omega) (fun m q hm hq => ⟨sl_outW hT.2.2.1 (hs e m q he hm hq), hs e m q he hm hq⟩)
  rw [blk_id hT.2.2.1] at e1
  exact e1
theorem trB_put (hT : trB H tr w) (w2 : tyW) : trB (blk (tr + 3) 10 (cW (tr + 3) w2) H) tr w2 := by
  obtain ⟨h0, ⟨du, hD⟩, hW, ⟨d, hS⟩⟩ := hT
  exact ⟨(blk_out (by omega)).trans h0, ⟨du, isB_skip (by omega) hD⟩, blk_isB, ⟨d, isB_skip (by omega) hS⟩⟩
theorem s_nextPayout {x : Int32} (hT : trB H tr w) (hB : isB H b 37 (cB b s)) (ht : 100 ≤ tr) (hb : 100 ≤ b) (dj : b + 37 ≤ tr ∨ tr + 16 ≤ b) (he : e < 3) (hs : bSl H s) (hm : m < 12) (hcl : gB_cl s = nI m) (hn : n ≤ 5) (hbn : gR_bn (gB_ru s) = nI n) (hng : ng ≤ 3) (hg : gW_gc (gB_wk s e) = nI ng) :
    ∃ H' w', ev 151 [.ref tr, .ref b, .int (nI e), .int x] H = some (some (.long (pSum (pL4 (wNx w (gB_wk s e) m x) (pDD (gB_ru s) n (wNx w (gB_wk s e) m x)) m (gB_fg s) ng))), H') ∧ frm H' H tr 16 ∧ trB H' tr w' := by
  have e1 := s_trCopy hT hB ht hb dj he hs
  generalize hw1 : pCpW w (gB_wk s e) = w1 at e1
  have hT1 := trB_put hT w1
  have hB1 : isB (blk (tr + 3) 10 (cW (tr + 3) w1) H) b 37 (cB b s) := isB_skip (by omega) hB
  have hT2 := trB_put hT1 (wNx w (gB_wk s e) m x)
  rw [blk_over] at hT2
  have hB2 : isB (blk (tr + 3) 10 (cW (tr + 3) (wNx w (gB_wk s e) m x)) H) b 37 (cB b s) := isB_skip (by omega) hB
  have hg2 : gW_gc (wNx w (gB_wk s e) m x) = nI ng := hg
  obtain ⟨H2, e2, f2, t2⟩ := s_payoutOf hT2 hB2 ht hb dj hm hn hbn hng hg2
  refine ⟨H2, _, ?_, f2.tr (frm.blk (by omega) (by omega)), t2⟩
  have hx : sW_en w1 (upd (gW_en w1) (24 + m) (gW_en w1 (24 + m) + x)) = wNx w (gB_wk s e) m x := by rw [← hw1]; rfl
  simp (implicitDefEqProofs := false) (disch := omega) only [ze_151, zr_151_0, zr_151_1, zr_151_4, zr_151_6, zr_151_8, zr_151_11, zr_151_14, zr_151_17, zr_151_18, zr_151_19, zr_151_22, zr_151_23, zr_151_26, zr_151_27, zr_151_28, zr_151_31, zr_151_32, zr_151_35, zr_151_38, zr_151_40, zr_151_42, zr_151_43, zr_151_44, zr_151_45, zr_151_46, zr_151_47, zr_151_48, zr_151_49, zr_151_51, zr_151_52, zr_151_55, true_or, or_true, true_and, and_true, if_true, if_false, ldA_ref, ldA_null, nl_int, nl_ref, nl_fl, nl_null, c1_int, c1_ref, c1_null, Nat.zero_add, Nat.zero_mul, Nat.one_mul, nI_add, nI_leI, nI_ltI, nI_eq, nI_mul, rdB_0 (hB), rdB_1 (hB), rdB_2 (hB), rdB_3 (hB), rdB_4 (hB), rdB_5 (hB), rdB_6 (hB), rdB_7 (hB), hcl, s_isMonth, bI_0, show ¬ ¬ (0 ≤ m ∧ m ≤ 11) from by omega, bI_ok, tr_at hT, rf_some, rdW_0 hT.2.2.1, e1, tr_at hT1, rdW_0 (hT1.2.2.1), rdW_1 (hT1.2.2.1), rdW_2 (hT1.2.2.1), rdW_3 (hT1.2.2.1), rdW_4 (hT1.2.2.1), rdW_5 (hT1.2.2.1), rdW_6 (hT1.2.2.1), rdW_7 (hT1.2.2.1), rdW_8 (hT1.2.2.1), rdW_9 (hT1.2.2.1), rdW_10 (hT1.2.2.1), rdW_11 (hT1.2.2.1), rdW_12 (hT1.2.2.1), rdW_13 (hT1.2.2.1), rdW_14 (hT1.2.2.1), rdW_15 (hT1.2.2.1), rdW_16 (hT1.2.2.1), rdW_17 (hT1.2.2.1), rdW_18 (hT1.2.2.1), rdW_19 (hT1.2.2.1), rdW_20 (hT1.2.2.1), rdW_21 (hT1.2.2.1), rdW_22 (hT1.2.2.1), rdW_23 (hT1.2.2.1), rdW_24 (hT1.2.2.1), rdW_25 (hT1.2.2.1), rdW_26 (hT1.2.2.1), rdW_27 (hT1.2.2.1), rdW_28 (hT1.2.2.1), rdW_29 (hT1.2.2.1), wrW_2 (show 100 ≤ tr + 3 by omega), hx, tr_at hT2, e2, zcall_some, zpush_some, zpush_none, zsum_ref, zsum_int, zsum_long, zsum_nil, zsum_null, Nat.reduceAdd, Nat.reduceLeDiff, if_true]
  done
end
