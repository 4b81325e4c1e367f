/-! BOOKS: closing the next month -/
section
variable {h H : zH} {b c e n m : Nat} {s : tyB} {du : tyD}
def wClo (w : tyW) (D : Nat → Int64) (m : Nat) (f : Int32) (ng q : Nat) : tyW := sW_sl (pW3 w D m f ng) (va_up (gW_sl (pW3 w D m f ng)) m (some q))
def hClo (H : zH) (b c q : Nat) (s : tyB) (D : Nat → Int64) (d : tyS) : zH := blk q 3 (cS q d) (blk b 37 (cB b s) (blk c 2 (cD c D) (alc H 3 220)))
theorem s_cloStep {v4 : Value} {ng : Nat} (hB : isB H b 37 (cB b s)) (hD : isB H c 2 (cD c du)) (hb : 100 ≤ b) (hc : 100 ≤ c) (j1 : b + 37 ≤ c ∨ c + 2 ≤ b) (bb : b + 37 ≤ 100 + H.1) (bc : c + 2 ≤ 100 + H.1) (he : e < 3) (hm : m < 12) (hn : n ≤ 5) (hbn : gR_bn (gB_ru s) = nI n) (hng : ng ≤ 3) (hg : gW_gc (gB_wk s e) = nI ng) :
    ∃ d, isL d (pL5 (gB_wk s e) (pDues (gB_ru s) n (gB_wk s e) 60 du) m (gB_fg s) ng) ∧ rn 58 17 [.ref b, .ref c, .int (nI m), .int (nI e), v4] [] H = rn 58 17 [.ref b, .ref c, .int (nI m), .int (nI (e + 1)), .ref (100 + H.1)] [] (hClo H b c (100 + H.1) (sB_w s e (wClo (gB_wk s e) (pDues (gB_ru s) n (gB_wk s e) 60 du) m (gB_fg s) ng (100 + H.1))) (pDues (gB_ru s) n (gB_wk s e) 60 du) d) := by
  have hB1 : isB (alc H 3 220) b 37 (cB b s) := hB
  have hD1 : isB (alc H 3 220) c 2 (cD c du) := hD
  have hB2 : isB (blk (100 + H.1) 3 (cS (100 + H.1) nS) (alc H 3 220)) b 37 (cB b s) := isB_skip (by omega) hB1
  have hD2 : isB (blk (100 + H.1) 3 (cS (100 + H.1) nS) (alc H 3 220)) c 2 (cD c du) := isB_skip (by omega) hD1
  obtain ⟨d, e1, hL⟩ := B_close (f := gB_fg s) hB2 hD2 blk_isB hb hc (by omega) j1 (by omega) (by omega) he hm hn hbn hng hg isL_nS
  refine ⟨d, hL, ?_⟩
  generalize hDD : pDues (gB_ru s) n (gB_wk s e) 60 du = D at e1 hL ⊢
  have hs := s_newSlip (h := H)
  have k0 : isB (blk (100 + H.1) 1 (ce1 (.inr (7, [.null, .null, .int 0, .long 0]))) (alc H 1 4)) b 37 (cB b s) := isB_skip (by omega) hB
  have k1 : blk (100 + H.1) 3 (cS (100 + H.1) d) (blk b 37 (cB b (sB_w s e (pW3 (gB_wk s e) D m (gB_fg s) ng))) (blk c 2 (cD c D) (blk (100 + H.1) 3 (cS (100 + H.1) nS) (alc H 3 220)))) = blk b 37 (cB b (sB_w s e (pW3 (gB_wk s e) D m (gB_fg s) ng))) (blk (100 + H.1) 3 (cS (100 + H.1) d) (blk c 2 (cD c D) (alc H 3 220))) := by
    rw [blk_swap (a := 100 + H.1) (n := 3) (b := b) (m := 37) (by omega), blk_swap (a := 100 + H.1) (n := 3) (b := c) (m := 2) (by omega), blk_over, blk_swap (a := 100 + H.1) (n := 3) (b := c) (m := 2) (by omega)]
  rw [k1] at e1
  have k2 : zotg (zkd (blk b 37 (cB b (sB_w s e (pW3 (gB_wk s e) D m (gB_fg s) ng))) (blk (100 + H.1) 3 (cS (100 + H.1) d) (blk c 2 (cD c D) (alc H 3 220)))) (100 + H.1)) = 5 := by
    rw [kd_skip (by omega), rdS_0 blk_isB]; rfl
  have k3 : blk b 37 (cB b (sB_w s e (wClo (gB_wk s e) D m (gB_fg s) ng (100 + H.1)))) (blk (100 + H.1) 3 (cS (100 + H.1) d) (blk c 2 (cD c D) (alc H 3 220))) = hClo H b c (100 + H.1) (sB_w s e (wClo (gB_wk s e) D m (gB_fg s) ng (100 + H.1))) D d := by
    unfold hClo
    rw [blk_swap (a := b) (n := 37) (b := 100 + H.1) (m := 3) (by omega)]
  rw [← k3, zl_58_17]
  have hw := BwW_sl (blk_isB (a := b) (n := 37) (c := cB b (sB_w s e (pW3 (gB_wk s e) D m (gB_fg s) ng))) (h := blk (100 + H.1) 3 (cS (100 + H.1) d) (blk c 2 (cD c D) (alc H 3 220)))) hb he
  have e3 : (3 : Nat) ≤ e ↔ False := by simp; omega
  simp (implicitDefEqProofs := false) (disch := omega) only [ze_58, zr_58_0, zr_58_1, zr_58_4, zr_58_5, zr_58_6, zr_58_9, zr_58_12, zr_58_14, zr_58_15, zr_58_16, zr_58_18, zr_58_19, zr_58_22, zr_58_25, zr_58_26, zr_58_29, zr_58_31, zr_58_32, zr_58_33, zr_58_36, zr_58_37, zr_58_38, zr_58_39, zr_58_40, zr_58_43, zr_58_44, zr_58_47, zr_58_49, zr_58_52, zr_58_53, zr_58_56, zr_58_57, zr_58_58, zr_58_61, zr_58_62, zr_58_64, zr_58_65, zr_58_68, zr_58_71, zr_58_72, zr_58_73, zr_58_74, zr_58_75, zr_58_78, zr_58_79, zr_58_80, zr_58_83, zr_58_84, true_or, or_true, true_and, and_true, if_true, if_false, ldA_ref, ldA_null, nl_int, nl_ref, nl_fl, nl_null, c1_int, c1_ref, c1_null, Nat.zero_add, Nat.zero_mul, Nat.one_mul, nI_add, nI_leI, nI_ltI, nI_eq, nI_mul, e3, znew_b, hs, zcall_some, zpush_some, zpush_none, zsum_ref, zsum_int, zsum_long, zsum_nil, zsum_null, Nat.reduceAdd, Nat.reduceLeDiff, if_true, rdB_0 (hB2), rdB_1 (hB2), rdB_2 (hB2), rdB_3 (hB2), rdB_4 (hB2), rdB_5 (hB2), rdB_6 (hB2), rdB_7 (hB2), rf_some, rdW_0 (B_W hB2 he), rdD_0 (hD2), rdD_1 (hD2), rdD_2 (hD2), rdD_3 (hD2), e1, rdB_0 (blk_isB), rdB_1 (blk_isB), rdB_2 (blk_isB), rdB_3 (blk_isB), rdB_4 (blk_isB), rdB_5 (blk_isB), rdB_6 (blk_isB), rdB_7 (blk_isB), rdW_0 (B_W blk_isB he), rdW_1 (B_W blk_isB he), rdW_2 (B_W blk_isB he), rdW_3 (B_W blk_isB he), rdW_4 (B_W blk_isB he), rdW_5 (B_W blk_isB he), rdW_6 (B_W blk_isB he), rdW_7 (B_W blk_isB he), rdW_8 (B_W blk_isB he), rdW_9 (B_W blk_isB he), rdW_10 (B_W blk_isB he), rdW_11 (B_W blk_isB he), rdW_12 (B_W blk_isB he), rdW_13 (B_W blk_isB he), rdW_14 (B_W blk_isB he), rdW_15 (B_W blk_isB he), rdW_16 (B_W blk_isB he), rdW_17 (B_W blk_isB he), rdW_18 (B_W blk_isB he), rdW_19 (B_W blk_isB he), rdW_20 (B_W blk_isB he), rdW_21 (B_W blk_isB he), rdW_22 (B_W blk_isB he), rdW_23 (B_W blk_isB he), rdW_24 (B_W blk_isB he), rdW_25 (B_W blk_isB he), rdW_26 (B_W blk_isB he), rdW_27 (B_W blk_isB he), rdW_28 (B_W blk_isB he), rdW_29 (B_W blk_isB he), gsB_0, gsB_1, gsB_2, gsB_3, gsB_4, gsB_5, gsB_6, gsB_7, gsB_8, gsB_9, gsB_10, gsB_11, gsB_12, gsB_13, gsB_14, gsB_15, gsB_16, gsB_17, gsB_18, gsB_19, gsB_20, gsB_21, gsB_22, gsB_23, gsB_24, hw _ _ _ _ hm k2, sB_w_w, blk_over]
  rfl
theorem hClo_B {q : Nat} {D : Nat → Int64} {d : tyS} (j2 : b + 37 ≤ q) : isB (hClo H b c q s D d) b 37 (cB b s) := isB_skip (by omega) blk_isB
theorem hClo_D {q : Nat} {D : Nat → Int64} {d : tyS} (j1 : b + 37 ≤ c ∨ c + 2 ≤ b) (j3 : c + 2 ≤ q) : isB (hClo H b c q s D d) c 2 (cD c D) := isB_skip (by omega) (isB_skip (by omega) blk_isB)
theorem hClo_S {q : Nat} {D : Nat → Int64} {d : tyS} : isB (hClo H b c q s D d) q 3 (cS q d) := blk_isB
theorem hClo_o {q p : Nat} {D : Nat → Int64} {d : tyS} (h1 : p < b ∨ b + 37 ≤ p) (h2 : p < c ∨ c + 2 ≤ p) (h3 : p < q ∨ q + 3 ≤ p) : (hClo H b c q s D d).2.2 p = H.2.2 p := by
  unfold hClo
  rw [blk_out h3, blk_out h1, blk_out h2]; rfl
def bClN (s : tyB) (W : Nat → tyW) (m : Nat) : tyB := sB_fg (sB_cl (sB_wk s (fun i => if i < 3 then W i else gB_wk s i)) (nI (m + 1))) (nI 0)
theorem sB_3 (s : tyB) (W : Nat → tyW) : sB_w (sB_w (sB_w s 0 (W 0)) 1 (W 1)) 2 (W 2) = sB_wk s (fun i => if i < 3 then W i else gB_wk s i) := by
  have : (fun i => if i = 2 then W 2 else if i = 1 then W 1 else if i = 0 then W 0 else gB_wk s i) = fun i => if i < 3 then W i else gB_wk s i := by
    funext i
    by_cases h2 : i = 2
    · subst h2; rfl
    · by_cases h1 : i = 1
      · subst h1; rfl
      · by_cases h0 : i = 0
        · subst h0; rfl
        · rw [if_neg h2, if_neg h1, if_neg h0, if_neg (by omega)]
  show sB_wk (sB_w (sB_w s 0 (W 0)) 1 (W 1)) (fun i => if i = 2 then W 2 else if i = 1 then W 1 else if i = 0 then W 0 else gB_wk s i) = _
  rw [this]; rfl
/-- what a closing leaves of the heap -/
def cloH (H' H : zH) (b c m n : Nat) (s : tyB) (ngs : Nat → Nat) (Ds : Nat → Nat → Int64) : Prop :=
  H'.1 = H.1 + 9 ∧ H'.2.1 = H.2.1 + 660 ∧ isB H' b 37 (cB b (bClN s (fun e => wClo (gB_wk s e) (Ds e) m (gB_fg s) (ngs e) (100 + H.1 + 3 * e)) m)) ∧ (∃ du, isB H' c 2 (cD c du)) ∧ (∀ e, e < 3 → ∃ du, Ds e = pDues (gB_ru s) n (gB_wk s e) 60 du) ∧ (∀ e, e < 3 → ∃ d, isB H' (100 + H.1 + 3 * e) 3 (cS (100 + H.1 + 3 * e) d) ∧ isL d (pL5 (gB_wk s e) (Ds e) m (gB_fg s) (ngs e))) ∧ ∀ p, p < 100 + H.1 → (p < b ∨ b + 37 ≤ p) → (p < c ∨ c + 2 ≤ p) → H'.2.2 p = H.2.2 p
theorem s_closeNext {ngs : Nat → Nat} (hB : isB H b 37 (cB b s)) (hD : isB H c 2 (cD c du)) (hb : 100 ≤ b) (hc : 100 ≤ c) (j1 : b + 37 ≤ c ∨ c + 2 ≤ b) (bb : b + 37 ≤ 100 + H.1) (bc : c + 2 ≤ 100 + H.1) (hm : m < 12) (hcl : gB_cl s = nI m) (hn : n ≤ 5) (hbn : gR_bn (gB_ru s) = nI n) (hng : ∀ e, e < 3 → ngs e ≤ 3 ∧ gW_gc (gB_wk s e) = nI (ngs e)) :
    ∃ H' Ds, ev 58 [.ref b, .ref c] H = some (some (.int (nI m)), H') ∧ cloH H' H b c m n s ngs Ds := by
  obtain ⟨d0, L0, e0⟩ := s_cloStep (v4 := .float 0) hB hD hb hc j1 bb bc (show 0 < 3 by omega) hm hn hbn (hng 0 (by omega)).1 (hng 0 (by omega)).2
  generalize hD0 : pDues (gB_ru s) n (gB_wk s 0) 60 du = D0 at L0 e0
  generalize hW0 : wClo (gB_wk s 0) D0 m (gB_fg s) (ngs 0) (100 + H.1) = W0 at e0
  have b0 : isB (hClo H b c (100 + H.1) (sB_w s 0 W0) D0 d0) b 37 (cB b (sB_w s 0 W0)) := hClo_B bb
  have c0 : isB (hClo H b c (100 + H.1) (sB_w s 0 W0) D0 d0) c 2 (cD c D0) := hClo_D j1 bc
  have z0 : (hClo H b c (100 + H.1) (sB_w s 0 W0) D0 d0).1 = H.1 + 3 := rfl
  have y0 : (hClo H b c (100 + H.1) (sB_w s 0 W0) D0 d0).2.1 = H.2.1 + 220 := rfl
  have x0 : isB (hClo H b c (100 + H.1) (sB_w s 0 W0) D0 d0) (100 + H.1) 3 (cS (100 + H.1) d0) := hClo_S
  have o0 : ∀ p, p < 100 + H.1 → (p < b ∨ b + 37 ≤ p) → (p < c ∨ c + 2 ≤ p) → (hClo H b c (100 + H.1) (sB_w s 0 W0) D0 d0).2.2 p = H.2.2 p := fun p h1 h2 h3 => hClo_o h2 h3 (by omega)
  generalize hClo H b c (100 + H.1) (sB_w s 0 W0) D0 d0 = H0 at *
  obtain ⟨d1, L1, e1⟩ := s_cloStep (v4 := .ref (100 + H.1)) b0 c0 hb hc j1 (by omega) (by omega) (show 1 < 3 by omega) hm hn hbn (hng 1 (by omega)).1 (hng 1 (by omega)).2
  have k1 : gB_wk (sB_w s 0 W0) 1 = gB_wk s 1 := rfl
  rw [k1] at L1 e1
  rw [show gB_ru (sB_w s 0 W0) = gB_ru s from rfl, show gB_fg (sB_w s 0 W0) = gB_fg s from rfl] at L1 e1
  generalize hD1 : pDues (gB_ru s) n (gB_wk s 1) 60 D0 = D1 at L1 e1
  generalize hW1 : wClo (gB_wk s 1) D1 m (gB_fg s) (ngs 1) (100 + H0.1) = W1 at e1
  have b1 : isB (hClo H0 b c (100 + H0.1) (sB_w (sB_w s 0 W0) 1 W1) D1 d1) b 37 (cB b (sB_w (sB_w s 0 W0) 1 W1)) := hClo_B (by omega)
  have c1 : isB (hClo H0 b c (100 + H0.1) (sB_w (sB_w s 0 W0) 1 W1) D1 d1) c 2 (cD c D1) := hClo_D j1 (by omega)
  have z1 : (hClo H0 b c (100 + H0.1) (sB_w (sB_w s 0 W0) 1 W1) D1 d1).1 = H0.1 + 3 := rfl
  have y1 : (hClo H0 b c (100 + H0.1) (sB_w (sB_w s 0 W0) 1 W1) D1 d1).2.1 = H0.2.1 + 220 := rfl
  have x1 : isB (hClo H0 b c (100 + H0.1) (sB_w (sB_w s 0 W0) 1 W1) D1 d1) (100 + H0.1) 3 (cS (100 + H0.1) d1) := hClo_S
  have o1 : ∀ p, p < 100 + H0.1 → (p < b ∨ b + 37 ≤ p) → (p < c ∨ c + 2 ≤ p) → (hClo H0 b c (100 + H0.1) (sB_w (sB_w s 0 W0) 1 W1) D1 d1).2.2 p = H0.2.2 p := fun p h1 h2 h3 => hClo_o h2 h3 (by omega)
  generalize hClo H0 b c (100 + H0.1) (sB_w (sB_w s 0 W0) 1 W1) D1 d1 = H1 at *
  obtain ⟨d2, L2, e2⟩ := s_cloStep (v4 := .ref (100 + H0.1)) b1 c1 hb hc j1 (by omega) (by omega) (show 2 < 3 by omega) hm hn hbn (hng 2 (by omega)).1 (hng 2 (by omega)).2
  have k2 : gB_wk (sB_w (sB_w s 0 W0) 1 W1) 2 = gB_wk s 2 := rfl
  rw [k2] at L2 e2
  rw [show gB_ru (sB_w (sB_w s 0 W0) 1 W1) = gB_ru s from rfl, show gB_fg (sB_w (sB_w s 0 W0) 1 W1) = gB_fg s from rfl] at L2 e2
  generalize hD2 : pDues (gB_ru s) n (gB_wk s 2) 60 D1 = D2 at L2 e2
  generalize hW2 : wClo (gB_wk s 2) D2 m (gB_fg s) (ngs 2) (100 + H1.1) = W2 at e2
  have b2 : isB (hClo H1 b c (100 + H1.1) (sB_w (sB_w (sB_w s 0 W0) 1 W1) 2 W2) D2 d2) b 37 (cB b (sB_w (sB_w (sB_w s 0 W0) 1 W1) 2 W2)) := hClo_B (by omega)
  have c2 : isB (hClo H1 b c (100 + H1.1) (sB_w (sB_w (sB_w s 0 W0) 1 W1) 2 W2) D2 d2) c 2 (cD c D2) := hClo_D j1 (by omega)
  have z2 : (hClo H1 b c (100 + H1.1) (sB_w (sB_w (sB_w s 0 W0) 1 W1) 2 W2) D2 d2).1 = H1.1 + 3 := rfl
  have y2 : (hClo H1 b c (100 + H1.1) (sB_w (sB_w (sB_w s 0 W0) 1 W1) 2 W2) D2 d2).2.1 = H1.2.1 + 220 := rfl
  have x2 : isB (hClo H1 b c (100 + H1.1) (sB_w (sB_w (sB_w s 0 W0) 1 W1) 2 W2) D2 d2) (100 + H1.1) 3 (cS (100 + H1.1) d2) := hClo_S
  have o2 : ∀ p, p < 100 + H1.1 → (p < b ∨ b + 37 ≤ p) → (p < c ∨ c + 2 ≤ p) → (hClo H1 b c (100 + H1.1) (sB_w (sB_w (sB_w s 0 W0) 1 W1) 2 W2) D2 d2).2.2 p = H1.2.2 p := fun p h1 h2 h3 => hClo_o h2 h3 (by omega)
  generalize hClo H1 b c (100 + H1.1) (sB_w (sB_w (sB_w s 0 W0) 1 W1) 2 W2) D2 d2 = H2 at *
  have W1e : W1 = wClo (gB_wk s 1) D1 m (gB_fg s) (ngs 1) (100 + H.1 + 3 * 1) := by rw [← hW1, show 100 + H.1 + 3 * 1 = 100 + H0.1 by omega]
  have W2e : W2 = wClo (gB_wk s 2) D2 m (gB_fg s) (ngs 2) (100 + H.1 + 3 * 2) := by rw [← hW2, show 100 + H.1 + 3 * 2 = 100 + H1.1 by omega]
  let Ds : Nat → Nat → Int64 := fun e => if e = 0 then D0 else if e = 1 then D1 else D2
  have hfin : bClN s (fun e => wClo (gB_wk s e) (Ds e) m (gB_fg s) (ngs e) (100 + H.1 + 3 * e)) m = sB_fg (sB_cl (sB_w (sB_w (sB_w s 0 W0) 1 W1) 2 W2) (nI (m + 1))) (nI 0) := by
    unfold bClN
    rw [← sB_3]
    show sB_fg (sB_cl (sB_w (sB_w (sB_w s 0 (wClo (gB_wk s 0) D0 m (gB_fg s) (ngs 0) (100 + H.1))) 1 (wClo (gB_wk s 1) D1 m (gB_fg s) (ngs 1) (100 + H.1 + 3 * 1))) 2 (wClo (gB_wk s 2) D2 m (gB_fg s) (ngs 2) (100 + H.1 + 3 * 2))) _) _ = _
    rw [hW0, ← W1e, ← W2e]
  refine ⟨blk b 37 (cB b (sB_fg (sB_cl (sB_w (sB_w (sB_w s 0 W0) 1 W1) 2 W2) (nI (m + 1))) (nI 0))) H2, Ds, ?_, ?_, ?_, ?_, ⟨D2, isB_skip (by omega) c2⟩, ?_, ?_, ?_⟩
  · have a1 : ev 58 [.ref b, .ref c] H = rn 58 17 [.ref b, .ref c, .int (nI m), .int (nI 0), .float 0] [] H := by
      simp (implicitDefEqProofs := false) (disch := omega) only [ze_58, zr_58_0, zr_58_1, zr_58_4, zr_58_5, zr_58_6, zr_58_9, zr_58_12, zr_58_14, zr_58_15, zr_58_16, zr_58_18, zr_58_19, zr_58_22, zr_58_25, zr_58_26, zr_58_29, zr_58_31, zr_58_32, zr_58_33, zr_58_36, zr_58_37, zr_58_38, zr_58_39, zr_58_40, zr_58_43, zr_58_44, zr_58_47, zr_58_49, zr_58_52, zr_58_53, zr_58_56, zr_58_57, zr_58_58, zr_58_61, zr_58_62, zr_58_64, zr_58_65, zr_58_68, zr_58_71, zr_58_72, zr_58_73, zr_58_74, zr_58_75, zr_58_78, zr_58_79, zr_58_80, zr_58_83, zr_58_84, true_or, or_true, true_and, and_true, if_true, if_false, ldA_ref, ldA_null, nl_int, nl_ref, nl_fl, nl_null, c1_int, c1_ref, c1_null, Nat.zero_add, Nat.zero_mul, Nat.one_mul, nI_add, nI_leI, nI_ltI, nI_eq, nI_mul, rdB_0 (hB), rdB_1 (hB), rdB_2 (hB), rdB_3 (hB), rdB_4 (hB), rdB_5 (hB), rdB_6 (hB), rdB_7 (hB), hcl, s_isMonth, bI_0, show ¬ ¬ (0 ≤ m ∧ m ≤ 11) from by omega, bI_ok, zcall_some, zpush_some, zpush_none, zsum_ref, zsum_int, zsum_long, zsum_nil, zsum_null, Nat.reduceAdd, Nat.reduceLeDiff, if_true]
    rw [a1, e0, e1, e2, zl_58_17]
    simp (implicitDefEqProofs := false) (disch := omega) only [ze_58, zr_58_0, zr_58_1, zr_58_4, zr_58_5, zr_58_6, zr_58_9, zr_58_12, zr_58_14, zr_58_15, zr_58_16, zr_58_18, zr_58_19, zr_58_22, zr_58_25, zr_58_26, zr_58_29, zr_58_31, zr_58_32, zr_58_33, zr_58_36, zr_58_37, zr_58_38, zr_58_39, zr_58_40, zr_58_43, zr_58_44, zr_58_47, zr_58_49, zr_58_52, zr_58_53, zr_58_56, zr_58_57, zr_58_58, zr_58_61, zr_58_62, zr_58_64, zr_58_65, zr_58_68, zr_58_71, zr_58_72, zr_58_73, zr_58_74, zr_58_75, zr_58_78, zr_58_79, zr_58_80, zr_58_83, zr_58_84, true_or, or_true, true_and, and_true, if_true, if_false, ldA_ref, ldA_null, nl_int, nl_ref, nl_fl, nl_null, c1_int, c1_ref, c1_null, Nat.zero_add, Nat.zero_mul, Nat.one_mul, nI_add, nI_leI, nI_ltI, nI_eq, nI_mul, Nat.le_refl, wrB_0 b2 hb, wrB_3 blk_isB hb, blk_over]
  · show H2.1 = _; omega
  · show H2.2.1 = _; omega
  · rw [hfin]; exact blk_isB
  · intro e he
    match e, he with
    | 0, _ => exact ⟨du, hD0.symm⟩
    | 1, _ => exact ⟨D0, hD1.symm⟩
    | 2, _ => exact ⟨D1, hD2.symm⟩
    | e + 3, h => omega
  · intro e he
    have q1 : 100 + H.1 + 3 * 1 = 100 + H0.1 := by omega
    have q2 : 100 + H.1 + 3 * 2 = 100 + H1.1 := by omega
    match e, he with
    | 0, _ => exact ⟨d0, isB_skip (by omega) (fun k hk => (o2 _ (by omega) (by omega) (by omega)).trans ((o1 _ (by omega) (by omega) (by omega)).trans (x0 k hk))), L0⟩
    | 1, _ =>
      rw [q1]
      exact ⟨d1, isB_skip (by omega) (fun k hk => (o2 _ (by omega) (by omega) (by omega)).trans (x1 k hk)), L1⟩
    | 2, _ =>
      rw [q2]
      exact ⟨d2, isB_skip (by omega) x2, L2⟩
    | e + 3, h => omega
  · intro p h1 h2 h3
    rw [blk_out h2, o2 p (by omega) h2 h3, o1 p (by omega) h2 h3, o0 p h1 h2 h3]
end
