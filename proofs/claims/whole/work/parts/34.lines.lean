/-! THE LINES OF A CLOSING: own lines, corrections, garnishes -/
def pSg (k : Nat) (x : Int64) : Int64 := if k = 0 then x else -x
theorem s_signed {k : Nat} (hk : k < 2 ^ 31) (x : Int64) (H : zH) : ev 67 [.int (nI k), .long x] H = some (some (.long (pSg k x)), H) := by
  simp (implicitDefEqProofs := false) (disch := omega) only [ze_67, zr_67_0, zr_67_1, zr_67_4, zr_67_5, zr_67_8, zr_67_9, zr_67_10, true_or, or_true, true_and, and_true, if_true, if_false, ldA_ref, ldA_null, nl_int, nl_ref, nl_fl, nl_null, c1_int, c1_ref, c1_null, Nat.zero_add, Nat.zero_mul, Nat.one_mul, nI_add, nI_leI, nI_ltI, nI_eq, nI_mul]
  unfold pSg
  by_cases h : k = 0 <;> simp only [h, if_true, if_false]
def pOwn (du : Nat → Int64) (m : Nat) : Nat → List Ln
  | 0 => []
  | k + 1 => pOwn du m k ++ [(nI k, nI m, nI 0, pSg k (du (k * 12 + m)))]
theorem pOwn_len (du : Nat → Int64) (m k : Nat) : (pOwn du m k).length = k := by
  induction k with
  | zero => rfl
  | succ k ih => rw [pOwn, List.length_append, ih]; rfl
theorem s_ownL {h : zH} {c q m : Nat} {du : tyD} {l : List Ln} (hq : 100 ≤ q) (hm : m < 12) (hD : isB h c 2 (cD c du)) (dj : c + 2 ≤ q ∨ q + 3 ≤ c) (hl : l.length ≤ 50) : ∀ (j k : Nat) (d : tyS), k + j = 4 → isL d (l ++ pOwn du m k) → ∃ d', rn 66 2 [.ref c, .int (nI m), .ref q, .int (nI k)] [] (blk q 3 (cS q d) h) = some (none, blk q 3 (cS q d') h) ∧ isL d' (l ++ pOwn du m 4) := by
  intro j
  induction j with
  | zero =>
    intro k d hd hL
    rw [Nat.add_zero] at hd
    subst hd
    refine ⟨d, ?_, hL⟩
    rw [zl_66_2]
    simp (implicitDefEqProofs := false) (disch := omega) only [ze_66, zr_66_0, zr_66_1, zr_66_3, zr_66_4, zr_66_7, zr_66_8, zr_66_9, zr_66_10, zr_66_11, zr_66_12, zr_66_13, zr_66_16, zr_66_17, zr_66_19, zr_66_20, zr_66_21, zr_66_22, zr_66_23, zr_66_26, zr_66_29, zr_66_32, zr_66_35, true_or, or_true, true_and, and_true, if_true, if_false, ldA_ref, ldA_null, nl_int, nl_ref, nl_fl, nl_null, c1_int, c1_ref, c1_null, Nat.zero_add, Nat.zero_mul, Nat.one_mul, nI_add, nI_leI, nI_ltI, nI_eq, nI_mul, show (3 < 4) = True from by simp]
  | succ j ih =>
    intro k d hd hL
    have hk : k < 4 := by omega
    have hlen : (l ++ pOwn du m k).length < 54 := by rw [List.length_append, pOwn_len]; omega
    have hadd := isL_add hL hlen (nI k, nI m, nI 0, pSg k (du (k * 12 + m)))
    obtain ⟨d', e, hL'⟩ := ih (k + 1) _ (by omega) (by rw [pOwn, ← List.append_assoc]; exact hadd)
    refine ⟨d', ?_, hL'⟩
    rw [zl_66_2]
    simp (implicitDefEqProofs := false) (disch := omega) only [ze_66, zr_66_0, zr_66_1, zr_66_3, zr_66_4, zr_66_7, zr_66_8, zr_66_9, zr_66_10, zr_66_11, zr_66_12, zr_66_13, zr_66_16, zr_66_17, zr_66_19, zr_66_20, zr_66_21, zr_66_22, zr_66_23, zr_66_26, zr_66_29, zr_66_32, zr_66_35, true_or, or_true, true_and, and_true, if_true, if_false, ldA_ref, ldA_null, nl_int, nl_ref, nl_fl, nl_null, c1_int, c1_ref, c1_null, Nat.zero_add, Nat.zero_mul, Nat.one_mul, nI_add, nI_leI, nI_ltI, nI_eq, nI_mul, show (k ≤ 3) = True from by simp; omega, show ¬ 3 < k from by omega, gf_skip, lj_skip, kd_skip, rdD_0 (hD), rdD_1 (hD), rdD_2 (hD), rdD_3 (hD), s_signed (show k < 2 ^ 31 by omega), zcall_some, zpush_some, zpush_none, zsum_ref, zsum_int, zsum_long, zsum_nil, zsum_null, Nat.reduceAdd, Nat.reduceLeDiff, if_true, rdS_0 (blk_isB), rdS_1 (blk_isB), rdS_2 (blk_isB), rdS_3 (blk_isB), rdS_4 (blk_isB), rdS_5 (blk_isB), rdS_6 (blk_isB), rdS_7 (blk_isB), rdS_8 (blk_isB), s_slipAdd hq hL hlen]
    exact e
theorem s_addOwnLines {h : zH} {c q m : Nat} {du : tyD} {l : List Ln} {d : tyS} (hq : 100 ≤ q) (hm : m < 12) (hD : isB h c 2 (cD c du)) (dj : c + 2 ≤ q ∨ q + 3 ≤ c) (hl : l.length ≤ 50) (hL : isL d l) : ∃ d', ev 66 [.ref c, .int (nI m), .ref q] (blk q 3 (cS q d) h) = some (none, blk q 3 (cS q d') h) ∧ isL d' (l ++ pOwn du m 4) := by
  obtain ⟨d', e, hL'⟩ := s_ownL hq hm hD dj hl 4 0 d (by omega) (by rw [pOwn, List.append_nil]; exact hL)
  refine ⟨d', ?_, hL'⟩
  simp (implicitDefEqProofs := false) (disch := omega) only [ze_66, zr_66_0, zr_66_1, zr_66_3, zr_66_4, zr_66_7, zr_66_8, zr_66_9, zr_66_10, zr_66_11, zr_66_12, zr_66_13, zr_66_16, zr_66_17, zr_66_19, zr_66_20, zr_66_21, zr_66_22, zr_66_23, zr_66_26, zr_66_29, zr_66_32, zr_66_35, true_or, or_true, true_and, and_true, if_true, if_false, ldA_ref, ldA_null, nl_int, nl_ref, nl_fl, nl_null, c1_int, c1_ref, c1_null]
  exact e
/-- corrections of an earlier month -/
def pDiff (w : tyW) (du : Nat → Int64) (m k : Nat) : Int64 := du (k * 12 + m) - gW_am w (k * 12 + m)
def pCor (w : tyW) (du : Nat → Int64) (m : Nat) (r : Int32) : Nat → List Ln
  | 0 => []
  | k + 1 => pCor w du m r k ++ if pDiff w du m k = 0 then [] else [(nI k, nI m, r, pSg k (pDiff w du m k))]
theorem pCor_len (w : tyW) (du : Nat → Int64) (m : Nat) (r : Int32) (k : Nat) : (pCor w du m r k).length ≤ k := by
  induction k with
  | zero => exact Nat.le_refl _
  | succ k ih =>
    rw [pCor, List.length_append]
    split <;> simp <;> omega
theorem s_corL {h : zH} {c q a m : Nat} {du : tyD} {w : tyW} {r f : Int32} {l : List Ln} (hq : 100 ≤ q) (hm : m < 12) (hD : isB h c 2 (cD c du)) (hW : isB h a 10 (cW a w)) (dj : c + 2 ≤ q ∨ q + 3 ≤ c) (dw : a + 10 ≤ q ∨ q + 3 ≤ a) (hl : l.length ≤ 50) : ∀ (j k : Nat) (d : tyS) (v7 v8 v9 : Value), k + j = 4 → isL d (l ++ pCor w du m r k) → ∃ d', rn 69 11 [.ref c, .ref a, .int (nI m), .int f, .ref q, .int r, .int (nI k), v7, v8, v9] [] (blk q 3 (cS q d) h) = some (none, blk q 3 (cS q d') h) ∧ isL d' (l ++ pCor w du m r 4) := by
  intro j
  induction j with
  | zero =>
    intro k d v7 v8 v9 hd hL
    rw [Nat.add_zero] at hd
    subst hd
    refine ⟨d, ?_, hL⟩
    rw [zl_69_11]
    simp (implicitDefEqProofs := false) (disch := omega) only [ze_69, zr_69_0, zr_69_1, zr_69_2, zr_69_3, zr_69_6, zr_69_8, zr_69_9, zr_69_13, zr_69_14, zr_69_17, zr_69_19, zr_69_21, zr_69_22, zr_69_23, zr_69_24, zr_69_26, zr_69_27, zr_69_30, zr_69_32, zr_69_33, zr_69_34, zr_69_37, zr_69_39, zr_69_40, zr_69_41, zr_69_43, zr_69_45, zr_69_46, zr_69_47, zr_69_50, zr_69_52, zr_69_54, zr_69_55, zr_69_57, zr_69_59, zr_69_61, zr_69_64, zr_69_67, zr_69_70, zr_69_73, true_or, or_true, true_and, and_true, if_true, if_false, ldA_ref, ldA_null, nl_int, nl_ref, nl_fl, nl_null, c1_int, c1_ref, c1_null, Nat.zero_add, Nat.zero_mul, Nat.one_mul, nI_add, nI_leI, nI_ltI, nI_eq, nI_mul, show (3 < 4) = True from by simp]
  | succ j ih =>
    intro k d v7 v8 v9 hd hL
    have hk : k < 4 := by omega
    have hlen : (l ++ pCor w du m r k).length < 54 := by
      have := pCor_len w du m r k
      rw [List.length_append]; omega
    rw [zl_69_11]
    by_cases h0 : pDiff w du m k = 0
    · obtain ⟨d', e, hL'⟩ := ih (k + 1) d (.int (nI (k * 12 + m))) (.long (pDiff w du m k)) (.float 0) (by omega) (by rw [pCor, if_pos h0, List.append_nil]; exact hL)
      refine ⟨d', ?_, hL'⟩
      have h0' : gD_du du (k * 12 + m) - gW_am w (k * 12 + m) = 0 := h0
      rw [h0] at e
      simp (implicitDefEqProofs := false) (disch := omega) only [ze_69, zr_69_0, zr_69_1, zr_69_2, zr_69_3, zr_69_6, zr_69_8, zr_69_9, zr_69_13, zr_69_14, zr_69_17, zr_69_19, zr_69_21, zr_69_22, zr_69_23, zr_69_24, zr_69_26, zr_69_27, zr_69_30, zr_69_32, zr_69_33, zr_69_34, zr_69_37, zr_69_39, zr_69_40, zr_69_41, zr_69_43, zr_69_45, zr_69_46, zr_69_47, zr_69_50, zr_69_52, zr_69_54, zr_69_55, zr_69_57, zr_69_59, zr_69_61, zr_69_64, zr_69_67, zr_69_70, zr_69_73, true_or, or_true, true_and, and_true, if_true, if_false, ldA_ref, ldA_null, nl_int, nl_ref, nl_fl, nl_null, c1_int, c1_ref, c1_null, Nat.zero_add, Nat.zero_mul, Nat.one_mul, nI_add, nI_leI, nI_ltI, nI_eq, nI_mul, cmp_lt, cmp_gt, cmp_le, cmp_ge, cmp_eq, show (k ≤ 3) = True from by simp; omega, show ¬ 3 < k from by omega, gf_skip, lj_skip, kd_skip, rdD_0 (hD), rdD_1 (hD), rdD_2 (hD), rdD_3 (hD), rdW_0 (hW), rdW_1 (hW), rdW_2 (hW), rdW_3 (hW), rdW_4 (hW), rdW_5 (hW), rdW_6 (hW), rdW_7 (hW), rdW_8 (hW), rdW_9 (hW), rdW_10 (hW), rdW_11 (hW), rdW_12 (hW), rdW_13 (hW), rdW_14 (hW), rdW_15 (hW), rdW_16 (hW), rdW_17 (hW), rdW_18 (hW), rdW_19 (hW), rdW_20 (hW), rdW_21 (hW), rdW_22 (hW), rdW_23 (hW), rdW_24 (hW), rdW_25 (hW), rdW_26 (hW), rdW_27 (hW), rdW_28 (hW), rdW_29 (hW), h0']
      exact e
    · have hadd := isL_add hL hlen (nI k, nI m, r, pSg k (pDiff w du m k))
      obtain ⟨d', e, hL'⟩ := ih (k + 1) _ (.int (nI (k * 12 + m))) (.long (pDiff w du m k)) (.float 0) (by omega) (by rw [pCor, if_neg h0, ← List.append_assoc]; exact hadd)
      refine ⟨d', ?_, hL'⟩
      have h0' : ¬ gD_du du (k * 12 + m) - gW_am w (k * 12 + m) = 0 := h0
      simp (implicitDefEqProofs := false) (disch := omega) only [ze_69, zr_69_0, zr_69_1, zr_69_2, zr_69_3, zr_69_6, zr_69_8, zr_69_9, zr_69_13, zr_69_14, zr_69_17, zr_69_19, zr_69_21, zr_69_22, zr_69_23, zr_69_24, zr_69_26, zr_69_27, zr_69_30, zr_69_32, zr_69_33, zr_69_34, zr_69_37, zr_69_39, zr_69_40, zr_69_41, zr_69_43, zr_69_45, zr_69_46, zr_69_47, zr_69_50, zr_69_52, zr_69_54, zr_69_55, zr_69_57, zr_69_59, zr_69_61, zr_69_64, zr_69_67, zr_69_70, zr_69_73, true_or, or_true, true_and, and_true, if_true, if_false, ldA_ref, ldA_null, nl_int, nl_ref, nl_fl, nl_null, c1_int, c1_ref, c1_null, Nat.zero_add, Nat.zero_mul, Nat.one_mul, nI_add, nI_leI, nI_ltI, nI_eq, nI_mul, cmp_lt, cmp_gt, cmp_le, cmp_ge, cmp_eq, show (k ≤ 3) = True from by simp; omega, show ¬ 3 < k from by omega, gf_skip, lj_skip, kd_skip, rdD_0 (hD), rdD_1 (hD), rdD_2 (hD), rdD_3 (hD), rdW_0 (hW), rdW_1 (hW), rdW_2 (hW), rdW_3 (hW), rdW_4 (hW), rdW_5 (hW), rdW_6 (hW), rdW_7 (hW), rdW_8 (hW), rdW_9 (hW), rdW_10 (hW), rdW_11 (hW), rdW_12 (hW), rdW_13 (hW), rdW_14 (hW), rdW_15 (hW), rdW_16 (hW), rdW_17 (hW), rdW_18 (hW), rdW_19 (hW), rdW_20 (hW), rdW_21 (hW), rdW_22 (hW), rdW_23 (hW), rdW_24 (hW), rdW_25 (hW), rdW_26 (hW), rdW_27 (hW), rdW_28 (hW), rdW_29 (hW), h0', s_signed (show k < 2 ^ 31 by omega), zcall_some, zpush_some, zpush_none, zsum_ref, zsum_int, zsum_long, zsum_nil, zsum_null, Nat.reduceAdd, Nat.reduceLeDiff, if_true, rdS_0 (blk_isB), rdS_1 (blk_isB), rdS_2 (blk_isB), rdS_3 (blk_isB), rdS_4 (blk_isB), rdS_5 (blk_isB), rdS_6 (blk_isB), rdS_7 (blk_isB), rdS_8 (blk_isB), s_slipAdd hq hL hlen]
      exact e
theorem s_addCorrections {h : zH} {c q a m : Nat} {du : tyD} {w : tyW} {f : Int32} {l : List Ln} {d : tyS} (hq : 100 ≤ q) (hm : m < 12) (hD : isB h c 2 (cD c du)) (hW : isB h a 10 (cW a w)) (dj : c + 2 ≤ q ∨ q + 3 ≤ c) (dw : a + 10 ≤ q ∨ q + 3 ≤ a) (hl : l.length ≤ 50) (hL : isL d l) : ∃ d', ev 69 [.ref c, .ref a, .int (nI m), .int f, .ref q] (blk q 3 (cS q d) h) = some (none, blk q 3 (cS q d') h) ∧ isL d' (l ++ pCor w du m (pReason w m f) 4) := by
  obtain ⟨d', e, hL'⟩ := s_corL (r := pReason w m f) (f := f) hq hm hD hW dj dw hl 4 0 d (.float 0) (.float 0) (.float 0) (by omega) (by rw [pCor, List.append_nil]; exact hL)
  refine ⟨d', ?_, hL'⟩
  simp (implicitDefEqProofs := false) (disch := omega) only [ze_69, zr_69_0, zr_69_1, zr_69_2, zr_69_3, zr_69_6, zr_69_8, zr_69_9, zr_69_13, zr_69_14, zr_69_17, zr_69_19, zr_69_21, zr_69_22, zr_69_23, zr_69_24, zr_69_26, zr_69_27, zr_69_30, zr_69_32, zr_69_33, zr_69_34, zr_69_37, zr_69_39, zr_69_40, zr_69_41, zr_69_43, zr_69_45, zr_69_46, zr_69_47, zr_69_50, zr_69_52, zr_69_54, zr_69_55, zr_69_57, zr_69_59, zr_69_61, zr_69_64, zr_69_67, zr_69_70, zr_69_73, true_or, or_true, true_and, and_true, if_true, if_false, ldA_ref, ldA_null, nl_int, nl_ref, nl_fl, nl_null, c1_int, c1_ref, c1_null, s_reasonFor (isB_skip dw hW) hm, kd_skip, rdW_0 (hW), rdW_1 (hW), rdW_2 (hW), rdW_3 (hW), rdW_4 (hW), rdW_5 (hW), rdW_6 (hW), rdW_7 (hW), rdW_8 (hW), rdW_9 (hW), rdW_10 (hW), rdW_11 (hW), rdW_12 (hW), rdW_13 (hW), rdW_14 (hW), rdW_15 (hW), rdW_16 (hW), rdW_17 (hW), rdW_18 (hW), rdW_19 (hW), rdW_20 (hW), rdW_21 (hW), rdW_22 (hW), rdW_23 (hW), rdW_24 (hW), rdW_25 (hW), rdW_26 (hW), rdW_27 (hW), rdW_28 (hW), rdW_29 (hW), zcall_some, zpush_some, zpush_none, zsum_ref, zsum_int, zsum_long, zsum_nil, zsum_null, Nat.reduceAdd, Nat.reduceLeDiff, if_true]
  exact e
