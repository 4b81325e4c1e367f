/-! WHAT IS READ of slips -/
def lk (l : List Ln) (i : Nat) : Ln := l.getD i (0, 0, 0, 0)
theorem isL_lk {d : tyS} {l : List Ln} (hL : isL d l) {i : Nat} (hi : i < l.length) : gS_pt d i = (lk l i).1 ∧ gS_pt d (54 + i) = (lk l i).2.1 ∧ gS_pt d (108 + i) = (lk l i).2.2.1 ∧ gS_at d i = (lk l i).2.2.2 := by
  have h1 : l[i]? = some (lk l i) := by
    unfold lk
    rw [List.getD_eq_getElem?_getD, List.getElem?_eq_getElem hi]; rfl
  exact hL.2.2.2 i _ h1
theorem s_paid {H : zH} {q : Nat} {d : tyS} {l : List Ln} (hS : isB H q 3 (cS q d)) (hL : isL d l) (h0 : 0 < l.length) : ev 149 [.ref q] H = some (some (.long (lk l (l.length - 1)).2.2.2), H) := by
  have h1 := hL.2.1
  have e : nI l.length - nI 1 = nI (l.length - 1) := by
    have := nI_pred (l.length - 1)
    rw [show l.length - 1 + 1 = l.length by omega] at this
    exact this
  simp (implicitDefEqProofs := false) (disch := omega) only [ze_149, zr_149_0, zr_149_1, zr_149_2, zr_149_5, zr_149_6, zr_149_7, zr_149_10, zr_149_13, zr_149_14, zr_149_17, zr_149_18, zr_149_21, zr_149_22, zr_149_23, zr_149_24, zr_149_27, zr_149_28, true_or, or_true, true_and, and_true, if_true, if_false, ldA_ref, ldA_null, nl_int, nl_ref, nl_fl, nl_null, c1_int, c1_ref, c1_null, rdS_0 (hS), rdS_1 (hS), rdS_2 (hS), rdS_3 (hS), rdS_4 (hS), rdS_5 (hS), rdS_6 (hS), rdS_7 (hS), rdS_8 (hS), hL.1, e, s_slipHas hS hL, bI_0, Nat.zero_add, Nat.zero_mul, Nat.one_mul, nI_add, nI_leI, nI_ltI, nI_eq, nI_mul, zcall_some, zpush_some, zpush_none, zsum_ref, zsum_int, zsum_long, zsum_nil, zsum_null, Nat.reduceAdd, Nat.reduceLeDiff, if_true, show ¬ ¬ (0 ≤ l.length - 1 ∧ l.length - 1 < l.length) from by omega, (isL_lk hL (show l.length - 1 < l.length by omega)).2.2.2]
def pSK (l : List Ln) (k : Int32) : Nat → Int64
  | 0 => 0
  | i + 1 => if (lk l i).1 = k then pSK l k i + (lk l i).2.2.2 else pSK l k i
theorem s_sumL {H : zH} {q : Nat} {d : tyS} {l : List Ln} {k : Int32} (hS : isB H q 3 (cS q d)) (hL : isL d l) : ∀ (j i : Nat), i + j = l.length → rn 161 5 [.ref q, .int k, .long (pSK l k i), .float 0, .int (nI i)] [] H = some (some (.long (pSK l k l.length)), H) := by
  have hn := hL.2.1
  intro j
  induction j with
  | zero =>
    intro i hi
    rw [Nat.add_zero] at hi
    subst hi
    rw [zl_161_5]
    simp (implicitDefEqProofs := false) (disch := omega) only [ze_161, zr_161_0, zr_161_1, zr_161_2, zr_161_3, zr_161_7, zr_161_8, zr_161_11, zr_161_14, zr_161_16, zr_161_18, zr_161_21, zr_161_22, zr_161_25, zr_161_27, zr_161_28, zr_161_29, zr_161_32, zr_161_33, zr_161_34, zr_161_37, zr_161_39, zr_161_40, zr_161_41, zr_161_42, zr_161_45, zr_161_48, zr_161_49, true_or, or_true, true_and, and_true, if_true, if_false, ldA_ref, ldA_null, nl_int, nl_ref, nl_fl, nl_null, c1_int, c1_ref, c1_null, rdS_0 (hS), rdS_1 (hS), rdS_2 (hS), rdS_3 (hS), rdS_4 (hS), rdS_5 (hS), rdS_6 (hS), rdS_7 (hS), rdS_8 (hS), hL.1, Nat.zero_add, Nat.zero_mul, Nat.one_mul, nI_add, nI_leI, nI_ltI, nI_eq, nI_mul, Nat.le_refl]
  | succ j ih =>
    intro i hi
    have hi2 : i < l.length := by omega
    have e := ih (i + 1) (by omega)
    rw [pSK] at e
    rw [zl_161_5]
    simp (implicitDefEqProofs := false) (disch := omega) only [ze_161, zr_161_0, zr_161_1, zr_161_2, zr_161_3, zr_161_7, zr_161_8, zr_161_11, zr_161_14, zr_161_16, zr_161_18, zr_161_21, zr_161_22, zr_161_25, zr_161_27, zr_161_28, zr_161_29, zr_161_32, zr_161_33, zr_161_34, zr_161_37, zr_161_39, zr_161_40, zr_161_41, zr_161_42, zr_161_45, zr_161_48, zr_161_49, true_or, or_true, true_and, and_true, if_true, if_false, ldA_ref, ldA_null, nl_int, nl_ref, nl_fl, nl_null, c1_int, c1_ref, c1_null, rdS_0 (hS), rdS_1 (hS), rdS_2 (hS), rdS_3 (hS), rdS_4 (hS), rdS_5 (hS), rdS_6 (hS), rdS_7 (hS), rdS_8 (hS), hL.1, Nat.zero_add, Nat.zero_mul, Nat.one_mul, nI_add, nI_leI, nI_ltI, nI_eq, nI_mul, Nat.not_le.mpr hi2, show ¬ 54 ≤ i from by omega, (isL_lk hL hi2).1, (isL_lk hL hi2).2.2.2]
    by_cases h0 : (lk l i).1 = k
    · rw [if_pos h0] at e ⊢; exact e
    · rw [if_neg h0] at e ⊢; exact e
theorem s_slipSumOf {H : zH} {q : Nat} {d : tyS} {l : List Ln} (k : Int32) (hS : isB H q 3 (cS q d)) (hL : isL d l) : ev 161 [.ref q, .int k] H = some (some (.long (pSK l k l.length)), H) := by
  simp (implicitDefEqProofs := false) (disch := omega) only [ze_161, zr_161_0, zr_161_1, zr_161_2, zr_161_3, zr_161_7, zr_161_8, zr_161_11, zr_161_14, zr_161_16, zr_161_18, zr_161_21, zr_161_22, zr_161_25, zr_161_27, zr_161_28, zr_161_29, zr_161_32, zr_161_33, zr_161_34, zr_161_37, zr_161_39, zr_161_40, zr_161_41, zr_161_42, zr_161_45, zr_161_48, zr_161_49, true_or, or_true, true_and, and_true, if_true, if_false, ldA_ref, ldA_null, nl_int, nl_ref, nl_fl, nl_null, c1_int, c1_ref, c1_null]
  exact s_sumL hS hL l.length 0 (by omega)
def pCM (l : List Ln) (o : Int32) : Nat → Int32
  | 0 => nI 0
  | i + 1 => if (lk l i).1 ≤ nI 3 ∧ ¬ (lk l i).2.1 = o then pCM l o i ||| (nI 1 <<< ((lk l i).2.1 &&& 31)) else pCM l o i
theorem s_cmL {H : zH} {q : Nat} {d : tyS} {l : List Ln} {o : Int32} (hS : isB H q 3 (cS q d)) (hL : isL d l) : ∀ (j i : Nat) (v4 : Value), i + j = l.length → rn 172 4 [.ref q, .int o, .int (pCM l o i), .int (nI i), v4] [] H = some (some (.int (pCM l o l.length)), H) := by
  have hn := hL.2.1
  intro j
  induction j with
  | zero =>
    intro i v4 hi
    rw [Nat.add_zero] at hi
    subst hi
    rw [zl_172_4]
    simp (implicitDefEqProofs := false) (disch := omega) only [ze_172, zr_172_0, zr_172_1, zr_172_2, zr_172_3, zr_172_5, zr_172_6, zr_172_9, zr_172_12, zr_172_13, zr_172_15, zr_172_18, zr_172_19, zr_172_22, zr_172_24, zr_172_25, zr_172_26, zr_172_27, zr_172_29, zr_172_30, zr_172_33, zr_172_34, zr_172_35, zr_172_36, zr_172_39, zr_172_41, zr_172_42, zr_172_45, zr_172_46, zr_172_47, zr_172_49, zr_172_50, zr_172_51, zr_172_52, zr_172_55, zr_172_58, zr_172_59, true_or, or_true, true_and, and_true, if_true, if_false, ldA_ref, ldA_null, nl_int, nl_ref, nl_fl, nl_null, c1_int, c1_ref, c1_null, rdS_0 (hS), rdS_1 (hS), rdS_2 (hS), rdS_3 (hS), rdS_4 (hS), rdS_5 (hS), rdS_6 (hS), rdS_7 (hS), rdS_8 (hS), hL.1, Nat.zero_add, Nat.zero_mul, Nat.one_mul, nI_add, nI_leI, nI_ltI, nI_eq, nI_mul, Nat.le_refl]
  | succ j ih =>
    intro i v4 hi
    have hi2 : i < l.length := by omega
    have e := ih (i + 1) (.int (lk l i).2.1) (by omega)
    rw [pCM] at e
    rw [zl_172_4]
    simp (implicitDefEqProofs := false) (disch := omega) only [ze_172, zr_172_0, zr_172_1, zr_172_2, zr_172_3, zr_172_5, zr_172_6, zr_172_9, zr_172_12, zr_172_13, zr_172_15, zr_172_18, zr_172_19, zr_172_22, zr_172_24, zr_172_25, zr_172_26, zr_172_27, zr_172_29, zr_172_30, zr_172_33, zr_172_34, zr_172_35, zr_172_36, zr_172_39, zr_172_41, zr_172_42, zr_172_45, zr_172_46, zr_172_47, zr_172_49, zr_172_50, zr_172_51, zr_172_52, zr_172_55, zr_172_58, zr_172_59, true_or, or_true, true_and, and_true, if_true, if_false, ldA_ref, ldA_null, nl_int, nl_ref, nl_fl, nl_null, c1_int, c1_ref, c1_null, rdS_0 (hS), rdS_1 (hS), rdS_2 (hS), rdS_3 (hS), rdS_4 (hS), rdS_5 (hS), rdS_6 (hS), rdS_7 (hS), rdS_8 (hS), hL.1, Nat.zero_add, Nat.zero_mul, Nat.one_mul, nI_add, nI_leI, nI_ltI, nI_eq, nI_mul, Nat.not_le.mpr hi2, show ¬ 54 ≤ i from by omega, (isL_lk hL hi2).1, (isL_lk hL hi2).2.1]
    by_cases h0 : (lk l i).1 ≤ nI 3
    · rw [if_neg (Int32.not_lt.mpr h0)]
      by_cases h1 : (lk l i).2.1 = o
      · rw [if_neg (fun h => h.2 h1)] at e; rw [if_pos h1]; exact e
      · rw [if_pos ⟨h0, h1⟩] at e; rw [if_neg h1]; exact e
    · rw [if_neg (fun h => h0 h.1)] at e; rw [if_pos (Int32.not_le.mp h0)]; exact e
theorem s_corrected {H : zH} {q : Nat} {d : tyS} {l : List Ln} (o : Int32) (hS : isB H q 3 (cS q d)) (hL : isL d l) : ev 172 [.ref q, .int o] H = some (some (.int (pCM l o l.length)), H) := by
  simp (implicitDefEqProofs := false) (disch := omega) only [ze_172, zr_172_0, zr_172_1, zr_172_2, zr_172_3, zr_172_5, zr_172_6, zr_172_9, zr_172_12, zr_172_13, zr_172_15, zr_172_18, zr_172_19, zr_172_22, zr_172_24, zr_172_25, zr_172_26, zr_172_27, zr_172_29, zr_172_30, zr_172_33, zr_172_34, zr_172_35, zr_172_36, zr_172_39, zr_172_41, zr_172_42, zr_172_45, zr_172_46, zr_172_47, zr_172_49, zr_172_50, zr_172_51, zr_172_52, zr_172_55, zr_172_58, zr_172_59, true_or, or_true, true_and, and_true, if_true, if_false, ldA_ref, ldA_null, nl_int, nl_ref, nl_fl, nl_null, c1_int, c1_ref, c1_null]
  exact s_cmL hS hL l.length 0 _ (by omega)
