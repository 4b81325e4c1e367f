/-! WHAT IS READ of slips -/
def lk (l : List Ln) (i : Nat) : Ln := l.getD i (0, 0, 0, 0)
theorem isL_lk {d : tyS} {l : List Ln} (hL : isL d l) {i : Nat} (hi : i < l.length) : gS_pt d i = (lk l i).1 ∧ gS_pt d (54 + i) = (lk l i).2.1 ∧ gS_pt d (108 + i) = (lk l i).2.2.1 ∧ gS_at d i = (lk l i).2.2.2 := by
  have h1 : l[i]? = some (lk l i) := by
    unfold lk
    rw [List.getD_eq_getElem?_getD, List.getElem?_eq_getElem hi]; rfl
  exact hL.2.2.2 i _ h1
theorem s_paid {H : zH} {q : Nat} {d : tyS} {l : List Ln} (hS : isB H q 3 (cS q d)) (hL : isL d l) (h0 : 0 < l.length) : ev 155 [.ref q] H = some (some (.long (lk l (l.length - 1)).2.2.2), H) := by
  have h1 := hL.2.1
  have e : nI l.length - nI 1 = nI (l.length - 1) := by
    have := nI_pred (l.length - 1)
    rw [show l.length - 1 + 1 = l.length by omega] at this
    exact this
  simp (implicitDefEqProofs := false) (disch := omega) only [ze_155, zr_155_0, zr_155_1, zr_155_2, zr_155_5, zr_155_6, zr_155_7, zr_155_10, zr_155_13, zr_155_14, zr_155_17, zr_155_18, zr_155_21, zr_155_22, zr_155_23, zr_155_24, zr_155_27, zr_155_28, true_or, or_true, true_and, and_true, if_true, if_false, ldA_ref, ldA_null, nl_int, nl_ref, nl_fl, nl_null, c1_int, c1_ref, c1_null, rdS_0 (hS), rdS_1 (hS), rdS_2 (hS), rdS_3 (hS), rdS_4 (hS), rdS_5 (hS), rdS_6 (hS), rdS_7 (hS), rdS_8 (hS), hL.1, e, s_slipHas hS hL, bI_0, Nat.zero_add, Nat.zero_mul, Nat.one_mul, nI_add, nI_leI, nI_ltI, nI_eq, nI_mul, zcall_some, zpush_some, zpush_none, zsum_ref, zsum_int, zsum_long, zsum_nil, zsum_null, Nat.reduceAdd, Nat.reduceLeDiff, if_true, show ¬ ¬ (0 ≤ l.length - 1 ∧ l.length - 1 < l.length) from by omega, (isL_lk hL (show l.length - 1 < l.length by omega)).2.2.2]
def pSK (l : List Ln) (k : Int32) : Nat → Int64
  | 0 => 0
  | i + 1 => if (lk l i).1 = k then pSK l k i + (lk l i).2.2.2 else pSK l k i
theorem s_sumL {H : zH} {q : Nat} {d : tyS} {l : List Ln} {k : Int32} (hS : isB H q 3 (cS q d)) (hL : isL d l) : ∀ (j i : Nat), i + j = l.length → rn 167 5 [.ref q, .int k, .long (pSK l k i), .float 0, .int (nI i)] [] H = some (some (.long (pSK l k l.length)), H) := by
  have hn := hL.2.1
  intro j
  induction j with
  | zero =>
    intro i hi
    rw [Nat.add_zero] at hi
    subst hi
    rw [zl_167_5]
    simp (implicitDefEqProofs := false) (disch := omega) only [ze_167, zr_167_0, zr_167_1, zr_167_2, zr_167_3, zr_167_7, zr_167_8, zr_167_11, zr_167_14, zr_167_16, zr_167_18, zr_167_21, zr_167_22, zr_167_25, zr_167_27, zr_167_28, zr_167_29, zr_167_32, zr_167_33, zr_167_34, zr_167_37, zr_167_39, zr_167_40, zr_167_41, zr_167_42, zr_167_45, zr_167_48, zr_167_49, true_or, or_true, true_and, and_true, if_true, if_false, ldA_ref, ldA_null, nl_int, nl_ref, nl_fl, nl_null, c1_int, c1_ref, c1_null, rdS_0 (hS), rdS_1 (hS), rdS_2 (hS), rdS_3 (hS), rdS_4 (hS), rdS_5 (hS), rdS_6 (hS), rdS_7 (hS), rdS_8 (hS), hL.1, Nat.zero_add, Nat.zero_mul, Nat.one_mul, nI_add, nI_leI, nI_ltI, nI_eq, nI_mul, Nat.le_refl]
  | succ j ih =>
    intro i hi
    have hi2 : i < l.length := by omega
    have e := ih (i + 1) (by omega)
    rw [pSK] at e
    rw [zl_167_5]
    simp (implicitDefEqProofs := false) (disch := omega) only [ze_167, zr_167_0, zr_167_1, zr_167_2, zr_167_3, zr_167_7, zr_167_8, zr_167_11, zr_167_14, zr_167_16, zr_167_18, zr_167_21, zr_167_22, zr_167_25, zr_167_27, zr_167_28, zr_167_29, zr_167_32, zr_167_33, zr_167_34, zr_167_37, zr_167_39, zr_167_40, zr_167_41, zr_167_42, zr_167_45, zr_167_48, zr_167_49, true_or, or_true, true_and, and_true, if_true, if_false, ldA_ref, ldA_null, nl_int, nl_ref, nl_fl, nl_null, c1_int, c1_ref, c1_null, rdS_0 (hS), rdS_1 (hS), rdS_2 (hS), rdS_3 (hS), rdS_4 (hS), rdS_5 (hS), rdS_6 (hS), rdS_7 (hS), rdS_8 (hS), hL.1, Nat.zero_add, Nat.zero_mul, Nat.one_mul, nI_add, nI_leI, nI_ltI, nI_eq, nI_mul, Nat.not_le.mpr hi2, show ¬ 54 ≤ i from by omega, (isL_lk hL hi2).1, (isL_lk hL hi2).2.2.2]
    by_cases h0 : (lk l i).1 = k
    · rw [if_pos h0] at e ⊢; exact e
    · rw [if_neg h0] at e ⊢; exact e
theorem s_slipSumOf {H : zH} {q : Nat} {d : tyS} {l : List Ln} (k : Int32) (hS : isB H q 3 (cS q d)) (hL : isL d l) : ev 167 [.ref q, .int k] H = some (some (.long (pSK l k l.length)), H) := by
  simp (implicitDefEqProofs := false) (disch := omega) only [ze_167, zr_167_0, zr_167_1, zr_167_2, zr_167_3, zr_167_7, zr_167_8, zr_167_11, zr_167_14, zr_167_16, zr_167_18, zr_167_21, zr_167_22, zr_167_25, zr_167_27, zr_167_28, zr_167_29, zr_167_32, zr_167_33, zr_167_34, zr_167_37, zr_167_39, zr_167_40, zr_167_41, zr_167_42, zr_167_45, zr_167_48, zr_167_49, true_or, or_true, true_and, and_true, if_true, if_false, ldA_ref, ldA_null, nl_int, nl_ref, nl_fl, nl_null, c1_int, c1_ref, c1_null]
  exact s_sumL hS hL l.length 0 (by omega)
def pCM (l : List Ln) (o : Int32) : Nat → Int32
  | 0 => nI 0
  | i + 1 => if (lk l i).1 ≤ nI 3 ∧ ¬ (lk l i).2.1 = o then pCM l o i ||| (nI 1 <<< ((lk l i).2.1 &&& 31)) else pCM l o i
theorem s_cmL {H : zH} {q : Nat} {d : tyS} {l : List Ln} {o : Int32} (hS : isB H q 3 (cS q d)) (hL : isL d l) : ∀ (j i : Nat) (v4 : Value), i + j = l.length → rn 178 4 [.ref q, .int o, .int (pCM l o i), .int (nI i), v4] [] H = some (some (.int (pCM l o l.length)), H) := by
  have hn := hL.2.1
  intro j
  induction j with
  | zero =>
    intro i v4 hi
    rw [Nat.add_zero] at hi
    subst hi
    rw [zl_178_4]
    simp (implicitDefEqProofs := false) (disch := omega) only [ze_178, zr_178_0, zr_178_1, zr_178_2, zr_178_3, zr_178_5, zr_178_6, zr_178_9, zr_178_12, zr_178_13, zr_178_15, zr_178_18, zr_178_19, zr_178_22, zr_178_24, zr_178_25, zr_178_26, zr_178_27, zr_178_29, zr_178_30, zr_178_33, zr_178_34, zr_178_35, zr_178_36, zr_178_39, zr_178_41, zr_178_42, zr_178_45, zr_178_46, zr_178_47, zr_178_49, zr_178_50, zr_178_51, zr_178_52, zr_178_55, zr_178_58, zr_178_59, true_or, or_true, true_and, and_true, if_true, if_false, ldA_ref, ldA_null, nl_int, nl_ref, nl_fl, nl_null, c1_int, c1_ref, c1_null, rdS_0 (hS), rdS_1 (hS), rdS_2 (hS), rdS_3 (hS), rdS_4 (hS), rdS_5 (hS), rdS_6 (hS), rdS_7 (hS), rdS_8 (hS), hL.1, Nat.zero_add, Nat.zero_mul, Nat.one_mul, nI_add, nI_leI, nI_ltI, nI_eq, nI_mul, Nat.le_refl]
  | succ j ih =>
    intro i v4 hi
    have hi2 : i < l.length := by omega
    have e := ih (i + 1) (.int (lk l i).2.1) (by omega)
    rw [pCM] at e
    rw [zl_178_4]
    simp (implicitDefEqProofs := false) (disch := omega) only [ze_178, zr_178_0, zr_178_1, zr_178_2, zr_178_3, zr_178_5, zr_178_6, zr_178_9, zr_178_12, zr_178_13, zr_178_15, zr_178_18, zr_178_19, zr_178_22, zr_178_24, zr_178_25, zr_178_26, zr_178_27, zr_178_29, zr_178_30, zr_178_33, zr_178_34, zr_178_35, zr_178_36, zr_178_39, zr_178_41, zr_178_42, zr_178_45, zr_178_46, zr_178_47, zr_178_49, zr_178_50, zr_178_51, zr_178_52, zr_178_55, zr_178_58, zr_178_59, true_or, or_true, true_and, and_true, if_true, if_false, ldA_ref, ldA_null, nl_int, nl_ref, nl_fl, nl_null, c1_int, c1_ref, c1_null, rdS_0 (hS), rdS_1 (hS), rdS_2 (hS), rdS_3 (hS), rdS_4 (hS), rdS_5 (hS), rdS_6 (hS), rdS_7 (hS), rdS_8 (hS), hL.1, Nat.zero_add, Nat.zero_mul, Nat.one_mul, nI_add, nI_leI, nI_ltI, nI_eq, nI_mul, Nat.not_le.mpr hi2, show ¬ 54 ≤ i from by omega, (isL_lk hL hi2).1, (isL_lk hL hi2).2.1]
    by_cases h0 : (lk l i).1 ≤ nI 3
    · rw [if_neg (Int32.not_lt.mpr h0)]
      by_cases h1 : (lk l i).2.1 = o
      · rw [if_neg (fun h => h.2 h1)] at e; rw [if_pos h1]; exact e
      · rw [if_pos ⟨h0, h1⟩] at e; rw [if_neg h1]; exact e
    · rw [if_neg (fun h => h0 h.1)] at e; rw [if_pos (Int32.not_le.mp h0)]; exact e
theorem s_corrected {H : zH} {q : Nat} {d : tyS} {l : List Ln} (o : Int32) (hS : isB H q 3 (cS q d)) (hL : isL d l) : ev 178 [.ref q, .int o] H = some (some (.int (pCM l o l.length)), H) := by
  simp (implicitDefEqProofs := false) (disch := omega) only [ze_178, zr_178_0, zr_178_1, zr_178_2, zr_178_3, zr_178_5, zr_178_6, zr_178_9, zr_178_12, zr_178_13, zr_178_15, zr_178_18, zr_178_19, zr_178_22, zr_178_24, zr_178_25, zr_178_26, zr_178_27, zr_178_29, zr_178_30, zr_178_33, zr_178_34, zr_178_35, zr_178_36, zr_178_39, zr_178_41, zr_178_42, zr_178_45, zr_178_46, zr_178_47, zr_178_49, zr_178_50, zr_178_51, zr_178_52, zr_178_55, zr_178_58, zr_178_59, true_or, or_true, true_and, and_true, if_true, if_false, ldA_ref, ldA_null, nl_int, nl_ref, nl_fl, nl_null, c1_int, c1_ref, c1_null]
  exact s_cmL hS hL l.length 0 _ (by omega)
