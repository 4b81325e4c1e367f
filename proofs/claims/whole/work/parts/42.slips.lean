/-! THE SLIPS of a worker -/
def slp (H : zH) (w : tyW) (c : Nat) (LS : Nat → List Ln) : Prop := (∀ m, m < 12 → m < c → ∃ q d, gW_sl w m = some q ∧ isB H q 3 (cS q d) ∧ isL d (LS m) ∧ 0 < (LS m).length) ∧ ∀ m, m < 12 → c ≤ m → gW_sl w m = none
def pSM (LS : Nat → List Ln) (c : Nat) (k : Int32) : Nat → Int64
  | 0 => 0
  | m + 1 => if m < c then pSM LS c k m + pSK (LS m) k (LS m).length else pSM LS c k m
theorem rf_some (q : Nat) : va_rf (some q) = .ref q := rfl
theorem rf_none : va_rf none = .null := rfl
section
variable {H : zH} {a c : Nat} {w : tyW} {LS : Nat → List Ln}
theorem s_wsumL (hW : isB H a 10 (cW a w)) (hs : slp H w c LS) (k : Int32) : ∀ (j m : Nat), m + j = 12 → rn 160 5 [.ref a, .int k, .long (pSM LS c k m), .float 0, .int (nI m)] [] H = some (some (.long (pSM LS c k 12)), H) := by
  intro j
  induction j with
  | zero =>
    intro m hm
    rw [Nat.add_zero] at hm
    subst hm
    rw [zl_160_5]
    simp (implicitDefEqProofs := false) (disch := omega) only [ze_160, zr_160_0, zr_160_1, zr_160_2, zr_160_3, zr_160_7, zr_160_9, zr_160_12, zr_160_13, zr_160_16, zr_160_18, zr_160_19, zr_160_22, zr_160_23, zr_160_24, zr_160_27, zr_160_29, zr_160_30, zr_160_31, zr_160_34, zr_160_35, zr_160_36, zr_160_39, zr_160_42, zr_160_43, true_or, or_true, true_and, and_true, if_true, if_false, ldA_ref, ldA_null, nl_int, nl_ref, nl_fl, nl_null, c1_int, c1_ref, c1_null, Nat.zero_add, Nat.zero_mul, Nat.one_mul, nI_add, nI_leI, nI_ltI, nI_eq, nI_mul, Nat.le_refl]
  | succ j ih =>
    intro m hm
    have hm2 : m < 12 := by omega
    have e := ih (m + 1) (by omega)
    rw [pSM] at e
    rw [zl_160_5]
    by_cases hc : m < c
    · obtain ⟨q, d, h1, h2, h3, h4⟩ := hs.1 m hm2 hc
      rw [if_pos hc] at e
      simp (implicitDefEqProofs := false) (disch := omega) only [ze_160, zr_160_0, zr_160_1, zr_160_2, zr_160_3, zr_160_7, zr_160_9, zr_160_12, zr_160_13, zr_160_16, zr_160_18, zr_160_19, zr_160_22, zr_160_23, zr_160_24, zr_160_27, zr_160_29, zr_160_30, zr_160_31, zr_160_34, zr_160_35, zr_160_36, zr_160_39, zr_160_42, zr_160_43, true_or, or_true, true_and, and_true, if_true, if_false, ldA_ref, ldA_null, nl_int, nl_ref, nl_fl, nl_null, c1_int, c1_ref, c1_null, Nat.zero_add, Nat.zero_mul, Nat.one_mul, nI_add, nI_leI, nI_ltI, nI_eq, nI_mul, show ¬ 12 ≤ m from by omega, rdW_0 (hW), rdW_1 (hW), rdW_2 (hW), rdW_3 (hW), rdW_4 (hW), rdW_5 (hW), rdW_6 (hW), rdW_7 (hW), rdW_8 (hW), rdW_9 (hW), rdW_10 (hW), rdW_11 (hW), rdW_12 (hW), rdW_13 (hW), rdW_14 (hW), rdW_15 (hW), rdW_16 (hW), rdW_17 (hW), rdW_18 (hW), rdW_19 (hW), rdW_20 (hW), rdW_21 (hW), rdW_22 (hW), rdW_23 (hW), rdW_24 (hW), rdW_25 (hW), rdW_26 (hW), rdW_27 (hW), rdW_28 (hW), rdW_29 (hW), h1, rf_some, ifN_ref, rdS_0 h2, s_slipSumOf k h2 h3, zcall_some, zpush_some, zpush_none, zsum_ref, zsum_int, zsum_long, zsum_nil, zsum_null, Nat.reduceAdd, Nat.reduceLeDiff, if_true]
      exact e
    · rw [if_neg hc] at e
      simp (implicitDefEqProofs := false) (disch := omega) only [ze_160, zr_160_0, zr_160_1, zr_160_2, zr_160_3, zr_160_7, zr_160_9, zr_160_12, zr_160_13, zr_160_16, zr_160_18, zr_160_19, zr_160_22, zr_160_23, zr_160_24, zr_160_27, zr_160_29, zr_160_30, zr_160_31, zr_160_34, zr_160_35, zr_160_36, zr_160_39, zr_160_42, zr_160_43, true_or, or_true, true_and, and_true, if_true, if_false, ldA_ref, ldA_null, nl_int, nl_ref, nl_fl, nl_null, c1_int, c1_ref, c1_null, Nat.zero_add, Nat.zero_mul, Nat.one_mul, nI_add, nI_leI, nI_ltI, nI_eq, nI_mul, show ¬ 12 ≤ m from by omega, rdW_0 (hW), rdW_1 (hW), rdW_2 (hW), rdW_3 (hW), rdW_4 (hW), rdW_5 (hW), rdW_6 (hW), rdW_7 (hW), rdW_8 (hW), rdW_9 (hW), rdW_10 (hW), rdW_11 (hW), rdW_12 (hW), rdW_13 (hW), rdW_14 (hW), rdW_15 (hW), rdW_16 (hW), rdW_17 (hW), rdW_18 (hW), rdW_19 (hW), rdW_20 (hW), rdW_21 (hW), rdW_22 (hW), rdW_23 (hW), rdW_24 (hW), rdW_25 (hW), rdW_26 (hW), rdW_27 (hW), rdW_28 (hW), rdW_29 (hW), hs.2 m hm2 (by omega), rf_none, ifN_null]
      exact e
theorem s_wsum (hW : isB H a 10 (cW a w)) (hs : slp H w c LS) (k : Int32) : ev 160 [.ref a, .int k] H = some (some (.long (pSM LS c k 12)), H) := by
  simp (implicitDefEqProofs := false) (disch := omega) only [ze_160, zr_160_0, zr_160_1, zr_160_2, zr_160_3, zr_160_7, zr_160_9, zr_160_12, zr_160_13, zr_160_16, zr_160_18, zr_160_19, zr_160_22, zr_160_23, zr_160_24, zr_160_27, zr_160_29, zr_160_30, zr_160_31, zr_160_34, zr_160_35, zr_160_36, zr_160_39, zr_160_42, zr_160_43, true_or, or_true, true_and, and_true, if_true, if_false, ldA_ref, ldA_null, nl_int, nl_ref, nl_fl, nl_null, c1_int, c1_ref, c1_null]
  exact s_wsumL hW hs k 12 0 (by omega)
def pTot (LS : Nat → List Ln) (c : Nat) (k : Nat) : Int64 := if k = 0 ∨ k = 7 then pSM LS c (nI k) 12 else if k = 8 then pSM LS c (nI 4) 12 + pSM LS c (nI 6) 12 else -pSM LS c (nI k) 12
theorem s_totalOf (hW : isB H a 10 (cW a w)) (hs : slp H w c LS) {k : Nat} (hk : k < 9) : ev 159 [.ref a, .int (nI k)] H = some (some (.long (pTot LS c k)), H) := by
  simp (implicitDefEqProofs := false) (disch := omega) only [ze_159, zr_159_0, zr_159_1, zr_159_4, zr_159_5, zr_159_7, zr_159_10, zr_159_11, zr_159_12, zr_159_15, zr_159_16, zr_159_17, zr_159_19, zr_159_22, zr_159_23, zr_159_24, zr_159_27, zr_159_28, zr_159_30, zr_159_33, zr_159_34, zr_159_35, zr_159_36, zr_159_37, zr_159_40, zr_159_41, true_or, or_true, true_and, and_true, if_true, if_false, ldA_ref, ldA_null, nl_int, nl_ref, nl_fl, nl_null, c1_int, c1_ref, c1_null, Nat.zero_add, Nat.zero_mul, Nat.one_mul, nI_add, nI_leI, nI_ltI, nI_eq, nI_mul, rdW_0 hW, s_wsum hW hs, zcall_some, zpush_some, zpush_none, zsum_ref, zsum_int, zsum_long, zsum_nil, zsum_null, Nat.reduceAdd, Nat.reduceLeDiff, if_true]
  unfold pTot
  by_cases h0 : k = 0
  · subst h0; rfl
  · by_cases h7 : k = 7
    · subst h7; rfl
    · by_cases h8 : k = 8
      · subst h8; rfl
      · rw [if_neg h0, if_neg h7, if_neg h8, if_neg (by omega), if_neg h8]
def pPd (l : List Ln) : Int64 := (lk l (l.length - 1)).2.2.2
def pLow (LS : Nat → List Ln) (c : Nat) : Nat → Int32 × Int64
  | 0 => (-2, 0)
  | m + 1 => if m < c then (if (pLow LS c m).1 = -2 ∨ pPd (LS m) < (pLow LS c m).2 then (nI m, pPd (LS m)) else pLow LS c m) else pLow LS c m
theorem s_lowL (hW : isB H a 10 (cW a w)) (hs : slp H w c LS) : ∀ (j m : Nat), m + j = 12 → rn 170 8 [.ref a, .int (pLow LS c m).1, .long (pLow LS c m).2, .float 0, .int (nI m)] [] H = some (some (.int (pLow LS c 12).1), H) := by
  intro j
  induction j with
  | zero =>
    intro m hm
    rw [Nat.add_zero] at hm
    subst hm
    rw [zl_170_8]
    simp (implicitDefEqProofs := false) (disch := omega) only [ze_170, zr_170_0, zr_170_2, zr_170_3, zr_170_4, zr_170_5, zr_170_6, zr_170_10, zr_170_12, zr_170_15, zr_170_16, zr_170_19, zr_170_21, zr_170_22, zr_170_25, zr_170_26, zr_170_28, zr_170_31, zr_170_32, zr_170_35, zr_170_37, zr_170_38, zr_170_41, zr_170_42, zr_170_43, zr_170_46, zr_170_48, zr_170_49, zr_170_50, zr_170_53, zr_170_55, zr_170_56, zr_170_59, zr_170_60, zr_170_63, zr_170_66, zr_170_67, true_or, or_true, true_and, and_true, if_true, if_false, ldA_ref, ldA_null, nl_int, nl_ref, nl_fl, nl_null, c1_int, c1_ref, c1_null, Nat.zero_add, Nat.zero_mul, Nat.one_mul, nI_add, nI_leI, nI_ltI, nI_eq, nI_mul, Nat.le_refl]
  | succ j ih =>
    intro m hm
    have hm2 : m < 12 := by omega
    have e := ih (m + 1) (by omega)
    rw [pLow] at e
    rw [zl_170_8]
    by_cases hc : m < c
    · obtain ⟨q, d, h1, h2, h3, h4⟩ := hs.1 m hm2 hc
      rw [if_pos hc] at e
      have hp : ev 149 [.ref q] H = some (some (.long (pPd (LS m))), H) := s_paid h2 h3 h4
      simp (implicitDefEqProofs := false) (disch := omega) only [ze_170, zr_170_0, zr_170_2, zr_170_3, zr_170_4, zr_170_5, zr_170_6, zr_170_10, zr_170_12, zr_170_15, zr_170_16, zr_170_19, zr_170_21, zr_170_22, zr_170_25, zr_170_26, zr_170_28, zr_170_31, zr_170_32, zr_170_35, zr_170_37, zr_170_38, zr_170_41, zr_170_42, zr_170_43, zr_170_46, zr_170_48, zr_170_49, zr_170_50, zr_170_53, zr_170_55, zr_170_56, zr_170_59, zr_170_60, zr_170_63, zr_170_66, zr_170_67, true_or, or_true, true_and, and_true, if_true, if_false, ldA_ref, ldA_null, nl_int, nl_ref, nl_fl, nl_null, c1_int, c1_ref, c1_null, Nat.zero_add, Nat.zero_mul, Nat.one_mul, nI_add, nI_leI, nI_ltI, nI_eq, nI_mul, cmp_lt, cmp_gt, cmp_le, cmp_ge, cmp_eq, show ¬ 12 ≤ m from by omega, rdW_0 (hW), rdW_1 (hW), rdW_2 (hW), rdW_3 (hW), rdW_4 (hW), rdW_5 (hW), rdW_6 (hW), rdW_7 (hW), rdW_8 (hW), rdW_9 (hW), rdW_10 (hW), rdW_11 (hW), rdW_12 (hW), rdW_13 (hW), rdW_14 (hW), rdW_15 (hW), rdW_16 (hW), rdW_17 (hW), rdW_18 (hW), rdW_19 (hW), rdW_20 (hW), rdW_21 (hW), rdW_22 (hW), rdW_23 (hW), rdW_24 (hW), rdW_25 (hW), rdW_26 (hW), rdW_27 (hW), rdW_28 (hW), rdW_29 (hW), h1, rf_some, ifN_ref, rdS_0 h2, hp, zcall_some, zpush_some, zpush_none, zsum_ref, zsum_int, zsum_long, zsum_nil, zsum_null, Nat.reduceAdd, Nat.reduceLeDiff, if_true]
      by_cases g1 : (pLow LS c m).1 = -2
      · rw [if_pos (Or.inl g1)] at e
        rw [if_pos g1]; exact e
      · rw [if_neg g1]
        by_cases g2 : pPd (LS m) < (pLow LS c m).2
        · rw [if_pos (Or.inr g2)] at e
          rw [if_neg (Int64.not_le.mpr g2)]; exact e
        · rw [if_neg (fun h => by rcases h with h | h; exact g1 h; exact g2 h)] at e
          rw [if_pos (Int64.not_lt.mp g2)]; exact e
    · rw [if_neg hc] at e
      simp (implicitDefEqProofs := false) (disch := omega) only [ze_170, zr_170_0, zr_170_2, zr_170_3, zr_170_4, zr_170_5, zr_170_6, zr_170_10, zr_170_12, zr_170_15, zr_170_16, zr_170_19, zr_170_21, zr_170_22, zr_170_25, zr_170_26, zr_170_28, zr_170_31, zr_170_32, zr_170_35, zr_170_37, zr_170_38, zr_170_41, zr_170_42, zr_170_43, zr_170_46, zr_170_48, zr_170_49, zr_170_50, zr_170_53, zr_170_55, zr_170_56, zr_170_59, zr_170_60, zr_170_63, zr_170_66, zr_170_67, true_or, or_true, true_and, and_true, if_true, if_false, ldA_ref, ldA_null, nl_int, nl_ref, nl_fl, nl_null, c1_int, c1_ref, c1_null, Nat.zero_add, Nat.zero_mul, Nat.one_mul, nI_add, nI_leI, nI_ltI, nI_eq, nI_mul, show ¬ 12 ≤ m from by omega, rdW_0 (hW), rdW_1 (hW), rdW_2 (hW), rdW_3 (hW), rdW_4 (hW), rdW_5 (hW), rdW_6 (hW), rdW_7 (hW), rdW_8 (hW), rdW_9 (hW), rdW_10 (hW), rdW_11 (hW), rdW_12 (hW), rdW_13 (hW), rdW_14 (hW), rdW_15 (hW), rdW_16 (hW), rdW_17 (hW), rdW_18 (hW), rdW_19 (hW), rdW_20 (hW), rdW_21 (hW), rdW_22 (hW), rdW_23 (hW), rdW_24 (hW), rdW_25 (hW), rdW_26 (hW), rdW_27 (hW), rdW_28 (hW), rdW_29 (hW), hs.2 m hm2 (by omega), rf_none, ifN_null]
      exact e
theorem s_lowest (hW : isB H a 10 (cW a w)) (hs : slp H w c LS) : ev 170 [.ref a] H = some (some (.int (pLow LS c 12).1), H) := by
  simp (implicitDefEqProofs := false) (disch := omega) only [ze_170, zr_170_0, zr_170_2, zr_170_3, zr_170_4, zr_170_5, zr_170_6, zr_170_10, zr_170_12, zr_170_15, zr_170_16, zr_170_19, zr_170_21, zr_170_22, zr_170_25, zr_170_26, zr_170_28, zr_170_31, zr_170_32, zr_170_35, zr_170_37, zr_170_38, zr_170_41, zr_170_42, zr_170_43, zr_170_46, zr_170_48, zr_170_49, zr_170_50, zr_170_53, zr_170_55, zr_170_56, zr_170_59, zr_170_60, zr_170_63, zr_170_66, zr_170_67, true_or, or_true, true_and, and_true, if_true, if_false, ldA_ref, ldA_null, nl_int, nl_ref, nl_fl, nl_null, c1_int, c1_ref, c1_null]
  exact s_lowL hW hs 12 0 (by omega)
end
/-- the rules that are asked for -/
def pRule (s : tyR) (n wh : Nat) (i : Int32) : Int32 :=
  if wh = 1 then (if nI 0 ≤ i ∧ i ≤ nI 1 then gR_ra s i.toNatClampNeg else -1) else if wh = 2 then (if nI 0 ≤ i ∧ i ≤ nI 1 then gR_ca s i.toNatClampNeg else -1)
  else if wh = 3 then (if nI 0 ≤ i ∧ i < nI n then gR_th s i.toNatClampNeg else -1) else if wh = 4 then (if nI 0 ≤ i ∧ i < nI n then gR_br s i.toNatClampNeg else -1)
  else if i = nI 0 then nI n else -1
theorem s_leastThreshold {H : zH} {r n : Nat} {s : tyR} (hR : isB H r 5 (cR r s)) (hn : n ≤ 5) (hb : gR_bn s = nI n) : ev 41 [.ref r] H = some (some (.int (if n = 0 then nI 0 else gR_th s (n - 1) + nI 1)), H) := by
  by_cases h0 : n = 0
  · subst h0
    rw [if_pos rfl]
    simp (implicitDefEqProofs := false) (disch := omega) only [ze_41, zr_41_0, zr_41_1, zr_41_4, zr_41_5, zr_41_6, zr_41_9, zr_41_12, zr_41_13, zr_41_16, zr_41_17, zr_41_20, zr_41_21, zr_41_22, zr_41_23, zr_41_24, zr_41_25, zr_41_28, zr_41_29, true_or, or_true, true_and, and_true, if_true, if_false, ldA_ref, ldA_null, nl_int, nl_ref, nl_fl, nl_null, c1_int, c1_ref, c1_null, rdR_0 (hR), rdR_1 (hR), rdR_2 (hR), rdR_3 (hR), rdR_4 (hR), rdR_5 (hR), rdR_6 (hR), rdR_7 (hR), rdR_8 (hR), rdR_9 (hR), rdR_10 (hR), rdR_11 (hR), rdR_12 (hR), rdR_13 (hR), hb, s_within, bI_0, Nat.zero_add, Nat.zero_mul, Nat.one_mul, nI_add, nI_leI, nI_ltI, nI_eq, nI_mul, zcall_some, zpush_some, zpush_none, zsum_ref, zsum_int, zsum_long, zsum_nil, zsum_null, Nat.reduceAdd, Nat.reduceLeDiff, if_true, show (¬ (1 ≤ 0 ∧ 0 ≤ 5)) = True from by simp, show ¬ 1 ≤ 0 from by omega, false_and, not_false_eq_true]
  · rw [if_neg h0]
    have e : nI n - nI 1 = nI (n - 1) := by
      have := nI_pred (n - 1)
      rw [show n - 1 + 1 = n by omega] at this
      exact this
    simp (implicitDefEqProofs := false) (disch := omega) only [ze_41, zr_41_0, zr_41_1, zr_41_4, zr_41_5, zr_41_6, zr_41_9, zr_41_12, zr_41_13, zr_41_16, zr_41_17, zr_41_20, zr_41_21, zr_41_22, zr_41_23, zr_41_24, zr_41_25, zr_41_28, zr_41_29, true_or, or_true, true_and, and_true, if_true, if_false, ldA_ref, ldA_null, nl_int, nl_ref, nl_fl, nl_null, c1_int, c1_ref, c1_null, rdR_0 (hR), rdR_1 (hR), rdR_2 (hR), rdR_3 (hR), rdR_4 (hR), rdR_5 (hR), rdR_6 (hR), rdR_7 (hR), rdR_8 (hR), rdR_9 (hR), rdR_10 (hR), rdR_11 (hR), rdR_12 (hR), rdR_13 (hR), hb, e, s_within, bI_0, Nat.zero_add, Nat.zero_mul, Nat.one_mul, nI_add, nI_leI, nI_ltI, nI_eq, nI_mul, zcall_some, zpush_some, zpush_none, zsum_ref, zsum_int, zsum_long, zsum_nil, zsum_null, Nat.reduceAdd, Nat.reduceLeDiff, if_true, show ¬ ¬ (1 ≤ n ∧ n ≤ 5) from by omega]
