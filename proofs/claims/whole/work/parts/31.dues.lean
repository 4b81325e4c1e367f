/-! THE CLASS'S DUES: gross pays, dues of all months -/
def pGr (w : tyW) (m : Nat) : Int64 := (gW_en w m * gW_en w (12 + m) / nI 30 + gW_en w (24 + m)).toInt64
def pG (w : tyW) : Nat → Int64
  | 0 => 0
  | m + 1 => pG w m + pGr w m
theorem dvI_30 (r : zRes) : dvI (nI 30) r = r := if_neg (by decide)
theorem s_grossOf {H : zH} {a m : Nat} {w : tyW} (hW : isB H a 10 (cW a w)) (hm : m < 12) : ev 61 [.ref a, .int (nI m)] H = some (some (.long (pGr w m)), H) := by
  simp (implicitDefEqProofs := false) (disch := omega) only [ze_61, zr_61_0, zr_61_1, zr_61_4, zr_61_5, zr_61_6, zr_61_7, zr_61_8, zr_61_9, zr_61_12, zr_61_14, zr_61_15, zr_61_16, zr_61_17, zr_61_18, zr_61_21, zr_61_23, zr_61_24, zr_61_25, zr_61_26, zr_61_29, ze_62, zr_62_0, zr_62_1, zr_62_2, zr_62_3, zr_62_5, zr_62_6, zr_62_7, zr_62_8, zr_62_9, true_or, or_true, true_and, and_true, if_true, if_false, ldA_ref, ldA_null, nl_int, nl_ref, nl_fl, nl_null, c1_int, c1_ref, c1_null, rdW_0 (hW), rdW_1 (hW), rdW_2 (hW), rdW_3 (hW), rdW_4 (hW), rdW_5 (hW), rdW_6 (hW), rdW_7 (hW), rdW_8 (hW), rdW_9 (hW), rdW_10 (hW), rdW_11 (hW), rdW_12 (hW), rdW_13 (hW), rdW_14 (hW), rdW_15 (hW), rdW_16 (hW), rdW_17 (hW), rdW_18 (hW), rdW_19 (hW), rdW_20 (hW), rdW_21 (hW), rdW_22 (hW), rdW_23 (hW), rdW_24 (hW), rdW_25 (hW), rdW_26 (hW), rdW_27 (hW), rdW_28 (hW), rdW_29 (hW), zcall_some, zpush_some, zpush_none, zsum_ref, zsum_int, zsum_long, zsum_nil, zsum_null, Nat.reduceAdd, Nat.reduceLeDiff, if_true, Nat.zero_add, Nat.zero_mul, Nat.one_mul, nI_add, nI_leI, nI_ltI, nI_eq, nI_mul, dvI_30]
  rfl
theorem s_grossL {H : zH} {a n : Nat} {w : tyW} (hW : isB H a 10 (cW a w)) (hn : n ≤ 12) : ∀ (d m : Nat), m + d = n → rn 157 5 [.ref a, .int (nI n), .long (pG w m), .float 0, .int (nI m)] [] H = some (some (.long (pG w n)), H) := by
  intro d
  induction d with
  | zero =>
    intro m h
    rw [Nat.add_zero] at h
    subst h
    rw [zl_157_5]
    simp (implicitDefEqProofs := false) (disch := omega) only [ze_157, zr_157_0, zr_157_1, zr_157_2, zr_157_3, zr_157_7, zr_157_8, zr_157_11, zr_157_13, zr_157_15, zr_157_18, zr_157_19, zr_157_20, zr_157_22, zr_157_25, zr_157_26, zr_157_27, zr_157_30, zr_157_33, zr_157_34, true_or, or_true, true_and, and_true, if_true, if_false, ldA_ref, ldA_null, nl_int, nl_ref, nl_fl, nl_null, c1_int, c1_ref, c1_null, Nat.zero_add, Nat.zero_mul, Nat.one_mul, nI_add, nI_leI, nI_ltI, nI_eq, nI_mul, Nat.le_refl, if_true]
  | succ d ih =>
    intro m h
    have hm : m < n := by omega
    rw [zl_157_5]
    simp (implicitDefEqProofs := false) (disch := omega) only [ze_157, zr_157_0, zr_157_1, zr_157_2, zr_157_3, zr_157_7, zr_157_8, zr_157_11, zr_157_13, zr_157_15, zr_157_18, zr_157_19, zr_157_20, zr_157_22, zr_157_25, zr_157_26, zr_157_27, zr_157_30, zr_157_33, zr_157_34, true_or, or_true, true_and, and_true, if_true, if_false, ldA_ref, ldA_null, nl_int, nl_ref, nl_fl, nl_null, c1_int, c1_ref, c1_null, Nat.zero_add, Nat.zero_mul, Nat.one_mul, nI_add, nI_leI, nI_ltI, nI_eq, nI_mul, Nat.not_le.mpr hm, show ¬ 12 ≤ m from by omega, if_false, rdW_0 hW, s_grossOf hW (show m < 12 by omega), zcall_some, zpush_some, zpush_none, zsum_ref, zsum_int, zsum_long, zsum_nil, zsum_null, Nat.reduceAdd, Nat.reduceLeDiff, if_true, and_true]
    exact ih (m + 1) (by omega)
theorem s_grossBefore {H : zH} {a n : Nat} {w : tyW} (hW : isB H a 10 (cW a w)) (hn : n ≤ 12) : ev 157 [.ref a, .int (nI n)] H = some (some (.long (pG w n)), H) := by
  simp (implicitDefEqProofs := false) (disch := omega) only [ze_157, zr_157_0, zr_157_1, zr_157_2, zr_157_3, zr_157_7, zr_157_8, zr_157_11, zr_157_13, zr_157_15, zr_157_18, zr_157_19, zr_157_20, zr_157_22, zr_157_25, zr_157_26, zr_157_27, zr_157_30, zr_157_33, zr_157_34, true_or, or_true, true_and, and_true, if_true, if_false, ldA_ref, ldA_null, nl_int, nl_ref, nl_fl, nl_null, c1_int, c1_ref, c1_null]
  exact s_grossL hW hn n 0 (by omega)
/-- the amount up to so many months, and what is due of a month -/
def pUpTo (s : tyR) (n : Nat) (w : tyW) (k m : Nat) : Int64 := if m = 0 then 0 else pAmt s n k (pG w m)
def pDue (s : tyR) (n : Nat) (w : tyW) (k m : Nat) : Int64 := pUpTo s n w k (m + 1) - pUpTo s n w k m
def pDues (s : tyR) (n : Nat) (w : tyW) (z : Nat) (du : Nat → Int64) (q : Nat) : Int64 := if q < z then pDue s n w (q / 12) (q % 12) else du q
theorem pDues_upd {s : tyR} {n : Nat} {w : tyW} {k m : Nat} (hm : m < 12) (du : Nat → Int64) : vp_updL (pDues s n w (k * 12 + m) du) (k * 12 + m) (pDue s n w k m) = pDues s n w (k * 12 + m + 1) du := by
  funext q
  unfold vp_updL pDues
  by_cases e : q = k * 12 + m
  · subst e
    rw [if_pos rfl, if_pos (by omega), show (k * 12 + m) / 12 = k by omega, show (k * 12 + m) % 12 = m by omega]
  · rw [if_neg e]
    by_cases h : q < k * 12 + m
    · rw [if_pos h, if_pos (by omega)]
    · rw [if_neg h, if_neg (by omega)]
theorem s_duesI {h : zH} {r a c n k : Nat} {s : tyR} {w : tyW} (hc : 100 ≤ c) (hR : isB h r 5 (cR r s)) (hW : isB h a 10 (cW a w)) (dR : r + 5 ≤ c ∨ c + 2 ≤ r) (dW : a + 10 ≤ c ∨ c + 2 ≤ a) (hn : n ≤ 5) (hb : gR_bn s = nI n) (hk : k < 5) (du : tyD) (R : zRes)
    (K : ∀ v4 v6 v9 v10 : Value, rn 60 10 [.ref r, .ref a, .ref (c + 1), .int (nI (k + 1)), v4, .float 0, v6, .float 0, .int (nI 12), v9, v10] [] (blk c 2 (cD c (pDues s n w (k * 12 + 12) du)) h) = R) :
    ∀ (d m : Nat) (v9 v10 : Value), m + d = 12 → rn 60 24 [.ref r, .ref a, .ref (c + 1), .int (nI k), .long (pG w m), .float 0, .long (pUpTo s n w k m), .float 0, .int (nI m), v9, v10] [] (blk c 2 (cD c (pDues s n w (k * 12 + m) du)) h) = R := by
  have hR2 : ∀ du2, isB (blk c 2 (cD c du2) h) r 5 (cR r s) := fun du2 => isB_skip dR hR
  have hW2 : ∀ du2, isB (blk c 2 (cD c du2) h) a 10 (cW a w) := fun du2 => isB_skip dW hW
  intro d
  induction d with
  | zero =>
    intro m v9 v10 hd
    rw [Nat.add_zero] at hd
    subst hd
    rw [zl_60_24]
    simp (implicitDefEqProofs := false) (disch := omega) only [ze_60, zr_60_0, zr_60_1, zr_60_2, zr_60_4, zr_60_7, zr_60_8, zr_60_9, zr_60_11, zr_60_12, zr_60_15, zr_60_16, zr_60_18, zr_60_19, zr_60_21, zr_60_22, zr_60_26, zr_60_28, zr_60_31, zr_60_33, zr_60_34, zr_60_36, zr_60_39, zr_60_40, zr_60_42, zr_60_43, zr_60_44, zr_60_46, zr_60_49, zr_60_51, zr_60_52, zr_60_53, zr_60_55, zr_60_56, zr_60_58, zr_60_59, zr_60_61, zr_60_63, zr_60_64, zr_60_65, zr_60_67, zr_60_69, zr_60_72, zr_60_75, zr_60_78, zr_60_81, true_or, or_true, true_and, and_true, if_true, if_false, ldA_ref, ldA_null, nl_int, nl_ref, nl_fl, nl_null, c1_int, c1_ref, c1_null, Nat.zero_add, Nat.zero_mul, Nat.one_mul, nI_add, nI_leI, nI_ltI, nI_eq, nI_mul, Nat.le_refl, if_true]
    exact K _ _ _ _
  | succ d ih =>
    intro m v9 v10 hd
    have hm : m < 12 := by omega
    rw [zl_60_24]
    simp (implicitDefEqProofs := false) (disch := omega) only [ze_60, zr_60_0, zr_60_1, zr_60_2, zr_60_4, zr_60_7, zr_60_8, zr_60_9, zr_60_11, zr_60_12, zr_60_15, zr_60_16, zr_60_18, zr_60_19, zr_60_21, zr_60_22, zr_60_26, zr_60_28, zr_60_31, zr_60_33, zr_60_34, zr_60_36, zr_60_39, zr_60_40, zr_60_42, zr_60_43, zr_60_44, zr_60_46, zr_60_49, zr_60_51, zr_60_52, zr_60_53, zr_60_55, zr_60_56, zr_60_58, zr_60_59, zr_60_61, zr_60_63, zr_60_64, zr_60_65, zr_60_67, zr_60_69, zr_60_72, zr_60_75, zr_60_78, zr_60_81, true_or, or_true, true_and, and_true, if_true, if_false, ldA_ref, ldA_null, nl_int, nl_ref, nl_fl, nl_null, c1_int, c1_ref, c1_null, Nat.zero_add, Nat.zero_mul, Nat.one_mul, nI_add, nI_leI, nI_ltI, nI_eq, nI_mul, show ¬ 12 ≤ m from by omega, if_false, rdW_0 (hW2 _), rdR_0 (hR2 _), s_grossOf (hW2 _) hm, s_amountOn (hR2 _) hn hb hk, zcall_some, zpush_some, zpush_none, zsum_ref, zsum_int, zsum_long, zsum_nil, zsum_null, Nat.reduceAdd, Nat.reduceLeDiff, if_true, and_true, wrD_0 (hc)]
    have e := pDues_upd (s := s) (n := n) (w := w) (k := k) hm du
    have e2 : pDue s n w k m = pAmt s n k (pG w m + pGr w m) - pUpTo s n w k m := rfl
    rw [e2] at e
    show rn _ _ _ _ (blk c 2 (cD c (vp_updL (pDues s n w (k * 12 + m) du) (k * 12 + m) (pAmt s n k (pG w m + pGr w m) - pUpTo s n w k m))) h) = R
    rw [e]
    exact ih (m + 1) _ _ (by omega)
theorem s_duesO {h : zH} {r a c n : Nat} {s : tyR} {w : tyW} (hc : 100 ≤ c) (hR : isB h r 5 (cR r s)) (hW : isB h a 10 (cW a w)) (dR : r + 5 ≤ c ∨ c + 2 ≤ r) (dW : a + 10 ≤ c ∨ c + 2 ≤ a) (hn : n ≤ 5) (hb : gR_bn s = nI n) (du : tyD) :
    ∀ (d k : Nat) (v4 v5 v6 v7 v8 v9 v10 : Value), k + d = 5 → rn 60 10 [.ref r, .ref a, .ref (c + 1), .int (nI k), v4, v5, v6, v7, v8, v9, v10] [] (blk c 2 (cD c (pDues s n w (k * 12) du)) h) = some (none, blk c 2 (cD c (pDues s n w 60 du)) h) := by
  intro d
  induction d with
  | zero =>
    intro k v4 v5 v6 v7 v8 v9 v10 hd
    rw [Nat.add_zero] at hd
    subst hd
    rw [zl_60_10]
    simp (implicitDefEqProofs := false) (disch := omega) only [ze_60, zr_60_0, zr_60_1, zr_60_2, zr_60_4, zr_60_7, zr_60_8, zr_60_9, zr_60_11, zr_60_12, zr_60_15, zr_60_16, zr_60_18, zr_60_19, zr_60_21, zr_60_22, zr_60_26, zr_60_28, zr_60_31, zr_60_33, zr_60_34, zr_60_36, zr_60_39, zr_60_40, zr_60_42, zr_60_43, zr_60_44, zr_60_46, zr_60_49, zr_60_51, zr_60_52, zr_60_53, zr_60_55, zr_60_56, zr_60_58, zr_60_59, zr_60_61, zr_60_63, zr_60_64, zr_60_65, zr_60_67, zr_60_69, zr_60_72, zr_60_75, zr_60_78, zr_60_81, true_or, or_true, true_and, and_true, if_true, if_false, ldA_ref, ldA_null, nl_int, nl_ref, nl_fl, nl_null, c1_int, c1_ref, c1_null, Nat.zero_add, Nat.zero_mul, Nat.one_mul, nI_add, nI_leI, nI_ltI, nI_eq, nI_mul, Nat.le_refl, if_true]
  | succ d ih =>
    intro k v4 v5 v6 v7 v8 v9 v10 hd
    rw [zl_60_10]
    simp (implicitDefEqProofs := false) (disch := omega) only [ze_60, zr_60_0, zr_60_1, zr_60_2, zr_60_4, zr_60_7, zr_60_8, zr_60_9, zr_60_11, zr_60_12, zr_60_15, zr_60_16, zr_60_18, zr_60_19, zr_60_21, zr_60_22, zr_60_26, zr_60_28, zr_60_31, zr_60_33, zr_60_34, zr_60_36, zr_60_39, zr_60_40, zr_60_42, zr_60_43, zr_60_44, zr_60_46, zr_60_49, zr_60_51, zr_60_52, zr_60_53, zr_60_55, zr_60_56, zr_60_58, zr_60_59, zr_60_61, zr_60_63, zr_60_64, zr_60_65, zr_60_67, zr_60_69, zr_60_72, zr_60_75, zr_60_78, zr_60_81, true_or, or_true, true_and, and_true, if_true, if_false, ldA_ref, ldA_null, nl_int, nl_ref, nl_fl, nl_null, c1_int, c1_ref, c1_null, Nat.zero_add, Nat.zero_mul, Nat.one_mul, nI_add, nI_leI, nI_ltI, nI_eq, nI_mul, show ¬ 5 ≤ k from by omega, if_false]
    refine s_duesI hc hR hW dR dW hn hb (by omega) du _ (fun v4 v6 v9 v10 => ?_) 12 0 _ _ (by omega)
    have := ih (k + 1) v4 (.float 0) v6 (.float 0) (.int (nI 12)) v9 v10 (by omega)
    rw [Nat.add_mul, Nat.one_mul] at this
    exact this
theorem s_fillDues {h : zH} {r a c n : Nat} {s : tyR} {w : tyW} (hc : 100 ≤ c) (hR : isB h r 5 (cR r s)) (hW : isB h a 10 (cW a w)) (dR : r + 5 ≤ c ∨ c + 2 ≤ r) (dW : a + 10 ≤ c ∨ c + 2 ≤ a) (hn : n ≤ 5) (hb : gR_bn s = nI n) (du : tyD) : ev 60 [.ref r, .ref a, .ref (c + 1)] (blk c 2 (cD c du) h) = some (none, blk c 2 (cD c (pDues s n w 60 du)) h) := by
  simp (implicitDefEqProofs := false) (disch := omega) only [ze_60, zr_60_0, zr_60_1, zr_60_2, zr_60_4, zr_60_7, zr_60_8, zr_60_9, zr_60_11, zr_60_12, zr_60_15, zr_60_16, zr_60_18, zr_60_19, zr_60_21, zr_60_22, zr_60_26, zr_60_28, zr_60_31, zr_60_33, zr_60_34, zr_60_36, zr_60_39, zr_60_40, zr_60_42, zr_60_43, zr_60_44, zr_60_46, zr_60_49, zr_60_51, zr_60_52, zr_60_53, zr_60_55, zr_60_56, zr_60_58, zr_60_59, zr_60_61, zr_60_63, zr_60_64, zr_60_65, zr_60_67, zr_60_69, zr_60_72, zr_60_75, zr_60_78, zr_60_81, true_or, or_true, true_and, and_true, if_true, if_false, ldA_ref, ldA_null, nl_int, nl_ref, nl_fl, nl_null, c1_int, c1_ref, c1_null, Nat.zero_add, Nat.zero_mul, Nat.one_mul, nI_add, nI_leI, nI_ltI, nI_eq, nI_mul, rdD_0 (blk_isB), rdD_1 (blk_isB), rdD_2 (blk_isB), rdD_3 (blk_isB), show ¬ 60 < 60 from by omega, if_false, show (60 ≤ 60) = True from by simp, if_true]
  have := s_duesO hc hR hW dR dW hn hb du 5 0
  have e : pDues s n w (0 * 12) du = du := by
    funext q
    unfold pDues
    exact if_neg (by omega)
  rw [e] at this
  exact this _ _ _ _ _ _ _ (by omega)
