/-! GARNISHMENTS: shifting, removing -/
section
variable {a n : Nat} {h : zH}
def pSh1 (w : tyW) (p : Nat) : Nat → tyW
  | 0 => w
  | k + 1 => pSwap (pSh1 w p k) (p + k) (p + k + 1)
def pSh2 (w : tyW) (p : Nat) : Nat → tyW
  | 0 => w
  | k + 1 => pSwap (pSh2 w p k) (p - k) (p - k - 1)
theorem pSh1_gc (w : tyW) (p k : Nat) : gW_gc (pSh1 w p k) = gW_gc w := by
  induction k with
  | zero => rfl
  | succ k ih => rw [pSh1]; exact ih
theorem pSh2_gc (w : tyW) (p k : Nat) : gW_gc (pSh2 w p k) = gW_gc w := by
  induction k with
  | zero => rfl
  | succ k ih => rw [pSh2]; exact ih
theorem s_sh2L {w : tyW} (ha : 100 ≤ a) (hg : gW_gc w = nI n) (hn : n ≤ 3) {p t : Nat} (hp : p < n) (ht : t < n) : ∀ (j k : Nat), k + j = p - t → rn 53 23 [.ref (a + 5), .int (nI p), .int (nI t), .int (nI (p - k))] [] (blk a 10 (cW a (pSh2 w p k)) h) = some (none, blk a 10 (cW a (pSh2 w p (p - t))) h) := by
  intro j
  induction j with
  | zero =>
    intro k hk
    rw [Nat.add_zero] at hk
    subst hk
    rw [zl_53_23]
    simp (implicitDefEqProofs := false) (disch := omega) only [ze_53, zr_53_0, zr_53_1, zr_53_3, zr_53_4, zr_53_7, zr_53_8, zr_53_9, zr_53_10, zr_53_11, zr_53_12, zr_53_15, zr_53_18, zr_53_21, zr_53_22, zr_53_24, zr_53_25, zr_53_28, zr_53_29, zr_53_30, zr_53_31, zr_53_32, zr_53_33, zr_53_36, zr_53_39, zr_53_42, true_or, or_true, true_and, and_true, if_true, if_false, ldA_ref, ldA_null, nl_int, nl_ref, nl_fl, nl_null, c1_int, c1_ref, c1_null, Nat.zero_add, Nat.zero_mul, Nat.one_mul, nI_add, nI_leI, nI_ltI, nI_eq, nI_mul, show (p - (p - t) ≤ t) = True from by simp; omega, show ¬ t < p - (p - t) from by omega]
  | succ j ih =>
    intro k hk
    have e : nI (p - k) - nI 1 = nI (p - k - 1) := by
      have := nI_pred (p - k - 1)
      rw [show p - k - 1 + 1 = p - k by omega] at this
      exact this
    have e2 : nI (p - k) + (-1) = nI (p - k - 1) := by rw [← e, Int32.sub_eq_add_neg]; rfl
    have ih2 := ih (k + 1) (by omega)
    rw [show p - (k + 1) = p - k - 1 by omega, pSh2] at ih2
    rw [zl_53_23]
    simp (implicitDefEqProofs := false) (disch := omega) only [ze_53, zr_53_0, zr_53_1, zr_53_3, zr_53_4, zr_53_7, zr_53_8, zr_53_9, zr_53_10, zr_53_11, zr_53_12, zr_53_15, zr_53_18, zr_53_21, zr_53_22, zr_53_24, zr_53_25, zr_53_28, zr_53_29, zr_53_30, zr_53_31, zr_53_32, zr_53_33, zr_53_36, zr_53_39, zr_53_42, true_or, or_true, true_and, and_true, if_true, if_false, ldA_ref, ldA_null, nl_int, nl_ref, nl_fl, nl_null, c1_int, c1_ref, c1_null, Nat.zero_add, Nat.zero_mul, Nat.one_mul, nI_add, nI_leI, nI_ltI, nI_eq, nI_mul, show ¬ p - k ≤ t from by omega, show (t < p - k) = True from by simp; omega, e, e2, rdW_8 blk_isB, rdW_0 (blk_isB), rdW_1 (blk_isB), rdW_2 (blk_isB), rdW_3 (blk_isB), rdW_4 (blk_isB), rdW_5 (blk_isB), rdW_6 (blk_isB), rdW_7 (blk_isB), rdW_8 (blk_isB), rdW_9 (blk_isB), rdW_10 (blk_isB), rdW_11 (blk_isB), rdW_12 (blk_isB), rdW_13 (blk_isB), rdW_14 (blk_isB), rdW_15 (blk_isB), rdW_16 (blk_isB), rdW_17 (blk_isB), rdW_18 (blk_isB), rdW_19 (blk_isB), rdW_20 (blk_isB), rdW_21 (blk_isB), rdW_22 (blk_isB), rdW_23 (blk_isB), rdW_24 (blk_isB), rdW_25 (blk_isB), rdW_26 (blk_isB), rdW_27 (blk_isB), rdW_28 (blk_isB), rdW_29 (blk_isB), s_swap ha (show gW_gc (pSh2 w p k) = nI n from (pSh2_gc w p k).trans hg) hn (show p - k < n by omega) (show p - k - 1 < n by omega), zcall_some, zpush_some, zpush_none, zsum_ref, zsum_int, zsum_long, zsum_nil, zsum_null, Nat.reduceAdd, Nat.reduceLeDiff, if_true]
    exact ih2
theorem s_sh1L {w : tyW} (ha : 100 ≤ a) (hg : gW_gc w = nI n) (hn : n ≤ 3) {p t : Nat} (hp : p < n) (ht : t < n) : ∀ (j k : Nat), k + j = t - p → rn 53 2 [.ref (a + 5), .int (nI p), .int (nI t), .int (nI (p + k))] [] (blk a 10 (cW a (pSh1 w p k)) h) = some (none, blk a 10 (cW a (pSh2 (pSh1 w p (t - p)) p (p - t))) h) := by
  intro j
  induction j with
  | zero =>
    intro k hk
    rw [Nat.add_zero] at hk
    subst hk
    rw [zl_53_2]
    simp (implicitDefEqProofs := false) (disch := omega) only [ze_53, zr_53_0, zr_53_1, zr_53_3, zr_53_4, zr_53_7, zr_53_8, zr_53_9, zr_53_10, zr_53_11, zr_53_12, zr_53_15, zr_53_18, zr_53_21, zr_53_22, zr_53_24, zr_53_25, zr_53_28, zr_53_29, zr_53_30, zr_53_31, zr_53_32, zr_53_33, zr_53_36, zr_53_39, zr_53_42, true_or, or_true, true_and, and_true, if_true, if_false, ldA_ref, ldA_null, nl_int, nl_ref, nl_fl, nl_null, c1_int, c1_ref, c1_null, Nat.zero_add, Nat.zero_mul, Nat.one_mul, nI_add, nI_leI, nI_ltI, nI_eq, nI_mul, show (t ≤ p + (t - p)) = True from by simp; omega]
    have := s_sh2L (h := h) (w := pSh1 w p (t - p)) ha ((pSh1_gc w p (t - p)).trans hg) hn hp ht (p - t) 0 (by omega)
    exact this
  | succ j ih =>
    intro k hk
    have ih2 := ih (k + 1) (by omega)
    rw [pSh1] at ih2
    rw [zl_53_2]
    simp (implicitDefEqProofs := false) (disch := omega) only [ze_53, zr_53_0, zr_53_1, zr_53_3, zr_53_4, zr_53_7, zr_53_8, zr_53_9, zr_53_10, zr_53_11, zr_53_12, zr_53_15, zr_53_18, zr_53_21, zr_53_22, zr_53_24, zr_53_25, zr_53_28, zr_53_29, zr_53_30, zr_53_31, zr_53_32, zr_53_33, zr_53_36, zr_53_39, zr_53_42, true_or, or_true, true_and, and_true, if_true, if_false, ldA_ref, ldA_null, nl_int, nl_ref, nl_fl, nl_null, c1_int, c1_ref, c1_null, Nat.zero_add, Nat.zero_mul, Nat.one_mul, nI_add, nI_leI, nI_ltI, nI_eq, nI_mul, show ¬ t ≤ p + k from by omega, rdW_0 (blk_isB), rdW_1 (blk_isB), rdW_2 (blk_isB), rdW_3 (blk_isB), rdW_4 (blk_isB), rdW_5 (blk_isB), rdW_6 (blk_isB), rdW_7 (blk_isB), rdW_8 (blk_isB), rdW_9 (blk_isB), rdW_10 (blk_isB), rdW_11 (blk_isB), rdW_12 (blk_isB), rdW_13 (blk_isB), rdW_14 (blk_isB), rdW_15 (blk_isB), rdW_16 (blk_isB), rdW_17 (blk_isB), rdW_18 (blk_isB), rdW_19 (blk_isB), rdW_20 (blk_isB), rdW_21 (blk_isB), rdW_22 (blk_isB), rdW_23 (blk_isB), rdW_24 (blk_isB), rdW_25 (blk_isB), rdW_26 (blk_isB), rdW_27 (blk_isB), rdW_28 (blk_isB), rdW_29 (blk_isB), s_swap ha (show gW_gc (pSh1 w p k) = nI n from (pSh1_gc w p k).trans hg) hn (show p + k < n by omega) (show p + k + 1 < n by omega), zcall_some, zpush_some, zpush_none, zsum_ref, zsum_int, zsum_long, zsum_nil, zsum_null, Nat.reduceAdd, Nat.reduceLeDiff, if_true]
    exact ih2
theorem s_shift {w : tyW} (ha : 100 ≤ a) (hg : gW_gc w = nI n) (hn : n ≤ 3) {p t : Nat} (hp : p < n) (ht : t < n) : ev 53 [.ref (a + 5), .int (nI p), .int (nI t)] (blk a 10 (cW a w) h) = some (none, blk a 10 (cW a (pSh2 (pSh1 w p (t - p)) p (p - t))) h) := by
  simp (implicitDefEqProofs := false) (disch := omega) only [ze_53, zr_53_0, zr_53_1, zr_53_3, zr_53_4, zr_53_7, zr_53_8, zr_53_9, zr_53_10, zr_53_11, zr_53_12, zr_53_15, zr_53_18, zr_53_21, zr_53_22, zr_53_24, zr_53_25, zr_53_28, zr_53_29, zr_53_30, zr_53_31, zr_53_32, zr_53_33, zr_53_36, zr_53_39, zr_53_42, true_or, or_true, true_and, and_true, if_true, if_false, ldA_ref, ldA_null, nl_int, nl_ref, nl_fl, nl_null, c1_int, c1_ref, c1_null]
  exact s_sh1L (w := w) ha hg hn hp ht (t - p) 0 (by omega)
theorem s_remove {w : tyW} (ha : 100 ≤ a) (hg : gW_gc w = nI n) (hn : n ≤ 3) {p : Nat} (hp : p < n) : ev 52 [.ref (a + 5), .int (nI p)] (blk a 10 (cW a w) h) = some (some (.int (nI (n - 1))), blk a 10 (cW a (sW_gc (pSh1 w p (n - 1 - p)) (nI (n - 1)))) h) := by
  have e : nI n - nI 1 = nI (n - 1) := by
    have := nI_pred (n - 1)
    rw [show n - 1 + 1 = n by omega] at this
    exact this
  have h1 := s_shift (h := h) (w := w) ha hg hn hp (show n - 1 < n by omega)
  rw [show p - (n - 1) = 0 by omega, pSh2] at h1
  simp (implicitDefEqProofs := false) (disch := omega) only [ze_52, zr_52_0, zr_52_1, zr_52_2, zr_52_3, zr_52_6, zr_52_7, zr_52_8, zr_52_11, zr_52_12, zr_52_13, zr_52_16, zr_52_17, zr_52_18, zr_52_21, zr_52_22, zr_52_25, true_or, or_true, true_and, and_true, if_true, if_false, ldA_ref, ldA_null, nl_int, nl_ref, nl_fl, nl_null, c1_int, c1_ref, c1_null, rdW_0 (blk_isB), rdW_1 (blk_isB), rdW_2 (blk_isB), rdW_3 (blk_isB), rdW_4 (blk_isB), rdW_5 (blk_isB), rdW_6 (blk_isB), rdW_7 (blk_isB), rdW_8 (blk_isB), rdW_9 (blk_isB), rdW_10 (blk_isB), rdW_11 (blk_isB), rdW_12 (blk_isB), rdW_13 (blk_isB), rdW_14 (blk_isB), rdW_15 (blk_isB), rdW_16 (blk_isB), rdW_17 (blk_isB), rdW_18 (blk_isB), rdW_19 (blk_isB), rdW_20 (blk_isB), rdW_21 (blk_isB), rdW_22 (blk_isB), rdW_23 (blk_isB), rdW_24 (blk_isB), rdW_25 (blk_isB), rdW_26 (blk_isB), rdW_27 (blk_isB), rdW_28 (blk_isB), rdW_29 (blk_isB), hg, e, h1, pSh1_gc, wrW_0 (ha), wrW_1 (ha), wrW_2 (ha), wrW_3 (ha), wrW_4 (ha), wrW_5 (ha), wrW_6 (ha), wrW_7 (ha), wrW_8 (ha), wrW_9 (ha), wrW_10 (ha), wrW_11 (ha), gsW_0, gsW_1, gsW_2, gsW_3, gsW_4, gsW_5, gsW_6, gsW_7, gsW_8, gsW_9, gsW_10, gsW_11, gsW_12, gsW_13, gsW_14, gsW_15, gsW_16, gsW_17, gsW_18, gsW_19, gsW_20, gsW_21, gsW_22, gsW_23, gsW_24, gsW_25, gsW_26, gsW_27, gsW_28, gsW_29, gsW_30, gsW_31, gsW_32, gsW_33, gsW_34, gsW_35, gsW_36, gsW_37, gsW_38, gsW_39, gsW_40, gsW_41, gsW_42, gsW_43, gsW_44, gsW_45, gsW_46, gsW_47, gsW_48, gsW_49, gsW_50, gsW_51, gsW_52, gsW_53, gsW_54, gsW_55, gsW_56, gsW_57, gsW_58, gsW_59, gsW_60, gsW_61, gsW_62, gsW_63, gsW_64, gsW_65, gsW_66, gsW_67, gsW_68, gsW_69, gsW_70, gsW_71, gsW_72, gsW_73, gsW_74, gsW_75, gsW_76, gsW_77, gsW_78, gsW_79, gsW_80, gsW_81, gsW_82, gsW_83, gsW_84, gsW_85, gsW_86, gsW_87, gsW_88, gsW_89, gsW_90, gsW_91, gsW_92, gsW_93, gsW_94, gsW_95, gsW_96, gsW_97, gsW_98, gsW_99, gsW_100, gsW_101, gsW_102, gsW_103, gsW_104, gsW_105, gsW_106, gsW_107, gsW_108, gsW_109, gsW_110, gsW_111, gsW_112, gsW_113, gsW_114, gsW_115, gsW_116, gsW_117, gsW_118, gsW_119, gsW_120, zcall_some, zpush_some, zpush_none, zsum_ref, zsum_int, zsum_long, zsum_nil, zsum_null, Nat.reduceAdd, Nat.reduceLeDiff, if_true]
def pRp (w : tyW) : Nat → tyW × Nat
  | 0 => (w, 0)
  | p + 1 => if 0 < gW_gr (pRp w p).1 p then (pSwap (pRp w p).1 (pRp w p).2 p, (pRp w p).2 + 1) else pRp w p
theorem pRp_gc (w : tyW) (p : Nat) : gW_gc (pRp w p).1 = gW_gc w := by
  induction p with
  | zero => rfl
  | succ p ih =>
    rw [pRp]
    split
    · exact ih
    · exact ih
theorem pRp_le (w : tyW) (p : Nat) : (pRp w p).2 ≤ p := by
  induction p with
  | zero => exact Nat.le_refl _
  | succ p ih =>
    rw [pRp]
    split
    · dsimp only; omega
    · omega
theorem s_rpL {w : tyW} (ha : 100 ≤ a) (hg : gW_gc w = nI n) (hn : n ≤ 3) : ∀ (j p : Nat), p + j = n → rn 80 4 [.ref (a + 5), .int (nI (pRp w p).2), .int (nI p)] [] (blk a 10 (cW a (pRp w p).1) h) = some (none, blk a 10 (cW a (sW_gc (pRp w n).1 (nI (pRp w n).2))) h) := by
  intro j
  induction j with
  | zero =>
    intro p hp
    rw [Nat.add_zero] at hp
    subst hp
    rw [zl_80_4]
    simp (implicitDefEqProofs := false) (disch := omega) only [ze_80, zr_80_0, zr_80_1, zr_80_2, zr_80_3, zr_80_5, zr_80_6, zr_80_9, zr_80_12, zr_80_13, zr_80_14, zr_80_17, zr_80_18, zr_80_21, zr_80_22, zr_80_23, zr_80_24, zr_80_25, zr_80_28, zr_80_29, zr_80_30, zr_80_31, zr_80_34, zr_80_37, zr_80_40, zr_80_43, zr_80_44, zr_80_45, zr_80_48, true_or, or_true, true_and, and_true, if_true, if_false, ldA_ref, ldA_null, nl_int, nl_ref, nl_fl, nl_null, c1_int, c1_ref, c1_null, rdW_0 (blk_isB), rdW_1 (blk_isB), rdW_2 (blk_isB), rdW_3 (blk_isB), rdW_4 (blk_isB), rdW_5 (blk_isB), rdW_6 (blk_isB), rdW_7 (blk_isB), rdW_8 (blk_isB), rdW_9 (blk_isB), rdW_10 (blk_isB), rdW_11 (blk_isB), rdW_12 (blk_isB), rdW_13 (blk_isB), rdW_14 (blk_isB), rdW_15 (blk_isB), rdW_16 (blk_isB), rdW_17 (blk_isB), rdW_18 (blk_isB), rdW_19 (blk_isB), rdW_20 (blk_isB), rdW_21 (blk_isB), rdW_22 (blk_isB), rdW_23 (blk_isB), rdW_24 (blk_isB), rdW_25 (blk_isB), rdW_26 (blk_isB), rdW_27 (blk_isB), rdW_28 (blk_isB), rdW_29 (blk_isB), wrW_0 (ha), wrW_1 (ha), wrW_2 (ha), wrW_3 (ha), wrW_4 (ha), wrW_5 (ha), wrW_6 (ha), wrW_7 (ha), wrW_8 (ha), wrW_9 (ha), wrW_10 (ha), wrW_11 (ha), pRp_gc, hg, Nat.zero_add, Nat.zero_mul, Nat.one_mul, nI_add, nI_leI, nI_ltI, nI_eq, nI_mul, Nat.le_refl]
  | succ j ih =>
    intro p hp
    have hle := pRp_le w p
    have e := ih (p + 1) (by omega)
    rw [pRp] at e
    rw [zl_80_4]
    by_cases h0 : 0 < gW_gr (pRp w p).1 p
    · rw [if_pos h0] at e
      simp (implicitDefEqProofs := false) (disch := omega) only [ze_80, zr_80_0, zr_80_1, zr_80_2, zr_80_3, zr_80_5, zr_80_6, zr_80_9, zr_80_12, zr_80_13, zr_80_14, zr_80_17, zr_80_18, zr_80_21, zr_80_22, zr_80_23, zr_80_24, zr_80_25, zr_80_28, zr_80_29, zr_80_30, zr_80_31, zr_80_34, zr_80_37, zr_80_40, zr_80_43, zr_80_44, zr_80_45, zr_80_48, true_or, or_true, true_and, and_true, if_true, if_false, ldA_ref, ldA_null, nl_int, nl_ref, nl_fl, nl_null, c1_int, c1_ref, c1_null, rdW_0 (blk_isB), rdW_1 (blk_isB), rdW_2 (blk_isB), rdW_3 (blk_isB), rdW_4 (blk_isB), rdW_5 (blk_isB), rdW_6 (blk_isB), rdW_7 (blk_isB), rdW_8 (blk_isB), rdW_9 (blk_isB), rdW_10 (blk_isB), rdW_11 (blk_isB), rdW_12 (blk_isB), rdW_13 (blk_isB), rdW_14 (blk_isB), rdW_15 (blk_isB), rdW_16 (blk_isB), rdW_17 (blk_isB), rdW_18 (blk_isB), rdW_19 (blk_isB), rdW_20 (blk_isB), rdW_21 (blk_isB), rdW_22 (blk_isB), rdW_23 (blk_isB), rdW_24 (blk_isB), rdW_25 (blk_isB), rdW_26 (blk_isB), rdW_27 (blk_isB), rdW_28 (blk_isB), rdW_29 (blk_isB), pRp_gc, hg, Nat.zero_add, Nat.zero_mul, Nat.one_mul, nI_add, nI_leI, nI_ltI, nI_eq, nI_mul, cmp_lt, cmp_gt, cmp_le, cmp_ge, cmp_eq, show ¬ n ≤ p from by omega, show ¬ 3 ≤ p from by omega, show ¬ gW_gr (pRp w p).1 p ≤ 0 from Int64.not_le.mpr h0, s_swap ha ((pRp_gc w p).trans hg) hn (show (pRp w p).2 < n by omega) (show p < n by omega), zcall_some, zpush_some, zpush_none, zsum_ref, zsum_int, zsum_long, zsum_nil, zsum_null, Nat.reduceAdd, Nat.reduceLeDiff, if_true]
      exact e
    · rw [if_neg h0] at e
      simp (implicitDefEqProofs := false) (disch := omega) only [ze_80, zr_80_0, zr_80_1, zr_80_2, zr_80_3, zr_80_5, zr_80_6, zr_80_9, zr_80_12, zr_80_13, zr_80_14, zr_80_17, zr_80_18, zr_80_21, zr_80_22, zr_80_23, zr_80_24, zr_80_25, zr_80_28, zr_80_29, zr_80_30, zr_80_31, zr_80_34, zr_80_37, zr_80_40, zr_80_43, zr_80_44, zr_80_45, zr_80_48, true_or, or_true, true_and, and_true, if_true, if_false, ldA_ref, ldA_null, nl_int, nl_ref, nl_fl, nl_null, c1_int, c1_ref, c1_null, rdW_0 (blk_isB), rdW_1 (blk_isB), rdW_2 (blk_isB), rdW_3 (blk_isB), rdW_4 (blk_isB), rdW_5 (blk_isB), rdW_6 (blk_isB), rdW_7 (blk_isB), rdW_8 (blk_isB), rdW_9 (blk_isB), rdW_10 (blk_isB), rdW_11 (blk_isB), rdW_12 (blk_isB), rdW_13 (blk_isB), rdW_14 (blk_isB), rdW_15 (blk_isB), rdW_16 (blk_isB), rdW_17 (blk_isB), rdW_18 (blk_isB), rdW_19 (blk_isB), rdW_20 (blk_isB), rdW_21 (blk_isB), rdW_22 (blk_isB), rdW_23 (blk_isB), rdW_24 (blk_isB), rdW_25 (blk_isB), rdW_26 (blk_isB), rdW_27 (blk_isB), rdW_28 (blk_isB), rdW_29 (blk_isB), pRp_gc, hg, Nat.zero_add, Nat.zero_mul, Nat.one_mul, nI_add, nI_leI, nI_ltI, nI_eq, nI_mul, cmp_lt, cmp_gt, cmp_le, cmp_ge, cmp_eq, show ¬ n ≤ p from by omega, show ¬ 3 ≤ p from by omega, show gW_gr (pRp w p).1 p ≤ 0 from Int64.not_lt.mp h0]
      exact e
theorem s_removePaid {w : tyW} (ha : 100 ≤ a) (hg : gW_gc w = nI n) (hn : n ≤ 3) : ev 80 [.ref (a + 5)] (blk a 10 (cW a w) h) = some (none, blk a 10 (cW a (sW_gc (pRp w n).1 (nI (pRp w n).2))) h) := by
  simp (implicitDefEqProofs := false) (disch := omega) only [ze_80, zr_80_0, zr_80_1, zr_80_2, zr_80_3, zr_80_5, zr_80_6, zr_80_9, zr_80_12, zr_80_13, zr_80_14, zr_80_17, zr_80_18, zr_80_21, zr_80_22, zr_80_23, zr_80_24, zr_80_25, zr_80_28, zr_80_29, zr_80_30, zr_80_31, zr_80_34, zr_80_37, zr_80_40, zr_80_43, zr_80_44, zr_80_45, zr_80_48, true_or, or_true, true_and, and_true, if_true, if_false, ldA_ref, ldA_null, nl_int, nl_ref, nl_fl, nl_null, c1_int, c1_ref, c1_null]
  exact s_rpL (w := w) ha hg hn n 0 (by omega)
end
