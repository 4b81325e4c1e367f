/-! GARNISHES of a closing -/
def pWish (w : tyW) (p : Nat) (ab : Int64) : Int64 := if gW_gk w p = nI 0 then (gW_gs w p).toInt64 * 1000000 else (gW_gs w p).toInt64 * ab / 1000
def pMin (x y : Int64) : Int64 := if y < x then y else x
def pWant (w : tyW) (p : Nat) (ab : Int64) : Int64 := pMin (pWish w p ab) (gW_gr w p)
theorem s_wanted {H : zH} {a p : Nat} {w : tyW} (hW : isB H a 10 (cW a w)) (hp : p < 3) (ab : Int64) : ev 75 [.ref (a + 5), .int (nI p), .long ab] H = some (some (.long (pWant w p ab)), H) := by
  simp (implicitDefEqProofs := false) (disch := omega) only [ze_75, zr_75_0, zr_75_1, zr_75_4, zr_75_5, zr_75_6, zr_75_9, zr_75_10, zr_75_13, zr_75_14, zr_75_15, zr_75_16, zr_75_19, zr_75_20, zr_75_23, zr_75_24, zr_75_27, zr_75_28, zr_75_29, zr_75_30, zr_75_31, zr_75_32, zr_75_35, zr_75_36, zr_75_38, zr_75_40, zr_75_41, zr_75_44, zr_75_45, zr_75_46, zr_75_49, true_or, or_true, true_and, and_true, if_true, if_false, ldA_ref, ldA_null, nl_int, nl_ref, nl_fl, nl_null, c1_int, c1_ref, c1_null, rdW_0 hW, rdW_1 hW, rdW_2 hW, rdW_3 hW, rdW_4 hW, rdW_5 hW, rdW_6 hW, rdW_7 hW, rdW_8 hW, rdW_9 hW, rdW_10 hW, rdW_11 hW, rdW_12 hW, rdW_13 hW, rdW_14 hW, rdW_15 hW, rdW_16 hW, rdW_17 hW, rdW_18 hW, rdW_19 hW, rdW_20 hW, rdW_21 hW, rdW_22 hW, rdW_23 hW, rdW_24 hW, rdW_25 hW, rdW_26 hW, rdW_27 hW, rdW_28 hW, rdW_29 hW, zcall_some, zpush_some, zpush_none, zsum_ref, zsum_int, zsum_long, zsum_nil, zsum_null, Nat.reduceAdd, Nat.reduceLeDiff, if_true, dvJ_1000]
  unfold pWant pWish pMin
  by_cases h1 : gW_gk w p = nI 0 <;> simp only [h1, if_true, if_false]
def pGRe (rest wanted taken : Int64) : Int32 := if rest = 0 then nI 4 else if taken = wanted then nI 1 else if 0 < taken then nI 2 else nI 3
theorem s_garnishReason (x y z : Int64) (H : zH) : ev 76 [.long x, .long y, .long z] H = some (some (.int (pGRe x y z)), H) := by
  simp (implicitDefEqProofs := false) (disch := omega) only [ze_76, zr_76_0, zr_76_1, zr_76_2, zr_76_3, zr_76_6, zr_76_7, zr_76_8, zr_76_10, zr_76_11, zr_76_12, zr_76_15, zr_76_16, zr_76_17, zr_76_19, zr_76_20, zr_76_21, zr_76_24, zr_76_25, zr_76_28, zr_76_29, true_or, or_true, true_and, and_true, if_true, if_false, ldA_ref, ldA_null, nl_int, nl_ref, nl_fl, nl_null, c1_int, c1_ref, c1_null, cmp_lt, cmp_gt, cmp_le, cmp_ge, cmp_eq]
  unfold pGRe
  by_cases h1 : x = 0 <;> by_cases h2 : z = y <;> by_cases h3 : 0 < z <;> simp only [h1, h2, h3, if_true, if_false]
  all_goals first | rfl | (have h4 := Int64.not_le.mpr h3; simp only [h4, if_false]) | (have h4 := Int64.not_lt.mp h3; simp only [h4, if_true])
/-- what is left, the rests, the lines, after so many of them -/
def pGst (w : tyW) (ab : Int64) : Nat → Int64 × (Nat → Int64) × List Ln
  | 0 => (ab, gW_gr w, [])
  | p + 1 => let z := pGst w ab p
    if 0 < z.2.1 p then
      let wt := pMin (pWish w p ab) (z.2.1 p)
      let tk := pMin wt z.1
      (z.1 - tk, vp_updL z.2.1 p (z.2.1 p - tk), z.2.2 ++ [(nI 5, nI p, pGRe (z.2.1 p - tk) wt tk, -tk)])
    else z
theorem pGst_len (w : tyW) (ab : Int64) (p : Nat) : (pGst w ab p).2.2.length ≤ p := by
  induction p with
  | zero => exact Nat.le_refl _
  | succ p ih =>
    rw [pGst]
    dsimp only
    split
    · rw [List.length_append]; simp; omega
    · omega
theorem s_garnL {h : zH} {c q a n : Nat} {w : tyW} {ab : Int64} {l : List Ln} (hq : 100 ≤ q) (ha : 100 ≤ a) (hn : n ≤ 3) (hg : gW_gc w = nI n) (dw : a + 10 ≤ q ∨ q + 3 ≤ a) (hl : l.length ≤ 50) : ∀ (j p : Nat) (d : tyS) (v8 v9 v10 v11 v12 : Value), p + j = n → isL d (l ++ (pGst w ab p).2.2) → ∃ d', rn 74 6 [.ref c, .ref (a + 5), .long ab, .float 0, .ref q, .long (pGst w ab p).1, .float 0, .int (nI p), v8, v9, v10, v11, v12] [] (blk q 3 (cS q d) (blk a 10 (cW a (sW_gr w (pGst w ab p).2.1)) h)) = some (none, blk q 3 (cS q d') (blk a 10 (cW a (sW_gr w (pGst w ab n).2.1)) h)) ∧ isL d' (l ++ (pGst w ab n).2.2) := by
  intro j
  induction j with
  | zero =>
    intro p d v8 v9 v10 v11 v12 hd hL
    rw [Nat.add_zero] at hd
    subst hd
    refine ⟨d, ?_, hL⟩
    rw [zl_74_6]
    simp (implicitDefEqProofs := false) (disch := omega) only [ze_74, zr_74_0, zr_74_1, zr_74_3, zr_74_4, zr_74_8, zr_74_9, zr_74_12, zr_74_15, zr_74_17, zr_74_18, zr_74_21, zr_74_22, zr_74_25, zr_74_27, zr_74_28, zr_74_29, zr_74_30, zr_74_33, zr_74_34, zr_74_36, zr_74_37, zr_74_40, zr_74_42, zr_74_44, zr_74_46, zr_74_49, zr_74_51, zr_74_53, zr_74_55, zr_74_56, zr_74_58, zr_74_59, zr_74_62, zr_74_64, zr_74_65, zr_74_66, zr_74_68, zr_74_69, zr_74_70, zr_74_71, zr_74_74, zr_74_76, zr_74_77, zr_74_79, zr_74_81, zr_74_84, zr_74_86, zr_74_88, zr_74_89, zr_74_91, zr_74_93, zr_74_95, zr_74_96, zr_74_99, zr_74_102, zr_74_105, true_or, or_true, true_and, and_true, if_true, if_false, ldA_ref, ldA_null, nl_int, nl_ref, nl_fl, nl_null, c1_int, c1_ref, c1_null, Nat.zero_add, Nat.zero_mul, Nat.one_mul, nI_add, nI_leI, nI_ltI, nI_eq, nI_mul, gf_skip, rdW_0 blk_isB, rdW_1 blk_isB, rdW_2 blk_isB, rdW_3 blk_isB, rdW_4 blk_isB, rdW_5 blk_isB, rdW_6 blk_isB, rdW_7 blk_isB, rdW_8 blk_isB, rdW_9 blk_isB, rdW_10 blk_isB, rdW_11 blk_isB, rdW_12 blk_isB, rdW_13 blk_isB, rdW_14 blk_isB, rdW_15 blk_isB, rdW_16 blk_isB, rdW_17 blk_isB, rdW_18 blk_isB, rdW_19 blk_isB, rdW_20 blk_isB, rdW_21 blk_isB, rdW_22 blk_isB, rdW_23 blk_isB, rdW_24 blk_isB, rdW_25 blk_isB, rdW_26 blk_isB, rdW_27 blk_isB, rdW_28 blk_isB, rdW_29 blk_isB, gsW_0, gsW_1, gsW_2, gsW_3, gsW_4, gsW_5, gsW_6, gsW_7, gsW_8, gsW_9, gsW_10, gsW_11, gsW_12, gsW_13, gsW_14, gsW_15, gsW_16, gsW_17, gsW_18, gsW_19, gsW_20, gsW_21, gsW_22, gsW_23, gsW_24, gsW_25, gsW_26, gsW_27, gsW_28, gsW_29, gsW_30, gsW_31, gsW_32, gsW_33, gsW_34, gsW_35, gsW_36, gsW_37, gsW_38, gsW_39, gsW_40, gsW_41, gsW_42, gsW_43, gsW_44, gsW_45, gsW_46, gsW_47, gsW_48, gsW_49, gsW_50, gsW_51, gsW_52, gsW_53, gsW_54, gsW_55, gsW_56, gsW_57, gsW_58, gsW_59, gsW_60, gsW_61, gsW_62, gsW_63, gsW_64, gsW_65, gsW_66, gsW_67, gsW_68, gsW_69, gsW_70, gsW_71, gsW_72, gsW_73, gsW_74, gsW_75, gsW_76, gsW_77, gsW_78, gsW_79, gsW_80, gsW_81, gsW_82, gsW_83, gsW_84, gsW_85, gsW_86, gsW_87, gsW_88, gsW_89, gsW_90, gsW_91, gsW_92, gsW_93, gsW_94, gsW_95, gsW_96, gsW_97, gsW_98, gsW_99, gsW_100, gsW_101, gsW_102, gsW_103, gsW_104, gsW_105, gsW_106, gsW_107, gsW_108, gsW_109, gsW_110, gsW_111, gsW_112, gsW_113, gsW_114, gsW_115, gsW_116, gsW_117, gsW_118, gsW_119, gsW_120, hg, Nat.le_refl]
  | succ j ih =>
    intro p d v8 v9 v10 v11 v12 hd hL
    have hp : p < n := by omega
    have hp3 : p < 3 := by omega
    have hlen : (l ++ (pGst w ab p).2.2).length < 54 := by
      have := pGst_len w ab p
      rw [List.length_append]; omega
    rw [zl_74_6]
    by_cases h0 : 0 < (pGst w ab p).2.1 p
    · have hadd := isL_add hL hlen (nI 5, nI p, pGRe ((pGst w ab p).2.1 p - pMin (pMin (pWish w p ab) ((pGst w ab p).2.1 p)) (pGst w ab p).1) (pMin (pWish w p ab) ((pGst w ab p).2.1 p)) (pMin (pMin (pWish w p ab) ((pGst w ab p).2.1 p)) (pGst w ab p).1), -pMin (pMin (pWish w p ab) ((pGst w ab p).2.1 p)) (pGst w ab p).1)
      have e1 : pGst w ab (p + 1) = ((pGst w ab p).1 - pMin (pMin (pWish w p ab) ((pGst w ab p).2.1 p)) (pGst w ab p).1, vp_updL (pGst w ab p).2.1 p ((pGst w ab p).2.1 p - pMin (pMin (pWish w p ab) ((pGst w ab p).2.1 p)) (pGst w ab p).1), (pGst w ab p).2.2 ++ [(nI 5, nI p, pGRe ((pGst w ab p).2.1 p - pMin (pMin (pWish w p ab) ((pGst w ab p).2.1 p)) (pGst w ab p).1) (pMin (pWish w p ab) ((pGst w ab p).2.1 p)) (pMin (pMin (pWish w p ab) ((pGst w ab p).2.1 p)) (pGst w ab p).1), -pMin (pMin (pWish w p ab) ((pGst w ab p).2.1 p)) (pGst w ab p).1)]) := by
        rw [pGst]; exact if_pos h0
      obtain ⟨d', e, hL'⟩ := ih (p + 1) (pAdd d (l ++ (pGst w ab p).2.2).length (nI 5, nI p, pGRe ((pGst w ab p).2.1 p - pMin (pMin (pWish w p ab) ((pGst w ab p).2.1 p)) (pGst w ab p).1) (pMin (pWish w p ab) ((pGst w ab p).2.1 p)) (pMin (pMin (pWish w p ab) ((pGst w ab p).2.1 p)) (pGst w ab p).1), -pMin (pMin (pWish w p ab) ((pGst w ab p).2.1 p)) (pGst w ab p).1)) (.long (pMin (pWish w p ab) ((pGst w ab p).2.1 p))) (.float 0) (.long (pMin (pMin (pWish w p ab) ((pGst w ab p).2.1 p)) (pGst w ab p).1)) (.float 0) (.int (pGRe ((pGst w ab p).2.1 p - pMin (pMin (pWish w p ab) ((pGst w ab p).2.1 p)) (pGst w ab p).1) (pMin (pWish w p ab) ((pGst w ab p).2.1 p)) (pMin (pMin (pWish w p ab) ((pGst w ab p).2.1 p)) (pGst w ab p).1))) (by omega) (by rw [e1, ← List.append_assoc]; exact hadd)
      refine ⟨d', ?_, hL'⟩
      rw [e1] at e
      sorry
    · have e1 : pGst w ab (p + 1) = pGst w ab p := by rw [pGst]; exact if_neg h0
      obtain ⟨d', e, hL'⟩ := ih (p + 1) d v8 v9 v10 v11 v12 (by omega) (by rw [e1]; exact hL)
      refine ⟨d', ?_, hL'⟩
      rw [e1] at e
      have h0' : (pGst w ab p).2.1 p ≤ 0 := Int64.not_lt.mp h0
      simp (implicitDefEqProofs := false) (disch := omega) only [ze_74, zr_74_0, zr_74_1, zr_74_3, zr_74_4, zr_74_8, zr_74_9, zr_74_12, zr_74_15, zr_74_17, zr_74_18, zr_74_21, zr_74_22, zr_74_25, zr_74_27, zr_74_28, zr_74_29, zr_74_30, zr_74_33, zr_74_34, zr_74_36, zr_74_37, zr_74_40, zr_74_42, zr_74_44, zr_74_46, zr_74_49, zr_74_51, zr_74_53, zr_74_55, zr_74_56, zr_74_58, zr_74_59, zr_74_62, zr_74_64, zr_74_65, zr_74_66, zr_74_68, zr_74_69, zr_74_70, zr_74_71, zr_74_74, zr_74_76, zr_74_77, zr_74_79, zr_74_81, zr_74_84, zr_74_86, zr_74_88, zr_74_89, zr_74_91, zr_74_93, zr_74_95, zr_74_96, zr_74_99, zr_74_102, zr_74_105, true_or, or_true, true_and, and_true, if_true, if_false, ldA_ref, ldA_null, nl_int, nl_ref, nl_fl, nl_null, c1_int, c1_ref, c1_null, Nat.zero_add, Nat.zero_mul, Nat.one_mul, nI_add, nI_leI, nI_ltI, nI_eq, nI_mul, cmp_lt, cmp_gt, cmp_le, cmp_ge, cmp_eq, gf_skip, lj_skip, rdW_0 blk_isB, rdW_1 blk_isB, rdW_2 blk_isB, rdW_3 blk_isB, rdW_4 blk_isB, rdW_5 blk_isB, rdW_6 blk_isB, rdW_7 blk_isB, rdW_8 blk_isB, rdW_9 blk_isB, rdW_10 blk_isB, rdW_11 blk_isB, rdW_12 blk_isB, rdW_13 blk_isB, rdW_14 blk_isB, rdW_15 blk_isB, rdW_16 blk_isB, rdW_17 blk_isB, rdW_18 blk_isB, rdW_19 blk_isB, rdW_20 blk_isB, rdW_21 blk_isB, rdW_22 blk_isB, rdW_23 blk_isB, rdW_24 blk_isB, rdW_25 blk_isB, rdW_26 blk_isB, rdW_27 blk_isB, rdW_28 blk_isB, rdW_29 blk_isB, gsW_0, gsW_1, gsW_2, gsW_3, gsW_4, gsW_5, gsW_6, gsW_7, gsW_8, gsW_9, gsW_10, gsW_11, gsW_12, gsW_13, gsW_14, gsW_15, gsW_16, gsW_17, gsW_18, gsW_19, gsW_20, gsW_21, gsW_22, gsW_23, gsW_24, gsW_25, gsW_26, gsW_27, gsW_28, gsW_29, gsW_30, gsW_31, gsW_32, gsW_33, gsW_34, gsW_35, gsW_36, gsW_37, gsW_38, gsW_39, gsW_40, gsW_41, gsW_42, gsW_43, gsW_44, gsW_45, gsW_46, gsW_47, gsW_48, gsW_49, gsW_50, gsW_51, gsW_52, gsW_53, gsW_54, gsW_55, gsW_56, gsW_57, gsW_58, gsW_59, gsW_60, gsW_61, gsW_62, gsW_63, gsW_64, gsW_65, gsW_66, gsW_67, gsW_68, gsW_69, gsW_70, gsW_71, gsW_72, gsW_73, gsW_74, gsW_75, gsW_76, gsW_77, gsW_78, gsW_79, gsW_80, gsW_81, gsW_82, gsW_83, gsW_84, gsW_85, gsW_86, gsW_87, gsW_88, gsW_89, gsW_90, gsW_91, gsW_92, gsW_93, gsW_94, gsW_95, gsW_96, gsW_97, gsW_98, gsW_99, gsW_100, gsW_101, gsW_102, gsW_103, gsW_104, gsW_105, gsW_106, gsW_107, gsW_108, gsW_109, gsW_110, gsW_111, gsW_112, gsW_113, gsW_114, gsW_115, gsW_116, gsW_117, gsW_118, gsW_119, gsW_120, hg, Nat.not_le.mpr hp, show ¬ 3 ≤ p from by omega, h0', show (p < 3) = True from by simp; omega]
      exact e
