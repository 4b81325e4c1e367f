/-! THE REFERENCE: taxes, dues -/
theorem l64_lt {a b : Nat} (ha : a < 2 ^ 31) (hb : b < 2 ^ 31) : ((nI a).toInt64 < (nI b).toInt64) ↔ a < b := by
  rw [nI_l ha, nI_l hb, Int64.lt_iff_toInt_lt, lN_toInt ha, lN_toInt hb]
  omega
theorem l64_le {a b : Nat} (ha : a < 2 ^ 31) (hb : b < 2 ^ 31) : ((nI a).toInt64 ≤ (nI b).toInt64) ↔ a ≤ b := by
  rw [nI_l ha, nI_l hb, Int64.le_iff_toInt_le, lN_toInt ha, lN_toInt hb]
  omega
section
variable {m e : Nat} {r : Rst} {h : zH}
def rT (r : Rst) (x : Int64) : Int64 := 1000 * x - (rC r 0 x + rC r 1 x) / 1000
def rUp (r : Rst) (n : Nat) (t : Int64) (k : Nat) : Int64 := if k + 1 < n then pMin t (1000 * rS r (8 + k + 1)) else t
def rPart (r : Rst) (n : Nat) (t : Int64) (k : Nat) : Int64 := rS r (13 + k) * pMax 0 (rUp r n t k - 1000 * rS r (8 + k))
def rTaxL (r : Rst) (n : Nat) (t : Int64) : Nat → Int64
  | 0 => 0
  | k + 1 => rTaxL r n t k + rPart r n t k
theorem s_rtaxL {n : Nat} (hn : n ≤ 5) (hb : rS r 7 = (nI n).toInt64) (x t : Int64) : ∀ (j k : Nat) (v8 v9 v10 v11 : Value), k + j = n → rn 236 30 [.ref m, .long x, .float 0, .long t, .float 0, .long (rTaxL r n t k), .float 0, .int (nI k), v8, v9, v10, v11] [] (putM m r h) = some (some (.long (rTaxL r n t n)), putM m r h) := by
  intro j
  induction j with
  | zero =>
    intro k v8 v9 v10 v11 hk
    rw [Nat.add_zero] at hk
    subst hk
    rw [zl_236_30]
    simp (implicitDefEqProofs := false) (disch := omega) only [ze_236, zr_236_0, zr_236_3, zr_236_4, zr_236_5, zr_236_6, zr_236_7, zr_236_8, zr_236_11, zr_236_12, zr_236_13, zr_236_14, zr_236_17, zr_236_18, zr_236_21, zr_236_22, zr_236_23, zr_236_24, zr_236_25, zr_236_27, zr_236_28, zr_236_32, zr_236_33, zr_236_34, zr_236_37, zr_236_39, zr_236_40, zr_236_41, zr_236_44, zr_236_47, zr_236_48, zr_236_51, zr_236_53, zr_236_55, zr_236_56, zr_236_57, zr_236_58, zr_236_60, zr_236_62, zr_236_63, zr_236_64, zr_236_65, zr_236_66, zr_236_69, zr_236_71, zr_236_72, zr_236_73, zr_236_76, zr_236_77, zr_236_80, zr_236_81, zr_236_84, zr_236_86, zr_236_88, zr_236_89, zr_236_90, zr_236_91, zr_236_92, zr_236_93, zr_236_96, zr_236_99, zr_236_100, zr_236_102, zr_236_104, zr_236_105, zr_236_108, zr_236_110, zr_236_112, zr_236_113, zr_236_114, zr_236_115, zr_236_117, zr_236_119, zr_236_120, zr_236_123, zr_236_124, zr_236_125, zr_236_127, zr_236_130, zr_236_133, zr_236_135, true_or, or_true, true_and, and_true, if_true, if_false, ldA_ref, ldA_null, nl_int, nl_ref, nl_fl, nl_null, c1_int, c1_ref, c1_null, gf_M0, Nat.zero_add, Nat.zero_mul, Nat.one_mul, nI_add, nI_leI, nI_ltI, nI_eq, nI_mul, cmp_lt, cmp_gt, cmp_le, cmp_ge, cmp_eq, lj_M1 (show 7 < 8271 by omega), hb, l64_lt, l64_le, Nat.le_refl]
  | succ j ih =>
    intro k v8 v9 v10 v11 hk
    have hk2 : k < n := by omega
    have e1 : ∀ v8 v9 v10 v11, rn 236 30 [.ref m, .long x, .float 0, .long t, .float 0, .long (rTaxL r n t k + rS r (13 + k) * pMax 0 (rUp r n t k - 1000 * rS r (8 + k))), .float 0, .int (nI (k + 1)), v8, v9, v10, v11] [] (putM m r h) = some (some (.long (rTaxL r n t n)), putM m r h) := fun v8 v9 v10 v11 => ih (k + 1) v8 v9 v10 v11 (by omega)
    rw [zl_236_30]
    by_cases h1 : k + 1 < n
    · have hu : rUp r n t k = pMin t (1000 * rS r (8 + k + 1)) := if_pos h1
      rw [hu] at e1
      simp (implicitDefEqProofs := false) (disch := omega) only [ze_236, zr_236_0, zr_236_3, zr_236_4, zr_236_5, zr_236_6, zr_236_7, zr_236_8, zr_236_11, zr_236_12, zr_236_13, zr_236_14, zr_236_17, zr_236_18, zr_236_21, zr_236_22, zr_236_23, zr_236_24, zr_236_25, zr_236_27, zr_236_28, zr_236_32, zr_236_33, zr_236_34, zr_236_37, zr_236_39, zr_236_40, zr_236_41, zr_236_44, zr_236_47, zr_236_48, zr_236_51, zr_236_53, zr_236_55, zr_236_56, zr_236_57, zr_236_58, zr_236_60, zr_236_62, zr_236_63, zr_236_64, zr_236_65, zr_236_66, zr_236_69, zr_236_71, zr_236_72, zr_236_73, zr_236_76, zr_236_77, zr_236_80, zr_236_81, zr_236_84, zr_236_86, zr_236_88, zr_236_89, zr_236_90, zr_236_91, zr_236_92, zr_236_93, zr_236_96, zr_236_99, zr_236_100, zr_236_102, zr_236_104, zr_236_105, zr_236_108, zr_236_110, zr_236_112, zr_236_113, zr_236_114, zr_236_115, zr_236_117, zr_236_119, zr_236_120, zr_236_123, zr_236_124, zr_236_125, zr_236_127, zr_236_130, zr_236_133, zr_236_135, true_or, or_true, true_and, and_true, if_true, if_false, ldA_ref, ldA_null, nl_int, nl_ref, nl_fl, nl_null, c1_int, c1_ref, c1_null, gf_M0, Nat.zero_add, Nat.zero_mul, Nat.one_mul, nI_add, nI_leI, nI_ltI, nI_eq, nI_mul, cmp_lt, cmp_gt, cmp_le, cmp_ge, cmp_eq, lj_M1 (show 7 < 8271 by omega), lj_M1 (show 8 + k < 8271 by omega), lj_M1 (show 8 + k + 1 < 8271 by omega), lj_M1 (show 13 + k < 8271 by omega), hb, l64_lt, l64_le, show ¬ n ≤ k from by omega, show ¬ n ≤ k + 1 from by omega, zcall_some, zpush_some, zpush_none, zsum_ref, zsum_int, zsum_long, zsum_nil, zsum_null, Nat.reduceAdd, Nat.reduceLeDiff, if_true, mn_f, mx_f]
      exact e1 _ _ _ _
    · have hu : rUp r n t k = t := if_neg h1
      rw [hu] at e1
      simp (implicitDefEqProofs := false) (disch := omega) only [ze_236, zr_236_0, zr_236_3, zr_236_4, zr_236_5, zr_236_6, zr_236_7, zr_236_8, zr_236_11, zr_236_12, zr_236_13, zr_236_14, zr_236_17, zr_236_18, zr_236_21, zr_236_22, zr_236_23, zr_236_24, zr_236_25, zr_236_27, zr_236_28, zr_236_32, zr_236_33, zr_236_34, zr_236_37, zr_236_39, zr_236_40, zr_236_41, zr_236_44, zr_236_47, zr_236_48, zr_236_51, zr_236_53, zr_236_55, zr_236_56, zr_236_57, zr_236_58, zr_236_60, zr_236_62, zr_236_63, zr_236_64, zr_236_65, zr_236_66, zr_236_69, zr_236_71, zr_236_72, zr_236_73, zr_236_76, zr_236_77, zr_236_80, zr_236_81, zr_236_84, zr_236_86, zr_236_88, zr_236_89, zr_236_90, zr_236_91, zr_236_92, zr_236_93, zr_236_96, zr_236_99, zr_236_100, zr_236_102, zr_236_104, zr_236_105, zr_236_108, zr_236_110, zr_236_112, zr_236_113, zr_236_114, zr_236_115, zr_236_117, zr_236_119, zr_236_120, zr_236_123, zr_236_124, zr_236_125, zr_236_127, zr_236_130, zr_236_133, zr_236_135, true_or, or_true, true_and, and_true, if_true, if_false, ldA_ref, ldA_null, nl_int, nl_ref, nl_fl, nl_null, c1_int, c1_ref, c1_null, gf_M0, Nat.zero_add, Nat.zero_mul, Nat.one_mul, nI_add, nI_leI, nI_ltI, nI_eq, nI_mul, cmp_lt, cmp_gt, cmp_le, cmp_ge, cmp_eq, lj_M1 (show 7 < 8271 by omega), lj_M1 (show 8 + k < 8271 by omega), lj_M1 (show 8 + k + 1 < 8271 by omega), lj_M1 (show 13 + k < 8271 by omega), hb, l64_lt, l64_le, show ¬ n ≤ k from by omega, show n ≤ k + 1 from by omega, zcall_some, zpush_some, zpush_none, zsum_ref, zsum_int, zsum_long, zsum_nil, zsum_null, Nat.reduceAdd, Nat.reduceLeDiff, if_true, mn_f, mx_f]
      exact e1 _ _ _ _
theorem s_rtax {n : Nat} (hn : n ≤ 5) (hb : rS r 7 = (nI n).toInt64) (x : Int64) : ev 236 [.ref m, .long x] (putM m r h) = some (some (.long (rTaxL r n (rT r x) n)), putM m r h) := by
  simp (implicitDefEqProofs := false) (disch := omega) only [ze_236, zr_236_0, zr_236_3, zr_236_4, zr_236_5, zr_236_6, zr_236_7, zr_236_8, zr_236_11, zr_236_12, zr_236_13, zr_236_14, zr_236_17, zr_236_18, zr_236_21, zr_236_22, zr_236_23, zr_236_24, zr_236_25, zr_236_27, zr_236_28, zr_236_32, zr_236_33, zr_236_34, zr_236_37, zr_236_39, zr_236_40, zr_236_41, zr_236_44, zr_236_47, zr_236_48, zr_236_51, zr_236_53, zr_236_55, zr_236_56, zr_236_57, zr_236_58, zr_236_60, zr_236_62, zr_236_63, zr_236_64, zr_236_65, zr_236_66, zr_236_69, zr_236_71, zr_236_72, zr_236_73, zr_236_76, zr_236_77, zr_236_80, zr_236_81, zr_236_84, zr_236_86, zr_236_88, zr_236_89, zr_236_90, zr_236_91, zr_236_92, zr_236_93, zr_236_96, zr_236_99, zr_236_100, zr_236_102, zr_236_104, zr_236_105, zr_236_108, zr_236_110, zr_236_112, zr_236_113, zr_236_114, zr_236_115, zr_236_117, zr_236_119, zr_236_120, zr_236_123, zr_236_124, zr_236_125, zr_236_127, zr_236_130, zr_236_133, zr_236_135, true_or, or_true, true_and, and_true, if_true, if_false, ldA_ref, ldA_null, nl_int, nl_ref, nl_fl, nl_null, c1_int, c1_ref, c1_null, s_rcontr (show 0 < 2 by omega), s_rcontr (show 1 < 2 by omega), zcall_some, zpush_some, zpush_none, zsum_ref, zsum_int, zsum_long, zsum_nil, zsum_null, Nat.reduceAdd, Nat.reduceLeDiff, if_true, dvJ_1000, kd_M]
  exact s_rtaxL hn hb x (rT r x) n 0 _ _ _ _ (by omega)
def rAmt (r : Rst) (n k : Nat) (x : Int64) : Int64 := if k = 0 then x * 1000000 else if k = 1 then rC r 0 x else if k = 2 then rC r 1 x else if k = 3 then rTaxL r n (rT r x) n else x * 1000000 - rC r 0 x - rC r 1 x - rTaxL r n (rT r x) n
theorem s_ramt {n k : Nat} (hn : n ≤ 5) (hb : rS r 7 = (nI n).toInt64) (hk : k < 5) (x : Int64) : ev 234 [.ref m, .long x, .int (nI k)] (putM m r h) = some (some (.long (rAmt r n k x)), putM m r h) := by
  have s1 : nI 1 - nI 1 = nI 0 := rfl
  have s2 : nI 2 - nI 1 = nI 1 := rfl
  unfold rAmt
  rcases (show k = 0 ∨ k = 1 ∨ k = 2 ∨ k = 3 ∨ k = 4 by omega) with rfl | rfl | rfl | rfl | rfl
  all_goals
    rw [ze_234, zr_234_0, zr_234_1]
    simp (implicitDefEqProofs := false) (disch := omega) only [ze_234, zr_234_0, zr_234_1, zr_234_32, zr_234_33, zr_234_36, zr_234_37, zr_234_38, zr_234_39, zr_234_40, zr_234_41, zr_234_42, zr_234_43, zr_234_46, zr_234_47, zr_234_48, zr_234_49, zr_234_52, zr_234_53, zr_234_54, zr_234_57, zr_234_58, zr_234_59, zr_234_60, zr_234_61, zr_234_64, zr_234_65, zr_234_66, zr_234_67, zr_234_68, zr_234_71, zr_234_72, zr_234_73, zr_234_74, zr_234_77, zr_234_78, true_or, or_true, true_and, and_true, if_true, if_false, ldA_ref, ldA_null, nl_int, nl_ref, nl_fl, nl_null, c1_int, c1_ref, c1_null, s1, s2, nI_eq, kd_M, s_rcontr (show 0 < 2 by omega), s_rcontr (show 1 < 2 by omega), s_rtax hn hb, zcall_some, zpush_some, zpush_none, zsum_ref, zsum_int, zsum_long, zsum_nil, zsum_null, Nat.reduceAdd, Nat.reduceLeDiff, if_true]
    first | rfl | skip
end
