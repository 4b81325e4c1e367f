/-! THE REFERENCE: taxes, dues -/
theorem l64_lt {a b : Nat} (ha : a < 2 ^ 31) (hb : b < 2 ^ 31) : ((nI a).toInt64 < (nI b).toInt64) ↔ a < b := by
  rw [nI_l ha, nI_l hb, Int64.lt_iff_toInt_lt, lN_toInt ha, lN_toInt hb]
  omega
theorem l64_le {a b : Nat} (ha : a < 2 ^ 31) (hb : b < 2 ^ 31) : ((nI a).toInt64 ≤ (nI b).toInt64) ↔ a ≤ b := by
  rw [nI_l ha, nI_l hb, Int64.le_iff_toInt_le, lN_toInt ha, lN_toInt hb]
  omega
section
variable {m e : Nat} {r : Rst} {h : zH}
def rT (r : Rst) (x : Int64) : Int64 := 1000 * x - (rC r 0 x + rC r 1 x) / 1000
def rUp (r : Rst) (n : Nat) (t : Int64) (k : Nat) : Int64 := if k + 1 < n then pMin t (1000 * rS r (8 + k + 1)) else t
def rPart (r : Rst) (n : Nat) (t : Int64) (k : Nat) : Int64 := rS r (13 + k) * pMax 0 (rUp r n t k - 1000 * rS r (8 + k))
def rTaxL (r : Rst) (n : Nat) (t : Int64) : Nat → Int64
  | 0 => 0
  | k + 1 => rTaxL r n t k + rPart r n t k
theorem s_rtaxL {n : Nat} (hn : n ≤ 5) (hb : rS r 7 = (nI n).toInt64) (x t : Int64) : ∀ (j k : Nat) (v8 v9 v10 v11 : Value), k + j = n → rn 242 30 [.ref m, .long x, .float 0, .long t, .float 0, .long (rTaxL r n t k), .float 0, .int (nI k), v8, v9, v10, v11] [] (putM m r h) = some (some (.long (rTaxL r n t n)), putM m r h) := by
  intro j
  induction j with
  | zero =>
    intro k v8 v9 v10 v11 hk
    rw [Nat.add_zero] at hk
    subst hk
    rw [zl_242_30]
    simp (implicitDefEqProofs := false) (disch := omega) only [ze_242, zr_242_0, zr_242_3, zr_242_4, zr_242_5, zr_242_6, zr_242_7, zr_242_8, zr_242_11, zr_242_12, zr_242_13, zr_242_14, zr_242_17, zr_242_18, zr_242_21, zr_242_22, zr_242_23, zr_242_24, zr_242_25, zr_242_27, zr_242_28, zr_242_32, zr_242_33, zr_242_34, zr_242_37, zr_242_39, zr_242_40, zr_242_41, zr_242_44, zr_242_47, zr_242_48, zr_242_51, zr_242_53, zr_242_55, zr_242_56, zr_242_57, zr_242_58, zr_242_60, zr_242_62, zr_242_63, zr_242_64, zr_242_65, zr_242_66, zr_242_69, zr_242_71, zr_242_72, zr_242_73, zr_242_76, zr_242_77, zr_242_80, zr_242_81, zr_242_84, zr_242_86, zr_242_88, zr_242_89, zr_242_90, zr_242_91, zr_242_92, zr_242_93, zr_242_96, zr_242_99, zr_242_100, zr_242_102, zr_242_104, zr_242_105, zr_242_108, zr_242_110, zr_242_112, zr_242_113, zr_242_114, zr_242_115, zr_242_117, zr_242_119, zr_242_120, zr_242_123, zr_242_124, zr_242_125, zr_242_127, zr_242_130, zr_242_133, zr_242_135, true_or, or_true, true_and, and_true, if_true, if_false, ldA_ref, ldA_null, nl_int, nl_ref, nl_fl, nl_null, c1_int, c1_ref, c1_null, gf_M0, Nat.zero_add, Nat.zero_mul, Nat.one_mul, nI_add, nI_leI, nI_ltI, nI_eq, nI_mul, cmp_lt, cmp_gt, cmp_le, cmp_ge, cmp_eq, lj_M1 (show 7 < 8271 by omega), hb, l64_lt, l64_le, Nat.le_refl]
  | succ j ih =>
    intro k v8 v9 v10 v11 hk
    have hk2 : k < n := by omega
    have e1 : ∀ v8 v9 v10 v11, rn 242 30 [.ref m, .long x, .float 0, .long t, .float 0, .long (rTaxL r n t k + rS r (13 + k) * pMax 0 (rUp r n t k - 1000 * rS r (8 + k))), .float 0, .int (nI (k + 1)), v8, v9, v10, v11] [] (putM m r h) = some (some (.long (rTaxL r n t n)), putM m r h) := fun v8 v9 v10 v11 => ih (k + 1) v8 v9 v10 v11 (by omega)
    rw [zl_242_30]
    by_cases h1 : k + 1 < n
    · have hu : rUp r n t k = pMin t (1000 * rS r (8 + k + 1)) := if_pos h1
      rw [hu] at e1
      simp (implicitDefEqProofs := false) (disch := omega) only [ze_242, zr_242_0, zr_242_3, zr_242_4, zr_242_5, zr_242_6, zr_242_7, zr_242_8, zr_242_11, zr_242_12, zr_242_13, zr_242_14, zr_242_17, zr_242_18, zr_242_21, zr_242_22, zr_242_23, zr_242_24, zr_242_25, zr_242_27, zr_242_28, zr_242_32, zr_242_33, zr_242_34, zr_242_37, zr_242_39, zr_242_40, zr_242_41, zr_242_44, zr_242_47, zr_242_48, zr_242_51, zr_242_53, zr_242_55, zr_242_56, zr_242_57, zr_242_58, zr_242_60, zr_242_62, zr_242_63, zr_242_64, zr_242_65, zr_242_66, zr_242_69, zr_242_71, zr_242_72, zr_242_73, zr_242_76, zr_242_77, zr_242_80, zr_242_81, zr_242_84, zr_242_86, zr_242_88, zr_242_89, zr_242_90, zr_242_91, zr_242_92, zr_242_93, zr_242_96, zr_242_99, zr_242_100, zr_242_102, zr_242_104, zr_242_105, zr_242_108, zr_242_110, zr_242_112, zr_242_113, zr_242_114, zr_242_115, zr_242_117, zr_242_119, zr_242_120, zr_242_123, zr_242_124, zr_242_125, zr_242_127, zr_242_130, zr_242_133, zr_242_135, true_or, or_true, true_and, and_true, if_true, if_false, ldA_ref, ldA_null, nl_int, nl_ref, nl_fl, nl_null, c1_int, c1_ref, c1_null, gf_M0, Nat.zero_add, Nat.zero_mul, Nat.one_mul, nI_add, nI_leI, nI_ltI, nI_eq, nI_mul, cmp_lt, cmp_gt, cmp_le, cmp_ge, cmp_eq, lj_M1 (show 7 < 8271 by omega), lj_M1 (show 8 + k < 8271 by omega), lj_M1 (show 8 + k + 1 < 8271 by omega), lj_M1 (show 13 + k < 8271 by omega), hb, l64_lt, l64_le, show ¬ n ≤ k from by omega, show ¬ n ≤ k + 1 from by omega, zcall_some, zpush_some, zpush_none, zsum_ref, zsum_int, zsum_long, zsum_nil, zsum_null, Nat.reduceAdd, Nat.reduceLeDiff, if_true, mn_f, mx_f]
      exact e1 _ _ _ _
    · have hu : rUp r n t k = t := if_neg h1
      rw [hu] at e1
      simp (implicitDefEqProofs := false) (disch := omega) only [ze_242, zr_242_0, zr_242_3, zr_242_4, zr_242_5, zr_242_6, zr_242_7, zr_242_8, zr_242_11, zr_242_12, zr_242_13, zr_242_14, zr_242_17, zr_242_18, zr_242_21, zr_242_22, zr_242_23, zr_242_24, zr_242_25, zr_242_27, zr_242_28, zr_242_32, zr_242_33, zr_242_34, zr_242_37, zr_242_39, zr_242_40, zr_242_41, zr_242_44, zr_242_47, zr_242_48, zr_242_51, zr_242_53, zr_242_55, zr_242_56, zr_242_57, zr_242_58, zr_242_60, zr_242_62, zr_242_63, zr_242_64, zr_242_65, zr_242_66, zr_242_69, zr_242_71, zr_242_72, zr_242_73, zr_242_76, zr_242_77, zr_242_80, zr_242_81, zr_242_84, zr_242_86, zr_242_88, zr_242_89, zr_242_90, zr_242_91, zr_242_92, zr_242_93, zr_242_96, zr_242_99, zr_242_100, zr_242_102, zr_242_104, zr_242_105, zr_242_108, zr_242_110, zr_242_112, zr_242_113, zr_242_114, zr_242_115, zr_242_117, zr_242_119, zr_242_120, zr_242_123, zr_242_124, zr_242_125, zr_242_127, zr_242_130, zr_242_133, zr_242_135, true_or, or_true, true_and, and_true, if_true, if_false, ldA_ref, ldA_null, nl_int, nl_ref, nl_fl, nl_null, c1_int, c1_ref, c1_null, gf_M0, Nat.zero_add, Nat.zero_mul, Nat.one_mul, nI_add, nI_leI, nI_ltI, nI_eq, nI_mul, cmp_lt, cmp_gt, cmp_le, cmp_ge, cmp_eq, lj_M1 (show 7 < 8271 by omega), lj_M1 (show 8 + k < 8271 by omega), lj_M1 (show 8 + k + 1 < 8271 by omega), lj_M1 (show 13 + k < 8271 by omega), hb, l64_lt, l64_le, show ¬ n ≤ k from by omega, show n ≤ k + 1 from by omega, zcall_some, zpush_some, zpush_none, zsum_ref, zsum_int, zsum_long, zsum_nil, zsum_null, Nat.reduceAdd, Nat.reduceLeDiff, if_true, mn_f, mx_f]
      exact e1 _ _ _ _
theorem s_rtax {n : Nat} (hn : n ≤ 5) (hb : rS r 7 = (nI n).toInt64) (x : Int64) : ev 242 [.ref m, .long x] (putM m r h) = some (some (.long (rTaxL r n (rT r x) n)), putM m r h) := by
  simp (implicitDefEqProofs := false) (disch := omega) only [ze_242, zr_242_0, zr_242_3, zr_242_4, zr_242_5, zr_242_6, zr_242_7, zr_242_8, zr_242_11, zr_242_12, zr_242_13, zr_242_14, zr_242_17, zr_242_18, zr_242_21, zr_242_22, zr_242_23, zr_242_24, zr_242_25, zr_242_27, zr_242_28, zr_242_32, zr_242_33, zr_242_34, zr_242_37, zr_242_39, zr_242_40, zr_242_41, zr_242_44, zr_242_47, zr_242_48, zr_242_51, zr_242_53, zr_242_55, zr_242_56, zr_242_57, zr_242_58, zr_242_60, zr_242_62, zr_242_63, zr_242_64, zr_242_65, zr_242_66, zr_242_69, zr_242_71, zr_242_72, zr_242_73, zr_242_76, zr_242_77, zr_242_80, zr_242_81, zr_242_84, zr_242_86, zr_242_88, zr_242_89, zr_242_90, zr_242_91, zr_242_92, zr_242_93, zr_242_96, zr_242_99, zr_242_100, zr_242_102, zr_242_104, zr_242_105, zr_242_108, zr_242_110, zr_242_112, zr_242_113, zr_242_114, zr_242_115, zr_242_117, zr_242_119, zr_242_120, zr_242_123, zr_242_124, zr_242_125, zr_242_127, zr_242_130, zr_242_133, zr_242_135, true_or, or_true, true_and, and_true, if_true, if_false, ldA_ref, ldA_null, nl_int, nl_ref, nl_fl, nl_null, c1_int, c1_ref, c1_null, s_rcontr (show 0 < 2 by omega), s_rcontr (show 1 < 2 by omega), zcall_some, zpush_some, zpush_none, zsum_ref, zsum_int, zsum_long, zsum_nil, zsum_null, Nat.reduceAdd, Nat.reduceLeDiff, if_true, dvJ_1000, kd_M]
  exact s_rtaxL hn hb x (rT r x) n 0 _ _ _ _ (by omega)
def rAmt (r : Rst) (n k : Nat) (x : Int64) : Int64 := if k = 0 then x * 1000000 else if k = 1 then rC r 0 x else if k = 2 then rC r 1 x else if k = 3 then rTaxL r n (rT r x) n else x * 1000000 - rC r 0 x - rC r 1 x - rTaxL r n (rT r x) n
theorem s_ramt {n k : Nat} (hn : n ≤ 5) (hb : rS r 7 = (nI n).toInt64) (hk : k < 5) (x : Int64) : ev 240 [.ref m, .long x, .int (nI k)] (putM m r h) = some (some (.long (rAmt r n k x)), putM m r h) := by
  have s1 : nI 1 - nI 1 = nI 0 := rfl
  have s2 : nI 2 - nI 1 = nI 1 := rfl
  unfold rAmt
  rcases (show k = 0 ∨ k = 1 ∨ k = 2 ∨ k = 3 ∨ k = 4 by omega) with rfl | rfl | rfl | rfl | rfl
  all_goals
    rw [ze_240, zr_240_0, zr_240_1]
    simp (implicitDefEqProofs := false) (disch := omega) only [ze_240, zr_240_0, zr_240_1, zr_240_32, zr_240_33, zr_240_36, zr_240_37, zr_240_38, zr_240_39, zr_240_40, zr_240_41, zr_240_42, zr_240_43, zr_240_46, zr_240_47, zr_240_48, zr_240_49, zr_240_52, zr_240_53, zr_240_54, zr_240_57, zr_240_58, zr_240_59, zr_240_60, zr_240_61, zr_240_64, zr_240_65, zr_240_66, zr_240_67, zr_240_68, zr_240_71, zr_240_72, zr_240_73, zr_240_74, zr_240_77, zr_240_78, true_or, or_true, true_and, and_true, if_true, if_false, ldA_ref, ldA_null, nl_int, nl_ref, nl_fl, nl_null, c1_int, c1_ref, c1_null, s1, s2, nI_eq, kd_M, s_rcontr (show 0 < 2 by omega), s_rcontr (show 1 < 2 by omega), s_rtax hn hb, zcall_some, zpush_some, zpush_none, zsum_ref, zsum_int, zsum_long, zsum_nil, zsum_null, Nat.reduceAdd, Nat.reduceLeDiff, if_true]
    first | rfl | skip
end
