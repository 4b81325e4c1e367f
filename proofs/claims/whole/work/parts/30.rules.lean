/-! THE CLASS'S RULES: contributions and taxes -/
def pC (s : tyR) (c : Nat) (g : Int64) : Int64 := (gR_ra s c).toInt64 * (if g < (gR_ca s c).toInt64 then g else (gR_ca s c).toInt64) * 1000
theorem s_contributionOn {H : zH} {r c : Nat} {s : tyR} (hR : isB H r 5 (cR r s)) (hc : c < 2) (g : Int64) : ev 64 [.ref r, .int (nI c), .long g] H = some (some (.long (pC s c g)), H) := by
  simp (implicitDefEqProofs := false) (disch := omega) only [ze_64, zr_64_0, zr_64_1, zr_64_4, zr_64_5, zr_64_6, zr_64_7, zr_64_9, zr_64_10, zr_64_13, zr_64_14, zr_64_15, zr_64_16, zr_64_17, zr_64_19, zr_64_20, zr_64_23, zr_64_24, zr_64_27, zr_64_29, zr_64_30, zr_64_33, zr_64_34, true_or, or_true, true_and, and_true, if_true, if_false, ldA_ref, ldA_null, nl_int, nl_ref, nl_fl, nl_null, c1_int, c1_ref, c1_null, rdR_0 (hR), rdR_1 (hR), rdR_2 (hR), rdR_3 (hR), rdR_4 (hR), rdR_5 (hR), rdR_6 (hR), rdR_7 (hR), rdR_8 (hR), rdR_9 (hR), rdR_10 (hR), rdR_11 (hR), rdR_12 (hR), rdR_13 (hR), cmp_lt, cmp_gt, cmp_le, cmp_ge, cmp_eq]
  unfold pC
  by_cases h : g < (gR_ca s c).toInt64
  · rw [if_neg (Int64.not_le.mpr h), if_pos h]
  · rw [if_pos (Int64.not_lt.mp h), if_neg h]
def pUp (s : tyR) (n : Nat) (t : Int64) (i : Nat) : Int64 := if i + 1 < n ∧ (gR_th s (i + 1)).toInt64 * 1000000 < t then (gR_th s (i + 1)).toInt64 * 1000000 else t
def pPart (s : tyR) (n : Nat) (t : Int64) (i : Nat) : Int64 := if (gR_th s i).toInt64 * 1000000 < pUp s n t i then (pUp s n t i - (gR_th s i).toInt64 * 1000000) / 1000 * (gR_br s i).toInt64 else 0
def pTax (s : tyR) (n : Nat) (t : Int64) : Nat → Int64
  | 0 => 0
  | i + 1 => pTax s n t i + pPart s n t i
theorem s_taxL {H : zH} {r n : Nat} {s : tyR} (hR : isB H r 5 (cR r s)) (hn : n ≤ 5) (hb : gR_bn s = nI n) (t : Int64) : ∀ (d i : Nat) (v6 v7 v8 v9 : Value), i + d = n → rn 65 5 [.ref r, .long t, .float 0, .long (pTax s n t i), .float 0, .int (nI i), v6, v7, v8, v9] [] H = some (some (.long (pTax s n t n)), H) := by
  intro d
  induction d with
  | zero =>
    intro i v6 v7 v8 v9 h
    rw [Nat.add_zero] at h
    subst h
    rw [zl_65_5]
    simp (implicitDefEqProofs := false) (disch := omega) only [ze_65, zr_65_0, zr_65_1, zr_65_2, zr_65_3, zr_65_7, zr_65_8, zr_65_11, zr_65_14, zr_65_16, zr_65_17, zr_65_20, zr_65_21, zr_65_24, zr_65_26, zr_65_27, zr_65_28, zr_65_31, zr_65_32, zr_65_34, zr_65_35, zr_65_37, zr_65_39, zr_65_40, zr_65_41, zr_65_42, zr_65_45, zr_65_48, zr_65_50, zr_65_51, zr_65_52, zr_65_53, zr_65_56, zr_65_57, zr_65_60, zr_65_62, zr_65_63, zr_65_64, zr_65_65, zr_65_66, zr_65_69, zr_65_70, zr_65_71, zr_65_72, zr_65_75, zr_65_76, zr_65_79, zr_65_81, zr_65_82, zr_65_83, zr_65_84, zr_65_85, zr_65_88, zr_65_89, zr_65_91, zr_65_93, zr_65_95, zr_65_96, zr_65_99, zr_65_100, zr_65_102, zr_65_104, zr_65_105, zr_65_108, zr_65_109, zr_65_110, zr_65_113, zr_65_115, zr_65_116, zr_65_117, zr_65_118, zr_65_119, zr_65_120, zr_65_123, zr_65_126, zr_65_127, true_or, or_true, true_and, and_true, if_true, if_false, ldA_ref, ldA_null, nl_int, nl_ref, nl_fl, nl_null, c1_int, c1_ref, c1_null, rdR_0 (hR), rdR_1 (hR), rdR_2 (hR), rdR_3 (hR), rdR_4 (hR), rdR_5 (hR), rdR_6 (hR), rdR_7 (hR), rdR_8 (hR), rdR_9 (hR), rdR_10 (hR), rdR_11 (hR), rdR_12 (hR), rdR_13 (hR), hb, Nat.zero_add, Nat.zero_mul, Nat.one_mul, nI_add, nI_leI, nI_ltI, nI_eq, nI_mul, Nat.le_refl, if_true]
  | succ d ih =>
    intro i v6 v7 v8 v9 h
    have hi : i < n := by omega
    have key : ∀ p, pPart s n t i = p → ∀ v6 v7 v8 v9, rn 65 5 [.ref r, .long t, .float 0, .long (pTax s n t i + p), .float 0, .int (nI (i + 1)), v6, v7, v8, v9] [] H = some (some (.long (pTax s n t n)), H) := fun p hp v6 v7 v8 v9 => by
      rw [← hp]; exact ih (i + 1) v6 v7 v8 v9 (by omega)
    have key0 : pPart s n t i = 0 → ∀ v6 v7 v8 v9, rn 65 5 [.ref r, .long t, .float 0, .long (pTax s n t i), .float 0, .int (nI (i + 1)), v6, v7, v8, v9] [] H = some (some (.long (pTax s n t n)), H) := fun hp v6 v7 v8 v9 => by
      have := key 0 hp v6 v7 v8 v9
      rw [Int64.add_zero] at this; exact this
    rw [zl_65_5]
    simp (implicitDefEqProofs := false) (disch := omega) only [ze_65, zr_65_0, zr_65_1, zr_65_2, zr_65_3, zr_65_7, zr_65_8, zr_65_11, zr_65_14, zr_65_16, zr_65_17, zr_65_20, zr_65_21, zr_65_24, zr_65_26, zr_65_27, zr_65_28, zr_65_31, zr_65_32, zr_65_34, zr_65_35, zr_65_37, zr_65_39, zr_65_40, zr_65_41, zr_65_42, zr_65_45, zr_65_48, zr_65_50, zr_65_51, zr_65_52, zr_65_53, zr_65_56, zr_65_57, zr_65_60, zr_65_62, zr_65_63, zr_65_64, zr_65_65, zr_65_66, zr_65_69, zr_65_70, zr_65_71, zr_65_72, zr_65_75, zr_65_76, zr_65_79, zr_65_81, zr_65_82, zr_65_83, zr_65_84, zr_65_85, zr_65_88, zr_65_89, zr_65_91, zr_65_93, zr_65_95, zr_65_96, zr_65_99, zr_65_100, zr_65_102, zr_65_104, zr_65_105, zr_65_108, zr_65_109, zr_65_110, zr_65_113, zr_65_115, zr_65_116, zr_65_117, zr_65_118, zr_65_119, zr_65_120, zr_65_123, zr_65_126, zr_65_127, true_or, or_true, true_and, and_true, if_true, if_false, ldA_ref, ldA_null, nl_int, nl_ref, nl_fl, nl_null, c1_int, c1_ref, c1_null, rdR_0 (hR), rdR_1 (hR), rdR_2 (hR), rdR_3 (hR), rdR_4 (hR), rdR_5 (hR), rdR_6 (hR), rdR_7 (hR), rdR_8 (hR), rdR_9 (hR), rdR_10 (hR), rdR_11 (hR), rdR_12 (hR), rdR_13 (hR), hb, Nat.zero_add, Nat.zero_mul, Nat.one_mul, nI_add, nI_leI, nI_ltI, nI_eq, nI_mul, cmp_lt, cmp_gt, cmp_le, cmp_ge, cmp_eq, dvJ_1000, Nat.not_le.mpr hi, show ¬ 5 ≤ i from by omega, if_false]
    by_cases h1 : i + 1 < n
    · rw [if_neg (Nat.not_le.mpr h1), if_neg (show ¬ 5 ≤ i + 1 by omega)]
      by_cases h2 : (gR_th s (i + 1)).toInt64 * 1000000 < t
      · have hp : pPart s n t i = if (gR_th s i).toInt64 * 1000000 < (gR_th s (i + 1)).toInt64 * 1000000 then ((gR_th s (i + 1)).toInt64 * 1000000 - (gR_th s i).toInt64 * 1000000) / 1000 * (gR_br s i).toInt64 else 0 := by
          unfold pPart; rw [show pUp s n t i = _ from if_pos ⟨h1, h2⟩]
        rw [if_neg (Int64.not_le.mpr h2)]
        by_cases h3 : (gR_th s i).toInt64 * 1000000 < (gR_th s (i + 1)).toInt64 * 1000000
        · rw [if_neg (Int64.not_le.mpr h3)]; exact key _ (by rw [hp, if_pos h3]) _ _ _ _
        · rw [if_pos (Int64.not_lt.mp h3)]; exact key0 (by rw [hp, if_neg h3]) _ _ _ _
      · have hp : pPart s n t i = if (gR_th s i).toInt64 * 1000000 < t then (t - (gR_th s i).toInt64 * 1000000) / 1000 * (gR_br s i).toInt64 else 0 := by
          unfold pPart; rw [show pUp s n t i = t from if_neg (fun h => h2 h.2)]
        rw [if_pos (Int64.not_lt.mp h2)]
        by_cases h3 : (gR_th s i).toInt64 * 1000000 < t
        · rw [if_neg (Int64.not_le.mpr h3)]; exact key _ (by rw [hp, if_pos h3]) _ _ _ _
        · rw [if_pos (Int64.not_lt.mp h3)]; exact key0 (by rw [hp, if_neg h3]) _ _ _ _
    · have hp : pPart s n t i = if (gR_th s i).toInt64 * 1000000 < t then (t - (gR_th s i).toInt64 * 1000000) / 1000 * (gR_br s i).toInt64 else 0 := by
        unfold pPart; rw [show pUp s n t i = t from if_neg (fun h => h1 h.1)]
      rw [if_pos (Nat.not_lt.mp h1)]
      by_cases h3 : (gR_th s i).toInt64 * 1000000 < t
      · rw [if_neg (Int64.not_le.mpr h3)]; exact key _ (by rw [hp, if_pos h3]) _ _ _ _
      · rw [if_pos (Int64.not_lt.mp h3)]; exact key0 (by rw [hp, if_neg h3]) _ _ _ _
theorem s_taxOn {H : zH} {r n : Nat} {s : tyR} (hR : isB H r 5 (cR r s)) (hn : n ≤ 5) (hb : gR_bn s = nI n) (t : Int64) : ev 65 [.ref r, .long t] H = some (some (.long (pTax s n t n)), H) := by
  simp (implicitDefEqProofs := false) (disch := omega) only [ze_65, zr_65_0, zr_65_1, zr_65_2, zr_65_3, zr_65_7, zr_65_8, zr_65_11, zr_65_14, zr_65_16, zr_65_17, zr_65_20, zr_65_21, zr_65_24, zr_65_26, zr_65_27, zr_65_28, zr_65_31, zr_65_32, zr_65_34, zr_65_35, zr_65_37, zr_65_39, zr_65_40, zr_65_41, zr_65_42, zr_65_45, zr_65_48, zr_65_50, zr_65_51, zr_65_52, zr_65_53, zr_65_56, zr_65_57, zr_65_60, zr_65_62, zr_65_63, zr_65_64, zr_65_65, zr_65_66, zr_65_69, zr_65_70, zr_65_71, zr_65_72, zr_65_75, zr_65_76, zr_65_79, zr_65_81, zr_65_82, zr_65_83, zr_65_84, zr_65_85, zr_65_88, zr_65_89, zr_65_91, zr_65_93, zr_65_95, zr_65_96, zr_65_99, zr_65_100, zr_65_102, zr_65_104, zr_65_105, zr_65_108, zr_65_109, zr_65_110, zr_65_113, zr_65_115, zr_65_116, zr_65_117, zr_65_118, zr_65_119, zr_65_120, zr_65_123, zr_65_126, zr_65_127, true_or, or_true, true_and, and_true, if_true, if_false, ldA_ref, ldA_null, nl_int, nl_ref, nl_fl, nl_null, c1_int, c1_ref, c1_null]
  exact s_taxL hR hn hb t n 0 _ _ _ _ (by omega)
/-- what the class's rules make of a sum of gross pays -/
def pAmt (s : tyR) (n k : Nat) (g : Int64) : Int64 :=
  if k = 0 then g * 1000000 else if k = 1 then pC s 0 g else if k = 2 then pC s 1 g else
  if k = 3 then pTax s n (g * 1000000 - pC s 0 g - pC s 1 g) n else g * 1000000 - pC s 0 g - pC s 1 g - pTax s n (g * 1000000 - pC s 0 g - pC s 1 g) n
theorem s_amountOn {H : zH} {r n k : Nat} {s : tyR} (hR : isB H r 5 (cR r s)) (hn : n ≤ 5) (hb : gR_bn s = nI n) (hk : k < 5) (g : Int64) : ev 63 [.ref r, .int (nI k), .long g] H = some (some (.long (pAmt s n k g)), H) := by
  simp (implicitDefEqProofs := false) (disch := omega) only [ze_63, zr_63_0, zr_63_1, zr_63_4, zr_63_5, zr_63_8, zr_63_9, zr_63_10, zr_63_11, zr_63_12, zr_63_13, zr_63_16, zr_63_18, zr_63_19, zr_63_20, zr_63_23, zr_63_25, zr_63_26, zr_63_27, zr_63_28, zr_63_29, zr_63_32, zr_63_34, zr_63_35, zr_63_36, zr_63_39, zr_63_41, zr_63_42, zr_63_43, zr_63_46, zr_63_47, zr_63_49, zr_63_50, zr_63_52, zr_63_53, zr_63_55, zr_63_56, zr_63_58, zr_63_61, zr_63_63, zr_63_64, zr_63_65, zr_63_68, zr_63_70, zr_63_73, zr_63_75, zr_63_77, zr_63_78, true_or, or_true, true_and, and_true, if_true, if_false, ldA_ref, ldA_null, nl_int, nl_ref, nl_fl, nl_null, c1_int, c1_ref, c1_null, rdR_0 hR, s_contributionOn hR, s_taxOn hR hn hb, zcall_some, zpush_some, zpush_none, zsum_ref, zsum_int, zsum_long, zsum_nil, zsum_null, Nat.reduceAdd, Nat.reduceLeDiff, if_true, Nat.zero_add, Nat.zero_mul, Nat.one_mul, nI_add, nI_leI, nI_ltI, nI_eq, nI_mul, and_true]
  unfold pAmt
  rcases (show k = 0 ∨ k = 1 ∨ k = 2 ∨ k = 3 ∨ k = 4 by omega) with rfl | rfl | rfl | rfl | rfl <;> rfl
