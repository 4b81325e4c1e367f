/-! THE CLASS'S RULES: contributions and taxes -/
def pC (s : tyR) (c : Nat) (g : Int64) : Int64 := (gR_ra s c).toInt64 * (if g < (gR_ca s c).toInt64 then g else (gR_ca s c).toInt64) * 1000
theorem s_contributionOn {H : zH} {r c : Nat} {s : tyR} (hR : isB H r 5 (cR r s)) (hc : c < 2) (g : Int64) : ev 64 [.ref r, .int (nI c), .long g] H = some (some (.long (pC s c g)), H) := by
  simp (disch := omega) only [ze_64, zr_64_0, zr_64_1, zr_64_4, zr_64_5, zr_64_6, zr_64_7, zr_64_9, zr_64_10, zr_64_13, zr_64_14, zr_64_15, zr_64_16, zr_64_17, zr_64_19, zr_64_20, zr_64_23, zr_64_24, zr_64_27, zr_64_29, zr_64_30, zr_64_33, zr_64_34, ldA_ref, ldA_null, nl_int, nl_ref, nl_fl, nl_null, c1_int, c1_ref, c1_null, rdR_0 hR, rdR_1 hR, rdR_2 hR, rdR_3 hR, rdR_4 hR, rdR_5 hR, rdR_6 hR, rdR_7 hR, rdR_8 hR, rdR_9 hR, rdR_10 hR, rdR_11 hR, rdR_12 hR, rdR_13 hR, cmp_lt, cmp_gt, cmp_le, cmp_ge, cmp_eq]
  unfold pC
  by_cases h : g < (gR_ca s c).toInt64
  · rw [if_neg (Int64.not_le.mpr h), if_pos h]
  · rw [if_pos (Int64.not_lt.mp h), if_neg h]
def pPart (s : tyR) (n : Nat) (t : Int64) (i : Nat) : Int64 :=
  let lower := (gR_th s i).toInt64 * 1000000
  let upper := if i + 1 < n ∧ (gR_th s (i + 1)).toInt64 * 1000000 < t then (gR_th s (i + 1)).toInt64 * 1000000 else t
  if lower < upper then (upper - lower) / 1000 * (gR_br s i).toInt64 else 0
def pTax (s : tyR) (n : Nat) (t : Int64) : Nat → Int64
  | 0 => 0
  | i + 1 => pTax s n t i + pPart s n t i
theorem s_taxL {H : zH} {r n : Nat} {s : tyR} (hR : isB H r 5 (cR r s)) (hn : n ≤ 5) (hb : gR_bn s = nI n) (t : Int64) : ∀ (d i : Nat) (v6 v7 v8 v9 : Value), i + d = n → rn 65 5 [.ref r, .long t, .float 0, .long (pTax s n t i), .float 0, .int (nI i), v6, v7, v8, v9] [] H = some (some (.long (pTax s n t n)), H) := by
  intro d
  induction d with
  | zero =>
    intro i v6 v7 v8 v9 h
    rw [Nat.add_zero] at h
    subst h
    rw [zl_65_5]
    simp (disch := omega) only [ze_65, zr_65_0, zr_65_1, zr_65_2, zr_65_3, zr_65_7, zr_65_8, zr_65_11, zr_65_14, zr_65_16, zr_65_17, zr_65_20, zr_65_21, zr_65_24, zr_65_26, zr_65_27, zr_65_28, zr_65_31, zr_65_32, zr_65_34, zr_65_35, zr_65_37, zr_65_39, zr_65_40, zr_65_41, zr_65_42, zr_65_45, zr_65_48, zr_65_50, zr_65_51, zr_65_52, zr_65_53, zr_65_56, zr_65_57, zr_65_60, zr_65_62, zr_65_63, zr_65_64, zr_65_65, zr_65_66, zr_65_69, zr_65_70, zr_65_71, zr_65_72, zr_65_75, zr_65_76, zr_65_79, zr_65_81, zr_65_82, zr_65_83, zr_65_84, zr_65_85, zr_65_88, zr_65_89, zr_65_91, zr_65_93, zr_65_95, zr_65_96, zr_65_99, zr_65_100, zr_65_102, zr_65_104, zr_65_105, zr_65_108, zr_65_109, zr_65_110, zr_65_113, zr_65_115, zr_65_116, zr_65_117, zr_65_118, zr_65_119, zr_65_120, zr_65_123, zr_65_126, zr_65_127, ldA_ref, ldA_null, nl_int, nl_ref, nl_fl, nl_null, c1_int, c1_ref, c1_null, rdR_0 hR, rdR_1 hR, rdR_2 hR, rdR_3 hR, rdR_4 hR, rdR_5 hR, rdR_6 hR, rdR_7 hR, rdR_8 hR, rdR_9 hR, rdR_10 hR, rdR_11 hR, rdR_12 hR, rdR_13 hR, hb, nI_add, nI_leI, nI_ltI, nI_eq, nI_mul, Nat.le_refl, if_true]
  | succ d ih =>
    intro i v6 v7 v8 v9 h
    have ih2 := fun v6 v7 v8 v9 => ih (i + 1) v6 v7 v8 v9 (by omega)
    have hi : i < n := by omega
    rw [zl_65_5]
    simp (disch := omega) only [ze_65, zr_65_0, zr_65_1, zr_65_2, zr_65_3, zr_65_7, zr_65_8, zr_65_11, zr_65_14, zr_65_16, zr_65_17, zr_65_20, zr_65_21, zr_65_24, zr_65_26, zr_65_27, zr_65_28, zr_65_31, zr_65_32, zr_65_34, zr_65_35, zr_65_37, zr_65_39, zr_65_40, zr_65_41, zr_65_42, zr_65_45, zr_65_48, zr_65_50, zr_65_51, zr_65_52, zr_65_53, zr_65_56, zr_65_57, zr_65_60, zr_65_62, zr_65_63, zr_65_64, zr_65_65, zr_65_66, zr_65_69, zr_65_70, zr_65_71, zr_65_72, zr_65_75, zr_65_76, zr_65_79, zr_65_81, zr_65_82, zr_65_83, zr_65_84, zr_65_85, zr_65_88, zr_65_89, zr_65_91, zr_65_93, zr_65_95, zr_65_96, zr_65_99, zr_65_100, zr_65_102, zr_65_104, zr_65_105, zr_65_108, zr_65_109, zr_65_110, zr_65_113, zr_65_115, zr_65_116, zr_65_117, zr_65_118, zr_65_119, zr_65_120, zr_65_123, zr_65_126, zr_65_127, ldA_ref, ldA_null, nl_int, nl_ref, nl_fl, nl_null, c1_int, c1_ref, c1_null, rdR_0 hR, rdR_1 hR, rdR_2 hR, rdR_3 hR, rdR_4 hR, rdR_5 hR, rdR_6 hR, rdR_7 hR, rdR_8 hR, rdR_9 hR, rdR_10 hR, rdR_11 hR, rdR_12 hR, rdR_13 hR, hb, nI_add, nI_leI, nI_ltI, nI_eq, nI_mul, cmp_lt, cmp_gt, cmp_le, cmp_ge, cmp_eq, dvJ_1000, Nat.not_le.mpr hi, show ¬ 5 ≤ i from by omega, if_false]
    sorry
