/-! TRIAL: the payouts to come; the least salary -/
section
variable {H : zH} {b tr e n c ng : Nat} {s : tyB} {w : tyW}
def pTrW (s : tyB) (n ng c : Nat) (w : tyW) : Nat → tyW
  | 0 => w
  | j + 1 => pW3 (pTrW s n ng c w j) (pDD (gB_ru s) n (pTrW s n ng c w j)) (c + j) (gB_fg s) ng
def pTrS (s : tyB) (n ng c : Nat) (w : tyW) : Nat → Int64
  | 0 => 0
  | j + 1 => pTrS s n ng c w j + pSum (pL4 (pTrW s n ng c w j) (pDD (gB_ru s) n (pTrW s n ng c w j)) (c + j) (gB_fg s) ng)
theorem pTrW_gc (j : Nat) : gW_gc (pTrW s n ng c w j) = gW_gc w := by
  induction j with
  | zero => rfl
  | succ j ih => rw [pTrW, pW3_gc]; exact ih
theorem s_toComeL (ht : 100 ≤ tr) (hb : 100 ≤ b) (dj : b + 37 ≤ tr ∨ tr + 16 ≤ b) (hn : n ≤ 5) (hbn : gR_bn (gB_ru s) = nI n) (hng : ng ≤ 3) (hg : gW_gc w = nI ng) : ∀ (i j : Nat) (H : zH), c + j + i = 12 → trB H tr (pTrW s n ng c w j) → isB H b 37 (cB b s) → ∃ H', rn 162 21 [.ref tr, .ref b, .int (nI e), .long (pTrS s n ng c w j), .float 0, .int (nI (c + j))] [] H = some (some (.long (pTrS s n ng c w (12 - c))), H') ∧ frm H' H tr 16 ∧ ∃ w', trB H' tr w' := by
  intro i
  induction i with
  | zero =>
    intro j H hj hT hB
    have hj2 : j = 12 - c := by omega
    subst hj2
    refine ⟨H, ?_, frm.rf H tr 16, _, hT⟩
    rw [zl_162_21]
    simp (implicitDefEqProofs := false) (disch := omega) only [ze_162, zr_162_0, zr_162_1, zr_162_4, zr_162_5, zr_162_8, zr_162_9, zr_162_10, zr_162_13, zr_162_14, zr_162_15, zr_162_16, zr_162_19, zr_162_23, zr_162_25, zr_162_28, zr_162_29, zr_162_30, zr_162_32, zr_162_33, zr_162_36, zr_162_37, zr_162_38, zr_162_41, zr_162_44, zr_162_45, true_or, or_true, true_and, and_true, if_true, if_false, ldA_ref, ldA_null, nl_int, nl_ref, nl_fl, nl_null, c1_int, c1_ref, c1_null, Nat.zero_add, Nat.zero_mul, Nat.one_mul, nI_add, nI_leI, nI_ltI, nI_eq, nI_mul, show 12 ≤ c + (12 - c) from by omega]
  | succ i ih =>
    intro j H hj hT hB
    obtain ⟨H1, e1, f1, t1⟩ := s_payoutOf (m := c + j) hT hB ht hb dj (by omega) hn hbn hng ((pTrW_gc j).trans hg)
    obtain ⟨H2, e2, f2, t2⟩ := ih (j + 1) H1 (by omega) t1 (f1.isB (by omega) hB)
    refine ⟨H2, ?_, f2.tr f1, t2⟩
    rw [pTrS, ← Nat.add_assoc] at e2
    rw [zl_162_21]
    simp (implicitDefEqProofs := false) (disch := omega) only [ze_162, zr_162_0, zr_162_1, zr_162_4, zr_162_5, zr_162_8, zr_162_9, zr_162_10, zr_162_13, zr_162_14, zr_162_15, zr_162_16, zr_162_19, zr_162_23, zr_162_25, zr_162_28, zr_162_29, zr_162_30, zr_162_32, zr_162_33, zr_162_36, zr_162_37, zr_162_38, zr_162_41, zr_162_44, zr_162_45, true_or, or_true, true_and, and_true, if_true, if_false, ldA_ref, ldA_null, nl_int, nl_ref, nl_fl, nl_null, c1_int, c1_ref, c1_null, Nat.zero_add, Nat.zero_mul, Nat.one_mul, nI_add, nI_leI, nI_ltI, nI_eq, nI_mul, show ¬ 12 ≤ c + j from by omega, tr_at hT, e1, zcall_some, zpush_some, zpush_none, zsum_ref, zsum_int, zsum_long, zsum_nil, zsum_null, Nat.reduceAdd, Nat.reduceLeDiff, if_true]
    exact e2
theorem s_toCome (hT : trB H tr w) (hB : isB H b 37 (cB b s)) (ht : 100 ≤ tr) (hb : 100 ≤ b) (dj : b + 37 ≤ tr ∨ tr + 16 ≤ b) (he : e < 3) (hs : bSl H s) (hc : c ≤ 12) (hcl : gB_cl s = nI c) (hn : n ≤ 5) (hbn : gR_bn (gB_ru s) = nI n) (hng : ng ≤ 3) (hg : gW_gc (gB_wk s e) = nI ng) :
    ∃ H' w', ev 162 [.ref tr, .ref b, .int (nI e)] H = some (some (.long (pTrS s n ng c (pCpW w (gB_wk s e)) (12 - c))), H') ∧ frm H' H tr 16 ∧ trB H' tr w' := by
  have e1 := s_trCopy hT hB ht hb dj he hs
  have hg2 : gW_gc (pCpW w (gB_wk s e)) = nI ng := hg
  generalize pCpW w (gB_wk s e) = w1 at e1 hg2 ⊢
  have hT1 := trB_put hT w1
  have hB1 : isB (blk (tr + 3) 10 (cW (tr + 3) w1) H) b 37 (cB b s) := isB_skip (by omega) hB
  obtain ⟨H2, e2, f2, w', t2⟩ := s_toComeL (e := e) (c := c) ht hb dj hn hbn hng hg2 (12 - c) 0 _ (by omega) hT1 hB1
  refine ⟨H2, w', ?_, f2.tr (frm.blk (by omega) (by omega)), t2⟩
  rw [← e2]
  simp (implicitDefEqProofs := false) (disch := omega) only [ze_162, zr_162_0, zr_162_1, zr_162_4, zr_162_5, zr_162_8, zr_162_9, zr_162_10, zr_162_13, zr_162_14, zr_162_15, zr_162_16, zr_162_19, zr_162_23, zr_162_25, zr_162_28, zr_162_29, zr_162_30, zr_162_32, zr_162_33, zr_162_36, zr_162_37, zr_162_38, zr_162_41, zr_162_44, zr_162_45, true_or, or_true, true_and, and_true, if_true, if_false, ldA_ref, ldA_null, nl_int, nl_ref, nl_fl, nl_null, c1_int, c1_ref, c1_null, Nat.zero_add, Nat.zero_mul, Nat.one_mul, nI_add, nI_leI, nI_ltI, nI_eq, nI_mul, rdB_0 (hB), rdB_1 (hB), rdB_2 (hB), rdB_3 (hB), rdB_4 (hB), rdB_5 (hB), rdB_6 (hB), rdB_7 (hB), rdB_0 (hB1), rdB_1 (hB1), rdB_2 (hB1), rdB_3 (hB1), rdB_4 (hB1), rdB_5 (hB1), rdB_6 (hB1), rdB_7 (hB1), hcl, tr_at hT, rf_some, rdW_0 hT.2.2.1, e1, zcall_some, zpush_some, zpush_none, zsum_ref, zsum_int, zsum_long, zsum_nil, zsum_null, Nat.reduceAdd, Nat.reduceLeDiff, if_true]
  rfl
/-- halving -/
def stp : Nat → Nat
  | 0 => 0
  | k + 1 => 2 ^ k
def pHal (low : Nat → Bool) : Nat → Nat → Nat
  | 0, tl => tl
  | k + 1, tl => pHal low k (if tl + 2 ^ k - 1 ≤ 9999 ∧ low (tl + 2 ^ k - 1) = true then tl + 2 ^ k else tl)
def pSalG (earlier : Int64) (days bonus : Int32) (x : Nat) : Int64 := earlier + (nI x * days / nI 30 + bonus).toInt64
theorem stp_half (k : Nat) (hk : k ≤ 14) : nI (stp (k + 1)) / nI 2 = nI (stp k) := by
  match k, hk with
  | 0, _ | 1, _ | 2, _ | 3, _ | 4, _ | 5, _ | 6, _ | 7, _ | 8, _ | 9, _ | 10, _ | 11, _ | 12, _ | 13, _ | 14, _ => decide
  | k + 15, h => omega
theorem dvI_2 (r : zRes) : dvI (nI 2) r = r := if_neg (by decide)
theorem nI_sub1 {k : Nat} (hk : 0 < k) : nI k - nI 1 = nI (k - 1) := by
  have := nI_pred (k - 1)
  rw [show k - 1 + 1 = k by omega] at this
  exact this
theorem s_leastL {days bonus : Int32} {earlier enough : Int64} {a v5 v6 : Value} {v3 : Value} (hB : isB H b 37 (cB b s)) (hn : n ≤ 5) (hbn : gR_bn (gB_ru s) = nI n) : ∀ (k tl : Nat) (v15 v16 v17 : Value), k ≤ 14 → tl + 2 ^ k ≤ 16384 → rn 156 82 [.ref tr, .ref b, .int (nI e), v3, .float 0, v5, v6, .int days, .int bonus, .long earlier, .float 0, .long enough, .float 0, .int (nI tl), .int (nI (stp k)), v15, v16, v17] [] H = some (some (.int (if pHal (fun x => decide (pAmt (gB_ru s) n 4 (pSalG earlier days bonus x) < enough)) k tl ≤ 9999 then nI (pHal (fun x => decide (pAmt (gB_ru s) n 4 (pSalG earlier days bonus x) < enough)) k tl) else -2)), H) := by
  intro k
  induction k with
  | zero =>
    intro tl v15 v16 v17 hk ht
    rw [zl_156_82]
    rw [pHal]
    simp (implicitDefEqProofs := false) (disch := omega) only [ze_156, zr_156_0, zr_156_1, zr_156_4, zr_156_6, zr_156_8, zr_156_11, zr_156_14, zr_156_16, zr_156_17, zr_156_18, zr_156_21, zr_156_22, zr_156_23, zr_156_25, zr_156_27, zr_156_30, zr_156_32, zr_156_34, zr_156_35, zr_156_36, zr_156_38, zr_156_40, zr_156_43, zr_156_45, zr_156_47, zr_156_48, zr_156_49, zr_156_51, zr_156_53, zr_156_55, zr_156_58, zr_156_60, zr_156_61, zr_156_64, zr_156_65, zr_156_67, zr_156_70, zr_156_71, zr_156_72, zr_156_74, zr_156_75, zr_156_77, zr_156_80, zr_156_84, zr_156_87, zr_156_89, zr_156_91, zr_156_92, zr_156_93, zr_156_94, zr_156_96, zr_156_98, zr_156_100, zr_156_102, zr_156_104, zr_156_107, zr_156_108, zr_156_110, zr_156_112, zr_156_115, zr_156_118, zr_156_119, zr_156_122, zr_156_123, zr_156_125, zr_156_128, zr_156_130, zr_156_131, zr_156_134, zr_156_136, zr_156_138, zr_156_139, zr_156_141, zr_156_143, zr_156_144, zr_156_145, zr_156_147, zr_156_150, zr_156_152, zr_156_155, zr_156_158, zr_156_160, zr_156_163, zr_156_165, true_or, or_true, true_and, and_true, if_true, if_false, ldA_ref, ldA_null, nl_int, nl_ref, nl_fl, nl_null, c1_int, c1_ref, c1_null, Nat.zero_add, Nat.zero_mul, Nat.one_mul, nI_add, nI_leI, nI_ltI, nI_eq, nI_mul, stp, Nat.le_refl]
    by_cases h0 : tl ≤ 9999
    · rw [if_pos h0]
      simp (implicitDefEqProofs := false) (disch := omega) only [h0, show ¬ 9999 < tl from by omega, if_false, if_true]
    · rw [if_neg h0]
      simp (implicitDefEqProofs := false) (disch := omega) only [h0, show 9999 < tl from by omega, if_false, if_true]
  | succ k ih =>
    intro tl v15 v16 v17 hk ht
    have hp : 0 < 2 ^ k := Nat.two_pow_pos k
    have hpp : 2 ^ (k + 1) = 2 ^ k + 2 ^ k := by rw [Nat.pow_succ]; omega
    rw [hpp] at ht
    have hst := stp_half k (by omega)
    have ih2 := fun tl v15 v16 v17 (h : tl + 2 ^ k ≤ 16384) => ih tl v15 v16 v17 (by omega) h
    rw [zl_156_82]
    rw [pHal]
    rw [show stp (k + 1) = 2 ^ k from rfl] at hst ⊢
    obtain ⟨P, hP⟩ : ∃ P, P = 2 ^ k := ⟨_, rfl⟩
    rw [← hP] at ht hst ih2 hp ⊢
    have hgp : ev 62 [.int (nI (tl + P - 1)), .int days, .int bonus] H = some (some (.long (nI (tl + P - 1) * days / nI 30 + bonus).toInt64), H) := by
      simp (implicitDefEqProofs := false) (disch := omega) only [ze_62, zr_62_0, zr_62_1, zr_62_2, zr_62_3, zr_62_5, zr_62_6, zr_62_7, zr_62_8, zr_62_9, true_or, or_true, true_and, and_true, if_true, if_false, ldA_ref, ldA_null, nl_int, nl_ref, nl_fl, nl_null, c1_int, c1_ref, c1_null, dvI_30]
    have hso := s_amountOn (B_R hB) hn hbn (show 4 < 5 by omega) (pSalG earlier days bonus (tl + P - 1))
    have hsub : nI (tl + P) - nI 1 = nI (tl + P - 1) := nI_sub1 (by omega)
    have hpg : earlier + (nI (tl + P - 1) * days / nI 30 + bonus).toInt64 = pSalG earlier days bonus (tl + P - 1) := rfl
    by_cases hA : tl + P - 1 ≤ 9999
    · by_cases hlo : pAmt (gB_ru s) n 4 (pSalG earlier days bonus (tl + P - 1)) < enough
      · rw [if_pos (show tl + P - 1 ≤ 9999 ∧ decide (pAmt (gB_ru s) n 4 (pSalG earlier days bonus (tl + P - 1)) < enough) = true from ⟨hA, decide_eq_true hlo⟩)]
        simp (implicitDefEqProofs := false) (disch := omega) only [ze_156, zr_156_0, zr_156_1, zr_156_4, zr_156_6, zr_156_8, zr_156_11, zr_156_14, zr_156_16, zr_156_17, zr_156_18, zr_156_21, zr_156_22, zr_156_23, zr_156_25, zr_156_27, zr_156_30, zr_156_32, zr_156_34, zr_156_35, zr_156_36, zr_156_38, zr_156_40, zr_156_43, zr_156_45, zr_156_47, zr_156_48, zr_156_49, zr_156_51, zr_156_53, zr_156_55, zr_156_58, zr_156_60, zr_156_61, zr_156_64, zr_156_65, zr_156_67, zr_156_70, zr_156_71, zr_156_72, zr_156_74, zr_156_75, zr_156_77, zr_156_80, zr_156_84, zr_156_87, zr_156_89, zr_156_91, zr_156_92, zr_156_93, zr_156_94, zr_156_96, zr_156_98, zr_156_100, zr_156_102, zr_156_104, zr_156_107, zr_156_108, zr_156_110, zr_156_112, zr_156_115, zr_156_118, zr_156_119, zr_156_122, zr_156_123, zr_156_125, zr_156_128, zr_156_130, zr_156_131, zr_156_134, zr_156_136, zr_156_138, zr_156_139, zr_156_141, zr_156_143, zr_156_144, zr_156_145, zr_156_147, zr_156_150, zr_156_152, zr_156_155, zr_156_158, zr_156_160, zr_156_163, zr_156_165, true_or, or_true, true_and, and_true, if_true, if_false, ldA_ref, ldA_null, nl_int, nl_ref, nl_fl, nl_null, c1_int, c1_ref, c1_null, Nat.zero_add, Nat.zero_mul, Nat.one_mul, nI_add, nI_leI, nI_ltI, nI_eq, nI_mul, cmp_lt, cmp_gt, cmp_le, cmp_ge, cmp_eq, show ¬ P ≤ 0 from by omega, hsub, hgp, hpg, show ¬ 9999 < tl + P - 1 from by omega, rdB_0 (hB), rdB_1 (hB), rdB_2 (hB), rdB_3 (hB), rdB_4 (hB), rdB_5 (hB), rdB_6 (hB), rdB_7 (hB), rdR_0 (B_R hB), hso, show ¬ enough ≤ pAmt (gB_ru s) n 4 (pSalG earlier days bonus (tl + P - 1)) from Int64.not_le.mpr hlo, hst, dvI_2, zcall_some, zpush_some, zpush_none, zsum_ref, zsum_int, zsum_long, zsum_nil, zsum_null, Nat.reduceAdd, Nat.reduceLeDiff, if_true]
        exact ih2 (tl + P) _ _ _ (by omega)
      · rw [if_neg (show ¬ (tl + P - 1 ≤ 9999 ∧ decide (pAmt (gB_ru s) n 4 (pSalG earlier days bonus (tl + P - 1)) < enough) = true) from fun h => hlo (of_decide_eq_true h.2))]
        simp (implicitDefEqProofs := false) (disch := omega) only [ze_156, zr_156_0, zr_156_1, zr_156_4, zr_156_6, zr_156_8, zr_156_11, zr_156_14, zr_156_16, zr_156_17, zr_156_18, zr_156_21, zr_156_22, zr_156_23, zr_156_25, zr_156_27, zr_156_30, zr_156_32, zr_156_34, zr_156_35, zr_156_36, zr_156_38, zr_156_40, zr_156_43, zr_156_45, zr_156_47, zr_156_48, zr_156_49, zr_156_51, zr_156_53, zr_156_55, zr_156_58, zr_156_60, zr_156_61, zr_156_64, zr_156_65, zr_156_67, zr_156_70, zr_156_71, zr_156_72, zr_156_74, zr_156_75, zr_156_77, zr_156_80, zr_156_84, zr_156_87, zr_156_89, zr_156_91, zr_156_92, zr_156_93, zr_156_94, zr_156_96, zr_156_98, zr_156_100, zr_156_102, zr_156_104, zr_156_107, zr_156_108, zr_156_110, zr_156_112, zr_156_115, zr_156_118, zr_156_119, zr_156_122, zr_156_123, zr_156_125, zr_156_128, zr_156_130, zr_156_131, zr_156_134, zr_156_136, zr_156_138, zr_156_139, zr_156_141, zr_156_143, zr_156_144, zr_156_145, zr_156_147, zr_156_150, zr_156_152, zr_156_155, zr_156_158, zr_156_160, zr_156_163, zr_156_165, true_or, or_true, true_and, and_true, if_true, if_false, ldA_ref, ldA_null, nl_int, nl_ref, nl_fl, nl_null, c1_int, c1_ref, c1_null, Nat.zero_add, Nat.zero_mul, Nat.one_mul, nI_add, nI_leI, nI_ltI, nI_eq, nI_mul, cmp_lt, cmp_gt, cmp_le, cmp_ge, cmp_eq, show ¬ P ≤ 0 from by omega, hsub, hgp, hpg, show ¬ 9999 < tl + P - 1 from by omega, rdB_0 (hB), rdB_1 (hB), rdB_2 (hB), rdB_3 (hB), rdB_4 (hB), rdB_5 (hB), rdB_6 (hB), rdB_7 (hB), rdR_0 (B_R hB), hso, show enough ≤ pAmt (gB_ru s) n 4 (pSalG earlier days bonus (tl + P - 1)) from Int64.not_lt.mp hlo, hst, dvI_2, zcall_some, zpush_some, zpush_none, zsum_ref, zsum_int, zsum_long, zsum_nil, zsum_null, Nat.reduceAdd, Nat.reduceLeDiff, if_true]
        exact ih2 tl _ _ _ (by omega)
    · rw [if_neg (show ¬ (tl + P - 1 ≤ 9999 ∧ decide (pAmt (gB_ru s) n 4 (pSalG earlier days bonus (tl + P - 1)) < enough) = true) from fun h => hA h.1)]
      simp (implicitDefEqProofs := false) (disch := omega) only [ze_156, zr_156_0, zr_156_1, zr_156_4, zr_156_6, zr_156_8, zr_156_11, zr_156_14, zr_156_16, zr_156_17, zr_156_18, zr_156_21, zr_156_22, zr_156_23, zr_156_25, zr_156_27, zr_156_30, zr_156_32, zr_156_34, zr_156_35, zr_156_36, zr_156_38, zr_156_40, zr_156_43, zr_156_45, zr_156_47, zr_156_48, zr_156_49, zr_156_51, zr_156_53, zr_156_55, zr_156_58, zr_156_60, zr_156_61, zr_156_64, zr_156_65, zr_156_67, zr_156_70, zr_156_71, zr_156_72, zr_156_74, zr_156_75, zr_156_77, zr_156_80, zr_156_84, zr_156_87, zr_156_89, zr_156_91, zr_156_92, zr_156_93, zr_156_94, zr_156_96, zr_156_98, zr_156_100, zr_156_102, zr_156_104, zr_156_107, zr_156_108, zr_156_110, zr_156_112, zr_156_115, zr_156_118, zr_156_119, zr_156_122, zr_156_123, zr_156_125, zr_156_128, zr_156_130, zr_156_131, zr_156_134, zr_156_136, zr_156_138, zr_156_139, zr_156_141, zr_156_143, zr_156_144, zr_156_145, zr_156_147, zr_156_150, zr_156_152, zr_156_155, zr_156_158, zr_156_160, zr_156_163, zr_156_165, true_or, or_true, true_and, and_true, if_true, if_false, ldA_ref, ldA_null, nl_int, nl_ref, nl_fl, nl_null, c1_int, c1_ref, c1_null, Nat.zero_add, Nat.zero_mul, Nat.one_mul, nI_add, nI_leI, nI_ltI, nI_eq, nI_mul, cmp_lt, cmp_gt, cmp_le, cmp_ge, cmp_eq, show ¬ P ≤ 0 from by omega, hsub, hgp, hpg, show 9999 < tl + P - 1 from by omega, hst, dvI_2, zcall_some, zpush_some, zpush_none, zsum_ref, zsum_int, zsum_long, zsum_nil, zsum_null, Nat.reduceAdd, Nat.reduceLeDiff, if_true]
      exact ih2 tl _ _ _ (by omega)
theorem s_least {net : Int64} (hB : isB H b 37 (cB b s)) (he : e < 3) (hc : c < 12) (hcl : gB_cl s = nI c) (hn : n ≤ 5) (hbn : gR_bn (gB_ru s) = nI n) : ev 156 [.ref tr, .ref b, .int (nI e), .long net] H = some (some (.int (if pHal (fun x => decide (pAmt (gB_ru s) n 4 (pSalG (pG (gB_wk s e) c) (gW_en (gB_wk s e) (12 + c)) (gW_en (gB_wk s e) (24 + c)) x) < pAmt (gB_ru s) n 4 (pG (gB_wk s e) c) + net)) 14 0 ≤ 9999 then nI (pHal (fun x => decide (pAmt (gB_ru s) n 4 (pSalG (pG (gB_wk s e) c) (gW_en (gB_wk s e) (12 + c)) (gW_en (gB_wk s e) (24 + c)) x) < pAmt (gB_ru s) n 4 (pG (gB_wk s e) c) + net)) 14 0) else -2)), H) := by
  have hso := s_amountOn (B_R hB) hn hbn (show 4 < 5 by omega) (pG (gB_wk s e) c)
  have hgb := s_grossBefore (B_W hB he) (show c ≤ 12 by omega)
  have hL := s_leastL (tr := tr) (e := e) (v3 := .long net) (a := .float 0) (v5 := .int (nI c)) (v6 := .ref (b + 7 + 10 * e)) (days := gW_en (gB_wk s e) (12 + c)) (bonus := gW_en (gB_wk s e) (24 + c)) (earlier := pG (gB_wk s e) c) (enough := pAmt (gB_ru s) n 4 (pG (gB_wk s e) c) + net) hB hn hbn 14 0 (.float 0) (.float 0) (.float 0) (by omega) (by decide)
  rw [← hL]
  simp (implicitDefEqProofs := false) (disch := omega) only [ze_156, zr_156_0, zr_156_1, zr_156_4, zr_156_6, zr_156_8, zr_156_11, zr_156_14, zr_156_16, zr_156_17, zr_156_18, zr_156_21, zr_156_22, zr_156_23, zr_156_25, zr_156_27, zr_156_30, zr_156_32, zr_156_34, zr_156_35, zr_156_36, zr_156_38, zr_156_40, zr_156_43, zr_156_45, zr_156_47, zr_156_48, zr_156_49, zr_156_51, zr_156_53, zr_156_55, zr_156_58, zr_156_60, zr_156_61, zr_156_64, zr_156_65, zr_156_67, zr_156_70, zr_156_71, zr_156_72, zr_156_74, zr_156_75, zr_156_77, zr_156_80, zr_156_84, zr_156_87, zr_156_89, zr_156_91, zr_156_92, zr_156_93, zr_156_94, zr_156_96, zr_156_98, zr_156_100, zr_156_102, zr_156_104, zr_156_107, zr_156_108, zr_156_110, zr_156_112, zr_156_115, zr_156_118, zr_156_119, zr_156_122, zr_156_123, zr_156_125, zr_156_128, zr_156_130, zr_156_131, zr_156_134, zr_156_136, zr_156_138, zr_156_139, zr_156_141, zr_156_143, zr_156_144, zr_156_145, zr_156_147, zr_156_150, zr_156_152, zr_156_155, zr_156_158, zr_156_160, zr_156_163, zr_156_165, true_or, or_true, true_and, and_true, if_true, if_false, ldA_ref, ldA_null, nl_int, nl_ref, nl_fl, nl_null, c1_int, c1_ref, c1_null, Nat.zero_add, Nat.zero_mul, Nat.one_mul, nI_add, nI_leI, nI_ltI, nI_eq, nI_mul, rdB_0 (hB), rdB_1 (hB), rdB_2 (hB), rdB_3 (hB), rdB_4 (hB), rdB_5 (hB), rdB_6 (hB), rdB_7 (hB), hcl, s_isMonth, bI_0, show ¬ ¬ (0 ≤ c ∧ c ≤ 11) from by omega, bI_ok, rf_some, rdW_0 (B_W hB he), rdW_1 (B_W hB he), rdW_2 (B_W hB he), rdW_3 (B_W hB he), rdW_4 (B_W hB he), rdW_5 (B_W hB he), rdW_6 (B_W hB he), rdW_7 (B_W hB he), rdW_8 (B_W hB he), rdW_9 (B_W hB he), rdW_10 (B_W hB he), rdW_11 (B_W hB he), rdW_12 (B_W hB he), rdW_13 (B_W hB he), rdW_14 (B_W hB he), rdW_15 (B_W hB he), rdW_16 (B_W hB he), rdW_17 (B_W hB he), rdW_18 (B_W hB he), rdW_19 (B_W hB he), rdW_20 (B_W hB he), rdW_21 (B_W hB he), rdW_22 (B_W hB he), rdW_23 (B_W hB he), rdW_24 (B_W hB he), rdW_25 (B_W hB he), rdW_26 (B_W hB he), rdW_27 (B_W hB he), rdW_28 (B_W hB he), rdW_29 (B_W hB he), rdR_0 (B_R hB), hgb, hso, zcall_some, zpush_some, zpush_none, zsum_ref, zsum_int, zsum_long, zsum_nil, zsum_null, Nat.reduceAdd, Nat.reduceLeDiff, if_true]
  rfl
end
