/-! SETTLING a month; why a month is settled anew -/
def pSetTo (w : tyW) (du : Nat → Int64) (M : Nat) : tyW := sW_se (sW_am w fun q => if q % 12 < M ∧ q < 60 then du q else gW_am w q) fun q => if q % 12 < M ∧ q < 36 then gW_en w q else gW_se w q
def pAm (w : tyW) (du : Nat → Int64) (m k q : Nat) : Int64 := if q % 12 = m ∧ q < k * 12 then du q else gW_am w q
def pSe (w : tyW) (m k q : Nat) : Int32 := if q % 12 = m ∧ q < k * 12 then gW_en w q else gW_se w q
def pSettle (w : tyW) (du : Nat → Int64) (m : Nat) : tyW := sW_se (sW_am w (pAm w du m 5)) (pSe w m 3)
theorem pSettle_to (w : tyW) (du : Nat → Int64) (M : Nat) : pSettle (pSetTo w du M) du M = pSetTo w du (M + 1) := by
  have h1 : pAm (pSetTo w du M) du M 5 = fun q => if q % 12 < M + 1 ∧ q < 60 then du q else gW_am w q := by
    funext q
    show (if q % 12 = M ∧ q < 5 * 12 then du q else (if q % 12 < M ∧ q < 60 then du q else gW_am w q)) = _
    by_cases c1 : q % 12 = M ∧ q < 5 * 12
    · rw [if_pos c1, if_pos (by omega)]
    · rw [if_neg c1]
      by_cases c2 : q % 12 < M ∧ q < 60
      · rw [if_pos c2, if_pos (by omega)]
      · rw [if_neg c2, if_neg (by omega)]
  have h2 : pSe (pSetTo w du M) M 3 = fun q => if q % 12 < M + 1 ∧ q < 36 then gW_en w q else gW_se w q := by
    funext q
    show (if q % 12 = M ∧ q < 3 * 12 then gW_en w q else (if q % 12 < M ∧ q < 36 then gW_en w q else gW_se w q)) = _
    by_cases c1 : q % 12 = M ∧ q < 3 * 12
    · rw [if_pos c1, if_pos (by omega)]
    · rw [if_neg c1]
      by_cases c2 : q % 12 < M ∧ q < 36
      · rw [if_pos c2, if_pos (by omega)]
      · rw [if_neg c2, if_neg (by omega)]
  unfold pSettle
  rw [h1, h2]
  rfl
theorem pAm_upd {w : tyW} {du : Nat → Int64} {m k : Nat} (hm : m < 12) : vp_updL (pAm w du m k) (k * 12 + m) (du (k * 12 + m)) = pAm w du m (k + 1) := by
  funext q
  unfold vp_updL pAm
  by_cases e : q = k * 12 + m
  · subst e
    rw [if_pos rfl, if_pos (by omega)]
  · rw [if_neg e]
    by_cases c : q % 12 = m ∧ q < k * 12
    · rw [if_pos c, if_pos (by omega)]
    · rw [if_neg c, if_neg (by omega)]
theorem pSe_upd {w : tyW} {m k : Nat} (hm : m < 12) : upd (pSe w m k) (k * 12 + m) (gW_en w (k * 12 + m)) = pSe w m (k + 1) := by
  funext q
  unfold upd pSe
  by_cases e : q = k * 12 + m
  · subst e
    rw [if_pos rfl, if_pos (by omega)]
  · rw [if_neg e]
    by_cases c : q % 12 = m ∧ q < k * 12
    · rw [if_pos c, if_pos (by omega)]
    · rw [if_neg c, if_neg (by omega)]
theorem s_settle2 {h : zH} {a c m : Nat} {w : tyW} {du : tyD} (ha : 100 ≤ a) (hm : m < 12) : ∀ (d k : Nat) (v3 : Value), k + d = 3 → rn 71 34 [.ref a, .int (nI m), .ref (c + 1), .int (nI k)] [] (blk a 10 (cW a (sW_se (sW_am w (pAm w du m 5)) (pSe w m k))) h) = some (none, blk a 10 (cW a (pSettle w du m)) h) := by
  intro d
  induction d with
  | zero =>
    intro k v3 hd
    rw [Nat.add_zero] at hd
    subst hd
    rw [zl_71_34]
    simp (implicitDefEqProofs := false) (disch := omega) only [ze_71, zr_71_0, zr_71_1, zr_71_3, zr_71_4, zr_71_7, zr_71_8, zr_71_11, zr_71_12, zr_71_14, zr_71_15, zr_71_16, zr_71_17, zr_71_18, zr_71_19, zr_71_21, zr_71_22, zr_71_23, zr_71_24, zr_71_25, zr_71_26, zr_71_29, zr_71_32, zr_71_33, zr_71_35, zr_71_36, zr_71_39, zr_71_40, zr_71_43, zr_71_44, zr_71_46, zr_71_47, zr_71_48, zr_71_49, zr_71_50, zr_71_53, zr_71_54, zr_71_56, zr_71_57, zr_71_58, zr_71_59, zr_71_60, zr_71_61, zr_71_64, zr_71_67, true_or, or_true, true_and, and_true, if_true, if_false, ldA_ref, ldA_null, nl_int, nl_ref, nl_fl, nl_null, c1_int, c1_ref, c1_null, Nat.zero_add, Nat.zero_mul, Nat.one_mul, nI_add, nI_leI, nI_ltI, nI_eq, nI_mul, Nat.le_refl, if_true]
    rfl
  | succ d ih =>
    intro k v3 hd
    rw [zl_71_34]
    simp (implicitDefEqProofs := false) (disch := omega) only [ze_71, zr_71_0, zr_71_1, zr_71_3, zr_71_4, zr_71_7, zr_71_8, zr_71_11, zr_71_12, zr_71_14, zr_71_15, zr_71_16, zr_71_17, zr_71_18, zr_71_19, zr_71_21, zr_71_22, zr_71_23, zr_71_24, zr_71_25, zr_71_26, zr_71_29, zr_71_32, zr_71_33, zr_71_35, zr_71_36, zr_71_39, zr_71_40, zr_71_43, zr_71_44, zr_71_46, zr_71_47, zr_71_48, zr_71_49, zr_71_50, zr_71_53, zr_71_54, zr_71_56, zr_71_57, zr_71_58, zr_71_59, zr_71_60, zr_71_61, zr_71_64, zr_71_67, true_or, or_true, true_and, and_true, if_true, if_false, ldA_ref, ldA_null, nl_int, nl_ref, nl_fl, nl_null, c1_int, c1_ref, c1_null, Nat.zero_add, Nat.zero_mul, Nat.one_mul, nI_add, nI_leI, nI_ltI, nI_eq, nI_mul, show ¬ 3 ≤ k from by omega, if_false, rdW_0 (blk_isB), rdW_1 (blk_isB), rdW_2 (blk_isB), rdW_3 (blk_isB), rdW_4 (blk_isB), rdW_5 (blk_isB), rdW_6 (blk_isB), rdW_7 (blk_isB), rdW_8 (blk_isB), rdW_9 (blk_isB), rdW_10 (blk_isB), rdW_11 (blk_isB), rdW_12 (blk_isB), rdW_13 (blk_isB), rdW_14 (blk_isB), rdW_15 (blk_isB), rdW_16 (blk_isB), rdW_17 (blk_isB), rdW_18 (blk_isB), rdW_19 (blk_isB), rdW_20 (blk_isB), rdW_21 (blk_isB), rdW_22 (blk_isB), rdW_23 (blk_isB), rdW_24 (blk_isB), rdW_25 (blk_isB), rdW_26 (blk_isB), rdW_27 (blk_isB), rdW_28 (blk_isB), rdW_29 (blk_isB), wrW_0 (ha), wrW_1 (ha), wrW_2 (ha), wrW_3 (ha), wrW_4 (ha), wrW_5 (ha), wrW_6 (ha), wrW_7 (ha), wrW_8 (ha), wrW_9 (ha), wrW_10 (ha), wrW_11 (ha), gsW_0, gsW_1, gsW_2, gsW_3, gsW_4, gsW_5, gsW_6, gsW_7, gsW_8, gsW_9, gsW_10, gsW_11, gsW_12, gsW_13, gsW_14, gsW_15, gsW_16, gsW_17, gsW_18, gsW_19, gsW_20, gsW_21, gsW_22, gsW_23, gsW_24, gsW_25, gsW_26, gsW_27, gsW_28, gsW_29, gsW_30, gsW_31, gsW_32, gsW_33, gsW_34, gsW_35, gsW_36, gsW_37, gsW_38, gsW_39, gsW_40, gsW_41, gsW_42, gsW_43, gsW_44, gsW_45, gsW_46, gsW_47, gsW_48, gsW_49, gsW_50, gsW_51, gsW_52, gsW_53, gsW_54, gsW_55, gsW_56, gsW_57, gsW_58, gsW_59, gsW_60, gsW_61, gsW_62, gsW_63, gsW_64, gsW_65, gsW_66, gsW_67, gsW_68, gsW_69, gsW_70, gsW_71, gsW_72, gsW_73, gsW_74, gsW_75, gsW_76, gsW_77, gsW_78, gsW_79, gsW_80, gsW_81, gsW_82, gsW_83, gsW_84, gsW_85, gsW_86, gsW_87, gsW_88, gsW_89, gsW_90, gsW_91, gsW_92, gsW_93, gsW_94, gsW_95, gsW_96, gsW_97, gsW_98, gsW_99, gsW_100, gsW_101, gsW_102, gsW_103, gsW_104, gsW_105, gsW_106, gsW_107, gsW_108, gsW_109, gsW_110, gsW_111, gsW_112, gsW_113, gsW_114, gsW_115, gsW_116, gsW_117, gsW_118, gsW_119, gsW_120]
    have e := pSe_upd (w := w) (k := k) hm
    have e2 : sW_se (sW_se (sW_am w (pAm w du m 5)) (pSe w m k)) (upd (pSe w m k) (k * 12 + m) (gW_en w (k * 12 + m))) = sW_se (sW_am w (pAm w du m 5)) (pSe w m (k + 1)) := by rw [e]; rfl
    rw [e2]
    exact ih (k + 1) (.int (nI k)) (by omega)
theorem s_settle1 {h : zH} {a c m : Nat} {w : tyW} {du : tyD} (ha : 100 ≤ a) (hm : m < 12) (hD : isB h c 2 (cD c du)) (dj : c + 2 ≤ a ∨ a + 10 ≤ c) : ∀ (d k : Nat), k + d = 5 → rn 71 2 [.ref a, .int (nI m), .ref (c + 1), .int (nI k)] [] (blk a 10 (cW a (sW_am w (pAm w du m k))) h) = some (none, blk a 10 (cW a (pSettle w du m)) h) := by
  intro d
  induction d with
  | zero =>
    intro k hd
    rw [Nat.add_zero] at hd
    subst hd
    rw [zl_71_2]
    simp (implicitDefEqProofs := false) (disch := omega) only [ze_71, zr_71_0, zr_71_1, zr_71_3, zr_71_4, zr_71_7, zr_71_8, zr_71_11, zr_71_12, zr_71_14, zr_71_15, zr_71_16, zr_71_17, zr_71_18, zr_71_19, zr_71_21, zr_71_22, zr_71_23, zr_71_24, zr_71_25, zr_71_26, zr_71_29, zr_71_32, zr_71_33, zr_71_35, zr_71_36, zr_71_39, zr_71_40, zr_71_43, zr_71_44, zr_71_46, zr_71_47, zr_71_48, zr_71_49, zr_71_50, zr_71_53, zr_71_54, zr_71_56, zr_71_57, zr_71_58, zr_71_59, zr_71_60, zr_71_61, zr_71_64, zr_71_67, true_or, or_true, true_and, and_true, if_true, if_false, ldA_ref, ldA_null, nl_int, nl_ref, nl_fl, nl_null, c1_int, c1_ref, c1_null, Nat.zero_add, Nat.zero_mul, Nat.one_mul, nI_add, nI_leI, nI_ltI, nI_eq, nI_mul, Nat.le_refl, if_true]
    have := s_settle2 (h := h) (c := c) (w := w) (du := du) ha hm 3 0 .null (by omega)
    have e : sW_se (sW_am w (pAm w du m 5)) (pSe w m 0) = sW_am w (pAm w du m 5) := by
      have e3 : pSe w m 0 = gW_se w := by
        funext q
        exact if_neg (by omega)
      rw [e3]; rfl
    rw [e] at this
    exact this
  | succ d ih =>
    intro k hd
    rw [zl_71_2]
    simp (implicitDefEqProofs := false) (disch := omega) only [ze_71, zr_71_0, zr_71_1, zr_71_3, zr_71_4, zr_71_7, zr_71_8, zr_71_11, zr_71_12, zr_71_14, zr_71_15, zr_71_16, zr_71_17, zr_71_18, zr_71_19, zr_71_21, zr_71_22, zr_71_23, zr_71_24, zr_71_25, zr_71_26, zr_71_29, zr_71_32, zr_71_33, zr_71_35, zr_71_36, zr_71_39, zr_71_40, zr_71_43, zr_71_44, zr_71_46, zr_71_47, zr_71_48, zr_71_49, zr_71_50, zr_71_53, zr_71_54, zr_71_56, zr_71_57, zr_71_58, zr_71_59, zr_71_60, zr_71_61, zr_71_64, zr_71_67, true_or, or_true, true_and, and_true, if_true, if_false, ldA_ref, ldA_null, nl_int, nl_ref, nl_fl, nl_null, c1_int, c1_ref, c1_null, Nat.zero_add, Nat.zero_mul, Nat.one_mul, nI_add, nI_leI, nI_ltI, nI_eq, nI_mul, show ¬ 5 ≤ k from by omega, if_false, rdW_0 (blk_isB), rdW_1 (blk_isB), rdW_2 (blk_isB), rdW_3 (blk_isB), rdW_4 (blk_isB), rdW_5 (blk_isB), rdW_6 (blk_isB), rdW_7 (blk_isB), rdW_8 (blk_isB), rdW_9 (blk_isB), rdW_10 (blk_isB), rdW_11 (blk_isB), rdW_12 (blk_isB), rdW_13 (blk_isB), rdW_14 (blk_isB), rdW_15 (blk_isB), rdW_16 (blk_isB), rdW_17 (blk_isB), rdW_18 (blk_isB), rdW_19 (blk_isB), rdW_20 (blk_isB), rdW_21 (blk_isB), rdW_22 (blk_isB), rdW_23 (blk_isB), rdW_24 (blk_isB), rdW_25 (blk_isB), rdW_26 (blk_isB), rdW_27 (blk_isB), rdW_28 (blk_isB), rdW_29 (blk_isB), wrW_0 (ha), wrW_1 (ha), wrW_2 (ha), wrW_3 (ha), wrW_4 (ha), wrW_5 (ha), wrW_6 (ha), wrW_7 (ha), wrW_8 (ha), wrW_9 (ha), wrW_10 (ha), wrW_11 (ha), gsW_0, gsW_1, gsW_2, gsW_3, gsW_4, gsW_5, gsW_6, gsW_7, gsW_8, gsW_9, gsW_10, gsW_11, gsW_12, gsW_13, gsW_14, gsW_15, gsW_16, gsW_17, gsW_18, gsW_19, gsW_20, gsW_21, gsW_22, gsW_23, gsW_24, gsW_25, gsW_26, gsW_27, gsW_28, gsW_29, gsW_30, gsW_31, gsW_32, gsW_33, gsW_34, gsW_35, gsW_36, gsW_37, gsW_38, gsW_39, gsW_40, gsW_41, gsW_42, gsW_43, gsW_44, gsW_45, gsW_46, gsW_47, gsW_48, gsW_49, gsW_50, gsW_51, gsW_52, gsW_53, gsW_54, gsW_55, gsW_56, gsW_57, gsW_58, gsW_59, gsW_60, gsW_61, gsW_62, gsW_63, gsW_64, gsW_65, gsW_66, gsW_67, gsW_68, gsW_69, gsW_70, gsW_71, gsW_72, gsW_73, gsW_74, gsW_75, gsW_76, gsW_77, gsW_78, gsW_79, gsW_80, gsW_81, gsW_82, gsW_83, gsW_84, gsW_85, gsW_86, gsW_87, gsW_88, gsW_89, gsW_90, gsW_91, gsW_92, gsW_93, gsW_94, gsW_95, gsW_96, gsW_97, gsW_98, gsW_99, gsW_100, gsW_101, gsW_102, gsW_103, gsW_104, gsW_105, gsW_106, gsW_107, gsW_108, gsW_109, gsW_110, gsW_111, gsW_112, gsW_113, gsW_114, gsW_115, gsW_116, gsW_117, gsW_118, gsW_119, gsW_120, lj_skip, rdD_0 (hD), rdD_1 (hD), rdD_2 (hD), rdD_3 (hD)]
    have e : sW_am (sW_am w (pAm w du m k)) (vp_updL (pAm w du m k) (k * 12 + m) (gD_du du (k * 12 + m))) = sW_am w (pAm w du m (k + 1)) := by
      rw [show gD_du du (k * 12 + m) = du (k * 12 + m) from rfl, pAm_upd hm]; rfl
    rw [e]
    exact ih (k + 1) (by omega)
theorem s_settle {h : zH} {a c m : Nat} {w : tyW} {du : tyD} (ha : 100 ≤ a) (hm : m < 12) (hD : isB h c 2 (cD c du)) (dj : c + 2 ≤ a ∨ a + 10 ≤ c) : ev 71 [.ref a, .int (nI m), .ref (c + 1)] (blk a 10 (cW a w) h) = some (none, blk a 10 (cW a (pSettle w du m)) h) := by
  simp (implicitDefEqProofs := false) (disch := omega) only [ze_71, zr_71_0, zr_71_1, zr_71_3, zr_71_4, zr_71_7, zr_71_8, zr_71_11, zr_71_12, zr_71_14, zr_71_15, zr_71_16, zr_71_17, zr_71_18, zr_71_19, zr_71_21, zr_71_22, zr_71_23, zr_71_24, zr_71_25, zr_71_26, zr_71_29, zr_71_32, zr_71_33, zr_71_35, zr_71_36, zr_71_39, zr_71_40, zr_71_43, zr_71_44, zr_71_46, zr_71_47, zr_71_48, zr_71_49, zr_71_50, zr_71_53, zr_71_54, zr_71_56, zr_71_57, zr_71_58, zr_71_59, zr_71_60, zr_71_61, zr_71_64, zr_71_67, true_or, or_true, true_and, and_true, if_true, if_false, ldA_ref, ldA_null, nl_int, nl_ref, nl_fl, nl_null, c1_int, c1_ref, c1_null]
  have := s_settle1 (w := w) ha hm hD dj 5 0 (by omega)
  have e : sW_am w (pAm w du m 0) = w := by
    have e3 : pAm w du m 0 = gW_am w := by
      funext q
      exact if_neg (by omega)
    rw [e3]; rfl
  rw [e] at this
  exact this
def pReason (w : tyW) (m : Nat) (f : Int32) : Int32 :=
  if gW_en w m = gW_se w m then (if gW_en w (12 + m) = gW_se w (12 + m) then (if gW_en w (24 + m) = gW_se w (24 + m) then (if f = nI 0 then nI 6 else nI 5) else nI 4) else nI 3)
  else if gW_en w m ≤ gW_se w m then nI 2 else nI 1
theorem s_reasonFor {H : zH} {a m : Nat} {w : tyW} {f : Int32} (hW : isB H a 10 (cW a w)) (hm : m < 12) : ev 70 [.ref a, .int (nI m), .int f] H = some (some (.int (pReason w m f)), H) := by
  simp (implicitDefEqProofs := false) (disch := omega) only [ze_70, zr_70_0, zr_70_1, zr_70_4, zr_70_5, zr_70_6, zr_70_7, zr_70_8, zr_70_9, zr_70_10, zr_70_13, zr_70_14, zr_70_15, zr_70_16, zr_70_17, zr_70_19, zr_70_20, zr_70_22, zr_70_25, zr_70_26, zr_70_28, zr_70_31, zr_70_32, zr_70_35, zr_70_36, zr_70_37, zr_70_38, zr_70_41, zr_70_43, zr_70_44, zr_70_45, zr_70_46, zr_70_47, zr_70_50, zr_70_52, zr_70_53, zr_70_54, zr_70_55, zr_70_58, zr_70_59, zr_70_60, zr_70_61, zr_70_64, zr_70_66, zr_70_67, zr_70_68, zr_70_69, zr_70_70, zr_70_73, zr_70_75, zr_70_76, zr_70_77, zr_70_78, zr_70_81, zr_70_82, zr_70_83, zr_70_84, zr_70_87, zr_70_88, zr_70_91, zr_70_93, true_or, or_true, true_and, and_true, if_true, if_false, ldA_ref, ldA_null, nl_int, nl_ref, nl_fl, nl_null, c1_int, c1_ref, c1_null, rdW_0 (hW), rdW_1 (hW), rdW_2 (hW), rdW_3 (hW), rdW_4 (hW), rdW_5 (hW), rdW_6 (hW), rdW_7 (hW), rdW_8 (hW), rdW_9 (hW), rdW_10 (hW), rdW_11 (hW), rdW_12 (hW), rdW_13 (hW), rdW_14 (hW), rdW_15 (hW), rdW_16 (hW), rdW_17 (hW), rdW_18 (hW), rdW_19 (hW), rdW_20 (hW), rdW_21 (hW), rdW_22 (hW), rdW_23 (hW), rdW_24 (hW), rdW_25 (hW), rdW_26 (hW), rdW_27 (hW), rdW_28 (hW), rdW_29 (hW), Nat.zero_add, Nat.zero_mul, Nat.one_mul, nI_add, nI_leI, nI_ltI, nI_eq, nI_mul]
  unfold pReason
  by_cases h1 : gW_en w m = gW_se w m <;> by_cases h2 : gW_en w (12 + m) = gW_se w (12 + m) <;> by_cases h3 : gW_en w (24 + m) = gW_se w (24 + m) <;> by_cases h4 : f = nI 0 <;> by_cases h5 : gW_en w m ≤ gW_se w m <;> simp only [h1, h2, h3, h4, h5, if_true, if_false]
