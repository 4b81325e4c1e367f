/-! BOOKS: a new year -/
section
variable {h H : zH} {a b e n : Nat}
def yrE (en : Nat → Int32) (j : Nat) : Nat → Int32 := fun q => if q % 12 < j ∧ q < 36 then (if q < 12 then en 11 else if q < 24 then nI 30 else nI 0) else en q
def yrS (sl : Nat → Option Nat) (j : Nat) : Nat → Option Nat := fun k => if k < j then none else sl k
theorem yrE_0 (en : Nat → Int32) : yrE en 0 = en := by
  funext q; exact if_neg (by omega)
theorem yrS_0 (sl : Nat → Option Nat) : yrS sl 0 = sl := by
  funext q; exact if_neg (by omega)
theorem yrS_up (sl : Nat → Option Nat) (j : Nat) : va_up (yrS sl j) j none = yrS sl (j + 1) := by
  funext k
  show (if k = j then none else if k < j then none else sl k) = if k < j + 1 then none else sl k
  by_cases h1 : k = j
  · rw [if_pos h1, if_pos (by omega)]
  · rw [if_neg h1]
    by_cases h2 : k < j
    · rw [if_pos h2, if_pos (by omega)]
    · rw [if_neg h2, if_neg (by omega)]
theorem yrE_up (en : Nat → Int32) (j : Nat) (hj : j < 12) : upd (upd (upd (yrE en j) j (en 11)) (12 + j) (nI 30)) (24 + j) (nI 0) = yrE en (j + 1) := by
  funext q
  show (if q = 24 + j then nI 0 else if q = 12 + j then nI 30 else if q = j then en 11 else if q % 12 < j ∧ q < 36 then (if q < 12 then en 11 else if q < 24 then nI 30 else nI 0) else en q) = if q % 12 < j + 1 ∧ q < 36 then (if q < 12 then en 11 else if q < 24 then nI 30 else nI 0) else en q
  by_cases h1 : q = 24 + j
  · rw [if_pos h1, if_pos (by omega), if_neg (by omega), if_neg (by omega)]
  · rw [if_neg h1]
    by_cases h2 : q = 12 + j
    · rw [if_pos h2, if_pos (by omega), if_neg (by omega), if_pos (by omega)]
    · rw [if_neg h2]
      by_cases h3 : q = j
      · rw [if_pos h3, if_pos (by omega), if_pos (by omega)]
      · rw [if_neg h3]
        by_cases h4 : q % 12 < j ∧ q < 36
        · rw [if_pos h4, if_pos (show q % 12 < j + 1 ∧ q < 36 from by omega)]
        · rw [if_neg h4, if_neg (by omega)]
def pYr (w : tyW) (j : Nat) : tyW := sW_sl (sW_en w (yrE (gW_en w) j)) (yrS (gW_sl w) j)
theorem pYr_0 (w : tyW) : pYr w 0 = w := by
  unfold pYr
  rw [yrE_0, yrS_0]; rfl
theorem pYr_up (w : tyW) (j : Nat) (hj : j < 12) : sW_sl (sW_en (pYr w j) (upd (upd (upd (yrE (gW_en w) j) j (gW_en w 11)) (12 + j) (nI 30)) (24 + j) (nI 0))) (va_up (yrS (gW_sl w) j) j none) = pYr w (j + 1) := by
  rw [yrE_up _ _ hj, yrS_up]; rfl
def pYear (w : tyW) (n : Nat) : tyW := sW_gc (pRp (pYr w 12) n).1 (nI (pRp (pYr w 12) n).2)
theorem s_wYearL {w : tyW} (ha : 100 ≤ a) (hg : gW_gc w = nI n) (hn : n ≤ 3) : ∀ (i j : Nat), j + i = 12 → rn 79 10 [.ref a, .int (gW_en w 11), .int (nI j)] [] (blk a 10 (cW a (pYr w j)) h) = some (none, blk a 10 (cW a (pYear w n)) h) := by
  intro i
  induction i with
  | zero =>
    intro j hj
    rw [Nat.add_zero] at hj
    subst hj
    have e1 := s_removePaid (h := h) (w := pYr w 12) ha hg hn
    rw [zl_79_10]
    simp (implicitDefEqProofs := false) (disch := omega) only [ze_79, zr_79_0, zr_79_1, zr_79_4, zr_79_6, zr_79_7, zr_79_8, zr_79_9, zr_79_11, zr_79_13, zr_79_16, zr_79_17, zr_79_20, zr_79_21, zr_79_22, zr_79_23, zr_79_24, zr_79_25, zr_79_26, zr_79_29, zr_79_31, zr_79_32, zr_79_33, zr_79_35, zr_79_36, zr_79_37, zr_79_40, zr_79_42, zr_79_43, zr_79_44, zr_79_45, zr_79_46, zr_79_47, zr_79_50, zr_79_51, zr_79_52, zr_79_53, zr_79_56, zr_79_59, zr_79_60, zr_79_63, zr_79_66, true_or, or_true, true_and, and_true, if_true, if_false, ldA_ref, ldA_null, nl_int, nl_ref, nl_fl, nl_null, c1_int, c1_ref, c1_null, Nat.zero_add, Nat.zero_mul, Nat.one_mul, nI_add, nI_leI, nI_ltI, nI_eq, nI_mul, Nat.le_refl, rdW_0 (blk_isB), rdW_1 (blk_isB), rdW_2 (blk_isB), rdW_3 (blk_isB), rdW_4 (blk_isB), rdW_5 (blk_isB), rdW_6 (blk_isB), rdW_7 (blk_isB), rdW_8 (blk_isB), rdW_9 (blk_isB), rdW_10 (blk_isB), rdW_11 (blk_isB), rdW_12 (blk_isB), rdW_13 (blk_isB), rdW_14 (blk_isB), rdW_15 (blk_isB), rdW_16 (blk_isB), rdW_17 (blk_isB), rdW_18 (blk_isB), rdW_19 (blk_isB), rdW_20 (blk_isB), rdW_21 (blk_isB), rdW_22 (blk_isB), rdW_23 (blk_isB), rdW_24 (blk_isB), rdW_25 (blk_isB), rdW_26 (blk_isB), rdW_27 (blk_isB), rdW_28 (blk_isB), rdW_29 (blk_isB), e1, zcall_some, zpush_some, zpush_none, zsum_ref, zsum_int, zsum_long, zsum_nil, zsum_null, Nat.reduceAdd, Nat.reduceLeDiff, if_true]
    rfl
  | succ i ih =>
    intro j hj
    have e1 := ih (j + 1) (by omega)
    rw [← pYr_up w j (by omega)] at e1
    rw [zl_79_10]
    simp (implicitDefEqProofs := false) (disch := omega) only [ze_79, zr_79_0, zr_79_1, zr_79_4, zr_79_6, zr_79_7, zr_79_8, zr_79_9, zr_79_11, zr_79_13, zr_79_16, zr_79_17, zr_79_20, zr_79_21, zr_79_22, zr_79_23, zr_79_24, zr_79_25, zr_79_26, zr_79_29, zr_79_31, zr_79_32, zr_79_33, zr_79_35, zr_79_36, zr_79_37, zr_79_40, zr_79_42, zr_79_43, zr_79_44, zr_79_45, zr_79_46, zr_79_47, zr_79_50, zr_79_51, zr_79_52, zr_79_53, zr_79_56, zr_79_59, zr_79_60, zr_79_63, zr_79_66, true_or, or_true, true_and, and_true, if_true, if_false, ldA_ref, ldA_null, nl_int, nl_ref, nl_fl, nl_null, c1_int, c1_ref, c1_null, Nat.zero_add, Nat.zero_mul, Nat.one_mul, nI_add, nI_leI, nI_ltI, nI_eq, nI_mul, show ¬ 12 ≤ j from by omega, rdW_0 (blk_isB), rdW_1 (blk_isB), rdW_2 (blk_isB), rdW_3 (blk_isB), rdW_4 (blk_isB), rdW_5 (blk_isB), rdW_6 (blk_isB), rdW_7 (blk_isB), rdW_8 (blk_isB), rdW_9 (blk_isB), rdW_10 (blk_isB), rdW_11 (blk_isB), rdW_12 (blk_isB), rdW_13 (blk_isB), rdW_14 (blk_isB), rdW_15 (blk_isB), rdW_16 (blk_isB), rdW_17 (blk_isB), rdW_18 (blk_isB), rdW_19 (blk_isB), rdW_20 (blk_isB), rdW_21 (blk_isB), rdW_22 (blk_isB), rdW_23 (blk_isB), rdW_24 (blk_isB), rdW_25 (blk_isB), rdW_26 (blk_isB), rdW_27 (blk_isB), rdW_28 (blk_isB), rdW_29 (blk_isB), wrW_0 (ha), wrW_1 (ha), wrW_2 (ha), wrW_3 (ha), wrW_4 (ha), wrW_5 (ha), wrW_6 (ha), wrW_7 (ha), wrW_8 (ha), wrW_9 (ha), wrW_10 (ha), wrW_11 (ha), gsW_0, gsW_1, gsW_2, gsW_3, gsW_4, gsW_5, gsW_6, gsW_7, gsW_8, gsW_9, gsW_10, gsW_11, gsW_12, gsW_13, gsW_14, gsW_15, gsW_16, gsW_17, gsW_18, gsW_19, gsW_20, gsW_21, gsW_22, gsW_23, gsW_24, gsW_25, gsW_26, gsW_27, gsW_28, gsW_29, gsW_30, gsW_31, gsW_32, gsW_33, gsW_34, gsW_35, gsW_36, gsW_37, gsW_38, gsW_39, gsW_40, gsW_41, gsW_42, gsW_43, gsW_44, gsW_45, gsW_46, gsW_47, gsW_48, gsW_49, gsW_50, gsW_51, gsW_52, gsW_53, gsW_54, gsW_55, gsW_56, gsW_57, gsW_58, gsW_59, gsW_60, gsW_61, gsW_62, gsW_63, gsW_64, gsW_65, gsW_66, gsW_67, gsW_68, gsW_69, gsW_70, gsW_71, gsW_72, gsW_73, gsW_74, gsW_75, gsW_76, gsW_77, gsW_78, gsW_79, gsW_80, gsW_81, gsW_82, gsW_83, gsW_84, gsW_85, gsW_86, gsW_87, gsW_88, gsW_89, gsW_90, gsW_91, gsW_92, gsW_93, gsW_94, gsW_95, gsW_96, gsW_97, gsW_98, gsW_99, gsW_100, gsW_101, gsW_102, gsW_103, gsW_104, gsW_105, gsW_106, gsW_107, gsW_108, gsW_109, gsW_110, gsW_111, gsW_112, gsW_113, gsW_114, gsW_115, gsW_116, gsW_117, gsW_118, gsW_119, gsW_120]
    exact e1
theorem s_wYear {w : tyW} (ha : 100 ≤ a) (hg : gW_gc w = nI n) (hn : n ≤ 3) : ev 79 [.ref a] (blk a 10 (cW a w) h) = some (none, blk a 10 (cW a (pYear w n)) h) := by
  have e1 := s_wYearL (h := h) ha hg hn 12 0 (by omega)
  rw [pYr_0] at e1
  simp (implicitDefEqProofs := false) (disch := omega) only [ze_79, zr_79_0, zr_79_1, zr_79_4, zr_79_6, zr_79_7, zr_79_8, zr_79_9, zr_79_11, zr_79_13, zr_79_16, zr_79_17, zr_79_20, zr_79_21, zr_79_22, zr_79_23, zr_79_24, zr_79_25, zr_79_26, zr_79_29, zr_79_31, zr_79_32, zr_79_33, zr_79_35, zr_79_36, zr_79_37, zr_79_40, zr_79_42, zr_79_43, zr_79_44, zr_79_45, zr_79_46, zr_79_47, zr_79_50, zr_79_51, zr_79_52, zr_79_53, zr_79_56, zr_79_59, zr_79_60, zr_79_63, zr_79_66, true_or, or_true, true_and, and_true, if_true, if_false, ldA_ref, ldA_null, nl_int, nl_ref, nl_fl, nl_null, c1_int, c1_ref, c1_null, rdW_0 (blk_isB), rdW_1 (blk_isB), rdW_2 (blk_isB), rdW_3 (blk_isB), rdW_4 (blk_isB), rdW_5 (blk_isB), rdW_6 (blk_isB), rdW_7 (blk_isB), rdW_8 (blk_isB), rdW_9 (blk_isB), rdW_10 (blk_isB), rdW_11 (blk_isB), rdW_12 (blk_isB), rdW_13 (blk_isB), rdW_14 (blk_isB), rdW_15 (blk_isB), rdW_16 (blk_isB), rdW_17 (blk_isB), rdW_18 (blk_isB), rdW_19 (blk_isB), rdW_20 (blk_isB), rdW_21 (blk_isB), rdW_22 (blk_isB), rdW_23 (blk_isB), rdW_24 (blk_isB), rdW_25 (blk_isB), rdW_26 (blk_isB), rdW_27 (blk_isB), rdW_28 (blk_isB), rdW_29 (blk_isB)]
  exact e1
def bYr (s : tyB) (gs : Nat → Nat) (j : Nat) : tyB := sB_wk s fun i => if i < j then pYear (gB_wk s i) (gs i) else gB_wk s i
theorem bYr_0 (s : tyB) (gs : Nat → Nat) : bYr s gs 0 = s := by
  unfold bYr
  have : (fun i => if i < 0 then pYear (gB_wk s i) (gs i) else gB_wk s i) = gB_wk s := by
    funext i; exact if_neg (by omega)
  rw [this]; rfl
theorem bYr_up (s : tyB) (gs : Nat → Nat) (j : Nat) : sB_w (bYr s gs j) j (pYear (gB_wk (bYr s gs j) j) (gs j)) = bYr s gs (j + 1) := by
  have e1 : gB_wk (bYr s gs j) j = gB_wk s j := if_neg (by omega)
  rw [e1]
  have : (fun i => if i = j then pYear (gB_wk s j) (gs j) else if i < j then pYear (gB_wk s i) (gs i) else gB_wk s i) = fun i => if i < j + 1 then pYear (gB_wk s i) (gs i) else gB_wk s i := by
    funext i
    by_cases h1 : i = j
    · subst h1; rw [if_pos rfl, if_pos (by omega)]
    · rw [if_neg h1]
      by_cases h2 : i < j
      · rw [if_pos h2, if_pos (by omega)]
      · rw [if_neg h2, if_neg (by omega)]
  show sB_wk (bYr s gs j) (fun i => if i = j then pYear (gB_wk s j) (gs j) else if i < j then pYear (gB_wk s i) (gs i) else gB_wk s i) = _
  rw [this]; rfl
def bYear (s : tyB) (gs : Nat → Nat) : tyB := sB_yr (sB_cl (bYr s gs 3) (nI 0)) (gB_yr s + nI 1)
theorem s_bYear {s : tyB} {gs : Nat → Nat} {c : Nat} (hB : isB H b 37 (cB b s)) (hb : 100 ≤ b) (hc : gB_cl s = nI c) (hc12 : c ≤ 12) (hg : ∀ e, e < 3 → gs e ≤ 3 ∧ gW_gc (gB_wk s e) = nI (gs e)) : ev 78 [.ref b] H = if c < 12 then some (some (.int (-2)), H) else some (some (.int (gB_yr s + nI 1)), blk b 37 (cB b (bYear s gs)) H) := by
  by_cases h0 : c < 12
  · rw [if_pos h0]
    simp (implicitDefEqProofs := false) (disch := omega) only [ze_78, zr_78_0, zr_78_1, zr_78_4, zr_78_6, zr_78_9, zr_78_11, zr_78_12, zr_78_13, zr_78_15, zr_78_16, zr_78_19, zr_78_20, zr_78_23, zr_78_24, zr_78_25, zr_78_28, zr_78_31, zr_78_34, zr_78_35, zr_78_36, zr_78_39, zr_78_40, zr_78_41, zr_78_44, zr_78_45, zr_78_46, zr_78_49, zr_78_50, zr_78_53, true_or, or_true, true_and, and_true, if_true, if_false, ldA_ref, ldA_null, nl_int, nl_ref, nl_fl, nl_null, c1_int, c1_ref, c1_null, Nat.zero_add, Nat.zero_mul, Nat.one_mul, nI_add, nI_leI, nI_ltI, nI_eq, nI_mul, rdB_0 (hB), rdB_1 (hB), rdB_2 (hB), rdB_3 (hB), rdB_4 (hB), rdB_5 (hB), rdB_6 (hB), rdB_7 (hB), hc, show ¬ 12 ≤ c from by omega]
  · rw [if_neg h0]
    have step : ∀ e : Nat, e < 3 → ev 79 [.ref (b + 7 + 10 * e)] (blk b 37 (cB b (bYr s gs e)) H) = some (none, blk b 37 (cB b (bYr s gs (e + 1))) H) := fun e he => by
      obtain ⟨g1, g2⟩ := hg e he
      have k1 : gB_wk (bYr s gs e) e = gB_wk s e := if_neg (by omega)
      have e1 := s_wYear (h := blk b 37 (cB b (bYr s gs e)) H) (a := b + 7 + 10 * e) (w := gB_wk (bYr s gs e) e) (by omega) (by rw [k1]; exact g2) g1
      rw [B_idW blk_isB he, B_putW blk_isB he, bYr_up, blk_over] at e1
      exact e1
    have st0 := step 0 (by omega)
    have st1 := step 1 (by omega)
    have st2 := step 2 (by omega)
    rw [bYr_0, blk_id hB] at st0
    have kk : gB_yr (bYr s gs 3) = gB_yr s := rfl
    simp (implicitDefEqProofs := false) (disch := omega) only [ze_78, zr_78_0, zr_78_1, zr_78_4, zr_78_6, zr_78_9, zr_78_11, zr_78_12, zr_78_13, zr_78_15, zr_78_16, zr_78_19, zr_78_20, zr_78_23, zr_78_24, zr_78_25, zr_78_28, zr_78_31, zr_78_34, zr_78_35, zr_78_36, zr_78_39, zr_78_40, zr_78_41, zr_78_44, zr_78_45, zr_78_46, zr_78_49, zr_78_50, zr_78_53, true_or, or_true, true_and, and_true, if_true, if_false, ldA_ref, ldA_null, nl_int, nl_ref, nl_fl, nl_null, c1_int, c1_ref, c1_null, Nat.zero_add, Nat.zero_mul, Nat.one_mul, nI_add, nI_leI, nI_ltI, nI_eq, nI_mul, rdB_0 (hB), rdB_1 (hB), rdB_2 (hB), rdB_3 (hB), rdB_4 (hB), rdB_5 (hB), rdB_6 (hB), rdB_7 (hB), hc, show 12 ≤ c from by omega]
    rw [zl_78_14]
    simp (implicitDefEqProofs := false) (disch := omega) only [ze_78, zr_78_0, zr_78_1, zr_78_4, zr_78_6, zr_78_9, zr_78_11, zr_78_12, zr_78_13, zr_78_15, zr_78_16, zr_78_19, zr_78_20, zr_78_23, zr_78_24, zr_78_25, zr_78_28, zr_78_31, zr_78_34, zr_78_35, zr_78_36, zr_78_39, zr_78_40, zr_78_41, zr_78_44, zr_78_45, zr_78_46, zr_78_49, zr_78_50, zr_78_53, true_or, or_true, true_and, and_true, if_true, if_false, ldA_ref, ldA_null, nl_int, nl_ref, nl_fl, nl_null, c1_int, c1_ref, c1_null, Nat.zero_add, Nat.zero_mul, Nat.one_mul, nI_add, nI_leI, nI_ltI, nI_eq, nI_mul, rdB_0 (hB), rdB_1 (hB), rdB_2 (hB), rdB_3 (hB), rdB_4 (hB), rdB_5 (hB), rdB_6 (hB), rdB_7 (hB), rf_some, rdW_0 (B_W hB (show 0 < 3 by omega)), st0, zcall_some, zpush_some, zpush_none, zsum_ref, zsum_int, zsum_long, zsum_nil, zsum_null, Nat.reduceAdd, Nat.reduceLeDiff, if_true]
    rw [zl_78_14]
    simp (implicitDefEqProofs := false) (disch := omega) only [ze_78, zr_78_0, zr_78_1, zr_78_4, zr_78_6, zr_78_9, zr_78_11, zr_78_12, zr_78_13, zr_78_15, zr_78_16, zr_78_19, zr_78_20, zr_78_23, zr_78_24, zr_78_25, zr_78_28, zr_78_31, zr_78_34, zr_78_35, zr_78_36, zr_78_39, zr_78_40, zr_78_41, zr_78_44, zr_78_45, zr_78_46, zr_78_49, zr_78_50, zr_78_53, true_or, or_true, true_and, and_true, if_true, if_false, ldA_ref, ldA_null, nl_int, nl_ref, nl_fl, nl_null, c1_int, c1_ref, c1_null, Nat.zero_add, Nat.zero_mul, Nat.one_mul, nI_add, nI_leI, nI_ltI, nI_eq, nI_mul, rdB_0 (blk_isB), rdB_1 (blk_isB), rdB_2 (blk_isB), rdB_3 (blk_isB), rdB_4 (blk_isB), rdB_5 (blk_isB), rdB_6 (blk_isB), rdB_7 (blk_isB), rf_some, rdW_0 (B_W blk_isB (show 1 < 3 by omega)), st1, zcall_some, zpush_some, zpush_none, zsum_ref, zsum_int, zsum_long, zsum_nil, zsum_null, Nat.reduceAdd, Nat.reduceLeDiff, if_true]
    rw [zl_78_14]
    simp (implicitDefEqProofs := false) (disch := omega) only [ze_78, zr_78_0, zr_78_1, zr_78_4, zr_78_6, zr_78_9, zr_78_11, zr_78_12, zr_78_13, zr_78_15, zr_78_16, zr_78_19, zr_78_20, zr_78_23, zr_78_24, zr_78_25, zr_78_28, zr_78_31, zr_78_34, zr_78_35, zr_78_36, zr_78_39, zr_78_40, zr_78_41, zr_78_44, zr_78_45, zr_78_46, zr_78_49, zr_78_50, zr_78_53, true_or, or_true, true_and, and_true, if_true, if_false, ldA_ref, ldA_null, nl_int, nl_ref, nl_fl, nl_null, c1_int, c1_ref, c1_null, Nat.zero_add, Nat.zero_mul, Nat.one_mul, nI_add, nI_leI, nI_ltI, nI_eq, nI_mul, rdB_0 (blk_isB), rdB_1 (blk_isB), rdB_2 (blk_isB), rdB_3 (blk_isB), rdB_4 (blk_isB), rdB_5 (blk_isB), rdB_6 (blk_isB), rdB_7 (blk_isB), rf_some, rdW_0 (B_W blk_isB (show 2 < 3 by omega)), st2, zcall_some, zpush_some, zpush_none, zsum_ref, zsum_int, zsum_long, zsum_nil, zsum_null, Nat.reduceAdd, Nat.reduceLeDiff, if_true]
    rw [zl_78_14]
    simp (implicitDefEqProofs := false) (disch := omega) only [ze_78, zr_78_0, zr_78_1, zr_78_4, zr_78_6, zr_78_9, zr_78_11, zr_78_12, zr_78_13, zr_78_15, zr_78_16, zr_78_19, zr_78_20, zr_78_23, zr_78_24, zr_78_25, zr_78_28, zr_78_31, zr_78_34, zr_78_35, zr_78_36, zr_78_39, zr_78_40, zr_78_41, zr_78_44, zr_78_45, zr_78_46, zr_78_49, zr_78_50, zr_78_53, true_or, or_true, true_and, and_true, if_true, if_false, ldA_ref, ldA_null, nl_int, nl_ref, nl_fl, nl_null, c1_int, c1_ref, c1_null, Nat.zero_add, Nat.zero_mul, Nat.one_mul, nI_add, nI_leI, nI_ltI, nI_eq, nI_mul, rdB_0 (blk_isB), rdB_1 (blk_isB), rdB_2 (blk_isB), rdB_3 (blk_isB), rdB_4 (blk_isB), rdB_5 (blk_isB), rdB_6 (blk_isB), rdB_7 (blk_isB), wrB_0 blk_isB hb, wrB_1 blk_isB hb, gsB_0, gsB_1, gsB_2, gsB_3, gsB_4, gsB_5, gsB_6, gsB_7, gsB_8, gsB_9, gsB_10, gsB_11, gsB_12, gsB_13, gsB_14, gsB_15, gsB_16, gsB_17, gsB_18, gsB_19, gsB_20, gsB_21, gsB_22, gsB_23, gsB_24, blk_over, kk, Nat.le_refl]
    rfl
theorem s_oneRun {s : tyB} {c : Nat} (hB : isB H b 37 (cB b s)) (hc : gB_cl s = nI c) (hc12 : c ≤ 12) (he : e < 3) (hn : n ≤ 5) (hb : gR_bn (gB_ru s) = nI n) {k : Nat} (hk : k < 5) : ev 165 [.ref b, .int (nI e), .int (nI k)] H = some (some (.long (pAmt (gB_ru s) n k (pG (gB_wk s e) c))), H) := by
  simp (implicitDefEqProofs := false) (disch := omega) only [ze_165, zr_165_0, zr_165_1, zr_165_4, zr_165_5, zr_165_6, zr_165_9, zr_165_10, zr_165_11, zr_165_12, zr_165_15, zr_165_18, zr_165_21, true_or, or_true, true_and, and_true, if_true, if_false, ldA_ref, ldA_null, nl_int, nl_ref, nl_fl, nl_null, c1_int, c1_ref, c1_null, Nat.zero_add, Nat.zero_mul, Nat.one_mul, nI_add, nI_leI, nI_ltI, nI_eq, nI_mul, rdB_0 (hB), rdB_1 (hB), rdB_2 (hB), rdB_3 (hB), rdB_4 (hB), rdB_5 (hB), rdB_6 (hB), rdB_7 (hB), hc, rf_some, rdW_0 (B_W hB he), rdR_0 (B_R hB), s_grossBefore (B_W hB he) hc12, s_amountOn (B_R hB) hn hb hk, zcall_some, zpush_some, zpush_none, zsum_ref, zsum_int, zsum_long, zsum_nil, zsum_null, Nat.reduceAdd, Nat.reduceLeDiff, if_true]
  done
end
