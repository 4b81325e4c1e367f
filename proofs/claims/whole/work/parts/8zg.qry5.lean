/-! QUESTIONS about sums -/
section
variable {H : zH} {s : tyB} {q : Nat → Int64} {c n e g K m mo : Nat} {gs : Nat → Nat} {w : tyW} {LS : Nat → List Ln} {r : Rst} {h : zH} {l : List Ln}
theorem s_rskL {kk : Int32} (he : e < 3) (hmo : mo < 12) (hL : rLines r e mo l) : ∀ (j i : Nat) (v7 : Value), i + j = l.length → rn 277 6 [.ref m, .int (nI e), .int (nI mo), .int kk, .long (pSK l kk i), .float 0, .int (nI i), v7] [] (putM m r h) = some (some (.long (pSK l kk l.length)), putM m r h) := by
  intro j
  have hl54 := hL.2.1
  induction j with
  | zero =>
    intro i v7 hi
    rw [zl_277_6, show i = l.length by omega]
    simp (implicitDefEqProofs := false) (disch := omega) only [zr_277_8, zr_277_9, zr_277_10, zr_277_11, zr_277_14, zr_277_15, zr_277_16, zr_277_19, zr_277_20, zr_277_23, zr_277_24, zr_277_25, zr_277_27, zr_277_30, zr_277_32, zr_277_34, zr_277_35, zr_277_38, zr_277_40, zr_277_41, zr_277_42, zr_277_43, zr_277_44, zr_277_47, zr_277_48, zr_277_51, zr_277_53, zr_277_54, zr_277_55, zr_277_56, zr_277_59, zr_277_60, zr_277_61, zr_277_63, zr_277_66, zr_277_69, zr_277_71, true_or, or_true, true_and, and_true, if_true, if_false, ldA_ref, ldA_null, nl_int, nl_ref, nl_fl, nl_null, c1_int, c1_ref, c1_null, Nat.zero_add, Nat.zero_mul, Nat.one_mul, nI_add, nI_leI, nI_ltI, nI_eq, nI_mul, cmp_lt, cmp_gt, cmp_le, cmp_ge, cmp_eq, kd_M, s_of (show rX e (147 + mo) < 8271 by unfold rX; omega), hL.1, i64_lt, i64_le, Int32.le_refl, Nat.le_refl, zcall_some, zpush_some, zpush_none, zsum_ref, zsum_int, zsum_long, zsum_nil, zsum_null, Nat.reduceAdd, Nat.reduceLeDiff, if_true]
  | succ j ih =>
    intro i v7 hi
    have hil : i < l.length := by omega
    obtain ⟨k0, k1, k2, k3⟩ := rLines_lk hL hil
    have hn : ¬ l.length ≤ i := by omega
    have ih2 := ih (i + 1) (.int (nI (rLp e mo i))) (by omega)
    rw [pSK] at ih2
    rw [zl_277_6]
    by_cases h0 : (lk l i).1 = kk
    · rw [if_pos h0] at ih2
      simp (implicitDefEqProofs := false) (disch := omega) only [zr_277_8, zr_277_9, zr_277_10, zr_277_11, zr_277_14, zr_277_15, zr_277_16, zr_277_19, zr_277_20, zr_277_23, zr_277_24, zr_277_25, zr_277_27, zr_277_30, zr_277_32, zr_277_34, zr_277_35, zr_277_38, zr_277_40, zr_277_41, zr_277_42, zr_277_43, zr_277_44, zr_277_47, zr_277_48, zr_277_51, zr_277_53, zr_277_54, zr_277_55, zr_277_56, zr_277_59, zr_277_60, zr_277_61, zr_277_63, zr_277_66, zr_277_69, zr_277_71, true_or, or_true, true_and, and_true, if_true, if_false, ldA_ref, ldA_null, nl_int, nl_ref, nl_fl, nl_null, c1_int, c1_ref, c1_null, Nat.zero_add, Nat.zero_mul, Nat.one_mul, nI_add, nI_leI, nI_ltI, nI_eq, nI_mul, cmp_lt, cmp_gt, cmp_le, cmp_ge, cmp_eq, s_of (show rX e (147 + mo) < 8271 by unfold rX; omega), hL.1, i64_lt, i64_le, hn, kd_M, s_rlineAt, gf_M, lj_M1 (show rLp e mo i < 8271 by unfold rLp rX; omega), lj_M1 (show rLp e mo i + 3 < 8271 by unfold rLp rX; omega), k0, k3, i64_inj2, h0, zcall_some, zpush_some, zpush_none, zsum_ref, zsum_int, zsum_long, zsum_nil, zsum_null, Nat.reduceAdd, Nat.reduceLeDiff, if_true]
      exact ih2
    · rw [if_neg h0] at ih2
      simp (implicitDefEqProofs := false) (disch := omega) only [zr_277_8, zr_277_9, zr_277_10, zr_277_11, zr_277_14, zr_277_15, zr_277_16, zr_277_19, zr_277_20, zr_277_23, zr_277_24, zr_277_25, zr_277_27, zr_277_30, zr_277_32, zr_277_34, zr_277_35, zr_277_38, zr_277_40, zr_277_41, zr_277_42, zr_277_43, zr_277_44, zr_277_47, zr_277_48, zr_277_51, zr_277_53, zr_277_54, zr_277_55, zr_277_56, zr_277_59, zr_277_60, zr_277_61, zr_277_63, zr_277_66, zr_277_69, zr_277_71, true_or, or_true, true_and, and_true, if_true, if_false, ldA_ref, ldA_null, nl_int, nl_ref, nl_fl, nl_null, c1_int, c1_ref, c1_null, Nat.zero_add, Nat.zero_mul, Nat.one_mul, nI_add, nI_leI, nI_ltI, nI_eq, nI_mul, cmp_lt, cmp_gt, cmp_le, cmp_ge, cmp_eq, s_of (show rX e (147 + mo) < 8271 by unfold rX; omega), hL.1, i64_lt, i64_le, hn, kd_M, s_rlineAt, gf_M, lj_M1 (show rLp e mo i < 8271 by unfold rLp rX; omega), k0, i64_inj2, h0, Int64.add_zero, zcall_some, zpush_some, zpush_none, zsum_ref, zsum_int, zsum_long, zsum_nil, zsum_null, Nat.reduceAdd, Nat.reduceLeDiff, if_true]
      exact ih2
theorem s_rsk (kk : Int32) (he : e < 3) (hmo : mo < 12) (hL : rLines r e mo l) : ev 277 [.ref m, .int (nI e), .int (nI mo), .int kk] (putM m r h) = some (some (.long (pSK l kk l.length)), putM m r h) := by
  simp (implicitDefEqProofs := false) (disch := omega) only [ze_277, zr_277_0, zr_277_1, zr_277_3, zr_277_4, zr_277_8, zr_277_9, zr_277_10, zr_277_11, zr_277_14, zr_277_15, zr_277_16, zr_277_19, zr_277_20, zr_277_23, zr_277_24, zr_277_25, zr_277_27, zr_277_30, zr_277_32, zr_277_34, zr_277_35, zr_277_38, zr_277_40, zr_277_41, zr_277_42, zr_277_43, zr_277_44, zr_277_47, zr_277_48, zr_277_51, zr_277_53, zr_277_54, zr_277_55, zr_277_56, zr_277_59, zr_277_60, zr_277_61, zr_277_63, zr_277_66, zr_277_69, zr_277_71, true_or, or_true, true_and, and_true, if_true, if_false, ldA_ref, ldA_null, nl_int, nl_ref, nl_fl, nl_null, c1_int, c1_ref, c1_null]
  exact s_rskL he hmo hL l.length 0 _ (by omega)
theorem pSM_c (LS : Nat → List Ln) (c : Nat) (k : Int32) : ∀ j, c ≤ j → pSM LS c k j = pSM LS c k c
  | 0, h => by rw [show c = 0 by omega]
  | j + 1, h => by
    by_cases h1 : c = j + 1
    · rw [h1]
    · rw [pSM, if_neg (by omega)]
      exact pSM_c LS c k j (by omega)
def rTt (LS : Nat → List Ln) (c k j : Nat) : Int64 := if k < 8 then pSM LS c (nI k) j else pSM LS c (nI 4) j + pSM LS c (nI 6) j
def rTf (LS : Nat → List Ln) (c k : Nat) : Int64 := if 1 ≤ k ∧ k ≤ 5 then -rTt LS c k c else rTt LS c k c
theorem i64_4 (a b x y : Int64) : a + b + (x + y) = a + x + (b + y) := by
  rw [Int64.add_assoc, Int64.add_assoc, ← Int64.add_assoc b, Int64.add_comm b x, Int64.add_assoc]
theorem s_rtotL {k : Nat} (hk : k ≤ 8) (he : e < 3) (hc : c ≤ 12) (h0 : rS r 0 = (nI c).toInt64) (hL : ∀ mo, mo < c → rLines r e mo (LS mo)) : ∀ (j i : Nat), i + j = c → rn 276 5 [.ref m, .int (nI e), .int (nI k), .long (rTt LS c k i), .float 0, .int (nI i)] [] (putM m r h) = some (some (.long (rTf LS c k)), putM m r h) := by
  intro j
  induction j with
  | zero =>
    intro i hi
    rw [zl_276_5, show i = c by omega]
    by_cases k1 : 1 ≤ k ∧ k ≤ 5
    · rw [rTf, if_pos k1]
      simp (implicitDefEqProofs := false) (disch := omega) only [zr_276_7, zr_276_8, zr_276_11, zr_276_14, zr_276_15, zr_276_16, zr_276_18, zr_276_21, zr_276_22, zr_276_23, zr_276_25, zr_276_26, zr_276_29, zr_276_32, zr_276_33, zr_276_34, zr_276_36, zr_276_37, zr_276_40, zr_276_41, zr_276_42, zr_276_44, zr_276_46, zr_276_49, zr_276_50, zr_276_51, zr_276_52, zr_276_55, zr_276_58, zr_276_59, zr_276_60, zr_276_61, zr_276_64, zr_276_67, zr_276_68, zr_276_69, zr_276_72, zr_276_73, true_or, or_true, true_and, and_true, if_true, if_false, ldA_ref, ldA_null, nl_int, nl_ref, nl_fl, nl_null, c1_int, c1_ref, c1_null, Nat.zero_add, Nat.zero_mul, Nat.one_mul, nI_add, nI_leI, nI_ltI, nI_eq, nI_mul, kd_M, s_rcm h0, s_in, bI_0, Nat.le_refl, nn k1, zcall_some, zpush_some, zpush_none, zsum_ref, zsum_int, zsum_long, zsum_nil, zsum_null, Nat.reduceAdd, Nat.reduceLeDiff, if_true]
    · rw [rTf, if_neg k1]
      simp (implicitDefEqProofs := false) (disch := omega) only [zr_276_7, zr_276_8, zr_276_11, zr_276_14, zr_276_15, zr_276_16, zr_276_18, zr_276_21, zr_276_22, zr_276_23, zr_276_25, zr_276_26, zr_276_29, zr_276_32, zr_276_33, zr_276_34, zr_276_36, zr_276_37, zr_276_40, zr_276_41, zr_276_42, zr_276_44, zr_276_46, zr_276_49, zr_276_50, zr_276_51, zr_276_52, zr_276_55, zr_276_58, zr_276_59, zr_276_60, zr_276_61, zr_276_64, zr_276_67, zr_276_68, zr_276_69, zr_276_72, zr_276_73, true_or, or_true, true_and, and_true, if_true, if_false, ldA_ref, ldA_null, nl_int, nl_ref, nl_fl, nl_null, c1_int, c1_ref, c1_null, Nat.zero_add, Nat.zero_mul, Nat.one_mul, nI_add, nI_leI, nI_ltI, nI_eq, nI_mul, kd_M, s_rcm h0, s_in, bI_0, Nat.le_refl, not_false_eq_true, k1, zcall_some, zpush_some, zpush_none, zsum_ref, zsum_int, zsum_long, zsum_nil, zsum_null, Nat.reduceAdd, Nat.reduceLeDiff, if_true]
  | succ j ih =>
    intro i hi
    have ih2 := ih (i + 1) (by omega)
    have hLi := hL i (by omega)
    rw [zl_276_5]
    by_cases k8 : k < 8
    · have e1 : rTt LS c k (i + 1) = rTt LS c k i + pSK (LS i) (nI k) (LS i).length := by
        unfold rTt
        rw [if_pos k8, if_pos k8, pSM, if_pos (by omega)]
      rw [e1] at ih2
      simp (implicitDefEqProofs := false) (disch := omega) only [zr_276_7, zr_276_8, zr_276_11, zr_276_14, zr_276_15, zr_276_16, zr_276_18, zr_276_21, zr_276_22, zr_276_23, zr_276_25, zr_276_26, zr_276_29, zr_276_32, zr_276_33, zr_276_34, zr_276_36, zr_276_37, zr_276_40, zr_276_41, zr_276_42, zr_276_44, zr_276_46, zr_276_49, zr_276_50, zr_276_51, zr_276_52, zr_276_55, true_or, or_true, true_and, and_true, if_true, if_false, ldA_ref, ldA_null, nl_int, nl_ref, nl_fl, nl_null, c1_int, c1_ref, c1_null, Nat.zero_add, Nat.zero_mul, Nat.one_mul, nI_add, nI_leI, nI_ltI, nI_eq, nI_mul, kd_M, s_rcm h0, show ¬ c ≤ i from by omega, show ¬ 8 ≤ k from by omega, s_rsk _ he (show i < 12 by omega) hLi, zcall_some, zpush_some, zpush_none, zsum_ref, zsum_int, zsum_long, zsum_nil, zsum_null, Nat.reduceAdd, Nat.reduceLeDiff, if_true]
      exact ih2
    · have e1 : rTt LS c k (i + 1) = rTt LS c k i + (pSK (LS i) (nI 4) (LS i).length + pSK (LS i) (nI 6) (LS i).length) := by
        unfold rTt
        rw [if_neg k8, if_neg k8, pSM, if_pos (by omega), pSM, if_pos (by omega), i64_4]
      rw [e1] at ih2
      simp (implicitDefEqProofs := false) (disch := omega) only [zr_276_7, zr_276_8, zr_276_11, zr_276_14, zr_276_15, zr_276_16, zr_276_18, zr_276_21, zr_276_22, zr_276_23, zr_276_25, zr_276_26, zr_276_29, zr_276_32, zr_276_33, zr_276_34, zr_276_36, zr_276_37, zr_276_40, zr_276_41, zr_276_42, zr_276_44, zr_276_46, zr_276_49, zr_276_50, zr_276_51, zr_276_52, zr_276_55, true_or, or_true, true_and, and_true, if_true, if_false, ldA_ref, ldA_null, nl_int, nl_ref, nl_fl, nl_null, c1_int, c1_ref, c1_null, Nat.zero_add, Nat.zero_mul, Nat.one_mul, nI_add, nI_leI, nI_ltI, nI_eq, nI_mul, kd_M, s_rcm h0, show ¬ c ≤ i from by omega, show 8 ≤ k from by omega, s_rsk _ he (show i < 12 by omega) hLi, zcall_some, zpush_some, zpush_none, zsum_ref, zsum_int, zsum_long, zsum_nil, zsum_null, Nat.reduceAdd, Nat.reduceLeDiff, if_true]
      exact ih2
theorem rTf_eq {k : Nat} (hc : c ≤ 12) (hk : k ≤ 8) (h6 : k ≠ 6) : rTf LS c k = pTot LS c k := by
  unfold rTf rTt pTot
  rw [pSM_c LS c _ 12 hc, pSM_c LS c _ 12 hc, pSM_c LS c _ 12 hc]
  by_cases a : k = 0 ∨ k = 7
  · rw [if_pos a, if_neg (by omega), if_pos (by omega)]
  · rw [if_neg a]
    by_cases b : k = 8
    · rw [if_pos b, if_neg (by omega), if_neg (by omega)]
    · rw [if_neg b, if_pos (by omega), if_pos (by omega)]
theorem s_rtot {k : Nat} (hk : k ≤ 8) (h6 : k ≠ 6) (he : e < 3) (hc : c ≤ 12) (h0 : rS r 0 = (nI c).toInt64) (hL : ∀ mo, mo < c → rLines r e mo (LS mo)) : ev 276 [.ref m, .int (nI e), .int (nI k)] (putM m r h) = some (some (.long (pTot LS c k)), putM m r h) := by
  have e0 : rTt LS c k 0 = 0 := by
    unfold rTt
    split
    · rfl
    · rfl
  have h1 := s_rtotL (m := m) (h := h) hk he hc h0 hL c 0 (by omega)
  rw [e0] at h1
  simp (implicitDefEqProofs := false) (disch := omega) only [ze_276, zr_276_0, zr_276_1, zr_276_2, zr_276_3, zr_276_7, zr_276_8, zr_276_11, zr_276_14, zr_276_15, zr_276_16, zr_276_18, zr_276_21, zr_276_22, zr_276_23, zr_276_25, zr_276_26, zr_276_29, zr_276_32, zr_276_33, zr_276_34, zr_276_36, zr_276_37, zr_276_40, zr_276_41, zr_276_42, zr_276_44, zr_276_46, zr_276_49, zr_276_50, zr_276_51, zr_276_52, zr_276_55, zr_276_58, zr_276_59, zr_276_60, zr_276_61, zr_276_64, zr_276_67, zr_276_68, zr_276_69, zr_276_72, zr_276_73, true_or, or_true, true_and, and_true, if_true, if_false, ldA_ref, ldA_null, nl_int, nl_ref, nl_fl, nl_null, c1_int, c1_ref, c1_null]
  rw [← rTf_eq hc hk h6]
  exact h1
theorem okSl_pos {l : List Ln} (h : okSl l) : 0 < l.length := by
  obtain ⟨⟨l0, x, h1, -⟩, -⟩ := h
  rw [h1, List.length_append]; exact Nat.succ_pos _
theorem slp_of (h1 : slB H w c LS) (h2 : ∀ m, m < c → okSl (LS m)) : slp H w c LS := ⟨fun m _ hm => by
  obtain ⟨p, d, s1, s2, s3, -⟩ := h1.1 m hm
  exact ⟨p, d, s1, s2, s3, okSl_pos (h2 m hm)⟩, fun m h3 h4 => h1.2 m h3 h4⟩
theorem s_rpay (hmo : mo < 12) (he : e < 3) (hL : rLines r e mo l) (hl : 0 < l.length) : ev 266 [.ref m, .int (nI e), .int (nI mo)] (putM m r h) = some (some (.long (pPd l)), putM m r h) := by
  have hl54 := hL.2.1
  have hl4 := (rLines_lk hL (show l.length - 1 < l.length by omega)).2.2.2
  simp (implicitDefEqProofs := false) (disch := omega) only [ze_266, zr_266_0, zr_266_1, zr_266_4, zr_266_5, zr_266_6, zr_266_7, zr_266_8, zr_266_11, zr_266_12, zr_266_13, zr_266_16, zr_266_17, zr_266_18, zr_266_19, zr_266_22, zr_266_23, zr_266_24, zr_266_25, true_or, or_true, true_and, and_true, if_true, if_false, ldA_ref, ldA_null, nl_int, nl_ref, nl_fl, nl_null, c1_int, c1_ref, c1_null, Nat.zero_add, Nat.zero_mul, Nat.one_mul, nI_add, nI_leI, nI_ltI, nI_eq, nI_mul, kd_M, s_of (show rX e (147 + mo) < 8271 by unfold rX; omega), hL.1, i64_b, nI_sub1 hl, s_rlineAt, gf_M, lj_M1 (show rLp e mo (l.length - 1) + 3 < 8271 by unfold rLp rX; omega), hl4, zcall_some, zpush_some, zpush_none, zsum_ref, zsum_int, zsum_long, zsum_nil, zsum_null, Nat.reduceAdd, Nat.reduceLeDiff, if_true]
  rfl
theorem nI_m2 : ∀ b, b < 12 → ¬ nI b = (-2 : Int32) := by decide
theorem nI_ge0 : ∀ b, b < 12 → ¬ nI b < nI 0 := by decide
theorem pLow_inv (LS : Nat → List Ln) {c : Nat} (hc : c ≤ 12) : ∀ i, i ≤ c → (i = 0 ∧ pLow LS c i = (-2, 0)) ∨ (0 < i ∧ ∃ b, b < i ∧ pLow LS c i = (nI b, pPd (LS b)))
  | 0, _ => Or.inl ⟨rfl, rfl⟩
  | i + 1, hi => by
    refine Or.inr ⟨by omega, ?_⟩
    rw [pLow, if_pos (by omega)]
    rcases pLow_inv LS hc i (by omega) with ⟨h1, h2⟩ | ⟨h1, b, h2, h3⟩
    · rw [h2, if_pos (Or.inl rfl)]
      exact ⟨i, by omega, rfl⟩
    · rw [h3]
      dsimp only
      by_cases c1 : pPd (LS i) < pPd (LS b)
      · rw [if_pos (Or.inr c1)]; exact ⟨i, by omega, rfl⟩
      · rw [if_neg (fun x => x.elim (nI_m2 b (by omega)) c1)]; exact ⟨b, by omega, rfl⟩
theorem pLow_c (LS : Nat → List Ln) (c : Nat) : ∀ j, c ≤ j → pLow LS c j = pLow LS c c
  | 0, h => by rw [show c = 0 by omega]
  | j + 1, h => by
    by_cases h1 : c = j + 1
    · rw [h1]
    · rw [pLow, if_neg (by omega)]
      exact pLow_c LS c j (by omega)
theorem s_rlowL (he : e < 3) (hc : c ≤ 12) (h0 : rS r 0 = (nI c).toInt64) (hL : ∀ mo, mo < c → rLines r e mo (LS mo) ∧ 0 < (LS mo).length) : ∀ (j i : Nat), i + j = c → rn 281 14 [.ref m, .int (nI e), .int (pLow LS c i).1, .int (nI i)] [] (putM m r h) = some (some (.int (pLow LS c c).1), putM m r h) := by
  intro j
  induction j with
  | zero =>
    intro i hi
    rw [zl_281_14, show i = c by omega]
    simp (implicitDefEqProofs := false) (disch := omega) only [zr_281_15, zr_281_16, zr_281_19, zr_281_22, zr_281_23, zr_281_26, zr_281_27, zr_281_28, zr_281_29, zr_281_32, zr_281_33, zr_281_34, zr_281_35, zr_281_38, zr_281_39, zr_281_42, zr_281_43, zr_281_46, zr_281_47, zr_281_48, zr_281_51, zr_281_54, zr_281_55, true_or, or_true, true_and, and_true, if_true, if_false, ldA_ref, ldA_null, nl_int, nl_ref, nl_fl, nl_null, c1_int, c1_ref, c1_null, Nat.zero_add, Nat.zero_mul, Nat.one_mul, nI_add, nI_leI, nI_ltI, nI_eq, nI_mul, kd_M, s_rcm h0, Nat.le_refl, zcall_some, zpush_some, zpush_none, zsum_ref, zsum_int, zsum_long, zsum_nil, zsum_null, Nat.reduceAdd, Nat.reduceLeDiff, if_true]
  | succ j ih =>
    intro i hi
    have ih2 := ih (i + 1) (by omega)
    have hLi := hL i (by omega)
    rw [zl_281_14]
    rcases pLow_inv LS hc i (by omega) with ⟨h1, h2⟩ | ⟨h1, b, h2, h3⟩
    · have e1 : pLow LS c (i + 1) = (nI i, pPd (LS i)) := by rw [pLow, if_pos (by omega), h2, if_pos (Or.inl rfl)]
      rw [e1] at ih2
      rw [h2]
      simp (implicitDefEqProofs := false) (disch := omega) only [zr_281_15, zr_281_16, zr_281_19, zr_281_22, zr_281_23, zr_281_26, zr_281_27, zr_281_28, zr_281_29, zr_281_32, zr_281_33, zr_281_34, zr_281_35, zr_281_38, zr_281_39, zr_281_42, zr_281_43, zr_281_46, zr_281_47, zr_281_48, zr_281_51, zr_281_54, zr_281_55, true_or, or_true, true_and, and_true, if_true, if_false, ldA_ref, ldA_null, nl_int, nl_ref, nl_fl, nl_null, c1_int, c1_ref, c1_null, Nat.zero_add, Nat.zero_mul, Nat.one_mul, nI_add, nI_leI, nI_ltI, nI_eq, nI_mul, kd_M, s_rcm h0, show ¬ c ≤ i from by omega, lt2, show ¬ nI 0 ≤ (-2 : Int32) from by decide, zcall_some, zpush_some, zpush_none, zsum_ref, zsum_int, zsum_long, zsum_nil, zsum_null, Nat.reduceAdd, Nat.reduceLeDiff, if_true]
      exact ih2
    · have hLb := hL b (by omega)
      have z1 := nI_ge0 b (by omega)
      have z2 := nI_m2 b (by omega)
      by_cases c1 : pPd (LS i) < pPd (LS b)
      · have e1 : pLow LS c (i + 1) = (nI i, pPd (LS i)) := by rw [pLow, if_pos (by omega), h3, if_pos (Or.inr c1)]
        rw [e1] at ih2
        rw [h3]
        simp (implicitDefEqProofs := false) (disch := omega) only [zr_281_15, zr_281_16, zr_281_19, zr_281_22, zr_281_23, zr_281_26, zr_281_27, zr_281_28, zr_281_29, zr_281_32, zr_281_33, zr_281_34, zr_281_35, zr_281_38, zr_281_39, zr_281_42, zr_281_43, zr_281_46, zr_281_47, zr_281_48, zr_281_51, zr_281_54, zr_281_55, true_or, or_true, true_and, and_true, if_true, if_false, ldA_ref, ldA_null, nl_int, nl_ref, nl_fl, nl_null, c1_int, c1_ref, c1_null, Nat.zero_add, Nat.zero_mul, Nat.one_mul, nI_add, nI_leI, nI_ltI, nI_eq, nI_mul, cmp_lt, cmp_gt, cmp_le, cmp_ge, cmp_eq, kd_M, s_rcm h0, show ¬ c ≤ i from by omega, show ¬ b < 0 from by omega, s_rpay (show i < 12 by omega) he hLi.1 hLi.2, s_rpay (show b < 12 by omega) he hLb.1 hLb.2, Int64.not_le.mpr c1, zcall_some, zpush_some, zpush_none, zsum_ref, zsum_int, zsum_long, zsum_nil, zsum_null, Nat.reduceAdd, Nat.reduceLeDiff, if_true]
        exact ih2
      · have e1 : pLow LS c (i + 1) = (nI b, pPd (LS b)) := by rw [pLow, if_pos (by omega), h3, if_neg (fun x => x.elim z2 c1)]
        rw [e1] at ih2
        rw [h3]
        simp (implicitDefEqProofs := false) (disch := omega) only [zr_281_15, zr_281_16, zr_281_19, zr_281_22, zr_281_23, zr_281_26, zr_281_27, zr_281_28, zr_281_29, zr_281_32, zr_281_33, zr_281_34, zr_281_35, zr_281_38, zr_281_39, zr_281_42, zr_281_43, zr_281_46, zr_281_47, zr_281_48, zr_281_51, zr_281_54, zr_281_55, true_or, or_true, true_and, and_true, if_true, if_false, ldA_ref, ldA_null, nl_int, nl_ref, nl_fl, nl_null, c1_int, c1_ref, c1_null, Nat.zero_add, Nat.zero_mul, Nat.one_mul, nI_add, nI_leI, nI_ltI, nI_eq, nI_mul, cmp_lt, cmp_gt, cmp_le, cmp_ge, cmp_eq, kd_M, s_rcm h0, show ¬ c ≤ i from by omega, show ¬ b < 0 from by omega, s_rpay (show i < 12 by omega) he hLi.1 hLi.2, s_rpay (show b < 12 by omega) he hLb.1 hLb.2, Int64.not_lt.mp c1, zcall_some, zpush_some, zpush_none, zsum_ref, zsum_int, zsum_long, zsum_nil, zsum_null, Nat.reduceAdd, Nat.reduceLeDiff, if_true]
        exact ih2
end
theorem q_lowest (x : Int32) : qryI (fun h => ev 169 [.ref 100, .int x] h) (fun h => ev 281 [.ref 463, .int x] h) := by
  intro H s q K ⟨⟨sv, hx⟩, hB, c, n, gs, LS, hb, hs⟩
  dsimp only
  have hc := hb.1.1
  by_cases h0 : nI 0 ≤ x ∧ x ≤ nI 2
  · obtain ⟨e, he, rfl⟩ := in_nI (by omega) h0.1 h0.2
    have hE := good.rE hb (show e < 3 by omega)
    have hW := B_W hB (show e < 3 by omega)
    have hS := slp_of (hs e (by omega)) fun m hm => (hE.2.2.2.2.2.2.1 m hm).2
    refine ⟨(pLow (LS e) c c).1, ?_, fun r h hq => ?_⟩
    · rw [← pLow_c (LS e) c 12 hc]
      simp (implicitDefEqProofs := false) (disch := omega) only [ze_169, zr_169_0, zr_169_1, zr_169_4, zr_169_7, zr_169_8, zr_169_11, zr_169_14, zr_169_15, zr_169_16, zr_169_19, zr_169_22, zr_169_23, true_or, or_true, true_and, and_true, if_true, if_false, ldA_ref, ldA_null, nl_int, nl_ref, nl_fl, nl_null, c1_int, c1_ref, c1_null, Nat.zero_add, Nat.zero_mul, Nat.one_mul, nI_add, nI_leI, nI_ltI, nI_eq, nI_mul, s_isEmployee, bI_0, show ¬ ¬ (0 ≤ e ∧ e ≤ 2) from by omega, x_at hx, rdB_0 (hB), rdB_1 (hB), rdB_2 (hB), rdB_3 (hB), rdB_4 (hB), rdB_5 (hB), rdB_6 (hB), rdB_7 (hB), rdW_0 hW, rf_some, s_lowest hW hS, zcall_some, zpush_some, zpush_none, zsum_ref, zsum_int, zsum_long, zsum_nil, zsum_null, Nat.reduceAdd, Nat.reduceLeDiff, if_true]
    · simp (implicitDefEqProofs := false) (disch := omega) only [ze_281, zr_281_0, zr_281_1, zr_281_4, zr_281_7, zr_281_8, zr_281_9, zr_281_11, zr_281_12, zr_281_13, zr_281_15, zr_281_16, zr_281_19, zr_281_22, zr_281_23, zr_281_26, zr_281_27, zr_281_28, zr_281_29, zr_281_32, zr_281_33, zr_281_34, zr_281_35, zr_281_38, zr_281_39, zr_281_42, zr_281_43, zr_281_46, zr_281_47, zr_281_48, zr_281_51, zr_281_54, zr_281_55, true_or, or_true, true_and, and_true, if_true, if_false, ldA_ref, ldA_null, nl_int, nl_ref, nl_fl, nl_null, c1_int, c1_ref, c1_null, Nat.zero_add, Nat.zero_mul, Nat.one_mul, nI_add, nI_leI, nI_ltI, nI_eq, nI_mul, kd_M, s_isPerson, bI_0, bI_ok, show ¬ ¬ (0 ≤ e ∧ e ≤ 2) from by omega, zcall_some, zpush_some, zpush_none, zsum_ref, zsum_int, zsum_long, zsum_nil, zsum_null, Nat.reduceAdd, Nat.reduceLeDiff, if_true]
      exact s_rlowL (show e < 3 by omega) hc (by rw [hq]; exact hb.1.2.2.1) (fun mo hmo => ⟨by rw [rLines_q, hq]; exact (hE.2.2.2.2.2.2.1 mo hmo).1, okSl_pos (hE.2.2.2.2.2.2.1 mo hmo).2⟩) c 0 (by omega)
  · refine ⟨-1, ?_, fun r h hq => ?_⟩
    · simp (implicitDefEqProofs := false) (disch := omega) only [ze_169, zr_169_0, zr_169_1, zr_169_4, zr_169_7, zr_169_8, zr_169_11, zr_169_14, zr_169_15, zr_169_16, zr_169_19, zr_169_22, zr_169_23, true_or, or_true, true_and, and_true, if_true, if_false, ldA_ref, ldA_null, nl_int, nl_ref, nl_fl, nl_null, c1_int, c1_ref, c1_null, s_isEmployee, bI_0, bI_ok, not_false_eq_true, zcall_some, zpush_some, zpush_none, zsum_ref, zsum_int, zsum_long, zsum_nil, zsum_null, Nat.reduceAdd, Nat.reduceLeDiff, if_true, h0]
    · simp (implicitDefEqProofs := false) (disch := omega) only [ze_281, zr_281_0, zr_281_1, zr_281_4, zr_281_7, zr_281_8, zr_281_9, zr_281_11, zr_281_12, zr_281_13, zr_281_15, zr_281_16, zr_281_19, zr_281_22, zr_281_23, zr_281_26, zr_281_27, zr_281_28, zr_281_29, zr_281_32, zr_281_33, zr_281_34, zr_281_35, zr_281_38, zr_281_39, zr_281_42, zr_281_43, zr_281_46, zr_281_47, zr_281_48, zr_281_51, zr_281_54, zr_281_55, true_or, or_true, true_and, and_true, if_true, if_false, ldA_ref, ldA_null, nl_int, nl_ref, nl_fl, nl_null, c1_int, c1_ref, c1_null, kd_M, s_isPerson, bI_0, bI_ok, not_false_eq_true, zcall_some, zpush_some, zpush_none, zsum_ref, zsum_int, zsum_long, zsum_nil, zsum_null, Nat.reduceAdd, Nat.reduceLeDiff, if_true, h0]
theorem q_total (x z : Int32) : qryJ (fun h => ev 163 [.ref 100, .int x, .int z] h) (fun h => ev 275 [.ref 463, .int x, .int z] h) := by
  intro H s q K ⟨⟨sv, hx⟩, hB, c, n, gs, LS, hb, hs⟩
  dsimp only
  have hc := hb.1.1
  by_cases h0 : nI 0 ≤ x ∧ x ≤ nI 2
  · obtain ⟨e, he, rfl⟩ := in_nI (by omega) h0.1 h0.2
    have hE := good.rE hb (show e < 3 by omega)
    have hW := B_W hB (show e < 3 by omega)
    have hS := slp_of (hs e (by omega)) fun m hm => (hE.2.2.2.2.2.2.1 m hm).2
    by_cases h1 : (nI 0 ≤ z ∧ z ≤ nI 8) ∧ ¬ z = nI 4 ∧ ¬ z = nI 6
    · obtain ⟨k, hk, rfl⟩ := in_nI (by omega) h1.1.1 h1.1.2
      have k4 : ¬ k = 4 := fun h => h1.2.1 (by rw [h])
      have k6 : ¬ k = 6 := fun h => h1.2.2 (by rw [h])
      refine ⟨pTot (LS e) c k, ?_, fun r h hq => ?_⟩
      · have hT := s_totalOf hW hS (show k < 9 by omega)
        rcases (show k ≤ 3 ∨ k = 5 ∨ k = 7 ∨ k = 8 by omega) with h3 | rfl | rfl | rfl
        · simp (implicitDefEqProofs := false) (disch := omega) only [ze_163, zr_163_0, zr_163_1, zr_163_2, zr_163_3, zr_163_6, zr_163_9, zr_163_10, zr_163_11, zr_163_14, zr_163_15, zr_163_17, zr_163_20, zr_163_21, zr_163_23, zr_163_26, zr_163_27, zr_163_30, zr_163_31, zr_163_32, zr_163_33, zr_163_36, zr_163_39, zr_163_40, zr_163_43, zr_163_46, zr_163_47, zr_163_48, zr_163_51, zr_163_54, zr_163_55, zr_163_56, zr_163_57, zr_163_60, true_or, or_true, true_and, and_true, if_true, if_false, ldA_ref, ldA_null, nl_int, nl_ref, nl_fl, nl_null, c1_int, c1_ref, c1_null, Nat.zero_add, Nat.zero_mul, Nat.one_mul, nI_add, nI_leI, nI_ltI, nI_eq, nI_mul, s_isEmployee, s_within, bI_0, show ¬ ¬ (0 ≤ k ∧ k ≤ 3) from by omega, show ¬ ¬ (0 ≤ e ∧ e ≤ 2) from by omega, x_at hx, rdB_0 (hB), rdB_1 (hB), rdB_2 (hB), rdB_3 (hB), rdB_4 (hB), rdB_5 (hB), rdB_6 (hB), rdB_7 (hB), rdW_0 hW, rf_some, hT, Nat.reduceEqDiff, not_false_eq_true, zcall_some, zpush_some, zpush_none, zsum_ref, zsum_int, zsum_long, zsum_nil, zsum_null, Nat.reduceAdd, Nat.reduceLeDiff, if_true]
        · simp (implicitDefEqProofs := false) (disch := omega) only [ze_163, zr_163_0, zr_163_1, zr_163_2, zr_163_3, zr_163_6, zr_163_9, zr_163_10, zr_163_11, zr_163_14, zr_163_15, zr_163_17, zr_163_20, zr_163_21, zr_163_23, zr_163_26, zr_163_27, zr_163_30, zr_163_31, zr_163_32, zr_163_33, zr_163_36, zr_163_39, zr_163_40, zr_163_43, zr_163_46, zr_163_47, zr_163_48, zr_163_51, zr_163_54, zr_163_55, zr_163_56, zr_163_57, zr_163_60, true_or, or_true, true_and, and_true, if_true, if_false, ldA_ref, ldA_null, nl_int, nl_ref, nl_fl, nl_null, c1_int, c1_ref, c1_null, Nat.zero_add, Nat.zero_mul, Nat.one_mul, nI_add, nI_leI, nI_ltI, nI_eq, nI_mul, s_isEmployee, s_within, bI_0, and_false, show ¬ ¬ (0 ≤ e ∧ e ≤ 2) from by omega, x_at hx, rdB_0 (hB), rdB_1 (hB), rdB_2 (hB), rdB_3 (hB), rdB_4 (hB), rdB_5 (hB), rdB_6 (hB), rdB_7 (hB), rdW_0 hW, rf_some, hT, Nat.reduceEqDiff, not_false_eq_true, zcall_some, zpush_some, zpush_none, zsum_ref, zsum_int, zsum_long, zsum_nil, zsum_null, Nat.reduceAdd, Nat.reduceLeDiff, if_true]
        · simp (implicitDefEqProofs := false) (disch := omega) only [ze_163, zr_163_0, zr_163_1, zr_163_2, zr_163_3, zr_163_6, zr_163_9, zr_163_10, zr_163_11, zr_163_14, zr_163_15, zr_163_17, zr_163_20, zr_163_21, zr_163_23, zr_163_26, zr_163_27, zr_163_30, zr_163_31, zr_163_32, zr_163_33, zr_163_36, zr_163_39, zr_163_40, zr_163_43, zr_163_46, zr_163_47, zr_163_48, zr_163_51, zr_163_54, zr_163_55, zr_163_56, zr_163_57, zr_163_60, true_or, or_true, true_and, and_true, if_true, if_false, ldA_ref, ldA_null, nl_int, nl_ref, nl_fl, nl_null, c1_int, c1_ref, c1_null, Nat.zero_add, Nat.zero_mul, Nat.one_mul, nI_add, nI_leI, nI_ltI, nI_eq, nI_mul, s_isEmployee, s_within, bI_0, and_false, show ¬ ¬ (0 ≤ e ∧ e ≤ 2) from by omega, x_at hx, rdB_0 (hB), rdB_1 (hB), rdB_2 (hB), rdB_3 (hB), rdB_4 (hB), rdB_5 (hB), rdB_6 (hB), rdB_7 (hB), rdW_0 hW, rf_some, hT, Nat.reduceEqDiff, not_false_eq_true, zcall_some, zpush_some, zpush_none, zsum_ref, zsum_int, zsum_long, zsum_nil, zsum_null, Nat.reduceAdd, Nat.reduceLeDiff, if_true]
        · simp (implicitDefEqProofs := false) (disch := omega) only [ze_163, zr_163_0, zr_163_1, zr_163_2, zr_163_3, zr_163_6, zr_163_9, zr_163_10, zr_163_11, zr_163_14, zr_163_15, zr_163_17, zr_163_20, zr_163_21, zr_163_23, zr_163_26, zr_163_27, zr_163_30, zr_163_31, zr_163_32, zr_163_33, zr_163_36, zr_163_39, zr_163_40, zr_163_43, zr_163_46, zr_163_47, zr_163_48, zr_163_51, zr_163_54, zr_163_55, zr_163_56, zr_163_57, zr_163_60, true_or, or_true, true_and, and_true, if_true, if_false, ldA_ref, ldA_null, nl_int, nl_ref, nl_fl, nl_null, c1_int, c1_ref, c1_null, Nat.zero_add, Nat.zero_mul, Nat.one_mul, nI_add, nI_leI, nI_ltI, nI_eq, nI_mul, s_isEmployee, s_within, bI_0, and_false, show ¬ ¬ (0 ≤ e ∧ e ≤ 2) from by omega, x_at hx, rdB_0 (hB), rdB_1 (hB), rdB_2 (hB), rdB_3 (hB), rdB_4 (hB), rdB_5 (hB), rdB_6 (hB), rdB_7 (hB), rdW_0 hW, rf_some, hT, Nat.reduceEqDiff, not_false_eq_true, zcall_some, zpush_some, zpush_none, zsum_ref, zsum_int, zsum_long, zsum_nil, zsum_null, Nat.reduceAdd, Nat.reduceLeDiff, if_true]
      · have hT := s_rtot (m := 463) (h := h) hk k6 (show e < 3 by omega) hc (show rS r 0 = (nI c).toInt64 by rw [hq]; exact hb.1.2.2.1) (LS := LS e) (fun mo hmo => by rw [rLines_q, hq]; exact (hE.2.2.2.2.2.2.1 mo hmo).1)
        simp (implicitDefEqProofs := false) (disch := omega) only [ze_275, zr_275_0, zr_275_1, zr_275_4, zr_275_7, zr_275_8, zr_275_9, zr_275_11, zr_275_14, zr_275_17, zr_275_18, zr_275_19, zr_275_22, zr_275_23, zr_275_25, zr_275_28, zr_275_29, zr_275_30, zr_275_31, zr_275_34, zr_275_37, zr_275_40, true_or, or_true, true_and, and_true, if_true, if_false, ldA_ref, ldA_null, nl_int, nl_ref, nl_fl, nl_null, c1_int, c1_ref, c1_null, Nat.zero_add, Nat.zero_mul, Nat.one_mul, nI_add, nI_leI, nI_ltI, nI_eq, nI_mul, kd_M, s_isPerson, s_in, bI_0, bI_ok, show ¬ ¬ (0 ≤ e ∧ e ≤ 2) from by omega, show ¬ ¬ (0 ≤ k ∧ k ≤ 8) from by omega, k4, k6, hT, zcall_some, zpush_some, zpush_none, zsum_ref, zsum_int, zsum_long, zsum_nil, zsum_null, Nat.reduceAdd, Nat.reduceLeDiff, if_true]
    · refine ⟨-1, ?_, fun r h hq => ?_⟩
      · have z3 : ¬ (nI 0 ≤ z ∧ z ≤ nI 3) := fun h => by
          obtain ⟨k, hk, rfl⟩ := in_nI (by omega) h.1 h.2
          exact h1 ⟨⟨h.1, by rw [nI_leI (by omega) (by omega)]; omega⟩, by rw [nI_inj (by omega) (by omega)]; omega, by rw [nI_inj (by omega) (by omega)]; omega⟩
        have z5 : ¬ z = nI 5 := fun h => h1 (by rw [h]; decide)
        have z7 : ¬ z = nI 7 := fun h => h1 (by rw [h]; decide)
        have z8 : ¬ z = nI 8 := fun h => h1 (by rw [h]; decide)
        simp (implicitDefEqProofs := false) (disch := omega) only [ze_163, zr_163_0, zr_163_1, zr_163_2, zr_163_3, zr_163_6, zr_163_9, zr_163_10, zr_163_11, zr_163_14, zr_163_15, zr_163_17, zr_163_20, zr_163_21, zr_163_23, zr_163_26, zr_163_27, zr_163_30, zr_163_31, zr_163_32, zr_163_33, zr_163_36, zr_163_39, zr_163_40, zr_163_43, zr_163_46, zr_163_47, zr_163_48, zr_163_51, zr_163_54, zr_163_55, zr_163_56, zr_163_57, zr_163_60, true_or, or_true, true_and, and_true, if_true, if_false, ldA_ref, ldA_null, nl_int, nl_ref, nl_fl, nl_null, c1_int, c1_ref, c1_null, s_isEmployee, s_within, bI_0, z5, z7, z8, z3, not_false_eq_true, nn h0, zcall_some, zpush_some, zpush_none, zsum_ref, zsum_int, zsum_long, zsum_nil, zsum_null, Nat.reduceAdd, Nat.reduceLeDiff, if_true]
      · by_cases h2 : nI 0 ≤ z ∧ z ≤ nI 8
        · by_cases h3 : z = nI 4
          · subst h3
            simp (implicitDefEqProofs := false) (disch := omega) only [ze_275, zr_275_0, zr_275_1, zr_275_4, zr_275_7, zr_275_8, zr_275_9, zr_275_11, zr_275_14, zr_275_17, zr_275_18, zr_275_19, zr_275_22, zr_275_23, zr_275_25, zr_275_28, zr_275_29, zr_275_30, zr_275_31, zr_275_34, zr_275_37, zr_275_40, true_or, or_true, true_and, and_true, if_true, if_false, ldA_ref, ldA_null, nl_int, nl_ref, nl_fl, nl_null, c1_int, c1_ref, c1_null, Nat.zero_add, Nat.zero_mul, Nat.one_mul, nI_add, nI_leI, nI_ltI, nI_eq, nI_mul, kd_M, s_isPerson, s_in, bI_0, bI_ok, show ¬ ¬ (0 ≤ e ∧ e ≤ 2) from by omega, not_true_eq_false, not_false_eq_true, zcall_some, zpush_some, zpush_none, zsum_ref, zsum_int, zsum_long, zsum_nil, zsum_null, Nat.reduceAdd, Nat.reduceLeDiff, if_true]
          · have h6 : z = nI 6 := Classical.byContradiction fun h => h1 ⟨h2, h3, h⟩
            subst h6
            simp (implicitDefEqProofs := false) (disch := omega) only [ze_275, zr_275_0, zr_275_1, zr_275_4, zr_275_7, zr_275_8, zr_275_9, zr_275_11, zr_275_14, zr_275_17, zr_275_18, zr_275_19, zr_275_22, zr_275_23, zr_275_25, zr_275_28, zr_275_29, zr_275_30, zr_275_31, zr_275_34, zr_275_37, zr_275_40, true_or, or_true, true_and, and_true, if_true, if_false, ldA_ref, ldA_null, nl_int, nl_ref, nl_fl, nl_null, c1_int, c1_ref, c1_null, Nat.zero_add, Nat.zero_mul, Nat.one_mul, nI_add, nI_leI, nI_ltI, nI_eq, nI_mul, kd_M, s_isPerson, s_in, bI_0, bI_ok, show ¬ ¬ (0 ≤ e ∧ e ≤ 2) from by omega, not_true_eq_false, not_false_eq_true, Nat.reduceEqDiff, zcall_some, zpush_some, zpush_none, zsum_ref, zsum_int, zsum_long, zsum_nil, zsum_null, Nat.reduceAdd, Nat.reduceLeDiff, if_true]
        · simp (implicitDefEqProofs := false) (disch := omega) only [ze_275, zr_275_0, zr_275_1, zr_275_4, zr_275_7, zr_275_8, zr_275_9, zr_275_11, zr_275_14, zr_275_17, zr_275_18, zr_275_19, zr_275_22, zr_275_23, zr_275_25, zr_275_28, zr_275_29, zr_275_30, zr_275_31, zr_275_34, zr_275_37, zr_275_40, true_or, or_true, true_and, and_true, if_true, if_false, ldA_ref, ldA_null, nl_int, nl_ref, nl_fl, nl_null, c1_int, c1_ref, c1_null, kd_M, s_isPerson, s_in, bI_0, bI_ok, not_false_eq_true, nn h0, h2, zcall_some, zpush_some, zpush_none, zsum_ref, zsum_int, zsum_long, zsum_nil, zsum_null, Nat.reduceAdd, Nat.reduceLeDiff, if_true]
  · refine ⟨-1, ?_, fun r h hq => ?_⟩
    · simp (implicitDefEqProofs := false) (disch := omega) only [ze_163, zr_163_0, zr_163_1, zr_163_2, zr_163_3, zr_163_6, zr_163_9, zr_163_10, zr_163_11, zr_163_14, zr_163_15, zr_163_17, zr_163_20, zr_163_21, zr_163_23, zr_163_26, zr_163_27, zr_163_30, zr_163_31, zr_163_32, zr_163_33, zr_163_36, zr_163_39, zr_163_40, zr_163_43, zr_163_46, zr_163_47, zr_163_48, zr_163_51, zr_163_54, zr_163_55, zr_163_56, zr_163_57, zr_163_60, true_or, or_true, true_and, and_true, if_true, if_false, ldA_ref, ldA_null, nl_int, nl_ref, nl_fl, nl_null, c1_int, c1_ref, c1_null, s_isEmployee, s_within, bI_0, bI_ok, not_false_eq_true, ite_self, zcall_some, zpush_some, zpush_none, zsum_ref, zsum_int, zsum_long, zsum_nil, zsum_null, Nat.reduceAdd, Nat.reduceLeDiff, if_true, h0]
    · simp (implicitDefEqProofs := false) (disch := omega) only [ze_275, zr_275_0, zr_275_1, zr_275_4, zr_275_7, zr_275_8, zr_275_9, zr_275_11, zr_275_14, zr_275_17, zr_275_18, zr_275_19, zr_275_22, zr_275_23, zr_275_25, zr_275_28, zr_275_29, zr_275_30, zr_275_31, zr_275_34, zr_275_37, zr_275_40, true_or, or_true, true_and, and_true, if_true, if_false, ldA_ref, ldA_null, nl_int, nl_ref, nl_fl, nl_null, c1_int, c1_ref, c1_null, kd_M, s_isPerson, bI_0, bI_ok, not_false_eq_true, zcall_some, zpush_some, zpush_none, zsum_ref, zsum_int, zsum_long, zsum_nil, zsum_null, Nat.reduceAdd, Nat.reduceLeDiff, if_true, h0]
theorem oneR_eq {s : tyR} {w : tyW} {r : Rst} {n e c k : Nat} (hr : RelR s (rS r) n) (ok : enOK w) (h : enEq w (rS r) e) (hc : c ≤ 12) : rAmt r n k (rG r e c) = pAmt s n k (pG w c) := by
  have b := GW_bd ok c hc
  rw [rG_J ok h c hc, pG_J ok c hc, rAmt_J hr (by omega), pAmt_J hr (by omega)]
theorem q_oneRun (x z : Int32) : qryJ (fun h => ev 164 [.ref 100, .int x, .int z] h) (fun h => ev 278 [.ref 463, .int x, .int z] h) := by
  intro H s q K ⟨⟨sv, hx⟩, hB, c, n, gs, LS, hb, hs⟩
  dsimp only
  have hc := hb.1.1
  obtain ⟨hn, hbn, h7, -⟩ := hb.2.1
  by_cases h0 : nI 0 ≤ x ∧ x ≤ nI 2
  · obtain ⟨e, he, rfl⟩ := in_nI (by omega) h0.1 h0.2
    have hE := good.rE hb (show e < 3 by omega)
    by_cases h1 : nI 0 ≤ z ∧ z ≤ nI 4
    · obtain ⟨k, hk, rfl⟩ := in_nI (by omega) h1.1 h1.2
      refine ⟨pAmt (gB_ru s) n k (pG (gB_wk s e) c), ?_, fun r h hq => ?_⟩
      · simp (implicitDefEqProofs := false) (disch := omega) only [ze_164, zr_164_0, zr_164_1, zr_164_4, zr_164_7, zr_164_8, zr_164_9, zr_164_10, zr_164_13, zr_164_16, zr_164_19, zr_164_20, zr_164_21, zr_164_24, zr_164_25, zr_164_26, zr_164_29, true_or, or_true, true_and, and_true, if_true, if_false, ldA_ref, ldA_null, nl_int, nl_ref, nl_fl, nl_null, c1_int, c1_ref, c1_null, Nat.zero_add, Nat.zero_mul, Nat.one_mul, nI_add, nI_leI, nI_ltI, nI_eq, nI_mul, s_isEmployee, s_within, bI_0, show ¬ ¬ (0 ≤ e ∧ e ≤ 2) from by omega, show ¬ ¬ (0 ≤ k ∧ k ≤ 4) from by omega, x_at hx, rdB_0 hB, s_oneRun hB hb.1.2.1 hc (show e < 3 by omega) hn hbn (show k < 5 by omega), zcall_some, zpush_some, zpush_none, zsum_ref, zsum_int, zsum_long, zsum_nil, zsum_null, Nat.reduceAdd, Nat.reduceLeDiff, if_true]
      · simp (implicitDefEqProofs := false) (disch := omega) only [ze_278, zr_278_0, zr_278_1, zr_278_4, zr_278_7, zr_278_8, zr_278_9, zr_278_10, zr_278_13, zr_278_16, zr_278_17, zr_278_18, zr_278_19, zr_278_20, zr_278_23, zr_278_26, zr_278_27, zr_278_30, zr_278_33, zr_278_36, true_or, or_true, true_and, and_true, if_true, if_false, ldA_ref, ldA_null, nl_int, nl_ref, nl_fl, nl_null, c1_int, c1_ref, c1_null, Nat.zero_add, Nat.zero_mul, Nat.one_mul, nI_add, nI_leI, nI_ltI, nI_eq, nI_mul, kd_M, s_isPerson, s_in, bI_0, bI_ok, show ¬ ¬ (0 ≤ e ∧ e ≤ 2) from by omega, show ¬ ¬ (0 ≤ k ∧ k ≤ 4) from by omega, s_rcm (show rS r 0 = (nI c).toInt64 by rw [hq]; exact hb.1.2.2.1), s_rsum (show e < 3 by omega) hc, s_ramt hn (show rS r 7 = (nI n).toInt64 by rw [hq]; exact h7) (show k < 5 by omega), zcall_some, zpush_some, zpush_none, zsum_ref, zsum_int, zsum_long, zsum_nil, zsum_null, Nat.reduceAdd, Nat.reduceLeDiff, if_true]
        rw [oneR_eq (s := gB_ru s) (w := gB_wk s e) (by rw [hq]; exact hb.2.1) hE.2.1 (by rw [hq]; exact hE.1) hc]
    · refine ⟨-1, ?_, fun r h hq => ?_⟩
      · simp (implicitDefEqProofs := false) (disch := omega) only [ze_164, zr_164_0, zr_164_1, zr_164_4, zr_164_7, zr_164_8, zr_164_9, zr_164_10, zr_164_13, zr_164_16, zr_164_19, zr_164_20, zr_164_21, zr_164_24, zr_164_25, zr_164_26, zr_164_29, true_or, or_true, true_and, and_true, if_true, if_false, ldA_ref, ldA_null, nl_int, nl_ref, nl_fl, nl_null, c1_int, c1_ref, c1_null, s_isEmployee, s_within, bI_0, not_false_eq_true, nn h0, h1, zcall_some, zpush_some, zpush_none, zsum_ref, zsum_int, zsum_long, zsum_nil, zsum_null, Nat.reduceAdd, Nat.reduceLeDiff, if_true]
      · simp (implicitDefEqProofs := false) (disch := omega) only [ze_278, zr_278_0, zr_278_1, zr_278_4, zr_278_7, zr_278_8, zr_278_9, zr_278_10, zr_278_13, zr_278_16, zr_278_17, zr_278_18, zr_278_19, zr_278_20, zr_278_23, zr_278_26, zr_278_27, zr_278_30, zr_278_33, zr_278_36, true_or, or_true, true_and, and_true, if_true, if_false, ldA_ref, ldA_null, nl_int, nl_ref, nl_fl, nl_null, c1_int, c1_ref, c1_null, kd_M, s_isPerson, s_in, bI_0, bI_ok, not_false_eq_true, nn h0, h1, zcall_some, zpush_some, zpush_none, zsum_ref, zsum_int, zsum_long, zsum_nil, zsum_null, Nat.reduceAdd, Nat.reduceLeDiff, if_true]
  · refine ⟨-1, ?_, fun r h hq => ?_⟩
    · simp (implicitDefEqProofs := false) (disch := omega) only [ze_164, zr_164_0, zr_164_1, zr_164_4, zr_164_7, zr_164_8, zr_164_9, zr_164_10, zr_164_13, zr_164_16, zr_164_19, zr_164_20, zr_164_21, zr_164_24, zr_164_25, zr_164_26, zr_164_29, true_or, or_true, true_and, and_true, if_true, if_false, ldA_ref, ldA_null, nl_int, nl_ref, nl_fl, nl_null, c1_int, c1_ref, c1_null, s_isEmployee, s_within, bI_0, bI_ok, not_false_eq_true, zcall_some, zpush_some, zpush_none, zsum_ref, zsum_int, zsum_long, zsum_nil, zsum_null, Nat.reduceAdd, Nat.reduceLeDiff, if_true, h0]
    · simp (implicitDefEqProofs := false) (disch := omega) only [ze_278, zr_278_0, zr_278_1, zr_278_4, zr_278_7, zr_278_8, zr_278_9, zr_278_10, zr_278_13, zr_278_16, zr_278_17, zr_278_18, zr_278_19, zr_278_20, zr_278_23, zr_278_26, zr_278_27, zr_278_30, zr_278_33, zr_278_36, true_or, or_true, true_and, and_true, if_true, if_false, ldA_ref, ldA_null, nl_int, nl_ref, nl_fl, nl_null, c1_int, c1_ref, c1_null, kd_M, s_isPerson, bI_0, bI_ok, not_false_eq_true, zcall_some, zpush_some, zpush_none, zsum_ref, zsum_int, zsum_long, zsum_nil, zsum_null, Nat.reduceAdd, Nat.reduceLeDiff, if_true, h0]
