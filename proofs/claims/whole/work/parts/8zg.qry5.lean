/-! QUESTIONS about sums -/
section
variable {H : zH} {s : tyB} {q : Nat → Int64} {c n e g K m mo : Nat} {gs : Nat → Nat} {w : tyW} {LS : Nat → List Ln} {r : Rst} {h : zH} {l : List Ln}
theorem s_rskL {kk : Int32} (he : e < 3) (hmo : mo < 12) (hL : rLines r e mo l) : ∀ (j i : Nat) (v7 : Value), i + j = l.length → rn 283 6 [.ref m, .int (nI e), .int (nI mo), .int kk, .long (pSK l kk i), .float 0, .int (nI i), v7] [] (putM m r h) = some (some (.long (pSK l kk l.length)), putM m r h) := by
  intro j
  have hl54 := hL.2.1
  induction j with
  | zero =>
    intro i v7 hi
    rw [zl_283_6, show i = l.length by omega]
    simp (implicitDefEqProofs := false) (disch := omega) only [zr_283_8, zr_283_9, zr_283_10, zr_283_11, zr_283_14, zr_283_15, zr_283_16, zr_283_19, zr_283_20, zr_283_23, zr_283_24, zr_283_25, zr_283_27, zr_283_30, zr_283_32, zr_283_34, zr_283_35, zr_283_38, zr_283_40, zr_283_41, zr_283_42, zr_283_43, zr_283_44, zr_283_47, zr_283_48, zr_283_51, zr_283_53, zr_283_54, zr_283_55, zr_283_56, zr_283_59, zr_283_60, zr_283_61, zr_283_63, zr_283_66, zr_283_69, zr_283_71, true_or, or_true, true_and, and_true, if_true, if_false, ldA_ref, ldA_null, nl_int, nl_ref, nl_fl, nl_null, c1_int, c1_ref, c1_null, Nat.zero_add, Nat.zero_mul, Nat.one_mul, nI_add, nI_leI, nI_ltI, nI_eq, nI_mul, cmp_lt, cmp_gt, cmp_le, cmp_ge, cmp_eq, kd_M, s_of (show rX e (147 + mo) < 8271 by unfold rX; omega), hL.1, i64_lt, i64_le, Int32.le_refl, Nat.le_refl, zcall_some, zpush_some, zpush_none, zsum_ref, zsum_int, zsum_long, zsum_nil, zsum_null, Nat.reduceAdd, Nat.reduceLeDiff, if_true]
  | succ j ih =>
    intro i v7 hi
    have hil : i < l.length := by omega
    obtain ⟨k0, k1, k2, k3⟩ := rLines_lk hL hil
    have hn : ¬ l.length ≤ i := by omega
    have ih2 := ih (i + 1) (.int (nI (rLp e mo i))) (by omega)
    rw [pSK] at ih2
    rw [zl_283_6]
    by_cases h0 : (lk l i).1 = kk
    · rw [if_pos h0] at ih2
      simp (implicitDefEqProofs := false) (disch := omega) only [zr_283_8, zr_283_9, zr_283_10, zr_283_11, zr_283_14, zr_283_15, zr_283_16, zr_283_19, zr_283_20, zr_283_23, zr_283_24, zr_283_25, zr_283_27, zr_283_30, zr_283_32, zr_283_34, zr_283_35, zr_283_38, zr_283_40, zr_283_41, zr_283_42, zr_283_43, zr_283_44, zr_283_47, zr_283_48, zr_283_51, zr_283_53, zr_283_54, zr_283_55, zr_283_56, zr_283_59, zr_283_60, zr_283_61, zr_283_63, zr_283_66, zr_283_69, zr_283_71, true_or, or_true, true_and, and_true, if_true, if_false, ldA_ref, ldA_null, nl_int, nl_ref, nl_fl, nl_null, c1_int, c1_ref, c1_null, Nat.zero_add, Nat.zero_mul, Nat.one_mul, nI_add, nI_leI, nI_ltI, nI_eq, nI_mul, cmp_lt, cmp_gt, cmp_le, cmp_ge, cmp_eq, s_of (show rX e (147 + mo) < 8271 by unfold rX; omega), hL.1, i64_lt, i64_le, hn, kd_M, s_rlineAt, gf_M, lj_M1 (show rLp e mo i < 8271 by unfold rLp rX; omega), lj_M1 (show rLp e mo i + 3 < 8271 by unfold rLp rX; omega), k0, k3, i64_inj2, h0, zcall_some, zpush_some, zpush_none, zsum_ref, zsum_int, zsum_long, zsum_nil, zsum_null, Nat.reduceAdd, Nat.reduceLeDiff, if_true]
      exact ih2
    · rw [if_neg h0] at ih2
      simp (implicitDefEqProofs := false) (disch := omega) only [zr_283_8, zr_283_9, zr_283_10, zr_283_11, zr_283_14, zr_283_15, zr_283_16, zr_283_19, zr_283_20, zr_283_23, zr_283_24, zr_283_25, zr_283_27, zr_283_30, zr_283_32, zr_283_34, zr_283_35, zr_283_38, zr_283_40, zr_283_41, zr_283_42, zr_283_43, zr_283_44, zr_283_47, zr_283_48, zr_283_51, zr_283_53, zr_283_54, zr_283_55, zr_283_56, zr_283_59, zr_283_60, zr_283_61, zr_283_63, zr_283_66, zr_283_69, zr_283_71, true_or, or_true, true_and, and_true, if_true, if_false, ldA_ref, ldA_null, nl_int, nl_ref, nl_fl, nl_null, c1_int, c1_ref, c1_null, Nat.zero_add, Nat.zero_mul, Nat.one_mul, nI_add, nI_leI, nI_ltI, nI_eq, nI_mul, cmp_lt, cmp_gt, cmp_le, cmp_ge, cmp_eq, s_of (show rX e (147 + mo) < 8271 by unfold rX; omega), hL.1, i64_lt, i64_le, hn, kd_M, s_rlineAt, gf_M, lj_M1 (show rLp e mo i < 8271 by unfold rLp rX; omega), k0, i64_inj2, h0, Int64.add_zero, zcall_some, zpush_some, zpush_none, zsum_ref, zsum_int, zsum_long, zsum_nil, zsum_null, Nat.reduceAdd, Nat.reduceLeDiff, if_true]
      exact ih2
theorem s_rsk (kk : Int32) (he : e < 3) (hmo : mo < 12) (hL : rLines r e mo l) : ev 283 [.ref m, .int (nI e), .int (nI mo), .int kk] (putM m r h) = some (some (.long (pSK l kk l.length)), putM m r h) := by
  simp (implicitDefEqProofs := false) (disch := omega) only [ze_283, zr_283_0, zr_283_1, zr_283_3, zr_283_4, zr_283_8, zr_283_9, zr_283_10, zr_283_11, zr_283_14, zr_283_15, zr_283_16, zr_283_19, zr_283_20, zr_283_23, zr_283_24, zr_283_25, zr_283_27, zr_283_30, zr_283_32, zr_283_34, zr_283_35, zr_283_38, zr_283_40, zr_283_41, zr_283_42, zr_283_43, zr_283_44, zr_283_47, zr_283_48, zr_283_51, zr_283_53, zr_283_54, zr_283_55, zr_283_56, zr_283_59, zr_283_60, zr_283_61, zr_283_63, zr_283_66, zr_283_69, zr_283_71, true_or, or_true, true_and, and_true, if_true, if_false, ldA_ref, ldA_null, nl_int, nl_ref, nl_fl, nl_null, c1_int, c1_ref, c1_null]
  exact s_rskL he hmo hL l.length 0 _ (by omega)
theorem pSM_c (LS : Nat → List Ln) (c : Nat) (k : Int32) : ∀ j, c ≤ j → pSM LS c k j = pSM LS c k c
  | 0, h => by rw [show c = 0 by omega]
  | j + 1, h => by
    by_cases h1 : c = j + 1
    · rw [h1]
    · rw [pSM, if_neg (by omega)]
      exact pSM_c LS c k j (by omega)
def rTt (LS : Nat → List Ln) (c k j : Nat) : Int64 := if k < 8 then pSM LS c (nI k) j else pSM LS c (nI 4) j + pSM LS c (nI 6) j
def rTf (LS : Nat → List Ln) (c k : Nat) : Int64 := if 1 ≤ k ∧ k ≤ 5 then -rTt LS c k c else rTt LS c k c
theorem i64_4 (a b x y : Int64) : a + b + (x + y) = a + x + (b + y) := by
  rw [Int64.add_assoc, Int64.add_assoc, ← Int64.add_assoc b, Int64.add_comm b x, Int64.add_assoc]
theorem s_rtotL {k : Nat} (hk : k ≤ 8) (he : e < 3) (hc : c ≤ 12) (h0 : rS r 0 = (nI c).toInt64) (hL : ∀ mo, mo < c → rLines r e mo (LS mo)) : ∀ (j i : Nat), i + j = c → rn 282 5 [.ref m, .int (nI e), .int (nI k), .long (rTt LS c k i), .float 0, .int (nI i)] [] (putM m r h) = some (some (.long (rTf LS c k)), putM m r h) := by
  intro j
  induction j with
  | zero =>
    intro i hi
    rw [zl_282_5, show i = c by omega]
    by_cases k1 : 1 ≤ k ∧ k ≤ 5
    · rw [rTf, if_pos k1]
      simp (implicitDefEqProofs := false) (disch := omega) only [zr_282_7, zr_282_8, zr_282_11, zr_282_14, zr_282_15, zr_282_16, zr_282_18, zr_282_21, zr_282_22, zr_282_23, zr_282_25, zr_282_26, zr_282_29, zr_282_32, zr_282_33, zr_282_34, zr_282_36, zr_282_37, zr_282_40, zr_282_41, zr_282_42, zr_282_44, zr_282_46, zr_282_49, zr_282_50, zr_282_51, zr_282_52, zr_282_55, zr_282_58, zr_282_59, zr_282_60, zr_282_61, zr_282_64, zr_282_67, zr_282_68, zr_282_69, zr_282_72, zr_282_73, true_or, or_true, true_and, and_true, if_true, if_false, ldA_ref, ldA_null, nl_int, nl_ref, nl_fl, nl_null, c1_int, c1_ref, c1_null, Nat.zero_add, Nat.zero_mul, Nat.one_mul, nI_add, nI_leI, nI_ltI, nI_eq, nI_mul, kd_M, s_rcm h0, s_in, bI_0, Nat.le_refl, nn k1, zcall_some, zpush_some, zpush_none, zsum_ref, zsum_int, zsum_long, zsum_nil, zsum_null, Nat.reduceAdd, Nat.reduceLeDiff, if_true]
    · rw [rTf, if_neg k1]
      simp (implicitDefEqProofs := false) (disch := omega) only [zr_282_7, zr_282_8, zr_282_11, zr_282_14, zr_282_15, zr_282_16, zr_282_18, zr_282_21, zr_282_22, zr_282_23, zr_282_25, zr_282_26, zr_282_29, zr_282_32, zr_282_33, zr_282_34, zr_282_36, zr_282_37, zr_282_40, zr_282_41, zr_282_42, zr_282_44, zr_282_46, zr_282_49, zr_282_50, zr_282_51, zr_282_52, zr_282_55, zr_282_58, zr_282_59, zr_282_60, zr_282_61, zr_282_64, zr_282_67, zr_282_68, zr_282_69, zr_282_72, zr_282_73, true_or, or_true, true_and, and_true, if_true, if_false, ldA_ref, ldA_null, nl_int, nl_ref, nl_fl, nl_null, c1_int, c1_ref, c1_null, Nat.zero_add, Nat.zero_mul, Nat.one_mul, nI_add, nI_leI, nI_ltI, nI_eq, nI_mul, kd_M, s_rcm h0, s_in, bI_0, Nat.le_refl, not_false_eq_true, k1, zcall_some, zpush_some, zpush_none, zsum_ref, zsum_int, zsum_long, zsum_nil, zsum_null, Nat.reduceAdd, Nat.reduceLeDiff, if_true]
  | succ j ih =>
    intro i hi
    have ih2 := ih (i + 1) (by omega)
    have hLi := hL i (by omega)
    rw [zl_282_5]
    by_cases k8 : k < 8
    · have e1 : rTt LS c k (i + 1) = rTt LS c k i + pSK (LS i) (nI k) (LS i).length := by
        unfold rTt
        rw [if_pos k8, if_pos k8, pSM, if_pos (by omega)]
      rw [e1] at ih2
      simp (implicitDefEqProofs := false) (disch := omega) only [zr_282_7, zr_282_8, zr_282_11, zr_282_14, zr_282_15, zr_282_16, zr_282_18, zr_282_21, zr_282_22, zr_282_23, zr_282_25, zr_282_26, zr_282_29, zr_282_32, zr_282_33, zr_282_34, zr_282_36, zr_282_37, zr_282_40, zr_282_41, zr_282_42, zr_282_44, zr_282_46, zr_282_49, zr_282_50, zr_282_51, zr_282_52, zr_282_55, true_or, or_true, true_and, and_true, if_true, if_false, ldA_ref, ldA_null, nl_int, nl_ref, nl_fl, nl_null, c1_int, c1_ref, c1_null, Nat.zero_add, Nat.zero_mul, Nat.one_mul, nI_add, nI_leI, nI_ltI, nI_eq, nI_mul, kd_M, s_rcm h0, show ¬ c ≤ i from by omega, show ¬ 8 ≤ k from by omega, s_rsk _ he (show i < 12 by omega) hLi, zcall_some, zpush_some, zpush_none, zsum_ref, zsum_int, zsum_long, zsum_nil, zsum_null, Nat.reduceAdd, Nat.reduceLeDiff, if_true]
      exact ih2
    · have e1 : rTt LS c k (i + 1) = rTt LS c k i + (pSK (LS i) (nI 4) (LS i).length + pSK (LS i) (nI 6) (LS i).length) := by
        unfold rTt
        rw [if_neg k8, if_neg k8, pSM, if_pos (by omega), pSM, if_pos (by omega), i64_4]
      rw [e1] at ih2
      simp (implicitDefEqProofs := false) (disch := omega) only [zr_282_7, zr_282_8, zr_282_11, zr_282_14, zr_282_15, zr_282_16, zr_282_18, zr_282_21, zr_282_22, zr_282_23, zr_282_25, zr_282_26, zr_282_29, zr_282_32, zr_282_33, zr_282_34, zr_282_36, zr_282_37, zr_282_40, zr_282_41, zr_282_42, zr_282_44, zr_282_46, zr_282_49, zr_282_50, zr_282_51, zr_282_52, zr_282_55, true_or, or_true, true_and, and_true, if_true, if_false, ldA_ref, ldA_null, nl_int, nl_ref, nl_fl, nl_null, c1_int, c1_ref, c1_null, Nat.zero_add, Nat.zero_mul, Nat.one_mul, nI_add, nI_leI, nI_ltI, nI_eq, nI_mul, kd_M, s_rcm h0, show ¬ c ≤ i from by omega, show 8 ≤ k from by omega, s_rsk _ he (show i < 12 by omega) hLi, zcall_some, zpush_some, zpush_none, zsum_ref, zsum_int, zsum_long, zsum_nil, zsum_null, Nat.reduceAdd, Nat.reduceLeDiff, if_true]
      exact ih2
theorem rTf_eq {k : Nat} (hc : c ≤ 12) (hk : k ≤ 8) (h6 : k ≠ 6) : rTf LS c k = pTot LS c k := by
  unfold rTf rTt pTot
  rw [pSM_c LS c _ 12 hc, pSM_c LS c _ 12 hc, pSM_c LS c _ 12 hc]
  by_cases a : k = 0 ∨ k = 7
  · rw [if_pos a, if_neg (by omega), if_pos (by omega)]
  · rw [if_neg a]
    by_cases b : k = 8
    · rw [if_pos b, if_neg (by omega), if_neg (by omega)]
    · rw [if_neg b, if_pos (by omega), if_pos (by omega)]
theorem s_rtot {k : Nat} (hk : k ≤ 8) (h6 : k ≠ 6) (he : e < 3) (hc : c ≤ 12) (h0 : rS r 0 = (nI c).toInt64) (hL : ∀ mo, mo < c → rLines r e mo (LS mo)) : ev 282 [.ref m, .int (nI e), .int (nI k)] (putM m r h) = some (some (.long (pTot LS c k)), putM m r h) := by
  have e0 : rTt LS c k 0 = 0 := by
    unfold rTt
    split
    · rfl
    · rfl
  have h1 := s_rtotL (m := m) (h := h) hk he hc h0 hL c 0 (by omega)
  rw [e0] at h1
  simp (implicitDefEqProofs := false) (disch := omega) only [ze_282, zr_282_0, zr_282_1, zr_282_2, zr_282_3, zr_282_7, zr_282_8, zr_282_11, zr_282_14, zr_282_15, zr_282_16, zr_282_18, zr_282_21, zr_282_22, zr_282_23, zr_282_25, zr_282_26, zr_282_29, zr_282_32, zr_282_33, zr_282_34, zr_282_36, zr_282_37, zr_282_40, zr_282_41, zr_282_42, zr_282_44, zr_282_46, zr_282_49, zr_282_50, zr_282_51, zr_282_52, zr_282_55, zr_282_58, zr_282_59, zr_282_60, zr_282_61, zr_282_64, zr_282_67, zr_282_68, zr_282_69, zr_282_72, zr_282_73, true_or, or_true, true_and, and_true, if_true, if_false, ldA_ref, ldA_null, nl_int, nl_ref, nl_fl, nl_null, c1_int, c1_ref, c1_null]
  rw [← rTf_eq hc hk h6]
  exact h1
theorem okSl_pos {l : List Ln} (h : okSl l) : 0 < l.length := by
  obtain ⟨⟨l0, x, h1, -⟩, -⟩ := h
  rw [h1, List.length_append]; exact Nat.succ_pos _
theorem slp_of (h1 : slB H w c LS) (h2 : ∀ m, m < c → okSl (LS m)) : slp H w c LS := ⟨fun m _ hm => by
  obtain ⟨p, d, s1, s2, s3, -⟩ := h1.1 m hm
  exact ⟨p, d, s1, s2, s3, okSl_pos (h2 m hm)⟩, fun m h3 h4 => h1.2 m h3 h4⟩
theorem s_rpay (hmo : mo < 12) (he : e < 3) (hL : rLines r e mo l) (hl : 0 < l.length) : ev 272 [.ref m, .int (nI e), .int (nI mo)] (putM m r h) = some (some (.long (pPd l)), putM m r h) := by
  have hl54 := hL.2.1
  have hl4 := (rLines_lk hL (show l.length - 1 < l.length by omega)).2.2.2
  simp (implicitDefEqProofs := false) (disch := omega) only [ze_272, zr_272_0, zr_272_1, zr_272_4, zr_272_5, zr_272_6, zr_272_7, zr_272_8, zr_272_11, zr_272_12, zr_272_13, zr_272_16, zr_272_17, zr_272_18, zr_272_19, zr_272_22, zr_272_23, zr_272_24, zr_272_25, true_or, or_true, true_and, and_true, if_true, if_false, ldA_ref, ldA_null, nl_int, nl_ref, nl_fl, nl_null, c1_int, c1_ref, c1_null, Nat.zero_add, Nat.zero_mul, Nat.one_mul, nI_add, nI_leI, nI_ltI, nI_eq, nI_mul, kd_M, s_of (show rX e (147 + mo) < 8271 by unfold rX; omega), hL.1, i64_b, nI_sub1 hl, s_rlineAt, gf_M, lj_M1 (show rLp e mo (l.length - 1) + 3 < 8271 by unfold rLp rX; omega), hl4, zcall_some, zpush_some, zpush_none, zsum_ref, zsum_int, zsum_long, zsum_nil, zsum_null, Nat.reduceAdd, Nat.reduceLeDiff, if_true]
  rfl
theorem nI_m2 : ∀ b, b < 12 → ¬ nI b = (-2 : Int32) := by decide
theorem nI_ge0 : ∀ b, b < 12 → ¬ nI b < nI 0 := by decide
theorem pLow_inv (LS : Nat → List Ln) {c : Nat} (hc : c ≤ 12) : ∀ i, i ≤ c → (i = 0 ∧ pLow LS c i = (-2, 0)) ∨ (0 < i ∧ ∃ b, b < i ∧ pLow LS c i = (nI b, pPd (LS b)))
  | 0, _ => Or.inl ⟨rfl, rfl⟩
  | i + 1, hi => by
    refine Or.inr ⟨by omega, ?_⟩
    rw [pLow, if_pos (by omega)]
    rcases pLow_inv LS hc i (by omega) with ⟨h1, h2⟩ | ⟨h1, b, h2, h3⟩
    · rw [h2, if_pos (Or.inl rfl)]
      exact ⟨i, by omega, rfl⟩
    · rw [h3]
      dsimp only
      by_cases c1 : pPd (LS i) < pPd (LS b)
      · rw [if_pos (Or.inr c1)]; exact ⟨i, by omega, rfl⟩
      · rw [if_neg (fun x => x.elim (nI_m2 b (by omega)) c1)]; exact ⟨b, by omega, rfl⟩
theorem pLow_c (LS : Nat → List Ln) (c : Nat) : ∀ j, c ≤ j → pLow LS c j = pLow LS c c
  | 0, h => by rw [show c = 0 by omega]
  | j + 1, h => by
    by_cases h1 : c = j + 1
    · rw [h1]
    · rw [pLow, if_neg (by omega)]
      exact pLow_c LS c j (by omega)
theorem s_rlowL (he : e < 3) (hc : c ≤ 12) (h0 : rS r 0 = (nI c).toInt64) (hL : ∀ mo, mo < c → rLines r e mo (LS mo) ∧ 0 < (LS mo).length) : ∀ (j i : Nat), i + j = c → rn 287 14 [.ref m, .int (nI e), .int (pLow LS c i).1, .int (nI i)] [] (putM m r h) = some (some (.int (pLow LS c c).1), putM m r h) := by
  intro j
  induction j with
  | zero =>
    intro i hi
    rw [zl_287_14, show i = c by omega]
    simp (implicitDefEqProofs := false) (disch := omega) only [zr_287_15, zr_287_16, zr_287_19, zr_287_22, zr_287_23, zr_287_26, zr_287_27, zr_287_28, zr_287_29, zr_287_32, zr_287_33, zr_287_34, zr_287_35, zr_287_38, zr_287_39, zr_287_42, zr_287_43, zr_287_46, zr_287_47, zr_287_48, zr_287_51, zr_287_54, zr_287_55, true_or, or_true, true_and, and_true, if_true, if_false, ldA_ref, ldA_null, nl_int, nl_ref, nl_fl, nl_null, c1_int, c1_ref, c1_null, Nat.zero_add, Nat.zero_mul, Nat.one_mul, nI_add, nI_leI, nI_ltI, nI_eq, nI_mul, kd_M, s_rcm h0, Nat.le_refl, zcall_some, zpush_some, zpush_none, zsum_ref, zsum_int, zsum_long, zsum_nil, zsum_null, Nat.reduceAdd, Nat.reduceLeDiff, if_true]
  | succ j ih =>
    intro i hi
    have ih2 := ih (i + 1) (by omega)
    have hLi := hL i (by omega)
    rw [zl_287_14]
    rcases pLow_inv LS hc i (by omega) with ⟨h1, h2⟩ | ⟨h1, b, h2, h3⟩
    · have e1 : pLow LS c (i + 1) = (nI i, pPd (LS i)) := by rw [pLow, if_pos (by omega), h2, if_pos (Or.inl rfl)]
      rw [e1] at ih2
      rw [h2]
      simp (implicitDefEqProofs := false) (disch := omega) only [zr_287_15, zr_287_16, zr_287_19, zr_287_22, zr_287_23, zr_287_26, zr_287_27, zr_287_28, zr_287_29, zr_287_32, zr_287_33, zr_287_34, zr_287_35, zr_287_38, zr_287_39, zr_287_42, zr_287_43, zr_287_46, zr_287_47, zr_287_48, zr_287_51, zr_287_54, zr_287_55, true_or, or_true, true_and, and_true, if_true, if_false, ldA_ref, ldA_null, nl_int, nl_ref, nl_fl, nl_null, c1_int, c1_ref, c1_null, Nat.zero_add, Nat.zero_mul, Nat.one_mul, nI_add, nI_leI, nI_ltI, nI_eq, nI_mul, kd_M, s_rcm h0, show ¬ c ≤ i from by omega, lt2, show ¬ nI 0 ≤ (-2 : Int32) from by decide, zcall_some, zpush_some, zpush_none, zsum_ref, zsum_int, zsum_long, zsum_nil, zsum_null, Nat.reduceAdd, Nat.reduceLeDiff, if_true]
      exact ih2
    · have hLb := hL b (by omega)
      have z1 := nI_ge0 b (by omega)
      have z2 := nI_m2 b (by omega)
      by_cases c1 : pPd (LS i) < pPd (LS b)
      · have e1 : pLow LS c (i + 1) = (nI i, pPd (LS i)) := by rw [pLow, if_pos (by omega), h3, if_pos (Or.inr c1)]
        rw [e1] at ih2
        rw [h3]
        simp (implicitDefEqProofs := false) (disch := omega) only [zr_287_15, zr_287_16, zr_287_19, zr_287_22, zr_287_23, zr_287_26, zr_287_27, zr_287_28, zr_287_29, zr_287_32, zr_287_33, zr_287_34, zr_287_35, zr_287_38, zr_287_39, zr_287_42, zr_287_43, zr_287_46, zr_287_47, zr_287_48, zr_287_51, zr_287_54, zr_287_55, true_or, or_true, true_and, and_true, if_true, if_false, ldA_ref, ldA_null, nl_int, nl_ref, nl_fl, nl_null, c1_int, c1_ref, c1_null, Nat.zero_add, Nat.zero_mul, Nat.one_mul, nI_add, nI_leI, nI_ltI, nI_eq, nI_mul, cmp_lt, cmp_gt, cmp_le, cmp_ge, cmp_eq, kd_M, s_rcm h0, show ¬ c ≤ i from by omega, show ¬ b < 0 from by omega, s_rpay (show i < 12 by omega) he hLi.1 hLi.2, s_rpay (show b < 12 by omega) he hLb.1 hLb.2, Int64.not_le.mpr c1, zcall_some, zpush_some, zpush_none, zsum_ref, zsum_int, zsum_long, zsum_nil, zsum_null, Nat.reduceAdd, Nat.reduceLeDiff, if_true]
        exact ih2
      · have e1 : pLow LS c (i + 1) = (nI b, pPd (LS b)) := by rw [pLow, if_pos (by omega), h3, if_neg (fun x => x.elim z2 c1)]
        rw [e1] at ih2
        rw [h3]
        simp (implicitDefEqProofs := false) (disch := omega) only [zr_287_15, zr_287_16, zr_287_19, zr_287_22, zr_287_23, zr_287_26, zr_287_27, zr_287_28, zr_287_29, zr_287_32, zr_287_33, zr_287_34, zr_287_35, zr_287_38, zr_287_39, zr_287_42, zr_287_43, zr_287_46, zr_287_47, zr_287_48, zr_287_51, zr_287_54, zr_287_55, true_or, or_true, true_and, and_true, if_true, if_false, ldA_ref, ldA_null, nl_int, nl_ref, nl_fl, nl_null, c1_int, c1_ref, c1_null, Nat.zero_add, Nat.zero_mul, Nat.one_mul, nI_add, nI_leI, nI_ltI, nI_eq, nI_mul, cmp_lt, cmp_gt, cmp_le, cmp_ge, cmp_eq, kd_M, s_rcm h0, show ¬ c ≤ i from by omega, show ¬ b < 0 from by omega, s_rpay (show i < 12 by omega) he hLi.1 hLi.2, s_rpay (show b < 12 by omega) he hLb.1 hLb.2, Int64.not_lt.mp c1, zcall_some, zpush_some, zpush_none, zsum_ref, zsum_int, zsum_long, zsum_nil, zsum_null, Nat.reduceAdd, Nat.reduceLeDiff, if_true]
        exact ih2
end
theorem q_lowest (x : Int32) : qryI (fun h => ev 175 [.ref 100, .int x] h) (fun h => ev 287 [.ref 463, .int x] h) := by
  intro H s q K ⟨⟨sv, hx⟩, hB, c, n, gs, LS, hb, hs⟩
  dsimp only
  have hc := hb.1.1
  by_cases h0 : nI 0 ≤ x ∧ x ≤ nI 2
  · obtain ⟨e, he, rfl⟩ := in_nI (by omega) h0.1 h0.2
    have hE := good.rE hb (show e < 3 by omega)
    have hW := B_W hB (show e < 3 by omega)
    have hS := slp_of (hs e (by omega)) fun m hm => (hE.2.2.2.2.2.2.1 m hm).2
    refine ⟨(pLow (LS e) c c).1, ?_, fun r h hq => ?_⟩
    · rw [← pLow_c (LS e) c 12 hc]
      simp (implicitDefEqProofs := false) (disch := omega) only [ze_175, zr_175_0, zr_175_1, zr_175_4, zr_175_7, zr_175_8, zr_175_11, zr_175_14, zr_175_15, zr_175_16, zr_175_19, zr_175_22, zr_175_23, true_or, or_true, true_and, and_true, if_true, if_false, ldA_ref, ldA_null, nl_int, nl_ref, nl_fl, nl_null, c1_int, c1_ref, c1_null, Nat.zero_add, Nat.zero_mul, Nat.one_mul, nI_add, nI_leI, nI_ltI, nI_eq, nI_mul, s_isEmployee, bI_0, show ¬ ¬ (0 ≤ e ∧ e ≤ 2) from by omega, x_at hx, rdB_0 (hB), rdB_1 (hB), rdB_2 (hB), rdB_3 (hB), rdB_4 (hB), rdB_5 (hB), rdB_6 (hB), rdB_7 (hB), rdW_0 hW, rf_some, s_lowest hW hS, zcall_some, zpush_some, zpush_none, zsum_ref, zsum_int, zsum_long, zsum_nil, zsum_null, Nat.reduceAdd, Nat.reduceLeDiff, if_true]
    · simp (implicitDefEqProofs := false) (disch := omega) only [ze_287, zr_287_0, zr_287_1, zr_287_4, zr_287_7, zr_287_8, zr_287_9, zr_287_11, zr_287_12, zr_287_13, zr_287_15, zr_287_16, zr_287_19, zr_287_22, zr_287_23, zr_287_26, zr_287_27, zr_287_28, zr_287_29, zr_287_32, zr_287_33, zr_287_34, zr_287_35, zr_287_38, zr_287_39, zr_287_42, zr_287_43, zr_287_46, zr_287_47, zr_287_48, zr_287_51, zr_287_54, zr_287_55, true_or, or_true, true_and, and_true, if_true, if_false, ldA_ref, ldA_null, nl_int, nl_ref, nl_fl, nl_null, c1_int, c1_ref, c1_null, Nat.zero_add, Nat.zero_mul, Nat.one_mul, nI_add, nI_leI, nI_ltI, nI_eq, nI_mul, kd_M, s_isPerson, bI_0, bI_ok, show ¬ ¬ (0 ≤ e ∧ e ≤ 2) from by omega, zcall_some, zpush_some, zpush_none, zsum_ref, zsum_int, zsum_long, zsum_nil, zsum_null, Nat.reduceAdd, Nat.reduceLeDiff, if_true]
      exact s_rlowL (show e < 3 by omega) hc (by rw [hq]; exact hb.1.2.2.1) (fun mo hmo => ⟨by rw [rLines_q, hq]; exact (hE.2.2.2.2.2.2.1 mo hmo).1, okSl_pos (hE.2.2.2.2.2.2.1 mo hmo).2⟩) c 0 (by omega)
  · refine ⟨-1, ?_, fun r h hq => ?_⟩
    · simp (implicitDefEqProofs := false) (disch := omega) only [ze_175, zr_175_0, zr_175_1, zr_175_4, zr_175_7, zr_175_8, zr_175_11, zr_175_14, zr_175_15, zr_175_16, zr_175_19, zr_175_22, zr_175_23, true_or, or_true, true_and, and_true, if_true, if_false, ldA_ref, ldA_null, nl_int, nl_ref, nl_fl, nl_null, c1_int, c1_ref, c1_null, s_isEmployee, bI_0, bI_ok, not_false_eq_true, zcall_some, zpush_some, zpush_none, zsum_ref, zsum_int, zsum_long, zsum_nil, zsum_null, Nat.reduceAdd, Nat.reduceLeDiff, if_true, h0]
    · simp (implicitDefEqProofs := false) (disch := omega) only [ze_287, zr_287_0, zr_287_1, zr_287_4, zr_287_7, zr_287_8, zr_287_9, zr_287_11, zr_287_12, zr_287_13, zr_287_15, zr_287_16, zr_287_19, zr_287_22, zr_287_23, zr_287_26, zr_287_27, zr_287_28, zr_287_29, zr_287_32, zr_287_33, zr_287_34, zr_287_35, zr_287_38, zr_287_39, zr_287_42, zr_287_43, zr_287_46, zr_287_47, zr_287_48, zr_287_51, zr_287_54, zr_287_55, true_or, or_true, true_and, and_true, if_true, if_false, ldA_ref, ldA_null, nl_int, nl_ref, nl_fl, nl_null, c1_int, c1_ref, c1_null, kd_M, s_isPerson, bI_0, bI_ok, not_false_eq_true, zcall_some, zpush_some, zpush_none, zsum_ref, zsum_int, zsum_long, zsum_nil, zsum_null, Nat.reduceAdd, Nat.reduceLeDiff, if_true, h0]
theorem q_total (x z : Int32) : qryJ (fun h => ev 169 [.ref 100, .int x, .int z] h) (fun h => ev 281 [.ref 463, .int x, .int z] h) := by
  intro H s q K ⟨⟨sv, hx⟩, hB, c, n, gs, LS, hb, hs⟩
  dsimp only
  have hc := hb.1.1
  by_cases h0 : nI 0 ≤ x ∧ x ≤ nI 2
  · obtain ⟨e, he, rfl⟩ := in_nI (by omega) h0.1 h0.2
    have hE := good.rE hb (show e < 3 by omega)
    have hW := B_W hB (show e < 3 by omega)
    have hS := slp_of (hs e (by omega)) fun m hm => (hE.2.2.2.2.2.2.1 m hm).2
    by_cases h1 : (nI 0 ≤ z ∧ z ≤ nI 8) ∧ ¬ z = nI 4 ∧ ¬ z = nI 6
    · obtain ⟨k, hk, rfl⟩ := in_nI (by omega) h1.1.1 h1.1.2
      have k4 : ¬ k = 4 := fun h => h1.2.1 (by rw [h])
      have k6 : ¬ k = 6 := fun h => h1.2.2 (by rw [h])
      refine ⟨pTot (LS e) c k, ?_, fun r h hq => ?_⟩
      · have hT := s_totalOf hW hS (show k < 9 by omega)
        rcases (show k ≤ 3 ∨ k = 5 ∨ k = 7 ∨ k = 8 by omega) with h3 | rfl | rfl | rfl
        · simp (implicitDefEqProofs := false) (disch := omega) only [ze_169, zr_169_0, zr_169_1, zr_169_2, zr_169_3, zr_169_6, zr_169_9, zr_169_10, zr_169_11, zr_169_14, zr_169_15, zr_169_17, zr_169_20, zr_169_21, zr_169_23, zr_169_26, zr_169_27, zr_169_30, zr_169_31, zr_169_32, zr_169_33, zr_169_36, zr_169_39, zr_169_40, zr_169_43, zr_169_46, zr_169_47, zr_169_48, zr_169_51, zr_169_54, zr_169_55, zr_169_56, zr_169_57, zr_169_60, true_or, or_true, true_and, and_true, if_true, if_false, ldA_ref, ldA_null, nl_int, nl_ref, nl_fl, nl_null, c1_int, c1_ref, c1_null, Nat.zero_add, Nat.zero_mul, Nat.one_mul, nI_add, nI_leI, nI_ltI, nI_eq, nI_mul, s_isEmployee, s_within, bI_0, show ¬ ¬ (0 ≤ k ∧ k ≤ 3) from by omega, show ¬ ¬ (0 ≤ e ∧ e ≤ 2) from by omega, x_at hx, rdB_0 (hB), rdB_1 (hB), rdB_2 (hB), rdB_3 (hB), rdB_4 (hB), rdB_5 (hB), rdB_6 (hB), rdB_7 (hB), rdW_0 hW, rf_some, hT, Nat.reduceEqDiff, not_false_eq_true, zcall_some, zpush_some, zpush_none, zsum_ref, zsum_int, zsum_long, zsum_nil, zsum_null, Nat.reduceAdd, Nat.reduceLeDiff, if_true]
        · simp (implicitDefEqProofs := false) (disch := omega) only [ze_169, zr_169_0, zr_169_1, zr_169_2, zr_169_3, zr_169_6, zr_169_9, zr_169_10, zr_169_11, zr_169_14, zr_169_15, zr_169_17, zr_169_20, zr_169_21, zr_169_23, zr_169_26, zr_169_27, zr_169_30, zr_169_31, zr_169_32, zr_169_33, zr_169_36, zr_169_39, zr_169_40, zr_169_43, zr_169_46, zr_169_47, zr_169_48, zr_169_51, zr_169_54, zr_169_55, zr_169_56, zr_169_57, zr_169_60, true_or, or_true, true_and, and_true, if_true, if_false, ldA_ref, ldA_null, nl_int, nl_ref, nl_fl, nl_null, c1_int, c1_ref, c1_null, Nat.zero_add, Nat.zero_mul, Nat.one_mul, nI_add, nI_leI, nI_ltI, nI_eq, nI_mul, s_isEmployee, s_within, bI_0, and_false, show ¬ ¬ (0 ≤ e ∧ e ≤ 2) from by omega, x_at hx, rdB_0 (hB), rdB_1 (hB), rdB_2 (hB), rdB_3 (hB), rdB_4 (hB), rdB_5 (hB), rdB_6 (hB), rdB_7 (hB), rdW_0 hW, rf_some, hT, Nat.reduceEqDiff, not_false_eq_true, zcall_some, zpush_some, zpush_none, zsum_ref, zsum_int, zsum_long, zsum_nil, zsum_null, Nat.reduceAdd, Nat.reduceLeDiff, if_true]
        · simp (implicitDefEqProofs := false) (disch := omega) only [ze_169, zr_169_0, zr_169_1, zr_169_2, zr_169_3, zr_169_6, zr_169_9, zr_169_10, zr_169_11, zr_169_14, zr_169_15, zr_169_17, zr_169_20, zr_169_21, zr_169_23, zr_169_26, zr_169_27, zr_169_30, zr_169_31, zr_169_32, zr_169_33, zr_169_36, zr_169_39, zr_169_40, zr_169_43, zr_169_46, zr_169_47, zr_169_48, zr_169_51, zr_169_54, zr_169_55, zr_169_56, zr_169_57, zr_169_60, true_or, or_true, true_and, and_true, if_true, if_false, ldA_ref, ldA_null, nl_int, nl_ref, nl_fl, nl_null, c1_int, c1_ref, c1_null, Nat.zero_add, Nat.zero_mul, Nat.one_mul, nI_add, nI_leI, nI_ltI, nI_eq, nI_mul, s_isEmployee, s_within, bI_0, and_false, show ¬ ¬ (0 ≤ e ∧ e ≤ 2) from by omega, x_at hx, rdB_0 (hB), rdB_1 (hB), rdB_2 (hB), rdB_3 (hB), rdB_4 (hB), rdB_5 (hB), rdB_6 (hB), rdB_7 (hB), rdW_0 hW, rf_some, hT, Nat.reduceEqDiff, not_false_eq_true, zcall_some, zpush_some, zpush_none, zsum_ref, zsum_int, zsum_long, zsum_nil, zsum_null, Nat.reduceAdd, Nat.reduceLeDiff, if_true]
        · simp (implicitDefEqProofs := false) (disch := omega) only [ze_169, zr_169_0, zr_169_1, zr_169_2, zr_169_3, zr_169_6, zr_169_9, zr_169_10, zr_169_11, zr_169_14, zr_169_15, zr_169_17, zr_169_20, zr_169_21, zr_169_23, zr_169_26, zr_169_27, zr_169_30, zr_169_31, zr_169_32, zr_169_33, zr_169_36, zr_169_39, zr_169_40, zr_169_43, zr_169_46, zr_169_47, zr_169_48, zr_169_51, zr_169_54, zr_169_55, zr_169_56, zr_169_57, zr_169_60, true_or, or_true, true_and, and_true, if_true, if_false, ldA_ref, ldA_null, nl_int, nl_ref, nl_fl, nl_null, c1_int, c1_ref, c1_null, Nat.zero_add, Nat.zero_mul, Nat.one_mul, nI_add, nI_leI, nI_ltI, nI_eq, nI_mul, s_isEmployee, s_within, bI_0, and_false, show ¬ ¬ (0 ≤ e ∧ e ≤ 2) from by omega, x_at hx, rdB_0 (hB), rdB_1 (hB), rdB_2 (hB), rdB_3 (hB), rdB_4 (hB), rdB_5 (hB), rdB_6 (hB), rdB_7 (hB), rdW_0 hW, rf_some, hT, Nat.reduceEqDiff, not_false_eq_true, zcall_some, zpush_some, zpush_none, zsum_ref, zsum_int, zsum_long, zsum_nil, zsum_null, Nat.reduceAdd, Nat.reduceLeDiff, if_true]
      · have hT := s_rtot (m := 463) (h := h) hk k6 (show e < 3 by omega) hc (show rS r 0 = (nI c).toInt64 by rw [hq]; exact hb.1.2.2.1) (LS := LS e) (fun mo hmo => by rw [rLines_q, hq]; exact (hE.2.2.2.2.2.2.1 mo hmo).1)
        simp (implicitDefEqProofs := false) (disch := omega) only [ze_281, zr_281_0, zr_281_1, zr_281_4, zr_281_7, zr_281_8, zr_281_9, zr_281_11, zr_281_14, zr_281_17, zr_281_18, zr_281_19, zr_281_22, zr_281_23, zr_281_25, zr_281_28, zr_281_29, zr_281_30, zr_281_31, zr_281_34, zr_281_37, zr_281_40, true_or, or_true, true_and, and_true, if_true, if_false, ldA_ref, ldA_null, nl_int, nl_ref, nl_fl, nl_null, c1_int, c1_ref, c1_null, Nat.zero_add, Nat.zero_mul, Nat.one_mul, nI_add, nI_leI, nI_ltI, nI_eq, nI_mul, kd_M, s_isPerson, s_in, bI_0, bI_ok, show ¬ ¬ (0 ≤ e ∧ e ≤ 2) from by omega, show ¬ ¬ (0 ≤ k ∧ k ≤ 8) from by omega, k4, k6, hT, zcall_some, zpush_some, zpush_none, zsum_ref, zsum_int, zsum_long, zsum_nil, zsum_null, Nat.reduceAdd, Nat.reduceLeDiff, if_true]
    · refine ⟨-1, ?_, fun r h hq => ?_⟩
      · have z3 : ¬ (nI 0 ≤ z ∧ z ≤ nI 3) := fun h => by
          obtain ⟨k, hk, rfl⟩ := in_nI (by omega) h.1 h.2
          exact h1 ⟨⟨h.1, by rw [nI_leI (by omega) (by omega)]; omega⟩, by rw [nI_inj (by omega) (by omega)]; omega, by rw [nI_inj (by omega) (by omega)]; omega⟩
        have z5 : ¬ z = nI 5 := fun h => h1 (by rw [h]; decide)
        have z7 : ¬ z = nI 7 := fun h => h1 (by rw [h]; decide)
        have z8 : ¬ z = nI 8 := fun h => h1 (by rw [h]; decide)
        simp (implicitDefEqProofs := false) (disch := omega) only [ze_169, zr_169_0, zr_169_1, zr_169_2, zr_169_3, zr_169_6, zr_169_9, zr_169_10, zr_169_11, zr_169_14, zr_169_15, zr_169_17, zr_169_20, zr_169_21, zr_169_23, zr_169_26, zr_169_27, zr_169_30, zr_169_31, zr_169_32, zr_169_33, zr_169_36, zr_169_39, zr_169_40, zr_169_43, zr_169_46, zr_169_47, zr_169_48, zr_169_51, zr_169_54, zr_169_55, zr_169_56, zr_169_57, zr_169_60, true_or, or_true, true_and, and_true, if_true, if_false, ldA_ref, ldA_null, nl_int, nl_ref, nl_fl, nl_null, c1_int, c1_ref, c1_null, s_isEmployee, s_within, bI_0, z5, z7, z8, z3, not_false_eq_true, nn h0, zcall_some, zpush_some, zpush_none, zsum_ref, zsum_int, zsum_long, zsum_nil, zsum_null, Nat.reduceAdd, Nat.reduceLeDiff, if_true]
      · by_cases h2 : nI 0 ≤ z ∧ z ≤ nI 8
        · by_cases h3 : z = nI 4
          · subst h3
            simp (implicitDefEqProofs := false) (disch := omega) only [ze_281, zr_281_0, zr_281_1, zr_281_4, zr_281_7, zr_281_8, zr_281_9, zr_281_11, zr_281_14, zr_281_17, zr_281_18, zr_281_19, zr_281_22, zr_281_23, zr_281_25, zr_281_28, zr_281_29, zr_281_30, zr_281_31, zr_281_34, zr_281_37, zr_281_40, true_or, or_true, true_and, and_true, if_true, if_false, ldA_ref, ldA_null, nl_int, nl_ref, nl_fl, nl_null, c1_int, c1_ref, c1_null, Nat.zero_add, Nat.zero_mul, Nat.one_mul, nI_add, nI_leI, nI_ltI, nI_eq, nI_mul, kd_M, s_isPerson, s_in, bI_0, bI_ok, show ¬ ¬ (0 ≤ e ∧ e ≤ 2) from by omega, not_true_eq_false, not_false_eq_true, zcall_some, zpush_some, zpush_none, zsum_ref, zsum_int, zsum_long, zsum_nil, zsum_null, Nat.reduceAdd, Nat.reduceLeDiff, if_true]
          · have h6 : z = nI 6 := Classical.byContradiction fun h => h1 ⟨h2, h3, h⟩
            subst h6
            simp (implicitDefEqProofs := false) (disch := omega) only [ze_281, zr_281_0, zr_281_1, zr_281_4, zr_281_7, zr_281_8, zr_281_9, zr_281_11, zr_281_14, zr_281_17, zr_281_18, zr_281_19, zr_281_22, zr_281_23, zr_281_25, zr_281_28, zr_281_29, zr_281_30, zr_281_31, zr_281_34, zr_281_37, zr_281_40, true_or, or_true, true_and, and_true, if_true, if_false, ldA_ref, ldA_null, nl_int, nl_ref, nl_fl, nl_null, c1_int, c1_ref, c1_null, Nat.zero_add, Nat.zero_mul, Nat.one_mul, nI_add, nI_leI, nI_ltI, nI_eq, nI_mul, kd_M, s_isPerson, s_in, bI_0, bI_ok, show ¬ ¬ (0 ≤ e ∧ e ≤ 2) from by omega, not_true_eq_false, not_false_eq_true, Nat.reduceEqDiff, zcall_some, zpush_some, zpush_none, zsum_ref, zsum_int, zsum_long, zsum_nil, zsum_null, Nat.reduceAdd, Nat.reduceLeDiff, if_true]
        · simp (implicitDefEqProofs := false) (disch := omega) only [ze_281, zr_281_0, zr_281_1, zr_281_4, zr_281_7, zr_281_8, zr_281_9, zr_281_11, zr_281_14, zr_281_17, zr_281_18, zr_281_19, zr_281_22, zr_281_23, zr_281_25, zr_281_28, zr_281_29, zr_281_30, zr_281_31, zr_281_34, zr_281_37, zr_281_40, true_or, or_true, true_and, and_true, if_true, if_false, ldA_ref, ldA_null, nl_int, nl_ref, nl_fl, nl_null, c1_int, c1_ref, c1_null, kd_M, s_isPerson, s_in, bI_0, bI_ok, not_false_eq_true, nn h0, h2, zcall_some, zpush_some, zpush_none, zsum_ref, zsum_int, zsum_long, zsum_nil, zsum_null, Nat.reduceAdd, Nat.reduceLeDiff, if_true]
  · refine ⟨-1, ?_, fun r h hq => ?_⟩
    · simp (implicitDefEqProofs := false) (disch := omega) only [ze_169, zr_169_0, zr_169_1, zr_169_2, zr_169_3, zr_169_6, zr_169_9, zr_169_10, zr_169_11, zr_169_14, zr_169_15, zr_169_17, zr_169_20, zr_169_21, zr_169_23, zr_169_26, zr_169_27, zr_169_30, zr_169_31, zr_169_32, zr_169_33, zr_169_36, zr_169_39, zr_169_40, zr_169_43, zr_169_46, zr_169_47, zr_169_48, zr_169_51, zr_169_54, zr_169_55, zr_169_56, zr_169_57, zr_169_60, true_or, or_true, true_and, and_true, if_true, if_false, ldA_ref, ldA_null, nl_int, nl_ref, nl_fl, nl_null, c1_int, c1_ref, c1_null, s_isEmployee, s_within, bI_0, bI_ok, not_false_eq_true, ite_self, zcall_some, zpush_some, zpush_none, zsum_ref, zsum_int, zsum_long, zsum_nil, zsum_null, Nat.reduceAdd, Nat.reduceLeDiff, if_true, h0]
    · simp (implicitDefEqProofs := false) (disch := omega) only [ze_281, zr_281_0, zr_281_1, zr_281_4, zr_281_7, zr_281_8, zr_281_9, zr_281_11, zr_281_14, zr_281_17, zr_281_18, zr_281_19, zr_281_22, zr_281_23, zr_281_25, zr_281_28, zr_281_29, zr_281_30, zr_281_31, zr_281_34, zr_281_37, zr_281_40, true_or, or_true, true_and, and_true, if_true, if_false, ldA_ref, ldA_null, nl_int, nl_ref, nl_fl, nl_null, c1_int, c1_ref, c1_null, kd_M, s_isPerson, bI_0, bI_ok, not_false_eq_true, zcall_some, zpush_some, zpush_none, zsum_ref, zsum_int, zsum_long, zsum_nil, zsum_null, Nat.reduceAdd, Nat.reduceLeDiff, if_true, h0]
theorem oneR_eq {s : tyR} {w : tyW} {r : Rst} {n e c k : Nat} (hr : RelR s (rS r) n) (ok : enOK w) (h : enEq w (rS r) e) (hc : c ≤ 12) : rAmt r n k (rG r e c) = pAmt s n k (pG w c) := by
  have b := GW_bd ok c hc
  rw [rG_J ok h c hc, pG_J ok c hc, rAmt_J hr (by omega), pAmt_J hr (by omega)]
theorem q_oneRun (x z : Int32) : qryJ (fun h => ev 170 [.ref 100, .int x, .int z] h) (fun h => ev 284 [.ref 463, .int x, .int z] h) := by
  intro H s q K ⟨⟨sv, hx⟩, hB, c, n, gs, LS, hb, hs⟩
  dsimp only
  have hc := hb.1.1
  obtain ⟨hn, hbn, h7, -⟩ := hb.2.1
  by_cases h0 : nI 0 ≤ x ∧ x ≤ nI 2
  · obtain ⟨e, he, rfl⟩ := in_nI (by omega) h0.1 h0.2
    have hE := good.rE hb (show e < 3 by omega)
    by_cases h1 : nI 0 ≤ z ∧ z ≤ nI 4
    · obtain ⟨k, hk, rfl⟩ := in_nI (by omega) h1.1 h1.2
      refine ⟨pAmt (gB_ru s) n k (pG (gB_wk s e) c), ?_, fun r h hq => ?_⟩
      · simp (implicitDefEqProofs := false) (disch := omega) only [ze_170, zr_170_0, zr_170_1, zr_170_4, zr_170_7, zr_170_8, zr_170_9, zr_170_10, zr_170_13, zr_170_16, zr_170_19, zr_170_20, zr_170_21, zr_170_24, zr_170_25, zr_170_26, zr_170_29, true_or, or_true, true_and, and_true, if_true, if_false, ldA_ref, ldA_null, nl_int, nl_ref, nl_fl, nl_null, c1_int, c1_ref, c1_null, Nat.zero_add, Nat.zero_mul, Nat.one_mul, nI_add, nI_leI, nI_ltI, nI_eq, nI_mul, s_isEmployee, s_within, bI_0, show ¬ ¬ (0 ≤ e ∧ e ≤ 2) from by omega, show ¬ ¬ (0 ≤ k ∧ k ≤ 4) from by omega, x_at hx, rdB_0 hB, s_oneRun hB hb.1.2.1 hc (show e < 3 by omega) hn hbn (show k < 5 by omega), zcall_some, zpush_some, zpush_none, zsum_ref, zsum_int, zsum_long, zsum_nil, zsum_null, Nat.reduceAdd, Nat.reduceLeDiff, if_true]
      · simp (implicitDefEqProofs := false) (disch := omega) only [ze_284, zr_284_0, zr_284_1, zr_284_4, zr_284_7, zr_284_8, zr_284_9, zr_284_10, zr_284_13, zr_284_16, zr_284_17, zr_284_18, zr_284_19, zr_284_20, zr_284_23, zr_284_26, zr_284_27, zr_284_30, zr_284_33, zr_284_36, true_or, or_true, true_and, and_true, if_true, if_false, ldA_ref, ldA_null, nl_int, nl_ref, nl_fl, nl_null, c1_int, c1_ref, c1_null, Nat.zero_add, Nat.zero_mul, Nat.one_mul, nI_add, nI_leI, nI_ltI, nI_eq, nI_mul, kd_M, s_isPerson, s_in, bI_0, bI_ok, show ¬ ¬ (0 ≤ e ∧ e ≤ 2) from by omega, show ¬ ¬ (0 ≤ k ∧ k ≤ 4) from by omega, s_rcm (show rS r 0 = (nI c).toInt64 by rw [hq]; exact hb.1.2.2.1), s_rsum (show e < 3 by omega) hc, s_ramt hn (show rS r 7 = (nI n).toInt64 by rw [hq]; exact h7) (show k < 5 by omega), zcall_some, zpush_some, zpush_none, zsum_ref, zsum_int, zsum_long, zsum_nil, zsum_null, Nat.reduceAdd, Nat.reduceLeDiff, if_true]
        rw [oneR_eq (s := gB_ru s) (w := gB_wk s e) (by rw [hq]; exact hb.2.1) hE.2.1 (by rw [hq]; exact hE.1) hc]
    · refine ⟨-1, ?_, fun r h hq => ?_⟩
      · simp (implicitDefEqProofs := false) (disch := omega) only [ze_170, zr_170_0, zr_170_1, zr_170_4, zr_170_7, zr_170_8, zr_170_9, zr_170_10, zr_170_13, zr_170_16, zr_170_19, zr_170_20, zr_170_21, zr_170_24, zr_170_25, zr_170_26, zr_170_29, true_or, or_true, true_and, and_true, if_true, if_false, ldA_ref, ldA_null, nl_int, nl_ref, nl_fl, nl_null, c1_int, c1_ref, c1_null, s_isEmployee, s_within, bI_0, not_false_eq_true, nn h0, h1, zcall_some, zpush_some, zpush_none, zsum_ref, zsum_int, zsum_long, zsum_nil, zsum_null, Nat.reduceAdd, Nat.reduceLeDiff, if_true]
      · simp (implicitDefEqProofs := false) (disch := omega) only [ze_284, zr_284_0, zr_284_1, zr_284_4, zr_284_7, zr_284_8, zr_284_9, zr_284_10, zr_284_13, zr_284_16, zr_284_17, zr_284_18, zr_284_19, zr_284_20, zr_284_23, zr_284_26, zr_284_27, zr_284_30, zr_284_33, zr_284_36, true_or, or_true, true_and, and_true, if_true, if_false, ldA_ref, ldA_null, nl_int, nl_ref, nl_fl, nl_null, c1_int, c1_ref, c1_null, kd_M, s_isPerson, s_in, bI_0, bI_ok, not_false_eq_true, nn h0, h1, zcall_some, zpush_some, zpush_none, zsum_ref, zsum_int, zsum_long, zsum_nil, zsum_null, Nat.reduceAdd, Nat.reduceLeDiff, if_true]
  · refine ⟨-1, ?_, fun r h hq => ?_⟩
    · simp (implicitDefEqProofs := false) (disch := omega) only [ze_170, zr_170_0, zr_170_1, zr_170_4, zr_170_7, zr_170_8, zr_170_9, zr_170_10, zr_170_13, zr_170_16, zr_170_19, zr_170_20, zr_170_21, zr_170_24, zr_170_25, zr_170_26, zr_170_29, true_or, or_true, true_and, and_true, if_true, if_false, ldA_ref, ldA_null, nl_int, nl_ref, nl_fl, nl_null, c1_int, c1_ref, c1_null, s_isEmployee, s_within, bI_0, bI_ok, not_false_eq_true, zcall_some, zpush_some, zpush_none, zsum_ref, zsum_int, zsum_long, zsum_nil, zsum_null, Nat.reduceAdd, Nat.reduceLeDiff, if_true, h0]
    · simp (implicitDefEqProofs := false) (disch := omega) only [ze_284, zr_284_0, zr_284_1, zr_284_4, zr_284_7, zr_284_8, zr_284_9, zr_284_10, zr_284_13, zr_284_16, zr_284_17, zr_284_18, zr_284_19, zr_284_20, zr_284_23, zr_284_26, zr_284_27, zr_284_30, zr_284_33, zr_284_36, true_or, or_true, true_and, and_true, if_true, if_false, ldA_ref, ldA_null, nl_int, nl_ref, nl_fl, nl_null, c1_int, c1_ref, c1_null, kd_M, s_isPerson, bI_0, bI_ok, not_false_eq_true, zcall_some, zpush_some, zpush_none, zsum_ref, zsum_int, zsum_long, zsum_nil, zsum_null, Nat.reduceAdd, Nat.reduceLeDiff, if_true, h0]
