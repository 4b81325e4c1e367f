/-! THE REFERENCE: garnishments of a closing -/
theorem pMin_comm (x y : Int64) : pMin x y = pMin y x := by
  unfold pMin
  by_cases h1 : y < x
  · rw [if_pos h1, if_neg (fun h2 => Int64.lt_irrefl (Int64.lt_trans h1 h2))]
  · by_cases h2 : x < y
    · rw [if_neg h1, if_pos h2]
    · rw [if_neg h1, if_neg h2]
      exact Int64.le_antisymm (Int64.not_lt.mp h1) (Int64.not_lt.mp h2)
theorem sub0_64 (x y : Int64) : (x - y = 0) = (x = y) := by
  apply propext
  constructor
  · intro h
    have h2 := Int64.sub_add_cancel x y
    rw [h, Int64.zero_add] at h2
    exact h2.symm
  · intro h
    rw [h]; exact Int64.sub_self y
theorem i64_0 (x : Int32) : (x.toInt64 = 0) = (x = nI 0) := by
  apply propext
  constructor
  · intro h
    have h2 : x.toInt64.toInt = (0 : Int64).toInt := by rw [h]
    rw [Int32.toInt_toInt64] at h2
    apply Int32.toInt_inj.mp
    rw [h2]; rfl
  · intro h
    rw [h]; rfl
def rOg (r2 r : Rst) (e mo : Nat) : Prop := r2 = wS r (rS r2) ∧ ∀ q, q ≠ rX e (147 + mo) → (q < rLp e mo 0 ∨ rLp e mo 54 ≤ q) → q ≠ rX e 138 → q ≠ rX e 142 → q ≠ rX e 146 → rS r2 q = rS r q
section
variable {m e n mo ng : Nat} {r r2 r3 : Rst} {h : zH} {l : List Ln} {w : tyW} {ab : Int64}
theorem rOg.of (a : rOut r2 r e mo) : rOg r2 r e mo := ⟨a.1, fun q h1 h2 _ _ _ => a.2 q h1 h2⟩
theorem rOg.tr (a : rOg r3 r2 e mo) (b : rOg r2 r e mo) : rOg r3 r e mo := by
  refine ⟨?_, fun q h1 h2 h3 h4 h5 => (a.2 q h1 h2 h3 h4 h5).trans (b.2 q h1 h2 h3 h4 h5)⟩
  have h1 := a.1
  rw [b.1] at h1
  exact h1
theorem rOg.rest (r : Rst) (e mo p : Nat) (hp : p < 3) (x : Int64) : rOg (wAt r (rX e (135 + 4 * p) + 3) x) r e mo := by
  refine ⟨rfl, fun q _ _ h1 h2 h3 => ?_⟩
  show (if q = _ then _ else _) = _
  unfold rX at *
  rw [if_neg (by omega)]
theorem rLines_fr (hmo : mo < 12) (hL : rLines r e mo l) (hf : ∀ q, q = rX e (147 + mo) ∨ (rLp e mo 0 ≤ q ∧ q < rLp e mo 54) → rS r2 q = rS r q) : rLines r2 e mo l := by
  obtain ⟨h1, h2, h3⟩ := hL
  refine ⟨(hf _ (Or.inl rfl)).trans h1, h2, fun i x hi => ?_⟩
  have hlt : i < l.length := (List.getElem?_eq_some_iff.mp hi).1
  obtain ⟨k1, k2, k3, k4⟩ := h3 i x hi
  unfold rLp rX at *
  exact ⟨(hf _ (Or.inr (by omega))).trans k1, (hf _ (Or.inr (by omega))).trans k2, (hf _ (Or.inr (by omega))).trans k3, (hf _ (Or.inr (by omega))).trans k4⟩
def rGk (r : Rst) (e ng : Nat) (w : tyW) : Prop := rS r (rX e 134) = (nI ng).toInt64 ∧ ∀ p, p < ng → rS r (rX e (135 + 4 * p)) = (gW_gk w p).toInt64 ∧ rS r (rX e (135 + 4 * p) + 1) = (gW_gs w p).toInt64
theorem rGk_og (hn : ng ≤ 3) (hmo : mo < 12) (g : rGk r e ng w) (o : rOg r2 r e mo) : rGk r2 e ng w := by
  refine ⟨(o.2 _ ?_ (Or.inl ?_) ?_ ?_ ?_).trans g.1, fun p hp => ⟨(o.2 _ ?_ (Or.inl ?_) ?_ ?_ ?_).trans (g.2 p hp).1, (o.2 _ ?_ (Or.inl ?_) ?_ ?_ ?_).trans (g.2 p hp).2⟩⟩
  all_goals first | (unfold rLp rX; omega) | (unfold rX; omega)
theorem s_rgarnL (hm : 100 ≤ m) (he : e < 3) (hmo : mo < 12) (hng : ng ≤ 3) (hl : l.length ≤ 50) : ∀ (j p : Nat) (r1 : Rst) (v8 v9 v10 v11 v12 v13 v14 v15 : Value), p + j = ng → rGk r1 e ng w → (∀ k, k < ng → rS r1 (rX e (135 + 4 * k) + 3) = (pGst w ab p).2.1 k) → rLines r1 e mo (l ++ (pGst w ab p).2.2) → ∃ r2, rn 243 6 [.ref m, .int (nI e), .int (nI mo), .long ab, .float 0, .long (pGst w ab p).1, .float 0, .int (nI p), v8, v9, v10, v11, v12, v13, v14, v15] [] (putM m r1 h) = some (none, putM m r2 h) ∧ rOg r2 r1 e mo ∧ (∀ k, k < ng → rS r2 (rX e (135 + 4 * k) + 3) = (pGst w ab ng).2.1 k) ∧ rLines r2 e mo (l ++ (pGst w ab ng).2.2) := by
  intro j
  induction j with
  | zero =>
    intro p r1 v8 v9 v10 v11 v12 v13 v14 v15 hd hg hr hL
    rw [Nat.add_zero] at hd
    subst hd
    refine ⟨r1, ?_, ⟨rfl, fun _ _ _ _ _ _ => rfl⟩, hr, hL⟩
    rw [zl_243_6]
    simp (implicitDefEqProofs := false) (disch := omega) only [ze_243, zr_243_0, zr_243_1, zr_243_3, zr_243_4, zr_243_8, zr_243_9, zr_243_10, zr_243_11, zr_243_14, zr_243_17, zr_243_18, zr_243_21, zr_243_22, zr_243_25, zr_243_26, zr_243_28, zr_243_29, zr_243_30, zr_243_33, zr_243_35, zr_243_36, zr_243_39, zr_243_41, zr_243_42, zr_243_43, zr_243_44, zr_243_46, zr_243_48, zr_243_49, zr_243_50, zr_243_53, zr_243_55, zr_243_56, zr_243_59, zr_243_61, zr_243_62, zr_243_63, zr_243_64, zr_243_67, zr_243_68, zr_243_71, zr_243_73, zr_243_74, zr_243_75, zr_243_76, zr_243_79, zr_243_80, zr_243_83, zr_243_84, zr_243_87, zr_243_89, zr_243_90, zr_243_91, zr_243_92, zr_243_93, zr_243_94, zr_243_97, zr_243_98, zr_243_101, zr_243_103, zr_243_105, zr_243_107, zr_243_110, zr_243_112, zr_243_114, zr_243_116, zr_243_117, zr_243_119, zr_243_120, zr_243_123, zr_243_125, zr_243_126, zr_243_127, zr_243_129, zr_243_131, zr_243_132, zr_243_133, zr_243_135, zr_243_137, zr_243_138, zr_243_141, zr_243_142, zr_243_145, zr_243_147, zr_243_149, zr_243_150, zr_243_153, zr_243_154, zr_243_157, zr_243_159, zr_243_160, zr_243_161, zr_243_164, zr_243_165, zr_243_168, zr_243_169, zr_243_171, zr_243_172, zr_243_173, zr_243_174, zr_243_175, zr_243_177, zr_243_179, zr_243_181, zr_243_182, zr_243_185, zr_243_188, zr_243_191, true_or, or_true, true_and, and_true, if_true, if_false, ldA_ref, ldA_null, nl_int, nl_ref, nl_fl, nl_null, c1_int, c1_ref, c1_null, kd_M, Nat.zero_add, Nat.zero_mul, Nat.one_mul, nI_add, nI_leI, nI_ltI, nI_eq, nI_mul, cmp_lt, cmp_gt, cmp_le, cmp_ge, cmp_eq, s_of (show rX e 134 < 8271 by unfold rX; omega), hg.1, l64_lt, l64_le, Nat.le_refl, zcall_some, zpush_some, zpush_none, zsum_ref, zsum_int, zsum_long, zsum_nil, zsum_null, Nat.reduceAdd, Nat.reduceLeDiff, if_true]
  | succ j ih =>
    intro p r1 v8 v9 v10 v11 v12 v13 v14 v15 hd hg hr hL
    have hp : p < ng := by omega
    have hp3 : p < 3 := by omega
    have hb4 : rX e (135 + 4 * p) + 4 ≤ 8271 := by unfold rX; omega
    rw [zl_243_6]
    obtain ⟨hk1, hk2⟩ := hg.2 p hp
    by_cases h0 : 0 < (pGst w ab p).2.1 p
    · have hlen : (l ++ (pGst w ab p).2.2).length < 54 := by
        have := pGst_len w ab p
        rw [List.length_append]; omega
      have e1 : pGst w ab (p + 1) = ((pGst w ab p).1 - pMin (pMin (pWish w p ab) ((pGst w ab p).2.1 p)) (pGst w ab p).1, vp_updL (pGst w ab p).2.1 p ((pGst w ab p).2.1 p - pMin (pMin (pWish w p ab) ((pGst w ab p).2.1 p)) (pGst w ab p).1), (pGst w ab p).2.2 ++ [(nI 5, nI p, pGRe ((pGst w ab p).2.1 p - pMin (pMin (pWish w p ab) ((pGst w ab p).2.1 p)) (pGst w ab p).1) (pMin (pWish w p ab) ((pGst w ab p).2.1 p)) (pMin (pMin (pWish w p ab) ((pGst w ab p).2.1 p)) (pGst w ab p).1), -pMin (pMin (pWish w p ab) ((pGst w ab p).2.1 p)) (pGst w ab p).1)]) := by
        rw [pGst]; exact if_pos h0
      generalize hwt : pMin (pWish w p ab) ((pGst w ab p).2.1 p) = wt at e1
      generalize htk : pMin wt (pGst w ab p).1 = tk at e1
      have hL1 : rLines (wAt r1 (rX e (135 + 4 * p) + 3) ((pGst w ab p).2.1 p - tk)) e mo (l ++ (pGst w ab p).2.2) := by
        refine rLines_fr hmo hL (fun q hq => ?_)
        show (if q = _ then _ else _) = _
        unfold rLp rX at *
        rw [if_neg (by omega)]
      obtain ⟨r2, e2, hL2, ho2⟩ := s_raddL (h := h) hm he hmo hL1 hlen (nI 5, nI p, pGRe ((pGst w ab p).2.1 p - tk) wt tk, -tk)
      have ho3 : rOg r2 r1 e mo := (rOg.of ho2).tr (rOg.rest r1 e mo p hp3 _)
      obtain ⟨r3, e3, ho4, hr4, hL4⟩ := ih (p + 1) r2 (.int (nI (rX e (135 + 4 * p)))) (.long ((pGst w ab p).2.1 p)) (.float 0) (.long wt) (.float 0) (.long tk) (.float 0) (.int (pGRe ((pGst w ab p).2.1 p - tk) wt tk)) (by omega) (rGk_og hng hmo hg ho3) (by
        intro k hk
        rw [e1]
        have hs := ho2.num hmo (show 135 + 4 * k + 3 < 147 by omega)
        have hs2 : rX e (135 + 4 * k + 3) = rX e (135 + 4 * k) + 3 := by unfold rX; omega
        rw [hs2] at hs
        rw [hs]
        show (if rX e (135 + 4 * k) + 3 = rX e (135 + 4 * p) + 3 then (pGst w ab p).2.1 p - tk else rS r1 (rX e (135 + 4 * k) + 3)) = (if k = p then (pGst w ab p).2.1 p - tk else (pGst w ab p).2.1 k)
        by_cases hkp : k = p
        · subst hkp; rw [if_pos rfl, if_pos rfl]
        · rw [if_neg hkp, if_neg (by unfold rX; omega)]
          exact hr k hk) (by rw [e1, ← List.append_assoc]; exact hL2)
      refine ⟨r3, ?_, ho4.tr ho3, hr4, hL4⟩
      rw [← e3, e1]
      dsimp only at e2 ⊢
      have hwish : pMin ((pGst w ab p).2.1 p) (if gW_gk w p = nI 0 then (gW_gs w p).toInt64 * 1000000 else (gW_gs w p).toInt64 * ab / 1000) = wt := by
        rw [pMin_comm]; exact hwt
      have hre : (if (pGst w ab p).2.1 p = tk then nI 4 else if tk = wt then nI 1 else if 0 < tk then nI 2 else nI 3) = pGRe ((pGst w ab p).2.1 p - tk) wt tk := by
        unfold pGRe
        simp only [sub0_64]
      simp (implicitDefEqProofs := false) (disch := omega) only [zr_243_8, zr_243_9, zr_243_10, zr_243_11, zr_243_14, zr_243_17, zr_243_18, zr_243_21, zr_243_22, zr_243_25, zr_243_26, zr_243_28, zr_243_29, zr_243_30, zr_243_33, zr_243_35, zr_243_36, zr_243_39, zr_243_41, zr_243_42, zr_243_43, zr_243_44, true_or, or_true, true_and, and_true, if_true, if_false, ldA_ref, ldA_null, nl_int, nl_ref, nl_fl, nl_null, c1_int, c1_ref, c1_null, kd_M, gf_M0, Nat.zero_add, Nat.zero_mul, Nat.one_mul, nI_add, nI_leI, nI_ltI, nI_eq, nI_mul, cmp_lt, cmp_gt, cmp_le, cmp_ge, cmp_eq, s_of (show rX e 134 < 8271 by unfold rX; omega), hg.1, l64_lt, l64_le, show ¬ ng ≤ p from by omega, s_at, lj_M1 (show rX e (135 + 4 * p) + 3 < 8271 by omega), hr p hp, zcall_some, zpush_some, zpush_none, zsum_ref, zsum_int, zsum_long, zsum_nil, zsum_null, Nat.reduceAdd, Nat.reduceLeDiff, if_true]
      simp (implicitDefEqProofs := false) (disch := omega) only [zr_243_46, zr_243_48, zr_243_49, zr_243_50, true_or, or_true, true_and, and_true, if_true, if_false, ldA_ref, ldA_null, nl_int, nl_ref, nl_fl, nl_null, c1_int, c1_ref, c1_null, cmp_lt, cmp_gt, cmp_le, cmp_ge, cmp_eq]
      simp (implicitDefEqProofs := false) (disch := omega) only [Int64.not_le.mpr h0, if_false]
      simp (implicitDefEqProofs := false) (disch := omega) only [zr_243_53, zr_243_55, zr_243_56, zr_243_59, zr_243_61, zr_243_62, zr_243_63, zr_243_64, zr_243_67, zr_243_68, zr_243_71, zr_243_73, zr_243_74, zr_243_75, zr_243_76, zr_243_79, zr_243_80, zr_243_83, zr_243_84, zr_243_87, zr_243_89, zr_243_90, zr_243_91, zr_243_92, zr_243_93, zr_243_94, zr_243_97, zr_243_98, zr_243_101, true_or, or_true, true_and, and_true, if_true, if_false, ldA_ref, ldA_null, nl_int, nl_ref, nl_fl, nl_null, c1_int, c1_ref, c1_null, gf_M0, Nat.zero_add, Nat.zero_mul, Nat.one_mul, nI_add, nI_leI, nI_ltI, nI_eq, nI_mul, cmp_lt, cmp_gt, cmp_le, cmp_ge, cmp_eq, lj_M1 (show rX e (135 + 4 * p) + 1 < 8271 by omega), lj_M1 (show rX e (135 + 4 * p) < 8271 by omega), hk1, hk2, i64_0, dvJ_1000, mn_f, zcall_some, zpush_some, zpush_none, zsum_ref, zsum_int, zsum_long, zsum_nil, zsum_null, Nat.reduceAdd, Nat.reduceLeDiff, if_true]
      refine Eq.trans (b := rn 243 103 [.ref m, .int (nI e), .int (nI mo), .long ab, .float 0, .long (pGst w ab p).1, .float 0, .int (nI p), .int (nI (rX e (135 + 4 * p))), .long ((pGst w ab p).2.1 p), .float 0, .long wt, .float 0, v13, v14, v15] [] (putM m r1 h)) ?_ ?_
      · by_cases hk0 : gW_gk w p = nI 0
        · rw [if_pos hk0] at hwish ⊢; rw [hwish]
        · rw [if_neg hk0] at hwish ⊢; rw [hwish]
      simp (implicitDefEqProofs := false) (disch := omega) only [zr_243_103, zr_243_105, zr_243_107, zr_243_110, zr_243_112, zr_243_114, zr_243_116, zr_243_117, zr_243_119, zr_243_120, zr_243_123, zr_243_125, zr_243_126, zr_243_127, zr_243_129, zr_243_131, zr_243_132, true_or, or_true, true_and, and_true, if_true, if_false, ldA_ref, ldA_null, nl_int, nl_ref, nl_fl, nl_null, c1_int, c1_ref, c1_null, kd_M, gf_M0, Nat.zero_add, Nat.zero_mul, Nat.one_mul, nI_add, nI_leI, nI_ltI, nI_eq, nI_mul, cmp_lt, cmp_gt, cmp_le, cmp_ge, cmp_eq, mn_f, htk, sj_S hm (show rX e (135 + 4 * p) + 3 < 8271 by omega), zcall_some, zpush_some, zpush_none, zsum_ref, zsum_int, zsum_long, zsum_nil, zsum_null, Nat.reduceAdd, Nat.reduceLeDiff, if_true]
      refine Eq.trans (b := rn 243 171 [.ref m, .int (nI e), .int (nI mo), .long ab, .float 0, .long ((pGst w ab p).1 - tk), .float 0, .int (nI p), .int (nI (rX e (135 + 4 * p))), .long ((pGst w ab p).2.1 p), .float 0, .long wt, .float 0, .long tk, .float 0, .int (pGRe ((pGst w ab p).2.1 p - tk) wt tk)] [] (putM m (wAt r1 (rX e (135 + 4 * p) + 3) ((pGst w ab p).2.1 p - tk)) h)) ?_ ?_
      · rw [← hre]
        simp (implicitDefEqProofs := false) (disch := omega) only [zr_243_133, zr_243_135, zr_243_137, zr_243_138, zr_243_141, zr_243_142, zr_243_145, zr_243_147, zr_243_149, zr_243_150, zr_243_153, zr_243_154, zr_243_157, zr_243_159, zr_243_160, zr_243_161, zr_243_164, zr_243_165, zr_243_168, zr_243_169, true_or, or_true, true_and, and_true, if_true, if_false, ldA_ref, ldA_null, nl_int, nl_ref, nl_fl, nl_null, c1_int, c1_ref, c1_null, Nat.zero_add, Nat.zero_mul, Nat.one_mul, nI_add, nI_leI, nI_ltI, nI_eq, nI_mul, cmp_lt, cmp_gt, cmp_le, cmp_ge, cmp_eq]
        by_cases c1 : (pGst w ab p).2.1 p = tk
        · rw [if_pos c1, if_pos c1]
        · rw [if_neg c1, if_neg c1]
          by_cases c2 : tk = wt
          · rw [if_pos c2, if_pos c2]
          · rw [if_neg c2, if_neg c2]
            by_cases c3 : 0 < tk
            · rw [if_neg (Int64.not_le.mpr c3), if_pos c3]
            · rw [if_pos (Int64.not_lt.mp c3), if_neg c3]
      · simp (implicitDefEqProofs := false) (disch := omega) only [zr_243_171, zr_243_172, zr_243_173, zr_243_174, zr_243_175, zr_243_177, zr_243_179, zr_243_181, zr_243_182, zr_243_185, zr_243_188, true_or, or_true, true_and, and_true, if_true, if_false, ldA_ref, ldA_null, nl_int, nl_ref, nl_fl, nl_null, c1_int, c1_ref, c1_null, kd_M, Nat.zero_add, Nat.zero_mul, Nat.one_mul, nI_add, nI_leI, nI_ltI, nI_eq, nI_mul, e2, zcall_some, zpush_some, zpush_none, zsum_ref, zsum_int, zsum_long, zsum_nil, zsum_null, Nat.reduceAdd, Nat.reduceLeDiff, if_true]
    · have e1 : pGst w ab (p + 1) = pGst w ab p := by rw [pGst]; exact if_neg h0
      have h0' : (pGst w ab p).2.1 p ≤ 0 := Int64.not_lt.mp h0
      obtain ⟨r3, e3, ho4, hr4, hL4⟩ := ih (p + 1) r1 (.int (nI (rX e (135 + 4 * p)))) (.long ((pGst w ab p).2.1 p)) (.float 0) v11 v12 v13 v14 v15 (by omega) hg (by rw [e1]; exact hr) (by rw [e1]; exact hL)
      refine ⟨r3, ?_, ho4, hr4, hL4⟩
      rw [← e3, e1]
      simp (implicitDefEqProofs := false) (disch := omega) only [zr_243_8, zr_243_9, zr_243_10, zr_243_11, zr_243_14, zr_243_17, zr_243_18, zr_243_21, zr_243_22, zr_243_25, zr_243_26, zr_243_28, zr_243_29, zr_243_30, zr_243_33, zr_243_35, zr_243_36, zr_243_39, zr_243_41, zr_243_42, zr_243_43, zr_243_44, true_or, or_true, true_and, and_true, if_true, if_false, ldA_ref, ldA_null, nl_int, nl_ref, nl_fl, nl_null, c1_int, c1_ref, c1_null, kd_M, gf_M0, Nat.zero_add, Nat.zero_mul, Nat.one_mul, nI_add, nI_leI, nI_ltI, nI_eq, nI_mul, cmp_lt, cmp_gt, cmp_le, cmp_ge, cmp_eq, s_of (show rX e 134 < 8271 by unfold rX; omega), hg.1, l64_lt, l64_le, show ¬ ng ≤ p from by omega, s_at, lj_M1 (show rX e (135 + 4 * p) + 3 < 8271 by omega), hr p hp, zcall_some, zpush_some, zpush_none, zsum_ref, zsum_int, zsum_long, zsum_nil, zsum_null, Nat.reduceAdd, Nat.reduceLeDiff, if_true]
      simp (implicitDefEqProofs := false) (disch := omega) only [zr_243_46, zr_243_48, zr_243_49, zr_243_50, true_or, or_true, true_and, and_true, if_true, if_false, ldA_ref, ldA_null, nl_int, nl_ref, nl_fl, nl_null, c1_int, c1_ref, c1_null, cmp_lt, cmp_gt, cmp_le, cmp_ge, cmp_eq]
      simp (implicitDefEqProofs := false) (disch := omega) only [h0', if_true]
      simp (implicitDefEqProofs := false) (disch := omega) only [zr_243_185, zr_243_188, true_or, or_true, true_and, and_true, if_true, if_false, ldA_ref, ldA_null, nl_int, nl_ref, nl_fl, nl_null, c1_int, c1_ref, c1_null, Nat.zero_add, Nat.zero_mul, Nat.one_mul, nI_add, nI_leI, nI_ltI, nI_eq, nI_mul]
      done
end
