/-! THE REFERENCE: a new year; closing -/
section
variable {m p e n g c : Nat} {r : Rst} {h : zH}
def wNyM (r : Rst) (e : Nat) : Nat → Rst
  | 0 => r
  | j + 1 => wAt (wAt (wAt (wAt (wNyM r e j) (rX e (2 + j)) (rS (wNyM r e j) (rX e 13))) (rX e (14 + j)) 30) (rX e (26 + j)) 0) (rX e (147 + j)) 0
theorem wNyM_o {q : Nat} : ∀ j, j ≤ 12 → (q < rX e 2 ∨ rX e 38 ≤ q) → (q < rX e 147 ∨ rX e 159 ≤ q) → rS (wNyM r e j) q = rS r q
  | 0, _, _, _ => rfl
  | j + 1, hj, h1, h2 => by
    rw [wNyM, wAt_ne (by unfold rX at *; omega), wAt_ne (by unfold rX at *; omega), wAt_ne (by unfold rX at *; omega), wAt_ne (by unfold rX at *; omega)]
    exact wNyM_o j (by omega) h1 h2
theorem wNyM_S : ∀ j, wNyM r e j = wS r (rS (wNyM r e j))
  | 0 => rfl
  | j + 1 => wS_tr (wAt_S _ _ _) (wS_tr (wAt_S _ _ _) (wS_tr (wAt_S _ _ _) (wS_tr (wAt_S _ _ _) (wNyM_S j))))
theorem wNyM_13 : ∀ j, j ≤ 12 → rS (wNyM r e j) (rX e 13) = rS r (rX e 13)
  | 0, _ => rfl
  | j + 1, hj => by
    rw [wNyM, wAt_ne (by unfold rX; omega), wAt_ne (by unfold rX; omega), wAt_ne (by unfold rX; omega)]
    by_cases c : j = 11
    · subst c
      rw [wAt_eq]
      exact wNyM_13 11 (by omega)
    · rw [wAt_ne (by unfold rX; omega)]
      exact wNyM_13 j (by omega)
theorem wNyM_at : ∀ j, j ≤ 12 → ∀ i, i < j → rS (wNyM r e j) (rX e (2 + i)) = rS r (rX e 13) ∧ rS (wNyM r e j) (rX e (14 + i)) = 30 ∧ rS (wNyM r e j) (rX e (26 + i)) = 0 ∧ rS (wNyM r e j) (rX e (147 + i)) = 0
  | 0, _, i, hi => absurd hi (Nat.not_lt_zero _)
  | j + 1, hj, i, hi => by
    rw [wNyM]
    by_cases c : i = j
    · subst c
      refine ⟨?_, ?_, ?_, wAt_eq _ _ _⟩
      · rw [wAt_ne (by unfold rX; omega), wAt_ne (by unfold rX; omega), wAt_ne (by unfold rX; omega), wAt_eq]
        exact wNyM_13 i (by omega)
      · rw [wAt_ne (by unfold rX; omega), wAt_ne (by unfold rX; omega), wAt_eq]
      · rw [wAt_ne (by unfold rX; omega), wAt_eq]
    · obtain ⟨a1, a2, a3, a4⟩ := wNyM_at j (by omega) i (by omega)
      refine ⟨?_, ?_, ?_, ?_⟩
      all_goals (rw [wAt_ne (by unfold rX; omega), wAt_ne (by unfold rX; omega), wAt_ne (by unfold rX; omega), wAt_ne (by unfold rX; omega)]; assumption)
def wRp (r : Rst) (e : Nat) : Nat → Rst × Nat
  | 0 => (r, 0)
  | k + 1 => if 0 < rS (wRp r e k).1 (rX e (135 + 4 * k + 3)) then (wExc (wRp r e k).1 e (wRp r e k).2 k 4, (wRp r e k).2 + 1) else wRp r e k
theorem wRp_le (k : Nat) : (wRp r e k).2 ≤ k := by
  induction k with
  | zero => exact Nat.le_refl _
  | succ k ih =>
    rw [wRp]
    split
    · show (wRp r e k).2 + 1 ≤ _; omega
    · omega
theorem wRp_o {q : Nat} : ∀ k, k ≤ 3 → (q < rX e 135 ∨ rX e 147 ≤ q) → rS (wRp r e k).1 q = rS r q
  | 0, _, _ => rfl
  | k + 1, hk, hq => by
    have hl := wRp_le (r := r) (e := e) k
    rw [wRp]
    split
    · exact ((wExc_at (e := e) (r := (wRp r e k).1) (show (wRp r e k).2 < 3 by omega) (show k < 3 by omega) 4 (by omega)).2.1 q hq).trans (wRp_o k (by omega) hq)
    · exact wRp_o k (by omega) hq
theorem wRp_S : ∀ k, k ≤ 3 → (wRp r e k).1 = wS r (rS (wRp r e k).1)
  | 0, _ => rfl
  | k + 1, hk => by
    have hl := wRp_le (r := r) (e := e) k
    rw [wRp]
    split
    · exact wS_tr (wExc_at (e := e) (r := (wRp r e k).1) (show (wRp r e k).2 < 3 by omega) (show k < 3 by omega) 4 (by omega)).2.2 (wRp_S k (by omega))
    · exact wRp_S k (by omega)
def wNyE (r : Rst) (e g : Nat) : Rst := wAt (wRp (wNyM r e 12) e g).1 (rX e 134) (nI (wRp (wNyM r e 12) e g).2).toInt64
theorem s_rnyK (hm : 100 ≤ m) (he : e < 3) (hg : g ≤ 3) {v : Value} (hgr : rS r (rX e 134) = (nI g).toInt64) : ∀ (d k : Nat), k + d = g → rn 244 122 [.ref m, .int (nI e), .int (nI (wRp r e k).2), .int (nI k)] [] (putM m (wRp r e k).1 h) = rn 244 35 [.ref m, .int (nI (e + 1)), .int (nI (wRp r e g).2), .int (nI g)] [] (putM m (wAt (wRp r e g).1 (rX e 134) (nI (wRp r e g).2).toInt64) h) := by
  have b1 : rX e 134 < 8271 := by unfold rX; omega
  intro d
  induction d with
  | zero =>
    intro k hk
    rw [Nat.add_zero] at hk
    subst hk
    have hg2 : rS (wRp r e k).1 (rX e 134) = (nI k).toInt64 := (wRp_o k hg (Or.inl (by unfold rX; omega))).trans hgr
    rw [zl_244_122]
    simp (implicitDefEqProofs := false) (disch := omega) only [ze_244, zr_244_0, zr_244_1, zr_244_4, zr_244_6, zr_244_9, zr_244_11, zr_244_12, zr_244_13, zr_244_16, zr_244_17, zr_244_20, zr_244_21, zr_244_22, zr_244_23, zr_244_24, zr_244_27, zr_244_28, zr_244_29, zr_244_30, zr_244_31, zr_244_32, zr_244_33, zr_244_34, zr_244_36, zr_244_37, zr_244_40, zr_244_41, zr_244_43, zr_244_45, zr_244_48, zr_244_49, zr_244_52, zr_244_53, zr_244_54, zr_244_55, zr_244_56, zr_244_59, zr_244_60, zr_244_61, zr_244_63, zr_244_66, zr_244_67, zr_244_68, zr_244_71, zr_244_72, zr_244_74, zr_244_75, zr_244_76, zr_244_79, zr_244_82, zr_244_83, zr_244_84, zr_244_87, zr_244_88, zr_244_90, zr_244_91, zr_244_92, zr_244_95, zr_244_96, zr_244_97, zr_244_98, zr_244_101, zr_244_102, zr_244_105, zr_244_106, zr_244_107, zr_244_110, zr_244_111, zr_244_112, zr_244_115, zr_244_118, zr_244_119, zr_244_120, zr_244_121, zr_244_123, zr_244_124, zr_244_125, zr_244_126, zr_244_129, zr_244_132, zr_244_133, zr_244_136, zr_244_137, zr_244_138, zr_244_141, zr_244_142, zr_244_143, zr_244_144, zr_244_145, zr_244_146, zr_244_147, zr_244_150, zr_244_151, zr_244_152, zr_244_155, zr_244_156, zr_244_157, zr_244_158, zr_244_159, zr_244_162, zr_244_165, zr_244_168, zr_244_171, zr_244_172, zr_244_175, zr_244_176, zr_244_179, zr_244_182, zr_244_183, zr_244_184, zr_244_185, zr_244_188, zr_244_191, zr_244_192, zr_244_195, zr_244_196, zr_244_197, zr_244_198, true_or, or_true, true_and, and_true, if_true, if_false, ldA_ref, ldA_null, nl_int, nl_ref, nl_fl, nl_null, c1_int, c1_ref, c1_null, Nat.zero_add, Nat.zero_mul, Nat.one_mul, nI_add, nI_leI, nI_ltI, nI_eq, nI_mul, cmp_lt, cmp_gt, cmp_le, cmp_ge, cmp_eq, kd_M, gf_M0, s_at, s_of b1, hg2, i64_lt, i64_le, Nat.le_refl, sj_S hm b1, zcall_some, zpush_some, zpush_none, zsum_ref, zsum_int, zsum_long, zsum_nil, zsum_null, Nat.reduceAdd, Nat.reduceLeDiff, if_true]
  | succ d ih =>
    intro k hk
    have e1 := ih (k + 1) (by omega)
    have hg2 : rS (wRp r e k).1 (rX e 134) = (nI g).toInt64 := (wRp_o k (by omega) (Or.inl (by unfold rX; omega))).trans hgr
    have b2 : rX e (135 + 4 * k + 3) < 8271 := by unfold rX; omega
    have hl := wRp_le (r := r) (e := e) k
    rw [zl_244_122]
    rw [wRp] at e1
    by_cases h0 : 0 < rS (wRp r e k).1 (rX e (135 + 4 * k + 3))
    · rw [if_pos h0] at e1
      simp (implicitDefEqProofs := false) (disch := omega) only [ze_244, zr_244_0, zr_244_1, zr_244_4, zr_244_6, zr_244_9, zr_244_11, zr_244_12, zr_244_13, zr_244_16, zr_244_17, zr_244_20, zr_244_21, zr_244_22, zr_244_23, zr_244_24, zr_244_27, zr_244_28, zr_244_29, zr_244_30, zr_244_31, zr_244_32, zr_244_33, zr_244_34, zr_244_36, zr_244_37, zr_244_40, zr_244_41, zr_244_43, zr_244_45, zr_244_48, zr_244_49, zr_244_52, zr_244_53, zr_244_54, zr_244_55, zr_244_56, zr_244_59, zr_244_60, zr_244_61, zr_244_63, zr_244_66, zr_244_67, zr_244_68, zr_244_71, zr_244_72, zr_244_74, zr_244_75, zr_244_76, zr_244_79, zr_244_82, zr_244_83, zr_244_84, zr_244_87, zr_244_88, zr_244_90, zr_244_91, zr_244_92, zr_244_95, zr_244_96, zr_244_97, zr_244_98, zr_244_101, zr_244_102, zr_244_105, zr_244_106, zr_244_107, zr_244_110, zr_244_111, zr_244_112, zr_244_115, zr_244_118, zr_244_119, zr_244_120, zr_244_121, zr_244_123, zr_244_124, zr_244_125, zr_244_126, zr_244_129, zr_244_132, zr_244_133, zr_244_136, zr_244_137, zr_244_138, zr_244_141, zr_244_142, zr_244_143, zr_244_144, zr_244_145, zr_244_146, zr_244_147, zr_244_150, zr_244_151, zr_244_152, zr_244_155, zr_244_156, zr_244_157, zr_244_158, zr_244_159, zr_244_162, zr_244_165, zr_244_168, zr_244_171, zr_244_172, zr_244_175, zr_244_176, zr_244_179, zr_244_182, zr_244_183, zr_244_184, zr_244_185, zr_244_188, zr_244_191, zr_244_192, zr_244_195, zr_244_196, zr_244_197, zr_244_198, true_or, or_true, true_and, and_true, if_true, if_false, ldA_ref, ldA_null, nl_int, nl_ref, nl_fl, nl_null, c1_int, c1_ref, c1_null, Nat.zero_add, Nat.zero_mul, Nat.one_mul, nI_add, nI_leI, nI_ltI, nI_eq, nI_mul, cmp_lt, cmp_gt, cmp_le, cmp_ge, cmp_eq, kd_M, s_of b1, hg2, i64_lt, i64_le, show ¬ g ≤ k from by omega, s_of b2, Int64.not_le.mpr h0, s_rexc hm he (show (wRp r e k).2 < 3 by omega) (show k < 3 by omega), zcall_some, zpush_some, zpush_none, zsum_ref, zsum_int, zsum_long, zsum_nil, zsum_null, Nat.reduceAdd, Nat.reduceLeDiff, if_true]
      exact e1
    · rw [if_neg h0] at e1
      simp (implicitDefEqProofs := false) (disch := omega) only [ze_244, zr_244_0, zr_244_1, zr_244_4, zr_244_6, zr_244_9, zr_244_11, zr_244_12, zr_244_13, zr_244_16, zr_244_17, zr_244_20, zr_244_21, zr_244_22, zr_244_23, zr_244_24, zr_244_27, zr_244_28, zr_244_29, zr_244_30, zr_244_31, zr_244_32, zr_244_33, zr_244_34, zr_244_36, zr_244_37, zr_244_40, zr_244_41, zr_244_43, zr_244_45, zr_244_48, zr_244_49, zr_244_52, zr_244_53, zr_244_54, zr_244_55, zr_244_56, zr_244_59, zr_244_60, zr_244_61, zr_244_63, zr_244_66, zr_244_67, zr_244_68, zr_244_71, zr_244_72, zr_244_74, zr_244_75, zr_244_76, zr_244_79, zr_244_82, zr_244_83, zr_244_84, zr_244_87, zr_244_88, zr_244_90, zr_244_91, zr_244_92, zr_244_95, zr_244_96, zr_244_97, zr_244_98, zr_244_101, zr_244_102, zr_244_105, zr_244_106, zr_244_107, zr_244_110, zr_244_111, zr_244_112, zr_244_115, zr_244_118, zr_244_119, zr_244_120, zr_244_121, zr_244_123, zr_244_124, zr_244_125, zr_244_126, zr_244_129, zr_244_132, zr_244_133, zr_244_136, zr_244_137, zr_244_138, zr_244_141, zr_244_142, zr_244_143, zr_244_144, zr_244_145, zr_244_146, zr_244_147, zr_244_150, zr_244_151, zr_244_152, zr_244_155, zr_244_156, zr_244_157, zr_244_158, zr_244_159, zr_244_162, zr_244_165, zr_244_168, zr_244_171, zr_244_172, zr_244_175, zr_244_176, zr_244_179, zr_244_182, zr_244_183, zr_244_184, zr_244_185, zr_244_188, zr_244_191, zr_244_192, zr_244_195, zr_244_196, zr_244_197, zr_244_198, true_or, or_true, true_and, and_true, if_true, if_false, ldA_ref, ldA_null, nl_int, nl_ref, nl_fl, nl_null, c1_int, c1_ref, c1_null, Nat.zero_add, Nat.zero_mul, Nat.one_mul, nI_add, nI_leI, nI_ltI, nI_eq, nI_mul, cmp_lt, cmp_gt, cmp_le, cmp_ge, cmp_eq, kd_M, s_of b1, hg2, i64_lt, i64_le, show ¬ g ≤ k from by omega, s_of b2, Int64.not_lt.mp h0, zcall_some, zpush_some, zpush_none, zsum_ref, zsum_int, zsum_long, zsum_nil, zsum_null, Nat.reduceAdd, Nat.reduceLeDiff, if_true]
      exact e1
theorem s_rnyM (hm : 100 ≤ m) (he : e < 3) {v : Value} : ∀ (d j : Nat), j + d = 12 → rn 244 42 [.ref m, .int (nI e), .int (nI j), v] [] (putM m (wNyM r e j) h) = rn 244 122 [.ref m, .int (nI e), .int (nI 0), .int (nI 0)] [] (putM m (wNyM r e 12) h) := by
  intro d
  induction d with
  | zero =>
    intro j hj
    rw [Nat.add_zero] at hj
    subst hj
    rw [zl_244_42]
    simp (implicitDefEqProofs := false) (disch := omega) only [zr_244_43, zr_244_45, zr_244_118, zr_244_119, zr_244_120, zr_244_121, true_or, or_true, true_and, and_true, if_true, if_false, ldA_ref, ldA_null, nl_int, nl_ref, nl_fl, nl_null, c1_int, c1_ref, c1_null, Nat.zero_add, Nat.zero_mul, Nat.one_mul, nI_add, nI_leI, nI_ltI, nI_eq, nI_mul, Nat.le_refl]
  | succ d ih =>
    intro j hj
    have e1 := ih (j + 1) (by omega)
    rw [wNyM] at e1
    rw [zl_244_42]
    simp (implicitDefEqProofs := false) (disch := omega) only [zr_244_43, zr_244_45, zr_244_48, zr_244_49, zr_244_52, zr_244_53, zr_244_54, zr_244_55, zr_244_56, zr_244_59, zr_244_60, zr_244_61, zr_244_63, zr_244_66, zr_244_67, zr_244_68, zr_244_71, zr_244_72, zr_244_74, zr_244_75, zr_244_76, zr_244_79, zr_244_82, zr_244_83, zr_244_84, zr_244_87, zr_244_88, zr_244_90, zr_244_91, zr_244_92, zr_244_95, zr_244_96, zr_244_97, zr_244_98, zr_244_101, zr_244_102, zr_244_105, zr_244_106, zr_244_107, zr_244_110, zr_244_111, zr_244_112, zr_244_115, true_or, or_true, true_and, and_true, if_true, if_false, ldA_ref, ldA_null, nl_int, nl_ref, nl_fl, nl_null, c1_int, c1_ref, c1_null, Nat.zero_add, Nat.zero_mul, Nat.one_mul, nI_add, nI_leI, nI_ltI, nI_eq, nI_mul, kd_M, gf_M0, show ¬ 12 ≤ j from by omega, s_at, s_of (show rX e 13 < 8271 by unfold rX; omega), sj_S hm (show rX e (2 + j) < 8271 by unfold rX; omega), sj_S hm (show rX e (14 + j) < 8271 by unfold rX; omega), sj_S hm (show rX e (26 + j) < 8271 by unfold rX; omega), sj_S hm (show rX e (147 + j) < 8271 by unfold rX; omega), zcall_some, zpush_some, zpush_none, zsum_ref, zsum_int, zsum_long, zsum_nil, zsum_null, Nat.reduceAdd, Nat.reduceLeDiff, if_true]
    exact e1
theorem s_rnyE (hm : 100 ≤ m) (he : e < 3) (hg : g ≤ 3) {v v2 : Value} (hgr : rS r (rX e 134) = (nI g).toInt64) : ∃ w2 w3, rn 244 35 [.ref m, .int (nI e), v, v2] [] (putM m r h) = rn 244 35 [.ref m, .int (nI (e + 1)), w2, w3] [] (putM m (wNyE r e g) h) := by
  have e1 := s_rnyM (r := r) (h := h) (v := v2) hm he 12 0 (by omega)
  have hg2 : rS (wNyM r e 12) (rX e 134) = (nI g).toInt64 := (wNyM_o 12 (by omega) (Or.inr (by unfold rX; omega)) (Or.inl (by unfold rX; omega))).trans hgr
  have e2 := s_rnyK (r := wNyM r e 12) (h := h) (v := v) hm he hg hg2 g 0 (by omega)
  refine ⟨.int (nI (wRp (wNyM r e 12) e g).2), .int (nI g), ?_⟩
  unfold wNyE
  rw [← e2]
  rw [wRp]
  rw [← e1]
  rw [zl_244_35]
  simp (implicitDefEqProofs := false) (disch := omega) only [zr_244_36, zr_244_37, zr_244_40, zr_244_41, true_or, or_true, true_and, and_true, if_true, if_false, ldA_ref, ldA_null, nl_int, nl_ref, nl_fl, nl_null, c1_int, c1_ref, c1_null, Nat.zero_add, Nat.zero_mul, Nat.one_mul, nI_add, nI_leI, nI_ltI, nI_eq, nI_mul, show ¬ 3 ≤ e from by omega]
  rfl
def wNy (r : Rst) (gs : Nat → Nat) : Nat → Rst
  | 0 => r
  | j + 1 => wNyE (wNy r gs j) j (gs j)
theorem wNyE_o {q : Nat} (hg : g ≤ 3) (hq : q < rX e 2 ∨ rX e 159 ≤ q) : rS (wNyE r e g) q = rS r q := by
  unfold wNyE
  rw [wAt_ne (by unfold rX at *; omega), wRp_o g hg (by unfold rX at *; omega), wNyM_o 12 (by omega) (by unfold rX at *; omega) (by unfold rX at *; omega)]
theorem wNyE_S (hg : g ≤ 3) : wNyE r e g = wS r (rS (wNyE r e g)) := wS_tr (wAt_S _ _ _) (wS_tr (wRp_S g hg) (wNyM_S 12))
theorem s_rnewYear {gs : Nat → Nat} (hm : 100 ≤ m) (hp : p ≤ 6) (hpm : rPm r = nI p) (hc : c ≤ 12) (hcl : rS r 0 = (nI c).toInt64) (hg : ∀ e, e < 3 → gs e ≤ 3 ∧ rS r (rX e 134) = (nI (gs e)).toInt64) : ev 244 [.ref m] (putM m r h) = if c < 12 then some (some (.int (-2)), putM m r h) else some (some (.int (rS r 1 + 1).toInt32), putM m (wNy (wAt (wAt (rChg r p) 0 0) 1 (rS r 1 + 1)) gs 3) h) := by
  by_cases h0 : c < 12
  · rw [if_pos h0]
    simp (implicitDefEqProofs := false) (disch := omega) only [ze_244, zr_244_0, zr_244_1, zr_244_4, zr_244_6, zr_244_9, zr_244_11, zr_244_12, zr_244_13, zr_244_16, zr_244_17, zr_244_20, zr_244_21, zr_244_22, zr_244_23, zr_244_24, zr_244_27, zr_244_28, zr_244_29, zr_244_30, zr_244_31, zr_244_32, zr_244_33, zr_244_34, zr_244_36, zr_244_37, zr_244_40, zr_244_41, zr_244_43, zr_244_45, zr_244_48, zr_244_49, zr_244_52, zr_244_53, zr_244_54, zr_244_55, zr_244_56, zr_244_59, zr_244_60, zr_244_61, zr_244_63, zr_244_66, zr_244_67, zr_244_68, zr_244_71, zr_244_72, zr_244_74, zr_244_75, zr_244_76, zr_244_79, zr_244_82, zr_244_83, zr_244_84, zr_244_87, zr_244_88, zr_244_90, zr_244_91, zr_244_92, zr_244_95, zr_244_96, zr_244_97, zr_244_98, zr_244_101, zr_244_102, zr_244_105, zr_244_106, zr_244_107, zr_244_110, zr_244_111, zr_244_112, zr_244_115, zr_244_118, zr_244_119, zr_244_120, zr_244_121, zr_244_123, zr_244_124, zr_244_125, zr_244_126, zr_244_129, zr_244_132, zr_244_133, zr_244_136, zr_244_137, zr_244_138, zr_244_141, zr_244_142, zr_244_143, zr_244_144, zr_244_145, zr_244_146, zr_244_147, zr_244_150, zr_244_151, zr_244_152, zr_244_155, zr_244_156, zr_244_157, zr_244_158, zr_244_159, zr_244_162, zr_244_165, zr_244_168, zr_244_171, zr_244_172, zr_244_175, zr_244_176, zr_244_179, zr_244_182, zr_244_183, zr_244_184, zr_244_185, zr_244_188, zr_244_191, zr_244_192, zr_244_195, zr_244_196, zr_244_197, zr_244_198, ze_227, zr_227_0, zr_227_1, zr_227_4, zr_227_5, zr_227_6, zr_227_7, true_or, or_true, true_and, and_true, if_true, if_false, ldA_ref, ldA_null, nl_int, nl_ref, nl_fl, nl_null, c1_int, c1_ref, c1_null, Nat.zero_add, Nat.zero_mul, Nat.one_mul, nI_add, nI_leI, nI_ltI, nI_eq, nI_mul, kd_M, gf_M0, lj_M1 (show 0 < 8271 by omega), hcl, i64_b, show ¬ 12 ≤ c from by omega, zcall_some, zpush_some, zpush_none, zsum_ref, zsum_int, zsum_long, zsum_nil, zsum_null, Nat.reduceAdd, Nat.reduceLeDiff, if_true]
  · rw [if_neg h0]
    generalize hr0 : wAt (wAt (rChg r p) 0 0) 1 (rS r 1 + 1) = r0
    have k0 : ∀ q, 2 ≤ q → rS r0 q = rS r q := fun q hq => by rw [← hr0, wAt_ne (by omega), wAt_ne (by omega), rChg_S]
    have k1 : rS r0 1 = rS r 1 + 1 := by rw [← hr0, wAt_eq]
    obtain ⟨a2, a3, e0⟩ := s_rnyE (r := r0) (h := h) (v := .float 0) (v2 := .float 0) hm (show 0 < 3 by omega) (hg 0 (by omega)).1 ((k0 _ (by unfold rX; omega)).trans (hg 0 (by omega)).2)
    obtain ⟨b2, b3, e1⟩ := s_rnyE (r := wNyE r0 0 (gs 0)) (h := h) (v := a2) (v2 := a3) hm (show 1 < 3 by omega) (hg 1 (by omega)).1 ((wNyE_o (hg 0 (by omega)).1 (Or.inr (by unfold rX; omega))).trans ((k0 _ (by unfold rX; omega)).trans (hg 1 (by omega)).2))
    obtain ⟨c2, c3, e2⟩ := s_rnyE (r := wNyE (wNyE r0 0 (gs 0)) 1 (gs 1)) (h := h) (v := b2) (v2 := b3) hm (show 2 < 3 by omega) (hg 2 (by omega)).1 ((wNyE_o (hg 1 (by omega)).1 (Or.inr (by unfold rX; omega))).trans ((wNyE_o (hg 0 (by omega)).1 (Or.inr (by unfold rX; omega))).trans ((k0 _ (by unfold rX; omega)).trans (hg 2 (by omega)).2)))
    have kf : rS (wNy r0 gs 3) 1 = rS r 1 + 1 := by
      show rS (wNyE (wNyE (wNyE r0 0 (gs 0)) 1 (gs 1)) 2 (gs 2)) 1 = _
      rw [wNyE_o (hg 2 (by omega)).1 (Or.inl (by unfold rX; omega)), wNyE_o (hg 1 (by omega)).1 (Or.inl (by unfold rX; omega)), wNyE_o (hg 0 (by omega)).1 (Or.inl (by unfold rX; omega)), k1]
    have a1 : ev 244 [.ref m] (putM m r h) = rn 244 35 [.ref m, .int (nI 0), .float 0, .float 0] [] (putM m r0 h) := by
      rw [← hr0]
      have hx : rS (wAt (rChg r p) 0 0) 1 = rS r 1 := by rw [wAt_ne (by omega), rChg_S]
      simp (implicitDefEqProofs := false) (disch := omega) only [ze_244, zr_244_0, zr_244_1, zr_244_4, zr_244_6, zr_244_9, zr_244_11, zr_244_12, zr_244_13, zr_244_16, zr_244_17, zr_244_20, zr_244_21, zr_244_22, zr_244_23, zr_244_24, zr_244_27, zr_244_28, zr_244_29, zr_244_30, zr_244_31, zr_244_32, zr_244_33, zr_244_34, ze_227, zr_227_0, zr_227_1, zr_227_4, zr_227_5, zr_227_6, zr_227_7, true_or, or_true, true_and, and_true, if_true, if_false, ldA_ref, ldA_null, nl_int, nl_ref, nl_fl, nl_null, c1_int, c1_ref, c1_null, Nat.zero_add, Nat.zero_mul, Nat.one_mul, nI_add, nI_leI, nI_ltI, nI_eq, nI_mul, kd_M, gf_M0, lj_M1 (show 0 < 8271 by omega), lj_M1 (show 1 < 8271 by omega), hcl, i64_b, show 12 ≤ c from by omega, s_rchange hm hp hpm, sj_S hm (show 0 < 8271 by omega), sj_S hm (show 1 < 8271 by omega), hx, c1_int, c1_ref, zcall_some, zpush_some, zpush_none, zsum_ref, zsum_int, zsum_long, zsum_nil, zsum_null, Nat.reduceAdd, Nat.reduceLeDiff, if_true]
    rw [a1, e0, e1, e2, zl_244_35]
    simp (implicitDefEqProofs := false) (disch := omega) only [zr_244_36, zr_244_37, zr_244_191, zr_244_192, zr_244_195, zr_244_196, zr_244_197, zr_244_198, true_or, or_true, true_and, and_true, if_true, if_false, ldA_ref, ldA_null, nl_int, nl_ref, nl_fl, nl_null, c1_int, c1_ref, c1_null, Nat.zero_add, Nat.zero_mul, Nat.one_mul, nI_add, nI_leI, nI_ltI, nI_eq, nI_mul, gf_M0, Nat.le_refl, lj_M1 (show 1 < 8271 by omega)]
    rw [← kf]
    rfl
theorem s_rcloseMonth {mo : Nat} {r2 : Rst} (hm : 100 ≤ m) (hp : p ≤ 6) (hpm : rPm r = nI p) (hcl : rS r 0 = (nI mo).toInt64) (hmo : mo < 12) (e1 : ev 228 [.ref m] (putM m (rChg r p) h) = some (some (.int (nI mo)), putM m r2 h)) : ev 226 [.ref m] (putM m r h) = some (some (.int (nI mo)), putM m r2 h) := by
  simp (implicitDefEqProofs := false) (disch := omega) only [ze_226, zr_226_0, zr_226_1, zr_226_4, zr_226_6, zr_226_9, zr_226_11, zr_226_12, zr_226_13, zr_226_16, zr_226_17, zr_226_20, ze_227, zr_227_0, zr_227_1, zr_227_4, zr_227_5, zr_227_6, zr_227_7, true_or, or_true, true_and, and_true, if_true, if_false, ldA_ref, ldA_null, nl_int, nl_ref, nl_fl, nl_null, c1_int, c1_ref, c1_null, Nat.zero_add, Nat.zero_mul, Nat.one_mul, nI_add, nI_leI, nI_ltI, nI_eq, nI_mul, kd_M, gf_M0, lj_M1 (show 0 < 8271 by omega), hcl, i64_b, show mo ≠ 12 from by omega, s_rchange hm hp hpm, e1, zcall_some, zpush_some, zpush_none, zsum_ref, zsum_int, zsum_long, zsum_nil, zsum_null, Nat.reduceAdd, Nat.reduceLeDiff, if_true]
theorem s_rcloseNone (hcl : rS r 0 = (nI 12).toInt64) : ev 226 [.ref m] (putM m r h) = some (some (.int (-2)), putM m r h) := by
  simp (implicitDefEqProofs := false) (disch := omega) only [ze_226, zr_226_0, zr_226_1, zr_226_4, zr_226_6, zr_226_9, zr_226_11, zr_226_12, zr_226_13, zr_226_16, zr_226_17, zr_226_20, ze_227, zr_227_0, zr_227_1, zr_227_4, zr_227_5, zr_227_6, zr_227_7, true_or, or_true, true_and, and_true, if_true, if_false, ldA_ref, ldA_null, nl_int, nl_ref, nl_fl, nl_null, c1_int, c1_ref, c1_null, Nat.zero_add, Nat.zero_mul, Nat.one_mul, nI_add, nI_leI, nI_ltI, nI_eq, nI_mul, kd_M, gf_M0, lj_M1 (show 0 < 8271 by omega), hcl, i64_b, zcall_some, zpush_some, zpush_none, zsum_ref, zsum_int, zsum_long, zsum_nil, zsum_null, Nat.reduceAdd, Nat.reduceLeDiff, if_true]
end
