/-! THE REFERENCE: closing a month for one employee -/
theorem pMax_comm (x y : Int64) : pMax x y = pMax y x := by
  unfold pMax
  by_cases h1 : y < x
  · rw [if_pos h1, if_neg (fun h2 => Int64.lt_irrefl (Int64.lt_trans h1 h2))]
  · by_cases h2 : x < y
    · rw [if_neg h1, if_pos h2]
    · rw [if_neg h1, if_neg h2]
      exact Int64.le_antisymm (Int64.not_lt.mp h2) (Int64.not_lt.mp h1)
section
variable {m e n mo ng : Nat} {r r2 r3 : Rst} {h : zH} {l : List Ln} {w : tyW} {f : Int32}
/-- what an employee's numbers are before a closing -/
def rPre (r : Rst) (e mo n ng : Nat) (w : tyW) (D : Nat → Int64) (f : Int32) : Prop :=
  (∀ k m2, k < 5 → m2 ≤ mo → rDue r n e m2 k = D (k * 12 + m2)) ∧ (∀ k m2, k < 4 → m2 < mo → rSet r e m2 k = gW_am w (k * 12 + m2)) ∧ (∀ m2, m2 < mo → rReason r e m2 = pReason w m2 f) ∧ rLines r e mo [] ∧ rS r (rX e 1) = gW_ow w ∧ rS r (rX e 0) = (gW_fl w).toInt64 ∧ rGk r e ng w ∧ (∀ k, k < ng → rS r (rX e (135 + 4 * k) + 3) = gW_gr w k)
/-- and after it -/
def rPost (r2 r : Rst) (e mo n ng : Nat) (w : tyW) (D : Nat → Int64) (f : Int32) : Prop :=
  rStd r2 r e (mo + 1) D ∧ rLines r2 e mo (pL5 w D mo f ng) ∧ rS r2 (rX e 1) = pOw w D mo f ∧ (∀ k, k < ng → rS r2 (rX e (135 + 4 * k) + 3) = gW_gr (pW3 w D mo f ng) k) ∧ r2 = wS r (rS r2) ∧
  ∀ q, q ≠ rX e 1 → (q < rX e 38 ∨ rX e 134 ≤ q) → q ≠ rX e 138 → q ≠ rX e 142 → q ≠ rX e 146 → q ≠ rX e (147 + mo) → (q < rLp e mo 0 ∨ rLp e mo 54 ≤ q) → rS r2 q = rS r q
theorem pL2_len (w : tyW) (D : Nat → Int64) (m : Nat) (f : Int32) : (pL2 w D m f).length ≤ 5 + 4 * m := by
  have := pLs_len w D m f m
  unfold pL2
  split
  · omega
  · rw [List.length_append]; simp; omega
theorem rStd.fr {D : Nat → Int64} {k : Nat} (hk : k ≤ 12) (a : rStd r2 r e k D) (hf : ∀ q, rX e 38 ≤ q → q < rX e 134 → rS r3 q = rS r2 q) : rStd r3 r e k D := by
  intro m2 h2
  obtain ⟨a1, a2, a3, a4, a5⟩ := a m2 h2
  exact ⟨fun i hi => (hf _ (by unfold rX; omega) (by unfold rX; omega)).trans (a1 i hi), (hf _ (by unfold rX; omega) (by unfold rX; omega)).trans a2, (hf _ (by unfold rX; omega) (by unfold rX; omega)).trans a3, (hf _ (by unfold rX; omega) (by unfold rX; omega)).trans a4, (hf _ (by unfold rX; omega) (by unfold rX; omega)).trans a5⟩
theorem s_rcloseFor {D : Nat → Int64} (hm : 100 ≤ m) (hn : n ≤ 5) (hb : rS r 7 = (nI n).toInt64) (he : e < 3) (hmo : mo < 12) (hng : ng ≤ 3) (hp : rPre r e mo n ng w D f) : ∃ r2, ev 229 [.ref m, .int (nI e), .int (nI mo)] (putM m r h) = some (none, putM m r2 h) ∧ rPost r2 r e mo n ng w D f := by
  obtain ⟨hD, hA, hr, hL, how, hfl, hg, hrs⟩ := hp
  have b0 : rX e 0 < 8271 := by unfold rX; omega
  have b1 : rX e 1 < 8271 := by unfold rX; omega
  obtain ⟨r1, e1, ho1, hL1⟩ := s_raddDue (h := h) (w := w) (re := fun m2 => pReason w m2 f) hm hn hb he hmo (fun k m2 hk h2 => hD k m2 (by omega) h2) hA hr hL
  rw [← qLs_eq w D mo f mo (by omega)] at hL1
  have hD1 : ∀ k m2, k < 5 → m2 ≤ mo → rDue r1 n e m2 k = D (k * 12 + m2) := fun k m2 hk h2 => (rDue_fr (ho1.fr hmo) hn (by omega) k).trans (hD k m2 hk h2)
  have hst := wStl_std (r := r1) (e := e) (D := D) hn (mo + 1) (by omega) (fun i m2 hi h2 => hD1 i m2 (by omega) (by omega))
  have hsf : ∀ q, q < rX e 38 ∨ rX e 134 ≤ q → rS (wStl r1 n e (mo + 1)) q = rS r1 q := fun q hq => wStl_ne (mo + 1) (by omega) hq
  have hsS := wStl_S (r := r1) (n := n) (e := e) (mo + 1)
  have frA := wStl_fr r1 n e (mo + 1)
  generalize wStl r1 n e (mo + 1) = rA at e1 hst hsf hsS frA
  have hLA : rLines rA e mo (pLs w D mo f mo) := rLines_fr hmo hL1 (fun q hq => hsf q (Or.inr (by (try unfold rLp at *); (try unfold rX at *); omega)))
  have hlen0 := pLs_len w D mo f mo
  have owA : rS rA (rX e 1) = gW_ow w := by
    rw [hsf _ (Or.inl (by unfold rX; omega)), ho1.num hmo (by omega)]; exact how
  have c1 : ∃ rB, ev 229 [.ref m, .int (nI e), .int (nI mo)] (putM m r h) = rn 229 33 [.ref m, .int (nI e), .int (nI mo), .float 0, .float 0, .float 0, .float 0, .float 0, .float 0] [] (putM m rB h) ∧ rOut rB rA e mo ∧ rLines rB e mo (pL2 w D mo f) := by
    by_cases h0 : gW_ow w = 0
    · refine ⟨rA, ?_, rOut.rf rA e mo, by unfold pL2; rw [if_pos h0]; exact hLA⟩
      simp (implicitDefEqProofs := false) (disch := omega) only [ze_229, zr_229_0, zr_229_1, zr_229_2, zr_229_3, zr_229_6, zr_229_7, zr_229_8, zr_229_9, zr_229_12, zr_229_13, zr_229_14, zr_229_17, zr_229_18, zr_229_19, zr_229_20, zr_229_21, zr_229_22, zr_229_23, zr_229_24, zr_229_25, zr_229_26, zr_229_29, zr_229_30, true_or, or_true, true_and, and_true, if_true, if_false, ldA_ref, ldA_null, nl_int, nl_ref, nl_fl, nl_null, c1_int, c1_ref, c1_null, Nat.zero_add, Nat.zero_mul, Nat.one_mul, nI_add, nI_leI, nI_ltI, nI_eq, nI_mul, cmp_lt, cmp_gt, cmp_le, cmp_ge, cmp_eq, kd_M, e1, s_of b1, owA, h0, zcall_some, zpush_some, zpush_none, zsum_ref, zsum_int, zsum_long, zsum_nil, zsum_null, Nat.reduceAdd, Nat.reduceLeDiff, if_true]
    · obtain ⟨rB, e2, hL2, ho2⟩ := s_raddL (h := h) hm he hmo hLA (by omega) (nI 4, nI 0, nI 0, -gW_ow w)
      dsimp only at e2
      refine ⟨rB, ?_, ho2, by unfold pL2; rw [if_neg h0]; exact hL2⟩
      simp (implicitDefEqProofs := false) (disch := omega) only [ze_229, zr_229_0, zr_229_1, zr_229_2, zr_229_3, zr_229_6, zr_229_7, zr_229_8, zr_229_9, zr_229_12, zr_229_13, zr_229_14, zr_229_17, zr_229_18, zr_229_19, zr_229_20, zr_229_21, zr_229_22, zr_229_23, zr_229_24, zr_229_25, zr_229_26, zr_229_29, zr_229_30, true_or, or_true, true_and, and_true, if_true, if_false, ldA_ref, ldA_null, nl_int, nl_ref, nl_fl, nl_null, c1_int, c1_ref, c1_null, Nat.zero_add, Nat.zero_mul, Nat.one_mul, nI_add, nI_leI, nI_ltI, nI_eq, nI_mul, cmp_lt, cmp_gt, cmp_le, cmp_ge, cmp_eq, kd_M, e1, s_of b1, owA, h0, e2, zcall_some, zpush_some, zpush_none, zsum_ref, zsum_int, zsum_long, zsum_nil, zsum_null, Nat.reduceAdd, Nat.reduceLeDiff, if_true]
  obtain ⟨rB, cB, hoB, hLB⟩ := c1
  have hlen2 := pL2_len w D mo f
  have frB : rFr rB r e := ((hoB.fr hmo).tr frA).tr (ho1.fr hmo)
  have hbB : rS rB 7 = (nI n).toInt64 := (frB.1 7 (by omega) (by omega)).trans hb
  have flB : rS rB (rX e 0) = (gW_fl w).toInt64 := by
    rw [hoB.num hmo (by omega), hsf _ (Or.inl (by unfold rX; omega)), ho1.num hmo (by omega)]; exact hfl
  have dB : rDue rB n e mo 4 = D (48 + mo) := (rDue_fr frB hn hmo 4).trans (hD 4 mo (by omega) (Nat.le_refl _))
  -- owed written
  have hwo : rOg (wAt rB (rX e 1) (pOw w D mo f)) rB e mo → True := fun _ => trivial
  generalize hC : wAt rB (rX e 1) (pOw w D mo f) = rC
  have kC : ∀ q, q ≠ rX e 1 → rS rC q = rS rB q := fun q hq => by rw [← hC]; exact wAt_ne hq
  have kC1 : rS rC (rX e 1) = pOw w D mo f := by rw [← hC]; exact wAt_eq _ _ _
  have hLC : rLines rC e mo (pL2 w D mo f) := rLines_fr hmo hLB (fun q hq => kC q (by (try unfold rLp at *); (try unfold rX at *); omega))
  have kA : ∀ q, q ≠ rX e 1 → (q < rX e 38 ∨ rX e 134 ≤ q) → q ≠ rX e (147 + mo) → (q < rLp e mo 0 ∨ rLp e mo 54 ≤ q) → rS rC q = rS r q := fun q h1 h2 h3 h4 => by
    rw [kC q h1, hoB.2 q h3 h4, hsf q h2, ho1.2 q h3 h4]
  have hgC : rGk rC e ng (pW2 w D mo f) := ⟨(kA _ (by unfold rX; omega) (Or.inr (by unfold rX; omega)) (by unfold rX; omega) (Or.inl (by unfold rLp rX; omega))).trans hg.1, fun p hp => ⟨(kA _ (by unfold rX; omega) (Or.inr (by unfold rX; omega)) (by unfold rX; omega) (Or.inl (by unfold rLp rX; omega))).trans (hg.2 p hp).1, (kA _ (by unfold rX; omega) (Or.inr (by unfold rX; omega)) (by unfold rX; omega) (Or.inl (by unfold rLp rX; omega))).trans (hg.2 p hp).2⟩⟩
  have hrC : ∀ k, k < ng → rS rC (rX e (135 + 4 * k) + 3) = (pGst (pW2 w D mo f) (pAb w D mo f) 0).2.1 k := fun k hk => (kA _ (by unfold rX; omega) (Or.inr (by unfold rX; omega)) (by unfold rX; omega) (Or.inl (by unfold rLp rX; omega))).trans (hrs k hk)
  obtain ⟨rD, e3, hoD, hrD, hLD⟩ := s_rgarnL (h := h) (w := pW2 w D mo f) (ab := pAb w D mo f) hm he hmo hng (show (pL2 w D mo f).length ≤ 50 by omega) ng 0 rC (.float 0) (.float 0) (.float 0) (.float 0) (.float 0) (.float 0) (.float 0) (.float 0) (by omega) hgC hrC (by rw [pGst, List.append_nil]; exact hLC)
  have e3' : ev 243 [.ref m, .int (nI e), .int (nI mo), .long (pAb w D mo f)] (putM m rC h) = some (none, putM m rD h) := by
    rw [← e3]
    simp (implicitDefEqProofs := false) (disch := omega) only [ze_243, zr_243_0, zr_243_1, zr_243_3, zr_243_4, zr_243_8, zr_243_9, zr_243_10, zr_243_11, zr_243_14, zr_243_17, zr_243_18, zr_243_21, zr_243_22, zr_243_25, zr_243_26, zr_243_28, zr_243_29, zr_243_30, zr_243_33, zr_243_35, zr_243_36, zr_243_39, zr_243_41, zr_243_42, zr_243_43, zr_243_44, zr_243_46, zr_243_48, zr_243_49, zr_243_50, zr_243_53, zr_243_55, zr_243_56, zr_243_59, zr_243_61, zr_243_62, zr_243_63, zr_243_64, zr_243_67, zr_243_68, zr_243_71, zr_243_73, zr_243_74, zr_243_75, zr_243_76, zr_243_79, zr_243_80, zr_243_83, zr_243_84, zr_243_87, zr_243_89, zr_243_90, zr_243_91, zr_243_92, zr_243_93, zr_243_94, zr_243_97, zr_243_98, zr_243_101, zr_243_103, zr_243_105, zr_243_107, zr_243_110, zr_243_112, zr_243_114, zr_243_116, zr_243_117, zr_243_119, zr_243_120, zr_243_123, zr_243_125, zr_243_126, zr_243_127, zr_243_129, zr_243_131, zr_243_132, zr_243_133, zr_243_135, zr_243_137, zr_243_138, zr_243_141, zr_243_142, zr_243_145, zr_243_147, zr_243_149, zr_243_150, zr_243_153, zr_243_154, zr_243_157, zr_243_159, zr_243_160, zr_243_161, zr_243_164, zr_243_165, zr_243_168, zr_243_169, zr_243_171, zr_243_172, zr_243_173, zr_243_174, zr_243_175, zr_243_177, zr_243_179, zr_243_181, zr_243_182, zr_243_185, zr_243_188, zr_243_191, true_or, or_true, true_and, and_true, if_true, if_false, ldA_ref, ldA_null, nl_int, nl_ref, nl_fl, nl_null, c1_int, c1_ref, c1_null]
    rfl
  have owD : rS rD (rX e 1) = pOw w D mo f := by
    rw [hoD.2 _ (by unfold rX; omega) (Or.inl (by unfold rLp rX; omega)) (by unfold rX; omega) (by unfold rX; omega) (by unfold rX; omega)]; exact kC1
  have hlen3 := pGst_len (pW2 w D mo f) (pAb w D mo f) ng
  have hl3 : (pL3 w D mo f ng).length ≤ 52 := by unfold pL3; rw [List.length_append]; omega
  have hg2 : pMin (pFlo w) (D (48 + mo)) = pGua w D mo := rfl
  have hfl2 : (gW_fl w).toInt64 * 1000000 = pFlo w := rfl
  have c2 : ∃ rE, rn 229 33 [.ref m, .int (nI e), .int (nI mo), .float 0, .float 0, .float 0, .float 0, .float 0, .float 0] [] (putM m rB h) = rn 229 130 [.ref m, .int (nI e), .int (nI mo), .long (pSum (pL2 w D mo f)), .float 0, .long (pFlo w), .float 0, .long (pGua w D mo), .float 0] [] (putM m rE h) ∧ rOut rE rD e mo ∧ rLines rE e mo (pL4 w D mo f ng) := by
    have x1 : pMax 0 (pGua w D mo - pSum (pL2 w D mo f)) = pOw w D mo f := pMax_comm _ _
    have x2 : pMax 0 (pMax (pSum (pL2 w D mo f)) (pGua w D mo) - pFlo w) = pAb w D mo f := pMax_comm _ _
    by_cases h0 : pOw w D mo f = 0
    · refine ⟨rD, ?_, rOut.rf rD e mo, by unfold pL4; rw [if_pos h0]; exact hLD⟩
      have hC2 := hC
      have owD2 := owD
      rw [h0] at hC2 owD2
      simp (implicitDefEqProofs := false) (disch := omega) only [zr_229_33, zr_229_34, zr_229_35, zr_229_36, zr_229_39, zr_229_40, zr_229_41, zr_229_42, zr_229_43, zr_229_46, zr_229_49, zr_229_50, zr_229_52, zr_229_54, zr_229_55, zr_229_56, zr_229_57, zr_229_58, zr_229_61, zr_229_64, zr_229_66, zr_229_67, zr_229_70, zr_229_71, zr_229_72, zr_229_75, zr_229_76, zr_229_78, zr_229_79, zr_229_80, zr_229_83, zr_229_84, zr_229_85, zr_229_86, zr_229_87, zr_229_88, zr_229_89, zr_229_91, zr_229_94, zr_229_96, zr_229_97, zr_229_100, zr_229_103, zr_229_104, zr_229_105, zr_229_106, zr_229_109, zr_229_110, zr_229_111, zr_229_114, zr_229_115, zr_229_116, zr_229_117, zr_229_119, zr_229_120, zr_229_121, zr_229_122, zr_229_123, zr_229_124, zr_229_127, true_or, or_true, true_and, and_true, if_true, if_false, ldA_ref, ldA_null, nl_int, nl_ref, nl_fl, nl_null, c1_int, c1_ref, c1_null, Nat.zero_add, Nat.zero_mul, Nat.one_mul, nI_add, nI_leI, nI_ltI, nI_eq, nI_mul, cmp_lt, cmp_gt, cmp_le, cmp_ge, cmp_eq, kd_M, gf_M0, s_of b0, s_of b1, flB, s_rsol he hmo hLB, s_rdue hn hbB he hmo (show 4 < 5 by omega), dB, mn_f, mx_f, hfl2, hg2, s_at, sj_S hm b1, x1, x2, hC2, e3', owD2, h0, zcall_some, zpush_some, zpush_none, zsum_ref, zsum_int, zsum_long, zsum_nil, zsum_null, Nat.reduceAdd, Nat.reduceLeDiff, if_true]
    · obtain ⟨rE, e4, hL4, ho4⟩ := s_raddL (h := h) hm he hmo hLD (show (pL2 w D mo f ++ (pGst (pW2 w D mo f) (pAb w D mo f) ng).2.2).length < 54 by unfold pL3 at hl3; omega) (nI 6, nI 0, nI 0, pOw w D mo f)
      dsimp only at e4
      refine ⟨rE, ?_, ho4, by unfold pL4 pL3; rw [if_neg h0]; exact hL4⟩
      simp (implicitDefEqProofs := false) (disch := omega) only [zr_229_33, zr_229_34, zr_229_35, zr_229_36, zr_229_39, zr_229_40, zr_229_41, zr_229_42, zr_229_43, zr_229_46, zr_229_49, zr_229_50, zr_229_52, zr_229_54, zr_229_55, zr_229_56, zr_229_57, zr_229_58, zr_229_61, zr_229_64, zr_229_66, zr_229_67, zr_229_70, zr_229_71, zr_229_72, zr_229_75, zr_229_76, zr_229_78, zr_229_79, zr_229_80, zr_229_83, zr_229_84, zr_229_85, zr_229_86, zr_229_87, zr_229_88, zr_229_89, zr_229_91, zr_229_94, zr_229_96, zr_229_97, zr_229_100, zr_229_103, zr_229_104, zr_229_105, zr_229_106, zr_229_109, zr_229_110, zr_229_111, zr_229_114, zr_229_115, zr_229_116, zr_229_117, zr_229_119, zr_229_120, zr_229_121, zr_229_122, zr_229_123, zr_229_124, zr_229_127, true_or, or_true, true_and, and_true, if_true, if_false, ldA_ref, ldA_null, nl_int, nl_ref, nl_fl, nl_null, c1_int, c1_ref, c1_null, Nat.zero_add, Nat.zero_mul, Nat.one_mul, nI_add, nI_leI, nI_ltI, nI_eq, nI_mul, cmp_lt, cmp_gt, cmp_le, cmp_ge, cmp_eq, kd_M, gf_M0, s_of b0, s_of b1, flB, s_rsol he hmo hLB, s_rdue hn hbB he hmo (show 4 < 5 by omega), dB, mn_f, mx_f, hfl2, hg2, s_at, sj_S hm b1, x1, x2, hC, e3', owD, h0, e4, zcall_some, zpush_some, zpush_none, zsum_ref, zsum_int, zsum_long, zsum_nil, zsum_null, Nat.reduceAdd, Nat.reduceLeDiff, if_true]
  obtain ⟨rE, cE, hoE, hLE⟩ := c2
  have hl4 : (pL4 w D mo f ng).length < 54 := by
    unfold pL4
    split
    · omega
    · rw [List.length_append]; simp; omega
  obtain ⟨rF, e5, hL5, ho5⟩ := s_raddL (h := h) hm he hmo hLE hl4 (nI 7, nI 0, nI 0, pSum (pL4 w D mo f ng))
  dsimp only at e5
  have kF : ∀ q, q ≠ rX e 1 → q ≠ rX e 138 → q ≠ rX e 142 → q ≠ rX e 146 → q ≠ rX e (147 + mo) → (q < rLp e mo 0 ∨ rLp e mo 54 ≤ q) → rS rF q = rS rA q := fun q h1 h2 h3 h4 h5 h6 => by
    rw [ho5.2 q h5 h6, hoE.2 q h5 h6, hoD.2 q h5 h6 h2 h3 h4, kC q h1, hoB.2 q h5 h6]
  refine ⟨rF, ?_, ?_, hL5, ?_, ?_, ?_, ?_⟩
  · rw [cB, cE]
    simp (implicitDefEqProofs := false) (disch := omega) only [zr_229_130, zr_229_131, zr_229_132, zr_229_133, zr_229_135, zr_229_136, zr_229_137, zr_229_138, zr_229_139, zr_229_140, zr_229_143, zr_229_146, true_or, or_true, true_and, and_true, if_true, if_false, ldA_ref, ldA_null, nl_int, nl_ref, nl_fl, nl_null, c1_int, c1_ref, c1_null, Nat.zero_add, Nat.zero_mul, Nat.one_mul, nI_add, nI_leI, nI_ltI, nI_eq, nI_mul, kd_M, s_rsol he hmo hLE, e5, zcall_some, zpush_some, zpush_none, zsum_ref, zsum_int, zsum_long, zsum_nil, zsum_null, Nat.reduceAdd, Nat.reduceLeDiff, if_true]
  · have hst2 : rStd rA r e (mo + 1) D := by
      intro m2 h2
      obtain ⟨a1, a2, a3, a4, a5⟩ := hst m2 h2
      exact ⟨a1, a2.trans (ho1.num hmo (by omega)), a3.trans (ho1.num hmo (by omega)), a4.trans (ho1.num hmo (by omega)), a5.trans (ho1.low (by omega))⟩
    exact hst2.fr (by omega) (fun q h1 h2 => kF q (by unfold rX at *; omega) (by unfold rX at *; omega) (by unfold rX at *; omega) (by unfold rX at *; omega) (by unfold rX at *; omega) (Or.inl (by (try unfold rLp at *); (try unfold rX at *); omega)))
  · rw [ho5.num hmo (by omega), hoE.num hmo (by omega)]; exact owD
  · intro k hk
    have hX : rX e (135 + 4 * k) + 3 = rX e (135 + 4 * k + 3) := by unfold rX; omega
    rw [hX, ho5.num hmo (by omega), hoE.num hmo (by omega), ← hX]
    exact hrD k hk
  · have sC : rC = wS rB (rS rC) := by rw [← hC]; rfl
    exact wS_tr ho5.1 (wS_tr hoE.1 (wS_tr hoD.1 (wS_tr sC (wS_tr hoB.1 (wS_tr hsS ho1.1)))))
  · intro q h1 h2 h3 h4 h5 h6 h7
    rw [kF q h1 h3 h4 h5 h6 h7, hsf q h2, ho1.2 q h6 h7]
end
