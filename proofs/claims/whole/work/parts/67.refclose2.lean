/-! THE REFERENCE: closing a month for one employee -/
theorem pMax_comm (x y : Int64) : pMax x y = pMax y x := by
  unfold pMax
  by_cases h1 : y < x
  · rw [if_pos h1, if_neg (fun h2 => Int64.lt_irrefl (Int64.lt_trans h1 h2))]
  · by_cases h2 : x < y
    · rw [if_neg h1, if_pos h2]
    · rw [if_neg h1, if_neg h2]
      exact Int64.le_antisymm (Int64.not_lt.mp h2) (Int64.not_lt.mp h1)
section
variable {m e n mo ng : Nat} {r r2 r3 : Rst} {h : zH} {l : List Ln} {w : tyW} {f : Int32}
/-- what an employee's numbers are before a closing -/
def rPre (r : Rst) (e mo n ng : Nat) (w : tyW) (D : Nat → Int64) (f : Int32) : Prop :=
  (∀ k m2, k < 5 → m2 ≤ mo → rDue r n e m2 k = D (k * 12 + m2)) ∧ (∀ k m2, k < 4 → m2 < mo → rSet r e m2 k = gW_am w (k * 12 + m2)) ∧ (∀ m2, m2 < mo → rReason r e m2 = pReason w m2 f) ∧ rLines r e mo [] ∧ rS r (rX e 1) = gW_ow w ∧ rS r (rX e 0) = (gW_fl w).toInt64 ∧ rGk r e ng w ∧ (∀ k, k < ng → rS r (rX e (135 + 4 * k) + 3) = gW_gr w k)
/-- and after it -/
def rPost (r2 r : Rst) (e mo n ng : Nat) (w : tyW) (D : Nat → Int64) (f : Int32) : Prop :=
  rStd r2 r e (mo + 1) D ∧ rLines r2 e mo (pL5 w D mo f ng) ∧ rS r2 (rX e 1) = pOw w D mo f ∧ (∀ k, k < ng → rS r2 (rX e (135 + 4 * k) + 3) = gW_gr (pW3 w D mo f ng) k) ∧ r2 = wS r (rS r2) ∧
  ∀ q, q ≠ rX e 1 → (q < rX e 38 ∨ rX e 134 ≤ q) → q ≠ rX e 138 → q ≠ rX e 142 → q ≠ rX e 146 → q ≠ rX e (147 + mo) → (q < rLp e mo 0 ∨ rLp e mo 54 ≤ q) → rS r2 q = rS r q
theorem pL2_len (w : tyW) (D : Nat → Int64) (m : Nat) (f : Int32) : (pL2 w D m f).length ≤ 5 + 4 * m := by
  have := pLs_len w D m f m
  unfold pL2
  split
  · omega
  · rw [List.length_append]; simp; omega
theorem rStd.fr {D : Nat → Int64} {k : Nat} (hk : k ≤ 12) (a : rStd r2 r e k D) (hf : ∀ q, rX e 38 ≤ q → q < rX e 134 → rS r3 q = rS r2 q) : rStd r3 r e k D := by
  intro m2 h2
  obtain ⟨a1, a2, a3, a4, a5⟩ := a m2 h2
  exact ⟨fun i hi => (hf _ (by unfold rX; omega) (by unfold rX; omega)).trans (a1 i hi), (hf _ (by unfold rX; omega) (by unfold rX; omega)).trans a2, (hf _ (by unfold rX; omega) (by unfold rX; omega)).trans a3, (hf _ (by unfold rX; omega) (by unfold rX; omega)).trans a4, (hf _ (by unfold rX; omega) (by unfold rX; omega)).trans a5⟩
theorem s_rcloseFor {D : Nat → Int64} (hm : 100 ≤ m) (hn : n ≤ 5) (hb : rS r 7 = (nI n).toInt64) (he : e < 3) (hmo : mo < 12) (hng : ng ≤ 3) (hp : rPre r e mo n ng w D f) : ∃ r2, ev 235 [.ref m, .int (nI e), .int (nI mo)] (putM m r h) = some (none, putM m r2 h) ∧ rPost r2 r e mo n ng w D f := by
  obtain ⟨hD, hA, hr, hL, how, hfl, hg, hrs⟩ := hp
  have b0 : rX e 0 < 8271 := by unfold rX; omega
  have b1 : rX e 1 < 8271 := by unfold rX; omega
  obtain ⟨r1, e1, ho1, hL1⟩ := s_raddDue (h := h) (w := w) (re := fun m2 => pReason w m2 f) hm hn hb he hmo (fun k m2 hk h2 => hD k m2 (by omega) h2) hA hr hL
  rw [← qLs_eq w D mo f mo (by omega)] at hL1
  have hD1 : ∀ k m2, k < 5 → m2 ≤ mo → rDue r1 n e m2 k = D (k * 12 + m2) := fun k m2 hk h2 => (rDue_fr (ho1.fr hmo) hn (by omega) k).trans (hD k m2 hk h2)
  have hst := wStl_std (r := r1) (e := e) (D := D) hn (mo + 1) (by omega) (fun i m2 hi h2 => hD1 i m2 (by omega) (by omega))
  have hsf : ∀ q, q < rX e 38 ∨ rX e 134 ≤ q → rS (wStl r1 n e (mo + 1)) q = rS r1 q := fun q hq => wStl_ne (mo + 1) (by omega) hq
  have hsS := wStl_S (r := r1) (n := n) (e := e) (mo + 1)
  have frA := wStl_fr r1 n e (mo + 1)
  generalize wStl r1 n e (mo + 1) = rA at e1 hst hsf hsS frA
  have hLA : rLines rA e mo (pLs w D mo f mo) := rLines_fr hmo hL1 (fun q hq => hsf q (Or.inr (by (try unfold rLp at *); (try unfold rX at *); omega)))
  have hlen0 := pLs_len w D mo f mo
  have owA : rS rA (rX e 1) = gW_ow w := by
    rw [hsf _ (Or.inl (by unfold rX; omega)), ho1.num hmo (by omega)]; exact how
  have c1 : ∃ rB, ev 235 [.ref m, .int (nI e), .int (nI mo)] (putM m r h) = rn 235 33 [.ref m, .int (nI e), .int (nI mo), .float 0, .float 0, .float 0, .float 0, .float 0, .float 0] [] (putM m rB h) ∧ rOut rB rA e mo ∧ rLines rB e mo (pL2 w D mo f) := by
    by_cases h0 : gW_ow w = 0
    · refine ⟨rA, ?_, rOut.rf rA e mo, by unfold pL2; rw [if_pos h0]; exact hLA⟩
      simp (implicitDefEqProofs := false) (disch := omega) only [ze_235, zr_235_0, zr_235_1, zr_235_2, zr_235_3, zr_235_6, zr_235_7, zr_235_8, zr_235_9, zr_235_12, zr_235_13, zr_235_14, zr_235_17, zr_235_18, zr_235_19, zr_235_20, zr_235_21, zr_235_22, zr_235_23, zr_235_24, zr_235_25, zr_235_26, zr_235_29, zr_235_30, true_or, or_true, true_and, and_true, if_true, if_false, ldA_ref, ldA_null, nl_int, nl_ref, nl_fl, nl_null, c1_int, c1_ref, c1_null, Nat.zero_add, Nat.zero_mul, Nat.one_mul, nI_add, nI_leI, nI_ltI, nI_eq, nI_mul, cmp_lt, cmp_gt, cmp_le, cmp_ge, cmp_eq, kd_M, e1, s_of b1, owA, h0, zcall_some, zpush_some, zpush_none, zsum_ref, zsum_int, zsum_long, zsum_nil, zsum_null, Nat.reduceAdd, Nat.reduceLeDiff, if_true]
    · obtain ⟨rB, e2, hL2, ho2⟩ := s_raddL (h := h) hm he hmo hLA (by omega) (nI 4, nI 0, nI 0, -gW_ow w)
      dsimp only at e2
      refine ⟨rB, ?_, ho2, by unfold pL2; rw [if_neg h0]; exact hL2⟩
      simp (implicitDefEqProofs := false) (disch := omega) only [ze_235, zr_235_0, zr_235_1, zr_235_2, zr_235_3, zr_235_6, zr_235_7, zr_235_8, zr_235_9, zr_235_12, zr_235_13, zr_235_14, zr_235_17, zr_235_18, zr_235_19, zr_235_20, zr_235_21, zr_235_22, zr_235_23, zr_235_24, zr_235_25, zr_235_26, zr_235_29, zr_235_30, true_or, or_true, true_and, and_true, if_true, if_false, ldA_ref, ldA_null, nl_int, nl_ref, nl_fl, nl_null, c1_int, c1_ref, c1_null, Nat.zero_add, Nat.zero_mul, Nat.one_mul, nI_add, nI_leI, nI_ltI, nI_eq, nI_mul, cmp_lt, cmp_gt, cmp_le, cmp_ge, cmp_eq, kd_M, e1, s_of b1, owA, h0, e2, zcall_some, zpush_some, zpush_none, zsum_ref, zsum_int, zsum_long, zsum_nil, zsum_null, Nat.reduceAdd, Nat.reduceLeDiff, if_true]
  obtain ⟨rB, cB, hoB, hLB⟩ := c1
  have hlen2 := pL2_len w D mo f
  have frB : rFr rB r e := ((hoB.fr hmo).tr frA).tr (ho1.fr hmo)
  have hbB : rS rB 7 = (nI n).toInt64 := (frB.1 7 (by omega) (by omega)).trans hb
  have flB : rS rB (rX e 0) = (gW_fl w).toInt64 := by
    rw [hoB.num hmo (by omega), hsf _ (Or.inl (by unfold rX; omega)), ho1.num hmo (by omega)]; exact hfl
  have dB : rDue rB n e mo 4 = D (48 + mo) := (rDue_fr frB hn hmo 4).trans (hD 4 mo (by omega) (Nat.le_refl _))
  -- owed written
  have hwo : rOg (wAt rB (rX e 1) (pOw w D mo f)) rB e mo → True := fun _ => trivial
  generalize hC : wAt rB (rX e 1) (pOw w D mo f) = rC
  have kC : ∀ q, q ≠ rX e 1 → rS rC q = rS rB q := fun q hq => by rw [← hC]; exact wAt_ne hq
  have kC1 : rS rC (rX e 1) = pOw w D mo f := by rw [← hC]; exact wAt_eq _ _ _
  have hLC : rLines rC e mo (pL2 w D mo f) := rLines_fr hmo hLB (fun q hq => kC q (by (try unfold rLp at *); (try unfold rX at *); omega))
  have kA : ∀ q, q ≠ rX e 1 → (q < rX e 38 ∨ rX e 134 ≤ q) → q ≠ rX e (147 + mo) → (q < rLp e mo 0 ∨ rLp e mo 54 ≤ q) → rS rC q = rS r q := fun q h1 h2 h3 h4 => by
    rw [kC q h1, hoB.2 q h3 h4, hsf q h2, ho1.2 q h3 h4]
  have hgC : rGk rC e ng (pW2 w D mo f) := ⟨(kA _ (by unfold rX; omega) (Or.inr (by unfold rX; omega)) (by unfold rX; omega) (Or.inl (by unfold rLp rX; omega))).trans hg.1, fun p hp => ⟨(kA _ (by unfold rX; omega) (Or.inr (by unfold rX; omega)) (by unfold rX; omega) (Or.inl (by unfold rLp rX; omega))).trans (hg.2 p hp).1, (kA _ (by unfold rX; omega) (Or.inr (by unfold rX; omega)) (by unfold rX; omega) (Or.inl (by unfold rLp rX; omega))).trans (hg.2 p hp).2⟩⟩
  have hrC : ∀ k, k < ng → rS rC (rX e (135 + 4 * k) + 3) = (pGst (pW2 w D mo f) (pAb w D mo f) 0).2.1 k := fun k hk => (kA _ (by unfold rX; omega) (Or.inr (by unfold rX; omega)) (by unfold rX; omega) (Or.inl (by unfold rLp rX; omega))).trans (hrs k hk)
  obtain ⟨rD, e3, hoD, hrD, hLD⟩ := s_rgarnL (h := h) (w := pW2 w D mo f) (ab := pAb w D mo f) hm he hmo hng (show (pL2 w D mo f).length ≤ 50 by omega) ng 0 rC (.float 0) (.float 0) (.float 0) (.float 0) (.float 0) (.float 0) (.float 0) (.float 0) (by omega) hgC hrC (by rw [pGst, List.append_nil]; exact hLC)
  have e3' : ev 249 [.ref m, .int (nI e), .int (nI mo), .long (pAb w D mo f)] (putM m rC h) = some (none, putM m rD h) := by
    rw [← e3]
    simp (implicitDefEqProofs := false) (disch := omega) only [ze_249, zr_249_0, zr_249_1, zr_249_3, zr_249_4, zr_249_8, zr_249_9, zr_249_10, zr_249_11, zr_249_14, zr_249_17, zr_249_18, zr_249_21, zr_249_22, zr_249_25, zr_249_26, zr_249_28, zr_249_29, zr_249_30, zr_249_33, zr_249_35, zr_249_36, zr_249_39, zr_249_41, zr_249_42, zr_249_43, zr_249_44, zr_249_46, zr_249_48, zr_249_49, zr_249_50, zr_249_53, zr_249_55, zr_249_56, zr_249_59, zr_249_61, zr_249_62, zr_249_63, zr_249_64, zr_249_67, zr_249_68, zr_249_71, zr_249_73, zr_249_74, zr_249_75, zr_249_76, zr_249_79, zr_249_80, zr_249_83, zr_249_84, zr_249_87, zr_249_89, zr_249_90, zr_249_91, zr_249_92, zr_249_93, zr_249_94, zr_249_97, zr_249_98, zr_249_101, zr_249_103, zr_249_105, zr_249_107, zr_249_110, zr_249_112, zr_249_114, zr_249_116, zr_249_117, zr_249_119, zr_249_120, zr_249_123, zr_249_125, zr_249_126, zr_249_127, zr_249_129, zr_249_131, zr_249_132, zr_249_133, zr_249_135, zr_249_137, zr_249_138, zr_249_141, zr_249_142, zr_249_145, zr_249_147, zr_249_149, zr_249_150, zr_249_153, zr_249_154, zr_249_157, zr_249_159, zr_249_160, zr_249_161, zr_249_164, zr_249_165, zr_249_168, zr_249_169, zr_249_171, zr_249_172, zr_249_173, zr_249_174, zr_249_175, zr_249_177, zr_249_179, zr_249_181, zr_249_182, zr_249_185, zr_249_188, zr_249_191, true_or, or_true, true_and, and_true, if_true, if_false, ldA_ref, ldA_null, nl_int, nl_ref, nl_fl, nl_null, c1_int, c1_ref, c1_null]
    rfl
  have owD : rS rD (rX e 1) = pOw w D mo f := by
    rw [hoD.2 _ (by unfold rX; omega) (Or.inl (by unfold rLp rX; omega)) (by unfold rX; omega) (by unfold rX; omega) (by unfold rX; omega)]; exact kC1
  have hlen3 := pGst_len (pW2 w D mo f) (pAb w D mo f) ng
  have hl3 : (pL3 w D mo f ng).length ≤ 52 := by unfold pL3; rw [List.length_append]; omega
  have hg2 : pMin (pFlo w) (D (48 + mo)) = pGua w D mo := rfl
  have hfl2 : (gW_fl w).toInt64 * 1000000 = pFlo w := rfl
  have c2 : ∃ rE, rn 235 33 [.ref m, .int (nI e), .int (nI mo), .float 0, .float 0, .float 0, .float 0, .float 0, .float 0] [] (putM m rB h) = rn 235 130 [.ref m, .int (nI e), .int (nI mo), .long (pSum (pL2 w D mo f)), .float 0, .long (pFlo w), .float 0, .long (pGua w D mo), .float 0] [] (putM m rE h) ∧ rOut rE rD e mo ∧ rLines rE e mo (pL4 w D mo f ng) := by
    have x1 : pMax 0 (pGua w D mo - pSum (pL2 w D mo f)) = pOw w D mo f := pMax_comm _ _
    have x2 : pMax 0 (pMax (pSum (pL2 w D mo f)) (pGua w D mo) - pFlo w) = pAb w D mo f := pMax_comm _ _
    by_cases h0 : pOw w D mo f = 0
    · refine ⟨rD, ?_, rOut.rf rD e mo, by unfold pL4; rw [if_pos h0]; exact hLD⟩
      have hC2 := hC
      have owD2 := owD
      rw [h0] at hC2 owD2
      simp (implicitDefEqProofs := false) (disch := omega) only [zr_235_33, zr_235_34, zr_235_35, zr_235_36, zr_235_39, zr_235_40, zr_235_41, zr_235_42, zr_235_43, zr_235_46, zr_235_49, zr_235_50, zr_235_52, zr_235_54, zr_235_55, zr_235_56, zr_235_57, zr_235_58, zr_235_61, zr_235_64, zr_235_66, zr_235_67, zr_235_70, zr_235_71, zr_235_72, zr_235_75, zr_235_76, zr_235_78, zr_235_79, zr_235_80, zr_235_83, zr_235_84, zr_235_85, zr_235_86, zr_235_87, zr_235_88, zr_235_89, zr_235_91, zr_235_94, zr_235_96, zr_235_97, zr_235_100, zr_235_103, zr_235_104, zr_235_105, zr_235_106, zr_235_109, zr_235_110, zr_235_111, zr_235_114, zr_235_115, zr_235_116, zr_235_117, zr_235_119, zr_235_120, zr_235_121, zr_235_122, zr_235_123, zr_235_124, zr_235_127, true_or, or_true, true_and, and_true, if_true, if_false, ldA_ref, ldA_null, nl_int, nl_ref, nl_fl, nl_null, c1_int, c1_ref, c1_null, Nat.zero_add, Nat.zero_mul, Nat.one_mul, nI_add, nI_leI, nI_ltI, nI_eq, nI_mul, cmp_lt, cmp_gt, cmp_le, cmp_ge, cmp_eq, kd_M, gf_M0, s_of b0, s_of b1, flB, s_rsol he hmo hLB, s_rdue hn hbB he hmo (show 4 < 5 by omega), dB, mn_f, mx_f, hfl2, hg2, s_at, sj_S hm b1, x1, x2, hC2, e3', owD2, h0, zcall_some, zpush_some, zpush_none, zsum_ref, zsum_int, zsum_long, zsum_nil, zsum_null, Nat.reduceAdd, Nat.reduceLeDiff, if_true]
    · obtain ⟨rE, e4, hL4, ho4⟩ := s_raddL (h := h) hm he hmo hLD (show (pL2 w D mo f ++ (pGst (pW2 w D mo f) (pAb w D mo f) ng).2.2).length < 54 by unfold pL3 at hl3; omega) (nI 6, nI 0, nI 0, pOw w D mo f)
      dsimp only at e4
      refine ⟨rE, ?_, ho4, by unfold pL4 pL3; rw [if_neg h0]; exact hL4⟩
      simp (implicitDefEqProofs := false) (disch := omega) only [zr_235_33, zr_235_34, zr_235_35, zr_235_36, zr_235_39, zr_235_40, zr_235_41, zr_235_42, zr_235_43, zr_235_46, zr_235_49, zr_235_50, zr_235_52, zr_235_54, zr_235_55, zr_235_56, zr_235_57, zr_235_58, zr_235_61, zr_235_64, zr_235_66, zr_235_67, zr_235_70, zr_235_71, zr_235_72, zr_235_75, zr_235_76, zr_235_78, zr_235_79, zr_235_80, zr_235_83, zr_235_84, zr_235_85, zr_235_86, zr_235_87, zr_235_88, zr_235_89, zr_235_91, zr_235_94, zr_235_96, zr_235_97, zr_235_100, zr_235_103, zr_235_104, zr_235_105, zr_235_106, zr_235_109, zr_235_110, zr_235_111, zr_235_114, zr_235_115, zr_235_116, zr_235_117, zr_235_119, zr_235_120, zr_235_121, zr_235_122, zr_235_123, zr_235_124, zr_235_127, true_or, or_true, true_and, and_true, if_true, if_false, ldA_ref, ldA_null, nl_int, nl_ref, nl_fl, nl_null, c1_int, c1_ref, c1_null, Nat.zero_add, Nat.zero_mul, Nat.one_mul, nI_add, nI_leI, nI_ltI, nI_eq, nI_mul, cmp_lt, cmp_gt, cmp_le, cmp_ge, cmp_eq, kd_M, gf_M0, s_of b0, s_of b1, flB, s_rsol he hmo hLB, s_rdue hn hbB he hmo (show 4 < 5 by omega), dB, mn_f, mx_f, hfl2, hg2, s_at, sj_S hm b1, x1, x2, hC, e3', owD, h0, e4, zcall_some, zpush_some, zpush_none, zsum_ref, zsum_int, zsum_long, zsum_nil, zsum_null, Nat.reduceAdd, Nat.reduceLeDiff, if_true]
  obtain ⟨rE, cE, hoE, hLE⟩ := c2
  have hl4 : (pL4 w D mo f ng).length < 54 := by
    unfold pL4
    split
    · omega
    · rw [List.length_append]; simp; omega
  obtain ⟨rF, e5, hL5, ho5⟩ := s_raddL (h := h) hm he hmo hLE hl4 (nI 7, nI 0, nI 0, pSum (pL4 w D mo f ng))
  dsimp only at e5
  have kF : ∀ q, q ≠ rX e 1 → q ≠ rX e 138 → q ≠ rX e 142 → q ≠ rX e 146 → q ≠ rX e (147 + mo) → (q < rLp e mo 0 ∨ rLp e mo 54 ≤ q) → rS rF q = rS rA q := fun q h1 h2 h3 h4 h5 h6 => by
    rw [ho5.2 q h5 h6, hoE.2 q h5 h6, hoD.2 q h5 h6 h2 h3 h4, kC q h1, hoB.2 q h5 h6]
  refine ⟨rF, ?_, ?_, hL5, ?_, ?_, ?_, ?_⟩
  · rw [cB, cE]
    simp (implicitDefEqProofs := false) (disch := omega) only [zr_235_130, zr_235_131, zr_235_132, zr_235_133, zr_235_135, zr_235_136, zr_235_137, zr_235_138, zr_235_139, zr_235_140, zr_235_143, zr_235_146, true_or, or_true, true_and, and_true, if_true, if_false, ldA_ref, ldA_null, nl_int, nl_ref, nl_fl, nl_null, c1_int, c1_ref, c1_null, Nat.zero_add, Nat.zero_mul, Nat.one_mul, nI_add, nI_leI, nI_ltI, nI_eq, nI_mul, kd_M, s_rsol he hmo hLE, e5, zcall_some, zpush_some, zpush_none, zsum_ref, zsum_int, zsum_long, zsum_nil, zsum_null, Nat.reduceAdd, Nat.reduceLeDiff, if_true]
  · have hst2 : rStd rA r e (mo + 1) D := by
      intro m2 h2
      obtain ⟨a1, a2, a3, a4, a5⟩ := hst m2 h2
      exact ⟨a1, a2.trans (ho1.num hmo (by omega)), a3.trans (ho1.num hmo (by omega)), a4.trans (ho1.num hmo (by omega)), a5.trans (ho1.low (by omega))⟩
    exact hst2.fr (by omega) (fun q h1 h2 => kF q (by unfold rX at *; omega) (by unfold rX at *; omega) (by unfold rX at *; omega) (by unfold rX at *; omega) (by unfold rX at *; omega) (Or.inl (by (try unfold rLp at *); (try unfold rX at *); omega)))
  · rw [ho5.num hmo (by omega), hoE.num hmo (by omega)]; exact owD
  · intro k hk
    have hX : rX e (135 + 4 * k) + 3 = rX e (135 + 4 * k + 3) := by unfold rX; omega
    rw [hX, ho5.num hmo (by omega), hoE.num hmo (by omega), ← hX]
    exact hrD k hk
  · have sC : rC = wS rB (rS rC) := by rw [← hC]; rfl
    exact wS_tr ho5.1 (wS_tr hoE.1 (wS_tr hoD.1 (wS_tr sC (wS_tr hoB.1 (wS_tr hsS ho1.1)))))
  · intro q h1 h2 h3 h4 h5 h6 h7
    rw [kF q h1 h3 h4 h5 h6 h7, hsf q h2, ho1.2 q h6 h7]
end
