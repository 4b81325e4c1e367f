/-! EXECUTE on both sides -/
section
variable {H H' H1 : zH} {s s' sb : tyB} {hs hs' : Nat → tyB} {nx ct nx' ct' cap K K2 n n' i L : Nat} {sv sv' : Int32} {sb' : tyB} {T T' : tyT} {t : List Nat} {r r' : Rst} {sg sg' : Nat → Nat} {xs : Nat → Int32}
theorem relW.ex (h : relW H s hs nx ct sb sv T r sg n K) (a1 : ∀ k, k < 8271 → rS r' k = rS r k) (a2 : rSv r' = rSv r) (a3 : ∀ j, j < ct → ∀ k, k < 8271 → rPa r' (8271 * j + k) = rPa r (8271 * j + k)) (a4 : rIs r' = rIs r) (a5 : rPm r' = rPm r) (a6 : rQ r' = rQ r) (a7 : bufT T' sg' n') (a8 : bufR r' sg' n') : relW H s hs nx ct sb sv T' r' sg' n' K := by
  obtain ⟨h1, h2, h3, h4, h5, h6, h7⟩ := h
  refine ⟨h1.ag a1, ⟨h2.1, h2.2.1, a5.trans h2.2.2⟩, fun j hj => (h3 j hj).ag fun k hk => a3 j hj k hk, ⟨h4.1.trans a4.symm, ?_⟩, a6.trans h5, a7, a8⟩
  rw [a2]; exact h4.2
theorem clsB.nv (hc : clsB H s hs nx ct sb sv T cap t) (hM : isB H 463 9 (cellM 463 r)) (h472 : 472 ≤ 100 + H.1) (h11 : H.1 ≤ H'.1) (f : ∀ p, p < 100 + H.1 → (p < 100 ∨ 443 ≤ p) → (p < 463 ∨ 472 ≤ p) → H'.2.2 p = H.2.2 p) (h0 : H'.2.2 100 = xC sv') (h1 : isB H' 101 37 (cB 101 s')) (h2 : hiB H' 138 hs' nx' ct') (h3 : isB H' 399 37 (cB 399 sb')) (h4 : isB H' 436 5 (cT 436 T')) (hd : ∃ du, isB H' 441 2 (cD 441 du)) : clsB H' s' hs' nx' ct' sb' sv' T' cap t := by
  have hk := fun p => hc.kn (p := p)
  obtain ⟨-, -, -, -, -, -, ⟨w, ht⟩, hx⟩ := hc
  refine ⟨h0, h1, h2, h3, h4, hd, ⟨w, ht.to fun p x y => f p (by omega) (by omega) (by omega)⟩, hx.to h11 (fun p x => f p (by omega) (by omega) (by omega)) fun p x y z => ?_⟩
  by_cases c1 : p = 461
  · exact f p y (by omega) (by omega)
  · by_cases c2 : p < 463
    · exact absurd z (hk p x c2 c1)
    · by_cases c3 : p < 472
      · exact absurd z (hM.kn kn_M (by omega) (by omega))
      · exact f p y (by omega) (by omega)
theorem St.nv (hc : clsB H s hs nx ct sb sv T cap t) (hM : isB H 463 9 (cellM 463 r)) (hz : stz L xs H) (h472 : 472 ≤ 100 + H.1) (h11 : H.1 ≤ H1.1) (f : ∀ p, p < 100 + H.1 → (p < 100 ∨ 443 ≤ p) → (p < 463 ∨ 472 ≤ p) → H1.2.2 p = H.2.2 p) (h0 : H1.2.2 100 = xC sv') (h1 : isB H1 101 37 (cB 101 s')) (h2 : hiB H1 138 hs' nx' ct') (h3 : isB H1 399 37 (cB 399 sb')) (h4 : isB H1 436 5 (cT 436 T')) (hd : ∃ du, isB H1 441 2 (cD 441 du)) (z1 : H1.1 ≤ 1000 + 132 * (i + 1) + cap) (z2 : H1.2.1 ≤ 200000 + 8208 * (i + 1) + 2 * cap) (z3 : cap ≤ 4002) (hr : relW H1 s' hs' nx' ct' sb' sv' T' r' sg' n' (12 * (i + 1))) : St L xs (putM 463 r' H1) (i + 1) := by
  have g : ∀ p, (p < 463 ∨ 472 ≤ p) → (putM 463 r' H1).2.2 p = H1.2.2 p := fun p h => putM_out _ _ (by omega)
  obtain ⟨du, hd⟩ := hd
  refine ⟨s', hs', nx', ct', sb', sv', T', cap, t, r', sg', n', hc.nv hM h472 h11 (fun p x y z => (g p z).trans (f p x y z)) ((g 100 (by omega)).trans h0) (h1.to fun p x y => g p (by omega)) (h2.to fun p x y => g p (by omega)) (h3.to fun p x y => g p (by omega)) (h4.to fun p x y => g p (by omega)) ⟨du, hd.to fun p x y => g p (by omega)⟩, putM_isB _ _ _, fun a ha => (g a (by omega)).trans ((f a (by omega) (by omega) (by omega)).trans (hz a ha)), ⟨?_, z1, z2, z3⟩, hr.fr (frM.M r' H1).G (Nat.le_refl _)⟩
  have : (putM 463 r' H1).1 = H1.1 := rfl
  omega
theorem pRD_len (sg : Nat → Nat) (n : Nat) : ∀ f st, (pRD sg n f st).2.length ≤ f
  | 0, _ => Nat.le_refl _
  | f + 1, st => by
    have ih := pRD_len sg n f ((pCmd sg n st).2.1 + 1)
    rw [pRD]
    dsimp only
    split
    · split
      · show 1 ≤ f + 1
        omega
      · dsimp only
        rw [List.length_cons]; omega
    · exact Nat.zero_le _
theorem nI_m1 : ∀ p, p < 200 → ¬ nI p = (-1 : Int32) := by decide +kernel
theorem buf0T (T : tyT) (sg : Nat → Nat) : bufT (sT_ln T (nI 0)) sg 0 := ⟨rfl, by omega, fun j hj => by omega⟩
theorem buf0R (r : Rst) (sg : Nat → Nat) : bufR (wLn r (nI 0)) sg 0 := ⟨rfl, by omega, fun j hj => by omega⟩
theorem s_tclr (hT : isB H 436 5 (cT 436 T)) : ev 191 [.ref 436] H = some (none, blk 436 5 (cT 436 (sT_ln T (nI 0))) H) := by
  have e0 : ev 191 [.ref 436] (blk 436 5 (cT 436 T) H) = some (none, blk 436 5 (cT 436 (sT_ln T (nI 0))) H) := by
    simp (implicitDefEqProofs := false) (disch := omega) only [ze_191, zr_191_0, zr_191_1, zr_191_2, zr_191_5, true_or, or_true, true_and, and_true, if_true, if_false, ldA_ref, ldA_null, nl_int, nl_ref, nl_fl, nl_null, c1_int, c1_ref, c1_null, wrT_0 (show 100 ≤ 436 by omega), wrT_1 (show 100 ≤ 436 by omega), wrT_2 (show 100 ≤ 436 by omega), wrT_3 (show 100 ≤ 436 by omega), wrT_4 (show 100 ≤ 436 by omega), wrT_5 (show 100 ≤ 436 by omega)]
  rw [blk_id hT] at e0; exact e0
theorem rst1 (r : Rst) : wW (wPl r (nI 0)) (nI 0) = rSt r 0 (nI 0) (rNu r) := rfl
theorem rst2 (r : Rst) (k : Nat) (nu : Nat → Int32) (B : Nat → Int64) : wQ (wPl (wBf (rSt r k (nI 0) nu) B) (nI 0)) (nI 1) = rSt (wQ (wBf r B) (nI 1)) 0 (nI 0) nu := rfl
theorem rst_S (r : Rst) (k : Nat) (w : Int32) (nu : Nat → Int32) : rS (rSt r k w nu) = rS r := rfl
theorem rst_B (r : Rst) (k : Nat) (w : Int32) (nu : Nat → Int32) : rBf (rSt r k w nu) = rBf r := rfl
theorem rst_L (r : Rst) (k : Nat) (w : Int32) (nu : Nat → Int32) : rLn (rSt r k w nu) = rLn r := rfl
theorem wdR.to (x : wdR H) (hz : ∀ q, q < 100 → H1.2.2 q = H.2.2 q) : wdR H1 := fun k hk => (x k hk).to hz
theorem rPlw (r : Rst) (v : Int32) : rPl (wLn r v) = rPl r := rfl
/-- the reference: a text that is none -/
theorem x_bad {p : Nat} (hb : bufR r sg n) (hz : 472 ≤ 100 + H.1) (hw : wdR (putM 463 r H)) (hp : (pRD sg n 12 0).1 = some p) : ∃ h' k w nu j, ev 284 [.ref 463] (putM 463 r H) = some (some (.int (-100 - nI p)), putM 463 (wLn (rSt r k w nu) (nI 0)) h') ∧ alF h' H j (12 * j) ∧ j ≤ 12 ∧ p ≤ 61 := by
  have hn := hb.2.1
  obtain ⟨h', nu', k', w', j, v3', e1, hj, al, hk, hw', hm⟩ := s_rpassL (m := 463) (r := r) (by omega) hb (.float 0) (.float 0) 12 0 0 (rNu r) H (.float 0) (by omega) (by omega) (by omega) (wdR_al (by omega) hw (alF.rf H) _) (Or.inl rfl)
  rw [hp] at hm
  obtain ⟨hkp, hor⟩ := hm
  subst hkp
  refine ⟨h', k', w', nu', j, ?_, al, hj, by omega⟩
  simp (implicitDefEqProofs := false) (disch := omega) only [ze_284, zr_284_0, zr_284_1, zr_284_2, zr_284_5, zr_284_6, zr_284_7, zr_284_10, zr_284_11, zr_284_12, zr_284_13, zr_284_15, zr_284_18, zr_284_19, zr_284_20, zr_284_23, zr_284_24, zr_284_27, zr_284_28, zr_284_31, zr_284_34, zr_284_35, zr_284_38, zr_284_40, zr_284_43, zr_284_44, zr_284_47, zr_284_48, zr_284_49, zr_284_50, zr_284_51, zr_284_54, zr_284_55, zr_284_58, zr_284_59, zr_284_62, zr_284_63, zr_284_64, zr_284_67, zr_284_70, zr_284_71, zr_284_74, zr_284_77, zr_284_78, zr_284_81, zr_284_82, zr_284_85, zr_284_88, zr_284_89, zr_284_90, zr_284_93, zr_284_95, zr_284_96, zr_284_99, zr_284_100, zr_284_101, zr_284_102, zr_284_105, zr_284_106, zr_284_107, zr_284_110, zr_284_111, zr_284_114, zr_284_117, zr_284_118, zr_284_119, zr_284_122, zr_284_123, zr_284_124, zr_284_127, zr_284_128, zr_284_129, zr_284_130, zr_284_132, zr_284_133, zr_284_137, zr_284_138, zr_284_141, zr_284_143, zr_284_146, zr_284_147, zr_284_150, zr_284_151, zr_284_152, zr_284_153, zr_284_156, zr_284_159, zr_284_160, zr_284_163, zr_284_164, zr_284_166, zr_284_167, zr_284_168, zr_284_171, zr_284_172, zr_284_173, zr_284_176, zr_284_179, zr_284_182, zr_284_183, zr_284_184, zr_284_187, zr_284_188, zr_284_189, zr_284_192, zr_284_194, zr_284_197, zr_284_198, zr_284_201, zr_284_202, zr_284_203, zr_284_206, zr_284_207, zr_284_210, zr_284_213, zr_284_216, zr_284_217, zr_284_218, zr_284_219, zr_284_220, zr_284_221, zr_284_224, zr_284_227, zr_284_228, true_or, or_true, true_and, and_true, if_true, if_false, ldA_ref, ldA_null, nl_int, nl_ref, nl_fl, nl_null, c1_int, c1_ref, c1_null, Nat.zero_add, Nat.zero_mul, Nat.one_mul, nI_add, nI_leI, nI_ltI, nI_eq, nI_mul, pf_M12 (show 100 ≤ 463 by omega), pf_M13 (show 100 ≤ 463 by omega) (nI 0) (Or.inl rfl), rst1, zcall_some, zpush_some, zpush_none, zsum_ref, zsum_int, zsum_long, zsum_nil, zsum_null, Nat.reduceAdd, Nat.reduceLeDiff, if_true]
  rw [e1]
  by_cases c : w' = nI 0
  · have hlt : k' < n := by
      rcases hor with h | h
      · rw [c] at h; exact absurd h (by decide)
      · exact h
    simp (implicitDefEqProofs := false) (disch := omega) only [zr_284_70, zr_284_71, zr_284_74, zr_284_77, zr_284_78, zr_284_81, zr_284_82, zr_284_85, zr_284_88, zr_284_89, zr_284_90, zr_284_93, zr_284_95, zr_284_96, zr_284_99, zr_284_100, true_or, or_true, true_and, and_true, if_true, if_false, ldA_ref, ldA_null, nl_int, nl_ref, nl_fl, nl_null, c1_int, c1_ref, c1_null, Nat.zero_add, Nat.zero_mul, Nat.one_mul, nI_add, nI_leI, nI_ltI, nI_eq, nI_mul, gf_M, rSt_W, c, rSt_P, rst_L, hb.1, show ¬ n ≤ k' from by omega, pf_M11 (show 100 ≤ 463 by omega), rPlw, zcall_some, zpush_some, zpush_none, zsum_ref, zsum_int, zsum_long, zsum_nil, zsum_null, Nat.reduceAdd, Nat.reduceLeDiff, if_true]
  · simp (implicitDefEqProofs := false) (disch := omega) only [zr_284_70, zr_284_71, zr_284_74, zr_284_77, zr_284_78, zr_284_81, zr_284_82, zr_284_85, zr_284_88, zr_284_89, zr_284_90, zr_284_93, zr_284_95, zr_284_96, zr_284_99, zr_284_100, true_or, or_true, true_and, and_true, if_true, if_false, ldA_ref, ldA_null, nl_int, nl_ref, nl_fl, nl_null, c1_int, c1_ref, c1_null, Nat.zero_add, Nat.zero_mul, Nat.one_mul, nI_add, nI_leI, nI_ltI, nI_eq, nI_mul, gf_M, rSt_W, c, rSt_P, rst_L, pf_M11 (show 100 ≤ 463 by omega), rPlw, zcall_some, zpush_some, zpush_none, zsum_ref, zsum_int, zsum_long, zsum_nil, zsum_null, Nat.reduceAdd, Nat.reduceLeDiff, if_true]
/-- the reference: all commands are read -/
theorem x_pass (hb : bufR r sg n) (hz : 472 ≤ 100 + H.1) (hw : wdR (putM 463 r H)) (hp : (pRD sg n 12 0).1 = none) : ∃ h' nu j v3', ev 284 [.ref 463] (putM 463 r H) = rn 284 135 [.ref 463, .int (nI (pRD sg n 12 0).2.length), .int (nI 0), .int (nI 0), .int (nI 1), .int (nI 0)] [] (putM 463 (rSt (wQ (wBf r (va_cpy (rS r) (rBf r) 0 0 8271)) (nI 1)) 0 (nI 0) nu) h') ∧ alF h' H j (12 * j) ∧ j ≤ 12 ∧ v3' = (0 : Nat) := by
  have hn := hb.2.1
  obtain ⟨h', nu', k', w', j, v3', e1, hj, al, hk, hw', hm⟩ := s_rpassL (m := 463) (r := r) (by omega) hb (.float 0) (.float 0) 12 0 0 (rNu r) H (.float 0) (by omega) (by omega) (by omega) (wdR_al (by omega) hw (alF.rf H) _) (Or.inl rfl)
  rw [hp] at hm
  obtain ⟨c, hnk, hjl⟩ := hm
  subst c
  refine ⟨h', nu', j, 0, ?_, al, hj, rfl⟩
  simp (implicitDefEqProofs := false) (disch := omega) only [ze_284, zr_284_0, zr_284_1, zr_284_2, zr_284_5, zr_284_6, zr_284_7, zr_284_10, zr_284_11, zr_284_12, zr_284_13, zr_284_15, zr_284_18, zr_284_19, zr_284_20, zr_284_23, zr_284_24, zr_284_27, zr_284_28, zr_284_31, zr_284_34, zr_284_35, zr_284_38, zr_284_40, zr_284_43, zr_284_44, zr_284_47, zr_284_48, zr_284_49, zr_284_50, zr_284_51, zr_284_54, zr_284_55, zr_284_58, zr_284_59, zr_284_62, zr_284_63, zr_284_64, zr_284_67, zr_284_70, zr_284_71, zr_284_74, zr_284_77, zr_284_78, zr_284_81, zr_284_82, zr_284_85, zr_284_88, zr_284_89, zr_284_90, zr_284_93, zr_284_95, zr_284_96, zr_284_99, zr_284_100, zr_284_101, zr_284_102, zr_284_105, zr_284_106, zr_284_107, zr_284_110, zr_284_111, zr_284_114, zr_284_117, zr_284_118, zr_284_119, zr_284_122, zr_284_123, zr_284_124, zr_284_127, zr_284_128, zr_284_129, zr_284_130, zr_284_132, zr_284_133, zr_284_137, zr_284_138, zr_284_141, zr_284_143, zr_284_146, zr_284_147, zr_284_150, zr_284_151, zr_284_152, zr_284_153, zr_284_156, zr_284_159, zr_284_160, zr_284_163, zr_284_164, zr_284_166, zr_284_167, zr_284_168, zr_284_171, zr_284_172, zr_284_173, zr_284_176, zr_284_179, zr_284_182, zr_284_183, zr_284_184, zr_284_187, zr_284_188, zr_284_189, zr_284_192, zr_284_194, zr_284_197, zr_284_198, zr_284_201, zr_284_202, zr_284_203, zr_284_206, zr_284_207, zr_284_210, zr_284_213, zr_284_216, zr_284_217, zr_284_218, zr_284_219, zr_284_220, zr_284_221, zr_284_224, zr_284_227, zr_284_228, true_or, or_true, true_and, and_true, if_true, if_false, ldA_ref, ldA_null, nl_int, nl_ref, nl_fl, nl_null, c1_int, c1_ref, c1_null, Nat.zero_add, Nat.zero_mul, Nat.one_mul, nI_add, nI_leI, nI_ltI, nI_eq, nI_mul, pf_M12 (show 100 ≤ 463 by omega), pf_M13 (show 100 ≤ 463 by omega) (nI 0) (Or.inl rfl), rst1, zcall_some, zpush_some, zpush_none, zsum_ref, zsum_int, zsum_long, zsum_nil, zsum_null, Nat.reduceAdd, Nat.reduceLeDiff, if_true]
  rw [e1, Nat.zero_add, hjl]
  simp (implicitDefEqProofs := false) (disch := omega) only [zr_284_70, zr_284_71, zr_284_74, zr_284_77, zr_284_78, zr_284_81, zr_284_82, zr_284_85, zr_284_88, zr_284_89, zr_284_90, zr_284_93, zr_284_95, zr_284_96, zr_284_99, zr_284_100, zr_284_101, zr_284_102, zr_284_105, zr_284_106, zr_284_107, zr_284_110, zr_284_111, zr_284_114, zr_284_117, zr_284_118, zr_284_119, zr_284_122, zr_284_123, zr_284_124, zr_284_127, zr_284_128, zr_284_129, zr_284_130, zr_284_132, zr_284_133, true_or, or_true, true_and, and_true, if_true, if_false, ldA_ref, ldA_null, nl_int, nl_ref, nl_fl, nl_null, c1_int, c1_ref, c1_null, Nat.zero_add, Nat.zero_mul, Nat.one_mul, nI_add, nI_leI, nI_ltI, nI_eq, nI_mul, gf_M, rSt_W, rSt_P, rst_L, rst_S, rst_B, hb.1, hnk, cp_M15 (show 100 ≤ 463 by omega), pf_M12 (show 100 ≤ 463 by omega), pf_M7 (show 100 ≤ 463 by omega) (nI 1) (Or.inr rfl), rst2, zcall_some, zpush_some, zpush_none, zsum_ref, zsum_int, zsum_long, zsum_nil, zsum_null, Nat.reduceAdd, Nat.reduceLeDiff, if_true]
end
section
variable {i L : Nat} {xs : Nat → Int32}
theorem st_execute (hi : i < 512) : stepI L xs i (fun h => ev 175 [.ref 100] h) (fun h => ev 284 [.ref 463] h) := by
  intro H hSt
  obtain ⟨s, hs, nx, ct, sb, sv, T, cap, t, r, sg, n, hc, hM, hz, ⟨z1, z2, z3, z4⟩, hr⟩ := hSt
  have hx := hc.1
  have hB := hc.2.1
  have hH := hc.2.2.1
  have hSB := hc.2.2.2.1
  have hT := hc.2.2.2.2.1
  obtain ⟨du, hD⟩ := hc.2.2.2.2.2.1
  have hg := hr.1
  obtain ⟨-, ⟨n1, n2, n3⟩, -, -, hQ, hbT, hbR⟩ := id hr
  have hn := hbT.2.1
  have eT : blk 436 5 (cT 436 T) H = H := blk_id hT
  obtain ⟨T1, e1, b1, c1, a1⟩ := s_read (a := 436) (h := H) (by omega) hbT (by rw [eT]; exact stz_4 hz) (by rw [eT]; exact stz_wA hz)
  rw [eT] at e1
  generalize hHr : blk 436 5 (cT 436 T1) H = Hr at e1
  have hTr : isB Hr 436 5 (cT 436 T1) := by rw [← hHr]; exact blk_isB
  have e2 := s_tclr hTr
  generalize hT2 : sT_ln T1 (nI 0) = T2 at e2
  have hct2 : gT_ct T2 = nI (pRD sg n 12 0).2.length := by rw [← hT2]; exact c1
  have ha2 : ∀ k x, (pRD sg n 12 0).2[k]? = some x → atC T2 (0 + k) x.1 x.2.1 x.2.2 := fun k x hk => by
    rw [Nat.zero_add, ← hT2]; exact a1 k x hk
  have hb2 : bufT T2 sg 0 := by rw [← hT2]; exact buf0T T1 sg
  generalize hH1 : blk 436 5 (cT 436 T2) Hr = H1 at e2
  have fo1 : ∀ p, (p < 436 ∨ 441 ≤ p) → H1.2.2 p = H.2.2 p := fun p hp => by
    rw [← hH1, blk_out (by omega), ← hHr, blk_out (by omega)]
  have sz1 : H1.1 = H.1 ∧ H1.2.1 = H.2.1 := by
    rw [← hH1, ← hHr]; exact ⟨rfl, rfl⟩
  have hxr : Hr.2.2 100 = xC sv := by rw [← hHr]; exact (blk_out (by omega)).trans hx
  have hx1 : H1.2.2 100 = xC sv := (fo1 _ (by omega)).trans hx
  have hT1 : isB H1 436 5 (cT 436 T2) := by rw [← hH1]; exact blk_isB
  dsimp only
  cases hp : (pRD sg n 12 0).1 with
  | some p =>
    have hM1 : isB H1 463 9 (cellM 463 r) := hM.to fun p _ _ => fo1 p (by omega)
    have hz1 : stz L xs H1 := fun a ha => (fo1 a (by omega)).trans (hz a ha)
    obtain ⟨h', k, w, nu, j, e3, al, hj, hp61⟩ := x_bad (r := r) (H := H1) hbR (by omega) (wdR.to (stz_wR hz1) fun q hq => putM_out _ _ (by omega)) hp
    rw [hp] at e1
    have e4 : ev 175 [.ref 100] H = some (some (.int (-100 - nI p)), H1) := by
      have em := nI_m1 p (by omega)
      have ep : rdI (some p) = nI p := rfl
      simp (implicitDefEqProofs := false) (disch := omega) only [ze_175, zr_175_0, zr_175_1, zr_175_4, zr_175_7, zr_175_8, zr_175_9, zr_175_12, zr_175_15, zr_175_16, zr_175_17, zr_175_20, zr_175_22, zr_175_23, zr_175_24, zr_175_25, zr_175_26, zr_175_29, zr_175_30, zr_175_33, zr_175_36, zr_175_37, zr_175_39, zr_175_40, zr_175_43, zr_175_46, zr_175_49, zr_175_50, zr_175_51, zr_175_54, zr_175_57, zr_175_58, zr_175_61, zr_175_62, zr_175_65, zr_175_68, zr_175_71, zr_175_72, zr_175_75, zr_175_76, zr_175_79, zr_175_80, zr_175_81, zr_175_84, zr_175_87, zr_175_88, zr_175_89, zr_175_92, zr_175_95, zr_175_98, true_or, or_true, true_and, and_true, if_true, if_false, ldA_ref, ldA_null, nl_int, nl_ref, nl_fl, nl_null, c1_int, c1_ref, c1_null, Nat.zero_add, Nat.zero_mul, Nat.one_mul, nI_add, nI_leI, nI_ltI, nI_eq, nI_mul, x_at hx, x_at hxr, rdT_0 hT, rdT_0 hTr, e1, e2, ep, em, zcall_some, zpush_some, zpush_none, zsum_ref, zsum_int, zsum_long, zsum_nil, zsum_null, Nat.reduceAdd, Nat.reduceLeDiff, if_true]
    rw [putM_id hM1] at e3
    have fo2 : ∀ q, q < 100 + H.1 → (q < 436 ∨ 441 ≤ q) → h'.2.2 q = H.2.2 q := fun q h1 h2 => (al.2.2 q (by omega)).trans (fo1 q h2)
    have s1 := al.1
    have s2 := al.2.1
    refine ⟨_, H1, _, e4, e3, ⟨(fo1 0 (by omega)).trans (hz 0 (by omega)), kd_c (hM1 0 (by omega))⟩, St.nw (sg' := sg) (n' := 0) hc hM hz z1 (by omega) (fun q h1 h2 h3 => fo2 q h1 (by omega)) ((fo2 _ (by omega) (by omega)).trans hx) (hB.to fun q _ _ => fo2 q (by omega) (by omega)) (hH.to fun q _ _ => fo2 q (by omega) (by omega)) (hSB.to fun q _ _ => fo2 q (by omega) (by omega)) (hT1.to fun q _ _ => al.2.2 q (by omega)) (by omega) (by omega) z4 ?_⟩
    exact (hr.fr (frG.lo (by omega) fun q h1 h2 => fo2 q h2 (by omega)) (by omega)).ex (fun _ _ => rfl) rfl (fun _ _ _ _ => rfl) rfl rfl rfl hb2 (buf0R _ sg)
  | none =>
    rw [hp] at e1
    have fG1 : frG H1 H := frG.lo (by omega) fun q h1 h2 => fo1 q (by omega)
    have hB1 : isB H1 101 37 (cB 101 s) := hB.to fun q _ _ => fo1 q (by omega)
    have hH1b : hiB H1 138 hs nx ct := hH.to fun q _ _ => fo1 q (by omega)
    have e3 := s_hBegin hH1b hB1 (by omega) (by omega) (by omega) n1 (hg.fr fG1).bSl hg.fg
    generalize hH2 : blk (138 + 2 + 37 * nx) 37 (cB (138 + 2 + 37 * nx) (pCpB (hs nx) s)) H1 = H2 at e3
    have fo2 : ∀ p, (p < 138 ∨ 399 ≤ p) → H2.2.2 p = H1.2.2 p := fun p hp => by rw [← hH2]; exact blk_out (by omega)
    have sz2 : H2.1 = H.1 ∧ H2.2.1 = H.2.1 := by rw [← hH2]; exact sz1
    have hh2 : hiB H2 138 (fun i => if i = nx then pCpB (hs nx) s else hs i) nx ct := by rw [← hH2]; exact hiB_put hH1b n1 _
    have hx2 : H2.2.2 100 = xC sv := (fo2 _ (by omega)).trans hx1
    have hB2 : isB H2 101 37 (cB 101 s) := hB1.to fun q _ _ => fo2 q (by omega)
    have hT2b : isB H2 436 5 (cT 436 T2) := hT1.to fun q _ _ => fo2 q (by omega)
    have hD2 : isB H2 441 2 (cD 441 du) := hD.to fun q _ _ => (fo2 q (by omega)).trans (fo1 q (by omega))
    have fG2 : frG H2 H := frG.lo (by omega) fun q h1 h2 => (fo2 q (by omega)).trans (fo1 q (by omega))
    have hpre : preC H2 s (rS r) (12 * i) := ⟨hB2, ⟨du, hD2⟩, hg.fr fG2, by omega, by omega⟩
    have hl12 := pRD_len sg n 12 0
    have ecl : ev 175 [.ref 100] H = rn 175 38 [.ref 100, .int (-1), .int (nI 0)] [] H2 := by
      have ep : rdI none = -1 := rfl
      simp (implicitDefEqProofs := false) (disch := omega) only [ze_175, zr_175_0, zr_175_1, zr_175_4, zr_175_7, zr_175_8, zr_175_9, zr_175_12, zr_175_15, zr_175_16, zr_175_17, zr_175_20, zr_175_22, zr_175_23, zr_175_24, zr_175_25, zr_175_26, zr_175_29, zr_175_30, zr_175_33, zr_175_36, zr_175_37, zr_175_39, zr_175_40, zr_175_43, zr_175_46, zr_175_49, zr_175_50, zr_175_51, zr_175_54, zr_175_57, zr_175_58, zr_175_61, zr_175_62, zr_175_65, zr_175_68, zr_175_71, zr_175_72, zr_175_75, zr_175_76, zr_175_79, zr_175_80, zr_175_81, zr_175_84, zr_175_87, zr_175_88, zr_175_89, zr_175_92, zr_175_95, zr_175_98, true_or, or_true, true_and, and_true, if_true, if_false, ldA_ref, ldA_null, nl_int, nl_ref, nl_fl, nl_null, c1_int, c1_ref, c1_null, Nat.zero_add, Nat.zero_mul, Nat.one_mul, nI_add, nI_leI, nI_ltI, nI_eq, nI_mul, x_at hx, x_at hxr, x_at hx1, rdT_0 hT, rdT_0 hTr, e1, e2, ep, (hi_at hH1b).1, e3, zcall_some, zpush_some, zpush_none, zsum_ref, zsum_int, zsum_long, zsum_nil, zsum_null, Nat.reduceAdd, Nat.reduceLeDiff, if_true]
    have fo02 : ∀ q, (q < 138 ∨ 399 ≤ q) → (q < 436 ∨ 441 ≤ q) → H2.2.2 q = H.2.2 q := fun q h1 h2 => (fo2 q h1).trans (fo1 q h2)
    rcases ex_loop (T := T2) (sv := sv) (sg := sg) (n := n) hct2 hl12 hn 12 0 0 (12 * i) H2 hp (by omega) ha2 (by omega) ⟨s, rS r, hpre⟩ (by omega) hx2 hT2b with ⟨H3, a1, a2, a3, a4⟩ | ⟨H3, s', idx, x, a1, a2, a3, a4, a5, a6, a7⟩
    · obtain ⟨g1, g2, g3, g4⟩ := a2
      have fo3 : ∀ q, q < 100 + H.1 → (q < 101 ∨ 138 ≤ q) → (q < 441 ∨ 443 ≤ q) → H3.2.2 q = H2.2.2 q := fun q h1 h2 h3 => g4 q (by omega) h2 h3
      have hx3 : H3.2.2 100 = xC sv := (fo3 _ (by omega) (by omega) (by omega)).trans hx2
      have hT3 : isB H3 436 5 (cT 436 T2) := hT2b.to fun q _ _ => fo3 q (by omega) (by omega) (by omega)
      have hh3 : hiB H3 138 (fun i => if i = nx then pCpB (hs nx) s else hs i) nx ct := hh2.to fun q _ _ => fo3 q (by omega) (by omega) (by omega)
      have e5 := s_finish (v := nI (pRD sg n 12 0).2.length) hx3 hh3 n1 n2
      rw [if_pos (nnN (by omega))] at e5
      have hh4 := hiB_set hh3 ((nx + 1) % 7) (min (ct + 1) 6)
      have foh : ∀ q, q ≠ 138 → (hiO H3 138 ((nx + 1) % 7) (min (ct + 1) 6)).2.2 q = H3.2.2 q := fun q hq => hiO_o q hq
      have sz4 : (hiO H3 138 ((nx + 1) % 7) (min (ct + 1) 6)).1 = H3.1 ∧ (hiO H3 138 ((nx + 1) % 7) (min (ct + 1) 6)).2.1 = H3.2.1 := ⟨rfl, rfl⟩
      generalize hiO H3 138 ((nx + 1) % 7) (min (ct + 1) 6) = H4 at e5 hh4 foh sz4
      have e6 : ev 175 [.ref 100] H = some (some (.int (nI (pRD sg n 12 0).2.length)), H4) := by
        rw [ecl, a1]
        simp (implicitDefEqProofs := false) (disch := omega) only [zr_175_87, zr_175_88, zr_175_89, zr_175_92, zr_175_95, zr_175_98, true_or, or_true, true_and, and_true, if_true, if_false, ldA_ref, ldA_null, nl_int, nl_ref, nl_fl, nl_null, c1_int, c1_ref, c1_null, Nat.zero_add, Nat.zero_mul, Nat.one_mul, nI_add, nI_leI, nI_ltI, nI_eq, nI_mul, x_at hx3, rdT_0 (hT3), rdT_1 (hT3), rdT_2 (hT3), rdT_3 (hT3), rdT_4 (hT3), rdT_5 (hT3), rdT_6 (hT3), rdT_7 (hT3), rdT_8 (hT3), rdT_9 (hT3), rdT_10 (hT3), rdT_11 (hT3), rdT_12 (hT3), rdT_13 (hT3), rdT_14 (hT3), hct2, e5, zcall_some, zpush_some, zpush_none, zsum_ref, zsum_int, zsum_long, zsum_nil, zsum_null, Nat.reduceAdd, Nat.reduceLeDiff, if_true]
      have fo4 : ∀ q, q < 100 + H.1 → (q < 101 ∨ 399 ≤ q) → (q < 436 ∨ 443 ≤ q) → H4.2.2 q = H.2.2 q := fun q h1 h2 h3 => (foh q (by omega)).trans ((fo3 q h1 (by omega) (by omega)).trans (fo02 q (by omega) (by omega)))
      have hM4 : isB H4 463 9 (cellM 463 r) := hM.to fun q _ _ => fo4 q (by omega) (by omega) (by omega)
      have hz4 : stz L xs H4 := fun a ha => (fo4 a (by omega) (by omega) (by omega)).trans (hz a ha)
      obtain ⟨h5, nu5, j5, v5, m1, al5, hj5, -⟩ := x_pass (r := r) (H := H4) hbR (by omega) (wdR.to (stz_wR hz4) fun q hq => putM_out _ _ (by omega)) hp
      have al5s := al5.1
      obtain ⟨h6, nu6, k6, v6, len, q', s', m2, al6, hl6, hB6, hg6⟩ := a4 (wQ (wBf r (va_cpy (rS r) (rBf r) 0 0 8271)) (nI 1)) ct h5 nu5 s (.int (nI 0)) hpre ⟨n3, n2, rfl, hbR, by omega, wdR.to (stz_wR hz4) fun q hq => (putM_out _ _ (by omega)).trans (al5.2.2 q (by omega))⟩
      have al := al6.tr al5
      have m3 := s_rpush5 (r := wLn (wQ (rSt (wS (wQ (wBf r (va_cpy (rS r) (rBf r) 0 0 8271)) (nI 1)) q') k6 (nI 0) nu6) (nI 0)) (nI 0)) (h := h6) (show 100 ≤ 463 by omega) n2 n3
      generalize hr7 : rPsh (wLn (wQ (rSt (wS (wQ (wBf r (va_cpy (rS r) (rBf r) 0 0 8271)) (nI 1)) q') k6 (nI 0) nu6) (nI 0)) (nI 0)) ct (rBf (wLn (wQ (rSt (wS (wQ (wBf r (va_cpy (rS r) (rBf r) 0 0 8271)) (nI 1)) q') k6 (nI 0) nu6) (nI 0)) (nI 0))) = r7 at m3
      have m4 : ev 284 [.ref 463] (putM 463 r H4) = some (some (.int (nI (pRD sg n 12 0).2.length)), putM 463 r7 h6) := by
        rw [m1, m2]
        simp (implicitDefEqProofs := false) (disch := omega) only [zr_284_182, zr_284_183, zr_284_184, zr_284_187, zr_284_188, zr_284_189, zr_284_192, zr_284_194, zr_284_197, zr_284_198, zr_284_201, zr_284_202, zr_284_203, zr_284_206, zr_284_207, zr_284_210, zr_284_213, zr_284_216, zr_284_217, zr_284_218, zr_284_219, zr_284_220, zr_284_221, zr_284_224, zr_284_227, zr_284_228, true_or, or_true, true_and, and_true, if_true, if_false, ldA_ref, ldA_null, nl_int, nl_ref, nl_fl, nl_null, c1_int, c1_ref, c1_null, Nat.zero_add, Nat.zero_mul, Nat.one_mul, nI_add, nI_leI, nI_ltI, nI_eq, nI_mul, kd_M, gf_M, show ¬ (1 : Nat) = 0 from by omega, pf_M7 (show 100 ≤ 463 by omega) (nI 0) (Or.inl rfl), pf_M11 (show 100 ≤ 463 by omega), m3, zcall_some, zpush_some, zpush_none, zsum_ref, zsum_int, zsum_long, zsum_nil, zsum_null, Nat.reduceAdd, Nat.reduceLeDiff, if_true]
      rw [putM_id hM4] at m4
      have s1 := al.1
      have s2 := al.2.1
      have al2 := al.2.2
      have fo7 : ∀ q, q < 100 + H.1 → (q < 101 ∨ 399 ≤ q) → (q < 436 ∨ 443 ≤ q) → h6.2.2 q = H.2.2 q := fun q h1 h2 h3 => (al2 q (by omega)).trans (fo4 q h1 h2 h3)
      have hfin : good h6 s' q' (12 * (i + 1)) := (hg6.fr (frG.lo (by omega) fun q h1 h2 => (al2 q (by omega)).trans (foh q (by omega)))).up (by omega)
      have fG7 : frG h6 H := frG.lo (by omega) fun q h1 h2 => fo7 q h2 (by omega) (by omega)
      have hrm := (hr.fr fG7 (Nat.le_refl _)).mu (by omega) hfin
      obtain ⟨du3, hD3⟩ := a3
      have to6 : ∀ q, q ≠ 138 → q < 100 + H.1 → h6.2.2 q = H3.2.2 q := fun q h1 h2 => (al2 q (by omega)).trans (foh q h1)
      have ech : rChg r ct = rPsh r ct (rS r) := if_pos hQ
      refine ⟨_, H4, _, e6, m4, mid.of hz4 hM4, St.nv (sg' := sg) (n' := 0) hc hM hz z1 (by omega) (fun q h1 h2 h3 => fo7 q h1 (by omega) (by omega)) ((fo7 _ (by omega) (by omega) (by omega)).trans hx) (hB6.to fun q _ _ => to6 q (by omega) (by omega)) (hh4.to fun q _ _ => al2 q (by omega)) (hSB.to fun q _ _ => fo7 q (by omega) (by omega) (by omega)) (hT3.to fun q _ _ => to6 q (by omega) (by omega)) ⟨du3, hD3.to fun q _ _ => to6 q (by omega) (by omega)⟩ (by omega) (by omega) z4 (hrm.ex (fun k hk => ?_) ?_ (fun j hj k hk => ?_) ?_ ?_ ?_ hb2 ?_)⟩
      · rw [← hr7]; rfl
      · rw [← hr7, ech]; rfl
      · rw [← hr7, ech]
        show psh (rPa r) ct (va_cpy (rS r) (rBf r) 0 0 8271) (8271 * j + k) = psh (rPa r) ct (rS r) (8271 * j + k)
        have hj2 : j < psn ct := by rw [psn_min n2]; exact hj
        rw [psh_at _ _ n2 hj2 hk, psh_at _ _ n2 hj2 hk, cpy0 _ _ hk]
      · rw [← hr7, ech]; rfl
      · rw [← hr7, ech]; rfl
      · rw [← hr7, ech]; exact hQ.symm
      · rw [← hr7]; exact ⟨rfl, by omega, fun j hj => by omega⟩
    · obtain ⟨g1, g2, g3, g4⟩ := a4
      have fo3 : ∀ q, q < 100 + H.1 → (q < 101 ∨ 138 ≤ q) → (q < 441 ∨ 443 ≤ q) → H3.2.2 q = H2.2.2 q := fun q h1 h2 h3 => g4 q (by omega) h2 h3
      have hx3 : H3.2.2 100 = xC sv := (fo3 _ (by omega) (by omega) (by omega)).trans hx2
      have hT3 : isB H3 436 5 (cT 436 T2) := hT2b.to fun q _ _ => fo3 q (by omega) (by omega) (by omega)
      have hh3 : hiB H3 138 (fun i => if i = nx then pCpB (hs nx) s else hs i) nx ct := hh2.to fun q _ _ => fo3 q (by omega) (by omega) (by omega)
      have fo03 : ∀ q, q < 100 + H.1 → (q < 101 ∨ 399 ≤ q) → (q < 436 ∨ 443 ≤ q) → H3.2.2 q = H.2.2 q := fun q h1 h2 h3 => (fo3 q h1 (by omega) (by omega)).trans (fo02 q (by omega) (by omega))
      have hg3 : good H3 (pCpB (hs nx) s) (rS r) (12 * i) := (hg.fr (frG.lo (by omega) fun q h1 h2 => fo03 q h2 (by omega) (by omega))).cp (hs nx)
      have e5 := s_hTake hh3 a5 (by omega) (by omega) (by omega) n1 (by rw [if_pos rfl]; exact hg3.bSl) (by rw [if_pos rfl]; exact hg3.fg)
      rw [if_pos rfl] at e5
      generalize hH4 : blk 101 37 (cB 101 (pCpB s' (pCpB (hs nx) s))) H3 = H4 at e5
      have foh : ∀ q, (q < 101 ∨ 138 ≤ q) → H4.2.2 q = H3.2.2 q := fun q hq => by rw [← hH4]; exact blk_out (by omega)
      have sz4 : H4.1 = H3.1 ∧ H4.2.1 = H3.2.1 := by rw [← hH4]; exact ⟨rfl, rfl⟩
      have hB4 : isB H4 101 37 (cB 101 (pCpB s' (pCpB (hs nx) s))) := by rw [← hH4]; exact blk_isB
      have hx4 : H4.2.2 100 = xC sv := (foh _ (by omega)).trans hx3
      have hT4 : isB H4 436 5 (cT 436 T2) := hT3.to fun q _ _ => foh q (by omega)
      have est := s_start hT4 hct2 a2 hl12
      rw [a3] at est
      have e6 : ev 175 [.ref 100] H = some (some (.int (-200 - nI x)), H4) := by
        rw [ecl, a1]
        simp (implicitDefEqProofs := false) (disch := omega) only [zr_175_57, zr_175_58, zr_175_61, zr_175_62, zr_175_65, zr_175_68, zr_175_71, zr_175_72, zr_175_75, zr_175_76, zr_175_79, zr_175_80, true_or, or_true, true_and, and_true, if_true, if_false, ldA_ref, ldA_null, nl_int, nl_ref, nl_fl, nl_null, c1_int, c1_ref, c1_null, Nat.zero_add, Nat.zero_mul, Nat.one_mul, nI_add, nI_leI, nI_ltI, nI_eq, nI_mul, x_at hx3, x_at hx4, (hi_at hh3).1, e5, rdT_0 hT4, est, zcall_some, zpush_some, zpush_none, zsum_ref, zsum_int, zsum_long, zsum_nil, zsum_null, Nat.reduceAdd, Nat.reduceLeDiff, if_true]
      have fo4 : ∀ q, q < 100 + H.1 → (q < 101 ∨ 399 ≤ q) → (q < 436 ∨ 443 ≤ q) → H4.2.2 q = H.2.2 q := fun q h1 h2 h3 => (foh q (by omega)).trans (fo03 q h1 h2 h3)
      have hM4 : isB H4 463 9 (cellM 463 r) := hM.to fun q _ _ => fo4 q (by omega) (by omega) (by omega)
      have hz4 : stz L xs H4 := fun a ha => (fo4 a (by omega) (by omega) (by omega)).trans (hz a ha)
      obtain ⟨h5, nu5, j5, v5, m1, al5, hj5, -⟩ := x_pass (r := r) (H := H4) hbR (by omega) (wdR.to (stz_wR hz4) fun q hq => putM_out _ _ (by omega)) hp
      have al5s := al5.1
      obtain ⟨h6, nu6, k6, i6, len, q', m2, al6, hl6⟩ := a7 (wQ (wBf r (va_cpy (rS r) (rBf r) 0 0 8271)) (nI 1)) ct h5 nu5 s (.int (nI 0)) hpre ⟨n3, n2, rfl, hbR, by omega, wdR.to (stz_wR hz4) fun q hq => (putM_out _ _ (by omega)).trans (al5.2.2 q (by omega))⟩
      have al := al6.tr al5
      generalize hr5 : wLn (wQ (rSt (wS (wQ (wBf r (va_cpy (rS r) (rBf r) 0 0 8271)) (nI 1)) q') k6 (nI 0) nu6) (nI 0)) (nI 0) = r5
      have eB : rBf r5 = va_cpy (rS r) (rBf r) 0 0 8271 := by rw [← hr5]; rfl
      have m4 : ev 284 [.ref 463] (putM 463 r H4) = some (some (.int (-200 - nI x)), putM 463 (wS r5 (va_cpy (rBf r5) (rS r5) 0 0 8271)) h6) := by
        rw [m1, m2]
        simp (implicitDefEqProofs := false) (disch := omega) only [zr_284_182, zr_284_183, zr_284_184, zr_284_187, zr_284_188, zr_284_189, zr_284_192, zr_284_194, zr_284_197, zr_284_198, zr_284_201, zr_284_202, zr_284_203, zr_284_206, zr_284_207, zr_284_210, zr_284_213, zr_284_216, zr_284_217, zr_284_218, true_or, or_true, true_and, and_true, if_true, if_false, ldA_ref, ldA_null, nl_int, nl_ref, nl_fl, nl_null, c1_int, c1_ref, c1_null, Nat.zero_add, Nat.zero_mul, Nat.one_mul, nI_add, nI_leI, nI_ltI, nI_eq, nI_mul, kd_M, gf_M, pf_M7 (show 100 ≤ 463 by omega) (nI 0) (Or.inl rfl), pf_M11 (show 100 ≤ 463 by omega), hr5, cp_M51 (show 100 ≤ 463 by omega), zcall_some, zpush_some, zpush_none, zsum_ref, zsum_int, zsum_long, zsum_nil, zsum_null, Nat.reduceAdd, Nat.reduceLeDiff, if_true]
      rw [putM_id hM4, eB] at m4
      have s1 := al.1
      have s2 := al.2.1
      have al2 := al.2.2
      have fo7 : ∀ q, q < 100 + H.1 → (q < 101 ∨ 399 ≤ q) → (q < 436 ∨ 443 ≤ q) → h6.2.2 q = H.2.2 q := fun q h1 h2 h3 => (al2 q (by omega)).trans (fo4 q h1 h2 h3)
      have to6 : ∀ q, (q < 101 ∨ 138 ≤ q) → q < 100 + H.1 → h6.2.2 q = H3.2.2 q := fun q h1 h2 => (al2 q (by omega)).trans (foh q h1)
      obtain ⟨du3, hD3⟩ := a6
      have fG7 : frG h6 H := frG.lo (by omega) fun q h1 h2 => fo7 q h2 (by omega) (by omega)
      obtain ⟨k1, k2, k3, k4, k5⟩ := hr.fr (K2 := 12 * (i + 1)) fG7 (by omega)
      have hbase : relW h6 (pCpB s' (pCpB (hs nx) s)) (fun i => if i = nx then pCpB (hs nx) s else hs i) nx ct sb sv T r sg n (12 * (i + 1)) := ⟨(k1.cp (hs nx)).cp s', k2, fun j hj => by
        dsimp only
        rw [if_neg (by omega)]
        exact k3 j hj, k4, k5⟩
      refine ⟨_, H4, _, e6, m4, mid.of hz4 hM4, St.nv (sg' := sg) (n' := 0) hc hM hz z1 (by omega) (fun q h1 h2 h3 => fo7 q h1 (by omega) (by omega)) ((fo7 _ (by omega) (by omega) (by omega)).trans hx) (hB4.to fun q _ _ => al2 q (by omega)) (hh3.to fun q _ _ => to6 q (by omega) (by omega)) (hSB.to fun q _ _ => fo7 q (by omega) (by omega) (by omega)) (hT3.to fun q _ _ => to6 q (by omega) (by omega)) ⟨du3, hD3.to fun q _ _ => to6 q (by omega) (by omega)⟩ (by omega) (by omega) z4 (hbase.ex (fun k hk => ?_) ?_ (fun j hj k hk => ?_) ?_ ?_ ?_ hb2 ?_)⟩
      · show va_cpy (va_cpy (rS r) (rBf r) 0 0 8271) (rS r5) 0 0 8271 k = rS r k
        rw [cpy0 _ _ hk, cpy0 _ _ hk]
      · rw [← hr5]; rfl
      · rw [← hr5]; rfl
      · rw [← hr5]; rfl
      · rw [← hr5]; rfl
      · rw [← hr5]; exact hQ.symm
      · rw [← hr5]; exact ⟨rfl, by omega, fun j hj => by omega⟩
end
