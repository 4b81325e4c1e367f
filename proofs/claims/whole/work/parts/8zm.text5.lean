/-! QUESTIONS whose answer is a text -/
section
variable {L i : Nat} {xs : Nat → Int32}
def qT (L : Nat) (xs : Nat → Int32) (H : zH) (s : tyB) (q : Nat → Int64) (K cap : Nat) (t : List Nat) : Prop := qC H s q K ∧ stz L xs H ∧ txB H 459 cap t ∧ 472 ≤ 100 + H.1
def qryT (L : Nat) (xs : Nat → Int32) (X M : zH → Option (Option Value × zH)) : Prop := ∀ H s q K cap t, qT L xs H s q K cap t → ∃ v H1 cap' t', X H = some (some (.int v), H1) ∧ txB H1 459 cap' t' ∧ txG H1 H 459 cap cap' 2000 ∧ ∀ r h, rS r = q → stz L xs h → ∃ r', M (putM 463 r h) = some (some (.int v), putM 463 r' h) ∧ rAg r' r
theorem qryT.step {X M : zH → Option (Option Value × zH)} (h : qryT L xs X M) : stepI L xs i X M := by
  intro H hSt
  obtain ⟨s, hs, nx, ct, sb, sv, T, cap, t, r, sg, n, hc, hM, hz, ⟨z1, z2, z3, z4⟩, hr⟩ := hSt
  obtain ⟨v, H1, cap', t', e1, hx, f, e2⟩ := h H s (rS r) (12 * i) cap t ⟨⟨⟨sv, hc.1⟩, hc.2.1, hr.1⟩, hz, hc.2.2.2.2.2.2.2, z1⟩
  obtain ⟨f1, f2, f3, f4, f5, f6⟩ := f
  have hz1 : stz L xs H1 := fun a ha => (f6 a (by omega) (by omega) (by omega) (Or.inr ha)).trans (hz a ha)
  obtain ⟨r', e3, a⟩ := e2 r H1 rfl hz1
  have fq : frQ H1 H := ⟨f3, fun p h1 _ h3 h4 h5 => f6 p (by omega) (by omega) h1 h5⟩
  rw [putM_id (frQ.M hM fq z1)] at e3
  have hk := fun p => hc.kn (p := p)
  obtain ⟨du, hd⟩ := hc.2.2.2.2.2.1
  obtain ⟨w, ht⟩ := hc.2.2.2.2.2.2.1
  exact ⟨v, H1, _, e1, e3, mid.of hz1 (frQ.M hM fq z1), St.scr hc hM hz z1 hr fq ⟨du, hd.to fun p h1 h2 => f6 p (by omega) (by omega) (by omega) (Or.inl (hk p (by omega) (by omega) (by omega)))⟩ ⟨w, ht.to fun p h1 h2 => f6 p (by omega) (by omega) (by omega) (Or.inl (hk p (by omega) (by omega) (by omega)))⟩ hx (by omega) (by omega) (by omega) a⟩
end
section
variable {H H1 : zH} {s : tyB} {q : Nat → Int64} {c n e g K m mo cap cap' N : Nat} {gs : Nat → Nat} {w : tyW} {LS : Nat → List Ln} {r : Rst} {h : zH} {l : List Ln} {sv : Int32} {t : List Nat}
/-- a text is written: what else is there stays -/
theorem txG.x (f : txG H1 H 459 cap cap' N) (hx : H.2.2 100 = xC sv) (hz : 472 ≤ 100 + H.1) : H1.2.2 100 = xC sv := (f.2.2.2.2.2 100 (by omega) (by omega) (by omega) (Or.inl (by rw [kd_kc, hx]; exact (by decide : (11 : Nat) ≠ 1003)))).trans hx
theorem txG.B (f : txG H1 H 459 cap cap' N) (hB : isB H 101 37 (cB 101 s)) (hz : 472 ≤ 100 + H.1) : isB H1 101 37 (cB 101 s) := hB.to fun p h1 h2 => f.2.2.2.2.2 p (by omega) (by omega) (by omega) (Or.inl (hB.kn (fun k hk => kn_B hk) h1 h2))
theorem txG.G (f : txG H1 H 459 cap cap' N) : frG H1 H := ⟨f.2.2.1, fun p h1 h2 h3 => f.2.2.2.2.2 p (by omega) (by omega) h2 (Or.inl h3)⟩
theorem txG.z {L : Nat} {xs : Nat → Int32} (f : txG H1 H 459 cap cap' N) (hz : stz L xs H) (h472 : 472 ≤ 100 + H.1) : stz L xs H1 := fun a ha => (f.2.2.2.2.2 a (by omega) (by omega) (by omega) (Or.inr ha)).trans (hz a ha)
theorem wT_S (r : Rst) (g : Nat → Int32) (k : Nat) : rS (wTxt r g k) = rS r := rfl
theorem wT_A (r : Rst) (g : Nat → Int32) (k : Nat) : rAg (wTxt r g k) r := ⟨fun _ _ => rfl, rfl, rfl, rfl, rfl, rfl, rfl, rfl⟩
theorem wT_0 (r : Rst) : wWm r (nI 0) = wTxt r (rWr r) ([] : List Nat).length := rfl
theorem okW_0 (g : Nat → Int32) : okW g [] := fun j c h => by cases h
theorem lnX_n {k i re : Nat} (hk : k < 8) (hi : i < 12) (hre : re < 7) (x : Int64) : lnX (nI k, nI i, nI re, x) = lnT k i re x := by
  unfold lnX
  dsimp only
  rw [nI_clamp (by omega), nI_clamp (by omega), nI_clamp (by omega)]
theorem s_rletL {z : Int32} (hm : 100 ≤ m) (he : e < 3) (hmo : mo < 12) (hL : rLines r e mo l) (ok : ∀ y, y ∈ l → okLn y) (hs : ∀ k, k < 8 → stOK (putM m r h) (nmB k) (nmT k)) : ∀ (j i : Nat) (g : Nat → Int32) (v6 : Value), i + j = l.length → okW g (slT (l.take i)) → ∃ g', rn 259 24 [.ref m, .int (nI e), .int (nI mo), .int z, .int (nI 0), .int (nI i), v6] [] (putM m (wTxt r g (slT (l.take i)).length) h) = some (some (.int (rdT (slT l) z)), putM m (wTxt r g' (slT l).length) h) := by
  intro j
  have hl54 := hL.2.1
  have hlen := slT_len l
  induction j with
  | zero =>
    intro i g v6 hi hw
    rw [show i = l.length by omega, List.take_length] at hw ⊢
    have e1 := s_rread (m := m) (r := r) (h := h) (i := z) hw (by omega)
    refine ⟨g, ?_⟩
    rw [zl_259_24]
    simp (implicitDefEqProofs := false) (disch := omega) only [zr_259_26, zr_259_27, zr_259_28, zr_259_29, zr_259_32, zr_259_33, zr_259_34, zr_259_37, zr_259_38, zr_259_41, zr_259_42, zr_259_43, zr_259_45, zr_259_48, zr_259_50, zr_259_51, zr_259_52, zr_259_55, zr_259_57, zr_259_58, zr_259_59, zr_259_60, zr_259_63, zr_259_65, zr_259_66, zr_259_67, zr_259_68, zr_259_69, zr_259_72, zr_259_74, zr_259_75, zr_259_76, zr_259_77, zr_259_78, zr_259_81, zr_259_83, zr_259_84, zr_259_85, zr_259_86, zr_259_89, zr_259_92, zr_259_95, zr_259_96, zr_259_97, zr_259_100, true_or, or_true, true_and, and_true, if_true, if_false, ldA_ref, ldA_null, nl_int, nl_ref, nl_fl, nl_null, c1_int, c1_ref, c1_null, Nat.zero_add, Nat.zero_mul, Nat.one_mul, nI_add, nI_leI, nI_ltI, nI_eq, nI_mul, cmp_lt, cmp_gt, cmp_le, cmp_ge, cmp_eq, kd_M, s_of (show rX e (147 + mo) < 8271 by unfold rX; omega), wT_S, hL.1, i64_lt, i64_le, Int32.le_refl, Nat.le_refl, e1, zcall_some, zpush_some, zpush_none, zsum_ref, zsum_int, zsum_long, zsum_nil, zsum_null, Nat.reduceAdd, Nat.reduceLeDiff, if_true]
  | succ j ih =>
    intro i g v6 hi hw
    have hil : i < l.length := by omega
    obtain ⟨k0, k1, k2, k3⟩ := rLines_lk hL hil
    obtain ⟨⟨kk, hkk, ek⟩, ⟨ki, hki, ei⟩, ⟨kr, hkr, er⟩⟩ := ok _ (lk_mem hil)
    have hn : ¬ l.length ≤ i := by omega
    have el : lnX (lk l i) = lnT kk ki kr (lk l i).2.2.2 := by
      rw [← lnX_n hkk hki hkr, ← ek, ← ei, ← er]
    rw [ek] at k0
    rw [ei] at k1
    rw [er] at k2
    have ht := slT_len (l.take i)
    rw [List.length_take] at ht
    obtain ⟨g1, e1, w1⟩ := s_rline (m := m) (r := r) (h := h) (g := g) (t := slT (l.take i)) (x := (lk l i).2.2.2) hm hkk (show ki < 100 by omega) (show kr < 100 by omega) (hs kk hkk) hw (by omega)
    rw [← el, ← slT_take l hil] at e1 w1
    obtain ⟨g', e2⟩ := ih (i + 1) g1 (.int (nI (rLp e mo i))) (by omega) w1
    refine ⟨g', ?_⟩
    rw [← e2, zl_259_24]
    simp (implicitDefEqProofs := false) (disch := omega) only [zr_259_26, zr_259_27, zr_259_28, zr_259_29, zr_259_32, zr_259_33, zr_259_34, zr_259_37, zr_259_38, zr_259_41, zr_259_42, zr_259_43, zr_259_45, zr_259_48, zr_259_50, zr_259_51, zr_259_52, zr_259_55, zr_259_57, zr_259_58, zr_259_59, zr_259_60, zr_259_63, zr_259_65, zr_259_66, zr_259_67, zr_259_68, zr_259_69, zr_259_72, zr_259_74, zr_259_75, zr_259_76, zr_259_77, zr_259_78, zr_259_81, zr_259_83, zr_259_84, zr_259_85, zr_259_86, zr_259_89, zr_259_92, true_or, or_true, true_and, and_true, if_true, if_false, ldA_ref, ldA_null, nl_int, nl_ref, nl_fl, nl_null, c1_int, c1_ref, c1_null, Nat.zero_add, Nat.zero_mul, Nat.one_mul, nI_add, nI_leI, nI_ltI, nI_eq, nI_mul, cmp_lt, cmp_gt, cmp_le, cmp_ge, cmp_eq, s_of (show rX e (147 + mo) < 8271 by unfold rX; omega), wT_S, hL.1, i64_lt, i64_le, hn, kd_M, s_rlineAt, gf_M, lj_M1 (show rLp e mo i < 8271 by unfold rLp rX; omega), lj_M1 (show rLp e mo i + 1 < 8271 by unfold rLp rX; omega), lj_M1 (show rLp e mo i + 2 < 8271 by unfold rLp rX; omega), lj_M1 (show rLp e mo i + 3 < 8271 by unfold rLp rX; omega), k0, k1, k2, k3, i64_b, e1, zcall_some, zpush_some, zpush_none, zsum_ref, zsum_int, zsum_long, zsum_nil, zsum_null, Nat.reduceAdd, Nat.reduceLeDiff, if_true]
end
section
variable {L : Nat} {xs : Nat → Int32}
theorem q_letter (x y z : Int32) : qryT L xs (fun h => ev 95 [.ref 100, .int x, .int y, .int z] h) (fun h => ev 259 [.ref 463, .int x, .int y, .int z] h) := by
  intro H s q K cap t ⟨⟨⟨sv, hx⟩, hB, c, n, gs, LS, hb, hs⟩, hz, hT, h472⟩
  dsimp only
  have hc := hb.1.1
  by_cases h0 : nI 0 ≤ x ∧ x ≤ nI 2
  · by_cases h1 : nI 0 ≤ y ∧ y ≤ nI 11
    · obtain ⟨e, he, rfl⟩ := in_nI (by omega) h0.1 h0.2
      have hE := good.rE hb (show e < 3 by omega)
      have hW := B_W hB (show e < 3 by omega)
      have hS := hs e (by omega)
      obtain ⟨mo, hmo, rfl, h3⟩ := mo_cases (H := H) hc h1
      rcases h3 with ⟨h3, h4⟩ | ⟨h3, h4⟩
      · obtain ⟨p, d, s1, s2, s3, s4, s5⟩ := hS.1 mo h3
        obtain ⟨l1, l2⟩ := hE.2.2.2.2.2.2.1 mo h3
        have hl54 := l1.2.1
        have hlen := slT_len (LS e mo)
        obtain ⟨H1, cap', e1, t1, f1⟩ := s_wrSlip hT (show 459 + 3 < p by omega) s2 s3 l2.2 s5
        have hx1 := f1.x hx h472
        have e2 := s_signAt (i := z) t1 (by omega)
        refine ⟨rdT (slT (LS e mo)) z, H1, cap', _, ?_, t1, f1, fun r h hq hzh => ?_⟩
        · simp (implicitDefEqProofs := false) (disch := omega) only [ze_95, zr_95_0, zr_95_1, zr_95_4, zr_95_7, zr_95_8, zr_95_11, zr_95_14, zr_95_15, zr_95_16, zr_95_17, zr_95_20, zr_95_23, zr_95_24, zr_95_25, zr_95_28, zr_95_29, zr_95_30, zr_95_32, zr_95_34, zr_95_37, zr_95_39, zr_95_40, zr_95_41, zr_95_44, zr_95_46, zr_95_49, zr_95_50, zr_95_53, zr_95_54, zr_95_57, true_or, or_true, true_and, and_true, if_true, if_false, ldA_ref, ldA_null, nl_int, nl_ref, nl_fl, nl_null, c1_int, c1_ref, c1_null, Nat.zero_add, Nat.zero_mul, Nat.one_mul, nI_add, nI_leI, nI_ltI, nI_eq, nI_mul, cmp_lt, cmp_gt, cmp_le, cmp_ge, cmp_eq, s_isEmployee, s_isMonth, s_within, bI_0, bI_ok, show ¬ ¬ (0 ≤ e ∧ e ≤ 2) from by omega, show ¬ ¬ (0 ≤ mo ∧ mo ≤ 11) from by omega, x_at hx, x_at hx1, rdB_0 (hB), rdB_1 (hB), rdB_2 (hB), rdB_3 (hB), rdB_4 (hB), rdB_5 (hB), rdB_6 (hB), rdB_7 (hB), hb.1.2.1, rdW_0 (hW), rdW_1 (hW), rdW_2 (hW), rdW_3 (hW), rdW_4 (hW), rdW_5 (hW), rdW_6 (hW), rdW_7 (hW), rdW_8 (hW), rdW_9 (hW), rdW_10 (hW), rdW_11 (hW), rdW_12 (hW), rdW_13 (hW), rdW_14 (hW), rdW_15 (hW), rdW_16 (hW), rdW_17 (hW), rdW_18 (hW), rdW_19 (hW), rdW_20 (hW), rdW_21 (hW), rdW_22 (hW), rdW_23 (hW), rdW_24 (hW), rdW_25 (hW), rdW_26 (hW), rdW_27 (hW), rdW_28 (hW), rdW_29 (hW), s1, rf_some, ifN_ref, (tx_at hT).1, (tx_at t1).1, e1, e2, zcall_some, zpush_some, zpush_none, zsum_ref, zsum_int, zsum_long, zsum_nil, zsum_null, Nat.reduceAdd, Nat.reduceLeDiff, if_true]
        · have hL : rLines r e mo (LS e mo) := by rw [rLines_q, hq]; exact l1
          have hsB : ∀ k, k < 8 → stOK (putM 463 r h) (nmB k) (nmT k) := fun k hk => (stz_B hzh k hk).to fun a ha => putM_out _ _ (by omega)
          obtain ⟨g', e3⟩ := s_rletL (m := 463) (z := z) (by omega) (show e < 3 by omega) hmo hL l2.2 hsB (LS e mo).length 0 (rWr r) (.float 0) (by omega) (okW_0 _)
          refine ⟨wTxt r g' (slT (LS e mo)).length, ?_, wT_A _ _ _⟩
          simp (implicitDefEqProofs := false) (disch := omega) only [ze_259, zr_259_0, zr_259_1, zr_259_2, zr_259_3, zr_259_6, zr_259_8, zr_259_10, zr_259_13, zr_259_15, zr_259_16, zr_259_17, zr_259_18, zr_259_21, zr_259_22, zr_259_26, zr_259_27, zr_259_28, zr_259_29, zr_259_32, zr_259_33, zr_259_34, zr_259_37, zr_259_38, zr_259_41, zr_259_42, zr_259_43, zr_259_45, zr_259_48, zr_259_50, zr_259_51, zr_259_52, zr_259_55, zr_259_57, zr_259_58, zr_259_59, zr_259_60, zr_259_63, zr_259_65, zr_259_66, zr_259_67, zr_259_68, zr_259_69, zr_259_72, zr_259_74, zr_259_75, zr_259_76, zr_259_77, zr_259_78, zr_259_81, zr_259_83, zr_259_84, zr_259_85, zr_259_86, zr_259_89, zr_259_92, zr_259_95, zr_259_96, zr_259_97, zr_259_100, true_or, or_true, true_and, and_true, if_true, if_false, ldA_ref, ldA_null, nl_int, nl_ref, nl_fl, nl_null, c1_int, c1_ref, c1_null, Nat.zero_add, Nat.zero_mul, Nat.one_mul, nI_add, nI_leI, nI_ltI, nI_eq, nI_mul, cmp_lt, cmp_gt, cmp_le, cmp_ge, cmp_eq, kd_M, bI_0, s_why (show rS r 0 = (nI c).toInt64 by rw [hq]; exact hb.1.2.2.1), pWhy_0 h0 h1 h4, lt0, pf_M9 (show 100 ≤ 463 by omega), Nat.le_refl, zcall_some, zpush_some, zpush_none, zsum_ref, zsum_int, zsum_long, zsum_nil, zsum_null, Nat.reduceAdd, Nat.reduceLeDiff, if_true]
          exact e3
      · have s1 := hS.2 mo hmo h3
        refine ⟨-2, H, cap, t, ?_, hT, txG.rf _ _ _ _, fun r h hq _ => ⟨r, ?_, rAg.rf r⟩⟩
        · simp (implicitDefEqProofs := false) (disch := omega) only [ze_95, zr_95_0, zr_95_1, zr_95_4, zr_95_7, zr_95_8, zr_95_11, zr_95_14, zr_95_15, zr_95_16, zr_95_17, zr_95_20, zr_95_23, zr_95_24, zr_95_25, zr_95_28, zr_95_29, zr_95_30, zr_95_32, zr_95_34, zr_95_37, zr_95_39, zr_95_40, zr_95_41, zr_95_44, zr_95_46, zr_95_49, zr_95_50, zr_95_53, zr_95_54, zr_95_57, true_or, or_true, true_and, and_true, if_true, if_false, ldA_ref, ldA_null, nl_int, nl_ref, nl_fl, nl_null, c1_int, c1_ref, c1_null, Nat.zero_add, Nat.zero_mul, Nat.one_mul, nI_add, nI_leI, nI_ltI, nI_eq, nI_mul, cmp_lt, cmp_gt, cmp_le, cmp_ge, cmp_eq, s_isEmployee, s_isMonth, s_within, bI_0, bI_ok, show ¬ ¬ (0 ≤ e ∧ e ≤ 2) from by omega, show ¬ ¬ (0 ≤ mo ∧ mo ≤ 11) from by omega, x_at hx, rdB_0 (hB), rdB_1 (hB), rdB_2 (hB), rdB_3 (hB), rdB_4 (hB), rdB_5 (hB), rdB_6 (hB), rdB_7 (hB), hb.1.2.1, rdW_0 (hW), rdW_1 (hW), rdW_2 (hW), rdW_3 (hW), rdW_4 (hW), rdW_5 (hW), rdW_6 (hW), rdW_7 (hW), rdW_8 (hW), rdW_9 (hW), rdW_10 (hW), rdW_11 (hW), rdW_12 (hW), rdW_13 (hW), rdW_14 (hW), rdW_15 (hW), rdW_16 (hW), rdW_17 (hW), rdW_18 (hW), rdW_19 (hW), rdW_20 (hW), rdW_21 (hW), rdW_22 (hW), rdW_23 (hW), rdW_24 (hW), rdW_25 (hW), rdW_26 (hW), rdW_27 (hW), rdW_28 (hW), rdW_29 (hW), rf_some, s1, rf_none, ifN_null, zcall_some, zpush_some, zpush_none, zsum_ref, zsum_int, zsum_long, zsum_nil, zsum_null, Nat.reduceAdd, Nat.reduceLeDiff, if_true]
        · simp (implicitDefEqProofs := false) (disch := omega) only [ze_259, zr_259_0, zr_259_1, zr_259_2, zr_259_3, zr_259_6, zr_259_8, zr_259_10, zr_259_13, zr_259_15, zr_259_16, zr_259_17, zr_259_18, zr_259_21, zr_259_22, zr_259_26, zr_259_27, zr_259_28, zr_259_29, zr_259_32, zr_259_33, zr_259_34, zr_259_37, zr_259_38, zr_259_41, zr_259_42, zr_259_43, zr_259_45, zr_259_48, zr_259_50, zr_259_51, zr_259_52, zr_259_55, zr_259_57, zr_259_58, zr_259_59, zr_259_60, zr_259_63, zr_259_65, zr_259_66, zr_259_67, zr_259_68, zr_259_69, zr_259_72, zr_259_74, zr_259_75, zr_259_76, zr_259_77, zr_259_78, zr_259_81, zr_259_83, zr_259_84, zr_259_85, zr_259_86, zr_259_89, zr_259_92, zr_259_95, zr_259_96, zr_259_97, zr_259_100, true_or, or_true, true_and, and_true, if_true, if_false, ldA_ref, ldA_null, nl_int, nl_ref, nl_fl, nl_null, c1_int, c1_ref, c1_null, Nat.zero_add, Nat.zero_mul, Nat.one_mul, nI_add, nI_leI, nI_ltI, nI_eq, nI_mul, cmp_lt, cmp_gt, cmp_le, cmp_ge, cmp_eq, kd_M, s_why (show rS r 0 = (nI c).toInt64 by rw [hq]; exact hb.1.2.2.1), pWhy_2 h0 h1 h4, lt2, show ¬ nI 0 ≤ (-2 : Int32) from by decide, zcall_some, zpush_some, zpush_none, zsum_ref, zsum_int, zsum_long, zsum_nil, zsum_null, Nat.reduceAdd, Nat.reduceLeDiff, if_true]
    · refine ⟨-1, H, cap, t, ?_, hT, txG.rf _ _ _ _, fun r h hq _ => ⟨r, ?_, rAg.rf r⟩⟩
      · simp (implicitDefEqProofs := false) (disch := omega) only [ze_95, zr_95_0, zr_95_1, zr_95_4, zr_95_7, zr_95_8, zr_95_11, zr_95_14, zr_95_15, zr_95_16, zr_95_17, zr_95_20, zr_95_23, zr_95_24, zr_95_25, zr_95_28, zr_95_29, zr_95_30, zr_95_32, zr_95_34, zr_95_37, zr_95_39, zr_95_40, zr_95_41, zr_95_44, zr_95_46, zr_95_49, zr_95_50, zr_95_53, zr_95_54, zr_95_57, true_or, or_true, true_and, and_true, if_true, if_false, ldA_ref, ldA_null, nl_int, nl_ref, nl_fl, nl_null, c1_int, c1_ref, c1_null, s_isEmployee, s_isMonth, s_within, bI_0, bI_ok, not_false_eq_true, zcall_some, zpush_some, zpush_none, zsum_ref, zsum_int, zsum_long, zsum_nil, zsum_null, Nat.reduceAdd, Nat.reduceLeDiff, if_true, nn h0, h1]
      · simp (implicitDefEqProofs := false) (disch := omega) only [ze_259, zr_259_0, zr_259_1, zr_259_2, zr_259_3, zr_259_6, zr_259_8, zr_259_10, zr_259_13, zr_259_15, zr_259_16, zr_259_17, zr_259_18, zr_259_21, zr_259_22, zr_259_26, zr_259_27, zr_259_28, zr_259_29, zr_259_32, zr_259_33, zr_259_34, zr_259_37, zr_259_38, zr_259_41, zr_259_42, zr_259_43, zr_259_45, zr_259_48, zr_259_50, zr_259_51, zr_259_52, zr_259_55, zr_259_57, zr_259_58, zr_259_59, zr_259_60, zr_259_63, zr_259_65, zr_259_66, zr_259_67, zr_259_68, zr_259_69, zr_259_72, zr_259_74, zr_259_75, zr_259_76, zr_259_77, zr_259_78, zr_259_81, zr_259_83, zr_259_84, zr_259_85, zr_259_86, zr_259_89, zr_259_92, zr_259_95, zr_259_96, zr_259_97, zr_259_100, true_or, or_true, true_and, and_true, if_true, if_false, ldA_ref, ldA_null, nl_int, nl_ref, nl_fl, nl_null, c1_int, c1_ref, c1_null, cmp_lt, cmp_gt, cmp_le, cmp_ge, cmp_eq, kd_M, s_why (show rS r 0 = (nI c).toInt64 by rw [hq]; exact hb.1.2.2.1), pWhy_1 (fun x => h1 x.2), lt1, show ¬ nI 0 ≤ (-1 : Int32) from by decide, zcall_some, zpush_some, zpush_none, zsum_ref, zsum_int, zsum_long, zsum_nil, zsum_null, Nat.reduceAdd, Nat.reduceLeDiff, if_true]
  · refine ⟨-1, H, cap, t, ?_, hT, txG.rf _ _ _ _, fun r h hq _ => ⟨r, ?_, rAg.rf r⟩⟩
    · simp (implicitDefEqProofs := false) (disch := omega) only [ze_95, zr_95_0, zr_95_1, zr_95_4, zr_95_7, zr_95_8, zr_95_11, zr_95_14, zr_95_15, zr_95_16, zr_95_17, zr_95_20, zr_95_23, zr_95_24, zr_95_25, zr_95_28, zr_95_29, zr_95_30, zr_95_32, zr_95_34, zr_95_37, zr_95_39, zr_95_40, zr_95_41, zr_95_44, zr_95_46, zr_95_49, zr_95_50, zr_95_53, zr_95_54, zr_95_57, true_or, or_true, true_and, and_true, if_true, if_false, ldA_ref, ldA_null, nl_int, nl_ref, nl_fl, nl_null, c1_int, c1_ref, c1_null, s_isEmployee, s_isMonth, s_within, bI_0, bI_ok, not_false_eq_true, zcall_some, zpush_some, zpush_none, zsum_ref, zsum_int, zsum_long, zsum_nil, zsum_null, Nat.reduceAdd, Nat.reduceLeDiff, if_true, h0]
    · simp (implicitDefEqProofs := false) (disch := omega) only [ze_259, zr_259_0, zr_259_1, zr_259_2, zr_259_3, zr_259_6, zr_259_8, zr_259_10, zr_259_13, zr_259_15, zr_259_16, zr_259_17, zr_259_18, zr_259_21, zr_259_22, zr_259_26, zr_259_27, zr_259_28, zr_259_29, zr_259_32, zr_259_33, zr_259_34, zr_259_37, zr_259_38, zr_259_41, zr_259_42, zr_259_43, zr_259_45, zr_259_48, zr_259_50, zr_259_51, zr_259_52, zr_259_55, zr_259_57, zr_259_58, zr_259_59, zr_259_60, zr_259_63, zr_259_65, zr_259_66, zr_259_67, zr_259_68, zr_259_69, zr_259_72, zr_259_74, zr_259_75, zr_259_76, zr_259_77, zr_259_78, zr_259_81, zr_259_83, zr_259_84, zr_259_85, zr_259_86, zr_259_89, zr_259_92, zr_259_95, zr_259_96, zr_259_97, zr_259_100, true_or, or_true, true_and, and_true, if_true, if_false, ldA_ref, ldA_null, nl_int, nl_ref, nl_fl, nl_null, c1_int, c1_ref, c1_null, cmp_lt, cmp_gt, cmp_le, cmp_ge, cmp_eq, kd_M, s_why (show rS r 0 = (nI c).toInt64 by rw [hq]; exact hb.1.2.2.1), pWhy_1 (fun x => h0 x.1), lt1, show ¬ nI 0 ≤ (-1 : Int32) from by decide, zcall_some, zpush_some, zpush_none, zsum_ref, zsum_int, zsum_long, zsum_nil, zsum_null, Nat.reduceAdd, Nat.reduceLeDiff, if_true]
end
