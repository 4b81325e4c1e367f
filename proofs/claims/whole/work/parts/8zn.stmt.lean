/-! THE YEARLY STATEMENT on both sides -/
section
variable {H H1 : zH} {s : tyB} {q : Nat → Int64} {c n e g K m cap cap1 : Nat} {gs : Nat → Nat} {w : tyW} {LS : Nat → List Ln} {r : Rst} {h : zH} {sv : Int32} {L : Nat} {xs : Nat → Int32} {t : List Nat}
def sD (s : tyR) (n : Nat) (w : tyW) (LS : Nat → List Ln) (c k : Nat) : Nat := if sK k ≤ 3 ∧ ¬ pTot LS c (sT k) = pAmt s n (sK k) (pG w c) then 1 else 0
def stT (s : tyR) (n : Nat) (w : tyW) (LS : Nat → List Ln) (c : Nat) : Nat → List Nat
  | 0 => []
  | k + 1 => stT s n w LS c k ++ lnT (sK k) c (sD s n w LS c k) (pTot LS c (sT k))
theorem sD_2 (s : tyR) (n : Nat) (w : tyW) (LS : Nat → List Ln) (c k : Nat) : sD s n w LS c k < 7 := by
  unfold sD
  split <;> omega
theorem stT_len (s : tyR) (n : Nat) (w : tyW) (LS : Nat → List Ln) (c : Nat) : ∀ k, (stT s n w LS c k).length ≤ 35 * k
  | 0 => Nat.le_refl _
  | k + 1 => by
    have h1 := stT_len s n w LS c k
    have h2 := lnT_len (sK k) c (sD s n w LS c k) (pTot LS c (sT k))
    rw [stT, List.length_append]; omega
theorem sK_bd : ∀ k, k < 7 → sK k < 8 ∧ sT k < 9 ∧ sT k ≠ 6 ∧ (k < 4 → sK k = k ∧ sT k = k) := by decide
theorem s_stL {z : Int32} (hc : c ≤ 12) (hcl : gB_cl s = nI c) (hn : n ≤ 5) (hbn : gR_bn (gB_ru s) = nI n) (he : e < 3) (h472 : 472 ≤ 100 + H.1) (hx : H.2.2 100 = xC sv) (hB : isB H 101 37 (cB 101 s)) (hz : stz L xs H) (hs : slB H (gB_wk s e) c LS) (ok : ∀ m, m < c → okSl (LS m)) : ∀ (j i : Nat) (H1 : zH) (cap1 : Nat) (v4 v5 v6 v7 : Value), i + j = 7 → txB H1 459 cap1 (stT (gB_ru s) n (gB_wk s e) LS c i) → txG H1 H 459 cap cap1 2000 → ∃ H2 cap2, rn 168 18 [.ref 100, .int (nI e), .int z, .int (nI i), v4, v5, v6, v7] [] H1 = some (some (.int (rdT (stT (gB_ru s) n (gB_wk s e) LS c 7) z)), H2) ∧ txB H2 459 cap2 (stT (gB_ru s) n (gB_wk s e) LS c 7) ∧ txG H2 H 459 cap cap2 2000 := by
  intro j
  induction j with
  | zero =>
    intro i H1 cap1 v4 v5 v6 v7 hi ht f
    have hi7 : i = 7 := by omega
    subst hi7
    have hx1 := f.x hx h472
    obtain ⟨f1, t1, t2⟩ := stz_1 (f.z hz h472)
    have tA : ∀ (β : Type) (u : Int32 → Option β), zal H1 1 u = u (nI 7) := fun _ u => al_c t1 (by decide) u
    have hl := stT_len (gB_ru s) n (gB_wk s e) LS c 7
    have e2 := s_signAt (i := z) ht (by omega)
    refine ⟨H1, cap1, ?_, ht, f⟩
    rw [zl_168_18]
    simp (implicitDefEqProofs := false) (disch := omega) only [zr_168_19, zr_168_22, zr_168_23, zr_168_26, zr_168_27, zr_168_30, zr_168_31, zr_168_34, zr_168_37, zr_168_38, zr_168_39, zr_168_41, zr_168_42, zr_168_45, zr_168_48, zr_168_49, zr_168_50, zr_168_53, zr_168_54, zr_168_55, zr_168_58, zr_168_60, zr_168_62, zr_168_63, zr_168_66, zr_168_68, zr_168_69, zr_168_72, zr_168_73, zr_168_75, zr_168_78, zr_168_79, zr_168_82, zr_168_83, zr_168_86, zr_168_87, zr_168_89, zr_168_90, zr_168_93, zr_168_95, zr_168_96, zr_168_99, zr_168_102, zr_168_104, zr_168_107, zr_168_108, zr_168_111, zr_168_112, zr_168_114, zr_168_117, zr_168_120, zr_168_123, zr_168_124, zr_168_127, zr_168_128, zr_168_131, true_or, or_true, true_and, and_true, if_true, if_false, ldA_ref, ldA_null, nl_int, nl_ref, nl_fl, nl_null, c1_int, c1_ref, c1_null, Nat.zero_add, Nat.zero_mul, Nat.one_mul, nI_add, nI_leI, nI_ltI, nI_eq, nI_mul, tA, Nat.le_refl, x_at hx1, (tx_at ht).1, e2, zcall_some, zpush_some, zpush_none, zsum_ref, zsum_int, zsum_long, zsum_nil, zsum_null, Nat.reduceAdd, Nat.reduceLeDiff, if_true]
  | succ j ih =>
    intro i H1 cap1 v4 v5 v6 v7 hi ht f
    have hi7 : i < 7 := by omega
    obtain ⟨b1, b2, -, -⟩ := sK_bd i hi7
    have hx1 := f.x hx h472
    have hB1 := f.B hB h472
    have hW1 := B_W hB1 he
    have hS1 := slp_of (hs.fr f.G) ok
    obtain ⟨f1, t1, t2⟩ := stz_1 (f.z hz h472)
    obtain ⟨g1, u1, u2⟩ := stz_2 (f.z hz h472)
    have tA : ∀ (β : Type) (u : Int32 → Option β), zal H1 1 u = u (nI 7) := fun _ u => al_c t1 (by decide) u
    have uA : ∀ (β : Type) (u : Int32 → Option β), zal H1 2 u = u (nI 7) := fun _ u => al_c u1 (by decide) u
    have tL : ∀ (β : Type) (u : Int32 → Option β), zli H1 1 0 (nI i) u = u (nI (sK i)) := fun _ u => (li_c t1 hi7 (by omega) u).trans (by rw [t2 i hi7])
    have uL : ∀ (β : Type) (u : Int32 → Option β), zli H1 2 0 (nI i) u = u (nI (sT i)) := fun _ u => (li_c u1 hi7 (by omega) u).trans (by rw [u2 i hi7])
    have hT := s_totalOf hW1 hS1 b2
    have hl := stT_len (gB_ru s) n (gB_wk s e) LS c i
    obtain ⟨H2, cap2, e3, t3, f3⟩ := tx_L (k := sK i) (i := c) (re := sD (gB_ru s) n (gB_wk s e) LS c i) (x := pTot LS c (sT i)) (N := 2000) ht b1 (by omega) (by have := sD_2 (gB_ru s) n (gB_wk s e) LS c i; omega) (by omega) (by omega)
    have ih2 := fun v4 v5 v6 v7 => ih (i + 1) H2 cap2 v4 v5 v6 v7 (by omega) t3 (f3.tr f)
    by_cases c1 : sK i ≤ 3
    · have hO := s_oneRun hB1 hcl hc he hn hbn (show sK i < 5 by omega)
      by_cases c2 : pTot LS c (sT i) = pAmt (gB_ru s) n (sK i) (pG (gB_wk s e) c)
      · rw [show sD (gB_ru s) n (gB_wk s e) LS c i = 0 from if_neg fun x => x.2 c2] at e3
        obtain ⟨H3, cap3, e4, t4, f4⟩ := ih2 (.int (nI (sK i))) (.long (pTot LS c (sT i))) (.float 0) (.int (nI 0))
        refine ⟨H3, cap3, ?_, t4, f4⟩
        rw [← e4, zl_168_18]
        simp (implicitDefEqProofs := false) (disch := omega) only [zr_168_19, zr_168_22, zr_168_23, zr_168_26, zr_168_27, zr_168_30, zr_168_31, zr_168_34, zr_168_37, zr_168_38, zr_168_39, zr_168_41, zr_168_42, zr_168_45, zr_168_48, zr_168_49, zr_168_50, zr_168_53, zr_168_54, zr_168_55, zr_168_58, zr_168_60, zr_168_62, zr_168_63, zr_168_66, zr_168_68, zr_168_69, zr_168_72, zr_168_73, zr_168_75, zr_168_78, zr_168_79, zr_168_82, zr_168_83, zr_168_86, zr_168_87, zr_168_89, zr_168_90, zr_168_93, zr_168_95, zr_168_96, zr_168_99, zr_168_102, zr_168_104, zr_168_107, zr_168_108, zr_168_111, zr_168_112, zr_168_114, zr_168_117, zr_168_120, true_or, or_true, true_and, and_true, if_true, if_false, ldA_ref, ldA_null, nl_int, nl_ref, nl_fl, nl_null, c1_int, c1_ref, c1_null, Nat.zero_add, Nat.zero_mul, Nat.one_mul, nI_add, nI_leI, nI_ltI, nI_eq, nI_mul, cmp_lt, cmp_gt, cmp_le, cmp_ge, cmp_eq, tA, uA, tL, uL, show ¬ 7 ≤ i from by omega, show ¬ 3 < sK i from by omega, x_at hx1, rdB_0 (hB1), rdB_1 (hB1), rdB_2 (hB1), rdB_3 (hB1), rdB_4 (hB1), rdB_5 (hB1), rdB_6 (hB1), rdB_7 (hB1), hcl, rf_some, rdW_0 hW1, hT, hO, c2, (tx_at ht).1, zcall_some, zpush_some, zpush_none, zsum_ref, zsum_int, zsum_long, zsum_nil, zsum_null, Nat.reduceAdd, Nat.reduceLeDiff, if_true]
        rw [c2] at e3
        simp (implicitDefEqProofs := false) (disch := omega) only [zr_168_19, zr_168_22, zr_168_23, zr_168_26, zr_168_27, zr_168_30, zr_168_31, zr_168_34, zr_168_37, zr_168_38, zr_168_39, zr_168_41, zr_168_42, zr_168_45, zr_168_48, zr_168_49, zr_168_50, zr_168_53, zr_168_54, zr_168_55, zr_168_58, zr_168_60, zr_168_62, zr_168_63, zr_168_66, zr_168_68, zr_168_69, zr_168_72, zr_168_73, zr_168_75, zr_168_78, zr_168_79, zr_168_82, zr_168_83, zr_168_86, zr_168_87, zr_168_89, zr_168_90, zr_168_93, zr_168_95, zr_168_96, zr_168_99, zr_168_102, zr_168_104, zr_168_107, zr_168_108, zr_168_111, zr_168_112, zr_168_114, zr_168_117, zr_168_120, true_or, or_true, true_and, and_true, if_true, if_false, ldA_ref, ldA_null, nl_int, nl_ref, nl_fl, nl_null, c1_int, c1_ref, c1_null, Nat.zero_add, Nat.zero_mul, Nat.one_mul, nI_add, nI_leI, nI_ltI, nI_eq, nI_mul, e3, zcall_some, zpush_some, zpush_none, zsum_ref, zsum_int, zsum_long, zsum_nil, zsum_null, Nat.reduceAdd, Nat.reduceLeDiff, if_true]
      · rw [show sD (gB_ru s) n (gB_wk s e) LS c i = 1 from if_pos ⟨c1, c2⟩] at e3
        obtain ⟨H3, cap3, e4, t4, f4⟩ := ih2 (.int (nI (sK i))) (.long (pTot LS c (sT i))) (.float 0) (.int (nI 1))
        refine ⟨H3, cap3, ?_, t4, f4⟩
        rw [← e4, zl_168_18]
        simp (implicitDefEqProofs := false) (disch := omega) only [zr_168_19, zr_168_22, zr_168_23, zr_168_26, zr_168_27, zr_168_30, zr_168_31, zr_168_34, zr_168_37, zr_168_38, zr_168_39, zr_168_41, zr_168_42, zr_168_45, zr_168_48, zr_168_49, zr_168_50, zr_168_53, zr_168_54, zr_168_55, zr_168_58, zr_168_60, zr_168_62, zr_168_63, zr_168_66, zr_168_68, zr_168_69, zr_168_72, zr_168_73, zr_168_75, zr_168_78, zr_168_79, zr_168_82, zr_168_83, zr_168_86, zr_168_87, zr_168_89, zr_168_90, zr_168_93, zr_168_95, zr_168_96, zr_168_99, zr_168_102, zr_168_104, zr_168_107, zr_168_108, zr_168_111, zr_168_112, zr_168_114, zr_168_117, zr_168_120, true_or, or_true, true_and, and_true, if_true, if_false, ldA_ref, ldA_null, nl_int, nl_ref, nl_fl, nl_null, c1_int, c1_ref, c1_null, Nat.zero_add, Nat.zero_mul, Nat.one_mul, nI_add, nI_leI, nI_ltI, nI_eq, nI_mul, cmp_lt, cmp_gt, cmp_le, cmp_ge, cmp_eq, tA, uA, tL, uL, show ¬ 7 ≤ i from by omega, show ¬ 3 < sK i from by omega, show ¬ (1 : Nat) = 0 from by omega, x_at hx1, rdB_0 (hB1), rdB_1 (hB1), rdB_2 (hB1), rdB_3 (hB1), rdB_4 (hB1), rdB_5 (hB1), rdB_6 (hB1), rdB_7 (hB1), hcl, rf_some, rdW_0 hW1, hT, hO, c2, (tx_at ht).1, e3, zcall_some, zpush_some, zpush_none, zsum_ref, zsum_int, zsum_long, zsum_nil, zsum_null, Nat.reduceAdd, Nat.reduceLeDiff, if_true]
    · rw [show sD (gB_ru s) n (gB_wk s e) LS c i = 0 from if_neg fun x => c1 x.1] at e3
      obtain ⟨H3, cap3, e4, t4, f4⟩ := ih2 (.int (nI (sK i))) (.long (pTot LS c (sT i))) (.float 0) (.int (nI 0))
      refine ⟨H3, cap3, ?_, t4, f4⟩
      rw [← e4, zl_168_18]
      simp (implicitDefEqProofs := false) (disch := omega) only [zr_168_19, zr_168_22, zr_168_23, zr_168_26, zr_168_27, zr_168_30, zr_168_31, zr_168_34, zr_168_37, zr_168_38, zr_168_39, zr_168_41, zr_168_42, zr_168_45, zr_168_48, zr_168_49, zr_168_50, zr_168_53, zr_168_54, zr_168_55, zr_168_58, zr_168_60, zr_168_62, zr_168_63, zr_168_66, zr_168_68, zr_168_69, zr_168_72, zr_168_73, zr_168_75, zr_168_78, zr_168_79, zr_168_82, zr_168_83, zr_168_86, zr_168_87, zr_168_89, zr_168_90, zr_168_93, zr_168_95, zr_168_96, zr_168_99, zr_168_102, zr_168_104, zr_168_107, zr_168_108, zr_168_111, zr_168_112, zr_168_114, zr_168_117, zr_168_120, true_or, or_true, true_and, and_true, if_true, if_false, ldA_ref, ldA_null, nl_int, nl_ref, nl_fl, nl_null, c1_int, c1_ref, c1_null, Nat.zero_add, Nat.zero_mul, Nat.one_mul, nI_add, nI_leI, nI_ltI, nI_eq, nI_mul, cmp_lt, cmp_gt, cmp_le, cmp_ge, cmp_eq, tA, uA, tL, uL, show ¬ 7 ≤ i from by omega, show 3 < sK i from by omega, x_at hx1, rdB_0 (hB1), rdB_1 (hB1), rdB_2 (hB1), rdB_3 (hB1), rdB_4 (hB1), rdB_5 (hB1), rdB_6 (hB1), rdB_7 (hB1), hcl, rf_some, rdW_0 hW1, hT, (tx_at ht).1, e3, zcall_some, zpush_some, zpush_none, zsum_ref, zsum_int, zsum_long, zsum_nil, zsum_null, Nat.reduceAdd, Nat.reduceLeDiff, if_true]
theorem J1_1 : (nI 1).toInt64 = 1 := by decide
theorem J1_0 : (nI 0).toInt64 = 0 := by decide
theorem s_rstL {z : Int32} {s0 : tyR} (hm : 100 ≤ m) (he : e < 3) (hc : c ≤ 12) (hr : RelR s0 (rS r) n) (hE : RelE w (rS r) e c g LS) (h0 : rS r 0 = (nI c).toInt64) (hs : ∀ k, k < 8 → stOK (putM m r h) (nmB k) (nmT k)) : ∀ (j i : Nat) (g : Nat → Int32) (v4 v5 v6 v7 : Value), i + j = 7 → okW g (stT s0 n w LS c i) → ∃ g', rn 280 16 [.ref m, .int (nI e), .int z, .int (nI i), v4, v5, v6, v7] [] (putM m (wTxt r g (stT s0 n w LS c i).length) h) = some (some (.int (rdT (stT s0 n w LS c 7) z)), putM m (wTxt r g' (stT s0 n w LS c 7).length) h) := by
  intro j
  induction j with
  | zero =>
    intro i g v4 v5 v6 v7 hi hw
    have hi7 : i = 7 := by omega
    subst hi7
    have hl := stT_len s0 n w LS c 7
    have e1 := s_rread (m := m) (r := r) (h := h) (i := z) hw (by omega)
    refine ⟨g, ?_⟩
    rw [zl_280_16]
    simp (implicitDefEqProofs := false) (disch := omega) only [zr_280_17, zr_280_19, zr_280_22, zr_280_23, zr_280_24, zr_280_27, zr_280_28, zr_280_31, zr_280_32, zr_280_33, zr_280_36, zr_280_37, zr_280_40, zr_280_41, zr_280_42, zr_280_45, zr_280_47, zr_280_50, zr_280_52, zr_280_54, zr_280_55, zr_280_56, zr_280_58, zr_280_60, zr_280_63, zr_280_65, zr_280_68, zr_280_70, zr_280_73, zr_280_75, zr_280_76, zr_280_77, zr_280_80, zr_280_82, zr_280_83, zr_280_84, zr_280_85, zr_280_86, zr_280_89, zr_280_92, zr_280_93, zr_280_96, zr_280_97, zr_280_100, zr_280_101, zr_280_104, zr_280_105, zr_280_107, zr_280_108, zr_280_110, zr_280_111, zr_280_114, zr_280_115, zr_280_116, zr_280_118, zr_280_121, zr_280_122, zr_280_125, zr_280_126, zr_280_128, zr_280_131, zr_280_134, zr_280_137, zr_280_138, zr_280_139, zr_280_142, true_or, or_true, true_and, and_true, if_true, if_false, ldA_ref, ldA_null, nl_int, nl_ref, nl_fl, nl_null, c1_int, c1_ref, c1_null, Nat.zero_add, Nat.zero_mul, Nat.one_mul, nI_add, nI_leI, nI_ltI, nI_eq, nI_mul, kd_M, Nat.le_refl, e1, zcall_some, zpush_some, zpush_none, zsum_ref, zsum_int, zsum_long, zsum_nil, zsum_null, Nat.reduceAdd, Nat.reduceLeDiff, if_true]
  | succ j ih =>
    intro i g v4 v5 v6 v7 hi hw
    have hi7 : i < 7 := by omega
    obtain ⟨b1, b2, b3, b4⟩ := sK_bd i hi7
    have hl := stT_len s0 n w LS c i
    obtain ⟨g1, e1, w1⟩ := s_rline (m := m) (r := r) (h := h) (g := g) (t := stT s0 n w LS c i) (k := sK i) (i := c) (re := sD s0 n w LS c i) (x := pTot LS c (sT i)) hm b1 (by omega) (by have := sD_2 s0 n w LS c i; omega) (hs _ b1) hw (by omega)
    have ih2 := fun v4 v5 v6 v7 => ih (i + 1) g1 v4 v5 v6 v7 (by omega) w1
    rw [stT] at ih2
    have hT := s_rtot (m := m) (h := h) (r := wTxt r g (stT s0 n w LS c i).length) (k := sT i) (by omega) b3 he hc h0 (fun mo hmo => (hE.2.2.2.2.2.2.1 mo hmo).1)
    have hC := s_rcm (m := m) (h := h) (r := wTxt r g (stT s0 n w LS c i).length) h0
    by_cases c0 : i < 4
    · obtain ⟨d1, d2⟩ := b4 c0
      have hA := s_ramt (m := m) (h := h) (r := wTxt r g (stT s0 n w LS c i).length) (n := n) hr.1 hr.2.2.1 (show i < 5 by omega)
      have hG := s_rsum (m := m) (h := h) (r := wTxt r g (stT s0 n w LS c i).length) he hc
      have hO := oneR_eq (k := i) (r := wTxt r g (stT s0 n w LS c i).length) hr hE.2.1 hE.1 hc
      by_cases c2 : pTot LS c (sT i) = pAmt s0 n (sK i) (pG w c)
      · rw [show sD s0 n w LS c i = 0 from if_neg fun x => x.2 c2, J1_0, d1, d2] at e1
        rw [d2] at hT
        rw [d1, d2] at c2
        obtain ⟨g', e2⟩ := ih2 (.int (nI i)) (.long (pTot LS c i)) (.float 0) (.int (nI 0))
        refine ⟨g', ?_⟩
        rw [← e2, zl_280_16]
        rw [show stT s0 n w LS c i ++ lnT (sK i) c (sD s0 n w LS c i) (pTot LS c (sT i)) = stT s0 n w LS c i ++ lnT i c 0 (pTot LS c i) by rw [show sD s0 n w LS c i = 0 from if_neg fun x => x.2 (by rw [d1, d2]; exact c2), d1, d2]]
        have c3 : pTot LS c i = rAmt (wTxt r g (stT s0 n w LS c i).length) n i (rG (wTxt r g (stT s0 n w LS c i).length) e c) := by rw [hO]; exact c2
        simp (implicitDefEqProofs := false) (disch := omega) only [zr_280_17, zr_280_19, zr_280_22, zr_280_23, zr_280_24, zr_280_27, zr_280_28, zr_280_31, zr_280_32, zr_280_33, zr_280_36, zr_280_37, zr_280_40, zr_280_41, zr_280_42, zr_280_45, zr_280_47, zr_280_50, zr_280_52, zr_280_54, zr_280_55, zr_280_56, zr_280_58, zr_280_60, zr_280_63, zr_280_65, zr_280_68, zr_280_70, zr_280_73, zr_280_75, zr_280_76, zr_280_77, zr_280_80, zr_280_82, zr_280_83, zr_280_84, zr_280_85, zr_280_86, zr_280_89, zr_280_92, zr_280_93, zr_280_96, zr_280_97, zr_280_100, zr_280_101, zr_280_104, zr_280_105, zr_280_107, zr_280_108, zr_280_110, zr_280_111, zr_280_114, zr_280_115, zr_280_116, zr_280_118, zr_280_121, zr_280_122, zr_280_125, zr_280_126, zr_280_128, zr_280_131, zr_280_134, true_or, or_true, true_and, and_true, if_true, if_false, ldA_ref, ldA_null, nl_int, nl_ref, nl_fl, nl_null, c1_int, c1_ref, c1_null, Nat.zero_add, Nat.zero_mul, Nat.one_mul, nI_add, nI_leI, nI_ltI, nI_eq, nI_mul, cmp_lt, cmp_gt, cmp_le, cmp_ge, cmp_eq, kd_M, gf_M0, lj_M1 (show 0 < 8271 by omega), wT_S, h0, show ¬ 7 ≤ i from by omega, show ¬ 4 ≤ i from by omega, show ¬ i = 6 from by omega, hT, hC, hG, hA, ← c3, e1, zcall_some, zpush_some, zpush_none, zsum_ref, zsum_int, zsum_long, zsum_nil, zsum_null, Nat.reduceAdd, Nat.reduceLeDiff, if_true]
      · have d3 : sD s0 n w LS c i = 1 := if_pos ⟨by omega, c2⟩
        rw [d3, J1_1, d1, d2] at e1
        rw [d2] at hT
        rw [d1, d2] at c2
        obtain ⟨g', e2⟩ := ih2 (.int (nI i)) (.long (pTot LS c i)) (.float 0) (.int (nI 1))
        refine ⟨g', ?_⟩
        rw [d1, d2, d3] at e2
        rw [← e2, zl_280_16]
        have c3 : ¬ pTot LS c i = rAmt (wTxt r g (stT s0 n w LS c i).length) n i (rG (wTxt r g (stT s0 n w LS c i).length) e c) := by rw [hO]; exact c2
        simp (implicitDefEqProofs := false) (disch := omega) only [zr_280_17, zr_280_19, zr_280_22, zr_280_23, zr_280_24, zr_280_27, zr_280_28, zr_280_31, zr_280_32, zr_280_33, zr_280_36, zr_280_37, zr_280_40, zr_280_41, zr_280_42, zr_280_45, zr_280_47, zr_280_50, zr_280_52, zr_280_54, zr_280_55, zr_280_56, zr_280_58, zr_280_60, zr_280_63, zr_280_65, zr_280_68, zr_280_70, zr_280_73, zr_280_75, zr_280_76, zr_280_77, zr_280_80, zr_280_82, zr_280_83, zr_280_84, zr_280_85, zr_280_86, zr_280_89, zr_280_92, zr_280_93, zr_280_96, zr_280_97, zr_280_100, zr_280_101, zr_280_104, zr_280_105, zr_280_107, zr_280_108, zr_280_110, zr_280_111, zr_280_114, zr_280_115, zr_280_116, zr_280_118, zr_280_121, zr_280_122, zr_280_125, zr_280_126, zr_280_128, zr_280_131, zr_280_134, true_or, or_true, true_and, and_true, if_true, if_false, ldA_ref, ldA_null, nl_int, nl_ref, nl_fl, nl_null, c1_int, c1_ref, c1_null, Nat.zero_add, Nat.zero_mul, Nat.one_mul, nI_add, nI_leI, nI_ltI, nI_eq, nI_mul, cmp_lt, cmp_gt, cmp_le, cmp_ge, cmp_eq, kd_M, gf_M0, lj_M1 (show 0 < 8271 by omega), wT_S, h0, show ¬ 7 ≤ i from by omega, show ¬ 4 ≤ i from by omega, show ¬ i = 6 from by omega, show ¬ (1 : Nat) = 0 from by omega, hT, hC, hG, hA, c3, e1, zcall_some, zpush_some, zpush_none, zsum_ref, zsum_int, zsum_long, zsum_nil, zsum_null, Nat.reduceAdd, Nat.reduceLeDiff, if_true]
    · have d3 : sD s0 n w LS c i = 0 := by
        refine if_neg fun x => absurd x.1 ?_
        rcases (show i = 4 ∨ i = 5 ∨ i = 6 by omega) with rfl | rfl | rfl <;> decide
      rw [d3, J1_0] at e1
      obtain ⟨g', e2⟩ := ih2 (.int (nI (sK i))) (.long (pTot LS c (sT i))) (.float 0) (.int (nI 0))
      refine ⟨g', ?_⟩
      rw [d3] at e2
      rw [← e2, zl_280_16]
      rcases (show i = 4 ∨ i = 5 ∨ i = 6 by omega) with rfl | rfl | rfl
      · rw [show sK 4 = 5 from rfl, show sT 4 = 5 from rfl] at *
        simp (implicitDefEqProofs := false) (disch := omega) only [zr_280_17, zr_280_19, zr_280_22, zr_280_23, zr_280_24, zr_280_27, zr_280_28, zr_280_31, zr_280_32, zr_280_33, zr_280_36, zr_280_37, zr_280_40, zr_280_41, zr_280_42, zr_280_45, zr_280_47, zr_280_50, zr_280_52, zr_280_54, zr_280_55, zr_280_56, zr_280_58, zr_280_60, zr_280_63, zr_280_65, zr_280_68, zr_280_70, zr_280_73, zr_280_75, zr_280_76, zr_280_77, zr_280_80, zr_280_82, zr_280_83, zr_280_84, zr_280_85, zr_280_86, zr_280_89, zr_280_92, zr_280_93, zr_280_96, zr_280_97, zr_280_100, zr_280_101, zr_280_104, zr_280_105, zr_280_107, zr_280_108, zr_280_110, zr_280_111, zr_280_114, zr_280_115, zr_280_116, zr_280_118, zr_280_121, zr_280_122, zr_280_125, zr_280_126, zr_280_128, zr_280_131, zr_280_134, true_or, or_true, true_and, and_true, if_true, if_false, ldA_ref, ldA_null, nl_int, nl_ref, nl_fl, nl_null, c1_int, c1_ref, c1_null, Nat.zero_add, Nat.zero_mul, Nat.one_mul, nI_add, nI_leI, nI_ltI, nI_eq, nI_mul, kd_M, gf_M0, lj_M1 (show 0 < 8271 by omega), wT_S, h0, Nat.reduceLT, Nat.reduceEqDiff, hT, e1, zcall_some, zpush_some, zpush_none, zsum_ref, zsum_int, zsum_long, zsum_nil, zsum_null, Nat.reduceAdd, Nat.reduceLeDiff, if_true]
      · rw [show sK 5 = 6 from rfl, show sT 5 = 8 from rfl] at *
        simp (implicitDefEqProofs := false) (disch := omega) only [zr_280_17, zr_280_19, zr_280_22, zr_280_23, zr_280_24, zr_280_27, zr_280_28, zr_280_31, zr_280_32, zr_280_33, zr_280_36, zr_280_37, zr_280_40, zr_280_41, zr_280_42, zr_280_45, zr_280_47, zr_280_50, zr_280_52, zr_280_54, zr_280_55, zr_280_56, zr_280_58, zr_280_60, zr_280_63, zr_280_65, zr_280_68, zr_280_70, zr_280_73, zr_280_75, zr_280_76, zr_280_77, zr_280_80, zr_280_82, zr_280_83, zr_280_84, zr_280_85, zr_280_86, zr_280_89, zr_280_92, zr_280_93, zr_280_96, zr_280_97, zr_280_100, zr_280_101, zr_280_104, zr_280_105, zr_280_107, zr_280_108, zr_280_110, zr_280_111, zr_280_114, zr_280_115, zr_280_116, zr_280_118, zr_280_121, zr_280_122, zr_280_125, zr_280_126, zr_280_128, zr_280_131, zr_280_134, true_or, or_true, true_and, and_true, if_true, if_false, ldA_ref, ldA_null, nl_int, nl_ref, nl_fl, nl_null, c1_int, c1_ref, c1_null, Nat.zero_add, Nat.zero_mul, Nat.one_mul, nI_add, nI_leI, nI_ltI, nI_eq, nI_mul, kd_M, gf_M0, lj_M1 (show 0 < 8271 by omega), wT_S, h0, Nat.reduceLT, Nat.reduceEqDiff, hT, e1, zcall_some, zpush_some, zpush_none, zsum_ref, zsum_int, zsum_long, zsum_nil, zsum_null, Nat.reduceAdd, Nat.reduceLeDiff, if_true]
      · rw [show sK 6 = 7 from rfl, show sT 6 = 7 from rfl] at *
        simp (implicitDefEqProofs := false) (disch := omega) only [zr_280_17, zr_280_19, zr_280_22, zr_280_23, zr_280_24, zr_280_27, zr_280_28, zr_280_31, zr_280_32, zr_280_33, zr_280_36, zr_280_37, zr_280_40, zr_280_41, zr_280_42, zr_280_45, zr_280_47, zr_280_50, zr_280_52, zr_280_54, zr_280_55, zr_280_56, zr_280_58, zr_280_60, zr_280_63, zr_280_65, zr_280_68, zr_280_70, zr_280_73, zr_280_75, zr_280_76, zr_280_77, zr_280_80, zr_280_82, zr_280_83, zr_280_84, zr_280_85, zr_280_86, zr_280_89, zr_280_92, zr_280_93, zr_280_96, zr_280_97, zr_280_100, zr_280_101, zr_280_104, zr_280_105, zr_280_107, zr_280_108, zr_280_110, zr_280_111, zr_280_114, zr_280_115, zr_280_116, zr_280_118, zr_280_121, zr_280_122, zr_280_125, zr_280_126, zr_280_128, zr_280_131, zr_280_134, true_or, or_true, true_and, and_true, if_true, if_false, ldA_ref, ldA_null, nl_int, nl_ref, nl_fl, nl_null, c1_int, c1_ref, c1_null, Nat.zero_add, Nat.zero_mul, Nat.one_mul, nI_add, nI_leI, nI_ltI, nI_eq, nI_mul, kd_M, gf_M0, lj_M1 (show 0 < 8271 by omega), wT_S, h0, Nat.reduceLT, Nat.reduceEqDiff, hT, e1, zcall_some, zpush_some, zpush_none, zsum_ref, zsum_int, zsum_long, zsum_nil, zsum_null, Nat.reduceAdd, Nat.reduceLeDiff, if_true]
end
section
variable {L : Nat} {xs : Nat → Int32}
theorem q_statement (x z : Int32) : qryT L xs (fun h => ev 168 [.ref 100, .int x, .int z] h) (fun h => ev 280 [.ref 463, .int x, .int z] h) := by
  intro H s q K cap t ⟨⟨⟨sv, hx⟩, hB, c, n, gs, LS, hb, hs⟩, hz, hT, h472⟩
  dsimp only
  have hc := hb.1.1
  obtain ⟨hn, hbn, h7, -⟩ := id hb.2.1
  by_cases h0 : nI 0 ≤ x ∧ x ≤ nI 2
  · obtain ⟨e, he, rfl⟩ := in_nI (by omega) h0.1 h0.2
    have hE := good.rE hb (show e < 3 by omega)
    obtain ⟨H1, e1, t1, f1⟩ := tx_clr (N := 2000) hT
    obtain ⟨H2, cap2, e2, t2, f2⟩ := s_stL (z := z) (e := e) hc hb.1.2.1 hn hbn (by omega) h472 hx hB hz (hs e (by omega)) (fun m hm => (hE.2.2.2.2.2.2.1 m hm).2) 7 0 H1 cap (.float 0) (.float 0) (.float 0) (.float 0) (by omega) t1 f1
    refine ⟨rdT (stT (gB_ru s) n (gB_wk s e) (LS e) c 7) z, H2, cap2, _, ?_, t2, f2, fun r h hq hzh => ?_⟩
    · simp (implicitDefEqProofs := false) (disch := omega) only [ze_168, zr_168_0, zr_168_1, zr_168_4, zr_168_7, zr_168_8, zr_168_9, zr_168_10, zr_168_13, zr_168_16, zr_168_17, zr_168_19, zr_168_22, zr_168_23, zr_168_26, zr_168_27, zr_168_30, zr_168_31, zr_168_34, zr_168_37, zr_168_38, zr_168_39, zr_168_41, zr_168_42, zr_168_45, zr_168_48, zr_168_49, zr_168_50, zr_168_53, zr_168_54, zr_168_55, zr_168_58, zr_168_60, zr_168_62, zr_168_63, zr_168_66, zr_168_68, zr_168_69, zr_168_72, zr_168_73, zr_168_75, zr_168_78, zr_168_79, zr_168_82, zr_168_83, zr_168_86, zr_168_87, zr_168_89, zr_168_90, zr_168_93, zr_168_95, zr_168_96, zr_168_99, zr_168_102, zr_168_104, zr_168_107, zr_168_108, zr_168_111, zr_168_112, zr_168_114, zr_168_117, zr_168_120, zr_168_123, zr_168_124, zr_168_127, zr_168_128, zr_168_131, true_or, or_true, true_and, and_true, if_true, if_false, ldA_ref, ldA_null, nl_int, nl_ref, nl_fl, nl_null, c1_int, c1_ref, c1_null, Nat.zero_add, Nat.zero_mul, Nat.one_mul, nI_add, nI_leI, nI_ltI, nI_eq, nI_mul, s_isEmployee, bI_0, show ¬ ¬ (0 ≤ e ∧ e ≤ 2) from by omega, x_at hx, (tx_at hT).1, e1, zcall_some, zpush_some, zpush_none, zsum_ref, zsum_int, zsum_long, zsum_nil, zsum_null, Nat.reduceAdd, Nat.reduceLeDiff, if_true]
      exact e2
    · have hsB : ∀ k, k < 8 → stOK (putM 463 r h) (nmB k) (nmT k) := fun k hk => (stz_B hzh k hk).to fun a ha => putM_out _ _ (by omega)
      obtain ⟨g', e3⟩ := s_rstL (m := 463) (z := z) (s0 := gB_ru s) (w := gB_wk s e) (LS := LS e) (g := gs e) (by omega) (show e < 3 by omega) hc (by rw [hq]; exact hb.2.1) (by rw [hq]; exact hE) (by rw [hq]; exact hb.1.2.2.1) hsB 7 0 (rWr r) (.float 0) (.float 0) (.float 0) (.float 0) (by omega) (okW_0 _)
      refine ⟨wTxt r g' (stT (gB_ru s) n (gB_wk s e) (LS e) c 7).length, ?_, wT_A _ _ _⟩
      simp (implicitDefEqProofs := false) (disch := omega) only [ze_280, zr_280_0, zr_280_1, zr_280_4, zr_280_7, zr_280_8, zr_280_9, zr_280_10, zr_280_11, zr_280_14, zr_280_15, zr_280_17, zr_280_19, zr_280_22, zr_280_23, zr_280_24, zr_280_27, zr_280_28, zr_280_31, zr_280_32, zr_280_33, zr_280_36, zr_280_37, zr_280_40, zr_280_41, zr_280_42, zr_280_45, zr_280_47, zr_280_50, zr_280_52, zr_280_54, zr_280_55, zr_280_56, zr_280_58, zr_280_60, zr_280_63, zr_280_65, zr_280_68, zr_280_70, zr_280_73, zr_280_75, zr_280_76, zr_280_77, zr_280_80, zr_280_82, zr_280_83, zr_280_84, zr_280_85, zr_280_86, zr_280_89, zr_280_92, zr_280_93, zr_280_96, zr_280_97, zr_280_100, zr_280_101, zr_280_104, zr_280_105, zr_280_107, zr_280_108, zr_280_110, zr_280_111, zr_280_114, zr_280_115, zr_280_116, zr_280_118, zr_280_121, zr_280_122, zr_280_125, zr_280_126, zr_280_128, zr_280_131, zr_280_134, zr_280_137, zr_280_138, zr_280_139, zr_280_142, true_or, or_true, true_and, and_true, if_true, if_false, ldA_ref, ldA_null, nl_int, nl_ref, nl_fl, nl_null, c1_int, c1_ref, c1_null, Nat.zero_add, Nat.zero_mul, Nat.one_mul, nI_add, nI_leI, nI_ltI, nI_eq, nI_mul, kd_M, s_isPerson, bI_0, bI_ok, show ¬ ¬ (0 ≤ e ∧ e ≤ 2) from by omega, pf_M9 (show 100 ≤ 463 by omega), zcall_some, zpush_some, zpush_none, zsum_ref, zsum_int, zsum_long, zsum_nil, zsum_null, Nat.reduceAdd, Nat.reduceLeDiff, if_true]
      exact e3
  · refine ⟨-1, H, cap, t, ?_, hT, txG.rf _ _ _ _, fun r h hq _ => ⟨r, ?_, rAg.rf r⟩⟩
    · simp (implicitDefEqProofs := false) (disch := omega) only [ze_168, zr_168_0, zr_168_1, zr_168_4, zr_168_7, zr_168_8, zr_168_9, zr_168_10, zr_168_13, zr_168_16, zr_168_17, zr_168_19, zr_168_22, zr_168_23, zr_168_26, zr_168_27, zr_168_30, zr_168_31, zr_168_34, zr_168_37, zr_168_38, zr_168_39, zr_168_41, zr_168_42, zr_168_45, zr_168_48, zr_168_49, zr_168_50, zr_168_53, zr_168_54, zr_168_55, zr_168_58, zr_168_60, zr_168_62, zr_168_63, zr_168_66, zr_168_68, zr_168_69, zr_168_72, zr_168_73, zr_168_75, zr_168_78, zr_168_79, zr_168_82, zr_168_83, zr_168_86, zr_168_87, zr_168_89, zr_168_90, zr_168_93, zr_168_95, zr_168_96, zr_168_99, zr_168_102, zr_168_104, zr_168_107, zr_168_108, zr_168_111, zr_168_112, zr_168_114, zr_168_117, zr_168_120, zr_168_123, zr_168_124, zr_168_127, zr_168_128, zr_168_131, true_or, or_true, true_and, and_true, if_true, if_false, ldA_ref, ldA_null, nl_int, nl_ref, nl_fl, nl_null, c1_int, c1_ref, c1_null, s_isEmployee, bI_0, not_false_eq_true, zcall_some, zpush_some, zpush_none, zsum_ref, zsum_int, zsum_long, zsum_nil, zsum_null, Nat.reduceAdd, Nat.reduceLeDiff, if_true, h0]
    · simp (implicitDefEqProofs := false) (disch := omega) only [ze_280, zr_280_0, zr_280_1, zr_280_4, zr_280_7, zr_280_8, zr_280_9, zr_280_10, zr_280_11, zr_280_14, zr_280_15, zr_280_17, zr_280_19, zr_280_22, zr_280_23, zr_280_24, zr_280_27, zr_280_28, zr_280_31, zr_280_32, zr_280_33, zr_280_36, zr_280_37, zr_280_40, zr_280_41, zr_280_42, zr_280_45, zr_280_47, zr_280_50, zr_280_52, zr_280_54, zr_280_55, zr_280_56, zr_280_58, zr_280_60, zr_280_63, zr_280_65, zr_280_68, zr_280_70, zr_280_73, zr_280_75, zr_280_76, zr_280_77, zr_280_80, zr_280_82, zr_280_83, zr_280_84, zr_280_85, zr_280_86, zr_280_89, zr_280_92, zr_280_93, zr_280_96, zr_280_97, zr_280_100, zr_280_101, zr_280_104, zr_280_105, zr_280_107, zr_280_108, zr_280_110, zr_280_111, zr_280_114, zr_280_115, zr_280_116, zr_280_118, zr_280_121, zr_280_122, zr_280_125, zr_280_126, zr_280_128, zr_280_131, zr_280_134, zr_280_137, zr_280_138, zr_280_139, zr_280_142, true_or, or_true, true_and, and_true, if_true, if_false, ldA_ref, ldA_null, nl_int, nl_ref, nl_fl, nl_null, c1_int, c1_ref, c1_null, kd_M, s_isPerson, bI_0, bI_ok, not_false_eq_true, zcall_some, zpush_some, zpush_none, zsum_ref, zsum_int, zsum_long, zsum_nil, zsum_null, Nat.reduceAdd, Nat.reduceLeDiff, if_true, h0]
end
