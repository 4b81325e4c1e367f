/-! QUESTIONS about accounts and the least salary -/
section
def qD (L : Nat) (xs : Nat → Int32) (H : zH) (s : tyB) (q : Nat → Int64) (K : Nat) : Prop := qC H s q K ∧ stz L xs H ∧ ∃ w, trB H 443 w
def qryI2 (L : Nat) (xs : Nat → Int32) (X M : zH → Option (Option Value × zH)) : Prop := ∀ H s q K, qD L xs H s q K → ∃ v, X H = some (some (.int v), H) ∧ ∀ r h, rS r = q → M (putM 463 r h) = some (some (.int v), putM 463 r h)
def qryJ2 (L : Nat) (xs : Nat → Int32) (X M : zH → Option (Option Value × zH)) : Prop := ∀ H s q K, qD L xs H s q K → ∃ v, X H = some (some (.long v), H) ∧ ∀ r h, rS r = q → M (putM 463 r h) = some (some (.long v), putM 463 r h)
variable {L i : Nat} {xs : Nat → Int32}
theorem qryI2.step {X M : zH → Option (Option Value × zH)} (h : qryI2 L xs X M) : stepI L xs i X M := by
  intro H hSt
  have hS2 := hSt.up
  obtain ⟨s, hs, nx, ct, sb, sv, T, cap, t, r, sg, n, hc, hM, hz, ⟨z1, z2, z3, z4⟩, hr⟩ := hSt
  obtain ⟨v, e1, e2⟩ := h H s (rS r) (12 * i) ⟨⟨⟨sv, hc.1⟩, hc.2.1, hr.1⟩, hz, hc.2.2.2.2.2.2.1⟩
  have e3 := e2 r H rfl
  rw [putM_id hM] at e3
  exact ⟨v, H, H, e1, e3, mid.of hz hM, hS2⟩
theorem qryJ2.step {X M : zH → Option (Option Value × zH)} (h : qryJ2 L xs X M) : stepJ L xs i X M := by
  intro H hSt
  have hS2 := hSt.up
  obtain ⟨s, hs, nx, ct, sb, sv, T, cap, t, r, sg, n, hc, hM, hz, ⟨z1, z2, z3, z4⟩, hr⟩ := hSt
  obtain ⟨v, e1, e2⟩ := h H s (rS r) (12 * i) ⟨⟨⟨sv, hc.1⟩, hc.2.1, hr.1⟩, hz, hc.2.2.2.2.2.2.1⟩
  have e3 := e2 r H rfl
  rw [putM_id hM] at e3
  exact ⟨v, H, H, e1, e3, mid.of hz hM, hS2⟩
end
section
variable {H : zH} {s : tyB} {q : Nat → Int64} {c n e g K m mo : Nat} {gs : Nat → Nat} {w : tyW} {LS : Nat → Nat → List Ln} {r : Rst} {h : zH} {l : List Ln} {X T : Int} {L : Nat} {xs : Nat → Int32}
def sE (LS : Nat → Nat → List Ln) (mo : Nat) (kk : Int32) : Nat → Int64
  | 0 => 0
  | e + 1 => sE LS mo kk e + pSK (LS e mo) kk (LS e mo).length
theorem s_sosL {kk : Int32} (hB : isB H 101 37 (cB 101 s)) (hc : c ≤ 12) (hmo : mo < c) (hs : ∀ e, e < 3 → slB H (gB_wk s e) c (LS e)) : ∀ (j e : Nat) (v6 : Value), e + j = 3 → rn 167 5 [.ref 101, .int (nI mo), .int kk, .long (sE LS mo kk e), .float 0, .int (nI e), v6] [] H = some (some (.long (sE LS mo kk 3)), H) := by
  intro j
  induction j with
  | zero =>
    intro e v6 he
    rw [zl_167_5, show e = 3 by omega]
    simp (implicitDefEqProofs := false) (disch := omega) only [zr_167_7, zr_167_8, zr_167_11, zr_167_12, zr_167_15, zr_167_17, zr_167_18, zr_167_21, zr_167_22, zr_167_23, zr_167_25, zr_167_27, zr_167_30, zr_167_31, zr_167_33, zr_167_34, zr_167_37, zr_167_38, zr_167_39, zr_167_42, zr_167_45, zr_167_46, true_or, or_true, true_and, and_true, if_true, if_false, ldA_ref, ldA_null, nl_int, nl_ref, nl_fl, nl_null, c1_int, c1_ref, c1_null, Nat.zero_add, Nat.zero_mul, Nat.one_mul, nI_add, nI_leI, nI_ltI, nI_eq, nI_mul, Nat.le_refl, zcall_some, zpush_some, zpush_none, zsum_ref, zsum_int, zsum_long, zsum_nil, zsum_null, Nat.reduceAdd, Nat.reduceLeDiff, if_true]
  | succ j ih =>
    intro e v6 he
    have hW := B_W hB (show e < 3 by omega)
    obtain ⟨p, d, s1, s2, s3, s4, s5⟩ := (hs e (by omega)).1 mo hmo
    have ih2 := ih (e + 1) (.ref p) (by omega)
    rw [zl_167_5]
    simp (implicitDefEqProofs := false) (disch := omega) only [zr_167_7, zr_167_8, zr_167_11, zr_167_12, zr_167_15, zr_167_17, zr_167_18, zr_167_21, zr_167_22, zr_167_23, zr_167_25, zr_167_27, zr_167_30, zr_167_31, zr_167_33, zr_167_34, zr_167_37, zr_167_38, zr_167_39, zr_167_42, zr_167_45, zr_167_46, true_or, or_true, true_and, and_true, if_true, if_false, ldA_ref, ldA_null, nl_int, nl_ref, nl_fl, nl_null, c1_int, c1_ref, c1_null, Nat.zero_add, Nat.zero_mul, Nat.one_mul, nI_add, nI_leI, nI_ltI, nI_eq, nI_mul, show ¬ 3 ≤ e from by omega, rdB_0 (hB), rdB_1 (hB), rdB_2 (hB), rdB_3 (hB), rdB_4 (hB), rdB_5 (hB), rdB_6 (hB), rdB_7 (hB), rdW_0 (hW), rdW_1 (hW), rdW_2 (hW), rdW_3 (hW), rdW_4 (hW), rdW_5 (hW), rdW_6 (hW), rdW_7 (hW), rdW_8 (hW), rdW_9 (hW), rdW_10 (hW), rdW_11 (hW), rdW_12 (hW), rdW_13 (hW), rdW_14 (hW), rdW_15 (hW), rdW_16 (hW), rdW_17 (hW), rdW_18 (hW), rdW_19 (hW), rdW_20 (hW), rdW_21 (hW), rdW_22 (hW), rdW_23 (hW), rdW_24 (hW), rdW_25 (hW), rdW_26 (hW), rdW_27 (hW), rdW_28 (hW), rdW_29 (hW), s1, rf_some, ifN_ref, rdS_0 s2, s_slipSumOf kk s2 s3, zcall_some, zpush_some, zpush_none, zsum_ref, zsum_int, zsum_long, zsum_nil, zsum_null, Nat.reduceAdd, Nat.reduceLeDiff, if_true]
    exact ih2
theorem s_sos (kk : Int32) (hB : isB H 101 37 (cB 101 s)) (hc : c ≤ 12) (hmo : mo < c) (hs : ∀ e, e < 3 → slB H (gB_wk s e) c (LS e)) : ev 167 [.ref 101, .int (nI mo), .int kk] H = some (some (.long (sE LS mo kk 3)), H) := by
  simp (implicitDefEqProofs := false) (disch := omega) only [ze_167, zr_167_0, zr_167_1, zr_167_2, zr_167_3, zr_167_7, zr_167_8, zr_167_11, zr_167_12, zr_167_15, zr_167_17, zr_167_18, zr_167_21, zr_167_22, zr_167_23, zr_167_25, zr_167_27, zr_167_30, zr_167_31, zr_167_33, zr_167_34, zr_167_37, zr_167_38, zr_167_39, zr_167_42, zr_167_45, zr_167_46, true_or, or_true, true_and, and_true, if_true, if_false, ldA_ref, ldA_null, nl_int, nl_ref, nl_fl, nl_null, c1_int, c1_ref, c1_null]
  exact s_sosL hB hc hmo hs 3 0 _ (by omega)
def aK (k : Nat) : Nat := [3, 1, 2, 5, 7].getD k 0
theorem aK_all : aK 0 = 3 ∧ aK 1 = 1 ∧ aK 2 = 2 ∧ aK 3 = 5 ∧ aK 4 = 7 := ⟨rfl, rfl, rfl, rfl, rfl⟩
theorem stz_3 (hz : stz L xs H) : ∃ f, H.2.2 3 = .inl (0, 5, .inl f) ∧ ∀ k, k < 5 → f k = nI (aK k) := by
  refine ⟨fun j => (zsa.getD 2 default).2.getD j 0, (hz 3 (by omega)).trans rfl, fun k hk => ?_⟩
  match k, hk with
  | 0, _ | 1, _ | 2, _ | 3, _ | 4, _ => rfl
  | k + 5, h => omega
theorem s_raccL {k : Nat} {kk : Int32} (hk : k ≤ 4) (hmo : mo < 12) (hL : ∀ e, e < 3 → rLines r e mo (LS e mo)) : ∀ (j e : Nat), e + j = 3 → rn 279 67 [.ref m, .int (nI mo), .int (nI k), .int kk, .long (sE LS mo kk e), .float 0, .int (nI e)] [] (putM m r h) = some (some (.long (if k < 4 then -sE LS mo kk 3 else sE LS mo kk 3)), putM m r h) := by
  intro j
  induction j with
  | zero =>
    intro e he
    rw [zl_279_67, show e = 3 by omega]
    by_cases k4 : k < 4
    · rw [if_pos k4]
      simp (implicitDefEqProofs := false) (disch := omega) only [zr_279_69, zr_279_70, zr_279_73, zr_279_75, zr_279_76, zr_279_78, zr_279_79, zr_279_80, zr_279_83, zr_279_84, zr_279_86, zr_279_89, zr_279_92, zr_279_93, zr_279_94, zr_279_97, zr_279_99, zr_279_100, zr_279_103, zr_279_105, true_or, or_true, true_and, and_true, if_true, if_false, ldA_ref, ldA_null, nl_int, nl_ref, nl_fl, nl_null, c1_int, c1_ref, c1_null, Nat.zero_add, Nat.zero_mul, Nat.one_mul, nI_add, nI_leI, nI_ltI, nI_eq, nI_mul, Nat.le_refl, show ¬ 4 ≤ k from by omega, zcall_some, zpush_some, zpush_none, zsum_ref, zsum_int, zsum_long, zsum_nil, zsum_null, Nat.reduceAdd, Nat.reduceLeDiff, if_true]
    · rw [if_neg k4]
      simp (implicitDefEqProofs := false) (disch := omega) only [zr_279_69, zr_279_70, zr_279_73, zr_279_75, zr_279_76, zr_279_78, zr_279_79, zr_279_80, zr_279_83, zr_279_84, zr_279_86, zr_279_89, zr_279_92, zr_279_93, zr_279_94, zr_279_97, zr_279_99, zr_279_100, zr_279_103, zr_279_105, true_or, or_true, true_and, and_true, if_true, if_false, ldA_ref, ldA_null, nl_int, nl_ref, nl_fl, nl_null, c1_int, c1_ref, c1_null, Nat.zero_add, Nat.zero_mul, Nat.one_mul, nI_add, nI_leI, nI_ltI, nI_eq, nI_mul, Nat.le_refl, show 4 ≤ k from by omega, zcall_some, zpush_some, zpush_none, zsum_ref, zsum_int, zsum_long, zsum_nil, zsum_null, Nat.reduceAdd, Nat.reduceLeDiff, if_true]
  | succ j ih =>
    intro e he
    have ih2 := ih (e + 1) (by omega)
    rw [zl_279_67]
    simp (implicitDefEqProofs := false) (disch := omega) only [zr_279_69, zr_279_70, zr_279_73, zr_279_75, zr_279_76, zr_279_78, zr_279_79, zr_279_80, zr_279_83, zr_279_84, zr_279_86, zr_279_89, true_or, or_true, true_and, and_true, if_true, if_false, ldA_ref, ldA_null, nl_int, nl_ref, nl_fl, nl_null, c1_int, c1_ref, c1_null, Nat.zero_add, Nat.zero_mul, Nat.one_mul, nI_add, nI_leI, nI_ltI, nI_eq, nI_mul, kd_M, show ¬ 3 ≤ e from by omega, s_rsk kk (show e < 3 by omega) hmo (hL e (by omega)), zcall_some, zpush_some, zpush_none, zsum_ref, zsum_int, zsum_long, zsum_nil, zsum_null, Nat.reduceAdd, Nat.reduceLeDiff, if_true]
    exact ih2
end
section
variable {L : Nat} {xs : Nat → Int32}
theorem q_account (y z : Int32) : qryJ2 L xs (fun h => ev 166 [.ref 100, .int y, .int z] h) (fun h => ev 279 [.ref 463, .int y, .int z] h) := by
  intro H s q K ⟨⟨⟨sv, hx⟩, hB, c, n, gs, LS, hb, hs⟩, hz, _⟩
  dsimp only
  have hc := hb.1.1
  obtain ⟨f, t1, t2⟩ := stz_3 hz
  have tA : ∀ (β : Type) (u : Int32 → Option β), zal H 3 u = u (nI 5) := fun _ u => al_c t1 (by decide) u
  have tL : ∀ (β : Type) (u : Int32 → Option β) (k : Nat), k < 5 → zli H 3 0 (nI k) u = u (nI (aK k)) := fun _ u k hk => (li_c t1 hk (by omega) u).trans (by rw [t2 k hk])
  by_cases h1 : nI 0 ≤ y ∧ y ≤ nI 11
  · obtain ⟨mo, hmo, rfl⟩ := in_nI (by omega) h1.1 h1.2
    by_cases h2 : nI 0 ≤ z ∧ z ≤ nI 4
    · obtain ⟨k, hk, rfl⟩ := in_nI (by omega) h2.1 h2.2
      by_cases hm : mo < c
      · refine ⟨if k < 4 then -sE LS mo (nI (aK k)) 3 else sE LS mo (nI (aK k)) 3, ?_, fun r h hq => ?_⟩
        · have hS := fun kk => s_sos kk hB hc hm hs
          rcases (show k = 0 ∨ k = 1 ∨ k = 2 ∨ k = 3 ∨ k = 4 by omega) with rfl | rfl | rfl | rfl | rfl <;>
          simp (implicitDefEqProofs := false) (disch := omega) only [ze_166, zr_166_0, zr_166_1, zr_166_4, zr_166_7, zr_166_8, zr_166_9, zr_166_12, zr_166_13, zr_166_14, zr_166_15, zr_166_18, zr_166_21, zr_166_24, zr_166_25, zr_166_26, zr_166_27, zr_166_30, zr_166_33, zr_166_36, zr_166_39, zr_166_40, zr_166_43, zr_166_44, zr_166_45, zr_166_46, zr_166_47, zr_166_50, zr_166_51, zr_166_52, zr_166_55, zr_166_57, zr_166_58, zr_166_60, zr_166_63, zr_166_65, zr_166_68, zr_166_70, zr_166_71, true_or, or_true, true_and, and_true, if_true, if_false, ldA_ref, ldA_null, nl_int, nl_ref, nl_fl, nl_null, c1_int, c1_ref, c1_null, Nat.zero_add, Nat.zero_mul, Nat.one_mul, nI_add, nI_leI, nI_ltI, nI_eq, nI_mul, s_isMonth, s_within, bI_0, show ¬ ¬ (0 ≤ mo ∧ mo ≤ 11) from by omega, nI_sub1, Nat.reduceSub, Nat.reduceLT, not_true_eq_false, not_false_eq_true, tA, tL, aK_all, x_at hx, rdB_0 (hB), rdB_1 (hB), rdB_2 (hB), rdB_3 (hB), rdB_4 (hB), rdB_5 (hB), rdB_6 (hB), rdB_7 (hB), hb.1.2.1, hm, hS, Nat.reduceEqDiff, zcall_some, zpush_some, zpush_none, zsum_ref, zsum_int, zsum_long, zsum_nil, zsum_null, Nat.reduceAdd, Nat.reduceLeDiff, if_true]
        · have hL : ∀ e, e < 3 → rLines r e mo (LS e mo) := fun e he => by rw [rLines_q, hq]; exact ((good.rE hb he).2.2.2.2.2.2.1 mo hm).1
          have hC := s_rcm (m := 463) (h := h) (show rS r 0 = (nI c).toInt64 by rw [hq]; exact hb.1.2.2.1)
          have hA := fun kk => s_raccL (m := 463) (h := h) (kk := kk) hk (show mo < 12 by omega) hL 3 0 (by omega)
          simp only [show ∀ kk, sE LS mo kk 0 = 0 from fun _ => rfl] at hA
          rcases (show k = 0 ∨ k = 1 ∨ k = 2 ∨ k = 3 ∨ k = 4 by omega) with rfl | rfl | rfl | rfl | rfl <;>
          simp (implicitDefEqProofs := false) (disch := omega) only [ze_279, zr_279_0, zr_279_1, zr_279_4, zr_279_7, zr_279_8, zr_279_9, zr_279_10, zr_279_13, zr_279_16, zr_279_19, zr_279_20, zr_279_21, zr_279_22, zr_279_25, zr_279_28, zr_279_31, zr_279_32, zr_279_33, zr_279_36, zr_279_37, zr_279_40, zr_279_41, zr_279_42, zr_279_45, zr_279_46, zr_279_49, zr_279_50, zr_279_51, zr_279_54, zr_279_55, zr_279_58, zr_279_60, zr_279_61, zr_279_62, zr_279_64, zr_279_65, zr_279_69, zr_279_70, zr_279_73, zr_279_75, zr_279_76, zr_279_78, zr_279_79, zr_279_80, zr_279_83, zr_279_84, zr_279_86, zr_279_89, zr_279_92, zr_279_93, zr_279_94, zr_279_97, zr_279_99, zr_279_100, zr_279_103, zr_279_105, true_or, or_true, true_and, and_true, if_true, if_false, ldA_ref, ldA_null, nl_int, nl_ref, nl_fl, nl_null, c1_int, c1_ref, c1_null, Nat.zero_add, Nat.zero_mul, Nat.one_mul, nI_add, nI_leI, nI_ltI, nI_eq, nI_mul, kd_M, s_rMonth, s_in, bI_0, show ¬ ¬ (0 ≤ mo ∧ mo ≤ 11) from by omega, Nat.reduceLT, not_true_eq_false, not_false_eq_true, aK_all, hC, hm, hA, Nat.reduceEqDiff, zcall_some, zpush_some, zpush_none, zsum_ref, zsum_int, zsum_long, zsum_nil, zsum_null, Nat.reduceAdd, Nat.reduceLeDiff, if_true]
      · refine ⟨-2, ?_, fun r h hq => ?_⟩
        · simp (implicitDefEqProofs := false) (disch := omega) only [ze_166, zr_166_0, zr_166_1, zr_166_4, zr_166_7, zr_166_8, zr_166_9, zr_166_12, zr_166_13, zr_166_14, zr_166_15, zr_166_18, zr_166_21, zr_166_24, zr_166_25, zr_166_26, zr_166_27, zr_166_30, zr_166_33, zr_166_36, zr_166_39, zr_166_40, zr_166_43, zr_166_44, zr_166_45, zr_166_46, zr_166_47, zr_166_50, zr_166_51, zr_166_52, zr_166_55, zr_166_57, zr_166_58, zr_166_60, zr_166_63, zr_166_65, zr_166_68, zr_166_70, zr_166_71, true_or, or_true, true_and, and_true, if_true, if_false, ldA_ref, ldA_null, nl_int, nl_ref, nl_fl, nl_null, c1_int, c1_ref, c1_null, Nat.zero_add, Nat.zero_mul, Nat.one_mul, nI_add, nI_leI, nI_ltI, nI_eq, nI_mul, s_isMonth, s_within, bI_0, show ¬ ¬ (0 ≤ mo ∧ mo ≤ 11) from by omega, show ¬ ¬ (0 ≤ k ∧ k ≤ 4) from by omega, nI_sub1, Nat.reduceSub, tA, x_at hx, rdB_0 (hB), rdB_1 (hB), rdB_2 (hB), rdB_3 (hB), rdB_4 (hB), rdB_5 (hB), rdB_6 (hB), rdB_7 (hB), hb.1.2.1, hm, zcall_some, zpush_some, zpush_none, zsum_ref, zsum_int, zsum_long, zsum_nil, zsum_null, Nat.reduceAdd, Nat.reduceLeDiff, if_true]
        · simp (implicitDefEqProofs := false) (disch := omega) only [ze_279, zr_279_0, zr_279_1, zr_279_4, zr_279_7, zr_279_8, zr_279_9, zr_279_10, zr_279_13, zr_279_16, zr_279_19, zr_279_20, zr_279_21, zr_279_22, zr_279_25, zr_279_28, zr_279_31, zr_279_32, zr_279_33, zr_279_36, zr_279_37, zr_279_40, zr_279_41, zr_279_42, zr_279_45, zr_279_46, zr_279_49, zr_279_50, zr_279_51, zr_279_54, zr_279_55, zr_279_58, zr_279_60, zr_279_61, zr_279_62, zr_279_64, zr_279_65, zr_279_69, zr_279_70, zr_279_73, zr_279_75, zr_279_76, zr_279_78, zr_279_79, zr_279_80, zr_279_83, zr_279_84, zr_279_86, zr_279_89, zr_279_92, zr_279_93, zr_279_94, zr_279_97, zr_279_99, zr_279_100, zr_279_103, zr_279_105, true_or, or_true, true_and, and_true, if_true, if_false, ldA_ref, ldA_null, nl_int, nl_ref, nl_fl, nl_null, c1_int, c1_ref, c1_null, Nat.zero_add, Nat.zero_mul, Nat.one_mul, nI_add, nI_leI, nI_ltI, nI_eq, nI_mul, kd_M, s_rMonth, s_in, bI_0, show ¬ ¬ (0 ≤ mo ∧ mo ≤ 11) from by omega, show ¬ ¬ (0 ≤ k ∧ k ≤ 4) from by omega, s_rcm (show rS r 0 = (nI c).toInt64 by rw [hq]; exact hb.1.2.2.1), hm, zcall_some, zpush_some, zpush_none, zsum_ref, zsum_int, zsum_long, zsum_nil, zsum_null, Nat.reduceAdd, Nat.reduceLeDiff, if_true]
    · refine ⟨-1, ?_, fun r h hq => ?_⟩
      · simp (implicitDefEqProofs := false) (disch := omega) only [ze_166, zr_166_0, zr_166_1, zr_166_4, zr_166_7, zr_166_8, zr_166_9, zr_166_12, zr_166_13, zr_166_14, zr_166_15, zr_166_18, zr_166_21, zr_166_24, zr_166_25, zr_166_26, zr_166_27, zr_166_30, zr_166_33, zr_166_36, zr_166_39, zr_166_40, zr_166_43, zr_166_44, zr_166_45, zr_166_46, zr_166_47, zr_166_50, zr_166_51, zr_166_52, zr_166_55, zr_166_57, zr_166_58, zr_166_60, zr_166_63, zr_166_65, zr_166_68, zr_166_70, zr_166_71, true_or, or_true, true_and, and_true, if_true, if_false, ldA_ref, ldA_null, nl_int, nl_ref, nl_fl, nl_null, c1_int, c1_ref, c1_null, s_isMonth, s_within, bI_0, not_false_eq_true, nI_sub1, Nat.reduceSub, tA, nn h1, h2, zcall_some, zpush_some, zpush_none, zsum_ref, zsum_int, zsum_long, zsum_nil, zsum_null, Nat.reduceAdd, Nat.reduceLeDiff, if_true]
      · simp (implicitDefEqProofs := false) (disch := omega) only [ze_279, zr_279_0, zr_279_1, zr_279_4, zr_279_7, zr_279_8, zr_279_9, zr_279_10, zr_279_13, zr_279_16, zr_279_19, zr_279_20, zr_279_21, zr_279_22, zr_279_25, zr_279_28, zr_279_31, zr_279_32, zr_279_33, zr_279_36, zr_279_37, zr_279_40, zr_279_41, zr_279_42, zr_279_45, zr_279_46, zr_279_49, zr_279_50, zr_279_51, zr_279_54, zr_279_55, zr_279_58, zr_279_60, zr_279_61, zr_279_62, zr_279_64, zr_279_65, zr_279_69, zr_279_70, zr_279_73, zr_279_75, zr_279_76, zr_279_78, zr_279_79, zr_279_80, zr_279_83, zr_279_84, zr_279_86, zr_279_89, zr_279_92, zr_279_93, zr_279_94, zr_279_97, zr_279_99, zr_279_100, zr_279_103, zr_279_105, true_or, or_true, true_and, and_true, if_true, if_false, ldA_ref, ldA_null, nl_int, nl_ref, nl_fl, nl_null, c1_int, c1_ref, c1_null, kd_M, s_rMonth, s_in, bI_0, not_false_eq_true, nn h1, h2, zcall_some, zpush_some, zpush_none, zsum_ref, zsum_int, zsum_long, zsum_nil, zsum_null, Nat.reduceAdd, Nat.reduceLeDiff, if_true]
  · refine ⟨-1, ?_, fun r h hq => ?_⟩
    · simp (implicitDefEqProofs := false) (disch := omega) only [ze_166, zr_166_0, zr_166_1, zr_166_4, zr_166_7, zr_166_8, zr_166_9, zr_166_12, zr_166_13, zr_166_14, zr_166_15, zr_166_18, zr_166_21, zr_166_24, zr_166_25, zr_166_26, zr_166_27, zr_166_30, zr_166_33, zr_166_36, zr_166_39, zr_166_40, zr_166_43, zr_166_44, zr_166_45, zr_166_46, zr_166_47, zr_166_50, zr_166_51, zr_166_52, zr_166_55, zr_166_57, zr_166_58, zr_166_60, zr_166_63, zr_166_65, zr_166_68, zr_166_70, zr_166_71, true_or, or_true, true_and, and_true, if_true, if_false, ldA_ref, ldA_null, nl_int, nl_ref, nl_fl, nl_null, c1_int, c1_ref, c1_null, s_isMonth, bI_0, not_false_eq_true, h1, zcall_some, zpush_some, zpush_none, zsum_ref, zsum_int, zsum_long, zsum_nil, zsum_null, Nat.reduceAdd, Nat.reduceLeDiff, if_true]
    · simp (implicitDefEqProofs := false) (disch := omega) only [ze_279, zr_279_0, zr_279_1, zr_279_4, zr_279_7, zr_279_8, zr_279_9, zr_279_10, zr_279_13, zr_279_16, zr_279_19, zr_279_20, zr_279_21, zr_279_22, zr_279_25, zr_279_28, zr_279_31, zr_279_32, zr_279_33, zr_279_36, zr_279_37, zr_279_40, zr_279_41, zr_279_42, zr_279_45, zr_279_46, zr_279_49, zr_279_50, zr_279_51, zr_279_54, zr_279_55, zr_279_58, zr_279_60, zr_279_61, zr_279_62, zr_279_64, zr_279_65, zr_279_69, zr_279_70, zr_279_73, zr_279_75, zr_279_76, zr_279_78, zr_279_79, zr_279_80, zr_279_83, zr_279_84, zr_279_86, zr_279_89, zr_279_92, zr_279_93, zr_279_94, zr_279_97, zr_279_99, zr_279_100, zr_279_103, zr_279_105, true_or, or_true, true_and, and_true, if_true, if_false, ldA_ref, ldA_null, nl_int, nl_ref, nl_fl, nl_null, c1_int, c1_ref, c1_null, kd_M, s_rMonth, bI_0, not_false_eq_true, h1, zcall_some, zpush_some, zpush_none, zsum_ref, zsum_int, zsum_long, zsum_nil, zsum_null, Nat.reduceAdd, Nat.reduceLeDiff, if_true]
end
section
variable {H : zH} {s : tyR} {q : Nat → Int64} {c n e m : Nat} {w : tyW} {r : Rst} {h : zH} {X T : Int}
theorem txN_nn (h : RelR s q n) (T : Int) : ∀ k, k ≤ n → 0 ≤ txN (ruT s) (ruB s) n T k
  | 0, _ => Int.le_refl _
  | k + 1, hk => by
    have h1 := txN_nn h T k (by omega)
    have h2 : 0 ≤ ptN (ruT s) (ruB s) n T k := by
      unfold ptN
      refine Int.mul_nonneg (h.2.2.2.2.1 k (by omega)).2.2.2.1 ?_
      split
      · omega
      · exact Int.le_refl _
    rw [txN]; omega
theorem net_bd (h : RelR s q n) (hX : 0 ≤ X ∧ X ≤ 600000) : 0 ≤ amN (ruR s) (ruC s) (ruT s) (ruB s) n 4 X ∧ amN (ruR s) (ruC s) (ruT s) (ruB s) n 4 X ≤ 600000000000 := by
  obtain ⟨a1, a2, a3, a4, a5⟩ := h.2.2.2.1 0 (by omega)
  obtain ⟨b1, b2, b3, b4, b5⟩ := h.2.2.2.1 1 (by omega)
  refine ⟨?_, ?_⟩
  · have := net_up h hX.1
    rw [amN_0 h] at this; exact this
  · have h1 := (cN_bd a3 a4 hX).1
    have h2 := (cN_bd b3 b4 hX).1
    have h3 := txN_nn h (tN (ruR s) (ruC s) X) n (Nat.le_refl _)
    show X * 1000000 - _ - _ - _ ≤ _
    omega
def gX (w : tyW) (c : Nat) (x : Nat) : Int := grN (x : Int) (gW_en w (12 + c)).toInt (gW_en w (24 + c)).toInt
theorem gX_bd (ok : enOK w) (hc : c < 12) {x : Nat} (hx : x ≤ 20000) : 0 ≤ gX w c x ∧ gX w c x ≤ 40000 := by
  obtain ⟨h1, h2, h3⟩ := ok c hc
  exact grN_bd ⟨by omega, by omega⟩ h2 h3
theorem gX_up (ok : enOK w) (hc : c < 12) {x y : Nat} (hxy : x ≤ y) : gX w c x ≤ gX w c y := by
  obtain ⟨h1, h2, h3⟩ := ok c hc
  unfold gX grN
  have h4 : (x : Int) * (gW_en w (12 + c)).toInt ≤ (y : Int) * (gW_en w (12 + c)).toInt := Int.mul_le_mul_of_nonneg_right (by omega) h2.1
  have h5 := Int.ediv_le_ediv (show (0 : Int) < 30 by omega) h4
  omega
theorem pSal_J (ok : enOK w) (hc : c < 12) {x : Nat} (hx : x ≤ 20000) : pSalG (pG w c) (gW_en w (12 + c)) (gW_en w (24 + c)) x = J (GW w c + gX w c x) := by
  obtain ⟨h1, h2, h3⟩ := ok c hc
  have e : (nI x).toInt = (x : Int) := nI_toInt (by omega)
  unfold pSalG
  rw [pG_J ok c (by omega), grN_32 (a := nI x) (by rw [e]; omega) h2 h3, e, J_add]; rfl
theorem rSal_J (ok : enOK w) (hE : enEq w (rS r) e) (hc : c < 12) {x : Nat} (hx : x ≤ 20000) : rG r e c + ((nI x).toInt64 * rS r (rX e (14 + c)) / 30 + rS r (rX e (26 + c))) = J (GW w c + gX w c x) := by
  obtain ⟨h1, h2, h3⟩ := ok c hc
  have e0 : (nI x).toInt = (x : Int) := nI_toInt (by omega)
  rw [rG_J ok hE c (by omega), show 14 + c = 2 + (12 + c) by omega, hE (12 + c) (by omega), show 26 + c = 2 + (24 + c) by omega, hE (24 + c) (by omega), grN_64 (a := nI x) (by rw [e0]; omega) h2, e0, J_add]; rfl
def rLwS (r : Rst) (n e c : Nat) (wanted : Int64) (x : Nat) : Bool := decide (rAmt r n 4 (rG r e c + ((nI x).toInt64 * rS r (rX e (14 + c)) / 30 + rS r (rX e (26 + c)))) < wanted)
theorem pLin_eq {l1 l2 : Nat → Bool} : ∀ f x, (∀ y, x ≤ y → y < x + f → l1 y = l2 y) → pLin l1 f x = pLin l2 f x
  | 0, _, _ => rfl
  | f + 1, x, h => by
    rw [pLin, pLin, h x (Nat.le_refl _) (by omega), pLin_eq f (x + 1) fun y h1 h2 => h y (by omega) (by omega)]
theorem s_rleastL {z : Int32} {wanted : Int64} (hn : n ≤ 5) (h7 : rS r 7 = (nI n).toInt64) (he : e < 3) (hc : c < 12) : ∀ (f k : Nat) (v9 v10 : Value), k + f = 10000 → rn 272 60 [.ref m, .int (nI e), .int z, .int (nI c), .long (rG r e c), .float 0, .long wanted, .float 0, .int (nI k), v9, v10] [] (putM m r h) = some (some (.int (if pLin (rLwS r n e c wanted) f k < 10000 then nI (pLin (rLwS r n e c wanted) f k) else -2)), putM m r h) := by
  intro f
  induction f with
  | zero =>
    intro k v9 v10 hk
    rw [zl_272_60, pLin, if_neg (by omega)]
    simp (implicitDefEqProofs := false) (disch := omega) only [zr_272_62, zr_272_65, zr_272_68, zr_272_70, zr_272_71, zr_272_72, zr_272_73, zr_272_75, zr_272_76, zr_272_77, zr_272_80, zr_272_81, zr_272_84, zr_272_85, zr_272_86, zr_272_87, zr_272_89, zr_272_90, zr_272_91, zr_272_94, zr_272_95, zr_272_97, zr_272_98, zr_272_100, zr_272_102, zr_272_103, zr_272_104, zr_272_107, zr_272_109, zr_272_110, zr_272_113, zr_272_115, zr_272_116, zr_272_119, zr_272_122, zr_272_124, true_or, or_true, true_and, and_true, if_true, if_false, ldA_ref, ldA_null, nl_int, nl_ref, nl_fl, nl_null, c1_int, c1_ref, c1_null, Nat.zero_add, Nat.zero_mul, Nat.one_mul, nI_add, nI_leI, nI_ltI, nI_eq, nI_mul, show 10000 ≤ k from by omega, zcall_some, zpush_some, zpush_none, zsum_ref, zsum_int, zsum_long, zsum_nil, zsum_null, Nat.reduceAdd, Nat.reduceLeDiff, if_true]
  | succ f ih =>
    intro k v9 v10 hk
    have ih2 := fun v9 v10 => ih (k + 1) v9 v10 (by omega)
    rw [zl_272_60, pLin]
    by_cases c1 : rLwS r n e c wanted k = true
    · rw [if_pos c1]
      have c2 := of_decide_eq_true c1
      simp (implicitDefEqProofs := false) (disch := omega) only [zr_272_62, zr_272_65, zr_272_68, zr_272_70, zr_272_71, zr_272_72, zr_272_73, zr_272_75, zr_272_76, zr_272_77, zr_272_80, zr_272_81, zr_272_84, zr_272_85, zr_272_86, zr_272_87, zr_272_89, zr_272_90, zr_272_91, zr_272_94, zr_272_95, zr_272_97, zr_272_98, zr_272_100, zr_272_102, zr_272_103, zr_272_104, zr_272_107, zr_272_109, zr_272_110, zr_272_113, zr_272_115, zr_272_116, zr_272_119, zr_272_122, zr_272_124, true_or, or_true, true_and, and_true, if_true, if_false, ldA_ref, ldA_null, nl_int, nl_ref, nl_fl, nl_null, c1_int, c1_ref, c1_null, Nat.zero_add, Nat.zero_mul, Nat.one_mul, nI_add, nI_leI, nI_ltI, nI_eq, nI_mul, cmp_lt, cmp_gt, cmp_le, cmp_ge, cmp_eq, kd_M, show ¬ 10000 ≤ k from by omega, s_of (show rX e (14 + c) < 8271 by unfold rX; omega), s_of (show rX e (26 + c) < 8271 by unfold rX; omega), dvJ_30, s_ramt hn h7 (show 4 < 5 by omega), c2, zcall_some, zpush_some, zpush_none, zsum_ref, zsum_int, zsum_long, zsum_nil, zsum_null, Nat.reduceAdd, Nat.reduceLeDiff, if_true]
      exact ih2 _ _
    · rw [if_neg c1, if_pos (by omega)]
      have c2 := of_decide_eq_false (Bool.eq_false_iff.mpr c1)
      simp (implicitDefEqProofs := false) (disch := omega) only [zr_272_62, zr_272_65, zr_272_68, zr_272_70, zr_272_71, zr_272_72, zr_272_73, zr_272_75, zr_272_76, zr_272_77, zr_272_80, zr_272_81, zr_272_84, zr_272_85, zr_272_86, zr_272_87, zr_272_89, zr_272_90, zr_272_91, zr_272_94, zr_272_95, zr_272_97, zr_272_98, zr_272_100, zr_272_102, zr_272_103, zr_272_104, zr_272_107, zr_272_109, zr_272_110, zr_272_113, zr_272_115, zr_272_116, zr_272_119, zr_272_122, zr_272_124, true_or, or_true, true_and, and_true, if_true, if_false, ldA_ref, ldA_null, nl_int, nl_ref, nl_fl, nl_null, c1_int, c1_ref, c1_null, Nat.zero_add, Nat.zero_mul, Nat.one_mul, nI_add, nI_leI, nI_ltI, nI_eq, nI_mul, cmp_lt, cmp_gt, cmp_le, cmp_ge, cmp_eq, kd_M, show ¬ 10000 ≤ k from by omega, s_of (show rX e (14 + c) < 8271 by unfold rX; omega), s_of (show rX e (26 + c) < 8271 by unfold rX; omega), dvJ_30, s_ramt hn h7 (show 4 < 5 by omega), c2, zcall_some, zpush_some, zpush_none, zsum_ref, zsum_int, zsum_long, zsum_nil, zsum_null, Nat.reduceAdd, Nat.reduceLeDiff, if_true]
end
section
variable {L : Nat} {xs : Nat → Int32}
theorem q_leastSalary (x z : Int32) : qryI2 L xs (fun h => ev 155 [.ref 100, .int x, .int z] h) (fun h => ev 272 [.ref 463, .int x, .int z] h) := by
  intro H s q K ⟨⟨⟨sv, hx⟩, hB, c, n, gs, LS, hb, hs⟩, hz, tw, hT⟩
  dsimp only
  have hc := hb.1.1
  obtain ⟨hn, hbn, h7, -⟩ := hb.2.1
  by_cases h0 : nI 0 ≤ x ∧ x ≤ nI 2
  · obtain ⟨e, he, rfl⟩ := in_nI (by omega) h0.1 h0.2
    have hE := good.rE hb (show e < 3 by omega)
    have ok := hE.2.1
    by_cases h1 : nI 0 ≤ z ∧ z ≤ nI 99999
    · by_cases h2 : c < 12
      · refine ⟨if pLin (fun x => decide (pAmt (gB_ru s) n 4 (pSalG (pG (gB_wk s e) c) (gW_en (gB_wk s e) (12 + c)) (gW_en (gB_wk s e) (24 + c)) x) < pAmt (gB_ru s) n 4 (pG (gB_wk s e) c) + z.toInt64 * 1000000)) 10000 0 < 10000 then nI (pLin (fun x => decide (pAmt (gB_ru s) n 4 (pSalG (pG (gB_wk s e) c) (gW_en (gB_wk s e) (12 + c)) (gW_en (gB_wk s e) (24 + c)) x) < pAmt (gB_ru s) n 4 (pG (gB_wk s e) c) + z.toInt64 * 1000000)) 10000 0) else -2, ?_, fun r h hq => ?_⟩
        · have hl := s_least (tr := 443) (net := z.toInt64 * 1000000) hB (show e < 3 by omega) h2 hb.1.2.1 hn hbn
          rw [pHal_lin _ (fun x y hxy hy hl => ?_)] at hl
          · simp (implicitDefEqProofs := false) (disch := omega) only [ze_155, zr_155_0, zr_155_1, zr_155_4, zr_155_7, zr_155_8, zr_155_9, zr_155_11, zr_155_14, zr_155_17, zr_155_18, zr_155_19, zr_155_20, zr_155_23, zr_155_26, zr_155_28, zr_155_31, zr_155_33, zr_155_34, zr_155_35, zr_155_38, zr_155_39, zr_155_42, zr_155_43, zr_155_44, zr_155_45, zr_155_48, zr_155_49, zr_155_52, true_or, or_true, true_and, and_true, if_true, if_false, ldA_ref, ldA_null, nl_int, nl_ref, nl_fl, nl_null, c1_int, c1_ref, c1_null, Nat.zero_add, Nat.zero_mul, Nat.one_mul, nI_add, nI_leI, nI_ltI, nI_eq, nI_mul, s_isEmployee, s_within, bI_0, show ¬ ¬ (0 ≤ e ∧ e ≤ 2) from by omega, nn h1, h2, x_at hx, rdB_0 (hB), rdB_1 (hB), rdB_2 (hB), rdB_3 (hB), rdB_4 (hB), rdB_5 (hB), rdB_6 (hB), rdB_7 (hB), hb.1.2.1, (tr_at hT).1, hl, zcall_some, zpush_some, zpush_none, zsum_ref, zsum_int, zsum_long, zsum_nil, zsum_null, Nat.reduceAdd, Nat.reduceLeDiff, if_true]
            by_cases c1 : pLin (fun x => decide (pAmt (gB_ru s) n 4 (pSalG (pG (gB_wk s e) c) (gW_en (gB_wk s e) (12 + c)) (gW_en (gB_wk s e) (24 + c)) x) < pAmt (gB_ru s) n 4 (pG (gB_wk s e) c) + z.toInt64 * 1000000)) 10000 0 < 10000
            · rw [if_pos c1, if_pos (by omega)]
            · rw [if_neg c1, if_neg (by omega)]
          · have b1 := GW_bd ok c (by omega)
            have b2 := gX_bd ok h2 (show x ≤ 20000 by omega)
            have b3 := gX_bd ok h2 (show y ≤ 20000 by omega)
            have b4 := gX_up ok h2 hxy
            have e1 := of_decide_eq_true hl
            refine decide_eq_true ?_
            rw [pSal_J ok h2 (by omega), pAmt_J hb.2.1 (by omega)] at e1 ⊢
            have n1 := net_bd hb.2.1 (X := GW (gB_wk s e) c + gX (gB_wk s e) c x) (by omega)
            have n2 := net_bd hb.2.1 (X := GW (gB_wk s e) c + gX (gB_wk s e) c y) (by omega)
            have n3 := net_up hb.2.1 (show GW (gB_wk s e) c + gX (gB_wk s e) c x ≤ GW (gB_wk s e) c + gX (gB_wk s e) c y by omega)
            refine Int64.lt_of_le_of_lt ?_ e1
            rw [J_le (by omega) (by omega) (by omega) (by omega)]
            exact n3
        · have hr : RelR (gB_ru s) (rS r) n := by rw [hq]; exact hb.2.1
          have hEn : enEq (gB_wk s e) (rS r) e := by rw [hq]; exact hE.1
          have hl := s_rleastL (m := 463) (r := r) (h := h) (z := z) (wanted := pAmt (gB_ru s) n 4 (pG (gB_wk s e) c) + z.toInt64 * 1000000) hn (show rS r 7 = (nI n).toInt64 by rw [hq]; exact h7) (show e < 3 by omega) h2 10000 0 (.float 0) (.float 0) (by omega)
          rw [pLin_eq (l2 := fun x => decide (pAmt (gB_ru s) n 4 (pSalG (pG (gB_wk s e) c) (gW_en (gB_wk s e) (12 + c)) (gW_en (gB_wk s e) (24 + c)) x) < pAmt (gB_ru s) n 4 (pG (gB_wk s e) c) + z.toInt64 * 1000000)) 10000 0 (fun y _ hy => ?_)] at hl
          · simp (implicitDefEqProofs := false) (disch := omega) only [ze_272, zr_272_0, zr_272_1, zr_272_4, zr_272_7, zr_272_8, zr_272_9, zr_272_11, zr_272_14, zr_272_17, zr_272_18, zr_272_19, zr_272_20, zr_272_23, zr_272_24, zr_272_25, zr_272_27, zr_272_30, zr_272_32, zr_272_33, zr_272_34, zr_272_35, zr_272_36, zr_272_39, zr_272_41, zr_272_42, zr_272_44, zr_272_45, zr_272_48, zr_272_49, zr_272_50, zr_272_53, zr_272_54, zr_272_55, zr_272_57, zr_272_58, zr_272_62, zr_272_65, zr_272_68, zr_272_70, zr_272_71, zr_272_72, zr_272_73, zr_272_75, zr_272_76, zr_272_77, zr_272_80, zr_272_81, zr_272_84, zr_272_85, zr_272_86, zr_272_87, zr_272_89, zr_272_90, zr_272_91, zr_272_94, zr_272_95, zr_272_97, zr_272_98, zr_272_100, zr_272_102, zr_272_103, zr_272_104, zr_272_107, zr_272_109, zr_272_110, zr_272_113, zr_272_115, zr_272_116, zr_272_119, zr_272_122, zr_272_124, true_or, or_true, true_and, and_true, if_true, if_false, ldA_ref, ldA_null, nl_int, nl_ref, nl_fl, nl_null, c1_int, c1_ref, c1_null, Nat.zero_add, Nat.zero_mul, Nat.one_mul, nI_add, nI_leI, nI_ltI, nI_eq, nI_mul, kd_M, s_isPerson, s_in, bI_0, bI_ok, show ¬ ¬ (0 ≤ e ∧ e ≤ 2) from by omega, nn h1, show ¬ c = 12 from by omega, s_rcm (show rS r 0 = (nI c).toInt64 by rw [hq]; exact hb.1.2.2.1), s_rsum (show e < 3 by omega) hc, s_ramt hn (show rS r 7 = (nI n).toInt64 by rw [hq]; exact h7) (show 4 < 5 by omega), oneR_eq hr ok hEn hc, zcall_some, zpush_some, zpush_none, zsum_ref, zsum_int, zsum_long, zsum_nil, zsum_null, Nat.reduceAdd, Nat.reduceLeDiff, if_true]
            exact hl
          · have b1 := GW_bd ok c (by omega)
            have b2 := gX_bd ok h2 (show y ≤ 20000 by omega)
            unfold rLwS
            rw [rSal_J ok hEn h2 (by omega), pSal_J ok h2 (by omega), rAmt_J hr (by omega), pAmt_J hr (by omega)]
      · refine ⟨-2, ?_, fun r h hq => ?_⟩
        · simp (implicitDefEqProofs := false) (disch := omega) only [ze_155, zr_155_0, zr_155_1, zr_155_4, zr_155_7, zr_155_8, zr_155_9, zr_155_11, zr_155_14, zr_155_17, zr_155_18, zr_155_19, zr_155_20, zr_155_23, zr_155_26, zr_155_28, zr_155_31, zr_155_33, zr_155_34, zr_155_35, zr_155_38, zr_155_39, zr_155_42, zr_155_43, zr_155_44, zr_155_45, zr_155_48, zr_155_49, zr_155_52, true_or, or_true, true_and, and_true, if_true, if_false, ldA_ref, ldA_null, nl_int, nl_ref, nl_fl, nl_null, c1_int, c1_ref, c1_null, Nat.zero_add, Nat.zero_mul, Nat.one_mul, nI_add, nI_leI, nI_ltI, nI_eq, nI_mul, s_isEmployee, s_within, bI_0, show ¬ ¬ (0 ≤ e ∧ e ≤ 2) from by omega, nn h1, h2, x_at hx, rdB_0 (hB), rdB_1 (hB), rdB_2 (hB), rdB_3 (hB), rdB_4 (hB), rdB_5 (hB), rdB_6 (hB), rdB_7 (hB), hb.1.2.1, zcall_some, zpush_some, zpush_none, zsum_ref, zsum_int, zsum_long, zsum_nil, zsum_null, Nat.reduceAdd, Nat.reduceLeDiff, if_true]
        · simp (implicitDefEqProofs := false) (disch := omega) only [ze_272, zr_272_0, zr_272_1, zr_272_4, zr_272_7, zr_272_8, zr_272_9, zr_272_11, zr_272_14, zr_272_17, zr_272_18, zr_272_19, zr_272_20, zr_272_23, zr_272_24, zr_272_25, zr_272_27, zr_272_30, zr_272_32, zr_272_33, zr_272_34, zr_272_35, zr_272_36, zr_272_39, zr_272_41, zr_272_42, zr_272_44, zr_272_45, zr_272_48, zr_272_49, zr_272_50, zr_272_53, zr_272_54, zr_272_55, zr_272_57, zr_272_58, zr_272_62, zr_272_65, zr_272_68, zr_272_70, zr_272_71, zr_272_72, zr_272_73, zr_272_75, zr_272_76, zr_272_77, zr_272_80, zr_272_81, zr_272_84, zr_272_85, zr_272_86, zr_272_87, zr_272_89, zr_272_90, zr_272_91, zr_272_94, zr_272_95, zr_272_97, zr_272_98, zr_272_100, zr_272_102, zr_272_103, zr_272_104, zr_272_107, zr_272_109, zr_272_110, zr_272_113, zr_272_115, zr_272_116, zr_272_119, zr_272_122, zr_272_124, true_or, or_true, true_and, and_true, if_true, if_false, ldA_ref, ldA_null, nl_int, nl_ref, nl_fl, nl_null, c1_int, c1_ref, c1_null, Nat.zero_add, Nat.zero_mul, Nat.one_mul, nI_add, nI_leI, nI_ltI, nI_eq, nI_mul, kd_M, s_isPerson, s_in, bI_0, bI_ok, show ¬ ¬ (0 ≤ e ∧ e ≤ 2) from by omega, nn h1, show c = 12 from by omega, s_rcm (show rS r 0 = (nI c).toInt64 by rw [hq]; exact hb.1.2.2.1), zcall_some, zpush_some, zpush_none, zsum_ref, zsum_int, zsum_long, zsum_nil, zsum_null, Nat.reduceAdd, Nat.reduceLeDiff, if_true]
    · refine ⟨-1, ?_, fun r h hq => ?_⟩
      · simp (implicitDefEqProofs := false) (disch := omega) only [ze_155, zr_155_0, zr_155_1, zr_155_4, zr_155_7, zr_155_8, zr_155_9, zr_155_11, zr_155_14, zr_155_17, zr_155_18, zr_155_19, zr_155_20, zr_155_23, zr_155_26, zr_155_28, zr_155_31, zr_155_33, zr_155_34, zr_155_35, zr_155_38, zr_155_39, zr_155_42, zr_155_43, zr_155_44, zr_155_45, zr_155_48, zr_155_49, zr_155_52, true_or, or_true, true_and, and_true, if_true, if_false, ldA_ref, ldA_null, nl_int, nl_ref, nl_fl, nl_null, c1_int, c1_ref, c1_null, s_isEmployee, s_within, bI_0, not_false_eq_true, nn h0, h1, zcall_some, zpush_some, zpush_none, zsum_ref, zsum_int, zsum_long, zsum_nil, zsum_null, Nat.reduceAdd, Nat.reduceLeDiff, if_true]
      · simp (implicitDefEqProofs := false) (disch := omega) only [ze_272, zr_272_0, zr_272_1, zr_272_4, zr_272_7, zr_272_8, zr_272_9, zr_272_11, zr_272_14, zr_272_17, zr_272_18, zr_272_19, zr_272_20, zr_272_23, zr_272_24, zr_272_25, zr_272_27, zr_272_30, zr_272_32, zr_272_33, zr_272_34, zr_272_35, zr_272_36, zr_272_39, zr_272_41, zr_272_42, zr_272_44, zr_272_45, zr_272_48, zr_272_49, zr_272_50, zr_272_53, zr_272_54, zr_272_55, zr_272_57, zr_272_58, zr_272_62, zr_272_65, zr_272_68, zr_272_70, zr_272_71, zr_272_72, zr_272_73, zr_272_75, zr_272_76, zr_272_77, zr_272_80, zr_272_81, zr_272_84, zr_272_85, zr_272_86, zr_272_87, zr_272_89, zr_272_90, zr_272_91, zr_272_94, zr_272_95, zr_272_97, zr_272_98, zr_272_100, zr_272_102, zr_272_103, zr_272_104, zr_272_107, zr_272_109, zr_272_110, zr_272_113, zr_272_115, zr_272_116, zr_272_119, zr_272_122, zr_272_124, true_or, or_true, true_and, and_true, if_true, if_false, ldA_ref, ldA_null, nl_int, nl_ref, nl_fl, nl_null, c1_int, c1_ref, c1_null, kd_M, s_isPerson, s_in, bI_0, bI_ok, not_false_eq_true, nn h0, h1, zcall_some, zpush_some, zpush_none, zsum_ref, zsum_int, zsum_long, zsum_nil, zsum_null, Nat.reduceAdd, Nat.reduceLeDiff, if_true]
  · refine ⟨-1, ?_, fun r h hq => ?_⟩
    · simp (implicitDefEqProofs := false) (disch := omega) only [ze_155, zr_155_0, zr_155_1, zr_155_4, zr_155_7, zr_155_8, zr_155_9, zr_155_11, zr_155_14, zr_155_17, zr_155_18, zr_155_19, zr_155_20, zr_155_23, zr_155_26, zr_155_28, zr_155_31, zr_155_33, zr_155_34, zr_155_35, zr_155_38, zr_155_39, zr_155_42, zr_155_43, zr_155_44, zr_155_45, zr_155_48, zr_155_49, zr_155_52, true_or, or_true, true_and, and_true, if_true, if_false, ldA_ref, ldA_null, nl_int, nl_ref, nl_fl, nl_null, c1_int, c1_ref, c1_null, s_isEmployee, s_within, bI_0, not_false_eq_true, zcall_some, zpush_some, zpush_none, zsum_ref, zsum_int, zsum_long, zsum_nil, zsum_null, Nat.reduceAdd, Nat.reduceLeDiff, if_true, h0]
    · simp (implicitDefEqProofs := false) (disch := omega) only [ze_272, zr_272_0, zr_272_1, zr_272_4, zr_272_7, zr_272_8, zr_272_9, zr_272_11, zr_272_14, zr_272_17, zr_272_18, zr_272_19, zr_272_20, zr_272_23, zr_272_24, zr_272_25, zr_272_27, zr_272_30, zr_272_32, zr_272_33, zr_272_34, zr_272_35, zr_272_36, zr_272_39, zr_272_41, zr_272_42, zr_272_44, zr_272_45, zr_272_48, zr_272_49, zr_272_50, zr_272_53, zr_272_54, zr_272_55, zr_272_57, zr_272_58, zr_272_62, zr_272_65, zr_272_68, zr_272_70, zr_272_71, zr_272_72, zr_272_73, zr_272_75, zr_272_76, zr_272_77, zr_272_80, zr_272_81, zr_272_84, zr_272_85, zr_272_86, zr_272_87, zr_272_89, zr_272_90, zr_272_91, zr_272_94, zr_272_95, zr_272_97, zr_272_98, zr_272_100, zr_272_102, zr_272_103, zr_272_104, zr_272_107, zr_272_109, zr_272_110, zr_272_113, zr_272_115, zr_272_116, zr_272_119, zr_272_122, zr_272_124, true_or, or_true, true_and, and_true, if_true, if_false, ldA_ref, ldA_null, nl_int, nl_ref, nl_fl, nl_null, c1_int, c1_ref, c1_null, kd_M, s_isPerson, bI_0, bI_ok, not_false_eq_true, zcall_some, zpush_some, zpush_none, zsum_ref, zsum_int, zsum_long, zsum_nil, zsum_null, Nat.reduceAdd, Nat.reduceLeDiff, if_true, h0]
end
