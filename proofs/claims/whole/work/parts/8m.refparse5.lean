/-! THE REFERENCE reads commands: a command, read or performed -/
section
variable {m n : Nat} {r : Rst} {h : zH} {sg : Nat → Nat} {nu : Nat → Int32}
theorem nI_neg1 (k : Nat) (hk : k < 2 ^ 31) : (nI 0 ≤ nI k) = True := by
  rw [nI_leI (by omega) hk]; simp
/-- a command from s on: e its word's end, w its word -/
theorem s_rcmdA {s : Nat} {pf : Int32} (hm : 100 ≤ m) (hmh : m + 9 ≤ 100 + h.1) (hs : s ≤ 61) (hb : bufR r sg n) (hw : wdR (putM m r h)) (h12 : pWD sg s (pWE sg n 60 s) 12 0 < 12) : ∃ h' nu' i', ev 285 [.ref m, .int pf] (putM m (rSt r s (nI 0) nu) h) = rn 285 106 [.ref m, .int pf, .int (nI s), .int (nI (iw (pWD sg s (pWE sg n 60 s) 12 0))), .int (nI (nA (pWD sg s (pWE sg n 60 s) 12 0))), .int (nI i')] [] (putM m (rSt r (pNS sg n (nA (pWD sg s (pWE sg n 60 s) 12 0)) (pWE sg n 60 s)).2.1 (if (pNS sg n (nA (pWD sg s (pWE sg n 60 s) 12 0)) (pWE sg n 60 s)).1 = true then nI 0 else nI 1) nu') h') ∧ alF h' h 1 12 ∧ ((pNS sg n (nA (pWD sg s (pWE sg n 60 s) 12 0)) (pWE sg n 60 s)).1 = true → ∀ j v, (pNS sg n (nA (pWD sg s (pWE sg n 60 s) 12 0)) (pWE sg n 60 s)).2.2[j]? = some v → nu' j = nI v) := by
  have hn := hb.2.1
  have hwb := pWE_bd sg n 60 s
  have he : pWE sg n 60 s ≤ 61 := by rcases hwb.2 with h | h <;> omega
  have e1 := s_rwendL (w := nI 0) (nu := nu) (h := h) hm hb pf (nI s) (.float 0) (.float 0) (.float 0) 60 s (by omega) (by omega)
  have hw2 : wdR (putM m (rSt r (pWE sg n 60 s) (nI 0) nu) h) := fun k hk => stOK_M (H := h) hm (hw k hk) _
  obtain ⟨h1, e2, f2⟩ := s_rwordOf (r := rSt r (pWE sg n 60 s) (nI 0) nu) hm hmh hw2 (rSt_b hb _ _ _) (rSt_P _) hwb.1 hwb.2.symm (show pWE sg n 60 s ≤ 200 by omega)
  rw [pRW_eq, if_neg (by omega)] at e2
  generalize pWE sg n 60 s = e at e1 e2 he h12 ⊢
  generalize pWD sg s e 12 0 = w at e2 h12 ⊢
  obtain ⟨nu', i', e3, k1, k2⟩ := s_rnumsL (h := h1) (pf := pf) (s := nI s) (wd := nI (iw w)) hm hb (nA_3 h12) (nA w) 0 e nu (by omega) he
  refine ⟨h1, nu', i', ?_, f2, fun hy j v hv => by
    have := k2 hy j v hv
    rw [Nat.zero_add] at this
    exact this⟩
  rw [← e3]
  have hiw := (iw_rw w h12).2
  have hmany := iw_many w h12
  have a1 : ev 285 [.ref m, .int pf] (putM m (rSt r s (nI 0) nu) h) = rn 285 5 [.ref m, .int pf, .int (nI s), .float 0, .float 0, .float 0] [] (putM m (rSt r s (nI 0) nu) h) := by
    simp (implicitDefEqProofs := false) (disch := omega) only [ze_285, zr_285_0, zr_285_1, zr_285_4, true_or, or_true, true_and, and_true, if_true, if_false, ldA_ref, ldA_null, nl_int, nl_ref, nl_fl, nl_null, c1_int, c1_ref, c1_null, gf_M, rSt_P]
  rw [a1, e1]
  by_cases c6 : iw w < 6
  · rw [if_pos c6] at hmany
    rw [← hmany]
    simp (implicitDefEqProofs := false) (disch := omega) only [zr_285_32, zr_285_33, zr_285_34, zr_285_37, zr_285_38, zr_285_39, zr_285_42, zr_285_43, zr_285_44, zr_285_47, zr_285_48, zr_285_49, zr_285_52, zr_285_53, zr_285_54, zr_285_55, zr_285_57, zr_285_60, zr_285_61, zr_285_64, zr_285_65, zr_285_67, zr_285_70, zr_285_71, zr_285_74, zr_285_75, zr_285_77, zr_285_78, true_or, or_true, true_and, and_true, if_true, if_false, ldA_ref, ldA_null, nl_int, nl_ref, nl_fl, nl_null, c1_int, c1_ref, c1_null, Nat.zero_add, Nat.zero_mul, Nat.one_mul, nI_add, nI_leI, nI_ltI, nI_eq, nI_mul, kd_M, e2, nI_neg1 (iw w) (by omega), show 0 ≤ iw w from by omega, show ¬ 6 ≤ iw w from by omega, zcall_some, zpush_some, zpush_none, zsum_ref, zsum_int, zsum_long, zsum_nil, zsum_null, Nat.reduceAdd, Nat.reduceLeDiff, if_true]
  · rw [if_neg c6] at hmany
    by_cases c11 : iw w < 11
    · rw [if_pos c11] at hmany
      rw [← hmany]
      simp (implicitDefEqProofs := false) (disch := omega) only [zr_285_32, zr_285_33, zr_285_34, zr_285_37, zr_285_38, zr_285_39, zr_285_42, zr_285_43, zr_285_44, zr_285_47, zr_285_48, zr_285_49, zr_285_52, zr_285_53, zr_285_54, zr_285_55, zr_285_57, zr_285_60, zr_285_61, zr_285_64, zr_285_65, zr_285_67, zr_285_70, zr_285_71, zr_285_74, zr_285_75, zr_285_77, zr_285_78, true_or, or_true, true_and, and_true, if_true, if_false, ldA_ref, ldA_null, nl_int, nl_ref, nl_fl, nl_null, c1_int, c1_ref, c1_null, Nat.zero_add, Nat.zero_mul, Nat.one_mul, nI_add, nI_leI, nI_ltI, nI_eq, nI_mul, kd_M, e2, nI_neg1 (iw w) (by omega), show 0 ≤ iw w from by omega, show 6 ≤ iw w from by omega, show ¬ 11 ≤ iw w from by omega, zcall_some, zpush_some, zpush_none, zsum_ref, zsum_int, zsum_long, zsum_nil, zsum_null, Nat.reduceAdd, Nat.reduceLeDiff, if_true]
    · rw [if_neg c11] at hmany
      rw [← hmany]
      simp (implicitDefEqProofs := false) (disch := omega) only [zr_285_32, zr_285_33, zr_285_34, zr_285_37, zr_285_38, zr_285_39, zr_285_42, zr_285_43, zr_285_44, zr_285_47, zr_285_48, zr_285_49, zr_285_52, zr_285_53, zr_285_54, zr_285_55, zr_285_57, zr_285_60, zr_285_61, zr_285_64, zr_285_65, zr_285_67, zr_285_70, zr_285_71, zr_285_74, zr_285_75, zr_285_77, zr_285_78, true_or, or_true, true_and, and_true, if_true, if_false, ldA_ref, ldA_null, nl_int, nl_ref, nl_fl, nl_null, c1_int, c1_ref, c1_null, Nat.zero_add, Nat.zero_mul, Nat.one_mul, nI_add, nI_leI, nI_ltI, nI_eq, nI_mul, kd_M, e2, nI_neg1 (iw w) (by omega), show 0 ≤ iw w from by omega, show 6 ≤ iw w from by omega, show 11 ≤ iw w from by omega, zcall_some, zpush_some, zpush_none, zsum_ref, zsum_int, zsum_long, zsum_nil, zsum_null, Nat.reduceAdd, Nat.reduceLeDiff, if_true]
theorem s_rcmdB {s : Nat} {pf : Int32} (hm : 100 ≤ m) (hmh : m + 9 ≤ 100 + h.1) (hs : s ≤ 61) (hb : bufR r sg n) (hw : wdR (putM m r h)) (h12 : pWD sg s (pWE sg n 60 s) 12 0 = 12) : ∃ h', ev 285 [.ref m, .int pf] (putM m (rSt r s (nI 0) nu) h) = some (some (.int (nI 0)), putM m (rSt r s (nI 1) nu) h') ∧ alF h' h 1 12 := by
  have hn := hb.2.1
  have hwb := pWE_bd sg n 60 s
  have he : pWE sg n 60 s ≤ 61 := by rcases hwb.2 with h | h <;> omega
  have e1 := s_rwendL (w := nI 0) (nu := nu) (h := h) hm hb pf (nI s) (.float 0) (.float 0) (.float 0) 60 s (by omega) (by omega)
  have hw2 : wdR (putM m (rSt r (pWE sg n 60 s) (nI 0) nu) h) := fun k hk => stOK_M (H := h) hm (hw k hk) _
  obtain ⟨h1, e2, f2⟩ := s_rwordOf (r := rSt r (pWE sg n 60 s) (nI 0) nu) hm hmh hw2 (rSt_b hb _ _ _) (rSt_P _) hwb.1 hwb.2.symm (show pWE sg n 60 s ≤ 200 by omega)
  rw [pRW_eq, if_pos h12] at e2
  generalize pWE sg n 60 s = e at e1 e2 he h12 ⊢
  refine ⟨h1, ?_, f2⟩
  have a1 : ev 285 [.ref m, .int pf] (putM m (rSt r s (nI 0) nu) h) = rn 285 5 [.ref m, .int pf, .int (nI s), .float 0, .float 0, .float 0] [] (putM m (rSt r s (nI 0) nu) h) := by
    simp (implicitDefEqProofs := false) (disch := omega) only [ze_285, zr_285_0, zr_285_1, zr_285_4, true_or, or_true, true_and, and_true, if_true, if_false, ldA_ref, ldA_null, nl_int, nl_ref, nl_fl, nl_null, c1_int, c1_ref, c1_null, gf_M, rSt_P]
  have hneg : (nI 0 ≤ (-1 : Int32)) = False := by simp; decide
  have hp13 : ∀ (β : Type) (f : zH → Option β), zpf (putM m (rSt r s (nI 0) nu) h1) m 12 13 (.int (nI 1)) f = f (putM m (rSt r s (nI 1) nu) h1) := fun _ f => pf_M13 hm (nI 1) (Or.inr rfl) f
  rw [a1, e1]
  simp (implicitDefEqProofs := false) (disch := omega) only [zr_285_32, zr_285_33, zr_285_34, zr_285_37, zr_285_38, zr_285_39, zr_285_42, zr_285_43, zr_285_44, zr_285_47, zr_285_48, zr_285_49, zr_285_52, zr_285_53, true_or, or_true, true_and, and_true, if_true, if_false, ldA_ref, ldA_null, nl_int, nl_ref, nl_fl, nl_null, c1_int, c1_ref, c1_null, kd_M, e2, hneg, pf_M12 hm, rSt_wP, hp13, zcall_some, zpush_some, zpush_none, zsum_ref, zsum_int, zsum_long, zsum_nil, zsum_null, Nat.reduceAdd, Nat.reduceLeDiff, if_true]
/-- a command read, not performed -/
theorem s_rcmd0 {s : Nat} (hm : 100 ≤ m) (hmh : m + 9 ≤ 100 + h.1) (hs : s ≤ 61) (hb : bufR r sg n) (hw : wdR (putM m r h)) : ∃ h' nu' p' w', ev 285 [.ref m, .int (nI 0)] (putM m (rSt r s (nI 0) nu) h) = some (some (.int (nI 0)), putM m (rSt r p' w' nu') h') ∧ alF h' h 1 12 ∧ p' ≤ 61 ∧ (w' = nI 0 ∨ w' = nI 1) ∧ p' = (pCmd sg n s).2.1 ∧ ((pCmd sg n s).1 = true ↔ w' = nI 0 ∧ (n ≤ p' ∨ sg p' = 59)) := by
  have hn := hb.2.1
  have hwb := pWE_bd sg n 60 s
  have he : pWE sg n 60 s ≤ 61 := by rcases hwb.2 with h | h <;> omega
  have hlt := pWD_lt sg s (pWE sg n 60 s) 12 0 rfl
  by_cases c : pWD sg s (pWE sg n 60 s) 12 0 = 12
  · obtain ⟨h1, e1, f1⟩ := s_rcmdB (nu := nu) (pf := nI 0) hm hmh hs hb hw c
    refine ⟨h1, nu, s, nI 1, e1, f1, hs, Or.inr rfl, ?_, ?_⟩
    · unfold pCmd; dsimp only; rw [if_pos c]
    · unfold pCmd; dsimp only; rw [if_pos c]
      exact ⟨fun x => absurd x Bool.false_ne_true, fun x => absurd x.1 (by decide)⟩
  · obtain ⟨h1, nu', i', e1, f1, k1⟩ := s_rcmdA (nu := nu) (pf := nI 0) hm hmh hs hb hw (show pWD sg s (pWE sg n 60 s) 12 0 < 12 by omega)
    unfold pCmd
    dsimp only
    rw [if_neg c]
    have hbd := pNS_bd sg hn (nA (pWD sg s (pWE sg n 60 s) 12 0)) _ he
    generalize pNS sg n (nA (pWD sg s (pWE sg n 60 s) 12 0)) (pWE sg n 60 s) = y at e1 hbd ⊢
    obtain ⟨y1, y2, y3⟩ := y
    dsimp only at e1 hbd ⊢
    by_cases d : y1 = true
    · subst d
      rw [if_pos rfl] at e1 ⊢
      refine ⟨h1, nu', y2, nI 0, ?_, f1, hbd, Or.inl rfl, ?_, ?_⟩
      · rw [e1]
        simp (implicitDefEqProofs := false) (disch := omega) only [zr_285_106, zr_285_107, zr_285_110, zr_285_113, zr_285_114, zr_285_117, zr_285_118, zr_285_121, zr_285_122, zr_285_123, zr_285_126, true_or, or_true, true_and, and_true, if_true, if_false, ldA_ref, ldA_null, nl_int, nl_ref, nl_fl, nl_null, c1_int, c1_ref, c1_null, Nat.zero_add, Nat.zero_mul, Nat.one_mul, nI_add, nI_leI, nI_ltI, nI_eq, nI_mul, gf_M, rSt_W]
      · by_cases d2 : n ≤ y2 ∨ sg y2 = 59
        · rw [if_pos d2]
        · rw [if_neg d2]
      · by_cases d2 : n ≤ y2 ∨ sg y2 = 59
        · rw [if_pos d2]; exact ⟨fun _ => ⟨rfl, d2⟩, fun _ => rfl⟩
        · rw [if_neg d2]; exact ⟨fun x => absurd x Bool.false_ne_true, fun x => absurd x.2 d2⟩
    · have d3 : y1 = false := by simpa using d
      subst d3
      rw [if_neg Bool.false_ne_true] at e1 ⊢
      refine ⟨h1, nu', y2, nI 1, ?_, f1, hbd, Or.inr rfl, rfl, ?_⟩
      · rw [e1]
        simp (implicitDefEqProofs := false) (disch := omega) only [zr_285_106, zr_285_107, zr_285_110, zr_285_113, zr_285_114, zr_285_117, zr_285_118, zr_285_121, zr_285_122, zr_285_123, zr_285_126, true_or, or_true, true_and, and_true, if_true, if_false, ldA_ref, ldA_null, nl_int, nl_ref, nl_fl, nl_null, c1_int, c1_ref, c1_null, Nat.zero_add, Nat.zero_mul, Nat.one_mul, nI_add, nI_leI, nI_ltI, nI_eq, nI_mul, gf_M, rSt_W, show ¬ (1 : Nat) = 0 from by omega]
      · exact ⟨fun x => absurd x Bool.false_ne_true, fun x => absurd x.1 (by decide)⟩
/-- a good command performed -/
theorem s_rcmd1 {s : Nat} (hm : 100 ≤ m) (hmh : m + 9 ≤ 100 + h.1) (hs : s ≤ 61) (hb : bufR r sg n) (hw : wdR (putM m r h)) (ok : (pCmd sg n s).1 = true) : ∃ h' nu', alF h' h 1 12 ∧ (pCmd sg n s).2.2.1 < 12 ∧ (∀ j v, (pCmd sg n s).2.2.2[j]? = some v → nu' j = nI v) ∧ ∀ x H2, ev 290 [.ref m, .int (nI (iw (pCmd sg n s).2.2.1))] (putM m (rSt r (pCmd sg n s).2.1 (nI 0) nu') h') = some (some (.int x), H2) → ev 285 [.ref m, .int (nI 1)] (putM m (rSt r s (nI 0) nu) h) = some (some (.int x), H2) := by
  have hn := hb.2.1
  have hwb := pWE_bd sg n 60 s
  have he : pWE sg n 60 s ≤ 61 := by rcases hwb.2 with h | h <;> omega
  have hlt := pWD_lt sg s (pWE sg n 60 s) 12 0 rfl
  by_cases c : pWD sg s (pWE sg n 60 s) 12 0 = 12
  · unfold pCmd at ok
    dsimp only at ok
    rw [if_pos c] at ok
    exact absurd ok Bool.false_ne_true
  · obtain ⟨h1, nu', i', e1, f1, k1⟩ := s_rcmdA (nu := nu) (pf := nI 1) hm hmh hs hb hw (show pWD sg s (pWE sg n 60 s) 12 0 < 12 by omega)
    refine ⟨h1, nu', f1, ?_⟩
    unfold pCmd at ok ⊢
    dsimp only at ok ⊢
    rw [if_neg c] at ok ⊢
    generalize pNS sg n (nA (pWD sg s (pWE sg n 60 s) 12 0)) (pWE sg n 60 s) = y at e1 k1 ok ⊢
    obtain ⟨y1, y2, y3⟩ := y
    dsimp only at e1 k1 ok ⊢
    by_cases d : y1 = true
    · subst d
      rw [if_pos rfl] at e1 ok ⊢
      by_cases d2 : n ≤ y2 ∨ sg y2 = 59
      · rw [if_pos d2] at ok ⊢
        refine ⟨by dsimp only; omega, fun j v hv => k1 rfl j v hv, fun x H2 hp => ?_⟩
        dsimp only at hp
        rw [e1]
        simp (implicitDefEqProofs := false) (disch := omega) only [zr_285_106, zr_285_107, zr_285_110, zr_285_113, zr_285_114, zr_285_117, zr_285_118, zr_285_121, zr_285_122, zr_285_123, zr_285_126, true_or, or_true, true_and, and_true, if_true, if_false, ldA_ref, ldA_null, nl_int, nl_ref, nl_fl, nl_null, c1_int, c1_ref, c1_null, Nat.zero_add, Nat.zero_mul, Nat.one_mul, nI_add, nI_leI, nI_ltI, nI_eq, nI_mul, kd_M, gf_M, rSt_W, show ¬ (1 : Nat) = 0 from by omega, hp, zcall_some, zpush_some, zpush_none, zsum_ref, zsum_int, zsum_long, zsum_nil, zsum_null, Nat.reduceAdd, Nat.reduceLeDiff, if_true]
      · rw [if_neg d2] at ok
        exact absurd ok Bool.false_ne_true
    · have d3 : y1 = false := by simpa using d
      subst d3
      rw [if_neg Bool.false_ne_true] at ok
      exact absurd ok Bool.false_ne_true
end
