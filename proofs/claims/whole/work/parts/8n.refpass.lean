/-! THE REFERENCE reads all commands -/
section
variable {m n : Nat} {r : Rst} {h : zH} {sg : Nat → Nat} {nu : Nat → Int32}
theorem alF.rf (h : zH) : alF h h 0 0 := ⟨rfl, rfl, fun _ _ => rfl⟩
theorem alF.tr {h2 h1 h : zH} {a b c d : Nat} (x : alF h2 h1 a b) (y : alF h1 h c d) : alF h2 h (c + a) (d + b) := ⟨by rw [x.1, y.1]; omega, by rw [x.2.1, y.2.1]; omega, fun q hq => (x.2.2 q (by have := y.1; omega)).trans (y.2.2 q hq)⟩
theorem wdR_al {h' : zH} {a b : Nat} (hm : 100 ≤ m) (hw : wdR (putM m r h)) (f : alF h' h a b) (r2 : Rst) : wdR (putM m r2 h') := fun k hk => (hw k hk).to fun q hq => by
  rw [putM_out _ _ (Or.inl (by omega)), putM_out _ _ (Or.inl (by omega)), f.2.2 q (by omega)]
theorem pNS_adv (sg : Nat → Nat) (n : Nat) : ∀ f b, (pNS sg n f b).1 = true → b + 2 * f ≤ (pNS sg n f b).2.1
  | 0, b, _ => Nat.le_refl _
  | f + 1, b, h => by
    rw [pNS] at h ⊢
    dsimp only at h ⊢
    have hz : (pNM sg n b).1 = true → b + 2 ≤ (pNM sg n b).2.1 := by
      unfold pNM
      split
      · have hd := pDG_bd sg n 5 (b + 1) 0
        split
        · exact fun x => absurd x Bool.false_ne_true
        · rename_i c
          intro _
          dsimp only
          omega
      · exact fun x => absurd x Bool.false_ne_true
    by_cases c : (pNM sg n b).1 = true
    · rw [if_pos c] at h ⊢
      have h1 := pNS_adv sg n f (pNM sg n b).2.1 h
      have h2 := hz c
      dsimp only
      omega
    · rw [if_neg c] at h
      exact absurd h Bool.false_ne_true
theorem wL_many : ∀ w, w < 12 → 5 ≤ (wL w).length + 2 * nA w := by decide
theorem pCmd_adv (sg : Nat → Nat) (n s : Nat) (h : (pCmd sg n s).1 = true) : s + 5 ≤ (pCmd sg n s).2.1 := by
  have hat := pWD_at sg s (pWE sg n 60 s) 12 0 rfl
  have hwb := pWE_bd sg n 60 s
  unfold pCmd at h ⊢
  dsimp only at h ⊢
  generalize pWE sg n 60 s = e at h hat hwb ⊢
  generalize pWD sg s e 12 0 = w at h hat ⊢
  by_cases c : w = 12
  · rw [if_pos c] at h
    exact absurd h Bool.false_ne_true
  · rw [if_neg c] at h ⊢
    obtain ⟨h1, h2⟩ := hat.resolve_left (fun x => c x.1)
    have hl := ((spl_iff sg s e w).mp h2).1
    have hm := wL_many w h1
    by_cases d : (pNS sg n (nA w) e).1 = true
    · rw [if_pos d] at h ⊢
      have ha := pNS_adv sg n (nA w) e d
      by_cases d2 : n ≤ (pNS sg n (nA w) e).2.1 ∨ sg (pNS sg n (nA w) e).2.1 = 59
      · rw [if_pos d2]; dsimp only; omega
      · rw [if_neg d2] at h
        exact absurd h Bool.false_ne_true
    · rw [if_neg d] at h
      exact absurd h Bool.false_ne_true
theorem s_rpassL (hm : 100 ≤ m) (hb : bufR r sg n) (v4 v5 : Value) : ∀ (f s c : Nat) (nu : Nat → Int32) (h : zH) (v3 : Value), s ≤ n → n + 1 ≤ s + 6 * f → m + 9 ≤ 100 + h.1 → wdR (putM m r h) → (v3 = .float 0 ∨ v3 = .int (nI 0)) → ∃ h' nu' k' w' j v3', rn 284 14 [.ref m, .int (nI c), .int (nI 1), v3, v4, v5] [] (putM m (rSt r s (nI 0) nu) h) = rn 284 70 [.ref m, .int (nI (c + j)), .int (nI 0), v3', v4, v5] [] (putM m (rSt r k' w' nu') h') ∧ j ≤ f ∧ alF h' h j (12 * j) ∧ k' ≤ 61 ∧ (w' = nI 0 ∨ w' = nI 1) ∧ (match (pRD sg n f s).1 with
    | none => w' = nI 0 ∧ n ≤ k' ∧ j = (pRD sg n f s).2.length
    | some p => k' = p ∧ (w' = nI 1 ∨ k' < n)) := by
  intro f
  induction f with
  | zero => intro s c nu h v3 hs hn1; omega
  | succ f ih =>
    intro s c nu h v3 hs hn1 hmh hw hv3
    have hn := hb.2.1
    obtain ⟨h1, nu1, p1, w1, e1, f1, hp1, hw1, hpe, hiff⟩ := s_rcmd0 (nu := nu) hm hmh (show s ≤ 61 by omega) hb hw
    have hhe := s_here (m := m) (h := h1) (rSt_b hb p1 w1 nu1) (rSt_P p1) (by omega)
    have hadv := pCmd_adv sg n s
    rw [pRD]
    dsimp only
    rw [← hpe] at hadv
    generalize hz : pCmd sg n s = z at hiff hadv hpe ⊢
    obtain ⟨z1, z2, z3, z4⟩ := z
    dsimp only at hiff hadv hpe ⊢
    subst hpe
    rcases hw1 with hw1 | hw1
    · subst hw1
      by_cases c1 : p1 < n
      · rw [if_pos c1] at hhe
        by_cases c2 : sg p1 = 59
        · have ok : z1 = true := hiff.mpr ⟨rfl, Or.inr c2⟩
          rw [if_pos ok, if_neg (by omega)]
          have ha := hadv ok
          obtain ⟨h2, nu2, k2, w2, j2, v32, e2, hj2, f2, hk2, hw2, hm2⟩ := ih (p1 + 1) (c + 1) nu1 h1 (.int (nI 0)) (by omega) (by omega) (by have := f1.1; omega) (wdR_al hm hw f1 r) (Or.inr rfl)
          refine ⟨h2, nu2, k2, w2, j2 + 1, v32, ?_, by omega, ?_, hk2, hw2, ?_⟩
          · rw [show c + (j2 + 1) = c + 1 + j2 by omega, ← e2, zl_284_14]
            rcases hv3 with rfl | rfl
            · simp (implicitDefEqProofs := false) (disch := omega) only [zr_284_15, zr_284_18, zr_284_19, zr_284_20, zr_284_23, zr_284_24, zr_284_27, zr_284_28, zr_284_31, zr_284_34, zr_284_35, zr_284_38, zr_284_40, zr_284_43, zr_284_44, zr_284_47, zr_284_48, zr_284_49, zr_284_50, zr_284_51, zr_284_54, zr_284_55, zr_284_58, zr_284_59, zr_284_62, zr_284_63, zr_284_64, zr_284_67, true_or, or_true, true_and, and_true, if_true, if_false, ldA_ref, ldA_null, nl_int, nl_ref, nl_fl, nl_null, c1_int, c1_ref, c1_null, Nat.zero_add, Nat.zero_mul, Nat.one_mul, nI_add, nI_leI, nI_ltI, nI_eq, nI_mul, kd_M, gf_M, e1, rSt_W, rSt_P, hhe, c2, show ¬ (1 : Nat) = 0 from by omega, pf_M12 hm, rSt_wP, c1_ref, c1_int, zcall_some, zpush_some, zpush_none, zsum_ref, zsum_int, zsum_long, zsum_nil, zsum_null, Nat.reduceAdd, Nat.reduceLeDiff, if_true]
            · simp (implicitDefEqProofs := false) (disch := omega) only [zr_284_15, zr_284_18, zr_284_19, zr_284_20, zr_284_23, zr_284_24, zr_284_27, zr_284_28, zr_284_31, zr_284_34, zr_284_35, zr_284_38, zr_284_40, zr_284_43, zr_284_44, zr_284_47, zr_284_48, zr_284_49, zr_284_50, zr_284_51, zr_284_54, zr_284_55, zr_284_58, zr_284_59, zr_284_62, zr_284_63, zr_284_64, zr_284_67, true_or, or_true, true_and, and_true, if_true, if_false, ldA_ref, ldA_null, nl_int, nl_ref, nl_fl, nl_null, c1_int, c1_ref, c1_null, Nat.zero_add, Nat.zero_mul, Nat.one_mul, nI_add, nI_leI, nI_ltI, nI_eq, nI_mul, kd_M, gf_M, e1, rSt_W, rSt_P, hhe, c2, show ¬ (1 : Nat) = 0 from by omega, pf_M12 hm, rSt_wP, c1_ref, c1_int, zcall_some, zpush_some, zpush_none, zsum_ref, zsum_int, zsum_long, zsum_nil, zsum_null, Nat.reduceAdd, Nat.reduceLeDiff, if_true]
          · have := f2.tr f1
            rw [show 1 + j2 = j2 + 1 by omega, show 12 + 12 * j2 = 12 * (j2 + 1) by omega] at this
            exact this
          · cases hq : (pRD sg n f (p1 + 1)).1 with
            | none =>
              rw [hq] at hm2
              exact ⟨hm2.1, hm2.2.1, by dsimp only; rw [List.length_cons, hm2.2.2]⟩
            | some p =>
              rw [hq] at hm2
              exact hm2
        · have nok : z1 = false := by
            have : ¬ z1 = true := fun x => by
              rcases (hiff.mp x).2 with y | y
              · omega
              · exact c2 y
            simpa using this
          rw [if_neg (by rw [nok]; exact Bool.false_ne_true)]
          obtain ⟨q1, q2, q3⟩ := hb.2.2 p1 c1
          refine ⟨h1, nu1, p1, nI 0, 1, .int (nI 0), ?_, by omega, by have := f1; exact this, hp1, Or.inl rfl, rfl, Or.inr c1⟩
          rw [zl_284_14]
          rcases hv3 with rfl | rfl
          · simp (implicitDefEqProofs := false) (disch := omega) only [zr_284_15, zr_284_18, zr_284_19, zr_284_20, zr_284_23, zr_284_24, zr_284_27, zr_284_28, zr_284_31, zr_284_34, zr_284_35, zr_284_38, zr_284_40, zr_284_43, zr_284_44, zr_284_47, zr_284_48, zr_284_49, zr_284_50, zr_284_51, zr_284_54, zr_284_55, zr_284_58, zr_284_59, zr_284_62, zr_284_63, zr_284_64, zr_284_67, true_or, or_true, true_and, and_true, if_true, if_false, ldA_ref, ldA_null, nl_int, nl_ref, nl_fl, nl_null, c1_int, c1_ref, c1_null, Nat.zero_add, Nat.zero_mul, Nat.one_mul, nI_add, nI_leI, nI_ltI, nI_eq, nI_mul, kd_M, gf_M, e1, rSt_W, rSt_P, hhe, c2, show ¬ (1 : Nat) = 0 from by omega, pf_M12 hm, rSt_wP, Nat.add_zero, c1_ref, c1_int, zcall_some, zpush_some, zpush_none, zsum_ref, zsum_int, zsum_long, zsum_nil, zsum_null, Nat.reduceAdd, Nat.reduceLeDiff, if_true]
            rw [zl_284_14]
            simp (implicitDefEqProofs := false) (disch := omega) only [zr_284_15, zr_284_18, zr_284_19, zr_284_20, zr_284_23, zr_284_24, zr_284_27, zr_284_28, zr_284_31, zr_284_34, zr_284_35, zr_284_38, zr_284_40, zr_284_43, zr_284_44, zr_284_47, zr_284_48, zr_284_49, zr_284_50, zr_284_51, zr_284_54, zr_284_55, zr_284_58, zr_284_59, zr_284_62, zr_284_63, zr_284_64, zr_284_67, true_or, or_true, true_and, and_true, if_true, if_false, ldA_ref, ldA_null, nl_int, nl_ref, nl_fl, nl_null, c1_int, c1_ref, c1_null, Nat.zero_add, Nat.zero_mul, Nat.one_mul, nI_add, nI_leI, nI_ltI, nI_eq, nI_mul]
          · simp (implicitDefEqProofs := false) (disch := omega) only [zr_284_15, zr_284_18, zr_284_19, zr_284_20, zr_284_23, zr_284_24, zr_284_27, zr_284_28, zr_284_31, zr_284_34, zr_284_35, zr_284_38, zr_284_40, zr_284_43, zr_284_44, zr_284_47, zr_284_48, zr_284_49, zr_284_50, zr_284_51, zr_284_54, zr_284_55, zr_284_58, zr_284_59, zr_284_62, zr_284_63, zr_284_64, zr_284_67, true_or, or_true, true_and, and_true, if_true, if_false, ldA_ref, ldA_null, nl_int, nl_ref, nl_fl, nl_null, c1_int, c1_ref, c1_null, Nat.zero_add, Nat.zero_mul, Nat.one_mul, nI_add, nI_leI, nI_ltI, nI_eq, nI_mul, kd_M, gf_M, e1, rSt_W, rSt_P, hhe, c2, show ¬ (1 : Nat) = 0 from by omega, pf_M12 hm, rSt_wP, Nat.add_zero, c1_ref, c1_int, zcall_some, zpush_some, zpush_none, zsum_ref, zsum_int, zsum_long, zsum_nil, zsum_null, Nat.reduceAdd, Nat.reduceLeDiff, if_true]
            rw [zl_284_14]
            simp (implicitDefEqProofs := false) (disch := omega) only [zr_284_15, zr_284_18, zr_284_19, zr_284_20, zr_284_23, zr_284_24, zr_284_27, zr_284_28, zr_284_31, zr_284_34, zr_284_35, zr_284_38, zr_284_40, zr_284_43, zr_284_44, zr_284_47, zr_284_48, zr_284_49, zr_284_50, zr_284_51, zr_284_54, zr_284_55, zr_284_58, zr_284_59, zr_284_62, zr_284_63, zr_284_64, zr_284_67, true_or, or_true, true_and, and_true, if_true, if_false, ldA_ref, ldA_null, nl_int, nl_ref, nl_fl, nl_null, c1_int, c1_ref, c1_null, Nat.zero_add, Nat.zero_mul, Nat.one_mul, nI_add, nI_leI, nI_ltI, nI_eq, nI_mul]
      · rw [if_neg c1] at hhe
        have ok : z1 = true := hiff.mpr ⟨rfl, Or.inl (by omega)⟩
        rw [if_pos ok, if_pos (by omega)]
        refine ⟨h1, nu1, p1, nI 0, 1, .int (nI 0), ?_, by omega, f1, hp1, Or.inl rfl, rfl, by omega, rfl⟩
        rw [zl_284_14]
        rcases hv3 with rfl | rfl
        · simp (implicitDefEqProofs := false) (disch := omega) only [zr_284_15, zr_284_18, zr_284_19, zr_284_20, zr_284_23, zr_284_24, zr_284_27, zr_284_28, zr_284_31, zr_284_34, zr_284_35, zr_284_38, zr_284_40, zr_284_43, zr_284_44, zr_284_47, zr_284_48, zr_284_49, zr_284_50, zr_284_51, zr_284_54, zr_284_55, zr_284_58, zr_284_59, zr_284_62, zr_284_63, zr_284_64, zr_284_67, true_or, or_true, true_and, and_true, if_true, if_false, ldA_ref, ldA_null, nl_int, nl_ref, nl_fl, nl_null, c1_int, c1_ref, c1_null, Nat.zero_add, Nat.zero_mul, Nat.one_mul, nI_add, nI_leI, nI_ltI, nI_eq, nI_mul, kd_M, gf_M, e1, rSt_W, rSt_P, hhe, show ¬ (0 : Nat) = 59 from by omega, show ¬ (1 : Nat) = 0 from by omega, pf_M12 hm, rSt_wP, Nat.add_zero, c1_ref, c1_int, zcall_some, zpush_some, zpush_none, zsum_ref, zsum_int, zsum_long, zsum_nil, zsum_null, Nat.reduceAdd, Nat.reduceLeDiff, if_true]
          rw [zl_284_14]
          simp (implicitDefEqProofs := false) (disch := omega) only [zr_284_15, zr_284_18, zr_284_19, zr_284_20, zr_284_23, zr_284_24, zr_284_27, zr_284_28, zr_284_31, zr_284_34, zr_284_35, zr_284_38, zr_284_40, zr_284_43, zr_284_44, zr_284_47, zr_284_48, zr_284_49, zr_284_50, zr_284_51, zr_284_54, zr_284_55, zr_284_58, zr_284_59, zr_284_62, zr_284_63, zr_284_64, zr_284_67, true_or, or_true, true_and, and_true, if_true, if_false, ldA_ref, ldA_null, nl_int, nl_ref, nl_fl, nl_null, c1_int, c1_ref, c1_null, Nat.zero_add, Nat.zero_mul, Nat.one_mul, nI_add, nI_leI, nI_ltI, nI_eq, nI_mul]
        · simp (implicitDefEqProofs := false) (disch := omega) only [zr_284_15, zr_284_18, zr_284_19, zr_284_20, zr_284_23, zr_284_24, zr_284_27, zr_284_28, zr_284_31, zr_284_34, zr_284_35, zr_284_38, zr_284_40, zr_284_43, zr_284_44, zr_284_47, zr_284_48, zr_284_49, zr_284_50, zr_284_51, zr_284_54, zr_284_55, zr_284_58, zr_284_59, zr_284_62, zr_284_63, zr_284_64, zr_284_67, true_or, or_true, true_and, and_true, if_true, if_false, ldA_ref, ldA_null, nl_int, nl_ref, nl_fl, nl_null, c1_int, c1_ref, c1_null, Nat.zero_add, Nat.zero_mul, Nat.one_mul, nI_add, nI_leI, nI_ltI, nI_eq, nI_mul, kd_M, gf_M, e1, rSt_W, rSt_P, hhe, show ¬ (0 : Nat) = 59 from by omega, show ¬ (1 : Nat) = 0 from by omega, pf_M12 hm, rSt_wP, Nat.add_zero, c1_ref, c1_int, zcall_some, zpush_some, zpush_none, zsum_ref, zsum_int, zsum_long, zsum_nil, zsum_null, Nat.reduceAdd, Nat.reduceLeDiff, if_true]
          rw [zl_284_14]
          simp (implicitDefEqProofs := false) (disch := omega) only [zr_284_15, zr_284_18, zr_284_19, zr_284_20, zr_284_23, zr_284_24, zr_284_27, zr_284_28, zr_284_31, zr_284_34, zr_284_35, zr_284_38, zr_284_40, zr_284_43, zr_284_44, zr_284_47, zr_284_48, zr_284_49, zr_284_50, zr_284_51, zr_284_54, zr_284_55, zr_284_58, zr_284_59, zr_284_62, zr_284_63, zr_284_64, zr_284_67, true_or, or_true, true_and, and_true, if_true, if_false, ldA_ref, ldA_null, nl_int, nl_ref, nl_fl, nl_null, c1_int, c1_ref, c1_null, Nat.zero_add, Nat.zero_mul, Nat.one_mul, nI_add, nI_leI, nI_ltI, nI_eq, nI_mul]
    · subst hw1
      have nok : z1 = false := by
        have : ¬ z1 = true := fun x => absurd (hiff.mp x).1 (by decide)
        simpa using this
      rw [if_neg (by rw [nok]; exact Bool.false_ne_true)]
      refine ⟨h1, nu1, p1, nI 1, 1, .int (nI 0), ?_, by omega, f1, hp1, Or.inr rfl, rfl, Or.inl rfl⟩
      rw [zl_284_14]
      rcases hv3 with rfl | rfl
      · simp (implicitDefEqProofs := false) (disch := omega) only [zr_284_15, zr_284_18, zr_284_19, zr_284_20, zr_284_23, zr_284_24, zr_284_27, zr_284_28, zr_284_31, zr_284_34, zr_284_35, zr_284_38, zr_284_40, zr_284_43, zr_284_44, zr_284_47, zr_284_48, zr_284_49, zr_284_50, zr_284_51, zr_284_54, zr_284_55, zr_284_58, zr_284_59, zr_284_62, zr_284_63, zr_284_64, zr_284_67, true_or, or_true, true_and, and_true, if_true, if_false, ldA_ref, ldA_null, nl_int, nl_ref, nl_fl, nl_null, c1_int, c1_ref, c1_null, Nat.zero_add, Nat.zero_mul, Nat.one_mul, nI_add, nI_leI, nI_ltI, nI_eq, nI_mul, kd_M, gf_M, e1, rSt_W, rSt_P, show ¬ (1 : Nat) = 0 from by omega, pf_M12 hm, rSt_wP, Nat.add_zero, c1_ref, c1_int, zcall_some, zpush_some, zpush_none, zsum_ref, zsum_int, zsum_long, zsum_nil, zsum_null, Nat.reduceAdd, Nat.reduceLeDiff, if_true]
        rw [zl_284_14]
        simp (implicitDefEqProofs := false) (disch := omega) only [zr_284_15, zr_284_18, zr_284_19, zr_284_20, zr_284_23, zr_284_24, zr_284_27, zr_284_28, zr_284_31, zr_284_34, zr_284_35, zr_284_38, zr_284_40, zr_284_43, zr_284_44, zr_284_47, zr_284_48, zr_284_49, zr_284_50, zr_284_51, zr_284_54, zr_284_55, zr_284_58, zr_284_59, zr_284_62, zr_284_63, zr_284_64, zr_284_67, true_or, or_true, true_and, and_true, if_true, if_false, ldA_ref, ldA_null, nl_int, nl_ref, nl_fl, nl_null, c1_int, c1_ref, c1_null, Nat.zero_add, Nat.zero_mul, Nat.one_mul, nI_add, nI_leI, nI_ltI, nI_eq, nI_mul]
      · simp (implicitDefEqProofs := false) (disch := omega) only [zr_284_15, zr_284_18, zr_284_19, zr_284_20, zr_284_23, zr_284_24, zr_284_27, zr_284_28, zr_284_31, zr_284_34, zr_284_35, zr_284_38, zr_284_40, zr_284_43, zr_284_44, zr_284_47, zr_284_48, zr_284_49, zr_284_50, zr_284_51, zr_284_54, zr_284_55, zr_284_58, zr_284_59, zr_284_62, zr_284_63, zr_284_64, zr_284_67, true_or, or_true, true_and, and_true, if_true, if_false, ldA_ref, ldA_null, nl_int, nl_ref, nl_fl, nl_null, c1_int, c1_ref, c1_null, Nat.zero_add, Nat.zero_mul, Nat.one_mul, nI_add, nI_leI, nI_ltI, nI_eq, nI_mul, kd_M, gf_M, e1, rSt_W, rSt_P, show ¬ (1 : Nat) = 0 from by omega, pf_M12 hm, rSt_wP, Nat.add_zero, c1_ref, c1_int, zcall_some, zpush_some, zpush_none, zsum_ref, zsum_int, zsum_long, zsum_nil, zsum_null, Nat.reduceAdd, Nat.reduceLeDiff, if_true]
        rw [zl_284_14]
        simp (implicitDefEqProofs := false) (disch := omega) only [zr_284_15, zr_284_18, zr_284_19, zr_284_20, zr_284_23, zr_284_24, zr_284_27, zr_284_28, zr_284_31, zr_284_34, zr_284_35, zr_284_38, zr_284_40, zr_284_43, zr_284_44, zr_284_47, zr_284_48, zr_284_49, zr_284_50, zr_284_51, zr_284_54, zr_284_55, zr_284_58, zr_284_59, zr_284_62, zr_284_63, zr_284_64, zr_284_67, true_or, or_true, true_and, and_true, if_true, if_false, ldA_ref, ldA_null, nl_int, nl_ref, nl_fl, nl_null, c1_int, c1_ref, c1_null, Nat.zero_add, Nat.zero_mul, Nat.one_mul, nI_add, nI_leI, nI_ltI, nI_eq, nI_mul]
end
