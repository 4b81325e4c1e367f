/-! THE REFERENCE reads commands: whole commands -/
def iw (w : Nat) : Nat := [0, 1, 2, 6, 7, 8, 9, 3, 4, 10, 5, 11].getD w 0
theorem iw_rw : ∀ w, w < 12 → rwL (iw w) = w ∧ iw w < 12 := by decide
theorem rw_iw : ∀ k, k < 12 → iw (rwL k) = k ∧ rwL k < 12 := by decide
theorem iw_many : ∀ w, w < 12 → (if iw w < 6 then 3 else if iw w < 11 then 2 else 0) = nA w := by decide
theorem wL_inj : ∀ a, a < 12 → ∀ b, b < 12 → wL a = wL b → a = b := by decide
section
variable {m n : Nat} {r : Rst} {h : zH} {sg : Nat → Nat} {w : Int32} {nu : Nat → Int32}
theorem spl_inj {s e a b : Nat} (ha : a < 12) (hb : b < 12) (h1 : spl sg s e a = true) (h2 : spl sg s e b = true) : a = b := by
  obtain ⟨a1, a2⟩ := (spl_iff sg s e a).mp h1
  obtain ⟨b1, b2⟩ := (spl_iff sg s e b).mp h2
  refine wL_inj a ha b hb (List.ext_getElem (by omega) fun i hi hi2 => ?_)
  have c1 := a2 i hi
  have c2 := b2 i hi2
  rw [List.getD_eq_getElem?_getD, List.getElem?_eq_getElem hi] at c1
  rw [List.getD_eq_getElem?_getD, List.getElem?_eq_getElem hi2] at c2
  exact c1.symm.trans c2
theorem pWD_at (sg : Nat → Nat) (s e : Nat) : ∀ f k, k + f = 12 → (pWD sg s e f k = 12 ∧ ∀ j, k ≤ j → j < 12 → spl sg s e j = false) ∨ (pWD sg s e f k < 12 ∧ spl sg s e (pWD sg s e f k) = true)
  | 0, k, hk => Or.inl ⟨rfl, fun j h1 h2 => by omega⟩
  | f + 1, k, hk => by
    rw [pWD]
    by_cases c : spl sg s e k = true
    · rw [if_pos c]; exact Or.inr ⟨by omega, c⟩
    · rw [if_neg c]
      rcases pWD_at sg s e f (k + 1) (by omega) with ⟨h1, h2⟩ | h
      · refine Or.inl ⟨h1, fun j h3 h4 => ?_⟩
        by_cases d : j = k
        · subst d; simpa using c
        · exact h2 j (by omega) h4
      · exact Or.inr h
theorem pRW_at (sg : Nat → Nat) (s e : Nat) : ∀ k, k ≤ 12 → (pRW sg s e k = -1 ∧ ∀ j, j < k → spl sg s e (rwL j) = false) ∨ ∃ j, j < k ∧ spl sg s e (rwL j) = true ∧ pRW sg s e k = nI j
  | 0, _ => Or.inl ⟨rfl, fun j h => by omega⟩
  | k + 1, hk => by
    rw [pRW]
    by_cases c : spl sg s e (rwL k) = true
    · rw [if_pos c]; exact Or.inr ⟨k, by omega, c, rfl⟩
    · rw [if_neg c]
      rcases pRW_at sg s e k (by omega) with ⟨h1, h2⟩ | ⟨j, h1, h2, h3⟩
      · refine Or.inl ⟨h1, fun j h3 => ?_⟩
        by_cases d : j = k
        · subst d; simpa using c
        · exact h2 j (by omega)
      · exact Or.inr ⟨j, by omega, h2, h3⟩
theorem pRW_eq (sg : Nat → Nat) (s e : Nat) : pRW sg s e 12 = if pWD sg s e 12 0 = 12 then -1 else nI (iw (pWD sg s e 12 0)) := by
  rcases pWD_at sg s e 12 0 rfl with ⟨h1, h2⟩ | ⟨h1, h2⟩
  · rw [if_pos h1]
    rcases pRW_at sg s e 12 (Nat.le_refl _) with ⟨h3, -⟩ | ⟨j, h3, h4, -⟩
    · exact h3
    · rw [h2 (rwL j) (Nat.zero_le _) (rw_iw j h3).2] at h4
      exact absurd h4 Bool.false_ne_true
  · rw [if_neg (by omega)]
    rcases pRW_at sg s e 12 (Nat.le_refl _) with ⟨-, h4⟩ | ⟨j, h3, h4, h5⟩
    · have := h4 (iw (pWD sg s e 12 0)) (iw_rw _ h1).2
      rw [(iw_rw _ h1).1, h2] at this
      exact absurd this.symm Bool.false_ne_true
    · rw [h5, ← spl_inj (rw_iw j h3).2 h1 h4 h2, (rw_iw j h3).1]
theorem s_rwendL (hm : 100 ≤ m) (hb : bufR r sg n) (pf v : Int32) (v3 v4 v5 : Value) : ∀ (f k : Nat), n ≤ k + f → k ≤ 120 → rn 285 5 [.ref m, .int pf, .int v, v3, v4, v5] [] (putM m (rSt r k w nu) h) = rn 285 32 [.ref m, .int pf, .int v, v3, v4, v5] [] (putM m (rSt r (pWE sg n f k) w nu) h) := by
  intro f
  induction f with
  | zero =>
    intro k h1 h2
    have hhe := s_here (m := m) (h := h) (rSt_b hb k w nu) (rSt_P k) (by omega)
    rw [if_neg (by omega)] at hhe
    rw [pWE, zl_285_5]
    simp (implicitDefEqProofs := false) (disch := omega) only [zr_285_6, zr_285_9, zr_285_11, zr_285_13, zr_285_16, zr_285_19, zr_285_20, zr_285_21, zr_285_24, zr_285_25, zr_285_26, zr_285_29, true_or, or_true, true_and, and_true, if_true, if_false, ldA_ref, ldA_null, nl_int, nl_ref, nl_fl, nl_null, c1_int, c1_ref, c1_null, Nat.zero_add, Nat.zero_mul, Nat.one_mul, nI_add, nI_leI, nI_ltI, nI_eq, nI_mul, kd_M, hhe, s_in, bI_0, false_and, not_false_eq_true, zcall_some, zpush_some, zpush_none, zsum_ref, zsum_int, zsum_long, zsum_nil, zsum_null, Nat.reduceAdd, Nat.reduceLeDiff, if_true]
  | succ f ih =>
    intro k h1 h2
    have hn := hb.2.1
    have hhe := s_here (m := m) (h := h) (rSt_b hb k w nu) (rSt_P k) (by omega)
    rw [pWE, zl_285_5]
    by_cases c : k < n
    · rw [if_pos c] at hhe
      obtain ⟨-, g2, g3⟩ := hb.2.2 k c
      by_cases c2 : 97 ≤ sg k ∧ sg k ≤ 122
      · rw [if_pos ⟨c, c2⟩, ← ih (k + 1) (by omega) (by omega)]
        simp (implicitDefEqProofs := false) (disch := omega) only [zr_285_6, zr_285_9, zr_285_11, zr_285_13, zr_285_16, zr_285_19, zr_285_20, zr_285_21, zr_285_24, zr_285_25, zr_285_26, zr_285_29, true_or, or_true, true_and, and_true, if_true, if_false, ldA_ref, ldA_null, nl_int, nl_ref, nl_fl, nl_null, c1_int, c1_ref, c1_null, Nat.zero_add, Nat.zero_mul, Nat.one_mul, nI_add, nI_leI, nI_ltI, nI_eq, nI_mul, kd_M, gf_M, hhe, s_in, bI_0, show ¬ ¬ (97 ≤ sg k ∧ sg k ≤ 122) from nn c2, rSt_P, pf_M12 hm, rSt_wP, c1_ref, c1_int, zcall_some, zpush_some, zpush_none, zsum_ref, zsum_int, zsum_long, zsum_nil, zsum_null, Nat.reduceAdd, Nat.reduceLeDiff, if_true]
      · rw [if_neg (fun x => c2 x.2)]
        simp (implicitDefEqProofs := false) (disch := omega) only [zr_285_6, zr_285_9, zr_285_11, zr_285_13, zr_285_16, zr_285_19, zr_285_20, zr_285_21, zr_285_24, zr_285_25, zr_285_26, zr_285_29, true_or, or_true, true_and, and_true, if_true, if_false, ldA_ref, ldA_null, nl_int, nl_ref, nl_fl, nl_null, c1_int, c1_ref, c1_null, Nat.zero_add, Nat.zero_mul, Nat.one_mul, nI_add, nI_leI, nI_ltI, nI_eq, nI_mul, kd_M, hhe, s_in, bI_0, c2, not_false_eq_true, zcall_some, zpush_some, zpush_none, zsum_ref, zsum_int, zsum_long, zsum_nil, zsum_null, Nat.reduceAdd, Nat.reduceLeDiff, if_true]
    · rw [if_neg c] at hhe
      rw [if_neg (fun x => c x.1)]
      simp (implicitDefEqProofs := false) (disch := omega) only [zr_285_6, zr_285_9, zr_285_11, zr_285_13, zr_285_16, zr_285_19, zr_285_20, zr_285_21, zr_285_24, zr_285_25, zr_285_26, zr_285_29, true_or, or_true, true_and, and_true, if_true, if_false, ldA_ref, ldA_null, nl_int, nl_ref, nl_fl, nl_null, c1_int, c1_ref, c1_null, Nat.zero_add, Nat.zero_mul, Nat.one_mul, nI_add, nI_leI, nI_ltI, nI_eq, nI_mul, kd_M, hhe, s_in, bI_0, false_and, not_false_eq_true, zcall_some, zpush_some, zpush_none, zsum_ref, zsum_int, zsum_long, zsum_nil, zsum_null, Nat.reduceAdd, Nat.reduceLeDiff, if_true]
theorem s_rnumsL (hm : 100 ≤ m) (hb : bufR r sg n) {pf s wd : Int32} {M : Nat} (hM : M ≤ 3) : ∀ (f i pos : Nat) (nu : Nat → Int32), i + f = M → pos ≤ 61 → ∃ nu' i', rn 285 80 [.ref m, .int pf, .int s, .int wd, .int (nI M), .int (nI i)] [] (putM m (rSt r pos (nI 0) nu) h) = rn 285 106 [.ref m, .int pf, .int s, .int wd, .int (nI M), .int (nI i')] [] (putM m (rSt r (pNS sg n f pos).2.1 (if (pNS sg n f pos).1 = true then nI 0 else nI 1) nu') h) ∧ (∀ q, q < i → nu' q = nu q) ∧ ((pNS sg n f pos).1 = true → ∀ j v, (pNS sg n f pos).2.2[j]? = some v → nu' (i + j) = nI v) := by
  intro f
  induction f with
  | zero =>
    intro i pos nu hi hp
    have hi2 : i = M := by omega
    subst hi2
    refine ⟨nu, i, ?_, fun _ _ => rfl, fun _ j v hv => by cases hv⟩
    rw [pNS, if_pos rfl, zl_285_80]
    simp (implicitDefEqProofs := false) (disch := omega) only [zr_285_82, zr_285_84, zr_285_87, zr_285_88, zr_285_91, zr_285_94, zr_285_95, zr_285_97, zr_285_100, zr_285_103, true_or, or_true, true_and, and_true, if_true, if_false, ldA_ref, ldA_null, nl_int, nl_ref, nl_fl, nl_null, c1_int, c1_ref, c1_null, Nat.zero_add, Nat.zero_mul, Nat.one_mul, nI_add, nI_leI, nI_ltI, nI_eq, nI_mul, Nat.le_refl]
  | succ f ih =>
    intro i pos nu hi hp
    have hn := hb.2.1
    obtain ⟨nu1, e1, k1, k2⟩ := s_rreadNum (h := h) (nu := nu) hm hb (show i < 3 by omega) hp
    have hpb := pNM_bd sg (b := pos) hn
    rw [pNS]
    dsimp only
    generalize pNM sg n pos = z at e1 k2 hpb ⊢
    obtain ⟨z1, z2, z3⟩ := z
    dsimp only at e1 k2 hpb ⊢
    by_cases c1 : z1 = true
    · subst c1
      rw [if_pos rfl] at e1 ⊢
      obtain ⟨nu2, i2, e2, k3, k4⟩ := ih (i + 1) z2 nu1 (by omega) (by omega)
      refine ⟨nu2, i2, ?_, fun q hq => (k3 q (by omega)).trans (k1 q (by omega)), fun hy j v hv => ?_⟩
      · dsimp only
        rw [← e2, zl_285_80]
        simp (implicitDefEqProofs := false) (disch := omega) only [zr_285_82, zr_285_84, zr_285_87, zr_285_88, zr_285_91, zr_285_94, zr_285_95, zr_285_97, zr_285_100, zr_285_103, true_or, or_true, true_and, and_true, if_true, if_false, ldA_ref, ldA_null, nl_int, nl_ref, nl_fl, nl_null, c1_int, c1_ref, c1_null, Nat.zero_add, Nat.zero_mul, Nat.one_mul, nI_add, nI_leI, nI_ltI, nI_eq, nI_mul, kd_M, gf_M, rSt_W, show ¬ M ≤ i from by omega, e1, zcall_some, zpush_some, zpush_none, zsum_ref, zsum_int, zsum_long, zsum_nil, zsum_null, Nat.reduceAdd, Nat.reduceLeDiff, if_true]
      · by_cases hj : j = 0
        · subst hj
          have hv2 : z3 = v := by simpa using hv
          rw [← hv2, Nat.add_zero, k3 i (by omega)]
          exact k2 rfl
        · obtain ⟨j2, rfl⟩ : ∃ j2, j = j2 + 1 := ⟨j - 1, by omega⟩
          have := k4 hy j2 v (by simpa using hv)
          rw [show i + (j2 + 1) = i + 1 + j2 by omega]; exact this
    · have c2 : z1 = false := by simpa using c1
      subst c2
      rw [if_neg Bool.false_ne_true] at e1 ⊢
      refine ⟨nu1, i + 1, ?_, fun q hq => k1 q (by omega), fun hy => absurd hy Bool.false_ne_true⟩
      dsimp only
      rw [if_neg Bool.false_ne_true, zl_285_80]
      simp (implicitDefEqProofs := false) (disch := omega) only [zr_285_82, zr_285_84, zr_285_87, zr_285_88, zr_285_91, zr_285_94, zr_285_95, zr_285_97, zr_285_100, zr_285_103, true_or, or_true, true_and, and_true, if_true, if_false, ldA_ref, ldA_null, nl_int, nl_ref, nl_fl, nl_null, c1_int, c1_ref, c1_null, Nat.zero_add, Nat.zero_mul, Nat.one_mul, nI_add, nI_leI, nI_ltI, nI_eq, nI_mul, kd_M, gf_M, rSt_W, show ¬ M ≤ i from by omega, e1, zcall_some, zpush_some, zpush_none, zsum_ref, zsum_int, zsum_long, zsum_nil, zsum_null, Nat.reduceAdd, Nat.reduceLeDiff, if_true]
      rw [zl_285_80]
      by_cases d : M ≤ i + 1
      · simp (implicitDefEqProofs := false) (disch := omega) only [zr_285_82, zr_285_84, zr_285_87, zr_285_88, zr_285_91, zr_285_94, zr_285_95, zr_285_97, zr_285_100, zr_285_103, true_or, or_true, true_and, and_true, if_true, if_false, ldA_ref, ldA_null, nl_int, nl_ref, nl_fl, nl_null, c1_int, c1_ref, c1_null, Nat.zero_add, Nat.zero_mul, Nat.one_mul, nI_add, nI_leI, nI_ltI, nI_eq, nI_mul, d]
      · simp (implicitDefEqProofs := false) (disch := omega) only [zr_285_82, zr_285_84, zr_285_87, zr_285_88, zr_285_91, zr_285_94, zr_285_95, zr_285_97, zr_285_100, zr_285_103, true_or, or_true, true_and, and_true, if_true, if_false, ldA_ref, ldA_null, nl_int, nl_ref, nl_fl, nl_null, c1_int, c1_ref, c1_null, Nat.zero_add, Nat.zero_mul, Nat.one_mul, nI_add, nI_leI, nI_ltI, nI_eq, nI_mul, gf_M, rSt_W, d, show ¬ (1 : Nat) = 0 from by omega]
end
