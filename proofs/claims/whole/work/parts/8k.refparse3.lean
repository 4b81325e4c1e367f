/-! THE REFERENCE reads commands: numbers -/
/-- the reader's state: place, wrong, numbers -/
def rSt (r : Rst) (k : Nat) (w : Int32) (nu : Nat → Int32) : Rst := (rS r, rSv r, rPa r, rKp r, rBf r, rWr r, rTx r, nu, rIs r, rPm r, rQ r, rWm r, rLn r, nI k, w)
section
variable {m n : Nat} {r : Rst} {h : zH} {sg : Nat → Nat} {w : Int32} {nu : Nat → Int32}
theorem rSt_b (hb : bufR r sg n) (k : Nat) (w : Int32) (nu : Nat → Int32) : bufR (rSt r k w nu) sg n := hb
theorem rSt_P (k : Nat) : rPl (rSt r k w nu) = nI k := rfl
theorem rSt_N (k : Nat) : rNu (rSt r k w nu) = nu := rfl
theorem rSt_W (k : Nat) : rW (rSt r k w nu) = w := rfl
theorem rSt_wN (k : Nat) (g : Nat → Int32) : wNu (rSt r k w nu) g = rSt r k w g := rfl
theorem rSt_wP (k k2 : Nat) : wPl (rSt r k w nu) (nI k2) = rSt r k2 w nu := rfl
theorem rSt_wW (k : Nat) (w2 : Int32) : wW (rSt r k w nu) w2 = rSt r k w2 nu := rfl
theorem updN (g : Nat → Int32) (k : Nat) (x y : Int32) : upd (upd g k x) k y = upd g k y := by
  funext q
  show (if q = k then y else if q = k then x else g q) = if q = k then y else g q
  by_cases c : q = k
  · rw [if_pos c, if_pos c]
  · rw [if_neg c, if_neg c, if_neg c]
theorem s_rdigL (hm : 100 ≤ m) (hb : bufR r sg n) {i : Nat} (hi : i < 3) (nu : Nat → Int32) : ∀ (f k v : Nat), f ≤ 5 → k ≤ 100 → v < 10 ^ (5 - f) → rn 289 34 [.ref m, .int (nI i), .int (nI (5 - f))] [] (putM m (rSt r k w (upd nu i (nI v))) h) = rn 289 92 [.ref m, .int (nI i), .int (nI (5 - f + ((pDG sg n f k v).1 - k)))] [] (putM m (rSt r (pDG sg n f k v).1 w (upd nu i (nI (pDG sg n f k v).2))) h) := by
  intro f
  induction f with
  | zero =>
    intro k v h1 h2 h3
    rw [pDG, zl_289_34]
    simp (implicitDefEqProofs := false) (disch := omega) only [zr_289_35, zr_289_36, true_or, or_true, true_and, and_true, if_true, if_false, ldA_ref, ldA_null, nl_int, nl_ref, nl_fl, nl_null, c1_int, c1_ref, c1_null, Nat.zero_add, Nat.zero_mul, Nat.one_mul, nI_add, nI_leI, nI_ltI, nI_eq, nI_mul, Nat.sub_self, Nat.add_zero, Nat.sub_zero, Nat.le_refl]
  | succ f ih =>
    intro k v h1 h2 h3
    have hn := hb.2.1
    have hbd := pDG_bd sg n f (k + 1) (v * 10 + sg k - 48)
    have hhe := s_here (m := m) (h := h) (rSt_b hb k w (upd nu i (nI v))) (rSt_P k) (by omega)
    rw [pDG, zl_289_34]
    have hv : v < 10000 := Nat.lt_of_lt_of_le h3 (by
      have : (10 : Nat) ^ (5 - (f + 1)) ≤ 10 ^ 4 := Nat.pow_le_pow_right (by omega) (by omega)
      have e : (10 : Nat) ^ 4 = 10000 := by decide
      omega)
    by_cases c : k < n ∧ 48 ≤ sg k ∧ sg k ≤ 57
    · rw [if_pos c]
      rw [if_pos c.1] at hhe
      have hval : nI (10 * v + sg k) - nI 48 = nI (v * 10 + sg k - 48) := by
        rw [nI_sub (by omega) (by omega)]; congr 1; omega
      have hp : 10 ^ (5 - f) = 10 ^ (5 - (f + 1)) * 10 := by
        rw [← Nat.pow_succ]; congr 1; omega
      have e1 := ih (k + 1) (v * 10 + sg k - 48) (by omega) (by omega) (by rw [hp]; omega)
      rw [show 5 - f + ((pDG sg n f (k + 1) (v * 10 + sg k - 48)).1 - (k + 1)) = 5 - (f + 1) + ((pDG sg n f (k + 1) (v * 10 + sg k - 48)).1 - k) by omega] at e1
      rw [← e1]
      simp (implicitDefEqProofs := false) (disch := omega) only [zr_289_35, zr_289_36, zr_289_39, zr_289_40, zr_289_43, zr_289_45, zr_289_47, zr_289_50, zr_289_53, zr_289_54, zr_289_57, zr_289_58, zr_289_60, zr_289_61, zr_289_64, zr_289_65, zr_289_66, zr_289_67, zr_289_68, zr_289_71, zr_289_72, zr_289_74, zr_289_75, zr_289_76, zr_289_77, zr_289_78, zr_289_81, zr_289_82, zr_289_83, zr_289_86, zr_289_89, true_or, or_true, true_and, and_true, if_true, if_false, ldA_ref, ldA_null, nl_int, nl_ref, nl_fl, nl_null, c1_int, c1_ref, c1_null, Nat.zero_add, Nat.zero_mul, Nat.one_mul, nI_add, nI_leI, nI_ltI, nI_eq, nI_mul, kd_M, gf_M, show ¬ 5 ≤ 5 - (f + 1) from by omega, hhe, s_in, bI_0, show ¬ ¬ (48 ≤ sg k ∧ sg k ≤ 57) from by omega, rSt_N, rSt_P, li_M8 (show i < 3 by omega), upd_self, hval, si_M8 hm (show i < 3 by omega), updN, rSt_wN, pf_M12 hm, rSt_wP, c1_ref, c1_int, show 5 - (f + 1) + 1 = 5 - f from by omega, zcall_some, zpush_some, zpush_none, zsum_ref, zsum_int, zsum_long, zsum_nil, zsum_null, Nat.reduceAdd, Nat.reduceLeDiff, if_true]
      done
    · rw [if_neg c]
      have hin : ¬ (nI 48 ≤ (if k < n then nI (sg k) else nI 0) ∧ (if k < n then nI (sg k) else nI 0) ≤ nI 57) := by
        by_cases d : k < n
        · obtain ⟨-, g2, g3⟩ := hb.2.2 k d
          rw [if_pos d, nI_leI (by omega) (by omega), nI_leI (by omega) (by omega)]
          omega
        · rw [if_neg d, nI_leI (by omega) (by omega)]
          omega
      simp (implicitDefEqProofs := false) (disch := omega) only [zr_289_35, zr_289_36, zr_289_39, zr_289_40, zr_289_43, zr_289_45, zr_289_47, zr_289_50, zr_289_53, zr_289_54, zr_289_57, zr_289_58, zr_289_60, zr_289_61, zr_289_64, zr_289_65, zr_289_66, zr_289_67, zr_289_68, zr_289_71, zr_289_72, zr_289_74, zr_289_75, zr_289_76, zr_289_77, zr_289_78, zr_289_81, zr_289_82, zr_289_83, zr_289_86, zr_289_89, true_or, or_true, true_and, and_true, if_true, if_false, ldA_ref, ldA_null, nl_int, nl_ref, nl_fl, nl_null, c1_int, c1_ref, c1_null, Nat.zero_add, Nat.zero_mul, Nat.one_mul, nI_add, nI_leI, nI_ltI, nI_eq, nI_mul, kd_M, show ¬ 5 ≤ 5 - (f + 1) from by omega, hhe, s_in, bI_0, hin, not_false_eq_true, Nat.sub_self, Nat.add_zero, zcall_some, zpush_some, zpush_none, zsum_ref, zsum_int, zsum_long, zsum_nil, zsum_null, Nat.reduceAdd, Nat.reduceLeDiff, if_true]
      done
theorem s_rreadNum (hm : 100 ≤ m) (hb : bufR r sg n) {i b : Nat} (hi : i < 3) (hb2 : b ≤ 61) : ∃ nu', ev 289 [.ref m, .int (nI i)] (putM m (rSt r b (nI 0) nu) h) = some (none, putM m (rSt r (pNM sg n b).2.1 (if (pNM sg n b).1 = true then nI 0 else nI 1) nu') h) ∧ (∀ q, q ≠ i → nu' q = nu q) ∧ ((pNM sg n b).1 = true → nu' i = nI (pNM sg n b).2.2) := by
  have hn := hb.2.1
  have hhe := s_here (m := m) (h := h) (rSt_b hb b (nI 0) nu) (rSt_P b) (by omega)
  unfold pNM
  by_cases c1 : b < n ∧ sg b = 32
  · rw [if_pos c1]
    rw [if_pos c1.1, c1.2] at hhe
    have hL := s_rdigL (w := nI 0) (h := h) hm hb hi nu 5 (b + 1) 0 (by omega) (by omega) (by decide)
    have hbd := pDG_bd sg n 5 (b + 1) 0
    generalize pDG sg n 5 (b + 1) 0 = z at hL hbd ⊢
    obtain ⟨z1, z2⟩ := z
    dsimp only at hL hbd ⊢
    have a1 : ev 289 [.ref m, .int (nI i)] (putM m (rSt r b (nI 0) nu) h) = rn 289 34 [.ref m, .int (nI i), .int (nI (5 - 5))] [] (putM m (rSt r (b + 1) (nI 0) (upd nu i (nI 0))) h) := by
      simp (implicitDefEqProofs := false) (disch := omega) only [ze_289, zr_289_0, zr_289_1, zr_289_4, zr_289_6, zr_289_9, zr_289_10, zr_289_11, zr_289_14, zr_289_15, zr_289_16, zr_289_17, zr_289_20, zr_289_21, zr_289_22, zr_289_25, zr_289_26, zr_289_27, zr_289_28, zr_289_31, zr_289_32, zr_289_33, true_or, or_true, true_and, and_true, if_true, if_false, ldA_ref, ldA_null, nl_int, nl_ref, nl_fl, nl_null, c1_int, c1_ref, c1_null, Nat.zero_add, Nat.zero_mul, Nat.one_mul, nI_add, nI_leI, nI_ltI, nI_eq, nI_mul, kd_M, gf_M, hhe, rSt_P, pf_M12 hm, rSt_wP, si_M8 hm (show i < 3 by omega), rSt_N, rSt_wN, c1_ref, c1_int, zcall_some, zpush_some, zpush_none, zsum_ref, zsum_int, zsum_long, zsum_nil, zsum_null, Nat.reduceAdd, Nat.reduceLeDiff, if_true]
    rw [a1, hL]
    by_cases c2 : z1 = b + 1
    · subst c2
      rw [if_pos rfl]
      refine ⟨upd nu i (nI z2), ?_, fun q hq => if_neg hq, fun x => absurd x Bool.false_ne_true⟩
      have hp13 : ∀ (β : Type) (f : zH → Option β), zpf (putM m (rSt r (b + 1) (nI 0) (upd nu i (nI z2))) h) m 12 13 (.int (nI 1)) f = f (putM m (rSt r (b + 1) (nI 1) (upd nu i (nI z2))) h) := fun _ f => pf_M13 hm (nI 1) (Or.inr rfl) f
      simp (implicitDefEqProofs := false) (disch := omega) only [zr_289_92, zr_289_93, zr_289_94, zr_289_97, zr_289_98, zr_289_101, zr_289_102, zr_289_105, true_or, or_true, true_and, and_true, if_true, if_false, ldA_ref, ldA_null, nl_int, nl_ref, nl_fl, nl_null, c1_int, c1_ref, c1_null, Nat.zero_add, Nat.zero_mul, Nat.one_mul, nI_add, nI_leI, nI_ltI, nI_eq, nI_mul, Nat.sub_self, hp13]
      rfl
    · rw [if_neg c2]
      refine ⟨upd nu i (nI z2), ?_, fun q hq => if_neg hq, fun _ => if_pos rfl⟩
      have hp13 : ∀ (β : Type) (f : zH → Option β), zpf (putM m (rSt r z1 (nI 0) (upd nu i (nI z2))) h) m 12 13 (.int (nI 0)) f = f (putM m (rSt r z1 (nI 0) (upd nu i (nI z2))) h) := fun _ f => pf_M13 hm (nI 0) (Or.inl rfl) f
      simp (implicitDefEqProofs := false) (disch := omega) only [zr_289_92, zr_289_93, zr_289_94, zr_289_97, zr_289_98, zr_289_101, zr_289_102, zr_289_105, true_or, or_true, true_and, and_true, if_true, if_false, ldA_ref, ldA_null, nl_int, nl_ref, nl_fl, nl_null, c1_int, c1_ref, c1_null, Nat.zero_add, Nat.zero_mul, Nat.one_mul, nI_add, nI_leI, nI_ltI, nI_eq, nI_mul, show ¬ 5 - 5 + (z1 - (b + 1)) = 0 from by omega, show ¬ z1 - (b + 1) = 0 from by omega, Nat.sub_self, hp13]
  · rw [if_neg c1]
    have hne : ((if b < n then nI (sg b) else nI 0) = nI 32) = False := by
      by_cases d : b < n
      · obtain ⟨-, g2, g3⟩ := hb.2.2 b d
        rw [if_pos d, nI_eq (by omega) (by omega)]
        exact eq_false (fun x => c1 ⟨d, x⟩)
      · rw [if_neg d]; exact eq_false (by decide)
    refine ⟨nu, ?_, fun q _ => rfl, fun x => absurd x Bool.false_ne_true⟩
    have hp13 : ∀ (β : Type) (f : zH → Option β), zpf (putM m (rSt r b (nI 0) nu) h) m 12 13 (.int (nI 1)) f = f (putM m (rSt r b (nI 1) nu) h) := fun _ f => pf_M13 hm (nI 1) (Or.inr rfl) f
    simp (implicitDefEqProofs := false) (disch := omega) only [ze_289, zr_289_0, zr_289_1, zr_289_4, zr_289_6, zr_289_9, zr_289_10, zr_289_11, zr_289_14, zr_289_15, zr_289_16, zr_289_17, zr_289_20, zr_289_21, zr_289_22, zr_289_25, zr_289_26, zr_289_27, zr_289_28, zr_289_31, zr_289_32, zr_289_33, zr_289_35, zr_289_36, zr_289_39, zr_289_40, zr_289_43, zr_289_45, zr_289_47, zr_289_50, zr_289_53, zr_289_54, zr_289_57, zr_289_58, zr_289_60, zr_289_61, zr_289_64, zr_289_65, zr_289_66, zr_289_67, zr_289_68, zr_289_71, zr_289_72, zr_289_74, zr_289_75, zr_289_76, zr_289_77, zr_289_78, zr_289_81, zr_289_82, zr_289_83, zr_289_86, zr_289_89, zr_289_92, zr_289_93, zr_289_94, zr_289_97, zr_289_98, zr_289_101, zr_289_102, zr_289_105, true_or, or_true, true_and, and_true, if_true, if_false, ldA_ref, ldA_null, nl_int, nl_ref, nl_fl, nl_null, c1_int, c1_ref, c1_null, kd_M, hhe, hne, hp13, zcall_some, zpush_some, zpush_none, zsum_ref, zsum_int, zsum_long, zsum_nil, zsum_null, Nat.reduceAdd, Nat.reduceLeDiff, if_true]
    rfl
end
