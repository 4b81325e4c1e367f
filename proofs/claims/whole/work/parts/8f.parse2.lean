/-! COMMANDS as text: the class reads numbers -/
theorem fl_neg : ∀ p : Nat, p < 200 → ¬ (nI 0 ≤ (-1 : Int32) - nI p) := by decide +kernel
theorem fl_pos : ∀ p : Nat, p < 200 → (-1 : Int32) - ((-1 : Int32) - nI p) = nI p := by decide +kernel
section
variable {h : zH} {a n : Nat} {T : tyT} {sg : Nat → Nat}
theorem s_failAt (p : Nat) (H : zH) : ev 187 [.int (nI p)] H = some (some (.int (-1 - nI p)), H) := by
  simp (implicitDefEqProofs := false) (disch := omega) only [ze_187, zr_187_0, zr_187_1, zr_187_2, zr_187_3, true_or, or_true, true_and, and_true, if_true, if_false, ldA_ref, ldA_null, nl_int, nl_ref, nl_fl, nl_null, c1_int, c1_ref, c1_null]
theorem s_isFail1 {p : Nat} (hp : p < 200) (H : zH) : ev 189 [.int (-1 - nI p)] H = some (some (.int (nI 1)), H) := by
  simp (implicitDefEqProofs := false) (disch := omega) only [ze_189, zr_189_0, zr_189_1, zr_189_4, zr_189_5, zr_189_8, zr_189_9, true_or, or_true, true_and, and_true, if_true, if_false, ldA_ref, ldA_null, nl_int, nl_ref, nl_fl, nl_null, c1_int, c1_ref, c1_null, fl_neg p hp]
theorem s_isFail0 {p : Nat} (hp : p < 200) (H : zH) : ev 189 [.int (nI p)] H = some (some (.int (nI 0)), H) := by
  simp (implicitDefEqProofs := false) (disch := omega) only [ze_189, zr_189_0, zr_189_1, zr_189_4, zr_189_5, zr_189_8, zr_189_9, true_or, or_true, true_and, and_true, if_true, if_false, ldA_ref, ldA_null, nl_int, nl_ref, nl_fl, nl_null, c1_int, c1_ref, c1_null, Nat.zero_add, Nat.zero_mul, Nat.one_mul, nI_add, nI_leI, nI_ltI, nI_eq, nI_mul, show 0 ≤ p from by omega]
theorem s_failPos {p : Nat} (hp : p < 200) (H : zH) : ev 190 [.int (-1 - nI p)] H = some (some (.int (nI p)), H) := by
  simp (implicitDefEqProofs := false) (disch := omega) only [ze_190, zr_190_0, zr_190_1, zr_190_2, zr_190_3, true_or, or_true, true_and, and_true, if_true, if_false, ldA_ref, ldA_null, nl_int, nl_ref, nl_fl, nl_null, c1_int, c1_ref, c1_null, fl_pos p hp]
theorem pDG_bd (sg : Nat → Nat) (n : Nat) : ∀ f b v, b ≤ (pDG sg n f b v).1 ∧ (pDG sg n f b v).1 ≤ b + f ∧ ((pDG sg n f b v).1 = b ∨ (pDG sg n f b v).1 ≤ n)
  | 0, b, v => ⟨Nat.le_refl _, Nat.le_refl _, Or.inl rfl⟩
  | f + 1, b, v => by
    rw [pDG]
    split
    · rename_i c
      obtain ⟨h1, h2, h3⟩ := pDG_bd sg n f (b + 1) (v * 10 + sg b - 48)
      exact ⟨by omega, by omega, Or.inr (by rcases h3 with h3 | h3 <;> omega)⟩
    · exact ⟨Nat.le_refl _, by dsimp only; omega, Or.inl rfl⟩
theorem s_digsL {H : zH} (hT : isB H a 5 (cT a T)) (hb : bufT T sg n) {fi : Nat} (hfi : fi ≤ 62) (l1 l2 : Value) : ∀ (f k v : Nat), k + f = fi + 5 → v < 10 ^ (5 - f) → f ≤ 5 → rn 188 27 [.ref a, l1, l2, .int (nI fi), .int (nI k), .int (nI v)] [] H = rn 188 72 [.ref a, l1, l2, .int (nI fi), .int (nI (pDG sg n f k v).1), .int (nI (pDG sg n f k v).2)] [] H := by
  intro f
  induction f with
  | zero =>
    intro k v h1 h2 h3
    rw [pDG, zl_188_27]
    simp (implicitDefEqProofs := false) (disch := omega) only [zr_188_29, zr_188_30, zr_188_31, zr_188_32, true_or, or_true, true_and, and_true, if_true, if_false, ldA_ref, ldA_null, nl_int, nl_ref, nl_fl, nl_null, c1_int, c1_ref, c1_null, Nat.zero_add, Nat.zero_mul, Nat.one_mul, nI_add, nI_leI, nI_ltI, nI_eq, nI_mul, show fi + 5 ≤ k from by omega]
  | succ f ih =>
    intro k v h1 h2 h3
    have hn := hb.2.1
    have hs := s_isSign (k := k) (lo := 48) (hi := 57) hT hb (by omega) (by omega) (by omega)
    rw [pDG, zl_188_27]
    have hv : v < 10000 := Nat.lt_of_lt_of_le h2 (by
      have : (10 : Nat) ^ (5 - (f + 1)) ≤ 10 ^ 4 := Nat.pow_le_pow_right (by omega) (by omega)
      have e : (10 : Nat) ^ 4 = 10000 := by decide
      omega)
    by_cases c : k < n ∧ 48 ≤ sg k ∧ sg k ≤ 57
    · rw [if_pos c]
      have hbi : bI (k < n ∧ 48 ≤ sg k ∧ sg k ≤ 57) = nI 1 := if_pos c
      rw [hbi] at hs
      obtain ⟨g1, g2, g3⟩ := hb.2.2 k c.1
      have hval : nI (v * 10 + sg k) - nI 48 = nI (v * 10 + sg k - 48) := nI_sub (by omega) (by omega)
      have hp : 10 ^ (5 - f) = 10 ^ (5 - (f + 1)) * 10 := by
        rw [← Nat.pow_succ]; congr 1; omega
      rw [← ih (k + 1) (v * 10 + sg k - 48) (by omega) (by rw [hp]; omega) (by omega)]
      simp (implicitDefEqProofs := false) (disch := omega) only [zr_188_29, zr_188_30, zr_188_31, zr_188_32, zr_188_35, zr_188_36, zr_188_38, zr_188_40, zr_188_42, zr_188_45, zr_188_48, zr_188_50, zr_188_52, zr_188_53, zr_188_54, zr_188_57, zr_188_59, zr_188_60, zr_188_61, zr_188_63, zr_188_64, zr_188_66, zr_188_69, true_or, or_true, true_and, and_true, if_true, if_false, ldA_ref, ldA_null, nl_int, nl_ref, nl_fl, nl_null, c1_int, c1_ref, c1_null, Nat.zero_add, Nat.zero_mul, Nat.one_mul, nI_add, nI_leI, nI_ltI, nI_eq, nI_mul, rdT_0 (hT), rdT_1 (hT), rdT_2 (hT), rdT_3 (hT), rdT_4 (hT), rdT_5 (hT), rdT_6 (hT), rdT_7 (hT), rdT_8 (hT), rdT_9 (hT), rdT_10 (hT), rdT_11 (hT), rdT_12 (hT), rdT_13 (hT), rdT_14 (hT), show ¬ fi + 5 ≤ k from by omega, hs, show ¬ 1 = 0 from by omega, g1, hval, zcall_some, zpush_some, zpush_none, zsum_ref, zsum_int, zsum_long, zsum_nil, zsum_null, Nat.reduceAdd, Nat.reduceLeDiff, if_true]
    · rw [if_neg c]
      have hbi : bI (k < n ∧ 48 ≤ sg k ∧ sg k ≤ 57) = nI 0 := if_neg c
      rw [hbi] at hs
      simp (implicitDefEqProofs := false) (disch := omega) only [zr_188_29, zr_188_30, zr_188_31, zr_188_32, zr_188_35, zr_188_36, zr_188_38, zr_188_40, zr_188_42, zr_188_45, zr_188_48, zr_188_50, zr_188_52, zr_188_53, zr_188_54, zr_188_57, zr_188_59, zr_188_60, zr_188_61, zr_188_63, zr_188_64, zr_188_66, zr_188_69, true_or, or_true, true_and, and_true, if_true, if_false, ldA_ref, ldA_null, nl_int, nl_ref, nl_fl, nl_null, c1_int, c1_ref, c1_null, Nat.zero_add, Nat.zero_mul, Nat.one_mul, nI_add, nI_leI, nI_ltI, nI_eq, nI_mul, rdT_0 (hT), rdT_1 (hT), rdT_2 (hT), rdT_3 (hT), rdT_4 (hT), rdT_5 (hT), rdT_6 (hT), rdT_7 (hT), rdT_8 (hT), rdT_9 (hT), rdT_10 (hT), rdT_11 (hT), rdT_12 (hT), rdT_13 (hT), rdT_14 (hT), show ¬ fi + 5 ≤ k from by omega, hs, zcall_some, zpush_some, zpush_none, zsum_ref, zsum_int, zsum_long, zsum_nil, zsum_null, Nat.reduceAdd, Nat.reduceLeDiff, if_true]
/-- what reading a number makes of the buffer -/
def tNum (T : tyT) (c i : Nat) (z : Bool × Nat × Nat) : tyT := if z.1 = true then sT_nu T (upd (gT_nu T) (c * 3 + i) (nI z.2.2)) else T
def posI (z : Bool × Nat) : Int32 := if z.1 = true then nI z.2 else -1 - nI z.2
theorem pNM_bd (sg : Nat → Nat) {n b : Nat} (hn : n ≤ 60) : (pNM sg n b).2.1 ≤ b ∨ (pNM sg n b).2.1 ≤ 61 := by
  unfold pNM
  split
  · rename_i c
    have hd := pDG_bd sg n 5 (b + 1) 0
    split
    · dsimp only; omega
    · dsimp only
      rcases hd.2.2 with h | h <;> omega
  · dsimp only; omega
theorem s_readNum (ha : 100 ≤ a) (hb : bufT T sg n) {c i b : Nat} (hc : gT_ct T = nI c) (hc12 : c < 12) (hi : i < 3) (hb2 : b ≤ 61) : ev 188 [.ref a, .int (nI b), .int (nI i)] (blk a 5 (cT a T) h) = some (some (.int (posI ((pNM sg n b).1, (pNM sg n b).2.1))), blk a 5 (cT a (tNum T c i (pNM sg n b))) h) := by
  have hn := hb.2.1
  have hT : isB (blk a 5 (cT a T) h) a 5 (cT a T) := blk_isB
  have hs := s_isSign (k := b) (lo := 32) (hi := 32) hT hb (by omega) (by omega) (by omega)
  have hfa := fun p => s_failAt p (blk a 5 (cT a T) h)
  unfold pNM
  by_cases c1 : b < n ∧ sg b = 32
  · rw [if_pos c1]
    have hbi : bI (b < n ∧ 32 ≤ sg b ∧ sg b ≤ 32) = nI 1 := if_pos (by omega)
    rw [hbi] at hs
    have hL := s_digsL hT hb (fi := b + 1) (by omega) (.int (nI b)) (.int (nI i)) 5 (b + 1) 0 (by omega) (by decide) (by omega)
    have hbd := pDG_bd sg n 5 (b + 1) 0
    generalize pDG sg n 5 (b + 1) 0 = z at hL hbd ⊢
    obtain ⟨z1, z2⟩ := z
    dsimp only at hL hbd ⊢
    have a1 : ev 188 [.ref a, .int (nI b), .int (nI i)] (blk a 5 (cT a T) h) = rn 188 27 [.ref a, .int (nI b), .int (nI i), .int (nI (b + 1)), .int (nI (b + 1)), .int (nI 0)] [] (blk a 5 (cT a T) h) := by
      simp (implicitDefEqProofs := false) (disch := omega) only [ze_188, zr_188_0, zr_188_1, zr_188_2, zr_188_4, zr_188_6, zr_188_9, zr_188_12, zr_188_13, zr_188_16, zr_188_17, zr_188_18, zr_188_19, zr_188_20, zr_188_21, zr_188_22, zr_188_24, zr_188_25, true_or, or_true, true_and, and_true, if_true, if_false, ldA_ref, ldA_null, nl_int, nl_ref, nl_fl, nl_null, c1_int, c1_ref, c1_null, Nat.zero_add, Nat.zero_mul, Nat.one_mul, nI_add, nI_leI, nI_ltI, nI_eq, nI_mul, rdT_0 hT, hs, show ¬ 1 = 0 from by omega, zcall_some, zpush_some, zpush_none, zsum_ref, zsum_int, zsum_long, zsum_nil, zsum_null, Nat.reduceAdd, Nat.reduceLeDiff, if_true]
    rw [a1, hL]
    by_cases c2 : z1 = b + 1
    · rw [if_pos c2]
      subst c2
      simp (implicitDefEqProofs := false) (disch := omega) only [zr_188_72, zr_188_74, zr_188_75, zr_188_78, zr_188_79, zr_188_82, zr_188_83, zr_188_84, zr_188_87, zr_188_88, zr_188_91, zr_188_92, zr_188_93, zr_188_94, zr_188_95, zr_188_97, zr_188_98, zr_188_100, true_or, or_true, true_and, and_true, if_true, if_false, ldA_ref, ldA_null, nl_int, nl_ref, nl_fl, nl_null, c1_int, c1_ref, c1_null, Nat.zero_add, Nat.zero_mul, Nat.one_mul, nI_add, nI_leI, nI_ltI, nI_eq, nI_mul, hfa, zcall_some, zpush_some, zpush_none, zsum_ref, zsum_int, zsum_long, zsum_nil, zsum_null, Nat.reduceAdd, Nat.reduceLeDiff, if_true]
      rfl
    · rw [if_neg c2]
      simp (implicitDefEqProofs := false) (disch := omega) only [zr_188_72, zr_188_74, zr_188_75, zr_188_78, zr_188_79, zr_188_82, zr_188_83, zr_188_84, zr_188_87, zr_188_88, zr_188_91, zr_188_92, zr_188_93, zr_188_94, zr_188_95, zr_188_97, zr_188_98, zr_188_100, true_or, or_true, true_and, and_true, if_true, if_false, ldA_ref, ldA_null, nl_int, nl_ref, nl_fl, nl_null, c1_int, c1_ref, c1_null, Nat.zero_add, Nat.zero_mul, Nat.one_mul, nI_add, nI_leI, nI_ltI, nI_eq, nI_mul, c2, rdT_0 (hT), rdT_1 (hT), rdT_2 (hT), rdT_3 (hT), rdT_4 (hT), rdT_5 (hT), rdT_6 (hT), rdT_7 (hT), rdT_8 (hT), rdT_9 (hT), rdT_10 (hT), rdT_11 (hT), rdT_12 (hT), rdT_13 (hT), rdT_14 (hT), hc, wrT_0 (ha), wrT_1 (ha), wrT_2 (ha), wrT_3 (ha), wrT_4 (ha), wrT_5 (ha)]
      rfl
  · rw [if_neg c1]
    have hbi : bI (b < n ∧ 32 ≤ sg b ∧ sg b ≤ 32) = nI 0 := if_neg (by omega)
    rw [hbi] at hs
    simp (implicitDefEqProofs := false) (disch := omega) only [ze_188, zr_188_0, zr_188_1, zr_188_2, zr_188_4, zr_188_6, zr_188_9, zr_188_12, zr_188_13, zr_188_16, zr_188_17, zr_188_18, zr_188_19, zr_188_20, zr_188_21, zr_188_22, zr_188_24, zr_188_25, zr_188_29, zr_188_30, zr_188_31, zr_188_32, zr_188_35, zr_188_36, zr_188_38, zr_188_40, zr_188_42, zr_188_45, zr_188_48, zr_188_50, zr_188_52, zr_188_53, zr_188_54, zr_188_57, zr_188_59, zr_188_60, zr_188_61, zr_188_63, zr_188_64, zr_188_66, zr_188_69, zr_188_72, zr_188_74, zr_188_75, zr_188_78, zr_188_79, zr_188_82, zr_188_83, zr_188_84, zr_188_87, zr_188_88, zr_188_91, zr_188_92, zr_188_93, zr_188_94, zr_188_95, zr_188_97, zr_188_98, zr_188_100, true_or, or_true, true_and, and_true, if_true, if_false, ldA_ref, ldA_null, nl_int, nl_ref, nl_fl, nl_null, c1_int, c1_ref, c1_null, Nat.zero_add, Nat.zero_mul, Nat.one_mul, nI_add, nI_leI, nI_ltI, nI_eq, nI_mul, rdT_0 hT, hs, hfa, zcall_some, zpush_some, zpush_none, zsum_ref, zsum_int, zsum_long, zsum_nil, zsum_null, Nat.reduceAdd, Nat.reduceLeDiff, if_true]
    rfl
end
