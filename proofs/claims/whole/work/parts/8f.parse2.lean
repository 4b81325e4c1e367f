/-! COMMANDS as text: the class reads numbers -/
theorem fl_neg : ∀ p : Nat, p < 200 → ¬ (nI 0 ≤ (-1 : Int32) - nI p) := by decide +kernel
theorem fl_pos : ∀ p : Nat, p < 200 → (-1 : Int32) - ((-1 : Int32) - nI p) = nI p := by decide +kernel
section
variable {h : zH} {a n : Nat} {T : tyT} {sg : Nat → Nat}
theorem s_failAt (p : Nat) (H : zH) : ev 193 [.int (nI p)] H = some (some (.int (-1 - nI p)), H) := by
  simp (implicitDefEqProofs := false) (disch := omega) only [ze_193, zr_193_0, zr_193_1, zr_193_2, zr_193_3, true_or, or_true, true_and, and_true, if_true, if_false, ldA_ref, ldA_null, nl_int, nl_ref, nl_fl, nl_null, c1_int, c1_ref, c1_null]
theorem s_isFail1 {p : Nat} (hp : p < 200) (H : zH) : ev 195 [.int (-1 - nI p)] H = some (some (.int (nI 1)), H) := by
  simp (implicitDefEqProofs := false) (disch := omega) only [ze_195, zr_195_0, zr_195_1, zr_195_4, zr_195_5, zr_195_8, zr_195_9, true_or, or_true, true_and, and_true, if_true, if_false, ldA_ref, ldA_null, nl_int, nl_ref, nl_fl, nl_null, c1_int, c1_ref, c1_null, fl_neg p hp]
theorem s_isFail0 {p : Nat} (hp : p < 200) (H : zH) : ev 195 [.int (nI p)] H = some (some (.int (nI 0)), H) := by
  simp (implicitDefEqProofs := false) (disch := omega) only [ze_195, zr_195_0, zr_195_1, zr_195_4, zr_195_5, zr_195_8, zr_195_9, true_or, or_true, true_and, and_true, if_true, if_false, ldA_ref, ldA_null, nl_int, nl_ref, nl_fl, nl_null, c1_int, c1_ref, c1_null, Nat.zero_add, Nat.zero_mul, Nat.one_mul, nI_add, nI_leI, nI_ltI, nI_eq, nI_mul, show 0 ≤ p from by omega]
theorem s_failPos {p : Nat} (hp : p < 200) (H : zH) : ev 196 [.int (-1 - nI p)] H = some (some (.int (nI p)), H) := by
  simp (implicitDefEqProofs := false) (disch := omega) only [ze_196, zr_196_0, zr_196_1, zr_196_2, zr_196_3, true_or, or_true, true_and, and_true, if_true, if_false, ldA_ref, ldA_null, nl_int, nl_ref, nl_fl, nl_null, c1_int, c1_ref, c1_null, fl_pos p hp]
theorem pDG_bd (sg : Nat → Nat) (n : Nat) : ∀ f b v, b ≤ (pDG sg n f b v).1 ∧ (pDG sg n f b v).1 ≤ b + f ∧ ((pDG sg n f b v).1 = b ∨ (pDG sg n f b v).1 ≤ n)
  | 0, b, v => ⟨Nat.le_refl _, Nat.le_refl _, Or.inl rfl⟩
  | f + 1, b, v => by
    rw [pDG]
    split
    · rename_i c
      obtain ⟨h1, h2, h3⟩ := pDG_bd sg n f (b + 1) (v * 10 + sg b - 48)
      exact ⟨by omega, by omega, Or.inr (by rcases h3 with h3 | h3 <;> omega)⟩
    · exact ⟨Nat.le_refl _, by dsimp only; omega, Or.inl rfl⟩
theorem s_digsL {H : zH} (hT : isB H a 5 (cT a T)) (hb : bufT T sg n) {fi : Nat} (hfi : fi ≤ 62) (l1 l2 : Value) : ∀ (f k v : Nat), k + f = fi + 5 → v < 10 ^ (5 - f) → f ≤ 5 → rn 194 27 [.ref a, l1, l2, .int (nI fi), .int (nI k), .int (nI v)] [] H = rn 194 72 [.ref a, l1, l2, .int (nI fi), .int (nI (pDG sg n f k v).1), .int (nI (pDG sg n f k v).2)] [] H := by
  intro f
  induction f with
  | zero =>
    intro k v h1 h2 h3
    rw [pDG, zl_194_27]
    simp (implicitDefEqProofs := false) (disch := omega) only [zr_194_29, zr_194_30, zr_194_31, zr_194_32, true_or, or_true, true_and, and_true, if_true, if_false, ldA_ref, ldA_null, nl_int, nl_ref, nl_fl, nl_null, c1_int, c1_ref, c1_null, Nat.zero_add, Nat.zero_mul, Nat.one_mul, nI_add, nI_leI, nI_ltI, nI_eq, nI_mul, show fi + 5 ≤ k from by omega]
  | succ f ih =>
    intro k v h1 h2 h3
    have hn := hb.2.1
    have hs := s_isSign (k := k) (lo := 48) (hi := 57) hT hb (by omega) (by omega) (by omega)
    rw [pDG, zl_194_27]
    have hv : v < 10000 := Nat.lt_of_lt_of_le h2 (by
      have : (10 : Nat) ^ (5 - (f + 1)) ≤ 10 ^ 4 := Nat.pow_le_pow_right (by omega) (by omega)
      have e : (10 : Nat) ^ 4 = 10000 := by decide
      omega)
    by_cases c : k < n ∧ 48 ≤ sg k ∧ sg k ≤ 57
    · rw [if_pos c]
      have hbi : bI (k < n ∧ 48 ≤ sg k ∧ sg k ≤ 57) = nI 1 := if_pos c
      rw [hbi] at hs
      obtain ⟨g1, g2, g3⟩ := hb.2.2 k c.1
      have hval : nI (v * 10 + sg k) - nI 48 = nI (v * 10 + sg k - 48) := nI_sub (by omega) (by omega)
      have hp : 10 ^ (5 - f) = 10 ^ (5 - (f + 1)) * 10 := by
        rw [← Nat.pow_succ]; congr 1; omega
      rw [← ih (k + 1) (v * 10 + sg k - 48) (by omega) (by rw [hp]; omega) (by omega)]
      simp (implicitDefEqProofs := false) (disch := omega) only [zr_194_29, zr_194_30, zr_194_31, zr_194_32, zr_194_35, zr_194_36, zr_194_38, zr_194_40, zr_194_42, zr_194_45, zr_194_48, zr_194_50, zr_194_52, zr_194_53, zr_194_54, zr_194_57, zr_194_59, zr_194_60, zr_194_61, zr_194_63, zr_194_64, zr_194_66, zr_194_69, true_or, or_true, true_and, and_true, if_true, if_false, ldA_ref, ldA_null, nl_int, nl_ref, nl_fl, nl_null, c1_int, c1_ref, c1_null, Nat.zero_add, Nat.zero_mul, Nat.one_mul, nI_add, nI_leI, nI_ltI, nI_eq, nI_mul, rdT_0 (hT), rdT_1 (hT), rdT_2 (hT), rdT_3 (hT), rdT_4 (hT), rdT_5 (hT), rdT_6 (hT), rdT_7 (hT), rdT_8 (hT), rdT_9 (hT), rdT_10 (hT), rdT_11 (hT), rdT_12 (hT), rdT_13 (hT), rdT_14 (hT), show ¬ fi + 5 ≤ k from by omega, hs, show ¬ 1 = 0 from by omega, g1, hval, zcall_some, zpush_some, zpush_none, zsum_ref, zsum_int, zsum_long, zsum_nil, zsum_null, Nat.reduceAdd, Nat.reduceLeDiff, if_true]
    · rw [if_neg c]
      have hbi : bI (k < n ∧ 48 ≤ sg k ∧ sg k ≤ 57) = nI 0 := if_neg c
      rw [hbi] at hs
      simp (implicitDefEqProofs := false) (disch := omega) only [zr_194_29, zr_194_30, zr_194_31, zr_194_32, zr_194_35, zr_194_36, zr_194_38, zr_194_40, zr_194_42, zr_194_45, zr_194_48, zr_194_50, zr_194_52, zr_194_53, zr_194_54, zr_194_57, zr_194_59, zr_194_60, zr_194_61, zr_194_63, zr_194_64, zr_194_66, zr_194_69, true_or, or_true, true_and, and_true, if_true, if_false, ldA_ref, ldA_null, nl_int, nl_ref, nl_fl, nl_null, c1_int, c1_ref, c1_null, Nat.zero_add, Nat.zero_mul, Nat.one_mul, nI_add, nI_leI, nI_ltI, nI_eq, nI_mul, rdT_0 (hT), rdT_1 (hT), rdT_2 (hT), rdT_3 (hT), rdT_4 (hT), rdT_5 (hT), rdT_6 (hT), rdT_7 (hT), rdT_8 (hT), rdT_9 (hT), rdT_10 (hT), rdT_11 (hT), rdT_12 (hT), rdT_13 (hT), rdT_14 (hT), show ¬ fi + 5 ≤ k from by omega, hs, zcall_some, zpush_some, zpush_none, zsum_ref, zsum_int, zsum_long, zsum_nil, zsum_null, Nat.reduceAdd, Nat.reduceLeDiff, if_true]
/-- what reading a number makes of the buffer -/
def tNum (T : tyT) (c i : Nat) (z : Bool × Nat × Nat) : tyT := if z.1 = true then sT_nu T (upd (gT_nu T) (c * 3 + i) (nI z.2.2)) else T
def posI (z : Bool × Nat) : Int32 := if z.1 = true then nI z.2 else -1 - nI z.2
theorem pNM_bd (sg : Nat → Nat) {n b : Nat} (hn : n ≤ 60) : (pNM sg n b).2.1 ≤ b ∨ (pNM sg n b).2.1 ≤ 61 := by
  unfold pNM
  split
  · rename_i c
    have hd := pDG_bd sg n 5 (b + 1) 0
    split
    · dsimp only; omega
    · dsimp only
      rcases hd.2.2 with h | h <;> omega
  · dsimp only; omega
theorem s_readNum (ha : 100 ≤ a) (hb : bufT T sg n) {c i b : Nat} (hc : gT_ct T = nI c) (hc12 : c < 12) (hi : i < 3) (hb2 : b ≤ 61) : ev 194 [.ref a, .int (nI b), .int (nI i)] (blk a 5 (cT a T) h) = some (some (.int (posI ((pNM sg n b).1, (pNM sg n b).2.1))), blk a 5 (cT a (tNum T c i (pNM sg n b))) h) := by
  have hn := hb.2.1
  have hT : isB (blk a 5 (cT a T) h) a 5 (cT a T) := blk_isB
  have hs := s_isSign (k := b) (lo := 32) (hi := 32) hT hb (by omega) (by omega) (by omega)
  have hfa := fun p => s_failAt p (blk a 5 (cT a T) h)
  unfold pNM
  by_cases c1 : b < n ∧ sg b = 32
  · rw [if_pos c1]
    have hbi : bI (b < n ∧ 32 ≤ sg b ∧ sg b ≤ 32) = nI 1 := if_pos (by omega)
    rw [hbi] at hs
    have hL := s_digsL hT hb (fi := b + 1) (by omega) (.int (nI b)) (.int (nI i)) 5 (b + 1) 0 (by omega) (by decide) (by omega)
    have hbd := pDG_bd sg n 5 (b + 1) 0
    generalize pDG sg n 5 (b + 1) 0 = z at hL hbd ⊢
    obtain ⟨z1, z2⟩ := z
    dsimp only at hL hbd ⊢
    have a1 : ev 194 [.ref a, .int (nI b), .int (nI i)] (blk a 5 (cT a T) h) = rn 194 27 [.ref a, .int (nI b), .int (nI i), .int (nI (b + 1)), .int (nI (b + 1)), .int (nI 0)] [] (blk a 5 (cT a T) h) := by
      simp (implicitDefEqProofs := false) (disch := omega) only [ze_194, zr_194_0, zr_194_1, zr_194_2, zr_194_4, zr_194_6, zr_194_9, zr_194_12, zr_194_13, zr_194_16, zr_194_17, zr_194_18, zr_194_19, zr_194_20, zr_194_21, zr_194_22, zr_194_24, zr_194_25, true_or, or_true, true_and, and_true, if_true, if_false, ldA_ref, ldA_null, nl_int, nl_ref, nl_fl, nl_null, c1_int, c1_ref, c1_null, Nat.zero_add, Nat.zero_mul, Nat.one_mul, nI_add, nI_leI, nI_ltI, nI_eq, nI_mul, rdT_0 hT, hs, show ¬ 1 = 0 from by omega, zcall_some, zpush_some, zpush_none, zsum_ref, zsum_int, zsum_long, zsum_nil, zsum_null, Nat.reduceAdd, Nat.reduceLeDiff, if_true]
    rw [a1, hL]
    by_cases c2 : z1 = b + 1
    · rw [if_pos c2]
      subst c2
      simp (implicitDefEqProofs := false) (disch := omega) only [zr_194_72, zr_194_74, zr_194_75, zr_194_78, zr_194_79, zr_194_82, zr_194_83, zr_194_84, zr_194_87, zr_194_88, zr_194_91, zr_194_92, zr_194_93, zr_194_94, zr_194_95, zr_194_97, zr_194_98, zr_194_100, true_or, or_true, true_and, and_true, if_true, if_false, ldA_ref, ldA_null, nl_int, nl_ref, nl_fl, nl_null, c1_int, c1_ref, c1_null, Nat.zero_add, Nat.zero_mul, Nat.one_mul, nI_add, nI_leI, nI_ltI, nI_eq, nI_mul, hfa, zcall_some, zpush_some, zpush_none, zsum_ref, zsum_int, zsum_long, zsum_nil, zsum_null, Nat.reduceAdd, Nat.reduceLeDiff, if_true]
      rfl
    · rw [if_neg c2]
      simp (implicitDefEqProofs := false) (disch := omega) only [zr_194_72, zr_194_74, zr_194_75, zr_194_78, zr_194_79, zr_194_82, zr_194_83, zr_194_84, zr_194_87, zr_194_88, zr_194_91, zr_194_92, zr_194_93, zr_194_94, zr_194_95, zr_194_97, zr_194_98, zr_194_100, true_or, or_true, true_and, and_true, if_true, if_false, ldA_ref, ldA_null, nl_int, nl_ref, nl_fl, nl_null, c1_int, c1_ref, c1_null, Nat.zero_add, Nat.zero_mul, Nat.one_mul, nI_add, nI_leI, nI_ltI, nI_eq, nI_mul, c2, rdT_0 (hT), rdT_1 (hT), rdT_2 (hT), rdT_3 (hT), rdT_4 (hT), rdT_5 (hT), rdT_6 (hT), rdT_7 (hT), rdT_8 (hT), rdT_9 (hT), rdT_10 (hT), rdT_11 (hT), rdT_12 (hT), rdT_13 (hT), rdT_14 (hT), hc, wrT_0 (ha), wrT_1 (ha), wrT_2 (ha), wrT_3 (ha), wrT_4 (ha), wrT_5 (ha)]
      rfl
  · rw [if_neg c1]
    have hbi : bI (b < n ∧ 32 ≤ sg b ∧ sg b ≤ 32) = nI 0 := if_neg (by omega)
    rw [hbi] at hs
    simp (implicitDefEqProofs := false) (disch := omega) only [ze_194, zr_194_0, zr_194_1, zr_194_2, zr_194_4, zr_194_6, zr_194_9, zr_194_12, zr_194_13, zr_194_16, zr_194_17, zr_194_18, zr_194_19, zr_194_20, zr_194_21, zr_194_22, zr_194_24, zr_194_25, zr_194_29, zr_194_30, zr_194_31, zr_194_32, zr_194_35, zr_194_36, zr_194_38, zr_194_40, zr_194_42, zr_194_45, zr_194_48, zr_194_50, zr_194_52, zr_194_53, zr_194_54, zr_194_57, zr_194_59, zr_194_60, zr_194_61, zr_194_63, zr_194_64, zr_194_66, zr_194_69, zr_194_72, zr_194_74, zr_194_75, zr_194_78, zr_194_79, zr_194_82, zr_194_83, zr_194_84, zr_194_87, zr_194_88, zr_194_91, zr_194_92, zr_194_93, zr_194_94, zr_194_95, zr_194_97, zr_194_98, zr_194_100, true_or, or_true, true_and, and_true, if_true, if_false, ldA_ref, ldA_null, nl_int, nl_ref, nl_fl, nl_null, c1_int, c1_ref, c1_null, Nat.zero_add, Nat.zero_mul, Nat.one_mul, nI_add, nI_leI, nI_ltI, nI_eq, nI_mul, rdT_0 hT, hs, hfa, zcall_some, zpush_some, zpush_none, zsum_ref, zsum_int, zsum_long, zsum_nil, zsum_null, Nat.reduceAdd, Nat.reduceLeDiff, if_true]
    rfl
end
