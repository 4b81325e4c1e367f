/-! THE REFERENCE'S TEXT: numbers and lines -/
section
variable {m : Nat} {r : Rst} {h : zH} {t : List Nat} {g : Nat → Int32} {x : Int64}
theorem p10 {k : Nat} (hk : k ≤ 18) : 0 < 10 ^ k ∧ 10 ^ k ≤ 1000000000000000000 := ⟨Nat.pow_pos (by omega), by
  have := Nat.pow_le_pow_right (n := 10) (by omega) hk
  have e : (10 : Nat) ^ 18 = 1000000000000000000 := by decide
  omega⟩
theorem J_divN {a b : Nat} (ha : a < 2 ^ 63) (hb : 0 < b) (hb2 : b < 2 ^ 63) : J a / J b = J ((a / b : Nat) : Int) := by
  rw [J_div (by omega) (by omega) (by omega) (by omega)]
  congr 1
theorem le9 {a : Nat} (ha : a < 2 ^ 63) : (J (a : Int) ≤ 9) = (a ≤ 9) := by
  rw [show (9 : Int64) = J 9 from rfl, J_le (by omega) (by omega) (by omega) (by omega)]
  apply propext; omega
theorem s_rbyL {L : Nat} {x : Int64} (hL : L < 2 ^ 63) : ∀ (j k : Nat), k + j = 18 → (k = 0 ∨ 10 ^ k ≤ L) → ∃ k2, k2 ≤ 18 ∧ (k2 = 0 ∨ 10 ^ k2 ≤ L) ∧ L < 10 ^ (k2 + 1) ∧ ∀ h : zH, rn 263 34 [.ref m, .long x, .float 0, .long (J L), .float 0, .long (J ((10 ^ k : Nat) : Int)), .float 0] [] h = rn 263 56 [.ref m, .long x, .float 0, .long (J L), .float 0, .long (J ((10 ^ k2 : Nat) : Int)), .float 0] [] h := by
  intro j
  induction j with
  | zero =>
    intro k hk h0
    have hk2 : k = 18 := by omega
    subst hk2
    have e18 : (10 : Nat) ^ 18 = 1000000000000000000 := by decide
    have e19 : (10 : Nat) ^ (18 + 1) = 10000000000000000000 := by decide
    refine ⟨18, by omega, h0, by omega, fun h => ?_⟩
    have hle : (J ((L / 10 ^ 18 : Nat) : Int) ≤ 9) = True := by
      rw [show (9 : Int64) = J 9 from rfl, J_le (by omega) (by omega) (by omega) (by omega)]
      simp; omega
    rw [zl_263_34]
    simp (implicitDefEqProofs := false) (disch := omega) only [zr_263_35, zr_263_37, zr_263_38, zr_263_41, zr_263_42, zr_263_45, zr_263_47, zr_263_50, zr_263_51, zr_263_53, true_or, or_true, true_and, and_true, if_true, if_false, ldA_ref, ldA_null, nl_int, nl_ref, nl_fl, nl_null, c1_int, c1_ref, c1_null, cmp_lt, cmp_gt, cmp_le, cmp_ge, cmp_eq, dvJ_J (show (0 : Int) < ((10 ^ 18 : Nat) : Int) by omega) (show ((10 ^ 18 : Nat) : Int) < 2 ^ 63 by omega), J_divN hL (show 0 < 10 ^ 18 by omega) (show 10 ^ 18 < 2 ^ 63 by omega), hle]
  | succ j ih =>
    intro k hk h0
    have hp := p10 (show k ≤ 18 by omega)
    have hp2 := p10 (show k + 1 ≤ 18 by omega)
    have e1 : 10 ^ (k + 1) = 10 ^ k * 10 := Nat.pow_succ 10 k
    have hq : L / 10 ^ k < 2 ^ 63 := Nat.lt_of_le_of_lt (Nat.div_le_self _ _) hL
    by_cases c : L / 10 ^ k ≤ 9
    · refine ⟨k, by omega, h0, ?_, fun h => ?_⟩
      · rw [e1]
        have := Nat.lt_mul_of_div_lt (show L / 10 ^ k < 10 by omega) hp.1
        rw [Nat.mul_comm] at this
        omega
      · have hle : (J ((L / 10 ^ k : Nat) : Int) ≤ 9) = True := by rw [le9 hq]; exact eq_true c
        rw [zl_263_34]
        simp (implicitDefEqProofs := false) (disch := omega) only [zr_263_35, zr_263_37, zr_263_38, zr_263_41, zr_263_42, zr_263_45, zr_263_47, zr_263_50, zr_263_51, zr_263_53, true_or, or_true, true_and, and_true, if_true, if_false, ldA_ref, ldA_null, nl_int, nl_ref, nl_fl, nl_null, c1_int, c1_ref, c1_null, cmp_lt, cmp_gt, cmp_le, cmp_ge, cmp_eq, dvJ_J (show (0 : Int) < ((10 ^ k : Nat) : Int) by omega) (show ((10 ^ k : Nat) : Int) < 2 ^ 63 by omega), J_divN hL hp.1 (show 10 ^ k < 2 ^ 63 by omega), hle]
    · have hge : 10 ^ (k + 1) ≤ L := by
        have := Nat.div_mul_le_self L (10 ^ k)
        have h10 : 10 * 10 ^ k ≤ L / 10 ^ k * 10 ^ k := Nat.mul_le_mul_right _ (by omega)
        rw [e1]; omega
      obtain ⟨k2, a1, a2, a3, a4⟩ := ih (k + 1) (by omega) (Or.inr hge)
      refine ⟨k2, a1, a2, a3, fun h => ?_⟩
      rw [← a4 h]
      have hle : (J ((L / 10 ^ k : Nat) : Int) ≤ 9) = False := by rw [le9 hq]; exact eq_false c
      have hmul : J ((10 ^ k : Nat) : Int) * 10 = J ((10 ^ (k + 1) : Nat) : Int) := by
        rw [show (10 : Int64) = J 10 from rfl, J_mul]
        rw [e1]; rfl
      rw [zl_263_34]
      simp (implicitDefEqProofs := false) (disch := omega) only [zr_263_35, zr_263_37, zr_263_38, zr_263_41, zr_263_42, zr_263_45, zr_263_47, zr_263_50, zr_263_51, zr_263_53, true_or, or_true, true_and, and_true, if_true, if_false, ldA_ref, ldA_null, nl_int, nl_ref, nl_fl, nl_null, c1_int, c1_ref, c1_null, cmp_lt, cmp_gt, cmp_le, cmp_ge, cmp_eq, dvJ_J (show (0 : Int) < ((10 ^ k : Nat) : Int) by omega) (show ((10 ^ k : Nat) : Int) < 2 ^ 63 by omega), J_divN hL hp.1 (show 10 ^ k < 2 ^ 63 by omega), hle, hmul]
theorem emF_dig (L : Nat) : ∀ k, ∀ c ∈ emF L k, c < 128
  | 0, c, h => by have := List.mem_singleton.mp h; omega
  | k + 1, c, h => by
    rw [emF] at h
    rcases List.mem_cons.mp h with h | h
    · omega
    · exact emF_dig L k c h
theorem emF_len (L : Nat) : ∀ k, (emF L k).length = k + 1
  | 0 => rfl
  | k + 1 => by rw [emF, List.length_cons, emF_len L k]
theorem s_remit {L : Nat} {x : Int64} (hm : 100 ≤ m) (hL : L < 2 ^ 63) : ∀ (k : Nat) (t : List Nat) (g : Nat → Int32), k ≤ 18 → okW g t → t.length + k + 1 ≤ 2160 → ∃ g', rn 263 56 [.ref m, .long x, .float 0, .long (J L), .float 0, .long (J ((10 ^ k : Nat) : Int)), .float 0] [] (putM m (wTxt r g t.length) h) = some (none, putM m (wTxt r g' (t ++ emF L k).length) h) ∧ okW g' (t ++ emF L k) := by
  have dig : ∀ a : Nat, a < 2 ^ 63 → ((48 : Int64) + (J a - J a / 10 * 10)).toInt32 = nI (48 + a % 10) := fun a ha => dig64 ha
  intro k
  induction k with
  | zero =>
    intro t g hk hw hl
    obtain ⟨g1, e1, w1⟩ := s_rwrite (r := r) (h := h) (c := 48 + L % 10) hm hw (by omega) (by omega)
    refine ⟨g1, ?_, w1⟩
    have hdd : L / 10 ^ 0 = L := by simp
    have hz : ((J ((10 ^ 0 : Nat) : Int)) ≤ 0) = False := by
      rw [J_0, J_le (by omega) (by omega) (by omega) (by omega)]; simp
    have hd0 : J ((10 ^ 0 : Nat) : Int) / 10 = 0 := by decide
    have hz2 : ((0 : Int64) ≤ 0) = True := by simp
    rw [zl_263_56]
    simp (implicitDefEqProofs := false) (disch := omega) only [zr_263_58, zr_263_59, zr_263_60, zr_263_63, zr_263_64, zr_263_67, zr_263_68, zr_263_70, zr_263_71, zr_263_74, zr_263_75, zr_263_76, zr_263_77, zr_263_78, zr_263_81, zr_263_83, zr_263_86, zr_263_87, zr_263_89, true_or, or_true, true_and, and_true, if_true, if_false, ldA_ref, ldA_null, nl_int, nl_ref, nl_fl, nl_null, c1_int, c1_ref, c1_null, cmp_lt, cmp_gt, cmp_le, cmp_ge, cmp_eq, kd_M, dvJ_10, hz, dvJ_J (show (0 : Int) < ((10 ^ 0 : Nat) : Int) by decide) (show ((10 ^ 0 : Nat) : Int) < 2 ^ 63 by decide), J_divN hL (show 0 < 10 ^ 0 by decide) (show 10 ^ 0 < 2 ^ 63 by decide), hdd, dig L hL, narC9 (48 + L % 10) (by omega), e1, hd0, zcall_some, zpush_some, zpush_none, zsum_ref, zsum_int, zsum_long, zsum_nil, zsum_null, Nat.reduceAdd, Nat.reduceLeDiff, if_true]
    rw [zl_263_56]
    simp (implicitDefEqProofs := false) (disch := omega) only [zr_263_58, zr_263_59, zr_263_60, zr_263_63, zr_263_64, zr_263_67, zr_263_68, zr_263_70, zr_263_71, zr_263_74, zr_263_75, zr_263_76, zr_263_77, zr_263_78, zr_263_81, zr_263_83, zr_263_86, zr_263_87, zr_263_89, zr_263_92, true_or, or_true, true_and, and_true, if_true, if_false, ldA_ref, ldA_null, nl_int, nl_ref, nl_fl, nl_null, c1_int, c1_ref, c1_null, cmp_lt, cmp_gt, cmp_le, cmp_ge, cmp_eq, hz2]
    rfl
  | succ k ih =>
    intro t g hk hw hl
    have hp := p10 (show k + 1 ≤ 18 by omega)
    have hp0 := p10 (show k ≤ 18 by omega)
    have ep : 10 ^ (k + 1) = 10 ^ k * 10 := Nat.pow_succ 10 k
    have hq : L / 10 ^ (k + 1) < 2 ^ 63 := Nat.lt_of_le_of_lt (Nat.div_le_self _ _) hL
    obtain ⟨g1, e1, w1⟩ := s_rwrite (r := r) (h := h) (c := 48 + L / 10 ^ (k + 1) % 10) hm hw (by omega) (by omega)
    obtain ⟨g2, e2, w2⟩ := ih (t ++ [48 + L / 10 ^ (k + 1) % 10]) g1 (by omega) w1 (by rw [List.length_append]; simp; omega)
    rw [List.append_assoc] at e2 w2
    refine ⟨g2, ?_, w2⟩
    show _ = some (none, putM m (wTxt r g2 (t ++ ([48 + L / 10 ^ (k + 1) % 10] ++ emF L k)).length) h)
    rw [← e2]
    have hz : ((J ((10 ^ (k + 1) : Nat) : Int)) ≤ 0) = False := by rw [pos64 (by omega)]; exact eq_false (by omega)
    have hd0 : J ((10 ^ (k + 1) : Nat) : Int) / 10 = J ((10 ^ k : Nat) : Int) := by
      rw [show (10 : Int64) = J ((10 : Nat) : Int) from rfl, J_divN (by omega) (by omega) (by omega), ep, Nat.mul_div_cancel _ (by omega)]
    rw [zl_263_56]
    simp (implicitDefEqProofs := false) (disch := omega) only [zr_263_58, zr_263_59, zr_263_60, zr_263_63, zr_263_64, zr_263_67, zr_263_68, zr_263_70, zr_263_71, zr_263_74, zr_263_75, zr_263_76, zr_263_77, zr_263_78, zr_263_81, zr_263_83, zr_263_86, zr_263_87, zr_263_89, true_or, or_true, true_and, and_true, if_true, if_false, ldA_ref, ldA_null, nl_int, nl_ref, nl_fl, nl_null, c1_int, c1_ref, c1_null, cmp_lt, cmp_gt, cmp_le, cmp_ge, cmp_eq, kd_M, dvJ_10, hz, dvJ_J (show (0 : Int) < ((10 ^ (k + 1) : Nat) : Int) by omega) (show ((10 ^ (k + 1) : Nat) : Int) < 2 ^ 63 by omega), J_divN hL hp.1 (show 10 ^ (k + 1) < 2 ^ 63 by omega), dig _ hq, narC9 (48 + L / 10 ^ (k + 1) % 10) (by omega), e1, hd0, zcall_some, zpush_some, zpush_none, zsum_ref, zsum_int, zsum_long, zsum_nil, zsum_null, Nat.reduceAdd, Nat.reduceLeDiff, if_true]
theorem s_rdgs {y : Int64} (hm : 100 ≤ m) (hy : 0 ≤ y) (hw : okW g t) (hl : t.length + 19 ≤ 2160) : ∃ g', rn 263 34 [.ref m, .long x, .float 0, .long y, .float 0, .long 1, .float 0] [] (putM m (wTxt r g t.length) h) = some (none, putM m (wTxt r g' (t ++ dgF 19 y.toInt.toNat).length) h) ∧ okW g' (t ++ dgF 19 y.toInt.toNat) := by
  have hy2 : 0 ≤ y.toInt := by
    have := Int64.le_iff_toInt_le.mp hy
    simpa using this
  have hy3 := Int64.toInt_lt y
  have hz : J (y.toInt.toNat : Nat) = y := by
    rw [Int.toNat_of_nonneg hy2]; exact J_self y
  obtain ⟨k2, a1, a2, a3, a4⟩ := s_rbyL (m := m) (x := x) (L := y.toInt.toNat) (by omega) 18 0 (by omega) (Or.inl rfl)
  obtain ⟨g1, e1, w1⟩ := s_remit (r := r) (h := h) (x := x) (L := y.toInt.toNat) hm (by omega) k2 t g a1 hw (by omega)
  rw [← dgF_em k2 19 _ (by omega) a2 a3] at e1 w1
  refine ⟨g1, ?_, w1⟩
  have a5 := a4 (putM m (wTxt r g t.length) h)
  rw [hz] at a5 e1
  exact a5.trans e1
theorem s_rnum (hm : 100 ≤ m) (hw : okW g t) (hl : t.length + 21 ≤ 2160) : ∃ g', ev 263 [.ref m, .long x] (putM m (wTxt r g t.length) h) = some (none, putM m (wTxt r g' (t ++ [32] ++ amT x).length) h) ∧ okW g' (t ++ [32] ++ amT x) := by
  obtain ⟨g1, e1, w1⟩ := s_rwrite (r := r) (h := h) (c := 32) hm hw (by omega) (by omega)
  unfold amT
  by_cases hx : x < 0
  · rw [if_pos hx]
    obtain ⟨g2, e2, w2⟩ := s_rwrite (r := r) (h := h) (c := 45) hm w1 (by rw [List.length_append]; simp; omega) (by omega)
    by_cases hmn : -x < 0
    · rw [if_pos hmn]
      have hxm : x = -9223372036854775808 := by
        have a1 := Int64.lt_iff_toInt_lt.mp hx
        have a2 := Int64.lt_iff_toInt_lt.mp hmn
        have a3 := Int64.le_toInt x
        rw [Int64.toInt_neg] at a2
        apply Int64.toInt_inj.mp
        have z0 : (0 : Int64).toInt = 0 := rfl
        rw [z0] at a1 a2
        by_cases hq : x.toInt = -2 ^ 63
        · rw [hq]; rfl
        · rw [Int.bmod_eq_of_le (by omega) (by omega)] at a2
          omega
      obtain ⟨g3, e3, w3⟩ := s_rwrite (r := r) (h := h) (c := 40) hm w2 (by rw [List.length_append, List.length_append]; simp; omega) (by omega)
      have et : t ++ [32] ++ [45, 40] = t ++ [32] ++ [45] ++ [40] := by simp
      rw [et]
      refine ⟨g3, ?_, w3⟩
      have hn : -x = x := by rw [hxm]; rfl
      have q1 : x / 1 ≤ 9 := by rw [hxm]; decide
      have q2 : ((48 : Int64) + (x / 1 - x / 1 / 10 * 10)).toInt32 = nI 40 := by rw [hxm]; decide
      have q3 : ((1 : Int64) ≤ 0) = False := by simp
      have q4 : (1 : Int64) / 10 = 0 := by decide
      have q5 : ((0 : Int64) ≤ 0) = True := by simp
      have q6 : ∀ q : zRes, dvJ 1 q = q := fun q => if_neg (by decide)
      simp (implicitDefEqProofs := false) (disch := omega) only [ze_263, zr_263_0, zr_263_1, zr_263_3, zr_263_6, zr_263_7, zr_263_8, zr_263_9, zr_263_12, zr_263_13, zr_263_15, zr_263_18, zr_263_19, zr_263_20, zr_263_21, zr_263_24, zr_263_25, zr_263_26, zr_263_29, zr_263_30, zr_263_31, zr_263_32, zr_263_35, zr_263_37, zr_263_38, zr_263_41, zr_263_42, zr_263_45, zr_263_47, zr_263_50, zr_263_51, zr_263_53, zr_263_58, zr_263_59, zr_263_60, zr_263_63, zr_263_64, zr_263_67, zr_263_68, zr_263_70, zr_263_71, zr_263_74, zr_263_75, zr_263_76, zr_263_77, zr_263_78, zr_263_81, zr_263_83, zr_263_86, zr_263_87, zr_263_89, zr_263_92, true_or, or_true, true_and, and_true, if_true, if_false, ldA_ref, ldA_null, nl_int, nl_ref, nl_fl, nl_null, c1_int, c1_ref, c1_null, cmp_lt, cmp_gt, cmp_le, cmp_ge, cmp_eq, kd_M, e1, Int64.not_le.mpr hx, e2, hn, c1_ref, c1_int, zcall_some, zpush_some, zpush_none, zsum_ref, zsum_int, zsum_long, zsum_nil, zsum_null, Nat.reduceAdd, Nat.reduceLeDiff, if_true]
      rw [zl_263_34]
      simp (implicitDefEqProofs := false) (disch := omega) only [zr_263_35, zr_263_37, zr_263_38, zr_263_41, zr_263_42, zr_263_45, zr_263_47, zr_263_50, zr_263_51, zr_263_53, true_or, or_true, true_and, and_true, if_true, if_false, ldA_ref, ldA_null, nl_int, nl_ref, nl_fl, nl_null, c1_int, c1_ref, c1_null, cmp_lt, cmp_gt, cmp_le, cmp_ge, cmp_eq, q6, q1]
      rw [zl_263_56]
      simp (implicitDefEqProofs := false) (disch := omega) only [zr_263_58, zr_263_59, zr_263_60, zr_263_63, zr_263_64, zr_263_67, zr_263_68, zr_263_70, zr_263_71, zr_263_74, zr_263_75, zr_263_76, zr_263_77, zr_263_78, zr_263_81, zr_263_83, zr_263_86, zr_263_87, zr_263_89, true_or, or_true, true_and, and_true, if_true, if_false, ldA_ref, ldA_null, nl_int, nl_ref, nl_fl, nl_null, c1_int, c1_ref, c1_null, cmp_lt, cmp_gt, cmp_le, cmp_ge, cmp_eq, kd_M, dvJ_10, q3, q6, q2, narC9 40 (by omega), e3, q4, zcall_some, zpush_some, zpush_none, zsum_ref, zsum_int, zsum_long, zsum_nil, zsum_null, Nat.reduceAdd, Nat.reduceLeDiff, if_true]
      rw [zl_263_56]
      simp (implicitDefEqProofs := false) (disch := omega) only [zr_263_58, zr_263_59, zr_263_60, zr_263_63, zr_263_64, zr_263_67, zr_263_68, zr_263_70, zr_263_71, zr_263_74, zr_263_75, zr_263_76, zr_263_77, zr_263_78, zr_263_81, zr_263_83, zr_263_86, zr_263_87, zr_263_89, zr_263_92, true_or, or_true, true_and, and_true, if_true, if_false, ldA_ref, ldA_null, nl_int, nl_ref, nl_fl, nl_null, c1_int, c1_ref, c1_null, cmp_lt, cmp_gt, cmp_le, cmp_ge, cmp_eq, q5]
    · rw [if_neg hmn]
      obtain ⟨g3, e3, w3⟩ := s_rdgs (r := r) (h := h) (x := x) hm (Int64.not_lt.mp hmn) w2 (by rw [List.length_append, List.length_append]; simp; omega)
      have et : t ++ [32] ++ 45 :: dgF 19 (-x).toInt.toNat = t ++ [32] ++ [45] ++ dgF 19 (-x).toInt.toNat := by simp
      rw [et]
      refine ⟨g3, ?_, w3⟩
      rw [← e3]
      simp (implicitDefEqProofs := false) (disch := omega) only [ze_263, zr_263_0, zr_263_1, zr_263_3, zr_263_6, zr_263_7, zr_263_8, zr_263_9, zr_263_12, zr_263_13, zr_263_15, zr_263_18, zr_263_19, zr_263_20, zr_263_21, zr_263_24, zr_263_25, zr_263_26, zr_263_29, zr_263_30, zr_263_31, zr_263_32, zr_263_35, zr_263_37, zr_263_38, zr_263_41, zr_263_42, zr_263_45, zr_263_47, zr_263_50, zr_263_51, zr_263_53, zr_263_58, zr_263_59, zr_263_60, zr_263_63, zr_263_64, zr_263_67, zr_263_68, zr_263_70, zr_263_71, zr_263_74, zr_263_75, zr_263_76, zr_263_77, zr_263_78, zr_263_81, zr_263_83, zr_263_86, zr_263_87, zr_263_89, zr_263_92, true_or, or_true, true_and, and_true, if_true, if_false, ldA_ref, ldA_null, nl_int, nl_ref, nl_fl, nl_null, c1_int, c1_ref, c1_null, cmp_lt, cmp_gt, cmp_le, cmp_ge, cmp_eq, kd_M, e1, Int64.not_le.mpr hx, e2, c1_ref, c1_int, zcall_some, zpush_some, zpush_none, zsum_ref, zsum_int, zsum_long, zsum_nil, zsum_null, Nat.reduceAdd, Nat.reduceLeDiff, if_true]
      done
  · rw [if_neg hx]
    obtain ⟨g3, e3, w3⟩ := s_rdgs (r := r) (h := h) (x := x) hm (Int64.not_lt.mp hx) w1 (by rw [List.length_append]; simp; omega)
    refine ⟨g3, ?_, w3⟩
    rw [← e3]
    simp (implicitDefEqProofs := false) (disch := omega) only [ze_263, zr_263_0, zr_263_1, zr_263_3, zr_263_6, zr_263_7, zr_263_8, zr_263_9, zr_263_12, zr_263_13, zr_263_15, zr_263_18, zr_263_19, zr_263_20, zr_263_21, zr_263_24, zr_263_25, zr_263_26, zr_263_29, zr_263_30, zr_263_31, zr_263_32, zr_263_35, zr_263_37, zr_263_38, zr_263_41, zr_263_42, zr_263_45, zr_263_47, zr_263_50, zr_263_51, zr_263_53, zr_263_58, zr_263_59, zr_263_60, zr_263_63, zr_263_64, zr_263_67, zr_263_68, zr_263_70, zr_263_71, zr_263_74, zr_263_75, zr_263_76, zr_263_77, zr_263_78, zr_263_81, zr_263_83, zr_263_86, zr_263_87, zr_263_89, zr_263_92, true_or, or_true, true_and, and_true, if_true, if_false, ldA_ref, ldA_null, nl_int, nl_ref, nl_fl, nl_null, c1_int, c1_ref, c1_null, cmp_lt, cmp_gt, cmp_le, cmp_ge, cmp_eq, kd_M, e1, Int64.not_lt.mp hx, c1_ref, c1_int, zcall_some, zpush_some, zpush_none, zsum_ref, zsum_int, zsum_long, zsum_nil, zsum_null, Nat.reduceAdd, Nat.reduceLeDiff, if_true]
    done
theorem s_rline {k i re : Nat} (hm : 100 ≤ m) (hk : k < 8) (hi : i < 100) (hre : re < 100) (hs : stOK (putM m r h) (nmB k) (nmT k)) (hw : okW g t) (hl : t.length + 75 ≤ 2160) : ∃ g', ev 260 [.ref m, .int (nI k), .long (nI i).toInt64, .long (nI re).toInt64, .long x] (putM m (wTxt r g t.length) h) = some (none, putM m (wTxt r g' (t ++ lnT k i re x).length) h) ∧ okW g' (t ++ lnT k i re x) := by
  have l1 := nmT_len k
  have l2 := dg2_len i
  have l3 := dg2_len re
  have l4 := amT_len x
  obtain ⟨g1, e1, w1⟩ := s_rname (r := r) (h := h) hm hk hs hw (by omega)
  obtain ⟨g2, e2, w2⟩ := s_rnum (r := r) (h := h) (x := (nI i).toInt64) hm w1 (by simp only [List.length_append]; omega)
  rw [amT_J hi] at e2 w2
  obtain ⟨g3, e3, w3⟩ := s_rnum (r := r) (h := h) (x := (nI re).toInt64) hm w2 (by simp only [List.length_append, List.length_singleton]; omega)
  rw [amT_J hre] at e3 w3
  obtain ⟨g4, e4, w4⟩ := s_rnum (r := r) (h := h) (x := x) hm w3 (by simp only [List.length_append, List.length_singleton]; omega)
  obtain ⟨g5, e5, w5⟩ := s_rwrite (r := r) (h := h) (c := 59) hm w4 (by simp only [List.length_append, List.length_singleton]; omega) (by omega)
  have et : t ++ lnT k i re x = t ++ nmT k ++ [32] ++ dg2 i ++ [32] ++ dg2 re ++ [32] ++ amT x ++ [59] := by
    simp only [lnT, List.append_assoc]
  rw [et]
  refine ⟨g5, ?_, w5⟩
  simp (implicitDefEqProofs := false) (disch := omega) only [ze_260, zr_260_0, zr_260_1, zr_260_2, zr_260_5, zr_260_6, zr_260_7, zr_260_10, zr_260_11, zr_260_13, zr_260_16, zr_260_17, zr_260_19, zr_260_22, zr_260_23, zr_260_25, zr_260_28, true_or, or_true, true_and, and_true, if_true, if_false, ldA_ref, ldA_null, nl_int, nl_ref, nl_fl, nl_null, c1_int, c1_ref, c1_null, kd_M, e1, e2, e3, e4, e5, zcall_some, zpush_some, zpush_none, zsum_ref, zsum_int, zsum_long, zsum_nil, zsum_null, Nat.reduceAdd, Nat.reduceLeDiff, if_true]
/-- what is read of a text -/
def rdT (t : List Nat) (i : Int32) : Int32 := if i = -1 then nI t.length else if nI 0 ≤ i ∧ i < nI t.length then nI (t.getD i.toNatClampNeg 0) else -2
theorem s_rread {i : Int32} (hw : okW g t) (hl : t.length ≤ 2160) : ev 264 [.ref m, .int i] (putM m (wTxt r g t.length) h) = some (some (.int (rdT t i)), putM m (wTxt r g t.length) h) := by
  have e1 : rWm (wTxt r g t.length) = nI t.length := rfl
  have e2 : rWr (wTxt r g t.length) = g := rfl
  unfold rdT
  by_cases h0 : i = -1
  · rw [if_pos h0]
    simp (implicitDefEqProofs := false) (disch := omega) only [ze_264, zr_264_0, zr_264_1, zr_264_2, zr_264_5, zr_264_6, zr_264_9, zr_264_12, zr_264_13, zr_264_14, zr_264_15, zr_264_18, zr_264_19, zr_264_20, zr_264_23, zr_264_26, zr_264_27, zr_264_30, zr_264_31, zr_264_32, zr_264_35, zr_264_37, true_or, or_true, true_and, and_true, if_true, if_false, ldA_ref, ldA_null, nl_int, nl_ref, nl_fl, nl_null, c1_int, c1_ref, c1_null, gf_M, e1, h0, zcall_some, zpush_some, zpush_none, zsum_ref, zsum_int, zsum_long, zsum_nil, zsum_null, Nat.reduceAdd, Nat.reduceLeDiff, if_true]
  · rw [if_neg h0]
    by_cases h1 : nI 0 ≤ i ∧ i < nI t.length
    · rw [if_pos h1]
      obtain ⟨k, hk, rfl⟩ := in_nI (n := t.length) (by omega) h1.1 (Int32.le_of_lt h1.2)
      have hk2 : k < t.length := by
        have := h1.2
        rw [nI_ltI (by omega) (by omega)] at this
        exact this
      rw [nI_clamp (by omega)]
      have hg := (hw k _ (List.getElem?_eq_getElem hk2)).2
      have hgd : t.getD k 0 = t[k] := by rw [List.getD_eq_getElem?_getD, List.getElem?_eq_getElem hk2]; rfl
      have hs : nI t.length - nI 1 = nI (t.length - 1) := nI_sub1 (by omega)
      simp (implicitDefEqProofs := false) (disch := omega) only [ze_264, zr_264_0, zr_264_1, zr_264_2, zr_264_5, zr_264_6, zr_264_9, zr_264_12, zr_264_13, zr_264_14, zr_264_15, zr_264_18, zr_264_19, zr_264_20, zr_264_23, zr_264_26, zr_264_27, zr_264_30, zr_264_31, zr_264_32, zr_264_35, zr_264_37, true_or, or_true, true_and, and_true, if_true, if_false, ldA_ref, ldA_null, nl_int, nl_ref, nl_fl, nl_null, c1_int, c1_ref, c1_null, Nat.zero_add, Nat.zero_mul, Nat.one_mul, nI_add, nI_leI, nI_ltI, nI_eq, nI_mul, gf_M, e1, e2, h0, hs, s_in, bI_0, show ¬ ¬ (0 ≤ k ∧ k ≤ t.length - 1) from by omega, li_M6 (show k < 2160 by omega), hg, hgd, zcall_some, zpush_some, zpush_none, zsum_ref, zsum_int, zsum_long, zsum_nil, zsum_null, Nat.reduceAdd, Nat.reduceLeDiff, if_true]
    · rw [if_neg h1]
      have h2 : ¬ (nI 0 ≤ i ∧ i ≤ nI t.length - nI 1) := fun c => h1 ⟨c.1, (le_pred (by omega)).mp c.2⟩
      simp (implicitDefEqProofs := false) (disch := omega) only [ze_264, zr_264_0, zr_264_1, zr_264_2, zr_264_5, zr_264_6, zr_264_9, zr_264_12, zr_264_13, zr_264_14, zr_264_15, zr_264_18, zr_264_19, zr_264_20, zr_264_23, zr_264_26, zr_264_27, zr_264_30, zr_264_31, zr_264_32, zr_264_35, zr_264_37, true_or, or_true, true_and, and_true, if_true, if_false, ldA_ref, ldA_null, nl_int, nl_ref, nl_fl, nl_null, c1_int, c1_ref, c1_null, gf_M, e1, h0, s_in, bI_0, h2, not_false_eq_true, zcall_some, zpush_some, zpush_none, zsum_ref, zsum_int, zsum_long, zsum_nil, zsum_null, Nat.reduceAdd, Nat.reduceLeDiff, if_true]
end
