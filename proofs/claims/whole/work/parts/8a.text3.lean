/-! THE CLASS'S TEXT: lines -/
section
variable {H H1 H2 : zH} {tx cap c1 c2 N p n a : Nat} {t l : List Nat} {x : Int64}
theorem tx_C {c : Nat} (h : txB H tx cap t) (hl : t.length + 1 ≤ N) (hN : N ≤ 40000) (hc : c < 128) : ∃ H' cap', ev 133 [.ref (tx + 1), .int (nI c)] H = some (some (.ref (tx + 1)), H') ∧ txB H' tx cap' (t ++ [c]) ∧ txG H' H tx cap cap' N ∧ ∀ d, H.2.2 (tx + 3) = .inl (2, 19, .inl d) → H'.2.2 (tx + 3) = .inl (2, 19, .inl d) := by
  obtain ⟨h1, h2, h3, h4, h5, h6, h7, h8⟩ := h
  obtain ⟨H', cap', e, s, hc9, f⟩ := s_appC h2 (show 100 ≤ tx + 1 by omega) (by omega) hl hN h4 hc
  refine ⟨H', cap', e, txB.nx ⟨h1, h2, h3, h4, h5, h6, h7, h8⟩ s hc9 f, txG.of f, fun d hd => ?_⟩
  rw [f.2.2.2.2.2 (tx + 3) (by omega) h8 (Or.inl (by rw [kd_kc, hd]; exact (by decide : (1000 + 2 : Nat) ≠ 1003)))]; exact hd
theorem tx_S {k : Nat} (h : txB H tx cap t) (hk : k < 8) (hl : t.length + 7 ≤ N) (hN : N ≤ 40000) : ∃ H' cap', ev 113 [.ref (tx + 1), .ref (nmA k)] H = some (some (.ref (tx + 1)), H') ∧ txB H' tx cap' (t ++ nmT k) ∧ txG H' H tx cap cap' N := by
  obtain ⟨h1, h2, h3, h4, h5, h6, h7, h8⟩ := h
  have hn := nmT_len k
  obtain ⟨H', cap', e, s, hc9, f⟩ := s_appS h2 (h6 k hk) (show 100 ≤ tx + 1 by omega) (by omega) (show t.length + (nmT k).length ≤ N by omega) hN h4
  exact ⟨H', cap', e, txB.nx ⟨h1, h2, h3, h4, h5, h6, h7, h8⟩ s hc9 f, txG.of f⟩
theorem txB_dig (h : txB H tx cap t) (d : Nat → Int32) : txB (zset H (tx + 3) (.inl (2, 19, .inl d))) tx cap t := by
  obtain ⟨h1, ⟨p, ml, g, hG⟩, ⟨d0, h3⟩, h4, h5, h6, h7, h8⟩ := h
  have hz : sta (zset H (tx + 3) (.inl (2, 19, .inl d))) H := fun q hq => zset_ne (by omega)
  have hp : p ≠ tx + 3 := fun hp => by
    have h9 := hG.2.1
    rw [hp, h3] at h9
    cases h9
  exact ⟨(zset_ne (by omega)).trans h1, ⟨p, ml, g, (zset_ne (by omega)).trans hG.1, (zset_ne hp).trans hG.2.1, hG.2.2⟩, ⟨d, zset_at _ _⟩, h4, h5.to hz, fun k hk => (h6 k hk).to hz, h7, h8⟩
theorem txG_dig (N : Nat) (d : Nat → Int32) : txG (zset H (tx + 3) (.inl (2, 19, .inl d))) H tx cap cap N := ⟨Nat.le_refl _, Or.inl rfl, Nat.le_refl _, Nat.le_refl _, Nat.le_refl _, fun _ _ h _ _ => zset_ne h⟩
theorem tx_at (h : txB H tx cap t) : zkd H tx = 8 ∧ (∀ (β : Type) (f : Value → Option β), zgf H tx 8 0 f = f (.ref (tx + 1))) ∧ (∀ (β : Type) (f : Value → Option β), zgf H tx 8 1 f = f (.ref (tx + 3))) ∧ zkd H (tx + 1) = 0 := by
  obtain ⟨h1, ⟨p, ml, g, hG⟩, -⟩ := h
  exact ⟨kd_c h1, fun _ f => gf_c h1 rfl f, fun _ f => gf_c h1 rfl f, kd_c hG.1⟩
theorem s_amtL {lft : Value} {v5 : Int32} {d : Nat → Int32} (hN : N ≤ 40000) : ∀ (l : List Nat) (i : Nat) (t : List Nat) (H : zH) (cap : Nat), txB H tx cap t → H.2.2 (tx + 3) = .inl (2, 19, .inl d) → i + l.length = 19 → (∀ j c, l[j]? = some c → c < 128 ∧ d (i + j) = nI c) → t.length + l.length ≤ N → ∃ H' cap', rn 140 67 [.ref tx, .long x, .float 0, lft, .float 0, .int v5, .int (nI i)] [] H = some (none, H') ∧ txB H' tx cap' (t ++ l) ∧ txG H' H tx cap cap' N := by
  intro l
  induction l with
  | nil =>
    intro i t H cap h hd hi hc hl
    have hi2 : i = 19 := by simpa using hi
    subst hi2
    refine ⟨H, cap, ?_, by rw [List.append_nil]; exact h, txG.rf H tx cap N⟩
    rw [zl_140_67]
    simp (implicitDefEqProofs := false) (disch := omega) only [ze_140, zr_140_0, zr_140_1, zr_140_2, zr_140_3, zr_140_6, zr_140_7, zr_140_10, zr_140_12, zr_140_15, zr_140_16, zr_140_17, zr_140_20, zr_140_21, zr_140_23, zr_140_28, zr_140_29, zr_140_32, zr_140_34, zr_140_37, zr_140_38, zr_140_41, zr_140_42, zr_140_43, zr_140_44, zr_140_45, zr_140_46, zr_140_47, zr_140_50, zr_140_51, zr_140_52, zr_140_53, zr_140_54, zr_140_55, zr_140_58, zr_140_60, zr_140_63, zr_140_65, zr_140_69, zr_140_71, zr_140_74, zr_140_75, zr_140_78, zr_140_79, zr_140_82, zr_140_84, zr_140_85, zr_140_88, zr_140_89, zr_140_92, zr_140_95, true_or, or_true, true_and, and_true, if_true, if_false, ldA_ref, ldA_null, nl_int, nl_ref, nl_fl, nl_null, c1_int, c1_ref, c1_null, Nat.zero_add, Nat.zero_mul, Nat.one_mul, nI_add, nI_leI, nI_ltI, nI_eq, nI_mul, Nat.le_refl]
  | cons c l ih =>
    intro i t H cap h hd hi hc hl
    rw [List.length_cons] at hi hl
    obtain ⟨a1, a2⟩ := hc 0 c rfl
    rw [Nat.add_zero] at a2
    obtain ⟨H1, c1, e1, h1, f1, d1⟩ := tx_C h (show t.length + 1 ≤ N by omega) hN a1
    obtain ⟨H2, c2, e2, h2, f2⟩ := ih (i + 1) (t ++ [c]) H1 c1 h1 (d1 d hd) (by omega) (fun j c hj => by
      obtain ⟨b1, b2⟩ := hc (j + 1) c (by simpa using hj)
      exact ⟨b1, by rw [show i + 1 + j = i + (j + 1) by omega]; exact b2⟩) (by rw [List.length_append]; simp; omega)
    refine ⟨H2, c2, ?_, by rw [show t ++ c :: l = t ++ [c] ++ l by simp]; exact h2, f2.tr f1⟩
    have k1 : ∀ (β : Type) (g : Int32 → Option β), zli H (tx + 3) 2 (nI i) g = g (nI c) := fun _ g => by rw [li_c hd (by omega) (by omega) g, a2]
    rw [zl_140_67]
    simp (implicitDefEqProofs := false) (disch := omega) only [ze_140, zr_140_0, zr_140_1, zr_140_2, zr_140_3, zr_140_6, zr_140_7, zr_140_10, zr_140_12, zr_140_15, zr_140_16, zr_140_17, zr_140_20, zr_140_21, zr_140_23, zr_140_28, zr_140_29, zr_140_32, zr_140_34, zr_140_37, zr_140_38, zr_140_41, zr_140_42, zr_140_43, zr_140_44, zr_140_45, zr_140_46, zr_140_47, zr_140_50, zr_140_51, zr_140_52, zr_140_53, zr_140_54, zr_140_55, zr_140_58, zr_140_60, zr_140_63, zr_140_65, zr_140_69, zr_140_71, zr_140_74, zr_140_75, zr_140_78, zr_140_79, zr_140_82, zr_140_84, zr_140_85, zr_140_88, zr_140_89, zr_140_92, zr_140_95, true_or, or_true, true_and, and_true, if_true, if_false, ldA_ref, ldA_null, nl_int, nl_ref, nl_fl, nl_null, c1_int, c1_ref, c1_null, Nat.zero_add, Nat.zero_mul, Nat.one_mul, nI_add, nI_leI, nI_ltI, nI_eq, nI_mul, show ¬ 19 ≤ i from by omega, tx_at h, k1, e1, c1_ref, c1_int, zcall_some, zpush_some, zpush_none, zsum_ref, zsum_int, zsum_long, zsum_nil, zsum_null, Nat.reduceAdd, Nat.reduceLeDiff, if_true]
    exact e2
/-- the text of an amount -/
def amT (x : Int64) : List Nat := if x < 0 then (if -x < 0 then [45, 40] else 45 :: dgF 19 (-x).toInt.toNat) else dgF 19 x.toInt.toNat
theorem amT_len (x : Int64) : (amT x).length ≤ 20 := by
  unfold amT
  have h1 := dgF_len 19 (-x).toInt.toNat
  have h2 := dgF_len 19 x.toInt.toNat
  split
  · split
    · simp
    · rw [List.length_cons]; omega
  · omega
theorem J_self (x : Int64) : J x.toInt = x := Int64.ofInt_toInt x
theorem s_amtP {y : Int64} (hN : N ≤ 40000) (h : txB H tx cap t) (hy : 0 ≤ y) (hl : t.length + 19 ≤ N) (v6 : Value) : ∃ H' cap', rn 140 25 [.ref tx, .long x, .float 0, .long y, .float 0, .int (nI 19), v6] [] H = some (none, H') ∧ txB H' tx cap' (t ++ dgF 19 y.toInt.toNat) ∧ txG H' H tx cap cap' N := by
  have hy2 : 0 ≤ y.toInt := by
    have := Int64.le_iff_toInt_le.mp hy
    simpa using this
  have hy3 := Int64.toInt_lt y
  have hz : J (y.toInt.toNat : Nat) = y := by
    rw [Int.toNat_of_nonneg hy2]; exact J_self y
  obtain ⟨d, hd⟩ := h.2.2.1
  have hH : zset H (tx + 3) (.inl (2, 19, .inl d)) = H := by
    refine Prod.ext rfl (Prod.ext rfl (funext fun q => ?_))
    show (if q = tx + 3 then _ else H.2.2 q) = H.2.2 q
    by_cases hq : q = tx + 3
    · rw [if_pos hq, hq, hd]
    · rw [if_neg hq]
  have e19 : (10 : Nat) ^ (18 + 1) = 10000000000000000000 := by decide
  obtain ⟨d', fi, lft, e1, e2, e3⟩ := s_digL (x := x) h.2.2.2.2.2.2.1 h.1 18 y.toInt.toNat d [] v6 rfl (by rw [e19]; omega) (by omega) (fun i c hi => by cases hi)
  rw [hH, hz] at e1
  rw [List.append_nil] at e2 e3
  have hln := dgF_len 19 y.toInt.toNat
  obtain ⟨H2, c2, e4, h2, f2⟩ := s_amtL (x := x) (lft := lft) (v5 := nI fi) (d := d') hN (dgF 19 y.toInt.toNat) fi t _ cap (txB_dig h d') (zset_at _ _) e2 e3 (by omega)
  exact ⟨H2, c2, e1.trans e4, h2, f2.tr (txG_dig N d')⟩
theorem tx_A (h : txB H tx cap t) (hl : t.length + 20 ≤ N) (hN : N ≤ 40000) : ∃ H' cap', ev 140 [.ref tx, .long x] H = some (none, H') ∧ txB H' tx cap' (t ++ amT x) ∧ txG H' H tx cap cap' N := by
  unfold amT
  by_cases hx : x < 0
  · rw [if_pos hx]
    obtain ⟨H1, c1, e1, h1, f1, d1⟩ := tx_C (c := 45) h (show t.length + 1 ≤ N by omega) hN (by omega)
    have hx2 : ¬ 0 < x := fun h0 => Int64.lt_irrefl (Int64.lt_trans h0 hx)
    by_cases hm : -x < 0
    · rw [if_pos hm]
      obtain ⟨d, hd⟩ := h1.2.2.1
      have hxm : x = -9223372036854775808 := by
        have a1 := Int64.lt_iff_toInt_lt.mp hx
        have a2 := Int64.lt_iff_toInt_lt.mp hm
        have a3 := Int64.le_toInt x
        rw [Int64.toInt_neg] at a2
        apply Int64.toInt_inj.mp
        have z0 : (0 : Int64).toInt = 0 := rfl
        rw [z0] at a1 a2
        by_cases hq : x.toInt = -2 ^ 63
        · rw [hq]; rfl
        · rw [Int.bmod_eq_of_le (by omega) (by omega)] at a2
          omega
      have hn : -x = x := by rw [hxm]; rfl
      have k1 : ∀ (β : Type) (g : zH → Option β), zsi H1 (tx + 3) 2 (nI 18) (nI 40) g = g (zset H1 (tx + 3) (.inl (2, 19, .inl (upd d 18 (nI 40))))) := fun _ g => si_c hd (by omega) (by omega) (by have := h1.2.2.2.2.2.2.1; omega) _ g
      have k2 : ((48 : Int64) + (x - x / 10 * 10)).toInt32 = nI 40 := by rw [hxm]; decide
      have k3 : x / 10 ≤ 0 := by rw [hxm]; decide
      have e9 : nI 19 + (-1) = nI 18 := by decide
      have h1d := txB_dig h1 (upd d 18 (nI 40))
      have k4 : (zset H1 (tx + 3) (.inl (2, 19, .inl (upd d 18 (nI 40))))).2.2 (tx + 3) = .inl (2, 19, .inl (upd d 18 (nI 40))) := zset_at _ _
      obtain ⟨H2, c2, e4, h2, f2⟩ := s_amtL (x := x) (lft := .long (x / 10)) (v5 := nI 18) (d := upd d 18 (nI 40)) hN [40] 18 (t ++ [45]) _ c1 h1d k4 rfl (fun j c hj => by
        by_cases h0 : j = 0
        · subst h0
          have : some 40 = some c := hj
          cases this
          exact ⟨by omega, if_pos rfl⟩
        · obtain ⟨j2, rfl⟩ : ∃ j2, j = j2 + 1 := ⟨j - 1, by omega⟩
          simp at hj) (by rw [List.length_append]; simp; omega)
      refine ⟨H2, c2, ?_, by rw [show t ++ [45, 40] = t ++ [45] ++ [40] by simp]; exact h2, f2.tr ((txG_dig N _).tr f1)⟩
      simp (implicitDefEqProofs := false) (disch := omega) only [ze_140, zr_140_0, zr_140_1, zr_140_2, zr_140_3, zr_140_6, zr_140_7, zr_140_10, zr_140_12, zr_140_15, zr_140_16, zr_140_17, zr_140_20, zr_140_21, zr_140_23, zr_140_28, zr_140_29, zr_140_32, zr_140_34, zr_140_37, zr_140_38, zr_140_41, zr_140_42, zr_140_43, zr_140_44, zr_140_45, zr_140_46, zr_140_47, zr_140_50, zr_140_51, zr_140_52, zr_140_53, zr_140_54, zr_140_55, zr_140_58, zr_140_60, zr_140_63, zr_140_65, zr_140_69, zr_140_71, zr_140_74, zr_140_75, zr_140_78, zr_140_79, zr_140_82, zr_140_84, zr_140_85, zr_140_88, zr_140_89, zr_140_92, zr_140_95, true_or, or_true, true_and, and_true, if_true, if_false, ldA_ref, ldA_null, nl_int, nl_ref, nl_fl, nl_null, c1_int, c1_ref, c1_null, Nat.zero_add, Nat.zero_mul, Nat.one_mul, nI_add, nI_leI, nI_ltI, nI_eq, nI_mul, cmp_lt, cmp_gt, cmp_le, cmp_ge, cmp_eq, Int64.not_le.mpr hx, tx_at h, e1, hx2, hn, c1_ref, c1_int, if_false, zcall_some, zpush_some, zpush_none, zsum_ref, zsum_int, zsum_long, zsum_nil, zsum_null, Nat.reduceAdd, Nat.reduceLeDiff, if_true]
      rw [zl_140_25]
      simp (implicitDefEqProofs := false) (disch := omega) only [zr_140_28, zr_140_29, zr_140_32, zr_140_34, zr_140_37, zr_140_38, zr_140_41, zr_140_42, zr_140_43, zr_140_44, zr_140_45, zr_140_46, zr_140_47, zr_140_50, zr_140_51, zr_140_52, zr_140_53, zr_140_54, zr_140_55, zr_140_58, zr_140_60, zr_140_63, zr_140_65, true_or, or_true, true_and, and_true, if_true, if_false, ldA_ref, ldA_null, nl_int, nl_ref, nl_fl, nl_null, c1_int, c1_ref, c1_null, Nat.zero_add, Nat.zero_mul, Nat.one_mul, nI_add, nI_leI, nI_ltI, nI_eq, nI_mul, cmp_lt, cmp_gt, cmp_le, cmp_ge, cmp_eq, e9, tx_at h1, dvJ_10, k2, narC9 40 (by omega), narC 40 (by omega), k1, k3, c1_ref, c1_int]
      exact e4
    · rw [if_neg hm]
      obtain ⟨H2, c2, e2, h2, f2⟩ := s_amtP (x := x) hN h1 (Int64.not_lt.mp hm) (show (t ++ [45]).length + 19 ≤ N by rw [List.length_append]; simp; omega) (.float 0)
      refine ⟨H2, c2, ?_, by rw [show t ++ 45 :: dgF 19 (-x).toInt.toNat = t ++ [45] ++ dgF 19 (-x).toInt.toNat by simp]; exact h2, f2.tr f1⟩
      rw [← e2]
      simp (implicitDefEqProofs := false) (disch := omega) only [ze_140, zr_140_0, zr_140_1, zr_140_2, zr_140_3, zr_140_6, zr_140_7, zr_140_10, zr_140_12, zr_140_15, zr_140_16, zr_140_17, zr_140_20, zr_140_21, zr_140_23, zr_140_28, zr_140_29, zr_140_32, zr_140_34, zr_140_37, zr_140_38, zr_140_41, zr_140_42, zr_140_43, zr_140_44, zr_140_45, zr_140_46, zr_140_47, zr_140_50, zr_140_51, zr_140_52, zr_140_53, zr_140_54, zr_140_55, zr_140_58, zr_140_60, zr_140_63, zr_140_65, zr_140_69, zr_140_71, zr_140_74, zr_140_75, zr_140_78, zr_140_79, zr_140_82, zr_140_84, zr_140_85, zr_140_88, zr_140_89, zr_140_92, zr_140_95, true_or, or_true, true_and, and_true, if_true, if_false, ldA_ref, ldA_null, nl_int, nl_ref, nl_fl, nl_null, c1_int, c1_ref, c1_null, Nat.zero_add, Nat.zero_mul, Nat.one_mul, nI_add, nI_leI, nI_ltI, nI_eq, nI_mul, cmp_lt, cmp_gt, cmp_le, cmp_ge, cmp_eq, Int64.not_le.mpr hx, tx_at h, e1, hx2, c1_ref, c1_int, if_false, zcall_some, zpush_some, zpush_none, zsum_ref, zsum_int, zsum_long, zsum_nil, zsum_null, Nat.reduceAdd, Nat.reduceLeDiff, if_true]
  · rw [if_neg hx]
    obtain ⟨H2, c2, e2, h2, f2⟩ := s_amtP (x := x) hN h (Int64.not_lt.mp hx) (show t.length + 19 ≤ N by omega) (.float 0)
    refine ⟨H2, c2, ?_, h2, f2⟩
    rw [← e2]
    have hax : (if 0 < x then x else -x) = x := by
      by_cases h0 : 0 < x
      · rw [if_pos h0]
      · rw [if_neg h0]
        have hx0 : x = 0 := Int64.le_antisymm (Int64.not_lt.mp h0) (Int64.not_lt.mp hx)
        rw [hx0]; rfl
    simp (implicitDefEqProofs := false) (disch := omega) only [ze_140, zr_140_0, zr_140_1, zr_140_2, zr_140_3, zr_140_6, zr_140_7, zr_140_10, zr_140_12, zr_140_15, zr_140_16, zr_140_17, zr_140_20, zr_140_21, zr_140_23, zr_140_28, zr_140_29, zr_140_32, zr_140_34, zr_140_37, zr_140_38, zr_140_41, zr_140_42, zr_140_43, zr_140_44, zr_140_45, zr_140_46, zr_140_47, zr_140_50, zr_140_51, zr_140_52, zr_140_53, zr_140_54, zr_140_55, zr_140_58, zr_140_60, zr_140_63, zr_140_65, zr_140_69, zr_140_71, zr_140_74, zr_140_75, zr_140_78, zr_140_79, zr_140_82, zr_140_84, zr_140_85, zr_140_88, zr_140_89, zr_140_92, zr_140_95, true_or, or_true, true_and, and_true, if_true, if_false, ldA_ref, ldA_null, nl_int, nl_ref, nl_fl, nl_null, c1_int, c1_ref, c1_null, Nat.zero_add, Nat.zero_mul, Nat.one_mul, nI_add, nI_leI, nI_ltI, nI_eq, nI_mul, cmp_lt, cmp_gt, cmp_le, cmp_ge, cmp_eq, Int64.not_lt.mp hx, hax, zcall_some, zpush_some, zpush_none, zsum_ref, zsum_int, zsum_long, zsum_nil, zsum_null, Nat.reduceAdd, Nat.reduceLeDiff, if_true]
theorem dg2_F {i : Nat} (hi : i < 100) : dgF 19 i = dg2 i := by
  unfold dg2
  by_cases c : i < 10
  · rw [if_pos c]; exact if_pos c
  · rw [if_neg c]
    show (if i < 10 then _ else dgF 18 (i / 10) ++ [48 + i % 10]) = _
    rw [if_neg c]
    show (if i / 10 < 10 then [48 + i / 10] else _) ++ _ = _
    rw [if_pos (by omega)]; rfl
theorem amT_J {i : Nat} (hi : i < 100) : amT (nI i).toInt64 = dg2 i := by
  rw [J_nI (by omega)]
  unfold amT
  have h0 : ¬ (J (i : Nat) < 0) := by
    rw [J_0, J_lt (by omega) (by omega) (by omega) (by omega)]; omega
  rw [if_neg h0, J_toInt (by omega) (by omega), Int.toNat_natCast, dg2_F hi]
/-- a small number -/
theorem tx_I {k : Nat} (h : txB H tx cap t) (hk : k < 100) (hl : t.length + 20 ≤ N) (hN : N ≤ 40000) : ∃ H' cap', ev 140 [.ref tx, .long (nI k).toInt64] H = some (none, H') ∧ txB H' tx cap' (t ++ dg2 k) ∧ txG H' H tx cap cap' N := by
  rw [← amT_J hk]
  exact tx_A h hl hN
/-- the text of a line -/
def lnT (k i re : Nat) (x : Int64) : List Nat := nmT k ++ [32] ++ dg2 i ++ [32] ++ dg2 re ++ [32] ++ amT x ++ [59]
theorem dg2_len (i : Nat) : (dg2 i).length ≤ 2 := by
  unfold dg2; split <;> simp
theorem lnT_len (k i re : Nat) (x : Int64) : (lnT k i re x).length ≤ 35 := by
  have h1 := nmT_len k
  have h2 := dg2_len i
  have h3 := dg2_len re
  have h4 := amT_len x
  unfold lnT
  simp only [List.length_append, List.length_singleton]
  omega
theorem tx_L {k i re : Nat} (h : txB H tx cap t) (hk : k < 8) (hi : i < 100) (hre : re < 100) (hl : t.length + 35 ≤ N) (hN : N ≤ 40000) : ∃ H' cap', ev 111 [.ref tx, .int (nI k), .int (nI i), .int (nI re), .long x] H = some (none, H') ∧ txB H' tx cap' (t ++ lnT k i re x) ∧ txG H' H tx cap cap' N := by
  have l1 := nmT_len k
  have l2 := dg2_len i
  have l3 := dg2_len re
  have l4 := amT_len x
  obtain ⟨H1, q1, e1, h1, f1⟩ := tx_S (k := k) h hk (show t.length + 7 ≤ N by omega) hN
  obtain ⟨H2, q2, e2, h2, f2, -⟩ := tx_C (c := 32) h1 (N := N) (by simp only [List.length_append]; omega) hN (by omega)
  obtain ⟨H3, q3, e3, h3, f3⟩ := tx_I (k := i) h2 hi (N := N) (by simp only [List.length_append, List.length_singleton]; omega) hN
  obtain ⟨H4, q4, e4, h4, f4, -⟩ := tx_C (c := 32) h3 (N := N) (by simp only [List.length_append, List.length_singleton]; omega) hN (by omega)
  obtain ⟨H5, q5, e5, h5, f5⟩ := tx_I (k := re) h4 hre (N := N) (by simp only [List.length_append, List.length_singleton]; omega) hN
  obtain ⟨H6, q6, e6, h6, f6, -⟩ := tx_C (c := 32) h5 (N := N) (by simp only [List.length_append, List.length_singleton]; omega) hN (by omega)
  obtain ⟨H7, q7, e7, h7, f7⟩ := tx_A (x := x) h6 (N := N) (by simp only [List.length_append, List.length_singleton]; omega) hN
  obtain ⟨H8, q8, e8, h8, f8, -⟩ := tx_C (c := 59) h7 (N := N) (by simp only [List.length_append, List.length_singleton]; omega) hN (by omega)
  refine ⟨H8, q8, ?_, by simp only [lnT, List.append_assoc] at h8 ⊢; exact h8, f8.tr (f7.tr (f6.tr (f5.tr (f4.tr (f3.tr (f2.tr f1))))))⟩
  have hkn := s_kindName (H := H) hk
  simp (implicitDefEqProofs := false) (disch := omega) only [ze_111, zr_111_0, zr_111_1, zr_111_4, zr_111_5, zr_111_8, zr_111_11, zr_111_12, zr_111_13, zr_111_16, zr_111_18, zr_111_21, zr_111_22, zr_111_23, zr_111_24, zr_111_25, zr_111_28, zr_111_29, zr_111_32, zr_111_34, zr_111_37, zr_111_38, zr_111_39, zr_111_40, zr_111_41, zr_111_44, zr_111_45, zr_111_48, zr_111_50, zr_111_53, zr_111_54, zr_111_55, zr_111_57, zr_111_60, zr_111_61, zr_111_64, zr_111_66, zr_111_69, zr_111_70, true_or, or_true, true_and, and_true, if_true, if_false, ldA_ref, ldA_null, nl_int, nl_ref, nl_fl, nl_null, c1_int, c1_ref, c1_null, tx_at h, hkn, e1, tx_at h1, e2, tx_at h2, e3, tx_at h3, e4, tx_at h4, e5, tx_at h5, e6, tx_at h6, e7, tx_at h7, e8, c1_ref, c1_int, zcall_some, zpush_some, zpush_none, zsum_ref, zsum_int, zsum_long, zsum_nil, zsum_null, Nat.reduceAdd, Nat.reduceLeDiff, if_true]
  done
end
