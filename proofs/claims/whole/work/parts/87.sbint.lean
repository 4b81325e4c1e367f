/-! TEXT under construction: small numbers appended -/
section
variable {H H1 H2 : zH} {sb cap c1 c2 N p n a : Nat} {t l : List Nat} {g : Nat → Int32} {ml : Int32}
/-- the digits of a number below a hundred -/
def dg2 (n : Nat) : List Nat := if n < 10 then [48 + n] else [48 + n / 10, 48 + n % 10]
theorem sz_a : ∀ n : Nat, n < 10 → ¬ (-(nI n) ≤ (-10 : Int32)) := by decide +kernel
theorem sz_b : ∀ n : Nat, n < 100 → 10 ≤ n → (-(nI n) ≤ (-10 : Int32)) := by decide +kernel
theorem sz_c : ∀ n : Nat, n < 100 → ¬ (-(nI n) ≤ (nI 10 * (-10) : Int32)) := by decide +kernel
theorem sz_d : ∀ n : Nat, n < 100 → ¬ (-(nI n) ≤ (-100 : Int32)) := by decide +kernel
theorem sz_e : ∀ n : Nat, n < 100 → 10 ≤ n → ¬ ((-9 : Int32) ≤ -(nI n)) := by decide +kernel
theorem sz_f : ∀ n : Nat, n < 10 → ((-9 : Int32) ≤ -(nI n)) := by decide +kernel
theorem sz_g : ∀ n : Nat, n < 100 → - -(nI n) = nI n := by decide +kernel
theorem sz_h : ∀ n : Nat, n < 100 → ((-100 : Int32) < -(nI n)) := by decide +kernel
theorem s_size1 (hn : n < 10) : ev 142 [.int (nI n)] H = some (some (.int (nI 1)), H) := by
  simp (implicitDefEqProofs := false) (disch := omega) only [ze_142, zr_142_0, zr_142_1, zr_142_2, zr_142_3, zr_142_6, zr_142_7, zr_142_8, zr_142_9, zr_142_10, zr_142_11, zr_142_13, zr_142_14, zr_142_15, zr_142_17, zr_142_19, zr_142_22, zr_142_23, zr_142_24, zr_142_27, zr_142_28, zr_142_29, zr_142_30, zr_142_31, zr_142_33, zr_142_34, zr_142_35, zr_142_36, zr_142_39, zr_142_42, zr_142_44, zr_142_45, zr_142_46, true_or, or_true, true_and, and_true, if_true, if_false, ldA_ref, ldA_null, nl_int, nl_ref, nl_fl, nl_null, c1_int, c1_ref, c1_null, Nat.zero_add, Nat.zero_mul, Nat.one_mul, nI_add, nI_leI, nI_ltI, nI_eq, nI_mul, show ¬ n < 0 from by omega]
  rw [zl_142_16]
  simp (implicitDefEqProofs := false) (disch := omega) only [ze_142, zr_142_0, zr_142_1, zr_142_2, zr_142_3, zr_142_6, zr_142_7, zr_142_8, zr_142_9, zr_142_10, zr_142_11, zr_142_13, zr_142_14, zr_142_15, zr_142_17, zr_142_19, zr_142_22, zr_142_23, zr_142_24, zr_142_27, zr_142_28, zr_142_29, zr_142_30, zr_142_31, zr_142_33, zr_142_34, zr_142_35, zr_142_36, zr_142_39, zr_142_42, zr_142_44, zr_142_45, zr_142_46, true_or, or_true, true_and, and_true, if_true, if_false, ldA_ref, ldA_null, nl_int, nl_ref, nl_fl, nl_null, c1_int, c1_ref, c1_null, Nat.zero_add, Nat.zero_mul, Nat.one_mul, nI_add, nI_leI, nI_ltI, nI_eq, nI_mul, sz_a n hn, show ¬ 10 ≤ 1 from by omega]
  done
theorem s_size2 (hn : n < 100) (h10 : 10 ≤ n) : ev 142 [.int (nI n)] H = some (some (.int (nI 2)), H) := by
  simp (implicitDefEqProofs := false) (disch := omega) only [ze_142, zr_142_0, zr_142_1, zr_142_2, zr_142_3, zr_142_6, zr_142_7, zr_142_8, zr_142_9, zr_142_10, zr_142_11, zr_142_13, zr_142_14, zr_142_15, zr_142_17, zr_142_19, zr_142_22, zr_142_23, zr_142_24, zr_142_27, zr_142_28, zr_142_29, zr_142_30, zr_142_31, zr_142_33, zr_142_34, zr_142_35, zr_142_36, zr_142_39, zr_142_42, zr_142_44, zr_142_45, zr_142_46, true_or, or_true, true_and, and_true, if_true, if_false, ldA_ref, ldA_null, nl_int, nl_ref, nl_fl, nl_null, c1_int, c1_ref, c1_null, Nat.zero_add, Nat.zero_mul, Nat.one_mul, nI_add, nI_leI, nI_ltI, nI_eq, nI_mul, show ¬ n < 0 from by omega]
  rw [zl_142_16]
  simp (implicitDefEqProofs := false) (disch := omega) only [ze_142, zr_142_0, zr_142_1, zr_142_2, zr_142_3, zr_142_6, zr_142_7, zr_142_8, zr_142_9, zr_142_10, zr_142_11, zr_142_13, zr_142_14, zr_142_15, zr_142_17, zr_142_19, zr_142_22, zr_142_23, zr_142_24, zr_142_27, zr_142_28, zr_142_29, zr_142_30, zr_142_31, zr_142_33, zr_142_34, zr_142_35, zr_142_36, zr_142_39, zr_142_42, zr_142_44, zr_142_45, zr_142_46, true_or, or_true, true_and, and_true, if_true, if_false, ldA_ref, ldA_null, nl_int, nl_ref, nl_fl, nl_null, c1_int, c1_ref, c1_null, Nat.zero_add, Nat.zero_mul, Nat.one_mul, nI_add, nI_leI, nI_ltI, nI_eq, nI_mul, sz_b n hn h10, show ¬ 10 ≤ 1 from by omega, Nat.reduceAdd]
  rw [zl_142_16]
  simp (implicitDefEqProofs := false) (disch := omega) only [ze_142, zr_142_0, zr_142_1, zr_142_2, zr_142_3, zr_142_6, zr_142_7, zr_142_8, zr_142_9, zr_142_10, zr_142_11, zr_142_13, zr_142_14, zr_142_15, zr_142_17, zr_142_19, zr_142_22, zr_142_23, zr_142_24, zr_142_27, zr_142_28, zr_142_29, zr_142_30, zr_142_31, zr_142_33, zr_142_34, zr_142_35, zr_142_36, zr_142_39, zr_142_42, zr_142_44, zr_142_45, zr_142_46, true_or, or_true, true_and, and_true, if_true, if_false, ldA_ref, ldA_null, nl_int, nl_ref, nl_fl, nl_null, c1_int, c1_ref, c1_null, Nat.zero_add, Nat.zero_mul, Nat.one_mul, nI_add, nI_leI, nI_ltI, nI_eq, nI_mul, sz_c n hn, show ¬ 10 ≤ 2 from by omega, Nat.reduceAdd]
  done
/-- the tables of digits -/
def dgT (H : zH) : Prop := (∃ gT, H.2.2 5 = .inl (3, 100, .inl gT) ∧ ∀ j, j < 100 → gT j = nI (48 + j / 10)) ∧ ∃ gO, H.2.2 6 = .inl (3, 100, .inl gO) ∧ ∀ j, j < 100 → gO j = nI (48 + j % 10)
theorem dgT.to (h : dgT H) (hz : ∀ q, q < 100 → H1.2.2 q = H.2.2 q) : dgT H1 := by
  obtain ⟨⟨gT, h1, h2⟩, ⟨gO, h3, h4⟩⟩ := h
  exact ⟨⟨gT, (hz 5 (by omega)).trans h1, h2⟩, ⟨gO, (hz 6 (by omega)).trans h3, h4⟩⟩
theorem dgT_at (h : dgT H) {j : Nat} (hj : j < 100) : (∀ (β : Type) (f : Int32 → Option β), zli H 5 3 (nI j) f = f (nI (48 + j / 10))) ∧ ∀ (β : Type) (f : Int32 → Option β), zli H 6 3 (nI j) f = f (nI (48 + j % 10)) := by
  obtain ⟨⟨gT, h1, h2⟩, ⟨gO, h3, h4⟩⟩ := h
  exact ⟨fun _ f => by rw [li_c h1 hj (by omega) f, h2 j hj], fun _ f => by rw [li_c h3 hj (by omega) f, h4 j hj]⟩
theorem s_getC1 {k : Nat} (hG : sbG H sb p cap ml g t) (hd : dgT H) (hn : n < 10) (hk : k < cap) : ev 143 [.int (nI n), .int (nI (k + 1)), .ref p] H = some (some (.int (nI k)), zset H p (.inl (3, cap, .inl (upd g k (nI (48 + n)))))) := by
  have hp1 := hG.2.2.2.2.2.2.2.1
  have hc := hG.2.2.2.1
  have e1 : nI (k + 1) + (-1) = nI k := by
    have := nI_pred k
    rw [← this]; exact (Int32.sub_eq_add_neg _ _).symm
  have k1 : ∀ (β : Type) (f : zH → Option β), zsi H p 3 (nI k) (nI (48 + n)) f = f (zset H p (.inl (3, cap, .inl (upd g k (nI (48 + n)))))) := fun _ f => si_c hG.2.1 hk (by omega) hp1 _ f
  have k2 := dgT_at hd (show n < 100 by omega)
  rw [show n % 10 = n by omega] at k2
  simp (implicitDefEqProofs := false) (disch := omega) only [ze_143, zr_143_0, zr_143_1, zr_143_3, zr_143_4, zr_143_7, zr_143_8, zr_143_11, zr_143_12, zr_143_14, zr_143_16, zr_143_19, zr_143_20, zr_143_21, zr_143_23, zr_143_25, zr_143_28, zr_143_29, zr_143_31, zr_143_32, zr_143_33, zr_143_34, zr_143_36, zr_143_37, zr_143_38, zr_143_39, zr_143_41, zr_143_42, zr_143_43, zr_143_44, zr_143_47, zr_143_49, zr_143_52, zr_143_54, zr_143_55, zr_143_56, zr_143_57, zr_143_60, zr_143_62, zr_143_65, zr_143_67, zr_143_68, zr_143_69, zr_143_72, zr_143_73, zr_143_76, zr_143_78, zr_143_81, zr_143_82, zr_143_83, zr_143_84, zr_143_85, zr_143_86, zr_143_88, zr_143_91, zr_143_92, zr_143_95, zr_143_97, zr_143_100, zr_143_101, zr_143_102, zr_143_103, zr_143_104, zr_143_106, zr_143_109, zr_143_110, zr_143_113, zr_143_115, zr_143_117, zr_143_118, zr_143_120, true_or, or_true, true_and, and_true, if_true, if_false, ldA_ref, ldA_null, nl_int, nl_ref, nl_fl, nl_null, c1_int, c1_ref, c1_null, Nat.zero_add, Nat.zero_mul, Nat.one_mul, nI_add, nI_leI, nI_ltI, nI_eq, nI_mul, show 0 ≤ n from by omega, show ¬ n < 0 from by omega]
  rw [zl_143_22]
  simp (implicitDefEqProofs := false) (disch := omega) only [ze_143, zr_143_0, zr_143_1, zr_143_3, zr_143_4, zr_143_7, zr_143_8, zr_143_11, zr_143_12, zr_143_14, zr_143_16, zr_143_19, zr_143_20, zr_143_21, zr_143_23, zr_143_25, zr_143_28, zr_143_29, zr_143_31, zr_143_32, zr_143_33, zr_143_34, zr_143_36, zr_143_37, zr_143_38, zr_143_39, zr_143_41, zr_143_42, zr_143_43, zr_143_44, zr_143_47, zr_143_49, zr_143_52, zr_143_54, zr_143_55, zr_143_56, zr_143_57, zr_143_60, zr_143_62, zr_143_65, zr_143_67, zr_143_68, zr_143_69, zr_143_72, zr_143_73, zr_143_76, zr_143_78, zr_143_81, zr_143_82, zr_143_83, zr_143_84, zr_143_85, zr_143_86, zr_143_88, zr_143_91, zr_143_92, zr_143_95, zr_143_97, zr_143_100, zr_143_101, zr_143_102, zr_143_103, zr_143_104, zr_143_106, zr_143_109, zr_143_110, zr_143_113, zr_143_115, zr_143_117, zr_143_118, zr_143_120, true_or, or_true, true_and, and_true, if_true, if_false, ldA_ref, ldA_null, nl_int, nl_ref, nl_fl, nl_null, c1_int, c1_ref, c1_null, Nat.zero_add, Nat.zero_mul, Nat.one_mul, nI_add, nI_leI, nI_ltI, nI_eq, nI_mul, sz_d n (by omega), sz_h n (by omega), sz_f n hn, sz_g n (by omega), e1, k2, narB (48 + n) (by omega), k1, c1_int, c1_ref]
  done
theorem s_getC2 {k : Nat} (hG : sbG H sb p cap ml g t) (hd : dgT H) (hn : n < 100) (h10 : 10 ≤ n) (hk : k + 1 < cap) : ev 143 [.int (nI n), .int (nI (k + 2)), .ref p] H = some (some (.int (nI k)), zset H p (.inl (3, cap, .inl (upd (upd g (k + 1) (nI (48 + n % 10))) k (nI (48 + n / 10)))))) := by
  have hp1 := hG.2.2.2.2.2.2.2.1
  have hc := hG.2.2.2.1
  have e1 : nI (k + 2) + (-1) = nI (k + 1) := by
    have := nI_pred (k + 1)
    rw [← this]; exact (Int32.sub_eq_add_neg _ _).symm
  have e2 : nI (k + 1) + (-1) = nI k := by
    have := nI_pred k
    rw [← this]; exact (Int32.sub_eq_add_neg _ _).symm
  have k1 : ∀ (β : Type) (f : zH → Option β), zsi H p 3 (nI (k + 1)) (nI (48 + n % 10)) f = f (zset H p (.inl (3, cap, .inl (upd g (k + 1) (nI (48 + n % 10)))))) := fun _ f => si_c hG.2.1 hk (by omega) hp1 _ f
  have k3 : ∀ (β : Type) (f : zH → Option β), zsi (zset H p (.inl (3, cap, .inl (upd g (k + 1) (nI (48 + n % 10)))))) p 3 (nI k) (nI (48 + n / 10)) f = f (zset (zset H p (.inl (3, cap, .inl (upd g (k + 1) (nI (48 + n % 10)))))) p (.inl (3, cap, .inl (upd (upd g (k + 1) (nI (48 + n % 10))) k (nI (48 + n / 10)))))) := fun _ f => si_c (zset_at _ _) (by omega) (by omega) hp1 _ f
  have k4 : ∀ u v : zC, zset (zset H p u) p v = zset H p v := fun u v => by
    refine Prod.ext rfl (Prod.ext rfl (funext fun q => ?_))
    show (if q = p then v else if q = p then u else H.2.2 q) = if q = p then v else H.2.2 q
    by_cases hq : q = p
    · rw [if_pos hq, if_pos hq]
    · rw [if_neg hq, if_neg hq, if_neg hq]
  have k2 := dgT_at hd hn
  have hd2 : dgT (zset H p (.inl (3, cap, .inl (upd g (k + 1) (nI (48 + n % 10)))))) := hd.to fun q hq => zset_ne (by omega)
  have k5 := dgT_at hd2 hn
  simp (implicitDefEqProofs := false) (disch := omega) only [ze_143, zr_143_0, zr_143_1, zr_143_3, zr_143_4, zr_143_7, zr_143_8, zr_143_11, zr_143_12, zr_143_14, zr_143_16, zr_143_19, zr_143_20, zr_143_21, zr_143_23, zr_143_25, zr_143_28, zr_143_29, zr_143_31, zr_143_32, zr_143_33, zr_143_34, zr_143_36, zr_143_37, zr_143_38, zr_143_39, zr_143_41, zr_143_42, zr_143_43, zr_143_44, zr_143_47, zr_143_49, zr_143_52, zr_143_54, zr_143_55, zr_143_56, zr_143_57, zr_143_60, zr_143_62, zr_143_65, zr_143_67, zr_143_68, zr_143_69, zr_143_72, zr_143_73, zr_143_76, zr_143_78, zr_143_81, zr_143_82, zr_143_83, zr_143_84, zr_143_85, zr_143_86, zr_143_88, zr_143_91, zr_143_92, zr_143_95, zr_143_97, zr_143_100, zr_143_101, zr_143_102, zr_143_103, zr_143_104, zr_143_106, zr_143_109, zr_143_110, zr_143_113, zr_143_115, zr_143_117, zr_143_118, zr_143_120, true_or, or_true, true_and, and_true, if_true, if_false, ldA_ref, ldA_null, nl_int, nl_ref, nl_fl, nl_null, c1_int, c1_ref, c1_null, Nat.zero_add, Nat.zero_mul, Nat.one_mul, nI_add, nI_leI, nI_ltI, nI_eq, nI_mul, show 0 ≤ n from by omega, show ¬ n < 0 from by omega]
  rw [zl_143_22]
  simp (implicitDefEqProofs := false) (disch := omega) only [ze_143, zr_143_0, zr_143_1, zr_143_3, zr_143_4, zr_143_7, zr_143_8, zr_143_11, zr_143_12, zr_143_14, zr_143_16, zr_143_19, zr_143_20, zr_143_21, zr_143_23, zr_143_25, zr_143_28, zr_143_29, zr_143_31, zr_143_32, zr_143_33, zr_143_34, zr_143_36, zr_143_37, zr_143_38, zr_143_39, zr_143_41, zr_143_42, zr_143_43, zr_143_44, zr_143_47, zr_143_49, zr_143_52, zr_143_54, zr_143_55, zr_143_56, zr_143_57, zr_143_60, zr_143_62, zr_143_65, zr_143_67, zr_143_68, zr_143_69, zr_143_72, zr_143_73, zr_143_76, zr_143_78, zr_143_81, zr_143_82, zr_143_83, zr_143_84, zr_143_85, zr_143_86, zr_143_88, zr_143_91, zr_143_92, zr_143_95, zr_143_97, zr_143_100, zr_143_101, zr_143_102, zr_143_103, zr_143_104, zr_143_106, zr_143_109, zr_143_110, zr_143_113, zr_143_115, zr_143_117, zr_143_118, zr_143_120, true_or, or_true, true_and, and_true, if_true, if_false, ldA_ref, ldA_null, nl_int, nl_ref, nl_fl, nl_null, c1_int, c1_ref, c1_null, Nat.zero_add, Nat.zero_mul, Nat.one_mul, nI_add, nI_leI, nI_ltI, nI_eq, nI_mul, sz_d n (by omega), sz_h n (by omega), sz_e n hn h10, sz_g n (by omega), e1, e2, k2, k5, narB (48 + n % 10) (by omega), narB (48 + n / 10) (by omega), k1, k3, k4, c1_int, c1_ref]
  done
theorem s_appI {n : Nat} (hS : sbB H sb cap t) (hd : dgT H) (hsb : 100 ≤ sb) (hs2 : sb < 100 + H.1) (hl : t.length + 2 ≤ N) (hN : N ≤ 40000) (hcN : cap ≤ 90000) (hn : n < 100) : ∃ H' cap', ev 140 [.ref sb, .int (nI n)] H = some (some (.ref sb), H') ∧ sbB H' sb cap' (t ++ dg2 n) ∧ cap' ≤ 90000 ∧ txF H' H sb cap cap' N := by
  obtain ⟨p0, ml0, g0, h0⟩ := hS
  by_cases h10 : n < 10
  · obtain ⟨H1, c1, e1, ⟨p, ml, g, h⟩, hq, hc9, f1⟩ := s_ens (q := t.length + 1) ⟨p0, ml0, g0, h0⟩ hsb hs2 (show t.length + 1 ≤ N by omega) hN hcN
    have hd1 : dgT H1 := hd.to (f1.sta hsb)
    have hpn := h.2.2.2.2.2.2.1
    have hg := s_getC1 (k := t.length) h hd1 h10 hq
    have hsz := s_size1 (H := H) h10
    have hl1 := s_isL1 h
    have kb := bytB_upd h.2.2.2.2.1 t.length (48 + n) (by omega)
    have h2 : sbG (zset H1 p (.inl (3, c1, .inl (upd g t.length (nI (48 + n)))))) sb p c1 ml (upd g t.length (nI (48 + n))) t := ⟨(zset_ne (Ne.symm hpn)).trans h.1, zset_at _ _, h.2.2.1, h.2.2.2.1, kb, fun j c hj => by
      obtain ⟨a1, a2⟩ := h.2.2.2.2.2.1 j c hj
      have hjl : j < t.length := (List.getElem?_eq_some_iff.mp hj).1
      refine ⟨a1, ?_⟩
      show (if j = t.length then _ else g j) = nI c
      rw [if_neg (by omega)]; exact a2, hpn, h.2.2.2.2.2.2.2.1, h.2.2.2.2.2.2.2.2⟩
    have k9 : ∀ (β : Type) (f : zH → Option β), _ := fun β f => zb_pf3 (β := β) h2 hsb (t.length + 1) f
    have e0 : dg2 n = [48 + n] := if_pos h10
    rw [e0]
    refine ⟨zset (zset H1 p (.inl (3, c1, .inl (upd g t.length (nI (48 + n)))))) sb (sbO p ml (t.length + 1)), c1, ?_, ⟨p, ml, upd g t.length (nI (48 + n)), by rw [zset_at, List.length_append]; rfl, (zset_ne hpn).trans (zset_at _ _), by rw [List.length_append]; exact hq, h.2.2.2.1, kb, fun j d hj => ?_, hpn, h.2.2.2.2.2.2.2.1, h.2.2.2.2.2.2.2.2⟩, hc9, txF.tr (H1 := H1) (c1 := c1) ⟨Nat.le_refl _, Or.inl rfl, Nat.le_refl _, Nat.le_refl _, Nat.le_refl _, fun q2 h1 h2 h3 => ?_⟩ f1⟩
    · simp (implicitDefEqProofs := false) (disch := omega) only [ze_140, zr_140_0, zr_140_1, zr_140_2, zr_140_5, zr_140_6, zr_140_7, ze_141, zr_141_0, zr_141_1, zr_141_4, zr_141_5, zr_141_6, zr_141_7, zr_141_10, zr_141_11, zr_141_12, zr_141_13, zr_141_14, zr_141_17, zr_141_18, zr_141_21, zr_141_24, zr_141_25, zr_141_26, zr_141_27, zr_141_30, zr_141_33, zr_141_34, zr_141_37, zr_141_38, zr_141_39, zr_141_40, zr_141_41, zr_141_44, zr_141_47, zr_141_48, zr_141_49, zr_141_50, zr_141_53, zr_141_54, true_or, or_true, true_and, and_true, if_true, if_false, ldA_ref, ldA_null, nl_int, nl_ref, nl_fl, nl_null, c1_int, c1_ref, c1_null, Nat.zero_add, Nat.zero_mul, Nat.one_mul, nI_add, nI_leI, nI_ltI, nI_eq, nI_mul, zb_at h0, hsz, e1, zb_at h, hl1, hg, k9, show ¬ (1 : Nat) = 0 from by omega, zcall_some, zpush_some, zpush_none, zsum_ref, zsum_int, zsum_long, zsum_nil, zsum_null, Nat.reduceAdd, Nat.reduceLeDiff, if_true]
      done
    · rcases app_at hj with hj | ⟨rfl, rfl⟩
      · exact h2.2.2.2.2.2.1 j d hj
      · exact ⟨by omega, if_pos rfl⟩
    · have hp9 := h.2.2.2.2.2.2.2.1
      have h4 : q2 ≠ p := fun h5 => h3.elim (fun h6 => h6 (by rw [h5, kd_kc, h.2.1]; rfl)) (fun h6 => by omega)
      rw [zset_ne h1, zset_ne h4]
  · obtain ⟨H1, c1, e1, ⟨p, ml, g, h⟩, hq, hc9, f1⟩ := s_ens (q := t.length + 2) ⟨p0, ml0, g0, h0⟩ hsb hs2 hl hN hcN
    have hd1 : dgT H1 := hd.to (f1.sta hsb)
    have hpn := h.2.2.2.2.2.2.1
    have hg := s_getC2 (k := t.length) h hd1 hn (by omega) (by omega)
    have hsz := s_size2 (H := H) hn (by omega)
    have hl1 := s_isL1 h
    have kb := bytB_upd (bytB_upd h.2.2.2.2.1 (t.length + 1) (48 + n % 10) (by omega)) t.length (48 + n / 10) (by omega)
    generalize hgg : upd (upd g (t.length + 1) (nI (48 + n % 10))) t.length (nI (48 + n / 10)) = g2 at hg kb
    have gat : ∀ j, g2 j = if j = t.length then nI (48 + n / 10) else if j = t.length + 1 then nI (48 + n % 10) else g j := fun j => by rw [← hgg]; rfl
    have h2 : sbG (zset H1 p (.inl (3, c1, .inl g2))) sb p c1 ml g2 t := ⟨(zset_ne (Ne.symm hpn)).trans h.1, zset_at _ _, h.2.2.1, h.2.2.2.1, kb, fun j c hj => by
      obtain ⟨a1, a2⟩ := h.2.2.2.2.2.1 j c hj
      have hjl : j < t.length := (List.getElem?_eq_some_iff.mp hj).1
      refine ⟨a1, ?_⟩
      rw [gat, if_neg (by omega), if_neg (by omega)]; exact a2, hpn, h.2.2.2.2.2.2.2.1, h.2.2.2.2.2.2.2.2⟩
    have k9 : ∀ (β : Type) (f : zH → Option β), _ := fun β f => zb_pf3 (β := β) h2 hsb (t.length + 2) f
    have e0 : dg2 n = [48 + n / 10] ++ [48 + n % 10] := if_neg h10
    rw [e0, ← List.append_assoc]
    refine ⟨zset (zset H1 p (.inl (3, c1, .inl g2))) sb (sbO p ml (t.length + 2)), c1, ?_, ⟨p, ml, g2, by rw [zset_at, List.length_append, List.length_append]; rfl, (zset_ne hpn).trans (zset_at _ _), by rw [List.length_append, List.length_append]; exact hq, h.2.2.2.1, kb, fun j d hj => ?_, hpn, h.2.2.2.2.2.2.2.1, h.2.2.2.2.2.2.2.2⟩, hc9, txF.tr (H1 := H1) (c1 := c1) ⟨Nat.le_refl _, Or.inl rfl, Nat.le_refl _, Nat.le_refl _, Nat.le_refl _, fun q2 h1 h2 h3 => ?_⟩ f1⟩
    · simp (implicitDefEqProofs := false) (disch := omega) only [ze_140, zr_140_0, zr_140_1, zr_140_2, zr_140_5, zr_140_6, zr_140_7, ze_141, zr_141_0, zr_141_1, zr_141_4, zr_141_5, zr_141_6, zr_141_7, zr_141_10, zr_141_11, zr_141_12, zr_141_13, zr_141_14, zr_141_17, zr_141_18, zr_141_21, zr_141_24, zr_141_25, zr_141_26, zr_141_27, zr_141_30, zr_141_33, zr_141_34, zr_141_37, zr_141_38, zr_141_39, zr_141_40, zr_141_41, zr_141_44, zr_141_47, zr_141_48, zr_141_49, zr_141_50, zr_141_53, zr_141_54, true_or, or_true, true_and, and_true, if_true, if_false, ldA_ref, ldA_null, nl_int, nl_ref, nl_fl, nl_null, c1_int, c1_ref, c1_null, Nat.zero_add, Nat.zero_mul, Nat.one_mul, nI_add, nI_leI, nI_ltI, nI_eq, nI_mul, zb_at h0, hsz, e1, zb_at h, hl1, hg, k9, show ¬ (1 : Nat) = 0 from by omega, zcall_some, zpush_some, zpush_none, zsum_ref, zsum_int, zsum_long, zsum_nil, zsum_null, Nat.reduceAdd, Nat.reduceLeDiff, if_true]
      done
    · rcases app_at hj with hj | ⟨rfl, rfl⟩
      · rcases app_at hj with hj | ⟨rfl, rfl⟩
        · exact h2.2.2.2.2.2.1 j d hj
        · exact ⟨by omega, by rw [gat, if_pos rfl]⟩
      · refine ⟨by omega, ?_⟩
        rw [List.length_append, gat, if_neg (by simp), if_pos (by simp)]
    · have hp9 := h.2.2.2.2.2.2.2.1
      have h4 : q2 ≠ p := fun h5 => h3.elim (fun h6 => h6 (by rw [h5, kd_kc, h.2.1]; rfl)) (fun h6 => by omega)
      rw [zset_ne h1, zset_ne h4]
end
