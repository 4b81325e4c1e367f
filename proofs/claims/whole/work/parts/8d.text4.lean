/-! TEXTS of slips, on both sides -/
def lnX (y : Ln) : List Nat := lnT y.1.toNatClampNeg y.2.1.toNatClampNeg y.2.2.1.toNatClampNeg y.2.2.2
def slT (l : List Ln) : List Nat := (l.map lnX).flatten
theorem slT_take (l : List Ln) {i : Nat} (hi : i < l.length) : slT (l.take (i + 1)) = slT (l.take i) ++ lnX (lk l i) := by
  have h1 : l[i]? = some (lk l i) := by
    unfold lk
    rw [List.getD_eq_getElem?_getD, List.getElem?_eq_getElem hi]; rfl
  unfold slT
  rw [List.take_succ, h1, List.map_append, List.flatten_append]
  simp
theorem slT_len (l : List Ln) : (slT l).length ≤ 35 * l.length := by
  induction l with
  | nil => exact Nat.le_refl _
  | cons y l ih =>
    have h1 := lnT_len y.1.toNatClampNeg y.2.1.toNatClampNeg y.2.2.1.toNatClampNeg y.2.2.2
    show ((lnX y) ++ slT l).length ≤ 35 * (l.length + 1)
    rw [List.length_append]
    unfold lnX
    omega
section
variable {H H1 H2 : zH} {tx cap c1 c2 N p n a q : Nat} {t : List Nat} {l : List Ln} {x : Int64} {d : tyS}
theorem s_signAt {i : Int32} (h : txB H tx cap t) (hl : t.length ≤ 2000) : ev 142 [.ref tx, .int i] H = some (some (.int (rdT t i)), H) := by
  have hat := tx_at h
  obtain ⟨h1, ⟨p, ml, g, hG⟩, -⟩ := h
  have hln := s_sbLen hG
  unfold rdT
  by_cases h0 : i = -1
  · rw [if_pos h0]
    simp (implicitDefEqProofs := false) (disch := omega) only [ze_142, zr_142_0, zr_142_1, zr_142_2, zr_142_5, zr_142_6, zr_142_9, zr_142_12, zr_142_13, zr_142_14, zr_142_15, zr_142_16, zr_142_19, zr_142_22, zr_142_23, zr_142_24, zr_142_27, zr_142_30, zr_142_31, zr_142_34, zr_142_35, zr_142_38, zr_142_41, zr_142_43, true_or, or_true, true_and, and_true, if_true, if_false, ldA_ref, ldA_null, nl_int, nl_ref, nl_fl, nl_null, c1_int, c1_ref, c1_null, hat, hln, h0, zcall_some, zpush_some, zpush_none, zsum_ref, zsum_int, zsum_long, zsum_nil, zsum_null, Nat.reduceAdd, Nat.reduceLeDiff, if_true]
  · rw [if_neg h0]
    by_cases h1 : nI 0 ≤ i ∧ i < nI t.length
    · rw [if_pos h1]
      obtain ⟨k, hk, rfl⟩ := in_nI (n := t.length) (by omega) h1.1 (Int32.le_of_lt h1.2)
      have hk2 : k < t.length := by
        have := h1.2
        rw [nI_ltI (by omega) (by omega)] at this
        exact this
      rw [nI_clamp (by omega)]
      have hgd : t.getD k 0 = t[k] := by rw [List.getD_eq_getElem?_getD, List.getElem?_eq_getElem hk2]; rfl
      have hch := s_sbAt hG (List.getElem?_eq_getElem hk2)
      have hs : nI t.length - nI 1 = nI (t.length - 1) := nI_sub1 (by omega)
      simp (implicitDefEqProofs := false) (disch := omega) only [ze_142, zr_142_0, zr_142_1, zr_142_2, zr_142_5, zr_142_6, zr_142_9, zr_142_12, zr_142_13, zr_142_14, zr_142_15, zr_142_16, zr_142_19, zr_142_22, zr_142_23, zr_142_24, zr_142_27, zr_142_30, zr_142_31, zr_142_34, zr_142_35, zr_142_38, zr_142_41, zr_142_43, true_or, or_true, true_and, and_true, if_true, if_false, ldA_ref, ldA_null, nl_int, nl_ref, nl_fl, nl_null, c1_int, c1_ref, c1_null, Nat.zero_add, Nat.zero_mul, Nat.one_mul, nI_add, nI_leI, nI_ltI, nI_eq, nI_mul, hat, hln, h0, hs, s_within, bI_0, show ¬ ¬ (0 ≤ k ∧ k ≤ t.length - 1) from by omega, hch, hgd, zcall_some, zpush_some, zpush_none, zsum_ref, zsum_int, zsum_long, zsum_nil, zsum_null, Nat.reduceAdd, Nat.reduceLeDiff, if_true]
    · rw [if_neg h1]
      have h2 : ¬ (nI 0 ≤ i ∧ i ≤ nI t.length - nI 1) := fun c => h1 ⟨c.1, (le_pred (by omega)).mp c.2⟩
      simp (implicitDefEqProofs := false) (disch := omega) only [ze_142, zr_142_0, zr_142_1, zr_142_2, zr_142_5, zr_142_6, zr_142_9, zr_142_12, zr_142_13, zr_142_14, zr_142_15, zr_142_16, zr_142_19, zr_142_22, zr_142_23, zr_142_24, zr_142_27, zr_142_30, zr_142_31, zr_142_34, zr_142_35, zr_142_38, zr_142_41, zr_142_43, true_or, or_true, true_and, and_true, if_true, if_false, ldA_ref, ldA_null, nl_int, nl_ref, nl_fl, nl_null, c1_int, c1_ref, c1_null, hat, hln, h0, s_within, bI_0, h2, not_false_eq_true, zcall_some, zpush_some, zpush_none, zsum_ref, zsum_int, zsum_long, zsum_nil, zsum_null, Nat.reduceAdd, Nat.reduceLeDiff, if_true]
theorem tx_clr (h : txB H tx cap t) : ∃ H', ev 97 [.ref tx] H = some (none, H') ∧ txB H' tx cap [] ∧ txG H' H tx cap cap N := by
  obtain ⟨H', e1, s1, f1⟩ := s_sbClr (N := N) h.2.1 (by have := h.2.2.2.2.2.2.1; omega) (by have := h.2.2.2.2.2.2.2; omega) h.2.2.2.1
  refine ⟨H', ?_, txB.nx h s1 h.2.2.2.1 f1, txG.of f1⟩
  simp (implicitDefEqProofs := false) (disch := omega) only [ze_97, zr_97_0, zr_97_1, zr_97_4, zr_97_5, zr_97_8, true_or, or_true, true_and, and_true, if_true, if_false, ldA_ref, ldA_null, nl_int, nl_ref, nl_fl, nl_null, c1_int, c1_ref, c1_null, tx_at h, e1, zcall_some, zpush_some, zpush_none, zsum_ref, zsum_int, zsum_long, zsum_nil, zsum_null, Nat.reduceAdd, Nat.reduceLeDiff, if_true]
/-- a slip that is elsewhere stays -/
theorem txG.slip (f : txG H1 H tx cap c1 N) (hS : isB H q 3 (cS q d)) (hd : tx + 3 < q) (hq : q + 3 ≤ 100 + H.1) : isB H1 q 3 (cS q d) := fun k hk => by
  rw [f.2.2.2.2.2 (q + k) (by omega) (by omega) (by omega) (Or.inl (by
    rw [kd_kc, hS k hk]
    match k, hk with
    | 0, _ => exact (by decide : (7 : Nat) ≠ 1003)
    | 1, _ => exact (by decide : (1000 + 0 : Nat) ≠ 1003)
    | 2, _ => exact (by decide : (1000 + 1 : Nat) ≠ 1003)
    | k + 3, h => omega))]
  exact hS k hk
theorem s_wrSlipL (hd : tx + 3 < q) (hL : isL d l) (ok : ∀ y, y ∈ l → okLn y) : ∀ (j i : Nat) (H : zH) (cap : Nat) (v3 v4 v5 : Value), i + j = l.length → txB H tx cap (slT (l.take i)) → isB H q 3 (cS q d) → q + 3 ≤ 100 + H.1 → ∃ H' cap', rn 96 6 [.ref tx, .ref q, .int (nI i), v3, v4, v5] [] H = some (none, H') ∧ txB H' tx cap' (slT l) ∧ txG H' H tx cap cap' 2000 := by
  intro j
  induction j with
  | zero =>
    intro i H cap v3 v4 v5 hi hT hS hq
    have hi2 : i = l.length := by omega
    subst hi2
    rw [List.take_length] at hT
    refine ⟨H, cap, ?_, hT, txG.rf H tx cap 2000⟩
    have hl9 := hL.2.1
    rw [zl_96_6]
    simp (implicitDefEqProofs := false) (disch := omega) only [ze_96, zr_96_0, zr_96_1, zr_96_4, zr_96_5, zr_96_7, zr_96_8, zr_96_11, zr_96_14, zr_96_15, zr_96_17, zr_96_20, zr_96_21, zr_96_24, zr_96_25, zr_96_26, zr_96_27, zr_96_28, zr_96_31, zr_96_33, zr_96_34, zr_96_35, zr_96_36, zr_96_38, zr_96_39, zr_96_42, zr_96_44, zr_96_45, zr_96_46, zr_96_47, zr_96_49, zr_96_50, zr_96_51, zr_96_53, zr_96_55, zr_96_56, zr_96_59, zr_96_60, zr_96_61, zr_96_64, zr_96_67, zr_96_70, true_or, or_true, true_and, and_true, if_true, if_false, ldA_ref, ldA_null, nl_int, nl_ref, nl_fl, nl_null, c1_int, c1_ref, c1_null, Nat.zero_add, Nat.zero_mul, Nat.one_mul, nI_add, nI_leI, nI_ltI, nI_eq, nI_mul, rdS_0 (hS), rdS_1 (hS), rdS_2 (hS), rdS_3 (hS), rdS_4 (hS), rdS_5 (hS), rdS_6 (hS), rdS_7 (hS), rdS_8 (hS), hL.1, Nat.le_refl]
  | succ j ih =>
    intro i H cap v3 v4 v5 hi hT hS hq
    have hil : i < l.length := by omega
    have hl9 := hL.2.1
    have hmem : lk l i ∈ l := by
      have h1 : lk l i = l[i] := by
        unfold lk
        rw [List.getD_eq_getElem?_getD, List.getElem?_eq_getElem hil]; rfl
      rw [h1]; exact List.getElem_mem hil
    obtain ⟨⟨k, hk, ek⟩, ⟨ix, hix, eix⟩, ⟨re, hre, ere⟩⟩ := ok _ hmem
    obtain ⟨b1, b2, b3, b4⟩ := isL_lk hL hil
    have hsl := slT_len (l.take i)
    rw [List.length_take] at hsl
    obtain ⟨H1, c1, e1, t1, f1⟩ := tx_L (x := (lk l i).2.2.2) (k := k) (i := ix) (re := re) hT hk (by omega) (by omega) (show (slT (l.take i)).length + 35 ≤ 2000 by omega) (by omega)
    have hx : lnT k ix re (lk l i).2.2.2 = lnX (lk l i) := by
      unfold lnX
      rw [ek, eix, ere, nI_clamp (by omega), nI_clamp (by omega), nI_clamp (by omega)]
    rw [hx, ← slT_take l hil] at t1
    have f1a := f1.2.2.1
    obtain ⟨H2, c2, e2, t2, f2⟩ := ih (i + 1) H1 c1 (.int (nI k)) (.int (nI ix)) (.int (nI re)) (by omega) t1 (f1.slip hS hd hq) (by omega)
    refine ⟨H2, c2, ?_, t2, f2.tr f1⟩
    rw [← e2, zl_96_6]
    simp (implicitDefEqProofs := false) (disch := omega) only [ze_96, zr_96_0, zr_96_1, zr_96_4, zr_96_5, zr_96_7, zr_96_8, zr_96_11, zr_96_14, zr_96_15, zr_96_17, zr_96_20, zr_96_21, zr_96_24, zr_96_25, zr_96_26, zr_96_27, zr_96_28, zr_96_31, zr_96_33, zr_96_34, zr_96_35, zr_96_36, zr_96_38, zr_96_39, zr_96_42, zr_96_44, zr_96_45, zr_96_46, zr_96_47, zr_96_49, zr_96_50, zr_96_51, zr_96_53, zr_96_55, zr_96_56, zr_96_59, zr_96_60, zr_96_61, zr_96_64, zr_96_67, zr_96_70, true_or, or_true, true_and, and_true, if_true, if_false, ldA_ref, ldA_null, nl_int, nl_ref, nl_fl, nl_null, c1_int, c1_ref, c1_null, Nat.zero_add, Nat.zero_mul, Nat.one_mul, nI_add, nI_leI, nI_ltI, nI_eq, nI_mul, rdS_0 (hS), rdS_1 (hS), rdS_2 (hS), rdS_3 (hS), rdS_4 (hS), rdS_5 (hS), rdS_6 (hS), rdS_7 (hS), rdS_8 (hS), hL.1, show ¬ l.length ≤ i from by omega, show ¬ 54 ≤ i from by omega, b1, b2, b3, b4, ek, eix, ere, tx_at hT, e1, zcall_some, zpush_some, zpush_none, zsum_ref, zsum_int, zsum_long, zsum_nil, zsum_null, Nat.reduceAdd, Nat.reduceLeDiff, if_true]
    done
theorem s_wrSlip (h : txB H tx cap t) (hd : tx + 3 < q) (hS : isB H q 3 (cS q d)) (hL : isL d l) (ok : ∀ y, y ∈ l → okLn y) (hq : q + 3 ≤ 100 + H.1) : ∃ H' cap', ev 96 [.ref tx, .ref q] H = some (none, H') ∧ txB H' tx cap' (slT l) ∧ txG H' H tx cap cap' 2000 := by
  obtain ⟨H1, e1, t1, f1⟩ := tx_clr (N := 2000) h
  have f1a := f1.2.2.1
  obtain ⟨H2, c2, e2, t2, f2⟩ := s_wrSlipL hd hL ok l.length 0 H1 cap (.float 0) (.float 0) (.float 0) (by omega) t1 (f1.slip hS hd hq) (by omega)
  refine ⟨H2, c2, ?_, t2, f2.tr f1⟩
  rw [← e2]
  simp (implicitDefEqProofs := false) (disch := omega) only [ze_96, zr_96_0, zr_96_1, zr_96_4, zr_96_5, zr_96_7, zr_96_8, zr_96_11, zr_96_14, zr_96_15, zr_96_17, zr_96_20, zr_96_21, zr_96_24, zr_96_25, zr_96_26, zr_96_27, zr_96_28, zr_96_31, zr_96_33, zr_96_34, zr_96_35, zr_96_36, zr_96_38, zr_96_39, zr_96_42, zr_96_44, zr_96_45, zr_96_46, zr_96_47, zr_96_49, zr_96_50, zr_96_51, zr_96_53, zr_96_55, zr_96_56, zr_96_59, zr_96_60, zr_96_61, zr_96_64, zr_96_67, zr_96_70, true_or, or_true, true_and, and_true, if_true, if_false, ldA_ref, ldA_null, nl_int, nl_ref, nl_fl, nl_null, c1_int, c1_ref, c1_null, tx_at h, e1, zcall_some, zpush_some, zpush_none, zsum_ref, zsum_int, zsum_long, zsum_nil, zsum_null, Nat.reduceAdd, Nat.reduceLeDiff, if_true]
end
