/-! THE REFERENCE: sums of lines; lines added, as lists -/
section
variable {m e n mo : Nat} {r : Rst} {h : zH} {l : List Ln}
theorem pSum_take (l : List Ln) {i : Nat} (hi : i < l.length) : pSum (l.take (i + 1)) = pSum (l.take i) + (lk l i).2.2.2 := by
  rw [← pSum_app]
  congr 1
  rw [List.take_succ, List.getElem?_eq_getElem hi]
  unfold lk
  rw [List.getD_eq_getElem?_getD, List.getElem?_eq_getElem hi]
  rfl
theorem rLines_lk (hL : rLines r e mo l) {i : Nat} (hi : i < l.length) : rS r (rLp e mo i) = (lk l i).1.toInt64 ∧ rS r (rLp e mo i + 1) = (lk l i).2.1.toInt64 ∧ rS r (rLp e mo i + 2) = (lk l i).2.2.1.toInt64 ∧ rS r (rLp e mo i + 3) = (lk l i).2.2.2 := by
  have h1 : l[i]? = some (lk l i) := by
    unfold lk
    rw [List.getD_eq_getElem?_getD, List.getElem?_eq_getElem hi]; rfl
  exact hL.2.2 i _ h1
theorem s_rsolL (he : e < 3) (hmo : mo < 12) (hL : rLines r e mo l) : ∀ (j i : Nat), i + j = l.length → rn 248 5 [.ref m, .int (nI e), .int (nI mo), .long (pSum (l.take i)), .float 0, .int (nI i)] [] (putM m r h) = some (some (.long (pSum l)), putM m r h) := by
  have hn := hL.2.1
  have b1 : rX e (147 + mo) < 8271 := by unfold rX; omega
  intro j
  induction j with
  | zero =>
    intro i hi
    rw [Nat.add_zero] at hi
    subst hi
    rw [List.take_length, zl_248_5]
    simp (implicitDefEqProofs := false) (disch := omega) only [ze_248, zr_248_0, zr_248_1, zr_248_2, zr_248_3, zr_248_7, zr_248_8, zr_248_9, zr_248_10, zr_248_13, zr_248_14, zr_248_15, zr_248_18, zr_248_19, zr_248_22, zr_248_23, zr_248_24, zr_248_27, zr_248_28, zr_248_29, zr_248_31, zr_248_34, zr_248_35, zr_248_36, zr_248_37, zr_248_38, zr_248_39, zr_248_42, zr_248_45, zr_248_46, true_or, or_true, true_and, and_true, if_true, if_false, ldA_ref, ldA_null, nl_int, nl_ref, nl_fl, nl_null, c1_int, c1_ref, c1_null, kd_M, Nat.zero_add, Nat.zero_mul, Nat.one_mul, nI_add, nI_leI, nI_ltI, nI_eq, nI_mul, cmp_lt, cmp_gt, cmp_le, cmp_ge, cmp_eq, s_of b1, hL.1, l64_lt, l64_le, Nat.le_refl, zcall_some, zpush_some, zpush_none, zsum_ref, zsum_int, zsum_long, zsum_nil, zsum_null, Nat.reduceAdd, Nat.reduceLeDiff, if_true]
  | succ j ih =>
    intro i hi
    have hi2 : i < l.length := by omega
    have e1 := ih (i + 1) (by omega)
    rw [pSum_take l hi2] at e1
    have b2 : rLp e mo i + 3 < 8271 := by unfold rLp rX; omega
    rw [zl_248_5]
    simp (implicitDefEqProofs := false) (disch := omega) only [ze_248, zr_248_0, zr_248_1, zr_248_2, zr_248_3, zr_248_7, zr_248_8, zr_248_9, zr_248_10, zr_248_13, zr_248_14, zr_248_15, zr_248_18, zr_248_19, zr_248_22, zr_248_23, zr_248_24, zr_248_27, zr_248_28, zr_248_29, zr_248_31, zr_248_34, zr_248_35, zr_248_36, zr_248_37, zr_248_38, zr_248_39, zr_248_42, zr_248_45, zr_248_46, true_or, or_true, true_and, and_true, if_true, if_false, ldA_ref, ldA_null, nl_int, nl_ref, nl_fl, nl_null, c1_int, c1_ref, c1_null, kd_M, Nat.zero_add, Nat.zero_mul, Nat.one_mul, nI_add, nI_leI, nI_ltI, nI_eq, nI_mul, cmp_lt, cmp_gt, cmp_le, cmp_ge, cmp_eq, s_of b1, hL.1, l64_lt, l64_le, show ¬ l.length ≤ i from by omega, gf_M0, s_rlineAt, lj_M1 b2, (rLines_lk hL hi2).2.2.2, zcall_some, zpush_some, zpush_none, zsum_ref, zsum_int, zsum_long, zsum_nil, zsum_null, Nat.reduceAdd, Nat.reduceLeDiff, if_true]
    exact e1
theorem s_rsol (he : e < 3) (hmo : mo < 12) (hL : rLines r e mo l) : ev 248 [.ref m, .int (nI e), .int (nI mo)] (putM m r h) = some (some (.long (pSum l)), putM m r h) := by
  simp (implicitDefEqProofs := false) (disch := omega) only [ze_248, zr_248_0, zr_248_1, zr_248_2, zr_248_3, zr_248_7, zr_248_8, zr_248_9, zr_248_10, zr_248_13, zr_248_14, zr_248_15, zr_248_18, zr_248_19, zr_248_22, zr_248_23, zr_248_24, zr_248_27, zr_248_28, zr_248_29, zr_248_31, zr_248_34, zr_248_35, zr_248_36, zr_248_37, zr_248_38, zr_248_39, zr_248_42, zr_248_45, zr_248_46, true_or, or_true, true_and, and_true, if_true, if_false, ldA_ref, ldA_null, nl_int, nl_ref, nl_fl, nl_null, c1_int, c1_ref, c1_null]
  exact s_rsolL he hmo hL l.length 0 (by omega)
end
