/-! THE REFERENCE: sums of lines; lines added, as lists -/
section
variable {m e n mo : Nat} {r : Rst} {h : zH} {l : List Ln}
theorem pSum_take (l : List Ln) {i : Nat} (hi : i < l.length) : pSum (l.take (i + 1)) = pSum (l.take i) + (lk l i).2.2.2 := by
  rw [← pSum_app]
  congr 1
  rw [List.take_succ, List.getElem?_eq_getElem hi]
  unfold lk
  rw [List.getD_eq_getElem?_getD, List.getElem?_eq_getElem hi]
  rfl
theorem rLines_lk (hL : rLines r e mo l) {i : Nat} (hi : i < l.length) : rS r (rLp e mo i) = (lk l i).1.toInt64 ∧ rS r (rLp e mo i + 1) = (lk l i).2.1.toInt64 ∧ rS r (rLp e mo i + 2) = (lk l i).2.2.1.toInt64 ∧ rS r (rLp e mo i + 3) = (lk l i).2.2.2 := by
  have h1 : l[i]? = some (lk l i) := by
    unfold lk
    rw [List.getD_eq_getElem?_getD, List.getElem?_eq_getElem hi]; rfl
  exact hL.2.2 i _ h1
theorem s_rsolL (he : e < 3) (hmo : mo < 12) (hL : rLines r e mo l) : ∀ (j i : Nat), i + j = l.length → rn 242 5 [.ref m, .int (nI e), .int (nI mo), .long (pSum (l.take i)), .float 0, .int (nI i)] [] (putM m r h) = some (some (.long (pSum l)), putM m r h) := by
  have hn := hL.2.1
  have b1 : rX e (147 + mo) < 8271 := by unfold rX; omega
  intro j
  induction j with
  | zero =>
    intro i hi
    rw [Nat.add_zero] at hi
    subst hi
    rw [List.take_length, zl_242_5]
    simp (implicitDefEqProofs := false) (disch := omega) only [ze_242, zr_242_0, zr_242_1, zr_242_2, zr_242_3, zr_242_7, zr_242_8, zr_242_9, zr_242_10, zr_242_13, zr_242_14, zr_242_15, zr_242_18, zr_242_19, zr_242_22, zr_242_23, zr_242_24, zr_242_27, zr_242_28, zr_242_29, zr_242_31, zr_242_34, zr_242_35, zr_242_36, zr_242_37, zr_242_38, zr_242_39, zr_242_42, zr_242_45, zr_242_46, true_or, or_true, true_and, and_true, if_true, if_false, ldA_ref, ldA_null, nl_int, nl_ref, nl_fl, nl_null, c1_int, c1_ref, c1_null, kd_M, Nat.zero_add, Nat.zero_mul, Nat.one_mul, nI_add, nI_leI, nI_ltI, nI_eq, nI_mul, cmp_lt, cmp_gt, cmp_le, cmp_ge, cmp_eq, s_of b1, hL.1, l64_lt, l64_le, Nat.le_refl, zcall_some, zpush_some, zpush_none, zsum_ref, zsum_int, zsum_long, zsum_nil, zsum_null, Nat.reduceAdd, Nat.reduceLeDiff, if_true]
  | succ j ih =>
    intro i hi
    have hi2 : i < l.length := by omega
    have e1 := ih (i + 1) (by omega)
    rw [pSum_take l hi2] at e1
    have b2 : rLp e mo i + 3 < 8271 := by unfold rLp rX; omega
    rw [zl_242_5]
    simp (implicitDefEqProofs := false) (disch := omega) only [ze_242, zr_242_0, zr_242_1, zr_242_2, zr_242_3, zr_242_7, zr_242_8, zr_242_9, zr_242_10, zr_242_13, zr_242_14, zr_242_15, zr_242_18, zr_242_19, zr_242_22, zr_242_23, zr_242_24, zr_242_27, zr_242_28, zr_242_29, zr_242_31, zr_242_34, zr_242_35, zr_242_36, zr_242_37, zr_242_38, zr_242_39, zr_242_42, zr_242_45, zr_242_46, true_or, or_true, true_and, and_true, if_true, if_false, ldA_ref, ldA_null, nl_int, nl_ref, nl_fl, nl_null, c1_int, c1_ref, c1_null, kd_M, Nat.zero_add, Nat.zero_mul, Nat.one_mul, nI_add, nI_leI, nI_ltI, nI_eq, nI_mul, cmp_lt, cmp_gt, cmp_le, cmp_ge, cmp_eq, s_of b1, hL.1, l64_lt, l64_le, show ¬ l.length ≤ i from by omega, gf_M0, s_rlineAt, lj_M1 b2, (rLines_lk hL hi2).2.2.2, zcall_some, zpush_some, zpush_none, zsum_ref, zsum_int, zsum_long, zsum_nil, zsum_null, Nat.reduceAdd, Nat.reduceLeDiff, if_true]
    exact e1
theorem s_rsol (he : e < 3) (hmo : mo < 12) (hL : rLines r e mo l) : ev 242 [.ref m, .int (nI e), .int (nI mo)] (putM m r h) = some (some (.long (pSum l)), putM m r h) := by
  simp (implicitDefEqProofs := false) (disch := omega) only [ze_242, zr_242_0, zr_242_1, zr_242_2, zr_242_3, zr_242_7, zr_242_8, zr_242_9, zr_242_10, zr_242_13, zr_242_14, zr_242_15, zr_242_18, zr_242_19, zr_242_22, zr_242_23, zr_242_24, zr_242_27, zr_242_28, zr_242_29, zr_242_31, zr_242_34, zr_242_35, zr_242_36, zr_242_37, zr_242_38, zr_242_39, zr_242_42, zr_242_45, zr_242_46, true_or, or_true, true_and, and_true, if_true, if_false, ldA_ref, ldA_null, nl_int, nl_ref, nl_fl, nl_null, c1_int, c1_ref, c1_null]
  exact s_rsolL he hmo hL l.length 0 (by omega)
end
