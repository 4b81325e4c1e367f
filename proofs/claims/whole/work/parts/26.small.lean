/-! SMALL METHODS: ranges -/
def bI (c : Prop) [Decidable c] : Int32 := if c then nI 1 else nI 0
theorem bI_0 (c : Prop) [Decidable c] : (bI c = nI 0) ↔ ¬ c := by
  unfold bI
  by_cases h : c
  · rw [if_pos h]; exact ⟨fun e => absurd e (by decide), fun e => absurd h e⟩
  · rw [if_neg h]; exact ⟨fun _ => h, fun _ => rfl⟩
theorem bI_ok (c : Prop) [Decidable c] : (bI c = nI 0 ∨ bI c = nI 1) ↔ True := by
  unfold bI
  by_cases h : c
  · rw [if_pos h]; exact ⟨fun _ => trivial, fun _ => .inr rfl⟩
  · rw [if_neg h]; exact ⟨fun _ => trivial, fun _ => .inl rfl⟩
theorem le_pred {i : Int32} {n : Nat} (hn : n < 2 ^ 31) : (i ≤ nI n - nI 1) ↔ i < nI n := by
  have h1 : (nI n).toInt = (n : Int) := nI_toInt hn
  have h2 : (nI n - nI 1).toInt = (n : Int) - 1 := by
    rw [Int32.toInt_sub, h1, nI_toInt (by omega)]
    exact Int.bmod_eq_of_le (by omega) (by omega)
  rw [Int32.le_iff_toInt_le, Int32.lt_iff_toInt_lt, h1, h2]
  omega
theorem s_within (v lo hi : Int32) (H : zH) : ev 24 [.int v, .int lo, .int hi] H = some (some (.int (bI (lo ≤ v ∧ v ≤ hi))), H) := by
  simp (implicitDefEqProofs := false) (disch := omega) only [ze_24, zr_24_0, zr_24_1, zr_24_2, zr_24_5, zr_24_6, zr_24_7, zr_24_10, zr_24_11, zr_24_14, zr_24_15, true_or, or_true, true_and, and_true, if_true, if_false, ldA_ref, ldA_null, nl_int, nl_ref, nl_fl, nl_null, c1_int, c1_ref, c1_null]
  unfold bI
  by_cases h1 : v < lo
  · rw [if_pos h1, if_neg (fun h => absurd h.1 (Int32.not_le.mpr h1))]
  · rw [if_neg h1]
    by_cases h2 : hi < v
    · rw [if_pos h2, if_neg (fun h => absurd h.2 (Int32.not_le.mpr h2))]
    · rw [if_neg h2, if_pos ⟨Int32.not_lt.mp h1, Int32.not_lt.mp h2⟩]
theorem s_isEmployee (v : Int32) (H : zH) : ev 23 [.int v] H = some (some (.int (bI (nI 0 ≤ v ∧ v ≤ nI 2))), H) := by
  simp (implicitDefEqProofs := false) (disch := omega) only [ze_23, zr_23_0, zr_23_1, zr_23_2, zr_23_3, zr_23_6, true_or, or_true, true_and, and_true, if_true, if_false, ldA_ref, ldA_null, nl_int, nl_ref, nl_fl, nl_null, c1_int, c1_ref, c1_null, s_within, zcall_some, zpush_some, zpush_none, zsum_ref, zsum_int, zsum_long, zsum_nil, zsum_null, Nat.reduceAdd, Nat.reduceLeDiff, if_true, bI_ok]
theorem s_isMonth (v : Int32) (H : zH) : ev 25 [.int v] H = some (some (.int (bI (nI 0 ≤ v ∧ v ≤ nI 11))), H) := by
  simp (implicitDefEqProofs := false) (disch := omega) only [ze_25, zr_25_0, zr_25_1, zr_25_2, zr_25_4, zr_25_7, true_or, or_true, true_and, and_true, if_true, if_false, ldA_ref, ldA_null, nl_int, nl_ref, nl_fl, nl_null, c1_int, c1_ref, c1_null, s_within, zcall_some, zpush_some, zpush_none, zsum_ref, zsum_int, zsum_long, zsum_nil, zsum_null, Nat.reduceAdd, Nat.reduceLeDiff, if_true, bI_ok]
theorem s_in (v lo hi : Int32) (H : zH) : ev 205 [.int v, .int lo, .int hi] H = some (some (.int (bI (lo ≤ v ∧ v ≤ hi))), H) := by
  simp (implicitDefEqProofs := false) (disch := omega) only [ze_205, zr_205_0, zr_205_1, zr_205_2, zr_205_5, zr_205_6, zr_205_7, zr_205_10, zr_205_11, zr_205_14, zr_205_15, true_or, or_true, true_and, and_true, if_true, if_false, ldA_ref, ldA_null, nl_int, nl_ref, nl_fl, nl_null, c1_int, c1_ref, c1_null]
  unfold bI
  by_cases h1 : v < lo
  · rw [if_pos h1, if_neg (fun h => absurd h.1 (Int32.not_le.mpr h1))]
  · rw [if_neg h1]
    by_cases h2 : hi < v
    · rw [if_pos h2, if_neg (fun h => absurd h.2 (Int32.not_le.mpr h2))]
    · rw [if_neg h2, if_pos ⟨Int32.not_lt.mp h1, Int32.not_lt.mp h2⟩]
theorem s_isPerson (v : Int32) (H : zH) : ev 204 [.int v] H = some (some (.int (bI (nI 0 ≤ v ∧ v ≤ nI 2))), H) := by
  simp (implicitDefEqProofs := false) (disch := omega) only [ze_204, zr_204_0, zr_204_1, zr_204_2, zr_204_3, zr_204_6, true_or, or_true, true_and, and_true, if_true, if_false, ldA_ref, ldA_null, nl_int, nl_ref, nl_fl, nl_null, c1_int, c1_ref, c1_null, s_in, zcall_some, zpush_some, zpush_none, zsum_ref, zsum_int, zsum_long, zsum_nil, zsum_null, Nat.reduceAdd, Nat.reduceLeDiff, if_true, bI_ok]
theorem s_rMonth (v : Int32) (H : zH) : ev 206 [.int v] H = some (some (.int (bI (nI 0 ≤ v ∧ v ≤ nI 11))), H) := by
  simp (implicitDefEqProofs := false) (disch := omega) only [ze_206, zr_206_0, zr_206_1, zr_206_2, zr_206_4, zr_206_7, true_or, or_true, true_and, and_true, if_true, if_false, ldA_ref, ldA_null, nl_int, nl_ref, nl_fl, nl_null, c1_int, c1_ref, c1_null, s_in, zcall_some, zpush_some, zpush_none, zsum_ref, zsum_int, zsum_long, zsum_nil, zsum_null, Nat.reduceAdd, Nat.reduceLeDiff, if_true, bI_ok]
