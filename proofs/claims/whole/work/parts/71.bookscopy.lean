/-! BOOKS: copies -/
section
variable {h H : zH} {b c e n m : Nat} {s t : tyB}
/-- slips of books are slips -/
def bSl (H : zH) (t : tyB) : Prop := ∀ e m q, e < 3 → m < 12 → gW_sl (gB_wk t e) m = some q → zkd H q = 7
def pCpB (s t : tyB) : tyB := (pCpR (gB_ru s) (gB_ru t), fun i => if i < 3 then pCpW (gB_wk s i) (gB_wk t i) else gB_wk s i, gB_cl t, gB_yr t, gB_fg t)
def zkc (c : zC) : Nat := match c with
  | .inr (c, _) => c
  | .inl (t, _) => 1000 + t
theorem kd_kc (q : Nat) : zkd H q = zkc (H.2.2 q) := rfl
theorem kc_W {a : Nat} {w : tyW} : ∀ k, k < 10 → zkc (cW a w k) ≠ 7
  | 0, _ => (by decide : (10 : Nat) ≠ 7)
  | 1, _ => (by decide : (1000 + 0 : Nat) ≠ 7)
  | 2, _ => (by decide : (1000 + 0 : Nat) ≠ 7)
  | 3, _ => (by decide : (1000 + 1 : Nat) ≠ 7)
  | 4, _ => (by decide : (1000 + 5 : Nat) ≠ 7)
  | 5, _ => (by decide : (4 : Nat) ≠ 7)
  | 6, _ => (by decide : (1000 + 0 : Nat) ≠ 7)
  | 7, _ => (by decide : (1000 + 0 : Nat) ≠ 7)
  | 8, _ => (by decide : (1000 + 0 : Nat) ≠ 7)
  | 9, _ => (by decide : (1000 + 1 : Nat) ≠ 7)
  | k + 10, h => by omega
theorem kc_R {a : Nat} {w : tyR} : ∀ k, k < 5 → zkc (cR a w k) ≠ 7
  | 0, _ => (by decide : (6 : Nat) ≠ 7)
  | 1, _ => (by decide : (1000 + 0 : Nat) ≠ 7)
  | 2, _ => (by decide : (1000 + 0 : Nat) ≠ 7)
  | 3, _ => (by decide : (1000 + 0 : Nat) ≠ 7)
  | 4, _ => (by decide : (1000 + 0 : Nat) ≠ 7)
  | k + 5, h => by omega
theorem kc_B {a : Nat} {w : tyB} {k : Nat} (hk : k < 37) : zkc (cB a w k) ≠ 7 := by
  unfold cB
  by_cases h0 : k = 0
  · rw [if_pos h0]; exact (by decide : (1 : Nat) ≠ 7)
  · rw [if_neg h0]
    by_cases h1 : k = 1
    · rw [if_pos h1]; exact (by decide : (1000 + 4 : Nat) ≠ 7)
    · rw [if_neg h1]
      by_cases h2 : k < 7
      · rw [if_pos h2]; exact kc_R _ (by omega)
      · rw [if_neg h2]; exact kc_W _ (Nat.mod_lt _ (by omega))
/-- a slip is in no block of books -/
theorem sl_outB {q : Nat} (hB : isB H b 37 (cB b s)) (h7 : zkd H q = 7) : q < b ∨ b + 37 ≤ q := by
  apply Classical.byContradiction
  intro hn
  obtain ⟨k, hk1, rfl⟩ : ∃ k, k < 37 ∧ q = b + k := ⟨q - b, by omega, by omega⟩
  rw [kd_kc, hB k hk1] at h7
  exact kc_B hk1 h7
theorem sl_outW {q a : Nat} {w : tyW} (hB : isB H a 10 (cW a w)) (h7 : zkd H q = 7) : q < a ∨ a + 10 ≤ q := by
  apply Classical.byContradiction
  intro hn
  obtain ⟨k, hk1, rfl⟩ : ∃ k, k < 10 ∧ q = a + k := ⟨q - a, by omega, by omega⟩
  rw [kd_kc, hB k hk1] at h7
  exact kc_W _ hk1 h7
theorem B_cpW (hB : isB H b 37 (cB b s)) (hC : isB H c 37 (cB c t)) (hb : 100 ≤ b) (hc : 100 ≤ c) (dj : b + 37 ≤ c ∨ c + 37 ≤ b) (hs : bSl H t) (he : e < 3) : ev 19 [.ref (b + 7 + 10 * e), .ref (c + 7 + 10 * e)] H = some (none, blk b 37 (cB b (sB_w s e (pCpW (gB_wk s e) (gB_wk t e)))) H) := by
  have e1 := s_cpW (h := H) (a := b + 7 + 10 * e) (b := c + 7 + 10 * e) (s := gB_wk s e) (by omega) (by omega) (B_W hC he) (by omega) (fun m q hm hq => ⟨sl_outW (B_W hB he) (hs e m q he hm hq), hs e m q he hm hq⟩)
  rw [B_idW hB he, B_putW hB he] at e1
  exact e1
theorem B_cpR (hB : isB H b 37 (cB b s)) (hC : isB H c 37 (cB c t)) (hb : 100 ≤ b) (dj : b + 37 ≤ c ∨ c + 37 ≤ b) : ev 21 [.ref (b + 2), .ref (c + 2)] H = some (none, blk b 37 (cB b (sB_ru s (pCpR (gB_ru s) (gB_ru t)))) H) := by
  have e1 := s_cpR (h := H) (a := b + 2) (b := c + 2) (s := gB_ru s) (by omega) (B_R hC) (by omega)
  rw [B_idR hB, B_putR hB] at e1
  exact e1
theorem bSl_B (hB : isB H b 37 (cB b s)) (s2 : tyB) (hs : bSl H t) : bSl (blk b 37 (cB b s2) H) t := by
  intro e m q he hm hq
  have h7 := hs e m q he hm hq
  rw [kd_skip (sl_outB hB h7)]
  exact h7
theorem s_cpB (hB : isB H b 37 (cB b s)) (hC : isB H c 37 (cB c t)) (hb : 100 ≤ b) (hc : 100 ≤ c) (dj : b + 37 ≤ c ∨ c + 37 ≤ b) (hs : bSl H t) (hf : gB_fg t = nI 0 ∨ gB_fg t = nI 1) : ev 18 [.ref b, .ref c] H = some (none, blk b 37 (cB b (pCpB s t)) H) := by
  let s1 := sB_w s 0 (pCpW (gB_wk s 0) (gB_wk t 0))
  let s2 := sB_w s1 1 (pCpW (gB_wk s 1) (gB_wk t 1))
  let s3 := sB_w s2 2 (pCpW (gB_wk s 2) (gB_wk t 2))
  have hC2 : ∀ u, isB (blk b 37 (cB b u) H) c 37 (cB c t) := fun u => isB_skip (by omega) hC
  have e0 : ev 19 [.ref (b + 7 + 10 * 0), .ref (c + 7 + 10 * 0)] H = some (none, blk b 37 (cB b s1) H) := B_cpW hB hC hb hc dj hs (by omega)
  have e1 : ev 19 [.ref (b + 7 + 10 * 1), .ref (c + 7 + 10 * 1)] (blk b 37 (cB b s1) H) = some (none, blk b 37 (cB b s2) H) := by
    rw [B_cpW blk_isB (hC2 s1) hb hc dj (bSl_B hB s1 hs) (show 1 < 3 by omega), blk_over]; rfl
  have e2 : ev 19 [.ref (b + 7 + 10 * 2), .ref (c + 7 + 10 * 2)] (blk b 37 (cB b s2) H) = some (none, blk b 37 (cB b s3) H) := by
    rw [B_cpW blk_isB (hC2 s2) hb hc dj (bSl_B hB s2 hs) (show 2 < 3 by omega), blk_over]; rfl
  have e3 : ev 21 [.ref (b + 2), .ref (c + 2)] (blk b 37 (cB b s3) H) = some (none, blk b 37 (cB b (sB_ru s3 (pCpR (gB_ru s) (gB_ru t)))) H) := by
    rw [B_cpR blk_isB (hC2 s3) hb dj, blk_over]; rfl
  have hwx := fun (u : tyB) => wrB_x (blk_isB (a := b) (n := 37) (c := cB b u) (h := H)) hb hf
  have h3 : s3 = sB_wk s (fun i => if i < 3 then pCpW (gB_wk s i) (gB_wk t i) else gB_wk s i) := sB_3 s (fun i => pCpW (gB_wk s i) (gB_wk t i))
  have hfin : sB_fg (sB_yr (sB_cl (sB_ru s3 (pCpR (gB_ru s) (gB_ru t))) (gB_cl t)) (gB_yr t)) (gB_fg t) = pCpB s t := by rw [h3]; rfl
  simp (implicitDefEqProofs := false) (disch := omega) only [ze_18, zr_18_0, zr_18_1, zr_18_3, zr_18_4, zr_18_7, zr_18_8, zr_18_11, zr_18_12, zr_18_13, zr_18_14, zr_18_17, zr_18_18, zr_18_19, zr_18_22, zr_18_25, zr_18_28, zr_18_29, zr_18_32, zr_18_33, zr_18_36, zr_18_39, zr_18_40, zr_18_41, zr_18_44, zr_18_47, zr_18_48, zr_18_49, zr_18_52, zr_18_55, zr_18_56, zr_18_57, zr_18_60, zr_18_63, true_or, or_true, true_and, and_true, if_true, if_false, ldA_ref, ldA_null, nl_int, nl_ref, nl_fl, nl_null, c1_int, c1_ref, c1_null]
  rw [zl_18_2]
  simp (implicitDefEqProofs := false) (disch := omega) only [ze_18, zr_18_0, zr_18_1, zr_18_3, zr_18_4, zr_18_7, zr_18_8, zr_18_11, zr_18_12, zr_18_13, zr_18_14, zr_18_17, zr_18_18, zr_18_19, zr_18_22, zr_18_25, zr_18_28, zr_18_29, zr_18_32, zr_18_33, zr_18_36, zr_18_39, zr_18_40, zr_18_41, zr_18_44, zr_18_47, zr_18_48, zr_18_49, zr_18_52, zr_18_55, zr_18_56, zr_18_57, zr_18_60, zr_18_63, true_or, or_true, true_and, and_true, if_true, if_false, ldA_ref, ldA_null, nl_int, nl_ref, nl_fl, nl_null, c1_int, c1_ref, c1_null, Nat.zero_add, Nat.zero_mul, Nat.one_mul, nI_add, nI_leI, nI_ltI, nI_eq, nI_mul, rdB_0 (hB), rdB_1 (hB), rdB_2 (hB), rdB_3 (hB), rdB_4 (hB), rdB_5 (hB), rdB_6 (hB), rdB_7 (hB), rdB_0 (hC), rdB_1 (hC), rdB_2 (hC), rdB_3 (hC), rdB_4 (hC), rdB_5 (hC), rdB_6 (hC), rdB_7 (hC), rf_some, rdW_0 (B_W hB (show 0 < 3 by omega)), e0, zcall_some, zpush_some, zpush_none, zsum_ref, zsum_int, zsum_long, zsum_nil, zsum_null, Nat.reduceAdd, Nat.reduceLeDiff, if_true]
  rw [zl_18_2]
  simp (implicitDefEqProofs := false) (disch := omega) only [ze_18, zr_18_0, zr_18_1, zr_18_3, zr_18_4, zr_18_7, zr_18_8, zr_18_11, zr_18_12, zr_18_13, zr_18_14, zr_18_17, zr_18_18, zr_18_19, zr_18_22, zr_18_25, zr_18_28, zr_18_29, zr_18_32, zr_18_33, zr_18_36, zr_18_39, zr_18_40, zr_18_41, zr_18_44, zr_18_47, zr_18_48, zr_18_49, zr_18_52, zr_18_55, zr_18_56, zr_18_57, zr_18_60, zr_18_63, true_or, or_true, true_and, and_true, if_true, if_false, ldA_ref, ldA_null, nl_int, nl_ref, nl_fl, nl_null, c1_int, c1_ref, c1_null, Nat.zero_add, Nat.zero_mul, Nat.one_mul, nI_add, nI_leI, nI_ltI, nI_eq, nI_mul, rdB_0 (blk_isB), rdB_1 (blk_isB), rdB_2 (blk_isB), rdB_3 (blk_isB), rdB_4 (blk_isB), rdB_5 (blk_isB), rdB_6 (blk_isB), rdB_7 (blk_isB), rdB_0 (hC2 _), rdB_1 (hC2 _), rdB_2 (hC2 _), rdB_3 (hC2 _), rdB_4 (hC2 _), rdB_5 (hC2 _), rdB_6 (hC2 _), rdB_7 (hC2 _), rf_some, rdW_0 (B_W blk_isB (show 1 < 3 by omega)), e1, zcall_some, zpush_some, zpush_none, zsum_ref, zsum_int, zsum_long, zsum_nil, zsum_null, Nat.reduceAdd, Nat.reduceLeDiff, if_true]
  rw [zl_18_2]
  simp (implicitDefEqProofs := false) (disch := omega) only [ze_18, zr_18_0, zr_18_1, zr_18_3, zr_18_4, zr_18_7, zr_18_8, zr_18_11, zr_18_12, zr_18_13, zr_18_14, zr_18_17, zr_18_18, zr_18_19, zr_18_22, zr_18_25, zr_18_28, zr_18_29, zr_18_32, zr_18_33, zr_18_36, zr_18_39, zr_18_40, zr_18_41, zr_18_44, zr_18_47, zr_18_48, zr_18_49, zr_18_52, zr_18_55, zr_18_56, zr_18_57, zr_18_60, zr_18_63, true_or, or_true, true_and, and_true, if_true, if_false, ldA_ref, ldA_null, nl_int, nl_ref, nl_fl, nl_null, c1_int, c1_ref, c1_null, Nat.zero_add, Nat.zero_mul, Nat.one_mul, nI_add, nI_leI, nI_ltI, nI_eq, nI_mul, rdB_0 (blk_isB), rdB_1 (blk_isB), rdB_2 (blk_isB), rdB_3 (blk_isB), rdB_4 (blk_isB), rdB_5 (blk_isB), rdB_6 (blk_isB), rdB_7 (blk_isB), rdB_0 (hC2 _), rdB_1 (hC2 _), rdB_2 (hC2 _), rdB_3 (hC2 _), rdB_4 (hC2 _), rdB_5 (hC2 _), rdB_6 (hC2 _), rdB_7 (hC2 _), rf_some, rdW_0 (B_W blk_isB (show 2 < 3 by omega)), e2, zcall_some, zpush_some, zpush_none, zsum_ref, zsum_int, zsum_long, zsum_nil, zsum_null, Nat.reduceAdd, Nat.reduceLeDiff, if_true]
  rw [zl_18_2]
  simp (implicitDefEqProofs := false) (disch := omega) only [ze_18, zr_18_0, zr_18_1, zr_18_3, zr_18_4, zr_18_7, zr_18_8, zr_18_11, zr_18_12, zr_18_13, zr_18_14, zr_18_17, zr_18_18, zr_18_19, zr_18_22, zr_18_25, zr_18_28, zr_18_29, zr_18_32, zr_18_33, zr_18_36, zr_18_39, zr_18_40, zr_18_41, zr_18_44, zr_18_47, zr_18_48, zr_18_49, zr_18_52, zr_18_55, zr_18_56, zr_18_57, zr_18_60, zr_18_63, true_or, or_true, true_and, and_true, if_true, if_false, ldA_ref, ldA_null, nl_int, nl_ref, nl_fl, nl_null, c1_int, c1_ref, c1_null, Nat.zero_add, Nat.zero_mul, Nat.one_mul, nI_add, nI_leI, nI_ltI, nI_eq, nI_mul, Nat.le_refl, rdB_0 (blk_isB), rdB_1 (blk_isB), rdB_2 (blk_isB), rdB_3 (blk_isB), rdB_4 (blk_isB), rdB_5 (blk_isB), rdB_6 (blk_isB), rdB_7 (blk_isB), rdB_0 (hC2 _), rdB_1 (hC2 _), rdB_2 (hC2 _), rdB_3 (hC2 _), rdB_4 (hC2 _), rdB_5 (hC2 _), rdB_6 (hC2 _), rdB_7 (hC2 _), rdR_0 (B_R blk_isB), e3, wrB_0 blk_isB hb, wrB_1 blk_isB hb, hwx, blk_over, zcall_some, zpush_some, zpush_none, zsum_ref, zsum_int, zsum_long, zsum_nil, zsum_null, Nat.reduceAdd, Nat.reduceLeDiff, if_true]
  rw [hfin]
end
