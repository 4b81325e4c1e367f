/-! THE START: both objects are made -/
section
variable {h H : zH} {m e n k L : Nat} {r : Rst} {xs : Nat → Int32}
theorem putM_blk : blk m 9 (fun k => cellM m r k) H = putM m r H := by
  refine Prod.ext rfl (Prod.ext rfl (funext fun p => ?_))
  show (if m ≤ p ∧ p < m + 9 then cellM m r (p - m) else H.2.2 p) = if p < m then H.2.2 p else if p < m + 9 then cellM m r (p - m) else H.2.2 p
  by_cases h1 : p < m
  · rw [if_pos h1, if_neg (by omega)]
  · rw [if_neg h1]
    by_cases h2 : p < m + 9
    · rw [if_pos h2, if_pos (by omega)]
    · rw [if_neg h2, if_neg (by omega)]
theorem s_newM1 : ev 201 [.ref (100 + h.1)] (blk (100 + h.1) 1 (ce1 (.inr (12, [.null, .null, .int 0, .null, .int 0, .null, .null, .int 0, .null, .int 0, .null, .int 0, .int 0, .int 0, .null]))) (alc h 1 15)) = rn 201 72 [.ref (100 + h.1), .float 0, .float 0] [] (blk (100 + h.1) 9 (fun k => cellM (100 + h.1) zR k) (alc h 9 84948)) := by
  simp (implicitDefEqProofs := false) (disch := omega) only [ze_201, zr_201_0, zr_201_1, zr_201_4, zr_201_5, zr_201_8, zr_201_10, zr_201_13, zr_201_14, zr_201_17, zr_201_19, zr_201_22, zr_201_23, zr_201_25, zr_201_27, zr_201_30, zr_201_31, zr_201_34, zr_201_36, zr_201_39, zr_201_40, zr_201_43, zr_201_45, zr_201_48, zr_201_49, zr_201_52, zr_201_54, zr_201_57, zr_201_58, zr_201_60, zr_201_62, zr_201_65, zr_201_66, zr_201_67, zr_201_69, true_or, or_true, true_and, and_true, if_true, if_false, ldA_ref, ldA_null, nl_int, nl_ref, nl_fl, nl_null, c1_int, c1_ref, c1_null, zcall_some, zpush_some, zpush_none, zsum_ref, zsum_int, zsum_long, zsum_nil, zsum_null, Nat.reduceAdd, Nat.reduceLeDiff, if_true, znew_b, alc_1, alc_blk, alc_alc, blk_1, ← Nat.add_assoc, Nat.reduceAdd, Nat.add_zero, mkA_ok, nI_clamp, pf_skip, pf1_12_0, pf1_12_1, pf1_12_2, pf1_12_3, pf1_12_4, pf1_12_5, pf1_12_6, pf1_12_7, pf1_12_8, pf1_12_9, pf1_12_10, pf1_12_11, pf1_12_12, pf1_12_13, pf1_12_14, kd1_12]
  simp only [blk_snoc, Nat.reduceAdd]
  refine congrArg (rn 201 72 [.ref (100 + h.1), .float 0, .float 0] []) (blk_congr fun k hk => ?_)
  match k, hk with
  | 0, _ | 1, _ | 2, _ | 3, _ | 4, _ | 5, _ | 6, _ | 7, _ | 8, _ => rfl
  | k + 9, h => omega
def wD (r : Rst) (e : Nat) : Nat → Rst
  | 0 => r
  | i + 1 => wAt (wD r e i) (rX e (14 + i)) 30
def wDD (r : Rst) : Nat → Rst
  | 0 => r
  | e + 1 => wD (wDD r e) e 12
theorem wD_at (k : Nat) : ∀ i, rS (wD r e i) k = if rX e 14 ≤ k ∧ k < rX e 14 + i then 30 else rS r k
  | 0 => by rw [wD, if_neg (by omega)]
  | i + 1 => by
    rw [wD]
    by_cases h1 : k = rX e (14 + i)
    · rw [h1, wAt_eq, if_pos (by unfold rX; omega)]
    · rw [wAt_ne h1, wD_at k i]
      by_cases h2 : rX e 14 ≤ k ∧ k < rX e 14 + i
      · rw [if_pos h2, if_pos (by omega)]
      · rw [if_neg h2, if_neg (by unfold rX at *; omega)]
theorem wD_S (i : Nat) : wD r e i = wS r (rS (wD r e i)) := by
  induction i with
  | zero => rfl
  | succ i ih => exact wS_tr (wAt_S _ _ _) ih
theorem wDD_S (i : Nat) : wDD r i = wS r (rS (wDD r i)) := by
  induction i with
  | zero => rfl
  | succ i ih => exact wS_tr (wD_S 12) ih
theorem s_rdayL (hm : 100 ≤ m) (he : e < 3) : ∀ (j i : Nat), i + j = 12 → rn 201 100 [.ref m, .int (nI e), .int (nI i)] [] (putM m (wD r e i) h) = rn 201 93 [.ref m, .int (nI (e + 1)), .int (nI 12)] [] (putM m (wD r e 12) h) := by
  intro j
  induction j with
  | zero =>
    intro i hi
    rw [zl_201_100, show i = 12 by omega]
    simp (implicitDefEqProofs := false) (disch := omega) only [zr_201_101, zr_201_103, zr_201_106, zr_201_107, zr_201_110, zr_201_111, zr_201_113, zr_201_114, zr_201_115, zr_201_118, zr_201_121, zr_201_122, zr_201_125, zr_201_128, zr_201_131, true_or, or_true, true_and, and_true, if_true, if_false, ldA_ref, ldA_null, nl_int, nl_ref, nl_fl, nl_null, c1_int, c1_ref, c1_null, Nat.zero_add, Nat.zero_mul, Nat.one_mul, nI_add, nI_leI, nI_ltI, nI_eq, nI_mul, Nat.le_refl, zcall_some, zpush_some, zpush_none, zsum_ref, zsum_int, zsum_long, zsum_nil, zsum_null, Nat.reduceAdd, Nat.reduceLeDiff, if_true]
  | succ j ih =>
    intro i hi
    have ih2 := ih (i + 1) (by omega)
    rw [wD] at ih2
    rw [zl_201_100]
    simp (implicitDefEqProofs := false) (disch := omega) only [zr_201_101, zr_201_103, zr_201_106, zr_201_107, zr_201_110, zr_201_111, zr_201_113, zr_201_114, zr_201_115, zr_201_118, zr_201_121, zr_201_122, zr_201_125, true_or, or_true, true_and, and_true, if_true, if_false, ldA_ref, ldA_null, nl_int, nl_ref, nl_fl, nl_null, c1_int, c1_ref, c1_null, Nat.zero_add, Nat.zero_mul, Nat.one_mul, nI_add, nI_leI, nI_ltI, nI_eq, nI_mul, show ¬ 12 ≤ i from by omega, gf_M0, s_at, sj_S hm (show rX e (14 + i) < 8271 by unfold rX; omega), zcall_some, zpush_some, zpush_none, zsum_ref, zsum_int, zsum_long, zsum_nil, zsum_null, Nat.reduceAdd, Nat.reduceLeDiff, if_true]
    exact ih2
theorem s_rdayO (hm : 100 ≤ m) : ∀ (j e : Nat) (v : Value), e + j = 3 → rn 201 93 [.ref m, .int (nI e), v] [] (putM m (wDD r e) h) = some (none, putM m (wDD r 3) h) := by
  intro j
  induction j with
  | zero =>
    intro e v he
    rw [zl_201_93, show e = 3 by omega]
    simp (implicitDefEqProofs := false) (disch := omega) only [zr_201_94, zr_201_95, zr_201_98, zr_201_99, zr_201_101, zr_201_103, zr_201_106, zr_201_107, zr_201_110, zr_201_111, zr_201_113, zr_201_114, zr_201_115, zr_201_118, zr_201_121, zr_201_122, zr_201_125, zr_201_128, zr_201_131, zr_201_134, true_or, or_true, true_and, and_true, if_true, if_false, ldA_ref, ldA_null, nl_int, nl_ref, nl_fl, nl_null, c1_int, c1_ref, c1_null, Nat.zero_add, Nat.zero_mul, Nat.one_mul, nI_add, nI_leI, nI_ltI, nI_eq, nI_mul, Nat.le_refl, zcall_some, zpush_some, zpush_none, zsum_ref, zsum_int, zsum_long, zsum_nil, zsum_null, Nat.reduceAdd, Nat.reduceLeDiff, if_true]
  | succ j ih =>
    intro e v he
    have ih2 := ih (e + 1) (.int (nI 12)) (by omega)
    rw [wDD] at ih2
    have e1 := s_rdayL (m := m) (r := wDD r e) (h := h) (e := e) hm (by omega) 12 0 (by omega)
    rw [wD] at e1
    rw [zl_201_93, ← ih2, ← e1]
    simp (implicitDefEqProofs := false) (disch := omega) only [zr_201_94, zr_201_95, zr_201_98, zr_201_99, true_or, or_true, true_and, and_true, if_true, if_false, ldA_ref, ldA_null, nl_int, nl_ref, nl_fl, nl_null, c1_int, c1_ref, c1_null, Nat.zero_add, Nat.zero_mul, Nat.one_mul, nI_add, nI_leI, nI_ltI, nI_eq, nI_mul, show ¬ 3 ≤ e from by omega, zcall_some, zpush_some, zpush_none, zsum_ref, zsum_int, zsum_long, zsum_nil, zsum_null, Nat.reduceAdd, Nat.reduceLeDiff, if_true]
def r00 : Rst := wDD (wAt (wAt zR 5 99999) 6 99999) 3
theorem s_newM : ev 201 [.ref (100 + h.1)] (znew h (.inr (12, [.null, .null, .int 0, .null, .int 0, .null, .null, .int 0, .null, .int 0, .null, .int 0, .int 0, .int 0, .null])) 15) = some (none, putM (100 + h.1) r00 (alc h 9 84948)) := by
  rw [znew_b, s_newM1, putM_blk]
  have e1 := s_rdayO (m := 100 + h.1) (r := wAt (wAt zR 5 99999) 6 99999) (h := alc h 9 84948) (by omega) 3 0 (.float 0) (by omega)
  rw [wDD] at e1
  unfold r00
  rw [← e1]
  simp (implicitDefEqProofs := false) (disch := omega) only [zr_201_72, zr_201_73, zr_201_76, zr_201_77, zr_201_80, zr_201_81, zr_201_82, zr_201_85, zr_201_87, zr_201_90, zr_201_91, zr_201_92, true_or, or_true, true_and, and_true, if_true, if_false, ldA_ref, ldA_null, nl_int, nl_ref, nl_fl, nl_null, c1_int, c1_ref, c1_null, Nat.zero_add, Nat.zero_mul, Nat.one_mul, nI_add, nI_leI, nI_ltI, nI_eq, nI_mul, gf_M0, sj_S (show 100 ≤ 100 + h.1 by omega) (show 5 < 8271 by omega), sj_S (show 100 ≤ 100 + h.1 by omega) (show 6 < 8271 by omega), zcall_some, zpush_some, zpush_none, zsum_ref, zsum_int, zsum_long, zsum_nil, zsum_null, Nat.reduceAdd, Nat.reduceLeDiff, if_true]
theorem r00_S : r00 = wS zR (rS r00) := wS_tr (wDD_S 3) (wS_tr (wAt_S _ _ _) (wAt_S _ _ _))
theorem r00_lo (hk : k < 18) : rS r00 k = if k = 5 ∨ k = 6 then 99999 else 0 := by
  unfold r00
  rw [wDD, wD_at, if_neg (by unfold rX; omega), wDD, wD_at, if_neg (by unfold rX; omega), wDD, wD_at, if_neg (by unfold rX; omega), wDD]
  by_cases h6 : k = 6
  · rw [h6, wAt_eq, if_pos (Or.inr rfl)]
  · rw [wAt_ne h6]
    by_cases h5 : k = 5
    · rw [h5, wAt_eq, if_pos (Or.inl rfl)]
    · rw [wAt_ne h5, if_neg (by omega)]; rfl
theorem r00_at {w : Nat} (he : e < 3) (hw : w < 2751) : rS r00 (rX e w) = if 14 ≤ w ∧ w < 26 then 30 else 0 := by
  have z : rS (wAt (wAt zR 5 99999) 6 99999) (rX e w) = 0 := by
    rw [wAt_ne (by unfold rX; omega), wAt_ne (by unfold rX; omega)]; rfl
  unfold r00
  rw [wDD, wD_at, wDD, wD_at, wDD, wD_at, wDD, z]
  by_cases h1 : 14 ≤ w ∧ w < 26
  · rw [if_pos h1]
    by_cases c2 : e = 2
    · rw [if_pos (by unfold rX; omega)]
    · rw [if_neg (by unfold rX; omega)]
      by_cases c1 : e = 1
      · rw [if_pos (by unfold rX; omega)]
      · rw [if_neg (by unfold rX; omega), if_pos (by unfold rX; omega)]
  · rw [if_neg h1, if_neg (by unfold rX; omega), if_neg (by unfold rX; omega), if_neg (by unfold rX; omega)]
theorem newW_en (k : Nat) : gW_en newW k = if 12 ≤ k ∧ k < 24 then nI 30 else 0 := rfl
theorem I30 : (nI 30).toInt = 30 ∧ (nI 30).toInt64 = 30 ∧ (0 : Int32).toInt = 0 ∧ (0 : Int32).toInt64 = 0 := by decide
theorem RelE_new (he : e < 3) : RelE newW (rS r00) e 0 0 (fun _ => []) := by
  refine ⟨fun k hk => ?_, fun k hk => ?_, fun m hm => by omega, ?_, ?_, ⟨by omega, rfl, ?_, fun p hp => by omega⟩, fun m hm => by omega, fun m _ hm => ?_⟩
  · rw [r00_at he (by omega), newW_en]
    by_cases h1 : 12 ≤ k ∧ k < 24
    · rw [if_pos (by omega), if_pos h1, I30.2.1]
    · rw [if_neg (by omega), if_neg h1]; exact I30.2.2.2.symm
  · rw [newW_en, newW_en, newW_en, if_neg (by omega), if_pos (by omega), if_neg (by omega), I30.1, I30.2.2.1]
    omega
  · rw [r00_at he (by omega), if_neg (by omega)]; decide
  · rw [r00_at he (by omega), if_neg (by omega)]; rfl
  · rw [r00_at he (by omega), if_neg (by omega)]; decide
  · rw [r00_at he (by omega), if_neg (by omega)]
theorem RelR_new : RelR newR (rS r00) 0 := by
  refine ⟨by omega, rfl, ?_, fun k hk => ?_, fun k hk => by omega, fun k hk => by omega⟩
  · rw [r00_lo (by omega), if_neg (by omega)]; decide
  · match k, hk with
    | 0, _ =>
      rw [r00_lo (by omega), if_neg (by omega), r00_lo (by omega), if_pos (by omega)]
      exact ⟨by decide, by decide, by decide, by decide⟩
    | 1, _ =>
      rw [r00_lo (by omega), if_neg (by omega), r00_lo (by omega), if_pos (by omega)]
      exact ⟨by decide, by decide, by decide, by decide⟩
    | k + 2, h => omega
theorem good_new (H : zH) : good H newB (rS r00) 0 := by
  refine ⟨0, 0, fun _ => 0, fun _ _ => [], ⟨⟨by omega, rfl, ?_, ?_, Or.inl rfl⟩, RelR_new, fun e he => ⟨RelE_new he, fun m hm => by omega, fun m hm => by omega, ⟨(by show 0 ≤ (nI 0).toInt; decide), fun p hp => absurd hp (Nat.not_lt_zero p)⟩⟩, ?_, by decide, by decide⟩, fun e he => ⟨fun m hm => by omega, fun m _ _ => rfl⟩⟩
  · rw [r00_lo (by omega), if_neg (by omega)]; decide
  · rw [r00_lo (by omega), if_neg (by omega)]; decide
  · rw [r00_lo (by omega), if_neg (by omega)]; decide
theorem start_St {H1 : zH} (s1 : H1.1 = 363) (s2 : H1.2.1 ≤ 6000) (hx : H1.2.2 100 = xC (nI 0)) (hB : isB H1 101 37 (cB 101 newB)) (hH : hiB H1 138 (fun _ => newB) 0 0) (hS : isB H1 399 37 (cB 399 newB)) (hT : isB H1 436 5 (cT 436 newT)) (hD : isB H1 441 2 (cD 441 newD)) (hTr : trB H1 443 newW) (hx1 : H1.2.2 459 = .inr (8, [.ref (459 + 1), .ref (459 + 3)])) (hx2 : isB H1 (459 + 1) 2 (cSB (459 + 1))) (hx3 : H1.2.2 (459 + 3) = .inl (2, 19, .inl fun _ => 0)) (hz : stz L xs H1) : St L xs (putM 463 r00 (alc H1 9 84948)) 0 := by
  have g : ∀ p, (p < 463 ∨ 472 ≤ p) → (putM 463 r00 (alc H1 9 84948)).2.2 p = H1.2.2 p := fun p hp => putM_out _ _ (by omega)
  have hz2 : stz L xs (putM 463 r00 (alc H1 9 84948)) := fun a ha => (g a (by omega)).trans (hz a ha)
  have g1 : (putM 463 r00 (alc H1 9 84948)).1 = H1.1 + 9 := rfl
  have g2 : (putM 463 r00 (alc H1 9 84948)).2.1 = H1.2.1 + 84948 := rfl
  have er := r00_S
  refine ⟨newB, fun _ => newB, 0, 0, newB, nI 0, newT, 16, [], r00, fun _ => 0, 0, ⟨(g _ (by omega)).trans hx, hB.to fun p _ _ => g p (by omega), hH.to fun p _ _ => g p (by omega), hS.to fun p _ _ => g p (by omega), hT.to fun p _ _ => g p (by omega), ⟨newD, hD.to fun p _ _ => g p (by omega)⟩, ⟨newW, hTr.to fun p _ _ => g p (by omega)⟩, (g _ (by omega)).trans hx1, ⟨461, 0, fun _ => 0, ?_, ?_, by decide, by omega, (fun i => fitB 0 (by omega)), (fun j c hj => by cases hj), by omega, by omega, by omega⟩, ⟨fun _ => 0, (g _ (by omega)).trans hx3⟩, by omega, stz_dg hz2, stz_A hz2, by omega, by omega⟩, putM_isB _ _ _, hz2, ⟨by omega, by omega, by omega, by omega⟩, good_new _, ⟨by omega, by omega, ?_⟩, fun j hj => by omega, ⟨?_, Or.inl rfl⟩, ?_, ⟨rfl, by omega, fun j hj => by omega⟩, ⟨?_, by omega, fun j hj => by omega⟩⟩
  · exact (g _ (by omega)).trans (hx2 0 (by omega))
  · exact (g _ (by omega)).trans (hx2 1 (by omega))
  · rw [er]; rfl
  · rw [er]; rfl
  · rw [er]; rfl
  · rw [er]; rfl
end
