/-! DUES that agree where they are read make the same closings -/
section
variable {w : tyW} {D E : Nat → Int64} {m n ng : Nat} {f : Int32} {s : tyR}
def eqD (D E : Nat → Int64) : Prop := ∀ q, q < 60 → D q = E q
theorem eq_pSetTo (h : eqD D E) (k : Nat) : pSetTo w D k = pSetTo w E k := by
  have : (fun q => if q % 12 < k ∧ q < 60 then D q else gW_am w q) = fun q => if q % 12 < k ∧ q < 60 then E q else gW_am w q := by
    funext q
    by_cases c : q % 12 < k ∧ q < 60
    · rw [if_pos c, if_pos c, h q c.2]
    · rw [if_neg c, if_neg c]
  unfold pSetTo
  rw [this]
theorem eq_pOwn (h : eqD D E) (hm : m < 12) : ∀ k, k ≤ 5 → pOwn D m k = pOwn E m k
  | 0, _ => rfl
  | k + 1, hk => by rw [pOwn, pOwn, eq_pOwn h hm k (by omega), h (k * 12 + m) (by omega)]
theorem eq_pCor (h : eqD D E) (hm : m < 12) (re : Int32) : ∀ k, k ≤ 5 → pCor w D m re k = pCor w E m re k
  | 0, _ => rfl
  | k + 1, hk => by rw [pCor, pCor, eq_pCor h hm re k (by omega), pDiff, pDiff, h (k * 12 + m) (by omega)]
theorem eq_pLs (h : eqD D E) (hm : m < 12) : ∀ k, k ≤ 12 → pLs w D m f k = pLs w E m f k
  | 0, _ => by rw [pLs, pLs, eq_pOwn h hm 4 (by omega)]
  | k + 1, hk => by rw [pLs, pLs, eq_pLs h hm k (by omega), eq_pSetTo h, eq_pCor h (by omega) _ 4 (by omega)]
theorem eq_pL2 (h : eqD D E) (hm : m < 12) : pL2 w D m f = pL2 w E m f := by
  unfold pL2
  rw [eq_pLs h hm m (by omega)]
theorem eq_pGua (h : eqD D E) (hm : m < 12) : pGua w D m = pGua w E m := by
  unfold pGua
  rw [h (48 + m) (by omega)]
theorem eq_pOw (h : eqD D E) (hm : m < 12) : pOw w D m f = pOw w E m f := by
  unfold pOw
  rw [eq_pL2 h hm, eq_pGua h hm]
theorem eq_pAb (h : eqD D E) (hm : m < 12) : pAb w D m f = pAb w E m f := by
  unfold pAb
  rw [eq_pL2 h hm, eq_pGua h hm]
theorem eq_pW2 (h : eqD D E) (hm : m < 12) : pW2 w D m f = pW2 w E m f := by
  unfold pW2
  rw [eq_pOw h hm, eq_pSetTo h]
theorem eq_pW3 (h : eqD D E) (hm : m < 12) : pW3 w D m f ng = pW3 w E m f ng := by
  unfold pW3
  rw [eq_pW2 h hm, eq_pAb h hm]
theorem eq_pL4 (h : eqD D E) (hm : m < 12) : pL4 w D m f ng = pL4 w E m f ng := by
  unfold pL4 pL3
  rw [eq_pW2 h hm, eq_pAb h hm, eq_pOw h hm, eq_pL2 h hm]
theorem eq_pL5 (h : eqD D E) (hm : m < 12) : pL5 w D m f ng = pL5 w E m f ng := by
  unfold pL5
  rw [eq_pL4 h hm]
/-- all dues, nothing behind them -/
def pDD (s : tyR) (n : Nat) (w : tyW) (q : Nat) : Int64 := if q < 60 then pDue s n w (q / 12) (q % 12) else 0
theorem pDD_eq (du : Nat → Int64) : eqD (pDues s n w 60 du) (pDD s n w) := fun q hq => by
  unfold pDues pDD
  rw [if_pos hq, if_pos hq]
theorem pDD_at {k : Nat} (hk : k < 5) (hm : m < 12) : pDD s n w (k * 12 + m) = pDue s n w k m := by
  unfold pDD
  rw [if_pos (by omega), show (k * 12 + m) / 12 = k by omega, show (k * 12 + m) % 12 = m by omega]
theorem wClo_eq (h : eqD D E) (hm : m < 12) (q : Nat) : wClo w D m f ng q = wClo w E m f ng q := by
  unfold wClo
  rw [eq_pW3 h hm]
theorem pPd_app (l : List Ln) (x : Ln) : pPd (l ++ [x]) = x.2.2.2 := by
  unfold pPd lk
  rw [List.length_append, List.length_singleton, Nat.add_sub_cancel, List.getD_eq_getElem?_getD, List.getElem?_append_right (Nat.le_refl _), Nat.sub_self]
  rfl
theorem pPd_pL5 : pPd (pL5 w D m f ng) = pSum (pL4 w D m f ng) := pPd_app _ _
theorem pL5_pos : 0 < (pL5 w D m f ng).length := by
  unfold pL5
  rw [List.length_append]; simp
end
section
variable {H : zH} {b c m n : Nat} {s : tyB} {du : tyD}
/-- what a closing leaves of the heap -/
def cloR (H' H : zH) (b c m n : Nat) (s : tyB) (ngs : Nat → Nat) : Prop :=
  H'.1 = H.1 + 9 ∧ H'.2.1 = H.2.1 + 660 ∧ isB H' b 37 (cB b (bClN s (fun e => wClo (gB_wk s e) (pDD (gB_ru s) n (gB_wk s e)) m (gB_fg s) (ngs e) (100 + H.1 + 3 * e)) m)) ∧ (∃ du, isB H' c 2 (cD c du)) ∧ (∀ e, e < 3 → ∃ d, isB H' (100 + H.1 + 3 * e) 3 (cS (100 + H.1 + 3 * e) d) ∧ isL d (pL5 (gB_wk s e) (pDD (gB_ru s) n (gB_wk s e)) m (gB_fg s) (ngs e))) ∧ ∀ p, p < 100 + H.1 → (p < b ∨ b + 37 ≤ p) → (p < c ∨ c + 2 ≤ p) → H'.2.2 p = H.2.2 p
theorem s_closeN {ngs : Nat → Nat} (hB : isB H b 37 (cB b s)) (hD : isB H c 2 (cD c du)) (hb : 100 ≤ b) (hc : 100 ≤ c) (j1 : b + 37 ≤ c ∨ c + 2 ≤ b) (bb : b + 37 ≤ 100 + H.1) (bc : c + 2 ≤ 100 + H.1) (hm : m < 12) (hcl : gB_cl s = nI m) (hn : n ≤ 5) (hbn : gR_bn (gB_ru s) = nI n) (hng : ∀ e, e < 3 → ngs e ≤ 3 ∧ gW_gc (gB_wk s e) = nI (ngs e)) :
    ∃ H', ev 58 [.ref b, .ref c] H = some (some (.int (nI m)), H') ∧ cloR H' H b c m n s ngs := by
  obtain ⟨H', Ds, e1, h1, h2, h3, h4, h5, h6, h7⟩ := s_closeNext hB hD hb hc j1 bb bc hm hcl hn hbn hng
  have hE : ∀ e, e < 3 → eqD (Ds e) (pDD (gB_ru s) n (gB_wk s e)) := fun e he => by
    obtain ⟨du, hd⟩ := h5 e he
    rw [hd]; exact pDD_eq du
  refine ⟨H', e1, h1, h2, ?_, h4, fun e he => ?_, h7⟩
  · have : bClN s (fun e => wClo (gB_wk s e) (Ds e) m (gB_fg s) (ngs e) (100 + H.1 + 3 * e)) m = bClN s (fun e => wClo (gB_wk s e) (pDD (gB_ru s) n (gB_wk s e)) m (gB_fg s) (ngs e) (100 + H.1 + 3 * e)) m := by
      unfold bClN
      congr 3
      funext i
      by_cases hi : i < 3
      · rw [if_pos hi, if_pos hi]; exact wClo_eq (hE i hi) hm _
      · rw [if_neg hi, if_neg hi]
    rw [← this]; exact h3
  · rw [← eq_pL5 (hE e he) hm]; exact h6 e he
theorem s_closeNone (hB : isB H b 37 (cB b s)) (hcl : gB_cl s = nI 12) : ev 58 [.ref b, .ref c] H = some (some (.int (-2)), H) := by
  simp (implicitDefEqProofs := false) (disch := omega) only [ze_58, zr_58_0, zr_58_1, zr_58_4, zr_58_5, zr_58_6, zr_58_9, zr_58_12, zr_58_14, zr_58_15, zr_58_16, zr_58_18, zr_58_19, zr_58_22, zr_58_25, zr_58_26, zr_58_29, zr_58_31, zr_58_32, zr_58_33, zr_58_36, zr_58_37, zr_58_38, zr_58_39, zr_58_40, zr_58_43, zr_58_44, zr_58_47, zr_58_49, zr_58_52, zr_58_53, zr_58_56, zr_58_57, zr_58_58, zr_58_61, zr_58_62, zr_58_64, zr_58_65, zr_58_68, zr_58_71, zr_58_72, zr_58_73, zr_58_74, zr_58_75, zr_58_78, zr_58_79, zr_58_80, zr_58_83, zr_58_84, true_or, or_true, true_and, and_true, if_true, if_false, ldA_ref, ldA_null, nl_int, nl_ref, nl_fl, nl_null, c1_int, c1_ref, c1_null, Nat.zero_add, Nat.zero_mul, Nat.one_mul, nI_add, nI_leI, nI_ltI, nI_eq, nI_mul, rdB_0 (hB), rdB_1 (hB), rdB_2 (hB), rdB_3 (hB), rdB_4 (hB), rdB_5 (hB), rdB_6 (hB), rdB_7 (hB), hcl, s_isMonth, bI_0, show (¬ (0 ≤ 12 ∧ 12 ≤ 11)) = True from by simp, not_false_eq_true, not_true_eq_false, bI_ok, zcall_some, zpush_some, zpush_none, zsum_ref, zsum_int, zsum_long, zsum_nil, zsum_null, Nat.reduceAdd, Nat.reduceLeDiff, if_true]
end
