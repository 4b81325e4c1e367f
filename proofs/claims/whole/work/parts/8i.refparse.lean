/-! THE REFERENCE reads commands: letters, words -/
def bufR (r : Rst) (sg : Nat → Nat) (n : Nat) : Prop := rLn r = nI n ∧ n ≤ 60 ∧ ∀ j, j < n → rTx r j = nI (sg j) ∧ 32 ≤ sg j ∧ sg j ≤ 126
/-- the words in the reference's order -/
def rwL (k : Nat) : Nat := [0, 1, 2, 7, 8, 10, 3, 4, 5, 6, 9, 11].getD k 0
def wdR (H : zH) : Prop := ∀ k, k < 12 → stOK H (66 + 2 * k) (wL (rwL k))
section
variable {m n : Nat} {r : Rst} {h : zH} {sg : Nat → Nat}
theorem s_here {k : Nat} (hb : bufR r sg n) (hk : rPl r = nI k) (hk2 : k ≤ 200) : ev 286 [.ref m] (putM m r h) = some (some (.int (if k < n then nI (sg k) else nI 0)), putM m r h) := by
  obtain ⟨h1, h2, h3⟩ := hb
  by_cases c : k < n
  · obtain ⟨g1, -, -⟩ := h3 k c
    rw [if_pos c]
    simp (implicitDefEqProofs := false) (disch := omega) only [ze_286, zr_286_0, zr_286_1, zr_286_4, zr_286_5, zr_286_8, zr_286_11, zr_286_12, zr_286_15, zr_286_16, zr_286_19, zr_286_20, zr_286_23, zr_286_24, true_or, or_true, true_and, and_true, if_true, if_false, ldA_ref, ldA_null, nl_int, nl_ref, nl_fl, nl_null, c1_int, c1_ref, c1_null, Nat.zero_add, Nat.zero_mul, Nat.one_mul, nI_add, nI_leI, nI_ltI, nI_eq, nI_mul, gf_M, h1, hk, show ¬ n ≤ k from by omega, li_M7 (show k < 60 by omega), g1]
  · rw [if_neg c]
    simp (implicitDefEqProofs := false) (disch := omega) only [ze_286, zr_286_0, zr_286_1, zr_286_4, zr_286_5, zr_286_8, zr_286_11, zr_286_12, zr_286_15, zr_286_16, zr_286_19, zr_286_20, zr_286_23, zr_286_24, true_or, or_true, true_and, and_true, if_true, if_false, ldA_ref, ldA_null, nl_int, nl_ref, nl_fl, nl_null, c1_int, c1_ref, c1_null, Nat.zero_add, Nat.zero_mul, Nat.one_mul, nI_add, nI_leI, nI_ltI, nI_eq, nI_mul, gf_M, h1, hk, show n ≤ k from by omega]
theorem s_isWordF {st s : Nat} {l : List Nat} {e0 : Nat} (hs : stOK (putM m r h) st l) : ∀ (j i : Nat), i + j = l.length → ∃ v4, rn 288 22 [.ref m, .int (nI s), .ref st, .int (nI 0), .int (nI i)] [] (putM m r h) = some (some (.int (nI 0)), putM m r h) ∧ v4 = e0 := by
  intro j i hi
  have hln := s_strLen hs
  have k1 : zkd (putM m r h) st = 13 := by obtain ⟨gs, h1, -⟩ := hs; exact kd_c h1
  have hl6 : l.length < 1000 := by obtain ⟨gs, h1, h2, h3, h4, h5, h6⟩ := hs; exact h6
  refine ⟨e0, ?_, rfl⟩
  rw [zl_288_22]
  by_cases c : l.length ≤ i
  · simp (implicitDefEqProofs := false) (disch := omega) only [ze_288, zr_288_0, zr_288_1, zr_288_4, zr_288_5, zr_288_6, zr_288_7, zr_288_10, zr_288_13, zr_288_14, zr_288_17, zr_288_18, zr_288_19, zr_288_20, zr_288_24, zr_288_25, zr_288_28, zr_288_31, zr_288_32, zr_288_35, zr_288_36, zr_288_39, zr_288_40, zr_288_42, zr_288_43, zr_288_44, zr_288_45, zr_288_47, zr_288_50, zr_288_53, zr_288_54, zr_288_57, zr_288_58, zr_288_59, zr_288_62, zr_288_65, zr_288_66, true_or, or_true, true_and, and_true, if_true, if_false, ldA_ref, ldA_null, nl_int, nl_ref, nl_fl, nl_null, c1_int, c1_ref, c1_null, Nat.zero_add, Nat.zero_mul, Nat.one_mul, nI_add, nI_leI, nI_ltI, nI_eq, nI_mul, k1, hln, c, bI_ok, zcall_some, zpush_some, zpush_none, zsum_ref, zsum_int, zsum_long, zsum_nil, zsum_null, Nat.reduceAdd, Nat.reduceLeDiff, if_true]
  · simp (implicitDefEqProofs := false) (disch := omega) only [ze_288, zr_288_0, zr_288_1, zr_288_4, zr_288_5, zr_288_6, zr_288_7, zr_288_10, zr_288_13, zr_288_14, zr_288_17, zr_288_18, zr_288_19, zr_288_20, zr_288_24, zr_288_25, zr_288_28, zr_288_31, zr_288_32, zr_288_35, zr_288_36, zr_288_39, zr_288_40, zr_288_42, zr_288_43, zr_288_44, zr_288_45, zr_288_47, zr_288_50, zr_288_53, zr_288_54, zr_288_57, zr_288_58, zr_288_59, zr_288_62, zr_288_65, zr_288_66, true_or, or_true, true_and, and_true, if_true, if_false, ldA_ref, ldA_null, nl_int, nl_ref, nl_fl, nl_null, c1_int, c1_ref, c1_null, Nat.zero_add, Nat.zero_mul, Nat.one_mul, nI_add, nI_leI, nI_ltI, nI_eq, nI_mul, k1, hln, c, bI_ok, zcall_some, zpush_some, zpush_none, zsum_ref, zsum_int, zsum_long, zsum_nil, zsum_null, Nat.reduceAdd, Nat.reduceLeDiff, if_true]
theorem s_isWordL {st s : Nat} {l : List Nat} (hs : stOK (putM m r h) st l) (hb : bufR r sg n) (hl : s + l.length ≤ n) : ∀ (j i : Nat), i + j = l.length → (∀ q, q < i → sg (s + q) = l.getD q 0) → rn 288 22 [.ref m, .int (nI s), .ref st, .int (nI 1), .int (nI i)] [] (putM m r h) = some (some (.int (bI (∀ q, q < l.length → sg (s + q) = l.getD q 0))), putM m r h) := by
  have hln := s_strLen hs
  have k1 : zkd (putM m r h) st = 13 := by obtain ⟨gs, h1, -⟩ := hs; exact kd_c h1
  have hn := hb.2.1
  intro j
  induction j with
  | zero =>
    intro i hi hq
    have hi2 : i = l.length := by omega
    subst hi2
    have e1 : bI (∀ q, q < l.length → sg (s + q) = l.getD q 0) = nI 1 := if_pos hq
    rw [e1, zl_288_22]
    simp (implicitDefEqProofs := false) (disch := omega) only [ze_288, zr_288_0, zr_288_1, zr_288_4, zr_288_5, zr_288_6, zr_288_7, zr_288_10, zr_288_13, zr_288_14, zr_288_17, zr_288_18, zr_288_19, zr_288_20, zr_288_24, zr_288_25, zr_288_28, zr_288_31, zr_288_32, zr_288_35, zr_288_36, zr_288_39, zr_288_40, zr_288_42, zr_288_43, zr_288_44, zr_288_45, zr_288_47, zr_288_50, zr_288_53, zr_288_54, zr_288_57, zr_288_58, zr_288_59, zr_288_62, zr_288_65, zr_288_66, true_or, or_true, true_and, and_true, if_true, if_false, ldA_ref, ldA_null, nl_int, nl_ref, nl_fl, nl_null, c1_int, c1_ref, c1_null, Nat.zero_add, Nat.zero_mul, Nat.one_mul, nI_add, nI_leI, nI_ltI, nI_eq, nI_mul, k1, hln, Nat.le_refl, zcall_some, zpush_some, zpush_none, zsum_ref, zsum_int, zsum_long, zsum_nil, zsum_null, Nat.reduceAdd, Nat.reduceLeDiff, if_true]
  | succ j ih =>
    intro i hi hq
    have hil : i < l.length := by omega
    have hgt : l[i]? = some l[i] := List.getElem?_eq_getElem hil
    have hat := s_strAt hs hgt
    have hgd : l.getD i 0 = l[i] := by rw [List.getD_eq_getElem?_getD, hgt]; rfl
    obtain ⟨g1, g2, g3⟩ := hb.2.2 (s + i) (by omega)
    have hc : l[i] < 128 := by
      obtain ⟨gs, h1, h2, h3, h4, -⟩ := hs
      exact (h4 i _ hgt).1
    rw [zl_288_22]
    by_cases c : sg (s + i) = l[i]
    · simp (implicitDefEqProofs := false) (disch := omega) only [ze_288, zr_288_0, zr_288_1, zr_288_4, zr_288_5, zr_288_6, zr_288_7, zr_288_10, zr_288_13, zr_288_14, zr_288_17, zr_288_18, zr_288_19, zr_288_20, zr_288_24, zr_288_25, zr_288_28, zr_288_31, zr_288_32, zr_288_35, zr_288_36, zr_288_39, zr_288_40, zr_288_42, zr_288_43, zr_288_44, zr_288_45, zr_288_47, zr_288_50, zr_288_53, zr_288_54, zr_288_57, zr_288_58, zr_288_59, zr_288_62, zr_288_65, zr_288_66, true_or, or_true, true_and, and_true, if_true, if_false, ldA_ref, ldA_null, nl_int, nl_ref, nl_fl, nl_null, c1_int, c1_ref, c1_null, Nat.zero_add, Nat.zero_mul, Nat.one_mul, nI_add, nI_leI, nI_ltI, nI_eq, nI_mul, gf_M, k1, hln, show ¬ l.length ≤ i from by omega, show ¬ 1 = 0 from by omega, hat, li_M7 (show s + i < 60 by omega), g1, c, zcall_some, zpush_some, zpush_none, zsum_ref, zsum_int, zsum_long, zsum_nil, zsum_null, Nat.reduceAdd, Nat.reduceLeDiff, if_true]
      exact ih (i + 1) (by omega) (fun q hq2 => by
        by_cases d : q = i
        · subst d; rw [hgd]; exact c
        · exact hq q (by omega))
    · have e1 : bI (∀ q, q < l.length → sg (s + q) = l.getD q 0) = nI 0 := if_neg (fun h => c (by rw [← hgd]; exact h i hil))
      rw [e1]
      simp (implicitDefEqProofs := false) (disch := omega) only [ze_288, zr_288_0, zr_288_1, zr_288_4, zr_288_5, zr_288_6, zr_288_7, zr_288_10, zr_288_13, zr_288_14, zr_288_17, zr_288_18, zr_288_19, zr_288_20, zr_288_24, zr_288_25, zr_288_28, zr_288_31, zr_288_32, zr_288_35, zr_288_36, zr_288_39, zr_288_40, zr_288_42, zr_288_43, zr_288_44, zr_288_45, zr_288_47, zr_288_50, zr_288_53, zr_288_54, zr_288_57, zr_288_58, zr_288_59, zr_288_62, zr_288_65, zr_288_66, true_or, or_true, true_and, and_true, if_true, if_false, ldA_ref, ldA_null, nl_int, nl_ref, nl_fl, nl_null, c1_int, c1_ref, c1_null, Nat.zero_add, Nat.zero_mul, Nat.one_mul, nI_add, nI_leI, nI_ltI, nI_eq, nI_mul, gf_M, k1, hln, show ¬ l.length ≤ i from by omega, show ¬ 1 = 0 from by omega, hat, li_M7 (show s + i < 60 by omega), g1, c, zcall_some, zpush_some, zpush_none, zsum_ref, zsum_int, zsum_long, zsum_nil, zsum_null, Nat.reduceAdd, Nat.reduceLeDiff, if_true]
      obtain ⟨v, e2, -⟩ := s_isWordF (h := h) (s := s) (e0 := 0) hs (l.length - (i + 1)) (i + 1) (by omega)
      exact e2
theorem s_isWord {k s e : Nat} (hk : k < 12) (hw : wdR (putM m r h)) (hb : bufR r sg n) (hp : rPl r = nI e) (hse : s ≤ e) (hen : e ≤ n ∨ e = s) (he : e ≤ 200) : ev 288 [.ref m, .int (nI s), .ref (66 + 2 * k)] (putM m r h) = some (some (.int (if spl sg s e (rwL k) then nI 1 else nI 0)), putM m r h) := by
  have hs := hw k hk
  have hln := s_strLen hs
  have k1 : zkd (putM m r h) (66 + 2 * k) = 13 := by obtain ⟨gs, h1, -⟩ := hs; exact kd_c h1
  have hsub : nI e - nI s = nI (e - s) := nI_sub hse (by omega)
  have hl3 : 3 ≤ (wL (rwL k)).length ∧ (wL (rwL k)).length ≤ 7 := by
    match k, hk with
    | 0, _ | 1, _ | 2, _ | 3, _ | 4, _ | 5, _ | 6, _ | 7, _ | 8, _ | 9, _ | 10, _ | 11, _ => decide
    | k + 12, h => omega
  generalize rwL k = w at hs hln hl3 ⊢
  by_cases c : (wL w).length = e - s
  · have hL := s_isWordL hs hb (show s + (wL w).length ≤ n by omega) (wL w).length 0 (by omega) (fun q hq => absurd hq (by omega))
    have e1 : bI (∀ q, q < (wL w).length → sg (s + q) = (wL w).getD q 0) = if spl sg s e w then nI 1 else nI 0 := by
      unfold bI
      by_cases d : ∀ q, q < (wL w).length → sg (s + q) = (wL w).getD q 0
      · rw [if_pos d, if_pos ((spl_iff sg s e w).mpr ⟨c, d⟩)]
      · rw [if_neg d, if_neg (fun x => d ((spl_iff sg s e w).mp x).2)]
    rw [e1] at hL
    rw [← hL]
    simp (implicitDefEqProofs := false) (disch := omega) only [ze_288, zr_288_0, zr_288_1, zr_288_4, zr_288_5, zr_288_6, zr_288_7, zr_288_10, zr_288_13, zr_288_14, zr_288_17, zr_288_18, zr_288_19, zr_288_20, zr_288_24, zr_288_25, zr_288_28, zr_288_31, zr_288_32, zr_288_35, zr_288_36, zr_288_39, zr_288_40, zr_288_42, zr_288_43, zr_288_44, zr_288_45, zr_288_47, zr_288_50, zr_288_53, zr_288_54, zr_288_57, zr_288_58, zr_288_59, zr_288_62, zr_288_65, zr_288_66, true_or, or_true, true_and, and_true, if_true, if_false, ldA_ref, ldA_null, nl_int, nl_ref, nl_fl, nl_null, c1_int, c1_ref, c1_null, Nat.zero_add, Nat.zero_mul, Nat.one_mul, nI_add, nI_leI, nI_ltI, nI_eq, nI_mul, gf_M, k1, hln, hp, hsub, c, zcall_some, zpush_some, zpush_none, zsum_ref, zsum_int, zsum_long, zsum_nil, zsum_null, Nat.reduceAdd, Nat.reduceLeDiff, if_true]
    done
  · have e1 : (if spl sg s e w then nI 1 else nI 0) = nI 0 := if_neg (fun x => c ((spl_iff sg s e w).mp x).1)
    obtain ⟨v, e2, -⟩ := s_isWordF (h := h) (s := s) (e0 := 0) hs (wL w).length 0 (by omega)
    rw [e1, ← e2]
    simp (implicitDefEqProofs := false) (disch := omega) only [ze_288, zr_288_0, zr_288_1, zr_288_4, zr_288_5, zr_288_6, zr_288_7, zr_288_10, zr_288_13, zr_288_14, zr_288_17, zr_288_18, zr_288_19, zr_288_20, zr_288_24, zr_288_25, zr_288_28, zr_288_31, zr_288_32, zr_288_35, zr_288_36, zr_288_39, zr_288_40, zr_288_42, zr_288_43, zr_288_44, zr_288_45, zr_288_47, zr_288_50, zr_288_53, zr_288_54, zr_288_57, zr_288_58, zr_288_59, zr_288_62, zr_288_65, zr_288_66, true_or, or_true, true_and, and_true, if_true, if_false, ldA_ref, ldA_null, nl_int, nl_ref, nl_fl, nl_null, c1_int, c1_ref, c1_null, Nat.zero_add, Nat.zero_mul, Nat.one_mul, nI_add, nI_leI, nI_ltI, nI_eq, nI_mul, gf_M, k1, hln, hp, hsub, show ¬ e - s = (wL w).length from fun x => c x.symm, zcall_some, zpush_some, zpush_none, zsum_ref, zsum_int, zsum_long, zsum_nil, zsum_null, Nat.reduceAdd, Nat.reduceLeDiff, if_true]
    done
/-- the reference's search: the last word that is spelled there, -1: none -/
def pRW (sg : Nat → Nat) (s e : Nat) : Nat → Int32
  | 0 => -1
  | k + 1 => if spl sg s e (rwL k) then nI k else pRW sg s e k
end
