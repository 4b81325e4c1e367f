/-! SLIPS: a slip's lines as a list -/
abbrev Ln : Type := Int32 × Int32 × Int32 × Int64
def pSum : List Ln → Int64
  | [] => 0
  | x :: l => x.2.2.2 + pSum l
theorem pSum_app (l : List Ln) (x : Ln) : pSum (l ++ [x]) = pSum l + x.2.2.2 := by
  induction l with
  | nil => simp [pSum]
  | cons y l ih => rw [List.cons_append, pSum, pSum, ih, Int64.add_assoc]
def isL (d : tyS) (l : List Ln) : Prop := gS_ct d = nI l.length ∧ l.length ≤ 54 ∧ gS_sm d = pSum l ∧ ∀ (i : Nat) (x : Ln), l[i]? = some x → gS_pt d i = x.1 ∧ gS_pt d (54 + i) = x.2.1 ∧ gS_pt d (108 + i) = x.2.2.1 ∧ gS_at d i = x.2.2.2
def pAdd (d : tyS) (c : Nat) (x : Ln) : tyS := sS_sm (sS_ct (sS_at (sS_pt d (upd (upd (upd (gS_pt d) c x.1) (54 + c) x.2.1) (108 + c) x.2.2.1)) (vp_updL (gS_at d) c x.2.2.2)) (nI (c + 1))) (gS_sm d + x.2.2.2)
theorem isL_add {d : tyS} {l : List Ln} (h : isL d l) (hl : l.length < 54) (x : Ln) : isL (pAdd d l.length x) (l ++ [x]) := by
  obtain ⟨h1, h2, h3, h4⟩ := h
  refine ⟨?_, by simp; omega, ?_, ?_⟩
  · rw [List.length_append]; rfl
  · rw [pSum_app, ← h3]; rfl
  · intro i y hi
    show upd (upd (upd (gS_pt d) l.length x.1) (54 + l.length) x.2.1) (108 + l.length) x.2.2.1 i = _ ∧ upd (upd (upd (gS_pt d) l.length x.1) (54 + l.length) x.2.1) (108 + l.length) x.2.2.1 (54 + i) = _ ∧ upd (upd (upd (gS_pt d) l.length x.1) (54 + l.length) x.2.1) (108 + l.length) x.2.2.1 (108 + i) = _ ∧ vp_updL (gS_at d) l.length x.2.2.2 i = _
    unfold upd vp_updL
    by_cases e : i < l.length
    · rw [List.getElem?_append_left e] at hi
      obtain ⟨k1, k2, k3, k4⟩ := h4 i y hi
      rw [if_neg (by omega), if_neg (by omega), if_neg (by omega), if_neg (by omega), if_neg (by omega), if_neg (by omega), if_neg (by omega), if_neg (by omega), if_neg (by omega), if_neg (by omega)]
      exact ⟨k1, k2, k3, k4⟩
    · have hle : i < (l ++ [x]).length := (List.getElem?_eq_some_iff.mp hi).1
      rw [List.length_append] at hle
      have hi2 : i = l.length := by simp at hle; omega
      subst hi2
      rw [List.getElem?_append_right (Nat.le_refl _), Nat.sub_self] at hi
      cases hi
      rw [if_neg (by omega), if_neg (by omega), if_pos rfl, if_neg (by omega), if_pos rfl, if_pos rfl, if_pos rfl]
      exact ⟨rfl, rfl, rfl, rfl⟩
theorem s_slipAdd {h : zH} {q : Nat} {d : tyS} {l : List Ln} (hq : 100 ≤ q) (hl : isL d l) (hn : l.length < 54) (k i r : Int32) (x : Int64) : ev 68 [.ref q, .int k, .int i, .int r, .long x] (blk q 3 (cS q d) h) = some (none, blk q 3 (cS q (pAdd d l.length (k, i, r, x))) h) := by
  simp (implicitDefEqProofs := false) (disch := omega) only [ze_68, zr_68_0, zr_68_1, zr_68_4, zr_68_6, zr_68_9, zr_68_10, zr_68_11, zr_68_14, zr_68_15, zr_68_18, zr_68_19, zr_68_20, zr_68_21, zr_68_24, zr_68_26, zr_68_27, zr_68_30, zr_68_31, zr_68_32, zr_68_33, zr_68_34, zr_68_37, zr_68_39, zr_68_40, zr_68_43, zr_68_44, zr_68_45, zr_68_46, zr_68_47, zr_68_50, zr_68_51, zr_68_54, zr_68_56, zr_68_57, zr_68_58, zr_68_59, zr_68_62, zr_68_63, zr_68_64, zr_68_67, zr_68_68, zr_68_69, zr_68_72, zr_68_74, zr_68_75, zr_68_78, true_or, or_true, true_and, and_true, if_true, if_false, ldA_ref, ldA_null, nl_int, nl_ref, nl_fl, nl_null, c1_int, c1_ref, c1_null, rdS_0 (blk_isB), rdS_1 (blk_isB), rdS_2 (blk_isB), rdS_3 (blk_isB), rdS_4 (blk_isB), rdS_5 (blk_isB), rdS_6 (blk_isB), rdS_7 (blk_isB), rdS_8 (blk_isB), wrS_0 (hq), wrS_1 (hq), wrS_2 (hq), wrS_3 (hq), gsS_0, gsS_1, gsS_2, gsS_3, gsS_4, gsS_5, gsS_6, gsS_7, gsS_8, gsS_9, gsS_10, gsS_11, gsS_12, gsS_13, gsS_14, gsS_15, hl.1, Nat.zero_add, Nat.zero_mul, Nat.one_mul, nI_add, nI_leI, nI_ltI, nI_eq, nI_mul, show ¬ 54 ≤ l.length from by omega, if_false]
  rw [if_pos hn]
  rfl
theorem s_slipClear {h : zH} {q : Nat} {d : tyS} (hq : 100 ≤ q) : ev 153 [.ref q] (blk q 3 (cS q d) h) = some (none, blk q 3 (cS q (sS_sm (sS_ct d (nI 0)) 0)) h) := by
  simp (implicitDefEqProofs := false) (disch := omega) only [ze_153, zr_153_0, zr_153_1, zr_153_2, zr_153_5, zr_153_6, zr_153_7, zr_153_10, true_or, or_true, true_and, and_true, if_true, if_false, ldA_ref, ldA_null, nl_int, nl_ref, nl_fl, nl_null, c1_int, c1_ref, c1_null, rdS_0 (blk_isB), rdS_1 (blk_isB), rdS_2 (blk_isB), rdS_3 (blk_isB), rdS_4 (blk_isB), rdS_5 (blk_isB), rdS_6 (blk_isB), rdS_7 (blk_isB), rdS_8 (blk_isB), wrS_0 (hq), wrS_1 (hq), wrS_2 (hq), wrS_3 (hq), gsS_0, gsS_1, gsS_2, gsS_3, gsS_4, gsS_5, gsS_6, gsS_7, gsS_8, gsS_9, gsS_10, gsS_11, gsS_12, gsS_13, gsS_14, gsS_15]
theorem isL_clear (d : tyS) : isL (sS_sm (sS_ct d (nI 0)) 0) [] := ⟨rfl, by simp, rfl, fun i x h => by cases h⟩
/-- reads -/
theorem s_slipHas {H : zH} {q : Nat} {d : tyS} {l : List Ln} (hS : isB H q 3 (cS q d)) (hl : isL d l) (i : Int32) : ev 93 [.ref q, .int i] H = some (some (.int (bI (nI 0 ≤ i ∧ i < nI l.length))), H) := by
  have hln := hl.2.1
  simp (implicitDefEqProofs := false) (disch := omega) only [ze_93, zr_93_0, zr_93_1, zr_93_2, zr_93_3, zr_93_6, zr_93_7, zr_93_8, zr_93_11, true_or, or_true, true_and, and_true, if_true, if_false, ldA_ref, ldA_null, nl_int, nl_ref, nl_fl, nl_null, c1_int, c1_ref, c1_null, rdS_0 (hS), rdS_1 (hS), rdS_2 (hS), rdS_3 (hS), rdS_4 (hS), rdS_5 (hS), rdS_6 (hS), rdS_7 (hS), rdS_8 (hS), hl.1, s_within, zcall_some, zpush_some, zpush_none, zsum_ref, zsum_int, zsum_long, zsum_nil, zsum_null, Nat.reduceAdd, Nat.reduceLeDiff, if_true, bI_ok, le_pred]
