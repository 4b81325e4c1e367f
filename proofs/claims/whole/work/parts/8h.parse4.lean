/-! COMMANDS as text: the class reads all of them -/
def rdI (x : Option Nat) : Int32 := match x with
  | none => -1
  | some p => nI p
section
variable {h : zH} {a n : Nat} {T : tyT} {sg : Nat → Nat}
theorem wdA.to {H H1 : zH} (x : wdA H) (hz : sta H1 H) : wdA H1 := fun k hk => (x k hk).to hz
theorem pCmd_len (sg : Nat → Nat) (n s : Nat) : (pCmd sg n s).2.2.2.length ≤ 3 := by
  have hlt := pWD_lt sg s (pWE sg n 60 s) 12 0 rfl
  unfold pCmd
  dsimp only
  generalize pWD sg s (pWE sg n 60 s) 12 0 = w at hlt ⊢
  generalize pWE sg n 60 s = e
  by_cases c : w = 12
  · rw [if_pos c]; exact Nat.zero_le _
  · rw [if_neg c]
    have h1 := pNS_len sg n (nA w) e
    have h2 := nA_3 (show w < 12 by omega)
    split
    · split
      · dsimp only; omega
      · dsimp only; omega
    · dsimp only; omega
theorem s_readL (ha : 100 ≤ a) : ∀ (f c s : Nat) (T : tyT) (v2 : Value), c + f = 12 → s ≤ 61 → bufT T sg n → gT_ct T = nI c → naT (blk a 5 (cT a T) h) → wdA (blk a 5 (cT a T) h) → ∃ T', rn 176 7 [.ref a, .int (nI s), v2] [] (blk a 5 (cT a T) h) = some (some (.int (rdI (pRD sg n f s).1)), blk a 5 (cT a T') h) ∧ bufT T' sg n ∧ gT_ct T' = nI (c + (pRD sg n f s).2.length) ∧ keC T' T c ∧ ∀ i x, (pRD sg n f s).2[i]? = some x → atC T' (c + i) x.1 x.2.1 x.2.2 := by
  intro f
  induction f with
  | zero =>
    intro c s T v2 hc hs hb hct hna hwd
    have hc2 : c = 12 := by omega
    subst hc2
    refine ⟨T, ?_, hb, hct, keC.rf T 12, fun i x hx => by cases hx⟩
    rw [zl_176_7]
    simp (implicitDefEqProofs := false) (disch := omega) only [ze_176, zr_176_0, zr_176_1, zr_176_2, zr_176_5, zr_176_6, zr_176_8, zr_176_11, zr_176_13, zr_176_16, zr_176_17, zr_176_18, zr_176_21, zr_176_22, zr_176_23, zr_176_26, zr_176_29, zr_176_30, zr_176_33, zr_176_34, zr_176_35, zr_176_36, zr_176_39, zr_176_40, zr_176_41, zr_176_44, zr_176_45, zr_176_46, zr_176_49, zr_176_52, zr_176_53, zr_176_54, zr_176_55, zr_176_56, zr_176_57, zr_176_58, zr_176_61, zr_176_62, true_or, or_true, true_and, and_true, if_true, if_false, ldA_ref, ldA_null, nl_int, nl_ref, nl_fl, nl_null, c1_int, c1_ref, c1_null, Nat.zero_add, Nat.zero_mul, Nat.one_mul, nI_add, nI_leI, nI_ltI, nI_eq, nI_mul, rdT_0 (blk_isB), rdT_1 (blk_isB), rdT_2 (blk_isB), rdT_3 (blk_isB), rdT_4 (blk_isB), rdT_5 (blk_isB), rdT_6 (blk_isB), rdT_7 (blk_isB), rdT_8 (blk_isB), rdT_9 (blk_isB), rdT_10 (blk_isB), rdT_11 (blk_isB), rdT_12 (blk_isB), rdT_13 (blk_isB), rdT_14 (blk_isB), hct, Nat.le_refl]
    rfl
  | succ f ih =>
    intro c s T v2 hc hs hb hct hna hwd
    have hn := hb.2.1
    have hT : isB (blk a 5 (cT a T) h) a 5 (cT a T) := blk_isB
    obtain ⟨T1, e1, b1, ct1, ke1, at1⟩ := s_readCmd (h := h) ha (show c < 12 by omega) hs hb hct hna hwd
    have hbd := pCmd_bd sg (s := s) hn hs
    have hln := pCmd_len sg n s
    rw [pRD]
    dsimp only
    generalize pCmd sg n s = z at e1 at1 hbd hln ⊢
    obtain ⟨z1, z2, z3, z4⟩ := z
    dsimp only at e1 at1 hbd hln ⊢
    have hT1 : isB (blk a 5 (cT a T1) h) a 5 (cT a T1) := blk_isB
    by_cases d1 : z1 = true
    · subst d1
      rw [if_pos rfl]
      have e2 : posI (true, z2) = nI z2 := if_pos rfl
      rw [e2] at e1
      have hf0 := s_isFail0 (show z2 < 200 by omega) (blk a 5 (cT a T1) h)
      have hst1 : sta (blk a 5 (cT a (sT_ct T1 (nI (c + 1)))) h) (blk a 5 (cT a T) h) := fun q hq => by rw [sta_blk ha q hq, sta_blk ha q hq]
      have at2 : atC (sT_ct T1 (nI (c + 1))) c z3 s z4 := at1 rfl
      by_cases d2 : n ≤ z2
      · rw [if_pos d2]
        refine ⟨sT_ct T1 (nI (c + 1)), ?_, b1, rfl, ke1, fun i x hx => ?_⟩
        · rw [zl_176_7]
          simp (implicitDefEqProofs := false) (disch := omega) only [ze_176, zr_176_0, zr_176_1, zr_176_2, zr_176_5, zr_176_6, zr_176_8, zr_176_11, zr_176_13, zr_176_16, zr_176_17, zr_176_18, zr_176_21, zr_176_22, zr_176_23, zr_176_26, zr_176_29, zr_176_30, zr_176_33, zr_176_34, zr_176_35, zr_176_36, zr_176_39, zr_176_40, zr_176_41, zr_176_44, zr_176_45, zr_176_46, zr_176_49, zr_176_52, zr_176_53, zr_176_54, zr_176_55, zr_176_56, zr_176_57, zr_176_58, zr_176_61, zr_176_62, true_or, or_true, true_and, and_true, if_true, if_false, ldA_ref, ldA_null, nl_int, nl_ref, nl_fl, nl_null, c1_int, c1_ref, c1_null, Nat.zero_add, Nat.zero_mul, Nat.one_mul, nI_add, nI_leI, nI_ltI, nI_eq, nI_mul, rdT_0 (hT), rdT_1 (hT), rdT_2 (hT), rdT_3 (hT), rdT_4 (hT), rdT_5 (hT), rdT_6 (hT), rdT_7 (hT), rdT_8 (hT), rdT_9 (hT), rdT_10 (hT), rdT_11 (hT), rdT_12 (hT), rdT_13 (hT), rdT_14 (hT), hct, show ¬ 12 ≤ c from by omega, e1, hf0, rdT_0 (hT1), rdT_1 (hT1), rdT_2 (hT1), rdT_3 (hT1), rdT_4 (hT1), rdT_5 (hT1), rdT_6 (hT1), rdT_7 (hT1), rdT_8 (hT1), rdT_9 (hT1), rdT_10 (hT1), rdT_11 (hT1), rdT_12 (hT1), rdT_13 (hT1), rdT_14 (hT1), ct1, wrT_0 (ha), wrT_1 (ha), wrT_2 (ha), wrT_3 (ha), wrT_4 (ha), wrT_5 (ha), rdT_0 (blk_isB), rdT_1 (blk_isB), rdT_2 (blk_isB), rdT_3 (blk_isB), rdT_4 (blk_isB), rdT_5 (blk_isB), rdT_6 (blk_isB), rdT_7 (blk_isB), rdT_8 (blk_isB), rdT_9 (blk_isB), rdT_10 (blk_isB), rdT_11 (blk_isB), rdT_12 (blk_isB), rdT_13 (blk_isB), rdT_14 (blk_isB), gsT_0, gsT_1, gsT_2, gsT_3, gsT_4, gsT_5, gsT_6, gsT_7, gsT_8, gsT_9, gsT_10, gsT_11, gsT_12, gsT_13, gsT_14, gsT_15, gsT_16, gsT_17, gsT_18, gsT_19, gsT_20, gsT_21, gsT_22, gsT_23, gsT_24, gsT_25, gsT_26, gsT_27, gsT_28, gsT_29, gsT_30, gsT_31, gsT_32, gsT_33, gsT_34, gsT_35, b1.1, show ¬ z2 < n from by omega, c1_ref, c1_int, zcall_some, zpush_some, zpush_none, zsum_ref, zsum_int, zsum_long, zsum_nil, zsum_null, Nat.reduceAdd, Nat.reduceLeDiff, if_true]
          rfl
        · by_cases hi : i = 0
          · subst hi
            have hx2 : (z3, s, z4) = x := by simpa using hx
            rw [← hx2]; exact at2
          · obtain ⟨j, rfl⟩ : ∃ j, i = j + 1 := ⟨i - 1, by omega⟩
            simp at hx
      · rw [if_neg d2]
        obtain ⟨T2, e3, b2, ct2, ke2, at3⟩ := ih (c + 1) (z2 + 1) (sT_ct T1 (nI (c + 1))) (.int (nI z2)) (by omega) (by omega) b1 rfl (hna.to hst1) (hwd.to hst1)
        refine ⟨T2, ?_, b2, ?_, ?_, fun i x hx => ?_⟩
        · rw [zl_176_7]
          simp (implicitDefEqProofs := false) (disch := omega) only [ze_176, zr_176_0, zr_176_1, zr_176_2, zr_176_5, zr_176_6, zr_176_8, zr_176_11, zr_176_13, zr_176_16, zr_176_17, zr_176_18, zr_176_21, zr_176_22, zr_176_23, zr_176_26, zr_176_29, zr_176_30, zr_176_33, zr_176_34, zr_176_35, zr_176_36, zr_176_39, zr_176_40, zr_176_41, zr_176_44, zr_176_45, zr_176_46, zr_176_49, zr_176_52, zr_176_53, zr_176_54, zr_176_55, zr_176_56, zr_176_57, zr_176_58, zr_176_61, zr_176_62, true_or, or_true, true_and, and_true, if_true, if_false, ldA_ref, ldA_null, nl_int, nl_ref, nl_fl, nl_null, c1_int, c1_ref, c1_null, Nat.zero_add, Nat.zero_mul, Nat.one_mul, nI_add, nI_leI, nI_ltI, nI_eq, nI_mul, rdT_0 (hT), rdT_1 (hT), rdT_2 (hT), rdT_3 (hT), rdT_4 (hT), rdT_5 (hT), rdT_6 (hT), rdT_7 (hT), rdT_8 (hT), rdT_9 (hT), rdT_10 (hT), rdT_11 (hT), rdT_12 (hT), rdT_13 (hT), rdT_14 (hT), hct, show ¬ 12 ≤ c from by omega, e1, hf0, rdT_0 (hT1), rdT_1 (hT1), rdT_2 (hT1), rdT_3 (hT1), rdT_4 (hT1), rdT_5 (hT1), rdT_6 (hT1), rdT_7 (hT1), rdT_8 (hT1), rdT_9 (hT1), rdT_10 (hT1), rdT_11 (hT1), rdT_12 (hT1), rdT_13 (hT1), rdT_14 (hT1), ct1, wrT_0 (ha), wrT_1 (ha), wrT_2 (ha), wrT_3 (ha), wrT_4 (ha), wrT_5 (ha), rdT_0 (blk_isB), rdT_1 (blk_isB), rdT_2 (blk_isB), rdT_3 (blk_isB), rdT_4 (blk_isB), rdT_5 (blk_isB), rdT_6 (blk_isB), rdT_7 (blk_isB), rdT_8 (blk_isB), rdT_9 (blk_isB), rdT_10 (blk_isB), rdT_11 (blk_isB), rdT_12 (blk_isB), rdT_13 (blk_isB), rdT_14 (blk_isB), gsT_0, gsT_1, gsT_2, gsT_3, gsT_4, gsT_5, gsT_6, gsT_7, gsT_8, gsT_9, gsT_10, gsT_11, gsT_12, gsT_13, gsT_14, gsT_15, gsT_16, gsT_17, gsT_18, gsT_19, gsT_20, gsT_21, gsT_22, gsT_23, gsT_24, gsT_25, gsT_26, gsT_27, gsT_28, gsT_29, gsT_30, gsT_31, gsT_32, gsT_33, gsT_34, gsT_35, b1.1, show z2 < n from by omega, c1_ref, c1_int, zcall_some, zpush_some, zpush_none, zsum_ref, zsum_int, zsum_long, zsum_nil, zsum_null, Nat.reduceAdd, Nat.reduceLeDiff, if_true]
          exact e3
        · rw [ct2]
          dsimp only
          rw [List.length_cons, show c + 1 + (pRD sg n f (z2 + 1)).2.length = c + ((pRD sg n f (z2 + 1)).2.length + 1) by omega]
        · intro i hi
          obtain ⟨k1, k2, k3⟩ := ke2 i (by omega)
          obtain ⟨k4, k5, k6⟩ := ke1 i hi
          exact ⟨k1.trans k4, k2.trans k5, fun j hj => (k3 j hj).trans (k6 j hj)⟩
        · by_cases hi : i = 0
          · subst hi
            have hx2 : (z3, s, z4) = x := by simpa using hx
            rw [← hx2]
            obtain ⟨k1, k2, k3⟩ := ke2 c (by omega)
            refine ⟨k1.trans at2.1, k2.trans at2.2.1, fun j v hv => ?_⟩
            by_cases hj : j < 3
            · exact (k3 j hj).trans (at2.2.2 j v hv)
            · have h9 : j < z4.length := (List.getElem?_eq_some_iff.mp hv).1
              omega
          · obtain ⟨j, rfl⟩ : ∃ j, i = j + 1 := ⟨i - 1, by omega⟩
            have := at3 j x (by simpa using hx)
            rw [show c + (j + 1) = c + 1 + j by omega]; exact this
    · have d3 : z1 = false := by simpa using d1
      subst d3
      rw [if_neg Bool.false_ne_true]
      have e2 : posI (false, z2) = -1 - nI z2 := if_neg Bool.false_ne_true
      rw [e2] at e1
      have hf1 := s_isFail1 (show z2 < 200 by omega) (blk a 5 (cT a T1) h)
      have hfp := s_failPos (show z2 < 200 by omega) (blk a 5 (cT a T1) h)
      refine ⟨T1, ?_, b1, ct1, ke1, fun i x hx => by cases hx⟩
      rw [zl_176_7]
      simp (implicitDefEqProofs := false) (disch := omega) only [ze_176, zr_176_0, zr_176_1, zr_176_2, zr_176_5, zr_176_6, zr_176_8, zr_176_11, zr_176_13, zr_176_16, zr_176_17, zr_176_18, zr_176_21, zr_176_22, zr_176_23, zr_176_26, zr_176_29, zr_176_30, zr_176_33, zr_176_34, zr_176_35, zr_176_36, zr_176_39, zr_176_40, zr_176_41, zr_176_44, zr_176_45, zr_176_46, zr_176_49, zr_176_52, zr_176_53, zr_176_54, zr_176_55, zr_176_56, zr_176_57, zr_176_58, zr_176_61, zr_176_62, true_or, or_true, true_and, and_true, if_true, if_false, ldA_ref, ldA_null, nl_int, nl_ref, nl_fl, nl_null, c1_int, c1_ref, c1_null, Nat.zero_add, Nat.zero_mul, Nat.one_mul, nI_add, nI_leI, nI_ltI, nI_eq, nI_mul, rdT_0 (hT), rdT_1 (hT), rdT_2 (hT), rdT_3 (hT), rdT_4 (hT), rdT_5 (hT), rdT_6 (hT), rdT_7 (hT), rdT_8 (hT), rdT_9 (hT), rdT_10 (hT), rdT_11 (hT), rdT_12 (hT), rdT_13 (hT), rdT_14 (hT), hct, show ¬ 12 ≤ c from by omega, e1, hf1, hfp, show ¬ 1 = 0 from by omega, zcall_some, zpush_some, zpush_none, zsum_ref, zsum_int, zsum_long, zsum_nil, zsum_null, Nat.reduceAdd, Nat.reduceLeDiff, if_true]
      rfl
theorem s_read (ha : 100 ≤ a) (hb : bufT T sg n) (hna : naT (blk a 5 (cT a T) h)) (hwd : wdA (blk a 5 (cT a T) h)) : ∃ T', ev 176 [.ref a] (blk a 5 (cT a T) h) = some (some (.int (rdI (pRD sg n 12 0).1)), blk a 5 (cT a T') h) ∧ bufT T' sg n ∧ gT_ct T' = nI (pRD sg n 12 0).2.length ∧ ∀ i x, (pRD sg n 12 0).2[i]? = some x → atC T' i x.1 x.2.1 x.2.2 := by
  have hst : sta (blk a 5 (cT a (sT_ct T (nI 0))) h) (blk a 5 (cT a T) h) := fun q hq => by rw [sta_blk ha q hq, sta_blk ha q hq]
  obtain ⟨T', e1, b1, c1, k1, a1⟩ := s_readL (h := h) ha 12 0 0 (sT_ct T (nI 0)) (.float 0) (by omega) (by omega) hb rfl (hna.to hst) (hwd.to hst)
  refine ⟨T', ?_, b1, by rw [c1, Nat.zero_add], fun i x hx => by
    have := a1 i x hx
    rw [Nat.zero_add] at this
    exact this⟩
  rw [← e1]
  simp (implicitDefEqProofs := false) (disch := omega) only [ze_176, zr_176_0, zr_176_1, zr_176_2, zr_176_5, zr_176_6, zr_176_8, zr_176_11, zr_176_13, zr_176_16, zr_176_17, zr_176_18, zr_176_21, zr_176_22, zr_176_23, zr_176_26, zr_176_29, zr_176_30, zr_176_33, zr_176_34, zr_176_35, zr_176_36, zr_176_39, zr_176_40, zr_176_41, zr_176_44, zr_176_45, zr_176_46, zr_176_49, zr_176_52, zr_176_53, zr_176_54, zr_176_55, zr_176_56, zr_176_57, zr_176_58, zr_176_61, zr_176_62, true_or, or_true, true_and, and_true, if_true, if_false, ldA_ref, ldA_null, nl_int, nl_ref, nl_fl, nl_null, c1_int, c1_ref, c1_null, wrT_0 (ha), wrT_1 (ha), wrT_2 (ha), wrT_3 (ha), wrT_4 (ha), wrT_5 (ha)]
end
