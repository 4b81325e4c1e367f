/-! TEXT under construction: letters and words appended -/
section
variable {H H1 H2 : zH} {sb cap c1 c2 N p n : Nat} {t : List Nat} {g : Nat → Int32} {ml : Int32}
theorem bytB_0 : bytB fun _ => 0 := fun _ => (by decide : fits .byte (.int 0) = true)
theorem bytB_cpy {g1 g2 : Nat → Int32} (h1 : bytB g1) (h2 : bytB g2) (a b k : Nat) : bytB (va_cpy g1 g2 a b k) := fun i => by
  show fits .byte (.int (if b ≤ i ∧ i < b + k then g1 (a + (i - b)) else g2 i)) = true
  split
  · exact h1 _
  · exact h2 _
theorem bytB_upd (h : bytB g) (k c : Nat) (hc : c < 128) : bytB (upd g k (nI c)) := fun i => by
  show fits .byte (.int (if i = k then nI c else g i)) = true
  split
  · exact fitB9 c hc
  · exact h _
theorem s_copyOf {q : Nat} (h : sbG H sb p cap ml g t) (hq : cap < q) (hq2 : q < 300000) : ev 105 [.ref p, .int (nI q)] H = some (some (.ref (100 + H.1)), zset (znew H (.inl (3, q, zz0 3)) q) (100 + H.1) (.inl (3, q, .inl (va_cpy g (fun _ => 0) 0 0 cap)))) := by
  have k1 : (znew H (.inl (3, q, zz0 3)) q).2.2 p = .inl (3, cap, .inl g) := (znew_ne (by have := h.2.2.2.2.2.2.2.2; omega)).trans h.2.1
  have k2 : (znew H (.inl (3, q, zz0 3)) q).2.2 (100 + H.1) = .inl (3, q, .inl fun _ => 0) := (znew_at _ _).trans rfl
  have hp := h.2.2.2.2.2.2.2.1
  have k4 : ∀ (β : Type) (f : Int32 → Option β), zal (znew H (.inl (3, q, zz0 3)) q) p f = f (nI cap) := fun _ f => al_c k1 (by decide) f
  have k3 : ∀ (β : Type) (f : zH → Option β), zcpI (znew H (.inl (3, q, zz0 3)) q) p (nI 0) (100 + H.1) (nI 0) (nI cap) f = f (zset (znew H (.inl (3, q, zz0 3)) q) (100 + H.1) (.inl (3, q, .inl (va_cpy g (fun _ => 0) 0 0 cap)))) := fun _ f => cpB_c k1 k2 h.2.2.2.2.1 (by omega) (by omega) (by omega) (by omega) (by omega) f
  have k5 : mkA (nI q) = fun r => r := by
    funext r
    unfold mkA
    rw [nI_clamp (by omega)]
    exact if_pos ⟨nI_pos (by omega), by omega⟩
  simp (implicitDefEqProofs := false) (disch := omega) only [ze_105, zr_105_0, zr_105_1, zr_105_2, zr_105_3, zr_105_6, zr_105_13, zr_105_14, zr_105_15, zr_105_17, zr_105_18, zr_105_19, zr_105_20, zr_105_21, zr_105_22, zr_105_23, zr_105_24, zr_105_25, zr_105_28, zr_105_31, zr_105_32, true_or, or_true, true_and, and_true, if_true, if_false, ldA_ref, ldA_null, nl_int, nl_ref, nl_fl, nl_null, c1_int, c1_ref, c1_null, Nat.zero_add, Nat.zero_mul, Nat.one_mul, nI_add, nI_leI, nI_ltI, nI_eq, nI_mul, zb_at h, show q ≠ cap from by omega, k5, nI_clamp, k4, show ¬ q < cap from by omega, k3, zcall_some, zpush_some, zpush_none, zsum_ref, zsum_int, zsum_long, zsum_nil, zsum_null, Nat.reduceAdd, Nat.reduceLeDiff, if_true]
  done
theorem s_ens {q : Nat} (hS : sbB H sb cap t) (hsb : 100 ≤ sb) (hs2 : sb < 100 + H.1) (hq : q ≤ N) (hN : N ≤ 40000) (hcN : cap ≤ 90000) : ∃ H' cap', ev 100 [.ref sb, .int (nI q)] H = some (none, H') ∧ sbB H' sb cap' t ∧ q ≤ cap' ∧ cap' ≤ 90000 ∧ txF H' H sb cap cap' N := by
  obtain ⟨p, ml, g, h⟩ := hS
  by_cases c : q ≤ cap
  · refine ⟨H, cap, ?_, ⟨p, ml, g, h⟩, c, hcN, txF.rf H sb cap N⟩
    simp (implicitDefEqProofs := false) (disch := omega) only [ze_100, zr_100_0, zr_100_1, zr_100_4, zr_100_5, zr_100_6, zr_100_9, zr_100_10, zr_100_11, zr_100_12, zr_100_13, zr_100_14, zr_100_17, zr_100_18, zr_100_19, zr_100_22, zr_100_23, zr_100_24, zr_100_27, zr_100_28, zr_100_31, zr_100_32, zr_100_35, zr_100_38, true_or, or_true, true_and, and_true, if_true, if_false, ldA_ref, ldA_null, nl_int, nl_ref, nl_fl, nl_null, c1_int, c1_ref, c1_null, Nat.zero_add, Nat.zero_mul, Nat.one_mul, nI_add, nI_leI, nI_ltI, nI_eq, nI_mul, zb_at h, shr0, nI_subLe, c, zcall_some, zpush_some, zpush_none, zsum_ref, zsum_int, zsum_long, zsum_nil, zsum_null, Nat.reduceAdd, Nat.reduceLeDiff, if_true]
  · have hn := s_newCap h (show cap < q by omega) (by omega) (by omega)
    have hcap : cap < nCap q cap ∧ q ≤ nCap q cap ∧ 2 * cap + 2 ≤ nCap q cap ∧ nCap q cap ≤ 2 * q := by
      unfold nCap; split <;> omega
    have hco := s_copyOf h hcap.1 (by omega)
    generalize nCap q cap = c2 at hn hco hcap
    have hp := h.2.2.2.2.2.2.2.2
    have hp1 := h.2.2.2.2.2.2.2.1
    have hpn := h.2.2.2.2.2.2.1
    have hX : sbG (zset (znew H (.inl (3, c2, zz0 3)) c2) (100 + H.1) (.inl (3, c2, .inl (va_cpy g (fun _ => 0) 0 0 cap)))) sb p cap ml g t := ⟨(zset_ne (by omega)).trans ((znew_ne (by omega)).trans h.1), (zset_ne (by omega)).trans ((znew_ne (by omega)).trans h.2.1), h.2.2.1, h.2.2.2.1, h.2.2.2.2.1, h.2.2.2.2.2.1, hpn, hp1, by show p < 100 + (H.1 + 1); omega⟩
    refine ⟨zset (zset (znew H (.inl (3, c2, zz0 3)) c2) (100 + H.1) (.inl (3, c2, .inl (va_cpy g (fun _ => 0) 0 0 cap)))) sb (sbO (100 + H.1) ml t.length), c2, ?_, ⟨100 + H.1, ml, va_cpy g (fun _ => 0) 0 0 cap, zset_at _ _, (zset_ne (by omega)).trans (zset_at _ _), by have := h.2.2.1; omega, by omega, bytB_cpy h.2.2.2.2.1 bytB_0 _ _ _, fun j c hj => ?_, by omega, by omega, by show 100 + H.1 < 100 + (H.1 + 1); omega⟩, hcap.2.1, by omega, ⟨by omega, Or.inr (by omega), by show H.1 ≤ H.1 + 1; omega, by show H.1 + 1 + cap ≤ H.1 + c2; omega, by show H.2.1 + c2 + 2 * cap ≤ H.2.1 + 2 * c2; omega, fun q2 h1 h2 h3 => ?_⟩⟩
    · have hX2 : ∀ (β : Type) (f : zH → Option β), _ := fun β f => zb_pf0 (β := β) hX hsb (100 + H.1) f
      simp (implicitDefEqProofs := false) (disch := omega) only [ze_100, zr_100_0, zr_100_1, zr_100_4, zr_100_5, zr_100_6, zr_100_9, zr_100_10, zr_100_11, zr_100_12, zr_100_13, zr_100_14, zr_100_17, zr_100_18, zr_100_19, zr_100_22, zr_100_23, zr_100_24, zr_100_27, zr_100_28, zr_100_31, zr_100_32, zr_100_35, zr_100_38, true_or, or_true, true_and, and_true, if_true, if_false, ldA_ref, ldA_null, nl_int, nl_ref, nl_fl, nl_null, c1_int, c1_ref, c1_null, Nat.zero_add, Nat.zero_mul, Nat.one_mul, nI_add, nI_leI, nI_ltI, nI_eq, nI_mul, zb_at h, shr0, shl0, nI_subLe, c, hn, hco, zb_at hX, hX2, zcall_some, zpush_some, zpush_none, zsum_ref, zsum_int, zsum_long, zsum_nil, zsum_null, Nat.reduceAdd, Nat.reduceLeDiff, if_true]
      done
    · obtain ⟨a1, a2⟩ := h.2.2.2.2.2.1 j c hj
      refine ⟨a1, ?_⟩
      have hjl : j < t.length := (List.getElem?_eq_some_iff.mp hj).1
      have hl := h.2.2.1
      show (if 0 ≤ j ∧ j < 0 + cap then g (0 + (j - 0)) else 0) = nI c
      rw [if_pos (by omega), show 0 + (j - 0) = j by omega]
      exact a2
    · rw [zset_ne h1, zset_ne (by omega), znew_ne (by omega)]
theorem s_isL1 (h : sbG H sb p cap ml g t) : ev 106 [.ref sb] H = some (some (.int (nI 1)), H) := by
  simp (implicitDefEqProofs := false) (disch := omega) only [ze_106, zr_106_0, zr_106_3, zr_106_6, zr_106_7, zr_106_10, zr_106_13, zr_106_14, zr_106_17, zr_106_18, true_or, or_true, true_and, and_true, if_true, if_false, ldA_ref, ldA_null, nl_int, nl_ref, nl_fl, nl_null, c1_int, c1_ref, c1_null, Nat.zero_add, Nat.zero_mul, Nat.one_mul, nI_add, nI_leI, nI_ltI, nI_eq, nI_mul, zb_at h, c10, zcall_some, zpush_some, zpush_none, zsum_ref, zsum_int, zsum_long, zsum_nil, zsum_null, Nat.reduceAdd, Nat.reduceLeDiff, if_true]
theorem app_at {l : List Nat} {c d j : Nat} (h : (l ++ [c])[j]? = some d) : (l[j]? = some d) ∨ (j = l.length ∧ d = c) := by
  by_cases hj : j < l.length
  · rw [List.getElem?_append_left hj] at h
    exact Or.inl h
  · have hle : j < (l ++ [c]).length := (List.getElem?_eq_some_iff.mp h).1
    rw [List.length_append] at hle
    have hj2 : j = l.length := by simp at hle; omega
    subst hj2
    rw [List.getElem?_append_right (Nat.le_refl _), Nat.sub_self] at h
    cases h
    exact Or.inr ⟨rfl, rfl⟩
theorem s_appC {c : Nat} (hS : sbB H sb cap t) (hsb : 100 ≤ sb) (hs2 : sb < 100 + H.1) (hl : t.length + 1 ≤ N) (hN : N ≤ 40000) (hcN : cap ≤ 90000) (hc : c < 128) : ∃ H' cap', ev 133 [.ref sb, .int (nI c)] H = some (some (.ref sb), H') ∧ sbB H' sb cap' (t ++ [c]) ∧ cap' ≤ 90000 ∧ txF H' H sb cap cap' N := by
  obtain ⟨p0, ml0, g0, h0⟩ := hS
  obtain ⟨H1, c1, e1, ⟨p, ml, g, h⟩, hq, hc9, f1⟩ := s_ens ⟨p0, ml0, g0, h0⟩ hsb hs2 hl hN hcN
  have hsb1 : sb < 100 + H1.1 := by have := f1.2.2.1; omega
  have hpn := h.2.2.2.2.2.2.1
  have hp1 := h.2.2.2.2.2.2.2.1
  have hp2 := h.2.2.2.2.2.2.2.2
  have k1 : (zset H1 sb (sbO p ml (t.length + 1))).2.2 p = .inl (3, c1, .inl g) := (zset_ne hpn).trans h.2.1
  have k2 : ∀ (β : Type) (f : zH → Option β), zsi (zset H1 sb (sbO p ml (t.length + 1))) p 3 (nI t.length) (nI c) f = f (zset (zset H1 sb (sbO p ml (t.length + 1))) p (.inl (3, c1, .inl (upd g t.length (nI c))))) := fun _ f => si_c k1 (by omega) (by omega) hp1 (nI c) f
  have k3 := s_isL1 h
  refine ⟨zset (zset H1 sb (sbO p ml (t.length + 1))) p (.inl (3, c1, .inl (upd g t.length (nI c)))), c1, ?_, ⟨p, ml, upd g t.length (nI c), ?_, zset_at _ _, by rw [List.length_append]; simpa using hq, h.2.2.2.1, bytB_upd h.2.2.2.2.1 _ _ hc, fun j d hj => ?_, hpn, hp1, hp2⟩, hc9, txF.tr (H1 := H1) (c1 := c1) ⟨Nat.le_refl _, Or.inl rfl, Nat.le_refl _, Nat.le_refl _, Nat.le_refl _, fun q2 h1 h2 h3 => ?_⟩ f1⟩
  · simp (implicitDefEqProofs := false) (disch := omega) only [ze_133, zr_133_0, zr_133_1, zr_133_2, zr_133_5, zr_133_6, zr_133_7, ze_134, zr_134_0, zr_134_1, zr_134_2, zr_134_5, zr_134_6, zr_134_7, zr_134_10, zr_134_11, zr_134_14, zr_134_17, zr_134_18, zr_134_21, zr_134_24, zr_134_25, zr_134_28, zr_134_29, zr_134_30, zr_134_33, zr_134_34, zr_134_35, zr_134_36, zr_134_39, zr_134_40, zr_134_41, zr_134_42, zr_134_45, zr_134_46, zr_134_49, zr_134_52, zr_134_53, zr_134_56, zr_134_57, zr_134_60, zr_134_61, zr_134_62, zr_134_65, zr_134_66, zr_134_67, zr_134_68, zr_134_71, zr_134_72, zr_134_75, zr_134_76, ze_135, zr_135_0, zr_135_1, zr_135_4, zr_135_7, zr_135_8, zr_135_11, zr_135_12, true_or, or_true, true_and, and_true, if_true, if_false, ldA_ref, ldA_null, nl_int, nl_ref, nl_fl, nl_null, c1_int, c1_ref, c1_null, Nat.zero_add, Nat.zero_mul, Nat.one_mul, nI_add, nI_leI, nI_ltI, nI_eq, nI_mul, zb_at h0, e1, zb_at h, k3, bI_ok, show ¬ (1 : Nat) = 0 from by omega, show ¬ 255 < c from by omega, c1_int, c1_ref, zb_pf3 h hsb, narB9 c hc, narB8 c hc, narB c hc, k2, zcall_some, zpush_some, zpush_none, zsum_ref, zsum_int, zsum_long, zsum_nil, zsum_null, Nat.reduceAdd, Nat.reduceLeDiff, if_true]
    done
  · rw [zset_ne (Ne.symm hpn), zset_at, List.length_append]; rfl
  · rcases app_at hj with hj | ⟨rfl, rfl⟩
    · obtain ⟨a1, a2⟩ := h.2.2.2.2.2.1 j d hj
      have hjl : j < t.length := (List.getElem?_eq_some_iff.mp hj).1
      refine ⟨a1, ?_⟩
      show (if j = t.length then nI c else g j) = nI d
      rw [if_neg (by omega)]; exact a2
    · exact ⟨hc, if_pos rfl⟩
  · have h4 : q2 ≠ p := fun h5 => h3.elim (fun h6 => h6 (by rw [h5, kd_kc, h.2.1]; rfl)) (fun h6 => by omega)
    rw [zset_ne h4, zset_ne h1]
end
