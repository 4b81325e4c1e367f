/-! TEXT under construction: words appended; emptied; read -/
section
variable {H H1 H2 : zH} {sb cap c1 c2 N p n a : Nat} {t l : List Nat} {g : Nat → Int32} {ml : Int32}
/-- the text of a constant stands at a -/
def stOK (H : zH) (a : Nat) (l : List Nat) : Prop := ∃ gs, H.2.2 a = .inr (13, [.ref (a + 1), .int 0]) ∧ H.2.2 (a + 1) = .inl (3, l.length, .inl gs) ∧ bytB gs ∧ (∀ j c, l[j]? = some c → c < 128 ∧ gs j = nI c) ∧ a + 1 < 100 ∧ l.length < 1000
/-- the cells below a hundred are as they were -/
def sta (H' H : zH) : Prop := ∀ q, q < 100 → H'.2.2 q = H.2.2 q
theorem txF.sta (f : txF H1 H sb cap c1 N) (hsb : 100 ≤ sb) : sta H1 H := fun q hq => f.2.2.2.2.2 q (by omega) (by omega) (Or.inr hq)
theorem stOK.to (h : stOK H a l) (hz : ∀ q, q < 100 → H1.2.2 q = H.2.2 q) : stOK H1 a l := by
  obtain ⟨gs, h1, h2, h3, h4, h5, h6⟩ := h
  exact ⟨gs, (hz _ (by omega)).trans h1, (hz _ h5).trans h2, h3, h4, h5, h6⟩
theorem s_strLen (h : stOK H a l) : ev 122 [.ref a] H = some (some (.int (nI l.length)), H) := by
  obtain ⟨gs, h1, h2, h3, h4, h5, h6⟩ := h
  have k1 : zkd H a = 13 := kd_c h1
  have k2 : ∀ (β : Type) (f : Value → Option β), zgf H a 13 0 f = f (.ref (a + 1)) := fun _ f => gf_c h1 rfl f
  have k3 : ∀ (β : Type) (f : Value → Option β), zgf H a 13 1 f = f (.int 0) := fun _ f => gf_c h1 rfl f
  have k4 : ∀ (β : Type) (f : Int32 → Option β), zal H (a + 1) f = f (nI l.length) := fun _ f => al_c h2 (by decide) f
  simp (implicitDefEqProofs := false) (disch := omega) only [ze_122, zr_122_0, zr_122_1, zr_122_4, zr_122_5, zr_122_6, zr_122_9, zr_122_10, ze_123, zr_123_0, zr_123_3, zr_123_6, zr_123_7, zr_123_10, zr_123_13, zr_123_14, true_or, or_true, true_and, and_true, if_true, if_false, ldA_ref, ldA_null, nl_int, nl_ref, nl_fl, nl_null, c1_int, c1_ref, c1_null, Nat.zero_add, Nat.zero_mul, Nat.one_mul, nI_add, nI_leI, nI_ltI, nI_eq, nI_mul, k1, k2, k3, k4, c10, c01, shr0', zcall_some, zpush_some, zpush_none, zsum_ref, zsum_int, zsum_long, zsum_nil, zsum_null, Nat.reduceAdd, Nat.reduceLeDiff, if_true]
theorem s_strCoder (h : stOK H a l) : ev 123 [.ref a] H = some (some (.int 0), H) := by
  obtain ⟨gs, h1, h2, h3, h4, h5, h6⟩ := h
  have k3 : ∀ (β : Type) (f : Value → Option β), zgf H a 13 1 f = f (.int 0) := fun _ f => gf_c h1 rfl f
  simp (implicitDefEqProofs := false) (disch := omega) only [ze_123, zr_123_0, zr_123_3, zr_123_6, zr_123_7, zr_123_10, zr_123_13, zr_123_14, true_or, or_true, true_and, and_true, if_true, if_false, ldA_ref, ldA_null, nl_int, nl_ref, nl_fl, nl_null, c1_int, c1_ref, c1_null, Nat.zero_add, Nat.zero_mul, Nat.one_mul, nI_add, nI_leI, nI_ltI, nI_eq, nI_mul, k3, c10, c01, zcall_some, zpush_some, zpush_none, zsum_ref, zsum_int, zsum_long, zsum_nil, zsum_null, Nat.reduceAdd, Nat.reduceLeDiff, if_true]
theorem app2_at {t l : List Nat} {d j : Nat} (h : (t ++ l)[j]? = some d) : (j < t.length ∧ t[j]? = some d) ∨ (t.length ≤ j ∧ j < t.length + l.length ∧ l[j - t.length]? = some d) := by
  by_cases hj : j < t.length
  · rw [List.getElem?_append_left hj] at h
    exact Or.inl ⟨hj, h⟩
  · have hle : j < (t ++ l).length := (List.getElem?_eq_some_iff.mp h).1
    rw [List.length_append] at hle
    rw [List.getElem?_append_right (by omega)] at h
    exact Or.inr ⟨by omega, hle, h⟩
theorem s_putStr (hG : sbG H sb p cap ml g t) (hs : stOK H a l) (hsb : 100 ≤ sb) (hl : t.length + l.length ≤ cap) : ev 124 [.ref sb, .int (nI t.length), .ref a] H = some (none, zset H p (.inl (3, cap, .inl (va_cpy (fun j => nI (l.getD j 0)) g 0 t.length l.length)))) := by
  have hco := s_strCoder hs
  obtain ⟨gs, h1, h2, h3, h4, h5, h6⟩ := hs
  have hc9 := hG.2.2.2.1
  have hp1 := hG.2.2.2.2.2.2.2.1
  have k1 : zkd H a = 13 := kd_c h1
  have k2 : ∀ (β : Type) (f : Value → Option β), zgf H a 13 0 f = f (.ref (a + 1)) := fun _ f => gf_c h1 rfl f
  have k4 : ∀ (β : Type) (f : Int32 → Option β), zal H (a + 1) f = f (nI l.length) := fun _ f => al_c h2 (by decide) f
  have k5 : ∀ (β : Type) (f : zH → Option β), zcpI H (a + 1) (nI 0) p (nI t.length) (nI l.length) f = f (zset H p (.inl (3, cap, .inl (va_cpy gs g 0 t.length l.length)))) := fun _ f => cpB_c h2 hG.2.1 h3 hp1 (by omega) hl (by omega) (by omega) f
  have k6 : va_cpy gs g 0 t.length l.length = va_cpy (fun j => nI (l.getD j 0)) g 0 t.length l.length := by
    funext q
    show (if t.length ≤ q ∧ q < t.length + l.length then gs (0 + (q - t.length)) else g q) = if t.length ≤ q ∧ q < t.length + l.length then nI (l.getD (0 + (q - t.length)) 0) else g q
    by_cases c : t.length ≤ q ∧ q < t.length + l.length
    · rw [if_pos c, if_pos c]
      have hj : 0 + (q - t.length) < l.length := by omega
      rw [List.getD_eq_getElem?_getD, List.getElem?_eq_getElem hj]
      exact (h4 _ _ (List.getElem?_eq_getElem hj)).2
    · rw [if_neg c, if_neg c]
  rw [← k6]
  simp (implicitDefEqProofs := false) (disch := omega) only [ze_124, zr_124_0, zr_124_1, zr_124_2, zr_124_5, zr_124_6, zr_124_7, zr_124_10, zr_124_11, zr_124_12, zr_124_15, zr_124_18, ze_125, zr_125_0, zr_125_3, zr_125_6, zr_125_7, zr_125_10, zr_125_11, zr_125_14, zr_125_17, zr_125_18, zr_125_21, ze_132, zr_132_0, zr_132_1, zr_132_4, zr_132_5, zr_132_8, zr_132_9, zr_132_12, zr_132_13, zr_132_14, zr_132_15, zr_132_16, zr_132_17, zr_132_18, zr_132_21, zr_132_22, zr_132_25, zr_132_28, zr_132_29, zr_132_32, zr_132_33, zr_132_34, zr_132_35, zr_132_36, zr_132_39, zr_132_40, zr_132_43, true_or, or_true, true_and, and_true, if_true, if_false, ldA_ref, ldA_null, nl_int, nl_ref, nl_fl, nl_null, c1_int, c1_ref, c1_null, Nat.zero_add, Nat.zero_mul, Nat.one_mul, nI_add, nI_leI, nI_ltI, nI_eq, nI_mul, zb_at hG, hco, k1, k2, k4, c10, c01, c00, shl0, k5, zcall_some, zpush_some, zpush_none, zsum_ref, zsum_int, zsum_long, zsum_nil, zsum_null, Nat.reduceAdd, Nat.reduceLeDiff, if_true]
  done
theorem s_appS (hS : sbB H sb cap t) (hst : stOK H a l) (hsb : 100 ≤ sb) (hs2 : sb < 100 + H.1) (hl : t.length + l.length ≤ N) (hN : N ≤ 40000) (hcN : cap ≤ 90000) : ∃ H' cap', ev 113 [.ref sb, .ref a] H = some (some (.ref sb), H') ∧ sbB H' sb cap' (t ++ l) ∧ cap' ≤ 90000 ∧ txF H' H sb cap cap' N := by
  obtain ⟨p0, ml0, g0, h0⟩ := hS
  obtain ⟨H1, c1, e1, ⟨p, ml, g, h⟩, hq, hc9, f1⟩ := s_ens ⟨p0, ml0, g0, h0⟩ hsb hs2 hl hN hcN
  have hst1 : stOK H1 a l := hst.to (f1.sta hsb)
  have hle := s_strLen hst
  have hpu := s_putStr h hst1 hsb hq
  have hpn := h.2.2.2.2.2.2.1
  have hp1 := h.2.2.2.2.2.2.2.1
  have hp2 := h.2.2.2.2.2.2.2.2
  obtain ⟨gs, w1, w2, w3, w4, w5, w6⟩ := hst1
  have k1 : zkd H a = 13 := by obtain ⟨gs, h1, -⟩ := hst; exact kd_c h1
  have kb : bytB (va_cpy (fun j => nI (l.getD j 0)) g 0 t.length l.length) := bytB_cpy (fun i => by
    by_cases hi : i < l.length
    · rw [List.getD_eq_getElem?_getD, List.getElem?_eq_getElem hi]
      exact fitB9 _ (w4 _ _ (List.getElem?_eq_getElem hi)).1
    · rw [List.getD_eq_getElem?_getD, List.getElem?_eq_none (by omega)]
      exact fitB9 0 (by omega)) h.2.2.2.2.1 _ _ _
  generalize hgg : va_cpy (fun j => nI (l.getD j 0)) g 0 t.length l.length = g2 at hpu kb
  have h2 : sbG (zset H1 p (.inl (3, c1, .inl g2))) sb p c1 ml g2 t := ⟨(zset_ne (Ne.symm hpn)).trans h.1, zset_at _ _, h.2.2.1, h.2.2.2.1, kb, fun j c hj => by
    obtain ⟨a1, a2⟩ := h.2.2.2.2.2.1 j c hj
    have hjl : j < t.length := (List.getElem?_eq_some_iff.mp hj).1
    refine ⟨a1, ?_⟩
    rw [← hgg]
    show (if t.length ≤ j ∧ j < t.length + l.length then _ else g j) = nI c
    rw [if_neg (by omega)]; exact a2, hpn, hp1, hp2⟩
  refine ⟨zset (zset H1 p (.inl (3, c1, .inl g2))) sb (sbO p ml (t.length + l.length)), c1, ?_, ⟨p, ml, g2, by rw [zset_at, List.length_append], (zset_ne hpn).trans (zset_at _ _), by rw [List.length_append]; exact hq, h.2.2.2.1, kb, fun j d hj => ?_, hpn, hp1, hp2⟩, hc9, txF.tr (H1 := H1) (c1 := c1) ⟨Nat.le_refl _, Or.inl rfl, Nat.le_refl _, Nat.le_refl _, Nat.le_refl _, fun q2 h1 h2 h3 => ?_⟩ f1⟩
  · have k9 : ∀ (β : Type) (f : zH → Option β), _ := fun β f => zb_pf3 (β := β) h2 hsb (t.length + l.length) f
    simp (implicitDefEqProofs := false) (disch := omega) only [ze_113, zr_113_0, zr_113_1, zr_113_2, zr_113_5, zr_113_6, zr_113_7, ze_114, zr_114_0, zr_114_1, zr_114_4, zr_114_5, zr_114_8, zr_114_9, zr_114_10, zr_114_13, zr_114_14, zr_114_15, zr_114_16, zr_114_19, zr_114_20, zr_114_21, zr_114_24, zr_114_25, zr_114_26, zr_114_29, zr_114_30, zr_114_33, zr_114_34, zr_114_35, zr_114_38, zr_114_39, zr_114_40, zr_114_43, zr_114_44, true_or, or_true, true_and, and_true, if_true, if_false, ldA_ref, ldA_null, nl_int, nl_ref, nl_fl, nl_null, c1_int, c1_ref, c1_null, Nat.zero_add, Nat.zero_mul, Nat.one_mul, nI_add, nI_leI, nI_ltI, nI_eq, nI_mul, ifN_ref, ifN_null, k1, hle, zb_at h0, e1, zb_at h, hpu, c1_int, c1_ref, zb_at h2, k9, zcall_some, zpush_some, zpush_none, zsum_ref, zsum_int, zsum_long, zsum_nil, zsum_null, Nat.reduceAdd, Nat.reduceLeDiff, if_true]
    done
  · rcases app2_at hj with ⟨hj1, hj2⟩ | ⟨hj1, hj3, hj2⟩
    · exact h2.2.2.2.2.2.1 j d hj2
    · obtain ⟨a1, -⟩ := w4 _ _ hj2
      refine ⟨a1, ?_⟩
      rw [← hgg]
      show (if t.length ≤ j ∧ j < t.length + l.length then nI (l.getD (0 + (j - t.length)) 0) else g j) = nI d
      rw [if_pos ⟨hj1, hj3⟩, Nat.zero_add, List.getD_eq_getElem?_getD, hj2]; rfl
  · have h4 : q2 ≠ p := fun h5 => h3.elim (fun h6 => h6 (by rw [h5, kd_kc, h.2.1]; rfl)) (fun h6 => by omega)
    rw [zset_ne h1, zset_ne h4]
theorem s_sbLen (h : sbG H sb p cap ml g t) : ev 143 [.ref sb] H = some (some (.int (nI t.length)), H) := by
  simp (implicitDefEqProofs := false) (disch := omega) only [ze_143, zr_143_0, zr_143_1, zr_143_4, ze_144, zr_144_0, zr_144_1, zr_144_4, true_or, or_true, true_and, and_true, if_true, if_false, ldA_ref, ldA_null, nl_int, nl_ref, nl_fl, nl_null, c1_int, c1_ref, c1_null, Nat.zero_add, Nat.zero_mul, Nat.one_mul, nI_add, nI_leI, nI_ltI, nI_eq, nI_mul, zb_at h, zcall_some, zpush_some, zpush_none, zsum_ref, zsum_int, zsum_long, zsum_nil, zsum_null, Nat.reduceAdd, Nat.reduceLeDiff, if_true]
theorem ze_139v (a b : Int32) (h : zH) : ev 139 [.int a, .int b, .retAddr 0] h = rn 139 0 [.int a, .int b, .retAddr 0] [] h := if_pos (Nat.le_of_ble_eq_true rfl)
theorem s_sbAt {i c : Nat} (h : sbG H sb p cap ml g t) (hi : t[i]? = some c) : ev 145 [.ref sb, .int (nI i)] H = some (some (.int (nI c)), H) := by
  obtain ⟨a1, a2⟩ := h.2.2.2.2.2.1 i c hi
  have hil : i < t.length := (List.getElem?_eq_some_iff.mp hi).1
  have hl := h.2.2.1
  have hc9 := h.2.2.2.1
  have k1 : ∀ (β : Type) (f : Int32 → Option β), zli H p 3 (nI i) f = f (nI c) := fun _ f => by rw [li_c h.2.1 (by omega) (by omega) f, a2]
  simp (implicitDefEqProofs := false) (disch := omega) only [ze_145, zr_145_0, zr_145_1, zr_145_2, zr_145_5, ze_146, zr_146_0, zr_146_1, zr_146_4, zr_146_5, zr_146_6, zr_146_9, zr_146_10, zr_146_11, zr_146_14, zr_146_15, zr_146_16, zr_146_17, zr_146_18, zr_146_21, zr_146_23, zr_146_24, zr_146_26, zr_146_29, zr_146_30, zr_146_33, zr_146_34, zr_146_35, zr_146_36, zr_146_39, zr_146_40, zr_146_41, zr_146_42, zr_146_43, zr_146_44, zr_146_47, ze_138, zr_138_0, zr_138_1, zr_138_2, zr_138_5, zr_138_8, zr_138_9, ze_139v, ze_139, zr_139_0, zr_139_1, zr_139_4, zr_139_5, zr_139_6, zr_139_9, zr_139_10, zr_139_11, zr_139_16, zr_139_17, true_or, or_true, true_and, and_true, if_true, if_false, ldA_ref, ldA_null, nl_int, nl_ref, nl_fl, nl_null, c1_int, c1_ref, c1_null, Nat.zero_add, Nat.zero_mul, Nat.one_mul, nI_add, nI_leI, nI_ltI, nI_eq, nI_mul, zb_at h, shr0, show ¬ cap < t.length from by omega, show i < t.length from hil, show ¬ t.length ≤ i from by omega, show ¬ i < 0 from by omega, k1, and255 c a1, narC9 c a1, okC9 c a1, zcall_some, zpush_some, zpush_none, zsum_ref, zsum_int, zsum_long, zsum_nil, zsum_null, Nat.reduceAdd, Nat.reduceLeDiff, if_true]
  done
theorem s_sbClr (hS : sbB H sb cap t) (hsb : 100 ≤ sb) (hs2 : sb < 100 + H.1) (hcN : cap ≤ 90000) : ∃ H', ev 98 [.ref sb, .int (nI 0)] H = some (none, H') ∧ sbB H' sb cap [] ∧ txF H' H sb cap cap N := by
  obtain ⟨p, ml, g, h⟩ := hS
  have hpn := h.2.2.2.2.2.2.1
  have hlc := h.2.2.1
  have hen : ev 100 [.ref sb, .int (nI 0)] H = some (none, H) := by
    simp (implicitDefEqProofs := false) (disch := omega) only [ze_100, zr_100_0, zr_100_1, zr_100_4, zr_100_5, zr_100_6, zr_100_9, zr_100_10, zr_100_11, zr_100_12, zr_100_13, zr_100_14, zr_100_17, zr_100_18, zr_100_19, zr_100_22, zr_100_23, zr_100_24, zr_100_27, zr_100_28, zr_100_31, zr_100_32, zr_100_35, zr_100_38, true_or, or_true, true_and, and_true, if_true, if_false, ldA_ref, ldA_null, nl_int, nl_ref, nl_fl, nl_null, c1_int, c1_ref, c1_null, Nat.zero_add, Nat.zero_mul, Nat.one_mul, nI_add, nI_leI, nI_ltI, nI_eq, nI_mul, zb_at h, shr0, nI_subLe, show 0 ≤ cap from by omega, zcall_some, zpush_some, zpush_none, zsum_ref, zsum_int, zsum_long, zsum_nil, zsum_null, Nat.reduceAdd, Nat.reduceLeDiff, if_true]
  have hl1 := s_isL1 h
  by_cases h0 : t.length = 0
  · have hcp : ∀ (β : Type) (f : zH → Option β), zpf H sb 0 3 (.int (nI 0)) f = f (zset H sb (sbO p ml 0)) := fun _ f => zb_pf3 h hsb 0 f
    have ht : t = [] := List.eq_nil_of_length_eq_zero h0
    refine ⟨zset H sb (sbO p ml 0), ?_, ⟨p, ml, g, zset_at _ _, (zset_ne hpn).trans h.2.1, by simp, h.2.2.2.1, h.2.2.2.2.1, fun j d hj => (by cases hj), hpn, h.2.2.2.2.2.2.2.1, h.2.2.2.2.2.2.2.2⟩, ⟨Nat.le_refl _, Or.inl rfl, Nat.le_refl _, Nat.le_refl _, Nat.le_refl _, fun q h1 _ _ => zset_ne h1⟩⟩
    simp (implicitDefEqProofs := false) (disch := omega) only [ze_98, zr_98_0, zr_98_1, zr_98_2, zr_98_5, ze_99, zr_99_0, zr_99_1, zr_99_7, zr_99_8, zr_99_13, zr_99_14, zr_99_15, zr_99_18, zr_99_19, zr_99_22, zr_99_23, zr_99_26, zr_99_27, zr_99_30, zr_99_33, zr_99_34, zr_99_37, zr_99_38, zr_99_41, zr_99_42, zr_99_45, zr_99_48, zr_99_49, zr_99_52, zr_99_53, zr_99_56, zr_99_57, zr_99_60, zr_99_63, zr_99_64, zr_99_67, zr_99_68, zr_99_71, zr_99_72, zr_99_73, zr_99_76, zr_99_77, zr_99_78, zr_99_81, true_or, or_true, true_and, and_true, if_true, if_false, ldA_ref, ldA_null, nl_int, nl_ref, nl_fl, nl_null, c1_int, c1_ref, c1_null, Nat.zero_add, Nat.zero_mul, Nat.one_mul, nI_add, nI_leI, nI_ltI, nI_eq, nI_mul, hen, zb_at h, h0, hcp, Nat.le_refl, Nat.lt_irrefl, zcall_some, zpush_some, zpush_none, zsum_ref, zsum_int, zsum_long, zsum_nil, zsum_null, Nat.reduceAdd, Nat.reduceLeDiff, if_true]
    done
  · refine ⟨zset H sb (sbO p (nI 1) 0), ?_, ⟨p, nI 1, g, zset_at _ _, (zset_ne hpn).trans h.2.1, by simp, h.2.2.2.1, h.2.2.2.2.1, fun j d hj => (by cases hj), hpn, h.2.2.2.2.2.2.2.1, h.2.2.2.2.2.2.2.2⟩, ⟨Nat.le_refl _, Or.inl rfl, Nat.le_refl _, Nat.le_refl _, Nat.le_refl _, fun q h1 _ _ => zset_ne h1⟩⟩
    have k2 : ∀ (β : Type) (f : zH → Option β), zpf H sb 0 2 (.int (nI 1)) f = f (zset H sb (sbO p (nI 1) t.length)) := fun _ f => by rw [pf_c h.1 (Nat.le_of_ble_eq_true rfl) hsb rfl f]; rfl
    have k3 : ∀ (β : Type) (f : zH → Option β), zpf (zset H sb (sbO p (nI 1) t.length)) sb 0 3 (.int (nI 0)) f = f (zset (zset H sb (sbO p (nI 1) t.length)) sb (sbO p (nI 1) 0)) := fun _ f => by rw [pf_c (show (zset H sb (sbO p (nI 1) t.length)).2.2 sb = .inr (0, [.ref p, .int (nI 0), .int (nI 1), .int (nI t.length)]) from zset_at _ _) (Nat.le_of_ble_eq_true rfl) hsb rfl f]; rfl
    have k4 : zset (zset H sb (sbO p (nI 1) t.length)) sb (sbO p (nI 1) 0) = zset H sb (sbO p (nI 1) 0) := by
      refine Prod.ext rfl (Prod.ext rfl (funext fun q => ?_))
      show (if q = sb then _ else if q = sb then _ else H.2.2 q) = if q = sb then _ else H.2.2 q
      by_cases hq : q = sb
      · rw [if_pos hq, if_pos hq]
      · rw [if_neg hq, if_neg hq, if_neg hq]
    simp (implicitDefEqProofs := false) (disch := omega) only [ze_98, zr_98_0, zr_98_1, zr_98_2, zr_98_5, ze_99, zr_99_0, zr_99_1, zr_99_7, zr_99_8, zr_99_13, zr_99_14, zr_99_15, zr_99_18, zr_99_19, zr_99_22, zr_99_23, zr_99_26, zr_99_27, zr_99_30, zr_99_33, zr_99_34, zr_99_37, zr_99_38, zr_99_41, zr_99_42, zr_99_45, zr_99_48, zr_99_49, zr_99_52, zr_99_53, zr_99_56, zr_99_57, zr_99_60, zr_99_63, zr_99_64, zr_99_67, zr_99_68, zr_99_71, zr_99_72, zr_99_73, zr_99_76, zr_99_77, zr_99_78, zr_99_81, true_or, or_true, true_and, and_true, if_true, if_false, ldA_ref, ldA_null, nl_int, nl_ref, nl_fl, nl_null, c1_int, c1_ref, c1_null, Nat.zero_add, Nat.zero_mul, Nat.one_mul, nI_add, nI_leI, nI_ltI, nI_eq, nI_mul, hen, zb_at h, show ¬ t.length ≤ 0 from by omega, show 0 < t.length from by omega, k2, k3, k4, hl1, Nat.zero_le, Nat.le_refl, Nat.lt_irrefl, zcall_some, zpush_some, zpush_none, zsum_ref, zsum_int, zsum_long, zsum_nil, zsum_null, Nat.reduceAdd, Nat.reduceLeDiff, if_true]
    done
end
