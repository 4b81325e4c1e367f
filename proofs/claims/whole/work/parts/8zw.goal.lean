/-! THE GOAL: the law comes to its end with 1, in its room -/
theorem law_goal {L : Nat} {xs : Nat → Int32} (hL : L ≤ 2560) : ∃ n h', zX n 294 0 (zent 294 [.ref 0]) [] (zh0 L xs) = some (some (.int 1), h') ∧ h'.1 ≤ 600000 ∧ h'.2.1 ≤ 7302250 := by
  obtain ⟨H1, e1, s1, s2, hx, hB, hH, hS, hT, hD, hTr, ⟨hx1, hx2, hx3⟩, f⟩ := mk_Run (zh0 L xs) rfl
  have hz : stz L xs H1 := fun a ha => f a ha
  have s3 : H1.2.1 ≤ 6000 := Nat.le_trans s2 (Nat.le_of_eq (Nat.zero_add 6000))
  have hSt := start_St s1 s3 hx hB hH hS hT hD hTr hx1 hx2 hx3 hz
  have q0 : 100 + (zh0 L xs).1 = 100 := rfl
  have q1 : 100 + H1.1 = 463 := by omega
  have e2 := s_newM (h := H1)
  rw [q1] at e2
  obtain ⟨h', e3, g⟩ := law_loop hL 512 0 _ hSt (by omega) (by omega)
  have e4 : rn 294 0 [.ref 0, .float 0, .float 0, .float 0] [] (zh0 L xs) = some (some (.int 1), h') := by
    rw [← e3]
    simp (implicitDefEqProofs := false) (disch := omega) only [zr_294_0, zr_294_3, zr_294_4, zr_294_7, zr_294_8, zr_294_11, zr_294_12, zr_294_15, zr_294_16, zr_294_17, true_or, or_true, true_and, and_true, if_true, if_false, ldA_ref, ldA_null, nl_int, nl_ref, nl_fl, nl_null, c1_int, c1_ref, c1_null, q0, q1, e1, e2, zcall_some, zpush_some, zpush_none, zsum_ref, zsum_int, zsum_long, zsum_nil, zsum_null, Nat.reduceAdd, Nat.reduceLeDiff, if_true]
  obtain ⟨n, en⟩ := (rn_iff _ _ _ _ _ _).mp e4
  exact ⟨n, h', en, g⟩
