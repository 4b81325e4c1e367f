/-! COMMANDS on garnishments -/
section
variable {H : zH} {s : tyB} {q q' : Nat → Int64} {c n e g K : Nat} {gs : Nat → Nat} {w w' : tyW} {LS : Nat → Nat → List Ln} {r : Rst}
theorem RelE.ga {g' : Nat} {L : Nat → List Ln} (hc : c ≤ 12) (h : RelE w q e c g L) (e1 : gW_en w' = gW_en w) (e2 : gW_se w' = gW_se w) (e3 : gW_am w' = gW_am w) (e4 : gW_fl w' = gW_fl w) (e5 : gW_ow w' = gW_ow w) (hq : ∀ k, k < 2751 → (k < 134 ∨ 147 ≤ k) → q' (rX e k) = q (rX e k)) (hg : gaEq w' q' e g') : RelE w' q' e c g' L := by
  obtain ⟨h1, h2, h3, h4, h5, h6, h7⟩ := h
  refine ⟨?_, ?_, ?_, ?_, ?_, hg, liEq.fr hc h7 fun k _ _ => hq k (by omega) (by omega)⟩
  · unfold enEq; rw [e1]; exact h1.fr fun k _ _ => hq k (by omega) (by omega)
  · unfold enOK; rw [e1]; exact h2
  · unfold seEq; rw [e2, e3]; exact h3.fr hc fun k _ _ => hq k (by omega) (by omega)
  · rw [e4]; exact (hq _ (by omega) (by omega)).trans h4
  · rw [e5]; exact (hq _ (by omega) (by omega)).trans h5
theorem wGar_S {p : Nat} {k a d : Int32} : wGar r p e g k a d = wS (rChg r p) (rS (wGar r p e g k a d)) := wS_tr (wAt_S _ _ _) (wS_tr (wAt_S _ _ _) (wS_tr (wAt_S _ _ _) (wS_tr (wAt_S _ _ _) (wAt_S _ _ _))))
theorem wGar_at {p : Nat} {k a d : Int32} (hq : rS r = q) : rS (wGar r p e g k a d) (rX e 134) = (nI (g + 1)).toInt64 ∧ rS (wGar r p e g k a d) (rX e (135 + 4 * g)) = k.toInt64 ∧ rS (wGar r p e g k a d) (rX e (135 + 4 * g + 1)) = a.toInt64 ∧ rS (wGar r p e g k a d) (rX e (135 + 4 * g + 2)) = d.toInt64 ∧ rS (wGar r p e g k a d) (rX e (135 + 4 * g + 3)) = d.toInt64 * 1000000 ∧ ∀ j, j ≠ rX e 134 → (j < rX e (135 + 4 * g) ∨ rX e (139 + 4 * g) ≤ j) → rS (wGar r p e g k a d) j = q j := by
  unfold wGar
  refine ⟨?_, ?_, ?_, ?_, wAt_eq _ _ _, fun j h1 h2 => ?_⟩
  · rw [wAt_ne (by unfold rX; omega), wAt_ne (by unfold rX; omega), wAt_ne (by unfold rX; omega), wAt_ne (by unfold rX; omega), wAt_eq]
  · rw [wAt_ne (by unfold rX; omega), wAt_ne (by unfold rX; omega), wAt_ne (by unfold rX; omega), wAt_eq]
  · rw [wAt_ne (by unfold rX; omega), wAt_ne (by unfold rX; omega)]; exact wAt_eq _ _ _
  · rw [wAt_ne (by unfold rX; omega)]; exact wAt_eq _ _ _
  · rw [wAt_ne (by unfold rX at *; omega), wAt_ne (by unfold rX at *; omega), wAt_ne (by unfold rX at *; omega), wAt_ne (by unfold rX at *; omega), wAt_ne h1, rChg_S, hq]
theorem good.gar {p k0 : Nat} {z d : Int32} (hb : RelB s q c n gs LS K) (hs : ∀ e, e < 3 → slB H (gB_wk s e) c (LS e)) (he : e < 3) (hq : rS r = q) (hg : gs e < 3) (hk : k0 < 2) : good H (bGar s e (gs e) (nI k0) z d) (rS (wGar r p e (gs e) (nI k0) z d)) (K + 1) := by
  have hE := good.rE hb he
  have hX := good.xO hb he
  obtain ⟨a1, a2, a3, a4, a5, a6⟩ := wGar_at (r := r) (p := p) (e := e) (g := gs e) (k := nI k0) (a := z) (d := d) hq
  refine good.wk (w' := pGadd (gB_wk s e) (gs e) (nI k0) z d) hb hs he rfl (fun k _ h => a6 k (by unfold rX at *; omega) (by unfold rX at *; omega)) (fun k h1 h2 => a6 _ (by unfold rX; omega) (by unfold rX; omega)) (hE.ga hb.1.1 rfl rfl rfl rfl rfl (fun k _ h => a6 _ (by unfold rX; omega) (by unfold rX; omega)) ⟨by omega, rfl, a1, fun i hi => ?_⟩) ⟨hX.1, fun i hi => ?_⟩ (g' := gs e + 1)
  · by_cases hig : i = gs e
    · subst hig
      rw [a2, a3, a4, a5]
      refine ⟨?_, ?_, ?_, ?_⟩
      · exact congrArg Int32.toInt64 (if_pos rfl).symm
      · exact congrArg Int32.toInt64 (if_pos rfl).symm
      · exact congrArg Int32.toInt64 (if_pos rfl).symm
      · exact (if_pos rfl).symm
    · have z : ∀ j, j < 4 → rS (wGar r p e (gs e) (nI k0) z d) (rX e (135 + 4 * i + j)) = q (rX e (135 + 4 * i + j)) := fun j hj => a6 _ (by unfold rX; omega) (by unfold rX; omega)
      obtain ⟨b1, b2, b3, b4⟩ := hE.2.2.2.2.2.1.2.2.2 i (by omega)
      refine ⟨?_, ?_, ?_, ?_⟩
      · exact ((z 0 (by omega)).trans b1).trans (congrArg Int32.toInt64 (if_neg hig).symm)
      · exact ((z 1 (by omega)).trans b2).trans (congrArg Int32.toInt64 (if_neg hig).symm)
      · exact ((z 2 (by omega)).trans b3).trans (congrArg Int32.toInt64 (if_neg hig).symm)
      · exact ((z 3 (by omega)).trans b4).trans (if_neg hig).symm
  · show 0 ≤ (if i = gs e then nI k0 else gW_gk (gB_wk s e) i).toInt
    by_cases hig : i = gs e
    · rw [if_pos hig, nI_toInt (by omega)]; omega
    · rw [if_neg hig]; exact hX.2 i (by omega)
theorem cmd_fix (hp : preC H s q K) (x y z : Int32) : CmdOK H q K (ev 45 [.ref 101, .int x, .int y, .int z] H) (fun h => ev 218 [.ref 463, .int x, .int y, .int z] h) := by
  by_cases ok : (nI 0 ≤ x ∧ x ≤ nI 2) ∧ (nI 1 ≤ y ∧ y ≤ nI 9999) ∧ (nI 1 ≤ z ∧ z ≤ nI 99999)
  · obtain ⟨e, he, rfl⟩ := in_nI (by omega) ok.1.1 ok.1.2
    obtain ⟨c, n, gs, LS, hb, hs⟩ := hp.2.2.1
    have hE := good.rE hb (show e < 3 by omega)
    obtain ⟨g1, g2, g3, g4⟩ := hE.2.2.2.2.2.1
    have e1 := s_addFix hp.1 (by omega) (show e < 3 by omega) g1 g2 ok.2.1 ok.2.2
    have e2 : ∀ r p h, rS r = q → rPm r = nI p → p ≤ 6 → _ := fun r p h hq h1 h2 => s_rfixed (m := 463) (r := r) (h := h) (by omega) h2 h1 (show e < 3 by omega) g1 (by rw [hq]; exact g3) ok.2.1 ok.2.2
    by_cases h3 : gs e = 3
    · rw [if_pos h3] at e1
      refine cmd_bad hp m3 e1 fun r p h hq h1 h2 => ?_
      have := e2 r p h hq h1 h2
      rw [if_pos h3] at this
      exact this
    · rw [if_neg h3] at e1
      refine cmd_ok hp (nnN (by omega)) e1 fun r p h hq h1 h2 => ⟨wGar r p e (gs e) (nI 0) y z, ?_, wGar_S, good.gar hb hs (by omega) hq (by omega) (by omega)⟩
      have := e2 r p h hq h1 h2
      rw [if_neg h3] at this
      exact this
  · exact cmd_bad hp m1 (s_addFix_bad ok) fun r _ h _ _ _ => s_rfixed_bad ok
theorem cmd_sha (hp : preC H s q K) (x y z : Int32) : CmdOK H q K (ev 48 [.ref 101, .int x, .int y, .int z] H) (fun h => ev 221 [.ref 463, .int x, .int y, .int z] h) := by
  by_cases ok : (nI 0 ≤ x ∧ x ≤ nI 2) ∧ (nI 1 ≤ y ∧ y ≤ nI 1000) ∧ (nI 1 ≤ z ∧ z ≤ nI 99999)
  · obtain ⟨e, he, rfl⟩ := in_nI (by omega) ok.1.1 ok.1.2
    obtain ⟨c, n, gs, LS, hb, hs⟩ := hp.2.2.1
    have hE := good.rE hb (show e < 3 by omega)
    obtain ⟨g1, g2, g3, g4⟩ := hE.2.2.2.2.2.1
    have e1 := s_addSha hp.1 (by omega) (show e < 3 by omega) g1 g2 ok.2.1 ok.2.2
    have e2 : ∀ r p h, rS r = q → rPm r = nI p → p ≤ 6 → _ := fun r p h hq h1 h2 => s_rshare (m := 463) (r := r) (h := h) (by omega) h2 h1 (show e < 3 by omega) g1 (by rw [hq]; exact g3) ok.2.1 ok.2.2
    by_cases h3 : gs e = 3
    · rw [if_pos h3] at e1
      refine cmd_bad hp m3 e1 fun r p h hq h1 h2 => ?_
      have := e2 r p h hq h1 h2
      rw [if_pos h3] at this
      exact this
    · rw [if_neg h3] at e1
      refine cmd_ok hp (nnN (by omega)) e1 fun r p h hq h1 h2 => ⟨wGar r p e (gs e) (nI 1) y z, ?_, wGar_S, good.gar hb hs (by omega) hq (by omega) (by omega)⟩
      have := e2 r p h hq h1 h2
      rw [if_neg h3] at this
      exact this
  · exact cmd_bad hp m1 (s_addSha_bad ok) fun r _ h _ _ _ => s_rshare_bad ok
end
