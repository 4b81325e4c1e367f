/-! THE COMMANDS one after the other, on both sides -/
section
variable {H : zH} {s : tyB} {q : Nat → Int64} {K i N w n : Nat} {T : tyT} {sv : Int32} {sg : Nat → Nat}
def stN (H' H : zH) (j : Nat) : Prop := H.1 ≤ H'.1 ∧ H'.1 ≤ H.1 + 9 * j ∧ H'.2.1 ≤ H.2.1 + 660 * j ∧ ∀ p, p < 100 + H.1 → (p < 101 ∨ 138 ≤ p) → (p < 441 ∨ 443 ≤ p) → H'.2.2 p = H.2.2 p
theorem stN.of {H' : zH} {s' : tyB} (h : stepC H' H s') : stN H' H 1 := ⟨h.2.2.1, by have := h.2.2.2.1; omega, by have := h.2.2.2.2.1; omega, h.2.2.2.2.2⟩
theorem stN.tr {H2 H1 : zH} {a b : Nat} (x : stN H2 H1 a) (y : stN H1 H b) : stN H2 H (a + b) := ⟨by have := x.1; have := y.1; omega, by have := x.2.1; have := y.2.1; omega, by have := x.2.2.1; have := y.2.2.1; omega, fun p h1 h2 h3 => (x.2.2.2 p (by have := y.1; omega) h2 h3).trans (y.2.2.2 p h1 h2 h3)⟩
theorem stN.up {H' : zH} {a b : Nat} (x : stN H' H a) (h : a ≤ b) : stN H' H b := ⟨x.1, by have := x.2.1; omega, by have := x.2.2.1; omega, x.2.2.2⟩
theorem rChg_q {r : Rst} (h : rQ r = nI 1) (p : Nat) : rChg r p = r := if_neg (by rw [h]; decide)
theorem wSt (r : Rst) (q' : Nat → Int64) (k : Nat) (w : Int32) (nu : Nat → Int32) : wS (rSt r k w nu) q' = rSt (wS r q') k w nu := rfl
theorem wSid (r : Rst) : wS r (rS r) = r := rfl
theorem stepC.pre {H' : zH} {s' : tyB} {q' : Nat → Int64} (h : stepC H' H s') (g : good H' s' q' (K + 1)) (hK : K + 1 < 2 ^ 30) (h472 : 472 ≤ 100 + H.1) : preC H' s' q' (K + 1) := ⟨h.1, h.2.1, g, hK, by have := h.2.2.1; omega⟩
/-- the reference's state while commands are performed -/
def rdy (r : Rst) (p n : Nat) (sg : Nat → Nat) (h : zH) : Prop := rPm r = nI p ∧ p ≤ 6 ∧ rQ r = nI 1 ∧ bufR r sg n ∧ 472 ≤ 100 + h.1 ∧ wdR (putM 463 r h)
theorem rdy.nx {r : Rst} {p a b : Nat} {h h' : zH} {q' : Nat → Int64} (x : rdy r p n sg h) (al : alF h' h a b) : rdy (wS r q') p n sg h' := ⟨x.1, x.2.1, x.2.2.1, x.2.2.2.1, by have := al.1; have := x.2.2.2.2.1; omega, wdR_al (by omega) x.2.2.2.2.2 al _⟩
/-- one command -/
theorem ex_one {st : Nat} (hct : gT_ct T = nI N) (hN : N ≤ 12) (hi : i < N) (hs : st ≤ 61) (hok : (pCmd sg n st).1 = true) (hA : atC T i (pCmd sg n st).2.2.1 st (pCmd sg n st).2.2.2) (hp : preC H s q K) (hK : K + 1 < 2 ^ 30) (hx : H.2.2 100 = xC sv) (hT : isB H 436 5 (cT 436 T)) : ∃ v H1, ev 192 [.ref 100, .int (nI i)] H = some (some (.int v), H1) ∧ stN H1 H 1 ∧ (∃ du, isB H1 441 2 (cD 441 du)) ∧ (∃ s1, isB H1 101 37 (cB 101 s1)) ∧ (nI 0 ≤ v → ∃ s1 q1, preC H1 s1 q1 (K + 1)) ∧ ∀ r p h nu s2, preC H s2 (rS r) K → rdy r p n sg h → ∃ h' nu' q1, ev 285 [.ref 463, .int (nI 1)] (putM 463 (rSt r st (nI 0) nu) h) = some (some (.int v), putM 463 (rSt (wS r q1) (pCmd sg n st).2.1 (nI 0) nu') h') ∧ alF h' h 1 12 ∧ (nI 0 ≤ v → ∃ s1, preC H1 s1 q1 (K + 1)) := by
  obtain ⟨hw, hlen⟩ := pCmd_full sg n st hok
  obtain ⟨v, H1, s1, e1, stp, hbad, href⟩ := perf_ok hp hx hT hct hi hN hw hA.1
  have h472 := hp.2.2.2.2
  refine ⟨v, H1, e1, stN.of stp, stp.2.1, ⟨s1, stp.1⟩, fun hv => ?_, fun r p h nu s2 hp2 hr => ?_⟩
  · obtain ⟨q', -, g⟩ := href (wS (wNu (wPm zR (nI 0)) (fun j => gT_nu T (i * 3 + j))) q) 0 H rfl rfl (by omega) (fun j _ => rfl)
    exact ⟨s1, q', stp.pre (g hv) hK h472⟩
  · obtain ⟨v2, H2, s3, e2, stp2, hbad2, href2⟩ := perf_ok hp2 hx hT hct hi hN hw hA.1
    rw [e1] at e2
    have e3 := Option.some.inj e2
    have ev2 : v = v2 := by
      have := Option.some.inj (congrArg Prod.fst e3)
      exact Value.int.inj this
    have eH2 : H1 = H2 := congrArg Prod.snd e3
    subst ev2
    subst eH2
    obtain ⟨r1, r2, r3, r4, r5, r6⟩ := hr
    obtain ⟨h', nu', al, -, hn2, cont⟩ := s_rcmd1 (nu := nu) (by omega) r5 hs r4 r6 hok
    have hnu : ∀ j, j < nA (pCmd sg n st).2.2.1 → nu' j = gT_nu T (i * 3 + j) := fun j hj => by
      have hj2 : j < (pCmd sg n st).2.2.2.length := by omega
      rw [hn2 j _ (List.getElem?_eq_getElem hj2), hA.2.2 j _ (List.getElem?_eq_getElem hj2)]
    obtain ⟨q', e4, g⟩ := href2 (rSt r (pCmd sg n st).2.1 (nI 0) nu') p h' rfl r1 r2 hnu
    rw [rChg_q (r := rSt r (pCmd sg n st).2.1 (nI 0) nu') r3 p] at e4
    by_cases hv : nI 0 ≤ v
    · rw [if_pos hv, wSt] at e4
      exact ⟨h', nu', q', cont v _ e4, al, fun _ => ⟨s3, stp2.pre (g hv) hK h472⟩⟩
    · rw [if_neg hv] at e4
      exact ⟨h', nu', rS r, cont v _ e4, al, fun x => absurd x hv⟩
def exA (H : zH) (K f st i N n : Nat) (sg : Nat → Nat) : Prop := ∃ H', rn 175 38 [.ref 100, .int (-1), .int (nI i)] [] H = rn 175 87 [.ref 100, .int (-1), .int (nI N)] [] H' ∧ stN H' H f ∧ (∃ du, isB H' 441 2 (cD 441 du)) ∧ ∀ r p h nu s2 v3, preC H s2 (rS r) K → rdy r p n sg h → ∃ h' nu' k' v3' len q' s', rn 284 135 [.ref 463, .int (nI N), .int (nI 0), v3, .int (nI 1), .int (nI i)] [] (putM 463 (rSt r st (nI 0) nu) h) = rn 284 182 [.ref 463, .int (nI N), .int (nI 0), v3', .int (nI 1), .int (nI N)] [] (putM 463 (rSt (wS r q') k' (nI 0) nu') h') ∧ alF h' h len (12 * len) ∧ len ≤ f ∧ isB H' 101 37 (cB 101 s') ∧ good H' s' q' (K + f)
def exB (H : zH) (K f st i N n : Nat) (sg : Nat → Nat) (T : tyT) : Prop := ∃ H' s' idx x, rn 175 38 [.ref 100, .int (-1), .int (nI i)] [] H = rn 175 57 [.ref 100, .int (-1), .int (nI idx)] [] H' ∧ idx < N ∧ gT_st T idx = nI x ∧ stN H' H f ∧ isB H' 101 37 (cB 101 s') ∧ (∃ du, isB H' 441 2 (cD 441 du)) ∧ ∀ r p h nu s2 v3, preC H s2 (rS r) K → rdy r p n sg h → ∃ h' nu' k' i' len q', rn 284 135 [.ref 463, .int (nI N), .int (nI 0), v3, .int (nI 1), .int (nI i)] [] (putM 463 (rSt r st (nI 0) nu) h) = rn 284 182 [.ref 463, .int (nI N), .int (nI 0), .int (nI x), .int (nI 0), .int (nI i')] [] (putM 463 (rSt (wS r q') k' (nI 0) nu') h') ∧ alF h' h len (12 * len) ∧ len ≤ f
theorem ex_loop (hct : gT_ct T = nI N) (hN : N ≤ 12) (hn : n ≤ 60) : ∀ (f st i K : Nat) (H : zH), (pRD sg n f st).1 = none → i + (pRD sg n f st).2.length = N → (∀ k x, (pRD sg n f st).2[k]? = some x → atC T (i + k) x.1 x.2.1 x.2.2) → st ≤ 61 → (∃ s q, preC H s q K) → K + f < 2 ^ 30 → H.2.2 100 = xC sv → isB H 436 5 (cT 436 T) → exA H K f st i N n sg ∨ exB H K f st i N n sg T := by
  intro f
  induction f with
  | zero => intro st i K H h1; cases h1
  | succ f ih =>
    intro st i K H h1 h2 h3 hs ⟨s, q, hp⟩ hK hx hT
    rw [pRD] at h1 h2 h3
    dsimp only at h1 h2 h3
    by_cases hok : (pCmd sg n st).1 = true
    · rw [if_pos hok] at h1 h2 h3
      have hA : atC T i (pCmd sg n st).2.2.1 st (pCmd sg n st).2.2.2 := by
        by_cases hl : n ≤ (pCmd sg n st).2.1
        · rw [if_pos hl] at h3
          exact h3 0 _ rfl
        · rw [if_neg hl] at h3
          exact h3 0 _ rfl
      have hi : i < N := by
        by_cases hl : n ≤ (pCmd sg n st).2.1
        · rw [if_pos hl] at h2
          have h2b : i + 1 = N := h2
          omega
        · rw [if_neg hl] at h2
          dsimp only at h2
          rw [List.length_cons] at h2
          omega
      have hb := pCmd_bd sg hn hs
      obtain ⟨v, H1, e1, st1, du1, ⟨s1, hs1⟩, hgo, hmod⟩ := ex_one hct hN hi hs hok hA hp (by omega) hx hT
      have hx1 : H1.2.2 100 = xC sv := (st1.2.2.2 100 (by have := hp.2.2.2.2; omega) (by omega) (by omega)).trans hx
      have hT1 : isB H1 436 5 (cT 436 T) := hT.to fun p h1 h2 => st1.2.2.2 p (by have := hp.2.2.2.2; omega) (by omega) (by omega)
      by_cases hv : nI 0 ≤ v
      · have ec : rn 175 38 [.ref 100, .int (-1), .int (nI i)] [] H = rn 175 38 [.ref 100, .int (-1), .int (nI (i + 1))] [] H1 := by
          rw [zl_175_38]
          simp (implicitDefEqProofs := false) (disch := omega) only [zr_175_39, zr_175_40, zr_175_43, zr_175_46, zr_175_49, zr_175_50, zr_175_51, zr_175_54, zr_175_57, zr_175_58, zr_175_61, zr_175_62, zr_175_65, zr_175_68, zr_175_71, zr_175_72, zr_175_75, zr_175_76, zr_175_79, zr_175_80, zr_175_81, zr_175_84, true_or, or_true, true_and, and_true, if_true, if_false, ldA_ref, ldA_null, nl_int, nl_ref, nl_fl, nl_null, c1_int, c1_ref, c1_null, Nat.zero_add, Nat.zero_mul, Nat.one_mul, nI_add, nI_leI, nI_ltI, nI_eq, nI_mul, x_at hx, rdT_0 (hT), rdT_1 (hT), rdT_2 (hT), rdT_3 (hT), rdT_4 (hT), rdT_5 (hT), rdT_6 (hT), rdT_7 (hT), rdT_8 (hT), rdT_9 (hT), rdT_10 (hT), rdT_11 (hT), rdT_12 (hT), rdT_13 (hT), rdT_14 (hT), hct, show ¬ N ≤ i from by omega, e1, hv, zcall_some, zpush_some, zpush_none, zsum_ref, zsum_int, zsum_long, zsum_nil, zsum_null, Nat.reduceAdd, Nat.reduceLeDiff, if_true]
        have em : ∀ r p h nu s2 v3, preC H s2 (rS r) K → rdy r p n sg h → ∃ h' nu' q1 s3, rn 284 135 [.ref 463, .int (nI N), .int (nI 0), v3, .int (nI 1), .int (nI i)] [] (putM 463 (rSt r st (nI 0) nu) h) = rn 284 135 [.ref 463, .int (nI N), .int (nI 0), .int (nI st), .int (nI 1), .int (nI (i + 1))] [] (putM 463 (rSt (wS r q1) ((pCmd sg n st).2.1 + 1) (nI 0) nu') h') ∧ alF h' h 1 12 ∧ preC H1 s3 q1 (K + 1) := fun r p h nu s2 v3 hp2 hr => by
          obtain ⟨h', nu', q1, e2, al, g⟩ := hmod r p h nu s2 hp2 hr
          obtain ⟨s3, hp3⟩ := g hv
          refine ⟨h', nu', q1, s3, ?_, al, hp3⟩
          rw [zl_284_135]
          simp (implicitDefEqProofs := false) (disch := omega) only [zr_284_137, zr_284_138, zr_284_141, zr_284_143, zr_284_146, zr_284_147, zr_284_150, zr_284_151, zr_284_152, zr_284_153, zr_284_156, zr_284_159, zr_284_160, zr_284_163, zr_284_164, zr_284_166, zr_284_167, zr_284_168, zr_284_171, zr_284_172, zr_284_173, zr_284_176, zr_284_179, true_or, or_true, true_and, and_true, if_true, if_false, ldA_ref, ldA_null, nl_int, nl_ref, nl_fl, nl_null, c1_int, c1_ref, c1_null, Nat.zero_add, Nat.zero_mul, Nat.one_mul, nI_add, nI_leI, nI_ltI, nI_eq, nI_mul, kd_M, gf_M, rSt_P, show ¬ N ≤ i from by omega, show ¬ (1 : Nat) = 0 from by omega, e2, Int32.not_lt.mpr hv, pf_M12 (show 100 ≤ 463 by omega), rSt_wP, zcall_some, zpush_some, zpush_none, zsum_ref, zsum_int, zsum_long, zsum_nil, zsum_null, Nat.reduceAdd, Nat.reduceLeDiff, if_true]
        by_cases hl : n ≤ (pCmd sg n st).2.1
        · rw [if_pos hl] at h2
          have hN1 : N = i + 1 := by
            have h2b : i + 1 = N := h2
            omega
          refine Or.inl ⟨H1, ?_, st1.up (by omega), du1, fun r p h nu s2 v3 hp2 hr => ?_⟩
          · rw [ec, zl_175_38]
            simp (implicitDefEqProofs := false) (disch := omega) only [zr_175_39, zr_175_40, zr_175_43, zr_175_46, zr_175_49, zr_175_50, zr_175_51, zr_175_54, zr_175_57, zr_175_58, zr_175_61, zr_175_62, zr_175_65, zr_175_68, zr_175_71, zr_175_72, zr_175_75, zr_175_76, zr_175_79, zr_175_80, zr_175_81, zr_175_84, true_or, or_true, true_and, and_true, if_true, if_false, ldA_ref, ldA_null, nl_int, nl_ref, nl_fl, nl_null, c1_int, c1_ref, c1_null, Nat.zero_add, Nat.zero_mul, Nat.one_mul, nI_add, nI_leI, nI_ltI, nI_eq, nI_mul, x_at hx1, rdT_0 (hT1), rdT_1 (hT1), rdT_2 (hT1), rdT_3 (hT1), rdT_4 (hT1), rdT_5 (hT1), rdT_6 (hT1), rdT_7 (hT1), rdT_8 (hT1), rdT_9 (hT1), rdT_10 (hT1), rdT_11 (hT1), rdT_12 (hT1), rdT_13 (hT1), rdT_14 (hT1), hct, show N ≤ i + 1 from by omega, hN1, Nat.le_refl, zcall_some, zpush_some, zpush_none, zsum_ref, zsum_int, zsum_long, zsum_nil, zsum_null, Nat.reduceAdd, Nat.reduceLeDiff, if_true]
          · obtain ⟨h', nu', q1, s3, e3, al, hp3⟩ := em r p h nu s2 v3 hp2 hr
            refine ⟨h', nu', (pCmd sg n st).2.1 + 1, .int (nI st), 1, q1, s3, ?_, al, by omega, hp3.1, hp3.2.2.1.up (by omega)⟩
            rw [e3, zl_284_135, hN1]
            simp (implicitDefEqProofs := false) (disch := omega) only [zr_284_137, zr_284_138, zr_284_141, zr_284_143, zr_284_146, zr_284_147, zr_284_150, zr_284_151, zr_284_152, zr_284_153, zr_284_156, zr_284_159, zr_284_160, zr_284_163, zr_284_164, zr_284_166, zr_284_167, zr_284_168, zr_284_171, zr_284_172, zr_284_173, zr_284_176, zr_284_179, true_or, or_true, true_and, and_true, if_true, if_false, ldA_ref, ldA_null, nl_int, nl_ref, nl_fl, nl_null, c1_int, c1_ref, c1_null, Nat.zero_add, Nat.zero_mul, Nat.one_mul, nI_add, nI_leI, nI_ltI, nI_eq, nI_mul, Nat.le_refl, zcall_some, zpush_some, zpush_none, zsum_ref, zsum_int, zsum_long, zsum_nil, zsum_null, Nat.reduceAdd, Nat.reduceLeDiff, if_true]
        · rw [if_neg hl] at h1 h2 h3
          dsimp only at h1 h2
          rw [List.length_cons] at h2
          have h3b : ∀ k x, (pRD sg n f ((pCmd sg n st).2.1 + 1)).2[k]? = some x → atC T (i + 1 + k) x.1 x.2.1 x.2.2 := fun k x hk => by
            have := h3 (k + 1) x hk
            rw [show i + (k + 1) = i + 1 + k by omega] at this
            exact this
          rcases ih ((pCmd sg n st).2.1 + 1) (i + 1) (K + 1) H1 h1 (by omega) h3b (by omega) (hgo hv) (by omega) hx1 hT1 with ⟨H', a1, a2, a3, a4⟩ | ⟨H', s', idx, x, a1, a2, a3, a4, a5, a6, a7⟩
          · refine Or.inl ⟨H', ec.trans a1, (a2.tr st1).up (by omega), a3, fun r p h nu s2 v3 hp2 hr => ?_⟩
            obtain ⟨h', nu', q1, s3, e3, al, hp3⟩ := em r p h nu s2 v3 hp2 hr
            obtain ⟨h'', nu'', k', v3', len, q', s', e4, al2, hl2, b1, b2⟩ := a4 (wS r q1) p h' nu' s3 (.int (nI st)) hp3 (hr.nx al)
            have al3 := al2.tr al
            refine ⟨h'', nu'', k', v3', 1 + len, q', s', e3.trans e4, ?_, by omega, b1, b2.up (by omega)⟩
            rw [show 12 * (1 + len) = 12 + 12 * len by omega]; exact al3
          · refine Or.inr ⟨H', s', idx, x, ec.trans a1, a2, a3, (a4.tr st1).up (by omega), a5, a6, fun r p h nu s2 v3 hp2 hr => ?_⟩
            obtain ⟨h', nu', q1, s3, e3, al, hp3⟩ := em r p h nu s2 v3 hp2 hr
            obtain ⟨h'', nu'', k', i', len, q', e4, al2, hl2⟩ := a7 (wS r q1) p h' nu' s3 (.int (nI st)) hp3 (hr.nx al)
            have al3 := al2.tr al
            refine ⟨h'', nu'', k', i', 1 + len, q', e3.trans e4, ?_, by omega⟩
            rw [show 12 * (1 + len) = 12 + 12 * len by omega]; exact al3
      · refine Or.inr ⟨H1, s1, i, st, ?_, hi, hA.2.1, st1.up (by omega), hs1, du1, fun r p h nu s2 v3 hp2 hr => ?_⟩
        · rw [zl_175_38]
          simp (implicitDefEqProofs := false) (disch := omega) only [zr_175_39, zr_175_40, zr_175_43, zr_175_46, zr_175_49, zr_175_50, zr_175_51, zr_175_54, true_or, or_true, true_and, and_true, if_true, if_false, ldA_ref, ldA_null, nl_int, nl_ref, nl_fl, nl_null, c1_int, c1_ref, c1_null, Nat.zero_add, Nat.zero_mul, Nat.one_mul, nI_add, nI_leI, nI_ltI, nI_eq, nI_mul, x_at hx, rdT_0 (hT), rdT_1 (hT), rdT_2 (hT), rdT_3 (hT), rdT_4 (hT), rdT_5 (hT), rdT_6 (hT), rdT_7 (hT), rdT_8 (hT), rdT_9 (hT), rdT_10 (hT), rdT_11 (hT), rdT_12 (hT), rdT_13 (hT), rdT_14 (hT), hct, show ¬ N ≤ i from by omega, e1, hv, zcall_some, zpush_some, zpush_none, zsum_ref, zsum_int, zsum_long, zsum_nil, zsum_null, Nat.reduceAdd, Nat.reduceLeDiff, if_true]
        · obtain ⟨h', nu', q1, e2, al, -⟩ := hmod r p h nu s2 hp2 hr
          refine ⟨h', nu', (pCmd sg n st).2.1 + 1, i + 1, 1, q1, ?_, al, by omega⟩
          rw [zl_284_135]
          simp (implicitDefEqProofs := false) (disch := omega) only [zr_284_137, zr_284_138, zr_284_141, zr_284_143, zr_284_146, zr_284_147, zr_284_150, zr_284_151, zr_284_152, zr_284_153, zr_284_156, zr_284_159, zr_284_160, zr_284_163, zr_284_164, zr_284_166, zr_284_167, zr_284_168, zr_284_171, zr_284_172, zr_284_173, zr_284_176, zr_284_179, true_or, or_true, true_and, and_true, if_true, if_false, ldA_ref, ldA_null, nl_int, nl_ref, nl_fl, nl_null, c1_int, c1_ref, c1_null, Nat.zero_add, Nat.zero_mul, Nat.one_mul, nI_add, nI_leI, nI_ltI, nI_eq, nI_mul, kd_M, gf_M, rSt_P, show ¬ N ≤ i from by omega, show ¬ (1 : Nat) = 0 from by omega, e2, Int32.not_le.mp hv, pf_M12 (show 100 ≤ 463 by omega), rSt_wP, zcall_some, zpush_some, zpush_none, zsum_ref, zsum_int, zsum_long, zsum_nil, zsum_null, Nat.reduceAdd, Nat.reduceLeDiff, if_true]
          rw [zl_284_135]
          simp (implicitDefEqProofs := false) (disch := omega) only [zr_284_137, zr_284_138, zr_284_141, zr_284_143, zr_284_146, zr_284_147, zr_284_150, zr_284_151, zr_284_152, zr_284_153, zr_284_156, zr_284_159, zr_284_160, zr_284_163, zr_284_164, zr_284_166, zr_284_167, zr_284_168, zr_284_171, zr_284_172, zr_284_173, zr_284_176, zr_284_179, true_or, or_true, true_and, and_true, if_true, if_false, ldA_ref, ldA_null, nl_int, nl_ref, nl_fl, nl_null, c1_int, c1_ref, c1_null, Nat.zero_add, Nat.zero_mul, Nat.one_mul, nI_add, nI_leI, nI_ltI, nI_eq, nI_mul, ite_self, zcall_some, zpush_some, zpush_none, zsum_ref, zsum_int, zsum_long, zsum_nil, zsum_null, Nat.reduceAdd, Nat.reduceLeDiff, if_true]
    · rw [if_neg hok] at h1
      cases h1
end
