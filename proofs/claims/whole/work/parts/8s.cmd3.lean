/-! COMMANDS on floors and rules -/
section
variable {H : zH} {s : tyB} {q q' : Nat → Int64} {c n e g K : Nat} {gs : Nat → Nat} {w w' : tyW} {LS : Nat → Nat → List Ln} {r : Rst}
theorem toI {x : Int32} {n : Nat} (hn : n < 2 ^ 31) (h0 : 0 ≤ x.toInt) (h1 : x.toInt ≤ n) : ∃ k, k ≤ n ∧ x = nI k := in_nI hn (nnI h0) (Int32.le_iff_toInt_le.mpr (by rw [nI_toInt hn]; exact h1))
theorem cmd_flo (hp : preC H s q K) (x z : Int32) : CmdOK H q K (ev 34 [.ref 101, .int x, .int z] H) (fun h => ev 212 [.ref 463, .int x, .int z] h) := by
  by_cases ok : (nI 0 ≤ x ∧ x ≤ nI 2) ∧ (nI 0 ≤ z ∧ z ≤ nI 9999)
  · obtain ⟨e, he, rfl⟩ := in_nI (by omega) ok.1.1 ok.1.2
    obtain ⟨c, n, gs, LS, hb, hs⟩ := hp.2.2.1
    have hE := good.rE hb (show e < 3 by omega)
    have hc := hb.1.1
    have hX := good.xO hb (show e < 3 by omega)
    have hr := rgI (by omega) ok.2
    refine cmd_ok hp (nnI hX.1) (s_chFloor hp.1 (by omega) (by omega) ok.2) fun r p h hq h1 h2 => ⟨wAt (rChg r p) (rX e 0) z.toInt64, ?_, wAt_S _ _ _, ?_⟩
    · have := s_rsetFloor (m := 463) (r := r) (h := h) (by omega) h2 h1 (show e < 3 by omega) ok.2
      rw [hq, hE.2.2.2.1, i64_b] at this
      exact this
    · have hat : ∀ k, k ≠ rX e 0 → rS (wAt (rChg r p) (rX e 0) z.toInt64) k = q k := fun k hk => by rw [wAt_ne hk, rChg_S, hq]
      have hz : ∀ k, 0 < k → rS (wAt (rChg r p) (rX e 0) z.toInt64) (rX e k) = q (rX e k) := fun k hk => hat _ (by unfold rX; omega)
      refine good.wk hb hs (show e < 3 by omega) rfl (fun k _ h => hat k (by unfold rX at *; omega)) (fun k h1 h2 => hz k (by omega)) ⟨hE.1.fr fun k _ _ => hz k (by omega), hE.2.1, hE.2.2.1.fr hc fun k _ _ => hz k (by omega), wAt_eq _ _ _, (hz 1 (by omega)).trans hE.2.2.2.2.1, hE.2.2.2.2.2.1.fr fun k _ _ => hz k (by omega), liEq.fr hc hE.2.2.2.2.2.2 fun k _ _ => hz k (by omega)⟩ ⟨hr.1, hX.2⟩
  · exact cmd_bad hp m1 (s_chFloor_bad ok) fun r _ h _ _ _ => s_rsetFloor_bad ok
theorem i64_up {a : Int64} {K : Nat} (h0 : 0 ≤ a.toInt) (h1 : a.toInt ≤ K) (hK : K < 2 ^ 30) : (a + 1).toInt = a.toInt + 1 := by
  have h2 : a + 1 = J (a.toInt + 1) := by
    rw [← J_add, J_self]; rfl
  rw [h2]; exact J_toInt (by omega) (by omega)
theorem good.ru {s' : tyR} {n' : Nat} (hb : RelB s q c n gs LS K) (hs : ∀ e, e < 3 → slB H (gB_wk s e) c (LS e)) (hK : K < 2 ^ 30) (hR : RelR s' q' n') (h0 : q' 0 = q 0) (h1 : q' 1 = q 1) (h2 : q' 2 = q 2 + 1) (hq : ∀ k, 18 ≤ k → q' k = q k) : good H (sB_fg (sB_ru s s') (nI 1)) q' (K + 1) := by
  obtain ⟨⟨b1, b2, b3, b4, b5⟩, b6, b7, b8, b9, b10⟩ := hb
  have hu := i64_up b8.1 b8.2 hK
  refine ⟨c, n', gs, LS, ⟨⟨b1, b2, h0.trans b3, by rw [h1]; exact b4, Or.inr rfl⟩, hR, fun e he => ?_, ⟨by rw [h2, hu]; omega, by rw [h2, hu]; omega⟩, b9, ?_⟩, hs⟩
  · obtain ⟨x1, x2, x3, x4⟩ := b7 e he
    have z : ∀ k, q' (rX e k) = q (rX e k) := fun k => hq _ (by unfold rX; omega)
    refine ⟨x1.fr b1 fun k _ => z k, fun m hm => ⟨fun x => absurd x (by decide : ¬ nI 1 = nI 0), fun x => ?_⟩, fun m hm => ?_, x4⟩
    · have := (x3 m hm).2
      rw [z, h2] at x
      rw [← x, hu] at this
      omega
    · rw [z, h2, hu]
      have := x3 m hm
      omega
  · show (gB_yr s).toInt ≤ _
    omega
theorem wRule_at {k : Nat} {x : Int64} (hk : k ≠ 2) : rS (wRule r k x) 2 = rS r 2 + 1 ∧ rS (wRule r k x) k = x ∧ ∀ j, j ≠ 2 → j ≠ k → rS (wRule r k x) j = rS r j := by
  unfold wRule
  refine ⟨?_, ?_, fun j h1 h2 => ?_⟩
  · rw [wAt_eq, wAt_ne (Ne.symm hk)]
  · rw [wAt_ne hk, wAt_eq]
  · rw [wAt_ne h1, wAt_ne h2]
theorem wRule_S (k : Nat) (x : Int64) : wRule r k x = wS r (rS (wRule r k x)) := rfl
theorem cmd_rat (hp : preC H s q K) (x z : Int32) : CmdOK H q K (ev 36 [.ref 101, .int x, .int z] H) (fun h => ev 213 [.ref 463, .int x, .int z] h) := by
  by_cases ok : (nI 0 ≤ x ∧ x ≤ nI 1) ∧ (nI 0 ≤ z ∧ z ≤ nI 499)
  · obtain ⟨i, hi, rfl⟩ := in_nI (by omega) ok.1.1 ok.1.2
    obtain ⟨c, n, gs, LS, hb, hs⟩ := hp.2.2.1
    have hR := hb.2.1
    have hr := rgI (by omega) ok.2
    refine cmd_ok hp (nnI (hR.2.2.2.1 i (by omega)).2.2.1.1) (s_chRate hp.1 (by omega) (by omega) ok.2) fun r p h hq h1 h2 => ⟨wRule (rChg r p) (3 + i) z.toInt64, ?_, wRule_S _ _, ?_⟩
    · have := s_rsetRate (m := 463) (r := r) (h := h) (by omega) h2 h1 (show i < 2 by omega) ok.2
      rw [hq, (hR.2.2.2.1 i (by omega)).1, i64_b] at this
      exact this
    · obtain ⟨a1, a2, a3⟩ := wRule_at (r := rChg r p) (x := z.toInt64) (show 3 + i ≠ 2 by omega)
      rw [rChg_S, hq] at a1
      have hat : ∀ k, k ≠ 2 → k ≠ 3 + i → rS (wRule (rChg r p) (3 + i) z.toInt64) k = q k := fun k h1 h2 => (a3 k h1 h2).trans (by rw [rChg_S, hq])
      refine good.ru hb hs hp.2.2.2.1 (n' := n) ⟨hR.1, hR.2.1, (hat 7 (by omega) (by omega)).trans hR.2.2.1, fun k hk => ?_, fun k hk => ?_, hR.2.2.2.2.2⟩ (hat 0 (by omega) (by omega)) (hat 1 (by omega) (by omega)) a1 fun k hk => hat k (by omega) (by omega)
      · obtain ⟨x1, x2, x3, x4⟩ := hR.2.2.2.1 k hk
        by_cases hki : k = i
        · subst hki
          have hu : gR_ra (sR_ra (gB_ru s) (upd (gR_ra (gB_ru s)) k z)) k = z := if_pos rfl
          refine ⟨?_, (hat _ (by omega) (by omega)).trans x2, ?_, x4⟩
          · rw [a2, hu]
          · unfold ruR; rw [hu]; omega
        · have hu : gR_ra (sR_ra (gB_ru s) (upd (gR_ra (gB_ru s)) i z)) k = gR_ra (gB_ru s) k := if_neg hki
          refine ⟨?_, (hat _ (by omega) (by omega)).trans x2, ?_, x4⟩
          · rw [hat _ (by omega) (by omega), hu]; exact x1
          · unfold ruR; rw [hu]; exact x3
      · have := hR.1
        rw [hat _ (by omega) (by omega), hat _ (by omega) (by omega)]; exact hR.2.2.2.2.1 k hk
  · exact cmd_bad hp m1 (s_chRate_bad ok) fun r _ h _ _ _ => s_rsetRate_bad ok
theorem cmd_cap (hp : preC H s q K) (x z : Int32) : CmdOK H q K (ev 38 [.ref 101, .int x, .int z] H) (fun h => ev 215 [.ref 463, .int x, .int z] h) := by
  by_cases ok : (nI 0 ≤ x ∧ x ≤ nI 1) ∧ (nI 0 ≤ z ∧ z ≤ nI 99999)
  · obtain ⟨i, hi, rfl⟩ := in_nI (by omega) ok.1.1 ok.1.2
    obtain ⟨c, n, gs, LS, hb, hs⟩ := hp.2.2.1
    have hR := hb.2.1
    have hr := rgI (by omega) ok.2
    refine cmd_ok hp (nnI (hR.2.2.2.1 i (by omega)).2.2.2.1) (s_chCap hp.1 (by omega) (by omega) ok.2) fun r p h hq h1 h2 => ⟨wRule (rChg r p) (5 + i) z.toInt64, ?_, wRule_S _ _, ?_⟩
    · have := s_rsetCap (m := 463) (r := r) (h := h) (by omega) h2 h1 (show i < 2 by omega) ok.2
      rw [hq, (hR.2.2.2.1 i (by omega)).2.1, i64_b] at this
      exact this
    · obtain ⟨a1, a2, a3⟩ := wRule_at (r := rChg r p) (x := z.toInt64) (show 5 + i ≠ 2 by omega)
      rw [rChg_S, hq] at a1
      have hat : ∀ k, k ≠ 2 → k ≠ 5 + i → rS (wRule (rChg r p) (5 + i) z.toInt64) k = q k := fun k h1 h2 => (a3 k h1 h2).trans (by rw [rChg_S, hq])
      refine good.ru hb hs hp.2.2.2.1 (n' := n) ⟨hR.1, hR.2.1, (hat 7 (by omega) (by omega)).trans hR.2.2.1, fun k hk => ?_, fun k hk => ?_, hR.2.2.2.2.2⟩ (hat 0 (by omega) (by omega)) (hat 1 (by omega) (by omega)) a1 fun k hk => hat k (by omega) (by omega)
      · obtain ⟨x1, x2, x3, x4⟩ := hR.2.2.2.1 k hk
        by_cases hki : k = i
        · subst hki
          have hu : gR_ca (sR_ca (gB_ru s) (upd (gR_ca (gB_ru s)) k z)) k = z := if_pos rfl
          refine ⟨(hat _ (by omega) (by omega)).trans x1, ?_, x3, ?_⟩
          · rw [a2, hu]
          · unfold ruC; rw [hu]; omega
        · have hu : gR_ca (sR_ca (gB_ru s) (upd (gR_ca (gB_ru s)) i z)) k = gR_ca (gB_ru s) k := if_neg hki
          refine ⟨(hat _ (by omega) (by omega)).trans x1, ?_, x3, ?_⟩
          · rw [hat _ (by omega) (by omega), hu]; exact x2
          · unfold ruC; rw [hu]; exact x4
      · have := hR.1
        rw [hat _ (by omega) (by omega), hat _ (by omega) (by omega)]; exact hR.2.2.2.2.1 k hk
  · exact cmd_bad hp m1 (s_chCap_bad ok) fun r _ h _ _ _ => s_rsetCap_bad ok
end
