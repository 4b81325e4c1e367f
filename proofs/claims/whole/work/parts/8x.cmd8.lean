/-! COMMANDS: a new year -/
section
variable {H : zH} {s : tyB} {q q' : Nat → Int64} {c n e g K : Nat} {gs : Nat → Nat} {w w' : tyW} {LS : Nat → Nat → List Ln} {r : Rst}
theorem gaR_rp (h : gaR w (rS r) e g) (hg : g ≤ 3) : ∀ k, k ≤ g → gaR (pRp w k).1 (rS (wRp r e k).1) e g ∧ keG (pRp w k).1 w g ∧ (wRp r e k).2 = (pRp w k).2
  | 0, _ => ⟨h, keG.rf _ _, rfl⟩
  | k + 1, hk => by
    obtain ⟨a, b, d⟩ := gaR_rp h hg k (by omega)
    have hle := pRp_le w k
    have hc := (a k (by omega)).2.2.2
    rw [wRp, pRp, hc]
    by_cases hz : 0 < gW_gr (pRp w k).1 k
    · rw [if_pos hz, if_pos hz]
      dsimp only
      rw [d]
      exact ⟨gaR_sw a hg (by omega) (by omega), (keG_sw (by omega) (by omega)).tr b, rfl⟩
    · rw [if_neg hz, if_neg hz]
      exact ⟨a, b, d⟩
theorem nyE {L : Nat → List Ln} (h : RelE w (rS r) e c g L) (hX : exOK w g) : ∃ g', RelE (pYear w g) (rS (wNyE r e g)) e 0 g' L ∧ exOK (pYear w g) g' := by
  obtain ⟨h1, h2, h3, h4, h5, ⟨g1, g2, g3, g4⟩, h7⟩ := h
  have hO : ∀ j, (j < rX e 134 ∨ rX e 147 ≤ j) → rS (wNyE r e g) j = rS (wNyM r e 12) j := fun j hj => by
    unfold wNyE
    rw [wAt_ne (by unfold rX at *; omega), wRp_o g g1 (by unfold rX at *; omega)]
  have hM : ∀ j, (j < rX e 2 ∨ rX e 38 ≤ j) → (j < rX e 147 ∨ rX e 159 ≤ j) → rS (wNyM r e 12) j = rS r j := fun j a b => wNyM_o 12 (by omega) a b
  have hga : gaR (pYr w 12) (rS (wNyM r e 12)) e g := fun p hp => by
    rw [hM _ (by unfold rX; omega) (by unfold rX; omega), hM _ (by unfold rX; omega) (by unfold rX; omega), hM _ (by unfold rX; omega) (by unfold rX; omega), hM _ (by unfold rX; omega) (by unfold rX; omega)]
    exact g4 p hp
  obtain ⟨a, b, d⟩ := gaR_rp hga g1 g (Nat.le_refl _)
  have hle := pRp_le (pYr w 12) g
  have en : gW_en (pYear w g) = yrE (gW_en w) 12 := b.1
  have hat := wNyM_at (r := r) (e := e) 12 (by omega)
  have h11 := h1 11 (by omega)
  have b11 := (h2 11 (by omega)).1
  refine ⟨(pRp (pYr w 12) g).2, ⟨fun k hk => ?_, fun k hk => ?_, fun m hm => by omega, ?_, ?_, ⟨by omega, rfl, ?_, fun p hp => ?_⟩, fun m hm => by omega, fun m h8 h9 => ?_⟩, ?_, fun p hp => ?_⟩
  · rw [hO _ (by unfold rX; omega), en]
    unfold yrE
    rw [if_pos (by omega)]
    by_cases k1 : k < 12
    · rw [if_pos k1, (hat k k1).1]; exact h11
    · rw [if_neg k1]
      by_cases k2 : k < 24
      · rw [if_pos k2]
        have := (hat (k - 12) (by omega)).2.1
        rw [show 14 + (k - 12) = 2 + k by omega] at this
        rw [this]; rfl
      · rw [if_neg k2]
        have := (hat (k - 24) (by omega)).2.2.1
        rw [show 26 + (k - 24) = 2 + k by omega] at this
        rw [this]; rfl
  · rw [en]
    unfold yrE
    rw [if_pos (by omega), if_pos (by omega), if_pos (by omega), if_neg (by omega), if_pos (by omega), if_pos (by omega), if_neg (by omega), if_neg (by omega), nI_toInt (by omega), nI_toInt (by omega)]
    exact ⟨b11, by omega, by omega⟩
  · rw [hO _ (by unfold rX; omega), hM _ (by unfold rX; omega) (by unfold rX; omega)]
    exact h4.trans (congrArg Int32.toInt64 b.2.2.2.2.2.1.symm)
  · rw [hO _ (by unfold rX; omega), hM _ (by unfold rX; omega) (by unfold rX; omega)]
    exact h5.trans b.2.2.2.2.2.2.1.symm
  · unfold wNyE; rw [wAt_eq, d]
  · have := a p (by omega)
    unfold wNyE
    rw [wAt_ne (by unfold rX; omega), wAt_ne (by unfold rX; omega), wAt_ne (by unfold rX; omega), wAt_ne (by unfold rX; omega)]
    exact this
  · rw [hO _ (by unfold rX; omega)]; exact (hat m h9).2.2.2
  · have := hX.1
    exact (congrArg (fun x : Int32 => 0 ≤ x.toInt) b.2.2.2.2.2.1).mpr this
  · exact b.2.2.2.2.2.2.2 hX.2 p (by omega)
theorem wNy_S {gs : Nat → Nat} (hg : ∀ e, e < 3 → gs e ≤ 3) : ∀ j, j ≤ 3 → wNy r gs j = wS r (rS (wNy r gs j))
  | 0, _ => rfl
  | j + 1, hj => wS_tr (wNyE_S (hg j (by omega))) (wNy_S hg j (by omega))
theorem wNy_lo {gs : Nat → Nat} (hg : ∀ e, e < 3 → gs e ≤ 3) {k : Nat} (hk : k < 18) : ∀ j, j ≤ 3 → rS (wNy r gs j) k = rS r k
  | 0, _ => rfl
  | j + 1, hj => (wNyE_o (hg j (by omega)) (by unfold rX; omega)).trans (wNy_lo hg hk j (by omega))
theorem wNy_at {gs : Nat → Nat} (hg : ∀ e, e < 3 → gs e ≤ 3) {k : Nat} (hk : k < 2751) : ∀ j, j ≤ 3 → ∀ e, e < 3 → rS (wNy r gs j) (rX e k) = if e < j then rS (wNyE (wNy r gs e) e (gs e)) (rX e k) else rS r (rX e k)
  | 0, _, e, _ => by rw [if_neg (by omega)]; rfl
  | j + 1, hj, e, he => by
    have ih := wNy_at hg hk j (by omega) e he
    show rS (wNyE (wNy r gs j) j (gs j)) (rX e k) = _
    by_cases h : e = j
    · subst h; rw [if_pos (by omega)]
    · rw [wNyE_o (hg j (by omega)) (by unfold rX; omega), ih]
      by_cases h2 : e < j
      · rw [if_pos h2, if_pos (by omega)]
      · rw [if_neg h2, if_neg (by omega)]
theorem i64_b1 (x : Int64) : (x + 1).toInt32 = x.toInt32 + nI 1 := by
  rw [Int64.toInt32_add]; rfl
theorem cmd_ny (hp : preC H s q K) : CmdOK H q K (ev 78 [.ref 101] H) (fun h => ev 244 [.ref 463] h) := by
  obtain ⟨c, n, gs, LS, hb, hs⟩ := hp.2.2.1
  have hG : ∀ e, e < 3 → gs e ≤ 3 ∧ gW_gc (gB_wk s e) = nI (gs e) := fun e he => ⟨(good.rE hb he).2.2.2.2.2.1.1, (good.rE hb he).2.2.2.2.2.1.2.1⟩
  have hG2 : ∀ e, e < 3 → gs e ≤ 3 := fun e he => (hG e he).1
  have hG3 : ∀ e, e < 3 → q (rX e 134) = (nI (gs e)).toInt64 := fun e he => (good.rE hb he).2.2.2.2.2.1.2.2.1
  have e1 := s_bYear hp.1 (by omega) hb.1.2.1 hb.1.1 hG
  by_cases h12 : c < 12
  · rw [if_pos h12] at e1
    refine cmd_bad hp m2 e1 fun r p h hq h1 h2 => ?_
    have := s_rnewYear (m := 463) (h := h) (r := r) (gs := gs) (by omega) h2 h1 hb.1.1 (by rw [hq]; exact hb.1.2.2.1) fun e he => ⟨hG2 e he, by rw [hq]; exact hG3 e he⟩
    rw [if_pos h12] at this
    exact this
  · rw [if_neg h12] at e1
    have hyr := hb.2.2.2.2
    have hK := hp.2.2.2.1
    obtain ⟨y, hy, ey⟩ := toI (n := K) (by omega) hyr.1 hyr.2
    have eyi : (gB_yr s + nI 1).toInt = (y : Int) + 1 := by rw [ey, nI_add, nI_toInt (by omega)]; omega
    refine cmd_ok hp (nnI (by rw [eyi]; omega)) e1 fun r p h hq h1 h2 => ⟨wNy (wAt (wAt (rChg r p) 0 0) 1 (q 1 + 1)) gs 3, ?_, wS_tr (wNy_S hG2 3 (by omega)) (wS_tr (wAt_S _ _ _) (wAt_S _ _ _)), ?_⟩
    · have := s_rnewYear (m := 463) (h := h) (r := r) (gs := gs) (by omega) h2 h1 hb.1.1 (by rw [hq]; exact hb.1.2.2.1) fun e he => ⟨hG2 e he, by rw [hq]; exact hG3 e he⟩
      rw [if_neg h12, hq, i64_b1, ← hb.1.2.2.2.1] at this
      exact this
    · have hqc : rS (rChg r p) = q := by rw [rChg_S, hq]
      have hlo : ∀ k, k < 18 → rS (wNy (wAt (wAt (rChg r p) 0 0) 1 (q 1 + 1)) gs 3) k = if k = 1 then q 1 + 1 else if k = 0 then 0 else q k := fun k hk => by
        rw [wNy_lo hG2 hk 3 (by omega)]
        by_cases k1 : k = 1
        · rw [if_pos k1, k1, wAt_eq]
        · rw [if_neg k1, wAt_ne k1]
          by_cases k0 : k = 0
          · rw [if_pos k0, k0, wAt_eq]
          · rw [if_neg k0, wAt_ne k0, hqc]
      have hE : ∀ e, e < 3 → ∃ g', RelE (pYear (gB_wk s e) (gs e)) (rS (wNy (wAt (wAt (rChg r p) 0 0) 1 (q 1 + 1)) gs 3)) e 0 g' (LS e) ∧ exOK (pYear (gB_wk s e) (gs e)) g' := fun e he => by
        have hr : RelE (gB_wk s e) (rS (wNy (wAt (wAt (rChg r p) 0 0) 1 (q 1 + 1)) gs e)) e c (gs e) (LS e) := (good.rE hb he).fr hb.1.1 fun k hk => by
          rw [wNy_at hG2 hk e (by omega) e he, if_neg (by omega), wAt_ne (by unfold rX; omega), wAt_ne (by unfold rX; omega), hqc]
        obtain ⟨g', x1, x2⟩ := nyE hr (good.xO hb he)
        refine ⟨g', x1.fr (by omega) fun k hk => ?_, x2⟩
        rw [wNy_at hG2 hk 3 (by omega) e he, if_pos he]
      have hwk : ∀ e, e < 3 → gB_wk (bYear s gs) e = pYear (gB_wk s e) (gs e) := fun e he => if_pos he
      generalize rS (wNy (wAt (wAt (rChg r p) 0 0) 1 (q 1 + 1)) gs 3) = q2 at hlo hE ⊢
      have l2 := hlo 2 (by omega)
      rw [if_neg (by omega), if_neg (by omega)] at l2
      obtain ⟨g0, x0⟩ := hE 0 (by omega)
      obtain ⟨g1, x1⟩ := hE 1 (by omega)
      obtain ⟨g2, x2⟩ := hE 2 (by omega)
      have hE2 : ∀ e, e < 3 → RelE (pYear (gB_wk s e) (gs e)) q2 e 0 (if e = 0 then g0 else if e = 1 then g1 else g2) (LS e) ∧ exOK (pYear (gB_wk s e) (gs e)) (if e = 0 then g0 else if e = 1 then g1 else g2) := fun e he => by
        rcases (show e = 0 ∨ e = 1 ∨ e = 2 by omega) with rfl | rfl | rfl
        · exact x0
        · exact x1
        · exact x2
      refine ⟨0, n, fun e => if e = 0 then g0 else if e = 1 then g1 else g2, LS, ⟨⟨by omega, rfl, ?_, ?_, hb.1.2.2.2.2⟩, hb.2.1.fr fun k k1 k2 => ?_, fun e he => ⟨?_, fun m hm => by omega, fun m hm => by omega, ?_⟩, ?_, ?_⟩, fun e he => ⟨fun m hm => by omega, fun m k1 k2 => ?_⟩⟩
      · rw [hlo 0 (by omega), if_neg (by omega), if_pos rfl]; rfl
      · rw [hlo 1 (by omega), if_pos rfl, i64_b1, ← hb.1.2.2.2.1]; rfl
      · rw [hlo k k2, if_neg (by omega), if_neg (by omega)]
      · rw [hwk e he]; exact (hE2 e he).1
      · rw [hwk e he]; exact (hE2 e he).2
      · rw [l2]
        have := hb.2.2.2.1
        omega
      · show 0 ≤ (gB_yr s + nI 1).toInt ∧ (gB_yr s + nI 1).toInt ≤ _
        rw [eyi]; omega
      · rw [hwk e he]
        have hsl : gW_sl (pYear (gB_wk s e) (gs e)) = gW_sl (pYr (gB_wk s e) 12) := by
          have : ∀ j, gW_sl (pRp (pYr (gB_wk s e) 12) j).1 = gW_sl (pYr (gB_wk s e) 12) := fun j => by
            induction j with
            | zero => rfl
            | succ j ih =>
              rw [pRp]
              by_cases hz : 0 < gW_gr (pRp (pYr (gB_wk s e) 12) j).1 j
              · rw [if_pos hz]; exact ih
              · rw [if_neg hz]; exact ih
          exact this (gs e)
        rw [hsl]
        exact if_pos k1
end
