/-! COMMANDS: closing a month, a new year -/
section
variable {H : zH} {s : tyB} {q q' : Nat → Int64} {c n e g K : Nat} {gs : Nat → Nat} {w w' : tyW} {LS : Nat → Nat → List Ln} {r : Rst}
theorem exOK_clo {D : Nat → Int64} {m p g2 : Nat} {f : Int32} (h : exOK w g) : exOK (wClo w D m f g2 p) g := h
theorem bClN_yr (s : tyB) (W : Nat → tyW) (m : Nat) : gB_yr (bClN s W m) = gB_yr s := rfl
theorem bClN_wk (s : tyB) (W : Nat → tyW) (m : Nat) (he : e < 3) : gB_wk (bClN s W m) e = W e := if_pos he
theorem wClo_sl {D : Nat → Int64} {m p g2 i : Nat} {f : Int32} : gW_sl (wClo w D m f g2 p) i = if i = m then some p else gW_sl w i := rfl
theorem cmd_clo (hp : preC H s q K) : CmdOK H q K (ev 58 [.ref 101, .ref 441] H) (fun h => ev 226 [.ref 463] h) := by
  obtain ⟨c, n, gs, LS, hb, hs⟩ := hp.2.2.1
  have hc := hb.1.1
  by_cases h12 : c = 12
  · subst h12
    exact cmd_bad hp m2 (s_closeNone hp.1 hb.1.2.1) fun r _ h hq _ _ => s_rcloseNone (by rw [hq]; exact hb.1.2.2.1)
  · obtain ⟨du, hD⟩ := hp.2.1
    have hsz := hp.2.2.2.2
    obtain ⟨H', e1, k1, k2, k3, k4, k5, k6⟩ := s_closeN (m := c) (ngs := gs) hp.1 hD (by omega) (by omega) (by omega) (by omega) (by omega) (by omega) hb.1.2.1 hb.2.1.1 hb.2.1.2.1 fun e he => ⟨(good.rE hb he).2.2.2.2.2.1.1, (good.rE hb he).2.2.2.2.2.1.2.1⟩
    refine ⟨nI c, H', _, e1, ⟨k3, k4, by omega, by omega, by omega, k6⟩, fun x => absurd (nnN (by omega)) x, fun r p h hq h1 h2 => ?_⟩
    have hqc : rS (rChg r p) = q := by rw [rChg_S, hq]
    have hR : RelR (gB_ru s) (rS (rChg r p)) n := by rw [hqc]; exact hb.2.1
    have hE : ∀ e, e < 3 → RelE (gB_wk s e) (rS (rChg r p)) e c (gs e) (LS e) := fun e he => by rw [hqc]; exact good.rE hb he
    obtain ⟨r2, e2, p2, p3, p4, p5⟩ := s_rclose (m := 463) (h := h) (r := rChg r p) (mo := c) (n := n) (ngs := gs) (ws := gB_wk s) (Ds := fun e => pDD (gB_ru s) n (gB_wk s e)) (f := gB_fg s) (by omega) hR.1 hR.2.2.1 (by rw [hqc]; exact hb.1.2.2.1) (by omega) (fun e he => (hE e he).2.2.2.2.2.1.1) fun e he => rPre_of hR (hE e he) (by rw [hqc]; exact (hb.2.2.1 e he).2.1) (by omega)
    have e3 := s_rcloseMonth (m := 463) (h := h) (by omega) h2 h1 (show rS r 0 = (nI c).toInt64 by rw [hq]; exact hb.1.2.2.1) (by omega) e2
    refine ⟨rS r2, ?_, fun _ => ?_⟩
    · rw [if_pos (nnN (by omega)), ← p5]; exact e3
    · have l2 : rS r2 2 = q 2 := (p4 2 (by omega) (by omega)).trans (by rw [hqc])
      refine ⟨c + 1, n, gs, fun e i => if i = c then pL5 (gB_wk s e) (pDD (gB_ru s) n (gB_wk s e)) c (gB_fg s) (gs e) else LS e i, ⟨⟨by omega, rfl, p3, ?_, Or.inl rfl⟩, hb.2.1.fr fun k h1 h2 => (p4 k (by omega) h2).trans (by rw [hqc]), fun e he => ⟨?_, flEq_close (p2 e he) ((p4 2 (by omega) (by omega))), fun m hm => ?_, ?_⟩, ?_, ?_⟩, fun e he => ⟨fun m hm => ?_, fun m h1 h2 => ?_⟩⟩
      · rw [p4 1 (by omega) (by omega), hqc]; exact hb.1.2.2.2.1
      · have := RelE_close (sq := 100 + H.1 + 3 * e) hR (hE e he) (by omega) (p2 e he)
        rw [bClN_wk _ _ _ he]
        exact this
      · have := ((p2 e he).1 m hm).2.2.2.2
        rw [this, l2, hqc]
        have := hb.2.2.2.1
        omega
      · rw [bClN_wk _ _ _ he]
        exact exOK_clo (good.xO hb he)
      · rw [l2]
        have := hb.2.2.2.1
        omega
      · have := hb.2.2.2.2
        rw [bClN_yr]
        omega
      · have hsl : gW_sl (gB_wk (bClN s (fun e => wClo (gB_wk s e) (pDD (gB_ru s) n (gB_wk s e)) c (gB_fg s) (gs e) (100 + H.1 + 3 * e)) c) e) m = if m = c then some (100 + H.1 + 3 * e) else gW_sl (gB_wk s e) m := by
          rw [bClN_wk _ _ _ he, wClo_sl]
        rw [hsl]
        dsimp only
        by_cases hmc : m = c
        · rw [if_pos hmc, if_pos hmc]
          obtain ⟨d, x1, x2⟩ := k5 e he
          exact ⟨_, d, rfl, x1, x2, by omega, by omega⟩
        · rw [if_neg hmc, if_neg hmc]
          obtain ⟨p, d, x1, x2, x3, x4, x5⟩ := (hs e he).1 m (by omega)
          exact ⟨p, d, x1, fun k hk => (k6 _ (by omega) (by omega) (by omega)).trans (x2 k hk), x3, x4, by omega⟩
      · have hsl : gW_sl (gB_wk (bClN s (fun e => wClo (gB_wk s e) (pDD (gB_ru s) n (gB_wk s e)) c (gB_fg s) (gs e) (100 + H.1 + 3 * e)) c) e) m = if m = c then some (100 + H.1 + 3 * e) else gW_sl (gB_wk s e) m := by
          rw [bClN_wk _ _ _ he, wClo_sl]
        rw [hsl, if_neg (by omega)]
        exact (hs e he).2 m h1 (by omega)
end
