/-! COMMANDS that drop and move garnishments -/
section
variable {H : zH} {s : tyB} {q q' : Nat → Int64} {c n e g K : Nat} {gs : Nat → Nat} {w w' : tyW} {LS : Nat → Nat → List Ln} {r : Rst}
def zR : Rst := (fun _ => 0, fun _ => 0, fun _ => 0, fun _ => 0, fun _ => 0, fun _ => 0, fun _ => 0, fun _ => 0, 0, 0, 0, 0, 0, 0, 0)
def gaR (w : tyW) (q : Nat → Int64) (e g : Nat) : Prop := ∀ p, p < g → q (rX e (135 + 4 * p)) = (gW_gk w p).toInt64 ∧ q (rX e (135 + 4 * p + 1)) = (gW_gs w p).toInt64 ∧ q (rX e (135 + 4 * p + 2)) = (gW_gd w p).toInt64 ∧ q (rX e (135 + 4 * p + 3)) = gW_gr w p
theorem gaR_sw {i j : Nat} (h : gaR w (rS r) e g) (hg : g ≤ 3) (hi : i < g) (hj : j < g) : gaR (pSwap w i j) (rS (wExc r e i j 4)) e g := fun p hp => by
  have ha := (wExc_at (r := r) (e := e) (show i < 3 by omega) (show j < 3 by omega) 4 (by omega)).1 p
  have z : ∀ c, c < 4 → rS (wExc r e i j 4) (rX e (135 + 4 * p + c)) = if p = j then rS r (rX e (135 + 4 * i + c)) else if p = i then rS r (rX e (135 + 4 * j + c)) else rS r (rX e (135 + 4 * p + c)) := fun c hc => by rw [ha c (by omega) hc, if_pos hc]
  have z0 := z 0 (by omega)
  rw [show 135 + 4 * p + 0 = 135 + 4 * p by omega, show 135 + 4 * i + 0 = 135 + 4 * i by omega, show 135 + 4 * j + 0 = 135 + 4 * j by omega] at z0
  rw [z0, z 1 (by omega), z 2 (by omega), z 3 (by omega)]
  have g0 : gW_gk (pSwap w i j) p = if p = j then gW_gk w i else if p = i then gW_gk w j else gW_gk w p := rfl
  have g1 : gW_gs (pSwap w i j) p = if p = j then gW_gs w i else if p = i then gW_gs w j else gW_gs w p := rfl
  have g2 : gW_gd (pSwap w i j) p = if p = j then gW_gd w i else if p = i then gW_gd w j else gW_gd w p := rfl
  have g3 : gW_gr (pSwap w i j) p = if p = j then gW_gr w i else if p = i then gW_gr w j else gW_gr w p := rfl
  rw [g0, g1, g2, g3]
  by_cases h1 : p = j
  · rw [if_pos h1, if_pos h1, if_pos h1, if_pos h1, if_pos h1, if_pos h1, if_pos h1, if_pos h1]; exact h i hi
  · rw [if_neg h1, if_neg h1, if_neg h1, if_neg h1, if_neg h1, if_neg h1, if_neg h1, if_neg h1]
    by_cases h2 : p = i
    · rw [if_pos h2, if_pos h2, if_pos h2, if_pos h2, if_pos h2, if_pos h2, if_pos h2, if_pos h2]; exact h j hj
    · rw [if_neg h2, if_neg h2, if_neg h2, if_neg h2, if_neg h2, if_neg h2, if_neg h2, if_neg h2]; exact h p hp
def keG (w' w : tyW) (g : Nat) : Prop := gW_en w' = gW_en w ∧ gW_se w' = gW_se w ∧ gW_am w' = gW_am w ∧ gW_sl w' = gW_sl w ∧ gW_gc w' = gW_gc w ∧ gW_fl w' = gW_fl w ∧ gW_ow w' = gW_ow w ∧ ((∀ p, p < g → 0 ≤ (gW_gk w p).toInt) → ∀ p, p < g → 0 ≤ (gW_gk w' p).toInt)
theorem keG.rf (w : tyW) (g : Nat) : keG w w g := ⟨rfl, rfl, rfl, rfl, rfl, rfl, rfl, fun h => h⟩
theorem keG.tr {w2 : tyW} (a : keG w2 w' g) (b : keG w' w g) : keG w2 w g := ⟨a.1.trans b.1, a.2.1.trans b.2.1, a.2.2.1.trans b.2.2.1, a.2.2.2.1.trans b.2.2.2.1, a.2.2.2.2.1.trans b.2.2.2.2.1, a.2.2.2.2.2.1.trans b.2.2.2.2.2.1, a.2.2.2.2.2.2.1.trans b.2.2.2.2.2.2.1, fun h => a.2.2.2.2.2.2.2 (b.2.2.2.2.2.2.2 h)⟩
theorem keG_sw {i j : Nat} (hi : i < g) (hj : j < g) : keG (pSwap w i j) w g := ⟨rfl, rfl, rfl, rfl, rfl, rfl, rfl, fun h p hp => by
  show 0 ≤ (if p = j then gW_gk w i else if p = i then gW_gk w j else gW_gk w p).toInt
  by_cases h1 : p = j
  · rw [if_pos h1]; exact h i hi
  · rw [if_neg h1]
    by_cases h2 : p = i
    · rw [if_pos h2]; exact h j hj
    · rw [if_neg h2]; exact h p hp⟩
def keQ (r' r : Rst) (e : Nat) : Prop := (∀ q, (q < rX e 135 ∨ rX e 147 ≤ q) → rS r' q = rS r q) ∧ r' = wS r (rS r')
theorem keQ.rf (r : Rst) (e : Nat) : keQ r r e := ⟨fun _ _ => rfl, rfl⟩
theorem keQ.tr {r2 r1 : Rst} (a : keQ r2 r1 e) (b : keQ r1 r e) : keQ r2 r e := ⟨fun q hq => (a.1 q hq).trans (b.1 q hq), wS_tr a.2 b.2⟩
theorem keQ_sw {i j : Nat} (hi : i < 3) (hj : j < 3) : keQ (wExc r e i j 4) r e := (wExc_at hi hj 4 (by omega)).2
theorem gaR_1 {p : Nat} (h : gaR w (rS r) e g) (hg : g ≤ 3) : ∀ k, p + k < g → gaR (pSh1 w p k) (rS (wSh1 r e p k)) e g ∧ keG (pSh1 w p k) w g ∧ keQ (wSh1 r e p k) r e ∧ gW_gk (pSh1 w p k) (p + k) = gW_gk w p
  | 0, _ => ⟨h, keG.rf _ _, keQ.rf _ _, rfl⟩
  | k + 1, hk => by
    obtain ⟨a, b, d, x⟩ := gaR_1 (p := p) h hg k (by omega)
    refine ⟨gaR_sw a hg (by omega) (by omega), (keG_sw (by omega) (by omega)).tr b, (keQ_sw (by omega) (by omega)).tr d, ?_⟩
    show (if p + (k + 1) = p + k + 1 then gW_gk (pSh1 w p k) (p + k) else _) = _
    rw [if_pos (by omega)]; exact x
theorem gaR_2 {p : Nat} (h : gaR w (rS r) e g) (hg : g ≤ 3) (hp : p < g) : ∀ k, k ≤ p → gaR (pSh2 w p k) (rS (wSh2 r e p k)) e g ∧ keG (pSh2 w p k) w g ∧ keQ (wSh2 r e p k) r e ∧ gW_gk (pSh2 w p k) (p - k) = gW_gk w p
  | 0, _ => ⟨h, keG.rf _ _, keQ.rf _ _, rfl⟩
  | k + 1, hk => by
    obtain ⟨a, b, d, x⟩ := gaR_2 (p := p) h hg hp k (by omega)
    refine ⟨gaR_sw a hg (by omega) (by omega), (keG_sw (by omega) (by omega)).tr b, (keQ_sw (by omega) (by omega)).tr d, ?_⟩
    show (if p - (k + 1) = p - k - 1 then gW_gk (pSh2 w p k) (p - k) else _) = _
    rw [if_pos (by omega)]; exact x
theorem good.gm {g' : Nat} (hb : RelB s q c n gs LS K) (hs : ∀ e, e < 3 → slB H (gB_wk s e) c (LS e)) (he : e < 3) (e1 : gW_en w' = gW_en (gB_wk s e)) (e2 : gW_se w' = gW_se (gB_wk s e)) (e3 : gW_am w' = gW_am (gB_wk s e)) (e4 : gW_sl w' = gW_sl (gB_wk s e)) (e5 : gW_fl w' = gW_fl (gB_wk s e)) (e6 : gW_ow w' = gW_ow (gB_wk s e)) (hk : ∀ p, p < g' → 0 ≤ (gW_gk w' p).toInt) (hq : ∀ k, (k < rX e 134 ∨ rX e 147 ≤ k) → q' k = q k) (hg : gaEq w' q' e g') : good H (sB_w s e w') q' (K + 1) :=
  good.wk hb hs he e4 (fun k _ h => hq k (by unfold rX at *; omega)) (fun k h1 h2 => hq _ (by unfold rX; omega)) ((good.rE hb he).ga hb.1.1 e1 e2 e3 e5 e6 (fun k _ h => hq _ (by unfold rX; omega)) hg) ⟨by rw [e5]; exact (good.xO hb he).1, hk⟩
theorem cmd_dro (hp : preC H s q K) (x y : Int32) : CmdOK H q K (ev 50 [.ref 101, .int x, .int y] H) (fun h => ev 222 [.ref 463, .int x, .int y] h) := by
  obtain ⟨c, n, gs, LS, hb, hs⟩ := hp.2.2.1
  by_cases ok : ∃ e, e < 3 ∧ x = nI e ∧ nI 0 ≤ y ∧ y < nI (gs e)
  · obtain ⟨e, he, rfl, hy⟩ := ok
    obtain ⟨g1, g2, g3, g4⟩ := (good.rE hb he).2.2.2.2.2.1
    obtain ⟨p, hp3, rfl⟩ := in_nI (by omega) hy.1 (Int32.le_of_lt hy.2)
    have hlt : p < gs e := by
      have := Int32.lt_iff_toInt_lt.mp hy.2
      rw [nI_toInt (by omega), nI_toInt (by omega)] at this
      omega
    refine cmd_ok hp (nnN (by omega)) (s_remGar hp.1 (by omega) he g1 g2 hlt) fun r p2 h hq h1 h2 => ⟨wSh1 (wAt (rChg r p2) (rX e 134) (nI (gs e - 1)).toInt64) e p (gs e - 1 - p), s_rdrop (m := 463) (by omega) h2 h1 he g1 (by rw [hq]; exact g3) hlt, ?_, ?_⟩
    all_goals
      have hga : gaR (gB_wk s e) (rS (wAt (rChg r p2) (rX e 134) (nI (gs e - 1)).toInt64)) e (gs e) := fun i hi => by
        rw [wAt_ne (by unfold rX; omega), wAt_ne (by unfold rX; omega), wAt_ne (by unfold rX; omega), wAt_ne (by unfold rX; omega), rChg_S, hq]; exact g4 i hi
      obtain ⟨a, b, d, _⟩ := gaR_1 (p := p) hga g1 (gs e - 1 - p) (by omega)
    · exact wS_tr d.2 (wAt_S _ _ _)
    · refine good.gm hb hs he b.1 b.2.1 b.2.2.1 b.2.2.2.1 b.2.2.2.2.2.1 b.2.2.2.2.2.2.1 (fun i hi => b.2.2.2.2.2.2.2 (good.xO hb he).2 i (by omega)) (fun k hk => ?_) (g' := gs e - 1) ⟨by omega, rfl, ?_, fun i hi => a i (by omega)⟩
      · rw [d.1 k (by unfold rX at *; omega), wAt_ne (by unfold rX at *; omega), rChg_S, hq]
      · rw [d.1 _ (by unfold rX; omega), wAt_eq]
  · exact cmd_bad hp m1 (s_remGar_bad hp.1 (fun e he => ⟨(good.rE hb he).2.2.2.2.2.1.1, (good.rE hb he).2.2.2.2.2.1.2.1⟩) ok) fun r _ h hq _ _ => s_rdrop_bad (fun e he => by rw [hq]; exact (good.rE hb he).2.2.2.2.2.1.2.2.1) ok
theorem cmd_mov (hp : preC H s q K) (x y z : Int32) : CmdOK H q K (ev 56 [.ref 101, .int x, .int y, .int z] H) (fun h => ev 225 [.ref 463, .int x, .int y, .int z] h) := by
  obtain ⟨c, n, gs, LS, hb, hs⟩ := hp.2.2.1
  by_cases ok : ∃ e, e < 3 ∧ x = nI e ∧ (nI 0 ≤ y ∧ y < nI (gs e)) ∧ (nI 0 ≤ z ∧ z < nI (gs e))
  · obtain ⟨e, he, rfl, hy, hz⟩ := ok
    have hE := good.rE hb he
    obtain ⟨g1, g2, g3, g4⟩ := hE.2.2.2.2.2.1
    obtain ⟨p, hp3, rfl⟩ := in_nI (by omega) hy.1 (Int32.le_of_lt hy.2)
    obtain ⟨t, ht3, rfl⟩ := in_nI (by omega) hz.1 (Int32.le_of_lt hz.2)
    have hlt : p < gs e := by
      have := Int32.lt_iff_toInt_lt.mp hy.2
      rw [nI_toInt (by omega), nI_toInt (by omega)] at this
      omega
    have hlt2 : t < gs e := by
      have := Int32.lt_iff_toInt_lt.mp hz.2
      rw [nI_toInt (by omega), nI_toInt (by omega)] at this
      omega
    have key : ∀ r : Rst, rS r = q → gaR (pSh2 (pSh1 (gB_wk s e) p (t - p)) p (p - t)) (rS (wSh2 (wSh1 r e p (t - p)) e p (p - t))) e (gs e) ∧ keG (pSh2 (pSh1 (gB_wk s e) p (t - p)) p (p - t)) (gB_wk s e) (gs e) ∧ keQ (wSh2 (wSh1 r e p (t - p)) e p (p - t)) r e ∧ gW_gk (pSh2 (pSh1 (gB_wk s e) p (t - p)) p (p - t)) t = gW_gk (gB_wk s e) p := fun r hq => by
      obtain ⟨a, b, d, x⟩ := gaR_1 (r := r) (p := p) (w := gB_wk s e) (by rw [hq]; exact g4) g1 (t - p) (by omega)
      obtain ⟨a2, b2, d2, x2⟩ := gaR_2 (p := p) a g1 hlt (p - t) (by omega)
      refine ⟨a2, b2.tr b, d2.tr d, ?_⟩
      by_cases hpt : p ≤ t
      · rw [show p - t = 0 by omega]
        rw [show p + (t - p) = t by omega] at x
        exact x
      · rw [show p - (p - t) = t by omega] at x2
        rw [x2, show t - p = 0 by omega]; rfl
    have hans : gW_gk (gB_wk (bMove s e p t) e) t = gW_gk (gB_wk s e) p := by
      unfold bMove; rw [gsB_21]; exact (key (wS zR q) rfl).2.2.2
    have e1 := s_movGar hp.1 (by omega) he g1 g2 hlt hlt2
    rw [hans] at e1
    refine cmd_ok hp (nnI ((good.xO hb he).2 p hlt)) e1 fun r p2 h hq h1 h2 => ⟨wSh2 (wSh1 (rChg r p2) e p (t - p)) e p (p - t), ?_, ?_, ?_⟩
    · have := s_rmove (m := 463) (h := h) (by omega) h2 h1 he g1 (by rw [hq]; exact g3) hlt hlt2
      rw [hq, (g4 p hlt).1, i64_b] at this
      exact this
    all_goals obtain ⟨a, b, d, _⟩ := key (rChg r p2) (by rw [rChg_S, hq])
    · exact d.2
    · refine good.gm hb hs he b.1 b.2.1 b.2.2.1 b.2.2.2.1 b.2.2.2.2.2.1 b.2.2.2.2.2.2.1 (b.2.2.2.2.2.2.2 (good.xO hb he).2) (fun k hk => ?_) (g' := gs e) ⟨by omega, b.2.2.2.2.1.trans g2, ?_, a⟩
      · rw [d.1 k (by unfold rX at *; omega), rChg_S, hq]
      · rw [d.1 _ (by unfold rX; omega), rChg_S, hq]; exact g3
  · exact cmd_bad hp m1 (s_movGar_bad hp.1 (fun e he => ⟨(good.rE hb he).2.2.2.2.2.1.1, (good.rE hb he).2.2.2.2.2.1.2.1⟩) ok) fun r _ h hq _ _ => s_rmove_bad (fun e he => by rw [hq]; exact (good.rE hb he).2.2.2.2.2.1.2.2.1) ok
end
