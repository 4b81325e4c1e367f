/-! COMMANDS on salaries, days, bonuses, floors -/
section
variable {H : zH} {s : tyB} {q q' : Nat → Int64} {c n e g K : Nat} {gs : Nat → Nat} {w w' : tyW} {LS : Nat → Nat → List Ln} {r : Rst}
theorem wSal_at {x : Int64} {mo : Nat} : ∀ j k, rS (wSal r e x mo j) k = if rX e (2 + mo) ≤ k ∧ k < rX e (2 + mo) + j then x else rS r k
  | 0, k => by rw [if_neg (by omega)]; rfl
  | j + 1, k => by
    show rS (wAt (wSal r e x mo j) (rX e (2 + (mo + j))) x) k = _
    by_cases h : k = rX e (2 + (mo + j))
    · rw [h, wAt_eq, if_pos (by unfold rX; omega)]
    · rw [wAt_ne h, wSal_at j k]
      by_cases h2 : rX e (2 + mo) ≤ k ∧ k < rX e (2 + mo) + j
      · rw [if_pos h2, if_pos (by omega)]
      · rw [if_neg h2, if_neg (by unfold rX at *; omega)]
theorem wSal_S {x : Int64} {mo : Nat} : ∀ j, wSal r e x mo j = wS r (rS (wSal r e x mo j))
  | 0 => rfl
  | j + 1 => wS_tr (wAt_S _ _ _) (wSal_S j)
theorem m1 : ¬ nI 0 ≤ (-1 : Int32) := by decide
theorem m2 : ¬ nI 0 ≤ (-2 : Int32) := by decide
theorem m3 : ¬ nI 0 ≤ (-3 : Int32) := by decide
theorem good.rE {c n : Nat} {gs : Nat → Nat} (h : RelB s q c n gs LS K) (he : e < 3) : RelE (gB_wk s e) q e c (gs e) (LS e) := (h.2.2.1 e he).1
theorem good.xO {c n : Nat} {gs : Nat → Nat} (h : RelB s q c n gs LS K) (he : e < 3) : exOK (gB_wk s e) (gs e) := (h.2.2.1 e he).2.2.2
theorem cmd_sal (hp : preC H s q K) (x y z : Int32) : CmdOK H q K (ev 22 [.ref 101, .int x, .int y, .int z] H) (fun h => ev 203 [.ref 463, .int x, .int y, .int z] h) := by
  by_cases ok : (nI 0 ≤ x ∧ x ≤ nI 2) ∧ (nI 0 ≤ y ∧ y ≤ nI 11) ∧ (nI 0 ≤ z ∧ z ≤ nI 9999)
  · obtain ⟨e, he, rfl⟩ := in_nI (by omega) ok.1.1 ok.1.2
    obtain ⟨mo, hmo, rfl⟩ := in_nI (by omega) ok.2.1.1 ok.2.1.2
    obtain ⟨c, n, gs, LS, hb, hs⟩ := hp.2.2.1
    have hE := good.rE hb (show e < 3 by omega)
    have hc := hb.1.1
    have hr := rgI (by omega) ok.2.2
    refine cmd_ok hp (nnI (hE.2.1 mo (by omega)).1.1) (s_chSal hp.1 (by omega) (by omega) (by omega) ok.2.2) fun r p h hq h1 h2 => ⟨wSal (rChg r p) e z.toInt64 mo (12 - mo), ?_, wSal_S _, ?_⟩
    · have := s_rsalary (m := 463) (r := r) (h := h) (by omega) h2 h1 (show e < 3 by omega) (show mo < 12 by omega) ok.2.2
      rw [hq, hE.1 mo (by omega), i64_b] at this
      exact this
    · have hat : ∀ k, rS (wSal (rChg r p) e z.toInt64 mo (12 - mo)) k = if rX e (2 + mo) ≤ k ∧ k < rX e (2 + mo) + (12 - mo) then z.toInt64 else q k := fun k => by rw [wSal_at, rChg_S, hq]
      refine good.wk hb hs (show e < 3 by omega) rfl (fun k _ h => ?_) (fun k h1 h2 => ?_) (hE.en hc (fun k _ h => ?_) (fun k hk => ?_) fun k hk => ?_) (good.xO hb (show e < 3 by omega)) (g' := gs e)
      · rw [hat, if_neg (by unfold rX at *; omega)]
      · rw [hat, if_neg (by unfold rX; omega)]
      · rw [hat, if_neg (by unfold rX; omega)]
      · rw [hat]
        show _ = (if mo ≤ k ∧ k < 12 then z else gW_en (gB_wk s e) k).toInt64
        by_cases h : mo ≤ k ∧ k < 12
        · rw [if_pos h, if_pos (by unfold rX; omega)]
        · rw [if_neg h, if_neg (by unfold rX; omega)]; exact hE.1 k hk
      · obtain ⟨a, b, d⟩ := hE.2.1 k hk
        refine ⟨?_, ?_, ?_⟩
        · show 0 ≤ (if mo ≤ k ∧ k < 12 then z else gW_en (gB_wk s e) k).toInt ∧ _
          change _ ∧ (if mo ≤ k ∧ k < 12 then z else gW_en (gB_wk s e) k).toInt ≤ _
          by_cases h : mo ≤ k ∧ k < 12
          · rw [if_pos h]; omega
          · rw [if_neg h]; exact a
        · show 0 ≤ (if mo ≤ 12 + k ∧ 12 + k < 12 then z else gW_en (gB_wk s e) (12 + k)).toInt ∧ (if mo ≤ 12 + k ∧ 12 + k < 12 then z else gW_en (gB_wk s e) (12 + k)).toInt ≤ _
          rw [if_neg (by omega)]; exact b
        · show 0 ≤ (if mo ≤ 24 + k ∧ 24 + k < 12 then z else gW_en (gB_wk s e) (24 + k)).toInt ∧ (if mo ≤ 24 + k ∧ 24 + k < 12 then z else gW_en (gB_wk s e) (24 + k)).toInt ≤ _
          rw [if_neg (by omega)]; exact d
  · exact cmd_bad hp m1 (s_chSal_bad ok) fun r _ h _ _ _ => s_rsalary_bad ok
theorem cmd_ent {r : Rst} {p mo j M : Nat} {z : Int32} (hb : RelB s q c n gs LS K) (hs : ∀ e, e < 3 → slB H (gB_wk s e) c (LS e)) (he : e < 3) (hq : rS r = q) (hj : (j = 12 ∧ M = 30) ∨ (j = 24 ∧ M = 9999)) (hmo : mo < 12) (hr : 0 ≤ z.toInt ∧ z.toInt ≤ M) : good H (bEnt s e (j + mo) z) (rS (wAt (rChg r p) (rX e (2 + (j + mo))) z.toInt64)) (K + 1) := by
  have hE := good.rE hb he
  have hc := hb.1.1
  have hat : ∀ k, k ≠ rX e (2 + (j + mo)) → rS (wAt (rChg r p) (rX e (2 + (j + mo))) z.toInt64) k = q k := fun k hk => by rw [wAt_ne hk, rChg_S, hq]
  have hup : ∀ k, gW_en (sW_en (gB_wk s e) (upd (gW_en (gB_wk s e)) (j + mo) z)) k = if k = j + mo then z else gW_en (gB_wk s e) k := fun k => rfl
  refine good.wk hb hs he rfl (fun k _ h => hat k (by unfold rX at *; omega)) (fun k h1 h2 => hat _ (by unfold rX; omega)) (hE.en hc (fun k _ h => hat _ (by unfold rX; omega)) (fun k hk => ?_) fun k hk => ?_) (good.xO hb (show e < 3 by omega)) (g' := gs e)
  · rw [hup]
    by_cases h : k = j + mo
    · rw [if_pos h, h, wAt_eq]
    · rw [if_neg h, hat _ (by unfold rX; omega)]; exact hE.1 k hk
  · obtain ⟨a, b, d⟩ := hE.2.1 k hk
    rw [hup, hup, hup]
    refine ⟨?_, ?_, ?_⟩
    · rw [if_neg (by omega)]; exact a
    · by_cases h : 12 + k = j + mo
      · rw [if_pos h]; omega
      · rw [if_neg h]; exact b
    · by_cases h : 24 + k = j + mo
      · rw [if_pos h]; omega
      · rw [if_neg h]; exact d
theorem cmd_day (hp : preC H s q K) (x y z : Int32) : CmdOK H q K (ev 30 [.ref 101, .int x, .int y, .int z] H) (fun h => ev 210 [.ref 463, .int x, .int y, .int z] h) := by
  by_cases ok : (nI 0 ≤ x ∧ x ≤ nI 2) ∧ (nI 0 ≤ y ∧ y ≤ nI 11) ∧ (nI 0 ≤ z ∧ z ≤ nI 30)
  · obtain ⟨e, he, rfl⟩ := in_nI (by omega) ok.1.1 ok.1.2
    obtain ⟨mo, hmo, rfl⟩ := in_nI (by omega) ok.2.1.1 ok.2.1.2
    obtain ⟨c, n, gs, LS, hb, hs⟩ := hp.2.2.1
    have hE := good.rE hb (show e < 3 by omega)
    have hr := rgI (by omega) ok.2.2
    refine cmd_ok hp (nnI (hE.2.1 mo (by omega)).2.1.1) (s_chDays hp.1 (by omega) (by omega) (by omega) ok.2.2) fun r p h hq h1 h2 => ⟨wAt (rChg r p) (rX e (2 + (12 + mo))) z.toInt64, ?_, wAt_S _ _ _, cmd_ent hb hs (by omega) hq (Or.inl ⟨rfl, rfl⟩) (by omega) hr⟩
    have := s_rdays (m := 463) (r := r) (h := h) (by omega) h2 h1 (show e < 3 by omega) (show mo < 12 by omega) ok.2.2
    rw [hq, show 14 + mo = 2 + (12 + mo) by omega, hE.1 (12 + mo) (by omega), i64_b] at this
    exact this
  · exact cmd_bad hp m1 (s_chDays_bad ok) fun r _ h _ _ _ => s_rdays_bad ok
theorem cmd_bon (hp : preC H s q K) (x y z : Int32) : CmdOK H q K (ev 32 [.ref 101, .int x, .int y, .int z] H) (fun h => ev 211 [.ref 463, .int x, .int y, .int z] h) := by
  by_cases ok : (nI 0 ≤ x ∧ x ≤ nI 2) ∧ (nI 0 ≤ y ∧ y ≤ nI 11) ∧ (nI 0 ≤ z ∧ z ≤ nI 9999)
  · obtain ⟨e, he, rfl⟩ := in_nI (by omega) ok.1.1 ok.1.2
    obtain ⟨mo, hmo, rfl⟩ := in_nI (by omega) ok.2.1.1 ok.2.1.2
    obtain ⟨c, n, gs, LS, hb, hs⟩ := hp.2.2.1
    have hE := good.rE hb (show e < 3 by omega)
    have hr := rgI (by omega) ok.2.2
    refine cmd_ok hp (nnI (hE.2.1 mo (by omega)).2.2.1) (s_chBonus hp.1 (by omega) (by omega) (by omega) ok.2.2) fun r p h hq h1 h2 => ⟨wAt (rChg r p) (rX e (2 + (24 + mo))) z.toInt64, ?_, wAt_S _ _ _, cmd_ent hb hs (by omega) hq (Or.inr ⟨rfl, rfl⟩) (by omega) hr⟩
    have := s_rbonus (m := 463) (r := r) (h := h) (by omega) h2 h1 (show e < 3 by omega) (show mo < 12 by omega) ok.2.2
    rw [hq, show 26 + mo = 2 + (24 + mo) by omega, hE.1 (24 + mo) (by omega), i64_b] at this
    exact this
  · exact cmd_bad hp m1 (s_chBonus_bad ok) fun r _ h _ _ _ => s_rbonus_bad ok
end
