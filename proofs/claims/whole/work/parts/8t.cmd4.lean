/-! COMMANDS on brackets -/
section
variable {H : zH} {s : tyB} {q q' : Nat → Int64} {c n e g K : Nat} {gs : Nat → Nat} {w w' : tyW} {LS : Nat → Nat → List Ln} {r : Rst}
theorem brOk_iff {s : tyR} {t x : Int32} (h : RelR s (rS r) n) : ((pLT s n ≤ t ∧ t ≤ nI 99999) ∧ (nI 0 ≤ x ∧ x ≤ nI 999)) ↔ rBrOk r n t x := by
  unfold rBrOk pLT
  by_cases h0 : n = 0
  · subst h0
    rw [if_pos rfl]
    exact ⟨fun ⟨a, b⟩ => ⟨a, b, fun x => absurd x.1 (by omega)⟩, fun ⟨a, b, _⟩ => ⟨a, b⟩⟩
  · rw [if_neg h0]
    obtain ⟨x1, _, x3, _⟩ := h.2.2.2.2.1 (n - 1) (by omega)
    obtain ⟨k, hk, e⟩ := toI (n := 99999) (by omega) x3.1 x3.2
    rw [x1, e, nI_add, i64_le]
    have hle : nI (k + 1) ≤ t ↔ ((k : Int) + 1 ≤ t.toInt) := by
      rw [Int32.le_iff_toInt_le, nI_toInt (by omega)]
      omega
    have hle2 : t ≤ nI k ↔ t.toInt ≤ (k : Int) := by rw [Int32.le_iff_toInt_le, nI_toInt (by omega)]
    have hle0 : nI 0 ≤ t ↔ (0 : Int) ≤ t.toInt := by
      rw [Int32.le_iff_toInt_le, nI_toInt (by omega)]
      omega
    rw [hle, hle2, hle0]
    exact ⟨fun ⟨a, b⟩ => ⟨⟨by omega, a.2⟩, b, fun x => by omega⟩, fun ⟨a, b, d⟩ => ⟨⟨by omega, a.2⟩, b⟩⟩
theorem wBra_S {p : Nat} {t x : Int32} : wBra r p n t x = wS (rChg r p) (rS (wBra r p n t x)) := wS_tr (wAt_S _ _ _) (wS_tr (wAt_S _ _ _) (wRule_S _ _))
theorem wBra_at {p : Nat} {t x : Int32} (hq : rS r = q) (hn : n < 5) : rS (wBra r p n t x) 2 = q 2 + 1 ∧ rS (wBra r p n t x) 7 = (nI (n + 1)).toInt64 ∧ rS (wBra r p n t x) (8 + n) = t.toInt64 ∧ rS (wBra r p n t x) (13 + n) = x.toInt64 ∧ ∀ j, j ≠ 2 → j ≠ 7 → j ≠ 8 + n → j ≠ 13 + n → rS (wBra r p n t x) j = q j := by
  obtain ⟨a1, a2, a3⟩ := wRule_at (r := rChg r p) (x := (nI (n + 1)).toInt64) (show 7 ≠ 2 by omega)
  rw [rChg_S, hq] at a1
  unfold wBra
  refine ⟨?_, ?_, ?_, wAt_eq _ _ _, fun j h1 h2 h3 h4 => ?_⟩
  · rw [wAt_ne (by omega), wAt_ne (by omega), a1]
  · rw [wAt_ne (by omega), wAt_ne (by omega), a2]
  · rw [wAt_ne (by omega), wAt_eq]
  · rw [wAt_ne h4, wAt_ne h3, a3 j h1 h2, rChg_S, hq]
theorem cmd_bra (hp : preC H s q K) (t x : Int32) : CmdOK H q K (ev 40 [.ref 101, .int t, .int x] H) (fun h => ev 216 [.ref 463, .int t, .int x] h) := by
  obtain ⟨c, n, gs, LS, hb, hs⟩ := hp.2.2.1
  have hR := hb.2.1
  by_cases ok : (pLT (gB_ru s) n ≤ t ∧ t ≤ nI 99999) ∧ (nI 0 ≤ x ∧ x ≤ nI 999)
  · have e1 := s_addBra hp.1 (by omega) hR.1 hR.2.1 ok.1 ok.2
    by_cases h5 : n = 5
    · rw [if_pos h5] at e1
      refine cmd_bad hp m3 e1 fun r p h hq h1 h2 => ?_
      have hR2 : RelR (gB_ru s) (rS r) n := by rw [hq]; exact hR
      have := s_rbracket (m := 463) (h := h) (by omega) h2 h1 hR.1 hR2.2.2.1 ((brOk_iff hR2).mp ok)
      rw [if_pos h5] at this
      exact this
    · rw [if_neg h5] at e1
      refine cmd_ok hp (nnN (by have := hR.1; omega)) e1 fun r p h hq h1 h2 => ⟨wBra r p n t x, ?_, wBra_S, ?_⟩
      · have hR2 : RelR (gB_ru s) (rS r) n := by rw [hq]; exact hR
        have := s_rbracket (m := 463) (h := h) (by omega) h2 h1 hR.1 hR2.2.2.1 ((brOk_iff hR2).mp ok)
        rw [if_neg h5] at this
        exact this
      · have hn := hR.1
        obtain ⟨a1, a2, a3, a4, a5⟩ := wBra_at (r := r) (p := p) (t := t) (x := x) hq (show n < 5 by omega)
        have hr := rgI (by omega) ok.2
        have ok2 := (brOk_iff (r := wS r q) (t := t) (x := x) hR).mp ok
        have ht := rgI (by omega) ok2.1
        have uth : ∀ k, gR_th (gB_ru (bBra s n t x)) k = if k = n then t else gR_th (gB_ru s) k := fun k => rfl
        have ubr : ∀ k, gR_br (gB_ru (bBra s n t x)) k = if k = n then x else gR_br (gB_ru s) k := fun k => rfl
        refine good.ru (s' := gB_ru (bBra s n t x)) hb hs hp.2.2.2.1 (n' := n + 1) ⟨by omega, rfl, a2, fun k hk => ?_, fun k hk => ?_, fun k hk => ?_⟩ (a5 0 (by omega) (by omega) (by omega) (by omega)) (a5 1 (by omega) (by omega) (by omega) (by omega)) a1 fun k hk => a5 k (by omega) (by omega) (by omega) (by omega)
        · rw [a5 _ (by omega) (by omega) (by omega) (by omega), a5 _ (by omega) (by omega) (by omega) (by omega)]
          exact hR.2.2.2.1 k hk
        · unfold ruT ruB
          rw [uth, ubr]
          by_cases hkn : k = n
          · subst hkn
            rw [if_pos rfl, if_pos rfl, a3, a4]
            exact ⟨rfl, rfl, ht, hr⟩
          · rw [if_neg hkn, if_neg hkn, a5 _ (by omega) (by omega) (by omega) (by omega), a5 _ (by omega) (by omega) (by omega) (by omega)]
            exact hR.2.2.2.2.1 k (by omega)
        · unfold ruT
          rw [uth, uth, if_neg (by omega)]
          by_cases hkn : k + 1 = n
          · rw [if_pos hkn]
            have h3 := ok2.2.2
            have h4 := (hR.2.2.2.2.1 k (by omega)).1
            have h5 : ¬ t ≤ gR_th (gB_ru s) k := fun hle => h3 ⟨by omega, by
              show t.toInt64 ≤ q (8 + (n - 1))
              rw [show n - 1 = k by omega, h4, i64_le]; exact hle⟩
            have := Int32.not_le.mp h5
            exact Int32.lt_iff_toInt_lt.mp this
          · rw [if_neg hkn]; exact hR.2.2.2.2.2 k (by omega)
  · exact cmd_bad hp m1 (s_addBra_bad hp.1 hR.1 hR.2.1 ok) fun r _ h hq _ _ => s_rbracket_bad hR.1 (by rw [hq]; exact hR.2.2.1) fun x => ok ((brOk_iff (by rw [hq]; exact hR)).mpr x)
theorem wClr_at : ∀ j, j ≤ 10 → ∀ k, rS (wClr r j) k = if 8 ≤ k ∧ k < 8 + j then 0 else rS r k
  | 0, _, k => by rw [if_neg (by omega)]; rfl
  | j + 1, hj, k => by
    show rS (wAt (wClr r j) (8 + j) 0) k = _
    by_cases h : k = 8 + j
    · rw [h, wAt_eq, if_pos (by omega)]
    · rw [wAt_ne h, wClr_at j (by omega) k]
      by_cases h2 : 8 ≤ k ∧ k < 8 + j
      · rw [if_pos h2, if_pos (by omega)]
      · rw [if_neg h2, if_neg (by omega)]
theorem wClr_S : ∀ j, wClr r j = wS r (rS (wClr r j))
  | 0 => rfl
  | j + 1 => wS_tr (wAt_S _ _ _) (wClr_S j)
theorem cmd_clr (hp : preC H s q K) : CmdOK H q K (ev 43 [.ref 101] H) (fun h => ev 217 [.ref 463] h) := by
  obtain ⟨c, n, gs, LS, hb, hs⟩ := hp.2.2.1
  have hR := hb.2.1
  refine cmd_ok hp (by rw [hR.2.1]; exact nnN (by have := hR.1; omega)) (s_remBra hp.1 (by omega)) fun r p h hq h1 h2 => ⟨wClr (wRule (rChg r p) 7 (nI 0).toInt64) 10, ?_, wS_tr (wClr_S 10) (wRule_S _ _), ?_⟩
  · have := s_rclear (m := 463) (r := r) (h := h) (by omega) h2 h1
    rw [hq, hR.2.2.1, i64_b, ← hR.2.1] at this
    exact this
  · obtain ⟨a1, a2, a3⟩ := wRule_at (r := rChg r p) (x := (nI 0).toInt64) (show 7 ≠ 2 by omega)
    rw [rChg_S, hq] at a1
    have hat : ∀ k, k ≠ 2 → k ≠ 7 → (k < 8 ∨ 18 ≤ k) → rS (wClr (wRule (rChg r p) 7 (nI 0).toInt64) 10) k = q k := fun k h1 h2 h3 => by rw [wClr_at 10 (by omega), if_neg (by omega), a3 k h1 h2, rChg_S, hq]
    refine good.ru (s' := gB_ru (bRem s)) hb hs hp.2.2.2.1 (n' := 0) ⟨by omega, rfl, ?_, fun k hk => ?_, fun k hk => by omega, fun k hk => by omega⟩ (hat 0 (by omega) (by omega) (by omega)) (hat 1 (by omega) (by omega) (by omega)) ?_ fun k hk => hat k (by omega) (by omega) (by omega)
    · rw [wClr_at 10 (by omega), if_neg (by omega), a2]
    · rw [hat _ (by omega) (by omega) (by omega), hat _ (by omega) (by omega) (by omega)]
      exact hR.2.2.2.1 k hk
    · rw [wClr_at 10 (by omega), if_neg (by omega), a1]
end
