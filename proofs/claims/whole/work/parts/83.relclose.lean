/-! THE RELATION after a closing -/
section
variable {w : tyW} {s : tyR} {r r2 : Rst} {q : Nat → Int64} {e n m : Nat} {D : Nat → Int64} {f : Int32} {g : Nat}
def okL7 (l : List Ln) : Prop := ∀ y, y ∈ l → okLn y ∧ y.1 ≠ nI 7
theorem okL7_nil : okL7 [] := fun y h => by cases h
theorem okL7_app {a b : List Ln} (h1 : okL7 a) (h2 : okL7 b) : okL7 (a ++ b) := fun y h => by
  rcases List.mem_append.mp h with h | h
  · exact h1 y h
  · exact h2 y h
theorem okL7_1 {k i re : Nat} (hk : k < 7) (hi : i < 12) (hre : re < 7) (x : Int64) : okL7 [(nI k, nI i, nI re, x)] := fun y h => by
  have := List.mem_singleton.mp h
  subst this
  refine ⟨⟨⟨k, by omega, rfl⟩, ⟨i, hi, rfl⟩, ⟨re, hre, rfl⟩⟩, fun h7 => ?_⟩
  have h8 : (nI k).toInt = (nI 7).toInt := congrArg Int32.toInt h7
  rw [nI_toInt (by omega), nI_toInt (by omega)] at h8
  omega
theorem okL7_pOwn (hm : m < 12) : ∀ k, k ≤ 4 → okL7 (pOwn D m k)
  | 0, _ => okL7_nil
  | k + 1, hk => okL7_app (okL7_pOwn hm k (by omega)) (okL7_1 (by omega) hm (by omega) _)
theorem pReason_bd (w : tyW) (m : Nat) (f : Int32) : ∃ re, re < 7 ∧ pReason w m f = nI re := by
  unfold pReason
  repeat' split
  · exact ⟨6, by omega, rfl⟩
  · exact ⟨5, by omega, rfl⟩
  · exact ⟨4, by omega, rfl⟩
  · exact ⟨3, by omega, rfl⟩
  · exact ⟨2, by omega, rfl⟩
  · exact ⟨1, by omega, rfl⟩
theorem okL7_pCor (hm : m < 12) {re : Nat} (hre : re < 7) : ∀ k, k ≤ 4 → okL7 (pCor w D m (nI re) k)
  | 0, _ => okL7_nil
  | k + 1, hk => by
    rw [pCor]
    refine okL7_app (okL7_pCor hm hre k (by omega)) ?_
    split
    · exact okL7_nil
    · exact okL7_1 (by omega) hm hre _
theorem okL7_pLs (hm : m < 12) : ∀ k, k ≤ 12 → okL7 (pLs w D m f k)
  | 0, _ => okL7_pOwn hm 4 (by omega)
  | k + 1, hk => by
    rw [pLs]
    obtain ⟨re, h1, h2⟩ := pReason_bd (pSetTo w D k) k f
    rw [h2]
    exact okL7_app (okL7_pLs hm k (by omega)) (okL7_pCor (by omega) h1 4 (by omega))
theorem pGRe_bd (x y z : Int64) : ∃ re, re < 7 ∧ pGRe x y z = nI re := by
  unfold pGRe
  repeat' split
  · exact ⟨4, by omega, rfl⟩
  · exact ⟨1, by omega, rfl⟩
  · exact ⟨2, by omega, rfl⟩
  · exact ⟨3, by omega, rfl⟩
theorem okL7_pGst (ab : Int64) : ∀ p, p ≤ 3 → okL7 (pGst w ab p).2.2
  | 0, _ => okL7_nil
  | p + 1, hp => by
    have ih := okL7_pGst ab p (by omega)
    rw [pGst]
    dsimp only
    split
    · dsimp only
      obtain ⟨re, h1, h2⟩ := pGRe_bd ((pGst w ab p).2.1 p - pMin (pMin (pWish w p ab) ((pGst w ab p).2.1 p)) (pGst w ab p).1) (pMin (pWish w p ab) ((pGst w ab p).2.1 p)) (pMin (pMin (pWish w p ab) ((pGst w ab p).2.1 p)) (pGst w ab p).1)
      rw [h2]
      exact okL7_app ih (okL7_1 (by omega) (by omega) h1 _)
    · exact ih
theorem okL7_pL4 (hm : m < 12) (hg : g ≤ 3) : okL7 (pL4 w D m f g) := by
  have h2 : okL7 (pL2 w D m f) := by
    unfold pL2
    split
    · exact okL7_pLs hm m (by omega)
    · exact okL7_app (okL7_pLs hm m (by omega)) (okL7_1 (by omega) (by omega) (by omega) _)
  have h3 : okL7 (pL3 w D m f g) := okL7_app h2 (okL7_pGst _ g hg)
  unfold pL4
  split
  · exact h3
  · exact okL7_app h3 (okL7_1 (by omega) (by omega) (by omega) _)
theorem okSl_pL5 (hm : m < 12) (hg : g ≤ 3) : okSl (pL5 w D m f g) := by
  have h4 := okL7_pL4 (w := w) (D := D) (f := f) hm hg
  refine ⟨⟨pL4 w D m f g, pSum (pL4 w D m f g), rfl, fun y hy => (h4 y hy).2⟩, fun y hy => ?_⟩
  unfold pL5 at hy
  rcases List.mem_append.mp hy with h | h
  · exact (h4 y h).1
  · have := List.mem_singleton.mp h
    subst this
    exact ⟨⟨7, by omega, rfl⟩, ⟨0, by omega, rfl⟩, ⟨0, by omega, rfl⟩⟩
theorem pDue_net (hr : RelR s q n) (ok : enOK w) (hm : m < 12) : pDue s n w 4 m = pDue s n w 0 m - pDue s n w 1 m - pDue s n w 2 m - pDue s n w 3 m := by
  unfold pDue
  simp only [pUpTo_J hr ok _ (show m + 1 ≤ 12 by omega), pUpTo_J hr ok _ (show m ≤ 12 by omega), J_sub]
  congr 1
  have a4 : ∀ X, amN (ruR s) (ruC s) (ruT s) (ruB s) n 4 X = amN (ruR s) (ruC s) (ruT s) (ruB s) n 0 X - amN (ruR s) (ruC s) (ruT s) (ruB s) n 1 X - amN (ruR s) (ruC s) (ruT s) (ruB s) n 2 X - amN (ruR s) (ruC s) (ruT s) (ruB s) n 3 X := fun _ => rfl
  rw [a4, a4]
  omega
theorem RelE_close {LS : Nat → List Ln} {sq : Nat} (hr : RelR s (rS r) n) (h : RelE w (rS r) e m g LS) (hm : m < 12) (p : rPosE r2 r e m n g w (pDD s n w) f) : RelE (wClo w (pDD s n w) m f g sq) (rS r2) e (m + 1) g (fun i => if i = m then pL5 w (pDD s n w) m f g else LS i) := by
  obtain ⟨h1, h2, h3, h4, h5, h6, h7, h8⟩ := h
  obtain ⟨p1, p2, p3, p4, p5⟩ := p
  have fr : ∀ j, j < 2751 → j ≠ 1 → (j < 38 ∨ 134 ≤ j) → j ≠ 138 → j ≠ 142 → j ≠ 146 → j ≠ 147 + m → (j < 159 + 4 * (54 * m) ∨ 159 + 4 * (54 * m + 54) ≤ j) → rS r2 (rX e j) = rS r (rX e j) := p5
  have hx : ∀ p j, rX e (135 + 4 * p) + j = rX e (135 + 4 * p + j) := fun p j => by unfold rX; omega
  refine ⟨fun k hk => ?_, h2, fun m2 hm2 => ?_, ?_, p3, ?_, fun m2 hm2 => ?_, fun m2 h9 h10 => ?_⟩
  · rw [fr _ (by omega) (by omega) (by omega) (by omega) (by omega) (by omega) (by omega) (by omega)]; exact h1 k hk
  · obtain ⟨a1, a2, a3, a4, -⟩ := p1 m2 hm2
    have am : ∀ i, i < 5 → gW_am (wClo w (pDD s n w) m f g sq) (i * 12 + m2) = pDD s n w (i * 12 + m2) := fun i hi => by
      show (if (i * 12 + m2) % 12 < m + 1 ∧ i * 12 + m2 < 60 then pDD s n w (i * 12 + m2) else gW_am w (i * 12 + m2)) = _
      rw [if_pos (by omega)]
    have se : ∀ i, i < 3 → gW_se (wClo w (pDD s n w) m f g sq) (i * 12 + m2) = gW_en w (i * 12 + m2) := fun i hi => by
      show (if (i * 12 + m2) % 12 < m + 1 ∧ i * 12 + m2 < 36 then gW_en w (i * 12 + m2) else gW_se w (i * 12 + m2)) = _
      rw [if_pos (by omega)]
    have am0 := am 0 (by omega)
    have am1 := am 1 (by omega)
    have am2 := am 2 (by omega)
    have am3 := am 3 (by omega)
    have am4 := am 4 (by omega)
    have se0 := se 0 (by omega)
    have se1 := se 1 (by omega)
    have se2 := se 2 (by omega)
    rw [show (0 : Nat) * 12 + m2 = m2 by omega] at am0 se0
    refine ⟨fun i hi => by rw [a1 i hi, am i (by omega)], ?_, ?_, ?_, ?_⟩
    · have d0 : pDD s n w m2 = pDue s n w 0 m2 := by
        have := pDD_at (s := s) (n := n) (w := w) (k := 0) (m := m2) (by omega) (by omega)
        rw [show 0 * 12 + m2 = m2 by omega] at this
        exact this
      rw [am4, am0, am1, am2, am3, d0, pDD_at (k := 4) (by omega) (by omega), pDD_at (k := 1) (by omega) (by omega), pDD_at (k := 2) (by omega) (by omega), pDD_at (k := 3) (by omega) (by omega)]
      exact pDue_net hr h2 (by omega)
    · rw [se0, a2]; exact h1 m2 (by omega)
    · rw [se1, a3]
      have := h1 (12 + m2) (by omega)
      rw [show 2 + (12 + m2) = 14 + m2 by omega] at this
      exact this
    · rw [se2, a4]
      have := h1 (24 + m2) (by omega)
      rw [show 2 + (24 + m2) = 26 + m2 by omega] at this
      exact this
  · rw [fr _ (by omega) (by omega) (by omega) (by omega) (by omega) (by omega) (by omega) (by omega)]; exact h4
  · refine ⟨h6.1, h6.2.1, ?_, fun k hk => ?_⟩
    · rw [fr _ (by omega) (by omega) (by omega) (by omega) (by omega) (by omega) (by omega) (by omega)]; exact h6.2.2.1
    · have hg3 := h6.1
      obtain ⟨b1, b2, b3, -⟩ := h6.2.2.2 k hk
      have b4 := p4 k hk
      rw [hx] at b4
      refine ⟨?_, ?_, ?_, b4⟩
      · rw [fr _ (by omega) (by omega) (by omega) (by omega) (by omega) (by omega) (by omega) (by omega)]; exact b1
      · rw [fr _ (by omega) (by omega) (by omega) (by omega) (by omega) (by omega) (by omega) (by omega)]; exact b2
      · rw [fr _ (by omega) (by omega) (by omega) (by omega) (by omega) (by omega) (by omega) (by omega)]; exact b3
  · by_cases c : m2 = m
    · subst c
      show qLines (rS r2) e m2 (if m2 = m2 then _ else _) ∧ okSl (if m2 = m2 then _ else _)
      rw [if_pos rfl]
      exact ⟨p2, okSl_pL5 hm h6.1⟩
    · show qLines (rS r2) e m2 (if m2 = m then _ else LS m2) ∧ okSl (if m2 = m then _ else LS m2)
      rw [if_neg c]
      obtain ⟨c1, c2⟩ := h7 m2 (by omega)
      refine ⟨?_, c2⟩
      refine ⟨?_, c1.2.1, fun i x hi => ?_⟩
      · rw [fr _ (by omega) (by omega) (by omega) (by omega) (by omega) (by omega) (by omega) (by omega)]; exact c1.1
      · have hlt : i < (LS m2).length := (List.getElem?_eq_some_iff.mp hi).1
        have hl := c1.2.1
        obtain ⟨d1, d2, d3, d4⟩ := c1.2.2 i x hi
        have hy : ∀ j, j < 4 → rS r2 (rLp e m2 i + j) = rS r (rLp e m2 i + j) := fun j hj => by
          rw [show rLp e m2 i + j = rX e (159 + 4 * (54 * m2 + i) + j) by unfold rLp rX; omega]
          exact fr _ (by omega) (by omega) (by omega) (by omega) (by omega) (by omega) (by omega) (by omega)
        exact ⟨(hy 0 (by omega)).trans d1, (hy 1 (by omega)).trans d2, (hy 2 (by omega)).trans d3, (hy 3 (by omega)).trans d4⟩
  · rw [fr _ (by omega) (by omega) (by omega) (by omega) (by omega) (by omega) (by omega) (by omega)]
    exact h8 m2 (by omega) h10
theorem flEq_close (p : rPosE r2 r e m n g w D f) (h2 : rS r2 2 = rS r 2) : flEq (nI 0) (rS r2) e (m + 1) := fun m2 hm2 => by
  obtain ⟨-, -, -, -, a5⟩ := p.1 m2 hm2
  rw [a5, h2]
  exact ⟨fun _ => rfl, fun _ => rfl⟩
end
