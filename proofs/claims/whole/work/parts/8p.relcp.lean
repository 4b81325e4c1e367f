/-! COPIES keep the relation -/
section
def agW (w' w : tyW) : Prop := (∀ k, k < 36 → gW_en w' k = gW_en w k ∧ gW_se w' k = gW_se w k) ∧ (∀ k, k < 60 → gW_am w' k = gW_am w k) ∧ (∀ k, k < 12 → gW_sl w' k = gW_sl w k) ∧ (∀ p, p < 3 → gW_gk w' p = gW_gk w p ∧ gW_gs w' p = gW_gs w p ∧ gW_gd w' p = gW_gd w p ∧ gW_gr w' p = gW_gr w p) ∧ gW_gc w' = gW_gc w ∧ gW_fl w' = gW_fl w ∧ gW_ow w' = gW_ow w
def agR (s' s : tyR) : Prop := (∀ k, k < 2 → gR_ra s' k = gR_ra s k ∧ gR_ca s' k = gR_ca s k) ∧ (∀ k, k < 5 → gR_th s' k = gR_th s k ∧ gR_br s' k = gR_br s k) ∧ gR_bn s' = gR_bn s
theorem cpy0 {α : Type} (g1 g2 : Nat → α) {n k : Nat} (hk : k < n) : va_cpy g1 g2 0 0 n k = g1 k := by
  show (if 0 ≤ k ∧ k < 0 + n then g1 (0 + (k - 0)) else g2 k) = _
  rw [if_pos (by omega), Nat.zero_add, Nat.sub_zero]
theorem agW_cp (s t : tyW) : agW (pCpW s t) t := ⟨fun k hk => ⟨cpy0 _ _ hk, cpy0 _ _ hk⟩, fun k hk => cpy0 _ _ hk, fun k hk => if_pos hk, fun p hp => ⟨cpy0 _ _ hp, cpy0 _ _ hp, cpy0 _ _ hp, cpy0 _ _ hp⟩, rfl, rfl, rfl⟩
theorem agR_cp (s t : tyR) : agR (pCpR s t) t := ⟨fun k hk => ⟨cpy0 _ _ hk, cpy0 _ _ hk⟩, fun k hk => ⟨cpy0 _ _ hk, cpy0 _ _ hk⟩, rfl⟩
variable {H H' : zH} {s t : tyB} {q q' : Nat → Int64} {c n e g K : Nat} {gs : Nat → Nat} {w w' : tyW} {LS : Nat → List Ln} {f : Int32}
theorem RelR.ag {s s' : tyR} (a : agR s' s) (h : RelR s q n) : RelR s' q n := by
  obtain ⟨h1, h2, h3, h4, h5, h6⟩ := h
  refine ⟨h1, a.2.2.trans h2, h3, fun k hk => ?_, fun k hk => ?_, fun k hk => ?_⟩
  · unfold ruR ruC
    rw [(a.1 k hk).1, (a.1 k hk).2]; exact h4 k hk
  · unfold ruT ruB
    rw [(a.2.1 k (by omega)).1, (a.2.1 k (by omega)).2]; exact h5 k hk
  · unfold ruT
    rw [(a.2.1 k (by omega)).1, (a.2.1 (k + 1) (by omega)).1]; exact h6 k hk
theorem RelE.ag (hc : c ≤ 12) (a : agW w' w) (h : RelE w q e c g LS) : RelE w' q e c g LS := by
  obtain ⟨h1, h2, h3, h4, h5, h6, h7⟩ := h
  refine ⟨fun k hk => ?_, fun k hk => ?_, fun m hm => ?_, ?_, ?_, ⟨h6.1, a.2.2.2.2.1.trans h6.2.1, h6.2.2.1, fun p hp => ?_⟩, h7⟩
  · rw [(a.1 k hk).1]; exact h1 k hk
  · rw [(a.1 k (by omega)).1, (a.1 (12 + k) (by omega)).1, (a.1 (24 + k) (by omega)).1]; exact h2 k hk
  · obtain ⟨b1, b2, b3, b4, b5⟩ := h3 m hm
    refine ⟨fun i hi => ?_, ?_, ?_, ?_, ?_⟩
    · rw [a.2.1 _ (by omega)]; exact b1 i hi
    · rw [a.2.1 _ (by omega), a.2.1 m (by omega), a.2.1 (12 + m) (by omega), a.2.1 (24 + m) (by omega), a.2.1 (36 + m) (by omega)]; exact b2
    · rw [(a.1 m (by omega)).2]; exact b3
    · rw [(a.1 (12 + m) (by omega)).2]; exact b4
    · rw [(a.1 (24 + m) (by omega)).2]; exact b5
  · rw [a.2.2.2.2.2.1]; exact h4
  · rw [a.2.2.2.2.2.2]; exact h5
  · have := h6.1
    obtain ⟨b1, b2, b3, b4⟩ := a.2.2.2.1 p (by omega)
    rw [b1, b2, b3, b4]; exact h6.2.2.2 p hp
theorem exOK.ag (hg : g ≤ 3) (a : agW w' w) (h : exOK w g) : exOK w' g := ⟨by rw [a.2.2.2.2.2.1]; exact h.1, fun p hp => by rw [(a.2.2.2.1 p (by omega)).1]; exact h.2 p hp⟩
theorem slB.ag (hc : c ≤ 12) (a : agW w' w) (h : slB H w c LS) : slB H w' c LS := ⟨fun m hm => by
  rw [a.2.2.1 m (by omega)]; exact h.1 m hm, fun m h1 h2 => by rw [a.2.2.1 m h1]; exact h.2 m h1 h2⟩
theorem good.cp (s : tyB) (h : good H t q K) : good H (pCpB s t) q K := by
  obtain ⟨c, n, gs, LS, ⟨⟨h1, h2, h3, h4, h5⟩, h6, h7, h8⟩, h9⟩ := h
  have z : ∀ e, e < 3 → agW (gB_wk (pCpB s t) e) (gB_wk t e) := fun e he => by
    show agW (if e < 3 then pCpW (gB_wk s e) (gB_wk t e) else gB_wk s e) _
    rw [if_pos he]; exact agW_cp _ _
  exact ⟨c, n, gs, LS, ⟨⟨h1, h2, h3, h4, h5⟩, h6.ag (agR_cp _ _), fun e he => ⟨(h7 e he).1.ag h1 (z e he), (h7 e he).2.1, (h7 e he).2.2.1, (h7 e he).2.2.2.ag (h7 e he).1.2.2.2.2.2.1.1 (z e he)⟩, h8⟩, fun e he => (h9 e he).ag h1 (z e he)⟩
end
