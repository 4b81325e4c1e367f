/-! A COMMAND on both sides: what it answers, what it leaves -/
section
theorem rgI {x : Int32} {n : Nat} (hn : n < 2 ^ 31) (h : nI 0 ≤ x ∧ x ≤ nI n) : 0 ≤ x.toInt ∧ x.toInt ≤ n := by
  have h0 := Int32.le_iff_toInt_le.mp h.1
  have h1 := Int32.le_iff_toInt_le.mp h.2
  rw [nI_toInt (by omega)] at h0
  rw [nI_toInt hn] at h1
  exact ⟨h0, h1⟩
theorem nnI {x : Int32} (h : 0 ≤ x.toInt) : nI 0 ≤ x := Int32.le_iff_toInt_le.mpr (by rw [nI_toInt (by omega)]; exact h)
theorem nnN {n : Nat} (h : n < 2 ^ 31) : nI 0 ≤ nI n := nnI (by rw [nI_toInt h]; omega)
def stepC (H' H : zH) (s' : tyB) : Prop := isB H' 101 37 (cB 101 s') ∧ (∃ du, isB H' 441 2 (cD 441 du)) ∧ H.1 ≤ H'.1 ∧ H'.1 ≤ H.1 + 9 ∧ H'.2.1 ≤ H.2.1 + 660 ∧ ∀ p, p < 100 + H.1 → (p < 101 ∨ 138 ≤ p) → (p < 441 ∨ 443 ≤ p) → H'.2.2 p = H.2.2 p
def CmdOK (H : zH) (q : Nat → Int64) (K : Nat) (cls : Option (Option Value × zH)) (ref : zH → Option (Option Value × zH)) : Prop :=
  ∃ v H' s', cls = some (some (.int v), H') ∧ stepC H' H s' ∧ (¬ nI 0 ≤ v → good H' s' q K) ∧ ∀ r p h, rS r = q → rPm r = nI p → p ≤ 6 → ∃ q', ref (putM 463 r h) = some (some (.int v), putM 463 (if nI 0 ≤ v then wS (rChg r p) q' else r) h) ∧ (nI 0 ≤ v → good H' s' q' (K + 1))
def preC (H : zH) (s : tyB) (q : Nat → Int64) (K : Nat) : Prop := isB H 101 37 (cB 101 s) ∧ (∃ du, isB H 441 2 (cD 441 du)) ∧ good H s q K ∧ K < 2 ^ 30 ∧ 472 ≤ 100 + H.1
variable {H : zH} {s : tyB} {q q' : Nat → Int64} {c n e g K : Nat} {gs : Nat → Nat} {w w' : tyW} {LS : Nat → Nat → List Ln}
theorem stepC.bk (hD : ∃ du, isB H 441 2 (cD 441 du)) (s' : tyB) : stepC (blk 101 37 (cB 101 s') H) H s' := ⟨blk_isB, by
  obtain ⟨du, h⟩ := hD
  exact ⟨du, isB_skip (by omega) h⟩, Nat.le_refl _, Nat.le_add_right _ _, Nat.le_add_right _ _, fun p _ h _ => blk_out (by omega)⟩
theorem frG_bk (s' : tyB) : frG (blk 101 37 (cB 101 s') H) H := ⟨Nat.le_refl _, fun p h1 _ _ => blk_out (by omega)⟩
theorem cmd_bad {v : Int32} {cls : Option (Option Value × zH)} {ref : zH → Option (Option Value × zH)} (hp : preC H s q K) (hv : ¬ nI 0 ≤ v) (h1 : cls = some (some (.int v), H)) (h2 : ∀ r p h, rS r = q → rPm r = nI p → p ≤ 6 → ref (putM 463 r h) = some (some (.int v), putM 463 r h)) : CmdOK H q K cls ref := by
  obtain ⟨a, b, c, d, e⟩ := hp
  refine ⟨v, H, s, h1, ⟨a, b, Nat.le_refl _, Nat.le_add_right _ _, Nat.le_add_right _ _, fun _ _ _ _ => rfl⟩, fun _ => c, fun r p h hr hp1 hp2 => ⟨q, ?_, fun x => absurd x hv⟩⟩
  rw [if_neg hv]; exact h2 r p h hr hp1 hp2
theorem cmd_ok {v : Int32} {s' : tyB} {cls : Option (Option Value × zH)} {ref : zH → Option (Option Value × zH)} (hp : preC H s q K) (hv : nI 0 ≤ v) (h1 : cls = some (some (.int v), blk 101 37 (cB 101 s') H)) (h2 : ∀ r p h, rS r = q → rPm r = nI p → p ≤ 6 → ∃ r', ref (putM 463 r h) = some (some (.int v), putM 463 r' h) ∧ r' = wS (rChg r p) (rS r') ∧ good H s' (rS r') (K + 1)) : CmdOK H q K cls ref := by
  obtain ⟨a, b, c, d, e⟩ := hp
  refine ⟨v, _, s', h1, stepC.bk b s', fun x => absurd hv x, fun r p h hr hp1 hp2 => ?_⟩
  obtain ⟨r', h3, h4, h5⟩ := h2 r p h hr hp1 hp2
  refine ⟨rS r', ?_, fun _ => h5.fr (frG_bk s')⟩
  rw [if_pos hv, ← h4]; exact h3
theorem RelB.wk {g' : Nat} {L' : Nat → List Ln} (h : RelB s q c n gs LS K) (he : e < 3) (hq : ∀ k, k < 8271 → (k < rX e 0 ∨ rX e 2751 ≤ k) → q' k = q k) (hq2 : ∀ k, 122 ≤ k → k < 134 → q' (rX e k) = q (rX e k)) (hw : RelE w' q' e c g' L') (hx : exOK w' g') : RelB (sB_w s e w') q' c n (fun i => if i = e then g' else gs i) (fun i => if i = e then L' else LS i) K := by
  obtain ⟨⟨h1, h2, h3, h4, h5⟩, h6, h7, h8, h9⟩ := h
  have z2 : q' 2 = q 2 := hq 2 (by omega) (Or.inl (by unfold rX; omega))
  refine ⟨⟨h1, h2, (hq 0 (by omega) (Or.inl (by unfold rX; omega))).trans h3, by rw [hq 1 (by omega) (Or.inl (by unfold rX; omega))]; exact h4, h5⟩, h6.fr fun k _ _ => hq k (by omega) (Or.inl (by unfold rX; omega)), fun i hi => ?_, by rw [z2]; exact h8, h9⟩
  obtain ⟨a, b, d, x⟩ := h7 i hi
  by_cases hie : i = e
  · subst hie
    refine ⟨?_, b.fr h1 z2 hq2, d.fr h1 z2 hq2, ?_⟩
    · dsimp only
      rw [if_pos rfl, if_pos rfl, gsB_21]; exact hw
    · dsimp only
      rw [if_pos rfl, gsB_21]; exact hx
  · have z : ∀ k, k < 2751 → q' (rX i k) = q (rX i k) := fun k hk => hq _ (by unfold rX; omega) (by unfold rX; omega)
    refine ⟨?_, b.fr h1 z2 fun k _ _ => z k (by omega), d.fr h1 z2 fun k _ _ => z k (by omega), ?_⟩
    · dsimp only
      rw [if_neg hie, if_neg hie]
      show RelE (if i = e then w' else gB_wk s i) _ _ _ _ _
      rw [if_neg hie]; exact a.fr h1 z
    · dsimp only
      rw [if_neg hie]
      show exOK (if i = e then w' else gB_wk s i) _
      rw [if_neg hie]; exact x
theorem good.wk (h : RelB s q c n gs LS K) (hs : ∀ e, e < 3 → slB H (gB_wk s e) c (LS e)) (he : e < 3) {g' : Nat} (hsl : gW_sl w' = gW_sl (gB_wk s e)) (hq : ∀ k, k < 8271 → (k < rX e 0 ∨ rX e 2751 ≤ k) → q' k = q k) (hq2 : ∀ k, 122 ≤ k → k < 134 → q' (rX e k) = q (rX e k)) (hw : RelE w' q' e c g' (LS e)) (hx : exOK w' g') : good H (sB_w s e w') q' (K + 1) := by
  refine good.up (K := K) ⟨c, n, _, _, h.wk he hq hq2 hw hx, fun i hi => ?_⟩ (by omega)
  by_cases hie : i = e
  · subst hie
    rw [if_pos rfl, gsB_21]
    refine ⟨fun m hm => ?_, fun m h1 h2 => ?_⟩
    · rw [hsl]; exact (hs i hi).1 m hm
    · rw [hsl]; exact (hs i hi).2 m h1 h2
  · rw [if_neg hie]
    show slB H (if i = e then w' else gB_wk s i) _ _
    rw [if_neg hie]; exact hs i hi
theorem RelE.en {en : Nat → Int32} {L : Nat → List Ln} (hc : c ≤ 12) (h : RelE w q e c g L) (hq : ∀ k, k < 2751 → (k < 2 ∨ 38 ≤ k) → q' (rX e k) = q (rX e k)) (h1 : enEq (sW_en w en) q' e) (h2 : enOK (sW_en w en)) : RelE (sW_en w en) q' e c g L := by
  obtain ⟨_, _, h3, h4, h5, h6, h7⟩ := h
  exact ⟨h1, h2, h3.fr hc fun k _ _ => hq k (by omega) (by omega), (hq _ (by omega) (by omega)).trans h4, (hq _ (by omega) (by omega)).trans h5, h6.fr fun k _ _ => hq k (by omega) (by omega), liEq.fr hc h7 fun k _ _ => hq k (by omega) (by omega)⟩
theorem rX_inj {e a b : Nat} (h : rX e a = rX e b) : a = b := by unfold rX at h; omega
end
