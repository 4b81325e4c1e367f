/-! THE REFERENCE: what was settled, as numbers -/
theorem wAt_eq (r : Rst) (k : Nat) (x : Int64) : rS (wAt r k x) k = x := if_pos rfl
theorem wAt_ne {r : Rst} {k q : Nat} {x : Int64} (h : q ≠ k) : rS (wAt r k x) q = rS r q := if_neg h
section
variable {m e n mo ng : Nat} {r r2 r3 : Rst} {h : zH} {l : List Ln} {w : tyW} {f : Int32}
theorem wSet_at {k j : Nat} (hk : k < j) : rS (wSet r n e mo j) (rX e (38 + 4 * mo + k)) = rDue r n e mo k := by
  induction j with
  | zero => omega
  | succ j ih =>
    rw [wSet]
    by_cases c : k = j
    · subst c; exact wAt_eq _ _ _
    · rw [wAt_ne (by unfold rX; omega)]; exact ih (by omega)
theorem wSet_ne {q : Nat} (j : Nat) (hq : q < rX e (38 + 4 * mo) ∨ rX e (38 + 4 * mo + j) ≤ q) : rS (wSet r n e mo j) q = rS r q := by
  induction j with
  | zero => rfl
  | succ j ih =>
    rw [wSet, wAt_ne (by unfold rX at *; omega)]
    exact ih (by unfold rX at *; omega)
theorem wOld_ne {q : Nat} (h1 : q ≠ rX e (86 + mo)) (h2 : q ≠ rX e (98 + mo)) (h3 : q ≠ rX e (110 + mo)) (h4 : q ≠ rX e (122 + mo)) : rS (wOld r e mo) q = rS r q := by
  unfold wOld
  dsimp only
  rw [wAt_ne h4, wAt_ne h3, wAt_ne h2, wAt_ne h1]
theorem wOld_at (hmo : mo < 12) : rS (wOld r e mo) (rX e (86 + mo)) = rS r (rX e (2 + mo)) ∧ rS (wOld r e mo) (rX e (98 + mo)) = rS r (rX e (14 + mo)) ∧ rS (wOld r e mo) (rX e (110 + mo)) = rS r (rX e (26 + mo)) ∧ rS (wOld r e mo) (rX e (122 + mo)) = rS r 2 := by
  unfold wOld
  dsimp only
  refine ⟨?_, ?_, ?_, ?_⟩
  · rw [wAt_ne (by unfold rX; omega), wAt_ne (by unfold rX; omega), wAt_ne (by unfold rX; omega), wAt_eq]
  · rw [wAt_ne (by unfold rX; omega), wAt_ne (by unfold rX; omega), wAt_eq, wAt_ne (by unfold rX; omega)]
  · rw [wAt_ne (by unfold rX; omega), wAt_eq, wAt_ne (by unfold rX; omega), wAt_ne (by unfold rX; omega)]
  · rw [wAt_eq, wAt_ne (by unfold rX; omega), wAt_ne (by unfold rX; omega), wAt_ne (by unfold rX; omega)]
/-- the months before k are settled with the dues D -/
def rStd (r2 r : Rst) (e k : Nat) (D : Nat → Int64) : Prop := (∀ m2, m2 < k → (∀ i, i < 4 → rS r2 (rX e (38 + 4 * m2 + i)) = D (i * 12 + m2)) ∧ rS r2 (rX e (86 + m2)) = rS r (rX e (2 + m2)) ∧ rS r2 (rX e (98 + m2)) = rS r (rX e (14 + m2)) ∧ rS r2 (rX e (110 + m2)) = rS r (rX e (26 + m2)) ∧ rS r2 (rX e (122 + m2)) = rS r 2)
theorem wAt_S (r : Rst) (k : Nat) (x : Int64) : wAt r k x = wS r (rS (wAt r k x)) := rfl
theorem wS_tr {a b c : Rst} (h1 : a = wS b (rS a)) (h2 : b = wS c (rS b)) : a = wS c (rS a) := by
  rw [h2] at h1; exact h1
theorem wSet_S (j : Nat) : wSet r n e mo j = wS r (rS (wSet r n e mo j)) := by
  induction j with
  | zero => rfl
  | succ j ih => exact wS_tr (wAt_S _ _ _) ih
theorem wOld_S (r : Rst) (e mo : Nat) : wOld r e mo = wS r (rS (wOld r e mo)) := by
  unfold wOld
  dsimp only
  exact wS_tr (wAt_S _ _ _) (wS_tr (wAt_S _ _ _) (wS_tr (wAt_S _ _ _) (wAt_S _ _ _)))
theorem wSettle_S : wSettle r n e mo = wS r (rS (wSettle r n e mo)) := wS_tr (wOld_S _ e mo) (wSet_S 4)
theorem wSettle_ne {q : Nat} (hmo : mo < 12) (hq : q < rX e 38 ∨ rX e 134 ≤ q) : rS (wSettle r n e mo) q = rS r q := by
  have h1 : q ≠ rX e (86 + mo) := by unfold rX at *; omega
  have h2 : q ≠ rX e (98 + mo) := by unfold rX at *; omega
  have h3 : q ≠ rX e (110 + mo) := by unfold rX at *; omega
  have h4 : q ≠ rX e (122 + mo) := by unfold rX at *; omega
  have h5 : q < rX e (38 + 4 * mo) ∨ rX e (38 + 4 * mo + 4) ≤ q := by unfold rX at *; omega
  rw [wSettle, wOld_ne h1 h2 h3 h4, wSet_ne 4 h5]
theorem wSettle_mo {m2 : Nat} {w2 : Nat} (hmo : mo < 12) (hm2 : m2 < 12) (hne : m2 ≠ mo) (hw : (38 + 4 * m2 ≤ w2 ∧ w2 < 38 + 4 * m2 + 4) ∨ w2 = 86 + m2 ∨ w2 = 98 + m2 ∨ w2 = 110 + m2 ∨ w2 = 122 + m2) : rS (wSettle r n e mo) (rX e w2) = rS r (rX e w2) := by
  have h1 : rX e w2 ≠ rX e (86 + mo) := by unfold rX; omega
  have h2 : rX e w2 ≠ rX e (98 + mo) := by unfold rX; omega
  have h3 : rX e w2 ≠ rX e (110 + mo) := by unfold rX; omega
  have h4 : rX e w2 ≠ rX e (122 + mo) := by unfold rX; omega
  have h5 : rX e w2 < rX e (38 + 4 * mo) ∨ rX e (38 + 4 * mo + 4) ≤ rX e w2 := by unfold rX; omega
  rw [wSettle, wOld_ne h1 h2 h3 h4, wSet_ne 4 h5]
theorem wSettle_at (hmo : mo < 12) : (∀ i, i < 4 → rS (wSettle r n e mo) (rX e (38 + 4 * mo + i)) = rDue r n e mo i) ∧ rS (wSettle r n e mo) (rX e (86 + mo)) = rS r (rX e (2 + mo)) ∧ rS (wSettle r n e mo) (rX e (98 + mo)) = rS r (rX e (14 + mo)) ∧ rS (wSettle r n e mo) (rX e (110 + mo)) = rS r (rX e (26 + mo)) ∧ rS (wSettle r n e mo) (rX e (122 + mo)) = rS r 2 := by
  obtain ⟨o1, o2, o3, o4⟩ := wOld_at (r := wSet r n e mo 4) (e := e) (mo := mo) hmo
  have fr := wSet_fr (r := r) (n := n) (e := e) (mo := mo) 4
  refine ⟨fun i hi => ?_, o1.trans (fr.2 _ (by omega) (by omega)), o2.trans (fr.2 _ (by omega) (by omega)), o3.trans (fr.2 _ (by omega) (by omega)), o4.trans (wSet_ne 4 (Or.inl (by unfold rX; omega)))⟩
  have h1 : rX e (38 + 4 * mo + i) ≠ rX e (86 + mo) := by unfold rX; omega
  have h2 : rX e (38 + 4 * mo + i) ≠ rX e (98 + mo) := by unfold rX; omega
  have h3 : rX e (38 + 4 * mo + i) ≠ rX e (110 + mo) := by unfold rX; omega
  have h4 : rX e (38 + 4 * mo + i) ≠ rX e (122 + mo) := by unfold rX; omega
  rw [wSettle, wOld_ne h1 h2 h3 h4, wSet_at hi]
theorem wStl_S (k : Nat) : wStl r n e k = wS r (rS (wStl r n e k)) := by
  induction k with
  | zero => rfl
  | succ k ih => exact wS_tr wSettle_S ih
theorem wStl_ne {q : Nat} (k : Nat) (hk : k ≤ 12) (hq : q < rX e 38 ∨ rX e 134 ≤ q) : rS (wStl r n e k) q = rS r q := by
  induction k with
  | zero => rfl
  | succ k ih => rw [wStl, wSettle_ne (by omega) hq]; exact ih (by omega)
theorem wStl_std {D : Nat → Int64} (hn : n ≤ 5) : ∀ k, k ≤ 12 → (∀ i m2, i < 4 → m2 < k → rDue r n e m2 i = D (i * 12 + m2)) → rStd (wStl r n e k) r e k D := by
  intro k
  induction k with
  | zero => intro _ _ m2 h; exact absurd h (Nat.not_lt_zero _)
  | succ k ih =>
    intro hk hD m2 h2
    rw [wStl]
    by_cases c1 : m2 = k
    · subst c1
      obtain ⟨a1, a2, a3, a4, a5⟩ := wSettle_at (r := wStl r n e m2) (n := n) (e := e) (mo := m2) (by omega)
      have fr := wStl_fr r n e m2
      refine ⟨fun i hi => ?_, a2.trans (fr.2 _ (by omega) (by omega)), a3.trans (fr.2 _ (by omega) (by omega)), a4.trans (fr.2 _ (by omega) (by omega)), a5.trans (wStl_ne m2 (by omega) (Or.inl (by unfold rX; omega)))⟩
      rw [a1 i hi, rDue_fr fr hn (by omega)]
      exact hD i m2 hi (by omega)
    · obtain ⟨a1, a2, a3, a4, a5⟩ := ih (by omega) (fun i m2 h1 h2 => hD i m2 h1 (by omega)) m2 (by omega)
      have k12 : k < 12 := by omega
      have m12 : m2 < 12 := by omega
      exact ⟨fun i hi => (wSettle_mo k12 m12 c1 (Or.inl ⟨by omega, by omega⟩)).trans (a1 i hi), (wSettle_mo k12 m12 c1 (Or.inr (Or.inl rfl))).trans a2, (wSettle_mo k12 m12 c1 (Or.inr (Or.inr (Or.inl rfl)))).trans a3, (wSettle_mo k12 m12 c1 (Or.inr (Or.inr (Or.inr (Or.inl rfl))))).trans a4, (wSettle_mo k12 m12 c1 (Or.inr (Or.inr (Or.inr (Or.inr rfl))))).trans a5⟩
end
