/-! THE REFERENCE: what was settled, as numbers -/
theorem wAt_eq (r : Rst) (k : Nat) (x : Int64) : rS (wAt r k x) k = x := if_pos rfl
theorem wAt_ne {r : Rst} {k q : Nat} {x : Int64} (h : q ≠ k) : rS (wAt r k x) q = rS r q := if_neg h
section
variable {m e n mo ng : Nat} {r r2 r3 : Rst} {h : zH} {l : List Ln} {w : tyW} {f : Int32}
theorem wSet_at {k j : Nat} (hk : k < j) : rS (wSet r n e mo j) (rX e (38 + 4 * mo + k)) = rDue r n e mo k := by
  induction j with
  | zero => omega
  | succ j ih =>
    rw [wSet]
    by_cases c : k = j
    · subst c; exact wAt_eq _ _ _
    · rw [wAt_ne (by unfold rX; omega)]; exact ih (by omega)
theorem wSet_ne {q : Nat} (j : Nat) (hq : q < rX e (38 + 4 * mo) ∨ rX e (38 + 4 * mo + j) ≤ q) : rS (wSet r n e mo j) q = rS r q := by
  induction j with
  | zero => rfl
  | succ j ih =>
    rw [wSet, wAt_ne (by unfold rX at *; omega)]
    exact ih (by unfold rX at *; omega)
theorem wOld_ne {q : Nat} (h1 : q ≠ rX e (86 + mo)) (h2 : q ≠ rX e (98 + mo)) (h3 : q ≠ rX e (110 + mo)) (h4 : q ≠ rX e (122 + mo)) : rS (wOld r e mo) q = rS r q := by
  unfold wOld
  dsimp only
  rw [wAt_ne h4, wAt_ne h3, wAt_ne h2, wAt_ne h1]
theorem wOld_at (hmo : mo < 12) : rS (wOld r e mo) (rX e (86 + mo)) = rS r (rX e (2 + mo)) ∧ rS (wOld r e mo) (rX e (98 + mo)) = rS r (rX e (14 + mo)) ∧ rS (wOld r e mo) (rX e (110 + mo)) = rS r (rX e (26 + mo)) ∧ rS (wOld r e mo) (rX e (122 + mo)) = rS r 2 := by
  unfold wOld
  dsimp only
  refine ⟨?_, ?_, ?_, ?_⟩
  · rw [wAt_ne (by unfold rX; omega), wAt_ne (by unfold rX; omega), wAt_ne (by unfold rX; omega), wAt_eq]
  · rw [wAt_ne (by unfold rX; omega), wAt_ne (by unfold rX; omega), wAt_eq, wAt_ne (by unfold rX; omega)]
  · rw [wAt_ne (by unfold rX; omega), wAt_eq, wAt_ne (by unfold rX; omega), wAt_ne (by unfold rX; omega)]
  · rw [wAt_eq, wAt_ne (by unfold rX; omega), wAt_ne (by unfold rX; omega), wAt_ne (by unfold rX; omega)]
/-- the months before k are settled with the dues D -/
def rStd (r2 r : Rst) (e k : Nat) (D : Nat → Int64) : Prop := (∀ m2, m2 < k → (∀ i, i < 4 → rS r2 (rX e (38 + 4 * m2 + i)) = D (i * 12 + m2)) ∧ rS r2 (rX e (86 + m2)) = rS r (rX e (2 + m2)) ∧ rS r2 (rX e (98 + m2)) = rS r (rX e (14 + m2)) ∧ rS r2 (rX e (110 + m2)) = rS r (rX e (26 + m2)) ∧ rS r2 (rX e (122 + m2)) = rS r 2)
theorem wAt_S (r : Rst) (k : Nat) (x : Int64) : wAt r k x = wS r (rS (wAt r k x)) := rfl
theorem wS_tr {a b c : Rst} (h1 : a = wS b (rS a)) (h2 : b = wS c (rS b)) : a = wS c (rS a) := by
  rw [h2] at h1; exact h1
theorem wSet_S (j : Nat) : wSet r n e mo j = wS r (rS (wSet r n e mo j)) := by
  induction j with
  | zero => rfl
  | succ j ih => exact wS_tr (wAt_S _ _ _) ih
theorem wStl_std {D : Nat → Int64} (hn : n ≤ 5) : ∀ k, k ≤ 12 → (∀ i m2, i < 4 → m2 < k → rDue r n e m2 i = D (i * 12 + m2)) → rStd (wStl r n e k) r e k D ∧ (∀ q, q < rX e 38 ∨ rX e 134 ≤ q → rS (wStl r n e k) q = rS r q) ∧ wStl r n e k = wS r (rS (wStl r n e k)) := by
  intro k
  induction k with
  | zero => intro _ _; exact ⟨fun m2 h => absurd h (Nat.not_lt_zero _), fun _ _ => rfl, rfl⟩
  | succ k ih =>
    intro hk hD
    obtain ⟨a, b, c⟩ := ih (by omega) (fun i m2 h1 h2 => hD i m2 h1 (by omega))
    refine ⟨fun m2 h2 => ?_, fun q hq => ?_, ?_⟩
    · rw [wStl, wSettle]
      by_cases c1 : m2 = k
      · subst c1
        obtain ⟨o1, o2, o3, o4⟩ := wOld_at (r := wSet (wStl r n e m2) n e m2 4) (e := e) (mo := m2) (by omega)
        have fr := (wSet_fr (r := wStl r n e m2) (n := n) (e := e) (mo := m2) 4).tr (wStl_fr r n e m2)
        refine ⟨fun i hi => ?_, ?_, ?_, ?_, ?_⟩
        · rw [wOld_ne (by unfold rX; omega) (by unfold rX; omega) (by unfold rX; omega) (by unfold rX; omega), wSet_at hi, rDue_fr (wStl_fr r n e m2) hn (by omega)]
          exact hD i m2 hi (by omega)
        · rw [o1]; exact fr.2 _ (by omega) (by omega)
        · rw [o2]; exact fr.2 _ (by omega) (by omega)
        · rw [o3]; exact fr.2 _ (by omega) (by omega)
        · rw [o4, wSet_ne 4 (Or.inl (by unfold rX; omega))]
          exact b 2 (Or.inl (by unfold rX; omega))
      · have h3 : m2 < k := by omega
        obtain ⟨a1, a2, a3, a4, a5⟩ := a m2 h3
        refine ⟨fun i hi => ?_, ?_, ?_, ?_, ?_⟩
        · rw [wOld_ne (by unfold rX; omega) (by unfold rX; omega) (by unfold rX; omega) (by unfold rX; omega), wSet_ne 4 (Or.inl (by unfold rX; omega))]
          exact a1 i hi
        all_goals (rw [wOld_ne (by unfold rX; omega) (by unfold rX; omega) (by unfold rX; omega) (by unfold rX; omega), wSet_ne 4 (Or.inr (by unfold rX; omega))]; assumption)
    · rw [wStl, wSettle, wOld_ne (by unfold rX at *; omega) (by unfold rX at *; omega) (by unfold rX at *; omega) (by unfold rX at *; omega), wSet_ne 4 (by unfold rX at *; omega)]
      exact b q hq
    · exact wS_tr (show wOld (wSet (wStl r n e k) n e k 4) e k = wS (wSet (wStl r n e k) n e k 4) (rS (wOld (wSet (wStl r n e k) n e k 4) e k)) from rfl) (wS_tr (wSet_S 4) c)
end
