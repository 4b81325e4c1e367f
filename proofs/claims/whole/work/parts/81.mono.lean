/-! ARITHMETIC: the net pay never falls; halving finds what searching finds -/
section
variable {s : tyR} {q : Nat → Int64} {n : Nat} {X Y T U : Int}
def muN (th : Nat → Int) (n : Nat) (k : Nat) (T : Int) : Int := if k < n then (if 1000 * th k < T then 1000 * th k else T) else T
theorem ptN_mu (h : RelR s q n) {k : Nat} (hk : k < n) : ptN (ruT s) (ruB s) n T k = ruB s k * (muN (ruT s) n (k + 1) T - muN (ruT s) n k T) := by
  have key : ∀ u, toN (ruT s) n T k = u → muN (ruT s) n (k + 1) T = u → 1000 * ruT s k < u ∨ u = T → ptN (ruT s) (ruB s) n T k = ruB s k * (muN (ruT s) n (k + 1) T - muN (ruT s) n k T) := by
    intro u h1 h2 h3
    unfold ptN
    rw [h1, h2]
    congr 1
    unfold muN
    rw [if_pos hk]
    by_cases f : 1000 * ruT s k < u
    · rw [if_pos f]
      by_cases g : 1000 * ruT s k < T
      · rw [if_pos g]
      · rw [if_neg g]
        by_cases c : k + 1 < n
        · have hlt := h.2.2.2.2.2 k c
          unfold toN at h1
          by_cases d : k + 1 < n ∧ 1000 * ruT s (k + 1) < T
          · omega
          · rw [if_neg d] at h1; omega
        · unfold toN at h1
          rw [if_neg (fun x => c x.1)] at h1; omega
    · rw [if_neg f]
      rcases h3 with h3 | h3
      · exact absurd h3 f
      · subst h3
        rw [if_neg f]; omega
  by_cases c : k + 1 < n
  · have hlt := h.2.2.2.2.2 k c
    by_cases d : 1000 * ruT s (k + 1) < T
    · exact key (1000 * ruT s (k + 1)) (if_pos ⟨c, d⟩) ((if_pos c).trans (if_pos d)) (Or.inl (by omega))
    · exact key T (if_neg (fun x => d x.2)) ((if_pos c).trans (if_neg d)) (Or.inr rfl)
  · exact key T (if_neg (fun x => c x.1)) (if_neg c) (Or.inr rfl)
theorem mu_up {k : Nat} (h : RelR s q n) (hk : k < n) (hTU : T ≤ U) : 0 ≤ (muN (ruT s) n (k + 1) U - muN (ruT s) n k U) - (muN (ruT s) n (k + 1) T - muN (ruT s) n k T) := by
  unfold muN
  by_cases c : k + 1 < n
  · have hlt := h.2.2.2.2.2 k c
    rw [if_pos hk, if_pos c, if_pos hk, if_pos c]
    split <;> split <;> split <;> split <;> omega
  · rw [if_pos hk, if_neg c, if_pos hk, if_neg c]
    split <;> split <;> omega
theorem txN_up (h : RelR s q n) (hTU : T ≤ U) : ∀ k, k ≤ n → txN (ruT s) (ruB s) n U k - txN (ruT s) (ruB s) n T k ≤ 999 * (muN (ruT s) n k U - muN (ruT s) n k T)
  | 0, _ => by
    show (0 : Int) - 0 ≤ _
    unfold muN
    by_cases c : 0 < n
    · rw [if_pos c, if_pos c]
      split <;> split <;> omega
    · rw [if_neg c, if_neg c]; omega
  | k + 1, hk => by
    have ih := txN_up h hTU k (by omega)
    have hb := (h.2.2.2.2.1 k (by omega)).2.2.2
    have hd := mu_up (T := T) (U := U) h (show k < n by omega) hTU
    rw [txN, txN, ptN_mu h (by omega), ptN_mu h (by omega)]
    have e1 : ruB s k * (muN (ruT s) n (k + 1) U - muN (ruT s) n k U) - ruB s k * (muN (ruT s) n (k + 1) T - muN (ruT s) n k T) = ruB s k * ((muN (ruT s) n (k + 1) U - muN (ruT s) n k U) - (muN (ruT s) n (k + 1) T - muN (ruT s) n k T)) := (Int.mul_sub _ _ _).symm
    have e2 := (mul_bd hb.1 hb.2 hd (Int.le_refl _)).2
    omega
theorem cN_up {ra ca : Int} (h1 : 0 ≤ ra ∧ ra ≤ 499) (hXY : X ≤ Y) : cN ra ca Y - cN ra ca X ≤ 499 * (Y - X) := by
  unfold cN
  have e1 : ∀ u v : Int, ra * u - ra * v = ra * (u - v) := fun u v => (Int.mul_sub _ _ _).symm
  rw [e1]
  by_cases c : Y < ca
  · rw [if_pos c, if_pos (by omega)]
    exact (mul_bd h1.1 h1.2 (show 0 ≤ Y - X by omega) (Int.le_refl _)).2
  · rw [if_neg c]
    by_cases d : X < ca
    · rw [if_pos d]
      have := (mul_bd h1.1 h1.2 (show 0 ≤ ca - X by omega) (show ca - X ≤ Y - X by omega)).2
      omega
    · rw [if_neg d, Int.sub_self, Int.mul_zero]; omega
theorem net_up (h : RelR s q n) (hXY : X ≤ Y) : amN (ruR s) (ruC s) (ruT s) (ruB s) n 4 X ≤ amN (ruR s) (ruC s) (ruT s) (ruB s) n 4 Y := by
  obtain ⟨a1, a2, a3, a4, a5⟩ := h.2.2.2.1 0 (by omega)
  obtain ⟨b1, b2, b3, b4, b5⟩ := h.2.2.2.1 1 (by omega)
  have h1 := cN_up (ca := ruC s 0) a3 hXY
  have h2 := cN_up (ca := ruC s 1) b3 hXY
  have hT : tN (ruR s) (ruC s) X ≤ tN (ruR s) (ruC s) Y := by unfold tN; omega
  have h3 := txN_up h hT n (Nat.le_refl _)
  have h4 : ∀ T, muN (ruT s) n n T = T := fun T => if_neg (Nat.lt_irrefl n)
  rw [h4, h4] at h3
  show X * 1000000 - _ - _ - _ ≤ Y * 1000000 - _ - _ - _
  unfold tN at hT h3 ⊢
  omega
end
/-- the linear search -/
def pLin (low : Nat → Bool) : Nat → Nat → Nat
  | 0, x => x
  | f + 1, x => if low x = true then pLin low f (x + 1) else x
theorem pLin_at (low : Nat → Bool) : ∀ f x, x ≤ pLin low f x ∧ pLin low f x ≤ x + f ∧ (∀ y, x ≤ y → y < pLin low f x → low y = true) ∧ (pLin low f x < x + f → low (pLin low f x) = false)
  | 0, x => ⟨Nat.le_refl _, Nat.le_refl _, fun y h1 h2 => absurd h2 (by show ¬ y < x; omega), fun h => absurd h (by show ¬ x < x + 0; omega)⟩
  | f + 1, x => by
    rw [pLin]
    by_cases c : low x = true
    · rw [if_pos c]
      obtain ⟨a1, a2, a3, a4⟩ := pLin_at low f (x + 1)
      refine ⟨by omega, by omega, fun y h1 h2 => ?_, fun h => a4 (by omega)⟩
      by_cases d : y = x
      · rw [d]; exact c
      · exact a3 y (by omega) h2
    · rw [if_neg c]
      exact ⟨Nat.le_refl _, by omega, fun y h1 h2 => absurd h2 (by omega), fun _ => by simpa using c⟩
theorem pHal_lin (low : Nat → Bool) (hm : ∀ x y, x ≤ y → y ≤ 9999 → low y = true → low x = true) : pHal low 14 0 = pLin low 10000 0 := by
  obtain ⟨-, a2, a3, a4⟩ := pLin_at low 10000 0
  generalize pLin low 10000 0 = p at a2 a3 a4
  have key : ∀ k tl, tl ≤ p → p < tl + 2 ^ k → pHal low k tl = p := by
    intro k
    induction k with
    | zero =>
      intro tl h1 h2
      rw [pHal]
      omega
    | succ k ih =>
      intro tl h1 h2
      have hp : 0 < 2 ^ k := Nat.two_pow_pos k
      have hpp : 2 ^ (k + 1) = 2 ^ k + 2 ^ k := by rw [Nat.pow_succ]; omega
      rw [hpp] at h2
      rw [pHal]
      by_cases c : tl + 2 ^ k - 1 ≤ 9999 ∧ low (tl + 2 ^ k - 1) = true
      · rw [if_pos c]
        refine ih _ ?_ (by omega)
        apply Classical.byContradiction
        intro d
        have hp1 : p ≤ tl + 2 ^ k - 1 := by omega
        have h3 := hm p _ hp1 c.1 c.2
        rw [a4 (by omega)] at h3
        exact absurd h3 (by decide)
      · rw [if_neg c]
        refine ih _ h1 ?_
        apply Classical.byContradiction
        intro d
        by_cases f : tl + 2 ^ k - 1 ≤ 9999
        · exact c ⟨f, a3 _ (by omega) (by omega)⟩
        · omega
  exact key 14 0 (by omega) (by have : (2 : Nat) ^ 14 = 16384 := by decide
                                omega)
