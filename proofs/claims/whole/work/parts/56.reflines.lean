/-! THE REFERENCE: the lines of a month as a list -/
def rLines (r : Rst) (e mo : Nat) (l : List Ln) : Prop := rS r (rX e (147 + mo)) = (nI l.length).toInt64 ∧ l.length ≤ 54 ∧ ∀ (i : Nat) (x : Ln), l[i]? = some x → rS r (rLp e mo i) = x.1.toInt64 ∧ rS r (rLp e mo i + 1) = x.2.1.toInt64 ∧ rS r (rLp e mo i + 2) = x.2.2.1.toInt64 ∧ rS r (rLp e mo i + 3) = x.2.2.2
/-- only numbers of a month's lines have changed -/
def rOut (r2 r : Rst) (e mo : Nat) : Prop := r2 = wS r (rS r2) ∧ ∀ q, q ≠ rX e (147 + mo) → (q < rLp e mo 0 ∨ rLp e mo 54 ≤ q) → rS r2 q = rS r q
theorem nI_succ64 {c : Nat} (hc : c < 1000) : (nI c).toInt64 + 1 = (nI (c + 1)).toInt64 := by
  rw [nI_l (by omega), nI_l (by omega)]
  apply Int64.toInt_inj.mp
  rw [Int64.toInt_add, lN_toInt (by omega), lN_toInt (by omega)]
  have : (1 : Int64).toInt = 1 := rfl
  rw [this]
  rw [Int.bmod_eq_of_le (by omega) (by omega)]
  omega
theorem rLines_add {r : Rst} {e mo : Nat} {l : List Ln} (hmo : mo < 12) (hL : rLines r e mo l) (hl : l.length < 54) (x : Ln) : rLines (wLine r e mo l.length x.1 x.2.1 x.2.2.1 x.2.2.2) e mo (l ++ [x]) := by
  obtain ⟨h1, h2, h3⟩ := hL
  refine ⟨?_, by rw [List.length_append]; simp; omega, fun i y hi => ?_⟩
  · rw [List.length_append]
    show (if rX e (147 + mo) = rX e (147 + mo) then (if rX e (147 + mo) = rLp e mo l.length + 3 then _ else if rX e (147 + mo) = rLp e mo l.length + 2 then _ else if rX e (147 + mo) = rLp e mo l.length + 1 then _ else if rX e (147 + mo) = rLp e mo l.length then _ else rS r (rX e (147 + mo))) + 1 else _) = _
    unfold rLp rX at *
    rw [if_pos rfl, if_neg (by omega), if_neg (by omega), if_neg (by omega), if_neg (by omega), h1]
    exact nI_succ64 (by omega)
  · have key : ∀ q, rS (wLine r e mo l.length x.1 x.2.1 x.2.2.1 x.2.2.2) q = if q = rX e (147 + mo) then rS (wLine r e mo l.length x.1 x.2.1 x.2.2.1 x.2.2.2) (rX e (147 + mo)) else if q = rLp e mo l.length + 3 then x.2.2.2 else if q = rLp e mo l.length + 2 then x.2.2.1.toInt64 else if q = rLp e mo l.length + 1 then x.2.1.toInt64 else if q = rLp e mo l.length then x.1.toInt64 else rS r q := by
      intro q
      by_cases c : q = rX e (147 + mo)
      · rw [if_pos c, c]
      · rw [if_neg c]
        exact if_neg c
    by_cases c : i < l.length
    · rw [List.getElem?_append_left c] at hi
      obtain ⟨k1, k2, k3, k4⟩ := h3 i y hi
      unfold rLp rX at *
      refine ⟨?_, ?_, ?_, ?_⟩ <;> (rw [key, if_neg (by omega), if_neg (by omega), if_neg (by omega), if_neg (by omega), if_neg (by omega)]; assumption)
    · have hle : i < (l ++ [x]).length := (List.getElem?_eq_some_iff.mp hi).1
      rw [List.length_append] at hle
      have hi2 : i = l.length := by simp at hle; omega
      subst hi2
      rw [List.getElem?_append_right (Nat.le_refl _), Nat.sub_self] at hi
      cases hi
      unfold rLp rX at *
      refine ⟨?_, ?_, ?_, ?_⟩
      · rw [key, if_neg (by omega), if_neg (by omega), if_neg (by omega), if_neg (by omega), if_pos rfl]
      · rw [key, if_neg (by omega), if_neg (by omega), if_neg (by omega), if_pos rfl]
      · rw [key, if_neg (by omega), if_neg (by omega), if_pos rfl]
      · rw [key, if_neg (by omega), if_pos rfl]
