/-! THE REFERENCE: all due lines of a month -/
theorem pCor_to (w : tyW) (D : Nat → Int64) (e : Nat) (he : e < 12) (re : Int32) (k : Nat) : pCor (pSetTo w D e) D e re k = pCor w D e re k := by
  have h1 : ∀ k, pDiff (pSetTo w D e) D e k = pDiff w D e k := fun k => by
    unfold pDiff
    show D (k * 12 + e) - (if (k * 12 + e) % 12 < e ∧ k * 12 + e < 60 then D (k * 12 + e) else gW_am w (k * 12 + e)) = _
    rw [if_neg (by omega)]
  induction k with
  | zero => rfl
  | succ k ih => rw [pCor, pCor, ih, h1]
theorem pReason_to (w : tyW) (D : Nat → Int64) (e : Nat) (he : e < 12) (f : Int32) : pReason (pSetTo w D e) e f = pReason w e f := by
  have h1 : ∀ q, q % 12 = e → gW_se (pSetTo w D e) q = gW_se w q := fun q hq => by
    show (if q % 12 < e ∧ q < 36 then gW_en w q else gW_se w q) = _
    rw [if_neg (by omega)]
  unfold pReason
  rw [h1 e (by omega), h1 (12 + e) (by omega), h1 (24 + e) (by omega)]
  rfl
/-- the due lines, without the class's state -/
def qLs (w : tyW) (D : Nat → Int64) (m : Nat) (re : Nat → Int32) : Nat → List Ln
  | 0 => pOwn D m 4
  | e + 1 => qLs w D m re e ++ pCor w D e (re e) 4
theorem qLs_eq (w : tyW) (D : Nat → Int64) (m : Nat) (f : Int32) : ∀ e, e ≤ 12 → pLs w D m f e = qLs w D m (fun e => pReason w e f) e
  | 0, _ => rfl
  | e + 1, he => by rw [pLs, qLs, qLs_eq w D m f e (by omega), pCor_to w D e (by omega), pReason_to w D e (by omega)]
theorem qLs_len (w : tyW) (D : Nat → Int64) (m : Nat) (re : Nat → Int32) (e : Nat) : (qLs w D m re e).length ≤ 4 + 4 * e := by
  induction e with
  | zero => rw [qLs, pOwn_len]; omega
  | succ e ih =>
    have := pCor_len w D e (re e) 4
    rw [qLs, List.length_append]; omega
