/-! THE REFERENCE: what dues depend on; settling a month -/
def rFr (r2 r : Rst) (e : Nat) : Prop := (∀ q, 3 ≤ q → q < 18 → rS r2 q = rS r q) ∧ ∀ w, 2 ≤ w → w < 38 → rS r2 (rX e w) = rS r (rX e w)
section
variable {m e n : Nat} {r r2 : Rst} {h : zH}
theorem rFr.rf (r : Rst) (e : Nat) : rFr r r e := ⟨fun _ _ _ => rfl, fun _ _ _ => rfl⟩
theorem rFr.tr {r3 : Rst} (a : rFr r3 r2 e) (b : rFr r2 r e) : rFr r3 r e := ⟨fun q h1 h2 => (a.1 q h1 h2).trans (b.1 q h1 h2), fun w h1 h2 => (a.2 w h1 h2).trans (b.2 w h1 h2)⟩
theorem rFr.at {k : Nat} {x : Int64} (h1 : 18 ≤ k) (h2 : k < rX e 2 ∨ rX e 38 ≤ k) : rFr (wAt r k x) r e := by
  refine ⟨fun q q1 q2 => ?_, fun w w1 w2 => ?_⟩
  · show (if q = k then x else rS r q) = _
    rw [if_neg (by omega)]
  · show (if rX e w = k then x else rS r (rX e w)) = _
    unfold rX at h2 ⊢
    rw [if_neg (by omega)]
theorem rG_fr (f : rFr r2 r e) : ∀ k, k ≤ 12 → rG r2 e k = rG r e k
  | 0, _ => rfl
  | k + 1, hk => by
    rw [rG, rG, rG_fr f k (by omega), rGr, rGr, f.2 (2 + k) (by omega) (by omega), f.2 (14 + k) (by omega) (by omega), f.2 (26 + k) (by omega) (by omega)]
theorem rC_fr (f : rFr r2 r e) {c : Nat} (hc : c < 2) (x : Int64) : rC r2 c x = rC r c x := by
  rw [rC, rC, f.1 (3 + c) (by omega) (by omega), f.1 (5 + c) (by omega) (by omega)]
theorem rT_fr (f : rFr r2 r e) (x : Int64) : rT r2 x = rT r x := by rw [rT, rT, rC_fr f (by omega), rC_fr f (by omega)]
theorem rTaxL_fr (f : rFr r2 r e) (hn : n ≤ 5) (t : Int64) : ∀ k, k ≤ n → rTaxL r2 n t k = rTaxL r n t k
  | 0, _ => rfl
  | k + 1, hk => by
    rw [rTaxL, rTaxL, rTaxL_fr f hn t k (by omega), rPart, rPart, rUp, rUp, f.1 (13 + k) (by omega) (by omega), f.1 (8 + k) (by omega) (by omega)]
    by_cases h1 : k + 1 < n
    · rw [if_pos h1, if_pos h1, f.1 (8 + k + 1) (by omega) (by omega)]
    · rw [if_neg h1, if_neg h1]
theorem rAmt_fr (f : rFr r2 r e) (hn : n ≤ 5) (k : Nat) (x : Int64) : rAmt r2 n k x = rAmt r n k x := by
  rw [rAmt, rAmt, rC_fr f (by omega), rC_fr f (by omega), rT_fr f, rTaxL_fr f hn _ n (Nat.le_refl _)]
theorem rDue_fr (f : rFr r2 r e) (hn : n ≤ 5) {mo : Nat} (hm : mo < 12) (k : Nat) : rDue r2 n e mo k = rDue r n e mo k := by
  rw [rDue, rDue, rG_fr f _ (by omega), rG_fr f _ (by omega), rAmt_fr f hn, rAmt_fr f hn]
end
