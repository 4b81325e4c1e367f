/-! THE REFERENCE: a line added, the other numbers as they were -/
section
variable {m e n mo : Nat} {r r2 r3 : Rst} {h : zH} {l : List Ln}
theorem rOut.rf (r : Rst) (e mo : Nat) : rOut r r e mo := ⟨rfl, fun _ _ _ => rfl⟩
theorem rOut.tr (a : rOut r3 r2 e mo) (b : rOut r2 r e mo) : rOut r3 r e mo := by
  refine ⟨?_, fun q h1 h2 => (a.2 q h1 h2).trans (b.2 q h1 h2)⟩
  have h1 := a.1
  rw [b.1] at h1
  exact h1
theorem rOut_line (r : Rst) (e mo c : Nat) (hc : c < 54) (k i re : Int32) (x : Int64) : rOut (wLine r e mo c k i re x) r e mo := by
  refine ⟨rfl, fun q h1 h2 => ?_⟩
  show (if q = rX e (147 + mo) then _ else if q = rLp e mo c + 3 then _ else if q = rLp e mo c + 2 then _ else if q = rLp e mo c + 1 then _ else if q = rLp e mo c then _ else rS r q) = rS r q
  rw [if_neg h1]
  unfold rLp rX at *
  rw [if_neg (by omega), if_neg (by omega), if_neg (by omega), if_neg (by omega)]
theorem s_raddL (hm : 100 ≤ m) (he : e < 3) (hmo : mo < 12) (hL : rLines r e mo l) (hl : l.length < 54) (x : Ln) : ∃ r', ev 237 [.ref m, .int (nI e), .int (nI mo), .int x.1, .int x.2.1, .int x.2.2.1, .long x.2.2.2] (putM m r h) = some (none, putM m r' h) ∧ rLines r' e mo (l ++ [x]) ∧ rOut r' r e mo :=
  ⟨_, s_raddLine hm he hmo hl hL.1 _ _ _ _, rLines_add hmo hL hl x, rOut_line r e mo _ hl _ _ _ _⟩
theorem rOut.num (o : rOut r2 r e mo) (hmo : mo < 12) {w : Nat} (hw : w < 147) : rS r2 (rX e w) = rS r (rX e w) := o.2 _ (by unfold rX; omega) (Or.inl (by unfold rLp rX; omega))
theorem rOut.low (o : rOut r2 r e mo) {q : Nat} (hq : q < 18) : rS r2 q = rS r q := o.2 _ (by unfold rX; omega) (Or.inl (by unfold rLp rX; omega))
theorem rOut.fr (o : rOut r2 r e mo) (hmo : mo < 12) : rFr r2 r e := ⟨fun _ _ h2 => o.low h2, fun _ _ h2 => o.num hmo (by omega)⟩
end
