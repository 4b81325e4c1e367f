/-! THE WHOLE state -/
section
def xC (sv : Int32) : zC := .inr (11, [.ref 101, .ref 138, .ref 399, .int sv, .ref 436, .ref 441, .ref 443, .ref 459])
variable {H H' H1 H2 : zH} {s sb : tyB} {hs : Nat → tyB} {nx ct cap : Nat} {sv : Int32} {T : tyT} {t : List Nat}
theorem x_at (hx : H.2.2 100 = xC sv) : zkd H 100 = 11 ∧ (∀ (β : Type) (f : Value → Option β), zgf H 100 11 0 f = f (.ref 101)) ∧ (∀ (β : Type) (f : Value → Option β), zgf H 100 11 1 f = f (.ref 138)) ∧ (∀ (β : Type) (f : Value → Option β), zgf H 100 11 2 f = f (.ref 399)) ∧ (∀ (β : Type) (f : Value → Option β), zgf H 100 11 3 f = f (.int sv)) ∧ (∀ (β : Type) (f : Value → Option β), zgf H 100 11 4 f = f (.ref 436)) ∧ (∀ (β : Type) (f : Value → Option β), zgf H 100 11 5 f = f (.ref 441)) ∧ (∀ (β : Type) (f : Value → Option β), zgf H 100 11 6 f = f (.ref 443)) ∧ (∀ (β : Type) (f : Value → Option β), zgf H 100 11 7 f = f (.ref 459)) :=
  ⟨kd_c hx, fun _ f => gf_c hx rfl f, fun _ f => gf_c hx rfl f, fun _ f => gf_c hx rfl f, fun _ f => gf_c hx rfl f, fun _ f => gf_c hx rfl f, fun _ f => gf_c hx rfl f, fun _ f => gf_c hx rfl f, fun _ f => gf_c hx rfl f⟩
def clsB (H : zH) (s : tyB) (hs : Nat → tyB) (nx ct : Nat) (sb : tyB) (sv : Int32) (T : tyT) (cap : Nat) (t : List Nat) : Prop :=
  H.2.2 100 = xC sv ∧ isB H 101 37 (cB 101 s) ∧ hiB H 138 hs nx ct ∧ isB H 399 37 (cB 399 sb) ∧ isB H 436 5 (cT 436 T) ∧ (∃ du, isB H 441 2 (cD 441 du)) ∧ (∃ w, trB H 443 w) ∧ txB H 459 cap t
theorem isB.to {a n : Nat} {c : Nat → zC} (h : isB H a n c) (f : ∀ p, a ≤ p → p < a + n → H'.2.2 p = H.2.2 p) : isB H' a n c := fun k hk => (f _ (by omega) (by omega)).trans (h k hk)
theorem hiB.to {u : Nat} (h : hiB H u hs nx ct) (f : ∀ p, u ≤ p → p < u + 261 → H'.2.2 p = H.2.2 p) : hiB H' u hs nx ct := ⟨(f _ (by omega) (by omega)).trans h.1, (f _ (by omega) (by omega)).trans h.2.1, fun i hi => (h.2.2 i hi).to fun p h1 h2 => f p (by omega) (by omega)⟩
theorem trB.to {u : Nat} {w : tyW} (h : trB H u w) (f : ∀ p, u ≤ p → p < u + 16 → H'.2.2 p = H.2.2 p) : trB H' u w := by
  obtain ⟨h1, ⟨du, h2⟩, h3, d, h4⟩ := h
  exact ⟨(f _ (by omega) (by omega)).trans h1, ⟨du, h2.to fun p a b => f p (by omega) (by omega)⟩, h3.to fun p a b => f p (by omega) (by omega), d, h4.to fun p a b => f p (by omega) (by omega)⟩
theorem txB.to {tx : Nat} (h : txB H tx cap t) (h1 : H.1 ≤ H'.1) (f : ∀ p, p < 100 ∨ p = tx ∨ p = tx + 1 ∨ p = tx + 3 → H'.2.2 p = H.2.2 p) (g : ∀ p, 100 ≤ p → p < 100 + H.1 → zkd H p = 1003 → H'.2.2 p = H.2.2 p) : txB H' tx cap t := by
  obtain ⟨a1, ⟨p, ml, gg, a2, a3, a4, a5, a6, a7, a8, a9, a10⟩, ⟨d, a11⟩, a12, a13, a14, a15, a16⟩ := h
  have hst : sta H' H := fun q hq => f q (Or.inl hq)
  refine ⟨(f _ (by omega)).trans a1, ⟨p, ml, gg, (f _ (by omega)).trans a2, (g p a9 a10 (by rw [kd_kc, a3]; rfl)).trans a3, a4, a5, a6, a7, a8, a9, by omega⟩, ⟨d, (f _ (by omega)).trans a11⟩, a12, a13.to hst, fun k hk => (a14 k hk).to hst, a15, by omega⟩
/-- cells of the class that are not bytes -/
theorem kn_W {a : Nat} {w : tyW} : ∀ k, k < 10 → zkc (cW a w k) ≠ 1003
  | 0, _ => (by decide : (10 : Nat) ≠ 1003)
  | 1, _ => (by decide : (1000 : Nat) ≠ 1003)
  | 2, _ => (by decide : (1000 : Nat) ≠ 1003)
  | 3, _ => (by decide : (1001 : Nat) ≠ 1003)
  | 4, _ => (by decide : (1005 : Nat) ≠ 1003)
  | 5, _ => (by decide : (4 : Nat) ≠ 1003)
  | 6, _ => (by decide : (1000 : Nat) ≠ 1003)
  | 7, _ => (by decide : (1000 : Nat) ≠ 1003)
  | 8, _ => (by decide : (1000 : Nat) ≠ 1003)
  | 9, _ => (by decide : (1001 : Nat) ≠ 1003)
theorem kn_R {a : Nat} {w : tyR} : ∀ k, k < 5 → zkc (cR a w k) ≠ 1003
  | 0, _ => (by decide : (6 : Nat) ≠ 1003)
  | 1, _ => (by decide : (1000 : Nat) ≠ 1003)
  | 2, _ => (by decide : (1000 : Nat) ≠ 1003)
  | 3, _ => (by decide : (1000 : Nat) ≠ 1003)
  | 4, _ => (by decide : (1000 : Nat) ≠ 1003)
theorem kn_T {a : Nat} {w : tyT} : ∀ k, k < 5 → zkc (cT a w k) ≠ 1003
  | 0, _ => (by decide : (3 : Nat) ≠ 1003)
  | 1, _ => (by decide : (1002 : Nat) ≠ 1003)
  | 2, _ => (by decide : (1000 : Nat) ≠ 1003)
  | 3, _ => (by decide : (1000 : Nat) ≠ 1003)
  | 4, _ => (by decide : (1000 : Nat) ≠ 1003)
theorem kn_D {a : Nat} {w : tyD} : ∀ k, k < 2 → zkc (cD a w k) ≠ 1003
  | 0, _ => (by decide : (2 : Nat) ≠ 1003)
  | 1, _ => (by decide : (1001 : Nat) ≠ 1003)
theorem kn_M {m : Nat} {r : Rst} : ∀ k, k < 9 → zkc (cellM m r k) ≠ 1003
  | 0, _ => (by decide : (12 : Nat) ≠ 1003)
  | 1, _ => (by decide : (1001 : Nat) ≠ 1003)
  | 2, _ => (by decide : (1001 : Nat) ≠ 1003)
  | 3, _ => (by decide : (1001 : Nat) ≠ 1003)
  | 4, _ => (by decide : (1001 : Nat) ≠ 1003)
  | 5, _ => (by decide : (1001 : Nat) ≠ 1003)
  | 6, _ => (by decide : (1002 : Nat) ≠ 1003)
  | 7, _ => (by decide : (1002 : Nat) ≠ 1003)
  | 8, _ => (by decide : (1000 : Nat) ≠ 1003)
theorem kn_B {a : Nat} {w : tyB} {k : Nat} (hk : k < 37) : zkc (cB a w k) ≠ 1003 := by
  unfold cB
  by_cases h0 : k = 0
  · rw [if_pos h0]; exact (by decide : (1 : Nat) ≠ 1003)
  · rw [if_neg h0]
    by_cases h1 : k = 1
    · rw [if_pos h1]; exact (by decide : (1004 : Nat) ≠ 1003)
    · rw [if_neg h1]
      by_cases h7 : k < 7
      · rw [if_pos h7]; exact kn_R _ (by omega)
      · rw [if_neg h7]; exact kn_W _ (by omega)
theorem isB.kn {a n p : Nat} {c : Nat → zC} (h : isB H a n c) (hc : ∀ k, k < n → zkc (c k) ≠ 1003) (h1 : a ≤ p) (h2 : p < a + n) : zkd H p ≠ 1003 := by
  have := h (p - a) (by omega)
  rw [show a + (p - a) = p by omega] at this
  rw [kd_kc, this]; exact hc _ (by omega)
theorem hiB.kn {u p : Nat} (h : hiB H u hs nx ct) (h1 : u ≤ p) (h2 : p < u + 261) : zkd H p ≠ 1003 := by
  by_cases a : p = u
  · rw [a, kd_kc, h.1]; exact (by decide : (5 : Nat) ≠ 1003)
  · by_cases b : p = u + 1
    · rw [b, kd_kc, h.2.1]; exact (by decide : (1006 : Nat) ≠ 1003)
    · exact (h.2.2 ((p - (u + 2)) / 37) (by omega)).kn (fun k hk => kn_B hk) (by omega) (by omega)
theorem trB.kn {u p : Nat} {w : tyW} (h : trB H u w) (h1 : u ≤ p) (h2 : p < u + 16) : zkd H p ≠ 1003 := by
  obtain ⟨a1, ⟨du, a2⟩, a3, d, a4⟩ := h
  by_cases a : p = u
  · rw [a, kd_kc, a1]; exact (by decide : (9 : Nat) ≠ 1003)
  · by_cases b : p < u + 3
    · exact a2.kn kn_D (by omega) (by omega)
    · by_cases c : p < u + 13
      · exact a3.kn kn_W (by omega) (by omega)
      · exact a4.kn kc_S (by omega) (by omega)
theorem clsB.kn {p : Nat} (h : clsB H s hs nx ct sb sv T cap t) (h1 : 100 ≤ p) (h2 : p < 463) (h3 : p ≠ 461) : zkd H p ≠ 1003 := by
  obtain ⟨a1, a2, a3, a4, a5, ⟨du, a6⟩, ⟨w, a7⟩, a8⟩ := h
  by_cases c1 : p = 100
  · rw [c1, kd_kc, a1]; exact (by decide : (11 : Nat) ≠ 1003)
  by_cases c2 : p < 138
  · exact a2.kn (fun k hk => kn_B hk) (by omega) (by omega)
  by_cases c3 : p < 399
  · exact a3.kn (by omega) (by omega)
  by_cases c4 : p < 436
  · exact a4.kn (fun k hk => kn_B hk) (by omega) (by omega)
  by_cases c5 : p < 441
  · exact a5.kn kn_T (by omega) (by omega)
  by_cases c6 : p < 443
  · exact a6.kn kn_D (by omega) (by omega)
  by_cases c7 : p < 459
  · exact a7.kn (by omega) (by omega)
  by_cases c8 : p = 459
  · rw [c8, kd_kc, a8.1]; exact (by decide : (8 : Nat) ≠ 1003)
  by_cases c9 : p = 460
  · obtain ⟨p2, ml, g, a, _⟩ := a8.2.1
    rw [c9, kd_kc, a]; exact (by decide : (0 : Nat) ≠ 1003)
  · obtain ⟨d, a⟩ := a8.2.2.1
    rw [show p = 459 + 3 by omega, kd_kc, a]; exact (by decide : (1002 : Nat) ≠ 1003)
end
