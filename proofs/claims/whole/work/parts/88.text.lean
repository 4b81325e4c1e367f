/-! THE CLASS'S TEXT of lines -/
/-- the digits of a number below a hundred -/
def dg2 (n : Nat) : List Nat := if n < 10 then [48 + n] else [48 + n / 10, 48 + n % 10]
/-- what is asked of the cells below 100 for numbers: nothing -/
def dgT (_ : zH) : Prop := True
theorem dgT.to {H H1 : zH} (_ : dgT H) (_ : ∀ q, q < 100 → H1.2.2 q = H.2.2 q) : dgT H1 := trivial
/-- the digits of a number -/
def dgF : Nat → Nat → List Nat
  | 0, _ => []
  | f + 1, n => if n < 10 then [48 + n] else dgF f (n / 10) ++ [48 + n % 10]
theorem dgF_len : ∀ f n, (dgF f n).length ≤ f
  | 0, _ => Nat.le_refl _
  | f + 1, n => by
    rw [dgF]
    split
    · simp
    · rw [List.length_append]
      have := dgF_len f (n / 10)
      simp; omega
theorem dgF_dig : ∀ f n, ∀ c ∈ dgF f n, c < 58 ∧ 48 ≤ c
  | 0, _, c, h => by cases h
  | f + 1, n, c, h => by
    rw [dgF] at h
    split at h
    · have := List.mem_singleton.mp h; omega
    · rcases List.mem_append.mp h with h | h
      · exact dgF_dig f _ c h
      · have := List.mem_singleton.mp h; omega
def nmA (k : Nat) : Nat := if k = 0 then 34 else if k = 1 then 36 else if k = 2 then 38 else if k = 3 then 40 else if k = 4 then 42 else if k = 5 then 44 else if k = 6 then 46 else 48
def nmT (k : Nat) : List Nat := if k = 0 then [103, 114, 111, 115, 115] else if k = 1 then [115, 111, 99, 105, 97, 108] else if k = 2 then [104, 101, 97, 108, 116, 104] else if k = 3 then [116, 97, 120] else if k = 4 then [111, 119, 101, 100] else if k = 5 then [103, 97, 114, 110, 105, 115, 104] else if k = 6 then [99, 97, 114, 114, 121] else [112, 97, 121]
theorem nmT_len (k : Nat) : (nmT k).length ≤ 7 := by
  unfold nmT
  repeat' split
  all_goals decide
section
variable {H H1 H2 : zH} {tx cap c1 c2 N p n a : Nat} {t l : List Nat}
theorem s_kindName {k : Nat} (hk : k < 8) : ev 112 [.int (nI k)] H = some (some (.ref (nmA k)), H) := by
  match k, hk with
  | 0, _ | 1, _ | 2, _ | 3, _ | 4, _ | 5, _ | 6, _ | 7, _ =>
    simp (implicitDefEqProofs := false) (disch := omega) only [ze_112, zr_112_0, zr_112_1, zr_112_44, zr_112_46, zr_112_47, zr_112_49, zr_112_50, zr_112_52, zr_112_53, zr_112_55, zr_112_56, zr_112_58, zr_112_59, zr_112_61, zr_112_62, zr_112_64, zr_112_65, zr_112_67, true_or, or_true, true_and, and_true, if_true, if_false, ldA_ref, ldA_null, nl_int, nl_ref, nl_fl, nl_null, c1_int, c1_ref, c1_null, nI_eq, Nat.reduceEqDiff, show (0 : Nat) = 0 from rfl]
    rfl
  | k + 8, h => omega
/-- the text object -/
def txB (H : zH) (tx cap : Nat) (t : List Nat) : Prop := H.2.2 tx = .inr (8, [.ref (tx + 1), .ref (tx + 3)]) ∧ sbB H (tx + 1) cap t ∧ (∃ d, H.2.2 (tx + 3) = .inl (2, 19, .inl d)) ∧ cap ≤ 90000 ∧ dgT H ∧ (∀ k, k < 8 → stOK H (nmA k) (nmT k)) ∧ 100 ≤ tx ∧ tx + 3 < 100 + H.1
def txG (H' H : zH) (tx cap cap' N : Nat) : Prop := cap ≤ cap' ∧ (cap' = cap ∨ cap' ≤ 2 * N + 2) ∧ H.1 ≤ H'.1 ∧ H'.1 + cap ≤ H.1 + cap' ∧ H'.2.1 + 2 * cap ≤ H.2.1 + 2 * cap' ∧ ∀ q, q ≠ tx + 1 → q ≠ tx + 3 → q < 100 + H.1 → (zkd H q ≠ 1003 ∨ q < 100) → H'.2.2 q = H.2.2 q
theorem txG.rf (H : zH) (tx cap N : Nat) : txG H H tx cap cap N := ⟨Nat.le_refl _, Or.inl rfl, Nat.le_refl _, Nat.le_refl _, Nat.le_refl _, fun _ _ _ _ _ => rfl⟩
theorem txG.of (a : txF H1 H (tx + 1) cap c1 N) : txG H1 H tx cap c1 N := ⟨a.1, a.2.1, a.2.2.1, a.2.2.2.1, a.2.2.2.2.1, fun q h1 _ h2 h3 => a.2.2.2.2.2 q h1 h2 h3⟩
theorem txG.kd (a : txG H1 H tx cap c1 N) {q : Nat} (h1 : q ≠ tx + 1) (h4 : q ≠ tx + 3) (h2 : q < 100 + H.1) (h3 : zkd H q ≠ 1003 ∨ q < 100) : zkd H1 q ≠ 1003 ∨ q < 100 := by
  rw [kd_kc, a.2.2.2.2.2 q h1 h4 h2 h3, ← kd_kc]; exact h3
theorem txG.tr (b : txG H2 H1 tx c1 c2 N) (a : txG H1 H tx cap c1 N) : txG H2 H tx cap c2 N := by
  have a1 := a.1
  have a2 := a.2.2.1
  have a3 := a.2.2.2.1
  have a4 := a.2.2.2.2.1
  have b1 := b.1
  have b2 := b.2.2.1
  have b3 := b.2.2.2.1
  have b4 := b.2.2.2.2.1
  refine ⟨by omega, ?_, by omega, by omega, by omega, fun q h1 h4 h2 h3 => ?_⟩
  · rcases b.2.1 with h | h
    · rw [h]; exact a.2.1
    · exact Or.inr h
  · rw [b.2.2.2.2.2 q h1 h4 (by omega) (a.kd h1 h4 h2 h3)]
    exact a.2.2.2.2.2 q h1 h4 h2 h3
theorem txB.nx {H' : zH} {cap' : Nat} {t' : List Nat} (h : txB H tx cap t) (hs : sbB H' (tx + 1) cap' t') (hc : cap' ≤ 90000) (f : txF H' H (tx + 1) cap cap' N) : txB H' tx cap' t' := by
  obtain ⟨h1, h2, ⟨d, h3⟩, h4, h5, h6, h7, h8⟩ := h
  have f1 := f.2.2.1
  have hz : sta H' H := f.sta (by omega)
  refine ⟨?_, hs, ⟨d, ?_⟩, hc, h5.to hz, fun k hk => (h6 k hk).to hz, h7, by omega⟩
  · rw [f.2.2.2.2.2 tx (by omega) (by omega) (Or.inl (by rw [kd_kc, h1]; exact (by decide : (8 : Nat) ≠ 1003)))]; exact h1
  · rw [f.2.2.2.2.2 (tx + 3) (by omega) h8 (Or.inl (by rw [kd_kc, h3]; exact (by decide : (1000 + 2 : Nat) ≠ 1003)))]; exact h3
end
