/-! STATICS: what lies below a hundred -/
section
variable {H H1 : zH} {L : Nat} {xs : Nat → Int32}
theorem fitB : ∀ c, c < 128 → fits .byte (.int (nI c)) = true := by decide +kernel
theorem stz_st (hz : stz L xs H) {j : Nat} {l : List Nat} (hj : j < 40) (hl : (zsx.getD j default).2.2.2 = l.map nI) (ha : ∀ c ∈ l, c < 128) (hlen : l.length < 1000) : stOK H (10 + 2 * j) l := by
  refine ⟨fun i => (l.map nI).getD i 0, ?_, ?_, fun i => ?_, fun i c hc => ⟨ha c (List.mem_of_getElem? hc), ?_⟩, by omega, hlen⟩
  · rw [hz _ (by omega)]
    unfold zSt0
    rw [if_neg (by omega), if_neg (by omega), if_pos (by omega), if_pos (by omega)]
  · rw [hz _ (by omega)]
    unfold zSt0
    rw [if_neg (by omega), if_neg (by omega), if_pos (by omega), if_neg (by omega), show (10 + 2 * j + 1 - 11) / 2 = j by omega, hl, List.length_map]
  · show fits .byte (.int ((l.map nI).getD i 0)) = true
    rw [List.getD_eq_getElem?_getD, List.getElem?_map]
    cases h : l[i]? with
    | none => exact fitB 0 (by omega)
    | some c => exact fitB c (ha c (List.mem_of_getElem? h))
  · show (l.map nI).getD i 0 = nI c
    rw [List.getD_eq_getElem?_getD, List.getElem?_map, hc]; rfl
theorem stz_A (hz : stz L xs H) : ∀ k, k < 8 → stOK H (nmA k) (nmT k)
  | 0, _ => stz_st hz (j := 12) (by omega) rfl (by decide) (by decide)
  | 1, _ => stz_st hz (j := 13) (by omega) rfl (by decide) (by decide)
  | 2, _ => stz_st hz (j := 14) (by omega) rfl (by decide) (by decide)
  | 3, _ => stz_st hz (j := 15) (by omega) rfl (by decide) (by decide)
  | 4, _ => stz_st hz (j := 16) (by omega) rfl (by decide) (by decide)
  | 5, _ => stz_st hz (j := 17) (by omega) rfl (by decide) (by decide)
  | 6, _ => stz_st hz (j := 18) (by omega) rfl (by decide) (by decide)
  | 7, _ => stz_st hz (j := 19) (by omega) rfl (by decide) (by decide)
theorem stz_B (hz : stz L xs H) : ∀ k, k < 8 → stOK H (nmB k) (nmT k)
  | 0, _ => stz_st hz (j := 20) (by omega) rfl (by decide) (by decide)
  | 1, _ => stz_st hz (j := 21) (by omega) rfl (by decide) (by decide)
  | 2, _ => stz_st hz (j := 22) (by omega) rfl (by decide) (by decide)
  | 3, _ => stz_st hz (j := 23) (by omega) rfl (by decide) (by decide)
  | 4, _ => stz_st hz (j := 24) (by omega) rfl (by decide) (by decide)
  | 5, _ => stz_st hz (j := 25) (by omega) rfl (by decide) (by decide)
  | 6, _ => stz_st hz (j := 26) (by omega) rfl (by decide) (by decide)
  | 7, _ => stz_st hz (j := 27) (by omega) rfl (by decide) (by decide)
theorem stz_wA (hz : stz L xs H) : wdA H := fun k hk => by
  match k, hk with
  | 0, _ | 1, _ | 2, _ | 3, _ | 4, _ | 5, _ | 6, _ | 7, _ | 8, _ | 9, _ | 10, _ | 11, _ => exact stz_st hz (by omega) rfl (by decide) (by decide)
  | k + 12, h => omega
theorem stz_wR (hz : stz L xs H) : wdR H := fun k hk => by
  match k, hk with
  | 0, _ => exact stz_st hz (j := 28) (by omega) rfl (by decide) (by decide)
  | 1, _ => exact stz_st hz (j := 29) (by omega) rfl (by decide) (by decide)
  | 2, _ => exact stz_st hz (j := 30) (by omega) rfl (by decide) (by decide)
  | 3, _ => exact stz_st hz (j := 31) (by omega) rfl (by decide) (by decide)
  | 4, _ => exact stz_st hz (j := 32) (by omega) rfl (by decide) (by decide)
  | 5, _ => exact stz_st hz (j := 33) (by omega) rfl (by decide) (by decide)
  | 6, _ => exact stz_st hz (j := 34) (by omega) rfl (by decide) (by decide)
  | 7, _ => exact stz_st hz (j := 35) (by omega) rfl (by decide) (by decide)
  | 8, _ => exact stz_st hz (j := 36) (by omega) rfl (by decide) (by decide)
  | 9, _ => exact stz_st hz (j := 37) (by omega) rfl (by decide) (by decide)
  | 10, _ => exact stz_st hz (j := 38) (by omega) rfl (by decide) (by decide)
  | 11, _ => exact stz_st hz (j := 39) (by omega) rfl (by decide) (by decide)
  | k + 12, h => omega
def sK (k : Nat) : Nat := [0, 1, 2, 3, 5, 6, 7].getD k 0
def sT (k : Nat) : Nat := [0, 1, 2, 3, 5, 8, 7].getD k 0
theorem stz_1 (hz : stz L xs H) : ∃ f, H.2.2 1 = .inl (0, 7, .inl f) ∧ ∀ k, k < 7 → f k = nI (sK k) := by
  refine ⟨fun j => (zsa.getD 0 default).2.getD j 0, (hz 1 (by omega)).trans rfl, fun k hk => ?_⟩
  match k, hk with
  | 0, _ | 1, _ | 2, _ | 3, _ | 4, _ | 5, _ | 6, _ => rfl
  | k + 7, h => omega
theorem stz_2 (hz : stz L xs H) : ∃ f, H.2.2 2 = .inl (0, 7, .inl f) ∧ ∀ k, k < 7 → f k = nI (sT k) := by
  refine ⟨fun j => (zsa.getD 1 default).2.getD j 0, (hz 2 (by omega)).trans rfl, fun k hk => ?_⟩
  match k, hk with
  | 0, _ | 1, _ | 2, _ | 3, _ | 4, _ | 5, _ | 6, _ => rfl
  | k + 7, h => omega
theorem stz_4 (hz : stz L xs H) : naT H := by
  refine ⟨fun j => (zsa.getD 3 default).2.getD j 0, (hz 4 (by omega)).trans rfl, fun k hk => ?_⟩
  match k, hk with
  | 0, _ | 1, _ | 2, _ | 3, _ | 4, _ | 5, _ | 6, _ | 7, _ | 8, _ | 9, _ | 10, _ | 11, _ => rfl
  | k + 12, h => omega
theorem stz_dg (hz : stz L xs H) : dgT H := trivial
theorem stz.to (hz : stz L xs H) (f : sta H1 H) : stz L xs H1 := fun a ha => (f a ha).trans (hz a ha)
end
