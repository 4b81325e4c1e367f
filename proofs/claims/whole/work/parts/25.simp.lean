/-! SMALL FACTS for the runs -/
theorem zcall_some {β : Type} (v : Option Value) (h : zH) (f : Option Value → zH → Option β) : zcall (some (v, h)) f = f v h := rfl
theorem zcall_ite {β : Type} {c : Prop} [Decidable c] (a b : zRes) (f : Option Value → zH → Option β) : zcall (if c then a else b) f = if c then zcall a f else zcall b f := by split <;> rfl
theorem zpush_some (v : Value) (S : List Value) : zpush (some v) S = v :: S := rfl
theorem zpush_none (S : List Value) : zpush none S = S := rfl
theorem zsum_nil : zsum [] = 0 := rfl
theorem zsum_int (x : Int32) (S : List Value) : zsum (.int x :: S) = 1 + zsum S := rfl
theorem zsum_ref (x : Nat) (S : List Value) : zsum (.ref x :: S) = 1 + zsum S := rfl
theorem zsum_long (x : Int64) (S : List Value) : zsum (.long x :: S) = 2 + zsum S := rfl
theorem zsum_null (S : List Value) : zsum (.null :: S) = 1 + zsum S := rfl
theorem cmp_lt (x y : Int64) : (lg_cmp x y < nI 0) ↔ x < y := lg_cmp_lt x y
theorem cmp_gt (x y : Int64) : (nI 0 < lg_cmp x y) ↔ y < x := lg_cmp_gt x y
theorem cmp_le (x y : Int64) : (lg_cmp x y ≤ nI 0) ↔ x ≤ y := lg_cmp_le x y
theorem cmp_ge (x y : Int64) : (nI 0 ≤ lg_cmp x y) ↔ y ≤ x := lg_cmp_ge x y
theorem cmp_eq (x y : Int64) : (lg_cmp x y = nI 0) ↔ x = y := lg_cmp_eq x y
theorem nI_mul (a b : Nat) : nI a * nI b = nI (a * b) := (Int32.ofNat_mul a b).symm
theorem dvJ_1000 (r : zRes) : dvJ 1000 r = r := if_neg (by decide)
theorem dvJ_30 (r : zRes) : dvJ 30 r = r := if_neg (by decide)
theorem dvJ_10 (r : zRes) : dvJ 10 r = r := if_neg (by decide)
/-- the whole of a small int -/
theorem nI_mk {x : Int32} {lo hi : Nat} (h1 : nI lo ≤ x) (h2 : x ≤ nI hi) (hb : hi < 2 ^ 31) (hl : lo < 2 ^ 31) : ∃ k, x = nI k ∧ lo ≤ k ∧ k ≤ hi := by
  have h0 : ¬ x < 0 := by
    have e : (nI lo).toInt = (lo : Int) := nI_toInt hl
    intro hx
    have h3 := Int32.le_iff_toInt_le.mp h1
    have h4 := Int32.lt_iff_toInt_lt.mp hx
    have : (0 : Int32).toInt = 0 := rfl
    omega
  obtain ⟨k, hk, rfl⟩ := nI_of h0
  exact ⟨k, rfl, (nI_leI hl hk).mp h1, (nI_leI hk hb).mp h2⟩
