/-- what a run makes of a call that is known -/
theorem zcall_some {β : Type} (v : Option Value) (h : zH) (f : Option Value → zH → Option β) : zcall (some (v, h)) f = f v h := rfl
theorem zcall_ite {β : Type} {c : Prop} [Decidable c] (a b : zRes) (f : Option Value → zH → Option β) : zcall (if c then a else b) f = if c then zcall a f else zcall b f := by split <;> rfl
theorem zpush_some (v : Value) (S : List Value) : zpush (some v) S = v :: S := rfl
theorem zpush_none (S : List Value) : zpush none S = S := rfl
theorem zsum_nil : zsum [] = 0 := rfl
theorem zsum_int (x : Int32) (S : List Value) : zsum (.int x :: S) = 1 + zsum S := rfl
theorem zsum_ref (x : Nat) (S : List Value) : zsum (.ref x :: S) = 1 + zsum S := rfl
theorem zsum_long (x : Int64) (S : List Value) : zsum (.long x :: S) = 2 + zsum S := rfl
theorem zsum_null (S : List Value) : zsum (.null :: S) = 1 + zsum S := rfl
theorem cmp_lt (x y : Int64) : (lg_cmp x y < nI 0) ↔ x < y := lg_cmp_lt x y
theorem cmp_gt (x y : Int64) : (nI 0 < lg_cmp x y) ↔ y < x := lg_cmp_gt x y
theorem cmp_le (x y : Int64) : (lg_cmp x y ≤ nI 0) ↔ x ≤ y := lg_cmp_le x y
theorem cmp_ge (x y : Int64) : (nI 0 ≤ lg_cmp x y) ↔ y ≤ x := lg_cmp_ge x y
theorem cmp_eq (x y : Int64) : (lg_cmp x y = nI 0) ↔ x = y := lg_cmp_eq x y
theorem s_lmin (x y : Int64) (h : zH) : ev 72 [.long x, .long y] h = some (some (.long (if x ≤ y then x else y)), h) := by
  simp only [ze_72, zr_72, cmp_gt]
  by_cases c : y < x
  · rw [if_pos c, if_neg (Int64.not_le.mpr c)]
  · rw [if_neg c, if_pos (Int64.not_lt.mp c)]
theorem s_lmax (x y : Int64) (h : zH) : ev 73 [.long x, .long y] h = some (some (.long (if y ≤ x then x else y)), h) := by
  simp only [ze_73, zr_73, cmp_lt]
  by_cases c : x < y
  · rw [if_pos c, if_neg (Int64.not_le.mpr c)]
  · rw [if_neg c, if_pos (Int64.not_lt.mp c)]
theorem s_at (e w : Nat) (h : zH) : ev 208 [.int (nI e), .int (nI w)] h = some (some (.int (nI (18 + 2751 * e + w))), h) := by
  simp only [ze_208, zr_208, nI_add, pk_mul]
theorem s_of {m : Nat} {r : Rst} {h : zH} {e w : Nat} (hb : 18 + 2751 * e + w < 8271) : ev 226 [.ref m, .int (nI e), .int (nI w)] (putM m r h) = some (some (.long (rS r (18 + 2751 * e + w))), putM m r h) := by
  simp only [ze_226, zr_226, ldA_ref, gf_M, s_at, zcall_some, zpush_some, zsum_ref, zsum_nil, Nat.reduceAdd, Nat.reduceLeDiff, if_true, lj_M1 hb]
theorem s_contribution {m : Nat} {r : Rst} {h : zH} {k : Nat} (hk : k < 2) (x : Int64) : ev 241 [.ref m, .int (nI k), .long x] (putM m r h) = some (some (.long (rS r (3 + k) * (if x ≤ rS r (5 + k) then x else rS r (5 + k)) * 1000)), putM m r h) := by
  simp only [ze_241, zr_241, ldA_ref, gf_M, nI_add, lj_M1 (show 3 + k < 8271 by omega), lj_M1 (show 5 + k < 8271 by omega), s_lmin, zcall_some, zpush_some, zsum_ref, zsum_long, zsum_nil, Nat.reduceAdd, Nat.reduceLeDiff, if_true]
