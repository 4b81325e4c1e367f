/-! ALLOCATION: new cells as blocks; printed by gen_alloc.py -/
def alc (h : zH) (k z : Nat) : zH := (h.1 + k, h.2.1 + z, h.2.2)
def ce1 (v : zC) : Nat → zC := fun _ => v
section
variable {h H : zH} {a n k z q : Nat} {v : zC} {c : Nat → zC} {β : Type}
theorem alc_1 : (alc h k z).1 = h.1 + k := rfl
theorem alc_2 : (alc h k z).2.1 = h.2.1 + z := rfl
theorem alc_3 : (alc h k z).2.2 = h.2.2 := rfl
theorem alc_0 : alc h 0 0 = h := rfl
theorem alc_alc {k2 z2 : Nat} : alc (alc h k z) k2 z2 = alc h (k + k2) (z + z2) := by
  unfold alc
  dsimp only
  rw [Nat.add_assoc, Nat.add_assoc]
theorem alc_blk : alc (blk a n c h) k z = blk a n c (alc h k z) := rfl
theorem znew_b {m : Nat} : znew h v m = blk (100 + h.1) 1 (ce1 v) (alc h 1 m) := by
  refine Prod.ext rfl (Prod.ext rfl (funext fun p => ?_))
  show (if p = 100 + h.1 then v else h.2.2 p) = if 100 + h.1 ≤ p ∧ p < 100 + h.1 + 1 then v else h.2.2 p
  by_cases e : p = 100 + h.1
  · rw [if_pos e, if_pos (by omega)]
  · rw [if_neg e, if_neg (by omega)]
theorem blk_snoc : blk (a + n) 1 (ce1 v) (blk a n c H) = blk a (n + 1) (fun k => if k = n then v else c k) H := by
  refine Prod.ext rfl (Prod.ext rfl (funext fun p => ?_))
  show (if a + n ≤ p ∧ p < a + n + 1 then v else if a ≤ p ∧ p < a + n then c (p - a) else H.2.2 p) = if a ≤ p ∧ p < a + (n + 1) then (if p - a = n then v else c (p - a)) else H.2.2 p
  by_cases e : a + n ≤ p ∧ p < a + n + 1
  · rw [if_pos e, if_pos (by omega), if_pos (by omega)]
  · rw [if_neg e]
    by_cases e2 : a ≤ p ∧ p < a + n
    · rw [if_pos e2, if_pos (by omega), if_neg (by omega)]
    · rw [if_neg e2, if_neg (by omega)]
theorem blk_cat {m : Nat} {d : Nat → zC} : blk (a + n) m d (blk a n c H) = blk a (n + m) (fun k => if k < n then c k else d (k - n)) H := by
  refine Prod.ext rfl (Prod.ext rfl (funext fun p => ?_))
  show (if a + n ≤ p ∧ p < a + n + m then d (p - (a + n)) else if a ≤ p ∧ p < a + n then c (p - a) else H.2.2 p) = if a ≤ p ∧ p < a + (n + m) then (if p - a < n then c (p - a) else d (p - a - n)) else H.2.2 p
  by_cases e : a + n ≤ p ∧ p < a + n + m
  · rw [if_pos e, if_pos (by omega), if_neg (by omega), show p - a - n = p - (a + n) by omega]
  · rw [if_neg e]
    by_cases e2 : a ≤ p ∧ p < a + n
    · rw [if_pos e2, if_pos (by omega), if_pos (by omega)]
    · rw [if_neg e2, if_neg (by omega)]
theorem blk_congr {d : Nat → zC} (hc : ∀ k, k < n → c k = d k) : blk a n c H = blk a n d H := by
  refine Prod.ext rfl (Prod.ext rfl (funext fun p => ?_))
  show (if a ≤ p ∧ p < a + n then c (p - a) else H.2.2 p) = if a ≤ p ∧ p < a + n then d (p - a) else H.2.2 p
  by_cases e : a ≤ p ∧ p < a + n
  · rw [if_pos e, if_pos e, hc _ (by omega)]
  · rw [if_neg e, if_neg e]
theorem mkA_ok {x : Nat} (hx : x ≤ 100000) (r : zRes) : mkA (nI x) r = r := by
  unfold mkA
  rw [nI_clamp (by omega)]
  exact if_pos ⟨nI_pos (by omega), by omega⟩
theorem b1_at : (blk q 1 (ce1 v) H).2.2 q = v := by
  show (if q ≤ q ∧ q < q + 1 then v else _) = v
  exact if_pos ⟨Nat.le_refl _, Nat.lt_succ_self _⟩
theorem b1_set {u : zC} : zset (blk q 1 (ce1 v) H) q u = blk q 1 (ce1 u) H := blk_zset (k := 0) (by omega) rfl fun j hj h0 => by omega
theorem pf1_0_0 {x0 x1 x2 x3 : Value} (r : Nat) (hq : 100 ≤ q) (f : zH → Option β) : zpf (blk q 1 (ce1 (.inr (0, [x0, x1, x2, x3]))) H) q 0 0 (.ref r) f = f (blk q 1 (ce1 (.inr (0, [.ref r, x1, x2, x3]))) H) := (pf_c b1_at (Nat.le_of_ble_eq_true rfl) hq rfl f).trans (congrArg f b1_set)
theorem pf1_0_1 {x0 x1 x2 x3 : Value} (hq : 100 ≤ q) (f : zH → Option β) : zpf (blk q 1 (ce1 (.inr (0, [x0, x1, x2, x3]))) H) q 0 1 (.int (nI 0)) f = f (blk q 1 (ce1 (.inr (0, [x0, .int (nI 0), x2, x3]))) H) := (pf_c b1_at (Nat.le_of_ble_eq_true rfl) hq rfl f).trans (congrArg f b1_set)
theorem pf1_0_2 {x0 x1 x2 x3 : Value} (hq : 100 ≤ q) (f : zH → Option β) : zpf (blk q 1 (ce1 (.inr (0, [x0, x1, x2, x3]))) H) q 0 2 (.int (nI 0)) f = f (blk q 1 (ce1 (.inr (0, [x0, x1, .int (nI 0), x3]))) H) := (pf_c b1_at (Nat.le_of_ble_eq_true rfl) hq rfl f).trans (congrArg f b1_set)
theorem pf1_0_3 {x0 x1 x2 x3 : Value} (r : Int32) (hq : 100 ≤ q) (f : zH → Option β) : zpf (blk q 1 (ce1 (.inr (0, [x0, x1, x2, x3]))) H) q 0 3 (.int r) f = f (blk q 1 (ce1 (.inr (0, [x0, x1, x2, .int r]))) H) := (pf_c b1_at (Nat.le_of_ble_eq_true rfl) hq rfl f).trans (congrArg f b1_set)
theorem kd1_0 {fs : List Value} : zkd (blk q 1 (ce1 (.inr (0, fs))) H) q = 0 := kd_c b1_at
theorem pf1_1_0 {x0 x1 x2 x3 x4 : Value} (r : Nat) (hq : 100 ≤ q) (f : zH → Option β) : zpf (blk q 1 (ce1 (.inr (1, [x0, x1, x2, x3, x4]))) H) q 1 0 (.ref r) f = f (blk q 1 (ce1 (.inr (1, [.ref r, x1, x2, x3, x4]))) H) := (pf_c b1_at (Nat.le_of_ble_eq_true rfl) hq rfl f).trans (congrArg f b1_set)
theorem pf1_1_1 {x0 x1 x2 x3 x4 : Value} (r : Nat) (hq : 100 ≤ q) (f : zH → Option β) : zpf (blk q 1 (ce1 (.inr (1, [x0, x1, x2, x3, x4]))) H) q 1 1 (.ref r) f = f (blk q 1 (ce1 (.inr (1, [x0, .ref r, x2, x3, x4]))) H) := (pf_c b1_at (Nat.le_of_ble_eq_true rfl) hq rfl f).trans (congrArg f b1_set)
theorem pf1_1_2 {x0 x1 x2 x3 x4 : Value} (r : Int32) (hq : 100 ≤ q) (f : zH → Option β) : zpf (blk q 1 (ce1 (.inr (1, [x0, x1, x2, x3, x4]))) H) q 1 2 (.int r) f = f (blk q 1 (ce1 (.inr (1, [x0, x1, .int r, x3, x4]))) H) := (pf_c b1_at (Nat.le_of_ble_eq_true rfl) hq rfl f).trans (congrArg f b1_set)
theorem pf1_1_3 {x0 x1 x2 x3 x4 : Value} (r : Int32) (hq : 100 ≤ q) (f : zH → Option β) : zpf (blk q 1 (ce1 (.inr (1, [x0, x1, x2, x3, x4]))) H) q 1 3 (.int r) f = f (blk q 1 (ce1 (.inr (1, [x0, x1, x2, .int r, x4]))) H) := (pf_c b1_at (Nat.le_of_ble_eq_true rfl) hq rfl f).trans (congrArg f b1_set)
theorem pf1_1_4 {x0 x1 x2 x3 x4 : Value} (hq : 100 ≤ q) (f : zH → Option β) : zpf (blk q 1 (ce1 (.inr (1, [x0, x1, x2, x3, x4]))) H) q 1 4 (.int (nI 0)) f = f (blk q 1 (ce1 (.inr (1, [x0, x1, x2, x3, .int (nI 0)]))) H) := (pf_c b1_at (Nat.le_of_ble_eq_true rfl) hq rfl f).trans (congrArg f b1_set)
theorem kd1_1 {fs : List Value} : zkd (blk q 1 (ce1 (.inr (1, fs))) H) q = 1 := kd_c b1_at
theorem pf1_2_0 {x0 : Value} (r : Nat) (hq : 100 ≤ q) (f : zH → Option β) : zpf (blk q 1 (ce1 (.inr (2, [x0]))) H) q 2 0 (.ref r) f = f (blk q 1 (ce1 (.inr (2, [.ref r]))) H) := (pf_c b1_at (Nat.le_of_ble_eq_true rfl) hq rfl f).trans (congrArg f b1_set)
theorem kd1_2 {fs : List Value} : zkd (blk q 1 (ce1 (.inr (2, fs))) H) q = 2 := kd_c b1_at
theorem pf1_3_0 {x0 x1 x2 x3 x4 x5 : Value} (r : Nat) (hq : 100 ≤ q) (f : zH → Option β) : zpf (blk q 1 (ce1 (.inr (3, [x0, x1, x2, x3, x4, x5]))) H) q 3 0 (.ref r) f = f (blk q 1 (ce1 (.inr (3, [.ref r, x1, x2, x3, x4, x5]))) H) := (pf_c b1_at (Nat.le_of_ble_eq_true rfl) hq rfl f).trans (congrArg f b1_set)
theorem pf1_3_1 {x0 x1 x2 x3 x4 x5 : Value} (r : Int32) (hq : 100 ≤ q) (f : zH → Option β) : zpf (blk q 1 (ce1 (.inr (3, [x0, x1, x2, x3, x4, x5]))) H) q 3 1 (.int r) f = f (blk q 1 (ce1 (.inr (3, [x0, .int r, x2, x3, x4, x5]))) H) := (pf_c b1_at (Nat.le_of_ble_eq_true rfl) hq rfl f).trans (congrArg f b1_set)
theorem pf1_3_2 {x0 x1 x2 x3 x4 x5 : Value} (r : Int32) (hq : 100 ≤ q) (f : zH → Option β) : zpf (blk q 1 (ce1 (.inr (3, [x0, x1, x2, x3, x4, x5]))) H) q 3 2 (.int r) f = f (blk q 1 (ce1 (.inr (3, [x0, x1, .int r, x3, x4, x5]))) H) := (pf_c b1_at (Nat.le_of_ble_eq_true rfl) hq rfl f).trans (congrArg f b1_set)
theorem pf1_3_3 {x0 x1 x2 x3 x4 x5 : Value} (r : Nat) (hq : 100 ≤ q) (f : zH → Option β) : zpf (blk q 1 (ce1 (.inr (3, [x0, x1, x2, x3, x4, x5]))) H) q 3 3 (.ref r) f = f (blk q 1 (ce1 (.inr (3, [x0, x1, x2, .ref r, x4, x5]))) H) := (pf_c b1_at (Nat.le_of_ble_eq_true rfl) hq rfl f).trans (congrArg f b1_set)
theorem pf1_3_4 {x0 x1 x2 x3 x4 x5 : Value} (r : Nat) (hq : 100 ≤ q) (f : zH → Option β) : zpf (blk q 1 (ce1 (.inr (3, [x0, x1, x2, x3, x4, x5]))) H) q 3 4 (.ref r) f = f (blk q 1 (ce1 (.inr (3, [x0, x1, x2, x3, .ref r, x5]))) H) := (pf_c b1_at (Nat.le_of_ble_eq_true rfl) hq rfl f).trans (congrArg f b1_set)
theorem pf1_3_5 {x0 x1 x2 x3 x4 x5 : Value} (r : Nat) (hq : 100 ≤ q) (f : zH → Option β) : zpf (blk q 1 (ce1 (.inr (3, [x0, x1, x2, x3, x4, x5]))) H) q 3 5 (.ref r) f = f (blk q 1 (ce1 (.inr (3, [x0, x1, x2, x3, x4, .ref r]))) H) := (pf_c b1_at (Nat.le_of_ble_eq_true rfl) hq rfl f).trans (congrArg f b1_set)
theorem kd1_3 {fs : List Value} : zkd (blk q 1 (ce1 (.inr (3, fs))) H) q = 3 := kd_c b1_at
theorem pf1_4_0 {x0 x1 x2 x3 x4 : Value} (r : Nat) (hq : 100 ≤ q) (f : zH → Option β) : zpf (blk q 1 (ce1 (.inr (4, [x0, x1, x2, x3, x4]))) H) q 4 0 (.ref r) f = f (blk q 1 (ce1 (.inr (4, [.ref r, x1, x2, x3, x4]))) H) := (pf_c b1_at (Nat.le_of_ble_eq_true rfl) hq rfl f).trans (congrArg f b1_set)
theorem pf1_4_1 {x0 x1 x2 x3 x4 : Value} (r : Nat) (hq : 100 ≤ q) (f : zH → Option β) : zpf (blk q 1 (ce1 (.inr (4, [x0, x1, x2, x3, x4]))) H) q 4 1 (.ref r) f = f (blk q 1 (ce1 (.inr (4, [x0, .ref r, x2, x3, x4]))) H) := (pf_c b1_at (Nat.le_of_ble_eq_true rfl) hq rfl f).trans (congrArg f b1_set)
theorem pf1_4_2 {x0 x1 x2 x3 x4 : Value} (r : Nat) (hq : 100 ≤ q) (f : zH → Option β) : zpf (blk q 1 (ce1 (.inr (4, [x0, x1, x2, x3, x4]))) H) q 4 2 (.ref r) f = f (blk q 1 (ce1 (.inr (4, [x0, x1, .ref r, x3, x4]))) H) := (pf_c b1_at (Nat.le_of_ble_eq_true rfl) hq rfl f).trans (congrArg f b1_set)
theorem pf1_4_3 {x0 x1 x2 x3 x4 : Value} (r : Nat) (hq : 100 ≤ q) (f : zH → Option β) : zpf (blk q 1 (ce1 (.inr (4, [x0, x1, x2, x3, x4]))) H) q 4 3 (.ref r) f = f (blk q 1 (ce1 (.inr (4, [x0, x1, x2, .ref r, x4]))) H) := (pf_c b1_at (Nat.le_of_ble_eq_true rfl) hq rfl f).trans (congrArg f b1_set)
theorem pf1_4_4 {x0 x1 x2 x3 x4 : Value} (r : Int32) (hq : 100 ≤ q) (f : zH → Option β) : zpf (blk q 1 (ce1 (.inr (4, [x0, x1, x2, x3, x4]))) H) q 4 4 (.int r) f = f (blk q 1 (ce1 (.inr (4, [x0, x1, x2, x3, .int r]))) H) := (pf_c b1_at (Nat.le_of_ble_eq_true rfl) hq rfl f).trans (congrArg f b1_set)
theorem kd1_4 {fs : List Value} : zkd (blk q 1 (ce1 (.inr (4, fs))) H) q = 4 := kd_c b1_at
theorem pf1_5_0 {x0 x1 x2 : Value} (r : Nat) (hq : 100 ≤ q) (f : zH → Option β) : zpf (blk q 1 (ce1 (.inr (5, [x0, x1, x2]))) H) q 5 0 (.ref r) f = f (blk q 1 (ce1 (.inr (5, [.ref r, x1, x2]))) H) := (pf_c b1_at (Nat.le_of_ble_eq_true rfl) hq rfl f).trans (congrArg f b1_set)
theorem pf1_5_1 {x0 x1 x2 : Value} (r : Int32) (hq : 100 ≤ q) (f : zH → Option β) : zpf (blk q 1 (ce1 (.inr (5, [x0, x1, x2]))) H) q 5 1 (.int r) f = f (blk q 1 (ce1 (.inr (5, [x0, .int r, x2]))) H) := (pf_c b1_at (Nat.le_of_ble_eq_true rfl) hq rfl f).trans (congrArg f b1_set)
theorem pf1_5_2 {x0 x1 x2 : Value} (r : Int32) (hq : 100 ≤ q) (f : zH → Option β) : zpf (blk q 1 (ce1 (.inr (5, [x0, x1, x2]))) H) q 5 2 (.int r) f = f (blk q 1 (ce1 (.inr (5, [x0, x1, .int r]))) H) := (pf_c b1_at (Nat.le_of_ble_eq_true rfl) hq rfl f).trans (congrArg f b1_set)
theorem kd1_5 {fs : List Value} : zkd (blk q 1 (ce1 (.inr (5, fs))) H) q = 5 := kd_c b1_at
theorem pf1_6_0 {x0 x1 x2 x3 x4 : Value} (r : Nat) (hq : 100 ≤ q) (f : zH → Option β) : zpf (blk q 1 (ce1 (.inr (6, [x0, x1, x2, x3, x4]))) H) q 6 0 (.ref r) f = f (blk q 1 (ce1 (.inr (6, [.ref r, x1, x2, x3, x4]))) H) := (pf_c b1_at (Nat.le_of_ble_eq_true rfl) hq rfl f).trans (congrArg f b1_set)
theorem pf1_6_1 {x0 x1 x2 x3 x4 : Value} (r : Nat) (hq : 100 ≤ q) (f : zH → Option β) : zpf (blk q 1 (ce1 (.inr (6, [x0, x1, x2, x3, x4]))) H) q 6 1 (.ref r) f = f (blk q 1 (ce1 (.inr (6, [x0, .ref r, x2, x3, x4]))) H) := (pf_c b1_at (Nat.le_of_ble_eq_true rfl) hq rfl f).trans (congrArg f b1_set)
theorem pf1_6_2 {x0 x1 x2 x3 x4 : Value} (r : Nat) (hq : 100 ≤ q) (f : zH → Option β) : zpf (blk q 1 (ce1 (.inr (6, [x0, x1, x2, x3, x4]))) H) q 6 2 (.ref r) f = f (blk q 1 (ce1 (.inr (6, [x0, x1, .ref r, x3, x4]))) H) := (pf_c b1_at (Nat.le_of_ble_eq_true rfl) hq rfl f).trans (congrArg f b1_set)
theorem pf1_6_3 {x0 x1 x2 x3 x4 : Value} (r : Nat) (hq : 100 ≤ q) (f : zH → Option β) : zpf (blk q 1 (ce1 (.inr (6, [x0, x1, x2, x3, x4]))) H) q 6 3 (.ref r) f = f (blk q 1 (ce1 (.inr (6, [x0, x1, x2, .ref r, x4]))) H) := (pf_c b1_at (Nat.le_of_ble_eq_true rfl) hq rfl f).trans (congrArg f b1_set)
theorem pf1_6_4 {x0 x1 x2 x3 x4 : Value} (r : Int32) (hq : 100 ≤ q) (f : zH → Option β) : zpf (blk q 1 (ce1 (.inr (6, [x0, x1, x2, x3, x4]))) H) q 6 4 (.int r) f = f (blk q 1 (ce1 (.inr (6, [x0, x1, x2, x3, .int r]))) H) := (pf_c b1_at (Nat.le_of_ble_eq_true rfl) hq rfl f).trans (congrArg f b1_set)
theorem kd1_6 {fs : List Value} : zkd (blk q 1 (ce1 (.inr (6, fs))) H) q = 6 := kd_c b1_at
theorem pf1_7_0 {x0 x1 x2 x3 : Value} (r : Nat) (hq : 100 ≤ q) (f : zH → Option β) : zpf (blk q 1 (ce1 (.inr (7, [x0, x1, x2, x3]))) H) q 7 0 (.ref r) f = f (blk q 1 (ce1 (.inr (7, [.ref r, x1, x2, x3]))) H) := (pf_c b1_at (Nat.le_of_ble_eq_true rfl) hq rfl f).trans (congrArg f b1_set)
theorem pf1_7_1 {x0 x1 x2 x3 : Value} (r : Nat) (hq : 100 ≤ q) (f : zH → Option β) : zpf (blk q 1 (ce1 (.inr (7, [x0, x1, x2, x3]))) H) q 7 1 (.ref r) f = f (blk q 1 (ce1 (.inr (7, [x0, .ref r, x2, x3]))) H) := (pf_c b1_at (Nat.le_of_ble_eq_true rfl) hq rfl f).trans (congrArg f b1_set)
theorem pf1_7_2 {x0 x1 x2 x3 : Value} (r : Int32) (hq : 100 ≤ q) (f : zH → Option β) : zpf (blk q 1 (ce1 (.inr (7, [x0, x1, x2, x3]))) H) q 7 2 (.int r) f = f (blk q 1 (ce1 (.inr (7, [x0, x1, .int r, x3]))) H) := (pf_c b1_at (Nat.le_of_ble_eq_true rfl) hq rfl f).trans (congrArg f b1_set)
theorem pf1_7_3 {x0 x1 x2 x3 : Value} (r : Int64) (hq : 100 ≤ q) (f : zH → Option β) : zpf (blk q 1 (ce1 (.inr (7, [x0, x1, x2, x3]))) H) q 7 3 (.long r) f = f (blk q 1 (ce1 (.inr (7, [x0, x1, x2, .long r]))) H) := (pf_c b1_at (Nat.le_of_ble_eq_true rfl) hq rfl f).trans (congrArg f b1_set)
theorem kd1_7 {fs : List Value} : zkd (blk q 1 (ce1 (.inr (7, fs))) H) q = 7 := kd_c b1_at
theorem pf1_8_0 {x0 x1 : Value} (r : Nat) (hq : 100 ≤ q) (f : zH → Option β) : zpf (blk q 1 (ce1 (.inr (8, [x0, x1]))) H) q 8 0 (.ref r) f = f (blk q 1 (ce1 (.inr (8, [.ref r, x1]))) H) := (pf_c b1_at (Nat.le_of_ble_eq_true rfl) hq rfl f).trans (congrArg f b1_set)
theorem pf1_8_1 {x0 x1 : Value} (r : Nat) (hq : 100 ≤ q) (f : zH → Option β) : zpf (blk q 1 (ce1 (.inr (8, [x0, x1]))) H) q 8 1 (.ref r) f = f (blk q 1 (ce1 (.inr (8, [x0, .ref r]))) H) := (pf_c b1_at (Nat.le_of_ble_eq_true rfl) hq rfl f).trans (congrArg f b1_set)
theorem kd1_8 {fs : List Value} : zkd (blk q 1 (ce1 (.inr (8, fs))) H) q = 8 := kd_c b1_at
theorem pf1_9_0 {x0 x1 x2 : Value} (r : Nat) (hq : 100 ≤ q) (f : zH → Option β) : zpf (blk q 1 (ce1 (.inr (9, [x0, x1, x2]))) H) q 9 0 (.ref r) f = f (blk q 1 (ce1 (.inr (9, [.ref r, x1, x2]))) H) := (pf_c b1_at (Nat.le_of_ble_eq_true rfl) hq rfl f).trans (congrArg f b1_set)
theorem pf1_9_1 {x0 x1 x2 : Value} (r : Nat) (hq : 100 ≤ q) (f : zH → Option β) : zpf (blk q 1 (ce1 (.inr (9, [x0, x1, x2]))) H) q 9 1 (.ref r) f = f (blk q 1 (ce1 (.inr (9, [x0, .ref r, x2]))) H) := (pf_c b1_at (Nat.le_of_ble_eq_true rfl) hq rfl f).trans (congrArg f b1_set)
theorem pf1_9_2 {x0 x1 x2 : Value} (r : Nat) (hq : 100 ≤ q) (f : zH → Option β) : zpf (blk q 1 (ce1 (.inr (9, [x0, x1, x2]))) H) q 9 2 (.ref r) f = f (blk q 1 (ce1 (.inr (9, [x0, x1, .ref r]))) H) := (pf_c b1_at (Nat.le_of_ble_eq_true rfl) hq rfl f).trans (congrArg f b1_set)
theorem kd1_9 {fs : List Value} : zkd (blk q 1 (ce1 (.inr (9, fs))) H) q = 9 := kd_c b1_at
theorem pf1_10_0 {x0 x1 x2 x3 x4 x5 x6 : Value} (r : Nat) (hq : 100 ≤ q) (f : zH → Option β) : zpf (blk q 1 (ce1 (.inr (10, [x0, x1, x2, x3, x4, x5, x6]))) H) q 10 0 (.ref r) f = f (blk q 1 (ce1 (.inr (10, [.ref r, x1, x2, x3, x4, x5, x6]))) H) := (pf_c b1_at (Nat.le_of_ble_eq_true rfl) hq rfl f).trans (congrArg f b1_set)
theorem pf1_10_1 {x0 x1 x2 x3 x4 x5 x6 : Value} (r : Nat) (hq : 100 ≤ q) (f : zH → Option β) : zpf (blk q 1 (ce1 (.inr (10, [x0, x1, x2, x3, x4, x5, x6]))) H) q 10 1 (.ref r) f = f (blk q 1 (ce1 (.inr (10, [x0, .ref r, x2, x3, x4, x5, x6]))) H) := (pf_c b1_at (Nat.le_of_ble_eq_true rfl) hq rfl f).trans (congrArg f b1_set)
theorem pf1_10_2 {x0 x1 x2 x3 x4 x5 x6 : Value} (r : Nat) (hq : 100 ≤ q) (f : zH → Option β) : zpf (blk q 1 (ce1 (.inr (10, [x0, x1, x2, x3, x4, x5, x6]))) H) q 10 2 (.ref r) f = f (blk q 1 (ce1 (.inr (10, [x0, x1, .ref r, x3, x4, x5, x6]))) H) := (pf_c b1_at (Nat.le_of_ble_eq_true rfl) hq rfl f).trans (congrArg f b1_set)
theorem pf1_10_3 {x0 x1 x2 x3 x4 x5 x6 : Value} (r : Nat) (hq : 100 ≤ q) (f : zH → Option β) : zpf (blk q 1 (ce1 (.inr (10, [x0, x1, x2, x3, x4, x5, x6]))) H) q 10 3 (.ref r) f = f (blk q 1 (ce1 (.inr (10, [x0, x1, x2, .ref r, x4, x5, x6]))) H) := (pf_c b1_at (Nat.le_of_ble_eq_true rfl) hq rfl f).trans (congrArg f b1_set)
theorem pf1_10_4 {x0 x1 x2 x3 x4 x5 x6 : Value} (r : Nat) (hq : 100 ≤ q) (f : zH → Option β) : zpf (blk q 1 (ce1 (.inr (10, [x0, x1, x2, x3, x4, x5, x6]))) H) q 10 4 (.ref r) f = f (blk q 1 (ce1 (.inr (10, [x0, x1, x2, x3, .ref r, x5, x6]))) H) := (pf_c b1_at (Nat.le_of_ble_eq_true rfl) hq rfl f).trans (congrArg f b1_set)
theorem pf1_10_5 {x0 x1 x2 x3 x4 x5 x6 : Value} (r : Int32) (hq : 100 ≤ q) (f : zH → Option β) : zpf (blk q 1 (ce1 (.inr (10, [x0, x1, x2, x3, x4, x5, x6]))) H) q 10 5 (.int r) f = f (blk q 1 (ce1 (.inr (10, [x0, x1, x2, x3, x4, .int r, x6]))) H) := (pf_c b1_at (Nat.le_of_ble_eq_true rfl) hq rfl f).trans (congrArg f b1_set)
theorem pf1_10_6 {x0 x1 x2 x3 x4 x5 x6 : Value} (r : Int64) (hq : 100 ≤ q) (f : zH → Option β) : zpf (blk q 1 (ce1 (.inr (10, [x0, x1, x2, x3, x4, x5, x6]))) H) q 10 6 (.long r) f = f (blk q 1 (ce1 (.inr (10, [x0, x1, x2, x3, x4, x5, .long r]))) H) := (pf_c b1_at (Nat.le_of_ble_eq_true rfl) hq rfl f).trans (congrArg f b1_set)
theorem kd1_10 {fs : List Value} : zkd (blk q 1 (ce1 (.inr (10, fs))) H) q = 10 := kd_c b1_at
theorem pf1_11_0 {x0 x1 x2 x3 x4 x5 x6 x7 : Value} (r : Nat) (hq : 100 ≤ q) (f : zH → Option β) : zpf (blk q 1 (ce1 (.inr (11, [x0, x1, x2, x3, x4, x5, x6, x7]))) H) q 11 0 (.ref r) f = f (blk q 1 (ce1 (.inr (11, [.ref r, x1, x2, x3, x4, x5, x6, x7]))) H) := (pf_c b1_at (Nat.le_of_ble_eq_true rfl) hq rfl f).trans (congrArg f b1_set)
theorem pf1_11_1 {x0 x1 x2 x3 x4 x5 x6 x7 : Value} (r : Nat) (hq : 100 ≤ q) (f : zH → Option β) : zpf (blk q 1 (ce1 (.inr (11, [x0, x1, x2, x3, x4, x5, x6, x7]))) H) q 11 1 (.ref r) f = f (blk q 1 (ce1 (.inr (11, [x0, .ref r, x2, x3, x4, x5, x6, x7]))) H) := (pf_c b1_at (Nat.le_of_ble_eq_true rfl) hq rfl f).trans (congrArg f b1_set)
theorem pf1_11_2 {x0 x1 x2 x3 x4 x5 x6 x7 : Value} (r : Nat) (hq : 100 ≤ q) (f : zH → Option β) : zpf (blk q 1 (ce1 (.inr (11, [x0, x1, x2, x3, x4, x5, x6, x7]))) H) q 11 2 (.ref r) f = f (blk q 1 (ce1 (.inr (11, [x0, x1, .ref r, x3, x4, x5, x6, x7]))) H) := (pf_c b1_at (Nat.le_of_ble_eq_true rfl) hq rfl f).trans (congrArg f b1_set)
theorem pf1_11_3 {x0 x1 x2 x3 x4 x5 x6 x7 : Value} (hq : 100 ≤ q) (f : zH → Option β) : zpf (blk q 1 (ce1 (.inr (11, [x0, x1, x2, x3, x4, x5, x6, x7]))) H) q 11 3 (.int (nI 0)) f = f (blk q 1 (ce1 (.inr (11, [x0, x1, x2, .int (nI 0), x4, x5, x6, x7]))) H) := (pf_c b1_at (Nat.le_of_ble_eq_true rfl) hq rfl f).trans (congrArg f b1_set)
theorem pf1_11_4 {x0 x1 x2 x3 x4 x5 x6 x7 : Value} (r : Nat) (hq : 100 ≤ q) (f : zH → Option β) : zpf (blk q 1 (ce1 (.inr (11, [x0, x1, x2, x3, x4, x5, x6, x7]))) H) q 11 4 (.ref r) f = f (blk q 1 (ce1 (.inr (11, [x0, x1, x2, x3, .ref r, x5, x6, x7]))) H) := (pf_c b1_at (Nat.le_of_ble_eq_true rfl) hq rfl f).trans (congrArg f b1_set)
theorem pf1_11_5 {x0 x1 x2 x3 x4 x5 x6 x7 : Value} (r : Nat) (hq : 100 ≤ q) (f : zH → Option β) : zpf (blk q 1 (ce1 (.inr (11, [x0, x1, x2, x3, x4, x5, x6, x7]))) H) q 11 5 (.ref r) f = f (blk q 1 (ce1 (.inr (11, [x0, x1, x2, x3, x4, .ref r, x6, x7]))) H) := (pf_c b1_at (Nat.le_of_ble_eq_true rfl) hq rfl f).trans (congrArg f b1_set)
theorem pf1_11_6 {x0 x1 x2 x3 x4 x5 x6 x7 : Value} (r : Nat) (hq : 100 ≤ q) (f : zH → Option β) : zpf (blk q 1 (ce1 (.inr (11, [x0, x1, x2, x3, x4, x5, x6, x7]))) H) q 11 6 (.ref r) f = f (blk q 1 (ce1 (.inr (11, [x0, x1, x2, x3, x4, x5, .ref r, x7]))) H) := (pf_c b1_at (Nat.le_of_ble_eq_true rfl) hq rfl f).trans (congrArg f b1_set)
theorem pf1_11_7 {x0 x1 x2 x3 x4 x5 x6 x7 : Value} (r : Nat) (hq : 100 ≤ q) (f : zH → Option β) : zpf (blk q 1 (ce1 (.inr (11, [x0, x1, x2, x3, x4, x5, x6, x7]))) H) q 11 7 (.ref r) f = f (blk q 1 (ce1 (.inr (11, [x0, x1, x2, x3, x4, x5, x6, .ref r]))) H) := (pf_c b1_at (Nat.le_of_ble_eq_true rfl) hq rfl f).trans (congrArg f b1_set)
theorem kd1_11 {fs : List Value} : zkd (blk q 1 (ce1 (.inr (11, fs))) H) q = 11 := kd_c b1_at
theorem pf1_12_0 {x0 x1 x2 x3 x4 x5 x6 x7 x8 x9 x10 x11 x12 x13 x14 : Value} (r : Nat) (hq : 100 ≤ q) (f : zH → Option β) : zpf (blk q 1 (ce1 (.inr (12, [x0, x1, x2, x3, x4, x5, x6, x7, x8, x9, x10, x11, x12, x13, x14]))) H) q 12 0 (.ref r) f = f (blk q 1 (ce1 (.inr (12, [.ref r, x1, x2, x3, x4, x5, x6, x7, x8, x9, x10, x11, x12, x13, x14]))) H) := (pf_c b1_at (Nat.le_of_ble_eq_true rfl) hq rfl f).trans (congrArg f b1_set)
theorem pf1_12_1 {x0 x1 x2 x3 x4 x5 x6 x7 x8 x9 x10 x11 x12 x13 x14 : Value} (r : Nat) (hq : 100 ≤ q) (f : zH → Option β) : zpf (blk q 1 (ce1 (.inr (12, [x0, x1, x2, x3, x4, x5, x6, x7, x8, x9, x10, x11, x12, x13, x14]))) H) q 12 1 (.ref r) f = f (blk q 1 (ce1 (.inr (12, [x0, .ref r, x2, x3, x4, x5, x6, x7, x8, x9, x10, x11, x12, x13, x14]))) H) := (pf_c b1_at (Nat.le_of_ble_eq_true rfl) hq rfl f).trans (congrArg f b1_set)
theorem pf1_12_2 {x0 x1 x2 x3 x4 x5 x6 x7 x8 x9 x10 x11 x12 x13 x14 : Value} (hq : 100 ≤ q) (f : zH → Option β) : zpf (blk q 1 (ce1 (.inr (12, [x0, x1, x2, x3, x4, x5, x6, x7, x8, x9, x10, x11, x12, x13, x14]))) H) q 12 2 (.int (nI 0)) f = f (blk q 1 (ce1 (.inr (12, [x0, x1, .int (nI 0), x3, x4, x5, x6, x7, x8, x9, x10, x11, x12, x13, x14]))) H) := (pf_c b1_at (Nat.le_of_ble_eq_true rfl) hq rfl f).trans (congrArg f b1_set)
theorem pf1_12_3 {x0 x1 x2 x3 x4 x5 x6 x7 x8 x9 x10 x11 x12 x13 x14 : Value} (r : Nat) (hq : 100 ≤ q) (f : zH → Option β) : zpf (blk q 1 (ce1 (.inr (12, [x0, x1, x2, x3, x4, x5, x6, x7, x8, x9, x10, x11, x12, x13, x14]))) H) q 12 3 (.ref r) f = f (blk q 1 (ce1 (.inr (12, [x0, x1, x2, .ref r, x4, x5, x6, x7, x8, x9, x10, x11, x12, x13, x14]))) H) := (pf_c b1_at (Nat.le_of_ble_eq_true rfl) hq rfl f).trans (congrArg f b1_set)
theorem pf1_12_4 {x0 x1 x2 x3 x4 x5 x6 x7 x8 x9 x10 x11 x12 x13 x14 : Value} (r : Int32) (hq : 100 ≤ q) (f : zH → Option β) : zpf (blk q 1 (ce1 (.inr (12, [x0, x1, x2, x3, x4, x5, x6, x7, x8, x9, x10, x11, x12, x13, x14]))) H) q 12 4 (.int r) f = f (blk q 1 (ce1 (.inr (12, [x0, x1, x2, x3, .int r, x5, x6, x7, x8, x9, x10, x11, x12, x13, x14]))) H) := (pf_c b1_at (Nat.le_of_ble_eq_true rfl) hq rfl f).trans (congrArg f b1_set)
theorem pf1_12_5 {x0 x1 x2 x3 x4 x5 x6 x7 x8 x9 x10 x11 x12 x13 x14 : Value} (r : Nat) (hq : 100 ≤ q) (f : zH → Option β) : zpf (blk q 1 (ce1 (.inr (12, [x0, x1, x2, x3, x4, x5, x6, x7, x8, x9, x10, x11, x12, x13, x14]))) H) q 12 5 (.ref r) f = f (blk q 1 (ce1 (.inr (12, [x0, x1, x2, x3, x4, .ref r, x6, x7, x8, x9, x10, x11, x12, x13, x14]))) H) := (pf_c b1_at (Nat.le_of_ble_eq_true rfl) hq rfl f).trans (congrArg f b1_set)
theorem pf1_12_6 {x0 x1 x2 x3 x4 x5 x6 x7 x8 x9 x10 x11 x12 x13 x14 : Value} (r : Nat) (hq : 100 ≤ q) (f : zH → Option β) : zpf (blk q 1 (ce1 (.inr (12, [x0, x1, x2, x3, x4, x5, x6, x7, x8, x9, x10, x11, x12, x13, x14]))) H) q 12 6 (.ref r) f = f (blk q 1 (ce1 (.inr (12, [x0, x1, x2, x3, x4, x5, .ref r, x7, x8, x9, x10, x11, x12, x13, x14]))) H) := (pf_c b1_at (Nat.le_of_ble_eq_true rfl) hq rfl f).trans (congrArg f b1_set)
theorem pf1_12_7 {x0 x1 x2 x3 x4 x5 x6 x7 x8 x9 x10 x11 x12 x13 x14 : Value} (hq : 100 ≤ q) (f : zH → Option β) : zpf (blk q 1 (ce1 (.inr (12, [x0, x1, x2, x3, x4, x5, x6, x7, x8, x9, x10, x11, x12, x13, x14]))) H) q 12 7 (.int (nI 0)) f = f (blk q 1 (ce1 (.inr (12, [x0, x1, x2, x3, x4, x5, x6, .int (nI 0), x8, x9, x10, x11, x12, x13, x14]))) H) := (pf_c b1_at (Nat.le_of_ble_eq_true rfl) hq rfl f).trans (congrArg f b1_set)
theorem pf1_12_8 {x0 x1 x2 x3 x4 x5 x6 x7 x8 x9 x10 x11 x12 x13 x14 : Value} (r : Nat) (hq : 100 ≤ q) (f : zH → Option β) : zpf (blk q 1 (ce1 (.inr (12, [x0, x1, x2, x3, x4, x5, x6, x7, x8, x9, x10, x11, x12, x13, x14]))) H) q 12 8 (.ref r) f = f (blk q 1 (ce1 (.inr (12, [x0, x1, x2, x3, x4, x5, x6, x7, .ref r, x9, x10, x11, x12, x13, x14]))) H) := (pf_c b1_at (Nat.le_of_ble_eq_true rfl) hq rfl f).trans (congrArg f b1_set)
theorem pf1_12_9 {x0 x1 x2 x3 x4 x5 x6 x7 x8 x9 x10 x11 x12 x13 x14 : Value} (r : Int32) (hq : 100 ≤ q) (f : zH → Option β) : zpf (blk q 1 (ce1 (.inr (12, [x0, x1, x2, x3, x4, x5, x6, x7, x8, x9, x10, x11, x12, x13, x14]))) H) q 12 9 (.int r) f = f (blk q 1 (ce1 (.inr (12, [x0, x1, x2, x3, x4, x5, x6, x7, x8, .int r, x10, x11, x12, x13, x14]))) H) := (pf_c b1_at (Nat.le_of_ble_eq_true rfl) hq rfl f).trans (congrArg f b1_set)
theorem pf1_12_10 {x0 x1 x2 x3 x4 x5 x6 x7 x8 x9 x10 x11 x12 x13 x14 : Value} (r : Nat) (hq : 100 ≤ q) (f : zH → Option β) : zpf (blk q 1 (ce1 (.inr (12, [x0, x1, x2, x3, x4, x5, x6, x7, x8, x9, x10, x11, x12, x13, x14]))) H) q 12 10 (.ref r) f = f (blk q 1 (ce1 (.inr (12, [x0, x1, x2, x3, x4, x5, x6, x7, x8, x9, .ref r, x11, x12, x13, x14]))) H) := (pf_c b1_at (Nat.le_of_ble_eq_true rfl) hq rfl f).trans (congrArg f b1_set)
theorem pf1_12_11 {x0 x1 x2 x3 x4 x5 x6 x7 x8 x9 x10 x11 x12 x13 x14 : Value} (r : Int32) (hq : 100 ≤ q) (f : zH → Option β) : zpf (blk q 1 (ce1 (.inr (12, [x0, x1, x2, x3, x4, x5, x6, x7, x8, x9, x10, x11, x12, x13, x14]))) H) q 12 11 (.int r) f = f (blk q 1 (ce1 (.inr (12, [x0, x1, x2, x3, x4, x5, x6, x7, x8, x9, x10, .int r, x12, x13, x14]))) H) := (pf_c b1_at (Nat.le_of_ble_eq_true rfl) hq rfl f).trans (congrArg f b1_set)
theorem pf1_12_12 {x0 x1 x2 x3 x4 x5 x6 x7 x8 x9 x10 x11 x12 x13 x14 : Value} (r : Int32) (hq : 100 ≤ q) (f : zH → Option β) : zpf (blk q 1 (ce1 (.inr (12, [x0, x1, x2, x3, x4, x5, x6, x7, x8, x9, x10, x11, x12, x13, x14]))) H) q 12 12 (.int r) f = f (blk q 1 (ce1 (.inr (12, [x0, x1, x2, x3, x4, x5, x6, x7, x8, x9, x10, x11, .int r, x13, x14]))) H) := (pf_c b1_at (Nat.le_of_ble_eq_true rfl) hq rfl f).trans (congrArg f b1_set)
theorem pf1_12_13 {x0 x1 x2 x3 x4 x5 x6 x7 x8 x9 x10 x11 x12 x13 x14 : Value} (hq : 100 ≤ q) (f : zH → Option β) : zpf (blk q 1 (ce1 (.inr (12, [x0, x1, x2, x3, x4, x5, x6, x7, x8, x9, x10, x11, x12, x13, x14]))) H) q 12 13 (.int (nI 0)) f = f (blk q 1 (ce1 (.inr (12, [x0, x1, x2, x3, x4, x5, x6, x7, x8, x9, x10, x11, x12, .int (nI 0), x14]))) H) := (pf_c b1_at (Nat.le_of_ble_eq_true rfl) hq rfl f).trans (congrArg f b1_set)
theorem pf1_12_14 {x0 x1 x2 x3 x4 x5 x6 x7 x8 x9 x10 x11 x12 x13 x14 : Value} (r : Nat) (hq : 100 ≤ q) (f : zH → Option β) : zpf (blk q 1 (ce1 (.inr (12, [x0, x1, x2, x3, x4, x5, x6, x7, x8, x9, x10, x11, x12, x13, x14]))) H) q 12 14 (.ref r) f = f (blk q 1 (ce1 (.inr (12, [x0, x1, x2, x3, x4, x5, x6, x7, x8, x9, x10, x11, x12, x13, .ref r]))) H) := (pf_c b1_at (Nat.le_of_ble_eq_true rfl) hq rfl f).trans (congrArg f b1_set)
theorem kd1_12 {fs : List Value} : zkd (blk q 1 (ce1 (.inr (12, fs))) H) q = 12 := kd_c b1_at
end
