/-! THE REFERENCE: copies of whole states; changes with undo -/
section
variable {m : Nat} {r : Rst} {h : zH}
theorem cp_M12 (hm : 100 ≤ m) {sp dp n : Nat} (h1 : sp + n ≤ 8271) (h2 : dp + n ≤ 8271) {β : Type} (f : zH → Option β) : zcpI (putM m r h) (m + 1) (nI sp) (m + 2) (nI dp) (nI n) f = f (putM m (wSv r (va_cpy (rS r) (rSv r) sp dp n)) h) := by
  rw [cpJ_c (g1 := rS r) (g2 := rSv r) (n1 := 8271) (n2 := 8271) (putM_at _ _ _ _ (by omega)) (putM_at _ _ _ _ (by omega)) (by omega) (by omega) h1 h2 (by omega) (by omega) f]
  exact congrArg f (putM_set (by omega) rfl (z9 2 (fun _ => rfl) (fun _ => rfl) (fun h => absurd rfl h) (fun _ => rfl) (fun _ => rfl) (fun _ => rfl) (fun _ => rfl) (fun _ => rfl) (fun _ => rfl)))
theorem cp_M21 (hm : 100 ≤ m) {sp dp n : Nat} (h1 : sp + n ≤ 8271) (h2 : dp + n ≤ 8271) {β : Type} (f : zH → Option β) : zcpI (putM m r h) (m + 2) (nI sp) (m + 1) (nI dp) (nI n) f = f (putM m (wS r (va_cpy (rSv r) (rS r) sp dp n)) h) := by
  rw [cpJ_c (g1 := rSv r) (g2 := rS r) (n1 := 8271) (n2 := 8271) (putM_at _ _ _ _ (by omega)) (putM_at _ _ _ _ (by omega)) (by omega) (by omega) h1 h2 (by omega) (by omega) f]
  exact congrArg f (putM_set (by omega) rfl (z9 1 (fun _ => rfl) (fun h => absurd rfl h) (fun _ => rfl) (fun _ => rfl) (fun _ => rfl) (fun _ => rfl) (fun _ => rfl) (fun _ => rfl) (fun _ => rfl)))
theorem cp_M13 (hm : 100 ≤ m) {sp dp n : Nat} (h1 : sp + n ≤ 8271) (h2 : dp + n ≤ 49626) {β : Type} (f : zH → Option β) : zcpI (putM m r h) (m + 1) (nI sp) (m + 3) (nI dp) (nI n) f = f (putM m (wPa r (va_cpy (rS r) (rPa r) sp dp n)) h) := by
  rw [cpJ_c (g1 := rS r) (g2 := rPa r) (n1 := 8271) (n2 := 49626) (putM_at _ _ _ _ (by omega)) (putM_at _ _ _ _ (by omega)) (by omega) (by omega) h1 h2 (by omega) (by omega) f]
  exact congrArg f (putM_set (by omega) rfl (z9 3 (fun _ => rfl) (fun _ => rfl) (fun _ => rfl) (fun h => absurd rfl h) (fun _ => rfl) (fun _ => rfl) (fun _ => rfl) (fun _ => rfl) (fun _ => rfl)))
theorem cp_M33 (hm : 100 ≤ m) {sp dp n : Nat} (h1 : sp + n ≤ 49626) (h2 : dp + n ≤ 49626) {β : Type} (f : zH → Option β) : zcpI (putM m r h) (m + 3) (nI sp) (m + 3) (nI dp) (nI n) f = f (putM m (wPa r (va_cpy (rPa r) (rPa r) sp dp n)) h) := by
  rw [cpJ_c (g1 := rPa r) (g2 := rPa r) (n1 := 49626) (n2 := 49626) (putM_at _ _ _ _ (by omega)) (putM_at _ _ _ _ (by omega)) (by omega) (by omega) h1 h2 (by omega) (by omega) f]
  exact congrArg f (putM_set (by omega) rfl (z9 3 (fun _ => rfl) (fun _ => rfl) (fun _ => rfl) (fun h => absurd rfl h) (fun _ => rfl) (fun _ => rfl) (fun _ => rfl) (fun _ => rfl) (fun _ => rfl)))
theorem cp_M53 (hm : 100 ≤ m) {sp dp n : Nat} (h1 : sp + n ≤ 8271) (h2 : dp + n ≤ 49626) {β : Type} (f : zH → Option β) : zcpI (putM m r h) (m + 5) (nI sp) (m + 3) (nI dp) (nI n) f = f (putM m (wPa r (va_cpy (rBf r) (rPa r) sp dp n)) h) := by
  rw [cpJ_c (g1 := rBf r) (g2 := rPa r) (n1 := 8271) (n2 := 49626) (putM_at _ _ _ _ (by omega)) (putM_at _ _ _ _ (by omega)) (by omega) (by omega) h1 h2 (by omega) (by omega) f]
  exact congrArg f (putM_set (by omega) rfl (z9 3 (fun _ => rfl) (fun _ => rfl) (fun _ => rfl) (fun h => absurd rfl h) (fun _ => rfl) (fun _ => rfl) (fun _ => rfl) (fun _ => rfl) (fun _ => rfl)))
theorem cp_M31 (hm : 100 ≤ m) {sp dp n : Nat} (h1 : sp + n ≤ 49626) (h2 : dp + n ≤ 8271) {β : Type} (f : zH → Option β) : zcpI (putM m r h) (m + 3) (nI sp) (m + 1) (nI dp) (nI n) f = f (putM m (wS r (va_cpy (rPa r) (rS r) sp dp n)) h) := by
  rw [cpJ_c (g1 := rPa r) (g2 := rS r) (n1 := 49626) (n2 := 8271) (putM_at _ _ _ _ (by omega)) (putM_at _ _ _ _ (by omega)) (by omega) (by omega) h1 h2 (by omega) (by omega) f]
  exact congrArg f (putM_set (by omega) rfl (z9 1 (fun _ => rfl) (fun h => absurd rfl h) (fun _ => rfl) (fun _ => rfl) (fun _ => rfl) (fun _ => rfl) (fun _ => rfl) (fun _ => rfl) (fun _ => rfl)))
theorem cp_M14 (hm : 100 ≤ m) {sp dp n : Nat} (h1 : sp + n ≤ 8271) (h2 : dp + n ≤ 8271) {β : Type} (f : zH → Option β) : zcpI (putM m r h) (m + 1) (nI sp) (m + 4) (nI dp) (nI n) f = f (putM m (wKp r (va_cpy (rS r) (rKp r) sp dp n)) h) := by
  rw [cpJ_c (g1 := rS r) (g2 := rKp r) (n1 := 8271) (n2 := 8271) (putM_at _ _ _ _ (by omega)) (putM_at _ _ _ _ (by omega)) (by omega) (by omega) h1 h2 (by omega) (by omega) f]
  exact congrArg f (putM_set (by omega) rfl (z9 4 (fun _ => rfl) (fun _ => rfl) (fun _ => rfl) (fun _ => rfl) (fun h => absurd rfl h) (fun _ => rfl) (fun _ => rfl) (fun _ => rfl) (fun _ => rfl)))
theorem cp_M41 (hm : 100 ≤ m) {sp dp n : Nat} (h1 : sp + n ≤ 8271) (h2 : dp + n ≤ 8271) {β : Type} (f : zH → Option β) : zcpI (putM m r h) (m + 4) (nI sp) (m + 1) (nI dp) (nI n) f = f (putM m (wS r (va_cpy (rKp r) (rS r) sp dp n)) h) := by
  rw [cpJ_c (g1 := rKp r) (g2 := rS r) (n1 := 8271) (n2 := 8271) (putM_at _ _ _ _ (by omega)) (putM_at _ _ _ _ (by omega)) (by omega) (by omega) h1 h2 (by omega) (by omega) f]
  exact congrArg f (putM_set (by omega) rfl (z9 1 (fun _ => rfl) (fun h => absurd rfl h) (fun _ => rfl) (fun _ => rfl) (fun _ => rfl) (fun _ => rfl) (fun _ => rfl) (fun _ => rfl) (fun _ => rfl)))
theorem cp_M15 (hm : 100 ≤ m) {sp dp n : Nat} (h1 : sp + n ≤ 8271) (h2 : dp + n ≤ 8271) {β : Type} (f : zH → Option β) : zcpI (putM m r h) (m + 1) (nI sp) (m + 5) (nI dp) (nI n) f = f (putM m (wBf r (va_cpy (rS r) (rBf r) sp dp n)) h) := by
  rw [cpJ_c (g1 := rS r) (g2 := rBf r) (n1 := 8271) (n2 := 8271) (putM_at _ _ _ _ (by omega)) (putM_at _ _ _ _ (by omega)) (by omega) (by omega) h1 h2 (by omega) (by omega) f]
  exact congrArg f (putM_set (by omega) rfl (z9 5 (fun _ => rfl) (fun _ => rfl) (fun _ => rfl) (fun _ => rfl) (fun _ => rfl) (fun h => absurd rfl h) (fun _ => rfl) (fun _ => rfl) (fun _ => rfl)))
theorem cp_M51 (hm : 100 ≤ m) {sp dp n : Nat} (h1 : sp + n ≤ 8271) (h2 : dp + n ≤ 8271) {β : Type} (f : zH → Option β) : zcpI (putM m r h) (m + 5) (nI sp) (m + 1) (nI dp) (nI n) f = f (putM m (wS r (va_cpy (rBf r) (rS r) sp dp n)) h) := by
  rw [cpJ_c (g1 := rBf r) (g2 := rS r) (n1 := 8271) (n2 := 8271) (putM_at _ _ _ _ (by omega)) (putM_at _ _ _ _ (by omega)) (by omega) (by omega) h1 h2 (by omega) (by omega) f]
  exact congrArg f (putM_set (by omega) rfl (z9 1 (fun _ => rfl) (fun h => absurd rfl h) (fun _ => rfl) (fun _ => rfl) (fun _ => rfl) (fun _ => rfl) (fun _ => rfl) (fun _ => rfl) (fun _ => rfl)))
def psh (pa : Nat → Int64) (p : Nat) (q : Nat → Int64) : Nat → Int64 := if p = 6 then va_cpy q (va_cpy pa pa 8271 0 41355) 0 41355 8271 else va_cpy q pa 0 (8271 * p) 8271
def psn (p : Nat) : Nat := if p = 6 then 6 else p + 1
def rPsh (r : Rst) (p : Nat) (q : Nat → Int64) : Rst := wPm (wPa r (psh (rPa r) p q)) (nI (psn p))
theorem psh_at (pa q : Nat → Int64) {p i k : Nat} (hp : p ≤ 6) (hi : i < psn p) (hk : k < 8271) : psh pa p q (8271 * i + k) = if i + 1 = psn p then q k else if p = 6 then pa (8271 * (i + 1) + k) else pa (8271 * i + k) := by
  unfold psn at hi ⊢
  unfold psh
  by_cases h6 : p = 6
  · rw [if_pos h6] at hi ⊢
    rw [if_pos h6]
    show (if 41355 ≤ 8271 * i + k ∧ 8271 * i + k < 41355 + 8271 then q (0 + (8271 * i + k - 41355)) else if 0 ≤ 8271 * i + k ∧ 8271 * i + k < 0 + 41355 then pa (8271 + (8271 * i + k - 0)) else pa (8271 * i + k)) = _
    by_cases h5 : i + 1 = 6
    · rw [if_pos h5, if_pos (by omega), show 0 + (8271 * i + k - 41355) = k by omega]
    · rw [if_neg h5, if_neg (by omega), if_pos (by omega), if_pos h6, show 8271 + (8271 * i + k - 0) = 8271 * (i + 1) + k by omega]
  · rw [if_neg h6] at hi ⊢
    rw [if_neg h6]
    show (if 8271 * p ≤ 8271 * i + k ∧ 8271 * i + k < 8271 * p + 8271 then q (0 + (8271 * i + k - 8271 * p)) else pa (8271 * i + k)) = _
    by_cases h5 : i = p
    · rw [if_pos (by omega), if_pos (by omega), show 0 + (8271 * i + k - 8271 * p) = k by omega]
    · rw [if_neg (by omega), if_neg (by omega), if_neg h6]
theorem s_rpush1 (hm : 100 ≤ m) {p : Nat} (hp : p ≤ 6) (hpm : rPm r = nI p) : ev 209 [.ref m, .ref (m + 1)] (putM m r h) = some (none, putM m (rPsh r p (rS r)) h) := by
  by_cases h6 : p = 6
  · subst h6
    simp (implicitDefEqProofs := false) (disch := omega) only [ze_209, zr_209_0, zr_209_1, zr_209_4, zr_209_6, zr_209_9, zr_209_10, zr_209_13, zr_209_16, zr_209_17, zr_209_20, zr_209_21, zr_209_23, zr_209_26, zr_209_27, zr_209_28, zr_209_31, zr_209_32, zr_209_33, zr_209_36, zr_209_37, zr_209_38, zr_209_39, zr_209_42, zr_209_45, zr_209_46, zr_209_49, zr_209_50, zr_209_53, zr_209_56, zr_209_57, zr_209_58, zr_209_61, zr_209_62, zr_209_63, zr_209_66, true_or, or_true, true_and, and_true, if_true, if_false, ldA_ref, ldA_null, nl_int, nl_ref, nl_fl, nl_null, c1_int, c1_ref, c1_null, Nat.zero_add, Nat.zero_mul, Nat.one_mul, nI_add, nI_leI, nI_ltI, nI_eq, nI_mul, gf_M, hpm, cp_M33 hm, cp_M13 hm, pf_M4 hm, rw_all, hpm, nI_sub1 (show 0 < 6 by omega), Nat.reduceSub, zcall_some, zpush_some, zpush_none, zsum_ref, zsum_int, zsum_long, zsum_nil, zsum_null, Nat.reduceAdd, Nat.reduceLeDiff, if_true]
    try rfl
  · simp (implicitDefEqProofs := false) (disch := omega) only [ze_209, zr_209_0, zr_209_1, zr_209_4, zr_209_6, zr_209_9, zr_209_10, zr_209_13, zr_209_16, zr_209_17, zr_209_20, zr_209_21, zr_209_23, zr_209_26, zr_209_27, zr_209_28, zr_209_31, zr_209_32, zr_209_33, zr_209_36, zr_209_37, zr_209_38, zr_209_39, zr_209_42, zr_209_45, zr_209_46, zr_209_49, zr_209_50, zr_209_53, zr_209_56, zr_209_57, zr_209_58, zr_209_61, zr_209_62, zr_209_63, zr_209_66, true_or, or_true, true_and, and_true, if_true, if_false, ldA_ref, ldA_null, nl_int, nl_ref, nl_fl, nl_null, c1_int, c1_ref, c1_null, Nat.zero_add, Nat.zero_mul, Nat.one_mul, nI_add, nI_leI, nI_ltI, nI_eq, nI_mul, gf_M, hpm, h6, cp_M33 hm, cp_M13 hm, pf_M4 hm, rw_all, hpm, zcall_some, zpush_some, zpush_none, zsum_ref, zsum_int, zsum_long, zsum_nil, zsum_null, Nat.reduceAdd, Nat.reduceLeDiff, if_true]
    unfold rPsh psh psn
    rw [if_neg h6, if_neg h6]
theorem s_rpush5 (hm : 100 ≤ m) {p : Nat} (hp : p ≤ 6) (hpm : rPm r = nI p) : ev 209 [.ref m, .ref (m + 5)] (putM m r h) = some (none, putM m (rPsh r p (rBf r)) h) := by
  by_cases h6 : p = 6
  · subst h6
    simp (implicitDefEqProofs := false) (disch := omega) only [ze_209, zr_209_0, zr_209_1, zr_209_4, zr_209_6, zr_209_9, zr_209_10, zr_209_13, zr_209_16, zr_209_17, zr_209_20, zr_209_21, zr_209_23, zr_209_26, zr_209_27, zr_209_28, zr_209_31, zr_209_32, zr_209_33, zr_209_36, zr_209_37, zr_209_38, zr_209_39, zr_209_42, zr_209_45, zr_209_46, zr_209_49, zr_209_50, zr_209_53, zr_209_56, zr_209_57, zr_209_58, zr_209_61, zr_209_62, zr_209_63, zr_209_66, true_or, or_true, true_and, and_true, if_true, if_false, ldA_ref, ldA_null, nl_int, nl_ref, nl_fl, nl_null, c1_int, c1_ref, c1_null, Nat.zero_add, Nat.zero_mul, Nat.one_mul, nI_add, nI_leI, nI_ltI, nI_eq, nI_mul, gf_M, hpm, cp_M33 hm, cp_M53 hm, pf_M4 hm, rw_all, hpm, nI_sub1 (show 0 < 6 by omega), Nat.reduceSub, zcall_some, zpush_some, zpush_none, zsum_ref, zsum_int, zsum_long, zsum_nil, zsum_null, Nat.reduceAdd, Nat.reduceLeDiff, if_true]
    try rfl
  · simp (implicitDefEqProofs := false) (disch := omega) only [ze_209, zr_209_0, zr_209_1, zr_209_4, zr_209_6, zr_209_9, zr_209_10, zr_209_13, zr_209_16, zr_209_17, zr_209_20, zr_209_21, zr_209_23, zr_209_26, zr_209_27, zr_209_28, zr_209_31, zr_209_32, zr_209_33, zr_209_36, zr_209_37, zr_209_38, zr_209_39, zr_209_42, zr_209_45, zr_209_46, zr_209_49, zr_209_50, zr_209_53, zr_209_56, zr_209_57, zr_209_58, zr_209_61, zr_209_62, zr_209_63, zr_209_66, true_or, or_true, true_and, and_true, if_true, if_false, ldA_ref, ldA_null, nl_int, nl_ref, nl_fl, nl_null, c1_int, c1_ref, c1_null, Nat.zero_add, Nat.zero_mul, Nat.one_mul, nI_add, nI_leI, nI_ltI, nI_eq, nI_mul, gf_M, hpm, h6, cp_M33 hm, cp_M53 hm, pf_M4 hm, rw_all, hpm, zcall_some, zpush_some, zpush_none, zsum_ref, zsum_int, zsum_long, zsum_nil, zsum_null, Nat.reduceAdd, Nat.reduceLeDiff, if_true]
    unfold rPsh psh psn
    rw [if_neg h6, if_neg h6]
/-- a change that can be undone -/
def rChg (r : Rst) (p : Nat) : Rst := if rQ r = nI 0 then rPsh r p (rS r) else r
theorem rChg_S (p : Nat) : rS (rChg r p) = rS r := by
  unfold rChg
  split <;> rfl
theorem s_rchange (hm : 100 ≤ m) {p : Nat} (hp : p ≤ 6) (hpm : rPm r = nI p) : ev 208 [.ref m] (putM m r h) = some (none, putM m (rChg r p) h) := by
  unfold rChg
  by_cases hq : rQ r = nI 0
  · rw [if_pos hq]
    simp (implicitDefEqProofs := false) (disch := omega) only [ze_208, zr_208_0, zr_208_1, zr_208_4, zr_208_7, zr_208_8, zr_208_9, zr_208_12, zr_208_15, true_or, or_true, true_and, and_true, if_true, if_false, ldA_ref, ldA_null, nl_int, nl_ref, nl_fl, nl_null, c1_int, c1_ref, c1_null, Nat.zero_add, Nat.zero_mul, Nat.one_mul, nI_add, nI_leI, nI_ltI, nI_eq, nI_mul, kd_M, gf_M, hq, s_rpush1 hm hp hpm, zcall_some, zpush_some, zpush_none, zsum_ref, zsum_int, zsum_long, zsum_nil, zsum_null, Nat.reduceAdd, Nat.reduceLeDiff, if_true]
  · rw [if_neg hq]
    simp (implicitDefEqProofs := false) (disch := omega) only [ze_208, zr_208_0, zr_208_1, zr_208_4, zr_208_7, zr_208_8, zr_208_9, zr_208_12, zr_208_15, true_or, or_true, true_and, and_true, if_true, if_false, ldA_ref, ldA_null, nl_int, nl_ref, nl_fl, nl_null, c1_int, c1_ref, c1_null, Nat.zero_add, Nat.zero_mul, Nat.one_mul, nI_add, nI_leI, nI_ltI, nI_eq, nI_mul, kd_M, gf_M, hq, zcall_some, zpush_some, zpush_none, zsum_ref, zsum_int, zsum_long, zsum_nil, zsum_null, Nat.reduceAdd, Nat.reduceLeDiff, if_true]
theorem s_rset2 (hm : 100 ≤ m) {p k : Nat} (hp : p ≤ 6) (hpm : rPm r = nI p) (hk : k < 8271) (v : Int32) : ev 207 [.ref m, .int (nI k), .int v] (putM m r h) = some (some (.int (rS r k).toInt32), putM m (wAt (rChg r p) k v.toInt64) h) := by
  simp (implicitDefEqProofs := false) (disch := omega) only [ze_207, zr_207_0, zr_207_1, zr_207_4, zr_207_5, zr_207_8, zr_207_9, zr_207_10, zr_207_11, zr_207_12, zr_207_13, zr_207_16, zr_207_17, zr_207_18, zr_207_19, zr_207_20, zr_207_21, true_or, or_true, true_and, and_true, if_true, if_false, ldA_ref, ldA_null, nl_int, nl_ref, nl_fl, nl_null, c1_int, c1_ref, c1_null, Nat.zero_add, Nat.zero_mul, Nat.one_mul, nI_add, nI_leI, nI_ltI, nI_eq, nI_mul, kd_M, gf_M0, s_rchange hm hp hpm, lj_M1 hk, sj_S hm hk, rChg_S, zcall_some, zpush_some, zpush_none, zsum_ref, zsum_int, zsum_long, zsum_nil, zsum_null, Nat.reduceAdd, Nat.reduceLeDiff, if_true]
theorem s_rsetRule (hm : 100 ≤ m) {p k : Nat} (hp : p ≤ 6) (hpm : rPm r = nI p) (hk : k < 8271) (v : Int32) : ev 214 [.ref m, .int (nI k), .int v] (putM m r h) = some (some (.int (rS r k).toInt32), putM m (wAt (wAt (rChg r p) k v.toInt64) 2 (rS (wAt (rChg r p) k v.toInt64) 2 + 1)) h) := by
  simp (implicitDefEqProofs := false) (disch := omega) only [ze_214, zr_214_0, zr_214_1, zr_214_2, zr_214_3, zr_214_6, zr_214_7, zr_214_8, zr_214_11, zr_214_12, zr_214_13, zr_214_14, zr_214_15, zr_214_16, zr_214_17, zr_214_18, true_or, or_true, true_and, and_true, if_true, if_false, ldA_ref, ldA_null, nl_int, nl_ref, nl_fl, nl_null, c1_int, c1_ref, c1_null, Nat.zero_add, Nat.zero_mul, Nat.one_mul, nI_add, nI_leI, nI_ltI, nI_eq, nI_mul, kd_M, gf_M0, s_rset2 hm hp hpm hk, lj_M1 (show 2 < 8271 by omega), sj_S hm (show 2 < 8271 by omega), zcall_some, zpush_some, zpush_none, zsum_ref, zsum_int, zsum_long, zsum_nil, zsum_null, Nat.reduceAdd, Nat.reduceLeDiff, if_true]
end
