/-! NEW objects: the leaves -/
section
variable {h H : zH} {q a : Nat} {β : Type}
/-- a constructor makes N cells of Z fields, like these -/
def mkO (M N Z : Nat) (v0 : zC) (z0 : Nat) (c : Nat → Nat → zC) : Prop := ∀ h : zH, ∃ H', ev M [.ref (100 + h.1)] (znew h v0 z0) = some (none, H') ∧ H'.1 = h.1 + N ∧ H'.2.1 = h.2.1 + Z ∧ isB H' (100 + h.1) N (c (100 + h.1)) ∧ ∀ p, p < 100 + h.1 → H'.2.2 p = h.2.2 p
theorem mkO.of {M N Z z0 : Nat} {v0 : zC} {c : Nat → Nat → zC} (e : ∀ h : zH, ev M [.ref (100 + h.1)] (blk (100 + h.1) 1 (ce1 v0) (alc h 1 z0)) = some (none, blk (100 + h.1) N (c (100 + h.1)) (alc h N Z))) : mkO M N Z v0 z0 c := fun h => ⟨blk (100 + h.1) N (c (100 + h.1)) (alc h N Z), by rw [znew_b]; exact e h, rfl, rfl, blk_isB, fun p hp => blk_out (Or.inl hp)⟩
theorem zz0_0 : zz0 0 = .inl fun _ => 0 := rfl
theorem zz0_1 : zz0 1 = .inr (.inl fun _ => 0) := rfl
theorem zz0_2 : zz0 2 = .inl fun _ => 0 := rfl
theorem zz0_3 : zz0 3 = .inl fun _ => 0 := rfl
theorem si1 {t m k : Nat} {g : Nat → Int32} (hk : k < m) (hm : m < 2 ^ 31) (hq : 100 ≤ q) (x : Int32) (f : zH → Option β) : zsi (blk q 1 (ce1 (.inl (t, m, .inl g))) H) q t (nI k) x f = f (blk q 1 (ce1 (.inl (t, m, .inl (upd g k x)))) H) := (si_c b1_at hk hm hq x f).trans (congrArg f b1_set)
theorem sj1 {m k : Nat} {g : Nat → Int64} (hk : k < m) (hm : m < 2 ^ 31) (hq : 100 ≤ q) (x : Int64) (f : zH → Option β) : zsj (blk q 1 (ce1 (.inl (1, m, .inr (.inl g)))) H) q (nI k) x f = f (blk q 1 (ce1 (.inl (1, m, .inr (.inl (vp_updL g k x))))) H) := (sj_c b1_at hk hm hq x f).trans (congrArg f b1_set)
def newR : tyR := (fun _ => 0, upd (upd (fun _ => 0) 0 (nI 99999)) 1 (nI 99999), fun _ => 0, fun _ => 0, nI 0)
theorem s_newR : ev 3 [.ref (100 + h.1)] (blk (100 + h.1) 1 (ce1 (.inr (6, [.null, .null, .null, .null, .int 0]))) (alc h 1 5)) = some (none, blk (100 + h.1) 5 (fun k => cR (100 + h.1) newR k) (alc h 5 19)) := by
  simp (implicitDefEqProofs := false) (disch := omega) only [ze_3, zr_3_0, zr_3_1, zr_3_4, zr_3_5, zr_3_6, zr_3_8, zr_3_11, zr_3_12, zr_3_13, zr_3_15, zr_3_16, zr_3_17, zr_3_19, zr_3_20, zr_3_21, zr_3_22, zr_3_24, zr_3_25, zr_3_28, zr_3_29, zr_3_30, zr_3_32, zr_3_35, zr_3_36, zr_3_37, zr_3_39, zr_3_42, zr_3_43, zr_3_44, zr_3_47, true_or, or_true, true_and, and_true, if_true, if_false, ldA_ref, ldA_null, nl_int, nl_ref, nl_fl, nl_null, c1_int, c1_ref, c1_null, zcall_some, zpush_some, zpush_none, zsum_ref, zsum_int, zsum_long, zsum_nil, zsum_null, Nat.reduceAdd, Nat.reduceLeDiff, if_true, znew_b, alc_1, alc_blk, alc_alc, blk_1, ← Nat.add_assoc, Nat.reduceAdd, Nat.add_zero, mkA_ok, nI_clamp, zz0_0, si1, pf_skip, pf1_6_0, pf1_6_1, pf1_6_2, pf1_6_3, pf1_6_4, kd1_6]
  simp only [blk_snoc, Nat.reduceAdd]
  refine congrArg (fun x => some (none, x)) (blk_congr fun k hk => ?_)
  match k, hk with
  | 0, _ | 1, _ | 2, _ | 3, _ | 4, _ => rfl
  | k + 5, h => omega
def cG (a k : Nat) : zC := match k with
  | 0 => .inr (4, [.ref (a + 1), .ref (a + 2), .ref (a + 3), .ref (a + 4), .int (nI 0)])
  | 1 => .inl (0, 3, .inl fun _ => 0)
  | 2 => .inl (0, 3, .inl fun _ => 0)
  | 3 => .inl (0, 3, .inl fun _ => 0)
  | _ => .inl (1, 3, .inr (.inl fun _ => 0))
theorem s_newG : ev 5 [.ref (100 + h.1)] (blk (100 + h.1) 1 (ce1 (.inr (4, [.null, .null, .null, .null, .int 0]))) (alc h 1 5)) = some (none, blk (100 + h.1) 5 (fun k => cG (100 + h.1) k) (alc h 5 17)) := by
  simp (implicitDefEqProofs := false) (disch := omega) only [ze_5, zr_5_0, zr_5_1, zr_5_4, zr_5_5, zr_5_6, zr_5_8, zr_5_11, zr_5_12, zr_5_13, zr_5_15, zr_5_18, zr_5_19, zr_5_20, zr_5_22, zr_5_25, zr_5_26, zr_5_27, zr_5_29, zr_5_32, zr_5_33, zr_5_34, zr_5_37, true_or, or_true, true_and, and_true, if_true, if_false, ldA_ref, ldA_null, nl_int, nl_ref, nl_fl, nl_null, c1_int, c1_ref, c1_null, zcall_some, zpush_some, zpush_none, zsum_ref, zsum_int, zsum_long, zsum_nil, zsum_null, Nat.reduceAdd, Nat.reduceLeDiff, if_true, znew_b, alc_1, alc_blk, alc_alc, blk_1, ← Nat.add_assoc, Nat.reduceAdd, Nat.add_zero, mkA_ok, nI_clamp, pf_skip, pf1_4_0, pf1_4_1, pf1_4_2, pf1_4_3, pf1_4_4, kd1_4]
  simp only [blk_snoc, Nat.reduceAdd]
  refine congrArg (fun x => some (none, x)) (blk_congr fun k hk => ?_)
  match k, hk with
  | 0, _ | 1, _ | 2, _ | 3, _ | 4, _ => rfl
  | k + 5, h => omega
def newT : tyT := (fun _ => 0, fun _ => 0, fun _ => 0, fun _ => 0, nI 0, nI 0)
theorem s_newT : ev 7 [.ref (100 + h.1)] (blk (100 + h.1) 1 (ce1 (.inr (3, [.null, .int 0, .int 0, .null, .null, .null]))) (alc h 1 6)) = some (none, blk (100 + h.1) 5 (fun k => cT (100 + h.1) newT k) (alc h 5 126)) := by
  simp (implicitDefEqProofs := false) (disch := omega) only [ze_7, zr_7_0, zr_7_1, zr_7_4, zr_7_5, zr_7_7, zr_7_9, zr_7_12, zr_7_13, zr_7_14, zr_7_17, zr_7_18, zr_7_19, zr_7_22, zr_7_23, zr_7_25, zr_7_27, zr_7_30, zr_7_31, zr_7_33, zr_7_35, zr_7_38, zr_7_39, zr_7_41, zr_7_43, zr_7_46, true_or, or_true, true_and, and_true, if_true, if_false, ldA_ref, ldA_null, nl_int, nl_ref, nl_fl, nl_null, c1_int, c1_ref, c1_null, zcall_some, zpush_some, zpush_none, zsum_ref, zsum_int, zsum_long, zsum_nil, zsum_null, Nat.reduceAdd, Nat.reduceLeDiff, if_true, znew_b, alc_1, alc_blk, alc_alc, blk_1, ← Nat.add_assoc, Nat.reduceAdd, Nat.add_zero, mkA_ok, nI_clamp, pf_skip, pf1_3_0, pf1_3_1, pf1_3_2, pf1_3_3, pf1_3_4, pf1_3_5, kd1_3]
  simp only [blk_snoc, Nat.reduceAdd]
  refine congrArg (fun x => some (none, x)) (blk_congr fun k hk => ?_)
  match k, hk with
  | 0, _ | 1, _ | 2, _ | 3, _ | 4, _ => rfl
  | k + 5, h => omega
def newD : tyD := fun _ => 0
theorem s_newD : ev 8 [.ref (100 + h.1)] (blk (100 + h.1) 1 (ce1 (.inr (2, [.null]))) (alc h 1 1)) = some (none, blk (100 + h.1) 2 (fun k => cD (100 + h.1) newD k) (alc h 2 61)) := by
  simp (implicitDefEqProofs := false) (disch := omega) only [ze_8, zr_8_0, zr_8_1, zr_8_4, zr_8_5, zr_8_7, zr_8_9, zr_8_12, true_or, or_true, true_and, and_true, if_true, if_false, ldA_ref, ldA_null, nl_int, nl_ref, nl_fl, nl_null, c1_int, c1_ref, c1_null, zcall_some, zpush_some, zpush_none, zsum_ref, zsum_int, zsum_long, zsum_nil, zsum_null, Nat.reduceAdd, Nat.reduceLeDiff, if_true, znew_b, alc_1, alc_blk, alc_alc, blk_1, ← Nat.add_assoc, Nat.reduceAdd, Nat.add_zero, mkA_ok, nI_clamp, pf_skip, pf1_2_0, kd1_2]
  simp only [blk_snoc, Nat.reduceAdd]
  refine congrArg (fun x => some (none, x)) (blk_congr fun k hk => ?_)
  match k, hk with
  | 0, _ | 1, _ => rfl
  | k + 2, h => omega
def cSB (a k : Nat) : zC := match k with
  | 0 => .inr (0, [.ref (a + 1), .int (nI 0), .int 0, .int 0])
  | _ => .inl (3, 16, .inl fun _ => 0)
theorem s_newSB : ev 12 [.ref (100 + h.1)] (blk (100 + h.1) 1 (ce1 (.inr (0, [.null, .int 0, .int 0, .int 0]))) (alc h 1 4)) = some (none, blk (100 + h.1) 2 (fun k => cSB (100 + h.1) k) (alc h 2 20)) := by
  simp (implicitDefEqProofs := false) (disch := omega) only [ze_12, zr_12_0, zr_12_1, zr_12_3, zr_12_6, ze_13, zr_13_0, zr_13_1, zr_13_4, zr_13_7, zr_13_10, zr_13_11, zr_13_12, zr_13_14, zr_13_17, zr_13_18, zr_13_19, zr_13_22, zr_13_25, zr_13_26, zr_13_27, zr_13_30, zr_13_33, zr_13_34, zr_13_35, zr_13_38, true_or, or_true, true_and, and_true, if_true, if_false, ldA_ref, ldA_null, nl_int, nl_ref, nl_fl, nl_null, c1_int, c1_ref, c1_null, zcall_some, zpush_some, zpush_none, zsum_ref, zsum_int, zsum_long, zsum_nil, zsum_null, Nat.reduceAdd, Nat.reduceLeDiff, if_true, znew_b, alc_1, alc_blk, alc_alc, blk_1, ← Nat.add_assoc, Nat.reduceAdd, Nat.add_zero, mkA_ok, nI_clamp, pf_skip, pf1_0_0, pf1_0_1, pf1_0_2, pf1_0_3, kd1_0, show ¬ (1 : Int32) = nI 0 from by decide]
  simp only [blk_snoc, Nat.reduceAdd]
  refine congrArg (fun x => some (none, x)) (blk_congr fun k hk => ?_)
  match k, hk with
  | 0, _ | 1, _ => rfl
  | k + 2, h => omega
theorem mkO_R : mkO 3 5 19 (.inr (6, [.null, .null, .null, .null, .int 0])) 5 (fun a k => cR a newR k) := mkO.of fun h => s_newR
theorem mkO_G : mkO 5 5 17 (.inr (4, [.null, .null, .null, .null, .int 0])) 5 (fun a k => cG a k) := mkO.of fun h => s_newG
theorem mkO_T : mkO 7 5 126 (.inr (3, [.null, .int 0, .int 0, .null, .null, .null])) 6 (fun a k => cT a newT k) := mkO.of fun h => s_newT
theorem mkO_D : mkO 8 2 61 (.inr (2, [.null])) 1 (fun a k => cD a newD k) := mkO.of fun h => s_newD
theorem mkO_SB : mkO 12 2 20 (.inr (0, [.null, .int 0, .int 0, .int 0])) 4 (fun a k => cSB a k) := mkO.of fun h => s_newSB
theorem mkO_S : mkO 10 3 220 (.inr (7, [.null, .null, .int 0, .long 0])) 4 (fun a k => cS a nS k) := mkO.of fun h => s_newSlip
def newW0 : tyW := (fun _ => 0, fun _ => 0, fun _ => 0, fun _ => none, fun _ => 0, fun _ => 0, fun _ => 0, fun _ => 0, nI 0, nI 0, 0)
def cW5 (a k : Nat) : zC := match k with
  | 0 => .inr (10, [.ref (a + 1), .ref (a + 2), .ref (a + 3), .ref (a + 4), .null, .int 0, .long 0])
  | 1 => .inl (0, 36, .inl fun _ => 0)
  | 2 => .inl (0, 36, .inl fun _ => 0)
  | 3 => .inl (1, 60, .inr (.inl fun _ => 0))
  | _ => .inl (5, 12, .inr (.inr (.inr (.inr fun _ => none))))
theorem s_newW1 : ev 4 [.ref (100 + h.1)] (blk (100 + h.1) 1 (ce1 (.inr (10, [.null, .null, .null, .null, .null, .int 0, .long 0]))) (alc h 1 7)) = rn 4 37 [.ref (100 + h.1), .float 0] [] (blk (100 + h.1) 5 (fun k => cW5 (100 + h.1) k) (alc h 5 151)) := by
  simp (implicitDefEqProofs := false) (disch := omega) only [ze_4, zr_4_0, zr_4_1, zr_4_4, zr_4_5, zr_4_7, zr_4_9, zr_4_12, zr_4_13, zr_4_15, zr_4_17, zr_4_20, zr_4_21, zr_4_23, zr_4_25, zr_4_28, zr_4_29, zr_4_31, zr_4_34, true_or, or_true, true_and, and_true, if_true, if_false, ldA_ref, ldA_null, nl_int, nl_ref, nl_fl, nl_null, c1_int, c1_ref, c1_null, zcall_some, zpush_some, zpush_none, zsum_ref, zsum_int, zsum_long, zsum_nil, zsum_null, Nat.reduceAdd, Nat.reduceLeDiff, if_true, znew_b, alc_1, alc_blk, alc_alc, blk_1, ← Nat.add_assoc, Nat.reduceAdd, Nat.add_zero, mkA_ok, nI_clamp, pf_skip, pf1_10_0, pf1_10_1, pf1_10_2, pf1_10_3, pf1_10_4, pf1_10_5, pf1_10_6, kd1_10]
  simp only [blk_snoc, Nat.reduceAdd]
  refine congrArg (rn 4 37 [.ref (100 + h.1), .float 0] []) (blk_congr fun k hk => ?_)
  match k, hk with
  | 0, _ | 1, _ | 2, _ | 3, _ | 4, _ => rfl
  | k + 5, h => omega
/-- the days of a new worker -/
def en30 (i : Nat) : Nat → Int32 := fun k => if 12 ≤ k ∧ k < 12 + i then nI 30 else 0
theorem en30_0 : en30 0 = fun _ => 0 := funext fun k => if_neg (by omega)
theorem en30_up (i : Nat) : upd (en30 i) (12 + i) (nI 30) = en30 (i + 1) := by
  funext k
  show (if k = 12 + i then nI 30 else if 12 ≤ k ∧ k < 12 + i then nI 30 else 0) = if 12 ≤ k ∧ k < 12 + (i + 1) then nI 30 else 0
  by_cases h : k = 12 + i
  · rw [if_pos h, if_pos (by omega)]
  · rw [if_neg h]
    by_cases h2 : 12 ≤ k ∧ k < 12 + i
    · rw [if_pos h2, if_pos (by omega)]
    · rw [if_neg h2, if_neg (by omega)]
def wDay (i : Nat) : tyW := sW_en newW0 (en30 i)
theorem wDay_en (i : Nat) : gW_en (wDay i) = en30 i := rfl
theorem wDay_up (i : Nat) : sW_en (wDay i) (en30 (i + 1)) = wDay (i + 1) := rfl
def newW : tyW := wDay 12
theorem s_daysL (ha : 100 ≤ a) : ∀ (j i : Nat), i + j = 12 → rn 4 60 [.ref a, .int (nI i)] [] (blk a 10 (cW a (wDay i)) H) = some (none, blk a 10 (cW a newW) H) := by
  intro j
  induction j with
  | zero =>
    intro i hi
    rw [zl_4_60, show i = 12 by omega]
    simp (implicitDefEqProofs := false) (disch := omega) only [zr_4_61, zr_4_63, zr_4_66, zr_4_67, zr_4_70, zr_4_72, zr_4_73, zr_4_74, zr_4_76, zr_4_77, zr_4_80, zr_4_83, true_or, or_true, true_and, and_true, if_true, if_false, ldA_ref, ldA_null, nl_int, nl_ref, nl_fl, nl_null, c1_int, c1_ref, c1_null, Nat.zero_add, Nat.zero_mul, Nat.one_mul, nI_add, nI_leI, nI_ltI, nI_eq, nI_mul, Nat.le_refl, zcall_some, zpush_some, zpush_none, zsum_ref, zsum_int, zsum_long, zsum_nil, zsum_null, Nat.reduceAdd, Nat.reduceLeDiff, if_true]
    rfl
  | succ j ih =>
    intro i hi
    have ih2 := ih (i + 1) (by omega)
    rw [zl_4_60]
    simp (implicitDefEqProofs := false) (disch := omega) only [zr_4_61, zr_4_63, zr_4_66, zr_4_67, zr_4_70, zr_4_72, zr_4_73, zr_4_74, zr_4_76, zr_4_77, zr_4_80, true_or, or_true, true_and, and_true, if_true, if_false, ldA_ref, ldA_null, nl_int, nl_ref, nl_fl, nl_null, c1_int, c1_ref, c1_null, Nat.zero_add, Nat.zero_mul, Nat.one_mul, nI_add, nI_leI, nI_ltI, nI_eq, nI_mul, show ¬ 12 ≤ i from by omega, rdW_0 (blk_isB), rdW_1 (blk_isB), rdW_2 (blk_isB), rdW_3 (blk_isB), rdW_4 (blk_isB), rdW_5 (blk_isB), rdW_6 (blk_isB), rdW_7 (blk_isB), rdW_8 (blk_isB), rdW_9 (blk_isB), rdW_10 (blk_isB), rdW_11 (blk_isB), rdW_12 (blk_isB), rdW_13 (blk_isB), rdW_14 (blk_isB), rdW_15 (blk_isB), rdW_16 (blk_isB), rdW_17 (blk_isB), rdW_18 (blk_isB), rdW_19 (blk_isB), rdW_20 (blk_isB), rdW_21 (blk_isB), rdW_22 (blk_isB), rdW_23 (blk_isB), rdW_24 (blk_isB), rdW_25 (blk_isB), rdW_26 (blk_isB), rdW_27 (blk_isB), rdW_28 (blk_isB), rdW_29 (blk_isB), wrW_0 (ha), wrW_1 (ha), wrW_2 (ha), wrW_3 (ha), wrW_4 (ha), wrW_5 (ha), wrW_6 (ha), wrW_7 (ha), wrW_8 (ha), wrW_9 (ha), wrW_10 (ha), wrW_11 (ha), wDay_en, en30_up, wDay_up, zcall_some, zpush_some, zpush_none, zsum_ref, zsum_int, zsum_long, zsum_nil, zsum_null, Nat.reduceAdd, Nat.reduceLeDiff, if_true]
    exact ih2
theorem one_isB {v : zC} (e : H.2.2 a = v) : isB H a 1 (ce1 v) := fun k hk => by rw [show k = 0 by omega]; exact e
theorem mkO_W : mkO 4 10 168 (.inr (10, [.null, .null, .null, .null, .null, .int 0, .long 0])) 7 (fun a k => cW a newW k) := by
  intro h
  rw [znew_b, s_newW1]
  generalize hY : blk (100 + h.1) 5 (fun k => cW5 (100 + h.1) k) (alc h 5 151) = Y
  have bY : isB Y (100 + h.1) 5 (fun k => cW5 (100 + h.1) k) := by rw [← hY]; exact blk_isB
  have sY : Y.1 = h.1 + 5 ∧ Y.2.1 = h.2.1 + 151 := by rw [← hY]; exact ⟨rfl, rfl⟩
  have fY : ∀ p, p < 100 + h.1 → Y.2.2 p = h.2.2 p := fun p hp => by rw [← hY]; exact blk_out (Or.inl hp)
  obtain ⟨H1, e1, n1, z1, b1, f1⟩ := mkO_G Y
  have o1 : H1.2.2 (100 + h.1) = cW5 (100 + h.1) 0 := (f1 _ (by omega)).trans (bY 0 (by omega))
  have hb1 : blk (100 + h.1) 1 (ce1 (cW5 (100 + h.1) 0)) H1 = H1 := blk_id (one_isB o1)
  rw [← hb1] at e1
  generalize ha : 100 + h.1 = a at *
  have e2 : rn 4 37 [.ref a, .float 0] [] Y = rn 4 60 [.ref a, .int (nI 0)] [] (blk a 1 (ce1 (.inr (10, [.ref (a + 1), .ref (a + 2), .ref (a + 3), .ref (a + 4), .ref (100 + Y.1), .int (nI 0), .long 0]))) H1) := by
    have ec : cW5 a 0 = .inr (10, [.ref (a + 1), .ref (a + 2), .ref (a + 3), .ref (a + 4), .null, .int 0, .long 0]) := rfl
    rw [ec] at e1
    simp (implicitDefEqProofs := false) (disch := omega) only [zr_4_37, zr_4_38, zr_4_41, zr_4_42, zr_4_45, zr_4_48, zr_4_49, zr_4_50, zr_4_53, zr_4_54, zr_4_55, zr_4_58, zr_4_59, true_or, or_true, true_and, and_true, if_true, if_false, ldA_ref, ldA_null, nl_int, nl_ref, nl_fl, nl_null, c1_int, c1_ref, c1_null, e1, pf1_10_0, pf1_10_1, pf1_10_2, pf1_10_3, pf1_10_4, pf1_10_5, pf1_10_6, kd1_10, zcall_some, zpush_some, zpush_none, zsum_ref, zsum_int, zsum_long, zsum_nil, zsum_null, Nat.reduceAdd, Nat.reduceLeDiff, if_true]
  have q5 : 100 + Y.1 = a + 5 := by omega
  rw [q5] at e2 b1 f1
  generalize hZ : blk a 1 (ce1 (.inr (10, [.ref (a + 1), .ref (a + 2), .ref (a + 3), .ref (a + 4), .ref (a + 5), .int (nI 0), .long 0]))) H1 = Z at e2
  have zo : ∀ p, p ≠ a → Z.2.2 p = H1.2.2 p := fun p hp => by rw [← hZ]; exact blk_out (by omega)
  have za : Z.2.2 a = .inr (10, [.ref (a + 1), .ref (a + 2), .ref (a + 3), .ref (a + 4), .ref (a + 5), .int (nI 0), .long 0]) := by rw [← hZ]; exact b1_at
  have bZ : isB Z a 10 (cW a (wDay 0)) := fun k hk => by
    match k, hk with
    | 0, _ => exact za
    | 1, _ =>
      show Z.2.2 (a + 1) = .inl (0, 36, .inl (en30 0))
      rw [en30_0]
      exact (zo _ (by omega)).trans ((f1 _ (by omega)).trans (bY 1 (by omega)))
    | 2, _ => exact (zo _ (by omega)).trans ((f1 _ (by omega)).trans (bY 2 (by omega)))
    | 3, _ => exact (zo _ (by omega)).trans ((f1 _ (by omega)).trans (bY 3 (by omega)))
    | 4, _ => exact (zo _ (by omega)).trans ((f1 _ (by omega)).trans (bY 4 (by omega)))
    | 5, _ => exact (zo _ (by omega)).trans (b1 0 (by omega))
    | 6, _ => exact (zo _ (by omega)).trans (b1 1 (by omega))
    | 7, _ => exact (zo _ (by omega)).trans (b1 2 (by omega))
    | 8, _ => exact (zo _ (by omega)).trans (b1 3 (by omega))
    | 9, _ => exact (zo _ (by omega)).trans (b1 4 (by omega))
    | k + 10, h => omega
  have sZ : Z.1 = H1.1 ∧ Z.2.1 = H1.2.1 := by rw [← hZ]; exact ⟨rfl, rfl⟩
  have e3 := s_daysL (H := Z) (a := a) (by omega) 12 0 (by omega)
  rw [blk_id bZ] at e3
  refine ⟨_, e2.trans e3, ?_, ?_, blk_isB, fun p hp => ?_⟩
  · show Z.1 = _
    omega
  · show Z.2.1 = _
    omega
  · rw [blk_out (Or.inl hp), zo p (by omega), f1 p (by omega), fY p (by omega)]
end
