/-! NEW objects: books, history, trial, text, the run -/
section
variable {h H : zH} {q a : Nat} {β : Type}
def newB : tyB := (newR, fun _ => newW, nI 0, nI 0, nI 0)
def arI (b i : Nat) : Nat → Option Nat := fun k => if k < i then some (b + 7 + 10 * k) else none
theorem arI_0 (b : Nat) : arI b 0 = fun _ => none := funext fun k => if_neg (by omega)
theorem arI_up (b i : Nat) : va_up (arI b i) i (some (b + 7 + 10 * i)) = arI b (i + 1) := by
  funext k
  show (if k = i then some (b + 7 + 10 * i) else if k < i then some (b + 7 + 10 * k) else none) = if k < i + 1 then some (b + 7 + 10 * k) else none
  by_cases h : k = i
  · rw [if_pos h, if_pos (by omega), h]
  · rw [if_neg h]
    by_cases h2 : k < i
    · rw [if_pos h2, if_pos (by omega)]
    · rw [if_neg h2, if_neg (by omega)]
def cB2 (a k : Nat) : zC := match k with
  | 0 => .inr (1, [.ref (a + 1), .null, .int 0, .int 0, .int 0])
  | _ => .inl (4, 3, .inr (.inr (.inr (.inr fun _ => none))))
theorem s_newB1 : ev 2 [.ref (100 + h.1)] (blk (100 + h.1) 1 (ce1 (.inr (1, [.null, .null, .int 0, .int 0, .int 0]))) (alc h 1 5)) = rn 2 12 [.ref (100 + h.1), .float 0] [] (blk (100 + h.1) 2 (fun k => cB2 (100 + h.1) k) (alc h 2 8)) := by
  simp (implicitDefEqProofs := false) (disch := omega) only [ze_2, zr_2_0, zr_2_1, zr_2_4, zr_2_5, zr_2_6, zr_2_9, true_or, or_true, true_and, and_true, if_true, if_false, ldA_ref, ldA_null, nl_int, nl_ref, nl_fl, nl_null, c1_int, c1_ref, c1_null, zcall_some, zpush_some, zpush_none, zsum_ref, zsum_int, zsum_long, zsum_nil, zsum_null, Nat.reduceAdd, Nat.reduceLeDiff, if_true, znew_b, alc_1, alc_blk, alc_alc, blk_1, ← Nat.add_assoc, Nat.reduceAdd, Nat.add_zero, mkA_ok, nI_clamp, pf_skip, pf1_1_0, pf1_1_1, pf1_1_2, pf1_1_3, pf1_1_4, kd1_1]
  simp only [blk_snoc, Nat.reduceAdd]
  refine congrArg (rn 2 12 [.ref (100 + h.1), .float 0] []) (blk_congr fun k hk => ?_)
  match k, hk with
  | 0, _ | 1, _ => rfl
  | k + 2, h => omega
def inB (h Z : zH) (a i : Nat) : Prop := Z.1 = h.1 + 7 + 10 * i ∧ Z.2.1 = h.2.1 + 27 + 168 * i ∧ Z.2.2 a = .inr (1, [.ref (a + 1), .ref (a + 2), .int (nI 0), .int (nI 0), .int (nI 0)]) ∧ Z.2.2 (a + 1) = .inl (4, 3, .inr (.inr (.inr (.inr (arI a i))))) ∧ isB Z (a + 2) 5 (cR (a + 2) newR) ∧ (∀ e, e < i → isB Z (a + 7 + 10 * e) 10 (cW (a + 7 + 10 * e) newW)) ∧ ∀ p, p < a → Z.2.2 p = h.2.2 p
theorem s_booksL (ha : a = 100 + h.1) : ∀ (j i : Nat) (Z : zH), i + j = 3 → inB h Z a i → ∃ Z', rn 2 40 [.ref a, .int (nI i)] [] Z = some (none, Z') ∧ inB h Z' a 3 := by
  intro j
  induction j with
  | zero =>
    intro i Z hi hZ
    rw [show i = 3 by omega] at hZ ⊢
    refine ⟨Z, ?_, hZ⟩
    rw [zl_2_40]
    simp (implicitDefEqProofs := false) (disch := omega) only [zr_2_41, zr_2_42, zr_2_45, zr_2_46, zr_2_49, zr_2_50, zr_2_53, zr_2_54, zr_2_57, zr_2_58, zr_2_61, zr_2_64, true_or, or_true, true_and, and_true, if_true, if_false, ldA_ref, ldA_null, nl_int, nl_ref, nl_fl, nl_null, c1_int, c1_ref, c1_null, Nat.zero_add, Nat.zero_mul, Nat.one_mul, nI_add, nI_leI, nI_ltI, nI_eq, nI_mul, Nat.le_refl, zcall_some, zpush_some, zpush_none, zsum_ref, zsum_int, zsum_long, zsum_nil, zsum_null, Nat.reduceAdd, Nat.reduceLeDiff, if_true]
  | succ j ih =>
    intro i Z hi hZ
    obtain ⟨i1, i2, i3, i4, i5, i6, i7⟩ := hZ
    obtain ⟨H1, e1, n1, z1, b1, f1⟩ := mkO_W Z
    have q1 : 100 + Z.1 = a + 7 + 10 * i := by omega
    rw [q1] at e1 b1 f1
    have o4 : H1.2.2 (a + 1) = .inl (4, 3, .inr (.inr (.inr (.inr (arI a i))))) := (f1 _ (by omega)).trans i4
    have g1 : ∀ (β : Type) (f : Value → Option β), zgf Z a 1 0 f = f (.ref (a + 1)) := fun _ f => gf_c i3 rfl f
    have p1 : ∀ (β : Type) (f : zH → Option β), zsq H1 (a + 1) (nI i) (.ref (a + 7 + 10 * i)) f = f (zset H1 (a + 1) (.inl (4, 3, .inr (.inr (.inr (.inr (arI a (i + 1)))))))) := fun _ f => (sq_c o4 (by omega) (by omega) (by omega) (by omega) (by rw [rdW_0 b1]; rfl) f).trans (by rw [arI_up])
    have e2 : rn 2 40 [.ref a, .int (nI i)] [] Z = rn 2 40 [.ref a, .int (nI (i + 1))] [] (zset H1 (a + 1) (.inl (4, 3, .inr (.inr (.inr (.inr (arI a (i + 1)))))))) := by
      rw [zl_2_40]
      simp (implicitDefEqProofs := false) (disch := omega) only [zr_2_41, zr_2_42, zr_2_45, zr_2_46, zr_2_49, zr_2_50, zr_2_53, zr_2_54, zr_2_57, zr_2_58, zr_2_61, true_or, or_true, true_and, and_true, if_true, if_false, ldA_ref, ldA_null, nl_int, nl_ref, nl_fl, nl_null, c1_int, c1_ref, c1_null, Nat.zero_add, Nat.zero_mul, Nat.one_mul, nI_add, nI_leI, nI_ltI, nI_eq, nI_mul, show ¬ 3 ≤ i from by omega, g1, q1, e1, p1, zcall_some, zpush_some, zpush_none, zsum_ref, zsum_int, zsum_long, zsum_nil, zsum_null, Nat.reduceAdd, Nat.reduceLeDiff, if_true]
    have zo : ∀ p, p ≠ a + 1 → (zset H1 (a + 1) (.inl (4, 3, .inr (.inr (.inr (.inr (arI a (i + 1)))))))).2.2 p = H1.2.2 p := fun p hp => zset_o hp
    have za : (zset H1 (a + 1) (.inl (4, 3, .inr (.inr (.inr (.inr (arI a (i + 1)))))))).2.2 (a + 1) = .inl (4, 3, .inr (.inr (.inr (.inr (arI a (i + 1)))))) := zset_e
    have zs : (zset H1 (a + 1) (.inl (4, 3, .inr (.inr (.inr (.inr (arI a (i + 1)))))))).1 = H1.1 ∧ (zset H1 (a + 1) (.inl (4, 3, .inr (.inr (.inr (.inr (arI a (i + 1)))))))).2.1 = H1.2.1 := ⟨rfl, rfl⟩
    generalize zset H1 (a + 1) (.inl (4, 3, .inr (.inr (.inr (.inr (arI a (i + 1))))))) = Z1 at e2 zo za zs
    have h6 : ∀ e, e < i + 1 → isB Z1 (a + 7 + 10 * e) 10 (cW (a + 7 + 10 * e) newW) := fun e he => by
      by_cases h4 : e = i
      · rw [h4]
        exact b1.to fun p h1 h2 => zo _ (by omega)
      · exact (i6 e (by omega)).to fun p h1 h2 => (zo _ (by omega)).trans (f1 _ (by omega))
    obtain ⟨Z', e3, h3⟩ := ih (i + 1) Z1 (by omega) ⟨by omega, by omega, (zo _ (by omega)).trans ((f1 _ (by omega)).trans i3), za, i5.to fun p h1 h2 => (zo _ (by omega)).trans (f1 _ (by omega)), h6, fun p hp => (zo _ (by omega)).trans ((f1 _ (by omega)).trans (i7 p hp))⟩
    exact ⟨Z', e2.trans e3, h3⟩
theorem mkO_B : mkO 2 37 531 (.inr (1, [.null, .null, .int 0, .int 0, .int 0])) 5 (fun a k => cB a newB k) := by
  intro h
  rw [znew_b, s_newB1]
  have bY : isB (blk (100 + h.1) 2 (fun k => cB2 (100 + h.1) k) (alc h 2 8)) (100 + h.1) 2 (fun k => cB2 (100 + h.1) k) := blk_isB
  have sY : (blk (100 + h.1) 2 (fun k => cB2 (100 + h.1) k) (alc h 2 8)).1 = h.1 + 2 ∧ (blk (100 + h.1) 2 (fun k => cB2 (100 + h.1) k) (alc h 2 8)).2.1 = h.2.1 + 8 := ⟨rfl, rfl⟩
  have fY : ∀ p, p < 100 + h.1 → (blk (100 + h.1) 2 (fun k => cB2 (100 + h.1) k) (alc h 2 8)).2.2 p = h.2.2 p := fun p hp => blk_out (Or.inl hp)
  generalize blk (100 + h.1) 2 (fun k => cB2 (100 + h.1) k) (alc h 2 8) = Y at bY sY fY ⊢
  generalize ha : 100 + h.1 = a at *
  obtain ⟨H1, e1, n1, z1, b1, f1⟩ := mkO_R Y
  have q1 : 100 + Y.1 = a + 2 := by omega
  rw [q1] at e1 b1 f1
  have o1 : H1.2.2 a = .inr (1, [.ref (a + 1), .null, .int 0, .int 0, .int 0]) := (f1 _ (by omega)).trans (bY 0 (by omega))
  have hb1 : blk a 1 (ce1 (.inr (1, [.ref (a + 1), .null, .int 0, .int 0, .int 0]))) H1 = H1 := blk_id (one_isB o1)
  rw [← hb1] at e1
  have e2 : rn 2 12 [.ref a, .float 0] [] Y = rn 2 40 [.ref a, .int (nI 0)] [] (blk a 1 (ce1 (.inr (1, [.ref (a + 1), .ref (a + 2), .int (nI 0), .int (nI 0), .int (nI 0)]))) H1) := by
    simp (implicitDefEqProofs := false) (disch := omega) only [zr_2_12, zr_2_13, zr_2_16, zr_2_17, zr_2_20, zr_2_23, zr_2_24, zr_2_25, zr_2_28, zr_2_29, zr_2_30, zr_2_33, zr_2_34, zr_2_35, zr_2_38, zr_2_39, true_or, or_true, true_and, and_true, if_true, if_false, ldA_ref, ldA_null, nl_int, nl_ref, nl_fl, nl_null, c1_int, c1_ref, c1_null, q1, e1, pf1_1_0, pf1_1_1, pf1_1_2, pf1_1_3, pf1_1_4, kd1_1, zcall_some, zpush_some, zpush_none, zsum_ref, zsum_int, zsum_long, zsum_nil, zsum_null, Nat.reduceAdd, Nat.reduceLeDiff, if_true]
  have zo : ∀ p, p ≠ a → (blk a 1 (ce1 (.inr (1, [.ref (a + 1), .ref (a + 2), .int (nI 0), .int (nI 0), .int (nI 0)]))) H1).2.2 p = H1.2.2 p := fun p hp => blk_out (by omega)
  have za : (blk a 1 (ce1 (.inr (1, [.ref (a + 1), .ref (a + 2), .int (nI 0), .int (nI 0), .int (nI 0)]))) H1).2.2 a = .inr (1, [.ref (a + 1), .ref (a + 2), .int (nI 0), .int (nI 0), .int (nI 0)]) := b1_at
  have zs : (blk a 1 (ce1 (.inr (1, [.ref (a + 1), .ref (a + 2), .int (nI 0), .int (nI 0), .int (nI 0)]))) H1).1 = H1.1 ∧ (blk a 1 (ce1 (.inr (1, [.ref (a + 1), .ref (a + 2), .int (nI 0), .int (nI 0), .int (nI 0)]))) H1).2.1 = H1.2.1 := ⟨rfl, rfl⟩
  generalize blk a 1 (ce1 (.inr (1, [.ref (a + 1), .ref (a + 2), .int (nI 0), .int (nI 0), .int (nI 0)]))) H1 = Z at e2 zo za zs
  have y1 : H1.2.2 (a + 1) = .inl (4, 3, .inr (.inr (.inr (.inr fun _ => none)))) := (f1 _ (by omega)).trans (bY 1 (by omega))
  obtain ⟨Z', e3, i1, i2, i3, i4, i5, i6, i7⟩ := s_booksL (h := h) ha.symm 3 0 Z (by omega) ⟨by omega, by omega, za, by rw [arI_0]; exact (zo _ (by omega)).trans y1, b1.to fun p h1 h2 => zo _ (by omega), fun e he => by omega, fun p hp => (zo _ (by omega)).trans ((f1 _ (by omega)).trans (fY p hp))⟩
  refine ⟨Z', e2.trans e3, by omega, by omega, fun k hk => ?_, i7⟩
  show _ = cB a newB k
  unfold cB
  by_cases k0 : k = 0
  · rw [if_pos k0, k0]; exact i3
  · rw [if_neg k0]
    by_cases k1 : k = 1
    · rw [if_pos k1, k1]; exact i4
    · rw [if_neg k1]
      by_cases k7 : k < 7
      · rw [if_pos k7]
        have := i5 (k - 2) (by omega)
        rw [show a + 2 + (k - 2) = a + k by omega] at this
        exact this
      · rw [if_neg k7]
        have := i6 ((k - 7) / 10) (by omega) ((k - 7) % 10) (by omega)
        rw [show a + 7 + 10 * ((k - 7) / 10) + (k - 7) % 10 = a + k by omega] at this
        exact this
def arH (u i : Nat) : Nat → Option Nat := fun k => if k < i then some (u + 2 + 37 * k) else none
theorem arH_0 (u : Nat) : arH u 0 = fun _ => none := funext fun k => if_neg (by omega)
theorem arH_up (u i : Nat) : va_up (arH u i) i (some (u + 2 + 37 * i)) = arH u (i + 1) := by
  funext k
  show (if k = i then some (u + 2 + 37 * i) else if k < i then some (u + 2 + 37 * k) else none) = if k < i + 1 then some (u + 2 + 37 * k) else none
  by_cases h : k = i
  · rw [if_pos h, if_pos (by omega), h]
  · rw [if_neg h]
    by_cases h2 : k < i
    · rw [if_pos h2, if_pos (by omega)]
    · rw [if_neg h2, if_neg (by omega)]
def cH2 (a k : Nat) : zC := match k with
  | 0 => .inr (5, [.ref (a + 1), .int (nI 0), .int (nI 0)])
  | _ => .inl (6, 7, .inr (.inr (.inr (.inr fun _ => none))))
theorem s_newH1 : ev 6 [.ref (100 + h.1)] (blk (100 + h.1) 1 (ce1 (.inr (5, [.null, .int 0, .int 0]))) (alc h 1 3)) = rn 6 25 [.ref (100 + h.1), .int (nI 0)] [] (blk (100 + h.1) 2 (fun k => cH2 (100 + h.1) k) (alc h 2 10)) := by
  simp (implicitDefEqProofs := false) (disch := omega) only [ze_6, zr_6_0, zr_6_1, zr_6_4, zr_6_5, zr_6_7, zr_6_10, zr_6_13, zr_6_14, zr_6_15, zr_6_18, zr_6_19, zr_6_20, zr_6_23, zr_6_24, true_or, or_true, true_and, and_true, if_true, if_false, ldA_ref, ldA_null, nl_int, nl_ref, nl_fl, nl_null, c1_int, c1_ref, c1_null, zcall_some, zpush_some, zpush_none, zsum_ref, zsum_int, zsum_long, zsum_nil, zsum_null, Nat.reduceAdd, Nat.reduceLeDiff, if_true, znew_b, alc_1, alc_blk, alc_alc, blk_1, ← Nat.add_assoc, Nat.reduceAdd, Nat.add_zero, mkA_ok, nI_clamp, pf_skip, pf1_5_0, pf1_5_1, pf1_5_2, kd1_5]
  simp only [blk_snoc, Nat.reduceAdd]
  refine congrArg (rn 6 25 [.ref (100 + h.1), .int (nI 0)] []) (blk_congr fun k hk => ?_)
  match k, hk with
  | 0, _ | 1, _ => rfl
  | k + 2, h => omega
def inH (h Z : zH) (a i : Nat) : Prop := Z.1 = h.1 + 2 + 37 * i ∧ Z.2.1 = h.2.1 + 10 + 531 * i ∧ Z.2.2 a = .inr (5, [.ref (a + 1), .int (nI 0), .int (nI 0)]) ∧ Z.2.2 (a + 1) = .inl (6, 7, .inr (.inr (.inr (.inr (arH a i))))) ∧ (∀ e, e < i → isB Z (a + 2 + 37 * e) 37 (cB (a + 2 + 37 * e) newB)) ∧ ∀ p, p < a → Z.2.2 p = h.2.2 p
theorem s_histL (ha : a = 100 + h.1) : ∀ (j i : Nat) (Z : zH), i + j = 7 → inH h Z a i → ∃ Z', rn 6 25 [.ref a, .int (nI i)] [] Z = some (none, Z') ∧ inH h Z' a 7 := by
  intro j
  induction j with
  | zero =>
    intro i Z hi hZ
    rw [show i = 7 by omega] at hZ ⊢
    refine ⟨Z, ?_, hZ⟩
    rw [zl_6_25]
    simp (implicitDefEqProofs := false) (disch := omega) only [zr_6_26, zr_6_28, zr_6_31, zr_6_32, zr_6_35, zr_6_36, zr_6_39, zr_6_40, zr_6_43, zr_6_44, zr_6_47, zr_6_50, true_or, or_true, true_and, and_true, if_true, if_false, ldA_ref, ldA_null, nl_int, nl_ref, nl_fl, nl_null, c1_int, c1_ref, c1_null, Nat.zero_add, Nat.zero_mul, Nat.one_mul, nI_add, nI_leI, nI_ltI, nI_eq, nI_mul, Nat.le_refl, zcall_some, zpush_some, zpush_none, zsum_ref, zsum_int, zsum_long, zsum_nil, zsum_null, Nat.reduceAdd, Nat.reduceLeDiff, if_true]
  | succ j ih =>
    intro i Z hi hZ
    obtain ⟨i1, i2, i3, i4, i6, i7⟩ := hZ
    obtain ⟨H1, e1, n1, z1, b1, f1⟩ := mkO_B Z
    have q1 : 100 + Z.1 = a + 2 + 37 * i := by omega
    rw [q1] at e1 b1 f1
    have o4 : H1.2.2 (a + 1) = .inl (6, 7, .inr (.inr (.inr (.inr (arH a i))))) := (f1 _ (by omega)).trans i4
    have g1 : ∀ (β : Type) (f : Value → Option β), zgf Z a 5 0 f = f (.ref (a + 1)) := fun _ f => gf_c i3 rfl f
    have p1 : ∀ (β : Type) (f : zH → Option β), zsq H1 (a + 1) (nI i) (.ref (a + 2 + 37 * i)) f = f (zset H1 (a + 1) (.inl (6, 7, .inr (.inr (.inr (.inr (arH a (i + 1)))))))) := fun _ f => (sq_c o4 (by omega) (by omega) (by omega) (by omega) (by rw [rdB_0 b1]; rfl) f).trans (by rw [arH_up])
    have e2 : rn 6 25 [.ref a, .int (nI i)] [] Z = rn 6 25 [.ref a, .int (nI (i + 1))] [] (zset H1 (a + 1) (.inl (6, 7, .inr (.inr (.inr (.inr (arH a (i + 1)))))))) := by
      rw [zl_6_25]
      simp (implicitDefEqProofs := false) (disch := omega) only [zr_6_26, zr_6_28, zr_6_31, zr_6_32, zr_6_35, zr_6_36, zr_6_39, zr_6_40, zr_6_43, zr_6_44, zr_6_47, true_or, or_true, true_and, and_true, if_true, if_false, ldA_ref, ldA_null, nl_int, nl_ref, nl_fl, nl_null, c1_int, c1_ref, c1_null, Nat.zero_add, Nat.zero_mul, Nat.one_mul, nI_add, nI_leI, nI_ltI, nI_eq, nI_mul, show ¬ 7 ≤ i from by omega, g1, q1, e1, p1, zcall_some, zpush_some, zpush_none, zsum_ref, zsum_int, zsum_long, zsum_nil, zsum_null, Nat.reduceAdd, Nat.reduceLeDiff, if_true]
    have zo : ∀ p, p ≠ a + 1 → (zset H1 (a + 1) (.inl (6, 7, .inr (.inr (.inr (.inr (arH a (i + 1)))))))).2.2 p = H1.2.2 p := fun p hp => zset_o hp
    have za : (zset H1 (a + 1) (.inl (6, 7, .inr (.inr (.inr (.inr (arH a (i + 1)))))))).2.2 (a + 1) = .inl (6, 7, .inr (.inr (.inr (.inr (arH a (i + 1)))))) := zset_e
    have zs : (zset H1 (a + 1) (.inl (6, 7, .inr (.inr (.inr (.inr (arH a (i + 1)))))))).1 = H1.1 ∧ (zset H1 (a + 1) (.inl (6, 7, .inr (.inr (.inr (.inr (arH a (i + 1)))))))).2.1 = H1.2.1 := ⟨rfl, rfl⟩
    generalize zset H1 (a + 1) (.inl (6, 7, .inr (.inr (.inr (.inr (arH a (i + 1))))))) = Z1 at e2 zo za zs
    have h6 : ∀ e, e < i + 1 → isB Z1 (a + 2 + 37 * e) 37 (cB (a + 2 + 37 * e) newB) := fun e he => by
      by_cases h4 : e = i
      · rw [h4]
        exact b1.to fun p h1 h2 => zo _ (by omega)
      · exact (i6 e (by omega)).to fun p h1 h2 => (zo _ (by omega)).trans (f1 _ (by omega))
    obtain ⟨Z', e3, h3⟩ := ih (i + 1) Z1 (by omega) ⟨by omega, by omega, (zo _ (by omega)).trans ((f1 _ (by omega)).trans i3), za, h6, fun p hp => (zo _ (by omega)).trans ((f1 _ (by omega)).trans (i7 p hp))⟩
    exact ⟨Z', e2.trans e3, h3⟩
theorem mk_H (h : zH) : ∃ H', ev 6 [.ref (100 + h.1)] (znew h (.inr (5, [.null, .int 0, .int 0])) 3) = some (none, H') ∧ H'.1 = h.1 + 261 ∧ H'.2.1 = h.2.1 + 3727 ∧ hiB H' (100 + h.1) (fun _ => newB) 0 0 ∧ ∀ p, p < 100 + h.1 → H'.2.2 p = h.2.2 p := by
  rw [znew_b, s_newH1]
  have bY : isB (blk (100 + h.1) 2 (fun k => cH2 (100 + h.1) k) (alc h 2 10)) (100 + h.1) 2 (fun k => cH2 (100 + h.1) k) := blk_isB
  have sY : (blk (100 + h.1) 2 (fun k => cH2 (100 + h.1) k) (alc h 2 10)).1 = h.1 + 2 ∧ (blk (100 + h.1) 2 (fun k => cH2 (100 + h.1) k) (alc h 2 10)).2.1 = h.2.1 + 10 := ⟨rfl, rfl⟩
  have fY : ∀ p, p < 100 + h.1 → (blk (100 + h.1) 2 (fun k => cH2 (100 + h.1) k) (alc h 2 10)).2.2 p = h.2.2 p := fun p hp => blk_out (Or.inl hp)
  generalize blk (100 + h.1) 2 (fun k => cH2 (100 + h.1) k) (alc h 2 10) = Z at bY sY fY ⊢
  generalize ha : 100 + h.1 = a at *
  obtain ⟨Z', e3, i1, i2, i3, i4, i6, i7⟩ := s_histL (h := h) ha.symm 7 0 Z (by omega) ⟨by omega, by omega, bY 0 (by omega), by rw [arH_0]; exact bY 1 (by omega), fun e he => by omega, fY⟩
  exact ⟨Z', e3, by omega, by omega, ⟨i3, i4, i6⟩, i7⟩
theorem mk_Tr (h : zH) : ∃ H', ev 9 [.ref (100 + h.1)] (znew h (.inr (9, [.null, .null, .null])) 3) = some (none, H') ∧ H'.1 = h.1 + 16 ∧ H'.2.1 = h.2.1 + 452 ∧ trB H' (100 + h.1) newW ∧ ∀ p, p < 100 + h.1 → H'.2.2 p = h.2.2 p := by
  rw [znew_b]
  have o0 : (blk (100 + h.1) 1 (ce1 (.inr (9, [.null, .null, .null]))) (alc h 1 3)).2.2 (100 + h.1) = .inr (9, [.null, .null, .null]) := b1_at
  have sY : (blk (100 + h.1) 1 (ce1 (.inr (9, [.null, .null, .null]))) (alc h 1 3)).1 = h.1 + 1 ∧ (blk (100 + h.1) 1 (ce1 (.inr (9, [.null, .null, .null]))) (alc h 1 3)).2.1 = h.2.1 + 3 := ⟨rfl, rfl⟩
  have fY : ∀ p, p < 100 + h.1 → (blk (100 + h.1) 1 (ce1 (.inr (9, [.null, .null, .null]))) (alc h 1 3)).2.2 p = h.2.2 p := fun p hp => blk_out (Or.inl hp)
  generalize blk (100 + h.1) 1 (ce1 (.inr (9, [.null, .null, .null]))) (alc h 1 3) = Z0 at o0 sY fY ⊢
  generalize ha : 100 + h.1 = a at *
  have E0 : ev 9 [.ref a] Z0 = rn 9 4 [.ref a] [] Z0 := by
    simp (implicitDefEqProofs := false) (disch := omega) only [ze_9, zr_9_0, zr_9_1, true_or, or_true, true_and, and_true, if_true, if_false, ldA_ref, ldA_null, nl_int, nl_ref, nl_fl, nl_null, c1_int, c1_ref, c1_null, zcall_some, zpush_some, zpush_none, zsum_ref, zsum_int, zsum_long, zsum_nil, zsum_null, Nat.reduceAdd, Nat.reduceLeDiff, if_true]
  obtain ⟨H1, e1, n1, z1, b1, f1⟩ := mkO_D Z0
  have q1 : 100 + Z0.1 = a + 1 := by omega
  rw [q1] at e1 b1 f1
  have p1 : ∀ (β : Type) (f : zH → Option β), zpf H1 a 9 0 (.ref (a + 1)) f = f (zset H1 a (.inr (9, [.ref (a + 1), .null, .null]))) := fun _ f => pf_c ((f1 _ (by omega)).trans o0) (Nat.le_of_ble_eq_true rfl) (by omega) rfl f
  have E1 : rn 9 4 [.ref a] [] Z0 = rn 9 15 [.ref a] [] (zset H1 a (.inr (9, [.ref (a + 1), .null, .null]))) := by
    simp (implicitDefEqProofs := false) (disch := omega) only [zr_9_4, zr_9_5, zr_9_8, zr_9_9, zr_9_12, true_or, or_true, true_and, and_true, if_true, if_false, ldA_ref, ldA_null, nl_int, nl_ref, nl_fl, nl_null, c1_int, c1_ref, c1_null, q1, e1, p1, zcall_some, zpush_some, zpush_none, zsum_ref, zsum_int, zsum_long, zsum_nil, zsum_null, Nat.reduceAdd, Nat.reduceLeDiff, if_true]
  have zo1 : ∀ p, p ≠ a → (zset H1 a (.inr (9, [.ref (a + 1), .null, .null]))).2.2 p = H1.2.2 p := fun p hp => zset_o hp
  have o1 : (zset H1 a (.inr (9, [.ref (a + 1), .null, .null]))).2.2 a = .inr (9, [.ref (a + 1), .null, .null]) := zset_e
  have zs1 : (zset H1 a (.inr (9, [.ref (a + 1), .null, .null]))).1 = H1.1 ∧ (zset H1 a (.inr (9, [.ref (a + 1), .null, .null]))).2.1 = H1.2.1 := ⟨rfl, rfl⟩
  generalize zset H1 a (.inr (9, [.ref (a + 1), .null, .null])) = Z1 at E1 zo1 o1 zs1
  obtain ⟨H2, e2, n2, z2, b2, f2⟩ := mkO_W Z1
  have q2 : 100 + Z1.1 = a + 3 := by omega
  rw [q2] at e2 b2 f2
  have p2 : ∀ (β : Type) (f : zH → Option β), zpf H2 a 9 1 (.ref (a + 3)) f = f (zset H2 a (.inr (9, [.ref (a + 1), .ref (a + 3), .null]))) := fun _ f => pf_c ((f2 _ (by omega)).trans o1) (Nat.le_of_ble_eq_true rfl) (by omega) rfl f
  have E2 : rn 9 15 [.ref a] [] Z1 = rn 9 26 [.ref a] [] (zset H2 a (.inr (9, [.ref (a + 1), .ref (a + 3), .null]))) := by
    simp (implicitDefEqProofs := false) (disch := omega) only [zr_9_15, zr_9_16, zr_9_19, zr_9_20, zr_9_23, true_or, or_true, true_and, and_true, if_true, if_false, ldA_ref, ldA_null, nl_int, nl_ref, nl_fl, nl_null, c1_int, c1_ref, c1_null, q2, e2, p2, zcall_some, zpush_some, zpush_none, zsum_ref, zsum_int, zsum_long, zsum_nil, zsum_null, Nat.reduceAdd, Nat.reduceLeDiff, if_true]
  have zo2 : ∀ p, p ≠ a → (zset H2 a (.inr (9, [.ref (a + 1), .ref (a + 3), .null]))).2.2 p = H2.2.2 p := fun p hp => zset_o hp
  have o2 : (zset H2 a (.inr (9, [.ref (a + 1), .ref (a + 3), .null]))).2.2 a = .inr (9, [.ref (a + 1), .ref (a + 3), .null]) := zset_e
  have zs2 : (zset H2 a (.inr (9, [.ref (a + 1), .ref (a + 3), .null]))).1 = H2.1 ∧ (zset H2 a (.inr (9, [.ref (a + 1), .ref (a + 3), .null]))).2.1 = H2.2.1 := ⟨rfl, rfl⟩
  generalize zset H2 a (.inr (9, [.ref (a + 1), .ref (a + 3), .null])) = Z2 at E2 zo2 o2 zs2
  obtain ⟨H3, e3, n3, z3, b3, f3⟩ := mkO_S Z2
  have q3 : 100 + Z2.1 = a + 13 := by omega
  rw [q3] at e3 b3 f3
  have p3 : ∀ (β : Type) (f : zH → Option β), zpf H3 a 9 2 (.ref (a + 13)) f = f (zset H3 a (.inr (9, [.ref (a + 1), .ref (a + 3), .ref (a + 13)]))) := fun _ f => pf_c ((f3 _ (by omega)).trans o2) (Nat.le_of_ble_eq_true rfl) (by omega) rfl f
  have E3 : rn 9 26 [.ref a] [] Z2 = rn 9 37 [.ref a] [] (zset H3 a (.inr (9, [.ref (a + 1), .ref (a + 3), .ref (a + 13)]))) := by
    simp (implicitDefEqProofs := false) (disch := omega) only [zr_9_26, zr_9_27, zr_9_30, zr_9_31, zr_9_34, true_or, or_true, true_and, and_true, if_true, if_false, ldA_ref, ldA_null, nl_int, nl_ref, nl_fl, nl_null, c1_int, c1_ref, c1_null, q3, e3, p3, zcall_some, zpush_some, zpush_none, zsum_ref, zsum_int, zsum_long, zsum_nil, zsum_null, Nat.reduceAdd, Nat.reduceLeDiff, if_true]
  have zo3 : ∀ p, p ≠ a → (zset H3 a (.inr (9, [.ref (a + 1), .ref (a + 3), .ref (a + 13)]))).2.2 p = H3.2.2 p := fun p hp => zset_o hp
  have o3 : (zset H3 a (.inr (9, [.ref (a + 1), .ref (a + 3), .ref (a + 13)]))).2.2 a = .inr (9, [.ref (a + 1), .ref (a + 3), .ref (a + 13)]) := zset_e
  have zs3 : (zset H3 a (.inr (9, [.ref (a + 1), .ref (a + 3), .ref (a + 13)]))).1 = H3.1 ∧ (zset H3 a (.inr (9, [.ref (a + 1), .ref (a + 3), .ref (a + 13)]))).2.1 = H3.2.1 := ⟨rfl, rfl⟩
  generalize zset H3 a (.inr (9, [.ref (a + 1), .ref (a + 3), .ref (a + 13)])) = Z3 at E3 zo3 o3 zs3
  have E4 : rn 9 37 [.ref a] [] Z3 = some (none, Z3) := by
    simp (implicitDefEqProofs := false) (disch := omega) only [zr_9_37, true_or, or_true, true_and, and_true, if_true, if_false, ldA_ref, ldA_null, nl_int, nl_ref, nl_fl, nl_null, c1_int, c1_ref, c1_null, zcall_some, zpush_some, zpush_none, zsum_ref, zsum_int, zsum_long, zsum_nil, zsum_null, Nat.reduceAdd, Nat.reduceLeDiff, if_true]
  refine ⟨Z3, by rw [E0, E1, E2, E3, E4], by omega, by omega, ⟨o3, ⟨newD, b1.to fun p h1 h2 => ?_⟩, b2.to fun p h1 h2 => ?_, nS, b3.to fun p h1 h2 => zo3 p (by omega)⟩, fun p hp => ?_⟩
  · rw [zo3 p (by omega), f3 p (by omega), zo2 p (by omega), f2 p (by omega), zo1 p (by omega)]
  · rw [zo3 p (by omega), f3 p (by omega), zo2 p (by omega)]
  · rw [zo3 p (by omega), f3 p (by omega), zo2 p (by omega), f2 p (by omega), zo1 p (by omega), f1 p (by omega), fY p hp]
theorem mk_Tx (h : zH) : ∃ H', ev 11 [.ref (100 + h.1)] (znew h (.inr (8, [.null, .null])) 2) = some (none, H') ∧ H'.1 = h.1 + 4 ∧ H'.2.1 = h.2.1 + 41 ∧ (H'.2.2 (100 + h.1) = .inr (8, [.ref (100 + h.1 + 1), .ref (100 + h.1 + 3)]) ∧ isB H' (100 + h.1 + 1) 2 (cSB (100 + h.1 + 1)) ∧ H'.2.2 (100 + h.1 + 3) = .inl (2, 19, .inl fun _ => 0)) ∧ ∀ p, p < 100 + h.1 → H'.2.2 p = h.2.2 p := by
  rw [znew_b]
  have o0 : (blk (100 + h.1) 1 (ce1 (.inr (8, [.null, .null]))) (alc h 1 2)).2.2 (100 + h.1) = .inr (8, [.null, .null]) := b1_at
  have sY : (blk (100 + h.1) 1 (ce1 (.inr (8, [.null, .null]))) (alc h 1 2)).1 = h.1 + 1 ∧ (blk (100 + h.1) 1 (ce1 (.inr (8, [.null, .null]))) (alc h 1 2)).2.1 = h.2.1 + 2 := ⟨rfl, rfl⟩
  have fY : ∀ p, p < 100 + h.1 → (blk (100 + h.1) 1 (ce1 (.inr (8, [.null, .null]))) (alc h 1 2)).2.2 p = h.2.2 p := fun p hp => blk_out (Or.inl hp)
  generalize blk (100 + h.1) 1 (ce1 (.inr (8, [.null, .null]))) (alc h 1 2) = Z0 at o0 sY fY ⊢
  generalize ha : 100 + h.1 = a at *
  have E0 : ev 11 [.ref a] Z0 = rn 11 4 [.ref a] [] Z0 := by
    simp (implicitDefEqProofs := false) (disch := omega) only [ze_11, zr_11_0, zr_11_1, true_or, or_true, true_and, and_true, if_true, if_false, ldA_ref, ldA_null, nl_int, nl_ref, nl_fl, nl_null, c1_int, c1_ref, c1_null, zcall_some, zpush_some, zpush_none, zsum_ref, zsum_int, zsum_long, zsum_nil, zsum_null, Nat.reduceAdd, Nat.reduceLeDiff, if_true]
  obtain ⟨H1, e1, n1, z1, b1, f1⟩ := mkO_SB Z0
  have q1 : 100 + Z0.1 = a + 1 := by omega
  rw [q1] at e1 b1 f1
  have p1 : ∀ (β : Type) (f : zH → Option β), zpf H1 a 8 0 (.ref (a + 1)) f = f (zset H1 a (.inr (8, [.ref (a + 1), .null]))) := fun _ f => pf_c ((f1 _ (by omega)).trans o0) (Nat.le_of_ble_eq_true rfl) (by omega) rfl f
  have E1 : rn 11 4 [.ref a] [] Z0 = rn 11 15 [.ref a] [] (zset H1 a (.inr (8, [.ref (a + 1), .null]))) := by
    simp (implicitDefEqProofs := false) (disch := omega) only [zr_11_4, zr_11_5, zr_11_8, zr_11_9, zr_11_12, true_or, or_true, true_and, and_true, if_true, if_false, ldA_ref, ldA_null, nl_int, nl_ref, nl_fl, nl_null, c1_int, c1_ref, c1_null, q1, e1, p1, zcall_some, zpush_some, zpush_none, zsum_ref, zsum_int, zsum_long, zsum_nil, zsum_null, Nat.reduceAdd, Nat.reduceLeDiff, if_true]
  have zo1 : ∀ p, p ≠ a → (zset H1 a (.inr (8, [.ref (a + 1), .null]))).2.2 p = H1.2.2 p := fun p hp => zset_o hp
  have o1 : (zset H1 a (.inr (8, [.ref (a + 1), .null]))).2.2 a = .inr (8, [.ref (a + 1), .null]) := zset_e
  have zs1 : (zset H1 a (.inr (8, [.ref (a + 1), .null]))).1 = H1.1 ∧ (zset H1 a (.inr (8, [.ref (a + 1), .null]))).2.1 = H1.2.1 := ⟨rfl, rfl⟩
  generalize zset H1 a (.inr (8, [.ref (a + 1), .null])) = Z1 at E1 zo1 o1 zs1
  have hb1 : blk a 1 (ce1 (.inr (8, [.ref (a + 1), .null]))) Z1 = Z1 := blk_id (one_isB o1)
  have q2 : 100 + Z1.1 = a + 3 := by omega
  have E2 : rn 11 15 [.ref a] [] Z1 = some (none, blk (a + 3) 1 (ce1 (.inl (2, 19, .inl fun _ => 0))) (blk a 1 (ce1 (.inr (8, [.ref (a + 1), .ref (a + 3)]))) (alc Z1 1 19))) := by
    refine (congrArg (rn 11 15 [.ref a] []) hb1.symm).trans ?_
    simp (implicitDefEqProofs := false) (disch := omega) only [zr_11_15, zr_11_16, zr_11_18, zr_11_20, zr_11_23, true_or, or_true, true_and, and_true, if_true, if_false, ldA_ref, ldA_null, nl_int, nl_ref, nl_fl, nl_null, c1_int, c1_ref, c1_null, zcall_some, zpush_some, zpush_none, zsum_ref, zsum_int, zsum_long, zsum_nil, zsum_null, Nat.reduceAdd, Nat.reduceLeDiff, if_true, znew_b, alc_1, alc_blk, alc_alc, blk_1, ← Nat.add_assoc, Nat.reduceAdd, Nat.add_zero, mkA_ok, nI_clamp, q2, zz0_2, pf_skip, pf1_8_0, pf1_8_1, kd1_8]
  refine ⟨_, by rw [E0, E1, E2], ?_, ?_, ⟨?_, fun k hk => ?_, b1_at⟩, fun p hp => ?_⟩
  · show Z1.1 + 1 = _
    omega
  · show Z1.2.1 + 19 = _
    omega
  · rw [blk_out (by omega)]; exact b1_at
  · rw [blk_out (by omega), blk_out (by omega)]
    exact (zo1 _ (by omega)).trans (b1 k hk)
  · rw [blk_out (by omega), blk_out (by omega)]
    show Z1.2.2 p = _
    rw [zo1 p (by omega), f1 p (by omega), fY p hp]
theorem mk_Run (h : zH) (h0 : h.1 = 0) : ∃ H', ev 0 [.ref 100] (znew h (.inr (11, [.null, .null, .null, .int 0, .null, .null, .null, .null])) 8) = some (none, H') ∧ H'.1 = 363 ∧ H'.2.1 ≤ h.2.1 + 6000 ∧ H'.2.2 100 = xC (nI 0) ∧ isB H' 101 37 (cB 101 newB) ∧ hiB H' 138 (fun _ => newB) 0 0 ∧ isB H' 399 37 (cB 399 newB) ∧ isB H' 436 5 (cT 436 newT) ∧ isB H' 441 2 (cD 441 newD) ∧ trB H' 443 newW ∧ (H'.2.2 459 = .inr (8, [.ref (459 + 1), .ref (459 + 3)]) ∧ isB H' (459 + 1) 2 (cSB (459 + 1)) ∧ H'.2.2 (459 + 3) = .inl (2, 19, .inl fun _ => 0)) ∧ ∀ p, p < 100 → H'.2.2 p = h.2.2 p := by
  rw [znew_b, h0]
  have o0 : (blk 100 1 (ce1 (.inr (11, [.null, .null, .null, .int 0, .null, .null, .null, .null]))) (alc h 1 8)).2.2 100 = .inr (11, [.null, .null, .null, .int 0, .null, .null, .null, .null]) := b1_at
  have sY : (blk 100 1 (ce1 (.inr (11, [.null, .null, .null, .int 0, .null, .null, .null, .null]))) (alc h 1 8)).1 = h.1 + 1 ∧ (blk 100 1 (ce1 (.inr (11, [.null, .null, .null, .int 0, .null, .null, .null, .null]))) (alc h 1 8)).2.1 = h.2.1 + 8 := ⟨rfl, rfl⟩
  have fY : ∀ p, p < 100 → (blk 100 1 (ce1 (.inr (11, [.null, .null, .null, .int 0, .null, .null, .null, .null]))) (alc h 1 8)).2.2 p = h.2.2 p := fun p hp => blk_out (Or.inl hp)
  show ∃ H', ev 0 [.ref 100] (blk 100 1 (ce1 (.inr (11, [.null, .null, .null, .int 0, .null, .null, .null, .null]))) (alc h 1 8)) = some (none, H') ∧ _
  generalize blk 100 1 (ce1 (.inr (11, [.null, .null, .null, .int 0, .null, .null, .null, .null]))) (alc h 1 8) = Z0 at o0 sY fY ⊢
  have E0 : ev 0 [.ref 100] Z0 = rn 0 4 [.ref 100] [] Z0 := by
    simp (implicitDefEqProofs := false) (disch := omega) only [ze_0, zr_0_0, zr_0_1, true_or, or_true, true_and, and_true, if_true, if_false, ldA_ref, ldA_null, nl_int, nl_ref, nl_fl, nl_null, c1_int, c1_ref, c1_null, zcall_some, zpush_some, zpush_none, zsum_ref, zsum_int, zsum_long, zsum_nil, zsum_null, Nat.reduceAdd, Nat.reduceLeDiff, if_true]
  obtain ⟨H1, e1, n1, z1, b1, f1⟩ := mkO_B Z0
  have q1 : 100 + Z0.1 = 101 := by omega
  rw [q1] at e1 b1 f1
  have p1 : ∀ (β : Type) (f : zH → Option β), zpf H1 100 11 0 (.ref 101) f = f (zset H1 100 (.inr (11, [.ref 101, .null, .null, .int 0, .null, .null, .null, .null]))) := fun _ f => pf_c ((f1 _ (by omega)).trans o0) (Nat.le_of_ble_eq_true rfl) (by omega) rfl f
  have E1 : rn 0 4 [.ref 100] [] Z0 = rn 0 15 [.ref 100] [] (zset H1 100 (.inr (11, [.ref 101, .null, .null, .int 0, .null, .null, .null, .null]))) := by
    simp (implicitDefEqProofs := false) (disch := omega) only [zr_0_4, zr_0_5, zr_0_8, zr_0_9, zr_0_12, true_or, or_true, true_and, and_true, if_true, if_false, ldA_ref, ldA_null, nl_int, nl_ref, nl_fl, nl_null, c1_int, c1_ref, c1_null, q1, e1, p1, zcall_some, zpush_some, zpush_none, zsum_ref, zsum_int, zsum_long, zsum_nil, zsum_null, Nat.reduceAdd, Nat.reduceLeDiff, if_true]
  have zo1 : ∀ p, p ≠ 100 → (zset H1 100 (.inr (11, [.ref 101, .null, .null, .int 0, .null, .null, .null, .null]))).2.2 p = H1.2.2 p := fun p hp => zset_o hp
  have o1 : (zset H1 100 (.inr (11, [.ref 101, .null, .null, .int 0, .null, .null, .null, .null]))).2.2 100 = .inr (11, [.ref 101, .null, .null, .int 0, .null, .null, .null, .null]) := zset_e
  have zs1 : (zset H1 100 (.inr (11, [.ref 101, .null, .null, .int 0, .null, .null, .null, .null]))).1 = H1.1 ∧ (zset H1 100 (.inr (11, [.ref 101, .null, .null, .int 0, .null, .null, .null, .null]))).2.1 = H1.2.1 := ⟨rfl, rfl⟩
  generalize zset H1 100 (.inr (11, [.ref 101, .null, .null, .int 0, .null, .null, .null, .null])) = Z1 at E1 zo1 o1 zs1
  obtain ⟨H2, e2, n2, z2, b2, f2⟩ := mk_H Z1
  have q2 : 100 + Z1.1 = 138 := by omega
  rw [q2] at e2 b2 f2
  have p2 : ∀ (β : Type) (f : zH → Option β), zpf H2 100 11 1 (.ref 138) f = f (zset H2 100 (.inr (11, [.ref 101, .ref 138, .null, .int 0, .null, .null, .null, .null]))) := fun _ f => pf_c ((f2 _ (by omega)).trans o1) (Nat.le_of_ble_eq_true rfl) (by omega) rfl f
  have E2 : rn 0 15 [.ref 100] [] Z1 = rn 0 26 [.ref 100] [] (zset H2 100 (.inr (11, [.ref 101, .ref 138, .null, .int 0, .null, .null, .null, .null]))) := by
    simp (implicitDefEqProofs := false) (disch := omega) only [zr_0_15, zr_0_16, zr_0_19, zr_0_20, zr_0_23, true_or, or_true, true_and, and_true, if_true, if_false, ldA_ref, ldA_null, nl_int, nl_ref, nl_fl, nl_null, c1_int, c1_ref, c1_null, q2, e2, p2, zcall_some, zpush_some, zpush_none, zsum_ref, zsum_int, zsum_long, zsum_nil, zsum_null, Nat.reduceAdd, Nat.reduceLeDiff, if_true]
  have zo2 : ∀ p, p ≠ 100 → (zset H2 100 (.inr (11, [.ref 101, .ref 138, .null, .int 0, .null, .null, .null, .null]))).2.2 p = H2.2.2 p := fun p hp => zset_o hp
  have o2 : (zset H2 100 (.inr (11, [.ref 101, .ref 138, .null, .int 0, .null, .null, .null, .null]))).2.2 100 = .inr (11, [.ref 101, .ref 138, .null, .int 0, .null, .null, .null, .null]) := zset_e
  have zs2 : (zset H2 100 (.inr (11, [.ref 101, .ref 138, .null, .int 0, .null, .null, .null, .null]))).1 = H2.1 ∧ (zset H2 100 (.inr (11, [.ref 101, .ref 138, .null, .int 0, .null, .null, .null, .null]))).2.1 = H2.2.1 := ⟨rfl, rfl⟩
  generalize zset H2 100 (.inr (11, [.ref 101, .ref 138, .null, .int 0, .null, .null, .null, .null])) = Z2 at E2 zo2 o2 zs2
  obtain ⟨H3, e3, n3, z3, b3, f3⟩ := mkO_B Z2
  have q3 : 100 + Z2.1 = 399 := by omega
  rw [q3] at e3 b3 f3
  have p3 : ∀ (β : Type) (f : zH → Option β), zpf H3 100 11 2 (.ref 399) f = f (zset H3 100 (.inr (11, [.ref 101, .ref 138, .ref 399, .int 0, .null, .null, .null, .null]))) := fun _ f => pf_c ((f3 _ (by omega)).trans o2) (Nat.le_of_ble_eq_true rfl) (by omega) rfl f
  have E3 : rn 0 26 [.ref 100] [] Z2 = rn 0 37 [.ref 100] [] (zset H3 100 (.inr (11, [.ref 101, .ref 138, .ref 399, .int 0, .null, .null, .null, .null]))) := by
    simp (implicitDefEqProofs := false) (disch := omega) only [zr_0_26, zr_0_27, zr_0_30, zr_0_31, zr_0_34, true_or, or_true, true_and, and_true, if_true, if_false, ldA_ref, ldA_null, nl_int, nl_ref, nl_fl, nl_null, c1_int, c1_ref, c1_null, q3, e3, p3, zcall_some, zpush_some, zpush_none, zsum_ref, zsum_int, zsum_long, zsum_nil, zsum_null, Nat.reduceAdd, Nat.reduceLeDiff, if_true]
  have zo3 : ∀ p, p ≠ 100 → (zset H3 100 (.inr (11, [.ref 101, .ref 138, .ref 399, .int 0, .null, .null, .null, .null]))).2.2 p = H3.2.2 p := fun p hp => zset_o hp
  have o3 : (zset H3 100 (.inr (11, [.ref 101, .ref 138, .ref 399, .int 0, .null, .null, .null, .null]))).2.2 100 = .inr (11, [.ref 101, .ref 138, .ref 399, .int 0, .null, .null, .null, .null]) := zset_e
  have zs3 : (zset H3 100 (.inr (11, [.ref 101, .ref 138, .ref 399, .int 0, .null, .null, .null, .null]))).1 = H3.1 ∧ (zset H3 100 (.inr (11, [.ref 101, .ref 138, .ref 399, .int 0, .null, .null, .null, .null]))).2.1 = H3.2.1 := ⟨rfl, rfl⟩
  generalize zset H3 100 (.inr (11, [.ref 101, .ref 138, .ref 399, .int 0, .null, .null, .null, .null])) = Z3 at E3 zo3 o3 zs3
  have p4 : ∀ (β : Type) (f : zH → Option β), zpf Z3 100 11 3 (.int (nI 0)) f = f (zset Z3 100 (.inr (11, [.ref 101, .ref 138, .ref 399, .int (nI 0), .null, .null, .null, .null]))) := fun _ f => pf_c o3 (Nat.le_of_ble_eq_true rfl) (by omega) rfl f
  have E4 : rn 0 37 [.ref 100] [] Z3 = rn 0 42 [.ref 100] [] (zset Z3 100 (.inr (11, [.ref 101, .ref 138, .ref 399, .int (nI 0), .null, .null, .null, .null]))) := by
    simp (implicitDefEqProofs := false) (disch := omega) only [zr_0_37, zr_0_38, zr_0_39, true_or, or_true, true_and, and_true, if_true, if_false, ldA_ref, ldA_null, nl_int, nl_ref, nl_fl, nl_null, c1_int, c1_ref, c1_null, p4, zcall_some, zpush_some, zpush_none, zsum_ref, zsum_int, zsum_long, zsum_nil, zsum_null, Nat.reduceAdd, Nat.reduceLeDiff, if_true]
  have zo4 : ∀ p, p ≠ 100 → (zset Z3 100 (.inr (11, [.ref 101, .ref 138, .ref 399, .int (nI 0), .null, .null, .null, .null]))).2.2 p = Z3.2.2 p := fun p hp => zset_o hp
  have f4 : ∀ p, p < 100 + Z3.1 → Z3.2.2 p = Z3.2.2 p := fun p hp => rfl
  have o4 : (zset Z3 100 (.inr (11, [.ref 101, .ref 138, .ref 399, .int (nI 0), .null, .null, .null, .null]))).2.2 100 = .inr (11, [.ref 101, .ref 138, .ref 399, .int (nI 0), .null, .null, .null, .null]) := zset_e
  have zs4 : (zset Z3 100 (.inr (11, [.ref 101, .ref 138, .ref 399, .int (nI 0), .null, .null, .null, .null]))).1 = Z3.1 ∧ (zset Z3 100 (.inr (11, [.ref 101, .ref 138, .ref 399, .int (nI 0), .null, .null, .null, .null]))).2.1 = Z3.2.1 := ⟨rfl, rfl⟩
  generalize zset Z3 100 (.inr (11, [.ref 101, .ref 138, .ref 399, .int (nI 0), .null, .null, .null, .null])) = Z4 at E4 zo4 o4 zs4
  obtain ⟨H5, e5, n5, z5, b5, f5⟩ := mkO_T Z4
  have q5 : 100 + Z4.1 = 436 := by omega
  rw [q5] at e5 b5 f5
  have p5 : ∀ (β : Type) (f : zH → Option β), zpf H5 100 11 4 (.ref 436) f = f (zset H5 100 (.inr (11, [.ref 101, .ref 138, .ref 399, .int (nI 0), .ref 436, .null, .null, .null]))) := fun _ f => pf_c ((f5 _ (by omega)).trans o4) (Nat.le_of_ble_eq_true rfl) (by omega) rfl f
  have E5 : rn 0 42 [.ref 100] [] Z4 = rn 0 53 [.ref 100] [] (zset H5 100 (.inr (11, [.ref 101, .ref 138, .ref 399, .int (nI 0), .ref 436, .null, .null, .null]))) := by
    simp (implicitDefEqProofs := false) (disch := omega) only [zr_0_42, zr_0_43, zr_0_46, zr_0_47, zr_0_50, true_or, or_true, true_and, and_true, if_true, if_false, ldA_ref, ldA_null, nl_int, nl_ref, nl_fl, nl_null, c1_int, c1_ref, c1_null, q5, e5, p5, zcall_some, zpush_some, zpush_none, zsum_ref, zsum_int, zsum_long, zsum_nil, zsum_null, Nat.reduceAdd, Nat.reduceLeDiff, if_true]
  have zo5 : ∀ p, p ≠ 100 → (zset H5 100 (.inr (11, [.ref 101, .ref 138, .ref 399, .int (nI 0), .ref 436, .null, .null, .null]))).2.2 p = H5.2.2 p := fun p hp => zset_o hp
  have o5 : (zset H5 100 (.inr (11, [.ref 101, .ref 138, .ref 399, .int (nI 0), .ref 436, .null, .null, .null]))).2.2 100 = .inr (11, [.ref 101, .ref 138, .ref 399, .int (nI 0), .ref 436, .null, .null, .null]) := zset_e
  have zs5 : (zset H5 100 (.inr (11, [.ref 101, .ref 138, .ref 399, .int (nI 0), .ref 436, .null, .null, .null]))).1 = H5.1 ∧ (zset H5 100 (.inr (11, [.ref 101, .ref 138, .ref 399, .int (nI 0), .ref 436, .null, .null, .null]))).2.1 = H5.2.1 := ⟨rfl, rfl⟩
  generalize zset H5 100 (.inr (11, [.ref 101, .ref 138, .ref 399, .int (nI 0), .ref 436, .null, .null, .null])) = Z5 at E5 zo5 o5 zs5
  obtain ⟨H6, e6, n6, z6, b6, f6⟩ := mkO_D Z5
  have q6 : 100 + Z5.1 = 441 := by omega
  rw [q6] at e6 b6 f6
  have p6 : ∀ (β : Type) (f : zH → Option β), zpf H6 100 11 5 (.ref 441) f = f (zset H6 100 (.inr (11, [.ref 101, .ref 138, .ref 399, .int (nI 0), .ref 436, .ref 441, .null, .null]))) := fun _ f => pf_c ((f6 _ (by omega)).trans o5) (Nat.le_of_ble_eq_true rfl) (by omega) rfl f
  have E6 : rn 0 53 [.ref 100] [] Z5 = rn 0 64 [.ref 100] [] (zset H6 100 (.inr (11, [.ref 101, .ref 138, .ref 399, .int (nI 0), .ref 436, .ref 441, .null, .null]))) := by
    simp (implicitDefEqProofs := false) (disch := omega) only [zr_0_53, zr_0_54, zr_0_57, zr_0_58, zr_0_61, true_or, or_true, true_and, and_true, if_true, if_false, ldA_ref, ldA_null, nl_int, nl_ref, nl_fl, nl_null, c1_int, c1_ref, c1_null, q6, e6, p6, zcall_some, zpush_some, zpush_none, zsum_ref, zsum_int, zsum_long, zsum_nil, zsum_null, Nat.reduceAdd, Nat.reduceLeDiff, if_true]
  have zo6 : ∀ p, p ≠ 100 → (zset H6 100 (.inr (11, [.ref 101, .ref 138, .ref 399, .int (nI 0), .ref 436, .ref 441, .null, .null]))).2.2 p = H6.2.2 p := fun p hp => zset_o hp
  have o6 : (zset H6 100 (.inr (11, [.ref 101, .ref 138, .ref 399, .int (nI 0), .ref 436, .ref 441, .null, .null]))).2.2 100 = .inr (11, [.ref 101, .ref 138, .ref 399, .int (nI 0), .ref 436, .ref 441, .null, .null]) := zset_e
  have zs6 : (zset H6 100 (.inr (11, [.ref 101, .ref 138, .ref 399, .int (nI 0), .ref 436, .ref 441, .null, .null]))).1 = H6.1 ∧ (zset H6 100 (.inr (11, [.ref 101, .ref 138, .ref 399, .int (nI 0), .ref 436, .ref 441, .null, .null]))).2.1 = H6.2.1 := ⟨rfl, rfl⟩
  generalize zset H6 100 (.inr (11, [.ref 101, .ref 138, .ref 399, .int (nI 0), .ref 436, .ref 441, .null, .null])) = Z6 at E6 zo6 o6 zs6
  obtain ⟨H7, e7, n7, z7, b7, f7⟩ := mk_Tr Z6
  have q7 : 100 + Z6.1 = 443 := by omega
  rw [q7] at e7 b7 f7
  have p7 : ∀ (β : Type) (f : zH → Option β), zpf H7 100 11 6 (.ref 443) f = f (zset H7 100 (.inr (11, [.ref 101, .ref 138, .ref 399, .int (nI 0), .ref 436, .ref 441, .ref 443, .null]))) := fun _ f => pf_c ((f7 _ (by omega)).trans o6) (Nat.le_of_ble_eq_true rfl) (by omega) rfl f
  have E7 : rn 0 64 [.ref 100] [] Z6 = rn 0 75 [.ref 100] [] (zset H7 100 (.inr (11, [.ref 101, .ref 138, .ref 399, .int (nI 0), .ref 436, .ref 441, .ref 443, .null]))) := by
    simp (implicitDefEqProofs := false) (disch := omega) only [zr_0_64, zr_0_65, zr_0_68, zr_0_69, zr_0_72, true_or, or_true, true_and, and_true, if_true, if_false, ldA_ref, ldA_null, nl_int, nl_ref, nl_fl, nl_null, c1_int, c1_ref, c1_null, q7, e7, p7, zcall_some, zpush_some, zpush_none, zsum_ref, zsum_int, zsum_long, zsum_nil, zsum_null, Nat.reduceAdd, Nat.reduceLeDiff, if_true]
  have zo7 : ∀ p, p ≠ 100 → (zset H7 100 (.inr (11, [.ref 101, .ref 138, .ref 399, .int (nI 0), .ref 436, .ref 441, .ref 443, .null]))).2.2 p = H7.2.2 p := fun p hp => zset_o hp
  have o7 : (zset H7 100 (.inr (11, [.ref 101, .ref 138, .ref 399, .int (nI 0), .ref 436, .ref 441, .ref 443, .null]))).2.2 100 = .inr (11, [.ref 101, .ref 138, .ref 399, .int (nI 0), .ref 436, .ref 441, .ref 443, .null]) := zset_e
  have zs7 : (zset H7 100 (.inr (11, [.ref 101, .ref 138, .ref 399, .int (nI 0), .ref 436, .ref 441, .ref 443, .null]))).1 = H7.1 ∧ (zset H7 100 (.inr (11, [.ref 101, .ref 138, .ref 399, .int (nI 0), .ref 436, .ref 441, .ref 443, .null]))).2.1 = H7.2.1 := ⟨rfl, rfl⟩
  generalize zset H7 100 (.inr (11, [.ref 101, .ref 138, .ref 399, .int (nI 0), .ref 436, .ref 441, .ref 443, .null])) = Z7 at E7 zo7 o7 zs7
  obtain ⟨H8, e8, n8, z8, b8, f8⟩ := mk_Tx Z7
  have q8 : 100 + Z7.1 = 459 := by omega
  rw [q8] at e8 b8 f8
  have p8 : ∀ (β : Type) (f : zH → Option β), zpf H8 100 11 7 (.ref 459) f = f (zset H8 100 (.inr (11, [.ref 101, .ref 138, .ref 399, .int (nI 0), .ref 436, .ref 441, .ref 443, .ref 459]))) := fun _ f => pf_c ((f8 _ (by omega)).trans o7) (Nat.le_of_ble_eq_true rfl) (by omega) rfl f
  have E8 : rn 0 75 [.ref 100] [] Z7 = rn 0 86 [.ref 100] [] (zset H8 100 (.inr (11, [.ref 101, .ref 138, .ref 399, .int (nI 0), .ref 436, .ref 441, .ref 443, .ref 459]))) := by
    simp (implicitDefEqProofs := false) (disch := omega) only [zr_0_75, zr_0_76, zr_0_79, zr_0_80, zr_0_83, true_or, or_true, true_and, and_true, if_true, if_false, ldA_ref, ldA_null, nl_int, nl_ref, nl_fl, nl_null, c1_int, c1_ref, c1_null, q8, e8, p8, zcall_some, zpush_some, zpush_none, zsum_ref, zsum_int, zsum_long, zsum_nil, zsum_null, Nat.reduceAdd, Nat.reduceLeDiff, if_true]
  have zo8 : ∀ p, p ≠ 100 → (zset H8 100 (.inr (11, [.ref 101, .ref 138, .ref 399, .int (nI 0), .ref 436, .ref 441, .ref 443, .ref 459]))).2.2 p = H8.2.2 p := fun p hp => zset_o hp
  have o8 : (zset H8 100 (.inr (11, [.ref 101, .ref 138, .ref 399, .int (nI 0), .ref 436, .ref 441, .ref 443, .ref 459]))).2.2 100 = .inr (11, [.ref 101, .ref 138, .ref 399, .int (nI 0), .ref 436, .ref 441, .ref 443, .ref 459]) := zset_e
  have zs8 : (zset H8 100 (.inr (11, [.ref 101, .ref 138, .ref 399, .int (nI 0), .ref 436, .ref 441, .ref 443, .ref 459]))).1 = H8.1 ∧ (zset H8 100 (.inr (11, [.ref 101, .ref 138, .ref 399, .int (nI 0), .ref 436, .ref 441, .ref 443, .ref 459]))).2.1 = H8.2.1 := ⟨rfl, rfl⟩
  generalize zset H8 100 (.inr (11, [.ref 101, .ref 138, .ref 399, .int (nI 0), .ref 436, .ref 441, .ref 443, .ref 459])) = Z8 at E8 zo8 o8 zs8
  have E9 : rn 0 86 [.ref 100] [] Z8 = some (none, Z8) := by
    simp (implicitDefEqProofs := false) (disch := omega) only [zr_0_86, true_or, or_true, true_and, and_true, if_true, if_false, ldA_ref, ldA_null, nl_int, nl_ref, nl_fl, nl_null, c1_int, c1_ref, c1_null, zcall_some, zpush_some, zpush_none, zsum_ref, zsum_int, zsum_long, zsum_nil, zsum_null, Nat.reduceAdd, Nat.reduceLeDiff, if_true]
  refine ⟨Z8, by rw [E0, E1, E2, E3, E4, E5, E6, E7, E8, E9], by omega, by omega, o8, b1.to fun p h1 h2 => ?_, b2.to fun p h1 h2 => ?_, b3.to fun p h1 h2 => ?_, b5.to fun p h1 h2 => ?_, b6.to fun p h1 h2 => ?_, b7.to fun p h1 h2 => ?_, ⟨(zo8 _ (by omega)).trans b8.1, b8.2.1.to fun p h1 h2 => ?_, (zo8 _ (by omega)).trans b8.2.2⟩, fun p hp => ?_⟩
  · rw [zo8 p (by omega), f8 p (by omega), zo7 p (by omega), f7 p (by omega), zo6 p (by omega), f6 p (by omega), zo5 p (by omega), f5 p (by omega), zo4 p (by omega), zo3 p (by omega), f3 p (by omega), zo2 p (by omega), f2 p (by omega), zo1 p (by omega)]
  · rw [zo8 p (by omega), f8 p (by omega), zo7 p (by omega), f7 p (by omega), zo6 p (by omega), f6 p (by omega), zo5 p (by omega), f5 p (by omega), zo4 p (by omega), zo3 p (by omega), f3 p (by omega), zo2 p (by omega)]
  · rw [zo8 p (by omega), f8 p (by omega), zo7 p (by omega), f7 p (by omega), zo6 p (by omega), f6 p (by omega), zo5 p (by omega), f5 p (by omega), zo4 p (by omega), zo3 p (by omega)]
  · rw [zo8 p (by omega), f8 p (by omega), zo7 p (by omega), f7 p (by omega), zo6 p (by omega), f6 p (by omega), zo5 p (by omega)]
  · rw [zo8 p (by omega), f8 p (by omega), zo7 p (by omega), f7 p (by omega), zo6 p (by omega)]
  · rw [zo8 p (by omega), f8 p (by omega), zo7 p (by omega)]
  · exact zo8 p (by omega)
  · rw [zo8 p (by omega), f8 p (by omega), zo7 p (by omega), f7 p (by omega), zo6 p (by omega), f6 p (by omega), zo5 p (by omega), f5 p (by omega), zo4 p (by omega), zo3 p (by omega), f3 p (by omega), zo2 p (by omega), f2 p (by omega), zo1 p (by omega), f1 p (by omega), fY p hp]
end
