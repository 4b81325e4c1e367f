/-! COMMANDS as text: the class reads commands -/
/-- how many numbers stand behind a word -/
def naT (H : zH) : Prop := ∃ g, H.2.2 4 = .inl (0, 12, .inl g) ∧ ∀ k, k < 12 → g k = nI (nA k)
/-- a command is kept at its place -/
def atC (T : tyT) (c : Nat) (w s : Nat) (vs : List Nat) : Prop := gT_wd T c = nI w ∧ gT_st T c = nI s ∧ ∀ j v, vs[j]? = some v → gT_nu T (c * 3 + j) = nI v
/-- the commands before the c-th are as they were -/
def keC (T' T : tyT) (c : Nat) : Prop := ∀ i, i < c → gT_wd T' i = gT_wd T i ∧ gT_st T' i = gT_st T i ∧ ∀ j, j < 3 → gT_nu T' (i * 3 + j) = gT_nu T (i * 3 + j)
section
variable {h : zH} {a n : Nat} {T : tyT} {sg : Nat → Nat}
theorem keC.rf (T : tyT) (c : Nat) : keC T T c := fun _ _ => ⟨rfl, rfl, fun _ _ => rfl⟩
theorem keC.tr {T1 T2 : tyT} {c : Nat} (x : keC T2 T1 c) (y : keC T1 T c) : keC T2 T c := fun i hi => ⟨(x i hi).1.trans (y i hi).1, (x i hi).2.1.trans (y i hi).2.1, fun j hj => ((x i hi).2.2 j hj).trans ((y i hi).2.2 j hj)⟩
theorem naT.to {H H1 : zH} (x : naT H) (hz : sta H1 H) : naT H1 := by
  obtain ⟨g, h1, h2⟩ := x
  exact ⟨g, (hz 4 (by omega)).trans h1, h2⟩
theorem sta_blk {H : zH} {m : Nat} {c : Nat → zC} (ha : 100 ≤ a) : sta (blk a m c H) H := fun q hq => blk_out (by omega)
theorem nA_3 {k : Nat} (hk : k < 12) : nA k ≤ 3 := by
  match k, hk with
  | 0, _ | 1, _ | 2, _ | 3, _ | 4, _ | 5, _ | 6, _ | 7, _ | 8, _ | 9, _ | 10, _ | 11, _ => decide
  | k + 12, h => omega
theorem pNS_len (sg : Nat → Nat) (n : Nat) : ∀ f b, (pNS sg n f b).2.2.length ≤ f
  | 0, _ => Nat.le_refl _
  | f + 1, b => by
    rw [pNS]
    dsimp only
    split
    · have := pNS_len sg n f (pNM sg n b).2.1
      dsimp only
      rw [List.length_cons]; omega
    · exact Nat.zero_le _
/-- where a command ends, or fails -/
def endI (sg : Nat → Nat) (n : Nat) (y : Bool × Nat × List Nat) : Int32 := if y.1 = true ∧ (n ≤ y.2.1 ∨ sg y.2.1 = 59) then nI y.2.1 else -1 - nI y.2.1
theorem s_numsL (ha : 100 ≤ a) {c w s : Nat} (hc12 : c < 12) (hw : w < 12) : ∀ (f i pos : Nat) (T : tyT), i + f = nA w → pos ≤ 61 → bufT T sg n → gT_ct T = nI c → naT (blk a 5 (cT a T) h) → ∃ T', rn 177 47 [.ref a, .int (nI s), .int (nI pos), .int (nI w), .int (nI i)] [] (blk a 5 (cT a T) h) = some (some (.int (endI sg n (pNS sg n f pos))), blk a 5 (cT a T') h) ∧ bufT T' sg n ∧ gT_ct T' = nI c ∧ gT_wd T' = gT_wd T ∧ gT_st T' = gT_st T ∧ (∀ q, q < c * 3 + i → gT_nu T' q = gT_nu T q) ∧ ∀ j v, (pNS sg n f pos).2.2[j]? = some v → gT_nu T' (c * 3 + i + j) = nI v := by
  intro f
  induction f with
  | zero =>
    intro i pos T hi hp hb hc hna
    have hn := hb.2.1
    have hn3 := nA_3 hw
    obtain ⟨g, g1, g2⟩ := hna
    have k1 : ∀ (β : Type) (f : Int32 → Option β), zli (blk a 5 (cT a T) h) 4 0 (nI w) f = f (nI (nA w)) := fun _ f => by rw [li_c g1 hw (by omega) f, g2 w hw]
    have hT : isB (blk a 5 (cT a T) h) a 5 (cT a T) := blk_isB
    have hfa := fun p => s_failAt p (blk a 5 (cT a T) h)
    refine ⟨T, ?_, hb, hc, rfl, rfl, fun _ _ => rfl, fun j v hv => by cases hv⟩
    rw [zl_177_47]
    unfold pNS endI
    by_cases c1 : n ≤ pos
    · rw [if_pos ⟨rfl, Or.inl c1⟩]
      simp (implicitDefEqProofs := false) (disch := omega) only [zr_177_49, zr_177_52, zr_177_53, zr_177_54, zr_177_57, zr_177_59, zr_177_60, zr_177_63, zr_177_64, zr_177_65, zr_177_67, zr_177_70, zr_177_71, zr_177_72, zr_177_75, zr_177_78, zr_177_79, zr_177_80, zr_177_83, zr_177_86, zr_177_87, zr_177_88, zr_177_91, zr_177_94, zr_177_95, zr_177_98, zr_177_99, zr_177_100, zr_177_102, zr_177_105, zr_177_106, zr_177_109, zr_177_110, zr_177_113, true_or, or_true, true_and, and_true, if_true, if_false, ldA_ref, ldA_null, nl_int, nl_ref, nl_fl, nl_null, c1_int, c1_ref, c1_null, Nat.zero_add, Nat.zero_mul, Nat.one_mul, nI_add, nI_leI, nI_ltI, nI_eq, nI_mul, k1, show nA w ≤ i from by omega, rdT_0 (hT), rdT_1 (hT), rdT_2 (hT), rdT_3 (hT), rdT_4 (hT), rdT_5 (hT), rdT_6 (hT), rdT_7 (hT), rdT_8 (hT), rdT_9 (hT), rdT_10 (hT), rdT_11 (hT), rdT_12 (hT), rdT_13 (hT), rdT_14 (hT), hb.1, c1]
    · obtain ⟨q1, q2, q3⟩ := hb.2.2 pos (by omega)
      by_cases c2 : sg pos = 59
      · rw [if_pos ⟨rfl, Or.inr c2⟩]
        simp (implicitDefEqProofs := false) (disch := omega) only [zr_177_49, zr_177_52, zr_177_53, zr_177_54, zr_177_57, zr_177_59, zr_177_60, zr_177_63, zr_177_64, zr_177_65, zr_177_67, zr_177_70, zr_177_71, zr_177_72, zr_177_75, zr_177_78, zr_177_79, zr_177_80, zr_177_83, zr_177_86, zr_177_87, zr_177_88, zr_177_91, zr_177_94, zr_177_95, zr_177_98, zr_177_99, zr_177_100, zr_177_102, zr_177_105, zr_177_106, zr_177_109, zr_177_110, zr_177_113, true_or, or_true, true_and, and_true, if_true, if_false, ldA_ref, ldA_null, nl_int, nl_ref, nl_fl, nl_null, c1_int, c1_ref, c1_null, Nat.zero_add, Nat.zero_mul, Nat.one_mul, nI_add, nI_leI, nI_ltI, nI_eq, nI_mul, k1, show nA w ≤ i from by omega, rdT_0 (hT), rdT_1 (hT), rdT_2 (hT), rdT_3 (hT), rdT_4 (hT), rdT_5 (hT), rdT_6 (hT), rdT_7 (hT), rdT_8 (hT), rdT_9 (hT), rdT_10 (hT), rdT_11 (hT), rdT_12 (hT), rdT_13 (hT), rdT_14 (hT), hb.1, c1, q1, c2]
      · rw [if_neg (fun x => by rcases x.2 with x | x; exact c1 x; exact c2 x)]
        simp (implicitDefEqProofs := false) (disch := omega) only [zr_177_49, zr_177_52, zr_177_53, zr_177_54, zr_177_57, zr_177_59, zr_177_60, zr_177_63, zr_177_64, zr_177_65, zr_177_67, zr_177_70, zr_177_71, zr_177_72, zr_177_75, zr_177_78, zr_177_79, zr_177_80, zr_177_83, zr_177_86, zr_177_87, zr_177_88, zr_177_91, zr_177_94, zr_177_95, zr_177_98, zr_177_99, zr_177_100, zr_177_102, zr_177_105, zr_177_106, zr_177_109, zr_177_110, zr_177_113, true_or, or_true, true_and, and_true, if_true, if_false, ldA_ref, ldA_null, nl_int, nl_ref, nl_fl, nl_null, c1_int, c1_ref, c1_null, Nat.zero_add, Nat.zero_mul, Nat.one_mul, nI_add, nI_leI, nI_ltI, nI_eq, nI_mul, k1, show nA w ≤ i from by omega, rdT_0 (hT), rdT_1 (hT), rdT_2 (hT), rdT_3 (hT), rdT_4 (hT), rdT_5 (hT), rdT_6 (hT), rdT_7 (hT), rdT_8 (hT), rdT_9 (hT), rdT_10 (hT), rdT_11 (hT), rdT_12 (hT), rdT_13 (hT), rdT_14 (hT), hb.1, c1, q1, c2, hfa, zcall_some, zpush_some, zpush_none, zsum_ref, zsum_int, zsum_long, zsum_nil, zsum_null, Nat.reduceAdd, Nat.reduceLeDiff, if_true]
  | succ f ih =>
    intro i pos T hi hp hb hc hna
    have hn := hb.2.1
    have hn3 := nA_3 hw
    have hna0 := hna
    obtain ⟨g, g1, g2⟩ := hna
    have k1 : ∀ (β : Type) (f : Int32 → Option β), zli (blk a 5 (cT a T) h) 4 0 (nI w) f = f (nI (nA w)) := fun _ f => by rw [li_c g1 hw (by omega) f, g2 w hw]
    have hT : isB (blk a 5 (cT a T) h) a 5 (cT a T) := blk_isB
    have hrn := s_readNum (h := h) ha hb hc hc12 (show i < 3 by omega) hp
    have hpb := pNM_bd sg (b := pos) hn
    rw [pNS]
    dsimp only
    generalize pNM sg n pos = z at hrn hpb ⊢
    obtain ⟨z1, z2, z3⟩ := z
    dsimp only at hrn hpb ⊢
    have hz : z2 < 200 := by omega
    by_cases c1 : z1 = true
    · subst c1
      rw [if_pos rfl]
      have e1 : tNum T c i (true, z2, z3) = sT_nu T (upd (gT_nu T) (c * 3 + i) (nI z3)) := if_pos rfl
      have e2 : posI (true, z2) = nI z2 := if_pos rfl
      rw [e1, e2] at hrn
      have hf0 := s_isFail0 hz (blk a 5 (cT a (sT_nu T (upd (gT_nu T) (c * 3 + i) (nI z3)))) h)
      obtain ⟨T', r1, r2, r3, r4, r5, r6, r7⟩ := ih (i + 1) z2 (sT_nu T (upd (gT_nu T) (c * 3 + i) (nI z3))) (by omega) (by omega) hb hc (hna0.to (fun q hq => by rw [sta_blk ha q hq, sta_blk ha q hq]))
      refine ⟨T', ?_, r2, r3, r4, r5, fun q hq => ?_, fun j v hv => ?_⟩
      · rw [zl_177_47]
        simp (implicitDefEqProofs := false) (disch := omega) only [zr_177_49, zr_177_52, zr_177_53, zr_177_54, zr_177_57, zr_177_59, zr_177_60, zr_177_63, zr_177_64, zr_177_65, zr_177_67, zr_177_70, zr_177_71, zr_177_72, zr_177_75, zr_177_78, zr_177_79, zr_177_80, zr_177_83, true_or, or_true, true_and, and_true, if_true, if_false, ldA_ref, ldA_null, nl_int, nl_ref, nl_fl, nl_null, c1_int, c1_ref, c1_null, Nat.zero_add, Nat.zero_mul, Nat.one_mul, nI_add, nI_leI, nI_ltI, nI_eq, nI_mul, k1, show ¬ nA w ≤ i from by omega, show ¬ 3 ≤ i from by omega, rdT_0 (hT), rdT_1 (hT), rdT_2 (hT), rdT_3 (hT), rdT_4 (hT), rdT_5 (hT), rdT_6 (hT), rdT_7 (hT), rdT_8 (hT), rdT_9 (hT), rdT_10 (hT), rdT_11 (hT), rdT_12 (hT), rdT_13 (hT), rdT_14 (hT), hrn, hf0, zcall_some, zpush_some, zpush_none, zsum_ref, zsum_int, zsum_long, zsum_nil, zsum_null, Nat.reduceAdd, Nat.reduceLeDiff, if_true]
        exact r1
      · rw [r6 q (by omega)]
        show (if q = c * 3 + i then _ else _) = _
        rw [if_neg (by omega)]
      · by_cases hj : j = 0
        · subst hj
          have hv2 : z3 = v := by simpa using hv
          rw [← hv2, Nat.add_zero, r6 (c * 3 + i) (by omega)]
          exact if_pos rfl
        · obtain ⟨j2, rfl⟩ : ∃ j2, j = j2 + 1 := ⟨j - 1, by omega⟩
          have := r7 j2 v (by simpa using hv)
          rw [← this]; congr 1; omega
    · have c2 : z1 = false := by simpa using c1
      subst c2
      rw [if_neg Bool.false_ne_true]
      have e1 : tNum T c i (false, z2, z3) = T := if_neg Bool.false_ne_true
      have e2 : posI (false, z2) = -1 - nI z2 := if_neg Bool.false_ne_true
      rw [e1, e2] at hrn
      have hf1 := s_isFail1 hz (blk a 5 (cT a T) h)
      refine ⟨T, ?_, hb, hc, rfl, rfl, fun _ _ => rfl, fun j v hv => by cases hv⟩
      have e3 : endI sg n (false, z2, ([] : List Nat)) = -1 - nI z2 := if_neg (fun x => absurd x.1 Bool.false_ne_true)
      rw [e3, zl_177_47]
      simp (implicitDefEqProofs := false) (disch := omega) only [zr_177_49, zr_177_52, zr_177_53, zr_177_54, zr_177_57, zr_177_59, zr_177_60, zr_177_63, zr_177_64, zr_177_65, zr_177_67, zr_177_70, zr_177_71, zr_177_72, zr_177_75, zr_177_78, zr_177_79, zr_177_80, zr_177_83, true_or, or_true, true_and, and_true, if_true, if_false, ldA_ref, ldA_null, nl_int, nl_ref, nl_fl, nl_null, c1_int, c1_ref, c1_null, Nat.zero_add, Nat.zero_mul, Nat.one_mul, nI_add, nI_leI, nI_ltI, nI_eq, nI_mul, k1, show ¬ nA w ≤ i from by omega, show ¬ 3 ≤ i from by omega, rdT_0 (hT), rdT_1 (hT), rdT_2 (hT), rdT_3 (hT), rdT_4 (hT), rdT_5 (hT), rdT_6 (hT), rdT_7 (hT), rdT_8 (hT), rdT_9 (hT), rdT_10 (hT), rdT_11 (hT), rdT_12 (hT), rdT_13 (hT), rdT_14 (hT), hrn, hf1, show ¬ 1 = 0 from by omega, zcall_some, zpush_some, zpush_none, zsum_ref, zsum_int, zsum_long, zsum_nil, zsum_null, Nat.reduceAdd, Nat.reduceLeDiff, if_true]
theorem pNS_bd (sg : Nat → Nat) {n : Nat} (hn : n ≤ 60) : ∀ f b, b ≤ 61 → (pNS sg n f b).2.1 ≤ 61
  | 0, b, h => h
  | f + 1, b, h => by
    rw [pNS]
    dsimp only
    have := pNM_bd sg (b := b) hn
    split
    · exact pNS_bd sg hn f _ (by omega)
    · dsimp only; omega
theorem pCmd_bd (sg : Nat → Nat) {n s : Nat} (hn : n ≤ 60) (hs : s ≤ 61) : (pCmd sg n s).2.1 ≤ 61 := by
  unfold pCmd
  dsimp only
  have hw := pWE_bd sg n 60 s
  have h1 : pWE sg n 60 s ≤ 61 := by rcases hw.2 with h | h <;> omega
  split
  · exact hs
  · split
    · split
      · exact pNS_bd sg hn _ _ h1
      · exact pNS_bd sg hn _ _ h1
    · exact pNS_bd sg hn _ _ h1
theorem pWD_lt (sg : Nat → Nat) (s e : Nat) : ∀ f k, k + f = 12 → pWD sg s e f k ≤ 12
  | 0, k, _ => Nat.le_refl _
  | f + 1, k, hk => by
    rw [pWD]
    split
    · omega
    · exact pWD_lt sg s e f (k + 1) (by omega)
theorem s_readCmd (ha : 100 ≤ a) {c s : Nat} (hc12 : c < 12) (hs : s ≤ 61) (hb : bufT T sg n) (hc : gT_ct T = nI c) (hna : naT (blk a 5 (cT a T) h)) (hwd : wdA (blk a 5 (cT a T) h)) : ∃ T', ev 177 [.ref a, .int (nI s)] (blk a 5 (cT a T) h) = some (some (.int (posI ((pCmd sg n s).1, (pCmd sg n s).2.1))), blk a 5 (cT a T') h) ∧ bufT T' sg n ∧ gT_ct T' = nI c ∧ keC T' T c ∧ ((pCmd sg n s).1 = true → atC T' c (pCmd sg n s).2.2.1 s (pCmd sg n s).2.2.2) := by
  have hn := hb.2.1
  have hT : isB (blk a 5 (cT a T) h) a 5 (cT a T) := blk_isB
  have hwb := pWE_bd sg n 60 s
  have he : pWE sg n 60 s ≤ 61 := by rcases hwb.2 with h | h <;> omega
  have h1 := s_wordEnd hT hb hs
  have h2 := s_wordBet (s := s) (e := pWE sg n 60 s) hT hb hwd hwb.1 hwb.2.symm (by omega)
  have hlt := pWD_lt sg s (pWE sg n 60 s) 12 0 rfl
  have hfa := fun p => s_failAt p (blk a 5 (cT a T) h)
  unfold pCmd
  dsimp only
  generalize pWE sg n 60 s = e at h1 h2 he hlt ⊢
  generalize pWD sg s e 12 0 = w at h2 hlt ⊢
  by_cases c1 : w = 12
  · rw [if_pos c1] at h2 ⊢
    refine ⟨T, ?_, hb, hc, keC.rf T c, fun x => absurd x Bool.false_ne_true⟩
    have e2 : posI (false, s) = -1 - nI s := if_neg Bool.false_ne_true
    show _ = some (some (Value.int (posI (false, s))), _)
    rw [e2]
    simp (implicitDefEqProofs := false) (disch := omega) only [ze_177, zr_177_0, zr_177_1, zr_177_2, zr_177_5, zr_177_6, zr_177_7, zr_177_8, zr_177_9, zr_177_12, zr_177_13, zr_177_14, zr_177_16, zr_177_19, zr_177_20, zr_177_23, zr_177_24, zr_177_25, zr_177_28, zr_177_29, zr_177_32, zr_177_33, zr_177_34, zr_177_35, zr_177_38, zr_177_39, zr_177_42, zr_177_43, zr_177_44, zr_177_45, zr_177_49, zr_177_52, zr_177_53, zr_177_54, zr_177_57, zr_177_59, zr_177_60, zr_177_63, zr_177_64, zr_177_65, zr_177_67, zr_177_70, zr_177_71, zr_177_72, zr_177_75, zr_177_78, zr_177_79, zr_177_80, zr_177_83, zr_177_86, zr_177_87, zr_177_88, zr_177_91, zr_177_94, zr_177_95, zr_177_98, zr_177_99, zr_177_100, zr_177_102, zr_177_105, zr_177_106, zr_177_109, zr_177_110, zr_177_113, true_or, or_true, true_and, and_true, if_true, if_false, ldA_ref, ldA_null, nl_int, nl_ref, nl_fl, nl_null, c1_int, c1_ref, c1_null, Nat.zero_add, Nat.zero_mul, Nat.one_mul, nI_add, nI_leI, nI_ltI, nI_eq, nI_mul, rdT_0 (hT), rdT_1 (hT), rdT_2 (hT), rdT_3 (hT), rdT_4 (hT), rdT_5 (hT), rdT_6 (hT), rdT_7 (hT), rdT_8 (hT), rdT_9 (hT), rdT_10 (hT), rdT_11 (hT), rdT_12 (hT), rdT_13 (hT), rdT_14 (hT), h1, h2, hfa, zcall_some, zpush_some, zpush_none, zsum_ref, zsum_int, zsum_long, zsum_nil, zsum_null, Nat.reduceAdd, Nat.reduceLeDiff, if_true]
  · rw [if_neg c1] at h2 ⊢
    have hw12 : w < 12 := by omega
    have hne : (nI w = -2) = False := by
      apply propext
      refine ⟨fun x => ?_, fun x => x.elim⟩
      have := congrArg Int32.toInt x
      rw [nI_toInt (by omega)] at this
      have e : (-2 : Int32).toInt = -2 := by decide
      omega
    have hb1 : bufT (sT_st (sT_wd T (upd (gT_wd T) c (nI w))) (upd (gT_st T) c (nI s))) sg n := hb
    obtain ⟨T', r1, r2, r3, r4, r5, r6, r7⟩ := s_numsL (h := h) (s := s) ha hc12 hw12 (nA w) 0 e (sT_st (sT_wd T (upd (gT_wd T) c (nI w))) (upd (gT_st T) c (nI s))) (by omega) he hb1 hc (hna.to (fun q hq => by rw [sta_blk ha q hq, sta_blk ha q hq]))
    have a1 : ev 177 [.ref a, .int (nI s)] (blk a 5 (cT a T) h) = some (some (.int (endI sg n (pNS sg n (nA w) e))), blk a 5 (cT a T') h) := by
      rw [← r1]
      simp (implicitDefEqProofs := false) (disch := omega) only [ze_177, zr_177_0, zr_177_1, zr_177_2, zr_177_5, zr_177_6, zr_177_7, zr_177_8, zr_177_9, zr_177_12, zr_177_13, zr_177_14, zr_177_16, zr_177_19, zr_177_20, zr_177_23, zr_177_24, zr_177_25, zr_177_28, zr_177_29, zr_177_32, zr_177_33, zr_177_34, zr_177_35, zr_177_38, zr_177_39, zr_177_42, zr_177_43, zr_177_44, zr_177_45, true_or, or_true, true_and, and_true, if_true, if_false, ldA_ref, ldA_null, nl_int, nl_ref, nl_fl, nl_null, c1_int, c1_ref, c1_null, Nat.zero_add, Nat.zero_mul, Nat.one_mul, nI_add, nI_leI, nI_ltI, nI_eq, nI_mul, rdT_0 (hT), rdT_1 (hT), rdT_2 (hT), rdT_3 (hT), rdT_4 (hT), rdT_5 (hT), rdT_6 (hT), rdT_7 (hT), rdT_8 (hT), rdT_9 (hT), rdT_10 (hT), rdT_11 (hT), rdT_12 (hT), rdT_13 (hT), rdT_14 (hT), h1, h2, hne, hc, wrT_0 (ha), wrT_1 (ha), wrT_2 (ha), wrT_3 (ha), wrT_4 (ha), wrT_5 (ha), rdT_0 (blk_isB), rdT_1 (blk_isB), rdT_2 (blk_isB), rdT_3 (blk_isB), rdT_4 (blk_isB), rdT_5 (blk_isB), rdT_6 (blk_isB), rdT_7 (blk_isB), rdT_8 (blk_isB), rdT_9 (blk_isB), rdT_10 (blk_isB), rdT_11 (blk_isB), rdT_12 (blk_isB), rdT_13 (blk_isB), rdT_14 (blk_isB), gsT_0, gsT_1, gsT_2, gsT_3, gsT_4, gsT_5, gsT_6, gsT_7, gsT_8, gsT_9, gsT_10, gsT_11, gsT_12, gsT_13, gsT_14, gsT_15, gsT_16, gsT_17, gsT_18, gsT_19, gsT_20, gsT_21, gsT_22, gsT_23, gsT_24, gsT_25, gsT_26, gsT_27, gsT_28, gsT_29, gsT_30, gsT_31, gsT_32, gsT_33, gsT_34, gsT_35, zcall_some, zpush_some, zpush_none, zsum_ref, zsum_int, zsum_long, zsum_nil, zsum_null, Nat.reduceAdd, Nat.reduceLeDiff, if_true]
      done
    have hke : keC T' T c := fun i hi => ⟨by rw [r4]; exact if_neg (by omega), by rw [r5]; exact if_neg (by omega), fun j hj => by rw [r6 _ (by omega)]; rfl⟩
    have hat : atC T' c w s (pNS sg n (nA w) e).2.2 := ⟨by rw [r4]; exact if_pos rfl, by rw [r5]; exact if_pos rfl, fun j v hv => by
      have := r7 j v hv
      rw [Nat.add_zero] at this
      exact this⟩
    generalize pNS sg n (nA w) e = y at a1 hat ⊢
    obtain ⟨y1, y2, y3⟩ := y
    dsimp only at a1 hat ⊢
    refine ⟨T', ?_, r2, r3, hke, ?_⟩
    · rw [a1]
      by_cases d1 : y1 = true
      · subst d1
        rw [if_pos rfl]
        by_cases d2 : n ≤ y2 ∨ sg y2 = 59
        · rw [if_pos d2]
          unfold endI posI
          rw [if_pos ⟨rfl, d2⟩, if_pos rfl]
        · rw [if_neg d2]
          unfold endI posI
          rw [if_neg (fun x => d2 x.2), if_neg Bool.false_ne_true]
      · have d3 : y1 = false := by simpa using d1
        subst d3
        rw [if_neg Bool.false_ne_true]
        unfold endI posI
        rw [if_neg (fun x => absurd x.1 Bool.false_ne_true), if_neg Bool.false_ne_true]
    · intro x
      by_cases d1 : y1 = true
      · subst d1
        rw [if_pos rfl] at x ⊢
        by_cases d2 : n ≤ y2 ∨ sg y2 = 59
        · rw [if_pos d2] at x ⊢
          exact hat
        · rw [if_neg d2] at x
          exact absurd x Bool.false_ne_true
      · have d3 : y1 = false := by simpa using d1
        subst d3
        rw [if_neg Bool.false_ne_true] at x
        exact absurd x Bool.false_ne_true
end
