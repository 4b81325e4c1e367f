/-! THE REFERENCE reads commands: which word -/
/-- only something new on the heap -/
def alF (h' h : zH) (k z : Nat) : Prop := h'.1 = h.1 + k ∧ h'.2.1 = h.2.1 + z ∧ ∀ q, q < 100 + h.1 → h'.2.2 q = h.2.2 q
section
variable {m n : Nat} {r : Rst} {h : zH} {sg : Nat → Nat}
theorem putM_znew {v : zC} {z : Nat} (hm : m + 9 ≤ 100 + h.1) : znew (putM m r h) v z = putM m r (znew h v z) := by
  refine Prod.ext rfl (Prod.ext rfl (funext fun q => ?_))
  show (if q = 100 + h.1 then v else if q < m then h.2.2 q else if q < m + 9 then cellM m r (q - m) else h.2.2 q) = if q < m then (if q = 100 + h.1 then v else h.2.2 q) else if q < m + 9 then cellM m r (q - m) else (if q = 100 + h.1 then v else h.2.2 q)
  by_cases hq : q = 100 + h.1
  · rw [if_pos hq, if_neg (by omega), if_neg (by omega), if_pos hq]
  · rw [if_neg hq, if_neg hq]
theorem putM_zset {v : zC} {a : Nat} (ha : a < m ∨ m + 9 ≤ a) : zset (putM m r h) a v = putM m r (zset h a v) := by
  refine Prod.ext rfl (Prod.ext rfl (funext fun q => ?_))
  show (if q = a then v else if q < m then h.2.2 q else if q < m + 9 then cellM m r (q - m) else h.2.2 q) = if q < m then (if q = a then v else h.2.2 q) else if q < m + 9 then cellM m r (q - m) else (if q = a then v else h.2.2 q)
  by_cases hq : q = a
  · subst hq
    rw [if_pos rfl]
    by_cases h1 : q < m
    · rw [if_pos h1, if_pos rfl]
    · rw [if_neg h1, if_neg (by omega), if_pos rfl]
  · rw [if_neg hq, if_neg hq]
def wdG (k : Nat) : Nat → Option Nat := fun i => if i < k then some (66 + 2 * i) else none
theorem wdG_up (k : Nat) : va_up (wdG k) k (some (66 + 2 * k)) = wdG (k + 1) := by
  funext i
  show (if i = k then some (66 + 2 * k) else if i < k then some (66 + 2 * i) else none) = if i < k + 1 then some (66 + 2 * i) else none
  by_cases c : i = k
  · subst c; rw [if_pos rfl, if_pos (by omega)]
  · rw [if_neg c]
    by_cases d : i < k
    · rw [if_pos d, if_pos (by omega)]
    · rw [if_neg d, if_neg (by omega)]
def wdC (k : Nat) : zC := .inl (7, 12, .inr (.inr (.inr (.inr (wdG k)))))
theorem wdG_0 : (fun _ => none : Nat → Option Nat) = wdG 0 := by
  funext i; exact (if_neg (by omega)).symm
theorem s_wdst {a k : Nat} (ha : m + 9 ≤ a) (hm : 100 ≤ m) (hk : k < 12) (hX : h.2.2 a = wdC k) (hs : zkd (putM m r h) (66 + 2 * k) = 13) {β : Type} (f : zH → Option β) : zsq (putM m r h) a (nI k) (.ref (66 + 2 * k)) f = f (putM m r (zset h a (wdC (k + 1)))) := by
  rw [sq_c (t := 7) (m := 12) (g := wdG k) ((putM_out r h (Or.inr ha)).trans hX) (by decide) hk (by omega) (by omega) (by rw [hs]; rfl) f, wdG_up, putM_zset (Or.inr ha)]
  rfl
theorem s_rwordL {a s e : Nat} (ha : m + 9 ≤ a) (hX : h.2.2 a = wdC 12) (hw : wdR (putM m r h)) (hb : bufR r sg n) (hp : rPl r = nI e) (hse : s ≤ e) (hen : e ≤ n ∨ e = s) (he : e ≤ 200) : ∀ (j k : Nat), k + j = 12 → rn 287 89 [.ref m, .int (nI s), .ref a, .int (pRW sg s e k), .int (nI k)] [] (putM m r h) = some (some (.int (pRW sg s e 12)), putM m r h) := by
  have k0 : (putM m r h).2.2 a = wdC 12 := (putM_out r h (Or.inr ha)).trans hX
  have k1 : ∀ (β : Type) (f : Int32 → Option β), zal (putM m r h) a f = f (nI 12) := fun _ f => al_c k0 (by decide) f
  intro j
  induction j with
  | zero =>
    intro k hk
    rw [Nat.add_zero] at hk
    subst hk
    rw [zl_287_89]
    simp (implicitDefEqProofs := false) (disch := omega) only [zr_287_91, zr_287_92, zr_287_93, zr_287_96, zr_287_97, zr_287_98, zr_287_99, zr_287_101, zr_287_102, zr_287_105, zr_287_108, zr_287_110, zr_287_113, zr_287_114, zr_287_115, zr_287_118, zr_287_121, zr_287_122, true_or, or_true, true_and, and_true, if_true, if_false, ldA_ref, ldA_null, nl_int, nl_ref, nl_fl, nl_null, c1_int, c1_ref, c1_null, Nat.zero_add, Nat.zero_mul, Nat.one_mul, nI_add, nI_leI, nI_ltI, nI_eq, nI_mul, k1, Nat.le_refl]
  | succ j ih =>
    intro k hk
    have hk2 : k < 12 := by omega
    have k2 : ∀ (β : Type) (f : Option Nat → Option β), zlq (putM m r h) a (nI k) f = f (some (66 + 2 * k)) := fun _ f => by
      rw [lq_c k0 (by decide) hk2 (by omega) f]
      unfold wdG
      rw [if_pos hk2]
    have hi := s_isWord (k := k) hk2 hw hb hp hse hen he
    have e1 := ih (k + 1) (by omega)
    rw [pRW] at e1
    rw [zl_287_89]
    by_cases c : spl sg s e (rwL k) = true
    · rw [if_pos c] at hi e1
      simp (implicitDefEqProofs := false) (disch := omega) only [zr_287_91, zr_287_92, zr_287_93, zr_287_96, zr_287_97, zr_287_98, zr_287_99, zr_287_101, zr_287_102, zr_287_105, zr_287_108, zr_287_110, zr_287_113, zr_287_114, zr_287_115, zr_287_118, true_or, or_true, true_and, and_true, if_true, if_false, ldA_ref, ldA_null, nl_int, nl_ref, nl_fl, nl_null, c1_int, c1_ref, c1_null, Nat.zero_add, Nat.zero_mul, Nat.one_mul, nI_add, nI_leI, nI_ltI, nI_eq, nI_mul, kd_M, k1, show ¬ 12 ≤ k from by omega, k2, rf_some, hi, show ¬ (1 : Nat) = 0 from by omega, zcall_some, zpush_some, zpush_none, zsum_ref, zsum_int, zsum_long, zsum_nil, zsum_null, Nat.reduceAdd, Nat.reduceLeDiff, if_true]
      exact e1
    · rw [if_neg c] at hi e1
      simp (implicitDefEqProofs := false) (disch := omega) only [zr_287_91, zr_287_92, zr_287_93, zr_287_96, zr_287_97, zr_287_98, zr_287_99, zr_287_101, zr_287_102, zr_287_105, zr_287_108, zr_287_110, zr_287_113, zr_287_114, zr_287_115, zr_287_118, true_or, or_true, true_and, and_true, if_true, if_false, ldA_ref, ldA_null, nl_int, nl_ref, nl_fl, nl_null, c1_int, c1_ref, c1_null, Nat.zero_add, Nat.zero_mul, Nat.one_mul, nI_add, nI_leI, nI_ltI, nI_eq, nI_mul, kd_M, k1, show ¬ 12 ≤ k from by omega, k2, rf_some, hi, zcall_some, zpush_some, zpush_none, zsum_ref, zsum_int, zsum_long, zsum_nil, zsum_null, Nat.reduceAdd, Nat.reduceLeDiff, if_true]
      exact e1
theorem s_rwordOf {s e : Nat} (hm : 100 ≤ m) (hmh : m + 9 ≤ 100 + h.1) (hw : wdR (putM m r h)) (hb : bufR r sg n) (hp : rPl r = nI e) (hse : s ≤ e) (hen : e ≤ n ∨ e = s) (he : e ≤ 200) : ∃ h', ev 287 [.ref m, .int (nI s)] (putM m r h) = some (some (.int (pRW sg s e 12)), putM m r h') ∧ alF h' h 1 12 := by
  let X : Nat → zH := fun k => zset (znew h (wdC 0) 12) (100 + h.1) (wdC k)
  have x1 : ∀ k, (X k).2.2 (100 + h.1) = wdC k := fun k => zset_at _ _
  have xo : ∀ k q, q < 100 + h.1 → (X k).2.2 q = h.2.2 q := fun k q hq => by
    show (zset _ _ _).2.2 q = _
    rw [zset_ne (by omega), znew_ne (by omega)]
  have x0 : znew h (wdC 0) 12 = X 0 := by
    refine Prod.ext rfl (Prod.ext rfl (funext fun q => ?_))
    show (if q = 100 + h.1 then wdC 0 else h.2.2 q) = if q = 100 + h.1 then wdC 0 else if q = 100 + h.1 then wdC 0 else h.2.2 q
    by_cases hq : q = 100 + h.1
    · rw [if_pos hq, if_pos hq]
    · rw [if_neg hq, if_neg hq]
  have hsta : ∀ k, sta (putM m r (X k)) (putM m r h) := fun k q hq => by
    rw [putM_out _ _ (Or.inl (by omega)), putM_out _ _ (Or.inl (by omega)), xo k q (by omega)]
  have hk13 : ∀ k i, i < 12 → zkd (putM m r (X k)) (66 + 2 * i) = 13 := fun k i hi => by
    obtain ⟨gs, h1, h2, h3, h4, h5, h6⟩ := hw i hi
    exact kd_c ((hsta k _ (by omega)).trans h1)
  have st : ∀ (k : Nat), k < 12 → ∀ (β : Type) (f : zH → Option β), zsq (putM m r (X k)) (100 + h.1) (nI k) (.ref (66 + 2 * k)) f = f (putM m r (X (k + 1))) := fun k hk β f => by
    rw [s_wdst (by omega) hm hk (x1 k) (hk13 k k hk) f]
    show f (putM m r (zset (zset _ _ _) _ _)) = _
    rw [zset_zset]
  have s0 := st 0 (by omega)
  have s1 := st 1 (by omega)
  have s2 := st 2 (by omega)
  have s3 := st 3 (by omega)
  have s4 := st 4 (by omega)
  have s5 := st 5 (by omega)
  have s6 := st 6 (by omega)
  have s7 := st 7 (by omega)
  have s8 := st 8 (by omega)
  have s9 := st 9 (by omega)
  have s10 := st 10 (by omega)
  have s11 := st 11 (by omega)
  simp only [Nat.reduceMul, Nat.reduceAdd] at s0 s1 s2 s3 s4 s5 s6 s7 s8 s9 s10 s11
  have hw12 : wdR (putM m r (X 12)) := fun k hk => (hw k hk).to (hsta 12)
  have hL := s_rwordL (h := X 12) (a := 100 + h.1) (s := s) (by omega) (x1 12) hw12 hb hp hse hen he 12 0 (by omega)
  refine ⟨X 12, ?_, rfl, rfl, xo 12⟩
  have hn : ∀ z : zRes, mkA (nI 12) z = z := fun z => mkA_ok (by omega) z
  have hz : znew (putM m r h) (.inl (7, 12, .inr (.inr (.inr (.inr fun _ => none))))) 12 = putM m r (X 0) := by
    rw [← x0, putM_znew hmh, wdG_0]; rfl
  have hp1 : (putM m r h).1 = h.1 := rfl
  rw [← hL]
  generalize X = X2 at *
  simp (implicitDefEqProofs := false) (disch := omega) only [ze_287, zr_287_0, zr_287_2, zr_287_5, zr_287_6, zr_287_7, zr_287_10, zr_287_11, zr_287_12, zr_287_13, zr_287_16, zr_287_17, zr_287_18, zr_287_19, zr_287_22, zr_287_23, zr_287_24, zr_287_25, zr_287_28, zr_287_29, zr_287_30, zr_287_31, zr_287_34, zr_287_35, zr_287_36, zr_287_37, zr_287_40, zr_287_41, zr_287_42, zr_287_44, zr_287_47, zr_287_48, zr_287_49, zr_287_51, zr_287_54, zr_287_55, zr_287_56, zr_287_58, zr_287_61, zr_287_62, zr_287_63, zr_287_65, zr_287_68, zr_287_69, zr_287_70, zr_287_72, zr_287_75, zr_287_76, zr_287_77, zr_287_79, zr_287_82, zr_287_83, zr_287_84, zr_287_85, zr_287_86, zr_287_87, true_or, or_true, true_and, and_true, if_true, if_false, ldA_ref, ldA_null, nl_int, nl_ref, nl_fl, nl_null, c1_int, c1_ref, c1_null, hn, nI_clamp, hz, hp1, s0, s1, s2, s3, s4, s5, s6, s7, s8, s9, s10, s11, c1_ref, c1_int]
  rfl
end
