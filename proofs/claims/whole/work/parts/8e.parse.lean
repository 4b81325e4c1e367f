/-! COMMANDS as text: what is read, as functions of the letters -/
def pWE (sg : Nat → Nat) (n : Nat) : Nat → Nat → Nat
  | 0, a => a
  | f + 1, a => if a < n ∧ 97 ≤ sg a ∧ sg a ≤ 122 then pWE sg n f (a + 1) else a
def pDG (sg : Nat → Nat) (n : Nat) : Nat → Nat → Nat → Nat × Nat
  | 0, a, v => (a, v)
  | f + 1, a, v => if a < n ∧ 48 ≤ sg a ∧ sg a ≤ 57 then pDG sg n f (a + 1) (v * 10 + sg a - 48) else (a, v)
/-- a number behind a blank: is it one, where it ends or fails, its value -/
def pNM (sg : Nat → Nat) (n b : Nat) : Bool × Nat × Nat := if b < n ∧ sg b = 32 then (if (pDG sg n 5 (b + 1) 0).1 = b + 1 then (false, b + 1, 0) else (true, pDG sg n 5 (b + 1) 0)) else (false, b, 0)
def wL (k : Nat) : List Nat := match k with
  | 0 => [115, 97, 108, 97, 114, 121]
  | 1 => [100, 97, 121, 115]
  | 2 => [98, 111, 110, 117, 115]
  | 3 => [102, 108, 111, 111, 114]
  | 4 => [114, 97, 116, 101]
  | 5 => [99, 97, 112]
  | 6 => [98, 114, 97, 99, 107, 101, 116]
  | 7 => [102, 105, 120, 101, 100]
  | 8 => [115, 104, 97, 114, 101]
  | 9 => [100, 114, 111, 112]
  | 10 => [109, 111, 118, 101]
  | _ => [99, 108, 111, 115, 101]
def spl (sg : Nat → Nat) (s e k : Nat) : Bool := decide ((wL k).length = e - s) && (List.range (wL k).length).all fun i => sg (s + i) == (wL k).getD i 0
/-- the word there, 12: none -/
def pWD (sg : Nat → Nat) (s e : Nat) : Nat → Nat → Nat
  | 0, _ => 12
  | f + 1, k => if spl sg s e k then k else pWD sg s e f (k + 1)
def nA (k : Nat) : Nat := [3, 3, 3, 2, 2, 2, 2, 3, 3, 2, 3, 0].getD k 0
/-- so many numbers: are they there, where they end or it fails, their values -/
def pNS (sg : Nat → Nat) (n : Nat) : Nat → Nat → Bool × Nat × List Nat
  | 0, b => (true, b, [])
  | f + 1, b => let z := pNM sg n b
    if z.1 then (let y := pNS sg n f z.2.1; (y.1, y.2.1, z.2.2 :: y.2.2)) else (false, z.2.1, [])
/-- a command: is it one, where it ends or fails, its word, its numbers -/
def pCmd (sg : Nat → Nat) (n s : Nat) : Bool × Nat × Nat × List Nat :=
  let e := pWE sg n 60 s
  let w := pWD sg s e 12 0
  if w = 12 then (false, s, 12, [])
  else let y := pNS sg n (nA w) e
    if y.1 then (if n ≤ y.2.1 ∨ sg y.2.1 = 59 then (true, y.2.1, w, y.2.2) else (false, y.2.1, w, y.2.2)) else (false, y.2.1, w, y.2.2)
/-- all commands from s on: where it fails (none: nowhere), and the commands with their starts -/
def pRD (sg : Nat → Nat) (n : Nat) : Nat → Nat → Option Nat × List (Nat × Nat × List Nat)
  | 0, s => (some s, [])
  | f + 1, s => let c := pCmd sg n s
    if c.1 then (if n ≤ c.2.1 then (none, [(c.2.2.1, s, c.2.2.2)]) else (let z := pRD sg n f (c.2.1 + 1); (z.1, (c.2.2.1, s, c.2.2.2) :: z.2))) else (some c.2.1, [])
/-- the class's buffer -/
def bufT (T : tyT) (sg : Nat → Nat) (n : Nat) : Prop := gT_ln T = nI n ∧ n ≤ 60 ∧ ∀ j, j < n → gT_sg T j = nI (sg j) ∧ 32 ≤ sg j ∧ sg j ≤ 126
section
variable {H : zH} {a n : Nat} {T : tyT} {sg : Nat → Nat}
theorem s_isSign (hT : isB H a 5 (cT a T)) (hb : bufT T sg n) {k lo hi : Nat} (hk : k ≤ 200) (hlo : lo < 200) (hhi : hi < 200) : ev 179 [.ref a, .int (nI k), .int (nI lo), .int (nI hi)] H = some (some (.int (bI (k < n ∧ lo ≤ sg k ∧ sg k ≤ hi))), H) := by
  obtain ⟨h1, h2, h3⟩ := hb
  unfold bI
  by_cases c : k < n
  · obtain ⟨g1, g2, g3⟩ := h3 k c
    have hs : nI n - nI 1 = nI (n - 1) := nI_sub1 (by omega)
    by_cases c2 : lo ≤ sg k
    · by_cases c3 : sg k ≤ hi
      · rw [if_pos ⟨c, c2, c3⟩]
        simp (implicitDefEqProofs := false) (disch := omega) only [ze_179, zr_179_0, zr_179_1, zr_179_2, zr_179_3, zr_179_6, zr_179_7, zr_179_8, zr_179_11, zr_179_14, zr_179_15, zr_179_18, zr_179_19, zr_179_20, zr_179_21, zr_179_24, zr_179_25, zr_179_28, zr_179_29, zr_179_30, zr_179_31, zr_179_34, zr_179_35, zr_179_38, zr_179_39, true_or, or_true, true_and, and_true, if_true, if_false, ldA_ref, ldA_null, nl_int, nl_ref, nl_fl, nl_null, c1_int, c1_ref, c1_null, Nat.zero_add, Nat.zero_mul, Nat.one_mul, nI_add, nI_leI, nI_ltI, nI_eq, nI_mul, rdT_0 (hT), rdT_1 (hT), rdT_2 (hT), rdT_3 (hT), rdT_4 (hT), rdT_5 (hT), rdT_6 (hT), rdT_7 (hT), rdT_8 (hT), rdT_9 (hT), rdT_10 (hT), rdT_11 (hT), rdT_12 (hT), rdT_13 (hT), rdT_14 (hT), h1, hs, s_within, bI_0, show ¬ ¬ (0 ≤ k ∧ k ≤ n - 1) from by omega, g1, show ¬ sg k < lo from by omega, show ¬ hi < sg k from by omega, zcall_some, zpush_some, zpush_none, zsum_ref, zsum_int, zsum_long, zsum_nil, zsum_null, Nat.reduceAdd, Nat.reduceLeDiff, if_true]
      · rw [if_neg (fun x => c3 x.2.2)]
        simp (implicitDefEqProofs := false) (disch := omega) only [ze_179, zr_179_0, zr_179_1, zr_179_2, zr_179_3, zr_179_6, zr_179_7, zr_179_8, zr_179_11, zr_179_14, zr_179_15, zr_179_18, zr_179_19, zr_179_20, zr_179_21, zr_179_24, zr_179_25, zr_179_28, zr_179_29, zr_179_30, zr_179_31, zr_179_34, zr_179_35, zr_179_38, zr_179_39, true_or, or_true, true_and, and_true, if_true, if_false, ldA_ref, ldA_null, nl_int, nl_ref, nl_fl, nl_null, c1_int, c1_ref, c1_null, Nat.zero_add, Nat.zero_mul, Nat.one_mul, nI_add, nI_leI, nI_ltI, nI_eq, nI_mul, rdT_0 (hT), rdT_1 (hT), rdT_2 (hT), rdT_3 (hT), rdT_4 (hT), rdT_5 (hT), rdT_6 (hT), rdT_7 (hT), rdT_8 (hT), rdT_9 (hT), rdT_10 (hT), rdT_11 (hT), rdT_12 (hT), rdT_13 (hT), rdT_14 (hT), h1, hs, s_within, bI_0, show ¬ ¬ (0 ≤ k ∧ k ≤ n - 1) from by omega, g1, show ¬ sg k < lo from by omega, show hi < sg k from by omega, zcall_some, zpush_some, zpush_none, zsum_ref, zsum_int, zsum_long, zsum_nil, zsum_null, Nat.reduceAdd, Nat.reduceLeDiff, if_true]
    · rw [if_neg (fun x => c2 x.2.1)]
      simp (implicitDefEqProofs := false) (disch := omega) only [ze_179, zr_179_0, zr_179_1, zr_179_2, zr_179_3, zr_179_6, zr_179_7, zr_179_8, zr_179_11, zr_179_14, zr_179_15, zr_179_18, zr_179_19, zr_179_20, zr_179_21, zr_179_24, zr_179_25, zr_179_28, zr_179_29, zr_179_30, zr_179_31, zr_179_34, zr_179_35, zr_179_38, zr_179_39, true_or, or_true, true_and, and_true, if_true, if_false, ldA_ref, ldA_null, nl_int, nl_ref, nl_fl, nl_null, c1_int, c1_ref, c1_null, Nat.zero_add, Nat.zero_mul, Nat.one_mul, nI_add, nI_leI, nI_ltI, nI_eq, nI_mul, rdT_0 (hT), rdT_1 (hT), rdT_2 (hT), rdT_3 (hT), rdT_4 (hT), rdT_5 (hT), rdT_6 (hT), rdT_7 (hT), rdT_8 (hT), rdT_9 (hT), rdT_10 (hT), rdT_11 (hT), rdT_12 (hT), rdT_13 (hT), rdT_14 (hT), h1, hs, s_within, bI_0, show ¬ ¬ (0 ≤ k ∧ k ≤ n - 1) from by omega, g1, show sg k < lo from by omega, zcall_some, zpush_some, zpush_none, zsum_ref, zsum_int, zsum_long, zsum_nil, zsum_null, Nat.reduceAdd, Nat.reduceLeDiff, if_true]
  · rw [if_neg (fun x => c x.1)]
    have h5 : ¬ (nI 0 ≤ nI k ∧ nI k ≤ nI n - nI 1) := fun x => by
      have := (le_pred (i := nI k) (n := n) (by omega)).mp x.2
      rw [nI_ltI (by omega) (by omega)] at this
      exact c this
    have h6 := s_within (nI k) (nI 0) (nI n - nI 1) H
    rw [show bI (nI 0 ≤ nI k ∧ nI k ≤ nI n - nI 1) = nI 0 from (bI_0 _).mpr h5] at h6
    simp (implicitDefEqProofs := false) (disch := omega) only [ze_179, zr_179_0, zr_179_1, zr_179_2, zr_179_3, zr_179_6, zr_179_7, zr_179_8, zr_179_11, zr_179_14, zr_179_15, zr_179_18, zr_179_19, zr_179_20, zr_179_21, zr_179_24, zr_179_25, zr_179_28, zr_179_29, zr_179_30, zr_179_31, zr_179_34, zr_179_35, zr_179_38, zr_179_39, true_or, or_true, true_and, and_true, if_true, if_false, ldA_ref, ldA_null, nl_int, nl_ref, nl_fl, nl_null, c1_int, c1_ref, c1_null, rdT_0 (hT), rdT_1 (hT), rdT_2 (hT), rdT_3 (hT), rdT_4 (hT), rdT_5 (hT), rdT_6 (hT), rdT_7 (hT), rdT_8 (hT), rdT_9 (hT), rdT_10 (hT), rdT_11 (hT), rdT_12 (hT), rdT_13 (hT), rdT_14 (hT), h1, h6, zcall_some, zpush_some, zpush_none, zsum_ref, zsum_int, zsum_long, zsum_nil, zsum_null, Nat.reduceAdd, Nat.reduceLeDiff, if_true]
theorem s_wordEndL (hT : isB H a 5 (cT a T)) (hb : bufT T sg n) (v : Int32) : ∀ (f k : Nat), n ≤ k + f → k ≤ 120 → rn 178 2 [.ref a, .int v, .int (nI k)] [] H = some (some (.int (nI (pWE sg n f k))), H) := by
  intro f
  induction f with
  | zero =>
    intro k h1 h2
    rw [pWE, zl_178_2]
    simp (implicitDefEqProofs := false) (disch := omega) only [ze_178, zr_178_0, zr_178_1, zr_178_3, zr_178_4, zr_178_7, zr_178_10, zr_178_11, zr_178_12, zr_178_14, zr_178_16, zr_178_19, zr_178_22, zr_178_25, zr_178_28, zr_178_29, true_or, or_true, true_and, and_true, if_true, if_false, ldA_ref, ldA_null, nl_int, nl_ref, nl_fl, nl_null, c1_int, c1_ref, c1_null, Nat.zero_add, Nat.zero_mul, Nat.one_mul, nI_add, nI_leI, nI_ltI, nI_eq, nI_mul, rdT_0 (hT), rdT_1 (hT), rdT_2 (hT), rdT_3 (hT), rdT_4 (hT), rdT_5 (hT), rdT_6 (hT), rdT_7 (hT), rdT_8 (hT), rdT_9 (hT), rdT_10 (hT), rdT_11 (hT), rdT_12 (hT), rdT_13 (hT), rdT_14 (hT), hb.1, show n ≤ k from by omega]
  | succ f ih =>
    intro k h1 h2
    have hn := hb.2.1
    rw [pWE, zl_178_2]
    have hs := s_isSign (lo := 97) (hi := 122) hT hb (show k ≤ 200 by omega) (by omega) (by omega)
    by_cases c : n ≤ k
    · rw [if_neg (by omega)]
      simp (implicitDefEqProofs := false) (disch := omega) only [ze_178, zr_178_0, zr_178_1, zr_178_3, zr_178_4, zr_178_7, zr_178_10, zr_178_11, zr_178_12, zr_178_14, zr_178_16, zr_178_19, zr_178_22, zr_178_25, zr_178_28, zr_178_29, true_or, or_true, true_and, and_true, if_true, if_false, ldA_ref, ldA_null, nl_int, nl_ref, nl_fl, nl_null, c1_int, c1_ref, c1_null, Nat.zero_add, Nat.zero_mul, Nat.one_mul, nI_add, nI_leI, nI_ltI, nI_eq, nI_mul, rdT_0 (hT), rdT_1 (hT), rdT_2 (hT), rdT_3 (hT), rdT_4 (hT), rdT_5 (hT), rdT_6 (hT), rdT_7 (hT), rdT_8 (hT), rdT_9 (hT), rdT_10 (hT), rdT_11 (hT), rdT_12 (hT), rdT_13 (hT), rdT_14 (hT), hb.1, c]
    · by_cases c2 : k < n ∧ 97 ≤ sg k ∧ sg k ≤ 122
      · rw [if_pos c2]
        have hbi : bI (k < n ∧ 97 ≤ sg k ∧ sg k ≤ 122) = nI 1 := if_pos c2
        rw [hbi] at hs
        simp (implicitDefEqProofs := false) (disch := omega) only [ze_178, zr_178_0, zr_178_1, zr_178_3, zr_178_4, zr_178_7, zr_178_10, zr_178_11, zr_178_12, zr_178_14, zr_178_16, zr_178_19, zr_178_22, zr_178_25, zr_178_28, zr_178_29, true_or, or_true, true_and, and_true, if_true, if_false, ldA_ref, ldA_null, nl_int, nl_ref, nl_fl, nl_null, c1_int, c1_ref, c1_null, Nat.zero_add, Nat.zero_mul, Nat.one_mul, nI_add, nI_leI, nI_ltI, nI_eq, nI_mul, rdT_0 (hT), rdT_1 (hT), rdT_2 (hT), rdT_3 (hT), rdT_4 (hT), rdT_5 (hT), rdT_6 (hT), rdT_7 (hT), rdT_8 (hT), rdT_9 (hT), rdT_10 (hT), rdT_11 (hT), rdT_12 (hT), rdT_13 (hT), rdT_14 (hT), hb.1, c, hs, show ¬ 1 = 0 from by omega, zcall_some, zpush_some, zpush_none, zsum_ref, zsum_int, zsum_long, zsum_nil, zsum_null, Nat.reduceAdd, Nat.reduceLeDiff, if_true]
        exact ih (k + 1) (by omega) (by omega)
      · rw [if_neg c2]
        have hbi : bI (k < n ∧ 97 ≤ sg k ∧ sg k ≤ 122) = nI 0 := if_neg c2
        rw [hbi] at hs
        simp (implicitDefEqProofs := false) (disch := omega) only [ze_178, zr_178_0, zr_178_1, zr_178_3, zr_178_4, zr_178_7, zr_178_10, zr_178_11, zr_178_12, zr_178_14, zr_178_16, zr_178_19, zr_178_22, zr_178_25, zr_178_28, zr_178_29, true_or, or_true, true_and, and_true, if_true, if_false, ldA_ref, ldA_null, nl_int, nl_ref, nl_fl, nl_null, c1_int, c1_ref, c1_null, Nat.zero_add, Nat.zero_mul, Nat.one_mul, nI_add, nI_leI, nI_ltI, nI_eq, nI_mul, rdT_0 (hT), rdT_1 (hT), rdT_2 (hT), rdT_3 (hT), rdT_4 (hT), rdT_5 (hT), rdT_6 (hT), rdT_7 (hT), rdT_8 (hT), rdT_9 (hT), rdT_10 (hT), rdT_11 (hT), rdT_12 (hT), rdT_13 (hT), rdT_14 (hT), hb.1, c, hs, zcall_some, zpush_some, zpush_none, zsum_ref, zsum_int, zsum_long, zsum_nil, zsum_null, Nat.reduceAdd, Nat.reduceLeDiff, if_true]
theorem s_wordEnd (hT : isB H a 5 (cT a T)) (hb : bufT T sg n) {s : Nat} (hs : s ≤ 61) : ev 178 [.ref a, .int (nI s)] H = some (some (.int (nI (pWE sg n 60 s))), H) := by
  have hn := hb.2.1
  rw [← s_wordEndL hT hb (nI s) 60 s (by omega) (by omega)]
  simp (implicitDefEqProofs := false) (disch := omega) only [ze_178, zr_178_0, zr_178_1, zr_178_3, zr_178_4, zr_178_7, zr_178_10, zr_178_11, zr_178_12, zr_178_14, zr_178_16, zr_178_19, zr_178_22, zr_178_25, zr_178_28, zr_178_29, true_or, or_true, true_and, and_true, if_true, if_false, ldA_ref, ldA_null, nl_int, nl_ref, nl_fl, nl_null, c1_int, c1_ref, c1_null]
theorem pWE_bd (sg : Nat → Nat) (n : Nat) : ∀ f a, a ≤ pWE sg n f a ∧ (pWE sg n f a = a ∨ pWE sg n f a ≤ n)
  | 0, a => ⟨Nat.le_refl _, Or.inl rfl⟩
  | f + 1, a => by
    rw [pWE]
    split
    · rename_i c
      obtain ⟨h1, h2⟩ := pWE_bd sg n f (a + 1)
      refine ⟨by omega, Or.inr ?_⟩
      rcases h2 with h2 | h2 <;> omega
    · exact ⟨Nat.le_refl _, Or.inl rfl⟩
/-- the words' texts stand where the class has them -/
def wdA (H : zH) : Prop := ∀ k, k < 12 → stOK H (10 + 2 * k) (wL k)
theorem s_wordText {k : Nat} (hk : k < 12) : ev 181 [.int (nI k)] H = some (some (.ref (10 + 2 * k)), H) := by
  match k, hk with
  | 0, _ | 1, _ | 2, _ | 3, _ | 4, _ | 5, _ | 6, _ | 7, _ | 8, _ | 9, _ | 10, _ | 11, _ =>
    simp (implicitDefEqProofs := false) (disch := omega) only [ze_181, zr_181_0, zr_181_1, zr_181_60, zr_181_62, zr_181_63, zr_181_65, zr_181_66, zr_181_68, zr_181_69, zr_181_71, zr_181_72, zr_181_74, zr_181_75, zr_181_77, zr_181_78, zr_181_80, zr_181_81, zr_181_83, zr_181_84, zr_181_86, zr_181_87, zr_181_89, zr_181_90, zr_181_92, zr_181_93, zr_181_95, true_or, or_true, true_and, and_true, if_true, if_false, ldA_ref, ldA_null, nl_int, nl_ref, nl_fl, nl_null, c1_int, c1_ref, c1_null, nI_eq, Nat.reduceEqDiff, show (0 : Nat) = 0 from rfl]
    done
  | k + 12, h => omega
theorem s_spellsL (hT : isB H a 5 (cT a T)) (hb : bufT T sg n) {st s e : Nat} {l : List Nat} (hs : stOK H st l) (hl : s + l.length ≤ n) : ∀ (j i : Nat), i + j = l.length → (∀ q, q < i → sg (s + q) = l.getD q 0) → rn 182 15 [.ref a, .ref st, .int (nI s), .int (nI e), .int (nI i)] [] H = some (some (.int (bI (∀ q, q < l.length → sg (s + q) = l.getD q 0))), H) := by
  have hln := s_strLen hs
  have hn := hb.2.1
  have k1 : zkd H st = 13 := by obtain ⟨gs, h1, -⟩ := hs; exact kd_c h1
  intro j
  induction j with
  | zero =>
    intro i hi hq
    have hi2 : i = l.length := by omega
    subst hi2
    have e1 : bI (∀ q, q < l.length → sg (s + q) = l.getD q 0) = nI 1 := if_pos hq
    rw [e1, zl_182_15]
    simp (implicitDefEqProofs := false) (disch := omega) only [ze_182, zr_182_0, zr_182_1, zr_182_4, zr_182_5, zr_182_6, zr_182_7, zr_182_10, zr_182_11, zr_182_12, zr_182_13, zr_182_17, zr_182_18, zr_182_21, zr_182_24, zr_182_25, zr_182_27, zr_182_30, zr_182_31, zr_182_34, zr_182_35, zr_182_37, zr_182_38, zr_182_39, zr_182_42, zr_182_43, zr_182_44, zr_182_47, zr_182_50, zr_182_51, true_or, or_true, true_and, and_true, if_true, if_false, ldA_ref, ldA_null, nl_int, nl_ref, nl_fl, nl_null, c1_int, c1_ref, c1_null, Nat.zero_add, Nat.zero_mul, Nat.one_mul, nI_add, nI_leI, nI_ltI, nI_eq, nI_mul, k1, hln, Nat.le_refl, zcall_some, zpush_some, zpush_none, zsum_ref, zsum_int, zsum_long, zsum_nil, zsum_null, Nat.reduceAdd, Nat.reduceLeDiff, if_true]
  | succ j ih =>
    intro i hi hq
    have hil : i < l.length := by omega
    have hgt : l[i]? = some l[i] := List.getElem?_eq_getElem hil
    have hat := s_strAt hs hgt
    have hgd : l.getD i 0 = l[i] := by rw [List.getD_eq_getElem?_getD, hgt]; rfl
    obtain ⟨g1, g2, g3⟩ := hb.2.2 (s + i) (by omega)
    have hc : l[i] < 128 := by
      obtain ⟨gs, h1, h2, h3, h4, -⟩ := hs
      exact (h4 i _ hgt).1
    rw [zl_182_15]
    by_cases c : l[i] = sg (s + i)
    · simp (implicitDefEqProofs := false) (disch := omega) only [ze_182, zr_182_0, zr_182_1, zr_182_4, zr_182_5, zr_182_6, zr_182_7, zr_182_10, zr_182_11, zr_182_12, zr_182_13, zr_182_17, zr_182_18, zr_182_21, zr_182_24, zr_182_25, zr_182_27, zr_182_30, zr_182_31, zr_182_34, zr_182_35, zr_182_37, zr_182_38, zr_182_39, zr_182_42, zr_182_43, zr_182_44, zr_182_47, zr_182_50, zr_182_51, true_or, or_true, true_and, and_true, if_true, if_false, ldA_ref, ldA_null, nl_int, nl_ref, nl_fl, nl_null, c1_int, c1_ref, c1_null, Nat.zero_add, Nat.zero_mul, Nat.one_mul, nI_add, nI_leI, nI_ltI, nI_eq, nI_mul, rdT_0 (hT), rdT_1 (hT), rdT_2 (hT), rdT_3 (hT), rdT_4 (hT), rdT_5 (hT), rdT_6 (hT), rdT_7 (hT), rdT_8 (hT), rdT_9 (hT), rdT_10 (hT), rdT_11 (hT), rdT_12 (hT), rdT_13 (hT), rdT_14 (hT), k1, hln, show ¬ l.length ≤ i from by omega, hat, g1, c, zcall_some, zpush_some, zpush_none, zsum_ref, zsum_int, zsum_long, zsum_nil, zsum_null, Nat.reduceAdd, Nat.reduceLeDiff, if_true]
      exact ih (i + 1) (by omega) (fun q hq2 => by
        by_cases d : q = i
        · subst d; rw [hgd]; exact c.symm
        · exact hq q (by omega))
    · have e1 : bI (∀ q, q < l.length → sg (s + q) = l.getD q 0) = nI 0 := if_neg (fun h => c (by rw [← hgd]; exact (h i hil).symm))
      rw [e1]
      simp (implicitDefEqProofs := false) (disch := omega) only [ze_182, zr_182_0, zr_182_1, zr_182_4, zr_182_5, zr_182_6, zr_182_7, zr_182_10, zr_182_11, zr_182_12, zr_182_13, zr_182_17, zr_182_18, zr_182_21, zr_182_24, zr_182_25, zr_182_27, zr_182_30, zr_182_31, zr_182_34, zr_182_35, zr_182_37, zr_182_38, zr_182_39, zr_182_42, zr_182_43, zr_182_44, zr_182_47, zr_182_50, zr_182_51, true_or, or_true, true_and, and_true, if_true, if_false, ldA_ref, ldA_null, nl_int, nl_ref, nl_fl, nl_null, c1_int, c1_ref, c1_null, Nat.zero_add, Nat.zero_mul, Nat.one_mul, nI_add, nI_leI, nI_ltI, nI_eq, nI_mul, rdT_0 (hT), rdT_1 (hT), rdT_2 (hT), rdT_3 (hT), rdT_4 (hT), rdT_5 (hT), rdT_6 (hT), rdT_7 (hT), rdT_8 (hT), rdT_9 (hT), rdT_10 (hT), rdT_11 (hT), rdT_12 (hT), rdT_13 (hT), rdT_14 (hT), k1, hln, show ¬ l.length ≤ i from by omega, hat, g1, c, zcall_some, zpush_some, zpush_none, zsum_ref, zsum_int, zsum_long, zsum_nil, zsum_null, Nat.reduceAdd, Nat.reduceLeDiff, if_true]
theorem spl_iff (sg : Nat → Nat) (s e k : Nat) : (spl sg s e k = true) ↔ ((wL k).length = e - s ∧ ∀ q, q < (wL k).length → sg (s + q) = (wL k).getD q 0) := by
  unfold spl
  rw [Bool.and_eq_true, decide_eq_true_eq, List.all_eq_true]
  constructor
  · rintro ⟨h1, h2⟩
    exact ⟨h1, fun q hq => by simpa using h2 q (List.mem_range.mpr hq)⟩
  · rintro ⟨h1, h2⟩
    exact ⟨h1, fun q hq => by simpa using h2 q (List.mem_range.mp hq)⟩
theorem s_spells (hT : isB H a 5 (cT a T)) (hb : bufT T sg n) (hw : wdA H) {s e k : Nat} (hk : k < 12) (hse : s ≤ e) (hen : e ≤ n ∨ e = s) (he : e ≤ 200) : ev 182 [.ref a, .ref (10 + 2 * k), .int (nI s), .int (nI e)] H = some (some (.int (if spl sg s e k then nI 1 else nI 0)), H) := by
  have hs := hw k hk
  have hln := s_strLen hs
  have k1 : zkd H (10 + 2 * k) = 13 := by obtain ⟨gs, h1, -⟩ := hs; exact kd_c h1
  have hsub : nI e - nI s = nI (e - s) := nI_sub hse (by omega)
  have hl3 : 3 ≤ (wL k).length ∧ (wL k).length ≤ 7 := by
    match k, hk with
    | 0, _ | 1, _ | 2, _ | 3, _ | 4, _ | 5, _ | 6, _ | 7, _ | 8, _ | 9, _ | 10, _ | 11, _ => decide
    | k + 12, h => omega
  by_cases c : (wL k).length = e - s
  · have hL := s_spellsL (e := e) hT hb hs (show s + (wL k).length ≤ n by omega) (wL k).length 0 (by omega) (fun q hq => absurd hq (by omega))
    have e1 : bI (∀ q, q < (wL k).length → sg (s + q) = (wL k).getD q 0) = if spl sg s e k then nI 1 else nI 0 := by
      unfold bI
      by_cases d : ∀ q, q < (wL k).length → sg (s + q) = (wL k).getD q 0
      · rw [if_pos d, if_pos ((spl_iff sg s e k).mpr ⟨c, d⟩)]
      · rw [if_neg d, if_neg (fun x => d ((spl_iff sg s e k).mp x).2)]
    rw [e1] at hL
    rw [← hL]
    simp (implicitDefEqProofs := false) (disch := omega) only [ze_182, zr_182_0, zr_182_1, zr_182_4, zr_182_5, zr_182_6, zr_182_7, zr_182_10, zr_182_11, zr_182_12, zr_182_13, zr_182_17, zr_182_18, zr_182_21, zr_182_24, zr_182_25, zr_182_27, zr_182_30, zr_182_31, zr_182_34, zr_182_35, zr_182_37, zr_182_38, zr_182_39, zr_182_42, zr_182_43, zr_182_44, zr_182_47, zr_182_50, zr_182_51, true_or, or_true, true_and, and_true, if_true, if_false, ldA_ref, ldA_null, nl_int, nl_ref, nl_fl, nl_null, c1_int, c1_ref, c1_null, Nat.zero_add, Nat.zero_mul, Nat.one_mul, nI_add, nI_leI, nI_ltI, nI_eq, nI_mul, k1, hln, hsub, c, zcall_some, zpush_some, zpush_none, zsum_ref, zsum_int, zsum_long, zsum_nil, zsum_null, Nat.reduceAdd, Nat.reduceLeDiff, if_true]
  · have e1 : (if spl sg s e k then nI 1 else nI 0) = nI 0 := if_neg (fun x => c ((spl_iff sg s e k).mp x).1)
    rw [e1]
    simp (implicitDefEqProofs := false) (disch := omega) only [ze_182, zr_182_0, zr_182_1, zr_182_4, zr_182_5, zr_182_6, zr_182_7, zr_182_10, zr_182_11, zr_182_12, zr_182_13, zr_182_17, zr_182_18, zr_182_21, zr_182_24, zr_182_25, zr_182_27, zr_182_30, zr_182_31, zr_182_34, zr_182_35, zr_182_37, zr_182_38, zr_182_39, zr_182_42, zr_182_43, zr_182_44, zr_182_47, zr_182_50, zr_182_51, true_or, or_true, true_and, and_true, if_true, if_false, ldA_ref, ldA_null, nl_int, nl_ref, nl_fl, nl_null, c1_int, c1_ref, c1_null, Nat.zero_add, Nat.zero_mul, Nat.one_mul, nI_add, nI_leI, nI_ltI, nI_eq, nI_mul, k1, hln, hsub, c, zcall_some, zpush_some, zpush_none, zsum_ref, zsum_int, zsum_long, zsum_nil, zsum_null, Nat.reduceAdd, Nat.reduceLeDiff, if_true]
theorem s_wordBetL (hT : isB H a 5 (cT a T)) (hb : bufT T sg n) (hw : wdA H) {s e : Nat} (hse : s ≤ e) (hen : e ≤ n ∨ e = s) (he : e ≤ 200) : ∀ (f k : Nat), k + f = 12 → rn 180 2 [.ref a, .int (nI s), .int (nI e), .int (nI k)] [] H = some (some (.int (if pWD sg s e f k = 12 then -2 else nI (pWD sg s e f k))), H) := by
  intro f
  induction f with
  | zero =>
    intro k hk
    have hk2 : k = 12 := by omega
    subst hk2
    rw [pWD, if_pos rfl, zl_180_2]
    simp (implicitDefEqProofs := false) (disch := omega) only [ze_180, zr_180_0, zr_180_1, zr_180_3, zr_180_5, zr_180_8, zr_180_9, zr_180_10, zr_180_13, zr_180_14, zr_180_15, zr_180_18, zr_180_21, zr_180_22, zr_180_23, zr_180_26, zr_180_29, zr_180_31, true_or, or_true, true_and, and_true, if_true, if_false, ldA_ref, ldA_null, nl_int, nl_ref, nl_fl, nl_null, c1_int, c1_ref, c1_null, Nat.zero_add, Nat.zero_mul, Nat.one_mul, nI_add, nI_leI, nI_ltI, nI_eq, nI_mul, Nat.le_refl]
  | succ f ih =>
    intro k hk
    have hk2 : k < 12 := by omega
    have hsp := s_spells (k := k) hT hb hw hk2 hse hen he
    have hwt := s_wordText (H := H) hk2
    rw [pWD, zl_180_2]
    by_cases c : spl sg s e k = true
    · rw [if_pos c] at hsp ⊢
      rw [if_neg (by omega)]
      simp (implicitDefEqProofs := false) (disch := omega) only [ze_180, zr_180_0, zr_180_1, zr_180_3, zr_180_5, zr_180_8, zr_180_9, zr_180_10, zr_180_13, zr_180_14, zr_180_15, zr_180_18, zr_180_21, zr_180_22, zr_180_23, zr_180_26, zr_180_29, zr_180_31, true_or, or_true, true_and, and_true, if_true, if_false, ldA_ref, ldA_null, nl_int, nl_ref, nl_fl, nl_null, c1_int, c1_ref, c1_null, Nat.zero_add, Nat.zero_mul, Nat.one_mul, nI_add, nI_leI, nI_ltI, nI_eq, nI_mul, show ¬ 12 ≤ k from by omega, hwt, rdT_0 hT, hsp, show ¬ 1 = 0 from by omega, zcall_some, zpush_some, zpush_none, zsum_ref, zsum_int, zsum_long, zsum_nil, zsum_null, Nat.reduceAdd, Nat.reduceLeDiff, if_true]
    · rw [if_neg c] at hsp ⊢
      simp (implicitDefEqProofs := false) (disch := omega) only [ze_180, zr_180_0, zr_180_1, zr_180_3, zr_180_5, zr_180_8, zr_180_9, zr_180_10, zr_180_13, zr_180_14, zr_180_15, zr_180_18, zr_180_21, zr_180_22, zr_180_23, zr_180_26, zr_180_29, zr_180_31, true_or, or_true, true_and, and_true, if_true, if_false, ldA_ref, ldA_null, nl_int, nl_ref, nl_fl, nl_null, c1_int, c1_ref, c1_null, Nat.zero_add, Nat.zero_mul, Nat.one_mul, nI_add, nI_leI, nI_ltI, nI_eq, nI_mul, show ¬ 12 ≤ k from by omega, hwt, rdT_0 hT, hsp, zcall_some, zpush_some, zpush_none, zsum_ref, zsum_int, zsum_long, zsum_nil, zsum_null, Nat.reduceAdd, Nat.reduceLeDiff, if_true]
      exact ih (k + 1) (by omega)
theorem s_wordBet (hT : isB H a 5 (cT a T)) (hb : bufT T sg n) (hw : wdA H) {s e : Nat} (hse : s ≤ e) (hen : e ≤ n ∨ e = s) (he : e ≤ 200) : ev 180 [.ref a, .int (nI s), .int (nI e)] H = some (some (.int (if pWD sg s e 12 0 = 12 then -2 else nI (pWD sg s e 12 0))), H) := by
  rw [← s_wordBetL hT hb hw hse hen he 12 0 (by omega)]
  simp (implicitDefEqProofs := false) (disch := omega) only [ze_180, zr_180_0, zr_180_1, zr_180_3, zr_180_5, zr_180_8, zr_180_9, zr_180_10, zr_180_13, zr_180_14, zr_180_15, zr_180_18, zr_180_21, zr_180_22, zr_180_23, zr_180_26, zr_180_29, zr_180_31, true_or, or_true, true_and, and_true, if_true, if_false, ldA_ref, ldA_null, nl_int, nl_ref, nl_fl, nl_null, c1_int, c1_ref, c1_null]
end
