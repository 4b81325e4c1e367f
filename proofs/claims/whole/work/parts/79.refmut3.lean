/-! THE REFERENCE: garnishments exchanged -/
section
variable {m p e n g : Nat} {r : Rst} {h : zH}
def wExc (r : Rst) (e i j : Nat) : Nat → Rst
  | 0 => r
  | k + 1 => wAt (wAt (wExc r e i j k) (rX e (135 + 4 * i + k)) (rS (wExc r e i j k) (rX e (135 + 4 * j + k)))) (rX e (135 + 4 * j + k)) (rS (wExc r e i j k) (rX e (135 + 4 * i + k)))
theorem s_rexcL {i j : Nat} (hm : 100 ≤ m) (he : e < 3) (hi : i < 3) (hj : j < 3) : ∀ (d k : Nat) (v5 v6 v7 v8 : Value), k + d = 4 → rn 224 3 [.ref m, .int (nI e), .int (nI i), .int (nI j), .int (nI k), v5, v6, v7, v8] [] (putM m (wExc r e i j k) h) = some (none, putM m (wExc r e i j 4) h) := by
  intro d
  induction d with
  | zero =>
    intro k v5 v6 v7 v8 hk
    rw [Nat.add_zero] at hk
    subst hk
    rw [zl_224_3]
    simp (implicitDefEqProofs := false) (disch := omega) only [ze_224, zr_224_0, zr_224_1, zr_224_5, zr_224_6, zr_224_9, zr_224_10, zr_224_13, zr_224_14, zr_224_15, zr_224_16, zr_224_17, zr_224_19, zr_224_20, zr_224_23, zr_224_25, zr_224_26, zr_224_29, zr_224_30, zr_224_31, zr_224_32, zr_224_33, zr_224_35, zr_224_36, zr_224_39, zr_224_41, zr_224_42, zr_224_45, zr_224_47, zr_224_48, zr_224_50, zr_224_51, zr_224_54, zr_224_56, zr_224_57, zr_224_60, zr_224_62, zr_224_63, zr_224_64, zr_224_65, zr_224_68, zr_224_70, zr_224_72, zr_224_73, zr_224_76, zr_224_79, true_or, or_true, true_and, and_true, if_true, if_false, ldA_ref, ldA_null, nl_int, nl_ref, nl_fl, nl_null, c1_int, c1_ref, c1_null, Nat.zero_add, Nat.zero_mul, Nat.one_mul, nI_add, nI_leI, nI_ltI, nI_eq, nI_mul, Nat.le_refl]
  | succ d ih =>
    intro k v5 v6 v7 v8 hk
    have e1 := ih (k + 1) (.int (nI (rX e (135 + 4 * i + k)))) (.int (nI (rX e (135 + 4 * j + k)))) (.long (rS (wExc r e i j k) (rX e (135 + 4 * i + k)))) (.float 0) (by omega)
    rw [wExc] at e1
    have b1 : rX e (135 + 4 * i + k) < 8271 := by unfold rX; omega
    have b2 : rX e (135 + 4 * j + k) < 8271 := by unfold rX; omega
    have e2 : rS (wAt (wExc r e i j k) (rX e (135 + 4 * i + k)) (rS (wExc r e i j k) (rX e (135 + 4 * j + k)))) (rX e (135 + 4 * j + k)) = rS (wExc r e i j k) (rX e (135 + 4 * j + k)) := by
      by_cases c : rX e (135 + 4 * j + k) = rX e (135 + 4 * i + k)
      · rw [c, wAt_eq]
      · rw [wAt_ne c]
    rw [zl_224_3]
    simp (implicitDefEqProofs := false) (disch := omega) only [ze_224, zr_224_0, zr_224_1, zr_224_5, zr_224_6, zr_224_9, zr_224_10, zr_224_13, zr_224_14, zr_224_15, zr_224_16, zr_224_17, zr_224_19, zr_224_20, zr_224_23, zr_224_25, zr_224_26, zr_224_29, zr_224_30, zr_224_31, zr_224_32, zr_224_33, zr_224_35, zr_224_36, zr_224_39, zr_224_41, zr_224_42, zr_224_45, zr_224_47, zr_224_48, zr_224_50, zr_224_51, zr_224_54, zr_224_56, zr_224_57, zr_224_60, zr_224_62, zr_224_63, zr_224_64, zr_224_65, zr_224_68, zr_224_70, zr_224_72, zr_224_73, zr_224_76, zr_224_79, true_or, or_true, true_and, and_true, if_true, if_false, ldA_ref, ldA_null, nl_int, nl_ref, nl_fl, nl_null, c1_int, c1_ref, c1_null, Nat.zero_add, Nat.zero_mul, Nat.one_mul, nI_add, nI_leI, nI_ltI, nI_eq, nI_mul, gf_M0, show ¬ 4 ≤ k from by omega, s_at, lj_M1 b1, lj_M1 b2, sj_S hm b1, sj_S hm b2, zcall_some, zpush_some, zpush_none, zsum_ref, zsum_int, zsum_long, zsum_nil, zsum_null, Nat.reduceAdd, Nat.reduceLeDiff, if_true]
    exact e1
theorem s_rexc {i j : Nat} (hm : 100 ≤ m) (he : e < 3) (hi : i < 3) (hj : j < 3) : ev 224 [.ref m, .int (nI e), .int (nI i), .int (nI j)] (putM m r h) = some (none, putM m (wExc r e i j 4) h) := by
  rw [← s_rexcL (h := h) (r := r) hm he hi hj 4 0 (.float 0) (.float 0) (.float 0) (.float 0) (by omega)]
  simp (implicitDefEqProofs := false) (disch := omega) only [ze_224, zr_224_0, zr_224_1, zr_224_5, zr_224_6, zr_224_9, zr_224_10, zr_224_13, zr_224_14, zr_224_15, zr_224_16, zr_224_17, zr_224_19, zr_224_20, zr_224_23, zr_224_25, zr_224_26, zr_224_29, zr_224_30, zr_224_31, zr_224_32, zr_224_33, zr_224_35, zr_224_36, zr_224_39, zr_224_41, zr_224_42, zr_224_45, zr_224_47, zr_224_48, zr_224_50, zr_224_51, zr_224_54, zr_224_56, zr_224_57, zr_224_60, zr_224_62, zr_224_63, zr_224_64, zr_224_65, zr_224_68, zr_224_70, zr_224_72, zr_224_73, zr_224_76, zr_224_79, true_or, or_true, true_and, and_true, if_true, if_false, ldA_ref, ldA_null, nl_int, nl_ref, nl_fl, nl_null, c1_int, c1_ref, c1_null]
  rfl
theorem wExc_at {i j : Nat} (hi : i < 3) (hj : j < 3) : ∀ k, k ≤ 4 → (∀ p c, p < 3 → c < 4 → rS (wExc r e i j k) (rX e (135 + 4 * p + c)) = if c < k then (if p = j then rS r (rX e (135 + 4 * i + c)) else if p = i then rS r (rX e (135 + 4 * j + c)) else rS r (rX e (135 + 4 * p + c))) else rS r (rX e (135 + 4 * p + c))) ∧ (∀ q, (q < rX e 135 ∨ rX e 147 ≤ q) → rS (wExc r e i j k) q = rS r q) ∧ wExc r e i j k = wS r (rS (wExc r e i j k)) := by
  intro k
  induction k with
  | zero => intro _; exact ⟨fun p c hp hc => by rw [if_neg (by omega)]; rfl, fun _ _ => rfl, rfl⟩
  | succ k ih =>
    intro hk
    obtain ⟨h1, h2, h3⟩ := ih (by omega)
    refine ⟨fun p c hp hc => ?_, fun q hq => ?_, ?_⟩
    · rw [wExc]
      have ai := h1 i k hi (by omega)
      have aj := h1 j k hj (by omega)
      rw [if_neg (by omega)] at ai aj
      by_cases hck : c = k
      · subst hck
        rw [if_pos (by omega)]
        by_cases hpj : p = j
        · subst hpj
          rw [wAt_eq, if_pos rfl, ai]
        · rw [wAt_ne (by unfold rX; omega), if_neg hpj]
          by_cases hpi : p = i
          · subst hpi
            rw [wAt_eq, if_pos rfl, aj]
          · rw [wAt_ne (by unfold rX; omega), if_neg hpi, h1 p c hp hc, if_neg (by omega)]
      · rw [wAt_ne (by unfold rX; omega), wAt_ne (by unfold rX; omega), h1 p c hp hc]
        by_cases hlt : c < k
        · rw [if_pos hlt, if_pos (show c < k + 1 from by omega)]
        · rw [if_neg hlt, if_neg (show ¬ c < k + 1 from by omega)]
    · rw [wExc, wAt_ne (by unfold rX at *; omega), wAt_ne (by unfold rX at *; omega)]
      exact h2 q hq
    · exact wS_tr (wAt_S _ _ _) (wS_tr (wAt_S _ _ _) h3)
def wSh1 (r : Rst) (e p : Nat) : Nat → Rst
  | 0 => r
  | k + 1 => wExc (wSh1 r e p k) e (p + k) (p + k + 1) 4
def wSh2 (r : Rst) (e p : Nat) : Nat → Rst
  | 0 => r
  | k + 1 => wExc (wSh2 r e p k) e (p - k) (p - k - 1) 4
theorem s_rdropL {t : Nat} (hm : 100 ≤ m) (he : e < 3) (ht : t < 3) {q : Nat} (hq : q ≤ t) : ∀ (d k : Nat), q + k + d = t → rn 222 39 [.ref m, .int (nI e), .int (nI q), .int (nI t), .int (nI (q + k))] [] (putM m (wSh1 r e q k) h) = some (some (.int (nI t)), putM m (wSh1 r e q (t - q)) h) := by
  intro d
  induction d with
  | zero =>
    intro k hk
    have hk2 : k = t - q := by omega
    subst hk2
    rw [zl_222_39]
    simp (implicitDefEqProofs := false) (disch := omega) only [ze_222, zr_222_0, zr_222_1, zr_222_2, zr_222_3, zr_222_6, zr_222_9, zr_222_10, zr_222_11, zr_222_12, zr_222_13, zr_222_16, zr_222_19, zr_222_20, zr_222_21, zr_222_24, zr_222_27, zr_222_28, zr_222_29, zr_222_30, zr_222_33, zr_222_34, zr_222_35, zr_222_36, zr_222_37, zr_222_41, zr_222_42, zr_222_45, zr_222_46, zr_222_47, zr_222_49, zr_222_51, zr_222_52, zr_222_53, zr_222_56, zr_222_59, zr_222_62, zr_222_63, true_or, or_true, true_and, and_true, if_true, if_false, ldA_ref, ldA_null, nl_int, nl_ref, nl_fl, nl_null, c1_int, c1_ref, c1_null, Nat.zero_add, Nat.zero_mul, Nat.one_mul, nI_add, nI_leI, nI_ltI, nI_eq, nI_mul, show t ≤ q + (t - q) from by omega]
  | succ d ih =>
    intro k hk
    have e1 := ih (k + 1) (by omega)
    rw [wSh1, ← Nat.add_assoc] at e1
    rw [zl_222_39]
    simp (implicitDefEqProofs := false) (disch := omega) only [ze_222, zr_222_0, zr_222_1, zr_222_2, zr_222_3, zr_222_6, zr_222_9, zr_222_10, zr_222_11, zr_222_12, zr_222_13, zr_222_16, zr_222_19, zr_222_20, zr_222_21, zr_222_24, zr_222_27, zr_222_28, zr_222_29, zr_222_30, zr_222_33, zr_222_34, zr_222_35, zr_222_36, zr_222_37, zr_222_41, zr_222_42, zr_222_45, zr_222_46, zr_222_47, zr_222_49, zr_222_51, zr_222_52, zr_222_53, zr_222_56, zr_222_59, zr_222_62, zr_222_63, true_or, or_true, true_and, and_true, if_true, if_false, ldA_ref, ldA_null, nl_int, nl_ref, nl_fl, nl_null, c1_int, c1_ref, c1_null, Nat.zero_add, Nat.zero_mul, Nat.one_mul, nI_add, nI_leI, nI_ltI, nI_eq, nI_mul, kd_M, show ¬ t ≤ q + k from by omega, s_rexc hm he (show q + k < 3 by omega) (show q + k + 1 < 3 by omega), zcall_some, zpush_some, zpush_none, zsum_ref, zsum_int, zsum_long, zsum_nil, zsum_null, Nat.reduceAdd, Nat.reduceLeDiff, if_true]
    exact e1
theorem s_rdrop {q : Nat} (hm : 100 ≤ m) (hp : p ≤ 6) (hpm : rPm r = nI p) (he : e < 3) (hg : g ≤ 3) (hgr : rS r (rX e 134) = (nI g).toInt64) (hq : q < g) : ev 222 [.ref m, .int (nI e), .int (nI q)] (putM m r h) = some (some (.int (nI (g - 1))), putM m (wSh1 (wAt (rChg r p) (rX e 134) (nI (g - 1)).toInt64) e q (g - 1 - q)) h) := by
  have b1 : rX e 134 < 8271 := by unfold rX; omega
  rw [← s_rdropL (h := h) (r := wAt (rChg r p) (rX e 134) (nI (g - 1)).toInt64) (t := g - 1) (q := q) hm he (by omega) (by omega) (g - 1 - q) 0 (by omega)]
  simp (implicitDefEqProofs := false) (disch := omega) only [ze_222, zr_222_0, zr_222_1, zr_222_2, zr_222_3, zr_222_6, zr_222_9, zr_222_10, zr_222_11, zr_222_12, zr_222_13, zr_222_16, zr_222_19, zr_222_20, zr_222_21, zr_222_24, zr_222_27, zr_222_28, zr_222_29, zr_222_30, zr_222_33, zr_222_34, zr_222_35, zr_222_36, zr_222_37, zr_222_41, zr_222_42, zr_222_45, zr_222_46, zr_222_47, zr_222_49, zr_222_51, zr_222_52, zr_222_53, zr_222_56, zr_222_59, zr_222_62, zr_222_63, true_or, or_true, true_and, and_true, if_true, if_false, ldA_ref, ldA_null, nl_int, nl_ref, nl_fl, nl_null, c1_int, c1_ref, c1_null, Nat.zero_add, Nat.zero_mul, Nat.one_mul, nI_add, nI_leI, nI_ltI, nI_eq, nI_mul, kd_M, s_isGar he hgr, bI_0, show ¬ ¬ (0 ≤ q ∧ q < g) from by omega, s_at, s_of b1, hgr, i64_b, nI_sub1 (show 0 < g by omega), s_rset2 hm hp hpm b1, zcall_some, zpush_some, zpush_none, zsum_ref, zsum_int, zsum_long, zsum_nil, zsum_null, Nat.reduceAdd, Nat.reduceLeDiff, if_true]
  rfl
theorem s_rmov2 {t q : Nat} {v : Int32} (hm : 100 ≤ m) (he : e < 3) (hq : q < 3) (ht : t < 3) : ∀ (d k : Nat), k + d = q - t → rn 225 68 [.ref m, .int (nI e), .int (nI q), .int (nI t), .int v, .int (nI (q - k))] [] (putM m (wSh2 r e q k) h) = some (some (.int v), putM m (wSh2 r e q (q - t)) h) := by
  intro d
  induction d with
  | zero =>
    intro k hk
    rw [Nat.add_zero] at hk
    subst hk
    rw [zl_225_68]
    simp (implicitDefEqProofs := false) (disch := omega) only [ze_225, zr_225_0, zr_225_1, zr_225_2, zr_225_3, zr_225_6, zr_225_9, zr_225_10, zr_225_11, zr_225_12, zr_225_15, zr_225_18, zr_225_19, zr_225_20, zr_225_21, zr_225_24, zr_225_25, zr_225_26, zr_225_29, zr_225_30, zr_225_31, zr_225_32, zr_225_33, zr_225_36, zr_225_37, zr_225_39, zr_225_40, zr_225_44, zr_225_45, zr_225_48, zr_225_49, zr_225_50, zr_225_52, zr_225_54, zr_225_55, zr_225_56, zr_225_59, zr_225_62, zr_225_65, zr_225_66, zr_225_70, zr_225_71, zr_225_74, zr_225_75, zr_225_76, zr_225_78, zr_225_80, zr_225_81, zr_225_82, zr_225_85, zr_225_88, zr_225_91, zr_225_93, true_or, or_true, true_and, and_true, if_true, if_false, ldA_ref, ldA_null, nl_int, nl_ref, nl_fl, nl_null, c1_int, c1_ref, c1_null, Nat.zero_add, Nat.zero_mul, Nat.one_mul, nI_add, nI_leI, nI_ltI, nI_eq, nI_mul, show q - (q - t) ≤ t from by omega]
  | succ d ih =>
    intro k hk
    have e1 := ih (k + 1) (by omega)
    rw [wSh2] at e1
    have hs : nI (q - k) - nI 1 = nI (q - k - 1) := nI_sub1 (by omega)
    have hs2 : nI (q - k) + (-nI 1) = nI (q - (k + 1)) := by
      rw [show q - (k + 1) = q - k - 1 by omega, ← hs]; exact (Int32.sub_eq_add_neg _ _).symm
    have hs3 : nI (q - k) + (-1) = nI (q - (k + 1)) := hs2
    rw [zl_225_68]
    simp (implicitDefEqProofs := false) (disch := omega) only [ze_225, zr_225_0, zr_225_1, zr_225_2, zr_225_3, zr_225_6, zr_225_9, zr_225_10, zr_225_11, zr_225_12, zr_225_15, zr_225_18, zr_225_19, zr_225_20, zr_225_21, zr_225_24, zr_225_25, zr_225_26, zr_225_29, zr_225_30, zr_225_31, zr_225_32, zr_225_33, zr_225_36, zr_225_37, zr_225_39, zr_225_40, zr_225_44, zr_225_45, zr_225_48, zr_225_49, zr_225_50, zr_225_52, zr_225_54, zr_225_55, zr_225_56, zr_225_59, zr_225_62, zr_225_65, zr_225_66, zr_225_70, zr_225_71, zr_225_74, zr_225_75, zr_225_76, zr_225_78, zr_225_80, zr_225_81, zr_225_82, zr_225_85, zr_225_88, zr_225_91, zr_225_93, true_or, or_true, true_and, and_true, if_true, if_false, ldA_ref, ldA_null, nl_int, nl_ref, nl_fl, nl_null, c1_int, c1_ref, c1_null, Nat.zero_add, Nat.zero_mul, Nat.one_mul, nI_add, nI_leI, nI_ltI, nI_eq, nI_mul, kd_M, show ¬ q - k ≤ t from by omega, hs, hs2, hs3, s_rexc hm he (show q - k < 3 by omega) (show q - k - 1 < 3 by omega), zcall_some, zpush_some, zpush_none, zsum_ref, zsum_int, zsum_long, zsum_nil, zsum_null, Nat.reduceAdd, Nat.reduceLeDiff, if_true]
    exact e1
theorem s_rmov1 {t q : Nat} {v : Int32} (hm : 100 ≤ m) (he : e < 3) (hq : q < 3) (ht : t < 3) : ∀ (d k : Nat), k + d = t - q → rn 225 42 [.ref m, .int (nI e), .int (nI q), .int (nI t), .int v, .int (nI (q + k))] [] (putM m (wSh1 r e q k) h) = some (some (.int v), putM m (wSh2 (wSh1 r e q (t - q)) e q (q - t)) h) := by
  intro d
  induction d with
  | zero =>
    intro k hk
    rw [Nat.add_zero] at hk
    subst hk
    have e2 := s_rmov2 (h := h) (r := wSh1 r e q (t - q)) (v := v) hm he hq ht (q - t) 0 (by omega)
    rw [zl_225_42]
    simp (implicitDefEqProofs := false) (disch := omega) only [zr_225_44, zr_225_45, zr_225_65, zr_225_66, true_or, or_true, true_and, and_true, if_true, if_false, ldA_ref, ldA_null, nl_int, nl_ref, nl_fl, nl_null, c1_int, c1_ref, c1_null, Nat.zero_add, Nat.zero_mul, Nat.one_mul, nI_add, nI_leI, nI_ltI, nI_eq, nI_mul, show t ≤ q + (t - q) from by omega]
    exact e2
  | succ d ih =>
    intro k hk
    have e1 := ih (k + 1) (by omega)
    rw [wSh1, ← Nat.add_assoc] at e1
    rw [zl_225_42]
    simp (implicitDefEqProofs := false) (disch := omega) only [ze_225, zr_225_0, zr_225_1, zr_225_2, zr_225_3, zr_225_6, zr_225_9, zr_225_10, zr_225_11, zr_225_12, zr_225_15, zr_225_18, zr_225_19, zr_225_20, zr_225_21, zr_225_24, zr_225_25, zr_225_26, zr_225_29, zr_225_30, zr_225_31, zr_225_32, zr_225_33, zr_225_36, zr_225_37, zr_225_39, zr_225_40, zr_225_44, zr_225_45, zr_225_48, zr_225_49, zr_225_50, zr_225_52, zr_225_54, zr_225_55, zr_225_56, zr_225_59, zr_225_62, zr_225_65, zr_225_66, zr_225_70, zr_225_71, zr_225_74, zr_225_75, zr_225_76, zr_225_78, zr_225_80, zr_225_81, zr_225_82, zr_225_85, zr_225_88, zr_225_91, zr_225_93, true_or, or_true, true_and, and_true, if_true, if_false, ldA_ref, ldA_null, nl_int, nl_ref, nl_fl, nl_null, c1_int, c1_ref, c1_null, Nat.zero_add, Nat.zero_mul, Nat.one_mul, nI_add, nI_leI, nI_ltI, nI_eq, nI_mul, kd_M, show ¬ t ≤ q + k from by omega, s_rexc hm he (show q + k < 3 by omega) (show q + k + 1 < 3 by omega), zcall_some, zpush_some, zpush_none, zsum_ref, zsum_int, zsum_long, zsum_nil, zsum_null, Nat.reduceAdd, Nat.reduceLeDiff, if_true]
    exact e1
theorem s_rmove {q t : Nat} (hm : 100 ≤ m) (hp : p ≤ 6) (hpm : rPm r = nI p) (he : e < 3) (hg : g ≤ 3) (hgr : rS r (rX e 134) = (nI g).toInt64) (hq : q < g) (ht : t < g) : ev 225 [.ref m, .int (nI e), .int (nI q), .int (nI t)] (putM m r h) = some (some (.int (rS r (rX e (135 + 4 * q))).toInt32), putM m (wSh2 (wSh1 (rChg r p) e q (t - q)) e q (q - t)) h) := by
  have b1 : rX e (135 + 4 * q) < 8271 := by unfold rX; omega
  rw [← s_rmov1 (h := h) (r := rChg r p) (t := t) (q := q) (v := (rS r (rX e (135 + 4 * q))).toInt32) hm he (by omega) (by omega) (t - q) 0 (by omega)]
  simp (implicitDefEqProofs := false) (disch := omega) only [ze_225, zr_225_0, zr_225_1, zr_225_2, zr_225_3, zr_225_6, zr_225_9, zr_225_10, zr_225_11, zr_225_12, zr_225_15, zr_225_18, zr_225_19, zr_225_20, zr_225_21, zr_225_24, zr_225_25, zr_225_26, zr_225_29, zr_225_30, zr_225_31, zr_225_32, zr_225_33, zr_225_36, zr_225_37, zr_225_39, zr_225_40, zr_225_44, zr_225_45, zr_225_48, zr_225_49, zr_225_50, zr_225_52, zr_225_54, zr_225_55, zr_225_56, zr_225_59, zr_225_62, zr_225_65, zr_225_66, zr_225_70, zr_225_71, zr_225_74, zr_225_75, zr_225_76, zr_225_78, zr_225_80, zr_225_81, zr_225_82, zr_225_85, zr_225_88, zr_225_91, zr_225_93, true_or, or_true, true_and, and_true, if_true, if_false, ldA_ref, ldA_null, nl_int, nl_ref, nl_fl, nl_null, c1_int, c1_ref, c1_null, Nat.zero_add, Nat.zero_mul, Nat.one_mul, nI_add, nI_leI, nI_ltI, nI_eq, nI_mul, kd_M, s_isGar he hgr, bI_0, show ¬ ¬ (0 ≤ q ∧ q < g) from by omega, show ¬ ¬ (0 ≤ t ∧ t < g) from by omega, s_rchange hm hp hpm, s_of b1, rChg_S, zcall_some, zpush_some, zpush_none, zsum_ref, zsum_int, zsum_long, zsum_nil, zsum_null, Nat.reduceAdd, Nat.reduceLeDiff, if_true]
  rfl
end
