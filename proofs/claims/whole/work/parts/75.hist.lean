/-! HISTORY: 261 cells, seven books in them; the slips are elsewhere -/
section
variable {H : zH} {b u e n c : Nat} {s : tyB} {hs : Nat → tyB} {nx ct : Nat}
/-- the history at u -/
def hiB (H : zH) (u : Nat) (hs : Nat → tyB) (nx ct : Nat) : Prop := H.2.2 u = .inr (5, [.ref (u + 1), .int (nI nx), .int (nI ct)]) ∧ H.2.2 (u + 1) = .inl (6, 7, .inr (.inr (.inr (.inr fun i => if i < 7 then some (u + 2 + 37 * i) else none)))) ∧ ∀ i, i < 7 → isB H (u + 2 + 37 * i) 37 (cB (u + 2 + 37 * i) (hs i))
theorem hi_at (hH : hiB H u hs nx ct) : zkd H u = 5 ∧ (∀ (β : Type) (f : Value → Option β), zgf H u 5 0 f = f (.ref (u + 1))) ∧ (∀ (β : Type) (f : Value → Option β), zgf H u 5 1 f = f (.int (nI nx))) ∧ (∀ (β : Type) (f : Value → Option β), zgf H u 5 2 f = f (.int (nI ct))) ∧ ∀ (β : Type) (f : Option Nat → Option β) (k : Nat), k < 7 → zlq H (u + 1) (nI k) f = f (some (u + 2 + 37 * k)) := ⟨kd_c hH.1, fun _ f => gf_c hH.1 rfl f, fun _ f => gf_c hH.1 rfl f, fun _ f => gf_c hH.1 rfl f, fun _ f k hk => by
  rw [lq_c hH.2.1 (by decide) hk (by omega) f, if_pos hk]⟩
theorem hiB_o {H' : zH} {a n : Nat} (f : frm H' H a n) (hd : u + 261 ≤ a ∨ a + n ≤ u) (hH : hiB H u hs nx ct) : hiB H' u hs nx ct := ⟨(f.2.2 _ (by omega)).trans hH.1, (f.2.2 _ (by omega)).trans hH.2.1, fun i hi => f.isB (by omega) (hH.2.2 i hi)⟩
/-- one of the seven written -/
theorem hiB_put (hH : hiB H u hs nx ct) {k : Nat} (hk : k < 7) (v : tyB) : hiB (blk (u + 2 + 37 * k) 37 (cB (u + 2 + 37 * k) v) H) u (fun i => if i = k then v else hs i) nx ct := by
  refine ⟨(blk_out (by omega)).trans hH.1, (blk_out (by omega)).trans hH.2.1, fun i hi => ?_⟩
  by_cases h : i = k
  · subst h
    show isB _ _ _ (cB _ (if i = i then v else hs i))
    rw [if_pos rfl]
    exact blk_isB
  · show isB _ _ _ (cB _ (if i = k then v else hs i))
    rw [if_neg h]
    exact isB_skip (by omega) (hH.2.2 i hi)
/-- the object written -/
def hiO (H : zH) (u nx ct : Nat) : zH := zset H u (.inr (5, [.ref (u + 1), .int (nI nx), .int (nI ct)]))
theorem hiO_o (p : Nat) (hp : p ≠ u) : (hiO H u nx ct).2.2 p = H.2.2 p := if_neg hp
theorem hiO_fr (nx ct : Nat) : frm (hiO H u nx ct) H u 261 := ⟨rfl, rfl, fun p hp => hiO_o p (by omega)⟩
theorem hiB_set (hH : hiB H u hs nx ct) (nx2 ct2 : Nat) : hiB (hiO H u nx2 ct2) u hs nx2 ct2 := ⟨if_pos rfl, (hiO_o _ (by omega)).trans hH.2.1, fun i hi k hk => (hiO_o _ (by omega)).trans (hH.2.2 i hi k hk)⟩
theorem hiO_1 (hH : hiB H u hs nx ct) (hu : 100 ≤ u) (x : Nat) {β : Type} (f : zH → Option β) : zpf H u 5 1 (.int (nI x)) f = f (hiO H u x ct) := by
  rw [pf_c hH.1 (Nat.le_of_ble_eq_true rfl) hu rfl f]; rfl
theorem hiO_2 (hH : hiB H u hs nx ct) (hu : 100 ≤ u) (x : Nat) {β : Type} (f : zH → Option β) : zpf H u 5 2 (.int (nI x)) f = f (hiO H u nx x) := by
  rw [pf_c hH.1 (Nat.le_of_ble_eq_true rfl) hu rfl f]; rfl
theorem hiO_hiO (a b c d : Nat) : hiO (hiO H u a b) u c d = hiO H u c d := by
  refine Prod.ext rfl (Prod.ext rfl (funext fun q => ?_))
  show (if q = u then _ else if q = u then _ else H.2.2 q) = if q = u then _ else H.2.2 q
  by_cases h : q = u
  · rw [if_pos h, if_pos h]
  · rw [if_neg h, if_neg h, if_neg h]
theorem s_hBegin (hH : hiB H u hs nx ct) (hB : isB H b 37 (cB b s)) (hu : 100 ≤ u) (hb : 100 ≤ b) (dj : b + 37 ≤ u ∨ u + 261 ≤ b) (hn : nx < 7) (hsl : bSl H s) (hf : gB_fg s = nI 0 ∨ gB_fg s = nI 1) : ev 17 [.ref u, .ref b] H = some (none, blk (u + 2 + 37 * nx) 37 (cB (u + 2 + 37 * nx) (pCpB (hs nx) s)) H) := by
  have e1 := s_cpB (hH.2.2 nx hn) hB (by omega) hb (by omega) hsl hf
  simp (implicitDefEqProofs := false) (disch := omega) only [ze_17, zr_17_0, zr_17_1, zr_17_4, zr_17_5, zr_17_8, zr_17_9, zr_17_10, zr_17_13, true_or, or_true, true_and, and_true, if_true, if_false, ldA_ref, ldA_null, nl_int, nl_ref, nl_fl, nl_null, c1_int, c1_ref, c1_null, Nat.zero_add, Nat.zero_mul, Nat.one_mul, nI_add, nI_leI, nI_ltI, nI_eq, nI_mul, hi_at hH, rf_some, rdB_0 (hH.2.2 nx hn), e1, zcall_some, zpush_some, zpush_none, zsum_ref, zsum_int, zsum_long, zsum_nil, zsum_null, Nat.reduceAdd, Nat.reduceLeDiff, if_true]
theorem rmI_7 (r : zRes) : dvI (nI 7) r = r := if_neg (by decide)
theorem mod7 {k : Nat} (hk : k < 14) : nI k - nI k / nI 7 * nI 7 = nI (k % 7) := by
  match k, hk with
  | 0, _ | 1, _ | 2, _ | 3, _ | 4, _ | 5, _ | 6, _ | 7, _ | 8, _ | 9, _ | 10, _ | 11, _ | 12, _ | 13, _ => decide
  | k + 14, h => omega
theorem mn6 {c : Nat} : (if 6 < c then nI 6 else nI c) = nI (min c 6) := by
  by_cases h : 6 < c
  · rw [if_pos h, Nat.min_eq_right (by omega)]
  · rw [if_neg h, Nat.min_eq_left (by omega)]
theorem mn6' {c : Nat} : (if c ≤ 6 then nI c else nI 6) = nI (min c 6) := by
  by_cases h : c ≤ 6
  · rw [if_pos h, Nat.min_eq_left (by omega)]
  · rw [if_neg h, Nat.min_eq_right (by omega)]
theorem s_hCommit (hH : hiB H u hs nx ct) (hu : 100 ≤ u) (hn : nx < 7) (hc : ct ≤ 6) : ev 27 [.ref u] H = some (none, hiO H u ((nx + 1) % 7) (min (ct + 1) 6)) := by
  simp (implicitDefEqProofs := false) (disch := omega) only [ze_27, zr_27_0, zr_27_1, zr_27_2, zr_27_5, zr_27_6, zr_27_7, zr_27_9, zr_27_10, zr_27_13, zr_27_14, zr_27_15, zr_27_18, zr_27_19, zr_27_20, zr_27_22, zr_27_25, zr_27_28, true_or, or_true, true_and, and_true, if_true, if_false, ldA_ref, ldA_null, nl_int, nl_ref, nl_fl, nl_null, c1_int, c1_ref, c1_null, Nat.zero_add, Nat.zero_mul, Nat.one_mul, nI_add, nI_leI, nI_ltI, nI_eq, nI_mul, hi_at hH, rmI_7, mod7 (show nx + 1 < 14 by omega), hiO_1 hH hu, hi_at (hiB_set hH ((nx + 1) % 7) ct), mn6, mn6', hiO_2 (hiB_set hH ((nx + 1) % 7) ct) hu, hiO_hiO, zcall_some, zpush_some, zpush_none, zsum_ref, zsum_int, zsum_long, zsum_nil, zsum_null, Nat.reduceAdd, Nat.reduceLeDiff, if_true]
theorem s_hTake (hH : hiB H u hs nx ct) (hB : isB H b 37 (cB b s)) (hu : 100 ≤ u) (hb : 100 ≤ b) (dj : b + 37 ≤ u ∨ u + 261 ≤ b) (hn : nx < 7) (hsl : bSl H (hs nx)) (hf : gB_fg (hs nx) = nI 0 ∨ gB_fg (hs nx) = nI 1) : ev 195 [.ref u, .ref b] H = some (none, blk b 37 (cB b (pCpB s (hs nx))) H) := by
  have e1 := s_cpB hB (hH.2.2 nx hn) hb (by omega) (by omega) hsl hf
  simp (implicitDefEqProofs := false) (disch := omega) only [ze_195, zr_195_0, zr_195_1, zr_195_2, zr_195_5, zr_195_6, zr_195_9, zr_195_10, zr_195_13, true_or, or_true, true_and, and_true, if_true, if_false, ldA_ref, ldA_null, nl_int, nl_ref, nl_fl, nl_null, c1_int, c1_ref, c1_null, Nat.zero_add, Nat.zero_mul, Nat.one_mul, nI_add, nI_leI, nI_ltI, nI_eq, nI_mul, hi_at hH, rf_some, rdB_0 hB, e1, zcall_some, zpush_some, zpush_none, zsum_ref, zsum_int, zsum_long, zsum_nil, zsum_null, Nat.reduceAdd, Nat.reduceLeDiff, if_true]
theorem s_hBack (hH : hiB H u hs nx ct) (hB : isB H b 37 (cB b s)) (hu : 100 ≤ u) (hb : 100 ≤ b) (dj : b + 37 ≤ u ∨ u + 261 ≤ b) (hn : nx < 7) (hc : ct ≤ 6) (hsl : 0 < ct → bSl H (hs ((nx + 6) % 7))) (hf : 0 < ct → gB_fg (hs ((nx + 6) % 7)) = nI 0 ∨ gB_fg (hs ((nx + 6) % 7)) = nI 1) : ev 200 [.ref u, .ref b] H = if ct = 0 then some (some (.int (-2)), H) else some (some (.int (nI (ct - 1))), blk b 37 (cB b (pCpB s (hs ((nx + 6) % 7)))) (hiO H u ((nx + 6) % 7) (ct - 1))) := by
  by_cases h0 : ct = 0
  · rw [if_pos h0]
    subst h0
    simp (implicitDefEqProofs := false) (disch := omega) only [ze_200, zr_200_0, zr_200_1, zr_200_4, zr_200_7, zr_200_9, zr_200_10, zr_200_11, zr_200_12, zr_200_15, zr_200_17, zr_200_18, zr_200_19, zr_200_20, zr_200_22, zr_200_23, zr_200_26, zr_200_27, zr_200_28, zr_200_31, zr_200_32, zr_200_33, zr_200_36, zr_200_37, zr_200_38, zr_200_41, zr_200_42, zr_200_45, zr_200_46, zr_200_49, zr_200_50, zr_200_53, true_or, or_true, true_and, and_true, if_true, if_false, ldA_ref, ldA_null, nl_int, nl_ref, nl_fl, nl_null, c1_int, c1_ref, c1_null, Nat.zero_add, Nat.zero_mul, Nat.one_mul, nI_add, nI_leI, nI_ltI, nI_eq, nI_mul, hi_at hH, zcall_some, zpush_some, zpush_none, zsum_ref, zsum_int, zsum_long, zsum_nil, zsum_null, Nat.reduceAdd, Nat.reduceLeDiff, if_true]
  · rw [if_neg h0]
    have h1 := hiB_set hH ((nx + 6) % 7) ct
    have h2 := hiB_set h1 ((nx + 6) % 7) (ct - 1)
    rw [hiO_hiO] at h2
    have hB2 : isB (hiO H u ((nx + 6) % 7) (ct - 1)) b 37 (cB b s) := (hiO_fr _ _).isB (by omega) hB
    have hk : (nx + 6) % 7 < 7 := Nat.mod_lt _ (by omega)
    have hsl2 : bSl (hiO H u ((nx + 6) % 7) (ct - 1)) (hs ((nx + 6) % 7)) := fun e m q he hm hq => by
      have h7 := hsl (by omega) e m q he hm hq
      by_cases hqu : q = u
      · subst hqu; rw [(hi_at hH).1] at h7; exact absurd h7 (by decide)
      · rw [kd_kc] at h7 ⊢; rw [hiO_o q hqu]; exact h7
    have e1 := s_cpB hB2 (h2.2.2 _ hk) hb (by omega) (by omega) hsl2 (hf (by omega))
    have e3 : nI ct - nI 1 = nI (ct - 1) := nI_sub1 (by omega)
    have e4 : nI (nx + 7) - nI 1 = nI (nx + 6) := nI_sub1 (by omega)
    have h2e : hi_at h2 = hi_at h2 := rfl
    have h3 : hiB (blk b 37 (cB b (pCpB s (hs ((nx + 6) % 7)))) (hiO H u ((nx + 6) % 7) (ct - 1))) u hs ((nx + 6) % 7) (ct - 1) := hiB_o (frm.blk (Nat.le_refl _) (Nat.le_refl _)) (by omega) h2
    simp (implicitDefEqProofs := false) (disch := omega) only [ze_200, zr_200_0, zr_200_1, zr_200_4, zr_200_7, zr_200_9, zr_200_10, zr_200_11, zr_200_12, zr_200_15, zr_200_17, zr_200_18, zr_200_19, zr_200_20, zr_200_22, zr_200_23, zr_200_26, zr_200_27, zr_200_28, zr_200_31, zr_200_32, zr_200_33, zr_200_36, zr_200_37, zr_200_38, zr_200_41, zr_200_42, zr_200_45, zr_200_46, zr_200_49, zr_200_50, zr_200_53, true_or, or_true, true_and, and_true, if_true, if_false, ldA_ref, ldA_null, nl_int, nl_ref, nl_fl, nl_null, c1_int, c1_ref, c1_null, Nat.zero_add, Nat.zero_mul, Nat.one_mul, nI_add, nI_leI, nI_ltI, nI_eq, nI_mul, hi_at hH, h0, rmI_7, e3, e4, mod7 (show nx + 6 < 14 by omega), hiO_1 hH hu, hi_at h1, hiO_2 h1 hu, hiO_hiO, hi_at h2, rf_some, rdB_0 hB2, e1, hi_at h3, zcall_some, zpush_some, zpush_none, zsum_ref, zsum_int, zsum_long, zsum_nil, zsum_null, Nat.reduceAdd, Nat.reduceLeDiff, if_true]
end
