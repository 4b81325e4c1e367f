/-! THE WHOLE state: what holds of it, and a call that changes the books -/
section
variable {H H' H1 H2 : zH} {s s' sb : tyB} {hs : Nat → tyB} {nx ct cap K K2 n i L : Nat} {sv : Int32} {T : tyT} {t : List Nat} {r : Rst} {sg : Nat → Nat} {q' : Nat → Int64} {xs : Nat → Int32}
def stz (L : Nat) (xs : Nat → Int32) (H : zH) : Prop := ∀ a, a < 100 → H.2.2 a = zSt0 L xs a
def relW (H : zH) (s : tyB) (hs : Nat → tyB) (nx ct : Nat) (sb : tyB) (sv : Int32) (T : tyT) (r : Rst) (sg : Nat → Nat) (n K : Nat) : Prop :=
  good H s (rS r) K ∧ (nx < 7 ∧ ct ≤ 6 ∧ rPm r = nI ct) ∧ (∀ j, j < ct → good H (hs ((nx + 7 - ct + j) % 7)) (fun k => rPa r (8271 * j + k)) K) ∧ (sv = rIs r ∧ (sv = nI 0 ∨ (sv = nI 1 ∧ good H sb (rSv r) K))) ∧ rQ r = nI 0 ∧ bufT T sg n ∧ bufR r sg n
def St (L : Nat) (xs : Nat → Int32) (H : zH) (i : Nat) : Prop := ∃ s hs nx ct sb sv T cap t r sg n, clsB H s hs nx ct sb sv T cap t ∧ isB H 463 9 (cellM 463 r) ∧ stz L xs H ∧ (472 ≤ 100 + H.1 ∧ H.1 ≤ 1000 + 132 * i + cap ∧ H.2.1 ≤ 200000 + 8208 * i + 2 * cap ∧ cap ≤ 4002) ∧ relW H s hs nx ct sb sv T r sg n (12 * i)
theorem relW.fr (f : frG H' H) (hk : K ≤ K2) (h : relW H s hs nx ct sb sv T r sg n K) : relW H' s hs nx ct sb sv T r sg n K2 := by
  obtain ⟨h1, h2, h3, ⟨h4, h5⟩, h6⟩ := h
  exact ⟨(h1.fr f).up hk, h2, fun j hj => ((h3 j hj).fr f).up hk, ⟨h4, h5.imp id fun x => ⟨x.1, (x.2.fr f).up hk⟩⟩, h6⟩
theorem psn_min {p : Nat} (hp : p ≤ 6) : psn p = min (p + 1) 6 := by
  unfold psn
  by_cases h : p = 6
  · rw [if_pos h]; omega
  · rw [if_neg h]; omega
theorem relW.mu (h : relW H s hs nx ct sb sv T r sg n K) (hk : K ≤ K2) (hg : good H s' q' K2) : relW H s' (fun i => if i = nx then pCpB (hs nx) s else hs i) ((nx + 1) % 7) (min (ct + 1) 6) sb sv T (wS (rChg r ct) q') sg n K2 := by
  obtain ⟨h1, ⟨h2, h3, h4⟩, h5, ⟨h6, h7⟩, h8, h9, h10⟩ := h
  have hc : rChg r ct = rPsh r ct (rS r) := if_pos h8
  rw [hc]
  have hpa : rPa (wS (rPsh r ct (rS r)) q') = psh (rPa r) ct (rS r) := by simp only [rPsh, rw_all]
  refine ⟨hg, ⟨Nat.mod_lt _ (by omega), by omega, ?_⟩, fun j hj => ?_, ⟨?_, ?_⟩, ?_, h9, ?_⟩
  · simp only [rPsh, rw_all]; rw [psn_min h3]
  · rw [hpa]
    have hj2 : j < psn ct := by rw [psn_min h3]; exact hj
    have hfun : ∀ k, k < 8271 → psh (rPa r) ct (rS r) (8271 * j + k) = if j + 1 = psn ct then rS r k else if ct = 6 then rPa r (8271 * (j + 1) + k) else rPa r (8271 * j + k) := fun k hk => psh_at _ _ h3 hj2 hk
    rw [psn_min h3] at hfun
    dsimp only
    by_cases hz : j + 1 = min (ct + 1) 6
    · rw [if_pos (by omega)]
      refine ((h1.cp (hs nx)).up hk).ag fun k hk => ?_
      rw [hfun k hk, if_pos hz]
    · by_cases h6 : ct = 6
      · rw [if_neg (by omega)]
        have := h5 (j + 1) (by omega)
        rw [show (nx + 7 - ct + (j + 1)) % 7 = ((nx + 1) % 7 + 7 - min (ct + 1) 6 + j) % 7 by omega] at this
        refine (this.up hk).ag fun k hk => ?_
        rw [hfun k hk, if_neg hz, if_pos h6]
      · rw [if_neg (by omega)]
        have := h5 j (by omega)
        rw [show (nx + 7 - ct + j) % 7 = ((nx + 1) % 7 + 7 - min (ct + 1) 6 + j) % 7 by omega] at this
        refine (this.up hk).ag fun k hk => ?_
        rw [hfun k hk, if_neg hz, if_neg h6]
  · simp only [rPsh, rw_all]; exact h6
  · rcases h7 with x | ⟨x, y⟩
    · exact Or.inl x
    · refine Or.inr ⟨x, ?_⟩
      simp only [rPsh, rw_all]; exact y.up hk
  · simp only [rPsh, rw_all]; exact h8
  · unfold bufR
    simp only [rPsh, rw_all]; exact h10
theorem putM_id {m : Nat} (h : isB H m 9 (cellM m r)) : putM m r H = H := by
  show (H.1, H.2.1, _) = H
  refine Prod.ext rfl (Prod.ext rfl (funext fun a => ?_))
  show (if a < m then H.2.2 a else if a < m + 9 then cellM m r (a - m) else H.2.2 a) = H.2.2 a
  by_cases h1 : a < m
  · rw [if_pos h1]
  · rw [if_neg h1]
    by_cases h2 : a < m + 9
    · rw [if_pos h2, ← h (a - m) (by omega), show m + (a - m) = a by omega]
    · rw [if_neg h2]
theorem putM_isB (m : Nat) (r : Rst) (H : zH) : isB (putM m r H) m 9 (cellM m r) := fun k hk => putM_at m k r H hk
/-- what calls may change: the books of now and of the history, the closing's dues, the reference -/
def frM (H' H : zH) : Prop := H.1 ≤ H'.1 ∧ ∀ p, p < 100 + H.1 → (p < 101 ∨ 399 ≤ p) → (p < 441 ∨ 443 ≤ p) → (p < 463 ∨ 472 ≤ p) → H'.2.2 p = H.2.2 p
theorem frM.rf (H : zH) : frM H H := ⟨Nat.le_refl _, fun _ _ _ _ _ => rfl⟩
theorem frM.tr (x : frM H2 H1) (y : frM H1 H) : frM H2 H := ⟨by have := x.1; have := y.1; omega, fun p h1 h2 h3 h4 => (x.2 p (by have := y.1; omega) h2 h3 h4).trans (y.2 p h1 h2 h3 h4)⟩
theorem frM.G (x : frM H' H) : frG H' H := ⟨x.1, fun p h1 h2 _ => x.2 p h2 (by omega) (by omega) (by omega)⟩
theorem frM.M (r : Rst) (H : zH) : frM (putM 463 r H) H := ⟨Nat.le_refl _, fun p _ _ _ h4 => putM_out _ _ (by omega)⟩
theorem frM.S (h : stepC H' H s') : frM H' H := ⟨h.2.2.1, fun p h1 h2 h3 _ => h.2.2.2.2.2 p h1 (by omega) h3⟩
theorem frM.O (nx ct : Nat) (H : zH) : frM (hiO H 138 nx ct) H := ⟨Nat.le_refl _, fun p _ h2 _ _ => hiO_o p (by omega)⟩
theorem frM.B {a : Nat} {c : Nat → zC} (h1 : 101 ≤ a) (h2 : a + 37 ≤ 399) : frM (blk a 37 c H) H := ⟨Nat.le_refl _, fun p _ h3 _ _ => blk_out (by omega)⟩
theorem clsB.mk {nx2 ct2 : Nat} {hs2 : Nat → tyB} (h : clsB H s hs nx ct sb sv T cap t) (hM : isB H 463 9 (cellM 463 r)) (hz : 472 ≤ 100 + H.1) (f : frM H' H) (h1 : isB H' 101 37 (cB 101 s')) (h2 : hiB H' 138 hs2 nx2 ct2) (h3 : ∃ du, isB H' 441 2 (cD 441 du)) : clsB H' s' hs2 nx2 ct2 sb sv T cap t := by
  have hk := fun p => clsB.kn (p := p) h
  obtain ⟨a1, a2, a3, a4, a5, a6, ⟨w, a7⟩, a8⟩ := h
  refine ⟨(f.2 _ (by omega) (by omega) (by omega) (by omega)).trans a1, h1, h2, a4.to fun p x y => f.2 p (by omega) (by omega) (by omega) (by omega), a5.to fun p x y => f.2 p (by omega) (by omega) (by omega) (by omega), h3, ⟨w, a7.to fun p x y => f.2 p (by omega) (by omega) (by omega) (by omega)⟩, a8.to f.1 (fun p x => f.2 p (by omega) (by omega) (by omega) (by omega)) fun p x y z => ?_⟩
  by_cases c1 : p = 461
  · exact f.2 p y (by omega) (by omega) (by omega)
  · by_cases c2 : p < 463
    · exact absurd z (hk p x c2 c1)
    · by_cases c3 : p < 472
      · exact absurd z (hM.kn kn_M (by omega) (by omega))
      · exact f.2 p y (by omega) (by omega) (by omega)
theorem s_finish {v : Int32} (hx : H.2.2 100 = xC sv) (hH : hiB H 138 hs nx ct) (hn : nx < 7) (hc : ct ≤ 6) : ev 26 [.ref 100, .int v] H = some (some (.int v), if nI 0 ≤ v then hiO H 138 ((nx + 1) % 7) (min (ct + 1) 6) else H) := by
  by_cases hv : nI 0 ≤ v
  · rw [if_pos hv]
    simp (implicitDefEqProofs := false) (disch := omega) only [ze_26, zr_26_0, zr_26_1, zr_26_4, zr_26_5, zr_26_8, zr_26_11, zr_26_12, true_or, or_true, true_and, and_true, if_true, if_false, ldA_ref, ldA_null, nl_int, nl_ref, nl_fl, nl_null, c1_int, c1_ref, c1_null, Nat.zero_add, Nat.zero_mul, Nat.one_mul, nI_add, nI_leI, nI_ltI, nI_eq, nI_mul, cmp_lt, cmp_gt, cmp_le, cmp_ge, cmp_eq, x_at hx, show ¬ v < nI 0 from Int32.not_lt.mpr hv, (hi_at hH).1, s_hCommit hH (by omega) hn hc, zcall_some, zpush_some, zpush_none, zsum_ref, zsum_int, zsum_long, zsum_nil, zsum_null, Nat.reduceAdd, Nat.reduceLeDiff, if_true]
  · rw [if_neg hv]
    simp (implicitDefEqProofs := false) (disch := omega) only [ze_26, zr_26_0, zr_26_1, zr_26_4, zr_26_5, zr_26_8, zr_26_11, zr_26_12, true_or, or_true, true_and, and_true, if_true, if_false, ldA_ref, ldA_null, nl_int, nl_ref, nl_fl, nl_null, c1_int, c1_ref, c1_null, Nat.zero_add, Nat.zero_mul, Nat.one_mul, nI_add, nI_leI, nI_ltI, nI_eq, nI_mul, cmp_lt, cmp_gt, cmp_le, cmp_ge, cmp_eq, x_at hx, Int32.not_le.mp hv, zcall_some, zpush_some, zpush_none, zsum_ref, zsum_int, zsum_long, zsum_nil, zsum_null, Nat.reduceAdd, Nat.reduceLeDiff, if_true]
end
