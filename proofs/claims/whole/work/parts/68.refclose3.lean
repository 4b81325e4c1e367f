/-! THE REFERENCE: closing a month -/
section
variable {m e n mo ng : Nat} {r r2 r3 : Rst} {h : zH} {l : List Ln} {w : tyW} {f : Int32} {D : Nat → Int64}
def rSame (r2 r : Rst) (e : Nat) : Prop := ∀ w, w < 2751 → rS r2 (rX e w) = rS r (rX e w)
def rLow (r2 r : Rst) : Prop := ∀ q, 0 < q → q < 18 → rS r2 q = rS r q
theorem rSame.fr (a : rSame r2 r e) (b : rLow r2 r) : rFr r2 r e := ⟨fun q h1 h2 => b q (by omega) h2, fun w _ h2 => a w (by omega)⟩
theorem rSame.lines (a : rSame r2 r e) (hmo : mo < 12) (hL : rLines r e mo l) : rLines r2 e mo l := rLines_fr hmo hL fun q hq => by
  have h1 : q = rX e (q - rX e 0) := by (try unfold rLp at *); (try unfold rX at *); omega
  rw [h1]
  exact a _ (by (try unfold rLp at *); (try unfold rX at *); omega)
theorem rSet_same (a : rSame r2 r e) (hmo : mo < 12) {k : Nat} (hk : k < 5) : rSet r2 e mo k = rSet r e mo k := by
  have hx : ∀ j, rX e (38 + 4 * mo) + j = rX e (38 + 4 * mo + j) := fun j => by unfold rX; omega
  unfold rSet
  rw [hx, hx, hx, hx, a _ (by omega), a _ (by omega), a _ (by omega), a _ (by omega), a _ (by omega)]
theorem rReason_same (a : rSame r2 r e) (b : rLow r2 r) (hmo : mo < 12) : rReason r2 e mo = rReason r e mo := by
  unfold rReason
  rw [a (2 + mo) (by omega), a (86 + mo) (by omega), a (14 + mo) (by omega), a (98 + mo) (by omega), a (26 + mo) (by omega), a (110 + mo) (by omega), a (122 + mo) (by omega), b 2 (by omega) (by omega)]
theorem rGk_same (a : rSame r2 r e) (hng : ng ≤ 3) (g : rGk r e ng w) : rGk r2 e ng w := by
  have hx : ∀ p j, rX e (135 + 4 * p) + j = rX e (135 + 4 * p + j) := fun p j => by unfold rX; omega
  refine ⟨(a 134 (by omega)).trans g.1, fun p hp => ?_⟩
  obtain ⟨g1, g2⟩ := g.2 p hp
  rw [hx] at g2 ⊢
  exact ⟨(a _ (by omega)).trans g1, (a _ (by omega)).trans g2⟩
theorem rPre_same (a : rSame r2 r e) (b : rLow r2 r) (hn : n ≤ 5) (hmo : mo < 12) (hng : ng ≤ 3) (p : rPre r e mo n ng w D f) : rPre r2 e mo n ng w D f := by
  obtain ⟨h1, h2, h3, h4, h5, h6, h7, h8⟩ := p
  have hx : ∀ p j, rX e (135 + 4 * p) + j = rX e (135 + 4 * p + j) := fun p j => by unfold rX; omega
  refine ⟨fun k m2 hk hm => ?_, fun k m2 hk hm => ?_, fun m2 hm => ?_, a.lines hmo h4, (a 1 (by omega)).trans h5, (a 0 (by omega)).trans h6, rGk_same a hng h7, fun k hk => ?_⟩
  · rw [rDue_fr (a.fr b) hn (by omega)]; exact h1 k m2 hk hm
  · rw [rSet_same a (by omega) (by omega)]; exact h2 k m2 hk hm
  · rw [rReason_same a b (by omega)]; exact h3 m2 hm
  · have := h8 k hk
    rw [hx] at this ⊢
    exact (a _ (by omega)).trans this
/-- what a closing has made of an employee's numbers -/
def rPosE (r2 r : Rst) (e mo n ng : Nat) (w : tyW) (D : Nat → Int64) (f : Int32) : Prop :=
  rStd r2 r e (mo + 1) D ∧ rLines r2 e mo (pL5 w D mo f ng) ∧ rS r2 (rX e 1) = pOw w D mo f ∧ (∀ k, k < ng → rS r2 (rX e (135 + 4 * k) + 3) = gW_gr (pW3 w D mo f ng) k) ∧
  ∀ w, w < 2751 → w ≠ 1 → (w < 38 ∨ 134 ≤ w) → w ≠ 138 → w ≠ 142 → w ≠ 146 → w ≠ 147 + mo → (w < 159 + 4 * (54 * mo) ∨ 159 + 4 * (54 * mo + 54) ≤ w) → rS r2 (rX e w) = rS r (rX e w)
theorem rPost.E (hmo : mo < 12) (p : rPost r2 r e mo n ng w D f) : rPosE r2 r e mo n ng w D f := by
  obtain ⟨h1, h2, h3, h4, h5, h6⟩ := p
  refine ⟨h1, h2, h3, h4, fun w w1 w2 w3 w4 w5 w6 w7 w8 => h6 _ ?_ ?_ ?_ ?_ ?_ ?_ ?_⟩
  all_goals ((try unfold rLp at *); (try unfold rX at *); omega)
theorem rPost.same (hmo : mo < 12) (p : rPost r2 r e mo n ng w D f) {e2 : Nat} (h2 : e2 ≠ e) : rSame r2 r e2 := by
  intro w2 hw
  refine p.2.2.2.2.2 _ ?_ ?_ ?_ ?_ ?_ ?_ ?_
  all_goals ((try unfold rLp at *); (try unfold rX at *); omega)
theorem rPost.low (hmo : mo < 12) (p : rPost r2 r e mo n ng w D f) {q : Nat} (hq : q < 18) : rS r2 q = rS r q := by
  refine p.2.2.2.2.2 _ ?_ ?_ ?_ ?_ ?_ ?_ ?_
  all_goals ((try unfold rLp at *); (try unfold rX at *); omega)
theorem rSame.tr (a : rSame r3 r2 e) (b : rSame r2 r e) : rSame r3 r e := fun w hw => (a w hw).trans (b w hw)
theorem rLow.tr (a : rLow r3 r2) (b : rLow r2 r) : rLow r3 r := fun q h1 h2 => (a q h1 h2).trans (b q h1 h2)
/-- an employee's numbers afterwards, by what was the same before -/
theorem rPosE.of {ra : Rst} (hmo : mo < 12) (p : rPosE r2 r e mo n ng w D f) (a : rSame r ra e) (b : rLow r ra) : rPosE r2 ra e mo n ng w D f := by
  obtain ⟨h1, h2, h3, h4, h5⟩ := p
  refine ⟨fun m2 hm => ?_, h2, h3, h4, fun w w1 w2 w3 w4 w5 w6 w7 w8 => (h5 w w1 w2 w3 w4 w5 w6 w7 w8).trans (a w w1)⟩
  obtain ⟨a1, a2, a3, a4, a5⟩ := h1 m2 hm
  exact ⟨a1, a2.trans (a _ (by omega)), a3.trans (a _ (by omega)), a4.trans (a _ (by omega)), a5.trans (b 2 (by omega) (by omega))⟩
theorem rPosE.to (hng : ng ≤ 3) (hmo : mo < 12) (p : rPosE r2 r e mo n ng w D f) (a : rSame r3 r2 e) : rPosE r3 r e mo n ng w D f := by
  obtain ⟨h1, h2, h3, h4, h5⟩ := p
  have hx : ∀ p j, rX e (135 + 4 * p) + j = rX e (135 + 4 * p + j) := fun p j => by unfold rX; omega
  refine ⟨fun m2 hm => ?_, a.lines hmo h2, (a 1 (by omega)).trans h3, fun k hk => ?_, fun w w1 w2 w3 w4 w5 w6 w7 w8 => (a w w1).trans (h5 w w1 w2 w3 w4 w5 w6 w7 w8)⟩
  · obtain ⟨a1, a2, a3, a4, a5⟩ := h1 m2 hm
    exact ⟨fun i hi => (a _ (by omega)).trans (a1 i hi), (a _ (by omega)).trans a2, (a _ (by omega)).trans a3, (a _ (by omega)).trans a4, (a _ (by omega)).trans a5⟩
  · have := h4 k hk
    rw [hx] at this ⊢
    exact (a _ (by omega)).trans this
theorem s_rclose {ngs : Nat → Nat} {ws : Nat → tyW} {Ds : Nat → Nat → Int64} (hm : 100 ≤ m) (hn : n ≤ 5) (hb : rS r 7 = (nI n).toInt64) (hc : rS r 0 = (nI mo).toInt64) (hmo : mo < 12) (hng : ∀ e, e < 3 → ngs e ≤ 3) (hp : ∀ e, e < 3 → rPre r e mo n (ngs e) (ws e) (Ds e) f) :
    ∃ r2, ev 228 [.ref m] (putM m r h) = some (some (.int (nI mo)), putM m r2 h) ∧ (∀ e, e < 3 → rPosE r2 r e mo n (ngs e) (ws e) (Ds e) f) ∧ rS r2 0 = (nI (mo + 1)).toInt64 ∧ rLow r2 r ∧ r2 = wS r (rS r2) := by
  obtain ⟨ra, e0, p0⟩ := s_rcloseFor (h := h) hm hn hb (show 0 < 3 by omega) hmo (hng 0 (by omega)) (hp 0 (by omega))
  have la : rLow ra r := fun q _ h2 => p0.low hmo h2
  obtain ⟨rb, e1, p1⟩ := s_rcloseFor (r := ra) (h := h) hm hn ((p0.low hmo (by omega)).trans hb) (show 1 < 3 by omega) hmo (hng 1 (by omega)) (rPre_same (p0.same hmo (show 1 ≠ 0 by omega)) la hn hmo (hng 1 (by omega)) (hp 1 (by omega)))
  have lb : rLow rb ra := fun q _ h2 => p1.low hmo h2
  obtain ⟨rc, e2, p2⟩ := s_rcloseFor (r := rb) (h := h) hm hn ((p1.low hmo (by omega)).trans ((p0.low hmo (by omega)).trans hb)) (show 2 < 3 by omega) hmo (hng 2 (by omega)) (rPre_same ((p1.same hmo (show 2 ≠ 1 by omega)).tr (p0.same hmo (show 2 ≠ 0 by omega))) (lb.tr la) hn hmo (hng 2 (by omega)) (hp 2 (by omega)))
  have lc : rLow rc rb := fun q _ h2 => p2.low hmo h2
  have hc3 : rS rc 0 = (nI mo).toInt64 := (p2.low hmo (by omega)).trans ((p1.low hmo (by omega)).trans ((p0.low hmo (by omega)).trans hc))
  have sd : ∀ e, rSame (wAt rc 0 ((nI mo).toInt64 + 1)) rc e := fun e w _ => wAt_ne (by unfold rX; omega)
  refine ⟨wAt rc 0 ((nI mo).toInt64 + 1), ?_, ?_, ?_, ?_, ?_⟩
  · have i1 : (nI mo).toInt64.toInt32 = nI mo := Int32.toInt32_toInt64 _
    simp (implicitDefEqProofs := false) (disch := omega) only [ze_228, zr_228_0, zr_228_1, zr_228_4, zr_228_5, zr_228_6, zr_228_8, zr_228_9, zr_228_12, zr_228_13, zr_228_14, zr_228_15, zr_228_18, zr_228_21, zr_228_24, zr_228_25, zr_228_28, zr_228_29, zr_228_30, zr_228_31, zr_228_32, zr_228_33, zr_228_34, zr_228_35, true_or, or_true, true_and, and_true, if_true, if_false, ldA_ref, ldA_null, nl_int, nl_ref, nl_fl, nl_null, c1_int, c1_ref, c1_null, kd_M, gf_M0, Nat.zero_add, Nat.zero_mul, Nat.one_mul, nI_add, nI_leI, nI_ltI, nI_eq, nI_mul, ze_227, zr_227_0, zr_227_1, zr_227_4, zr_227_5, zr_227_6, zr_227_7, lj_M1 (show 0 < 8271 by omega), hc, i1, zcall_some, zpush_some, zpush_none, zsum_ref, zsum_int, zsum_long, zsum_nil, zsum_null, Nat.reduceAdd, Nat.reduceLeDiff, if_true]
    rw [zl_228_7]
    simp (implicitDefEqProofs := false) (disch := omega) only [ze_228, zr_228_0, zr_228_1, zr_228_4, zr_228_5, zr_228_6, zr_228_8, zr_228_9, zr_228_12, zr_228_13, zr_228_14, zr_228_15, zr_228_18, zr_228_21, zr_228_24, zr_228_25, zr_228_28, zr_228_29, zr_228_30, zr_228_31, zr_228_32, zr_228_33, zr_228_34, zr_228_35, true_or, or_true, true_and, and_true, if_true, if_false, ldA_ref, ldA_null, nl_int, nl_ref, nl_fl, nl_null, c1_int, c1_ref, c1_null, kd_M, Nat.zero_add, Nat.zero_mul, Nat.one_mul, nI_add, nI_leI, nI_ltI, nI_eq, nI_mul, e0, zcall_some, zpush_some, zpush_none, zsum_ref, zsum_int, zsum_long, zsum_nil, zsum_null, Nat.reduceAdd, Nat.reduceLeDiff, if_true]
    rw [zl_228_7]
    simp (implicitDefEqProofs := false) (disch := omega) only [ze_228, zr_228_0, zr_228_1, zr_228_4, zr_228_5, zr_228_6, zr_228_8, zr_228_9, zr_228_12, zr_228_13, zr_228_14, zr_228_15, zr_228_18, zr_228_21, zr_228_24, zr_228_25, zr_228_28, zr_228_29, zr_228_30, zr_228_31, zr_228_32, zr_228_33, zr_228_34, zr_228_35, true_or, or_true, true_and, and_true, if_true, if_false, ldA_ref, ldA_null, nl_int, nl_ref, nl_fl, nl_null, c1_int, c1_ref, c1_null, kd_M, Nat.zero_add, Nat.zero_mul, Nat.one_mul, nI_add, nI_leI, nI_ltI, nI_eq, nI_mul, e1, zcall_some, zpush_some, zpush_none, zsum_ref, zsum_int, zsum_long, zsum_nil, zsum_null, Nat.reduceAdd, Nat.reduceLeDiff, if_true]
    rw [zl_228_7]
    simp (implicitDefEqProofs := false) (disch := omega) only [ze_228, zr_228_0, zr_228_1, zr_228_4, zr_228_5, zr_228_6, zr_228_8, zr_228_9, zr_228_12, zr_228_13, zr_228_14, zr_228_15, zr_228_18, zr_228_21, zr_228_24, zr_228_25, zr_228_28, zr_228_29, zr_228_30, zr_228_31, zr_228_32, zr_228_33, zr_228_34, zr_228_35, true_or, or_true, true_and, and_true, if_true, if_false, ldA_ref, ldA_null, nl_int, nl_ref, nl_fl, nl_null, c1_int, c1_ref, c1_null, kd_M, Nat.zero_add, Nat.zero_mul, Nat.one_mul, nI_add, nI_leI, nI_ltI, nI_eq, nI_mul, e2, zcall_some, zpush_some, zpush_none, zsum_ref, zsum_int, zsum_long, zsum_nil, zsum_null, Nat.reduceAdd, Nat.reduceLeDiff, if_true]
    rw [zl_228_7]
    simp (implicitDefEqProofs := false) (disch := omega) only [ze_228, zr_228_0, zr_228_1, zr_228_4, zr_228_5, zr_228_6, zr_228_8, zr_228_9, zr_228_12, zr_228_13, zr_228_14, zr_228_15, zr_228_18, zr_228_21, zr_228_24, zr_228_25, zr_228_28, zr_228_29, zr_228_30, zr_228_31, zr_228_32, zr_228_33, zr_228_34, zr_228_35, true_or, or_true, true_and, and_true, if_true, if_false, ldA_ref, ldA_null, nl_int, nl_ref, nl_fl, nl_null, c1_int, c1_ref, c1_null, kd_M, gf_M0, Nat.zero_add, Nat.zero_mul, Nat.one_mul, nI_add, nI_leI, nI_ltI, nI_eq, nI_mul, lj_M1 (show 0 < 8271 by omega), hc3, sj_S hm (show 0 < 8271 by omega), c1_int, c1_ref, Nat.le_refl]
  · intro e he
    match e, he with
    | 0, _ => exact (p0.E hmo).to (hng 0 (by omega)) hmo ((sd 0).tr ((p2.same hmo (by omega)).tr (p1.same hmo (by omega))))
    | 1, _ => exact ((p1.E hmo).of hmo (p0.same hmo (by omega)) la).to (hng 1 (by omega)) hmo ((sd 1).tr (p2.same hmo (by omega)))
    | 2, _ => exact ((p2.E hmo).of hmo ((p1.same hmo (by omega)).tr (p0.same hmo (by omega))) (lb.tr la)).to (hng 2 (by omega)) hmo (sd 2)
    | e + 3, h => omega
  · rw [wAt_eq]; exact nI_succ64 (by omega)
  · intro q h1 h2
    rw [wAt_ne (by omega)]
    exact ((lc.tr lb).tr la) q h1 h2
  · exact wS_tr (wAt_S _ _ _) (wS_tr p2.2.2.2.2.1 (wS_tr p1.2.2.2.2.1 p0.2.2.2.2.1))
end
