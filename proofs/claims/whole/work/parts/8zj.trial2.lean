/-! TRIALS on both sides: the next payout -/
section
variable {H H1 : zH} {s : tyB} {q : Nat → Int64} {c n e g K m mo : Nat} {gs : Nat → Nat} {w w0 w' : tyW} {LS : Nat → List Ln} {r r1 r2 : Rst} {h : zH} {l : List Ln} {f : Int32} {s0 : tyR}
theorem frm.wd {a n a2 n2 : Nat} (x : frm H1 H a n) (h1 : a2 ≤ a) (h2 : a + n ≤ a2 + n2) : frm H1 H a2 n2 := ⟨x.1, x.2.1, fun p hp => x.2.2 p (by omega)⟩
theorem grN_32b {a b c : Int32} (ha : 0 ≤ a.toInt ∧ a.toInt ≤ 20000) (hb : 0 ≤ b.toInt ∧ b.toInt ≤ 30) (hc : 0 ≤ c.toInt ∧ c.toInt ≤ 30000) : (a * b / nI 30 + c).toInt64 = J (grN a.toInt b.toInt c.toInt) := by
  have h1 := mul_bd ha.1 ha.2 hb.1 hb.2
  have m1 : (a * b).toInt = a.toInt * b.toInt := by
    rw [Int32.toInt_mul]
    exact Int.bmod_eq_of_le (by omega) (by omega)
  have d1 : (a * b / nI 30).toInt = a.toInt * b.toInt / 30 := by
    rw [Int32.toInt_div, m1, nI_toInt (by omega), Int.tdiv_eq_ediv_of_nonneg h1.1]
    exact Int.bmod_eq_of_le (by omega) (by omega)
  have s1 : (a * b / nI 30 + c).toInt = a.toInt * b.toInt / 30 + c.toInt := by
    rw [Int32.toInt_add, d1]
    exact Int.bmod_eq_of_le (by omega) (by omega)
  rw [J_32, s1]
  rfl
/-- the worker of a trial: its bonus of a month is greater -/
def wUp (w : tyW) (mo x : Nat) : tyW := sW_en w (upd (gW_en w) (24 + mo) (gW_en w (24 + mo) + nI x))
theorem wUp_en {x k : Nat} (hk : k ≠ 24 + mo) : gW_en (wUp w mo x) k = gW_en w k := if_neg hk
theorem wUp_eq {x : Nat} : gW_en (wUp w mo x) (24 + mo) = gW_en w (24 + mo) + nI x := if_pos rfl
theorem bon_up (ok : enOK w) (hmo : mo < 12) {x : Nat} (hx : x ≤ 1) : (gW_en w (24 + mo) + nI x).toInt = (gW_en w (24 + mo)).toInt + x := by
  obtain ⟨h1, h2, h3⟩ := ok mo hmo
  rw [Int32.toInt_add, nI_toInt (by omega)]
  exact Int.bmod_eq_of_le (by omega) (by omega)
def upS (r2 r : Rst) (e mo x : Nat) : Prop := rS r2 (rX e (26 + mo)) = rS r (rX e (26 + mo)) + (nI x).toInt64 ∧ ∀ k, k ≠ rX e (26 + mo) → rS r2 k = rS r k
theorem upS_G {x : Nat} (hu : upS r2 r e mo x) : ∀ j, j ≤ mo → rG r2 e j = rG r e j
  | 0, _ => rfl
  | j + 1, hj => by
    rw [rG, rG, upS_G hu j (by omega), rGr, rGr, hu.2 _ (by unfold rX; omega), hu.2 _ (by unfold rX; omega), hu.2 _ (by unfold rX; omega)]
theorem wUp_G {x : Nat} (hmo : mo < 12) : ∀ j, j ≤ mo → pG (wUp w mo x) j = pG w j
  | 0, _ => rfl
  | j + 1, hj => by
    rw [pG, pG, wUp_G hmo j (by omega), pGr, pGr, wUp_en (by omega), wUp_en (by omega), wUp_en (by omega)]
theorem up_amt {x k : Nat} (hr : RelR s0 (rS r) n) (ok : enOK w) (hE : enEq w (rS r) e) (hmo : mo < 12) (hx : x ≤ 1) (hu : upS r2 r e mo x) {j : Nat} (hj : j ≤ mo + 1) : rAmt r2 n k (rG r2 e j) = pUpTo s0 n (wUp w mo x) k j := by
  have hr2 : RelR s0 (rS r2) n := hr.fr fun q h1 h2 => hu.2 q (by unfold rX; omega)
  have key : ∃ X : Int, (0 ≤ X ∧ X ≤ 600000) ∧ rG r2 e j = J X ∧ pG (wUp w mo x) j = J X := by
    by_cases h1 : j ≤ mo
    · have b := GW_bd ok j (by omega)
      exact ⟨GW w j, by omega, (upS_G hu j h1).trans (rG_J ok hE j (by omega)), (wUp_G hmo j h1).trans (pG_J ok j (by omega))⟩
    · rw [show j = mo + 1 by omega]
      have b := GW_bd ok mo (by omega)
      obtain ⟨h1, h2, h3⟩ := ok mo hmo
      have b2 := grN_bd h1 h2 h3
      have bu := bon_up ok hmo hx
      refine ⟨GW w mo + (grW w mo + x), by unfold grW; omega, ?_, ?_⟩
      · rw [rG, upS_G hu mo (Nat.le_refl _), rG_J ok hE mo (by omega), rGr, hu.1, hu.2 _ (by unfold rX; omega), hu.2 _ (by unfold rX; omega), ← Int64.add_assoc (rS r (rX e (2 + mo)) * rS r (rX e (14 + mo)) / 30)]
        have := rGr_J ok hE hmo
        unfold rGr at this
        rw [this, J_nI (by omega), J_add, J_add]
      · rw [pG, wUp_G hmo mo (Nat.le_refl _), pG_J ok mo (by omega), pGr, wUp_en (by omega), wUp_en (by omega), wUp_eq, grN_32b h1 h2 (by rw [bu]; omega), bu, J_add]
        congr 1
        unfold grW grN
        omega
  obtain ⟨X, hX, e1, e2⟩ := key
  unfold pUpTo
  rw [e1, rAmt_J hr2 hX]
  by_cases h0 : j = 0
  · rw [if_pos h0]
    subst h0
    have e3 : (0 : Int64) = J X := e2
    have e4 : X = 0 := by
      have := congrArg Int64.toInt e3
      rw [J_toInt (by omega) (by omega)] at this
      exact this.symm
    rw [e4, amN_0 hr]; rfl
  · rw [if_neg h0, e2, pAmt_J hr hX]
theorem rPre_up {x : Nat} {LS : Nat → List Ln} (hr : RelR s0 (rS r) n) (hR : RelE w (rS r) e mo g LS) (hf : flEq f (rS r) e mo) (hmo : mo < 12) (hx : x ≤ 1) (hu : upS r2 r e mo x) : rPre r2 e mo n g (wUp w mo x) (pDD s0 n (wUp w mo x)) f := by
  have hg3 := hR.2.2.2.2.2.1.1
  obtain ⟨p1, p2, p3, p4, p5, p6, p7, p8⟩ := rPre_of hr hR hf hmo
  have z := hu.2
  refine ⟨fun k m2 hk hm => ?_, fun k m2 hk hm => ?_, fun m2 hm => ?_, ⟨(z _ (by unfold rX; omega)).trans p4.1, by simp, fun i x hi => by cases hi⟩, (z _ (by unfold rX; omega)).trans p5, (z _ (by unfold rX; omega)).trans p6, ⟨(z _ (by unfold rX; omega)).trans p7.1, fun p hp => ⟨(z _ (by unfold rX; omega)).trans (p7.2 p hp).1, (z _ (by unfold rX; omega)).trans (p7.2 p hp).2⟩⟩, fun k hk => (z _ (by unfold rX; omega)).trans (p8 k hk)⟩
  · rw [pDD_at hk (by omega)]
    unfold rDue pDue
    rw [up_amt hr hR.2.1 hR.1 hmo hx hu (by omega), up_amt hr hR.2.1 hR.1 hmo hx hu (by omega)]
  · have := p2 k m2 hk hm
    unfold rSet at this ⊢
    rw [if_pos hk] at this ⊢
    exact (z _ (by unfold rX; omega)).trans this
  · have := p3 m2 hm
    unfold rReason pReason at this ⊢
    rw [z _ (by unfold rX; omega), z _ (by unfold rX; omega), z _ (by unfold rX; omega), z _ (by unfold rX; omega), z _ (by unfold rX; omega), z _ (by unfold rX; omega), z 2 (by unfold rX; omega), z _ (by unfold rX; omega), wUp_en (by omega), wUp_en (by omega), wUp_en (by omega)]
    exact this
theorem s_rthink (hm : 100 ≤ m) : ev 269 [.ref m] (putM m r h) = some (none, putM m (wKp r (va_cpy (rS r) (rKp r) 0 0 8271)) h) := by
  simp (implicitDefEqProofs := false) (disch := omega) only [ze_269, zr_269_0, zr_269_1, zr_269_4, zr_269_5, zr_269_6, zr_269_9, zr_269_10, zr_269_13, zr_269_16, true_or, or_true, true_and, and_true, if_true, if_false, ldA_ref, ldA_null, nl_int, nl_ref, nl_fl, nl_null, c1_int, c1_ref, c1_null, Nat.zero_add, Nat.zero_mul, Nat.one_mul, nI_add, nI_leI, nI_ltI, nI_eq, nI_mul, gf_M, cp_M14 hm, zcall_some, zpush_some, zpush_none, zsum_ref, zsum_int, zsum_long, zsum_nil, zsum_null, Nat.reduceAdd, Nat.reduceLeDiff, if_true]
theorem s_rforget (hm : 100 ≤ m) : ev 270 [.ref m] (putM m r h) = some (none, putM m (wS r (va_cpy (rKp r) (rS r) 0 0 8271)) h) := by
  simp (implicitDefEqProofs := false) (disch := omega) only [ze_270, zr_270_0, zr_270_1, zr_270_4, zr_270_5, zr_270_6, zr_270_9, zr_270_10, zr_270_13, zr_270_16, true_or, or_true, true_and, and_true, if_true, if_false, ldA_ref, ldA_null, nl_int, nl_ref, nl_fl, nl_null, c1_int, c1_ref, c1_null, Nat.zero_add, Nat.zero_mul, Nat.one_mul, nI_add, nI_leI, nI_ltI, nI_eq, nI_mul, gf_M, cp_M41 hm, zcall_some, zpush_some, zpush_none, zsum_ref, zsum_int, zsum_long, zsum_nil, zsum_null, Nat.reduceAdd, Nat.reduceLeDiff, if_true]
/-- what thinking leaves -/
theorem thinkA {r3 : Rst} (h3 : rKp r3 = va_cpy (rS r) (rKp r) 0 0 8271) (h4 : rSv r3 = rSv r ∧ rPa r3 = rPa r ∧ rIs r3 = rIs r ∧ rPm r3 = rPm r ∧ rQ r3 = rQ r ∧ rLn r3 = rLn r ∧ rTx r3 = rTx r) : rAg (wS r3 (va_cpy (rKp r3) (rS r3) 0 0 8271)) r := ⟨fun k hk => by
  show va_cpy (rKp r3) (rS r3) 0 0 8271 k = _
  rw [cpy0 _ _ hk, h3, cpy0 _ _ hk], h4⟩
theorem s_rnext {x : Nat} {ngs : Nat → Nat} {ws : Nat → tyW} {Ds : Nat → Nat → Int64} (hm : 100 ≤ m) (hn : n ≤ 5) (h7 : rS r 7 = (nI n).toInt64) (hc : rS r 0 = (nI mo).toInt64) (hmo : mo < 12) (he : e < 3) (hng : ∀ e, e < 3 → ngs e ≤ 3) (hp : ∀ r2, upS r2 r e mo x → ∀ e', e' < 3 → rPre r2 e' mo n (ngs e') (ws e') (Ds e') f) : ∃ r', ev 268 [.ref m, .int (nI e), .int (nI x)] (putM m r h) = some (some (.long (pSum (pL4 (ws e) (Ds e) mo f (ngs e)))), putM m r' h) ∧ rAg r' r := by
  have e1 := s_rthink (r := r) (h := h) hm
  generalize hr1 : wKp r (va_cpy (rS r) (rKp r) 0 0 8271) = r1 at e1
  have s1 : rS r1 = rS r := by rw [← hr1]; rfl
  generalize hr2 : wAt r1 (rX e (26 + mo)) (rS r1 (rX e (26 + mo)) + (nI x).toInt64) = r2
  have hu : upS r2 r e mo x := by
    rw [← hr2]
    exact ⟨by rw [wAt_eq, s1], fun k hk => by rw [wAt_ne hk, s1]⟩
  obtain ⟨r3, e3, p3, -, -, p5⟩ := s_rclose (r := r2) (h := h) hm hn ((hu.2 7 (by unfold rX; omega)).trans h7) ((hu.2 0 (by unfold rX; omega)).trans hc) hmo hng (hp r2 hu)
  have e4 := s_rpay (m := m) (h := h) hmo he (p3 e he).2.1 pL5_pos
  rw [pPd_pL5] at e4
  have e5 := s_rforget (r := r3) (h := h) hm
  have k : ∀ {α : Type} (f : Rst → α), (∀ (r : Rst) v, f (wS r v) = f r) → f r3 = f r1 := fun f hf => by
    rw [p5, hf, ← hr2]; exact hf r1 _
  refine ⟨_, ?_, thinkA (r := r) (r3 := r3) ((k rKp fun _ _ => rfl).trans (by rw [← hr1]; rfl)) ⟨(k rSv fun _ _ => rfl).trans (by rw [← hr1]; rfl), (k rPa fun _ _ => rfl).trans (by rw [← hr1]; rfl), (k rIs fun _ _ => rfl).trans (by rw [← hr1]; rfl), (k rPm fun _ _ => rfl).trans (by rw [← hr1]; rfl), (k rQ fun _ _ => rfl).trans (by rw [← hr1]; rfl), (k rLn fun _ _ => rfl).trans (by rw [← hr1]; rfl), (k rTx fun _ _ => rfl).trans (by rw [← hr1]; rfl)⟩⟩
  simp (implicitDefEqProofs := false) (disch := omega) only [ze_268, zr_268_0, zr_268_1, zr_268_4, zr_268_5, zr_268_8, zr_268_9, zr_268_11, zr_268_12, zr_268_15, zr_268_16, zr_268_19, zr_268_20, zr_268_21, zr_268_22, zr_268_23, zr_268_24, zr_268_25, zr_268_26, zr_268_27, zr_268_28, zr_268_31, zr_268_34, zr_268_35, zr_268_36, zr_268_39, zr_268_40, true_or, or_true, true_and, and_true, if_true, if_false, ldA_ref, ldA_null, nl_int, nl_ref, nl_fl, nl_null, c1_int, c1_ref, c1_null, Nat.zero_add, Nat.zero_mul, Nat.one_mul, nI_add, nI_leI, nI_ltI, nI_eq, nI_mul, kd_M, gf_M, e1, s_rcm (show rS r1 0 = (nI mo).toInt64 by rw [s1]; exact hc), s_at, lj_M1 (show rX e (26 + mo) < 8271 by unfold rX; omega), sj_S hm (show rX e (26 + mo) < 8271 by unfold rX; omega), hr2, e3, e4, e5, zcall_some, zpush_some, zpush_none, zsum_ref, zsum_int, zsum_long, zsum_nil, zsum_null, Nat.reduceAdd, Nat.reduceLeDiff, if_true]
/-- the next payout on both sides -/
theorem rnext {LS : Nat → Nat → List Ln} {x : Nat} (hx : x ≤ 1) (hb : RelB s (rS r) mo n gs LS K) (hmo : mo < 12) (he : e < 3) (tw : tyW) : ∃ r', ev 268 [.ref 463, .int (nI e), .int (nI x)] (putM 463 r h) = some (some (.long (pSum (pL4 (wNx tw (gB_wk s e) mo (nI x)) (pDD (gB_ru s) n (wNx tw (gB_wk s e) mo (nI x))) mo (gB_fg s) (gs e)))), putM 463 r' h) ∧ rAg r' r := by
  obtain ⟨hn, hbn, h7, -⟩ := id hb.2.1
  have hw0 : RelE (pCpW tw (gB_wk s e)) (rS r) e mo (gs e) (LS e) := (good.rE hb he).ag (by omega) (agW_cp _ _)
  have h := s_rnext (m := 463) (h := h) (x := x) (f := gB_fg s) (ngs := gs) (ws := fun e' => if e' = e then wUp (pCpW tw (gB_wk s e)) mo x else gB_wk s e') (Ds := fun e' => pDD (gB_ru s) n (if e' = e then wUp (pCpW tw (gB_wk s e)) mo x else gB_wk s e')) (by omega) hn h7 hb.1.2.2.1 hmo he (fun e he => (good.rE hb he).2.2.2.2.2.1.1) (fun r2 hu e' he' => ?_)
  · rw [if_pos rfl] at h
    exact h
  · by_cases h1 : e' = e
    · subst h1
      rw [if_pos rfl]
      exact rPre_up hb.2.1 hw0 (hb.2.2.1 e' he').2.1 hmo hx hu
    · rw [if_neg h1]
      exact rPre_same (fun w hw => hu.2 _ (by unfold rX; omega)) (fun q _ h2 => hu.2 _ (by unfold rX; omega)) hn hmo (good.rE hb he').2.2.2.2.2.1.1 (rPre_of hb.2.1 (good.rE hb he') (hb.2.2.1 e' he').2.1 hmo)
end
section
theorem q_preview (x : Int32) : qryK (fun h => ev 150 [.ref 100, .int x] h) (fun h => ev 267 [.ref 463, .int x] h) := by
  intro H s q K ⟨⟨⟨sv, hx⟩, hB, hg⟩, ⟨du, hD⟩, tw, hT⟩
  have hsl := hg.bSl
  obtain ⟨c, n, gs, LS, hb, hs⟩ := hg
  dsimp only
  have hc := hb.1.1
  obtain ⟨hn, hbn, h7, -⟩ := hb.2.1
  by_cases h0 : nI 0 ≤ x ∧ x ≤ nI 2
  · obtain ⟨e, he, rfl⟩ := in_nI (by omega) h0.1 h0.2
    have hE := good.rE hb (show e < 3 by omega)
    have hg3 := hE.2.2.2.2.2.1
    by_cases h2 : c < 12
    · obtain ⟨H1, w1, e1, f1, t1⟩ := s_nextPayout (x := nI 0) hT hB (by omega) (by omega) (by omega) (show e < 3 by omega) hsl h2 hb.1.2.1 hn hbn hg3.1 hg3.2.1
      refine ⟨pSum (pL4 (wNx tw (gB_wk s e) c (nI 0)) (pDD (gB_ru s) n (wNx tw (gB_wk s e) c (nI 0))) c (gB_fg s) (gs e)), H1, ?_, f1.wd (by omega) (by omega), ⟨du, f1.isB (by omega) hD⟩, ⟨w1, t1⟩, fun r h hq => ?_⟩
      · simp (implicitDefEqProofs := false) (disch := omega) only [ze_150, zr_150_0, zr_150_1, zr_150_4, zr_150_7, zr_150_10, zr_150_11, zr_150_12, zr_150_15, zr_150_18, zr_150_20, zr_150_23, zr_150_26, zr_150_27, zr_150_28, zr_150_31, zr_150_32, zr_150_35, zr_150_36, zr_150_37, zr_150_40, true_or, or_true, true_and, and_true, if_true, if_false, ldA_ref, ldA_null, nl_int, nl_ref, nl_fl, nl_null, c1_int, c1_ref, c1_null, Nat.zero_add, Nat.zero_mul, Nat.one_mul, nI_add, nI_leI, nI_ltI, nI_eq, nI_mul, s_isEmployee, bI_0, show ¬ ¬ (0 ≤ e ∧ e ≤ 2) from by omega, x_at hx, rdB_0 (hB), rdB_1 (hB), rdB_2 (hB), rdB_3 (hB), rdB_4 (hB), rdB_5 (hB), rdB_6 (hB), rdB_7 (hB), hb.1.2.1, h2, (tr_at hT).1, e1, zcall_some, zpush_some, zpush_none, zsum_ref, zsum_int, zsum_long, zsum_nil, zsum_null, Nat.reduceAdd, Nat.reduceLeDiff, if_true]
      · obtain ⟨r', e2, a⟩ := rnext (x := 0) (r := r) (h := h) (by omega) (by rw [hq]; exact hb) h2 (show e < 3 by omega) tw
        refine ⟨r', ?_, a⟩
        simp (implicitDefEqProofs := false) (disch := omega) only [ze_267, zr_267_0, zr_267_1, zr_267_4, zr_267_7, zr_267_10, zr_267_13, zr_267_14, zr_267_17, zr_267_19, zr_267_22, zr_267_25, zr_267_28, zr_267_29, zr_267_30, zr_267_31, zr_267_34, true_or, or_true, true_and, and_true, if_true, if_false, ldA_ref, ldA_null, nl_int, nl_ref, nl_fl, nl_null, c1_int, c1_ref, c1_null, Nat.zero_add, Nat.zero_mul, Nat.one_mul, nI_add, nI_leI, nI_ltI, nI_eq, nI_mul, kd_M, s_isPerson, bI_0, bI_ok, show ¬ ¬ (0 ≤ e ∧ e ≤ 2) from by omega, s_rcm (show rS r 0 = (nI c).toInt64 by rw [hq]; exact hb.1.2.2.1), show ¬ c = 12 from by omega, e2, zcall_some, zpush_some, zpush_none, zsum_ref, zsum_int, zsum_long, zsum_nil, zsum_null, Nat.reduceAdd, Nat.reduceLeDiff, if_true]
    · refine ⟨-2, H, ?_, frm.rf H _ _, ⟨du, hD⟩, ⟨tw, hT⟩, fun r h hq => ⟨r, ?_, rAg.rf r⟩⟩
      · simp (implicitDefEqProofs := false) (disch := omega) only [ze_150, zr_150_0, zr_150_1, zr_150_4, zr_150_7, zr_150_10, zr_150_11, zr_150_12, zr_150_15, zr_150_18, zr_150_20, zr_150_23, zr_150_26, zr_150_27, zr_150_28, zr_150_31, zr_150_32, zr_150_35, zr_150_36, zr_150_37, zr_150_40, true_or, or_true, true_and, and_true, if_true, if_false, ldA_ref, ldA_null, nl_int, nl_ref, nl_fl, nl_null, c1_int, c1_ref, c1_null, Nat.zero_add, Nat.zero_mul, Nat.one_mul, nI_add, nI_leI, nI_ltI, nI_eq, nI_mul, s_isEmployee, bI_0, show ¬ ¬ (0 ≤ e ∧ e ≤ 2) from by omega, x_at hx, rdB_0 (hB), rdB_1 (hB), rdB_2 (hB), rdB_3 (hB), rdB_4 (hB), rdB_5 (hB), rdB_6 (hB), rdB_7 (hB), hb.1.2.1, h2, zcall_some, zpush_some, zpush_none, zsum_ref, zsum_int, zsum_long, zsum_nil, zsum_null, Nat.reduceAdd, Nat.reduceLeDiff, if_true]
      · simp (implicitDefEqProofs := false) (disch := omega) only [ze_267, zr_267_0, zr_267_1, zr_267_4, zr_267_7, zr_267_10, zr_267_13, zr_267_14, zr_267_17, zr_267_19, zr_267_22, zr_267_25, zr_267_28, zr_267_29, zr_267_30, zr_267_31, zr_267_34, true_or, or_true, true_and, and_true, if_true, if_false, ldA_ref, ldA_null, nl_int, nl_ref, nl_fl, nl_null, c1_int, c1_ref, c1_null, Nat.zero_add, Nat.zero_mul, Nat.one_mul, nI_add, nI_leI, nI_ltI, nI_eq, nI_mul, kd_M, s_isPerson, bI_0, bI_ok, show ¬ ¬ (0 ≤ e ∧ e ≤ 2) from by omega, s_rcm (show rS r 0 = (nI c).toInt64 by rw [hq]; exact hb.1.2.2.1), show c = 12 from by omega, zcall_some, zpush_some, zpush_none, zsum_ref, zsum_int, zsum_long, zsum_nil, zsum_null, Nat.reduceAdd, Nat.reduceLeDiff, if_true]
  · refine ⟨-1, H, ?_, frm.rf H _ _, ⟨du, hD⟩, ⟨tw, hT⟩, fun r h hq => ⟨r, ?_, rAg.rf r⟩⟩
    · simp (implicitDefEqProofs := false) (disch := omega) only [ze_150, zr_150_0, zr_150_1, zr_150_4, zr_150_7, zr_150_10, zr_150_11, zr_150_12, zr_150_15, zr_150_18, zr_150_20, zr_150_23, zr_150_26, zr_150_27, zr_150_28, zr_150_31, zr_150_32, zr_150_35, zr_150_36, zr_150_37, zr_150_40, true_or, or_true, true_and, and_true, if_true, if_false, ldA_ref, ldA_null, nl_int, nl_ref, nl_fl, nl_null, c1_int, c1_ref, c1_null, s_isEmployee, bI_0, not_false_eq_true, h0, zcall_some, zpush_some, zpush_none, zsum_ref, zsum_int, zsum_long, zsum_nil, zsum_null, Nat.reduceAdd, Nat.reduceLeDiff, if_true]
    · simp (implicitDefEqProofs := false) (disch := omega) only [ze_267, zr_267_0, zr_267_1, zr_267_4, zr_267_7, zr_267_10, zr_267_13, zr_267_14, zr_267_17, zr_267_19, zr_267_22, zr_267_25, zr_267_28, zr_267_29, zr_267_30, zr_267_31, zr_267_34, true_or, or_true, true_and, and_true, if_true, if_false, ldA_ref, ldA_null, nl_int, nl_ref, nl_fl, nl_null, c1_int, c1_ref, c1_null, kd_M, s_isPerson, bI_0, bI_ok, not_false_eq_true, h0, zcall_some, zpush_some, zpush_none, zsum_ref, zsum_int, zsum_long, zsum_nil, zsum_null, Nat.reduceAdd, Nat.reduceLeDiff, if_true]
theorem rAg.tr {r1 r2 r3 : Rst} (a : rAg r1 r2) (b : rAg r2 r3) : rAg r1 r3 := ⟨fun k hk => (a.1 k hk).trans (b.1 k hk), a.2.1.trans b.2.1, a.2.2.1.trans b.2.2.1, a.2.2.2.1.trans b.2.2.2.1, a.2.2.2.2.1.trans b.2.2.2.2.1, a.2.2.2.2.2.1.trans b.2.2.2.2.2.1, a.2.2.2.2.2.2.1.trans b.2.2.2.2.2.2.1, a.2.2.2.2.2.2.2.trans b.2.2.2.2.2.2.2⟩
theorem q_marginal (x : Int32) : qryK (fun h => ev 154 [.ref 100, .int x] h) (fun h => ev 271 [.ref 463, .int x] h) := by
  intro H s q K ⟨⟨⟨sv, hx⟩, hB, hg⟩, ⟨du, hD⟩, tw, hT⟩
  have hg0 := hg
  have hsl := hg.bSl
  obtain ⟨c, n, gs, LS, hb, hs⟩ := hg
  dsimp only
  have hc := hb.1.1
  obtain ⟨hn, hbn, h7, -⟩ := hb.2.1
  by_cases h0 : nI 0 ≤ x ∧ x ≤ nI 2
  · obtain ⟨e, he, rfl⟩ := in_nI (by omega) h0.1 h0.2
    have hE := good.rE hb (show e < 3 by omega)
    have hg3 := hE.2.2.2.2.2.1
    by_cases h2 : c < 12
    · obtain ⟨H1, w1, e1, f1, t1⟩ := s_nextPayout (x := nI 1) hT hB (by omega) (by omega) (by omega) (show e < 3 by omega) hsl h2 hb.1.2.1 hn hbn hg3.1 hg3.2.1
      have hB1 := f1.isB (by omega) hB
      have hx1 : H1.2.2 100 = xC sv := (f1.2.2 _ (by omega)).trans hx
      have hsl1 : bSl H1 s := (hg0.fr ⟨Nat.le_of_eq f1.1.symm, fun p h1 _ _ => f1.2.2 p (by omega)⟩).bSl
      obtain ⟨H2, w2, e2, f2, t2⟩ := s_nextPayout (x := nI 0) t1 hB1 (by omega) (by omega) (by omega) (show e < 3 by omega) hsl1 h2 hb.1.2.1 hn hbn hg3.1 hg3.2.1
      refine ⟨pSum (pL4 (wNx tw (gB_wk s e) c (nI 1)) (pDD (gB_ru s) n (wNx tw (gB_wk s e) c (nI 1))) c (gB_fg s) (gs e)) - pSum (pL4 (wNx w1 (gB_wk s e) c (nI 0)) (pDD (gB_ru s) n (wNx w1 (gB_wk s e) c (nI 0))) c (gB_fg s) (gs e)), H2, ?_, (f2.tr f1).wd (by omega) (by omega), ⟨du, (f2.tr f1).isB (by omega) hD⟩, ⟨w2, t2⟩, fun r h hq => ?_⟩
      · simp (implicitDefEqProofs := false) (disch := omega) only [ze_154, zr_154_0, zr_154_1, zr_154_4, zr_154_7, zr_154_10, zr_154_11, zr_154_12, zr_154_15, zr_154_18, zr_154_20, zr_154_23, zr_154_26, zr_154_27, zr_154_28, zr_154_31, zr_154_32, zr_154_35, zr_154_36, zr_154_37, zr_154_40, zr_154_41, zr_154_44, zr_154_45, zr_154_48, zr_154_49, zr_154_50, zr_154_53, zr_154_54, true_or, or_true, true_and, and_true, if_true, if_false, ldA_ref, ldA_null, nl_int, nl_ref, nl_fl, nl_null, c1_int, c1_ref, c1_null, Nat.zero_add, Nat.zero_mul, Nat.one_mul, nI_add, nI_leI, nI_ltI, nI_eq, nI_mul, s_isEmployee, bI_0, show ¬ ¬ (0 ≤ e ∧ e ≤ 2) from by omega, x_at hx, x_at hx1, rdB_0 (hB), rdB_1 (hB), rdB_2 (hB), rdB_3 (hB), rdB_4 (hB), rdB_5 (hB), rdB_6 (hB), rdB_7 (hB), rdB_0 (hB1), rdB_1 (hB1), rdB_2 (hB1), rdB_3 (hB1), rdB_4 (hB1), rdB_5 (hB1), rdB_6 (hB1), rdB_7 (hB1), hb.1.2.1, h2, (tr_at hT).1, (tr_at t1).1, e1, e2, zcall_some, zpush_some, zpush_none, zsum_ref, zsum_int, zsum_long, zsum_nil, zsum_null, Nat.reduceAdd, Nat.reduceLeDiff, if_true]
      · obtain ⟨r', e3, a⟩ := rnext (x := 1) (r := r) (h := h) (by omega) (by rw [hq]; exact hb) h2 (show e < 3 by omega) tw
        have hb' : RelB s (rS r') c n gs LS K := RelB.ag (q := q) hb fun k hk => by rw [a.1 k hk, hq]
        obtain ⟨r'', e4, a2⟩ := rnext (x := 0) (r := r') (h := h) (by omega) hb' h2 (show e < 3 by omega) w1
        refine ⟨r'', ?_, a2.tr a⟩
        simp (implicitDefEqProofs := false) (disch := omega) only [ze_271, zr_271_0, zr_271_1, zr_271_4, zr_271_7, zr_271_10, zr_271_13, zr_271_14, zr_271_17, zr_271_19, zr_271_22, zr_271_25, zr_271_28, zr_271_29, zr_271_30, zr_271_31, zr_271_34, zr_271_35, zr_271_36, zr_271_37, zr_271_40, zr_271_41, true_or, or_true, true_and, and_true, if_true, if_false, ldA_ref, ldA_null, nl_int, nl_ref, nl_fl, nl_null, c1_int, c1_ref, c1_null, Nat.zero_add, Nat.zero_mul, Nat.one_mul, nI_add, nI_leI, nI_ltI, nI_eq, nI_mul, kd_M, s_isPerson, bI_0, bI_ok, show ¬ ¬ (0 ≤ e ∧ e ≤ 2) from by omega, s_rcm (show rS r 0 = (nI c).toInt64 by rw [hq]; exact hb.1.2.2.1), show ¬ c = 12 from by omega, e3, e4, zcall_some, zpush_some, zpush_none, zsum_ref, zsum_int, zsum_long, zsum_nil, zsum_null, Nat.reduceAdd, Nat.reduceLeDiff, if_true]
    · refine ⟨-2, H, ?_, frm.rf H _ _, ⟨du, hD⟩, ⟨tw, hT⟩, fun r h hq => ⟨r, ?_, rAg.rf r⟩⟩
      · simp (implicitDefEqProofs := false) (disch := omega) only [ze_154, zr_154_0, zr_154_1, zr_154_4, zr_154_7, zr_154_10, zr_154_11, zr_154_12, zr_154_15, zr_154_18, zr_154_20, zr_154_23, zr_154_26, zr_154_27, zr_154_28, zr_154_31, zr_154_32, zr_154_35, zr_154_36, zr_154_37, zr_154_40, zr_154_41, zr_154_44, zr_154_45, zr_154_48, zr_154_49, zr_154_50, zr_154_53, zr_154_54, true_or, or_true, true_and, and_true, if_true, if_false, ldA_ref, ldA_null, nl_int, nl_ref, nl_fl, nl_null, c1_int, c1_ref, c1_null, Nat.zero_add, Nat.zero_mul, Nat.one_mul, nI_add, nI_leI, nI_ltI, nI_eq, nI_mul, s_isEmployee, bI_0, show ¬ ¬ (0 ≤ e ∧ e ≤ 2) from by omega, x_at hx, rdB_0 (hB), rdB_1 (hB), rdB_2 (hB), rdB_3 (hB), rdB_4 (hB), rdB_5 (hB), rdB_6 (hB), rdB_7 (hB), hb.1.2.1, h2, zcall_some, zpush_some, zpush_none, zsum_ref, zsum_int, zsum_long, zsum_nil, zsum_null, Nat.reduceAdd, Nat.reduceLeDiff, if_true]
      · simp (implicitDefEqProofs := false) (disch := omega) only [ze_271, zr_271_0, zr_271_1, zr_271_4, zr_271_7, zr_271_10, zr_271_13, zr_271_14, zr_271_17, zr_271_19, zr_271_22, zr_271_25, zr_271_28, zr_271_29, zr_271_30, zr_271_31, zr_271_34, zr_271_35, zr_271_36, zr_271_37, zr_271_40, zr_271_41, true_or, or_true, true_and, and_true, if_true, if_false, ldA_ref, ldA_null, nl_int, nl_ref, nl_fl, nl_null, c1_int, c1_ref, c1_null, Nat.zero_add, Nat.zero_mul, Nat.one_mul, nI_add, nI_leI, nI_ltI, nI_eq, nI_mul, kd_M, s_isPerson, bI_0, bI_ok, show ¬ ¬ (0 ≤ e ∧ e ≤ 2) from by omega, s_rcm (show rS r 0 = (nI c).toInt64 by rw [hq]; exact hb.1.2.2.1), show c = 12 from by omega, zcall_some, zpush_some, zpush_none, zsum_ref, zsum_int, zsum_long, zsum_nil, zsum_null, Nat.reduceAdd, Nat.reduceLeDiff, if_true]
  · refine ⟨-1, H, ?_, frm.rf H _ _, ⟨du, hD⟩, ⟨tw, hT⟩, fun r h hq => ⟨r, ?_, rAg.rf r⟩⟩
    · simp (implicitDefEqProofs := false) (disch := omega) only [ze_154, zr_154_0, zr_154_1, zr_154_4, zr_154_7, zr_154_10, zr_154_11, zr_154_12, zr_154_15, zr_154_18, zr_154_20, zr_154_23, zr_154_26, zr_154_27, zr_154_28, zr_154_31, zr_154_32, zr_154_35, zr_154_36, zr_154_37, zr_154_40, zr_154_41, zr_154_44, zr_154_45, zr_154_48, zr_154_49, zr_154_50, zr_154_53, zr_154_54, true_or, or_true, true_and, and_true, if_true, if_false, ldA_ref, ldA_null, nl_int, nl_ref, nl_fl, nl_null, c1_int, c1_ref, c1_null, s_isEmployee, bI_0, not_false_eq_true, h0, zcall_some, zpush_some, zpush_none, zsum_ref, zsum_int, zsum_long, zsum_nil, zsum_null, Nat.reduceAdd, Nat.reduceLeDiff, if_true]
    · simp (implicitDefEqProofs := false) (disch := omega) only [ze_271, zr_271_0, zr_271_1, zr_271_4, zr_271_7, zr_271_10, zr_271_13, zr_271_14, zr_271_17, zr_271_19, zr_271_22, zr_271_25, zr_271_28, zr_271_29, zr_271_30, zr_271_31, zr_271_34, zr_271_35, zr_271_36, zr_271_37, zr_271_40, zr_271_41, true_or, or_true, true_and, and_true, if_true, if_false, ldA_ref, ldA_null, nl_int, nl_ref, nl_fl, nl_null, c1_int, c1_ref, c1_null, kd_M, s_isPerson, bI_0, bI_ok, not_false_eq_true, h0, zcall_some, zpush_some, zpush_none, zsum_ref, zsum_int, zsum_long, zsum_nil, zsum_null, Nat.reduceAdd, Nat.reduceLeDiff, if_true]
end
