/-! THE PAYOUTS TO COME on both sides -/
section
variable {w : tyW} {D : Nat → Int64} {m n ng : Nat} {f f' : Int32}
def amL (l : List Ln) : List Int64 := l.map fun x => x.2.2.2
theorem amL_app (a b : List Ln) : amL (a ++ b) = amL a ++ amL b := List.map_append
theorem amL_sum : ∀ {a b : List Ln}, amL a = amL b → pSum a = pSum b
  | [], [], _ => rfl
  | [], _ :: _, h => by cases h
  | _ :: _, [], h => by cases h
  | x :: a, y :: b, h => by
    have h1 : x.2.2.2 = y.2.2.2 ∧ amL a = amL b := by
      have h2 : x.2.2.2 :: amL a = y.2.2.2 :: amL b := h
      exact ⟨(List.cons.inj h2).1, (List.cons.inj h2).2⟩
    rw [pSum, pSum, h1.1, amL_sum h1.2]
theorem amL_pCor (r r' : Int32) : ∀ k, amL (pCor w D m r k) = amL (pCor w D m r' k)
  | 0 => rfl
  | k + 1 => by
    rw [pCor, pCor, amL_app, amL_app, amL_pCor r r' k]
    congr 1
    split
    · rfl
    · rfl
theorem amL_pLs (f f' : Int32) : ∀ k, amL (pLs w D m f k) = amL (pLs w D m f' k)
  | 0 => rfl
  | k + 1 => by
    rw [pLs, pLs, amL_app, amL_app, amL_pLs f f' k]
    congr 1
    exact amL_pCor _ _ 4
theorem amL_pL2 (f f' : Int32) : amL (pL2 w D m f) = amL (pL2 w D m f') := by
  unfold pL2
  split
  · exact amL_pLs f f' m
  · rw [amL_app, amL_app, amL_pLs f f' m]
theorem pOw_f (f f' : Int32) : pOw w D m f = pOw w D m f' := by unfold pOw; rw [amL_sum (amL_pL2 f f')]
theorem pAb_f (f f' : Int32) : pAb w D m f = pAb w D m f' := by unfold pAb; rw [amL_sum (amL_pL2 f f')]
theorem pW2_f (f f' : Int32) : pW2 w D m f = pW2 w D m f' := by unfold pW2; rw [pOw_f f f']
theorem pW3_f (f f' : Int32) : pW3 w D m f n = pW3 w D m f' n := by unfold pW3; rw [pW2_f f f', pAb_f f f']
theorem pL4_f (f f' : Int32) : pSum (pL4 w D m f n) = pSum (pL4 w D m f' n) := by
  refine amL_sum ?_
  have h3 : amL (pL3 w D m f n) = amL (pL3 w D m f' n) := by
    unfold pL3
    rw [amL_app, amL_app, amL_pL2 f f', pW2_f f f', pAb_f f f']
  unfold pL4
  rw [pOw_f f f']
  split
  · exact h3
  · rw [amL_app, amL_app, h3]
end
section
variable {s : tyB} {c n e g K m mo : Nat} {gs : Nat → Nat} {w : tyW} {r r0 : Rst} {h : zH}
/-- the sum of payouts -/
def sPd (LS : Nat → List Ln) : Nat → Int64
  | 0 => 0
  | m + 1 => sPd LS m + pPd (LS m)
theorem s_rpaysL {c : Nat} {LS : Nat → List Ln} (he : e < 3) (hc : c ≤ 12) (h0 : rS r 0 = (nI c).toInt64) (hL : ∀ mo, mo < c → rLines r e mo (LS mo) ∧ 0 < (LS mo).length) : ∀ (j i : Nat), i + j = c → rn 274 5 [.ref m, .int (nI e), .long (sPd LS i), .float 0, .int (nI i)] [] (putM m r h) = some (some (.long (sPd LS c)), putM m r h) := by
  intro j
  induction j with
  | zero =>
    intro i hi
    rw [zl_274_5, show i = c by omega]
    simp (implicitDefEqProofs := false) (disch := omega) only [zr_274_7, zr_274_8, zr_274_11, zr_274_14, zr_274_15, zr_274_16, zr_274_17, zr_274_19, zr_274_22, zr_274_23, zr_274_24, zr_274_27, zr_274_30, zr_274_31, true_or, or_true, true_and, and_true, if_true, if_false, ldA_ref, ldA_null, nl_int, nl_ref, nl_fl, nl_null, c1_int, c1_ref, c1_null, Nat.zero_add, Nat.zero_mul, Nat.one_mul, nI_add, nI_leI, nI_ltI, nI_eq, nI_mul, kd_M, s_rcm h0, Nat.le_refl, zcall_some, zpush_some, zpush_none, zsum_ref, zsum_int, zsum_long, zsum_nil, zsum_null, Nat.reduceAdd, Nat.reduceLeDiff, if_true]
  | succ j ih =>
    intro i hi
    have ih2 := ih (i + 1) (by omega)
    have hLi := hL i (by omega)
    rw [zl_274_5]
    simp (implicitDefEqProofs := false) (disch := omega) only [zr_274_7, zr_274_8, zr_274_11, zr_274_14, zr_274_15, zr_274_16, zr_274_17, zr_274_19, zr_274_22, zr_274_23, zr_274_24, zr_274_27, zr_274_30, zr_274_31, true_or, or_true, true_and, and_true, if_true, if_false, ldA_ref, ldA_null, nl_int, nl_ref, nl_fl, nl_null, c1_int, c1_ref, c1_null, Nat.zero_add, Nat.zero_mul, Nat.one_mul, nI_add, nI_leI, nI_ltI, nI_eq, nI_mul, kd_M, s_rcm h0, show ¬ c ≤ i from by omega, s_rpay (show i < 12 by omega) he hLi.1 hLi.2, zcall_some, zpush_some, zpush_none, zsum_ref, zsum_int, zsum_long, zsum_nil, zsum_null, Nat.reduceAdd, Nat.reduceLeDiff, if_true]
    exact ih2
theorem s_rpays {c : Nat} {LS : Nat → List Ln} (he : e < 3) (hc : c ≤ 12) (h0 : rS r 0 = (nI c).toInt64) (hL : ∀ mo, mo < c → rLines r e mo (LS mo) ∧ 0 < (LS mo).length) : ev 274 [.ref m, .int (nI e)] (putM m r h) = some (some (.long (sPd LS c)), putM m r h) := by
  simp (implicitDefEqProofs := false) (disch := omega) only [ze_274, zr_274_0, zr_274_1, zr_274_2, zr_274_3, zr_274_7, zr_274_8, zr_274_11, zr_274_14, zr_274_15, zr_274_16, zr_274_17, zr_274_19, zr_274_22, zr_274_23, zr_274_24, zr_274_27, zr_274_30, zr_274_31, true_or, or_true, true_and, and_true, if_true, if_false, ldA_ref, ldA_null, nl_int, nl_ref, nl_fl, nl_null, c1_int, c1_ref, c1_null]
  exact s_rpaysL he hc h0 hL c 0 (by omega)
theorem RelE.sl {q : Nat → Int64} {v : Nat → Option Nat} {LS : Nat → List Ln} (h : RelE (sW_sl w v) q e c g LS) : RelE w q e c g LS := h
/-- what holds between closings of a trial -/
def prI (r : Rst) (s : tyR) (n c : Nat) (gs : Nat → Nat) (e0 : Nat) (w0 : tyW) (LS : Nat → List Ln) : Prop := RelR s (rS r) n ∧ rS r 0 = (nI c).toInt64 ∧ RelE w0 (rS r) e0 c (gs e0) LS ∧ ∃ f, ∀ e, e < 3 → gs e ≤ 3 ∧ flEq f (rS r) e c ∧ ∃ w LS, (e = e0 → w = w0) ∧ RelE w (rS r) e c (gs e) LS
theorem prI_step {LS : Nat → List Ln} {s0 : tyR} (hm : 100 ≤ m) (he : e < 3) (hc : c < 12) (hI : prI r s0 n c gs e w LS) (f0 : Int32) : ∃ r2 l, ev 228 [.ref m] (putM m r h) = some (some (.int (nI c)), putM m r2 h) ∧ prI r2 s0 n (c + 1) gs e (pW3 w (pDD s0 n w) c f0 (gs e)) (fun i => if i = c then l else LS i) ∧ pPd l = pSum (pL4 w (pDD s0 n w) c f0 (gs e)) ∧ 0 < l.length ∧ r2 = wS r (rS r2) := by
  obtain ⟨hr, h0, hE, f, hx⟩ := hI
  have hch : ∃ ws : Nat → tyW, ∀ e', e' < 3 → (e' = e → ws e' = w) ∧ ∃ LS, RelE (ws e') (rS r) e' c (gs e') LS := by
    have ha : ∀ e', ∃ w', e' < 3 → (e' = e → w' = w) ∧ ∃ LS, RelE w' (rS r) e' c (gs e') LS := fun e' => by
      by_cases h3 : e' < 3
      · obtain ⟨-, -, w1, L1, h4, h5⟩ := hx e' h3
        exact ⟨w1, fun _ => ⟨h4, L1, h5⟩⟩
      · exact ⟨w, fun h => absurd h h3⟩
    exact ⟨fun e' => Classical.choose (ha e'), fun e' h3 => Classical.choose_spec (ha e') h3⟩
  obtain ⟨ws, hws⟩ := hch
  obtain ⟨r2, e1, p1, p2, p3, p4⟩ := s_rclose (m := m) (r := r) (h := h) (f := f) (ngs := gs) (ws := ws) (Ds := fun e' => pDD s0 n (ws e')) hm hr.1 hr.2.2.1 h0 hc (fun e' he' => (hx e' he').1) (fun e' he' => by
    obtain ⟨-, L1, h5⟩ := hws e' he'
    exact rPre_of hr h5 (hx e' he').2.1 hc)
  have hwe : ws e = w := (hws e he).1 rfl
  have hpe := p1 e he
  rw [hwe] at hpe
  have hr2 : RelR s0 (rS r2) n := hr.fr fun k h1 h2 => p3 k (by omega) h2
  have z2 : rS r2 2 = rS r 2 := p3 2 (by omega) (by omega)
  have hE2 : RelE (pW3 w (pDD s0 n w) c f0 (gs e)) (rS r2) e (c + 1) (gs e) (fun i => if i = c then pL5 w (pDD s0 n w) c f (gs e) else LS i) := by
    rw [pW3_f f0 f]
    have h9 := RelE_close (sq := 0) hr hE hc hpe
    unfold wClo at h9
    exact h9.sl
  refine ⟨r2, pL5 w (pDD s0 n w) c f (gs e), e1, ⟨hr2, p2, hE2, nI 0, fun e' he' => ?_⟩, ?_, pL5_pos, p4⟩
  · have hpe' := p1 e' he'
    refine ⟨(hx e' he').1, flEq_close hpe' z2, ?_⟩
    by_cases h3 : e' = e
    · rw [h3]
      exact ⟨_, _, fun _ => rfl, hE2⟩
    · obtain ⟨-, L1, h5⟩ := hws e' he'
      exact ⟨_, _, fun h => absurd h h3, RelE_close (sq := 0) hr h5 hc hpe'⟩
  · rw [pPd_pL5]; exact pL4_f f f0
theorem s_rprojL {LS : Nat → List Ln} (hm : 100 ≤ m) (he : e < 3) (w0 : tyW) : ∀ (i j : Nat) (r : Rst) (LS : Nat → List Ln) (v2 v3 : Value), c + j + i = 12 → prI r (gB_ru s) n (c + j) gs e (pTrW s n (gs e) c w0 j) LS → (∀ mo, mo < c + j → 0 < (LS mo).length) → sPd LS (c + j) = sPd LS c + pTrS s n (gs e) c w0 j → ∃ r2 LS2 v2', rn 273 15 [.ref m, .int (nI e), v2, v3] [] (putM m r h) = rn 273 32 [.ref m, .int (nI e), v2', v3] [] (putM m r2 h) ∧ prI r2 (gB_ru s) n 12 gs e (pTrW s n (gs e) c w0 (12 - c)) LS2 ∧ (∀ mo, mo < 12 → 0 < (LS2 mo).length) ∧ sPd LS2 12 = sPd LS c + pTrS s n (gs e) c w0 (12 - c) ∧ r2 = wS r (rS r2) := by
  intro i
  induction i with
  | zero =>
    intro j r LS v2 v3 hj hI hp hs
    have h0 := hI.2.1
    have hj2 : j = 12 - c := by omega
    have hj3 : c + (12 - c) = 12 := by omega
    subst hj2
    rw [hj3] at hI hp hs h0
    refine ⟨r, LS, v2, ?_, hI, hp, hs, rfl⟩
    rw [zl_273_15]
    simp (implicitDefEqProofs := false) (disch := omega) only [zr_273_16, zr_273_19, zr_273_21, zr_273_24, zr_273_25, zr_273_28, zr_273_29, true_or, or_true, true_and, and_true, if_true, if_false, ldA_ref, ldA_null, nl_int, nl_ref, nl_fl, nl_null, c1_int, c1_ref, c1_null, Nat.zero_add, Nat.zero_mul, Nat.one_mul, nI_add, nI_leI, nI_ltI, nI_eq, nI_mul, kd_M, s_rcm h0, Nat.le_refl, zcall_some, zpush_some, zpush_none, zsum_ref, zsum_int, zsum_long, zsum_nil, zsum_null, Nat.reduceAdd, Nat.reduceLeDiff, if_true]
  | succ i ih =>
    intro j r LS v2 v3 hj hI hp hs
    have h0 := hI.2.1
    obtain ⟨r2, l, e1, hI2, hl, hl0, hw⟩ := prI_step (h := h) hm he (show c + j < 12 by omega) hI (gB_fg s)
    have hLc : sPd (fun i => if i = c + j then l else LS i) c = sPd LS c ∧ sPd (fun i => if i = c + j then l else LS i) (c + j) = sPd LS (c + j) := by
      have z : ∀ k, k ≤ c + j → sPd (fun i => if i = c + j then l else LS i) k = sPd LS k := by
        intro k
        induction k with
        | zero => intro _; rfl
        | succ k ihk =>
          intro hk
          rw [sPd, sPd, ihk (by omega), if_neg (by omega)]
      exact ⟨z c (by omega), z (c + j) (Nat.le_refl _)⟩
    have hp2 : ∀ mo, mo < c + (j + 1) → 0 < ((fun i => if i = c + j then l else LS i) mo).length := fun mo hmo => by
      dsimp only
      by_cases h3 : mo = c + j
      · rw [if_pos h3]; exact hl0
      · rw [if_neg h3]; exact hp mo (by omega)
    have hs2 : sPd (fun i => if i = c + j then l else LS i) (c + (j + 1)) = sPd (fun i => if i = c + j then l else LS i) c + pTrS s n (gs e) c w0 (j + 1) := by
      rw [← Nat.add_assoc, sPd, hLc.1, hLc.2, pTrS, hs, if_pos rfl, hl, Int64.add_assoc]
    obtain ⟨r3, LS3, v2', e3, hI3, hp3, hs3, hw3⟩ := ih (j + 1) r2 (fun i => if i = c + j then l else LS i) (.int (nI (c + j))) v3 (by omega) hI2 hp2 hs2
    rw [hLc.1] at hs3
    refine ⟨r3, LS3, v2', ?_, hI3, hp3, hs3, wS_tr hw3 hw⟩
    rw [← e3, zl_273_15]
    simp (implicitDefEqProofs := false) (disch := omega) only [zr_273_16, zr_273_19, zr_273_21, zr_273_24, zr_273_25, zr_273_28, zr_273_29, true_or, or_true, true_and, and_true, if_true, if_false, ldA_ref, ldA_null, nl_int, nl_ref, nl_fl, nl_null, c1_int, c1_ref, c1_null, Nat.zero_add, Nat.zero_mul, Nat.one_mul, nI_add, nI_leI, nI_ltI, nI_eq, nI_mul, kd_M, s_rcm h0, show ¬ 12 ≤ c + j from by omega, e1, zcall_some, zpush_some, zpush_none, zsum_ref, zsum_int, zsum_long, zsum_nil, zsum_null, Nat.reduceAdd, Nat.reduceLeDiff, if_true]
theorem s_rproj {LS : Nat → Nat → List Ln} (hm : 100 ≤ m) (hb : RelB s (rS r) c n gs LS K) (he : e < 3) (tw : tyW) : ∃ r', ev 273 [.ref m, .int (nI e)] (putM m r h) = some (some (.long (sPd (LS e) c + pTrS s n (gs e) c (pCpW tw (gB_wk s e)) (12 - c))), putM m r' h) ∧ rAg r' r := by
  have hc := hb.1.1
  have hE := good.rE hb he
  have e1 := s_rthink (r := r) (h := h) hm
  generalize hr1 : wKp r (va_cpy (rS r) (rKp r) 0 0 8271) = r1 at e1
  have s1 : rS r1 = rS r := by rw [← hr1]; rfl
  have hw0 : RelE (pCpW tw (gB_wk s e)) (rS r1) e c (gs e) (LS e) := by rw [s1]; exact hE.ag hc (agW_cp _ _)
  have hI : prI r1 (gB_ru s) n (c + 0) gs e (pTrW s n (gs e) c (pCpW tw (gB_wk s e)) 0) (LS e) := ⟨by rw [s1]; exact hb.2.1, by rw [s1]; exact hb.1.2.2.1, hw0, gB_fg s, fun e' he' => ⟨(good.rE hb he').2.2.2.2.2.1.1, by rw [s1]; exact (hb.2.2.1 e' he').2.1, by
    by_cases h3 : e' = e
    · rw [h3]; exact ⟨_, _, fun _ => rfl, hw0⟩
    · exact ⟨_, _, fun h => absurd h h3, by rw [s1]; exact good.rE hb he'⟩⟩⟩
  obtain ⟨r2, LS2, v2', e2, hI2, hp2, hs2, hw2⟩ := s_rprojL (h := h) (s := s) (LS := LS e) hm he (pCpW tw (gB_wk s e)) (12 - c) 0 r1 (LS e) (.float 0) (.float 0) (by omega) hI (fun mo hmo => okSl_pos (hE.2.2.2.2.2.2.1 mo hmo).2) (by rw [pTrS, Int64.add_zero]; rfl)
  have e3 := s_rpays (m := m) (r := r2) (h := h) (LS := LS2) he (Nat.le_refl 12) hI2.2.1 (fun mo hmo => ⟨(hI2.2.2.1.2.2.2.2.2.2.1 mo hmo).1, hp2 mo hmo⟩)
  have e5 := s_rforget (r := r2) (h := h) hm
  have k : ∀ {α : Type} (f : Rst → α), (∀ (r : Rst) v, f (wS r v) = f r) → f r2 = f r1 := fun f hf => by
    rw [hw2]; exact hf r1 _
  refine ⟨_, ?_, thinkA (r := r) (r3 := r2) ((k rKp fun _ _ => rfl).trans (by rw [← hr1]; rfl)) ⟨(k rSv fun _ _ => rfl).trans (by rw [← hr1]; rfl), (k rPa fun _ _ => rfl).trans (by rw [← hr1]; rfl), (k rIs fun _ _ => rfl).trans (by rw [← hr1]; rfl), (k rPm fun _ _ => rfl).trans (by rw [← hr1]; rfl), (k rQ fun _ _ => rfl).trans (by rw [← hr1]; rfl), (k rLn fun _ _ => rfl).trans (by rw [← hr1]; rfl), (k rTx fun _ _ => rfl).trans (by rw [← hr1]; rfl)⟩⟩
  rw [hs2] at e3
  simp (implicitDefEqProofs := false) (disch := omega) only [ze_273, zr_273_0, zr_273_1, zr_273_4, zr_273_7, zr_273_10, zr_273_11, zr_273_12, zr_273_16, zr_273_19, zr_273_21, zr_273_24, zr_273_25, zr_273_28, zr_273_29, zr_273_32, zr_273_33, zr_273_34, zr_273_37, zr_273_38, zr_273_39, zr_273_42, zr_273_43, true_or, or_true, true_and, and_true, if_true, if_false, ldA_ref, ldA_null, nl_int, nl_ref, nl_fl, nl_null, c1_int, c1_ref, c1_null, Nat.zero_add, Nat.zero_mul, Nat.one_mul, nI_add, nI_leI, nI_ltI, nI_eq, nI_mul, kd_M, s_isPerson, bI_0, bI_ok, show ¬ ¬ (0 ≤ e ∧ e ≤ 2) from by omega, e1, zcall_some, zpush_some, zpush_none, zsum_ref, zsum_int, zsum_long, zsum_nil, zsum_null, Nat.reduceAdd, Nat.reduceLeDiff, if_true]
  rw [e2]
  simp (implicitDefEqProofs := false) (disch := omega) only [zr_273_32, zr_273_33, zr_273_34, zr_273_37, zr_273_38, zr_273_39, zr_273_42, zr_273_43, true_or, or_true, true_and, and_true, if_true, if_false, ldA_ref, ldA_null, nl_int, nl_ref, nl_fl, nl_null, c1_int, c1_ref, c1_null, Nat.zero_add, Nat.zero_mul, Nat.one_mul, nI_add, nI_leI, nI_ltI, nI_eq, nI_mul, kd_M, e3, e5, zcall_some, zpush_some, zpush_none, zsum_ref, zsum_int, zsum_long, zsum_nil, zsum_null, Nat.reduceAdd, Nat.reduceLeDiff, if_true]
theorem pSK_7 {l : List Ln} (h : okSl l) : pSK l (nI 7) l.length = pPd l := by
  obtain ⟨⟨l0, x, h1, h2⟩, -⟩ := h
  subst h1
  have z : ∀ k, k ≤ l0.length → pSK (l0 ++ [(nI 7, nI 0, nI 0, x)]) (nI 7) k = 0 := by
    intro k
    induction k with
    | zero => intro _; rfl
    | succ k ih =>
      intro hk
      have e1 : lk (l0 ++ [(nI 7, nI 0, nI 0, x)]) k = lk l0 k := by
        unfold lk
        rw [List.getD_eq_getElem?_getD, List.getD_eq_getElem?_getD, List.getElem?_append_left (by omega)]
      rw [pSK, e1, if_neg (h2 _ (lk_mem (by omega))), ih (by omega)]
  have e2 : lk (l0 ++ [(nI 7, nI 0, nI 0, x)]) l0.length = (nI 7, nI 0, nI 0, x) := by
    unfold lk
    rw [List.getD_eq_getElem?_getD, List.getElem?_append_right (Nat.le_refl _), Nat.sub_self]; rfl
  rw [pPd_app, List.length_append, show [(nI 7, nI 0, nI 0, x)].length = 1 from rfl, pSK, e2, if_pos rfl, z _ (Nat.le_refl _), Int64.zero_add]
theorem pSM_7 {LS : Nat → List Ln} {c : Nat} (h : ∀ m, m < c → okSl (LS m)) : ∀ k, k ≤ c → pSM LS c (nI 7) k = sPd LS k
  | 0, _ => rfl
  | k + 1, hk => by
    rw [pSM, if_pos (by omega), sPd, pSM_7 h k (by omega), pSK_7 (h k (by omega))]
end
section
theorem q_projected (x : Int32) : qryK (fun h => ev 158 [.ref 100, .int x] h) (fun h => ev 273 [.ref 463, .int x] h) := by
  intro H s q K ⟨⟨⟨sv, hx⟩, hB, hg⟩, ⟨du, hD⟩, tw, hT⟩
  have hsl := hg.bSl
  obtain ⟨c, n, gs, LS, hb, hs⟩ := hg
  dsimp only
  have hc := hb.1.1
  obtain ⟨hn, hbn, h7, -⟩ := id hb.2.1
  by_cases h0 : nI 0 ≤ x ∧ x ≤ nI 2
  · obtain ⟨e, he, rfl⟩ := in_nI (by omega) h0.1 h0.2
    have hE := good.rE hb (show e < 3 by omega)
    have hW := B_W hB (show e < 3 by omega)
    have hg3 := hE.2.2.2.2.2.1
    have hok : ∀ m, m < c → okSl (LS e m) := fun m hm => (hE.2.2.2.2.2.2.1 m hm).2
    have hS := slp_of (hs e (by omega)) hok
    have hT7 := s_totalOf hW hS (show 7 < 9 by omega)
    have e7 : pTot (LS e) c 7 = sPd (LS e) c := by
      unfold pTot
      rw [if_pos (Or.inr rfl), pSM_c (LS e) c _ 12 hc, pSM_7 hok c (Nat.le_refl _)]
    rw [e7] at hT7
    obtain ⟨H1, w1, e1, f1, t1⟩ := s_toCome hT hB (by omega) (by omega) (by omega) (show e < 3 by omega) hsl hc hb.1.2.1 hn hbn hg3.1 hg3.2.1
    refine ⟨sPd (LS e) c + pTrS s n (gs e) c (pCpW tw (gB_wk s e)) (12 - c), H1, ?_, f1.wd (by omega) (by omega), ⟨du, f1.isB (by omega) hD⟩, ⟨w1, t1⟩, fun r h hq => ?_⟩
    · simp (implicitDefEqProofs := false) (disch := omega) only [ze_158, zr_158_0, zr_158_1, zr_158_4, zr_158_7, zr_158_10, zr_158_11, zr_158_12, zr_158_15, zr_158_18, zr_158_19, zr_158_20, zr_158_22, zr_158_25, zr_158_26, zr_158_29, zr_158_30, zr_158_33, zr_158_34, zr_158_37, zr_158_38, true_or, or_true, true_and, and_true, if_true, if_false, ldA_ref, ldA_null, nl_int, nl_ref, nl_fl, nl_null, c1_int, c1_ref, c1_null, Nat.zero_add, Nat.zero_mul, Nat.one_mul, nI_add, nI_leI, nI_ltI, nI_eq, nI_mul, s_isEmployee, bI_0, show ¬ ¬ (0 ≤ e ∧ e ≤ 2) from by omega, x_at hx, rdB_0 (hB), rdB_1 (hB), rdB_2 (hB), rdB_3 (hB), rdB_4 (hB), rdB_5 (hB), rdB_6 (hB), rdB_7 (hB), rdW_0 hW, rf_some, hT7, (tr_at hT).1, e1, zcall_some, zpush_some, zpush_none, zsum_ref, zsum_int, zsum_long, zsum_nil, zsum_null, Nat.reduceAdd, Nat.reduceLeDiff, if_true]
    · exact s_rproj (by omega) (by rw [hq]; exact hb) (show e < 3 by omega) tw
  · refine ⟨-1, H, ?_, frm.rf H _ _, ⟨du, hD⟩, ⟨tw, hT⟩, fun r h hq => ⟨r, ?_, rAg.rf r⟩⟩
    · simp (implicitDefEqProofs := false) (disch := omega) only [ze_158, zr_158_0, zr_158_1, zr_158_4, zr_158_7, zr_158_10, zr_158_11, zr_158_12, zr_158_15, zr_158_18, zr_158_19, zr_158_20, zr_158_22, zr_158_25, zr_158_26, zr_158_29, zr_158_30, zr_158_33, zr_158_34, zr_158_37, zr_158_38, true_or, or_true, true_and, and_true, if_true, if_false, ldA_ref, ldA_null, nl_int, nl_ref, nl_fl, nl_null, c1_int, c1_ref, c1_null, s_isEmployee, bI_0, not_false_eq_true, h0, zcall_some, zpush_some, zpush_none, zsum_ref, zsum_int, zsum_long, zsum_nil, zsum_null, Nat.reduceAdd, Nat.reduceLeDiff, if_true]
    · simp (implicitDefEqProofs := false) (disch := omega) only [ze_273, zr_273_0, zr_273_1, zr_273_4, zr_273_7, zr_273_10, zr_273_11, zr_273_12, zr_273_16, zr_273_19, zr_273_21, zr_273_24, zr_273_25, zr_273_28, zr_273_29, zr_273_32, zr_273_33, zr_273_34, zr_273_37, zr_273_38, zr_273_39, zr_273_42, zr_273_43, true_or, or_true, true_and, and_true, if_true, if_false, ldA_ref, ldA_null, nl_int, nl_ref, nl_fl, nl_null, c1_int, c1_ref, c1_null, kd_M, s_isPerson, bI_0, bI_ok, not_false_eq_true, h0, zcall_some, zpush_some, zpush_none, zsum_ref, zsum_int, zsum_long, zsum_nil, zsum_null, Nat.reduceAdd, Nat.reduceLeDiff, if_true]
end
