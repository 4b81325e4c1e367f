/-! A CALL that changes the books, on both sides -/
section
variable {H H' H1 H2 : zH} {s s' sb : tyB} {hs : Nat → tyB} {nx ct cap K K2 n i L : Nat} {sv : Int32} {T : tyT} {t : List Nat} {r : Rst} {sg : Nat → Nat} {q' : Nat → Int64} {xs : Nat → Int32}
/-- what a method of the class does, if it is begin, a change of the books, finish -/
def mutX (X chg : zH → Option (Option Value × zH)) : Prop := ∀ (H H1 H2 R : zH) (sv v : Int32), H.2.2 100 = xC sv → H1.2.2 100 = xC sv → H2.2.2 100 = xC sv → zkd H 138 = 5 → zkd H1 101 = 1 → ev 17 [.ref 138, .ref 101] H = some (none, H1) → chg H1 = some (some (.int v), H2) → ev 26 [.ref 100, .int v] H2 = some (some (.int v), R) → X H = some (some (.int v), R)
/-- between both calls: the script stands, and the reference -/
def mid (L : Nat) (xs : Nat → Int32) (H : zH) : Prop := H.2.2 0 = zSt0 L xs 0 ∧ zkd H 463 = 12
theorem mid.of (hz : stz L xs H) (hM : isB H 463 9 (cellM 463 r)) : mid L xs H := ⟨hz 0 (by omega), kd_c (hM 0 (by omega))⟩
def stepI (L : Nat) (xs : Nat → Int32) (i : Nat) (X M : zH → Option (Option Value × zH)) : Prop := ∀ H, St L xs H i → ∃ v H1 H2, X H = some (some (.int v), H1) ∧ M H1 = some (some (.int v), H2) ∧ mid L xs H1 ∧ St L xs H2 (i + 1)
def stepJ (L : Nat) (xs : Nat → Int32) (i : Nat) (X M : zH → Option (Option Value × zH)) : Prop := ∀ H, St L xs H i → ∃ v H1 H2, X H = some (some (.long v), H1) ∧ M H1 = some (some (.long v), H2) ∧ mid L xs H1 ∧ St L xs H2 (i + 1)
theorem mut_step {X chg M : zH → Option (Option Value × zH)} (hi : i < 512) (hX : mutX X chg) (hC : ∀ H s q K, preC H s q K → CmdOK H q K (chg H) M) : stepI L xs i X M := by
  intro H hSt
  obtain ⟨s, hs, nx, ct, sb, sv, T, cap, t, r, sg, n, hc, hM, hz, ⟨z1, z2, z3, z4⟩, hr⟩ := hSt
  have hcl := hc
  obtain ⟨a1, a2, a3, a4, a5, a6, a7, a8⟩ := hc
  obtain ⟨h1, ⟨h2, h3, h4⟩, h5⟩ := id hr
  have e1 := s_hBegin (u := 138) (b := 101) a3 a2 (by omega) (by omega) (by omega) h2 h1.bSl h1.fg
  generalize hH1 : blk (138 + 2 + 37 * nx) 37 (cB (138 + 2 + 37 * nx) (pCpB (hs nx) s)) H = H1 at e1
  have f1 : frM H1 H := by rw [← hH1]; exact frM.B (by omega) (by omega)
  have b1 : isB H1 101 37 (cB 101 s) := by rw [← hH1]; exact isB_skip (by omega) a2
  have d1 : ∃ du, isB H1 441 2 (cD 441 du) := by
    obtain ⟨du, hd⟩ := a6
    exact ⟨du, hd.to fun p x y => by rw [← hH1]; exact blk_out (by omega)⟩
  have g1 : hiB H1 138 (fun i => if i = nx then pCpB (hs nx) s else hs i) nx ct := by rw [← hH1]; exact hiB_put a3 h2 _
  have sz1 : H1.1 = H.1 ∧ H1.2.1 = H.2.1 := by rw [← hH1]; exact ⟨rfl, rfl⟩
  have hp : preC H1 s (rS r) (12 * i) := ⟨b1, d1, h1.fr f1.G, by omega, by omega⟩
  obtain ⟨v, H2, s', e2, st, hbad, href⟩ := hC H1 s (rS r) (12 * i) hp
  have f2 := (frM.S st).tr f1
  have x1 : H1.2.2 100 = xC sv := (f1.2 _ (by omega) (by omega) (by omega) (by omega)).trans a1
  have x2 : H2.2.2 100 = xC sv := (f2.2 _ (by omega) (by omega) (by omega) (by omega)).trans a1
  have g2 : hiB H2 138 (fun i => if i = nx then pCpB (hs nx) s else hs i) nx ct := g1.to fun p x y => st.2.2.2.2.2 p (by omega) (by omega) (by omega)
  have e3 := s_finish (v := v) x2 g2 h2 h3
  have e4 := hX H H1 H2 _ sv v a1 x1 x2 (hi_at a3).1 (rdB_0 b1) e1 e2 e3
  have m2 : isB H2 463 9 (cellM 463 r) := hM.to fun p x y => (st.2.2.2.2.2 p (by omega) (by omega) (by omega)).trans (by rw [← hH1]; exact blk_out (by omega))
  by_cases hv : nI 0 ≤ v
  · rw [if_pos hv] at e4
    have m3 : isB (hiO H2 138 ((nx + 1) % 7) (min (ct + 1) 6)) 463 9 (cellM 463 r) := m2.to fun p x y => hiO_o p (by omega)
    obtain ⟨q', e5, hgo⟩ := href r ct (hiO H2 138 ((nx + 1) % 7) (min (ct + 1) 6)) rfl h4 h3
    rw [putM_id m3, if_pos hv] at e5
    have f3 : frM (putM 463 (wS (rChg r ct) q') (hiO H2 138 ((nx + 1) % 7) (min (ct + 1) 6))) H2 := (frM.M _ _).tr (frM.O _ _ _)
    have f4 := f3.tr f2
    refine ⟨v, _, _, e4, e5, ⟨(hiO_o _ (by omega)).trans ((f2.2 0 (by omega) (by omega) (by omega) (by omega)).trans (hz 0 (by omega))), kd_c (m3 0 (by omega))⟩, s', _, _, _, sb, sv, T, cap, t, _, sg, n, hcl.mk hM (by omega) f4 (st.1.to fun p x y => ?_) ((hiB_set g2 _ _).to fun p x y => ?_) ?_, putM_isB _ _ _, fun a ha => (f4.2 a (by omega) (by omega) (by omega) (by omega)).trans (hz a ha), ?_, (hr.fr f4.G (Nat.le_refl _)).mu (by omega) (((hgo hv).fr f3.G).up (by omega))⟩
    · exact (putM_out _ _ (by omega)).trans (hiO_o p (by omega))
    · exact putM_out _ _ (by omega)
    · obtain ⟨du, hd⟩ := st.2.1
      exact ⟨du, hd.to fun p x y => (putM_out _ _ (by omega)).trans (hiO_o p (by omega))⟩
    · have y1 : (putM 463 (wS (rChg r ct) q') (hiO H2 138 ((nx + 1) % 7) (min (ct + 1) 6))).1 = H2.1 := rfl
      have y2 : (putM 463 (wS (rChg r ct) q') (hiO H2 138 ((nx + 1) % 7) (min (ct + 1) 6))).2.1 = H2.2.1 := rfl
      have y3 := st.2.2.1
      have y4 := st.2.2.2.1
      have y5 := st.2.2.2.2.1
      rw [y1, y2]; omega
  · rw [if_neg hv] at e4
    obtain ⟨q', e5, -⟩ := href r ct H2 rfl h4 h3
    rw [putM_id m2, if_neg hv, putM_id m2] at e5
    refine ⟨v, _, _, e4, e5, ⟨(f2.2 0 (by omega) (by omega) (by omega) (by omega)).trans (hz 0 (by omega)), kd_c (m2 0 (by omega))⟩, s', _, _, _, sb, sv, T, cap, t, r, sg, n, hcl.mk hM (by omega) f2 st.1 g2 st.2.1, m2, fun a ha => (f2.2 a (by omega) (by omega) (by omega) (by omega)).trans (hz a ha), ?_, ?_⟩
    · have y3 := st.2.2.1
      have y4 := st.2.2.2.1
      have y5 := st.2.2.2.2.1
      omega
    · obtain ⟨k1, k2, k3, k4, k5⟩ := hr.fr (K2 := 12 * (i + 1)) f2.G (by omega)
      refine ⟨(hbad hv).up (by omega), k2, fun j hj => ?_, k4, k5⟩
      dsimp only
      rw [if_neg (by omega)]
      exact k3 j hj
end
