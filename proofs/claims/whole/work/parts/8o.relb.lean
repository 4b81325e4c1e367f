/-! THE RELATION of the books and the reference's numbers -/
section
def ruOK (q : Nat → Int64) (e c : Nat) : Prop := ∀ m, m < c → 0 ≤ (q (rX e (122 + m))).toInt ∧ (q (rX e (122 + m))).toInt ≤ (q 2).toInt
def exOK (w : tyW) (g : Nat) : Prop := 0 ≤ (gW_fl w).toInt ∧ ∀ p, p < g → 0 ≤ (gW_gk w p).toInt
def RelB (s : tyB) (q : Nat → Int64) (c n : Nat) (gs : Nat → Nat) (LS : Nat → Nat → List Ln) (K : Nat) : Prop :=
  (c ≤ 12 ∧ gB_cl s = nI c ∧ q 0 = (nI c).toInt64 ∧ gB_yr s = (q 1).toInt32 ∧ (gB_fg s = nI 0 ∨ gB_fg s = nI 1)) ∧ RelR (gB_ru s) q n ∧ (∀ e, e < 3 → RelE (gB_wk s e) q e c (gs e) (LS e) ∧ flEq (gB_fg s) q e c ∧ ruOK q e c ∧ exOK (gB_wk s e) (gs e)) ∧ (0 ≤ (q 2).toInt ∧ (q 2).toInt ≤ K) ∧ 0 ≤ (gB_yr s).toInt ∧ (gB_yr s).toInt ≤ K
def slB (H : zH) (w : tyW) (c : Nat) (LS : Nat → List Ln) : Prop := (∀ m, m < c → ∃ p d, gW_sl w m = some p ∧ isB H p 3 (cS p d) ∧ isL d (LS m) ∧ 472 ≤ p ∧ p + 3 ≤ 100 + H.1) ∧ ∀ m, m < 12 → c ≤ m → gW_sl w m = none
def good (H : zH) (s : tyB) (q : Nat → Int64) (K : Nat) : Prop := ∃ c n gs LS, RelB s q c n gs LS K ∧ ∀ e, e < 3 → slB H (gB_wk s e) c (LS e)
variable {H H' : zH} {s t : tyB} {q q' : Nat → Int64} {c n e g K : Nat} {gs : Nat → Nat} {w w' : tyW} {LS : Nat → List Ln} {f : Int32}
theorem qLines.fr {mo : Nat} {l : List Ln} (hmo : mo < 12) (h : qLines q e mo l) (hq : ∀ k, 147 ≤ k → k < 2751 → q' (rX e k) = q (rX e k)) : qLines q' e mo l := ⟨(hq _ (by omega) (by omega)).trans h.1, h.2.1, fun i x hx => by
  have hl : i < l.length := (List.getElem?_eq_some_iff.mp hx).1
  have h2 := h.2.1
  obtain ⟨a, b, c, d⟩ := h.2.2 i x hx
  have z : ∀ j, j < 4 → q' (rLp e mo i + j) = q (rLp e mo i + j) := fun j hj => by
    have := hq (159 + 4 * (54 * mo + i) + j) (by omega) (by omega)
    rw [show rX e (159 + 4 * (54 * mo + i) + j) = rLp e mo i + j from by unfold rX rLp; unfold rX; omega] at this
    exact this
  exact ⟨(z 0 (by omega)).trans a, (z 1 (by omega)).trans b, (z 2 (by omega)).trans c, (z 3 (by omega)).trans d⟩⟩
theorem RelR.fr {s : tyR} (h : RelR s q n) (hq : ∀ k, 3 ≤ k → k < 18 → q' k = q k) : RelR s q' n := by
  obtain ⟨h1, h2, h3, h4, h5, h6⟩ := h
  refine ⟨h1, h2, (hq 7 (by omega) (by omega)).trans h3, fun k hk => ?_, fun k hk => ?_, h6⟩
  · rw [hq _ (by omega) (by omega), hq _ (by omega) (by omega)]; exact h4 k hk
  · rw [hq _ (by omega) (by omega), hq _ (by omega) (by omega)]; exact h5 k hk
theorem seEq.fr (hc : c ≤ 12) (h : seEq w q e c) (hq : ∀ k, 38 ≤ k → k < 122 → q' (rX e k) = q (rX e k)) : seEq w q' e c := fun m hm => by
  obtain ⟨h1, h2, h3, h4, h5⟩ := h m hm
  refine ⟨fun i hi => ?_, h2, ?_, ?_, ?_⟩
  · rw [hq _ (by omega) (by omega)]; exact h1 i hi
  · rw [hq _ (by omega) (by omega)]; exact h3
  · rw [hq _ (by omega) (by omega)]; exact h4
  · rw [hq _ (by omega) (by omega)]; exact h5
theorem gaEq.fr (h : gaEq w q e g) (hq : ∀ k, 134 ≤ k → k < 147 → q' (rX e k) = q (rX e k)) : gaEq w q' e g := by
  obtain ⟨h1, h2, h3, h4⟩ := h
  refine ⟨h1, h2, (hq _ (by omega) (by omega)).trans h3, fun p hp => ?_⟩
  rw [hq _ (by omega) (by omega), hq _ (by omega) (by omega), hq _ (by omega) (by omega), hq _ (by omega) (by omega)]
  exact h4 p hp
theorem enEq.fr (h : enEq w q e) (hq : ∀ k, 2 ≤ k → k < 38 → q' (rX e k) = q (rX e k)) : enEq w q' e := fun k hk => (hq _ (by omega) (by omega)).trans (h k hk)
theorem liEq.fr (hc : c ≤ 12) (h : (∀ m, m < c → qLines q e m (LS m) ∧ okSl (LS m)) ∧ ∀ m, c ≤ m → m < 12 → q (rX e (147 + m)) = 0) (hq : ∀ k, 147 ≤ k → k < 2751 → q' (rX e k) = q (rX e k)) : (∀ m, m < c → qLines q' e m (LS m) ∧ okSl (LS m)) ∧ ∀ m, c ≤ m → m < 12 → q' (rX e (147 + m)) = 0 := ⟨fun m hm => ⟨(h.1 m hm).1.fr (by omega) hq, (h.1 m hm).2⟩, fun m h1 h2 => (hq _ (by omega) (by omega)).trans (h.2 m h1 h2)⟩
theorem RelE.fr (hc : c ≤ 12) (h : RelE w q e c g LS) (hq : ∀ k, k < 2751 → q' (rX e k) = q (rX e k)) : RelE w q' e c g LS := by
  obtain ⟨h1, h2, h3, h4, h5, h6, h7⟩ := h
  exact ⟨h1.fr fun k _ _ => hq k (by omega), h2, h3.fr hc fun k _ _ => hq k (by omega), (hq _ (by omega)).trans h4, (hq _ (by omega)).trans h5, h6.fr fun k _ _ => hq k (by omega), liEq.fr hc h7 fun k _ _ => hq k (by omega)⟩
theorem flEq.fr (hc : c ≤ 12) (h : flEq f q e c) (h2 : q' 2 = q 2) (hq : ∀ k, 122 ≤ k → k < 134 → q' (rX e k) = q (rX e k)) : flEq f q' e c := fun m hm => by
  rw [h2, hq _ (by omega) (by omega)]; exact h m hm
theorem ruOK.fr (hc : c ≤ 12) (h : ruOK q e c) (h2 : q' 2 = q 2) (hq : ∀ k, 122 ≤ k → k < 134 → q' (rX e k) = q (rX e k)) : ruOK q' e c := fun m hm => by
  rw [h2, hq _ (by omega) (by omega)]; exact h m hm
theorem RelB.ag {LS : Nat → Nat → List Ln} (h : RelB s q c n gs LS K) (hq : ∀ k, k < 8271 → q' k = q k) : RelB s q' c n gs LS K := by
  obtain ⟨⟨h1, h2, h3, h4, h5⟩, h6, h7, h8, h9⟩ := h
  refine ⟨⟨h1, h2, (hq _ (by omega)).trans h3, by rw [hq _ (by omega)]; exact h4, h5⟩, h6.fr fun k _ _ => hq k (by omega), fun e he => ?_, by rw [hq _ (by omega)]; exact h8, h9⟩
  obtain ⟨a, b, d, x⟩ := h7 e he
  have z : ∀ k, k < 2751 → q' (rX e k) = q (rX e k) := fun k hk => hq _ (by unfold rX; omega)
  exact ⟨a.fr h1 z, b.fr h1 (hq _ (by omega)) fun k _ _ => z k (by omega), d.fr h1 (hq _ (by omega)) fun k _ _ => z k (by omega), x⟩
theorem good.ag (h : good H s q K) (hq : ∀ k, k < 8271 → q' k = q k) : good H s q' K := by
  obtain ⟨c, n, gs, LS, h1, h2⟩ := h
  exact ⟨c, n, gs, LS, h1.ag hq, h2⟩
theorem good.up {K2 : Nat} (h : good H s q K) (hk : K ≤ K2) : good H s q K2 := by
  obtain ⟨c, n, gs, LS, ⟨h1, h2, h3, h4, h5⟩, h6⟩ := h
  exact ⟨c, n, gs, LS, ⟨h1, h2, h3, ⟨h4.1, by omega⟩, h5.1, by omega⟩, h6⟩
def frG (H' H : zH) : Prop := H.1 ≤ H'.1 ∧ ∀ p, 472 ≤ p → p < 100 + H.1 → zkd H p ≠ 1003 → H'.2.2 p = H.2.2 p
theorem frG.rf (H : zH) : frG H H := ⟨Nat.le_refl _, fun _ _ _ _ => rfl⟩
theorem frG.tr {H2 H1 : zH} (x : frG H2 H1) (y : frG H1 H) : frG H2 H := ⟨by have := x.1; have := y.1; omega, fun p h1 h2 h3 => by
  have := y.2 p h1 h2 h3
  refine (x.2 p h1 (by have := y.1; omega) ?_).trans this
  rw [kd_kc, this, ← kd_kc]; exact h3⟩
theorem kc_S {a : Nat} {d : tyS} : ∀ k, k < 3 → zkc (cS a d k) ≠ 1003
  | 0, _ => (by decide : (7 : Nat) ≠ 1003)
  | 1, _ => (by decide : (1000 + 0 : Nat) ≠ 1003)
  | 2, _ => (by decide : (1000 + 1 : Nat) ≠ 1003)
theorem slB.fr (f : frG H' H) (h : slB H w c LS) : slB H' w c LS := ⟨fun m hm => by
  obtain ⟨p, d, h1, h2, h3, h4, h5⟩ := h.1 m hm
  refine ⟨p, d, h1, fun k hk => ?_, h3, h4, by have := f.1; omega⟩
  rw [f.2 _ (by omega) (by omega) (by rw [kd_kc, h2 k hk]; exact kc_S k hk)]; exact h2 k hk, h.2⟩
theorem good.fr (f : frG H' H) (h : good H s q K) : good H' s q K := by
  obtain ⟨c, n, gs, LS, h1, h2⟩ := h
  exact ⟨c, n, gs, LS, h1, fun e he => (h2 e he).fr f⟩
theorem good.bSl (h : good H s q K) : bSl H s := by
  obtain ⟨c, n, gs, LS, h1, h2⟩ := h
  intro e m p he hm hp
  by_cases hc : m < c
  · obtain ⟨p2, d, h3, h4, h5, h6, h7⟩ := (h2 e he).1 m hc
    rw [h3] at hp
    rw [← Option.some.inj hp]
    exact kd_c (h4 0 (by omega))
  · rw [(h2 e he).2 m hm (by omega)] at hp; cases hp
theorem good.fg (h : good H s q K) : gB_fg s = nI 0 ∨ gB_fg s = nI 1 := by
  obtain ⟨c, n, gs, LS, h1, h2⟩ := h
  exact h1.1.2.2.2.2
end
