/-! THE RELATION: an employee's data on both sides -/
theorem i64_sub0 (a b : Int32) : (a.toInt64 - b.toInt64 = 0) = (a = b) := by
  rw [sub0_64]
  apply propext
  constructor
  · intro h
    have h2 : a.toInt64.toInt = b.toInt64.toInt := by rw [h]
    rw [Int32.toInt_toInt64, Int32.toInt_toInt64] at h2
    exact Int32.toInt_inj.mp h2
  · intro h; rw [h]
theorem i64_inj {a b : Int32} (h : a.toInt64 = b.toInt64) : a = b := by
  have h2 : a.toInt64.toInt = b.toInt64.toInt := by rw [h]
  rw [Int32.toInt_toInt64, Int32.toInt_toInt64] at h2
  exact Int32.toInt_inj.mp h2
theorem i64_subLe (a b : Int32) : (a.toInt64 - b.toInt64 ≤ 0) = (a ≤ b) := by
  have ha := Int32.toInt_lt a
  have ha2 := Int32.le_toInt a
  have hb := Int32.toInt_lt b
  have hb2 := Int32.le_toInt b
  rw [J_32, J_32, J_sub, J_0, J_le (by omega) (by omega) (by omega) (by omega)]
  apply propext
  rw [Int32.le_iff_toInt_le]
  omega
def enOK (w : tyW) : Prop := ∀ k, k < 12 → (0 ≤ (gW_en w k).toInt ∧ (gW_en w k).toInt ≤ 20000) ∧ (0 ≤ (gW_en w (12 + k)).toInt ∧ (gW_en w (12 + k)).toInt ≤ 30) ∧ 0 ≤ (gW_en w (24 + k)).toInt ∧ (gW_en w (24 + k)).toInt ≤ 20000
def grW (w : tyW) (k : Nat) : Int := grN (gW_en w k).toInt (gW_en w (12 + k)).toInt (gW_en w (24 + k)).toInt
def GW (w : tyW) : Nat → Int
  | 0 => 0
  | k + 1 => GW w k + grW w k
section
variable {w : tyW} {s : tyR} {r : Rst} {q : Nat → Int64} {e n : Nat}
theorem grW_bd (ok : enOK w) {k : Nat} (hk : k < 12) : 0 ≤ grW w k ∧ grW w k ≤ 40000 := by
  obtain ⟨h1, h2, h3⟩ := ok k hk
  exact grN_bd h1 h2 h3
theorem GW_bd (ok : enOK w) : ∀ k, k ≤ 12 → 0 ≤ GW w k ∧ GW w k ≤ 40000 * k
  | 0, _ => ⟨Int.le_refl _, by show (0 : Int) ≤ _; omega⟩
  | k + 1, hk => by
    have h1 := GW_bd ok k (by omega)
    have h2 := grW_bd ok (show k < 12 by omega)
    rw [GW]
    omega
theorem pG_J (ok : enOK w) : ∀ k, k ≤ 12 → pG w k = J (GW w k)
  | 0, _ => rfl
  | k + 1, hk => by
    obtain ⟨h1, h2, h3⟩ := ok k (by omega)
    rw [pG, GW, pG_J ok k (by omega), pGr, grN_32 h1 h2 h3, J_add]; rfl
def enEq (w : tyW) (q : Nat → Int64) (e : Nat) : Prop := ∀ k, k < 36 → q (rX e (2 + k)) = (gW_en w k).toInt64
theorem rGr_J (ok : enOK w) (h : enEq w (rS r) e) {k : Nat} (hk : k < 12) : rGr r e k = J (grW w k) := by
  obtain ⟨h1, h2, h3⟩ := ok k hk
  rw [rGr, h k (by omega), show 14 + k = 2 + (12 + k) by omega, h (12 + k) (by omega), show 26 + k = 2 + (24 + k) by omega, h (24 + k) (by omega), grN_64 h1 h2]; rfl
theorem rG_J (ok : enOK w) (h : enEq w (rS r) e) : ∀ k, k ≤ 12 → rG r e k = J (GW w k)
  | 0, _ => rfl
  | k + 1, hk => by rw [rG, GW, rG_J ok h k (by omega), rGr_J ok h (by omega), J_add]
theorem amN_0 (h : RelR s q n) (k : Nat) : amN (ruR s) (ruC s) (ruT s) (ruB s) n k 0 = 0 := by
  have c0 : ∀ c, c < 2 → cN (ruR s c) (ruC s c) 0 = 0 := fun c hc => by
    obtain ⟨-, -, -, a4, -⟩ := h.2.2.2.1 c hc
    unfold cN
    by_cases c : (0 : Int) < ruC s c
    · rw [if_pos c, Int.mul_zero]
    · rw [if_neg c, show ruC s _ = 0 by omega, Int.mul_zero]
  have t0 : tN (ruR s) (ruC s) 0 = 0 := by unfold tN; rw [c0 0 (by omega), c0 1 (by omega)]; rfl
  have x0 : ∀ k, k ≤ n → txN (ruT s) (ruB s) n 0 k = 0 := by
    intro k
    induction k with
    | zero => intro _; rfl
    | succ k ih =>
      intro hk
      have hb := (h.2.2.2.2.1 k (by omega)).2.2.1
      rw [txN, ih (by omega)]
      have hto : toN (ruT s) n 0 k = 0 := by
        unfold toN
        by_cases c : k + 1 < n ∧ 1000 * ruT s (k + 1) < 0
        · have := (h.2.2.2.2.1 (k + 1) c.1).2.2.1
          omega
        · rw [if_neg c]
      unfold ptN
      rw [hto, if_neg (by omega), Int.mul_zero]; rfl
  unfold amN
  rw [c0 0 (by omega), c0 1 (by omega), t0, x0 n (Nat.le_refl _)]
  split
  · rfl
  · split
    · rfl
    · split
      · rfl
      · split <;> rfl
theorem pUpTo_J (hr : RelR s q n) (ok : enOK w) (k : Nat) {m : Nat} (hm : m ≤ 12) : pUpTo s n w k m = J (amN (ruR s) (ruC s) (ruT s) (ruB s) n k (GW w m)) := by
  have hb := GW_bd ok m hm
  unfold pUpTo
  by_cases h0 : m = 0
  · subst h0
    rw [if_pos rfl]
    show (0 : Int64) = J (amN _ _ _ _ n k 0)
    rw [amN_0 hr]; rfl
  · rw [if_neg h0, pG_J ok m hm, pAmt_J hr (by omega)]
theorem rDue_eq (hr : RelR s (rS r) n) (ok : enOK w) (h : enEq w (rS r) e) {k m : Nat} (hm : m < 12) : rDue r n e m k = pDue s n w k m := by
  have b1 := GW_bd ok m (by omega)
  have b2 := GW_bd ok (m + 1) (by omega)
  unfold rDue pDue
  rw [rG_J ok h _ (by omega), rG_J ok h _ (by omega), rAmt_J hr (by omega), rAmt_J hr (by omega), pUpTo_J hr ok k (by omega), pUpTo_J hr ok k (by omega)]
/-- the lines of a month in a row of numbers -/
def qLines (q : Nat → Int64) (e mo : Nat) (l : List Ln) : Prop := q (rX e (147 + mo)) = (nI l.length).toInt64 ∧ l.length ≤ 54 ∧ ∀ (i : Nat) (x : Ln), l[i]? = some x → q (rLp e mo i) = x.1.toInt64 ∧ q (rLp e mo i + 1) = x.2.1.toInt64 ∧ q (rLp e mo i + 2) = x.2.2.1.toInt64 ∧ q (rLp e mo i + 3) = x.2.2.2
theorem rLines_q (mo : Nat) (l : List Ln) : rLines r e mo l = qLines (rS r) e mo l := rfl
/-- a good line -/
def okLn (x : Ln) : Prop := (∃ k, k < 8 ∧ x.1 = nI k) ∧ (∃ i, i < 12 ∧ x.2.1 = nI i) ∧ ∃ re, re < 7 ∧ x.2.2.1 = nI re
/-- a good slip: its last line, and no other, is the pay -/
def okSl (l : List Ln) : Prop := (∃ l0 x, l = l0 ++ [(nI 7, nI 0, nI 0, x)] ∧ ∀ y, y ∈ l0 → y.1 ≠ nI 7) ∧ ∀ y, y ∈ l → okLn y
def gaEq (w : tyW) (q : Nat → Int64) (e g : Nat) : Prop := g ≤ 3 ∧ gW_gc w = nI g ∧ q (rX e 134) = (nI g).toInt64 ∧ ∀ p, p < g → q (rX e (135 + 4 * p)) = (gW_gk w p).toInt64 ∧ q (rX e (135 + 4 * p + 1)) = (gW_gs w p).toInt64 ∧ q (rX e (135 + 4 * p + 2)) = (gW_gd w p).toInt64 ∧ q (rX e (135 + 4 * p + 3)) = gW_gr w p
def seEq (w : tyW) (q : Nat → Int64) (e c : Nat) : Prop := ∀ m, m < c → (∀ i, i < 4 → q (rX e (38 + 4 * m + i)) = gW_am w (i * 12 + m)) ∧ gW_am w (48 + m) = gW_am w m - gW_am w (12 + m) - gW_am w (24 + m) - gW_am w (36 + m) ∧ q (rX e (86 + m)) = (gW_se w m).toInt64 ∧ q (rX e (98 + m)) = (gW_se w (12 + m)).toInt64 ∧ q (rX e (110 + m)) = (gW_se w (24 + m)).toInt64
def RelE (w : tyW) (q : Nat → Int64) (e c g : Nat) (LS : Nat → List Ln) : Prop := enEq w q e ∧ enOK w ∧ seEq w q e c ∧ q (rX e 0) = (gW_fl w).toInt64 ∧ q (rX e 1) = gW_ow w ∧ gaEq w q e g ∧ (∀ m, m < c → qLines q e m (LS m) ∧ okSl (LS m)) ∧ ∀ m, c ≤ m → m < 12 → q (rX e (147 + m)) = 0
/-- one flag tells what the numbers of the rules tell -/
def flEq (f : Int32) (q : Nat → Int64) (e c : Nat) : Prop := ∀ m, m < c → (f = nI 0 ↔ q 2 = q (rX e (122 + m)))
theorem rPre_of {g mo : Nat} {f : Int32} {LS : Nat → List Ln} (hr : RelR s (rS r) n) (h : RelE w (rS r) e mo g LS) (hf : flEq f (rS r) e mo) (hmo : mo < 12) : rPre r e mo n g w (pDD s n w) f := by
  obtain ⟨h1, h2, h3, h4, h5, h6, h7, h8⟩ := h
  have hx : ∀ p j, rX e (135 + 4 * p) + j = rX e (135 + 4 * p + j) := fun p j => by unfold rX; omega
  refine ⟨fun k m2 hk hm => ?_, fun k m2 hk hm => ?_, fun m2 hm => ?_, ?_, h5, h4, ⟨h6.2.2.1, fun p hp => ?_⟩, fun k hk => ?_⟩
  · rw [rDue_eq hr h2 h1 (by omega), pDD_at hk (by omega)]
  · unfold rSet
    rw [if_pos hk]
    have := (h3 m2 hm).1 k hk
    rw [show rX e (38 + 4 * m2) + k = rX e (38 + 4 * m2 + k) by unfold rX; omega]
    exact this
  · obtain ⟨-, -, a1, a2, a3⟩ := h3 m2 hm
    have b1 := h1 m2 (by omega)
    have b2 := h1 (12 + m2) (by omega)
    have b3 := h1 (24 + m2) (by omega)
    rw [show 2 + (12 + m2) = 14 + m2 by omega] at b2
    rw [show 2 + (24 + m2) = 26 + m2 by omega] at b3
    unfold rReason pReason
    rw [a1, a2, a3, b1, b2, b3]
    have hf2 := hf m2 hm
    by_cases c1 : gW_en w m2 = gW_se w m2
    · rw [if_pos (by rw [i64_sub0]; exact c1), if_pos c1]
      by_cases c2 : gW_en w (12 + m2) = gW_se w (12 + m2)
      · rw [if_pos (by rw [c2]), if_pos c2]
        by_cases c3 : gW_en w (24 + m2) = gW_se w (24 + m2)
        · rw [if_pos (by rw [c3]), if_pos c3]
          by_cases c4 : f = nI 0
          · rw [if_pos (hf2.mp c4), if_pos c4]
          · rw [if_neg (fun x => c4 (hf2.mpr x)), if_neg c4]
        · rw [if_neg (fun x => c3 (i64_inj x)), if_neg c3]
      · rw [if_neg (fun x => c2 (i64_inj x)), if_neg c2]
    · rw [if_neg (by rw [i64_sub0]; exact c1), if_neg c1]
      by_cases c2 : gW_en w m2 ≤ gW_se w m2
      · rw [if_pos (by rw [i64_subLe]; exact c2), if_pos c2]
      · rw [if_neg (by rw [i64_subLe]; exact c2), if_neg c2]
  · refine ⟨?_, by simp, fun i x hi => by cases hi⟩
    exact (h8 mo (Nat.le_refl _) hmo).trans rfl
  · obtain ⟨a1, a2, -, -⟩ := h6.2.2.2 p hp
    rw [hx]
    exact ⟨a1, a2⟩
  · obtain ⟨-, -, -, a4⟩ := h6.2.2.2 k hk
    rw [hx]; exact a4
end
