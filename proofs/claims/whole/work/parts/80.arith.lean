/-! ARITHMETIC: both ways of computing an amount -/
def J (z : Int) : Int64 := Int64.ofInt z
theorem J_add (a b : Int) : J a + J b = J (a + b) := (Int64.ofInt_add a b).symm
theorem J_sub (a b : Int) : J a - J b = J (a - b) := (Int64.ofInt_sub a b).symm
theorem J_mul (a b : Int) : J a * J b = J (a * b) := (Int64.ofInt_mul a b).symm
theorem J_neg (a : Int) : -J a = J (-a) := (Int64.ofInt_neg a).symm
theorem J_32 (x : Int32) : x.toInt64 = J x.toInt := rfl
theorem J_nI {n : Nat} (h : n < 2 ^ 31) : (nI n).toInt64 = J n := by rw [J_32, nI_toInt h]
theorem J_toInt {a : Int} (h1 : -2 ^ 63 ≤ a) (h2 : a < 2 ^ 63) : (J a).toInt = a := Int64.toInt_ofInt_of_le h1 h2
theorem J_lt {a b : Int} (h1 : -2 ^ 63 ≤ a) (h2 : a < 2 ^ 63) (h3 : -2 ^ 63 ≤ b) (h4 : b < 2 ^ 63) : (J a < J b) = (a < b) := by
  rw [Int64.lt_iff_toInt_lt, J_toInt h1 h2, J_toInt h3 h4]
theorem J_le {a b : Int} (h1 : -2 ^ 63 ≤ a) (h2 : a < 2 ^ 63) (h3 : -2 ^ 63 ≤ b) (h4 : b < 2 ^ 63) : (J a ≤ J b) = (a ≤ b) := by
  rw [Int64.le_iff_toInt_le, J_toInt h1 h2, J_toInt h3 h4]
theorem J_ite {a b : Int} (h1 : -2 ^ 63 ≤ a) (h2 : a < 2 ^ 63) (h3 : -2 ^ 63 ≤ b) (h4 : b < 2 ^ 63) {α : Type} (x y : α) : (if J a < J b then x else y) = if a < b then x else y := by
  by_cases c : a < b
  · rw [if_pos c, if_pos ((J_lt h1 h2 h3 h4).mpr c)]
  · rw [if_neg c, if_neg (fun d => c ((J_lt h1 h2 h3 h4).mp d))]
theorem J_div {a b : Int} (h1 : 0 ≤ a) (h2 : a < 2 ^ 63) (h3 : 0 < b) (h4 : b < 2 ^ 63) : J a / J b = J (a / b) := by
  apply Int64.toInt_inj.mp
  have hq : 0 ≤ a / b := Int.ediv_nonneg h1 (by omega)
  have hq2 : a / b ≤ a := Int.ediv_le_self _ h1
  rw [Int64.toInt_div, J_toInt (by omega) h2, J_toInt (by omega) h4, Int.tdiv_eq_ediv_of_nonneg h1, J_toInt (by omega) (by omega)]
  exact Int.bmod_eq_of_le (by omega) (by omega)
theorem J_1000 : (1000 : Int64) = J 1000 := rfl
theorem J_1000000 : (1000000 : Int64) = J 1000000 := rfl
theorem J_30 : (30 : Int64) = J 30 := rfl
theorem J_0 : (0 : Int64) = J 0 := rfl
theorem mul_bd {a b A B : Int} (h1 : 0 ≤ a) (h2 : a ≤ A) (h3 : 0 ≤ b) (h4 : b ≤ B) : 0 ≤ a * b ∧ a * b ≤ A * B := ⟨Int.mul_nonneg h1 h3, Int.mul_le_mul h2 h4 h3 (by omega)⟩
def grN (a b c : Int) : Int := a * b / 30 + c
theorem grN_bd {a b c : Int} (ha : 0 ≤ a ∧ a ≤ 20000) (hb : 0 ≤ b ∧ b ≤ 30) (hc : 0 ≤ c ∧ c ≤ 20000) : 0 ≤ grN a b c ∧ grN a b c ≤ 40000 := by
  have := mul_bd ha.1 ha.2 hb.1 hb.2
  unfold grN
  omega
theorem grN_64 {a b c : Int32} (ha : 0 ≤ a.toInt ∧ a.toInt ≤ 20000) (hb : 0 ≤ b.toInt ∧ b.toInt ≤ 30) : a.toInt64 * b.toInt64 / 30 + c.toInt64 = J (grN a.toInt b.toInt c.toInt) := by
  have := mul_bd ha.1 ha.2 hb.1 hb.2
  rw [J_32, J_32, J_32, J_30, J_mul, J_div this.1 (by omega) (by omega) (by omega), J_add]
  rfl
theorem grN_32 {a b c : Int32} (ha : 0 ≤ a.toInt ∧ a.toInt ≤ 20000) (hb : 0 ≤ b.toInt ∧ b.toInt ≤ 30) (hc : 0 ≤ c.toInt ∧ c.toInt ≤ 20000) : (a * b / nI 30 + c).toInt64 = J (grN a.toInt b.toInt c.toInt) := by
  have h1 := mul_bd ha.1 ha.2 hb.1 hb.2
  have h2 := grN_bd ha hb hc
  unfold grN at h2
  have m1 : (a * b).toInt = a.toInt * b.toInt := by
    rw [Int32.toInt_mul]
    exact Int.bmod_eq_of_le (by omega) (by omega)
  have d1 : (a * b / nI 30).toInt = a.toInt * b.toInt / 30 := by
    rw [Int32.toInt_div, m1, nI_toInt (by omega), Int.tdiv_eq_ediv_of_nonneg h1.1]
    exact Int.bmod_eq_of_le (by omega) (by omega)
  have s1 : (a * b / nI 30 + c).toInt = a.toInt * b.toInt / 30 + c.toInt := by
    rw [Int32.toInt_add, d1]
    exact Int.bmod_eq_of_le (by omega) (by omega)
  rw [J_32, s1]
  rfl
/-- contributions and taxes over whole numbers -/
def cN (ra ca X : Int) : Int := ra * (if X < ca then X else ca)
def tN (ra ca : Nat → Int) (X : Int) : Int := 1000 * X - cN (ra 0) (ca 0) X - cN (ra 1) (ca 1) X
def toN (th : Nat → Int) (n : Nat) (T : Int) (k : Nat) : Int := if k + 1 < n ∧ 1000 * th (k + 1) < T then 1000 * th (k + 1) else T
def ptN (th br : Nat → Int) (n : Nat) (T : Int) (k : Nat) : Int := br k * (if 1000 * th k < toN th n T k then toN th n T k - 1000 * th k else 0)
def txN (th br : Nat → Int) (n : Nat) (T : Int) : Nat → Int
  | 0 => 0
  | k + 1 => txN th br n T k + ptN th br n T k
def amN (ra ca th br : Nat → Int) (n k : Nat) (X : Int) : Int := if k = 0 then X * 1000000 else if k = 1 then cN (ra 0) (ca 0) X * 1000 else if k = 2 then cN (ra 1) (ca 1) X * 1000 else if k = 3 then txN th br n (tN ra ca X) n else X * 1000000 - cN (ra 0) (ca 0) X * 1000 - cN (ra 1) (ca 1) X * 1000 - txN th br n (tN ra ca X) n
theorem cN_bd {ra ca X : Int} (h1 : 0 ≤ ra ∧ ra ≤ 499) (h2 : 0 ≤ ca) (h3 : 0 ≤ X ∧ X ≤ 600000) : 0 ≤ cN ra ca X ∧ cN ra ca X ≤ 499 * X := by
  unfold cN
  split
  · exact mul_bd h1.1 h1.2 h3.1 (Int.le_refl _)
  · exact mul_bd h1.1 h1.2 h2 (by omega)
def ruR (s : tyR) : Nat → Int := fun k => (gR_ra s k).toInt
def ruC (s : tyR) : Nat → Int := fun k => (gR_ca s k).toInt
def ruT (s : tyR) : Nat → Int := fun k => (gR_th s k).toInt
def ruB (s : tyR) : Nat → Int := fun k => (gR_br s k).toInt
/-- the rules of both sides -/
def RelR (s : tyR) (q : Nat → Int64) (n : Nat) : Prop := n ≤ 5 ∧ gR_bn s = nI n ∧ q 7 = (nI n).toInt64 ∧ (∀ k, k < 2 → q (3 + k) = (gR_ra s k).toInt64 ∧ q (5 + k) = (gR_ca s k).toInt64 ∧ (0 ≤ ruR s k ∧ ruR s k ≤ 499) ∧ 0 ≤ ruC s k ∧ ruC s k ≤ 99999) ∧ (∀ k, k < n → q (8 + k) = (gR_th s k).toInt64 ∧ q (13 + k) = (gR_br s k).toInt64 ∧ (0 ≤ ruT s k ∧ ruT s k ≤ 99999) ∧ 0 ≤ ruB s k ∧ ruB s k ≤ 999) ∧ ∀ k, k + 1 < n → ruT s k < ruT s (k + 1)
section
variable {s : tyR} {q : Nat → Int64} {n : Nat} {r : Rst} {X T : Int}
theorem pC_J (h : RelR s q n) {c : Nat} (hc : c < 2) (hX : 0 ≤ X ∧ X ≤ 600000) : pC s c (J X) = J (cN (ruR s c) (ruC s c) X * 1000) := by
  obtain ⟨a1, a2, a3, a4, a5⟩ := h.2.2.2.1 c hc
  unfold pC cN
  rw [J_32, J_32, J_1000, show (gR_ra s c).toInt = ruR s c from rfl, show (gR_ca s c).toInt = ruC s c from rfl, J_ite (by omega) (by omega) (by omega) (by omega)]
  by_cases h1 : X < ruC s c
  · rw [if_pos h1, if_pos h1, J_mul, J_mul]
  · rw [if_neg h1, if_neg h1, J_mul, J_mul]
theorem rC_J (h : RelR s (rS r) n) {c : Nat} (hc : c < 2) (hX : 0 ≤ X ∧ X ≤ 600000) : rC r c (J X) = J (cN (ruR s c) (ruC s c) X * 1000) := by
  obtain ⟨a1, a2, a3, a4, a5⟩ := h.2.2.2.1 c hc
  unfold rC cN
  rw [a1, a2, J_32, J_32, J_1000, show (gR_ra s c).toInt = ruR s c from rfl, show (gR_ca s c).toInt = ruC s c from rfl, J_ite (by omega) (by omega) (by omega) (by omega)]
  by_cases h1 : X < ruC s c
  · rw [if_neg (by omega), if_pos h1, J_mul, J_mul]
  · by_cases h2 : ruC s c < X
    · rw [if_pos h2, if_neg h1, J_mul, J_mul]
    · rw [if_neg h2, if_neg h1, J_mul, J_mul, show X = ruC s c by omega]
theorem tN_bd (h : RelR s q n) (hX : 0 ≤ X ∧ X ≤ 600000) : 0 ≤ tN (ruR s) (ruC s) X ∧ tN (ruR s) (ruC s) X ≤ 600000000 := by
  obtain ⟨a1, a2, a3, a4, a5⟩ := h.2.2.2.1 0 (by omega)
  obtain ⟨b1, b2, b3, b4, b5⟩ := h.2.2.2.1 1 (by omega)
  have h1 := cN_bd a3 a4 hX
  have h2 := cN_bd b3 b4 hX
  unfold tN
  omega
theorem rT_J (h : RelR s (rS r) n) (hX : 0 ≤ X ∧ X ≤ 600000) : rT r (J X) = J (tN (ruR s) (ruC s) X) := by
  obtain ⟨a1, a2, a3, a4, a5⟩ := h.2.2.2.1 0 (by omega)
  obtain ⟨b1, b2, b3, b4, b5⟩ := h.2.2.2.1 1 (by omega)
  have h1 := cN_bd a3 a4 hX
  have h2 := cN_bd b3 b4 hX
  unfold rT
  rw [rC_J h (by omega) hX, rC_J h (by omega) hX, J_add, J_1000, J_mul, J_div (by omega) (by omega) (by omega) (by omega), J_sub]
  congr 1
  unfold tN
  omega
theorem pMin_J {a b : Int} (h1 : -2 ^ 63 ≤ a) (h2 : a < 2 ^ 63) (h3 : -2 ^ 63 ≤ b) (h4 : b < 2 ^ 63) : pMin (J a) (J b) = J (if b < a then b else a) := by
  unfold pMin
  rw [J_ite h3 h4 h1 h2]
  split <;> rfl
theorem pMax_J {a b : Int} (h1 : -2 ^ 63 ≤ a) (h2 : a < 2 ^ 63) (h3 : -2 ^ 63 ≤ b) (h4 : b < 2 ^ 63) : pMax (J a) (J b) = J (if b < a then a else b) := by
  unfold pMax
  rw [J_ite h3 h4 h1 h2]
  split <;> rfl
theorem toN_bd (h : RelR s q n) (hT : 0 ≤ T ∧ T ≤ 600000000) (k : Nat) : 0 ≤ toN (ruT s) n T k ∧ toN (ruT s) n T k ≤ 600000000 := by
  unfold toN
  split
  · rename_i c
    have := h.2.2.2.2.1 (k + 1) c.1
    omega
  · exact hT
theorem rPart_J (h : RelR s (rS r) n) (hT : 0 ≤ T ∧ T ≤ 600000000) {k : Nat} (hk : k < n) : rPart r n (J T) k = J (ptN (ruT s) (ruB s) n T k) := by
  obtain ⟨a1, a2, a3, a4⟩ := h.2.2.2.2.1 k hk
  have hb := toN_bd h hT k
  have hu : rUp r n (J T) k = J (toN (ruT s) n T k) := by
    unfold rUp toN
    by_cases c : k + 1 < n
    · obtain ⟨c1, c2, c3, c4⟩ := h.2.2.2.2.1 (k + 1) c
      rw [if_pos c, show 8 + k + 1 = 8 + (k + 1) by omega, c1, J_32, J_1000, J_mul, show (gR_th s (k + 1)).toInt = ruT s (k + 1) from rfl, pMin_J (by omega) (by omega) (by omega) (by omega)]
      by_cases d : 1000 * ruT s (k + 1) < T
      · rw [if_pos d, if_pos ⟨c, d⟩]
      · rw [if_neg d, if_neg (fun x => d x.2)]
    · rw [if_neg c, if_neg (fun x => c x.1)]
  unfold rPart ptN
  rw [hu, a1, a2, J_32, J_32, J_1000, J_mul, show (gR_th s k).toInt = ruT s k from rfl, show (gR_br s k).toInt = ruB s k from rfl, J_sub, J_0, pMax_J (by omega) (by omega) (by omega) (by omega), J_mul]
  congr 2
  by_cases d : 1000 * ruT s k < toN (ruT s) n T k
  · rw [if_neg (by omega), if_pos d]
  · rw [if_neg d]
    by_cases d2 : toN (ruT s) n T k - 1000 * ruT s k < 0
    · rw [if_pos d2]
    · rw [if_neg d2]; omega
theorem pPart_J (h : RelR s q n) (hT : 0 ≤ T ∧ T ≤ 600000000) {k : Nat} (hk : k < n) : pPart s n (J (1000 * T)) k = J (ptN (ruT s) (ruB s) n T k) := by
  obtain ⟨a1, a2, a3, a4⟩ := h.2.2.2.2.1 k hk
  have hb := toN_bd h hT k
  have hu : pUp s n (J (1000 * T)) k = J (1000 * toN (ruT s) n T k) := by
    unfold pUp toN
    by_cases c : k + 1 < n
    · obtain ⟨c1, c2, c3, c4⟩ := h.2.2.2.2.1 (k + 1) c
      rw [J_32, J_1000000, J_mul, show (gR_th s (k + 1)).toInt = ruT s (k + 1) from rfl]
      have key : (J (ruT s (k + 1) * 1000000) < J (1000 * T)) = (ruT s (k + 1) * 1000000 < 1000 * T) := J_lt (by omega) (by omega) (by omega) (by omega)
      by_cases d : 1000 * ruT s (k + 1) < T
      · rw [if_pos ⟨c, by rw [key]; omega⟩, if_pos ⟨c, d⟩]
        congr 1; omega
      · rw [if_neg (fun x => d (by have := x.2; rw [key] at this; omega)), if_neg (fun x => d x.2)]
    · rw [if_neg (fun x => c x.1), if_neg (fun x => c x.1)]
  unfold pPart ptN
  rw [hu, J_32, J_32, J_1000000, J_mul, show (gR_th s k).toInt = ruT s k from rfl, show (gR_br s k).toInt = ruB s k from rfl, J_ite (by omega) (by omega) (by omega) (by omega)]
  by_cases d : 1000 * ruT s k < toN (ruT s) n T k
  · rw [if_pos (by omega), if_pos d, J_sub, J_1000, J_div (by omega) (by omega) (by omega) (by omega), J_mul, Int.mul_comm]
    congr 2; omega
  · rw [if_neg (by omega), if_neg d, Int.mul_zero]; rfl
theorem rTax_J (h : RelR s (rS r) n) (hT : 0 ≤ T ∧ T ≤ 600000000) : ∀ k, k ≤ n → rTaxL r n (J T) k = J (txN (ruT s) (ruB s) n T k)
  | 0, _ => rfl
  | k + 1, hk => by rw [rTaxL, txN, rTax_J h hT k (by omega), rPart_J h hT (by omega), J_add]
theorem pTax_J (h : RelR s q n) (hT : 0 ≤ T ∧ T ≤ 600000000) : ∀ k, k ≤ n → pTax s n (J (1000 * T)) k = J (txN (ruT s) (ruB s) n T k)
  | 0, _ => rfl
  | k + 1, hk => by rw [pTax, txN, pTax_J h hT k (by omega), pPart_J h hT (by omega), J_add]
theorem rAmt_J (h : RelR s (rS r) n) (hX : 0 ≤ X ∧ X ≤ 600000) (k : Nat) : rAmt r n k (J X) = J (amN (ruR s) (ruC s) (ruT s) (ruB s) n k X) := by
  have hT := tN_bd h hX
  unfold rAmt amN
  rw [rC_J h (by omega) hX, rC_J h (by omega) hX, rT_J h hX, rTax_J h hT n (Nat.le_refl _), J_1000000, J_mul, J_sub, J_sub, J_sub]
  split
  · rfl
  · split
    · rfl
    · split
      · rfl
      · split <;> rfl
theorem pAmt_J (h : RelR s q n) (hX : 0 ≤ X ∧ X ≤ 600000) (k : Nat) : pAmt s n k (J X) = J (amN (ruR s) (ruC s) (ruT s) (ruB s) n k X) := by
  have hT := tN_bd h hX
  have e1 : X * 1000000 - cN (ruR s 0) (ruC s 0) X * 1000 - cN (ruR s 1) (ruC s 1) X * 1000 = 1000 * tN (ruR s) (ruC s) X := by unfold tN; omega
  unfold pAmt amN
  rw [pC_J h (by omega) hX, pC_J h (by omega) hX, J_1000000, J_mul, J_sub, J_sub, e1, pTax_J h hT n (Nat.le_refl _), J_sub]
  split
  · rfl
  · split
    · rfl
    · split
      · rfl
      · split <;> rfl
end
