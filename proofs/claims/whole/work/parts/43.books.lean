/-! BOOKS: 37 cells, with rules and three workers in them -/
abbrev tyB : Type := tyR × (Nat → tyW) × Int32 × Int32 × Int32
def gB_ru (s : tyB) : tyR := s.1
def gB_wk (s : tyB) : Nat → tyW := s.2.1
def gB_cl (s : tyB) : Int32 := s.2.2.1
def gB_yr (s : tyB) : Int32 := s.2.2.2.1
def gB_fg (s : tyB) : Int32 := s.2.2.2.2
def sB_ru (s : tyB) (v : tyR) : tyB := (v, s.2.1, s.2.2.1, s.2.2.2.1, s.2.2.2.2)
def sB_wk (s : tyB) (v : Nat → tyW) : tyB := (s.1, v, s.2.2.1, s.2.2.2.1, s.2.2.2.2)
def sB_cl (s : tyB) (v : Int32) : tyB := (s.1, s.2.1, v, s.2.2.2.1, s.2.2.2.2)
def sB_yr (s : tyB) (v : Int32) : tyB := (s.1, s.2.1, s.2.2.1, v, s.2.2.2.2)
def sB_fg (s : tyB) (v : Int32) : tyB := (s.1, s.2.1, s.2.2.1, s.2.2.2.1, v)
def sB_w (s : tyB) (e : Nat) (w : tyW) : tyB := sB_wk s fun i => if i = e then w else gB_wk s i
theorem gsB_0 (s : tyB) (v) : gB_ru (sB_ru s v) = v := rfl
theorem gsB_1 (s : tyB) (v) : gB_wk (sB_ru s v) = gB_wk s := rfl
theorem gsB_2 (s : tyB) (v) : gB_cl (sB_ru s v) = gB_cl s := rfl
theorem gsB_3 (s : tyB) (v) : gB_yr (sB_ru s v) = gB_yr s := rfl
theorem gsB_4 (s : tyB) (v) : gB_fg (sB_ru s v) = gB_fg s := rfl
theorem gsB_5 (s : tyB) (v) : gB_ru (sB_cl s v) = gB_ru s := rfl
theorem gsB_6 (s : tyB) (v) : gB_wk (sB_cl s v) = gB_wk s := rfl
theorem gsB_7 (s : tyB) (v) : gB_cl (sB_cl s v) = v := rfl
theorem gsB_8 (s : tyB) (v) : gB_yr (sB_cl s v) = gB_yr s := rfl
theorem gsB_9 (s : tyB) (v) : gB_fg (sB_cl s v) = gB_fg s := rfl
theorem gsB_10 (s : tyB) (v) : gB_ru (sB_yr s v) = gB_ru s := rfl
theorem gsB_11 (s : tyB) (v) : gB_wk (sB_yr s v) = gB_wk s := rfl
theorem gsB_12 (s : tyB) (v) : gB_cl (sB_yr s v) = gB_cl s := rfl
theorem gsB_13 (s : tyB) (v) : gB_yr (sB_yr s v) = v := rfl
theorem gsB_14 (s : tyB) (v) : gB_fg (sB_yr s v) = gB_fg s := rfl
theorem gsB_15 (s : tyB) (v) : gB_ru (sB_fg s v) = gB_ru s := rfl
theorem gsB_16 (s : tyB) (v) : gB_wk (sB_fg s v) = gB_wk s := rfl
theorem gsB_17 (s : tyB) (v) : gB_cl (sB_fg s v) = gB_cl s := rfl
theorem gsB_18 (s : tyB) (v) : gB_yr (sB_fg s v) = gB_yr s := rfl
theorem gsB_19 (s : tyB) (v) : gB_fg (sB_fg s v) = v := rfl
theorem gsB_20 (s : tyB) (e) (v) : gB_ru (sB_w s e v) = gB_ru s := rfl
theorem gsB_21 (s : tyB) (e) (v) : gB_wk (sB_w s e v) e = v := if_pos rfl
theorem gsB_22 (s : tyB) (e) (v) : gB_cl (sB_w s e v) = gB_cl s := rfl
theorem gsB_23 (s : tyB) (e) (v) : gB_yr (sB_w s e v) = gB_yr s := rfl
theorem gsB_24 (s : tyB) (e) (v) : gB_fg (sB_w s e v) = gB_fg s := rfl
theorem sB_w_w (s : tyB) (e) (v v2) : sB_w (sB_w s e v) e v2 = sB_w s e v2 := by
  unfold sB_w sB_wk gB_wk
  refine Prod.ext rfl (Prod.ext (funext fun i => ?_) rfl)
  by_cases h : i = e
  · show (if i = e then _ else _) = (if i = e then _ else _); rw [if_pos h, if_pos h]
  · show (if i = e then _ else (if i = e then _ else _)) = (if i = e then _ else _); rw [if_neg h, if_neg h, if_neg h]
theorem sB_w_id (s : tyB) (e) : sB_w s e (gB_wk s e) = s := by
  unfold sB_w sB_wk gB_wk
  refine Prod.ext rfl (Prod.ext (funext fun i => ?_) rfl)
  show (if i = e then _ else _) = _
  by_cases h : i = e
  · rw [if_pos h, h]
  · rw [if_neg h]
def arW (b : Nat) (i : Nat) : Option Nat := if i < 3 then some (b + 7 + 10 * i) else none
def cB (b : Nat) (s : tyB) (k : Nat) : zC := if k = 0 then .inr (1, [.ref (b + 1), .ref (b + 2), .int (gB_cl s), .int (gB_yr s), .int (gB_fg s)]) else if k = 1 then .inl (4, 3, .inr (.inr (.inr (.inr (arW b))))) else if k < 7 then cR (b + 2) (gB_ru s) (k - 2) else cW (b + 7 + 10 * ((k - 7) / 10)) (gB_wk s ((k - 7) / 10)) ((k - 7) % 10)
section
variable {H : zH} {b e : Nat} {s : tyB}
theorem B_R (hB : isB H b 37 (cB b s)) : isB H (b + 2) 5 (cR (b + 2) (gB_ru s)) := fun k hk => by
  have := hB (2 + k) (by omega)
  rw [show b + 2 + k = b + (2 + k) by omega, this]
  unfold cB
  rw [if_neg (by omega), if_neg (by omega), if_pos (by omega), show 2 + k - 2 = k by omega]
theorem B_W (hB : isB H b 37 (cB b s)) (he : e < 3) : isB H (b + 7 + 10 * e) 10 (cW (b + 7 + 10 * e) (gB_wk s e)) := fun k hk => by
  have := hB (7 + 10 * e + k) (by omega)
  rw [show b + 7 + 10 * e + k = b + (7 + 10 * e + k) by omega, this]
  unfold cB
  rw [if_neg (by omega), if_neg (by omega), if_neg (by omega), show (7 + 10 * e + k - 7) / 10 = e by omega, show (7 + 10 * e + k - 7) % 10 = k by omega]
theorem B_putR (hB : isB H b 37 (cB b s)) (v : tyR) : blk (b + 2) 5 (cR (b + 2) v) H = blk b 37 (cB b (sB_ru s v)) H := by
  conv => lhs; rw [← blk_id hB]
  refine blk_in (by omega) (by omega) fun k hk => ?_
  by_cases h1 : b + 2 ≤ b + k ∧ b + k < b + 2 + 5
  · rw [if_pos h1]
    unfold cB
    rw [if_neg (by omega), if_neg (by omega), if_pos (by omega), show b + k - (b + 2) = k - 2 by omega]
    rfl
  · rw [if_neg h1]
    unfold cB
    by_cases h2 : k = 0
    · rw [if_pos h2, if_pos h2]; rfl
    · by_cases h3 : k = 1
      · rw [if_neg h2, if_neg h2, if_pos h3, if_pos h3]
      · rw [if_neg h2, if_neg h2, if_neg h3, if_neg h3, if_neg (by omega), if_neg (by omega)]; rfl
theorem B_putW (hB : isB H b 37 (cB b s)) (he : e < 3) (v : tyW) : blk (b + 7 + 10 * e) 10 (cW (b + 7 + 10 * e) v) H = blk b 37 (cB b (sB_w s e v)) H := by
  conv => lhs; rw [← blk_id hB]
  refine blk_in (by omega) (by omega) fun k hk => ?_
  by_cases h1 : b + 7 + 10 * e ≤ b + k ∧ b + k < b + 7 + 10 * e + 10
  · rw [if_pos h1]
    unfold cB
    rw [if_neg (by omega), if_neg (by omega), if_neg (by omega), show b + k - (b + 7 + 10 * e) = (k - 7) % 10 by omega, show (k - 7) / 10 = e by omega, gsB_21]
  · rw [if_neg h1]
    unfold cB
    by_cases h2 : k = 0
    · rw [if_pos h2, if_pos h2]; rfl
    · by_cases h3 : k = 1
      · rw [if_neg h2, if_neg h2, if_pos h3, if_pos h3]
      · by_cases h4 : k < 7
        · rw [if_neg h2, if_neg h2, if_neg h3, if_neg h3, if_pos h4, if_pos h4]; rfl
        · rw [if_neg h2, if_neg h2, if_neg h3, if_neg h3, if_neg h4, if_neg h4]
          have h5 : (k - 7) / 10 ≠ e := by omega
          show cW _ (if (k - 7) / 10 = e then v else gB_wk s ((k - 7) / 10)) _ = _
          rw [if_neg h5]
theorem B_idR (hB : isB H b 37 (cB b s)) : blk (b + 2) 5 (cR (b + 2) (gB_ru s)) H = H := blk_id (B_R hB)
theorem B_idW (hB : isB H b 37 (cB b s)) (he : e < 3) : blk (b + 7 + 10 * e) 10 (cW (b + 7 + 10 * e) (gB_wk s e)) H = H := blk_id (B_W hB he)
theorem B_at0 (hB : isB H b 37 (cB b s)) : H.2.2 b = .inr (1, [.ref (b + 1), .ref (b + 2), .int (gB_cl s), .int (gB_yr s), .int (gB_fg s)]) := hB 0 (by omega)
theorem B_at1 (hB : isB H b 37 (cB b s)) : H.2.2 (b + 1) = .inl (4, 3, .inr (.inr (.inr (.inr (arW b))))) := hB 1 (by omega)
theorem rdB_0 (hB : isB H b 37 (cB b s)) : zkd H b = 1 := kd_c (B_at0 hB)
theorem rdB_1 (hB : isB H b 37 (cB b s)) : ∀ (β : Type) (f : Value → Option β), zgf H b 1 0 f = f (.ref (b + 1)) := fun _ f => gf_c (B_at0 hB) rfl f
theorem rdB_2 (hB : isB H b 37 (cB b s)) : ∀ (β : Type) (f : Value → Option β), zgf H b 1 1 f = f (.ref (b + 2)) := fun _ f => gf_c (B_at0 hB) rfl f
theorem rdB_3 (hB : isB H b 37 (cB b s)) : ∀ (β : Type) (f : Value → Option β), zgf H b 1 2 f = f (.int (gB_cl s)) := fun _ f => gf_c (B_at0 hB) rfl f
theorem rdB_4 (hB : isB H b 37 (cB b s)) : ∀ (β : Type) (f : Value → Option β), zgf H b 1 3 f = f (.int (gB_yr s)) := fun _ f => gf_c (B_at0 hB) rfl f
theorem rdB_5 (hB : isB H b 37 (cB b s)) : ∀ (β : Type) (f : Value → Option β), zgf H b 1 4 f = f (.int (gB_fg s)) := fun _ f => gf_c (B_at0 hB) rfl f
theorem rdB_6 (hB : isB H b 37 (cB b s)) : ∀ (β : Type) (f : Option Nat → Option β) (k : Nat), k < 3 → zlq H (b + 1) (nI k) f = f (some (b + 7 + 10 * k)) := fun _ f k hk => by
  rw [lq_c (B_at1 hB) (by decide) hk (by omega) f]
  unfold arW
  rw [if_pos hk]
theorem rdB_7 (hB : isB H b 37 (cB b s)) : ∀ (β : Type) (f : Int32 → Option β), zal H (b + 1) f = f (nI 3) := fun _ f => al_c (B_at1 hB) (by decide) f
theorem B_pf (hB : isB H b 37 (cB b s)) (hb : 100 ≤ b) {j : Nat} {v : Value} (hj : j < 5) (hf : zfit ((ztl.getD 1 (fun _ => .int)) j) v = true) {s2 : tyB} (h2 : ([.ref (b + 1), .ref (b + 2), .int (gB_cl s), .int (gB_yr s), .int (gB_fg s)] : List Value).set j v = [.ref (b + 1), .ref (b + 2), .int (gB_cl s2), .int (gB_yr s2), .int (gB_fg s2)]) (h3 : gB_ru s2 = gB_ru s) (h4 : gB_wk s2 = gB_wk s) {β : Type} (f : zH → Option β) : zpf H b 1 j v f = f (blk b 37 (cB b s2) H) := by
  rw [pf_c (B_at0 hB) (by simpa using hj) hb hf f, h2]
  congr 1
  conv => lhs; rw [← blk_id hB]
  refine blk_zset (k := 0) (by omega) ?_ fun k hk hk0 => ?_
  · unfold cB; rw [if_pos rfl]
  · unfold cB; rw [if_neg hk0, if_neg hk0, h3, h4]
theorem wrB_0 (hB : isB H b 37 (cB b s)) (hb : 100 ≤ b) : ∀ (β : Type) (x : Int32) (f : zH → Option β), zpf H b 1 2 (.int x) f = f (blk b 37 (cB b (sB_cl s x)) H) := fun _ x f => B_pf hB hb (j := 2) (v := (.int x)) (s2 := sB_cl s x) (by omega) rfl rfl rfl rfl f
theorem wrB_1 (hB : isB H b 37 (cB b s)) (hb : 100 ≤ b) : ∀ (β : Type) (x : Int32) (f : zH → Option β), zpf H b 1 3 (.int x) f = f (blk b 37 (cB b (sB_yr s x)) H) := fun _ x f => B_pf hB hb (j := 3) (v := (.int x)) (s2 := sB_yr s x) (by omega) rfl rfl rfl rfl f
theorem bool01 (x : Int32) (hx : x = nI 0 ∨ x = nI 1) : zfit .boolean (.int x) = true := by
  rcases hx with h | h <;> subst h <;> rfl
theorem wrB_2 (hB : isB H b 37 (cB b s)) (hb : 100 ≤ b) : ∀ (β : Type) (f : zH → Option β), zpf H b 1 4 (.int (nI 1)) f = f (blk b 37 (cB b (sB_fg s (nI 1))) H) := fun _ f => B_pf hB hb (j := 4) (v := (.int (nI 1))) (s2 := sB_fg s (nI 1)) (by omega) rfl rfl rfl rfl f
theorem wrB_3 (hB : isB H b 37 (cB b s)) (hb : 100 ≤ b) : ∀ (β : Type) (f : zH → Option β), zpf H b 1 4 (.int (nI 0)) f = f (blk b 37 (cB b (sB_fg s (nI 0))) H) := fun _ f => B_pf hB hb (j := 4) (v := (.int (nI 0))) (s2 := sB_fg s (nI 0)) (by omega) rfl rfl rfl rfl f
theorem wrB_x (hB : isB H b 37 (cB b s)) (hb : 100 ≤ b) {x : Int32} (hx : x = nI 0 ∨ x = nI 1) : ∀ (β : Type) (f : zH → Option β), zpf H b 1 4 (.int x) f = f (blk b 37 (cB b (sB_fg s x)) H) := fun _ f => B_pf hB hb (j := 4) (v := (.int x)) (s2 := sB_fg s x) (by omega) (by exact bool01 x hx) rfl rfl rfl f
end
