/-! BOOKS: data and rules set -/
theorem nn {p : Prop} (h : p) : ¬ ¬ p := fun f => f h
section
variable {H : zH} {b e : Nat} {s : tyB}
theorem BwW_en (hB : isB H b 37 (cB b s)) (hb : 100 ≤ b) (he : e < 3) : ∀ (β : Type) (x : Int32) (f : zH → Option β) (k : Nat), k < 36 → zsi H (b + 7 + 10 * e + 1) 0 (nI k) x f = f (blk b 37 (cB b (sB_w s e (sW_en (gB_wk s e) (upd (gW_en (gB_wk s e)) k x)))) H) := by
  intro β x f k hk
  have := wrW_2 (h := H) (a := b + 7 + 10 * e) (s := gB_wk s e) (by omega) β x f k hk
  rw [B_idW hB he, B_putW hB he] at this
  exact this
theorem BwW_fl (hB : isB H b 37 (cB b s)) (hb : 100 ≤ b) (he : e < 3) : ∀ (β : Type) (x : Int32) (f : zH → Option β), zpf H (b + 7 + 10 * e) 10 5 (.int x) f = f (blk b 37 (cB b (sB_w s e (sW_fl (gB_wk s e) x))) H) := by
  intro β x f
  have := wrW_0 (h := H) (a := b + 7 + 10 * e) (s := gB_wk s e) (by omega) β x f
  rw [B_idW hB he, B_putW hB he] at this
  exact this
theorem BwW_sl (hB : isB H b 37 (cB b s)) (hb : 100 ≤ b) (he : e < 3) : ∀ (β : Type) (q : Nat) (f : zH → Option β) (k : Nat), k < 12 → zotg (zkd H q) = 5 → zsq H (b + 7 + 10 * e + 4) (nI k) (.ref q) f = f (blk b 37 (cB b (sB_w s e (sW_sl (gB_wk s e) (va_up (gW_sl (gB_wk s e)) k (some q))))) H) := by
  intro β q f k hk hq
  have := wrW_5 (h := H) (a := b + 7 + 10 * e) (s := gB_wk s e) (by omega) β q f k hk
  rw [B_idW hB he] at this
  have := this hq
  rw [B_putW hB he] at this
  exact this
theorem BwR_bn (hB : isB H b 37 (cB b s)) (hb : 100 ≤ b) : ∀ (β : Type) (x : Int32) (f : zH → Option β), zpf H (b + 2) 6 4 (.int x) f = f (blk b 37 (cB b (sB_ru s (sR_bn (gB_ru s) x))) H) := by
  intro β x f
  have := wrR_0 (h := H) (a := b + 2) (s := gB_ru s) (by omega) β x f
  rw [B_idR hB, B_putR hB] at this
  exact this
theorem BwR_ra (hB : isB H b 37 (cB b s)) (hb : 100 ≤ b) : ∀ (β : Type) (x : Int32) (f : zH → Option β) (k : Nat), k < 2 → zsi H (b + 2 + 1) 0 (nI k) x f = f (blk b 37 (cB b (sB_ru s (sR_ra (gB_ru s) (upd (gR_ra (gB_ru s)) k x)))) H) := by
  intro β x f k hk
  have := wrR_1 (h := H) (a := b + 2) (s := gB_ru s) (by omega) β x f k hk
  rw [B_idR hB, B_putR hB] at this
  exact this
theorem BwR_ca (hB : isB H b 37 (cB b s)) (hb : 100 ≤ b) : ∀ (β : Type) (x : Int32) (f : zH → Option β) (k : Nat), k < 2 → zsi H (b + 2 + 2) 0 (nI k) x f = f (blk b 37 (cB b (sB_ru s (sR_ca (gB_ru s) (upd (gR_ca (gB_ru s)) k x)))) H) := by
  intro β x f k hk
  have := wrR_2 (h := H) (a := b + 2) (s := gB_ru s) (by omega) β x f k hk
  rw [B_idR hB, B_putR hB] at this
  exact this
theorem BwR_th (hB : isB H b 37 (cB b s)) (hb : 100 ≤ b) : ∀ (β : Type) (x : Int32) (f : zH → Option β) (k : Nat), k < 5 → zsi H (b + 2 + 3) 0 (nI k) x f = f (blk b 37 (cB b (sB_ru s (sR_th (gB_ru s) (upd (gR_th (gB_ru s)) k x)))) H) := by
  intro β x f k hk
  have := wrR_3 (h := H) (a := b + 2) (s := gB_ru s) (by omega) β x f k hk
  rw [B_idR hB, B_putR hB] at this
  exact this
theorem BwR_br (hB : isB H b 37 (cB b s)) (hb : 100 ≤ b) : ∀ (β : Type) (x : Int32) (f : zH → Option β) (k : Nat), k < 5 → zsi H (b + 2 + 4) 0 (nI k) x f = f (blk b 37 (cB b (sB_ru s (sR_br (gB_ru s) (upd (gR_br (gB_ru s)) k x)))) H) := by
  intro β x f k hk
  have := wrR_4 (h := H) (a := b + 2) (s := gB_ru s) (by omega) β x f k hk
  rw [B_idR hB, B_putR hB] at this
  exact this
def upSal (en : Nat → Int32) (mo j : Nat) (x : Int32) : Nat → Int32 := fun q => if mo ≤ q ∧ q < j then x else en q
theorem upSal_0 (en : Nat → Int32) (mo : Nat) (x : Int32) : upSal en mo mo x = en := by
  funext q; exact if_neg (by omega)
theorem upSal_up (en : Nat → Int32) (mo j : Nat) (hj : mo ≤ j) (x : Int32) : upd (upSal en mo j x) j x = upSal en mo (j + 1) x := by
  funext q
  show (if q = j then x else if mo ≤ q ∧ q < j then x else en q) = if mo ≤ q ∧ q < j + 1 then x else en q
  by_cases h1 : q = j
  · rw [if_pos h1, if_pos (by omega)]
  · rw [if_neg h1]
    by_cases h2 : mo ≤ q ∧ q < j
    · rw [if_pos h2, if_pos (by omega)]
    · rw [if_neg h2, if_neg (by omega)]
def bSal (s : tyB) (e mo j : Nat) (x : Int32) : tyB := sB_w s e (sW_en (gB_wk s e) (upSal (gW_en (gB_wk s e)) mo j x))
theorem bSal_0 (s : tyB) (e mo : Nat) (x : Int32) : bSal s e mo mo x = s := by
  unfold bSal
  rw [upSal_0]
  exact sB_w_id s e
theorem bSal_wk (s : tyB) (e mo j : Nat) (x : Int32) : gB_wk (bSal s e mo j x) e = sW_en (gB_wk s e) (upSal (gW_en (gB_wk s e)) mo j x) := gsB_21 _ _ _
theorem bSal_up (s : tyB) (e mo j : Nat) (hj : mo ≤ j) (x : Int32) : sB_w (bSal s e mo j x) e (sW_en (gB_wk (bSal s e mo j x) e) (upd (gW_en (gB_wk (bSal s e mo j x) e)) j x)) = bSal s e mo (j + 1) x := by
  rw [bSal_wk]
  unfold bSal
  rw [sB_w_w]
  show sB_w s e (sW_en (gB_wk s e) (upd (upSal (gW_en (gB_wk s e)) mo j x) j x)) = _
  rw [upSal_up _ _ _ hj]
theorem s_chSalL {mo : Nat} (hb : 100 ≤ b) (he : e < 3) (hmo : mo < 12) (x v : Int32) : ∀ (i j : Nat), mo ≤ j → j + i = 12 → rn 22 45 [.ref b, .int (nI e), .int (nI mo), .int x, .int v, .int (nI j)] [] (blk b 37 (cB b (bSal s e mo j x)) H) = some (some (.int v), blk b 37 (cB b (bSal s e mo 12 x)) H) := by
  intro i
  induction i with
  | zero =>
    intro j hj h2
    rw [Nat.add_zero] at h2
    subst h2
    rw [zl_22_45]
    simp (implicitDefEqProofs := false) (disch := omega) only [ze_22, zr_22_0, zr_22_1, zr_22_4, zr_22_7, zr_22_8, zr_22_11, zr_22_14, zr_22_15, zr_22_16, zr_22_19, zr_22_22, zr_22_25, zr_22_26, zr_22_27, zr_22_28, zr_22_31, zr_22_32, zr_22_33, zr_22_36, zr_22_37, zr_22_38, zr_22_39, zr_22_40, zr_22_42, zr_22_43, zr_22_47, zr_22_49, zr_22_52, zr_22_53, zr_22_56, zr_22_57, zr_22_58, zr_22_61, zr_22_62, zr_22_64, zr_22_65, zr_22_66, zr_22_67, zr_22_70, zr_22_73, zr_22_75, true_or, or_true, true_and, and_true, if_true, if_false, ldA_ref, ldA_null, nl_int, nl_ref, nl_fl, nl_null, c1_int, c1_ref, c1_null, Nat.zero_add, Nat.zero_mul, Nat.one_mul, nI_add, nI_leI, nI_ltI, nI_eq, nI_mul, Nat.le_refl]
  | succ i ih =>
    intro j hj h2
    have e1 := ih (j + 1) (by omega) (by omega)
    have hw := BwW_en (blk_isB (a := b) (n := 37) (c := cB b (bSal s e mo j x)) (h := H)) hb he
    rw [zl_22_45]
    simp (implicitDefEqProofs := false) (disch := omega) only [ze_22, zr_22_0, zr_22_1, zr_22_4, zr_22_7, zr_22_8, zr_22_11, zr_22_14, zr_22_15, zr_22_16, zr_22_19, zr_22_22, zr_22_25, zr_22_26, zr_22_27, zr_22_28, zr_22_31, zr_22_32, zr_22_33, zr_22_36, zr_22_37, zr_22_38, zr_22_39, zr_22_40, zr_22_42, zr_22_43, zr_22_47, zr_22_49, zr_22_52, zr_22_53, zr_22_56, zr_22_57, zr_22_58, zr_22_61, zr_22_62, zr_22_64, zr_22_65, zr_22_66, zr_22_67, zr_22_70, zr_22_73, zr_22_75, true_or, or_true, true_and, and_true, if_true, if_false, ldA_ref, ldA_null, nl_int, nl_ref, nl_fl, nl_null, c1_int, c1_ref, c1_null, Nat.zero_add, Nat.zero_mul, Nat.one_mul, nI_add, nI_leI, nI_ltI, nI_eq, nI_mul, show ¬ 12 ≤ j from by omega, rdB_0 (blk_isB), rdB_1 (blk_isB), rdB_2 (blk_isB), rdB_3 (blk_isB), rdB_4 (blk_isB), rdB_5 (blk_isB), rdB_6 (blk_isB), rdB_7 (blk_isB), rdW_0 (B_W blk_isB he), rdW_1 (B_W blk_isB he), rdW_2 (B_W blk_isB he), rdW_3 (B_W blk_isB he), rdW_4 (B_W blk_isB he), rdW_5 (B_W blk_isB he), rdW_6 (B_W blk_isB he), rdW_7 (B_W blk_isB he), rdW_8 (B_W blk_isB he), rdW_9 (B_W blk_isB he), rdW_10 (B_W blk_isB he), rdW_11 (B_W blk_isB he), rdW_12 (B_W blk_isB he), rdW_13 (B_W blk_isB he), rdW_14 (B_W blk_isB he), rdW_15 (B_W blk_isB he), rdW_16 (B_W blk_isB he), rdW_17 (B_W blk_isB he), rdW_18 (B_W blk_isB he), rdW_19 (B_W blk_isB he), rdW_20 (B_W blk_isB he), rdW_21 (B_W blk_isB he), rdW_22 (B_W blk_isB he), rdW_23 (B_W blk_isB he), rdW_24 (B_W blk_isB he), rdW_25 (B_W blk_isB he), rdW_26 (B_W blk_isB he), rdW_27 (B_W blk_isB he), rdW_28 (B_W blk_isB he), rdW_29 (B_W blk_isB he), hw, bSal_up _ _ _ _ hj, blk_over, rf_some]
    exact e1
theorem s_chSal {mo : Nat} {x : Int32} (hB : isB H b 37 (cB b s)) (hb : 100 ≤ b) (he : e < 3) (hmo : mo < 12) (hx : nI 0 ≤ x ∧ x ≤ nI 9999) : ev 22 [.ref b, .int (nI e), .int (nI mo), .int x] H = some (some (.int (gW_en (gB_wk s e) mo)), blk b 37 (cB b (bSal s e mo 12 x)) H) := by
  have e1 := s_chSalL (H := H) (s := s) hb he hmo x (gW_en (gB_wk s e) mo) (12 - mo) mo (Nat.le_refl _) (by omega)
  rw [bSal_0, blk_id hB] at e1
  simp (implicitDefEqProofs := false) (disch := omega) only [ze_22, zr_22_0, zr_22_1, zr_22_4, zr_22_7, zr_22_8, zr_22_11, zr_22_14, zr_22_15, zr_22_16, zr_22_19, zr_22_22, zr_22_25, zr_22_26, zr_22_27, zr_22_28, zr_22_31, zr_22_32, zr_22_33, zr_22_36, zr_22_37, zr_22_38, zr_22_39, zr_22_40, zr_22_42, zr_22_43, zr_22_47, zr_22_49, zr_22_52, zr_22_53, zr_22_56, zr_22_57, zr_22_58, zr_22_61, zr_22_62, zr_22_64, zr_22_65, zr_22_66, zr_22_67, zr_22_70, zr_22_73, zr_22_75, true_or, or_true, true_and, and_true, if_true, if_false, ldA_ref, ldA_null, nl_int, nl_ref, nl_fl, nl_null, c1_int, c1_ref, c1_null, Nat.zero_add, Nat.zero_mul, Nat.one_mul, nI_add, nI_leI, nI_ltI, nI_eq, nI_mul, s_isEmployee, s_isMonth, s_within, bI_0, show ¬ ¬ (0 ≤ e ∧ e ≤ 2) from by omega, show ¬ ¬ (0 ≤ mo ∧ mo ≤ 11) from by omega, nn hx, bI_ok, zcall_some, zpush_some, zpush_none, zsum_ref, zsum_int, zsum_long, zsum_nil, zsum_null, Nat.reduceAdd, Nat.reduceLeDiff, if_true, rdB_0 (hB), rdB_1 (hB), rdB_2 (hB), rdB_3 (hB), rdB_4 (hB), rdB_5 (hB), rdB_6 (hB), rdB_7 (hB), rdW_0 (B_W hB he), rdW_1 (B_W hB he), rdW_2 (B_W hB he), rdW_3 (B_W hB he), rdW_4 (B_W hB he), rdW_5 (B_W hB he), rdW_6 (B_W hB he), rdW_7 (B_W hB he), rdW_8 (B_W hB he), rdW_9 (B_W hB he), rdW_10 (B_W hB he), rdW_11 (B_W hB he), rdW_12 (B_W hB he), rdW_13 (B_W hB he), rdW_14 (B_W hB he), rdW_15 (B_W hB he), rdW_16 (B_W hB he), rdW_17 (B_W hB he), rdW_18 (B_W hB he), rdW_19 (B_W hB he), rdW_20 (B_W hB he), rdW_21 (B_W hB he), rdW_22 (B_W hB he), rdW_23 (B_W hB he), rdW_24 (B_W hB he), rdW_25 (B_W hB he), rdW_26 (B_W hB he), rdW_27 (B_W hB he), rdW_28 (B_W hB he), rdW_29 (B_W hB he), rf_some]
  exact e1
end
