/-! THE CLASS'S TEXT: amounts -/
theorem narC : ∀ c : Nat, c < 128 → vp_nar .char (nI c) = nI c := by decide +kernel
theorem J_b {n : Nat} (hn : n < 2 ^ 31) : (J n).toInt32 = nI n := by
  rw [← J_nI hn]; exact Int32.toInt32_toInt64 _
theorem dig64 {L : Nat} (hL : L < 2 ^ 63) : ((48 : Int64) + (J L - J L / 10 * 10)).toInt32 = nI (48 + L % 10) := by
  rw [show (10 : Int64) = J 10 from rfl, show (48 : Int64) = J 48 from rfl, J_div (by omega) (by omega) (by omega) (by omega), J_mul, J_sub, J_add, ← J_b (n := 48 + L % 10) (by omega)]
  congr 2
  omega
theorem div64 {L : Nat} (hL : L < 2 ^ 63) : J L / 10 = J ((L / 10 : Nat) : Int) := by
  rw [show (10 : Int64) = J 10 from rfl, J_div (by omega) (by omega) (by omega) (by omega)]
  congr 1
theorem dig65 {L : Nat} (hL : L < 2 ^ 63) : ((48 : Int64) + (J L - J ((L / 10 : Nat) : Int) * 10)).toInt32 = nI (48 + L % 10) := by
  rw [← div64 hL]; exact dig64 hL
theorem pos64 {L : Nat} (hL : L < 2 ^ 63) : (J L ≤ 0) = (L = 0) := by
  rw [J_0, J_le (by omega) (by omega) (by omega) (by omega)]
  apply propext; omega
section
variable {H H1 H2 : zH} {tx cap c1 c2 N p n a : Nat} {t l : List Nat} {x : Int64}
theorem zset_zset (a : Nat) (u v : zC) : zset (zset H a u) a v = zset H a v := by
  refine Prod.ext rfl (Prod.ext rfl (funext fun q => ?_))
  show (if q = a then v else if q = a then u else H.2.2 q) = if q = a then v else H.2.2 q
  by_cases hq : q = a
  · rw [if_pos hq, if_pos hq]
  · rw [if_neg hq, if_neg hq, if_neg hq]
theorem s_digL (ht : 100 ≤ tx) (ho : H.2.2 tx = .inr (8, [.ref (tx + 1), .ref (tx + 3)])) : ∀ (f L : Nat) (d : Nat → Int32) (suf : List Nat) (v6 : Value), suf.length + (f + 1) = 19 → L < 10 ^ (f + 1) → L < 2 ^ 63 → (∀ i c, suf[i]? = some c → c < 128 ∧ d (f + 1 + i) = nI c) → ∃ d' fi lft, rn 140 25 [.ref tx, .long x, .float 0, .long (J L), .float 0, .int (nI (f + 1)), v6] [] (zset H (tx + 3) (.inl (2, 19, .inl d))) = rn 140 67 [.ref tx, .long x, .float 0, lft, .float 0, .int (nI fi), .int (nI fi)] [] (zset H (tx + 3) (.inl (2, 19, .inl d'))) ∧ fi + (dgF (f + 1) L ++ suf).length = 19 ∧ ∀ i c, (dgF (f + 1) L ++ suf)[i]? = some c → c < 128 ∧ d' (fi + i) = nI c := by
  intro f
  induction f with
  | zero =>
    intro L d suf v6 h1 h2 h3 h4
    have hL : L < 10 := by simpa using h2
    have hob : (zset H (tx + 3) (.inl (2, 19, .inl d))).2.2 tx = .inr (8, [.ref (tx + 1), .ref (tx + 3)]) := (zset_ne (by omega)).trans ho
    have k1 : ∀ (β : Type) (g : Value → Option β), zgf (zset H (tx + 3) (.inl (2, 19, .inl d))) tx 8 1 g = g (.ref (tx + 3)) := fun _ g => gf_c hob rfl g
    have k2 : ∀ (β : Type) (g : zH → Option β), zsi (zset H (tx + 3) (.inl (2, 19, .inl d))) (tx + 3) 2 (nI 0) (nI (48 + L % 10)) g = g (zset H (tx + 3) (.inl (2, 19, .inl (upd d 0 (nI (48 + L % 10)))))) := fun _ g => by rw [si_c (zset_at _ _) (by omega) (by omega) (by omega) _ g, zset_zset]
    have e1 : nI (0 + 1) + (-1) = nI 0 := by decide
    have hd : dgF (0 + 1) L = [48 + L] := if_pos hL
    refine ⟨upd d 0 (nI (48 + L % 10)), 0, .long (J ((L / 10 : Nat) : Int)), ?_, by rw [hd, List.length_append]; simp; omega, fun i c hi => ?_⟩
    · have hp0 : (J ((L / 10 : Nat) : Int) ≤ 0) = True := by rw [pos64 (by omega)]; simp; omega
      rw [zl_140_25]
      simp (implicitDefEqProofs := false) (disch := omega) only [zr_140_28, zr_140_29, zr_140_32, zr_140_34, zr_140_37, zr_140_38, zr_140_41, zr_140_42, zr_140_43, zr_140_44, zr_140_45, zr_140_46, zr_140_47, zr_140_50, zr_140_51, zr_140_52, zr_140_53, zr_140_54, zr_140_55, zr_140_58, zr_140_60, zr_140_63, zr_140_65, true_or, or_true, true_and, and_true, if_true, if_false, ldA_ref, ldA_null, nl_int, nl_ref, nl_fl, nl_null, c1_int, c1_ref, c1_null, Nat.zero_add, Nat.zero_mul, Nat.one_mul, nI_add, nI_leI, nI_ltI, nI_eq, nI_mul, cmp_lt, cmp_gt, cmp_le, cmp_ge, cmp_eq, e1, k1, dvJ_10, dig65 h3, narC9 (48 + L % 10) (by omega), narC (48 + L % 10) (by omega), k2, div64 h3, hp0, c1_int, c1_ref]
      done
    · rw [hd] at hi
      by_cases h0 : i = 0
      · subst h0
        have hc : c = 48 + L := by
          have : some (48 + L) = some c := hi
          exact (Option.some.inj this).symm
        subst hc
        refine ⟨by omega, ?_⟩
        show (if 0 + 0 = 0 then nI (48 + L % 10) else d (0 + 0)) = nI (48 + L)
        rw [if_pos rfl, show L % 10 = L by omega]
      · obtain ⟨j, rfl⟩ : ∃ j, i = j + 1 := ⟨i - 1, by omega⟩
        obtain ⟨a1, a2⟩ := h4 j c (by simpa using hi)
        refine ⟨a1, ?_⟩
        show (if 0 + (j + 1) = 0 then _ else d (0 + (j + 1))) = nI c
        rw [if_neg (by omega), show 0 + (j + 1) = 0 + 1 + j by omega]; exact a2
  | succ f ih =>
    intro L d suf v6 h1 h2 h3 h4
    have hob : (zset H (tx + 3) (.inl (2, 19, .inl d))).2.2 tx = .inr (8, [.ref (tx + 1), .ref (tx + 3)]) := (zset_ne (by omega)).trans ho
    have k1 : ∀ (β : Type) (g : Value → Option β), zgf (zset H (tx + 3) (.inl (2, 19, .inl d))) tx 8 1 g = g (.ref (tx + 3)) := fun _ g => gf_c hob rfl g
    have k2 : ∀ (β : Type) (g : zH → Option β), zsi (zset H (tx + 3) (.inl (2, 19, .inl d))) (tx + 3) 2 (nI (f + 1)) (nI (48 + L % 10)) g = g (zset H (tx + 3) (.inl (2, 19, .inl (upd d (f + 1) (nI (48 + L % 10)))))) := fun _ g => by rw [si_c (zset_at _ _) (by omega) (by omega) (by omega) _ g, zset_zset]
    have e1 : nI (f + 1 + 1) + (-1) = nI (f + 1) := by
      have := nI_pred (f + 1)
      rw [← this]; exact (Int32.sub_eq_add_neg _ _).symm
    have hsuf : ∀ i c, ((48 + L % 10) :: suf)[i]? = some c → c < 128 ∧ upd d (f + 1) (nI (48 + L % 10)) (f + 1 + i) = nI c := fun i c hi => by
      by_cases h0 : i = 0
      · subst h0
        have hc : c = 48 + L % 10 := by
          have : some (48 + L % 10) = some c := hi
          exact (Option.some.inj this).symm
        subst hc
        exact ⟨by omega, if_pos rfl⟩
      · obtain ⟨j, rfl⟩ : ∃ j, i = j + 1 := ⟨i - 1, by omega⟩
        obtain ⟨a1, a2⟩ := h4 j c (by simpa using hi)
        refine ⟨a1, ?_⟩
        show (if f + 1 + (j + 1) = f + 1 then _ else d (f + 1 + (j + 1))) = nI c
        rw [if_neg (by omega), show f + 1 + (j + 1) = f + 1 + 1 + j by omega]; exact a2
    by_cases hL : L < 10
    · have hd : dgF (f + 1 + 1) L = [48 + L] := if_pos hL
      have hp0 : (J ((L / 10 : Nat) : Int) ≤ 0) = True := by rw [pos64 (by omega)]; simp; omega
      refine ⟨upd d (f + 1) (nI (48 + L % 10)), f + 1, .long (J ((L / 10 : Nat) : Int)), ?_, by rw [hd, List.length_append]; simp; omega, fun i c hi => ?_⟩
      · rw [zl_140_25]
        simp (implicitDefEqProofs := false) (disch := omega) only [zr_140_28, zr_140_29, zr_140_32, zr_140_34, zr_140_37, zr_140_38, zr_140_41, zr_140_42, zr_140_43, zr_140_44, zr_140_45, zr_140_46, zr_140_47, zr_140_50, zr_140_51, zr_140_52, zr_140_53, zr_140_54, zr_140_55, zr_140_58, zr_140_60, zr_140_63, zr_140_65, true_or, or_true, true_and, and_true, if_true, if_false, ldA_ref, ldA_null, nl_int, nl_ref, nl_fl, nl_null, c1_int, c1_ref, c1_null, Nat.zero_add, Nat.zero_mul, Nat.one_mul, nI_add, nI_leI, nI_ltI, nI_eq, nI_mul, cmp_lt, cmp_gt, cmp_le, cmp_ge, cmp_eq, e1, k1, dvJ_10, dig65 h3, narC9 (48 + L % 10) (by omega), narC (48 + L % 10) (by omega), k2, div64 h3, hp0, c1_int, c1_ref]
        done
      · rw [hd] at hi
        refine hsuf i c ?_
        rw [show L % 10 = L by omega]; exact hi
    · have hd : dgF (f + 1 + 1) L = dgF (f + 1) (L / 10) ++ [48 + L % 10] := if_neg hL
      have hp : 10 ^ (f + 1 + 1) = 10 * 10 ^ (f + 1) := by rw [Nat.pow_succ, Nat.mul_comm]
      obtain ⟨d', fi, lft, e2, e3, e4⟩ := ih (L / 10) (upd d (f + 1) (nI (48 + L % 10))) ((48 + L % 10) :: suf) v6 (by simp; omega) (by omega) (by omega) hsuf
      have hp0 : (J ((L / 10 : Nat) : Int) ≤ 0) = False := by rw [pos64 (by omega)]; simp; omega
      refine ⟨d', fi, lft, ?_, by rw [hd, List.append_assoc]; exact e3, fun i c hi => by rw [hd, List.append_assoc] at hi; exact e4 i c hi⟩
      rw [← e2, zl_140_25]
      simp (implicitDefEqProofs := false) (disch := omega) only [zr_140_28, zr_140_29, zr_140_32, zr_140_34, zr_140_37, zr_140_38, zr_140_41, zr_140_42, zr_140_43, zr_140_44, zr_140_45, zr_140_46, zr_140_47, zr_140_50, zr_140_51, zr_140_52, zr_140_53, zr_140_54, zr_140_55, zr_140_58, zr_140_60, true_or, or_true, true_and, and_true, if_true, if_false, ldA_ref, ldA_null, nl_int, nl_ref, nl_fl, nl_null, c1_int, c1_ref, c1_null, Nat.zero_add, Nat.zero_mul, Nat.one_mul, nI_add, nI_leI, nI_ltI, nI_eq, nI_mul, cmp_lt, cmp_gt, cmp_le, cmp_ge, cmp_eq, e1, k1, dvJ_10, dig65 h3, narC9 (48 + L % 10) (by omega), narC (48 + L % 10) (by omega), k2, div64 h3, hp0, show 0 < f + 1 from by omega, c1_int, c1_ref]
      done
end
