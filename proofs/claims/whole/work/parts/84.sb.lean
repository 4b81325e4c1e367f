/-! TEXT under construction: the JDK's StringBuilder with letters below 128 -/
theorem shr0 (x : Int32) : x >>> (nI 0 &&& 31) = x := sb_shr0 x
theorem shl0 (x : Int32) : x <<< (nI 0 &&& 31) = x := sb_shl0 x
theorem shr0' (x : Int32) : x >>> ((0 : Int32) &&& 31) = x := sb_shr0 x
theorem shl0' (x : Int32) : x <<< ((0 : Int32) &&& 31) = x := sb_shl0 x
theorem narB : ∀ c : Nat, c < 128 → vp_nar .byte (nI c) = nI c := by decide +kernel
theorem narB8 : ∀ c : Nat, c < 128 → (nI c).toInt8.toInt32 = nI c := by decide +kernel
theorem narB9 : ∀ c : Nat, c < 128 → vp_nar .byte (nI c).toInt8.toInt32 = nI c := by decide +kernel
theorem fitB9 : ∀ c : Nat, c < 128 → fits .byte (.int (nI c)) = true := by decide +kernel
theorem and255 : ∀ c : Nat, c < 128 → nI c &&& nI 255 = nI c := by decide +kernel
theorem narC9 : ∀ c : Nat, c < 128 → ((nI c).toUInt32 % 65536).toInt32 = nI c := by decide +kernel
theorem okC9 : ∀ c : Nat, c < 128 → decide (narrow .char (.int (nI c)) = .int (nI c)) = true := by decide +kernel
theorem c00 : (nI 0 = (0 : Int32)) = True := by simp [show nI 0 = (0 : Int32) from rfl]
theorem c01 : ((0 : Int32) = nI 0) = True := by simp [show nI 0 = (0 : Int32) from rfl]
theorem c10 : ((1 : Int32) = nI 0) = False := by
  apply propext
  exact ⟨fun h => absurd h (by decide), fun h => h.elim⟩
theorem nI_sub {a b : Nat} (h : b ≤ a) (ha : a < 2 ^ 31) : nI a - nI b = nI (a - b) := by
  apply Int32.toInt_inj.mp
  rw [Int32.toInt_sub, nI_toInt ha, nI_toInt (by omega), nI_toInt (by omega)]
  rw [Int.bmod_eq_of_le (by omega) (by omega)]
  omega
theorem nI_subLe {a b : Nat} (ha : a < 2 ^ 30) (hb : b < 2 ^ 30) : (nI a - nI b ≤ nI 0) = (a ≤ b) := by
  apply propext
  rw [Int32.le_iff_toInt_le, Int32.toInt_sub, nI_toInt (by omega), nI_toInt (by omega), nI_toInt (by omega)]
  rw [Int.bmod_eq_of_le (by omega) (by omega)]
  omega
def sbO (p : Nat) (ml : Int32) (n : Nat) : zC := .inr (0, [.ref p, .int (nI 0), .int ml, .int (nI n)])
def bytB (g : Nat → Int32) : Prop := ∀ i, fits .byte (.int (g i)) = true
def sbG (H : zH) (sb p cap : Nat) (ml : Int32) (g : Nat → Int32) (t : List Nat) : Prop := H.2.2 sb = sbO p ml t.length ∧ H.2.2 p = .inl (3, cap, .inl g) ∧ t.length ≤ cap ∧ cap ≤ 100000 ∧ bytB g ∧ (∀ j c, t[j]? = some c → c < 128 ∧ g j = nI c) ∧ p ≠ sb ∧ 100 ≤ p ∧ p < 100 + H.1
def sbB (H : zH) (sb cap : Nat) (t : List Nat) : Prop := ∃ p ml g, sbG H sb p cap ml g t
/-- what writing to a text may do to the heap -/
def txF (H' H : zH) (sb cap cap' N : Nat) : Prop := cap ≤ cap' ∧ (cap' = cap ∨ cap' ≤ 2 * N + 2) ∧ H.1 ≤ H'.1 ∧ H'.1 + cap ≤ H.1 + cap' ∧ H'.2.1 + 2 * cap ≤ H.2.1 + 2 * cap' ∧ ∀ q, q ≠ sb → q < 100 + H.1 → (zkd H q ≠ 1003 ∨ q < 100) → H'.2.2 q = H.2.2 q
section
variable {H H1 H2 : zH} {sb cap c1 c2 N p n : Nat} {t : List Nat} {g : Nat → Int32} {ml : Int32}
theorem txF.rf (H : zH) (sb cap N : Nat) : txF H H sb cap cap N := ⟨Nat.le_refl _, Or.inl rfl, Nat.le_refl _, Nat.le_refl _, Nat.le_refl _, fun _ _ _ _ => rfl⟩
theorem txF.kd (a : txF H1 H sb cap c1 N) {q : Nat} (h1 : q ≠ sb) (h2 : q < 100 + H.1) (h3 : zkd H q ≠ 1003 ∨ q < 100) : zkd H1 q ≠ 1003 ∨ q < 100 := by
  rw [kd_kc, a.2.2.2.2.2 q h1 h2 h3, ← kd_kc]; exact h3
theorem txF.tr (b : txF H2 H1 sb c1 c2 N) (a : txF H1 H sb cap c1 N) : txF H2 H sb cap c2 N := by
  have a1 := a.1
  have a2 := a.2.2.1
  have a3 := a.2.2.2.1
  have a4 := a.2.2.2.2.1
  have b1 := b.1
  have b2 := b.2.2.1
  have b3 := b.2.2.2.1
  have b4 := b.2.2.2.2.1
  refine ⟨by omega, ?_, by omega, by omega, by omega, fun q h1 h2 h3 => ?_⟩
  · rcases b.2.1 with h | h
    · rw [h]; exact a.2.1
    · exact Or.inr h
  · rw [b.2.2.2.2.2 q h1 (by omega) (a.kd h1 h2 h3)]
    exact a.2.2.2.2.2 q h1 h2 h3
theorem zb_at (h : sbG H sb p cap ml g t) : zkd H sb = 0 ∧ (∀ (β : Type) (f : Value → Option β), zgf H sb 0 0 f = f (.ref p)) ∧ (∀ (β : Type) (f : Value → Option β), zgf H sb 0 1 f = f (.int (nI 0))) ∧ (∀ (β : Type) (f : Value → Option β), zgf H sb 0 3 f = f (.int (nI t.length))) ∧ (∀ (β : Type) (f : Int32 → Option β), zal H p f = f (nI cap)) :=
  ⟨kd_c h.1, fun _ f => gf_c h.1 rfl f, fun _ f => gf_c h.1 rfl f, fun _ f => gf_c h.1 rfl f, fun _ f => al_c h.2.1 (by decide) f⟩
theorem zb_pf0 (h : sbG H sb p cap ml g t) (hs : 100 ≤ sb) (x : Nat) {β : Type} (f : zH → Option β) : zpf H sb 0 0 (.ref x) f = f (zset H sb (sbO x ml t.length)) := by
  rw [pf_c h.1 (Nat.le_of_ble_eq_true rfl) hs rfl f]; rfl
theorem zb_pf3 (h : sbG H sb p cap ml g t) (hs : 100 ≤ sb) (x : Nat) {β : Type} (f : zH → Option β) : zpf H sb 0 3 (.int (nI x)) f = f (zset H sb (sbO p ml x)) := by
  rw [pf_c h.1 (Nat.le_of_ble_eq_true rfl) hs rfl f]; rfl
theorem zset_at (a : Nat) (v : zC) : (zset H a v).2.2 a = v := if_pos rfl
theorem zset_ne {a q : Nat} {v : zC} (h : q ≠ a) : (zset H a v).2.2 q = H.2.2 q := if_neg h
theorem zset_1 (a : Nat) (v : zC) : (zset H a v).1 = H.1 := rfl
theorem zset_2 (a : Nat) (v : zC) : (zset H a v).2.1 = H.2.1 := rfl
theorem znew_at (v : zC) (z : Nat) : (znew H v z).2.2 (100 + H.1) = v := if_pos rfl
theorem znew_ne {q z : Nat} {v : zC} (h : q ≠ 100 + H.1) : (znew H v z).2.2 q = H.2.2 q := if_neg h
theorem cpB_c {s d n1 n2 n sp dp : Nat} {g1 g2 : Nat → Int32} (e1 : H.2.2 s = .inl (3, n1, .inl g1)) (e2 : H.2.2 d = .inl (3, n2, .inl g2)) (hf : bytB g1) (hd : 100 ≤ d) (h1 : sp + n ≤ n1) (h2 : dp + n ≤ n2) (hm1 : n1 < 2 ^ 31) (hm2 : n2 < 2 ^ 31) {β : Type} (f : zH → Option β) : zcpI H s (nI sp) d (nI dp) (nI n) f = f (zset H d (.inl (3, n2, .inl (va_cpy g1 g2 sp dp n)))) := by
  rw [zcpI, e1, e2]
  have k1 := nI_clamp (n := sp) (by omega)
  have k2 := nI_clamp (n := dp) (by omega)
  have k3 := nI_clamp (n := n) (by omega)
  refine (if_pos ⟨rfl, Or.inr ⟨rfl, fun i _ => hf _⟩, hd, nI_pos (by omega), nI_pos (by omega), nI_pos (by omega), by rw [k1, k3]; exact h1, by rw [k2, k3]; exact h2⟩).trans ?_
  rw [k1, k2, k3]
def nCap (q cap : Nat) : Nat := cap + (if q - cap < cap + 2 then cap + 2 else q - cap)
theorem s_newCap {q : Nat} (h : sbG H sb p cap ml g t) (hq : cap < q) (hq2 : q < 100000) (hc : cap < 100000) : ev 101 [.ref sb, .int (nI q)] H = some (some (.int (nI (nCap q cap))), H) := by
  have e1 : nI q - nI cap = nI (q - cap) := nI_sub (by omega) (by omega)
  have e2 : nI 2 <<< (nI 0 &&& 31) = nI 2 := shl0 _
  unfold nCap
  by_cases c : q - cap < cap + 2
  · rw [if_pos c]
    simp (implicitDefEqProofs := false) (disch := omega) only [ze_101, zr_101_0, zr_101_1, zr_101_4, zr_101_5, zr_101_6, zr_101_7, zr_101_8, zr_101_11, zr_101_12, zr_101_13, zr_101_14, zr_101_15, zr_101_16, zr_101_18, zr_101_19, zr_101_21, zr_101_22, zr_101_23, zr_101_24, zr_101_27, zr_101_28, zr_101_29, zr_101_32, zr_101_34, zr_101_36, zr_101_38, zr_101_44, zr_101_51, zr_101_53, zr_101_54, zr_101_57, zr_101_58, ze_102, zr_102_0, zr_102_1, zr_102_2, zr_102_3, zr_102_6, zr_102_7, zr_102_8, zr_102_9, zr_102_10, zr_102_13, zr_102_14, zr_102_16, zr_102_19, zr_102_20, zr_102_21, zr_102_22, zr_102_23, zr_102_26, true_or, or_true, true_and, and_true, if_true, if_false, ldA_ref, ldA_null, nl_int, nl_ref, nl_fl, nl_null, c1_int, c1_ref, c1_null, Nat.zero_add, Nat.zero_mul, Nat.one_mul, nI_add, nI_leI, nI_ltI, nI_eq, nI_mul, zb_at h, shl0, shr0, e1, c, show 0 < cap + (cap + 2) from by omega, show cap + (cap + 2) ≤ 2147483639 from by omega, show ¬ 2147483639 < cap + (cap + 2) from by omega, show ¬ cap + (cap + 2) ≤ 0 from by omega, show cap + (cap + 2) ≠ 2147483647 from by omega, zcall_some, zpush_some, zpush_none, zsum_ref, zsum_int, zsum_long, zsum_nil, zsum_null, Nat.reduceAdd, Nat.reduceLeDiff, if_true]
    done
  · rw [if_neg c]
    simp (implicitDefEqProofs := false) (disch := omega) only [ze_101, zr_101_0, zr_101_1, zr_101_4, zr_101_5, zr_101_6, zr_101_7, zr_101_8, zr_101_11, zr_101_12, zr_101_13, zr_101_14, zr_101_15, zr_101_16, zr_101_18, zr_101_19, zr_101_21, zr_101_22, zr_101_23, zr_101_24, zr_101_27, zr_101_28, zr_101_29, zr_101_32, zr_101_34, zr_101_36, zr_101_38, zr_101_44, zr_101_51, zr_101_53, zr_101_54, zr_101_57, zr_101_58, ze_102, zr_102_0, zr_102_1, zr_102_2, zr_102_3, zr_102_6, zr_102_7, zr_102_8, zr_102_9, zr_102_10, zr_102_13, zr_102_14, zr_102_16, zr_102_19, zr_102_20, zr_102_21, zr_102_22, zr_102_23, zr_102_26, true_or, or_true, true_and, and_true, if_true, if_false, ldA_ref, ldA_null, nl_int, nl_ref, nl_fl, nl_null, c1_int, c1_ref, c1_null, Nat.zero_add, Nat.zero_mul, Nat.one_mul, nI_add, nI_leI, nI_ltI, nI_eq, nI_mul, zb_at h, shl0, shr0, e1, c, show 0 < cap + (q - cap) from by omega, show cap + (q - cap) ≤ 2147483639 from by omega, show ¬ 2147483639 < cap + (q - cap) from by omega, show ¬ cap + (q - cap) ≤ 0 from by omega, show cap + (q - cap) ≠ 2147483647 from by omega, zcall_some, zpush_some, zpush_none, zsum_ref, zsum_int, zsum_long, zsum_nil, zsum_null, Nat.reduceAdd, Nat.reduceLeDiff, if_true]
    done
end
