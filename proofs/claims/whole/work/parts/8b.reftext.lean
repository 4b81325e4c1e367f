/-! THE REFERENCE'S TEXT -/
def wTxt (r : Rst) (g : Nat → Int32) (n : Nat) : Rst := wWm (wWr r g) (nI n)
def okW (g : Nat → Int32) (t : List Nat) : Prop := ∀ j c, t[j]? = some c → c < 128 ∧ g j = nI c
theorem okW_add {g : Nat → Int32} {t : List Nat} {c : Nat} (h : okW g t) (hc : c < 128) : okW (upd g t.length (nI c)) (t ++ [c]) := fun j d hj => by
  rcases app_at hj with hj | ⟨rfl, rfl⟩
  · obtain ⟨a1, a2⟩ := h j d hj
    have hjl : j < t.length := (List.getElem?_eq_some_iff.mp hj).1
    refine ⟨a1, ?_⟩
    show (if j = t.length then nI c else g j) = nI d
    rw [if_neg (by omega)]; exact a2
  · exact ⟨hc, if_pos rfl⟩
section
variable {m : Nat} {r : Rst} {h : zH} {t : List Nat} {g : Nat → Int32}
theorem s_rwrite {c : Nat} (hm : 100 ≤ m) (hw : okW g t) (hl : t.length < 2160) (hc : c < 128) : ∃ g', ev 262 [.ref m, .int (nI c)] (putM m (wTxt r g t.length) h) = some (none, putM m (wTxt r g' (t ++ [c]).length) h) ∧ okW g' (t ++ [c]) := by
  refine ⟨upd g t.length (nI c), ?_, okW_add hw hc⟩
  have e1 : rWm (wTxt r g t.length) = nI t.length := rfl
  have e2 : rWr (wTxt r g t.length) = g := rfl
  simp (implicitDefEqProofs := false) (disch := omega) only [ze_262, zr_262_0, zr_262_1, zr_262_4, zr_262_5, zr_262_8, zr_262_9, zr_262_10, zr_262_11, zr_262_12, zr_262_15, zr_262_16, zr_262_17, zr_262_20, true_or, or_true, true_and, and_true, if_true, if_false, ldA_ref, ldA_null, nl_int, nl_ref, nl_fl, nl_null, c1_int, c1_ref, c1_null, Nat.zero_add, Nat.zero_mul, Nat.one_mul, nI_add, nI_leI, nI_ltI, nI_eq, nI_mul, gf_M, e1, narC c hc, si_M6 hm (show t.length < 2160 by omega), e2, pf_M9 hm, rw_all, c1_ref, c1_int, zcall_some, zpush_some, zpush_none, zsum_ref, zsum_int, zsum_long, zsum_nil, zsum_null, Nat.reduceAdd, Nat.reduceLeDiff, if_true]
  rw [List.length_append]
  rfl
theorem s_strAt {H : zH} {a i c : Nat} {l : List Nat} (hs : stOK H a l) (hi : l[i]? = some c) : ev 183 [.ref a, .int (nI i)] H = some (some (.int (nI c)), H) := by
  obtain ⟨gs, h1, h2, h3, h4, h5, h6⟩ := hs
  have hil : i < l.length := (List.getElem?_eq_some_iff.mp hi).1
  obtain ⟨a1, a2⟩ := h4 i c hi
  have k1 : zkd H a = 13 := kd_c h1
  have k2 : ∀ (β : Type) (f : Value → Option β), zgf H a 13 0 f = f (.ref (a + 1)) := fun _ f => gf_c h1 rfl f
  have k3 : ∀ (β : Type) (f : Value → Option β), zgf H a 13 1 f = f (.int 0) := fun _ f => gf_c h1 rfl f
  have k4 : ∀ (β : Type) (f : Int32 → Option β), zal H (a + 1) f = f (nI l.length) := fun _ f => al_c h2 (by decide) f
  have k5 : ∀ (β : Type) (f : Int32 → Option β), zli H (a + 1) 3 (nI i) f = f (nI c) := fun _ f => by rw [li_c h2 hil (by omega) f, a2]
  simp (implicitDefEqProofs := false) (disch := omega) only [ze_183, zr_183_0, zr_183_1, zr_183_4, zr_183_7, zr_183_8, zr_183_11, zr_183_12, zr_183_15, zr_183_16, zr_183_17, zr_183_20, zr_183_21, zr_183_24, ze_184, zr_184_0, zr_184_3, zr_184_6, zr_184_7, zr_184_10, zr_184_13, zr_184_14, zr_184_17, zr_184_18, ze_185, zr_185_0, zr_185_1, zr_185_2, zr_185_3, zr_185_6, zr_185_7, zr_185_8, zr_185_9, zr_185_12, zr_185_13, zr_185_14, ze_138, zr_138_0, zr_138_1, zr_138_2, zr_138_5, zr_138_8, zr_138_9, ze_139v, ze_139, zr_139_0, zr_139_1, zr_139_4, zr_139_5, zr_139_6, zr_139_9, zr_139_10, zr_139_11, zr_139_16, zr_139_17, true_or, or_true, true_and, and_true, if_true, if_false, ldA_ref, ldA_null, nl_int, nl_ref, nl_fl, nl_null, c1_int, c1_ref, c1_null, Nat.zero_add, Nat.zero_mul, Nat.one_mul, nI_add, nI_leI, nI_ltI, nI_eq, nI_mul, k1, k2, k3, k4, k5, c10, c01, bI_ok, show ¬ (1 : Nat) = 0 from by omega, show ¬ l.length ≤ i from by omega, show ¬ i < 0 from by omega, show i < l.length from hil, and255 c a1, narC9 c a1, okC9 c a1, zcall_some, zpush_some, zpush_none, zsum_ref, zsum_int, zsum_long, zsum_nil, zsum_null, Nat.reduceAdd, Nat.reduceLeDiff, if_true]
  done
theorem stOK_M {H : zH} {a : Nat} {l : List Nat} (hm : 100 ≤ m) (hs : stOK (putM m r h) a l) (r2 : Rst) : stOK (putM m r2 h) a l := hs.to fun q hq => by rw [putM_out _ _ (Or.inl (by omega)), putM_out _ _ (Or.inl (by omega))]
theorem s_rnameL {a : Nat} {l t0 : List Nat} {k : Value} (hm : 100 ≤ m) (hs : stOK (putM m r h) a l) (hl : t0.length + l.length < 2160) : ∀ (j i : Nat) (g : Nat → Int32), i + j = l.length → okW g (t0 ++ l.take i) → ∃ g', rn 261 75 [.ref m, k, .ref a, .int (nI i)] [] (putM m (wTxt r g (t0 ++ l.take i).length) h) = some (none, putM m (wTxt r g' (t0 ++ l).length) h) ∧ okW g' (t0 ++ l) := by
  intro j
  induction j with
  | zero =>
    intro i g hi hw
    have hi2 : i = l.length := by omega
    subst hi2
    rw [List.take_length] at hw ⊢
    have hln := s_strLen (stOK_M (H := h) hm hs (wTxt r g (t0 ++ l).length))
    refine ⟨g, ?_, hw⟩
    have k1 : zkd (putM m (wTxt r g (t0 ++ l).length) h) a = 13 := by
      obtain ⟨gs, h1, -⟩ := stOK_M (H := h) hm hs (wTxt r g (t0 ++ l).length)
      exact kd_c h1
    rw [zl_261_75]
    simp (implicitDefEqProofs := false) (disch := omega) only [ze_261, zr_261_0, zr_261_1, zr_261_4, zr_261_6, zr_261_9, zr_261_10, zr_261_11, zr_261_14, zr_261_16, zr_261_19, zr_261_20, zr_261_21, zr_261_24, zr_261_26, zr_261_29, zr_261_30, zr_261_31, zr_261_34, zr_261_36, zr_261_39, zr_261_40, zr_261_41, zr_261_44, zr_261_46, zr_261_49, zr_261_50, zr_261_51, zr_261_54, zr_261_56, zr_261_59, zr_261_60, zr_261_62, zr_261_65, zr_261_67, zr_261_70, zr_261_72, zr_261_73, zr_261_74, zr_261_76, zr_261_77, zr_261_80, zr_261_83, zr_261_84, zr_261_85, zr_261_86, zr_261_89, zr_261_92, zr_261_95, zr_261_98, true_or, or_true, true_and, and_true, if_true, if_false, ldA_ref, ldA_null, nl_int, nl_ref, nl_fl, nl_null, c1_int, c1_ref, c1_null, Nat.zero_add, Nat.zero_mul, Nat.one_mul, nI_add, nI_leI, nI_ltI, nI_eq, nI_mul, k1, hln, Nat.le_refl, c1_ref, c1_int, zcall_some, zpush_some, zpush_none, zsum_ref, zsum_int, zsum_long, zsum_nil, zsum_null, Nat.reduceAdd, Nat.reduceLeDiff, if_true]
  | succ j ih =>
    intro i g hi hw
    have hil : i < l.length := by omega
    have hs2 := stOK_M (H := h) hm hs (wTxt r g (t0 ++ l.take i).length)
    have hln := s_strLen hs2
    have hgt : l[i]? = some l[i] := List.getElem?_eq_getElem hil
    have hat := s_strAt hs2 hgt
    have hc : l[i] < 128 := by
      obtain ⟨gs, h1, h2, h3, h4, -⟩ := hs
      exact (h4 i _ hgt).1
    have k1 : zkd (putM m (wTxt r g (t0 ++ l.take i).length) h) a = 13 := by
      obtain ⟨gs, h1, -⟩ := hs2
      exact kd_c h1
    obtain ⟨g1, e1, w1⟩ := s_rwrite (r := r) (h := h) hm hw (by rw [List.length_append, List.length_take]; omega) hc
    have ht : t0 ++ l.take i ++ [l[i]] = t0 ++ l.take (i + 1) := by
      rw [List.append_assoc, List.take_succ, hgt]; rfl
    rw [ht] at e1 w1
    obtain ⟨g2, e2, w2⟩ := ih (i + 1) g1 (by omega) w1
    refine ⟨g2, ?_, w2⟩
    rw [← e2, zl_261_75]
    simp (implicitDefEqProofs := false) (disch := omega) only [ze_261, zr_261_0, zr_261_1, zr_261_4, zr_261_6, zr_261_9, zr_261_10, zr_261_11, zr_261_14, zr_261_16, zr_261_19, zr_261_20, zr_261_21, zr_261_24, zr_261_26, zr_261_29, zr_261_30, zr_261_31, zr_261_34, zr_261_36, zr_261_39, zr_261_40, zr_261_41, zr_261_44, zr_261_46, zr_261_49, zr_261_50, zr_261_51, zr_261_54, zr_261_56, zr_261_59, zr_261_60, zr_261_62, zr_261_65, zr_261_67, zr_261_70, zr_261_72, zr_261_73, zr_261_74, zr_261_76, zr_261_77, zr_261_80, zr_261_83, zr_261_84, zr_261_85, zr_261_86, zr_261_89, zr_261_92, zr_261_95, zr_261_98, true_or, or_true, true_and, and_true, if_true, if_false, ldA_ref, ldA_null, nl_int, nl_ref, nl_fl, nl_null, c1_int, c1_ref, c1_null, Nat.zero_add, Nat.zero_mul, Nat.one_mul, nI_add, nI_leI, nI_ltI, nI_eq, nI_mul, k1, kd_M, hln, show ¬ l.length ≤ i from by omega, hat, e1, c1_ref, c1_int, zcall_some, zpush_some, zpush_none, zsum_ref, zsum_int, zsum_long, zsum_nil, zsum_null, Nat.reduceAdd, Nat.reduceLeDiff, if_true]
    done
def nmB (k : Nat) : Nat := if k = 0 then 50 else if k = 1 then 52 else if k = 2 then 54 else if k = 3 then 56 else if k = 4 then 58 else if k = 5 then 60 else if k = 6 then 62 else 64
theorem s_rname {k : Nat} (hm : 100 ≤ m) (hk : k < 8) (hs : stOK (putM m r h) (nmB k) (nmT k)) (hw : okW g t) (hl : t.length + 7 < 2160) : ∃ g', ev 261 [.ref m, .int (nI k)] (putM m (wTxt r g t.length) h) = some (none, putM m (wTxt r g' (t ++ nmT k).length) h) ∧ okW g' (t ++ nmT k) := by
  have hn := nmT_len k
  obtain ⟨g1, e1, w1⟩ := s_rnameL (r := r) (h := h) (t0 := t) (k := .int (nI k)) hm hs (by omega) (nmT k).length 0 g (by omega) (by rw [List.take_zero, List.append_nil]; exact hw)
  rw [List.take_zero, List.append_nil] at e1
  refine ⟨g1, ?_, w1⟩
  rw [← e1]
  match k, hk with
  | 0, _ | 1, _ | 2, _ | 3, _ | 4, _ | 5, _ | 6, _ | 7, _ =>
    simp (implicitDefEqProofs := false) (disch := omega) only [ze_261, zr_261_0, zr_261_1, zr_261_4, zr_261_6, zr_261_9, zr_261_10, zr_261_11, zr_261_14, zr_261_16, zr_261_19, zr_261_20, zr_261_21, zr_261_24, zr_261_26, zr_261_29, zr_261_30, zr_261_31, zr_261_34, zr_261_36, zr_261_39, zr_261_40, zr_261_41, zr_261_44, zr_261_46, zr_261_49, zr_261_50, zr_261_51, zr_261_54, zr_261_56, zr_261_59, zr_261_60, zr_261_62, zr_261_65, zr_261_67, zr_261_70, zr_261_72, zr_261_73, zr_261_74, zr_261_76, zr_261_77, zr_261_80, zr_261_83, zr_261_84, zr_261_85, zr_261_86, zr_261_89, zr_261_92, zr_261_95, zr_261_98, true_or, or_true, true_and, and_true, if_true, if_false, ldA_ref, ldA_null, nl_int, nl_ref, nl_fl, nl_null, c1_int, c1_ref, c1_null, nI_eq, Nat.reduceEqDiff, Nat.reduceLT, not_true_eq_false, not_false_eq_true, ne_eq]
    rfl
  | k + 8, h => omega
/-- digits, the first ahead -/
def emF (L : Nat) : Nat → List Nat
  | 0 => [48 + L % 10]
  | k + 1 => (48 + L / 10 ^ (k + 1) % 10) :: emF L k
theorem emF_snoc (L : Nat) : ∀ k, emF (L / 10) k ++ [48 + L % 10] = emF L (k + 1)
  | 0 => by simp [emF]
  | k + 1 => by
    rw [emF, List.cons_append, emF_snoc L k]
    show _ = (48 + L / 10 ^ (k + 1 + 1) % 10) :: emF L (k + 1)
    rw [Nat.div_div_eq_div_mul, show 10 * 10 ^ (k + 1) = 10 ^ (k + 1 + 1) by rw [Nat.pow_succ 10 (k + 1), Nat.mul_comm]]
theorem dgF_em : ∀ k f L, k < f → (k = 0 ∨ 10 ^ k ≤ L) → L < 10 ^ (k + 1) → dgF f L = emF L k
  | 0, f, L, hk, h1, h2 => by
    obtain ⟨f2, rfl⟩ : ∃ f2, f = f2 + 1 := ⟨f - 1, by omega⟩
    have hL : L < 10 := by simpa using h2
    rw [dgF, if_pos hL, emF, Nat.mod_eq_of_lt hL]
  | k + 1, f, L, hk, h1, h2 => by
    obtain ⟨f2, rfl⟩ : ∃ f2, f = f2 + 1 := ⟨f - 1, by omega⟩
    have hp : 0 < 10 ^ k := Nat.pow_pos (by omega)
    have e1 : 10 ^ (k + 1) = 10 * 10 ^ k := by rw [Nat.pow_succ, Nat.mul_comm]
    have e2 : 10 ^ (k + 1 + 1) = 10 * 10 ^ (k + 1) := by rw [Nat.pow_succ, Nat.mul_comm]
    have h3 : 10 ^ (k + 1) ≤ L := h1.resolve_left (by omega)
    rw [dgF, if_neg (by omega), dgF_em k f2 (L / 10) (by omega) (Or.inr (by omega)) (by omega), emF_snoc]
theorem dvJ_J {a : Int} (h1 : 0 < a) (h2 : a < 2 ^ 63) (q : zRes) : dvJ (J a) q = q := if_neg (fun h => by
  have h3 : (J a).toInt = (0 : Int64).toInt := by rw [h]
  rw [J_toInt (by omega) h2] at h3
  have : (0 : Int64).toInt = 0 := rfl
  omega)
end
