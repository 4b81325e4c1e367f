/-! A CLOSING for one employee -/
def zZ (q a c : Nat) (d : tyS) (w : tyW) (du : tyD) (h : zH) : zH := blk q 3 (cS q d) (blk a 10 (cW a w) (blk c 2 (cD c du) h))
def dj3 (q a c r : Nat) : Prop := (a + 10 ≤ q ∨ q + 3 ≤ a) ∧ (c + 2 ≤ q ∨ q + 3 ≤ c) ∧ (c + 2 ≤ a ∨ a + 10 ≤ c) ∧ (r + 5 ≤ q ∨ q + 3 ≤ r) ∧ (r + 5 ≤ a ∨ a + 10 ≤ r) ∧ (r + 5 ≤ c ∨ c + 2 ≤ r)
section
variable {q a c r m n : Nat} {d : tyS} {w : tyW} {du : tyD} {s : tyR} {h : zH} {l : List Ln} {f : Int32}
theorem zZ_S : isB (zZ q a c d w du h) q 3 (cS q d) := blk_isB
theorem zZ_W (j : dj3 q a c r) : isB (zZ q a c d w du h) a 10 (cW a w) := isB_skip j.1 blk_isB
theorem zZ_D (j : dj3 q a c r) : isB (zZ q a c d w du h) c 2 (cD c du) := isB_skip j.2.1 (isB_skip j.2.2.1 blk_isB)
theorem zZ_R (j : dj3 q a c r) (hR : isB h r 5 (cR r s)) : isB (zZ q a c d w du h) r 5 (cR r s) := isB_skip j.2.2.2.1 (isB_skip j.2.2.2.2.1 (isB_skip j.2.2.2.2.2 hR))
theorem zZ_putD (j : dj3 q a c r) (du2 : tyD) : blk c 2 (cD c du2) (zZ q a c d w du h) = zZ q a c d w du2 h := by
  unfold zZ
  rw [blk_swap (a := c) (n := 2) (b := q) (m := 3) j.2.1, blk_swap (a := c) (n := 2) (b := a) (m := 10) j.2.2.1, blk_over]
theorem zZ_putW (j : dj3 q a c r) (w2 : tyW) : blk a 10 (cW a w2) (zZ q a c d w du h) = zZ q a c d w2 du h := by
  unfold zZ
  rw [blk_swap (a := a) (n := 10) (b := q) (m := 3) j.1, blk_over]
theorem z_fill (j : dj3 q a c r) (hc : 100 ≤ c) (hR : isB h r 5 (cR r s)) (hn : n ≤ 5) (hb : gR_bn s = nI n) : ev 60 [.ref r, .ref a, .ref (c + 1)] (zZ q a c d w du h) = some (none, zZ q a c d w (pDues s n w 60 du) h) := by
  have := s_fillDues (h := zZ q a c d w du h) hc (zZ_R j hR) (zZ_W j) j.2.2.2.2.2 (by rcases j.2.2.1 with h1 | h1 <;> omega) hn hb du
  rw [blk_id (zZ_D j), zZ_putD j] at this
  exact this
theorem z_set (j : dj3 q a c r) (ha : 100 ≤ a) (hm : m < 12) : ev 71 [.ref a, .int (nI m), .ref (c + 1)] (zZ q a c d w du h) = some (none, zZ q a c d (pSettle w du m) du h) := by
  have := s_settle (h := zZ q a c d w du h) (w := w) ha hm (zZ_D j) j.2.2.1
  rw [blk_id (zZ_W j), zZ_putW j] at this
  exact this
theorem z_own (j : dj3 q a c r) (hq : 100 ≤ q) (hm : m < 12) (hl : l.length ≤ 50) (hL : isL d l) : ∃ d', ev 66 [.ref c, .int (nI m), .ref q] (zZ q a c d w du h) = some (none, zZ q a c d' w du h) ∧ isL d' (l ++ pOwn du m 4) := s_addOwnLines hq hm (isB_skip j.2.2.1 blk_isB) j.2.1 hl hL
theorem z_cor (j : dj3 q a c r) (hq : 100 ≤ q) (hm : m < 12) (hl : l.length ≤ 50) (hL : isL d l) : ∃ d', ev 69 [.ref c, .ref a, .int (nI m), .int f, .ref q] (zZ q a c d w du h) = some (none, zZ q a c d' w du h) ∧ isL d' (l ++ pCor w du m (pReason w m f) 4) := s_addCorrections hq hm (isB_skip j.2.2.1 blk_isB) blk_isB j.2.1 j.1 hl hL
theorem z_gar (j : dj3 q a c r) (hq : 100 ≤ q) (ha : 100 ≤ a) (hn : n ≤ 3) (hg : gW_gc w = nI n) (hl : l.length ≤ 50) (hL : isL d l) (ab : Int64) : ∃ d', ev 74 [.ref c, .ref (a + 5), .long ab, .ref q] (zZ q a c d w du h) = some (none, zZ q a c d' (sW_gr w (pGst w ab n).2.1) du h) ∧ isL d' (l ++ (pGst w ab n).2.2) := s_addGarnishes hq ha hn hg j.1 hl hL
theorem z_add (hq : 100 ≤ q) (hL : isL d l) (hl : l.length < 54) (k i r : Int32) (x : Int64) : ev 68 [.ref q, .int k, .int i, .int r, .long x] (zZ q a c d w du h) = some (none, zZ q a c (pAdd d l.length (k, i, r, x)) w du h) := s_slipAdd hq hL hl k i r x
theorem z_pfO {β : Type} (j : dj3 q a c r) (ha : 100 ≤ a) (x : Int64) (g : zH → Option β) : zpf (zZ q a c d w du h) a 10 6 (.long x) g = g (zZ q a c d (sW_ow w x) du h) := by
  have := wrW_1 (h := zZ q a c d w du h) (a := a) (s := w) ha β x g
  rw [blk_id (zZ_W j), zZ_putW j] at this
  exact this
def pMax (x y : Int64) : Int64 := if y < x then x else y
theorem mx_f (x y : Int64) : (if y < x then x else y) = pMax x y := rfl
/-- the lines before the one owed, after corrections of so many months -/
def pLs (w : tyW) (D : Nat → Int64) (m : Nat) (f : Int32) : Nat → List Ln
  | 0 => pOwn D m 4
  | e + 1 => pLs w D m f e ++ pCor (pSetTo w D e) D e (pReason (pSetTo w D e) e f) 4
theorem pLs_len (w : tyW) (D : Nat → Int64) (m : Nat) (f : Int32) (e : Nat) : (pLs w D m f e).length ≤ 4 + 4 * e := by
  induction e with
  | zero => rw [pLs, pOwn_len]; omega
  | succ e ih =>
    have := pCor_len (pSetTo w D e) D e (pReason (pSetTo w D e) e f) 4
    rw [pLs, List.length_append]; omega
def pL2 (w : tyW) (D : Nat → Int64) (m : Nat) (f : Int32) : List Ln := if gW_ow w = 0 then pLs w D m f m else pLs w D m f m ++ [(nI 4, nI 0, nI 0, -gW_ow w)]
def pFlo (w : tyW) : Int64 := (gW_fl w).toInt64 * 1000000
def pGua (w : tyW) (D : Nat → Int64) (m : Nat) : Int64 := pMin (pFlo w) (D (48 + m))
def pOw (w : tyW) (D : Nat → Int64) (m : Nat) (f : Int32) : Int64 := pMax (pGua w D m - pSum (pL2 w D m f)) 0
def pAb (w : tyW) (D : Nat → Int64) (m : Nat) (f : Int32) : Int64 := pMax (pMax (pSum (pL2 w D m f)) (pGua w D m) - pFlo w) 0
def pW2 (w : tyW) (D : Nat → Int64) (m : Nat) (f : Int32) : tyW := sW_ow (pSetTo w D (m + 1)) (pOw w D m f)
def pW3 (w : tyW) (D : Nat → Int64) (m : Nat) (f : Int32) (n : Nat) : tyW := sW_gr (pW2 w D m f) (pGst (pW2 w D m f) (pAb w D m f) n).2.1
def pL3 (w : tyW) (D : Nat → Int64) (m : Nat) (f : Int32) (n : Nat) : List Ln := pL2 w D m f ++ (pGst (pW2 w D m f) (pAb w D m f) n).2.2
def pL4 (w : tyW) (D : Nat → Int64) (m : Nat) (f : Int32) (n : Nat) : List Ln := if pOw w D m f = 0 then pL3 w D m f n else pL3 w D m f n ++ [(nI 6, nI 0, nI 0, pOw w D m f)]
def pL5 (w : tyW) (D : Nat → Int64) (m : Nat) (f : Int32) (n : Nat) : List Ln := pL4 w D m f n ++ [(nI 7, nI 0, nI 0, pSum (pL4 w D m f n))]
theorem pSetTo_0 (w : tyW) (D : Nat → Int64) : pSetTo w D 0 = w := by
  have h1 : (fun q => if q % 12 < 0 ∧ q < 60 then D q else gW_am w q) = gW_am w := by
    funext q; exact if_neg (by omega)
  have h2 : (fun q => if q % 12 < 0 ∧ q < 36 then gW_en w q else gW_se w q) = gW_se w := by
    funext q; exact if_neg (by omega)
  unfold pSetTo
  rw [h1, h2]
  rfl
theorem z_mon (j : dj3 q a c r) (hq : 100 ≤ q) (ha : 100 ≤ a) (hm : m < 12) (v8 v9 v10 v11 v12 v13 v7 : Value) : ∀ (i e : Nat) (d : tyS), e + i = m → isL d (pLs w du m f e) → ∃ d', isL d' (pLs w du m f m) ∧ rn 59 27 [.ref c, .ref a, .int (nI m), .ref r, .int f, .ref q, .int (nI e), v7, v8, v9, v10, v11, v12, v13] [] (zZ q a c d (pSetTo w du e) du h) = rn 59 60 [.ref c, .ref a, .int (nI m), .ref r, .int f, .ref q, .int (nI m), v7, v8, v9, v10, v11, v12, v13] [] (zZ q a c d' (pSetTo w du m) du h) := by
  intro i
  induction i with
  | zero =>
    intro e d hd hL
    rw [Nat.add_zero] at hd
    subst hd
    refine ⟨d, hL, ?_⟩
    rw [zl_59_27]
    rw [zr_59_29, zr_59_30]
    simp (implicitDefEqProofs := false) (disch := omega) only [true_or, or_true, true_and, and_true, if_true, if_false, ldA_ref, ldA_null, nl_int, nl_ref, nl_fl, nl_null, c1_int, c1_ref, c1_null, Nat.zero_add, Nat.zero_mul, Nat.one_mul, nI_add, nI_leI, nI_ltI, nI_eq, nI_mul, Nat.le_refl]
  | succ i ih =>
    intro e d hd hL
    have he : e < m := by omega
    have hlen := pLs_len w du m f e
    obtain ⟨d', e1, hL'⟩ := z_cor (w := pSetTo w du e) (f := f) (h := h) (du := du) j hq (show e < 12 by omega) (show (pLs w du m f e).length ≤ 50 by omega) hL
    have e2 := z_set (w := pSetTo w du e) (d := d') (h := h) (du := du) j ha (show e < 12 by omega)
    rw [pSettle_to] at e2
    obtain ⟨d2, hL2, e3⟩ := ih (e + 1) d' (by omega) hL'
    refine ⟨d2, hL2, ?_⟩
    rw [← e3]
    rw [zl_59_27]
    -- up to the loop's head again: only the rules ahead of pc 60
    rw [zr_59_29, zr_59_30, if_neg (by rw [nI_leI (by omega) (by omega)]; omega)]
    simp (implicitDefEqProofs := false) (disch := omega) only [zr_59_33, zr_59_34, zr_59_35, zr_59_37, zr_59_39, zr_59_41, zr_59_44, zr_59_45, zr_59_47, zr_59_48, zr_59_51, zr_59_54, zr_59_57, true_or, or_true, true_and, and_true, if_true, if_false, ldA_ref, ldA_null, nl_int, nl_ref, nl_fl, nl_null, c1_int, c1_ref, c1_null, Nat.zero_add, Nat.zero_mul, Nat.one_mul, nI_add, nI_leI, nI_ltI, nI_eq, nI_mul, e1, e2, rdW_0 (zZ_W j), rdD_0 (zZ_D j), rdD_1 (zZ_D j), rdD_2 (zZ_D j), rdD_3 (zZ_D j), zcall_some, zpush_some, zpush_none, zsum_ref, zsum_int, zsum_long, zsum_nil, zsum_null, Nat.reduceAdd, Nat.reduceLeDiff, if_true]
theorem z_tail {L2 : List Ln} (j : dj3 q a c r) (hq : 100 ≤ q) (ha : 100 ≤ a) (hm : m < 12) {ng : Nat} (hng : ng ≤ 3) (hg : gW_gc w = nI ng) (hL : isL d L2) (hl : L2.length ≤ 49) (v7 v8 v9 v10 v11 v12 v13 : Value) (D : Nat → Int64)
    (ow ab : Int64) (how : ow = pMax (pGua w D m - pSum L2) 0) (hab : ab = pMax (pMax (pSum L2) (pGua w D m) - pFlo w) 0) :
    ∃ d', rn 59 91 [.ref c, .ref a, .int (nI m), .ref r, .int f, .ref q, .int (nI m), v7, v8, v9, v10, v11, v12, v13] [] (zZ q a c d w D h) = some (none, zZ q a c d' (sW_gr (sW_ow w ow) (pGst (sW_ow w ow) ab ng).2.1) D h) ∧
      isL d' ((if ow = 0 then L2 ++ (pGst (sW_ow w ow) ab ng).2.2 else L2 ++ (pGst (sW_ow w ow) ab ng).2.2 ++ [(nI 6, nI 0, nI 0, ow)]) ++ [(nI 7, nI 0, nI 0, pSum (if ow = 0 then L2 ++ (pGst (sW_ow w ow) ab ng).2.2 else L2 ++ (pGst (sW_ow w ow) ab ng).2.2 ++ [(nI 6, nI 0, nI 0, ow)]))]) := by
  obtain ⟨d1, e1, hL1⟩ := z_gar (w := sW_ow w ow) (h := h) (du := D) j hq ha hng (show gW_gc (sW_ow w ow) = nI ng from hg) (show L2.length ≤ 50 by omega) hL ab
  have hl1 := pGst_len (sW_ow w ow) ab ng
  have hsm : gS_sm d = pSum L2 := hL.2.2.1
  have hgu : pMin (pFlo w) (gD_du D (48 + m)) = pGua w D m := rfl
  have hfl : (gW_fl w).toInt64 * 1000000 = pFlo w := rfl
  have hln : (L2 ++ (pGst (sW_ow w ow) ab ng).2.2).length < 54 := by rw [List.length_append]; omega
  have hA := isL_add hL1 hln (nI 7, nI 0, nI 0, pSum (L2 ++ (pGst (sW_ow w ow) ab ng).2.2))
  have hB1 := isL_add hL1 hln (nI 6, nI 0, nI 0, ow)
  have hln2 : (L2 ++ (pGst (sW_ow w ow) ab ng).2.2 ++ [(nI 6, nI 0, nI 0, ow)]).length < 54 := by rw [List.length_append, List.length_append]; simp; omega
  have hB := isL_add hB1 hln2 (nI 7, nI 0, nI 0, pSum (L2 ++ (pGst (sW_ow w ow) ab ng).2.2 ++ [(nI 6, nI 0, nI 0, ow)]))
  have a1 := z_add (q := q) (a := a) (c := c) (w := sW_gr (sW_ow w ow) (pGst (sW_ow w ow) ab ng).2.1) (du := D) (h := h) hq hL1 hln
  have a2 := z_add (q := q) (a := a) (c := c) (w := sW_gr (sW_ow w ow) (pGst (sW_ow w ow) ab ng).2.1) (du := D) (h := h) hq hB1 hln2
  refine ⟨if ow = 0 then pAdd d1 (L2 ++ (pGst (sW_ow w ow) ab ng).2.2).length (nI 7, nI 0, nI 0, pSum (L2 ++ (pGst (sW_ow w ow) ab ng).2.2)) else pAdd (pAdd d1 (L2 ++ (pGst (sW_ow w ow) ab ng).2.2).length (nI 6, nI 0, nI 0, ow)) (L2 ++ (pGst (sW_ow w ow) ab ng).2.2 ++ [(nI 6, nI 0, nI 0, ow)]).length (nI 7, nI 0, nI 0, pSum (L2 ++ (pGst (sW_ow w ow) ab ng).2.2 ++ [(nI 6, nI 0, nI 0, ow)])), ?_, ?_⟩
  · simp (implicitDefEqProofs := false) (disch := omega) only [ze_59, zr_59_0, zr_59_1, zr_59_4, zr_59_7, zr_59_8, zr_59_9, zr_59_10, zr_59_11, zr_59_14, zr_59_17, zr_59_18, zr_59_19, zr_59_21, zr_59_24, zr_59_25, zr_59_29, zr_59_30, zr_59_33, zr_59_34, zr_59_35, zr_59_37, zr_59_39, zr_59_41, zr_59_44, zr_59_45, zr_59_47, zr_59_48, zr_59_51, zr_59_54, zr_59_57, zr_59_60, zr_59_61, zr_59_62, zr_59_63, zr_59_66, zr_59_69, zr_59_70, zr_59_73, zr_59_74, zr_59_75, zr_59_78, zr_59_80, zr_59_81, zr_59_82, zr_59_83, zr_59_84, zr_59_87, zr_59_88, zr_59_91, zr_59_93, zr_59_96, zr_59_98, zr_59_99, zr_59_102, zr_59_103, zr_59_106, zr_59_107, zr_59_109, zr_59_111, zr_59_112, zr_59_115, zr_59_117, zr_59_118, zr_59_119, zr_59_120, zr_59_123, zr_59_125, zr_59_126, zr_59_128, zr_59_130, zr_59_131, zr_59_132, zr_59_135, zr_59_138, zr_59_140, zr_59_142, zr_59_145, zr_59_147, zr_59_148, zr_59_149, zr_59_152, zr_59_154, zr_59_155, zr_59_156, zr_59_159, zr_59_161, zr_59_163, zr_59_166, zr_59_167, zr_59_170, zr_59_171, zr_59_172, zr_59_175, zr_59_177, zr_59_179, zr_59_180, zr_59_181, zr_59_182, zr_59_185, zr_59_188, zr_59_190, zr_59_192, zr_59_193, zr_59_194, zr_59_196, zr_59_199, zr_59_202, true_or, or_true, true_and, and_true, if_true, if_false, ldA_ref, ldA_null, nl_int, nl_ref, nl_fl, nl_null, c1_int, c1_ref, c1_null, Nat.zero_add, Nat.zero_mul, Nat.one_mul, nI_add, nI_leI, nI_ltI, nI_eq, nI_mul, cmp_lt, cmp_gt, cmp_le, cmp_ge, cmp_eq, rdS_0 (zZ_S), rdS_1 (zZ_S), rdS_2 (zZ_S), rdS_3 (zZ_S), rdS_4 (zZ_S), rdS_5 (zZ_S), rdS_6 (zZ_S), rdS_7 (zZ_S), rdS_8 (zZ_S), rdW_0 (zZ_W j), rdW_1 (zZ_W j), rdW_2 (zZ_W j), rdW_3 (zZ_W j), rdW_4 (zZ_W j), rdW_5 (zZ_W j), rdW_6 (zZ_W j), rdW_7 (zZ_W j), rdW_8 (zZ_W j), rdW_9 (zZ_W j), rdW_10 (zZ_W j), rdW_11 (zZ_W j), rdW_12 (zZ_W j), rdW_13 (zZ_W j), rdW_14 (zZ_W j), rdW_15 (zZ_W j), rdW_16 (zZ_W j), rdW_17 (zZ_W j), rdW_18 (zZ_W j), rdW_19 (zZ_W j), rdW_20 (zZ_W j), rdW_21 (zZ_W j), rdW_22 (zZ_W j), rdW_23 (zZ_W j), rdW_24 (zZ_W j), rdW_25 (zZ_W j), rdW_26 (zZ_W j), rdW_27 (zZ_W j), rdW_28 (zZ_W j), rdW_29 (zZ_W j), rdD_0 (zZ_D j), rdD_1 (zZ_D j), rdD_2 (zZ_D j), rdD_3 (zZ_D j), hsm, hfl, mn_f, mx_f, hgu, ← how, z_pfO j ha, ← hab, e1, gsW_0, gsW_1, gsW_2, gsW_3, gsW_4, gsW_5, gsW_6, gsW_7, gsW_8, gsW_9, gsW_10, gsW_11, gsW_12, gsW_13, gsW_14, gsW_15, gsW_16, gsW_17, gsW_18, gsW_19, gsW_20, gsW_21, gsW_22, gsW_23, gsW_24, gsW_25, gsW_26, gsW_27, gsW_28, gsW_29, gsW_30, gsW_31, gsW_32, gsW_33, gsW_34, gsW_35, gsW_36, gsW_37, gsW_38, gsW_39, gsW_40, gsW_41, gsW_42, gsW_43, gsW_44, gsW_45, gsW_46, gsW_47, gsW_48, gsW_49, gsW_50, gsW_51, gsW_52, gsW_53, gsW_54, gsW_55, gsW_56, gsW_57, gsW_58, gsW_59, gsW_60, gsW_61, gsW_62, gsW_63, gsW_64, gsW_65, gsW_66, gsW_67, gsW_68, gsW_69, gsW_70, gsW_71, gsW_72, gsW_73, gsW_74, gsW_75, gsW_76, gsW_77, gsW_78, gsW_79, gsW_80, gsW_81, gsW_82, gsW_83, gsW_84, gsW_85, gsW_86, gsW_87, gsW_88, gsW_89, gsW_90, gsW_91, gsW_92, gsW_93, gsW_94, gsW_95, gsW_96, gsW_97, gsW_98, gsW_99, gsW_100, gsW_101, gsW_102, gsW_103, gsW_104, gsW_105, gsW_106, gsW_107, gsW_108, gsW_109, gsW_110, gsW_111, gsW_112, gsW_113, gsW_114, gsW_115, gsW_116, gsW_117, gsW_118, gsW_119, gsW_120, hL1.2.2.1, hB1.2.2.1, a1, a2, zcall_some, zpush_some, zpush_none, zsum_ref, zsum_int, zsum_long, zsum_nil, zsum_null, Nat.reduceAdd, Nat.reduceLeDiff, if_true]
    by_cases h0 : ow = 0
    · rw [if_pos h0, if_pos h0]
    · rw [if_neg h0, if_neg h0]
  · by_cases h0 : ow = 0
    · rw [if_pos h0, if_pos h0]; exact hA
    · rw [if_neg h0, if_neg h0]; exact hB
theorem s_close (j : dj3 q a c r) (hq : 100 ≤ q) (ha : 100 ≤ a) (hc : 100 ≤ c) (hm : m < 12) (hR : isB h r 5 (cR r s)) (hn : n ≤ 5) (hb : gR_bn s = nI n) {ng : Nat} (hng : ng ≤ 3) (hg : gW_gc w = nI ng) (hL : isL d []) : ∃ d', ev 59 [.ref c, .ref a, .int (nI m), .ref r, .int f, .ref q] (zZ q a c d w du h) = some (none, zZ q a c d' (pW3 w (pDues s n w 60 du) m f ng) (pDues s n w 60 du) h) ∧ isL d' (pL5 w (pDues s n w 60 du) m f ng) := by
  generalize hD : pDues s n w 60 du = D
  have e0 := z_fill (d := d) (w := w) (du := du) (h := h) j hc hR hn hb
  rw [hD] at e0
  obtain ⟨d1, e1, hL1⟩ := z_own (w := w) (h := h) (du := D) j hq hm (show ([] : List Ln).length ≤ 50 by simp) hL
  rw [List.nil_append] at hL1
  have hlen := pLs_len w D m f m
  obtain ⟨d2, hL2, e2⟩ := z_mon (w := w) (h := h) (du := D) (f := f) j hq ha hm (.float 0) (.float 0) (.float 0) (.float 0) (.float 0) (.float 0) (.float 0) m 0 d1 (by omega) hL1
  rw [pSetTo_0] at e2
  have e3 := z_set (w := pSetTo w D m) (d := d2) (h := h) (du := D) j ha hm
  rw [pSettle_to] at e3
  have how : gW_ow (pSetTo w D (m + 1)) = gW_ow w := rfl
  have hpa : isL (if gW_ow w = 0 then d2 else pAdd d2 (pLs w D m f m).length (nI 4, nI 0, nI 0, -gW_ow w)) (pL2 w D m f) := by
    unfold pL2
    by_cases h0 : gW_ow w = 0
    · rw [if_pos h0, if_pos h0]; exact hL2
    · rw [if_neg h0, if_neg h0]; exact isL_add hL2 (by omega) _
  have hl2 : (pL2 w D m f).length ≤ 49 := by
    unfold pL2
    split
    · omega
    · rw [List.length_append]; simp; omega
  have a1 := z_add (q := q) (a := a) (c := c) (w := pSetTo w D (m + 1)) (du := D) (h := h) hq hL2 (by omega) (nI 4) (nI 0) (nI 0) (-gW_ow w)
  obtain ⟨d3, e4, hL3⟩ := z_tail (w := pSetTo w D (m + 1)) (h := h) (f := f) (r := r) j hq ha hm hng (show gW_gc (pSetTo w D (m + 1)) = nI ng from hg) hpa hl2 (.float 0) (.float 0) (.float 0) (.float 0) (.float 0) (.float 0) (.float 0) D (pOw w D m f) (pAb w D m f) rfl rfl
  refine ⟨d3, ?_, hL3⟩
  have e5 : ev 59 [.ref c, .ref a, .int (nI m), .ref r, .int f, .ref q] (zZ q a c d w du h) = rn 59 27 [.ref c, .ref a, .int (nI m), .ref r, .int f, .ref q, .int (nI 0), .float 0, .float 0, .float 0, .float 0, .float 0, .float 0, .float 0] [] (zZ q a c d1 w D h) := by
    simp (implicitDefEqProofs := false) (disch := omega) only [ze_59, zr_59_0, zr_59_1, zr_59_4, zr_59_7, zr_59_8, zr_59_9, zr_59_10, zr_59_11, zr_59_14, zr_59_17, zr_59_18, zr_59_19, zr_59_21, zr_59_24, zr_59_25, zr_59_29, zr_59_30, zr_59_33, zr_59_34, zr_59_35, zr_59_37, zr_59_39, zr_59_41, zr_59_44, zr_59_45, zr_59_47, zr_59_48, zr_59_51, zr_59_54, zr_59_57, zr_59_60, zr_59_61, zr_59_62, zr_59_63, zr_59_66, zr_59_69, zr_59_70, zr_59_73, zr_59_74, zr_59_75, zr_59_78, zr_59_80, zr_59_81, zr_59_82, zr_59_83, zr_59_84, zr_59_87, zr_59_88, zr_59_91, zr_59_93, zr_59_96, zr_59_98, zr_59_99, zr_59_102, zr_59_103, zr_59_106, zr_59_107, zr_59_109, zr_59_111, zr_59_112, zr_59_115, zr_59_117, zr_59_118, zr_59_119, zr_59_120, zr_59_123, zr_59_125, zr_59_126, zr_59_128, zr_59_130, zr_59_131, zr_59_132, zr_59_135, zr_59_138, zr_59_140, zr_59_142, zr_59_145, zr_59_147, zr_59_148, zr_59_149, zr_59_152, zr_59_154, zr_59_155, zr_59_156, zr_59_159, zr_59_161, zr_59_163, zr_59_166, zr_59_167, zr_59_170, zr_59_171, zr_59_172, zr_59_175, zr_59_177, zr_59_179, zr_59_180, zr_59_181, zr_59_182, zr_59_185, zr_59_188, zr_59_190, zr_59_192, zr_59_193, zr_59_194, zr_59_196, zr_59_199, zr_59_202, true_or, or_true, true_and, and_true, if_true, if_false, ldA_ref, ldA_null, nl_int, nl_ref, nl_fl, nl_null, c1_int, c1_ref, c1_null, s_isMonth, bI_0, Nat.zero_add, Nat.zero_mul, Nat.one_mul, nI_add, nI_leI, nI_ltI, nI_eq, nI_mul, show ¬ ¬ (0 ≤ m ∧ m ≤ 11) from by omega, rdR_0 (zZ_R j hR), rdD_0 (zZ_D j), rdD_1 (zZ_D j), rdD_2 (zZ_D j), rdD_3 (zZ_D j), e0, e1, zcall_some, zpush_some, zpush_none, zsum_ref, zsum_int, zsum_long, zsum_nil, zsum_null, Nat.reduceAdd, Nat.reduceLeDiff, if_true]
  rw [e5, e2, ← show _ = some (none, zZ q a c d3 (pW3 w D m f ng) D h) from e4]
  simp (implicitDefEqProofs := false) (disch := omega) only [zr_59_60, zr_59_61, zr_59_62, zr_59_63, zr_59_66, zr_59_69, zr_59_70, zr_59_73, zr_59_74, zr_59_75, zr_59_78, zr_59_80, zr_59_81, zr_59_82, zr_59_83, zr_59_84, zr_59_87, zr_59_88, true_or, or_true, true_and, and_true, if_true, if_false, ldA_ref, ldA_null, nl_int, nl_ref, nl_fl, nl_null, c1_int, c1_ref, c1_null, Nat.zero_add, Nat.zero_mul, Nat.one_mul, nI_add, nI_leI, nI_ltI, nI_eq, nI_mul, cmp_lt, cmp_gt, cmp_le, cmp_ge, cmp_eq, rdD_0 (zZ_D j), rdD_1 (zZ_D j), rdD_2 (zZ_D j), rdD_3 (zZ_D j), rdW_0 (zZ_W j), rdW_1 (zZ_W j), rdW_2 (zZ_W j), rdW_3 (zZ_W j), rdW_4 (zZ_W j), rdW_5 (zZ_W j), rdW_6 (zZ_W j), rdW_7 (zZ_W j), rdW_8 (zZ_W j), rdW_9 (zZ_W j), rdW_10 (zZ_W j), rdW_11 (zZ_W j), rdW_12 (zZ_W j), rdW_13 (zZ_W j), rdW_14 (zZ_W j), rdW_15 (zZ_W j), rdW_16 (zZ_W j), rdW_17 (zZ_W j), rdW_18 (zZ_W j), rdW_19 (zZ_W j), rdW_20 (zZ_W j), rdW_21 (zZ_W j), rdW_22 (zZ_W j), rdW_23 (zZ_W j), rdW_24 (zZ_W j), rdW_25 (zZ_W j), rdW_26 (zZ_W j), rdW_27 (zZ_W j), rdW_28 (zZ_W j), rdW_29 (zZ_W j), rdS_0 zZ_S, e3, how, a1, zcall_some, zpush_some, zpush_none, zsum_ref, zsum_int, zsum_long, zsum_nil, zsum_null, Nat.reduceAdd, Nat.reduceLeDiff, if_true]
  by_cases h0 : gW_ow w = 0
  · rw [if_pos h0, if_pos h0]
  · rw [if_neg h0, if_neg h0]
end
