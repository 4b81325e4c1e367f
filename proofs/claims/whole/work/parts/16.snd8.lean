/-! SOUNDNESS, last part: every instruction; runs -/
section
variable {E : zE} {p : Program} {l : Launch} {e : Env} {R : Room} {s : State} {m : MethodId} {args : Array Value} {below : List Frame} {meth : Method} {c : Code} {Q : State → Prop} {M : Nat} {hs h : zH} {pc n : Nat} {L S : List Value}
theorem zcal_no {y : Nat} {A : List Value} {pc1 : Nat} {L1 r1 : List Value} {h1 : zH} {x : zCfg} (e : zcal y A pc1 L1 r1 h1 = some (.inl x)) : False := by
  unfold zcal at e
  split at e <;> cases e
theorem y_inv (C : zCtx E p l R s m args meth c M) {op i : Nat} (hi : i < 2000) (hd : decode (zmb M) pc = .ok (if op = 0 then .invokestatic i else if op = 1 then .invokespecial i else .invokevirtual i, 3)) {pc2 : Nat} {L2 S2 : List Value} {h2 : zH} (he : zinv op M pc L S h i = some (.inl (pc2, L2, S2, h2))) :
    (h.1 ≤ h2.1 ∧ h.2.1 ≤ h2.2.1) ∧ (h2.1 - hs.1 ≤ R.cells → h2.2.1 - hs.2.1 ≤ R.slots → zWp E p l e R s m args below meth c Q M hs h2 pc2 L2 S2 → zWp E p l e R s m args below meth c Q M hs h pc L S) := by
  have ht := C.2.2.2.2.1
  have own := C.2.2.2.1
  unfold zinv at he
  split at he
  · rename_i y k rc hst
    split at he
    · rename_i hop
      subst hop
      split at he
      · rename_i x dp d sp s1 r
        split at he
        · rename_i h8
          obtain ⟨q1, q2⟩ := zarrcopy (hs := hs) (Q := Q) (below := below) (e := e) C hi hd hst h8 he
          exact ⟨q1, fun _ _ => q2⟩
        · cases he
      · cases he
    · cases he
  · rename_i y k rc hst
    have hP := zAll_lk zst_ok hst
    unfold zsP at hP
    dsimp only at hP
    rw [(zkey hi).1, (zkey hi).2] at hP
    obtain ⟨w1, w2, w3, w4, w5⟩ := hP
    split at he
    · rename_i hop
      subst hop
      split at he
      · rename_i o r
        split at he
        · rename_i h8
          obtain ⟨rfl, rfl, rfl, rfl⟩ := z_go he
          refine ⟨zle_rf, fun _ _ K H locs ls hR hS hl => ?_⟩
          refine W.objInit C.1 C.2.1 own (ht _ w1) (ht _ w2) (ht _ w3) rfl (hl.1.1.trans C.2.2.1.symm) rfl hd (Nat.le_trans w4 C.2.2.2.2.2.2.2.1) ?_ (K H locs ls hR hS hl)
          show 2 * 0 + ((S2.map (zv E)).map fun v => v.category).sum + 12 ≤ _
          rw [zsum_map C.2.2.2.2.2.2.2.2.2.1]
          have := C.2.2.2.2.2.2.2.2.1
          omega
        · cases he
      · cases he
    · cases he
  · rename_i y k rc hst
    have hP := zAll_lk zst_ok hst
    unfold zsP at hP
    dsimp only at hP
    rw [(zkey hi).1, (zkey hi).2] at hP
    obtain ⟨⟨my, mb, ml, mr, w0, w1, w2, w3⟩, w4, w5, w6⟩ := hP
    split at he
    · rename_i hop
      subst hop
      have hfr : 1 ≤ R.frames := Nat.le_trans w5 C.2.2.2.2.2.2.2.1
      have hlo := C.2.2.2.2.2.2.2.2.1
      unfold zmath at he
      split at he
      · obtain ⟨x, y, r, rfl, hz⟩ := z_I2 he
        dsimp only at hz
        by_cases h8 : zsum r ≤ 8
        · rw [if_pos h8] at hz
          obtain ⟨rfl, rfl, rfl, rfl⟩ := z_go hz
          cases w0
          refine ⟨zle_rf, fun g1 g2 K H locs ls hR hS hl => ?_⟩
          exact va_mmax C.1 C.2.1 (C.2.2.1.trans hl.1.1.symm) own (ht _ w1) (ht _ w2) (ht _ w4) (ht _ w3) hfr (by have := zsum_map (E := E) C.2.2.2.2.2.2.2.2.2.1 r; omega) g1 g2 hd (K H locs ls hR hS hl)
        · rw [if_neg h8] at hz; cases hz
      · obtain ⟨x, y, r, rfl, hz⟩ := z_I2 he
        dsimp only at hz
        by_cases h8 : zsum r ≤ 8
        · rw [if_pos h8] at hz
          obtain ⟨rfl, rfl, rfl, rfl⟩ := z_go hz
          cases w0
          refine ⟨zle_rf, fun g1 g2 K H locs ls hR hS hl => ?_⟩
          exact va_mmin C.1 C.2.1 (C.2.2.1.trans hl.1.1.symm) own (ht _ w1) (ht _ w2) (ht _ w4) (ht _ w3) hfr (by have := zsum_map (E := E) C.2.2.2.2.2.2.2.2.2.1 r; omega) g1 g2 hd (K H locs ls hR hS hl)
        · rw [if_neg h8] at hz; cases hz
      · obtain ⟨x, y, r, rfl, hz⟩ := z_J2 he
        dsimp only at hz
        by_cases h8 : zsum r ≤ 8
        · rw [if_pos h8] at hz
          obtain ⟨rfl, rfl, rfl, rfl⟩ := z_go hz
          cases w0
          refine ⟨zle_rf, fun g1 g2 K H locs ls hR hS hl => ?_⟩
          exact va_mmax_long C.1 C.2.1 (C.2.2.1.trans hl.1.1.symm) own (ht _ w1) (ht _ w2) (ht _ w4) (ht _ w3) hfr (by have := zsum_map (E := E) C.2.2.2.2.2.2.2.2.2.1 r; omega) g1 g2 hd (K H locs ls hR hS hl)
        · rw [if_neg h8] at hz; cases hz
      · obtain ⟨x, y, r, rfl, hz⟩ := z_J2 he
        dsimp only at hz
        by_cases h8 : zsum r ≤ 8
        · rw [if_pos h8] at hz
          obtain ⟨rfl, rfl, rfl, rfl⟩ := z_go hz
          cases w0
          refine ⟨zle_rf, fun g1 g2 K H locs ls hR hS hl => ?_⟩
          exact va_mmin_long C.1 C.2.1 (C.2.2.1.trans hl.1.1.symm) own (ht _ w1) (ht _ w2) (ht _ w4) (ht _ w3) hfr (by have := zsum_map (E := E) C.2.2.2.2.2.2.2.2.2.1 r; omega) g1 g2 hd (K H locs ls hR hS hl)
        · rw [if_neg h8] at hz; cases hz
      · obtain ⟨x, r, rfl, hz⟩ := z_J1 he
        dsimp only at hz
        by_cases h8 : zsum r ≤ 8
        · rw [if_pos h8] at hz
          obtain ⟨rfl, rfl, rfl, rfl⟩ := z_go hz
          cases w0
          refine ⟨zle_rf, fun g1 g2 K H locs ls hR hS hl => ?_⟩
          exact va_mabs_long C.1 C.2.1 (C.2.2.1.trans hl.1.1.symm) own (ht _ w1) (ht _ w2) (ht _ w4) (ht _ w3) hfr (by have := zsum_map (E := E) C.2.2.2.2.2.2.2.2.2.1 r; omega) g1 g2 hd (K H locs ls hR hS hl)
        · rw [if_neg h8] at hz; cases hz
      · cases he
    · cases he
  · exfalso
    split at he
    · split at he
      · exact zcal_no he
      · split at he
        · split at he
          · exact zcal_no he
          · split at he
            · exact zcal_no he
            · cases he
        · cases he
    · cases he
  · cases he
/-- every step that stays in the frame -/
theorem zstep_in (C : zCtx E p l R s m args meth c M) {i : Instr} (hd : zdec M pc = some (i, n)) : zStep E p l e R s m args below meth c Q M hs h pc n L S i := by
  obtain ⟨hd, hl⟩ := zdec_ok hd
  cases i with
  | aconst_null =>
    simp only [zlen, beq_iff_eq] at hl
    subst hl
    exact y_null C hd
  | iadd =>
    simp only [zlen, beq_iff_eq] at hl
    subst hl
    exact y_iadd C hd
  | isub =>
    simp only [zlen, beq_iff_eq] at hl
    subst hl
    exact y_isub C hd
  | imul =>
    simp only [zlen, beq_iff_eq] at hl
    subst hl
    exact y_imul C hd
  | iand =>
    simp only [zlen, beq_iff_eq] at hl
    subst hl
    exact y_iand C hd
  | ior =>
    simp only [zlen, beq_iff_eq] at hl
    subst hl
    exact y_ior C hd
  | ishl =>
    simp only [zlen, beq_iff_eq] at hl
    subst hl
    exact y_ishl C hd
  | ishr =>
    simp only [zlen, beq_iff_eq] at hl
    subst hl
    exact y_ishr C hd
  | idiv =>
    simp only [zlen, beq_iff_eq] at hl
    subst hl
    exact y_idiv C hd
  | irem =>
    simp only [zlen, beq_iff_eq] at hl
    subst hl
    exact y_irem C hd
  | ineg =>
    simp only [zlen, beq_iff_eq] at hl
    subst hl
    exact y_ineg C hd
  | ladd =>
    simp only [zlen, beq_iff_eq] at hl
    subst hl
    exact y_ladd C hd
  | lsub =>
    simp only [zlen, beq_iff_eq] at hl
    subst hl
    exact y_lsub C hd
  | lmul =>
    simp only [zlen, beq_iff_eq] at hl
    subst hl
    exact y_lmul C hd
  | ldiv =>
    simp only [zlen, beq_iff_eq] at hl
    subst hl
    exact y_ldiv C hd
  | lrem =>
    simp only [zlen, beq_iff_eq] at hl
    subst hl
    exact y_lrem C hd
  | lneg =>
    simp only [zlen, beq_iff_eq] at hl
    subst hl
    exact y_lneg C hd
  | lcmp =>
    simp only [zlen, beq_iff_eq] at hl
    subst hl
    exact y_lcmp C hd
  | i2l =>
    simp only [zlen, beq_iff_eq] at hl
    subst hl
    exact y_i2l C hd
  | l2i =>
    simp only [zlen, beq_iff_eq] at hl
    subst hl
    exact y_l2i C hd
  | i2b =>
    simp only [zlen, beq_iff_eq] at hl
    subst hl
    exact y_i2b C hd
  | i2c =>
    simp only [zlen, beq_iff_eq] at hl
    subst hl
    exact y_i2c C hd
  | dup =>
    simp only [zlen, beq_iff_eq] at hl
    subst hl
    exact y_dup C hd
  | pop =>
    simp only [zlen, beq_iff_eq] at hl
    subst hl
    exact y_pop C hd
  | dup_x1 =>
    simp only [zlen, beq_iff_eq] at hl
    subst hl
    exact y_dup_x1 C hd
  | dup2 =>
    simp only [zlen, beq_iff_eq] at hl
    subst hl
    exact y_dup2 C hd
  | arraylength =>
    simp only [zlen, beq_iff_eq] at hl
    subst hl
    exact y_arraylength C hd
  | iaload =>
    simp only [zlen, beq_iff_eq] at hl
    subst hl
    exact y_iaload C hd
  | caload =>
    simp only [zlen, beq_iff_eq] at hl
    subst hl
    exact y_caload C hd
  | baload =>
    simp only [zlen, beq_iff_eq] at hl
    subst hl
    exact y_baload C hd
  | laload =>
    simp only [zlen, beq_iff_eq] at hl
    subst hl
    exact y_laload C hd
  | aaload =>
    simp only [zlen, beq_iff_eq] at hl
    subst hl
    exact y_aaload C hd
  | iastore =>
    simp only [zlen, beq_iff_eq] at hl
    subst hl
    exact y_iastore C hd
  | castore =>
    simp only [zlen, beq_iff_eq] at hl
    subst hl
    exact y_castore C hd
  | bastore =>
    simp only [zlen, beq_iff_eq] at hl
    subst hl
    exact y_bastore C hd
  | lastore =>
    simp only [zlen, beq_iff_eq] at hl
    subst hl
    exact y_lastore C hd
  | aastore =>
    simp only [zlen, beq_iff_eq] at hl
    subst hl
    exact y_aastore C hd
  | iconst k =>
    simp only [zlen, beq_iff_eq] at hl
    subst hl
    exact y_iconst C hd
  | lconst k =>
    simp only [zlen, beq_iff_eq] at hl
    subst hl
    exact y_lconst C hd
  | iload k =>
    simp only [zlen, beq_iff_eq] at hl
    subst hl
    exact y_iload C hd
  | iload_n k =>
    simp only [zlen, beq_iff_eq] at hl
    subst hl
    exact y_iload_n C hd
  | lload k =>
    simp only [zlen, beq_iff_eq] at hl
    subst hl
    exact y_lload C hd
  | lload_n k =>
    simp only [zlen, beq_iff_eq] at hl
    subst hl
    exact y_lload_n C hd
  | aload k =>
    simp only [zlen, beq_iff_eq] at hl
    subst hl
    exact y_aload C hd
  | aload_n k =>
    simp only [zlen, beq_iff_eq] at hl
    subst hl
    exact y_aload_n C hd
  | istore k =>
    simp only [zlen, beq_iff_eq] at hl
    subst hl
    exact y_istore C hd
  | istore_n k =>
    simp only [zlen, beq_iff_eq] at hl
    subst hl
    exact y_istore_n C hd
  | lstore k =>
    simp only [zlen, beq_iff_eq] at hl
    subst hl
    exact y_lstore C hd
  | lstore_n k =>
    simp only [zlen, beq_iff_eq] at hl
    subst hl
    exact y_lstore_n C hd
  | astore k =>
    simp only [zlen, beq_iff_eq] at hl
    subst hl
    exact y_astore C hd
  | astore_n k =>
    simp only [zlen, beq_iff_eq] at hl
    subst hl
    exact y_astore_n C hd
  | bipush k =>
    simp only [zlen, beq_iff_eq] at hl
    subst hl
    exact y_bipush C hd
  | sipush k =>
    simp only [zlen, beq_iff_eq] at hl
    subst hl
    exact y_sipush C hd
  | iinc k d =>
    simp only [zlen, beq_iff_eq] at hl
    subst hl
    exact y_iinc C hd
  | goto k =>
    simp only [zlen, beq_iff_eq] at hl
    subst hl
    exact y_goto C hd
  | ifCond k d =>
    simp only [zlen, beq_iff_eq] at hl
    subst hl
    exact y_ifCond C hd
  | if_icmp k d =>
    simp only [zlen, beq_iff_eq] at hl
    subst hl
    exact y_if_icmp C hd
  | ifnull k =>
    simp only [zlen, beq_iff_eq] at hl
    subst hl
    exact y_ifnull C hd
  | ifnonnull k =>
    simp only [zlen, beq_iff_eq] at hl
    subst hl
    exact y_ifnonnull C hd
  | tableswitch a b d g => exact y_tableswitch C hd
  | newarray k =>
    simp only [zlen, beq_iff_eq] at hl
    subst hl
    exact y_newarray C hd
  | getfield k =>
    simp only [zlen, beq_iff_eq, Bool.and_eq_true, decide_eq_true_eq] at hl
    obtain ⟨rfl, hi⟩ := hl
    exact y_getfield C hi hd
  | putfield k =>
    simp only [zlen, beq_iff_eq, Bool.and_eq_true, decide_eq_true_eq] at hl
    obtain ⟨rfl, hi⟩ := hl
    exact y_putfield C hi hd
  | getstatic k =>
    simp only [zlen, beq_iff_eq, Bool.and_eq_true, decide_eq_true_eq] at hl
    obtain ⟨rfl, hi⟩ := hl
    exact y_getstatic C hi hd
  | new k =>
    simp only [zlen, beq_iff_eq, Bool.and_eq_true, decide_eq_true_eq] at hl
    obtain ⟨rfl, hi⟩ := hl
    exact y_new C hi hd
  | anewarray k =>
    simp only [zlen, beq_iff_eq, Bool.and_eq_true, decide_eq_true_eq] at hl
    obtain ⟨rfl, hi⟩ := hl
    exact y_anewarray C hi hd
  | ldc k =>
    simp only [zlen, beq_iff_eq, Bool.and_eq_true, decide_eq_true_eq] at hl
    obtain ⟨rfl, hi⟩ := hl
    exact y_ldc C hi hd
  | ldc_w k =>
    simp only [zlen, beq_iff_eq, Bool.and_eq_true, decide_eq_true_eq] at hl
    obtain ⟨rfl, hi⟩ := hl
    exact y_ldc_w C hi hd
  | ldc2_w k =>
    simp only [zlen, beq_iff_eq, Bool.and_eq_true, decide_eq_true_eq] at hl
    obtain ⟨rfl, hi⟩ := hl
    exact y_ldc2_w C hi hd
  | invokestatic k =>
    simp only [zlen, beq_iff_eq, Bool.and_eq_true, decide_eq_true_eq] at hl
    obtain ⟨rfl, hi⟩ := hl
    exact fun pc2 L2 S2 h2 he => let q := y_inv (op := 0) C hi hd he; ⟨q.1, fun _ _ g3 g4 => q.2 g3 g4⟩
  | invokespecial k =>
    simp only [zlen, beq_iff_eq, Bool.and_eq_true, decide_eq_true_eq] at hl
    obtain ⟨rfl, hi⟩ := hl
    exact fun pc2 L2 S2 h2 he => let q := y_inv (op := 1) C hi hd he; ⟨q.1, fun _ _ g3 g4 => q.2 g3 g4⟩
  | invokevirtual k =>
    simp only [zlen, beq_iff_eq, Bool.and_eq_true, decide_eq_true_eq] at hl
    obtain ⟨rfl, hi⟩ := hl
    exact fun pc2 L2 S2 h2 he => let q := y_inv (op := 2) C hi hd he; ⟨q.1, fun _ _ g3 g4 => q.2 g3 g4⟩
  | ireturn => intro pc2 L2 S2 h2 he; simp only [zins, zrt] at he; split at he; (split at he <;> cases he); cases he
  | lreturn => intro pc2 L2 S2 h2 he; simp only [zins, zrt] at he; split at he; (split at he <;> cases he); cases he
  | areturn => intro pc2 L2 S2 h2 he; simp only [zins, zrt] at he; split at he; (split at he; (split at he <;> cases he); cases he); cases he
  | return_ => intro pc2 L2 S2 h2 he; simp only [zins, zrt] at he; split at he; (split at he <;> cases he); cases he
  | _ => intro pc2 L2 S2 h2 he; cases he
/-- a return -/
def zRetI (M pc : Nat) (v : Option Value) : Prop := zrok M v = true ∧ ((decode (zmb M) pc = .ok (.ireturn, 1) ∧ ∃ x, v = some (.int x)) ∨ (decode (zmb M) pc = .ok (.lreturn, 1) ∧ ∃ x, v = some (.long x)) ∨ (decode (zmb M) pc = .ok (.areturn, 1) ∧ ∃ w, v = some w ∧ zisA w = true) ∨ (decode (zmb M) pc = .ok (.return_, 1) ∧ v = none))
theorem z_rt {v v2 : Option Value} {h2 : zH} (he : zrt M v h = some (.inr (.inl (v2, h2)))) : v2 = v ∧ h2 = h ∧ zrok M v = true := by
  unfold zrt at he
  split at he
  · cases he; exact ⟨rfl, rfl, by assumption⟩
  · cases he
theorem zcp_nor {s1 : Nat} {sp : Int32} {d : Nat} {dp k : Int32} {f : zH → zStp} {x : zRet} (hf : ∀ h, f h ≠ some (.inr (.inl x))) (e : zcpI h s1 sp d dp k f = some (.inr (.inl x))) : False := zcp_no hf e
theorem zinv_nor {op i : Nat} {x : zRet} (he : zinv op M pc L S h i = some (.inr (.inl x))) : False := by
  have hc : ∀ (y : Nat) (A : List Value) (pc1 : Nat) (L1 r1 : List Value) (h1 : zH), zcal y A pc1 L1 r1 h1 = some (.inr (.inl x)) → False := by
    intro y A pc1 L1 r1 h1 e
    unfold zcal at e
    split at e <;> cases e
  unfold zinv at he
  split at he
  · split at he
    · split at he
      · split at he
        · exact zcp_no (fun h => zgo_no) he
        · cases he
      · cases he
    · cases he
  · split at he
    · split at he
      · split at he
        · exact zgo_no he
        · cases he
      · cases he
    · cases he
  · split at he
    · exact zmath_no (fun v r h => by split at h; exact zgo_no h; cases h) he
    · cases he
  · split at he
    · split at he
      · exact hc _ _ _ _ _ _ he
      · split at he
        · split at he
          · exact hc _ _ _ _ _ _ he
          · split at he
            · exact hc _ _ _ _ _ _ he
            · cases he
        · cases he
    · cases he
  · cases he
end
