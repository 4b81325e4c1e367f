/-! SOUNDNESS, third part: arithmetic, the stack, branches -/
section
variable {E : zE} {p : Program} {l : Launch} {e : Env} {R : Room} {s : State} {m : MethodId} {args : Array Value} {below : List Frame} {meth : Method} {c : Code} {Q : State → Prop} {M : Nat} {hs h : zH} {pc n : Nat} {L S : List Value}
theorem y_iadd (C : zCtx E p l R s m args meth c M) (hd : decode (zmb M) pc = .ok (.iadd, 1)) : zStep E p l e R s m args below meth c Q M hs h pc 1 L S .iadd := by
  intro pc2 L2 S2 h2 he
  simp only [zins] at he
  obtain ⟨x, y, S3, rfl, he⟩ := z_I2 he
  obtain ⟨rfl, rfl, rfl, rfl⟩ := z_go he
  exact ⟨zle_rf, fun _ _ _ _ K H locs ls hR hS hl => lv_iadd C.1 C.2.1 hd (K H locs ls hR hS hl)⟩
theorem y_isub (C : zCtx E p l R s m args meth c M) (hd : decode (zmb M) pc = .ok (.isub, 1)) : zStep E p l e R s m args below meth c Q M hs h pc 1 L S .isub := by
  intro pc2 L2 S2 h2 he
  simp only [zins] at he
  obtain ⟨x, y, S3, rfl, he⟩ := z_I2 he
  obtain ⟨rfl, rfl, rfl, rfl⟩ := z_go he
  exact ⟨zle_rf, fun _ _ _ _ K H locs ls hR hS hl => lv_isub C.1 C.2.1 hd (K H locs ls hR hS hl)⟩
theorem y_imul (C : zCtx E p l R s m args meth c M) (hd : decode (zmb M) pc = .ok (.imul, 1)) : zStep E p l e R s m args below meth c Q M hs h pc 1 L S .imul := by
  intro pc2 L2 S2 h2 he
  simp only [zins] at he
  obtain ⟨x, y, S3, rfl, he⟩ := z_I2 he
  obtain ⟨rfl, rfl, rfl, rfl⟩ := z_go he
  exact ⟨zle_rf, fun _ _ _ _ K H locs ls hR hS hl => lv_imul C.1 C.2.1 hd (K H locs ls hR hS hl)⟩
theorem y_iand (C : zCtx E p l R s m args meth c M) (hd : decode (zmb M) pc = .ok (.iand, 1)) : zStep E p l e R s m args below meth c Q M hs h pc 1 L S .iand := by
  intro pc2 L2 S2 h2 he
  simp only [zins] at he
  obtain ⟨x, y, S3, rfl, he⟩ := z_I2 he
  obtain ⟨rfl, rfl, rfl, rfl⟩ := z_go he
  exact ⟨zle_rf, fun _ _ _ _ K H locs ls hR hS hl => lv_iand C.1 C.2.1 hd (K H locs ls hR hS hl)⟩
theorem y_ior (C : zCtx E p l R s m args meth c M) (hd : decode (zmb M) pc = .ok (.ior, 1)) : zStep E p l e R s m args below meth c Q M hs h pc 1 L S .ior := by
  intro pc2 L2 S2 h2 he
  simp only [zins] at he
  obtain ⟨x, y, S3, rfl, he⟩ := z_I2 he
  obtain ⟨rfl, rfl, rfl, rfl⟩ := z_go he
  exact ⟨zle_rf, fun _ _ _ _ K H locs ls hR hS hl => lv_ior C.1 C.2.1 hd (K H locs ls hR hS hl)⟩
theorem y_ishl (C : zCtx E p l R s m args meth c M) (hd : decode (zmb M) pc = .ok (.ishl, 1)) : zStep E p l e R s m args below meth c Q M hs h pc 1 L S .ishl := by
  intro pc2 L2 S2 h2 he
  simp only [zins] at he
  obtain ⟨x, y, S3, rfl, he⟩ := z_I2 he
  obtain ⟨rfl, rfl, rfl, rfl⟩ := z_go he
  exact ⟨zle_rf, fun _ _ _ _ K H locs ls hR hS hl => lv_ishl C.1 C.2.1 hd (K H locs ls hR hS hl)⟩
theorem y_ishr (C : zCtx E p l R s m args meth c M) (hd : decode (zmb M) pc = .ok (.ishr, 1)) : zStep E p l e R s m args below meth c Q M hs h pc 1 L S .ishr := by
  intro pc2 L2 S2 h2 he
  simp only [zins] at he
  obtain ⟨x, y, S3, rfl, he⟩ := z_I2 he
  obtain ⟨rfl, rfl, rfl, rfl⟩ := z_go he
  exact ⟨zle_rf, fun _ _ _ _ K H locs ls hR hS hl => lv_ishr C.1 C.2.1 hd (K H locs ls hR hS hl)⟩
theorem y_ladd (C : zCtx E p l R s m args meth c M) (hd : decode (zmb M) pc = .ok (.ladd, 1)) : zStep E p l e R s m args below meth c Q M hs h pc 1 L S .ladd := by
  intro pc2 L2 S2 h2 he
  simp only [zins] at he
  obtain ⟨x, y, S3, rfl, he⟩ := z_J2 he
  obtain ⟨rfl, rfl, rfl, rfl⟩ := z_go he
  exact ⟨zle_rf, fun _ _ _ _ K H locs ls hR hS hl => lv_ladd C.1 C.2.1 hd (K H locs ls hR hS hl)⟩
theorem y_lsub (C : zCtx E p l R s m args meth c M) (hd : decode (zmb M) pc = .ok (.lsub, 1)) : zStep E p l e R s m args below meth c Q M hs h pc 1 L S .lsub := by
  intro pc2 L2 S2 h2 he
  simp only [zins] at he
  obtain ⟨x, y, S3, rfl, he⟩ := z_J2 he
  obtain ⟨rfl, rfl, rfl, rfl⟩ := z_go he
  exact ⟨zle_rf, fun _ _ _ _ K H locs ls hR hS hl => lv_lsub C.1 C.2.1 hd (K H locs ls hR hS hl)⟩
theorem y_lmul (C : zCtx E p l R s m args meth c M) (hd : decode (zmb M) pc = .ok (.lmul, 1)) : zStep E p l e R s m args below meth c Q M hs h pc 1 L S .lmul := by
  intro pc2 L2 S2 h2 he
  simp only [zins] at he
  obtain ⟨x, y, S3, rfl, he⟩ := z_J2 he
  obtain ⟨rfl, rfl, rfl, rfl⟩ := z_go he
  exact ⟨zle_rf, fun _ _ _ _ K H locs ls hR hS hl => lv_lmul C.1 C.2.1 hd (K H locs ls hR hS hl)⟩
theorem y_lcmp (C : zCtx E p l R s m args meth c M) (hd : decode (zmb M) pc = .ok (.lcmp, 1)) : zStep E p l e R s m args below meth c Q M hs h pc 1 L S .lcmp := by
  intro pc2 L2 S2 h2 he
  simp only [zins] at he
  obtain ⟨x, y, S3, rfl, he⟩ := z_J2 he
  obtain ⟨rfl, rfl, rfl, rfl⟩ := z_go he
  exact ⟨zle_rf, fun _ _ _ _ K H locs ls hR hS hl => W.lcmp C.1 C.2.1 hd (K H locs ls hR hS hl)⟩
theorem y_idiv (C : zCtx E p l R s m args meth c M) (hd : decode (zmb M) pc = .ok (.idiv, 1)) : zStep E p l e R s m args below meth c Q M hs h pc 1 L S .idiv := by
  intro pc2 L2 S2 h2 he
  simp only [zins] at he
  obtain ⟨x, y, S3, rfl, hz⟩ := z_I2 he
  clear he
  have he := hz
  split at he
  · cases he
  · rename_i hne
    obtain ⟨rfl, rfl, rfl, rfl⟩ := z_go he
    exact ⟨zle_rf, fun _ _ _ _ K H locs ls hR hS hl => lv_idiv C.1 C.2.1 hd hne (K H locs ls hR hS hl)⟩
theorem y_irem (C : zCtx E p l R s m args meth c M) (hd : decode (zmb M) pc = .ok (.irem, 1)) : zStep E p l e R s m args below meth c Q M hs h pc 1 L S .irem := by
  intro pc2 L2 S2 h2 he
  simp only [zins] at he
  obtain ⟨x, y, S3, rfl, hz⟩ := z_I2 he
  clear he
  have he := hz
  split at he
  · cases he
  · rename_i hne
    obtain ⟨rfl, rfl, rfl, rfl⟩ := z_go he
    exact ⟨zle_rf, fun _ _ _ _ K H locs ls hR hS hl => lv_irem C.1 C.2.1 hd hne (K H locs ls hR hS hl)⟩
theorem y_ldiv (C : zCtx E p l R s m args meth c M) (hd : decode (zmb M) pc = .ok (.ldiv, 1)) : zStep E p l e R s m args below meth c Q M hs h pc 1 L S .ldiv := by
  intro pc2 L2 S2 h2 he
  simp only [zins] at he
  obtain ⟨x, y, S3, rfl, hz⟩ := z_J2 he
  clear he
  have he := hz
  split at he
  · cases he
  · rename_i hne
    obtain ⟨rfl, rfl, rfl, rfl⟩ := z_go he
    exact ⟨zle_rf, fun _ _ _ _ K H locs ls hR hS hl => lv_ldiv C.1 C.2.1 hd hne (K H locs ls hR hS hl)⟩
theorem y_lrem (C : zCtx E p l R s m args meth c M) (hd : decode (zmb M) pc = .ok (.lrem, 1)) : zStep E p l e R s m args below meth c Q M hs h pc 1 L S .lrem := by
  intro pc2 L2 S2 h2 he
  simp only [zins] at he
  obtain ⟨x, y, S3, rfl, hz⟩ := z_J2 he
  clear he
  have he := hz
  split at he
  · cases he
  · rename_i hne
    obtain ⟨rfl, rfl, rfl, rfl⟩ := z_go he
    exact ⟨zle_rf, fun _ _ _ _ K H locs ls hR hS hl => lv_lrem C.1 C.2.1 hd hne (K H locs ls hR hS hl)⟩
theorem y_ineg (C : zCtx E p l R s m args meth c M) (hd : decode (zmb M) pc = .ok (.ineg, 1)) : zStep E p l e R s m args below meth c Q M hs h pc 1 L S .ineg := by
  intro pc2 L2 S2 h2 he
  simp only [zins] at he
  obtain ⟨x, S3, rfl, he⟩ := z_I1 he
  obtain ⟨rfl, rfl, rfl, rfl⟩ := z_go he
  exact ⟨zle_rf, fun _ _ _ _ K H locs ls hR hS hl => lv_ineg C.1 C.2.1 hd (K H locs ls hR hS hl)⟩
theorem y_lneg (C : zCtx E p l R s m args meth c M) (hd : decode (zmb M) pc = .ok (.lneg, 1)) : zStep E p l e R s m args below meth c Q M hs h pc 1 L S .lneg := by
  intro pc2 L2 S2 h2 he
  simp only [zins] at he
  obtain ⟨x, S3, rfl, he⟩ := z_J1 he
  obtain ⟨rfl, rfl, rfl, rfl⟩ := z_go he
  exact ⟨zle_rf, fun _ _ _ _ K H locs ls hR hS hl => lv_lneg C.1 C.2.1 hd (K H locs ls hR hS hl)⟩
theorem y_i2l (C : zCtx E p l R s m args meth c M) (hd : decode (zmb M) pc = .ok (.i2l, 1)) : zStep E p l e R s m args below meth c Q M hs h pc 1 L S .i2l := by
  intro pc2 L2 S2 h2 he
  simp only [zins] at he
  obtain ⟨x, S3, rfl, he⟩ := z_I1 he
  obtain ⟨rfl, rfl, rfl, rfl⟩ := z_go he
  exact ⟨zle_rf, fun _ _ _ _ K H locs ls hR hS hl => lv_i2l C.1 C.2.1 hd rfl (K H locs ls hR hS hl)⟩
theorem y_l2i (C : zCtx E p l R s m args meth c M) (hd : decode (zmb M) pc = .ok (.l2i, 1)) : zStep E p l e R s m args below meth c Q M hs h pc 1 L S .l2i := by
  intro pc2 L2 S2 h2 he
  simp only [zins] at he
  obtain ⟨x, S3, rfl, he⟩ := z_J1 he
  obtain ⟨rfl, rfl, rfl, rfl⟩ := z_go he
  exact ⟨zle_rf, fun _ _ _ _ K H locs ls hR hS hl => lv_l2i C.1 C.2.1 hd rfl (K H locs ls hR hS hl)⟩
theorem y_i2b (C : zCtx E p l R s m args meth c M) (hd : decode (zmb M) pc = .ok (.i2b, 1)) : zStep E p l e R s m args below meth c Q M hs h pc 1 L S .i2b := by
  intro pc2 L2 S2 h2 he
  simp only [zins] at he
  obtain ⟨x, S3, rfl, he⟩ := z_I1 he
  obtain ⟨rfl, rfl, rfl, rfl⟩ := z_go he
  exact ⟨zle_rf, fun _ _ _ _ K H locs ls hR hS hl => lv_i2b C.1 C.2.1 hd rfl (K H locs ls hR hS hl)⟩
theorem y_i2c (C : zCtx E p l R s m args meth c M) (hd : decode (zmb M) pc = .ok (.i2c, 1)) : zStep E p l e R s m args below meth c Q M hs h pc 1 L S .i2c := by
  intro pc2 L2 S2 h2 he
  simp only [zins] at he
  obtain ⟨x, S3, rfl, he⟩ := z_I1 he
  obtain ⟨rfl, rfl, rfl, rfl⟩ := z_go he
  exact ⟨zle_rf, fun _ _ _ _ K H locs ls hR hS hl => lv_i2c C.1 C.2.1 hd rfl (K H locs ls hR hS hl)⟩
theorem y_dup (C : zCtx E p l R s m args meth c M) (hd : decode (zmb M) pc = .ok (.dup, 1)) : zStep E p l e R s m args below meth c Q M hs h pc 1 L S .dup := by
  intro pc2 L2 S2 h2 he
  simp only [zins] at he
  split at he
  · rename_i v S3
    split at he
    · rename_i hc
      obtain ⟨rfl, rfl, rfl, rfl⟩ := z_go he
      exact ⟨zle_rf, fun _ _ _ _ K H locs ls hR hS hl => lv_dup C.1 C.2.1 hd (by rw [zv_cat C.2.2.2.2.2.2.2.2.2.1]; exact hc) (K H locs ls hR hS hl)⟩
    · cases he
  · cases he
theorem y_pop (C : zCtx E p l R s m args meth c M) (hd : decode (zmb M) pc = .ok (.pop, 1)) : zStep E p l e R s m args below meth c Q M hs h pc 1 L S .pop := by
  intro pc2 L2 S2 h2 he
  simp only [zins] at he
  split at he
  · rename_i v S3
    split at he
    · rename_i hc
      obtain ⟨rfl, rfl, rfl, rfl⟩ := z_go he
      exact ⟨zle_rf, fun _ _ _ _ K H locs ls hR hS hl => lv_pop C.1 C.2.1 hd (by rw [zv_cat C.2.2.2.2.2.2.2.2.2.1]; exact hc) (K H locs ls hR hS hl)⟩
    · cases he
  · cases he
theorem y_dup_x1 (C : zCtx E p l R s m args meth c M) (hd : decode (zmb M) pc = .ok (.dup_x1, 1)) : zStep E p l e R s m args below meth c Q M hs h pc 1 L S .dup_x1 := by
  intro pc2 L2 S2 h2 he
  simp only [zins] at he
  split at he
  · rename_i v w S3
    split at he
    · rename_i hc
      obtain ⟨rfl, rfl, rfl, rfl⟩ := z_go he
      exact ⟨zle_rf, fun _ _ _ _ K H locs ls hR hS hl => lv_dup_x1 C.1 C.2.1 hd (by rw [zv_cat C.2.2.2.2.2.2.2.2.2.1]; exact hc.1) (by rw [zv_cat C.2.2.2.2.2.2.2.2.2.1]; exact hc.2) (K H locs ls hR hS hl)⟩
    · cases he
  · cases he
theorem y_dup2 (C : zCtx E p l R s m args meth c M) (hd : decode (zmb M) pc = .ok (.dup2, 1)) : zStep E p l e R s m args below meth c Q M hs h pc 1 L S .dup2 := by
  intro pc2 L2 S2 h2 he
  simp only [zins] at he
  split at he
  · rename_i v w S3
    split at he
    · rename_i hc
      obtain ⟨rfl, rfl, rfl, rfl⟩ := z_go he
      exact ⟨zle_rf, fun _ _ _ _ K H locs ls hR hS hl => lv_dup2_11 C.1 C.2.1 hd (by rw [zv_cat C.2.2.2.2.2.2.2.2.2.1]; exact hc.1) (by rw [zv_cat C.2.2.2.2.2.2.2.2.2.1]; exact hc.2) (K H locs ls hR hS hl)⟩
    · cases he
  · cases he
theorem y_goto {off : Int} (C : zCtx E p l R s m args meth c M) (hd : decode (zmb M) pc = .ok (.goto off, 3)) : zStep E p l e R s m args below meth c Q M hs h pc 3 L S (.goto off) := by
  intro pc2 L2 S2 h2 he
  simp only [zins] at he
  obtain ⟨t, ht, he⟩ := z_tgo he
  obtain ⟨rfl, rfl, rfl, rfl⟩ := z_go he
  exact ⟨zle_rf, fun _ _ _ _ K H locs ls hR hS hl => lv_goto C.1 C.2.1 hd ht (K H locs ls hR hS hl)⟩
theorem y_ifCond {k : Jvm.ClassFile.Cond} {off : Int} (C : zCtx E p l R s m args meth c M) (hd : decode (zmb M) pc = .ok (.ifCond k off, 3)) : zStep E p l e R s m args below meth c Q M hs h pc 3 L S (.ifCond k off) := by
  intro pc2 L2 S2 h2 he
  simp only [zins] at he
  obtain ⟨x, S3, rfl, hz⟩ := z_I1 he
  clear he
  have he := hz
  obtain ⟨t, ht, he⟩ := z_tgo he
  split at he
  · rename_i hc
    obtain ⟨rfl, rfl, rfl, rfl⟩ := z_go he
    refine ⟨zle_rf, fun _ _ _ _ K H locs ls hR hS hl => ?_⟩
    have hK := K H locs ls hR hS hl
    cases k <;> (simp only [zcmp, decide_eq_true_eq] at hc)
    · exact lv_if_eq C.1 C.2.1 hd ht (fun _ => hK) (fun z => absurd hc z)
    · exact lv_if_ne C.1 C.2.1 hd ht (fun _ => hK) (fun z => absurd z hc)
    · exact lv_if_lt C.1 C.2.1 hd ht (fun _ => hK) (fun z => absurd hc z)
    · exact lv_if_ge C.1 C.2.1 hd ht (fun _ => hK) (fun z => absurd hc z)
    · exact lv_if_gt C.1 C.2.1 hd ht (fun _ => hK) (fun z => absurd hc z)
    · exact lv_if_le C.1 C.2.1 hd ht (fun _ => hK) (fun z => absurd hc z)
  · rename_i hc
    obtain ⟨rfl, rfl, rfl, rfl⟩ := z_go he
    refine ⟨zle_rf, fun _ _ _ _ K H locs ls hR hS hl => ?_⟩
    have hK := K H locs ls hR hS hl
    cases k <;> (simp only [zcmp, decide_eq_true_eq] at hc)
    · exact lv_if_eq C.1 C.2.1 hd ht (fun z => absurd z hc) (fun _ => hK)
    · exact lv_if_ne C.1 C.2.1 hd ht (fun z => absurd z hc) (fun _ => hK)
    · exact lv_if_lt C.1 C.2.1 hd ht (fun z => absurd z hc) (fun _ => hK)
    · exact lv_if_ge C.1 C.2.1 hd ht (fun z => absurd z hc) (fun _ => hK)
    · exact lv_if_gt C.1 C.2.1 hd ht (fun z => absurd z hc) (fun _ => hK)
    · exact lv_if_le C.1 C.2.1 hd ht (fun z => absurd z hc) (fun _ => hK)
theorem y_if_icmp {k : Jvm.ClassFile.Cond} {off : Int} (C : zCtx E p l R s m args meth c M) (hd : decode (zmb M) pc = .ok (.if_icmp k off, 3)) : zStep E p l e R s m args below meth c Q M hs h pc 3 L S (.if_icmp k off) := by
  intro pc2 L2 S2 h2 he
  simp only [zins] at he
  obtain ⟨x, y, S3, rfl, hz⟩ := z_I2 he
  clear he
  have he := hz
  obtain ⟨t, ht, he⟩ := z_tgo he
  split at he
  · rename_i hc
    obtain ⟨rfl, rfl, rfl, rfl⟩ := z_go he
    refine ⟨zle_rf, fun _ _ _ _ K H locs ls hR hS hl => ?_⟩
    have hK := K H locs ls hR hS hl
    cases k <;> (simp only [zcmp, decide_eq_true_eq] at hc)
    · exact lv_icmp_eq C.1 C.2.1 hd ht (fun _ => hK) (fun z => absurd hc z)
    · exact lv_icmp_ne C.1 C.2.1 hd ht (fun _ => hK) (fun z => absurd z hc)
    · exact lv_icmp_lt C.1 C.2.1 hd ht (fun _ => hK) (fun z => absurd hc z)
    · exact lv_icmp_ge C.1 C.2.1 hd ht (fun _ => hK) (fun z => absurd hc z)
    · exact lv_icmp_gt C.1 C.2.1 hd ht (fun _ => hK) (fun z => absurd hc z)
    · exact lv_icmp_le C.1 C.2.1 hd ht (fun _ => hK) (fun z => absurd hc z)
  · rename_i hc
    obtain ⟨rfl, rfl, rfl, rfl⟩ := z_go he
    refine ⟨zle_rf, fun _ _ _ _ K H locs ls hR hS hl => ?_⟩
    have hK := K H locs ls hR hS hl
    cases k <;> (simp only [zcmp, decide_eq_true_eq] at hc)
    · exact lv_icmp_eq C.1 C.2.1 hd ht (fun z => absurd z hc) (fun _ => hK)
    · exact lv_icmp_ne C.1 C.2.1 hd ht (fun z => absurd z hc) (fun _ => hK)
    · exact lv_icmp_lt C.1 C.2.1 hd ht (fun z => absurd z hc) (fun _ => hK)
    · exact lv_icmp_ge C.1 C.2.1 hd ht (fun z => absurd z hc) (fun _ => hK)
    · exact lv_icmp_gt C.1 C.2.1 hd ht (fun z => absurd z hc) (fun _ => hK)
    · exact lv_icmp_le C.1 C.2.1 hd ht (fun z => absurd z hc) (fun _ => hK)
theorem y_ifnull {off : Int} (C : zCtx E p l R s m args meth c M) (hd : decode (zmb M) pc = .ok (.ifnull off, 3)) : zStep E p l e R s m args below meth c Q M hs h pc 3 L S (.ifnull off) := by
  intro pc2 L2 S2 h2 he
  simp only [zins] at he
  split at he
  · obtain ⟨t, ht, he⟩ := z_tgo he
    obtain ⟨rfl, rfl, rfl, rfl⟩ := z_go he
    exact ⟨zle_rf, fun _ _ _ _ K H locs ls hR hS hl => lv_ifnullN C.1 C.2.1 hd ht (K H locs ls hR hS hl)⟩
  · obtain ⟨rfl, rfl, rfl, rfl⟩ := z_go he
    exact ⟨zle_rf, fun _ _ _ _ K H locs ls hR hS hl => lv_ifnull C.1 C.2.1 hd (K H locs ls hR hS hl)⟩
  · cases he
theorem y_ifnonnull {off : Int} (C : zCtx E p l R s m args meth c M) (hd : decode (zmb M) pc = .ok (.ifnonnull off, 3)) : zStep E p l e R s m args below meth c Q M hs h pc 3 L S (.ifnonnull off) := by
  intro pc2 L2 S2 h2 he
  simp only [zins] at he
  split at he
  · obtain ⟨t, ht, he⟩ := z_tgo he
    obtain ⟨rfl, rfl, rfl, rfl⟩ := z_go he
    exact ⟨zle_rf, fun _ _ _ _ K H locs ls hR hS hl => lv_ifnonnull C.1 C.2.1 hd ht (K H locs ls hR hS hl)⟩
  · obtain ⟨rfl, rfl, rfl, rfl⟩ := z_go he
    exact ⟨zle_rf, fun _ _ _ _ K H locs ls hR hS hl => lv_ifnonnullN C.1 C.2.1 hd (K H locs ls hR hS hl)⟩
  · cases he
theorem y_tableswitch {d lo hi : Int} {offs : Array Int} (C : zCtx E p l R s m args meth c M) (hd : decode (zmb M) pc = .ok (.tableswitch d lo hi offs, n)) : zStep E p l e R s m args below meth c Q M hs h pc n L S (.tableswitch d lo hi offs) := by
  intro pc2 L2 S2 h2 he
  simp only [zins] at he
  obtain ⟨x, S3, rfl, hz⟩ := z_I1 he
  clear he
  have he := hz
  split at he
  · rename_i hc
    obtain ⟨t, ht, he⟩ := z_tgo he
    obtain ⟨rfl, rfl, rfl, rfl⟩ := z_go he
    exact ⟨zle_rf, fun _ _ _ _ K H locs ls hR hS hl => lv_tableOut C.1 C.2.1 hd hc ht (K H locs ls hR hS hl)⟩
  · rename_i hc
    split at he
    · rename_i o ho
      obtain ⟨t, ht, he⟩ := z_tgo he
      obtain ⟨rfl, rfl, rfl, rfl⟩ := z_go he
      exact ⟨zle_rf, fun _ _ _ _ K H locs ls hR hS hl => lv_tableIn C.1 C.2.1 hd (fun z => hc (Or.inl z)) (fun z => hc (Or.inr z)) ho ht (K H locs ls hR hS hl)⟩
    · cases he
end
