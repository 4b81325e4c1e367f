/-! SOUNDNESS: runs -/
section
variable {E : zE} {p : Program} {l : Launch} {e : Env} {R : Room} {s : State} {m : MethodId} {args : Array Value} {below : List Frame} {meth : Method} {c : Code} {Q : State → Prop} {M : Nat} {hs h : zH} {pc n : Nat} {L S : List Value}
theorem zgo_nor {pc1 : Nat} {L1 S1 : List Value} {h1 : zH} {x : zRet ⊕ zCal} (e : zgo pc1 L1 S1 h1 = some (.inr x)) : False := by cases e
variable {x : zCfg ⊕ zRet ⊕ zCal} {P : Prop}
theorem zld_no {ok : Value → Bool} {k : Nat} {f : Value → zStp} (hf : ∀ v, f v = some x → P) (e : zld ok L k f = some x) : P := by
  obtain ⟨v, -, -, e⟩ := z_ld e; exact hf _ e
theorem zst1_no {ok : Value → Bool} {k : Nat} {f : List Value → List Value → zStp} (hf : ∀ a b, f a b = some x → P) (e : zst1 ok L k S f = some x) : P := by
  obtain ⟨v, r, -, -, -, -, e⟩ := z_s1 e; exact hf _ _ e
theorem zst2_no {k : Nat} {f : List Value → List Value → zStp} (hf : ∀ a b, f a b = some x → P) (e : zst2 L k S f = some x) : P := by
  obtain ⟨v, r, -, -, -, e⟩ := z_s2 e; exact hf _ _ e
theorem zI1_no {f : Int32 → List Value → zStp} (hf : ∀ a b, f a b = some x → P) (e : zI1 S f = some x) : P := by
  obtain ⟨_, _, -, e⟩ := z_I1 e; exact hf _ _ e
theorem zI2_no {f : Int32 → Int32 → List Value → zStp} (hf : ∀ a b r, f a b r = some x → P) (e : zI2 S f = some x) : P := by
  obtain ⟨_, _, _, -, e⟩ := z_I2 e; exact hf _ _ _ e
theorem zJ1_no {f : Int64 → List Value → zStp} (hf : ∀ a b, f a b = some x → P) (e : zJ1 S f = some x) : P := by
  obtain ⟨_, _, -, e⟩ := z_J1 e; exact hf _ _ e
theorem zJ2_no {f : Int64 → Int64 → List Value → zStp} (hf : ∀ a b r, f a b r = some x → P) (e : zJ2 S f = some x) : P := by
  obtain ⟨_, _, _, -, e⟩ := z_J2 e; exact hf _ _ _ e
theorem zR1_no {f : Nat → List Value → zStp} (hf : ∀ a b, f a b = some x → P) (e : zR1 S f = some x) : P := by
  obtain ⟨_, _, -, e⟩ := z_R1 e; exact hf _ _ e
theorem zRI_no {f : Nat → Int32 → List Value → zStp} (hf : ∀ a i b, f a i b = some x → P) (e : zRI S f = some x) : P := by
  obtain ⟨_, _, _, -, e⟩ := z_RI e; exact hf _ _ _ e
theorem ztg_no {off : Int} {f : Nat → zStp} (hf : ∀ t, f t = some x → P) (e : ztg pc off f = some x) : P := by
  obtain ⟨_, -, e⟩ := z_tgo e; exact hf _ e
theorem zgf_no {a ci k : Nat} {f : Value → zStp} (hf : ∀ v, f v = some x → P) (e : zgf h a ci k f = some x) : P := by
  obtain ⟨_, _, -, -, e⟩ := z_gf e; exact hf _ e
theorem zpf_no {a ci k : Nat} {v : Value} {f : zH → zStp} (hf : ∀ c, f (zset h a c) = some x → P) (e : zpf h a ci k v f = some x) : P := by
  obtain ⟨_, -, -, -, -, e⟩ := z_pf e; exact hf _ e
theorem zal_no {a : Nat} {f : Int32 → zStp} (hf : ∀ v, f v = some x → P) (e : zal h a f = some x) : P := by
  obtain ⟨_, _, _, -, -, e⟩ := z_al e; exact hf _ e
theorem zli_no {a t : Nat} {i : Int32} {f : Int32 → zStp} (hf : ∀ v, f v = some x → P) (e : zli h a t i f = some x) : P := by
  obtain ⟨_, _, -, -, e⟩ := z_li e; exact hf _ e
theorem zlj_no {a : Nat} {i : Int32} {f : Int64 → zStp} (hf : ∀ v, f v = some x → P) (e : zlj h a i f = some x) : P := by
  obtain ⟨_, _, -, -, e⟩ := z_lj e; exact hf _ e
theorem zlq_no {a : Nat} {i : Int32} {f : Option Nat → zStp} (hf : ∀ v, f v = some x → P) (e : zlq h a i f = some x) : P := by
  obtain ⟨_, _, _, -, -, -, e⟩ := z_lq e; exact hf _ e
theorem zsi_no {a t : Nat} {i y : Int32} {f : zH → zStp} (hf : ∀ c, f (zset h a c) = some x → P) (e : zsi h a t i y f = some x) : P := by
  obtain ⟨_, _, -, -, -, e⟩ := z_si e; exact hf _ e
theorem zsj_no {a : Nat} {i : Int32} {y : Int64} {f : zH → zStp} (hf : ∀ c, f (zset h a c) = some x → P) (e : zsj h a i y f = some x) : P := by
  obtain ⟨_, _, -, -, -, e⟩ := z_sj e; exact hf _ e
theorem zsq_no {a : Nat} {i : Int32} {v : Value} {f : zH → zStp} (hf : ∀ c, f (zset h a c) = some x → P) (e : zsq h a i v f = some x) : P := by
  obtain ⟨_, _, _, -, -, -, -, ⟨_, -, -, e⟩ | ⟨-, e⟩⟩ := z_sq e
  · exact hf _ e
  · exact hf _ e
theorem zcp_po {s1 : Nat} {sp : Int32} {d : Nat} {dp k : Int32} {f : zH → zStp} (hf : ∀ c, f (zset h d c) = some x → P) (e : zcpI h s1 sp d dp k f = some x) : P := by
  obtain ⟨-, -, -, -, ⟨_, _, _, _, _, -, -, -, -, -, e⟩ | ⟨_, _, _, _, -, -, -, -, -, e⟩⟩ := z_cp e
  · exact hf _ e
  · exact hf _ e
theorem zmath_po {rc : Nat} {f : Value → List Value → zStp} (hf : ∀ v r, f v r = some x → P) (e : zmath rc S f = some x) : P := by
  unfold zmath at e
  split at e
  · exact zI2_no (fun _ _ _ => hf _ _) e
  · exact zI2_no (fun _ _ _ => hf _ _) e
  · exact zJ2_no (fun _ _ _ => hf _ _) e
  · exact zJ2_no (fun _ _ _ => hf _ _) e
  · exact zJ1_no (fun _ _ => hf _ _) e
  · cases e
theorem hif {c : Prop} {dc : Decidable c} {a b : zStp} (ha : a = some x → P) (hb : b = some x → P) (e : (@ite _ c dc a b) = some x) : P := by
  split at e
  · exact ha e
  · exact hb e
theorem hno (e : (none : zStp) = some x) : P := by cases e
end
section
variable {E : zE} {p : Program} {l : Launch} {e : Env} {R : Room} {s : State} {m : MethodId} {args : Array Value} {below : List Frame} {meth : Method} {c : Code} {Q : State → Prop} {M : Nat} {hs h : zH} {pc n : Nat} {L S : List Value}
/-- what leaves the frame: a return, or a call -/
theorem zout {i : Instr} {x : zRet ⊕ zCal} (hd : zdec M pc = some (i, n)) (he : zins M pc n L S h i = some (.inr x)) :
    (∃ v, x = .inl (v, h) ∧ S = v.toList ∧ zRetI M pc v) ∨ (∃ op k q, x = .inr q ∧ k < 2000 ∧ decode (zmb M) pc = .ok (if op = 0 then .invokestatic k else if op = 1 then .invokespecial k else .invokevirtual k, 3) ∧ zinv op M pc L S h k = some (.inr (.inr q))) := by
  obtain ⟨hd, hl⟩ := zdec_ok hd
  cases i with
  | invokestatic k =>
    simp only [zlen, beq_iff_eq, Bool.and_eq_true, decide_eq_true_eq] at hl
    obtain ⟨rfl, hi⟩ := hl
    rcases x with x | x
    · exact (zinv_nor he).elim
    · exact Or.inr ⟨0, k, x, rfl, hi, hd, he⟩
  | invokespecial k =>
    simp only [zlen, beq_iff_eq, Bool.and_eq_true, decide_eq_true_eq] at hl
    obtain ⟨rfl, hi⟩ := hl
    rcases x with x | x
    · exact (zinv_nor he).elim
    · exact Or.inr ⟨1, k, x, rfl, hi, hd, he⟩
  | invokevirtual k =>
    simp only [zlen, beq_iff_eq, Bool.and_eq_true, decide_eq_true_eq] at hl
    obtain ⟨rfl, hi⟩ := hl
    rcases x with x | x
    · exact (zinv_nor he).elim
    · exact Or.inr ⟨2, k, x, rfl, hi, hd, he⟩
  | ireturn =>
    simp only [zlen, beq_iff_eq] at hl
    subst hl
    simp only [zins] at he
    split at he
    · rename_i y
      unfold zrt at he
      split at he
      · rename_i hr
        cases he
        exact Or.inl ⟨_, rfl, rfl, hr, Or.inl ⟨hd, _, rfl⟩⟩
      · cases he
    · cases he
  | lreturn =>
    simp only [zlen, beq_iff_eq] at hl
    subst hl
    simp only [zins] at he
    split at he
    · rename_i y
      unfold zrt at he
      split at he
      · rename_i hr
        cases he
        exact Or.inl ⟨_, rfl, rfl, hr, Or.inr (Or.inl ⟨hd, _, rfl⟩)⟩
      · cases he
    · cases he
  | areturn =>
    simp only [zlen, beq_iff_eq] at hl
    subst hl
    simp only [zins] at he
    split at he
    · rename_i y
      split at he
      · rename_i hy
        unfold zrt at he
        split at he
        · rename_i hr
          cases he
          exact Or.inl ⟨_, rfl, rfl, hr, Or.inr (Or.inr (Or.inl ⟨hd, _, rfl, hy⟩))⟩
        · cases he
      · cases he
    · cases he
  | return_ =>
    simp only [zlen, beq_iff_eq] at hl
    subst hl
    simp only [zins] at he
    split at he
    · unfold zrt at he
      split at he
      · rename_i hr
        cases he
        exact Or.inl ⟨_, rfl, rfl, hr, Or.inr (Or.inr (Or.inr ⟨hd, rfl⟩))⟩
      · cases he
    · cases he
  | iconst k => exact (zgo_nor he).elim
  | bipush k => exact (zgo_nor he).elim
  | sipush k => exact (zgo_nor he).elim
  | lconst k => exact (zgo_nor he).elim
  | aconst_null => exact (zgo_nor he).elim
  | iload k => exact (zld_no (fun _ => zgo_nor) he).elim
  | iload_n k => exact (zld_no (fun _ => zgo_nor) he).elim
  | lload k => exact (zld_no (fun _ => zgo_nor) he).elim
  | lload_n k => exact (zld_no (fun _ => zgo_nor) he).elim
  | aload k => exact (zld_no (fun _ => zgo_nor) he).elim
  | aload_n k => exact (zld_no (fun _ => zgo_nor) he).elim
  | istore k => simp only [zins] at he; exact (zst1_no (fun _ _ => zgo_nor) he).elim
  | istore_n k => simp only [zins] at he; exact (zst1_no (fun _ _ => zgo_nor) he).elim
  | astore k => simp only [zins] at he; exact (zst1_no (fun _ _ => zgo_nor) he).elim
  | astore_n k => simp only [zins] at he; exact (zst1_no (fun _ _ => zgo_nor) he).elim
  | lstore k => simp only [zins] at he; exact (zst2_no (fun _ _ => zgo_nor) he).elim
  | lstore_n k => simp only [zins] at he; exact (zst2_no (fun _ _ => zgo_nor) he).elim
  | iinc k d => simp only [zins] at he; exact (zld_no (P := False) (x := .inr x) (fun v => by split; exact hif zgo_nor hno; exact hno) he).elim
  | iadd => simp only [zins] at he; exact (zI2_no (fun _ _ _ => zgo_nor) he).elim
  | isub => simp only [zins] at he; exact (zI2_no (fun _ _ _ => zgo_nor) he).elim
  | imul => simp only [zins] at he; exact (zI2_no (fun _ _ _ => zgo_nor) he).elim
  | iand => simp only [zins] at he; exact (zI2_no (fun _ _ _ => zgo_nor) he).elim
  | ior => simp only [zins] at he; exact (zI2_no (fun _ _ _ => zgo_nor) he).elim
  | ishl => simp only [zins] at he; exact (zI2_no (fun _ _ _ => zgo_nor) he).elim
  | ishr => simp only [zins] at he; exact (zI2_no (fun _ _ _ => zgo_nor) he).elim
  | idiv => simp only [zins] at he; exact (zI2_no (fun _ _ _ => hif hno zgo_nor) he).elim
  | irem => simp only [zins] at he; exact (zI2_no (fun _ _ _ => hif hno zgo_nor) he).elim
  | ineg => simp only [zins] at he; exact (zI1_no (fun _ _ => zgo_nor) he).elim
  | ladd => simp only [zins] at he; exact (zJ2_no (fun _ _ _ => zgo_nor) he).elim
  | lsub => simp only [zins] at he; exact (zJ2_no (fun _ _ _ => zgo_nor) he).elim
  | lmul => simp only [zins] at he; exact (zJ2_no (fun _ _ _ => zgo_nor) he).elim
  | lcmp => simp only [zins] at he; exact (zJ2_no (fun _ _ _ => zgo_nor) he).elim
  | ldiv => simp only [zins] at he; exact (zJ2_no (fun _ _ _ => hif hno zgo_nor) he).elim
  | lrem => simp only [zins] at he; exact (zJ2_no (fun _ _ _ => hif hno zgo_nor) he).elim
  | lneg => simp only [zins] at he; exact (zJ1_no (fun _ _ => zgo_nor) he).elim
  | i2l => simp only [zins] at he; exact (zI1_no (fun _ _ => zgo_nor) he).elim
  | l2i => simp only [zins] at he; exact (zJ1_no (fun _ _ => zgo_nor) he).elim
  | i2b => simp only [zins] at he; exact (zI1_no (fun _ _ => zgo_nor) he).elim
  | i2c => simp only [zins] at he; exact (zI1_no (fun _ _ => zgo_nor) he).elim
  | dup => simp only [zins] at he; split at he; exact (hif zgo_nor hno he).elim; cases he
  | pop => simp only [zins] at he; split at he; exact (hif zgo_nor hno he).elim; cases he
  | dup_x1 => simp only [zins] at he; split at he; exact (hif zgo_nor hno he).elim; cases he
  | dup2 => simp only [zins] at he; split at he; exact (hif zgo_nor hno he).elim; cases he
  | goto k => simp only [zins] at he; exact (ztg_no (fun _ => zgo_nor) he).elim
  | ifCond k d => simp only [zins] at he; exact (zI1_no (fun _ _ h => ztg_no (fun _ => hif zgo_nor zgo_nor) h) he).elim
  | if_icmp k d => simp only [zins] at he; exact (zI2_no (fun _ _ _ h => ztg_no (fun _ => hif zgo_nor zgo_nor) h) he).elim
  | ifnull k => simp only [zins] at he; split at he; exact (ztg_no (fun _ => zgo_nor) he).elim; exact (zgo_nor he).elim; cases he
  | ifnonnull k => simp only [zins] at he; split at he; exact (ztg_no (fun _ => zgo_nor) he).elim; exact (zgo_nor he).elim; cases he
  | tableswitch a b d g => simp only [zins] at he; exact (zI1_no (fun _ _ => hif (fun h => ztg_no (fun _ => zgo_nor) h) (fun h => by split at h; exact ztg_no (fun _ => zgo_nor) h; cases h)) he).elim
  | getfield k => simp only [zins] at he; split at he; exact (zR1_no (fun _ _ h => zgf_no (fun _ => zgo_nor) h) he).elim; cases he
  | putfield k => simp only [zins] at he; split at he; (split at he; (split at he; exact (zpf_no (fun _ => zgo_nor) he).elim; cases he); cases he); cases he
  | getstatic k => simp only [zins] at he; split at he; (split at he; exact (zgo_nor he).elim; cases he); cases he
  | arraylength => simp only [zins] at he; exact (zR1_no (fun _ _ h => zal_no (fun _ => zgo_nor) h) he).elim
  | iaload => simp only [zins] at he; exact (zRI_no (fun _ _ _ h => zli_no (fun _ => zgo_nor) h) he).elim
  | caload => simp only [zins] at he; exact (zRI_no (fun _ _ _ h => zli_no (fun _ => zgo_nor) h) he).elim
  | baload => simp only [zins] at he; exact (zRI_no (fun _ _ _ h => zli_no (fun _ => zgo_nor) h) he).elim
  | laload => simp only [zins] at he; exact (zRI_no (fun _ _ _ h => zlj_no (fun _ => zgo_nor) h) he).elim
  | aaload => simp only [zins] at he; exact (zRI_no (fun _ _ _ h => zlq_no (fun _ => zgo_nor) h) he).elim
  | iastore => simp only [zins] at he; exact (zI1_no (fun _ _ h => zRI_no (fun _ _ _ h => zsi_no (fun _ => zgo_nor) h) h) he).elim
  | castore => simp only [zins] at he; exact (zI1_no (fun _ _ h => zRI_no (fun _ _ _ h => zsi_no (fun _ => zgo_nor) h) h) he).elim
  | bastore => simp only [zins] at he; exact (zI1_no (fun _ _ h => zRI_no (fun _ _ _ h => zsi_no (fun _ => zgo_nor) h) h) he).elim
  | lastore => simp only [zins] at he; exact (zJ1_no (fun _ _ h => zRI_no (fun _ _ _ h => zsj_no (fun _ => zgo_nor) h) h) he).elim
  | aastore => simp only [zins] at he; split at he; exact (zRI_no (fun _ _ _ h => zsq_no (fun _ => zgo_nor) h) he).elim; cases he
  | new k => simp only [zins] at he; split at he; exact (zgo_nor he).elim; cases he
  | newarray k => simp only [zins] at he; split at he; exact (zI1_no (fun _ _ => hif zgo_nor hno) he).elim; cases he
  | anewarray k => simp only [zins] at he; split at he; exact (zI1_no (fun _ _ => hif zgo_nor hno) he).elim; cases he
  | ldc k => simp only [zins] at he; split at he; exact (zgo_nor he).elim; (split at he; exact (zgo_nor he).elim; cases he)
  | ldc_w k => simp only [zins] at he; split at he; exact (zgo_nor he).elim; (split at he; exact (zgo_nor he).elim; cases he)
  | ldc2_w k => simp only [zins] at he; split at he; exact (zgo_nor he).elim; cases he
  | _ => cases he
theorem zgo_mo {pc1 pc2 : Nat} {L1 S1 L2 S2 : List Value} {h2 : zH} (e : zgo pc1 L1 S1 h = some (.inl (pc2, L2, S2, h2))) : h.1 ≤ h2.1 ∧ h.2.1 ≤ h2.2.1 := by cases e; exact zle_rf
theorem zgo_ms {pc1 pc2 : Nat} {L1 S1 L2 S2 : List Value} {h2 : zH} {a : Nat} {c : zC} (e : zgo pc1 L1 S1 (zset h a c) = some (.inl (pc2, L2, S2, h2))) : h.1 ≤ h2.1 ∧ h.2.1 ≤ h2.2.1 := by cases e; exact zle_rf
theorem zgo_mn {pc1 pc2 : Nat} {L1 S1 L2 S2 : List Value} {h2 : zH} {k : Nat} {c : zC} (e : zgo pc1 L1 S1 (znew h c k) = some (.inl (pc2, L2, S2, h2))) : h.1 ≤ h2.1 ∧ h.2.1 ≤ h2.2.1 := by cases e; exact ⟨Nat.le_succ _, Nat.le_add_right _ _⟩
theorem zinv_mo {op i : Nat} {pc2 : Nat} {L2 S2 : List Value} {h2 : zH} (he : zinv op M pc L S h i = some (.inl (pc2, L2, S2, h2))) : h.1 ≤ h2.1 ∧ h.2.1 ≤ h2.2.1 := by
  unfold zinv at he
  split at he
  · split at he
    · split at he
      · exact hif (fun e => zcp_po (fun _ => zgo_ms) e) hno he
      · cases he
    · cases he
  · split at he
    · split at he
      · exact hif zgo_mo hno he
      · cases he
    · cases he
  · split at he
    · exact zmath_po (fun _ _ => hif zgo_mo hno) he
    · cases he
  · split at he
    · split at he
      · exact (zcal_no he).elim
      · split at he
        · split at he
          · exact (zcal_no he).elim
          · split at he
            · exact (zcal_no he).elim
            · cases he
        · cases he
    · cases he
  · cases he
theorem zmono {i : Instr} {pc2 : Nat} {L2 S2 : List Value} {h2 : zH} (he : zins M pc n L S h i = some (.inl (pc2, L2, S2, h2))) : h.1 ≤ h2.1 ∧ h.2.1 ≤ h2.2.1 := by
  cases i with
  | invokevirtual k => exact zinv_mo he
  | invokespecial k => exact zinv_mo he
  | invokestatic k => exact zinv_mo he
  | iconst k => exact (zgo_mo he)
  | bipush k => exact (zgo_mo he)
  | sipush k => exact (zgo_mo he)
  | lconst k => exact (zgo_mo he)
  | aconst_null => exact (zgo_mo he)
  | iload k => exact (zld_no (fun _ => zgo_mo) he)
  | iload_n k => exact (zld_no (fun _ => zgo_mo) he)
  | lload k => exact (zld_no (fun _ => zgo_mo) he)
  | lload_n k => exact (zld_no (fun _ => zgo_mo) he)
  | aload k => exact (zld_no (fun _ => zgo_mo) he)
  | aload_n k => exact (zld_no (fun _ => zgo_mo) he)
  | istore k => simp only [zins] at he; exact (zst1_no (fun _ _ => zgo_mo) he)
  | istore_n k => simp only [zins] at he; exact (zst1_no (fun _ _ => zgo_mo) he)
  | astore k => simp only [zins] at he; exact (zst1_no (fun _ _ => zgo_mo) he)
  | astore_n k => simp only [zins] at he; exact (zst1_no (fun _ _ => zgo_mo) he)
  | lstore k => simp only [zins] at he; exact (zst2_no (fun _ _ => zgo_mo) he)
  | lstore_n k => simp only [zins] at he; exact (zst2_no (fun _ _ => zgo_mo) he)
  | iinc k d => simp only [zins] at he; exact (zld_no (fun v => by split; exact hif zgo_mo hno; exact hno) he)
  | iadd => simp only [zins] at he; exact (zI2_no (fun _ _ _ => zgo_mo) he)
  | isub => simp only [zins] at he; exact (zI2_no (fun _ _ _ => zgo_mo) he)
  | imul => simp only [zins] at he; exact (zI2_no (fun _ _ _ => zgo_mo) he)
  | iand => simp only [zins] at he; exact (zI2_no (fun _ _ _ => zgo_mo) he)
  | ior => simp only [zins] at he; exact (zI2_no (fun _ _ _ => zgo_mo) he)
  | ishl => simp only [zins] at he; exact (zI2_no (fun _ _ _ => zgo_mo) he)
  | ishr => simp only [zins] at he; exact (zI2_no (fun _ _ _ => zgo_mo) he)
  | idiv => simp only [zins] at he; exact (zI2_no (fun _ _ _ => hif hno zgo_mo) he)
  | irem => simp only [zins] at he; exact (zI2_no (fun _ _ _ => hif hno zgo_mo) he)
  | ineg => simp only [zins] at he; exact (zI1_no (fun _ _ => zgo_mo) he)
  | ladd => simp only [zins] at he; exact (zJ2_no (fun _ _ _ => zgo_mo) he)
  | lsub => simp only [zins] at he; exact (zJ2_no (fun _ _ _ => zgo_mo) he)
  | lmul => simp only [zins] at he; exact (zJ2_no (fun _ _ _ => zgo_mo) he)
  | lcmp => simp only [zins] at he; exact (zJ2_no (fun _ _ _ => zgo_mo) he)
  | ldiv => simp only [zins] at he; exact (zJ2_no (fun _ _ _ => hif hno zgo_mo) he)
  | lrem => simp only [zins] at he; exact (zJ2_no (fun _ _ _ => hif hno zgo_mo) he)
  | lneg => simp only [zins] at he; exact (zJ1_no (fun _ _ => zgo_mo) he)
  | i2l => simp only [zins] at he; exact (zI1_no (fun _ _ => zgo_mo) he)
  | l2i => simp only [zins] at he; exact (zJ1_no (fun _ _ => zgo_mo) he)
  | i2b => simp only [zins] at he; exact (zI1_no (fun _ _ => zgo_mo) he)
  | i2c => simp only [zins] at he; exact (zI1_no (fun _ _ => zgo_mo) he)
  | dup => simp only [zins] at he; split at he; exact (hif zgo_mo hno he); cases he
  | pop => simp only [zins] at he; split at he; exact (hif zgo_mo hno he); cases he
  | dup_x1 => simp only [zins] at he; split at he; exact (hif zgo_mo hno he); cases he
  | dup2 => simp only [zins] at he; split at he; exact (hif zgo_mo hno he); cases he
  | goto k => simp only [zins] at he; exact (ztg_no (fun _ => zgo_mo) he)
  | ifCond k d => simp only [zins] at he; exact (zI1_no (fun _ _ h => ztg_no (fun _ => hif zgo_mo zgo_mo) h) he)
  | if_icmp k d => simp only [zins] at he; exact (zI2_no (fun _ _ _ h => ztg_no (fun _ => hif zgo_mo zgo_mo) h) he)
  | ifnull k => simp only [zins] at he; split at he; exact (ztg_no (fun _ => zgo_mo) he); exact (zgo_mo he); cases he
  | ifnonnull k => simp only [zins] at he; split at he; exact (ztg_no (fun _ => zgo_mo) he); exact (zgo_mo he); cases he
  | tableswitch a b d g => simp only [zins] at he; exact (zI1_no (fun _ _ => hif (fun h => ztg_no (fun _ => zgo_mo) h) (fun h => by split at h; exact ztg_no (fun _ => zgo_mo) h; cases h)) he)
  | getfield k => simp only [zins] at he; split at he; exact (zR1_no (fun _ _ h => zgf_no (fun _ => zgo_mo) h) he); cases he
  | putfield k => simp only [zins] at he; split at he; (split at he; (split at he; exact (zpf_no (fun _ => zgo_ms) he); cases he); cases he); cases he
  | getstatic k => simp only [zins] at he; split at he; (split at he; exact (zgo_mo he); cases he); cases he
  | arraylength => simp only [zins] at he; exact (zR1_no (fun _ _ h => zal_no (fun _ => zgo_mo) h) he)
  | iaload => simp only [zins] at he; exact (zRI_no (fun _ _ _ h => zli_no (fun _ => zgo_mo) h) he)
  | caload => simp only [zins] at he; exact (zRI_no (fun _ _ _ h => zli_no (fun _ => zgo_mo) h) he)
  | baload => simp only [zins] at he; exact (zRI_no (fun _ _ _ h => zli_no (fun _ => zgo_mo) h) he)
  | laload => simp only [zins] at he; exact (zRI_no (fun _ _ _ h => zlj_no (fun _ => zgo_mo) h) he)
  | aaload => simp only [zins] at he; exact (zRI_no (fun _ _ _ h => zlq_no (fun _ => zgo_mo) h) he)
  | iastore => simp only [zins] at he; exact (zI1_no (fun _ _ h => zRI_no (fun _ _ _ h => zsi_no (fun _ => zgo_ms) h) h) he)
  | castore => simp only [zins] at he; exact (zI1_no (fun _ _ h => zRI_no (fun _ _ _ h => zsi_no (fun _ => zgo_ms) h) h) he)
  | bastore => simp only [zins] at he; exact (zI1_no (fun _ _ h => zRI_no (fun _ _ _ h => zsi_no (fun _ => zgo_ms) h) h) he)
  | lastore => simp only [zins] at he; exact (zJ1_no (fun _ _ h => zRI_no (fun _ _ _ h => zsj_no (fun _ => zgo_ms) h) h) he)
  | aastore => simp only [zins] at he; split at he; exact (zRI_no (fun _ _ _ h => zsq_no (fun _ => zgo_ms) h) he); cases he
  | new k => simp only [zins] at he; split at he; exact (zgo_mn he); cases he
  | newarray k => simp only [zins] at he; split at he; exact (zI1_no (fun _ _ => hif zgo_mn hno) he); cases he
  | anewarray k => simp only [zins] at he; split at he; exact (zI1_no (fun _ _ => hif zgo_mn hno) he); cases he
  | ldc k => simp only [zins] at he; split at he; exact (zgo_mo he); (split at he; exact (zgo_mo he); cases he)
  | ldc_w k => simp only [zins] at he; split at he; exact (zgo_mo he); (split at he; exact (zgo_mo he); cases he)
  | ldc2_w k => simp only [zins] at he; split at he; exact (zgo_mo he); cases he
  | ireturn => simp only [zins, zrt] at he; split at he; (split at he <;> cases he); cases he
  | lreturn => simp only [zins, zrt] at he; split at he; (split at he <;> cases he); cases he
  | areturn => simp only [zins, zrt] at he; split at he; (split at he; (split at he <;> cases he); cases he); cases he
  | return_ => simp only [zins, zrt] at he; split at he; (split at he <;> cases he); cases he
  | _ => cases he
/-- a method's contract, out of its runs -/
theorem zmet_of {y : Nat} {A : List Value} {v : Option Value} {h' : zH} (hE : E.2.2.2.2.1 = .null ∨ ∃ a, E.2.2.2.2.1 = .ref a) (hpl : plainName (zmy y).cls = true) (hlen : (zexp A).length ≤ zml y)
    (ih : ∀ (p : Program) (e : Env) (R : Room) (s : State) (m : MethodId) (args : Array Value) (below : List Frame) (meth : Method) (c : Code) (Q : State → Prop) (hs : zH), zCtx E p l R s m args meth c y → hs.1 ≤ h.1 → hs.2.1 ≤ h.2.1 → h'.1 - hs.1 ≤ R.cells → h'.2.1 - hs.2.1 ≤ R.slots → (∀ (H' : Heap) (locs' : List Loc) (ls' : Array Slot) (pc' : Nat), zRep E h' H' → va_S (zA E) s.heap H' locs' → zRetI y pc' v → W p l e R s m args below meth c H' locs' (h'.1 - hs.1) (h'.2.1 - hs.2.1) Q (F0 m pc' ls' (v.map (zv E)).toList)) → zWp E p l e R s m args below meth c Q y hs h 0 (zent y A) []) : zMet E l y A h v h' := by
  refine Met.ofW (cc := zmb y) (maxL := zml y) (ret := zmr y) hpl rfl ?_
  intro p e s m args below meth c s₁ B hml hv
  obtain ⟨rfl, hR, hKS⟩ := hv
  have hts := atoms_spec (ws := .code (zmy y) (zmb y) (zml y) (zmr y) :: zW0) B.pre
  have C : zCtx E p l (zRm y h h') s m (A.map (zv E)).toArray meth c y := ⟨B.exec, B.bytes, hml, findClass_of_methodNamed B.named, fun w hw => hts w (List.mem_cons_of_mem _ hw), fun _ => (name_of_methodNamed B.named B.method).1, hKS, Nat.le_refl _, Nat.le_refl _, hE, by rw [hR.1]; exact Nat.le_add_right _ _⟩
  have hr := B.returns
  have hlocks := B.notSynchronized
  have hW := ih p e (zRm y h h') s m (A.map (zv E)).toArray below meth c (MQ below (zQc E v h') (A.map (zv E)).toArray s (h'.1 - h.1) (h'.2.1 - h.2.1) (zA E)) h C (Nat.le_refl _) (Nat.le_refl _) (Nat.le_refl _) (Nat.le_refl _) ?_
  · rw [lg_entry_eq]
    have h3 := hW s.heap [] _ hR va_S.rf (lvh_entry hE hlen)
    rw [Nat.sub_self, Nat.sub_self] at h3
    exact h3
  · intro H' locs' ls' pc' hR' hS' hret
    obtain ⟨hok, hcase⟩ := hret
    have hq : ∀ t : State, t.heap = H' → s.WarmedH t.vm → zQc E v h' (A.map (zv E)).toArray s (.returned (v.map (zv E))) t := fun t ht _ => ⟨rfl, by rw [ht]; exact hR', hS'.F ht⟩
    rcases hcase with ⟨hd, x, rfl⟩ | ⟨hd, x, rfl⟩ | ⟨hd, w, rfl, hw⟩ | ⟨hd, rfl⟩
    · have hz : ∃ ty, zmr y = some ty ∧ narrow ty (.int x) = .int x := by
        unfold zrok at hok
        split at hok <;> rename_i h1 h2 <;> first | cases h2 | skip
        · exact ⟨_, h1, rfl⟩
        · refine ⟨_, h1, ?_⟩
          simp only [Bool.or_eq_true, beq_iff_eq] at hok
          rcases hok with rfl | rfl <;> decide +kernel
        · refine ⟨_, h1, ?_⟩
          simp only [beq_iff_eq] at hok
          subst hok
          decide +kernel
        · exact ⟨_, h1, of_decide_eq_true hok⟩
        · cases hok
      obtain ⟨ty, h1, h2⟩ := hz
      exact W.zret (hlocks := hlocks) B.exec B.bytes (hr.trans h1) h2 hq hS'.2.2 hd
    · have hz : zmr y = some .long := by
        unfold zrok at hok
        split at hok <;> rename_i h1 h2 <;> first | cases h2 | skip
        · exact h1
        · cases hok
      exact W.lret (hlocks := hlocks) B.exec B.bytes (hr.trans hz) hq hS'.2.2 hd
    · have hz : ∃ ty, zmr y = some ty ∧ ((∃ n, ty = .object n) ∨ ∃ t, ty = .array t) := by
        unfold zrok at hok
        split at hok <;> rename_i h1 h2 <;> first | (cases h2; done) | (cases h2; cases hw; done) | skip
        · exact ⟨_, h1, Or.inl ⟨_, rfl⟩⟩
        · exact ⟨_, h1, Or.inl ⟨_, rfl⟩⟩
        · exact ⟨_, h1, Or.inr ⟨_, rfl⟩⟩
        · exact ⟨_, h1, Or.inr ⟨_, rfl⟩⟩
        · cases hok
      obtain ⟨ty, h1, h2⟩ := hz
      exact W.aret (hlocks := hlocks) B.exec B.bytes (hr.trans h1) h2 (zv_adr hE hw) hq hS'.2.2 hd
    · have hz : zmr y = none := by
        unfold zrok at hok
        split at hok <;> rename_i h1 h2 <;> first | cases h2 | skip
        · exact h1
        · cases hok
      exact W.vret (hlocks := hlocks) B.exec B.bytes (hr.trans hz) hq hS'.2.2 hd
/-- EVERY RUN OF THE ABSTRACT MACHINE IS THE MACHINE'S -/
theorem zsound (hE : E.2.2.2.2.1 = .null ∨ ∃ a, E.2.2.2.2.1 = .ref a) : ∀ (n M pc : Nat) (L S : List Value) (h : zH) (v : Option Value) (h' : zH), zX n M pc L S h = some (v, h') → (h.1 ≤ h'.1 ∧ h.2.1 ≤ h'.2.1) ∧
    ∀ (p : Program) (e : Env) (R : Room) (s : State) (m : MethodId) (args : Array Value) (below : List Frame) (meth : Method) (c : Code) (Q : State → Prop) (hs : zH), zCtx E p l R s m args meth c M → hs.1 ≤ h.1 → hs.2.1 ≤ h.2.1 → h'.1 - hs.1 ≤ R.cells → h'.2.1 - hs.2.1 ≤ R.slots → (∀ (H' : Heap) (locs' : List Loc) (ls' : Array Slot) (pc' : Nat), zRep E h' H' → va_S (zA E) s.heap H' locs' → zRetI M pc' v → W p l e R s m args below meth c H' locs' (h'.1 - hs.1) (h'.2.1 - hs.2.1) Q (F0 m pc' ls' (v.map (zv E)).toList)) → zWp E p l e R s m args below meth c Q M hs h pc L S := by
  intro n
  induction n with
  | zero => intro M pc L S h v h' e; cases e
  | succ n ih =>
    intro M pc L S h v h' e
    rw [zX] at e
    cases hst : zstp M pc L S h with
    | none => rw [hst] at e; cases e
    | some q =>
      rw [hst] at e
      unfold zstp at hst
      split at hst
      · rename_i i k hd
        rcases q with ⟨pc2, L2, S2, h2⟩ | q
        · obtain ⟨⟨m1, m2⟩, hrest⟩ := ih _ _ _ _ _ _ _ e
          -- the order of the numbers needs no frame
          have hmono : h.1 ≤ h2.1 ∧ h.2.1 ≤ h2.2.1 := zmono hst
          refine ⟨⟨Nat.le_trans hmono.1 m1, Nat.le_trans hmono.2 m2⟩, fun p e2 R s m args below meth c Q hs C g1 g2 g3 g4 K => ?_⟩
          have hstep := zstep_in (E := E) (below := below) (Q := Q) (hs := hs) (e := e2) (h := h) (L := L) (S := S) C hd pc2 L2 S2 h2 hst
          exact hstep.2 g1 g2 (by omega) (by omega) (hrest p e2 R s m args below meth c Q hs C (by omega) (by omega) g3 g4 K)
        · rcases zout hd hst with ⟨v2, rfl, hS, hret⟩ | ⟨op, k2, q2, rfl, hk, hdc, hinv⟩
          · cases e
            refine ⟨zle_rf, fun p e2 R s m args below meth c Q hs C g1 g2 g3 g4 K H locs ls hR hSs hl => ?_⟩
            have h9 := K H locs ls pc hR hSs hret
            rw [hS]
            cases v <;> exact h9
          · obtain ⟨y, A, pc2, L2, r, h2⟩ := q2
            dsimp only at e
            split at e
            · rename_i hlen
              split at e
              · cases e
              · rename_i v3 h3 hc
                obtain ⟨⟨m1, m2⟩, hcall⟩ := ih _ _ _ _ _ _ _ hc
                obtain ⟨⟨m3, m4⟩, hrest⟩ := ih _ _ _ _ _ _ _ e
                have hpcs : pc2 = pc + 3 ∧ L2 = L ∧ h2 = h := by
                  obtain ⟨_, _, _, -, a1, a2, a3, -⟩ := z_inv hinv
                  exact ⟨a1, a2, a3⟩
                obtain ⟨rfl, rfl, rfl⟩ := hpcs
                refine ⟨⟨Nat.le_trans m1 m3, Nat.le_trans m2 m4⟩, fun p e2 R s m args below meth c Q hs C g1 g2 g3 g4 K => ?_⟩
                obtain ⟨-, -, -, hpl, hcs⟩ := y_call (hs := hs) (Q := Q) (below := below) (e := e2) C hk hdc hinv
                exact hcs v3 h3 (zmet_of hE hpl hlen hcall) m1 m2 g1 g2 (by omega) (by omega) (hrest p e2 R s m args below meth c Q hs C (by omega) (by omega) g3 g4 K)
            · cases e
      · cases hst
end
