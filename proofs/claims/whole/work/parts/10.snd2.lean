/-! SOUNDNESS, second part: the frame's context; the instructions that touch no heap -/
def zCtx (E : zE) (p : Program) (l : Launch) (R : Room) (s : State) (m : MethodId) (args : Array Value) (meth : Method) (c : Code) (M : Nat) : Prop :=
  p.tables.exec = Jvm.exec ∧ c.code = zmb M ∧ c.maxLocals = zml M ∧ s.vm.findClass (zown M) = some m.cls ∧ (∀ w ∈ zW0, w.before args s = true) ∧ ((zmy M).name = "<init>" → meth.name = (zmy M).name) ∧ zKS E s ∧ zmf M ≤ R.frames ∧ zmo M ≤ R.locals ∧ (E.2.2.2.2.1 = .null ∨ ∃ a, E.2.2.2.2.1 = .ref a) ∧ E.1 ≤ s.heap.size
def zWp (E : zE) (p : Program) (l : Launch) (e : Env) (R : Room) (s : State) (m : MethodId) (args : Array Value) (below : List Frame) (meth : Method) (c : Code) (Q : State → Prop) (M : Nat) (hs h : zH) (pc : Nat) (L S : List Value) : Prop :=
  ∀ (H : Heap) (locs : List Loc) (ls : Array Slot), zRep E h H → va_S (zA E) s.heap H locs → lvh E ls (zml M) L → W p l e R s m args below meth c H locs (h.1 - hs.1) (h.2.1 - hs.2.1) Q (F0 m pc ls (S.map (zv E)))
theorem zisI_of {v : Value} (h : zisI v = true) : ∃ x, v = .int x := by
  cases v <;> first | exact ⟨_, rfl⟩ | (simp [zisI] at h)
theorem zisJ_of {v : Value} (h : zisJ v = true) : ∃ x, v = .long x := by
  cases v <;> first | exact ⟨_, rfl⟩ | (simp [zisJ] at h)
theorem zisA_fl {v : Value} (h : zisA v = true) : zflt v = false := by
  cases v <;> first | rfl | (simp [zisA] at h)
theorem z_ld {ok : Value → Bool} {L : List Value} {k : Nat} {f : Value → zStp} {r} (h : zld ok L k f = some r) : ∃ v, L[k]? = some v ∧ ok v = true ∧ f v = some r := by
  unfold zld at h
  split at h
  · rename_i v hv
    split at h
    · exact ⟨v, hv, by assumption, h⟩
    · cases h
  · cases h
theorem z_s1 {ok : Value → Bool} {L : List Value} {k : Nat} {S : List Value} {f : List Value → List Value → zStp} {r} (h : zst1 ok L k S f = some r) : ∃ v S2, S = v :: S2 ∧ ok v = true ∧ znj L k = true ∧ k < L.length ∧ f (L.set k v) S2 = some r := by
  unfold zst1 at h
  split at h
  · rename_i v S2
    split at h
    · rename_i hc
      simp only [Bool.and_eq_true, decide_eq_true_eq] at hc
      exact ⟨v, S2, rfl, hc.1.1, hc.1.2, hc.2, h⟩
    · cases h
  · cases h
theorem z_s2 {L : List Value} {k : Nat} {S : List Value} {f : List Value → List Value → zStp} {r} (h : zst2 L k S f = some r) : ∃ x S2, S = .long x :: S2 ∧ znj L k = true ∧ k + 1 < L.length ∧ f ((L.set k (.long x)).set (k + 1) (.float 0)) S2 = some r := by
  unfold zst2 at h
  split at h
  · rename_i v S2
    split at h
    · rename_i hc
      simp only [Bool.and_eq_true, decide_eq_true_eq] at hc
      obtain ⟨x, rfl⟩ := zisJ_of hc.1.1
      exact ⟨x, S2, rfl, hc.1.2, hc.2, h⟩
    · cases h
  · cases h
theorem z_I1 {S : List Value} {f : Int32 → List Value → zStp} {r} (h : zI1 S f = some r) : ∃ x S2, S = .int x :: S2 ∧ f x S2 = some r := by
  unfold zI1 at h
  split at h
  · exact ⟨_, _, rfl, h⟩
  · cases h
theorem z_I2 {S : List Value} {f : Int32 → Int32 → List Value → zStp} {r} (h : zI2 S f = some r) : ∃ x y S2, S = .int y :: .int x :: S2 ∧ f x y S2 = some r := by
  unfold zI2 at h
  split at h
  · exact ⟨_, _, _, rfl, h⟩
  · cases h
theorem z_J1 {S : List Value} {f : Int64 → List Value → zStp} {r} (h : zJ1 S f = some r) : ∃ x S2, S = .long x :: S2 ∧ f x S2 = some r := by
  unfold zJ1 at h
  split at h
  · exact ⟨_, _, rfl, h⟩
  · cases h
theorem z_J2 {S : List Value} {f : Int64 → Int64 → List Value → zStp} {r} (h : zJ2 S f = some r) : ∃ x y S2, S = .long y :: .long x :: S2 ∧ f x y S2 = some r := by
  unfold zJ2 at h
  split at h
  · exact ⟨_, _, _, rfl, h⟩
  · cases h
theorem z_R1 {S : List Value} {f : Nat → List Value → zStp} {r} (h : zR1 S f = some r) : ∃ a S2, S = .ref a :: S2 ∧ f a S2 = some r := by
  unfold zR1 at h
  split at h
  · exact ⟨_, _, rfl, h⟩
  · cases h
theorem z_RI {S : List Value} {f : Nat → Int32 → List Value → zStp} {r} (h : zRI S f = some r) : ∃ a i S2, S = .int i :: .ref a :: S2 ∧ f a i S2 = some r := by
  unfold zRI at h
  split at h
  · exact ⟨_, _, _, rfl, h⟩
  · cases h
theorem z_tgo {pc : Nat} {off : Int} {f : Nat → zStp} {r} (h : ztg pc off f = some r) : ∃ t : Nat, (pc : Int) + off = (t : Int) ∧ f t = some r := by
  unfold ztg at h
  split at h
  · rename_i h0
    exact ⟨_, (Int.toNat_of_nonneg h0).symm, h⟩
  · cases h
theorem z_go {pc pc2 : Nat} {L S L2 S2 : List Value} {h h2 : zH} (e : zgo pc L S h = some (.inl (pc2, L2, S2, h2))) : pc2 = pc ∧ L2 = L ∧ S2 = S ∧ h2 = h := by
  cases e; exact ⟨rfl, rfl, rfl, rfl⟩
section
variable {E : zE} {p : Program} {l : Launch} {e : Env} {R : Room} {s : State} {m : MethodId} {args : Array Value} {below : List Frame} {meth : Method} {c : Code} {Q : State → Prop} {M : Nat} {hs h : zH} {pc n : Nat} {L S : List Value}
/-- an instruction that leaves the heap: what a step's end must give -/
theorem zsp_const {v : Value} (C : zCtx E p l R s m args meth c M) (row : ∀ (H : Heap) (locs : List Loc) (ls : Array Slot) (rest : List Value), W p l e R s m args below meth c H locs (h.1 - hs.1) (h.2.1 - hs.2.1) Q (F0 m (pc + n) ls (zv E v :: rest)) → W p l e R s m args below meth c H locs (h.1 - hs.1) (h.2.1 - hs.2.1) Q (F0 m pc ls rest)) (k : zWp E p l e R s m args below meth c Q M hs h (pc + n) L (v :: S)) : zWp E p l e R s m args below meth c Q M hs h pc L S :=
  fun H locs ls hR hS hl => row H locs ls _ (k H locs ls hR hS hl)
theorem zsp_st1 {k : Nat} {v : Value} (C : zCtx E p l R s m args meth c M) (hj : znj L k = true) (hk : k < L.length)
    (row : ∀ (H : Heap) (locs : List Loc) (ls : Array Slot) (rest : List Value) (lv lv' : List (Nat × Value)), lv_has ls (zml M) lv → k < zml M → (k, zv E v) :: lv.filter (fun q => !(q.1 == k) && !(q.1 + 1 == k && q.2.category == 2)) = lv' → (∀ ls', lv_has ls' (zml M) lv' → W p l e R s m args below meth c H locs (h.1 - hs.1) (h.2.1 - hs.2.1) Q (F0 m (pc + n) ls' rest)) → W p l e R s m args below meth c H locs (h.1 - hs.1) (h.2.1 - hs.2.1) Q (F0 m pc ls (zv E v :: rest)))
    (K : zWp E p l e R s m args below meth c Q M hs h (pc + n) (L.set k v) S) : zWp E p l e R s m args below meth c Q M hs h pc L (v :: S) := by
  intro H locs ls hR hS hl
  exact row H locs ls _ _ _ hl.1 (by rw [← hl.2]; exact hk) rfl fun ls' hl' => K H locs ls' hR hS (lvh.set1 C.2.2.2.2.2.2.2.2.2.1 hl.2 hj hl')
theorem zsp_st2 {k : Nat} {x : Int64} (C : zCtx E p l R s m args meth c M) (hj : znj L k = true) (hk : k + 1 < L.length)
    (row : ∀ (H : Heap) (locs : List Loc) (ls : Array Slot) (rest : List Value) (lv lv' : List (Nat × Value)), lv_has ls (zml M) lv → k + 1 < zml M → (k, Value.long x) :: lv.filter (fun q => !(q.1 == k) && (!(q.1 == k + 1) && !(q.1 + 1 == k && q.2.category == 2))) = lv' → (∀ ls', lv_has ls' (zml M) lv' → W p l e R s m args below meth c H locs (h.1 - hs.1) (h.2.1 - hs.2.1) Q (F0 m (pc + n) ls' rest)) → W p l e R s m args below meth c H locs (h.1 - hs.1) (h.2.1 - hs.2.1) Q (F0 m pc ls (.long x :: rest)))
    (K : zWp E p l e R s m args below meth c Q M hs h (pc + n) ((L.set k (.long x)).set (k + 1) (.float 0)) S) : zWp E p l e R s m args below meth c Q M hs h pc L (.long x :: S) := by
  intro H locs ls hR hS hl
  exact row H locs ls _ _ _ hl.1 (by rw [← hl.2]; exact hk) rfl fun ls' hl' => K H locs ls' hR hS (lvh.set2 C.2.2.2.2.2.2.2.2.2.1 hl.2 hj hl')
/-- the step's claim, for an instruction -/
def zStep (E : zE) (p : Program) (l : Launch) (e : Env) (R : Room) (s : State) (m : MethodId) (args : Array Value) (below : List Frame) (meth : Method) (c : Code) (Q : State → Prop) (M : Nat) (hs h : zH) (pc n : Nat) (L S : List Value) (i : Instr) : Prop :=
  ∀ (pc2 : Nat) (L2 S2 : List Value) (h2 : zH), zins M pc n L S h i = some (.inl (pc2, L2, S2, h2)) → (h.1 ≤ h2.1 ∧ h.2.1 ≤ h2.2.1) ∧ (hs.1 ≤ h.1 → hs.2.1 ≤ h.2.1 → h2.1 - hs.1 ≤ R.cells → h2.2.1 - hs.2.1 ≤ R.slots → zWp E p l e R s m args below meth c Q M hs h2 pc2 L2 S2 → zWp E p l e R s m args below meth c Q M hs h pc L S)
theorem zle_rf {h : zH} : h.1 ≤ h.1 ∧ h.2.1 ≤ h.2.1 := ⟨Nat.le_refl _, Nat.le_refl _⟩
variable (C : zCtx E p l R s m args meth c M)
theorem y_iconst {k : Int} (C : zCtx E p l R s m args meth c M) (hd : decode (zmb M) pc = .ok (.iconst k, 1)) : zStep E p l e R s m args below meth c Q M hs h pc 1 L S (.iconst k) := by
  intro pc2 L2 S2 h2 he
  obtain ⟨rfl, rfl, rfl, rfl⟩ := z_go he
  exact ⟨zle_rf, fun _ _ _ _ K => zsp_const C (fun H locs ls rest k => lv_iconst C.1 C.2.1 hd rfl k) K⟩
theorem y_bipush {k : Int} (C : zCtx E p l R s m args meth c M) (hd : decode (zmb M) pc = .ok (.bipush k, 2)) : zStep E p l e R s m args below meth c Q M hs h pc 2 L S (.bipush k) := by
  intro pc2 L2 S2 h2 he
  obtain ⟨rfl, rfl, rfl, rfl⟩ := z_go he
  exact ⟨zle_rf, fun _ _ _ _ K => zsp_const C (fun H locs ls rest k => lv_bipush C.1 C.2.1 hd rfl k) K⟩
theorem y_sipush {k : Int} (C : zCtx E p l R s m args meth c M) (hd : decode (zmb M) pc = .ok (.sipush k, 3)) : zStep E p l e R s m args below meth c Q M hs h pc 3 L S (.sipush k) := by
  intro pc2 L2 S2 h2 he
  obtain ⟨rfl, rfl, rfl, rfl⟩ := z_go he
  exact ⟨zle_rf, fun _ _ _ _ K => zsp_const C (fun H locs ls rest k => lv_sipush C.1 C.2.1 hd rfl k) K⟩
theorem y_lconst {k : Fin 2} (C : zCtx E p l R s m args meth c M) (hd : decode (zmb M) pc = .ok (.lconst k, 1)) : zStep E p l e R s m args below meth c Q M hs h pc 1 L S (.lconst k) := by
  intro pc2 L2 S2 h2 he
  obtain ⟨rfl, rfl, rfl, rfl⟩ := z_go he
  exact ⟨zle_rf, fun _ _ _ _ K => zsp_const C (fun H locs ls rest k => lv_lconst C.1 C.2.1 hd rfl k) K⟩
theorem y_null (C : zCtx E p l R s m args meth c M) (hd : decode (zmb M) pc = .ok (.aconst_null, 1)) : zStep E p l e R s m args below meth c Q M hs h pc 1 L S .aconst_null := by
  intro pc2 L2 S2 h2 he
  obtain ⟨rfl, rfl, rfl, rfl⟩ := z_go he
  exact ⟨zle_rf, fun _ _ _ _ K => zsp_const C (fun H locs ls rest k => lv_null C.1 C.2.1 hd k) K⟩
theorem y_iload {k : Nat} (C : zCtx E p l R s m args meth c M) (hd : decode (zmb M) pc = .ok (.iload k, 2)) : zStep E p l e R s m args below meth c Q M hs h pc 2 L S (.iload k) := by
  intro pc2 L2 S2 h2 he
  obtain ⟨v, hv, ho, he⟩ := z_ld he
  obtain ⟨rfl, rfl, rfl, rfl⟩ := z_go he
  refine ⟨zle_rf, fun _ _ _ _ K H locs ls hR hS hl => ?_⟩
  obtain ⟨x, rfl⟩ := zisI_of ho
  exact lv_iload C.1 C.2.1 hd (hl.at hv rfl) (K H locs ls hR hS hl)
theorem y_iload_n {k : Fin 4} (C : zCtx E p l R s m args meth c M) (hd : decode (zmb M) pc = .ok (.iload_n k, 1)) : zStep E p l e R s m args below meth c Q M hs h pc 1 L S (.iload_n k) := by
  intro pc2 L2 S2 h2 he
  obtain ⟨v, hv, ho, he⟩ := z_ld he
  obtain ⟨rfl, rfl, rfl, rfl⟩ := z_go he
  refine ⟨zle_rf, fun _ _ _ _ K H locs ls hR hS hl => ?_⟩
  obtain ⟨x, rfl⟩ := zisI_of ho
  exact lv_iload_n C.1 C.2.1 hd rfl (hl.at hv rfl) (K H locs ls hR hS hl)
theorem y_lload {k : Nat} (C : zCtx E p l R s m args meth c M) (hd : decode (zmb M) pc = .ok (.lload k, 2)) : zStep E p l e R s m args below meth c Q M hs h pc 2 L S (.lload k) := by
  intro pc2 L2 S2 h2 he
  obtain ⟨v, hv, ho, he⟩ := z_ld he
  obtain ⟨rfl, rfl, rfl, rfl⟩ := z_go he
  refine ⟨zle_rf, fun _ _ _ _ K H locs ls hR hS hl => ?_⟩
  obtain ⟨x, rfl⟩ := zisJ_of ho
  exact lv_lload C.1 C.2.1 hd (hl.at hv rfl) (K H locs ls hR hS hl)
theorem y_lload_n {k : Fin 4} (C : zCtx E p l R s m args meth c M) (hd : decode (zmb M) pc = .ok (.lload_n k, 1)) : zStep E p l e R s m args below meth c Q M hs h pc 1 L S (.lload_n k) := by
  intro pc2 L2 S2 h2 he
  obtain ⟨v, hv, ho, he⟩ := z_ld he
  obtain ⟨rfl, rfl, rfl, rfl⟩ := z_go he
  refine ⟨zle_rf, fun _ _ _ _ K H locs ls hR hS hl => ?_⟩
  obtain ⟨x, rfl⟩ := zisJ_of ho
  exact lv_lload_n C.1 C.2.1 hd rfl (hl.at hv rfl) (K H locs ls hR hS hl)
theorem zv_adr {v : Value} (hE : E.2.2.2.2.1 = .null ∨ ∃ a, E.2.2.2.2.1 = .ref a) (h : zisA v = true) : zv E v = .null ∨ ∃ a, zv E v = .ref a := by
  cases v <;> first | (simp [zisA] at h; done) | skip
  · exact Or.inl rfl
  · exact Or.inr ⟨_, rfl⟩
  · exact hE
theorem y_aload {k : Nat} (C : zCtx E p l R s m args meth c M) (hd : decode (zmb M) pc = .ok (.aload k, 2)) : zStep E p l e R s m args below meth c Q M hs h pc 2 L S (.aload k) := by
  intro pc2 L2 S2 h2 he
  obtain ⟨v, hv, ho, he⟩ := z_ld he
  obtain ⟨rfl, rfl, rfl, rfl⟩ := z_go he
  refine ⟨zle_rf, fun _ _ _ _ K H locs ls hR hS hl => ?_⟩
  have h1 := hl.at hv (zisA_fl ho)
  have h2 := K H locs ls hR hS hl
  rw [List.map_cons] at h2
  rcases zv_adr C.2.2.2.2.2.2.2.2.2.1 ho with e | ⟨a, e⟩ <;> rw [e] at h1 h2
  · exact lv_aloadN C.1 C.2.1 hd h1 h2
  · exact lv_aload C.1 C.2.1 hd h1 h2
theorem y_aload_n {k : Fin 4} (C : zCtx E p l R s m args meth c M) (hd : decode (zmb M) pc = .ok (.aload_n k, 1)) : zStep E p l e R s m args below meth c Q M hs h pc 1 L S (.aload_n k) := by
  intro pc2 L2 S2 h2 he
  obtain ⟨v, hv, ho, he⟩ := z_ld he
  obtain ⟨rfl, rfl, rfl, rfl⟩ := z_go he
  refine ⟨zle_rf, fun _ _ _ _ K H locs ls hR hS hl => ?_⟩
  have h1 := hl.at hv (zisA_fl ho)
  have h2 := K H locs ls hR hS hl
  rw [List.map_cons] at h2
  rcases zv_adr C.2.2.2.2.2.2.2.2.2.1 ho with e | ⟨a, e⟩ <;> rw [e] at h1 h2
  · exact lv_aload_nN C.1 C.2.1 hd rfl h1 h2
  · exact lv_aload_n C.1 C.2.1 hd rfl h1 h2
theorem y_istore {k : Nat} (C : zCtx E p l R s m args meth c M) (hd : decode (zmb M) pc = .ok (.istore k, 2)) : zStep E p l e R s m args below meth c Q M hs h pc 2 L S (.istore k) := by
  intro pc2 L2 S2 h2 he
  simp only [zins] at he
  obtain ⟨v, S3, rfl, ho, hj, hk, he⟩ := z_s1 he
  obtain ⟨rfl, rfl, rfl, rfl⟩ := z_go he
  obtain ⟨x, rfl⟩ := zisI_of ho
  exact ⟨zle_rf, fun _ _ _ _ K => zsp_st1 C hj hk (fun H locs ls rest lv lv' a1 a2 a3 a4 => lv_istore C.1 C.2.1 hd a1 a2 a3 a4) K⟩
theorem y_istore_n {k : Fin 4} (C : zCtx E p l R s m args meth c M) (hd : decode (zmb M) pc = .ok (.istore_n k, 1)) : zStep E p l e R s m args below meth c Q M hs h pc 1 L S (.istore_n k) := by
  intro pc2 L2 S2 h2 he
  simp only [zins] at he
  obtain ⟨v, S3, rfl, ho, hj, hk, he⟩ := z_s1 he
  obtain ⟨rfl, rfl, rfl, rfl⟩ := z_go he
  obtain ⟨x, rfl⟩ := zisI_of ho
  exact ⟨zle_rf, fun _ _ _ _ K => zsp_st1 C hj hk (fun H locs ls rest lv lv' a1 a2 a3 a4 => lv_istore_n C.1 C.2.1 hd rfl a1 a2 a3 a4) K⟩
theorem y_lstore {k : Nat} (C : zCtx E p l R s m args meth c M) (hd : decode (zmb M) pc = .ok (.lstore k, 2)) : zStep E p l e R s m args below meth c Q M hs h pc 2 L S (.lstore k) := by
  intro pc2 L2 S2 h2 he
  simp only [zins] at he
  obtain ⟨x, S3, rfl, hj, hk, he⟩ := z_s2 he
  obtain ⟨rfl, rfl, rfl, rfl⟩ := z_go he
  exact ⟨zle_rf, fun _ _ _ _ K => zsp_st2 C hj hk (fun H locs ls rest lv lv' a1 a2 a3 a4 => lv_lstore C.1 C.2.1 hd a1 a2 a3 a4) K⟩
theorem y_lstore_n {k : Fin 4} (C : zCtx E p l R s m args meth c M) (hd : decode (zmb M) pc = .ok (.lstore_n k, 1)) : zStep E p l e R s m args below meth c Q M hs h pc 1 L S (.lstore_n k) := by
  intro pc2 L2 S2 h2 he
  simp only [zins] at he
  obtain ⟨x, S3, rfl, hj, hk, he⟩ := z_s2 he
  obtain ⟨rfl, rfl, rfl, rfl⟩ := z_go he
  exact ⟨zle_rf, fun _ _ _ _ K => zsp_st2 C hj hk (fun H locs ls rest lv lv' a1 a2 a3 a4 => lv_lstore_n C.1 C.2.1 hd rfl a1 a2 a3 a4) K⟩
theorem y_astore {k : Nat} (C : zCtx E p l R s m args meth c M) (hd : decode (zmb M) pc = .ok (.astore k, 2)) : zStep E p l e R s m args below meth c Q M hs h pc 2 L S (.astore k) := by
  intro pc2 L2 S2 h2 he
  simp only [zins] at he
  obtain ⟨v, S3, rfl, ho, hj, hk, he⟩ := z_s1 he
  obtain ⟨rfl, rfl, rfl, rfl⟩ := z_go he
  refine ⟨zle_rf, fun _ _ _ _ K => zsp_st1 C hj hk (fun H locs ls rest lv lv' a1 a2 a3 a4 => ?_) K⟩
  rcases zv_adr C.2.2.2.2.2.2.2.2.2.1 ho with e | ⟨a, e⟩ <;> rw [e] at a3 ⊢
  · exact lv_astoreN C.1 C.2.1 hd a1 a2 a3 a4
  · exact lv_astore C.1 C.2.1 hd a1 a2 a3 a4
theorem y_astore_n {k : Fin 4} (C : zCtx E p l R s m args meth c M) (hd : decode (zmb M) pc = .ok (.astore_n k, 1)) : zStep E p l e R s m args below meth c Q M hs h pc 1 L S (.astore_n k) := by
  intro pc2 L2 S2 h2 he
  simp only [zins] at he
  obtain ⟨v, S3, rfl, ho, hj, hk, he⟩ := z_s1 he
  obtain ⟨rfl, rfl, rfl, rfl⟩ := z_go he
  refine ⟨zle_rf, fun _ _ _ _ K => zsp_st1 C hj hk (fun H locs ls rest lv lv' a1 a2 a3 a4 => ?_) K⟩
  rcases zv_adr C.2.2.2.2.2.2.2.2.2.1 ho with e | ⟨a, e⟩ <;> rw [e] at a3 ⊢
  · exact lv_astore_nN C.1 C.2.1 hd rfl a1 a2 a3 a4
  · exact lv_astore_n C.1 C.2.1 hd rfl a1 a2 a3 a4
theorem y_iinc {k : Nat} {d : Int} (C : zCtx E p l R s m args meth c M) (hd : decode (zmb M) pc = .ok (.iinc k d, 3)) : zStep E p l e R s m args below meth c Q M hs h pc 3 L S (.iinc k d) := by
  intro pc2 L2 S2 h2 he
  simp only [zins] at he
  obtain ⟨v, hv, ho, he⟩ := z_ld he
  obtain ⟨x, rfl⟩ := zisI_of ho
  dsimp only at he
  split at he
  · rename_i hc
    simp only [Bool.and_eq_true, decide_eq_true_eq] at hc
    obtain ⟨rfl, rfl, rfl, rfl⟩ := z_go he
    refine ⟨zle_rf, fun _ _ _ _ K H locs ls hR hS hl => ?_⟩
    obtain ⟨q, hq⟩ := List.getElem?_of_mem (zal2_in (E := E) hv rfl)
    exact lv_iinc (k := q) C.1 C.2.1 hd hl.1 hq rfl (by rw [← hl.2]; exact hc.2) rfl fun ls' hl' => K H locs ls' hR hS (lvh.set1 (v := .int (x + Int32.ofInt d)) C.2.2.2.2.2.2.2.2.2.1 hl.2 hc.1 hl')
  · cases he
end
