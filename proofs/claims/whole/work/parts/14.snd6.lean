/-! SOUNDNESS, sixth part: calls -/
def zPc (E : zE) (A : List Value) (h : zH) : Array Value → State → Prop := fun a U => a = (A.map (zv E)).toArray ∧ zRep E h U.heap ∧ zKS E U
def zQc (E : zE) (v : Option Value) (h' : zH) : Array Value → State → Outcome → State → Prop := fun _ st o t => o = .returned (v.map (zv E)) ∧ zRep E h' t.heap ∧ va_F (zA E) st t
def zRm (y : Nat) (h h' : zH) : Room := { frames := zmf y, cells := h'.1 - h.1, slots := h'.2.1 - h.2.1, locals := zmo y }
/-- a method's contract, out of a run of it -/
def zMet (E : zE) (l : Launch) (y : Nat) (A : List Value) (h : zH) (v : Option Value) (h' : zH) : Prop := Met l (zmy y) (.code (zmy y) (zmb y) (zml y) (zmr y) :: zW0) (zRm y h h') (zPc E A h) (zQc E v h') (h'.1 - h.1) (h'.2.1 - h.2.1) (zA E)
theorem zPc_blind {E : zE} {A : List Value} {h : zH} : FrameBlind (zPc E A h) := fun a U g mk q => ⟨q.1, q.2.1, q.2.2.calling a g mk⟩
section
variable {E : zE} {p : Program} {l : Launch} {e : Env} {R : Room} {s : State} {m : MethodId} {args : Array Value} {below : List Frame} {meth : Method} {c : Code} {Q : State → Prop} {M : Nat} {hs h : zH} {pc n : Nat} {L S : List Value}
theorem zcalled {H : Heap} {locs : List Loc} {cells slots mc ms : Nat} {ls : Array Slot} {st0 rest : List Value} {v : Option Value} {h' : zH} {a : Array Value} (hr : va_Run p l e R s m args below meth c H locs cells slots mc ms (F0 m pc ls st0) rest (zQc E v h' a) (zA E)) (hS : va_S (zA E) s.heap H locs)
    (kk : ∀ (H1 : Heap) (locs1 : List Loc), zRep E h' H1 → va_S (zA E) s.heap H1 locs1 → W p l e R s m args below meth c H1 locs1 (cells + mc) (slots + ms) Q (F0 m (pc + 3) ls ((v.map (zv E)).toList ++ rest))) : W p l e R s m args below meth c H locs cells slots Q (F0 m pc ls st0) := by
  intro T hT X
  obtain ⟨v2, st₀, t, T', L, h0, X', hL, e1, e2, ⟨hv, hrep, hz, hk⟩, st⟩ := hr T hT X
  cases hv
  rw [h0] at hz hk
  obtain ⟨t2, a1, b1⟩ := kk T'.heap (locs ++ L) (by rw [e1]; exact hrep)
    ⟨Nat.le_trans hS.1 (by rw [e1]; exact hz), fun q h1 h2 => by rw [e1, hk q (Nat.lt_of_lt_of_le h1 hS.1) h2]; exact hS.2.1 q h1 h2, fun q hq => by
      rcases List.mem_append.mp hq with h | h
      · exact hS.2.2 q h
      · exact hL q h⟩ T' rfl X'
  exact ⟨t2, st t2 a1, b1⟩
theorem zwords (C : zCtx E p l R s m args meth c M) {y k : Nat} (hy : zmeth y k) : ∀ w ∈ (Cond.code (zmy y) (zmb y) (zml y) (zmr y) :: zW0 : List Cond), ∀ (a' : Array Value) (U : State), s.WarmedH U.vm → w.before a' U = true := by
  intro w hw a' U hW
  have hw0 : w ∈ zW0 := by
    rcases List.mem_cons.mp hw with e | e
    · rw [e]; exact hy.1
    · exact e
  exact word_at hW (good_of_word (zW0_g _ hw0)) (C.2.2.2.2.1 w hw0)
theorem zlenOf {y k : Nat} (hy : zmeth y k) : ∀ sig, parseMethodDescriptor (zmy y).desc = some sig → k = sig.parameters.length := by
  intro sig hs
  have h2 := hy.2.2.2
  rw [hs] at h2
  exact (Option.some.inj h2).symm
theorem zroomR (C : zCtx E p l R s m args meth c M) {y : Nat} {h' : zH} (hr : zroom M y) : (zRm y h h').frames + 1 ≤ R.frames ∧ 8 + (zml y + 11) + (zRm y h h').locals ≤ R.locals :=
  ⟨Nat.le_trans hr.1 C.2.2.2.2.2.2.2.1, Nat.le_trans hr.2 C.2.2.2.2.2.2.2.2.1⟩
theorem zcallB (C : zCtx E p l R s m args meth c M) {y k i : Nat} {h' : zH} (hy : zmeth y k) (hr : zroom M y) (hl : Cond.methodLink (zown M) i (zmy y) ∈ zW0) (hin : Cond.initialized (zmy y).cls ∈ zW0) :
    CallB R s args (zown M) i (zmy y) (zmb y) (zml y) (zmr y) (.code (zmy y) (zmb y) (zml y) (zmr y) :: zW0) (zRm y h h') (h'.1 - h.1) (h'.2.1 - h.2.1) k :=
  ⟨rfl, rfl, (zroomR C hr).1, (zroomR C hr).2, zwords C hy, List.mem_cons_self, C.2.2.2.2.1 _ hy.1, C.2.2.2.2.1 _ hin, hy.2.2.1, zlenOf hy, C.2.2.2.2.1 _ hl⟩
theorem zcallN (C : zCtx E p l R s m args meth c M) {y k i : Nat} {h' : zH} (hy : zmeth y k) (hr : zroom M y) {host : String} {j : Nat} (hl : znl[j]? = some (zown M, i, zmy y, host)) (hin : Cond.initialized (zmy y).cls ∈ zW0) :
    va_CN R s args (zown M) i (zmy y) host (zmb y) (zml y) (zmr y) (.code (zmy y) (zmb y) (zml y) (zmr y) :: zW0) (zRm y h h') (h'.1 - h.1) (h'.2.1 - h.2.1) k := by
  have h3 := C.2.2.2.2.2.2.1.2.1 j _ hl
  dsimp only at h3
  exact ⟨⟨rfl, rfl, (zroomR C hr).1, (zroomR C hr).2, zwords C hy, List.mem_cons_self⟩, C.2.2.2.2.1 _ hy.1, C.2.2.2.2.1 _ hin, hy.2.2.1, zlenOf hy, va_Nw.use rfl h3⟩
theorem zpreS (C : zCtx E p l R s m args meth c M) {H : Heap} {locs : List Loc} (hR : zRep E h H) (hS : va_S (zA E) s.heap H locs) (A : List Value) : PreS s H (zPc E A h) (A.map (zv E)) :=
  ⟨zPc_blind, fun U hU hW => ⟨rfl, by rw [hU]; exact hR, C.2.2.2.2.2.2.1.step hW (fun q h1 h2 => by rw [hU]; exact hS.2.1 q h1 h2)⟩⟩
theorem zsum_map (hE : E.2.2.2.2.1 = .null ∨ ∃ a, E.2.2.2.2.1 = .ref a) (r : List Value) : ((r.map (zv E)).map fun v => v.category).sum = zsum r := by
  unfold zsum
  rw [List.map_map]
  congr 1
  exact List.map_congr_left fun v _ => zv_cat hE v
theorem zstackm (A r : List Value) : (A.reverse ++ r).map (zv E) = (A.map (zv E)).reverse ++ r.map (zv E) := by
  rw [List.map_append, List.map_reverse]
/-- the step of a call -/
def zCStep (E : zE) (p : Program) (l : Launch) (e : Env) (R : Room) (s : State) (m : MethodId) (args : Array Value) (below : List Frame) (meth : Method) (c : Code) (Q : State → Prop) (M : Nat) (hs h : zH) (pc : Nat) (L S : List Value) (y : Nat) (A r : List Value) : Prop :=
  ∀ (v : Option Value) (h' : zH), zMet E l y A h v h' → h.1 ≤ h'.1 → h.2.1 ≤ h'.2.1 → hs.1 ≤ h.1 → hs.2.1 ≤ h.2.1 → h'.1 - hs.1 ≤ R.cells → h'.2.1 - hs.2.1 ≤ R.slots → zWp E p l e R s m args below meth c Q M hs h' (pc + 3) L (v.toList ++ r) → zWp E p l e R s m args below meth c Q M hs h pc L S
theorem zcs_end {H : Heap} {locs : List Loc} {ls : Array Slot} {r : List Value} {v : Option Value} {h' : zH} (a1 : h.1 ≤ h'.1) (a2 : h.2.1 ≤ h'.2.1) (a3 : hs.1 ≤ h.1) (a4 : hs.2.1 ≤ h.2.1) (hl : lvh E ls (zml M) L) (K : zWp E p l e R s m args below meth c Q M hs h' (pc + 3) L (v.toList ++ r)) (hS : va_S (zA E) s.heap H locs) {a : Array Value} (hr : va_Run p l e R s m args below meth c H locs (h.1 - hs.1) (h.2.1 - hs.2.1) (h'.1 - h.1) (h'.2.1 - h.2.1) (F0 m pc ls (S.map (zv E))) (r.map (zv E)) (zQc E v h' a) (zA E)) : W p l e R s m args below meth c H locs (h.1 - hs.1) (h.2.1 - hs.2.1) Q (F0 m pc ls (S.map (zv E))) := by
  refine zcalled hr hS fun H1 locs1 g1 g2 => ?_
  have hK := K H1 locs1 ls g1 g2 hl
  rw [List.map_append] at hK
  refine W.cs (cells' := h'.1 - hs.1) (slots' := h'.2.1 - hs.2.1) (by omega) (by omega) ?_
  cases v <;> exact hK
theorem y_callS (C : zCtx E p l R s m args meth c M) {y k i : Nat} {A r : List Value} (hd : decode (zmb M) pc = .ok (.invokestatic i, 3)) (hy : zmeth y k) (hr : zroom M y) (hl : Cond.methodLink (zown M) i (zmy y) ∈ zW0) (hst : Cond.static (zmy y) ∈ zW0) (hin : Cond.initialized (zmy y).cls ∈ zW0) (hA : A.length = k) (h8 : zsum r ≤ 8) : zCStep E p l e R s m args below meth c Q M hs h pc L (A.reverse ++ r) y A r := by
  intro v h' hM a1 a2 a3 a4 a5 a6 K H locs ls hR hS hlv
  exact zcs_end a1 a2 a3 a4 hlv K hS (va_runS (As := A.map (zv E)) ⟨C.1, C.2.1, C.2.2.1, C.2.2.2.1, C.2.2.2.2.1⟩ hM ⟨zcallB C hy hr hl hin, C.2.2.2.2.1 _ hst⟩ (zpreS C hR hS A) rfl (by rw [List.length_map]; exact hA) hlv.1.1 (zstackm A r) (lv_room (by rw [zsum_map C.2.2.2.2.2.2.2.2.2.1]; exact h8)) hd ⟨by omega, by omega⟩)
theorem y_callSN (C : zCtx E p l R s m args meth c M) {y k i : Nat} {A r : List Value} (hd : decode (zmb M) pc = .ok (.invokestatic i, 3)) (hy : zmeth y k) (hr : zroom M y) {host : String} {j : Nat} (hl : znl[j]? = some (zown M, i, zmy y, host)) (hst : Cond.static (zmy y) ∈ zW0) (hin : Cond.initialized (zmy y).cls ∈ zW0) (hA : A.length = k) (h8 : zsum r ≤ 8) : zCStep E p l e R s m args below meth c Q M hs h pc L (A.reverse ++ r) y A r := by
  intro v h' hM a1 a2 a3 a4 a5 a6 K H locs ls hR hS hlv
  exact zcs_end a1 a2 a3 a4 hlv K hS (va_runSN (As := A.map (zv E)) ⟨C.1, C.2.1, C.2.2.1, C.2.2.2.1, C.2.2.2.2.1⟩ hM ⟨zcallN C hy hr hl hin, C.2.2.2.2.1 _ hst, trivial⟩ (zpreS C hR hS A) rfl (by rw [List.length_map]; exact hA) hlv.1.1 (zstackm A r) (lv_room (by rw [zsum_map C.2.2.2.2.2.2.2.2.2.1]; exact h8)) hd ⟨by omega, by omega⟩)
theorem y_callI (C : zCtx E p l R s m args meth c M) {y k i o : Nat} {A r : List Value} (hd : decode (zmb M) pc = .ok (.invokespecial i, 3)) (hy : zmeth y k) (hr : zroom M y) (hl : Cond.methodLink (zown M) i (zmy y) ∈ zW0) (hst : Cond.instanceMethod (zmy y) ∈ zW0) (hin : Cond.initialized (zmy y).cls ∈ zW0) (hn : (zmy y).name = "<init>") (hv : zmr y = none) (hA : A.length = k) (h8 : zsum r ≤ 8) : zCStep E p l e R s m args below meth c Q M hs h pc L (A.reverse ++ .ref o :: r) y (.ref o :: A) r := by
  intro v h' hM a1 a2 a3 a4 a5 a6 K H locs ls hR hS hlv
  have hB := zcallB (h := h) (h' := h') C hy hr hl hin
  unfold zMet at hM
  rw [hv] at hM hB
  exact zcs_end a1 a2 a3 a4 hlv K hS (va_runI (As := A.map (zv E)) (b := zr E o) ⟨C.1, C.2.1, C.2.2.1, C.2.2.2.1, C.2.2.2.2.1⟩ hM ⟨hB, hn, C.2.2.2.2.1 _ hst⟩ (zpreS C hR hS (.ref o :: A)) rfl (by rw [List.length_map]; exact hA) hlv.1.1 (zstackm A (.ref o :: r)) (lv_room (by rw [zsum_map C.2.2.2.2.2.2.2.2.2.1]; exact h8)) hd ⟨by omega, by omega⟩)
theorem y_callIN (C : zCtx E p l R s m args meth c M) {y k i o : Nat} {A r : List Value} (hd : decode (zmb M) pc = .ok (.invokespecial i, 3)) (hy : zmeth y k) (hr : zroom M y) {host : String} {j : Nat} (hl : znl[j]? = some (zown M, i, zmy y, host)) (hst : Cond.instanceMethod (zmy y) ∈ zW0) (hin : Cond.initialized (zmy y).cls ∈ zW0) (hn : (zmy y).name = "<init>") (hv : zmr y = none) (hA : A.length = k) (h8 : zsum r ≤ 8) : zCStep E p l e R s m args below meth c Q M hs h pc L (A.reverse ++ .ref o :: r) y (.ref o :: A) r := by
  intro v h' hM a1 a2 a3 a4 a5 a6 K H locs ls hR hS hlv
  have hB := zcallN (h := h) (h' := h') C hy hr hl hin
  unfold zMet at hM
  rw [hv] at hM hB
  exact zcs_end a1 a2 a3 a4 hlv K hS (va_runIN (As := A.map (zv E)) (b := zr E o) ⟨C.1, C.2.1, C.2.2.1, C.2.2.2.1, C.2.2.2.2.1⟩ hM ⟨hB, hn, C.2.2.2.2.1 _ hst⟩ (zpreS C hR hS (.ref o :: A)) rfl (by rw [List.length_map]; exact hA) hlv.1.1 (zstackm A (.ref o :: r)) (lv_room (by rw [zsum_map C.2.2.2.2.2.2.2.2.2.1]; exact h8)) hd ⟨by omega, by omega⟩)
theorem zpreV (C : zCtx E p l R s m args meth c M) {H : Heap} {locs : List Loc} (hR : zRep E h H) (hS : va_S (zA E) s.heap H locs) (A : List Value) {o rc : Nat} (hc : rc < 14) (hk : zkd h o = rc) : PreV s H (zcln rc) (zr E o) (zPc E (.ref o :: A) h) (A.map (zv E)) :=
  ⟨zPc_blind, zobj C hR hS hc hk, (zpreS C hR hS (.ref o :: A)).2⟩
theorem y_callV (C : zCtx E p l R s m args meth c M) {y k i o rc : Nat} {A r : List Value} (hd : decode (zmb M) pc = .ok (.invokevirtual i, 3)) (hy : zmeth y k) (hr : zroom M y) (hl : Cond.methodLink (zown M) i (zmy y) ∈ zW0) (hst : Cond.instanceMethod (zmy y) ∈ zW0) (hse : Cond.selects (zmy y).cls (zmy y) (zmy y) ∈ zW0) (hin : Cond.initialized (zmy y).cls ∈ zW0) (hcl : (zmy y).cls = zcln rc) (hrc : rc < 14) (hA : A.length = k) (h8 : zsum r ≤ 8) (hk : zkd h o = rc) : zCStep E p l e R s m args below meth c Q M hs h pc L (A.reverse ++ .ref o :: r) y (.ref o :: A) r := by
  intro v h' hM a1 a2 a3 a4 a5 a6 K H locs ls hR hS hlv
  rw [hcl] at hse
  exact zcs_end a1 a2 a3 a4 hlv K hS (va_runV (As := A.map (zv E)) (b := zr E o) (C := zcln rc) ⟨C.1, C.2.1, C.2.2.1, C.2.2.2.1, C.2.2.2.2.1⟩ hM ⟨zcallB C hy hr hl hin, C.2.2.2.2.1 _ hst, C.2.2.2.2.1 _ hse⟩ (zpreV C hR hS A hrc hk) rfl (by rw [List.length_map]; exact hA) hlv.1.1 (zstackm A (.ref o :: r)) (lv_room (by rw [zsum_map C.2.2.2.2.2.2.2.2.2.1]; exact h8)) hd ⟨by omega, by omega⟩)
theorem y_callU (C : zCtx E p l R s m args meth c M) {y k i o rc : Nat} {A r : List Value} (hd : decode (zmb M) pc = .ok (.invokevirtual i, 3)) (hy : zmeth y k) (hr : zroom M y) (hl : Cond.methodLink (zown M) i (zmy y) ∈ zW0) (hsm : Cond.sameMethod (zmy y).cls (zmy y).cls (zmy y).name (zmy y).desc ∈ zW0) (hse : Cond.selects (zcln rc) (zmy y) (zmy y) ∈ zW0) (hst : Cond.instanceMethod (zmy y) ∈ zW0) (hin : Cond.initialized (zmy y).cls ∈ zW0) (hrc : rc < 13) (hA : A.length = k) (h8 : zsum r ≤ 8) (hk : zkd h o = rc) : zCStep E p l e R s m args below meth c Q M hs h pc L (A.reverse ++ .ref o :: r) y (.ref o :: A) r := by
  intro v h' hM a1 a2 a3 a4 a5 a6 K H locs ls hR hS hlv
  have ht := C.2.2.2.2.1
  have hG : GoodIn zW0 (va_wsU (zown M) i (zcln rc) (zmy y).cls (zmy y) (zmy y) (.code (zmy y) (zmb y) (zml y) (zmr y) :: zW0)) := by
    intro w hw
    have hw0 : w ∈ zW0 := by
      unfold va_wsU at hw
      simp only [List.cons_append, List.nil_append, List.mem_cons] at hw
      rcases hw with rfl | rfl | rfl | rfl | rfl | rfl | hw
      · exact hl
      · exact hsm
      · exact hse
      · exact hst
      · exact hin
      · exact hy.1
      · exact hw
    exact ⟨hw0, good_of_word (zW0_g _ hw0)⟩
  exact zcs_end a1 a2 a3 a4 hlv K hS (va_runU (As := A.map (zv E)) (b := zr E o) (C := zcln rc) (owner := (zmy y).cls) ⟨C.1, C.2.1, C.2.2.1, C.2.2.2.1, C.2.2.2.2.1⟩ hM (va_cwU k ht hG rfl rfl rfl rfl ⟨hy.2.2.1.1, hy.2.2.1.2, hy.2.2.2⟩ (zroomR C hr)) (zpreV C hR hS A (by omega) hk) rfl (by rw [List.length_map]; exact hA) hlv.1.1 (zstackm A (.ref o :: r)) (lv_room (by rw [zsum_map C.2.2.2.2.2.2.2.2.2.1]; exact h8)) hd ⟨by omega, by omega⟩)
theorem y_callSU (C : zCtx E p l R s m args meth c M) {y k i o rc : Nat} {A r : List Value} (hd : decode (zmb M) pc = .ok (.invokespecial i, 3)) (hy : zmeth y k) (hr : zroom M y) (hl : Cond.methodLink (zown M) i (zmy y) ∈ zW0) (hsm : Cond.sameMethod (zmy y).cls (zmy y).cls (zmy y).name (zmy y).desc ∈ zW0) (hsu : Cond.superclass (zown M) (zmy y).cls ∈ zW0) (hst : Cond.instanceMethod (zmy y) ∈ zW0) (hin : Cond.initialized (zmy y).cls ∈ zW0) (hno : (zmy y).name ≠ "<init>") (hrc : rc < 13) (hA : A.length = k) (h8 : zsum r ≤ 8) (hk : zkd h o = rc) : zCStep E p l e R s m args below meth c Q M hs h pc L (A.reverse ++ .ref o :: r) y (.ref o :: A) r := by
  intro v h' hM a1 a2 a3 a4 a5 a6 K H locs ls hR hS hlv
  have ht := C.2.2.2.2.1
  obtain ⟨q, hq⟩ : ∃ q, zcl[rc]? = some q := ⟨_, List.getElem?_eq_getElem (show rc < zcl.length from hrc)⟩
  have hat := (C.2.2.2.2.2.2.1.1.1 rc q hq).2
  have hcn : zcln rc = q.1 := by
    unfold zcln
    rw [if_neg (by omega), List.getD_eq_getElem?_getD, hq]
    rfl
  have hpv := zpreV C hR hS A (o := o) (rc := rc) (by omega) hk
  rw [hcn] at hpv
  exact zcs_end a1 a2 a3 a4 hlv K hS (va_runSU (As := A.map (zv E)) (b := zr E o) hat ⟨C.1, C.2.1, C.2.2.1, C.2.2.2.1, C.2.2.2.2.1⟩ hM ⟨⟨rfl, rfl, (zroomR C hr).1, (zroomR C hr).2, zwords C hy, List.mem_cons_self⟩, ht _ hl, ht _ hsm, ht _ hsu, ht _ hst, ht _ hin, ht _ hy.1, hno, zlenOf hy⟩ hpv rfl (by rw [List.length_map]; exact hA) hlv.1.1 (zstackm A (.ref o :: r)) (lv_room (by rw [zsum_map C.2.2.2.2.2.2.2.2.2.1]; exact h8)) hd ⟨by omega, by omega⟩)
theorem z_cal {y : Nat} {A : List Value} {pc1 : Nat} {L1 r1 : List Value} {h1 : zH} {y2 : Nat} {A2 : List Value} {pc2 : Nat} {L2 r2 : List Value} {h2 : zH} (e : zcal y A pc1 L1 r1 h1 = some (.inr (.inr (y2, A2, pc2, L2, r2, h2)))) : zsum r1 ≤ 8 ∧ y2 = y ∧ A2 = A ∧ pc2 = pc1 ∧ L2 = L1 ∧ r2 = r1 ∧ h2 = h1 := by
  unfold zcal at e
  split at e
  · cases e; exact ⟨by assumption, rfl, rfl, rfl, rfl, rfl, rfl⟩
  · cases e
theorem zgo_no {pc1 : Nat} {L1 S1 : List Value} {h1 : zH} {x : zRet ⊕ zCal} (e : zgo pc1 L1 S1 h1 = some (.inr x)) : False := by cases e
theorem zcp_no {s : Nat} {sp : Int32} {d : Nat} {dp k : Int32} {f : zH → zStp} {x : zRet ⊕ zCal} (hf : ∀ h, f h ≠ some (.inr x)) (e : zcpI h s sp d dp k f = some (.inr x)) : False := by
  unfold zcpI at e
  split at e
  · split at e
    · exact hf _ e
    · cases e
  · split at e
    · exact hf _ e
    · cases e
  · cases e
theorem zmath_no {rc : Nat} {f : Value → List Value → zStp} {x : zRet ⊕ zCal} (hf : ∀ v r, f v r ≠ some (.inr x)) (e : zmath rc S f = some (.inr x)) : False := by
  unfold zmath at e
  split at e
  · obtain ⟨_, _, _, -, e⟩ := z_I2 e; exact hf _ _ e
  · obtain ⟨_, _, _, -, e⟩ := z_I2 e; exact hf _ _ e
  · obtain ⟨_, _, _, -, e⟩ := z_J2 e; exact hf _ _ e
  · obtain ⟨_, _, _, -, e⟩ := z_J2 e; exact hf _ _ e
  · obtain ⟨_, _, -, e⟩ := z_J1 e; exact hf _ _ e
  · cases e
/-- what a call's step is -/
theorem z_inv {op i : Nat} {y : Nat} {A : List Value} {pc2 : Nat} {L2 r : List Value} {h2 : zH} (e : zinv op M pc L S h i = some (.inr (.inr (y, A, pc2, L2, r, h2)))) : ∃ k n rc, zst.lookup (M * zKEY + i) = some (k, y, n, rc) ∧ pc2 = pc + 3 ∧ L2 = L ∧ h2 = h ∧ zsum r ≤ 8 ∧
    (((k = 0 ∨ k = 3) ∧ op = 0 ∧ A.length = n ∧ S = A.reverse ++ r) ∨ ∃ a B, A = .ref a :: B ∧ B.length = n ∧ S = B.reverse ++ .ref a :: r ∧ (((k = 2 ∨ k = 4) ∧ op = 1) ∨ (((k = 1 ∨ k = 5) ∧ op = 2 ∨ k = 6 ∧ op = 1) ∧ zkd h a = rc))) := by
  unfold zinv at e
  split at e
  · exfalso
    split at e
    · split at e
      · split at e
        · exact zcp_no (fun h => zgo_no) e
        · cases e
      · cases e
    · cases e
  · exfalso
    split at e
    · split at e
      · split at e
        · exact zgo_no e
        · cases e
      · cases e
    · cases e
  · exfalso
    split at e
    · exact zmath_no (fun v r h => by split at h; exact zgo_no h; cases h) e
    · cases e
  · rename_i k y2 n rc _ _ _ hs
    split at e
    · rename_i hn
      have hta : S.take n ++ S.drop n = S := List.take_append_drop n S
      have hln : (S.take n).length = n := List.length_take_of_le hn
      split at e
      · rename_i hk
        obtain ⟨a1, rfl, rfl, rfl, rfl, rfl, rfl⟩ := z_cal e
        exact ⟨k, n, rc, hs, rfl, rfl, rfl, a1, Or.inl ⟨hk.1, hk.2, by rw [List.length_reverse, hln], by rw [List.reverse_reverse, hta]⟩⟩
      · split at e
        · rename_i a r3 hdr
          rw [hdr] at hta
          split at e
          · rename_i hk
            obtain ⟨a1, rfl, rfl, rfl, rfl, rfl, rfl⟩ := z_cal e
            exact ⟨k, n, rc, hs, rfl, rfl, rfl, a1, Or.inr ⟨a, _, rfl, by rw [List.length_reverse, hln], by rw [List.reverse_reverse, hta], Or.inl hk⟩⟩
          · split at e
            · rename_i hk
              obtain ⟨a1, rfl, rfl, rfl, rfl, rfl, rfl⟩ := z_cal e
              exact ⟨k, n, rc, hs, rfl, rfl, rfl, a1, Or.inr ⟨a, _, rfl, by rw [List.length_reverse, hln], by rw [List.reverse_reverse, hta], Or.inr hk⟩⟩
            · cases e
        · cases e
    · cases e
  · cases e
/-- a call, of whatever kind -/
theorem y_call (C : zCtx E p l R s m args meth c M) {op i : Nat} (hi : i < 2000) (hd : decode (zmb M) pc = .ok (if op = 0 then .invokestatic i else if op = 1 then .invokespecial i else .invokevirtual i, 3)) {y : Nat} {A : List Value} {pc2 : Nat} {L2 r : List Value} {h2 : zH} (he : zinv op M pc L S h i = some (.inr (.inr (y, A, pc2, L2, r, h2)))) :
    pc2 = pc + 3 ∧ L2 = L ∧ h2 = h ∧ plainName (zmy y).cls = true ∧ zCStep E p l e R s m args below meth c Q M hs h pc L S y A r := by
  obtain ⟨k, n, rc, hs, rfl, rfl, rfl, h8, hcase⟩ := z_inv he
  refine ⟨rfl, rfl, rfl, ?_⟩
  have hP := zAll_lk zst_ok hs
  unfold zsP at hP
  dsimp only at hP
  rw [(zkey hi).1, (zkey hi).2] at hP
  rcases hcase with ⟨rfl | rfl, rfl, hA, rfl⟩ | ⟨a, B, rfl, hB, rfl, ⟨rfl | rfl, rfl⟩ | ⟨⟨rfl | rfl, rfl⟩ | ⟨rfl, rfl⟩, hk⟩⟩
  · obtain ⟨⟨w1, w2, w3⟩, w4, w5⟩ := hP
    exact ⟨w4.2.1, y_callS C hd w4 w5 w1 w2 w3 hA h8⟩
  · obtain ⟨⟨⟨j, host, w1⟩, w2, w3⟩, w4, w5⟩ := hP
    exact ⟨w4.2.1, y_callSN C hd w4 w5 w1 w2 w3 hA h8⟩
  · obtain ⟨⟨w1, w2, w3⟩, w4, w5, w6, w7⟩ := hP
    exact ⟨w4.2.1, y_callI C hd w4 w5 w1 w2 w3 w6 w7 hB h8⟩
  · obtain ⟨⟨⟨j, host, w1⟩, w2, w3⟩, w4, w5, w6, w7⟩ := hP
    exact ⟨w4.2.1, y_callIN C hd w4 w5 w1 w2 w3 w6 w7 hB h8⟩
  · obtain ⟨⟨w1, w2, w3, w4⟩, w5, w6, w7, w8⟩ := hP
    exact ⟨w5.2.1, y_callV C hd w5 w6 w1 w2 w3 w4 w7 w8 hB h8 hk⟩
  · obtain ⟨⟨w1, w2, w3, w4, w5⟩, w6, w7, w8⟩ := hP
    exact ⟨w6.2.1, y_callU C hd w6 w7 w1 w2 w3 w4 w5 w8 hB h8 hk⟩
  · obtain ⟨⟨w1, w2, w3, w4, w5⟩, w6, w7, w8, w9⟩ := hP
    exact ⟨w6.2.1, y_callSU C hd w6 w7 w1 w2 w3 w4 w5 w8 w9 hB h8 hk⟩
end
