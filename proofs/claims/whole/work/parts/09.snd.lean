/-! SOUNDNESS of the abstract machine, first part: how its heap lies in the real one; what is known of statics; the frame -/
abbrev zE : Type := Nat × (Nat → Nat) × va_G × (Nat → ClassId) × Value × (Nat → zC)
def zr (E : zE) (a : Nat) : Nat := if a < 100 then E.2.1 a else E.1 + (a - 100)
def zv (E : zE) (v : Value) : Value := match v with
  | .ref a => .ref (zr E a)
  | .retAddr _ => E.2.2.2.2.1
  | v => v
def zc (E : zE) (c : zC) : va_E := match c with
  | .inl (t, n, .inr (.inr (.inr (.inr g)))) => .inl (E.2.2.2.1 t, n, .inr (.inr (.inr (.inr fun j => (g j).map (zr E)))))
  | .inl (t, n, x) => .inl (E.2.2.2.1 t, n, x)
  | .inr (ci, fs) => .inr (ci, fs.map (zv E))
def zA (E : zE) : Nat → Prop := fun q => E.1 ≤ q
def ztys (E : zE) : List (ClassId × FieldType) := (List.range 8).map fun t => (E.2.2.2.1 t, ztag.getD t .int)
theorem ztys_at {E : zE} {t : Nat} (ht : t < 8) : (ztys E)[t]? = some (E.2.2.2.1 t, ztag.getD t .int) := by
  unfold ztys
  rw [List.getElem?_map, List.getElem?_range ht]; rfl
def zRep (E : zE) (h : zH) (H : Heap) : Prop := H.size = E.1 + h.1 ∧ (∀ i, i < h.1 → va_at E.2.2.1 zcl (E.1 + i, zc E (h.2.2 (100 + i))) H) ∧ (∀ a, 100 + h.1 ≤ a → h.2.2 a = zNo) ∧ ∀ a, a < 100 → h.2.2 a = E.2.2.2.2.2 a
theorem zr_dyn {E : zE} {a : Nat} (ha : 100 ≤ a) : zr E a = E.1 + (a - 100) := if_neg (by omega)
theorem zRep.cell {E : zE} {h : zH} {H : Heap} (hR : zRep E h H) {a : Nat} (ha : 100 ≤ a) (hn : h.2.2 a ≠ zNo) : a < 100 + h.1 ∧ va_at E.2.2.1 zcl (zr E a, zc E (h.2.2 a)) H := by
  have hl : a < 100 + h.1 := by
    rcases Nat.lt_or_ge a (100 + h.1) with q | q
    · exact q
    · exact absurd (hR.2.2.1 a q) hn
  refine ⟨hl, ?_⟩
  have h2 := hR.2.1 (a - 100) (by omega)
  rw [show 100 + (a - 100) = a by omega] at h2
  rw [zr_dyn ha]
  exact h2
theorem zRep.lt {E : zE} {h : zH} {H : Heap} (hR : zRep E h H) {a : Nat} (ha : 100 ≤ a) (hl : a < 100 + h.1) : zr E a < H.size := by rw [zr_dyn ha, hR.1]; omega
theorem zRep.set {E : zE} {h : zH} {H H1 : Heap} (hR : zRep E h H) {a : Nat} {c : zC} (ha : 100 ≤ a) (hl : a < 100 + h.1) (z : H1.size = H.size) (oq : ∀ q : Nat, q ≠ zr E a → H1[q]? = H[q]?) (hc : va_at E.2.2.1 zcl (zr E a, zc E c) H1) : zRep E (zset h a c) H1 := by
  refine ⟨by rw [z, hR.1]; rfl, fun i hi => ?_, fun b hb => ?_, fun b hb => ?_⟩
  · show va_at _ _ (E.1 + i, zc E (zup h.2.2 a c (100 + i))) H1
    by_cases e : 100 + i = a
    · rw [zup, if_pos e, ← show zr E a = E.1 + i by rw [zr_dyn ha]; omega]
      exact hc
    · rw [zup, if_neg e]
      exact (hR.2.1 i hi).kept (oq _ (by rw [zr_dyn ha]; show E.1 + i ≠ _; omega))
  · show zup h.2.2 a c b = zNo
    have hb2 : 100 + h.1 ≤ b := hb
    rw [zup, if_neg (by omega)]
    exact hR.2.2.1 b hb
  · show zup h.2.2 a c b = _
    rw [zup, if_neg (by omega)]
    exact hR.2.2.2 b hb
theorem zRep.new {E : zE} {h : zH} {H H1 : Heap} (hR : zRep E h H) {c : zC} {n : Nat} (z : H1.size = H.size + 1) (oq : ∀ q : Nat, q < H.size → H1[q]? = H[q]?) (hc : va_at E.2.2.1 zcl (H.size, zc E c) H1) : zRep E (znew h c n) H1 := by
  refine ⟨by rw [z, hR.1]; rfl, fun i hi => ?_, fun b hb => ?_, fun b hb => ?_⟩
  · show va_at _ _ (E.1 + i, zc E (zup h.2.2 (100 + h.1) c (100 + i))) H1
    have hi2 : i < h.1 + 1 := hi
    by_cases e : i = h.1
    · rw [zup, if_pos (by omega), e, ← hR.1]
      exact hc
    · rw [zup, if_neg (by omega)]
      exact (hR.2.1 i (by omega)).kept (oq _ (by rw [hR.1]; show E.1 + i < _; omega))
  · show zup h.2.2 (100 + h.1) c b = zNo
    have hb2 : 100 + (h.1 + 1) ≤ b := hb
    rw [zup, if_neg (by omega)]
    exact hR.2.2.1 b (by omega)
  · show zup h.2.2 (100 + h.1) c b = _
    rw [zup, if_neg (by omega)]
    exact hR.2.2.2 b hb
/-- what the cells below 100 are -/
def zSC (E : zE) (a : Nat) (U : State) (H : Heap) : Prop := match E.2.2.2.2.2 a with
  | .inl (t, n, .inl g) => (t = 0 ∨ t = 3) ∧ va_T (ztag.getD t .int) (zr E a) n (fun j => .int (g j)) (zA E) U H
  | .inr (13, [v, .int c]) => va_O "java/lang/String" (zr E a) (zA E) U H ∧ va_OF "java/lang/String" "coder" "B" (.int c) (zr E a) (zA E) U H ∧ va_OF "java/lang/String" "value" "[B" (zv E v) (zr E a) (zA E) U H
  | .inr (99, _) => True
  | _ => False
def zKS (E : zE) (U : State) : Prop := va_K E.2.2.1 zcl (ztys E) U ∧ (∀ (j : Nat) q, znl[j]? = some q → va_Nw (.methodLinkNest q.1 q.2.1 q.2.2.1 q.2.2.2) U) ∧ (∀ (j : Nat) q, zsx[j]? = some q → vk_R q.1 q.2.1 q.2.2.1 (zr E (10 + 2 * j)) U) ∧ (∀ C, C ∈ zao → va_AO C U) ∧ (∀ (j : Nat) q, zsl[j]? = some q → va_Z q.1 q.2.1 q.2.2.1 (zv E q.2.2.2) (zA E) U U.heap) ∧ ∀ a, a < 100 → zSC E a U U.heap
theorem zSC.step {E : zE} {a : Nat} {u U : State} (hvm : u.vm.Alike U.vm) (hk : ∀ q : Nat, q < u.heap.size → ¬ zA E q → U.heap[q]? = u.heap[q]?) (h : zSC E a u u.heap) : zSC E a U U.heap := by
  unfold zSC at h ⊢
  split at h
  · exact ⟨h.1, va_T.moved hvm (h.2.kept hk)⟩
  · exact ⟨va_O.moved hvm (h.1.kept hk), va_OF.moved hvm (h.2.1.kept hk), va_OF.moved hvm (h.2.2.kept hk)⟩
  · trivial
  · exact h
theorem zKS.step {E : zE} {u U : State} (hW : u.WarmedH U.vm) (hk : ∀ q : Nat, q < u.heap.size → ¬ zA E q → U.heap[q]? = u.heap[q]?) (h : zKS E u) : zKS E U := by
  obtain ⟨h1, h2, h3, h4, h5, h6⟩ := h
  exact ⟨va_K.moved hW.alike h1, fun j q hq => va_Nw.warmM hW (h2 j q hq), fun j q hq => vk_R.warm hW (h3 j q hq), fun C hC => va_AO.moved hW.alike (h4 C hC), fun j q hq => va_Z.moved hW.alike ((h5 j q hq).kept hk), fun a ha => (h6 a ha).step hW.alike hk⟩
theorem zKS.calling {E : zE} {U : State} (a : Array Value) (g : JFrame) (mk : MethodId) (h : zKS E U) : zKS E (U.calling g mk a) := by
  obtain ⟨h1, h2, h3, h4, h5, h6⟩ := h
  exact ⟨va_K.moved (Vm.Alike.refl U.vm) h1, fun j q hq => va_Nw.same rfl rfl (h2 j q hq), fun j q hq => vk_R.same (u := U) rfl (h3 j q hq), fun C hC => va_AO.moved (Vm.Alike.refl U.vm) (h4 C hC), fun j q hq => va_Z.moved (Vm.Alike.refl U.vm) (h5 j q hq), fun a ha => (h6 a ha).step (Vm.Alike.refl U.vm) (fun _ _ _ => rfl)⟩
/-- the locals -/
def zflt : Value → Bool
  | .float _ => true
  | _ => false
def zal2 (E : zE) (L : List Value) : List (Nat × Value) := (List.range L.length).filterMap fun k => match L[k]? with
  | some v => if zflt v = true then none else some (k, zv E v)
  | none => none
def lvh (E : zE) (ls : Array Slot) (n : Nat) (L : List Value) : Prop := lv_has ls n (zal2 E L) ∧ L.length = n
theorem zal2_in {E : zE} {L : List Value} {k : Nat} {v : Value} (hk : L[k]? = some v) (hv : zflt v = false) : (k, zv E v) ∈ zal2 E L := by
  have hl : k < L.length := (List.getElem?_eq_some_iff.mp hk).1
  refine List.mem_filterMap.mpr ⟨k, List.mem_range.mpr hl, ?_⟩
  simp [hk, hv]
theorem zal2_of {E : zE} {L : List Value} {q : Nat × Value} (h : q ∈ zal2 E L) : ∃ v, L[q.1]? = some v ∧ zflt v = false ∧ q.2 = zv E v := by
  obtain ⟨k, -, hk⟩ := List.mem_filterMap.mp h
  cases hL : L[k]? with
  | none => rw [hL] at hk; cases hk
  | some v =>
    rw [hL] at hk
    by_cases hf : zflt v = true
    · simp [hf] at hk
    · simp [hf] at hk
      subst hk
      exact ⟨v, hL, by simpa using hf, rfl⟩
theorem lv_mono {ls : Array Slot} {n : Nat} {l l' : List (Nat × Value)} (h : lv_has ls n l) (hs : ∀ q ∈ l', q ∈ l) : lv_has ls n l' := ⟨h.1, h.2.1, fun q hq => h.2.2 q (hs q hq)⟩
theorem lvh.at {E : zE} {ls : Array Slot} {n : Nat} {L : List Value} (h : lvh E ls n L) {k : Nat} {v : Value} (hk : L[k]? = some v) (hv : zflt v = false) : ls[k]? = some (.val (zv E v)) := h.1.2.2 _ (zal2_in hk hv)
theorem zv_cat {E : zE} (hE : E.2.2.2.2.1 = .null ∨ ∃ a, E.2.2.2.2.1 = .ref a) (v : Value) : (zv E v).category = v.category := by
  cases v <;> first | rfl | skip
  rcases hE with e | ⟨a, e⟩ <;> simp [zv, e, Value.category]
/-- a store of one word -/
theorem lvh.set1 {E : zE} {n : Nat} {L : List Value} {k : Nat} {v : Value} (hE : E.2.2.2.2.1 = .null ∨ ∃ a, E.2.2.2.2.1 = .ref a) (hL : L.length = n) (hj : znj L k = true) {ls' : Array Slot} (h : lv_has ls' n ((k, zv E v) :: (zal2 E L).filter (fun q => !(q.1 == k) && !(q.1 + 1 == k && q.2.category == 2)))) : lvh E ls' n (L.set k v) := by
  refine ⟨lv_mono h fun q hq => ?_, by rw [List.length_set]; exact hL⟩
  obtain ⟨w, h1, h2, h3⟩ := zal2_of hq
  obtain ⟨j, x⟩ := q
  subst h3
  by_cases e : j = k
  · subst e
    have hl := (List.getElem?_eq_some_iff.mp h1).1
    rw [List.length_set] at hl
    rw [List.getElem?_set_self hl] at h1
    cases h1
    exact List.mem_cons_self
  · rw [List.getElem?_set_ne (Ne.symm e)] at h1
    refine List.mem_cons_of_mem _ (List.mem_filter.mpr ⟨zal2_in h1 h2, ?_⟩)
    simp only [Bool.and_eq_true, Bool.not_eq_true', beq_eq_false_iff_ne, ne_eq]
    refine ⟨e, ?_⟩
    by_cases e2 : j + 1 = k
    · subst e2
      have h4 : w.category = 1 := by
        simp only [znj, h1] at hj
        simpa using hj
      simp [zv_cat hE, h4]
    · simp [e2]
theorem lvh.set2 {E : zE} {n : Nat} {L : List Value} {k : Nat} {x : Int64} (hE : E.2.2.2.2.1 = .null ∨ ∃ a, E.2.2.2.2.1 = .ref a) (hL : L.length = n) (hj : znj L k = true) {ls' : Array Slot} (h : lv_has ls' n ((k, .long x) :: (zal2 E L).filter (fun q => !(q.1 == k) && (!(q.1 == k + 1) && !(q.1 + 1 == k && q.2.category == 2))))) : lvh E ls' n ((L.set k (.long x)).set (k + 1) (.float 0)) := by
  refine ⟨lv_mono h fun q hq => ?_, by rw [List.length_set, List.length_set]; exact hL⟩
  obtain ⟨w, h1, h2, h3⟩ := zal2_of hq
  obtain ⟨j, y⟩ := q
  subst h3
  by_cases e1 : j = k + 1
  · subst e1
    have hl := (List.getElem?_eq_some_iff.mp h1).1
    rw [List.length_set] at hl
    rw [List.getElem?_set_self hl] at h1
    cases h1
    cases h2
  · rw [List.getElem?_set_ne (Ne.symm e1)] at h1
    by_cases e : j = k
    · subst e
      have hl := (List.getElem?_eq_some_iff.mp h1).1
      rw [List.length_set] at hl
      rw [List.getElem?_set_self hl] at h1
      cases h1
      exact List.mem_cons_self
    · rw [List.getElem?_set_ne (Ne.symm e)] at h1
      refine List.mem_cons_of_mem _ (List.mem_filter.mpr ⟨zal2_in h1 h2, ?_⟩)
      simp only [Bool.and_eq_true, Bool.not_eq_true', beq_eq_false_iff_ne, ne_eq]
      refine ⟨e, e1, ?_⟩
      by_cases e2 : j + 1 = k
      · subst e2
        have h4 : w.category = 1 := by
          simp only [znj, h1] at hj
          simpa using hj
        simp [zv_cat hE, h4]
      · simp [e2]
/-- the locals at a method's entry -/
theorem zexp_args {E : zE} (hE : E.2.2.2.2.1 = .null ∨ ∃ a, E.2.2.2.2.1 = .ref a) : ∀ (args : List Value) (i : Nat) (j : Nat) (v : Value), (zexp args)[j]? = some v → zflt v = false → (i + j, zv E v) ∈ lv_args i (args.map (zv E))
  | [], i, j, v, h, _ => by cases h
  | a :: r, i, j, v, h, hf => by
    rw [List.map_cons, lv_args, zv_cat hE]
    by_cases hc : a.category = 2
    · rw [zexp, if_pos hc] at h
      rw [if_pos hc]
      match j, h with
      | 0, h => cases h; exact List.mem_cons_self
      | 1, h => cases h; cases hf
      | j + 2, h =>
        have h2 := zexp_args hE r (i + 2) j v h hf
        rw [show i + 2 + j = i + (j + 2) by omega] at h2
        exact List.mem_cons_of_mem _ h2
    · rw [zexp, if_neg hc] at h
      rw [if_neg hc]
      match j, h with
      | 0, h => cases h; exact List.mem_cons_self
      | j + 1, h =>
        have h2 := zexp_args hE r (i + 1) j v h hf
        rw [show i + 1 + j = i + (j + 1) by omega] at h2
        exact List.mem_cons_of_mem _ h2
theorem zexp_len {E : zE} (hE : E.2.2.2.2.1 = .null ∨ ∃ a, E.2.2.2.2.1 = .ref a) : ∀ args : List Value, (lg_sl (args.map (zv E))).length = (zexp args).length
  | [] => rfl
  | a :: r => by
    have ih := zexp_len hE r
    unfold lg_sl at ih ⊢
    rw [List.map_cons, List.flatMap_cons, List.length_append, ih, zv_cat hE, zexp]
    split <;> simp <;> omega
theorem zent_len {y : Nat} {args : List Value} (h : (zexp args).length ≤ zml y) : (zent y args).length = zml y := by
  simp [zent]; omega
theorem lvh_entry {E : zE} (hE : E.2.2.2.2.1 = .null ∨ ∃ a, E.2.2.2.2.1 = .ref a) {y : Nat} {args : List Value} (h : (zexp args).length ≤ zml y) : lvh E ((lg_sl (args.map (zv E)) ++ List.replicate (zml y - (lg_sl (args.map (zv E))).length) Slot.unset).toArray) (zml y) (zent y args) := by
  refine ⟨lv_mono (lv_entry (args.map (zv E)) (by rw [zexp_len hE]; exact h)) fun q hq => ?_, zent_len h⟩
  obtain ⟨v, h1, h2, h3⟩ := zal2_of hq
  obtain ⟨k, x⟩ := q
  subst h3
  dsimp only at h1
  unfold zent at h1
  by_cases hk : k < (zexp args).length
  · rw [List.getElem?_append_left hk] at h1
    have h4 := zexp_args hE args 0 k v h1 h2
    rw [Nat.zero_add] at h4
    exact h4
  · rw [List.getElem?_append_right (by omega)] at h1
    have h5 := (List.getElem?_eq_some_iff.mp h1)
    obtain ⟨h6, h7⟩ := h5
    rw [List.getElem_replicate] at h7
    subst h7
    cases h2
