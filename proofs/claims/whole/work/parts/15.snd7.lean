/-! SOUNDNESS, last part: what else is invoked; every instruction; runs -/
theorem z_cp {β : Type} {h : zH} {s : Nat} {sp : Int32} {d : Nat} {dp k : Int32} {f : zH → Option β} {r : β} (e : zcpI h s sp d dp k f = some r) : ¬ sp < 0 ∧ ¬ dp < 0 ∧ ¬ k < 0 ∧ 100 ≤ d ∧
    ((∃ t n1 g1 n2 g2, h.2.2 s = .inl (t, n1, .inl g1) ∧ h.2.2 d = .inl (t, n2, .inl g2) ∧ (t = 0 ∨ t = 3 ∧ ∀ i : Nat, i < k.toNatClampNeg → fits .byte (.int (g1 (sp.toNatClampNeg + i))) = true) ∧ sp.toNatClampNeg + k.toNatClampNeg ≤ n1 ∧ dp.toNatClampNeg + k.toNatClampNeg ≤ n2 ∧ f (zset h d (.inl (t, n2, .inl (va_cpy g1 g2 sp.toNatClampNeg dp.toNatClampNeg k.toNatClampNeg)))) = some r) ∨
     (∃ n1 g1 n2 g2, 100 ≤ s ∧ h.2.2 s = .inl (1, n1, .inr (.inl g1)) ∧ h.2.2 d = .inl (1, n2, .inr (.inl g2)) ∧ sp.toNatClampNeg + k.toNatClampNeg ≤ n1 ∧ dp.toNatClampNeg + k.toNatClampNeg ≤ n2 ∧ f (zset h d (.inl (1, n2, .inr (.inl (va_cpy g1 g2 sp.toNatClampNeg dp.toNatClampNeg k.toNatClampNeg))))) = some r)) := by
  unfold zcpI at e
  split at e
  · rename_i t1 n1 g1 t2 n2 g2 h1 h2
    split at e
    · rename_i hc
      obtain ⟨rfl, q1, q2, q3, q4, q5, q6, q7⟩ := hc
      exact ⟨q3, q4, q5, q2, Or.inl ⟨t1, n1, g1, n2, g2, h1, h2, q1, q6, q7, e⟩⟩
    · cases e
  · rename_i t1 n1 g1 t2 n2 g2 h1 h2
    split at e
    · rename_i hc
      obtain ⟨rfl, rfl, q1, q2, q3, q4, q5, q6, q7⟩ := hc
      exact ⟨q3, q4, q5, q2, Or.inr ⟨n1, g1, n2, g2, q1, h1, h2, q6, q7, e⟩⟩
    · cases e
  · cases e
section
variable {E : zE} {p : Program} {l : Launch} {e : Env} {R : Room} {s : State} {m : MethodId} {args : Array Value} {below : List Frame} {meth : Method} {c : Code} {Q : State → Prop} {M : Nat} {hs h : zH} {pc n : Nat} {L S : List Value}
/-- the world of two cells, apart; and what a write of the second leaves -/
theorem ztwo {a b : Nat} {x y : va_E} {H : Heap} (ha : va_at E.2.2.1 zcl (a, x) H) (hb : va_at E.2.2.1 zcl (b, y) H) : va_P E.2.2.1 zcl [(a, x), (b, y)] H := by
  intro k q hk
  match k, hk with
  | 0, hk => cases hk; exact ha
  | 1, hk => cases hk; exact hb
theorem ztwoD {a b : Nat} {x y : va_E} {A : Nat → Prop} (hab : a ≠ b) (ha : A a) (hb : A b) : va_D A [(a, x), (b, y)] := by
  refine ⟨fun i j p q hi hj hpq => ?_, fun k q hk => ?_⟩
  · match i, hi, j, hj with
    | 0, hi, 0, hj => rfl
    | 0, hi, 1, hj => cases hi; cases hj; exact absurd hpq hab
    | 1, hi, 0, hj => cases hi; cases hj; exact absurd hpq.symm hab
    | 1, hi, 1, hj => rfl
  · match k, hk with
    | 0, hk => cases hk; exact ha
    | 1, hk => cases hk; exact hb
theorem zarrcopy (C : zCtx E p l R s m args meth c M) {i : Nat} (hi : i < 2000) (hd : decode (zmb M) pc = .ok (.invokestatic i, 3)) {y k rc : Nat} (hst : zst.lookup (M * zKEY + i) = some (8, y, k, rc)) {s1 d : Nat} {sp dp x : Int32} {r : List Value} (h8 : zsum r ≤ 8) {pc2 : Nat} {L2 S2 : List Value} {h2 : zH} (he : zcpI h s1 sp d dp x (fun h => zgo (pc + 3) L r h) = some (.inl (pc2, L2, S2, h2))) : (h.1 ≤ h2.1 ∧ h.2.1 ≤ h2.2.1) ∧ (zWp E p l e R s m args below meth c Q M hs h2 pc2 L2 S2 → zWp E p l e R s m args below meth c Q M hs h pc L (.int x :: .int dp :: .ref d :: .int sp :: .ref s1 :: r)) := by
  have hP := zAll_lk zst_ok hst
  unfold zsP at hP
  dsimp only at hP
  rw [(zkey hi).1, (zkey hi).2] at hP
  obtain ⟨w1, w2, w3, w4, w5, w6⟩ := hP
  have ht := C.2.2.2.2.1
  have hloc : ((r.map (zv E)).map fun v => v.category).sum + (nativeFrameWords "java/lang/System" "arraycopy" 5 + 11) ≤ R.locals := by
    rw [zsum_map C.2.2.2.2.2.2.2.2.2.1]
    have := C.2.2.2.2.2.2.2.2.1
    omega
  have hfr : 1 ≤ R.frames := Nat.le_trans w5 C.2.2.2.2.2.2.2.1
  have nn : ∀ z : Int32, ¬ z < 0 → z.toInt = (z.toNatClampNeg : Int) := by
    intro z hz
    have hz0 : (0 : Int) ≤ z.toInt := by
      have := Int32.not_lt.mp hz
      simpa using Int32.le_iff_toInt_le.mp this
    show z.toInt = ((z.toInt.toNat : Nat) : Int)
    omega
  obtain ⟨q1, q2, q3, hdd, hcase⟩ := z_cp he
  rcases hcase with ⟨t, n1, g1, n2, g2, hs1, hd1, htt, b1, b2, h4⟩ | ⟨n1, g1, n2, g2, hss, hs1, hd1, b1, b2, h4⟩
  · obtain ⟨rfl, rfl, rfl, rfl⟩ := z_go h4
    refine ⟨zle_rf, fun K H locs ls hR hS hl => ?_⟩
    obtain ⟨hlt, hat⟩ := hR.cell hdd (by rw [hd1]; intro z; cases z)
    rw [hd1] at hat
    have hat2 : H[zr E d]? = some (vp_cell (E.2.2.2.1 t) (n2, .inl g2)) := hat
    have ht8 : t < 8 := by omega
    have htag : refKind (ztag.getD t .int) = false := by rcases htt with rfl | ⟨rfl, -⟩ <;> rfl
    have hAd := (zarr C.2.2.2.2.2.2.1 ht8).1 n2 (fun j => .int (g2 j))
    obtain ⟨-, k1, hk1, cm1, hkk1⟩ := hAd
    -- the source: a cell of ours, or a static one
    have hsrc : ∃ cs : Cell, H[zr E s1]? = some cs ∧ s.isArrayOf cs (ztag.getD t .int) ∧ cs.vm ≠ .unknown ∧ (n1 ≤ cs.slots.size) ∧ ∀ j, j < n1 → cs.slots[j]? = some (.int (g1 j)) := by
      by_cases ha : 100 ≤ s1
      · obtain ⟨_, hats⟩ := hR.cell ha (by rw [hs1]; intro z; cases z)
        rw [hs1] at hats
        refine ⟨_, hats, (zarr C.2.2.2.2.2.2.1 ht8).1 n1 (fun j => .int (g1 j)), (fun z => by cases z), ?_, fun j hj => ?_⟩
        · show n1 ≤ (arrV _ _ _).slots.size
          rw [arrV_size]; exact Nat.le_refl _
        · show (arrV _ _ _).slots[j]? = _
          rw [arrV_read _ _ hj]
      · rcases zlow hR ha (C.2.2.2.2.2.2.1.2.2.2.2.2 s1 (Nat.lt_of_not_le ha)) hs1 with ⟨t2, n2', g2', q, -, hT⟩ | ⟨w, y, q, -⟩ | ⟨fs, q⟩
        · cases q
          obtain ⟨cell, z1, z2, z3, z4, z5, z6, z7⟩ := hT.kept hS.2.1
          exact ⟨cell, z1, z2, z3, z4, z6⟩
        · cases q
        · cases q
    obtain ⟨cs, c1, c2, c3, c4, c5⟩ := hsrc
    intro T hT X
    obtain ⟨hs6, k0, hk0, cm0, hkk0⟩ := c2
    obtain ⟨vm', X', step⟩ := X.arraycopy C.1 C.2.2.2.1 (ht _ w1) (ht _ w2) (ht _ w3) (ht _ w4) (src := zr E s1) (dst := zr E d) (cs := cs) (cd := vp_cell (E.2.2.2.1 t) (n2, .inl g2)) (srcPos := sp) (destPos := dp) (n := x) (by rw [hT]; exact c1) (by rw [hT]; exact hat2)
      hs6 (fun _ h => by cases h) c3 (fun h => by cases h) hk0 hk1 hkk0 hkk1 (by simp [htag]) q1 q2 q3
      (by rw [nn sp q1, nn x q3]; omega)
      (by rw [nn dp q2, nn x q3]; show ¬ _ > ((arrV (E.2.2.2.1 t) n2 (fun j => .int (g2 j))).slots.size : Int); rw [arrV_size]; omega)
      (fun vm₁ _ i hi => by
        have e : cs.slots.getD (sp.toNatClampNeg + i) .null = .int (g1 (sp.toNatClampNeg + i)) := by
          rw [Array.getD_eq_getD_getElem?, c5 _ (by omega)]
          rfl
        refine ⟨?_, ?_⟩
        · rw [e]
          rcases htt with rfl | ⟨rfl, hf⟩
          · rfl
          · exact hf i hi
        · rw [e]
          exact trivial)
      (g := F0 m pc ls ((.int x :: .int dp :: .ref d :: .int sp :: .ref s1 :: S2).map (zv E))) rfl (by rw [C.2.2.1]; exact hl.1.1) (rest := S2.map (zv E)) rfl (by rw [C.2.1]; exact hd) hfr (by show 2 * 0 + _ + _ ≤ _; omega)
    have e1 : copied cs (vp_cell (E.2.2.2.1 t) (n2, .inl g2)) sp dp x = vp_cell (E.2.2.2.1 t) (n2, .inl (va_cpy g1 g2 sp.toNatClampNeg dp.toNatClampNeg x.toNatClampNeg)) := va_copiedX (fun z => .int z) cs (E.2.2.2.1 t) g1 g2 c5 b1
    rw [e1] at X' step
    have hl0 : zr E d < H.size := (Array.getElem?_eq_some_iff.mp hat2).1
    have hheap : ((T.setVm vm').setCell (zr E d) (vp_cell (E.2.2.2.1 t) (n2, .inl (va_cpy g1 g2 sp.toNatClampNeg dp.toNatClampNeg x.toNatClampNeg)))).heap = H.setIfInBounds (zr E d) (vp_cell (E.2.2.2.1 t) (n2, .inl (va_cpy g1 g2 sp.toNatClampNeg dp.toNatClampNeg x.toNatClampNeg))) := by rw [← hT]; rfl
    have oq : ∀ q : Nat, q ≠ zr E d → (H.setIfInBounds (zr E d) (vp_cell (E.2.2.2.1 t) (n2, .inl (va_cpy g1 g2 sp.toNatClampNeg dp.toNatClampNeg x.toNatClampNeg))))[q]? = H[q]? := fun q hq => by simp [Array.getElem?_setIfInBounds, Ne.symm hq]
    obtain ⟨t', a1, b1'⟩ := K _ _ ls (hR.set hdd hlt (by simp) oq (show (H.setIfInBounds (zr E d) _)[zr E d]? = some _ by simp [Array.getElem?_setIfInBounds, hl0])) ⟨by simp; exact hS.1, fun q g1 g2 => by
        rw [oq q (fun e => g2 (by rw [e]; exact zA_dyn hdd))]
        exact hS.2.1 q g1 g2, fun q hq => by
        rcases List.mem_append.mp hq with h | h
        · exact hS.2.2 q h
        · obtain ⟨z, -, hz⟩ := List.mem_map.mp h
          rw [← hz]
          exact zA_dyn hdd⟩ hl _ hheap X'
    exact ⟨t', step t' a1, b1'⟩
  · obtain ⟨rfl, rfl, rfl, rfl⟩ := z_go h4
    refine ⟨zle_rf, fun K H locs ls hR hS hl => ?_⟩
    obtain ⟨hlt, hat⟩ := hR.cell hdd (by rw [hd1]; intro z; cases z)
    rw [hd1] at hat
    obtain ⟨-, hats⟩ := hR.cell hss (by rw [hs1]; intro z; cases z)
    rw [hs1] at hats
    have hat2 : H[zr E d]? = some (vp_cell (E.2.2.2.1 1) (n2, .inr (.inl g2))) := hat
    have hats2 : H[zr E s1]? = some (vp_cell (E.2.2.2.1 1) (n1, .inr (.inl g1))) := hats
    obtain ⟨-, k0, hk0, cm0, hkk0⟩ := (zarr C.2.2.2.2.2.2.1 (t := 1) (by decide)).1 n1 (fun j => .long (g1 j))
    obtain ⟨-, k1, hk1, cm1, hkk1⟩ := (zarr C.2.2.2.2.2.2.1 (t := 1) (by decide)).1 n2 (fun j => .long (g2 j))
    intro T hT X
    obtain ⟨vm', X', step⟩ := X.arraycopy C.1 C.2.2.2.1 (ht _ w1) (ht _ w2) (ht _ w3) (ht _ w4) (src := zr E s1) (dst := zr E d) (cs := vp_cell (E.2.2.2.1 1) (n1, .inr (.inl g1))) (cd := vp_cell (E.2.2.2.1 1) (n2, .inr (.inl g2))) (srcPos := sp) (destPos := dp) (n := x) (by rw [hT]; exact hats2) (by rw [hT]; exact hat2)
      (fun _ h => by cases h) (fun _ h => by cases h) (fun h => by cases h) (fun h => by cases h) hk0 hk1 hkk0 hkk1 (by simp [refKind, ztag]) q1 q2 q3
      (by rw [nn sp q1, nn x q3]; show ¬ _ > ((arrV (E.2.2.2.1 1) n1 (fun j => .long (g1 j))).slots.size : Int); rw [arrV_size]; omega)
      (by rw [nn dp q2, nn x q3]; show ¬ _ > ((arrV (E.2.2.2.1 1) n2 (fun j => .long (g2 j))).slots.size : Int); rw [arrV_size]; omega)
      (fun vm₁ _ i hi => by
        have e : (vp_cell (E.2.2.2.1 1) (n1, .inr (.inl g1))).slots.getD (sp.toNatClampNeg + i) .null = .long (g1 (sp.toNatClampNeg + i)) := by
          show (arrV (E.2.2.2.1 1) n1 (fun j => .long (g1 j))).slots.getD _ _ = _
          rw [Array.getD_eq_getD_getElem?, arrV_read _ _ (by omega)]
          rfl
        refine ⟨?_, ?_⟩
        · rw [e]
          rfl
        · rw [e]
          exact trivial)
      (g := F0 m pc ls ((.int x :: .int dp :: .ref d :: .int sp :: .ref s1 :: S2).map (zv E))) rfl (by rw [C.2.2.1]; exact hl.1.1) (rest := S2.map (zv E)) rfl (by rw [C.2.1]; exact hd) hfr (by show 2 * 0 + _ + _ ≤ _; omega)
    have e1 : copied (vp_cell (E.2.2.2.1 1) (n1, .inr (.inl g1))) (vp_cell (E.2.2.2.1 1) (n2, .inr (.inl g2))) sp dp x = vp_cell (E.2.2.2.1 1) (n2, .inr (.inl (va_cpy g1 g2 sp.toNatClampNeg dp.toNatClampNeg x.toNatClampNeg))) := va_copied (fun z => .long z) (E.2.2.2.1 1) (E.2.2.2.1 1) g1 g2 b1
    rw [e1] at X' step
    have hl0 : zr E d < H.size := (Array.getElem?_eq_some_iff.mp hat2).1
    have hheap : ((T.setVm vm').setCell (zr E d) (vp_cell (E.2.2.2.1 1) (n2, .inr (.inl (va_cpy g1 g2 sp.toNatClampNeg dp.toNatClampNeg x.toNatClampNeg))))).heap = H.setIfInBounds (zr E d) (vp_cell (E.2.2.2.1 1) (n2, .inr (.inl (va_cpy g1 g2 sp.toNatClampNeg dp.toNatClampNeg x.toNatClampNeg)))) := by rw [← hT]; rfl
    have oq : ∀ q : Nat, q ≠ zr E d → (H.setIfInBounds (zr E d) (vp_cell (E.2.2.2.1 1) (n2, .inr (.inl (va_cpy g1 g2 sp.toNatClampNeg dp.toNatClampNeg x.toNatClampNeg)))))[q]? = H[q]? := fun q hq => by simp [Array.getElem?_setIfInBounds, Ne.symm hq]
    obtain ⟨t', a1, b1'⟩ := K _ _ ls (hR.set hdd hlt (by simp) oq (show (H.setIfInBounds (zr E d) _)[zr E d]? = some _ by simp [Array.getElem?_setIfInBounds, hl0])) ⟨by simp; exact hS.1, fun q g1 g2 => by
        rw [oq q (fun e => g2 (by rw [e]; exact zA_dyn hdd))]
        exact hS.2.1 q g1 g2, fun q hq => by
        rcases List.mem_append.mp hq with h | h
        · exact hS.2.2 q h
        · obtain ⟨z, -, hz⟩ := List.mem_map.mp h
          rw [← hz]
          exact zA_dyn hdd⟩ hl _ hheap X'
    exact ⟨t', step t' a1, b1'⟩
end
