/-! SOUNDNESS, fifth part: writes of the heap, new cells -/
theorem z13 {P : Nat → vw_C → Prop} (h : ∀ ci, ci < 13 → ∀ q, zcl[ci]? = some q → P ci q) : ∀ (ci : Nat) (q : vw_C), zcl[ci]? = some q → P ci q := fun ci q hq => h ci (List.getElem?_eq_some_iff.mp hq).1 q hq
theorem zty_all : ∀ (ci : Nat) (q : vw_C), zcl[ci]? = some q → (∀ k, k < q.2.2 → parseFieldDescriptor (q.2.1 k).2.2.1 = some ((ztl.getD ci (fun _ => .int)) k)) ∧ ∀ a, a < q.2.2 → ∀ b, b < q.2.2 → a ≠ b → (q.2.1 a).2.1 ≠ (q.2.1 b).2.1 := by
  refine z13 fun ci hl q h => ?_
  rcases (show ci = 0 ∨ ci = 1 ∨ ci = 2 ∨ ci = 3 ∨ ci = 4 ∨ ci = 5 ∨ ci = 6 ∨ ci = 7 ∨ ci = 8 ∨ ci = 9 ∨ ci = 10 ∨ ci = 11 ∨ ci = 12 by omega) with rfl | rfl | rfl | rfl | rfl | rfl | rfl | rfl | rfl | rfl | rfl | rfl | rfl
  all_goals cases h
  · exact ⟨zty0_ok, znm0⟩
  · exact ⟨zty1_ok, znm1⟩
  · exact ⟨zty2_ok, znm2⟩
  · exact ⟨zty3_ok, znm3⟩
  · exact ⟨zty4_ok, znm4⟩
  · exact ⟨zty5_ok, znm5⟩
  · exact ⟨zty6_ok, znm6⟩
  · exact ⟨zty7_ok, znm7⟩
  · exact ⟨zty8_ok, znm8⟩
  · exact ⟨zty9_ok, znm9⟩
  · exact ⟨zty10_ok, znm10⟩
  · exact ⟨zty11_ok, znm11⟩
  · exact ⟨zty12_ok, znm12⟩
theorem zfit_ok {E : zE} {ty : FieldType} {v : Value} (h : zfit ty v = true) : narrow ty (zv E v) = zv E v ∧ fits ty (zv E v) = true := by
  cases ty <;> cases v <;> first | (simp [zfit] at h; done) | skip
  all_goals try exact ⟨rfl, rfl⟩
  · rename_i x
    simp only [zfit, beq_iff_eq] at h
    subst h
    exact ⟨show narrow .byte (.int 0) = .int 0 by decide +kernel, show fits .byte (.int 0) = true by decide +kernel⟩
  · rename_i x
    simp only [zfit, Bool.or_eq_true, beq_iff_eq] at h
    rcases h with rfl | rfl
    · exact ⟨show narrow .boolean (.int 0) = .int 0 by decide +kernel, show fits .boolean (.int 0) = true by decide +kernel⟩
    · exact ⟨show narrow .boolean (.int 1) = .int 1 by decide +kernel, show fits .boolean (.int 1) = true by decide +kernel⟩
theorem z_pf {β : Type} {h : zH} {a ci k : Nat} {v : Value} {f : zH → Option β} {r : β} (e : zpf h a ci k v f = some r) : ∃ fs, h.2.2 a = .inr (ci, fs) ∧ k < fs.length ∧ 100 ≤ a ∧ zfit ((ztl.getD ci (fun _ => .int)) k) v = true ∧ f (zset h a (.inr (ci, fs.set k v))) = some r := by
  unfold zpf at e
  split at e
  · rename_i c fs hc
    split at e
    · rename_i e2
      obtain ⟨rfl, h2, h3, h4⟩ := e2
      exact ⟨fs, hc, h2, h3, h4, e⟩
    · cases e
  · cases e
theorem z_si {β : Type} {h : zH} {a t : Nat} {i x : Int32} {f : zH → Option β} {r : β} (e : zsi h a t i x f = some r) : ∃ n g, h.2.2 a = .inl (t, n, .inl g) ∧ zin i n = true ∧ 100 ≤ a ∧ f (zset h a (.inl (t, n, .inl (upd g i.toNatClampNeg x)))) = some r := by
  unfold zsi at e
  split at e
  · rename_i t2 n g hc
    split at e
    · rename_i h2
      obtain ⟨rfl, h3, h4⟩ := h2
      exact ⟨n, g, hc, h3, h4, e⟩
    · cases e
  · cases e
theorem z_sj {β : Type} {h : zH} {a : Nat} {i : Int32} {x : Int64} {f : zH → Option β} {r : β} (e : zsj h a i x f = some r) : ∃ n g, h.2.2 a = .inl (1, n, .inr (.inl g)) ∧ zin i n = true ∧ 100 ≤ a ∧ f (zset h a (.inl (1, n, .inr (.inl (vp_updL g i.toNatClampNeg x))))) = some r := by
  unfold zsj at e
  split at e
  · rename_i t2 n g hc
    split at e
    · rename_i h2
      obtain ⟨rfl, h3, h4⟩ := h2
      exact ⟨n, g, hc, h3, h4, e⟩
    · cases e
  · cases e
section
variable {E : zE} {p : Program} {l : Launch} {e : Env} {R : Room} {s : State} {m : MethodId} {args : Array Value} {below : List Frame} {meth : Method} {c : Code} {Q : State → Prop} {M : Nat} {hs h : zH} {pc n : Nat} {L S : List Value}
theorem zA_dyn {a : Nat} (ha : 100 ≤ a) : zA E (zr E a) := by rw [zr_dyn ha]; exact Nat.le_add_right _ _
theorem y_putfield {i : Nat} (C : zCtx E p l R s m args meth c M) (hi : i < 2000) (hd : decode (zmb M) pc = .ok (.putfield i, 3)) : zStep E p l e R s m args below meth c Q M hs h pc 3 L S (.putfield i) := by
  intro pc2 L2 S2 h2 he
  simp only [zins] at he
  split at he
  · rename_i ci k hf
    split at he
    · rename_i hpo
      split at he
      · rename_i v a S3
        obtain ⟨fs, h1, hkl, ha, hfit, h4⟩ := z_pf he
        obtain ⟨rfl, rfl, rfl, rfl⟩ := z_go h4
        refine ⟨zle_rf, fun _ _ _ _ K H locs ls hR hS hl => ?_⟩
        have hP := zAll_lk zft_ok hf
        unfold zfP at hP
        rw [(zkey hi).1, (zkey hi).2] at hP
        have own := C.2.2.2.1
        rcases hP with ⟨q, -⟩ | ⟨q, hq, hk, hw⟩
        · exfalso
          have q2 : ci = 13 := q
          subst q2
          exact absurd hpo (by simp [zpok, zcl])
        dsimp only at hq hk hw
        obtain ⟨hlt, hat⟩ := hR.cell ha (by
          rw [h1]; intro z; cases z; cases hq)
        rw [h1] at hat
        obtain ⟨qC, qT, qN⟩ := q
        obtain ⟨r, hr, cell, q1, q2, q3, q4⟩ := hat
        cases hr.symm.trans hq
        have hKc := C.2.2.2.2.2.2.1.1
        have hts := C.2.2.2.2.1
        have hin := zc_in ci _ hq
        have hap := va_apart (own := zown M) hts hin _ (zty_all ci _ hq).1 (zty_all ci _ hq).2 hKc hq
        obtain ⟨hSl, hfc, kC, hkC, hkind⟩ := hKc.1 ci _ hq
        obtain ⟨cf, kf, fi, f, hif, hsl⟩ := hSl k hk
        have hlay := hts _ (hin _ (u_in_lay hk))
        have hst := (u_facts hfc hkC (u_lays hts hin hk) hif).1
        obtain ⟨hn, hft⟩ := zfit_ok (E := E) hfit
        have hend : ∀ (H1 : Heap) (j : Nat), H1[zr E a]? = some (cell.setSlot f.slot (zv E v)) → H1.size = H.size → (∀ q, q ≠ zr E a → H1[q]? = H[q]?) → W p l e R s m args below meth c H1 (locs ++ [⟨zr E a, f.slot⟩]) (h.1 - hs.1) (h.2.1 - hs.2.1) Q (F0 m (pc + 3) ls (S2.map (zv E))) := by
          intro H1 _ e1 e2 e3
          rw [hsl] at e1
          refine K H1 _ ls (hR.set ha hlt e2 e3 ⟨_, hq, t_OB.to (V := updV (vp_V (fs.map (zv E))) k (zv E v)) ⟨_, e1, q2, q3, t_set q4 hap hk (zv E v)⟩ (fun j _ => ?_)⟩) (hS.put e2 e3 (zA_dyn ha)) hl
          show updV (vp_V (fs.map (zv E))) k (zv E v) j = vp_V ((fs.set k v).map (zv E)) j
          rw [List.map_set]
          exact vp_updV_set (by rw [List.length_map]; exact hkl) (zv E v) j
        by_cases hfin : (qT k).2.2.2 = true
        · unfold u_lay at hlay
          rw [if_pos hfin] at hlay
          have hpo2 : (zmy M).name = "<init>" ∧ (qT k).1 = (zmy M).cls := by
            have hz : zcl[ci]? = some (qC, qT, qN) := hq
            simp only [zpok, hz, hfin, Bool.not_true, Bool.false_or, Bool.and_eq_true, beq_iff_eq] at hpo
            exact hpo
          have hcf : m.cls = cf := by
            obtain ⟨_, _, c', _, _, _, -, -, hf', -, -, -, hown2, -⟩ := Cond.laysFinal_spec hlay
            have e1 : c' = cf := by have := hif.symm.trans hf'; simp at this; exact this.1.symm
            rw [hpo2.2] at hown2
            rw [← e1]; exact Option.some.inj (own.symm.trans hown2)
          have h6 := u_fits hfc hkC hkind (Or.inr hlay) hif ((zty_all ci _ hq).1 k hk) hn hft
          exact W.putFinK C.1 C.2.1 own (hts _ hw) hif hst hcf (by rw [C.2.2.2.2.2.1 hpo2.1]; exact hpo2.1) (by rw [q2]; exact h6) q1 q3 (by rw [hsl]; exact k2_hasslot (q4 k hk)) rfl rfl hd fun H1 e1 e2 e3 => hend H1 0 e1 e2 e3
        · unfold u_lay at hlay
          rw [if_neg hfin] at hlay
          have h6 := u_store hfc hkC hkind hlay hif ((zty_all ci _ hq).1 k hk) hn hft
          exact W.putK C.1 C.2.1 (f := f) ⟨own, hts _ hw, ⟨_, _, _, hif⟩, hst⟩ (by rw [q2]; exact h6) q1 q3 (by rw [hsl]; exact k2_hasslot (q4 k hk)) rfl rfl hd fun H1 e1 e2 e3 => hend H1 0 e1 e2 e3
      · cases he
    · cases he
  · cases he
theorem zst_end {a : Nat} {H : Heap} {locs : List Loc} {ls : Array Slot} {cell : zC} {j : Nat} {pc2 : Nat} {S2 : List Value} (hR : zRep E h H) (hS : va_S (zA E) s.heap H locs) (hl : lvh E ls (zml M) L) (ha : 100 ≤ a) (hlt : a < 100 + h.1) (K : zWp E p l e R s m args below meth c Q M hs (zset h a cell) pc2 L S2) {H1 : Heap} (ea : va_at E.2.2.1 zcl (zr E a, zc E cell) H1) (z : H1.size = H.size) (oq : ∀ q, q ≠ zr E a → H1[q]? = H[q]?) : W p l e R s m args below meth c H1 (locs ++ [⟨zr E a, j⟩]) (h.1 - hs.1) (h.2.1 - hs.2.1) Q (F0 m pc2 ls (S2.map (zv E))) :=
  K H1 _ ls (hR.set ha hlt z oq ea) (hS.put z oq (zA_dyn ha)) hl
theorem y_iastore (C : zCtx E p l R s m args meth c M) (hd : decode (zmb M) pc = .ok (.iastore, 1)) : zStep E p l e R s m args below meth c Q M hs h pc 1 L S .iastore := by
  intro pc2 L2 S2 h2 he
  simp only [zins] at he
  obtain ⟨x, S3, rfl, hz⟩ := z_I1 he
  obtain ⟨a, i, S4, rfl, hz⟩ := z_RI hz
  obtain ⟨k, g, h1, hin, ha, h4⟩ := z_si hz
  obtain ⟨rfl, rfl, rfl, rfl⟩ := z_go h4
  refine ⟨zle_rf, fun _ _ _ _ K H locs ls hR hS hl => ?_⟩
  obtain ⟨hlt, hat⟩ := hR.cell ha (by rw [h1]; intro z; cases z)
  rw [h1] at hat
  refine W.iast C.1 C.2.1 (show H[zr E a]? = some (vp_cell (E.2.2.2.1 0) (k, .inl g)) from hat) ((zarr C.2.2.2.2.2.2.1 (t := 0) (by decide)).1 k (fun j => .int (g j))) (fun q => by cases q) (by show ¬ (i < 0 ∨ (arrV _ _ _).slots.size ≤ _); rw [arrV_size]; exact zin_of hin) rfl rfl hd fun H1 e1 z oq => ?_
  refine zst_end hR hS hl ha hlt K ?_ z oq
  show H1[zr E a]? = some (vp_cell _ _)
  rw [e1]
  rw [vp_cell_i, vp_cell_i, arrV_store]
  congr 2
  funext q
  by_cases hq : q = i.toNatClampNeg
  · subst hq
    simp [updV, upd]
  · simp [updV, upd, hq]
theorem y_bastore (C : zCtx E p l R s m args meth c M) (hd : decode (zmb M) pc = .ok (.bastore, 1)) : zStep E p l e R s m args below meth c Q M hs h pc 1 L S .bastore := by
  intro pc2 L2 S2 h2 he
  simp only [zins] at he
  obtain ⟨x, S3, rfl, hz⟩ := z_I1 he
  obtain ⟨a, i, S4, rfl, hz⟩ := z_RI hz
  obtain ⟨k, g, h1, hin, ha, h4⟩ := z_si hz
  obtain ⟨rfl, rfl, rfl, rfl⟩ := z_go h4
  refine ⟨zle_rf, fun _ _ _ _ K H locs ls hR hS hl => ?_⟩
  obtain ⟨hlt, hat⟩ := hR.cell ha (by rw [h1]; intro z; cases z)
  rw [h1] at hat
  refine W.bast C.1 C.2.1 (show H[zr E a]? = some (vp_cell (E.2.2.2.1 3) (k, .inl g)) from hat) ((zarr C.2.2.2.2.2.2.1 (t := 3) (by decide)).1 k (fun j => .int (g j))) (fun q => by cases q) (by show ¬ (i < 0 ∨ (arrV _ _ _).slots.size ≤ _); rw [arrV_size]; exact zin_of hin) rfl rfl hd fun H1 e1 z oq => ?_
  refine zst_end hR hS hl ha hlt K ?_ z oq
  show H1[zr E a]? = some (vp_cell _ _)
  rw [e1]
  rw [vp_cell_i, vp_cell_i, arrV_store]
  congr 2
  funext q
  by_cases hq : q = i.toNatClampNeg
  · subst hq
    simp [updV, upd, vp_nar]
    try rfl
  · simp [updV, upd, hq]
theorem y_castore (C : zCtx E p l R s m args meth c M) (hd : decode (zmb M) pc = .ok (.castore, 1)) : zStep E p l e R s m args below meth c Q M hs h pc 1 L S .castore := by
  intro pc2 L2 S2 h2 he
  simp only [zins] at he
  obtain ⟨x, S3, rfl, hz⟩ := z_I1 he
  obtain ⟨a, i, S4, rfl, hz⟩ := z_RI hz
  obtain ⟨k, g, h1, hin, ha, h4⟩ := z_si hz
  obtain ⟨rfl, rfl, rfl, rfl⟩ := z_go h4
  refine ⟨zle_rf, fun _ _ _ _ K H locs ls hR hS hl => ?_⟩
  obtain ⟨hlt, hat⟩ := hR.cell ha (by rw [h1]; intro z; cases z)
  rw [h1] at hat
  refine W.cast C.1 C.2.1 (show H[zr E a]? = some (vp_cell (E.2.2.2.1 2) (k, .inl g)) from hat) ((zarr C.2.2.2.2.2.2.1 (t := 2) (by decide)).1 k (fun j => .int (g j))) (fun q => by cases q) (by show ¬ (i < 0 ∨ (arrV _ _ _).slots.size ≤ _); rw [arrV_size]; exact zin_of hin) rfl rfl hd fun H1 e1 z oq => ?_
  refine zst_end hR hS hl ha hlt K ?_ z oq
  show H1[zr E a]? = some (vp_cell _ _)
  rw [e1]
  rw [vp_cell_i, vp_cell_i, arrV_store]
  congr 2
  funext q
  by_cases hq : q = i.toNatClampNeg
  · subst hq
    simp [updV, upd, vp_nar]
    try rfl
  · simp [updV, upd, hq]
theorem y_lastore (C : zCtx E p l R s m args meth c M) (hd : decode (zmb M) pc = .ok (.lastore, 1)) : zStep E p l e R s m args below meth c Q M hs h pc 1 L S .lastore := by
  intro pc2 L2 S2 h2 he
  simp only [zins] at he
  obtain ⟨x, S3, rfl, hz⟩ := z_J1 he
  obtain ⟨a, i, S4, rfl, hz⟩ := z_RI hz
  obtain ⟨k, g, h1, hin, ha, h4⟩ := z_sj hz
  obtain ⟨rfl, rfl, rfl, rfl⟩ := z_go h4
  refine ⟨zle_rf, fun _ _ _ _ K H locs ls hR hS hl => ?_⟩
  obtain ⟨hlt, hat⟩ := hR.cell ha (by rw [h1]; intro z; cases z)
  rw [h1] at hat
  refine W.last C.1 C.2.1 (show H[zr E a]? = some (vp_cell (E.2.2.2.1 1) (k, .inr (.inl g))) from hat) ((zarr C.2.2.2.2.2.2.1 (t := 1) (by decide)).1 k (fun j => .long (g j))) (fun q => by cases q) (by show ¬ (i < 0 ∨ (arrV _ _ _).slots.size ≤ _); rw [arrV_size]; exact zin_of hin) rfl rfl hd fun H1 e1 z oq => ?_
  refine zst_end hR hS hl ha hlt K ?_ z oq
  show H1[zr E a]? = some (vp_cell _ _)
  rw [e1]
  rw [vp_cell_l, vp_cell_l, arrV_store]
  congr 2
  funext q
  by_cases hq : q = i.toNatClampNeg
  · subst hq
    simp [updV, vp_updL]
  · simp [updV, vp_updL, hq]
theorem z_sq {β : Type} {h : zH} {a : Nat} {i : Int32} {v : Value} {f : zH → Option β} {r : β} (e : zsq h a i v f = some r) : ∃ t n g, h.2.2 a = .inl (t, n, .inr (.inr (.inr (.inr g)))) ∧ (4 ≤ t ∧ t < 8) ∧ zin i n = true ∧ 100 ≤ a ∧ ((∃ b, v = .ref b ∧ zotg (zkd h b) = t ∧ f (zset h a (.inl (t, n, .inr (.inr (.inr (.inr (va_up g i.toNatClampNeg (some b)))))))) = some r) ∨ (v = .null ∧ f (zset h a (.inl (t, n, .inr (.inr (.inr (.inr (va_up g i.toNatClampNeg none))))))) = some r)) := by
  unfold zsq at e
  split at e
  · rename_i t2 n g hc
    split at e
    · rename_i h2
      obtain ⟨h3, h4, h5⟩ := h2
      refine ⟨t2, n, g, hc, h3, h4, h5, ?_⟩
      split at e
      · rename_i b
        split at e
        · exact Or.inl ⟨b, rfl, by assumption, e⟩
        · cases e
      · exact Or.inr ⟨rfl, e⟩
      · cases e
    · cases e
  · cases e
theorem zotg_of {c t : Nat} (h : zotg c = t) (ht : 4 ≤ t) : (c = 10 ∧ t = 4) ∨ (c = 7 ∧ t = 5) ∨ (c = 1 ∧ t = 6) ∨ (c = 13 ∧ t = 7) := by
  unfold zotg at h
  simp only [List.lookup_cons] at h
  split at h
  · rename_i e; rw [beq_iff_eq] at e; simp at h; omega
  · split at h
    · rename_i e; rw [beq_iff_eq] at e; simp at h; omega
    · split at h
      · rename_i e; rw [beq_iff_eq] at e; simp at h; omega
      · split at h
        · rename_i e; rw [beq_iff_eq] at e; simp at h; omega
        · simp at h; omega
/-- an object at an abstract address: a cell of its class -/
theorem zobj (C : zCtx E p l R s m args meth c M) {H : Heap} {locs : List Loc} (hR : zRep E h H) (hS : va_S (zA E) s.heap H locs) {b ci : Nat} (hc : ci < 14) (hk : zkd h b = ci) : ∃ cell : Cell, H[zr E b]? = some cell ∧ cell.vm.isStatics = false ∧ s.vm.findClass (zcln ci) = some cell.cls := by
  unfold zkd at hk
  split at hk
  · rename_i c2 fs h1
    subst hk
    by_cases hb : 100 ≤ b
    · obtain ⟨hlt, hat⟩ := hR.cell hb (by rw [h1]; intro z; cases z; omega)
      rw [h1] at hat
      obtain ⟨q, hq, cell, q1, q2, q3, -⟩ := hat
      have hl : c2 < 13 := (List.getElem?_eq_some_iff.mp hq).1
      refine ⟨cell, q1, by rw [q3]; rfl, ?_⟩
      rw [q2, zcln, if_neg (by omega), List.getD_eq_getElem?_getD, hq]
      exact (C.2.2.2.2.2.2.1.1.1 c2 q hq).2.1
    · rcases zlow hR hb (C.2.2.2.2.2.2.1.2.2.2.2.2 b (Nat.lt_of_not_le hb)) h1 with ⟨t2, n2, g2, q, -⟩ | ⟨w, y, q, hO, -⟩ | ⟨fs, q⟩
      · cases q
      · cases q
        obtain ⟨cell, a1, a2, a3, -⟩ := hO.kept hS.2.1
        exact ⟨cell, a1, a2, a3⟩
      · cases q; omega
  · omega
theorem y_aastore (C : zCtx E p l R s m args meth c M) (hd : decode (zmb M) pc = .ok (.aastore, 1)) : zStep E p l e R s m args below meth c Q M hs h pc 1 L S .aastore := by
  intro pc2 L2 S2 h2 he
  simp only [zins] at he
  split at he
  · rename_i v S3
    obtain ⟨a, i, S4, rfl, hz⟩ := z_RI he
    obtain ⟨t, k, g, h1, ht, hin, ha, h4⟩ := z_sq hz
    obtain ⟨Cn, hCn, hCn2⟩ := ztag_obj ht
    rcases h4 with ⟨b, rfl, hot, h4⟩ | ⟨rfl, h4⟩
    · obtain ⟨rfl, rfl, rfl, rfl⟩ := z_go h4
      refine ⟨zle_rf, fun _ _ _ _ K H locs ls hR hS hl => ?_⟩
      obtain ⟨hlt, hat⟩ := hR.cell ha (by rw [h1]; intro z; cases z)
      rw [h1] at hat
      have hot2 := zotg_of hot ht.1
      have hcn : zkd h b < 14 ∧ zcln (zkd h b) = Cn := by
        rcases hot2 with ⟨e1, e2⟩ | ⟨e1, e2⟩ | ⟨e1, e2⟩ | ⟨e1, e2⟩ <;> (rw [e2] at hCn2; rw [e1]; cases hCn2; exact ⟨by decide, rfl⟩)
      obtain ⟨cv, v1, v2, v3⟩ := zobj C hR hS hcn.1 rfl
      rw [hcn.2] at v3
      have hAr := zarr C.2.2.2.2.2.2.1 ht.2
      rw [hCn] at hAr
      obtain ⟨kA, comp, k1, k2, k3, -⟩ := hAr.2
      have hcomp : comp = cv.cls := Option.some.inj (k3.symm.trans v3)
      subst hcomp
      obtain ⟨kC, hkC, -⟩ := Vm.findClass_spec v3
      refine W.aast C.1 C.2.1 (show H[zr E a]? = some (vp_cell (E.2.2.2.1 t) (k, .inr (.inr (.inr (.inr fun j => (g j).map (zr E)))))) from hat) (fun q z => by cases z) (fun z => by cases z) k1 k2 rfl hkC ⟨fun q => zin_of hin (Or.inl q), by show _ < (arrV _ _ _).slots.size; rw [arrV_size]; exact Nat.not_le.mp fun q => zin_of hin (Or.inr q)⟩ v1 (fun q z => by rw [z] at v2; cases v2) hkC (va_asg _ _) rfl rfl hd fun H1 e1 z oq => ?_
      refine zst_end hR hS hl ha hlt K ?_ z oq
      show H1[zr E a]? = some (vp_cell _ _)
      rw [e1]
      rw [vp_cell_q, vp_cell_q, arrV_store]
      congr 2
      funext q
      by_cases hq : q = i.toNatClampNeg
      · subst hq
        simp [updV, va_up, va_rf]
      · simp [updV, va_up, hq]
    · obtain ⟨rfl, rfl, rfl, rfl⟩ := z_go h4
      refine ⟨zle_rf, fun _ _ _ _ K H locs ls hR hS hl => ?_⟩
      obtain ⟨hlt, hat⟩ := hR.cell ha (by rw [h1]; intro z; cases z)
      rw [h1] at hat
      have hAr := zarr C.2.2.2.2.2.2.1 ht.2
      rw [hCn] at hAr
      refine va_WaastN (C := Cn) C.1 C.2.1 (show H[zr E a]? = some (vp_cell (E.2.2.2.1 t) (k, .inr (.inr (.inr (.inr fun j => (g j).map (zr E)))))) from hat) (hAr.1 k (fun j => va_rf ((g j).map (zr E)))) (fun z => by cases z) (by show ¬ (i < 0 ∨ (arrV _ _ _).slots.size ≤ _); rw [arrV_size]; exact zin_of hin) rfl rfl hd fun H1 e1 z oq => ?_
      refine zst_end hR hS hl ha hlt K ?_ z oq
      show H1[zr E a]? = some (vp_cell _ _)
      rw [e1]
      rw [vp_cell_q, vp_cell_q, arrV_store]
      congr 2
      funext q
      by_cases hq : q = i.toNatClampNeg
      · subst hq
        simp [updV, va_up, va_rf]
      · simp [updV, va_up, hq]
  · cases he
theorem zdv_zv (ty : FieldType) : zv E (zdv ty) = zdv ty := by cases ty <;> rfl
theorem zdd : ∀ (ci : Nat) (q : vw_C), zcl[ci]? = some q → ∀ k, k < q.2.2 → defaultValue ((ztl.getD ci (fun _ => .int)) k) = zdv ((ztl.getD ci (fun _ => .int)) k) := by
  refine z13 fun ci hl q h => ?_
  rcases (show ci = 0 ∨ ci = 1 ∨ ci = 2 ∨ ci = 3 ∨ ci = 4 ∨ ci = 5 ∨ ci = 6 ∨ ci = 7 ∨ ci = 8 ∨ ci = 9 ∨ ci = 10 ∨ ci = 11 ∨ ci = 12 by omega) with rfl | rfl | rfl | rfl | rfl | rfl | rfl | rfl | rfl | rfl | rfl | rfl | rfl
  all_goals
    cases h
    decide +kernel
theorem zdef_ok {ci : Nat} {q : vw_C} (hq : zcl[ci]? = some q) : (zdef ci).length = q.2.2 ∧ ∀ k, k < q.2.2 → defaultValue ((ztl.getD ci (fun _ => .int)) k) = vp_V ((zdef ci).map (zv E)) k := by
  have hd : zdef ci = (List.range q.2.2).map fun k => zdv ((ztl.getD ci (fun _ => .int)) k) := by unfold zdef; rw [hq]
  refine ⟨by rw [hd]; simp, fun k hk => ?_⟩
  have h9 : ((zdef ci).map (zv E))[k]? = some (zv E (zdv ((ztl.getD ci (fun _ => .int)) k))) := by rw [hd, List.getElem?_map, List.getElem?_map, List.getElem?_range hk]; rfl
  have e9 : vp_V ((zdef ci).map (zv E)) k = zv E (zdv ((ztl.getD ci (fun _ => .int)) k)) := by
    show (((zdef ci).map (zv E))[k]?).getD .null = _
    rw [h9]; rfl
  rw [e9]
  rw [zdv_zv]
  exact zdd ci q hq k hk
theorem y_new {i : Nat} (C : zCtx E p l R s m args meth c M) (hi : i < 2000) (hd : decode (zmb M) pc = .ok (.new i, 3)) : zStep E p l e R s m args below meth c Q M hs h pc 3 L S (.new i) := by
  intro pc2 L2 S2 h2 he
  simp only [zins] at he
  split at he
  · rename_i ci hf
    obtain ⟨rfl, rfl, rfl, rfl⟩ := z_go he
    refine ⟨⟨Nat.le_succ _, Nat.le_add_right _ _⟩, fun g1 g2 g3 g4 K H locs ls hR hS hl => ?_⟩
    obtain ⟨q, hq, w1, w2, w3⟩ := zAll_lk znt_ok hf
    rw [(zkey hi).1, (zkey hi).2] at w1
    obtain ⟨qC, qT, qN⟩ := q
    dsimp only at hq w1 w2 w3
    obtain ⟨z1, z2⟩ := zdef_ok (E := E) hq
    have hts := C.2.2.2.2.1
    have hKn := C.2.2.2.2.2.2.1.1.1 ci _ hq
    have g3' : h.1 + 1 - hs.1 ≤ R.cells := g3
    have g4' : h.2.1 + (zdef ci).length - hs.2.1 ≤ R.slots := g4
    refine W.newcK C.1 C.2.1 C.2.2.2.1 (hts _ w1) (hts _ w2) (hts _ w3) rfl hd (by omega) (by rw [z1] at g4'; dsimp only at g4'; omega) hKn.2.1 rfl fun H1 kC hkC e1 z o1 => ?_
    have hK := K H1 locs ls (hR.new z o1 ⟨_, hq, (u_born _ hts (zc_in ci _ hq) hKn hkC e1 (zty_all ci _ hq).1).to z2⟩) ⟨by rw [z]; exact Nat.le_succ_of_le hS.1, fun x a1 a2 => (o1 x (Nat.lt_of_lt_of_le a1 hS.1)).trans (hS.2.1 x a1 a2), hS.2.2⟩ hl
    rw [List.map_cons, show zv E (.ref (100 + h.1)) = .ref H.size by show Value.ref (zr E (100 + h.1)) = _; rw [zr_dyn (by omega), hR.1, Nat.add_sub_cancel_left]] at hK
    refine W.cs (cells' := (znew h (.inr (ci, zdef ci)) (zdef ci).length).1 - hs.1) (slots' := (znew h (.inr (ci, zdef ci)) (zdef ci).length).2.1 - hs.2.1) (show h.1 - hs.1 + 1 = h.1 + 1 - hs.1 by omega) (show h.2.1 - hs.2.1 + qN = h.2.1 + (zdef ci).length - hs.2.1 by rw [z1]; dsimp only; omega) hK
  · cases he
theorem zaty_of {ty : ArrayType} {t : Nat} (h : zaty ty = some t) : t < 4 ∧ newarray.typeOf ty = ztag.getD t .int ∧ Cond.arrayClass (newarray.typeOf ty) ∈ zW0 ∧ componentBytes (newarray.typeOf ty) ≤ 8 ∧ ∀ (cA : ClassId) (N : Nat), vp_cell cA (N, zz0 t) = arrV cA N (fun _ => defaultValue (newarray.typeOf ty)) := by
  cases ty <;> first | cases h | skip
  · exact ⟨by decide, rfl, zar_char, by decide, fun _ _ => rfl⟩
  · exact ⟨by decide, rfl, zar_byte, by decide, fun _ _ => rfl⟩
  · exact ⟨by decide, rfl, zar_int, by decide, fun _ _ => rfl⟩
  · exact ⟨by decide, rfl, zar_long, by decide, fun _ _ => rfl⟩
theorem zz0_c (t N : Nat) : zc E (.inl (t, N, zz0 t)) = .inl (E.2.2.2.1 t, N, zz0 t) := by
  unfold zz0
  split <;> rfl
theorem znew_end {k : Nat} {H : Heap} {locs : List Loc} {ls : Array Slot} {cell : zC} {pc2 : Nat} {S2 : List Value} (g1 : hs.1 ≤ h.1) (g2 : hs.2.1 ≤ h.2.1) (hR : zRep E h H) (hS : va_S (zA E) s.heap H locs) (hl : lvh E ls (zml M) L) (K : zWp E p l e R s m args below meth c Q M hs (znew h cell k) pc2 L (.ref (100 + h.1) :: S2)) {H1 : Heap} (ea : va_at E.2.2.1 zcl (H.size, zc E cell) H1) (z : H1.size = H.size + 1) (o1 : ∀ q, q < H.size → H1[q]? = H[q]?) : W p l e R s m args below meth c H1 locs (h.1 - hs.1 + 1) (h.2.1 - hs.2.1 + k) Q (F0 m pc2 ls (.ref H.size :: S2.map (zv E))) := by
  have hK := K H1 locs ls (hR.new z o1 ea) ⟨by rw [z]; exact Nat.le_succ_of_le hS.1, fun x a1 a2 => (o1 x (Nat.lt_of_lt_of_le a1 hS.1)).trans (hS.2.1 x a1 a2), hS.2.2⟩ hl
  rw [List.map_cons, show zv E (.ref (100 + h.1)) = .ref H.size by show Value.ref (zr E (100 + h.1)) = _; rw [zr_dyn (by omega), hR.1, Nat.add_sub_cancel_left]] at hK
  exact W.cs (cells' := (znew h cell k).1 - hs.1) (slots' := (znew h cell k).2.1 - hs.2.1) (show h.1 - hs.1 + 1 = h.1 + 1 - hs.1 by omega) (show h.2.1 - hs.2.1 + k = h.2.1 + k - hs.2.1 by omega) hK
theorem y_newarray {ty : ArrayType} (C : zCtx E p l R s m args meth c M) (hd : decode (zmb M) pc = .ok (.newarray ty, 2)) : zStep E p l e R s m args below meth c Q M hs h pc 2 L S (.newarray ty) := by
  intro pc2 L2 S2 h2 he
  simp only [zins] at he
  split at he
  · rename_i t ht
    obtain ⟨x, S3, rfl, hz⟩ := z_I1 he
    split at hz
    · rename_i hx
      obtain ⟨rfl, rfl, rfl, rfl⟩ := z_go hz
      refine ⟨⟨Nat.le_succ _, Nat.le_add_right _ _⟩, fun g1 g2 g3 g4 K H locs ls hR hS hl => ?_⟩
      obtain ⟨w1, w2, w3, w4, w5⟩ := zaty_of ht
      have g3' : h.1 + 1 - hs.1 ≤ R.cells := g3
      have g4' : h.2.1 + x.toNatClampNeg - hs.2.1 ≤ R.slots := g4
      refine va_newaK C.1 C.2.1 (C.2.2.2.2.1 _ w3) rfl hd rfl hx.1 rfl (Nat.le_trans (Nat.mul_le_mul hx.2 w4) (by decide)) (by omega) (by omega) rfl fun H1 cA e1 z o1 hAr hNm => ?_
      have hcA : cA = E.2.2.2.1 t := by
        have h5 := (zarr C.2.2.2.2.2.2.1 (t := t) (by omega)).2
        rw [← w2] at h5
        cases ty <;> first | (exact Option.some.inj (hNm.symm.trans h5)) | (cases ht)
      refine znew_end g1 g2 hR hS hl K ?_ z o1
      rw [zz0_c]
      show H1[H.size]? = some (vp_cell _ _)
      rw [w5, ← hcA]
      exact e1
    · cases hz
  · cases he
theorem y_anewarray {i : Nat} (C : zCtx E p l R s m args meth c M) (hi : i < 2000) (hd : decode (zmb M) pc = .ok (.anewarray i, 3)) : zStep E p l e R s m args below meth c Q M hs h pc 3 L S (.anewarray i) := by
  intro pc2 L2 S2 h2 he
  simp only [zins] at he
  split at he
  · rename_i t hf
    obtain ⟨x, S3, rfl, hz⟩ := z_I1 he
    split at hz
    · rename_i hx
      obtain ⟨rfl, rfl, rfl, rfl⟩ := z_go hz
      refine ⟨⟨Nat.le_succ _, Nat.le_add_right _ _⟩, fun g1 g2 g3 g4 K H locs ls hR hS hl => ?_⟩
      obtain ⟨Cn, w1, w2, w3⟩ := zAll_lk zat_ok hf
      rw [(zkey hi).1, (zkey hi).2] at w2
      dsimp only at w1 w2
      have ht : t < 8 := (List.getElem?_eq_some_iff.mp w1).1
      have g3' : h.1 + 1 - hs.1 ≤ R.cells := g3
      have g4' : h.2.1 + x.toNatClampNeg - hs.2.1 ≤ R.slots := g4
      refine W.anew C.1 C.2.1 C.2.2.2.1 (C.2.2.2.2.1 _ w2) (va_AO.use (C.2.2.2.2.2.2.1.2.2.2.1 Cn w3)) rfl hd rfl hx.1 (Nat.le_trans (Nat.mul_le_mul hx.2 (Nat.le_refl 4)) (by decide)) (by omega) (by omega) fun cA kA comp f1 f2 f3 f4 => ?_
      generalize hH1 : H.push ({ cls := cA, slots := Array.replicate x.toNatClampNeg .null, vm := .none } : Cell) = H1
      have z1 : H1.size = H.size + 1 := by rw [← hH1, Array.size_push]
      have e1 : H1[H.size]? = some (arrV cA x.toNatClampNeg (fun _ => .null)) := by rw [← hH1, Array.getElem?_push_size, ← arrV_new]
      have o1 : ∀ q : Nat, q < H.size → H1[q]? = H[q]? := fun q hq => by rw [← hH1, Array.getElem?_push, if_neg (Nat.ne_of_lt hq)]
      have hcA : cA = E.2.2.2.1 t := by
        have h5 := (zarr C.2.2.2.2.2.2.1 ht).2
        rw [List.getD_eq_getElem?_getD, w1] at h5
        obtain ⟨_, _, -, -, -, h6⟩ := h5
        exact Option.some.inj (f1.symm.trans h6)
      refine znew_end g1 g2 hR hS hl K ?_ z1 o1
      show H1[H.size]? = some (vp_cell _ _)
      rw [vp_cell_q, ← hcA]
      exact e1
    · cases hz
  · cases he
end
