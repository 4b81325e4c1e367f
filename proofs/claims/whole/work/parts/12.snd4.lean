/-! SOUNDNESS, fourth part: reads of the heap, constants of the pool -/
theorem zc_in : ∀ (ci : Nat) (q : vw_C), zcl[ci]? = some q → ∀ c ∈ u_ws q.1 q.2.1 q.2.2, c ∈ zW0 := by
  intro ci q h
  have hl : ci < 13 := (List.getElem?_eq_some_iff.mp h).1
  rcases (show ci = 0 ∨ ci = 1 ∨ ci = 2 ∨ ci = 3 ∨ ci = 4 ∨ ci = 5 ∨ ci = 6 ∨ ci = 7 ∨ ci = 8 ∨ ci = 9 ∨ ci = 10 ∨ ci = 11 ∨ ci = 12 by omega) with rfl | rfl | rfl | rfl | rfl | rfl | rfl | rfl | rfl | rfl | rfl | rfl | rfl
  all_goals cases h
  · exact zc_in0
  · exact zc_in1
  · exact zc_in2
  · exact zc_in3
  · exact zc_in4
  · exact zc_in5
  · exact zc_in6
  · exact zc_in7
  · exact zc_in8
  · exact zc_in9
  · exact zc_in10
  · exact zc_in11
  · exact zc_in12
theorem z_gf {β : Type} {h : zH} {a ci k : Nat} {f : Value → Option β} {r : β} (e : zgf h a ci k f = some r) : ∃ fs v, h.2.2 a = .inr (ci, fs) ∧ fs[k]? = some v ∧ f v = some r := by
  unfold zgf at e
  split at e
  · rename_i c fs hc
    split at e
    · rename_i e2
      subst e2
      split at e
      · rename_i v hv
        exact ⟨fs, v, hc, hv, e⟩
      · cases e
    · cases e
  · cases e
theorem z_al {β : Type} {h : zH} {a : Nat} {f : Int32 → Option β} {r : β} (e : zal h a f = some r) : ∃ t n x, h.2.2 a = .inl (t, n, x) ∧ t < 8 ∧ f (Int32.ofNat n) = some r := by
  unfold zal at e
  split at e
  · split at e
    · exact ⟨_, _, _, by assumption, by assumption, e⟩
    · cases e
  · cases e
theorem z_li {β : Type} {h : zH} {a t : Nat} {i : Int32} {f : Int32 → Option β} {r : β} (e : zli h a t i f = some r) : ∃ n g, h.2.2 a = .inl (t, n, .inl g) ∧ zin i n = true ∧ f (g i.toNatClampNeg) = some r := by
  unfold zli at e
  split at e
  · rename_i t2 n g hc
    split at e
    · rename_i h2
      obtain ⟨rfl, h3⟩ := h2
      exact ⟨n, g, hc, h3, e⟩
    · cases e
  · cases e
theorem z_lj {β : Type} {h : zH} {a : Nat} {i : Int32} {f : Int64 → Option β} {r : β} (e : zlj h a i f = some r) : ∃ n g, h.2.2 a = .inl (1, n, .inr (.inl g)) ∧ zin i n = true ∧ f (g i.toNatClampNeg) = some r := by
  unfold zlj at e
  split at e
  · rename_i t2 n g hc
    split at e
    · rename_i h2
      obtain ⟨rfl, h3⟩ := h2
      exact ⟨n, g, hc, h3, e⟩
    · cases e
  · cases e
theorem z_lq {β : Type} {h : zH} {a : Nat} {i : Int32} {f : Option Nat → Option β} {r : β} (e : zlq h a i f = some r) : ∃ t n g, h.2.2 a = .inl (t, n, .inr (.inr (.inr (.inr g)))) ∧ (4 ≤ t ∧ t < 8) ∧ zin i n = true ∧ f (g i.toNatClampNeg) = some r := by
  unfold zlq at e
  split at e
  · rename_i t2 n g hc
    split at e
    · rename_i h2
      exact ⟨t2, n, g, hc, h2.1, h2.2, e⟩
    · cases e
  · cases e
theorem zin_of {i : Int32} {n : Nat} (h : zin i n = true) : vp_in i n := by
  unfold zin at h
  exact (of_decide_eq_true h : ¬ (i < 0 ∨ n ≤ i.toNatClampNeg))
section
variable {E : zE} {p : Program} {l : Launch} {e : Env} {R : Room} {s : State} {m : MethodId} {args : Array Value} {below : List Frame} {meth : Method} {c : Code} {Q : State → Prop} {M : Nat} {hs h : zH} {pc n : Nat} {L S : List Value}
/-- a cell of the heap as a world of its own -/
theorem zone {a : Nat} {e : va_E} {D : va_G} {H : Heap} (h : va_at D zcl (a, e) H) : va_P D zcl [(a, e)] H := by
  intro k q hk
  match k, hk with
  | 0, hk => cases hk; exact h
theorem zkey {M i : Nat} (hi : i < 2000) : (M * zKEY + i) / zKEY = M ∧ (M * zKEY + i) % zKEY = i := by
  unfold zKEY; omega
theorem zlow {E : zE} {h : zH} {H : Heap} (hR : zRep E h H) {a : Nat} (ha : ¬ 100 ≤ a) {U : State} {H2 : Heap} (hS : zSC E a U H2) {x : zC} (hx : h.2.2 a = x) : (∃ t n g, x = .inl (t, n, .inl g) ∧ (t = 0 ∨ t = 3) ∧ va_T (ztag.getD t .int) (zr E a) n (fun j => .int (g j)) (zA E) U H2) ∨ (∃ v k, x = .inr (13, [v, .int k]) ∧ va_O "java/lang/String" (zr E a) (zA E) U H2 ∧ va_OF "java/lang/String" "coder" "B" (.int k) (zr E a) (zA E) U H2 ∧ va_OF "java/lang/String" "value" "[B" (zv E v) (zr E a) (zA E) U H2) ∨ ∃ fs, x = .inr (99, fs) := by
  rw [hR.2.2.2 a (by omega)] at hx
  unfold zSC at hS
  split at hS
  · rename_i t n g hc
    exact Or.inl ⟨t, n, g, by rw [← hx, hc], hS.1, hS.2⟩
  · rename_i v k hc
    exact Or.inr (Or.inl ⟨v, k, by rw [← hx, hc], hS⟩)
  · rename_i fs hc
    exact Or.inr (Or.inr ⟨fs, by rw [← hx, hc]⟩)
  · exact hS.elim
theorem y_getfield {i : Nat} (C : zCtx E p l R s m args meth c M) (hi : i < 2000) (hd : decode (zmb M) pc = .ok (.getfield i, 3)) : zStep E p l e R s m args below meth c Q M hs h pc 3 L S (.getfield i) := by
  intro pc2 L2 S2 h2 he
  simp only [zins] at he
  split at he
  · rename_i ci k hf
    obtain ⟨a, S3, rfl, hz⟩ := z_R1 he
    obtain ⟨fs, v, h1, h3, h4⟩ := z_gf hz
    obtain ⟨rfl, rfl, rfl, rfl⟩ := z_go h4
    refine ⟨zle_rf, fun _ _ _ _ K H locs ls hR hS hl => ?_⟩
    have hK := K H locs ls hR hS hl
    have hP := zAll_lk zft_ok hf
    unfold zfP at hP
    rw [(zkey hi).1, (zkey hi).2] at hP
    have own := C.2.2.2.1
    by_cases ha : 100 ≤ a
    · obtain ⟨hlt, hat⟩ := hR.cell ha (by
        rw [h1]; intro z
        rcases hP with ⟨q, -⟩ | ⟨q, hq, -⟩
        · cases z; exact absurd (show (99 : Nat) = 13 from q) (by decide)
        · cases z; cases hq)
      rw [h1] at hat
      rcases hP with ⟨q, -⟩ | ⟨q, hq, hk, hw⟩
      · dsimp only at q
        subst q
        obtain ⟨r, hr, -⟩ := hat
        cases hr
      · obtain ⟨qC, qT, qN⟩ := q
        exact va_get (D := E.2.2.1) (tys := ztys E) (ci := ci) (v := zv E v) (C := qC) (T := qT) (N := qN) C.1 C.2.1 C.2.2.2.2.1 (zc_in ci _ hq) own C.2.2.2.2.2.2.1.1 (zone hat) 0 rfl hq k hk (C.2.2.2.2.1 _ hw) (fun _ h => h) (by rw [List.getElem?_map, h3]; rfl) hd hK
    · rcases zlow hR ha (C.2.2.2.2.2.2.1.2.2.2.2.2 a (Nat.lt_of_not_le ha)) h1 with ⟨t, n, g, q, -⟩ | ⟨w, x, q, hO, hC, hV⟩ | ⟨fs, q⟩
      · cases q
      · cases q
        rcases hP with ⟨-, ⟨q, hw⟩ | ⟨q, hw⟩⟩ | ⟨q, hq, -⟩
        · dsimp only at q
          subst q
          cases h3
          exact vk_getf C.1 C.2.1 hV hS own (C.2.2.2.2.1 _ hw) (fun _ h => h) hd hK
        · dsimp only at q
          subst q
          cases h3
          exact vk_getf C.1 C.2.1 hC hS own (C.2.2.2.2.1 _ hw) (fun _ h => h) hd hK
        · cases hq
      · cases q
        rcases hP with ⟨q, -⟩ | ⟨q, hq, -⟩
        · exact absurd (show (99 : Nat) = 13 from q) (by decide)
        · cases hq
  · cases he
theorem y_getstatic {i : Nat} (C : zCtx E p l R s m args meth c M) (hi : i < 2000) (hd : decode (zmb M) pc = .ok (.getstatic i, 3)) : zStep E p l e R s m args below meth c Q M hs h pc 3 L S (.getstatic i) := by
  intro pc2 L2 S2 h2 he
  simp only [zins] at he
  split at he
  · rename_i j hf
    split at he
    · rename_i q hq
      obtain ⟨rfl, rfl, rfl, rfl⟩ := z_go he
      refine ⟨zle_rf, fun _ _ _ _ K H locs ls hR hS hl => ?_⟩
      obtain ⟨q2, hq2, hw⟩ := zAll_lk zgt_ok hf
      rw [(zkey hi).1, (zkey hi).2] at hw
      cases hq.symm.trans hq2
      exact va_gets C.1 C.2.1 (C.2.2.2.2.2.2.1.2.2.2.2.1 j q hq) hS C.2.2.2.1 (C.2.2.2.2.1 _ hw) (fun _ h => h) hd (K H locs ls hR hS hl)
    · cases he
  · cases he
theorem zarr {E : zE} {U : State} (hK : zKS E U) {t : Nat} (ht : t < 8) : ArrOfT U (E.2.2.2.1 t) (ztag.getD t .int) ∧ va_RA U (E.2.2.2.1 t) (ztag.getD t .int) := hK.1.2 t _ (ztys_at ht)
theorem y_arraylength (C : zCtx E p l R s m args meth c M) (hd : decode (zmb M) pc = .ok (.arraylength, 1)) : zStep E p l e R s m args below meth c Q M hs h pc 1 L S .arraylength := by
  intro pc2 L2 S2 h2 he
  simp only [zins] at he
  obtain ⟨a, S3, rfl, hz⟩ := z_R1 he
  obtain ⟨t, k, x, h1, ht0, h4⟩ := z_al hz
  obtain ⟨rfl, rfl, rfl, rfl⟩ := z_go h4
  refine ⟨zle_rf, fun _ _ _ _ K H locs ls hR hS hl => ?_⟩
  have hK := K H locs ls hR hS hl
  by_cases ha : 100 ≤ a
  · obtain ⟨hlt, hat⟩ := hR.cell ha (by rw [h1]; intro z; cases z)
    rw [h1] at hat
    have ht : t < 8 := ht0
    rcases x with g | g | g | g | g
    all_goals exact va_alen (D := E.2.2.1) (tys := ztys E) C.1 C.2.1 C.2.2.2.2.2.2.1.1 (zone hat) 0 t rfl (ztys_at ht) rfl hd hK
  · rcases zlow hR ha (C.2.2.2.2.2.2.1.2.2.2.2.2 a (Nat.lt_of_not_le ha)) h1 with ⟨t2, n2, g2, q, -, hT⟩ | ⟨w, y, q, -⟩ | ⟨fs, q⟩
    · cases q
      exact va_tlen C.1 C.2.1 hT hS rfl hd hK
    · cases q
    · cases q
theorem y_ldarr (C : zCtx E p l R s m args meth c M) {t : Nat} {i : Int32} {a : Nat} {S3 : List Value} {n : Nat} {g : Nat → Int32} {H : Heap} {locs : List Loc} {ls : Array Slot} {k : Nat} (hR : zRep E h H) (hS : va_S (zA E) s.heap H locs) (h1 : h.2.2 a = .inl (t, n, .inl g)) (hin : zin i n = true) :
    (100 ≤ a ∧ va_P E.2.2.1 zcl [(zr E a, .inl (E.2.2.2.1 t, n, .inl g))] H) ∨ ((t = 0 ∨ t = 3) ∧ va_T (ztag.getD t .int) (zr E a) n (fun j => .int (g j)) (zA E) s s.heap) := by
  by_cases ha : 100 ≤ a
  · obtain ⟨hlt, hat⟩ := hR.cell ha (by rw [h1]; intro z; cases z)
    rw [h1] at hat
    exact Or.inl ⟨ha, zone hat⟩
  · rcases zlow hR ha (C.2.2.2.2.2.2.1.2.2.2.2.2 a (Nat.lt_of_not_le ha)) h1 with ⟨t2, n2, g2, q, ht, hT⟩ | ⟨w, x, q, -⟩ | ⟨fs, q⟩
    · cases q
      exact Or.inr ⟨ht, hT⟩
    · cases q
    · cases q
theorem y_iaload (C : zCtx E p l R s m args meth c M) (hd : decode (zmb M) pc = .ok (.iaload, 1)) : zStep E p l e R s m args below meth c Q M hs h pc 1 L S .iaload := by
  intro pc2 L2 S2 h2 he
  simp only [zins] at he
  obtain ⟨a, i, S3, rfl, hz⟩ := z_RI he
  obtain ⟨k, g, h1, hin, h4⟩ := z_li hz
  obtain ⟨rfl, rfl, rfl, rfl⟩ := z_go h4
  refine ⟨zle_rf, fun _ _ _ _ K H locs ls hR hS hl => ?_⟩
  have hK := K H locs ls hR hS hl
  rcases y_ldarr (S3 := S3) (ls := ls) (k := 0) C hR hS h1 hin with ⟨-, hP⟩ | ⟨-, hT⟩
  · exact va_iald (D := E.2.2.1) (tys := ztys E) C.1 C.2.1 C.2.2.2.2.2.2.1.1 hP 0 0 rfl (ztys_at (by decide)) (zin_of hin) hd hK
  · exact va_ti C.1 C.2.1 hT hS (zin_of hin) rfl hd hK
theorem y_baload (C : zCtx E p l R s m args meth c M) (hd : decode (zmb M) pc = .ok (.baload, 1)) : zStep E p l e R s m args below meth c Q M hs h pc 1 L S .baload := by
  intro pc2 L2 S2 h2 he
  simp only [zins] at he
  obtain ⟨a, i, S3, rfl, hz⟩ := z_RI he
  obtain ⟨k, g, h1, hin, h4⟩ := z_li hz
  obtain ⟨rfl, rfl, rfl, rfl⟩ := z_go h4
  refine ⟨zle_rf, fun _ _ _ _ K H locs ls hR hS hl => ?_⟩
  have hK := K H locs ls hR hS hl
  rcases y_ldarr (S3 := S3) (ls := ls) (k := 0) C hR hS h1 hin with ⟨-, hP⟩ | ⟨-, hT⟩
  · exact va_bald (D := E.2.2.1) (tys := ztys E) C.1 C.2.1 C.2.2.2.2.2.2.1.1 hP 0 3 rfl (ztys_at (by decide)) (zin_of hin) hd hK
  · exact va_tb C.1 C.2.1 hT hS (zin_of hin) rfl hd hK
theorem y_caload (C : zCtx E p l R s m args meth c M) (hd : decode (zmb M) pc = .ok (.caload, 1)) : zStep E p l e R s m args below meth c Q M hs h pc 1 L S .caload := by
  intro pc2 L2 S2 h2 he
  simp only [zins] at he
  obtain ⟨a, i, S3, rfl, hz⟩ := z_RI he
  obtain ⟨k, g, h1, hin, h4⟩ := z_li hz
  obtain ⟨rfl, rfl, rfl, rfl⟩ := z_go h4
  refine ⟨zle_rf, fun _ _ _ _ K H locs ls hR hS hl => ?_⟩
  have hK := K H locs ls hR hS hl
  rcases y_ldarr (S3 := S3) (ls := ls) (k := 0) C hR hS h1 hin with ⟨-, hP⟩ | ⟨ht, -⟩
  · exact va_cald (D := E.2.2.1) (tys := ztys E) C.1 C.2.1 C.2.2.2.2.2.2.1.1 hP 0 2 rfl (ztys_at (by decide)) (zin_of hin) hd hK
  · exact absurd ht (by decide)
theorem y_laload (C : zCtx E p l R s m args meth c M) (hd : decode (zmb M) pc = .ok (.laload, 1)) : zStep E p l e R s m args below meth c Q M hs h pc 1 L S .laload := by
  intro pc2 L2 S2 h2 he
  simp only [zins] at he
  obtain ⟨a, i, S3, rfl, hz⟩ := z_RI he
  obtain ⟨k, g, h1, hin, h4⟩ := z_lj hz
  obtain ⟨rfl, rfl, rfl, rfl⟩ := z_go h4
  refine ⟨zle_rf, fun _ _ _ _ K H locs ls hR hS hl => ?_⟩
  have hK := K H locs ls hR hS hl
  by_cases ha : 100 ≤ a
  · obtain ⟨hlt, hat⟩ := hR.cell ha (by rw [h1]; intro z; cases z)
    rw [h1] at hat
    exact va_lald (D := E.2.2.1) (tys := ztys E) C.1 C.2.1 C.2.2.2.2.2.2.1.1 (zone hat) 0 1 rfl (ztys_at (by decide)) (zin_of hin) hd hK
  · rcases zlow hR ha (C.2.2.2.2.2.2.1.2.2.2.2.2 a (Nat.lt_of_not_le ha)) h1 with ⟨t2, n2, g2, q, -⟩ | ⟨w, x, q, -⟩ | ⟨fs, q⟩ <;> cases q
theorem ztag_obj {t : Nat} (h : 4 ≤ t ∧ t < 8) : ∃ C, ztag.getD t .int = .object C ∧ ztag[t]? = some (.object C) := by
  rcases (show t = 4 ∨ t = 5 ∨ t = 6 ∨ t = 7 by omega) with rfl | rfl | rfl | rfl <;> exact ⟨_, rfl, rfl⟩
theorem zrf_zv (x : Option Nat) : zv E (va_rf x) = va_rf (x.map (zr E)) := by cases x <;> rfl
theorem y_aaload (C : zCtx E p l R s m args meth c M) (hd : decode (zmb M) pc = .ok (.aaload, 1)) : zStep E p l e R s m args below meth c Q M hs h pc 1 L S .aaload := by
  intro pc2 L2 S2 h2 he
  simp only [zins] at he
  obtain ⟨a, i, S3, rfl, hz⟩ := z_RI he
  obtain ⟨t, k, g, h1, ht, hin, h4⟩ := z_lq hz
  obtain ⟨rfl, rfl, rfl, rfl⟩ := z_go h4
  refine ⟨zle_rf, fun _ _ _ _ K H locs ls hR hS hl => ?_⟩
  have hK := K H locs ls hR hS hl
  rw [List.map_cons, zrf_zv] at hK
  by_cases ha : 100 ≤ a
  · obtain ⟨hlt, hat⟩ := hR.cell ha (by rw [h1]; intro z; cases z)
    rw [h1] at hat
    obtain ⟨Cn, hCn, -⟩ := ztag_obj ht
    exact va_aldq (D := E.2.2.1) (tys := ztys E) (C := Cn) C.1 C.2.1 C.2.2.2.2.2.2.1.1 (zone hat) 0 t rfl (by rw [ztys_at ht.2, hCn]) (zin_of hin) hd hK
  · rcases zlow hR ha (C.2.2.2.2.2.2.1.2.2.2.2.2 a (Nat.lt_of_not_le ha)) h1 with ⟨t2, n2, g2, q, -⟩ | ⟨w, x, q, -⟩ | ⟨fs, q⟩ <;> cases q
theorem y_ldc {i : Nat} (C : zCtx E p l R s m args meth c M) (hi : i < 2000) (hd : decode (zmb M) pc = .ok (.ldc i, 2)) : zStep E p l e R s m args below meth c Q M hs h pc 2 L S (.ldc i) := by
  intro pc2 L2 S2 h2 he
  simp only [zins] at he
  split at he
  · rename_i v hf
    obtain ⟨rfl, rfl, rfl, rfl⟩ := z_go he
    have hw := zAll_lk zkt_ok hf
    unfold zkP at hw
    rw [(zkey hi).1, (zkey hi).2] at hw
    exact ⟨zle_rf, fun _ _ _ _ K H locs ls hR hS hl => lv_ldc C.1 C.2.1 C.2.2.2.1 (C.2.2.2.2.1 _ hw) hd (K H locs ls hR hS hl)⟩
  · split at he
    · rename_i j hf
      obtain ⟨rfl, rfl, rfl, rfl⟩ := z_go he
      obtain ⟨tx, bs, hq⟩ := zAll_lk zut_ok hf
      rw [(zkey hi).1, (zkey hi).2] at hq
      have h3 := C.2.2.2.2.2.2.1.2.2.1 j _ hq
      dsimp only at h3
      refine ⟨zle_rf, fun _ _ _ _ K H locs ls hR hS hl => ?_⟩
      have hK := K H locs ls hR hS hl
      rw [List.map_cons] at hK
      exact va_ldcS (own := zown M) C.1 C.2.1 C.2.2.2.1 h3 hd hK
    · cases he
/-- a wide load of a text's constant -/
theorem z_ldcSW {p : Program} {l : Launch} {e : Env} {R : Room} {s : State} {m : MethodId} {args : Array Value} {below : List Frame} {meth : Method} {c : Code} {T : State} {locs : List Loc} {cells slots : Nat}
    (X : Stand p l e R s m args below meth c T locs cells slots) (hexec : p.tables.exec = Jvm.exec) {own text : String} {index : Nat} {a : Addr} (hown : s.vm.findClass own = some m.cls)
    (hconst : (Cond.stringRef own index text).before args s = true) (hev : (Term.string own index).eval args s none [] s = some (.ref a)) {g : JFrame} (hg : g.method = m) (hdg : decode c.code g.pc = .ok (.ldc_w index, 3)) :
    ∀ target, Steps p.tables e below (T.setTop { g with pc := g.pc + 3, stack := .ref a :: g.stack }) target → Steps p.tables e below (T.setTop g) target := by
  obtain ⟨k, cf, i, a', hk, hcf, hcp, -, hr, hev'⟩ := Cond.stringRef_spec hown hconst
  cases hev.symm.trans hev'
  obtain ⟨k', hk', he⟩ := X.warmed.alike.2.2 _ _ hk
  have hr' : k'.resolved[index]? = some (some (.string a)) := by
    rcases X.warmed.entry hk hk' index with h | ⟨h, -⟩
    · rw [h]; exact hr
    · rw [hr] at h; cases h
  intro target hrest
  subst hg
  jvm_step X.here [hexec, hdg, ldc_w.wp_string (e := e) (s := T) (f := g) X.here.top hk' (by rw [he]; exact hcf) hcp hr']
  exact hrest
theorem y_ldc_w {i : Nat} (C : zCtx E p l R s m args meth c M) (hi : i < 2000) (hd : decode (zmb M) pc = .ok (.ldc_w i, 3)) : zStep E p l e R s m args below meth c Q M hs h pc 3 L S (.ldc_w i) := by
  intro pc2 L2 S2 h2 he
  simp only [zins] at he
  split at he
  · rename_i v hf
    obtain ⟨rfl, rfl, rfl, rfl⟩ := z_go he
    have hw := zAll_lk zkt_ok hf
    unfold zkP at hw
    rw [(zkey hi).1, (zkey hi).2] at hw
    refine ⟨zle_rf, fun _ _ _ _ K H locs ls hR hS hl T hT X => ?_⟩
    obtain ⟨t, a, b⟩ := K H locs ls hR hS hl T hT X
    exact ⟨t, va_ldcwI X C.1 C.2.2.2.1 (C.2.2.2.2.1 _ hw) (g := F0 m pc ls (S.map (zv E))) rfl (by rw [C.2.1]; exact hd) t a, b⟩
  · split at he
    · rename_i j hf
      obtain ⟨rfl, rfl, rfl, rfl⟩ := z_go he
      obtain ⟨tx, bs, hq⟩ := zAll_lk zut_ok hf
      rw [(zkey hi).1, (zkey hi).2] at hq
      have h3 := C.2.2.2.2.2.2.1.2.2.1 j _ hq
      dsimp only at h3
      refine ⟨zle_rf, fun _ _ _ _ K H locs ls hR hS hl => ?_⟩
      have hK := K H locs ls hR hS hl
      rw [List.map_cons] at hK
      intro T hT X
      obtain ⟨t, a, b⟩ := hK T hT X
      exact ⟨t, z_ldcSW X C.1 C.2.2.2.1 h3.1 h3.2 (g := F0 m pc ls (S.map (zv E))) rfl (by rw [C.2.1]; exact hd) t a, b⟩
    · cases he
theorem y_ldc2_w {i : Nat} (C : zCtx E p l R s m args meth c M) (hi : i < 2000) (hd : decode (zmb M) pc = .ok (.ldc2_w i, 3)) : zStep E p l e R s m args below meth c Q M hs h pc 3 L S (.ldc2_w i) := by
  intro pc2 L2 S2 h2 he
  simp only [zins] at he
  split at he
  · rename_i v hf
    obtain ⟨rfl, rfl, rfl, rfl⟩ := z_go he
    have hw := zAll_lk zlt_ok hf
    unfold zlP at hw
    rw [(zkey hi).1, (zkey hi).2] at hw
    exact ⟨zle_rf, fun _ _ _ _ K H locs ls hR hS hl => lv_ldc2 C.1 C.2.1 C.2.2.2.1 (C.2.2.2.2.1 _ hw) hd (K H locs ls hR hS hl)⟩
  · cases he
end
