/-! THE START: the law's entry as a heap of the abstract machine; 'whole_start' out of a run of it -/
/-- the cells below 100: the script, the static arrays, the texts -/
def zSt0 (L : Nat) (xs : Nat → Int32) (a : Nat) : zC :=
  if a = 0 then .inl (0, L, .inl xs)
  else if a ≤ 4 then .inl ((if (zsa.getD (a - 1) default).1 = .int then 0 else 3), (zsa.getD (a - 1) default).2.length, .inl fun j => (zsa.getD (a - 1) default).2.getD j 0)
  else if 10 ≤ a ∧ a < 90 then (if a % 2 = 0 then .inr (13, [.ref (a + 1), .int 0]) else .inl (3, (zsx.getD ((a - 11) / 2) default).2.2.2.length, .inl fun j => (zsx.getD ((a - 11) / 2) default).2.2.2.getD j 0))
  else zNo
def zh0 (L : Nat) (xs : Nat → Int32) : zH := (0, 0, zSt0 L xs)
theorem zcls_known {args : Array Value} {s : State} (hts : ∀ w ∈ lw_tbl, w.before args s = true) : ∃ D : va_G, ∀ (c : Nat) (q : vw_C), zcl[c]? = some q → u_Kn s q.1 q.2.1 q.2.2 (D.1 c) (D.2 c) := by
  have hz : ∀ w ∈ zW0, w.before args s = true := zW0_t hts
  have key : ∀ (c : Nat), ∃ d : ClassId × (Nat → Nat), ∀ (q : vw_C), zcl[c]? = some q → u_Kn s q.1 q.2.1 q.2.2 d.1 d.2 := by
    intro c
    cases hc : zcl[c]? with
    | none => exact ⟨(0, fun _ => 0), fun q h => by cases h⟩
    | some q0 =>
      have hin := zc_in c q0 hc
      have hi : ∃ n, Cond.instantiable q0.1 n ∈ lw_tbl := by
        match c, hc with
        | 0, hc => cases hc; exact ⟨_, zin_0⟩
        | 1, hc => cases hc; exact ⟨_, zin_1⟩
        | 2, hc => cases hc; exact ⟨_, zin_2⟩
        | 3, hc => cases hc; exact ⟨_, zin_3⟩
        | 4, hc => cases hc; exact ⟨_, zin_4⟩
        | 5, hc => cases hc; exact ⟨_, zin_5⟩
        | 6, hc => cases hc; exact ⟨_, zin_6⟩
        | 7, hc => cases hc; exact ⟨_, zin_7⟩
        | 8, hc => cases hc; exact ⟨_, zin_8⟩
        | 9, hc => cases hc; exact ⟨_, zin_9⟩
        | 10, hc => cases hc; exact ⟨_, zin_10⟩
        | 11, hc => cases hc; exact ⟨_, zin_11⟩
        | 12, hc => cases hc; exact ⟨_, zin_12⟩
        | n + 13, hc => cases hc
      obtain ⟨n, hn⟩ := hi
      obtain ⟨cC, iS, h⟩ := u_known (C := q0.1) (T := q0.2.1) (N := q0.2.2) hz hin (hts _ hn)
      exact ⟨(cC, iS), fun q e => by cases e; exact h⟩
  obtain ⟨d, hd⟩ := Classical.axiomOfChoice key
  exact ⟨(fun c => (d c).1, fun c => (d c).2), hd⟩
theorem zarr_known {args : Array Value} {s : State} (hts : ∀ w ∈ lw_tbl, w.before args s = true) : ∃ f : Nat → ClassId, ∀ t, t < 8 → ArrOfT s (f t) (ztag.getD t .int) ∧ va_RA s (f t) (ztag.getD t .int) := by
  have hz : ∀ w ∈ zW0, w.before args s = true := zW0_t hts
  have prim : ∀ ty, (Cond.arrayClass ty).before args s = true → va_RA s = va_RA s → ∃ cA, ArrOfT s cA ty ∧ s.vm.findClass ("[" ++ ty.toString) = some cA := by
    intro ty h _
    obtain ⟨cA, kA, comp, h1, h2, h3⟩ := Cond.arrayClass_spec h
    exact ⟨cA, fun n z => ⟨fun k h => (by cases h), kA, h2, comp, h3⟩, h1⟩
  have obj : ∀ C, (Cond.arrayOver (.object C)).before args s = true → ∃ cA, ArrOfT s cA (.object C) ∧ va_RA s cA (.object C) := by
    intro C h
    obtain ⟨comp, c, k, h1, h2, h3, h4, h5⟩ := Cond.arrayOver_spec h
    exact ⟨c, fun n z => ⟨fun k h => (by cases h), k, h3, comp, h4⟩, k, comp, h3, h4, h1, h5⟩
  have key : ∀ t, ∃ cA, t < 8 → ArrOfT s cA (ztag.getD t .int) ∧ va_RA s cA (ztag.getD t .int) := by
    intro t
    match t with
    | 0 => obtain ⟨cA, h1, h2⟩ := prim .int (hz _ zar_int) rfl; exact ⟨cA, fun _ => ⟨h1, h2⟩⟩
    | 1 => obtain ⟨cA, h1, h2⟩ := prim .long (hz _ zar_long) rfl; exact ⟨cA, fun _ => ⟨h1, h2⟩⟩
    | 2 => obtain ⟨cA, h1, h2⟩ := prim .char (hz _ zar_char) rfl; exact ⟨cA, fun _ => ⟨h1, h2⟩⟩
    | 3 => obtain ⟨cA, h1, h2⟩ := prim .byte (hz _ zar_byte) rfl; exact ⟨cA, fun _ => ⟨h1, h2⟩⟩
    | 4 => obtain ⟨cA, h1, h2⟩ := obj _ (hts _ zov_Worker); exact ⟨cA, fun _ => ⟨h1, h2⟩⟩
    | 5 => obtain ⟨cA, h1, h2⟩ := obj _ (hts _ zov_Slip); exact ⟨cA, fun _ => ⟨h1, h2⟩⟩
    | 6 => obtain ⟨cA, h1, h2⟩ := obj _ (hts _ zov_Books); exact ⟨cA, fun _ => ⟨h1, h2⟩⟩
    | 7 => obtain ⟨cA, h1, h2⟩ := obj _ (hts _ zov_String); exact ⟨cA, fun _ => ⟨h1, h2⟩⟩
    | n + 8 => exact ⟨0, fun h => absurd h (by omega)⟩
  exact Classical.axiomOfChoice key
theorem zSb_spec {q : String × Nat × String × List Int32} {p : Nat} (h : zSb q p = true) : Cond.exactly (zSt q) "java/lang/String" ∈ zFl ∧ Cond.eq (.field (zSt q) "java/lang/String" "coder" "B") (.int 0) ∈ zFl ∧ Cond.arrayOf (zSv q) .byte ∈ zFl ∧ Cond.eq (.length (zSv q)) (.int (Int32.ofNat q.2.2.2.length)) ∈ zFl ∧ ∀ i, i < q.2.2.2.length → Cond.eq (.elem (zSv q) (.int (Int32.ofNat i))) (.int (q.2.2.2.getD i 0)) ∈ zFl := by
  unfold zSb at h
  simp only [Bool.and_eq_true, List.all_eq_true, List.mem_range] at h
  obtain ⟨⟨⟨⟨h1, h2⟩, h3⟩, h4⟩, h5⟩ := h
  exact ⟨zaf_in h1, zaf_in h2, zaf_in h3, zaf_in h4, fun i hi => zaf_in (h5 i hi)⟩
theorem zQb_spec {q : String × String × String × Value} {r : FieldType × List Int32} {p : Nat} (h : zQb q r p = true) : Cond.isRef (zQt q) ∈ zFl ∧ Cond.arrayOf (zQt q) r.1 ∈ zFl ∧ Cond.eq (.length (zQt q)) (.int (Int32.ofNat r.2.length)) ∈ zFl ∧ ∀ i, i < r.2.length → Cond.eq (.elem (zQt q) (.int (Int32.ofNat i))) (.int (r.2.getD i 0)) ∈ zFl := by
  unfold zQb at h
  simp only [Bool.and_eq_true, List.all_eq_true, List.mem_range] at h
  obtain ⟨⟨⟨h1, h3⟩, h4⟩, h5⟩ := h
  exact ⟨zaf_in h1, zaf_in h3, zaf_in h4, fun i hi => zaf_in (h5 i hi)⟩
theorem zstrs {args : Array Value} {s : State} {A : Nat → Prop} (hfl : ∀ w ∈ zFl, w.before args s = true) (hA : ∀ a : Nat, a < s.heap.size → ¬ A a) : ∃ ad : Nat → Nat × Nat, ∀ j, j < 40 → (zSt (zsx.getD j default)).eval args s none [] s = some (.ref (ad j).1) ∧ va_O "java/lang/String" (ad j).1 A s s.heap ∧ va_OF "java/lang/String" "coder" "B" (.int 0) (ad j).1 A s s.heap ∧ va_OF "java/lang/String" "value" "[B" (.ref (ad j).2) (ad j).1 A s s.heap ∧ va_T .byte (ad j).2 (zsx.getD j default).2.2.2.length (fun i => .int ((zsx.getD j default).2.2.2.getD i 0)) A s s.heap := by
  have hlen : ∀ j, j < 40 → (zsx.getD j default).2.2.2.length < 2 ^ 31 := by decide +kernel
  have key : ∀ j, ∃ q : Nat × Nat, j < 40 → (zSt (zsx.getD j default)).eval args s none [] s = some (.ref q.1) ∧ va_O "java/lang/String" q.1 A s s.heap ∧ va_OF "java/lang/String" "coder" "B" (.int 0) q.1 A s s.heap ∧ va_OF "java/lang/String" "value" "[B" (.ref q.2) q.1 A s s.heap ∧ va_T .byte q.2 (zsx.getD j default).2.2.2.length (fun i => .int ((zsx.getD j default).2.2.2.getD i 0)) A s s.heap := by
    intro j
    by_cases hj : j < 40
    · obtain ⟨f1, f2, f3, f4, f5⟩ := zSb_spec (zSb_ok j hj)
      obtain ⟨a, c, cA, kA, q1, q2, q3, q4, q5, q6, -⟩ := Cond.exactly_spec (args := args) (first := s) (o := none) (s := s) (idx := []) (hfl _ f1)
      obtain ⟨t, ht, hT⟩ := va_Tof (f := fun i => .int ((zsx.getD j default).2.2.2.getD i 0)) (A := A) (hlen j hj) (hfl _ f3) (va_eqt (hfl _ f4)) (fun i hi => va_eqt (hfl _ (f5 i hi))) hA
      exact ⟨(a, t), fun _ => ⟨q1, va_Oof (hfl _ f1) q1 hA, vk_OFof q1 (va_eqt (hfl _ f2)) hA, vk_OFof q1 ht hA, hT⟩⟩
    · exact ⟨(0, 0), fun h => absurd h hj⟩
  exact Classical.axiomOfChoice key
theorem zsta {args : Array Value} {s : State} {A : Nat → Prop} (hfl : ∀ w ∈ zFl, w.before args s = true) (hA : ∀ a : Nat, a < s.heap.size → ¬ A a) : ∃ ad : Nat → Nat, ∀ j, j < 4 → (zQt (zsl.getD j default)).eval args s none [] s = some (.ref (ad j)) ∧ va_T (zsa.getD j default).1 (ad j) (zsa.getD j default).2.length (fun i => .int ((zsa.getD j default).2.getD i 0)) A s s.heap := by
  have hlen : ∀ j, j < 4 → (zsa.getD j default).2.length < 2 ^ 31 := by decide +kernel
  have hb : ∀ j, j < 4 → ∃ p, zQb (zsl.getD j default) (zsa.getD j default) p = true := by
    intro j hj
    rcases (show j = 0 ∨ j = 1 ∨ j = 2 ∨ j = 3 by omega) with rfl | rfl | rfl | rfl
    · exact ⟨_, zQb_0⟩
    · exact ⟨_, zQb_1⟩
    · exact ⟨_, zQb_2⟩
    · exact ⟨_, zQb_3⟩
  have key : ∀ j, ∃ t : Nat, j < 4 → (zQt (zsl.getD j default)).eval args s none [] s = some (.ref t) ∧ va_T (zsa.getD j default).1 t (zsa.getD j default).2.length (fun i => .int ((zsa.getD j default).2.getD i 0)) A s s.heap := by
    intro j
    by_cases hj : j < 4
    · obtain ⟨p, hp⟩ := hb j hj
      obtain ⟨f1, f2, f3, f4⟩ := zQb_spec hp
      obtain ⟨t, ht, hT⟩ := va_Tof (f := fun i => .int ((zsa.getD j default).2.getD i 0)) (A := A) (hlen j hj) (hfl _ f2) (va_eqt (hfl _ f3)) (fun i hi => va_eqt (hfl _ (f4 i hi))) hA
      exact ⟨t, fun _ => ⟨ht, hT⟩⟩
    · exact ⟨0, fun h => absurd h hj⟩
  exact Classical.axiomOfChoice key
def zad0 (b : Nat) (sa : Nat → Nat) (st : Nat → Nat × Nat) (a : Nat) : Nat := if a = 0 then b else if a ≤ 4 then sa (a - 1) else if a % 2 = 0 then (st ((a - 10) / 2)).1 else (st ((a - 11) / 2)).2
theorem zE0 {s : State} {b L : Nat} {xs : Nat → Int32} (hL : L ≤ 2560) (hts : ∀ w ∈ lw_tbl, w.before #[Value.ref b] s = true) (hX : va_X b L xs s s.heap) (hbl : b < s.heap.size) (hgv : (Jvm.Cond.and given_1 narrow_1).before #[Value.ref b] s = true) : ∃ E : zE, E.1 = s.heap.size ∧ E.2.1 0 = b ∧ E.2.2.2.2.2 = zSt0 L xs ∧ (E.2.2.2.2.1 = .null ∨ ∃ a, E.2.2.2.2.1 = .ref a) ∧ zKS E s := by
  have hfl : ∀ w ∈ zFl, w.before #[Value.ref b] s = true := fun w hw => flat_of_before _ hgv w hw
  obtain ⟨D, hD⟩ := zcls_known hts
  obtain ⟨fa, hfa⟩ := zarr_known hts
  have hA : ∀ a : Nat, a < s.heap.size → ¬ s.heap.size ≤ a := fun a h h2 => absurd h (Nat.not_lt.mpr h2)
  obtain ⟨st, hst⟩ := zstrs (A := fun q => s.heap.size ≤ q) hfl hA
  obtain ⟨sa, hsa⟩ := zsta (A := fun q => s.heap.size ≤ q) hfl hA
  obtain ⟨v, hv, hvr⟩ : ∃ v, (Term.static "jdk/internal/util/Preconditions" "SIOOBE_FORMATTER" "Ljava/util/function/BiFunction;").eval #[Value.ref b] s none [] s = some v ∧ v.isRef = true := Cond.isRef_spec (hfl _ zQv_8)
  refine ⟨(s.heap.size, zad0 b sa st, D, fa, v, zSt0 L xs), rfl, rfl, rfl, ?_, ⟨hD, ?_⟩, ?_, ?_, ?_, ?_, ?_⟩
  · cases v <;> first | exact .inl rfl | exact .inr ⟨_, rfl⟩ | (cases hvr; done)
  · intro k q hq
    have hk : k < 8 := by
      have := (List.getElem?_eq_some_iff.mp hq).1
      simpa [ztys] using this
    rw [ztys_at hk] at hq
    cases hq
    exact hfa k hk
  · intro j q hq
    exact va_Nw.of rfl (hts _ (znl_ok q (List.mem_of_getElem? hq)))
  · intro j q hq
    have hj : j < 40 := (List.getElem?_eq_some_iff.mp hq).1
    have e : zsx.getD j default = q := by rw [List.getD_eq_getElem?_getD, hq]; rfl
    have h1 := (hst j hj).1
    rw [e] at h1
    have hw := hts _ (zsr_ok q (List.mem_of_getElem? hq))
    refine vk_R.of (A := #[Value.ref b]) hw ?_
    have e2 : zr (s.heap.size, zad0 b sa st, D, fa, v, zSt0 L xs) (10 + 2 * j) = (st j).1 := by
      show (if 10 + 2 * j < 100 then zad0 b sa st (10 + 2 * j) else _) = _
      rw [if_pos (by omega)]
      unfold zad0
      rw [if_neg (by omega), if_neg (by omega), if_pos (by omega), show (10 + 2 * j - 10) / 2 = j by omega]
    rw [e2]
    exact h1
  · intro C hC
    rcases List.mem_cons.mp hC with rfl | hC
    · exact va_AO.of (A := #[Value.ref b]) (hts _ zov_Worker)
    rcases List.mem_cons.mp hC with rfl | hC
    · exact va_AO.of (A := #[Value.ref b]) (hts _ zov_Slip)
    rcases List.mem_cons.mp hC with rfl | hC
    · exact va_AO.of (A := #[Value.ref b]) (hts _ zov_Books)
    rcases List.mem_cons.mp hC with rfl | hC
    · exact va_AO.of (A := #[Value.ref b]) (hts _ zov_String)
    cases hC
  · intro j q hq
    match j, hq with
    | 0, hq => cases hq; exact va_Zref (hts _ zQl_0.1) (hts _ zQl_0.2) (hsa 0 (by omega)).1 hA
    | 1, hq => cases hq; exact va_Zref (hts _ zQl_1.1) (hts _ zQl_1.2) (hsa 1 (by omega)).1 hA
    | 2, hq => cases hq; exact va_Zref (hts _ zQl_2.1) (hts _ zQl_2.2) (hsa 2 (by omega)).1 hA
    | 3, hq => cases hq; exact va_Zref (hts _ zQl_3.1) (hts _ zQl_3.2) (hsa 3 (by omega)).1 hA
    | 4, hq => cases hq; exact va_Zof (hts _ zQl_4.1) (hts _ zQl_4.2) (va_eqt (hfl _ zQv_4)) hA
    | 5, hq => cases hq; exact va_Zof (hts _ zQl_5.1) (hts _ zQl_5.2) (va_eqt (hfl _ zQv_5)) hA
    | 6, hq => cases hq; exact va_Zof (hts _ zQl_6.1) (hts _ zQl_6.2) (va_eqt (hfl _ zQv_6)) hA
    | 7, hq => cases hq; exact va_Zof (hts _ zQl_7.1) (hts _ zQl_7.2) (va_eqt (hfl _ zQv_7)) hA
    | 8, hq => cases hq; exact va_Zof (hts _ zQl_8.1) (hts _ zQl_8.2) hv hA
    | n + 9, hq => cases hq
  · intro a ha
    have hr : zr (s.heap.size, zad0 b sa st, D, fa, v, zSt0 L xs) a = zad0 b sa st a := if_pos ha
    unfold zSC
    show (match zSt0 L xs a with
      | .inl (t, n, .inl g) => _
      | .inr (13, [v, .int c]) => _
      | .inr (99, _) => _
      | _ => _)
    by_cases h0 : a = 0
    · subst h0
      obtain ⟨scr, h1, h2, h3, h4, h5⟩ := hX
      refine ⟨Or.inl rfl, scr, h1, h2, h3, Nat.le_of_eq h4.symm, ?_, h5, ?_⟩
      · rw [h4]
      · exact hA b hbl
    · by_cases h6 : a ≤ 4
      · have hj := (hsa (a - 1) (by omega)).2
        have e : zSt0 L xs a = .inl ((if (zsa.getD (a - 1) default).1 = .int then 0 else 3), (zsa.getD (a - 1) default).2.length, .inl fun j => (zsa.getD (a - 1) default).2.getD j 0) := by
          unfold zSt0; rw [if_neg h0, if_pos h6]
        rw [e]
        have e2 : zad0 b sa st a = sa (a - 1) := by unfold zad0; rw [if_neg h0, if_pos h6]
        have e3 : ztag.getD (if (zsa.getD (a - 1) default).1 = .int then 0 else 3) .int = (zsa.getD (a - 1) default).1 := by
          have : ∀ i, i < 4 → ztag.getD (if (zsa.getD i default).1 = .int then 0 else 3) .int = (zsa.getD i default).1 := by decide +kernel
          exact this _ (by omega)
        refine ⟨by split <;> simp, ?_⟩
        rw [e3, hr, e2]
        exact hj
      · by_cases h9 : 10 ≤ a ∧ a < 90
        · by_cases hm : a % 2 = 0
          · have e : zSt0 L xs a = .inr (13, [.ref (a + 1), .int 0]) := by
              unfold zSt0; rw [if_neg h0, if_neg h6, if_pos h9, if_pos hm]
            rw [e]
            obtain ⟨-, k1, k2, k3, -⟩ := hst ((a - 10) / 2) (by omega)
            have e2 : zad0 b sa st a = (st ((a - 10) / 2)).1 := by unfold zad0; rw [if_neg h0, if_neg h6, if_pos hm]
            have e3 : zv (s.heap.size, zad0 b sa st, D, fa, v, zSt0 L xs) (.ref (a + 1)) = .ref (st ((a - 10) / 2)).2 := by
              show Value.ref (if a + 1 < 100 then zad0 b sa st (a + 1) else _) = _
              rw [if_pos (by omega)]
              unfold zad0
              rw [if_neg (by omega), if_neg (by omega), if_neg (by omega), show (a + 1 - 11) / 2 = (a - 10) / 2 by omega]
            show va_O _ _ _ _ _ ∧ va_OF _ _ _ _ _ _ _ _ ∧ va_OF _ _ _ _ _ _ _ _
            rw [e3, hr, e2]
            exact ⟨k1, k2, k3⟩
          · have e : zSt0 L xs a = .inl (3, (zsx.getD ((a - 11) / 2) default).2.2.2.length, .inl fun j => (zsx.getD ((a - 11) / 2) default).2.2.2.getD j 0) := by
              unfold zSt0; rw [if_neg h0, if_neg h6, if_pos h9, if_neg hm]
            rw [e]
            obtain ⟨-, -, -, -, k4⟩ := hst ((a - 11) / 2) (by omega)
            have e2 : zad0 b sa st a = (st ((a - 11) / 2)).2 := by unfold zad0; rw [if_neg h0, if_neg h6, if_neg hm]
            refine ⟨Or.inr rfl, ?_⟩
            rw [hr, e2]
            exact k4
        · have e : zSt0 L xs a = zNo := by
            unfold zSt0; rw [if_neg h0, if_neg h6, if_neg h9]
          rw [e]
          trivial
