/-! THE LAW OUT OF A RUN OF THE ABSTRACT MACHINE -/
theorem zlaw_start {p : Program} {e : Env} {s : State} {m : MethodId} {below : List Frame} {meth : Method} {c : Code} (l : Launch) {b L : Nat} {xs : Nat → Int32} (hL : L ≤ 2560) (C0 : lw_At p s m meth c b L xs) {n : Nat} {h' : zH} (hrun : zX n 294 0 (zent 294 [.ref 0]) [] (zh0 L xs) = some (some (.int 1), h')) (h1 : h'.1 ≤ 600000) (h2 : h'.2.1 ≤ 7302250) : W p l e room_1 s m #[Value.ref b] below meth c s.heap [] 0 0 (lw_Z below #[Value.ref b] s) (entryFrame m ([Value.ref b] : List Value).toArray 4) := by
  obtain ⟨hx, hb, hr, hml, hown, hts, hX, hbl, hlk, hgv⟩ := C0
  obtain ⟨E, hE1, hE2, hE3, hE4, hKS⟩ := zE0 hL hts hX hbl hgv
  have hC : zCtx E p l room_1 s m #[Value.ref b] meth c 294 := ⟨hx, hb, hml, hown, zW0_t hts, fun h => absurd h (by decide +kernel), hKS, by decide +kernel, by decide +kernel, hE4, Nat.le_of_eq hE1⟩
  have hR : zRep E (zh0 L xs) s.heap := ⟨by rw [hE1]; rfl, fun i hi => absurd hi (Nat.not_lt_zero _), fun a ha => by
    have ha2 : 100 ≤ a := by have : 100 + 0 ≤ a := ha; omega
    show zSt0 L xs a = zNo
    unfold zSt0; rw [if_neg (by omega), if_neg (by omega), if_neg (by omega)], fun a ha => by rw [hE3]; rfl⟩
  have hz := (zsound (l := l) hE4 n 294 0 (zent 294 [.ref 0]) [] (zh0 L xs) _ h' hrun).2 p e room_1 s m #[Value.ref b] below meth c (lw_Z below #[Value.ref b] s) (zh0 L xs) hC (Nat.le_refl _) (Nat.le_refl _) (by show h'.1 - 0 ≤ 600000; omega) (by show h'.2.1 - 0 ≤ 7302250; omega) ?_
  · have ha : ([Value.ref b] : List Value) = ([Value.ref 0] : List Value).map (zv E) := by
      show [Value.ref b] = [Value.ref (zr E 0)]
      rw [show zr E 0 = E.2.1 0 from if_pos (by omega), hE2]
    have hent := lvh_entry (E := E) hE4 (y := 294) (args := [.ref 0]) (by decide +kernel)
    rw [← ha] at hent
    have h3 := hz s.heap [] _ hR va_S.rf hent
    rw [lg_entry_eq]
    exact h3
  · intro H' locs' ls' pc' hR' hS' hret
    obtain ⟨hok, hcase⟩ := hret
    rcases hcase with ⟨hd, x, hv⟩ | ⟨hd, x, hv⟩ | ⟨hd, w, hv, hw⟩ | ⟨hd, hv⟩
    · cases hv
      refine va_forget (fun q hq => ?_) (W.widen (k := 600000) (n := 7302250) (by show h'.1 - 0 ≤ _; omega) (by show h'.2.1 - 0 ≤ _; omega) (lw_ret (hlocks := hlk) hx hb hr hd))
      have := hS'.2.2 q hq
      exact hE1 ▸ this
    · cases hv
    · cases hv; cases hw
    · cases hv
