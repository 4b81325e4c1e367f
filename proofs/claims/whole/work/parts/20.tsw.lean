/-! SWITCHES as chains of ifs -/
def tsc {β : Type} (lo : Nat) (ts : List Nat) (d : Nat) (x : Int32) (f : Nat → β) : β := match ts with
  | [] => f d
  | t :: r => if x = nI lo then f t else tsc (lo + 1) r d x f
theorem tsc_miss {β : Type} {d : Nat} {x : Int32} {f : Nat → β} : ∀ (ts : List Nat) (lo : Nat), (∀ j, j < ts.length → x ≠ nI (lo + j)) → tsc lo ts d x f = f d
  | [], _, _ => rfl
  | t :: r, lo, h => by
    have h0 : x ≠ nI lo := h 0 (Nat.zero_lt_succ _)
    rw [tsc, if_neg h0]
    refine tsc_miss r (lo + 1) fun j hj => ?_
    rw [show lo + 1 + j = lo + (j + 1) by omega]
    exact h (j + 1) (Nat.succ_lt_succ hj)
theorem tsc_hit {β : Type} {d : Nat} {f : Nat → β} : ∀ (ts : List Nat) (lo j : Nat) (t : Nat), ts[j]? = some t → lo + ts.length < 2 ^ 31 → tsc lo ts d (nI (lo + j)) f = f t
  | [], _, _, _, h, _ => by cases h
  | t :: r, lo, 0, t', h, _ => by cases h; rw [tsc]; exact if_pos rfl
  | t :: r, lo, j + 1, t', h, hl => by
    have hj : j < r.length := Nat.lt_of_succ_lt_succ (List.getElem?_eq_some_iff.mp h).1
    have hlen : (t :: r).length = r.length + 1 := rfl
    rw [hlen] at hl
    rw [tsc, if_neg, show lo + (j + 1) = lo + 1 + j by omega]
    · exact tsc_hit r (lo + 1) j t' h (by omega)
    · intro e
      have h2 := congrArg Int32.toNatClampNeg e
      rw [nI_clamp (by omega), nI_clamp (by omega)] at h2
      omega
def tsok (pc : Nat) (d lo hi : Int) (offs : Array Int) (l : Nat) (ts : List Nat) (dt : Nat) : Bool := decide ((pc : Int) + d = (dt : Int)) && decide (lo = (l : Int)) && decide (hi + 1 = (l + ts.length : Nat)) && decide (offs.toList.map (fun o => (pc : Int) + o) = ts.map Int.ofNat) && decide (l + ts.length < 2 ^ 31)
theorem r_tsw {M pc n : Nat} {L S : List Value} {h : zH} {x : Int32} {d lo hi : Int} {offs : Array Int} {l : Nat} {ts : List Nat} {dt : Nat} (hd : zdec M pc = some (.tableswitch d lo hi offs, n)) (hc : tsok pc d lo hi offs l ts dt = true) : rn M pc L (.int x :: S) h = tsc l ts dt x fun t => rn M t L S h := by
  unfold tsok at hc
  simp only [Bool.and_eq_true, decide_eq_true_eq] at hc
  obtain ⟨⟨⟨⟨h1, h2⟩, h3⟩, h4⟩, h5⟩ := hc
  rw [rn_at hd]
  simp only [zins, zI1]
  by_cases hx : x.toInt < lo ∨ hi < x.toInt
  · rw [if_pos hx, z_tg h1, tsc_miss]
    · rfl
    · intro j hj e
      have h6 : x.toInt = ((l + j : Nat) : Int) := by rw [e, nI, Int32.toInt_ofNat_of_lt (by omega)]
      omega
  · rw [if_neg hx]
    have hj : (x.toInt - lo).toNat < ts.length := by omega
    have hlen : offs.size = ts.length := by
      have := congrArg List.length h4
      simpa using this
    have ho : offs[(x.toInt - lo).toNat]? = some (offs[(x.toInt - lo).toNat]'(by omega)) := Array.getElem?_eq_getElem (by omega)
    have ht : (pc : Int) + offs[(x.toInt - lo).toNat]'(by omega) = ((ts[(x.toInt - lo).toNat]'hj : Nat) : Int) := by
      have h6 := congrArg (fun q : List Int => q[(x.toInt - lo).toNat]?) h4
      simp only [List.getElem?_map] at h6
      rw [Array.getElem?_toList, ho, List.getElem?_eq_getElem hj] at h6
      simpa using h6
    rw [ho]
    show zrun M (ztg pc _ fun t => zgo t L S h) = _
    rw [z_tg ht]
    have hxe : x = nI (l + (x.toInt - lo).toNat) := by
      apply Int32.toInt_inj.mp
      rw [nI, Int32.toInt_ofNat_of_lt (by omega)]
      omega
    have := tsc_hit (d := dt) (f := fun t => rn M t L S h) ts l _ _ (List.getElem?_eq_getElem hj) h5
    rw [← hxe] at this
    rw [this]
    rfl
