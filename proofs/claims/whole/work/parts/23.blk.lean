/-! BLOCKS: stretches of cells of the heap, reads and writes of them -/
def blk (a n : Nat) (c : Nat → zC) (h : zH) : zH := (h.1, h.2.1, fun q => if a ≤ q ∧ q < a + n then c (q - a) else h.2.2 q)
def isB (H : zH) (a n : Nat) (c : Nat → zC) : Prop := ∀ k, k < n → H.2.2 (a + k) = c k
theorem blk_at {a n : Nat} {c : Nat → zC} {h : zH} {k : Nat} (hk : k < n) : (blk a n c h).2.2 (a + k) = c k := by
  show (if a ≤ a + k ∧ a + k < a + n then c (a + k - a) else _) = _
  rw [if_pos (by omega), Nat.add_sub_cancel_left]
theorem blk_out {a n : Nat} {c : Nat → zC} {h : zH} {q : Nat} (hq : q < a ∨ a + n ≤ q) : (blk a n c h).2.2 q = h.2.2 q := if_neg (by omega)
theorem blk_isB {a n : Nat} {c : Nat → zC} {h : zH} : isB (blk a n c h) a n c := fun _ hk => blk_at hk
theorem blk_1 {a n : Nat} {c : Nat → zC} {h : zH} : (blk a n c h).1 = h.1 := rfl
theorem blk_2 {a n : Nat} {c : Nat → zC} {h : zH} : (blk a n c h).2.1 = h.2.1 := rfl
theorem isB_skip {a n : Nat} {c : Nat → zC} {h : zH} {b m : Nat} {d : Nat → zC} (hd : b + m ≤ a ∨ a + n ≤ b) (hb : isB h b m d) : isB (blk a n c h) b m d := fun k hk => by
  rw [blk_out (by omega)]; exact hb k hk
theorem blk_id {H : zH} {a n : Nat} {c : Nat → zC} (hb : isB H a n c) : blk a n c H = H := by
  refine Prod.ext rfl (Prod.ext rfl (funext fun q => ?_))
  show (if a ≤ q ∧ q < a + n then c (q - a) else H.2.2 q) = H.2.2 q
  split
  · rename_i e
    have := hb (q - a) (by omega)
    rw [show a + (q - a) = q by omega] at this
    exact this.symm
  · rfl
theorem blk_over {a n : Nat} {c d : Nat → zC} {h : zH} : blk a n c (blk a n d h) = blk a n c h := by
  refine Prod.ext rfl (Prod.ext rfl (funext fun q => ?_))
  show (if a ≤ q ∧ q < a + n then c (q - a) else (if a ≤ q ∧ q < a + n then d (q - a) else h.2.2 q)) = (if a ≤ q ∧ q < a + n then c (q - a) else h.2.2 q)
  split <;> rfl
theorem blk_swap {a n b m : Nat} {c d : Nat → zC} {h : zH} (hd : a + n ≤ b ∨ b + m ≤ a) : blk a n c (blk b m d h) = blk b m d (blk a n c h) := by
  refine Prod.ext rfl (Prod.ext rfl (funext fun q => ?_))
  show (if a ≤ q ∧ q < a + n then c (q - a) else (if b ≤ q ∧ q < b + m then d (q - b) else h.2.2 q)) = (if b ≤ q ∧ q < b + m then d (q - b) else (if a ≤ q ∧ q < a + n then c (q - a) else h.2.2 q))
  by_cases h1 : a ≤ q ∧ q < a + n
  · rw [if_pos h1, if_neg (by omega), if_pos h1]
  · rw [if_neg h1, if_neg h1]
/-- a block within a block -/
theorem blk_in {a n b m : Nat} {c d e : Nat → zC} {h : zH} (h1 : a ≤ b) (h2 : b + m ≤ a + n) (he : ∀ k, k < n → e k = if b ≤ a + k ∧ a + k < b + m then d (a + k - b) else c k) : blk b m d (blk a n c h) = blk a n e h := by
  refine Prod.ext rfl (Prod.ext rfl (funext fun q => ?_))
  show (if b ≤ q ∧ q < b + m then d (q - b) else (if a ≤ q ∧ q < a + n then c (q - a) else h.2.2 q)) = (if a ≤ q ∧ q < a + n then e (q - a) else h.2.2 q)
  by_cases h3 : a ≤ q ∧ q < a + n
  · rw [if_pos h3, if_pos h3, he (q - a) (by omega), show a + (q - a) = q by omega]
  · rw [if_neg h3, if_neg h3, if_neg (by omega)]
theorem blk_zset {a n k : Nat} {c d : Nat → zC} {h : zH} {v : zC} (hk : k < n) (hd : d k = v) (ho : ∀ j, j < n → j ≠ k → d j = c j) : zset (blk a n c h) (a + k) v = blk a n d h := by
  refine Prod.ext rfl (Prod.ext rfl (funext fun q => ?_))
  show (if q = a + k then v else (if a ≤ q ∧ q < a + n then c (q - a) else h.2.2 q)) = (if a ≤ q ∧ q < a + n then d (q - a) else h.2.2 q)
  by_cases e : q = a + k
  · subst e
    rw [if_pos rfl, if_pos (by omega), Nat.add_sub_cancel_left, hd]
  · rw [if_neg e]
    by_cases h1 : a ≤ q ∧ q < a + n
    · rw [if_pos h1, if_pos h1, ho _ (by omega) (by omega)]
    · rw [if_neg h1, if_neg h1]
theorem blk_zset_out {a n q : Nat} {c : Nat → zC} {h : zH} {v : zC} (hq : q < a ∨ a + n ≤ q) : zset (blk a n c h) q v = blk a n c (zset h q v) := by
  refine Prod.ext rfl (Prod.ext rfl (funext fun p => ?_))
  show (if p = q then v else (if a ≤ p ∧ p < a + n then c (p - a) else h.2.2 p)) = (if a ≤ p ∧ p < a + n then c (p - a) else (if p = q then v else h.2.2 p))
  by_cases e : p = q
  · subst e
    rw [if_pos rfl, if_neg (by omega), if_pos rfl]
  · rw [if_neg e, if_neg e]
theorem blk_znew {a n : Nat} {c : Nat → zC} {h : zH} {v : zC} {z : Nat} (hq : a + n ≤ 100 + h.1) : znew (blk a n c h) v z = blk a n c (znew h v z) := by
  refine Prod.ext rfl (Prod.ext rfl ?_)
  show zup (blk a n c h).2.2 (100 + h.1) v = (blk a n c (znew h v z)).2.2
  exact congrArg (fun x : zH => x.2.2) (blk_zset_out (h := h) (v := v) (c := c) (a := a) (n := n) (Or.inr hq))
section
variable {β : Type} {a n q : Nat} {c : Nat → zC} {h : zH}
theorem gf_skip (hq : q < a ∨ a + n ≤ q) (ci k : Nat) (f : Value → Option β) : zgf (blk a n c h) q ci k f = zgf h q ci k f := by rw [zgf, zgf, blk_out hq]
theorem al_skip (hq : q < a ∨ a + n ≤ q) (f : Int32 → Option β) : zal (blk a n c h) q f = zal h q f := by rw [zal, zal, blk_out hq]
theorem li_skip (hq : q < a ∨ a + n ≤ q) (t : Nat) (i : Int32) (f : Int32 → Option β) : zli (blk a n c h) q t i f = zli h q t i f := by rw [zli, zli, blk_out hq]
theorem lj_skip (hq : q < a ∨ a + n ≤ q) (i : Int32) (f : Int64 → Option β) : zlj (blk a n c h) q i f = zlj h q i f := by rw [zlj, zlj, blk_out hq]
theorem lq_skip (hq : q < a ∨ a + n ≤ q) (i : Int32) (f : Option Nat → Option β) : zlq (blk a n c h) q i f = zlq h q i f := by rw [zlq, zlq, blk_out hq]
theorem kd_skip (hq : q < a ∨ a + n ≤ q) : zkd (blk a n c h) q = zkd h q := by rw [zkd, zkd, blk_out hq]
theorem pf_skip (hq : q < a ∨ a + n ≤ q) (ci k : Nat) (v : Value) (f : zH → Option β) : zpf (blk a n c h) q ci k v f = zpf h q ci k v fun h => f (blk a n c h) := by
  rw [zpf, zpf, blk_out hq]
  split
  · rw [blk_zset_out hq]
  · rfl
theorem si_skip (hq : q < a ∨ a + n ≤ q) (t : Nat) (i x : Int32) (f : zH → Option β) : zsi (blk a n c h) q t i x f = zsi h q t i x fun h => f (blk a n c h) := by
  rw [zsi, zsi, blk_out hq]
  split
  · rw [blk_zset_out hq]
  · rfl
theorem sj_skip (hq : q < a ∨ a + n ≤ q) (i : Int32) (x : Int64) (f : zH → Option β) : zsj (blk a n c h) q i x f = zsj h q i x fun h => f (blk a n c h) := by
  rw [zsj, zsj, blk_out hq]
  split
  · rw [blk_zset_out hq]
  · rfl
/-- reads and writes of a cell that is known -/
theorem gf_c {H : zH} {ci k : Nat} {fs : List Value} {v : Value} (e : H.2.2 q = .inr (ci, fs)) (hk : fs[k]? = some v) (f : Value → Option β) : zgf H q ci k f = f v := by
  rw [zgf, e]
  show (if ci = ci then _ else none) = _
  rw [if_pos rfl, hk]
theorem al_c {H : zH} {t m : Nat} {x} (e : H.2.2 q = .inl (t, m, x)) (ht : t < 8) (f : Int32 → Option β) : zal H q f = f (nI m) := by
  rw [zal, e]
  exact if_pos ht
theorem kd_c {H : zH} {ci : Nat} {fs : List Value} (e : H.2.2 q = .inr (ci, fs)) : zkd H q = ci := by rw [zkd, e]
theorem li_c {H : zH} {t m k : Nat} {g : Nat → Int32} (e : H.2.2 q = .inl (t, m, .inl g)) (hk : k < m) (hm : m < 2 ^ 31) (f : Int32 → Option β) : zli H q t (nI k) f = f (g k) := by
  rw [zli, e]
  show (if t = t ∧ zin (nI k) m = true then f (g (nI k).toNatClampNeg) else none) = _
  rw [if_pos ⟨rfl, decide_eq_true (vp_in_nI hk hm)⟩, nI_clamp (by omega)]
theorem lj_c {H : zH} {m k : Nat} {g : Nat → Int64} (e : H.2.2 q = .inl (1, m, .inr (.inl g))) (hk : k < m) (hm : m < 2 ^ 31) (f : Int64 → Option β) : zlj H q (nI k) f = f (g k) := by
  rw [zlj, e]
  show (if 1 = 1 ∧ zin (nI k) m = true then f (g (nI k).toNatClampNeg) else none) = _
  rw [if_pos ⟨rfl, decide_eq_true (vp_in_nI hk hm)⟩, nI_clamp (by omega)]
theorem lq_c {H : zH} {t m k : Nat} {g : Nat → Option Nat} (e : H.2.2 q = .inl (t, m, .inr (.inr (.inr (.inr g))))) (ht : 4 ≤ t ∧ t < 8) (hk : k < m) (hm : m < 2 ^ 31) (f : Option Nat → Option β) : zlq H q (nI k) f = f (g k) := by
  rw [zlq, e]
  show (if (4 ≤ t ∧ t < 8) ∧ zin (nI k) m = true then f (g (nI k).toNatClampNeg) else none) = _
  rw [if_pos ⟨ht, decide_eq_true (vp_in_nI hk hm)⟩, nI_clamp (by omega)]
theorem pf_c {H : zH} {ci k : Nat} {fs : List Value} {v : Value} (e : H.2.2 q = .inr (ci, fs)) (hk : k < fs.length) (hq : 100 ≤ q) (hf : zfit ((ztl.getD ci (fun _ => .int)) k) v = true) (f : zH → Option β) : zpf H q ci k v f = f (zset H q (.inr (ci, fs.set k v))) := by
  rw [zpf, e]
  exact if_pos ⟨rfl, hk, hq, hf⟩
theorem si_c {H : zH} {t m k : Nat} {g : Nat → Int32} (e : H.2.2 q = .inl (t, m, .inl g)) (hk : k < m) (hm : m < 2 ^ 31) (hq : 100 ≤ q) (x : Int32) (f : zH → Option β) : zsi H q t (nI k) x f = f (zset H q (.inl (t, m, .inl (upd g k x)))) := by
  rw [zsi, e]
  show (if t = t ∧ zin (nI k) m = true ∧ 100 ≤ q then f (zset H q (.inl (t, m, .inl (upd g (nI k).toNatClampNeg x)))) else none) = _
  rw [if_pos ⟨rfl, decide_eq_true (vp_in_nI hk hm), hq⟩, nI_clamp (by omega)]
theorem sj_c {H : zH} {m k : Nat} {g : Nat → Int64} (e : H.2.2 q = .inl (1, m, .inr (.inl g))) (hk : k < m) (hm : m < 2 ^ 31) (hq : 100 ≤ q) (x : Int64) (f : zH → Option β) : zsj H q (nI k) x f = f (zset H q (.inl (1, m, .inr (.inl (vp_updL g k x))))) := by
  rw [zsj, e]
  show (if 1 = 1 ∧ zin (nI k) m = true ∧ 100 ≤ q then f (zset H q (.inl (1, m, .inr (.inl (vp_updL g (nI k).toNatClampNeg x))))) else none) = _
  rw [if_pos ⟨rfl, decide_eq_true (vp_in_nI hk hm), hq⟩, nI_clamp (by omega)]
theorem sq_c {H : zH} {t m k b : Nat} {g : Nat → Option Nat} (e : H.2.2 q = .inl (t, m, .inr (.inr (.inr (.inr g))))) (ht : 4 ≤ t ∧ t < 8) (hk : k < m) (hm : m < 2 ^ 31) (hq : 100 ≤ q) (hb : zotg (zkd H b) = t) (f : zH → Option β) : zsq H q (nI k) (.ref b) f = f (zset H q (.inl (t, m, .inr (.inr (.inr (.inr (va_up g k (some b)))))))) := by
  rw [zsq, e]
  show (if (4 ≤ t ∧ t < 8) ∧ zin (nI k) m = true ∧ 100 ≤ q then (if zotg (zkd H b) = t then f (zset H q (.inl (t, m, .inr (.inr (.inr (.inr (va_up g (nI k).toNatClampNeg (some b)))))))) else none) else none) = _
  rw [if_pos ⟨ht, decide_eq_true (vp_in_nI hk hm), hq⟩, if_pos hb, nI_clamp (by omega)]
theorem sn_c {H : zH} {t m k : Nat} {g : Nat → Option Nat} (e : H.2.2 q = .inl (t, m, .inr (.inr (.inr (.inr g))))) (ht : 4 ≤ t ∧ t < 8) (hk : k < m) (hm : m < 2 ^ 31) (hq : 100 ≤ q) (f : zH → Option β) : zsq H q (nI k) .null f = f (zset H q (.inl (t, m, .inr (.inr (.inr (.inr (va_up g k none))))))) := by
  rw [zsq, e]
  show (if (4 ≤ t ∧ t < 8) ∧ zin (nI k) m = true ∧ 100 ≤ q then f (zset H q (.inl (t, m, .inr (.inr (.inr (.inr (va_up g (nI k).toNatClampNeg none))))))) else none) = _
  rw [if_pos ⟨ht, decide_eq_true (vp_in_nI hk hm), hq⟩, nI_clamp (by omega)]
/-- copies of whole stretches of ints and longs -/
theorem cpI_c {H : zH} {s d n1 n2 n sp dp : Nat} {g1 g2 : Nat → Int32} (e1 : H.2.2 s = .inl (0, n1, .inl g1)) (e2 : H.2.2 d = .inl (0, n2, .inl g2)) (hd : 100 ≤ d) (h1 : sp + n ≤ n1) (h2 : dp + n ≤ n2) (hm1 : n1 < 2 ^ 31) (hm2 : n2 < 2 ^ 31) (f : zH → Option β) : zcpI H s (nI sp) d (nI dp) (nI n) f = f (zset H d (.inl (0, n2, .inl (va_cpy g1 g2 sp dp n)))) := by
  rw [zcpI, e1, e2]
  have k1 := nI_clamp (n := sp) (by omega)
  have k2 := nI_clamp (n := dp) (by omega)
  have k3 := nI_clamp (n := n) (by omega)
  refine (if_pos ⟨rfl, Or.inl rfl, hd, nI_pos (by omega), nI_pos (by omega), nI_pos (by omega), by rw [k1, k3]; exact h1, by rw [k2, k3]; exact h2⟩).trans ?_
  rw [k1, k2, k3]
theorem cpJ_c {H : zH} {s d n1 n2 n sp dp : Nat} {g1 g2 : Nat → Int64} (e1 : H.2.2 s = .inl (1, n1, .inr (.inl g1))) (e2 : H.2.2 d = .inl (1, n2, .inr (.inl g2))) (hs : 100 ≤ s) (hd : 100 ≤ d) (h1 : sp + n ≤ n1) (h2 : dp + n ≤ n2) (hm1 : n1 < 2 ^ 31) (hm2 : n2 < 2 ^ 31) (f : zH → Option β) : zcpI H s (nI sp) d (nI dp) (nI n) f = f (zset H d (.inl (1, n2, .inr (.inl (va_cpy g1 g2 sp dp n))))) := by
  rw [zcpI, e1, e2]
  have k1 := nI_clamp (n := sp) (by omega)
  have k2 := nI_clamp (n := dp) (by omega)
  have k3 := nI_clamp (n := n) (by omega)
  refine (if_pos ⟨rfl, rfl, hs, hd, nI_pos (by omega), nI_pos (by omega), nI_pos (by omega), by rw [k1, k3]; exact h1, by rw [k2, k3]; exact h2⟩).trans ?_
  rw [k1, k2, k3]
end
