/-! BOOKS: closing the next month -/
section
variable {h H : zH} {b c e n : Nat} {s : tyB} {du : tyD}
theorem blk_lo {a n : Nat} {c0 : Nat → zC} {k z : Nat} : blk a n c0 (alc h k z) = alc (blk a n c0 h) k z := rfl
theorem isB_alc {a n : Nat} {c0 : Nat → zC} {k z : Nat} (hB : isB h a n c0) : isB (alc h k z) a n c0 := hB
/-- one employee: the slip at q, made before -/
theorem B_close {q : Nat} {d : tyS} {f : Int32} {m ng : Nat} (hB : isB H b 37 (cB b s)) (hD : isB H c 2 (cD c du)) (hS : isB H q 3 (cS q d)) (hb : 100 ≤ b) (hc : 100 ≤ c) (hq : 100 ≤ q) (j1 : b + 37 ≤ c ∨ c + 2 ≤ b) (j2 : b + 37 ≤ q ∨ q + 3 ≤ b) (j3 : c + 2 ≤ q ∨ q + 3 ≤ c) (he : e < 3) (hm : m < 12) (hn : n ≤ 5) (hbn : gR_bn (gB_ru s) = nI n) (hng : ng ≤ 3) (hg : gW_gc (gB_wk s e) = nI ng) (hL : isL d []) :
    ∃ d', ev 59 [.ref c, .ref (b + 7 + 10 * e), .int (nI m), .ref (b + 2), .int f, .ref q] H = some (none, blk q 3 (cS q d') (blk b 37 (cB b (sB_w s e (pW3 (gB_wk s e) (pDues (gB_ru s) n (gB_wk s e) 60 du) m f ng))) (blk c 2 (cD c (pDues (gB_ru s) n (gB_wk s e) 60 du)) H))) ∧ isL d' (pL5 (gB_wk s e) (pDues (gB_ru s) n (gB_wk s e) 60 du) m f ng) := by
  obtain ⟨d', e1, hL'⟩ := s_close (q := q) (a := b + 7 + 10 * e) (c := c) (r := b + 2) (h := H) (w := gB_wk s e) (du := du) (f := f) ⟨by omega, by omega, by omega, by omega, by omega, by omega⟩ hq (by omega) hc hm (B_R hB) hn hbn hng hg hL
  refine ⟨d', ?_, hL'⟩
  have k1 : zZ q (b + 7 + 10 * e) c d (gB_wk s e) du H = H := by
    unfold zZ
    rw [blk_id hD, B_idW hB he, blk_id hS]
  rw [k1] at e1
  rw [e1]
  unfold zZ
  have hB2 : isB (blk c 2 (cD c (pDues (gB_ru s) n (gB_wk s e) 60 du)) H) b 37 (cB b s) := isB_skip (by omega) hB
  rw [B_putW hB2 he]
end
