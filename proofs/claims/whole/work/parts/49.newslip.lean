/-! NEW slips -/
section
variable {h H : zH}
def nS : tyS := (fun _ => 0, fun _ => 0, nI 0, 0)
theorem isL_nS : isL nS [] := by
  refine ⟨?_, ?_, ?_, ?_⟩
  all_goals first | rfl | (simp [nS]; done) | skip
theorem s_newSlip : ev 10 [.ref (100 + h.1)] (blk (100 + h.1) 1 (ce1 (.inr (7, [.null, .null, .int 0, .long 0]))) (alc h 1 4)) = some (none, blk (100 + h.1) 3 (cS (100 + h.1) nS) (alc h 3 220)) := by
  simp (implicitDefEqProofs := false) (disch := omega) only [ze_10, zr_10_0, zr_10_1, zr_10_4, zr_10_5, zr_10_8, zr_10_10, zr_10_13, zr_10_14, zr_10_16, zr_10_18, zr_10_21, zr_10_22, zr_10_23, zr_10_26, zr_10_27, zr_10_28, zr_10_31, true_or, or_true, true_and, and_true, if_true, if_false, ldA_ref, ldA_null, nl_int, nl_ref, nl_fl, nl_null, c1_int, c1_ref, c1_null, zcall_some, zpush_some, zpush_none, zsum_ref, zsum_int, zsum_long, zsum_nil, zsum_null, Nat.reduceAdd, Nat.reduceLeDiff, if_true, znew_b, alc_1, alc_blk, alc_alc, blk_1, ← Nat.add_assoc, Nat.reduceAdd, Nat.add_zero, mkA_ok, nI_clamp, pf_skip, pf1_7_0, pf1_7_1, pf1_7_2, pf1_7_3, kd1_7]
  simp only [blk_snoc, Nat.reduceAdd]
  refine congrArg (fun x => some (none, x)) (blk_congr fun k hk => ?_)
  match k, hk with
  | 0, _ => rfl
  | 1, _ => rfl
  | 2, _ => rfl
  | k + 3, h => omega
end
