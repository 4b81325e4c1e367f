-- Model.at
theorem zr_208 : (∀ (l0 l1 : Value) (S : List Value) (h : zH), rn 208 0 [l0, l1] S h = rn 208 2 [l0, l1] (.int (nI 18) :: S) h) ∧
  (∀ (l0 l1 : Value) (S : List Value) (h : zH), rn 208 2 [l0, l1] S h = rn 208 5 [l0, l1] (.int (nI 2751) :: S) h) ∧
  (∀ (l1 : Value) (x : Int32) (S : List Value) (h : zH), rn 208 5 [.int x, l1] S h = rn 208 6 [.int x, l1] (.int x :: S) h) ∧
  (∀ (l0 l1 : Value) (x : Int32) (y : Int32) (S : List Value) (h : zH), rn 208 6 [l0, l1] (.int y :: .int x :: S) h = rn 208 7 [l0, l1] (.int (x * y) :: S) h) ∧
  (∀ (l0 l1 : Value) (x : Int32) (y : Int32) (S : List Value) (h : zH), rn 208 7 [l0, l1] (.int y :: .int x :: S) h = rn 208 8 [l0, l1] (.int (x + y) :: S) h) ∧
  (∀ (l0 : Value) (x : Int32) (S : List Value) (h : zH), rn 208 8 [l0, .int x] S h = rn 208 9 [l0, .int x] (.int x :: S) h) ∧
  (∀ (l0 l1 : Value) (x : Int32) (y : Int32) (S : List Value) (h : zH), rn 208 9 [l0, l1] (.int y :: .int x :: S) h = rn 208 10 [l0, l1] (.int (x + y) :: S) h) ∧
  (∀ (l0 l1 : Value) (x : Int32) (h : zH), rn 208 10 [l0, l1] [.int x] h = some (some (.int x), h)) := ⟨fun _ _ _ _ => r_bipush (show zdec 208 0 = some (.bipush 18, 2) by decide +kernel) rfl rfl,
  fun _ _ _ _ => r_sipush (show zdec 208 2 = some (.sipush 2751, 3) by decide +kernel) rfl rfl,
  fun _ _ _ _ => r_iload_n (show zdec 208 5 = some (.iload_n 0, 1) by decide +kernel) rfl rfl,
  fun _ _ _ _ _ _ => r_imul (show zdec 208 6 = some (.imul, 1) by decide +kernel) rfl,
  fun _ _ _ _ _ _ => r_iadd (show zdec 208 7 = some (.iadd, 1) by decide +kernel) rfl,
  fun _ _ _ _ => r_iload_n (show zdec 208 8 = some (.iload_n 1, 1) by decide +kernel) rfl rfl,
  fun _ _ _ _ _ _ => r_iadd (show zdec 208 9 = some (.iadd, 1) by decide +kernel) rfl,
  fun _ _ _ _ => r_ireti (show zdec 208 10 = some (.ireturn, 1) by decide +kernel) (by decide +kernel)⟩
theorem ze_208 : ∀ (a0 : Int32) (a1 : Int32) (h : zH), ev 208 [.int a0, .int a1] h = rn 208 0 [.int a0, .int a1] [] h := fun _ _ _ => rfl
-- Model.of
theorem zr_226 : (∀ (l1 l2 : Value) (x : Nat) (S : List Value) (h : zH), rn 226 0 [.ref x, l1, l2] S h = rn 226 1 [.ref x, l1, l2] (.ref x :: S) h) ∧
  (∀ (l0 l1 l2 : Value) (a : Nat) (S : List Value) (h : zH), rn 226 1 [l0, l1, l2] (.ref a :: S) h = zgf h a 12 0 fun v => rn 226 4 [l0, l1, l2] (v :: S) h) ∧
  (∀ (l0 l2 : Value) (x : Int32) (S : List Value) (h : zH), rn 226 4 [l0, .int x, l2] S h = rn 226 5 [l0, .int x, l2] (.int x :: S) h) ∧
  (∀ (l0 l1 : Value) (x : Int32) (S : List Value) (h : zH), rn 226 5 [l0, l1, .int x] S h = rn 226 6 [l0, l1, .int x] (.int x :: S) h) ∧
  (∀ (l0 l1 l2 : Value) (v0 : Value) (v1 : Value) (S : List Value) (h : zH), rn 226 6 [l0, l1, l2] (v1 :: v0 :: S) h = if zsum S ≤ 8 then zcall (ev 208 [v0, v1] h) (fun v h => rn 226 9 [l0, l1, l2] (zpush v S) h) else none) ∧
  (∀ (l0 l1 l2 : Value) (a : Nat) (j : Int32) (S : List Value) (h : zH), rn 226 9 [l0, l1, l2] (.int j :: .ref a :: S) h = zlj h a j fun x => rn 226 10 [l0, l1, l2] (.long x :: S) h) ∧
  (∀ (l0 l1 l2 : Value) (x : Int64) (h : zH), rn 226 10 [l0, l1, l2] [.long x] h = some (some (.long x), h)) := ⟨fun _ _ _ _ _ => r_aload_nr (show zdec 226 0 = some (.aload_n 0, 1) by decide +kernel) rfl rfl,
  fun _ _ _ _ _ _ => r_getfield (show zdec 226 1 = some (.getfield 9, 3) by decide +kernel) (show zft.lookup (226 * zKEY + 9) = some (12, 0, 1239) by decide +kernel) rfl,
  fun _ _ _ _ _ => r_iload_n (show zdec 226 4 = some (.iload_n 1, 1) by decide +kernel) rfl rfl,
  fun _ _ _ _ _ => r_iload_n (show zdec 226 5 = some (.iload_n 2, 1) by decide +kernel) rfl rfl,
  fun _ _ _ _ _ _ _ => r_cS [_, _] rfl (show zdec 226 6 = some (.invokestatic 39, 3) by decide +kernel) (show zst.lookup (226 * zKEY + 39) = some (0, 208, 2, 0, [1235, 1236, 77]) by decide +kernel) (by decide) rfl,
  fun _ _ _ _ _ _ _ => r_lald (show zdec 226 9 = some (.laload, 1) by decide +kernel) rfl,
  fun _ _ _ _ _ => r_lret (show zdec 226 10 = some (.lreturn, 1) by decide +kernel) (by decide +kernel)⟩
theorem ze_226 : ∀ (a0 : Nat) (a1 : Int32) (a2 : Int32) (h : zH), ev 226 [.ref a0, .int a1, .int a2] h = rn 226 0 [.ref a0, .int a1, .int a2] [] h := fun _ _ _ _ => rfl
-- Model.in
theorem zr_211 : (∀ (l1 l2 : Value) (x : Int32) (S : List Value) (h : zH), rn 211 0 [.int x, l1, l2] S h = rn 211 1 [.int x, l1, l2] (.int x :: S) h) ∧
  (∀ (l0 l2 : Value) (x : Int32) (S : List Value) (h : zH), rn 211 1 [l0, .int x, l2] S h = rn 211 2 [l0, .int x, l2] (.int x :: S) h) ∧
  (∀ (l0 l1 l2 : Value) (x : Int32) (y : Int32) (S : List Value) (h : zH), rn 211 2 [l0, l1, l2] (.int y :: .int x :: S) h = if x < y then rn 211 14 [l0, l1, l2] S h else rn 211 5 [l0, l1, l2] S h) ∧
  (∀ (l1 l2 : Value) (x : Int32) (S : List Value) (h : zH), rn 211 5 [.int x, l1, l2] S h = rn 211 6 [.int x, l1, l2] (.int x :: S) h) ∧
  (∀ (l0 l1 : Value) (x : Int32) (S : List Value) (h : zH), rn 211 6 [l0, l1, .int x] S h = rn 211 7 [l0, l1, .int x] (.int x :: S) h) ∧
  (∀ (l0 l1 l2 : Value) (x : Int32) (y : Int32) (S : List Value) (h : zH), rn 211 7 [l0, l1, l2] (.int y :: .int x :: S) h = if y < x then rn 211 14 [l0, l1, l2] S h else rn 211 10 [l0, l1, l2] S h) ∧
  (∀ (l0 l1 l2 : Value) (S : List Value) (h : zH), rn 211 10 [l0, l1, l2] S h = rn 211 11 [l0, l1, l2] (.int (nI 1) :: S) h) ∧
  (∀ (l0 l1 l2 : Value) (S : List Value) (h : zH), rn 211 11 [l0, l1, l2] S h = rn 211 15 [l0, l1, l2] S h) ∧
  (∀ (l0 l1 l2 : Value) (S : List Value) (h : zH), rn 211 14 [l0, l1, l2] S h = rn 211 15 [l0, l1, l2] (.int (nI 0) :: S) h) ∧
  (∀ (l0 l1 l2 : Value) (x : Int32) (h : zH), rn 211 15 [l0, l1, l2] [.int x] h = if x = nI 0 ∨ x = nI 1 then some (some (.int x), h) else none) := ⟨fun _ _ _ _ _ => r_iload_n (show zdec 211 0 = some (.iload_n 0, 1) by decide +kernel) rfl rfl,
  fun _ _ _ _ _ => r_iload_n (show zdec 211 1 = some (.iload_n 1, 1) by decide +kernel) rfl rfl,
  fun _ _ _ _ _ _ _ => r_icmplt (show zdec 211 2 = some (.if_icmp .lt 12, 3) by decide +kernel) rfl rfl,
  fun _ _ _ _ _ => r_iload_n (show zdec 211 5 = some (.iload_n 0, 1) by decide +kernel) rfl rfl,
  fun _ _ _ _ _ => r_iload_n (show zdec 211 6 = some (.iload_n 2, 1) by decide +kernel) rfl rfl,
  fun _ _ _ _ _ _ _ => r_icmpgt (show zdec 211 7 = some (.if_icmp .gt 7, 3) by decide +kernel) rfl rfl,
  fun _ _ _ _ _ => r_iconst (show zdec 211 10 = some (.iconst 1, 1) by decide +kernel) rfl rfl,
  fun _ _ _ _ _ => r_goto (show zdec 211 11 = some (.goto 4, 3) by decide +kernel) rfl,
  fun _ _ _ _ _ => r_iconst (show zdec 211 14 = some (.iconst 0, 1) by decide +kernel) rfl rfl,
  fun _ _ _ _ _ => r_iretb (show zdec 211 15 = some (.ireturn, 1) by decide +kernel) (by decide +kernel)⟩
theorem ze_211 : ∀ (a0 : Int32) (a1 : Int32) (a2 : Int32) (h : zH), ev 211 [.int a0, .int a1, .int a2] h = rn 211 0 [.int a0, .int a1, .int a2] [] h := fun _ _ _ _ => rfl
-- Model.contribution
theorem zr_241 : (∀ (l1 l2 l3 : Value) (x : Nat) (S : List Value) (h : zH), rn 241 0 [.ref x, l1, l2, l3] S h = rn 241 1 [.ref x, l1, l2, l3] (.ref x :: S) h) ∧
  (∀ (l0 l1 l2 l3 : Value) (a : Nat) (S : List Value) (h : zH), rn 241 1 [l0, l1, l2, l3] (.ref a :: S) h = zgf h a 12 0 fun v => rn 241 4 [l0, l1, l2, l3] (v :: S) h) ∧
  (∀ (l0 l1 l2 l3 : Value) (S : List Value) (h : zH), rn 241 4 [l0, l1, l2, l3] S h = rn 241 5 [l0, l1, l2, l3] (.int (nI 3) :: S) h) ∧
  (∀ (l0 l2 l3 : Value) (x : Int32) (S : List Value) (h : zH), rn 241 5 [l0, .int x, l2, l3] S h = rn 241 6 [l0, .int x, l2, l3] (.int x :: S) h) ∧
  (∀ (l0 l1 l2 l3 : Value) (x : Int32) (y : Int32) (S : List Value) (h : zH), rn 241 6 [l0, l1, l2, l3] (.int y :: .int x :: S) h = rn 241 7 [l0, l1, l2, l3] (.int (x + y) :: S) h) ∧
  (∀ (l0 l1 l2 l3 : Value) (a : Nat) (j : Int32) (S : List Value) (h : zH), rn 241 7 [l0, l1, l2, l3] (.int j :: .ref a :: S) h = zlj h a j fun x => rn 241 8 [l0, l1, l2, l3] (.long x :: S) h) ∧
  (∀ (l0 l1 l3 : Value) (x : Int64) (S : List Value) (h : zH), rn 241 8 [l0, l1, .long x, l3] S h = rn 241 9 [l0, l1, .long x, l3] (.long x :: S) h) ∧
  (∀ (l1 l2 l3 : Value) (x : Nat) (S : List Value) (h : zH), rn 241 9 [.ref x, l1, l2, l3] S h = rn 241 10 [.ref x, l1, l2, l3] (.ref x :: S) h) ∧
  (∀ (l0 l1 l2 l3 : Value) (a : Nat) (S : List Value) (h : zH), rn 241 10 [l0, l1, l2, l3] (.ref a :: S) h = zgf h a 12 0 fun v => rn 241 13 [l0, l1, l2, l3] (v :: S) h) ∧
  (∀ (l0 l1 l2 l3 : Value) (S : List Value) (h : zH), rn 241 13 [l0, l1, l2, l3] S h = rn 241 14 [l0, l1, l2, l3] (.int (nI 5) :: S) h) ∧
  (∀ (l0 l2 l3 : Value) (x : Int32) (S : List Value) (h : zH), rn 241 14 [l0, .int x, l2, l3] S h = rn 241 15 [l0, .int x, l2, l3] (.int x :: S) h) ∧
  (∀ (l0 l1 l2 l3 : Value) (x : Int32) (y : Int32) (S : List Value) (h : zH), rn 241 15 [l0, l1, l2, l3] (.int y :: .int x :: S) h = rn 241 16 [l0, l1, l2, l3] (.int (x + y) :: S) h) ∧
  (∀ (l0 l1 l2 l3 : Value) (a : Nat) (j : Int32) (S : List Value) (h : zH), rn 241 16 [l0, l1, l2, l3] (.int j :: .ref a :: S) h = zlj h a j fun x => rn 241 17 [l0, l1, l2, l3] (.long x :: S) h) ∧
  (∀ (l0 l1 l2 l3 : Value) (v0 : Value) (v1 : Value) (S : List Value) (h : zH), rn 241 17 [l0, l1, l2, l3] (v1 :: v0 :: S) h = if zsum S ≤ 8 then zcall (ev 72 [v0, v1] h) (fun v h => rn 241 20 [l0, l1, l2, l3] (zpush v S) h) else none) ∧
  (∀ (l0 l1 l2 l3 : Value) (x : Int64) (y : Int64) (S : List Value) (h : zH), rn 241 20 [l0, l1, l2, l3] (.long y :: .long x :: S) h = rn 241 21 [l0, l1, l2, l3] (.long (x * y) :: S) h) ∧
  (∀ (l0 l1 l2 l3 : Value) (S : List Value) (h : zH), rn 241 21 [l0, l1, l2, l3] S h = rn 241 24 [l0, l1, l2, l3] (.long (1000) :: S) h) ∧
  (∀ (l0 l1 l2 l3 : Value) (x : Int64) (y : Int64) (S : List Value) (h : zH), rn 241 24 [l0, l1, l2, l3] (.long y :: .long x :: S) h = rn 241 25 [l0, l1, l2, l3] (.long (x * y) :: S) h) ∧
  (∀ (l0 l1 l2 l3 : Value) (x : Int64) (h : zH), rn 241 25 [l0, l1, l2, l3] [.long x] h = some (some (.long x), h)) := ⟨fun _ _ _ _ _ _ => r_aload_nr (show zdec 241 0 = some (.aload_n 0, 1) by decide +kernel) rfl rfl,
  fun _ _ _ _ _ _ _ => r_getfield (show zdec 241 1 = some (.getfield 9, 3) by decide +kernel) (show zft.lookup (241 * zKEY + 9) = some (12, 0, 1239) by decide +kernel) rfl,
  fun _ _ _ _ _ _ => r_iconst (show zdec 241 4 = some (.iconst 3, 1) by decide +kernel) rfl rfl,
  fun _ _ _ _ _ _ => r_iload_n (show zdec 241 5 = some (.iload_n 1, 1) by decide +kernel) rfl rfl,
  fun _ _ _ _ _ _ _ _ => r_iadd (show zdec 241 6 = some (.iadd, 1) by decide +kernel) rfl,
  fun _ _ _ _ _ _ _ _ => r_lald (show zdec 241 7 = some (.laload, 1) by decide +kernel) rfl,
  fun _ _ _ _ _ _ => r_lload_n (show zdec 241 8 = some (.lload_n 2, 1) by decide +kernel) rfl rfl,
  fun _ _ _ _ _ _ => r_aload_nr (show zdec 241 9 = some (.aload_n 0, 1) by decide +kernel) rfl rfl,
  fun _ _ _ _ _ _ _ => r_getfield (show zdec 241 10 = some (.getfield 9, 3) by decide +kernel) (show zft.lookup (241 * zKEY + 9) = some (12, 0, 1239) by decide +kernel) rfl,
  fun _ _ _ _ _ _ => r_iconst (show zdec 241 13 = some (.iconst 5, 1) by decide +kernel) rfl rfl,
  fun _ _ _ _ _ _ => r_iload_n (show zdec 241 14 = some (.iload_n 1, 1) by decide +kernel) rfl rfl,
  fun _ _ _ _ _ _ _ _ => r_iadd (show zdec 241 15 = some (.iadd, 1) by decide +kernel) rfl,
  fun _ _ _ _ _ _ _ _ => r_lald (show zdec 241 16 = some (.laload, 1) by decide +kernel) rfl,
  fun _ _ _ _ _ _ _ _ => r_cS [_, _] rfl (show zdec 241 17 = some (.invokestatic 106, 3) by decide +kernel) (show zst.lookup (241 * zKEY + 106) = some (0, 72, 2, 0, [1418, 638, 79]) by decide +kernel) (by decide) rfl,
  fun _ _ _ _ _ _ _ _ => r_lmul (show zdec 241 20 = some (.lmul, 1) by decide +kernel) rfl,
  fun _ _ _ _ _ _ => r_ldc2 (show zdec 241 21 = some (.ldc2_w 112, 3) by decide +kernel) (show zlt.lookup (241 * zKEY + 112) = some (1000, 1419) by decide +kernel) rfl,
  fun _ _ _ _ _ _ _ _ => r_lmul (show zdec 241 24 = some (.lmul, 1) by decide +kernel) rfl,
  fun _ _ _ _ _ _ => r_lret (show zdec 241 25 = some (.lreturn, 1) by decide +kernel) (by decide +kernel)⟩
theorem ze_241 : ∀ (a0 : Nat) (a1 : Int32) (a2 : Int64) (h : zH), ev 241 [.ref a0, .int a1, .long a2] h = rn 241 0 [.ref a0, .int a1, .long a2, .float 0] [] h := fun _ _ _ _ => rfl
-- Model.tax
theorem zr_242 : (∀ (l0 l1 l2 l3 l4 l5 l6 l7 l8 l9 l10 l11 : Value) (S : List Value) (h : zH), rn 242 0 [l0, l1, l2, l3, l4, l5, l6, l7, l8, l9, l10, l11] S h = rn 242 3 [l0, l1, l2, l3, l4, l5, l6, l7, l8, l9, l10, l11] (.long (1000) :: S) h) ∧
  (∀ (l0 l2 l3 l4 l5 l6 l7 l8 l9 l10 l11 : Value) (x : Int64) (S : List Value) (h : zH), rn 242 3 [l0, .long x, l2, l3, l4, l5, l6, l7, l8, l9, l10, l11] S h = rn 242 4 [l0, .long x, l2, l3, l4, l5, l6, l7, l8, l9, l10, l11] (.long x :: S) h) ∧
  (∀ (l0 l1 l2 l3 l4 l5 l6 l7 l8 l9 l10 l11 : Value) (x : Int64) (y : Int64) (S : List Value) (h : zH), rn 242 4 [l0, l1, l2, l3, l4, l5, l6, l7, l8, l9, l10, l11] (.long y :: .long x :: S) h = rn 242 5 [l0, l1, l2, l3, l4, l5, l6, l7, l8, l9, l10, l11] (.long (x * y) :: S) h) ∧
  (∀ (l1 l2 l3 l4 l5 l6 l7 l8 l9 l10 l11 : Value) (x : Nat) (S : List Value) (h : zH), rn 242 5 [.ref x, l1, l2, l3, l4, l5, l6, l7, l8, l9, l10, l11] S h = rn 242 6 [.ref x, l1, l2, l3, l4, l5, l6, l7, l8, l9, l10, l11] (.ref x :: S) h) ∧
  (∀ (l0 l1 l2 l3 l4 l5 l6 l7 l8 l9 l10 l11 : Value) (S : List Value) (h : zH), rn 242 6 [l0, l1, l2, l3, l4, l5, l6, l7, l8, l9, l10, l11] S h = rn 242 7 [l0, l1, l2, l3, l4, l5, l6, l7, l8, l9, l10, l11] (.int (nI 0) :: S) h) ∧
  (∀ (l0 l2 l3 l4 l5 l6 l7 l8 l9 l10 l11 : Value) (x : Int64) (S : List Value) (h : zH), rn 242 7 [l0, .long x, l2, l3, l4, l5, l6, l7, l8, l9, l10, l11] S h = rn 242 8 [l0, .long x, l2, l3, l4, l5, l6, l7, l8, l9, l10, l11] (.long x :: S) h) ∧
  (∀ (l0 l1 l2 l3 l4 l5 l6 l7 l8 l9 l10 l11 : Value) (o : Nat) (v0 : Value) (v1 : Value) (S : List Value) (h : zH), rn 242 8 [l0, l1, l2, l3, l4, l5, l6, l7, l8, l9, l10, l11] (v1 :: v0 :: .ref o :: S) h = if zkd h o = 12 ∧ zsum S ≤ 8 then zcall (ev 241 [.ref o, v0, v1] h) (fun v h => rn 242 11 [l0, l1, l2, l3, l4, l5, l6, l7, l8, l9, l10, l11] (zpush v S) h) else none) ∧
  (∀ (l1 l2 l3 l4 l5 l6 l7 l8 l9 l10 l11 : Value) (x : Nat) (S : List Value) (h : zH), rn 242 11 [.ref x, l1, l2, l3, l4, l5, l6, l7, l8, l9, l10, l11] S h = rn 242 12 [.ref x, l1, l2, l3, l4, l5, l6, l7, l8, l9, l10, l11] (.ref x :: S) h) ∧
  (∀ (l0 l1 l2 l3 l4 l5 l6 l7 l8 l9 l10 l11 : Value) (S : List Value) (h : zH), rn 242 12 [l0, l1, l2, l3, l4, l5, l6, l7, l8, l9, l10, l11] S h = rn 242 13 [l0, l1, l2, l3, l4, l5, l6, l7, l8, l9, l10, l11] (.int (nI 1) :: S) h) ∧
  (∀ (l0 l2 l3 l4 l5 l6 l7 l8 l9 l10 l11 : Value) (x : Int64) (S : List Value) (h : zH), rn 242 13 [l0, .long x, l2, l3, l4, l5, l6, l7, l8, l9, l10, l11] S h = rn 242 14 [l0, .long x, l2, l3, l4, l5, l6, l7, l8, l9, l10, l11] (.long x :: S) h) ∧
  (∀ (l0 l1 l2 l3 l4 l5 l6 l7 l8 l9 l10 l11 : Value) (o : Nat) (v0 : Value) (v1 : Value) (S : List Value) (h : zH), rn 242 14 [l0, l1, l2, l3, l4, l5, l6, l7, l8, l9, l10, l11] (v1 :: v0 :: .ref o :: S) h = if zkd h o = 12 ∧ zsum S ≤ 8 then zcall (ev 241 [.ref o, v0, v1] h) (fun v h => rn 242 17 [l0, l1, l2, l3, l4, l5, l6, l7, l8, l9, l10, l11] (zpush v S) h) else none) ∧
  (∀ (l0 l1 l2 l3 l4 l5 l6 l7 l8 l9 l10 l11 : Value) (x : Int64) (y : Int64) (S : List Value) (h : zH), rn 242 17 [l0, l1, l2, l3, l4, l5, l6, l7, l8, l9, l10, l11] (.long y :: .long x :: S) h = rn 242 18 [l0, l1, l2, l3, l4, l5, l6, l7, l8, l9, l10, l11] (.long (x + y) :: S) h) ∧
  (∀ (l0 l1 l2 l3 l4 l5 l6 l7 l8 l9 l10 l11 : Value) (S : List Value) (h : zH), rn 242 18 [l0, l1, l2, l3, l4, l5, l6, l7, l8, l9, l10, l11] S h = rn 242 21 [l0, l1, l2, l3, l4, l5, l6, l7, l8, l9, l10, l11] (.long (1000) :: S) h) ∧
  (∀ (l0 l1 l2 l3 l4 l5 l6 l7 l8 l9 l10 l11 : Value) (x : Int64) (y : Int64) (S : List Value) (h : zH), rn 242 21 [l0, l1, l2, l3, l4, l5, l6, l7, l8, l9, l10, l11] (.long y :: .long x :: S) h = dvJ y (rn 242 22 [l0, l1, l2, l3, l4, l5, l6, l7, l8, l9, l10, l11] (.long (x / y) :: S) h)) ∧
  (∀ (l0 l1 l2 l3 l4 l5 l6 l7 l8 l9 l10 l11 : Value) (x : Int64) (y : Int64) (S : List Value) (h : zH), rn 242 22 [l0, l1, l2, l3, l4, l5, l6, l7, l8, l9, l10, l11] (.long y :: .long x :: S) h = rn 242 23 [l0, l1, l2, l3, l4, l5, l6, l7, l8, l9, l10, l11] (.long (x - y) :: S) h) ∧
  (∀ (l0 l1 l2 l3 l4 l5 l6 l7 l8 l9 l10 l11 : Value) (x : Int64) (S : List Value) (h : zH), rn 242 23 [l0, l1, l2, l3, l4, l5, l6, l7, l8, l9, l10, l11] (.long x :: S) h = nl l2 (rn 242 24 [l0, l1, l2, .long x, .float 0, l5, l6, l7, l8, l9, l10, l11] S h)) ∧
  (∀ (l0 l1 l2 l3 l4 l5 l6 l7 l8 l9 l10 l11 : Value) (S : List Value) (h : zH), rn 242 24 [l0, l1, l2, l3, l4, l5, l6, l7, l8, l9, l10, l11] S h = rn 242 25 [l0, l1, l2, l3, l4, l5, l6, l7, l8, l9, l10, l11] (.long 0 :: S) h) ∧
  (∀ (l0 l1 l2 l3 l4 l5 l6 l7 l8 l9 l10 l11 : Value) (x : Int64) (S : List Value) (h : zH), rn 242 25 [l0, l1, l2, l3, l4, l5, l6, l7, l8, l9, l10, l11] (.long x :: S) h = nl l4 (rn 242 27 [l0, l1, l2, l3, l4, .long x, .float 0, l7, l8, l9, l10, l11] S h)) ∧
  (∀ (l0 l1 l2 l3 l4 l5 l6 l7 l8 l9 l10 l11 : Value) (S : List Value) (h : zH), rn 242 27 [l0, l1, l2, l3, l4, l5, l6, l7, l8, l9, l10, l11] S h = rn 242 28 [l0, l1, l2, l3, l4, l5, l6, l7, l8, l9, l10, l11] (.int (nI 0) :: S) h) ∧
  (∀ (l0 l1 l2 l3 l4 l5 l6 l7 l8 l9 l10 l11 : Value) (x : Int32) (S : List Value) (h : zH), rn 242 28 [l0, l1, l2, l3, l4, l5, l6, l7, l8, l9, l10, l11] (.int x :: S) h = nl l6 (rn 242 30 [l0, l1, l2, l3, l4, l5, l6, .int x, l8, l9, l10, l11] S h)) ∧
  (∀ (l0 l1 l2 l3 l4 l5 l6 l8 l9 l10 l11 : Value) (x : Int32) (S : List Value) (h : zH), rn 242 30 [l0, l1, l2, l3, l4, l5, l6, .int x, l8, l9, l10, l11] S h = rn 242 32 [l0, l1, l2, l3, l4, l5, l6, .int x, l8, l9, l10, l11] (.int x :: S) h) ∧
  (∀ (l0 l1 l2 l3 l4 l5 l6 l7 l8 l9 l10 l11 : Value) (x : Int32) (S : List Value) (h : zH), rn 242 32 [l0, l1, l2, l3, l4, l5, l6, l7, l8, l9, l10, l11] (.int x :: S) h = rn 242 33 [l0, l1, l2, l3, l4, l5, l6, l7, l8, l9, l10, l11] (.long x.toInt64 :: S) h) ∧
  (∀ (l1 l2 l3 l4 l5 l6 l7 l8 l9 l10 l11 : Value) (x : Nat) (S : List Value) (h : zH), rn 242 33 [.ref x, l1, l2, l3, l4, l5, l6, l7, l8, l9, l10, l11] S h = rn 242 34 [.ref x, l1, l2, l3, l4, l5, l6, l7, l8, l9, l10, l11] (.ref x :: S) h) ∧
  (∀ (l0 l1 l2 l3 l4 l5 l6 l7 l8 l9 l10 l11 : Value) (a : Nat) (S : List Value) (h : zH), rn 242 34 [l0, l1, l2, l3, l4, l5, l6, l7, l8, l9, l10, l11] (.ref a :: S) h = zgf h a 12 0 fun v => rn 242 37 [l0, l1, l2, l3, l4, l5, l6, l7, l8, l9, l10, l11] (v :: S) h) ∧
  (∀ (l0 l1 l2 l3 l4 l5 l6 l7 l8 l9 l10 l11 : Value) (S : List Value) (h : zH), rn 242 37 [l0, l1, l2, l3, l4, l5, l6, l7, l8, l9, l10, l11] S h = rn 242 39 [l0, l1, l2, l3, l4, l5, l6, l7, l8, l9, l10, l11] (.int (nI 7) :: S) h) ∧
  (∀ (l0 l1 l2 l3 l4 l5 l6 l7 l8 l9 l10 l11 : Value) (a : Nat) (j : Int32) (S : List Value) (h : zH), rn 242 39 [l0, l1, l2, l3, l4, l5, l6, l7, l8, l9, l10, l11] (.int j :: .ref a :: S) h = zlj h a j fun x => rn 242 40 [l0, l1, l2, l3, l4, l5, l6, l7, l8, l9, l10, l11] (.long x :: S) h) ∧
  (∀ (l0 l1 l2 l3 l4 l5 l6 l7 l8 l9 l10 l11 : Value) (x : Int64) (y : Int64) (S : List Value) (h : zH), rn 242 40 [l0, l1, l2, l3, l4, l5, l6, l7, l8, l9, l10, l11] (.long y :: .long x :: S) h = rn 242 41 [l0, l1, l2, l3, l4, l5, l6, l7, l8, l9, l10, l11] (.int (lg_cmp x y) :: S) h) ∧
  (∀ (l0 l1 l2 l3 l4 l5 l6 l7 l8 l9 l10 l11 : Value) (x : Int32) (S : List Value) (h : zH), rn 242 41 [l0, l1, l2, l3, l4, l5, l6, l7, l8, l9, l10, l11] (.int x :: S) h = if nI 0 ≤ x then rn 242 133 [l0, l1, l2, l3, l4, l5, l6, l7, l8, l9, l10, l11] S h else rn 242 44 [l0, l1, l2, l3, l4, l5, l6, l7, l8, l9, l10, l11] S h) ∧
  (∀ (l0 l1 l2 l3 l4 l5 l6 l7 l8 l9 l10 l11 : Value) (S : List Value) (h : zH), rn 242 44 [l0, l1, l2, l3, l4, l5, l6, l7, l8, l9, l10, l11] S h = rn 242 47 [l0, l1, l2, l3, l4, l5, l6, l7, l8, l9, l10, l11] (.long (1000) :: S) h) ∧
  (∀ (l1 l2 l3 l4 l5 l6 l7 l8 l9 l10 l11 : Value) (x : Nat) (S : List Value) (h : zH), rn 242 47 [.ref x, l1, l2, l3, l4, l5, l6, l7, l8, l9, l10, l11] S h = rn 242 48 [.ref x, l1, l2, l3, l4, l5, l6, l7, l8, l9, l10, l11] (.ref x :: S) h) ∧
  (∀ (l0 l1 l2 l3 l4 l5 l6 l7 l8 l9 l10 l11 : Value) (a : Nat) (S : List Value) (h : zH), rn 242 48 [l0, l1, l2, l3, l4, l5, l6, l7, l8, l9, l10, l11] (.ref a :: S) h = zgf h a 12 0 fun v => rn 242 51 [l0, l1, l2, l3, l4, l5, l6, l7, l8, l9, l10, l11] (v :: S) h) ∧
  (∀ (l0 l1 l2 l3 l4 l5 l6 l7 l8 l9 l10 l11 : Value) (S : List Value) (h : zH), rn 242 51 [l0, l1, l2, l3, l4, l5, l6, l7, l8, l9, l10, l11] S h = rn 242 53 [l0, l1, l2, l3, l4, l5, l6, l7, l8, l9, l10, l11] (.int (nI 8) :: S) h) ∧
  (∀ (l0 l1 l2 l3 l4 l5 l6 l8 l9 l10 l11 : Value) (x : Int32) (S : List Value) (h : zH), rn 242 53 [l0, l1, l2, l3, l4, l5, l6, .int x, l8, l9, l10, l11] S h = rn 242 55 [l0, l1, l2, l3, l4, l5, l6, .int x, l8, l9, l10, l11] (.int x :: S) h) ∧
  (∀ (l0 l1 l2 l3 l4 l5 l6 l7 l8 l9 l10 l11 : Value) (x : Int32) (y : Int32) (S : List Value) (h : zH), rn 242 55 [l0, l1, l2, l3, l4, l5, l6, l7, l8, l9, l10, l11] (.int y :: .int x :: S) h = rn 242 56 [l0, l1, l2, l3, l4, l5, l6, l7, l8, l9, l10, l11] (.int (x + y) :: S) h) ∧
  (∀ (l0 l1 l2 l3 l4 l5 l6 l7 l8 l9 l10 l11 : Value) (a : Nat) (j : Int32) (S : List Value) (h : zH), rn 242 56 [l0, l1, l2, l3, l4, l5, l6, l7, l8, l9, l10, l11] (.int j :: .ref a :: S) h = zlj h a j fun x => rn 242 57 [l0, l1, l2, l3, l4, l5, l6, l7, l8, l9, l10, l11] (.long x :: S) h) ∧
  (∀ (l0 l1 l2 l3 l4 l5 l6 l7 l8 l9 l10 l11 : Value) (x : Int64) (y : Int64) (S : List Value) (h : zH), rn 242 57 [l0, l1, l2, l3, l4, l5, l6, l7, l8, l9, l10, l11] (.long y :: .long x :: S) h = rn 242 58 [l0, l1, l2, l3, l4, l5, l6, l7, l8, l9, l10, l11] (.long (x * y) :: S) h) ∧
  (∀ (l0 l1 l2 l3 l4 l5 l6 l7 l8 l9 l10 l11 : Value) (x : Int64) (S : List Value) (h : zH), rn 242 58 [l0, l1, l2, l3, l4, l5, l6, l7, l8, l9, l10, l11] (.long x :: S) h = nl l7 (rn 242 60 [l0, l1, l2, l3, l4, l5, l6, l7, .long x, .float 0, l10, l11] S h)) ∧
  (∀ (l0 l1 l2 l3 l4 l5 l6 l8 l9 l10 l11 : Value) (x : Int32) (S : List Value) (h : zH), rn 242 60 [l0, l1, l2, l3, l4, l5, l6, .int x, l8, l9, l10, l11] S h = rn 242 62 [l0, l1, l2, l3, l4, l5, l6, .int x, l8, l9, l10, l11] (.int x :: S) h) ∧
  (∀ (l0 l1 l2 l3 l4 l5 l6 l7 l8 l9 l10 l11 : Value) (S : List Value) (h : zH), rn 242 62 [l0, l1, l2, l3, l4, l5, l6, l7, l8, l9, l10, l11] S h = rn 242 63 [l0, l1, l2, l3, l4, l5, l6, l7, l8, l9, l10, l11] (.int (nI 1) :: S) h) ∧
  (∀ (l0 l1 l2 l3 l4 l5 l6 l7 l8 l9 l10 l11 : Value) (x : Int32) (y : Int32) (S : List Value) (h : zH), rn 242 63 [l0, l1, l2, l3, l4, l5, l6, l7, l8, l9, l10, l11] (.int y :: .int x :: S) h = rn 242 64 [l0, l1, l2, l3, l4, l5, l6, l7, l8, l9, l10, l11] (.int (x + y) :: S) h) ∧
  (∀ (l0 l1 l2 l3 l4 l5 l6 l7 l8 l9 l10 l11 : Value) (x : Int32) (S : List Value) (h : zH), rn 242 64 [l0, l1, l2, l3, l4, l5, l6, l7, l8, l9, l10, l11] (.int x :: S) h = rn 242 65 [l0, l1, l2, l3, l4, l5, l6, l7, l8, l9, l10, l11] (.long x.toInt64 :: S) h) ∧
  (∀ (l1 l2 l3 l4 l5 l6 l7 l8 l9 l10 l11 : Value) (x : Nat) (S : List Value) (h : zH), rn 242 65 [.ref x, l1, l2, l3, l4, l5, l6, l7, l8, l9, l10, l11] S h = rn 242 66 [.ref x, l1, l2, l3, l4, l5, l6, l7, l8, l9, l10, l11] (.ref x :: S) h) ∧
  (∀ (l0 l1 l2 l3 l4 l5 l6 l7 l8 l9 l10 l11 : Value) (a : Nat) (S : List Value) (h : zH), rn 242 66 [l0, l1, l2, l3, l4, l5, l6, l7, l8, l9, l10, l11] (.ref a :: S) h = zgf h a 12 0 fun v => rn 242 69 [l0, l1, l2, l3, l4, l5, l6, l7, l8, l9, l10, l11] (v :: S) h) ∧
  (∀ (l0 l1 l2 l3 l4 l5 l6 l7 l8 l9 l10 l11 : Value) (S : List Value) (h : zH), rn 242 69 [l0, l1, l2, l3, l4, l5, l6, l7, l8, l9, l10, l11] S h = rn 242 71 [l0, l1, l2, l3, l4, l5, l6, l7, l8, l9, l10, l11] (.int (nI 7) :: S) h) ∧
  (∀ (l0 l1 l2 l3 l4 l5 l6 l7 l8 l9 l10 l11 : Value) (a : Nat) (j : Int32) (S : List Value) (h : zH), rn 242 71 [l0, l1, l2, l3, l4, l5, l6, l7, l8, l9, l10, l11] (.int j :: .ref a :: S) h = zlj h a j fun x => rn 242 72 [l0, l1, l2, l3, l4, l5, l6, l7, l8, l9, l10, l11] (.long x :: S) h) ∧
  (∀ (l0 l1 l2 l3 l4 l5 l6 l7 l8 l9 l10 l11 : Value) (x : Int64) (y : Int64) (S : List Value) (h : zH), rn 242 72 [l0, l1, l2, l3, l4, l5, l6, l7, l8, l9, l10, l11] (.long y :: .long x :: S) h = rn 242 73 [l0, l1, l2, l3, l4, l5, l6, l7, l8, l9, l10, l11] (.int (lg_cmp x y) :: S) h) ∧
  (∀ (l0 l1 l2 l3 l4 l5 l6 l7 l8 l9 l10 l11 : Value) (x : Int32) (S : List Value) (h : zH), rn 242 73 [l0, l1, l2, l3, l4, l5, l6, l7, l8, l9, l10, l11] (.int x :: S) h = if nI 0 ≤ x then rn 242 99 [l0, l1, l2, l3, l4, l5, l6, l7, l8, l9, l10, l11] S h else rn 242 76 [l0, l1, l2, l3, l4, l5, l6, l7, l8, l9, l10, l11] S h) ∧
  (∀ (l0 l1 l2 l4 l5 l6 l7 l8 l9 l10 l11 : Value) (x : Int64) (S : List Value) (h : zH), rn 242 76 [l0, l1, l2, .long x, l4, l5, l6, l7, l8, l9, l10, l11] S h = rn 242 77 [l0, l1, l2, .long x, l4, l5, l6, l7, l8, l9, l10, l11] (.long x :: S) h) ∧
  (∀ (l0 l1 l2 l3 l4 l5 l6 l7 l8 l9 l10 l11 : Value) (S : List Value) (h : zH), rn 242 77 [l0, l1, l2, l3, l4, l5, l6, l7, l8, l9, l10, l11] S h = rn 242 80 [l0, l1, l2, l3, l4, l5, l6, l7, l8, l9, l10, l11] (.long (1000) :: S) h) ∧
  (∀ (l1 l2 l3 l4 l5 l6 l7 l8 l9 l10 l11 : Value) (x : Nat) (S : List Value) (h : zH), rn 242 80 [.ref x, l1, l2, l3, l4, l5, l6, l7, l8, l9, l10, l11] S h = rn 242 81 [.ref x, l1, l2, l3, l4, l5, l6, l7, l8, l9, l10, l11] (.ref x :: S) h) ∧
  (∀ (l0 l1 l2 l3 l4 l5 l6 l7 l8 l9 l10 l11 : Value) (a : Nat) (S : List Value) (h : zH), rn 242 81 [l0, l1, l2, l3, l4, l5, l6, l7, l8, l9, l10, l11] (.ref a :: S) h = zgf h a 12 0 fun v => rn 242 84 [l0, l1, l2, l3, l4, l5, l6, l7, l8, l9, l10, l11] (v :: S) h) ∧
  (∀ (l0 l1 l2 l3 l4 l5 l6 l7 l8 l9 l10 l11 : Value) (S : List Value) (h : zH), rn 242 84 [l0, l1, l2, l3, l4, l5, l6, l7, l8, l9, l10, l11] S h = rn 242 86 [l0, l1, l2, l3, l4, l5, l6, l7, l8, l9, l10, l11] (.int (nI 8) :: S) h) ∧
  (∀ (l0 l1 l2 l3 l4 l5 l6 l8 l9 l10 l11 : Value) (x : Int32) (S : List Value) (h : zH), rn 242 86 [l0, l1, l2, l3, l4, l5, l6, .int x, l8, l9, l10, l11] S h = rn 242 88 [l0, l1, l2, l3, l4, l5, l6, .int x, l8, l9, l10, l11] (.int x :: S) h) ∧
  (∀ (l0 l1 l2 l3 l4 l5 l6 l7 l8 l9 l10 l11 : Value) (x : Int32) (y : Int32) (S : List Value) (h : zH), rn 242 88 [l0, l1, l2, l3, l4, l5, l6, l7, l8, l9, l10, l11] (.int y :: .int x :: S) h = rn 242 89 [l0, l1, l2, l3, l4, l5, l6, l7, l8, l9, l10, l11] (.int (x + y) :: S) h) ∧
  (∀ (l0 l1 l2 l3 l4 l5 l6 l7 l8 l9 l10 l11 : Value) (S : List Value) (h : zH), rn 242 89 [l0, l1, l2, l3, l4, l5, l6, l7, l8, l9, l10, l11] S h = rn 242 90 [l0, l1, l2, l3, l4, l5, l6, l7, l8, l9, l10, l11] (.int (nI 1) :: S) h) ∧
  (∀ (l0 l1 l2 l3 l4 l5 l6 l7 l8 l9 l10 l11 : Value) (x : Int32) (y : Int32) (S : List Value) (h : zH), rn 242 90 [l0, l1, l2, l3, l4, l5, l6, l7, l8, l9, l10, l11] (.int y :: .int x :: S) h = rn 242 91 [l0, l1, l2, l3, l4, l5, l6, l7, l8, l9, l10, l11] (.int (x + y) :: S) h) ∧
  (∀ (l0 l1 l2 l3 l4 l5 l6 l7 l8 l9 l10 l11 : Value) (a : Nat) (j : Int32) (S : List Value) (h : zH), rn 242 91 [l0, l1, l2, l3, l4, l5, l6, l7, l8, l9, l10, l11] (.int j :: .ref a :: S) h = zlj h a j fun x => rn 242 92 [l0, l1, l2, l3, l4, l5, l6, l7, l8, l9, l10, l11] (.long x :: S) h) ∧
  (∀ (l0 l1 l2 l3 l4 l5 l6 l7 l8 l9 l10 l11 : Value) (x : Int64) (y : Int64) (S : List Value) (h : zH), rn 242 92 [l0, l1, l2, l3, l4, l5, l6, l7, l8, l9, l10, l11] (.long y :: .long x :: S) h = rn 242 93 [l0, l1, l2, l3, l4, l5, l6, l7, l8, l9, l10, l11] (.long (x * y) :: S) h) ∧
  (∀ (l0 l1 l2 l3 l4 l5 l6 l7 l8 l9 l10 l11 : Value) (v0 : Value) (v1 : Value) (S : List Value) (h : zH), rn 242 93 [l0, l1, l2, l3, l4, l5, l6, l7, l8, l9, l10, l11] (v1 :: v0 :: S) h = if zsum S ≤ 8 then zcall (ev 72 [v0, v1] h) (fun v h => rn 242 96 [l0, l1, l2, l3, l4, l5, l6, l7, l8, l9, l10, l11] (zpush v S) h) else none) ∧
  (∀ (l0 l1 l2 l3 l4 l5 l6 l7 l8 l9 l10 l11 : Value) (S : List Value) (h : zH), rn 242 96 [l0, l1, l2, l3, l4, l5, l6, l7, l8, l9, l10, l11] S h = rn 242 100 [l0, l1, l2, l3, l4, l5, l6, l7, l8, l9, l10, l11] S h) ∧
  (∀ (l0 l1 l2 l4 l5 l6 l7 l8 l9 l10 l11 : Value) (x : Int64) (S : List Value) (h : zH), rn 242 99 [l0, l1, l2, .long x, l4, l5, l6, l7, l8, l9, l10, l11] S h = rn 242 100 [l0, l1, l2, .long x, l4, l5, l6, l7, l8, l9, l10, l11] (.long x :: S) h) ∧
  (∀ (l0 l1 l2 l3 l4 l5 l6 l7 l8 l9 l10 l11 : Value) (x : Int64) (S : List Value) (h : zH), rn 242 100 [l0, l1, l2, l3, l4, l5, l6, l7, l8, l9, l10, l11] (.long x :: S) h = nl l9 (rn 242 102 [l0, l1, l2, l3, l4, l5, l6, l7, l8, l9, .long x, .float 0] S h)) ∧
  (∀ (l0 l1 l2 l3 l4 l6 l7 l8 l9 l10 l11 : Value) (x : Int64) (S : List Value) (h : zH), rn 242 102 [l0, l1, l2, l3, l4, .long x, l6, l7, l8, l9, l10, l11] S h = rn 242 104 [l0, l1, l2, l3, l4, .long x, l6, l7, l8, l9, l10, l11] (.long x :: S) h) ∧
  (∀ (l1 l2 l3 l4 l5 l6 l7 l8 l9 l10 l11 : Value) (x : Nat) (S : List Value) (h : zH), rn 242 104 [.ref x, l1, l2, l3, l4, l5, l6, l7, l8, l9, l10, l11] S h = rn 242 105 [.ref x, l1, l2, l3, l4, l5, l6, l7, l8, l9, l10, l11] (.ref x :: S) h) ∧
  (∀ (l0 l1 l2 l3 l4 l5 l6 l7 l8 l9 l10 l11 : Value) (a : Nat) (S : List Value) (h : zH), rn 242 105 [l0, l1, l2, l3, l4, l5, l6, l7, l8, l9, l10, l11] (.ref a :: S) h = zgf h a 12 0 fun v => rn 242 108 [l0, l1, l2, l3, l4, l5, l6, l7, l8, l9, l10, l11] (v :: S) h) ∧
  (∀ (l0 l1 l2 l3 l4 l5 l6 l7 l8 l9 l10 l11 : Value) (S : List Value) (h : zH), rn 242 108 [l0, l1, l2, l3, l4, l5, l6, l7, l8, l9, l10, l11] S h = rn 242 110 [l0, l1, l2, l3, l4, l5, l6, l7, l8, l9, l10, l11] (.int (nI 13) :: S) h) ∧
  (∀ (l0 l1 l2 l3 l4 l5 l6 l8 l9 l10 l11 : Value) (x : Int32) (S : List Value) (h : zH), rn 242 110 [l0, l1, l2, l3, l4, l5, l6, .int x, l8, l9, l10, l11] S h = rn 242 112 [l0, l1, l2, l3, l4, l5, l6, .int x, l8, l9, l10, l11] (.int x :: S) h) ∧
  (∀ (l0 l1 l2 l3 l4 l5 l6 l7 l8 l9 l10 l11 : Value) (x : Int32) (y : Int32) (S : List Value) (h : zH), rn 242 112 [l0, l1, l2, l3, l4, l5, l6, l7, l8, l9, l10, l11] (.int y :: .int x :: S) h = rn 242 113 [l0, l1, l2, l3, l4, l5, l6, l7, l8, l9, l10, l11] (.int (x + y) :: S) h) ∧
  (∀ (l0 l1 l2 l3 l4 l5 l6 l7 l8 l9 l10 l11 : Value) (a : Nat) (j : Int32) (S : List Value) (h : zH), rn 242 113 [l0, l1, l2, l3, l4, l5, l6, l7, l8, l9, l10, l11] (.int j :: .ref a :: S) h = zlj h a j fun x => rn 242 114 [l0, l1, l2, l3, l4, l5, l6, l7, l8, l9, l10, l11] (.long x :: S) h) ∧
  (∀ (l0 l1 l2 l3 l4 l5 l6 l7 l8 l9 l10 l11 : Value) (S : List Value) (h : zH), rn 242 114 [l0, l1, l2, l3, l4, l5, l6, l7, l8, l9, l10, l11] S h = rn 242 115 [l0, l1, l2, l3, l4, l5, l6, l7, l8, l9, l10, l11] (.long 0 :: S) h) ∧
  (∀ (l0 l1 l2 l3 l4 l5 l6 l7 l8 l9 l11 : Value) (x : Int64) (S : List Value) (h : zH), rn 242 115 [l0, l1, l2, l3, l4, l5, l6, l7, l8, l9, .long x, l11] S h = rn 242 117 [l0, l1, l2, l3, l4, l5, l6, l7, l8, l9, .long x, l11] (.long x :: S) h) ∧
  (∀ (l0 l1 l2 l3 l4 l5 l6 l7 l9 l10 l11 : Value) (x : Int64) (S : List Value) (h : zH), rn 242 117 [l0, l1, l2, l3, l4, l5, l6, l7, .long x, l9, l10, l11] S h = rn 242 119 [l0, l1, l2, l3, l4, l5, l6, l7, .long x, l9, l10, l11] (.long x :: S) h) ∧
  (∀ (l0 l1 l2 l3 l4 l5 l6 l7 l8 l9 l10 l11 : Value) (x : Int64) (y : Int64) (S : List Value) (h : zH), rn 242 119 [l0, l1, l2, l3, l4, l5, l6, l7, l8, l9, l10, l11] (.long y :: .long x :: S) h = rn 242 120 [l0, l1, l2, l3, l4, l5, l6, l7, l8, l9, l10, l11] (.long (x - y) :: S) h) ∧
  (∀ (l0 l1 l2 l3 l4 l5 l6 l7 l8 l9 l10 l11 : Value) (v0 : Value) (v1 : Value) (S : List Value) (h : zH), rn 242 120 [l0, l1, l2, l3, l4, l5, l6, l7, l8, l9, l10, l11] (v1 :: v0 :: S) h = if zsum S ≤ 8 then zcall (ev 73 [v0, v1] h) (fun v h => rn 242 123 [l0, l1, l2, l3, l4, l5, l6, l7, l8, l9, l10, l11] (zpush v S) h) else none) ∧
  (∀ (l0 l1 l2 l3 l4 l5 l6 l7 l8 l9 l10 l11 : Value) (x : Int64) (y : Int64) (S : List Value) (h : zH), rn 242 123 [l0, l1, l2, l3, l4, l5, l6, l7, l8, l9, l10, l11] (.long y :: .long x :: S) h = rn 242 124 [l0, l1, l2, l3, l4, l5, l6, l7, l8, l9, l10, l11] (.long (x * y) :: S) h) ∧
  (∀ (l0 l1 l2 l3 l4 l5 l6 l7 l8 l9 l10 l11 : Value) (x : Int64) (y : Int64) (S : List Value) (h : zH), rn 242 124 [l0, l1, l2, l3, l4, l5, l6, l7, l8, l9, l10, l11] (.long y :: .long x :: S) h = rn 242 125 [l0, l1, l2, l3, l4, l5, l6, l7, l8, l9, l10, l11] (.long (x + y) :: S) h) ∧
  (∀ (l0 l1 l2 l3 l4 l5 l6 l7 l8 l9 l10 l11 : Value) (x : Int64) (S : List Value) (h : zH), rn 242 125 [l0, l1, l2, l3, l4, l5, l6, l7, l8, l9, l10, l11] (.long x :: S) h = nl l4 (rn 242 127 [l0, l1, l2, l3, l4, .long x, .float 0, l7, l8, l9, l10, l11] S h)) ∧
  (∀ (l0 l1 l2 l3 l4 l5 l6 l8 l9 l10 l11 : Value) (x : Int32) (S : List Value) (h : zH), rn 242 127 [l0, l1, l2, l3, l4, l5, l6, .int x, l8, l9, l10, l11] S h = nl l6 (rn 242 130 [l0, l1, l2, l3, l4, l5, l6, .int (x + (nI 1)), l8, l9, l10, l11] S h)) ∧
  (∀ (l0 l1 l2 l3 l4 l5 l6 l7 l8 l9 l10 l11 : Value) (S : List Value) (h : zH), rn 242 130 [l0, l1, l2, l3, l4, l5, l6, l7, l8, l9, l10, l11] S h = rn 242 30 [l0, l1, l2, l3, l4, l5, l6, l7, l8, l9, l10, l11] S h) ∧
  (∀ (l0 l1 l2 l3 l4 l6 l7 l8 l9 l10 l11 : Value) (x : Int64) (S : List Value) (h : zH), rn 242 133 [l0, l1, l2, l3, l4, .long x, l6, l7, l8, l9, l10, l11] S h = rn 242 135 [l0, l1, l2, l3, l4, .long x, l6, l7, l8, l9, l10, l11] (.long x :: S) h) ∧
  (∀ (l0 l1 l2 l3 l4 l5 l6 l7 l8 l9 l10 l11 : Value) (x : Int64) (h : zH), rn 242 135 [l0, l1, l2, l3, l4, l5, l6, l7, l8, l9, l10, l11] [.long x] h = some (some (.long x), h)) := ⟨fun _ _ _ _ _ _ _ _ _ _ _ _ _ _ => r_ldc2 (show zdec 242 0 = some (.ldc2_w 112, 3) by decide +kernel) (show zlt.lookup (242 * zKEY + 112) = some (1000, 1419) by decide +kernel) rfl,
  fun _ _ _ _ _ _ _ _ _ _ _ _ _ _ => r_lload_n (show zdec 242 3 = some (.lload_n 1, 1) by decide +kernel) rfl rfl,
  fun _ _ _ _ _ _ _ _ _ _ _ _ _ _ _ _ => r_lmul (show zdec 242 4 = some (.lmul, 1) by decide +kernel) rfl,
  fun _ _ _ _ _ _ _ _ _ _ _ _ _ _ => r_aload_nr (show zdec 242 5 = some (.aload_n 0, 1) by decide +kernel) rfl rfl,
  fun _ _ _ _ _ _ _ _ _ _ _ _ _ _ => r_iconst (show zdec 242 6 = some (.iconst 0, 1) by decide +kernel) rfl rfl,
  fun _ _ _ _ _ _ _ _ _ _ _ _ _ _ => r_lload_n (show zdec 242 7 = some (.lload_n 1, 1) by decide +kernel) rfl rfl,
  fun _ _ _ _ _ _ _ _ _ _ _ _ _ _ _ _ _ => r_cV [_, _] rfl (show zdec 242 8 = some (.invokevirtual 114, 3) by decide +kernel) (show zst.lookup (242 * zKEY + 114) = some (1, 241, 2, 12, [1414, 1416, 33, 77]) by decide +kernel) (by decide) rfl,
  fun _ _ _ _ _ _ _ _ _ _ _ _ _ _ => r_aload_nr (show zdec 242 11 = some (.aload_n 0, 1) by decide +kernel) rfl rfl,
  fun _ _ _ _ _ _ _ _ _ _ _ _ _ _ => r_iconst (show zdec 242 12 = some (.iconst 1, 1) by decide +kernel) rfl rfl,
  fun _ _ _ _ _ _ _ _ _ _ _ _ _ _ => r_lload_n (show zdec 242 13 = some (.lload_n 1, 1) by decide +kernel) rfl rfl,
  fun _ _ _ _ _ _ _ _ _ _ _ _ _ _ _ _ _ => r_cV [_, _] rfl (show zdec 242 14 = some (.invokevirtual 114, 3) by decide +kernel) (show zst.lookup (242 * zKEY + 114) = some (1, 241, 2, 12, [1414, 1416, 33, 77]) by decide +kernel) (by decide) rfl,
  fun _ _ _ _ _ _ _ _ _ _ _ _ _ _ _ _ => r_ladd (show zdec 242 17 = some (.ladd, 1) by decide +kernel) rfl,
  fun _ _ _ _ _ _ _ _ _ _ _ _ _ _ => r_ldc2 (show zdec 242 18 = some (.ldc2_w 112, 3) by decide +kernel) (show zlt.lookup (242 * zKEY + 112) = some (1000, 1419) by decide +kernel) rfl,
  fun _ _ _ _ _ _ _ _ _ _ _ _ _ _ _ _ => r_ldiv (show zdec 242 21 = some (.ldiv, 1) by decide +kernel) rfl,
  fun _ _ _ _ _ _ _ _ _ _ _ _ _ _ _ _ => r_lsub (show zdec 242 22 = some (.lsub, 1) by decide +kernel) rfl,
  fun _ _ _ _ _ _ _ _ _ _ _ _ _ _ _ => r_lstore_n (show zdec 242 23 = some (.lstore_n 3, 1) by decide +kernel) rfl rfl (Nat.le_of_ble_eq_true rfl) rfl rfl,
  fun _ _ _ _ _ _ _ _ _ _ _ _ _ _ => r_lconst (show zdec 242 24 = some (.lconst 0, 1) by decide +kernel) rfl rfl,
  fun _ _ _ _ _ _ _ _ _ _ _ _ _ _ _ => r_lstore (show zdec 242 25 = some (.lstore 5, 2) by decide +kernel) rfl (Nat.le_of_ble_eq_true rfl) rfl rfl,
  fun _ _ _ _ _ _ _ _ _ _ _ _ _ _ => r_iconst (show zdec 242 27 = some (.iconst 0, 1) by decide +kernel) rfl rfl,
  fun _ _ _ _ _ _ _ _ _ _ _ _ _ _ _ => r_istore (show zdec 242 28 = some (.istore 7, 2) by decide +kernel) rfl (Nat.le_of_ble_eq_true rfl) rfl rfl,
  fun _ _ _ _ _ _ _ _ _ _ _ _ _ _ => r_iload (show zdec 242 30 = some (.iload 7, 2) by decide +kernel) rfl rfl,
  fun _ _ _ _ _ _ _ _ _ _ _ _ _ _ _ => r_i2l (show zdec 242 32 = some (.i2l, 1) by decide +kernel) rfl,
  fun _ _ _ _ _ _ _ _ _ _ _ _ _ _ => r_aload_nr (show zdec 242 33 = some (.aload_n 0, 1) by decide +kernel) rfl rfl,
  fun _ _ _ _ _ _ _ _ _ _ _ _ _ _ _ => r_getfield (show zdec 242 34 = some (.getfield 9, 3) by decide +kernel) (show zft.lookup (242 * zKEY + 9) = some (12, 0, 1239) by decide +kernel) rfl,
  fun _ _ _ _ _ _ _ _ _ _ _ _ _ _ => r_bipush (show zdec 242 37 = some (.bipush 7, 2) by decide +kernel) rfl rfl,
  fun _ _ _ _ _ _ _ _ _ _ _ _ _ _ _ _ => r_lald (show zdec 242 39 = some (.laload, 1) by decide +kernel) rfl,
  fun _ _ _ _ _ _ _ _ _ _ _ _ _ _ _ _ => r_lcmp (show zdec 242 40 = some (.lcmp, 1) by decide +kernel) rfl,
  fun _ _ _ _ _ _ _ _ _ _ _ _ _ _ _ => r_ifge (show zdec 242 41 = some (.ifCond .ge 92, 3) by decide +kernel) rfl rfl,
  fun _ _ _ _ _ _ _ _ _ _ _ _ _ _ => r_ldc2 (show zdec 242 44 = some (.ldc2_w 112, 3) by decide +kernel) (show zlt.lookup (242 * zKEY + 112) = some (1000, 1419) by decide +kernel) rfl,
  fun _ _ _ _ _ _ _ _ _ _ _ _ _ _ => r_aload_nr (show zdec 242 47 = some (.aload_n 0, 1) by decide +kernel) rfl rfl,
  fun _ _ _ _ _ _ _ _ _ _ _ _ _ _ _ => r_getfield (show zdec 242 48 = some (.getfield 9, 3) by decide +kernel) (show zft.lookup (242 * zKEY + 9) = some (12, 0, 1239) by decide +kernel) rfl,
  fun _ _ _ _ _ _ _ _ _ _ _ _ _ _ => r_bipush (show zdec 242 51 = some (.bipush 8, 2) by decide +kernel) rfl rfl,
  fun _ _ _ _ _ _ _ _ _ _ _ _ _ _ => r_iload (show zdec 242 53 = some (.iload 7, 2) by decide +kernel) rfl rfl,
  fun _ _ _ _ _ _ _ _ _ _ _ _ _ _ _ _ => r_iadd (show zdec 242 55 = some (.iadd, 1) by decide +kernel) rfl,
  fun _ _ _ _ _ _ _ _ _ _ _ _ _ _ _ _ => r_lald (show zdec 242 56 = some (.laload, 1) by decide +kernel) rfl,
  fun _ _ _ _ _ _ _ _ _ _ _ _ _ _ _ _ => r_lmul (show zdec 242 57 = some (.lmul, 1) by decide +kernel) rfl,
  fun _ _ _ _ _ _ _ _ _ _ _ _ _ _ _ => r_lstore (show zdec 242 58 = some (.lstore 8, 2) by decide +kernel) rfl (Nat.le_of_ble_eq_true rfl) rfl rfl,
  fun _ _ _ _ _ _ _ _ _ _ _ _ _ _ => r_iload (show zdec 242 60 = some (.iload 7, 2) by decide +kernel) rfl rfl,
  fun _ _ _ _ _ _ _ _ _ _ _ _ _ _ => r_iconst (show zdec 242 62 = some (.iconst 1, 1) by decide +kernel) rfl rfl,
  fun _ _ _ _ _ _ _ _ _ _ _ _ _ _ _ _ => r_iadd (show zdec 242 63 = some (.iadd, 1) by decide +kernel) rfl,
  fun _ _ _ _ _ _ _ _ _ _ _ _ _ _ _ => r_i2l (show zdec 242 64 = some (.i2l, 1) by decide +kernel) rfl,
  fun _ _ _ _ _ _ _ _ _ _ _ _ _ _ => r_aload_nr (show zdec 242 65 = some (.aload_n 0, 1) by decide +kernel) rfl rfl,
  fun _ _ _ _ _ _ _ _ _ _ _ _ _ _ _ => r_getfield (show zdec 242 66 = some (.getfield 9, 3) by decide +kernel) (show zft.lookup (242 * zKEY + 9) = some (12, 0, 1239) by decide +kernel) rfl,
  fun _ _ _ _ _ _ _ _ _ _ _ _ _ _ => r_bipush (show zdec 242 69 = some (.bipush 7, 2) by decide +kernel) rfl rfl,
  fun _ _ _ _ _ _ _ _ _ _ _ _ _ _ _ _ => r_lald (show zdec 242 71 = some (.laload, 1) by decide +kernel) rfl,
  fun _ _ _ _ _ _ _ _ _ _ _ _ _ _ _ _ => r_lcmp (show zdec 242 72 = some (.lcmp, 1) by decide +kernel) rfl,
  fun _ _ _ _ _ _ _ _ _ _ _ _ _ _ _ => r_ifge (show zdec 242 73 = some (.ifCond .ge 26, 3) by decide +kernel) rfl rfl,
  fun _ _ _ _ _ _ _ _ _ _ _ _ _ _ => r_lload_n (show zdec 242 76 = some (.lload_n 3, 1) by decide +kernel) rfl rfl,
  fun _ _ _ _ _ _ _ _ _ _ _ _ _ _ => r_ldc2 (show zdec 242 77 = some (.ldc2_w 112, 3) by decide +kernel) (show zlt.lookup (242 * zKEY + 112) = some (1000, 1419) by decide +kernel) rfl,
  fun _ _ _ _ _ _ _ _ _ _ _ _ _ _ => r_aload_nr (show zdec 242 80 = some (.aload_n 0, 1) by decide +kernel) rfl rfl,
  fun _ _ _ _ _ _ _ _ _ _ _ _ _ _ _ => r_getfield (show zdec 242 81 = some (.getfield 9, 3) by decide +kernel) (show zft.lookup (242 * zKEY + 9) = some (12, 0, 1239) by decide +kernel) rfl,
  fun _ _ _ _ _ _ _ _ _ _ _ _ _ _ => r_bipush (show zdec 242 84 = some (.bipush 8, 2) by decide +kernel) rfl rfl,
  fun _ _ _ _ _ _ _ _ _ _ _ _ _ _ => r_iload (show zdec 242 86 = some (.iload 7, 2) by decide +kernel) rfl rfl,
  fun _ _ _ _ _ _ _ _ _ _ _ _ _ _ _ _ => r_iadd (show zdec 242 88 = some (.iadd, 1) by decide +kernel) rfl,
  fun _ _ _ _ _ _ _ _ _ _ _ _ _ _ => r_iconst (show zdec 242 89 = some (.iconst 1, 1) by decide +kernel) rfl rfl,
  fun _ _ _ _ _ _ _ _ _ _ _ _ _ _ _ _ => r_iadd (show zdec 242 90 = some (.iadd, 1) by decide +kernel) rfl,
  fun _ _ _ _ _ _ _ _ _ _ _ _ _ _ _ _ => r_lald (show zdec 242 91 = some (.laload, 1) by decide +kernel) rfl,
  fun _ _ _ _ _ _ _ _ _ _ _ _ _ _ _ _ => r_lmul (show zdec 242 92 = some (.lmul, 1) by decide +kernel) rfl,
  fun _ _ _ _ _ _ _ _ _ _ _ _ _ _ _ _ => r_cS [_, _] rfl (show zdec 242 93 = some (.invokestatic 106, 3) by decide +kernel) (show zst.lookup (242 * zKEY + 106) = some (0, 72, 2, 0, [1418, 638, 79]) by decide +kernel) (by decide) rfl,
  fun _ _ _ _ _ _ _ _ _ _ _ _ _ _ => r_goto (show zdec 242 96 = some (.goto 4, 3) by decide +kernel) rfl,
  fun _ _ _ _ _ _ _ _ _ _ _ _ _ _ => r_lload_n (show zdec 242 99 = some (.lload_n 3, 1) by decide +kernel) rfl rfl,
  fun _ _ _ _ _ _ _ _ _ _ _ _ _ _ _ => r_lstore (show zdec 242 100 = some (.lstore 10, 2) by decide +kernel) rfl (Nat.le_of_ble_eq_true rfl) rfl rfl,
  fun _ _ _ _ _ _ _ _ _ _ _ _ _ _ => r_lload (show zdec 242 102 = some (.lload 5, 2) by decide +kernel) rfl rfl,
  fun _ _ _ _ _ _ _ _ _ _ _ _ _ _ => r_aload_nr (show zdec 242 104 = some (.aload_n 0, 1) by decide +kernel) rfl rfl,
  fun _ _ _ _ _ _ _ _ _ _ _ _ _ _ _ => r_getfield (show zdec 242 105 = some (.getfield 9, 3) by decide +kernel) (show zft.lookup (242 * zKEY + 9) = some (12, 0, 1239) by decide +kernel) rfl,
  fun _ _ _ _ _ _ _ _ _ _ _ _ _ _ => r_bipush (show zdec 242 108 = some (.bipush 13, 2) by decide +kernel) rfl rfl,
  fun _ _ _ _ _ _ _ _ _ _ _ _ _ _ => r_iload (show zdec 242 110 = some (.iload 7, 2) by decide +kernel) rfl rfl,
  fun _ _ _ _ _ _ _ _ _ _ _ _ _ _ _ _ => r_iadd (show zdec 242 112 = some (.iadd, 1) by decide +kernel) rfl,
  fun _ _ _ _ _ _ _ _ _ _ _ _ _ _ _ _ => r_lald (show zdec 242 113 = some (.laload, 1) by decide +kernel) rfl,
  fun _ _ _ _ _ _ _ _ _ _ _ _ _ _ => r_lconst (show zdec 242 114 = some (.lconst 0, 1) by decide +kernel) rfl rfl,
  fun _ _ _ _ _ _ _ _ _ _ _ _ _ _ => r_lload (show zdec 242 115 = some (.lload 10, 2) by decide +kernel) rfl rfl,
  fun _ _ _ _ _ _ _ _ _ _ _ _ _ _ => r_lload (show zdec 242 117 = some (.lload 8, 2) by decide +kernel) rfl rfl,
  fun _ _ _ _ _ _ _ _ _ _ _ _ _ _ _ _ => r_lsub (show zdec 242 119 = some (.lsub, 1) by decide +kernel) rfl,
  fun _ _ _ _ _ _ _ _ _ _ _ _ _ _ _ _ => r_cS [_, _] rfl (show zdec 242 120 = some (.invokestatic 118, 3) by decide +kernel) (show zst.lookup (242 * zKEY + 118) = some (0, 73, 2, 0, [1424, 641, 79]) by decide +kernel) (by decide) rfl,
  fun _ _ _ _ _ _ _ _ _ _ _ _ _ _ _ _ => r_lmul (show zdec 242 123 = some (.lmul, 1) by decide +kernel) rfl,
  fun _ _ _ _ _ _ _ _ _ _ _ _ _ _ _ _ => r_ladd (show zdec 242 124 = some (.ladd, 1) by decide +kernel) rfl,
  fun _ _ _ _ _ _ _ _ _ _ _ _ _ _ _ => r_lstore (show zdec 242 125 = some (.lstore 5, 2) by decide +kernel) rfl (Nat.le_of_ble_eq_true rfl) rfl rfl,
  fun _ _ _ _ _ _ _ _ _ _ _ _ _ _ => r_iinc (show zdec 242 127 = some (.iinc 7 1, 3) by decide +kernel) rfl rfl rfl (Nat.le_of_ble_eq_true rfl) rfl rfl,
  fun _ _ _ _ _ _ _ _ _ _ _ _ _ _ => r_goto (show zdec 242 130 = some (.goto (-100), 3) by decide +kernel) rfl,
  fun _ _ _ _ _ _ _ _ _ _ _ _ _ _ => r_lload (show zdec 242 133 = some (.lload 5, 2) by decide +kernel) rfl rfl,
  fun _ _ _ _ _ _ _ _ _ _ _ _ _ _ => r_lret (show zdec 242 135 = some (.lreturn, 1) by decide +kernel) (by decide +kernel)⟩
theorem ze_242 : ∀ (a0 : Nat) (a1 : Int64) (h : zH), ev 242 [.ref a0, .long a1] h = rn 242 0 [.ref a0, .long a1, .float 0, .float 0, .float 0, .float 0, .float 0, .float 0, .float 0, .float 0, .float 0, .float 0] [] h := fun _ _ _ => rfl
-- Math.min(JJ)J
theorem zr_72 : (∀ (l1 l2 l3 : Value) (x : Int64) (S : List Value) (h : zH), rn 72 0 [.long x, l1, l2, l3] S h = rn 72 1 [.long x, l1, l2, l3] (.long x :: S) h) ∧
  (∀ (l0 l1 l3 : Value) (x : Int64) (S : List Value) (h : zH), rn 72 1 [l0, l1, .long x, l3] S h = rn 72 2 [l0, l1, .long x, l3] (.long x :: S) h) ∧
  (∀ (l0 l1 l2 l3 : Value) (x : Int64) (y : Int64) (S : List Value) (h : zH), rn 72 2 [l0, l1, l2, l3] (.long y :: .long x :: S) h = rn 72 3 [l0, l1, l2, l3] (.int (lg_cmp x y) :: S) h) ∧
  (∀ (l0 l1 l2 l3 : Value) (x : Int32) (S : List Value) (h : zH), rn 72 3 [l0, l1, l2, l3] (.int x :: S) h = if nI 0 < x then rn 72 10 [l0, l1, l2, l3] S h else rn 72 6 [l0, l1, l2, l3] S h) ∧
  (∀ (l1 l2 l3 : Value) (x : Int64) (S : List Value) (h : zH), rn 72 6 [.long x, l1, l2, l3] S h = rn 72 7 [.long x, l1, l2, l3] (.long x :: S) h) ∧
  (∀ (l0 l1 l2 l3 : Value) (S : List Value) (h : zH), rn 72 7 [l0, l1, l2, l3] S h = rn 72 11 [l0, l1, l2, l3] S h) ∧
  (∀ (l0 l1 l3 : Value) (x : Int64) (S : List Value) (h : zH), rn 72 10 [l0, l1, .long x, l3] S h = rn 72 11 [l0, l1, .long x, l3] (.long x :: S) h) ∧
  (∀ (l0 l1 l2 l3 : Value) (x : Int64) (h : zH), rn 72 11 [l0, l1, l2, l3] [.long x] h = some (some (.long x), h)) := ⟨fun _ _ _ _ _ _ => r_lload_n (show zdec 72 0 = some (.lload_n 0, 1) by decide +kernel) rfl rfl,
  fun _ _ _ _ _ _ => r_lload_n (show zdec 72 1 = some (.lload_n 2, 1) by decide +kernel) rfl rfl,
  fun _ _ _ _ _ _ _ _ => r_lcmp (show zdec 72 2 = some (.lcmp, 1) by decide +kernel) rfl,
  fun _ _ _ _ _ _ _ => r_ifgt (show zdec 72 3 = some (.ifCond .gt 7, 3) by decide +kernel) rfl rfl,
  fun _ _ _ _ _ _ => r_lload_n (show zdec 72 6 = some (.lload_n 0, 1) by decide +kernel) rfl rfl,
  fun _ _ _ _ _ _ => r_goto (show zdec 72 7 = some (.goto 4, 3) by decide +kernel) rfl,
  fun _ _ _ _ _ _ => r_lload_n (show zdec 72 10 = some (.lload_n 2, 1) by decide +kernel) rfl rfl,
  fun _ _ _ _ _ _ => r_lret (show zdec 72 11 = some (.lreturn, 1) by decide +kernel) (by decide +kernel)⟩
theorem ze_72 : ∀ (a0 : Int64) (a1 : Int64) (h : zH), ev 72 [.long a0, .long a1] h = rn 72 0 [.long a0, .float 0, .long a1, .float 0] [] h := fun _ _ _ => rfl
-- Math.max(JJ)J
theorem zr_73 : (∀ (l1 l2 l3 : Value) (x : Int64) (S : List Value) (h : zH), rn 73 0 [.long x, l1, l2, l3] S h = rn 73 1 [.long x, l1, l2, l3] (.long x :: S) h) ∧
  (∀ (l0 l1 l3 : Value) (x : Int64) (S : List Value) (h : zH), rn 73 1 [l0, l1, .long x, l3] S h = rn 73 2 [l0, l1, .long x, l3] (.long x :: S) h) ∧
  (∀ (l0 l1 l2 l3 : Value) (x : Int64) (y : Int64) (S : List Value) (h : zH), rn 73 2 [l0, l1, l2, l3] (.long y :: .long x :: S) h = rn 73 3 [l0, l1, l2, l3] (.int (lg_cmp x y) :: S) h) ∧
  (∀ (l0 l1 l2 l3 : Value) (x : Int32) (S : List Value) (h : zH), rn 73 3 [l0, l1, l2, l3] (.int x :: S) h = if x < nI 0 then rn 73 10 [l0, l1, l2, l3] S h else rn 73 6 [l0, l1, l2, l3] S h) ∧
  (∀ (l1 l2 l3 : Value) (x : Int64) (S : List Value) (h : zH), rn 73 6 [.long x, l1, l2, l3] S h = rn 73 7 [.long x, l1, l2, l3] (.long x :: S) h) ∧
  (∀ (l0 l1 l2 l3 : Value) (S : List Value) (h : zH), rn 73 7 [l0, l1, l2, l3] S h = rn 73 11 [l0, l1, l2, l3] S h) ∧
  (∀ (l0 l1 l3 : Value) (x : Int64) (S : List Value) (h : zH), rn 73 10 [l0, l1, .long x, l3] S h = rn 73 11 [l0, l1, .long x, l3] (.long x :: S) h) ∧
  (∀ (l0 l1 l2 l3 : Value) (x : Int64) (h : zH), rn 73 11 [l0, l1, l2, l3] [.long x] h = some (some (.long x), h)) := ⟨fun _ _ _ _ _ _ => r_lload_n (show zdec 73 0 = some (.lload_n 0, 1) by decide +kernel) rfl rfl,
  fun _ _ _ _ _ _ => r_lload_n (show zdec 73 1 = some (.lload_n 2, 1) by decide +kernel) rfl rfl,
  fun _ _ _ _ _ _ _ _ => r_lcmp (show zdec 73 2 = some (.lcmp, 1) by decide +kernel) rfl,
  fun _ _ _ _ _ _ _ => r_iflt (show zdec 73 3 = some (.ifCond .lt 7, 3) by decide +kernel) rfl rfl,
  fun _ _ _ _ _ _ => r_lload_n (show zdec 73 6 = some (.lload_n 0, 1) by decide +kernel) rfl rfl,
  fun _ _ _ _ _ _ => r_goto (show zdec 73 7 = some (.goto 4, 3) by decide +kernel) rfl,
  fun _ _ _ _ _ _ => r_lload_n (show zdec 73 10 = some (.lload_n 2, 1) by decide +kernel) rfl rfl,
  fun _ _ _ _ _ _ => r_lret (show zdec 73 11 = some (.lreturn, 1) by decide +kernel) (by decide +kernel)⟩
theorem ze_73 : ∀ (a0 : Int64) (a1 : Int64) (h : zH), ev 73 [.long a0, .long a1] h = rn 73 0 [.long a0, .float 0, .long a1, .float 0] [] h := fun _ _ _ => rfl

