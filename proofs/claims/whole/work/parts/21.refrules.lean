/-! THE REFERENCE'S RULES, printed by render.py: an equation an instruction; loop heads apart ('zl') -/
-- Model.at
theorem zr_208 : (∀ (l0 l1 : Value) (S : List Value) (h : zH), rn 208 0 [l0, l1] S h = rn 208 2 [l0, l1] (.int (nI 18) :: S) h) ∧
  (∀ (l0 l1 : Value) (S : List Value) (h : zH), rn 208 2 [l0, l1] S h = rn 208 5 [l0, l1] (.int (nI 2751) :: S) h) ∧
  (∀ (l1 : Value) (x : Int32) (S : List Value) (h : zH), rn 208 5 [.int x, l1] S h = rn 208 6 [.int x, l1] (.int x :: S) h) ∧
  (∀ (l0 l1 : Value) (x : Int32) (y : Int32) (S : List Value) (h : zH), rn 208 6 [l0, l1] (.int y :: .int x :: S) h = rn 208 7 [l0, l1] (.int (x * y) :: S) h) ∧
  (∀ (l0 l1 : Value) (x : Int32) (y : Int32) (S : List Value) (h : zH), rn 208 7 [l0, l1] (.int y :: .int x :: S) h = rn 208 8 [l0, l1] (.int (x + y) :: S) h) ∧
  (∀ (l0 : Value) (x : Int32) (S : List Value) (h : zH), rn 208 8 [l0, .int x] S h = rn 208 9 [l0, .int x] (.int x :: S) h) ∧
  (∀ (l0 l1 : Value) (x : Int32) (y : Int32) (S : List Value) (h : zH), rn 208 9 [l0, l1] (.int y :: .int x :: S) h = rn 208 10 [l0, l1] (.int (x + y) :: S) h) ∧
  (∀ (l0 l1 : Value) (x : Int32) (h : zH), rn 208 10 [l0, l1] [.int x] h = some (some (.int x), h)) := ⟨fun _ _ _ _ => r_bipush (show zdec 208 0 = some (.bipush 18, 2) by decide +kernel) rfl rfl,
  fun _ _ _ _ => r_sipush (show zdec 208 2 = some (.sipush 2751, 3) by decide +kernel) rfl rfl,
  fun _ _ _ _ => r_iload_n (show zdec 208 5 = some (.iload_n 0, 1) by decide +kernel) rfl rfl,
  fun _ _ _ _ _ _ => r_imul (show zdec 208 6 = some (.imul, 1) by decide +kernel) rfl,
  fun _ _ _ _ _ _ => r_iadd (show zdec 208 7 = some (.iadd, 1) by decide +kernel) rfl,
  fun _ _ _ _ => r_iload_n (show zdec 208 8 = some (.iload_n 1, 1) by decide +kernel) rfl rfl,
  fun _ _ _ _ _ _ => r_iadd (show zdec 208 9 = some (.iadd, 1) by decide +kernel) rfl,
  fun _ _ _ _ => r_ireti (show zdec 208 10 = some (.ireturn, 1) by decide +kernel) (by decide +kernel)⟩
theorem ze_208 : ∀ (a0 : Int32) (a1 : Int32) (h : zH), ev 208 [.int a0, .int a1] h = rn 208 0 [.int a0, .int a1] [] h := fun _ _ _ => if_pos (Nat.le_of_ble_eq_true rfl)
-- Model.of
theorem zr_226 : (∀ (l1 l2 : Value) (x : Nat) (S : List Value) (h : zH), rn 226 0 [.ref x, l1, l2] S h = rn 226 1 [.ref x, l1, l2] (.ref x :: S) h) ∧
  (∀ (l0 l1 l2 : Value) (a : Nat) (S : List Value) (h : zH), rn 226 1 [l0, l1, l2] (.ref a :: S) h = zgf h a 12 0 fun v => rn 226 4 [l0, l1, l2] (v :: S) h) ∧
  (∀ (l0 l2 : Value) (x : Int32) (S : List Value) (h : zH), rn 226 4 [l0, .int x, l2] S h = rn 226 5 [l0, .int x, l2] (.int x :: S) h) ∧
  (∀ (l0 l1 : Value) (x : Int32) (S : List Value) (h : zH), rn 226 5 [l0, l1, .int x] S h = rn 226 6 [l0, l1, .int x] (.int x :: S) h) ∧
  (∀ (l0 l1 l2 : Value) (v0 : Value) (v1 : Value) (S : List Value) (h : zH), rn 226 6 [l0, l1, l2] (v1 :: v0 :: S) h = if zsum S ≤ 8 then zcall (ev 208 [v0, v1] h) (fun v h => rn 226 9 [l0, l1, l2] (zpush v S) h) else none) ∧
  (∀ (l0 l1 l2 : Value) (a : Nat) (j : Int32) (S : List Value) (h : zH), rn 226 9 [l0, l1, l2] (.int j :: .ref a :: S) h = zlj h a j fun x => rn 226 10 [l0, l1, l2] (.long x :: S) h) ∧
  (∀ (l0 l1 l2 : Value) (x : Int64) (h : zH), rn 226 10 [l0, l1, l2] [.long x] h = some (some (.long x), h)) := ⟨fun _ _ _ _ _ => r_aload_nr (show zdec 226 0 = some (.aload_n 0, 1) by decide +kernel) rfl rfl,
  fun _ _ _ _ _ _ => r_getfield (show zdec 226 1 = some (.getfield 9, 3) by decide +kernel) (show zft.lookup (226 * zKEY + 9) = some (12, 0) by decide +kernel) rfl,
  fun _ _ _ _ _ => r_iload_n (show zdec 226 4 = some (.iload_n 1, 1) by decide +kernel) rfl rfl,
  fun _ _ _ _ _ => r_iload_n (show zdec 226 5 = some (.iload_n 2, 1) by decide +kernel) rfl rfl,
  fun _ _ _ _ _ _ _ => r_cS [_, _] rfl (show zdec 226 6 = some (.invokestatic 39, 3) by decide +kernel) (show zst.lookup (226 * zKEY + 39) = some (0, 208, 2, 0) by decide +kernel) (by decide) rfl,
  fun _ _ _ _ _ _ _ => r_lald (show zdec 226 9 = some (.laload, 1) by decide +kernel) rfl,
  fun _ _ _ _ _ => r_lret (show zdec 226 10 = some (.lreturn, 1) by decide +kernel) (by decide +kernel)⟩
theorem ze_226 : ∀ (a0 : Nat) (a1 : Int32) (a2 : Int32) (h : zH), ev 226 [.ref a0, .int a1, .int a2] h = rn 226 0 [.ref a0, .int a1, .int a2] [] h := fun _ _ _ _ => if_pos (Nat.le_of_ble_eq_true rfl)
-- Model.in
theorem zr_211 : (∀ (l1 l2 : Value) (x : Int32) (S : List Value) (h : zH), rn 211 0 [.int x, l1, l2] S h = rn 211 1 [.int x, l1, l2] (.int x :: S) h) ∧
  (∀ (l0 l2 : Value) (x : Int32) (S : List Value) (h : zH), rn 211 1 [l0, .int x, l2] S h = rn 211 2 [l0, .int x, l2] (.int x :: S) h) ∧
  (∀ (l0 l1 l2 : Value) (x : Int32) (y : Int32) (S : List Value) (h : zH), rn 211 2 [l0, l1, l2] (.int y :: .int x :: S) h = if x < y then rn 211 14 [l0, l1, l2] S h else rn 211 5 [l0, l1, l2] S h) ∧
  (∀ (l1 l2 : Value) (x : Int32) (S : List Value) (h : zH), rn 211 5 [.int x, l1, l2] S h = rn 211 6 [.int x, l1, l2] (.int x :: S) h) ∧
  (∀ (l0 l1 : Value) (x : Int32) (S : List Value) (h : zH), rn 211 6 [l0, l1, .int x] S h = rn 211 7 [l0, l1, .int x] (.int x :: S) h) ∧
  (∀ (l0 l1 l2 : Value) (x : Int32) (y : Int32) (S : List Value) (h : zH), rn 211 7 [l0, l1, l2] (.int y :: .int x :: S) h = if y < x then rn 211 14 [l0, l1, l2] S h else rn 211 10 [l0, l1, l2] S h) ∧
  (∀ (l0 l1 l2 : Value) (S : List Value) (h : zH), rn 211 10 [l0, l1, l2] S h = rn 211 11 [l0, l1, l2] (.int (nI 1) :: S) h) ∧
  (∀ (l0 l1 l2 : Value) (S : List Value) (h : zH), rn 211 11 [l0, l1, l2] S h = rn 211 15 [l0, l1, l2] S h) ∧
  (∀ (l0 l1 l2 : Value) (S : List Value) (h : zH), rn 211 14 [l0, l1, l2] S h = rn 211 15 [l0, l1, l2] (.int (nI 0) :: S) h) ∧
  (∀ (l0 l1 l2 : Value) (x : Int32) (h : zH), rn 211 15 [l0, l1, l2] [.int x] h = if x = nI 0 ∨ x = nI 1 then some (some (.int x), h) else none) := ⟨fun _ _ _ _ _ => r_iload_n (show zdec 211 0 = some (.iload_n 0, 1) by decide +kernel) rfl rfl,
  fun _ _ _ _ _ => r_iload_n (show zdec 211 1 = some (.iload_n 1, 1) by decide +kernel) rfl rfl,
  fun _ _ _ _ _ _ _ => r_icmplt (show zdec 211 2 = some (.if_icmp .lt 12, 3) by decide +kernel) rfl rfl,
  fun _ _ _ _ _ => r_iload_n (show zdec 211 5 = some (.iload_n 0, 1) by decide +kernel) rfl rfl,
  fun _ _ _ _ _ => r_iload_n (show zdec 211 6 = some (.iload_n 2, 1) by decide +kernel) rfl rfl,
  fun _ _ _ _ _ _ _ => r_icmpgt (show zdec 211 7 = some (.if_icmp .gt 7, 3) by decide +kernel) rfl rfl,
  fun _ _ _ _ _ => r_iconst (show zdec 211 10 = some (.iconst 1, 1) by decide +kernel) rfl rfl,
  fun _ _ _ _ _ => r_goto (show zdec 211 11 = some (.goto 4, 3) by decide +kernel) rfl,
  fun _ _ _ _ _ => r_iconst (show zdec 211 14 = some (.iconst 0, 1) by decide +kernel) rfl rfl,
  fun _ _ _ _ _ => r_iretb (show zdec 211 15 = some (.ireturn, 1) by decide +kernel) (by decide +kernel)⟩
theorem ze_211 : ∀ (a0 : Int32) (a1 : Int32) (a2 : Int32) (h : zH), ev 211 [.int a0, .int a1, .int a2] h = rn 211 0 [.int a0, .int a1, .int a2] [] h := fun _ _ _ _ => if_pos (Nat.le_of_ble_eq_true rfl)
-- Model.isPerson
theorem zr_210 : (∀ (x : Int32) (S : List Value) (h : zH), rn 210 0 [.int x] S h = rn 210 1 [.int x] (.int x :: S) h) ∧
  (∀ (l0 : Value) (S : List Value) (h : zH), rn 210 1 [l0] S h = rn 210 2 [l0] (.int (nI 0) :: S) h) ∧
  (∀ (l0 : Value) (S : List Value) (h : zH), rn 210 2 [l0] S h = rn 210 3 [l0] (.int (nI 2) :: S) h) ∧
  (∀ (l0 : Value) (v0 : Value) (v1 : Value) (v2 : Value) (S : List Value) (h : zH), rn 210 3 [l0] (v2 :: v1 :: v0 :: S) h = if zsum S ≤ 8 then zcall (ev 211 [v0, v1, v2] h) (fun v h => rn 210 6 [l0] (zpush v S) h) else none) ∧
  (∀ (l0 : Value) (x : Int32) (h : zH), rn 210 6 [l0] [.int x] h = if x = nI 0 ∨ x = nI 1 then some (some (.int x), h) else none) := ⟨fun _ _ _ => r_iload_n (show zdec 210 0 = some (.iload_n 0, 1) by decide +kernel) rfl rfl,
  fun _ _ _ => r_iconst (show zdec 210 1 = some (.iconst 0, 1) by decide +kernel) rfl rfl,
  fun _ _ _ => r_iconst (show zdec 210 2 = some (.iconst 2, 1) by decide +kernel) rfl rfl,
  fun _ _ _ _ _ _ => r_cS [_, _, _] rfl (show zdec 210 3 = some (.invokestatic 45, 3) by decide +kernel) (show zst.lookup (210 * zKEY + 45) = some (0, 211, 3, 0) by decide +kernel) (by decide) rfl,
  fun _ _ _ => r_iretb (show zdec 210 6 = some (.ireturn, 1) by decide +kernel) (by decide +kernel)⟩
theorem ze_210 : ∀ (a0 : Int32) (h : zH), ev 210 [.int a0] h = rn 210 0 [.int a0] [] h := fun _ _ => if_pos (Nat.le_of_ble_eq_true rfl)
-- Model.isMonth
theorem zr_212 : (∀ (x : Int32) (S : List Value) (h : zH), rn 212 0 [.int x] S h = rn 212 1 [.int x] (.int x :: S) h) ∧
  (∀ (l0 : Value) (S : List Value) (h : zH), rn 212 1 [l0] S h = rn 212 2 [l0] (.int (nI 0) :: S) h) ∧
  (∀ (l0 : Value) (S : List Value) (h : zH), rn 212 2 [l0] S h = rn 212 4 [l0] (.int (nI 11) :: S) h) ∧
  (∀ (l0 : Value) (v0 : Value) (v1 : Value) (v2 : Value) (S : List Value) (h : zH), rn 212 4 [l0] (v2 :: v1 :: v0 :: S) h = if zsum S ≤ 8 then zcall (ev 211 [v0, v1, v2] h) (fun v h => rn 212 7 [l0] (zpush v S) h) else none) ∧
  (∀ (l0 : Value) (x : Int32) (h : zH), rn 212 7 [l0] [.int x] h = if x = nI 0 ∨ x = nI 1 then some (some (.int x), h) else none) := ⟨fun _ _ _ => r_iload_n (show zdec 212 0 = some (.iload_n 0, 1) by decide +kernel) rfl rfl,
  fun _ _ _ => r_iconst (show zdec 212 1 = some (.iconst 0, 1) by decide +kernel) rfl rfl,
  fun _ _ _ => r_bipush (show zdec 212 2 = some (.bipush 11, 2) by decide +kernel) rfl rfl,
  fun _ _ _ _ _ _ => r_cS [_, _, _] rfl (show zdec 212 4 = some (.invokestatic 45, 3) by decide +kernel) (show zst.lookup (212 * zKEY + 45) = some (0, 211, 3, 0) by decide +kernel) (by decide) rfl,
  fun _ _ _ => r_iretb (show zdec 212 7 = some (.ireturn, 1) by decide +kernel) (by decide +kernel)⟩
theorem ze_212 : ∀ (a0 : Int32) (h : zH), ev 212 [.int a0] h = rn 212 0 [.int a0] [] h := fun _ _ => if_pos (Nat.le_of_ble_eq_true rfl)
-- Model.closedMany
theorem zr_233 : (∀ (x : Nat) (S : List Value) (h : zH), rn 233 0 [.ref x] S h = rn 233 1 [.ref x] (.ref x :: S) h) ∧
  (∀ (l0 : Value) (a : Nat) (S : List Value) (h : zH), rn 233 1 [l0] (.ref a :: S) h = zgf h a 12 0 fun v => rn 233 4 [l0] (v :: S) h) ∧
  (∀ (l0 : Value) (S : List Value) (h : zH), rn 233 4 [l0] S h = rn 233 5 [l0] (.int (nI 0) :: S) h) ∧
  (∀ (l0 : Value) (a : Nat) (j : Int32) (S : List Value) (h : zH), rn 233 5 [l0] (.int j :: .ref a :: S) h = zlj h a j fun x => rn 233 6 [l0] (.long x :: S) h) ∧
  (∀ (l0 : Value) (x : Int64) (S : List Value) (h : zH), rn 233 6 [l0] (.long x :: S) h = rn 233 7 [l0] (.int x.toInt32 :: S) h) ∧
  (∀ (l0 : Value) (x : Int32) (h : zH), rn 233 7 [l0] [.int x] h = some (some (.int x), h)) := ⟨fun _ _ _ => r_aload_nr (show zdec 233 0 = some (.aload_n 0, 1) by decide +kernel) rfl rfl,
  fun _ _ _ _ => r_getfield (show zdec 233 1 = some (.getfield 9, 3) by decide +kernel) (show zft.lookup (233 * zKEY + 9) = some (12, 0) by decide +kernel) rfl,
  fun _ _ _ => r_iconst (show zdec 233 4 = some (.iconst 0, 1) by decide +kernel) rfl rfl,
  fun _ _ _ _ _ => r_lald (show zdec 233 5 = some (.laload, 1) by decide +kernel) rfl,
  fun _ _ _ _ => r_l2i (show zdec 233 6 = some (.l2i, 1) by decide +kernel) rfl,
  fun _ _ _ => r_ireti (show zdec 233 7 = some (.ireturn, 1) by decide +kernel) (by decide +kernel)⟩
theorem ze_233 : ∀ (a0 : Nat) (h : zH), ev 233 [.ref a0] h = rn 233 0 [.ref a0] [] h := fun _ _ => if_pos (Nat.le_of_ble_eq_true rfl)
-- Model.change
theorem zr_214 : (∀ (x : Nat) (S : List Value) (h : zH), rn 214 0 [.ref x] S h = rn 214 1 [.ref x] (.ref x :: S) h) ∧
  (∀ (l0 : Value) (a : Nat) (S : List Value) (h : zH), rn 214 1 [l0] (.ref a :: S) h = zgf h a 12 7 fun v => rn 214 4 [l0] (v :: S) h) ∧
  (∀ (l0 : Value) (x : Int32) (S : List Value) (h : zH), rn 214 4 [l0] (.int x :: S) h = if x = nI 0 then rn 214 7 [l0] S h else rn 214 15 [l0] S h) ∧
  (∀ (x : Nat) (S : List Value) (h : zH), rn 214 7 [.ref x] S h = rn 214 8 [.ref x] (.ref x :: S) h) ∧
  (∀ (x : Nat) (S : List Value) (h : zH), rn 214 8 [.ref x] S h = rn 214 9 [.ref x] (.ref x :: S) h) ∧
  (∀ (l0 : Value) (a : Nat) (S : List Value) (h : zH), rn 214 9 [l0] (.ref a :: S) h = zgf h a 12 0 fun v => rn 214 12 [l0] (v :: S) h) ∧
  (∀ (l0 : Value) (o : Nat) (v0 : Value) (S : List Value) (h : zH), rn 214 12 [l0] (v0 :: .ref o :: S) h = if zkd h o = 12 ∧ zsum S ≤ 8 then zcall (ev 215 [.ref o, v0] h) (fun v h => rn 214 15 [l0] (zpush v S) h) else none) ∧
  (∀ (l0 : Value) (h : zH), rn 214 15 [l0] [] h = some (none, h)) := ⟨fun _ _ _ => r_aload_nr (show zdec 214 0 = some (.aload_n 0, 1) by decide +kernel) rfl rfl,
  fun _ _ _ _ => r_getfield (show zdec 214 1 = some (.getfield 49, 3) by decide +kernel) (show zft.lookup (214 * zKEY + 49) = some (12, 7) by decide +kernel) rfl,
  fun _ _ _ _ => r_ifne (show zdec 214 4 = some (.ifCond .ne 11, 3) by decide +kernel) rfl rfl,
  fun _ _ _ => r_aload_nr (show zdec 214 7 = some (.aload_n 0, 1) by decide +kernel) rfl rfl,
  fun _ _ _ => r_aload_nr (show zdec 214 8 = some (.aload_n 0, 1) by decide +kernel) rfl rfl,
  fun _ _ _ _ => r_getfield (show zdec 214 9 = some (.getfield 9, 3) by decide +kernel) (show zft.lookup (214 * zKEY + 9) = some (12, 0) by decide +kernel) rfl,
  fun _ _ _ _ _ => r_cV [_] rfl (show zdec 214 12 = some (.invokevirtual 53, 3) by decide +kernel) (show zst.lookup (214 * zKEY + 53) = some (1, 215, 1, 12) by decide +kernel) (by decide) rfl,
  fun _ _ => r_vret (show zdec 214 15 = some (.return_, 1) by decide +kernel) (by decide +kernel)⟩
theorem ze_214 : ∀ (a0 : Nat) (h : zH), ev 214 [.ref a0] h = rn 214 0 [.ref a0] [] h := fun _ _ => if_pos (Nat.le_of_ble_eq_true rfl)
-- Model.push
theorem zr_215 : (∀ (l1 : Value) (x : Nat) (S : List Value) (h : zH), rn 215 0 [.ref x, l1] S h = rn 215 1 [.ref x, l1] (.ref x :: S) h) ∧
  (∀ (l0 l1 : Value) (a : Nat) (S : List Value) (h : zH), rn 215 1 [l0, l1] (.ref a :: S) h = zgf h a 12 4 fun v => rn 215 4 [l0, l1] (v :: S) h) ∧
  (∀ (l0 l1 : Value) (S : List Value) (h : zH), rn 215 4 [l0, l1] S h = rn 215 6 [l0, l1] (.int (nI 6) :: S) h) ∧
  (∀ (l0 l1 : Value) (x : Int32) (y : Int32) (S : List Value) (h : zH), rn 215 6 [l0, l1] (.int y :: .int x :: S) h = if x = y then rn 215 9 [l0, l1] S h else rn 215 36 [l0, l1] S h) ∧
  (∀ (l1 : Value) (x : Nat) (S : List Value) (h : zH), rn 215 9 [.ref x, l1] S h = rn 215 10 [.ref x, l1] (.ref x :: S) h) ∧
  (∀ (l0 l1 : Value) (a : Nat) (S : List Value) (h : zH), rn 215 10 [l0, l1] (.ref a :: S) h = zgf h a 12 3 fun v => rn 215 13 [l0, l1] (v :: S) h) ∧
  (∀ (l0 l1 : Value) (S : List Value) (h : zH), rn 215 13 [l0, l1] S h = rn 215 16 [l0, l1] (.int (nI 8271) :: S) h) ∧
  (∀ (l1 : Value) (x : Nat) (S : List Value) (h : zH), rn 215 16 [.ref x, l1] S h = rn 215 17 [.ref x, l1] (.ref x :: S) h) ∧
  (∀ (l0 l1 : Value) (a : Nat) (S : List Value) (h : zH), rn 215 17 [l0, l1] (.ref a :: S) h = zgf h a 12 3 fun v => rn 215 20 [l0, l1] (v :: S) h) ∧
  (∀ (l0 l1 : Value) (S : List Value) (h : zH), rn 215 20 [l0, l1] S h = rn 215 21 [l0, l1] (.int (nI 0) :: S) h) ∧
  (∀ (l0 l1 : Value) (S : List Value) (h : zH), rn 215 21 [l0, l1] S h = rn 215 23 [l0, l1] (.int (nI 41355) :: S) h) ∧
  (∀ (l0 l1 : Value) (s : Nat) (d : Nat) (sp : Int32) (dp : Int32) (x : Int32) (S : List Value) (h : zH), rn 215 23 [l0, l1] (.int x :: .int dp :: .ref d :: .int sp :: .ref s :: S) h = if zsum S ≤ 8 then zcpI h s sp d dp x (fun h => rn 215 26 [l0, l1] S h) else none) ∧
  (∀ (l1 : Value) (x : Nat) (S : List Value) (h : zH), rn 215 26 [.ref x, l1] S h = rn 215 27 [.ref x, l1] (.ref x :: S) h) ∧
  (∀ (l0 l1 : Value) (v : Value) (S : List Value) (h : zH), rn 215 27 [l0, l1] (v :: S) h = c1 v (rn 215 28 [l0, l1] (v :: v :: S) h)) ∧
  (∀ (l0 l1 : Value) (a : Nat) (S : List Value) (h : zH), rn 215 28 [l0, l1] (.ref a :: S) h = zgf h a 12 4 fun v => rn 215 31 [l0, l1] (v :: S) h) ∧
  (∀ (l0 l1 : Value) (S : List Value) (h : zH), rn 215 31 [l0, l1] S h = rn 215 32 [l0, l1] (.int (nI 1) :: S) h) ∧
  (∀ (l0 l1 : Value) (x : Int32) (y : Int32) (S : List Value) (h : zH), rn 215 32 [l0, l1] (.int y :: .int x :: S) h = rn 215 33 [l0, l1] (.int (x - y) :: S) h) ∧
  (∀ (l0 l1 : Value) (a : Nat) (v : Value) (S : List Value) (h : zH), rn 215 33 [l0, l1] (v :: .ref a :: S) h = zpf h a 12 4 v fun h => rn 215 36 [l0, l1] S h) ∧
  (∀ (l0 l1 : Value) (S : List Value) (h : zH), rn 215 36 [l0, l1] S h = ldA l1 (rn 215 37 [l0, l1] (l1 :: S) h)) ∧
  (∀ (l0 l1 : Value) (S : List Value) (h : zH), rn 215 37 [l0, l1] S h = rn 215 38 [l0, l1] (.int (nI 0) :: S) h) ∧
  (∀ (l1 : Value) (x : Nat) (S : List Value) (h : zH), rn 215 38 [.ref x, l1] S h = rn 215 39 [.ref x, l1] (.ref x :: S) h) ∧
  (∀ (l0 l1 : Value) (a : Nat) (S : List Value) (h : zH), rn 215 39 [l0, l1] (.ref a :: S) h = zgf h a 12 3 fun v => rn 215 42 [l0, l1] (v :: S) h) ∧
  (∀ (l0 l1 : Value) (S : List Value) (h : zH), rn 215 42 [l0, l1] S h = rn 215 45 [l0, l1] (.int (nI 8271) :: S) h) ∧
  (∀ (l1 : Value) (x : Nat) (S : List Value) (h : zH), rn 215 45 [.ref x, l1] S h = rn 215 46 [.ref x, l1] (.ref x :: S) h) ∧
  (∀ (l0 l1 : Value) (a : Nat) (S : List Value) (h : zH), rn 215 46 [l0, l1] (.ref a :: S) h = zgf h a 12 4 fun v => rn 215 49 [l0, l1] (v :: S) h) ∧
  (∀ (l0 l1 : Value) (x : Int32) (y : Int32) (S : List Value) (h : zH), rn 215 49 [l0, l1] (.int y :: .int x :: S) h = rn 215 50 [l0, l1] (.int (x * y) :: S) h) ∧
  (∀ (l0 l1 : Value) (S : List Value) (h : zH), rn 215 50 [l0, l1] S h = rn 215 53 [l0, l1] (.int (nI 8271) :: S) h) ∧
  (∀ (l0 l1 : Value) (s : Nat) (d : Nat) (sp : Int32) (dp : Int32) (x : Int32) (S : List Value) (h : zH), rn 215 53 [l0, l1] (.int x :: .int dp :: .ref d :: .int sp :: .ref s :: S) h = if zsum S ≤ 8 then zcpI h s sp d dp x (fun h => rn 215 56 [l0, l1] S h) else none) ∧
  (∀ (l1 : Value) (x : Nat) (S : List Value) (h : zH), rn 215 56 [.ref x, l1] S h = rn 215 57 [.ref x, l1] (.ref x :: S) h) ∧
  (∀ (l0 l1 : Value) (v : Value) (S : List Value) (h : zH), rn 215 57 [l0, l1] (v :: S) h = c1 v (rn 215 58 [l0, l1] (v :: v :: S) h)) ∧
  (∀ (l0 l1 : Value) (a : Nat) (S : List Value) (h : zH), rn 215 58 [l0, l1] (.ref a :: S) h = zgf h a 12 4 fun v => rn 215 61 [l0, l1] (v :: S) h) ∧
  (∀ (l0 l1 : Value) (S : List Value) (h : zH), rn 215 61 [l0, l1] S h = rn 215 62 [l0, l1] (.int (nI 1) :: S) h) ∧
  (∀ (l0 l1 : Value) (x : Int32) (y : Int32) (S : List Value) (h : zH), rn 215 62 [l0, l1] (.int y :: .int x :: S) h = rn 215 63 [l0, l1] (.int (x + y) :: S) h) ∧
  (∀ (l0 l1 : Value) (a : Nat) (v : Value) (S : List Value) (h : zH), rn 215 63 [l0, l1] (v :: .ref a :: S) h = zpf h a 12 4 v fun h => rn 215 66 [l0, l1] S h) ∧
  (∀ (l0 l1 : Value) (h : zH), rn 215 66 [l0, l1] [] h = some (none, h)) := ⟨fun _ _ _ _ => r_aload_nr (show zdec 215 0 = some (.aload_n 0, 1) by decide +kernel) rfl rfl,
  fun _ _ _ _ _ => r_getfield (show zdec 215 1 = some (.getfield 57, 3) by decide +kernel) (show zft.lookup (215 * zKEY + 57) = some (12, 4) by decide +kernel) rfl,
  fun _ _ _ _ => r_bipush (show zdec 215 4 = some (.bipush 6, 2) by decide +kernel) rfl rfl,
  fun _ _ _ _ _ _ => r_icmpne (show zdec 215 6 = some (.if_icmp .ne 30, 3) by decide +kernel) rfl rfl,
  fun _ _ _ _ => r_aload_nr (show zdec 215 9 = some (.aload_n 0, 1) by decide +kernel) rfl rfl,
  fun _ _ _ _ _ => r_getfield (show zdec 215 10 = some (.getfield 17, 3) by decide +kernel) (show zft.lookup (215 * zKEY + 17) = some (12, 3) by decide +kernel) rfl,
  fun _ _ _ _ => r_sipush (show zdec 215 13 = some (.sipush 8271, 3) by decide +kernel) rfl rfl,
  fun _ _ _ _ => r_aload_nr (show zdec 215 16 = some (.aload_n 0, 1) by decide +kernel) rfl rfl,
  fun _ _ _ _ _ => r_getfield (show zdec 215 17 = some (.getfield 17, 3) by decide +kernel) (show zft.lookup (215 * zKEY + 17) = some (12, 3) by decide +kernel) rfl,
  fun _ _ _ _ => r_iconst (show zdec 215 20 = some (.iconst 0, 1) by decide +kernel) rfl rfl,
  fun _ _ _ _ => r_ldcI (show zdec 215 21 = some (.ldc 61, 2) by decide +kernel) (show zkt.lookup (215 * zKEY + 61) = some 41355 by decide +kernel) rfl,
  fun _ _ _ _ _ _ _ _ _ => r_cA (show zdec 215 23 = some (.invokestatic 62, 3) by decide +kernel) (show zst.lookup (215 * zKEY + 62) = some (8, 0, 5, 0) by decide +kernel) rfl,
  fun _ _ _ _ => r_aload_nr (show zdec 215 26 = some (.aload_n 0, 1) by decide +kernel) rfl rfl,
  fun _ _ _ _ _ => r_dup (show zdec 215 27 = some (.dup, 1) by decide +kernel) rfl,
  fun _ _ _ _ _ => r_getfield (show zdec 215 28 = some (.getfield 57, 3) by decide +kernel) (show zft.lookup (215 * zKEY + 57) = some (12, 4) by decide +kernel) rfl,
  fun _ _ _ _ => r_iconst (show zdec 215 31 = some (.iconst 1, 1) by decide +kernel) rfl rfl,
  fun _ _ _ _ _ _ => r_isub (show zdec 215 32 = some (.isub, 1) by decide +kernel) rfl,
  fun _ _ _ _ _ _ => r_putfield (show zdec 215 33 = some (.putfield 57, 3) by decide +kernel) (show zft.lookup (215 * zKEY + 57) = some (12, 4) by decide +kernel) (by decide +kernel) rfl,
  fun _ _ _ _ => r_aload_n (show zdec 215 36 = some (.aload_n 1, 1) by decide +kernel) rfl rfl,
  fun _ _ _ _ => r_iconst (show zdec 215 37 = some (.iconst 0, 1) by decide +kernel) rfl rfl,
  fun _ _ _ _ => r_aload_nr (show zdec 215 38 = some (.aload_n 0, 1) by decide +kernel) rfl rfl,
  fun _ _ _ _ _ => r_getfield (show zdec 215 39 = some (.getfield 17, 3) by decide +kernel) (show zft.lookup (215 * zKEY + 17) = some (12, 3) by decide +kernel) rfl,
  fun _ _ _ _ => r_sipush (show zdec 215 42 = some (.sipush 8271, 3) by decide +kernel) rfl rfl,
  fun _ _ _ _ => r_aload_nr (show zdec 215 45 = some (.aload_n 0, 1) by decide +kernel) rfl rfl,
  fun _ _ _ _ _ => r_getfield (show zdec 215 46 = some (.getfield 57, 3) by decide +kernel) (show zft.lookup (215 * zKEY + 57) = some (12, 4) by decide +kernel) rfl,
  fun _ _ _ _ _ _ => r_imul (show zdec 215 49 = some (.imul, 1) by decide +kernel) rfl,
  fun _ _ _ _ => r_sipush (show zdec 215 50 = some (.sipush 8271, 3) by decide +kernel) rfl rfl,
  fun _ _ _ _ _ _ _ _ _ => r_cA (show zdec 215 53 = some (.invokestatic 62, 3) by decide +kernel) (show zst.lookup (215 * zKEY + 62) = some (8, 0, 5, 0) by decide +kernel) rfl,
  fun _ _ _ _ => r_aload_nr (show zdec 215 56 = some (.aload_n 0, 1) by decide +kernel) rfl rfl,
  fun _ _ _ _ _ => r_dup (show zdec 215 57 = some (.dup, 1) by decide +kernel) rfl,
  fun _ _ _ _ _ => r_getfield (show zdec 215 58 = some (.getfield 57, 3) by decide +kernel) (show zft.lookup (215 * zKEY + 57) = some (12, 4) by decide +kernel) rfl,
  fun _ _ _ _ => r_iconst (show zdec 215 61 = some (.iconst 1, 1) by decide +kernel) rfl rfl,
  fun _ _ _ _ _ _ => r_iadd (show zdec 215 62 = some (.iadd, 1) by decide +kernel) rfl,
  fun _ _ _ _ _ _ => r_putfield (show zdec 215 63 = some (.putfield 57, 3) by decide +kernel) (show zft.lookup (215 * zKEY + 57) = some (12, 4) by decide +kernel) (by decide +kernel) rfl,
  fun _ _ _ => r_vret (show zdec 215 66 = some (.return_, 1) by decide +kernel) (by decide +kernel)⟩
theorem ze_215 : ∀ (a0 : Nat) (a1 : Nat) (h : zH), ev 215 [.ref a0, .ref a1] h = rn 215 0 [.ref a0, .ref a1] [] h := fun _ _ _ => if_pos (Nat.le_of_ble_eq_true rfl)
-- Model.set
theorem zr_213 : (∀ (l1 l2 l3 : Value) (x : Nat) (S : List Value) (h : zH), rn 213 0 [.ref x, l1, l2, l3] S h = rn 213 1 [.ref x, l1, l2, l3] (.ref x :: S) h) ∧
  (∀ (l0 l1 l2 l3 : Value) (o : Nat) (S : List Value) (h : zH), rn 213 1 [l0, l1, l2, l3] (.ref o :: S) h = if zkd h o = 12 ∧ zsum S ≤ 8 then zcall (ev 214 [.ref o] h) (fun v h => rn 213 4 [l0, l1, l2, l3] (zpush v S) h) else none) ∧
  (∀ (l1 l2 l3 : Value) (x : Nat) (S : List Value) (h : zH), rn 213 4 [.ref x, l1, l2, l3] S h = rn 213 5 [.ref x, l1, l2, l3] (.ref x :: S) h) ∧
  (∀ (l0 l1 l2 l3 : Value) (a : Nat) (S : List Value) (h : zH), rn 213 5 [l0, l1, l2, l3] (.ref a :: S) h = zgf h a 12 0 fun v => rn 213 8 [l0, l1, l2, l3] (v :: S) h) ∧
  (∀ (l0 l2 l3 : Value) (x : Int32) (S : List Value) (h : zH), rn 213 8 [l0, .int x, l2, l3] S h = rn 213 9 [l0, .int x, l2, l3] (.int x :: S) h) ∧
  (∀ (l0 l1 l2 l3 : Value) (a : Nat) (j : Int32) (S : List Value) (h : zH), rn 213 9 [l0, l1, l2, l3] (.int j :: .ref a :: S) h = zlj h a j fun x => rn 213 10 [l0, l1, l2, l3] (.long x :: S) h) ∧
  (∀ (l0 l1 l2 l3 : Value) (x : Int64) (S : List Value) (h : zH), rn 213 10 [l0, l1, l2, l3] (.long x :: S) h = rn 213 11 [l0, l1, l2, l3] (.int x.toInt32 :: S) h) ∧
  (∀ (l0 l1 l2 l3 : Value) (x : Int32) (S : List Value) (h : zH), rn 213 11 [l0, l1, l2, l3] (.int x :: S) h = nl l2 (rn 213 12 [l0, l1, l2, .int x] S h)) ∧
  (∀ (l1 l2 l3 : Value) (x : Nat) (S : List Value) (h : zH), rn 213 12 [.ref x, l1, l2, l3] S h = rn 213 13 [.ref x, l1, l2, l3] (.ref x :: S) h) ∧
  (∀ (l0 l1 l2 l3 : Value) (a : Nat) (S : List Value) (h : zH), rn 213 13 [l0, l1, l2, l3] (.ref a :: S) h = zgf h a 12 0 fun v => rn 213 16 [l0, l1, l2, l3] (v :: S) h) ∧
  (∀ (l0 l2 l3 : Value) (x : Int32) (S : List Value) (h : zH), rn 213 16 [l0, .int x, l2, l3] S h = rn 213 17 [l0, .int x, l2, l3] (.int x :: S) h) ∧
  (∀ (l0 l1 l3 : Value) (x : Int32) (S : List Value) (h : zH), rn 213 17 [l0, l1, .int x, l3] S h = rn 213 18 [l0, l1, .int x, l3] (.int x :: S) h) ∧
  (∀ (l0 l1 l2 l3 : Value) (x : Int32) (S : List Value) (h : zH), rn 213 18 [l0, l1, l2, l3] (.int x :: S) h = rn 213 19 [l0, l1, l2, l3] (.long x.toInt64 :: S) h) ∧
  (∀ (l0 l1 l2 l3 : Value) (a : Nat) (j : Int32) (x : Int64) (S : List Value) (h : zH), rn 213 19 [l0, l1, l2, l3] (.long x :: .int j :: .ref a :: S) h = zsj h a j x fun h => rn 213 20 [l0, l1, l2, l3] S h) ∧
  (∀ (l0 l1 l2 : Value) (x : Int32) (S : List Value) (h : zH), rn 213 20 [l0, l1, l2, .int x] S h = rn 213 21 [l0, l1, l2, .int x] (.int x :: S) h) ∧
  (∀ (l0 l1 l2 l3 : Value) (x : Int32) (h : zH), rn 213 21 [l0, l1, l2, l3] [.int x] h = some (some (.int x), h)) := ⟨fun _ _ _ _ _ _ => r_aload_nr (show zdec 213 0 = some (.aload_n 0, 1) by decide +kernel) rfl rfl,
  fun _ _ _ _ _ _ _ => r_cV [] rfl (show zdec 213 1 = some (.invokevirtual 68, 3) by decide +kernel) (show zst.lookup (213 * zKEY + 68) = some (1, 214, 0, 12) by decide +kernel) (by decide) rfl,
  fun _ _ _ _ _ _ => r_aload_nr (show zdec 213 4 = some (.aload_n 0, 1) by decide +kernel) rfl rfl,
  fun _ _ _ _ _ _ _ => r_getfield (show zdec 213 5 = some (.getfield 9, 3) by decide +kernel) (show zft.lookup (213 * zKEY + 9) = some (12, 0) by decide +kernel) rfl,
  fun _ _ _ _ _ _ => r_iload_n (show zdec 213 8 = some (.iload_n 1, 1) by decide +kernel) rfl rfl,
  fun _ _ _ _ _ _ _ _ => r_lald (show zdec 213 9 = some (.laload, 1) by decide +kernel) rfl,
  fun _ _ _ _ _ _ _ => r_l2i (show zdec 213 10 = some (.l2i, 1) by decide +kernel) rfl,
  fun _ _ _ _ _ _ _ => r_istore_n (show zdec 213 11 = some (.istore_n 3, 1) by decide +kernel) rfl rfl (Nat.le_of_ble_eq_true rfl) rfl rfl,
  fun _ _ _ _ _ _ => r_aload_nr (show zdec 213 12 = some (.aload_n 0, 1) by decide +kernel) rfl rfl,
  fun _ _ _ _ _ _ _ => r_getfield (show zdec 213 13 = some (.getfield 9, 3) by decide +kernel) (show zft.lookup (213 * zKEY + 9) = some (12, 0) by decide +kernel) rfl,
  fun _ _ _ _ _ _ => r_iload_n (show zdec 213 16 = some (.iload_n 1, 1) by decide +kernel) rfl rfl,
  fun _ _ _ _ _ _ => r_iload_n (show zdec 213 17 = some (.iload_n 2, 1) by decide +kernel) rfl rfl,
  fun _ _ _ _ _ _ _ => r_i2l (show zdec 213 18 = some (.i2l, 1) by decide +kernel) rfl,
  fun _ _ _ _ _ _ _ _ _ => r_last (show zdec 213 19 = some (.lastore, 1) by decide +kernel) rfl,
  fun _ _ _ _ _ _ => r_iload_n (show zdec 213 20 = some (.iload_n 3, 1) by decide +kernel) rfl rfl,
  fun _ _ _ _ _ _ => r_ireti (show zdec 213 21 = some (.ireturn, 1) by decide +kernel) (by decide +kernel)⟩
theorem ze_213 : ∀ (a0 : Nat) (a1 : Int32) (a2 : Int32) (h : zH), ev 213 [.ref a0, .int a1, .int a2] h = rn 213 0 [.ref a0, .int a1, .int a2, .float 0] [] h := fun _ _ _ _ => if_pos (Nat.le_of_ble_eq_true rfl)
-- Model.salary
theorem zr_209 : (∀ (l0 l2 l3 l4 l5 : Value) (x : Int32) (S : List Value) (h : zH), rn 209 0 [l0, .int x, l2, l3, l4, l5] S h = rn 209 1 [l0, .int x, l2, l3, l4, l5] (.int x :: S) h) ∧
  (∀ (l0 l1 l2 l3 l4 l5 : Value) (v0 : Value) (S : List Value) (h : zH), rn 209 1 [l0, l1, l2, l3, l4, l5] (v0 :: S) h = if zsum S ≤ 8 then zcall (ev 210 [v0] h) (fun v h => rn 209 4 [l0, l1, l2, l3, l4, l5] (zpush v S) h) else none) ∧
  (∀ (l0 l1 l2 l3 l4 l5 : Value) (x : Int32) (S : List Value) (h : zH), rn 209 4 [l0, l1, l2, l3, l4, l5] (.int x :: S) h = if x = nI 0 then rn 209 25 [l0, l1, l2, l3, l4, l5] S h else rn 209 7 [l0, l1, l2, l3, l4, l5] S h) ∧
  (∀ (l0 l1 l3 l4 l5 : Value) (x : Int32) (S : List Value) (h : zH), rn 209 7 [l0, l1, .int x, l3, l4, l5] S h = rn 209 8 [l0, l1, .int x, l3, l4, l5] (.int x :: S) h) ∧
  (∀ (l0 l1 l2 l3 l4 l5 : Value) (v0 : Value) (S : List Value) (h : zH), rn 209 8 [l0, l1, l2, l3, l4, l5] (v0 :: S) h = if zsum S ≤ 8 then zcall (ev 212 [v0] h) (fun v h => rn 209 11 [l0, l1, l2, l3, l4, l5] (zpush v S) h) else none) ∧
  (∀ (l0 l1 l2 l3 l4 l5 : Value) (x : Int32) (S : List Value) (h : zH), rn 209 11 [l0, l1, l2, l3, l4, l5] (.int x :: S) h = if x = nI 0 then rn 209 25 [l0, l1, l2, l3, l4, l5] S h else rn 209 14 [l0, l1, l2, l3, l4, l5] S h) ∧
  (∀ (l0 l1 l2 l4 l5 : Value) (x : Int32) (S : List Value) (h : zH), rn 209 14 [l0, l1, l2, .int x, l4, l5] S h = rn 209 15 [l0, l1, l2, .int x, l4, l5] (.int x :: S) h) ∧
  (∀ (l0 l1 l2 l3 l4 l5 : Value) (S : List Value) (h : zH), rn 209 15 [l0, l1, l2, l3, l4, l5] S h = rn 209 16 [l0, l1, l2, l3, l4, l5] (.int (nI 0) :: S) h) ∧
  (∀ (l0 l1 l2 l3 l4 l5 : Value) (S : List Value) (h : zH), rn 209 16 [l0, l1, l2, l3, l4, l5] S h = rn 209 19 [l0, l1, l2, l3, l4, l5] (.int (nI 9999) :: S) h) ∧
  (∀ (l0 l1 l2 l3 l4 l5 : Value) (v0 : Value) (v1 : Value) (v2 : Value) (S : List Value) (h : zH), rn 209 19 [l0, l1, l2, l3, l4, l5] (v2 :: v1 :: v0 :: S) h = if zsum S ≤ 8 then zcall (ev 211 [v0, v1, v2] h) (fun v h => rn 209 22 [l0, l1, l2, l3, l4, l5] (zpush v S) h) else none) ∧
  (∀ (l0 l1 l2 l3 l4 l5 : Value) (x : Int32) (S : List Value) (h : zH), rn 209 22 [l0, l1, l2, l3, l4, l5] (.int x :: S) h = if x = nI 0 then rn 209 25 [l0, l1, l2, l3, l4, l5] S h else rn 209 27 [l0, l1, l2, l3, l4, l5] S h) ∧
  (∀ (l0 l1 l2 l3 l4 l5 : Value) (S : List Value) (h : zH), rn 209 25 [l0, l1, l2, l3, l4, l5] S h = rn 209 26 [l0, l1, l2, l3, l4, l5] (.int (-1) :: S) h) ∧
  (∀ (l0 l1 l2 l3 l4 l5 : Value) (x : Int32) (h : zH), rn 209 26 [l0, l1, l2, l3, l4, l5] [.int x] h = some (some (.int x), h)) ∧
  (∀ (l1 l2 l3 l4 l5 : Value) (x : Nat) (S : List Value) (h : zH), rn 209 27 [.ref x, l1, l2, l3, l4, l5] S h = rn 209 28 [.ref x, l1, l2, l3, l4, l5] (.ref x :: S) h) ∧
  (∀ (l0 l2 l3 l4 l5 : Value) (x : Int32) (S : List Value) (h : zH), rn 209 28 [l0, .int x, l2, l3, l4, l5] S h = rn 209 29 [l0, .int x, l2, l3, l4, l5] (.int x :: S) h) ∧
  (∀ (l0 l1 l2 l3 l4 l5 : Value) (S : List Value) (h : zH), rn 209 29 [l0, l1, l2, l3, l4, l5] S h = rn 209 30 [l0, l1, l2, l3, l4, l5] (.int (nI 2) :: S) h) ∧
  (∀ (l0 l1 l3 l4 l5 : Value) (x : Int32) (S : List Value) (h : zH), rn 209 30 [l0, l1, .int x, l3, l4, l5] S h = rn 209 31 [l0, l1, .int x, l3, l4, l5] (.int x :: S) h) ∧
  (∀ (l0 l1 l2 l3 l4 l5 : Value) (x : Int32) (y : Int32) (S : List Value) (h : zH), rn 209 31 [l0, l1, l2, l3, l4, l5] (.int y :: .int x :: S) h = rn 209 32 [l0, l1, l2, l3, l4, l5] (.int (x + y) :: S) h) ∧
  (∀ (l0 l1 l2 l3 l4 l5 : Value) (v0 : Value) (v1 : Value) (S : List Value) (h : zH), rn 209 32 [l0, l1, l2, l3, l4, l5] (v1 :: v0 :: S) h = if zsum S ≤ 8 then zcall (ev 208 [v0, v1] h) (fun v h => rn 209 35 [l0, l1, l2, l3, l4, l5] (zpush v S) h) else none) ∧
  (∀ (l0 l1 l2 l4 l5 : Value) (x : Int32) (S : List Value) (h : zH), rn 209 35 [l0, l1, l2, .int x, l4, l5] S h = rn 209 36 [l0, l1, l2, .int x, l4, l5] (.int x :: S) h) ∧
  (∀ (l0 l1 l2 l3 l4 l5 : Value) (o : Nat) (v0 : Value) (v1 : Value) (S : List Value) (h : zH), rn 209 36 [l0, l1, l2, l3, l4, l5] (v1 :: v0 :: .ref o :: S) h = if zkd h o = 12 ∧ zsum S ≤ 8 then zcall (ev 213 [.ref o, v0, v1] h) (fun v h => rn 209 39 [l0, l1, l2, l3, l4, l5] (zpush v S) h) else none) ∧
  (∀ (l0 l1 l2 l3 l4 l5 : Value) (x : Int32) (S : List Value) (h : zH), rn 209 39 [l0, l1, l2, l3, l4, l5] (.int x :: S) h = nl l3 (rn 209 41 [l0, l1, l2, l3, .int x, l5] S h)) ∧
  (∀ (l0 l1 l3 l4 l5 : Value) (x : Int32) (S : List Value) (h : zH), rn 209 41 [l0, l1, .int x, l3, l4, l5] S h = rn 209 42 [l0, l1, .int x, l3, l4, l5] (.int x :: S) h) ∧
  (∀ (l0 l1 l2 l3 l4 l5 : Value) (S : List Value) (h : zH), rn 209 42 [l0, l1, l2, l3, l4, l5] S h = rn 209 43 [l0, l1, l2, l3, l4, l5] (.int (nI 1) :: S) h) ∧
  (∀ (l0 l1 l2 l3 l4 l5 : Value) (x : Int32) (y : Int32) (S : List Value) (h : zH), rn 209 43 [l0, l1, l2, l3, l4, l5] (.int y :: .int x :: S) h = rn 209 44 [l0, l1, l2, l3, l4, l5] (.int (x + y) :: S) h) ∧
  (∀ (l0 l1 l2 l3 l4 l5 : Value) (x : Int32) (S : List Value) (h : zH), rn 209 44 [l0, l1, l2, l3, l4, l5] (.int x :: S) h = nl l4 (rn 209 46 [l0, l1, l2, l3, l4, .int x] S h)) ∧
  (∀ (l0 l1 l2 l3 l4 l5 : Value) (S : List Value) (h : zH), rn 209 48 [l0, l1, l2, l3, l4, l5] S h = rn 209 50 [l0, l1, l2, l3, l4, l5] (.int (nI 12) :: S) h) ∧
  (∀ (l0 l1 l2 l3 l4 l5 : Value) (x : Int32) (y : Int32) (S : List Value) (h : zH), rn 209 50 [l0, l1, l2, l3, l4, l5] (.int y :: .int x :: S) h = if y ≤ x then rn 209 74 [l0, l1, l2, l3, l4, l5] S h else rn 209 53 [l0, l1, l2, l3, l4, l5] S h) ∧
  (∀ (l1 l2 l3 l4 l5 : Value) (x : Nat) (S : List Value) (h : zH), rn 209 53 [.ref x, l1, l2, l3, l4, l5] S h = rn 209 54 [.ref x, l1, l2, l3, l4, l5] (.ref x :: S) h) ∧
  (∀ (l0 l1 l2 l3 l4 l5 : Value) (a : Nat) (S : List Value) (h : zH), rn 209 54 [l0, l1, l2, l3, l4, l5] (.ref a :: S) h = zgf h a 12 0 fun v => rn 209 57 [l0, l1, l2, l3, l4, l5] (v :: S) h) ∧
  (∀ (l0 l2 l3 l4 l5 : Value) (x : Int32) (S : List Value) (h : zH), rn 209 57 [l0, .int x, l2, l3, l4, l5] S h = rn 209 58 [l0, .int x, l2, l3, l4, l5] (.int x :: S) h) ∧
  (∀ (l0 l1 l2 l3 l4 l5 : Value) (S : List Value) (h : zH), rn 209 58 [l0, l1, l2, l3, l4, l5] S h = rn 209 59 [l0, l1, l2, l3, l4, l5] (.int (nI 2) :: S) h) ∧
  (∀ (l0 l1 l2 l3 l4 : Value) (x : Int32) (S : List Value) (h : zH), rn 209 59 [l0, l1, l2, l3, l4, .int x] S h = rn 209 61 [l0, l1, l2, l3, l4, .int x] (.int x :: S) h) ∧
  (∀ (l0 l1 l2 l3 l4 l5 : Value) (x : Int32) (y : Int32) (S : List Value) (h : zH), rn 209 61 [l0, l1, l2, l3, l4, l5] (.int y :: .int x :: S) h = rn 209 62 [l0, l1, l2, l3, l4, l5] (.int (x + y) :: S) h) ∧
  (∀ (l0 l1 l2 l3 l4 l5 : Value) (v0 : Value) (v1 : Value) (S : List Value) (h : zH), rn 209 62 [l0, l1, l2, l3, l4, l5] (v1 :: v0 :: S) h = if zsum S ≤ 8 then zcall (ev 208 [v0, v1] h) (fun v h => rn 209 65 [l0, l1, l2, l3, l4, l5] (zpush v S) h) else none) ∧
  (∀ (l0 l1 l2 l4 l5 : Value) (x : Int32) (S : List Value) (h : zH), rn 209 65 [l0, l1, l2, .int x, l4, l5] S h = rn 209 66 [l0, l1, l2, .int x, l4, l5] (.int x :: S) h) ∧
  (∀ (l0 l1 l2 l3 l4 l5 : Value) (x : Int32) (S : List Value) (h : zH), rn 209 66 [l0, l1, l2, l3, l4, l5] (.int x :: S) h = rn 209 67 [l0, l1, l2, l3, l4, l5] (.long x.toInt64 :: S) h) ∧
  (∀ (l0 l1 l2 l3 l4 l5 : Value) (a : Nat) (j : Int32) (x : Int64) (S : List Value) (h : zH), rn 209 67 [l0, l1, l2, l3, l4, l5] (.long x :: .int j :: .ref a :: S) h = zsj h a j x fun h => rn 209 68 [l0, l1, l2, l3, l4, l5] S h) ∧
  (∀ (l0 l1 l2 l3 l4 : Value) (x : Int32) (S : List Value) (h : zH), rn 209 68 [l0, l1, l2, l3, l4, .int x] S h = nl l4 (rn 209 71 [l0, l1, l2, l3, l4, .int (x + (nI 1))] S h)) ∧
  (∀ (l0 l1 l2 l3 l4 l5 : Value) (S : List Value) (h : zH), rn 209 71 [l0, l1, l2, l3, l4, l5] S h = rn 209 46 [l0, l1, l2, l3, l4, l5] S h) ∧
  (∀ (l0 l1 l2 l3 l5 : Value) (x : Int32) (S : List Value) (h : zH), rn 209 74 [l0, l1, l2, l3, .int x, l5] S h = rn 209 76 [l0, l1, l2, l3, .int x, l5] (.int x :: S) h) ∧
  (∀ (l0 l1 l2 l3 l4 l5 : Value) (x : Int32) (h : zH), rn 209 76 [l0, l1, l2, l3, l4, l5] [.int x] h = some (some (.int x), h)) := ⟨fun _ _ _ _ _ _ _ _ => r_iload_n (show zdec 209 0 = some (.iload_n 1, 1) by decide +kernel) rfl rfl,
  fun _ _ _ _ _ _ _ _ _ => r_cS [_] rfl (show zdec 209 1 = some (.invokestatic 71, 3) by decide +kernel) (show zst.lookup (209 * zKEY + 71) = some (0, 210, 1, 0) by decide +kernel) (by decide) rfl,
  fun _ _ _ _ _ _ _ _ _ => r_ifeq (show zdec 209 4 = some (.ifCond .eq 21, 3) by decide +kernel) rfl rfl,
  fun _ _ _ _ _ _ _ _ => r_iload_n (show zdec 209 7 = some (.iload_n 2, 1) by decide +kernel) rfl rfl,
  fun _ _ _ _ _ _ _ _ _ => r_cS [_] rfl (show zdec 209 8 = some (.invokestatic 75, 3) by decide +kernel) (show zst.lookup (209 * zKEY + 75) = some (0, 212, 1, 0) by decide +kernel) (by decide) rfl,
  fun _ _ _ _ _ _ _ _ _ => r_ifeq (show zdec 209 11 = some (.ifCond .eq 14, 3) by decide +kernel) rfl rfl,
  fun _ _ _ _ _ _ _ _ => r_iload_n (show zdec 209 14 = some (.iload_n 3, 1) by decide +kernel) rfl rfl,
  fun _ _ _ _ _ _ _ _ => r_iconst (show zdec 209 15 = some (.iconst 0, 1) by decide +kernel) rfl rfl,
  fun _ _ _ _ _ _ _ _ => r_sipush (show zdec 209 16 = some (.sipush 9999, 3) by decide +kernel) rfl rfl,
  fun _ _ _ _ _ _ _ _ _ _ _ => r_cS [_, _, _] rfl (show zdec 209 19 = some (.invokestatic 45, 3) by decide +kernel) (show zst.lookup (209 * zKEY + 45) = some (0, 211, 3, 0) by decide +kernel) (by decide) rfl,
  fun _ _ _ _ _ _ _ _ _ => r_ifne (show zdec 209 22 = some (.ifCond .ne 5, 3) by decide +kernel) rfl rfl,
  fun _ _ _ _ _ _ _ _ => r_iconst (show zdec 209 25 = some (.iconst (-1), 1) by decide +kernel) rfl rfl,
  fun _ _ _ _ _ _ _ _ => r_ireti (show zdec 209 26 = some (.ireturn, 1) by decide +kernel) (by decide +kernel),
  fun _ _ _ _ _ _ _ _ => r_aload_nr (show zdec 209 27 = some (.aload_n 0, 1) by decide +kernel) rfl rfl,
  fun _ _ _ _ _ _ _ _ => r_iload_n (show zdec 209 28 = some (.iload_n 1, 1) by decide +kernel) rfl rfl,
  fun _ _ _ _ _ _ _ _ => r_iconst (show zdec 209 29 = some (.iconst 2, 1) by decide +kernel) rfl rfl,
  fun _ _ _ _ _ _ _ _ => r_iload_n (show zdec 209 30 = some (.iload_n 2, 1) by decide +kernel) rfl rfl,
  fun _ _ _ _ _ _ _ _ _ _ => r_iadd (show zdec 209 31 = some (.iadd, 1) by decide +kernel) rfl,
  fun _ _ _ _ _ _ _ _ _ _ => r_cS [_, _] rfl (show zdec 209 32 = some (.invokestatic 39, 3) by decide +kernel) (show zst.lookup (209 * zKEY + 39) = some (0, 208, 2, 0) by decide +kernel) (by decide) rfl,
  fun _ _ _ _ _ _ _ _ => r_iload_n (show zdec 209 35 = some (.iload_n 3, 1) by decide +kernel) rfl rfl,
  fun _ _ _ _ _ _ _ _ _ _ _ => r_cV [_, _] rfl (show zdec 209 36 = some (.invokevirtual 78, 3) by decide +kernel) (show zst.lookup (209 * zKEY + 78) = some (1, 213, 2, 12) by decide +kernel) (by decide) rfl,
  fun _ _ _ _ _ _ _ _ _ => r_istore (show zdec 209 39 = some (.istore 4, 2) by decide +kernel) rfl (Nat.le_of_ble_eq_true rfl) rfl rfl,
  fun _ _ _ _ _ _ _ _ => r_iload_n (show zdec 209 41 = some (.iload_n 2, 1) by decide +kernel) rfl rfl,
  fun _ _ _ _ _ _ _ _ => r_iconst (show zdec 209 42 = some (.iconst 1, 1) by decide +kernel) rfl rfl,
  fun _ _ _ _ _ _ _ _ _ _ => r_iadd (show zdec 209 43 = some (.iadd, 1) by decide +kernel) rfl,
  fun _ _ _ _ _ _ _ _ _ => r_istore (show zdec 209 44 = some (.istore 5, 2) by decide +kernel) rfl (Nat.le_of_ble_eq_true rfl) rfl rfl,
  fun _ _ _ _ _ _ _ _ => r_bipush (show zdec 209 48 = some (.bipush 12, 2) by decide +kernel) rfl rfl,
  fun _ _ _ _ _ _ _ _ _ _ => r_icmpge (show zdec 209 50 = some (.if_icmp .ge 24, 3) by decide +kernel) rfl rfl,
  fun _ _ _ _ _ _ _ _ => r_aload_nr (show zdec 209 53 = some (.aload_n 0, 1) by decide +kernel) rfl rfl,
  fun _ _ _ _ _ _ _ _ _ => r_getfield (show zdec 209 54 = some (.getfield 9, 3) by decide +kernel) (show zft.lookup (209 * zKEY + 9) = some (12, 0) by decide +kernel) rfl,
  fun _ _ _ _ _ _ _ _ => r_iload_n (show zdec 209 57 = some (.iload_n 1, 1) by decide +kernel) rfl rfl,
  fun _ _ _ _ _ _ _ _ => r_iconst (show zdec 209 58 = some (.iconst 2, 1) by decide +kernel) rfl rfl,
  fun _ _ _ _ _ _ _ _ => r_iload (show zdec 209 59 = some (.iload 5, 2) by decide +kernel) rfl rfl,
  fun _ _ _ _ _ _ _ _ _ _ => r_iadd (show zdec 209 61 = some (.iadd, 1) by decide +kernel) rfl,
  fun _ _ _ _ _ _ _ _ _ _ => r_cS [_, _] rfl (show zdec 209 62 = some (.invokestatic 39, 3) by decide +kernel) (show zst.lookup (209 * zKEY + 39) = some (0, 208, 2, 0) by decide +kernel) (by decide) rfl,
  fun _ _ _ _ _ _ _ _ => r_iload_n (show zdec 209 65 = some (.iload_n 3, 1) by decide +kernel) rfl rfl,
  fun _ _ _ _ _ _ _ _ _ => r_i2l (show zdec 209 66 = some (.i2l, 1) by decide +kernel) rfl,
  fun _ _ _ _ _ _ _ _ _ _ _ => r_last (show zdec 209 67 = some (.lastore, 1) by decide +kernel) rfl,
  fun _ _ _ _ _ _ _ _ => r_iinc (show zdec 209 68 = some (.iinc 5 1, 3) by decide +kernel) rfl rfl rfl (Nat.le_of_ble_eq_true rfl) rfl rfl,
  fun _ _ _ _ _ _ _ _ => r_goto (show zdec 209 71 = some (.goto (-25), 3) by decide +kernel) rfl,
  fun _ _ _ _ _ _ _ _ => r_iload (show zdec 209 74 = some (.iload 4, 2) by decide +kernel) rfl rfl,
  fun _ _ _ _ _ _ _ _ => r_ireti (show zdec 209 76 = some (.ireturn, 1) by decide +kernel) (by decide +kernel)⟩
theorem zl_209_46 : ∀ (l0 l1 l2 l3 l4 : Value) (x : Int32) (S : List Value) (h : zH), rn 209 46 [l0, l1, l2, l3, l4, .int x] S h = rn 209 48 [l0, l1, l2, l3, l4, .int x] (.int x :: S) h := fun _ _ _ _ _ _ _ _ => r_iload (show zdec 209 46 = some (.iload 5, 2) by decide +kernel) rfl rfl
theorem ze_209 : ∀ (a0 : Nat) (a1 : Int32) (a2 : Int32) (a3 : Int32) (h : zH), ev 209 [.ref a0, .int a1, .int a2, .int a3] h = rn 209 0 [.ref a0, .int a1, .int a2, .int a3, .float 0, .float 0] [] h := fun _ _ _ _ _ => if_pos (Nat.le_of_ble_eq_true rfl)
-- Model.days
theorem zr_216 : (∀ (l0 l2 l3 : Value) (x : Int32) (S : List Value) (h : zH), rn 216 0 [l0, .int x, l2, l3] S h = rn 216 1 [l0, .int x, l2, l3] (.int x :: S) h) ∧
  (∀ (l0 l1 l2 l3 : Value) (v0 : Value) (S : List Value) (h : zH), rn 216 1 [l0, l1, l2, l3] (v0 :: S) h = if zsum S ≤ 8 then zcall (ev 210 [v0] h) (fun v h => rn 216 4 [l0, l1, l2, l3] (zpush v S) h) else none) ∧
  (∀ (l0 l1 l2 l3 : Value) (x : Int32) (S : List Value) (h : zH), rn 216 4 [l0, l1, l2, l3] (.int x :: S) h = if x = nI 0 then rn 216 40 [l0, l1, l2, l3] S h else rn 216 7 [l0, l1, l2, l3] S h) ∧
  (∀ (l0 l1 l3 : Value) (x : Int32) (S : List Value) (h : zH), rn 216 7 [l0, l1, .int x, l3] S h = rn 216 8 [l0, l1, .int x, l3] (.int x :: S) h) ∧
  (∀ (l0 l1 l2 l3 : Value) (v0 : Value) (S : List Value) (h : zH), rn 216 8 [l0, l1, l2, l3] (v0 :: S) h = if zsum S ≤ 8 then zcall (ev 212 [v0] h) (fun v h => rn 216 11 [l0, l1, l2, l3] (zpush v S) h) else none) ∧
  (∀ (l0 l1 l2 l3 : Value) (x : Int32) (S : List Value) (h : zH), rn 216 11 [l0, l1, l2, l3] (.int x :: S) h = if x = nI 0 then rn 216 40 [l0, l1, l2, l3] S h else rn 216 14 [l0, l1, l2, l3] S h) ∧
  (∀ (l0 l1 l2 : Value) (x : Int32) (S : List Value) (h : zH), rn 216 14 [l0, l1, l2, .int x] S h = rn 216 15 [l0, l1, l2, .int x] (.int x :: S) h) ∧
  (∀ (l0 l1 l2 l3 : Value) (S : List Value) (h : zH), rn 216 15 [l0, l1, l2, l3] S h = rn 216 16 [l0, l1, l2, l3] (.int (nI 0) :: S) h) ∧
  (∀ (l0 l1 l2 l3 : Value) (S : List Value) (h : zH), rn 216 16 [l0, l1, l2, l3] S h = rn 216 18 [l0, l1, l2, l3] (.int (nI 30) :: S) h) ∧
  (∀ (l0 l1 l2 l3 : Value) (v0 : Value) (v1 : Value) (v2 : Value) (S : List Value) (h : zH), rn 216 18 [l0, l1, l2, l3] (v2 :: v1 :: v0 :: S) h = if zsum S ≤ 8 then zcall (ev 211 [v0, v1, v2] h) (fun v h => rn 216 21 [l0, l1, l2, l3] (zpush v S) h) else none) ∧
  (∀ (l0 l1 l2 l3 : Value) (x : Int32) (S : List Value) (h : zH), rn 216 21 [l0, l1, l2, l3] (.int x :: S) h = if x = nI 0 then rn 216 40 [l0, l1, l2, l3] S h else rn 216 24 [l0, l1, l2, l3] S h) ∧
  (∀ (l1 l2 l3 : Value) (x : Nat) (S : List Value) (h : zH), rn 216 24 [.ref x, l1, l2, l3] S h = rn 216 25 [.ref x, l1, l2, l3] (.ref x :: S) h) ∧
  (∀ (l0 l2 l3 : Value) (x : Int32) (S : List Value) (h : zH), rn 216 25 [l0, .int x, l2, l3] S h = rn 216 26 [l0, .int x, l2, l3] (.int x :: S) h) ∧
  (∀ (l0 l1 l2 l3 : Value) (S : List Value) (h : zH), rn 216 26 [l0, l1, l2, l3] S h = rn 216 28 [l0, l1, l2, l3] (.int (nI 14) :: S) h) ∧
  (∀ (l0 l1 l3 : Value) (x : Int32) (S : List Value) (h : zH), rn 216 28 [l0, l1, .int x, l3] S h = rn 216 29 [l0, l1, .int x, l3] (.int x :: S) h) ∧
  (∀ (l0 l1 l2 l3 : Value) (x : Int32) (y : Int32) (S : List Value) (h : zH), rn 216 29 [l0, l1, l2, l3] (.int y :: .int x :: S) h = rn 216 30 [l0, l1, l2, l3] (.int (x + y) :: S) h) ∧
  (∀ (l0 l1 l2 l3 : Value) (v0 : Value) (v1 : Value) (S : List Value) (h : zH), rn 216 30 [l0, l1, l2, l3] (v1 :: v0 :: S) h = if zsum S ≤ 8 then zcall (ev 208 [v0, v1] h) (fun v h => rn 216 33 [l0, l1, l2, l3] (zpush v S) h) else none) ∧
  (∀ (l0 l1 l2 : Value) (x : Int32) (S : List Value) (h : zH), rn 216 33 [l0, l1, l2, .int x] S h = rn 216 34 [l0, l1, l2, .int x] (.int x :: S) h) ∧
  (∀ (l0 l1 l2 l3 : Value) (o : Nat) (v0 : Value) (v1 : Value) (S : List Value) (h : zH), rn 216 34 [l0, l1, l2, l3] (v1 :: v0 :: .ref o :: S) h = if zkd h o = 12 ∧ zsum S ≤ 8 then zcall (ev 213 [.ref o, v0, v1] h) (fun v h => rn 216 37 [l0, l1, l2, l3] (zpush v S) h) else none) ∧
  (∀ (l0 l1 l2 l3 : Value) (S : List Value) (h : zH), rn 216 37 [l0, l1, l2, l3] S h = rn 216 41 [l0, l1, l2, l3] S h) ∧
  (∀ (l0 l1 l2 l3 : Value) (S : List Value) (h : zH), rn 216 40 [l0, l1, l2, l3] S h = rn 216 41 [l0, l1, l2, l3] (.int (-1) :: S) h) ∧
  (∀ (l0 l1 l2 l3 : Value) (x : Int32) (h : zH), rn 216 41 [l0, l1, l2, l3] [.int x] h = some (some (.int x), h)) := ⟨fun _ _ _ _ _ _ => r_iload_n (show zdec 216 0 = some (.iload_n 1, 1) by decide +kernel) rfl rfl,
  fun _ _ _ _ _ _ _ => r_cS [_] rfl (show zdec 216 1 = some (.invokestatic 71, 3) by decide +kernel) (show zst.lookup (216 * zKEY + 71) = some (0, 210, 1, 0) by decide +kernel) (by decide) rfl,
  fun _ _ _ _ _ _ _ => r_ifeq (show zdec 216 4 = some (.ifCond .eq 36, 3) by decide +kernel) rfl rfl,
  fun _ _ _ _ _ _ => r_iload_n (show zdec 216 7 = some (.iload_n 2, 1) by decide +kernel) rfl rfl,
  fun _ _ _ _ _ _ _ => r_cS [_] rfl (show zdec 216 8 = some (.invokestatic 75, 3) by decide +kernel) (show zst.lookup (216 * zKEY + 75) = some (0, 212, 1, 0) by decide +kernel) (by decide) rfl,
  fun _ _ _ _ _ _ _ => r_ifeq (show zdec 216 11 = some (.ifCond .eq 29, 3) by decide +kernel) rfl rfl,
  fun _ _ _ _ _ _ => r_iload_n (show zdec 216 14 = some (.iload_n 3, 1) by decide +kernel) rfl rfl,
  fun _ _ _ _ _ _ => r_iconst (show zdec 216 15 = some (.iconst 0, 1) by decide +kernel) rfl rfl,
  fun _ _ _ _ _ _ => r_bipush (show zdec 216 16 = some (.bipush 30, 2) by decide +kernel) rfl rfl,
  fun _ _ _ _ _ _ _ _ _ => r_cS [_, _, _] rfl (show zdec 216 18 = some (.invokestatic 45, 3) by decide +kernel) (show zst.lookup (216 * zKEY + 45) = some (0, 211, 3, 0) by decide +kernel) (by decide) rfl,
  fun _ _ _ _ _ _ _ => r_ifeq (show zdec 216 21 = some (.ifCond .eq 19, 3) by decide +kernel) rfl rfl,
  fun _ _ _ _ _ _ => r_aload_nr (show zdec 216 24 = some (.aload_n 0, 1) by decide +kernel) rfl rfl,
  fun _ _ _ _ _ _ => r_iload_n (show zdec 216 25 = some (.iload_n 1, 1) by decide +kernel) rfl rfl,
  fun _ _ _ _ _ _ => r_bipush (show zdec 216 26 = some (.bipush 14, 2) by decide +kernel) rfl rfl,
  fun _ _ _ _ _ _ => r_iload_n (show zdec 216 28 = some (.iload_n 2, 1) by decide +kernel) rfl rfl,
  fun _ _ _ _ _ _ _ _ => r_iadd (show zdec 216 29 = some (.iadd, 1) by decide +kernel) rfl,
  fun _ _ _ _ _ _ _ _ => r_cS [_, _] rfl (show zdec 216 30 = some (.invokestatic 39, 3) by decide +kernel) (show zst.lookup (216 * zKEY + 39) = some (0, 208, 2, 0) by decide +kernel) (by decide) rfl,
  fun _ _ _ _ _ _ => r_iload_n (show zdec 216 33 = some (.iload_n 3, 1) by decide +kernel) rfl rfl,
  fun _ _ _ _ _ _ _ _ _ => r_cV [_, _] rfl (show zdec 216 34 = some (.invokevirtual 78, 3) by decide +kernel) (show zst.lookup (216 * zKEY + 78) = some (1, 213, 2, 12) by decide +kernel) (by decide) rfl,
  fun _ _ _ _ _ _ => r_goto (show zdec 216 37 = some (.goto 4, 3) by decide +kernel) rfl,
  fun _ _ _ _ _ _ => r_iconst (show zdec 216 40 = some (.iconst (-1), 1) by decide +kernel) rfl rfl,
  fun _ _ _ _ _ _ => r_ireti (show zdec 216 41 = some (.ireturn, 1) by decide +kernel) (by decide +kernel)⟩
theorem ze_216 : ∀ (a0 : Nat) (a1 : Int32) (a2 : Int32) (a3 : Int32) (h : zH), ev 216 [.ref a0, .int a1, .int a2, .int a3] h = rn 216 0 [.ref a0, .int a1, .int a2, .int a3] [] h := fun _ _ _ _ _ => if_pos (Nat.le_of_ble_eq_true rfl)
-- Model.bonus
theorem zr_217 : (∀ (l0 l2 l3 : Value) (x : Int32) (S : List Value) (h : zH), rn 217 0 [l0, .int x, l2, l3] S h = rn 217 1 [l0, .int x, l2, l3] (.int x :: S) h) ∧
  (∀ (l0 l1 l2 l3 : Value) (v0 : Value) (S : List Value) (h : zH), rn 217 1 [l0, l1, l2, l3] (v0 :: S) h = if zsum S ≤ 8 then zcall (ev 210 [v0] h) (fun v h => rn 217 4 [l0, l1, l2, l3] (zpush v S) h) else none) ∧
  (∀ (l0 l1 l2 l3 : Value) (x : Int32) (S : List Value) (h : zH), rn 217 4 [l0, l1, l2, l3] (.int x :: S) h = if x = nI 0 then rn 217 41 [l0, l1, l2, l3] S h else rn 217 7 [l0, l1, l2, l3] S h) ∧
  (∀ (l0 l1 l3 : Value) (x : Int32) (S : List Value) (h : zH), rn 217 7 [l0, l1, .int x, l3] S h = rn 217 8 [l0, l1, .int x, l3] (.int x :: S) h) ∧
  (∀ (l0 l1 l2 l3 : Value) (v0 : Value) (S : List Value) (h : zH), rn 217 8 [l0, l1, l2, l3] (v0 :: S) h = if zsum S ≤ 8 then zcall (ev 212 [v0] h) (fun v h => rn 217 11 [l0, l1, l2, l3] (zpush v S) h) else none) ∧
  (∀ (l0 l1 l2 l3 : Value) (x : Int32) (S : List Value) (h : zH), rn 217 11 [l0, l1, l2, l3] (.int x :: S) h = if x = nI 0 then rn 217 41 [l0, l1, l2, l3] S h else rn 217 14 [l0, l1, l2, l3] S h) ∧
  (∀ (l0 l1 l2 : Value) (x : Int32) (S : List Value) (h : zH), rn 217 14 [l0, l1, l2, .int x] S h = rn 217 15 [l0, l1, l2, .int x] (.int x :: S) h) ∧
  (∀ (l0 l1 l2 l3 : Value) (S : List Value) (h : zH), rn 217 15 [l0, l1, l2, l3] S h = rn 217 16 [l0, l1, l2, l3] (.int (nI 0) :: S) h) ∧
  (∀ (l0 l1 l2 l3 : Value) (S : List Value) (h : zH), rn 217 16 [l0, l1, l2, l3] S h = rn 217 19 [l0, l1, l2, l3] (.int (nI 9999) :: S) h) ∧
  (∀ (l0 l1 l2 l3 : Value) (v0 : Value) (v1 : Value) (v2 : Value) (S : List Value) (h : zH), rn 217 19 [l0, l1, l2, l3] (v2 :: v1 :: v0 :: S) h = if zsum S ≤ 8 then zcall (ev 211 [v0, v1, v2] h) (fun v h => rn 217 22 [l0, l1, l2, l3] (zpush v S) h) else none) ∧
  (∀ (l0 l1 l2 l3 : Value) (x : Int32) (S : List Value) (h : zH), rn 217 22 [l0, l1, l2, l3] (.int x :: S) h = if x = nI 0 then rn 217 41 [l0, l1, l2, l3] S h else rn 217 25 [l0, l1, l2, l3] S h) ∧
  (∀ (l1 l2 l3 : Value) (x : Nat) (S : List Value) (h : zH), rn 217 25 [.ref x, l1, l2, l3] S h = rn 217 26 [.ref x, l1, l2, l3] (.ref x :: S) h) ∧
  (∀ (l0 l2 l3 : Value) (x : Int32) (S : List Value) (h : zH), rn 217 26 [l0, .int x, l2, l3] S h = rn 217 27 [l0, .int x, l2, l3] (.int x :: S) h) ∧
  (∀ (l0 l1 l2 l3 : Value) (S : List Value) (h : zH), rn 217 27 [l0, l1, l2, l3] S h = rn 217 29 [l0, l1, l2, l3] (.int (nI 26) :: S) h) ∧
  (∀ (l0 l1 l3 : Value) (x : Int32) (S : List Value) (h : zH), rn 217 29 [l0, l1, .int x, l3] S h = rn 217 30 [l0, l1, .int x, l3] (.int x :: S) h) ∧
  (∀ (l0 l1 l2 l3 : Value) (x : Int32) (y : Int32) (S : List Value) (h : zH), rn 217 30 [l0, l1, l2, l3] (.int y :: .int x :: S) h = rn 217 31 [l0, l1, l2, l3] (.int (x + y) :: S) h) ∧
  (∀ (l0 l1 l2 l3 : Value) (v0 : Value) (v1 : Value) (S : List Value) (h : zH), rn 217 31 [l0, l1, l2, l3] (v1 :: v0 :: S) h = if zsum S ≤ 8 then zcall (ev 208 [v0, v1] h) (fun v h => rn 217 34 [l0, l1, l2, l3] (zpush v S) h) else none) ∧
  (∀ (l0 l1 l2 : Value) (x : Int32) (S : List Value) (h : zH), rn 217 34 [l0, l1, l2, .int x] S h = rn 217 35 [l0, l1, l2, .int x] (.int x :: S) h) ∧
  (∀ (l0 l1 l2 l3 : Value) (o : Nat) (v0 : Value) (v1 : Value) (S : List Value) (h : zH), rn 217 35 [l0, l1, l2, l3] (v1 :: v0 :: .ref o :: S) h = if zkd h o = 12 ∧ zsum S ≤ 8 then zcall (ev 213 [.ref o, v0, v1] h) (fun v h => rn 217 38 [l0, l1, l2, l3] (zpush v S) h) else none) ∧
  (∀ (l0 l1 l2 l3 : Value) (S : List Value) (h : zH), rn 217 38 [l0, l1, l2, l3] S h = rn 217 42 [l0, l1, l2, l3] S h) ∧
  (∀ (l0 l1 l2 l3 : Value) (S : List Value) (h : zH), rn 217 41 [l0, l1, l2, l3] S h = rn 217 42 [l0, l1, l2, l3] (.int (-1) :: S) h) ∧
  (∀ (l0 l1 l2 l3 : Value) (x : Int32) (h : zH), rn 217 42 [l0, l1, l2, l3] [.int x] h = some (some (.int x), h)) := ⟨fun _ _ _ _ _ _ => r_iload_n (show zdec 217 0 = some (.iload_n 1, 1) by decide +kernel) rfl rfl,
  fun _ _ _ _ _ _ _ => r_cS [_] rfl (show zdec 217 1 = some (.invokestatic 71, 3) by decide +kernel) (show zst.lookup (217 * zKEY + 71) = some (0, 210, 1, 0) by decide +kernel) (by decide) rfl,
  fun _ _ _ _ _ _ _ => r_ifeq (show zdec 217 4 = some (.ifCond .eq 37, 3) by decide +kernel) rfl rfl,
  fun _ _ _ _ _ _ => r_iload_n (show zdec 217 7 = some (.iload_n 2, 1) by decide +kernel) rfl rfl,
  fun _ _ _ _ _ _ _ => r_cS [_] rfl (show zdec 217 8 = some (.invokestatic 75, 3) by decide +kernel) (show zst.lookup (217 * zKEY + 75) = some (0, 212, 1, 0) by decide +kernel) (by decide) rfl,
  fun _ _ _ _ _ _ _ => r_ifeq (show zdec 217 11 = some (.ifCond .eq 30, 3) by decide +kernel) rfl rfl,
  fun _ _ _ _ _ _ => r_iload_n (show zdec 217 14 = some (.iload_n 3, 1) by decide +kernel) rfl rfl,
  fun _ _ _ _ _ _ => r_iconst (show zdec 217 15 = some (.iconst 0, 1) by decide +kernel) rfl rfl,
  fun _ _ _ _ _ _ => r_sipush (show zdec 217 16 = some (.sipush 9999, 3) by decide +kernel) rfl rfl,
  fun _ _ _ _ _ _ _ _ _ => r_cS [_, _, _] rfl (show zdec 217 19 = some (.invokestatic 45, 3) by decide +kernel) (show zst.lookup (217 * zKEY + 45) = some (0, 211, 3, 0) by decide +kernel) (by decide) rfl,
  fun _ _ _ _ _ _ _ => r_ifeq (show zdec 217 22 = some (.ifCond .eq 19, 3) by decide +kernel) rfl rfl,
  fun _ _ _ _ _ _ => r_aload_nr (show zdec 217 25 = some (.aload_n 0, 1) by decide +kernel) rfl rfl,
  fun _ _ _ _ _ _ => r_iload_n (show zdec 217 26 = some (.iload_n 1, 1) by decide +kernel) rfl rfl,
  fun _ _ _ _ _ _ => r_bipush (show zdec 217 27 = some (.bipush 26, 2) by decide +kernel) rfl rfl,
  fun _ _ _ _ _ _ => r_iload_n (show zdec 217 29 = some (.iload_n 2, 1) by decide +kernel) rfl rfl,
  fun _ _ _ _ _ _ _ _ => r_iadd (show zdec 217 30 = some (.iadd, 1) by decide +kernel) rfl,
  fun _ _ _ _ _ _ _ _ => r_cS [_, _] rfl (show zdec 217 31 = some (.invokestatic 39, 3) by decide +kernel) (show zst.lookup (217 * zKEY + 39) = some (0, 208, 2, 0) by decide +kernel) (by decide) rfl,
  fun _ _ _ _ _ _ => r_iload_n (show zdec 217 34 = some (.iload_n 3, 1) by decide +kernel) rfl rfl,
  fun _ _ _ _ _ _ _ _ _ => r_cV [_, _] rfl (show zdec 217 35 = some (.invokevirtual 78, 3) by decide +kernel) (show zst.lookup (217 * zKEY + 78) = some (1, 213, 2, 12) by decide +kernel) (by decide) rfl,
  fun _ _ _ _ _ _ => r_goto (show zdec 217 38 = some (.goto 4, 3) by decide +kernel) rfl,
  fun _ _ _ _ _ _ => r_iconst (show zdec 217 41 = some (.iconst (-1), 1) by decide +kernel) rfl rfl,
  fun _ _ _ _ _ _ => r_ireti (show zdec 217 42 = some (.ireturn, 1) by decide +kernel) (by decide +kernel)⟩
theorem ze_217 : ∀ (a0 : Nat) (a1 : Int32) (a2 : Int32) (a3 : Int32) (h : zH), ev 217 [.ref a0, .int a1, .int a2, .int a3] h = rn 217 0 [.ref a0, .int a1, .int a2, .int a3] [] h := fun _ _ _ _ _ => if_pos (Nat.le_of_ble_eq_true rfl)
-- Model.setFloor
theorem zr_218 : (∀ (l0 l2 : Value) (x : Int32) (S : List Value) (h : zH), rn 218 0 [l0, .int x, l2] S h = rn 218 1 [l0, .int x, l2] (.int x :: S) h) ∧
  (∀ (l0 l1 l2 : Value) (v0 : Value) (S : List Value) (h : zH), rn 218 1 [l0, l1, l2] (v0 :: S) h = if zsum S ≤ 8 then zcall (ev 210 [v0] h) (fun v h => rn 218 4 [l0, l1, l2] (zpush v S) h) else none) ∧
  (∀ (l0 l1 l2 : Value) (x : Int32) (S : List Value) (h : zH), rn 218 4 [l0, l1, l2] (.int x :: S) h = if x = nI 0 then rn 218 31 [l0, l1, l2] S h else rn 218 7 [l0, l1, l2] S h) ∧
  (∀ (l0 l1 : Value) (x : Int32) (S : List Value) (h : zH), rn 218 7 [l0, l1, .int x] S h = rn 218 8 [l0, l1, .int x] (.int x :: S) h) ∧
  (∀ (l0 l1 l2 : Value) (S : List Value) (h : zH), rn 218 8 [l0, l1, l2] S h = rn 218 9 [l0, l1, l2] (.int (nI 0) :: S) h) ∧
  (∀ (l0 l1 l2 : Value) (S : List Value) (h : zH), rn 218 9 [l0, l1, l2] S h = rn 218 12 [l0, l1, l2] (.int (nI 9999) :: S) h) ∧
  (∀ (l0 l1 l2 : Value) (v0 : Value) (v1 : Value) (v2 : Value) (S : List Value) (h : zH), rn 218 12 [l0, l1, l2] (v2 :: v1 :: v0 :: S) h = if zsum S ≤ 8 then zcall (ev 211 [v0, v1, v2] h) (fun v h => rn 218 15 [l0, l1, l2] (zpush v S) h) else none) ∧
  (∀ (l0 l1 l2 : Value) (x : Int32) (S : List Value) (h : zH), rn 218 15 [l0, l1, l2] (.int x :: S) h = if x = nI 0 then rn 218 31 [l0, l1, l2] S h else rn 218 18 [l0, l1, l2] S h) ∧
  (∀ (l1 l2 : Value) (x : Nat) (S : List Value) (h : zH), rn 218 18 [.ref x, l1, l2] S h = rn 218 19 [.ref x, l1, l2] (.ref x :: S) h) ∧
  (∀ (l0 l2 : Value) (x : Int32) (S : List Value) (h : zH), rn 218 19 [l0, .int x, l2] S h = rn 218 20 [l0, .int x, l2] (.int x :: S) h) ∧
  (∀ (l0 l1 l2 : Value) (S : List Value) (h : zH), rn 218 20 [l0, l1, l2] S h = rn 218 21 [l0, l1, l2] (.int (nI 0) :: S) h) ∧
  (∀ (l0 l1 l2 : Value) (v0 : Value) (v1 : Value) (S : List Value) (h : zH), rn 218 21 [l0, l1, l2] (v1 :: v0 :: S) h = if zsum S ≤ 8 then zcall (ev 208 [v0, v1] h) (fun v h => rn 218 24 [l0, l1, l2] (zpush v S) h) else none) ∧
  (∀ (l0 l1 : Value) (x : Int32) (S : List Value) (h : zH), rn 218 24 [l0, l1, .int x] S h = rn 218 25 [l0, l1, .int x] (.int x :: S) h) ∧
  (∀ (l0 l1 l2 : Value) (o : Nat) (v0 : Value) (v1 : Value) (S : List Value) (h : zH), rn 218 25 [l0, l1, l2] (v1 :: v0 :: .ref o :: S) h = if zkd h o = 12 ∧ zsum S ≤ 8 then zcall (ev 213 [.ref o, v0, v1] h) (fun v h => rn 218 28 [l0, l1, l2] (zpush v S) h) else none) ∧
  (∀ (l0 l1 l2 : Value) (S : List Value) (h : zH), rn 218 28 [l0, l1, l2] S h = rn 218 32 [l0, l1, l2] S h) ∧
  (∀ (l0 l1 l2 : Value) (S : List Value) (h : zH), rn 218 31 [l0, l1, l2] S h = rn 218 32 [l0, l1, l2] (.int (-1) :: S) h) ∧
  (∀ (l0 l1 l2 : Value) (x : Int32) (h : zH), rn 218 32 [l0, l1, l2] [.int x] h = some (some (.int x), h)) := ⟨fun _ _ _ _ _ => r_iload_n (show zdec 218 0 = some (.iload_n 1, 1) by decide +kernel) rfl rfl,
  fun _ _ _ _ _ _ => r_cS [_] rfl (show zdec 218 1 = some (.invokestatic 71, 3) by decide +kernel) (show zst.lookup (218 * zKEY + 71) = some (0, 210, 1, 0) by decide +kernel) (by decide) rfl,
  fun _ _ _ _ _ _ => r_ifeq (show zdec 218 4 = some (.ifCond .eq 27, 3) by decide +kernel) rfl rfl,
  fun _ _ _ _ _ => r_iload_n (show zdec 218 7 = some (.iload_n 2, 1) by decide +kernel) rfl rfl,
  fun _ _ _ _ _ => r_iconst (show zdec 218 8 = some (.iconst 0, 1) by decide +kernel) rfl rfl,
  fun _ _ _ _ _ => r_sipush (show zdec 218 9 = some (.sipush 9999, 3) by decide +kernel) rfl rfl,
  fun _ _ _ _ _ _ _ _ => r_cS [_, _, _] rfl (show zdec 218 12 = some (.invokestatic 45, 3) by decide +kernel) (show zst.lookup (218 * zKEY + 45) = some (0, 211, 3, 0) by decide +kernel) (by decide) rfl,
  fun _ _ _ _ _ _ => r_ifeq (show zdec 218 15 = some (.ifCond .eq 16, 3) by decide +kernel) rfl rfl,
  fun _ _ _ _ _ => r_aload_nr (show zdec 218 18 = some (.aload_n 0, 1) by decide +kernel) rfl rfl,
  fun _ _ _ _ _ => r_iload_n (show zdec 218 19 = some (.iload_n 1, 1) by decide +kernel) rfl rfl,
  fun _ _ _ _ _ => r_iconst (show zdec 218 20 = some (.iconst 0, 1) by decide +kernel) rfl rfl,
  fun _ _ _ _ _ _ _ => r_cS [_, _] rfl (show zdec 218 21 = some (.invokestatic 39, 3) by decide +kernel) (show zst.lookup (218 * zKEY + 39) = some (0, 208, 2, 0) by decide +kernel) (by decide) rfl,
  fun _ _ _ _ _ => r_iload_n (show zdec 218 24 = some (.iload_n 2, 1) by decide +kernel) rfl rfl,
  fun _ _ _ _ _ _ _ _ => r_cV [_, _] rfl (show zdec 218 25 = some (.invokevirtual 78, 3) by decide +kernel) (show zst.lookup (218 * zKEY + 78) = some (1, 213, 2, 12) by decide +kernel) (by decide) rfl,
  fun _ _ _ _ _ => r_goto (show zdec 218 28 = some (.goto 4, 3) by decide +kernel) rfl,
  fun _ _ _ _ _ => r_iconst (show zdec 218 31 = some (.iconst (-1), 1) by decide +kernel) rfl rfl,
  fun _ _ _ _ _ => r_ireti (show zdec 218 32 = some (.ireturn, 1) by decide +kernel) (by decide +kernel)⟩
theorem ze_218 : ∀ (a0 : Nat) (a1 : Int32) (a2 : Int32) (h : zH), ev 218 [.ref a0, .int a1, .int a2] h = rn 218 0 [.ref a0, .int a1, .int a2] [] h := fun _ _ _ _ => if_pos (Nat.le_of_ble_eq_true rfl)
-- Model.setRule
theorem zr_220 : (∀ (l1 l2 l3 : Value) (x : Nat) (S : List Value) (h : zH), rn 220 0 [.ref x, l1, l2, l3] S h = rn 220 1 [.ref x, l1, l2, l3] (.ref x :: S) h) ∧
  (∀ (l0 l2 l3 : Value) (x : Int32) (S : List Value) (h : zH), rn 220 1 [l0, .int x, l2, l3] S h = rn 220 2 [l0, .int x, l2, l3] (.int x :: S) h) ∧
  (∀ (l0 l1 l3 : Value) (x : Int32) (S : List Value) (h : zH), rn 220 2 [l0, l1, .int x, l3] S h = rn 220 3 [l0, l1, .int x, l3] (.int x :: S) h) ∧
  (∀ (l0 l1 l2 l3 : Value) (o : Nat) (v0 : Value) (v1 : Value) (S : List Value) (h : zH), rn 220 3 [l0, l1, l2, l3] (v1 :: v0 :: .ref o :: S) h = if zkd h o = 12 ∧ zsum S ≤ 8 then zcall (ev 213 [.ref o, v0, v1] h) (fun v h => rn 220 6 [l0, l1, l2, l3] (zpush v S) h) else none) ∧
  (∀ (l0 l1 l2 l3 : Value) (x : Int32) (S : List Value) (h : zH), rn 220 6 [l0, l1, l2, l3] (.int x :: S) h = nl l2 (rn 220 7 [l0, l1, l2, .int x] S h)) ∧
  (∀ (l1 l2 l3 : Value) (x : Nat) (S : List Value) (h : zH), rn 220 7 [.ref x, l1, l2, l3] S h = rn 220 8 [.ref x, l1, l2, l3] (.ref x :: S) h) ∧
  (∀ (l0 l1 l2 l3 : Value) (a : Nat) (S : List Value) (h : zH), rn 220 8 [l0, l1, l2, l3] (.ref a :: S) h = zgf h a 12 0 fun v => rn 220 11 [l0, l1, l2, l3] (v :: S) h) ∧
  (∀ (l0 l1 l2 l3 : Value) (S : List Value) (h : zH), rn 220 11 [l0, l1, l2, l3] S h = rn 220 12 [l0, l1, l2, l3] (.int (nI 2) :: S) h) ∧
  (∀ (l0 l1 l2 l3 : Value) (v : Value) (w : Value) (S : List Value) (h : zH), rn 220 12 [l0, l1, l2, l3] (v :: w :: S) h = c1 v (c1 w (rn 220 13 [l0, l1, l2, l3] (v :: w :: v :: w :: S) h))) ∧
  (∀ (l0 l1 l2 l3 : Value) (a : Nat) (j : Int32) (S : List Value) (h : zH), rn 220 13 [l0, l1, l2, l3] (.int j :: .ref a :: S) h = zlj h a j fun x => rn 220 14 [l0, l1, l2, l3] (.long x :: S) h) ∧
  (∀ (l0 l1 l2 l3 : Value) (S : List Value) (h : zH), rn 220 14 [l0, l1, l2, l3] S h = rn 220 15 [l0, l1, l2, l3] (.long 1 :: S) h) ∧
  (∀ (l0 l1 l2 l3 : Value) (x : Int64) (y : Int64) (S : List Value) (h : zH), rn 220 15 [l0, l1, l2, l3] (.long y :: .long x :: S) h = rn 220 16 [l0, l1, l2, l3] (.long (x + y) :: S) h) ∧
  (∀ (l0 l1 l2 l3 : Value) (a : Nat) (j : Int32) (x : Int64) (S : List Value) (h : zH), rn 220 16 [l0, l1, l2, l3] (.long x :: .int j :: .ref a :: S) h = zsj h a j x fun h => rn 220 17 [l0, l1, l2, l3] S h) ∧
  (∀ (l0 l1 l2 : Value) (x : Int32) (S : List Value) (h : zH), rn 220 17 [l0, l1, l2, .int x] S h = rn 220 18 [l0, l1, l2, .int x] (.int x :: S) h) ∧
  (∀ (l0 l1 l2 l3 : Value) (x : Int32) (h : zH), rn 220 18 [l0, l1, l2, l3] [.int x] h = some (some (.int x), h)) := ⟨fun _ _ _ _ _ _ => r_aload_nr (show zdec 220 0 = some (.aload_n 0, 1) by decide +kernel) rfl rfl,
  fun _ _ _ _ _ _ => r_iload_n (show zdec 220 1 = some (.iload_n 1, 1) by decide +kernel) rfl rfl,
  fun _ _ _ _ _ _ => r_iload_n (show zdec 220 2 = some (.iload_n 2, 1) by decide +kernel) rfl rfl,
  fun _ _ _ _ _ _ _ _ _ => r_cV [_, _] rfl (show zdec 220 3 = some (.invokevirtual 78, 3) by decide +kernel) (show zst.lookup (220 * zKEY + 78) = some (1, 213, 2, 12) by decide +kernel) (by decide) rfl,
  fun _ _ _ _ _ _ _ => r_istore_n (show zdec 220 6 = some (.istore_n 3, 1) by decide +kernel) rfl rfl (Nat.le_of_ble_eq_true rfl) rfl rfl,
  fun _ _ _ _ _ _ => r_aload_nr (show zdec 220 7 = some (.aload_n 0, 1) by decide +kernel) rfl rfl,
  fun _ _ _ _ _ _ _ => r_getfield (show zdec 220 8 = some (.getfield 9, 3) by decide +kernel) (show zft.lookup (220 * zKEY + 9) = some (12, 0) by decide +kernel) rfl,
  fun _ _ _ _ _ _ => r_iconst (show zdec 220 11 = some (.iconst 2, 1) by decide +kernel) rfl rfl,
  fun _ _ _ _ _ _ _ _ => r_dup2 (show zdec 220 12 = some (.dup2, 1) by decide +kernel) rfl,
  fun _ _ _ _ _ _ _ _ => r_lald (show zdec 220 13 = some (.laload, 1) by decide +kernel) rfl,
  fun _ _ _ _ _ _ => r_lconst (show zdec 220 14 = some (.lconst 1, 1) by decide +kernel) rfl rfl,
  fun _ _ _ _ _ _ _ _ => r_ladd (show zdec 220 15 = some (.ladd, 1) by decide +kernel) rfl,
  fun _ _ _ _ _ _ _ _ _ => r_last (show zdec 220 16 = some (.lastore, 1) by decide +kernel) rfl,
  fun _ _ _ _ _ _ => r_iload_n (show zdec 220 17 = some (.iload_n 3, 1) by decide +kernel) rfl rfl,
  fun _ _ _ _ _ _ => r_ireti (show zdec 220 18 = some (.ireturn, 1) by decide +kernel) (by decide +kernel)⟩
theorem ze_220 : ∀ (a0 : Nat) (a1 : Int32) (a2 : Int32) (h : zH), ev 220 [.ref a0, .int a1, .int a2] h = rn 220 0 [.ref a0, .int a1, .int a2, .float 0] [] h := fun _ _ _ _ => if_pos (Nat.le_of_ble_eq_true rfl)
-- Model.setRate
theorem zr_219 : (∀ (l0 l2 : Value) (x : Int32) (S : List Value) (h : zH), rn 219 0 [l0, .int x, l2] S h = rn 219 1 [l0, .int x, l2] (.int x :: S) h) ∧
  (∀ (l0 l1 l2 : Value) (S : List Value) (h : zH), rn 219 1 [l0, l1, l2] S h = rn 219 2 [l0, l1, l2] (.int (nI 0) :: S) h) ∧
  (∀ (l0 l1 l2 : Value) (S : List Value) (h : zH), rn 219 2 [l0, l1, l2] S h = rn 219 3 [l0, l1, l2] (.int (nI 1) :: S) h) ∧
  (∀ (l0 l1 l2 : Value) (v0 : Value) (v1 : Value) (v2 : Value) (S : List Value) (h : zH), rn 219 3 [l0, l1, l2] (v2 :: v1 :: v0 :: S) h = if zsum S ≤ 8 then zcall (ev 211 [v0, v1, v2] h) (fun v h => rn 219 6 [l0, l1, l2] (zpush v S) h) else none) ∧
  (∀ (l0 l1 l2 : Value) (x : Int32) (S : List Value) (h : zH), rn 219 6 [l0, l1, l2] (.int x :: S) h = if x = nI 0 then rn 219 31 [l0, l1, l2] S h else rn 219 9 [l0, l1, l2] S h) ∧
  (∀ (l0 l1 : Value) (x : Int32) (S : List Value) (h : zH), rn 219 9 [l0, l1, .int x] S h = rn 219 10 [l0, l1, .int x] (.int x :: S) h) ∧
  (∀ (l0 l1 l2 : Value) (S : List Value) (h : zH), rn 219 10 [l0, l1, l2] S h = rn 219 11 [l0, l1, l2] (.int (nI 0) :: S) h) ∧
  (∀ (l0 l1 l2 : Value) (S : List Value) (h : zH), rn 219 11 [l0, l1, l2] S h = rn 219 14 [l0, l1, l2] (.int (nI 499) :: S) h) ∧
  (∀ (l0 l1 l2 : Value) (v0 : Value) (v1 : Value) (v2 : Value) (S : List Value) (h : zH), rn 219 14 [l0, l1, l2] (v2 :: v1 :: v0 :: S) h = if zsum S ≤ 8 then zcall (ev 211 [v0, v1, v2] h) (fun v h => rn 219 17 [l0, l1, l2] (zpush v S) h) else none) ∧
  (∀ (l0 l1 l2 : Value) (x : Int32) (S : List Value) (h : zH), rn 219 17 [l0, l1, l2] (.int x :: S) h = if x = nI 0 then rn 219 31 [l0, l1, l2] S h else rn 219 20 [l0, l1, l2] S h) ∧
  (∀ (l1 l2 : Value) (x : Nat) (S : List Value) (h : zH), rn 219 20 [.ref x, l1, l2] S h = rn 219 21 [.ref x, l1, l2] (.ref x :: S) h) ∧
  (∀ (l0 l1 l2 : Value) (S : List Value) (h : zH), rn 219 21 [l0, l1, l2] S h = rn 219 22 [l0, l1, l2] (.int (nI 3) :: S) h) ∧
  (∀ (l0 l2 : Value) (x : Int32) (S : List Value) (h : zH), rn 219 22 [l0, .int x, l2] S h = rn 219 23 [l0, .int x, l2] (.int x :: S) h) ∧
  (∀ (l0 l1 l2 : Value) (x : Int32) (y : Int32) (S : List Value) (h : zH), rn 219 23 [l0, l1, l2] (.int y :: .int x :: S) h = rn 219 24 [l0, l1, l2] (.int (x + y) :: S) h) ∧
  (∀ (l0 l1 : Value) (x : Int32) (S : List Value) (h : zH), rn 219 24 [l0, l1, .int x] S h = rn 219 25 [l0, l1, .int x] (.int x :: S) h) ∧
  (∀ (l0 l1 l2 : Value) (o : Nat) (v0 : Value) (v1 : Value) (S : List Value) (h : zH), rn 219 25 [l0, l1, l2] (v1 :: v0 :: .ref o :: S) h = if zkd h o = 12 ∧ zsum S ≤ 8 then zcall (ev 220 [.ref o, v0, v1] h) (fun v h => rn 219 28 [l0, l1, l2] (zpush v S) h) else none) ∧
  (∀ (l0 l1 l2 : Value) (S : List Value) (h : zH), rn 219 28 [l0, l1, l2] S h = rn 219 32 [l0, l1, l2] S h) ∧
  (∀ (l0 l1 l2 : Value) (S : List Value) (h : zH), rn 219 31 [l0, l1, l2] S h = rn 219 32 [l0, l1, l2] (.int (-1) :: S) h) ∧
  (∀ (l0 l1 l2 : Value) (x : Int32) (h : zH), rn 219 32 [l0, l1, l2] [.int x] h = some (some (.int x), h)) := ⟨fun _ _ _ _ _ => r_iload_n (show zdec 219 0 = some (.iload_n 1, 1) by decide +kernel) rfl rfl,
  fun _ _ _ _ _ => r_iconst (show zdec 219 1 = some (.iconst 0, 1) by decide +kernel) rfl rfl,
  fun _ _ _ _ _ => r_iconst (show zdec 219 2 = some (.iconst 1, 1) by decide +kernel) rfl rfl,
  fun _ _ _ _ _ _ _ _ => r_cS [_, _, _] rfl (show zdec 219 3 = some (.invokestatic 45, 3) by decide +kernel) (show zst.lookup (219 * zKEY + 45) = some (0, 211, 3, 0) by decide +kernel) (by decide) rfl,
  fun _ _ _ _ _ _ => r_ifeq (show zdec 219 6 = some (.ifCond .eq 25, 3) by decide +kernel) rfl rfl,
  fun _ _ _ _ _ => r_iload_n (show zdec 219 9 = some (.iload_n 2, 1) by decide +kernel) rfl rfl,
  fun _ _ _ _ _ => r_iconst (show zdec 219 10 = some (.iconst 0, 1) by decide +kernel) rfl rfl,
  fun _ _ _ _ _ => r_sipush (show zdec 219 11 = some (.sipush 499, 3) by decide +kernel) rfl rfl,
  fun _ _ _ _ _ _ _ _ => r_cS [_, _, _] rfl (show zdec 219 14 = some (.invokestatic 45, 3) by decide +kernel) (show zst.lookup (219 * zKEY + 45) = some (0, 211, 3, 0) by decide +kernel) (by decide) rfl,
  fun _ _ _ _ _ _ => r_ifeq (show zdec 219 17 = some (.ifCond .eq 14, 3) by decide +kernel) rfl rfl,
  fun _ _ _ _ _ => r_aload_nr (show zdec 219 20 = some (.aload_n 0, 1) by decide +kernel) rfl rfl,
  fun _ _ _ _ _ => r_iconst (show zdec 219 21 = some (.iconst 3, 1) by decide +kernel) rfl rfl,
  fun _ _ _ _ _ => r_iload_n (show zdec 219 22 = some (.iload_n 1, 1) by decide +kernel) rfl rfl,
  fun _ _ _ _ _ _ _ => r_iadd (show zdec 219 23 = some (.iadd, 1) by decide +kernel) rfl,
  fun _ _ _ _ _ => r_iload_n (show zdec 219 24 = some (.iload_n 2, 1) by decide +kernel) rfl rfl,
  fun _ _ _ _ _ _ _ _ => r_cV [_, _] rfl (show zdec 219 25 = some (.invokevirtual 81, 3) by decide +kernel) (show zst.lookup (219 * zKEY + 81) = some (1, 220, 2, 12) by decide +kernel) (by decide) rfl,
  fun _ _ _ _ _ => r_goto (show zdec 219 28 = some (.goto 4, 3) by decide +kernel) rfl,
  fun _ _ _ _ _ => r_iconst (show zdec 219 31 = some (.iconst (-1), 1) by decide +kernel) rfl rfl,
  fun _ _ _ _ _ => r_ireti (show zdec 219 32 = some (.ireturn, 1) by decide +kernel) (by decide +kernel)⟩
theorem ze_219 : ∀ (a0 : Nat) (a1 : Int32) (a2 : Int32) (h : zH), ev 219 [.ref a0, .int a1, .int a2] h = rn 219 0 [.ref a0, .int a1, .int a2] [] h := fun _ _ _ _ => if_pos (Nat.le_of_ble_eq_true rfl)
-- Model.setCap
theorem zr_221 : (∀ (l0 l2 : Value) (x : Int32) (S : List Value) (h : zH), rn 221 0 [l0, .int x, l2] S h = rn 221 1 [l0, .int x, l2] (.int x :: S) h) ∧
  (∀ (l0 l1 l2 : Value) (S : List Value) (h : zH), rn 221 1 [l0, l1, l2] S h = rn 221 2 [l0, l1, l2] (.int (nI 0) :: S) h) ∧
  (∀ (l0 l1 l2 : Value) (S : List Value) (h : zH), rn 221 2 [l0, l1, l2] S h = rn 221 3 [l0, l1, l2] (.int (nI 1) :: S) h) ∧
  (∀ (l0 l1 l2 : Value) (v0 : Value) (v1 : Value) (v2 : Value) (S : List Value) (h : zH), rn 221 3 [l0, l1, l2] (v2 :: v1 :: v0 :: S) h = if zsum S ≤ 8 then zcall (ev 211 [v0, v1, v2] h) (fun v h => rn 221 6 [l0, l1, l2] (zpush v S) h) else none) ∧
  (∀ (l0 l1 l2 : Value) (x : Int32) (S : List Value) (h : zH), rn 221 6 [l0, l1, l2] (.int x :: S) h = if x = nI 0 then rn 221 30 [l0, l1, l2] S h else rn 221 9 [l0, l1, l2] S h) ∧
  (∀ (l0 l1 : Value) (x : Int32) (S : List Value) (h : zH), rn 221 9 [l0, l1, .int x] S h = rn 221 10 [l0, l1, .int x] (.int x :: S) h) ∧
  (∀ (l0 l1 l2 : Value) (S : List Value) (h : zH), rn 221 10 [l0, l1, l2] S h = rn 221 11 [l0, l1, l2] (.int (nI 0) :: S) h) ∧
  (∀ (l0 l1 l2 : Value) (S : List Value) (h : zH), rn 221 11 [l0, l1, l2] S h = rn 221 13 [l0, l1, l2] (.int (nI 99999) :: S) h) ∧
  (∀ (l0 l1 l2 : Value) (v0 : Value) (v1 : Value) (v2 : Value) (S : List Value) (h : zH), rn 221 13 [l0, l1, l2] (v2 :: v1 :: v0 :: S) h = if zsum S ≤ 8 then zcall (ev 211 [v0, v1, v2] h) (fun v h => rn 221 16 [l0, l1, l2] (zpush v S) h) else none) ∧
  (∀ (l0 l1 l2 : Value) (x : Int32) (S : List Value) (h : zH), rn 221 16 [l0, l1, l2] (.int x :: S) h = if x = nI 0 then rn 221 30 [l0, l1, l2] S h else rn 221 19 [l0, l1, l2] S h) ∧
  (∀ (l1 l2 : Value) (x : Nat) (S : List Value) (h : zH), rn 221 19 [.ref x, l1, l2] S h = rn 221 20 [.ref x, l1, l2] (.ref x :: S) h) ∧
  (∀ (l0 l1 l2 : Value) (S : List Value) (h : zH), rn 221 20 [l0, l1, l2] S h = rn 221 21 [l0, l1, l2] (.int (nI 5) :: S) h) ∧
  (∀ (l0 l2 : Value) (x : Int32) (S : List Value) (h : zH), rn 221 21 [l0, .int x, l2] S h = rn 221 22 [l0, .int x, l2] (.int x :: S) h) ∧
  (∀ (l0 l1 l2 : Value) (x : Int32) (y : Int32) (S : List Value) (h : zH), rn 221 22 [l0, l1, l2] (.int y :: .int x :: S) h = rn 221 23 [l0, l1, l2] (.int (x + y) :: S) h) ∧
  (∀ (l0 l1 : Value) (x : Int32) (S : List Value) (h : zH), rn 221 23 [l0, l1, .int x] S h = rn 221 24 [l0, l1, .int x] (.int x :: S) h) ∧
  (∀ (l0 l1 l2 : Value) (o : Nat) (v0 : Value) (v1 : Value) (S : List Value) (h : zH), rn 221 24 [l0, l1, l2] (v1 :: v0 :: .ref o :: S) h = if zkd h o = 12 ∧ zsum S ≤ 8 then zcall (ev 220 [.ref o, v0, v1] h) (fun v h => rn 221 27 [l0, l1, l2] (zpush v S) h) else none) ∧
  (∀ (l0 l1 l2 : Value) (S : List Value) (h : zH), rn 221 27 [l0, l1, l2] S h = rn 221 31 [l0, l1, l2] S h) ∧
  (∀ (l0 l1 l2 : Value) (S : List Value) (h : zH), rn 221 30 [l0, l1, l2] S h = rn 221 31 [l0, l1, l2] (.int (-1) :: S) h) ∧
  (∀ (l0 l1 l2 : Value) (x : Int32) (h : zH), rn 221 31 [l0, l1, l2] [.int x] h = some (some (.int x), h)) := ⟨fun _ _ _ _ _ => r_iload_n (show zdec 221 0 = some (.iload_n 1, 1) by decide +kernel) rfl rfl,
  fun _ _ _ _ _ => r_iconst (show zdec 221 1 = some (.iconst 0, 1) by decide +kernel) rfl rfl,
  fun _ _ _ _ _ => r_iconst (show zdec 221 2 = some (.iconst 1, 1) by decide +kernel) rfl rfl,
  fun _ _ _ _ _ _ _ _ => r_cS [_, _, _] rfl (show zdec 221 3 = some (.invokestatic 45, 3) by decide +kernel) (show zst.lookup (221 * zKEY + 45) = some (0, 211, 3, 0) by decide +kernel) (by decide) rfl,
  fun _ _ _ _ _ _ => r_ifeq (show zdec 221 6 = some (.ifCond .eq 24, 3) by decide +kernel) rfl rfl,
  fun _ _ _ _ _ => r_iload_n (show zdec 221 9 = some (.iload_n 2, 1) by decide +kernel) rfl rfl,
  fun _ _ _ _ _ => r_iconst (show zdec 221 10 = some (.iconst 0, 1) by decide +kernel) rfl rfl,
  fun _ _ _ _ _ => r_ldcI (show zdec 221 11 = some (.ldc 84, 2) by decide +kernel) (show zkt.lookup (221 * zKEY + 84) = some 99999 by decide +kernel) rfl,
  fun _ _ _ _ _ _ _ _ => r_cS [_, _, _] rfl (show zdec 221 13 = some (.invokestatic 45, 3) by decide +kernel) (show zst.lookup (221 * zKEY + 45) = some (0, 211, 3, 0) by decide +kernel) (by decide) rfl,
  fun _ _ _ _ _ _ => r_ifeq (show zdec 221 16 = some (.ifCond .eq 14, 3) by decide +kernel) rfl rfl,
  fun _ _ _ _ _ => r_aload_nr (show zdec 221 19 = some (.aload_n 0, 1) by decide +kernel) rfl rfl,
  fun _ _ _ _ _ => r_iconst (show zdec 221 20 = some (.iconst 5, 1) by decide +kernel) rfl rfl,
  fun _ _ _ _ _ => r_iload_n (show zdec 221 21 = some (.iload_n 1, 1) by decide +kernel) rfl rfl,
  fun _ _ _ _ _ _ _ => r_iadd (show zdec 221 22 = some (.iadd, 1) by decide +kernel) rfl,
  fun _ _ _ _ _ => r_iload_n (show zdec 221 23 = some (.iload_n 2, 1) by decide +kernel) rfl rfl,
  fun _ _ _ _ _ _ _ _ => r_cV [_, _] rfl (show zdec 221 24 = some (.invokevirtual 81, 3) by decide +kernel) (show zst.lookup (221 * zKEY + 81) = some (1, 220, 2, 12) by decide +kernel) (by decide) rfl,
  fun _ _ _ _ _ => r_goto (show zdec 221 27 = some (.goto 4, 3) by decide +kernel) rfl,
  fun _ _ _ _ _ => r_iconst (show zdec 221 30 = some (.iconst (-1), 1) by decide +kernel) rfl rfl,
  fun _ _ _ _ _ => r_ireti (show zdec 221 31 = some (.ireturn, 1) by decide +kernel) (by decide +kernel)⟩
theorem ze_221 : ∀ (a0 : Nat) (a1 : Int32) (a2 : Int32) (h : zH), ev 221 [.ref a0, .int a1, .int a2] h = rn 221 0 [.ref a0, .int a1, .int a2] [] h := fun _ _ _ _ => if_pos (Nat.le_of_ble_eq_true rfl)
-- Model.bracket
theorem zr_222 : (∀ (l1 l2 l3 l4 : Value) (x : Nat) (S : List Value) (h : zH), rn 222 0 [.ref x, l1, l2, l3, l4] S h = rn 222 1 [.ref x, l1, l2, l3, l4] (.ref x :: S) h) ∧
  (∀ (l0 l1 l2 l3 l4 : Value) (a : Nat) (S : List Value) (h : zH), rn 222 1 [l0, l1, l2, l3, l4] (.ref a :: S) h = zgf h a 12 0 fun v => rn 222 4 [l0, l1, l2, l3, l4] (v :: S) h) ∧
  (∀ (l0 l1 l2 l3 l4 : Value) (S : List Value) (h : zH), rn 222 4 [l0, l1, l2, l3, l4] S h = rn 222 6 [l0, l1, l2, l3, l4] (.int (nI 7) :: S) h) ∧
  (∀ (l0 l1 l2 l3 l4 : Value) (a : Nat) (j : Int32) (S : List Value) (h : zH), rn 222 6 [l0, l1, l2, l3, l4] (.int j :: .ref a :: S) h = zlj h a j fun x => rn 222 7 [l0, l1, l2, l3, l4] (.long x :: S) h) ∧
  (∀ (l0 l1 l2 l3 l4 : Value) (x : Int64) (S : List Value) (h : zH), rn 222 7 [l0, l1, l2, l3, l4] (.long x :: S) h = rn 222 8 [l0, l1, l2, l3, l4] (.int x.toInt32 :: S) h) ∧
  (∀ (l0 l1 l2 l3 l4 : Value) (x : Int32) (S : List Value) (h : zH), rn 222 8 [l0, l1, l2, l3, l4] (.int x :: S) h = nl l2 (rn 222 9 [l0, l1, l2, .int x, l4] S h)) ∧
  (∀ (l0 l2 l3 l4 : Value) (x : Int32) (S : List Value) (h : zH), rn 222 9 [l0, .int x, l2, l3, l4] S h = rn 222 10 [l0, .int x, l2, l3, l4] (.int x :: S) h) ∧
  (∀ (l0 l1 l2 l3 l4 : Value) (S : List Value) (h : zH), rn 222 10 [l0, l1, l2, l3, l4] S h = rn 222 11 [l0, l1, l2, l3, l4] (.int (nI 0) :: S) h) ∧
  (∀ (l0 l1 l2 l3 l4 : Value) (S : List Value) (h : zH), rn 222 11 [l0, l1, l2, l3, l4] S h = rn 222 13 [l0, l1, l2, l3, l4] (.int (nI 99999) :: S) h) ∧
  (∀ (l0 l1 l2 l3 l4 : Value) (v0 : Value) (v1 : Value) (v2 : Value) (S : List Value) (h : zH), rn 222 13 [l0, l1, l2, l3, l4] (v2 :: v1 :: v0 :: S) h = if zsum S ≤ 8 then zcall (ev 211 [v0, v1, v2] h) (fun v h => rn 222 16 [l0, l1, l2, l3, l4] (zpush v S) h) else none) ∧
  (∀ (l0 l1 l2 l3 l4 : Value) (x : Int32) (S : List Value) (h : zH), rn 222 16 [l0, l1, l2, l3, l4] (.int x :: S) h = if x = nI 0 then rn 222 51 [l0, l1, l2, l3, l4] S h else rn 222 19 [l0, l1, l2, l3, l4] S h) ∧
  (∀ (l0 l1 l3 l4 : Value) (x : Int32) (S : List Value) (h : zH), rn 222 19 [l0, l1, .int x, l3, l4] S h = rn 222 20 [l0, l1, .int x, l3, l4] (.int x :: S) h) ∧
  (∀ (l0 l1 l2 l3 l4 : Value) (S : List Value) (h : zH), rn 222 20 [l0, l1, l2, l3, l4] S h = rn 222 21 [l0, l1, l2, l3, l4] (.int (nI 0) :: S) h) ∧
  (∀ (l0 l1 l2 l3 l4 : Value) (S : List Value) (h : zH), rn 222 21 [l0, l1, l2, l3, l4] S h = rn 222 24 [l0, l1, l2, l3, l4] (.int (nI 999) :: S) h) ∧
  (∀ (l0 l1 l2 l3 l4 : Value) (v0 : Value) (v1 : Value) (v2 : Value) (S : List Value) (h : zH), rn 222 24 [l0, l1, l2, l3, l4] (v2 :: v1 :: v0 :: S) h = if zsum S ≤ 8 then zcall (ev 211 [v0, v1, v2] h) (fun v h => rn 222 27 [l0, l1, l2, l3, l4] (zpush v S) h) else none) ∧
  (∀ (l0 l1 l2 l3 l4 : Value) (x : Int32) (S : List Value) (h : zH), rn 222 27 [l0, l1, l2, l3, l4] (.int x :: S) h = if x = nI 0 then rn 222 51 [l0, l1, l2, l3, l4] S h else rn 222 30 [l0, l1, l2, l3, l4] S h) ∧
  (∀ (l0 l1 l2 l4 : Value) (x : Int32) (S : List Value) (h : zH), rn 222 30 [l0, l1, l2, .int x, l4] S h = rn 222 31 [l0, l1, l2, .int x, l4] (.int x :: S) h) ∧
  (∀ (l0 l1 l2 l3 l4 : Value) (x : Int32) (S : List Value) (h : zH), rn 222 31 [l0, l1, l2, l3, l4] (.int x :: S) h = if x ≤ nI 0 then rn 222 53 [l0, l1, l2, l3, l4] S h else rn 222 34 [l0, l1, l2, l3, l4] S h) ∧
  (∀ (l0 l2 l3 l4 : Value) (x : Int32) (S : List Value) (h : zH), rn 222 34 [l0, .int x, l2, l3, l4] S h = rn 222 35 [l0, .int x, l2, l3, l4] (.int x :: S) h) ∧
  (∀ (l0 l1 l2 l3 l4 : Value) (x : Int32) (S : List Value) (h : zH), rn 222 35 [l0, l1, l2, l3, l4] (.int x :: S) h = rn 222 36 [l0, l1, l2, l3, l4] (.long x.toInt64 :: S) h) ∧
  (∀ (l1 l2 l3 l4 : Value) (x : Nat) (S : List Value) (h : zH), rn 222 36 [.ref x, l1, l2, l3, l4] S h = rn 222 37 [.ref x, l1, l2, l3, l4] (.ref x :: S) h) ∧
  (∀ (l0 l1 l2 l3 l4 : Value) (a : Nat) (S : List Value) (h : zH), rn 222 37 [l0, l1, l2, l3, l4] (.ref a :: S) h = zgf h a 12 0 fun v => rn 222 40 [l0, l1, l2, l3, l4] (v :: S) h) ∧
  (∀ (l0 l1 l2 l3 l4 : Value) (S : List Value) (h : zH), rn 222 40 [l0, l1, l2, l3, l4] S h = rn 222 42 [l0, l1, l2, l3, l4] (.int (nI 8) :: S) h) ∧
  (∀ (l0 l1 l2 l4 : Value) (x : Int32) (S : List Value) (h : zH), rn 222 42 [l0, l1, l2, .int x, l4] S h = rn 222 43 [l0, l1, l2, .int x, l4] (.int x :: S) h) ∧
  (∀ (l0 l1 l2 l3 l4 : Value) (x : Int32) (y : Int32) (S : List Value) (h : zH), rn 222 43 [l0, l1, l2, l3, l4] (.int y :: .int x :: S) h = rn 222 44 [l0, l1, l2, l3, l4] (.int (x + y) :: S) h) ∧
  (∀ (l0 l1 l2 l3 l4 : Value) (S : List Value) (h : zH), rn 222 44 [l0, l1, l2, l3, l4] S h = rn 222 45 [l0, l1, l2, l3, l4] (.int (nI 1) :: S) h) ∧
  (∀ (l0 l1 l2 l3 l4 : Value) (x : Int32) (y : Int32) (S : List Value) (h : zH), rn 222 45 [l0, l1, l2, l3, l4] (.int y :: .int x :: S) h = rn 222 46 [l0, l1, l2, l3, l4] (.int (x - y) :: S) h) ∧
  (∀ (l0 l1 l2 l3 l4 : Value) (a : Nat) (j : Int32) (S : List Value) (h : zH), rn 222 46 [l0, l1, l2, l3, l4] (.int j :: .ref a :: S) h = zlj h a j fun x => rn 222 47 [l0, l1, l2, l3, l4] (.long x :: S) h) ∧
  (∀ (l0 l1 l2 l3 l4 : Value) (x : Int64) (y : Int64) (S : List Value) (h : zH), rn 222 47 [l0, l1, l2, l3, l4] (.long y :: .long x :: S) h = rn 222 48 [l0, l1, l2, l3, l4] (.int (lg_cmp x y) :: S) h) ∧
  (∀ (l0 l1 l2 l3 l4 : Value) (x : Int32) (S : List Value) (h : zH), rn 222 48 [l0, l1, l2, l3, l4] (.int x :: S) h = if nI 0 < x then rn 222 53 [l0, l1, l2, l3, l4] S h else rn 222 51 [l0, l1, l2, l3, l4] S h) ∧
  (∀ (l0 l1 l2 l3 l4 : Value) (S : List Value) (h : zH), rn 222 51 [l0, l1, l2, l3, l4] S h = rn 222 52 [l0, l1, l2, l3, l4] (.int (-1) :: S) h) ∧
  (∀ (l0 l1 l2 l3 l4 : Value) (x : Int32) (h : zH), rn 222 52 [l0, l1, l2, l3, l4] [.int x] h = some (some (.int x), h)) ∧
  (∀ (l0 l1 l2 l4 : Value) (x : Int32) (S : List Value) (h : zH), rn 222 53 [l0, l1, l2, .int x, l4] S h = rn 222 54 [l0, l1, l2, .int x, l4] (.int x :: S) h) ∧
  (∀ (l0 l1 l2 l3 l4 : Value) (S : List Value) (h : zH), rn 222 54 [l0, l1, l2, l3, l4] S h = rn 222 55 [l0, l1, l2, l3, l4] (.int (nI 5) :: S) h) ∧
  (∀ (l0 l1 l2 l3 l4 : Value) (x : Int32) (y : Int32) (S : List Value) (h : zH), rn 222 55 [l0, l1, l2, l3, l4] (.int y :: .int x :: S) h = if x = y then rn 222 58 [l0, l1, l2, l3, l4] S h else rn 222 61 [l0, l1, l2, l3, l4] S h) ∧
  (∀ (l0 l1 l2 l3 l4 : Value) (S : List Value) (h : zH), rn 222 58 [l0, l1, l2, l3, l4] S h = rn 222 60 [l0, l1, l2, l3, l4] (.int (-3) :: S) h) ∧
  (∀ (l0 l1 l2 l3 l4 : Value) (x : Int32) (h : zH), rn 222 60 [l0, l1, l2, l3, l4] [.int x] h = some (some (.int x), h)) ∧
  (∀ (l1 l2 l3 l4 : Value) (x : Nat) (S : List Value) (h : zH), rn 222 61 [.ref x, l1, l2, l3, l4] S h = rn 222 62 [.ref x, l1, l2, l3, l4] (.ref x :: S) h) ∧
  (∀ (l0 l1 l2 l3 l4 : Value) (S : List Value) (h : zH), rn 222 62 [l0, l1, l2, l3, l4] S h = rn 222 64 [l0, l1, l2, l3, l4] (.int (nI 7) :: S) h) ∧
  (∀ (l0 l1 l2 l4 : Value) (x : Int32) (S : List Value) (h : zH), rn 222 64 [l0, l1, l2, .int x, l4] S h = rn 222 65 [l0, l1, l2, .int x, l4] (.int x :: S) h) ∧
  (∀ (l0 l1 l2 l3 l4 : Value) (S : List Value) (h : zH), rn 222 65 [l0, l1, l2, l3, l4] S h = rn 222 66 [l0, l1, l2, l3, l4] (.int (nI 1) :: S) h) ∧
  (∀ (l0 l1 l2 l3 l4 : Value) (x : Int32) (y : Int32) (S : List Value) (h : zH), rn 222 66 [l0, l1, l2, l3, l4] (.int y :: .int x :: S) h = rn 222 67 [l0, l1, l2, l3, l4] (.int (x + y) :: S) h) ∧
  (∀ (l0 l1 l2 l3 l4 : Value) (o : Nat) (v0 : Value) (v1 : Value) (S : List Value) (h : zH), rn 222 67 [l0, l1, l2, l3, l4] (v1 :: v0 :: .ref o :: S) h = if zkd h o = 12 ∧ zsum S ≤ 8 then zcall (ev 220 [.ref o, v0, v1] h) (fun v h => rn 222 70 [l0, l1, l2, l3, l4] (zpush v S) h) else none) ∧
  (∀ (l0 l1 l2 l3 l4 : Value) (x : Int32) (S : List Value) (h : zH), rn 222 70 [l0, l1, l2, l3, l4] (.int x :: S) h = nl l3 (rn 222 72 [l0, l1, l2, l3, .int x] S h)) ∧
  (∀ (l1 l2 l3 l4 : Value) (x : Nat) (S : List Value) (h : zH), rn 222 72 [.ref x, l1, l2, l3, l4] S h = rn 222 73 [.ref x, l1, l2, l3, l4] (.ref x :: S) h) ∧
  (∀ (l0 l1 l2 l3 l4 : Value) (a : Nat) (S : List Value) (h : zH), rn 222 73 [l0, l1, l2, l3, l4] (.ref a :: S) h = zgf h a 12 0 fun v => rn 222 76 [l0, l1, l2, l3, l4] (v :: S) h) ∧
  (∀ (l0 l1 l2 l3 l4 : Value) (S : List Value) (h : zH), rn 222 76 [l0, l1, l2, l3, l4] S h = rn 222 78 [l0, l1, l2, l3, l4] (.int (nI 8) :: S) h) ∧
  (∀ (l0 l1 l2 l4 : Value) (x : Int32) (S : List Value) (h : zH), rn 222 78 [l0, l1, l2, .int x, l4] S h = rn 222 79 [l0, l1, l2, .int x, l4] (.int x :: S) h) ∧
  (∀ (l0 l1 l2 l3 l4 : Value) (x : Int32) (y : Int32) (S : List Value) (h : zH), rn 222 79 [l0, l1, l2, l3, l4] (.int y :: .int x :: S) h = rn 222 80 [l0, l1, l2, l3, l4] (.int (x + y) :: S) h) ∧
  (∀ (l0 l2 l3 l4 : Value) (x : Int32) (S : List Value) (h : zH), rn 222 80 [l0, .int x, l2, l3, l4] S h = rn 222 81 [l0, .int x, l2, l3, l4] (.int x :: S) h) ∧
  (∀ (l0 l1 l2 l3 l4 : Value) (x : Int32) (S : List Value) (h : zH), rn 222 81 [l0, l1, l2, l3, l4] (.int x :: S) h = rn 222 82 [l0, l1, l2, l3, l4] (.long x.toInt64 :: S) h) ∧
  (∀ (l0 l1 l2 l3 l4 : Value) (a : Nat) (j : Int32) (x : Int64) (S : List Value) (h : zH), rn 222 82 [l0, l1, l2, l3, l4] (.long x :: .int j :: .ref a :: S) h = zsj h a j x fun h => rn 222 83 [l0, l1, l2, l3, l4] S h) ∧
  (∀ (l1 l2 l3 l4 : Value) (x : Nat) (S : List Value) (h : zH), rn 222 83 [.ref x, l1, l2, l3, l4] S h = rn 222 84 [.ref x, l1, l2, l3, l4] (.ref x :: S) h) ∧
  (∀ (l0 l1 l2 l3 l4 : Value) (a : Nat) (S : List Value) (h : zH), rn 222 84 [l0, l1, l2, l3, l4] (.ref a :: S) h = zgf h a 12 0 fun v => rn 222 87 [l0, l1, l2, l3, l4] (v :: S) h) ∧
  (∀ (l0 l1 l2 l3 l4 : Value) (S : List Value) (h : zH), rn 222 87 [l0, l1, l2, l3, l4] S h = rn 222 89 [l0, l1, l2, l3, l4] (.int (nI 13) :: S) h) ∧
  (∀ (l0 l1 l2 l4 : Value) (x : Int32) (S : List Value) (h : zH), rn 222 89 [l0, l1, l2, .int x, l4] S h = rn 222 90 [l0, l1, l2, .int x, l4] (.int x :: S) h) ∧
  (∀ (l0 l1 l2 l3 l4 : Value) (x : Int32) (y : Int32) (S : List Value) (h : zH), rn 222 90 [l0, l1, l2, l3, l4] (.int y :: .int x :: S) h = rn 222 91 [l0, l1, l2, l3, l4] (.int (x + y) :: S) h) ∧
  (∀ (l0 l1 l3 l4 : Value) (x : Int32) (S : List Value) (h : zH), rn 222 91 [l0, l1, .int x, l3, l4] S h = rn 222 92 [l0, l1, .int x, l3, l4] (.int x :: S) h) ∧
  (∀ (l0 l1 l2 l3 l4 : Value) (x : Int32) (S : List Value) (h : zH), rn 222 92 [l0, l1, l2, l3, l4] (.int x :: S) h = rn 222 93 [l0, l1, l2, l3, l4] (.long x.toInt64 :: S) h) ∧
  (∀ (l0 l1 l2 l3 l4 : Value) (a : Nat) (j : Int32) (x : Int64) (S : List Value) (h : zH), rn 222 93 [l0, l1, l2, l3, l4] (.long x :: .int j :: .ref a :: S) h = zsj h a j x fun h => rn 222 94 [l0, l1, l2, l3, l4] S h) ∧
  (∀ (l0 l1 l2 l3 : Value) (x : Int32) (S : List Value) (h : zH), rn 222 94 [l0, l1, l2, l3, .int x] S h = rn 222 96 [l0, l1, l2, l3, .int x] (.int x :: S) h) ∧
  (∀ (l0 l1 l2 l3 l4 : Value) (S : List Value) (h : zH), rn 222 96 [l0, l1, l2, l3, l4] S h = rn 222 97 [l0, l1, l2, l3, l4] (.int (nI 1) :: S) h) ∧
  (∀ (l0 l1 l2 l3 l4 : Value) (x : Int32) (y : Int32) (S : List Value) (h : zH), rn 222 97 [l0, l1, l2, l3, l4] (.int y :: .int x :: S) h = rn 222 98 [l0, l1, l2, l3, l4] (.int (x + y) :: S) h) ∧
  (∀ (l0 l1 l2 l3 l4 : Value) (x : Int32) (h : zH), rn 222 98 [l0, l1, l2, l3, l4] [.int x] h = some (some (.int x), h)) := ⟨fun _ _ _ _ _ _ _ => r_aload_nr (show zdec 222 0 = some (.aload_n 0, 1) by decide +kernel) rfl rfl,
  fun _ _ _ _ _ _ _ _ => r_getfield (show zdec 222 1 = some (.getfield 9, 3) by decide +kernel) (show zft.lookup (222 * zKEY + 9) = some (12, 0) by decide +kernel) rfl,
  fun _ _ _ _ _ _ _ => r_bipush (show zdec 222 4 = some (.bipush 7, 2) by decide +kernel) rfl rfl,
  fun _ _ _ _ _ _ _ _ _ => r_lald (show zdec 222 6 = some (.laload, 1) by decide +kernel) rfl,
  fun _ _ _ _ _ _ _ _ => r_l2i (show zdec 222 7 = some (.l2i, 1) by decide +kernel) rfl,
  fun _ _ _ _ _ _ _ _ => r_istore_n (show zdec 222 8 = some (.istore_n 3, 1) by decide +kernel) rfl rfl (Nat.le_of_ble_eq_true rfl) rfl rfl,
  fun _ _ _ _ _ _ _ => r_iload_n (show zdec 222 9 = some (.iload_n 1, 1) by decide +kernel) rfl rfl,
  fun _ _ _ _ _ _ _ => r_iconst (show zdec 222 10 = some (.iconst 0, 1) by decide +kernel) rfl rfl,
  fun _ _ _ _ _ _ _ => r_ldcI (show zdec 222 11 = some (.ldc 84, 2) by decide +kernel) (show zkt.lookup (222 * zKEY + 84) = some 99999 by decide +kernel) rfl,
  fun _ _ _ _ _ _ _ _ _ _ => r_cS [_, _, _] rfl (show zdec 222 13 = some (.invokestatic 45, 3) by decide +kernel) (show zst.lookup (222 * zKEY + 45) = some (0, 211, 3, 0) by decide +kernel) (by decide) rfl,
  fun _ _ _ _ _ _ _ _ => r_ifeq (show zdec 222 16 = some (.ifCond .eq 35, 3) by decide +kernel) rfl rfl,
  fun _ _ _ _ _ _ _ => r_iload_n (show zdec 222 19 = some (.iload_n 2, 1) by decide +kernel) rfl rfl,
  fun _ _ _ _ _ _ _ => r_iconst (show zdec 222 20 = some (.iconst 0, 1) by decide +kernel) rfl rfl,
  fun _ _ _ _ _ _ _ => r_sipush (show zdec 222 21 = some (.sipush 999, 3) by decide +kernel) rfl rfl,
  fun _ _ _ _ _ _ _ _ _ _ => r_cS [_, _, _] rfl (show zdec 222 24 = some (.invokestatic 45, 3) by decide +kernel) (show zst.lookup (222 * zKEY + 45) = some (0, 211, 3, 0) by decide +kernel) (by decide) rfl,
  fun _ _ _ _ _ _ _ _ => r_ifeq (show zdec 222 27 = some (.ifCond .eq 24, 3) by decide +kernel) rfl rfl,
  fun _ _ _ _ _ _ _ => r_iload_n (show zdec 222 30 = some (.iload_n 3, 1) by decide +kernel) rfl rfl,
  fun _ _ _ _ _ _ _ _ => r_ifle (show zdec 222 31 = some (.ifCond .le 22, 3) by decide +kernel) rfl rfl,
  fun _ _ _ _ _ _ _ => r_iload_n (show zdec 222 34 = some (.iload_n 1, 1) by decide +kernel) rfl rfl,
  fun _ _ _ _ _ _ _ _ => r_i2l (show zdec 222 35 = some (.i2l, 1) by decide +kernel) rfl,
  fun _ _ _ _ _ _ _ => r_aload_nr (show zdec 222 36 = some (.aload_n 0, 1) by decide +kernel) rfl rfl,
  fun _ _ _ _ _ _ _ _ => r_getfield (show zdec 222 37 = some (.getfield 9, 3) by decide +kernel) (show zft.lookup (222 * zKEY + 9) = some (12, 0) by decide +kernel) rfl,
  fun _ _ _ _ _ _ _ => r_bipush (show zdec 222 40 = some (.bipush 8, 2) by decide +kernel) rfl rfl,
  fun _ _ _ _ _ _ _ => r_iload_n (show zdec 222 42 = some (.iload_n 3, 1) by decide +kernel) rfl rfl,
  fun _ _ _ _ _ _ _ _ _ => r_iadd (show zdec 222 43 = some (.iadd, 1) by decide +kernel) rfl,
  fun _ _ _ _ _ _ _ => r_iconst (show zdec 222 44 = some (.iconst 1, 1) by decide +kernel) rfl rfl,
  fun _ _ _ _ _ _ _ _ _ => r_isub (show zdec 222 45 = some (.isub, 1) by decide +kernel) rfl,
  fun _ _ _ _ _ _ _ _ _ => r_lald (show zdec 222 46 = some (.laload, 1) by decide +kernel) rfl,
  fun _ _ _ _ _ _ _ _ _ => r_lcmp (show zdec 222 47 = some (.lcmp, 1) by decide +kernel) rfl,
  fun _ _ _ _ _ _ _ _ => r_ifgt (show zdec 222 48 = some (.ifCond .gt 5, 3) by decide +kernel) rfl rfl,
  fun _ _ _ _ _ _ _ => r_iconst (show zdec 222 51 = some (.iconst (-1), 1) by decide +kernel) rfl rfl,
  fun _ _ _ _ _ _ _ => r_ireti (show zdec 222 52 = some (.ireturn, 1) by decide +kernel) (by decide +kernel),
  fun _ _ _ _ _ _ _ => r_iload_n (show zdec 222 53 = some (.iload_n 3, 1) by decide +kernel) rfl rfl,
  fun _ _ _ _ _ _ _ => r_iconst (show zdec 222 54 = some (.iconst 5, 1) by decide +kernel) rfl rfl,
  fun _ _ _ _ _ _ _ _ _ => r_icmpne (show zdec 222 55 = some (.if_icmp .ne 6, 3) by decide +kernel) rfl rfl,
  fun _ _ _ _ _ _ _ => r_bipush (show zdec 222 58 = some (.bipush (-3), 2) by decide +kernel) rfl rfl,
  fun _ _ _ _ _ _ _ => r_ireti (show zdec 222 60 = some (.ireturn, 1) by decide +kernel) (by decide +kernel),
  fun _ _ _ _ _ _ _ => r_aload_nr (show zdec 222 61 = some (.aload_n 0, 1) by decide +kernel) rfl rfl,
  fun _ _ _ _ _ _ _ => r_bipush (show zdec 222 62 = some (.bipush 7, 2) by decide +kernel) rfl rfl,
  fun _ _ _ _ _ _ _ => r_iload_n (show zdec 222 64 = some (.iload_n 3, 1) by decide +kernel) rfl rfl,
  fun _ _ _ _ _ _ _ => r_iconst (show zdec 222 65 = some (.iconst 1, 1) by decide +kernel) rfl rfl,
  fun _ _ _ _ _ _ _ _ _ => r_iadd (show zdec 222 66 = some (.iadd, 1) by decide +kernel) rfl,
  fun _ _ _ _ _ _ _ _ _ _ => r_cV [_, _] rfl (show zdec 222 67 = some (.invokevirtual 81, 3) by decide +kernel) (show zst.lookup (222 * zKEY + 81) = some (1, 220, 2, 12) by decide +kernel) (by decide) rfl,
  fun _ _ _ _ _ _ _ _ => r_istore (show zdec 222 70 = some (.istore 4, 2) by decide +kernel) rfl (Nat.le_of_ble_eq_true rfl) rfl rfl,
  fun _ _ _ _ _ _ _ => r_aload_nr (show zdec 222 72 = some (.aload_n 0, 1) by decide +kernel) rfl rfl,
  fun _ _ _ _ _ _ _ _ => r_getfield (show zdec 222 73 = some (.getfield 9, 3) by decide +kernel) (show zft.lookup (222 * zKEY + 9) = some (12, 0) by decide +kernel) rfl,
  fun _ _ _ _ _ _ _ => r_bipush (show zdec 222 76 = some (.bipush 8, 2) by decide +kernel) rfl rfl,
  fun _ _ _ _ _ _ _ => r_iload_n (show zdec 222 78 = some (.iload_n 3, 1) by decide +kernel) rfl rfl,
  fun _ _ _ _ _ _ _ _ _ => r_iadd (show zdec 222 79 = some (.iadd, 1) by decide +kernel) rfl,
  fun _ _ _ _ _ _ _ => r_iload_n (show zdec 222 80 = some (.iload_n 1, 1) by decide +kernel) rfl rfl,
  fun _ _ _ _ _ _ _ _ => r_i2l (show zdec 222 81 = some (.i2l, 1) by decide +kernel) rfl,
  fun _ _ _ _ _ _ _ _ _ _ => r_last (show zdec 222 82 = some (.lastore, 1) by decide +kernel) rfl,
  fun _ _ _ _ _ _ _ => r_aload_nr (show zdec 222 83 = some (.aload_n 0, 1) by decide +kernel) rfl rfl,
  fun _ _ _ _ _ _ _ _ => r_getfield (show zdec 222 84 = some (.getfield 9, 3) by decide +kernel) (show zft.lookup (222 * zKEY + 9) = some (12, 0) by decide +kernel) rfl,
  fun _ _ _ _ _ _ _ => r_bipush (show zdec 222 87 = some (.bipush 13, 2) by decide +kernel) rfl rfl,
  fun _ _ _ _ _ _ _ => r_iload_n (show zdec 222 89 = some (.iload_n 3, 1) by decide +kernel) rfl rfl,
  fun _ _ _ _ _ _ _ _ _ => r_iadd (show zdec 222 90 = some (.iadd, 1) by decide +kernel) rfl,
  fun _ _ _ _ _ _ _ => r_iload_n (show zdec 222 91 = some (.iload_n 2, 1) by decide +kernel) rfl rfl,
  fun _ _ _ _ _ _ _ _ => r_i2l (show zdec 222 92 = some (.i2l, 1) by decide +kernel) rfl,
  fun _ _ _ _ _ _ _ _ _ _ => r_last (show zdec 222 93 = some (.lastore, 1) by decide +kernel) rfl,
  fun _ _ _ _ _ _ _ => r_iload (show zdec 222 94 = some (.iload 4, 2) by decide +kernel) rfl rfl,
  fun _ _ _ _ _ _ _ => r_iconst (show zdec 222 96 = some (.iconst 1, 1) by decide +kernel) rfl rfl,
  fun _ _ _ _ _ _ _ _ _ => r_iadd (show zdec 222 97 = some (.iadd, 1) by decide +kernel) rfl,
  fun _ _ _ _ _ _ _ => r_ireti (show zdec 222 98 = some (.ireturn, 1) by decide +kernel) (by decide +kernel)⟩
theorem ze_222 : ∀ (a0 : Nat) (a1 : Int32) (a2 : Int32) (h : zH), ev 222 [.ref a0, .int a1, .int a2] h = rn 222 0 [.ref a0, .int a1, .int a2, .float 0, .float 0] [] h := fun _ _ _ _ => if_pos (Nat.le_of_ble_eq_true rfl)
-- Model.clearBrackets
theorem zr_223 : (∀ (l1 l2 : Value) (x : Nat) (S : List Value) (h : zH), rn 223 0 [.ref x, l1, l2] S h = rn 223 1 [.ref x, l1, l2] (.ref x :: S) h) ∧
  (∀ (l0 l1 l2 : Value) (S : List Value) (h : zH), rn 223 1 [l0, l1, l2] S h = rn 223 3 [l0, l1, l2] (.int (nI 7) :: S) h) ∧
  (∀ (l0 l1 l2 : Value) (S : List Value) (h : zH), rn 223 3 [l0, l1, l2] S h = rn 223 4 [l0, l1, l2] (.int (nI 0) :: S) h) ∧
  (∀ (l0 l1 l2 : Value) (o : Nat) (v0 : Value) (v1 : Value) (S : List Value) (h : zH), rn 223 4 [l0, l1, l2] (v1 :: v0 :: .ref o :: S) h = if zkd h o = 12 ∧ zsum S ≤ 8 then zcall (ev 220 [.ref o, v0, v1] h) (fun v h => rn 223 7 [l0, l1, l2] (zpush v S) h) else none) ∧
  (∀ (l0 l1 l2 : Value) (x : Int32) (S : List Value) (h : zH), rn 223 7 [l0, l1, l2] (.int x :: S) h = nl l0 (rn 223 8 [l0, .int x, l2] S h)) ∧
  (∀ (l0 l1 l2 : Value) (S : List Value) (h : zH), rn 223 8 [l0, l1, l2] S h = rn 223 9 [l0, l1, l2] (.int (nI 0) :: S) h) ∧
  (∀ (l0 l1 l2 : Value) (x : Int32) (S : List Value) (h : zH), rn 223 9 [l0, l1, l2] (.int x :: S) h = nl l1 (rn 223 10 [l0, l1, .int x] S h)) ∧
  (∀ (l0 l1 l2 : Value) (S : List Value) (h : zH), rn 223 11 [l0, l1, l2] S h = rn 223 13 [l0, l1, l2] (.int (nI 10) :: S) h) ∧
  (∀ (l0 l1 l2 : Value) (x : Int32) (y : Int32) (S : List Value) (h : zH), rn 223 13 [l0, l1, l2] (.int y :: .int x :: S) h = if y ≤ x then rn 223 32 [l0, l1, l2] S h else rn 223 16 [l0, l1, l2] S h) ∧
  (∀ (l1 l2 : Value) (x : Nat) (S : List Value) (h : zH), rn 223 16 [.ref x, l1, l2] S h = rn 223 17 [.ref x, l1, l2] (.ref x :: S) h) ∧
  (∀ (l0 l1 l2 : Value) (a : Nat) (S : List Value) (h : zH), rn 223 17 [l0, l1, l2] (.ref a :: S) h = zgf h a 12 0 fun v => rn 223 20 [l0, l1, l2] (v :: S) h) ∧
  (∀ (l0 l1 l2 : Value) (S : List Value) (h : zH), rn 223 20 [l0, l1, l2] S h = rn 223 22 [l0, l1, l2] (.int (nI 8) :: S) h) ∧
  (∀ (l0 l1 : Value) (x : Int32) (S : List Value) (h : zH), rn 223 22 [l0, l1, .int x] S h = rn 223 23 [l0, l1, .int x] (.int x :: S) h) ∧
  (∀ (l0 l1 l2 : Value) (x : Int32) (y : Int32) (S : List Value) (h : zH), rn 223 23 [l0, l1, l2] (.int y :: .int x :: S) h = rn 223 24 [l0, l1, l2] (.int (x + y) :: S) h) ∧
  (∀ (l0 l1 l2 : Value) (S : List Value) (h : zH), rn 223 24 [l0, l1, l2] S h = rn 223 25 [l0, l1, l2] (.long 0 :: S) h) ∧
  (∀ (l0 l1 l2 : Value) (a : Nat) (j : Int32) (x : Int64) (S : List Value) (h : zH), rn 223 25 [l0, l1, l2] (.long x :: .int j :: .ref a :: S) h = zsj h a j x fun h => rn 223 26 [l0, l1, l2] S h) ∧
  (∀ (l0 l1 : Value) (x : Int32) (S : List Value) (h : zH), rn 223 26 [l0, l1, .int x] S h = nl l1 (rn 223 29 [l0, l1, .int (x + (nI 1))] S h)) ∧
  (∀ (l0 l1 l2 : Value) (S : List Value) (h : zH), rn 223 29 [l0, l1, l2] S h = rn 223 10 [l0, l1, l2] S h) ∧
  (∀ (l0 l2 : Value) (x : Int32) (S : List Value) (h : zH), rn 223 32 [l0, .int x, l2] S h = rn 223 33 [l0, .int x, l2] (.int x :: S) h) ∧
  (∀ (l0 l1 l2 : Value) (x : Int32) (h : zH), rn 223 33 [l0, l1, l2] [.int x] h = some (some (.int x), h)) := ⟨fun _ _ _ _ _ => r_aload_nr (show zdec 223 0 = some (.aload_n 0, 1) by decide +kernel) rfl rfl,
  fun _ _ _ _ _ => r_bipush (show zdec 223 1 = some (.bipush 7, 2) by decide +kernel) rfl rfl,
  fun _ _ _ _ _ => r_iconst (show zdec 223 3 = some (.iconst 0, 1) by decide +kernel) rfl rfl,
  fun _ _ _ _ _ _ _ _ => r_cV [_, _] rfl (show zdec 223 4 = some (.invokevirtual 81, 3) by decide +kernel) (show zst.lookup (223 * zKEY + 81) = some (1, 220, 2, 12) by decide +kernel) (by decide) rfl,
  fun _ _ _ _ _ _ => r_istore_n (show zdec 223 7 = some (.istore_n 1, 1) by decide +kernel) rfl rfl (Nat.le_of_ble_eq_true rfl) rfl rfl,
  fun _ _ _ _ _ => r_iconst (show zdec 223 8 = some (.iconst 0, 1) by decide +kernel) rfl rfl,
  fun _ _ _ _ _ _ => r_istore_n (show zdec 223 9 = some (.istore_n 2, 1) by decide +kernel) rfl rfl (Nat.le_of_ble_eq_true rfl) rfl rfl,
  fun _ _ _ _ _ => r_bipush (show zdec 223 11 = some (.bipush 10, 2) by decide +kernel) rfl rfl,
  fun _ _ _ _ _ _ _ => r_icmpge (show zdec 223 13 = some (.if_icmp .ge 19, 3) by decide +kernel) rfl rfl,
  fun _ _ _ _ _ => r_aload_nr (show zdec 223 16 = some (.aload_n 0, 1) by decide +kernel) rfl rfl,
  fun _ _ _ _ _ _ => r_getfield (show zdec 223 17 = some (.getfield 9, 3) by decide +kernel) (show zft.lookup (223 * zKEY + 9) = some (12, 0) by decide +kernel) rfl,
  fun _ _ _ _ _ => r_bipush (show zdec 223 20 = some (.bipush 8, 2) by decide +kernel) rfl rfl,
  fun _ _ _ _ _ => r_iload_n (show zdec 223 22 = some (.iload_n 2, 1) by decide +kernel) rfl rfl,
  fun _ _ _ _ _ _ _ => r_iadd (show zdec 223 23 = some (.iadd, 1) by decide +kernel) rfl,
  fun _ _ _ _ _ => r_lconst (show zdec 223 24 = some (.lconst 0, 1) by decide +kernel) rfl rfl,
  fun _ _ _ _ _ _ _ _ => r_last (show zdec 223 25 = some (.lastore, 1) by decide +kernel) rfl,
  fun _ _ _ _ _ => r_iinc (show zdec 223 26 = some (.iinc 2 1, 3) by decide +kernel) rfl rfl rfl (Nat.le_of_ble_eq_true rfl) rfl rfl,
  fun _ _ _ _ _ => r_goto (show zdec 223 29 = some (.goto (-19), 3) by decide +kernel) rfl,
  fun _ _ _ _ _ => r_iload_n (show zdec 223 32 = some (.iload_n 1, 1) by decide +kernel) rfl rfl,
  fun _ _ _ _ _ => r_ireti (show zdec 223 33 = some (.ireturn, 1) by decide +kernel) (by decide +kernel)⟩
theorem zl_223_10 : ∀ (l0 l1 : Value) (x : Int32) (S : List Value) (h : zH), rn 223 10 [l0, l1, .int x] S h = rn 223 11 [l0, l1, .int x] (.int x :: S) h := fun _ _ _ _ _ => r_iload_n (show zdec 223 10 = some (.iload_n 2, 1) by decide +kernel) rfl rfl
theorem ze_223 : ∀ (a0 : Nat) (h : zH), ev 223 [.ref a0] h = rn 223 0 [.ref a0, .float 0, .float 0] [] h := fun _ _ => if_pos (Nat.le_of_ble_eq_true rfl)
-- Model.garnish
theorem zr_225 : (∀ (l1 l2 l3 l4 l5 l6 l7 : Value) (x : Nat) (S : List Value) (h : zH), rn 225 0 [.ref x, l1, l2, l3, l4, l5, l6, l7] S h = rn 225 1 [.ref x, l1, l2, l3, l4, l5, l6, l7] (.ref x :: S) h) ∧
  (∀ (l0 l2 l3 l4 l5 l6 l7 : Value) (x : Int32) (S : List Value) (h : zH), rn 225 1 [l0, .int x, l2, l3, l4, l5, l6, l7] S h = rn 225 2 [l0, .int x, l2, l3, l4, l5, l6, l7] (.int x :: S) h) ∧
  (∀ (l0 l1 l2 l3 l4 l5 l6 l7 : Value) (S : List Value) (h : zH), rn 225 2 [l0, l1, l2, l3, l4, l5, l6, l7] S h = rn 225 5 [l0, l1, l2, l3, l4, l5, l6, l7] (.int (nI 134) :: S) h) ∧
  (∀ (l0 l1 l2 l3 l4 l5 l6 l7 : Value) (o : Nat) (v0 : Value) (v1 : Value) (S : List Value) (h : zH), rn 225 5 [l0, l1, l2, l3, l4, l5, l6, l7] (v1 :: v0 :: .ref o :: S) h = if zkd h o = 12 ∧ zsum S ≤ 8 then zcall (ev 226 [.ref o, v0, v1] h) (fun v h => rn 225 8 [l0, l1, l2, l3, l4, l5, l6, l7] (zpush v S) h) else none) ∧
  (∀ (l0 l1 l2 l3 l4 l5 l6 l7 : Value) (x : Int64) (S : List Value) (h : zH), rn 225 8 [l0, l1, l2, l3, l4, l5, l6, l7] (.long x :: S) h = rn 225 9 [l0, l1, l2, l3, l4, l5, l6, l7] (.int x.toInt32 :: S) h) ∧
  (∀ (l0 l1 l2 l3 l4 l5 l6 l7 : Value) (x : Int32) (S : List Value) (h : zH), rn 225 9 [l0, l1, l2, l3, l4, l5, l6, l7] (.int x :: S) h = nl l4 (rn 225 11 [l0, l1, l2, l3, l4, .int x, l6, l7] S h)) ∧
  (∀ (l0 l1 l2 l3 l4 l6 l7 : Value) (x : Int32) (S : List Value) (h : zH), rn 225 11 [l0, l1, l2, l3, l4, .int x, l6, l7] S h = rn 225 13 [l0, l1, l2, l3, l4, .int x, l6, l7] (.int x :: S) h) ∧
  (∀ (l0 l1 l2 l3 l4 l5 l6 l7 : Value) (S : List Value) (h : zH), rn 225 13 [l0, l1, l2, l3, l4, l5, l6, l7] S h = rn 225 14 [l0, l1, l2, l3, l4, l5, l6, l7] (.int (nI 3) :: S) h) ∧
  (∀ (l0 l1 l2 l3 l4 l5 l6 l7 : Value) (x : Int32) (y : Int32) (S : List Value) (h : zH), rn 225 14 [l0, l1, l2, l3, l4, l5, l6, l7] (.int y :: .int x :: S) h = if x = y then rn 225 17 [l0, l1, l2, l3, l4, l5, l6, l7] S h else rn 225 20 [l0, l1, l2, l3, l4, l5, l6, l7] S h) ∧
  (∀ (l0 l1 l2 l3 l4 l5 l6 l7 : Value) (S : List Value) (h : zH), rn 225 17 [l0, l1, l2, l3, l4, l5, l6, l7] S h = rn 225 19 [l0, l1, l2, l3, l4, l5, l6, l7] (.int (-3) :: S) h) ∧
  (∀ (l0 l1 l2 l3 l4 l5 l6 l7 : Value) (x : Int32) (h : zH), rn 225 19 [l0, l1, l2, l3, l4, l5, l6, l7] [.int x] h = some (some (.int x), h)) ∧
  (∀ (l1 l2 l3 l4 l5 l6 l7 : Value) (x : Nat) (S : List Value) (h : zH), rn 225 20 [.ref x, l1, l2, l3, l4, l5, l6, l7] S h = rn 225 21 [.ref x, l1, l2, l3, l4, l5, l6, l7] (.ref x :: S) h) ∧
  (∀ (l0 l2 l3 l4 l5 l6 l7 : Value) (x : Int32) (S : List Value) (h : zH), rn 225 21 [l0, .int x, l2, l3, l4, l5, l6, l7] S h = rn 225 22 [l0, .int x, l2, l3, l4, l5, l6, l7] (.int x :: S) h) ∧
  (∀ (l0 l1 l2 l3 l4 l5 l6 l7 : Value) (S : List Value) (h : zH), rn 225 22 [l0, l1, l2, l3, l4, l5, l6, l7] S h = rn 225 25 [l0, l1, l2, l3, l4, l5, l6, l7] (.int (nI 134) :: S) h) ∧
  (∀ (l0 l1 l2 l3 l4 l5 l6 l7 : Value) (v0 : Value) (v1 : Value) (S : List Value) (h : zH), rn 225 25 [l0, l1, l2, l3, l4, l5, l6, l7] (v1 :: v0 :: S) h = if zsum S ≤ 8 then zcall (ev 208 [v0, v1] h) (fun v h => rn 225 28 [l0, l1, l2, l3, l4, l5, l6, l7] (zpush v S) h) else none) ∧
  (∀ (l0 l1 l2 l3 l4 l6 l7 : Value) (x : Int32) (S : List Value) (h : zH), rn 225 28 [l0, l1, l2, l3, l4, .int x, l6, l7] S h = rn 225 30 [l0, l1, l2, l3, l4, .int x, l6, l7] (.int x :: S) h) ∧
  (∀ (l0 l1 l2 l3 l4 l5 l6 l7 : Value) (S : List Value) (h : zH), rn 225 30 [l0, l1, l2, l3, l4, l5, l6, l7] S h = rn 225 31 [l0, l1, l2, l3, l4, l5, l6, l7] (.int (nI 1) :: S) h) ∧
  (∀ (l0 l1 l2 l3 l4 l5 l6 l7 : Value) (x : Int32) (y : Int32) (S : List Value) (h : zH), rn 225 31 [l0, l1, l2, l3, l4, l5, l6, l7] (.int y :: .int x :: S) h = rn 225 32 [l0, l1, l2, l3, l4, l5, l6, l7] (.int (x + y) :: S) h) ∧
  (∀ (l0 l1 l2 l3 l4 l5 l6 l7 : Value) (o : Nat) (v0 : Value) (v1 : Value) (S : List Value) (h : zH), rn 225 32 [l0, l1, l2, l3, l4, l5, l6, l7] (v1 :: v0 :: .ref o :: S) h = if zkd h o = 12 ∧ zsum S ≤ 8 then zcall (ev 213 [.ref o, v0, v1] h) (fun v h => rn 225 35 [l0, l1, l2, l3, l4, l5, l6, l7] (zpush v S) h) else none) ∧
  (∀ (l0 l1 l2 l3 l4 l5 l6 l7 : Value) (x : Int32) (S : List Value) (h : zH), rn 225 35 [l0, l1, l2, l3, l4, l5, l6, l7] (.int x :: S) h = nl l5 (rn 225 37 [l0, l1, l2, l3, l4, l5, .int x, l7] S h)) ∧
  (∀ (l0 l2 l3 l4 l5 l6 l7 : Value) (x : Int32) (S : List Value) (h : zH), rn 225 37 [l0, .int x, l2, l3, l4, l5, l6, l7] S h = rn 225 38 [l0, .int x, l2, l3, l4, l5, l6, l7] (.int x :: S) h) ∧
  (∀ (l0 l1 l2 l3 l4 l5 l6 l7 : Value) (S : List Value) (h : zH), rn 225 38 [l0, l1, l2, l3, l4, l5, l6, l7] S h = rn 225 41 [l0, l1, l2, l3, l4, l5, l6, l7] (.int (nI 135) :: S) h) ∧
  (∀ (l0 l1 l2 l3 l4 l5 l6 l7 : Value) (S : List Value) (h : zH), rn 225 41 [l0, l1, l2, l3, l4, l5, l6, l7] S h = rn 225 42 [l0, l1, l2, l3, l4, l5, l6, l7] (.int (nI 4) :: S) h) ∧
  (∀ (l0 l1 l2 l3 l4 l6 l7 : Value) (x : Int32) (S : List Value) (h : zH), rn 225 42 [l0, l1, l2, l3, l4, .int x, l6, l7] S h = rn 225 44 [l0, l1, l2, l3, l4, .int x, l6, l7] (.int x :: S) h) ∧
  (∀ (l0 l1 l2 l3 l4 l5 l6 l7 : Value) (x : Int32) (y : Int32) (S : List Value) (h : zH), rn 225 44 [l0, l1, l2, l3, l4, l5, l6, l7] (.int y :: .int x :: S) h = rn 225 45 [l0, l1, l2, l3, l4, l5, l6, l7] (.int (x * y) :: S) h) ∧
  (∀ (l0 l1 l2 l3 l4 l5 l6 l7 : Value) (x : Int32) (y : Int32) (S : List Value) (h : zH), rn 225 45 [l0, l1, l2, l3, l4, l5, l6, l7] (.int y :: .int x :: S) h = rn 225 46 [l0, l1, l2, l3, l4, l5, l6, l7] (.int (x + y) :: S) h) ∧
  (∀ (l0 l1 l2 l3 l4 l5 l6 l7 : Value) (v0 : Value) (v1 : Value) (S : List Value) (h : zH), rn 225 46 [l0, l1, l2, l3, l4, l5, l6, l7] (v1 :: v0 :: S) h = if zsum S ≤ 8 then zcall (ev 208 [v0, v1] h) (fun v h => rn 225 49 [l0, l1, l2, l3, l4, l5, l6, l7] (zpush v S) h) else none) ∧
  (∀ (l0 l1 l2 l3 l4 l5 l6 l7 : Value) (x : Int32) (S : List Value) (h : zH), rn 225 49 [l0, l1, l2, l3, l4, l5, l6, l7] (.int x :: S) h = nl l6 (rn 225 51 [l0, l1, l2, l3, l4, l5, l6, .int x] S h)) ∧
  (∀ (l1 l2 l3 l4 l5 l6 l7 : Value) (x : Nat) (S : List Value) (h : zH), rn 225 51 [.ref x, l1, l2, l3, l4, l5, l6, l7] S h = rn 225 52 [.ref x, l1, l2, l3, l4, l5, l6, l7] (.ref x :: S) h) ∧
  (∀ (l0 l1 l2 l3 l4 l5 l6 l7 : Value) (a : Nat) (S : List Value) (h : zH), rn 225 52 [l0, l1, l2, l3, l4, l5, l6, l7] (.ref a :: S) h = zgf h a 12 0 fun v => rn 225 55 [l0, l1, l2, l3, l4, l5, l6, l7] (v :: S) h) ∧
  (∀ (l0 l1 l2 l3 l4 l5 l6 : Value) (x : Int32) (S : List Value) (h : zH), rn 225 55 [l0, l1, l2, l3, l4, l5, l6, .int x] S h = rn 225 57 [l0, l1, l2, l3, l4, l5, l6, .int x] (.int x :: S) h) ∧
  (∀ (l0 l1 l3 l4 l5 l6 l7 : Value) (x : Int32) (S : List Value) (h : zH), rn 225 57 [l0, l1, .int x, l3, l4, l5, l6, l7] S h = rn 225 58 [l0, l1, .int x, l3, l4, l5, l6, l7] (.int x :: S) h) ∧
  (∀ (l0 l1 l2 l3 l4 l5 l6 l7 : Value) (x : Int32) (S : List Value) (h : zH), rn 225 58 [l0, l1, l2, l3, l4, l5, l6, l7] (.int x :: S) h = rn 225 59 [l0, l1, l2, l3, l4, l5, l6, l7] (.long x.toInt64 :: S) h) ∧
  (∀ (l0 l1 l2 l3 l4 l5 l6 l7 : Value) (a : Nat) (j : Int32) (x : Int64) (S : List Value) (h : zH), rn 225 59 [l0, l1, l2, l3, l4, l5, l6, l7] (.long x :: .int j :: .ref a :: S) h = zsj h a j x fun h => rn 225 60 [l0, l1, l2, l3, l4, l5, l6, l7] S h) ∧
  (∀ (l1 l2 l3 l4 l5 l6 l7 : Value) (x : Nat) (S : List Value) (h : zH), rn 225 60 [.ref x, l1, l2, l3, l4, l5, l6, l7] S h = rn 225 61 [.ref x, l1, l2, l3, l4, l5, l6, l7] (.ref x :: S) h) ∧
  (∀ (l0 l1 l2 l3 l4 l5 l6 l7 : Value) (a : Nat) (S : List Value) (h : zH), rn 225 61 [l0, l1, l2, l3, l4, l5, l6, l7] (.ref a :: S) h = zgf h a 12 0 fun v => rn 225 64 [l0, l1, l2, l3, l4, l5, l6, l7] (v :: S) h) ∧
  (∀ (l0 l1 l2 l3 l4 l5 l6 : Value) (x : Int32) (S : List Value) (h : zH), rn 225 64 [l0, l1, l2, l3, l4, l5, l6, .int x] S h = rn 225 66 [l0, l1, l2, l3, l4, l5, l6, .int x] (.int x :: S) h) ∧
  (∀ (l0 l1 l2 l3 l4 l5 l6 l7 : Value) (S : List Value) (h : zH), rn 225 66 [l0, l1, l2, l3, l4, l5, l6, l7] S h = rn 225 67 [l0, l1, l2, l3, l4, l5, l6, l7] (.int (nI 1) :: S) h) ∧
  (∀ (l0 l1 l2 l3 l4 l5 l6 l7 : Value) (x : Int32) (y : Int32) (S : List Value) (h : zH), rn 225 67 [l0, l1, l2, l3, l4, l5, l6, l7] (.int y :: .int x :: S) h = rn 225 68 [l0, l1, l2, l3, l4, l5, l6, l7] (.int (x + y) :: S) h) ∧
  (∀ (l0 l1 l2 l4 l5 l6 l7 : Value) (x : Int32) (S : List Value) (h : zH), rn 225 68 [l0, l1, l2, .int x, l4, l5, l6, l7] S h = rn 225 69 [l0, l1, l2, .int x, l4, l5, l6, l7] (.int x :: S) h) ∧
  (∀ (l0 l1 l2 l3 l4 l5 l6 l7 : Value) (x : Int32) (S : List Value) (h : zH), rn 225 69 [l0, l1, l2, l3, l4, l5, l6, l7] (.int x :: S) h = rn 225 70 [l0, l1, l2, l3, l4, l5, l6, l7] (.long x.toInt64 :: S) h) ∧
  (∀ (l0 l1 l2 l3 l4 l5 l6 l7 : Value) (a : Nat) (j : Int32) (x : Int64) (S : List Value) (h : zH), rn 225 70 [l0, l1, l2, l3, l4, l5, l6, l7] (.long x :: .int j :: .ref a :: S) h = zsj h a j x fun h => rn 225 71 [l0, l1, l2, l3, l4, l5, l6, l7] S h) ∧
  (∀ (l1 l2 l3 l4 l5 l6 l7 : Value) (x : Nat) (S : List Value) (h : zH), rn 225 71 [.ref x, l1, l2, l3, l4, l5, l6, l7] S h = rn 225 72 [.ref x, l1, l2, l3, l4, l5, l6, l7] (.ref x :: S) h) ∧
  (∀ (l0 l1 l2 l3 l4 l5 l6 l7 : Value) (a : Nat) (S : List Value) (h : zH), rn 225 72 [l0, l1, l2, l3, l4, l5, l6, l7] (.ref a :: S) h = zgf h a 12 0 fun v => rn 225 75 [l0, l1, l2, l3, l4, l5, l6, l7] (v :: S) h) ∧
  (∀ (l0 l1 l2 l3 l4 l5 l6 : Value) (x : Int32) (S : List Value) (h : zH), rn 225 75 [l0, l1, l2, l3, l4, l5, l6, .int x] S h = rn 225 77 [l0, l1, l2, l3, l4, l5, l6, .int x] (.int x :: S) h) ∧
  (∀ (l0 l1 l2 l3 l4 l5 l6 l7 : Value) (S : List Value) (h : zH), rn 225 77 [l0, l1, l2, l3, l4, l5, l6, l7] S h = rn 225 78 [l0, l1, l2, l3, l4, l5, l6, l7] (.int (nI 2) :: S) h) ∧
  (∀ (l0 l1 l2 l3 l4 l5 l6 l7 : Value) (x : Int32) (y : Int32) (S : List Value) (h : zH), rn 225 78 [l0, l1, l2, l3, l4, l5, l6, l7] (.int y :: .int x :: S) h = rn 225 79 [l0, l1, l2, l3, l4, l5, l6, l7] (.int (x + y) :: S) h) ∧
  (∀ (l0 l1 l2 l3 l5 l6 l7 : Value) (x : Int32) (S : List Value) (h : zH), rn 225 79 [l0, l1, l2, l3, .int x, l5, l6, l7] S h = rn 225 81 [l0, l1, l2, l3, .int x, l5, l6, l7] (.int x :: S) h) ∧
  (∀ (l0 l1 l2 l3 l4 l5 l6 l7 : Value) (x : Int32) (S : List Value) (h : zH), rn 225 81 [l0, l1, l2, l3, l4, l5, l6, l7] (.int x :: S) h = rn 225 82 [l0, l1, l2, l3, l4, l5, l6, l7] (.long x.toInt64 :: S) h) ∧
  (∀ (l0 l1 l2 l3 l4 l5 l6 l7 : Value) (a : Nat) (j : Int32) (x : Int64) (S : List Value) (h : zH), rn 225 82 [l0, l1, l2, l3, l4, l5, l6, l7] (.long x :: .int j :: .ref a :: S) h = zsj h a j x fun h => rn 225 83 [l0, l1, l2, l3, l4, l5, l6, l7] S h) ∧
  (∀ (l1 l2 l3 l4 l5 l6 l7 : Value) (x : Nat) (S : List Value) (h : zH), rn 225 83 [.ref x, l1, l2, l3, l4, l5, l6, l7] S h = rn 225 84 [.ref x, l1, l2, l3, l4, l5, l6, l7] (.ref x :: S) h) ∧
  (∀ (l0 l1 l2 l3 l4 l5 l6 l7 : Value) (a : Nat) (S : List Value) (h : zH), rn 225 84 [l0, l1, l2, l3, l4, l5, l6, l7] (.ref a :: S) h = zgf h a 12 0 fun v => rn 225 87 [l0, l1, l2, l3, l4, l5, l6, l7] (v :: S) h) ∧
  (∀ (l0 l1 l2 l3 l4 l5 l6 : Value) (x : Int32) (S : List Value) (h : zH), rn 225 87 [l0, l1, l2, l3, l4, l5, l6, .int x] S h = rn 225 89 [l0, l1, l2, l3, l4, l5, l6, .int x] (.int x :: S) h) ∧
  (∀ (l0 l1 l2 l3 l4 l5 l6 l7 : Value) (S : List Value) (h : zH), rn 225 89 [l0, l1, l2, l3, l4, l5, l6, l7] S h = rn 225 90 [l0, l1, l2, l3, l4, l5, l6, l7] (.int (nI 3) :: S) h) ∧
  (∀ (l0 l1 l2 l3 l4 l5 l6 l7 : Value) (x : Int32) (y : Int32) (S : List Value) (h : zH), rn 225 90 [l0, l1, l2, l3, l4, l5, l6, l7] (.int y :: .int x :: S) h = rn 225 91 [l0, l1, l2, l3, l4, l5, l6, l7] (.int (x + y) :: S) h) ∧
  (∀ (l0 l1 l2 l3 l5 l6 l7 : Value) (x : Int32) (S : List Value) (h : zH), rn 225 91 [l0, l1, l2, l3, .int x, l5, l6, l7] S h = rn 225 93 [l0, l1, l2, l3, .int x, l5, l6, l7] (.int x :: S) h) ∧
  (∀ (l0 l1 l2 l3 l4 l5 l6 l7 : Value) (x : Int32) (S : List Value) (h : zH), rn 225 93 [l0, l1, l2, l3, l4, l5, l6, l7] (.int x :: S) h = rn 225 94 [l0, l1, l2, l3, l4, l5, l6, l7] (.long x.toInt64 :: S) h) ∧
  (∀ (l0 l1 l2 l3 l4 l5 l6 l7 : Value) (S : List Value) (h : zH), rn 225 94 [l0, l1, l2, l3, l4, l5, l6, l7] S h = rn 225 97 [l0, l1, l2, l3, l4, l5, l6, l7] (.long (1000000) :: S) h) ∧
  (∀ (l0 l1 l2 l3 l4 l5 l6 l7 : Value) (x : Int64) (y : Int64) (S : List Value) (h : zH), rn 225 97 [l0, l1, l2, l3, l4, l5, l6, l7] (.long y :: .long x :: S) h = rn 225 98 [l0, l1, l2, l3, l4, l5, l6, l7] (.long (x * y) :: S) h) ∧
  (∀ (l0 l1 l2 l3 l4 l5 l6 l7 : Value) (a : Nat) (j : Int32) (x : Int64) (S : List Value) (h : zH), rn 225 98 [l0, l1, l2, l3, l4, l5, l6, l7] (.long x :: .int j :: .ref a :: S) h = zsj h a j x fun h => rn 225 99 [l0, l1, l2, l3, l4, l5, l6, l7] S h) ∧
  (∀ (l0 l1 l2 l3 l4 l5 l7 : Value) (x : Int32) (S : List Value) (h : zH), rn 225 99 [l0, l1, l2, l3, l4, l5, .int x, l7] S h = rn 225 101 [l0, l1, l2, l3, l4, l5, .int x, l7] (.int x :: S) h) ∧
  (∀ (l0 l1 l2 l3 l4 l5 l6 l7 : Value) (S : List Value) (h : zH), rn 225 101 [l0, l1, l2, l3, l4, l5, l6, l7] S h = rn 225 102 [l0, l1, l2, l3, l4, l5, l6, l7] (.int (nI 1) :: S) h) ∧
  (∀ (l0 l1 l2 l3 l4 l5 l6 l7 : Value) (x : Int32) (y : Int32) (S : List Value) (h : zH), rn 225 102 [l0, l1, l2, l3, l4, l5, l6, l7] (.int y :: .int x :: S) h = rn 225 103 [l0, l1, l2, l3, l4, l5, l6, l7] (.int (x + y) :: S) h) ∧
  (∀ (l0 l1 l2 l3 l4 l5 l6 l7 : Value) (x : Int32) (h : zH), rn 225 103 [l0, l1, l2, l3, l4, l5, l6, l7] [.int x] h = some (some (.int x), h)) := ⟨fun _ _ _ _ _ _ _ _ _ _ => r_aload_nr (show zdec 225 0 = some (.aload_n 0, 1) by decide +kernel) rfl rfl,
  fun _ _ _ _ _ _ _ _ _ _ => r_iload_n (show zdec 225 1 = some (.iload_n 1, 1) by decide +kernel) rfl rfl,
  fun _ _ _ _ _ _ _ _ _ _ => r_sipush (show zdec 225 2 = some (.sipush 134, 3) by decide +kernel) rfl rfl,
  fun _ _ _ _ _ _ _ _ _ _ _ _ _ => r_cV [_, _] rfl (show zdec 225 5 = some (.invokevirtual 85, 3) by decide +kernel) (show zst.lookup (225 * zKEY + 85) = some (1, 226, 2, 12) by decide +kernel) (by decide) rfl,
  fun _ _ _ _ _ _ _ _ _ _ _ => r_l2i (show zdec 225 8 = some (.l2i, 1) by decide +kernel) rfl,
  fun _ _ _ _ _ _ _ _ _ _ _ => r_istore (show zdec 225 9 = some (.istore 5, 2) by decide +kernel) rfl (Nat.le_of_ble_eq_true rfl) rfl rfl,
  fun _ _ _ _ _ _ _ _ _ _ => r_iload (show zdec 225 11 = some (.iload 5, 2) by decide +kernel) rfl rfl,
  fun _ _ _ _ _ _ _ _ _ _ => r_iconst (show zdec 225 13 = some (.iconst 3, 1) by decide +kernel) rfl rfl,
  fun _ _ _ _ _ _ _ _ _ _ _ _ => r_icmpne (show zdec 225 14 = some (.if_icmp .ne 6, 3) by decide +kernel) rfl rfl,
  fun _ _ _ _ _ _ _ _ _ _ => r_bipush (show zdec 225 17 = some (.bipush (-3), 2) by decide +kernel) rfl rfl,
  fun _ _ _ _ _ _ _ _ _ _ => r_ireti (show zdec 225 19 = some (.ireturn, 1) by decide +kernel) (by decide +kernel),
  fun _ _ _ _ _ _ _ _ _ _ => r_aload_nr (show zdec 225 20 = some (.aload_n 0, 1) by decide +kernel) rfl rfl,
  fun _ _ _ _ _ _ _ _ _ _ => r_iload_n (show zdec 225 21 = some (.iload_n 1, 1) by decide +kernel) rfl rfl,
  fun _ _ _ _ _ _ _ _ _ _ => r_sipush (show zdec 225 22 = some (.sipush 134, 3) by decide +kernel) rfl rfl,
  fun _ _ _ _ _ _ _ _ _ _ _ _ => r_cS [_, _] rfl (show zdec 225 25 = some (.invokestatic 39, 3) by decide +kernel) (show zst.lookup (225 * zKEY + 39) = some (0, 208, 2, 0) by decide +kernel) (by decide) rfl,
  fun _ _ _ _ _ _ _ _ _ _ => r_iload (show zdec 225 28 = some (.iload 5, 2) by decide +kernel) rfl rfl,
  fun _ _ _ _ _ _ _ _ _ _ => r_iconst (show zdec 225 30 = some (.iconst 1, 1) by decide +kernel) rfl rfl,
  fun _ _ _ _ _ _ _ _ _ _ _ _ => r_iadd (show zdec 225 31 = some (.iadd, 1) by decide +kernel) rfl,
  fun _ _ _ _ _ _ _ _ _ _ _ _ _ => r_cV [_, _] rfl (show zdec 225 32 = some (.invokevirtual 78, 3) by decide +kernel) (show zst.lookup (225 * zKEY + 78) = some (1, 213, 2, 12) by decide +kernel) (by decide) rfl,
  fun _ _ _ _ _ _ _ _ _ _ _ => r_istore (show zdec 225 35 = some (.istore 6, 2) by decide +kernel) rfl (Nat.le_of_ble_eq_true rfl) rfl rfl,
  fun _ _ _ _ _ _ _ _ _ _ => r_iload_n (show zdec 225 37 = some (.iload_n 1, 1) by decide +kernel) rfl rfl,
  fun _ _ _ _ _ _ _ _ _ _ => r_sipush (show zdec 225 38 = some (.sipush 135, 3) by decide +kernel) rfl rfl,
  fun _ _ _ _ _ _ _ _ _ _ => r_iconst (show zdec 225 41 = some (.iconst 4, 1) by decide +kernel) rfl rfl,
  fun _ _ _ _ _ _ _ _ _ _ => r_iload (show zdec 225 42 = some (.iload 5, 2) by decide +kernel) rfl rfl,
  fun _ _ _ _ _ _ _ _ _ _ _ _ => r_imul (show zdec 225 44 = some (.imul, 1) by decide +kernel) rfl,
  fun _ _ _ _ _ _ _ _ _ _ _ _ => r_iadd (show zdec 225 45 = some (.iadd, 1) by decide +kernel) rfl,
  fun _ _ _ _ _ _ _ _ _ _ _ _ => r_cS [_, _] rfl (show zdec 225 46 = some (.invokestatic 39, 3) by decide +kernel) (show zst.lookup (225 * zKEY + 39) = some (0, 208, 2, 0) by decide +kernel) (by decide) rfl,
  fun _ _ _ _ _ _ _ _ _ _ _ => r_istore (show zdec 225 49 = some (.istore 7, 2) by decide +kernel) rfl (Nat.le_of_ble_eq_true rfl) rfl rfl,
  fun _ _ _ _ _ _ _ _ _ _ => r_aload_nr (show zdec 225 51 = some (.aload_n 0, 1) by decide +kernel) rfl rfl,
  fun _ _ _ _ _ _ _ _ _ _ _ => r_getfield (show zdec 225 52 = some (.getfield 9, 3) by decide +kernel) (show zft.lookup (225 * zKEY + 9) = some (12, 0) by decide +kernel) rfl,
  fun _ _ _ _ _ _ _ _ _ _ => r_iload (show zdec 225 55 = some (.iload 7, 2) by decide +kernel) rfl rfl,
  fun _ _ _ _ _ _ _ _ _ _ => r_iload_n (show zdec 225 57 = some (.iload_n 2, 1) by decide +kernel) rfl rfl,
  fun _ _ _ _ _ _ _ _ _ _ _ => r_i2l (show zdec 225 58 = some (.i2l, 1) by decide +kernel) rfl,
  fun _ _ _ _ _ _ _ _ _ _ _ _ _ => r_last (show zdec 225 59 = some (.lastore, 1) by decide +kernel) rfl,
  fun _ _ _ _ _ _ _ _ _ _ => r_aload_nr (show zdec 225 60 = some (.aload_n 0, 1) by decide +kernel) rfl rfl,
  fun _ _ _ _ _ _ _ _ _ _ _ => r_getfield (show zdec 225 61 = some (.getfield 9, 3) by decide +kernel) (show zft.lookup (225 * zKEY + 9) = some (12, 0) by decide +kernel) rfl,
  fun _ _ _ _ _ _ _ _ _ _ => r_iload (show zdec 225 64 = some (.iload 7, 2) by decide +kernel) rfl rfl,
  fun _ _ _ _ _ _ _ _ _ _ => r_iconst (show zdec 225 66 = some (.iconst 1, 1) by decide +kernel) rfl rfl,
  fun _ _ _ _ _ _ _ _ _ _ _ _ => r_iadd (show zdec 225 67 = some (.iadd, 1) by decide +kernel) rfl,
  fun _ _ _ _ _ _ _ _ _ _ => r_iload_n (show zdec 225 68 = some (.iload_n 3, 1) by decide +kernel) rfl rfl,
  fun _ _ _ _ _ _ _ _ _ _ _ => r_i2l (show zdec 225 69 = some (.i2l, 1) by decide +kernel) rfl,
  fun _ _ _ _ _ _ _ _ _ _ _ _ _ => r_last (show zdec 225 70 = some (.lastore, 1) by decide +kernel) rfl,
  fun _ _ _ _ _ _ _ _ _ _ => r_aload_nr (show zdec 225 71 = some (.aload_n 0, 1) by decide +kernel) rfl rfl,
  fun _ _ _ _ _ _ _ _ _ _ _ => r_getfield (show zdec 225 72 = some (.getfield 9, 3) by decide +kernel) (show zft.lookup (225 * zKEY + 9) = some (12, 0) by decide +kernel) rfl,
  fun _ _ _ _ _ _ _ _ _ _ => r_iload (show zdec 225 75 = some (.iload 7, 2) by decide +kernel) rfl rfl,
  fun _ _ _ _ _ _ _ _ _ _ => r_iconst (show zdec 225 77 = some (.iconst 2, 1) by decide +kernel) rfl rfl,
  fun _ _ _ _ _ _ _ _ _ _ _ _ => r_iadd (show zdec 225 78 = some (.iadd, 1) by decide +kernel) rfl,
  fun _ _ _ _ _ _ _ _ _ _ => r_iload (show zdec 225 79 = some (.iload 4, 2) by decide +kernel) rfl rfl,
  fun _ _ _ _ _ _ _ _ _ _ _ => r_i2l (show zdec 225 81 = some (.i2l, 1) by decide +kernel) rfl,
  fun _ _ _ _ _ _ _ _ _ _ _ _ _ => r_last (show zdec 225 82 = some (.lastore, 1) by decide +kernel) rfl,
  fun _ _ _ _ _ _ _ _ _ _ => r_aload_nr (show zdec 225 83 = some (.aload_n 0, 1) by decide +kernel) rfl rfl,
  fun _ _ _ _ _ _ _ _ _ _ _ => r_getfield (show zdec 225 84 = some (.getfield 9, 3) by decide +kernel) (show zft.lookup (225 * zKEY + 9) = some (12, 0) by decide +kernel) rfl,
  fun _ _ _ _ _ _ _ _ _ _ => r_iload (show zdec 225 87 = some (.iload 7, 2) by decide +kernel) rfl rfl,
  fun _ _ _ _ _ _ _ _ _ _ => r_iconst (show zdec 225 89 = some (.iconst 3, 1) by decide +kernel) rfl rfl,
  fun _ _ _ _ _ _ _ _ _ _ _ _ => r_iadd (show zdec 225 90 = some (.iadd, 1) by decide +kernel) rfl,
  fun _ _ _ _ _ _ _ _ _ _ => r_iload (show zdec 225 91 = some (.iload 4, 2) by decide +kernel) rfl rfl,
  fun _ _ _ _ _ _ _ _ _ _ _ => r_i2l (show zdec 225 93 = some (.i2l, 1) by decide +kernel) rfl,
  fun _ _ _ _ _ _ _ _ _ _ => r_ldc2 (show zdec 225 94 = some (.ldc2_w 89, 3) by decide +kernel) (show zlt.lookup (225 * zKEY + 89) = some 1000000 by decide +kernel) rfl,
  fun _ _ _ _ _ _ _ _ _ _ _ _ => r_lmul (show zdec 225 97 = some (.lmul, 1) by decide +kernel) rfl,
  fun _ _ _ _ _ _ _ _ _ _ _ _ _ => r_last (show zdec 225 98 = some (.lastore, 1) by decide +kernel) rfl,
  fun _ _ _ _ _ _ _ _ _ _ => r_iload (show zdec 225 99 = some (.iload 6, 2) by decide +kernel) rfl rfl,
  fun _ _ _ _ _ _ _ _ _ _ => r_iconst (show zdec 225 101 = some (.iconst 1, 1) by decide +kernel) rfl rfl,
  fun _ _ _ _ _ _ _ _ _ _ _ _ => r_iadd (show zdec 225 102 = some (.iadd, 1) by decide +kernel) rfl,
  fun _ _ _ _ _ _ _ _ _ _ => r_ireti (show zdec 225 103 = some (.ireturn, 1) by decide +kernel) (by decide +kernel)⟩
theorem ze_225 : ∀ (a0 : Nat) (a1 : Int32) (a2 : Int32) (a3 : Int32) (a4 : Int32) (h : zH), ev 225 [.ref a0, .int a1, .int a2, .int a3, .int a4] h = rn 225 0 [.ref a0, .int a1, .int a2, .int a3, .int a4, .float 0, .float 0, .float 0] [] h := fun _ _ _ _ _ _ => if_pos (Nat.le_of_ble_eq_true rfl)
-- Model.fixed
theorem zr_224 : (∀ (l0 l2 l3 : Value) (x : Int32) (S : List Value) (h : zH), rn 224 0 [l0, .int x, l2, l3] S h = rn 224 1 [l0, .int x, l2, l3] (.int x :: S) h) ∧
  (∀ (l0 l1 l2 l3 : Value) (v0 : Value) (S : List Value) (h : zH), rn 224 1 [l0, l1, l2, l3] (v0 :: S) h = if zsum S ≤ 8 then zcall (ev 210 [v0] h) (fun v h => rn 224 4 [l0, l1, l2, l3] (zpush v S) h) else none) ∧
  (∀ (l0 l1 l2 l3 : Value) (x : Int32) (S : List Value) (h : zH), rn 224 4 [l0, l1, l2, l3] (.int x :: S) h = if x = nI 0 then rn 224 39 [l0, l1, l2, l3] S h else rn 224 7 [l0, l1, l2, l3] S h) ∧
  (∀ (l0 l1 l3 : Value) (x : Int32) (S : List Value) (h : zH), rn 224 7 [l0, l1, .int x, l3] S h = rn 224 8 [l0, l1, .int x, l3] (.int x :: S) h) ∧
  (∀ (l0 l1 l2 l3 : Value) (S : List Value) (h : zH), rn 224 8 [l0, l1, l2, l3] S h = rn 224 9 [l0, l1, l2, l3] (.int (nI 1) :: S) h) ∧
  (∀ (l0 l1 l2 l3 : Value) (S : List Value) (h : zH), rn 224 9 [l0, l1, l2, l3] S h = rn 224 12 [l0, l1, l2, l3] (.int (nI 9999) :: S) h) ∧
  (∀ (l0 l1 l2 l3 : Value) (v0 : Value) (v1 : Value) (v2 : Value) (S : List Value) (h : zH), rn 224 12 [l0, l1, l2, l3] (v2 :: v1 :: v0 :: S) h = if zsum S ≤ 8 then zcall (ev 211 [v0, v1, v2] h) (fun v h => rn 224 15 [l0, l1, l2, l3] (zpush v S) h) else none) ∧
  (∀ (l0 l1 l2 l3 : Value) (x : Int32) (S : List Value) (h : zH), rn 224 15 [l0, l1, l2, l3] (.int x :: S) h = if x = nI 0 then rn 224 39 [l0, l1, l2, l3] S h else rn 224 18 [l0, l1, l2, l3] S h) ∧
  (∀ (l0 l1 l2 : Value) (x : Int32) (S : List Value) (h : zH), rn 224 18 [l0, l1, l2, .int x] S h = rn 224 19 [l0, l1, l2, .int x] (.int x :: S) h) ∧
  (∀ (l0 l1 l2 l3 : Value) (S : List Value) (h : zH), rn 224 19 [l0, l1, l2, l3] S h = rn 224 20 [l0, l1, l2, l3] (.int (nI 1) :: S) h) ∧
  (∀ (l0 l1 l2 l3 : Value) (S : List Value) (h : zH), rn 224 20 [l0, l1, l2, l3] S h = rn 224 22 [l0, l1, l2, l3] (.int (nI 99999) :: S) h) ∧
  (∀ (l0 l1 l2 l3 : Value) (v0 : Value) (v1 : Value) (v2 : Value) (S : List Value) (h : zH), rn 224 22 [l0, l1, l2, l3] (v2 :: v1 :: v0 :: S) h = if zsum S ≤ 8 then zcall (ev 211 [v0, v1, v2] h) (fun v h => rn 224 25 [l0, l1, l2, l3] (zpush v S) h) else none) ∧
  (∀ (l0 l1 l2 l3 : Value) (x : Int32) (S : List Value) (h : zH), rn 224 25 [l0, l1, l2, l3] (.int x :: S) h = if x = nI 0 then rn 224 39 [l0, l1, l2, l3] S h else rn 224 28 [l0, l1, l2, l3] S h) ∧
  (∀ (l1 l2 l3 : Value) (x : Nat) (S : List Value) (h : zH), rn 224 28 [.ref x, l1, l2, l3] S h = rn 224 29 [.ref x, l1, l2, l3] (.ref x :: S) h) ∧
  (∀ (l0 l2 l3 : Value) (x : Int32) (S : List Value) (h : zH), rn 224 29 [l0, .int x, l2, l3] S h = rn 224 30 [l0, .int x, l2, l3] (.int x :: S) h) ∧
  (∀ (l0 l1 l2 l3 : Value) (S : List Value) (h : zH), rn 224 30 [l0, l1, l2, l3] S h = rn 224 31 [l0, l1, l2, l3] (.int (nI 0) :: S) h) ∧
  (∀ (l0 l1 l3 : Value) (x : Int32) (S : List Value) (h : zH), rn 224 31 [l0, l1, .int x, l3] S h = rn 224 32 [l0, l1, .int x, l3] (.int x :: S) h) ∧
  (∀ (l0 l1 l2 : Value) (x : Int32) (S : List Value) (h : zH), rn 224 32 [l0, l1, l2, .int x] S h = rn 224 33 [l0, l1, l2, .int x] (.int x :: S) h) ∧
  (∀ (l0 l1 l2 l3 : Value) (o : Nat) (v0 : Value) (v1 : Value) (v2 : Value) (v3 : Value) (S : List Value) (h : zH), rn 224 33 [l0, l1, l2, l3] (v3 :: v2 :: v1 :: v0 :: .ref o :: S) h = if zkd h o = 12 ∧ zsum S ≤ 8 then zcall (ev 225 [.ref o, v0, v1, v2, v3] h) (fun v h => rn 224 36 [l0, l1, l2, l3] (zpush v S) h) else none) ∧
  (∀ (l0 l1 l2 l3 : Value) (S : List Value) (h : zH), rn 224 36 [l0, l1, l2, l3] S h = rn 224 40 [l0, l1, l2, l3] S h) ∧
  (∀ (l0 l1 l2 l3 : Value) (S : List Value) (h : zH), rn 224 39 [l0, l1, l2, l3] S h = rn 224 40 [l0, l1, l2, l3] (.int (-1) :: S) h) ∧
  (∀ (l0 l1 l2 l3 : Value) (x : Int32) (h : zH), rn 224 40 [l0, l1, l2, l3] [.int x] h = some (some (.int x), h)) := ⟨fun _ _ _ _ _ _ => r_iload_n (show zdec 224 0 = some (.iload_n 1, 1) by decide +kernel) rfl rfl,
  fun _ _ _ _ _ _ _ => r_cS [_] rfl (show zdec 224 1 = some (.invokestatic 71, 3) by decide +kernel) (show zst.lookup (224 * zKEY + 71) = some (0, 210, 1, 0) by decide +kernel) (by decide) rfl,
  fun _ _ _ _ _ _ _ => r_ifeq (show zdec 224 4 = some (.ifCond .eq 35, 3) by decide +kernel) rfl rfl,
  fun _ _ _ _ _ _ => r_iload_n (show zdec 224 7 = some (.iload_n 2, 1) by decide +kernel) rfl rfl,
  fun _ _ _ _ _ _ => r_iconst (show zdec 224 8 = some (.iconst 1, 1) by decide +kernel) rfl rfl,
  fun _ _ _ _ _ _ => r_sipush (show zdec 224 9 = some (.sipush 9999, 3) by decide +kernel) rfl rfl,
  fun _ _ _ _ _ _ _ _ _ => r_cS [_, _, _] rfl (show zdec 224 12 = some (.invokestatic 45, 3) by decide +kernel) (show zst.lookup (224 * zKEY + 45) = some (0, 211, 3, 0) by decide +kernel) (by decide) rfl,
  fun _ _ _ _ _ _ _ => r_ifeq (show zdec 224 15 = some (.ifCond .eq 24, 3) by decide +kernel) rfl rfl,
  fun _ _ _ _ _ _ => r_iload_n (show zdec 224 18 = some (.iload_n 3, 1) by decide +kernel) rfl rfl,
  fun _ _ _ _ _ _ => r_iconst (show zdec 224 19 = some (.iconst 1, 1) by decide +kernel) rfl rfl,
  fun _ _ _ _ _ _ => r_ldcI (show zdec 224 20 = some (.ldc 84, 2) by decide +kernel) (show zkt.lookup (224 * zKEY + 84) = some 99999 by decide +kernel) rfl,
  fun _ _ _ _ _ _ _ _ _ => r_cS [_, _, _] rfl (show zdec 224 22 = some (.invokestatic 45, 3) by decide +kernel) (show zst.lookup (224 * zKEY + 45) = some (0, 211, 3, 0) by decide +kernel) (by decide) rfl,
  fun _ _ _ _ _ _ _ => r_ifeq (show zdec 224 25 = some (.ifCond .eq 14, 3) by decide +kernel) rfl rfl,
  fun _ _ _ _ _ _ => r_aload_nr (show zdec 224 28 = some (.aload_n 0, 1) by decide +kernel) rfl rfl,
  fun _ _ _ _ _ _ => r_iload_n (show zdec 224 29 = some (.iload_n 1, 1) by decide +kernel) rfl rfl,
  fun _ _ _ _ _ _ => r_iconst (show zdec 224 30 = some (.iconst 0, 1) by decide +kernel) rfl rfl,
  fun _ _ _ _ _ _ => r_iload_n (show zdec 224 31 = some (.iload_n 2, 1) by decide +kernel) rfl rfl,
  fun _ _ _ _ _ _ => r_iload_n (show zdec 224 32 = some (.iload_n 3, 1) by decide +kernel) rfl rfl,
  fun _ _ _ _ _ _ _ _ _ _ _ => r_cV [_, _, _, _] rfl (show zdec 224 33 = some (.invokevirtual 91, 3) by decide +kernel) (show zst.lookup (224 * zKEY + 91) = some (1, 225, 4, 12) by decide +kernel) (by decide) rfl,
  fun _ _ _ _ _ _ => r_goto (show zdec 224 36 = some (.goto 4, 3) by decide +kernel) rfl,
  fun _ _ _ _ _ _ => r_iconst (show zdec 224 39 = some (.iconst (-1), 1) by decide +kernel) rfl rfl,
  fun _ _ _ _ _ _ => r_ireti (show zdec 224 40 = some (.ireturn, 1) by decide +kernel) (by decide +kernel)⟩
theorem ze_224 : ∀ (a0 : Nat) (a1 : Int32) (a2 : Int32) (a3 : Int32) (h : zH), ev 224 [.ref a0, .int a1, .int a2, .int a3] h = rn 224 0 [.ref a0, .int a1, .int a2, .int a3] [] h := fun _ _ _ _ _ => if_pos (Nat.le_of_ble_eq_true rfl)
-- Model.share
theorem zr_227 : (∀ (l0 l2 l3 : Value) (x : Int32) (S : List Value) (h : zH), rn 227 0 [l0, .int x, l2, l3] S h = rn 227 1 [l0, .int x, l2, l3] (.int x :: S) h) ∧
  (∀ (l0 l1 l2 l3 : Value) (v0 : Value) (S : List Value) (h : zH), rn 227 1 [l0, l1, l2, l3] (v0 :: S) h = if zsum S ≤ 8 then zcall (ev 210 [v0] h) (fun v h => rn 227 4 [l0, l1, l2, l3] (zpush v S) h) else none) ∧
  (∀ (l0 l1 l2 l3 : Value) (x : Int32) (S : List Value) (h : zH), rn 227 4 [l0, l1, l2, l3] (.int x :: S) h = if x = nI 0 then rn 227 39 [l0, l1, l2, l3] S h else rn 227 7 [l0, l1, l2, l3] S h) ∧
  (∀ (l0 l1 l3 : Value) (x : Int32) (S : List Value) (h : zH), rn 227 7 [l0, l1, .int x, l3] S h = rn 227 8 [l0, l1, .int x, l3] (.int x :: S) h) ∧
  (∀ (l0 l1 l2 l3 : Value) (S : List Value) (h : zH), rn 227 8 [l0, l1, l2, l3] S h = rn 227 9 [l0, l1, l2, l3] (.int (nI 1) :: S) h) ∧
  (∀ (l0 l1 l2 l3 : Value) (S : List Value) (h : zH), rn 227 9 [l0, l1, l2, l3] S h = rn 227 12 [l0, l1, l2, l3] (.int (nI 1000) :: S) h) ∧
  (∀ (l0 l1 l2 l3 : Value) (v0 : Value) (v1 : Value) (v2 : Value) (S : List Value) (h : zH), rn 227 12 [l0, l1, l2, l3] (v2 :: v1 :: v0 :: S) h = if zsum S ≤ 8 then zcall (ev 211 [v0, v1, v2] h) (fun v h => rn 227 15 [l0, l1, l2, l3] (zpush v S) h) else none) ∧
  (∀ (l0 l1 l2 l3 : Value) (x : Int32) (S : List Value) (h : zH), rn 227 15 [l0, l1, l2, l3] (.int x :: S) h = if x = nI 0 then rn 227 39 [l0, l1, l2, l3] S h else rn 227 18 [l0, l1, l2, l3] S h) ∧
  (∀ (l0 l1 l2 : Value) (x : Int32) (S : List Value) (h : zH), rn 227 18 [l0, l1, l2, .int x] S h = rn 227 19 [l0, l1, l2, .int x] (.int x :: S) h) ∧
  (∀ (l0 l1 l2 l3 : Value) (S : List Value) (h : zH), rn 227 19 [l0, l1, l2, l3] S h = rn 227 20 [l0, l1, l2, l3] (.int (nI 1) :: S) h) ∧
  (∀ (l0 l1 l2 l3 : Value) (S : List Value) (h : zH), rn 227 20 [l0, l1, l2, l3] S h = rn 227 22 [l0, l1, l2, l3] (.int (nI 99999) :: S) h) ∧
  (∀ (l0 l1 l2 l3 : Value) (v0 : Value) (v1 : Value) (v2 : Value) (S : List Value) (h : zH), rn 227 22 [l0, l1, l2, l3] (v2 :: v1 :: v0 :: S) h = if zsum S ≤ 8 then zcall (ev 211 [v0, v1, v2] h) (fun v h => rn 227 25 [l0, l1, l2, l3] (zpush v S) h) else none) ∧
  (∀ (l0 l1 l2 l3 : Value) (x : Int32) (S : List Value) (h : zH), rn 227 25 [l0, l1, l2, l3] (.int x :: S) h = if x = nI 0 then rn 227 39 [l0, l1, l2, l3] S h else rn 227 28 [l0, l1, l2, l3] S h) ∧
  (∀ (l1 l2 l3 : Value) (x : Nat) (S : List Value) (h : zH), rn 227 28 [.ref x, l1, l2, l3] S h = rn 227 29 [.ref x, l1, l2, l3] (.ref x :: S) h) ∧
  (∀ (l0 l2 l3 : Value) (x : Int32) (S : List Value) (h : zH), rn 227 29 [l0, .int x, l2, l3] S h = rn 227 30 [l0, .int x, l2, l3] (.int x :: S) h) ∧
  (∀ (l0 l1 l2 l3 : Value) (S : List Value) (h : zH), rn 227 30 [l0, l1, l2, l3] S h = rn 227 31 [l0, l1, l2, l3] (.int (nI 1) :: S) h) ∧
  (∀ (l0 l1 l3 : Value) (x : Int32) (S : List Value) (h : zH), rn 227 31 [l0, l1, .int x, l3] S h = rn 227 32 [l0, l1, .int x, l3] (.int x :: S) h) ∧
  (∀ (l0 l1 l2 : Value) (x : Int32) (S : List Value) (h : zH), rn 227 32 [l0, l1, l2, .int x] S h = rn 227 33 [l0, l1, l2, .int x] (.int x :: S) h) ∧
  (∀ (l0 l1 l2 l3 : Value) (o : Nat) (v0 : Value) (v1 : Value) (v2 : Value) (v3 : Value) (S : List Value) (h : zH), rn 227 33 [l0, l1, l2, l3] (v3 :: v2 :: v1 :: v0 :: .ref o :: S) h = if zkd h o = 12 ∧ zsum S ≤ 8 then zcall (ev 225 [.ref o, v0, v1, v2, v3] h) (fun v h => rn 227 36 [l0, l1, l2, l3] (zpush v S) h) else none) ∧
  (∀ (l0 l1 l2 l3 : Value) (S : List Value) (h : zH), rn 227 36 [l0, l1, l2, l3] S h = rn 227 40 [l0, l1, l2, l3] S h) ∧
  (∀ (l0 l1 l2 l3 : Value) (S : List Value) (h : zH), rn 227 39 [l0, l1, l2, l3] S h = rn 227 40 [l0, l1, l2, l3] (.int (-1) :: S) h) ∧
  (∀ (l0 l1 l2 l3 : Value) (x : Int32) (h : zH), rn 227 40 [l0, l1, l2, l3] [.int x] h = some (some (.int x), h)) := ⟨fun _ _ _ _ _ _ => r_iload_n (show zdec 227 0 = some (.iload_n 1, 1) by decide +kernel) rfl rfl,
  fun _ _ _ _ _ _ _ => r_cS [_] rfl (show zdec 227 1 = some (.invokestatic 71, 3) by decide +kernel) (show zst.lookup (227 * zKEY + 71) = some (0, 210, 1, 0) by decide +kernel) (by decide) rfl,
  fun _ _ _ _ _ _ _ => r_ifeq (show zdec 227 4 = some (.ifCond .eq 35, 3) by decide +kernel) rfl rfl,
  fun _ _ _ _ _ _ => r_iload_n (show zdec 227 7 = some (.iload_n 2, 1) by decide +kernel) rfl rfl,
  fun _ _ _ _ _ _ => r_iconst (show zdec 227 8 = some (.iconst 1, 1) by decide +kernel) rfl rfl,
  fun _ _ _ _ _ _ => r_sipush (show zdec 227 9 = some (.sipush 1000, 3) by decide +kernel) rfl rfl,
  fun _ _ _ _ _ _ _ _ _ => r_cS [_, _, _] rfl (show zdec 227 12 = some (.invokestatic 45, 3) by decide +kernel) (show zst.lookup (227 * zKEY + 45) = some (0, 211, 3, 0) by decide +kernel) (by decide) rfl,
  fun _ _ _ _ _ _ _ => r_ifeq (show zdec 227 15 = some (.ifCond .eq 24, 3) by decide +kernel) rfl rfl,
  fun _ _ _ _ _ _ => r_iload_n (show zdec 227 18 = some (.iload_n 3, 1) by decide +kernel) rfl rfl,
  fun _ _ _ _ _ _ => r_iconst (show zdec 227 19 = some (.iconst 1, 1) by decide +kernel) rfl rfl,
  fun _ _ _ _ _ _ => r_ldcI (show zdec 227 20 = some (.ldc 84, 2) by decide +kernel) (show zkt.lookup (227 * zKEY + 84) = some 99999 by decide +kernel) rfl,
  fun _ _ _ _ _ _ _ _ _ => r_cS [_, _, _] rfl (show zdec 227 22 = some (.invokestatic 45, 3) by decide +kernel) (show zst.lookup (227 * zKEY + 45) = some (0, 211, 3, 0) by decide +kernel) (by decide) rfl,
  fun _ _ _ _ _ _ _ => r_ifeq (show zdec 227 25 = some (.ifCond .eq 14, 3) by decide +kernel) rfl rfl,
  fun _ _ _ _ _ _ => r_aload_nr (show zdec 227 28 = some (.aload_n 0, 1) by decide +kernel) rfl rfl,
  fun _ _ _ _ _ _ => r_iload_n (show zdec 227 29 = some (.iload_n 1, 1) by decide +kernel) rfl rfl,
  fun _ _ _ _ _ _ => r_iconst (show zdec 227 30 = some (.iconst 1, 1) by decide +kernel) rfl rfl,
  fun _ _ _ _ _ _ => r_iload_n (show zdec 227 31 = some (.iload_n 2, 1) by decide +kernel) rfl rfl,
  fun _ _ _ _ _ _ => r_iload_n (show zdec 227 32 = some (.iload_n 3, 1) by decide +kernel) rfl rfl,
  fun _ _ _ _ _ _ _ _ _ _ _ => r_cV [_, _, _, _] rfl (show zdec 227 33 = some (.invokevirtual 91, 3) by decide +kernel) (show zst.lookup (227 * zKEY + 91) = some (1, 225, 4, 12) by decide +kernel) (by decide) rfl,
  fun _ _ _ _ _ _ => r_goto (show zdec 227 36 = some (.goto 4, 3) by decide +kernel) rfl,
  fun _ _ _ _ _ _ => r_iconst (show zdec 227 39 = some (.iconst (-1), 1) by decide +kernel) rfl rfl,
  fun _ _ _ _ _ _ => r_ireti (show zdec 227 40 = some (.ireturn, 1) by decide +kernel) (by decide +kernel)⟩
theorem ze_227 : ∀ (a0 : Nat) (a1 : Int32) (a2 : Int32) (a3 : Int32) (h : zH), ev 227 [.ref a0, .int a1, .int a2, .int a3] h = rn 227 0 [.ref a0, .int a1, .int a2, .int a3] [] h := fun _ _ _ _ _ => if_pos (Nat.le_of_ble_eq_true rfl)
-- Model.isGarnishment
theorem zr_229 : (∀ (l0 l2 : Value) (x : Int32) (S : List Value) (h : zH), rn 229 0 [l0, .int x, l2] S h = rn 229 1 [l0, .int x, l2] (.int x :: S) h) ∧
  (∀ (l0 l1 l2 : Value) (v0 : Value) (S : List Value) (h : zH), rn 229 1 [l0, l1, l2] (v0 :: S) h = if zsum S ≤ 8 then zcall (ev 210 [v0] h) (fun v h => rn 229 4 [l0, l1, l2] (zpush v S) h) else none) ∧
  (∀ (l0 l1 l2 : Value) (x : Int32) (S : List Value) (h : zH), rn 229 4 [l0, l1, l2] (.int x :: S) h = if x = nI 0 then rn 229 29 [l0, l1, l2] S h else rn 229 7 [l0, l1, l2] S h) ∧
  (∀ (l0 l1 : Value) (x : Int32) (S : List Value) (h : zH), rn 229 7 [l0, l1, .int x] S h = rn 229 8 [l0, l1, .int x] (.int x :: S) h) ∧
  (∀ (l0 l1 l2 : Value) (x : Int32) (S : List Value) (h : zH), rn 229 8 [l0, l1, l2] (.int x :: S) h = if x < nI 0 then rn 229 29 [l0, l1, l2] S h else rn 229 11 [l0, l1, l2] S h) ∧
  (∀ (l0 l1 : Value) (x : Int32) (S : List Value) (h : zH), rn 229 11 [l0, l1, .int x] S h = rn 229 12 [l0, l1, .int x] (.int x :: S) h) ∧
  (∀ (l0 l1 l2 : Value) (x : Int32) (S : List Value) (h : zH), rn 229 12 [l0, l1, l2] (.int x :: S) h = rn 229 13 [l0, l1, l2] (.long x.toInt64 :: S) h) ∧
  (∀ (l1 l2 : Value) (x : Nat) (S : List Value) (h : zH), rn 229 13 [.ref x, l1, l2] S h = rn 229 14 [.ref x, l1, l2] (.ref x :: S) h) ∧
  (∀ (l0 l2 : Value) (x : Int32) (S : List Value) (h : zH), rn 229 14 [l0, .int x, l2] S h = rn 229 15 [l0, .int x, l2] (.int x :: S) h) ∧
  (∀ (l0 l1 l2 : Value) (S : List Value) (h : zH), rn 229 15 [l0, l1, l2] S h = rn 229 18 [l0, l1, l2] (.int (nI 134) :: S) h) ∧
  (∀ (l0 l1 l2 : Value) (o : Nat) (v0 : Value) (v1 : Value) (S : List Value) (h : zH), rn 229 18 [l0, l1, l2] (v1 :: v0 :: .ref o :: S) h = if zkd h o = 12 ∧ zsum S ≤ 8 then zcall (ev 226 [.ref o, v0, v1] h) (fun v h => rn 229 21 [l0, l1, l2] (zpush v S) h) else none) ∧
  (∀ (l0 l1 l2 : Value) (x : Int64) (y : Int64) (S : List Value) (h : zH), rn 229 21 [l0, l1, l2] (.long y :: .long x :: S) h = rn 229 22 [l0, l1, l2] (.int (lg_cmp x y) :: S) h) ∧
  (∀ (l0 l1 l2 : Value) (x : Int32) (S : List Value) (h : zH), rn 229 22 [l0, l1, l2] (.int x :: S) h = if nI 0 ≤ x then rn 229 29 [l0, l1, l2] S h else rn 229 25 [l0, l1, l2] S h) ∧
  (∀ (l0 l1 l2 : Value) (S : List Value) (h : zH), rn 229 25 [l0, l1, l2] S h = rn 229 26 [l0, l1, l2] (.int (nI 1) :: S) h) ∧
  (∀ (l0 l1 l2 : Value) (S : List Value) (h : zH), rn 229 26 [l0, l1, l2] S h = rn 229 30 [l0, l1, l2] S h) ∧
  (∀ (l0 l1 l2 : Value) (S : List Value) (h : zH), rn 229 29 [l0, l1, l2] S h = rn 229 30 [l0, l1, l2] (.int (nI 0) :: S) h) ∧
  (∀ (l0 l1 l2 : Value) (x : Int32) (h : zH), rn 229 30 [l0, l1, l2] [.int x] h = if x = nI 0 ∨ x = nI 1 then some (some (.int x), h) else none) := ⟨fun _ _ _ _ _ => r_iload_n (show zdec 229 0 = some (.iload_n 1, 1) by decide +kernel) rfl rfl,
  fun _ _ _ _ _ _ => r_cS [_] rfl (show zdec 229 1 = some (.invokestatic 71, 3) by decide +kernel) (show zst.lookup (229 * zKEY + 71) = some (0, 210, 1, 0) by decide +kernel) (by decide) rfl,
  fun _ _ _ _ _ _ => r_ifeq (show zdec 229 4 = some (.ifCond .eq 25, 3) by decide +kernel) rfl rfl,
  fun _ _ _ _ _ => r_iload_n (show zdec 229 7 = some (.iload_n 2, 1) by decide +kernel) rfl rfl,
  fun _ _ _ _ _ _ => r_iflt (show zdec 229 8 = some (.ifCond .lt 21, 3) by decide +kernel) rfl rfl,
  fun _ _ _ _ _ => r_iload_n (show zdec 229 11 = some (.iload_n 2, 1) by decide +kernel) rfl rfl,
  fun _ _ _ _ _ _ => r_i2l (show zdec 229 12 = some (.i2l, 1) by decide +kernel) rfl,
  fun _ _ _ _ _ => r_aload_nr (show zdec 229 13 = some (.aload_n 0, 1) by decide +kernel) rfl rfl,
  fun _ _ _ _ _ => r_iload_n (show zdec 229 14 = some (.iload_n 1, 1) by decide +kernel) rfl rfl,
  fun _ _ _ _ _ => r_sipush (show zdec 229 15 = some (.sipush 134, 3) by decide +kernel) rfl rfl,
  fun _ _ _ _ _ _ _ _ => r_cV [_, _] rfl (show zdec 229 18 = some (.invokevirtual 85, 3) by decide +kernel) (show zst.lookup (229 * zKEY + 85) = some (1, 226, 2, 12) by decide +kernel) (by decide) rfl,
  fun _ _ _ _ _ _ _ => r_lcmp (show zdec 229 21 = some (.lcmp, 1) by decide +kernel) rfl,
  fun _ _ _ _ _ _ => r_ifge (show zdec 229 22 = some (.ifCond .ge 7, 3) by decide +kernel) rfl rfl,
  fun _ _ _ _ _ => r_iconst (show zdec 229 25 = some (.iconst 1, 1) by decide +kernel) rfl rfl,
  fun _ _ _ _ _ => r_goto (show zdec 229 26 = some (.goto 4, 3) by decide +kernel) rfl,
  fun _ _ _ _ _ => r_iconst (show zdec 229 29 = some (.iconst 0, 1) by decide +kernel) rfl rfl,
  fun _ _ _ _ _ => r_iretb (show zdec 229 30 = some (.ireturn, 1) by decide +kernel) (by decide +kernel)⟩
theorem ze_229 : ∀ (a0 : Nat) (a1 : Int32) (a2 : Int32) (h : zH), ev 229 [.ref a0, .int a1, .int a2] h = rn 229 0 [.ref a0, .int a1, .int a2] [] h := fun _ _ _ _ => if_pos (Nat.le_of_ble_eq_true rfl)
-- Model.exchange
theorem zr_230 : (∀ (l0 l1 l2 l3 l4 l5 l6 l7 l8 : Value) (S : List Value) (h : zH), rn 230 0 [l0, l1, l2, l3, l4, l5, l6, l7, l8] S h = rn 230 1 [l0, l1, l2, l3, l4, l5, l6, l7, l8] (.int (nI 0) :: S) h) ∧
  (∀ (l0 l1 l2 l3 l4 l5 l6 l7 l8 : Value) (x : Int32) (S : List Value) (h : zH), rn 230 1 [l0, l1, l2, l3, l4, l5, l6, l7, l8] (.int x :: S) h = nl l3 (rn 230 3 [l0, l1, l2, l3, .int x, l5, l6, l7, l8] S h)) ∧
  (∀ (l0 l1 l2 l3 l4 l5 l6 l7 l8 : Value) (S : List Value) (h : zH), rn 230 5 [l0, l1, l2, l3, l4, l5, l6, l7, l8] S h = rn 230 6 [l0, l1, l2, l3, l4, l5, l6, l7, l8] (.int (nI 4) :: S) h) ∧
  (∀ (l0 l1 l2 l3 l4 l5 l6 l7 l8 : Value) (x : Int32) (y : Int32) (S : List Value) (h : zH), rn 230 6 [l0, l1, l2, l3, l4, l5, l6, l7, l8] (.int y :: .int x :: S) h = if y ≤ x then rn 230 79 [l0, l1, l2, l3, l4, l5, l6, l7, l8] S h else rn 230 9 [l0, l1, l2, l3, l4, l5, l6, l7, l8] S h) ∧
  (∀ (l0 l2 l3 l4 l5 l6 l7 l8 : Value) (x : Int32) (S : List Value) (h : zH), rn 230 9 [l0, .int x, l2, l3, l4, l5, l6, l7, l8] S h = rn 230 10 [l0, .int x, l2, l3, l4, l5, l6, l7, l8] (.int x :: S) h) ∧
  (∀ (l0 l1 l2 l3 l4 l5 l6 l7 l8 : Value) (S : List Value) (h : zH), rn 230 10 [l0, l1, l2, l3, l4, l5, l6, l7, l8] S h = rn 230 13 [l0, l1, l2, l3, l4, l5, l6, l7, l8] (.int (nI 135) :: S) h) ∧
  (∀ (l0 l1 l2 l3 l4 l5 l6 l7 l8 : Value) (S : List Value) (h : zH), rn 230 13 [l0, l1, l2, l3, l4, l5, l6, l7, l8] S h = rn 230 14 [l0, l1, l2, l3, l4, l5, l6, l7, l8] (.int (nI 4) :: S) h) ∧
  (∀ (l0 l1 l3 l4 l5 l6 l7 l8 : Value) (x : Int32) (S : List Value) (h : zH), rn 230 14 [l0, l1, .int x, l3, l4, l5, l6, l7, l8] S h = rn 230 15 [l0, l1, .int x, l3, l4, l5, l6, l7, l8] (.int x :: S) h) ∧
  (∀ (l0 l1 l2 l3 l4 l5 l6 l7 l8 : Value) (x : Int32) (y : Int32) (S : List Value) (h : zH), rn 230 15 [l0, l1, l2, l3, l4, l5, l6, l7, l8] (.int y :: .int x :: S) h = rn 230 16 [l0, l1, l2, l3, l4, l5, l6, l7, l8] (.int (x * y) :: S) h) ∧
  (∀ (l0 l1 l2 l3 l4 l5 l6 l7 l8 : Value) (x : Int32) (y : Int32) (S : List Value) (h : zH), rn 230 16 [l0, l1, l2, l3, l4, l5, l6, l7, l8] (.int y :: .int x :: S) h = rn 230 17 [l0, l1, l2, l3, l4, l5, l6, l7, l8] (.int (x + y) :: S) h) ∧
  (∀ (l0 l1 l2 l3 l5 l6 l7 l8 : Value) (x : Int32) (S : List Value) (h : zH), rn 230 17 [l0, l1, l2, l3, .int x, l5, l6, l7, l8] S h = rn 230 19 [l0, l1, l2, l3, .int x, l5, l6, l7, l8] (.int x :: S) h) ∧
  (∀ (l0 l1 l2 l3 l4 l5 l6 l7 l8 : Value) (x : Int32) (y : Int32) (S : List Value) (h : zH), rn 230 19 [l0, l1, l2, l3, l4, l5, l6, l7, l8] (.int y :: .int x :: S) h = rn 230 20 [l0, l1, l2, l3, l4, l5, l6, l7, l8] (.int (x + y) :: S) h) ∧
  (∀ (l0 l1 l2 l3 l4 l5 l6 l7 l8 : Value) (v0 : Value) (v1 : Value) (S : List Value) (h : zH), rn 230 20 [l0, l1, l2, l3, l4, l5, l6, l7, l8] (v1 :: v0 :: S) h = if zsum S ≤ 8 then zcall (ev 208 [v0, v1] h) (fun v h => rn 230 23 [l0, l1, l2, l3, l4, l5, l6, l7, l8] (zpush v S) h) else none) ∧
  (∀ (l0 l1 l2 l3 l4 l5 l6 l7 l8 : Value) (x : Int32) (S : List Value) (h : zH), rn 230 23 [l0, l1, l2, l3, l4, l5, l6, l7, l8] (.int x :: S) h = nl l4 (rn 230 25 [l0, l1, l2, l3, l4, .int x, l6, l7, l8] S h)) ∧
  (∀ (l0 l2 l3 l4 l5 l6 l7 l8 : Value) (x : Int32) (S : List Value) (h : zH), rn 230 25 [l0, .int x, l2, l3, l4, l5, l6, l7, l8] S h = rn 230 26 [l0, .int x, l2, l3, l4, l5, l6, l7, l8] (.int x :: S) h) ∧
  (∀ (l0 l1 l2 l3 l4 l5 l6 l7 l8 : Value) (S : List Value) (h : zH), rn 230 26 [l0, l1, l2, l3, l4, l5, l6, l7, l8] S h = rn 230 29 [l0, l1, l2, l3, l4, l5, l6, l7, l8] (.int (nI 135) :: S) h) ∧
  (∀ (l0 l1 l2 l3 l4 l5 l6 l7 l8 : Value) (S : List Value) (h : zH), rn 230 29 [l0, l1, l2, l3, l4, l5, l6, l7, l8] S h = rn 230 30 [l0, l1, l2, l3, l4, l5, l6, l7, l8] (.int (nI 4) :: S) h) ∧
  (∀ (l0 l1 l2 l4 l5 l6 l7 l8 : Value) (x : Int32) (S : List Value) (h : zH), rn 230 30 [l0, l1, l2, .int x, l4, l5, l6, l7, l8] S h = rn 230 31 [l0, l1, l2, .int x, l4, l5, l6, l7, l8] (.int x :: S) h) ∧
  (∀ (l0 l1 l2 l3 l4 l5 l6 l7 l8 : Value) (x : Int32) (y : Int32) (S : List Value) (h : zH), rn 230 31 [l0, l1, l2, l3, l4, l5, l6, l7, l8] (.int y :: .int x :: S) h = rn 230 32 [l0, l1, l2, l3, l4, l5, l6, l7, l8] (.int (x * y) :: S) h) ∧
  (∀ (l0 l1 l2 l3 l4 l5 l6 l7 l8 : Value) (x : Int32) (y : Int32) (S : List Value) (h : zH), rn 230 32 [l0, l1, l2, l3, l4, l5, l6, l7, l8] (.int y :: .int x :: S) h = rn 230 33 [l0, l1, l2, l3, l4, l5, l6, l7, l8] (.int (x + y) :: S) h) ∧
  (∀ (l0 l1 l2 l3 l5 l6 l7 l8 : Value) (x : Int32) (S : List Value) (h : zH), rn 230 33 [l0, l1, l2, l3, .int x, l5, l6, l7, l8] S h = rn 230 35 [l0, l1, l2, l3, .int x, l5, l6, l7, l8] (.int x :: S) h) ∧
  (∀ (l0 l1 l2 l3 l4 l5 l6 l7 l8 : Value) (x : Int32) (y : Int32) (S : List Value) (h : zH), rn 230 35 [l0, l1, l2, l3, l4, l5, l6, l7, l8] (.int y :: .int x :: S) h = rn 230 36 [l0, l1, l2, l3, l4, l5, l6, l7, l8] (.int (x + y) :: S) h) ∧
  (∀ (l0 l1 l2 l3 l4 l5 l6 l7 l8 : Value) (v0 : Value) (v1 : Value) (S : List Value) (h : zH), rn 230 36 [l0, l1, l2, l3, l4, l5, l6, l7, l8] (v1 :: v0 :: S) h = if zsum S ≤ 8 then zcall (ev 208 [v0, v1] h) (fun v h => rn 230 39 [l0, l1, l2, l3, l4, l5, l6, l7, l8] (zpush v S) h) else none) ∧
  (∀ (l0 l1 l2 l3 l4 l5 l6 l7 l8 : Value) (x : Int32) (S : List Value) (h : zH), rn 230 39 [l0, l1, l2, l3, l4, l5, l6, l7, l8] (.int x :: S) h = nl l5 (rn 230 41 [l0, l1, l2, l3, l4, l5, .int x, l7, l8] S h)) ∧
  (∀ (l1 l2 l3 l4 l5 l6 l7 l8 : Value) (x : Nat) (S : List Value) (h : zH), rn 230 41 [.ref x, l1, l2, l3, l4, l5, l6, l7, l8] S h = rn 230 42 [.ref x, l1, l2, l3, l4, l5, l6, l7, l8] (.ref x :: S) h) ∧
  (∀ (l0 l1 l2 l3 l4 l5 l6 l7 l8 : Value) (a : Nat) (S : List Value) (h : zH), rn 230 42 [l0, l1, l2, l3, l4, l5, l6, l7, l8] (.ref a :: S) h = zgf h a 12 0 fun v => rn 230 45 [l0, l1, l2, l3, l4, l5, l6, l7, l8] (v :: S) h) ∧
  (∀ (l0 l1 l2 l3 l4 l6 l7 l8 : Value) (x : Int32) (S : List Value) (h : zH), rn 230 45 [l0, l1, l2, l3, l4, .int x, l6, l7, l8] S h = rn 230 47 [l0, l1, l2, l3, l4, .int x, l6, l7, l8] (.int x :: S) h) ∧
  (∀ (l0 l1 l2 l3 l4 l5 l6 l7 l8 : Value) (a : Nat) (j : Int32) (S : List Value) (h : zH), rn 230 47 [l0, l1, l2, l3, l4, l5, l6, l7, l8] (.int j :: .ref a :: S) h = zlj h a j fun x => rn 230 48 [l0, l1, l2, l3, l4, l5, l6, l7, l8] (.long x :: S) h) ∧
  (∀ (l0 l1 l2 l3 l4 l5 l6 l7 l8 : Value) (x : Int64) (S : List Value) (h : zH), rn 230 48 [l0, l1, l2, l3, l4, l5, l6, l7, l8] (.long x :: S) h = nl l6 (rn 230 50 [l0, l1, l2, l3, l4, l5, l6, .long x, .float 0] S h)) ∧
  (∀ (l1 l2 l3 l4 l5 l6 l7 l8 : Value) (x : Nat) (S : List Value) (h : zH), rn 230 50 [.ref x, l1, l2, l3, l4, l5, l6, l7, l8] S h = rn 230 51 [.ref x, l1, l2, l3, l4, l5, l6, l7, l8] (.ref x :: S) h) ∧
  (∀ (l0 l1 l2 l3 l4 l5 l6 l7 l8 : Value) (a : Nat) (S : List Value) (h : zH), rn 230 51 [l0, l1, l2, l3, l4, l5, l6, l7, l8] (.ref a :: S) h = zgf h a 12 0 fun v => rn 230 54 [l0, l1, l2, l3, l4, l5, l6, l7, l8] (v :: S) h) ∧
  (∀ (l0 l1 l2 l3 l4 l6 l7 l8 : Value) (x : Int32) (S : List Value) (h : zH), rn 230 54 [l0, l1, l2, l3, l4, .int x, l6, l7, l8] S h = rn 230 56 [l0, l1, l2, l3, l4, .int x, l6, l7, l8] (.int x :: S) h) ∧
  (∀ (l1 l2 l3 l4 l5 l6 l7 l8 : Value) (x : Nat) (S : List Value) (h : zH), rn 230 56 [.ref x, l1, l2, l3, l4, l5, l6, l7, l8] S h = rn 230 57 [.ref x, l1, l2, l3, l4, l5, l6, l7, l8] (.ref x :: S) h) ∧
  (∀ (l0 l1 l2 l3 l4 l5 l6 l7 l8 : Value) (a : Nat) (S : List Value) (h : zH), rn 230 57 [l0, l1, l2, l3, l4, l5, l6, l7, l8] (.ref a :: S) h = zgf h a 12 0 fun v => rn 230 60 [l0, l1, l2, l3, l4, l5, l6, l7, l8] (v :: S) h) ∧
  (∀ (l0 l1 l2 l3 l4 l5 l7 l8 : Value) (x : Int32) (S : List Value) (h : zH), rn 230 60 [l0, l1, l2, l3, l4, l5, .int x, l7, l8] S h = rn 230 62 [l0, l1, l2, l3, l4, l5, .int x, l7, l8] (.int x :: S) h) ∧
  (∀ (l0 l1 l2 l3 l4 l5 l6 l7 l8 : Value) (a : Nat) (j : Int32) (S : List Value) (h : zH), rn 230 62 [l0, l1, l2, l3, l4, l5, l6, l7, l8] (.int j :: .ref a :: S) h = zlj h a j fun x => rn 230 63 [l0, l1, l2, l3, l4, l5, l6, l7, l8] (.long x :: S) h) ∧
  (∀ (l0 l1 l2 l3 l4 l5 l6 l7 l8 : Value) (a : Nat) (j : Int32) (x : Int64) (S : List Value) (h : zH), rn 230 63 [l0, l1, l2, l3, l4, l5, l6, l7, l8] (.long x :: .int j :: .ref a :: S) h = zsj h a j x fun h => rn 230 64 [l0, l1, l2, l3, l4, l5, l6, l7, l8] S h) ∧
  (∀ (l1 l2 l3 l4 l5 l6 l7 l8 : Value) (x : Nat) (S : List Value) (h : zH), rn 230 64 [.ref x, l1, l2, l3, l4, l5, l6, l7, l8] S h = rn 230 65 [.ref x, l1, l2, l3, l4, l5, l6, l7, l8] (.ref x :: S) h) ∧
  (∀ (l0 l1 l2 l3 l4 l5 l6 l7 l8 : Value) (a : Nat) (S : List Value) (h : zH), rn 230 65 [l0, l1, l2, l3, l4, l5, l6, l7, l8] (.ref a :: S) h = zgf h a 12 0 fun v => rn 230 68 [l0, l1, l2, l3, l4, l5, l6, l7, l8] (v :: S) h) ∧
  (∀ (l0 l1 l2 l3 l4 l5 l7 l8 : Value) (x : Int32) (S : List Value) (h : zH), rn 230 68 [l0, l1, l2, l3, l4, l5, .int x, l7, l8] S h = rn 230 70 [l0, l1, l2, l3, l4, l5, .int x, l7, l8] (.int x :: S) h) ∧
  (∀ (l0 l1 l2 l3 l4 l5 l6 l8 : Value) (x : Int64) (S : List Value) (h : zH), rn 230 70 [l0, l1, l2, l3, l4, l5, l6, .long x, l8] S h = rn 230 72 [l0, l1, l2, l3, l4, l5, l6, .long x, l8] (.long x :: S) h) ∧
  (∀ (l0 l1 l2 l3 l4 l5 l6 l7 l8 : Value) (a : Nat) (j : Int32) (x : Int64) (S : List Value) (h : zH), rn 230 72 [l0, l1, l2, l3, l4, l5, l6, l7, l8] (.long x :: .int j :: .ref a :: S) h = zsj h a j x fun h => rn 230 73 [l0, l1, l2, l3, l4, l5, l6, l7, l8] S h) ∧
  (∀ (l0 l1 l2 l3 l5 l6 l7 l8 : Value) (x : Int32) (S : List Value) (h : zH), rn 230 73 [l0, l1, l2, l3, .int x, l5, l6, l7, l8] S h = nl l3 (rn 230 76 [l0, l1, l2, l3, .int (x + (nI 1)), l5, l6, l7, l8] S h)) ∧
  (∀ (l0 l1 l2 l3 l4 l5 l6 l7 l8 : Value) (S : List Value) (h : zH), rn 230 76 [l0, l1, l2, l3, l4, l5, l6, l7, l8] S h = rn 230 3 [l0, l1, l2, l3, l4, l5, l6, l7, l8] S h) ∧
  (∀ (l0 l1 l2 l3 l4 l5 l6 l7 l8 : Value) (h : zH), rn 230 79 [l0, l1, l2, l3, l4, l5, l6, l7, l8] [] h = some (none, h)) := ⟨fun _ _ _ _ _ _ _ _ _ _ _ => r_iconst (show zdec 230 0 = some (.iconst 0, 1) by decide +kernel) rfl rfl,
  fun _ _ _ _ _ _ _ _ _ _ _ _ => r_istore (show zdec 230 1 = some (.istore 4, 2) by decide +kernel) rfl (Nat.le_of_ble_eq_true rfl) rfl rfl,
  fun _ _ _ _ _ _ _ _ _ _ _ => r_iconst (show zdec 230 5 = some (.iconst 4, 1) by decide +kernel) rfl rfl,
  fun _ _ _ _ _ _ _ _ _ _ _ _ _ => r_icmpge (show zdec 230 6 = some (.if_icmp .ge 73, 3) by decide +kernel) rfl rfl,
  fun _ _ _ _ _ _ _ _ _ _ _ => r_iload_n (show zdec 230 9 = some (.iload_n 1, 1) by decide +kernel) rfl rfl,
  fun _ _ _ _ _ _ _ _ _ _ _ => r_sipush (show zdec 230 10 = some (.sipush 135, 3) by decide +kernel) rfl rfl,
  fun _ _ _ _ _ _ _ _ _ _ _ => r_iconst (show zdec 230 13 = some (.iconst 4, 1) by decide +kernel) rfl rfl,
  fun _ _ _ _ _ _ _ _ _ _ _ => r_iload_n (show zdec 230 14 = some (.iload_n 2, 1) by decide +kernel) rfl rfl,
  fun _ _ _ _ _ _ _ _ _ _ _ _ _ => r_imul (show zdec 230 15 = some (.imul, 1) by decide +kernel) rfl,
  fun _ _ _ _ _ _ _ _ _ _ _ _ _ => r_iadd (show zdec 230 16 = some (.iadd, 1) by decide +kernel) rfl,
  fun _ _ _ _ _ _ _ _ _ _ _ => r_iload (show zdec 230 17 = some (.iload 4, 2) by decide +kernel) rfl rfl,
  fun _ _ _ _ _ _ _ _ _ _ _ _ _ => r_iadd (show zdec 230 19 = some (.iadd, 1) by decide +kernel) rfl,
  fun _ _ _ _ _ _ _ _ _ _ _ _ _ => r_cS [_, _] rfl (show zdec 230 20 = some (.invokestatic 39, 3) by decide +kernel) (show zst.lookup (230 * zKEY + 39) = some (0, 208, 2, 0) by decide +kernel) (by decide) rfl,
  fun _ _ _ _ _ _ _ _ _ _ _ _ => r_istore (show zdec 230 23 = some (.istore 5, 2) by decide +kernel) rfl (Nat.le_of_ble_eq_true rfl) rfl rfl,
  fun _ _ _ _ _ _ _ _ _ _ _ => r_iload_n (show zdec 230 25 = some (.iload_n 1, 1) by decide +kernel) rfl rfl,
  fun _ _ _ _ _ _ _ _ _ _ _ => r_sipush (show zdec 230 26 = some (.sipush 135, 3) by decide +kernel) rfl rfl,
  fun _ _ _ _ _ _ _ _ _ _ _ => r_iconst (show zdec 230 29 = some (.iconst 4, 1) by decide +kernel) rfl rfl,
  fun _ _ _ _ _ _ _ _ _ _ _ => r_iload_n (show zdec 230 30 = some (.iload_n 3, 1) by decide +kernel) rfl rfl,
  fun _ _ _ _ _ _ _ _ _ _ _ _ _ => r_imul (show zdec 230 31 = some (.imul, 1) by decide +kernel) rfl,
  fun _ _ _ _ _ _ _ _ _ _ _ _ _ => r_iadd (show zdec 230 32 = some (.iadd, 1) by decide +kernel) rfl,
  fun _ _ _ _ _ _ _ _ _ _ _ => r_iload (show zdec 230 33 = some (.iload 4, 2) by decide +kernel) rfl rfl,
  fun _ _ _ _ _ _ _ _ _ _ _ _ _ => r_iadd (show zdec 230 35 = some (.iadd, 1) by decide +kernel) rfl,
  fun _ _ _ _ _ _ _ _ _ _ _ _ _ => r_cS [_, _] rfl (show zdec 230 36 = some (.invokestatic 39, 3) by decide +kernel) (show zst.lookup (230 * zKEY + 39) = some (0, 208, 2, 0) by decide +kernel) (by decide) rfl,
  fun _ _ _ _ _ _ _ _ _ _ _ _ => r_istore (show zdec 230 39 = some (.istore 6, 2) by decide +kernel) rfl (Nat.le_of_ble_eq_true rfl) rfl rfl,
  fun _ _ _ _ _ _ _ _ _ _ _ => r_aload_nr (show zdec 230 41 = some (.aload_n 0, 1) by decide +kernel) rfl rfl,
  fun _ _ _ _ _ _ _ _ _ _ _ _ => r_getfield (show zdec 230 42 = some (.getfield 9, 3) by decide +kernel) (show zft.lookup (230 * zKEY + 9) = some (12, 0) by decide +kernel) rfl,
  fun _ _ _ _ _ _ _ _ _ _ _ => r_iload (show zdec 230 45 = some (.iload 5, 2) by decide +kernel) rfl rfl,
  fun _ _ _ _ _ _ _ _ _ _ _ _ _ => r_lald (show zdec 230 47 = some (.laload, 1) by decide +kernel) rfl,
  fun _ _ _ _ _ _ _ _ _ _ _ _ => r_lstore (show zdec 230 48 = some (.lstore 7, 2) by decide +kernel) rfl (Nat.le_of_ble_eq_true rfl) rfl rfl,
  fun _ _ _ _ _ _ _ _ _ _ _ => r_aload_nr (show zdec 230 50 = some (.aload_n 0, 1) by decide +kernel) rfl rfl,
  fun _ _ _ _ _ _ _ _ _ _ _ _ => r_getfield (show zdec 230 51 = some (.getfield 9, 3) by decide +kernel) (show zft.lookup (230 * zKEY + 9) = some (12, 0) by decide +kernel) rfl,
  fun _ _ _ _ _ _ _ _ _ _ _ => r_iload (show zdec 230 54 = some (.iload 5, 2) by decide +kernel) rfl rfl,
  fun _ _ _ _ _ _ _ _ _ _ _ => r_aload_nr (show zdec 230 56 = some (.aload_n 0, 1) by decide +kernel) rfl rfl,
  fun _ _ _ _ _ _ _ _ _ _ _ _ => r_getfield (show zdec 230 57 = some (.getfield 9, 3) by decide +kernel) (show zft.lookup (230 * zKEY + 9) = some (12, 0) by decide +kernel) rfl,
  fun _ _ _ _ _ _ _ _ _ _ _ => r_iload (show zdec 230 60 = some (.iload 6, 2) by decide +kernel) rfl rfl,
  fun _ _ _ _ _ _ _ _ _ _ _ _ _ => r_lald (show zdec 230 62 = some (.laload, 1) by decide +kernel) rfl,
  fun _ _ _ _ _ _ _ _ _ _ _ _ _ _ => r_last (show zdec 230 63 = some (.lastore, 1) by decide +kernel) rfl,
  fun _ _ _ _ _ _ _ _ _ _ _ => r_aload_nr (show zdec 230 64 = some (.aload_n 0, 1) by decide +kernel) rfl rfl,
  fun _ _ _ _ _ _ _ _ _ _ _ _ => r_getfield (show zdec 230 65 = some (.getfield 9, 3) by decide +kernel) (show zft.lookup (230 * zKEY + 9) = some (12, 0) by decide +kernel) rfl,
  fun _ _ _ _ _ _ _ _ _ _ _ => r_iload (show zdec 230 68 = some (.iload 6, 2) by decide +kernel) rfl rfl,
  fun _ _ _ _ _ _ _ _ _ _ _ => r_lload (show zdec 230 70 = some (.lload 7, 2) by decide +kernel) rfl rfl,
  fun _ _ _ _ _ _ _ _ _ _ _ _ _ _ => r_last (show zdec 230 72 = some (.lastore, 1) by decide +kernel) rfl,
  fun _ _ _ _ _ _ _ _ _ _ _ => r_iinc (show zdec 230 73 = some (.iinc 4 1, 3) by decide +kernel) rfl rfl rfl (Nat.le_of_ble_eq_true rfl) rfl rfl,
  fun _ _ _ _ _ _ _ _ _ _ _ => r_goto (show zdec 230 76 = some (.goto (-73), 3) by decide +kernel) rfl,
  fun _ _ _ _ _ _ _ _ _ _ => r_vret (show zdec 230 79 = some (.return_, 1) by decide +kernel) (by decide +kernel)⟩
theorem zl_230_3 : ∀ (l0 l1 l2 l3 l5 l6 l7 l8 : Value) (x : Int32) (S : List Value) (h : zH), rn 230 3 [l0, l1, l2, l3, .int x, l5, l6, l7, l8] S h = rn 230 5 [l0, l1, l2, l3, .int x, l5, l6, l7, l8] (.int x :: S) h := fun _ _ _ _ _ _ _ _ _ _ _ => r_iload (show zdec 230 3 = some (.iload 4, 2) by decide +kernel) rfl rfl
theorem ze_230 : ∀ (a0 : Nat) (a1 : Int32) (a2 : Int32) (a3 : Int32) (h : zH), ev 230 [.ref a0, .int a1, .int a2, .int a3] h = rn 230 0 [.ref a0, .int a1, .int a2, .int a3, .float 0, .float 0, .float 0, .float 0, .float 0] [] h := fun _ _ _ _ _ => if_pos (Nat.le_of_ble_eq_true rfl)
-- Model.dropGarnishment
theorem zr_228 : (∀ (l1 l2 l3 l4 : Value) (x : Nat) (S : List Value) (h : zH), rn 228 0 [.ref x, l1, l2, l3, l4] S h = rn 228 1 [.ref x, l1, l2, l3, l4] (.ref x :: S) h) ∧
  (∀ (l0 l2 l3 l4 : Value) (x : Int32) (S : List Value) (h : zH), rn 228 1 [l0, .int x, l2, l3, l4] S h = rn 228 2 [l0, .int x, l2, l3, l4] (.int x :: S) h) ∧
  (∀ (l0 l1 l3 l4 : Value) (x : Int32) (S : List Value) (h : zH), rn 228 2 [l0, l1, .int x, l3, l4] S h = rn 228 3 [l0, l1, .int x, l3, l4] (.int x :: S) h) ∧
  (∀ (l0 l1 l2 l3 l4 : Value) (o : Nat) (v0 : Value) (v1 : Value) (S : List Value) (h : zH), rn 228 3 [l0, l1, l2, l3, l4] (v1 :: v0 :: .ref o :: S) h = if zkd h o = 12 ∧ zsum S ≤ 8 then zcall (ev 229 [.ref o, v0, v1] h) (fun v h => rn 228 6 [l0, l1, l2, l3, l4] (zpush v S) h) else none) ∧
  (∀ (l0 l1 l2 l3 l4 : Value) (x : Int32) (S : List Value) (h : zH), rn 228 6 [l0, l1, l2, l3, l4] (.int x :: S) h = if x = nI 0 then rn 228 9 [l0, l1, l2, l3, l4] S h else rn 228 11 [l0, l1, l2, l3, l4] S h) ∧
  (∀ (l0 l1 l2 l3 l4 : Value) (S : List Value) (h : zH), rn 228 9 [l0, l1, l2, l3, l4] S h = rn 228 10 [l0, l1, l2, l3, l4] (.int (-1) :: S) h) ∧
  (∀ (l0 l1 l2 l3 l4 : Value) (x : Int32) (h : zH), rn 228 10 [l0, l1, l2, l3, l4] [.int x] h = some (some (.int x), h)) ∧
  (∀ (l1 l2 l3 l4 : Value) (x : Nat) (S : List Value) (h : zH), rn 228 11 [.ref x, l1, l2, l3, l4] S h = rn 228 12 [.ref x, l1, l2, l3, l4] (.ref x :: S) h) ∧
  (∀ (l0 l2 l3 l4 : Value) (x : Int32) (S : List Value) (h : zH), rn 228 12 [l0, .int x, l2, l3, l4] S h = rn 228 13 [l0, .int x, l2, l3, l4] (.int x :: S) h) ∧
  (∀ (l0 l1 l2 l3 l4 : Value) (S : List Value) (h : zH), rn 228 13 [l0, l1, l2, l3, l4] S h = rn 228 16 [l0, l1, l2, l3, l4] (.int (nI 134) :: S) h) ∧
  (∀ (l0 l1 l2 l3 l4 : Value) (v0 : Value) (v1 : Value) (S : List Value) (h : zH), rn 228 16 [l0, l1, l2, l3, l4] (v1 :: v0 :: S) h = if zsum S ≤ 8 then zcall (ev 208 [v0, v1] h) (fun v h => rn 228 19 [l0, l1, l2, l3, l4] (zpush v S) h) else none) ∧
  (∀ (l1 l2 l3 l4 : Value) (x : Nat) (S : List Value) (h : zH), rn 228 19 [.ref x, l1, l2, l3, l4] S h = rn 228 20 [.ref x, l1, l2, l3, l4] (.ref x :: S) h) ∧
  (∀ (l0 l2 l3 l4 : Value) (x : Int32) (S : List Value) (h : zH), rn 228 20 [l0, .int x, l2, l3, l4] S h = rn 228 21 [l0, .int x, l2, l3, l4] (.int x :: S) h) ∧
  (∀ (l0 l1 l2 l3 l4 : Value) (S : List Value) (h : zH), rn 228 21 [l0, l1, l2, l3, l4] S h = rn 228 24 [l0, l1, l2, l3, l4] (.int (nI 134) :: S) h) ∧
  (∀ (l0 l1 l2 l3 l4 : Value) (o : Nat) (v0 : Value) (v1 : Value) (S : List Value) (h : zH), rn 228 24 [l0, l1, l2, l3, l4] (v1 :: v0 :: .ref o :: S) h = if zkd h o = 12 ∧ zsum S ≤ 8 then zcall (ev 226 [.ref o, v0, v1] h) (fun v h => rn 228 27 [l0, l1, l2, l3, l4] (zpush v S) h) else none) ∧
  (∀ (l0 l1 l2 l3 l4 : Value) (x : Int64) (S : List Value) (h : zH), rn 228 27 [l0, l1, l2, l3, l4] (.long x :: S) h = rn 228 28 [l0, l1, l2, l3, l4] (.int x.toInt32 :: S) h) ∧
  (∀ (l0 l1 l2 l3 l4 : Value) (S : List Value) (h : zH), rn 228 28 [l0, l1, l2, l3, l4] S h = rn 228 29 [l0, l1, l2, l3, l4] (.int (nI 1) :: S) h) ∧
  (∀ (l0 l1 l2 l3 l4 : Value) (x : Int32) (y : Int32) (S : List Value) (h : zH), rn 228 29 [l0, l1, l2, l3, l4] (.int y :: .int x :: S) h = rn 228 30 [l0, l1, l2, l3, l4] (.int (x - y) :: S) h) ∧
  (∀ (l0 l1 l2 l3 l4 : Value) (o : Nat) (v0 : Value) (v1 : Value) (S : List Value) (h : zH), rn 228 30 [l0, l1, l2, l3, l4] (v1 :: v0 :: .ref o :: S) h = if zkd h o = 12 ∧ zsum S ≤ 8 then zcall (ev 213 [.ref o, v0, v1] h) (fun v h => rn 228 33 [l0, l1, l2, l3, l4] (zpush v S) h) else none) ∧
  (∀ (l0 l1 l2 l3 l4 : Value) (S : List Value) (h : zH), rn 228 33 [l0, l1, l2, l3, l4] S h = rn 228 34 [l0, l1, l2, l3, l4] (.int (nI 1) :: S) h) ∧
  (∀ (l0 l1 l2 l3 l4 : Value) (x : Int32) (y : Int32) (S : List Value) (h : zH), rn 228 34 [l0, l1, l2, l3, l4] (.int y :: .int x :: S) h = rn 228 35 [l0, l1, l2, l3, l4] (.int (x - y) :: S) h) ∧
  (∀ (l0 l1 l2 l3 l4 : Value) (x : Int32) (S : List Value) (h : zH), rn 228 35 [l0, l1, l2, l3, l4] (.int x :: S) h = nl l2 (rn 228 36 [l0, l1, l2, .int x, l4] S h)) ∧
  (∀ (l0 l1 l3 l4 : Value) (x : Int32) (S : List Value) (h : zH), rn 228 36 [l0, l1, .int x, l3, l4] S h = rn 228 37 [l0, l1, .int x, l3, l4] (.int x :: S) h) ∧
  (∀ (l0 l1 l2 l3 l4 : Value) (x : Int32) (S : List Value) (h : zH), rn 228 37 [l0, l1, l2, l3, l4] (.int x :: S) h = nl l3 (rn 228 39 [l0, l1, l2, l3, .int x] S h)) ∧
  (∀ (l0 l1 l2 l4 : Value) (x : Int32) (S : List Value) (h : zH), rn 228 41 [l0, l1, l2, .int x, l4] S h = rn 228 42 [l0, l1, l2, .int x, l4] (.int x :: S) h) ∧
  (∀ (l0 l1 l2 l3 l4 : Value) (x : Int32) (y : Int32) (S : List Value) (h : zH), rn 228 42 [l0, l1, l2, l3, l4] (.int y :: .int x :: S) h = if y ≤ x then rn 228 62 [l0, l1, l2, l3, l4] S h else rn 228 45 [l0, l1, l2, l3, l4] S h) ∧
  (∀ (l1 l2 l3 l4 : Value) (x : Nat) (S : List Value) (h : zH), rn 228 45 [.ref x, l1, l2, l3, l4] S h = rn 228 46 [.ref x, l1, l2, l3, l4] (.ref x :: S) h) ∧
  (∀ (l0 l2 l3 l4 : Value) (x : Int32) (S : List Value) (h : zH), rn 228 46 [l0, .int x, l2, l3, l4] S h = rn 228 47 [l0, .int x, l2, l3, l4] (.int x :: S) h) ∧
  (∀ (l0 l1 l2 l3 : Value) (x : Int32) (S : List Value) (h : zH), rn 228 47 [l0, l1, l2, l3, .int x] S h = rn 228 49 [l0, l1, l2, l3, .int x] (.int x :: S) h) ∧
  (∀ (l0 l1 l2 l3 : Value) (x : Int32) (S : List Value) (h : zH), rn 228 49 [l0, l1, l2, l3, .int x] S h = rn 228 51 [l0, l1, l2, l3, .int x] (.int x :: S) h) ∧
  (∀ (l0 l1 l2 l3 l4 : Value) (S : List Value) (h : zH), rn 228 51 [l0, l1, l2, l3, l4] S h = rn 228 52 [l0, l1, l2, l3, l4] (.int (nI 1) :: S) h) ∧
  (∀ (l0 l1 l2 l3 l4 : Value) (x : Int32) (y : Int32) (S : List Value) (h : zH), rn 228 52 [l0, l1, l2, l3, l4] (.int y :: .int x :: S) h = rn 228 53 [l0, l1, l2, l3, l4] (.int (x + y) :: S) h) ∧
  (∀ (l0 l1 l2 l3 l4 : Value) (o : Nat) (v0 : Value) (v1 : Value) (v2 : Value) (S : List Value) (h : zH), rn 228 53 [l0, l1, l2, l3, l4] (v2 :: v1 :: v0 :: .ref o :: S) h = if zkd h o = 12 ∧ zsum S ≤ 8 then zcall (ev 230 [.ref o, v0, v1, v2] h) (fun v h => rn 228 56 [l0, l1, l2, l3, l4] (zpush v S) h) else none) ∧
  (∀ (l0 l1 l2 l3 : Value) (x : Int32) (S : List Value) (h : zH), rn 228 56 [l0, l1, l2, l3, .int x] S h = nl l3 (rn 228 59 [l0, l1, l2, l3, .int (x + (nI 1))] S h)) ∧
  (∀ (l0 l1 l2 l3 l4 : Value) (S : List Value) (h : zH), rn 228 59 [l0, l1, l2, l3, l4] S h = rn 228 39 [l0, l1, l2, l3, l4] S h) ∧
  (∀ (l0 l1 l2 l4 : Value) (x : Int32) (S : List Value) (h : zH), rn 228 62 [l0, l1, l2, .int x, l4] S h = rn 228 63 [l0, l1, l2, .int x, l4] (.int x :: S) h) ∧
  (∀ (l0 l1 l2 l3 l4 : Value) (x : Int32) (h : zH), rn 228 63 [l0, l1, l2, l3, l4] [.int x] h = some (some (.int x), h)) := ⟨fun _ _ _ _ _ _ _ => r_aload_nr (show zdec 228 0 = some (.aload_n 0, 1) by decide +kernel) rfl rfl,
  fun _ _ _ _ _ _ _ => r_iload_n (show zdec 228 1 = some (.iload_n 1, 1) by decide +kernel) rfl rfl,
  fun _ _ _ _ _ _ _ => r_iload_n (show zdec 228 2 = some (.iload_n 2, 1) by decide +kernel) rfl rfl,
  fun _ _ _ _ _ _ _ _ _ _ => r_cV [_, _] rfl (show zdec 228 3 = some (.invokevirtual 95, 3) by decide +kernel) (show zst.lookup (228 * zKEY + 95) = some (1, 229, 2, 12) by decide +kernel) (by decide) rfl,
  fun _ _ _ _ _ _ _ _ => r_ifne (show zdec 228 6 = some (.ifCond .ne 5, 3) by decide +kernel) rfl rfl,
  fun _ _ _ _ _ _ _ => r_iconst (show zdec 228 9 = some (.iconst (-1), 1) by decide +kernel) rfl rfl,
  fun _ _ _ _ _ _ _ => r_ireti (show zdec 228 10 = some (.ireturn, 1) by decide +kernel) (by decide +kernel),
  fun _ _ _ _ _ _ _ => r_aload_nr (show zdec 228 11 = some (.aload_n 0, 1) by decide +kernel) rfl rfl,
  fun _ _ _ _ _ _ _ => r_iload_n (show zdec 228 12 = some (.iload_n 1, 1) by decide +kernel) rfl rfl,
  fun _ _ _ _ _ _ _ => r_sipush (show zdec 228 13 = some (.sipush 134, 3) by decide +kernel) rfl rfl,
  fun _ _ _ _ _ _ _ _ _ => r_cS [_, _] rfl (show zdec 228 16 = some (.invokestatic 39, 3) by decide +kernel) (show zst.lookup (228 * zKEY + 39) = some (0, 208, 2, 0) by decide +kernel) (by decide) rfl,
  fun _ _ _ _ _ _ _ => r_aload_nr (show zdec 228 19 = some (.aload_n 0, 1) by decide +kernel) rfl rfl,
  fun _ _ _ _ _ _ _ => r_iload_n (show zdec 228 20 = some (.iload_n 1, 1) by decide +kernel) rfl rfl,
  fun _ _ _ _ _ _ _ => r_sipush (show zdec 228 21 = some (.sipush 134, 3) by decide +kernel) rfl rfl,
  fun _ _ _ _ _ _ _ _ _ _ => r_cV [_, _] rfl (show zdec 228 24 = some (.invokevirtual 85, 3) by decide +kernel) (show zst.lookup (228 * zKEY + 85) = some (1, 226, 2, 12) by decide +kernel) (by decide) rfl,
  fun _ _ _ _ _ _ _ _ => r_l2i (show zdec 228 27 = some (.l2i, 1) by decide +kernel) rfl,
  fun _ _ _ _ _ _ _ => r_iconst (show zdec 228 28 = some (.iconst 1, 1) by decide +kernel) rfl rfl,
  fun _ _ _ _ _ _ _ _ _ => r_isub (show zdec 228 29 = some (.isub, 1) by decide +kernel) rfl,
  fun _ _ _ _ _ _ _ _ _ _ => r_cV [_, _] rfl (show zdec 228 30 = some (.invokevirtual 78, 3) by decide +kernel) (show zst.lookup (228 * zKEY + 78) = some (1, 213, 2, 12) by decide +kernel) (by decide) rfl,
  fun _ _ _ _ _ _ _ => r_iconst (show zdec 228 33 = some (.iconst 1, 1) by decide +kernel) rfl rfl,
  fun _ _ _ _ _ _ _ _ _ => r_isub (show zdec 228 34 = some (.isub, 1) by decide +kernel) rfl,
  fun _ _ _ _ _ _ _ _ => r_istore_n (show zdec 228 35 = some (.istore_n 3, 1) by decide +kernel) rfl rfl (Nat.le_of_ble_eq_true rfl) rfl rfl,
  fun _ _ _ _ _ _ _ => r_iload_n (show zdec 228 36 = some (.iload_n 2, 1) by decide +kernel) rfl rfl,
  fun _ _ _ _ _ _ _ _ => r_istore (show zdec 228 37 = some (.istore 4, 2) by decide +kernel) rfl (Nat.le_of_ble_eq_true rfl) rfl rfl,
  fun _ _ _ _ _ _ _ => r_iload_n (show zdec 228 41 = some (.iload_n 3, 1) by decide +kernel) rfl rfl,
  fun _ _ _ _ _ _ _ _ _ => r_icmpge (show zdec 228 42 = some (.if_icmp .ge 20, 3) by decide +kernel) rfl rfl,
  fun _ _ _ _ _ _ _ => r_aload_nr (show zdec 228 45 = some (.aload_n 0, 1) by decide +kernel) rfl rfl,
  fun _ _ _ _ _ _ _ => r_iload_n (show zdec 228 46 = some (.iload_n 1, 1) by decide +kernel) rfl rfl,
  fun _ _ _ _ _ _ _ => r_iload (show zdec 228 47 = some (.iload 4, 2) by decide +kernel) rfl rfl,
  fun _ _ _ _ _ _ _ => r_iload (show zdec 228 49 = some (.iload 4, 2) by decide +kernel) rfl rfl,
  fun _ _ _ _ _ _ _ => r_iconst (show zdec 228 51 = some (.iconst 1, 1) by decide +kernel) rfl rfl,
  fun _ _ _ _ _ _ _ _ _ => r_iadd (show zdec 228 52 = some (.iadd, 1) by decide +kernel) rfl,
  fun _ _ _ _ _ _ _ _ _ _ _ => r_cV [_, _, _] rfl (show zdec 228 53 = some (.invokevirtual 99, 3) by decide +kernel) (show zst.lookup (228 * zKEY + 99) = some (1, 230, 3, 12) by decide +kernel) (by decide) rfl,
  fun _ _ _ _ _ _ _ => r_iinc (show zdec 228 56 = some (.iinc 4 1, 3) by decide +kernel) rfl rfl rfl (Nat.le_of_ble_eq_true rfl) rfl rfl,
  fun _ _ _ _ _ _ _ => r_goto (show zdec 228 59 = some (.goto (-20), 3) by decide +kernel) rfl,
  fun _ _ _ _ _ _ _ => r_iload_n (show zdec 228 62 = some (.iload_n 3, 1) by decide +kernel) rfl rfl,
  fun _ _ _ _ _ _ _ => r_ireti (show zdec 228 63 = some (.ireturn, 1) by decide +kernel) (by decide +kernel)⟩
theorem zl_228_39 : ∀ (l0 l1 l2 l3 : Value) (x : Int32) (S : List Value) (h : zH), rn 228 39 [l0, l1, l2, l3, .int x] S h = rn 228 41 [l0, l1, l2, l3, .int x] (.int x :: S) h := fun _ _ _ _ _ _ _ => r_iload (show zdec 228 39 = some (.iload 4, 2) by decide +kernel) rfl rfl
theorem ze_228 : ∀ (a0 : Nat) (a1 : Int32) (a2 : Int32) (h : zH), ev 228 [.ref a0, .int a1, .int a2] h = rn 228 0 [.ref a0, .int a1, .int a2, .float 0, .float 0] [] h := fun _ _ _ _ => if_pos (Nat.le_of_ble_eq_true rfl)
-- Model.moveGarnishment
theorem zr_231 : (∀ (l1 l2 l3 l4 l5 : Value) (x : Nat) (S : List Value) (h : zH), rn 231 0 [.ref x, l1, l2, l3, l4, l5] S h = rn 231 1 [.ref x, l1, l2, l3, l4, l5] (.ref x :: S) h) ∧
  (∀ (l0 l2 l3 l4 l5 : Value) (x : Int32) (S : List Value) (h : zH), rn 231 1 [l0, .int x, l2, l3, l4, l5] S h = rn 231 2 [l0, .int x, l2, l3, l4, l5] (.int x :: S) h) ∧
  (∀ (l0 l1 l3 l4 l5 : Value) (x : Int32) (S : List Value) (h : zH), rn 231 2 [l0, l1, .int x, l3, l4, l5] S h = rn 231 3 [l0, l1, .int x, l3, l4, l5] (.int x :: S) h) ∧
  (∀ (l0 l1 l2 l3 l4 l5 : Value) (o : Nat) (v0 : Value) (v1 : Value) (S : List Value) (h : zH), rn 231 3 [l0, l1, l2, l3, l4, l5] (v1 :: v0 :: .ref o :: S) h = if zkd h o = 12 ∧ zsum S ≤ 8 then zcall (ev 229 [.ref o, v0, v1] h) (fun v h => rn 231 6 [l0, l1, l2, l3, l4, l5] (zpush v S) h) else none) ∧
  (∀ (l0 l1 l2 l3 l4 l5 : Value) (x : Int32) (S : List Value) (h : zH), rn 231 6 [l0, l1, l2, l3, l4, l5] (.int x :: S) h = if x = nI 0 then rn 231 18 [l0, l1, l2, l3, l4, l5] S h else rn 231 9 [l0, l1, l2, l3, l4, l5] S h) ∧
  (∀ (l1 l2 l3 l4 l5 : Value) (x : Nat) (S : List Value) (h : zH), rn 231 9 [.ref x, l1, l2, l3, l4, l5] S h = rn 231 10 [.ref x, l1, l2, l3, l4, l5] (.ref x :: S) h) ∧
  (∀ (l0 l2 l3 l4 l5 : Value) (x : Int32) (S : List Value) (h : zH), rn 231 10 [l0, .int x, l2, l3, l4, l5] S h = rn 231 11 [l0, .int x, l2, l3, l4, l5] (.int x :: S) h) ∧
  (∀ (l0 l1 l2 l4 l5 : Value) (x : Int32) (S : List Value) (h : zH), rn 231 11 [l0, l1, l2, .int x, l4, l5] S h = rn 231 12 [l0, l1, l2, .int x, l4, l5] (.int x :: S) h) ∧
  (∀ (l0 l1 l2 l3 l4 l5 : Value) (o : Nat) (v0 : Value) (v1 : Value) (S : List Value) (h : zH), rn 231 12 [l0, l1, l2, l3, l4, l5] (v1 :: v0 :: .ref o :: S) h = if zkd h o = 12 ∧ zsum S ≤ 8 then zcall (ev 229 [.ref o, v0, v1] h) (fun v h => rn 231 15 [l0, l1, l2, l3, l4, l5] (zpush v S) h) else none) ∧
  (∀ (l0 l1 l2 l3 l4 l5 : Value) (x : Int32) (S : List Value) (h : zH), rn 231 15 [l0, l1, l2, l3, l4, l5] (.int x :: S) h = if x = nI 0 then rn 231 18 [l0, l1, l2, l3, l4, l5] S h else rn 231 20 [l0, l1, l2, l3, l4, l5] S h) ∧
  (∀ (l0 l1 l2 l3 l4 l5 : Value) (S : List Value) (h : zH), rn 231 18 [l0, l1, l2, l3, l4, l5] S h = rn 231 19 [l0, l1, l2, l3, l4, l5] (.int (-1) :: S) h) ∧
  (∀ (l0 l1 l2 l3 l4 l5 : Value) (x : Int32) (h : zH), rn 231 19 [l0, l1, l2, l3, l4, l5] [.int x] h = some (some (.int x), h)) ∧
  (∀ (l1 l2 l3 l4 l5 : Value) (x : Nat) (S : List Value) (h : zH), rn 231 20 [.ref x, l1, l2, l3, l4, l5] S h = rn 231 21 [.ref x, l1, l2, l3, l4, l5] (.ref x :: S) h) ∧
  (∀ (l0 l1 l2 l3 l4 l5 : Value) (o : Nat) (S : List Value) (h : zH), rn 231 21 [l0, l1, l2, l3, l4, l5] (.ref o :: S) h = if zkd h o = 12 ∧ zsum S ≤ 8 then zcall (ev 214 [.ref o] h) (fun v h => rn 231 24 [l0, l1, l2, l3, l4, l5] (zpush v S) h) else none) ∧
  (∀ (l1 l2 l3 l4 l5 : Value) (x : Nat) (S : List Value) (h : zH), rn 231 24 [.ref x, l1, l2, l3, l4, l5] S h = rn 231 25 [.ref x, l1, l2, l3, l4, l5] (.ref x :: S) h) ∧
  (∀ (l0 l2 l3 l4 l5 : Value) (x : Int32) (S : List Value) (h : zH), rn 231 25 [l0, .int x, l2, l3, l4, l5] S h = rn 231 26 [l0, .int x, l2, l3, l4, l5] (.int x :: S) h) ∧
  (∀ (l0 l1 l2 l3 l4 l5 : Value) (S : List Value) (h : zH), rn 231 26 [l0, l1, l2, l3, l4, l5] S h = rn 231 29 [l0, l1, l2, l3, l4, l5] (.int (nI 135) :: S) h) ∧
  (∀ (l0 l1 l2 l3 l4 l5 : Value) (S : List Value) (h : zH), rn 231 29 [l0, l1, l2, l3, l4, l5] S h = rn 231 30 [l0, l1, l2, l3, l4, l5] (.int (nI 4) :: S) h) ∧
  (∀ (l0 l1 l3 l4 l5 : Value) (x : Int32) (S : List Value) (h : zH), rn 231 30 [l0, l1, .int x, l3, l4, l5] S h = rn 231 31 [l0, l1, .int x, l3, l4, l5] (.int x :: S) h) ∧
  (∀ (l0 l1 l2 l3 l4 l5 : Value) (x : Int32) (y : Int32) (S : List Value) (h : zH), rn 231 31 [l0, l1, l2, l3, l4, l5] (.int y :: .int x :: S) h = rn 231 32 [l0, l1, l2, l3, l4, l5] (.int (x * y) :: S) h) ∧
  (∀ (l0 l1 l2 l3 l4 l5 : Value) (x : Int32) (y : Int32) (S : List Value) (h : zH), rn 231 32 [l0, l1, l2, l3, l4, l5] (.int y :: .int x :: S) h = rn 231 33 [l0, l1, l2, l3, l4, l5] (.int (x + y) :: S) h) ∧
  (∀ (l0 l1 l2 l3 l4 l5 : Value) (o : Nat) (v0 : Value) (v1 : Value) (S : List Value) (h : zH), rn 231 33 [l0, l1, l2, l3, l4, l5] (v1 :: v0 :: .ref o :: S) h = if zkd h o = 12 ∧ zsum S ≤ 8 then zcall (ev 226 [.ref o, v0, v1] h) (fun v h => rn 231 36 [l0, l1, l2, l3, l4, l5] (zpush v S) h) else none) ∧
  (∀ (l0 l1 l2 l3 l4 l5 : Value) (x : Int64) (S : List Value) (h : zH), rn 231 36 [l0, l1, l2, l3, l4, l5] (.long x :: S) h = rn 231 37 [l0, l1, l2, l3, l4, l5] (.int x.toInt32 :: S) h) ∧
  (∀ (l0 l1 l2 l3 l4 l5 : Value) (x : Int32) (S : List Value) (h : zH), rn 231 37 [l0, l1, l2, l3, l4, l5] (.int x :: S) h = nl l3 (rn 231 39 [l0, l1, l2, l3, .int x, l5] S h)) ∧
  (∀ (l0 l1 l3 l4 l5 : Value) (x : Int32) (S : List Value) (h : zH), rn 231 39 [l0, l1, .int x, l3, l4, l5] S h = rn 231 40 [l0, l1, .int x, l3, l4, l5] (.int x :: S) h) ∧
  (∀ (l0 l1 l2 l3 l4 l5 : Value) (x : Int32) (S : List Value) (h : zH), rn 231 40 [l0, l1, l2, l3, l4, l5] (.int x :: S) h = nl l4 (rn 231 42 [l0, l1, l2, l3, l4, .int x] S h)) ∧
  (∀ (l0 l1 l2 l4 l5 : Value) (x : Int32) (S : List Value) (h : zH), rn 231 44 [l0, l1, l2, .int x, l4, l5] S h = rn 231 45 [l0, l1, l2, .int x, l4, l5] (.int x :: S) h) ∧
  (∀ (l0 l1 l2 l3 l4 l5 : Value) (x : Int32) (y : Int32) (S : List Value) (h : zH), rn 231 45 [l0, l1, l2, l3, l4, l5] (.int y :: .int x :: S) h = if y ≤ x then rn 231 65 [l0, l1, l2, l3, l4, l5] S h else rn 231 48 [l0, l1, l2, l3, l4, l5] S h) ∧
  (∀ (l1 l2 l3 l4 l5 : Value) (x : Nat) (S : List Value) (h : zH), rn 231 48 [.ref x, l1, l2, l3, l4, l5] S h = rn 231 49 [.ref x, l1, l2, l3, l4, l5] (.ref x :: S) h) ∧
  (∀ (l0 l2 l3 l4 l5 : Value) (x : Int32) (S : List Value) (h : zH), rn 231 49 [l0, .int x, l2, l3, l4, l5] S h = rn 231 50 [l0, .int x, l2, l3, l4, l5] (.int x :: S) h) ∧
  (∀ (l0 l1 l2 l3 l4 : Value) (x : Int32) (S : List Value) (h : zH), rn 231 50 [l0, l1, l2, l3, l4, .int x] S h = rn 231 52 [l0, l1, l2, l3, l4, .int x] (.int x :: S) h) ∧
  (∀ (l0 l1 l2 l3 l4 : Value) (x : Int32) (S : List Value) (h : zH), rn 231 52 [l0, l1, l2, l3, l4, .int x] S h = rn 231 54 [l0, l1, l2, l3, l4, .int x] (.int x :: S) h) ∧
  (∀ (l0 l1 l2 l3 l4 l5 : Value) (S : List Value) (h : zH), rn 231 54 [l0, l1, l2, l3, l4, l5] S h = rn 231 55 [l0, l1, l2, l3, l4, l5] (.int (nI 1) :: S) h) ∧
  (∀ (l0 l1 l2 l3 l4 l5 : Value) (x : Int32) (y : Int32) (S : List Value) (h : zH), rn 231 55 [l0, l1, l2, l3, l4, l5] (.int y :: .int x :: S) h = rn 231 56 [l0, l1, l2, l3, l4, l5] (.int (x + y) :: S) h) ∧
  (∀ (l0 l1 l2 l3 l4 l5 : Value) (o : Nat) (v0 : Value) (v1 : Value) (v2 : Value) (S : List Value) (h : zH), rn 231 56 [l0, l1, l2, l3, l4, l5] (v2 :: v1 :: v0 :: .ref o :: S) h = if zkd h o = 12 ∧ zsum S ≤ 8 then zcall (ev 230 [.ref o, v0, v1, v2] h) (fun v h => rn 231 59 [l0, l1, l2, l3, l4, l5] (zpush v S) h) else none) ∧
  (∀ (l0 l1 l2 l3 l4 : Value) (x : Int32) (S : List Value) (h : zH), rn 231 59 [l0, l1, l2, l3, l4, .int x] S h = nl l4 (rn 231 62 [l0, l1, l2, l3, l4, .int (x + (nI 1))] S h)) ∧
  (∀ (l0 l1 l2 l3 l4 l5 : Value) (S : List Value) (h : zH), rn 231 62 [l0, l1, l2, l3, l4, l5] S h = rn 231 42 [l0, l1, l2, l3, l4, l5] S h) ∧
  (∀ (l0 l1 l3 l4 l5 : Value) (x : Int32) (S : List Value) (h : zH), rn 231 65 [l0, l1, .int x, l3, l4, l5] S h = rn 231 66 [l0, l1, .int x, l3, l4, l5] (.int x :: S) h) ∧
  (∀ (l0 l1 l2 l3 l4 l5 : Value) (x : Int32) (S : List Value) (h : zH), rn 231 66 [l0, l1, l2, l3, l4, l5] (.int x :: S) h = nl l4 (rn 231 68 [l0, l1, l2, l3, l4, .int x] S h)) ∧
  (∀ (l0 l1 l2 l4 l5 : Value) (x : Int32) (S : List Value) (h : zH), rn 231 70 [l0, l1, l2, .int x, l4, l5] S h = rn 231 71 [l0, l1, l2, .int x, l4, l5] (.int x :: S) h) ∧
  (∀ (l0 l1 l2 l3 l4 l5 : Value) (x : Int32) (y : Int32) (S : List Value) (h : zH), rn 231 71 [l0, l1, l2, l3, l4, l5] (.int y :: .int x :: S) h = if x ≤ y then rn 231 91 [l0, l1, l2, l3, l4, l5] S h else rn 231 74 [l0, l1, l2, l3, l4, l5] S h) ∧
  (∀ (l1 l2 l3 l4 l5 : Value) (x : Nat) (S : List Value) (h : zH), rn 231 74 [.ref x, l1, l2, l3, l4, l5] S h = rn 231 75 [.ref x, l1, l2, l3, l4, l5] (.ref x :: S) h) ∧
  (∀ (l0 l2 l3 l4 l5 : Value) (x : Int32) (S : List Value) (h : zH), rn 231 75 [l0, .int x, l2, l3, l4, l5] S h = rn 231 76 [l0, .int x, l2, l3, l4, l5] (.int x :: S) h) ∧
  (∀ (l0 l1 l2 l3 l4 : Value) (x : Int32) (S : List Value) (h : zH), rn 231 76 [l0, l1, l2, l3, l4, .int x] S h = rn 231 78 [l0, l1, l2, l3, l4, .int x] (.int x :: S) h) ∧
  (∀ (l0 l1 l2 l3 l4 : Value) (x : Int32) (S : List Value) (h : zH), rn 231 78 [l0, l1, l2, l3, l4, .int x] S h = rn 231 80 [l0, l1, l2, l3, l4, .int x] (.int x :: S) h) ∧
  (∀ (l0 l1 l2 l3 l4 l5 : Value) (S : List Value) (h : zH), rn 231 80 [l0, l1, l2, l3, l4, l5] S h = rn 231 81 [l0, l1, l2, l3, l4, l5] (.int (nI 1) :: S) h) ∧
  (∀ (l0 l1 l2 l3 l4 l5 : Value) (x : Int32) (y : Int32) (S : List Value) (h : zH), rn 231 81 [l0, l1, l2, l3, l4, l5] (.int y :: .int x :: S) h = rn 231 82 [l0, l1, l2, l3, l4, l5] (.int (x - y) :: S) h) ∧
  (∀ (l0 l1 l2 l3 l4 l5 : Value) (o : Nat) (v0 : Value) (v1 : Value) (v2 : Value) (S : List Value) (h : zH), rn 231 82 [l0, l1, l2, l3, l4, l5] (v2 :: v1 :: v0 :: .ref o :: S) h = if zkd h o = 12 ∧ zsum S ≤ 8 then zcall (ev 230 [.ref o, v0, v1, v2] h) (fun v h => rn 231 85 [l0, l1, l2, l3, l4, l5] (zpush v S) h) else none) ∧
  (∀ (l0 l1 l2 l3 l4 : Value) (x : Int32) (S : List Value) (h : zH), rn 231 85 [l0, l1, l2, l3, l4, .int x] S h = nl l4 (rn 231 88 [l0, l1, l2, l3, l4, .int (x + (-1))] S h)) ∧
  (∀ (l0 l1 l2 l3 l4 l5 : Value) (S : List Value) (h : zH), rn 231 88 [l0, l1, l2, l3, l4, l5] S h = rn 231 68 [l0, l1, l2, l3, l4, l5] S h) ∧
  (∀ (l0 l1 l2 l3 l5 : Value) (x : Int32) (S : List Value) (h : zH), rn 231 91 [l0, l1, l2, l3, .int x, l5] S h = rn 231 93 [l0, l1, l2, l3, .int x, l5] (.int x :: S) h) ∧
  (∀ (l0 l1 l2 l3 l4 l5 : Value) (x : Int32) (h : zH), rn 231 93 [l0, l1, l2, l3, l4, l5] [.int x] h = some (some (.int x), h)) := ⟨fun _ _ _ _ _ _ _ _ => r_aload_nr (show zdec 231 0 = some (.aload_n 0, 1) by decide +kernel) rfl rfl,
  fun _ _ _ _ _ _ _ _ => r_iload_n (show zdec 231 1 = some (.iload_n 1, 1) by decide +kernel) rfl rfl,
  fun _ _ _ _ _ _ _ _ => r_iload_n (show zdec 231 2 = some (.iload_n 2, 1) by decide +kernel) rfl rfl,
  fun _ _ _ _ _ _ _ _ _ _ _ => r_cV [_, _] rfl (show zdec 231 3 = some (.invokevirtual 95, 3) by decide +kernel) (show zst.lookup (231 * zKEY + 95) = some (1, 229, 2, 12) by decide +kernel) (by decide) rfl,
  fun _ _ _ _ _ _ _ _ _ => r_ifeq (show zdec 231 6 = some (.ifCond .eq 12, 3) by decide +kernel) rfl rfl,
  fun _ _ _ _ _ _ _ _ => r_aload_nr (show zdec 231 9 = some (.aload_n 0, 1) by decide +kernel) rfl rfl,
  fun _ _ _ _ _ _ _ _ => r_iload_n (show zdec 231 10 = some (.iload_n 1, 1) by decide +kernel) rfl rfl,
  fun _ _ _ _ _ _ _ _ => r_iload_n (show zdec 231 11 = some (.iload_n 3, 1) by decide +kernel) rfl rfl,
  fun _ _ _ _ _ _ _ _ _ _ _ => r_cV [_, _] rfl (show zdec 231 12 = some (.invokevirtual 95, 3) by decide +kernel) (show zst.lookup (231 * zKEY + 95) = some (1, 229, 2, 12) by decide +kernel) (by decide) rfl,
  fun _ _ _ _ _ _ _ _ _ => r_ifne (show zdec 231 15 = some (.ifCond .ne 5, 3) by decide +kernel) rfl rfl,
  fun _ _ _ _ _ _ _ _ => r_iconst (show zdec 231 18 = some (.iconst (-1), 1) by decide +kernel) rfl rfl,
  fun _ _ _ _ _ _ _ _ => r_ireti (show zdec 231 19 = some (.ireturn, 1) by decide +kernel) (by decide +kernel),
  fun _ _ _ _ _ _ _ _ => r_aload_nr (show zdec 231 20 = some (.aload_n 0, 1) by decide +kernel) rfl rfl,
  fun _ _ _ _ _ _ _ _ _ => r_cV [] rfl (show zdec 231 21 = some (.invokevirtual 68, 3) by decide +kernel) (show zst.lookup (231 * zKEY + 68) = some (1, 214, 0, 12) by decide +kernel) (by decide) rfl,
  fun _ _ _ _ _ _ _ _ => r_aload_nr (show zdec 231 24 = some (.aload_n 0, 1) by decide +kernel) rfl rfl,
  fun _ _ _ _ _ _ _ _ => r_iload_n (show zdec 231 25 = some (.iload_n 1, 1) by decide +kernel) rfl rfl,
  fun _ _ _ _ _ _ _ _ => r_sipush (show zdec 231 26 = some (.sipush 135, 3) by decide +kernel) rfl rfl,
  fun _ _ _ _ _ _ _ _ => r_iconst (show zdec 231 29 = some (.iconst 4, 1) by decide +kernel) rfl rfl,
  fun _ _ _ _ _ _ _ _ => r_iload_n (show zdec 231 30 = some (.iload_n 2, 1) by decide +kernel) rfl rfl,
  fun _ _ _ _ _ _ _ _ _ _ => r_imul (show zdec 231 31 = some (.imul, 1) by decide +kernel) rfl,
  fun _ _ _ _ _ _ _ _ _ _ => r_iadd (show zdec 231 32 = some (.iadd, 1) by decide +kernel) rfl,
  fun _ _ _ _ _ _ _ _ _ _ _ => r_cV [_, _] rfl (show zdec 231 33 = some (.invokevirtual 85, 3) by decide +kernel) (show zst.lookup (231 * zKEY + 85) = some (1, 226, 2, 12) by decide +kernel) (by decide) rfl,
  fun _ _ _ _ _ _ _ _ _ => r_l2i (show zdec 231 36 = some (.l2i, 1) by decide +kernel) rfl,
  fun _ _ _ _ _ _ _ _ _ => r_istore (show zdec 231 37 = some (.istore 4, 2) by decide +kernel) rfl (Nat.le_of_ble_eq_true rfl) rfl rfl,
  fun _ _ _ _ _ _ _ _ => r_iload_n (show zdec 231 39 = some (.iload_n 2, 1) by decide +kernel) rfl rfl,
  fun _ _ _ _ _ _ _ _ _ => r_istore (show zdec 231 40 = some (.istore 5, 2) by decide +kernel) rfl (Nat.le_of_ble_eq_true rfl) rfl rfl,
  fun _ _ _ _ _ _ _ _ => r_iload_n (show zdec 231 44 = some (.iload_n 3, 1) by decide +kernel) rfl rfl,
  fun _ _ _ _ _ _ _ _ _ _ => r_icmpge (show zdec 231 45 = some (.if_icmp .ge 20, 3) by decide +kernel) rfl rfl,
  fun _ _ _ _ _ _ _ _ => r_aload_nr (show zdec 231 48 = some (.aload_n 0, 1) by decide +kernel) rfl rfl,
  fun _ _ _ _ _ _ _ _ => r_iload_n (show zdec 231 49 = some (.iload_n 1, 1) by decide +kernel) rfl rfl,
  fun _ _ _ _ _ _ _ _ => r_iload (show zdec 231 50 = some (.iload 5, 2) by decide +kernel) rfl rfl,
  fun _ _ _ _ _ _ _ _ => r_iload (show zdec 231 52 = some (.iload 5, 2) by decide +kernel) rfl rfl,
  fun _ _ _ _ _ _ _ _ => r_iconst (show zdec 231 54 = some (.iconst 1, 1) by decide +kernel) rfl rfl,
  fun _ _ _ _ _ _ _ _ _ _ => r_iadd (show zdec 231 55 = some (.iadd, 1) by decide +kernel) rfl,
  fun _ _ _ _ _ _ _ _ _ _ _ _ => r_cV [_, _, _] rfl (show zdec 231 56 = some (.invokevirtual 99, 3) by decide +kernel) (show zst.lookup (231 * zKEY + 99) = some (1, 230, 3, 12) by decide +kernel) (by decide) rfl,
  fun _ _ _ _ _ _ _ _ => r_iinc (show zdec 231 59 = some (.iinc 5 1, 3) by decide +kernel) rfl rfl rfl (Nat.le_of_ble_eq_true rfl) rfl rfl,
  fun _ _ _ _ _ _ _ _ => r_goto (show zdec 231 62 = some (.goto (-20), 3) by decide +kernel) rfl,
  fun _ _ _ _ _ _ _ _ => r_iload_n (show zdec 231 65 = some (.iload_n 2, 1) by decide +kernel) rfl rfl,
  fun _ _ _ _ _ _ _ _ _ => r_istore (show zdec 231 66 = some (.istore 5, 2) by decide +kernel) rfl (Nat.le_of_ble_eq_true rfl) rfl rfl,
  fun _ _ _ _ _ _ _ _ => r_iload_n (show zdec 231 70 = some (.iload_n 3, 1) by decide +kernel) rfl rfl,
  fun _ _ _ _ _ _ _ _ _ _ => r_icmple (show zdec 231 71 = some (.if_icmp .le 20, 3) by decide +kernel) rfl rfl,
  fun _ _ _ _ _ _ _ _ => r_aload_nr (show zdec 231 74 = some (.aload_n 0, 1) by decide +kernel) rfl rfl,
  fun _ _ _ _ _ _ _ _ => r_iload_n (show zdec 231 75 = some (.iload_n 1, 1) by decide +kernel) rfl rfl,
  fun _ _ _ _ _ _ _ _ => r_iload (show zdec 231 76 = some (.iload 5, 2) by decide +kernel) rfl rfl,
  fun _ _ _ _ _ _ _ _ => r_iload (show zdec 231 78 = some (.iload 5, 2) by decide +kernel) rfl rfl,
  fun _ _ _ _ _ _ _ _ => r_iconst (show zdec 231 80 = some (.iconst 1, 1) by decide +kernel) rfl rfl,
  fun _ _ _ _ _ _ _ _ _ _ => r_isub (show zdec 231 81 = some (.isub, 1) by decide +kernel) rfl,
  fun _ _ _ _ _ _ _ _ _ _ _ _ => r_cV [_, _, _] rfl (show zdec 231 82 = some (.invokevirtual 99, 3) by decide +kernel) (show zst.lookup (231 * zKEY + 99) = some (1, 230, 3, 12) by decide +kernel) (by decide) rfl,
  fun _ _ _ _ _ _ _ _ => r_iinc (show zdec 231 85 = some (.iinc 5 (-1), 3) by decide +kernel) rfl rfl rfl (Nat.le_of_ble_eq_true rfl) rfl rfl,
  fun _ _ _ _ _ _ _ _ => r_goto (show zdec 231 88 = some (.goto (-20), 3) by decide +kernel) rfl,
  fun _ _ _ _ _ _ _ _ => r_iload (show zdec 231 91 = some (.iload 4, 2) by decide +kernel) rfl rfl,
  fun _ _ _ _ _ _ _ _ => r_ireti (show zdec 231 93 = some (.ireturn, 1) by decide +kernel) (by decide +kernel)⟩
theorem zl_231_42 : ∀ (l0 l1 l2 l3 l4 : Value) (x : Int32) (S : List Value) (h : zH), rn 231 42 [l0, l1, l2, l3, l4, .int x] S h = rn 231 44 [l0, l1, l2, l3, l4, .int x] (.int x :: S) h := fun _ _ _ _ _ _ _ _ => r_iload (show zdec 231 42 = some (.iload 5, 2) by decide +kernel) rfl rfl
theorem zl_231_68 : ∀ (l0 l1 l2 l3 l4 : Value) (x : Int32) (S : List Value) (h : zH), rn 231 68 [l0, l1, l2, l3, l4, .int x] S h = rn 231 70 [l0, l1, l2, l3, l4, .int x] (.int x :: S) h := fun _ _ _ _ _ _ _ _ => r_iload (show zdec 231 68 = some (.iload 5, 2) by decide +kernel) rfl rfl
theorem ze_231 : ∀ (a0 : Nat) (a1 : Int32) (a2 : Int32) (a3 : Int32) (h : zH), ev 231 [.ref a0, .int a1, .int a2, .int a3] h = rn 231 0 [.ref a0, .int a1, .int a2, .int a3, .float 0, .float 0] [] h := fun _ _ _ _ _ => if_pos (Nat.le_of_ble_eq_true rfl)
-- Model.grossOf
theorem zr_239 : (∀ (l1 l2 : Value) (x : Nat) (S : List Value) (h : zH), rn 239 0 [.ref x, l1, l2] S h = rn 239 1 [.ref x, l1, l2] (.ref x :: S) h) ∧
  (∀ (l0 l2 : Value) (x : Int32) (S : List Value) (h : zH), rn 239 1 [l0, .int x, l2] S h = rn 239 2 [l0, .int x, l2] (.int x :: S) h) ∧
  (∀ (l0 l1 l2 : Value) (S : List Value) (h : zH), rn 239 2 [l0, l1, l2] S h = rn 239 3 [l0, l1, l2] (.int (nI 2) :: S) h) ∧
  (∀ (l0 l1 : Value) (x : Int32) (S : List Value) (h : zH), rn 239 3 [l0, l1, .int x] S h = rn 239 4 [l0, l1, .int x] (.int x :: S) h) ∧
  (∀ (l0 l1 l2 : Value) (x : Int32) (y : Int32) (S : List Value) (h : zH), rn 239 4 [l0, l1, l2] (.int y :: .int x :: S) h = rn 239 5 [l0, l1, l2] (.int (x + y) :: S) h) ∧
  (∀ (l0 l1 l2 : Value) (o : Nat) (v0 : Value) (v1 : Value) (S : List Value) (h : zH), rn 239 5 [l0, l1, l2] (v1 :: v0 :: .ref o :: S) h = if zkd h o = 12 ∧ zsum S ≤ 8 then zcall (ev 226 [.ref o, v0, v1] h) (fun v h => rn 239 8 [l0, l1, l2] (zpush v S) h) else none) ∧
  (∀ (l1 l2 : Value) (x : Nat) (S : List Value) (h : zH), rn 239 8 [.ref x, l1, l2] S h = rn 239 9 [.ref x, l1, l2] (.ref x :: S) h) ∧
  (∀ (l0 l2 : Value) (x : Int32) (S : List Value) (h : zH), rn 239 9 [l0, .int x, l2] S h = rn 239 10 [l0, .int x, l2] (.int x :: S) h) ∧
  (∀ (l0 l1 l2 : Value) (S : List Value) (h : zH), rn 239 10 [l0, l1, l2] S h = rn 239 12 [l0, l1, l2] (.int (nI 14) :: S) h) ∧
  (∀ (l0 l1 : Value) (x : Int32) (S : List Value) (h : zH), rn 239 12 [l0, l1, .int x] S h = rn 239 13 [l0, l1, .int x] (.int x :: S) h) ∧
  (∀ (l0 l1 l2 : Value) (x : Int32) (y : Int32) (S : List Value) (h : zH), rn 239 13 [l0, l1, l2] (.int y :: .int x :: S) h = rn 239 14 [l0, l1, l2] (.int (x + y) :: S) h) ∧
  (∀ (l0 l1 l2 : Value) (o : Nat) (v0 : Value) (v1 : Value) (S : List Value) (h : zH), rn 239 14 [l0, l1, l2] (v1 :: v0 :: .ref o :: S) h = if zkd h o = 12 ∧ zsum S ≤ 8 then zcall (ev 226 [.ref o, v0, v1] h) (fun v h => rn 239 17 [l0, l1, l2] (zpush v S) h) else none) ∧
  (∀ (l0 l1 l2 : Value) (x : Int64) (y : Int64) (S : List Value) (h : zH), rn 239 17 [l0, l1, l2] (.long y :: .long x :: S) h = rn 239 18 [l0, l1, l2] (.long (x * y) :: S) h) ∧
  (∀ (l0 l1 l2 : Value) (S : List Value) (h : zH), rn 239 18 [l0, l1, l2] S h = rn 239 21 [l0, l1, l2] (.long (30) :: S) h) ∧
  (∀ (l0 l1 l2 : Value) (x : Int64) (y : Int64) (S : List Value) (h : zH), rn 239 21 [l0, l1, l2] (.long y :: .long x :: S) h = dvJ y (rn 239 22 [l0, l1, l2] (.long (x / y) :: S) h)) ∧
  (∀ (l1 l2 : Value) (x : Nat) (S : List Value) (h : zH), rn 239 22 [.ref x, l1, l2] S h = rn 239 23 [.ref x, l1, l2] (.ref x :: S) h) ∧
  (∀ (l0 l2 : Value) (x : Int32) (S : List Value) (h : zH), rn 239 23 [l0, .int x, l2] S h = rn 239 24 [l0, .int x, l2] (.int x :: S) h) ∧
  (∀ (l0 l1 l2 : Value) (S : List Value) (h : zH), rn 239 24 [l0, l1, l2] S h = rn 239 26 [l0, l1, l2] (.int (nI 26) :: S) h) ∧
  (∀ (l0 l1 : Value) (x : Int32) (S : List Value) (h : zH), rn 239 26 [l0, l1, .int x] S h = rn 239 27 [l0, l1, .int x] (.int x :: S) h) ∧
  (∀ (l0 l1 l2 : Value) (x : Int32) (y : Int32) (S : List Value) (h : zH), rn 239 27 [l0, l1, l2] (.int y :: .int x :: S) h = rn 239 28 [l0, l1, l2] (.int (x + y) :: S) h) ∧
  (∀ (l0 l1 l2 : Value) (o : Nat) (v0 : Value) (v1 : Value) (S : List Value) (h : zH), rn 239 28 [l0, l1, l2] (v1 :: v0 :: .ref o :: S) h = if zkd h o = 12 ∧ zsum S ≤ 8 then zcall (ev 226 [.ref o, v0, v1] h) (fun v h => rn 239 31 [l0, l1, l2] (zpush v S) h) else none) ∧
  (∀ (l0 l1 l2 : Value) (x : Int64) (y : Int64) (S : List Value) (h : zH), rn 239 31 [l0, l1, l2] (.long y :: .long x :: S) h = rn 239 32 [l0, l1, l2] (.long (x + y) :: S) h) ∧
  (∀ (l0 l1 l2 : Value) (x : Int64) (h : zH), rn 239 32 [l0, l1, l2] [.long x] h = some (some (.long x), h)) := ⟨fun _ _ _ _ _ => r_aload_nr (show zdec 239 0 = some (.aload_n 0, 1) by decide +kernel) rfl rfl,
  fun _ _ _ _ _ => r_iload_n (show zdec 239 1 = some (.iload_n 1, 1) by decide +kernel) rfl rfl,
  fun _ _ _ _ _ => r_iconst (show zdec 239 2 = some (.iconst 2, 1) by decide +kernel) rfl rfl,
  fun _ _ _ _ _ => r_iload_n (show zdec 239 3 = some (.iload_n 2, 1) by decide +kernel) rfl rfl,
  fun _ _ _ _ _ _ _ => r_iadd (show zdec 239 4 = some (.iadd, 1) by decide +kernel) rfl,
  fun _ _ _ _ _ _ _ _ => r_cV [_, _] rfl (show zdec 239 5 = some (.invokevirtual 85, 3) by decide +kernel) (show zst.lookup (239 * zKEY + 85) = some (1, 226, 2, 12) by decide +kernel) (by decide) rfl,
  fun _ _ _ _ _ => r_aload_nr (show zdec 239 8 = some (.aload_n 0, 1) by decide +kernel) rfl rfl,
  fun _ _ _ _ _ => r_iload_n (show zdec 239 9 = some (.iload_n 1, 1) by decide +kernel) rfl rfl,
  fun _ _ _ _ _ => r_bipush (show zdec 239 10 = some (.bipush 14, 2) by decide +kernel) rfl rfl,
  fun _ _ _ _ _ => r_iload_n (show zdec 239 12 = some (.iload_n 2, 1) by decide +kernel) rfl rfl,
  fun _ _ _ _ _ _ _ => r_iadd (show zdec 239 13 = some (.iadd, 1) by decide +kernel) rfl,
  fun _ _ _ _ _ _ _ _ => r_cV [_, _] rfl (show zdec 239 14 = some (.invokevirtual 85, 3) by decide +kernel) (show zst.lookup (239 * zKEY + 85) = some (1, 226, 2, 12) by decide +kernel) (by decide) rfl,
  fun _ _ _ _ _ _ _ => r_lmul (show zdec 239 17 = some (.lmul, 1) by decide +kernel) rfl,
  fun _ _ _ _ _ => r_ldc2 (show zdec 239 18 = some (.ldc2_w 43, 3) by decide +kernel) (show zlt.lookup (239 * zKEY + 43) = some 30 by decide +kernel) rfl,
  fun _ _ _ _ _ _ _ => r_ldiv (show zdec 239 21 = some (.ldiv, 1) by decide +kernel) rfl,
  fun _ _ _ _ _ => r_aload_nr (show zdec 239 22 = some (.aload_n 0, 1) by decide +kernel) rfl rfl,
  fun _ _ _ _ _ => r_iload_n (show zdec 239 23 = some (.iload_n 1, 1) by decide +kernel) rfl rfl,
  fun _ _ _ _ _ => r_bipush (show zdec 239 24 = some (.bipush 26, 2) by decide +kernel) rfl rfl,
  fun _ _ _ _ _ => r_iload_n (show zdec 239 26 = some (.iload_n 2, 1) by decide +kernel) rfl rfl,
  fun _ _ _ _ _ _ _ => r_iadd (show zdec 239 27 = some (.iadd, 1) by decide +kernel) rfl,
  fun _ _ _ _ _ _ _ _ => r_cV [_, _] rfl (show zdec 239 28 = some (.invokevirtual 85, 3) by decide +kernel) (show zst.lookup (239 * zKEY + 85) = some (1, 226, 2, 12) by decide +kernel) (by decide) rfl,
  fun _ _ _ _ _ _ _ => r_ladd (show zdec 239 31 = some (.ladd, 1) by decide +kernel) rfl,
  fun _ _ _ _ _ => r_lret (show zdec 239 32 = some (.lreturn, 1) by decide +kernel) (by decide +kernel)⟩
theorem ze_239 : ∀ (a0 : Nat) (a1 : Int32) (a2 : Int32) (h : zH), ev 239 [.ref a0, .int a1, .int a2] h = rn 239 0 [.ref a0, .int a1, .int a2] [] h := fun _ _ _ _ => if_pos (Nat.le_of_ble_eq_true rfl)
-- Model.sumOf
theorem zr_238 : (∀ (l0 l1 l2 l3 l4 l5 : Value) (S : List Value) (h : zH), rn 238 0 [l0, l1, l2, l3, l4, l5] S h = rn 238 1 [l0, l1, l2, l3, l4, l5] (.long 0 :: S) h) ∧
  (∀ (l0 l1 l2 l3 l4 l5 : Value) (x : Int64) (S : List Value) (h : zH), rn 238 1 [l0, l1, l2, l3, l4, l5] (.long x :: S) h = nl l2 (rn 238 2 [l0, l1, l2, .long x, .float 0, l5] S h)) ∧
  (∀ (l0 l1 l2 l3 l4 l5 : Value) (S : List Value) (h : zH), rn 238 2 [l0, l1, l2, l3, l4, l5] S h = rn 238 3 [l0, l1, l2, l3, l4, l5] (.int (nI 0) :: S) h) ∧
  (∀ (l0 l1 l2 l3 l4 l5 : Value) (x : Int32) (S : List Value) (h : zH), rn 238 3 [l0, l1, l2, l3, l4, l5] (.int x :: S) h = nl l4 (rn 238 5 [l0, l1, l2, l3, l4, .int x] S h)) ∧
  (∀ (l0 l1 l3 l4 l5 : Value) (x : Int32) (S : List Value) (h : zH), rn 238 7 [l0, l1, .int x, l3, l4, l5] S h = rn 238 8 [l0, l1, .int x, l3, l4, l5] (.int x :: S) h) ∧
  (∀ (l0 l1 l2 l3 l4 l5 : Value) (x : Int32) (y : Int32) (S : List Value) (h : zH), rn 238 8 [l0, l1, l2, l3, l4, l5] (.int y :: .int x :: S) h = if y ≤ x then rn 238 27 [l0, l1, l2, l3, l4, l5] S h else rn 238 11 [l0, l1, l2, l3, l4, l5] S h) ∧
  (∀ (l0 l1 l2 l4 l5 : Value) (x : Int64) (S : List Value) (h : zH), rn 238 11 [l0, l1, l2, .long x, l4, l5] S h = rn 238 12 [l0, l1, l2, .long x, l4, l5] (.long x :: S) h) ∧
  (∀ (l1 l2 l3 l4 l5 : Value) (x : Nat) (S : List Value) (h : zH), rn 238 12 [.ref x, l1, l2, l3, l4, l5] S h = rn 238 13 [.ref x, l1, l2, l3, l4, l5] (.ref x :: S) h) ∧
  (∀ (l0 l2 l3 l4 l5 : Value) (x : Int32) (S : List Value) (h : zH), rn 238 13 [l0, .int x, l2, l3, l4, l5] S h = rn 238 14 [l0, .int x, l2, l3, l4, l5] (.int x :: S) h) ∧
  (∀ (l0 l1 l2 l3 l4 : Value) (x : Int32) (S : List Value) (h : zH), rn 238 14 [l0, l1, l2, l3, l4, .int x] S h = rn 238 16 [l0, l1, l2, l3, l4, .int x] (.int x :: S) h) ∧
  (∀ (l0 l1 l2 l3 l4 l5 : Value) (o : Nat) (v0 : Value) (v1 : Value) (S : List Value) (h : zH), rn 238 16 [l0, l1, l2, l3, l4, l5] (v1 :: v0 :: .ref o :: S) h = if zkd h o = 12 ∧ zsum S ≤ 8 then zcall (ev 239 [.ref o, v0, v1] h) (fun v h => rn 238 19 [l0, l1, l2, l3, l4, l5] (zpush v S) h) else none) ∧
  (∀ (l0 l1 l2 l3 l4 l5 : Value) (x : Int64) (y : Int64) (S : List Value) (h : zH), rn 238 19 [l0, l1, l2, l3, l4, l5] (.long y :: .long x :: S) h = rn 238 20 [l0, l1, l2, l3, l4, l5] (.long (x + y) :: S) h) ∧
  (∀ (l0 l1 l2 l3 l4 l5 : Value) (x : Int64) (S : List Value) (h : zH), rn 238 20 [l0, l1, l2, l3, l4, l5] (.long x :: S) h = nl l2 (rn 238 21 [l0, l1, l2, .long x, .float 0, l5] S h)) ∧
  (∀ (l0 l1 l2 l3 l4 : Value) (x : Int32) (S : List Value) (h : zH), rn 238 21 [l0, l1, l2, l3, l4, .int x] S h = nl l4 (rn 238 24 [l0, l1, l2, l3, l4, .int (x + (nI 1))] S h)) ∧
  (∀ (l0 l1 l2 l3 l4 l5 : Value) (S : List Value) (h : zH), rn 238 24 [l0, l1, l2, l3, l4, l5] S h = rn 238 5 [l0, l1, l2, l3, l4, l5] S h) ∧
  (∀ (l0 l1 l2 l4 l5 : Value) (x : Int64) (S : List Value) (h : zH), rn 238 27 [l0, l1, l2, .long x, l4, l5] S h = rn 238 28 [l0, l1, l2, .long x, l4, l5] (.long x :: S) h) ∧
  (∀ (l0 l1 l2 l3 l4 l5 : Value) (x : Int64) (h : zH), rn 238 28 [l0, l1, l2, l3, l4, l5] [.long x] h = some (some (.long x), h)) := ⟨fun _ _ _ _ _ _ _ _ => r_lconst (show zdec 238 0 = some (.lconst 0, 1) by decide +kernel) rfl rfl,
  fun _ _ _ _ _ _ _ _ _ => r_lstore_n (show zdec 238 1 = some (.lstore_n 3, 1) by decide +kernel) rfl rfl (Nat.le_of_ble_eq_true rfl) rfl rfl,
  fun _ _ _ _ _ _ _ _ => r_iconst (show zdec 238 2 = some (.iconst 0, 1) by decide +kernel) rfl rfl,
  fun _ _ _ _ _ _ _ _ _ => r_istore (show zdec 238 3 = some (.istore 5, 2) by decide +kernel) rfl (Nat.le_of_ble_eq_true rfl) rfl rfl,
  fun _ _ _ _ _ _ _ _ => r_iload_n (show zdec 238 7 = some (.iload_n 2, 1) by decide +kernel) rfl rfl,
  fun _ _ _ _ _ _ _ _ _ _ => r_icmpge (show zdec 238 8 = some (.if_icmp .ge 19, 3) by decide +kernel) rfl rfl,
  fun _ _ _ _ _ _ _ _ => r_lload_n (show zdec 238 11 = some (.lload_n 3, 1) by decide +kernel) rfl rfl,
  fun _ _ _ _ _ _ _ _ => r_aload_nr (show zdec 238 12 = some (.aload_n 0, 1) by decide +kernel) rfl rfl,
  fun _ _ _ _ _ _ _ _ => r_iload_n (show zdec 238 13 = some (.iload_n 1, 1) by decide +kernel) rfl rfl,
  fun _ _ _ _ _ _ _ _ => r_iload (show zdec 238 14 = some (.iload 5, 2) by decide +kernel) rfl rfl,
  fun _ _ _ _ _ _ _ _ _ _ _ => r_cV [_, _] rfl (show zdec 238 16 = some (.invokevirtual 103, 3) by decide +kernel) (show zst.lookup (238 * zKEY + 103) = some (1, 239, 2, 12) by decide +kernel) (by decide) rfl,
  fun _ _ _ _ _ _ _ _ _ _ => r_ladd (show zdec 238 19 = some (.ladd, 1) by decide +kernel) rfl,
  fun _ _ _ _ _ _ _ _ _ => r_lstore_n (show zdec 238 20 = some (.lstore_n 3, 1) by decide +kernel) rfl rfl (Nat.le_of_ble_eq_true rfl) rfl rfl,
  fun _ _ _ _ _ _ _ _ => r_iinc (show zdec 238 21 = some (.iinc 5 1, 3) by decide +kernel) rfl rfl rfl (Nat.le_of_ble_eq_true rfl) rfl rfl,
  fun _ _ _ _ _ _ _ _ => r_goto (show zdec 238 24 = some (.goto (-19), 3) by decide +kernel) rfl,
  fun _ _ _ _ _ _ _ _ => r_lload_n (show zdec 238 27 = some (.lload_n 3, 1) by decide +kernel) rfl rfl,
  fun _ _ _ _ _ _ _ _ => r_lret (show zdec 238 28 = some (.lreturn, 1) by decide +kernel) (by decide +kernel)⟩
theorem zl_238_5 : ∀ (l0 l1 l2 l3 l4 : Value) (x : Int32) (S : List Value) (h : zH), rn 238 5 [l0, l1, l2, l3, l4, .int x] S h = rn 238 7 [l0, l1, l2, l3, l4, .int x] (.int x :: S) h := fun _ _ _ _ _ _ _ _ => r_iload (show zdec 238 5 = some (.iload 5, 2) by decide +kernel) rfl rfl
theorem ze_238 : ∀ (a0 : Nat) (a1 : Int32) (a2 : Int32) (h : zH), ev 238 [.ref a0, .int a1, .int a2] h = rn 238 0 [.ref a0, .int a1, .int a2, .float 0, .float 0, .float 0] [] h := fun _ _ _ _ => if_pos (Nat.le_of_ble_eq_true rfl)
-- Model.contribution
theorem zr_241 : (∀ (l1 l2 l3 : Value) (x : Nat) (S : List Value) (h : zH), rn 241 0 [.ref x, l1, l2, l3] S h = rn 241 1 [.ref x, l1, l2, l3] (.ref x :: S) h) ∧
  (∀ (l0 l1 l2 l3 : Value) (a : Nat) (S : List Value) (h : zH), rn 241 1 [l0, l1, l2, l3] (.ref a :: S) h = zgf h a 12 0 fun v => rn 241 4 [l0, l1, l2, l3] (v :: S) h) ∧
  (∀ (l0 l1 l2 l3 : Value) (S : List Value) (h : zH), rn 241 4 [l0, l1, l2, l3] S h = rn 241 5 [l0, l1, l2, l3] (.int (nI 3) :: S) h) ∧
  (∀ (l0 l2 l3 : Value) (x : Int32) (S : List Value) (h : zH), rn 241 5 [l0, .int x, l2, l3] S h = rn 241 6 [l0, .int x, l2, l3] (.int x :: S) h) ∧
  (∀ (l0 l1 l2 l3 : Value) (x : Int32) (y : Int32) (S : List Value) (h : zH), rn 241 6 [l0, l1, l2, l3] (.int y :: .int x :: S) h = rn 241 7 [l0, l1, l2, l3] (.int (x + y) :: S) h) ∧
  (∀ (l0 l1 l2 l3 : Value) (a : Nat) (j : Int32) (S : List Value) (h : zH), rn 241 7 [l0, l1, l2, l3] (.int j :: .ref a :: S) h = zlj h a j fun x => rn 241 8 [l0, l1, l2, l3] (.long x :: S) h) ∧
  (∀ (l0 l1 l3 : Value) (x : Int64) (S : List Value) (h : zH), rn 241 8 [l0, l1, .long x, l3] S h = rn 241 9 [l0, l1, .long x, l3] (.long x :: S) h) ∧
  (∀ (l1 l2 l3 : Value) (x : Nat) (S : List Value) (h : zH), rn 241 9 [.ref x, l1, l2, l3] S h = rn 241 10 [.ref x, l1, l2, l3] (.ref x :: S) h) ∧
  (∀ (l0 l1 l2 l3 : Value) (a : Nat) (S : List Value) (h : zH), rn 241 10 [l0, l1, l2, l3] (.ref a :: S) h = zgf h a 12 0 fun v => rn 241 13 [l0, l1, l2, l3] (v :: S) h) ∧
  (∀ (l0 l1 l2 l3 : Value) (S : List Value) (h : zH), rn 241 13 [l0, l1, l2, l3] S h = rn 241 14 [l0, l1, l2, l3] (.int (nI 5) :: S) h) ∧
  (∀ (l0 l2 l3 : Value) (x : Int32) (S : List Value) (h : zH), rn 241 14 [l0, .int x, l2, l3] S h = rn 241 15 [l0, .int x, l2, l3] (.int x :: S) h) ∧
  (∀ (l0 l1 l2 l3 : Value) (x : Int32) (y : Int32) (S : List Value) (h : zH), rn 241 15 [l0, l1, l2, l3] (.int y :: .int x :: S) h = rn 241 16 [l0, l1, l2, l3] (.int (x + y) :: S) h) ∧
  (∀ (l0 l1 l2 l3 : Value) (a : Nat) (j : Int32) (S : List Value) (h : zH), rn 241 16 [l0, l1, l2, l3] (.int j :: .ref a :: S) h = zlj h a j fun x => rn 241 17 [l0, l1, l2, l3] (.long x :: S) h) ∧
  (∀ (l0 l1 l2 l3 : Value) (x : Int64) (y : Int64) (S : List Value) (h : zH), rn 241 17 [l0, l1, l2, l3] (.long y :: .long x :: S) h = if zsum S ≤ 8 then rn 241 20 [l0, l1, l2, l3] (.long (if y < x then y else x) :: S) h else none) ∧
  (∀ (l0 l1 l2 l3 : Value) (x : Int64) (y : Int64) (S : List Value) (h : zH), rn 241 20 [l0, l1, l2, l3] (.long y :: .long x :: S) h = rn 241 21 [l0, l1, l2, l3] (.long (x * y) :: S) h) ∧
  (∀ (l0 l1 l2 l3 : Value) (S : List Value) (h : zH), rn 241 21 [l0, l1, l2, l3] S h = rn 241 24 [l0, l1, l2, l3] (.long (1000) :: S) h) ∧
  (∀ (l0 l1 l2 l3 : Value) (x : Int64) (y : Int64) (S : List Value) (h : zH), rn 241 24 [l0, l1, l2, l3] (.long y :: .long x :: S) h = rn 241 25 [l0, l1, l2, l3] (.long (x * y) :: S) h) ∧
  (∀ (l0 l1 l2 l3 : Value) (x : Int64) (h : zH), rn 241 25 [l0, l1, l2, l3] [.long x] h = some (some (.long x), h)) := ⟨fun _ _ _ _ _ _ => r_aload_nr (show zdec 241 0 = some (.aload_n 0, 1) by decide +kernel) rfl rfl,
  fun _ _ _ _ _ _ _ => r_getfield (show zdec 241 1 = some (.getfield 9, 3) by decide +kernel) (show zft.lookup (241 * zKEY + 9) = some (12, 0) by decide +kernel) rfl,
  fun _ _ _ _ _ _ => r_iconst (show zdec 241 4 = some (.iconst 3, 1) by decide +kernel) rfl rfl,
  fun _ _ _ _ _ _ => r_iload_n (show zdec 241 5 = some (.iload_n 1, 1) by decide +kernel) rfl rfl,
  fun _ _ _ _ _ _ _ _ => r_iadd (show zdec 241 6 = some (.iadd, 1) by decide +kernel) rfl,
  fun _ _ _ _ _ _ _ _ => r_lald (show zdec 241 7 = some (.laload, 1) by decide +kernel) rfl,
  fun _ _ _ _ _ _ => r_lload_n (show zdec 241 8 = some (.lload_n 2, 1) by decide +kernel) rfl rfl,
  fun _ _ _ _ _ _ => r_aload_nr (show zdec 241 9 = some (.aload_n 0, 1) by decide +kernel) rfl rfl,
  fun _ _ _ _ _ _ _ => r_getfield (show zdec 241 10 = some (.getfield 9, 3) by decide +kernel) (show zft.lookup (241 * zKEY + 9) = some (12, 0) by decide +kernel) rfl,
  fun _ _ _ _ _ _ => r_iconst (show zdec 241 13 = some (.iconst 5, 1) by decide +kernel) rfl rfl,
  fun _ _ _ _ _ _ => r_iload_n (show zdec 241 14 = some (.iload_n 1, 1) by decide +kernel) rfl rfl,
  fun _ _ _ _ _ _ _ _ => r_iadd (show zdec 241 15 = some (.iadd, 1) by decide +kernel) rfl,
  fun _ _ _ _ _ _ _ _ => r_lald (show zdec 241 16 = some (.laload, 1) by decide +kernel) rfl,
  fun _ _ _ _ _ _ _ _ => r_cM3 (show zdec 241 17 = some (.invokestatic 106, 3) by decide +kernel) (show zst.lookup (241 * zKEY + 106) = some (9, 72, 2, 3) by decide +kernel) rfl,
  fun _ _ _ _ _ _ _ _ => r_lmul (show zdec 241 20 = some (.lmul, 1) by decide +kernel) rfl,
  fun _ _ _ _ _ _ => r_ldc2 (show zdec 241 21 = some (.ldc2_w 112, 3) by decide +kernel) (show zlt.lookup (241 * zKEY + 112) = some 1000 by decide +kernel) rfl,
  fun _ _ _ _ _ _ _ _ => r_lmul (show zdec 241 24 = some (.lmul, 1) by decide +kernel) rfl,
  fun _ _ _ _ _ _ => r_lret (show zdec 241 25 = some (.lreturn, 1) by decide +kernel) (by decide +kernel)⟩
theorem ze_241 : ∀ (a0 : Nat) (a1 : Int32) (a2 : Int64) (h : zH), ev 241 [.ref a0, .int a1, .long a2] h = rn 241 0 [.ref a0, .int a1, .long a2, .float 0] [] h := fun _ _ _ _ => if_pos (Nat.le_of_ble_eq_true rfl)
-- Model.tax
theorem zr_242 : (∀ (l0 l1 l2 l3 l4 l5 l6 l7 l8 l9 l10 l11 : Value) (S : List Value) (h : zH), rn 242 0 [l0, l1, l2, l3, l4, l5, l6, l7, l8, l9, l10, l11] S h = rn 242 3 [l0, l1, l2, l3, l4, l5, l6, l7, l8, l9, l10, l11] (.long (1000) :: S) h) ∧
  (∀ (l0 l2 l3 l4 l5 l6 l7 l8 l9 l10 l11 : Value) (x : Int64) (S : List Value) (h : zH), rn 242 3 [l0, .long x, l2, l3, l4, l5, l6, l7, l8, l9, l10, l11] S h = rn 242 4 [l0, .long x, l2, l3, l4, l5, l6, l7, l8, l9, l10, l11] (.long x :: S) h) ∧
  (∀ (l0 l1 l2 l3 l4 l5 l6 l7 l8 l9 l10 l11 : Value) (x : Int64) (y : Int64) (S : List Value) (h : zH), rn 242 4 [l0, l1, l2, l3, l4, l5, l6, l7, l8, l9, l10, l11] (.long y :: .long x :: S) h = rn 242 5 [l0, l1, l2, l3, l4, l5, l6, l7, l8, l9, l10, l11] (.long (x * y) :: S) h) ∧
  (∀ (l1 l2 l3 l4 l5 l6 l7 l8 l9 l10 l11 : Value) (x : Nat) (S : List Value) (h : zH), rn 242 5 [.ref x, l1, l2, l3, l4, l5, l6, l7, l8, l9, l10, l11] S h = rn 242 6 [.ref x, l1, l2, l3, l4, l5, l6, l7, l8, l9, l10, l11] (.ref x :: S) h) ∧
  (∀ (l0 l1 l2 l3 l4 l5 l6 l7 l8 l9 l10 l11 : Value) (S : List Value) (h : zH), rn 242 6 [l0, l1, l2, l3, l4, l5, l6, l7, l8, l9, l10, l11] S h = rn 242 7 [l0, l1, l2, l3, l4, l5, l6, l7, l8, l9, l10, l11] (.int (nI 0) :: S) h) ∧
  (∀ (l0 l2 l3 l4 l5 l6 l7 l8 l9 l10 l11 : Value) (x : Int64) (S : List Value) (h : zH), rn 242 7 [l0, .long x, l2, l3, l4, l5, l6, l7, l8, l9, l10, l11] S h = rn 242 8 [l0, .long x, l2, l3, l4, l5, l6, l7, l8, l9, l10, l11] (.long x :: S) h) ∧
  (∀ (l0 l1 l2 l3 l4 l5 l6 l7 l8 l9 l10 l11 : Value) (o : Nat) (v0 : Value) (v1 : Value) (S : List Value) (h : zH), rn 242 8 [l0, l1, l2, l3, l4, l5, l6, l7, l8, l9, l10, l11] (v1 :: v0 :: .ref o :: S) h = if zkd h o = 12 ∧ zsum S ≤ 8 then zcall (ev 241 [.ref o, v0, v1] h) (fun v h => rn 242 11 [l0, l1, l2, l3, l4, l5, l6, l7, l8, l9, l10, l11] (zpush v S) h) else none) ∧
  (∀ (l1 l2 l3 l4 l5 l6 l7 l8 l9 l10 l11 : Value) (x : Nat) (S : List Value) (h : zH), rn 242 11 [.ref x, l1, l2, l3, l4, l5, l6, l7, l8, l9, l10, l11] S h = rn 242 12 [.ref x, l1, l2, l3, l4, l5, l6, l7, l8, l9, l10, l11] (.ref x :: S) h) ∧
  (∀ (l0 l1 l2 l3 l4 l5 l6 l7 l8 l9 l10 l11 : Value) (S : List Value) (h : zH), rn 242 12 [l0, l1, l2, l3, l4, l5, l6, l7, l8, l9, l10, l11] S h = rn 242 13 [l0, l1, l2, l3, l4, l5, l6, l7, l8, l9, l10, l11] (.int (nI 1) :: S) h) ∧
  (∀ (l0 l2 l3 l4 l5 l6 l7 l8 l9 l10 l11 : Value) (x : Int64) (S : List Value) (h : zH), rn 242 13 [l0, .long x, l2, l3, l4, l5, l6, l7, l8, l9, l10, l11] S h = rn 242 14 [l0, .long x, l2, l3, l4, l5, l6, l7, l8, l9, l10, l11] (.long x :: S) h) ∧
  (∀ (l0 l1 l2 l3 l4 l5 l6 l7 l8 l9 l10 l11 : Value) (o : Nat) (v0 : Value) (v1 : Value) (S : List Value) (h : zH), rn 242 14 [l0, l1, l2, l3, l4, l5, l6, l7, l8, l9, l10, l11] (v1 :: v0 :: .ref o :: S) h = if zkd h o = 12 ∧ zsum S ≤ 8 then zcall (ev 241 [.ref o, v0, v1] h) (fun v h => rn 242 17 [l0, l1, l2, l3, l4, l5, l6, l7, l8, l9, l10, l11] (zpush v S) h) else none) ∧
  (∀ (l0 l1 l2 l3 l4 l5 l6 l7 l8 l9 l10 l11 : Value) (x : Int64) (y : Int64) (S : List Value) (h : zH), rn 242 17 [l0, l1, l2, l3, l4, l5, l6, l7, l8, l9, l10, l11] (.long y :: .long x :: S) h = rn 242 18 [l0, l1, l2, l3, l4, l5, l6, l7, l8, l9, l10, l11] (.long (x + y) :: S) h) ∧
  (∀ (l0 l1 l2 l3 l4 l5 l6 l7 l8 l9 l10 l11 : Value) (S : List Value) (h : zH), rn 242 18 [l0, l1, l2, l3, l4, l5, l6, l7, l8, l9, l10, l11] S h = rn 242 21 [l0, l1, l2, l3, l4, l5, l6, l7, l8, l9, l10, l11] (.long (1000) :: S) h) ∧
  (∀ (l0 l1 l2 l3 l4 l5 l6 l7 l8 l9 l10 l11 : Value) (x : Int64) (y : Int64) (S : List Value) (h : zH), rn 242 21 [l0, l1, l2, l3, l4, l5, l6, l7, l8, l9, l10, l11] (.long y :: .long x :: S) h = dvJ y (rn 242 22 [l0, l1, l2, l3, l4, l5, l6, l7, l8, l9, l10, l11] (.long (x / y) :: S) h)) ∧
  (∀ (l0 l1 l2 l3 l4 l5 l6 l7 l8 l9 l10 l11 : Value) (x : Int64) (y : Int64) (S : List Value) (h : zH), rn 242 22 [l0, l1, l2, l3, l4, l5, l6, l7, l8, l9, l10, l11] (.long y :: .long x :: S) h = rn 242 23 [l0, l1, l2, l3, l4, l5, l6, l7, l8, l9, l10, l11] (.long (x - y) :: S) h) ∧
  (∀ (l0 l1 l2 l3 l4 l5 l6 l7 l8 l9 l10 l11 : Value) (x : Int64) (S : List Value) (h : zH), rn 242 23 [l0, l1, l2, l3, l4, l5, l6, l7, l8, l9, l10, l11] (.long x :: S) h = nl l2 (rn 242 24 [l0, l1, l2, .long x, .float 0, l5, l6, l7, l8, l9, l10, l11] S h)) ∧
  (∀ (l0 l1 l2 l3 l4 l5 l6 l7 l8 l9 l10 l11 : Value) (S : List Value) (h : zH), rn 242 24 [l0, l1, l2, l3, l4, l5, l6, l7, l8, l9, l10, l11] S h = rn 242 25 [l0, l1, l2, l3, l4, l5, l6, l7, l8, l9, l10, l11] (.long 0 :: S) h) ∧
  (∀ (l0 l1 l2 l3 l4 l5 l6 l7 l8 l9 l10 l11 : Value) (x : Int64) (S : List Value) (h : zH), rn 242 25 [l0, l1, l2, l3, l4, l5, l6, l7, l8, l9, l10, l11] (.long x :: S) h = nl l4 (rn 242 27 [l0, l1, l2, l3, l4, .long x, .float 0, l7, l8, l9, l10, l11] S h)) ∧
  (∀ (l0 l1 l2 l3 l4 l5 l6 l7 l8 l9 l10 l11 : Value) (S : List Value) (h : zH), rn 242 27 [l0, l1, l2, l3, l4, l5, l6, l7, l8, l9, l10, l11] S h = rn 242 28 [l0, l1, l2, l3, l4, l5, l6, l7, l8, l9, l10, l11] (.int (nI 0) :: S) h) ∧
  (∀ (l0 l1 l2 l3 l4 l5 l6 l7 l8 l9 l10 l11 : Value) (x : Int32) (S : List Value) (h : zH), rn 242 28 [l0, l1, l2, l3, l4, l5, l6, l7, l8, l9, l10, l11] (.int x :: S) h = nl l6 (rn 242 30 [l0, l1, l2, l3, l4, l5, l6, .int x, l8, l9, l10, l11] S h)) ∧
  (∀ (l0 l1 l2 l3 l4 l5 l6 l7 l8 l9 l10 l11 : Value) (x : Int32) (S : List Value) (h : zH), rn 242 32 [l0, l1, l2, l3, l4, l5, l6, l7, l8, l9, l10, l11] (.int x :: S) h = rn 242 33 [l0, l1, l2, l3, l4, l5, l6, l7, l8, l9, l10, l11] (.long x.toInt64 :: S) h) ∧
  (∀ (l1 l2 l3 l4 l5 l6 l7 l8 l9 l10 l11 : Value) (x : Nat) (S : List Value) (h : zH), rn 242 33 [.ref x, l1, l2, l3, l4, l5, l6, l7, l8, l9, l10, l11] S h = rn 242 34 [.ref x, l1, l2, l3, l4, l5, l6, l7, l8, l9, l10, l11] (.ref x :: S) h) ∧
  (∀ (l0 l1 l2 l3 l4 l5 l6 l7 l8 l9 l10 l11 : Value) (a : Nat) (S : List Value) (h : zH), rn 242 34 [l0, l1, l2, l3, l4, l5, l6, l7, l8, l9, l10, l11] (.ref a :: S) h = zgf h a 12 0 fun v => rn 242 37 [l0, l1, l2, l3, l4, l5, l6, l7, l8, l9, l10, l11] (v :: S) h) ∧
  (∀ (l0 l1 l2 l3 l4 l5 l6 l7 l8 l9 l10 l11 : Value) (S : List Value) (h : zH), rn 242 37 [l0, l1, l2, l3, l4, l5, l6, l7, l8, l9, l10, l11] S h = rn 242 39 [l0, l1, l2, l3, l4, l5, l6, l7, l8, l9, l10, l11] (.int (nI 7) :: S) h) ∧
  (∀ (l0 l1 l2 l3 l4 l5 l6 l7 l8 l9 l10 l11 : Value) (a : Nat) (j : Int32) (S : List Value) (h : zH), rn 242 39 [l0, l1, l2, l3, l4, l5, l6, l7, l8, l9, l10, l11] (.int j :: .ref a :: S) h = zlj h a j fun x => rn 242 40 [l0, l1, l2, l3, l4, l5, l6, l7, l8, l9, l10, l11] (.long x :: S) h) ∧
  (∀ (l0 l1 l2 l3 l4 l5 l6 l7 l8 l9 l10 l11 : Value) (x : Int64) (y : Int64) (S : List Value) (h : zH), rn 242 40 [l0, l1, l2, l3, l4, l5, l6, l7, l8, l9, l10, l11] (.long y :: .long x :: S) h = rn 242 41 [l0, l1, l2, l3, l4, l5, l6, l7, l8, l9, l10, l11] (.int (lg_cmp x y) :: S) h) ∧
  (∀ (l0 l1 l2 l3 l4 l5 l6 l7 l8 l9 l10 l11 : Value) (x : Int32) (S : List Value) (h : zH), rn 242 41 [l0, l1, l2, l3, l4, l5, l6, l7, l8, l9, l10, l11] (.int x :: S) h = if nI 0 ≤ x then rn 242 133 [l0, l1, l2, l3, l4, l5, l6, l7, l8, l9, l10, l11] S h else rn 242 44 [l0, l1, l2, l3, l4, l5, l6, l7, l8, l9, l10, l11] S h) ∧
  (∀ (l0 l1 l2 l3 l4 l5 l6 l7 l8 l9 l10 l11 : Value) (S : List Value) (h : zH), rn 242 44 [l0, l1, l2, l3, l4, l5, l6, l7, l8, l9, l10, l11] S h = rn 242 47 [l0, l1, l2, l3, l4, l5, l6, l7, l8, l9, l10, l11] (.long (1000) :: S) h) ∧
  (∀ (l1 l2 l3 l4 l5 l6 l7 l8 l9 l10 l11 : Value) (x : Nat) (S : List Value) (h : zH), rn 242 47 [.ref x, l1, l2, l3, l4, l5, l6, l7, l8, l9, l10, l11] S h = rn 242 48 [.ref x, l1, l2, l3, l4, l5, l6, l7, l8, l9, l10, l11] (.ref x :: S) h) ∧
  (∀ (l0 l1 l2 l3 l4 l5 l6 l7 l8 l9 l10 l11 : Value) (a : Nat) (S : List Value) (h : zH), rn 242 48 [l0, l1, l2, l3, l4, l5, l6, l7, l8, l9, l10, l11] (.ref a :: S) h = zgf h a 12 0 fun v => rn 242 51 [l0, l1, l2, l3, l4, l5, l6, l7, l8, l9, l10, l11] (v :: S) h) ∧
  (∀ (l0 l1 l2 l3 l4 l5 l6 l7 l8 l9 l10 l11 : Value) (S : List Value) (h : zH), rn 242 51 [l0, l1, l2, l3, l4, l5, l6, l7, l8, l9, l10, l11] S h = rn 242 53 [l0, l1, l2, l3, l4, l5, l6, l7, l8, l9, l10, l11] (.int (nI 8) :: S) h) ∧
  (∀ (l0 l1 l2 l3 l4 l5 l6 l8 l9 l10 l11 : Value) (x : Int32) (S : List Value) (h : zH), rn 242 53 [l0, l1, l2, l3, l4, l5, l6, .int x, l8, l9, l10, l11] S h = rn 242 55 [l0, l1, l2, l3, l4, l5, l6, .int x, l8, l9, l10, l11] (.int x :: S) h) ∧
  (∀ (l0 l1 l2 l3 l4 l5 l6 l7 l8 l9 l10 l11 : Value) (x : Int32) (y : Int32) (S : List Value) (h : zH), rn 242 55 [l0, l1, l2, l3, l4, l5, l6, l7, l8, l9, l10, l11] (.int y :: .int x :: S) h = rn 242 56 [l0, l1, l2, l3, l4, l5, l6, l7, l8, l9, l10, l11] (.int (x + y) :: S) h) ∧
  (∀ (l0 l1 l2 l3 l4 l5 l6 l7 l8 l9 l10 l11 : Value) (a : Nat) (j : Int32) (S : List Value) (h : zH), rn 242 56 [l0, l1, l2, l3, l4, l5, l6, l7, l8, l9, l10, l11] (.int j :: .ref a :: S) h = zlj h a j fun x => rn 242 57 [l0, l1, l2, l3, l4, l5, l6, l7, l8, l9, l10, l11] (.long x :: S) h) ∧
  (∀ (l0 l1 l2 l3 l4 l5 l6 l7 l8 l9 l10 l11 : Value) (x : Int64) (y : Int64) (S : List Value) (h : zH), rn 242 57 [l0, l1, l2, l3, l4, l5, l6, l7, l8, l9, l10, l11] (.long y :: .long x :: S) h = rn 242 58 [l0, l1, l2, l3, l4, l5, l6, l7, l8, l9, l10, l11] (.long (x * y) :: S) h) ∧
  (∀ (l0 l1 l2 l3 l4 l5 l6 l7 l8 l9 l10 l11 : Value) (x : Int64) (S : List Value) (h : zH), rn 242 58 [l0, l1, l2, l3, l4, l5, l6, l7, l8, l9, l10, l11] (.long x :: S) h = nl l7 (rn 242 60 [l0, l1, l2, l3, l4, l5, l6, l7, .long x, .float 0, l10, l11] S h)) ∧
  (∀ (l0 l1 l2 l3 l4 l5 l6 l8 l9 l10 l11 : Value) (x : Int32) (S : List Value) (h : zH), rn 242 60 [l0, l1, l2, l3, l4, l5, l6, .int x, l8, l9, l10, l11] S h = rn 242 62 [l0, l1, l2, l3, l4, l5, l6, .int x, l8, l9, l10, l11] (.int x :: S) h) ∧
  (∀ (l0 l1 l2 l3 l4 l5 l6 l7 l8 l9 l10 l11 : Value) (S : List Value) (h : zH), rn 242 62 [l0, l1, l2, l3, l4, l5, l6, l7, l8, l9, l10, l11] S h = rn 242 63 [l0, l1, l2, l3, l4, l5, l6, l7, l8, l9, l10, l11] (.int (nI 1) :: S) h) ∧
  (∀ (l0 l1 l2 l3 l4 l5 l6 l7 l8 l9 l10 l11 : Value) (x : Int32) (y : Int32) (S : List Value) (h : zH), rn 242 63 [l0, l1, l2, l3, l4, l5, l6, l7, l8, l9, l10, l11] (.int y :: .int x :: S) h = rn 242 64 [l0, l1, l2, l3, l4, l5, l6, l7, l8, l9, l10, l11] (.int (x + y) :: S) h) ∧
  (∀ (l0 l1 l2 l3 l4 l5 l6 l7 l8 l9 l10 l11 : Value) (x : Int32) (S : List Value) (h : zH), rn 242 64 [l0, l1, l2, l3, l4, l5, l6, l7, l8, l9, l10, l11] (.int x :: S) h = rn 242 65 [l0, l1, l2, l3, l4, l5, l6, l7, l8, l9, l10, l11] (.long x.toInt64 :: S) h) ∧
  (∀ (l1 l2 l3 l4 l5 l6 l7 l8 l9 l10 l11 : Value) (x : Nat) (S : List Value) (h : zH), rn 242 65 [.ref x, l1, l2, l3, l4, l5, l6, l7, l8, l9, l10, l11] S h = rn 242 66 [.ref x, l1, l2, l3, l4, l5, l6, l7, l8, l9, l10, l11] (.ref x :: S) h) ∧
  (∀ (l0 l1 l2 l3 l4 l5 l6 l7 l8 l9 l10 l11 : Value) (a : Nat) (S : List Value) (h : zH), rn 242 66 [l0, l1, l2, l3, l4, l5, l6, l7, l8, l9, l10, l11] (.ref a :: S) h = zgf h a 12 0 fun v => rn 242 69 [l0, l1, l2, l3, l4, l5, l6, l7, l8, l9, l10, l11] (v :: S) h) ∧
  (∀ (l0 l1 l2 l3 l4 l5 l6 l7 l8 l9 l10 l11 : Value) (S : List Value) (h : zH), rn 242 69 [l0, l1, l2, l3, l4, l5, l6, l7, l8, l9, l10, l11] S h = rn 242 71 [l0, l1, l2, l3, l4, l5, l6, l7, l8, l9, l10, l11] (.int (nI 7) :: S) h) ∧
  (∀ (l0 l1 l2 l3 l4 l5 l6 l7 l8 l9 l10 l11 : Value) (a : Nat) (j : Int32) (S : List Value) (h : zH), rn 242 71 [l0, l1, l2, l3, l4, l5, l6, l7, l8, l9, l10, l11] (.int j :: .ref a :: S) h = zlj h a j fun x => rn 242 72 [l0, l1, l2, l3, l4, l5, l6, l7, l8, l9, l10, l11] (.long x :: S) h) ∧
  (∀ (l0 l1 l2 l3 l4 l5 l6 l7 l8 l9 l10 l11 : Value) (x : Int64) (y : Int64) (S : List Value) (h : zH), rn 242 72 [l0, l1, l2, l3, l4, l5, l6, l7, l8, l9, l10, l11] (.long y :: .long x :: S) h = rn 242 73 [l0, l1, l2, l3, l4, l5, l6, l7, l8, l9, l10, l11] (.int (lg_cmp x y) :: S) h) ∧
  (∀ (l0 l1 l2 l3 l4 l5 l6 l7 l8 l9 l10 l11 : Value) (x : Int32) (S : List Value) (h : zH), rn 242 73 [l0, l1, l2, l3, l4, l5, l6, l7, l8, l9, l10, l11] (.int x :: S) h = if nI 0 ≤ x then rn 242 99 [l0, l1, l2, l3, l4, l5, l6, l7, l8, l9, l10, l11] S h else rn 242 76 [l0, l1, l2, l3, l4, l5, l6, l7, l8, l9, l10, l11] S h) ∧
  (∀ (l0 l1 l2 l4 l5 l6 l7 l8 l9 l10 l11 : Value) (x : Int64) (S : List Value) (h : zH), rn 242 76 [l0, l1, l2, .long x, l4, l5, l6, l7, l8, l9, l10, l11] S h = rn 242 77 [l0, l1, l2, .long x, l4, l5, l6, l7, l8, l9, l10, l11] (.long x :: S) h) ∧
  (∀ (l0 l1 l2 l3 l4 l5 l6 l7 l8 l9 l10 l11 : Value) (S : List Value) (h : zH), rn 242 77 [l0, l1, l2, l3, l4, l5, l6, l7, l8, l9, l10, l11] S h = rn 242 80 [l0, l1, l2, l3, l4, l5, l6, l7, l8, l9, l10, l11] (.long (1000) :: S) h) ∧
  (∀ (l1 l2 l3 l4 l5 l6 l7 l8 l9 l10 l11 : Value) (x : Nat) (S : List Value) (h : zH), rn 242 80 [.ref x, l1, l2, l3, l4, l5, l6, l7, l8, l9, l10, l11] S h = rn 242 81 [.ref x, l1, l2, l3, l4, l5, l6, l7, l8, l9, l10, l11] (.ref x :: S) h) ∧
  (∀ (l0 l1 l2 l3 l4 l5 l6 l7 l8 l9 l10 l11 : Value) (a : Nat) (S : List Value) (h : zH), rn 242 81 [l0, l1, l2, l3, l4, l5, l6, l7, l8, l9, l10, l11] (.ref a :: S) h = zgf h a 12 0 fun v => rn 242 84 [l0, l1, l2, l3, l4, l5, l6, l7, l8, l9, l10, l11] (v :: S) h) ∧
  (∀ (l0 l1 l2 l3 l4 l5 l6 l7 l8 l9 l10 l11 : Value) (S : List Value) (h : zH), rn 242 84 [l0, l1, l2, l3, l4, l5, l6, l7, l8, l9, l10, l11] S h = rn 242 86 [l0, l1, l2, l3, l4, l5, l6, l7, l8, l9, l10, l11] (.int (nI 8) :: S) h) ∧
  (∀ (l0 l1 l2 l3 l4 l5 l6 l8 l9 l10 l11 : Value) (x : Int32) (S : List Value) (h : zH), rn 242 86 [l0, l1, l2, l3, l4, l5, l6, .int x, l8, l9, l10, l11] S h = rn 242 88 [l0, l1, l2, l3, l4, l5, l6, .int x, l8, l9, l10, l11] (.int x :: S) h) ∧
  (∀ (l0 l1 l2 l3 l4 l5 l6 l7 l8 l9 l10 l11 : Value) (x : Int32) (y : Int32) (S : List Value) (h : zH), rn 242 88 [l0, l1, l2, l3, l4, l5, l6, l7, l8, l9, l10, l11] (.int y :: .int x :: S) h = rn 242 89 [l0, l1, l2, l3, l4, l5, l6, l7, l8, l9, l10, l11] (.int (x + y) :: S) h) ∧
  (∀ (l0 l1 l2 l3 l4 l5 l6 l7 l8 l9 l10 l11 : Value) (S : List Value) (h : zH), rn 242 89 [l0, l1, l2, l3, l4, l5, l6, l7, l8, l9, l10, l11] S h = rn 242 90 [l0, l1, l2, l3, l4, l5, l6, l7, l8, l9, l10, l11] (.int (nI 1) :: S) h) ∧
  (∀ (l0 l1 l2 l3 l4 l5 l6 l7 l8 l9 l10 l11 : Value) (x : Int32) (y : Int32) (S : List Value) (h : zH), rn 242 90 [l0, l1, l2, l3, l4, l5, l6, l7, l8, l9, l10, l11] (.int y :: .int x :: S) h = rn 242 91 [l0, l1, l2, l3, l4, l5, l6, l7, l8, l9, l10, l11] (.int (x + y) :: S) h) ∧
  (∀ (l0 l1 l2 l3 l4 l5 l6 l7 l8 l9 l10 l11 : Value) (a : Nat) (j : Int32) (S : List Value) (h : zH), rn 242 91 [l0, l1, l2, l3, l4, l5, l6, l7, l8, l9, l10, l11] (.int j :: .ref a :: S) h = zlj h a j fun x => rn 242 92 [l0, l1, l2, l3, l4, l5, l6, l7, l8, l9, l10, l11] (.long x :: S) h) ∧
  (∀ (l0 l1 l2 l3 l4 l5 l6 l7 l8 l9 l10 l11 : Value) (x : Int64) (y : Int64) (S : List Value) (h : zH), rn 242 92 [l0, l1, l2, l3, l4, l5, l6, l7, l8, l9, l10, l11] (.long y :: .long x :: S) h = rn 242 93 [l0, l1, l2, l3, l4, l5, l6, l7, l8, l9, l10, l11] (.long (x * y) :: S) h) ∧
  (∀ (l0 l1 l2 l3 l4 l5 l6 l7 l8 l9 l10 l11 : Value) (x : Int64) (y : Int64) (S : List Value) (h : zH), rn 242 93 [l0, l1, l2, l3, l4, l5, l6, l7, l8, l9, l10, l11] (.long y :: .long x :: S) h = if zsum S ≤ 8 then rn 242 96 [l0, l1, l2, l3, l4, l5, l6, l7, l8, l9, l10, l11] (.long (if y < x then y else x) :: S) h else none) ∧
  (∀ (l0 l1 l2 l3 l4 l5 l6 l7 l8 l9 l10 l11 : Value) (S : List Value) (h : zH), rn 242 96 [l0, l1, l2, l3, l4, l5, l6, l7, l8, l9, l10, l11] S h = rn 242 100 [l0, l1, l2, l3, l4, l5, l6, l7, l8, l9, l10, l11] S h) ∧
  (∀ (l0 l1 l2 l4 l5 l6 l7 l8 l9 l10 l11 : Value) (x : Int64) (S : List Value) (h : zH), rn 242 99 [l0, l1, l2, .long x, l4, l5, l6, l7, l8, l9, l10, l11] S h = rn 242 100 [l0, l1, l2, .long x, l4, l5, l6, l7, l8, l9, l10, l11] (.long x :: S) h) ∧
  (∀ (l0 l1 l2 l3 l4 l5 l6 l7 l8 l9 l10 l11 : Value) (x : Int64) (S : List Value) (h : zH), rn 242 100 [l0, l1, l2, l3, l4, l5, l6, l7, l8, l9, l10, l11] (.long x :: S) h = nl l9 (rn 242 102 [l0, l1, l2, l3, l4, l5, l6, l7, l8, l9, .long x, .float 0] S h)) ∧
  (∀ (l0 l1 l2 l3 l4 l6 l7 l8 l9 l10 l11 : Value) (x : Int64) (S : List Value) (h : zH), rn 242 102 [l0, l1, l2, l3, l4, .long x, l6, l7, l8, l9, l10, l11] S h = rn 242 104 [l0, l1, l2, l3, l4, .long x, l6, l7, l8, l9, l10, l11] (.long x :: S) h) ∧
  (∀ (l1 l2 l3 l4 l5 l6 l7 l8 l9 l10 l11 : Value) (x : Nat) (S : List Value) (h : zH), rn 242 104 [.ref x, l1, l2, l3, l4, l5, l6, l7, l8, l9, l10, l11] S h = rn 242 105 [.ref x, l1, l2, l3, l4, l5, l6, l7, l8, l9, l10, l11] (.ref x :: S) h) ∧
  (∀ (l0 l1 l2 l3 l4 l5 l6 l7 l8 l9 l10 l11 : Value) (a : Nat) (S : List Value) (h : zH), rn 242 105 [l0, l1, l2, l3, l4, l5, l6, l7, l8, l9, l10, l11] (.ref a :: S) h = zgf h a 12 0 fun v => rn 242 108 [l0, l1, l2, l3, l4, l5, l6, l7, l8, l9, l10, l11] (v :: S) h) ∧
  (∀ (l0 l1 l2 l3 l4 l5 l6 l7 l8 l9 l10 l11 : Value) (S : List Value) (h : zH), rn 242 108 [l0, l1, l2, l3, l4, l5, l6, l7, l8, l9, l10, l11] S h = rn 242 110 [l0, l1, l2, l3, l4, l5, l6, l7, l8, l9, l10, l11] (.int (nI 13) :: S) h) ∧
  (∀ (l0 l1 l2 l3 l4 l5 l6 l8 l9 l10 l11 : Value) (x : Int32) (S : List Value) (h : zH), rn 242 110 [l0, l1, l2, l3, l4, l5, l6, .int x, l8, l9, l10, l11] S h = rn 242 112 [l0, l1, l2, l3, l4, l5, l6, .int x, l8, l9, l10, l11] (.int x :: S) h) ∧
  (∀ (l0 l1 l2 l3 l4 l5 l6 l7 l8 l9 l10 l11 : Value) (x : Int32) (y : Int32) (S : List Value) (h : zH), rn 242 112 [l0, l1, l2, l3, l4, l5, l6, l7, l8, l9, l10, l11] (.int y :: .int x :: S) h = rn 242 113 [l0, l1, l2, l3, l4, l5, l6, l7, l8, l9, l10, l11] (.int (x + y) :: S) h) ∧
  (∀ (l0 l1 l2 l3 l4 l5 l6 l7 l8 l9 l10 l11 : Value) (a : Nat) (j : Int32) (S : List Value) (h : zH), rn 242 113 [l0, l1, l2, l3, l4, l5, l6, l7, l8, l9, l10, l11] (.int j :: .ref a :: S) h = zlj h a j fun x => rn 242 114 [l0, l1, l2, l3, l4, l5, l6, l7, l8, l9, l10, l11] (.long x :: S) h) ∧
  (∀ (l0 l1 l2 l3 l4 l5 l6 l7 l8 l9 l10 l11 : Value) (S : List Value) (h : zH), rn 242 114 [l0, l1, l2, l3, l4, l5, l6, l7, l8, l9, l10, l11] S h = rn 242 115 [l0, l1, l2, l3, l4, l5, l6, l7, l8, l9, l10, l11] (.long 0 :: S) h) ∧
  (∀ (l0 l1 l2 l3 l4 l5 l6 l7 l8 l9 l11 : Value) (x : Int64) (S : List Value) (h : zH), rn 242 115 [l0, l1, l2, l3, l4, l5, l6, l7, l8, l9, .long x, l11] S h = rn 242 117 [l0, l1, l2, l3, l4, l5, l6, l7, l8, l9, .long x, l11] (.long x :: S) h) ∧
  (∀ (l0 l1 l2 l3 l4 l5 l6 l7 l9 l10 l11 : Value) (x : Int64) (S : List Value) (h : zH), rn 242 117 [l0, l1, l2, l3, l4, l5, l6, l7, .long x, l9, l10, l11] S h = rn 242 119 [l0, l1, l2, l3, l4, l5, l6, l7, .long x, l9, l10, l11] (.long x :: S) h) ∧
  (∀ (l0 l1 l2 l3 l4 l5 l6 l7 l8 l9 l10 l11 : Value) (x : Int64) (y : Int64) (S : List Value) (h : zH), rn 242 119 [l0, l1, l2, l3, l4, l5, l6, l7, l8, l9, l10, l11] (.long y :: .long x :: S) h = rn 242 120 [l0, l1, l2, l3, l4, l5, l6, l7, l8, l9, l10, l11] (.long (x - y) :: S) h) ∧
  (∀ (l0 l1 l2 l3 l4 l5 l6 l7 l8 l9 l10 l11 : Value) (x : Int64) (y : Int64) (S : List Value) (h : zH), rn 242 120 [l0, l1, l2, l3, l4, l5, l6, l7, l8, l9, l10, l11] (.long y :: .long x :: S) h = if zsum S ≤ 8 then rn 242 123 [l0, l1, l2, l3, l4, l5, l6, l7, l8, l9, l10, l11] (.long (if y < x then x else y) :: S) h else none) ∧
  (∀ (l0 l1 l2 l3 l4 l5 l6 l7 l8 l9 l10 l11 : Value) (x : Int64) (y : Int64) (S : List Value) (h : zH), rn 242 123 [l0, l1, l2, l3, l4, l5, l6, l7, l8, l9, l10, l11] (.long y :: .long x :: S) h = rn 242 124 [l0, l1, l2, l3, l4, l5, l6, l7, l8, l9, l10, l11] (.long (x * y) :: S) h) ∧
  (∀ (l0 l1 l2 l3 l4 l5 l6 l7 l8 l9 l10 l11 : Value) (x : Int64) (y : Int64) (S : List Value) (h : zH), rn 242 124 [l0, l1, l2, l3, l4, l5, l6, l7, l8, l9, l10, l11] (.long y :: .long x :: S) h = rn 242 125 [l0, l1, l2, l3, l4, l5, l6, l7, l8, l9, l10, l11] (.long (x + y) :: S) h) ∧
  (∀ (l0 l1 l2 l3 l4 l5 l6 l7 l8 l9 l10 l11 : Value) (x : Int64) (S : List Value) (h : zH), rn 242 125 [l0, l1, l2, l3, l4, l5, l6, l7, l8, l9, l10, l11] (.long x :: S) h = nl l4 (rn 242 127 [l0, l1, l2, l3, l4, .long x, .float 0, l7, l8, l9, l10, l11] S h)) ∧
  (∀ (l0 l1 l2 l3 l4 l5 l6 l8 l9 l10 l11 : Value) (x : Int32) (S : List Value) (h : zH), rn 242 127 [l0, l1, l2, l3, l4, l5, l6, .int x, l8, l9, l10, l11] S h = nl l6 (rn 242 130 [l0, l1, l2, l3, l4, l5, l6, .int (x + (nI 1)), l8, l9, l10, l11] S h)) ∧
  (∀ (l0 l1 l2 l3 l4 l5 l6 l7 l8 l9 l10 l11 : Value) (S : List Value) (h : zH), rn 242 130 [l0, l1, l2, l3, l4, l5, l6, l7, l8, l9, l10, l11] S h = rn 242 30 [l0, l1, l2, l3, l4, l5, l6, l7, l8, l9, l10, l11] S h) ∧
  (∀ (l0 l1 l2 l3 l4 l6 l7 l8 l9 l10 l11 : Value) (x : Int64) (S : List Value) (h : zH), rn 242 133 [l0, l1, l2, l3, l4, .long x, l6, l7, l8, l9, l10, l11] S h = rn 242 135 [l0, l1, l2, l3, l4, .long x, l6, l7, l8, l9, l10, l11] (.long x :: S) h) ∧
  (∀ (l0 l1 l2 l3 l4 l5 l6 l7 l8 l9 l10 l11 : Value) (x : Int64) (h : zH), rn 242 135 [l0, l1, l2, l3, l4, l5, l6, l7, l8, l9, l10, l11] [.long x] h = some (some (.long x), h)) := ⟨fun _ _ _ _ _ _ _ _ _ _ _ _ _ _ => r_ldc2 (show zdec 242 0 = some (.ldc2_w 112, 3) by decide +kernel) (show zlt.lookup (242 * zKEY + 112) = some 1000 by decide +kernel) rfl,
  fun _ _ _ _ _ _ _ _ _ _ _ _ _ _ => r_lload_n (show zdec 242 3 = some (.lload_n 1, 1) by decide +kernel) rfl rfl,
  fun _ _ _ _ _ _ _ _ _ _ _ _ _ _ _ _ => r_lmul (show zdec 242 4 = some (.lmul, 1) by decide +kernel) rfl,
  fun _ _ _ _ _ _ _ _ _ _ _ _ _ _ => r_aload_nr (show zdec 242 5 = some (.aload_n 0, 1) by decide +kernel) rfl rfl,
  fun _ _ _ _ _ _ _ _ _ _ _ _ _ _ => r_iconst (show zdec 242 6 = some (.iconst 0, 1) by decide +kernel) rfl rfl,
  fun _ _ _ _ _ _ _ _ _ _ _ _ _ _ => r_lload_n (show zdec 242 7 = some (.lload_n 1, 1) by decide +kernel) rfl rfl,
  fun _ _ _ _ _ _ _ _ _ _ _ _ _ _ _ _ _ => r_cV [_, _] rfl (show zdec 242 8 = some (.invokevirtual 114, 3) by decide +kernel) (show zst.lookup (242 * zKEY + 114) = some (1, 241, 2, 12) by decide +kernel) (by decide) rfl,
  fun _ _ _ _ _ _ _ _ _ _ _ _ _ _ => r_aload_nr (show zdec 242 11 = some (.aload_n 0, 1) by decide +kernel) rfl rfl,
  fun _ _ _ _ _ _ _ _ _ _ _ _ _ _ => r_iconst (show zdec 242 12 = some (.iconst 1, 1) by decide +kernel) rfl rfl,
  fun _ _ _ _ _ _ _ _ _ _ _ _ _ _ => r_lload_n (show zdec 242 13 = some (.lload_n 1, 1) by decide +kernel) rfl rfl,
  fun _ _ _ _ _ _ _ _ _ _ _ _ _ _ _ _ _ => r_cV [_, _] rfl (show zdec 242 14 = some (.invokevirtual 114, 3) by decide +kernel) (show zst.lookup (242 * zKEY + 114) = some (1, 241, 2, 12) by decide +kernel) (by decide) rfl,
  fun _ _ _ _ _ _ _ _ _ _ _ _ _ _ _ _ => r_ladd (show zdec 242 17 = some (.ladd, 1) by decide +kernel) rfl,
  fun _ _ _ _ _ _ _ _ _ _ _ _ _ _ => r_ldc2 (show zdec 242 18 = some (.ldc2_w 112, 3) by decide +kernel) (show zlt.lookup (242 * zKEY + 112) = some 1000 by decide +kernel) rfl,
  fun _ _ _ _ _ _ _ _ _ _ _ _ _ _ _ _ => r_ldiv (show zdec 242 21 = some (.ldiv, 1) by decide +kernel) rfl,
  fun _ _ _ _ _ _ _ _ _ _ _ _ _ _ _ _ => r_lsub (show zdec 242 22 = some (.lsub, 1) by decide +kernel) rfl,
  fun _ _ _ _ _ _ _ _ _ _ _ _ _ _ _ => r_lstore_n (show zdec 242 23 = some (.lstore_n 3, 1) by decide +kernel) rfl rfl (Nat.le_of_ble_eq_true rfl) rfl rfl,
  fun _ _ _ _ _ _ _ _ _ _ _ _ _ _ => r_lconst (show zdec 242 24 = some (.lconst 0, 1) by decide +kernel) rfl rfl,
  fun _ _ _ _ _ _ _ _ _ _ _ _ _ _ _ => r_lstore (show zdec 242 25 = some (.lstore 5, 2) by decide +kernel) rfl (Nat.le_of_ble_eq_true rfl) rfl rfl,
  fun _ _ _ _ _ _ _ _ _ _ _ _ _ _ => r_iconst (show zdec 242 27 = some (.iconst 0, 1) by decide +kernel) rfl rfl,
  fun _ _ _ _ _ _ _ _ _ _ _ _ _ _ _ => r_istore (show zdec 242 28 = some (.istore 7, 2) by decide +kernel) rfl (Nat.le_of_ble_eq_true rfl) rfl rfl,
  fun _ _ _ _ _ _ _ _ _ _ _ _ _ _ _ => r_i2l (show zdec 242 32 = some (.i2l, 1) by decide +kernel) rfl,
  fun _ _ _ _ _ _ _ _ _ _ _ _ _ _ => r_aload_nr (show zdec 242 33 = some (.aload_n 0, 1) by decide +kernel) rfl rfl,
  fun _ _ _ _ _ _ _ _ _ _ _ _ _ _ _ => r_getfield (show zdec 242 34 = some (.getfield 9, 3) by decide +kernel) (show zft.lookup (242 * zKEY + 9) = some (12, 0) by decide +kernel) rfl,
  fun _ _ _ _ _ _ _ _ _ _ _ _ _ _ => r_bipush (show zdec 242 37 = some (.bipush 7, 2) by decide +kernel) rfl rfl,
  fun _ _ _ _ _ _ _ _ _ _ _ _ _ _ _ _ => r_lald (show zdec 242 39 = some (.laload, 1) by decide +kernel) rfl,
  fun _ _ _ _ _ _ _ _ _ _ _ _ _ _ _ _ => r_lcmp (show zdec 242 40 = some (.lcmp, 1) by decide +kernel) rfl,
  fun _ _ _ _ _ _ _ _ _ _ _ _ _ _ _ => r_ifge (show zdec 242 41 = some (.ifCond .ge 92, 3) by decide +kernel) rfl rfl,
  fun _ _ _ _ _ _ _ _ _ _ _ _ _ _ => r_ldc2 (show zdec 242 44 = some (.ldc2_w 112, 3) by decide +kernel) (show zlt.lookup (242 * zKEY + 112) = some 1000 by decide +kernel) rfl,
  fun _ _ _ _ _ _ _ _ _ _ _ _ _ _ => r_aload_nr (show zdec 242 47 = some (.aload_n 0, 1) by decide +kernel) rfl rfl,
  fun _ _ _ _ _ _ _ _ _ _ _ _ _ _ _ => r_getfield (show zdec 242 48 = some (.getfield 9, 3) by decide +kernel) (show zft.lookup (242 * zKEY + 9) = some (12, 0) by decide +kernel) rfl,
  fun _ _ _ _ _ _ _ _ _ _ _ _ _ _ => r_bipush (show zdec 242 51 = some (.bipush 8, 2) by decide +kernel) rfl rfl,
  fun _ _ _ _ _ _ _ _ _ _ _ _ _ _ => r_iload (show zdec 242 53 = some (.iload 7, 2) by decide +kernel) rfl rfl,
  fun _ _ _ _ _ _ _ _ _ _ _ _ _ _ _ _ => r_iadd (show zdec 242 55 = some (.iadd, 1) by decide +kernel) rfl,
  fun _ _ _ _ _ _ _ _ _ _ _ _ _ _ _ _ => r_lald (show zdec 242 56 = some (.laload, 1) by decide +kernel) rfl,
  fun _ _ _ _ _ _ _ _ _ _ _ _ _ _ _ _ => r_lmul (show zdec 242 57 = some (.lmul, 1) by decide +kernel) rfl,
  fun _ _ _ _ _ _ _ _ _ _ _ _ _ _ _ => r_lstore (show zdec 242 58 = some (.lstore 8, 2) by decide +kernel) rfl (Nat.le_of_ble_eq_true rfl) rfl rfl,
  fun _ _ _ _ _ _ _ _ _ _ _ _ _ _ => r_iload (show zdec 242 60 = some (.iload 7, 2) by decide +kernel) rfl rfl,
  fun _ _ _ _ _ _ _ _ _ _ _ _ _ _ => r_iconst (show zdec 242 62 = some (.iconst 1, 1) by decide +kernel) rfl rfl,
  fun _ _ _ _ _ _ _ _ _ _ _ _ _ _ _ _ => r_iadd (show zdec 242 63 = some (.iadd, 1) by decide +kernel) rfl,
  fun _ _ _ _ _ _ _ _ _ _ _ _ _ _ _ => r_i2l (show zdec 242 64 = some (.i2l, 1) by decide +kernel) rfl,
  fun _ _ _ _ _ _ _ _ _ _ _ _ _ _ => r_aload_nr (show zdec 242 65 = some (.aload_n 0, 1) by decide +kernel) rfl rfl,
  fun _ _ _ _ _ _ _ _ _ _ _ _ _ _ _ => r_getfield (show zdec 242 66 = some (.getfield 9, 3) by decide +kernel) (show zft.lookup (242 * zKEY + 9) = some (12, 0) by decide +kernel) rfl,
  fun _ _ _ _ _ _ _ _ _ _ _ _ _ _ => r_bipush (show zdec 242 69 = some (.bipush 7, 2) by decide +kernel) rfl rfl,
  fun _ _ _ _ _ _ _ _ _ _ _ _ _ _ _ _ => r_lald (show zdec 242 71 = some (.laload, 1) by decide +kernel) rfl,
  fun _ _ _ _ _ _ _ _ _ _ _ _ _ _ _ _ => r_lcmp (show zdec 242 72 = some (.lcmp, 1) by decide +kernel) rfl,
  fun _ _ _ _ _ _ _ _ _ _ _ _ _ _ _ => r_ifge (show zdec 242 73 = some (.ifCond .ge 26, 3) by decide +kernel) rfl rfl,
  fun _ _ _ _ _ _ _ _ _ _ _ _ _ _ => r_lload_n (show zdec 242 76 = some (.lload_n 3, 1) by decide +kernel) rfl rfl,
  fun _ _ _ _ _ _ _ _ _ _ _ _ _ _ => r_ldc2 (show zdec 242 77 = some (.ldc2_w 112, 3) by decide +kernel) (show zlt.lookup (242 * zKEY + 112) = some 1000 by decide +kernel) rfl,
  fun _ _ _ _ _ _ _ _ _ _ _ _ _ _ => r_aload_nr (show zdec 242 80 = some (.aload_n 0, 1) by decide +kernel) rfl rfl,
  fun _ _ _ _ _ _ _ _ _ _ _ _ _ _ _ => r_getfield (show zdec 242 81 = some (.getfield 9, 3) by decide +kernel) (show zft.lookup (242 * zKEY + 9) = some (12, 0) by decide +kernel) rfl,
  fun _ _ _ _ _ _ _ _ _ _ _ _ _ _ => r_bipush (show zdec 242 84 = some (.bipush 8, 2) by decide +kernel) rfl rfl,
  fun _ _ _ _ _ _ _ _ _ _ _ _ _ _ => r_iload (show zdec 242 86 = some (.iload 7, 2) by decide +kernel) rfl rfl,
  fun _ _ _ _ _ _ _ _ _ _ _ _ _ _ _ _ => r_iadd (show zdec 242 88 = some (.iadd, 1) by decide +kernel) rfl,
  fun _ _ _ _ _ _ _ _ _ _ _ _ _ _ => r_iconst (show zdec 242 89 = some (.iconst 1, 1) by decide +kernel) rfl rfl,
  fun _ _ _ _ _ _ _ _ _ _ _ _ _ _ _ _ => r_iadd (show zdec 242 90 = some (.iadd, 1) by decide +kernel) rfl,
  fun _ _ _ _ _ _ _ _ _ _ _ _ _ _ _ _ => r_lald (show zdec 242 91 = some (.laload, 1) by decide +kernel) rfl,
  fun _ _ _ _ _ _ _ _ _ _ _ _ _ _ _ _ => r_lmul (show zdec 242 92 = some (.lmul, 1) by decide +kernel) rfl,
  fun _ _ _ _ _ _ _ _ _ _ _ _ _ _ _ _ => r_cM3 (show zdec 242 93 = some (.invokestatic 106, 3) by decide +kernel) (show zst.lookup (242 * zKEY + 106) = some (9, 72, 2, 3) by decide +kernel) rfl,
  fun _ _ _ _ _ _ _ _ _ _ _ _ _ _ => r_goto (show zdec 242 96 = some (.goto 4, 3) by decide +kernel) rfl,
  fun _ _ _ _ _ _ _ _ _ _ _ _ _ _ => r_lload_n (show zdec 242 99 = some (.lload_n 3, 1) by decide +kernel) rfl rfl,
  fun _ _ _ _ _ _ _ _ _ _ _ _ _ _ _ => r_lstore (show zdec 242 100 = some (.lstore 10, 2) by decide +kernel) rfl (Nat.le_of_ble_eq_true rfl) rfl rfl,
  fun _ _ _ _ _ _ _ _ _ _ _ _ _ _ => r_lload (show zdec 242 102 = some (.lload 5, 2) by decide +kernel) rfl rfl,
  fun _ _ _ _ _ _ _ _ _ _ _ _ _ _ => r_aload_nr (show zdec 242 104 = some (.aload_n 0, 1) by decide +kernel) rfl rfl,
  fun _ _ _ _ _ _ _ _ _ _ _ _ _ _ _ => r_getfield (show zdec 242 105 = some (.getfield 9, 3) by decide +kernel) (show zft.lookup (242 * zKEY + 9) = some (12, 0) by decide +kernel) rfl,
  fun _ _ _ _ _ _ _ _ _ _ _ _ _ _ => r_bipush (show zdec 242 108 = some (.bipush 13, 2) by decide +kernel) rfl rfl,
  fun _ _ _ _ _ _ _ _ _ _ _ _ _ _ => r_iload (show zdec 242 110 = some (.iload 7, 2) by decide +kernel) rfl rfl,
  fun _ _ _ _ _ _ _ _ _ _ _ _ _ _ _ _ => r_iadd (show zdec 242 112 = some (.iadd, 1) by decide +kernel) rfl,
  fun _ _ _ _ _ _ _ _ _ _ _ _ _ _ _ _ => r_lald (show zdec 242 113 = some (.laload, 1) by decide +kernel) rfl,
  fun _ _ _ _ _ _ _ _ _ _ _ _ _ _ => r_lconst (show zdec 242 114 = some (.lconst 0, 1) by decide +kernel) rfl rfl,
  fun _ _ _ _ _ _ _ _ _ _ _ _ _ _ => r_lload (show zdec 242 115 = some (.lload 10, 2) by decide +kernel) rfl rfl,
  fun _ _ _ _ _ _ _ _ _ _ _ _ _ _ => r_lload (show zdec 242 117 = some (.lload 8, 2) by decide +kernel) rfl rfl,
  fun _ _ _ _ _ _ _ _ _ _ _ _ _ _ _ _ => r_lsub (show zdec 242 119 = some (.lsub, 1) by decide +kernel) rfl,
  fun _ _ _ _ _ _ _ _ _ _ _ _ _ _ _ _ => r_cM2 (show zdec 242 120 = some (.invokestatic 118, 3) by decide +kernel) (show zst.lookup (242 * zKEY + 118) = some (9, 73, 2, 2) by decide +kernel) rfl,
  fun _ _ _ _ _ _ _ _ _ _ _ _ _ _ _ _ => r_lmul (show zdec 242 123 = some (.lmul, 1) by decide +kernel) rfl,
  fun _ _ _ _ _ _ _ _ _ _ _ _ _ _ _ _ => r_ladd (show zdec 242 124 = some (.ladd, 1) by decide +kernel) rfl,
  fun _ _ _ _ _ _ _ _ _ _ _ _ _ _ _ => r_lstore (show zdec 242 125 = some (.lstore 5, 2) by decide +kernel) rfl (Nat.le_of_ble_eq_true rfl) rfl rfl,
  fun _ _ _ _ _ _ _ _ _ _ _ _ _ _ => r_iinc (show zdec 242 127 = some (.iinc 7 1, 3) by decide +kernel) rfl rfl rfl (Nat.le_of_ble_eq_true rfl) rfl rfl,
  fun _ _ _ _ _ _ _ _ _ _ _ _ _ _ => r_goto (show zdec 242 130 = some (.goto (-100), 3) by decide +kernel) rfl,
  fun _ _ _ _ _ _ _ _ _ _ _ _ _ _ => r_lload (show zdec 242 133 = some (.lload 5, 2) by decide +kernel) rfl rfl,
  fun _ _ _ _ _ _ _ _ _ _ _ _ _ _ => r_lret (show zdec 242 135 = some (.lreturn, 1) by decide +kernel) (by decide +kernel)⟩
theorem zl_242_30 : ∀ (l0 l1 l2 l3 l4 l5 l6 l8 l9 l10 l11 : Value) (x : Int32) (S : List Value) (h : zH), rn 242 30 [l0, l1, l2, l3, l4, l5, l6, .int x, l8, l9, l10, l11] S h = rn 242 32 [l0, l1, l2, l3, l4, l5, l6, .int x, l8, l9, l10, l11] (.int x :: S) h := fun _ _ _ _ _ _ _ _ _ _ _ _ _ _ => r_iload (show zdec 242 30 = some (.iload 7, 2) by decide +kernel) rfl rfl
theorem ze_242 : ∀ (a0 : Nat) (a1 : Int64) (h : zH), ev 242 [.ref a0, .long a1] h = rn 242 0 [.ref a0, .long a1, .float 0, .float 0, .float 0, .float 0, .float 0, .float 0, .float 0, .float 0, .float 0, .float 0] [] h := fun _ _ _ => if_pos (Nat.le_of_ble_eq_true rfl)
-- Model.amountOn
theorem zr_240 : (∀ (l0 l1 l2 : Value) (x : Int32) (S : List Value) (h : zH), rn 240 0 [l0, l1, l2, .int x] S h = rn 240 1 [l0, l1, l2, .int x] (.int x :: S) h) ∧
  (∀ (l0 l1 l2 l3 : Value) (x : Int32) (S : List Value) (h : zH), rn 240 1 [l0, l1, l2, l3] (.int x :: S) h = if x = nI 0 then rn 240 32 [l0, l1, l2, l3] S h else if x = nI 1 then rn 240 38 [l0, l1, l2, l3] S h else if x = nI 2 then rn 240 38 [l0, l1, l2, l3] S h else if x = nI 3 then rn 240 47 [l0, l1, l2, l3] S h else rn 240 53 [l0, l1, l2, l3] S h) ∧
  (∀ (l0 l2 l3 : Value) (x : Int64) (S : List Value) (h : zH), rn 240 32 [l0, .long x, l2, l3] S h = rn 240 33 [l0, .long x, l2, l3] (.long x :: S) h) ∧
  (∀ (l0 l1 l2 l3 : Value) (S : List Value) (h : zH), rn 240 33 [l0, l1, l2, l3] S h = rn 240 36 [l0, l1, l2, l3] (.long (1000000) :: S) h) ∧
  (∀ (l0 l1 l2 l3 : Value) (x : Int64) (y : Int64) (S : List Value) (h : zH), rn 240 36 [l0, l1, l2, l3] (.long y :: .long x :: S) h = rn 240 37 [l0, l1, l2, l3] (.long (x * y) :: S) h) ∧
  (∀ (l0 l1 l2 l3 : Value) (x : Int64) (h : zH), rn 240 37 [l0, l1, l2, l3] [.long x] h = some (some (.long x), h)) ∧
  (∀ (l1 l2 l3 : Value) (x : Nat) (S : List Value) (h : zH), rn 240 38 [.ref x, l1, l2, l3] S h = rn 240 39 [.ref x, l1, l2, l3] (.ref x :: S) h) ∧
  (∀ (l0 l1 l2 : Value) (x : Int32) (S : List Value) (h : zH), rn 240 39 [l0, l1, l2, .int x] S h = rn 240 40 [l0, l1, l2, .int x] (.int x :: S) h) ∧
  (∀ (l0 l1 l2 l3 : Value) (S : List Value) (h : zH), rn 240 40 [l0, l1, l2, l3] S h = rn 240 41 [l0, l1, l2, l3] (.int (nI 1) :: S) h) ∧
  (∀ (l0 l1 l2 l3 : Value) (x : Int32) (y : Int32) (S : List Value) (h : zH), rn 240 41 [l0, l1, l2, l3] (.int y :: .int x :: S) h = rn 240 42 [l0, l1, l2, l3] (.int (x - y) :: S) h) ∧
  (∀ (l0 l2 l3 : Value) (x : Int64) (S : List Value) (h : zH), rn 240 42 [l0, .long x, l2, l3] S h = rn 240 43 [l0, .long x, l2, l3] (.long x :: S) h) ∧
  (∀ (l0 l1 l2 l3 : Value) (o : Nat) (v0 : Value) (v1 : Value) (S : List Value) (h : zH), rn 240 43 [l0, l1, l2, l3] (v1 :: v0 :: .ref o :: S) h = if zkd h o = 12 ∧ zsum S ≤ 8 then zcall (ev 241 [.ref o, v0, v1] h) (fun v h => rn 240 46 [l0, l1, l2, l3] (zpush v S) h) else none) ∧
  (∀ (l0 l1 l2 l3 : Value) (x : Int64) (h : zH), rn 240 46 [l0, l1, l2, l3] [.long x] h = some (some (.long x), h)) ∧
  (∀ (l1 l2 l3 : Value) (x : Nat) (S : List Value) (h : zH), rn 240 47 [.ref x, l1, l2, l3] S h = rn 240 48 [.ref x, l1, l2, l3] (.ref x :: S) h) ∧
  (∀ (l0 l2 l3 : Value) (x : Int64) (S : List Value) (h : zH), rn 240 48 [l0, .long x, l2, l3] S h = rn 240 49 [l0, .long x, l2, l3] (.long x :: S) h) ∧
  (∀ (l0 l1 l2 l3 : Value) (o : Nat) (v0 : Value) (S : List Value) (h : zH), rn 240 49 [l0, l1, l2, l3] (v0 :: .ref o :: S) h = if zkd h o = 12 ∧ zsum S ≤ 8 then zcall (ev 242 [.ref o, v0] h) (fun v h => rn 240 52 [l0, l1, l2, l3] (zpush v S) h) else none) ∧
  (∀ (l0 l1 l2 l3 : Value) (x : Int64) (h : zH), rn 240 52 [l0, l1, l2, l3] [.long x] h = some (some (.long x), h)) ∧
  (∀ (l0 l2 l3 : Value) (x : Int64) (S : List Value) (h : zH), rn 240 53 [l0, .long x, l2, l3] S h = rn 240 54 [l0, .long x, l2, l3] (.long x :: S) h) ∧
  (∀ (l0 l1 l2 l3 : Value) (S : List Value) (h : zH), rn 240 54 [l0, l1, l2, l3] S h = rn 240 57 [l0, l1, l2, l3] (.long (1000000) :: S) h) ∧
  (∀ (l0 l1 l2 l3 : Value) (x : Int64) (y : Int64) (S : List Value) (h : zH), rn 240 57 [l0, l1, l2, l3] (.long y :: .long x :: S) h = rn 240 58 [l0, l1, l2, l3] (.long (x * y) :: S) h) ∧
  (∀ (l1 l2 l3 : Value) (x : Nat) (S : List Value) (h : zH), rn 240 58 [.ref x, l1, l2, l3] S h = rn 240 59 [.ref x, l1, l2, l3] (.ref x :: S) h) ∧
  (∀ (l0 l1 l2 l3 : Value) (S : List Value) (h : zH), rn 240 59 [l0, l1, l2, l3] S h = rn 240 60 [l0, l1, l2, l3] (.int (nI 0) :: S) h) ∧
  (∀ (l0 l2 l3 : Value) (x : Int64) (S : List Value) (h : zH), rn 240 60 [l0, .long x, l2, l3] S h = rn 240 61 [l0, .long x, l2, l3] (.long x :: S) h) ∧
  (∀ (l0 l1 l2 l3 : Value) (o : Nat) (v0 : Value) (v1 : Value) (S : List Value) (h : zH), rn 240 61 [l0, l1, l2, l3] (v1 :: v0 :: .ref o :: S) h = if zkd h o = 12 ∧ zsum S ≤ 8 then zcall (ev 241 [.ref o, v0, v1] h) (fun v h => rn 240 64 [l0, l1, l2, l3] (zpush v S) h) else none) ∧
  (∀ (l0 l1 l2 l3 : Value) (x : Int64) (y : Int64) (S : List Value) (h : zH), rn 240 64 [l0, l1, l2, l3] (.long y :: .long x :: S) h = rn 240 65 [l0, l1, l2, l3] (.long (x - y) :: S) h) ∧
  (∀ (l1 l2 l3 : Value) (x : Nat) (S : List Value) (h : zH), rn 240 65 [.ref x, l1, l2, l3] S h = rn 240 66 [.ref x, l1, l2, l3] (.ref x :: S) h) ∧
  (∀ (l0 l1 l2 l3 : Value) (S : List Value) (h : zH), rn 240 66 [l0, l1, l2, l3] S h = rn 240 67 [l0, l1, l2, l3] (.int (nI 1) :: S) h) ∧
  (∀ (l0 l2 l3 : Value) (x : Int64) (S : List Value) (h : zH), rn 240 67 [l0, .long x, l2, l3] S h = rn 240 68 [l0, .long x, l2, l3] (.long x :: S) h) ∧
  (∀ (l0 l1 l2 l3 : Value) (o : Nat) (v0 : Value) (v1 : Value) (S : List Value) (h : zH), rn 240 68 [l0, l1, l2, l3] (v1 :: v0 :: .ref o :: S) h = if zkd h o = 12 ∧ zsum S ≤ 8 then zcall (ev 241 [.ref o, v0, v1] h) (fun v h => rn 240 71 [l0, l1, l2, l3] (zpush v S) h) else none) ∧
  (∀ (l0 l1 l2 l3 : Value) (x : Int64) (y : Int64) (S : List Value) (h : zH), rn 240 71 [l0, l1, l2, l3] (.long y :: .long x :: S) h = rn 240 72 [l0, l1, l2, l3] (.long (x - y) :: S) h) ∧
  (∀ (l1 l2 l3 : Value) (x : Nat) (S : List Value) (h : zH), rn 240 72 [.ref x, l1, l2, l3] S h = rn 240 73 [.ref x, l1, l2, l3] (.ref x :: S) h) ∧
  (∀ (l0 l2 l3 : Value) (x : Int64) (S : List Value) (h : zH), rn 240 73 [l0, .long x, l2, l3] S h = rn 240 74 [l0, .long x, l2, l3] (.long x :: S) h) ∧
  (∀ (l0 l1 l2 l3 : Value) (o : Nat) (v0 : Value) (S : List Value) (h : zH), rn 240 74 [l0, l1, l2, l3] (v0 :: .ref o :: S) h = if zkd h o = 12 ∧ zsum S ≤ 8 then zcall (ev 242 [.ref o, v0] h) (fun v h => rn 240 77 [l0, l1, l2, l3] (zpush v S) h) else none) ∧
  (∀ (l0 l1 l2 l3 : Value) (x : Int64) (y : Int64) (S : List Value) (h : zH), rn 240 77 [l0, l1, l2, l3] (.long y :: .long x :: S) h = rn 240 78 [l0, l1, l2, l3] (.long (x - y) :: S) h) ∧
  (∀ (l0 l1 l2 l3 : Value) (x : Int64) (h : zH), rn 240 78 [l0, l1, l2, l3] [.long x] h = some (some (.long x), h)) := ⟨fun _ _ _ _ _ _ => r_iload_n (show zdec 240 0 = some (.iload_n 3, 1) by decide +kernel) rfl rfl,
  fun _ _ _ _ _ _ _ => (r_tsw (l := 0) (ts := [32, 38, 38, 47]) (dt := 53) (show zdec 240 1 = some (.tableswitch 52 0 3 #[31, 37, 37, 46], 31) by decide +kernel) (by decide +kernel)),
  fun _ _ _ _ _ _ => r_lload_n (show zdec 240 32 = some (.lload_n 1, 1) by decide +kernel) rfl rfl,
  fun _ _ _ _ _ _ => r_ldc2 (show zdec 240 33 = some (.ldc2_w 89, 3) by decide +kernel) (show zlt.lookup (240 * zKEY + 89) = some 1000000 by decide +kernel) rfl,
  fun _ _ _ _ _ _ _ _ => r_lmul (show zdec 240 36 = some (.lmul, 1) by decide +kernel) rfl,
  fun _ _ _ _ _ _ => r_lret (show zdec 240 37 = some (.lreturn, 1) by decide +kernel) (by decide +kernel),
  fun _ _ _ _ _ _ => r_aload_nr (show zdec 240 38 = some (.aload_n 0, 1) by decide +kernel) rfl rfl,
  fun _ _ _ _ _ _ => r_iload_n (show zdec 240 39 = some (.iload_n 3, 1) by decide +kernel) rfl rfl,
  fun _ _ _ _ _ _ => r_iconst (show zdec 240 40 = some (.iconst 1, 1) by decide +kernel) rfl rfl,
  fun _ _ _ _ _ _ _ _ => r_isub (show zdec 240 41 = some (.isub, 1) by decide +kernel) rfl,
  fun _ _ _ _ _ _ => r_lload_n (show zdec 240 42 = some (.lload_n 1, 1) by decide +kernel) rfl rfl,
  fun _ _ _ _ _ _ _ _ _ => r_cV [_, _] rfl (show zdec 240 43 = some (.invokevirtual 114, 3) by decide +kernel) (show zst.lookup (240 * zKEY + 114) = some (1, 241, 2, 12) by decide +kernel) (by decide) rfl,
  fun _ _ _ _ _ _ => r_lret (show zdec 240 46 = some (.lreturn, 1) by decide +kernel) (by decide +kernel),
  fun _ _ _ _ _ _ => r_aload_nr (show zdec 240 47 = some (.aload_n 0, 1) by decide +kernel) rfl rfl,
  fun _ _ _ _ _ _ => r_lload_n (show zdec 240 48 = some (.lload_n 1, 1) by decide +kernel) rfl rfl,
  fun _ _ _ _ _ _ _ _ => r_cV [_] rfl (show zdec 240 49 = some (.invokevirtual 121, 3) by decide +kernel) (show zst.lookup (240 * zKEY + 121) = some (1, 242, 1, 12) by decide +kernel) (by decide) rfl,
  fun _ _ _ _ _ _ => r_lret (show zdec 240 52 = some (.lreturn, 1) by decide +kernel) (by decide +kernel),
  fun _ _ _ _ _ _ => r_lload_n (show zdec 240 53 = some (.lload_n 1, 1) by decide +kernel) rfl rfl,
  fun _ _ _ _ _ _ => r_ldc2 (show zdec 240 54 = some (.ldc2_w 89, 3) by decide +kernel) (show zlt.lookup (240 * zKEY + 89) = some 1000000 by decide +kernel) rfl,
  fun _ _ _ _ _ _ _ _ => r_lmul (show zdec 240 57 = some (.lmul, 1) by decide +kernel) rfl,
  fun _ _ _ _ _ _ => r_aload_nr (show zdec 240 58 = some (.aload_n 0, 1) by decide +kernel) rfl rfl,
  fun _ _ _ _ _ _ => r_iconst (show zdec 240 59 = some (.iconst 0, 1) by decide +kernel) rfl rfl,
  fun _ _ _ _ _ _ => r_lload_n (show zdec 240 60 = some (.lload_n 1, 1) by decide +kernel) rfl rfl,
  fun _ _ _ _ _ _ _ _ _ => r_cV [_, _] rfl (show zdec 240 61 = some (.invokevirtual 114, 3) by decide +kernel) (show zst.lookup (240 * zKEY + 114) = some (1, 241, 2, 12) by decide +kernel) (by decide) rfl,
  fun _ _ _ _ _ _ _ _ => r_lsub (show zdec 240 64 = some (.lsub, 1) by decide +kernel) rfl,
  fun _ _ _ _ _ _ => r_aload_nr (show zdec 240 65 = some (.aload_n 0, 1) by decide +kernel) rfl rfl,
  fun _ _ _ _ _ _ => r_iconst (show zdec 240 66 = some (.iconst 1, 1) by decide +kernel) rfl rfl,
  fun _ _ _ _ _ _ => r_lload_n (show zdec 240 67 = some (.lload_n 1, 1) by decide +kernel) rfl rfl,
  fun _ _ _ _ _ _ _ _ _ => r_cV [_, _] rfl (show zdec 240 68 = some (.invokevirtual 114, 3) by decide +kernel) (show zst.lookup (240 * zKEY + 114) = some (1, 241, 2, 12) by decide +kernel) (by decide) rfl,
  fun _ _ _ _ _ _ _ _ => r_lsub (show zdec 240 71 = some (.lsub, 1) by decide +kernel) rfl,
  fun _ _ _ _ _ _ => r_aload_nr (show zdec 240 72 = some (.aload_n 0, 1) by decide +kernel) rfl rfl,
  fun _ _ _ _ _ _ => r_lload_n (show zdec 240 73 = some (.lload_n 1, 1) by decide +kernel) rfl rfl,
  fun _ _ _ _ _ _ _ _ => r_cV [_] rfl (show zdec 240 74 = some (.invokevirtual 121, 3) by decide +kernel) (show zst.lookup (240 * zKEY + 121) = some (1, 242, 1, 12) by decide +kernel) (by decide) rfl,
  fun _ _ _ _ _ _ _ _ => r_lsub (show zdec 240 77 = some (.lsub, 1) by decide +kernel) rfl,
  fun _ _ _ _ _ _ => r_lret (show zdec 240 78 = some (.lreturn, 1) by decide +kernel) (by decide +kernel)⟩
theorem ze_240 : ∀ (a0 : Nat) (a1 : Int64) (a2 : Int32) (h : zH), ev 240 [.ref a0, .long a1, .int a2] h = rn 240 0 [.ref a0, .long a1, .float 0, .int a2] [] h := fun _ _ _ _ => if_pos (Nat.le_of_ble_eq_true rfl)
-- Model.dueOf
theorem zr_237 : (∀ (l1 l2 l3 : Value) (x : Nat) (S : List Value) (h : zH), rn 237 0 [.ref x, l1, l2, l3] S h = rn 237 1 [.ref x, l1, l2, l3] (.ref x :: S) h) ∧
  (∀ (l1 l2 l3 : Value) (x : Nat) (S : List Value) (h : zH), rn 237 1 [.ref x, l1, l2, l3] S h = rn 237 2 [.ref x, l1, l2, l3] (.ref x :: S) h) ∧
  (∀ (l0 l2 l3 : Value) (x : Int32) (S : List Value) (h : zH), rn 237 2 [l0, .int x, l2, l3] S h = rn 237 3 [l0, .int x, l2, l3] (.int x :: S) h) ∧
  (∀ (l0 l1 l3 : Value) (x : Int32) (S : List Value) (h : zH), rn 237 3 [l0, l1, .int x, l3] S h = rn 237 4 [l0, l1, .int x, l3] (.int x :: S) h) ∧
  (∀ (l0 l1 l2 l3 : Value) (S : List Value) (h : zH), rn 237 4 [l0, l1, l2, l3] S h = rn 237 5 [l0, l1, l2, l3] (.int (nI 1) :: S) h) ∧
  (∀ (l0 l1 l2 l3 : Value) (x : Int32) (y : Int32) (S : List Value) (h : zH), rn 237 5 [l0, l1, l2, l3] (.int y :: .int x :: S) h = rn 237 6 [l0, l1, l2, l3] (.int (x + y) :: S) h) ∧
  (∀ (l0 l1 l2 l3 : Value) (o : Nat) (v0 : Value) (v1 : Value) (S : List Value) (h : zH), rn 237 6 [l0, l1, l2, l3] (v1 :: v0 :: .ref o :: S) h = if zkd h o = 12 ∧ zsum S ≤ 8 then zcall (ev 238 [.ref o, v0, v1] h) (fun v h => rn 237 9 [l0, l1, l2, l3] (zpush v S) h) else none) ∧
  (∀ (l0 l1 l2 : Value) (x : Int32) (S : List Value) (h : zH), rn 237 9 [l0, l1, l2, .int x] S h = rn 237 10 [l0, l1, l2, .int x] (.int x :: S) h) ∧
  (∀ (l0 l1 l2 l3 : Value) (o : Nat) (v0 : Value) (v1 : Value) (S : List Value) (h : zH), rn 237 10 [l0, l1, l2, l3] (v1 :: v0 :: .ref o :: S) h = if zkd h o = 12 ∧ zsum S ≤ 8 then zcall (ev 240 [.ref o, v0, v1] h) (fun v h => rn 237 13 [l0, l1, l2, l3] (zpush v S) h) else none) ∧
  (∀ (l1 l2 l3 : Value) (x : Nat) (S : List Value) (h : zH), rn 237 13 [.ref x, l1, l2, l3] S h = rn 237 14 [.ref x, l1, l2, l3] (.ref x :: S) h) ∧
  (∀ (l1 l2 l3 : Value) (x : Nat) (S : List Value) (h : zH), rn 237 14 [.ref x, l1, l2, l3] S h = rn 237 15 [.ref x, l1, l2, l3] (.ref x :: S) h) ∧
  (∀ (l0 l2 l3 : Value) (x : Int32) (S : List Value) (h : zH), rn 237 15 [l0, .int x, l2, l3] S h = rn 237 16 [l0, .int x, l2, l3] (.int x :: S) h) ∧
  (∀ (l0 l1 l3 : Value) (x : Int32) (S : List Value) (h : zH), rn 237 16 [l0, l1, .int x, l3] S h = rn 237 17 [l0, l1, .int x, l3] (.int x :: S) h) ∧
  (∀ (l0 l1 l2 l3 : Value) (o : Nat) (v0 : Value) (v1 : Value) (S : List Value) (h : zH), rn 237 17 [l0, l1, l2, l3] (v1 :: v0 :: .ref o :: S) h = if zkd h o = 12 ∧ zsum S ≤ 8 then zcall (ev 238 [.ref o, v0, v1] h) (fun v h => rn 237 20 [l0, l1, l2, l3] (zpush v S) h) else none) ∧
  (∀ (l0 l1 l2 : Value) (x : Int32) (S : List Value) (h : zH), rn 237 20 [l0, l1, l2, .int x] S h = rn 237 21 [l0, l1, l2, .int x] (.int x :: S) h) ∧
  (∀ (l0 l1 l2 l3 : Value) (o : Nat) (v0 : Value) (v1 : Value) (S : List Value) (h : zH), rn 237 21 [l0, l1, l2, l3] (v1 :: v0 :: .ref o :: S) h = if zkd h o = 12 ∧ zsum S ≤ 8 then zcall (ev 240 [.ref o, v0, v1] h) (fun v h => rn 237 24 [l0, l1, l2, l3] (zpush v S) h) else none) ∧
  (∀ (l0 l1 l2 l3 : Value) (x : Int64) (y : Int64) (S : List Value) (h : zH), rn 237 24 [l0, l1, l2, l3] (.long y :: .long x :: S) h = rn 237 25 [l0, l1, l2, l3] (.long (x - y) :: S) h) ∧
  (∀ (l0 l1 l2 l3 : Value) (x : Int64) (h : zH), rn 237 25 [l0, l1, l2, l3] [.long x] h = some (some (.long x), h)) := ⟨fun _ _ _ _ _ _ => r_aload_nr (show zdec 237 0 = some (.aload_n 0, 1) by decide +kernel) rfl rfl,
  fun _ _ _ _ _ _ => r_aload_nr (show zdec 237 1 = some (.aload_n 0, 1) by decide +kernel) rfl rfl,
  fun _ _ _ _ _ _ => r_iload_n (show zdec 237 2 = some (.iload_n 1, 1) by decide +kernel) rfl rfl,
  fun _ _ _ _ _ _ => r_iload_n (show zdec 237 3 = some (.iload_n 2, 1) by decide +kernel) rfl rfl,
  fun _ _ _ _ _ _ => r_iconst (show zdec 237 4 = some (.iconst 1, 1) by decide +kernel) rfl rfl,
  fun _ _ _ _ _ _ _ _ => r_iadd (show zdec 237 5 = some (.iadd, 1) by decide +kernel) rfl,
  fun _ _ _ _ _ _ _ _ _ => r_cV [_, _] rfl (show zdec 237 6 = some (.invokevirtual 125, 3) by decide +kernel) (show zst.lookup (237 * zKEY + 125) = some (1, 238, 2, 12) by decide +kernel) (by decide) rfl,
  fun _ _ _ _ _ _ => r_iload_n (show zdec 237 9 = some (.iload_n 3, 1) by decide +kernel) rfl rfl,
  fun _ _ _ _ _ _ _ _ _ => r_cV [_, _] rfl (show zdec 237 10 = some (.invokevirtual 128, 3) by decide +kernel) (show zst.lookup (237 * zKEY + 128) = some (1, 240, 2, 12) by decide +kernel) (by decide) rfl,
  fun _ _ _ _ _ _ => r_aload_nr (show zdec 237 13 = some (.aload_n 0, 1) by decide +kernel) rfl rfl,
  fun _ _ _ _ _ _ => r_aload_nr (show zdec 237 14 = some (.aload_n 0, 1) by decide +kernel) rfl rfl,
  fun _ _ _ _ _ _ => r_iload_n (show zdec 237 15 = some (.iload_n 1, 1) by decide +kernel) rfl rfl,
  fun _ _ _ _ _ _ => r_iload_n (show zdec 237 16 = some (.iload_n 2, 1) by decide +kernel) rfl rfl,
  fun _ _ _ _ _ _ _ _ _ => r_cV [_, _] rfl (show zdec 237 17 = some (.invokevirtual 125, 3) by decide +kernel) (show zst.lookup (237 * zKEY + 125) = some (1, 238, 2, 12) by decide +kernel) (by decide) rfl,
  fun _ _ _ _ _ _ => r_iload_n (show zdec 237 20 = some (.iload_n 3, 1) by decide +kernel) rfl rfl,
  fun _ _ _ _ _ _ _ _ _ => r_cV [_, _] rfl (show zdec 237 21 = some (.invokevirtual 128, 3) by decide +kernel) (show zst.lookup (237 * zKEY + 128) = some (1, 240, 2, 12) by decide +kernel) (by decide) rfl,
  fun _ _ _ _ _ _ _ _ => r_lsub (show zdec 237 24 = some (.lsub, 1) by decide +kernel) rfl,
  fun _ _ _ _ _ _ => r_lret (show zdec 237 25 = some (.lreturn, 1) by decide +kernel) (by decide +kernel)⟩
theorem ze_237 : ∀ (a0 : Nat) (a1 : Int32) (a2 : Int32) (a3 : Int32) (h : zH), ev 237 [.ref a0, .int a1, .int a2, .int a3] h = rn 237 0 [.ref a0, .int a1, .int a2, .int a3] [] h := fun _ _ _ _ _ => if_pos (Nat.le_of_ble_eq_true rfl)
-- Model.settledOf
theorem zr_245 : (∀ (l0 l2 l3 l4 : Value) (x : Int32) (S : List Value) (h : zH), rn 245 0 [l0, .int x, l2, l3, l4] S h = rn 245 1 [l0, .int x, l2, l3, l4] (.int x :: S) h) ∧
  (∀ (l0 l1 l2 l3 l4 : Value) (S : List Value) (h : zH), rn 245 1 [l0, l1, l2, l3, l4] S h = rn 245 3 [l0, l1, l2, l3, l4] (.int (nI 38) :: S) h) ∧
  (∀ (l0 l1 l2 l3 l4 : Value) (S : List Value) (h : zH), rn 245 3 [l0, l1, l2, l3, l4] S h = rn 245 4 [l0, l1, l2, l3, l4] (.int (nI 4) :: S) h) ∧
  (∀ (l0 l1 l3 l4 : Value) (x : Int32) (S : List Value) (h : zH), rn 245 4 [l0, l1, .int x, l3, l4] S h = rn 245 5 [l0, l1, .int x, l3, l4] (.int x :: S) h) ∧
  (∀ (l0 l1 l2 l3 l4 : Value) (x : Int32) (y : Int32) (S : List Value) (h : zH), rn 245 5 [l0, l1, l2, l3, l4] (.int y :: .int x :: S) h = rn 245 6 [l0, l1, l2, l3, l4] (.int (x * y) :: S) h) ∧
  (∀ (l0 l1 l2 l3 l4 : Value) (x : Int32) (y : Int32) (S : List Value) (h : zH), rn 245 6 [l0, l1, l2, l3, l4] (.int y :: .int x :: S) h = rn 245 7 [l0, l1, l2, l3, l4] (.int (x + y) :: S) h) ∧
  (∀ (l0 l1 l2 l3 l4 : Value) (v0 : Value) (v1 : Value) (S : List Value) (h : zH), rn 245 7 [l0, l1, l2, l3, l4] (v1 :: v0 :: S) h = if zsum S ≤ 8 then zcall (ev 208 [v0, v1] h) (fun v h => rn 245 10 [l0, l1, l2, l3, l4] (zpush v S) h) else none) ∧
  (∀ (l0 l1 l2 l3 l4 : Value) (x : Int32) (S : List Value) (h : zH), rn 245 10 [l0, l1, l2, l3, l4] (.int x :: S) h = nl l3 (rn 245 12 [l0, l1, l2, l3, .int x] S h)) ∧
  (∀ (l0 l1 l2 l4 : Value) (x : Int32) (S : List Value) (h : zH), rn 245 12 [l0, l1, l2, .int x, l4] S h = rn 245 13 [l0, l1, l2, .int x, l4] (.int x :: S) h) ∧
  (∀ (l0 l1 l2 l3 l4 : Value) (S : List Value) (h : zH), rn 245 13 [l0, l1, l2, l3, l4] S h = rn 245 14 [l0, l1, l2, l3, l4] (.int (nI 4) :: S) h) ∧
  (∀ (l0 l1 l2 l3 l4 : Value) (x : Int32) (y : Int32) (S : List Value) (h : zH), rn 245 14 [l0, l1, l2, l3, l4] (.int y :: .int x :: S) h = if y ≤ x then rn 245 29 [l0, l1, l2, l3, l4] S h else rn 245 17 [l0, l1, l2, l3, l4] S h) ∧
  (∀ (l1 l2 l3 l4 : Value) (x : Nat) (S : List Value) (h : zH), rn 245 17 [.ref x, l1, l2, l3, l4] S h = rn 245 18 [.ref x, l1, l2, l3, l4] (.ref x :: S) h) ∧
  (∀ (l0 l1 l2 l3 l4 : Value) (a : Nat) (S : List Value) (h : zH), rn 245 18 [l0, l1, l2, l3, l4] (.ref a :: S) h = zgf h a 12 0 fun v => rn 245 21 [l0, l1, l2, l3, l4] (v :: S) h) ∧
  (∀ (l0 l1 l2 l3 : Value) (x : Int32) (S : List Value) (h : zH), rn 245 21 [l0, l1, l2, l3, .int x] S h = rn 245 23 [l0, l1, l2, l3, .int x] (.int x :: S) h) ∧
  (∀ (l0 l1 l2 l4 : Value) (x : Int32) (S : List Value) (h : zH), rn 245 23 [l0, l1, l2, .int x, l4] S h = rn 245 24 [l0, l1, l2, .int x, l4] (.int x :: S) h) ∧
  (∀ (l0 l1 l2 l3 l4 : Value) (x : Int32) (y : Int32) (S : List Value) (h : zH), rn 245 24 [l0, l1, l2, l3, l4] (.int y :: .int x :: S) h = rn 245 25 [l0, l1, l2, l3, l4] (.int (x + y) :: S) h) ∧
  (∀ (l0 l1 l2 l3 l4 : Value) (a : Nat) (j : Int32) (S : List Value) (h : zH), rn 245 25 [l0, l1, l2, l3, l4] (.int j :: .ref a :: S) h = zlj h a j fun x => rn 245 26 [l0, l1, l2, l3, l4] (.long x :: S) h) ∧
  (∀ (l0 l1 l2 l3 l4 : Value) (S : List Value) (h : zH), rn 245 26 [l0, l1, l2, l3, l4] S h = rn 245 66 [l0, l1, l2, l3, l4] S h) ∧
  (∀ (l1 l2 l3 l4 : Value) (x : Nat) (S : List Value) (h : zH), rn 245 29 [.ref x, l1, l2, l3, l4] S h = rn 245 30 [.ref x, l1, l2, l3, l4] (.ref x :: S) h) ∧
  (∀ (l0 l1 l2 l3 l4 : Value) (a : Nat) (S : List Value) (h : zH), rn 245 30 [l0, l1, l2, l3, l4] (.ref a :: S) h = zgf h a 12 0 fun v => rn 245 33 [l0, l1, l2, l3, l4] (v :: S) h) ∧
  (∀ (l0 l1 l2 l3 : Value) (x : Int32) (S : List Value) (h : zH), rn 245 33 [l0, l1, l2, l3, .int x] S h = rn 245 35 [l0, l1, l2, l3, .int x] (.int x :: S) h) ∧
  (∀ (l0 l1 l2 l3 l4 : Value) (a : Nat) (j : Int32) (S : List Value) (h : zH), rn 245 35 [l0, l1, l2, l3, l4] (.int j :: .ref a :: S) h = zlj h a j fun x => rn 245 36 [l0, l1, l2, l3, l4] (.long x :: S) h) ∧
  (∀ (l1 l2 l3 l4 : Value) (x : Nat) (S : List Value) (h : zH), rn 245 36 [.ref x, l1, l2, l3, l4] S h = rn 245 37 [.ref x, l1, l2, l3, l4] (.ref x :: S) h) ∧
  (∀ (l0 l1 l2 l3 l4 : Value) (a : Nat) (S : List Value) (h : zH), rn 245 37 [l0, l1, l2, l3, l4] (.ref a :: S) h = zgf h a 12 0 fun v => rn 245 40 [l0, l1, l2, l3, l4] (v :: S) h) ∧
  (∀ (l0 l1 l2 l3 : Value) (x : Int32) (S : List Value) (h : zH), rn 245 40 [l0, l1, l2, l3, .int x] S h = rn 245 42 [l0, l1, l2, l3, .int x] (.int x :: S) h) ∧
  (∀ (l0 l1 l2 l3 l4 : Value) (S : List Value) (h : zH), rn 245 42 [l0, l1, l2, l3, l4] S h = rn 245 43 [l0, l1, l2, l3, l4] (.int (nI 1) :: S) h) ∧
  (∀ (l0 l1 l2 l3 l4 : Value) (x : Int32) (y : Int32) (S : List Value) (h : zH), rn 245 43 [l0, l1, l2, l3, l4] (.int y :: .int x :: S) h = rn 245 44 [l0, l1, l2, l3, l4] (.int (x + y) :: S) h) ∧
  (∀ (l0 l1 l2 l3 l4 : Value) (a : Nat) (j : Int32) (S : List Value) (h : zH), rn 245 44 [l0, l1, l2, l3, l4] (.int j :: .ref a :: S) h = zlj h a j fun x => rn 245 45 [l0, l1, l2, l3, l4] (.long x :: S) h) ∧
  (∀ (l0 l1 l2 l3 l4 : Value) (x : Int64) (y : Int64) (S : List Value) (h : zH), rn 245 45 [l0, l1, l2, l3, l4] (.long y :: .long x :: S) h = rn 245 46 [l0, l1, l2, l3, l4] (.long (x - y) :: S) h) ∧
  (∀ (l1 l2 l3 l4 : Value) (x : Nat) (S : List Value) (h : zH), rn 245 46 [.ref x, l1, l2, l3, l4] S h = rn 245 47 [.ref x, l1, l2, l3, l4] (.ref x :: S) h) ∧
  (∀ (l0 l1 l2 l3 l4 : Value) (a : Nat) (S : List Value) (h : zH), rn 245 47 [l0, l1, l2, l3, l4] (.ref a :: S) h = zgf h a 12 0 fun v => rn 245 50 [l0, l1, l2, l3, l4] (v :: S) h) ∧
  (∀ (l0 l1 l2 l3 : Value) (x : Int32) (S : List Value) (h : zH), rn 245 50 [l0, l1, l2, l3, .int x] S h = rn 245 52 [l0, l1, l2, l3, .int x] (.int x :: S) h) ∧
  (∀ (l0 l1 l2 l3 l4 : Value) (S : List Value) (h : zH), rn 245 52 [l0, l1, l2, l3, l4] S h = rn 245 53 [l0, l1, l2, l3, l4] (.int (nI 2) :: S) h) ∧
  (∀ (l0 l1 l2 l3 l4 : Value) (x : Int32) (y : Int32) (S : List Value) (h : zH), rn 245 53 [l0, l1, l2, l3, l4] (.int y :: .int x :: S) h = rn 245 54 [l0, l1, l2, l3, l4] (.int (x + y) :: S) h) ∧
  (∀ (l0 l1 l2 l3 l4 : Value) (a : Nat) (j : Int32) (S : List Value) (h : zH), rn 245 54 [l0, l1, l2, l3, l4] (.int j :: .ref a :: S) h = zlj h a j fun x => rn 245 55 [l0, l1, l2, l3, l4] (.long x :: S) h) ∧
  (∀ (l0 l1 l2 l3 l4 : Value) (x : Int64) (y : Int64) (S : List Value) (h : zH), rn 245 55 [l0, l1, l2, l3, l4] (.long y :: .long x :: S) h = rn 245 56 [l0, l1, l2, l3, l4] (.long (x - y) :: S) h) ∧
  (∀ (l1 l2 l3 l4 : Value) (x : Nat) (S : List Value) (h : zH), rn 245 56 [.ref x, l1, l2, l3, l4] S h = rn 245 57 [.ref x, l1, l2, l3, l4] (.ref x :: S) h) ∧
  (∀ (l0 l1 l2 l3 l4 : Value) (a : Nat) (S : List Value) (h : zH), rn 245 57 [l0, l1, l2, l3, l4] (.ref a :: S) h = zgf h a 12 0 fun v => rn 245 60 [l0, l1, l2, l3, l4] (v :: S) h) ∧
  (∀ (l0 l1 l2 l3 : Value) (x : Int32) (S : List Value) (h : zH), rn 245 60 [l0, l1, l2, l3, .int x] S h = rn 245 62 [l0, l1, l2, l3, .int x] (.int x :: S) h) ∧
  (∀ (l0 l1 l2 l3 l4 : Value) (S : List Value) (h : zH), rn 245 62 [l0, l1, l2, l3, l4] S h = rn 245 63 [l0, l1, l2, l3, l4] (.int (nI 3) :: S) h) ∧
  (∀ (l0 l1 l2 l3 l4 : Value) (x : Int32) (y : Int32) (S : List Value) (h : zH), rn 245 63 [l0, l1, l2, l3, l4] (.int y :: .int x :: S) h = rn 245 64 [l0, l1, l2, l3, l4] (.int (x + y) :: S) h) ∧
  (∀ (l0 l1 l2 l3 l4 : Value) (a : Nat) (j : Int32) (S : List Value) (h : zH), rn 245 64 [l0, l1, l2, l3, l4] (.int j :: .ref a :: S) h = zlj h a j fun x => rn 245 65 [l0, l1, l2, l3, l4] (.long x :: S) h) ∧
  (∀ (l0 l1 l2 l3 l4 : Value) (x : Int64) (y : Int64) (S : List Value) (h : zH), rn 245 65 [l0, l1, l2, l3, l4] (.long y :: .long x :: S) h = rn 245 66 [l0, l1, l2, l3, l4] (.long (x - y) :: S) h) ∧
  (∀ (l0 l1 l2 l3 l4 : Value) (x : Int64) (h : zH), rn 245 66 [l0, l1, l2, l3, l4] [.long x] h = some (some (.long x), h)) := ⟨fun _ _ _ _ _ _ _ => r_iload_n (show zdec 245 0 = some (.iload_n 1, 1) by decide +kernel) rfl rfl,
  fun _ _ _ _ _ _ _ => r_bipush (show zdec 245 1 = some (.bipush 38, 2) by decide +kernel) rfl rfl,
  fun _ _ _ _ _ _ _ => r_iconst (show zdec 245 3 = some (.iconst 4, 1) by decide +kernel) rfl rfl,
  fun _ _ _ _ _ _ _ => r_iload_n (show zdec 245 4 = some (.iload_n 2, 1) by decide +kernel) rfl rfl,
  fun _ _ _ _ _ _ _ _ _ => r_imul (show zdec 245 5 = some (.imul, 1) by decide +kernel) rfl,
  fun _ _ _ _ _ _ _ _ _ => r_iadd (show zdec 245 6 = some (.iadd, 1) by decide +kernel) rfl,
  fun _ _ _ _ _ _ _ _ _ => r_cS [_, _] rfl (show zdec 245 7 = some (.invokestatic 39, 3) by decide +kernel) (show zst.lookup (245 * zKEY + 39) = some (0, 208, 2, 0) by decide +kernel) (by decide) rfl,
  fun _ _ _ _ _ _ _ _ => r_istore (show zdec 245 10 = some (.istore 4, 2) by decide +kernel) rfl (Nat.le_of_ble_eq_true rfl) rfl rfl,
  fun _ _ _ _ _ _ _ => r_iload_n (show zdec 245 12 = some (.iload_n 3, 1) by decide +kernel) rfl rfl,
  fun _ _ _ _ _ _ _ => r_iconst (show zdec 245 13 = some (.iconst 4, 1) by decide +kernel) rfl rfl,
  fun _ _ _ _ _ _ _ _ _ => r_icmpge (show zdec 245 14 = some (.if_icmp .ge 15, 3) by decide +kernel) rfl rfl,
  fun _ _ _ _ _ _ _ => r_aload_nr (show zdec 245 17 = some (.aload_n 0, 1) by decide +kernel) rfl rfl,
  fun _ _ _ _ _ _ _ _ => r_getfield (show zdec 245 18 = some (.getfield 9, 3) by decide +kernel) (show zft.lookup (245 * zKEY + 9) = some (12, 0) by decide +kernel) rfl,
  fun _ _ _ _ _ _ _ => r_iload (show zdec 245 21 = some (.iload 4, 2) by decide +kernel) rfl rfl,
  fun _ _ _ _ _ _ _ => r_iload_n (show zdec 245 23 = some (.iload_n 3, 1) by decide +kernel) rfl rfl,
  fun _ _ _ _ _ _ _ _ _ => r_iadd (show zdec 245 24 = some (.iadd, 1) by decide +kernel) rfl,
  fun _ _ _ _ _ _ _ _ _ => r_lald (show zdec 245 25 = some (.laload, 1) by decide +kernel) rfl,
  fun _ _ _ _ _ _ _ => r_goto (show zdec 245 26 = some (.goto 40, 3) by decide +kernel) rfl,
  fun _ _ _ _ _ _ _ => r_aload_nr (show zdec 245 29 = some (.aload_n 0, 1) by decide +kernel) rfl rfl,
  fun _ _ _ _ _ _ _ _ => r_getfield (show zdec 245 30 = some (.getfield 9, 3) by decide +kernel) (show zft.lookup (245 * zKEY + 9) = some (12, 0) by decide +kernel) rfl,
  fun _ _ _ _ _ _ _ => r_iload (show zdec 245 33 = some (.iload 4, 2) by decide +kernel) rfl rfl,
  fun _ _ _ _ _ _ _ _ _ => r_lald (show zdec 245 35 = some (.laload, 1) by decide +kernel) rfl,
  fun _ _ _ _ _ _ _ => r_aload_nr (show zdec 245 36 = some (.aload_n 0, 1) by decide +kernel) rfl rfl,
  fun _ _ _ _ _ _ _ _ => r_getfield (show zdec 245 37 = some (.getfield 9, 3) by decide +kernel) (show zft.lookup (245 * zKEY + 9) = some (12, 0) by decide +kernel) rfl,
  fun _ _ _ _ _ _ _ => r_iload (show zdec 245 40 = some (.iload 4, 2) by decide +kernel) rfl rfl,
  fun _ _ _ _ _ _ _ => r_iconst (show zdec 245 42 = some (.iconst 1, 1) by decide +kernel) rfl rfl,
  fun _ _ _ _ _ _ _ _ _ => r_iadd (show zdec 245 43 = some (.iadd, 1) by decide +kernel) rfl,
  fun _ _ _ _ _ _ _ _ _ => r_lald (show zdec 245 44 = some (.laload, 1) by decide +kernel) rfl,
  fun _ _ _ _ _ _ _ _ _ => r_lsub (show zdec 245 45 = some (.lsub, 1) by decide +kernel) rfl,
  fun _ _ _ _ _ _ _ => r_aload_nr (show zdec 245 46 = some (.aload_n 0, 1) by decide +kernel) rfl rfl,
  fun _ _ _ _ _ _ _ _ => r_getfield (show zdec 245 47 = some (.getfield 9, 3) by decide +kernel) (show zft.lookup (245 * zKEY + 9) = some (12, 0) by decide +kernel) rfl,
  fun _ _ _ _ _ _ _ => r_iload (show zdec 245 50 = some (.iload 4, 2) by decide +kernel) rfl rfl,
  fun _ _ _ _ _ _ _ => r_iconst (show zdec 245 52 = some (.iconst 2, 1) by decide +kernel) rfl rfl,
  fun _ _ _ _ _ _ _ _ _ => r_iadd (show zdec 245 53 = some (.iadd, 1) by decide +kernel) rfl,
  fun _ _ _ _ _ _ _ _ _ => r_lald (show zdec 245 54 = some (.laload, 1) by decide +kernel) rfl,
  fun _ _ _ _ _ _ _ _ _ => r_lsub (show zdec 245 55 = some (.lsub, 1) by decide +kernel) rfl,
  fun _ _ _ _ _ _ _ => r_aload_nr (show zdec 245 56 = some (.aload_n 0, 1) by decide +kernel) rfl rfl,
  fun _ _ _ _ _ _ _ _ => r_getfield (show zdec 245 57 = some (.getfield 9, 3) by decide +kernel) (show zft.lookup (245 * zKEY + 9) = some (12, 0) by decide +kernel) rfl,
  fun _ _ _ _ _ _ _ => r_iload (show zdec 245 60 = some (.iload 4, 2) by decide +kernel) rfl rfl,
  fun _ _ _ _ _ _ _ => r_iconst (show zdec 245 62 = some (.iconst 3, 1) by decide +kernel) rfl rfl,
  fun _ _ _ _ _ _ _ _ _ => r_iadd (show zdec 245 63 = some (.iadd, 1) by decide +kernel) rfl,
  fun _ _ _ _ _ _ _ _ _ => r_lald (show zdec 245 64 = some (.laload, 1) by decide +kernel) rfl,
  fun _ _ _ _ _ _ _ _ _ => r_lsub (show zdec 245 65 = some (.lsub, 1) by decide +kernel) rfl,
  fun _ _ _ _ _ _ _ => r_lret (show zdec 245 66 = some (.lreturn, 1) by decide +kernel) (by decide +kernel)⟩
theorem ze_245 : ∀ (a0 : Nat) (a1 : Int32) (a2 : Int32) (a3 : Int32) (h : zH), ev 245 [.ref a0, .int a1, .int a2, .int a3] h = rn 245 0 [.ref a0, .int a1, .int a2, .int a3, .float 0] [] h := fun _ _ _ _ _ => if_pos (Nat.le_of_ble_eq_true rfl)

