/-! RULES of the JDK, printed by render.py -/
-- java/lang/Object.<init>()V
theorem zr_1 : ∀ (l0 : Value) (h : zH), rn 1 0 [l0] [] h = some (none, h) := fun _ _ => r_vret (show zdec 1 0 = some (.return_, 1) by decide +kernel) (by decide +kernel)
theorem ze_1 : ∀ (a0 : Nat) (h : zH), ev 1 [.ref a0] h = rn 1 0 [.ref a0] [] h := fun _ _ => if_pos (Nat.le_of_ble_eq_true rfl)
-- java/lang/StringBuilder.<init>()V
theorem zr_12 : (∀ (x : Nat) (S : List Value) (h : zH), rn 12 0 [.ref x] S h = rn 12 1 [.ref x] (.ref x :: S) h) ∧
  (∀ (l0 : Value) (S : List Value) (h : zH), rn 12 1 [l0] S h = rn 12 3 [l0] (.int (nI 16) :: S) h) ∧
  (∀ (l0 : Value) (o : Nat) (v0 : Value) (S : List Value) (h : zH), rn 12 3 [l0] (v0 :: .ref o :: S) h = if zsum S ≤ 8 then zcall (ev 13 [.ref o, v0] h) (fun v h => rn 12 6 [l0] (zpush v S) h) else none) ∧
  (∀ (l0 : Value) (h : zH), rn 12 6 [l0] [] h = some (none, h)) := ⟨fun _ _ _ => r_aload_nr (show zdec 12 0 = some (.aload_n 0, 1) by decide +kernel) rfl rfl,
  fun _ _ _ => r_bipush (show zdec 12 1 = some (.bipush 16, 2) by decide +kernel) rfl rfl,
  fun _ _ _ _ _ => r_cI [_] rfl (show zdec 12 3 = some (.invokespecial 1, 3) by decide +kernel) (show zst.lookup (12 * zKEY + 1) = some (2, 13, 1, 0) by decide +kernel) (by decide) rfl,
  fun _ _ => r_vret (show zdec 12 6 = some (.return_, 1) by decide +kernel) (by decide +kernel)⟩
theorem ze_12 : ∀ (a0 : Nat) (h : zH), ev 12 [.ref a0] h = rn 12 0 [.ref a0] [] h := fun _ _ => if_pos (Nat.le_of_ble_eq_true rfl)
-- java/lang/AbstractStringBuilder.<init>(I)V
theorem zr_13 : (∀ (l1 : Value) (x : Nat) (S : List Value) (h : zH), rn 13 0 [.ref x, l1] S h = rn 13 1 [.ref x, l1] (.ref x :: S) h) ∧
  (∀ (l0 l1 : Value) (o : Nat) (S : List Value) (h : zH), rn 13 1 [l0, l1] (.ref o :: S) h = if zsum S ≤ 8 then rn 13 4 [l0, l1] S h else none) ∧
  (∀ (l0 l1 : Value) (S : List Value) (h : zH), rn 13 4 [l0, l1] S h = rn 13 7 [l0, l1] (.int 1 :: S) h) ∧
  (∀ (l0 l1 : Value) (x : Int32) (S : List Value) (h : zH), rn 13 7 [l0, l1] (.int x :: S) h = if x = nI 0 then rn 13 25 [l0, l1] S h else rn 13 10 [l0, l1] S h) ∧
  (∀ (l1 : Value) (x : Nat) (S : List Value) (h : zH), rn 13 10 [.ref x, l1] S h = rn 13 11 [.ref x, l1] (.ref x :: S) h) ∧
  (∀ (l0 : Value) (x : Int32) (S : List Value) (h : zH), rn 13 11 [l0, .int x] S h = rn 13 12 [l0, .int x] (.int x :: S) h) ∧
  (∀ (l0 l1 : Value) (x : Int32) (S : List Value) (h : zH), rn 13 12 [l0, l1] (.int x :: S) h = mkA x (rn 13 14 [l0, l1] (.ref (100 + h.1) :: S) (znew h (.inl (3, x.toNatClampNeg, zz0 3)) x.toNatClampNeg))) ∧
  (∀ (l0 l1 : Value) (a : Nat) (v : Value) (S : List Value) (h : zH), rn 13 14 [l0, l1] (v :: .ref a :: S) h = zpf h a 0 0 v fun h => rn 13 17 [l0, l1] S h) ∧
  (∀ (l1 : Value) (x : Nat) (S : List Value) (h : zH), rn 13 17 [.ref x, l1] S h = rn 13 18 [.ref x, l1] (.ref x :: S) h) ∧
  (∀ (l0 l1 : Value) (S : List Value) (h : zH), rn 13 18 [l0, l1] S h = rn 13 19 [l0, l1] (.int (nI 0) :: S) h) ∧
  (∀ (l0 l1 : Value) (a : Nat) (v : Value) (S : List Value) (h : zH), rn 13 19 [l0, l1] (v :: .ref a :: S) h = zpf h a 0 1 v fun h => rn 13 22 [l0, l1] S h) ∧
  (∀ (l0 l1 : Value) (S : List Value) (h : zH), rn 13 22 [l0, l1] S h = rn 13 38 [l0, l1] S h) ∧
  (∀ (l1 : Value) (x : Nat) (S : List Value) (h : zH), rn 13 25 [.ref x, l1] S h = rn 13 26 [.ref x, l1] (.ref x :: S) h) ∧
  (∀ (l0 : Value) (x : Int32) (S : List Value) (h : zH), rn 13 26 [l0, .int x] S h = rn 13 27 [l0, .int x] (.int x :: S) h) ∧
  (∀ (l0 l1 : Value) (v0 : Value) (S : List Value) (h : zH), rn 13 27 [l0, l1] (v0 :: S) h = if zsum S ≤ 8 then zcall (ev 14 [v0] h) (fun v h => rn 13 30 [l0, l1] (zpush v S) h) else none) ∧
  (∀ (l0 l1 : Value) (a : Nat) (v : Value) (S : List Value) (h : zH), rn 13 30 [l0, l1] (v :: .ref a :: S) h = zpf h a 0 0 v fun h => rn 13 33 [l0, l1] S h) ∧
  (∀ (l1 : Value) (x : Nat) (S : List Value) (h : zH), rn 13 33 [.ref x, l1] S h = rn 13 34 [.ref x, l1] (.ref x :: S) h) ∧
  (∀ (l0 l1 : Value) (S : List Value) (h : zH), rn 13 34 [l0, l1] S h = rn 13 35 [l0, l1] (.int (nI 1) :: S) h) ∧
  (∀ (l0 l1 : Value) (a : Nat) (v : Value) (S : List Value) (h : zH), rn 13 35 [l0, l1] (v :: .ref a :: S) h = zpf h a 0 1 v fun h => rn 13 38 [l0, l1] S h) ∧
  (∀ (l0 l1 : Value) (h : zH), rn 13 38 [l0, l1] [] h = some (none, h)) := ⟨fun _ _ _ _ => r_aload_nr (show zdec 13 0 = some (.aload_n 0, 1) by decide +kernel) rfl rfl,
  fun _ _ _ _ _ => r_cO (show zdec 13 1 = some (.invokespecial 3, 3) by decide +kernel) (show zst.lookup (13 * zKEY + 3) = some (7, 1, 0, 0) by decide +kernel) rfl,
  fun _ _ _ _ => r_getstatic (show zdec 13 4 = some (.getstatic 18, 3) by decide +kernel) (show zgt.lookup (13 * zKEY + 18) = some 6 by decide +kernel) (by rfl) rfl,
  fun _ _ _ _ _ => r_ifeq (show zdec 13 7 = some (.ifCond .eq 18, 3) by decide +kernel) rfl rfl,
  fun _ _ _ _ => r_aload_nr (show zdec 13 10 = some (.aload_n 0, 1) by decide +kernel) rfl rfl,
  fun _ _ _ _ => r_iload_n (show zdec 13 11 = some (.iload_n 1, 1) by decide +kernel) rfl rfl,
  fun _ _ _ _ _ => r_newa (show zdec 13 12 = some (.newarray .byte, 2) by decide +kernel) rfl rfl,
  fun _ _ _ _ _ _ => r_putfield (show zdec 13 14 = some (.putfield 15, 3) by decide +kernel) (show zft.lookup (13 * zKEY + 15) = some (0, 0) by decide +kernel) (by decide +kernel) rfl,
  fun _ _ _ _ => r_aload_nr (show zdec 13 17 = some (.aload_n 0, 1) by decide +kernel) rfl rfl,
  fun _ _ _ _ => r_iconst (show zdec 13 18 = some (.iconst 0, 1) by decide +kernel) rfl rfl,
  fun _ _ _ _ _ _ => r_putfield (show zdec 13 19 = some (.putfield 22, 3) by decide +kernel) (show zft.lookup (13 * zKEY + 22) = some (0, 1) by decide +kernel) (by decide +kernel) rfl,
  fun _ _ _ _ => r_goto (show zdec 13 22 = some (.goto 16, 3) by decide +kernel) rfl,
  fun _ _ _ _ => r_aload_nr (show zdec 13 25 = some (.aload_n 0, 1) by decide +kernel) rfl rfl,
  fun _ _ _ _ => r_iload_n (show zdec 13 26 = some (.iload_n 1, 1) by decide +kernel) rfl rfl,
  fun _ _ _ _ _ => r_cS [_] rfl (show zdec 13 27 = some (.invokestatic 26, 3) by decide +kernel) (show zst.lookup (13 * zKEY + 26) = some (0, 14, 1, 0) by decide +kernel) (by decide) rfl,
  fun _ _ _ _ _ _ => r_putfield (show zdec 13 30 = some (.putfield 15, 3) by decide +kernel) (show zft.lookup (13 * zKEY + 15) = some (0, 0) by decide +kernel) (by decide +kernel) rfl,
  fun _ _ _ _ => r_aload_nr (show zdec 13 33 = some (.aload_n 0, 1) by decide +kernel) rfl rfl,
  fun _ _ _ _ => r_iconst (show zdec 13 34 = some (.iconst 1, 1) by decide +kernel) rfl rfl,
  fun _ _ _ _ _ _ => r_putfield (show zdec 13 35 = some (.putfield 22, 3) by decide +kernel) (show zft.lookup (13 * zKEY + 22) = some (0, 1) by decide +kernel) (by decide +kernel) rfl,
  fun _ _ _ => r_vret (show zdec 13 38 = some (.return_, 1) by decide +kernel) (by decide +kernel)⟩
theorem ze_13 : ∀ (a0 : Nat) (a1 : Int32) (h : zH), ev 13 [.ref a0, .int a1] h = rn 13 0 [.ref a0, .int a1] [] h := fun _ _ _ => if_pos (Nat.le_of_ble_eq_true rfl)
-- java/lang/StringUTF16.newBytesFor(I)[B
theorem zr_14 : (∀ (x : Int32) (S : List Value) (h : zH), rn 14 0 [.int x] S h = rn 14 1 [.int x] (.int x :: S) h) ∧
  (∀ (l0 : Value) (v0 : Value) (S : List Value) (h : zH), rn 14 1 [l0] (v0 :: S) h = if zsum S ≤ 8 then zcall (ev 15 [v0] h) (fun v h => rn 14 4 [l0] (zpush v S) h) else none) ∧
  (∀ (l0 : Value) (x : Int32) (S : List Value) (h : zH), rn 14 4 [l0] (.int x :: S) h = mkA x (rn 14 6 [l0] (.ref (100 + h.1) :: S) (znew h (.inl (3, x.toNatClampNeg, zz0 3)) x.toNatClampNeg))) ∧
  (∀ (l0 : Value) (a : Nat) (h : zH), rn 14 6 [l0] [.ref a] h = some (some (.ref a), h)) := ⟨fun _ _ _ => r_iload_n (show zdec 14 0 = some (.iload_n 0, 1) by decide +kernel) rfl rfl,
  fun _ _ _ _ => r_cS [_] rfl (show zdec 14 1 = some (.invokestatic 11, 3) by decide +kernel) (show zst.lookup (14 * zKEY + 11) = some (0, 15, 1, 0) by decide +kernel) (by decide) rfl,
  fun _ _ _ _ => r_newa (show zdec 14 4 = some (.newarray .byte, 2) by decide +kernel) rfl rfl,
  fun _ _ _ => r_areta (C := .byte) (show zdec 14 6 = some (.areturn, 1) by decide +kernel) (by decide +kernel)⟩
theorem ze_14 : ∀ (a0 : Int32) (h : zH), ev 14 [.int a0] h = rn 14 0 [.int a0] [] h := fun _ _ => if_pos (Nat.le_of_ble_eq_true rfl)
-- java/lang/StringUTF16.newBytesLength(I)I
theorem zr_15 : (∀ (x : Int32) (S : List Value) (h : zH), rn 15 0 [.int x] S h = rn 15 1 [.int x] (.int x :: S) h) ∧
  (∀ (l0 : Value) (x : Int32) (S : List Value) (h : zH), rn 15 1 [l0] (.int x :: S) h = if nI 0 ≤ x then rn 15 12 [l0] S h else rn 15 4 [l0] S h) ∧
  (∀ (l0 : Value) (v : Value) (S : List Value) (h : zH), rn 15 7 [l0] (v :: S) h = c1 v (rn 15 8 [l0] (v :: v :: S) h)) ∧
  (∀ (x : Int32) (S : List Value) (h : zH), rn 15 12 [.int x] S h = rn 15 13 [.int x] (.int x :: S) h) ∧
  (∀ (l0 : Value) (S : List Value) (h : zH), rn 15 13 [l0] S h = rn 15 15 [l0] (.int (nI 1073741823) :: S) h) ∧
  (∀ (l0 : Value) (x : Int32) (y : Int32) (S : List Value) (h : zH), rn 15 15 [l0] (.int y :: .int x :: S) h = if x < y then rn 15 55 [l0] S h else rn 15 18 [l0] S h) ∧
  (∀ (l0 : Value) (v : Value) (S : List Value) (h : zH), rn 15 21 [l0] (v :: S) h = c1 v (rn 15 22 [l0] (v :: v :: S) h)) ∧
  (∀ (l0 : Value) (v : Value) (S : List Value) (h : zH), rn 15 25 [l0] (v :: S) h = c1 v (rn 15 26 [l0] (v :: v :: S) h)) ∧
  (∀ (x : Int32) (S : List Value) (h : zH), rn 15 34 [.int x] S h = rn 15 35 [.int x] (.int x :: S) h) ∧
  (∀ (l0 : Value) (S : List Value) (h : zH), rn 15 43 [l0] S h = rn 15 45 [l0] (.int (nI 1073741823) :: S) h) ∧
  (∀ (x : Int32) (S : List Value) (h : zH), rn 15 55 [.int x] S h = rn 15 56 [.int x] (.int x :: S) h) ∧
  (∀ (l0 : Value) (S : List Value) (h : zH), rn 15 56 [l0] S h = rn 15 57 [l0] (.int (nI 1) :: S) h) ∧
  (∀ (l0 : Value) (x : Int32) (y : Int32) (S : List Value) (h : zH), rn 15 57 [l0] (.int y :: .int x :: S) h = rn 15 58 [l0] (.int (x <<< (y &&& 31)) :: S) h) ∧
  (∀ (l0 : Value) (x : Int32) (h : zH), rn 15 58 [l0] [.int x] h = some (some (.int x), h)) := ⟨fun _ _ _ => r_iload_n (show zdec 15 0 = some (.iload_n 0, 1) by decide +kernel) rfl rfl,
  fun _ _ _ _ => r_ifge (show zdec 15 1 = some (.ifCond .ge 11, 3) by decide +kernel) rfl rfl,
  fun _ _ _ _ => r_dup (show zdec 15 7 = some (.dup, 1) by decide +kernel) rfl,
  fun _ _ _ => r_iload_n (show zdec 15 12 = some (.iload_n 0, 1) by decide +kernel) rfl rfl,
  fun _ _ _ => r_ldcI (show zdec 15 13 = some (.ldc 20, 2) by decide +kernel) (show zkt.lookup (15 * zKEY + 20) = some 1073741823 by decide +kernel) rfl,
  fun _ _ _ _ _ => r_icmplt (show zdec 15 15 = some (.if_icmp .lt 40, 3) by decide +kernel) rfl rfl,
  fun _ _ _ _ => r_dup (show zdec 15 21 = some (.dup, 1) by decide +kernel) rfl,
  fun _ _ _ _ => r_dup (show zdec 15 25 = some (.dup, 1) by decide +kernel) rfl,
  fun _ _ _ => r_iload_n (show zdec 15 34 = some (.iload_n 0, 1) by decide +kernel) rfl rfl,
  fun _ _ _ => r_ldcI (show zdec 15 43 = some (.ldc 20, 2) by decide +kernel) (show zkt.lookup (15 * zKEY + 20) = some 1073741823 by decide +kernel) rfl,
  fun _ _ _ => r_iload_n (show zdec 15 55 = some (.iload_n 0, 1) by decide +kernel) rfl rfl,
  fun _ _ _ => r_iconst (show zdec 15 56 = some (.iconst 1, 1) by decide +kernel) rfl rfl,
  fun _ _ _ _ _ => r_ishl (show zdec 15 57 = some (.ishl, 1) by decide +kernel) rfl,
  fun _ _ _ => r_ireti (show zdec 15 58 = some (.ireturn, 1) by decide +kernel) (by decide +kernel)⟩
theorem ze_15 : ∀ (a0 : Int32) (h : zH), ev 15 [.int a0] h = rn 15 0 [.int a0] [] h := fun _ _ => if_pos (Nat.le_of_ble_eq_true rfl)
-- java/lang/StringBuilder.setLength(I)V
theorem zr_98 : (∀ (l1 : Value) (x : Nat) (S : List Value) (h : zH), rn 98 0 [.ref x, l1] S h = rn 98 1 [.ref x, l1] (.ref x :: S) h) ∧
  (∀ (l0 : Value) (x : Int32) (S : List Value) (h : zH), rn 98 1 [l0, .int x] S h = rn 98 2 [l0, .int x] (.int x :: S) h) ∧
  (∀ (l0 l1 : Value) (o : Nat) (v0 : Value) (S : List Value) (h : zH), rn 98 2 [l0, l1] (v0 :: .ref o :: S) h = if zkd h o = 0 ∧ zsum S ≤ 8 then zcall (ev 99 [.ref o, v0] h) (fun v h => rn 98 5 [l0, l1] (zpush v S) h) else none) ∧
  (∀ (l0 l1 : Value) (h : zH), rn 98 5 [l0, l1] [] h = some (none, h)) := ⟨fun _ _ _ _ => r_aload_nr (show zdec 98 0 = some (.aload_n 0, 1) by decide +kernel) rfl rfl,
  fun _ _ _ _ => r_iload_n (show zdec 98 1 = some (.iload_n 1, 1) by decide +kernel) rfl rfl,
  fun _ _ _ _ _ _ => r_cU [_] rfl (show zdec 98 2 = some (.invokespecial 333, 3) by decide +kernel) (show zst.lookup (98 * zKEY + 333) = some (6, 99, 1, 0) by decide +kernel) rfl,
  fun _ _ _ => r_vret (show zdec 98 5 = some (.return_, 1) by decide +kernel) (by decide +kernel)⟩
theorem ze_98 : ∀ (a0 : Nat) (a1 : Int32) (h : zH), ev 98 [.ref a0, .int a1] h = rn 98 0 [.ref a0, .int a1] [] h := fun _ _ _ => if_pos (Nat.le_of_ble_eq_true rfl)
-- java/lang/AbstractStringBuilder.setLength(I)V
theorem zr_99 : (∀ (l0 : Value) (x : Int32) (S : List Value) (h : zH), rn 99 0 [l0, .int x] S h = rn 99 1 [l0, .int x] (.int x :: S) h) ∧
  (∀ (l0 l1 : Value) (x : Int32) (S : List Value) (h : zH), rn 99 1 [l0, l1] (.int x :: S) h = if nI 0 ≤ x then rn 99 13 [l0, l1] S h else rn 99 4 [l0, l1] S h) ∧
  (∀ (l0 l1 : Value) (v : Value) (S : List Value) (h : zH), rn 99 7 [l0, l1] (v :: S) h = c1 v (rn 99 8 [l0, l1] (v :: v :: S) h)) ∧
  (∀ (l0 : Value) (x : Int32) (S : List Value) (h : zH), rn 99 8 [l0, .int x] S h = rn 99 9 [l0, .int x] (.int x :: S) h) ∧
  (∀ (l1 : Value) (x : Nat) (S : List Value) (h : zH), rn 99 13 [.ref x, l1] S h = rn 99 14 [.ref x, l1] (.ref x :: S) h) ∧
  (∀ (l0 : Value) (x : Int32) (S : List Value) (h : zH), rn 99 14 [l0, .int x] S h = rn 99 15 [l0, .int x] (.int x :: S) h) ∧
  (∀ (l1 : Value) (x : Nat) (S : List Value) (h : zH), rn 99 18 [.ref x, l1] S h = rn 99 19 [.ref x, l1] (.ref x :: S) h) ∧
  (∀ (l0 l1 : Value) (a : Nat) (S : List Value) (h : zH), rn 99 19 [l0, l1] (.ref a :: S) h = zgf h a 0 3 fun v => rn 99 22 [l0, l1] (v :: S) h) ∧
  (∀ (l0 : Value) (x : Int32) (S : List Value) (h : zH), rn 99 22 [l0, .int x] S h = rn 99 23 [l0, .int x] (.int x :: S) h) ∧
  (∀ (l0 l1 : Value) (x : Int32) (y : Int32) (S : List Value) (h : zH), rn 99 23 [l0, l1] (.int y :: .int x :: S) h = if y ≤ x then rn 99 63 [l0, l1] S h else rn 99 26 [l0, l1] S h) ∧
  (∀ (l1 : Value) (x : Nat) (S : List Value) (h : zH), rn 99 26 [.ref x, l1] S h = rn 99 27 [.ref x, l1] (.ref x :: S) h) ∧
  (∀ (l0 l1 : Value) (o : Nat) (S : List Value) (h : zH), rn 99 27 [l0, l1] (.ref o :: S) h = if zkd h o = 0 ∧ zsum S ≤ 8 then zcall (ev 106 [.ref o] h) (fun v h => rn 99 30 [l0, l1] (zpush v S) h) else none) ∧
  (∀ (l0 l1 : Value) (x : Int32) (S : List Value) (h : zH), rn 99 30 [l0, l1] (.int x :: S) h = if x = nI 0 then rn 99 48 [l0, l1] S h else rn 99 33 [l0, l1] S h) ∧
  (∀ (l1 : Value) (x : Nat) (S : List Value) (h : zH), rn 99 33 [.ref x, l1] S h = rn 99 34 [.ref x, l1] (.ref x :: S) h) ∧
  (∀ (l0 l1 : Value) (a : Nat) (S : List Value) (h : zH), rn 99 34 [l0, l1] (.ref a :: S) h = zgf h a 0 0 fun v => rn 99 37 [l0, l1] (v :: S) h) ∧
  (∀ (l1 : Value) (x : Nat) (S : List Value) (h : zH), rn 99 37 [.ref x, l1] S h = rn 99 38 [.ref x, l1] (.ref x :: S) h) ∧
  (∀ (l0 l1 : Value) (a : Nat) (S : List Value) (h : zH), rn 99 38 [l0, l1] (.ref a :: S) h = zgf h a 0 3 fun v => rn 99 41 [l0, l1] (v :: S) h) ∧
  (∀ (l0 : Value) (x : Int32) (S : List Value) (h : zH), rn 99 41 [l0, .int x] S h = rn 99 42 [l0, .int x] (.int x :: S) h) ∧
  (∀ (l0 l1 : Value) (v0 : Value) (v1 : Value) (v2 : Value) (S : List Value) (h : zH), rn 99 42 [l0, l1] (v2 :: v1 :: v0 :: S) h = if zsum S ≤ 8 then zcall (ev 107 [v0, v1, v2] h) (fun v h => rn 99 45 [l0, l1] (zpush v S) h) else none) ∧
  (∀ (l0 l1 : Value) (S : List Value) (h : zH), rn 99 45 [l0, l1] S h = rn 99 76 [l0, l1] S h) ∧
  (∀ (l1 : Value) (x : Nat) (S : List Value) (h : zH), rn 99 48 [.ref x, l1] S h = rn 99 49 [.ref x, l1] (.ref x :: S) h) ∧
  (∀ (l0 l1 : Value) (a : Nat) (S : List Value) (h : zH), rn 99 49 [l0, l1] (.ref a :: S) h = zgf h a 0 0 fun v => rn 99 52 [l0, l1] (v :: S) h) ∧
  (∀ (l1 : Value) (x : Nat) (S : List Value) (h : zH), rn 99 52 [.ref x, l1] S h = rn 99 53 [.ref x, l1] (.ref x :: S) h) ∧
  (∀ (l0 l1 : Value) (a : Nat) (S : List Value) (h : zH), rn 99 53 [l0, l1] (.ref a :: S) h = zgf h a 0 3 fun v => rn 99 56 [l0, l1] (v :: S) h) ∧
  (∀ (l0 : Value) (x : Int32) (S : List Value) (h : zH), rn 99 56 [l0, .int x] S h = rn 99 57 [l0, .int x] (.int x :: S) h) ∧
  (∀ (l0 l1 : Value) (v0 : Value) (v1 : Value) (v2 : Value) (S : List Value) (h : zH), rn 99 57 [l0, l1] (v2 :: v1 :: v0 :: S) h = if zsum S ≤ 8 then zcall (ev 110 [v0, v1, v2] h) (fun v h => rn 99 60 [l0, l1] (zpush v S) h) else none) ∧
  (∀ (l0 l1 : Value) (S : List Value) (h : zH), rn 99 60 [l0, l1] S h = rn 99 76 [l0, l1] S h) ∧
  (∀ (l1 : Value) (x : Nat) (S : List Value) (h : zH), rn 99 63 [.ref x, l1] S h = rn 99 64 [.ref x, l1] (.ref x :: S) h) ∧
  (∀ (l0 l1 : Value) (a : Nat) (S : List Value) (h : zH), rn 99 64 [l0, l1] (.ref a :: S) h = zgf h a 0 3 fun v => rn 99 67 [l0, l1] (v :: S) h) ∧
  (∀ (l0 : Value) (x : Int32) (S : List Value) (h : zH), rn 99 67 [l0, .int x] S h = rn 99 68 [l0, .int x] (.int x :: S) h) ∧
  (∀ (l0 l1 : Value) (x : Int32) (y : Int32) (S : List Value) (h : zH), rn 99 68 [l0, l1] (.int y :: .int x :: S) h = if x ≤ y then rn 99 76 [l0, l1] S h else rn 99 71 [l0, l1] S h) ∧
  (∀ (l1 : Value) (x : Nat) (S : List Value) (h : zH), rn 99 71 [.ref x, l1] S h = rn 99 72 [.ref x, l1] (.ref x :: S) h) ∧
  (∀ (l0 l1 : Value) (S : List Value) (h : zH), rn 99 72 [l0, l1] S h = rn 99 73 [l0, l1] (.int (nI 1) :: S) h) ∧
  (∀ (l0 l1 : Value) (a : Nat) (v : Value) (S : List Value) (h : zH), rn 99 73 [l0, l1] (v :: .ref a :: S) h = zpf h a 0 2 v fun h => rn 99 76 [l0, l1] S h) ∧
  (∀ (l1 : Value) (x : Nat) (S : List Value) (h : zH), rn 99 76 [.ref x, l1] S h = rn 99 77 [.ref x, l1] (.ref x :: S) h) ∧
  (∀ (l0 : Value) (x : Int32) (S : List Value) (h : zH), rn 99 77 [l0, .int x] S h = rn 99 78 [l0, .int x] (.int x :: S) h) ∧
  (∀ (l0 l1 : Value) (a : Nat) (v : Value) (S : List Value) (h : zH), rn 99 78 [l0, l1] (v :: .ref a :: S) h = zpf h a 0 3 v fun h => rn 99 81 [l0, l1] S h) ∧
  (∀ (l0 l1 : Value) (h : zH), rn 99 81 [l0, l1] [] h = some (none, h)) := ⟨fun _ _ _ _ => r_iload_n (show zdec 99 0 = some (.iload_n 1, 1) by decide +kernel) rfl rfl,
  fun _ _ _ _ _ => r_ifge (show zdec 99 1 = some (.ifCond .ge 12, 3) by decide +kernel) rfl rfl,
  fun _ _ _ _ _ => r_dup (show zdec 99 7 = some (.dup, 1) by decide +kernel) rfl,
  fun _ _ _ _ => r_iload_n (show zdec 99 8 = some (.iload_n 1, 1) by decide +kernel) rfl rfl,
  fun _ _ _ _ => r_aload_nr (show zdec 99 13 = some (.aload_n 0, 1) by decide +kernel) rfl rfl,
  fun _ _ _ _ => r_iload_n (show zdec 99 14 = some (.iload_n 1, 1) by decide +kernel) rfl rfl,
  fun _ _ _ _ => r_aload_nr (show zdec 99 18 = some (.aload_n 0, 1) by decide +kernel) rfl rfl,
  fun _ _ _ _ _ => r_getfield (show zdec 99 19 = some (.getfield 79, 3) by decide +kernel) (show zft.lookup (99 * zKEY + 79) = some (0, 3) by decide +kernel) rfl,
  fun _ _ _ _ => r_iload_n (show zdec 99 22 = some (.iload_n 1, 1) by decide +kernel) rfl rfl,
  fun _ _ _ _ _ _ => r_icmpge (show zdec 99 23 = some (.if_icmp .ge 40, 3) by decide +kernel) rfl rfl,
  fun _ _ _ _ => r_aload_nr (show zdec 99 26 = some (.aload_n 0, 1) by decide +kernel) rfl rfl,
  fun _ _ _ _ _ => r_cV [] rfl (show zdec 99 27 = some (.invokevirtual 83, 3) by decide +kernel) (show zst.lookup (99 * zKEY + 83) = some (5, 106, 0, 0) by decide +kernel) (by decide) rfl,
  fun _ _ _ _ _ => r_ifeq (show zdec 99 30 = some (.ifCond .eq 18, 3) by decide +kernel) rfl rfl,
  fun _ _ _ _ => r_aload_nr (show zdec 99 33 = some (.aload_n 0, 1) by decide +kernel) rfl rfl,
  fun _ _ _ _ _ => r_getfield (show zdec 99 34 = some (.getfield 15, 3) by decide +kernel) (show zft.lookup (99 * zKEY + 15) = some (0, 0) by decide +kernel) rfl,
  fun _ _ _ _ => r_aload_nr (show zdec 99 37 = some (.aload_n 0, 1) by decide +kernel) rfl rfl,
  fun _ _ _ _ _ => r_getfield (show zdec 99 38 = some (.getfield 79, 3) by decide +kernel) (show zft.lookup (99 * zKEY + 79) = some (0, 3) by decide +kernel) rfl,
  fun _ _ _ _ => r_iload_n (show zdec 99 41 = some (.iload_n 1, 1) by decide +kernel) rfl rfl,
  fun _ _ _ _ _ _ _ => r_cS [_, _, _] rfl (show zdec 99 42 = some (.invokestatic 133, 3) by decide +kernel) (show zst.lookup (99 * zKEY + 133) = some (0, 107, 3, 0) by decide +kernel) (by decide) rfl,
  fun _ _ _ _ => r_goto (show zdec 99 45 = some (.goto 31, 3) by decide +kernel) rfl,
  fun _ _ _ _ => r_aload_nr (show zdec 99 48 = some (.aload_n 0, 1) by decide +kernel) rfl rfl,
  fun _ _ _ _ _ => r_getfield (show zdec 99 49 = some (.getfield 15, 3) by decide +kernel) (show zft.lookup (99 * zKEY + 15) = some (0, 0) by decide +kernel) rfl,
  fun _ _ _ _ => r_aload_nr (show zdec 99 52 = some (.aload_n 0, 1) by decide +kernel) rfl rfl,
  fun _ _ _ _ _ => r_getfield (show zdec 99 53 = some (.getfield 79, 3) by decide +kernel) (show zft.lookup (99 * zKEY + 79) = some (0, 3) by decide +kernel) rfl,
  fun _ _ _ _ => r_iload_n (show zdec 99 56 = some (.iload_n 1, 1) by decide +kernel) rfl rfl,
  fun _ _ _ _ _ _ _ => r_cS [_, _, _] rfl (show zdec 99 57 = some (.invokestatic 137, 3) by decide +kernel) (show zst.lookup (99 * zKEY + 137) = some (0, 110, 3, 0) by decide +kernel) (by decide) rfl,
  fun _ _ _ _ => r_goto (show zdec 99 60 = some (.goto 16, 3) by decide +kernel) rfl,
  fun _ _ _ _ => r_aload_nr (show zdec 99 63 = some (.aload_n 0, 1) by decide +kernel) rfl rfl,
  fun _ _ _ _ _ => r_getfield (show zdec 99 64 = some (.getfield 79, 3) by decide +kernel) (show zft.lookup (99 * zKEY + 79) = some (0, 3) by decide +kernel) rfl,
  fun _ _ _ _ => r_iload_n (show zdec 99 67 = some (.iload_n 1, 1) by decide +kernel) rfl rfl,
  fun _ _ _ _ _ _ => r_icmple (show zdec 99 68 = some (.if_icmp .le 8, 3) by decide +kernel) rfl rfl,
  fun _ _ _ _ => r_aload_nr (show zdec 99 71 = some (.aload_n 0, 1) by decide +kernel) rfl rfl,
  fun _ _ _ _ => r_iconst (show zdec 99 72 = some (.iconst 1, 1) by decide +kernel) rfl rfl,
  fun _ _ _ _ _ _ => r_putfield (show zdec 99 73 = some (.putfield 73, 3) by decide +kernel) (show zft.lookup (99 * zKEY + 73) = some (0, 2) by decide +kernel) (by decide +kernel) rfl,
  fun _ _ _ _ => r_aload_nr (show zdec 99 76 = some (.aload_n 0, 1) by decide +kernel) rfl rfl,
  fun _ _ _ _ => r_iload_n (show zdec 99 77 = some (.iload_n 1, 1) by decide +kernel) rfl rfl,
  fun _ _ _ _ _ _ => r_putfield (show zdec 99 78 = some (.putfield 79, 3) by decide +kernel) (show zft.lookup (99 * zKEY + 79) = some (0, 3) by decide +kernel) (by decide +kernel) rfl,
  fun _ _ _ => r_vret (show zdec 99 81 = some (.return_, 1) by decide +kernel) (by decide +kernel)⟩
theorem ze_99 : ∀ (a0 : Nat) (a1 : Int32) (h : zH), ev 99 [.ref a0, .int a1] h = rn 99 0 [.ref a0, .int a1] [] h := fun _ _ _ => if_pos (Nat.le_of_ble_eq_true rfl)
-- java/lang/AbstractStringBuilder.ensureCapacityInternal(I)V
theorem zr_100 : (∀ (l1 l2 : Value) (x : Nat) (S : List Value) (h : zH), rn 100 0 [.ref x, l1, l2] S h = rn 100 1 [.ref x, l1, l2] (.ref x :: S) h) ∧
  (∀ (l0 l1 l2 : Value) (a : Nat) (S : List Value) (h : zH), rn 100 1 [l0, l1, l2] (.ref a :: S) h = zgf h a 0 0 fun v => rn 100 4 [l0, l1, l2] (v :: S) h) ∧
  (∀ (l0 l1 l2 : Value) (a : Nat) (S : List Value) (h : zH), rn 100 4 [l0, l1, l2] (.ref a :: S) h = zal h a fun x => rn 100 5 [l0, l1, l2] (.int x :: S) h) ∧
  (∀ (l1 l2 : Value) (x : Nat) (S : List Value) (h : zH), rn 100 5 [.ref x, l1, l2] S h = rn 100 6 [.ref x, l1, l2] (.ref x :: S) h) ∧
  (∀ (l0 l1 l2 : Value) (a : Nat) (S : List Value) (h : zH), rn 100 6 [l0, l1, l2] (.ref a :: S) h = zgf h a 0 1 fun v => rn 100 9 [l0, l1, l2] (v :: S) h) ∧
  (∀ (l0 l1 l2 : Value) (x : Int32) (y : Int32) (S : List Value) (h : zH), rn 100 9 [l0, l1, l2] (.int y :: .int x :: S) h = rn 100 10 [l0, l1, l2] (.int (x >>> (y &&& 31)) :: S) h) ∧
  (∀ (l0 l1 l2 : Value) (x : Int32) (S : List Value) (h : zH), rn 100 10 [l0, l1, l2] (.int x :: S) h = nl l1 (rn 100 11 [l0, l1, .int x] S h)) ∧
  (∀ (l0 l2 : Value) (x : Int32) (S : List Value) (h : zH), rn 100 11 [l0, .int x, l2] S h = rn 100 12 [l0, .int x, l2] (.int x :: S) h) ∧
  (∀ (l0 l1 : Value) (x : Int32) (S : List Value) (h : zH), rn 100 12 [l0, l1, .int x] S h = rn 100 13 [l0, l1, .int x] (.int x :: S) h) ∧
  (∀ (l0 l1 l2 : Value) (x : Int32) (y : Int32) (S : List Value) (h : zH), rn 100 13 [l0, l1, l2] (.int y :: .int x :: S) h = rn 100 14 [l0, l1, l2] (.int (x - y) :: S) h) ∧
  (∀ (l0 l1 l2 : Value) (x : Int32) (S : List Value) (h : zH), rn 100 14 [l0, l1, l2] (.int x :: S) h = if x ≤ nI 0 then rn 100 38 [l0, l1, l2] S h else rn 100 17 [l0, l1, l2] S h) ∧
  (∀ (l1 l2 : Value) (x : Nat) (S : List Value) (h : zH), rn 100 17 [.ref x, l1, l2] S h = rn 100 18 [.ref x, l1, l2] (.ref x :: S) h) ∧
  (∀ (l1 l2 : Value) (x : Nat) (S : List Value) (h : zH), rn 100 18 [.ref x, l1, l2] S h = rn 100 19 [.ref x, l1, l2] (.ref x :: S) h) ∧
  (∀ (l0 l1 l2 : Value) (a : Nat) (S : List Value) (h : zH), rn 100 19 [l0, l1, l2] (.ref a :: S) h = zgf h a 0 0 fun v => rn 100 22 [l0, l1, l2] (v :: S) h) ∧
  (∀ (l1 l2 : Value) (x : Nat) (S : List Value) (h : zH), rn 100 22 [.ref x, l1, l2] S h = rn 100 23 [.ref x, l1, l2] (.ref x :: S) h) ∧
  (∀ (l0 l2 : Value) (x : Int32) (S : List Value) (h : zH), rn 100 23 [l0, .int x, l2] S h = rn 100 24 [l0, .int x, l2] (.int x :: S) h) ∧
  (∀ (l1 l2 : Value) (x : Nat) (S : List Value) (h : zH), rn 100 27 [.ref x, l1, l2] S h = rn 100 28 [.ref x, l1, l2] (.ref x :: S) h) ∧
  (∀ (l0 l1 l2 : Value) (a : Nat) (S : List Value) (h : zH), rn 100 28 [l0, l1, l2] (.ref a :: S) h = zgf h a 0 1 fun v => rn 100 31 [l0, l1, l2] (v :: S) h) ∧
  (∀ (l0 l1 l2 : Value) (x : Int32) (y : Int32) (S : List Value) (h : zH), rn 100 31 [l0, l1, l2] (.int y :: .int x :: S) h = rn 100 32 [l0, l1, l2] (.int (x <<< (y &&& 31)) :: S) h) ∧
  (∀ (l0 l1 l2 : Value) (v0 : Value) (v1 : Value) (S : List Value) (h : zH), rn 100 32 [l0, l1, l2] (v1 :: v0 :: S) h = if zsum S ≤ 8 then zcall (ev 105 [v0, v1] h) (fun v h => rn 100 35 [l0, l1, l2] (zpush v S) h) else none) ∧
  (∀ (l0 l1 l2 : Value) (a : Nat) (v : Value) (S : List Value) (h : zH), rn 100 35 [l0, l1, l2] (v :: .ref a :: S) h = zpf h a 0 0 v fun h => rn 100 38 [l0, l1, l2] S h) ∧
  (∀ (l0 l1 l2 : Value) (h : zH), rn 100 38 [l0, l1, l2] [] h = some (none, h)) := ⟨fun _ _ _ _ _ => r_aload_nr (show zdec 100 0 = some (.aload_n 0, 1) by decide +kernel) rfl rfl,
  fun _ _ _ _ _ _ => r_getfield (show zdec 100 1 = some (.getfield 15, 3) by decide +kernel) (show zft.lookup (100 * zKEY + 15) = some (0, 0) by decide +kernel) rfl,
  fun _ _ _ _ _ _ => r_alen (show zdec 100 4 = some (.arraylength, 1) by decide +kernel) rfl,
  fun _ _ _ _ _ => r_aload_nr (show zdec 100 5 = some (.aload_n 0, 1) by decide +kernel) rfl rfl,
  fun _ _ _ _ _ _ => r_getfield (show zdec 100 6 = some (.getfield 22, 3) by decide +kernel) (show zft.lookup (100 * zKEY + 22) = some (0, 1) by decide +kernel) rfl,
  fun _ _ _ _ _ _ _ => r_ishr (show zdec 100 9 = some (.ishr, 1) by decide +kernel) rfl,
  fun _ _ _ _ _ _ => r_istore_n (show zdec 100 10 = some (.istore_n 2, 1) by decide +kernel) rfl rfl (Nat.le_of_ble_eq_true rfl) rfl rfl,
  fun _ _ _ _ _ => r_iload_n (show zdec 100 11 = some (.iload_n 1, 1) by decide +kernel) rfl rfl,
  fun _ _ _ _ _ => r_iload_n (show zdec 100 12 = some (.iload_n 2, 1) by decide +kernel) rfl rfl,
  fun _ _ _ _ _ _ _ => r_isub (show zdec 100 13 = some (.isub, 1) by decide +kernel) rfl,
  fun _ _ _ _ _ _ => r_ifle (show zdec 100 14 = some (.ifCond .le 24, 3) by decide +kernel) rfl rfl,
  fun _ _ _ _ _ => r_aload_nr (show zdec 100 17 = some (.aload_n 0, 1) by decide +kernel) rfl rfl,
  fun _ _ _ _ _ => r_aload_nr (show zdec 100 18 = some (.aload_n 0, 1) by decide +kernel) rfl rfl,
  fun _ _ _ _ _ _ => r_getfield (show zdec 100 19 = some (.getfield 15, 3) by decide +kernel) (show zft.lookup (100 * zKEY + 15) = some (0, 0) by decide +kernel) rfl,
  fun _ _ _ _ _ => r_aload_nr (show zdec 100 22 = some (.aload_n 0, 1) by decide +kernel) rfl rfl,
  fun _ _ _ _ _ => r_iload_n (show zdec 100 23 = some (.iload_n 1, 1) by decide +kernel) rfl rfl,
  fun _ _ _ _ _ => r_aload_nr (show zdec 100 27 = some (.aload_n 0, 1) by decide +kernel) rfl rfl,
  fun _ _ _ _ _ _ => r_getfield (show zdec 100 28 = some (.getfield 22, 3) by decide +kernel) (show zft.lookup (100 * zKEY + 22) = some (0, 1) by decide +kernel) rfl,
  fun _ _ _ _ _ _ _ => r_ishl (show zdec 100 31 = some (.ishl, 1) by decide +kernel) rfl,
  fun _ _ _ _ _ _ _ => r_cS [_, _] rfl (show zdec 100 32 = some (.invokestatic 108, 3) by decide +kernel) (show zst.lookup (100 * zKEY + 108) = some (0, 105, 2, 0) by decide +kernel) (by decide) rfl,
  fun _ _ _ _ _ _ _ => r_putfield (show zdec 100 35 = some (.putfield 15, 3) by decide +kernel) (show zft.lookup (100 * zKEY + 15) = some (0, 0) by decide +kernel) (by decide +kernel) rfl,
  fun _ _ _ _ => r_vret (show zdec 100 38 = some (.return_, 1) by decide +kernel) (by decide +kernel)⟩
theorem ze_100 : ∀ (a0 : Nat) (a1 : Int32) (h : zH), ev 100 [.ref a0, .int a1] h = rn 100 0 [.ref a0, .int a1, .float 0] [] h := fun _ _ _ => if_pos (Nat.le_of_ble_eq_true rfl)
-- java/lang/AbstractStringBuilder.newCapacity(I)I
theorem zr_101 : (∀ (l1 l2 l3 l4 l5 : Value) (x : Nat) (S : List Value) (h : zH), rn 101 0 [.ref x, l1, l2, l3, l4, l5] S h = rn 101 1 [.ref x, l1, l2, l3, l4, l5] (.ref x :: S) h) ∧
  (∀ (l0 l1 l2 l3 l4 l5 : Value) (a : Nat) (S : List Value) (h : zH), rn 101 1 [l0, l1, l2, l3, l4, l5] (.ref a :: S) h = zgf h a 0 0 fun v => rn 101 4 [l0, l1, l2, l3, l4, l5] (v :: S) h) ∧
  (∀ (l0 l1 l2 l3 l4 l5 : Value) (a : Nat) (S : List Value) (h : zH), rn 101 4 [l0, l1, l2, l3, l4, l5] (.ref a :: S) h = zal h a fun x => rn 101 5 [l0, l1, l2, l3, l4, l5] (.int x :: S) h) ∧
  (∀ (l0 l1 l2 l3 l4 l5 : Value) (x : Int32) (S : List Value) (h : zH), rn 101 5 [l0, l1, l2, l3, l4, l5] (.int x :: S) h = nl l1 (rn 101 6 [l0, l1, .int x, l3, l4, l5] S h)) ∧
  (∀ (l0 l2 l3 l4 l5 : Value) (x : Int32) (S : List Value) (h : zH), rn 101 6 [l0, .int x, l2, l3, l4, l5] S h = rn 101 7 [l0, .int x, l2, l3, l4, l5] (.int x :: S) h) ∧
  (∀ (l1 l2 l3 l4 l5 : Value) (x : Nat) (S : List Value) (h : zH), rn 101 7 [.ref x, l1, l2, l3, l4, l5] S h = rn 101 8 [.ref x, l1, l2, l3, l4, l5] (.ref x :: S) h) ∧
  (∀ (l0 l1 l2 l3 l4 l5 : Value) (a : Nat) (S : List Value) (h : zH), rn 101 8 [l0, l1, l2, l3, l4, l5] (.ref a :: S) h = zgf h a 0 1 fun v => rn 101 11 [l0, l1, l2, l3, l4, l5] (v :: S) h) ∧
  (∀ (l0 l1 l2 l3 l4 l5 : Value) (x : Int32) (y : Int32) (S : List Value) (h : zH), rn 101 11 [l0, l1, l2, l3, l4, l5] (.int y :: .int x :: S) h = rn 101 12 [l0, l1, l2, l3, l4, l5] (.int (x <<< (y &&& 31)) :: S) h) ∧
  (∀ (l0 l1 l2 l3 l4 l5 : Value) (x : Int32) (S : List Value) (h : zH), rn 101 12 [l0, l1, l2, l3, l4, l5] (.int x :: S) h = nl l2 (rn 101 13 [l0, l1, l2, .int x, l4, l5] S h)) ∧
  (∀ (l0 l1 l2 l4 l5 : Value) (x : Int32) (S : List Value) (h : zH), rn 101 13 [l0, l1, l2, .int x, l4, l5] S h = rn 101 14 [l0, l1, l2, .int x, l4, l5] (.int x :: S) h) ∧
  (∀ (l0 l1 l3 l4 l5 : Value) (x : Int32) (S : List Value) (h : zH), rn 101 14 [l0, l1, .int x, l3, l4, l5] S h = rn 101 15 [l0, l1, .int x, l3, l4, l5] (.int x :: S) h) ∧
  (∀ (l0 l1 l2 l3 l4 l5 : Value) (x : Int32) (y : Int32) (S : List Value) (h : zH), rn 101 15 [l0, l1, l2, l3, l4, l5] (.int y :: .int x :: S) h = rn 101 16 [l0, l1, l2, l3, l4, l5] (.int (x - y) :: S) h) ∧
  (∀ (l0 l1 l2 l3 l4 l5 : Value) (x : Int32) (S : List Value) (h : zH), rn 101 16 [l0, l1, l2, l3, l4, l5] (.int x :: S) h = nl l3 (rn 101 18 [l0, l1, l2, l3, .int x, l5] S h)) ∧
  (∀ (l0 l1 l3 l4 l5 : Value) (x : Int32) (S : List Value) (h : zH), rn 101 18 [l0, l1, .int x, l3, l4, l5] S h = rn 101 19 [l0, l1, .int x, l3, l4, l5] (.int x :: S) h) ∧
  (∀ (l0 l1 l2 l3 l5 : Value) (x : Int32) (S : List Value) (h : zH), rn 101 19 [l0, l1, l2, l3, .int x, l5] S h = rn 101 21 [l0, l1, l2, l3, .int x, l5] (.int x :: S) h) ∧
  (∀ (l0 l1 l3 l4 l5 : Value) (x : Int32) (S : List Value) (h : zH), rn 101 21 [l0, l1, .int x, l3, l4, l5] S h = rn 101 22 [l0, l1, .int x, l3, l4, l5] (.int x :: S) h) ∧
  (∀ (l0 l1 l2 l3 l4 l5 : Value) (S : List Value) (h : zH), rn 101 22 [l0, l1, l2, l3, l4, l5] S h = rn 101 23 [l0, l1, l2, l3, l4, l5] (.int (nI 2) :: S) h) ∧
  (∀ (l1 l2 l3 l4 l5 : Value) (x : Nat) (S : List Value) (h : zH), rn 101 23 [.ref x, l1, l2, l3, l4, l5] S h = rn 101 24 [.ref x, l1, l2, l3, l4, l5] (.ref x :: S) h) ∧
  (∀ (l0 l1 l2 l3 l4 l5 : Value) (a : Nat) (S : List Value) (h : zH), rn 101 24 [l0, l1, l2, l3, l4, l5] (.ref a :: S) h = zgf h a 0 1 fun v => rn 101 27 [l0, l1, l2, l3, l4, l5] (v :: S) h) ∧
  (∀ (l0 l1 l2 l3 l4 l5 : Value) (x : Int32) (y : Int32) (S : List Value) (h : zH), rn 101 27 [l0, l1, l2, l3, l4, l5] (.int y :: .int x :: S) h = rn 101 28 [l0, l1, l2, l3, l4, l5] (.int (x <<< (y &&& 31)) :: S) h) ∧
  (∀ (l0 l1 l2 l3 l4 l5 : Value) (x : Int32) (y : Int32) (S : List Value) (h : zH), rn 101 28 [l0, l1, l2, l3, l4, l5] (.int y :: .int x :: S) h = rn 101 29 [l0, l1, l2, l3, l4, l5] (.int (x + y) :: S) h) ∧
  (∀ (l0 l1 l2 l3 l4 l5 : Value) (v0 : Value) (v1 : Value) (v2 : Value) (S : List Value) (h : zH), rn 101 29 [l0, l1, l2, l3, l4, l5] (v2 :: v1 :: v0 :: S) h = if zsum S ≤ 8 then zcall (ev 102 [v0, v1, v2] h) (fun v h => rn 101 32 [l0, l1, l2, l3, l4, l5] (zpush v S) h) else none) ∧
  (∀ (l0 l1 l2 l3 l4 l5 : Value) (x : Int32) (S : List Value) (h : zH), rn 101 32 [l0, l1, l2, l3, l4, l5] (.int x :: S) h = nl l4 (rn 101 34 [l0, l1, l2, l3, l4, .int x] S h)) ∧
  (∀ (l0 l1 l2 l3 l4 : Value) (x : Int32) (S : List Value) (h : zH), rn 101 34 [l0, l1, l2, l3, l4, .int x] S h = rn 101 36 [l0, l1, l2, l3, l4, .int x] (.int x :: S) h) ∧
  (∀ (l0 l1 l2 l3 l4 l5 : Value) (S : List Value) (h : zH), rn 101 36 [l0, l1, l2, l3, l4, l5] S h = rn 101 38 [l0, l1, l2, l3, l4, l5] (.int (nI 2147483647) :: S) h) ∧
  (∀ (l0 l1 l2 l3 l4 l5 : Value) (x : Int32) (y : Int32) (S : List Value) (h : zH), rn 101 38 [l0, l1, l2, l3, l4, l5] (.int y :: .int x :: S) h = if x = y then rn 101 41 [l0, l1, l2, l3, l4, l5] S h else rn 101 51 [l0, l1, l2, l3, l4, l5] S h) ∧
  (∀ (l0 l1 l2 l3 l4 l5 : Value) (v : Value) (S : List Value) (h : zH), rn 101 44 [l0, l1, l2, l3, l4, l5] (v :: S) h = c1 v (rn 101 45 [l0, l1, l2, l3, l4, l5] (v :: v :: S) h)) ∧
  (∀ (l0 l1 l2 l3 l4 : Value) (x : Int32) (S : List Value) (h : zH), rn 101 51 [l0, l1, l2, l3, l4, .int x] S h = rn 101 53 [l0, l1, l2, l3, l4, .int x] (.int x :: S) h) ∧
  (∀ (l1 l2 l3 l4 l5 : Value) (x : Nat) (S : List Value) (h : zH), rn 101 53 [.ref x, l1, l2, l3, l4, l5] S h = rn 101 54 [.ref x, l1, l2, l3, l4, l5] (.ref x :: S) h) ∧
  (∀ (l0 l1 l2 l3 l4 l5 : Value) (a : Nat) (S : List Value) (h : zH), rn 101 54 [l0, l1, l2, l3, l4, l5] (.ref a :: S) h = zgf h a 0 1 fun v => rn 101 57 [l0, l1, l2, l3, l4, l5] (v :: S) h) ∧
  (∀ (l0 l1 l2 l3 l4 l5 : Value) (x : Int32) (y : Int32) (S : List Value) (h : zH), rn 101 57 [l0, l1, l2, l3, l4, l5] (.int y :: .int x :: S) h = rn 101 58 [l0, l1, l2, l3, l4, l5] (.int (x >>> (y &&& 31)) :: S) h) ∧
  (∀ (l0 l1 l2 l3 l4 l5 : Value) (x : Int32) (h : zH), rn 101 58 [l0, l1, l2, l3, l4, l5] [.int x] h = some (some (.int x), h)) := ⟨fun _ _ _ _ _ _ _ _ => r_aload_nr (show zdec 101 0 = some (.aload_n 0, 1) by decide +kernel) rfl rfl,
  fun _ _ _ _ _ _ _ _ _ => r_getfield (show zdec 101 1 = some (.getfield 15, 3) by decide +kernel) (show zft.lookup (101 * zKEY + 15) = some (0, 0) by decide +kernel) rfl,
  fun _ _ _ _ _ _ _ _ _ => r_alen (show zdec 101 4 = some (.arraylength, 1) by decide +kernel) rfl,
  fun _ _ _ _ _ _ _ _ _ => r_istore_n (show zdec 101 5 = some (.istore_n 2, 1) by decide +kernel) rfl rfl (Nat.le_of_ble_eq_true rfl) rfl rfl,
  fun _ _ _ _ _ _ _ _ => r_iload_n (show zdec 101 6 = some (.iload_n 1, 1) by decide +kernel) rfl rfl,
  fun _ _ _ _ _ _ _ _ => r_aload_nr (show zdec 101 7 = some (.aload_n 0, 1) by decide +kernel) rfl rfl,
  fun _ _ _ _ _ _ _ _ _ => r_getfield (show zdec 101 8 = some (.getfield 22, 3) by decide +kernel) (show zft.lookup (101 * zKEY + 22) = some (0, 1) by decide +kernel) rfl,
  fun _ _ _ _ _ _ _ _ _ _ => r_ishl (show zdec 101 11 = some (.ishl, 1) by decide +kernel) rfl,
  fun _ _ _ _ _ _ _ _ _ => r_istore_n (show zdec 101 12 = some (.istore_n 3, 1) by decide +kernel) rfl rfl (Nat.le_of_ble_eq_true rfl) rfl rfl,
  fun _ _ _ _ _ _ _ _ => r_iload_n (show zdec 101 13 = some (.iload_n 3, 1) by decide +kernel) rfl rfl,
  fun _ _ _ _ _ _ _ _ => r_iload_n (show zdec 101 14 = some (.iload_n 2, 1) by decide +kernel) rfl rfl,
  fun _ _ _ _ _ _ _ _ _ _ => r_isub (show zdec 101 15 = some (.isub, 1) by decide +kernel) rfl,
  fun _ _ _ _ _ _ _ _ _ => r_istore (show zdec 101 16 = some (.istore 4, 2) by decide +kernel) rfl (Nat.le_of_ble_eq_true rfl) rfl rfl,
  fun _ _ _ _ _ _ _ _ => r_iload_n (show zdec 101 18 = some (.iload_n 2, 1) by decide +kernel) rfl rfl,
  fun _ _ _ _ _ _ _ _ => r_iload (show zdec 101 19 = some (.iload 4, 2) by decide +kernel) rfl rfl,
  fun _ _ _ _ _ _ _ _ => r_iload_n (show zdec 101 21 = some (.iload_n 2, 1) by decide +kernel) rfl rfl,
  fun _ _ _ _ _ _ _ _ => r_iconst (show zdec 101 22 = some (.iconst 2, 1) by decide +kernel) rfl rfl,
  fun _ _ _ _ _ _ _ _ => r_aload_nr (show zdec 101 23 = some (.aload_n 0, 1) by decide +kernel) rfl rfl,
  fun _ _ _ _ _ _ _ _ _ => r_getfield (show zdec 101 24 = some (.getfield 22, 3) by decide +kernel) (show zft.lookup (101 * zKEY + 22) = some (0, 1) by decide +kernel) rfl,
  fun _ _ _ _ _ _ _ _ _ _ => r_ishl (show zdec 101 27 = some (.ishl, 1) by decide +kernel) rfl,
  fun _ _ _ _ _ _ _ _ _ _ => r_iadd (show zdec 101 28 = some (.iadd, 1) by decide +kernel) rfl,
  fun _ _ _ _ _ _ _ _ _ _ _ => r_cS [_, _, _] rfl (show zdec 101 29 = some (.invokestatic 114, 3) by decide +kernel) (show zst.lookup (101 * zKEY + 114) = some (0, 102, 3, 0) by decide +kernel) (by decide) rfl,
  fun _ _ _ _ _ _ _ _ _ => r_istore (show zdec 101 32 = some (.istore 5, 2) by decide +kernel) rfl (Nat.le_of_ble_eq_true rfl) rfl rfl,
  fun _ _ _ _ _ _ _ _ => r_iload (show zdec 101 34 = some (.iload 5, 2) by decide +kernel) rfl rfl,
  fun _ _ _ _ _ _ _ _ => r_ldcI (show zdec 101 36 = some (.ldc 39, 2) by decide +kernel) (show zkt.lookup (101 * zKEY + 39) = some 2147483647 by decide +kernel) rfl,
  fun _ _ _ _ _ _ _ _ _ _ => r_icmpne (show zdec 101 38 = some (.if_icmp .ne 13, 3) by decide +kernel) rfl rfl,
  fun _ _ _ _ _ _ _ _ _ => r_dup (show zdec 101 44 = some (.dup, 1) by decide +kernel) rfl,
  fun _ _ _ _ _ _ _ _ => r_iload (show zdec 101 51 = some (.iload 5, 2) by decide +kernel) rfl rfl,
  fun _ _ _ _ _ _ _ _ => r_aload_nr (show zdec 101 53 = some (.aload_n 0, 1) by decide +kernel) rfl rfl,
  fun _ _ _ _ _ _ _ _ _ => r_getfield (show zdec 101 54 = some (.getfield 22, 3) by decide +kernel) (show zft.lookup (101 * zKEY + 22) = some (0, 1) by decide +kernel) rfl,
  fun _ _ _ _ _ _ _ _ _ _ => r_ishr (show zdec 101 57 = some (.ishr, 1) by decide +kernel) rfl,
  fun _ _ _ _ _ _ _ _ => r_ireti (show zdec 101 58 = some (.ireturn, 1) by decide +kernel) (by decide +kernel)⟩
theorem ze_101 : ∀ (a0 : Nat) (a1 : Int32) (h : zH), ev 101 [.ref a0, .int a1] h = rn 101 0 [.ref a0, .int a1, .float 0, .float 0, .float 0, .float 0] [] h := fun _ _ _ => if_pos (Nat.le_of_ble_eq_true rfl)
-- jdk/internal/util/ArraysSupport.newLength(III)I
theorem zr_102 : (∀ (l1 l2 l3 : Value) (x : Int32) (S : List Value) (h : zH), rn 102 0 [.int x, l1, l2, l3] S h = rn 102 1 [.int x, l1, l2, l3] (.int x :: S) h) ∧
  (∀ (l0 l2 l3 : Value) (x : Int32) (S : List Value) (h : zH), rn 102 1 [l0, .int x, l2, l3] S h = rn 102 2 [l0, .int x, l2, l3] (.int x :: S) h) ∧
  (∀ (l0 l1 l3 : Value) (x : Int32) (S : List Value) (h : zH), rn 102 2 [l0, l1, .int x, l3] S h = rn 102 3 [l0, l1, .int x, l3] (.int x :: S) h) ∧
  (∀ (l0 l1 l2 l3 : Value) (x : Int32) (y : Int32) (S : List Value) (h : zH), rn 102 3 [l0, l1, l2, l3] (.int y :: .int x :: S) h = if zsum S ≤ 8 then rn 102 6 [l0, l1, l2, l3] (.int (if x < y then y else x) :: S) h else none) ∧
  (∀ (l0 l1 l2 l3 : Value) (x : Int32) (y : Int32) (S : List Value) (h : zH), rn 102 6 [l0, l1, l2, l3] (.int y :: .int x :: S) h = rn 102 7 [l0, l1, l2, l3] (.int (x + y) :: S) h) ∧
  (∀ (l0 l1 l2 l3 : Value) (x : Int32) (S : List Value) (h : zH), rn 102 7 [l0, l1, l2, l3] (.int x :: S) h = nl l2 (rn 102 8 [l0, l1, l2, .int x] S h)) ∧
  (∀ (l0 l1 l2 l3 : Value) (S : List Value) (h : zH), rn 102 8 [l0, l1, l2, l3] S h = rn 102 9 [l0, l1, l2, l3] (.int (nI 0) :: S) h) ∧
  (∀ (l0 l1 l2 : Value) (x : Int32) (S : List Value) (h : zH), rn 102 9 [l0, l1, l2, .int x] S h = rn 102 10 [l0, l1, l2, .int x] (.int x :: S) h) ∧
  (∀ (l0 l1 l2 l3 : Value) (x : Int32) (y : Int32) (S : List Value) (h : zH), rn 102 10 [l0, l1, l2, l3] (.int y :: .int x :: S) h = if y ≤ x then rn 102 21 [l0, l1, l2, l3] S h else rn 102 13 [l0, l1, l2, l3] S h) ∧
  (∀ (l0 l1 l2 : Value) (x : Int32) (S : List Value) (h : zH), rn 102 13 [l0, l1, l2, .int x] S h = rn 102 14 [l0, l1, l2, .int x] (.int x :: S) h) ∧
  (∀ (l0 l1 l2 l3 : Value) (S : List Value) (h : zH), rn 102 14 [l0, l1, l2, l3] S h = rn 102 16 [l0, l1, l2, l3] (.int (nI 2147483639) :: S) h) ∧
  (∀ (l0 l1 l2 l3 : Value) (x : Int32) (y : Int32) (S : List Value) (h : zH), rn 102 16 [l0, l1, l2, l3] (.int y :: .int x :: S) h = if y < x then rn 102 21 [l0, l1, l2, l3] S h else rn 102 19 [l0, l1, l2, l3] S h) ∧
  (∀ (l0 l1 l2 : Value) (x : Int32) (S : List Value) (h : zH), rn 102 19 [l0, l1, l2, .int x] S h = rn 102 20 [l0, l1, l2, .int x] (.int x :: S) h) ∧
  (∀ (l0 l1 l2 l3 : Value) (x : Int32) (h : zH), rn 102 20 [l0, l1, l2, l3] [.int x] h = some (some (.int x), h)) ∧
  (∀ (l1 l2 l3 : Value) (x : Int32) (S : List Value) (h : zH), rn 102 21 [.int x, l1, l2, l3] S h = rn 102 22 [.int x, l1, l2, l3] (.int x :: S) h) ∧
  (∀ (l0 l2 l3 : Value) (x : Int32) (S : List Value) (h : zH), rn 102 22 [l0, .int x, l2, l3] S h = rn 102 23 [l0, .int x, l2, l3] (.int x :: S) h) ∧
  (∀ (l0 l1 l2 l3 : Value) (v0 : Value) (v1 : Value) (S : List Value) (h : zH), rn 102 23 [l0, l1, l2, l3] (v1 :: v0 :: S) h = if zsum S ≤ 8 then zcall (ev 104 [v0, v1] h) (fun v h => rn 102 26 [l0, l1, l2, l3] (zpush v S) h) else none) ∧
  (∀ (l0 l1 l2 l3 : Value) (x : Int32) (h : zH), rn 102 26 [l0, l1, l2, l3] [.int x] h = some (some (.int x), h)) := ⟨fun _ _ _ _ _ _ => r_iload_n (show zdec 102 0 = some (.iload_n 0, 1) by decide +kernel) rfl rfl,
  fun _ _ _ _ _ _ => r_iload_n (show zdec 102 1 = some (.iload_n 1, 1) by decide +kernel) rfl rfl,
  fun _ _ _ _ _ _ => r_iload_n (show zdec 102 2 = some (.iload_n 2, 1) by decide +kernel) rfl rfl,
  fun _ _ _ _ _ _ _ _ => r_cM0 (show zdec 102 3 = some (.invokestatic 194, 3) by decide +kernel) (show zst.lookup (102 * zKEY + 194) = some (9, 103, 2, 0) by decide +kernel) rfl,
  fun _ _ _ _ _ _ _ _ => r_iadd (show zdec 102 6 = some (.iadd, 1) by decide +kernel) rfl,
  fun _ _ _ _ _ _ _ => r_istore_n (show zdec 102 7 = some (.istore_n 3, 1) by decide +kernel) rfl rfl (Nat.le_of_ble_eq_true rfl) rfl rfl,
  fun _ _ _ _ _ _ => r_iconst (show zdec 102 8 = some (.iconst 0, 1) by decide +kernel) rfl rfl,
  fun _ _ _ _ _ _ => r_iload_n (show zdec 102 9 = some (.iload_n 3, 1) by decide +kernel) rfl rfl,
  fun _ _ _ _ _ _ _ _ => r_icmpge (show zdec 102 10 = some (.if_icmp .ge 11, 3) by decide +kernel) rfl rfl,
  fun _ _ _ _ _ _ => r_iload_n (show zdec 102 13 = some (.iload_n 3, 1) by decide +kernel) rfl rfl,
  fun _ _ _ _ _ _ => r_ldcI (show zdec 102 14 = some (.ldc 200, 2) by decide +kernel) (show zkt.lookup (102 * zKEY + 200) = some 2147483639 by decide +kernel) rfl,
  fun _ _ _ _ _ _ _ _ => r_icmpgt (show zdec 102 16 = some (.if_icmp .gt 5, 3) by decide +kernel) rfl rfl,
  fun _ _ _ _ _ _ => r_iload_n (show zdec 102 19 = some (.iload_n 3, 1) by decide +kernel) rfl rfl,
  fun _ _ _ _ _ _ => r_ireti (show zdec 102 20 = some (.ireturn, 1) by decide +kernel) (by decide +kernel),
  fun _ _ _ _ _ _ => r_iload_n (show zdec 102 21 = some (.iload_n 0, 1) by decide +kernel) rfl rfl,
  fun _ _ _ _ _ _ => r_iload_n (show zdec 102 22 = some (.iload_n 1, 1) by decide +kernel) rfl rfl,
  fun _ _ _ _ _ _ _ _ => r_cS [_, _] rfl (show zdec 102 23 = some (.invokestatic 201, 3) by decide +kernel) (show zst.lookup (102 * zKEY + 201) = some (0, 104, 2, 0) by decide +kernel) (by decide) rfl,
  fun _ _ _ _ _ _ => r_ireti (show zdec 102 26 = some (.ireturn, 1) by decide +kernel) (by decide +kernel)⟩
theorem ze_102 : ∀ (a0 : Int32) (a1 : Int32) (a2 : Int32) (h : zH), ev 102 [.int a0, .int a1, .int a2] h = rn 102 0 [.int a0, .int a1, .int a2, .float 0] [] h := fun _ _ _ _ => if_pos (Nat.le_of_ble_eq_true rfl)
-- jdk/internal/util/ArraysSupport.hugeLength(II)I
theorem zr_104 : (∀ (l1 l2 : Value) (x : Int32) (S : List Value) (h : zH), rn 104 0 [.int x, l1, l2] S h = rn 104 1 [.int x, l1, l2] (.int x :: S) h) ∧
  (∀ (l0 l2 : Value) (x : Int32) (S : List Value) (h : zH), rn 104 1 [l0, .int x, l2] S h = rn 104 2 [l0, .int x, l2] (.int x :: S) h) ∧
  (∀ (l0 l1 l2 : Value) (x : Int32) (y : Int32) (S : List Value) (h : zH), rn 104 2 [l0, l1, l2] (.int y :: .int x :: S) h = rn 104 3 [l0, l1, l2] (.int (x + y) :: S) h) ∧
  (∀ (l0 l1 l2 : Value) (x : Int32) (S : List Value) (h : zH), rn 104 3 [l0, l1, l2] (.int x :: S) h = nl l1 (rn 104 4 [l0, l1, .int x] S h)) ∧
  (∀ (l0 l1 : Value) (x : Int32) (S : List Value) (h : zH), rn 104 4 [l0, l1, .int x] S h = rn 104 5 [l0, l1, .int x] (.int x :: S) h) ∧
  (∀ (l0 l1 l2 : Value) (x : Int32) (S : List Value) (h : zH), rn 104 5 [l0, l1, l2] (.int x :: S) h = if nI 0 ≤ x then rn 104 49 [l0, l1, l2] S h else rn 104 8 [l0, l1, l2] S h) ∧
  (∀ (l0 l1 l2 : Value) (v : Value) (S : List Value) (h : zH), rn 104 11 [l0, l1, l2] (v :: S) h = c1 v (rn 104 12 [l0, l1, l2] (v :: v :: S) h)) ∧
  (∀ (l0 l1 l2 : Value) (v : Value) (S : List Value) (h : zH), rn 104 15 [l0, l1, l2] (v :: S) h = c1 v (rn 104 16 [l0, l1, l2] (v :: v :: S) h)) ∧
  (∀ (l1 l2 : Value) (x : Int32) (S : List Value) (h : zH), rn 104 24 [.int x, l1, l2] S h = rn 104 25 [.int x, l1, l2] (.int x :: S) h) ∧
  (∀ (l0 l2 : Value) (x : Int32) (S : List Value) (h : zH), rn 104 33 [l0, .int x, l2] S h = rn 104 34 [l0, .int x, l2] (.int x :: S) h) ∧
  (∀ (l0 l1 : Value) (x : Int32) (S : List Value) (h : zH), rn 104 49 [l0, l1, .int x] S h = rn 104 50 [l0, l1, .int x] (.int x :: S) h) ∧
  (∀ (l0 l1 l2 : Value) (S : List Value) (h : zH), rn 104 50 [l0, l1, l2] S h = rn 104 52 [l0, l1, l2] (.int (nI 2147483639) :: S) h) ∧
  (∀ (l0 l1 l2 : Value) (x : Int32) (y : Int32) (S : List Value) (h : zH), rn 104 52 [l0, l1, l2] (.int y :: .int x :: S) h = if y < x then rn 104 58 [l0, l1, l2] S h else rn 104 55 [l0, l1, l2] S h) ∧
  (∀ (l0 l1 l2 : Value) (S : List Value) (h : zH), rn 104 55 [l0, l1, l2] S h = rn 104 57 [l0, l1, l2] (.int (nI 2147483639) :: S) h) ∧
  (∀ (l0 l1 l2 : Value) (x : Int32) (h : zH), rn 104 57 [l0, l1, l2] [.int x] h = some (some (.int x), h)) ∧
  (∀ (l0 l1 : Value) (x : Int32) (S : List Value) (h : zH), rn 104 58 [l0, l1, .int x] S h = rn 104 59 [l0, l1, .int x] (.int x :: S) h) ∧
  (∀ (l0 l1 l2 : Value) (x : Int32) (h : zH), rn 104 59 [l0, l1, l2] [.int x] h = some (some (.int x), h)) := ⟨fun _ _ _ _ _ => r_iload_n (show zdec 104 0 = some (.iload_n 0, 1) by decide +kernel) rfl rfl,
  fun _ _ _ _ _ => r_iload_n (show zdec 104 1 = some (.iload_n 1, 1) by decide +kernel) rfl rfl,
  fun _ _ _ _ _ _ _ => r_iadd (show zdec 104 2 = some (.iadd, 1) by decide +kernel) rfl,
  fun _ _ _ _ _ _ => r_istore_n (show zdec 104 3 = some (.istore_n 2, 1) by decide +kernel) rfl rfl (Nat.le_of_ble_eq_true rfl) rfl rfl,
  fun _ _ _ _ _ => r_iload_n (show zdec 104 4 = some (.iload_n 2, 1) by decide +kernel) rfl rfl,
  fun _ _ _ _ _ _ => r_ifge (show zdec 104 5 = some (.ifCond .ge 44, 3) by decide +kernel) rfl rfl,
  fun _ _ _ _ _ _ => r_dup (show zdec 104 11 = some (.dup, 1) by decide +kernel) rfl,
  fun _ _ _ _ _ _ => r_dup (show zdec 104 15 = some (.dup, 1) by decide +kernel) rfl,
  fun _ _ _ _ _ => r_iload_n (show zdec 104 24 = some (.iload_n 0, 1) by decide +kernel) rfl rfl,
  fun _ _ _ _ _ => r_iload_n (show zdec 104 33 = some (.iload_n 1, 1) by decide +kernel) rfl rfl,
  fun _ _ _ _ _ => r_iload_n (show zdec 104 49 = some (.iload_n 2, 1) by decide +kernel) rfl rfl,
  fun _ _ _ _ _ => r_ldcI (show zdec 104 50 = some (.ldc 200, 2) by decide +kernel) (show zkt.lookup (104 * zKEY + 200) = some 2147483639 by decide +kernel) rfl,
  fun _ _ _ _ _ _ _ => r_icmpgt (show zdec 104 52 = some (.if_icmp .gt 6, 3) by decide +kernel) rfl rfl,
  fun _ _ _ _ _ => r_ldcI (show zdec 104 55 = some (.ldc 200, 2) by decide +kernel) (show zkt.lookup (104 * zKEY + 200) = some 2147483639 by decide +kernel) rfl,
  fun _ _ _ _ _ => r_ireti (show zdec 104 57 = some (.ireturn, 1) by decide +kernel) (by decide +kernel),
  fun _ _ _ _ _ => r_iload_n (show zdec 104 58 = some (.iload_n 2, 1) by decide +kernel) rfl rfl,
  fun _ _ _ _ _ => r_ireti (show zdec 104 59 = some (.ireturn, 1) by decide +kernel) (by decide +kernel)⟩
theorem ze_104 : ∀ (a0 : Int32) (a1 : Int32) (h : zH), ev 104 [.int a0, .int a1] h = rn 104 0 [.int a0, .int a1, .float 0] [] h := fun _ _ _ => if_pos (Nat.le_of_ble_eq_true rfl)
-- java/util/Arrays.copyOf([BI)[B
theorem zr_105 : (∀ (l0 l2 : Value) (x : Int32) (S : List Value) (h : zH), rn 105 0 [l0, .int x, l2] S h = rn 105 1 [l0, .int x, l2] (.int x :: S) h) ∧
  (∀ (l0 l1 l2 : Value) (S : List Value) (h : zH), rn 105 1 [l0, l1, l2] S h = ldA l0 (rn 105 2 [l0, l1, l2] (l0 :: S) h)) ∧
  (∀ (l0 l1 l2 : Value) (a : Nat) (S : List Value) (h : zH), rn 105 2 [l0, l1, l2] (.ref a :: S) h = zal h a fun x => rn 105 3 [l0, l1, l2] (.int x :: S) h) ∧
  (∀ (l0 l1 l2 : Value) (x : Int32) (y : Int32) (S : List Value) (h : zH), rn 105 3 [l0, l1, l2] (.int y :: .int x :: S) h = if x = y then rn 105 6 [l0, l1, l2] S h else rn 105 14 [l0, l1, l2] S h) ∧
  (∀ (l0 l1 l2 : Value) (S : List Value) (h : zH), rn 105 6 [l0, l1, l2] S h = ldA l0 (rn 105 7 [l0, l1, l2] (l0 :: S) h)) ∧
  (∀ (l0 l1 l2 : Value) (a : Nat) (h : zH), rn 105 13 [l0, l1, l2] [.ref a] h = some (some (.ref a), h)) ∧
  (∀ (l0 l2 : Value) (x : Int32) (S : List Value) (h : zH), rn 105 14 [l0, .int x, l2] S h = rn 105 15 [l0, .int x, l2] (.int x :: S) h) ∧
  (∀ (l0 l1 l2 : Value) (x : Int32) (S : List Value) (h : zH), rn 105 15 [l0, l1, l2] (.int x :: S) h = mkA x (rn 105 17 [l0, l1, l2] (.ref (100 + h.1) :: S) (znew h (.inl (3, x.toNatClampNeg, zz0 3)) x.toNatClampNeg))) ∧
  (∀ (l0 l1 l2 : Value) (v : Value) (S : List Value) (h : zH), rn 105 17 [l0, l1, l2] (v :: S) h = ldA v (nl l1 (rn 105 18 [l0, l1, v] S h))) ∧
  (∀ (l0 l1 l2 : Value) (S : List Value) (h : zH), rn 105 18 [l0, l1, l2] S h = ldA l0 (rn 105 19 [l0, l1, l2] (l0 :: S) h)) ∧
  (∀ (l0 l1 l2 : Value) (S : List Value) (h : zH), rn 105 19 [l0, l1, l2] S h = rn 105 20 [l0, l1, l2] (.int (nI 0) :: S) h) ∧
  (∀ (l0 l1 l2 : Value) (S : List Value) (h : zH), rn 105 20 [l0, l1, l2] S h = ldA l2 (rn 105 21 [l0, l1, l2] (l2 :: S) h)) ∧
  (∀ (l0 l1 l2 : Value) (S : List Value) (h : zH), rn 105 21 [l0, l1, l2] S h = rn 105 22 [l0, l1, l2] (.int (nI 0) :: S) h) ∧
  (∀ (l0 l1 l2 : Value) (S : List Value) (h : zH), rn 105 22 [l0, l1, l2] S h = ldA l0 (rn 105 23 [l0, l1, l2] (l0 :: S) h)) ∧
  (∀ (l0 l1 l2 : Value) (a : Nat) (S : List Value) (h : zH), rn 105 23 [l0, l1, l2] (.ref a :: S) h = zal h a fun x => rn 105 24 [l0, l1, l2] (.int x :: S) h) ∧
  (∀ (l0 l2 : Value) (x : Int32) (S : List Value) (h : zH), rn 105 24 [l0, .int x, l2] S h = rn 105 25 [l0, .int x, l2] (.int x :: S) h) ∧
  (∀ (l0 l1 l2 : Value) (x : Int32) (y : Int32) (S : List Value) (h : zH), rn 105 25 [l0, l1, l2] (.int y :: .int x :: S) h = if zsum S ≤ 8 then rn 105 28 [l0, l1, l2] (.int (if y < x then y else x) :: S) h else none) ∧
  (∀ (l0 l1 l2 : Value) (s : Nat) (d : Nat) (sp : Int32) (dp : Int32) (x : Int32) (S : List Value) (h : zH), rn 105 28 [l0, l1, l2] (.int x :: .int dp :: .ref d :: .int sp :: .ref s :: S) h = if zsum S ≤ 8 then zcpI h s sp d dp x (fun h => rn 105 31 [l0, l1, l2] S h) else none) ∧
  (∀ (l0 l1 l2 : Value) (S : List Value) (h : zH), rn 105 31 [l0, l1, l2] S h = ldA l2 (rn 105 32 [l0, l1, l2] (l2 :: S) h)) ∧
  (∀ (l0 l1 l2 : Value) (a : Nat) (h : zH), rn 105 32 [l0, l1, l2] [.ref a] h = some (some (.ref a), h)) := ⟨fun _ _ _ _ _ => r_iload_n (show zdec 105 0 = some (.iload_n 1, 1) by decide +kernel) rfl rfl,
  fun _ _ _ _ _ => r_aload_n (show zdec 105 1 = some (.aload_n 0, 1) by decide +kernel) rfl rfl,
  fun _ _ _ _ _ _ => r_alen (show zdec 105 2 = some (.arraylength, 1) by decide +kernel) rfl,
  fun _ _ _ _ _ _ _ => r_icmpne (show zdec 105 3 = some (.if_icmp .ne 11, 3) by decide +kernel) rfl rfl,
  fun _ _ _ _ _ => r_aload_n (show zdec 105 6 = some (.aload_n 0, 1) by decide +kernel) rfl rfl,
  fun _ _ _ _ _ => r_areta (C := .byte) (show zdec 105 13 = some (.areturn, 1) by decide +kernel) (by decide +kernel),
  fun _ _ _ _ _ => r_iload_n (show zdec 105 14 = some (.iload_n 1, 1) by decide +kernel) rfl rfl,
  fun _ _ _ _ _ _ => r_newa (show zdec 105 15 = some (.newarray .byte, 2) by decide +kernel) rfl rfl,
  fun _ _ _ _ _ _ => r_astore_n (show zdec 105 17 = some (.astore_n 2, 1) by decide +kernel) rfl rfl (Nat.le_of_ble_eq_true rfl) rfl rfl,
  fun _ _ _ _ _ => r_aload_n (show zdec 105 18 = some (.aload_n 0, 1) by decide +kernel) rfl rfl,
  fun _ _ _ _ _ => r_iconst (show zdec 105 19 = some (.iconst 0, 1) by decide +kernel) rfl rfl,
  fun _ _ _ _ _ => r_aload_n (show zdec 105 20 = some (.aload_n 2, 1) by decide +kernel) rfl rfl,
  fun _ _ _ _ _ => r_iconst (show zdec 105 21 = some (.iconst 0, 1) by decide +kernel) rfl rfl,
  fun _ _ _ _ _ => r_aload_n (show zdec 105 22 = some (.aload_n 0, 1) by decide +kernel) rfl rfl,
  fun _ _ _ _ _ _ => r_alen (show zdec 105 23 = some (.arraylength, 1) by decide +kernel) rfl,
  fun _ _ _ _ _ => r_iload_n (show zdec 105 24 = some (.iload_n 1, 1) by decide +kernel) rfl rfl,
  fun _ _ _ _ _ _ _ => r_cM1 (show zdec 105 25 = some (.invokestatic 304, 3) by decide +kernel) (show zst.lookup (105 * zKEY + 304) = some (9, 28, 2, 1) by decide +kernel) rfl,
  fun _ _ _ _ _ _ _ _ _ _ => r_cA (show zdec 105 28 = some (.invokestatic 150, 3) by decide +kernel) (show zst.lookup (105 * zKEY + 150) = some (8, 0, 5, 0) by decide +kernel) rfl,
  fun _ _ _ _ _ => r_aload_n (show zdec 105 31 = some (.aload_n 2, 1) by decide +kernel) rfl rfl,
  fun _ _ _ _ _ => r_areta (C := .byte) (show zdec 105 32 = some (.areturn, 1) by decide +kernel) (by decide +kernel)⟩
theorem ze_105 : ∀ (a0 : Nat) (a1 : Int32) (h : zH), ev 105 [.ref a0, .int a1] h = rn 105 0 [.ref a0, .int a1, .float 0] [] h := fun _ _ _ => if_pos (Nat.le_of_ble_eq_true rfl)
-- java/lang/AbstractStringBuilder.isLatin1()Z
theorem zr_106 : (∀ (l0 : Value) (S : List Value) (h : zH), rn 106 0 [l0] S h = rn 106 3 [l0] (.int 1 :: S) h) ∧
  (∀ (l0 : Value) (x : Int32) (S : List Value) (h : zH), rn 106 3 [l0] (.int x :: S) h = if x = nI 0 then rn 106 17 [l0] S h else rn 106 6 [l0] S h) ∧
  (∀ (x : Nat) (S : List Value) (h : zH), rn 106 6 [.ref x] S h = rn 106 7 [.ref x] (.ref x :: S) h) ∧
  (∀ (l0 : Value) (a : Nat) (S : List Value) (h : zH), rn 106 7 [l0] (.ref a :: S) h = zgf h a 0 1 fun v => rn 106 10 [l0] (v :: S) h) ∧
  (∀ (l0 : Value) (x : Int32) (S : List Value) (h : zH), rn 106 10 [l0] (.int x :: S) h = if x = nI 0 then rn 106 13 [l0] S h else rn 106 17 [l0] S h) ∧
  (∀ (l0 : Value) (S : List Value) (h : zH), rn 106 13 [l0] S h = rn 106 14 [l0] (.int (nI 1) :: S) h) ∧
  (∀ (l0 : Value) (S : List Value) (h : zH), rn 106 14 [l0] S h = rn 106 18 [l0] S h) ∧
  (∀ (l0 : Value) (S : List Value) (h : zH), rn 106 17 [l0] S h = rn 106 18 [l0] (.int (nI 0) :: S) h) ∧
  (∀ (l0 : Value) (x : Int32) (h : zH), rn 106 18 [l0] [.int x] h = if x = nI 0 ∨ x = nI 1 then some (some (.int x), h) else none) := ⟨fun _ _ _ => r_getstatic (show zdec 106 0 = some (.getstatic 18, 3) by decide +kernel) (show zgt.lookup (106 * zKEY + 18) = some 6 by decide +kernel) (by rfl) rfl,
  fun _ _ _ _ => r_ifeq (show zdec 106 3 = some (.ifCond .eq 14, 3) by decide +kernel) rfl rfl,
  fun _ _ _ => r_aload_nr (show zdec 106 6 = some (.aload_n 0, 1) by decide +kernel) rfl rfl,
  fun _ _ _ _ => r_getfield (show zdec 106 7 = some (.getfield 22, 3) by decide +kernel) (show zft.lookup (106 * zKEY + 22) = some (0, 1) by decide +kernel) rfl,
  fun _ _ _ _ => r_ifne (show zdec 106 10 = some (.ifCond .ne 7, 3) by decide +kernel) rfl rfl,
  fun _ _ _ => r_iconst (show zdec 106 13 = some (.iconst 1, 1) by decide +kernel) rfl rfl,
  fun _ _ _ => r_goto (show zdec 106 14 = some (.goto 4, 3) by decide +kernel) rfl,
  fun _ _ _ => r_iconst (show zdec 106 17 = some (.iconst 0, 1) by decide +kernel) rfl rfl,
  fun _ _ _ => r_iretb (show zdec 106 18 = some (.ireturn, 1) by decide +kernel) (by decide +kernel)⟩
theorem ze_106 : ∀ (a0 : Nat) (h : zH), ev 106 [.ref a0] h = rn 106 0 [.ref a0] [] h := fun _ _ => if_pos (Nat.le_of_ble_eq_true rfl)
-- java/lang/StringLatin1.fillNull([BII)V
theorem zr_107 : (∀ (l0 l1 l2 : Value) (S : List Value) (h : zH), rn 107 0 [l0, l1, l2] S h = ldA l0 (rn 107 1 [l0, l1, l2] (l0 :: S) h)) ∧
  (∀ (l0 l2 : Value) (x : Int32) (S : List Value) (h : zH), rn 107 1 [l0, .int x, l2] S h = rn 107 2 [l0, .int x, l2] (.int x :: S) h) ∧
  (∀ (l0 l1 : Value) (x : Int32) (S : List Value) (h : zH), rn 107 2 [l0, l1, .int x] S h = rn 107 3 [l0, l1, .int x] (.int x :: S) h) ∧
  (∀ (l0 l1 l2 : Value) (S : List Value) (h : zH), rn 107 3 [l0, l1, l2] S h = rn 107 4 [l0, l1, l2] (.int (nI 0) :: S) h) ∧
  (∀ (l0 l1 l2 : Value) (v0 : Value) (v1 : Value) (v2 : Value) (v3 : Value) (S : List Value) (h : zH), rn 107 4 [l0, l1, l2] (v3 :: v2 :: v1 :: v0 :: S) h = if zsum S ≤ 8 then zcall (ev 108 [v0, v1, v2, v3] h) (fun v h => rn 107 7 [l0, l1, l2] (zpush v S) h) else none) ∧
  (∀ (l0 l1 l2 : Value) (h : zH), rn 107 7 [l0, l1, l2] [] h = some (none, h)) := ⟨fun _ _ _ _ _ => r_aload_n (show zdec 107 0 = some (.aload_n 0, 1) by decide +kernel) rfl rfl,
  fun _ _ _ _ _ => r_iload_n (show zdec 107 1 = some (.iload_n 1, 1) by decide +kernel) rfl rfl,
  fun _ _ _ _ _ => r_iload_n (show zdec 107 2 = some (.iload_n 2, 1) by decide +kernel) rfl rfl,
  fun _ _ _ _ _ => r_iconst (show zdec 107 3 = some (.iconst 0, 1) by decide +kernel) rfl rfl,
  fun _ _ _ _ _ _ _ _ _ => r_cS [_, _, _, _] rfl (show zdec 107 4 = some (.invokestatic 236, 3) by decide +kernel) (show zst.lookup (107 * zKEY + 236) = some (0, 108, 4, 0) by decide +kernel) (by decide) rfl,
  fun _ _ _ _ => r_vret (show zdec 107 7 = some (.return_, 1) by decide +kernel) (by decide +kernel)⟩
theorem ze_107 : ∀ (a0 : Nat) (a1 : Int32) (a2 : Int32) (h : zH), ev 107 [.ref a0, .int a1, .int a2] h = rn 107 0 [.ref a0, .int a1, .int a2] [] h := fun _ _ _ _ => if_pos (Nat.le_of_ble_eq_true rfl)
-- java/util/Arrays.fill([BIIB)V
theorem zr_108 : (∀ (l0 l1 l2 l3 l4 : Value) (S : List Value) (h : zH), rn 108 0 [l0, l1, l2, l3, l4] S h = ldA l0 (rn 108 1 [l0, l1, l2, l3, l4] (l0 :: S) h)) ∧
  (∀ (l0 l1 l2 l3 l4 : Value) (a : Nat) (S : List Value) (h : zH), rn 108 1 [l0, l1, l2, l3, l4] (.ref a :: S) h = zal h a fun x => rn 108 2 [l0, l1, l2, l3, l4] (.int x :: S) h) ∧
  (∀ (l0 l2 l3 l4 : Value) (x : Int32) (S : List Value) (h : zH), rn 108 2 [l0, .int x, l2, l3, l4] S h = rn 108 3 [l0, .int x, l2, l3, l4] (.int x :: S) h) ∧
  (∀ (l0 l1 l3 l4 : Value) (x : Int32) (S : List Value) (h : zH), rn 108 3 [l0, l1, .int x, l3, l4] S h = rn 108 4 [l0, l1, .int x, l3, l4] (.int x :: S) h) ∧
  (∀ (l0 l1 l2 l3 l4 : Value) (v0 : Value) (v1 : Value) (v2 : Value) (S : List Value) (h : zH), rn 108 4 [l0, l1, l2, l3, l4] (v2 :: v1 :: v0 :: S) h = if zsum S ≤ 8 then zcall (ev 109 [v0, v1, v2] h) (fun v h => rn 108 7 [l0, l1, l2, l3, l4] (zpush v S) h) else none) ∧
  (∀ (l0 l2 l3 l4 : Value) (x : Int32) (S : List Value) (h : zH), rn 108 7 [l0, .int x, l2, l3, l4] S h = rn 108 8 [l0, .int x, l2, l3, l4] (.int x :: S) h) ∧
  (∀ (l0 l1 l2 l3 l4 : Value) (x : Int32) (S : List Value) (h : zH), rn 108 8 [l0, l1, l2, l3, l4] (.int x :: S) h = nl l3 (rn 108 10 [l0, l1, l2, l3, .int x] S h)) ∧
  (∀ (l0 l1 l3 l4 : Value) (x : Int32) (S : List Value) (h : zH), rn 108 12 [l0, l1, .int x, l3, l4] S h = rn 108 13 [l0, l1, .int x, l3, l4] (.int x :: S) h) ∧
  (∀ (l0 l1 l2 l3 l4 : Value) (x : Int32) (y : Int32) (S : List Value) (h : zH), rn 108 13 [l0, l1, l2, l3, l4] (.int y :: .int x :: S) h = if y ≤ x then rn 108 27 [l0, l1, l2, l3, l4] S h else rn 108 16 [l0, l1, l2, l3, l4] S h) ∧
  (∀ (l0 l1 l2 l3 l4 : Value) (S : List Value) (h : zH), rn 108 16 [l0, l1, l2, l3, l4] S h = ldA l0 (rn 108 17 [l0, l1, l2, l3, l4] (l0 :: S) h)) ∧
  (∀ (l0 l1 l2 l3 : Value) (x : Int32) (S : List Value) (h : zH), rn 108 17 [l0, l1, l2, l3, .int x] S h = rn 108 19 [l0, l1, l2, l3, .int x] (.int x :: S) h) ∧
  (∀ (l0 l1 l2 l4 : Value) (x : Int32) (S : List Value) (h : zH), rn 108 19 [l0, l1, l2, .int x, l4] S h = rn 108 20 [l0, l1, l2, .int x, l4] (.int x :: S) h) ∧
  (∀ (l0 l1 l2 l3 l4 : Value) (a : Nat) (j : Int32) (x : Int32) (S : List Value) (h : zH), rn 108 20 [l0, l1, l2, l3, l4] (.int x :: .int j :: .ref a :: S) h = zsi h a 3 j (vp_nar .byte x) fun h => rn 108 21 [l0, l1, l2, l3, l4] S h) ∧
  (∀ (l0 l1 l2 l3 : Value) (x : Int32) (S : List Value) (h : zH), rn 108 21 [l0, l1, l2, l3, .int x] S h = nl l3 (rn 108 24 [l0, l1, l2, l3, .int (x + (nI 1))] S h)) ∧
  (∀ (l0 l1 l2 l3 l4 : Value) (S : List Value) (h : zH), rn 108 24 [l0, l1, l2, l3, l4] S h = rn 108 10 [l0, l1, l2, l3, l4] S h) ∧
  (∀ (l0 l1 l2 l3 l4 : Value) (h : zH), rn 108 27 [l0, l1, l2, l3, l4] [] h = some (none, h)) := ⟨fun _ _ _ _ _ _ _ => r_aload_n (show zdec 108 0 = some (.aload_n 0, 1) by decide +kernel) rfl rfl,
  fun _ _ _ _ _ _ _ _ => r_alen (show zdec 108 1 = some (.arraylength, 1) by decide +kernel) rfl,
  fun _ _ _ _ _ _ _ => r_iload_n (show zdec 108 2 = some (.iload_n 1, 1) by decide +kernel) rfl rfl,
  fun _ _ _ _ _ _ _ => r_iload_n (show zdec 108 3 = some (.iload_n 2, 1) by decide +kernel) rfl rfl,
  fun _ _ _ _ _ _ _ _ _ _ => r_cS [_, _, _] rfl (show zdec 108 4 = some (.invokestatic 13, 3) by decide +kernel) (show zst.lookup (108 * zKEY + 13) = some (0, 109, 3, 0) by decide +kernel) (by decide) rfl,
  fun _ _ _ _ _ _ _ => r_iload_n (show zdec 108 7 = some (.iload_n 1, 1) by decide +kernel) rfl rfl,
  fun _ _ _ _ _ _ _ _ => r_istore (show zdec 108 8 = some (.istore 4, 2) by decide +kernel) rfl (Nat.le_of_ble_eq_true rfl) rfl rfl,
  fun _ _ _ _ _ _ _ => r_iload_n (show zdec 108 12 = some (.iload_n 2, 1) by decide +kernel) rfl rfl,
  fun _ _ _ _ _ _ _ _ _ => r_icmpge (show zdec 108 13 = some (.if_icmp .ge 14, 3) by decide +kernel) rfl rfl,
  fun _ _ _ _ _ _ _ => r_aload_n (show zdec 108 16 = some (.aload_n 0, 1) by decide +kernel) rfl rfl,
  fun _ _ _ _ _ _ _ => r_iload (show zdec 108 17 = some (.iload 4, 2) by decide +kernel) rfl rfl,
  fun _ _ _ _ _ _ _ => r_iload_n (show zdec 108 19 = some (.iload_n 3, 1) by decide +kernel) rfl rfl,
  fun _ _ _ _ _ _ _ _ _ _ => r_bast (show zdec 108 20 = some (.bastore, 1) by decide +kernel) rfl,
  fun _ _ _ _ _ _ _ => r_iinc (show zdec 108 21 = some (.iinc 4 1, 3) by decide +kernel) rfl rfl rfl (Nat.le_of_ble_eq_true rfl) rfl rfl,
  fun _ _ _ _ _ _ _ => r_goto (show zdec 108 24 = some (.goto (-14), 3) by decide +kernel) rfl,
  fun _ _ _ _ _ _ => r_vret (show zdec 108 27 = some (.return_, 1) by decide +kernel) (by decide +kernel)⟩
theorem zl_108_10 : ∀ (l0 l1 l2 l3 : Value) (x : Int32) (S : List Value) (h : zH), rn 108 10 [l0, l1, l2, l3, .int x] S h = rn 108 12 [l0, l1, l2, l3, .int x] (.int x :: S) h := fun _ _ _ _ _ _ _ => r_iload (show zdec 108 10 = some (.iload 4, 2) by decide +kernel) rfl rfl
theorem ze_108 : ∀ (a0 : Nat) (a1 : Int32) (a2 : Int32) (a3 : Int32) (h : zH), ev 108 [.ref a0, .int a1, .int a2, .int a3] h = rn 108 0 [.ref a0, .int a1, .int a2, .int a3, .float 0] [] h := fun _ _ _ _ _ => if_pos (Nat.le_of_ble_eq_true rfl)
-- java/util/Arrays.rangeCheck(III)V
theorem zr_109 : (∀ (l0 l2 : Value) (x : Int32) (S : List Value) (h : zH), rn 109 0 [l0, .int x, l2] S h = rn 109 1 [l0, .int x, l2] (.int x :: S) h) ∧
  (∀ (l0 l1 : Value) (x : Int32) (S : List Value) (h : zH), rn 109 1 [l0, l1, .int x] S h = rn 109 2 [l0, l1, .int x] (.int x :: S) h) ∧
  (∀ (l0 l1 l2 : Value) (x : Int32) (y : Int32) (S : List Value) (h : zH), rn 109 2 [l0, l1, l2] (.int y :: .int x :: S) h = if x ≤ y then rn 109 46 [l0, l1, l2] S h else rn 109 5 [l0, l1, l2] S h) ∧
  (∀ (l0 l1 l2 : Value) (v : Value) (S : List Value) (h : zH), rn 109 8 [l0, l1, l2] (v :: S) h = c1 v (rn 109 9 [l0, l1, l2] (v :: v :: S) h)) ∧
  (∀ (l0 l1 l2 : Value) (v : Value) (S : List Value) (h : zH), rn 109 12 [l0, l1, l2] (v :: S) h = c1 v (rn 109 13 [l0, l1, l2] (v :: v :: S) h)) ∧
  (∀ (l0 l2 : Value) (x : Int32) (S : List Value) (h : zH), rn 109 21 [l0, .int x, l2] S h = rn 109 22 [l0, .int x, l2] (.int x :: S) h) ∧
  (∀ (l0 l1 : Value) (x : Int32) (S : List Value) (h : zH), rn 109 30 [l0, l1, .int x] S h = rn 109 31 [l0, l1, .int x] (.int x :: S) h) ∧
  (∀ (l0 l2 : Value) (x : Int32) (S : List Value) (h : zH), rn 109 46 [l0, .int x, l2] S h = rn 109 47 [l0, .int x, l2] (.int x :: S) h) ∧
  (∀ (l0 l1 l2 : Value) (x : Int32) (S : List Value) (h : zH), rn 109 47 [l0, l1, l2] (.int x :: S) h = if nI 0 ≤ x then rn 109 59 [l0, l1, l2] S h else rn 109 50 [l0, l1, l2] S h) ∧
  (∀ (l0 l1 l2 : Value) (v : Value) (S : List Value) (h : zH), rn 109 53 [l0, l1, l2] (v :: S) h = c1 v (rn 109 54 [l0, l1, l2] (v :: v :: S) h)) ∧
  (∀ (l0 l2 : Value) (x : Int32) (S : List Value) (h : zH), rn 109 54 [l0, .int x, l2] S h = rn 109 55 [l0, .int x, l2] (.int x :: S) h) ∧
  (∀ (l0 l1 : Value) (x : Int32) (S : List Value) (h : zH), rn 109 59 [l0, l1, .int x] S h = rn 109 60 [l0, l1, .int x] (.int x :: S) h) ∧
  (∀ (l1 l2 : Value) (x : Int32) (S : List Value) (h : zH), rn 109 60 [.int x, l1, l2] S h = rn 109 61 [.int x, l1, l2] (.int x :: S) h) ∧
  (∀ (l0 l1 l2 : Value) (x : Int32) (y : Int32) (S : List Value) (h : zH), rn 109 61 [l0, l1, l2] (.int y :: .int x :: S) h = if x ≤ y then rn 109 73 [l0, l1, l2] S h else rn 109 64 [l0, l1, l2] S h) ∧
  (∀ (l0 l1 l2 : Value) (v : Value) (S : List Value) (h : zH), rn 109 67 [l0, l1, l2] (v :: S) h = c1 v (rn 109 68 [l0, l1, l2] (v :: v :: S) h)) ∧
  (∀ (l0 l1 : Value) (x : Int32) (S : List Value) (h : zH), rn 109 68 [l0, l1, .int x] S h = rn 109 69 [l0, l1, .int x] (.int x :: S) h) ∧
  (∀ (l0 l1 l2 : Value) (h : zH), rn 109 73 [l0, l1, l2] [] h = some (none, h)) := ⟨fun _ _ _ _ _ => r_iload_n (show zdec 109 0 = some (.iload_n 1, 1) by decide +kernel) rfl rfl,
  fun _ _ _ _ _ => r_iload_n (show zdec 109 1 = some (.iload_n 2, 1) by decide +kernel) rfl rfl,
  fun _ _ _ _ _ _ _ => r_icmple (show zdec 109 2 = some (.if_icmp .le 44, 3) by decide +kernel) rfl rfl,
  fun _ _ _ _ _ _ => r_dup (show zdec 109 8 = some (.dup, 1) by decide +kernel) rfl,
  fun _ _ _ _ _ _ => r_dup (show zdec 109 12 = some (.dup, 1) by decide +kernel) rfl,
  fun _ _ _ _ _ => r_iload_n (show zdec 109 21 = some (.iload_n 1, 1) by decide +kernel) rfl rfl,
  fun _ _ _ _ _ => r_iload_n (show zdec 109 30 = some (.iload_n 2, 1) by decide +kernel) rfl rfl,
  fun _ _ _ _ _ => r_iload_n (show zdec 109 46 = some (.iload_n 1, 1) by decide +kernel) rfl rfl,
  fun _ _ _ _ _ _ => r_ifge (show zdec 109 47 = some (.ifCond .ge 12, 3) by decide +kernel) rfl rfl,
  fun _ _ _ _ _ _ => r_dup (show zdec 109 53 = some (.dup, 1) by decide +kernel) rfl,
  fun _ _ _ _ _ => r_iload_n (show zdec 109 54 = some (.iload_n 1, 1) by decide +kernel) rfl rfl,
  fun _ _ _ _ _ => r_iload_n (show zdec 109 59 = some (.iload_n 2, 1) by decide +kernel) rfl rfl,
  fun _ _ _ _ _ => r_iload_n (show zdec 109 60 = some (.iload_n 0, 1) by decide +kernel) rfl rfl,
  fun _ _ _ _ _ _ _ => r_icmple (show zdec 109 61 = some (.if_icmp .le 12, 3) by decide +kernel) rfl rfl,
  fun _ _ _ _ _ _ => r_dup (show zdec 109 67 = some (.dup, 1) by decide +kernel) rfl,
  fun _ _ _ _ _ => r_iload_n (show zdec 109 68 = some (.iload_n 2, 1) by decide +kernel) rfl rfl,
  fun _ _ _ _ => r_vret (show zdec 109 73 = some (.return_, 1) by decide +kernel) (by decide +kernel)⟩
theorem ze_109 : ∀ (a0 : Int32) (a1 : Int32) (a2 : Int32) (h : zH), ev 109 [.int a0, .int a1, .int a2] h = rn 109 0 [.int a0, .int a1, .int a2] [] h := fun _ _ _ _ => if_pos (Nat.le_of_ble_eq_true rfl)
-- java/lang/StringUTF16.fillNull([BII)V
theorem zr_110 : (∀ (l0 l1 l2 : Value) (S : List Value) (h : zH), rn 110 0 [l0, l1, l2] S h = ldA l0 (rn 110 1 [l0, l1, l2] (l0 :: S) h)) ∧
  (∀ (l0 l2 : Value) (x : Int32) (S : List Value) (h : zH), rn 110 1 [l0, .int x, l2] S h = rn 110 2 [l0, .int x, l2] (.int x :: S) h) ∧
  (∀ (l0 l1 l2 : Value) (S : List Value) (h : zH), rn 110 2 [l0, l1, l2] S h = rn 110 3 [l0, l1, l2] (.int (nI 1) :: S) h) ∧
  (∀ (l0 l1 l2 : Value) (x : Int32) (y : Int32) (S : List Value) (h : zH), rn 110 3 [l0, l1, l2] (.int y :: .int x :: S) h = rn 110 4 [l0, l1, l2] (.int (x <<< (y &&& 31)) :: S) h) ∧
  (∀ (l0 l1 : Value) (x : Int32) (S : List Value) (h : zH), rn 110 4 [l0, l1, .int x] S h = rn 110 5 [l0, l1, .int x] (.int x :: S) h) ∧
  (∀ (l0 l1 l2 : Value) (S : List Value) (h : zH), rn 110 5 [l0, l1, l2] S h = rn 110 6 [l0, l1, l2] (.int (nI 1) :: S) h) ∧
  (∀ (l0 l1 l2 : Value) (x : Int32) (y : Int32) (S : List Value) (h : zH), rn 110 6 [l0, l1, l2] (.int y :: .int x :: S) h = rn 110 7 [l0, l1, l2] (.int (x <<< (y &&& 31)) :: S) h) ∧
  (∀ (l0 l1 l2 : Value) (S : List Value) (h : zH), rn 110 7 [l0, l1, l2] S h = rn 110 8 [l0, l1, l2] (.int (nI 0) :: S) h) ∧
  (∀ (l0 l1 l2 : Value) (v0 : Value) (v1 : Value) (v2 : Value) (v3 : Value) (S : List Value) (h : zH), rn 110 8 [l0, l1, l2] (v3 :: v2 :: v1 :: v0 :: S) h = if zsum S ≤ 8 then zcall (ev 108 [v0, v1, v2, v3] h) (fun v h => rn 110 11 [l0, l1, l2] (zpush v S) h) else none) ∧
  (∀ (l0 l1 l2 : Value) (h : zH), rn 110 11 [l0, l1, l2] [] h = some (none, h)) := ⟨fun _ _ _ _ _ => r_aload_n (show zdec 110 0 = some (.aload_n 0, 1) by decide +kernel) rfl rfl,
  fun _ _ _ _ _ => r_iload_n (show zdec 110 1 = some (.iload_n 1, 1) by decide +kernel) rfl rfl,
  fun _ _ _ _ _ => r_iconst (show zdec 110 2 = some (.iconst 1, 1) by decide +kernel) rfl rfl,
  fun _ _ _ _ _ _ _ => r_ishl (show zdec 110 3 = some (.ishl, 1) by decide +kernel) rfl,
  fun _ _ _ _ _ => r_iload_n (show zdec 110 4 = some (.iload_n 2, 1) by decide +kernel) rfl rfl,
  fun _ _ _ _ _ => r_iconst (show zdec 110 5 = some (.iconst 1, 1) by decide +kernel) rfl rfl,
  fun _ _ _ _ _ _ _ => r_ishl (show zdec 110 6 = some (.ishl, 1) by decide +kernel) rfl,
  fun _ _ _ _ _ => r_iconst (show zdec 110 7 = some (.iconst 0, 1) by decide +kernel) rfl rfl,
  fun _ _ _ _ _ _ _ _ _ => r_cS [_, _, _, _] rfl (show zdec 110 8 = some (.invokestatic 380, 3) by decide +kernel) (show zst.lookup (110 * zKEY + 380) = some (0, 108, 4, 0) by decide +kernel) (by decide) rfl,
  fun _ _ _ _ => r_vret (show zdec 110 11 = some (.return_, 1) by decide +kernel) (by decide +kernel)⟩
theorem ze_110 : ∀ (a0 : Nat) (a1 : Int32) (a2 : Int32) (h : zH), ev 110 [.ref a0, .int a1, .int a2] h = rn 110 0 [.ref a0, .int a1, .int a2] [] h := fun _ _ _ _ => if_pos (Nat.le_of_ble_eq_true rfl)
-- java/lang/StringBuilder.append(Ljava/lang/String;)Ljava/lang/StringBuilder;
theorem zr_113 : (∀ (l1 : Value) (x : Nat) (S : List Value) (h : zH), rn 113 0 [.ref x, l1] S h = rn 113 1 [.ref x, l1] (.ref x :: S) h) ∧
  (∀ (l0 l1 : Value) (S : List Value) (h : zH), rn 113 1 [l0, l1] S h = ldA l1 (rn 113 2 [l0, l1] (l1 :: S) h)) ∧
  (∀ (l0 l1 : Value) (o : Nat) (v0 : Value) (S : List Value) (h : zH), rn 113 2 [l0, l1] (v0 :: .ref o :: S) h = if zkd h o = 0 ∧ zsum S ≤ 8 then zcall (ev 114 [.ref o, v0] h) (fun v h => rn 113 5 [l0, l1] (zpush v S) h) else none) ∧
  (∀ (l0 l1 : Value) (v : Value) (S : List Value) (h : zH), rn 113 5 [l0, l1] (v :: S) h = c1 v (rn 113 6 [l0, l1] S h)) ∧
  (∀ (l1 : Value) (x : Nat) (S : List Value) (h : zH), rn 113 6 [.ref x, l1] S h = rn 113 7 [.ref x, l1] (.ref x :: S) h) ∧
  (∀ (l0 l1 : Value) (a : Nat) (h : zH), rn 113 7 [l0, l1] [.ref a] h = some (some (.ref a), h)) := ⟨fun _ _ _ _ => r_aload_nr (show zdec 113 0 = some (.aload_n 0, 1) by decide +kernel) rfl rfl,
  fun _ _ _ _ => r_aload_n (show zdec 113 1 = some (.aload_n 1, 1) by decide +kernel) rfl rfl,
  fun _ _ _ _ _ _ => r_cU [_] rfl (show zdec 113 2 = some (.invokespecial 29, 3) by decide +kernel) (show zst.lookup (113 * zKEY + 29) = some (6, 114, 1, 0) by decide +kernel) rfl,
  fun _ _ _ _ _ => r_pop (show zdec 113 5 = some (.pop, 1) by decide +kernel) rfl,
  fun _ _ _ _ => r_aload_nr (show zdec 113 6 = some (.aload_n 0, 1) by decide +kernel) rfl rfl,
  fun _ _ _ _ => r_areto (C := "java/lang/StringBuilder") (show zdec 113 7 = some (.areturn, 1) by decide +kernel) (by decide +kernel)⟩
theorem ze_113 : ∀ (a0 : Nat) (a1 : Nat) (h : zH), ev 113 [.ref a0, .ref a1] h = rn 113 0 [.ref a0, .ref a1] [] h := fun _ _ _ => if_pos (Nat.le_of_ble_eq_true rfl)
-- java/lang/AbstractStringBuilder.append(Ljava/lang/String;)Ljava/lang/AbstractStringBuilder;
theorem zr_114 : (∀ (l0 l1 l2 : Value) (S : List Value) (h : zH), rn 114 0 [l0, l1, l2] S h = ldA l1 (rn 114 1 [l0, l1, l2] (l1 :: S) h)) ∧
  (∀ (l0 l1 l2 : Value) (v : Value) (S : List Value) (h : zH), rn 114 1 [l0, l1, l2] (v :: S) h = ifN v (rn 114 4 [l0, l1, l2] S h) (rn 114 9 [l0, l1, l2] S h)) ∧
  (∀ (l1 l2 : Value) (x : Nat) (S : List Value) (h : zH), rn 114 4 [.ref x, l1, l2] S h = rn 114 5 [.ref x, l1, l2] (.ref x :: S) h) ∧
  (∀ (l0 l1 l2 : Value) (a : Nat) (h : zH), rn 114 8 [l0, l1, l2] [.ref a] h = some (some (.ref a), h)) ∧
  (∀ (l0 l1 l2 : Value) (S : List Value) (h : zH), rn 114 9 [l0, l1, l2] S h = ldA l1 (rn 114 10 [l0, l1, l2] (l1 :: S) h)) ∧
  (∀ (l0 l1 l2 : Value) (o : Nat) (S : List Value) (h : zH), rn 114 10 [l0, l1, l2] (.ref o :: S) h = if zkd h o = 13 ∧ zsum S ≤ 8 then zcall (ev 122 [.ref o] h) (fun v h => rn 114 13 [l0, l1, l2] (zpush v S) h) else none) ∧
  (∀ (l0 l1 l2 : Value) (x : Int32) (S : List Value) (h : zH), rn 114 13 [l0, l1, l2] (.int x :: S) h = nl l1 (rn 114 14 [l0, l1, .int x] S h)) ∧
  (∀ (l1 l2 : Value) (x : Nat) (S : List Value) (h : zH), rn 114 14 [.ref x, l1, l2] S h = rn 114 15 [.ref x, l1, l2] (.ref x :: S) h) ∧
  (∀ (l1 l2 : Value) (x : Nat) (S : List Value) (h : zH), rn 114 15 [.ref x, l1, l2] S h = rn 114 16 [.ref x, l1, l2] (.ref x :: S) h) ∧
  (∀ (l0 l1 l2 : Value) (a : Nat) (S : List Value) (h : zH), rn 114 16 [l0, l1, l2] (.ref a :: S) h = zgf h a 0 3 fun v => rn 114 19 [l0, l1, l2] (v :: S) h) ∧
  (∀ (l0 l1 : Value) (x : Int32) (S : List Value) (h : zH), rn 114 19 [l0, l1, .int x] S h = rn 114 20 [l0, l1, .int x] (.int x :: S) h) ∧
  (∀ (l0 l1 l2 : Value) (x : Int32) (y : Int32) (S : List Value) (h : zH), rn 114 20 [l0, l1, l2] (.int y :: .int x :: S) h = rn 114 21 [l0, l1, l2] (.int (x + y) :: S) h) ∧
  (∀ (l1 l2 : Value) (x : Nat) (S : List Value) (h : zH), rn 114 24 [.ref x, l1, l2] S h = rn 114 25 [.ref x, l1, l2] (.ref x :: S) h) ∧
  (∀ (l1 l2 : Value) (x : Nat) (S : List Value) (h : zH), rn 114 25 [.ref x, l1, l2] S h = rn 114 26 [.ref x, l1, l2] (.ref x :: S) h) ∧
  (∀ (l0 l1 l2 : Value) (a : Nat) (S : List Value) (h : zH), rn 114 26 [l0, l1, l2] (.ref a :: S) h = zgf h a 0 3 fun v => rn 114 29 [l0, l1, l2] (v :: S) h) ∧
  (∀ (l0 l1 l2 : Value) (S : List Value) (h : zH), rn 114 29 [l0, l1, l2] S h = ldA l1 (rn 114 30 [l0, l1, l2] (l1 :: S) h)) ∧
  (∀ (l1 l2 : Value) (x : Nat) (S : List Value) (h : zH), rn 114 33 [.ref x, l1, l2] S h = rn 114 34 [.ref x, l1, l2] (.ref x :: S) h) ∧
  (∀ (l0 l1 l2 : Value) (v : Value) (S : List Value) (h : zH), rn 114 34 [l0, l1, l2] (v :: S) h = c1 v (rn 114 35 [l0, l1, l2] (v :: v :: S) h)) ∧
  (∀ (l0 l1 l2 : Value) (a : Nat) (S : List Value) (h : zH), rn 114 35 [l0, l1, l2] (.ref a :: S) h = zgf h a 0 3 fun v => rn 114 38 [l0, l1, l2] (v :: S) h) ∧
  (∀ (l0 l1 : Value) (x : Int32) (S : List Value) (h : zH), rn 114 38 [l0, l1, .int x] S h = rn 114 39 [l0, l1, .int x] (.int x :: S) h) ∧
  (∀ (l0 l1 l2 : Value) (x : Int32) (y : Int32) (S : List Value) (h : zH), rn 114 39 [l0, l1, l2] (.int y :: .int x :: S) h = rn 114 40 [l0, l1, l2] (.int (x + y) :: S) h) ∧
  (∀ (l0 l1 l2 : Value) (a : Nat) (v : Value) (S : List Value) (h : zH), rn 114 40 [l0, l1, l2] (v :: .ref a :: S) h = zpf h a 0 3 v fun h => rn 114 43 [l0, l1, l2] S h) ∧
  (∀ (l1 l2 : Value) (x : Nat) (S : List Value) (h : zH), rn 114 43 [.ref x, l1, l2] S h = rn 114 44 [.ref x, l1, l2] (.ref x :: S) h) ∧
  (∀ (l0 l1 l2 : Value) (a : Nat) (h : zH), rn 114 44 [l0, l1, l2] [.ref a] h = some (some (.ref a), h)) := ⟨fun _ _ _ _ _ => r_aload_n (show zdec 114 0 = some (.aload_n 1, 1) by decide +kernel) rfl rfl,
  fun _ _ _ _ _ _ => r_ifnonnull (show zdec 114 1 = some (.ifnonnull 8, 3) by decide +kernel) rfl rfl,
  fun _ _ _ _ _ => r_aload_nr (show zdec 114 4 = some (.aload_n 0, 1) by decide +kernel) rfl rfl,
  fun _ _ _ _ _ => r_areto (C := "java/lang/AbstractStringBuilder") (show zdec 114 8 = some (.areturn, 1) by decide +kernel) (by decide +kernel),
  fun _ _ _ _ _ => r_aload_n (show zdec 114 9 = some (.aload_n 1, 1) by decide +kernel) rfl rfl,
  fun _ _ _ _ _ _ => r_cV [] rfl (show zdec 114 10 = some (.invokevirtual 32, 3) by decide +kernel) (show zst.lookup (114 * zKEY + 32) = some (1, 122, 0, 13) by decide +kernel) (by decide) rfl,
  fun _ _ _ _ _ _ => r_istore_n (show zdec 114 13 = some (.istore_n 2, 1) by decide +kernel) rfl rfl (Nat.le_of_ble_eq_true rfl) rfl rfl,
  fun _ _ _ _ _ => r_aload_nr (show zdec 114 14 = some (.aload_n 0, 1) by decide +kernel) rfl rfl,
  fun _ _ _ _ _ => r_aload_nr (show zdec 114 15 = some (.aload_n 0, 1) by decide +kernel) rfl rfl,
  fun _ _ _ _ _ _ => r_getfield (show zdec 114 16 = some (.getfield 79, 3) by decide +kernel) (show zft.lookup (114 * zKEY + 79) = some (0, 3) by decide +kernel) rfl,
  fun _ _ _ _ _ => r_iload_n (show zdec 114 19 = some (.iload_n 2, 1) by decide +kernel) rfl rfl,
  fun _ _ _ _ _ _ _ => r_iadd (show zdec 114 20 = some (.iadd, 1) by decide +kernel) rfl,
  fun _ _ _ _ _ => r_aload_nr (show zdec 114 24 = some (.aload_n 0, 1) by decide +kernel) rfl rfl,
  fun _ _ _ _ _ => r_aload_nr (show zdec 114 25 = some (.aload_n 0, 1) by decide +kernel) rfl rfl,
  fun _ _ _ _ _ _ => r_getfield (show zdec 114 26 = some (.getfield 79, 3) by decide +kernel) (show zft.lookup (114 * zKEY + 79) = some (0, 3) by decide +kernel) rfl,
  fun _ _ _ _ _ => r_aload_n (show zdec 114 29 = some (.aload_n 1, 1) by decide +kernel) rfl rfl,
  fun _ _ _ _ _ => r_aload_nr (show zdec 114 33 = some (.aload_n 0, 1) by decide +kernel) rfl rfl,
  fun _ _ _ _ _ _ => r_dup (show zdec 114 34 = some (.dup, 1) by decide +kernel) rfl,
  fun _ _ _ _ _ _ => r_getfield (show zdec 114 35 = some (.getfield 79, 3) by decide +kernel) (show zft.lookup (114 * zKEY + 79) = some (0, 3) by decide +kernel) rfl,
  fun _ _ _ _ _ => r_iload_n (show zdec 114 38 = some (.iload_n 2, 1) by decide +kernel) rfl rfl,
  fun _ _ _ _ _ _ _ => r_iadd (show zdec 114 39 = some (.iadd, 1) by decide +kernel) rfl,
  fun _ _ _ _ _ _ _ => r_putfield (show zdec 114 40 = some (.putfield 79, 3) by decide +kernel) (show zft.lookup (114 * zKEY + 79) = some (0, 3) by decide +kernel) (by decide +kernel) rfl,
  fun _ _ _ _ _ => r_aload_nr (show zdec 114 43 = some (.aload_n 0, 1) by decide +kernel) rfl rfl,
  fun _ _ _ _ _ => r_areto (C := "java/lang/AbstractStringBuilder") (show zdec 114 44 = some (.areturn, 1) by decide +kernel) (by decide +kernel)⟩
theorem ze_114 : ∀ (a0 : Nat) (a1 : Nat) (h : zH), ev 114 [.ref a0, .ref a1] h = rn 114 0 [.ref a0, .ref a1, .float 0] [] h := fun _ _ _ => if_pos (Nat.le_of_ble_eq_true rfl)
-- java/lang/AbstractStringBuilder.appendNull()Ljava/lang/AbstractStringBuilder;
theorem zr_115 : (∀ (l1 l2 : Value) (x : Nat) (S : List Value) (h : zH), rn 115 0 [.ref x, l1, l2] S h = rn 115 1 [.ref x, l1, l2] (.ref x :: S) h) ∧
  (∀ (l1 l2 : Value) (x : Nat) (S : List Value) (h : zH), rn 115 1 [.ref x, l1, l2] S h = rn 115 2 [.ref x, l1, l2] (.ref x :: S) h) ∧
  (∀ (l0 l1 l2 : Value) (a : Nat) (S : List Value) (h : zH), rn 115 2 [l0, l1, l2] (.ref a :: S) h = zgf h a 0 3 fun v => rn 115 5 [l0, l1, l2] (v :: S) h) ∧
  (∀ (l0 l1 l2 : Value) (S : List Value) (h : zH), rn 115 5 [l0, l1, l2] S h = rn 115 6 [l0, l1, l2] (.int (nI 4) :: S) h) ∧
  (∀ (l0 l1 l2 : Value) (x : Int32) (y : Int32) (S : List Value) (h : zH), rn 115 6 [l0, l1, l2] (.int y :: .int x :: S) h = rn 115 7 [l0, l1, l2] (.int (x + y) :: S) h) ∧
  (∀ (l1 l2 : Value) (x : Nat) (S : List Value) (h : zH), rn 115 10 [.ref x, l1, l2] S h = rn 115 11 [.ref x, l1, l2] (.ref x :: S) h) ∧
  (∀ (l0 l1 l2 : Value) (a : Nat) (S : List Value) (h : zH), rn 115 11 [l0, l1, l2] (.ref a :: S) h = zgf h a 0 3 fun v => rn 115 14 [l0, l1, l2] (v :: S) h) ∧
  (∀ (l0 l1 l2 : Value) (x : Int32) (S : List Value) (h : zH), rn 115 14 [l0, l1, l2] (.int x :: S) h = nl l0 (rn 115 15 [l0, .int x, l2] S h)) ∧
  (∀ (l1 l2 : Value) (x : Nat) (S : List Value) (h : zH), rn 115 15 [.ref x, l1, l2] S h = rn 115 16 [.ref x, l1, l2] (.ref x :: S) h) ∧
  (∀ (l0 l1 l2 : Value) (a : Nat) (S : List Value) (h : zH), rn 115 16 [l0, l1, l2] (.ref a :: S) h = zgf h a 0 0 fun v => rn 115 19 [l0, l1, l2] (v :: S) h) ∧
  (∀ (l0 l1 l2 : Value) (v : Value) (S : List Value) (h : zH), rn 115 19 [l0, l1, l2] (v :: S) h = ldA v (nl l1 (rn 115 20 [l0, l1, v] S h))) ∧
  (∀ (l1 l2 : Value) (x : Nat) (S : List Value) (h : zH), rn 115 20 [.ref x, l1, l2] S h = rn 115 21 [.ref x, l1, l2] (.ref x :: S) h) ∧
  (∀ (l0 l1 l2 : Value) (o : Nat) (S : List Value) (h : zH), rn 115 21 [l0, l1, l2] (.ref o :: S) h = if zkd h o = 0 ∧ zsum S ≤ 8 then zcall (ev 106 [.ref o] h) (fun v h => rn 115 24 [l0, l1, l2] (zpush v S) h) else none) ∧
  (∀ (l0 l1 l2 : Value) (x : Int32) (S : List Value) (h : zH), rn 115 24 [l0, l1, l2] (.int x :: S) h = if x = nI 0 then rn 115 62 [l0, l1, l2] S h else rn 115 27 [l0, l1, l2] S h) ∧
  (∀ (l0 l1 l2 : Value) (S : List Value) (h : zH), rn 115 27 [l0, l1, l2] S h = ldA l2 (rn 115 28 [l0, l1, l2] (l2 :: S) h)) ∧
  (∀ (l0 l2 : Value) (x : Int32) (S : List Value) (h : zH), rn 115 28 [l0, .int x, l2] S h = rn 115 29 [l0, .int x, l2] (.int x :: S) h) ∧
  (∀ (l0 l2 : Value) (x : Int32) (S : List Value) (h : zH), rn 115 29 [l0, .int x, l2] S h = nl l0 (rn 115 32 [l0, .int (x + (nI 1)), l2] S h)) ∧
  (∀ (l0 l1 l2 : Value) (S : List Value) (h : zH), rn 115 32 [l0, l1, l2] S h = rn 115 34 [l0, l1, l2] (.int (nI 110) :: S) h) ∧
  (∀ (l0 l1 l2 : Value) (a : Nat) (j : Int32) (x : Int32) (S : List Value) (h : zH), rn 115 34 [l0, l1, l2] (.int x :: .int j :: .ref a :: S) h = zsi h a 3 j (vp_nar .byte x) fun h => rn 115 35 [l0, l1, l2] S h) ∧
  (∀ (l0 l1 l2 : Value) (S : List Value) (h : zH), rn 115 35 [l0, l1, l2] S h = ldA l2 (rn 115 36 [l0, l1, l2] (l2 :: S) h)) ∧
  (∀ (l0 l2 : Value) (x : Int32) (S : List Value) (h : zH), rn 115 36 [l0, .int x, l2] S h = rn 115 37 [l0, .int x, l2] (.int x :: S) h) ∧
  (∀ (l0 l2 : Value) (x : Int32) (S : List Value) (h : zH), rn 115 37 [l0, .int x, l2] S h = nl l0 (rn 115 40 [l0, .int (x + (nI 1)), l2] S h)) ∧
  (∀ (l0 l1 l2 : Value) (S : List Value) (h : zH), rn 115 40 [l0, l1, l2] S h = rn 115 42 [l0, l1, l2] (.int (nI 117) :: S) h) ∧
  (∀ (l0 l1 l2 : Value) (a : Nat) (j : Int32) (x : Int32) (S : List Value) (h : zH), rn 115 42 [l0, l1, l2] (.int x :: .int j :: .ref a :: S) h = zsi h a 3 j (vp_nar .byte x) fun h => rn 115 43 [l0, l1, l2] S h) ∧
  (∀ (l0 l1 l2 : Value) (S : List Value) (h : zH), rn 115 43 [l0, l1, l2] S h = ldA l2 (rn 115 44 [l0, l1, l2] (l2 :: S) h)) ∧
  (∀ (l0 l2 : Value) (x : Int32) (S : List Value) (h : zH), rn 115 44 [l0, .int x, l2] S h = rn 115 45 [l0, .int x, l2] (.int x :: S) h) ∧
  (∀ (l0 l2 : Value) (x : Int32) (S : List Value) (h : zH), rn 115 45 [l0, .int x, l2] S h = nl l0 (rn 115 48 [l0, .int (x + (nI 1)), l2] S h)) ∧
  (∀ (l0 l1 l2 : Value) (S : List Value) (h : zH), rn 115 48 [l0, l1, l2] S h = rn 115 50 [l0, l1, l2] (.int (nI 108) :: S) h) ∧
  (∀ (l0 l1 l2 : Value) (a : Nat) (j : Int32) (x : Int32) (S : List Value) (h : zH), rn 115 50 [l0, l1, l2] (.int x :: .int j :: .ref a :: S) h = zsi h a 3 j (vp_nar .byte x) fun h => rn 115 51 [l0, l1, l2] S h) ∧
  (∀ (l0 l1 l2 : Value) (S : List Value) (h : zH), rn 115 51 [l0, l1, l2] S h = ldA l2 (rn 115 52 [l0, l1, l2] (l2 :: S) h)) ∧
  (∀ (l0 l2 : Value) (x : Int32) (S : List Value) (h : zH), rn 115 52 [l0, .int x, l2] S h = rn 115 53 [l0, .int x, l2] (.int x :: S) h) ∧
  (∀ (l0 l2 : Value) (x : Int32) (S : List Value) (h : zH), rn 115 53 [l0, .int x, l2] S h = nl l0 (rn 115 56 [l0, .int (x + (nI 1)), l2] S h)) ∧
  (∀ (l0 l1 l2 : Value) (S : List Value) (h : zH), rn 115 56 [l0, l1, l2] S h = rn 115 58 [l0, l1, l2] (.int (nI 108) :: S) h) ∧
  (∀ (l0 l1 l2 : Value) (a : Nat) (j : Int32) (x : Int32) (S : List Value) (h : zH), rn 115 58 [l0, l1, l2] (.int x :: .int j :: .ref a :: S) h = zsi h a 3 j (vp_nar .byte x) fun h => rn 115 59 [l0, l1, l2] S h) ∧
  (∀ (l0 l1 l2 : Value) (S : List Value) (h : zH), rn 115 59 [l0, l1, l2] S h = rn 115 76 [l0, l1, l2] S h) ∧
  (∀ (l0 l1 l2 : Value) (S : List Value) (h : zH), rn 115 62 [l0, l1, l2] S h = ldA l2 (rn 115 63 [l0, l1, l2] (l2 :: S) h)) ∧
  (∀ (l0 l2 : Value) (x : Int32) (S : List Value) (h : zH), rn 115 63 [l0, .int x, l2] S h = rn 115 64 [l0, .int x, l2] (.int x :: S) h) ∧
  (∀ (l0 l1 l2 : Value) (S : List Value) (h : zH), rn 115 64 [l0, l1, l2] S h = rn 115 66 [l0, l1, l2] (.int (nI 110) :: S) h) ∧
  (∀ (l0 l1 l2 : Value) (S : List Value) (h : zH), rn 115 66 [l0, l1, l2] S h = rn 115 68 [l0, l1, l2] (.int (nI 117) :: S) h) ∧
  (∀ (l0 l1 l2 : Value) (S : List Value) (h : zH), rn 115 68 [l0, l1, l2] S h = rn 115 70 [l0, l1, l2] (.int (nI 108) :: S) h) ∧
  (∀ (l0 l1 l2 : Value) (S : List Value) (h : zH), rn 115 70 [l0, l1, l2] S h = rn 115 72 [l0, l1, l2] (.int (nI 108) :: S) h) ∧
  (∀ (l0 l1 l2 : Value) (v0 : Value) (v1 : Value) (v2 : Value) (v3 : Value) (v4 : Value) (v5 : Value) (S : List Value) (h : zH), rn 115 72 [l0, l1, l2] (v5 :: v4 :: v3 :: v2 :: v1 :: v0 :: S) h = if zsum S ≤ 8 then zcall (ev 116 [v0, v1, v2, v3, v4, v5] h) (fun v h => rn 115 75 [l0, l1, l2] (zpush v S) h) else none) ∧
  (∀ (l0 l1 l2 : Value) (x : Int32) (S : List Value) (h : zH), rn 115 75 [l0, l1, l2] (.int x :: S) h = nl l0 (rn 115 76 [l0, .int x, l2] S h)) ∧
  (∀ (l1 l2 : Value) (x : Nat) (S : List Value) (h : zH), rn 115 76 [.ref x, l1, l2] S h = rn 115 77 [.ref x, l1, l2] (.ref x :: S) h) ∧
  (∀ (l0 l2 : Value) (x : Int32) (S : List Value) (h : zH), rn 115 77 [l0, .int x, l2] S h = rn 115 78 [l0, .int x, l2] (.int x :: S) h) ∧
  (∀ (l0 l1 l2 : Value) (a : Nat) (v : Value) (S : List Value) (h : zH), rn 115 78 [l0, l1, l2] (v :: .ref a :: S) h = zpf h a 0 3 v fun h => rn 115 81 [l0, l1, l2] S h) ∧
  (∀ (l1 l2 : Value) (x : Nat) (S : List Value) (h : zH), rn 115 81 [.ref x, l1, l2] S h = rn 115 82 [.ref x, l1, l2] (.ref x :: S) h) ∧
  (∀ (l0 l1 l2 : Value) (a : Nat) (h : zH), rn 115 82 [l0, l1, l2] [.ref a] h = some (some (.ref a), h)) := ⟨fun _ _ _ _ _ => r_aload_nr (show zdec 115 0 = some (.aload_n 0, 1) by decide +kernel) rfl rfl,
  fun _ _ _ _ _ => r_aload_nr (show zdec 115 1 = some (.aload_n 0, 1) by decide +kernel) rfl rfl,
  fun _ _ _ _ _ _ => r_getfield (show zdec 115 2 = some (.getfield 79, 3) by decide +kernel) (show zft.lookup (115 * zKEY + 79) = some (0, 3) by decide +kernel) rfl,
  fun _ _ _ _ _ => r_iconst (show zdec 115 5 = some (.iconst 4, 1) by decide +kernel) rfl rfl,
  fun _ _ _ _ _ _ _ => r_iadd (show zdec 115 6 = some (.iadd, 1) by decide +kernel) rfl,
  fun _ _ _ _ _ => r_aload_nr (show zdec 115 10 = some (.aload_n 0, 1) by decide +kernel) rfl rfl,
  fun _ _ _ _ _ _ => r_getfield (show zdec 115 11 = some (.getfield 79, 3) by decide +kernel) (show zft.lookup (115 * zKEY + 79) = some (0, 3) by decide +kernel) rfl,
  fun _ _ _ _ _ _ => r_istore_n (show zdec 115 14 = some (.istore_n 1, 1) by decide +kernel) rfl rfl (Nat.le_of_ble_eq_true rfl) rfl rfl,
  fun _ _ _ _ _ => r_aload_nr (show zdec 115 15 = some (.aload_n 0, 1) by decide +kernel) rfl rfl,
  fun _ _ _ _ _ _ => r_getfield (show zdec 115 16 = some (.getfield 15, 3) by decide +kernel) (show zft.lookup (115 * zKEY + 15) = some (0, 0) by decide +kernel) rfl,
  fun _ _ _ _ _ _ => r_astore_n (show zdec 115 19 = some (.astore_n 2, 1) by decide +kernel) rfl rfl (Nat.le_of_ble_eq_true rfl) rfl rfl,
  fun _ _ _ _ _ => r_aload_nr (show zdec 115 20 = some (.aload_n 0, 1) by decide +kernel) rfl rfl,
  fun _ _ _ _ _ _ => r_cV [] rfl (show zdec 115 21 = some (.invokevirtual 83, 3) by decide +kernel) (show zst.lookup (115 * zKEY + 83) = some (5, 106, 0, 0) by decide +kernel) (by decide) rfl,
  fun _ _ _ _ _ _ => r_ifeq (show zdec 115 24 = some (.ifCond .eq 38, 3) by decide +kernel) rfl rfl,
  fun _ _ _ _ _ => r_aload_n (show zdec 115 27 = some (.aload_n 2, 1) by decide +kernel) rfl rfl,
  fun _ _ _ _ _ => r_iload_n (show zdec 115 28 = some (.iload_n 1, 1) by decide +kernel) rfl rfl,
  fun _ _ _ _ _ => r_iinc (show zdec 115 29 = some (.iinc 1 1, 3) by decide +kernel) rfl rfl rfl (Nat.le_of_ble_eq_true rfl) rfl rfl,
  fun _ _ _ _ _ => r_bipush (show zdec 115 32 = some (.bipush 110, 2) by decide +kernel) rfl rfl,
  fun _ _ _ _ _ _ _ _ => r_bast (show zdec 115 34 = some (.bastore, 1) by decide +kernel) rfl,
  fun _ _ _ _ _ => r_aload_n (show zdec 115 35 = some (.aload_n 2, 1) by decide +kernel) rfl rfl,
  fun _ _ _ _ _ => r_iload_n (show zdec 115 36 = some (.iload_n 1, 1) by decide +kernel) rfl rfl,
  fun _ _ _ _ _ => r_iinc (show zdec 115 37 = some (.iinc 1 1, 3) by decide +kernel) rfl rfl rfl (Nat.le_of_ble_eq_true rfl) rfl rfl,
  fun _ _ _ _ _ => r_bipush (show zdec 115 40 = some (.bipush 117, 2) by decide +kernel) rfl rfl,
  fun _ _ _ _ _ _ _ _ => r_bast (show zdec 115 42 = some (.bastore, 1) by decide +kernel) rfl,
  fun _ _ _ _ _ => r_aload_n (show zdec 115 43 = some (.aload_n 2, 1) by decide +kernel) rfl rfl,
  fun _ _ _ _ _ => r_iload_n (show zdec 115 44 = some (.iload_n 1, 1) by decide +kernel) rfl rfl,
  fun _ _ _ _ _ => r_iinc (show zdec 115 45 = some (.iinc 1 1, 3) by decide +kernel) rfl rfl rfl (Nat.le_of_ble_eq_true rfl) rfl rfl,
  fun _ _ _ _ _ => r_bipush (show zdec 115 48 = some (.bipush 108, 2) by decide +kernel) rfl rfl,
  fun _ _ _ _ _ _ _ _ => r_bast (show zdec 115 50 = some (.bastore, 1) by decide +kernel) rfl,
  fun _ _ _ _ _ => r_aload_n (show zdec 115 51 = some (.aload_n 2, 1) by decide +kernel) rfl rfl,
  fun _ _ _ _ _ => r_iload_n (show zdec 115 52 = some (.iload_n 1, 1) by decide +kernel) rfl rfl,
  fun _ _ _ _ _ => r_iinc (show zdec 115 53 = some (.iinc 1 1, 3) by decide +kernel) rfl rfl rfl (Nat.le_of_ble_eq_true rfl) rfl rfl,
  fun _ _ _ _ _ => r_bipush (show zdec 115 56 = some (.bipush 108, 2) by decide +kernel) rfl rfl,
  fun _ _ _ _ _ _ _ _ => r_bast (show zdec 115 58 = some (.bastore, 1) by decide +kernel) rfl,
  fun _ _ _ _ _ => r_goto (show zdec 115 59 = some (.goto 17, 3) by decide +kernel) rfl,
  fun _ _ _ _ _ => r_aload_n (show zdec 115 62 = some (.aload_n 2, 1) by decide +kernel) rfl rfl,
  fun _ _ _ _ _ => r_iload_n (show zdec 115 63 = some (.iload_n 1, 1) by decide +kernel) rfl rfl,
  fun _ _ _ _ _ => r_bipush (show zdec 115 64 = some (.bipush 110, 2) by decide +kernel) rfl rfl,
  fun _ _ _ _ _ => r_bipush (show zdec 115 66 = some (.bipush 117, 2) by decide +kernel) rfl rfl,
  fun _ _ _ _ _ => r_bipush (show zdec 115 68 = some (.bipush 108, 2) by decide +kernel) rfl rfl,
  fun _ _ _ _ _ => r_bipush (show zdec 115 70 = some (.bipush 108, 2) by decide +kernel) rfl rfl,
  fun _ _ _ _ _ _ _ _ _ _ _ => r_cS [_, _, _, _, _, _] rfl (show zdec 115 72 = some (.invokestatic 226, 3) by decide +kernel) (show zst.lookup (115 * zKEY + 226) = some (0, 116, 6, 0) by decide +kernel) (by decide) rfl,
  fun _ _ _ _ _ _ => r_istore_n (show zdec 115 75 = some (.istore_n 1, 1) by decide +kernel) rfl rfl (Nat.le_of_ble_eq_true rfl) rfl rfl,
  fun _ _ _ _ _ => r_aload_nr (show zdec 115 76 = some (.aload_n 0, 1) by decide +kernel) rfl rfl,
  fun _ _ _ _ _ => r_iload_n (show zdec 115 77 = some (.iload_n 1, 1) by decide +kernel) rfl rfl,
  fun _ _ _ _ _ _ _ => r_putfield (show zdec 115 78 = some (.putfield 79, 3) by decide +kernel) (show zft.lookup (115 * zKEY + 79) = some (0, 3) by decide +kernel) (by decide +kernel) rfl,
  fun _ _ _ _ _ => r_aload_nr (show zdec 115 81 = some (.aload_n 0, 1) by decide +kernel) rfl rfl,
  fun _ _ _ _ _ => r_areto (C := "java/lang/AbstractStringBuilder") (show zdec 115 82 = some (.areturn, 1) by decide +kernel) (by decide +kernel)⟩
theorem ze_115 : ∀ (a0 : Nat) (h : zH), ev 115 [.ref a0] h = rn 115 0 [.ref a0, .float 0, .float 0] [] h := fun _ _ => if_pos (Nat.le_of_ble_eq_true rfl)
-- java/lang/StringUTF16.putCharsAt([BICCCC)I
theorem zr_116 : (∀ (l0 l2 l3 l4 l5 l6 : Value) (x : Int32) (S : List Value) (h : zH), rn 116 0 [l0, .int x, l2, l3, l4, l5, l6] S h = rn 116 1 [l0, .int x, l2, l3, l4, l5, l6] (.int x :: S) h) ∧
  (∀ (l0 l1 l2 l3 l4 l5 l6 : Value) (S : List Value) (h : zH), rn 116 1 [l0, l1, l2, l3, l4, l5, l6] S h = rn 116 2 [l0, l1, l2, l3, l4, l5, l6] (.int (nI 4) :: S) h) ∧
  (∀ (l0 l1 l2 l3 l4 l5 l6 : Value) (x : Int32) (y : Int32) (S : List Value) (h : zH), rn 116 2 [l0, l1, l2, l3, l4, l5, l6] (.int y :: .int x :: S) h = rn 116 3 [l0, l1, l2, l3, l4, l5, l6] (.int (x + y) :: S) h) ∧
  (∀ (l0 l1 l2 l3 l4 l5 l6 : Value) (x : Int32) (S : List Value) (h : zH), rn 116 3 [l0, l1, l2, l3, l4, l5, l6] (.int x :: S) h = nl l5 (rn 116 5 [l0, l1, l2, l3, l4, l5, .int x] S h)) ∧
  (∀ (l0 l2 l3 l4 l5 l6 : Value) (x : Int32) (S : List Value) (h : zH), rn 116 5 [l0, .int x, l2, l3, l4, l5, l6] S h = rn 116 6 [l0, .int x, l2, l3, l4, l5, l6] (.int x :: S) h) ∧
  (∀ (l0 l1 l2 l3 l4 l5 : Value) (x : Int32) (S : List Value) (h : zH), rn 116 6 [l0, l1, l2, l3, l4, l5, .int x] S h = rn 116 8 [l0, l1, l2, l3, l4, l5, .int x] (.int x :: S) h) ∧
  (∀ (l0 l1 l2 l3 l4 l5 l6 : Value) (S : List Value) (h : zH), rn 116 8 [l0, l1, l2, l3, l4, l5, l6] S h = ldA l0 (rn 116 9 [l0, l1, l2, l3, l4, l5, l6] (l0 :: S) h)) ∧
  (∀ (l0 l1 l2 l3 l4 l5 l6 : Value) (v0 : Value) (v1 : Value) (v2 : Value) (S : List Value) (h : zH), rn 116 9 [l0, l1, l2, l3, l4, l5, l6] (v2 :: v1 :: v0 :: S) h = if zsum S ≤ 8 then zcall (ev 117 [v0, v1, v2] h) (fun v h => rn 116 12 [l0, l1, l2, l3, l4, l5, l6] (zpush v S) h) else none) ∧
  (∀ (l0 l1 l2 l3 l4 l5 l6 : Value) (S : List Value) (h : zH), rn 116 12 [l0, l1, l2, l3, l4, l5, l6] S h = ldA l0 (rn 116 13 [l0, l1, l2, l3, l4, l5, l6] (l0 :: S) h)) ∧
  (∀ (l0 l2 l3 l4 l5 l6 : Value) (x : Int32) (S : List Value) (h : zH), rn 116 13 [l0, .int x, l2, l3, l4, l5, l6] S h = rn 116 14 [l0, .int x, l2, l3, l4, l5, l6] (.int x :: S) h) ∧
  (∀ (l0 l2 l3 l4 l5 l6 : Value) (x : Int32) (S : List Value) (h : zH), rn 116 14 [l0, .int x, l2, l3, l4, l5, l6] S h = nl l0 (rn 116 17 [l0, .int (x + (nI 1)), l2, l3, l4, l5, l6] S h)) ∧
  (∀ (l0 l1 l3 l4 l5 l6 : Value) (x : Int32) (S : List Value) (h : zH), rn 116 17 [l0, l1, .int x, l3, l4, l5, l6] S h = rn 116 18 [l0, l1, .int x, l3, l4, l5, l6] (.int x :: S) h) ∧
  (∀ (l0 l1 l2 l3 l4 l5 l6 : Value) (v0 : Value) (v1 : Value) (v2 : Value) (S : List Value) (h : zH), rn 116 18 [l0, l1, l2, l3, l4, l5, l6] (v2 :: v1 :: v0 :: S) h = if zsum S ≤ 8 then zcall (ev 121 [v0, v1, v2] h) (fun v h => rn 116 21 [l0, l1, l2, l3, l4, l5, l6] (zpush v S) h) else none) ∧
  (∀ (l0 l1 l2 l3 l4 l5 l6 : Value) (S : List Value) (h : zH), rn 116 21 [l0, l1, l2, l3, l4, l5, l6] S h = ldA l0 (rn 116 22 [l0, l1, l2, l3, l4, l5, l6] (l0 :: S) h)) ∧
  (∀ (l0 l2 l3 l4 l5 l6 : Value) (x : Int32) (S : List Value) (h : zH), rn 116 22 [l0, .int x, l2, l3, l4, l5, l6] S h = rn 116 23 [l0, .int x, l2, l3, l4, l5, l6] (.int x :: S) h) ∧
  (∀ (l0 l2 l3 l4 l5 l6 : Value) (x : Int32) (S : List Value) (h : zH), rn 116 23 [l0, .int x, l2, l3, l4, l5, l6] S h = nl l0 (rn 116 26 [l0, .int (x + (nI 1)), l2, l3, l4, l5, l6] S h)) ∧
  (∀ (l0 l1 l2 l4 l5 l6 : Value) (x : Int32) (S : List Value) (h : zH), rn 116 26 [l0, l1, l2, .int x, l4, l5, l6] S h = rn 116 27 [l0, l1, l2, .int x, l4, l5, l6] (.int x :: S) h) ∧
  (∀ (l0 l1 l2 l3 l4 l5 l6 : Value) (v0 : Value) (v1 : Value) (v2 : Value) (S : List Value) (h : zH), rn 116 27 [l0, l1, l2, l3, l4, l5, l6] (v2 :: v1 :: v0 :: S) h = if zsum S ≤ 8 then zcall (ev 121 [v0, v1, v2] h) (fun v h => rn 116 30 [l0, l1, l2, l3, l4, l5, l6] (zpush v S) h) else none) ∧
  (∀ (l0 l1 l2 l3 l4 l5 l6 : Value) (S : List Value) (h : zH), rn 116 30 [l0, l1, l2, l3, l4, l5, l6] S h = ldA l0 (rn 116 31 [l0, l1, l2, l3, l4, l5, l6] (l0 :: S) h)) ∧
  (∀ (l0 l2 l3 l4 l5 l6 : Value) (x : Int32) (S : List Value) (h : zH), rn 116 31 [l0, .int x, l2, l3, l4, l5, l6] S h = rn 116 32 [l0, .int x, l2, l3, l4, l5, l6] (.int x :: S) h) ∧
  (∀ (l0 l2 l3 l4 l5 l6 : Value) (x : Int32) (S : List Value) (h : zH), rn 116 32 [l0, .int x, l2, l3, l4, l5, l6] S h = nl l0 (rn 116 35 [l0, .int (x + (nI 1)), l2, l3, l4, l5, l6] S h)) ∧
  (∀ (l0 l1 l2 l3 l5 l6 : Value) (x : Int32) (S : List Value) (h : zH), rn 116 35 [l0, l1, l2, l3, .int x, l5, l6] S h = rn 116 37 [l0, l1, l2, l3, .int x, l5, l6] (.int x :: S) h) ∧
  (∀ (l0 l1 l2 l3 l4 l5 l6 : Value) (v0 : Value) (v1 : Value) (v2 : Value) (S : List Value) (h : zH), rn 116 37 [l0, l1, l2, l3, l4, l5, l6] (v2 :: v1 :: v0 :: S) h = if zsum S ≤ 8 then zcall (ev 121 [v0, v1, v2] h) (fun v h => rn 116 40 [l0, l1, l2, l3, l4, l5, l6] (zpush v S) h) else none) ∧
  (∀ (l0 l1 l2 l3 l4 l5 l6 : Value) (S : List Value) (h : zH), rn 116 40 [l0, l1, l2, l3, l4, l5, l6] S h = ldA l0 (rn 116 41 [l0, l1, l2, l3, l4, l5, l6] (l0 :: S) h)) ∧
  (∀ (l0 l2 l3 l4 l5 l6 : Value) (x : Int32) (S : List Value) (h : zH), rn 116 41 [l0, .int x, l2, l3, l4, l5, l6] S h = rn 116 42 [l0, .int x, l2, l3, l4, l5, l6] (.int x :: S) h) ∧
  (∀ (l0 l2 l3 l4 l5 l6 : Value) (x : Int32) (S : List Value) (h : zH), rn 116 42 [l0, .int x, l2, l3, l4, l5, l6] S h = nl l0 (rn 116 45 [l0, .int (x + (nI 1)), l2, l3, l4, l5, l6] S h)) ∧
  (∀ (l0 l1 l2 l3 l4 l6 : Value) (x : Int32) (S : List Value) (h : zH), rn 116 45 [l0, l1, l2, l3, l4, .int x, l6] S h = rn 116 47 [l0, l1, l2, l3, l4, .int x, l6] (.int x :: S) h) ∧
  (∀ (l0 l1 l2 l3 l4 l5 l6 : Value) (v0 : Value) (v1 : Value) (v2 : Value) (S : List Value) (h : zH), rn 116 47 [l0, l1, l2, l3, l4, l5, l6] (v2 :: v1 :: v0 :: S) h = if zsum S ≤ 8 then zcall (ev 121 [v0, v1, v2] h) (fun v h => rn 116 50 [l0, l1, l2, l3, l4, l5, l6] (zpush v S) h) else none) ∧
  (∀ (l0 l1 l2 l3 l4 l5 l6 : Value) (S : List Value) (h : zH), rn 116 50 [l0, l1, l2, l3, l4, l5, l6] S h = rn 116 53 [l0, l1, l2, l3, l4, l5, l6] (.int 1 :: S) h) ∧
  (∀ (l0 l1 l2 l3 l4 l5 l6 : Value) (x : Int32) (S : List Value) (h : zH), rn 116 53 [l0, l1, l2, l3, l4, l5, l6] (.int x :: S) h = if x = nI 0 then rn 116 56 [l0, l1, l2, l3, l4, l5, l6] S h else rn 116 70 [l0, l1, l2, l3, l4, l5, l6] S h) ∧
  (∀ (l0 l2 l3 l4 l5 l6 : Value) (x : Int32) (S : List Value) (h : zH), rn 116 56 [l0, .int x, l2, l3, l4, l5, l6] S h = rn 116 57 [l0, .int x, l2, l3, l4, l5, l6] (.int x :: S) h) ∧
  (∀ (l0 l1 l2 l3 l4 l5 : Value) (x : Int32) (S : List Value) (h : zH), rn 116 57 [l0, l1, l2, l3, l4, l5, .int x] S h = rn 116 59 [l0, l1, l2, l3, l4, l5, .int x] (.int x :: S) h) ∧
  (∀ (l0 l1 l2 l3 l4 l5 l6 : Value) (x : Int32) (y : Int32) (S : List Value) (h : zH), rn 116 59 [l0, l1, l2, l3, l4, l5, l6] (.int y :: .int x :: S) h = if x = y then rn 116 70 [l0, l1, l2, l3, l4, l5, l6] S h else rn 116 62 [l0, l1, l2, l3, l4, l5, l6] S h) ∧
  (∀ (l0 l1 l2 l3 l4 l5 l6 : Value) (v : Value) (S : List Value) (h : zH), rn 116 65 [l0, l1, l2, l3, l4, l5, l6] (v :: S) h = c1 v (rn 116 66 [l0, l1, l2, l3, l4, l5, l6] (v :: v :: S) h)) ∧
  (∀ (l0 l1 l2 l3 l4 l5 : Value) (x : Int32) (S : List Value) (h : zH), rn 116 70 [l0, l1, l2, l3, l4, l5, .int x] S h = rn 116 72 [l0, l1, l2, l3, l4, l5, .int x] (.int x :: S) h) ∧
  (∀ (l0 l1 l2 l3 l4 l5 l6 : Value) (x : Int32) (h : zH), rn 116 72 [l0, l1, l2, l3, l4, l5, l6] [.int x] h = some (some (.int x), h)) := ⟨fun _ _ _ _ _ _ _ _ _ => r_iload_n (show zdec 116 0 = some (.iload_n 1, 1) by decide +kernel) rfl rfl,
  fun _ _ _ _ _ _ _ _ _ => r_iconst (show zdec 116 1 = some (.iconst 4, 1) by decide +kernel) rfl rfl,
  fun _ _ _ _ _ _ _ _ _ _ _ => r_iadd (show zdec 116 2 = some (.iadd, 1) by decide +kernel) rfl,
  fun _ _ _ _ _ _ _ _ _ _ => r_istore (show zdec 116 3 = some (.istore 6, 2) by decide +kernel) rfl (Nat.le_of_ble_eq_true rfl) rfl rfl,
  fun _ _ _ _ _ _ _ _ _ => r_iload_n (show zdec 116 5 = some (.iload_n 1, 1) by decide +kernel) rfl rfl,
  fun _ _ _ _ _ _ _ _ _ => r_iload (show zdec 116 6 = some (.iload 6, 2) by decide +kernel) rfl rfl,
  fun _ _ _ _ _ _ _ _ _ => r_aload_n (show zdec 116 8 = some (.aload_n 0, 1) by decide +kernel) rfl rfl,
  fun _ _ _ _ _ _ _ _ _ _ _ _ => r_cS [_, _, _] rfl (show zdec 116 9 = some (.invokestatic 96, 3) by decide +kernel) (show zst.lookup (116 * zKEY + 96) = some (0, 117, 3, 0) by decide +kernel) (by decide) rfl,
  fun _ _ _ _ _ _ _ _ _ => r_aload_n (show zdec 116 12 = some (.aload_n 0, 1) by decide +kernel) rfl rfl,
  fun _ _ _ _ _ _ _ _ _ => r_iload_n (show zdec 116 13 = some (.iload_n 1, 1) by decide +kernel) rfl rfl,
  fun _ _ _ _ _ _ _ _ _ => r_iinc (show zdec 116 14 = some (.iinc 1 1, 3) by decide +kernel) rfl rfl rfl (Nat.le_of_ble_eq_true rfl) rfl rfl,
  fun _ _ _ _ _ _ _ _ _ => r_iload_n (show zdec 116 17 = some (.iload_n 2, 1) by decide +kernel) rfl rfl,
  fun _ _ _ _ _ _ _ _ _ _ _ _ => r_cS [_, _, _] rfl (show zdec 116 18 = some (.invokestatic 111, 3) by decide +kernel) (show zst.lookup (116 * zKEY + 111) = some (0, 121, 3, 0) by decide +kernel) (by decide) rfl,
  fun _ _ _ _ _ _ _ _ _ => r_aload_n (show zdec 116 21 = some (.aload_n 0, 1) by decide +kernel) rfl rfl,
  fun _ _ _ _ _ _ _ _ _ => r_iload_n (show zdec 116 22 = some (.iload_n 1, 1) by decide +kernel) rfl rfl,
  fun _ _ _ _ _ _ _ _ _ => r_iinc (show zdec 116 23 = some (.iinc 1 1, 3) by decide +kernel) rfl rfl rfl (Nat.le_of_ble_eq_true rfl) rfl rfl,
  fun _ _ _ _ _ _ _ _ _ => r_iload_n (show zdec 116 26 = some (.iload_n 3, 1) by decide +kernel) rfl rfl,
  fun _ _ _ _ _ _ _ _ _ _ _ _ => r_cS [_, _, _] rfl (show zdec 116 27 = some (.invokestatic 111, 3) by decide +kernel) (show zst.lookup (116 * zKEY + 111) = some (0, 121, 3, 0) by decide +kernel) (by decide) rfl,
  fun _ _ _ _ _ _ _ _ _ => r_aload_n (show zdec 116 30 = some (.aload_n 0, 1) by decide +kernel) rfl rfl,
  fun _ _ _ _ _ _ _ _ _ => r_iload_n (show zdec 116 31 = some (.iload_n 1, 1) by decide +kernel) rfl rfl,
  fun _ _ _ _ _ _ _ _ _ => r_iinc (show zdec 116 32 = some (.iinc 1 1, 3) by decide +kernel) rfl rfl rfl (Nat.le_of_ble_eq_true rfl) rfl rfl,
  fun _ _ _ _ _ _ _ _ _ => r_iload (show zdec 116 35 = some (.iload 4, 2) by decide +kernel) rfl rfl,
  fun _ _ _ _ _ _ _ _ _ _ _ _ => r_cS [_, _, _] rfl (show zdec 116 37 = some (.invokestatic 111, 3) by decide +kernel) (show zst.lookup (116 * zKEY + 111) = some (0, 121, 3, 0) by decide +kernel) (by decide) rfl,
  fun _ _ _ _ _ _ _ _ _ => r_aload_n (show zdec 116 40 = some (.aload_n 0, 1) by decide +kernel) rfl rfl,
  fun _ _ _ _ _ _ _ _ _ => r_iload_n (show zdec 116 41 = some (.iload_n 1, 1) by decide +kernel) rfl rfl,
  fun _ _ _ _ _ _ _ _ _ => r_iinc (show zdec 116 42 = some (.iinc 1 1, 3) by decide +kernel) rfl rfl rfl (Nat.le_of_ble_eq_true rfl) rfl rfl,
  fun _ _ _ _ _ _ _ _ _ => r_iload (show zdec 116 45 = some (.iload 5, 2) by decide +kernel) rfl rfl,
  fun _ _ _ _ _ _ _ _ _ _ _ _ => r_cS [_, _, _] rfl (show zdec 116 47 = some (.invokestatic 111, 3) by decide +kernel) (show zst.lookup (116 * zKEY + 111) = some (0, 121, 3, 0) by decide +kernel) (by decide) rfl,
  fun _ _ _ _ _ _ _ _ _ => r_getstatic (show zdec 116 50 = some (.getstatic 44, 3) by decide +kernel) (show zgt.lookup (116 * zKEY + 44) = some 7 by decide +kernel) (by rfl) rfl,
  fun _ _ _ _ _ _ _ _ _ _ => r_ifne (show zdec 116 53 = some (.ifCond .ne 17, 3) by decide +kernel) rfl rfl,
  fun _ _ _ _ _ _ _ _ _ => r_iload_n (show zdec 116 56 = some (.iload_n 1, 1) by decide +kernel) rfl rfl,
  fun _ _ _ _ _ _ _ _ _ => r_iload (show zdec 116 57 = some (.iload 6, 2) by decide +kernel) rfl rfl,
  fun _ _ _ _ _ _ _ _ _ _ _ => r_icmpeq (show zdec 116 59 = some (.if_icmp .eq 11, 3) by decide +kernel) rfl rfl,
  fun _ _ _ _ _ _ _ _ _ _ => r_dup (show zdec 116 65 = some (.dup, 1) by decide +kernel) rfl,
  fun _ _ _ _ _ _ _ _ _ => r_iload (show zdec 116 70 = some (.iload 6, 2) by decide +kernel) rfl rfl,
  fun _ _ _ _ _ _ _ _ _ => r_ireti (show zdec 116 72 = some (.ireturn, 1) by decide +kernel) (by decide +kernel)⟩
theorem ze_116 : ∀ (a0 : Nat) (a1 : Int32) (a2 : Int32) (a3 : Int32) (a4 : Int32) (a5 : Int32) (h : zH), ev 116 [.ref a0, .int a1, .int a2, .int a3, .int a4, .int a5] h = rn 116 0 [.ref a0, .int a1, .int a2, .int a3, .int a4, .int a5, .float 0] [] h := fun _ _ _ _ _ _ _ => if_pos (Nat.le_of_ble_eq_true rfl)
-- java/lang/StringUTF16.checkBoundsBeginEnd(II[B)V
theorem zr_117 : (∀ (l1 l2 : Value) (x : Int32) (S : List Value) (h : zH), rn 117 0 [.int x, l1, l2] S h = rn 117 1 [.int x, l1, l2] (.int x :: S) h) ∧
  (∀ (l0 l2 : Value) (x : Int32) (S : List Value) (h : zH), rn 117 1 [l0, .int x, l2] S h = rn 117 2 [l0, .int x, l2] (.int x :: S) h) ∧
  (∀ (l0 l1 l2 : Value) (S : List Value) (h : zH), rn 117 2 [l0, l1, l2] S h = ldA l2 (rn 117 3 [l0, l1, l2] (l2 :: S) h)) ∧
  (∀ (l0 l1 l2 : Value) (v0 : Value) (S : List Value) (h : zH), rn 117 3 [l0, l1, l2] (v0 :: S) h = if zsum S ≤ 8 then zcall (ev 118 [v0] h) (fun v h => rn 117 6 [l0, l1, l2] (zpush v S) h) else none) ∧
  (∀ (l0 l1 l2 : Value) (v0 : Value) (v1 : Value) (v2 : Value) (S : List Value) (h : zH), rn 117 6 [l0, l1, l2] (v2 :: v1 :: v0 :: S) h = if zsum S ≤ 8 then zcall (ev 119 [v0, v1, v2] h) (fun v h => rn 117 9 [l0, l1, l2] (zpush v S) h) else none) ∧
  (∀ (l0 l1 l2 : Value) (h : zH), rn 117 9 [l0, l1, l2] [] h = some (none, h)) := ⟨fun _ _ _ _ _ => r_iload_n (show zdec 117 0 = some (.iload_n 0, 1) by decide +kernel) rfl rfl,
  fun _ _ _ _ _ => r_iload_n (show zdec 117 1 = some (.iload_n 1, 1) by decide +kernel) rfl rfl,
  fun _ _ _ _ _ => r_aload_n (show zdec 117 2 = some (.aload_n 2, 1) by decide +kernel) rfl rfl,
  fun _ _ _ _ _ _ => r_cS [_] rfl (show zdec 117 3 = some (.invokestatic 48, 3) by decide +kernel) (show zst.lookup (117 * zKEY + 48) = some (0, 118, 1, 0) by decide +kernel) (by decide) rfl,
  fun _ _ _ _ _ _ _ _ => r_cS [_, _, _] rfl (show zdec 117 6 = some (.invokestatic 241, 3) by decide +kernel) (show zst.lookup (117 * zKEY + 241) = some (0, 119, 3, 0) by decide +kernel) (by decide) rfl,
  fun _ _ _ _ => r_vret (show zdec 117 9 = some (.return_, 1) by decide +kernel) (by decide +kernel)⟩
theorem ze_117 : ∀ (a0 : Int32) (a1 : Int32) (a2 : Nat) (h : zH), ev 117 [.int a0, .int a1, .ref a2] h = rn 117 0 [.int a0, .int a1, .ref a2] [] h := fun _ _ _ _ => if_pos (Nat.le_of_ble_eq_true rfl)
-- java/lang/StringUTF16.length([B)I
theorem zr_118 : (∀ (l0 : Value) (S : List Value) (h : zH), rn 118 0 [l0] S h = ldA l0 (rn 118 1 [l0] (l0 :: S) h)) ∧
  (∀ (l0 : Value) (a : Nat) (S : List Value) (h : zH), rn 118 1 [l0] (.ref a :: S) h = zal h a fun x => rn 118 2 [l0] (.int x :: S) h) ∧
  (∀ (l0 : Value) (S : List Value) (h : zH), rn 118 2 [l0] S h = rn 118 3 [l0] (.int (nI 1) :: S) h) ∧
  (∀ (l0 : Value) (x : Int32) (y : Int32) (S : List Value) (h : zH), rn 118 3 [l0] (.int y :: .int x :: S) h = rn 118 4 [l0] (.int (x >>> (y &&& 31)) :: S) h) ∧
  (∀ (l0 : Value) (x : Int32) (h : zH), rn 118 4 [l0] [.int x] h = some (some (.int x), h)) := ⟨fun _ _ _ => r_aload_n (show zdec 118 0 = some (.aload_n 0, 1) by decide +kernel) rfl rfl,
  fun _ _ _ _ => r_alen (show zdec 118 1 = some (.arraylength, 1) by decide +kernel) rfl,
  fun _ _ _ => r_iconst (show zdec 118 2 = some (.iconst 1, 1) by decide +kernel) rfl rfl,
  fun _ _ _ _ _ => r_ishr (show zdec 118 3 = some (.ishr, 1) by decide +kernel) rfl,
  fun _ _ _ => r_ireti (show zdec 118 4 = some (.ireturn, 1) by decide +kernel) (by decide +kernel)⟩
theorem ze_118 : ∀ (a0 : Nat) (h : zH), ev 118 [.ref a0] h = rn 118 0 [.ref a0] [] h := fun _ _ => if_pos (Nat.le_of_ble_eq_true rfl)
-- java/lang/String.checkBoundsBeginEnd(III)V
theorem zr_119 : (∀ (l1 l2 : Value) (x : Int32) (S : List Value) (h : zH), rn 119 0 [.int x, l1, l2] S h = rn 119 1 [.int x, l1, l2] (.int x :: S) h) ∧
  (∀ (l0 l2 : Value) (x : Int32) (S : List Value) (h : zH), rn 119 1 [l0, .int x, l2] S h = rn 119 2 [l0, .int x, l2] (.int x :: S) h) ∧
  (∀ (l0 l1 : Value) (x : Int32) (S : List Value) (h : zH), rn 119 2 [l0, l1, .int x] S h = rn 119 3 [l0, l1, .int x] (.int x :: S) h) ∧
  (∀ (l0 l1 l2 : Value) (S : List Value) (h : zH), rn 119 3 [l0, l1, l2] S h = rn 119 6 [l0, l1, l2] (.retAddr 0 :: S) h) ∧
  (∀ (l0 l1 l2 : Value) (v0 : Value) (v1 : Value) (v2 : Value) (v3 : Value) (S : List Value) (h : zH), rn 119 6 [l0, l1, l2] (v3 :: v2 :: v1 :: v0 :: S) h = if zsum S ≤ 8 then zcall (ev 120 [v0, v1, v2, v3] h) (fun v h => rn 119 9 [l0, l1, l2] (zpush v S) h) else none) ∧
  (∀ (l0 l1 l2 : Value) (v : Value) (S : List Value) (h : zH), rn 119 9 [l0, l1, l2] (v :: S) h = c1 v (rn 119 10 [l0, l1, l2] S h)) ∧
  (∀ (l0 l1 l2 : Value) (h : zH), rn 119 10 [l0, l1, l2] [] h = some (none, h)) := ⟨fun _ _ _ _ _ => r_iload_n (show zdec 119 0 = some (.iload_n 0, 1) by decide +kernel) rfl rfl,
  fun _ _ _ _ _ => r_iload_n (show zdec 119 1 = some (.iload_n 1, 1) by decide +kernel) rfl rfl,
  fun _ _ _ _ _ => r_iload_n (show zdec 119 2 = some (.iload_n 2, 1) by decide +kernel) rfl rfl,
  fun _ _ _ _ _ => r_getstatic (show zdec 119 3 = some (.getstatic 1053, 3) by decide +kernel) (show zgt.lookup (119 * zKEY + 1053) = some 10 by decide +kernel) (by rfl) rfl,
  fun _ _ _ _ _ _ _ _ _ => r_cS [_, _, _, _] rfl (show zdec 119 6 = some (.invokestatic 1062, 3) by decide +kernel) (show zst.lookup (119 * zKEY + 1062) = some (0, 120, 4, 0) by decide +kernel) (by decide) rfl,
  fun _ _ _ _ _ _ => r_pop (show zdec 119 9 = some (.pop, 1) by decide +kernel) rfl,
  fun _ _ _ _ => r_vret (show zdec 119 10 = some (.return_, 1) by decide +kernel) (by decide +kernel)⟩
theorem ze_119 : ∀ (a0 : Int32) (a1 : Int32) (a2 : Int32) (h : zH), ev 119 [.int a0, .int a1, .int a2] h = rn 119 0 [.int a0, .int a1, .int a2] [] h := fun _ _ _ _ => if_pos (Nat.le_of_ble_eq_true rfl)
-- jdk/internal/util/Preconditions.checkFromToIndex(IIILjava/util/function/BiFunction;)I
theorem zr_120 : (∀ (l1 l2 l3 : Value) (x : Int32) (S : List Value) (h : zH), rn 120 0 [.int x, l1, l2, l3] S h = rn 120 1 [.int x, l1, l2, l3] (.int x :: S) h) ∧
  (∀ (l0 l1 l2 l3 : Value) (x : Int32) (S : List Value) (h : zH), rn 120 1 [l0, l1, l2, l3] (.int x :: S) h = if x < nI 0 then rn 120 14 [l0, l1, l2, l3] S h else rn 120 4 [l0, l1, l2, l3] S h) ∧
  (∀ (l1 l2 l3 : Value) (x : Int32) (S : List Value) (h : zH), rn 120 4 [.int x, l1, l2, l3] S h = rn 120 5 [.int x, l1, l2, l3] (.int x :: S) h) ∧
  (∀ (l0 l2 l3 : Value) (x : Int32) (S : List Value) (h : zH), rn 120 5 [l0, .int x, l2, l3] S h = rn 120 6 [l0, .int x, l2, l3] (.int x :: S) h) ∧
  (∀ (l0 l1 l2 l3 : Value) (x : Int32) (y : Int32) (S : List Value) (h : zH), rn 120 6 [l0, l1, l2, l3] (.int y :: .int x :: S) h = if y < x then rn 120 14 [l0, l1, l2, l3] S h else rn 120 9 [l0, l1, l2, l3] S h) ∧
  (∀ (l0 l2 l3 : Value) (x : Int32) (S : List Value) (h : zH), rn 120 9 [l0, .int x, l2, l3] S h = rn 120 10 [l0, .int x, l2, l3] (.int x :: S) h) ∧
  (∀ (l0 l1 l3 : Value) (x : Int32) (S : List Value) (h : zH), rn 120 10 [l0, l1, .int x, l3] S h = rn 120 11 [l0, l1, .int x, l3] (.int x :: S) h) ∧
  (∀ (l0 l1 l2 l3 : Value) (x : Int32) (y : Int32) (S : List Value) (h : zH), rn 120 11 [l0, l1, l2, l3] (.int y :: .int x :: S) h = if x ≤ y then rn 120 22 [l0, l1, l2, l3] S h else rn 120 14 [l0, l1, l2, l3] S h) ∧
  (∀ (l0 l1 l2 l3 : Value) (S : List Value) (h : zH), rn 120 14 [l0, l1, l2, l3] S h = ldA l3 (rn 120 15 [l0, l1, l2, l3] (l3 :: S) h)) ∧
  (∀ (l1 l2 l3 : Value) (x : Int32) (S : List Value) (h : zH), rn 120 15 [.int x, l1, l2, l3] S h = rn 120 16 [.int x, l1, l2, l3] (.int x :: S) h) ∧
  (∀ (l0 l2 l3 : Value) (x : Int32) (S : List Value) (h : zH), rn 120 16 [l0, .int x, l2, l3] S h = rn 120 17 [l0, .int x, l2, l3] (.int x :: S) h) ∧
  (∀ (l0 l1 l3 : Value) (x : Int32) (S : List Value) (h : zH), rn 120 17 [l0, l1, .int x, l3] S h = rn 120 18 [l0, l1, .int x, l3] (.int x :: S) h) ∧
  (∀ (l1 l2 l3 : Value) (x : Int32) (S : List Value) (h : zH), rn 120 22 [.int x, l1, l2, l3] S h = rn 120 23 [.int x, l1, l2, l3] (.int x :: S) h) ∧
  (∀ (l0 l1 l2 l3 : Value) (x : Int32) (h : zH), rn 120 23 [l0, l1, l2, l3] [.int x] h = some (some (.int x), h)) := ⟨fun _ _ _ _ _ _ => r_iload_n (show zdec 120 0 = some (.iload_n 0, 1) by decide +kernel) rfl rfl,
  fun _ _ _ _ _ _ _ => r_iflt (show zdec 120 1 = some (.ifCond .lt 13, 3) by decide +kernel) rfl rfl,
  fun _ _ _ _ _ _ => r_iload_n (show zdec 120 4 = some (.iload_n 0, 1) by decide +kernel) rfl rfl,
  fun _ _ _ _ _ _ => r_iload_n (show zdec 120 5 = some (.iload_n 1, 1) by decide +kernel) rfl rfl,
  fun _ _ _ _ _ _ _ _ => r_icmpgt (show zdec 120 6 = some (.if_icmp .gt 8, 3) by decide +kernel) rfl rfl,
  fun _ _ _ _ _ _ => r_iload_n (show zdec 120 9 = some (.iload_n 1, 1) by decide +kernel) rfl rfl,
  fun _ _ _ _ _ _ => r_iload_n (show zdec 120 10 = some (.iload_n 2, 1) by decide +kernel) rfl rfl,
  fun _ _ _ _ _ _ _ _ => r_icmple (show zdec 120 11 = some (.if_icmp .le 11, 3) by decide +kernel) rfl rfl,
  fun _ _ _ _ _ _ => r_aload_n (show zdec 120 14 = some (.aload_n 3, 1) by decide +kernel) rfl rfl,
  fun _ _ _ _ _ _ => r_iload_n (show zdec 120 15 = some (.iload_n 0, 1) by decide +kernel) rfl rfl,
  fun _ _ _ _ _ _ => r_iload_n (show zdec 120 16 = some (.iload_n 1, 1) by decide +kernel) rfl rfl,
  fun _ _ _ _ _ _ => r_iload_n (show zdec 120 17 = some (.iload_n 2, 1) by decide +kernel) rfl rfl,
  fun _ _ _ _ _ _ => r_iload_n (show zdec 120 22 = some (.iload_n 0, 1) by decide +kernel) rfl rfl,
  fun _ _ _ _ _ _ => r_ireti (show zdec 120 23 = some (.ireturn, 1) by decide +kernel) (by decide +kernel)⟩
theorem ze_120 : ∀ (a0 : Int32) (a1 : Int32) (a2 : Int32) (a3 : Nat) (h : zH), ev 120 [.int a0, .int a1, .int a2, .ref a3] h = rn 120 0 [.int a0, .int a1, .int a2, .ref a3] [] h := fun _ _ _ _ _ => if_pos (Nat.le_of_ble_eq_true rfl)
-- java/lang/StringUTF16.putChar([BII)V
theorem zr_121 : (∀ (l0 l1 l2 : Value) (S : List Value) (h : zH), rn 121 0 [l0, l1, l2] S h = rn 121 3 [l0, l1, l2] (.int 1 :: S) h) ∧
  (∀ (l0 l1 l2 : Value) (x : Int32) (S : List Value) (h : zH), rn 121 3 [l0, l1, l2] (.int x :: S) h = if x = nI 0 then rn 121 6 [l0, l1, l2] S h else rn 121 28 [l0, l1, l2] S h) ∧
  (∀ (l0 l2 : Value) (x : Int32) (S : List Value) (h : zH), rn 121 6 [l0, .int x, l2] S h = rn 121 7 [l0, .int x, l2] (.int x :: S) h) ∧
  (∀ (l0 l1 l2 : Value) (x : Int32) (S : List Value) (h : zH), rn 121 7 [l0, l1, l2] (.int x :: S) h = if x < nI 0 then rn 121 18 [l0, l1, l2] S h else rn 121 10 [l0, l1, l2] S h) ∧
  (∀ (l0 l2 : Value) (x : Int32) (S : List Value) (h : zH), rn 121 10 [l0, .int x, l2] S h = rn 121 11 [l0, .int x, l2] (.int x :: S) h) ∧
  (∀ (l0 l1 l2 : Value) (S : List Value) (h : zH), rn 121 11 [l0, l1, l2] S h = ldA l0 (rn 121 12 [l0, l1, l2] (l0 :: S) h)) ∧
  (∀ (l0 l1 l2 : Value) (v0 : Value) (S : List Value) (h : zH), rn 121 12 [l0, l1, l2] (v0 :: S) h = if zsum S ≤ 8 then zcall (ev 118 [v0] h) (fun v h => rn 121 15 [l0, l1, l2] (zpush v S) h) else none) ∧
  (∀ (l0 l1 l2 : Value) (x : Int32) (y : Int32) (S : List Value) (h : zH), rn 121 15 [l0, l1, l2] (.int y :: .int x :: S) h = if x < y then rn 121 28 [l0, l1, l2] S h else rn 121 18 [l0, l1, l2] S h) ∧
  (∀ (l0 l1 l2 : Value) (v : Value) (S : List Value) (h : zH), rn 121 21 [l0, l1, l2] (v :: S) h = c1 v (rn 121 22 [l0, l1, l2] (v :: v :: S) h)) ∧
  (∀ (l0 l2 : Value) (x : Int32) (S : List Value) (h : zH), rn 121 28 [l0, .int x, l2] S h = rn 121 29 [l0, .int x, l2] (.int x :: S) h) ∧
  (∀ (l0 l1 l2 : Value) (S : List Value) (h : zH), rn 121 29 [l0, l1, l2] S h = rn 121 30 [l0, l1, l2] (.int (nI 1) :: S) h) ∧
  (∀ (l0 l1 l2 : Value) (x : Int32) (y : Int32) (S : List Value) (h : zH), rn 121 30 [l0, l1, l2] (.int y :: .int x :: S) h = rn 121 31 [l0, l1, l2] (.int (x <<< (y &&& 31)) :: S) h) ∧
  (∀ (l0 l1 l2 : Value) (x : Int32) (S : List Value) (h : zH), rn 121 31 [l0, l1, l2] (.int x :: S) h = nl l0 (rn 121 32 [l0, .int x, l2] S h)) ∧
  (∀ (l0 l1 l2 : Value) (S : List Value) (h : zH), rn 121 32 [l0, l1, l2] S h = ldA l0 (rn 121 33 [l0, l1, l2] (l0 :: S) h)) ∧
  (∀ (l0 l2 : Value) (x : Int32) (S : List Value) (h : zH), rn 121 33 [l0, .int x, l2] S h = rn 121 34 [l0, .int x, l2] (.int x :: S) h) ∧
  (∀ (l0 l2 : Value) (x : Int32) (S : List Value) (h : zH), rn 121 34 [l0, .int x, l2] S h = nl l0 (rn 121 37 [l0, .int (x + (nI 1)), l2] S h)) ∧
  (∀ (l0 l1 : Value) (x : Int32) (S : List Value) (h : zH), rn 121 37 [l0, l1, .int x] S h = rn 121 38 [l0, l1, .int x] (.int x :: S) h) ∧
  (∀ (l0 l1 l2 : Value) (S : List Value) (h : zH), rn 121 38 [l0, l1, l2] S h = rn 121 41 [l0, l1, l2] (.int 0 :: S) h) ∧
  (∀ (l0 l1 l2 : Value) (x : Int32) (y : Int32) (S : List Value) (h : zH), rn 121 41 [l0, l1, l2] (.int y :: .int x :: S) h = rn 121 42 [l0, l1, l2] (.int (x >>> (y &&& 31)) :: S) h) ∧
  (∀ (l0 l1 l2 : Value) (x : Int32) (S : List Value) (h : zH), rn 121 42 [l0, l1, l2] (.int x :: S) h = rn 121 43 [l0, l1, l2] (.int x.toInt8.toInt32 :: S) h) ∧
  (∀ (l0 l1 l2 : Value) (a : Nat) (j : Int32) (x : Int32) (S : List Value) (h : zH), rn 121 43 [l0, l1, l2] (.int x :: .int j :: .ref a :: S) h = zsi h a 3 j (vp_nar .byte x) fun h => rn 121 44 [l0, l1, l2] S h) ∧
  (∀ (l0 l1 l2 : Value) (S : List Value) (h : zH), rn 121 44 [l0, l1, l2] S h = ldA l0 (rn 121 45 [l0, l1, l2] (l0 :: S) h)) ∧
  (∀ (l0 l2 : Value) (x : Int32) (S : List Value) (h : zH), rn 121 45 [l0, .int x, l2] S h = rn 121 46 [l0, .int x, l2] (.int x :: S) h) ∧
  (∀ (l0 l1 : Value) (x : Int32) (S : List Value) (h : zH), rn 121 46 [l0, l1, .int x] S h = rn 121 47 [l0, l1, .int x] (.int x :: S) h) ∧
  (∀ (l0 l1 l2 : Value) (S : List Value) (h : zH), rn 121 47 [l0, l1, l2] S h = rn 121 50 [l0, l1, l2] (.int 8 :: S) h) ∧
  (∀ (l0 l1 l2 : Value) (x : Int32) (y : Int32) (S : List Value) (h : zH), rn 121 50 [l0, l1, l2] (.int y :: .int x :: S) h = rn 121 51 [l0, l1, l2] (.int (x >>> (y &&& 31)) :: S) h) ∧
  (∀ (l0 l1 l2 : Value) (x : Int32) (S : List Value) (h : zH), rn 121 51 [l0, l1, l2] (.int x :: S) h = rn 121 52 [l0, l1, l2] (.int x.toInt8.toInt32 :: S) h) ∧
  (∀ (l0 l1 l2 : Value) (a : Nat) (j : Int32) (x : Int32) (S : List Value) (h : zH), rn 121 52 [l0, l1, l2] (.int x :: .int j :: .ref a :: S) h = zsi h a 3 j (vp_nar .byte x) fun h => rn 121 53 [l0, l1, l2] S h) ∧
  (∀ (l0 l1 l2 : Value) (h : zH), rn 121 53 [l0, l1, l2] [] h = some (none, h)) := ⟨fun _ _ _ _ _ => r_getstatic (show zdec 121 0 = some (.getstatic 44, 3) by decide +kernel) (show zgt.lookup (121 * zKEY + 44) = some 7 by decide +kernel) (by rfl) rfl,
  fun _ _ _ _ _ _ => r_ifne (show zdec 121 3 = some (.ifCond .ne 25, 3) by decide +kernel) rfl rfl,
  fun _ _ _ _ _ => r_iload_n (show zdec 121 6 = some (.iload_n 1, 1) by decide +kernel) rfl rfl,
  fun _ _ _ _ _ _ => r_iflt (show zdec 121 7 = some (.ifCond .lt 11, 3) by decide +kernel) rfl rfl,
  fun _ _ _ _ _ => r_iload_n (show zdec 121 10 = some (.iload_n 1, 1) by decide +kernel) rfl rfl,
  fun _ _ _ _ _ => r_aload_n (show zdec 121 11 = some (.aload_n 0, 1) by decide +kernel) rfl rfl,
  fun _ _ _ _ _ _ => r_cS [_] rfl (show zdec 121 12 = some (.invokestatic 48, 3) by decide +kernel) (show zst.lookup (121 * zKEY + 48) = some (0, 118, 1, 0) by decide +kernel) (by decide) rfl,
  fun _ _ _ _ _ _ _ => r_icmplt (show zdec 121 15 = some (.if_icmp .lt 13, 3) by decide +kernel) rfl rfl,
  fun _ _ _ _ _ _ => r_dup (show zdec 121 21 = some (.dup, 1) by decide +kernel) rfl,
  fun _ _ _ _ _ => r_iload_n (show zdec 121 28 = some (.iload_n 1, 1) by decide +kernel) rfl rfl,
  fun _ _ _ _ _ => r_iconst (show zdec 121 29 = some (.iconst 1, 1) by decide +kernel) rfl rfl,
  fun _ _ _ _ _ _ _ => r_ishl (show zdec 121 30 = some (.ishl, 1) by decide +kernel) rfl,
  fun _ _ _ _ _ _ => r_istore_n (show zdec 121 31 = some (.istore_n 1, 1) by decide +kernel) rfl rfl (Nat.le_of_ble_eq_true rfl) rfl rfl,
  fun _ _ _ _ _ => r_aload_n (show zdec 121 32 = some (.aload_n 0, 1) by decide +kernel) rfl rfl,
  fun _ _ _ _ _ => r_iload_n (show zdec 121 33 = some (.iload_n 1, 1) by decide +kernel) rfl rfl,
  fun _ _ _ _ _ => r_iinc (show zdec 121 34 = some (.iinc 1 1, 3) by decide +kernel) rfl rfl rfl (Nat.le_of_ble_eq_true rfl) rfl rfl,
  fun _ _ _ _ _ => r_iload_n (show zdec 121 37 = some (.iload_n 2, 1) by decide +kernel) rfl rfl,
  fun _ _ _ _ _ => r_getstatic (show zdec 121 38 = some (.getstatic 59, 3) by decide +kernel) (show zgt.lookup (121 * zKEY + 59) = some 8 by decide +kernel) (by rfl) rfl,
  fun _ _ _ _ _ _ _ => r_ishr (show zdec 121 41 = some (.ishr, 1) by decide +kernel) rfl,
  fun _ _ _ _ _ _ => r_i2b (show zdec 121 42 = some (.i2b, 1) by decide +kernel) rfl,
  fun _ _ _ _ _ _ _ _ => r_bast (show zdec 121 43 = some (.bastore, 1) by decide +kernel) rfl,
  fun _ _ _ _ _ => r_aload_n (show zdec 121 44 = some (.aload_n 0, 1) by decide +kernel) rfl rfl,
  fun _ _ _ _ _ => r_iload_n (show zdec 121 45 = some (.iload_n 1, 1) by decide +kernel) rfl rfl,
  fun _ _ _ _ _ => r_iload_n (show zdec 121 46 = some (.iload_n 2, 1) by decide +kernel) rfl rfl,
  fun _ _ _ _ _ => r_getstatic (show zdec 121 47 = some (.getstatic 63, 3) by decide +kernel) (show zgt.lookup (121 * zKEY + 63) = some 9 by decide +kernel) (by rfl) rfl,
  fun _ _ _ _ _ _ _ => r_ishr (show zdec 121 50 = some (.ishr, 1) by decide +kernel) rfl,
  fun _ _ _ _ _ _ => r_i2b (show zdec 121 51 = some (.i2b, 1) by decide +kernel) rfl,
  fun _ _ _ _ _ _ _ _ => r_bast (show zdec 121 52 = some (.bastore, 1) by decide +kernel) rfl,
  fun _ _ _ _ => r_vret (show zdec 121 53 = some (.return_, 1) by decide +kernel) (by decide +kernel)⟩
theorem ze_121 : ∀ (a0 : Nat) (a1 : Int32) (a2 : Int32) (h : zH), ev 121 [.ref a0, .int a1, .int a2] h = rn 121 0 [.ref a0, .int a1, .int a2] [] h := fun _ _ _ _ => if_pos (Nat.le_of_ble_eq_true rfl)
-- java/lang/String.length()I
theorem zr_122 : (∀ (x : Nat) (S : List Value) (h : zH), rn 122 0 [.ref x] S h = rn 122 1 [.ref x] (.ref x :: S) h) ∧
  (∀ (l0 : Value) (a : Nat) (S : List Value) (h : zH), rn 122 1 [l0] (.ref a :: S) h = zgf h a 13 0 fun v => rn 122 4 [l0] (v :: S) h) ∧
  (∀ (l0 : Value) (a : Nat) (S : List Value) (h : zH), rn 122 4 [l0] (.ref a :: S) h = zal h a fun x => rn 122 5 [l0] (.int x :: S) h) ∧
  (∀ (x : Nat) (S : List Value) (h : zH), rn 122 5 [.ref x] S h = rn 122 6 [.ref x] (.ref x :: S) h) ∧
  (∀ (l0 : Value) (o : Nat) (S : List Value) (h : zH), rn 122 6 [l0] (.ref o :: S) h = if zkd h o = 13 ∧ zsum S ≤ 8 then zcall (ev 123 [.ref o] h) (fun v h => rn 122 9 [l0] (zpush v S) h) else none) ∧
  (∀ (l0 : Value) (x : Int32) (y : Int32) (S : List Value) (h : zH), rn 122 9 [l0] (.int y :: .int x :: S) h = rn 122 10 [l0] (.int (x >>> (y &&& 31)) :: S) h) ∧
  (∀ (l0 : Value) (x : Int32) (h : zH), rn 122 10 [l0] [.int x] h = some (some (.int x), h)) := ⟨fun _ _ _ => r_aload_nr (show zdec 122 0 = some (.aload_n 0, 1) by decide +kernel) rfl rfl,
  fun _ _ _ _ => r_getfield (show zdec 122 1 = some (.getfield 9, 3) by decide +kernel) (show zft.lookup (122 * zKEY + 9) = some (13, 0) by decide +kernel) rfl,
  fun _ _ _ _ => r_alen (show zdec 122 4 = some (.arraylength, 1) by decide +kernel) rfl,
  fun _ _ _ => r_aload_nr (show zdec 122 5 = some (.aload_n 0, 1) by decide +kernel) rfl rfl,
  fun _ _ _ _ => r_cV [] rfl (show zdec 122 6 = some (.invokevirtual 335, 3) by decide +kernel) (show zst.lookup (122 * zKEY + 335) = some (1, 123, 0, 13) by decide +kernel) (by decide) rfl,
  fun _ _ _ _ _ => r_ishr (show zdec 122 9 = some (.ishr, 1) by decide +kernel) rfl,
  fun _ _ _ => r_ireti (show zdec 122 10 = some (.ireturn, 1) by decide +kernel) (by decide +kernel)⟩
theorem ze_122 : ∀ (a0 : Nat) (h : zH), ev 122 [.ref a0] h = rn 122 0 [.ref a0] [] h := fun _ _ => if_pos (Nat.le_of_ble_eq_true rfl)
-- java/lang/String.coder()B
theorem zr_123 : (∀ (l0 : Value) (S : List Value) (h : zH), rn 123 0 [l0] S h = rn 123 3 [l0] (.int 1 :: S) h) ∧
  (∀ (l0 : Value) (x : Int32) (S : List Value) (h : zH), rn 123 3 [l0] (.int x :: S) h = if x = nI 0 then rn 123 13 [l0] S h else rn 123 6 [l0] S h) ∧
  (∀ (x : Nat) (S : List Value) (h : zH), rn 123 6 [.ref x] S h = rn 123 7 [.ref x] (.ref x :: S) h) ∧
  (∀ (l0 : Value) (a : Nat) (S : List Value) (h : zH), rn 123 7 [l0] (.ref a :: S) h = zgf h a 13 1 fun v => rn 123 10 [l0] (v :: S) h) ∧
  (∀ (l0 : Value) (S : List Value) (h : zH), rn 123 10 [l0] S h = rn 123 14 [l0] S h) ∧
  (∀ (l0 : Value) (S : List Value) (h : zH), rn 123 13 [l0] S h = rn 123 14 [l0] (.int (nI 1) :: S) h) ∧
  (∀ (l0 : Value) (x : Int32) (h : zH), rn 123 14 [l0] [.int x] h = if x = nI 0 then some (some (.int x), h) else none) := ⟨fun _ _ _ => r_getstatic (show zdec 123 0 = some (.getstatic 38, 3) by decide +kernel) (show zgt.lookup (123 * zKEY + 38) = some 6 by decide +kernel) (by rfl) rfl,
  fun _ _ _ _ => r_ifeq (show zdec 123 3 = some (.ifCond .eq 10, 3) by decide +kernel) rfl rfl,
  fun _ _ _ => r_aload_nr (show zdec 123 6 = some (.aload_n 0, 1) by decide +kernel) rfl rfl,
  fun _ _ _ _ => r_getfield (show zdec 123 7 = some (.getfield 15, 3) by decide +kernel) (show zft.lookup (123 * zKEY + 15) = some (13, 1) by decide +kernel) rfl,
  fun _ _ _ => r_goto (show zdec 123 10 = some (.goto 4, 3) by decide +kernel) rfl,
  fun _ _ _ => r_iconst (show zdec 123 13 = some (.iconst 1, 1) by decide +kernel) rfl rfl,
  fun _ _ _ => r_iretB (show zdec 123 14 = some (.ireturn, 1) by decide +kernel) (by decide +kernel)⟩
theorem ze_123 : ∀ (a0 : Nat) (h : zH), ev 123 [.ref a0] h = rn 123 0 [.ref a0] [] h := fun _ _ => if_pos (Nat.le_of_ble_eq_true rfl)
-- java/lang/AbstractStringBuilder.putStringAt(ILjava/lang/String;)V
theorem zr_124 : (∀ (l1 l2 : Value) (x : Nat) (S : List Value) (h : zH), rn 124 0 [.ref x, l1, l2] S h = rn 124 1 [.ref x, l1, l2] (.ref x :: S) h) ∧
  (∀ (l0 l1 l2 : Value) (S : List Value) (h : zH), rn 124 1 [l0, l1, l2] S h = ldA l2 (rn 124 2 [l0, l1, l2] (l2 :: S) h)) ∧
  (∀ (l0 l1 l2 : Value) (S : List Value) (h : zH), rn 124 5 [l0, l1, l2] S h = ldA l2 (rn 124 6 [l0, l1, l2] (l2 :: S) h)) ∧
  (∀ (l1 l2 : Value) (x : Nat) (S : List Value) (h : zH), rn 124 6 [.ref x, l1, l2] S h = rn 124 7 [.ref x, l1, l2] (.ref x :: S) h) ∧
  (∀ (l0 l1 l2 : Value) (a : Nat) (S : List Value) (h : zH), rn 124 7 [l0, l1, l2] (.ref a :: S) h = zgf h a 0 0 fun v => rn 124 10 [l0, l1, l2] (v :: S) h) ∧
  (∀ (l0 l2 : Value) (x : Int32) (S : List Value) (h : zH), rn 124 10 [l0, .int x, l2] S h = rn 124 11 [l0, .int x, l2] (.int x :: S) h) ∧
  (∀ (l1 l2 : Value) (x : Nat) (S : List Value) (h : zH), rn 124 11 [.ref x, l1, l2] S h = rn 124 12 [.ref x, l1, l2] (.ref x :: S) h) ∧
  (∀ (l0 l1 l2 : Value) (a : Nat) (S : List Value) (h : zH), rn 124 12 [l0, l1, l2] (.ref a :: S) h = zgf h a 0 1 fun v => rn 124 15 [l0, l1, l2] (v :: S) h) ∧
  (∀ (l0 l1 l2 : Value) (o : Nat) (v0 : Value) (v1 : Value) (v2 : Value) (S : List Value) (h : zH), rn 124 15 [l0, l1, l2] (v2 :: v1 :: v0 :: .ref o :: S) h = if zkd h o = 13 ∧ zsum S ≤ 8 then zcall (ev 132 [.ref o, v0, v1, v2] h) (fun v h => rn 124 18 [l0, l1, l2] (zpush v S) h) else none) ∧
  (∀ (l0 l1 l2 : Value) (h : zH), rn 124 18 [l0, l1, l2] [] h = some (none, h)) := ⟨fun _ _ _ _ _ => r_aload_nr (show zdec 124 0 = some (.aload_n 0, 1) by decide +kernel) rfl rfl,
  fun _ _ _ _ _ => r_aload_n (show zdec 124 1 = some (.aload_n 2, 1) by decide +kernel) rfl rfl,
  fun _ _ _ _ _ => r_aload_n (show zdec 124 5 = some (.aload_n 2, 1) by decide +kernel) rfl rfl,
  fun _ _ _ _ _ => r_aload_nr (show zdec 124 6 = some (.aload_n 0, 1) by decide +kernel) rfl rfl,
  fun _ _ _ _ _ _ => r_getfield (show zdec 124 7 = some (.getfield 15, 3) by decide +kernel) (show zft.lookup (124 * zKEY + 15) = some (0, 0) by decide +kernel) rfl,
  fun _ _ _ _ _ => r_iload_n (show zdec 124 10 = some (.iload_n 1, 1) by decide +kernel) rfl rfl,
  fun _ _ _ _ _ => r_aload_nr (show zdec 124 11 = some (.aload_n 0, 1) by decide +kernel) rfl rfl,
  fun _ _ _ _ _ _ => r_getfield (show zdec 124 12 = some (.getfield 22, 3) by decide +kernel) (show zft.lookup (124 * zKEY + 22) = some (0, 1) by decide +kernel) rfl,
  fun _ _ _ _ _ _ _ _ _ => r_cV [_, _, _] rfl (show zdec 124 15 = some (.invokevirtual 399, 3) by decide +kernel) (show zst.lookup (124 * zKEY + 399) = some (1, 132, 3, 13) by decide +kernel) (by decide) rfl,
  fun _ _ _ _ => r_vret (show zdec 124 18 = some (.return_, 1) by decide +kernel) (by decide +kernel)⟩
theorem ze_124 : ∀ (a0 : Nat) (a1 : Int32) (a2 : Nat) (h : zH), ev 124 [.ref a0, .int a1, .ref a2] h = rn 124 0 [.ref a0, .int a1, .ref a2] [] h := fun _ _ _ _ => if_pos (Nat.le_of_ble_eq_true rfl)
-- java/lang/AbstractStringBuilder.inflateIfNeededFor(Ljava/lang/String;)V
theorem zr_125 : (∀ (l0 l1 : Value) (S : List Value) (h : zH), rn 125 0 [l0, l1] S h = rn 125 3 [l0, l1] (.int 1 :: S) h) ∧
  (∀ (l0 l1 : Value) (x : Int32) (S : List Value) (h : zH), rn 125 3 [l0, l1] (.int x :: S) h = if x = nI 0 then rn 125 21 [l0, l1] S h else rn 125 6 [l0, l1] S h) ∧
  (∀ (l1 : Value) (x : Nat) (S : List Value) (h : zH), rn 125 6 [.ref x, l1] S h = rn 125 7 [.ref x, l1] (.ref x :: S) h) ∧
  (∀ (l0 l1 : Value) (a : Nat) (S : List Value) (h : zH), rn 125 7 [l0, l1] (.ref a :: S) h = zgf h a 0 1 fun v => rn 125 10 [l0, l1] (v :: S) h) ∧
  (∀ (l0 l1 : Value) (S : List Value) (h : zH), rn 125 10 [l0, l1] S h = ldA l1 (rn 125 11 [l0, l1] (l1 :: S) h)) ∧
  (∀ (l0 l1 : Value) (o : Nat) (S : List Value) (h : zH), rn 125 11 [l0, l1] (.ref o :: S) h = if zkd h o = 13 ∧ zsum S ≤ 8 then zcall (ev 123 [.ref o] h) (fun v h => rn 125 14 [l0, l1] (zpush v S) h) else none) ∧
  (∀ (l0 l1 : Value) (x : Int32) (y : Int32) (S : List Value) (h : zH), rn 125 14 [l0, l1] (.int y :: .int x :: S) h = if x = y then rn 125 21 [l0, l1] S h else rn 125 17 [l0, l1] S h) ∧
  (∀ (l1 : Value) (x : Nat) (S : List Value) (h : zH), rn 125 17 [.ref x, l1] S h = rn 125 18 [.ref x, l1] (.ref x :: S) h) ∧
  (∀ (l0 l1 : Value) (h : zH), rn 125 21 [l0, l1] [] h = some (none, h)) := ⟨fun _ _ _ _ => r_getstatic (show zdec 125 0 = some (.getstatic 18, 3) by decide +kernel) (show zgt.lookup (125 * zKEY + 18) = some 6 by decide +kernel) (by rfl) rfl,
  fun _ _ _ _ _ => r_ifeq (show zdec 125 3 = some (.ifCond .eq 18, 3) by decide +kernel) rfl rfl,
  fun _ _ _ _ => r_aload_nr (show zdec 125 6 = some (.aload_n 0, 1) by decide +kernel) rfl rfl,
  fun _ _ _ _ _ => r_getfield (show zdec 125 7 = some (.getfield 22, 3) by decide +kernel) (show zft.lookup (125 * zKEY + 22) = some (0, 1) by decide +kernel) rfl,
  fun _ _ _ _ => r_aload_n (show zdec 125 10 = some (.aload_n 1, 1) by decide +kernel) rfl rfl,
  fun _ _ _ _ _ => r_cV [] rfl (show zdec 125 11 = some (.invokevirtual 40, 3) by decide +kernel) (show zst.lookup (125 * zKEY + 40) = some (1, 123, 0, 13) by decide +kernel) (by decide) rfl,
  fun _ _ _ _ _ _ => r_icmpeq (show zdec 125 14 = some (.if_icmp .eq 7, 3) by decide +kernel) rfl rfl,
  fun _ _ _ _ => r_aload_nr (show zdec 125 17 = some (.aload_n 0, 1) by decide +kernel) rfl rfl,
  fun _ _ _ => r_vret (show zdec 125 21 = some (.return_, 1) by decide +kernel) (by decide +kernel)⟩
theorem ze_125 : ∀ (a0 : Nat) (a1 : Nat) (h : zH), ev 125 [.ref a0, .ref a1] h = rn 125 0 [.ref a0, .ref a1] [] h := fun _ _ _ => if_pos (Nat.le_of_ble_eq_true rfl)
-- java/lang/AbstractStringBuilder.inflate()V
theorem zr_126 : (∀ (l1 : Value) (x : Nat) (S : List Value) (h : zH), rn 126 0 [.ref x, l1] S h = rn 126 1 [.ref x, l1] (.ref x :: S) h) ∧
  (∀ (l0 l1 : Value) (o : Nat) (S : List Value) (h : zH), rn 126 1 [l0, l1] (.ref o :: S) h = if zkd h o = 0 ∧ zsum S ≤ 8 then zcall (ev 106 [.ref o] h) (fun v h => rn 126 4 [l0, l1] (zpush v S) h) else none) ∧
  (∀ (l0 l1 : Value) (x : Int32) (S : List Value) (h : zH), rn 126 4 [l0, l1] (.int x :: S) h = if x = nI 0 then rn 126 7 [l0, l1] S h else rn 126 8 [l0, l1] S h) ∧
  (∀ (l0 l1 : Value) (h : zH), rn 126 7 [l0, l1] [] h = some (none, h)) ∧
  (∀ (l1 : Value) (x : Nat) (S : List Value) (h : zH), rn 126 8 [.ref x, l1] S h = rn 126 9 [.ref x, l1] (.ref x :: S) h) ∧
  (∀ (l0 l1 : Value) (a : Nat) (S : List Value) (h : zH), rn 126 9 [l0, l1] (.ref a :: S) h = zgf h a 0 0 fun v => rn 126 12 [l0, l1] (v :: S) h) ∧
  (∀ (l0 l1 : Value) (a : Nat) (S : List Value) (h : zH), rn 126 12 [l0, l1] (.ref a :: S) h = zal h a fun x => rn 126 13 [l0, l1] (.int x :: S) h) ∧
  (∀ (l0 l1 : Value) (v0 : Value) (S : List Value) (h : zH), rn 126 13 [l0, l1] (v0 :: S) h = if zsum S ≤ 8 then zcall (ev 14 [v0] h) (fun v h => rn 126 16 [l0, l1] (zpush v S) h) else none) ∧
  (∀ (l0 l1 : Value) (v : Value) (S : List Value) (h : zH), rn 126 16 [l0, l1] (v :: S) h = ldA v (nl l0 (rn 126 17 [l0, v] S h))) ∧
  (∀ (l1 : Value) (x : Nat) (S : List Value) (h : zH), rn 126 17 [.ref x, l1] S h = rn 126 18 [.ref x, l1] (.ref x :: S) h) ∧
  (∀ (l0 l1 : Value) (a : Nat) (S : List Value) (h : zH), rn 126 18 [l0, l1] (.ref a :: S) h = zgf h a 0 0 fun v => rn 126 21 [l0, l1] (v :: S) h) ∧
  (∀ (l0 l1 : Value) (S : List Value) (h : zH), rn 126 21 [l0, l1] S h = rn 126 22 [l0, l1] (.int (nI 0) :: S) h) ∧
  (∀ (l0 l1 : Value) (S : List Value) (h : zH), rn 126 22 [l0, l1] S h = ldA l1 (rn 126 23 [l0, l1] (l1 :: S) h)) ∧
  (∀ (l0 l1 : Value) (S : List Value) (h : zH), rn 126 23 [l0, l1] S h = rn 126 24 [l0, l1] (.int (nI 0) :: S) h) ∧
  (∀ (l1 : Value) (x : Nat) (S : List Value) (h : zH), rn 126 24 [.ref x, l1] S h = rn 126 25 [.ref x, l1] (.ref x :: S) h) ∧
  (∀ (l0 l1 : Value) (a : Nat) (S : List Value) (h : zH), rn 126 25 [l0, l1] (.ref a :: S) h = zgf h a 0 3 fun v => rn 126 28 [l0, l1] (v :: S) h) ∧
  (∀ (l0 l1 : Value) (v0 : Value) (v1 : Value) (v2 : Value) (v3 : Value) (v4 : Value) (S : List Value) (h : zH), rn 126 28 [l0, l1] (v4 :: v3 :: v2 :: v1 :: v0 :: S) h = if zsum S ≤ 8 then zcall (ev 127 [v0, v1, v2, v3, v4] h) (fun v h => rn 126 31 [l0, l1] (zpush v S) h) else none) ∧
  (∀ (l1 : Value) (x : Nat) (S : List Value) (h : zH), rn 126 31 [.ref x, l1] S h = rn 126 32 [.ref x, l1] (.ref x :: S) h) ∧
  (∀ (l0 l1 : Value) (S : List Value) (h : zH), rn 126 32 [l0, l1] S h = ldA l1 (rn 126 33 [l0, l1] (l1 :: S) h)) ∧
  (∀ (l0 l1 : Value) (a : Nat) (v : Value) (S : List Value) (h : zH), rn 126 33 [l0, l1] (v :: .ref a :: S) h = zpf h a 0 0 v fun h => rn 126 36 [l0, l1] S h) ∧
  (∀ (l1 : Value) (x : Nat) (S : List Value) (h : zH), rn 126 36 [.ref x, l1] S h = rn 126 37 [.ref x, l1] (.ref x :: S) h) ∧
  (∀ (l0 l1 : Value) (S : List Value) (h : zH), rn 126 37 [l0, l1] S h = rn 126 38 [l0, l1] (.int (nI 1) :: S) h) ∧
  (∀ (l0 l1 : Value) (a : Nat) (v : Value) (S : List Value) (h : zH), rn 126 38 [l0, l1] (v :: .ref a :: S) h = zpf h a 0 1 v fun h => rn 126 41 [l0, l1] S h) ∧
  (∀ (l0 l1 : Value) (h : zH), rn 126 41 [l0, l1] [] h = some (none, h)) := ⟨fun _ _ _ _ => r_aload_nr (show zdec 126 0 = some (.aload_n 0, 1) by decide +kernel) rfl rfl,
  fun _ _ _ _ _ => r_cV [] rfl (show zdec 126 1 = some (.invokevirtual 83, 3) by decide +kernel) (show zst.lookup (126 * zKEY + 83) = some (5, 106, 0, 0) by decide +kernel) (by decide) rfl,
  fun _ _ _ _ _ => r_ifne (show zdec 126 4 = some (.ifCond .ne 4, 3) by decide +kernel) rfl rfl,
  fun _ _ _ => r_vret (show zdec 126 7 = some (.return_, 1) by decide +kernel) (by decide +kernel),
  fun _ _ _ _ => r_aload_nr (show zdec 126 8 = some (.aload_n 0, 1) by decide +kernel) rfl rfl,
  fun _ _ _ _ _ => r_getfield (show zdec 126 9 = some (.getfield 15, 3) by decide +kernel) (show zft.lookup (126 * zKEY + 15) = some (0, 0) by decide +kernel) rfl,
  fun _ _ _ _ _ => r_alen (show zdec 126 12 = some (.arraylength, 1) by decide +kernel) rfl,
  fun _ _ _ _ _ => r_cS [_] rfl (show zdec 126 13 = some (.invokestatic 26, 3) by decide +kernel) (show zst.lookup (126 * zKEY + 26) = some (0, 14, 1, 0) by decide +kernel) (by decide) rfl,
  fun _ _ _ _ _ => r_astore_n (show zdec 126 16 = some (.astore_n 1, 1) by decide +kernel) rfl rfl (Nat.le_of_ble_eq_true rfl) rfl rfl,
  fun _ _ _ _ => r_aload_nr (show zdec 126 17 = some (.aload_n 0, 1) by decide +kernel) rfl rfl,
  fun _ _ _ _ _ => r_getfield (show zdec 126 18 = some (.getfield 15, 3) by decide +kernel) (show zft.lookup (126 * zKEY + 15) = some (0, 0) by decide +kernel) rfl,
  fun _ _ _ _ => r_iconst (show zdec 126 21 = some (.iconst 0, 1) by decide +kernel) rfl rfl,
  fun _ _ _ _ => r_aload_n (show zdec 126 22 = some (.aload_n 1, 1) by decide +kernel) rfl rfl,
  fun _ _ _ _ => r_iconst (show zdec 126 23 = some (.iconst 0, 1) by decide +kernel) rfl rfl,
  fun _ _ _ _ => r_aload_nr (show zdec 126 24 = some (.aload_n 0, 1) by decide +kernel) rfl rfl,
  fun _ _ _ _ _ => r_getfield (show zdec 126 25 = some (.getfield 79, 3) by decide +kernel) (show zft.lookup (126 * zKEY + 79) = some (0, 3) by decide +kernel) rfl,
  fun _ _ _ _ _ _ _ _ _ => r_cS [_, _, _, _, _] rfl (show zdec 126 28 = some (.invokestatic 125, 3) by decide +kernel) (show zst.lookup (126 * zKEY + 125) = some (0, 127, 5, 0) by decide +kernel) (by decide) rfl,
  fun _ _ _ _ => r_aload_nr (show zdec 126 31 = some (.aload_n 0, 1) by decide +kernel) rfl rfl,
  fun _ _ _ _ => r_aload_n (show zdec 126 32 = some (.aload_n 1, 1) by decide +kernel) rfl rfl,
  fun _ _ _ _ _ _ => r_putfield (show zdec 126 33 = some (.putfield 15, 3) by decide +kernel) (show zft.lookup (126 * zKEY + 15) = some (0, 0) by decide +kernel) (by decide +kernel) rfl,
  fun _ _ _ _ => r_aload_nr (show zdec 126 36 = some (.aload_n 0, 1) by decide +kernel) rfl rfl,
  fun _ _ _ _ => r_iconst (show zdec 126 37 = some (.iconst 1, 1) by decide +kernel) rfl rfl,
  fun _ _ _ _ _ _ => r_putfield (show zdec 126 38 = some (.putfield 22, 3) by decide +kernel) (show zft.lookup (126 * zKEY + 22) = some (0, 1) by decide +kernel) (by decide +kernel) rfl,
  fun _ _ _ => r_vret (show zdec 126 41 = some (.return_, 1) by decide +kernel) (by decide +kernel)⟩
theorem ze_126 : ∀ (a0 : Nat) (h : zH), ev 126 [.ref a0] h = rn 126 0 [.ref a0, .float 0] [] h := fun _ _ => if_pos (Nat.le_of_ble_eq_true rfl)
-- java/lang/StringLatin1.inflate([BI[BII)V
theorem zr_127 : (∀ (l0 l1 l2 l3 l4 : Value) (S : List Value) (h : zH), rn 127 0 [l0, l1, l2, l3, l4] S h = ldA l0 (rn 127 1 [l0, l1, l2, l3, l4] (l0 :: S) h)) ∧
  (∀ (l0 l2 l3 l4 : Value) (x : Int32) (S : List Value) (h : zH), rn 127 1 [l0, .int x, l2, l3, l4] S h = rn 127 2 [l0, .int x, l2, l3, l4] (.int x :: S) h) ∧
  (∀ (l0 l1 l2 l3 l4 : Value) (S : List Value) (h : zH), rn 127 2 [l0, l1, l2, l3, l4] S h = ldA l2 (rn 127 3 [l0, l1, l2, l3, l4] (l2 :: S) h)) ∧
  (∀ (l0 l1 l2 l4 : Value) (x : Int32) (S : List Value) (h : zH), rn 127 3 [l0, l1, l2, .int x, l4] S h = rn 127 4 [l0, l1, l2, .int x, l4] (.int x :: S) h) ∧
  (∀ (l0 l1 l2 l3 : Value) (x : Int32) (S : List Value) (h : zH), rn 127 4 [l0, l1, l2, l3, .int x] S h = rn 127 6 [l0, l1, l2, l3, .int x] (.int x :: S) h) ∧
  (∀ (l0 l1 l2 l3 l4 : Value) (v0 : Value) (v1 : Value) (v2 : Value) (v3 : Value) (v4 : Value) (S : List Value) (h : zH), rn 127 6 [l0, l1, l2, l3, l4] (v4 :: v3 :: v2 :: v1 :: v0 :: S) h = if zsum S ≤ 8 then zcall (ev 128 [v0, v1, v2, v3, v4] h) (fun v h => rn 127 9 [l0, l1, l2, l3, l4] (zpush v S) h) else none) ∧
  (∀ (l0 l1 l2 l3 l4 : Value) (h : zH), rn 127 9 [l0, l1, l2, l3, l4] [] h = some (none, h)) := ⟨fun _ _ _ _ _ _ _ => r_aload_n (show zdec 127 0 = some (.aload_n 0, 1) by decide +kernel) rfl rfl,
  fun _ _ _ _ _ _ _ => r_iload_n (show zdec 127 1 = some (.iload_n 1, 1) by decide +kernel) rfl rfl,
  fun _ _ _ _ _ _ _ => r_aload_n (show zdec 127 2 = some (.aload_n 2, 1) by decide +kernel) rfl rfl,
  fun _ _ _ _ _ _ _ => r_iload_n (show zdec 127 3 = some (.iload_n 3, 1) by decide +kernel) rfl rfl,
  fun _ _ _ _ _ _ _ => r_iload (show zdec 127 4 = some (.iload 4, 2) by decide +kernel) rfl rfl,
  fun _ _ _ _ _ _ _ _ _ _ _ _ => r_cS [_, _, _, _, _] rfl (show zdec 127 6 = some (.invokestatic 240, 3) by decide +kernel) (show zst.lookup (127 * zKEY + 240) = some (0, 128, 5, 0) by decide +kernel) (by decide) rfl,
  fun _ _ _ _ _ _ => r_vret (show zdec 127 9 = some (.return_, 1) by decide +kernel) (by decide +kernel)⟩
theorem ze_127 : ∀ (a0 : Nat) (a1 : Int32) (a2 : Nat) (a3 : Int32) (a4 : Int32) (h : zH), ev 127 [.ref a0, .int a1, .ref a2, .int a3, .int a4] h = rn 127 0 [.ref a0, .int a1, .ref a2, .int a3, .int a4] [] h := fun _ _ _ _ _ _ => if_pos (Nat.le_of_ble_eq_true rfl)
-- java/lang/StringUTF16.inflate([BI[BII)V
theorem zr_128 : (∀ (l0 l1 l2 l4 l5 : Value) (x : Int32) (S : List Value) (h : zH), rn 128 0 [l0, l1, l2, .int x, l4, l5] S h = rn 128 1 [l0, l1, l2, .int x, l4, l5] (.int x :: S) h) ∧
  (∀ (l0 l1 l2 l3 l5 : Value) (x : Int32) (S : List Value) (h : zH), rn 128 1 [l0, l1, l2, l3, .int x, l5] S h = rn 128 3 [l0, l1, l2, l3, .int x, l5] (.int x :: S) h) ∧
  (∀ (l0 l1 l2 l3 l4 l5 : Value) (S : List Value) (h : zH), rn 128 3 [l0, l1, l2, l3, l4, l5] S h = ldA l2 (rn 128 4 [l0, l1, l2, l3, l4, l5] (l2 :: S) h)) ∧
  (∀ (l0 l1 l2 l3 l4 l5 : Value) (v0 : Value) (v1 : Value) (v2 : Value) (S : List Value) (h : zH), rn 128 4 [l0, l1, l2, l3, l4, l5] (v2 :: v1 :: v0 :: S) h = if zsum S ≤ 8 then zcall (ev 129 [v0, v1, v2] h) (fun v h => rn 128 7 [l0, l1, l2, l3, l4, l5] (zpush v S) h) else none) ∧
  (∀ (l0 l1 l2 l3 l4 l5 : Value) (S : List Value) (h : zH), rn 128 7 [l0, l1, l2, l3, l4, l5] S h = rn 128 8 [l0, l1, l2, l3, l4, l5] (.int (nI 0) :: S) h) ∧
  (∀ (l0 l1 l2 l3 l4 l5 : Value) (x : Int32) (S : List Value) (h : zH), rn 128 8 [l0, l1, l2, l3, l4, l5] (.int x :: S) h = nl l4 (rn 128 10 [l0, l1, l2, l3, l4, .int x] S h)) ∧
  (∀ (l0 l1 l2 l3 l5 : Value) (x : Int32) (S : List Value) (h : zH), rn 128 12 [l0, l1, l2, l3, .int x, l5] S h = rn 128 14 [l0, l1, l2, l3, .int x, l5] (.int x :: S) h) ∧
  (∀ (l0 l1 l2 l3 l4 l5 : Value) (x : Int32) (y : Int32) (S : List Value) (h : zH), rn 128 14 [l0, l1, l2, l3, l4, l5] (.int y :: .int x :: S) h = if y ≤ x then rn 128 41 [l0, l1, l2, l3, l4, l5] S h else rn 128 17 [l0, l1, l2, l3, l4, l5] S h) ∧
  (∀ (l0 l1 l2 l3 l4 l5 : Value) (S : List Value) (h : zH), rn 128 17 [l0, l1, l2, l3, l4, l5] S h = ldA l2 (rn 128 18 [l0, l1, l2, l3, l4, l5] (l2 :: S) h)) ∧
  (∀ (l0 l1 l2 l4 l5 : Value) (x : Int32) (S : List Value) (h : zH), rn 128 18 [l0, l1, l2, .int x, l4, l5] S h = rn 128 19 [l0, l1, l2, .int x, l4, l5] (.int x :: S) h) ∧
  (∀ (l0 l1 l2 l4 l5 : Value) (x : Int32) (S : List Value) (h : zH), rn 128 19 [l0, l1, l2, .int x, l4, l5] S h = nl l2 (rn 128 22 [l0, l1, l2, .int (x + (nI 1)), l4, l5] S h)) ∧
  (∀ (l0 l1 l2 l3 l4 l5 : Value) (S : List Value) (h : zH), rn 128 22 [l0, l1, l2, l3, l4, l5] S h = ldA l0 (rn 128 23 [l0, l1, l2, l3, l4, l5] (l0 :: S) h)) ∧
  (∀ (l0 l2 l3 l4 l5 : Value) (x : Int32) (S : List Value) (h : zH), rn 128 23 [l0, .int x, l2, l3, l4, l5] S h = rn 128 24 [l0, .int x, l2, l3, l4, l5] (.int x :: S) h) ∧
  (∀ (l0 l2 l3 l4 l5 : Value) (x : Int32) (S : List Value) (h : zH), rn 128 24 [l0, .int x, l2, l3, l4, l5] S h = nl l0 (rn 128 27 [l0, .int (x + (nI 1)), l2, l3, l4, l5] S h)) ∧
  (∀ (l0 l1 l2 l3 l4 l5 : Value) (a : Nat) (j : Int32) (S : List Value) (h : zH), rn 128 27 [l0, l1, l2, l3, l4, l5] (.int j :: .ref a :: S) h = zli h a 3 j fun x => rn 128 28 [l0, l1, l2, l3, l4, l5] (.int x :: S) h) ∧
  (∀ (l0 l1 l2 l3 l4 l5 : Value) (S : List Value) (h : zH), rn 128 28 [l0, l1, l2, l3, l4, l5] S h = rn 128 31 [l0, l1, l2, l3, l4, l5] (.int (nI 255) :: S) h) ∧
  (∀ (l0 l1 l2 l3 l4 l5 : Value) (x : Int32) (y : Int32) (S : List Value) (h : zH), rn 128 31 [l0, l1, l2, l3, l4, l5] (.int y :: .int x :: S) h = rn 128 32 [l0, l1, l2, l3, l4, l5] (.int (x &&& y) :: S) h) ∧
  (∀ (l0 l1 l2 l3 l4 l5 : Value) (v0 : Value) (v1 : Value) (v2 : Value) (S : List Value) (h : zH), rn 128 32 [l0, l1, l2, l3, l4, l5] (v2 :: v1 :: v0 :: S) h = if zsum S ≤ 8 then zcall (ev 121 [v0, v1, v2] h) (fun v h => rn 128 35 [l0, l1, l2, l3, l4, l5] (zpush v S) h) else none) ∧
  (∀ (l0 l1 l2 l3 l4 : Value) (x : Int32) (S : List Value) (h : zH), rn 128 35 [l0, l1, l2, l3, l4, .int x] S h = nl l4 (rn 128 38 [l0, l1, l2, l3, l4, .int (x + (nI 1))] S h)) ∧
  (∀ (l0 l1 l2 l3 l4 l5 : Value) (S : List Value) (h : zH), rn 128 38 [l0, l1, l2, l3, l4, l5] S h = rn 128 10 [l0, l1, l2, l3, l4, l5] S h) ∧
  (∀ (l0 l1 l2 l3 l4 l5 : Value) (h : zH), rn 128 41 [l0, l1, l2, l3, l4, l5] [] h = some (none, h)) := ⟨fun _ _ _ _ _ _ _ _ => r_iload_n (show zdec 128 0 = some (.iload_n 3, 1) by decide +kernel) rfl rfl,
  fun _ _ _ _ _ _ _ _ => r_iload (show zdec 128 1 = some (.iload 4, 2) by decide +kernel) rfl rfl,
  fun _ _ _ _ _ _ _ _ => r_aload_n (show zdec 128 3 = some (.aload_n 2, 1) by decide +kernel) rfl rfl,
  fun _ _ _ _ _ _ _ _ _ _ _ => r_cS [_, _, _] rfl (show zdec 128 4 = some (.invokestatic 173, 3) by decide +kernel) (show zst.lookup (128 * zKEY + 173) = some (0, 129, 3, 0) by decide +kernel) (by decide) rfl,
  fun _ _ _ _ _ _ _ _ => r_iconst (show zdec 128 7 = some (.iconst 0, 1) by decide +kernel) rfl rfl,
  fun _ _ _ _ _ _ _ _ _ => r_istore (show zdec 128 8 = some (.istore 5, 2) by decide +kernel) rfl (Nat.le_of_ble_eq_true rfl) rfl rfl,
  fun _ _ _ _ _ _ _ _ => r_iload (show zdec 128 12 = some (.iload 4, 2) by decide +kernel) rfl rfl,
  fun _ _ _ _ _ _ _ _ _ _ => r_icmpge (show zdec 128 14 = some (.if_icmp .ge 27, 3) by decide +kernel) rfl rfl,
  fun _ _ _ _ _ _ _ _ => r_aload_n (show zdec 128 17 = some (.aload_n 2, 1) by decide +kernel) rfl rfl,
  fun _ _ _ _ _ _ _ _ => r_iload_n (show zdec 128 18 = some (.iload_n 3, 1) by decide +kernel) rfl rfl,
  fun _ _ _ _ _ _ _ _ => r_iinc (show zdec 128 19 = some (.iinc 3 1, 3) by decide +kernel) rfl rfl rfl (Nat.le_of_ble_eq_true rfl) rfl rfl,
  fun _ _ _ _ _ _ _ _ => r_aload_n (show zdec 128 22 = some (.aload_n 0, 1) by decide +kernel) rfl rfl,
  fun _ _ _ _ _ _ _ _ => r_iload_n (show zdec 128 23 = some (.iload_n 1, 1) by decide +kernel) rfl rfl,
  fun _ _ _ _ _ _ _ _ => r_iinc (show zdec 128 24 = some (.iinc 1 1, 3) by decide +kernel) rfl rfl rfl (Nat.le_of_ble_eq_true rfl) rfl rfl,
  fun _ _ _ _ _ _ _ _ _ _ => r_bald (show zdec 128 27 = some (.baload, 1) by decide +kernel) rfl,
  fun _ _ _ _ _ _ _ _ => r_sipush (show zdec 128 28 = some (.sipush 255, 3) by decide +kernel) rfl rfl,
  fun _ _ _ _ _ _ _ _ _ _ => r_iand (show zdec 128 31 = some (.iand, 1) by decide +kernel) rfl,
  fun _ _ _ _ _ _ _ _ _ _ _ => r_cS [_, _, _] rfl (show zdec 128 32 = some (.invokestatic 111, 3) by decide +kernel) (show zst.lookup (128 * zKEY + 111) = some (0, 121, 3, 0) by decide +kernel) (by decide) rfl,
  fun _ _ _ _ _ _ _ _ => r_iinc (show zdec 128 35 = some (.iinc 5 1, 3) by decide +kernel) rfl rfl rfl (Nat.le_of_ble_eq_true rfl) rfl rfl,
  fun _ _ _ _ _ _ _ _ => r_goto (show zdec 128 38 = some (.goto (-28), 3) by decide +kernel) rfl,
  fun _ _ _ _ _ _ _ => r_vret (show zdec 128 41 = some (.return_, 1) by decide +kernel) (by decide +kernel)⟩
theorem zl_128_10 : ∀ (l0 l1 l2 l3 l4 : Value) (x : Int32) (S : List Value) (h : zH), rn 128 10 [l0, l1, l2, l3, l4, .int x] S h = rn 128 12 [l0, l1, l2, l3, l4, .int x] (.int x :: S) h := fun _ _ _ _ _ _ _ _ => r_iload (show zdec 128 10 = some (.iload 5, 2) by decide +kernel) rfl rfl
theorem ze_128 : ∀ (a0 : Nat) (a1 : Int32) (a2 : Nat) (a3 : Int32) (a4 : Int32) (h : zH), ev 128 [.ref a0, .int a1, .ref a2, .int a3, .int a4] h = rn 128 0 [.ref a0, .int a1, .ref a2, .int a3, .int a4, .float 0] [] h := fun _ _ _ _ _ _ => if_pos (Nat.le_of_ble_eq_true rfl)
-- java/lang/StringUTF16.checkBoundsOffCount(II[B)V
theorem zr_129 : (∀ (l1 l2 : Value) (x : Int32) (S : List Value) (h : zH), rn 129 0 [.int x, l1, l2] S h = rn 129 1 [.int x, l1, l2] (.int x :: S) h) ∧
  (∀ (l0 l2 : Value) (x : Int32) (S : List Value) (h : zH), rn 129 1 [l0, .int x, l2] S h = rn 129 2 [l0, .int x, l2] (.int x :: S) h) ∧
  (∀ (l0 l1 l2 : Value) (S : List Value) (h : zH), rn 129 2 [l0, l1, l2] S h = ldA l2 (rn 129 3 [l0, l1, l2] (l2 :: S) h)) ∧
  (∀ (l0 l1 l2 : Value) (v0 : Value) (S : List Value) (h : zH), rn 129 3 [l0, l1, l2] (v0 :: S) h = if zsum S ≤ 8 then zcall (ev 118 [v0] h) (fun v h => rn 129 6 [l0, l1, l2] (zpush v S) h) else none) ∧
  (∀ (l0 l1 l2 : Value) (v0 : Value) (v1 : Value) (v2 : Value) (S : List Value) (h : zH), rn 129 6 [l0, l1, l2] (v2 :: v1 :: v0 :: S) h = if zsum S ≤ 8 then zcall (ev 130 [v0, v1, v2] h) (fun v h => rn 129 9 [l0, l1, l2] (zpush v S) h) else none) ∧
  (∀ (l0 l1 l2 : Value) (v : Value) (S : List Value) (h : zH), rn 129 9 [l0, l1, l2] (v :: S) h = c1 v (rn 129 10 [l0, l1, l2] S h)) ∧
  (∀ (l0 l1 l2 : Value) (h : zH), rn 129 10 [l0, l1, l2] [] h = some (none, h)) := ⟨fun _ _ _ _ _ => r_iload_n (show zdec 129 0 = some (.iload_n 0, 1) by decide +kernel) rfl rfl,
  fun _ _ _ _ _ => r_iload_n (show zdec 129 1 = some (.iload_n 1, 1) by decide +kernel) rfl rfl,
  fun _ _ _ _ _ => r_aload_n (show zdec 129 2 = some (.aload_n 2, 1) by decide +kernel) rfl rfl,
  fun _ _ _ _ _ _ => r_cS [_] rfl (show zdec 129 3 = some (.invokestatic 48, 3) by decide +kernel) (show zst.lookup (129 * zKEY + 48) = some (0, 118, 1, 0) by decide +kernel) (by decide) rfl,
  fun _ _ _ _ _ _ _ _ => r_cS [_, _, _] rfl (show zdec 129 6 = some (.invokestatic 419, 3) by decide +kernel) (show zst.lookup (129 * zKEY + 419) = some (0, 130, 3, 0) by decide +kernel) (by decide) rfl,
  fun _ _ _ _ _ _ => r_pop (show zdec 129 9 = some (.pop, 1) by decide +kernel) rfl,
  fun _ _ _ _ => r_vret (show zdec 129 10 = some (.return_, 1) by decide +kernel) (by decide +kernel)⟩
theorem ze_129 : ∀ (a0 : Int32) (a1 : Int32) (a2 : Nat) (h : zH), ev 129 [.int a0, .int a1, .ref a2] h = rn 129 0 [.int a0, .int a1, .ref a2] [] h := fun _ _ _ _ => if_pos (Nat.le_of_ble_eq_true rfl)
-- java/lang/String.checkBoundsOffCount(III)I
theorem zr_130 : (∀ (l1 l2 : Value) (x : Int32) (S : List Value) (h : zH), rn 130 0 [.int x, l1, l2] S h = rn 130 1 [.int x, l1, l2] (.int x :: S) h) ∧
  (∀ (l0 l2 : Value) (x : Int32) (S : List Value) (h : zH), rn 130 1 [l0, .int x, l2] S h = rn 130 2 [l0, .int x, l2] (.int x :: S) h) ∧
  (∀ (l0 l1 : Value) (x : Int32) (S : List Value) (h : zH), rn 130 2 [l0, l1, .int x] S h = rn 130 3 [l0, l1, .int x] (.int x :: S) h) ∧
  (∀ (l0 l1 l2 : Value) (S : List Value) (h : zH), rn 130 3 [l0, l1, l2] S h = rn 130 6 [l0, l1, l2] (.retAddr 0 :: S) h) ∧
  (∀ (l0 l1 l2 : Value) (v0 : Value) (v1 : Value) (v2 : Value) (v3 : Value) (S : List Value) (h : zH), rn 130 6 [l0, l1, l2] (v3 :: v2 :: v1 :: v0 :: S) h = if zsum S ≤ 8 then zcall (ev 131 [v0, v1, v2, v3] h) (fun v h => rn 130 9 [l0, l1, l2] (zpush v S) h) else none) ∧
  (∀ (l0 l1 l2 : Value) (x : Int32) (h : zH), rn 130 9 [l0, l1, l2] [.int x] h = some (some (.int x), h)) := ⟨fun _ _ _ _ _ => r_iload_n (show zdec 130 0 = some (.iload_n 0, 1) by decide +kernel) rfl rfl,
  fun _ _ _ _ _ => r_iload_n (show zdec 130 1 = some (.iload_n 1, 1) by decide +kernel) rfl rfl,
  fun _ _ _ _ _ => r_iload_n (show zdec 130 2 = some (.iload_n 2, 1) by decide +kernel) rfl rfl,
  fun _ _ _ _ _ => r_getstatic (show zdec 130 3 = some (.getstatic 1053, 3) by decide +kernel) (show zgt.lookup (130 * zKEY + 1053) = some 10 by decide +kernel) (by rfl) rfl,
  fun _ _ _ _ _ _ _ _ _ => r_cS [_, _, _, _] rfl (show zdec 130 6 = some (.invokestatic 1065, 3) by decide +kernel) (show zst.lookup (130 * zKEY + 1065) = some (0, 131, 4, 0) by decide +kernel) (by decide) rfl,
  fun _ _ _ _ _ => r_ireti (show zdec 130 9 = some (.ireturn, 1) by decide +kernel) (by decide +kernel)⟩
theorem ze_130 : ∀ (a0 : Int32) (a1 : Int32) (a2 : Int32) (h : zH), ev 130 [.int a0, .int a1, .int a2] h = rn 130 0 [.int a0, .int a1, .int a2] [] h := fun _ _ _ _ => if_pos (Nat.le_of_ble_eq_true rfl)
-- jdk/internal/util/Preconditions.checkFromIndexSize(IIILjava/util/function/BiFunction;)I
theorem zr_131 : (∀ (l0 l1 l3 : Value) (x : Int32) (S : List Value) (h : zH), rn 131 0 [l0, l1, .int x, l3] S h = rn 131 1 [l0, l1, .int x, l3] (.int x :: S) h) ∧
  (∀ (l1 l2 l3 : Value) (x : Int32) (S : List Value) (h : zH), rn 131 1 [.int x, l1, l2, l3] S h = rn 131 2 [.int x, l1, l2, l3] (.int x :: S) h) ∧
  (∀ (l0 l1 l2 l3 : Value) (x : Int32) (y : Int32) (S : List Value) (h : zH), rn 131 2 [l0, l1, l2, l3] (.int y :: .int x :: S) h = rn 131 3 [l0, l1, l2, l3] (.int (x ||| y) :: S) h) ∧
  (∀ (l0 l2 l3 : Value) (x : Int32) (S : List Value) (h : zH), rn 131 3 [l0, .int x, l2, l3] S h = rn 131 4 [l0, .int x, l2, l3] (.int x :: S) h) ∧
  (∀ (l0 l1 l2 l3 : Value) (x : Int32) (y : Int32) (S : List Value) (h : zH), rn 131 4 [l0, l1, l2, l3] (.int y :: .int x :: S) h = rn 131 5 [l0, l1, l2, l3] (.int (x ||| y) :: S) h) ∧
  (∀ (l0 l1 l2 l3 : Value) (x : Int32) (S : List Value) (h : zH), rn 131 5 [l0, l1, l2, l3] (.int x :: S) h = if x < nI 0 then rn 131 15 [l0, l1, l2, l3] S h else rn 131 8 [l0, l1, l2, l3] S h) ∧
  (∀ (l0 l2 l3 : Value) (x : Int32) (S : List Value) (h : zH), rn 131 8 [l0, .int x, l2, l3] S h = rn 131 9 [l0, .int x, l2, l3] (.int x :: S) h) ∧
  (∀ (l0 l1 l3 : Value) (x : Int32) (S : List Value) (h : zH), rn 131 9 [l0, l1, .int x, l3] S h = rn 131 10 [l0, l1, .int x, l3] (.int x :: S) h) ∧
  (∀ (l1 l2 l3 : Value) (x : Int32) (S : List Value) (h : zH), rn 131 10 [.int x, l1, l2, l3] S h = rn 131 11 [.int x, l1, l2, l3] (.int x :: S) h) ∧
  (∀ (l0 l1 l2 l3 : Value) (x : Int32) (y : Int32) (S : List Value) (h : zH), rn 131 11 [l0, l1, l2, l3] (.int y :: .int x :: S) h = rn 131 12 [l0, l1, l2, l3] (.int (x - y) :: S) h) ∧
  (∀ (l0 l1 l2 l3 : Value) (x : Int32) (y : Int32) (S : List Value) (h : zH), rn 131 12 [l0, l1, l2, l3] (.int y :: .int x :: S) h = if x ≤ y then rn 131 23 [l0, l1, l2, l3] S h else rn 131 15 [l0, l1, l2, l3] S h) ∧
  (∀ (l0 l1 l2 l3 : Value) (S : List Value) (h : zH), rn 131 15 [l0, l1, l2, l3] S h = ldA l3 (rn 131 16 [l0, l1, l2, l3] (l3 :: S) h)) ∧
  (∀ (l1 l2 l3 : Value) (x : Int32) (S : List Value) (h : zH), rn 131 16 [.int x, l1, l2, l3] S h = rn 131 17 [.int x, l1, l2, l3] (.int x :: S) h) ∧
  (∀ (l0 l2 l3 : Value) (x : Int32) (S : List Value) (h : zH), rn 131 17 [l0, .int x, l2, l3] S h = rn 131 18 [l0, .int x, l2, l3] (.int x :: S) h) ∧
  (∀ (l0 l1 l3 : Value) (x : Int32) (S : List Value) (h : zH), rn 131 18 [l0, l1, .int x, l3] S h = rn 131 19 [l0, l1, .int x, l3] (.int x :: S) h) ∧
  (∀ (l1 l2 l3 : Value) (x : Int32) (S : List Value) (h : zH), rn 131 23 [.int x, l1, l2, l3] S h = rn 131 24 [.int x, l1, l2, l3] (.int x :: S) h) ∧
  (∀ (l0 l1 l2 l3 : Value) (x : Int32) (h : zH), rn 131 24 [l0, l1, l2, l3] [.int x] h = some (some (.int x), h)) := ⟨fun _ _ _ _ _ _ => r_iload_n (show zdec 131 0 = some (.iload_n 2, 1) by decide +kernel) rfl rfl,
  fun _ _ _ _ _ _ => r_iload_n (show zdec 131 1 = some (.iload_n 0, 1) by decide +kernel) rfl rfl,
  fun _ _ _ _ _ _ _ _ => r_ior (show zdec 131 2 = some (.ior, 1) by decide +kernel) rfl,
  fun _ _ _ _ _ _ => r_iload_n (show zdec 131 3 = some (.iload_n 1, 1) by decide +kernel) rfl rfl,
  fun _ _ _ _ _ _ _ _ => r_ior (show zdec 131 4 = some (.ior, 1) by decide +kernel) rfl,
  fun _ _ _ _ _ _ _ => r_iflt (show zdec 131 5 = some (.ifCond .lt 10, 3) by decide +kernel) rfl rfl,
  fun _ _ _ _ _ _ => r_iload_n (show zdec 131 8 = some (.iload_n 1, 1) by decide +kernel) rfl rfl,
  fun _ _ _ _ _ _ => r_iload_n (show zdec 131 9 = some (.iload_n 2, 1) by decide +kernel) rfl rfl,
  fun _ _ _ _ _ _ => r_iload_n (show zdec 131 10 = some (.iload_n 0, 1) by decide +kernel) rfl rfl,
  fun _ _ _ _ _ _ _ _ => r_isub (show zdec 131 11 = some (.isub, 1) by decide +kernel) rfl,
  fun _ _ _ _ _ _ _ _ => r_icmple (show zdec 131 12 = some (.if_icmp .le 11, 3) by decide +kernel) rfl rfl,
  fun _ _ _ _ _ _ => r_aload_n (show zdec 131 15 = some (.aload_n 3, 1) by decide +kernel) rfl rfl,
  fun _ _ _ _ _ _ => r_iload_n (show zdec 131 16 = some (.iload_n 0, 1) by decide +kernel) rfl rfl,
  fun _ _ _ _ _ _ => r_iload_n (show zdec 131 17 = some (.iload_n 1, 1) by decide +kernel) rfl rfl,
  fun _ _ _ _ _ _ => r_iload_n (show zdec 131 18 = some (.iload_n 2, 1) by decide +kernel) rfl rfl,
  fun _ _ _ _ _ _ => r_iload_n (show zdec 131 23 = some (.iload_n 0, 1) by decide +kernel) rfl rfl,
  fun _ _ _ _ _ _ => r_ireti (show zdec 131 24 = some (.ireturn, 1) by decide +kernel) (by decide +kernel)⟩
theorem ze_131 : ∀ (a0 : Int32) (a1 : Int32) (a2 : Int32) (a3 : Nat) (h : zH), ev 131 [.int a0, .int a1, .int a2, .ref a3] h = rn 131 0 [.int a0, .int a1, .int a2, .ref a3] [] h := fun _ _ _ _ _ => if_pos (Nat.le_of_ble_eq_true rfl)
-- java/lang/String.getBytes([BIB)V
theorem zr_132 : (∀ (l1 l2 l3 : Value) (x : Nat) (S : List Value) (h : zH), rn 132 0 [.ref x, l1, l2, l3] S h = rn 132 1 [.ref x, l1, l2, l3] (.ref x :: S) h) ∧
  (∀ (l0 l1 l2 l3 : Value) (o : Nat) (S : List Value) (h : zH), rn 132 1 [l0, l1, l2, l3] (.ref o :: S) h = if zkd h o = 13 ∧ zsum S ≤ 8 then zcall (ev 123 [.ref o] h) (fun v h => rn 132 4 [l0, l1, l2, l3] (zpush v S) h) else none) ∧
  (∀ (l0 l1 l2 : Value) (x : Int32) (S : List Value) (h : zH), rn 132 4 [l0, l1, l2, .int x] S h = rn 132 5 [l0, l1, l2, .int x] (.int x :: S) h) ∧
  (∀ (l0 l1 l2 l3 : Value) (x : Int32) (y : Int32) (S : List Value) (h : zH), rn 132 5 [l0, l1, l2, l3] (.int y :: .int x :: S) h = if x = y then rn 132 8 [l0, l1, l2, l3] S h else rn 132 28 [l0, l1, l2, l3] S h) ∧
  (∀ (l1 l2 l3 : Value) (x : Nat) (S : List Value) (h : zH), rn 132 8 [.ref x, l1, l2, l3] S h = rn 132 9 [.ref x, l1, l2, l3] (.ref x :: S) h) ∧
  (∀ (l0 l1 l2 l3 : Value) (a : Nat) (S : List Value) (h : zH), rn 132 9 [l0, l1, l2, l3] (.ref a :: S) h = zgf h a 13 0 fun v => rn 132 12 [l0, l1, l2, l3] (v :: S) h) ∧
  (∀ (l0 l1 l2 l3 : Value) (S : List Value) (h : zH), rn 132 12 [l0, l1, l2, l3] S h = rn 132 13 [l0, l1, l2, l3] (.int (nI 0) :: S) h) ∧
  (∀ (l0 l1 l2 l3 : Value) (S : List Value) (h : zH), rn 132 13 [l0, l1, l2, l3] S h = ldA l1 (rn 132 14 [l0, l1, l2, l3] (l1 :: S) h)) ∧
  (∀ (l0 l1 l3 : Value) (x : Int32) (S : List Value) (h : zH), rn 132 14 [l0, l1, .int x, l3] S h = rn 132 15 [l0, l1, .int x, l3] (.int x :: S) h) ∧
  (∀ (l0 l1 l2 : Value) (x : Int32) (S : List Value) (h : zH), rn 132 15 [l0, l1, l2, .int x] S h = rn 132 16 [l0, l1, l2, .int x] (.int x :: S) h) ∧
  (∀ (l0 l1 l2 l3 : Value) (x : Int32) (y : Int32) (S : List Value) (h : zH), rn 132 16 [l0, l1, l2, l3] (.int y :: .int x :: S) h = rn 132 17 [l0, l1, l2, l3] (.int (x <<< (y &&& 31)) :: S) h) ∧
  (∀ (l1 l2 l3 : Value) (x : Nat) (S : List Value) (h : zH), rn 132 17 [.ref x, l1, l2, l3] S h = rn 132 18 [.ref x, l1, l2, l3] (.ref x :: S) h) ∧
  (∀ (l0 l1 l2 l3 : Value) (a : Nat) (S : List Value) (h : zH), rn 132 18 [l0, l1, l2, l3] (.ref a :: S) h = zgf h a 13 0 fun v => rn 132 21 [l0, l1, l2, l3] (v :: S) h) ∧
  (∀ (l0 l1 l2 l3 : Value) (a : Nat) (S : List Value) (h : zH), rn 132 21 [l0, l1, l2, l3] (.ref a :: S) h = zal h a fun x => rn 132 22 [l0, l1, l2, l3] (.int x :: S) h) ∧
  (∀ (l0 l1 l2 l3 : Value) (s : Nat) (d : Nat) (sp : Int32) (dp : Int32) (x : Int32) (S : List Value) (h : zH), rn 132 22 [l0, l1, l2, l3] (.int x :: .int dp :: .ref d :: .int sp :: .ref s :: S) h = if zsum S ≤ 8 then zcpI h s sp d dp x (fun h => rn 132 25 [l0, l1, l2, l3] S h) else none) ∧
  (∀ (l0 l1 l2 l3 : Value) (S : List Value) (h : zH), rn 132 25 [l0, l1, l2, l3] S h = rn 132 43 [l0, l1, l2, l3] S h) ∧
  (∀ (l1 l2 l3 : Value) (x : Nat) (S : List Value) (h : zH), rn 132 28 [.ref x, l1, l2, l3] S h = rn 132 29 [.ref x, l1, l2, l3] (.ref x :: S) h) ∧
  (∀ (l0 l1 l2 l3 : Value) (a : Nat) (S : List Value) (h : zH), rn 132 29 [l0, l1, l2, l3] (.ref a :: S) h = zgf h a 13 0 fun v => rn 132 32 [l0, l1, l2, l3] (v :: S) h) ∧
  (∀ (l0 l1 l2 l3 : Value) (S : List Value) (h : zH), rn 132 32 [l0, l1, l2, l3] S h = rn 132 33 [l0, l1, l2, l3] (.int (nI 0) :: S) h) ∧
  (∀ (l0 l1 l2 l3 : Value) (S : List Value) (h : zH), rn 132 33 [l0, l1, l2, l3] S h = ldA l1 (rn 132 34 [l0, l1, l2, l3] (l1 :: S) h)) ∧
  (∀ (l0 l1 l3 : Value) (x : Int32) (S : List Value) (h : zH), rn 132 34 [l0, l1, .int x, l3] S h = rn 132 35 [l0, l1, .int x, l3] (.int x :: S) h) ∧
  (∀ (l1 l2 l3 : Value) (x : Nat) (S : List Value) (h : zH), rn 132 35 [.ref x, l1, l2, l3] S h = rn 132 36 [.ref x, l1, l2, l3] (.ref x :: S) h) ∧
  (∀ (l0 l1 l2 l3 : Value) (a : Nat) (S : List Value) (h : zH), rn 132 36 [l0, l1, l2, l3] (.ref a :: S) h = zgf h a 13 0 fun v => rn 132 39 [l0, l1, l2, l3] (v :: S) h) ∧
  (∀ (l0 l1 l2 l3 : Value) (a : Nat) (S : List Value) (h : zH), rn 132 39 [l0, l1, l2, l3] (.ref a :: S) h = zal h a fun x => rn 132 40 [l0, l1, l2, l3] (.int x :: S) h) ∧
  (∀ (l0 l1 l2 l3 : Value) (v0 : Value) (v1 : Value) (v2 : Value) (v3 : Value) (v4 : Value) (S : List Value) (h : zH), rn 132 40 [l0, l1, l2, l3] (v4 :: v3 :: v2 :: v1 :: v0 :: S) h = if zsum S ≤ 8 then zcall (ev 127 [v0, v1, v2, v3, v4] h) (fun v h => rn 132 43 [l0, l1, l2, l3] (zpush v S) h) else none) ∧
  (∀ (l0 l1 l2 l3 : Value) (h : zH), rn 132 43 [l0, l1, l2, l3] [] h = some (none, h)) := ⟨fun _ _ _ _ _ _ => r_aload_nr (show zdec 132 0 = some (.aload_n 0, 1) by decide +kernel) rfl rfl,
  fun _ _ _ _ _ _ _ => r_cV [] rfl (show zdec 132 1 = some (.invokevirtual 335, 3) by decide +kernel) (show zst.lookup (132 * zKEY + 335) = some (1, 123, 0, 13) by decide +kernel) (by decide) rfl,
  fun _ _ _ _ _ _ => r_iload_n (show zdec 132 4 = some (.iload_n 3, 1) by decide +kernel) rfl rfl,
  fun _ _ _ _ _ _ _ _ => r_icmpne (show zdec 132 5 = some (.if_icmp .ne 23, 3) by decide +kernel) rfl rfl,
  fun _ _ _ _ _ _ => r_aload_nr (show zdec 132 8 = some (.aload_n 0, 1) by decide +kernel) rfl rfl,
  fun _ _ _ _ _ _ _ => r_getfield (show zdec 132 9 = some (.getfield 9, 3) by decide +kernel) (show zft.lookup (132 * zKEY + 9) = some (13, 0) by decide +kernel) rfl,
  fun _ _ _ _ _ _ => r_iconst (show zdec 132 12 = some (.iconst 0, 1) by decide +kernel) rfl rfl,
  fun _ _ _ _ _ _ => r_aload_n (show zdec 132 13 = some (.aload_n 1, 1) by decide +kernel) rfl rfl,
  fun _ _ _ _ _ _ => r_iload_n (show zdec 132 14 = some (.iload_n 2, 1) by decide +kernel) rfl rfl,
  fun _ _ _ _ _ _ => r_iload_n (show zdec 132 15 = some (.iload_n 3, 1) by decide +kernel) rfl rfl,
  fun _ _ _ _ _ _ _ _ => r_ishl (show zdec 132 16 = some (.ishl, 1) by decide +kernel) rfl,
  fun _ _ _ _ _ _ => r_aload_nr (show zdec 132 17 = some (.aload_n 0, 1) by decide +kernel) rfl rfl,
  fun _ _ _ _ _ _ _ => r_getfield (show zdec 132 18 = some (.getfield 9, 3) by decide +kernel) (show zft.lookup (132 * zKEY + 9) = some (13, 0) by decide +kernel) rfl,
  fun _ _ _ _ _ _ _ => r_alen (show zdec 132 21 = some (.arraylength, 1) by decide +kernel) rfl,
  fun _ _ _ _ _ _ _ _ _ _ _ => r_cA (show zdec 132 22 = some (.invokestatic 212, 3) by decide +kernel) (show zst.lookup (132 * zKEY + 212) = some (8, 0, 5, 0) by decide +kernel) rfl,
  fun _ _ _ _ _ _ => r_goto (show zdec 132 25 = some (.goto 18, 3) by decide +kernel) rfl,
  fun _ _ _ _ _ _ => r_aload_nr (show zdec 132 28 = some (.aload_n 0, 1) by decide +kernel) rfl rfl,
  fun _ _ _ _ _ _ _ => r_getfield (show zdec 132 29 = some (.getfield 9, 3) by decide +kernel) (show zft.lookup (132 * zKEY + 9) = some (13, 0) by decide +kernel) rfl,
  fun _ _ _ _ _ _ => r_iconst (show zdec 132 32 = some (.iconst 0, 1) by decide +kernel) rfl rfl,
  fun _ _ _ _ _ _ => r_aload_n (show zdec 132 33 = some (.aload_n 1, 1) by decide +kernel) rfl rfl,
  fun _ _ _ _ _ _ => r_iload_n (show zdec 132 34 = some (.iload_n 2, 1) by decide +kernel) rfl rfl,
  fun _ _ _ _ _ _ => r_aload_nr (show zdec 132 35 = some (.aload_n 0, 1) by decide +kernel) rfl rfl,
  fun _ _ _ _ _ _ _ => r_getfield (show zdec 132 36 = some (.getfield 9, 3) by decide +kernel) (show zft.lookup (132 * zKEY + 9) = some (13, 0) by decide +kernel) rfl,
  fun _ _ _ _ _ _ _ => r_alen (show zdec 132 39 = some (.arraylength, 1) by decide +kernel) rfl,
  fun _ _ _ _ _ _ _ _ _ _ _ => r_cS [_, _, _, _, _] rfl (show zdec 132 40 = some (.invokestatic 106, 3) by decide +kernel) (show zst.lookup (132 * zKEY + 106) = some (0, 127, 5, 0) by decide +kernel) (by decide) rfl,
  fun _ _ _ _ _ => r_vret (show zdec 132 43 = some (.return_, 1) by decide +kernel) (by decide +kernel)⟩
theorem ze_132 : ∀ (a0 : Nat) (a1 : Nat) (a2 : Int32) (a3 : Int32) (h : zH), ev 132 [.ref a0, .ref a1, .int a2, .int a3] h = rn 132 0 [.ref a0, .ref a1, .int a2, .int a3] [] h := fun _ _ _ _ _ => if_pos (Nat.le_of_ble_eq_true rfl)
-- java/lang/StringBuilder.append(C)Ljava/lang/StringBuilder;
theorem zr_133 : (∀ (l1 : Value) (x : Nat) (S : List Value) (h : zH), rn 133 0 [.ref x, l1] S h = rn 133 1 [.ref x, l1] (.ref x :: S) h) ∧
  (∀ (l0 : Value) (x : Int32) (S : List Value) (h : zH), rn 133 1 [l0, .int x] S h = rn 133 2 [l0, .int x] (.int x :: S) h) ∧
  (∀ (l0 l1 : Value) (o : Nat) (v0 : Value) (S : List Value) (h : zH), rn 133 2 [l0, l1] (v0 :: .ref o :: S) h = if zkd h o = 0 ∧ zsum S ≤ 8 then zcall (ev 134 [.ref o, v0] h) (fun v h => rn 133 5 [l0, l1] (zpush v S) h) else none) ∧
  (∀ (l0 l1 : Value) (v : Value) (S : List Value) (h : zH), rn 133 5 [l0, l1] (v :: S) h = c1 v (rn 133 6 [l0, l1] S h)) ∧
  (∀ (l1 : Value) (x : Nat) (S : List Value) (h : zH), rn 133 6 [.ref x, l1] S h = rn 133 7 [.ref x, l1] (.ref x :: S) h) ∧
  (∀ (l0 l1 : Value) (a : Nat) (h : zH), rn 133 7 [l0, l1] [.ref a] h = some (some (.ref a), h)) := ⟨fun _ _ _ _ => r_aload_nr (show zdec 133 0 = some (.aload_n 0, 1) by decide +kernel) rfl rfl,
  fun _ _ _ _ => r_iload_n (show zdec 133 1 = some (.iload_n 1, 1) by decide +kernel) rfl rfl,
  fun _ _ _ _ _ _ => r_cU [_] rfl (show zdec 133 2 = some (.invokespecial 50, 3) by decide +kernel) (show zst.lookup (133 * zKEY + 50) = some (6, 134, 1, 0) by decide +kernel) rfl,
  fun _ _ _ _ _ => r_pop (show zdec 133 5 = some (.pop, 1) by decide +kernel) rfl,
  fun _ _ _ _ => r_aload_nr (show zdec 133 6 = some (.aload_n 0, 1) by decide +kernel) rfl rfl,
  fun _ _ _ _ => r_areto (C := "java/lang/StringBuilder") (show zdec 133 7 = some (.areturn, 1) by decide +kernel) (by decide +kernel)⟩
theorem ze_133 : ∀ (a0 : Nat) (a1 : Int32) (h : zH), ev 133 [.ref a0, .int a1] h = rn 133 0 [.ref a0, .int a1] [] h := fun _ _ _ => if_pos (Nat.le_of_ble_eq_true rfl)
-- java/lang/AbstractStringBuilder.append(C)Ljava/lang/AbstractStringBuilder;
theorem zr_134 : (∀ (l1 : Value) (x : Nat) (S : List Value) (h : zH), rn 134 0 [.ref x, l1] S h = rn 134 1 [.ref x, l1] (.ref x :: S) h) ∧
  (∀ (l1 : Value) (x : Nat) (S : List Value) (h : zH), rn 134 1 [.ref x, l1] S h = rn 134 2 [.ref x, l1] (.ref x :: S) h) ∧
  (∀ (l0 l1 : Value) (a : Nat) (S : List Value) (h : zH), rn 134 2 [l0, l1] (.ref a :: S) h = zgf h a 0 3 fun v => rn 134 5 [l0, l1] (v :: S) h) ∧
  (∀ (l0 l1 : Value) (S : List Value) (h : zH), rn 134 5 [l0, l1] S h = rn 134 6 [l0, l1] (.int (nI 1) :: S) h) ∧
  (∀ (l0 l1 : Value) (x : Int32) (y : Int32) (S : List Value) (h : zH), rn 134 6 [l0, l1] (.int y :: .int x :: S) h = rn 134 7 [l0, l1] (.int (x + y) :: S) h) ∧
  (∀ (l1 : Value) (x : Nat) (S : List Value) (h : zH), rn 134 10 [.ref x, l1] S h = rn 134 11 [.ref x, l1] (.ref x :: S) h) ∧
  (∀ (l0 l1 : Value) (o : Nat) (S : List Value) (h : zH), rn 134 11 [l0, l1] (.ref o :: S) h = if zkd h o = 0 ∧ zsum S ≤ 8 then zcall (ev 106 [.ref o] h) (fun v h => rn 134 14 [l0, l1] (zpush v S) h) else none) ∧
  (∀ (l0 l1 : Value) (x : Int32) (S : List Value) (h : zH), rn 134 14 [l0, l1] (.int x :: S) h = if x = nI 0 then rn 134 45 [l0, l1] S h else rn 134 17 [l0, l1] S h) ∧
  (∀ (l0 : Value) (x : Int32) (S : List Value) (h : zH), rn 134 17 [l0, .int x] S h = rn 134 18 [l0, .int x] (.int x :: S) h) ∧
  (∀ (l0 l1 : Value) (v0 : Value) (S : List Value) (h : zH), rn 134 18 [l0, l1] (v0 :: S) h = if zsum S ≤ 8 then zcall (ev 135 [v0] h) (fun v h => rn 134 21 [l0, l1] (zpush v S) h) else none) ∧
  (∀ (l0 l1 : Value) (x : Int32) (S : List Value) (h : zH), rn 134 21 [l0, l1] (.int x :: S) h = if x = nI 0 then rn 134 45 [l0, l1] S h else rn 134 24 [l0, l1] S h) ∧
  (∀ (l1 : Value) (x : Nat) (S : List Value) (h : zH), rn 134 24 [.ref x, l1] S h = rn 134 25 [.ref x, l1] (.ref x :: S) h) ∧
  (∀ (l0 l1 : Value) (a : Nat) (S : List Value) (h : zH), rn 134 25 [l0, l1] (.ref a :: S) h = zgf h a 0 0 fun v => rn 134 28 [l0, l1] (v :: S) h) ∧
  (∀ (l1 : Value) (x : Nat) (S : List Value) (h : zH), rn 134 28 [.ref x, l1] S h = rn 134 29 [.ref x, l1] (.ref x :: S) h) ∧
  (∀ (l0 l1 : Value) (v : Value) (S : List Value) (h : zH), rn 134 29 [l0, l1] (v :: S) h = c1 v (rn 134 30 [l0, l1] (v :: v :: S) h)) ∧
  (∀ (l0 l1 : Value) (a : Nat) (S : List Value) (h : zH), rn 134 30 [l0, l1] (.ref a :: S) h = zgf h a 0 3 fun v => rn 134 33 [l0, l1] (v :: S) h) ∧
  (∀ (l0 l1 : Value) (v : Value) (w : Value) (S : List Value) (h : zH), rn 134 33 [l0, l1] (v :: w :: S) h = c1 v (c1 w (rn 134 34 [l0, l1] (v :: w :: v :: S) h))) ∧
  (∀ (l0 l1 : Value) (S : List Value) (h : zH), rn 134 34 [l0, l1] S h = rn 134 35 [l0, l1] (.int (nI 1) :: S) h) ∧
  (∀ (l0 l1 : Value) (x : Int32) (y : Int32) (S : List Value) (h : zH), rn 134 35 [l0, l1] (.int y :: .int x :: S) h = rn 134 36 [l0, l1] (.int (x + y) :: S) h) ∧
  (∀ (l0 l1 : Value) (a : Nat) (v : Value) (S : List Value) (h : zH), rn 134 36 [l0, l1] (v :: .ref a :: S) h = zpf h a 0 3 v fun h => rn 134 39 [l0, l1] S h) ∧
  (∀ (l0 : Value) (x : Int32) (S : List Value) (h : zH), rn 134 39 [l0, .int x] S h = rn 134 40 [l0, .int x] (.int x :: S) h) ∧
  (∀ (l0 l1 : Value) (x : Int32) (S : List Value) (h : zH), rn 134 40 [l0, l1] (.int x :: S) h = rn 134 41 [l0, l1] (.int x.toInt8.toInt32 :: S) h) ∧
  (∀ (l0 l1 : Value) (a : Nat) (j : Int32) (x : Int32) (S : List Value) (h : zH), rn 134 41 [l0, l1] (.int x :: .int j :: .ref a :: S) h = zsi h a 3 j (vp_nar .byte x) fun h => rn 134 42 [l0, l1] S h) ∧
  (∀ (l0 l1 : Value) (S : List Value) (h : zH), rn 134 42 [l0, l1] S h = rn 134 75 [l0, l1] S h) ∧
  (∀ (l1 : Value) (x : Nat) (S : List Value) (h : zH), rn 134 45 [.ref x, l1] S h = rn 134 46 [.ref x, l1] (.ref x :: S) h) ∧
  (∀ (l0 l1 : Value) (o : Nat) (S : List Value) (h : zH), rn 134 46 [l0, l1] (.ref o :: S) h = if zkd h o = 0 ∧ zsum S ≤ 8 then zcall (ev 106 [.ref o] h) (fun v h => rn 134 49 [l0, l1] (zpush v S) h) else none) ∧
  (∀ (l0 l1 : Value) (x : Int32) (S : List Value) (h : zH), rn 134 49 [l0, l1] (.int x :: S) h = if x = nI 0 then rn 134 56 [l0, l1] S h else rn 134 52 [l0, l1] S h) ∧
  (∀ (l1 : Value) (x : Nat) (S : List Value) (h : zH), rn 134 52 [.ref x, l1] S h = rn 134 53 [.ref x, l1] (.ref x :: S) h) ∧
  (∀ (l1 : Value) (x : Nat) (S : List Value) (h : zH), rn 134 56 [.ref x, l1] S h = rn 134 57 [.ref x, l1] (.ref x :: S) h) ∧
  (∀ (l0 l1 : Value) (a : Nat) (S : List Value) (h : zH), rn 134 57 [l0, l1] (.ref a :: S) h = zgf h a 0 0 fun v => rn 134 60 [l0, l1] (v :: S) h) ∧
  (∀ (l1 : Value) (x : Nat) (S : List Value) (h : zH), rn 134 60 [.ref x, l1] S h = rn 134 61 [.ref x, l1] (.ref x :: S) h) ∧
  (∀ (l0 l1 : Value) (v : Value) (S : List Value) (h : zH), rn 134 61 [l0, l1] (v :: S) h = c1 v (rn 134 62 [l0, l1] (v :: v :: S) h)) ∧
  (∀ (l0 l1 : Value) (a : Nat) (S : List Value) (h : zH), rn 134 62 [l0, l1] (.ref a :: S) h = zgf h a 0 3 fun v => rn 134 65 [l0, l1] (v :: S) h) ∧
  (∀ (l0 l1 : Value) (v : Value) (w : Value) (S : List Value) (h : zH), rn 134 65 [l0, l1] (v :: w :: S) h = c1 v (c1 w (rn 134 66 [l0, l1] (v :: w :: v :: S) h))) ∧
  (∀ (l0 l1 : Value) (S : List Value) (h : zH), rn 134 66 [l0, l1] S h = rn 134 67 [l0, l1] (.int (nI 1) :: S) h) ∧
  (∀ (l0 l1 : Value) (x : Int32) (y : Int32) (S : List Value) (h : zH), rn 134 67 [l0, l1] (.int y :: .int x :: S) h = rn 134 68 [l0, l1] (.int (x + y) :: S) h) ∧
  (∀ (l0 l1 : Value) (a : Nat) (v : Value) (S : List Value) (h : zH), rn 134 68 [l0, l1] (v :: .ref a :: S) h = zpf h a 0 3 v fun h => rn 134 71 [l0, l1] S h) ∧
  (∀ (l0 : Value) (x : Int32) (S : List Value) (h : zH), rn 134 71 [l0, .int x] S h = rn 134 72 [l0, .int x] (.int x :: S) h) ∧
  (∀ (l0 l1 : Value) (v0 : Value) (v1 : Value) (v2 : Value) (S : List Value) (h : zH), rn 134 72 [l0, l1] (v2 :: v1 :: v0 :: S) h = if zsum S ≤ 8 then zcall (ev 136 [v0, v1, v2] h) (fun v h => rn 134 75 [l0, l1] (zpush v S) h) else none) ∧
  (∀ (l1 : Value) (x : Nat) (S : List Value) (h : zH), rn 134 75 [.ref x, l1] S h = rn 134 76 [.ref x, l1] (.ref x :: S) h) ∧
  (∀ (l0 l1 : Value) (a : Nat) (h : zH), rn 134 76 [l0, l1] [.ref a] h = some (some (.ref a), h)) := ⟨fun _ _ _ _ => r_aload_nr (show zdec 134 0 = some (.aload_n 0, 1) by decide +kernel) rfl rfl,
  fun _ _ _ _ => r_aload_nr (show zdec 134 1 = some (.aload_n 0, 1) by decide +kernel) rfl rfl,
  fun _ _ _ _ _ => r_getfield (show zdec 134 2 = some (.getfield 79, 3) by decide +kernel) (show zft.lookup (134 * zKEY + 79) = some (0, 3) by decide +kernel) rfl,
  fun _ _ _ _ => r_iconst (show zdec 134 5 = some (.iconst 1, 1) by decide +kernel) rfl rfl,
  fun _ _ _ _ _ _ => r_iadd (show zdec 134 6 = some (.iadd, 1) by decide +kernel) rfl,
  fun _ _ _ _ => r_aload_nr (show zdec 134 10 = some (.aload_n 0, 1) by decide +kernel) rfl rfl,
  fun _ _ _ _ _ => r_cV [] rfl (show zdec 134 11 = some (.invokevirtual 83, 3) by decide +kernel) (show zst.lookup (134 * zKEY + 83) = some (5, 106, 0, 0) by decide +kernel) (by decide) rfl,
  fun _ _ _ _ _ => r_ifeq (show zdec 134 14 = some (.ifCond .eq 31, 3) by decide +kernel) rfl rfl,
  fun _ _ _ _ => r_iload_n (show zdec 134 17 = some (.iload_n 1, 1) by decide +kernel) rfl rfl,
  fun _ _ _ _ _ => r_cS [_] rfl (show zdec 134 18 = some (.invokestatic 191, 3) by decide +kernel) (show zst.lookup (134 * zKEY + 191) = some (0, 135, 1, 0) by decide +kernel) (by decide) rfl,
  fun _ _ _ _ _ => r_ifeq (show zdec 134 21 = some (.ifCond .eq 24, 3) by decide +kernel) rfl rfl,
  fun _ _ _ _ => r_aload_nr (show zdec 134 24 = some (.aload_n 0, 1) by decide +kernel) rfl rfl,
  fun _ _ _ _ _ => r_getfield (show zdec 134 25 = some (.getfield 15, 3) by decide +kernel) (show zft.lookup (134 * zKEY + 15) = some (0, 0) by decide +kernel) rfl,
  fun _ _ _ _ => r_aload_nr (show zdec 134 28 = some (.aload_n 0, 1) by decide +kernel) rfl rfl,
  fun _ _ _ _ _ => r_dup (show zdec 134 29 = some (.dup, 1) by decide +kernel) rfl,
  fun _ _ _ _ _ => r_getfield (show zdec 134 30 = some (.getfield 79, 3) by decide +kernel) (show zft.lookup (134 * zKEY + 79) = some (0, 3) by decide +kernel) rfl,
  fun _ _ _ _ _ _ => r_dup_x1 (show zdec 134 33 = some (.dup_x1, 1) by decide +kernel) rfl,
  fun _ _ _ _ => r_iconst (show zdec 134 34 = some (.iconst 1, 1) by decide +kernel) rfl rfl,
  fun _ _ _ _ _ _ => r_iadd (show zdec 134 35 = some (.iadd, 1) by decide +kernel) rfl,
  fun _ _ _ _ _ _ => r_putfield (show zdec 134 36 = some (.putfield 79, 3) by decide +kernel) (show zft.lookup (134 * zKEY + 79) = some (0, 3) by decide +kernel) (by decide +kernel) rfl,
  fun _ _ _ _ => r_iload_n (show zdec 134 39 = some (.iload_n 1, 1) by decide +kernel) rfl rfl,
  fun _ _ _ _ _ => r_i2b (show zdec 134 40 = some (.i2b, 1) by decide +kernel) rfl,
  fun _ _ _ _ _ _ _ => r_bast (show zdec 134 41 = some (.bastore, 1) by decide +kernel) rfl,
  fun _ _ _ _ => r_goto (show zdec 134 42 = some (.goto 33, 3) by decide +kernel) rfl,
  fun _ _ _ _ => r_aload_nr (show zdec 134 45 = some (.aload_n 0, 1) by decide +kernel) rfl rfl,
  fun _ _ _ _ _ => r_cV [] rfl (show zdec 134 46 = some (.invokevirtual 83, 3) by decide +kernel) (show zst.lookup (134 * zKEY + 83) = some (5, 106, 0, 0) by decide +kernel) (by decide) rfl,
  fun _ _ _ _ _ => r_ifeq (show zdec 134 49 = some (.ifCond .eq 7, 3) by decide +kernel) rfl rfl,
  fun _ _ _ _ => r_aload_nr (show zdec 134 52 = some (.aload_n 0, 1) by decide +kernel) rfl rfl,
  fun _ _ _ _ => r_aload_nr (show zdec 134 56 = some (.aload_n 0, 1) by decide +kernel) rfl rfl,
  fun _ _ _ _ _ => r_getfield (show zdec 134 57 = some (.getfield 15, 3) by decide +kernel) (show zft.lookup (134 * zKEY + 15) = some (0, 0) by decide +kernel) rfl,
  fun _ _ _ _ => r_aload_nr (show zdec 134 60 = some (.aload_n 0, 1) by decide +kernel) rfl rfl,
  fun _ _ _ _ _ => r_dup (show zdec 134 61 = some (.dup, 1) by decide +kernel) rfl,
  fun _ _ _ _ _ => r_getfield (show zdec 134 62 = some (.getfield 79, 3) by decide +kernel) (show zft.lookup (134 * zKEY + 79) = some (0, 3) by decide +kernel) rfl,
  fun _ _ _ _ _ _ => r_dup_x1 (show zdec 134 65 = some (.dup_x1, 1) by decide +kernel) rfl,
  fun _ _ _ _ => r_iconst (show zdec 134 66 = some (.iconst 1, 1) by decide +kernel) rfl rfl,
  fun _ _ _ _ _ _ => r_iadd (show zdec 134 67 = some (.iadd, 1) by decide +kernel) rfl,
  fun _ _ _ _ _ _ => r_putfield (show zdec 134 68 = some (.putfield 79, 3) by decide +kernel) (show zft.lookup (134 * zKEY + 79) = some (0, 3) by decide +kernel) (by decide +kernel) rfl,
  fun _ _ _ _ => r_iload_n (show zdec 134 71 = some (.iload_n 1, 1) by decide +kernel) rfl rfl,
  fun _ _ _ _ _ _ _ => r_cS [_, _, _] rfl (show zdec 134 72 = some (.invokestatic 197, 3) by decide +kernel) (show zst.lookup (134 * zKEY + 197) = some (0, 136, 3, 0) by decide +kernel) (by decide) rfl,
  fun _ _ _ _ => r_aload_nr (show zdec 134 75 = some (.aload_n 0, 1) by decide +kernel) rfl rfl,
  fun _ _ _ _ => r_areto (C := "java/lang/AbstractStringBuilder") (show zdec 134 76 = some (.areturn, 1) by decide +kernel) (by decide +kernel)⟩
theorem ze_134 : ∀ (a0 : Nat) (a1 : Int32) (h : zH), ev 134 [.ref a0, .int a1] h = rn 134 0 [.ref a0, .int a1] [] h := fun _ _ _ => if_pos (Nat.le_of_ble_eq_true rfl)
-- java/lang/StringLatin1.canEncode(C)Z
theorem zr_135 : (∀ (x : Int32) (S : List Value) (h : zH), rn 135 0 [.int x] S h = rn 135 1 [.int x] (.int x :: S) h) ∧
  (∀ (l0 : Value) (S : List Value) (h : zH), rn 135 1 [l0] S h = rn 135 4 [l0] (.int (nI 255) :: S) h) ∧
  (∀ (l0 : Value) (x : Int32) (y : Int32) (S : List Value) (h : zH), rn 135 4 [l0] (.int y :: .int x :: S) h = if y < x then rn 135 11 [l0] S h else rn 135 7 [l0] S h) ∧
  (∀ (l0 : Value) (S : List Value) (h : zH), rn 135 7 [l0] S h = rn 135 8 [l0] (.int (nI 1) :: S) h) ∧
  (∀ (l0 : Value) (S : List Value) (h : zH), rn 135 8 [l0] S h = rn 135 12 [l0] S h) ∧
  (∀ (l0 : Value) (S : List Value) (h : zH), rn 135 11 [l0] S h = rn 135 12 [l0] (.int (nI 0) :: S) h) ∧
  (∀ (l0 : Value) (x : Int32) (h : zH), rn 135 12 [l0] [.int x] h = if x = nI 0 ∨ x = nI 1 then some (some (.int x), h) else none) := ⟨fun _ _ _ => r_iload_n (show zdec 135 0 = some (.iload_n 0, 1) by decide +kernel) rfl rfl,
  fun _ _ _ => r_sipush (show zdec 135 1 = some (.sipush 255, 3) by decide +kernel) rfl rfl,
  fun _ _ _ _ _ => r_icmpgt (show zdec 135 4 = some (.if_icmp .gt 7, 3) by decide +kernel) rfl rfl,
  fun _ _ _ => r_iconst (show zdec 135 7 = some (.iconst 1, 1) by decide +kernel) rfl rfl,
  fun _ _ _ => r_goto (show zdec 135 8 = some (.goto 4, 3) by decide +kernel) rfl,
  fun _ _ _ => r_iconst (show zdec 135 11 = some (.iconst 0, 1) by decide +kernel) rfl rfl,
  fun _ _ _ => r_iretb (show zdec 135 12 = some (.ireturn, 1) by decide +kernel) (by decide +kernel)⟩
theorem ze_135 : ∀ (a0 : Int32) (h : zH), ev 135 [.int a0] h = rn 135 0 [.int a0] [] h := fun _ _ => if_pos (Nat.le_of_ble_eq_true rfl)
-- java/lang/StringUTF16.putCharSB([BII)V
theorem zr_136 : (∀ (l0 l2 : Value) (x : Int32) (S : List Value) (h : zH), rn 136 0 [l0, .int x, l2] S h = rn 136 1 [l0, .int x, l2] (.int x :: S) h) ∧
  (∀ (l0 l1 l2 : Value) (S : List Value) (h : zH), rn 136 1 [l0, l1, l2] S h = ldA l0 (rn 136 2 [l0, l1, l2] (l0 :: S) h)) ∧
  (∀ (l0 l1 l2 : Value) (v0 : Value) (v1 : Value) (S : List Value) (h : zH), rn 136 2 [l0, l1, l2] (v1 :: v0 :: S) h = if zsum S ≤ 8 then zcall (ev 137 [v0, v1] h) (fun v h => rn 136 5 [l0, l1, l2] (zpush v S) h) else none) ∧
  (∀ (l0 l1 l2 : Value) (S : List Value) (h : zH), rn 136 5 [l0, l1, l2] S h = ldA l0 (rn 136 6 [l0, l1, l2] (l0 :: S) h)) ∧
  (∀ (l0 l2 : Value) (x : Int32) (S : List Value) (h : zH), rn 136 6 [l0, .int x, l2] S h = rn 136 7 [l0, .int x, l2] (.int x :: S) h) ∧
  (∀ (l0 l1 : Value) (x : Int32) (S : List Value) (h : zH), rn 136 7 [l0, l1, .int x] S h = rn 136 8 [l0, l1, .int x] (.int x :: S) h) ∧
  (∀ (l0 l1 l2 : Value) (v0 : Value) (v1 : Value) (v2 : Value) (S : List Value) (h : zH), rn 136 8 [l0, l1, l2] (v2 :: v1 :: v0 :: S) h = if zsum S ≤ 8 then zcall (ev 121 [v0, v1, v2] h) (fun v h => rn 136 11 [l0, l1, l2] (zpush v S) h) else none) ∧
  (∀ (l0 l1 l2 : Value) (h : zH), rn 136 11 [l0, l1, l2] [] h = some (none, h)) := ⟨fun _ _ _ _ _ => r_iload_n (show zdec 136 0 = some (.iload_n 1, 1) by decide +kernel) rfl rfl,
  fun _ _ _ _ _ => r_aload_n (show zdec 136 1 = some (.aload_n 0, 1) by decide +kernel) rfl rfl,
  fun _ _ _ _ _ _ _ => r_cS [_, _] rfl (show zdec 136 2 = some (.invokestatic 67, 3) by decide +kernel) (show zst.lookup (136 * zKEY + 67) = some (0, 137, 2, 0) by decide +kernel) (by decide) rfl,
  fun _ _ _ _ _ => r_aload_n (show zdec 136 5 = some (.aload_n 0, 1) by decide +kernel) rfl rfl,
  fun _ _ _ _ _ => r_iload_n (show zdec 136 6 = some (.iload_n 1, 1) by decide +kernel) rfl rfl,
  fun _ _ _ _ _ => r_iload_n (show zdec 136 7 = some (.iload_n 2, 1) by decide +kernel) rfl rfl,
  fun _ _ _ _ _ _ _ _ => r_cS [_, _, _] rfl (show zdec 136 8 = some (.invokestatic 111, 3) by decide +kernel) (show zst.lookup (136 * zKEY + 111) = some (0, 121, 3, 0) by decide +kernel) (by decide) rfl,
  fun _ _ _ _ => r_vret (show zdec 136 11 = some (.return_, 1) by decide +kernel) (by decide +kernel)⟩
theorem ze_136 : ∀ (a0 : Nat) (a1 : Int32) (a2 : Int32) (h : zH), ev 136 [.ref a0, .int a1, .int a2] h = rn 136 0 [.ref a0, .int a1, .int a2] [] h := fun _ _ _ _ => if_pos (Nat.le_of_ble_eq_true rfl)
-- java/lang/StringUTF16.checkIndex(I[B)V
theorem zr_137 : (∀ (l1 : Value) (x : Int32) (S : List Value) (h : zH), rn 137 0 [.int x, l1] S h = rn 137 1 [.int x, l1] (.int x :: S) h) ∧
  (∀ (l0 l1 : Value) (S : List Value) (h : zH), rn 137 1 [l0, l1] S h = ldA l1 (rn 137 2 [l0, l1] (l1 :: S) h)) ∧
  (∀ (l0 l1 : Value) (v0 : Value) (S : List Value) (h : zH), rn 137 2 [l0, l1] (v0 :: S) h = if zsum S ≤ 8 then zcall (ev 118 [v0] h) (fun v h => rn 137 5 [l0, l1] (zpush v S) h) else none) ∧
  (∀ (l0 l1 : Value) (v0 : Value) (v1 : Value) (S : List Value) (h : zH), rn 137 5 [l0, l1] (v1 :: v0 :: S) h = if zsum S ≤ 8 then zcall (ev 138 [v0, v1] h) (fun v h => rn 137 8 [l0, l1] (zpush v S) h) else none) ∧
  (∀ (l0 l1 : Value) (h : zH), rn 137 8 [l0, l1] [] h = some (none, h)) := ⟨fun _ _ _ _ => r_iload_n (show zdec 137 0 = some (.iload_n 0, 1) by decide +kernel) rfl rfl,
  fun _ _ _ _ => r_aload_n (show zdec 137 1 = some (.aload_n 1, 1) by decide +kernel) rfl rfl,
  fun _ _ _ _ _ => r_cS [_] rfl (show zdec 137 2 = some (.invokestatic 48, 3) by decide +kernel) (show zst.lookup (137 * zKEY + 48) = some (0, 118, 1, 0) by decide +kernel) (by decide) rfl,
  fun _ _ _ _ _ _ => r_cS [_, _] rfl (show zdec 137 5 = some (.invokestatic 414, 3) by decide +kernel) (show zst.lookup (137 * zKEY + 414) = some (0, 138, 2, 0) by decide +kernel) (by decide) rfl,
  fun _ _ _ => r_vret (show zdec 137 8 = some (.return_, 1) by decide +kernel) (by decide +kernel)⟩
theorem ze_137 : ∀ (a0 : Int32) (a1 : Nat) (h : zH), ev 137 [.int a0, .ref a1] h = rn 137 0 [.int a0, .ref a1] [] h := fun _ _ _ => if_pos (Nat.le_of_ble_eq_true rfl)
-- java/lang/String.checkIndex(II)V
theorem zr_138 : (∀ (l1 : Value) (x : Int32) (S : List Value) (h : zH), rn 138 0 [.int x, l1] S h = rn 138 1 [.int x, l1] (.int x :: S) h) ∧
  (∀ (l0 : Value) (x : Int32) (S : List Value) (h : zH), rn 138 1 [l0, .int x] S h = rn 138 2 [l0, .int x] (.int x :: S) h) ∧
  (∀ (l0 l1 : Value) (S : List Value) (h : zH), rn 138 2 [l0, l1] S h = rn 138 5 [l0, l1] (.retAddr 0 :: S) h) ∧
  (∀ (l0 l1 : Value) (v0 : Value) (v1 : Value) (v2 : Value) (S : List Value) (h : zH), rn 138 5 [l0, l1] (v2 :: v1 :: v0 :: S) h = if zsum S ≤ 8 then zcall (ev 139 [v0, v1, v2] h) (fun v h => rn 138 8 [l0, l1] (zpush v S) h) else none) ∧
  (∀ (l0 l1 : Value) (v : Value) (S : List Value) (h : zH), rn 138 8 [l0, l1] (v :: S) h = c1 v (rn 138 9 [l0, l1] S h)) ∧
  (∀ (l0 l1 : Value) (h : zH), rn 138 9 [l0, l1] [] h = some (none, h)) := ⟨fun _ _ _ _ => r_iload_n (show zdec 138 0 = some (.iload_n 0, 1) by decide +kernel) rfl rfl,
  fun _ _ _ _ => r_iload_n (show zdec 138 1 = some (.iload_n 1, 1) by decide +kernel) rfl rfl,
  fun _ _ _ _ => r_getstatic (show zdec 138 2 = some (.getstatic 1053, 3) by decide +kernel) (show zgt.lookup (138 * zKEY + 1053) = some 10 by decide +kernel) (by rfl) rfl,
  fun _ _ _ _ _ _ _ => r_cS [_, _, _] rfl (show zdec 138 5 = some (.invokestatic 1059, 3) by decide +kernel) (show zst.lookup (138 * zKEY + 1059) = some (0, 139, 3, 0) by decide +kernel) (by decide) rfl,
  fun _ _ _ _ _ => r_pop (show zdec 138 8 = some (.pop, 1) by decide +kernel) rfl,
  fun _ _ _ => r_vret (show zdec 138 9 = some (.return_, 1) by decide +kernel) (by decide +kernel)⟩
theorem ze_138 : ∀ (a0 : Int32) (a1 : Int32) (h : zH), ev 138 [.int a0, .int a1] h = rn 138 0 [.int a0, .int a1] [] h := fun _ _ _ => if_pos (Nat.le_of_ble_eq_true rfl)
-- jdk/internal/util/Preconditions.checkIndex(IILjava/util/function/BiFunction;)I
theorem zr_139 : (∀ (l1 l2 : Value) (x : Int32) (S : List Value) (h : zH), rn 139 0 [.int x, l1, l2] S h = rn 139 1 [.int x, l1, l2] (.int x :: S) h) ∧
  (∀ (l0 l1 l2 : Value) (x : Int32) (S : List Value) (h : zH), rn 139 1 [l0, l1, l2] (.int x :: S) h = if x < nI 0 then rn 139 9 [l0, l1, l2] S h else rn 139 4 [l0, l1, l2] S h) ∧
  (∀ (l1 l2 : Value) (x : Int32) (S : List Value) (h : zH), rn 139 4 [.int x, l1, l2] S h = rn 139 5 [.int x, l1, l2] (.int x :: S) h) ∧
  (∀ (l0 l2 : Value) (x : Int32) (S : List Value) (h : zH), rn 139 5 [l0, .int x, l2] S h = rn 139 6 [l0, .int x, l2] (.int x :: S) h) ∧
  (∀ (l0 l1 l2 : Value) (x : Int32) (y : Int32) (S : List Value) (h : zH), rn 139 6 [l0, l1, l2] (.int y :: .int x :: S) h = if x < y then rn 139 16 [l0, l1, l2] S h else rn 139 9 [l0, l1, l2] S h) ∧
  (∀ (l0 l1 l2 : Value) (S : List Value) (h : zH), rn 139 9 [l0, l1, l2] S h = ldA l2 (rn 139 10 [l0, l1, l2] (l2 :: S) h)) ∧
  (∀ (l1 l2 : Value) (x : Int32) (S : List Value) (h : zH), rn 139 10 [.int x, l1, l2] S h = rn 139 11 [.int x, l1, l2] (.int x :: S) h) ∧
  (∀ (l0 l2 : Value) (x : Int32) (S : List Value) (h : zH), rn 139 11 [l0, .int x, l2] S h = rn 139 12 [l0, .int x, l2] (.int x :: S) h) ∧
  (∀ (l1 l2 : Value) (x : Int32) (S : List Value) (h : zH), rn 139 16 [.int x, l1, l2] S h = rn 139 17 [.int x, l1, l2] (.int x :: S) h) ∧
  (∀ (l0 l1 l2 : Value) (x : Int32) (h : zH), rn 139 17 [l0, l1, l2] [.int x] h = some (some (.int x), h)) := ⟨fun _ _ _ _ _ => r_iload_n (show zdec 139 0 = some (.iload_n 0, 1) by decide +kernel) rfl rfl,
  fun _ _ _ _ _ _ => r_iflt (show zdec 139 1 = some (.ifCond .lt 8, 3) by decide +kernel) rfl rfl,
  fun _ _ _ _ _ => r_iload_n (show zdec 139 4 = some (.iload_n 0, 1) by decide +kernel) rfl rfl,
  fun _ _ _ _ _ => r_iload_n (show zdec 139 5 = some (.iload_n 1, 1) by decide +kernel) rfl rfl,
  fun _ _ _ _ _ _ _ => r_icmplt (show zdec 139 6 = some (.if_icmp .lt 10, 3) by decide +kernel) rfl rfl,
  fun _ _ _ _ _ => r_aload_n (show zdec 139 9 = some (.aload_n 2, 1) by decide +kernel) rfl rfl,
  fun _ _ _ _ _ => r_iload_n (show zdec 139 10 = some (.iload_n 0, 1) by decide +kernel) rfl rfl,
  fun _ _ _ _ _ => r_iload_n (show zdec 139 11 = some (.iload_n 1, 1) by decide +kernel) rfl rfl,
  fun _ _ _ _ _ => r_iload_n (show zdec 139 16 = some (.iload_n 0, 1) by decide +kernel) rfl rfl,
  fun _ _ _ _ _ => r_ireti (show zdec 139 17 = some (.ireturn, 1) by decide +kernel) (by decide +kernel)⟩
theorem ze_139 : ∀ (a0 : Int32) (a1 : Int32) (a2 : Nat) (h : zH), ev 139 [.int a0, .int a1, .ref a2] h = rn 139 0 [.int a0, .int a1, .ref a2] [] h := fun _ _ _ _ => if_pos (Nat.le_of_ble_eq_true rfl)
-- java/lang/StringBuilder.append(I)Ljava/lang/StringBuilder;
theorem zr_140 : (∀ (l1 : Value) (x : Nat) (S : List Value) (h : zH), rn 140 0 [.ref x, l1] S h = rn 140 1 [.ref x, l1] (.ref x :: S) h) ∧
  (∀ (l0 : Value) (x : Int32) (S : List Value) (h : zH), rn 140 1 [l0, .int x] S h = rn 140 2 [l0, .int x] (.int x :: S) h) ∧
  (∀ (l0 l1 : Value) (o : Nat) (v0 : Value) (S : List Value) (h : zH), rn 140 2 [l0, l1] (v0 :: .ref o :: S) h = if zkd h o = 0 ∧ zsum S ≤ 8 then zcall (ev 141 [.ref o, v0] h) (fun v h => rn 140 5 [l0, l1] (zpush v S) h) else none) ∧
  (∀ (l0 l1 : Value) (v : Value) (S : List Value) (h : zH), rn 140 5 [l0, l1] (v :: S) h = c1 v (rn 140 6 [l0, l1] S h)) ∧
  (∀ (l1 : Value) (x : Nat) (S : List Value) (h : zH), rn 140 6 [.ref x, l1] S h = rn 140 7 [.ref x, l1] (.ref x :: S) h) ∧
  (∀ (l0 l1 : Value) (a : Nat) (h : zH), rn 140 7 [l0, l1] [.ref a] h = some (some (.ref a), h)) := ⟨fun _ _ _ _ => r_aload_nr (show zdec 140 0 = some (.aload_n 0, 1) by decide +kernel) rfl rfl,
  fun _ _ _ _ => r_iload_n (show zdec 140 1 = some (.iload_n 1, 1) by decide +kernel) rfl rfl,
  fun _ _ _ _ _ _ => r_cU [_] rfl (show zdec 140 2 = some (.invokespecial 53, 3) by decide +kernel) (show zst.lookup (140 * zKEY + 53) = some (6, 141, 1, 0) by decide +kernel) rfl,
  fun _ _ _ _ _ => r_pop (show zdec 140 5 = some (.pop, 1) by decide +kernel) rfl,
  fun _ _ _ _ => r_aload_nr (show zdec 140 6 = some (.aload_n 0, 1) by decide +kernel) rfl rfl,
  fun _ _ _ _ => r_areto (C := "java/lang/StringBuilder") (show zdec 140 7 = some (.areturn, 1) by decide +kernel) (by decide +kernel)⟩
theorem ze_140 : ∀ (a0 : Nat) (a1 : Int32) (h : zH), ev 140 [.ref a0, .int a1] h = rn 140 0 [.ref a0, .int a1] [] h := fun _ _ _ => if_pos (Nat.le_of_ble_eq_true rfl)
-- java/lang/AbstractStringBuilder.append(I)Ljava/lang/AbstractStringBuilder;
theorem zr_141 : (∀ (l1 l2 l3 : Value) (x : Nat) (S : List Value) (h : zH), rn 141 0 [.ref x, l1, l2, l3] S h = rn 141 1 [.ref x, l1, l2, l3] (.ref x :: S) h) ∧
  (∀ (l0 l1 l2 l3 : Value) (a : Nat) (S : List Value) (h : zH), rn 141 1 [l0, l1, l2, l3] (.ref a :: S) h = zgf h a 0 3 fun v => rn 141 4 [l0, l1, l2, l3] (v :: S) h) ∧
  (∀ (l0 l1 l2 l3 : Value) (x : Int32) (S : List Value) (h : zH), rn 141 4 [l0, l1, l2, l3] (.int x :: S) h = nl l1 (rn 141 5 [l0, l1, .int x, l3] S h)) ∧
  (∀ (l0 l1 l3 : Value) (x : Int32) (S : List Value) (h : zH), rn 141 5 [l0, l1, .int x, l3] S h = rn 141 6 [l0, l1, .int x, l3] (.int x :: S) h) ∧
  (∀ (l0 l2 l3 : Value) (x : Int32) (S : List Value) (h : zH), rn 141 6 [l0, .int x, l2, l3] S h = rn 141 7 [l0, .int x, l2, l3] (.int x :: S) h) ∧
  (∀ (l0 l1 l2 l3 : Value) (v0 : Value) (S : List Value) (h : zH), rn 141 7 [l0, l1, l2, l3] (v0 :: S) h = if zsum S ≤ 8 then zcall (ev 142 [v0] h) (fun v h => rn 141 10 [l0, l1, l2, l3] (zpush v S) h) else none) ∧
  (∀ (l0 l1 l2 l3 : Value) (x : Int32) (y : Int32) (S : List Value) (h : zH), rn 141 10 [l0, l1, l2, l3] (.int y :: .int x :: S) h = rn 141 11 [l0, l1, l2, l3] (.int (x + y) :: S) h) ∧
  (∀ (l0 l1 l2 l3 : Value) (x : Int32) (S : List Value) (h : zH), rn 141 11 [l0, l1, l2, l3] (.int x :: S) h = nl l2 (rn 141 12 [l0, l1, l2, .int x] S h)) ∧
  (∀ (l1 l2 l3 : Value) (x : Nat) (S : List Value) (h : zH), rn 141 12 [.ref x, l1, l2, l3] S h = rn 141 13 [.ref x, l1, l2, l3] (.ref x :: S) h) ∧
  (∀ (l0 l1 l2 : Value) (x : Int32) (S : List Value) (h : zH), rn 141 13 [l0, l1, l2, .int x] S h = rn 141 14 [l0, l1, l2, .int x] (.int x :: S) h) ∧
  (∀ (l1 l2 l3 : Value) (x : Nat) (S : List Value) (h : zH), rn 141 17 [.ref x, l1, l2, l3] S h = rn 141 18 [.ref x, l1, l2, l3] (.ref x :: S) h) ∧
  (∀ (l0 l1 l2 l3 : Value) (o : Nat) (S : List Value) (h : zH), rn 141 18 [l0, l1, l2, l3] (.ref o :: S) h = if zkd h o = 0 ∧ zsum S ≤ 8 then zcall (ev 106 [.ref o] h) (fun v h => rn 141 21 [l0, l1, l2, l3] (zpush v S) h) else none) ∧
  (∀ (l0 l1 l2 l3 : Value) (x : Int32) (S : List Value) (h : zH), rn 141 21 [l0, l1, l2, l3] (.int x :: S) h = if x = nI 0 then rn 141 37 [l0, l1, l2, l3] S h else rn 141 24 [l0, l1, l2, l3] S h) ∧
  (∀ (l0 l2 l3 : Value) (x : Int32) (S : List Value) (h : zH), rn 141 24 [l0, .int x, l2, l3] S h = rn 141 25 [l0, .int x, l2, l3] (.int x :: S) h) ∧
  (∀ (l0 l1 l2 : Value) (x : Int32) (S : List Value) (h : zH), rn 141 25 [l0, l1, l2, .int x] S h = rn 141 26 [l0, l1, l2, .int x] (.int x :: S) h) ∧
  (∀ (l1 l2 l3 : Value) (x : Nat) (S : List Value) (h : zH), rn 141 26 [.ref x, l1, l2, l3] S h = rn 141 27 [.ref x, l1, l2, l3] (.ref x :: S) h) ∧
  (∀ (l0 l1 l2 l3 : Value) (a : Nat) (S : List Value) (h : zH), rn 141 27 [l0, l1, l2, l3] (.ref a :: S) h = zgf h a 0 0 fun v => rn 141 30 [l0, l1, l2, l3] (v :: S) h) ∧
  (∀ (l0 l1 l2 l3 : Value) (v0 : Value) (v1 : Value) (v2 : Value) (S : List Value) (h : zH), rn 141 30 [l0, l1, l2, l3] (v2 :: v1 :: v0 :: S) h = if zsum S ≤ 8 then zcall (ev 143 [v0, v1, v2] h) (fun v h => rn 141 33 [l0, l1, l2, l3] (zpush v S) h) else none) ∧
  (∀ (l0 l1 l2 l3 : Value) (v : Value) (S : List Value) (h : zH), rn 141 33 [l0, l1, l2, l3] (v :: S) h = c1 v (rn 141 34 [l0, l1, l2, l3] S h)) ∧
  (∀ (l0 l1 l2 l3 : Value) (S : List Value) (h : zH), rn 141 34 [l0, l1, l2, l3] S h = rn 141 48 [l0, l1, l2, l3] S h) ∧
  (∀ (l0 l2 l3 : Value) (x : Int32) (S : List Value) (h : zH), rn 141 37 [l0, .int x, l2, l3] S h = rn 141 38 [l0, .int x, l2, l3] (.int x :: S) h) ∧
  (∀ (l0 l1 l3 : Value) (x : Int32) (S : List Value) (h : zH), rn 141 38 [l0, l1, .int x, l3] S h = rn 141 39 [l0, l1, .int x, l3] (.int x :: S) h) ∧
  (∀ (l0 l1 l2 : Value) (x : Int32) (S : List Value) (h : zH), rn 141 39 [l0, l1, l2, .int x] S h = rn 141 40 [l0, l1, l2, .int x] (.int x :: S) h) ∧
  (∀ (l1 l2 l3 : Value) (x : Nat) (S : List Value) (h : zH), rn 141 40 [.ref x, l1, l2, l3] S h = rn 141 41 [.ref x, l1, l2, l3] (.ref x :: S) h) ∧
  (∀ (l0 l1 l2 l3 : Value) (a : Nat) (S : List Value) (h : zH), rn 141 41 [l0, l1, l2, l3] (.ref a :: S) h = zgf h a 0 0 fun v => rn 141 44 [l0, l1, l2, l3] (v :: S) h) ∧
  (∀ (l0 l1 l2 l3 : Value) (v0 : Value) (v1 : Value) (v2 : Value) (v3 : Value) (S : List Value) (h : zH), rn 141 44 [l0, l1, l2, l3] (v3 :: v2 :: v1 :: v0 :: S) h = if zsum S ≤ 8 then zcall (ev 144 [v0, v1, v2, v3] h) (fun v h => rn 141 47 [l0, l1, l2, l3] (zpush v S) h) else none) ∧
  (∀ (l0 l1 l2 l3 : Value) (v : Value) (S : List Value) (h : zH), rn 141 47 [l0, l1, l2, l3] (v :: S) h = c1 v (rn 141 48 [l0, l1, l2, l3] S h)) ∧
  (∀ (l1 l2 l3 : Value) (x : Nat) (S : List Value) (h : zH), rn 141 48 [.ref x, l1, l2, l3] S h = rn 141 49 [.ref x, l1, l2, l3] (.ref x :: S) h) ∧
  (∀ (l0 l1 l2 : Value) (x : Int32) (S : List Value) (h : zH), rn 141 49 [l0, l1, l2, .int x] S h = rn 141 50 [l0, l1, l2, .int x] (.int x :: S) h) ∧
  (∀ (l0 l1 l2 l3 : Value) (a : Nat) (v : Value) (S : List Value) (h : zH), rn 141 50 [l0, l1, l2, l3] (v :: .ref a :: S) h = zpf h a 0 3 v fun h => rn 141 53 [l0, l1, l2, l3] S h) ∧
  (∀ (l1 l2 l3 : Value) (x : Nat) (S : List Value) (h : zH), rn 141 53 [.ref x, l1, l2, l3] S h = rn 141 54 [.ref x, l1, l2, l3] (.ref x :: S) h) ∧
  (∀ (l0 l1 l2 l3 : Value) (a : Nat) (h : zH), rn 141 54 [l0, l1, l2, l3] [.ref a] h = some (some (.ref a), h)) := ⟨fun _ _ _ _ _ _ => r_aload_nr (show zdec 141 0 = some (.aload_n 0, 1) by decide +kernel) rfl rfl,
  fun _ _ _ _ _ _ _ => r_getfield (show zdec 141 1 = some (.getfield 79, 3) by decide +kernel) (show zft.lookup (141 * zKEY + 79) = some (0, 3) by decide +kernel) rfl,
  fun _ _ _ _ _ _ _ => r_istore_n (show zdec 141 4 = some (.istore_n 2, 1) by decide +kernel) rfl rfl (Nat.le_of_ble_eq_true rfl) rfl rfl,
  fun _ _ _ _ _ _ => r_iload_n (show zdec 141 5 = some (.iload_n 2, 1) by decide +kernel) rfl rfl,
  fun _ _ _ _ _ _ => r_iload_n (show zdec 141 6 = some (.iload_n 1, 1) by decide +kernel) rfl rfl,
  fun _ _ _ _ _ _ _ => r_cS [_] rfl (show zdec 141 7 = some (.invokestatic 245, 3) by decide +kernel) (show zst.lookup (141 * zKEY + 245) = some (0, 142, 1, 0) by decide +kernel) (by decide) rfl,
  fun _ _ _ _ _ _ _ _ => r_iadd (show zdec 141 10 = some (.iadd, 1) by decide +kernel) rfl,
  fun _ _ _ _ _ _ _ => r_istore_n (show zdec 141 11 = some (.istore_n 3, 1) by decide +kernel) rfl rfl (Nat.le_of_ble_eq_true rfl) rfl rfl,
  fun _ _ _ _ _ _ => r_aload_nr (show zdec 141 12 = some (.aload_n 0, 1) by decide +kernel) rfl rfl,
  fun _ _ _ _ _ _ => r_iload_n (show zdec 141 13 = some (.iload_n 3, 1) by decide +kernel) rfl rfl,
  fun _ _ _ _ _ _ => r_aload_nr (show zdec 141 17 = some (.aload_n 0, 1) by decide +kernel) rfl rfl,
  fun _ _ _ _ _ _ _ => r_cV [] rfl (show zdec 141 18 = some (.invokevirtual 83, 3) by decide +kernel) (show zst.lookup (141 * zKEY + 83) = some (5, 106, 0, 0) by decide +kernel) (by decide) rfl,
  fun _ _ _ _ _ _ _ => r_ifeq (show zdec 141 21 = some (.ifCond .eq 16, 3) by decide +kernel) rfl rfl,
  fun _ _ _ _ _ _ => r_iload_n (show zdec 141 24 = some (.iload_n 1, 1) by decide +kernel) rfl rfl,
  fun _ _ _ _ _ _ => r_iload_n (show zdec 141 25 = some (.iload_n 3, 1) by decide +kernel) rfl rfl,
  fun _ _ _ _ _ _ => r_aload_nr (show zdec 141 26 = some (.aload_n 0, 1) by decide +kernel) rfl rfl,
  fun _ _ _ _ _ _ _ => r_getfield (show zdec 141 27 = some (.getfield 15, 3) by decide +kernel) (show zft.lookup (141 * zKEY + 15) = some (0, 0) by decide +kernel) rfl,
  fun _ _ _ _ _ _ _ _ _ => r_cS [_, _, _] rfl (show zdec 141 30 = some (.invokestatic 248, 3) by decide +kernel) (show zst.lookup (141 * zKEY + 248) = some (0, 143, 3, 0) by decide +kernel) (by decide) rfl,
  fun _ _ _ _ _ _ _ => r_pop (show zdec 141 33 = some (.pop, 1) by decide +kernel) rfl,
  fun _ _ _ _ _ _ => r_goto (show zdec 141 34 = some (.goto 14, 3) by decide +kernel) rfl,
  fun _ _ _ _ _ _ => r_iload_n (show zdec 141 37 = some (.iload_n 1, 1) by decide +kernel) rfl rfl,
  fun _ _ _ _ _ _ => r_iload_n (show zdec 141 38 = some (.iload_n 2, 1) by decide +kernel) rfl rfl,
  fun _ _ _ _ _ _ => r_iload_n (show zdec 141 39 = some (.iload_n 3, 1) by decide +kernel) rfl rfl,
  fun _ _ _ _ _ _ => r_aload_nr (show zdec 141 40 = some (.aload_n 0, 1) by decide +kernel) rfl rfl,
  fun _ _ _ _ _ _ _ => r_getfield (show zdec 141 41 = some (.getfield 15, 3) by decide +kernel) (show zft.lookup (141 * zKEY + 15) = some (0, 0) by decide +kernel) rfl,
  fun _ _ _ _ _ _ _ _ _ _ => r_cS [_, _, _, _] rfl (show zdec 141 44 = some (.invokestatic 251, 3) by decide +kernel) (show zst.lookup (141 * zKEY + 251) = some (0, 144, 4, 0) by decide +kernel) (by decide) rfl,
  fun _ _ _ _ _ _ _ => r_pop (show zdec 141 47 = some (.pop, 1) by decide +kernel) rfl,
  fun _ _ _ _ _ _ => r_aload_nr (show zdec 141 48 = some (.aload_n 0, 1) by decide +kernel) rfl rfl,
  fun _ _ _ _ _ _ => r_iload_n (show zdec 141 49 = some (.iload_n 3, 1) by decide +kernel) rfl rfl,
  fun _ _ _ _ _ _ _ _ => r_putfield (show zdec 141 50 = some (.putfield 79, 3) by decide +kernel) (show zft.lookup (141 * zKEY + 79) = some (0, 3) by decide +kernel) (by decide +kernel) rfl,
  fun _ _ _ _ _ _ => r_aload_nr (show zdec 141 53 = some (.aload_n 0, 1) by decide +kernel) rfl rfl,
  fun _ _ _ _ _ _ => r_areto (C := "java/lang/AbstractStringBuilder") (show zdec 141 54 = some (.areturn, 1) by decide +kernel) (by decide +kernel)⟩
theorem ze_141 : ∀ (a0 : Nat) (a1 : Int32) (h : zH), ev 141 [.ref a0, .int a1] h = rn 141 0 [.ref a0, .int a1, .float 0, .float 0] [] h := fun _ _ _ => if_pos (Nat.le_of_ble_eq_true rfl)
-- java/lang/Integer.stringSize(I)I
theorem zr_142 : (∀ (l0 l1 l2 l3 : Value) (S : List Value) (h : zH), rn 142 0 [l0, l1, l2, l3] S h = rn 142 1 [l0, l1, l2, l3] (.int (nI 1) :: S) h) ∧
  (∀ (l0 l1 l2 l3 : Value) (x : Int32) (S : List Value) (h : zH), rn 142 1 [l0, l1, l2, l3] (.int x :: S) h = nl l0 (rn 142 2 [l0, .int x, l2, l3] S h)) ∧
  (∀ (l1 l2 l3 : Value) (x : Int32) (S : List Value) (h : zH), rn 142 2 [.int x, l1, l2, l3] S h = rn 142 3 [.int x, l1, l2, l3] (.int x :: S) h) ∧
  (∀ (l0 l1 l2 l3 : Value) (x : Int32) (S : List Value) (h : zH), rn 142 3 [l0, l1, l2, l3] (.int x :: S) h = if x < nI 0 then rn 142 11 [l0, l1, l2, l3] S h else rn 142 6 [l0, l1, l2, l3] S h) ∧
  (∀ (l0 l1 l2 l3 : Value) (S : List Value) (h : zH), rn 142 6 [l0, l1, l2, l3] S h = rn 142 7 [l0, l1, l2, l3] (.int (nI 0) :: S) h) ∧
  (∀ (l0 l1 l2 l3 : Value) (x : Int32) (S : List Value) (h : zH), rn 142 7 [l0, l1, l2, l3] (.int x :: S) h = nl l0 (rn 142 8 [l0, .int x, l2, l3] S h)) ∧
  (∀ (l1 l2 l3 : Value) (x : Int32) (S : List Value) (h : zH), rn 142 8 [.int x, l1, l2, l3] S h = rn 142 9 [.int x, l1, l2, l3] (.int x :: S) h) ∧
  (∀ (l0 l1 l2 l3 : Value) (x : Int32) (S : List Value) (h : zH), rn 142 9 [l0, l1, l2, l3] (.int x :: S) h = rn 142 10 [l0, l1, l2, l3] (.int (-x) :: S) h) ∧
  (∀ (l0 l1 l2 l3 : Value) (x : Int32) (S : List Value) (h : zH), rn 142 10 [l0, l1, l2, l3] (.int x :: S) h = rn 142 11 [.int x, l1, l2, l3] S h) ∧
  (∀ (l0 l1 l2 l3 : Value) (S : List Value) (h : zH), rn 142 11 [l0, l1, l2, l3] S h = rn 142 13 [l0, l1, l2, l3] (.int (-10) :: S) h) ∧
  (∀ (l0 l1 l2 l3 : Value) (x : Int32) (S : List Value) (h : zH), rn 142 13 [l0, l1, l2, l3] (.int x :: S) h = nl l1 (rn 142 14 [l0, l1, .int x, l3] S h)) ∧
  (∀ (l0 l1 l2 l3 : Value) (S : List Value) (h : zH), rn 142 14 [l0, l1, l2, l3] S h = rn 142 15 [l0, l1, l2, l3] (.int (nI 1) :: S) h) ∧
  (∀ (l0 l1 l2 l3 : Value) (x : Int32) (S : List Value) (h : zH), rn 142 15 [l0, l1, l2, l3] (.int x :: S) h = nl l2 (rn 142 16 [l0, l1, l2, .int x] S h)) ∧
  (∀ (l0 l1 l2 l3 : Value) (S : List Value) (h : zH), rn 142 17 [l0, l1, l2, l3] S h = rn 142 19 [l0, l1, l2, l3] (.int (nI 10) :: S) h) ∧
  (∀ (l0 l1 l2 l3 : Value) (x : Int32) (y : Int32) (S : List Value) (h : zH), rn 142 19 [l0, l1, l2, l3] (.int y :: .int x :: S) h = if y ≤ x then rn 142 42 [l0, l1, l2, l3] S h else rn 142 22 [l0, l1, l2, l3] S h) ∧
  (∀ (l1 l2 l3 : Value) (x : Int32) (S : List Value) (h : zH), rn 142 22 [.int x, l1, l2, l3] S h = rn 142 23 [.int x, l1, l2, l3] (.int x :: S) h) ∧
  (∀ (l0 l1 l3 : Value) (x : Int32) (S : List Value) (h : zH), rn 142 23 [l0, l1, .int x, l3] S h = rn 142 24 [l0, l1, .int x, l3] (.int x :: S) h) ∧
  (∀ (l0 l1 l2 l3 : Value) (x : Int32) (y : Int32) (S : List Value) (h : zH), rn 142 24 [l0, l1, l2, l3] (.int y :: .int x :: S) h = if x ≤ y then rn 142 31 [l0, l1, l2, l3] S h else rn 142 27 [l0, l1, l2, l3] S h) ∧
  (∀ (l0 l1 l2 : Value) (x : Int32) (S : List Value) (h : zH), rn 142 27 [l0, l1, l2, .int x] S h = rn 142 28 [l0, l1, l2, .int x] (.int x :: S) h) ∧
  (∀ (l0 l2 l3 : Value) (x : Int32) (S : List Value) (h : zH), rn 142 28 [l0, .int x, l2, l3] S h = rn 142 29 [l0, .int x, l2, l3] (.int x :: S) h) ∧
  (∀ (l0 l1 l2 l3 : Value) (x : Int32) (y : Int32) (S : List Value) (h : zH), rn 142 29 [l0, l1, l2, l3] (.int y :: .int x :: S) h = rn 142 30 [l0, l1, l2, l3] (.int (x + y) :: S) h) ∧
  (∀ (l0 l1 l2 l3 : Value) (x : Int32) (h : zH), rn 142 30 [l0, l1, l2, l3] [.int x] h = some (some (.int x), h)) ∧
  (∀ (l0 l1 l2 l3 : Value) (S : List Value) (h : zH), rn 142 31 [l0, l1, l2, l3] S h = rn 142 33 [l0, l1, l2, l3] (.int (nI 10) :: S) h) ∧
  (∀ (l0 l1 l3 : Value) (x : Int32) (S : List Value) (h : zH), rn 142 33 [l0, l1, .int x, l3] S h = rn 142 34 [l0, l1, .int x, l3] (.int x :: S) h) ∧
  (∀ (l0 l1 l2 l3 : Value) (x : Int32) (y : Int32) (S : List Value) (h : zH), rn 142 34 [l0, l1, l2, l3] (.int y :: .int x :: S) h = rn 142 35 [l0, l1, l2, l3] (.int (x * y) :: S) h) ∧
  (∀ (l0 l1 l2 l3 : Value) (x : Int32) (S : List Value) (h : zH), rn 142 35 [l0, l1, l2, l3] (.int x :: S) h = nl l1 (rn 142 36 [l0, l1, .int x, l3] S h)) ∧
  (∀ (l0 l1 l2 : Value) (x : Int32) (S : List Value) (h : zH), rn 142 36 [l0, l1, l2, .int x] S h = nl l2 (rn 142 39 [l0, l1, l2, .int (x + (nI 1))] S h)) ∧
  (∀ (l0 l1 l2 l3 : Value) (S : List Value) (h : zH), rn 142 39 [l0, l1, l2, l3] S h = rn 142 16 [l0, l1, l2, l3] S h) ∧
  (∀ (l0 l1 l2 l3 : Value) (S : List Value) (h : zH), rn 142 42 [l0, l1, l2, l3] S h = rn 142 44 [l0, l1, l2, l3] (.int (nI 10) :: S) h) ∧
  (∀ (l0 l2 l3 : Value) (x : Int32) (S : List Value) (h : zH), rn 142 44 [l0, .int x, l2, l3] S h = rn 142 45 [l0, .int x, l2, l3] (.int x :: S) h) ∧
  (∀ (l0 l1 l2 l3 : Value) (x : Int32) (y : Int32) (S : List Value) (h : zH), rn 142 45 [l0, l1, l2, l3] (.int y :: .int x :: S) h = rn 142 46 [l0, l1, l2, l3] (.int (x + y) :: S) h) ∧
  (∀ (l0 l1 l2 l3 : Value) (x : Int32) (h : zH), rn 142 46 [l0, l1, l2, l3] [.int x] h = some (some (.int x), h)) := ⟨fun _ _ _ _ _ _ => r_iconst (show zdec 142 0 = some (.iconst 1, 1) by decide +kernel) rfl rfl,
  fun _ _ _ _ _ _ _ => r_istore_n (show zdec 142 1 = some (.istore_n 1, 1) by decide +kernel) rfl rfl (Nat.le_of_ble_eq_true rfl) rfl rfl,
  fun _ _ _ _ _ _ => r_iload_n (show zdec 142 2 = some (.iload_n 0, 1) by decide +kernel) rfl rfl,
  fun _ _ _ _ _ _ _ => r_iflt (show zdec 142 3 = some (.ifCond .lt 8, 3) by decide +kernel) rfl rfl,
  fun _ _ _ _ _ _ => r_iconst (show zdec 142 6 = some (.iconst 0, 1) by decide +kernel) rfl rfl,
  fun _ _ _ _ _ _ _ => r_istore_n (show zdec 142 7 = some (.istore_n 1, 1) by decide +kernel) rfl rfl (Nat.le_of_ble_eq_true rfl) rfl rfl,
  fun _ _ _ _ _ _ => r_iload_n (show zdec 142 8 = some (.iload_n 0, 1) by decide +kernel) rfl rfl,
  fun _ _ _ _ _ _ _ => r_ineg (show zdec 142 9 = some (.ineg, 1) by decide +kernel) rfl,
  fun _ _ _ _ _ _ _ => r_istore_n0 (show zdec 142 10 = some (.istore_n 0, 1) by decide +kernel) rfl rfl (Nat.le_of_ble_eq_true rfl) rfl,
  fun _ _ _ _ _ _ => r_bipush (show zdec 142 11 = some (.bipush (-10), 2) by decide +kernel) rfl rfl,
  fun _ _ _ _ _ _ _ => r_istore_n (show zdec 142 13 = some (.istore_n 2, 1) by decide +kernel) rfl rfl (Nat.le_of_ble_eq_true rfl) rfl rfl,
  fun _ _ _ _ _ _ => r_iconst (show zdec 142 14 = some (.iconst 1, 1) by decide +kernel) rfl rfl,
  fun _ _ _ _ _ _ _ => r_istore_n (show zdec 142 15 = some (.istore_n 3, 1) by decide +kernel) rfl rfl (Nat.le_of_ble_eq_true rfl) rfl rfl,
  fun _ _ _ _ _ _ => r_bipush (show zdec 142 17 = some (.bipush 10, 2) by decide +kernel) rfl rfl,
  fun _ _ _ _ _ _ _ _ => r_icmpge (show zdec 142 19 = some (.if_icmp .ge 23, 3) by decide +kernel) rfl rfl,
  fun _ _ _ _ _ _ => r_iload_n (show zdec 142 22 = some (.iload_n 0, 1) by decide +kernel) rfl rfl,
  fun _ _ _ _ _ _ => r_iload_n (show zdec 142 23 = some (.iload_n 2, 1) by decide +kernel) rfl rfl,
  fun _ _ _ _ _ _ _ _ => r_icmple (show zdec 142 24 = some (.if_icmp .le 7, 3) by decide +kernel) rfl rfl,
  fun _ _ _ _ _ _ => r_iload_n (show zdec 142 27 = some (.iload_n 3, 1) by decide +kernel) rfl rfl,
  fun _ _ _ _ _ _ => r_iload_n (show zdec 142 28 = some (.iload_n 1, 1) by decide +kernel) rfl rfl,
  fun _ _ _ _ _ _ _ _ => r_iadd (show zdec 142 29 = some (.iadd, 1) by decide +kernel) rfl,
  fun _ _ _ _ _ _ => r_ireti (show zdec 142 30 = some (.ireturn, 1) by decide +kernel) (by decide +kernel),
  fun _ _ _ _ _ _ => r_bipush (show zdec 142 31 = some (.bipush 10, 2) by decide +kernel) rfl rfl,
  fun _ _ _ _ _ _ => r_iload_n (show zdec 142 33 = some (.iload_n 2, 1) by decide +kernel) rfl rfl,
  fun _ _ _ _ _ _ _ _ => r_imul (show zdec 142 34 = some (.imul, 1) by decide +kernel) rfl,
  fun _ _ _ _ _ _ _ => r_istore_n (show zdec 142 35 = some (.istore_n 2, 1) by decide +kernel) rfl rfl (Nat.le_of_ble_eq_true rfl) rfl rfl,
  fun _ _ _ _ _ _ => r_iinc (show zdec 142 36 = some (.iinc 3 1, 3) by decide +kernel) rfl rfl rfl (Nat.le_of_ble_eq_true rfl) rfl rfl,
  fun _ _ _ _ _ _ => r_goto (show zdec 142 39 = some (.goto (-23), 3) by decide +kernel) rfl,
  fun _ _ _ _ _ _ => r_bipush (show zdec 142 42 = some (.bipush 10, 2) by decide +kernel) rfl rfl,
  fun _ _ _ _ _ _ => r_iload_n (show zdec 142 44 = some (.iload_n 1, 1) by decide +kernel) rfl rfl,
  fun _ _ _ _ _ _ _ _ => r_iadd (show zdec 142 45 = some (.iadd, 1) by decide +kernel) rfl,
  fun _ _ _ _ _ _ => r_ireti (show zdec 142 46 = some (.ireturn, 1) by decide +kernel) (by decide +kernel)⟩
theorem zl_142_16 : ∀ (l0 l1 l2 : Value) (x : Int32) (S : List Value) (h : zH), rn 142 16 [l0, l1, l2, .int x] S h = rn 142 17 [l0, l1, l2, .int x] (.int x :: S) h := fun _ _ _ _ _ _ => r_iload_n (show zdec 142 16 = some (.iload_n 3, 1) by decide +kernel) rfl rfl
theorem ze_142 : ∀ (a0 : Int32) (h : zH), ev 142 [.int a0] h = rn 142 0 [.int a0, .float 0, .float 0, .float 0] [] h := fun _ _ => if_pos (Nat.le_of_ble_eq_true rfl)
-- java/lang/Integer.getChars(II[B)I
theorem zr_143 : (∀ (l0 l2 l3 l4 l5 l6 : Value) (x : Int32) (S : List Value) (h : zH), rn 143 0 [l0, .int x, l2, l3, l4, l5, l6] S h = rn 143 1 [l0, .int x, l2, l3, l4, l5, l6] (.int x :: S) h) ∧
  (∀ (l0 l1 l2 l3 l4 l5 l6 : Value) (x : Int32) (S : List Value) (h : zH), rn 143 1 [l0, l1, l2, l3, l4, l5, l6] (.int x :: S) h = nl l4 (rn 143 3 [l0, l1, l2, l3, l4, .int x, l6] S h)) ∧
  (∀ (l1 l2 l3 l4 l5 l6 : Value) (x : Int32) (S : List Value) (h : zH), rn 143 3 [.int x, l1, l2, l3, l4, l5, l6] S h = rn 143 4 [.int x, l1, l2, l3, l4, l5, l6] (.int x :: S) h) ∧
  (∀ (l0 l1 l2 l3 l4 l5 l6 : Value) (x : Int32) (S : List Value) (h : zH), rn 143 4 [l0, l1, l2, l3, l4, l5, l6] (.int x :: S) h = if nI 0 ≤ x then rn 143 11 [l0, l1, l2, l3, l4, l5, l6] S h else rn 143 7 [l0, l1, l2, l3, l4, l5, l6] S h) ∧
  (∀ (l0 l1 l2 l3 l4 l5 l6 : Value) (S : List Value) (h : zH), rn 143 7 [l0, l1, l2, l3, l4, l5, l6] S h = rn 143 8 [l0, l1, l2, l3, l4, l5, l6] (.int (nI 1) :: S) h) ∧
  (∀ (l0 l1 l2 l3 l4 l5 l6 : Value) (S : List Value) (h : zH), rn 143 8 [l0, l1, l2, l3, l4, l5, l6] S h = rn 143 12 [l0, l1, l2, l3, l4, l5, l6] S h) ∧
  (∀ (l0 l1 l2 l3 l4 l5 l6 : Value) (S : List Value) (h : zH), rn 143 11 [l0, l1, l2, l3, l4, l5, l6] S h = rn 143 12 [l0, l1, l2, l3, l4, l5, l6] (.int (nI 0) :: S) h) ∧
  (∀ (l0 l1 l2 l3 l4 l5 l6 : Value) (x : Int32) (S : List Value) (h : zH), rn 143 12 [l0, l1, l2, l3, l4, l5, l6] (.int x :: S) h = nl l5 (rn 143 14 [l0, l1, l2, l3, l4, l5, .int x] S h)) ∧
  (∀ (l0 l1 l2 l3 l4 l5 : Value) (x : Int32) (S : List Value) (h : zH), rn 143 14 [l0, l1, l2, l3, l4, l5, .int x] S h = rn 143 16 [l0, l1, l2, l3, l4, l5, .int x] (.int x :: S) h) ∧
  (∀ (l0 l1 l2 l3 l4 l5 l6 : Value) (x : Int32) (S : List Value) (h : zH), rn 143 16 [l0, l1, l2, l3, l4, l5, l6] (.int x :: S) h = if x = nI 0 then rn 143 19 [l0, l1, l2, l3, l4, l5, l6] S h else rn 143 22 [l0, l1, l2, l3, l4, l5, l6] S h) ∧
  (∀ (l1 l2 l3 l4 l5 l6 : Value) (x : Int32) (S : List Value) (h : zH), rn 143 19 [.int x, l1, l2, l3, l4, l5, l6] S h = rn 143 20 [.int x, l1, l2, l3, l4, l5, l6] (.int x :: S) h) ∧
  (∀ (l0 l1 l2 l3 l4 l5 l6 : Value) (x : Int32) (S : List Value) (h : zH), rn 143 20 [l0, l1, l2, l3, l4, l5, l6] (.int x :: S) h = rn 143 21 [l0, l1, l2, l3, l4, l5, l6] (.int (-x) :: S) h) ∧
  (∀ (l0 l1 l2 l3 l4 l5 l6 : Value) (x : Int32) (S : List Value) (h : zH), rn 143 21 [l0, l1, l2, l3, l4, l5, l6] (.int x :: S) h = rn 143 22 [.int x, l1, l2, l3, l4, l5, l6] S h) ∧
  (∀ (l0 l1 l2 l3 l4 l5 l6 : Value) (S : List Value) (h : zH), rn 143 23 [l0, l1, l2, l3, l4, l5, l6] S h = rn 143 25 [l0, l1, l2, l3, l4, l5, l6] (.int (-100) :: S) h) ∧
  (∀ (l0 l1 l2 l3 l4 l5 l6 : Value) (x : Int32) (y : Int32) (S : List Value) (h : zH), rn 143 25 [l0, l1, l2, l3, l4, l5, l6] (.int y :: .int x :: S) h = if y < x then rn 143 72 [l0, l1, l2, l3, l4, l5, l6] S h else rn 143 28 [l0, l1, l2, l3, l4, l5, l6] S h) ∧
  (∀ (l1 l2 l3 l4 l5 l6 : Value) (x : Int32) (S : List Value) (h : zH), rn 143 28 [.int x, l1, l2, l3, l4, l5, l6] S h = rn 143 29 [.int x, l1, l2, l3, l4, l5, l6] (.int x :: S) h) ∧
  (∀ (l0 l1 l2 l3 l4 l5 l6 : Value) (S : List Value) (h : zH), rn 143 29 [l0, l1, l2, l3, l4, l5, l6] S h = rn 143 31 [l0, l1, l2, l3, l4, l5, l6] (.int (nI 100) :: S) h) ∧
  (∀ (l0 l1 l2 l3 l4 l5 l6 : Value) (x : Int32) (y : Int32) (S : List Value) (h : zH), rn 143 31 [l0, l1, l2, l3, l4, l5, l6] (.int y :: .int x :: S) h = dvI y (rn 143 32 [l0, l1, l2, l3, l4, l5, l6] (.int (x / y) :: S) h)) ∧
  (∀ (l0 l1 l2 l3 l4 l5 l6 : Value) (x : Int32) (S : List Value) (h : zH), rn 143 32 [l0, l1, l2, l3, l4, l5, l6] (.int x :: S) h = nl l2 (rn 143 33 [l0, l1, l2, .int x, l4, l5, l6] S h)) ∧
  (∀ (l0 l1 l2 l4 l5 l6 : Value) (x : Int32) (S : List Value) (h : zH), rn 143 33 [l0, l1, l2, .int x, l4, l5, l6] S h = rn 143 34 [l0, l1, l2, .int x, l4, l5, l6] (.int x :: S) h) ∧
  (∀ (l0 l1 l2 l3 l4 l5 l6 : Value) (S : List Value) (h : zH), rn 143 34 [l0, l1, l2, l3, l4, l5, l6] S h = rn 143 36 [l0, l1, l2, l3, l4, l5, l6] (.int (nI 100) :: S) h) ∧
  (∀ (l0 l1 l2 l3 l4 l5 l6 : Value) (x : Int32) (y : Int32) (S : List Value) (h : zH), rn 143 36 [l0, l1, l2, l3, l4, l5, l6] (.int y :: .int x :: S) h = rn 143 37 [l0, l1, l2, l3, l4, l5, l6] (.int (x * y) :: S) h) ∧
  (∀ (l1 l2 l3 l4 l5 l6 : Value) (x : Int32) (S : List Value) (h : zH), rn 143 37 [.int x, l1, l2, l3, l4, l5, l6] S h = rn 143 38 [.int x, l1, l2, l3, l4, l5, l6] (.int x :: S) h) ∧
  (∀ (l0 l1 l2 l3 l4 l5 l6 : Value) (x : Int32) (y : Int32) (S : List Value) (h : zH), rn 143 38 [l0, l1, l2, l3, l4, l5, l6] (.int y :: .int x :: S) h = rn 143 39 [l0, l1, l2, l3, l4, l5, l6] (.int (x - y) :: S) h) ∧
  (∀ (l0 l1 l2 l3 l4 l5 l6 : Value) (x : Int32) (S : List Value) (h : zH), rn 143 39 [l0, l1, l2, l3, l4, l5, l6] (.int x :: S) h = nl l3 (rn 143 41 [l0, l1, l2, l3, .int x, l5, l6] S h)) ∧
  (∀ (l0 l1 l2 l4 l5 l6 : Value) (x : Int32) (S : List Value) (h : zH), rn 143 41 [l0, l1, l2, .int x, l4, l5, l6] S h = rn 143 42 [l0, l1, l2, .int x, l4, l5, l6] (.int x :: S) h) ∧
  (∀ (l0 l1 l2 l3 l4 l5 l6 : Value) (x : Int32) (S : List Value) (h : zH), rn 143 42 [l0, l1, l2, l3, l4, l5, l6] (.int x :: S) h = rn 143 43 [.int x, l1, l2, l3, l4, l5, l6] S h) ∧
  (∀ (l0 l1 l2 l3 l4 l5 l6 : Value) (S : List Value) (h : zH), rn 143 43 [l0, l1, l2, l3, l4, l5, l6] S h = ldA l2 (rn 143 44 [l0, l1, l2, l3, l4, l5, l6] (l2 :: S) h)) ∧
  (∀ (l0 l1 l2 l3 l4 l6 : Value) (x : Int32) (S : List Value) (h : zH), rn 143 44 [l0, l1, l2, l3, l4, .int x, l6] S h = nl l4 (rn 143 47 [l0, l1, l2, l3, l4, .int (x + (-1)), l6] S h)) ∧
  (∀ (l0 l1 l2 l3 l4 l6 : Value) (x : Int32) (S : List Value) (h : zH), rn 143 47 [l0, l1, l2, l3, l4, .int x, l6] S h = rn 143 49 [l0, l1, l2, l3, l4, .int x, l6] (.int x :: S) h) ∧
  (∀ (l0 l1 l2 l3 l4 l5 l6 : Value) (S : List Value) (h : zH), rn 143 49 [l0, l1, l2, l3, l4, l5, l6] S h = rn 143 52 [l0, l1, l2, l3, l4, l5, l6] (.ref 6 :: S) h) ∧
  (∀ (l0 l1 l2 l3 l5 l6 : Value) (x : Int32) (S : List Value) (h : zH), rn 143 52 [l0, l1, l2, l3, .int x, l5, l6] S h = rn 143 54 [l0, l1, l2, l3, .int x, l5, l6] (.int x :: S) h) ∧
  (∀ (l0 l1 l2 l3 l4 l5 l6 : Value) (a : Nat) (j : Int32) (S : List Value) (h : zH), rn 143 54 [l0, l1, l2, l3, l4, l5, l6] (.int j :: .ref a :: S) h = zli h a 3 j fun x => rn 143 55 [l0, l1, l2, l3, l4, l5, l6] (.int x :: S) h) ∧
  (∀ (l0 l1 l2 l3 l4 l5 l6 : Value) (a : Nat) (j : Int32) (x : Int32) (S : List Value) (h : zH), rn 143 55 [l0, l1, l2, l3, l4, l5, l6] (.int x :: .int j :: .ref a :: S) h = zsi h a 3 j (vp_nar .byte x) fun h => rn 143 56 [l0, l1, l2, l3, l4, l5, l6] S h) ∧
  (∀ (l0 l1 l2 l3 l4 l5 l6 : Value) (S : List Value) (h : zH), rn 143 56 [l0, l1, l2, l3, l4, l5, l6] S h = ldA l2 (rn 143 57 [l0, l1, l2, l3, l4, l5, l6] (l2 :: S) h)) ∧
  (∀ (l0 l1 l2 l3 l4 l6 : Value) (x : Int32) (S : List Value) (h : zH), rn 143 57 [l0, l1, l2, l3, l4, .int x, l6] S h = nl l4 (rn 143 60 [l0, l1, l2, l3, l4, .int (x + (-1)), l6] S h)) ∧
  (∀ (l0 l1 l2 l3 l4 l6 : Value) (x : Int32) (S : List Value) (h : zH), rn 143 60 [l0, l1, l2, l3, l4, .int x, l6] S h = rn 143 62 [l0, l1, l2, l3, l4, .int x, l6] (.int x :: S) h) ∧
  (∀ (l0 l1 l2 l3 l4 l5 l6 : Value) (S : List Value) (h : zH), rn 143 62 [l0, l1, l2, l3, l4, l5, l6] S h = rn 143 65 [l0, l1, l2, l3, l4, l5, l6] (.ref 5 :: S) h) ∧
  (∀ (l0 l1 l2 l3 l5 l6 : Value) (x : Int32) (S : List Value) (h : zH), rn 143 65 [l0, l1, l2, l3, .int x, l5, l6] S h = rn 143 67 [l0, l1, l2, l3, .int x, l5, l6] (.int x :: S) h) ∧
  (∀ (l0 l1 l2 l3 l4 l5 l6 : Value) (a : Nat) (j : Int32) (S : List Value) (h : zH), rn 143 67 [l0, l1, l2, l3, l4, l5, l6] (.int j :: .ref a :: S) h = zli h a 3 j fun x => rn 143 68 [l0, l1, l2, l3, l4, l5, l6] (.int x :: S) h) ∧
  (∀ (l0 l1 l2 l3 l4 l5 l6 : Value) (a : Nat) (j : Int32) (x : Int32) (S : List Value) (h : zH), rn 143 68 [l0, l1, l2, l3, l4, l5, l6] (.int x :: .int j :: .ref a :: S) h = zsi h a 3 j (vp_nar .byte x) fun h => rn 143 69 [l0, l1, l2, l3, l4, l5, l6] S h) ∧
  (∀ (l0 l1 l2 l3 l4 l5 l6 : Value) (S : List Value) (h : zH), rn 143 69 [l0, l1, l2, l3, l4, l5, l6] S h = rn 143 22 [l0, l1, l2, l3, l4, l5, l6] S h) ∧
  (∀ (l0 l1 l2 l3 l4 l5 l6 : Value) (S : List Value) (h : zH), rn 143 72 [l0, l1, l2, l3, l4, l5, l6] S h = ldA l2 (rn 143 73 [l0, l1, l2, l3, l4, l5, l6] (l2 :: S) h)) ∧
  (∀ (l0 l1 l2 l3 l4 l6 : Value) (x : Int32) (S : List Value) (h : zH), rn 143 73 [l0, l1, l2, l3, l4, .int x, l6] S h = nl l4 (rn 143 76 [l0, l1, l2, l3, l4, .int (x + (-1)), l6] S h)) ∧
  (∀ (l0 l1 l2 l3 l4 l6 : Value) (x : Int32) (S : List Value) (h : zH), rn 143 76 [l0, l1, l2, l3, l4, .int x, l6] S h = rn 143 78 [l0, l1, l2, l3, l4, .int x, l6] (.int x :: S) h) ∧
  (∀ (l0 l1 l2 l3 l4 l5 l6 : Value) (S : List Value) (h : zH), rn 143 78 [l0, l1, l2, l3, l4, l5, l6] S h = rn 143 81 [l0, l1, l2, l3, l4, l5, l6] (.ref 6 :: S) h) ∧
  (∀ (l1 l2 l3 l4 l5 l6 : Value) (x : Int32) (S : List Value) (h : zH), rn 143 81 [.int x, l1, l2, l3, l4, l5, l6] S h = rn 143 82 [.int x, l1, l2, l3, l4, l5, l6] (.int x :: S) h) ∧
  (∀ (l0 l1 l2 l3 l4 l5 l6 : Value) (x : Int32) (S : List Value) (h : zH), rn 143 82 [l0, l1, l2, l3, l4, l5, l6] (.int x :: S) h = rn 143 83 [l0, l1, l2, l3, l4, l5, l6] (.int (-x) :: S) h) ∧
  (∀ (l0 l1 l2 l3 l4 l5 l6 : Value) (a : Nat) (j : Int32) (S : List Value) (h : zH), rn 143 83 [l0, l1, l2, l3, l4, l5, l6] (.int j :: .ref a :: S) h = zli h a 3 j fun x => rn 143 84 [l0, l1, l2, l3, l4, l5, l6] (.int x :: S) h) ∧
  (∀ (l0 l1 l2 l3 l4 l5 l6 : Value) (a : Nat) (j : Int32) (x : Int32) (S : List Value) (h : zH), rn 143 84 [l0, l1, l2, l3, l4, l5, l6] (.int x :: .int j :: .ref a :: S) h = zsi h a 3 j (vp_nar .byte x) fun h => rn 143 85 [l0, l1, l2, l3, l4, l5, l6] S h) ∧
  (∀ (l1 l2 l3 l4 l5 l6 : Value) (x : Int32) (S : List Value) (h : zH), rn 143 85 [.int x, l1, l2, l3, l4, l5, l6] S h = rn 143 86 [.int x, l1, l2, l3, l4, l5, l6] (.int x :: S) h) ∧
  (∀ (l0 l1 l2 l3 l4 l5 l6 : Value) (S : List Value) (h : zH), rn 143 86 [l0, l1, l2, l3, l4, l5, l6] S h = rn 143 88 [l0, l1, l2, l3, l4, l5, l6] (.int (-9) :: S) h) ∧
  (∀ (l0 l1 l2 l3 l4 l5 l6 : Value) (x : Int32) (y : Int32) (S : List Value) (h : zH), rn 143 88 [l0, l1, l2, l3, l4, l5, l6] (.int y :: .int x :: S) h = if y ≤ x then rn 143 104 [l0, l1, l2, l3, l4, l5, l6] S h else rn 143 91 [l0, l1, l2, l3, l4, l5, l6] S h) ∧
  (∀ (l0 l1 l2 l3 l4 l5 l6 : Value) (S : List Value) (h : zH), rn 143 91 [l0, l1, l2, l3, l4, l5, l6] S h = ldA l2 (rn 143 92 [l0, l1, l2, l3, l4, l5, l6] (l2 :: S) h)) ∧
  (∀ (l0 l1 l2 l3 l4 l6 : Value) (x : Int32) (S : List Value) (h : zH), rn 143 92 [l0, l1, l2, l3, l4, .int x, l6] S h = nl l4 (rn 143 95 [l0, l1, l2, l3, l4, .int (x + (-1)), l6] S h)) ∧
  (∀ (l0 l1 l2 l3 l4 l6 : Value) (x : Int32) (S : List Value) (h : zH), rn 143 95 [l0, l1, l2, l3, l4, .int x, l6] S h = rn 143 97 [l0, l1, l2, l3, l4, .int x, l6] (.int x :: S) h) ∧
  (∀ (l0 l1 l2 l3 l4 l5 l6 : Value) (S : List Value) (h : zH), rn 143 97 [l0, l1, l2, l3, l4, l5, l6] S h = rn 143 100 [l0, l1, l2, l3, l4, l5, l6] (.ref 5 :: S) h) ∧
  (∀ (l1 l2 l3 l4 l5 l6 : Value) (x : Int32) (S : List Value) (h : zH), rn 143 100 [.int x, l1, l2, l3, l4, l5, l6] S h = rn 143 101 [.int x, l1, l2, l3, l4, l5, l6] (.int x :: S) h) ∧
  (∀ (l0 l1 l2 l3 l4 l5 l6 : Value) (x : Int32) (S : List Value) (h : zH), rn 143 101 [l0, l1, l2, l3, l4, l5, l6] (.int x :: S) h = rn 143 102 [l0, l1, l2, l3, l4, l5, l6] (.int (-x) :: S) h) ∧
  (∀ (l0 l1 l2 l3 l4 l5 l6 : Value) (a : Nat) (j : Int32) (S : List Value) (h : zH), rn 143 102 [l0, l1, l2, l3, l4, l5, l6] (.int j :: .ref a :: S) h = zli h a 3 j fun x => rn 143 103 [l0, l1, l2, l3, l4, l5, l6] (.int x :: S) h) ∧
  (∀ (l0 l1 l2 l3 l4 l5 l6 : Value) (a : Nat) (j : Int32) (x : Int32) (S : List Value) (h : zH), rn 143 103 [l0, l1, l2, l3, l4, l5, l6] (.int x :: .int j :: .ref a :: S) h = zsi h a 3 j (vp_nar .byte x) fun h => rn 143 104 [l0, l1, l2, l3, l4, l5, l6] S h) ∧
  (∀ (l0 l1 l2 l3 l4 l5 : Value) (x : Int32) (S : List Value) (h : zH), rn 143 104 [l0, l1, l2, l3, l4, l5, .int x] S h = rn 143 106 [l0, l1, l2, l3, l4, l5, .int x] (.int x :: S) h) ∧
  (∀ (l0 l1 l2 l3 l4 l5 l6 : Value) (x : Int32) (S : List Value) (h : zH), rn 143 106 [l0, l1, l2, l3, l4, l5, l6] (.int x :: S) h = if x = nI 0 then rn 143 118 [l0, l1, l2, l3, l4, l5, l6] S h else rn 143 109 [l0, l1, l2, l3, l4, l5, l6] S h) ∧
  (∀ (l0 l1 l2 l3 l4 l5 l6 : Value) (S : List Value) (h : zH), rn 143 109 [l0, l1, l2, l3, l4, l5, l6] S h = ldA l2 (rn 143 110 [l0, l1, l2, l3, l4, l5, l6] (l2 :: S) h)) ∧
  (∀ (l0 l1 l2 l3 l4 l6 : Value) (x : Int32) (S : List Value) (h : zH), rn 143 110 [l0, l1, l2, l3, l4, .int x, l6] S h = nl l4 (rn 143 113 [l0, l1, l2, l3, l4, .int (x + (-1)), l6] S h)) ∧
  (∀ (l0 l1 l2 l3 l4 l6 : Value) (x : Int32) (S : List Value) (h : zH), rn 143 113 [l0, l1, l2, l3, l4, .int x, l6] S h = rn 143 115 [l0, l1, l2, l3, l4, .int x, l6] (.int x :: S) h) ∧
  (∀ (l0 l1 l2 l3 l4 l5 l6 : Value) (S : List Value) (h : zH), rn 143 115 [l0, l1, l2, l3, l4, l5, l6] S h = rn 143 117 [l0, l1, l2, l3, l4, l5, l6] (.int (nI 45) :: S) h) ∧
  (∀ (l0 l1 l2 l3 l4 l5 l6 : Value) (a : Nat) (j : Int32) (x : Int32) (S : List Value) (h : zH), rn 143 117 [l0, l1, l2, l3, l4, l5, l6] (.int x :: .int j :: .ref a :: S) h = zsi h a 3 j (vp_nar .byte x) fun h => rn 143 118 [l0, l1, l2, l3, l4, l5, l6] S h) ∧
  (∀ (l0 l1 l2 l3 l4 l6 : Value) (x : Int32) (S : List Value) (h : zH), rn 143 118 [l0, l1, l2, l3, l4, .int x, l6] S h = rn 143 120 [l0, l1, l2, l3, l4, .int x, l6] (.int x :: S) h) ∧
  (∀ (l0 l1 l2 l3 l4 l5 l6 : Value) (x : Int32) (h : zH), rn 143 120 [l0, l1, l2, l3, l4, l5, l6] [.int x] h = some (some (.int x), h)) := ⟨fun _ _ _ _ _ _ _ _ _ => r_iload_n (show zdec 143 0 = some (.iload_n 1, 1) by decide +kernel) rfl rfl,
  fun _ _ _ _ _ _ _ _ _ _ => r_istore (show zdec 143 1 = some (.istore 5, 2) by decide +kernel) rfl (Nat.le_of_ble_eq_true rfl) rfl rfl,
  fun _ _ _ _ _ _ _ _ _ => r_iload_n (show zdec 143 3 = some (.iload_n 0, 1) by decide +kernel) rfl rfl,
  fun _ _ _ _ _ _ _ _ _ _ => r_ifge (show zdec 143 4 = some (.ifCond .ge 7, 3) by decide +kernel) rfl rfl,
  fun _ _ _ _ _ _ _ _ _ => r_iconst (show zdec 143 7 = some (.iconst 1, 1) by decide +kernel) rfl rfl,
  fun _ _ _ _ _ _ _ _ _ => r_goto (show zdec 143 8 = some (.goto 4, 3) by decide +kernel) rfl,
  fun _ _ _ _ _ _ _ _ _ => r_iconst (show zdec 143 11 = some (.iconst 0, 1) by decide +kernel) rfl rfl,
  fun _ _ _ _ _ _ _ _ _ _ => r_istore (show zdec 143 12 = some (.istore 6, 2) by decide +kernel) rfl (Nat.le_of_ble_eq_true rfl) rfl rfl,
  fun _ _ _ _ _ _ _ _ _ => r_iload (show zdec 143 14 = some (.iload 6, 2) by decide +kernel) rfl rfl,
  fun _ _ _ _ _ _ _ _ _ _ => r_ifne (show zdec 143 16 = some (.ifCond .ne 6, 3) by decide +kernel) rfl rfl,
  fun _ _ _ _ _ _ _ _ _ => r_iload_n (show zdec 143 19 = some (.iload_n 0, 1) by decide +kernel) rfl rfl,
  fun _ _ _ _ _ _ _ _ _ _ => r_ineg (show zdec 143 20 = some (.ineg, 1) by decide +kernel) rfl,
  fun _ _ _ _ _ _ _ _ _ _ => r_istore_n0 (show zdec 143 21 = some (.istore_n 0, 1) by decide +kernel) rfl rfl (Nat.le_of_ble_eq_true rfl) rfl,
  fun _ _ _ _ _ _ _ _ _ => r_bipush (show zdec 143 23 = some (.bipush (-100), 2) by decide +kernel) rfl rfl,
  fun _ _ _ _ _ _ _ _ _ _ _ => r_icmpgt (show zdec 143 25 = some (.if_icmp .gt 47, 3) by decide +kernel) rfl rfl,
  fun _ _ _ _ _ _ _ _ _ => r_iload_n (show zdec 143 28 = some (.iload_n 0, 1) by decide +kernel) rfl rfl,
  fun _ _ _ _ _ _ _ _ _ => r_bipush (show zdec 143 29 = some (.bipush 100, 2) by decide +kernel) rfl rfl,
  fun _ _ _ _ _ _ _ _ _ _ _ => r_idiv (show zdec 143 31 = some (.idiv, 1) by decide +kernel) rfl,
  fun _ _ _ _ _ _ _ _ _ _ => r_istore_n (show zdec 143 32 = some (.istore_n 3, 1) by decide +kernel) rfl rfl (Nat.le_of_ble_eq_true rfl) rfl rfl,
  fun _ _ _ _ _ _ _ _ _ => r_iload_n (show zdec 143 33 = some (.iload_n 3, 1) by decide +kernel) rfl rfl,
  fun _ _ _ _ _ _ _ _ _ => r_bipush (show zdec 143 34 = some (.bipush 100, 2) by decide +kernel) rfl rfl,
  fun _ _ _ _ _ _ _ _ _ _ _ => r_imul (show zdec 143 36 = some (.imul, 1) by decide +kernel) rfl,
  fun _ _ _ _ _ _ _ _ _ => r_iload_n (show zdec 143 37 = some (.iload_n 0, 1) by decide +kernel) rfl rfl,
  fun _ _ _ _ _ _ _ _ _ _ _ => r_isub (show zdec 143 38 = some (.isub, 1) by decide +kernel) rfl,
  fun _ _ _ _ _ _ _ _ _ _ => r_istore (show zdec 143 39 = some (.istore 4, 2) by decide +kernel) rfl (Nat.le_of_ble_eq_true rfl) rfl rfl,
  fun _ _ _ _ _ _ _ _ _ => r_iload_n (show zdec 143 41 = some (.iload_n 3, 1) by decide +kernel) rfl rfl,
  fun _ _ _ _ _ _ _ _ _ _ => r_istore_n0 (show zdec 143 42 = some (.istore_n 0, 1) by decide +kernel) rfl rfl (Nat.le_of_ble_eq_true rfl) rfl,
  fun _ _ _ _ _ _ _ _ _ => r_aload_n (show zdec 143 43 = some (.aload_n 2, 1) by decide +kernel) rfl rfl,
  fun _ _ _ _ _ _ _ _ _ => r_iinc (show zdec 143 44 = some (.iinc 5 (-1), 3) by decide +kernel) rfl rfl rfl (Nat.le_of_ble_eq_true rfl) rfl rfl,
  fun _ _ _ _ _ _ _ _ _ => r_iload (show zdec 143 47 = some (.iload 5, 2) by decide +kernel) rfl rfl,
  fun _ _ _ _ _ _ _ _ _ => r_getstatic (show zdec 143 49 = some (.getstatic 83, 3) by decide +kernel) (show zgt.lookup (143 * zKEY + 83) = some 5 by decide +kernel) (by rfl) rfl,
  fun _ _ _ _ _ _ _ _ _ => r_iload (show zdec 143 52 = some (.iload 4, 2) by decide +kernel) rfl rfl,
  fun _ _ _ _ _ _ _ _ _ _ _ => r_bald (show zdec 143 54 = some (.baload, 1) by decide +kernel) rfl,
  fun _ _ _ _ _ _ _ _ _ _ _ _ => r_bast (show zdec 143 55 = some (.bastore, 1) by decide +kernel) rfl,
  fun _ _ _ _ _ _ _ _ _ => r_aload_n (show zdec 143 56 = some (.aload_n 2, 1) by decide +kernel) rfl rfl,
  fun _ _ _ _ _ _ _ _ _ => r_iinc (show zdec 143 57 = some (.iinc 5 (-1), 3) by decide +kernel) rfl rfl rfl (Nat.le_of_ble_eq_true rfl) rfl rfl,
  fun _ _ _ _ _ _ _ _ _ => r_iload (show zdec 143 60 = some (.iload 5, 2) by decide +kernel) rfl rfl,
  fun _ _ _ _ _ _ _ _ _ => r_getstatic (show zdec 143 62 = some (.getstatic 87, 3) by decide +kernel) (show zgt.lookup (143 * zKEY + 87) = some 4 by decide +kernel) (by rfl) rfl,
  fun _ _ _ _ _ _ _ _ _ => r_iload (show zdec 143 65 = some (.iload 4, 2) by decide +kernel) rfl rfl,
  fun _ _ _ _ _ _ _ _ _ _ _ => r_bald (show zdec 143 67 = some (.baload, 1) by decide +kernel) rfl,
  fun _ _ _ _ _ _ _ _ _ _ _ _ => r_bast (show zdec 143 68 = some (.bastore, 1) by decide +kernel) rfl,
  fun _ _ _ _ _ _ _ _ _ => r_goto (show zdec 143 69 = some (.goto (-47), 3) by decide +kernel) rfl,
  fun _ _ _ _ _ _ _ _ _ => r_aload_n (show zdec 143 72 = some (.aload_n 2, 1) by decide +kernel) rfl rfl,
  fun _ _ _ _ _ _ _ _ _ => r_iinc (show zdec 143 73 = some (.iinc 5 (-1), 3) by decide +kernel) rfl rfl rfl (Nat.le_of_ble_eq_true rfl) rfl rfl,
  fun _ _ _ _ _ _ _ _ _ => r_iload (show zdec 143 76 = some (.iload 5, 2) by decide +kernel) rfl rfl,
  fun _ _ _ _ _ _ _ _ _ => r_getstatic (show zdec 143 78 = some (.getstatic 83, 3) by decide +kernel) (show zgt.lookup (143 * zKEY + 83) = some 5 by decide +kernel) (by rfl) rfl,
  fun _ _ _ _ _ _ _ _ _ => r_iload_n (show zdec 143 81 = some (.iload_n 0, 1) by decide +kernel) rfl rfl,
  fun _ _ _ _ _ _ _ _ _ _ => r_ineg (show zdec 143 82 = some (.ineg, 1) by decide +kernel) rfl,
  fun _ _ _ _ _ _ _ _ _ _ _ => r_bald (show zdec 143 83 = some (.baload, 1) by decide +kernel) rfl,
  fun _ _ _ _ _ _ _ _ _ _ _ _ => r_bast (show zdec 143 84 = some (.bastore, 1) by decide +kernel) rfl,
  fun _ _ _ _ _ _ _ _ _ => r_iload_n (show zdec 143 85 = some (.iload_n 0, 1) by decide +kernel) rfl rfl,
  fun _ _ _ _ _ _ _ _ _ => r_bipush (show zdec 143 86 = some (.bipush (-9), 2) by decide +kernel) rfl rfl,
  fun _ _ _ _ _ _ _ _ _ _ _ => r_icmpge (show zdec 143 88 = some (.if_icmp .ge 16, 3) by decide +kernel) rfl rfl,
  fun _ _ _ _ _ _ _ _ _ => r_aload_n (show zdec 143 91 = some (.aload_n 2, 1) by decide +kernel) rfl rfl,
  fun _ _ _ _ _ _ _ _ _ => r_iinc (show zdec 143 92 = some (.iinc 5 (-1), 3) by decide +kernel) rfl rfl rfl (Nat.le_of_ble_eq_true rfl) rfl rfl,
  fun _ _ _ _ _ _ _ _ _ => r_iload (show zdec 143 95 = some (.iload 5, 2) by decide +kernel) rfl rfl,
  fun _ _ _ _ _ _ _ _ _ => r_getstatic (show zdec 143 97 = some (.getstatic 87, 3) by decide +kernel) (show zgt.lookup (143 * zKEY + 87) = some 4 by decide +kernel) (by rfl) rfl,
  fun _ _ _ _ _ _ _ _ _ => r_iload_n (show zdec 143 100 = some (.iload_n 0, 1) by decide +kernel) rfl rfl,
  fun _ _ _ _ _ _ _ _ _ _ => r_ineg (show zdec 143 101 = some (.ineg, 1) by decide +kernel) rfl,
  fun _ _ _ _ _ _ _ _ _ _ _ => r_bald (show zdec 143 102 = some (.baload, 1) by decide +kernel) rfl,
  fun _ _ _ _ _ _ _ _ _ _ _ _ => r_bast (show zdec 143 103 = some (.bastore, 1) by decide +kernel) rfl,
  fun _ _ _ _ _ _ _ _ _ => r_iload (show zdec 143 104 = some (.iload 6, 2) by decide +kernel) rfl rfl,
  fun _ _ _ _ _ _ _ _ _ _ => r_ifeq (show zdec 143 106 = some (.ifCond .eq 12, 3) by decide +kernel) rfl rfl,
  fun _ _ _ _ _ _ _ _ _ => r_aload_n (show zdec 143 109 = some (.aload_n 2, 1) by decide +kernel) rfl rfl,
  fun _ _ _ _ _ _ _ _ _ => r_iinc (show zdec 143 110 = some (.iinc 5 (-1), 3) by decide +kernel) rfl rfl rfl (Nat.le_of_ble_eq_true rfl) rfl rfl,
  fun _ _ _ _ _ _ _ _ _ => r_iload (show zdec 143 113 = some (.iload 5, 2) by decide +kernel) rfl rfl,
  fun _ _ _ _ _ _ _ _ _ => r_bipush (show zdec 143 115 = some (.bipush 45, 2) by decide +kernel) rfl rfl,
  fun _ _ _ _ _ _ _ _ _ _ _ _ => r_bast (show zdec 143 117 = some (.bastore, 1) by decide +kernel) rfl,
  fun _ _ _ _ _ _ _ _ _ => r_iload (show zdec 143 118 = some (.iload 5, 2) by decide +kernel) rfl rfl,
  fun _ _ _ _ _ _ _ _ _ => r_ireti (show zdec 143 120 = some (.ireturn, 1) by decide +kernel) (by decide +kernel)⟩
theorem zl_143_22 : ∀ (l1 l2 l3 l4 l5 l6 : Value) (x : Int32) (S : List Value) (h : zH), rn 143 22 [.int x, l1, l2, l3, l4, l5, l6] S h = rn 143 23 [.int x, l1, l2, l3, l4, l5, l6] (.int x :: S) h := fun _ _ _ _ _ _ _ _ _ => r_iload_n (show zdec 143 22 = some (.iload_n 0, 1) by decide +kernel) rfl rfl
theorem ze_143 : ∀ (a0 : Int32) (a1 : Int32) (a2 : Nat) (h : zH), ev 143 [.int a0, .int a1, .ref a2] h = rn 143 0 [.int a0, .int a1, .ref a2, .float 0, .float 0, .float 0, .float 0] [] h := fun _ _ _ _ => if_pos (Nat.le_of_ble_eq_true rfl)
-- java/lang/StringUTF16.getChars(III[B)I
theorem zr_144 : (∀ (l0 l2 l3 l4 : Value) (x : Int32) (S : List Value) (h : zH), rn 144 0 [l0, .int x, l2, l3, l4] S h = rn 144 1 [l0, .int x, l2, l3, l4] (.int x :: S) h) ∧
  (∀ (l0 l1 l3 l4 : Value) (x : Int32) (S : List Value) (h : zH), rn 144 1 [l0, l1, .int x, l3, l4] S h = rn 144 2 [l0, l1, .int x, l3, l4] (.int x :: S) h) ∧
  (∀ (l0 l1 l2 l3 l4 : Value) (S : List Value) (h : zH), rn 144 2 [l0, l1, l2, l3, l4] S h = ldA l3 (rn 144 3 [l0, l1, l2, l3, l4] (l3 :: S) h)) ∧
  (∀ (l0 l1 l2 l3 l4 : Value) (v0 : Value) (v1 : Value) (v2 : Value) (S : List Value) (h : zH), rn 144 3 [l0, l1, l2, l3, l4] (v2 :: v1 :: v0 :: S) h = if zsum S ≤ 8 then zcall (ev 117 [v0, v1, v2] h) (fun v h => rn 144 6 [l0, l1, l2, l3, l4] (zpush v S) h) else none) ∧
  (∀ (l1 l2 l3 l4 : Value) (x : Int32) (S : List Value) (h : zH), rn 144 6 [.int x, l1, l2, l3, l4] S h = rn 144 7 [.int x, l1, l2, l3, l4] (.int x :: S) h) ∧
  (∀ (l0 l1 l3 l4 : Value) (x : Int32) (S : List Value) (h : zH), rn 144 7 [l0, l1, .int x, l3, l4] S h = rn 144 8 [l0, l1, .int x, l3, l4] (.int x :: S) h) ∧
  (∀ (l0 l1 l2 l3 l4 : Value) (S : List Value) (h : zH), rn 144 8 [l0, l1, l2, l3, l4] S h = ldA l3 (rn 144 9 [l0, l1, l2, l3, l4] (l3 :: S) h)) ∧
  (∀ (l0 l1 l2 l3 l4 : Value) (v0 : Value) (v1 : Value) (v2 : Value) (S : List Value) (h : zH), rn 144 9 [l0, l1, l2, l3, l4] (v2 :: v1 :: v0 :: S) h = if zsum S ≤ 8 then zcall (ev 145 [v0, v1, v2] h) (fun v h => rn 144 12 [l0, l1, l2, l3, l4] (zpush v S) h) else none) ∧
  (∀ (l0 l1 l2 l3 l4 : Value) (x : Int32) (S : List Value) (h : zH), rn 144 12 [l0, l1, l2, l3, l4] (.int x :: S) h = nl l3 (rn 144 14 [l0, l1, l2, l3, .int x] S h)) ∧
  (∀ (l0 l1 l2 l3 l4 : Value) (S : List Value) (h : zH), rn 144 14 [l0, l1, l2, l3, l4] S h = rn 144 17 [l0, l1, l2, l3, l4] (.int 1 :: S) h) ∧
  (∀ (l0 l1 l2 l3 l4 : Value) (x : Int32) (S : List Value) (h : zH), rn 144 17 [l0, l1, l2, l3, l4] (.int x :: S) h = if x = nI 0 then rn 144 20 [l0, l1, l2, l3, l4] S h else rn 144 34 [l0, l1, l2, l3, l4] S h) ∧
  (∀ (l0 l2 l3 l4 : Value) (x : Int32) (S : List Value) (h : zH), rn 144 20 [l0, .int x, l2, l3, l4] S h = rn 144 21 [l0, .int x, l2, l3, l4] (.int x :: S) h) ∧
  (∀ (l0 l1 l2 l3 : Value) (x : Int32) (S : List Value) (h : zH), rn 144 21 [l0, l1, l2, l3, .int x] S h = rn 144 23 [l0, l1, l2, l3, .int x] (.int x :: S) h) ∧
  (∀ (l0 l1 l2 l3 l4 : Value) (x : Int32) (y : Int32) (S : List Value) (h : zH), rn 144 23 [l0, l1, l2, l3, l4] (.int y :: .int x :: S) h = if x = y then rn 144 34 [l0, l1, l2, l3, l4] S h else rn 144 26 [l0, l1, l2, l3, l4] S h) ∧
  (∀ (l0 l1 l2 l3 l4 : Value) (v : Value) (S : List Value) (h : zH), rn 144 29 [l0, l1, l2, l3, l4] (v :: S) h = c1 v (rn 144 30 [l0, l1, l2, l3, l4] (v :: v :: S) h)) ∧
  (∀ (l0 l1 l2 l3 : Value) (x : Int32) (S : List Value) (h : zH), rn 144 34 [l0, l1, l2, l3, .int x] S h = rn 144 36 [l0, l1, l2, l3, .int x] (.int x :: S) h) ∧
  (∀ (l0 l1 l2 l3 l4 : Value) (x : Int32) (h : zH), rn 144 36 [l0, l1, l2, l3, l4] [.int x] h = some (some (.int x), h)) := ⟨fun _ _ _ _ _ _ _ => r_iload_n (show zdec 144 0 = some (.iload_n 1, 1) by decide +kernel) rfl rfl,
  fun _ _ _ _ _ _ _ => r_iload_n (show zdec 144 1 = some (.iload_n 2, 1) by decide +kernel) rfl rfl,
  fun _ _ _ _ _ _ _ => r_aload_n (show zdec 144 2 = some (.aload_n 3, 1) by decide +kernel) rfl rfl,
  fun _ _ _ _ _ _ _ _ _ _ => r_cS [_, _, _] rfl (show zdec 144 3 = some (.invokestatic 96, 3) by decide +kernel) (show zst.lookup (144 * zKEY + 96) = some (0, 117, 3, 0) by decide +kernel) (by decide) rfl,
  fun _ _ _ _ _ _ _ => r_iload_n (show zdec 144 6 = some (.iload_n 0, 1) by decide +kernel) rfl rfl,
  fun _ _ _ _ _ _ _ => r_iload_n (show zdec 144 7 = some (.iload_n 2, 1) by decide +kernel) rfl rfl,
  fun _ _ _ _ _ _ _ => r_aload_n (show zdec 144 8 = some (.aload_n 3, 1) by decide +kernel) rfl rfl,
  fun _ _ _ _ _ _ _ _ _ _ => r_cS [_, _, _] rfl (show zdec 144 9 = some (.invokestatic 393, 3) by decide +kernel) (show zst.lookup (144 * zKEY + 393) = some (0, 145, 3, 0) by decide +kernel) (by decide) rfl,
  fun _ _ _ _ _ _ _ _ => r_istore (show zdec 144 12 = some (.istore 4, 2) by decide +kernel) rfl (Nat.le_of_ble_eq_true rfl) rfl rfl,
  fun _ _ _ _ _ _ _ => r_getstatic (show zdec 144 14 = some (.getstatic 44, 3) by decide +kernel) (show zgt.lookup (144 * zKEY + 44) = some 7 by decide +kernel) (by rfl) rfl,
  fun _ _ _ _ _ _ _ _ => r_ifne (show zdec 144 17 = some (.ifCond .ne 17, 3) by decide +kernel) rfl rfl,
  fun _ _ _ _ _ _ _ => r_iload_n (show zdec 144 20 = some (.iload_n 1, 1) by decide +kernel) rfl rfl,
  fun _ _ _ _ _ _ _ => r_iload (show zdec 144 21 = some (.iload 4, 2) by decide +kernel) rfl rfl,
  fun _ _ _ _ _ _ _ _ _ => r_icmpeq (show zdec 144 23 = some (.if_icmp .eq 11, 3) by decide +kernel) rfl rfl,
  fun _ _ _ _ _ _ _ _ => r_dup (show zdec 144 29 = some (.dup, 1) by decide +kernel) rfl,
  fun _ _ _ _ _ _ _ => r_iload (show zdec 144 34 = some (.iload 4, 2) by decide +kernel) rfl rfl,
  fun _ _ _ _ _ _ _ => r_ireti (show zdec 144 36 = some (.ireturn, 1) by decide +kernel) (by decide +kernel)⟩
theorem ze_144 : ∀ (a0 : Int32) (a1 : Int32) (a2 : Int32) (a3 : Nat) (h : zH), ev 144 [.int a0, .int a1, .int a2, .ref a3] h = rn 144 0 [.int a0, .int a1, .int a2, .ref a3, .float 0] [] h := fun _ _ _ _ _ => if_pos (Nat.le_of_ble_eq_true rfl)
-- java/lang/StringUTF16.getChars(II[B)I
theorem zr_145 : (∀ (l0 l2 l3 l4 l5 l6 : Value) (x : Int32) (S : List Value) (h : zH), rn 145 0 [l0, .int x, l2, l3, l4, l5, l6] S h = rn 145 1 [l0, .int x, l2, l3, l4, l5, l6] (.int x :: S) h) ∧
  (∀ (l0 l1 l2 l3 l4 l5 l6 : Value) (x : Int32) (S : List Value) (h : zH), rn 145 1 [l0, l1, l2, l3, l4, l5, l6] (.int x :: S) h = nl l4 (rn 145 3 [l0, l1, l2, l3, l4, .int x, l6] S h)) ∧
  (∀ (l1 l2 l3 l4 l5 l6 : Value) (x : Int32) (S : List Value) (h : zH), rn 145 3 [.int x, l1, l2, l3, l4, l5, l6] S h = rn 145 4 [.int x, l1, l2, l3, l4, l5, l6] (.int x :: S) h) ∧
  (∀ (l0 l1 l2 l3 l4 l5 l6 : Value) (x : Int32) (S : List Value) (h : zH), rn 145 4 [l0, l1, l2, l3, l4, l5, l6] (.int x :: S) h = if nI 0 ≤ x then rn 145 11 [l0, l1, l2, l3, l4, l5, l6] S h else rn 145 7 [l0, l1, l2, l3, l4, l5, l6] S h) ∧
  (∀ (l0 l1 l2 l3 l4 l5 l6 : Value) (S : List Value) (h : zH), rn 145 7 [l0, l1, l2, l3, l4, l5, l6] S h = rn 145 8 [l0, l1, l2, l3, l4, l5, l6] (.int (nI 1) :: S) h) ∧
  (∀ (l0 l1 l2 l3 l4 l5 l6 : Value) (S : List Value) (h : zH), rn 145 8 [l0, l1, l2, l3, l4, l5, l6] S h = rn 145 12 [l0, l1, l2, l3, l4, l5, l6] S h) ∧
  (∀ (l0 l1 l2 l3 l4 l5 l6 : Value) (S : List Value) (h : zH), rn 145 11 [l0, l1, l2, l3, l4, l5, l6] S h = rn 145 12 [l0, l1, l2, l3, l4, l5, l6] (.int (nI 0) :: S) h) ∧
  (∀ (l0 l1 l2 l3 l4 l5 l6 : Value) (x : Int32) (S : List Value) (h : zH), rn 145 12 [l0, l1, l2, l3, l4, l5, l6] (.int x :: S) h = nl l5 (rn 145 14 [l0, l1, l2, l3, l4, l5, .int x] S h)) ∧
  (∀ (l0 l1 l2 l3 l4 l5 : Value) (x : Int32) (S : List Value) (h : zH), rn 145 14 [l0, l1, l2, l3, l4, l5, .int x] S h = rn 145 16 [l0, l1, l2, l3, l4, l5, .int x] (.int x :: S) h) ∧
  (∀ (l0 l1 l2 l3 l4 l5 l6 : Value) (x : Int32) (S : List Value) (h : zH), rn 145 16 [l0, l1, l2, l3, l4, l5, l6] (.int x :: S) h = if x = nI 0 then rn 145 19 [l0, l1, l2, l3, l4, l5, l6] S h else rn 145 22 [l0, l1, l2, l3, l4, l5, l6] S h) ∧
  (∀ (l1 l2 l3 l4 l5 l6 : Value) (x : Int32) (S : List Value) (h : zH), rn 145 19 [.int x, l1, l2, l3, l4, l5, l6] S h = rn 145 20 [.int x, l1, l2, l3, l4, l5, l6] (.int x :: S) h) ∧
  (∀ (l0 l1 l2 l3 l4 l5 l6 : Value) (x : Int32) (S : List Value) (h : zH), rn 145 20 [l0, l1, l2, l3, l4, l5, l6] (.int x :: S) h = rn 145 21 [l0, l1, l2, l3, l4, l5, l6] (.int (-x) :: S) h) ∧
  (∀ (l0 l1 l2 l3 l4 l5 l6 : Value) (x : Int32) (S : List Value) (h : zH), rn 145 21 [l0, l1, l2, l3, l4, l5, l6] (.int x :: S) h = rn 145 22 [.int x, l1, l2, l3, l4, l5, l6] S h) ∧
  (∀ (l0 l1 l2 l3 l4 l5 l6 : Value) (S : List Value) (h : zH), rn 145 23 [l0, l1, l2, l3, l4, l5, l6] S h = rn 145 25 [l0, l1, l2, l3, l4, l5, l6] (.int (-100) :: S) h) ∧
  (∀ (l0 l1 l2 l3 l4 l5 l6 : Value) (x : Int32) (y : Int32) (S : List Value) (h : zH), rn 145 25 [l0, l1, l2, l3, l4, l5, l6] (.int y :: .int x :: S) h = if y < x then rn 145 76 [l0, l1, l2, l3, l4, l5, l6] S h else rn 145 28 [l0, l1, l2, l3, l4, l5, l6] S h) ∧
  (∀ (l1 l2 l3 l4 l5 l6 : Value) (x : Int32) (S : List Value) (h : zH), rn 145 28 [.int x, l1, l2, l3, l4, l5, l6] S h = rn 145 29 [.int x, l1, l2, l3, l4, l5, l6] (.int x :: S) h) ∧
  (∀ (l0 l1 l2 l3 l4 l5 l6 : Value) (S : List Value) (h : zH), rn 145 29 [l0, l1, l2, l3, l4, l5, l6] S h = rn 145 31 [l0, l1, l2, l3, l4, l5, l6] (.int (nI 100) :: S) h) ∧
  (∀ (l0 l1 l2 l3 l4 l5 l6 : Value) (x : Int32) (y : Int32) (S : List Value) (h : zH), rn 145 31 [l0, l1, l2, l3, l4, l5, l6] (.int y :: .int x :: S) h = dvI y (rn 145 32 [l0, l1, l2, l3, l4, l5, l6] (.int (x / y) :: S) h)) ∧
  (∀ (l0 l1 l2 l3 l4 l5 l6 : Value) (x : Int32) (S : List Value) (h : zH), rn 145 32 [l0, l1, l2, l3, l4, l5, l6] (.int x :: S) h = nl l2 (rn 145 33 [l0, l1, l2, .int x, l4, l5, l6] S h)) ∧
  (∀ (l0 l1 l2 l4 l5 l6 : Value) (x : Int32) (S : List Value) (h : zH), rn 145 33 [l0, l1, l2, .int x, l4, l5, l6] S h = rn 145 34 [l0, l1, l2, .int x, l4, l5, l6] (.int x :: S) h) ∧
  (∀ (l0 l1 l2 l3 l4 l5 l6 : Value) (S : List Value) (h : zH), rn 145 34 [l0, l1, l2, l3, l4, l5, l6] S h = rn 145 36 [l0, l1, l2, l3, l4, l5, l6] (.int (nI 100) :: S) h) ∧
  (∀ (l0 l1 l2 l3 l4 l5 l6 : Value) (x : Int32) (y : Int32) (S : List Value) (h : zH), rn 145 36 [l0, l1, l2, l3, l4, l5, l6] (.int y :: .int x :: S) h = rn 145 37 [l0, l1, l2, l3, l4, l5, l6] (.int (x * y) :: S) h) ∧
  (∀ (l1 l2 l3 l4 l5 l6 : Value) (x : Int32) (S : List Value) (h : zH), rn 145 37 [.int x, l1, l2, l3, l4, l5, l6] S h = rn 145 38 [.int x, l1, l2, l3, l4, l5, l6] (.int x :: S) h) ∧
  (∀ (l0 l1 l2 l3 l4 l5 l6 : Value) (x : Int32) (y : Int32) (S : List Value) (h : zH), rn 145 38 [l0, l1, l2, l3, l4, l5, l6] (.int y :: .int x :: S) h = rn 145 39 [l0, l1, l2, l3, l4, l5, l6] (.int (x - y) :: S) h) ∧
  (∀ (l0 l1 l2 l3 l4 l5 l6 : Value) (x : Int32) (S : List Value) (h : zH), rn 145 39 [l0, l1, l2, l3, l4, l5, l6] (.int x :: S) h = nl l3 (rn 145 41 [l0, l1, l2, l3, .int x, l5, l6] S h)) ∧
  (∀ (l0 l1 l2 l4 l5 l6 : Value) (x : Int32) (S : List Value) (h : zH), rn 145 41 [l0, l1, l2, .int x, l4, l5, l6] S h = rn 145 42 [l0, l1, l2, .int x, l4, l5, l6] (.int x :: S) h) ∧
  (∀ (l0 l1 l2 l3 l4 l5 l6 : Value) (x : Int32) (S : List Value) (h : zH), rn 145 42 [l0, l1, l2, l3, l4, l5, l6] (.int x :: S) h = rn 145 43 [.int x, l1, l2, l3, l4, l5, l6] S h) ∧
  (∀ (l0 l1 l2 l3 l4 l5 l6 : Value) (S : List Value) (h : zH), rn 145 43 [l0, l1, l2, l3, l4, l5, l6] S h = ldA l2 (rn 145 44 [l0, l1, l2, l3, l4, l5, l6] (l2 :: S) h)) ∧
  (∀ (l0 l1 l2 l3 l4 l6 : Value) (x : Int32) (S : List Value) (h : zH), rn 145 44 [l0, l1, l2, l3, l4, .int x, l6] S h = nl l4 (rn 145 47 [l0, l1, l2, l3, l4, .int (x + (-1)), l6] S h)) ∧
  (∀ (l0 l1 l2 l3 l4 l6 : Value) (x : Int32) (S : List Value) (h : zH), rn 145 47 [l0, l1, l2, l3, l4, .int x, l6] S h = rn 145 49 [l0, l1, l2, l3, l4, .int x, l6] (.int x :: S) h) ∧
  (∀ (l0 l1 l2 l3 l4 l5 l6 : Value) (S : List Value) (h : zH), rn 145 49 [l0, l1, l2, l3, l4, l5, l6] S h = rn 145 52 [l0, l1, l2, l3, l4, l5, l6] (.ref 6 :: S) h) ∧
  (∀ (l0 l1 l2 l3 l5 l6 : Value) (x : Int32) (S : List Value) (h : zH), rn 145 52 [l0, l1, l2, l3, .int x, l5, l6] S h = rn 145 54 [l0, l1, l2, l3, .int x, l5, l6] (.int x :: S) h) ∧
  (∀ (l0 l1 l2 l3 l4 l5 l6 : Value) (a : Nat) (j : Int32) (S : List Value) (h : zH), rn 145 54 [l0, l1, l2, l3, l4, l5, l6] (.int j :: .ref a :: S) h = zli h a 3 j fun x => rn 145 55 [l0, l1, l2, l3, l4, l5, l6] (.int x :: S) h) ∧
  (∀ (l0 l1 l2 l3 l4 l5 l6 : Value) (v0 : Value) (v1 : Value) (v2 : Value) (S : List Value) (h : zH), rn 145 55 [l0, l1, l2, l3, l4, l5, l6] (v2 :: v1 :: v0 :: S) h = if zsum S ≤ 8 then zcall (ev 121 [v0, v1, v2] h) (fun v h => rn 145 58 [l0, l1, l2, l3, l4, l5, l6] (zpush v S) h) else none) ∧
  (∀ (l0 l1 l2 l3 l4 l5 l6 : Value) (S : List Value) (h : zH), rn 145 58 [l0, l1, l2, l3, l4, l5, l6] S h = ldA l2 (rn 145 59 [l0, l1, l2, l3, l4, l5, l6] (l2 :: S) h)) ∧
  (∀ (l0 l1 l2 l3 l4 l6 : Value) (x : Int32) (S : List Value) (h : zH), rn 145 59 [l0, l1, l2, l3, l4, .int x, l6] S h = nl l4 (rn 145 62 [l0, l1, l2, l3, l4, .int (x + (-1)), l6] S h)) ∧
  (∀ (l0 l1 l2 l3 l4 l6 : Value) (x : Int32) (S : List Value) (h : zH), rn 145 62 [l0, l1, l2, l3, l4, .int x, l6] S h = rn 145 64 [l0, l1, l2, l3, l4, .int x, l6] (.int x :: S) h) ∧
  (∀ (l0 l1 l2 l3 l4 l5 l6 : Value) (S : List Value) (h : zH), rn 145 64 [l0, l1, l2, l3, l4, l5, l6] S h = rn 145 67 [l0, l1, l2, l3, l4, l5, l6] (.ref 5 :: S) h) ∧
  (∀ (l0 l1 l2 l3 l5 l6 : Value) (x : Int32) (S : List Value) (h : zH), rn 145 67 [l0, l1, l2, l3, .int x, l5, l6] S h = rn 145 69 [l0, l1, l2, l3, .int x, l5, l6] (.int x :: S) h) ∧
  (∀ (l0 l1 l2 l3 l4 l5 l6 : Value) (a : Nat) (j : Int32) (S : List Value) (h : zH), rn 145 69 [l0, l1, l2, l3, l4, l5, l6] (.int j :: .ref a :: S) h = zli h a 3 j fun x => rn 145 70 [l0, l1, l2, l3, l4, l5, l6] (.int x :: S) h) ∧
  (∀ (l0 l1 l2 l3 l4 l5 l6 : Value) (v0 : Value) (v1 : Value) (v2 : Value) (S : List Value) (h : zH), rn 145 70 [l0, l1, l2, l3, l4, l5, l6] (v2 :: v1 :: v0 :: S) h = if zsum S ≤ 8 then zcall (ev 121 [v0, v1, v2] h) (fun v h => rn 145 73 [l0, l1, l2, l3, l4, l5, l6] (zpush v S) h) else none) ∧
  (∀ (l0 l1 l2 l3 l4 l5 l6 : Value) (S : List Value) (h : zH), rn 145 73 [l0, l1, l2, l3, l4, l5, l6] S h = rn 145 22 [l0, l1, l2, l3, l4, l5, l6] S h) ∧
  (∀ (l0 l1 l2 l3 l4 l5 l6 : Value) (S : List Value) (h : zH), rn 145 76 [l0, l1, l2, l3, l4, l5, l6] S h = ldA l2 (rn 145 77 [l0, l1, l2, l3, l4, l5, l6] (l2 :: S) h)) ∧
  (∀ (l0 l1 l2 l3 l4 l6 : Value) (x : Int32) (S : List Value) (h : zH), rn 145 77 [l0, l1, l2, l3, l4, .int x, l6] S h = nl l4 (rn 145 80 [l0, l1, l2, l3, l4, .int (x + (-1)), l6] S h)) ∧
  (∀ (l0 l1 l2 l3 l4 l6 : Value) (x : Int32) (S : List Value) (h : zH), rn 145 80 [l0, l1, l2, l3, l4, .int x, l6] S h = rn 145 82 [l0, l1, l2, l3, l4, .int x, l6] (.int x :: S) h) ∧
  (∀ (l0 l1 l2 l3 l4 l5 l6 : Value) (S : List Value) (h : zH), rn 145 82 [l0, l1, l2, l3, l4, l5, l6] S h = rn 145 85 [l0, l1, l2, l3, l4, l5, l6] (.ref 6 :: S) h) ∧
  (∀ (l1 l2 l3 l4 l5 l6 : Value) (x : Int32) (S : List Value) (h : zH), rn 145 85 [.int x, l1, l2, l3, l4, l5, l6] S h = rn 145 86 [.int x, l1, l2, l3, l4, l5, l6] (.int x :: S) h) ∧
  (∀ (l0 l1 l2 l3 l4 l5 l6 : Value) (x : Int32) (S : List Value) (h : zH), rn 145 86 [l0, l1, l2, l3, l4, l5, l6] (.int x :: S) h = rn 145 87 [l0, l1, l2, l3, l4, l5, l6] (.int (-x) :: S) h) ∧
  (∀ (l0 l1 l2 l3 l4 l5 l6 : Value) (a : Nat) (j : Int32) (S : List Value) (h : zH), rn 145 87 [l0, l1, l2, l3, l4, l5, l6] (.int j :: .ref a :: S) h = zli h a 3 j fun x => rn 145 88 [l0, l1, l2, l3, l4, l5, l6] (.int x :: S) h) ∧
  (∀ (l0 l1 l2 l3 l4 l5 l6 : Value) (v0 : Value) (v1 : Value) (v2 : Value) (S : List Value) (h : zH), rn 145 88 [l0, l1, l2, l3, l4, l5, l6] (v2 :: v1 :: v0 :: S) h = if zsum S ≤ 8 then zcall (ev 121 [v0, v1, v2] h) (fun v h => rn 145 91 [l0, l1, l2, l3, l4, l5, l6] (zpush v S) h) else none) ∧
  (∀ (l1 l2 l3 l4 l5 l6 : Value) (x : Int32) (S : List Value) (h : zH), rn 145 91 [.int x, l1, l2, l3, l4, l5, l6] S h = rn 145 92 [.int x, l1, l2, l3, l4, l5, l6] (.int x :: S) h) ∧
  (∀ (l0 l1 l2 l3 l4 l5 l6 : Value) (S : List Value) (h : zH), rn 145 92 [l0, l1, l2, l3, l4, l5, l6] S h = rn 145 94 [l0, l1, l2, l3, l4, l5, l6] (.int (-9) :: S) h) ∧
  (∀ (l0 l1 l2 l3 l4 l5 l6 : Value) (x : Int32) (y : Int32) (S : List Value) (h : zH), rn 145 94 [l0, l1, l2, l3, l4, l5, l6] (.int y :: .int x :: S) h = if y ≤ x then rn 145 112 [l0, l1, l2, l3, l4, l5, l6] S h else rn 145 97 [l0, l1, l2, l3, l4, l5, l6] S h) ∧
  (∀ (l0 l1 l2 l3 l4 l5 l6 : Value) (S : List Value) (h : zH), rn 145 97 [l0, l1, l2, l3, l4, l5, l6] S h = ldA l2 (rn 145 98 [l0, l1, l2, l3, l4, l5, l6] (l2 :: S) h)) ∧
  (∀ (l0 l1 l2 l3 l4 l6 : Value) (x : Int32) (S : List Value) (h : zH), rn 145 98 [l0, l1, l2, l3, l4, .int x, l6] S h = nl l4 (rn 145 101 [l0, l1, l2, l3, l4, .int (x + (-1)), l6] S h)) ∧
  (∀ (l0 l1 l2 l3 l4 l6 : Value) (x : Int32) (S : List Value) (h : zH), rn 145 101 [l0, l1, l2, l3, l4, .int x, l6] S h = rn 145 103 [l0, l1, l2, l3, l4, .int x, l6] (.int x :: S) h) ∧
  (∀ (l0 l1 l2 l3 l4 l5 l6 : Value) (S : List Value) (h : zH), rn 145 103 [l0, l1, l2, l3, l4, l5, l6] S h = rn 145 106 [l0, l1, l2, l3, l4, l5, l6] (.ref 5 :: S) h) ∧
  (∀ (l1 l2 l3 l4 l5 l6 : Value) (x : Int32) (S : List Value) (h : zH), rn 145 106 [.int x, l1, l2, l3, l4, l5, l6] S h = rn 145 107 [.int x, l1, l2, l3, l4, l5, l6] (.int x :: S) h) ∧
  (∀ (l0 l1 l2 l3 l4 l5 l6 : Value) (x : Int32) (S : List Value) (h : zH), rn 145 107 [l0, l1, l2, l3, l4, l5, l6] (.int x :: S) h = rn 145 108 [l0, l1, l2, l3, l4, l5, l6] (.int (-x) :: S) h) ∧
  (∀ (l0 l1 l2 l3 l4 l5 l6 : Value) (a : Nat) (j : Int32) (S : List Value) (h : zH), rn 145 108 [l0, l1, l2, l3, l4, l5, l6] (.int j :: .ref a :: S) h = zli h a 3 j fun x => rn 145 109 [l0, l1, l2, l3, l4, l5, l6] (.int x :: S) h) ∧
  (∀ (l0 l1 l2 l3 l4 l5 l6 : Value) (v0 : Value) (v1 : Value) (v2 : Value) (S : List Value) (h : zH), rn 145 109 [l0, l1, l2, l3, l4, l5, l6] (v2 :: v1 :: v0 :: S) h = if zsum S ≤ 8 then zcall (ev 121 [v0, v1, v2] h) (fun v h => rn 145 112 [l0, l1, l2, l3, l4, l5, l6] (zpush v S) h) else none) ∧
  (∀ (l0 l1 l2 l3 l4 l5 : Value) (x : Int32) (S : List Value) (h : zH), rn 145 112 [l0, l1, l2, l3, l4, l5, .int x] S h = rn 145 114 [l0, l1, l2, l3, l4, l5, .int x] (.int x :: S) h) ∧
  (∀ (l0 l1 l2 l3 l4 l5 l6 : Value) (x : Int32) (S : List Value) (h : zH), rn 145 114 [l0, l1, l2, l3, l4, l5, l6] (.int x :: S) h = if x = nI 0 then rn 145 128 [l0, l1, l2, l3, l4, l5, l6] S h else rn 145 117 [l0, l1, l2, l3, l4, l5, l6] S h) ∧
  (∀ (l0 l1 l2 l3 l4 l5 l6 : Value) (S : List Value) (h : zH), rn 145 117 [l0, l1, l2, l3, l4, l5, l6] S h = ldA l2 (rn 145 118 [l0, l1, l2, l3, l4, l5, l6] (l2 :: S) h)) ∧
  (∀ (l0 l1 l2 l3 l4 l6 : Value) (x : Int32) (S : List Value) (h : zH), rn 145 118 [l0, l1, l2, l3, l4, .int x, l6] S h = nl l4 (rn 145 121 [l0, l1, l2, l3, l4, .int (x + (-1)), l6] S h)) ∧
  (∀ (l0 l1 l2 l3 l4 l6 : Value) (x : Int32) (S : List Value) (h : zH), rn 145 121 [l0, l1, l2, l3, l4, .int x, l6] S h = rn 145 123 [l0, l1, l2, l3, l4, .int x, l6] (.int x :: S) h) ∧
  (∀ (l0 l1 l2 l3 l4 l5 l6 : Value) (S : List Value) (h : zH), rn 145 123 [l0, l1, l2, l3, l4, l5, l6] S h = rn 145 125 [l0, l1, l2, l3, l4, l5, l6] (.int (nI 45) :: S) h) ∧
  (∀ (l0 l1 l2 l3 l4 l5 l6 : Value) (v0 : Value) (v1 : Value) (v2 : Value) (S : List Value) (h : zH), rn 145 125 [l0, l1, l2, l3, l4, l5, l6] (v2 :: v1 :: v0 :: S) h = if zsum S ≤ 8 then zcall (ev 121 [v0, v1, v2] h) (fun v h => rn 145 128 [l0, l1, l2, l3, l4, l5, l6] (zpush v S) h) else none) ∧
  (∀ (l0 l1 l2 l3 l4 l6 : Value) (x : Int32) (S : List Value) (h : zH), rn 145 128 [l0, l1, l2, l3, l4, .int x, l6] S h = rn 145 130 [l0, l1, l2, l3, l4, .int x, l6] (.int x :: S) h) ∧
  (∀ (l0 l1 l2 l3 l4 l5 l6 : Value) (x : Int32) (h : zH), rn 145 130 [l0, l1, l2, l3, l4, l5, l6] [.int x] h = some (some (.int x), h)) := ⟨fun _ _ _ _ _ _ _ _ _ => r_iload_n (show zdec 145 0 = some (.iload_n 1, 1) by decide +kernel) rfl rfl,
  fun _ _ _ _ _ _ _ _ _ _ => r_istore (show zdec 145 1 = some (.istore 5, 2) by decide +kernel) rfl (Nat.le_of_ble_eq_true rfl) rfl rfl,
  fun _ _ _ _ _ _ _ _ _ => r_iload_n (show zdec 145 3 = some (.iload_n 0, 1) by decide +kernel) rfl rfl,
  fun _ _ _ _ _ _ _ _ _ _ => r_ifge (show zdec 145 4 = some (.ifCond .ge 7, 3) by decide +kernel) rfl rfl,
  fun _ _ _ _ _ _ _ _ _ => r_iconst (show zdec 145 7 = some (.iconst 1, 1) by decide +kernel) rfl rfl,
  fun _ _ _ _ _ _ _ _ _ => r_goto (show zdec 145 8 = some (.goto 4, 3) by decide +kernel) rfl,
  fun _ _ _ _ _ _ _ _ _ => r_iconst (show zdec 145 11 = some (.iconst 0, 1) by decide +kernel) rfl rfl,
  fun _ _ _ _ _ _ _ _ _ _ => r_istore (show zdec 145 12 = some (.istore 6, 2) by decide +kernel) rfl (Nat.le_of_ble_eq_true rfl) rfl rfl,
  fun _ _ _ _ _ _ _ _ _ => r_iload (show zdec 145 14 = some (.iload 6, 2) by decide +kernel) rfl rfl,
  fun _ _ _ _ _ _ _ _ _ _ => r_ifne (show zdec 145 16 = some (.ifCond .ne 6, 3) by decide +kernel) rfl rfl,
  fun _ _ _ _ _ _ _ _ _ => r_iload_n (show zdec 145 19 = some (.iload_n 0, 1) by decide +kernel) rfl rfl,
  fun _ _ _ _ _ _ _ _ _ _ => r_ineg (show zdec 145 20 = some (.ineg, 1) by decide +kernel) rfl,
  fun _ _ _ _ _ _ _ _ _ _ => r_istore_n0 (show zdec 145 21 = some (.istore_n 0, 1) by decide +kernel) rfl rfl (Nat.le_of_ble_eq_true rfl) rfl,
  fun _ _ _ _ _ _ _ _ _ => r_bipush (show zdec 145 23 = some (.bipush (-100), 2) by decide +kernel) rfl rfl,
  fun _ _ _ _ _ _ _ _ _ _ _ => r_icmpgt (show zdec 145 25 = some (.if_icmp .gt 51, 3) by decide +kernel) rfl rfl,
  fun _ _ _ _ _ _ _ _ _ => r_iload_n (show zdec 145 28 = some (.iload_n 0, 1) by decide +kernel) rfl rfl,
  fun _ _ _ _ _ _ _ _ _ => r_bipush (show zdec 145 29 = some (.bipush 100, 2) by decide +kernel) rfl rfl,
  fun _ _ _ _ _ _ _ _ _ _ _ => r_idiv (show zdec 145 31 = some (.idiv, 1) by decide +kernel) rfl,
  fun _ _ _ _ _ _ _ _ _ _ => r_istore_n (show zdec 145 32 = some (.istore_n 3, 1) by decide +kernel) rfl rfl (Nat.le_of_ble_eq_true rfl) rfl rfl,
  fun _ _ _ _ _ _ _ _ _ => r_iload_n (show zdec 145 33 = some (.iload_n 3, 1) by decide +kernel) rfl rfl,
  fun _ _ _ _ _ _ _ _ _ => r_bipush (show zdec 145 34 = some (.bipush 100, 2) by decide +kernel) rfl rfl,
  fun _ _ _ _ _ _ _ _ _ _ _ => r_imul (show zdec 145 36 = some (.imul, 1) by decide +kernel) rfl,
  fun _ _ _ _ _ _ _ _ _ => r_iload_n (show zdec 145 37 = some (.iload_n 0, 1) by decide +kernel) rfl rfl,
  fun _ _ _ _ _ _ _ _ _ _ _ => r_isub (show zdec 145 38 = some (.isub, 1) by decide +kernel) rfl,
  fun _ _ _ _ _ _ _ _ _ _ => r_istore (show zdec 145 39 = some (.istore 4, 2) by decide +kernel) rfl (Nat.le_of_ble_eq_true rfl) rfl rfl,
  fun _ _ _ _ _ _ _ _ _ => r_iload_n (show zdec 145 41 = some (.iload_n 3, 1) by decide +kernel) rfl rfl,
  fun _ _ _ _ _ _ _ _ _ _ => r_istore_n0 (show zdec 145 42 = some (.istore_n 0, 1) by decide +kernel) rfl rfl (Nat.le_of_ble_eq_true rfl) rfl,
  fun _ _ _ _ _ _ _ _ _ => r_aload_n (show zdec 145 43 = some (.aload_n 2, 1) by decide +kernel) rfl rfl,
  fun _ _ _ _ _ _ _ _ _ => r_iinc (show zdec 145 44 = some (.iinc 5 (-1), 3) by decide +kernel) rfl rfl rfl (Nat.le_of_ble_eq_true rfl) rfl rfl,
  fun _ _ _ _ _ _ _ _ _ => r_iload (show zdec 145 47 = some (.iload 5, 2) by decide +kernel) rfl rfl,
  fun _ _ _ _ _ _ _ _ _ => r_getstatic (show zdec 145 49 = some (.getstatic 403, 3) by decide +kernel) (show zgt.lookup (145 * zKEY + 403) = some 5 by decide +kernel) (by rfl) rfl,
  fun _ _ _ _ _ _ _ _ _ => r_iload (show zdec 145 52 = some (.iload 4, 2) by decide +kernel) rfl rfl,
  fun _ _ _ _ _ _ _ _ _ _ _ => r_bald (show zdec 145 54 = some (.baload, 1) by decide +kernel) rfl,
  fun _ _ _ _ _ _ _ _ _ _ _ _ => r_cS [_, _, _] rfl (show zdec 145 55 = some (.invokestatic 111, 3) by decide +kernel) (show zst.lookup (145 * zKEY + 111) = some (0, 121, 3, 0) by decide +kernel) (by decide) rfl,
  fun _ _ _ _ _ _ _ _ _ => r_aload_n (show zdec 145 58 = some (.aload_n 2, 1) by decide +kernel) rfl rfl,
  fun _ _ _ _ _ _ _ _ _ => r_iinc (show zdec 145 59 = some (.iinc 5 (-1), 3) by decide +kernel) rfl rfl rfl (Nat.le_of_ble_eq_true rfl) rfl rfl,
  fun _ _ _ _ _ _ _ _ _ => r_iload (show zdec 145 62 = some (.iload 5, 2) by decide +kernel) rfl rfl,
  fun _ _ _ _ _ _ _ _ _ => r_getstatic (show zdec 145 64 = some (.getstatic 407, 3) by decide +kernel) (show zgt.lookup (145 * zKEY + 407) = some 4 by decide +kernel) (by rfl) rfl,
  fun _ _ _ _ _ _ _ _ _ => r_iload (show zdec 145 67 = some (.iload 4, 2) by decide +kernel) rfl rfl,
  fun _ _ _ _ _ _ _ _ _ _ _ => r_bald (show zdec 145 69 = some (.baload, 1) by decide +kernel) rfl,
  fun _ _ _ _ _ _ _ _ _ _ _ _ => r_cS [_, _, _] rfl (show zdec 145 70 = some (.invokestatic 111, 3) by decide +kernel) (show zst.lookup (145 * zKEY + 111) = some (0, 121, 3, 0) by decide +kernel) (by decide) rfl,
  fun _ _ _ _ _ _ _ _ _ => r_goto (show zdec 145 73 = some (.goto (-51), 3) by decide +kernel) rfl,
  fun _ _ _ _ _ _ _ _ _ => r_aload_n (show zdec 145 76 = some (.aload_n 2, 1) by decide +kernel) rfl rfl,
  fun _ _ _ _ _ _ _ _ _ => r_iinc (show zdec 145 77 = some (.iinc 5 (-1), 3) by decide +kernel) rfl rfl rfl (Nat.le_of_ble_eq_true rfl) rfl rfl,
  fun _ _ _ _ _ _ _ _ _ => r_iload (show zdec 145 80 = some (.iload 5, 2) by decide +kernel) rfl rfl,
  fun _ _ _ _ _ _ _ _ _ => r_getstatic (show zdec 145 82 = some (.getstatic 403, 3) by decide +kernel) (show zgt.lookup (145 * zKEY + 403) = some 5 by decide +kernel) (by rfl) rfl,
  fun _ _ _ _ _ _ _ _ _ => r_iload_n (show zdec 145 85 = some (.iload_n 0, 1) by decide +kernel) rfl rfl,
  fun _ _ _ _ _ _ _ _ _ _ => r_ineg (show zdec 145 86 = some (.ineg, 1) by decide +kernel) rfl,
  fun _ _ _ _ _ _ _ _ _ _ _ => r_bald (show zdec 145 87 = some (.baload, 1) by decide +kernel) rfl,
  fun _ _ _ _ _ _ _ _ _ _ _ _ => r_cS [_, _, _] rfl (show zdec 145 88 = some (.invokestatic 111, 3) by decide +kernel) (show zst.lookup (145 * zKEY + 111) = some (0, 121, 3, 0) by decide +kernel) (by decide) rfl,
  fun _ _ _ _ _ _ _ _ _ => r_iload_n (show zdec 145 91 = some (.iload_n 0, 1) by decide +kernel) rfl rfl,
  fun _ _ _ _ _ _ _ _ _ => r_bipush (show zdec 145 92 = some (.bipush (-9), 2) by decide +kernel) rfl rfl,
  fun _ _ _ _ _ _ _ _ _ _ _ => r_icmpge (show zdec 145 94 = some (.if_icmp .ge 18, 3) by decide +kernel) rfl rfl,
  fun _ _ _ _ _ _ _ _ _ => r_aload_n (show zdec 145 97 = some (.aload_n 2, 1) by decide +kernel) rfl rfl,
  fun _ _ _ _ _ _ _ _ _ => r_iinc (show zdec 145 98 = some (.iinc 5 (-1), 3) by decide +kernel) rfl rfl rfl (Nat.le_of_ble_eq_true rfl) rfl rfl,
  fun _ _ _ _ _ _ _ _ _ => r_iload (show zdec 145 101 = some (.iload 5, 2) by decide +kernel) rfl rfl,
  fun _ _ _ _ _ _ _ _ _ => r_getstatic (show zdec 145 103 = some (.getstatic 407, 3) by decide +kernel) (show zgt.lookup (145 * zKEY + 407) = some 4 by decide +kernel) (by rfl) rfl,
  fun _ _ _ _ _ _ _ _ _ => r_iload_n (show zdec 145 106 = some (.iload_n 0, 1) by decide +kernel) rfl rfl,
  fun _ _ _ _ _ _ _ _ _ _ => r_ineg (show zdec 145 107 = some (.ineg, 1) by decide +kernel) rfl,
  fun _ _ _ _ _ _ _ _ _ _ _ => r_bald (show zdec 145 108 = some (.baload, 1) by decide +kernel) rfl,
  fun _ _ _ _ _ _ _ _ _ _ _ _ => r_cS [_, _, _] rfl (show zdec 145 109 = some (.invokestatic 111, 3) by decide +kernel) (show zst.lookup (145 * zKEY + 111) = some (0, 121, 3, 0) by decide +kernel) (by decide) rfl,
  fun _ _ _ _ _ _ _ _ _ => r_iload (show zdec 145 112 = some (.iload 6, 2) by decide +kernel) rfl rfl,
  fun _ _ _ _ _ _ _ _ _ _ => r_ifeq (show zdec 145 114 = some (.ifCond .eq 14, 3) by decide +kernel) rfl rfl,
  fun _ _ _ _ _ _ _ _ _ => r_aload_n (show zdec 145 117 = some (.aload_n 2, 1) by decide +kernel) rfl rfl,
  fun _ _ _ _ _ _ _ _ _ => r_iinc (show zdec 145 118 = some (.iinc 5 (-1), 3) by decide +kernel) rfl rfl rfl (Nat.le_of_ble_eq_true rfl) rfl rfl,
  fun _ _ _ _ _ _ _ _ _ => r_iload (show zdec 145 121 = some (.iload 5, 2) by decide +kernel) rfl rfl,
  fun _ _ _ _ _ _ _ _ _ => r_bipush (show zdec 145 123 = some (.bipush 45, 2) by decide +kernel) rfl rfl,
  fun _ _ _ _ _ _ _ _ _ _ _ _ => r_cS [_, _, _] rfl (show zdec 145 125 = some (.invokestatic 111, 3) by decide +kernel) (show zst.lookup (145 * zKEY + 111) = some (0, 121, 3, 0) by decide +kernel) (by decide) rfl,
  fun _ _ _ _ _ _ _ _ _ => r_iload (show zdec 145 128 = some (.iload 5, 2) by decide +kernel) rfl rfl,
  fun _ _ _ _ _ _ _ _ _ => r_ireti (show zdec 145 130 = some (.ireturn, 1) by decide +kernel) (by decide +kernel)⟩
theorem zl_145_22 : ∀ (l1 l2 l3 l4 l5 l6 : Value) (x : Int32) (S : List Value) (h : zH), rn 145 22 [.int x, l1, l2, l3, l4, l5, l6] S h = rn 145 23 [.int x, l1, l2, l3, l4, l5, l6] (.int x :: S) h := fun _ _ _ _ _ _ _ _ _ => r_iload_n (show zdec 145 22 = some (.iload_n 0, 1) by decide +kernel) rfl rfl
theorem ze_145 : ∀ (a0 : Int32) (a1 : Int32) (a2 : Nat) (h : zH), ev 145 [.int a0, .int a1, .ref a2] h = rn 145 0 [.int a0, .int a1, .ref a2, .float 0, .float 0, .float 0, .float 0] [] h := fun _ _ _ _ => if_pos (Nat.le_of_ble_eq_true rfl)
-- java/lang/StringBuilder.length()I
theorem zr_149 : (∀ (x : Nat) (S : List Value) (h : zH), rn 149 0 [.ref x] S h = rn 149 1 [.ref x] (.ref x :: S) h) ∧
  (∀ (l0 : Value) (o : Nat) (S : List Value) (h : zH), rn 149 1 [l0] (.ref o :: S) h = if zkd h o = 0 ∧ zsum S ≤ 8 then zcall (ev 150 [.ref o] h) (fun v h => rn 149 4 [l0] (zpush v S) h) else none) ∧
  (∀ (l0 : Value) (x : Int32) (h : zH), rn 149 4 [l0] [.int x] h = some (some (.int x), h)) := ⟨fun _ _ _ => r_aload_nr (show zdec 149 0 = some (.aload_n 0, 1) by decide +kernel) rfl rfl,
  fun _ _ _ _ => r_cU [] rfl (show zdec 149 1 = some (.invokespecial 343, 3) by decide +kernel) (show zst.lookup (149 * zKEY + 343) = some (6, 150, 0, 0) by decide +kernel) rfl,
  fun _ _ _ => r_ireti (show zdec 149 4 = some (.ireturn, 1) by decide +kernel) (by decide +kernel)⟩
theorem ze_149 : ∀ (a0 : Nat) (h : zH), ev 149 [.ref a0] h = rn 149 0 [.ref a0] [] h := fun _ _ => if_pos (Nat.le_of_ble_eq_true rfl)
-- java/lang/AbstractStringBuilder.length()I
theorem zr_150 : (∀ (x : Nat) (S : List Value) (h : zH), rn 150 0 [.ref x] S h = rn 150 1 [.ref x] (.ref x :: S) h) ∧
  (∀ (l0 : Value) (a : Nat) (S : List Value) (h : zH), rn 150 1 [l0] (.ref a :: S) h = zgf h a 0 3 fun v => rn 150 4 [l0] (v :: S) h) ∧
  (∀ (l0 : Value) (x : Int32) (h : zH), rn 150 4 [l0] [.int x] h = some (some (.int x), h)) := ⟨fun _ _ _ => r_aload_nr (show zdec 150 0 = some (.aload_n 0, 1) by decide +kernel) rfl rfl,
  fun _ _ _ _ => r_getfield (show zdec 150 1 = some (.getfield 79, 3) by decide +kernel) (show zft.lookup (150 * zKEY + 79) = some (0, 3) by decide +kernel) rfl,
  fun _ _ _ => r_ireti (show zdec 150 4 = some (.ireturn, 1) by decide +kernel) (by decide +kernel)⟩
theorem ze_150 : ∀ (a0 : Nat) (h : zH), ev 150 [.ref a0] h = rn 150 0 [.ref a0] [] h := fun _ _ => if_pos (Nat.le_of_ble_eq_true rfl)
-- java/lang/StringBuilder.charAt(I)C
theorem zr_151 : (∀ (l1 : Value) (x : Nat) (S : List Value) (h : zH), rn 151 0 [.ref x, l1] S h = rn 151 1 [.ref x, l1] (.ref x :: S) h) ∧
  (∀ (l0 : Value) (x : Int32) (S : List Value) (h : zH), rn 151 1 [l0, .int x] S h = rn 151 2 [l0, .int x] (.int x :: S) h) ∧
  (∀ (l0 l1 : Value) (o : Nat) (v0 : Value) (S : List Value) (h : zH), rn 151 2 [l0, l1] (v0 :: .ref o :: S) h = if zkd h o = 0 ∧ zsum S ≤ 8 then zcall (ev 152 [.ref o, v0] h) (fun v h => rn 151 5 [l0, l1] (zpush v S) h) else none) ∧
  (∀ (l0 l1 : Value) (x : Int32) (h : zH), rn 151 5 [l0, l1] [.int x] h = if decide (narrow .char (.int x) = .int x) = true then some (some (.int x), h) else none) := ⟨fun _ _ _ _ => r_aload_nr (show zdec 151 0 = some (.aload_n 0, 1) by decide +kernel) rfl rfl,
  fun _ _ _ _ => r_iload_n (show zdec 151 1 = some (.iload_n 1, 1) by decide +kernel) rfl rfl,
  fun _ _ _ _ _ _ => r_cU [_] rfl (show zdec 151 2 = some (.invokespecial 329, 3) by decide +kernel) (show zst.lookup (151 * zKEY + 329) = some (6, 152, 1, 0) by decide +kernel) rfl,
  fun _ _ _ _ => r_iretc (show zdec 151 5 = some (.ireturn, 1) by decide +kernel) (by decide +kernel)⟩
theorem ze_151 : ∀ (a0 : Nat) (a1 : Int32) (h : zH), ev 151 [.ref a0, .int a1] h = rn 151 0 [.ref a0, .int a1] [] h := fun _ _ _ => if_pos (Nat.le_of_ble_eq_true rfl)
-- java/lang/AbstractStringBuilder.charAt(I)C
theorem zr_152 : (∀ (l1 l2 l3 l4 : Value) (x : Nat) (S : List Value) (h : zH), rn 152 0 [.ref x, l1, l2, l3, l4] S h = rn 152 1 [.ref x, l1, l2, l3, l4] (.ref x :: S) h) ∧
  (∀ (l0 l1 l2 l3 l4 : Value) (a : Nat) (S : List Value) (h : zH), rn 152 1 [l0, l1, l2, l3, l4] (.ref a :: S) h = zgf h a 0 1 fun v => rn 152 4 [l0, l1, l2, l3, l4] (v :: S) h) ∧
  (∀ (l0 l1 l2 l3 l4 : Value) (x : Int32) (S : List Value) (h : zH), rn 152 4 [l0, l1, l2, l3, l4] (.int x :: S) h = nl l1 (rn 152 5 [l0, l1, .int x, l3, l4] S h)) ∧
  (∀ (l1 l2 l3 l4 : Value) (x : Nat) (S : List Value) (h : zH), rn 152 5 [.ref x, l1, l2, l3, l4] S h = rn 152 6 [.ref x, l1, l2, l3, l4] (.ref x :: S) h) ∧
  (∀ (l0 l1 l2 l3 l4 : Value) (a : Nat) (S : List Value) (h : zH), rn 152 6 [l0, l1, l2, l3, l4] (.ref a :: S) h = zgf h a 0 0 fun v => rn 152 9 [l0, l1, l2, l3, l4] (v :: S) h) ∧
  (∀ (l0 l1 l2 l3 l4 : Value) (v : Value) (S : List Value) (h : zH), rn 152 9 [l0, l1, l2, l3, l4] (v :: S) h = ldA v (nl l2 (rn 152 10 [l0, l1, l2, v, l4] S h))) ∧
  (∀ (l1 l2 l3 l4 : Value) (x : Nat) (S : List Value) (h : zH), rn 152 10 [.ref x, l1, l2, l3, l4] S h = rn 152 11 [.ref x, l1, l2, l3, l4] (.ref x :: S) h) ∧
  (∀ (l0 l1 l2 l3 l4 : Value) (a : Nat) (S : List Value) (h : zH), rn 152 11 [l0, l1, l2, l3, l4] (.ref a :: S) h = zgf h a 0 3 fun v => rn 152 14 [l0, l1, l2, l3, l4] (v :: S) h) ∧
  (∀ (l0 l1 l2 l3 l4 : Value) (S : List Value) (h : zH), rn 152 14 [l0, l1, l2, l3, l4] S h = ldA l3 (rn 152 15 [l0, l1, l2, l3, l4] (l3 :: S) h)) ∧
  (∀ (l0 l1 l2 l3 l4 : Value) (a : Nat) (S : List Value) (h : zH), rn 152 15 [l0, l1, l2, l3, l4] (.ref a :: S) h = zal h a fun x => rn 152 16 [l0, l1, l2, l3, l4] (.int x :: S) h) ∧
  (∀ (l0 l1 l3 l4 : Value) (x : Int32) (S : List Value) (h : zH), rn 152 16 [l0, l1, .int x, l3, l4] S h = rn 152 17 [l0, l1, .int x, l3, l4] (.int x :: S) h) ∧
  (∀ (l0 l1 l2 l3 l4 : Value) (x : Int32) (y : Int32) (S : List Value) (h : zH), rn 152 17 [l0, l1, l2, l3, l4] (.int y :: .int x :: S) h = rn 152 18 [l0, l1, l2, l3, l4] (.int (x >>> (y &&& 31)) :: S) h) ∧
  (∀ (l0 l1 l2 l3 l4 : Value) (x : Int32) (y : Int32) (S : List Value) (h : zH), rn 152 18 [l0, l1, l2, l3, l4] (.int y :: .int x :: S) h = if zsum S ≤ 8 then rn 152 21 [l0, l1, l2, l3, l4] (.int (if y < x then y else x) :: S) h else none) ∧
  (∀ (l0 l1 l2 l3 l4 : Value) (x : Int32) (S : List Value) (h : zH), rn 152 21 [l0, l1, l2, l3, l4] (.int x :: S) h = nl l3 (rn 152 23 [l0, l1, l2, l3, .int x] S h)) ∧
  (∀ (l0 l2 l3 l4 : Value) (x : Int32) (S : List Value) (h : zH), rn 152 23 [l0, .int x, l2, l3, l4] S h = rn 152 24 [l0, .int x, l2, l3, l4] (.int x :: S) h) ∧
  (∀ (l0 l1 l2 l3 : Value) (x : Int32) (S : List Value) (h : zH), rn 152 24 [l0, l1, l2, l3, .int x] S h = rn 152 26 [l0, l1, l2, l3, .int x] (.int x :: S) h) ∧
  (∀ (l0 l1 l2 l3 l4 : Value) (v0 : Value) (v1 : Value) (S : List Value) (h : zH), rn 152 26 [l0, l1, l2, l3, l4] (v1 :: v0 :: S) h = if zsum S ≤ 8 then zcall (ev 138 [v0, v1] h) (fun v h => rn 152 29 [l0, l1, l2, l3, l4] (zpush v S) h) else none) ∧
  (∀ (l0 l1 l3 l4 : Value) (x : Int32) (S : List Value) (h : zH), rn 152 29 [l0, l1, .int x, l3, l4] S h = rn 152 30 [l0, l1, .int x, l3, l4] (.int x :: S) h) ∧
  (∀ (l0 l1 l2 l3 l4 : Value) (x : Int32) (S : List Value) (h : zH), rn 152 30 [l0, l1, l2, l3, l4] (.int x :: S) h = if x = nI 0 then rn 152 33 [l0, l1, l2, l3, l4] S h else rn 152 42 [l0, l1, l2, l3, l4] S h) ∧
  (∀ (l0 l1 l2 l3 l4 : Value) (S : List Value) (h : zH), rn 152 33 [l0, l1, l2, l3, l4] S h = ldA l3 (rn 152 34 [l0, l1, l2, l3, l4] (l3 :: S) h)) ∧
  (∀ (l0 l2 l3 l4 : Value) (x : Int32) (S : List Value) (h : zH), rn 152 34 [l0, .int x, l2, l3, l4] S h = rn 152 35 [l0, .int x, l2, l3, l4] (.int x :: S) h) ∧
  (∀ (l0 l1 l2 l3 l4 : Value) (a : Nat) (j : Int32) (S : List Value) (h : zH), rn 152 35 [l0, l1, l2, l3, l4] (.int j :: .ref a :: S) h = zli h a 3 j fun x => rn 152 36 [l0, l1, l2, l3, l4] (.int x :: S) h) ∧
  (∀ (l0 l1 l2 l3 l4 : Value) (S : List Value) (h : zH), rn 152 36 [l0, l1, l2, l3, l4] S h = rn 152 39 [l0, l1, l2, l3, l4] (.int (nI 255) :: S) h) ∧
  (∀ (l0 l1 l2 l3 l4 : Value) (x : Int32) (y : Int32) (S : List Value) (h : zH), rn 152 39 [l0, l1, l2, l3, l4] (.int y :: .int x :: S) h = rn 152 40 [l0, l1, l2, l3, l4] (.int (x &&& y) :: S) h) ∧
  (∀ (l0 l1 l2 l3 l4 : Value) (x : Int32) (S : List Value) (h : zH), rn 152 40 [l0, l1, l2, l3, l4] (.int x :: S) h = rn 152 41 [l0, l1, l2, l3, l4] (.int (x.toUInt32 % 65536).toInt32 :: S) h) ∧
  (∀ (l0 l1 l2 l3 l4 : Value) (x : Int32) (h : zH), rn 152 41 [l0, l1, l2, l3, l4] [.int x] h = if decide (narrow .char (.int x) = .int x) = true then some (some (.int x), h) else none) ∧
  (∀ (l0 l1 l2 l3 l4 : Value) (S : List Value) (h : zH), rn 152 42 [l0, l1, l2, l3, l4] S h = ldA l3 (rn 152 43 [l0, l1, l2, l3, l4] (l3 :: S) h)) ∧
  (∀ (l0 l2 l3 l4 : Value) (x : Int32) (S : List Value) (h : zH), rn 152 43 [l0, .int x, l2, l3, l4] S h = rn 152 44 [l0, .int x, l2, l3, l4] (.int x :: S) h) ∧
  (∀ (l0 l1 l2 l3 l4 : Value) (v0 : Value) (v1 : Value) (S : List Value) (h : zH), rn 152 44 [l0, l1, l2, l3, l4] (v1 :: v0 :: S) h = if zsum S ≤ 8 then zcall (ev 153 [v0, v1] h) (fun v h => rn 152 47 [l0, l1, l2, l3, l4] (zpush v S) h) else none) ∧
  (∀ (l0 l1 l2 l3 l4 : Value) (x : Int32) (h : zH), rn 152 47 [l0, l1, l2, l3, l4] [.int x] h = if decide (narrow .char (.int x) = .int x) = true then some (some (.int x), h) else none) := ⟨fun _ _ _ _ _ _ _ => r_aload_nr (show zdec 152 0 = some (.aload_n 0, 1) by decide +kernel) rfl rfl,
  fun _ _ _ _ _ _ _ _ => r_getfield (show zdec 152 1 = some (.getfield 22, 3) by decide +kernel) (show zft.lookup (152 * zKEY + 22) = some (0, 1) by decide +kernel) rfl,
  fun _ _ _ _ _ _ _ _ => r_istore_n (show zdec 152 4 = some (.istore_n 2, 1) by decide +kernel) rfl rfl (Nat.le_of_ble_eq_true rfl) rfl rfl,
  fun _ _ _ _ _ _ _ => r_aload_nr (show zdec 152 5 = some (.aload_n 0, 1) by decide +kernel) rfl rfl,
  fun _ _ _ _ _ _ _ _ => r_getfield (show zdec 152 6 = some (.getfield 15, 3) by decide +kernel) (show zft.lookup (152 * zKEY + 15) = some (0, 0) by decide +kernel) rfl,
  fun _ _ _ _ _ _ _ _ => r_astore_n (show zdec 152 9 = some (.astore_n 3, 1) by decide +kernel) rfl rfl (Nat.le_of_ble_eq_true rfl) rfl rfl,
  fun _ _ _ _ _ _ _ => r_aload_nr (show zdec 152 10 = some (.aload_n 0, 1) by decide +kernel) rfl rfl,
  fun _ _ _ _ _ _ _ _ => r_getfield (show zdec 152 11 = some (.getfield 79, 3) by decide +kernel) (show zft.lookup (152 * zKEY + 79) = some (0, 3) by decide +kernel) rfl,
  fun _ _ _ _ _ _ _ => r_aload_n (show zdec 152 14 = some (.aload_n 3, 1) by decide +kernel) rfl rfl,
  fun _ _ _ _ _ _ _ _ => r_alen (show zdec 152 15 = some (.arraylength, 1) by decide +kernel) rfl,
  fun _ _ _ _ _ _ _ => r_iload_n (show zdec 152 16 = some (.iload_n 2, 1) by decide +kernel) rfl rfl,
  fun _ _ _ _ _ _ _ _ _ => r_ishr (show zdec 152 17 = some (.ishr, 1) by decide +kernel) rfl,
  fun _ _ _ _ _ _ _ _ _ => r_cM1 (show zdec 152 18 = some (.invokestatic 138, 3) by decide +kernel) (show zst.lookup (152 * zKEY + 138) = some (9, 28, 2, 1) by decide +kernel) rfl,
  fun _ _ _ _ _ _ _ _ => r_istore (show zdec 152 21 = some (.istore 4, 2) by decide +kernel) rfl (Nat.le_of_ble_eq_true rfl) rfl rfl,
  fun _ _ _ _ _ _ _ => r_iload_n (show zdec 152 23 = some (.iload_n 1, 1) by decide +kernel) rfl rfl,
  fun _ _ _ _ _ _ _ => r_iload (show zdec 152 24 = some (.iload 4, 2) by decide +kernel) rfl rfl,
  fun _ _ _ _ _ _ _ _ _ => r_cS [_, _] rfl (show zdec 152 26 = some (.invokestatic 144, 3) by decide +kernel) (show zst.lookup (152 * zKEY + 144) = some (0, 138, 2, 0) by decide +kernel) (by decide) rfl,
  fun _ _ _ _ _ _ _ => r_iload_n (show zdec 152 29 = some (.iload_n 2, 1) by decide +kernel) rfl rfl,
  fun _ _ _ _ _ _ _ _ => r_ifne (show zdec 152 30 = some (.ifCond .ne 12, 3) by decide +kernel) rfl rfl,
  fun _ _ _ _ _ _ _ => r_aload_n (show zdec 152 33 = some (.aload_n 3, 1) by decide +kernel) rfl rfl,
  fun _ _ _ _ _ _ _ => r_iload_n (show zdec 152 34 = some (.iload_n 1, 1) by decide +kernel) rfl rfl,
  fun _ _ _ _ _ _ _ _ _ => r_bald (show zdec 152 35 = some (.baload, 1) by decide +kernel) rfl,
  fun _ _ _ _ _ _ _ => r_sipush (show zdec 152 36 = some (.sipush 255, 3) by decide +kernel) rfl rfl,
  fun _ _ _ _ _ _ _ _ _ => r_iand (show zdec 152 39 = some (.iand, 1) by decide +kernel) rfl,
  fun _ _ _ _ _ _ _ _ => r_i2c (show zdec 152 40 = some (.i2c, 1) by decide +kernel) rfl,
  fun _ _ _ _ _ _ _ => r_iretc (show zdec 152 41 = some (.ireturn, 1) by decide +kernel) (by decide +kernel),
  fun _ _ _ _ _ _ _ => r_aload_n (show zdec 152 42 = some (.aload_n 3, 1) by decide +kernel) rfl rfl,
  fun _ _ _ _ _ _ _ => r_iload_n (show zdec 152 43 = some (.iload_n 1, 1) by decide +kernel) rfl rfl,
  fun _ _ _ _ _ _ _ _ _ => r_cS [_, _] rfl (show zdec 152 44 = some (.invokestatic 148, 3) by decide +kernel) (show zst.lookup (152 * zKEY + 148) = some (0, 153, 2, 0) by decide +kernel) (by decide) rfl,
  fun _ _ _ _ _ _ _ => r_iretc (show zdec 152 47 = some (.ireturn, 1) by decide +kernel) (by decide +kernel)⟩
theorem ze_152 : ∀ (a0 : Nat) (a1 : Int32) (h : zH), ev 152 [.ref a0, .int a1] h = rn 152 0 [.ref a0, .int a1, .float 0, .float 0, .float 0] [] h := fun _ _ _ => if_pos (Nat.le_of_ble_eq_true rfl)
-- java/lang/StringUTF16.getChar([BI)C
theorem zr_153 : (∀ (l0 l1 : Value) (S : List Value) (h : zH), rn 153 0 [l0, l1] S h = rn 153 3 [l0, l1] (.int 1 :: S) h) ∧
  (∀ (l0 l1 : Value) (x : Int32) (S : List Value) (h : zH), rn 153 3 [l0, l1] (.int x :: S) h = if x = nI 0 then rn 153 6 [l0, l1] S h else rn 153 28 [l0, l1] S h) ∧
  (∀ (l0 : Value) (x : Int32) (S : List Value) (h : zH), rn 153 6 [l0, .int x] S h = rn 153 7 [l0, .int x] (.int x :: S) h) ∧
  (∀ (l0 l1 : Value) (x : Int32) (S : List Value) (h : zH), rn 153 7 [l0, l1] (.int x :: S) h = if x < nI 0 then rn 153 18 [l0, l1] S h else rn 153 10 [l0, l1] S h) ∧
  (∀ (l0 : Value) (x : Int32) (S : List Value) (h : zH), rn 153 10 [l0, .int x] S h = rn 153 11 [l0, .int x] (.int x :: S) h) ∧
  (∀ (l0 l1 : Value) (S : List Value) (h : zH), rn 153 11 [l0, l1] S h = ldA l0 (rn 153 12 [l0, l1] (l0 :: S) h)) ∧
  (∀ (l0 l1 : Value) (v0 : Value) (S : List Value) (h : zH), rn 153 12 [l0, l1] (v0 :: S) h = if zsum S ≤ 8 then zcall (ev 118 [v0] h) (fun v h => rn 153 15 [l0, l1] (zpush v S) h) else none) ∧
  (∀ (l0 l1 : Value) (x : Int32) (y : Int32) (S : List Value) (h : zH), rn 153 15 [l0, l1] (.int y :: .int x :: S) h = if x < y then rn 153 28 [l0, l1] S h else rn 153 18 [l0, l1] S h) ∧
  (∀ (l0 l1 : Value) (v : Value) (S : List Value) (h : zH), rn 153 21 [l0, l1] (v :: S) h = c1 v (rn 153 22 [l0, l1] (v :: v :: S) h)) ∧
  (∀ (l0 : Value) (x : Int32) (S : List Value) (h : zH), rn 153 28 [l0, .int x] S h = rn 153 29 [l0, .int x] (.int x :: S) h) ∧
  (∀ (l0 l1 : Value) (S : List Value) (h : zH), rn 153 29 [l0, l1] S h = rn 153 30 [l0, l1] (.int (nI 1) :: S) h) ∧
  (∀ (l0 l1 : Value) (x : Int32) (y : Int32) (S : List Value) (h : zH), rn 153 30 [l0, l1] (.int y :: .int x :: S) h = rn 153 31 [l0, l1] (.int (x <<< (y &&& 31)) :: S) h) ∧
  (∀ (l0 l1 : Value) (x : Int32) (S : List Value) (h : zH), rn 153 31 [l0, l1] (.int x :: S) h = nl l0 (rn 153 32 [l0, .int x] S h)) ∧
  (∀ (l0 l1 : Value) (S : List Value) (h : zH), rn 153 32 [l0, l1] S h = ldA l0 (rn 153 33 [l0, l1] (l0 :: S) h)) ∧
  (∀ (l0 : Value) (x : Int32) (S : List Value) (h : zH), rn 153 33 [l0, .int x] S h = rn 153 34 [l0, .int x] (.int x :: S) h) ∧
  (∀ (l0 : Value) (x : Int32) (S : List Value) (h : zH), rn 153 34 [l0, .int x] S h = nl l0 (rn 153 37 [l0, .int (x + (nI 1))] S h)) ∧
  (∀ (l0 l1 : Value) (a : Nat) (j : Int32) (S : List Value) (h : zH), rn 153 37 [l0, l1] (.int j :: .ref a :: S) h = zli h a 3 j fun x => rn 153 38 [l0, l1] (.int x :: S) h) ∧
  (∀ (l0 l1 : Value) (S : List Value) (h : zH), rn 153 38 [l0, l1] S h = rn 153 41 [l0, l1] (.int (nI 255) :: S) h) ∧
  (∀ (l0 l1 : Value) (x : Int32) (y : Int32) (S : List Value) (h : zH), rn 153 41 [l0, l1] (.int y :: .int x :: S) h = rn 153 42 [l0, l1] (.int (x &&& y) :: S) h) ∧
  (∀ (l0 l1 : Value) (S : List Value) (h : zH), rn 153 42 [l0, l1] S h = rn 153 45 [l0, l1] (.int 0 :: S) h) ∧
  (∀ (l0 l1 : Value) (x : Int32) (y : Int32) (S : List Value) (h : zH), rn 153 45 [l0, l1] (.int y :: .int x :: S) h = rn 153 46 [l0, l1] (.int (x <<< (y &&& 31)) :: S) h) ∧
  (∀ (l0 l1 : Value) (S : List Value) (h : zH), rn 153 46 [l0, l1] S h = ldA l0 (rn 153 47 [l0, l1] (l0 :: S) h)) ∧
  (∀ (l0 : Value) (x : Int32) (S : List Value) (h : zH), rn 153 47 [l0, .int x] S h = rn 153 48 [l0, .int x] (.int x :: S) h) ∧
  (∀ (l0 l1 : Value) (a : Nat) (j : Int32) (S : List Value) (h : zH), rn 153 48 [l0, l1] (.int j :: .ref a :: S) h = zli h a 3 j fun x => rn 153 49 [l0, l1] (.int x :: S) h) ∧
  (∀ (l0 l1 : Value) (S : List Value) (h : zH), rn 153 49 [l0, l1] S h = rn 153 52 [l0, l1] (.int (nI 255) :: S) h) ∧
  (∀ (l0 l1 : Value) (x : Int32) (y : Int32) (S : List Value) (h : zH), rn 153 52 [l0, l1] (.int y :: .int x :: S) h = rn 153 53 [l0, l1] (.int (x &&& y) :: S) h) ∧
  (∀ (l0 l1 : Value) (S : List Value) (h : zH), rn 153 53 [l0, l1] S h = rn 153 56 [l0, l1] (.int 8 :: S) h) ∧
  (∀ (l0 l1 : Value) (x : Int32) (y : Int32) (S : List Value) (h : zH), rn 153 56 [l0, l1] (.int y :: .int x :: S) h = rn 153 57 [l0, l1] (.int (x <<< (y &&& 31)) :: S) h) ∧
  (∀ (l0 l1 : Value) (x : Int32) (y : Int32) (S : List Value) (h : zH), rn 153 57 [l0, l1] (.int y :: .int x :: S) h = rn 153 58 [l0, l1] (.int (x ||| y) :: S) h) ∧
  (∀ (l0 l1 : Value) (x : Int32) (S : List Value) (h : zH), rn 153 58 [l0, l1] (.int x :: S) h = rn 153 59 [l0, l1] (.int (x.toUInt32 % 65536).toInt32 :: S) h) ∧
  (∀ (l0 l1 : Value) (x : Int32) (h : zH), rn 153 59 [l0, l1] [.int x] h = if decide (narrow .char (.int x) = .int x) = true then some (some (.int x), h) else none) := ⟨fun _ _ _ _ => r_getstatic (show zdec 153 0 = some (.getstatic 44, 3) by decide +kernel) (show zgt.lookup (153 * zKEY + 44) = some 7 by decide +kernel) (by rfl) rfl,
  fun _ _ _ _ _ => r_ifne (show zdec 153 3 = some (.ifCond .ne 25, 3) by decide +kernel) rfl rfl,
  fun _ _ _ _ => r_iload_n (show zdec 153 6 = some (.iload_n 1, 1) by decide +kernel) rfl rfl,
  fun _ _ _ _ _ => r_iflt (show zdec 153 7 = some (.ifCond .lt 11, 3) by decide +kernel) rfl rfl,
  fun _ _ _ _ => r_iload_n (show zdec 153 10 = some (.iload_n 1, 1) by decide +kernel) rfl rfl,
  fun _ _ _ _ => r_aload_n (show zdec 153 11 = some (.aload_n 0, 1) by decide +kernel) rfl rfl,
  fun _ _ _ _ _ => r_cS [_] rfl (show zdec 153 12 = some (.invokestatic 48, 3) by decide +kernel) (show zst.lookup (153 * zKEY + 48) = some (0, 118, 1, 0) by decide +kernel) (by decide) rfl,
  fun _ _ _ _ _ _ => r_icmplt (show zdec 153 15 = some (.if_icmp .lt 13, 3) by decide +kernel) rfl rfl,
  fun _ _ _ _ _ => r_dup (show zdec 153 21 = some (.dup, 1) by decide +kernel) rfl,
  fun _ _ _ _ => r_iload_n (show zdec 153 28 = some (.iload_n 1, 1) by decide +kernel) rfl rfl,
  fun _ _ _ _ => r_iconst (show zdec 153 29 = some (.iconst 1, 1) by decide +kernel) rfl rfl,
  fun _ _ _ _ _ _ => r_ishl (show zdec 153 30 = some (.ishl, 1) by decide +kernel) rfl,
  fun _ _ _ _ _ => r_istore_n (show zdec 153 31 = some (.istore_n 1, 1) by decide +kernel) rfl rfl (Nat.le_of_ble_eq_true rfl) rfl rfl,
  fun _ _ _ _ => r_aload_n (show zdec 153 32 = some (.aload_n 0, 1) by decide +kernel) rfl rfl,
  fun _ _ _ _ => r_iload_n (show zdec 153 33 = some (.iload_n 1, 1) by decide +kernel) rfl rfl,
  fun _ _ _ _ => r_iinc (show zdec 153 34 = some (.iinc 1 1, 3) by decide +kernel) rfl rfl rfl (Nat.le_of_ble_eq_true rfl) rfl rfl,
  fun _ _ _ _ _ _ => r_bald (show zdec 153 37 = some (.baload, 1) by decide +kernel) rfl,
  fun _ _ _ _ => r_sipush (show zdec 153 38 = some (.sipush 255, 3) by decide +kernel) rfl rfl,
  fun _ _ _ _ _ _ => r_iand (show zdec 153 41 = some (.iand, 1) by decide +kernel) rfl,
  fun _ _ _ _ => r_getstatic (show zdec 153 42 = some (.getstatic 59, 3) by decide +kernel) (show zgt.lookup (153 * zKEY + 59) = some 8 by decide +kernel) (by rfl) rfl,
  fun _ _ _ _ _ _ => r_ishl (show zdec 153 45 = some (.ishl, 1) by decide +kernel) rfl,
  fun _ _ _ _ => r_aload_n (show zdec 153 46 = some (.aload_n 0, 1) by decide +kernel) rfl rfl,
  fun _ _ _ _ => r_iload_n (show zdec 153 47 = some (.iload_n 1, 1) by decide +kernel) rfl rfl,
  fun _ _ _ _ _ _ => r_bald (show zdec 153 48 = some (.baload, 1) by decide +kernel) rfl,
  fun _ _ _ _ => r_sipush (show zdec 153 49 = some (.sipush 255, 3) by decide +kernel) rfl rfl,
  fun _ _ _ _ _ _ => r_iand (show zdec 153 52 = some (.iand, 1) by decide +kernel) rfl,
  fun _ _ _ _ => r_getstatic (show zdec 153 53 = some (.getstatic 63, 3) by decide +kernel) (show zgt.lookup (153 * zKEY + 63) = some 9 by decide +kernel) (by rfl) rfl,
  fun _ _ _ _ _ _ => r_ishl (show zdec 153 56 = some (.ishl, 1) by decide +kernel) rfl,
  fun _ _ _ _ _ _ => r_ior (show zdec 153 57 = some (.ior, 1) by decide +kernel) rfl,
  fun _ _ _ _ _ => r_i2c (show zdec 153 58 = some (.i2c, 1) by decide +kernel) rfl,
  fun _ _ _ _ => r_iretc (show zdec 153 59 = some (.ireturn, 1) by decide +kernel) (by decide +kernel)⟩
theorem ze_153 : ∀ (a0 : Nat) (a1 : Int32) (h : zH), ev 153 [.ref a0, .int a1] h = rn 153 0 [.ref a0, .int a1] [] h := fun _ _ _ => if_pos (Nat.le_of_ble_eq_true rfl)
-- java/lang/String.charAt(I)C
theorem zr_189 : (∀ (l1 : Value) (x : Nat) (S : List Value) (h : zH), rn 189 0 [.ref x, l1] S h = rn 189 1 [.ref x, l1] (.ref x :: S) h) ∧
  (∀ (l0 l1 : Value) (o : Nat) (S : List Value) (h : zH), rn 189 1 [l0, l1] (.ref o :: S) h = if zkd h o = 13 ∧ zsum S ≤ 8 then zcall (ev 190 [.ref o] h) (fun v h => rn 189 4 [l0, l1] (zpush v S) h) else none) ∧
  (∀ (l0 l1 : Value) (x : Int32) (S : List Value) (h : zH), rn 189 4 [l0, l1] (.int x :: S) h = if x = nI 0 then rn 189 16 [l0, l1] S h else rn 189 7 [l0, l1] S h) ∧
  (∀ (l1 : Value) (x : Nat) (S : List Value) (h : zH), rn 189 7 [.ref x, l1] S h = rn 189 8 [.ref x, l1] (.ref x :: S) h) ∧
  (∀ (l0 l1 : Value) (a : Nat) (S : List Value) (h : zH), rn 189 8 [l0, l1] (.ref a :: S) h = zgf h a 13 0 fun v => rn 189 11 [l0, l1] (v :: S) h) ∧
  (∀ (l0 : Value) (x : Int32) (S : List Value) (h : zH), rn 189 11 [l0, .int x] S h = rn 189 12 [l0, .int x] (.int x :: S) h) ∧
  (∀ (l0 l1 : Value) (v0 : Value) (v1 : Value) (S : List Value) (h : zH), rn 189 12 [l0, l1] (v1 :: v0 :: S) h = if zsum S ≤ 8 then zcall (ev 191 [v0, v1] h) (fun v h => rn 189 15 [l0, l1] (zpush v S) h) else none) ∧
  (∀ (l0 l1 : Value) (x : Int32) (h : zH), rn 189 15 [l0, l1] [.int x] h = if decide (narrow .char (.int x) = .int x) = true then some (some (.int x), h) else none) ∧
  (∀ (l1 : Value) (x : Nat) (S : List Value) (h : zH), rn 189 16 [.ref x, l1] S h = rn 189 17 [.ref x, l1] (.ref x :: S) h) ∧
  (∀ (l0 l1 : Value) (a : Nat) (S : List Value) (h : zH), rn 189 17 [l0, l1] (.ref a :: S) h = zgf h a 13 0 fun v => rn 189 20 [l0, l1] (v :: S) h) ∧
  (∀ (l0 : Value) (x : Int32) (S : List Value) (h : zH), rn 189 20 [l0, .int x] S h = rn 189 21 [l0, .int x] (.int x :: S) h) ∧
  (∀ (l0 l1 : Value) (v0 : Value) (v1 : Value) (S : List Value) (h : zH), rn 189 21 [l0, l1] (v1 :: v0 :: S) h = if zsum S ≤ 8 then zcall (ev 192 [v0, v1] h) (fun v h => rn 189 24 [l0, l1] (zpush v S) h) else none) ∧
  (∀ (l0 l1 : Value) (x : Int32) (h : zH), rn 189 24 [l0, l1] [.int x] h = if decide (narrow .char (.int x) = .int x) = true then some (some (.int x), h) else none) := ⟨fun _ _ _ _ => r_aload_nr (show zdec 189 0 = some (.aload_n 0, 1) by decide +kernel) rfl rfl,
  fun _ _ _ _ _ => r_cV [] rfl (show zdec 189 1 = some (.invokevirtual 492, 3) by decide +kernel) (show zst.lookup (189 * zKEY + 492) = some (1, 190, 0, 13) by decide +kernel) (by decide) rfl,
  fun _ _ _ _ _ => r_ifeq (show zdec 189 4 = some (.ifCond .eq 12, 3) by decide +kernel) rfl rfl,
  fun _ _ _ _ => r_aload_nr (show zdec 189 7 = some (.aload_n 0, 1) by decide +kernel) rfl rfl,
  fun _ _ _ _ _ => r_getfield (show zdec 189 8 = some (.getfield 9, 3) by decide +kernel) (show zft.lookup (189 * zKEY + 9) = some (13, 0) by decide +kernel) rfl,
  fun _ _ _ _ => r_iload_n (show zdec 189 11 = some (.iload_n 1, 1) by decide +kernel) rfl rfl,
  fun _ _ _ _ _ _ => r_cS [_, _] rfl (show zdec 189 12 = some (.invokestatic 495, 3) by decide +kernel) (show zst.lookup (189 * zKEY + 495) = some (0, 191, 2, 0) by decide +kernel) (by decide) rfl,
  fun _ _ _ _ => r_iretc (show zdec 189 15 = some (.ireturn, 1) by decide +kernel) (by decide +kernel),
  fun _ _ _ _ => r_aload_nr (show zdec 189 16 = some (.aload_n 0, 1) by decide +kernel) rfl rfl,
  fun _ _ _ _ _ => r_getfield (show zdec 189 17 = some (.getfield 9, 3) by decide +kernel) (show zft.lookup (189 * zKEY + 9) = some (13, 0) by decide +kernel) rfl,
  fun _ _ _ _ => r_iload_n (show zdec 189 20 = some (.iload_n 1, 1) by decide +kernel) rfl rfl,
  fun _ _ _ _ _ _ => r_cS [_, _] rfl (show zdec 189 21 = some (.invokestatic 498, 3) by decide +kernel) (show zst.lookup (189 * zKEY + 498) = some (0, 192, 2, 0) by decide +kernel) (by decide) rfl,
  fun _ _ _ _ => r_iretc (show zdec 189 24 = some (.ireturn, 1) by decide +kernel) (by decide +kernel)⟩
theorem ze_189 : ∀ (a0 : Nat) (a1 : Int32) (h : zH), ev 189 [.ref a0, .int a1] h = rn 189 0 [.ref a0, .int a1] [] h := fun _ _ _ => if_pos (Nat.le_of_ble_eq_true rfl)
-- java/lang/String.isLatin1()Z
theorem zr_190 : (∀ (l0 : Value) (S : List Value) (h : zH), rn 190 0 [l0] S h = rn 190 3 [l0] (.int 1 :: S) h) ∧
  (∀ (l0 : Value) (x : Int32) (S : List Value) (h : zH), rn 190 3 [l0] (.int x :: S) h = if x = nI 0 then rn 190 17 [l0] S h else rn 190 6 [l0] S h) ∧
  (∀ (x : Nat) (S : List Value) (h : zH), rn 190 6 [.ref x] S h = rn 190 7 [.ref x] (.ref x :: S) h) ∧
  (∀ (l0 : Value) (a : Nat) (S : List Value) (h : zH), rn 190 7 [l0] (.ref a :: S) h = zgf h a 13 1 fun v => rn 190 10 [l0] (v :: S) h) ∧
  (∀ (l0 : Value) (x : Int32) (S : List Value) (h : zH), rn 190 10 [l0] (.int x :: S) h = if x = nI 0 then rn 190 13 [l0] S h else rn 190 17 [l0] S h) ∧
  (∀ (l0 : Value) (S : List Value) (h : zH), rn 190 13 [l0] S h = rn 190 14 [l0] (.int (nI 1) :: S) h) ∧
  (∀ (l0 : Value) (S : List Value) (h : zH), rn 190 14 [l0] S h = rn 190 18 [l0] S h) ∧
  (∀ (l0 : Value) (S : List Value) (h : zH), rn 190 17 [l0] S h = rn 190 18 [l0] (.int (nI 0) :: S) h) ∧
  (∀ (l0 : Value) (x : Int32) (h : zH), rn 190 18 [l0] [.int x] h = if x = nI 0 ∨ x = nI 1 then some (some (.int x), h) else none) := ⟨fun _ _ _ => r_getstatic (show zdec 190 0 = some (.getstatic 38, 3) by decide +kernel) (show zgt.lookup (190 * zKEY + 38) = some 6 by decide +kernel) (by rfl) rfl,
  fun _ _ _ _ => r_ifeq (show zdec 190 3 = some (.ifCond .eq 14, 3) by decide +kernel) rfl rfl,
  fun _ _ _ => r_aload_nr (show zdec 190 6 = some (.aload_n 0, 1) by decide +kernel) rfl rfl,
  fun _ _ _ _ => r_getfield (show zdec 190 7 = some (.getfield 15, 3) by decide +kernel) (show zft.lookup (190 * zKEY + 15) = some (13, 1) by decide +kernel) rfl,
  fun _ _ _ _ => r_ifne (show zdec 190 10 = some (.ifCond .ne 7, 3) by decide +kernel) rfl rfl,
  fun _ _ _ => r_iconst (show zdec 190 13 = some (.iconst 1, 1) by decide +kernel) rfl rfl,
  fun _ _ _ => r_goto (show zdec 190 14 = some (.goto 4, 3) by decide +kernel) rfl,
  fun _ _ _ => r_iconst (show zdec 190 17 = some (.iconst 0, 1) by decide +kernel) rfl rfl,
  fun _ _ _ => r_iretb (show zdec 190 18 = some (.ireturn, 1) by decide +kernel) (by decide +kernel)⟩
theorem ze_190 : ∀ (a0 : Nat) (h : zH), ev 190 [.ref a0] h = rn 190 0 [.ref a0] [] h := fun _ _ => if_pos (Nat.le_of_ble_eq_true rfl)
-- java/lang/StringLatin1.charAt([BI)C
theorem zr_191 : (∀ (l0 : Value) (x : Int32) (S : List Value) (h : zH), rn 191 0 [l0, .int x] S h = rn 191 1 [l0, .int x] (.int x :: S) h) ∧
  (∀ (l0 l1 : Value) (S : List Value) (h : zH), rn 191 1 [l0, l1] S h = ldA l0 (rn 191 2 [l0, l1] (l0 :: S) h)) ∧
  (∀ (l0 l1 : Value) (a : Nat) (S : List Value) (h : zH), rn 191 2 [l0, l1] (.ref a :: S) h = zal h a fun x => rn 191 3 [l0, l1] (.int x :: S) h) ∧
  (∀ (l0 l1 : Value) (v0 : Value) (v1 : Value) (S : List Value) (h : zH), rn 191 3 [l0, l1] (v1 :: v0 :: S) h = if zsum S ≤ 8 then zcall (ev 138 [v0, v1] h) (fun v h => rn 191 6 [l0, l1] (zpush v S) h) else none) ∧
  (∀ (l0 l1 : Value) (S : List Value) (h : zH), rn 191 6 [l0, l1] S h = ldA l0 (rn 191 7 [l0, l1] (l0 :: S) h)) ∧
  (∀ (l0 : Value) (x : Int32) (S : List Value) (h : zH), rn 191 7 [l0, .int x] S h = rn 191 8 [l0, .int x] (.int x :: S) h) ∧
  (∀ (l0 l1 : Value) (a : Nat) (j : Int32) (S : List Value) (h : zH), rn 191 8 [l0, l1] (.int j :: .ref a :: S) h = zli h a 3 j fun x => rn 191 9 [l0, l1] (.int x :: S) h) ∧
  (∀ (l0 l1 : Value) (S : List Value) (h : zH), rn 191 9 [l0, l1] S h = rn 191 12 [l0, l1] (.int (nI 255) :: S) h) ∧
  (∀ (l0 l1 : Value) (x : Int32) (y : Int32) (S : List Value) (h : zH), rn 191 12 [l0, l1] (.int y :: .int x :: S) h = rn 191 13 [l0, l1] (.int (x &&& y) :: S) h) ∧
  (∀ (l0 l1 : Value) (x : Int32) (S : List Value) (h : zH), rn 191 13 [l0, l1] (.int x :: S) h = rn 191 14 [l0, l1] (.int (x.toUInt32 % 65536).toInt32 :: S) h) ∧
  (∀ (l0 l1 : Value) (x : Int32) (h : zH), rn 191 14 [l0, l1] [.int x] h = if decide (narrow .char (.int x) = .int x) = true then some (some (.int x), h) else none) := ⟨fun _ _ _ _ => r_iload_n (show zdec 191 0 = some (.iload_n 1, 1) by decide +kernel) rfl rfl,
  fun _ _ _ _ => r_aload_n (show zdec 191 1 = some (.aload_n 0, 1) by decide +kernel) rfl rfl,
  fun _ _ _ _ _ => r_alen (show zdec 191 2 = some (.arraylength, 1) by decide +kernel) rfl,
  fun _ _ _ _ _ _ => r_cS [_, _] rfl (show zdec 191 3 = some (.invokestatic 9, 3) by decide +kernel) (show zst.lookup (191 * zKEY + 9) = some (0, 138, 2, 0) by decide +kernel) (by decide) rfl,
  fun _ _ _ _ => r_aload_n (show zdec 191 6 = some (.aload_n 0, 1) by decide +kernel) rfl rfl,
  fun _ _ _ _ => r_iload_n (show zdec 191 7 = some (.iload_n 1, 1) by decide +kernel) rfl rfl,
  fun _ _ _ _ _ _ => r_bald (show zdec 191 8 = some (.baload, 1) by decide +kernel) rfl,
  fun _ _ _ _ => r_sipush (show zdec 191 9 = some (.sipush 255, 3) by decide +kernel) rfl rfl,
  fun _ _ _ _ _ _ => r_iand (show zdec 191 12 = some (.iand, 1) by decide +kernel) rfl,
  fun _ _ _ _ _ => r_i2c (show zdec 191 13 = some (.i2c, 1) by decide +kernel) rfl,
  fun _ _ _ _ => r_iretc (show zdec 191 14 = some (.ireturn, 1) by decide +kernel) (by decide +kernel)⟩
theorem ze_191 : ∀ (a0 : Nat) (a1 : Int32) (h : zH), ev 191 [.ref a0, .int a1] h = rn 191 0 [.ref a0, .int a1] [] h := fun _ _ _ => if_pos (Nat.le_of_ble_eq_true rfl)
-- java/lang/StringUTF16.charAt([BI)C
theorem zr_192 : (∀ (l0 : Value) (x : Int32) (S : List Value) (h : zH), rn 192 0 [l0, .int x] S h = rn 192 1 [l0, .int x] (.int x :: S) h) ∧
  (∀ (l0 l1 : Value) (S : List Value) (h : zH), rn 192 1 [l0, l1] S h = ldA l0 (rn 192 2 [l0, l1] (l0 :: S) h)) ∧
  (∀ (l0 l1 : Value) (v0 : Value) (v1 : Value) (S : List Value) (h : zH), rn 192 2 [l0, l1] (v1 :: v0 :: S) h = if zsum S ≤ 8 then zcall (ev 137 [v0, v1] h) (fun v h => rn 192 5 [l0, l1] (zpush v S) h) else none) ∧
  (∀ (l0 l1 : Value) (S : List Value) (h : zH), rn 192 5 [l0, l1] S h = ldA l0 (rn 192 6 [l0, l1] (l0 :: S) h)) ∧
  (∀ (l0 : Value) (x : Int32) (S : List Value) (h : zH), rn 192 6 [l0, .int x] S h = rn 192 7 [l0, .int x] (.int x :: S) h) ∧
  (∀ (l0 l1 : Value) (v0 : Value) (v1 : Value) (S : List Value) (h : zH), rn 192 7 [l0, l1] (v1 :: v0 :: S) h = if zsum S ≤ 8 then zcall (ev 153 [v0, v1] h) (fun v h => rn 192 10 [l0, l1] (zpush v S) h) else none) ∧
  (∀ (l0 l1 : Value) (x : Int32) (h : zH), rn 192 10 [l0, l1] [.int x] h = if decide (narrow .char (.int x) = .int x) = true then some (some (.int x), h) else none) := ⟨fun _ _ _ _ => r_iload_n (show zdec 192 0 = some (.iload_n 1, 1) by decide +kernel) rfl rfl,
  fun _ _ _ _ => r_aload_n (show zdec 192 1 = some (.aload_n 0, 1) by decide +kernel) rfl rfl,
  fun _ _ _ _ _ _ => r_cS [_, _] rfl (show zdec 192 2 = some (.invokestatic 67, 3) by decide +kernel) (show zst.lookup (192 * zKEY + 67) = some (0, 137, 2, 0) by decide +kernel) (by decide) rfl,
  fun _ _ _ _ => r_aload_n (show zdec 192 5 = some (.aload_n 0, 1) by decide +kernel) rfl rfl,
  fun _ _ _ _ => r_iload_n (show zdec 192 6 = some (.iload_n 1, 1) by decide +kernel) rfl rfl,
  fun _ _ _ _ _ _ => r_cS [_, _] rfl (show zdec 192 7 = some (.invokestatic 71, 3) by decide +kernel) (show zst.lookup (192 * zKEY + 71) = some (0, 153, 2, 0) by decide +kernel) (by decide) rfl,
  fun _ _ _ _ => r_iretc (show zdec 192 10 = some (.ireturn, 1) by decide +kernel) (by decide +kernel)⟩
theorem ze_192 : ∀ (a0 : Nat) (a1 : Int32) (h : zH), ev 192 [.ref a0, .int a1] h = rn 192 0 [.ref a0, .int a1] [] h := fun _ _ _ => if_pos (Nat.le_of_ble_eq_true rfl)

