/-! RULES of texts, printed by render.py -/
-- PayrollRun/CommandText.<init>()V
theorem zr_7 : (∀ (x : Nat) (S : List Value) (h : zH), rn 7 0 [.ref x] S h = rn 7 1 [.ref x] (.ref x :: S) h) ∧
  (∀ (l0 : Value) (o : Nat) (S : List Value) (h : zH), rn 7 1 [l0] (.ref o :: S) h = if zsum S ≤ 8 then rn 7 4 [l0] S h else none) ∧
  (∀ (x : Nat) (S : List Value) (h : zH), rn 7 4 [.ref x] S h = rn 7 5 [.ref x] (.ref x :: S) h) ∧
  (∀ (l0 : Value) (S : List Value) (h : zH), rn 7 5 [l0] S h = rn 7 7 [l0] (.int (nI 60) :: S) h) ∧
  (∀ (l0 : Value) (x : Int32) (S : List Value) (h : zH), rn 7 7 [l0] (.int x :: S) h = mkA x (rn 7 9 [l0] (.ref (100 + h.1) :: S) (znew h (.inl (2, x.toNatClampNeg, zz0 2)) x.toNatClampNeg))) ∧
  (∀ (l0 : Value) (a : Nat) (v : Value) (S : List Value) (h : zH), rn 7 9 [l0] (v :: .ref a :: S) h = zpf h a 3 0 v fun h => rn 7 12 [l0] S h) ∧
  (∀ (x : Nat) (S : List Value) (h : zH), rn 7 12 [.ref x] S h = rn 7 13 [.ref x] (.ref x :: S) h) ∧
  (∀ (l0 : Value) (S : List Value) (h : zH), rn 7 13 [l0] S h = rn 7 14 [l0] (.int (nI 0) :: S) h) ∧
  (∀ (l0 : Value) (a : Nat) (v : Value) (S : List Value) (h : zH), rn 7 14 [l0] (v :: .ref a :: S) h = zpf h a 3 1 v fun h => rn 7 17 [l0] S h) ∧
  (∀ (x : Nat) (S : List Value) (h : zH), rn 7 17 [.ref x] S h = rn 7 18 [.ref x] (.ref x :: S) h) ∧
  (∀ (l0 : Value) (S : List Value) (h : zH), rn 7 18 [l0] S h = rn 7 19 [l0] (.int (nI 0) :: S) h) ∧
  (∀ (l0 : Value) (a : Nat) (v : Value) (S : List Value) (h : zH), rn 7 19 [l0] (v :: .ref a :: S) h = zpf h a 3 2 v fun h => rn 7 22 [l0] S h) ∧
  (∀ (x : Nat) (S : List Value) (h : zH), rn 7 22 [.ref x] S h = rn 7 23 [.ref x] (.ref x :: S) h) ∧
  (∀ (l0 : Value) (S : List Value) (h : zH), rn 7 23 [l0] S h = rn 7 25 [l0] (.int (nI 12) :: S) h) ∧
  (∀ (l0 : Value) (x : Int32) (S : List Value) (h : zH), rn 7 25 [l0] (.int x :: S) h = mkA x (rn 7 27 [l0] (.ref (100 + h.1) :: S) (znew h (.inl (0, x.toNatClampNeg, zz0 0)) x.toNatClampNeg))) ∧
  (∀ (l0 : Value) (a : Nat) (v : Value) (S : List Value) (h : zH), rn 7 27 [l0] (v :: .ref a :: S) h = zpf h a 3 3 v fun h => rn 7 30 [l0] S h) ∧
  (∀ (x : Nat) (S : List Value) (h : zH), rn 7 30 [.ref x] S h = rn 7 31 [.ref x] (.ref x :: S) h) ∧
  (∀ (l0 : Value) (S : List Value) (h : zH), rn 7 31 [l0] S h = rn 7 33 [l0] (.int (nI 12) :: S) h) ∧
  (∀ (l0 : Value) (x : Int32) (S : List Value) (h : zH), rn 7 33 [l0] (.int x :: S) h = mkA x (rn 7 35 [l0] (.ref (100 + h.1) :: S) (znew h (.inl (0, x.toNatClampNeg, zz0 0)) x.toNatClampNeg))) ∧
  (∀ (l0 : Value) (a : Nat) (v : Value) (S : List Value) (h : zH), rn 7 35 [l0] (v :: .ref a :: S) h = zpf h a 3 4 v fun h => rn 7 38 [l0] S h) ∧
  (∀ (x : Nat) (S : List Value) (h : zH), rn 7 38 [.ref x] S h = rn 7 39 [.ref x] (.ref x :: S) h) ∧
  (∀ (l0 : Value) (S : List Value) (h : zH), rn 7 39 [l0] S h = rn 7 41 [l0] (.int (nI 36) :: S) h) ∧
  (∀ (l0 : Value) (x : Int32) (S : List Value) (h : zH), rn 7 41 [l0] (.int x :: S) h = mkA x (rn 7 43 [l0] (.ref (100 + h.1) :: S) (znew h (.inl (0, x.toNatClampNeg, zz0 0)) x.toNatClampNeg))) ∧
  (∀ (l0 : Value) (a : Nat) (v : Value) (S : List Value) (h : zH), rn 7 43 [l0] (v :: .ref a :: S) h = zpf h a 3 5 v fun h => rn 7 46 [l0] S h) ∧
  (∀ (l0 : Value) (h : zH), rn 7 46 [l0] [] h = some (none, h)) := ⟨fun _ _ _ => r_aload_nr (show zdec 7 0 = some (.aload_n 0, 1) by decide +kernel) rfl rfl,
  fun _ _ _ _ => r_cO (show zdec 7 1 = some (.invokespecial 3, 3) by decide +kernel) (show zst.lookup (7 * zKEY + 3) = some (7, 1, 0, 0) by decide +kernel) rfl,
  fun _ _ _ => r_aload_nr (show zdec 7 4 = some (.aload_n 0, 1) by decide +kernel) rfl rfl,
  fun _ _ _ => r_bipush (show zdec 7 5 = some (.bipush 60, 2) by decide +kernel) rfl rfl,
  fun _ _ _ _ => r_newa (show zdec 7 7 = some (.newarray .char, 2) by decide +kernel) rfl rfl,
  fun _ _ _ _ _ => r_putfield (show zdec 7 9 = some (.putfield 11, 3) by decide +kernel) (show zft.lookup (7 * zKEY + 11) = some (3, 0) by decide +kernel) (by decide +kernel) rfl,
  fun _ _ _ => r_aload_nr (show zdec 7 12 = some (.aload_n 0, 1) by decide +kernel) rfl rfl,
  fun _ _ _ => r_iconst (show zdec 7 13 = some (.iconst 0, 1) by decide +kernel) rfl rfl,
  fun _ _ _ _ _ => r_putfield (show zdec 7 14 = some (.putfield 15, 3) by decide +kernel) (show zft.lookup (7 * zKEY + 15) = some (3, 1) by decide +kernel) (by decide +kernel) rfl,
  fun _ _ _ => r_aload_nr (show zdec 7 17 = some (.aload_n 0, 1) by decide +kernel) rfl rfl,
  fun _ _ _ => r_iconst (show zdec 7 18 = some (.iconst 0, 1) by decide +kernel) rfl rfl,
  fun _ _ _ _ _ => r_putfield (show zdec 7 19 = some (.putfield 19, 3) by decide +kernel) (show zft.lookup (7 * zKEY + 19) = some (3, 2) by decide +kernel) (by decide +kernel) rfl,
  fun _ _ _ => r_aload_nr (show zdec 7 22 = some (.aload_n 0, 1) by decide +kernel) rfl rfl,
  fun _ _ _ => r_bipush (show zdec 7 23 = some (.bipush 12, 2) by decide +kernel) rfl rfl,
  fun _ _ _ _ => r_newa (show zdec 7 25 = some (.newarray .int, 2) by decide +kernel) rfl rfl,
  fun _ _ _ _ _ => r_putfield (show zdec 7 27 = some (.putfield 22, 3) by decide +kernel) (show zft.lookup (7 * zKEY + 22) = some (3, 3) by decide +kernel) (by decide +kernel) rfl,
  fun _ _ _ => r_aload_nr (show zdec 7 30 = some (.aload_n 0, 1) by decide +kernel) rfl rfl,
  fun _ _ _ => r_bipush (show zdec 7 31 = some (.bipush 12, 2) by decide +kernel) rfl rfl,
  fun _ _ _ _ => r_newa (show zdec 7 33 = some (.newarray .int, 2) by decide +kernel) rfl rfl,
  fun _ _ _ _ _ => r_putfield (show zdec 7 35 = some (.putfield 26, 3) by decide +kernel) (show zft.lookup (7 * zKEY + 26) = some (3, 4) by decide +kernel) (by decide +kernel) rfl,
  fun _ _ _ => r_aload_nr (show zdec 7 38 = some (.aload_n 0, 1) by decide +kernel) rfl rfl,
  fun _ _ _ => r_bipush (show zdec 7 39 = some (.bipush 36, 2) by decide +kernel) rfl rfl,
  fun _ _ _ _ => r_newa (show zdec 7 41 = some (.newarray .int, 2) by decide +kernel) rfl rfl,
  fun _ _ _ _ _ => r_putfield (show zdec 7 43 = some (.putfield 29, 3) by decide +kernel) (show zft.lookup (7 * zKEY + 29) = some (3, 5) by decide +kernel) (by decide +kernel) rfl,
  fun _ _ => r_vret (show zdec 7 46 = some (.return_, 1) by decide +kernel) (by decide +kernel)⟩
theorem ze_7 : ∀ (a0 : Nat) (h : zH), ev 7 [.ref a0] h = rn 7 0 [.ref a0] [] h := fun _ _ => if_pos (Nat.le_of_ble_eq_true rfl)
-- PayrollRun/SlipText.<init>()V
theorem zr_11 : (∀ (x : Nat) (S : List Value) (h : zH), rn 11 0 [.ref x] S h = rn 11 1 [.ref x] (.ref x :: S) h) ∧
  (∀ (l0 : Value) (o : Nat) (S : List Value) (h : zH), rn 11 1 [l0] (.ref o :: S) h = if zsum S ≤ 8 then rn 11 4 [l0] S h else none) ∧
  (∀ (x : Nat) (S : List Value) (h : zH), rn 11 4 [.ref x] S h = rn 11 5 [.ref x] (.ref x :: S) h) ∧
  (∀ (l0 : Value) (S : List Value) (h : zH), rn 11 5 [l0] S h = rn 11 8 [l0] (.ref (100 + h.1) :: S) (znew h (.inr (0, [.null, .int 0, .int 0, .int 0])) 4)) ∧
  (∀ (l0 : Value) (v : Value) (S : List Value) (h : zH), rn 11 8 [l0] (v :: S) h = c1 v (rn 11 9 [l0] (v :: v :: S) h)) ∧
  (∀ (l0 : Value) (o : Nat) (S : List Value) (h : zH), rn 11 9 [l0] (.ref o :: S) h = if zsum S ≤ 8 then zcall (ev 12 [.ref o] h) (fun v h => rn 11 12 [l0] (zpush v S) h) else none) ∧
  (∀ (l0 : Value) (a : Nat) (v : Value) (S : List Value) (h : zH), rn 11 12 [l0] (v :: .ref a :: S) h = zpf h a 8 0 v fun h => rn 11 15 [l0] S h) ∧
  (∀ (x : Nat) (S : List Value) (h : zH), rn 11 15 [.ref x] S h = rn 11 16 [.ref x] (.ref x :: S) h) ∧
  (∀ (l0 : Value) (S : List Value) (h : zH), rn 11 16 [l0] S h = rn 11 18 [l0] (.int (nI 19) :: S) h) ∧
  (∀ (l0 : Value) (x : Int32) (S : List Value) (h : zH), rn 11 18 [l0] (.int x :: S) h = mkA x (rn 11 20 [l0] (.ref (100 + h.1) :: S) (znew h (.inl (2, x.toNatClampNeg, zz0 2)) x.toNatClampNeg))) ∧
  (∀ (l0 : Value) (a : Nat) (v : Value) (S : List Value) (h : zH), rn 11 20 [l0] (v :: .ref a :: S) h = zpf h a 8 1 v fun h => rn 11 23 [l0] S h) ∧
  (∀ (l0 : Value) (h : zH), rn 11 23 [l0] [] h = some (none, h)) := ⟨fun _ _ _ => r_aload_nr (show zdec 11 0 = some (.aload_n 0, 1) by decide +kernel) rfl rfl,
  fun _ _ _ _ => r_cO (show zdec 11 1 = some (.invokespecial 3, 3) by decide +kernel) (show zst.lookup (11 * zKEY + 3) = some (7, 1, 0, 0) by decide +kernel) rfl,
  fun _ _ _ => r_aload_nr (show zdec 11 4 = some (.aload_n 0, 1) by decide +kernel) rfl rfl,
  fun _ _ _ => r_new (show zdec 11 5 = some (.new 9, 3) by decide +kernel) (show znt.lookup (11 * zKEY + 9) = some 0 by decide +kernel) (by decide +kernel) rfl rfl,
  fun _ _ _ _ => r_dup (show zdec 11 8 = some (.dup, 1) by decide +kernel) rfl,
  fun _ _ _ _ => r_cI [] rfl (show zdec 11 9 = some (.invokespecial 11, 3) by decide +kernel) (show zst.lookup (11 * zKEY + 11) = some (2, 12, 0, 0) by decide +kernel) (by decide) rfl,
  fun _ _ _ _ _ => r_putfield (show zdec 11 12 = some (.putfield 12, 3) by decide +kernel) (show zft.lookup (11 * zKEY + 12) = some (8, 0) by decide +kernel) (by decide +kernel) rfl,
  fun _ _ _ => r_aload_nr (show zdec 11 15 = some (.aload_n 0, 1) by decide +kernel) rfl rfl,
  fun _ _ _ => r_bipush (show zdec 11 16 = some (.bipush 19, 2) by decide +kernel) rfl rfl,
  fun _ _ _ _ => r_newa (show zdec 11 18 = some (.newarray .char, 2) by decide +kernel) rfl rfl,
  fun _ _ _ _ _ => r_putfield (show zdec 11 20 = some (.putfield 18, 3) by decide +kernel) (show zft.lookup (11 * zKEY + 18) = some (8, 1) by decide +kernel) (by decide +kernel) rfl,
  fun _ _ => r_vret (show zdec 11 23 = some (.return_, 1) by decide +kernel) (by decide +kernel)⟩
theorem ze_11 : ∀ (a0 : Nat) (h : zH), ev 11 [.ref a0] h = rn 11 0 [.ref a0] [] h := fun _ _ => if_pos (Nat.le_of_ble_eq_true rfl)
-- PayrollRun/SlipText.writeSlip(LPayrollRun/Slip;)V
theorem zr_96 : (∀ (l1 l2 l3 l4 l5 : Value) (x : Nat) (S : List Value) (h : zH), rn 96 0 [.ref x, l1, l2, l3, l4, l5] S h = rn 96 1 [.ref x, l1, l2, l3, l4, l5] (.ref x :: S) h) ∧
  (∀ (l0 l1 l2 l3 l4 l5 : Value) (o : Nat) (S : List Value) (h : zH), rn 96 1 [l0, l1, l2, l3, l4, l5] (.ref o :: S) h = if zkd h o = 8 ∧ zsum S ≤ 8 then zcall (ev 97 [.ref o] h) (fun v h => rn 96 4 [l0, l1, l2, l3, l4, l5] (zpush v S) h) else none) ∧
  (∀ (l0 l1 l2 l3 l4 l5 : Value) (S : List Value) (h : zH), rn 96 4 [l0, l1, l2, l3, l4, l5] S h = rn 96 5 [l0, l1, l2, l3, l4, l5] (.int (nI 0) :: S) h) ∧
  (∀ (l0 l1 l2 l3 l4 l5 : Value) (x : Int32) (S : List Value) (h : zH), rn 96 5 [l0, l1, l2, l3, l4, l5] (.int x :: S) h = nl l1 (rn 96 6 [l0, l1, .int x, l3, l4, l5] S h)) ∧
  (∀ (l0 l1 l2 l3 l4 l5 : Value) (S : List Value) (h : zH), rn 96 7 [l0, l1, l2, l3, l4, l5] S h = ldA l1 (rn 96 8 [l0, l1, l2, l3, l4, l5] (l1 :: S) h)) ∧
  (∀ (l0 l1 l2 l3 l4 l5 : Value) (a : Nat) (S : List Value) (h : zH), rn 96 8 [l0, l1, l2, l3, l4, l5] (.ref a :: S) h = zgf h a 7 2 fun v => rn 96 11 [l0, l1, l2, l3, l4, l5] (v :: S) h) ∧
  (∀ (l0 l1 l2 l3 l4 l5 : Value) (x : Int32) (y : Int32) (S : List Value) (h : zH), rn 96 11 [l0, l1, l2, l3, l4, l5] (.int y :: .int x :: S) h = if y ≤ x then rn 96 70 [l0, l1, l2, l3, l4, l5] S h else rn 96 14 [l0, l1, l2, l3, l4, l5] S h) ∧
  (∀ (l0 l1 l3 l4 l5 : Value) (x : Int32) (S : List Value) (h : zH), rn 96 14 [l0, l1, .int x, l3, l4, l5] S h = rn 96 15 [l0, l1, .int x, l3, l4, l5] (.int x :: S) h) ∧
  (∀ (l0 l1 l2 l3 l4 l5 : Value) (S : List Value) (h : zH), rn 96 15 [l0, l1, l2, l3, l4, l5] S h = rn 96 17 [l0, l1, l2, l3, l4, l5] (.int (nI 54) :: S) h) ∧
  (∀ (l0 l1 l2 l3 l4 l5 : Value) (x : Int32) (y : Int32) (S : List Value) (h : zH), rn 96 17 [l0, l1, l2, l3, l4, l5] (.int y :: .int x :: S) h = if y ≤ x then rn 96 70 [l0, l1, l2, l3, l4, l5] S h else rn 96 20 [l0, l1, l2, l3, l4, l5] S h) ∧
  (∀ (l0 l1 l2 l3 l4 l5 : Value) (S : List Value) (h : zH), rn 96 20 [l0, l1, l2, l3, l4, l5] S h = ldA l1 (rn 96 21 [l0, l1, l2, l3, l4, l5] (l1 :: S) h)) ∧
  (∀ (l0 l1 l2 l3 l4 l5 : Value) (a : Nat) (S : List Value) (h : zH), rn 96 21 [l0, l1, l2, l3, l4, l5] (.ref a :: S) h = zgf h a 7 0 fun v => rn 96 24 [l0, l1, l2, l3, l4, l5] (v :: S) h) ∧
  (∀ (l0 l1 l3 l4 l5 : Value) (x : Int32) (S : List Value) (h : zH), rn 96 24 [l0, l1, .int x, l3, l4, l5] S h = rn 96 25 [l0, l1, .int x, l3, l4, l5] (.int x :: S) h) ∧
  (∀ (l0 l1 l2 l3 l4 l5 : Value) (a : Nat) (j : Int32) (S : List Value) (h : zH), rn 96 25 [l0, l1, l2, l3, l4, l5] (.int j :: .ref a :: S) h = zli h a 0 j fun x => rn 96 26 [l0, l1, l2, l3, l4, l5] (.int x :: S) h) ∧
  (∀ (l0 l1 l2 l3 l4 l5 : Value) (x : Int32) (S : List Value) (h : zH), rn 96 26 [l0, l1, l2, l3, l4, l5] (.int x :: S) h = nl l2 (rn 96 27 [l0, l1, l2, .int x, l4, l5] S h)) ∧
  (∀ (l0 l1 l2 l3 l4 l5 : Value) (S : List Value) (h : zH), rn 96 27 [l0, l1, l2, l3, l4, l5] S h = ldA l1 (rn 96 28 [l0, l1, l2, l3, l4, l5] (l1 :: S) h)) ∧
  (∀ (l0 l1 l2 l3 l4 l5 : Value) (a : Nat) (S : List Value) (h : zH), rn 96 28 [l0, l1, l2, l3, l4, l5] (.ref a :: S) h = zgf h a 7 0 fun v => rn 96 31 [l0, l1, l2, l3, l4, l5] (v :: S) h) ∧
  (∀ (l0 l1 l2 l3 l4 l5 : Value) (S : List Value) (h : zH), rn 96 31 [l0, l1, l2, l3, l4, l5] S h = rn 96 33 [l0, l1, l2, l3, l4, l5] (.int (nI 54) :: S) h) ∧
  (∀ (l0 l1 l3 l4 l5 : Value) (x : Int32) (S : List Value) (h : zH), rn 96 33 [l0, l1, .int x, l3, l4, l5] S h = rn 96 34 [l0, l1, .int x, l3, l4, l5] (.int x :: S) h) ∧
  (∀ (l0 l1 l2 l3 l4 l5 : Value) (x : Int32) (y : Int32) (S : List Value) (h : zH), rn 96 34 [l0, l1, l2, l3, l4, l5] (.int y :: .int x :: S) h = rn 96 35 [l0, l1, l2, l3, l4, l5] (.int (x + y) :: S) h) ∧
  (∀ (l0 l1 l2 l3 l4 l5 : Value) (a : Nat) (j : Int32) (S : List Value) (h : zH), rn 96 35 [l0, l1, l2, l3, l4, l5] (.int j :: .ref a :: S) h = zli h a 0 j fun x => rn 96 36 [l0, l1, l2, l3, l4, l5] (.int x :: S) h) ∧
  (∀ (l0 l1 l2 l3 l4 l5 : Value) (x : Int32) (S : List Value) (h : zH), rn 96 36 [l0, l1, l2, l3, l4, l5] (.int x :: S) h = nl l3 (rn 96 38 [l0, l1, l2, l3, .int x, l5] S h)) ∧
  (∀ (l0 l1 l2 l3 l4 l5 : Value) (S : List Value) (h : zH), rn 96 38 [l0, l1, l2, l3, l4, l5] S h = ldA l1 (rn 96 39 [l0, l1, l2, l3, l4, l5] (l1 :: S) h)) ∧
  (∀ (l0 l1 l2 l3 l4 l5 : Value) (a : Nat) (S : List Value) (h : zH), rn 96 39 [l0, l1, l2, l3, l4, l5] (.ref a :: S) h = zgf h a 7 0 fun v => rn 96 42 [l0, l1, l2, l3, l4, l5] (v :: S) h) ∧
  (∀ (l0 l1 l2 l3 l4 l5 : Value) (S : List Value) (h : zH), rn 96 42 [l0, l1, l2, l3, l4, l5] S h = rn 96 44 [l0, l1, l2, l3, l4, l5] (.int (nI 108) :: S) h) ∧
  (∀ (l0 l1 l3 l4 l5 : Value) (x : Int32) (S : List Value) (h : zH), rn 96 44 [l0, l1, .int x, l3, l4, l5] S h = rn 96 45 [l0, l1, .int x, l3, l4, l5] (.int x :: S) h) ∧
  (∀ (l0 l1 l2 l3 l4 l5 : Value) (x : Int32) (y : Int32) (S : List Value) (h : zH), rn 96 45 [l0, l1, l2, l3, l4, l5] (.int y :: .int x :: S) h = rn 96 46 [l0, l1, l2, l3, l4, l5] (.int (x + y) :: S) h) ∧
  (∀ (l0 l1 l2 l3 l4 l5 : Value) (a : Nat) (j : Int32) (S : List Value) (h : zH), rn 96 46 [l0, l1, l2, l3, l4, l5] (.int j :: .ref a :: S) h = zli h a 0 j fun x => rn 96 47 [l0, l1, l2, l3, l4, l5] (.int x :: S) h) ∧
  (∀ (l0 l1 l2 l3 l4 l5 : Value) (x : Int32) (S : List Value) (h : zH), rn 96 47 [l0, l1, l2, l3, l4, l5] (.int x :: S) h = nl l4 (rn 96 49 [l0, l1, l2, l3, l4, .int x] S h)) ∧
  (∀ (l1 l2 l3 l4 l5 : Value) (x : Nat) (S : List Value) (h : zH), rn 96 49 [.ref x, l1, l2, l3, l4, l5] S h = rn 96 50 [.ref x, l1, l2, l3, l4, l5] (.ref x :: S) h) ∧
  (∀ (l0 l1 l2 l4 l5 : Value) (x : Int32) (S : List Value) (h : zH), rn 96 50 [l0, l1, l2, .int x, l4, l5] S h = rn 96 51 [l0, l1, l2, .int x, l4, l5] (.int x :: S) h) ∧
  (∀ (l0 l1 l2 l3 l5 : Value) (x : Int32) (S : List Value) (h : zH), rn 96 51 [l0, l1, l2, l3, .int x, l5] S h = rn 96 53 [l0, l1, l2, l3, .int x, l5] (.int x :: S) h) ∧
  (∀ (l0 l1 l2 l3 l4 : Value) (x : Int32) (S : List Value) (h : zH), rn 96 53 [l0, l1, l2, l3, l4, .int x] S h = rn 96 55 [l0, l1, l2, l3, l4, .int x] (.int x :: S) h) ∧
  (∀ (l0 l1 l2 l3 l4 l5 : Value) (S : List Value) (h : zH), rn 96 55 [l0, l1, l2, l3, l4, l5] S h = ldA l1 (rn 96 56 [l0, l1, l2, l3, l4, l5] (l1 :: S) h)) ∧
  (∀ (l0 l1 l2 l3 l4 l5 : Value) (a : Nat) (S : List Value) (h : zH), rn 96 56 [l0, l1, l2, l3, l4, l5] (.ref a :: S) h = zgf h a 7 1 fun v => rn 96 59 [l0, l1, l2, l3, l4, l5] (v :: S) h) ∧
  (∀ (l0 l1 l3 l4 l5 : Value) (x : Int32) (S : List Value) (h : zH), rn 96 59 [l0, l1, .int x, l3, l4, l5] S h = rn 96 60 [l0, l1, .int x, l3, l4, l5] (.int x :: S) h) ∧
  (∀ (l0 l1 l2 l3 l4 l5 : Value) (a : Nat) (j : Int32) (S : List Value) (h : zH), rn 96 60 [l0, l1, l2, l3, l4, l5] (.int j :: .ref a :: S) h = zlj h a j fun x => rn 96 61 [l0, l1, l2, l3, l4, l5] (.long x :: S) h) ∧
  (∀ (l0 l1 l2 l3 l4 l5 : Value) (o : Nat) (v0 : Value) (v1 : Value) (v2 : Value) (v3 : Value) (S : List Value) (h : zH), rn 96 61 [l0, l1, l2, l3, l4, l5] (v3 :: v2 :: v1 :: v0 :: .ref o :: S) h = if zkd h o = 8 ∧ zsum S ≤ 8 then zcall (ev 111 [.ref o, v0, v1, v2, v3] h) (fun v h => rn 96 64 [l0, l1, l2, l3, l4, l5] (zpush v S) h) else none) ∧
  (∀ (l0 l1 l3 l4 l5 : Value) (x : Int32) (S : List Value) (h : zH), rn 96 64 [l0, l1, .int x, l3, l4, l5] S h = nl l1 (rn 96 67 [l0, l1, .int (x + (nI 1)), l3, l4, l5] S h)) ∧
  (∀ (l0 l1 l2 l3 l4 l5 : Value) (S : List Value) (h : zH), rn 96 67 [l0, l1, l2, l3, l4, l5] S h = rn 96 6 [l0, l1, l2, l3, l4, l5] S h) ∧
  (∀ (l0 l1 l2 l3 l4 l5 : Value) (h : zH), rn 96 70 [l0, l1, l2, l3, l4, l5] [] h = some (none, h)) := ⟨fun _ _ _ _ _ _ _ _ => r_aload_nr (show zdec 96 0 = some (.aload_n 0, 1) by decide +kernel) rfl rfl,
  fun _ _ _ _ _ _ _ _ _ => r_cV [] rfl (show zdec 96 1 = some (.invokevirtual 26, 3) by decide +kernel) (show zst.lookup (96 * zKEY + 26) = some (1, 97, 0, 8) by decide +kernel) (by decide) rfl,
  fun _ _ _ _ _ _ _ _ => r_iconst (show zdec 96 4 = some (.iconst 0, 1) by decide +kernel) rfl rfl,
  fun _ _ _ _ _ _ _ _ _ => r_istore_n (show zdec 96 5 = some (.istore_n 2, 1) by decide +kernel) rfl rfl (Nat.le_of_ble_eq_true rfl) rfl rfl,
  fun _ _ _ _ _ _ _ _ => r_aload_n (show zdec 96 7 = some (.aload_n 1, 1) by decide +kernel) rfl rfl,
  fun _ _ _ _ _ _ _ _ _ => r_getfield (show zdec 96 8 = some (.getfield 29, 3) by decide +kernel) (show zft.lookup (96 * zKEY + 29) = some (7, 2) by decide +kernel) rfl,
  fun _ _ _ _ _ _ _ _ _ _ => r_icmpge (show zdec 96 11 = some (.if_icmp .ge 59, 3) by decide +kernel) rfl rfl,
  fun _ _ _ _ _ _ _ _ => r_iload_n (show zdec 96 14 = some (.iload_n 2, 1) by decide +kernel) rfl rfl,
  fun _ _ _ _ _ _ _ _ => r_bipush (show zdec 96 15 = some (.bipush 54, 2) by decide +kernel) rfl rfl,
  fun _ _ _ _ _ _ _ _ _ _ => r_icmpge (show zdec 96 17 = some (.if_icmp .ge 53, 3) by decide +kernel) rfl rfl,
  fun _ _ _ _ _ _ _ _ => r_aload_n (show zdec 96 20 = some (.aload_n 1, 1) by decide +kernel) rfl rfl,
  fun _ _ _ _ _ _ _ _ _ => r_getfield (show zdec 96 21 = some (.getfield 35, 3) by decide +kernel) (show zft.lookup (96 * zKEY + 35) = some (7, 0) by decide +kernel) rfl,
  fun _ _ _ _ _ _ _ _ => r_iload_n (show zdec 96 24 = some (.iload_n 2, 1) by decide +kernel) rfl rfl,
  fun _ _ _ _ _ _ _ _ _ _ => r_iald (show zdec 96 25 = some (.iaload, 1) by decide +kernel) rfl,
  fun _ _ _ _ _ _ _ _ _ => r_istore_n (show zdec 96 26 = some (.istore_n 3, 1) by decide +kernel) rfl rfl (Nat.le_of_ble_eq_true rfl) rfl rfl,
  fun _ _ _ _ _ _ _ _ => r_aload_n (show zdec 96 27 = some (.aload_n 1, 1) by decide +kernel) rfl rfl,
  fun _ _ _ _ _ _ _ _ _ => r_getfield (show zdec 96 28 = some (.getfield 35, 3) by decide +kernel) (show zft.lookup (96 * zKEY + 35) = some (7, 0) by decide +kernel) rfl,
  fun _ _ _ _ _ _ _ _ => r_bipush (show zdec 96 31 = some (.bipush 54, 2) by decide +kernel) rfl rfl,
  fun _ _ _ _ _ _ _ _ => r_iload_n (show zdec 96 33 = some (.iload_n 2, 1) by decide +kernel) rfl rfl,
  fun _ _ _ _ _ _ _ _ _ _ => r_iadd (show zdec 96 34 = some (.iadd, 1) by decide +kernel) rfl,
  fun _ _ _ _ _ _ _ _ _ _ => r_iald (show zdec 96 35 = some (.iaload, 1) by decide +kernel) rfl,
  fun _ _ _ _ _ _ _ _ _ => r_istore (show zdec 96 36 = some (.istore 4, 2) by decide +kernel) rfl (Nat.le_of_ble_eq_true rfl) rfl rfl,
  fun _ _ _ _ _ _ _ _ => r_aload_n (show zdec 96 38 = some (.aload_n 1, 1) by decide +kernel) rfl rfl,
  fun _ _ _ _ _ _ _ _ _ => r_getfield (show zdec 96 39 = some (.getfield 35, 3) by decide +kernel) (show zft.lookup (96 * zKEY + 35) = some (7, 0) by decide +kernel) rfl,
  fun _ _ _ _ _ _ _ _ => r_bipush (show zdec 96 42 = some (.bipush 108, 2) by decide +kernel) rfl rfl,
  fun _ _ _ _ _ _ _ _ => r_iload_n (show zdec 96 44 = some (.iload_n 2, 1) by decide +kernel) rfl rfl,
  fun _ _ _ _ _ _ _ _ _ _ => r_iadd (show zdec 96 45 = some (.iadd, 1) by decide +kernel) rfl,
  fun _ _ _ _ _ _ _ _ _ _ => r_iald (show zdec 96 46 = some (.iaload, 1) by decide +kernel) rfl,
  fun _ _ _ _ _ _ _ _ _ => r_istore (show zdec 96 47 = some (.istore 5, 2) by decide +kernel) rfl (Nat.le_of_ble_eq_true rfl) rfl rfl,
  fun _ _ _ _ _ _ _ _ => r_aload_nr (show zdec 96 49 = some (.aload_n 0, 1) by decide +kernel) rfl rfl,
  fun _ _ _ _ _ _ _ _ => r_iload_n (show zdec 96 50 = some (.iload_n 3, 1) by decide +kernel) rfl rfl,
  fun _ _ _ _ _ _ _ _ => r_iload (show zdec 96 51 = some (.iload 4, 2) by decide +kernel) rfl rfl,
  fun _ _ _ _ _ _ _ _ => r_iload (show zdec 96 53 = some (.iload 5, 2) by decide +kernel) rfl rfl,
  fun _ _ _ _ _ _ _ _ => r_aload_n (show zdec 96 55 = some (.aload_n 1, 1) by decide +kernel) rfl rfl,
  fun _ _ _ _ _ _ _ _ _ => r_getfield (show zdec 96 56 = some (.getfield 39, 3) by decide +kernel) (show zft.lookup (96 * zKEY + 39) = some (7, 1) by decide +kernel) rfl,
  fun _ _ _ _ _ _ _ _ => r_iload_n (show zdec 96 59 = some (.iload_n 2, 1) by decide +kernel) rfl rfl,
  fun _ _ _ _ _ _ _ _ _ _ => r_lald (show zdec 96 60 = some (.laload, 1) by decide +kernel) rfl,
  fun _ _ _ _ _ _ _ _ _ _ _ _ _ => r_cV [_, _, _, _] rfl (show zdec 96 61 = some (.invokevirtual 43, 3) by decide +kernel) (show zst.lookup (96 * zKEY + 43) = some (1, 111, 4, 8) by decide +kernel) (by decide) rfl,
  fun _ _ _ _ _ _ _ _ => r_iinc (show zdec 96 64 = some (.iinc 2 1, 3) by decide +kernel) rfl rfl rfl (Nat.le_of_ble_eq_true rfl) rfl rfl,
  fun _ _ _ _ _ _ _ _ => r_goto (show zdec 96 67 = some (.goto (-61), 3) by decide +kernel) rfl,
  fun _ _ _ _ _ _ _ => r_vret (show zdec 96 70 = some (.return_, 1) by decide +kernel) (by decide +kernel)⟩
theorem zl_96_6 : ∀ (l0 l1 l3 l4 l5 : Value) (x : Int32) (S : List Value) (h : zH), rn 96 6 [l0, l1, .int x, l3, l4, l5] S h = rn 96 7 [l0, l1, .int x, l3, l4, l5] (.int x :: S) h := fun _ _ _ _ _ _ _ _ => r_iload_n (show zdec 96 6 = some (.iload_n 2, 1) by decide +kernel) rfl rfl
theorem ze_96 : ∀ (a0 : Nat) (a1 : Nat) (h : zH), ev 96 [.ref a0, .ref a1] h = rn 96 0 [.ref a0, .ref a1, .float 0, .float 0, .float 0, .float 0] [] h := fun _ _ _ => if_pos (Nat.le_of_ble_eq_true rfl)
-- PayrollRun/SlipText.clear()V
theorem zr_97 : (∀ (x : Nat) (S : List Value) (h : zH), rn 97 0 [.ref x] S h = rn 97 1 [.ref x] (.ref x :: S) h) ∧
  (∀ (l0 : Value) (a : Nat) (S : List Value) (h : zH), rn 97 1 [l0] (.ref a :: S) h = zgf h a 8 0 fun v => rn 97 4 [l0] (v :: S) h) ∧
  (∀ (l0 : Value) (S : List Value) (h : zH), rn 97 4 [l0] S h = rn 97 5 [l0] (.int (nI 0) :: S) h) ∧
  (∀ (l0 : Value) (o : Nat) (v0 : Value) (S : List Value) (h : zH), rn 97 5 [l0] (v0 :: .ref o :: S) h = if zkd h o = 0 ∧ zsum S ≤ 8 then zcall (ev 98 [.ref o, v0] h) (fun v h => rn 97 8 [l0] (zpush v S) h) else none) ∧
  (∀ (l0 : Value) (h : zH), rn 97 8 [l0] [] h = some (none, h)) := ⟨fun _ _ _ => r_aload_nr (show zdec 97 0 = some (.aload_n 0, 1) by decide +kernel) rfl rfl,
  fun _ _ _ _ => r_getfield (show zdec 97 1 = some (.getfield 12, 3) by decide +kernel) (show zft.lookup (97 * zKEY + 12) = some (8, 0) by decide +kernel) rfl,
  fun _ _ _ => r_iconst (show zdec 97 4 = some (.iconst 0, 1) by decide +kernel) rfl rfl,
  fun _ _ _ _ _ => r_cV [_] rfl (show zdec 97 5 = some (.invokevirtual 22, 3) by decide +kernel) (show zst.lookup (97 * zKEY + 22) = some (1, 98, 1, 0) by decide +kernel) (by decide) rfl,
  fun _ _ => r_vret (show zdec 97 8 = some (.return_, 1) by decide +kernel) (by decide +kernel)⟩
theorem ze_97 : ∀ (a0 : Nat) (h : zH), ev 97 [.ref a0] h = rn 97 0 [.ref a0] [] h := fun _ _ => if_pos (Nat.le_of_ble_eq_true rfl)
-- PayrollRun/SlipText.writeLine(IIIJ)V
theorem zr_111 : (∀ (l1 l2 l3 l4 l5 : Value) (x : Nat) (S : List Value) (h : zH), rn 111 0 [.ref x, l1, l2, l3, l4, l5] S h = rn 111 1 [.ref x, l1, l2, l3, l4, l5] (.ref x :: S) h) ∧
  (∀ (l0 l1 l2 l3 l4 l5 : Value) (a : Nat) (S : List Value) (h : zH), rn 111 1 [l0, l1, l2, l3, l4, l5] (.ref a :: S) h = zgf h a 8 0 fun v => rn 111 4 [l0, l1, l2, l3, l4, l5] (v :: S) h) ∧
  (∀ (l0 l2 l3 l4 l5 : Value) (x : Int32) (S : List Value) (h : zH), rn 111 4 [l0, .int x, l2, l3, l4, l5] S h = rn 111 5 [l0, .int x, l2, l3, l4, l5] (.int x :: S) h) ∧
  (∀ (l0 l1 l2 l3 l4 l5 : Value) (v0 : Value) (S : List Value) (h : zH), rn 111 5 [l0, l1, l2, l3, l4, l5] (v0 :: S) h = if zsum S ≤ 8 then zcall (ev 112 [v0] h) (fun v h => rn 111 8 [l0, l1, l2, l3, l4, l5] (zpush v S) h) else none) ∧
  (∀ (l0 l1 l2 l3 l4 l5 : Value) (o : Nat) (v0 : Value) (S : List Value) (h : zH), rn 111 8 [l0, l1, l2, l3, l4, l5] (v0 :: .ref o :: S) h = if zkd h o = 0 ∧ zsum S ≤ 8 then zcall (ev 113 [.ref o, v0] h) (fun v h => rn 111 11 [l0, l1, l2, l3, l4, l5] (zpush v S) h) else none) ∧
  (∀ (l0 l1 l2 l3 l4 l5 : Value) (v : Value) (S : List Value) (h : zH), rn 111 11 [l0, l1, l2, l3, l4, l5] (v :: S) h = c1 v (rn 111 12 [l0, l1, l2, l3, l4, l5] S h)) ∧
  (∀ (l1 l2 l3 l4 l5 : Value) (x : Nat) (S : List Value) (h : zH), rn 111 12 [.ref x, l1, l2, l3, l4, l5] S h = rn 111 13 [.ref x, l1, l2, l3, l4, l5] (.ref x :: S) h) ∧
  (∀ (l0 l1 l2 l3 l4 l5 : Value) (a : Nat) (S : List Value) (h : zH), rn 111 13 [l0, l1, l2, l3, l4, l5] (.ref a :: S) h = zgf h a 8 0 fun v => rn 111 16 [l0, l1, l2, l3, l4, l5] (v :: S) h) ∧
  (∀ (l0 l1 l2 l3 l4 l5 : Value) (S : List Value) (h : zH), rn 111 16 [l0, l1, l2, l3, l4, l5] S h = rn 111 18 [l0, l1, l2, l3, l4, l5] (.int (nI 32) :: S) h) ∧
  (∀ (l0 l1 l2 l3 l4 l5 : Value) (o : Nat) (v0 : Value) (S : List Value) (h : zH), rn 111 18 [l0, l1, l2, l3, l4, l5] (v0 :: .ref o :: S) h = if zkd h o = 0 ∧ zsum S ≤ 8 then zcall (ev 133 [.ref o, v0] h) (fun v h => rn 111 21 [l0, l1, l2, l3, l4, l5] (zpush v S) h) else none) ∧
  (∀ (l0 l1 l2 l3 l4 l5 : Value) (v : Value) (S : List Value) (h : zH), rn 111 21 [l0, l1, l2, l3, l4, l5] (v :: S) h = c1 v (rn 111 22 [l0, l1, l2, l3, l4, l5] S h)) ∧
  (∀ (l1 l2 l3 l4 l5 : Value) (x : Nat) (S : List Value) (h : zH), rn 111 22 [.ref x, l1, l2, l3, l4, l5] S h = rn 111 23 [.ref x, l1, l2, l3, l4, l5] (.ref x :: S) h) ∧
  (∀ (l0 l1 l2 l3 l4 l5 : Value) (a : Nat) (S : List Value) (h : zH), rn 111 23 [l0, l1, l2, l3, l4, l5] (.ref a :: S) h = zgf h a 8 0 fun v => rn 111 26 [l0, l1, l2, l3, l4, l5] (v :: S) h) ∧
  (∀ (l0 l1 l3 l4 l5 : Value) (x : Int32) (S : List Value) (h : zH), rn 111 26 [l0, l1, .int x, l3, l4, l5] S h = rn 111 27 [l0, l1, .int x, l3, l4, l5] (.int x :: S) h) ∧
  (∀ (l0 l1 l2 l3 l4 l5 : Value) (o : Nat) (v0 : Value) (S : List Value) (h : zH), rn 111 27 [l0, l1, l2, l3, l4, l5] (v0 :: .ref o :: S) h = if zkd h o = 0 ∧ zsum S ≤ 8 then zcall (ev 140 [.ref o, v0] h) (fun v h => rn 111 30 [l0, l1, l2, l3, l4, l5] (zpush v S) h) else none) ∧
  (∀ (l0 l1 l2 l3 l4 l5 : Value) (v : Value) (S : List Value) (h : zH), rn 111 30 [l0, l1, l2, l3, l4, l5] (v :: S) h = c1 v (rn 111 31 [l0, l1, l2, l3, l4, l5] S h)) ∧
  (∀ (l1 l2 l3 l4 l5 : Value) (x : Nat) (S : List Value) (h : zH), rn 111 31 [.ref x, l1, l2, l3, l4, l5] S h = rn 111 32 [.ref x, l1, l2, l3, l4, l5] (.ref x :: S) h) ∧
  (∀ (l0 l1 l2 l3 l4 l5 : Value) (a : Nat) (S : List Value) (h : zH), rn 111 32 [l0, l1, l2, l3, l4, l5] (.ref a :: S) h = zgf h a 8 0 fun v => rn 111 35 [l0, l1, l2, l3, l4, l5] (v :: S) h) ∧
  (∀ (l0 l1 l2 l3 l4 l5 : Value) (S : List Value) (h : zH), rn 111 35 [l0, l1, l2, l3, l4, l5] S h = rn 111 37 [l0, l1, l2, l3, l4, l5] (.int (nI 32) :: S) h) ∧
  (∀ (l0 l1 l2 l3 l4 l5 : Value) (o : Nat) (v0 : Value) (S : List Value) (h : zH), rn 111 37 [l0, l1, l2, l3, l4, l5] (v0 :: .ref o :: S) h = if zkd h o = 0 ∧ zsum S ≤ 8 then zcall (ev 133 [.ref o, v0] h) (fun v h => rn 111 40 [l0, l1, l2, l3, l4, l5] (zpush v S) h) else none) ∧
  (∀ (l0 l1 l2 l3 l4 l5 : Value) (v : Value) (S : List Value) (h : zH), rn 111 40 [l0, l1, l2, l3, l4, l5] (v :: S) h = c1 v (rn 111 41 [l0, l1, l2, l3, l4, l5] S h)) ∧
  (∀ (l1 l2 l3 l4 l5 : Value) (x : Nat) (S : List Value) (h : zH), rn 111 41 [.ref x, l1, l2, l3, l4, l5] S h = rn 111 42 [.ref x, l1, l2, l3, l4, l5] (.ref x :: S) h) ∧
  (∀ (l0 l1 l2 l3 l4 l5 : Value) (a : Nat) (S : List Value) (h : zH), rn 111 42 [l0, l1, l2, l3, l4, l5] (.ref a :: S) h = zgf h a 8 0 fun v => rn 111 45 [l0, l1, l2, l3, l4, l5] (v :: S) h) ∧
  (∀ (l0 l1 l2 l4 l5 : Value) (x : Int32) (S : List Value) (h : zH), rn 111 45 [l0, l1, l2, .int x, l4, l5] S h = rn 111 46 [l0, l1, l2, .int x, l4, l5] (.int x :: S) h) ∧
  (∀ (l0 l1 l2 l3 l4 l5 : Value) (o : Nat) (v0 : Value) (S : List Value) (h : zH), rn 111 46 [l0, l1, l2, l3, l4, l5] (v0 :: .ref o :: S) h = if zkd h o = 0 ∧ zsum S ≤ 8 then zcall (ev 140 [.ref o, v0] h) (fun v h => rn 111 49 [l0, l1, l2, l3, l4, l5] (zpush v S) h) else none) ∧
  (∀ (l0 l1 l2 l3 l4 l5 : Value) (v : Value) (S : List Value) (h : zH), rn 111 49 [l0, l1, l2, l3, l4, l5] (v :: S) h = c1 v (rn 111 50 [l0, l1, l2, l3, l4, l5] S h)) ∧
  (∀ (l1 l2 l3 l4 l5 : Value) (x : Nat) (S : List Value) (h : zH), rn 111 50 [.ref x, l1, l2, l3, l4, l5] S h = rn 111 51 [.ref x, l1, l2, l3, l4, l5] (.ref x :: S) h) ∧
  (∀ (l0 l1 l2 l3 l4 l5 : Value) (a : Nat) (S : List Value) (h : zH), rn 111 51 [l0, l1, l2, l3, l4, l5] (.ref a :: S) h = zgf h a 8 0 fun v => rn 111 54 [l0, l1, l2, l3, l4, l5] (v :: S) h) ∧
  (∀ (l0 l1 l2 l3 l4 l5 : Value) (S : List Value) (h : zH), rn 111 54 [l0, l1, l2, l3, l4, l5] S h = rn 111 56 [l0, l1, l2, l3, l4, l5] (.int (nI 32) :: S) h) ∧
  (∀ (l0 l1 l2 l3 l4 l5 : Value) (o : Nat) (v0 : Value) (S : List Value) (h : zH), rn 111 56 [l0, l1, l2, l3, l4, l5] (v0 :: .ref o :: S) h = if zkd h o = 0 ∧ zsum S ≤ 8 then zcall (ev 133 [.ref o, v0] h) (fun v h => rn 111 59 [l0, l1, l2, l3, l4, l5] (zpush v S) h) else none) ∧
  (∀ (l0 l1 l2 l3 l4 l5 : Value) (v : Value) (S : List Value) (h : zH), rn 111 59 [l0, l1, l2, l3, l4, l5] (v :: S) h = c1 v (rn 111 60 [l0, l1, l2, l3, l4, l5] S h)) ∧
  (∀ (l1 l2 l3 l4 l5 : Value) (x : Nat) (S : List Value) (h : zH), rn 111 60 [.ref x, l1, l2, l3, l4, l5] S h = rn 111 61 [.ref x, l1, l2, l3, l4, l5] (.ref x :: S) h) ∧
  (∀ (l0 l1 l2 l3 l5 : Value) (x : Int64) (S : List Value) (h : zH), rn 111 61 [l0, l1, l2, l3, .long x, l5] S h = rn 111 63 [l0, l1, l2, l3, .long x, l5] (.long x :: S) h) ∧
  (∀ (l0 l1 l2 l3 l4 l5 : Value) (o : Nat) (v0 : Value) (S : List Value) (h : zH), rn 111 63 [l0, l1, l2, l3, l4, l5] (v0 :: .ref o :: S) h = if zkd h o = 8 ∧ zsum S ≤ 8 then zcall (ev 146 [.ref o, v0] h) (fun v h => rn 111 66 [l0, l1, l2, l3, l4, l5] (zpush v S) h) else none) ∧
  (∀ (l1 l2 l3 l4 l5 : Value) (x : Nat) (S : List Value) (h : zH), rn 111 66 [.ref x, l1, l2, l3, l4, l5] S h = rn 111 67 [.ref x, l1, l2, l3, l4, l5] (.ref x :: S) h) ∧
  (∀ (l0 l1 l2 l3 l4 l5 : Value) (a : Nat) (S : List Value) (h : zH), rn 111 67 [l0, l1, l2, l3, l4, l5] (.ref a :: S) h = zgf h a 8 0 fun v => rn 111 70 [l0, l1, l2, l3, l4, l5] (v :: S) h) ∧
  (∀ (l0 l1 l2 l3 l4 l5 : Value) (S : List Value) (h : zH), rn 111 70 [l0, l1, l2, l3, l4, l5] S h = rn 111 72 [l0, l1, l2, l3, l4, l5] (.int (nI 59) :: S) h) ∧
  (∀ (l0 l1 l2 l3 l4 l5 : Value) (o : Nat) (v0 : Value) (S : List Value) (h : zH), rn 111 72 [l0, l1, l2, l3, l4, l5] (v0 :: .ref o :: S) h = if zkd h o = 0 ∧ zsum S ≤ 8 then zcall (ev 133 [.ref o, v0] h) (fun v h => rn 111 75 [l0, l1, l2, l3, l4, l5] (zpush v S) h) else none) ∧
  (∀ (l0 l1 l2 l3 l4 l5 : Value) (v : Value) (S : List Value) (h : zH), rn 111 75 [l0, l1, l2, l3, l4, l5] (v :: S) h = c1 v (rn 111 76 [l0, l1, l2, l3, l4, l5] S h)) ∧
  (∀ (l0 l1 l2 l3 l4 l5 : Value) (h : zH), rn 111 76 [l0, l1, l2, l3, l4, l5] [] h = some (none, h)) := ⟨fun _ _ _ _ _ _ _ _ => r_aload_nr (show zdec 111 0 = some (.aload_n 0, 1) by decide +kernel) rfl rfl,
  fun _ _ _ _ _ _ _ _ _ => r_getfield (show zdec 111 1 = some (.getfield 12, 3) by decide +kernel) (show zft.lookup (111 * zKEY + 12) = some (8, 0) by decide +kernel) rfl,
  fun _ _ _ _ _ _ _ _ => r_iload_n (show zdec 111 4 = some (.iload_n 1, 1) by decide +kernel) rfl rfl,
  fun _ _ _ _ _ _ _ _ _ => r_cS [_] rfl (show zdec 111 5 = some (.invokestatic 47, 3) by decide +kernel) (show zst.lookup (111 * zKEY + 47) = some (0, 112, 1, 0) by decide +kernel) (by decide) rfl,
  fun _ _ _ _ _ _ _ _ _ _ => r_cV [_] rfl (show zdec 111 8 = some (.invokevirtual 51, 3) by decide +kernel) (show zst.lookup (111 * zKEY + 51) = some (1, 113, 1, 0) by decide +kernel) (by decide) rfl,
  fun _ _ _ _ _ _ _ _ _ => r_pop (show zdec 111 11 = some (.pop, 1) by decide +kernel) rfl,
  fun _ _ _ _ _ _ _ _ => r_aload_nr (show zdec 111 12 = some (.aload_n 0, 1) by decide +kernel) rfl rfl,
  fun _ _ _ _ _ _ _ _ _ => r_getfield (show zdec 111 13 = some (.getfield 12, 3) by decide +kernel) (show zft.lookup (111 * zKEY + 12) = some (8, 0) by decide +kernel) rfl,
  fun _ _ _ _ _ _ _ _ => r_bipush (show zdec 111 16 = some (.bipush 32, 2) by decide +kernel) rfl rfl,
  fun _ _ _ _ _ _ _ _ _ _ => r_cV [_] rfl (show zdec 111 18 = some (.invokevirtual 55, 3) by decide +kernel) (show zst.lookup (111 * zKEY + 55) = some (1, 133, 1, 0) by decide +kernel) (by decide) rfl,
  fun _ _ _ _ _ _ _ _ _ => r_pop (show zdec 111 21 = some (.pop, 1) by decide +kernel) rfl,
  fun _ _ _ _ _ _ _ _ => r_aload_nr (show zdec 111 22 = some (.aload_n 0, 1) by decide +kernel) rfl rfl,
  fun _ _ _ _ _ _ _ _ _ => r_getfield (show zdec 111 23 = some (.getfield 12, 3) by decide +kernel) (show zft.lookup (111 * zKEY + 12) = some (8, 0) by decide +kernel) rfl,
  fun _ _ _ _ _ _ _ _ => r_iload_n (show zdec 111 26 = some (.iload_n 2, 1) by decide +kernel) rfl rfl,
  fun _ _ _ _ _ _ _ _ _ _ => r_cV [_] rfl (show zdec 111 27 = some (.invokevirtual 58, 3) by decide +kernel) (show zst.lookup (111 * zKEY + 58) = some (1, 140, 1, 0) by decide +kernel) (by decide) rfl,
  fun _ _ _ _ _ _ _ _ _ => r_pop (show zdec 111 30 = some (.pop, 1) by decide +kernel) rfl,
  fun _ _ _ _ _ _ _ _ => r_aload_nr (show zdec 111 31 = some (.aload_n 0, 1) by decide +kernel) rfl rfl,
  fun _ _ _ _ _ _ _ _ _ => r_getfield (show zdec 111 32 = some (.getfield 12, 3) by decide +kernel) (show zft.lookup (111 * zKEY + 12) = some (8, 0) by decide +kernel) rfl,
  fun _ _ _ _ _ _ _ _ => r_bipush (show zdec 111 35 = some (.bipush 32, 2) by decide +kernel) rfl rfl,
  fun _ _ _ _ _ _ _ _ _ _ => r_cV [_] rfl (show zdec 111 37 = some (.invokevirtual 55, 3) by decide +kernel) (show zst.lookup (111 * zKEY + 55) = some (1, 133, 1, 0) by decide +kernel) (by decide) rfl,
  fun _ _ _ _ _ _ _ _ _ => r_pop (show zdec 111 40 = some (.pop, 1) by decide +kernel) rfl,
  fun _ _ _ _ _ _ _ _ => r_aload_nr (show zdec 111 41 = some (.aload_n 0, 1) by decide +kernel) rfl rfl,
  fun _ _ _ _ _ _ _ _ _ => r_getfield (show zdec 111 42 = some (.getfield 12, 3) by decide +kernel) (show zft.lookup (111 * zKEY + 12) = some (8, 0) by decide +kernel) rfl,
  fun _ _ _ _ _ _ _ _ => r_iload_n (show zdec 111 45 = some (.iload_n 3, 1) by decide +kernel) rfl rfl,
  fun _ _ _ _ _ _ _ _ _ _ => r_cV [_] rfl (show zdec 111 46 = some (.invokevirtual 58, 3) by decide +kernel) (show zst.lookup (111 * zKEY + 58) = some (1, 140, 1, 0) by decide +kernel) (by decide) rfl,
  fun _ _ _ _ _ _ _ _ _ => r_pop (show zdec 111 49 = some (.pop, 1) by decide +kernel) rfl,
  fun _ _ _ _ _ _ _ _ => r_aload_nr (show zdec 111 50 = some (.aload_n 0, 1) by decide +kernel) rfl rfl,
  fun _ _ _ _ _ _ _ _ _ => r_getfield (show zdec 111 51 = some (.getfield 12, 3) by decide +kernel) (show zft.lookup (111 * zKEY + 12) = some (8, 0) by decide +kernel) rfl,
  fun _ _ _ _ _ _ _ _ => r_bipush (show zdec 111 54 = some (.bipush 32, 2) by decide +kernel) rfl rfl,
  fun _ _ _ _ _ _ _ _ _ _ => r_cV [_] rfl (show zdec 111 56 = some (.invokevirtual 55, 3) by decide +kernel) (show zst.lookup (111 * zKEY + 55) = some (1, 133, 1, 0) by decide +kernel) (by decide) rfl,
  fun _ _ _ _ _ _ _ _ _ => r_pop (show zdec 111 59 = some (.pop, 1) by decide +kernel) rfl,
  fun _ _ _ _ _ _ _ _ => r_aload_nr (show zdec 111 60 = some (.aload_n 0, 1) by decide +kernel) rfl rfl,
  fun _ _ _ _ _ _ _ _ => r_lload (show zdec 111 61 = some (.lload 4, 2) by decide +kernel) rfl rfl,
  fun _ _ _ _ _ _ _ _ _ _ => r_cV [_] rfl (show zdec 111 63 = some (.invokevirtual 61, 3) by decide +kernel) (show zst.lookup (111 * zKEY + 61) = some (1, 146, 1, 8) by decide +kernel) (by decide) rfl,
  fun _ _ _ _ _ _ _ _ => r_aload_nr (show zdec 111 66 = some (.aload_n 0, 1) by decide +kernel) rfl rfl,
  fun _ _ _ _ _ _ _ _ _ => r_getfield (show zdec 111 67 = some (.getfield 12, 3) by decide +kernel) (show zft.lookup (111 * zKEY + 12) = some (8, 0) by decide +kernel) rfl,
  fun _ _ _ _ _ _ _ _ => r_bipush (show zdec 111 70 = some (.bipush 59, 2) by decide +kernel) rfl rfl,
  fun _ _ _ _ _ _ _ _ _ _ => r_cV [_] rfl (show zdec 111 72 = some (.invokevirtual 55, 3) by decide +kernel) (show zst.lookup (111 * zKEY + 55) = some (1, 133, 1, 0) by decide +kernel) (by decide) rfl,
  fun _ _ _ _ _ _ _ _ _ => r_pop (show zdec 111 75 = some (.pop, 1) by decide +kernel) rfl,
  fun _ _ _ _ _ _ _ => r_vret (show zdec 111 76 = some (.return_, 1) by decide +kernel) (by decide +kernel)⟩
theorem ze_111 : ∀ (a0 : Nat) (a1 : Int32) (a2 : Int32) (a3 : Int32) (a4 : Int64) (h : zH), ev 111 [.ref a0, .int a1, .int a2, .int a3, .long a4] h = rn 111 0 [.ref a0, .int a1, .int a2, .int a3, .long a4, .float 0] [] h := fun _ _ _ _ _ _ => if_pos (Nat.le_of_ble_eq_true rfl)
-- PayrollRun/SlipText.kindName(I)Ljava/lang/String;
theorem zr_112 : (∀ (x : Int32) (S : List Value) (h : zH), rn 112 0 [.int x] S h = rn 112 1 [.int x] (.int x :: S) h) ∧
  (∀ (l0 : Value) (x : Int32) (S : List Value) (h : zH), rn 112 1 [l0] (.int x :: S) h = if x = nI 0 then rn 112 44 [l0] S h else if x = nI 1 then rn 112 47 [l0] S h else if x = nI 2 then rn 112 50 [l0] S h else if x = nI 3 then rn 112 53 [l0] S h else if x = nI 4 then rn 112 56 [l0] S h else if x = nI 5 then rn 112 59 [l0] S h else if x = nI 6 then rn 112 62 [l0] S h else rn 112 65 [l0] S h) ∧
  (∀ (l0 : Value) (S : List Value) (h : zH), rn 112 44 [l0] S h = rn 112 46 [l0] (.ref 34 :: S) h) ∧
  (∀ (l0 : Value) (a : Nat) (h : zH), rn 112 46 [l0] [.ref a] h = some (some (.ref a), h)) ∧
  (∀ (l0 : Value) (S : List Value) (h : zH), rn 112 47 [l0] S h = rn 112 49 [l0] (.ref 36 :: S) h) ∧
  (∀ (l0 : Value) (a : Nat) (h : zH), rn 112 49 [l0] [.ref a] h = some (some (.ref a), h)) ∧
  (∀ (l0 : Value) (S : List Value) (h : zH), rn 112 50 [l0] S h = rn 112 52 [l0] (.ref 38 :: S) h) ∧
  (∀ (l0 : Value) (a : Nat) (h : zH), rn 112 52 [l0] [.ref a] h = some (some (.ref a), h)) ∧
  (∀ (l0 : Value) (S : List Value) (h : zH), rn 112 53 [l0] S h = rn 112 55 [l0] (.ref 40 :: S) h) ∧
  (∀ (l0 : Value) (a : Nat) (h : zH), rn 112 55 [l0] [.ref a] h = some (some (.ref a), h)) ∧
  (∀ (l0 : Value) (S : List Value) (h : zH), rn 112 56 [l0] S h = rn 112 58 [l0] (.ref 42 :: S) h) ∧
  (∀ (l0 : Value) (a : Nat) (h : zH), rn 112 58 [l0] [.ref a] h = some (some (.ref a), h)) ∧
  (∀ (l0 : Value) (S : List Value) (h : zH), rn 112 59 [l0] S h = rn 112 61 [l0] (.ref 44 :: S) h) ∧
  (∀ (l0 : Value) (a : Nat) (h : zH), rn 112 61 [l0] [.ref a] h = some (some (.ref a), h)) ∧
  (∀ (l0 : Value) (S : List Value) (h : zH), rn 112 62 [l0] S h = rn 112 64 [l0] (.ref 46 :: S) h) ∧
  (∀ (l0 : Value) (a : Nat) (h : zH), rn 112 64 [l0] [.ref a] h = some (some (.ref a), h)) ∧
  (∀ (l0 : Value) (S : List Value) (h : zH), rn 112 65 [l0] S h = rn 112 67 [l0] (.ref 48 :: S) h) ∧
  (∀ (l0 : Value) (a : Nat) (h : zH), rn 112 67 [l0] [.ref a] h = some (some (.ref a), h)) := ⟨fun _ _ _ => r_iload_n (show zdec 112 0 = some (.iload_n 0, 1) by decide +kernel) rfl rfl,
  fun _ _ _ _ => (r_tsw (l := 0) (ts := [44, 47, 50, 53, 56, 59, 62]) (dt := 65) (show zdec 112 1 = some (.tableswitch 64 0 6 #[43, 46, 49, 52, 55, 58, 61], 43) by decide +kernel) (by decide +kernel)),
  fun _ _ _ => r_ldcS (show zdec 112 44 = some (.ldc 87, 2) by decide +kernel) (show zkt.lookup (112 * zKEY + 87) = none by decide +kernel) (show zut.lookup (112 * zKEY + 87) = some 12 by decide +kernel) rfl rfl,
  fun _ _ _ => r_areto (C := "java/lang/String") (show zdec 112 46 = some (.areturn, 1) by decide +kernel) (by decide +kernel),
  fun _ _ _ => r_ldcS (show zdec 112 47 = some (.ldc 89, 2) by decide +kernel) (show zkt.lookup (112 * zKEY + 89) = none by decide +kernel) (show zut.lookup (112 * zKEY + 89) = some 13 by decide +kernel) rfl rfl,
  fun _ _ _ => r_areto (C := "java/lang/String") (show zdec 112 49 = some (.areturn, 1) by decide +kernel) (by decide +kernel),
  fun _ _ _ => r_ldcS (show zdec 112 50 = some (.ldc 91, 2) by decide +kernel) (show zkt.lookup (112 * zKEY + 91) = none by decide +kernel) (show zut.lookup (112 * zKEY + 91) = some 14 by decide +kernel) rfl rfl,
  fun _ _ _ => r_areto (C := "java/lang/String") (show zdec 112 52 = some (.areturn, 1) by decide +kernel) (by decide +kernel),
  fun _ _ _ => r_ldcS (show zdec 112 53 = some (.ldc 93, 2) by decide +kernel) (show zkt.lookup (112 * zKEY + 93) = none by decide +kernel) (show zut.lookup (112 * zKEY + 93) = some 15 by decide +kernel) rfl rfl,
  fun _ _ _ => r_areto (C := "java/lang/String") (show zdec 112 55 = some (.areturn, 1) by decide +kernel) (by decide +kernel),
  fun _ _ _ => r_ldcS (show zdec 112 56 = some (.ldc 95, 2) by decide +kernel) (show zkt.lookup (112 * zKEY + 95) = none by decide +kernel) (show zut.lookup (112 * zKEY + 95) = some 16 by decide +kernel) rfl rfl,
  fun _ _ _ => r_areto (C := "java/lang/String") (show zdec 112 58 = some (.areturn, 1) by decide +kernel) (by decide +kernel),
  fun _ _ _ => r_ldcS (show zdec 112 59 = some (.ldc 97, 2) by decide +kernel) (show zkt.lookup (112 * zKEY + 97) = none by decide +kernel) (show zut.lookup (112 * zKEY + 97) = some 17 by decide +kernel) rfl rfl,
  fun _ _ _ => r_areto (C := "java/lang/String") (show zdec 112 61 = some (.areturn, 1) by decide +kernel) (by decide +kernel),
  fun _ _ _ => r_ldcS (show zdec 112 62 = some (.ldc 99, 2) by decide +kernel) (show zkt.lookup (112 * zKEY + 99) = none by decide +kernel) (show zut.lookup (112 * zKEY + 99) = some 18 by decide +kernel) rfl rfl,
  fun _ _ _ => r_areto (C := "java/lang/String") (show zdec 112 64 = some (.areturn, 1) by decide +kernel) (by decide +kernel),
  fun _ _ _ => r_ldcS (show zdec 112 65 = some (.ldc 101, 2) by decide +kernel) (show zkt.lookup (112 * zKEY + 101) = none by decide +kernel) (show zut.lookup (112 * zKEY + 101) = some 19 by decide +kernel) rfl rfl,
  fun _ _ _ => r_areto (C := "java/lang/String") (show zdec 112 67 = some (.areturn, 1) by decide +kernel) (by decide +kernel)⟩
theorem ze_112 : ∀ (a0 : Int32) (h : zH), ev 112 [.int a0] h = rn 112 0 [.int a0] [] h := fun _ _ => if_pos (Nat.le_of_ble_eq_true rfl)
-- PayrollRun/SlipText.writeAmount(J)V
theorem zr_146 : (∀ (l0 l2 l3 l4 l5 l6 : Value) (x : Int64) (S : List Value) (h : zH), rn 146 0 [l0, .long x, l2, l3, l4, l5, l6] S h = rn 146 1 [l0, .long x, l2, l3, l4, l5, l6] (.long x :: S) h) ∧
  (∀ (l0 l1 l2 l3 l4 l5 l6 : Value) (S : List Value) (h : zH), rn 146 1 [l0, l1, l2, l3, l4, l5, l6] S h = rn 146 2 [l0, l1, l2, l3, l4, l5, l6] (.long 0 :: S) h) ∧
  (∀ (l0 l1 l2 l3 l4 l5 l6 : Value) (x : Int64) (y : Int64) (S : List Value) (h : zH), rn 146 2 [l0, l1, l2, l3, l4, l5, l6] (.long y :: .long x :: S) h = rn 146 3 [l0, l1, l2, l3, l4, l5, l6] (.int (lg_cmp x y) :: S) h) ∧
  (∀ (l0 l1 l2 l3 l4 l5 l6 : Value) (x : Int32) (S : List Value) (h : zH), rn 146 3 [l0, l1, l2, l3, l4, l5, l6] (.int x :: S) h = if nI 0 ≤ x then rn 146 16 [l0, l1, l2, l3, l4, l5, l6] S h else rn 146 6 [l0, l1, l2, l3, l4, l5, l6] S h) ∧
  (∀ (l1 l2 l3 l4 l5 l6 : Value) (x : Nat) (S : List Value) (h : zH), rn 146 6 [.ref x, l1, l2, l3, l4, l5, l6] S h = rn 146 7 [.ref x, l1, l2, l3, l4, l5, l6] (.ref x :: S) h) ∧
  (∀ (l0 l1 l2 l3 l4 l5 l6 : Value) (a : Nat) (S : List Value) (h : zH), rn 146 7 [l0, l1, l2, l3, l4, l5, l6] (.ref a :: S) h = zgf h a 8 0 fun v => rn 146 10 [l0, l1, l2, l3, l4, l5, l6] (v :: S) h) ∧
  (∀ (l0 l1 l2 l3 l4 l5 l6 : Value) (S : List Value) (h : zH), rn 146 10 [l0, l1, l2, l3, l4, l5, l6] S h = rn 146 12 [l0, l1, l2, l3, l4, l5, l6] (.int (nI 45) :: S) h) ∧
  (∀ (l0 l1 l2 l3 l4 l5 l6 : Value) (o : Nat) (v0 : Value) (S : List Value) (h : zH), rn 146 12 [l0, l1, l2, l3, l4, l5, l6] (v0 :: .ref o :: S) h = if zkd h o = 0 ∧ zsum S ≤ 8 then zcall (ev 133 [.ref o, v0] h) (fun v h => rn 146 15 [l0, l1, l2, l3, l4, l5, l6] (zpush v S) h) else none) ∧
  (∀ (l0 l1 l2 l3 l4 l5 l6 : Value) (v : Value) (S : List Value) (h : zH), rn 146 15 [l0, l1, l2, l3, l4, l5, l6] (v :: S) h = c1 v (rn 146 16 [l0, l1, l2, l3, l4, l5, l6] S h)) ∧
  (∀ (l0 l2 l3 l4 l5 l6 : Value) (x : Int64) (S : List Value) (h : zH), rn 146 16 [l0, .long x, l2, l3, l4, l5, l6] S h = rn 146 17 [l0, .long x, l2, l3, l4, l5, l6] (.long x :: S) h) ∧
  (∀ (l0 l1 l2 l3 l4 l5 l6 : Value) (x : Int64) (S : List Value) (h : zH), rn 146 17 [l0, l1, l2, l3, l4, l5, l6] (.long x :: S) h = if zsum S ≤ 8 then rn 146 20 [l0, l1, l2, l3, l4, l5, l6] (.long (if 0 < x then x else -x) :: S) h else none) ∧
  (∀ (l0 l1 l2 l3 l4 l5 l6 : Value) (x : Int64) (S : List Value) (h : zH), rn 146 20 [l0, l1, l2, l3, l4, l5, l6] (.long x :: S) h = nl l2 (rn 146 21 [l0, l1, l2, .long x, .float 0, l5, l6] S h)) ∧
  (∀ (l0 l1 l2 l3 l4 l5 l6 : Value) (S : List Value) (h : zH), rn 146 21 [l0, l1, l2, l3, l4, l5, l6] S h = rn 146 23 [l0, l1, l2, l3, l4, l5, l6] (.int (nI 19) :: S) h) ∧
  (∀ (l0 l1 l2 l3 l4 l5 l6 : Value) (x : Int32) (S : List Value) (h : zH), rn 146 23 [l0, l1, l2, l3, l4, l5, l6] (.int x :: S) h = nl l4 (rn 146 25 [l0, l1, l2, l3, l4, .int x, l6] S h)) ∧
  (∀ (l1 l2 l3 l4 l5 l6 : Value) (x : Nat) (S : List Value) (h : zH), rn 146 28 [.ref x, l1, l2, l3, l4, l5, l6] S h = rn 146 29 [.ref x, l1, l2, l3, l4, l5, l6] (.ref x :: S) h) ∧
  (∀ (l0 l1 l2 l3 l4 l5 l6 : Value) (a : Nat) (S : List Value) (h : zH), rn 146 29 [l0, l1, l2, l3, l4, l5, l6] (.ref a :: S) h = zgf h a 8 1 fun v => rn 146 32 [l0, l1, l2, l3, l4, l5, l6] (v :: S) h) ∧
  (∀ (l0 l1 l2 l3 l4 l6 : Value) (x : Int32) (S : List Value) (h : zH), rn 146 32 [l0, l1, l2, l3, l4, .int x, l6] S h = rn 146 34 [l0, l1, l2, l3, l4, .int x, l6] (.int x :: S) h) ∧
  (∀ (l0 l1 l2 l3 l4 l5 l6 : Value) (S : List Value) (h : zH), rn 146 34 [l0, l1, l2, l3, l4, l5, l6] S h = rn 146 37 [l0, l1, l2, l3, l4, l5, l6] (.long (48) :: S) h) ∧
  (∀ (l0 l1 l2 l4 l5 l6 : Value) (x : Int64) (S : List Value) (h : zH), rn 146 37 [l0, l1, l2, .long x, l4, l5, l6] S h = rn 146 38 [l0, l1, l2, .long x, l4, l5, l6] (.long x :: S) h) ∧
  (∀ (l0 l1 l2 l3 l4 l5 l6 : Value) (S : List Value) (h : zH), rn 146 38 [l0, l1, l2, l3, l4, l5, l6] S h = rn 146 41 [l0, l1, l2, l3, l4, l5, l6] (.long (10) :: S) h) ∧
  (∀ (l0 l1 l2 l3 l4 l5 l6 : Value) (x : Int64) (y : Int64) (S : List Value) (h : zH), rn 146 41 [l0, l1, l2, l3, l4, l5, l6] (.long y :: .long x :: S) h = dvJ y (rn 146 42 [l0, l1, l2, l3, l4, l5, l6] (.long (x - x / y * y) :: S) h)) ∧
  (∀ (l0 l1 l2 l3 l4 l5 l6 : Value) (x : Int64) (y : Int64) (S : List Value) (h : zH), rn 146 42 [l0, l1, l2, l3, l4, l5, l6] (.long y :: .long x :: S) h = rn 146 43 [l0, l1, l2, l3, l4, l5, l6] (.long (x + y) :: S) h) ∧
  (∀ (l0 l1 l2 l3 l4 l5 l6 : Value) (x : Int64) (S : List Value) (h : zH), rn 146 43 [l0, l1, l2, l3, l4, l5, l6] (.long x :: S) h = rn 146 44 [l0, l1, l2, l3, l4, l5, l6] (.int x.toInt32 :: S) h) ∧
  (∀ (l0 l1 l2 l3 l4 l5 l6 : Value) (x : Int32) (S : List Value) (h : zH), rn 146 44 [l0, l1, l2, l3, l4, l5, l6] (.int x :: S) h = rn 146 45 [l0, l1, l2, l3, l4, l5, l6] (.int (x.toUInt32 % 65536).toInt32 :: S) h) ∧
  (∀ (l0 l1 l2 l3 l4 l5 l6 : Value) (a : Nat) (j : Int32) (x : Int32) (S : List Value) (h : zH), rn 146 45 [l0, l1, l2, l3, l4, l5, l6] (.int x :: .int j :: .ref a :: S) h = zsi h a 2 j (vp_nar .char x) fun h => rn 146 46 [l0, l1, l2, l3, l4, l5, l6] S h) ∧
  (∀ (l0 l1 l2 l4 l5 l6 : Value) (x : Int64) (S : List Value) (h : zH), rn 146 46 [l0, l1, l2, .long x, l4, l5, l6] S h = rn 146 47 [l0, l1, l2, .long x, l4, l5, l6] (.long x :: S) h) ∧
  (∀ (l0 l1 l2 l3 l4 l5 l6 : Value) (S : List Value) (h : zH), rn 146 47 [l0, l1, l2, l3, l4, l5, l6] S h = rn 146 50 [l0, l1, l2, l3, l4, l5, l6] (.long (10) :: S) h) ∧
  (∀ (l0 l1 l2 l3 l4 l5 l6 : Value) (x : Int64) (y : Int64) (S : List Value) (h : zH), rn 146 50 [l0, l1, l2, l3, l4, l5, l6] (.long y :: .long x :: S) h = dvJ y (rn 146 51 [l0, l1, l2, l3, l4, l5, l6] (.long (x / y) :: S) h)) ∧
  (∀ (l0 l1 l2 l3 l4 l5 l6 : Value) (x : Int64) (S : List Value) (h : zH), rn 146 51 [l0, l1, l2, l3, l4, l5, l6] (.long x :: S) h = nl l2 (rn 146 52 [l0, l1, l2, .long x, .float 0, l5, l6] S h)) ∧
  (∀ (l0 l1 l2 l4 l5 l6 : Value) (x : Int64) (S : List Value) (h : zH), rn 146 52 [l0, l1, l2, .long x, l4, l5, l6] S h = rn 146 53 [l0, l1, l2, .long x, l4, l5, l6] (.long x :: S) h) ∧
  (∀ (l0 l1 l2 l3 l4 l5 l6 : Value) (S : List Value) (h : zH), rn 146 53 [l0, l1, l2, l3, l4, l5, l6] S h = rn 146 54 [l0, l1, l2, l3, l4, l5, l6] (.long 0 :: S) h) ∧
  (∀ (l0 l1 l2 l3 l4 l5 l6 : Value) (x : Int64) (y : Int64) (S : List Value) (h : zH), rn 146 54 [l0, l1, l2, l3, l4, l5, l6] (.long y :: .long x :: S) h = rn 146 55 [l0, l1, l2, l3, l4, l5, l6] (.int (lg_cmp x y) :: S) h) ∧
  (∀ (l0 l1 l2 l3 l4 l5 l6 : Value) (x : Int32) (S : List Value) (h : zH), rn 146 55 [l0, l1, l2, l3, l4, l5, l6] (.int x :: S) h = if x ≤ nI 0 then rn 146 63 [l0, l1, l2, l3, l4, l5, l6] S h else rn 146 58 [l0, l1, l2, l3, l4, l5, l6] S h) ∧
  (∀ (l0 l1 l2 l3 l4 l6 : Value) (x : Int32) (S : List Value) (h : zH), rn 146 58 [l0, l1, l2, l3, l4, .int x, l6] S h = rn 146 60 [l0, l1, l2, l3, l4, .int x, l6] (.int x :: S) h) ∧
  (∀ (l0 l1 l2 l3 l4 l5 l6 : Value) (x : Int32) (S : List Value) (h : zH), rn 146 60 [l0, l1, l2, l3, l4, l5, l6] (.int x :: S) h = if nI 0 < x then rn 146 25 [l0, l1, l2, l3, l4, l5, l6] S h else rn 146 63 [l0, l1, l2, l3, l4, l5, l6] S h) ∧
  (∀ (l0 l1 l2 l3 l4 l6 : Value) (x : Int32) (S : List Value) (h : zH), rn 146 63 [l0, l1, l2, l3, l4, .int x, l6] S h = rn 146 65 [l0, l1, l2, l3, l4, .int x, l6] (.int x :: S) h) ∧
  (∀ (l0 l1 l2 l3 l4 l5 l6 : Value) (x : Int32) (S : List Value) (h : zH), rn 146 65 [l0, l1, l2, l3, l4, l5, l6] (.int x :: S) h = nl l5 (rn 146 67 [l0, l1, l2, l3, l4, l5, .int x] S h)) ∧
  (∀ (l0 l1 l2 l3 l4 l5 l6 : Value) (S : List Value) (h : zH), rn 146 69 [l0, l1, l2, l3, l4, l5, l6] S h = rn 146 71 [l0, l1, l2, l3, l4, l5, l6] (.int (nI 19) :: S) h) ∧
  (∀ (l0 l1 l2 l3 l4 l5 l6 : Value) (x : Int32) (y : Int32) (S : List Value) (h : zH), rn 146 71 [l0, l1, l2, l3, l4, l5, l6] (.int y :: .int x :: S) h = if y ≤ x then rn 146 95 [l0, l1, l2, l3, l4, l5, l6] S h else rn 146 74 [l0, l1, l2, l3, l4, l5, l6] S h) ∧
  (∀ (l1 l2 l3 l4 l5 l6 : Value) (x : Nat) (S : List Value) (h : zH), rn 146 74 [.ref x, l1, l2, l3, l4, l5, l6] S h = rn 146 75 [.ref x, l1, l2, l3, l4, l5, l6] (.ref x :: S) h) ∧
  (∀ (l0 l1 l2 l3 l4 l5 l6 : Value) (a : Nat) (S : List Value) (h : zH), rn 146 75 [l0, l1, l2, l3, l4, l5, l6] (.ref a :: S) h = zgf h a 8 0 fun v => rn 146 78 [l0, l1, l2, l3, l4, l5, l6] (v :: S) h) ∧
  (∀ (l1 l2 l3 l4 l5 l6 : Value) (x : Nat) (S : List Value) (h : zH), rn 146 78 [.ref x, l1, l2, l3, l4, l5, l6] S h = rn 146 79 [.ref x, l1, l2, l3, l4, l5, l6] (.ref x :: S) h) ∧
  (∀ (l0 l1 l2 l3 l4 l5 l6 : Value) (a : Nat) (S : List Value) (h : zH), rn 146 79 [l0, l1, l2, l3, l4, l5, l6] (.ref a :: S) h = zgf h a 8 1 fun v => rn 146 82 [l0, l1, l2, l3, l4, l5, l6] (v :: S) h) ∧
  (∀ (l0 l1 l2 l3 l4 l5 : Value) (x : Int32) (S : List Value) (h : zH), rn 146 82 [l0, l1, l2, l3, l4, l5, .int x] S h = rn 146 84 [l0, l1, l2, l3, l4, l5, .int x] (.int x :: S) h) ∧
  (∀ (l0 l1 l2 l3 l4 l5 l6 : Value) (a : Nat) (j : Int32) (S : List Value) (h : zH), rn 146 84 [l0, l1, l2, l3, l4, l5, l6] (.int j :: .ref a :: S) h = zli h a 2 j fun x => rn 146 85 [l0, l1, l2, l3, l4, l5, l6] (.int x :: S) h) ∧
  (∀ (l0 l1 l2 l3 l4 l5 l6 : Value) (o : Nat) (v0 : Value) (S : List Value) (h : zH), rn 146 85 [l0, l1, l2, l3, l4, l5, l6] (v0 :: .ref o :: S) h = if zkd h o = 0 ∧ zsum S ≤ 8 then zcall (ev 133 [.ref o, v0] h) (fun v h => rn 146 88 [l0, l1, l2, l3, l4, l5, l6] (zpush v S) h) else none) ∧
  (∀ (l0 l1 l2 l3 l4 l5 l6 : Value) (v : Value) (S : List Value) (h : zH), rn 146 88 [l0, l1, l2, l3, l4, l5, l6] (v :: S) h = c1 v (rn 146 89 [l0, l1, l2, l3, l4, l5, l6] S h)) ∧
  (∀ (l0 l1 l2 l3 l4 l5 : Value) (x : Int32) (S : List Value) (h : zH), rn 146 89 [l0, l1, l2, l3, l4, l5, .int x] S h = nl l5 (rn 146 92 [l0, l1, l2, l3, l4, l5, .int (x + (nI 1))] S h)) ∧
  (∀ (l0 l1 l2 l3 l4 l5 l6 : Value) (S : List Value) (h : zH), rn 146 92 [l0, l1, l2, l3, l4, l5, l6] S h = rn 146 67 [l0, l1, l2, l3, l4, l5, l6] S h) ∧
  (∀ (l0 l1 l2 l3 l4 l5 l6 : Value) (h : zH), rn 146 95 [l0, l1, l2, l3, l4, l5, l6] [] h = some (none, h)) := ⟨fun _ _ _ _ _ _ _ _ _ => r_lload_n (show zdec 146 0 = some (.lload_n 1, 1) by decide +kernel) rfl rfl,
  fun _ _ _ _ _ _ _ _ _ => r_lconst (show zdec 146 1 = some (.lconst 0, 1) by decide +kernel) rfl rfl,
  fun _ _ _ _ _ _ _ _ _ _ _ => r_lcmp (show zdec 146 2 = some (.lcmp, 1) by decide +kernel) rfl,
  fun _ _ _ _ _ _ _ _ _ _ => r_ifge (show zdec 146 3 = some (.ifCond .ge 13, 3) by decide +kernel) rfl rfl,
  fun _ _ _ _ _ _ _ _ _ => r_aload_nr (show zdec 146 6 = some (.aload_n 0, 1) by decide +kernel) rfl rfl,
  fun _ _ _ _ _ _ _ _ _ _ => r_getfield (show zdec 146 7 = some (.getfield 12, 3) by decide +kernel) (show zft.lookup (146 * zKEY + 12) = some (8, 0) by decide +kernel) rfl,
  fun _ _ _ _ _ _ _ _ _ => r_bipush (show zdec 146 10 = some (.bipush 45, 2) by decide +kernel) rfl rfl,
  fun _ _ _ _ _ _ _ _ _ _ _ => r_cV [_] rfl (show zdec 146 12 = some (.invokevirtual 55, 3) by decide +kernel) (show zst.lookup (146 * zKEY + 55) = some (1, 133, 1, 0) by decide +kernel) (by decide) rfl,
  fun _ _ _ _ _ _ _ _ _ _ => r_pop (show zdec 146 15 = some (.pop, 1) by decide +kernel) rfl,
  fun _ _ _ _ _ _ _ _ _ => r_lload_n (show zdec 146 16 = some (.lload_n 1, 1) by decide +kernel) rfl rfl,
  fun _ _ _ _ _ _ _ _ _ _ => r_cM4 (show zdec 146 17 = some (.invokestatic 77, 3) by decide +kernel) (show zst.lookup (146 * zKEY + 77) = some (9, 147, 1, 4) by decide +kernel) rfl,
  fun _ _ _ _ _ _ _ _ _ _ => r_lstore_n (show zdec 146 20 = some (.lstore_n 3, 1) by decide +kernel) rfl rfl (Nat.le_of_ble_eq_true rfl) rfl rfl,
  fun _ _ _ _ _ _ _ _ _ => r_bipush (show zdec 146 21 = some (.bipush 19, 2) by decide +kernel) rfl rfl,
  fun _ _ _ _ _ _ _ _ _ _ => r_istore (show zdec 146 23 = some (.istore 5, 2) by decide +kernel) rfl (Nat.le_of_ble_eq_true rfl) rfl rfl,
  fun _ _ _ _ _ _ _ _ _ => r_aload_nr (show zdec 146 28 = some (.aload_n 0, 1) by decide +kernel) rfl rfl,
  fun _ _ _ _ _ _ _ _ _ _ => r_getfield (show zdec 146 29 = some (.getfield 18, 3) by decide +kernel) (show zft.lookup (146 * zKEY + 18) = some (8, 1) by decide +kernel) rfl,
  fun _ _ _ _ _ _ _ _ _ => r_iload (show zdec 146 32 = some (.iload 5, 2) by decide +kernel) rfl rfl,
  fun _ _ _ _ _ _ _ _ _ => r_ldc2 (show zdec 146 34 = some (.ldc2_w 83, 3) by decide +kernel) (show zlt.lookup (146 * zKEY + 83) = some 48 by decide +kernel) rfl,
  fun _ _ _ _ _ _ _ _ _ => r_lload_n (show zdec 146 37 = some (.lload_n 3, 1) by decide +kernel) rfl rfl,
  fun _ _ _ _ _ _ _ _ _ => r_ldc2 (show zdec 146 38 = some (.ldc2_w 85, 3) by decide +kernel) (show zlt.lookup (146 * zKEY + 85) = some 10 by decide +kernel) rfl,
  fun _ _ _ _ _ _ _ _ _ _ _ => r_lrem (show zdec 146 41 = some (.lrem, 1) by decide +kernel) rfl,
  fun _ _ _ _ _ _ _ _ _ _ _ => r_ladd (show zdec 146 42 = some (.ladd, 1) by decide +kernel) rfl,
  fun _ _ _ _ _ _ _ _ _ _ => r_l2i (show zdec 146 43 = some (.l2i, 1) by decide +kernel) rfl,
  fun _ _ _ _ _ _ _ _ _ _ => r_i2c (show zdec 146 44 = some (.i2c, 1) by decide +kernel) rfl,
  fun _ _ _ _ _ _ _ _ _ _ _ _ => r_cast (show zdec 146 45 = some (.castore, 1) by decide +kernel) rfl,
  fun _ _ _ _ _ _ _ _ _ => r_lload_n (show zdec 146 46 = some (.lload_n 3, 1) by decide +kernel) rfl rfl,
  fun _ _ _ _ _ _ _ _ _ => r_ldc2 (show zdec 146 47 = some (.ldc2_w 85, 3) by decide +kernel) (show zlt.lookup (146 * zKEY + 85) = some 10 by decide +kernel) rfl,
  fun _ _ _ _ _ _ _ _ _ _ _ => r_ldiv (show zdec 146 50 = some (.ldiv, 1) by decide +kernel) rfl,
  fun _ _ _ _ _ _ _ _ _ _ => r_lstore_n (show zdec 146 51 = some (.lstore_n 3, 1) by decide +kernel) rfl rfl (Nat.le_of_ble_eq_true rfl) rfl rfl,
  fun _ _ _ _ _ _ _ _ _ => r_lload_n (show zdec 146 52 = some (.lload_n 3, 1) by decide +kernel) rfl rfl,
  fun _ _ _ _ _ _ _ _ _ => r_lconst (show zdec 146 53 = some (.lconst 0, 1) by decide +kernel) rfl rfl,
  fun _ _ _ _ _ _ _ _ _ _ _ => r_lcmp (show zdec 146 54 = some (.lcmp, 1) by decide +kernel) rfl,
  fun _ _ _ _ _ _ _ _ _ _ => r_ifle (show zdec 146 55 = some (.ifCond .le 8, 3) by decide +kernel) rfl rfl,
  fun _ _ _ _ _ _ _ _ _ => r_iload (show zdec 146 58 = some (.iload 5, 2) by decide +kernel) rfl rfl,
  fun _ _ _ _ _ _ _ _ _ _ => r_ifgt (show zdec 146 60 = some (.ifCond .gt (-35), 3) by decide +kernel) rfl rfl,
  fun _ _ _ _ _ _ _ _ _ => r_iload (show zdec 146 63 = some (.iload 5, 2) by decide +kernel) rfl rfl,
  fun _ _ _ _ _ _ _ _ _ _ => r_istore (show zdec 146 65 = some (.istore 6, 2) by decide +kernel) rfl (Nat.le_of_ble_eq_true rfl) rfl rfl,
  fun _ _ _ _ _ _ _ _ _ => r_bipush (show zdec 146 69 = some (.bipush 19, 2) by decide +kernel) rfl rfl,
  fun _ _ _ _ _ _ _ _ _ _ _ => r_icmpge (show zdec 146 71 = some (.if_icmp .ge 24, 3) by decide +kernel) rfl rfl,
  fun _ _ _ _ _ _ _ _ _ => r_aload_nr (show zdec 146 74 = some (.aload_n 0, 1) by decide +kernel) rfl rfl,
  fun _ _ _ _ _ _ _ _ _ _ => r_getfield (show zdec 146 75 = some (.getfield 12, 3) by decide +kernel) (show zft.lookup (146 * zKEY + 12) = some (8, 0) by decide +kernel) rfl,
  fun _ _ _ _ _ _ _ _ _ => r_aload_nr (show zdec 146 78 = some (.aload_n 0, 1) by decide +kernel) rfl rfl,
  fun _ _ _ _ _ _ _ _ _ _ => r_getfield (show zdec 146 79 = some (.getfield 18, 3) by decide +kernel) (show zft.lookup (146 * zKEY + 18) = some (8, 1) by decide +kernel) rfl,
  fun _ _ _ _ _ _ _ _ _ => r_iload (show zdec 146 82 = some (.iload 6, 2) by decide +kernel) rfl rfl,
  fun _ _ _ _ _ _ _ _ _ _ _ => r_cald (show zdec 146 84 = some (.caload, 1) by decide +kernel) rfl,
  fun _ _ _ _ _ _ _ _ _ _ _ => r_cV [_] rfl (show zdec 146 85 = some (.invokevirtual 55, 3) by decide +kernel) (show zst.lookup (146 * zKEY + 55) = some (1, 133, 1, 0) by decide +kernel) (by decide) rfl,
  fun _ _ _ _ _ _ _ _ _ _ => r_pop (show zdec 146 88 = some (.pop, 1) by decide +kernel) rfl,
  fun _ _ _ _ _ _ _ _ _ => r_iinc (show zdec 146 89 = some (.iinc 6 1, 3) by decide +kernel) rfl rfl rfl (Nat.le_of_ble_eq_true rfl) rfl rfl,
  fun _ _ _ _ _ _ _ _ _ => r_goto (show zdec 146 92 = some (.goto (-25), 3) by decide +kernel) rfl,
  fun _ _ _ _ _ _ _ _ => r_vret (show zdec 146 95 = some (.return_, 1) by decide +kernel) (by decide +kernel)⟩
theorem zl_146_25 : ∀ (l0 l1 l2 l3 l4 l6 : Value) (x : Int32) (S : List Value) (h : zH), rn 146 25 [l0, l1, l2, l3, l4, .int x, l6] S h = nl l4 (rn 146 28 [l0, l1, l2, l3, l4, .int (x + (-1)), l6] S h) := fun _ _ _ _ _ _ _ _ _ => r_iinc (show zdec 146 25 = some (.iinc 5 (-1), 3) by decide +kernel) rfl rfl rfl (Nat.le_of_ble_eq_true rfl) rfl rfl
theorem zl_146_67 : ∀ (l0 l1 l2 l3 l4 l5 : Value) (x : Int32) (S : List Value) (h : zH), rn 146 67 [l0, l1, l2, l3, l4, l5, .int x] S h = rn 146 69 [l0, l1, l2, l3, l4, l5, .int x] (.int x :: S) h := fun _ _ _ _ _ _ _ _ _ => r_iload (show zdec 146 67 = some (.iload 6, 2) by decide +kernel) rfl rfl
theorem ze_146 : ∀ (a0 : Nat) (a1 : Int64) (h : zH), ev 146 [.ref a0, .long a1] h = rn 146 0 [.ref a0, .long a1, .float 0, .float 0, .float 0, .float 0, .float 0] [] h := fun _ _ _ => if_pos (Nat.le_of_ble_eq_true rfl)
-- PayrollRun/SlipText.signAt(I)I
theorem zr_148 : (∀ (l0 : Value) (x : Int32) (S : List Value) (h : zH), rn 148 0 [l0, .int x] S h = rn 148 1 [l0, .int x] (.int x :: S) h) ∧
  (∀ (l0 l1 : Value) (S : List Value) (h : zH), rn 148 1 [l0, l1] S h = rn 148 2 [l0, l1] (.int (-1) :: S) h) ∧
  (∀ (l0 l1 : Value) (x : Int32) (y : Int32) (S : List Value) (h : zH), rn 148 2 [l0, l1] (.int y :: .int x :: S) h = if x = y then rn 148 5 [l0, l1] S h else rn 148 13 [l0, l1] S h) ∧
  (∀ (l1 : Value) (x : Nat) (S : List Value) (h : zH), rn 148 5 [.ref x, l1] S h = rn 148 6 [.ref x, l1] (.ref x :: S) h) ∧
  (∀ (l0 l1 : Value) (a : Nat) (S : List Value) (h : zH), rn 148 6 [l0, l1] (.ref a :: S) h = zgf h a 8 0 fun v => rn 148 9 [l0, l1] (v :: S) h) ∧
  (∀ (l0 l1 : Value) (o : Nat) (S : List Value) (h : zH), rn 148 9 [l0, l1] (.ref o :: S) h = if zkd h o = 0 ∧ zsum S ≤ 8 then zcall (ev 149 [.ref o] h) (fun v h => rn 148 12 [l0, l1] (zpush v S) h) else none) ∧
  (∀ (l0 l1 : Value) (x : Int32) (h : zH), rn 148 12 [l0, l1] [.int x] h = some (some (.int x), h)) ∧
  (∀ (l0 : Value) (x : Int32) (S : List Value) (h : zH), rn 148 13 [l0, .int x] S h = rn 148 14 [l0, .int x] (.int x :: S) h) ∧
  (∀ (l0 l1 : Value) (S : List Value) (h : zH), rn 148 14 [l0, l1] S h = rn 148 15 [l0, l1] (.int (nI 0) :: S) h) ∧
  (∀ (l1 : Value) (x : Nat) (S : List Value) (h : zH), rn 148 15 [.ref x, l1] S h = rn 148 16 [.ref x, l1] (.ref x :: S) h) ∧
  (∀ (l0 l1 : Value) (a : Nat) (S : List Value) (h : zH), rn 148 16 [l0, l1] (.ref a :: S) h = zgf h a 8 0 fun v => rn 148 19 [l0, l1] (v :: S) h) ∧
  (∀ (l0 l1 : Value) (o : Nat) (S : List Value) (h : zH), rn 148 19 [l0, l1] (.ref o :: S) h = if zkd h o = 0 ∧ zsum S ≤ 8 then zcall (ev 149 [.ref o] h) (fun v h => rn 148 22 [l0, l1] (zpush v S) h) else none) ∧
  (∀ (l0 l1 : Value) (S : List Value) (h : zH), rn 148 22 [l0, l1] S h = rn 148 23 [l0, l1] (.int (nI 1) :: S) h) ∧
  (∀ (l0 l1 : Value) (x : Int32) (y : Int32) (S : List Value) (h : zH), rn 148 23 [l0, l1] (.int y :: .int x :: S) h = rn 148 24 [l0, l1] (.int (x - y) :: S) h) ∧
  (∀ (l0 l1 : Value) (v0 : Value) (v1 : Value) (v2 : Value) (S : List Value) (h : zH), rn 148 24 [l0, l1] (v2 :: v1 :: v0 :: S) h = if zsum S ≤ 8 then zcall (ev 24 [v0, v1, v2] h) (fun v h => rn 148 27 [l0, l1] (zpush v S) h) else none) ∧
  (∀ (l0 l1 : Value) (x : Int32) (S : List Value) (h : zH), rn 148 27 [l0, l1] (.int x :: S) h = if x = nI 0 then rn 148 41 [l0, l1] S h else rn 148 30 [l0, l1] S h) ∧
  (∀ (l1 : Value) (x : Nat) (S : List Value) (h : zH), rn 148 30 [.ref x, l1] S h = rn 148 31 [.ref x, l1] (.ref x :: S) h) ∧
  (∀ (l0 l1 : Value) (a : Nat) (S : List Value) (h : zH), rn 148 31 [l0, l1] (.ref a :: S) h = zgf h a 8 0 fun v => rn 148 34 [l0, l1] (v :: S) h) ∧
  (∀ (l0 : Value) (x : Int32) (S : List Value) (h : zH), rn 148 34 [l0, .int x] S h = rn 148 35 [l0, .int x] (.int x :: S) h) ∧
  (∀ (l0 l1 : Value) (o : Nat) (v0 : Value) (S : List Value) (h : zH), rn 148 35 [l0, l1] (v0 :: .ref o :: S) h = if zkd h o = 0 ∧ zsum S ≤ 8 then zcall (ev 151 [.ref o, v0] h) (fun v h => rn 148 38 [l0, l1] (zpush v S) h) else none) ∧
  (∀ (l0 l1 : Value) (S : List Value) (h : zH), rn 148 38 [l0, l1] S h = rn 148 43 [l0, l1] S h) ∧
  (∀ (l0 l1 : Value) (S : List Value) (h : zH), rn 148 41 [l0, l1] S h = rn 148 43 [l0, l1] (.int (-2) :: S) h) ∧
  (∀ (l0 l1 : Value) (x : Int32) (h : zH), rn 148 43 [l0, l1] [.int x] h = some (some (.int x), h)) := ⟨fun _ _ _ _ => r_iload_n (show zdec 148 0 = some (.iload_n 1, 1) by decide +kernel) rfl rfl,
  fun _ _ _ _ => r_iconst (show zdec 148 1 = some (.iconst (-1), 1) by decide +kernel) rfl rfl,
  fun _ _ _ _ _ _ => r_icmpne (show zdec 148 2 = some (.if_icmp .ne 11, 3) by decide +kernel) rfl rfl,
  fun _ _ _ _ => r_aload_nr (show zdec 148 5 = some (.aload_n 0, 1) by decide +kernel) rfl rfl,
  fun _ _ _ _ _ => r_getfield (show zdec 148 6 = some (.getfield 12, 3) by decide +kernel) (show zft.lookup (148 * zKEY + 12) = some (8, 0) by decide +kernel) rfl,
  fun _ _ _ _ _ => r_cV [] rfl (show zdec 148 9 = some (.invokevirtual 65, 3) by decide +kernel) (show zst.lookup (148 * zKEY + 65) = some (1, 149, 0, 0) by decide +kernel) (by decide) rfl,
  fun _ _ _ _ => r_ireti (show zdec 148 12 = some (.ireturn, 1) by decide +kernel) (by decide +kernel),
  fun _ _ _ _ => r_iload_n (show zdec 148 13 = some (.iload_n 1, 1) by decide +kernel) rfl rfl,
  fun _ _ _ _ => r_iconst (show zdec 148 14 = some (.iconst 0, 1) by decide +kernel) rfl rfl,
  fun _ _ _ _ => r_aload_nr (show zdec 148 15 = some (.aload_n 0, 1) by decide +kernel) rfl rfl,
  fun _ _ _ _ _ => r_getfield (show zdec 148 16 = some (.getfield 12, 3) by decide +kernel) (show zft.lookup (148 * zKEY + 12) = some (8, 0) by decide +kernel) rfl,
  fun _ _ _ _ _ => r_cV [] rfl (show zdec 148 19 = some (.invokevirtual 65, 3) by decide +kernel) (show zst.lookup (148 * zKEY + 65) = some (1, 149, 0, 0) by decide +kernel) (by decide) rfl,
  fun _ _ _ _ => r_iconst (show zdec 148 22 = some (.iconst 1, 1) by decide +kernel) rfl rfl,
  fun _ _ _ _ _ _ => r_isub (show zdec 148 23 = some (.isub, 1) by decide +kernel) rfl,
  fun _ _ _ _ _ _ _ => r_cS [_, _, _] rfl (show zdec 148 24 = some (.invokestatic 69, 3) by decide +kernel) (show zst.lookup (148 * zKEY + 69) = some (3, 24, 3, 0) by decide +kernel) (by decide) rfl,
  fun _ _ _ _ _ => r_ifeq (show zdec 148 27 = some (.ifCond .eq 14, 3) by decide +kernel) rfl rfl,
  fun _ _ _ _ => r_aload_nr (show zdec 148 30 = some (.aload_n 0, 1) by decide +kernel) rfl rfl,
  fun _ _ _ _ _ => r_getfield (show zdec 148 31 = some (.getfield 12, 3) by decide +kernel) (show zft.lookup (148 * zKEY + 12) = some (8, 0) by decide +kernel) rfl,
  fun _ _ _ _ => r_iload_n (show zdec 148 34 = some (.iload_n 1, 1) by decide +kernel) rfl rfl,
  fun _ _ _ _ _ _ => r_cV [_] rfl (show zdec 148 35 = some (.invokevirtual 73, 3) by decide +kernel) (show zst.lookup (148 * zKEY + 73) = some (1, 151, 1, 0) by decide +kernel) (by decide) rfl,
  fun _ _ _ _ => r_goto (show zdec 148 38 = some (.goto 5, 3) by decide +kernel) rfl,
  fun _ _ _ _ => r_bipush (show zdec 148 41 = some (.bipush (-2), 2) by decide +kernel) rfl rfl,
  fun _ _ _ _ => r_ireti (show zdec 148 43 = some (.ireturn, 1) by decide +kernel) (by decide +kernel)⟩
theorem ze_148 : ∀ (a0 : Nat) (a1 : Int32) (h : zH), ev 148 [.ref a0, .int a1] h = rn 148 0 [.ref a0, .int a1] [] h := fun _ _ _ => if_pos (Nat.le_of_ble_eq_true rfl)
-- PayrollRun/CommandText.append(I)I
theorem zr_180 : (∀ (l0 : Value) (x : Int32) (S : List Value) (h : zH), rn 180 0 [l0, .int x] S h = rn 180 1 [l0, .int x] (.int x :: S) h) ∧
  (∀ (l0 l1 : Value) (S : List Value) (h : zH), rn 180 1 [l0, l1] S h = rn 180 3 [l0, l1] (.int (nI 32) :: S) h) ∧
  (∀ (l0 l1 : Value) (S : List Value) (h : zH), rn 180 3 [l0, l1] S h = rn 180 5 [l0, l1] (.int (nI 126) :: S) h) ∧
  (∀ (l0 l1 : Value) (v0 : Value) (v1 : Value) (v2 : Value) (S : List Value) (h : zH), rn 180 5 [l0, l1] (v2 :: v1 :: v0 :: S) h = if zsum S ≤ 8 then zcall (ev 24 [v0, v1, v2] h) (fun v h => rn 180 8 [l0, l1] (zpush v S) h) else none) ∧
  (∀ (l0 l1 : Value) (x : Int32) (S : List Value) (h : zH), rn 180 8 [l0, l1] (.int x :: S) h = if x = nI 0 then rn 180 11 [l0, l1] S h else rn 180 13 [l0, l1] S h) ∧
  (∀ (l0 l1 : Value) (S : List Value) (h : zH), rn 180 11 [l0, l1] S h = rn 180 12 [l0, l1] (.int (-1) :: S) h) ∧
  (∀ (l0 l1 : Value) (x : Int32) (h : zH), rn 180 12 [l0, l1] [.int x] h = some (some (.int x), h)) ∧
  (∀ (l1 : Value) (x : Nat) (S : List Value) (h : zH), rn 180 13 [.ref x, l1] S h = rn 180 14 [.ref x, l1] (.ref x :: S) h) ∧
  (∀ (l0 l1 : Value) (a : Nat) (S : List Value) (h : zH), rn 180 14 [l0, l1] (.ref a :: S) h = zgf h a 3 1 fun v => rn 180 17 [l0, l1] (v :: S) h) ∧
  (∀ (l0 l1 : Value) (S : List Value) (h : zH), rn 180 17 [l0, l1] S h = rn 180 19 [l0, l1] (.int (nI 60) :: S) h) ∧
  (∀ (l0 l1 : Value) (x : Int32) (y : Int32) (S : List Value) (h : zH), rn 180 19 [l0, l1] (.int y :: .int x :: S) h = if x < y then rn 180 25 [l0, l1] S h else rn 180 22 [l0, l1] S h) ∧
  (∀ (l0 l1 : Value) (S : List Value) (h : zH), rn 180 22 [l0, l1] S h = rn 180 24 [l0, l1] (.int (-3) :: S) h) ∧
  (∀ (l0 l1 : Value) (x : Int32) (h : zH), rn 180 24 [l0, l1] [.int x] h = some (some (.int x), h)) ∧
  (∀ (l1 : Value) (x : Nat) (S : List Value) (h : zH), rn 180 25 [.ref x, l1] S h = rn 180 26 [.ref x, l1] (.ref x :: S) h) ∧
  (∀ (l0 l1 : Value) (a : Nat) (S : List Value) (h : zH), rn 180 26 [l0, l1] (.ref a :: S) h = zgf h a 3 0 fun v => rn 180 29 [l0, l1] (v :: S) h) ∧
  (∀ (l1 : Value) (x : Nat) (S : List Value) (h : zH), rn 180 29 [.ref x, l1] S h = rn 180 30 [.ref x, l1] (.ref x :: S) h) ∧
  (∀ (l0 l1 : Value) (a : Nat) (S : List Value) (h : zH), rn 180 30 [l0, l1] (.ref a :: S) h = zgf h a 3 1 fun v => rn 180 33 [l0, l1] (v :: S) h) ∧
  (∀ (l0 : Value) (x : Int32) (S : List Value) (h : zH), rn 180 33 [l0, .int x] S h = rn 180 34 [l0, .int x] (.int x :: S) h) ∧
  (∀ (l0 l1 : Value) (x : Int32) (S : List Value) (h : zH), rn 180 34 [l0, l1] (.int x :: S) h = rn 180 35 [l0, l1] (.int (x.toUInt32 % 65536).toInt32 :: S) h) ∧
  (∀ (l0 l1 : Value) (a : Nat) (j : Int32) (x : Int32) (S : List Value) (h : zH), rn 180 35 [l0, l1] (.int x :: .int j :: .ref a :: S) h = zsi h a 2 j (vp_nar .char x) fun h => rn 180 36 [l0, l1] S h) ∧
  (∀ (l1 : Value) (x : Nat) (S : List Value) (h : zH), rn 180 36 [.ref x, l1] S h = rn 180 37 [.ref x, l1] (.ref x :: S) h) ∧
  (∀ (l0 l1 : Value) (v : Value) (S : List Value) (h : zH), rn 180 37 [l0, l1] (v :: S) h = c1 v (rn 180 38 [l0, l1] (v :: v :: S) h)) ∧
  (∀ (l0 l1 : Value) (a : Nat) (S : List Value) (h : zH), rn 180 38 [l0, l1] (.ref a :: S) h = zgf h a 3 1 fun v => rn 180 41 [l0, l1] (v :: S) h) ∧
  (∀ (l0 l1 : Value) (S : List Value) (h : zH), rn 180 41 [l0, l1] S h = rn 180 42 [l0, l1] (.int (nI 1) :: S) h) ∧
  (∀ (l0 l1 : Value) (x : Int32) (y : Int32) (S : List Value) (h : zH), rn 180 42 [l0, l1] (.int y :: .int x :: S) h = rn 180 43 [l0, l1] (.int (x + y) :: S) h) ∧
  (∀ (l0 l1 : Value) (a : Nat) (v : Value) (S : List Value) (h : zH), rn 180 43 [l0, l1] (v :: .ref a :: S) h = zpf h a 3 1 v fun h => rn 180 46 [l0, l1] S h) ∧
  (∀ (l1 : Value) (x : Nat) (S : List Value) (h : zH), rn 180 46 [.ref x, l1] S h = rn 180 47 [.ref x, l1] (.ref x :: S) h) ∧
  (∀ (l0 l1 : Value) (a : Nat) (S : List Value) (h : zH), rn 180 47 [l0, l1] (.ref a :: S) h = zgf h a 3 1 fun v => rn 180 50 [l0, l1] (v :: S) h) ∧
  (∀ (l0 l1 : Value) (x : Int32) (h : zH), rn 180 50 [l0, l1] [.int x] h = some (some (.int x), h)) := ⟨fun _ _ _ _ => r_iload_n (show zdec 180 0 = some (.iload_n 1, 1) by decide +kernel) rfl rfl,
  fun _ _ _ _ => r_bipush (show zdec 180 1 = some (.bipush 32, 2) by decide +kernel) rfl rfl,
  fun _ _ _ _ => r_bipush (show zdec 180 3 = some (.bipush 126, 2) by decide +kernel) rfl rfl,
  fun _ _ _ _ _ _ _ => r_cS [_, _, _] rfl (show zdec 180 5 = some (.invokestatic 32, 3) by decide +kernel) (show zst.lookup (180 * zKEY + 32) = some (3, 24, 3, 0) by decide +kernel) (by decide) rfl,
  fun _ _ _ _ _ => r_ifne (show zdec 180 8 = some (.ifCond .ne 5, 3) by decide +kernel) rfl rfl,
  fun _ _ _ _ => r_iconst (show zdec 180 11 = some (.iconst (-1), 1) by decide +kernel) rfl rfl,
  fun _ _ _ _ => r_ireti (show zdec 180 12 = some (.ireturn, 1) by decide +kernel) (by decide +kernel),
  fun _ _ _ _ => r_aload_nr (show zdec 180 13 = some (.aload_n 0, 1) by decide +kernel) rfl rfl,
  fun _ _ _ _ _ => r_getfield (show zdec 180 14 = some (.getfield 15, 3) by decide +kernel) (show zft.lookup (180 * zKEY + 15) = some (3, 1) by decide +kernel) rfl,
  fun _ _ _ _ => r_bipush (show zdec 180 17 = some (.bipush 60, 2) by decide +kernel) rfl rfl,
  fun _ _ _ _ _ _ => r_icmplt (show zdec 180 19 = some (.if_icmp .lt 6, 3) by decide +kernel) rfl rfl,
  fun _ _ _ _ => r_bipush (show zdec 180 22 = some (.bipush (-3), 2) by decide +kernel) rfl rfl,
  fun _ _ _ _ => r_ireti (show zdec 180 24 = some (.ireturn, 1) by decide +kernel) (by decide +kernel),
  fun _ _ _ _ => r_aload_nr (show zdec 180 25 = some (.aload_n 0, 1) by decide +kernel) rfl rfl,
  fun _ _ _ _ _ => r_getfield (show zdec 180 26 = some (.getfield 11, 3) by decide +kernel) (show zft.lookup (180 * zKEY + 11) = some (3, 0) by decide +kernel) rfl,
  fun _ _ _ _ => r_aload_nr (show zdec 180 29 = some (.aload_n 0, 1) by decide +kernel) rfl rfl,
  fun _ _ _ _ _ => r_getfield (show zdec 180 30 = some (.getfield 15, 3) by decide +kernel) (show zft.lookup (180 * zKEY + 15) = some (3, 1) by decide +kernel) rfl,
  fun _ _ _ _ => r_iload_n (show zdec 180 33 = some (.iload_n 1, 1) by decide +kernel) rfl rfl,
  fun _ _ _ _ _ => r_i2c (show zdec 180 34 = some (.i2c, 1) by decide +kernel) rfl,
  fun _ _ _ _ _ _ _ => r_cast (show zdec 180 35 = some (.castore, 1) by decide +kernel) rfl,
  fun _ _ _ _ => r_aload_nr (show zdec 180 36 = some (.aload_n 0, 1) by decide +kernel) rfl rfl,
  fun _ _ _ _ _ => r_dup (show zdec 180 37 = some (.dup, 1) by decide +kernel) rfl,
  fun _ _ _ _ _ => r_getfield (show zdec 180 38 = some (.getfield 15, 3) by decide +kernel) (show zft.lookup (180 * zKEY + 15) = some (3, 1) by decide +kernel) rfl,
  fun _ _ _ _ => r_iconst (show zdec 180 41 = some (.iconst 1, 1) by decide +kernel) rfl rfl,
  fun _ _ _ _ _ _ => r_iadd (show zdec 180 42 = some (.iadd, 1) by decide +kernel) rfl,
  fun _ _ _ _ _ _ => r_putfield (show zdec 180 43 = some (.putfield 15, 3) by decide +kernel) (show zft.lookup (180 * zKEY + 15) = some (3, 1) by decide +kernel) (by decide +kernel) rfl,
  fun _ _ _ _ => r_aload_nr (show zdec 180 46 = some (.aload_n 0, 1) by decide +kernel) rfl rfl,
  fun _ _ _ _ _ => r_getfield (show zdec 180 47 = some (.getfield 15, 3) by decide +kernel) (show zft.lookup (180 * zKEY + 15) = some (3, 1) by decide +kernel) rfl,
  fun _ _ _ _ => r_ireti (show zdec 180 50 = some (.ireturn, 1) by decide +kernel) (by decide +kernel)⟩
theorem ze_180 : ∀ (a0 : Nat) (a1 : Int32) (h : zH), ev 180 [.ref a0, .int a1] h = rn 180 0 [.ref a0, .int a1] [] h := fun _ _ _ => if_pos (Nat.le_of_ble_eq_true rfl)
-- PayrollRun/CommandText.read()I
theorem zr_182 : (∀ (l1 l2 : Value) (x : Nat) (S : List Value) (h : zH), rn 182 0 [.ref x, l1, l2] S h = rn 182 1 [.ref x, l1, l2] (.ref x :: S) h) ∧
  (∀ (l0 l1 l2 : Value) (S : List Value) (h : zH), rn 182 1 [l0, l1, l2] S h = rn 182 2 [l0, l1, l2] (.int (nI 0) :: S) h) ∧
  (∀ (l0 l1 l2 : Value) (a : Nat) (v : Value) (S : List Value) (h : zH), rn 182 2 [l0, l1, l2] (v :: .ref a :: S) h = zpf h a 3 2 v fun h => rn 182 5 [l0, l1, l2] S h) ∧
  (∀ (l0 l1 l2 : Value) (S : List Value) (h : zH), rn 182 5 [l0, l1, l2] S h = rn 182 6 [l0, l1, l2] (.int (nI 0) :: S) h) ∧
  (∀ (l0 l1 l2 : Value) (x : Int32) (S : List Value) (h : zH), rn 182 6 [l0, l1, l2] (.int x :: S) h = nl l0 (rn 182 7 [l0, .int x, l2] S h)) ∧
  (∀ (l0 l1 l2 : Value) (a : Nat) (S : List Value) (h : zH), rn 182 8 [l0, l1, l2] (.ref a :: S) h = zgf h a 3 2 fun v => rn 182 11 [l0, l1, l2] (v :: S) h) ∧
  (∀ (l0 l1 l2 : Value) (S : List Value) (h : zH), rn 182 11 [l0, l1, l2] S h = rn 182 13 [l0, l1, l2] (.int (nI 12) :: S) h) ∧
  (∀ (l0 l1 l2 : Value) (x : Int32) (y : Int32) (S : List Value) (h : zH), rn 182 13 [l0, l1, l2] (.int y :: .int x :: S) h = if y ≤ x then rn 182 61 [l0, l1, l2] S h else rn 182 16 [l0, l1, l2] S h) ∧
  (∀ (l1 l2 : Value) (x : Nat) (S : List Value) (h : zH), rn 182 16 [.ref x, l1, l2] S h = rn 182 17 [.ref x, l1, l2] (.ref x :: S) h) ∧
  (∀ (l0 l2 : Value) (x : Int32) (S : List Value) (h : zH), rn 182 17 [l0, .int x, l2] S h = rn 182 18 [l0, .int x, l2] (.int x :: S) h) ∧
  (∀ (l0 l1 l2 : Value) (o : Nat) (v0 : Value) (S : List Value) (h : zH), rn 182 18 [l0, l1, l2] (v0 :: .ref o :: S) h = if zkd h o = 3 ∧ zsum S ≤ 8 then zcall (ev 183 [.ref o, v0] h) (fun v h => rn 182 21 [l0, l1, l2] (zpush v S) h) else none) ∧
  (∀ (l0 l1 l2 : Value) (x : Int32) (S : List Value) (h : zH), rn 182 21 [l0, l1, l2] (.int x :: S) h = nl l1 (rn 182 22 [l0, l1, .int x] S h)) ∧
  (∀ (l0 l1 : Value) (x : Int32) (S : List Value) (h : zH), rn 182 22 [l0, l1, .int x] S h = rn 182 23 [l0, l1, .int x] (.int x :: S) h) ∧
  (∀ (l0 l1 l2 : Value) (v0 : Value) (S : List Value) (h : zH), rn 182 23 [l0, l1, l2] (v0 :: S) h = if zsum S ≤ 8 then zcall (ev 195 [v0] h) (fun v h => rn 182 26 [l0, l1, l2] (zpush v S) h) else none) ∧
  (∀ (l0 l1 l2 : Value) (x : Int32) (S : List Value) (h : zH), rn 182 26 [l0, l1, l2] (.int x :: S) h = if x = nI 0 then rn 182 34 [l0, l1, l2] S h else rn 182 29 [l0, l1, l2] S h) ∧
  (∀ (l0 l1 : Value) (x : Int32) (S : List Value) (h : zH), rn 182 29 [l0, l1, .int x] S h = rn 182 30 [l0, l1, .int x] (.int x :: S) h) ∧
  (∀ (l0 l1 l2 : Value) (v0 : Value) (S : List Value) (h : zH), rn 182 30 [l0, l1, l2] (v0 :: S) h = if zsum S ≤ 8 then zcall (ev 196 [v0] h) (fun v h => rn 182 33 [l0, l1, l2] (zpush v S) h) else none) ∧
  (∀ (l0 l1 l2 : Value) (x : Int32) (h : zH), rn 182 33 [l0, l1, l2] [.int x] h = some (some (.int x), h)) ∧
  (∀ (l1 l2 : Value) (x : Nat) (S : List Value) (h : zH), rn 182 34 [.ref x, l1, l2] S h = rn 182 35 [.ref x, l1, l2] (.ref x :: S) h) ∧
  (∀ (l0 l1 l2 : Value) (v : Value) (S : List Value) (h : zH), rn 182 35 [l0, l1, l2] (v :: S) h = c1 v (rn 182 36 [l0, l1, l2] (v :: v :: S) h)) ∧
  (∀ (l0 l1 l2 : Value) (a : Nat) (S : List Value) (h : zH), rn 182 36 [l0, l1, l2] (.ref a :: S) h = zgf h a 3 2 fun v => rn 182 39 [l0, l1, l2] (v :: S) h) ∧
  (∀ (l0 l1 l2 : Value) (S : List Value) (h : zH), rn 182 39 [l0, l1, l2] S h = rn 182 40 [l0, l1, l2] (.int (nI 1) :: S) h) ∧
  (∀ (l0 l1 l2 : Value) (x : Int32) (y : Int32) (S : List Value) (h : zH), rn 182 40 [l0, l1, l2] (.int y :: .int x :: S) h = rn 182 41 [l0, l1, l2] (.int (x + y) :: S) h) ∧
  (∀ (l0 l1 l2 : Value) (a : Nat) (v : Value) (S : List Value) (h : zH), rn 182 41 [l0, l1, l2] (v :: .ref a :: S) h = zpf h a 3 2 v fun h => rn 182 44 [l0, l1, l2] S h) ∧
  (∀ (l0 l1 : Value) (x : Int32) (S : List Value) (h : zH), rn 182 44 [l0, l1, .int x] S h = rn 182 45 [l0, l1, .int x] (.int x :: S) h) ∧
  (∀ (l1 l2 : Value) (x : Nat) (S : List Value) (h : zH), rn 182 45 [.ref x, l1, l2] S h = rn 182 46 [.ref x, l1, l2] (.ref x :: S) h) ∧
  (∀ (l0 l1 l2 : Value) (a : Nat) (S : List Value) (h : zH), rn 182 46 [l0, l1, l2] (.ref a :: S) h = zgf h a 3 1 fun v => rn 182 49 [l0, l1, l2] (v :: S) h) ∧
  (∀ (l0 l1 l2 : Value) (x : Int32) (y : Int32) (S : List Value) (h : zH), rn 182 49 [l0, l1, l2] (.int y :: .int x :: S) h = if x < y then rn 182 54 [l0, l1, l2] S h else rn 182 52 [l0, l1, l2] S h) ∧
  (∀ (l0 l1 l2 : Value) (S : List Value) (h : zH), rn 182 52 [l0, l1, l2] S h = rn 182 53 [l0, l1, l2] (.int (-1) :: S) h) ∧
  (∀ (l0 l1 l2 : Value) (x : Int32) (h : zH), rn 182 53 [l0, l1, l2] [.int x] h = some (some (.int x), h)) ∧
  (∀ (l0 l1 : Value) (x : Int32) (S : List Value) (h : zH), rn 182 54 [l0, l1, .int x] S h = rn 182 55 [l0, l1, .int x] (.int x :: S) h) ∧
  (∀ (l0 l1 l2 : Value) (S : List Value) (h : zH), rn 182 55 [l0, l1, l2] S h = rn 182 56 [l0, l1, l2] (.int (nI 1) :: S) h) ∧
  (∀ (l0 l1 l2 : Value) (x : Int32) (y : Int32) (S : List Value) (h : zH), rn 182 56 [l0, l1, l2] (.int y :: .int x :: S) h = rn 182 57 [l0, l1, l2] (.int (x + y) :: S) h) ∧
  (∀ (l0 l1 l2 : Value) (x : Int32) (S : List Value) (h : zH), rn 182 57 [l0, l1, l2] (.int x :: S) h = nl l0 (rn 182 58 [l0, .int x, l2] S h)) ∧
  (∀ (l0 l1 l2 : Value) (S : List Value) (h : zH), rn 182 58 [l0, l1, l2] S h = rn 182 7 [l0, l1, l2] S h) ∧
  (∀ (l0 l2 : Value) (x : Int32) (S : List Value) (h : zH), rn 182 61 [l0, .int x, l2] S h = rn 182 62 [l0, .int x, l2] (.int x :: S) h) ∧
  (∀ (l0 l1 l2 : Value) (x : Int32) (h : zH), rn 182 62 [l0, l1, l2] [.int x] h = some (some (.int x), h)) := ⟨fun _ _ _ _ _ => r_aload_nr (show zdec 182 0 = some (.aload_n 0, 1) by decide +kernel) rfl rfl,
  fun _ _ _ _ _ => r_iconst (show zdec 182 1 = some (.iconst 0, 1) by decide +kernel) rfl rfl,
  fun _ _ _ _ _ _ _ => r_putfield (show zdec 182 2 = some (.putfield 19, 3) by decide +kernel) (show zft.lookup (182 * zKEY + 19) = some (3, 2) by decide +kernel) (by decide +kernel) rfl,
  fun _ _ _ _ _ => r_iconst (show zdec 182 5 = some (.iconst 0, 1) by decide +kernel) rfl rfl,
  fun _ _ _ _ _ _ => r_istore_n (show zdec 182 6 = some (.istore_n 1, 1) by decide +kernel) rfl rfl (Nat.le_of_ble_eq_true rfl) rfl rfl,
  fun _ _ _ _ _ _ => r_getfield (show zdec 182 8 = some (.getfield 19, 3) by decide +kernel) (show zft.lookup (182 * zKEY + 19) = some (3, 2) by decide +kernel) rfl,
  fun _ _ _ _ _ => r_bipush (show zdec 182 11 = some (.bipush 12, 2) by decide +kernel) rfl rfl,
  fun _ _ _ _ _ _ _ => r_icmpge (show zdec 182 13 = some (.if_icmp .ge 48, 3) by decide +kernel) rfl rfl,
  fun _ _ _ _ _ => r_aload_nr (show zdec 182 16 = some (.aload_n 0, 1) by decide +kernel) rfl rfl,
  fun _ _ _ _ _ => r_iload_n (show zdec 182 17 = some (.iload_n 1, 1) by decide +kernel) rfl rfl,
  fun _ _ _ _ _ _ _ => r_cV [_] rfl (show zdec 182 18 = some (.invokevirtual 36, 3) by decide +kernel) (show zst.lookup (182 * zKEY + 36) = some (1, 183, 1, 3) by decide +kernel) (by decide) rfl,
  fun _ _ _ _ _ _ => r_istore_n (show zdec 182 21 = some (.istore_n 2, 1) by decide +kernel) rfl rfl (Nat.le_of_ble_eq_true rfl) rfl rfl,
  fun _ _ _ _ _ => r_iload_n (show zdec 182 22 = some (.iload_n 2, 1) by decide +kernel) rfl rfl,
  fun _ _ _ _ _ _ => r_cS [_] rfl (show zdec 182 23 = some (.invokestatic 40, 3) by decide +kernel) (show zst.lookup (182 * zKEY + 40) = some (0, 195, 1, 0) by decide +kernel) (by decide) rfl,
  fun _ _ _ _ _ _ => r_ifeq (show zdec 182 26 = some (.ifCond .eq 8, 3) by decide +kernel) rfl rfl,
  fun _ _ _ _ _ => r_iload_n (show zdec 182 29 = some (.iload_n 2, 1) by decide +kernel) rfl rfl,
  fun _ _ _ _ _ _ => r_cS [_] rfl (show zdec 182 30 = some (.invokestatic 44, 3) by decide +kernel) (show zst.lookup (182 * zKEY + 44) = some (0, 196, 1, 0) by decide +kernel) (by decide) rfl,
  fun _ _ _ _ _ => r_ireti (show zdec 182 33 = some (.ireturn, 1) by decide +kernel) (by decide +kernel),
  fun _ _ _ _ _ => r_aload_nr (show zdec 182 34 = some (.aload_n 0, 1) by decide +kernel) rfl rfl,
  fun _ _ _ _ _ _ => r_dup (show zdec 182 35 = some (.dup, 1) by decide +kernel) rfl,
  fun _ _ _ _ _ _ => r_getfield (show zdec 182 36 = some (.getfield 19, 3) by decide +kernel) (show zft.lookup (182 * zKEY + 19) = some (3, 2) by decide +kernel) rfl,
  fun _ _ _ _ _ => r_iconst (show zdec 182 39 = some (.iconst 1, 1) by decide +kernel) rfl rfl,
  fun _ _ _ _ _ _ _ => r_iadd (show zdec 182 40 = some (.iadd, 1) by decide +kernel) rfl,
  fun _ _ _ _ _ _ _ => r_putfield (show zdec 182 41 = some (.putfield 19, 3) by decide +kernel) (show zft.lookup (182 * zKEY + 19) = some (3, 2) by decide +kernel) (by decide +kernel) rfl,
  fun _ _ _ _ _ => r_iload_n (show zdec 182 44 = some (.iload_n 2, 1) by decide +kernel) rfl rfl,
  fun _ _ _ _ _ => r_aload_nr (show zdec 182 45 = some (.aload_n 0, 1) by decide +kernel) rfl rfl,
  fun _ _ _ _ _ _ => r_getfield (show zdec 182 46 = some (.getfield 15, 3) by decide +kernel) (show zft.lookup (182 * zKEY + 15) = some (3, 1) by decide +kernel) rfl,
  fun _ _ _ _ _ _ _ => r_icmplt (show zdec 182 49 = some (.if_icmp .lt 5, 3) by decide +kernel) rfl rfl,
  fun _ _ _ _ _ => r_iconst (show zdec 182 52 = some (.iconst (-1), 1) by decide +kernel) rfl rfl,
  fun _ _ _ _ _ => r_ireti (show zdec 182 53 = some (.ireturn, 1) by decide +kernel) (by decide +kernel),
  fun _ _ _ _ _ => r_iload_n (show zdec 182 54 = some (.iload_n 2, 1) by decide +kernel) rfl rfl,
  fun _ _ _ _ _ => r_iconst (show zdec 182 55 = some (.iconst 1, 1) by decide +kernel) rfl rfl,
  fun _ _ _ _ _ _ _ => r_iadd (show zdec 182 56 = some (.iadd, 1) by decide +kernel) rfl,
  fun _ _ _ _ _ _ => r_istore_n (show zdec 182 57 = some (.istore_n 1, 1) by decide +kernel) rfl rfl (Nat.le_of_ble_eq_true rfl) rfl rfl,
  fun _ _ _ _ _ => r_goto (show zdec 182 58 = some (.goto (-51), 3) by decide +kernel) rfl,
  fun _ _ _ _ _ => r_iload_n (show zdec 182 61 = some (.iload_n 1, 1) by decide +kernel) rfl rfl,
  fun _ _ _ _ _ => r_ireti (show zdec 182 62 = some (.ireturn, 1) by decide +kernel) (by decide +kernel)⟩
theorem zl_182_7 : ∀ (l1 l2 : Value) (x : Nat) (S : List Value) (h : zH), rn 182 7 [.ref x, l1, l2] S h = rn 182 8 [.ref x, l1, l2] (.ref x :: S) h := fun _ _ _ _ _ => r_aload_nr (show zdec 182 7 = some (.aload_n 0, 1) by decide +kernel) rfl rfl
theorem ze_182 : ∀ (a0 : Nat) (h : zH), ev 182 [.ref a0] h = rn 182 0 [.ref a0, .float 0, .float 0] [] h := fun _ _ => if_pos (Nat.le_of_ble_eq_true rfl)
-- PayrollRun/CommandText.readCommand(I)I
theorem zr_183 : (∀ (l1 l2 l3 l4 : Value) (x : Nat) (S : List Value) (h : zH), rn 183 0 [.ref x, l1, l2, l3, l4] S h = rn 183 1 [.ref x, l1, l2, l3, l4] (.ref x :: S) h) ∧
  (∀ (l0 l2 l3 l4 : Value) (x : Int32) (S : List Value) (h : zH), rn 183 1 [l0, .int x, l2, l3, l4] S h = rn 183 2 [l0, .int x, l2, l3, l4] (.int x :: S) h) ∧
  (∀ (l0 l1 l2 l3 l4 : Value) (o : Nat) (v0 : Value) (S : List Value) (h : zH), rn 183 2 [l0, l1, l2, l3, l4] (v0 :: .ref o :: S) h = if zkd h o = 3 ∧ zsum S ≤ 8 then zcall (ev 184 [.ref o, v0] h) (fun v h => rn 183 5 [l0, l1, l2, l3, l4] (zpush v S) h) else none) ∧
  (∀ (l0 l1 l2 l3 l4 : Value) (x : Int32) (S : List Value) (h : zH), rn 183 5 [l0, l1, l2, l3, l4] (.int x :: S) h = nl l1 (rn 183 6 [l0, l1, .int x, l3, l4] S h)) ∧
  (∀ (l1 l2 l3 l4 : Value) (x : Nat) (S : List Value) (h : zH), rn 183 6 [.ref x, l1, l2, l3, l4] S h = rn 183 7 [.ref x, l1, l2, l3, l4] (.ref x :: S) h) ∧
  (∀ (l0 l2 l3 l4 : Value) (x : Int32) (S : List Value) (h : zH), rn 183 7 [l0, .int x, l2, l3, l4] S h = rn 183 8 [l0, .int x, l2, l3, l4] (.int x :: S) h) ∧
  (∀ (l0 l1 l3 l4 : Value) (x : Int32) (S : List Value) (h : zH), rn 183 8 [l0, l1, .int x, l3, l4] S h = rn 183 9 [l0, l1, .int x, l3, l4] (.int x :: S) h) ∧
  (∀ (l0 l1 l2 l3 l4 : Value) (o : Nat) (v0 : Value) (v1 : Value) (S : List Value) (h : zH), rn 183 9 [l0, l1, l2, l3, l4] (v1 :: v0 :: .ref o :: S) h = if zkd h o = 3 ∧ zsum S ≤ 8 then zcall (ev 186 [.ref o, v0, v1] h) (fun v h => rn 183 12 [l0, l1, l2, l3, l4] (zpush v S) h) else none) ∧
  (∀ (l0 l1 l2 l3 l4 : Value) (x : Int32) (S : List Value) (h : zH), rn 183 12 [l0, l1, l2, l3, l4] (.int x :: S) h = nl l2 (rn 183 13 [l0, l1, l2, .int x, l4] S h)) ∧
  (∀ (l0 l1 l2 l4 : Value) (x : Int32) (S : List Value) (h : zH), rn 183 13 [l0, l1, l2, .int x, l4] S h = rn 183 14 [l0, l1, l2, .int x, l4] (.int x :: S) h) ∧
  (∀ (l0 l1 l2 l3 l4 : Value) (S : List Value) (h : zH), rn 183 14 [l0, l1, l2, l3, l4] S h = rn 183 16 [l0, l1, l2, l3, l4] (.int (-2) :: S) h) ∧
  (∀ (l0 l1 l2 l3 l4 : Value) (x : Int32) (y : Int32) (S : List Value) (h : zH), rn 183 16 [l0, l1, l2, l3, l4] (.int y :: .int x :: S) h = if x = y then rn 183 19 [l0, l1, l2, l3, l4] S h else rn 183 24 [l0, l1, l2, l3, l4] S h) ∧
  (∀ (l0 l2 l3 l4 : Value) (x : Int32) (S : List Value) (h : zH), rn 183 19 [l0, .int x, l2, l3, l4] S h = rn 183 20 [l0, .int x, l2, l3, l4] (.int x :: S) h) ∧
  (∀ (l0 l1 l2 l3 l4 : Value) (v0 : Value) (S : List Value) (h : zH), rn 183 20 [l0, l1, l2, l3, l4] (v0 :: S) h = if zsum S ≤ 8 then zcall (ev 193 [v0] h) (fun v h => rn 183 23 [l0, l1, l2, l3, l4] (zpush v S) h) else none) ∧
  (∀ (l0 l1 l2 l3 l4 : Value) (x : Int32) (h : zH), rn 183 23 [l0, l1, l2, l3, l4] [.int x] h = some (some (.int x), h)) ∧
  (∀ (l1 l2 l3 l4 : Value) (x : Nat) (S : List Value) (h : zH), rn 183 24 [.ref x, l1, l2, l3, l4] S h = rn 183 25 [.ref x, l1, l2, l3, l4] (.ref x :: S) h) ∧
  (∀ (l0 l1 l2 l3 l4 : Value) (a : Nat) (S : List Value) (h : zH), rn 183 25 [l0, l1, l2, l3, l4] (.ref a :: S) h = zgf h a 3 3 fun v => rn 183 28 [l0, l1, l2, l3, l4] (v :: S) h) ∧
  (∀ (l1 l2 l3 l4 : Value) (x : Nat) (S : List Value) (h : zH), rn 183 28 [.ref x, l1, l2, l3, l4] S h = rn 183 29 [.ref x, l1, l2, l3, l4] (.ref x :: S) h) ∧
  (∀ (l0 l1 l2 l3 l4 : Value) (a : Nat) (S : List Value) (h : zH), rn 183 29 [l0, l1, l2, l3, l4] (.ref a :: S) h = zgf h a 3 2 fun v => rn 183 32 [l0, l1, l2, l3, l4] (v :: S) h) ∧
  (∀ (l0 l1 l2 l4 : Value) (x : Int32) (S : List Value) (h : zH), rn 183 32 [l0, l1, l2, .int x, l4] S h = rn 183 33 [l0, l1, l2, .int x, l4] (.int x :: S) h) ∧
  (∀ (l0 l1 l2 l3 l4 : Value) (a : Nat) (j : Int32) (x : Int32) (S : List Value) (h : zH), rn 183 33 [l0, l1, l2, l3, l4] (.int x :: .int j :: .ref a :: S) h = zsi h a 0 j x fun h => rn 183 34 [l0, l1, l2, l3, l4] S h) ∧
  (∀ (l1 l2 l3 l4 : Value) (x : Nat) (S : List Value) (h : zH), rn 183 34 [.ref x, l1, l2, l3, l4] S h = rn 183 35 [.ref x, l1, l2, l3, l4] (.ref x :: S) h) ∧
  (∀ (l0 l1 l2 l3 l4 : Value) (a : Nat) (S : List Value) (h : zH), rn 183 35 [l0, l1, l2, l3, l4] (.ref a :: S) h = zgf h a 3 4 fun v => rn 183 38 [l0, l1, l2, l3, l4] (v :: S) h) ∧
  (∀ (l1 l2 l3 l4 : Value) (x : Nat) (S : List Value) (h : zH), rn 183 38 [.ref x, l1, l2, l3, l4] S h = rn 183 39 [.ref x, l1, l2, l3, l4] (.ref x :: S) h) ∧
  (∀ (l0 l1 l2 l3 l4 : Value) (a : Nat) (S : List Value) (h : zH), rn 183 39 [l0, l1, l2, l3, l4] (.ref a :: S) h = zgf h a 3 2 fun v => rn 183 42 [l0, l1, l2, l3, l4] (v :: S) h) ∧
  (∀ (l0 l2 l3 l4 : Value) (x : Int32) (S : List Value) (h : zH), rn 183 42 [l0, .int x, l2, l3, l4] S h = rn 183 43 [l0, .int x, l2, l3, l4] (.int x :: S) h) ∧
  (∀ (l0 l1 l2 l3 l4 : Value) (a : Nat) (j : Int32) (x : Int32) (S : List Value) (h : zH), rn 183 43 [l0, l1, l2, l3, l4] (.int x :: .int j :: .ref a :: S) h = zsi h a 0 j x fun h => rn 183 44 [l0, l1, l2, l3, l4] S h) ∧
  (∀ (l0 l1 l2 l3 l4 : Value) (S : List Value) (h : zH), rn 183 44 [l0, l1, l2, l3, l4] S h = rn 183 45 [l0, l1, l2, l3, l4] (.int (nI 0) :: S) h) ∧
  (∀ (l0 l1 l2 l3 l4 : Value) (x : Int32) (S : List Value) (h : zH), rn 183 45 [l0, l1, l2, l3, l4] (.int x :: S) h = nl l3 (rn 183 47 [l0, l1, l2, l3, .int x] S h)) ∧
  (∀ (l0 l1 l2 l3 l4 : Value) (S : List Value) (h : zH), rn 183 49 [l0, l1, l2, l3, l4] S h = rn 183 52 [l0, l1, l2, l3, l4] (.ref 4 :: S) h) ∧
  (∀ (l0 l1 l2 l4 : Value) (x : Int32) (S : List Value) (h : zH), rn 183 52 [l0, l1, l2, .int x, l4] S h = rn 183 53 [l0, l1, l2, .int x, l4] (.int x :: S) h) ∧
  (∀ (l0 l1 l2 l3 l4 : Value) (a : Nat) (j : Int32) (S : List Value) (h : zH), rn 183 53 [l0, l1, l2, l3, l4] (.int j :: .ref a :: S) h = zli h a 0 j fun x => rn 183 54 [l0, l1, l2, l3, l4] (.int x :: S) h) ∧
  (∀ (l0 l1 l2 l3 l4 : Value) (x : Int32) (y : Int32) (S : List Value) (h : zH), rn 183 54 [l0, l1, l2, l3, l4] (.int y :: .int x :: S) h = if y ≤ x then rn 183 86 [l0, l1, l2, l3, l4] S h else rn 183 57 [l0, l1, l2, l3, l4] S h) ∧
  (∀ (l0 l1 l2 l3 : Value) (x : Int32) (S : List Value) (h : zH), rn 183 57 [l0, l1, l2, l3, .int x] S h = rn 183 59 [l0, l1, l2, l3, .int x] (.int x :: S) h) ∧
  (∀ (l0 l1 l2 l3 l4 : Value) (S : List Value) (h : zH), rn 183 59 [l0, l1, l2, l3, l4] S h = rn 183 60 [l0, l1, l2, l3, l4] (.int (nI 3) :: S) h) ∧
  (∀ (l0 l1 l2 l3 l4 : Value) (x : Int32) (y : Int32) (S : List Value) (h : zH), rn 183 60 [l0, l1, l2, l3, l4] (.int y :: .int x :: S) h = if y ≤ x then rn 183 86 [l0, l1, l2, l3, l4] S h else rn 183 63 [l0, l1, l2, l3, l4] S h) ∧
  (∀ (l1 l2 l3 l4 : Value) (x : Nat) (S : List Value) (h : zH), rn 183 63 [.ref x, l1, l2, l3, l4] S h = rn 183 64 [.ref x, l1, l2, l3, l4] (.ref x :: S) h) ∧
  (∀ (l0 l1 l3 l4 : Value) (x : Int32) (S : List Value) (h : zH), rn 183 64 [l0, l1, .int x, l3, l4] S h = rn 183 65 [l0, l1, .int x, l3, l4] (.int x :: S) h) ∧
  (∀ (l0 l1 l2 l3 : Value) (x : Int32) (S : List Value) (h : zH), rn 183 65 [l0, l1, l2, l3, .int x] S h = rn 183 67 [l0, l1, l2, l3, .int x] (.int x :: S) h) ∧
  (∀ (l0 l1 l2 l3 l4 : Value) (o : Nat) (v0 : Value) (v1 : Value) (S : List Value) (h : zH), rn 183 67 [l0, l1, l2, l3, l4] (v1 :: v0 :: .ref o :: S) h = if zkd h o = 3 ∧ zsum S ≤ 8 then zcall (ev 194 [.ref o, v0, v1] h) (fun v h => rn 183 70 [l0, l1, l2, l3, l4] (zpush v S) h) else none) ∧
  (∀ (l0 l1 l2 l3 l4 : Value) (x : Int32) (S : List Value) (h : zH), rn 183 70 [l0, l1, l2, l3, l4] (.int x :: S) h = nl l1 (rn 183 71 [l0, l1, .int x, l3, l4] S h)) ∧
  (∀ (l0 l1 l3 l4 : Value) (x : Int32) (S : List Value) (h : zH), rn 183 71 [l0, l1, .int x, l3, l4] S h = rn 183 72 [l0, l1, .int x, l3, l4] (.int x :: S) h) ∧
  (∀ (l0 l1 l2 l3 l4 : Value) (v0 : Value) (S : List Value) (h : zH), rn 183 72 [l0, l1, l2, l3, l4] (v0 :: S) h = if zsum S ≤ 8 then zcall (ev 195 [v0] h) (fun v h => rn 183 75 [l0, l1, l2, l3, l4] (zpush v S) h) else none) ∧
  (∀ (l0 l1 l2 l3 l4 : Value) (x : Int32) (S : List Value) (h : zH), rn 183 75 [l0, l1, l2, l3, l4] (.int x :: S) h = if x = nI 0 then rn 183 80 [l0, l1, l2, l3, l4] S h else rn 183 78 [l0, l1, l2, l3, l4] S h) ∧
  (∀ (l0 l1 l3 l4 : Value) (x : Int32) (S : List Value) (h : zH), rn 183 78 [l0, l1, .int x, l3, l4] S h = rn 183 79 [l0, l1, .int x, l3, l4] (.int x :: S) h) ∧
  (∀ (l0 l1 l2 l3 l4 : Value) (x : Int32) (h : zH), rn 183 79 [l0, l1, l2, l3, l4] [.int x] h = some (some (.int x), h)) ∧
  (∀ (l0 l1 l2 l3 : Value) (x : Int32) (S : List Value) (h : zH), rn 183 80 [l0, l1, l2, l3, .int x] S h = nl l3 (rn 183 83 [l0, l1, l2, l3, .int (x + (nI 1))] S h)) ∧
  (∀ (l0 l1 l2 l3 l4 : Value) (S : List Value) (h : zH), rn 183 83 [l0, l1, l2, l3, l4] S h = rn 183 47 [l0, l1, l2, l3, l4] S h) ∧
  (∀ (l0 l1 l3 l4 : Value) (x : Int32) (S : List Value) (h : zH), rn 183 86 [l0, l1, .int x, l3, l4] S h = rn 183 87 [l0, l1, .int x, l3, l4] (.int x :: S) h) ∧
  (∀ (l1 l2 l3 l4 : Value) (x : Nat) (S : List Value) (h : zH), rn 183 87 [.ref x, l1, l2, l3, l4] S h = rn 183 88 [.ref x, l1, l2, l3, l4] (.ref x :: S) h) ∧
  (∀ (l0 l1 l2 l3 l4 : Value) (a : Nat) (S : List Value) (h : zH), rn 183 88 [l0, l1, l2, l3, l4] (.ref a :: S) h = zgf h a 3 1 fun v => rn 183 91 [l0, l1, l2, l3, l4] (v :: S) h) ∧
  (∀ (l0 l1 l2 l3 l4 : Value) (x : Int32) (y : Int32) (S : List Value) (h : zH), rn 183 91 [l0, l1, l2, l3, l4] (.int y :: .int x :: S) h = if y ≤ x then rn 183 105 [l0, l1, l2, l3, l4] S h else rn 183 94 [l0, l1, l2, l3, l4] S h) ∧
  (∀ (l1 l2 l3 l4 : Value) (x : Nat) (S : List Value) (h : zH), rn 183 94 [.ref x, l1, l2, l3, l4] S h = rn 183 95 [.ref x, l1, l2, l3, l4] (.ref x :: S) h) ∧
  (∀ (l0 l1 l2 l3 l4 : Value) (a : Nat) (S : List Value) (h : zH), rn 183 95 [l0, l1, l2, l3, l4] (.ref a :: S) h = zgf h a 3 0 fun v => rn 183 98 [l0, l1, l2, l3, l4] (v :: S) h) ∧
  (∀ (l0 l1 l3 l4 : Value) (x : Int32) (S : List Value) (h : zH), rn 183 98 [l0, l1, .int x, l3, l4] S h = rn 183 99 [l0, l1, .int x, l3, l4] (.int x :: S) h) ∧
  (∀ (l0 l1 l2 l3 l4 : Value) (a : Nat) (j : Int32) (S : List Value) (h : zH), rn 183 99 [l0, l1, l2, l3, l4] (.int j :: .ref a :: S) h = zli h a 2 j fun x => rn 183 100 [l0, l1, l2, l3, l4] (.int x :: S) h) ∧
  (∀ (l0 l1 l2 l3 l4 : Value) (S : List Value) (h : zH), rn 183 100 [l0, l1, l2, l3, l4] S h = rn 183 102 [l0, l1, l2, l3, l4] (.int (nI 59) :: S) h) ∧
  (∀ (l0 l1 l2 l3 l4 : Value) (x : Int32) (y : Int32) (S : List Value) (h : zH), rn 183 102 [l0, l1, l2, l3, l4] (.int y :: .int x :: S) h = if x = y then rn 183 105 [l0, l1, l2, l3, l4] S h else rn 183 109 [l0, l1, l2, l3, l4] S h) ∧
  (∀ (l0 l1 l3 l4 : Value) (x : Int32) (S : List Value) (h : zH), rn 183 105 [l0, l1, .int x, l3, l4] S h = rn 183 106 [l0, l1, .int x, l3, l4] (.int x :: S) h) ∧
  (∀ (l0 l1 l2 l3 l4 : Value) (S : List Value) (h : zH), rn 183 106 [l0, l1, l2, l3, l4] S h = rn 183 113 [l0, l1, l2, l3, l4] S h) ∧
  (∀ (l0 l1 l3 l4 : Value) (x : Int32) (S : List Value) (h : zH), rn 183 109 [l0, l1, .int x, l3, l4] S h = rn 183 110 [l0, l1, .int x, l3, l4] (.int x :: S) h) ∧
  (∀ (l0 l1 l2 l3 l4 : Value) (v0 : Value) (S : List Value) (h : zH), rn 183 110 [l0, l1, l2, l3, l4] (v0 :: S) h = if zsum S ≤ 8 then zcall (ev 193 [v0] h) (fun v h => rn 183 113 [l0, l1, l2, l3, l4] (zpush v S) h) else none) ∧
  (∀ (l0 l1 l2 l3 l4 : Value) (x : Int32) (h : zH), rn 183 113 [l0, l1, l2, l3, l4] [.int x] h = some (some (.int x), h)) := ⟨fun _ _ _ _ _ _ _ => r_aload_nr (show zdec 183 0 = some (.aload_n 0, 1) by decide +kernel) rfl rfl,
  fun _ _ _ _ _ _ _ => r_iload_n (show zdec 183 1 = some (.iload_n 1, 1) by decide +kernel) rfl rfl,
  fun _ _ _ _ _ _ _ _ _ => r_cV [_] rfl (show zdec 183 2 = some (.invokevirtual 47, 3) by decide +kernel) (show zst.lookup (183 * zKEY + 47) = some (1, 184, 1, 3) by decide +kernel) (by decide) rfl,
  fun _ _ _ _ _ _ _ _ => r_istore_n (show zdec 183 5 = some (.istore_n 2, 1) by decide +kernel) rfl rfl (Nat.le_of_ble_eq_true rfl) rfl rfl,
  fun _ _ _ _ _ _ _ => r_aload_nr (show zdec 183 6 = some (.aload_n 0, 1) by decide +kernel) rfl rfl,
  fun _ _ _ _ _ _ _ => r_iload_n (show zdec 183 7 = some (.iload_n 1, 1) by decide +kernel) rfl rfl,
  fun _ _ _ _ _ _ _ => r_iload_n (show zdec 183 8 = some (.iload_n 2, 1) by decide +kernel) rfl rfl,
  fun _ _ _ _ _ _ _ _ _ _ => r_cV [_, _] rfl (show zdec 183 9 = some (.invokevirtual 50, 3) by decide +kernel) (show zst.lookup (183 * zKEY + 50) = some (1, 186, 2, 3) by decide +kernel) (by decide) rfl,
  fun _ _ _ _ _ _ _ _ => r_istore_n (show zdec 183 12 = some (.istore_n 3, 1) by decide +kernel) rfl rfl (Nat.le_of_ble_eq_true rfl) rfl rfl,
  fun _ _ _ _ _ _ _ => r_iload_n (show zdec 183 13 = some (.iload_n 3, 1) by decide +kernel) rfl rfl,
  fun _ _ _ _ _ _ _ => r_bipush (show zdec 183 14 = some (.bipush (-2), 2) by decide +kernel) rfl rfl,
  fun _ _ _ _ _ _ _ _ _ => r_icmpne (show zdec 183 16 = some (.if_icmp .ne 8, 3) by decide +kernel) rfl rfl,
  fun _ _ _ _ _ _ _ => r_iload_n (show zdec 183 19 = some (.iload_n 1, 1) by decide +kernel) rfl rfl,
  fun _ _ _ _ _ _ _ _ => r_cS [_] rfl (show zdec 183 20 = some (.invokestatic 54, 3) by decide +kernel) (show zst.lookup (183 * zKEY + 54) = some (0, 193, 1, 0) by decide +kernel) (by decide) rfl,
  fun _ _ _ _ _ _ _ => r_ireti (show zdec 183 23 = some (.ireturn, 1) by decide +kernel) (by decide +kernel),
  fun _ _ _ _ _ _ _ => r_aload_nr (show zdec 183 24 = some (.aload_n 0, 1) by decide +kernel) rfl rfl,
  fun _ _ _ _ _ _ _ _ => r_getfield (show zdec 183 25 = some (.getfield 22, 3) by decide +kernel) (show zft.lookup (183 * zKEY + 22) = some (3, 3) by decide +kernel) rfl,
  fun _ _ _ _ _ _ _ => r_aload_nr (show zdec 183 28 = some (.aload_n 0, 1) by decide +kernel) rfl rfl,
  fun _ _ _ _ _ _ _ _ => r_getfield (show zdec 183 29 = some (.getfield 19, 3) by decide +kernel) (show zft.lookup (183 * zKEY + 19) = some (3, 2) by decide +kernel) rfl,
  fun _ _ _ _ _ _ _ => r_iload_n (show zdec 183 32 = some (.iload_n 3, 1) by decide +kernel) rfl rfl,
  fun _ _ _ _ _ _ _ _ _ _ => r_iast (show zdec 183 33 = some (.iastore, 1) by decide +kernel) rfl,
  fun _ _ _ _ _ _ _ => r_aload_nr (show zdec 183 34 = some (.aload_n 0, 1) by decide +kernel) rfl rfl,
  fun _ _ _ _ _ _ _ _ => r_getfield (show zdec 183 35 = some (.getfield 26, 3) by decide +kernel) (show zft.lookup (183 * zKEY + 26) = some (3, 4) by decide +kernel) rfl,
  fun _ _ _ _ _ _ _ => r_aload_nr (show zdec 183 38 = some (.aload_n 0, 1) by decide +kernel) rfl rfl,
  fun _ _ _ _ _ _ _ _ => r_getfield (show zdec 183 39 = some (.getfield 19, 3) by decide +kernel) (show zft.lookup (183 * zKEY + 19) = some (3, 2) by decide +kernel) rfl,
  fun _ _ _ _ _ _ _ => r_iload_n (show zdec 183 42 = some (.iload_n 1, 1) by decide +kernel) rfl rfl,
  fun _ _ _ _ _ _ _ _ _ _ => r_iast (show zdec 183 43 = some (.iastore, 1) by decide +kernel) rfl,
  fun _ _ _ _ _ _ _ => r_iconst (show zdec 183 44 = some (.iconst 0, 1) by decide +kernel) rfl rfl,
  fun _ _ _ _ _ _ _ _ => r_istore (show zdec 183 45 = some (.istore 4, 2) by decide +kernel) rfl (Nat.le_of_ble_eq_true rfl) rfl rfl,
  fun _ _ _ _ _ _ _ => r_getstatic (show zdec 183 49 = some (.getstatic 57, 3) by decide +kernel) (show zgt.lookup (183 * zKEY + 57) = some 3 by decide +kernel) (by rfl) rfl,
  fun _ _ _ _ _ _ _ => r_iload_n (show zdec 183 52 = some (.iload_n 3, 1) by decide +kernel) rfl rfl,
  fun _ _ _ _ _ _ _ _ _ => r_iald (show zdec 183 53 = some (.iaload, 1) by decide +kernel) rfl,
  fun _ _ _ _ _ _ _ _ _ => r_icmpge (show zdec 183 54 = some (.if_icmp .ge 32, 3) by decide +kernel) rfl rfl,
  fun _ _ _ _ _ _ _ => r_iload (show zdec 183 57 = some (.iload 4, 2) by decide +kernel) rfl rfl,
  fun _ _ _ _ _ _ _ => r_iconst (show zdec 183 59 = some (.iconst 3, 1) by decide +kernel) rfl rfl,
  fun _ _ _ _ _ _ _ _ _ => r_icmpge (show zdec 183 60 = some (.if_icmp .ge 26, 3) by decide +kernel) rfl rfl,
  fun _ _ _ _ _ _ _ => r_aload_nr (show zdec 183 63 = some (.aload_n 0, 1) by decide +kernel) rfl rfl,
  fun _ _ _ _ _ _ _ => r_iload_n (show zdec 183 64 = some (.iload_n 2, 1) by decide +kernel) rfl rfl,
  fun _ _ _ _ _ _ _ => r_iload (show zdec 183 65 = some (.iload 4, 2) by decide +kernel) rfl rfl,
  fun _ _ _ _ _ _ _ _ _ _ => r_cV [_, _] rfl (show zdec 183 67 = some (.invokevirtual 60, 3) by decide +kernel) (show zst.lookup (183 * zKEY + 60) = some (1, 194, 2, 3) by decide +kernel) (by decide) rfl,
  fun _ _ _ _ _ _ _ _ => r_istore_n (show zdec 183 70 = some (.istore_n 2, 1) by decide +kernel) rfl rfl (Nat.le_of_ble_eq_true rfl) rfl rfl,
  fun _ _ _ _ _ _ _ => r_iload_n (show zdec 183 71 = some (.iload_n 2, 1) by decide +kernel) rfl rfl,
  fun _ _ _ _ _ _ _ _ => r_cS [_] rfl (show zdec 183 72 = some (.invokestatic 40, 3) by decide +kernel) (show zst.lookup (183 * zKEY + 40) = some (0, 195, 1, 0) by decide +kernel) (by decide) rfl,
  fun _ _ _ _ _ _ _ _ => r_ifeq (show zdec 183 75 = some (.ifCond .eq 5, 3) by decide +kernel) rfl rfl,
  fun _ _ _ _ _ _ _ => r_iload_n (show zdec 183 78 = some (.iload_n 2, 1) by decide +kernel) rfl rfl,
  fun _ _ _ _ _ _ _ => r_ireti (show zdec 183 79 = some (.ireturn, 1) by decide +kernel) (by decide +kernel),
  fun _ _ _ _ _ _ _ => r_iinc (show zdec 183 80 = some (.iinc 4 1, 3) by decide +kernel) rfl rfl rfl (Nat.le_of_ble_eq_true rfl) rfl rfl,
  fun _ _ _ _ _ _ _ => r_goto (show zdec 183 83 = some (.goto (-36), 3) by decide +kernel) rfl,
  fun _ _ _ _ _ _ _ => r_iload_n (show zdec 183 86 = some (.iload_n 2, 1) by decide +kernel) rfl rfl,
  fun _ _ _ _ _ _ _ => r_aload_nr (show zdec 183 87 = some (.aload_n 0, 1) by decide +kernel) rfl rfl,
  fun _ _ _ _ _ _ _ _ => r_getfield (show zdec 183 88 = some (.getfield 15, 3) by decide +kernel) (show zft.lookup (183 * zKEY + 15) = some (3, 1) by decide +kernel) rfl,
  fun _ _ _ _ _ _ _ _ _ => r_icmpge (show zdec 183 91 = some (.if_icmp .ge 14, 3) by decide +kernel) rfl rfl,
  fun _ _ _ _ _ _ _ => r_aload_nr (show zdec 183 94 = some (.aload_n 0, 1) by decide +kernel) rfl rfl,
  fun _ _ _ _ _ _ _ _ => r_getfield (show zdec 183 95 = some (.getfield 11, 3) by decide +kernel) (show zft.lookup (183 * zKEY + 11) = some (3, 0) by decide +kernel) rfl,
  fun _ _ _ _ _ _ _ => r_iload_n (show zdec 183 98 = some (.iload_n 2, 1) by decide +kernel) rfl rfl,
  fun _ _ _ _ _ _ _ _ _ => r_cald (show zdec 183 99 = some (.caload, 1) by decide +kernel) rfl,
  fun _ _ _ _ _ _ _ => r_bipush (show zdec 183 100 = some (.bipush 59, 2) by decide +kernel) rfl rfl,
  fun _ _ _ _ _ _ _ _ _ => r_icmpne (show zdec 183 102 = some (.if_icmp .ne 7, 3) by decide +kernel) rfl rfl,
  fun _ _ _ _ _ _ _ => r_iload_n (show zdec 183 105 = some (.iload_n 2, 1) by decide +kernel) rfl rfl,
  fun _ _ _ _ _ _ _ => r_goto (show zdec 183 106 = some (.goto 7, 3) by decide +kernel) rfl,
  fun _ _ _ _ _ _ _ => r_iload_n (show zdec 183 109 = some (.iload_n 2, 1) by decide +kernel) rfl rfl,
  fun _ _ _ _ _ _ _ _ => r_cS [_] rfl (show zdec 183 110 = some (.invokestatic 54, 3) by decide +kernel) (show zst.lookup (183 * zKEY + 54) = some (0, 193, 1, 0) by decide +kernel) (by decide) rfl,
  fun _ _ _ _ _ _ _ => r_ireti (show zdec 183 113 = some (.ireturn, 1) by decide +kernel) (by decide +kernel)⟩
theorem zl_183_47 : ∀ (l0 l1 l2 l3 : Value) (x : Int32) (S : List Value) (h : zH), rn 183 47 [l0, l1, l2, l3, .int x] S h = rn 183 49 [l0, l1, l2, l3, .int x] (.int x :: S) h := fun _ _ _ _ _ _ _ => r_iload (show zdec 183 47 = some (.iload 4, 2) by decide +kernel) rfl rfl
theorem ze_183 : ∀ (a0 : Nat) (a1 : Int32) (h : zH), ev 183 [.ref a0, .int a1] h = rn 183 0 [.ref a0, .int a1, .float 0, .float 0, .float 0] [] h := fun _ _ _ => if_pos (Nat.le_of_ble_eq_true rfl)
-- PayrollRun/CommandText.wordEnd(I)I
theorem zr_184 : (∀ (l0 l2 : Value) (x : Int32) (S : List Value) (h : zH), rn 184 0 [l0, .int x, l2] S h = rn 184 1 [l0, .int x, l2] (.int x :: S) h) ∧
  (∀ (l0 l1 l2 : Value) (x : Int32) (S : List Value) (h : zH), rn 184 1 [l0, l1, l2] (.int x :: S) h = nl l1 (rn 184 2 [l0, l1, .int x] S h)) ∧
  (∀ (l1 l2 : Value) (x : Nat) (S : List Value) (h : zH), rn 184 3 [.ref x, l1, l2] S h = rn 184 4 [.ref x, l1, l2] (.ref x :: S) h) ∧
  (∀ (l0 l1 l2 : Value) (a : Nat) (S : List Value) (h : zH), rn 184 4 [l0, l1, l2] (.ref a :: S) h = zgf h a 3 1 fun v => rn 184 7 [l0, l1, l2] (v :: S) h) ∧
  (∀ (l0 l1 l2 : Value) (x : Int32) (y : Int32) (S : List Value) (h : zH), rn 184 7 [l0, l1, l2] (.int y :: .int x :: S) h = if y ≤ x then rn 184 28 [l0, l1, l2] S h else rn 184 10 [l0, l1, l2] S h) ∧
  (∀ (l1 l2 : Value) (x : Nat) (S : List Value) (h : zH), rn 184 10 [.ref x, l1, l2] S h = rn 184 11 [.ref x, l1, l2] (.ref x :: S) h) ∧
  (∀ (l0 l1 : Value) (x : Int32) (S : List Value) (h : zH), rn 184 11 [l0, l1, .int x] S h = rn 184 12 [l0, l1, .int x] (.int x :: S) h) ∧
  (∀ (l0 l1 l2 : Value) (S : List Value) (h : zH), rn 184 12 [l0, l1, l2] S h = rn 184 14 [l0, l1, l2] (.int (nI 97) :: S) h) ∧
  (∀ (l0 l1 l2 : Value) (S : List Value) (h : zH), rn 184 14 [l0, l1, l2] S h = rn 184 16 [l0, l1, l2] (.int (nI 122) :: S) h) ∧
  (∀ (l0 l1 l2 : Value) (o : Nat) (v0 : Value) (v1 : Value) (v2 : Value) (S : List Value) (h : zH), rn 184 16 [l0, l1, l2] (v2 :: v1 :: v0 :: .ref o :: S) h = if zkd h o = 3 ∧ zsum S ≤ 8 then zcall (ev 185 [.ref o, v0, v1, v2] h) (fun v h => rn 184 19 [l0, l1, l2] (zpush v S) h) else none) ∧
  (∀ (l0 l1 l2 : Value) (x : Int32) (S : List Value) (h : zH), rn 184 19 [l0, l1, l2] (.int x :: S) h = if x = nI 0 then rn 184 28 [l0, l1, l2] S h else rn 184 22 [l0, l1, l2] S h) ∧
  (∀ (l0 l1 : Value) (x : Int32) (S : List Value) (h : zH), rn 184 22 [l0, l1, .int x] S h = nl l1 (rn 184 25 [l0, l1, .int (x + (nI 1))] S h)) ∧
  (∀ (l0 l1 l2 : Value) (S : List Value) (h : zH), rn 184 25 [l0, l1, l2] S h = rn 184 2 [l0, l1, l2] S h) ∧
  (∀ (l0 l1 : Value) (x : Int32) (S : List Value) (h : zH), rn 184 28 [l0, l1, .int x] S h = rn 184 29 [l0, l1, .int x] (.int x :: S) h) ∧
  (∀ (l0 l1 l2 : Value) (x : Int32) (h : zH), rn 184 29 [l0, l1, l2] [.int x] h = some (some (.int x), h)) := ⟨fun _ _ _ _ _ => r_iload_n (show zdec 184 0 = some (.iload_n 1, 1) by decide +kernel) rfl rfl,
  fun _ _ _ _ _ _ => r_istore_n (show zdec 184 1 = some (.istore_n 2, 1) by decide +kernel) rfl rfl (Nat.le_of_ble_eq_true rfl) rfl rfl,
  fun _ _ _ _ _ => r_aload_nr (show zdec 184 3 = some (.aload_n 0, 1) by decide +kernel) rfl rfl,
  fun _ _ _ _ _ _ => r_getfield (show zdec 184 4 = some (.getfield 15, 3) by decide +kernel) (show zft.lookup (184 * zKEY + 15) = some (3, 1) by decide +kernel) rfl,
  fun _ _ _ _ _ _ _ => r_icmpge (show zdec 184 7 = some (.if_icmp .ge 21, 3) by decide +kernel) rfl rfl,
  fun _ _ _ _ _ => r_aload_nr (show zdec 184 10 = some (.aload_n 0, 1) by decide +kernel) rfl rfl,
  fun _ _ _ _ _ => r_iload_n (show zdec 184 11 = some (.iload_n 2, 1) by decide +kernel) rfl rfl,
  fun _ _ _ _ _ => r_bipush (show zdec 184 12 = some (.bipush 97, 2) by decide +kernel) rfl rfl,
  fun _ _ _ _ _ => r_bipush (show zdec 184 14 = some (.bipush 122, 2) by decide +kernel) rfl rfl,
  fun _ _ _ _ _ _ _ _ _ => r_cV [_, _, _] rfl (show zdec 184 16 = some (.invokevirtual 63, 3) by decide +kernel) (show zst.lookup (184 * zKEY + 63) = some (1, 185, 3, 3) by decide +kernel) (by decide) rfl,
  fun _ _ _ _ _ _ => r_ifeq (show zdec 184 19 = some (.ifCond .eq 9, 3) by decide +kernel) rfl rfl,
  fun _ _ _ _ _ => r_iinc (show zdec 184 22 = some (.iinc 2 1, 3) by decide +kernel) rfl rfl rfl (Nat.le_of_ble_eq_true rfl) rfl rfl,
  fun _ _ _ _ _ => r_goto (show zdec 184 25 = some (.goto (-23), 3) by decide +kernel) rfl,
  fun _ _ _ _ _ => r_iload_n (show zdec 184 28 = some (.iload_n 2, 1) by decide +kernel) rfl rfl,
  fun _ _ _ _ _ => r_ireti (show zdec 184 29 = some (.ireturn, 1) by decide +kernel) (by decide +kernel)⟩
theorem zl_184_2 : ∀ (l0 l1 : Value) (x : Int32) (S : List Value) (h : zH), rn 184 2 [l0, l1, .int x] S h = rn 184 3 [l0, l1, .int x] (.int x :: S) h := fun _ _ _ _ _ => r_iload_n (show zdec 184 2 = some (.iload_n 2, 1) by decide +kernel) rfl rfl
theorem ze_184 : ∀ (a0 : Nat) (a1 : Int32) (h : zH), ev 184 [.ref a0, .int a1] h = rn 184 0 [.ref a0, .int a1, .float 0] [] h := fun _ _ _ => if_pos (Nat.le_of_ble_eq_true rfl)
-- PayrollRun/CommandText.isSign(ICC)Z
theorem zr_185 : (∀ (l0 l2 l3 : Value) (x : Int32) (S : List Value) (h : zH), rn 185 0 [l0, .int x, l2, l3] S h = rn 185 1 [l0, .int x, l2, l3] (.int x :: S) h) ∧
  (∀ (l0 l1 l2 l3 : Value) (S : List Value) (h : zH), rn 185 1 [l0, l1, l2, l3] S h = rn 185 2 [l0, l1, l2, l3] (.int (nI 0) :: S) h) ∧
  (∀ (l1 l2 l3 : Value) (x : Nat) (S : List Value) (h : zH), rn 185 2 [.ref x, l1, l2, l3] S h = rn 185 3 [.ref x, l1, l2, l3] (.ref x :: S) h) ∧
  (∀ (l0 l1 l2 l3 : Value) (a : Nat) (S : List Value) (h : zH), rn 185 3 [l0, l1, l2, l3] (.ref a :: S) h = zgf h a 3 1 fun v => rn 185 6 [l0, l1, l2, l3] (v :: S) h) ∧
  (∀ (l0 l1 l2 l3 : Value) (S : List Value) (h : zH), rn 185 6 [l0, l1, l2, l3] S h = rn 185 7 [l0, l1, l2, l3] (.int (nI 1) :: S) h) ∧
  (∀ (l0 l1 l2 l3 : Value) (x : Int32) (y : Int32) (S : List Value) (h : zH), rn 185 7 [l0, l1, l2, l3] (.int y :: .int x :: S) h = rn 185 8 [l0, l1, l2, l3] (.int (x - y) :: S) h) ∧
  (∀ (l0 l1 l2 l3 : Value) (v0 : Value) (v1 : Value) (v2 : Value) (S : List Value) (h : zH), rn 185 8 [l0, l1, l2, l3] (v2 :: v1 :: v0 :: S) h = if zsum S ≤ 8 then zcall (ev 24 [v0, v1, v2] h) (fun v h => rn 185 11 [l0, l1, l2, l3] (zpush v S) h) else none) ∧
  (∀ (l0 l1 l2 l3 : Value) (x : Int32) (S : List Value) (h : zH), rn 185 11 [l0, l1, l2, l3] (.int x :: S) h = if x = nI 0 then rn 185 38 [l0, l1, l2, l3] S h else rn 185 14 [l0, l1, l2, l3] S h) ∧
  (∀ (l1 l2 l3 : Value) (x : Nat) (S : List Value) (h : zH), rn 185 14 [.ref x, l1, l2, l3] S h = rn 185 15 [.ref x, l1, l2, l3] (.ref x :: S) h) ∧
  (∀ (l0 l1 l2 l3 : Value) (a : Nat) (S : List Value) (h : zH), rn 185 15 [l0, l1, l2, l3] (.ref a :: S) h = zgf h a 3 0 fun v => rn 185 18 [l0, l1, l2, l3] (v :: S) h) ∧
  (∀ (l0 l2 l3 : Value) (x : Int32) (S : List Value) (h : zH), rn 185 18 [l0, .int x, l2, l3] S h = rn 185 19 [l0, .int x, l2, l3] (.int x :: S) h) ∧
  (∀ (l0 l1 l2 l3 : Value) (a : Nat) (j : Int32) (S : List Value) (h : zH), rn 185 19 [l0, l1, l2, l3] (.int j :: .ref a :: S) h = zli h a 2 j fun x => rn 185 20 [l0, l1, l2, l3] (.int x :: S) h) ∧
  (∀ (l0 l1 l3 : Value) (x : Int32) (S : List Value) (h : zH), rn 185 20 [l0, l1, .int x, l3] S h = rn 185 21 [l0, l1, .int x, l3] (.int x :: S) h) ∧
  (∀ (l0 l1 l2 l3 : Value) (x : Int32) (y : Int32) (S : List Value) (h : zH), rn 185 21 [l0, l1, l2, l3] (.int y :: .int x :: S) h = if x < y then rn 185 38 [l0, l1, l2, l3] S h else rn 185 24 [l0, l1, l2, l3] S h) ∧
  (∀ (l1 l2 l3 : Value) (x : Nat) (S : List Value) (h : zH), rn 185 24 [.ref x, l1, l2, l3] S h = rn 185 25 [.ref x, l1, l2, l3] (.ref x :: S) h) ∧
  (∀ (l0 l1 l2 l3 : Value) (a : Nat) (S : List Value) (h : zH), rn 185 25 [l0, l1, l2, l3] (.ref a :: S) h = zgf h a 3 0 fun v => rn 185 28 [l0, l1, l2, l3] (v :: S) h) ∧
  (∀ (l0 l2 l3 : Value) (x : Int32) (S : List Value) (h : zH), rn 185 28 [l0, .int x, l2, l3] S h = rn 185 29 [l0, .int x, l2, l3] (.int x :: S) h) ∧
  (∀ (l0 l1 l2 l3 : Value) (a : Nat) (j : Int32) (S : List Value) (h : zH), rn 185 29 [l0, l1, l2, l3] (.int j :: .ref a :: S) h = zli h a 2 j fun x => rn 185 30 [l0, l1, l2, l3] (.int x :: S) h) ∧
  (∀ (l0 l1 l2 : Value) (x : Int32) (S : List Value) (h : zH), rn 185 30 [l0, l1, l2, .int x] S h = rn 185 31 [l0, l1, l2, .int x] (.int x :: S) h) ∧
  (∀ (l0 l1 l2 l3 : Value) (x : Int32) (y : Int32) (S : List Value) (h : zH), rn 185 31 [l0, l1, l2, l3] (.int y :: .int x :: S) h = if y < x then rn 185 38 [l0, l1, l2, l3] S h else rn 185 34 [l0, l1, l2, l3] S h) ∧
  (∀ (l0 l1 l2 l3 : Value) (S : List Value) (h : zH), rn 185 34 [l0, l1, l2, l3] S h = rn 185 35 [l0, l1, l2, l3] (.int (nI 1) :: S) h) ∧
  (∀ (l0 l1 l2 l3 : Value) (S : List Value) (h : zH), rn 185 35 [l0, l1, l2, l3] S h = rn 185 39 [l0, l1, l2, l3] S h) ∧
  (∀ (l0 l1 l2 l3 : Value) (S : List Value) (h : zH), rn 185 38 [l0, l1, l2, l3] S h = rn 185 39 [l0, l1, l2, l3] (.int (nI 0) :: S) h) ∧
  (∀ (l0 l1 l2 l3 : Value) (x : Int32) (h : zH), rn 185 39 [l0, l1, l2, l3] [.int x] h = if x = nI 0 ∨ x = nI 1 then some (some (.int x), h) else none) := ⟨fun _ _ _ _ _ _ => r_iload_n (show zdec 185 0 = some (.iload_n 1, 1) by decide +kernel) rfl rfl,
  fun _ _ _ _ _ _ => r_iconst (show zdec 185 1 = some (.iconst 0, 1) by decide +kernel) rfl rfl,
  fun _ _ _ _ _ _ => r_aload_nr (show zdec 185 2 = some (.aload_n 0, 1) by decide +kernel) rfl rfl,
  fun _ _ _ _ _ _ _ => r_getfield (show zdec 185 3 = some (.getfield 15, 3) by decide +kernel) (show zft.lookup (185 * zKEY + 15) = some (3, 1) by decide +kernel) rfl,
  fun _ _ _ _ _ _ => r_iconst (show zdec 185 6 = some (.iconst 1, 1) by decide +kernel) rfl rfl,
  fun _ _ _ _ _ _ _ _ => r_isub (show zdec 185 7 = some (.isub, 1) by decide +kernel) rfl,
  fun _ _ _ _ _ _ _ _ _ => r_cS [_, _, _] rfl (show zdec 185 8 = some (.invokestatic 32, 3) by decide +kernel) (show zst.lookup (185 * zKEY + 32) = some (3, 24, 3, 0) by decide +kernel) (by decide) rfl,
  fun _ _ _ _ _ _ _ => r_ifeq (show zdec 185 11 = some (.ifCond .eq 27, 3) by decide +kernel) rfl rfl,
  fun _ _ _ _ _ _ => r_aload_nr (show zdec 185 14 = some (.aload_n 0, 1) by decide +kernel) rfl rfl,
  fun _ _ _ _ _ _ _ => r_getfield (show zdec 185 15 = some (.getfield 11, 3) by decide +kernel) (show zft.lookup (185 * zKEY + 11) = some (3, 0) by decide +kernel) rfl,
  fun _ _ _ _ _ _ => r_iload_n (show zdec 185 18 = some (.iload_n 1, 1) by decide +kernel) rfl rfl,
  fun _ _ _ _ _ _ _ _ => r_cald (show zdec 185 19 = some (.caload, 1) by decide +kernel) rfl,
  fun _ _ _ _ _ _ => r_iload_n (show zdec 185 20 = some (.iload_n 2, 1) by decide +kernel) rfl rfl,
  fun _ _ _ _ _ _ _ _ => r_icmplt (show zdec 185 21 = some (.if_icmp .lt 17, 3) by decide +kernel) rfl rfl,
  fun _ _ _ _ _ _ => r_aload_nr (show zdec 185 24 = some (.aload_n 0, 1) by decide +kernel) rfl rfl,
  fun _ _ _ _ _ _ _ => r_getfield (show zdec 185 25 = some (.getfield 11, 3) by decide +kernel) (show zft.lookup (185 * zKEY + 11) = some (3, 0) by decide +kernel) rfl,
  fun _ _ _ _ _ _ => r_iload_n (show zdec 185 28 = some (.iload_n 1, 1) by decide +kernel) rfl rfl,
  fun _ _ _ _ _ _ _ _ => r_cald (show zdec 185 29 = some (.caload, 1) by decide +kernel) rfl,
  fun _ _ _ _ _ _ => r_iload_n (show zdec 185 30 = some (.iload_n 3, 1) by decide +kernel) rfl rfl,
  fun _ _ _ _ _ _ _ _ => r_icmpgt (show zdec 185 31 = some (.if_icmp .gt 7, 3) by decide +kernel) rfl rfl,
  fun _ _ _ _ _ _ => r_iconst (show zdec 185 34 = some (.iconst 1, 1) by decide +kernel) rfl rfl,
  fun _ _ _ _ _ _ => r_goto (show zdec 185 35 = some (.goto 4, 3) by decide +kernel) rfl,
  fun _ _ _ _ _ _ => r_iconst (show zdec 185 38 = some (.iconst 0, 1) by decide +kernel) rfl rfl,
  fun _ _ _ _ _ _ => r_iretb (show zdec 185 39 = some (.ireturn, 1) by decide +kernel) (by decide +kernel)⟩
theorem ze_185 : ∀ (a0 : Nat) (a1 : Int32) (a2 : Int32) (a3 : Int32) (h : zH), ev 185 [.ref a0, .int a1, .int a2, .int a3] h = rn 185 0 [.ref a0, .int a1, .int a2, .int a3] [] h := fun _ _ _ _ _ => if_pos (Nat.le_of_ble_eq_true rfl)
-- PayrollRun/CommandText.wordBetween(II)I
theorem zr_186 : (∀ (l0 l1 l2 l3 : Value) (S : List Value) (h : zH), rn 186 0 [l0, l1, l2, l3] S h = rn 186 1 [l0, l1, l2, l3] (.int (nI 0) :: S) h) ∧
  (∀ (l0 l1 l2 l3 : Value) (x : Int32) (S : List Value) (h : zH), rn 186 1 [l0, l1, l2, l3] (.int x :: S) h = nl l2 (rn 186 2 [l0, l1, l2, .int x] S h)) ∧
  (∀ (l0 l1 l2 l3 : Value) (S : List Value) (h : zH), rn 186 3 [l0, l1, l2, l3] S h = rn 186 5 [l0, l1, l2, l3] (.int (nI 12) :: S) h) ∧
  (∀ (l0 l1 l2 l3 : Value) (x : Int32) (y : Int32) (S : List Value) (h : zH), rn 186 5 [l0, l1, l2, l3] (.int y :: .int x :: S) h = if y ≤ x then rn 186 29 [l0, l1, l2, l3] S h else rn 186 8 [l0, l1, l2, l3] S h) ∧
  (∀ (l1 l2 l3 : Value) (x : Nat) (S : List Value) (h : zH), rn 186 8 [.ref x, l1, l2, l3] S h = rn 186 9 [.ref x, l1, l2, l3] (.ref x :: S) h) ∧
  (∀ (l0 l1 l2 : Value) (x : Int32) (S : List Value) (h : zH), rn 186 9 [l0, l1, l2, .int x] S h = rn 186 10 [l0, l1, l2, .int x] (.int x :: S) h) ∧
  (∀ (l0 l1 l2 l3 : Value) (v0 : Value) (S : List Value) (h : zH), rn 186 10 [l0, l1, l2, l3] (v0 :: S) h = if zsum S ≤ 8 then zcall (ev 187 [v0] h) (fun v h => rn 186 13 [l0, l1, l2, l3] (zpush v S) h) else none) ∧
  (∀ (l0 l2 l3 : Value) (x : Int32) (S : List Value) (h : zH), rn 186 13 [l0, .int x, l2, l3] S h = rn 186 14 [l0, .int x, l2, l3] (.int x :: S) h) ∧
  (∀ (l0 l1 l3 : Value) (x : Int32) (S : List Value) (h : zH), rn 186 14 [l0, l1, .int x, l3] S h = rn 186 15 [l0, l1, .int x, l3] (.int x :: S) h) ∧
  (∀ (l0 l1 l2 l3 : Value) (o : Nat) (v0 : Value) (v1 : Value) (v2 : Value) (S : List Value) (h : zH), rn 186 15 [l0, l1, l2, l3] (v2 :: v1 :: v0 :: .ref o :: S) h = if zkd h o = 3 ∧ zsum S ≤ 8 then zcall (ev 188 [.ref o, v0, v1, v2] h) (fun v h => rn 186 18 [l0, l1, l2, l3] (zpush v S) h) else none) ∧
  (∀ (l0 l1 l2 l3 : Value) (x : Int32) (S : List Value) (h : zH), rn 186 18 [l0, l1, l2, l3] (.int x :: S) h = if x = nI 0 then rn 186 23 [l0, l1, l2, l3] S h else rn 186 21 [l0, l1, l2, l3] S h) ∧
  (∀ (l0 l1 l2 : Value) (x : Int32) (S : List Value) (h : zH), rn 186 21 [l0, l1, l2, .int x] S h = rn 186 22 [l0, l1, l2, .int x] (.int x :: S) h) ∧
  (∀ (l0 l1 l2 l3 : Value) (x : Int32) (h : zH), rn 186 22 [l0, l1, l2, l3] [.int x] h = some (some (.int x), h)) ∧
  (∀ (l0 l1 l2 : Value) (x : Int32) (S : List Value) (h : zH), rn 186 23 [l0, l1, l2, .int x] S h = nl l2 (rn 186 26 [l0, l1, l2, .int (x + (nI 1))] S h)) ∧
  (∀ (l0 l1 l2 l3 : Value) (S : List Value) (h : zH), rn 186 26 [l0, l1, l2, l3] S h = rn 186 2 [l0, l1, l2, l3] S h) ∧
  (∀ (l0 l1 l2 l3 : Value) (S : List Value) (h : zH), rn 186 29 [l0, l1, l2, l3] S h = rn 186 31 [l0, l1, l2, l3] (.int (-2) :: S) h) ∧
  (∀ (l0 l1 l2 l3 : Value) (x : Int32) (h : zH), rn 186 31 [l0, l1, l2, l3] [.int x] h = some (some (.int x), h)) := ⟨fun _ _ _ _ _ _ => r_iconst (show zdec 186 0 = some (.iconst 0, 1) by decide +kernel) rfl rfl,
  fun _ _ _ _ _ _ _ => r_istore_n (show zdec 186 1 = some (.istore_n 3, 1) by decide +kernel) rfl rfl (Nat.le_of_ble_eq_true rfl) rfl rfl,
  fun _ _ _ _ _ _ => r_bipush (show zdec 186 3 = some (.bipush 12, 2) by decide +kernel) rfl rfl,
  fun _ _ _ _ _ _ _ _ => r_icmpge (show zdec 186 5 = some (.if_icmp .ge 24, 3) by decide +kernel) rfl rfl,
  fun _ _ _ _ _ _ => r_aload_nr (show zdec 186 8 = some (.aload_n 0, 1) by decide +kernel) rfl rfl,
  fun _ _ _ _ _ _ => r_iload_n (show zdec 186 9 = some (.iload_n 3, 1) by decide +kernel) rfl rfl,
  fun _ _ _ _ _ _ _ => r_cS [_] rfl (show zdec 186 10 = some (.invokestatic 67, 3) by decide +kernel) (show zst.lookup (186 * zKEY + 67) = some (0, 187, 1, 0) by decide +kernel) (by decide) rfl,
  fun _ _ _ _ _ _ => r_iload_n (show zdec 186 13 = some (.iload_n 1, 1) by decide +kernel) rfl rfl,
  fun _ _ _ _ _ _ => r_iload_n (show zdec 186 14 = some (.iload_n 2, 1) by decide +kernel) rfl rfl,
  fun _ _ _ _ _ _ _ _ _ _ => r_cV [_, _, _] rfl (show zdec 186 15 = some (.invokevirtual 71, 3) by decide +kernel) (show zst.lookup (186 * zKEY + 71) = some (1, 188, 3, 3) by decide +kernel) (by decide) rfl,
  fun _ _ _ _ _ _ _ => r_ifeq (show zdec 186 18 = some (.ifCond .eq 5, 3) by decide +kernel) rfl rfl,
  fun _ _ _ _ _ _ => r_iload_n (show zdec 186 21 = some (.iload_n 3, 1) by decide +kernel) rfl rfl,
  fun _ _ _ _ _ _ => r_ireti (show zdec 186 22 = some (.ireturn, 1) by decide +kernel) (by decide +kernel),
  fun _ _ _ _ _ _ => r_iinc (show zdec 186 23 = some (.iinc 3 1, 3) by decide +kernel) rfl rfl rfl (Nat.le_of_ble_eq_true rfl) rfl rfl,
  fun _ _ _ _ _ _ => r_goto (show zdec 186 26 = some (.goto (-24), 3) by decide +kernel) rfl,
  fun _ _ _ _ _ _ => r_bipush (show zdec 186 29 = some (.bipush (-2), 2) by decide +kernel) rfl rfl,
  fun _ _ _ _ _ _ => r_ireti (show zdec 186 31 = some (.ireturn, 1) by decide +kernel) (by decide +kernel)⟩
theorem zl_186_2 : ∀ (l0 l1 l2 : Value) (x : Int32) (S : List Value) (h : zH), rn 186 2 [l0, l1, l2, .int x] S h = rn 186 3 [l0, l1, l2, .int x] (.int x :: S) h := fun _ _ _ _ _ _ => r_iload_n (show zdec 186 2 = some (.iload_n 3, 1) by decide +kernel) rfl rfl
theorem ze_186 : ∀ (a0 : Nat) (a1 : Int32) (a2 : Int32) (h : zH), ev 186 [.ref a0, .int a1, .int a2] h = rn 186 0 [.ref a0, .int a1, .int a2, .float 0] [] h := fun _ _ _ _ => if_pos (Nat.le_of_ble_eq_true rfl)
-- PayrollRun/CommandText.wordText(I)Ljava/lang/String;
theorem zr_187 : (∀ (x : Int32) (S : List Value) (h : zH), rn 187 0 [.int x] S h = rn 187 1 [.int x] (.int x :: S) h) ∧
  (∀ (l0 : Value) (x : Int32) (S : List Value) (h : zH), rn 187 1 [l0] (.int x :: S) h = if x = nI 0 then rn 187 60 [l0] S h else if x = nI 1 then rn 187 63 [l0] S h else if x = nI 2 then rn 187 66 [l0] S h else if x = nI 3 then rn 187 69 [l0] S h else if x = nI 4 then rn 187 72 [l0] S h else if x = nI 5 then rn 187 75 [l0] S h else if x = nI 6 then rn 187 78 [l0] S h else if x = nI 7 then rn 187 81 [l0] S h else if x = nI 8 then rn 187 84 [l0] S h else if x = nI 9 then rn 187 87 [l0] S h else if x = nI 10 then rn 187 90 [l0] S h else rn 187 93 [l0] S h) ∧
  (∀ (l0 : Value) (S : List Value) (h : zH), rn 187 60 [l0] S h = rn 187 62 [l0] (.ref 10 :: S) h) ∧
  (∀ (l0 : Value) (a : Nat) (h : zH), rn 187 62 [l0] [.ref a] h = some (some (.ref a), h)) ∧
  (∀ (l0 : Value) (S : List Value) (h : zH), rn 187 63 [l0] S h = rn 187 65 [l0] (.ref 12 :: S) h) ∧
  (∀ (l0 : Value) (a : Nat) (h : zH), rn 187 65 [l0] [.ref a] h = some (some (.ref a), h)) ∧
  (∀ (l0 : Value) (S : List Value) (h : zH), rn 187 66 [l0] S h = rn 187 68 [l0] (.ref 14 :: S) h) ∧
  (∀ (l0 : Value) (a : Nat) (h : zH), rn 187 68 [l0] [.ref a] h = some (some (.ref a), h)) ∧
  (∀ (l0 : Value) (S : List Value) (h : zH), rn 187 69 [l0] S h = rn 187 71 [l0] (.ref 16 :: S) h) ∧
  (∀ (l0 : Value) (a : Nat) (h : zH), rn 187 71 [l0] [.ref a] h = some (some (.ref a), h)) ∧
  (∀ (l0 : Value) (S : List Value) (h : zH), rn 187 72 [l0] S h = rn 187 74 [l0] (.ref 18 :: S) h) ∧
  (∀ (l0 : Value) (a : Nat) (h : zH), rn 187 74 [l0] [.ref a] h = some (some (.ref a), h)) ∧
  (∀ (l0 : Value) (S : List Value) (h : zH), rn 187 75 [l0] S h = rn 187 77 [l0] (.ref 20 :: S) h) ∧
  (∀ (l0 : Value) (a : Nat) (h : zH), rn 187 77 [l0] [.ref a] h = some (some (.ref a), h)) ∧
  (∀ (l0 : Value) (S : List Value) (h : zH), rn 187 78 [l0] S h = rn 187 80 [l0] (.ref 22 :: S) h) ∧
  (∀ (l0 : Value) (a : Nat) (h : zH), rn 187 80 [l0] [.ref a] h = some (some (.ref a), h)) ∧
  (∀ (l0 : Value) (S : List Value) (h : zH), rn 187 81 [l0] S h = rn 187 83 [l0] (.ref 24 :: S) h) ∧
  (∀ (l0 : Value) (a : Nat) (h : zH), rn 187 83 [l0] [.ref a] h = some (some (.ref a), h)) ∧
  (∀ (l0 : Value) (S : List Value) (h : zH), rn 187 84 [l0] S h = rn 187 86 [l0] (.ref 26 :: S) h) ∧
  (∀ (l0 : Value) (a : Nat) (h : zH), rn 187 86 [l0] [.ref a] h = some (some (.ref a), h)) ∧
  (∀ (l0 : Value) (S : List Value) (h : zH), rn 187 87 [l0] S h = rn 187 89 [l0] (.ref 28 :: S) h) ∧
  (∀ (l0 : Value) (a : Nat) (h : zH), rn 187 89 [l0] [.ref a] h = some (some (.ref a), h)) ∧
  (∀ (l0 : Value) (S : List Value) (h : zH), rn 187 90 [l0] S h = rn 187 92 [l0] (.ref 30 :: S) h) ∧
  (∀ (l0 : Value) (a : Nat) (h : zH), rn 187 92 [l0] [.ref a] h = some (some (.ref a), h)) ∧
  (∀ (l0 : Value) (S : List Value) (h : zH), rn 187 93 [l0] S h = rn 187 95 [l0] (.ref 32 :: S) h) ∧
  (∀ (l0 : Value) (a : Nat) (h : zH), rn 187 95 [l0] [.ref a] h = some (some (.ref a), h)) := ⟨fun _ _ _ => r_iload_n (show zdec 187 0 = some (.iload_n 0, 1) by decide +kernel) rfl rfl,
  fun _ _ _ _ => (r_tsw (l := 0) (ts := [60, 63, 66, 69, 72, 75, 78, 81, 84, 87, 90]) (dt := 93) (show zdec 187 1 = some (.tableswitch 92 0 10 #[59, 62, 65, 68, 71, 74, 77, 80, 83, 86, 89], 59) by decide +kernel) (by decide +kernel)),
  fun _ _ _ => r_ldcS (show zdec 187 60 = some (.ldc 84, 2) by decide +kernel) (show zkt.lookup (187 * zKEY + 84) = none by decide +kernel) (show zut.lookup (187 * zKEY + 84) = some 0 by decide +kernel) rfl rfl,
  fun _ _ _ => r_areto (C := "java/lang/String") (show zdec 187 62 = some (.areturn, 1) by decide +kernel) (by decide +kernel),
  fun _ _ _ => r_ldcS (show zdec 187 63 = some (.ldc 86, 2) by decide +kernel) (show zkt.lookup (187 * zKEY + 86) = none by decide +kernel) (show zut.lookup (187 * zKEY + 86) = some 1 by decide +kernel) rfl rfl,
  fun _ _ _ => r_areto (C := "java/lang/String") (show zdec 187 65 = some (.areturn, 1) by decide +kernel) (by decide +kernel),
  fun _ _ _ => r_ldcS (show zdec 187 66 = some (.ldc 88, 2) by decide +kernel) (show zkt.lookup (187 * zKEY + 88) = none by decide +kernel) (show zut.lookup (187 * zKEY + 88) = some 2 by decide +kernel) rfl rfl,
  fun _ _ _ => r_areto (C := "java/lang/String") (show zdec 187 68 = some (.areturn, 1) by decide +kernel) (by decide +kernel),
  fun _ _ _ => r_ldcS (show zdec 187 69 = some (.ldc 90, 2) by decide +kernel) (show zkt.lookup (187 * zKEY + 90) = none by decide +kernel) (show zut.lookup (187 * zKEY + 90) = some 3 by decide +kernel) rfl rfl,
  fun _ _ _ => r_areto (C := "java/lang/String") (show zdec 187 71 = some (.areturn, 1) by decide +kernel) (by decide +kernel),
  fun _ _ _ => r_ldcS (show zdec 187 72 = some (.ldc 92, 2) by decide +kernel) (show zkt.lookup (187 * zKEY + 92) = none by decide +kernel) (show zut.lookup (187 * zKEY + 92) = some 4 by decide +kernel) rfl rfl,
  fun _ _ _ => r_areto (C := "java/lang/String") (show zdec 187 74 = some (.areturn, 1) by decide +kernel) (by decide +kernel),
  fun _ _ _ => r_ldcS (show zdec 187 75 = some (.ldc 94, 2) by decide +kernel) (show zkt.lookup (187 * zKEY + 94) = none by decide +kernel) (show zut.lookup (187 * zKEY + 94) = some 5 by decide +kernel) rfl rfl,
  fun _ _ _ => r_areto (C := "java/lang/String") (show zdec 187 77 = some (.areturn, 1) by decide +kernel) (by decide +kernel),
  fun _ _ _ => r_ldcS (show zdec 187 78 = some (.ldc 96, 2) by decide +kernel) (show zkt.lookup (187 * zKEY + 96) = none by decide +kernel) (show zut.lookup (187 * zKEY + 96) = some 6 by decide +kernel) rfl rfl,
  fun _ _ _ => r_areto (C := "java/lang/String") (show zdec 187 80 = some (.areturn, 1) by decide +kernel) (by decide +kernel),
  fun _ _ _ => r_ldcS (show zdec 187 81 = some (.ldc 98, 2) by decide +kernel) (show zkt.lookup (187 * zKEY + 98) = none by decide +kernel) (show zut.lookup (187 * zKEY + 98) = some 7 by decide +kernel) rfl rfl,
  fun _ _ _ => r_areto (C := "java/lang/String") (show zdec 187 83 = some (.areturn, 1) by decide +kernel) (by decide +kernel),
  fun _ _ _ => r_ldcS (show zdec 187 84 = some (.ldc 100, 2) by decide +kernel) (show zkt.lookup (187 * zKEY + 100) = none by decide +kernel) (show zut.lookup (187 * zKEY + 100) = some 8 by decide +kernel) rfl rfl,
  fun _ _ _ => r_areto (C := "java/lang/String") (show zdec 187 86 = some (.areturn, 1) by decide +kernel) (by decide +kernel),
  fun _ _ _ => r_ldcS (show zdec 187 87 = some (.ldc 102, 2) by decide +kernel) (show zkt.lookup (187 * zKEY + 102) = none by decide +kernel) (show zut.lookup (187 * zKEY + 102) = some 9 by decide +kernel) rfl rfl,
  fun _ _ _ => r_areto (C := "java/lang/String") (show zdec 187 89 = some (.areturn, 1) by decide +kernel) (by decide +kernel),
  fun _ _ _ => r_ldcS (show zdec 187 90 = some (.ldc 104, 2) by decide +kernel) (show zkt.lookup (187 * zKEY + 104) = none by decide +kernel) (show zut.lookup (187 * zKEY + 104) = some 10 by decide +kernel) rfl rfl,
  fun _ _ _ => r_areto (C := "java/lang/String") (show zdec 187 92 = some (.areturn, 1) by decide +kernel) (by decide +kernel),
  fun _ _ _ => r_ldcS (show zdec 187 93 = some (.ldc 106, 2) by decide +kernel) (show zkt.lookup (187 * zKEY + 106) = none by decide +kernel) (show zut.lookup (187 * zKEY + 106) = some 11 by decide +kernel) rfl rfl,
  fun _ _ _ => r_areto (C := "java/lang/String") (show zdec 187 95 = some (.areturn, 1) by decide +kernel) (by decide +kernel)⟩
theorem ze_187 : ∀ (a0 : Int32) (h : zH), ev 187 [.int a0] h = rn 187 0 [.int a0] [] h := fun _ _ => if_pos (Nat.le_of_ble_eq_true rfl)
-- PayrollRun/CommandText.spells(Ljava/lang/String;II)Z
theorem zr_188 : (∀ (l0 l1 l2 l3 l4 : Value) (S : List Value) (h : zH), rn 188 0 [l0, l1, l2, l3, l4] S h = ldA l1 (rn 188 1 [l0, l1, l2, l3, l4] (l1 :: S) h)) ∧
  (∀ (l0 l1 l2 l3 l4 : Value) (o : Nat) (S : List Value) (h : zH), rn 188 1 [l0, l1, l2, l3, l4] (.ref o :: S) h = if zkd h o = 13 ∧ zsum S ≤ 8 then zcall (ev 122 [.ref o] h) (fun v h => rn 188 4 [l0, l1, l2, l3, l4] (zpush v S) h) else none) ∧
  (∀ (l0 l1 l2 l4 : Value) (x : Int32) (S : List Value) (h : zH), rn 188 4 [l0, l1, l2, .int x, l4] S h = rn 188 5 [l0, l1, l2, .int x, l4] (.int x :: S) h) ∧
  (∀ (l0 l1 l3 l4 : Value) (x : Int32) (S : List Value) (h : zH), rn 188 5 [l0, l1, .int x, l3, l4] S h = rn 188 6 [l0, l1, .int x, l3, l4] (.int x :: S) h) ∧
  (∀ (l0 l1 l2 l3 l4 : Value) (x : Int32) (y : Int32) (S : List Value) (h : zH), rn 188 6 [l0, l1, l2, l3, l4] (.int y :: .int x :: S) h = rn 188 7 [l0, l1, l2, l3, l4] (.int (x - y) :: S) h) ∧
  (∀ (l0 l1 l2 l3 l4 : Value) (x : Int32) (y : Int32) (S : List Value) (h : zH), rn 188 7 [l0, l1, l2, l3, l4] (.int y :: .int x :: S) h = if x = y then rn 188 12 [l0, l1, l2, l3, l4] S h else rn 188 10 [l0, l1, l2, l3, l4] S h) ∧
  (∀ (l0 l1 l2 l3 l4 : Value) (S : List Value) (h : zH), rn 188 10 [l0, l1, l2, l3, l4] S h = rn 188 11 [l0, l1, l2, l3, l4] (.int (nI 0) :: S) h) ∧
  (∀ (l0 l1 l2 l3 l4 : Value) (x : Int32) (h : zH), rn 188 11 [l0, l1, l2, l3, l4] [.int x] h = if x = nI 0 ∨ x = nI 1 then some (some (.int x), h) else none) ∧
  (∀ (l0 l1 l2 l3 l4 : Value) (S : List Value) (h : zH), rn 188 12 [l0, l1, l2, l3, l4] S h = rn 188 13 [l0, l1, l2, l3, l4] (.int (nI 0) :: S) h) ∧
  (∀ (l0 l1 l2 l3 l4 : Value) (x : Int32) (S : List Value) (h : zH), rn 188 13 [l0, l1, l2, l3, l4] (.int x :: S) h = nl l3 (rn 188 15 [l0, l1, l2, l3, .int x] S h)) ∧
  (∀ (l0 l1 l2 l3 l4 : Value) (S : List Value) (h : zH), rn 188 17 [l0, l1, l2, l3, l4] S h = ldA l1 (rn 188 18 [l0, l1, l2, l3, l4] (l1 :: S) h)) ∧
  (∀ (l0 l1 l2 l3 l4 : Value) (o : Nat) (S : List Value) (h : zH), rn 188 18 [l0, l1, l2, l3, l4] (.ref o :: S) h = if zkd h o = 13 ∧ zsum S ≤ 8 then zcall (ev 122 [.ref o] h) (fun v h => rn 188 21 [l0, l1, l2, l3, l4] (zpush v S) h) else none) ∧
  (∀ (l0 l1 l2 l3 l4 : Value) (x : Int32) (y : Int32) (S : List Value) (h : zH), rn 188 21 [l0, l1, l2, l3, l4] (.int y :: .int x :: S) h = if y ≤ x then rn 188 50 [l0, l1, l2, l3, l4] S h else rn 188 24 [l0, l1, l2, l3, l4] S h) ∧
  (∀ (l0 l1 l2 l3 l4 : Value) (S : List Value) (h : zH), rn 188 24 [l0, l1, l2, l3, l4] S h = ldA l1 (rn 188 25 [l0, l1, l2, l3, l4] (l1 :: S) h)) ∧
  (∀ (l0 l1 l2 l3 : Value) (x : Int32) (S : List Value) (h : zH), rn 188 25 [l0, l1, l2, l3, .int x] S h = rn 188 27 [l0, l1, l2, l3, .int x] (.int x :: S) h) ∧
  (∀ (l0 l1 l2 l3 l4 : Value) (o : Nat) (v0 : Value) (S : List Value) (h : zH), rn 188 27 [l0, l1, l2, l3, l4] (v0 :: .ref o :: S) h = if zkd h o = 13 ∧ zsum S ≤ 8 then zcall (ev 189 [.ref o, v0] h) (fun v h => rn 188 30 [l0, l1, l2, l3, l4] (zpush v S) h) else none) ∧
  (∀ (l1 l2 l3 l4 : Value) (x : Nat) (S : List Value) (h : zH), rn 188 30 [.ref x, l1, l2, l3, l4] S h = rn 188 31 [.ref x, l1, l2, l3, l4] (.ref x :: S) h) ∧
  (∀ (l0 l1 l2 l3 l4 : Value) (a : Nat) (S : List Value) (h : zH), rn 188 31 [l0, l1, l2, l3, l4] (.ref a :: S) h = zgf h a 3 0 fun v => rn 188 34 [l0, l1, l2, l3, l4] (v :: S) h) ∧
  (∀ (l0 l1 l3 l4 : Value) (x : Int32) (S : List Value) (h : zH), rn 188 34 [l0, l1, .int x, l3, l4] S h = rn 188 35 [l0, l1, .int x, l3, l4] (.int x :: S) h) ∧
  (∀ (l0 l1 l2 l3 : Value) (x : Int32) (S : List Value) (h : zH), rn 188 35 [l0, l1, l2, l3, .int x] S h = rn 188 37 [l0, l1, l2, l3, .int x] (.int x :: S) h) ∧
  (∀ (l0 l1 l2 l3 l4 : Value) (x : Int32) (y : Int32) (S : List Value) (h : zH), rn 188 37 [l0, l1, l2, l3, l4] (.int y :: .int x :: S) h = rn 188 38 [l0, l1, l2, l3, l4] (.int (x + y) :: S) h) ∧
  (∀ (l0 l1 l2 l3 l4 : Value) (a : Nat) (j : Int32) (S : List Value) (h : zH), rn 188 38 [l0, l1, l2, l3, l4] (.int j :: .ref a :: S) h = zli h a 2 j fun x => rn 188 39 [l0, l1, l2, l3, l4] (.int x :: S) h) ∧
  (∀ (l0 l1 l2 l3 l4 : Value) (x : Int32) (y : Int32) (S : List Value) (h : zH), rn 188 39 [l0, l1, l2, l3, l4] (.int y :: .int x :: S) h = if x = y then rn 188 44 [l0, l1, l2, l3, l4] S h else rn 188 42 [l0, l1, l2, l3, l4] S h) ∧
  (∀ (l0 l1 l2 l3 l4 : Value) (S : List Value) (h : zH), rn 188 42 [l0, l1, l2, l3, l4] S h = rn 188 43 [l0, l1, l2, l3, l4] (.int (nI 0) :: S) h) ∧
  (∀ (l0 l1 l2 l3 l4 : Value) (x : Int32) (h : zH), rn 188 43 [l0, l1, l2, l3, l4] [.int x] h = if x = nI 0 ∨ x = nI 1 then some (some (.int x), h) else none) ∧
  (∀ (l0 l1 l2 l3 : Value) (x : Int32) (S : List Value) (h : zH), rn 188 44 [l0, l1, l2, l3, .int x] S h = nl l3 (rn 188 47 [l0, l1, l2, l3, .int (x + (nI 1))] S h)) ∧
  (∀ (l0 l1 l2 l3 l4 : Value) (S : List Value) (h : zH), rn 188 47 [l0, l1, l2, l3, l4] S h = rn 188 15 [l0, l1, l2, l3, l4] S h) ∧
  (∀ (l0 l1 l2 l3 l4 : Value) (S : List Value) (h : zH), rn 188 50 [l0, l1, l2, l3, l4] S h = rn 188 51 [l0, l1, l2, l3, l4] (.int (nI 1) :: S) h) ∧
  (∀ (l0 l1 l2 l3 l4 : Value) (x : Int32) (h : zH), rn 188 51 [l0, l1, l2, l3, l4] [.int x] h = if x = nI 0 ∨ x = nI 1 then some (some (.int x), h) else none) := ⟨fun _ _ _ _ _ _ _ => r_aload_n (show zdec 188 0 = some (.aload_n 1, 1) by decide +kernel) rfl rfl,
  fun _ _ _ _ _ _ _ _ => r_cV [] rfl (show zdec 188 1 = some (.invokevirtual 75, 3) by decide +kernel) (show zst.lookup (188 * zKEY + 75) = some (1, 122, 0, 13) by decide +kernel) (by decide) rfl,
  fun _ _ _ _ _ _ _ => r_iload_n (show zdec 188 4 = some (.iload_n 3, 1) by decide +kernel) rfl rfl,
  fun _ _ _ _ _ _ _ => r_iload_n (show zdec 188 5 = some (.iload_n 2, 1) by decide +kernel) rfl rfl,
  fun _ _ _ _ _ _ _ _ _ => r_isub (show zdec 188 6 = some (.isub, 1) by decide +kernel) rfl,
  fun _ _ _ _ _ _ _ _ _ => r_icmpeq (show zdec 188 7 = some (.if_icmp .eq 5, 3) by decide +kernel) rfl rfl,
  fun _ _ _ _ _ _ _ => r_iconst (show zdec 188 10 = some (.iconst 0, 1) by decide +kernel) rfl rfl,
  fun _ _ _ _ _ _ _ => r_iretb (show zdec 188 11 = some (.ireturn, 1) by decide +kernel) (by decide +kernel),
  fun _ _ _ _ _ _ _ => r_iconst (show zdec 188 12 = some (.iconst 0, 1) by decide +kernel) rfl rfl,
  fun _ _ _ _ _ _ _ _ => r_istore (show zdec 188 13 = some (.istore 4, 2) by decide +kernel) rfl (Nat.le_of_ble_eq_true rfl) rfl rfl,
  fun _ _ _ _ _ _ _ => r_aload_n (show zdec 188 17 = some (.aload_n 1, 1) by decide +kernel) rfl rfl,
  fun _ _ _ _ _ _ _ _ => r_cV [] rfl (show zdec 188 18 = some (.invokevirtual 75, 3) by decide +kernel) (show zst.lookup (188 * zKEY + 75) = some (1, 122, 0, 13) by decide +kernel) (by decide) rfl,
  fun _ _ _ _ _ _ _ _ _ => r_icmpge (show zdec 188 21 = some (.if_icmp .ge 29, 3) by decide +kernel) rfl rfl,
  fun _ _ _ _ _ _ _ => r_aload_n (show zdec 188 24 = some (.aload_n 1, 1) by decide +kernel) rfl rfl,
  fun _ _ _ _ _ _ _ => r_iload (show zdec 188 25 = some (.iload 4, 2) by decide +kernel) rfl rfl,
  fun _ _ _ _ _ _ _ _ _ => r_cV [_] rfl (show zdec 188 27 = some (.invokevirtual 80, 3) by decide +kernel) (show zst.lookup (188 * zKEY + 80) = some (1, 189, 1, 13) by decide +kernel) (by decide) rfl,
  fun _ _ _ _ _ _ _ => r_aload_nr (show zdec 188 30 = some (.aload_n 0, 1) by decide +kernel) rfl rfl,
  fun _ _ _ _ _ _ _ _ => r_getfield (show zdec 188 31 = some (.getfield 11, 3) by decide +kernel) (show zft.lookup (188 * zKEY + 11) = some (3, 0) by decide +kernel) rfl,
  fun _ _ _ _ _ _ _ => r_iload_n (show zdec 188 34 = some (.iload_n 2, 1) by decide +kernel) rfl rfl,
  fun _ _ _ _ _ _ _ => r_iload (show zdec 188 35 = some (.iload 4, 2) by decide +kernel) rfl rfl,
  fun _ _ _ _ _ _ _ _ _ => r_iadd (show zdec 188 37 = some (.iadd, 1) by decide +kernel) rfl,
  fun _ _ _ _ _ _ _ _ _ => r_cald (show zdec 188 38 = some (.caload, 1) by decide +kernel) rfl,
  fun _ _ _ _ _ _ _ _ _ => r_icmpeq (show zdec 188 39 = some (.if_icmp .eq 5, 3) by decide +kernel) rfl rfl,
  fun _ _ _ _ _ _ _ => r_iconst (show zdec 188 42 = some (.iconst 0, 1) by decide +kernel) rfl rfl,
  fun _ _ _ _ _ _ _ => r_iretb (show zdec 188 43 = some (.ireturn, 1) by decide +kernel) (by decide +kernel),
  fun _ _ _ _ _ _ _ => r_iinc (show zdec 188 44 = some (.iinc 4 1, 3) by decide +kernel) rfl rfl rfl (Nat.le_of_ble_eq_true rfl) rfl rfl,
  fun _ _ _ _ _ _ _ => r_goto (show zdec 188 47 = some (.goto (-32), 3) by decide +kernel) rfl,
  fun _ _ _ _ _ _ _ => r_iconst (show zdec 188 50 = some (.iconst 1, 1) by decide +kernel) rfl rfl,
  fun _ _ _ _ _ _ _ => r_iretb (show zdec 188 51 = some (.ireturn, 1) by decide +kernel) (by decide +kernel)⟩
theorem zl_188_15 : ∀ (l0 l1 l2 l3 : Value) (x : Int32) (S : List Value) (h : zH), rn 188 15 [l0, l1, l2, l3, .int x] S h = rn 188 17 [l0, l1, l2, l3, .int x] (.int x :: S) h := fun _ _ _ _ _ _ _ => r_iload (show zdec 188 15 = some (.iload 4, 2) by decide +kernel) rfl rfl
theorem ze_188 : ∀ (a0 : Nat) (a1 : Nat) (a2 : Int32) (a3 : Int32) (h : zH), ev 188 [.ref a0, .ref a1, .int a2, .int a3] h = rn 188 0 [.ref a0, .ref a1, .int a2, .int a3, .float 0] [] h := fun _ _ _ _ _ => if_pos (Nat.le_of_ble_eq_true rfl)
-- PayrollRun/CommandText.failureAt(I)I
theorem zr_193 : (∀ (l0 : Value) (S : List Value) (h : zH), rn 193 0 [l0] S h = rn 193 1 [l0] (.int (-1) :: S) h) ∧
  (∀ (x : Int32) (S : List Value) (h : zH), rn 193 1 [.int x] S h = rn 193 2 [.int x] (.int x :: S) h) ∧
  (∀ (l0 : Value) (x : Int32) (y : Int32) (S : List Value) (h : zH), rn 193 2 [l0] (.int y :: .int x :: S) h = rn 193 3 [l0] (.int (x - y) :: S) h) ∧
  (∀ (l0 : Value) (x : Int32) (h : zH), rn 193 3 [l0] [.int x] h = some (some (.int x), h)) := ⟨fun _ _ _ => r_iconst (show zdec 193 0 = some (.iconst (-1), 1) by decide +kernel) rfl rfl,
  fun _ _ _ => r_iload_n (show zdec 193 1 = some (.iload_n 0, 1) by decide +kernel) rfl rfl,
  fun _ _ _ _ _ => r_isub (show zdec 193 2 = some (.isub, 1) by decide +kernel) rfl,
  fun _ _ _ => r_ireti (show zdec 193 3 = some (.ireturn, 1) by decide +kernel) (by decide +kernel)⟩
theorem ze_193 : ∀ (a0 : Int32) (h : zH), ev 193 [.int a0] h = rn 193 0 [.int a0] [] h := fun _ _ => if_pos (Nat.le_of_ble_eq_true rfl)
-- PayrollRun/CommandText.readNumber(II)I
theorem zr_194 : (∀ (l1 l2 l3 l4 l5 : Value) (x : Nat) (S : List Value) (h : zH), rn 194 0 [.ref x, l1, l2, l3, l4, l5] S h = rn 194 1 [.ref x, l1, l2, l3, l4, l5] (.ref x :: S) h) ∧
  (∀ (l0 l2 l3 l4 l5 : Value) (x : Int32) (S : List Value) (h : zH), rn 194 1 [l0, .int x, l2, l3, l4, l5] S h = rn 194 2 [l0, .int x, l2, l3, l4, l5] (.int x :: S) h) ∧
  (∀ (l0 l1 l2 l3 l4 l5 : Value) (S : List Value) (h : zH), rn 194 2 [l0, l1, l2, l3, l4, l5] S h = rn 194 4 [l0, l1, l2, l3, l4, l5] (.int (nI 32) :: S) h) ∧
  (∀ (l0 l1 l2 l3 l4 l5 : Value) (S : List Value) (h : zH), rn 194 4 [l0, l1, l2, l3, l4, l5] S h = rn 194 6 [l0, l1, l2, l3, l4, l5] (.int (nI 32) :: S) h) ∧
  (∀ (l0 l1 l2 l3 l4 l5 : Value) (o : Nat) (v0 : Value) (v1 : Value) (v2 : Value) (S : List Value) (h : zH), rn 194 6 [l0, l1, l2, l3, l4, l5] (v2 :: v1 :: v0 :: .ref o :: S) h = if zkd h o = 3 ∧ zsum S ≤ 8 then zcall (ev 185 [.ref o, v0, v1, v2] h) (fun v h => rn 194 9 [l0, l1, l2, l3, l4, l5] (zpush v S) h) else none) ∧
  (∀ (l0 l1 l2 l3 l4 l5 : Value) (x : Int32) (S : List Value) (h : zH), rn 194 9 [l0, l1, l2, l3, l4, l5] (.int x :: S) h = if x = nI 0 then rn 194 12 [l0, l1, l2, l3, l4, l5] S h else rn 194 17 [l0, l1, l2, l3, l4, l5] S h) ∧
  (∀ (l0 l2 l3 l4 l5 : Value) (x : Int32) (S : List Value) (h : zH), rn 194 12 [l0, .int x, l2, l3, l4, l5] S h = rn 194 13 [l0, .int x, l2, l3, l4, l5] (.int x :: S) h) ∧
  (∀ (l0 l1 l2 l3 l4 l5 : Value) (v0 : Value) (S : List Value) (h : zH), rn 194 13 [l0, l1, l2, l3, l4, l5] (v0 :: S) h = if zsum S ≤ 8 then zcall (ev 193 [v0] h) (fun v h => rn 194 16 [l0, l1, l2, l3, l4, l5] (zpush v S) h) else none) ∧
  (∀ (l0 l1 l2 l3 l4 l5 : Value) (x : Int32) (h : zH), rn 194 16 [l0, l1, l2, l3, l4, l5] [.int x] h = some (some (.int x), h)) ∧
  (∀ (l0 l2 l3 l4 l5 : Value) (x : Int32) (S : List Value) (h : zH), rn 194 17 [l0, .int x, l2, l3, l4, l5] S h = rn 194 18 [l0, .int x, l2, l3, l4, l5] (.int x :: S) h) ∧
  (∀ (l0 l1 l2 l3 l4 l5 : Value) (S : List Value) (h : zH), rn 194 18 [l0, l1, l2, l3, l4, l5] S h = rn 194 19 [l0, l1, l2, l3, l4, l5] (.int (nI 1) :: S) h) ∧
  (∀ (l0 l1 l2 l3 l4 l5 : Value) (x : Int32) (y : Int32) (S : List Value) (h : zH), rn 194 19 [l0, l1, l2, l3, l4, l5] (.int y :: .int x :: S) h = rn 194 20 [l0, l1, l2, l3, l4, l5] (.int (x + y) :: S) h) ∧
  (∀ (l0 l1 l2 l3 l4 l5 : Value) (x : Int32) (S : List Value) (h : zH), rn 194 20 [l0, l1, l2, l3, l4, l5] (.int x :: S) h = nl l2 (rn 194 21 [l0, l1, l2, .int x, l4, l5] S h)) ∧
  (∀ (l0 l1 l2 l4 l5 : Value) (x : Int32) (S : List Value) (h : zH), rn 194 21 [l0, l1, l2, .int x, l4, l5] S h = rn 194 22 [l0, l1, l2, .int x, l4, l5] (.int x :: S) h) ∧
  (∀ (l0 l1 l2 l3 l4 l5 : Value) (x : Int32) (S : List Value) (h : zH), rn 194 22 [l0, l1, l2, l3, l4, l5] (.int x :: S) h = nl l3 (rn 194 24 [l0, l1, l2, l3, .int x, l5] S h)) ∧
  (∀ (l0 l1 l2 l3 l4 l5 : Value) (S : List Value) (h : zH), rn 194 24 [l0, l1, l2, l3, l4, l5] S h = rn 194 25 [l0, l1, l2, l3, l4, l5] (.int (nI 0) :: S) h) ∧
  (∀ (l0 l1 l2 l3 l4 l5 : Value) (x : Int32) (S : List Value) (h : zH), rn 194 25 [l0, l1, l2, l3, l4, l5] (.int x :: S) h = nl l4 (rn 194 27 [l0, l1, l2, l3, l4, .int x] S h)) ∧
  (∀ (l0 l1 l2 l4 l5 : Value) (x : Int32) (S : List Value) (h : zH), rn 194 29 [l0, l1, l2, .int x, l4, l5] S h = rn 194 30 [l0, l1, l2, .int x, l4, l5] (.int x :: S) h) ∧
  (∀ (l0 l1 l2 l3 l4 l5 : Value) (S : List Value) (h : zH), rn 194 30 [l0, l1, l2, l3, l4, l5] S h = rn 194 31 [l0, l1, l2, l3, l4, l5] (.int (nI 5) :: S) h) ∧
  (∀ (l0 l1 l2 l3 l4 l5 : Value) (x : Int32) (y : Int32) (S : List Value) (h : zH), rn 194 31 [l0, l1, l2, l3, l4, l5] (.int y :: .int x :: S) h = rn 194 32 [l0, l1, l2, l3, l4, l5] (.int (x + y) :: S) h) ∧
  (∀ (l0 l1 l2 l3 l4 l5 : Value) (x : Int32) (y : Int32) (S : List Value) (h : zH), rn 194 32 [l0, l1, l2, l3, l4, l5] (.int y :: .int x :: S) h = if y ≤ x then rn 194 72 [l0, l1, l2, l3, l4, l5] S h else rn 194 35 [l0, l1, l2, l3, l4, l5] S h) ∧
  (∀ (l1 l2 l3 l4 l5 : Value) (x : Nat) (S : List Value) (h : zH), rn 194 35 [.ref x, l1, l2, l3, l4, l5] S h = rn 194 36 [.ref x, l1, l2, l3, l4, l5] (.ref x :: S) h) ∧
  (∀ (l0 l1 l2 l3 l5 : Value) (x : Int32) (S : List Value) (h : zH), rn 194 36 [l0, l1, l2, l3, .int x, l5] S h = rn 194 38 [l0, l1, l2, l3, .int x, l5] (.int x :: S) h) ∧
  (∀ (l0 l1 l2 l3 l4 l5 : Value) (S : List Value) (h : zH), rn 194 38 [l0, l1, l2, l3, l4, l5] S h = rn 194 40 [l0, l1, l2, l3, l4, l5] (.int (nI 48) :: S) h) ∧
  (∀ (l0 l1 l2 l3 l4 l5 : Value) (S : List Value) (h : zH), rn 194 40 [l0, l1, l2, l3, l4, l5] S h = rn 194 42 [l0, l1, l2, l3, l4, l5] (.int (nI 57) :: S) h) ∧
  (∀ (l0 l1 l2 l3 l4 l5 : Value) (o : Nat) (v0 : Value) (v1 : Value) (v2 : Value) (S : List Value) (h : zH), rn 194 42 [l0, l1, l2, l3, l4, l5] (v2 :: v1 :: v0 :: .ref o :: S) h = if zkd h o = 3 ∧ zsum S ≤ 8 then zcall (ev 185 [.ref o, v0, v1, v2] h) (fun v h => rn 194 45 [l0, l1, l2, l3, l4, l5] (zpush v S) h) else none) ∧
  (∀ (l0 l1 l2 l3 l4 l5 : Value) (x : Int32) (S : List Value) (h : zH), rn 194 45 [l0, l1, l2, l3, l4, l5] (.int x :: S) h = if x = nI 0 then rn 194 72 [l0, l1, l2, l3, l4, l5] S h else rn 194 48 [l0, l1, l2, l3, l4, l5] S h) ∧
  (∀ (l0 l1 l2 l3 l4 : Value) (x : Int32) (S : List Value) (h : zH), rn 194 48 [l0, l1, l2, l3, l4, .int x] S h = rn 194 50 [l0, l1, l2, l3, l4, .int x] (.int x :: S) h) ∧
  (∀ (l0 l1 l2 l3 l4 l5 : Value) (S : List Value) (h : zH), rn 194 50 [l0, l1, l2, l3, l4, l5] S h = rn 194 52 [l0, l1, l2, l3, l4, l5] (.int (nI 10) :: S) h) ∧
  (∀ (l0 l1 l2 l3 l4 l5 : Value) (x : Int32) (y : Int32) (S : List Value) (h : zH), rn 194 52 [l0, l1, l2, l3, l4, l5] (.int y :: .int x :: S) h = rn 194 53 [l0, l1, l2, l3, l4, l5] (.int (x * y) :: S) h) ∧
  (∀ (l1 l2 l3 l4 l5 : Value) (x : Nat) (S : List Value) (h : zH), rn 194 53 [.ref x, l1, l2, l3, l4, l5] S h = rn 194 54 [.ref x, l1, l2, l3, l4, l5] (.ref x :: S) h) ∧
  (∀ (l0 l1 l2 l3 l4 l5 : Value) (a : Nat) (S : List Value) (h : zH), rn 194 54 [l0, l1, l2, l3, l4, l5] (.ref a :: S) h = zgf h a 3 0 fun v => rn 194 57 [l0, l1, l2, l3, l4, l5] (v :: S) h) ∧
  (∀ (l0 l1 l2 l3 l5 : Value) (x : Int32) (S : List Value) (h : zH), rn 194 57 [l0, l1, l2, l3, .int x, l5] S h = rn 194 59 [l0, l1, l2, l3, .int x, l5] (.int x :: S) h) ∧
  (∀ (l0 l1 l2 l3 l4 l5 : Value) (a : Nat) (j : Int32) (S : List Value) (h : zH), rn 194 59 [l0, l1, l2, l3, l4, l5] (.int j :: .ref a :: S) h = zli h a 2 j fun x => rn 194 60 [l0, l1, l2, l3, l4, l5] (.int x :: S) h) ∧
  (∀ (l0 l1 l2 l3 l4 l5 : Value) (x : Int32) (y : Int32) (S : List Value) (h : zH), rn 194 60 [l0, l1, l2, l3, l4, l5] (.int y :: .int x :: S) h = rn 194 61 [l0, l1, l2, l3, l4, l5] (.int (x + y) :: S) h) ∧
  (∀ (l0 l1 l2 l3 l4 l5 : Value) (S : List Value) (h : zH), rn 194 61 [l0, l1, l2, l3, l4, l5] S h = rn 194 63 [l0, l1, l2, l3, l4, l5] (.int (nI 48) :: S) h) ∧
  (∀ (l0 l1 l2 l3 l4 l5 : Value) (x : Int32) (y : Int32) (S : List Value) (h : zH), rn 194 63 [l0, l1, l2, l3, l4, l5] (.int y :: .int x :: S) h = rn 194 64 [l0, l1, l2, l3, l4, l5] (.int (x - y) :: S) h) ∧
  (∀ (l0 l1 l2 l3 l4 l5 : Value) (x : Int32) (S : List Value) (h : zH), rn 194 64 [l0, l1, l2, l3, l4, l5] (.int x :: S) h = nl l4 (rn 194 66 [l0, l1, l2, l3, l4, .int x] S h)) ∧
  (∀ (l0 l1 l2 l3 l5 : Value) (x : Int32) (S : List Value) (h : zH), rn 194 66 [l0, l1, l2, l3, .int x, l5] S h = nl l3 (rn 194 69 [l0, l1, l2, l3, .int (x + (nI 1)), l5] S h)) ∧
  (∀ (l0 l1 l2 l3 l4 l5 : Value) (S : List Value) (h : zH), rn 194 69 [l0, l1, l2, l3, l4, l5] S h = rn 194 27 [l0, l1, l2, l3, l4, l5] S h) ∧
  (∀ (l0 l1 l2 l3 l5 : Value) (x : Int32) (S : List Value) (h : zH), rn 194 72 [l0, l1, l2, l3, .int x, l5] S h = rn 194 74 [l0, l1, l2, l3, .int x, l5] (.int x :: S) h) ∧
  (∀ (l0 l1 l2 l4 l5 : Value) (x : Int32) (S : List Value) (h : zH), rn 194 74 [l0, l1, l2, .int x, l4, l5] S h = rn 194 75 [l0, l1, l2, .int x, l4, l5] (.int x :: S) h) ∧
  (∀ (l0 l1 l2 l3 l4 l5 : Value) (x : Int32) (y : Int32) (S : List Value) (h : zH), rn 194 75 [l0, l1, l2, l3, l4, l5] (.int y :: .int x :: S) h = if x = y then rn 194 78 [l0, l1, l2, l3, l4, l5] S h else rn 194 83 [l0, l1, l2, l3, l4, l5] S h) ∧
  (∀ (l0 l1 l2 l4 l5 : Value) (x : Int32) (S : List Value) (h : zH), rn 194 78 [l0, l1, l2, .int x, l4, l5] S h = rn 194 79 [l0, l1, l2, .int x, l4, l5] (.int x :: S) h) ∧
  (∀ (l0 l1 l2 l3 l4 l5 : Value) (v0 : Value) (S : List Value) (h : zH), rn 194 79 [l0, l1, l2, l3, l4, l5] (v0 :: S) h = if zsum S ≤ 8 then zcall (ev 193 [v0] h) (fun v h => rn 194 82 [l0, l1, l2, l3, l4, l5] (zpush v S) h) else none) ∧
  (∀ (l0 l1 l2 l3 l4 l5 : Value) (x : Int32) (h : zH), rn 194 82 [l0, l1, l2, l3, l4, l5] [.int x] h = some (some (.int x), h)) ∧
  (∀ (l1 l2 l3 l4 l5 : Value) (x : Nat) (S : List Value) (h : zH), rn 194 83 [.ref x, l1, l2, l3, l4, l5] S h = rn 194 84 [.ref x, l1, l2, l3, l4, l5] (.ref x :: S) h) ∧
  (∀ (l0 l1 l2 l3 l4 l5 : Value) (a : Nat) (S : List Value) (h : zH), rn 194 84 [l0, l1, l2, l3, l4, l5] (.ref a :: S) h = zgf h a 3 5 fun v => rn 194 87 [l0, l1, l2, l3, l4, l5] (v :: S) h) ∧
  (∀ (l1 l2 l3 l4 l5 : Value) (x : Nat) (S : List Value) (h : zH), rn 194 87 [.ref x, l1, l2, l3, l4, l5] S h = rn 194 88 [.ref x, l1, l2, l3, l4, l5] (.ref x :: S) h) ∧
  (∀ (l0 l1 l2 l3 l4 l5 : Value) (a : Nat) (S : List Value) (h : zH), rn 194 88 [l0, l1, l2, l3, l4, l5] (.ref a :: S) h = zgf h a 3 2 fun v => rn 194 91 [l0, l1, l2, l3, l4, l5] (v :: S) h) ∧
  (∀ (l0 l1 l2 l3 l4 l5 : Value) (S : List Value) (h : zH), rn 194 91 [l0, l1, l2, l3, l4, l5] S h = rn 194 92 [l0, l1, l2, l3, l4, l5] (.int (nI 3) :: S) h) ∧
  (∀ (l0 l1 l2 l3 l4 l5 : Value) (x : Int32) (y : Int32) (S : List Value) (h : zH), rn 194 92 [l0, l1, l2, l3, l4, l5] (.int y :: .int x :: S) h = rn 194 93 [l0, l1, l2, l3, l4, l5] (.int (x * y) :: S) h) ∧
  (∀ (l0 l1 l3 l4 l5 : Value) (x : Int32) (S : List Value) (h : zH), rn 194 93 [l0, l1, .int x, l3, l4, l5] S h = rn 194 94 [l0, l1, .int x, l3, l4, l5] (.int x :: S) h) ∧
  (∀ (l0 l1 l2 l3 l4 l5 : Value) (x : Int32) (y : Int32) (S : List Value) (h : zH), rn 194 94 [l0, l1, l2, l3, l4, l5] (.int y :: .int x :: S) h = rn 194 95 [l0, l1, l2, l3, l4, l5] (.int (x + y) :: S) h) ∧
  (∀ (l0 l1 l2 l3 l4 : Value) (x : Int32) (S : List Value) (h : zH), rn 194 95 [l0, l1, l2, l3, l4, .int x] S h = rn 194 97 [l0, l1, l2, l3, l4, .int x] (.int x :: S) h) ∧
  (∀ (l0 l1 l2 l3 l4 l5 : Value) (a : Nat) (j : Int32) (x : Int32) (S : List Value) (h : zH), rn 194 97 [l0, l1, l2, l3, l4, l5] (.int x :: .int j :: .ref a :: S) h = zsi h a 0 j x fun h => rn 194 98 [l0, l1, l2, l3, l4, l5] S h) ∧
  (∀ (l0 l1 l2 l3 l5 : Value) (x : Int32) (S : List Value) (h : zH), rn 194 98 [l0, l1, l2, l3, .int x, l5] S h = rn 194 100 [l0, l1, l2, l3, .int x, l5] (.int x :: S) h) ∧
  (∀ (l0 l1 l2 l3 l4 l5 : Value) (x : Int32) (h : zH), rn 194 100 [l0, l1, l2, l3, l4, l5] [.int x] h = some (some (.int x), h)) := ⟨fun _ _ _ _ _ _ _ _ => r_aload_nr (show zdec 194 0 = some (.aload_n 0, 1) by decide +kernel) rfl rfl,
  fun _ _ _ _ _ _ _ _ => r_iload_n (show zdec 194 1 = some (.iload_n 1, 1) by decide +kernel) rfl rfl,
  fun _ _ _ _ _ _ _ _ => r_bipush (show zdec 194 2 = some (.bipush 32, 2) by decide +kernel) rfl rfl,
  fun _ _ _ _ _ _ _ _ => r_bipush (show zdec 194 4 = some (.bipush 32, 2) by decide +kernel) rfl rfl,
  fun _ _ _ _ _ _ _ _ _ _ _ _ => r_cV [_, _, _] rfl (show zdec 194 6 = some (.invokevirtual 63, 3) by decide +kernel) (show zst.lookup (194 * zKEY + 63) = some (1, 185, 3, 3) by decide +kernel) (by decide) rfl,
  fun _ _ _ _ _ _ _ _ _ => r_ifne (show zdec 194 9 = some (.ifCond .ne 8, 3) by decide +kernel) rfl rfl,
  fun _ _ _ _ _ _ _ _ => r_iload_n (show zdec 194 12 = some (.iload_n 1, 1) by decide +kernel) rfl rfl,
  fun _ _ _ _ _ _ _ _ _ => r_cS [_] rfl (show zdec 194 13 = some (.invokestatic 54, 3) by decide +kernel) (show zst.lookup (194 * zKEY + 54) = some (0, 193, 1, 0) by decide +kernel) (by decide) rfl,
  fun _ _ _ _ _ _ _ _ => r_ireti (show zdec 194 16 = some (.ireturn, 1) by decide +kernel) (by decide +kernel),
  fun _ _ _ _ _ _ _ _ => r_iload_n (show zdec 194 17 = some (.iload_n 1, 1) by decide +kernel) rfl rfl,
  fun _ _ _ _ _ _ _ _ => r_iconst (show zdec 194 18 = some (.iconst 1, 1) by decide +kernel) rfl rfl,
  fun _ _ _ _ _ _ _ _ _ _ => r_iadd (show zdec 194 19 = some (.iadd, 1) by decide +kernel) rfl,
  fun _ _ _ _ _ _ _ _ _ => r_istore_n (show zdec 194 20 = some (.istore_n 3, 1) by decide +kernel) rfl rfl (Nat.le_of_ble_eq_true rfl) rfl rfl,
  fun _ _ _ _ _ _ _ _ => r_iload_n (show zdec 194 21 = some (.iload_n 3, 1) by decide +kernel) rfl rfl,
  fun _ _ _ _ _ _ _ _ _ => r_istore (show zdec 194 22 = some (.istore 4, 2) by decide +kernel) rfl (Nat.le_of_ble_eq_true rfl) rfl rfl,
  fun _ _ _ _ _ _ _ _ => r_iconst (show zdec 194 24 = some (.iconst 0, 1) by decide +kernel) rfl rfl,
  fun _ _ _ _ _ _ _ _ _ => r_istore (show zdec 194 25 = some (.istore 5, 2) by decide +kernel) rfl (Nat.le_of_ble_eq_true rfl) rfl rfl,
  fun _ _ _ _ _ _ _ _ => r_iload_n (show zdec 194 29 = some (.iload_n 3, 1) by decide +kernel) rfl rfl,
  fun _ _ _ _ _ _ _ _ => r_iconst (show zdec 194 30 = some (.iconst 5, 1) by decide +kernel) rfl rfl,
  fun _ _ _ _ _ _ _ _ _ _ => r_iadd (show zdec 194 31 = some (.iadd, 1) by decide +kernel) rfl,
  fun _ _ _ _ _ _ _ _ _ _ => r_icmpge (show zdec 194 32 = some (.if_icmp .ge 40, 3) by decide +kernel) rfl rfl,
  fun _ _ _ _ _ _ _ _ => r_aload_nr (show zdec 194 35 = some (.aload_n 0, 1) by decide +kernel) rfl rfl,
  fun _ _ _ _ _ _ _ _ => r_iload (show zdec 194 36 = some (.iload 4, 2) by decide +kernel) rfl rfl,
  fun _ _ _ _ _ _ _ _ => r_bipush (show zdec 194 38 = some (.bipush 48, 2) by decide +kernel) rfl rfl,
  fun _ _ _ _ _ _ _ _ => r_bipush (show zdec 194 40 = some (.bipush 57, 2) by decide +kernel) rfl rfl,
  fun _ _ _ _ _ _ _ _ _ _ _ _ => r_cV [_, _, _] rfl (show zdec 194 42 = some (.invokevirtual 63, 3) by decide +kernel) (show zst.lookup (194 * zKEY + 63) = some (1, 185, 3, 3) by decide +kernel) (by decide) rfl,
  fun _ _ _ _ _ _ _ _ _ => r_ifeq (show zdec 194 45 = some (.ifCond .eq 27, 3) by decide +kernel) rfl rfl,
  fun _ _ _ _ _ _ _ _ => r_iload (show zdec 194 48 = some (.iload 5, 2) by decide +kernel) rfl rfl,
  fun _ _ _ _ _ _ _ _ => r_bipush (show zdec 194 50 = some (.bipush 10, 2) by decide +kernel) rfl rfl,
  fun _ _ _ _ _ _ _ _ _ _ => r_imul (show zdec 194 52 = some (.imul, 1) by decide +kernel) rfl,
  fun _ _ _ _ _ _ _ _ => r_aload_nr (show zdec 194 53 = some (.aload_n 0, 1) by decide +kernel) rfl rfl,
  fun _ _ _ _ _ _ _ _ _ => r_getfield (show zdec 194 54 = some (.getfield 11, 3) by decide +kernel) (show zft.lookup (194 * zKEY + 11) = some (3, 0) by decide +kernel) rfl,
  fun _ _ _ _ _ _ _ _ => r_iload (show zdec 194 57 = some (.iload 4, 2) by decide +kernel) rfl rfl,
  fun _ _ _ _ _ _ _ _ _ _ => r_cald (show zdec 194 59 = some (.caload, 1) by decide +kernel) rfl,
  fun _ _ _ _ _ _ _ _ _ _ => r_iadd (show zdec 194 60 = some (.iadd, 1) by decide +kernel) rfl,
  fun _ _ _ _ _ _ _ _ => r_bipush (show zdec 194 61 = some (.bipush 48, 2) by decide +kernel) rfl rfl,
  fun _ _ _ _ _ _ _ _ _ _ => r_isub (show zdec 194 63 = some (.isub, 1) by decide +kernel) rfl,
  fun _ _ _ _ _ _ _ _ _ => r_istore (show zdec 194 64 = some (.istore 5, 2) by decide +kernel) rfl (Nat.le_of_ble_eq_true rfl) rfl rfl,
  fun _ _ _ _ _ _ _ _ => r_iinc (show zdec 194 66 = some (.iinc 4 1, 3) by decide +kernel) rfl rfl rfl (Nat.le_of_ble_eq_true rfl) rfl rfl,
  fun _ _ _ _ _ _ _ _ => r_goto (show zdec 194 69 = some (.goto (-42), 3) by decide +kernel) rfl,
  fun _ _ _ _ _ _ _ _ => r_iload (show zdec 194 72 = some (.iload 4, 2) by decide +kernel) rfl rfl,
  fun _ _ _ _ _ _ _ _ => r_iload_n (show zdec 194 74 = some (.iload_n 3, 1) by decide +kernel) rfl rfl,
  fun _ _ _ _ _ _ _ _ _ _ => r_icmpne (show zdec 194 75 = some (.if_icmp .ne 8, 3) by decide +kernel) rfl rfl,
  fun _ _ _ _ _ _ _ _ => r_iload_n (show zdec 194 78 = some (.iload_n 3, 1) by decide +kernel) rfl rfl,
  fun _ _ _ _ _ _ _ _ _ => r_cS [_] rfl (show zdec 194 79 = some (.invokestatic 54, 3) by decide +kernel) (show zst.lookup (194 * zKEY + 54) = some (0, 193, 1, 0) by decide +kernel) (by decide) rfl,
  fun _ _ _ _ _ _ _ _ => r_ireti (show zdec 194 82 = some (.ireturn, 1) by decide +kernel) (by decide +kernel),
  fun _ _ _ _ _ _ _ _ => r_aload_nr (show zdec 194 83 = some (.aload_n 0, 1) by decide +kernel) rfl rfl,
  fun _ _ _ _ _ _ _ _ _ => r_getfield (show zdec 194 84 = some (.getfield 29, 3) by decide +kernel) (show zft.lookup (194 * zKEY + 29) = some (3, 5) by decide +kernel) rfl,
  fun _ _ _ _ _ _ _ _ => r_aload_nr (show zdec 194 87 = some (.aload_n 0, 1) by decide +kernel) rfl rfl,
  fun _ _ _ _ _ _ _ _ _ => r_getfield (show zdec 194 88 = some (.getfield 19, 3) by decide +kernel) (show zft.lookup (194 * zKEY + 19) = some (3, 2) by decide +kernel) rfl,
  fun _ _ _ _ _ _ _ _ => r_iconst (show zdec 194 91 = some (.iconst 3, 1) by decide +kernel) rfl rfl,
  fun _ _ _ _ _ _ _ _ _ _ => r_imul (show zdec 194 92 = some (.imul, 1) by decide +kernel) rfl,
  fun _ _ _ _ _ _ _ _ => r_iload_n (show zdec 194 93 = some (.iload_n 2, 1) by decide +kernel) rfl rfl,
  fun _ _ _ _ _ _ _ _ _ _ => r_iadd (show zdec 194 94 = some (.iadd, 1) by decide +kernel) rfl,
  fun _ _ _ _ _ _ _ _ => r_iload (show zdec 194 95 = some (.iload 5, 2) by decide +kernel) rfl rfl,
  fun _ _ _ _ _ _ _ _ _ _ _ => r_iast (show zdec 194 97 = some (.iastore, 1) by decide +kernel) rfl,
  fun _ _ _ _ _ _ _ _ => r_iload (show zdec 194 98 = some (.iload 4, 2) by decide +kernel) rfl rfl,
  fun _ _ _ _ _ _ _ _ => r_ireti (show zdec 194 100 = some (.ireturn, 1) by decide +kernel) (by decide +kernel)⟩
theorem zl_194_27 : ∀ (l0 l1 l2 l3 l5 : Value) (x : Int32) (S : List Value) (h : zH), rn 194 27 [l0, l1, l2, l3, .int x, l5] S h = rn 194 29 [l0, l1, l2, l3, .int x, l5] (.int x :: S) h := fun _ _ _ _ _ _ _ _ => r_iload (show zdec 194 27 = some (.iload 4, 2) by decide +kernel) rfl rfl
theorem ze_194 : ∀ (a0 : Nat) (a1 : Int32) (a2 : Int32) (h : zH), ev 194 [.ref a0, .int a1, .int a2] h = rn 194 0 [.ref a0, .int a1, .int a2, .float 0, .float 0, .float 0] [] h := fun _ _ _ _ => if_pos (Nat.le_of_ble_eq_true rfl)
-- PayrollRun/CommandText.isFailure(I)Z
theorem zr_195 : (∀ (x : Int32) (S : List Value) (h : zH), rn 195 0 [.int x] S h = rn 195 1 [.int x] (.int x :: S) h) ∧
  (∀ (l0 : Value) (x : Int32) (S : List Value) (h : zH), rn 195 1 [l0] (.int x :: S) h = if nI 0 ≤ x then rn 195 8 [l0] S h else rn 195 4 [l0] S h) ∧
  (∀ (l0 : Value) (S : List Value) (h : zH), rn 195 4 [l0] S h = rn 195 5 [l0] (.int (nI 1) :: S) h) ∧
  (∀ (l0 : Value) (S : List Value) (h : zH), rn 195 5 [l0] S h = rn 195 9 [l0] S h) ∧
  (∀ (l0 : Value) (S : List Value) (h : zH), rn 195 8 [l0] S h = rn 195 9 [l0] (.int (nI 0) :: S) h) ∧
  (∀ (l0 : Value) (x : Int32) (h : zH), rn 195 9 [l0] [.int x] h = if x = nI 0 ∨ x = nI 1 then some (some (.int x), h) else none) := ⟨fun _ _ _ => r_iload_n (show zdec 195 0 = some (.iload_n 0, 1) by decide +kernel) rfl rfl,
  fun _ _ _ _ => r_ifge (show zdec 195 1 = some (.ifCond .ge 7, 3) by decide +kernel) rfl rfl,
  fun _ _ _ => r_iconst (show zdec 195 4 = some (.iconst 1, 1) by decide +kernel) rfl rfl,
  fun _ _ _ => r_goto (show zdec 195 5 = some (.goto 4, 3) by decide +kernel) rfl,
  fun _ _ _ => r_iconst (show zdec 195 8 = some (.iconst 0, 1) by decide +kernel) rfl rfl,
  fun _ _ _ => r_iretb (show zdec 195 9 = some (.ireturn, 1) by decide +kernel) (by decide +kernel)⟩
theorem ze_195 : ∀ (a0 : Int32) (h : zH), ev 195 [.int a0] h = rn 195 0 [.int a0] [] h := fun _ _ => if_pos (Nat.le_of_ble_eq_true rfl)
-- PayrollRun/CommandText.failurePosition(I)I
theorem zr_196 : (∀ (l0 : Value) (S : List Value) (h : zH), rn 196 0 [l0] S h = rn 196 1 [l0] (.int (-1) :: S) h) ∧
  (∀ (x : Int32) (S : List Value) (h : zH), rn 196 1 [.int x] S h = rn 196 2 [.int x] (.int x :: S) h) ∧
  (∀ (l0 : Value) (x : Int32) (y : Int32) (S : List Value) (h : zH), rn 196 2 [l0] (.int y :: .int x :: S) h = rn 196 3 [l0] (.int (x - y) :: S) h) ∧
  (∀ (l0 : Value) (x : Int32) (h : zH), rn 196 3 [l0] [.int x] h = some (some (.int x), h)) := ⟨fun _ _ _ => r_iconst (show zdec 196 0 = some (.iconst (-1), 1) by decide +kernel) rfl rfl,
  fun _ _ _ => r_iload_n (show zdec 196 1 = some (.iload_n 0, 1) by decide +kernel) rfl rfl,
  fun _ _ _ _ _ => r_isub (show zdec 196 2 = some (.isub, 1) by decide +kernel) rfl,
  fun _ _ _ => r_ireti (show zdec 196 3 = some (.ireturn, 1) by decide +kernel) (by decide +kernel)⟩
theorem ze_196 : ∀ (a0 : Int32) (h : zH), ev 196 [.int a0] h = rn 196 0 [.int a0] [] h := fun _ _ => if_pos (Nat.le_of_ble_eq_true rfl)
-- PayrollRun/CommandText.clear()V
theorem zr_197 : (∀ (x : Nat) (S : List Value) (h : zH), rn 197 0 [.ref x] S h = rn 197 1 [.ref x] (.ref x :: S) h) ∧
  (∀ (l0 : Value) (S : List Value) (h : zH), rn 197 1 [l0] S h = rn 197 2 [l0] (.int (nI 0) :: S) h) ∧
  (∀ (l0 : Value) (a : Nat) (v : Value) (S : List Value) (h : zH), rn 197 2 [l0] (v :: .ref a :: S) h = zpf h a 3 1 v fun h => rn 197 5 [l0] S h) ∧
  (∀ (l0 : Value) (h : zH), rn 197 5 [l0] [] h = some (none, h)) := ⟨fun _ _ _ => r_aload_nr (show zdec 197 0 = some (.aload_n 0, 1) by decide +kernel) rfl rfl,
  fun _ _ _ => r_iconst (show zdec 197 1 = some (.iconst 0, 1) by decide +kernel) rfl rfl,
  fun _ _ _ _ _ => r_putfield (show zdec 197 2 = some (.putfield 15, 3) by decide +kernel) (show zft.lookup (197 * zKEY + 15) = some (3, 1) by decide +kernel) (by decide +kernel) rfl,
  fun _ _ => r_vret (show zdec 197 5 = some (.return_, 1) by decide +kernel) (by decide +kernel)⟩
theorem ze_197 : ∀ (a0 : Nat) (h : zH), ev 197 [.ref a0] h = rn 197 0 [.ref a0] [] h := fun _ _ => if_pos (Nat.le_of_ble_eq_true rfl)
-- PayrollRun/CommandText.numberOf(II)I
theorem zr_199 : (∀ (l0 l2 l3 : Value) (x : Int32) (S : List Value) (h : zH), rn 199 0 [l0, .int x, l2, l3] S h = rn 199 1 [l0, .int x, l2, l3] (.int x :: S) h) ∧
  (∀ (l0 l1 l2 l3 : Value) (S : List Value) (h : zH), rn 199 1 [l0, l1, l2, l3] S h = rn 199 2 [l0, l1, l2, l3] (.int (nI 0) :: S) h) ∧
  (∀ (l1 l2 l3 : Value) (x : Nat) (S : List Value) (h : zH), rn 199 2 [.ref x, l1, l2, l3] S h = rn 199 3 [.ref x, l1, l2, l3] (.ref x :: S) h) ∧
  (∀ (l0 l1 l2 l3 : Value) (a : Nat) (S : List Value) (h : zH), rn 199 3 [l0, l1, l2, l3] (.ref a :: S) h = zgf h a 3 2 fun v => rn 199 6 [l0, l1, l2, l3] (v :: S) h) ∧
  (∀ (l0 l1 l2 l3 : Value) (S : List Value) (h : zH), rn 199 6 [l0, l1, l2, l3] S h = rn 199 7 [l0, l1, l2, l3] (.int (nI 1) :: S) h) ∧
  (∀ (l0 l1 l2 l3 : Value) (x : Int32) (y : Int32) (S : List Value) (h : zH), rn 199 7 [l0, l1, l2, l3] (.int y :: .int x :: S) h = rn 199 8 [l0, l1, l2, l3] (.int (x - y) :: S) h) ∧
  (∀ (l0 l1 l2 l3 : Value) (v0 : Value) (v1 : Value) (v2 : Value) (S : List Value) (h : zH), rn 199 8 [l0, l1, l2, l3] (v2 :: v1 :: v0 :: S) h = if zsum S ≤ 8 then zcall (ev 24 [v0, v1, v2] h) (fun v h => rn 199 11 [l0, l1, l2, l3] (zpush v S) h) else none) ∧
  (∀ (l0 l1 l2 l3 : Value) (x : Int32) (S : List Value) (h : zH), rn 199 11 [l0, l1, l2, l3] (.int x :: S) h = if x = nI 0 then rn 199 27 [l0, l1, l2, l3] S h else rn 199 14 [l0, l1, l2, l3] S h) ∧
  (∀ (l0 l1 l3 : Value) (x : Int32) (S : List Value) (h : zH), rn 199 14 [l0, l1, .int x, l3] S h = rn 199 15 [l0, l1, .int x, l3] (.int x :: S) h) ∧
  (∀ (l0 l1 l2 l3 : Value) (S : List Value) (h : zH), rn 199 15 [l0, l1, l2, l3] S h = rn 199 16 [l0, l1, l2, l3] (.int (nI 0) :: S) h) ∧
  (∀ (l0 l1 l2 l3 : Value) (S : List Value) (h : zH), rn 199 16 [l0, l1, l2, l3] S h = rn 199 17 [l0, l1, l2, l3] (.int (nI 2) :: S) h) ∧
  (∀ (l0 l1 l2 l3 : Value) (v0 : Value) (v1 : Value) (v2 : Value) (S : List Value) (h : zH), rn 199 17 [l0, l1, l2, l3] (v2 :: v1 :: v0 :: S) h = if zsum S ≤ 8 then zcall (ev 24 [v0, v1, v2] h) (fun v h => rn 199 20 [l0, l1, l2, l3] (zpush v S) h) else none) ∧
  (∀ (l0 l1 l2 l3 : Value) (x : Int32) (S : List Value) (h : zH), rn 199 20 [l0, l1, l2, l3] (.int x :: S) h = if x = nI 0 then rn 199 27 [l0, l1, l2, l3] S h else rn 199 23 [l0, l1, l2, l3] S h) ∧
  (∀ (l0 l1 l2 l3 : Value) (S : List Value) (h : zH), rn 199 23 [l0, l1, l2, l3] S h = rn 199 24 [l0, l1, l2, l3] (.int (nI 1) :: S) h) ∧
  (∀ (l0 l1 l2 l3 : Value) (S : List Value) (h : zH), rn 199 24 [l0, l1, l2, l3] S h = rn 199 28 [l0, l1, l2, l3] S h) ∧
  (∀ (l0 l1 l2 l3 : Value) (S : List Value) (h : zH), rn 199 27 [l0, l1, l2, l3] S h = rn 199 28 [l0, l1, l2, l3] (.int (nI 0) :: S) h) ∧
  (∀ (l0 l1 l2 l3 : Value) (x : Int32) (S : List Value) (h : zH), rn 199 28 [l0, l1, l2, l3] (.int x :: S) h = nl l2 (rn 199 29 [l0, l1, l2, .int x] S h)) ∧
  (∀ (l0 l1 l2 : Value) (x : Int32) (S : List Value) (h : zH), rn 199 29 [l0, l1, l2, .int x] S h = rn 199 30 [l0, l1, l2, .int x] (.int x :: S) h) ∧
  (∀ (l0 l1 l2 l3 : Value) (x : Int32) (S : List Value) (h : zH), rn 199 30 [l0, l1, l2, l3] (.int x :: S) h = if x = nI 0 then rn 199 46 [l0, l1, l2, l3] S h else rn 199 33 [l0, l1, l2, l3] S h) ∧
  (∀ (l1 l2 l3 : Value) (x : Nat) (S : List Value) (h : zH), rn 199 33 [.ref x, l1, l2, l3] S h = rn 199 34 [.ref x, l1, l2, l3] (.ref x :: S) h) ∧
  (∀ (l0 l1 l2 l3 : Value) (a : Nat) (S : List Value) (h : zH), rn 199 34 [l0, l1, l2, l3] (.ref a :: S) h = zgf h a 3 5 fun v => rn 199 37 [l0, l1, l2, l3] (v :: S) h) ∧
  (∀ (l0 l2 l3 : Value) (x : Int32) (S : List Value) (h : zH), rn 199 37 [l0, .int x, l2, l3] S h = rn 199 38 [l0, .int x, l2, l3] (.int x :: S) h) ∧
  (∀ (l0 l1 l2 l3 : Value) (S : List Value) (h : zH), rn 199 38 [l0, l1, l2, l3] S h = rn 199 39 [l0, l1, l2, l3] (.int (nI 3) :: S) h) ∧
  (∀ (l0 l1 l2 l3 : Value) (x : Int32) (y : Int32) (S : List Value) (h : zH), rn 199 39 [l0, l1, l2, l3] (.int y :: .int x :: S) h = rn 199 40 [l0, l1, l2, l3] (.int (x * y) :: S) h) ∧
  (∀ (l0 l1 l3 : Value) (x : Int32) (S : List Value) (h : zH), rn 199 40 [l0, l1, .int x, l3] S h = rn 199 41 [l0, l1, .int x, l3] (.int x :: S) h) ∧
  (∀ (l0 l1 l2 l3 : Value) (x : Int32) (y : Int32) (S : List Value) (h : zH), rn 199 41 [l0, l1, l2, l3] (.int y :: .int x :: S) h = rn 199 42 [l0, l1, l2, l3] (.int (x + y) :: S) h) ∧
  (∀ (l0 l1 l2 l3 : Value) (a : Nat) (j : Int32) (S : List Value) (h : zH), rn 199 42 [l0, l1, l2, l3] (.int j :: .ref a :: S) h = zli h a 0 j fun x => rn 199 43 [l0, l1, l2, l3] (.int x :: S) h) ∧
  (∀ (l0 l1 l2 l3 : Value) (S : List Value) (h : zH), rn 199 43 [l0, l1, l2, l3] S h = rn 199 48 [l0, l1, l2, l3] S h) ∧
  (∀ (l0 l1 l2 l3 : Value) (S : List Value) (h : zH), rn 199 46 [l0, l1, l2, l3] S h = rn 199 48 [l0, l1, l2, l3] (.int (-2) :: S) h) ∧
  (∀ (l0 l1 l2 l3 : Value) (x : Int32) (h : zH), rn 199 48 [l0, l1, l2, l3] [.int x] h = some (some (.int x), h)) := ⟨fun _ _ _ _ _ _ => r_iload_n (show zdec 199 0 = some (.iload_n 1, 1) by decide +kernel) rfl rfl,
  fun _ _ _ _ _ _ => r_iconst (show zdec 199 1 = some (.iconst 0, 1) by decide +kernel) rfl rfl,
  fun _ _ _ _ _ _ => r_aload_nr (show zdec 199 2 = some (.aload_n 0, 1) by decide +kernel) rfl rfl,
  fun _ _ _ _ _ _ _ => r_getfield (show zdec 199 3 = some (.getfield 19, 3) by decide +kernel) (show zft.lookup (199 * zKEY + 19) = some (3, 2) by decide +kernel) rfl,
  fun _ _ _ _ _ _ => r_iconst (show zdec 199 6 = some (.iconst 1, 1) by decide +kernel) rfl rfl,
  fun _ _ _ _ _ _ _ _ => r_isub (show zdec 199 7 = some (.isub, 1) by decide +kernel) rfl,
  fun _ _ _ _ _ _ _ _ _ => r_cS [_, _, _] rfl (show zdec 199 8 = some (.invokestatic 32, 3) by decide +kernel) (show zst.lookup (199 * zKEY + 32) = some (3, 24, 3, 0) by decide +kernel) (by decide) rfl,
  fun _ _ _ _ _ _ _ => r_ifeq (show zdec 199 11 = some (.ifCond .eq 16, 3) by decide +kernel) rfl rfl,
  fun _ _ _ _ _ _ => r_iload_n (show zdec 199 14 = some (.iload_n 2, 1) by decide +kernel) rfl rfl,
  fun _ _ _ _ _ _ => r_iconst (show zdec 199 15 = some (.iconst 0, 1) by decide +kernel) rfl rfl,
  fun _ _ _ _ _ _ => r_iconst (show zdec 199 16 = some (.iconst 2, 1) by decide +kernel) rfl rfl,
  fun _ _ _ _ _ _ _ _ _ => r_cS [_, _, _] rfl (show zdec 199 17 = some (.invokestatic 32, 3) by decide +kernel) (show zst.lookup (199 * zKEY + 32) = some (3, 24, 3, 0) by decide +kernel) (by decide) rfl,
  fun _ _ _ _ _ _ _ => r_ifeq (show zdec 199 20 = some (.ifCond .eq 7, 3) by decide +kernel) rfl rfl,
  fun _ _ _ _ _ _ => r_iconst (show zdec 199 23 = some (.iconst 1, 1) by decide +kernel) rfl rfl,
  fun _ _ _ _ _ _ => r_goto (show zdec 199 24 = some (.goto 4, 3) by decide +kernel) rfl,
  fun _ _ _ _ _ _ => r_iconst (show zdec 199 27 = some (.iconst 0, 1) by decide +kernel) rfl rfl,
  fun _ _ _ _ _ _ _ => r_istore_n (show zdec 199 28 = some (.istore_n 3, 1) by decide +kernel) rfl rfl (Nat.le_of_ble_eq_true rfl) rfl rfl,
  fun _ _ _ _ _ _ => r_iload_n (show zdec 199 29 = some (.iload_n 3, 1) by decide +kernel) rfl rfl,
  fun _ _ _ _ _ _ _ => r_ifeq (show zdec 199 30 = some (.ifCond .eq 16, 3) by decide +kernel) rfl rfl,
  fun _ _ _ _ _ _ => r_aload_nr (show zdec 199 33 = some (.aload_n 0, 1) by decide +kernel) rfl rfl,
  fun _ _ _ _ _ _ _ => r_getfield (show zdec 199 34 = some (.getfield 29, 3) by decide +kernel) (show zft.lookup (199 * zKEY + 29) = some (3, 5) by decide +kernel) rfl,
  fun _ _ _ _ _ _ => r_iload_n (show zdec 199 37 = some (.iload_n 1, 1) by decide +kernel) rfl rfl,
  fun _ _ _ _ _ _ => r_iconst (show zdec 199 38 = some (.iconst 3, 1) by decide +kernel) rfl rfl,
  fun _ _ _ _ _ _ _ _ => r_imul (show zdec 199 39 = some (.imul, 1) by decide +kernel) rfl,
  fun _ _ _ _ _ _ => r_iload_n (show zdec 199 40 = some (.iload_n 2, 1) by decide +kernel) rfl rfl,
  fun _ _ _ _ _ _ _ _ => r_iadd (show zdec 199 41 = some (.iadd, 1) by decide +kernel) rfl,
  fun _ _ _ _ _ _ _ _ => r_iald (show zdec 199 42 = some (.iaload, 1) by decide +kernel) rfl,
  fun _ _ _ _ _ _ => r_goto (show zdec 199 43 = some (.goto 5, 3) by decide +kernel) rfl,
  fun _ _ _ _ _ _ => r_bipush (show zdec 199 46 = some (.bipush (-2), 2) by decide +kernel) rfl rfl,
  fun _ _ _ _ _ _ => r_ireti (show zdec 199 48 = some (.ireturn, 1) by decide +kernel) (by decide +kernel)⟩
theorem ze_199 : ∀ (a0 : Nat) (a1 : Int32) (a2 : Int32) (h : zH), ev 199 [.ref a0, .int a1, .int a2] h = rn 199 0 [.ref a0, .int a1, .int a2, .float 0] [] h := fun _ _ _ _ => if_pos (Nat.le_of_ble_eq_true rfl)
-- PayrollRun/CommandText.wordOf(I)I
theorem zr_200 : (∀ (l0 : Value) (x : Int32) (S : List Value) (h : zH), rn 200 0 [l0, .int x] S h = rn 200 1 [l0, .int x] (.int x :: S) h) ∧
  (∀ (l0 l1 : Value) (S : List Value) (h : zH), rn 200 1 [l0, l1] S h = rn 200 2 [l0, l1] (.int (nI 0) :: S) h) ∧
  (∀ (l1 : Value) (x : Nat) (S : List Value) (h : zH), rn 200 2 [.ref x, l1] S h = rn 200 3 [.ref x, l1] (.ref x :: S) h) ∧
  (∀ (l0 l1 : Value) (a : Nat) (S : List Value) (h : zH), rn 200 3 [l0, l1] (.ref a :: S) h = zgf h a 3 2 fun v => rn 200 6 [l0, l1] (v :: S) h) ∧
  (∀ (l0 l1 : Value) (S : List Value) (h : zH), rn 200 6 [l0, l1] S h = rn 200 7 [l0, l1] (.int (nI 1) :: S) h) ∧
  (∀ (l0 l1 : Value) (x : Int32) (y : Int32) (S : List Value) (h : zH), rn 200 7 [l0, l1] (.int y :: .int x :: S) h = rn 200 8 [l0, l1] (.int (x - y) :: S) h) ∧
  (∀ (l0 l1 : Value) (v0 : Value) (v1 : Value) (v2 : Value) (S : List Value) (h : zH), rn 200 8 [l0, l1] (v2 :: v1 :: v0 :: S) h = if zsum S ≤ 8 then zcall (ev 24 [v0, v1, v2] h) (fun v h => rn 200 11 [l0, l1] (zpush v S) h) else none) ∧
  (∀ (l0 l1 : Value) (x : Int32) (S : List Value) (h : zH), rn 200 11 [l0, l1] (.int x :: S) h = if x = nI 0 then rn 200 23 [l0, l1] S h else rn 200 14 [l0, l1] S h) ∧
  (∀ (l1 : Value) (x : Nat) (S : List Value) (h : zH), rn 200 14 [.ref x, l1] S h = rn 200 15 [.ref x, l1] (.ref x :: S) h) ∧
  (∀ (l0 l1 : Value) (a : Nat) (S : List Value) (h : zH), rn 200 15 [l0, l1] (.ref a :: S) h = zgf h a 3 3 fun v => rn 200 18 [l0, l1] (v :: S) h) ∧
  (∀ (l0 : Value) (x : Int32) (S : List Value) (h : zH), rn 200 18 [l0, .int x] S h = rn 200 19 [l0, .int x] (.int x :: S) h) ∧
  (∀ (l0 l1 : Value) (a : Nat) (j : Int32) (S : List Value) (h : zH), rn 200 19 [l0, l1] (.int j :: .ref a :: S) h = zli h a 0 j fun x => rn 200 20 [l0, l1] (.int x :: S) h) ∧
  (∀ (l0 l1 : Value) (S : List Value) (h : zH), rn 200 20 [l0, l1] S h = rn 200 25 [l0, l1] S h) ∧
  (∀ (l0 l1 : Value) (S : List Value) (h : zH), rn 200 23 [l0, l1] S h = rn 200 25 [l0, l1] (.int (-2) :: S) h) ∧
  (∀ (l0 l1 : Value) (x : Int32) (h : zH), rn 200 25 [l0, l1] [.int x] h = some (some (.int x), h)) := ⟨fun _ _ _ _ => r_iload_n (show zdec 200 0 = some (.iload_n 1, 1) by decide +kernel) rfl rfl,
  fun _ _ _ _ => r_iconst (show zdec 200 1 = some (.iconst 0, 1) by decide +kernel) rfl rfl,
  fun _ _ _ _ => r_aload_nr (show zdec 200 2 = some (.aload_n 0, 1) by decide +kernel) rfl rfl,
  fun _ _ _ _ _ => r_getfield (show zdec 200 3 = some (.getfield 19, 3) by decide +kernel) (show zft.lookup (200 * zKEY + 19) = some (3, 2) by decide +kernel) rfl,
  fun _ _ _ _ => r_iconst (show zdec 200 6 = some (.iconst 1, 1) by decide +kernel) rfl rfl,
  fun _ _ _ _ _ _ => r_isub (show zdec 200 7 = some (.isub, 1) by decide +kernel) rfl,
  fun _ _ _ _ _ _ _ => r_cS [_, _, _] rfl (show zdec 200 8 = some (.invokestatic 32, 3) by decide +kernel) (show zst.lookup (200 * zKEY + 32) = some (3, 24, 3, 0) by decide +kernel) (by decide) rfl,
  fun _ _ _ _ _ => r_ifeq (show zdec 200 11 = some (.ifCond .eq 12, 3) by decide +kernel) rfl rfl,
  fun _ _ _ _ => r_aload_nr (show zdec 200 14 = some (.aload_n 0, 1) by decide +kernel) rfl rfl,
  fun _ _ _ _ _ => r_getfield (show zdec 200 15 = some (.getfield 22, 3) by decide +kernel) (show zft.lookup (200 * zKEY + 22) = some (3, 3) by decide +kernel) rfl,
  fun _ _ _ _ => r_iload_n (show zdec 200 18 = some (.iload_n 1, 1) by decide +kernel) rfl rfl,
  fun _ _ _ _ _ _ => r_iald (show zdec 200 19 = some (.iaload, 1) by decide +kernel) rfl,
  fun _ _ _ _ => r_goto (show zdec 200 20 = some (.goto 5, 3) by decide +kernel) rfl,
  fun _ _ _ _ => r_bipush (show zdec 200 23 = some (.bipush (-2), 2) by decide +kernel) rfl rfl,
  fun _ _ _ _ => r_ireti (show zdec 200 25 = some (.ireturn, 1) by decide +kernel) (by decide +kernel)⟩
theorem ze_200 : ∀ (a0 : Nat) (a1 : Int32) (h : zH), ev 200 [.ref a0, .int a1] h = rn 200 0 [.ref a0, .int a1] [] h := fun _ _ _ => if_pos (Nat.le_of_ble_eq_true rfl)
-- PayrollRun/CommandText.startOf(I)I
theorem zr_202 : (∀ (l0 : Value) (x : Int32) (S : List Value) (h : zH), rn 202 0 [l0, .int x] S h = rn 202 1 [l0, .int x] (.int x :: S) h) ∧
  (∀ (l0 l1 : Value) (S : List Value) (h : zH), rn 202 1 [l0, l1] S h = rn 202 2 [l0, l1] (.int (nI 0) :: S) h) ∧
  (∀ (l1 : Value) (x : Nat) (S : List Value) (h : zH), rn 202 2 [.ref x, l1] S h = rn 202 3 [.ref x, l1] (.ref x :: S) h) ∧
  (∀ (l0 l1 : Value) (a : Nat) (S : List Value) (h : zH), rn 202 3 [l0, l1] (.ref a :: S) h = zgf h a 3 2 fun v => rn 202 6 [l0, l1] (v :: S) h) ∧
  (∀ (l0 l1 : Value) (S : List Value) (h : zH), rn 202 6 [l0, l1] S h = rn 202 7 [l0, l1] (.int (nI 1) :: S) h) ∧
  (∀ (l0 l1 : Value) (x : Int32) (y : Int32) (S : List Value) (h : zH), rn 202 7 [l0, l1] (.int y :: .int x :: S) h = rn 202 8 [l0, l1] (.int (x - y) :: S) h) ∧
  (∀ (l0 l1 : Value) (v0 : Value) (v1 : Value) (v2 : Value) (S : List Value) (h : zH), rn 202 8 [l0, l1] (v2 :: v1 :: v0 :: S) h = if zsum S ≤ 8 then zcall (ev 24 [v0, v1, v2] h) (fun v h => rn 202 11 [l0, l1] (zpush v S) h) else none) ∧
  (∀ (l0 l1 : Value) (x : Int32) (S : List Value) (h : zH), rn 202 11 [l0, l1] (.int x :: S) h = if x = nI 0 then rn 202 23 [l0, l1] S h else rn 202 14 [l0, l1] S h) ∧
  (∀ (l1 : Value) (x : Nat) (S : List Value) (h : zH), rn 202 14 [.ref x, l1] S h = rn 202 15 [.ref x, l1] (.ref x :: S) h) ∧
  (∀ (l0 l1 : Value) (a : Nat) (S : List Value) (h : zH), rn 202 15 [l0, l1] (.ref a :: S) h = zgf h a 3 4 fun v => rn 202 18 [l0, l1] (v :: S) h) ∧
  (∀ (l0 : Value) (x : Int32) (S : List Value) (h : zH), rn 202 18 [l0, .int x] S h = rn 202 19 [l0, .int x] (.int x :: S) h) ∧
  (∀ (l0 l1 : Value) (a : Nat) (j : Int32) (S : List Value) (h : zH), rn 202 19 [l0, l1] (.int j :: .ref a :: S) h = zli h a 0 j fun x => rn 202 20 [l0, l1] (.int x :: S) h) ∧
  (∀ (l0 l1 : Value) (S : List Value) (h : zH), rn 202 20 [l0, l1] S h = rn 202 25 [l0, l1] S h) ∧
  (∀ (l0 l1 : Value) (S : List Value) (h : zH), rn 202 23 [l0, l1] S h = rn 202 25 [l0, l1] (.int (-2) :: S) h) ∧
  (∀ (l0 l1 : Value) (x : Int32) (h : zH), rn 202 25 [l0, l1] [.int x] h = some (some (.int x), h)) := ⟨fun _ _ _ _ => r_iload_n (show zdec 202 0 = some (.iload_n 1, 1) by decide +kernel) rfl rfl,
  fun _ _ _ _ => r_iconst (show zdec 202 1 = some (.iconst 0, 1) by decide +kernel) rfl rfl,
  fun _ _ _ _ => r_aload_nr (show zdec 202 2 = some (.aload_n 0, 1) by decide +kernel) rfl rfl,
  fun _ _ _ _ _ => r_getfield (show zdec 202 3 = some (.getfield 19, 3) by decide +kernel) (show zft.lookup (202 * zKEY + 19) = some (3, 2) by decide +kernel) rfl,
  fun _ _ _ _ => r_iconst (show zdec 202 6 = some (.iconst 1, 1) by decide +kernel) rfl rfl,
  fun _ _ _ _ _ _ => r_isub (show zdec 202 7 = some (.isub, 1) by decide +kernel) rfl,
  fun _ _ _ _ _ _ _ => r_cS [_, _, _] rfl (show zdec 202 8 = some (.invokestatic 32, 3) by decide +kernel) (show zst.lookup (202 * zKEY + 32) = some (3, 24, 3, 0) by decide +kernel) (by decide) rfl,
  fun _ _ _ _ _ => r_ifeq (show zdec 202 11 = some (.ifCond .eq 12, 3) by decide +kernel) rfl rfl,
  fun _ _ _ _ => r_aload_nr (show zdec 202 14 = some (.aload_n 0, 1) by decide +kernel) rfl rfl,
  fun _ _ _ _ _ => r_getfield (show zdec 202 15 = some (.getfield 26, 3) by decide +kernel) (show zft.lookup (202 * zKEY + 26) = some (3, 4) by decide +kernel) rfl,
  fun _ _ _ _ => r_iload_n (show zdec 202 18 = some (.iload_n 1, 1) by decide +kernel) rfl rfl,
  fun _ _ _ _ _ _ => r_iald (show zdec 202 19 = some (.iaload, 1) by decide +kernel) rfl,
  fun _ _ _ _ => r_goto (show zdec 202 20 = some (.goto 5, 3) by decide +kernel) rfl,
  fun _ _ _ _ => r_bipush (show zdec 202 23 = some (.bipush (-2), 2) by decide +kernel) rfl rfl,
  fun _ _ _ _ => r_ireti (show zdec 202 25 = some (.ireturn, 1) by decide +kernel) (by decide +kernel)⟩
theorem ze_202 : ∀ (a0 : Nat) (a1 : Int32) (h : zH), ev 202 [.ref a0, .int a1] h = rn 202 0 [.ref a0, .int a1] [] h := fun _ _ _ => if_pos (Nat.le_of_ble_eq_true rfl)

