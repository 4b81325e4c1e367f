/-! RULES of the class, second part, printed by render.py -/
-- PayrollRun/Rules.<init>()V
theorem zr_3 : (∀ (x : Nat) (S : List Value) (h : zH), rn 3 0 [.ref x] S h = rn 3 1 [.ref x] (.ref x :: S) h) ∧
  (∀ (l0 : Value) (o : Nat) (S : List Value) (h : zH), rn 3 1 [l0] (.ref o :: S) h = if zsum S ≤ 8 then rn 3 4 [l0] S h else none) ∧
  (∀ (x : Nat) (S : List Value) (h : zH), rn 3 4 [.ref x] S h = rn 3 5 [.ref x] (.ref x :: S) h) ∧
  (∀ (l0 : Value) (S : List Value) (h : zH), rn 3 5 [l0] S h = rn 3 6 [l0] (.int (nI 2) :: S) h) ∧
  (∀ (l0 : Value) (x : Int32) (S : List Value) (h : zH), rn 3 6 [l0] (.int x :: S) h = mkA x (rn 3 8 [l0] (.ref (100 + h.1) :: S) (znew h (.inl (0, x.toNatClampNeg, zz0 0)) x.toNatClampNeg))) ∧
  (∀ (l0 : Value) (a : Nat) (v : Value) (S : List Value) (h : zH), rn 3 8 [l0] (v :: .ref a :: S) h = zpf h a 6 0 v fun h => rn 3 11 [l0] S h) ∧
  (∀ (x : Nat) (S : List Value) (h : zH), rn 3 11 [.ref x] S h = rn 3 12 [.ref x] (.ref x :: S) h) ∧
  (∀ (l0 : Value) (S : List Value) (h : zH), rn 3 12 [l0] S h = rn 3 13 [l0] (.int (nI 2) :: S) h) ∧
  (∀ (l0 : Value) (x : Int32) (S : List Value) (h : zH), rn 3 13 [l0] (.int x :: S) h = mkA x (rn 3 15 [l0] (.ref (100 + h.1) :: S) (znew h (.inl (0, x.toNatClampNeg, zz0 0)) x.toNatClampNeg))) ∧
  (∀ (l0 : Value) (v : Value) (S : List Value) (h : zH), rn 3 15 [l0] (v :: S) h = c1 v (rn 3 16 [l0] (v :: v :: S) h)) ∧
  (∀ (l0 : Value) (S : List Value) (h : zH), rn 3 16 [l0] S h = rn 3 17 [l0] (.int (nI 0) :: S) h) ∧
  (∀ (l0 : Value) (S : List Value) (h : zH), rn 3 17 [l0] S h = rn 3 19 [l0] (.int (nI 99999) :: S) h) ∧
  (∀ (l0 : Value) (a : Nat) (j : Int32) (x : Int32) (S : List Value) (h : zH), rn 3 19 [l0] (.int x :: .int j :: .ref a :: S) h = zsi h a 0 j x fun h => rn 3 20 [l0] S h) ∧
  (∀ (l0 : Value) (v : Value) (S : List Value) (h : zH), rn 3 20 [l0] (v :: S) h = c1 v (rn 3 21 [l0] (v :: v :: S) h)) ∧
  (∀ (l0 : Value) (S : List Value) (h : zH), rn 3 21 [l0] S h = rn 3 22 [l0] (.int (nI 1) :: S) h) ∧
  (∀ (l0 : Value) (S : List Value) (h : zH), rn 3 22 [l0] S h = rn 3 24 [l0] (.int (nI 99999) :: S) h) ∧
  (∀ (l0 : Value) (a : Nat) (j : Int32) (x : Int32) (S : List Value) (h : zH), rn 3 24 [l0] (.int x :: .int j :: .ref a :: S) h = zsi h a 0 j x fun h => rn 3 25 [l0] S h) ∧
  (∀ (l0 : Value) (a : Nat) (v : Value) (S : List Value) (h : zH), rn 3 25 [l0] (v :: .ref a :: S) h = zpf h a 6 1 v fun h => rn 3 28 [l0] S h) ∧
  (∀ (x : Nat) (S : List Value) (h : zH), rn 3 28 [.ref x] S h = rn 3 29 [.ref x] (.ref x :: S) h) ∧
  (∀ (l0 : Value) (S : List Value) (h : zH), rn 3 29 [l0] S h = rn 3 30 [l0] (.int (nI 5) :: S) h) ∧
  (∀ (l0 : Value) (x : Int32) (S : List Value) (h : zH), rn 3 30 [l0] (.int x :: S) h = mkA x (rn 3 32 [l0] (.ref (100 + h.1) :: S) (znew h (.inl (0, x.toNatClampNeg, zz0 0)) x.toNatClampNeg))) ∧
  (∀ (l0 : Value) (a : Nat) (v : Value) (S : List Value) (h : zH), rn 3 32 [l0] (v :: .ref a :: S) h = zpf h a 6 2 v fun h => rn 3 35 [l0] S h) ∧
  (∀ (x : Nat) (S : List Value) (h : zH), rn 3 35 [.ref x] S h = rn 3 36 [.ref x] (.ref x :: S) h) ∧
  (∀ (l0 : Value) (S : List Value) (h : zH), rn 3 36 [l0] S h = rn 3 37 [l0] (.int (nI 5) :: S) h) ∧
  (∀ (l0 : Value) (x : Int32) (S : List Value) (h : zH), rn 3 37 [l0] (.int x :: S) h = mkA x (rn 3 39 [l0] (.ref (100 + h.1) :: S) (znew h (.inl (0, x.toNatClampNeg, zz0 0)) x.toNatClampNeg))) ∧
  (∀ (l0 : Value) (a : Nat) (v : Value) (S : List Value) (h : zH), rn 3 39 [l0] (v :: .ref a :: S) h = zpf h a 6 3 v fun h => rn 3 42 [l0] S h) ∧
  (∀ (x : Nat) (S : List Value) (h : zH), rn 3 42 [.ref x] S h = rn 3 43 [.ref x] (.ref x :: S) h) ∧
  (∀ (l0 : Value) (S : List Value) (h : zH), rn 3 43 [l0] S h = rn 3 44 [l0] (.int (nI 0) :: S) h) ∧
  (∀ (l0 : Value) (a : Nat) (v : Value) (S : List Value) (h : zH), rn 3 44 [l0] (v :: .ref a :: S) h = zpf h a 6 4 v fun h => rn 3 47 [l0] S h) ∧
  (∀ (l0 : Value) (h : zH), rn 3 47 [l0] [] h = some (none, h)) := ⟨fun _ _ _ => r_aload_nr (show zdec 3 0 = some (.aload_n 0, 1) by decide +kernel) rfl rfl,
  fun _ _ _ _ => r_cO (show zdec 3 1 = some (.invokespecial 3, 3) by decide +kernel) (show zst.lookup (3 * zKEY + 3) = some (7, 1, 0, 0) by decide +kernel) rfl,
  fun _ _ _ => r_aload_nr (show zdec 3 4 = some (.aload_n 0, 1) by decide +kernel) rfl rfl,
  fun _ _ _ => r_iconst (show zdec 3 5 = some (.iconst 2, 1) by decide +kernel) rfl rfl,
  fun _ _ _ _ => r_newa (show zdec 3 6 = some (.newarray .int, 2) by decide +kernel) rfl rfl,
  fun _ _ _ _ _ => r_putfield (show zdec 3 8 = some (.putfield 9, 3) by decide +kernel) (show zft.lookup (3 * zKEY + 9) = some (6, 0) by decide +kernel) (by decide +kernel) rfl,
  fun _ _ _ => r_aload_nr (show zdec 3 11 = some (.aload_n 0, 1) by decide +kernel) rfl rfl,
  fun _ _ _ => r_iconst (show zdec 3 12 = some (.iconst 2, 1) by decide +kernel) rfl rfl,
  fun _ _ _ _ => r_newa (show zdec 3 13 = some (.newarray .int, 2) by decide +kernel) rfl rfl,
  fun _ _ _ _ => r_dup (show zdec 3 15 = some (.dup, 1) by decide +kernel) rfl,
  fun _ _ _ => r_iconst (show zdec 3 16 = some (.iconst 0, 1) by decide +kernel) rfl rfl,
  fun _ _ _ => r_ldcI (show zdec 3 17 = some (.ldc 15, 2) by decide +kernel) (show zkt.lookup (3 * zKEY + 15) = some 99999 by decide +kernel) rfl,
  fun _ _ _ _ _ _ => r_iast (show zdec 3 19 = some (.iastore, 1) by decide +kernel) rfl,
  fun _ _ _ _ => r_dup (show zdec 3 20 = some (.dup, 1) by decide +kernel) rfl,
  fun _ _ _ => r_iconst (show zdec 3 21 = some (.iconst 1, 1) by decide +kernel) rfl rfl,
  fun _ _ _ => r_ldcI (show zdec 3 22 = some (.ldc 15, 2) by decide +kernel) (show zkt.lookup (3 * zKEY + 15) = some 99999 by decide +kernel) rfl,
  fun _ _ _ _ _ _ => r_iast (show zdec 3 24 = some (.iastore, 1) by decide +kernel) rfl,
  fun _ _ _ _ _ => r_putfield (show zdec 3 25 = some (.putfield 16, 3) by decide +kernel) (show zft.lookup (3 * zKEY + 16) = some (6, 1) by decide +kernel) (by decide +kernel) rfl,
  fun _ _ _ => r_aload_nr (show zdec 3 28 = some (.aload_n 0, 1) by decide +kernel) rfl rfl,
  fun _ _ _ => r_iconst (show zdec 3 29 = some (.iconst 5, 1) by decide +kernel) rfl rfl,
  fun _ _ _ _ => r_newa (show zdec 3 30 = some (.newarray .int, 2) by decide +kernel) rfl rfl,
  fun _ _ _ _ _ => r_putfield (show zdec 3 32 = some (.putfield 19, 3) by decide +kernel) (show zft.lookup (3 * zKEY + 19) = some (6, 2) by decide +kernel) (by decide +kernel) rfl,
  fun _ _ _ => r_aload_nr (show zdec 3 35 = some (.aload_n 0, 1) by decide +kernel) rfl rfl,
  fun _ _ _ => r_iconst (show zdec 3 36 = some (.iconst 5, 1) by decide +kernel) rfl rfl,
  fun _ _ _ _ => r_newa (show zdec 3 37 = some (.newarray .int, 2) by decide +kernel) rfl rfl,
  fun _ _ _ _ _ => r_putfield (show zdec 3 39 = some (.putfield 22, 3) by decide +kernel) (show zft.lookup (3 * zKEY + 22) = some (6, 3) by decide +kernel) (by decide +kernel) rfl,
  fun _ _ _ => r_aload_nr (show zdec 3 42 = some (.aload_n 0, 1) by decide +kernel) rfl rfl,
  fun _ _ _ => r_iconst (show zdec 3 43 = some (.iconst 0, 1) by decide +kernel) rfl rfl,
  fun _ _ _ _ _ => r_putfield (show zdec 3 44 = some (.putfield 25, 3) by decide +kernel) (show zft.lookup (3 * zKEY + 25) = some (6, 4) by decide +kernel) (by decide +kernel) rfl,
  fun _ _ => r_vret (show zdec 3 47 = some (.return_, 1) by decide +kernel) (by decide +kernel)⟩
theorem ze_3 : ∀ (a0 : Nat) (h : zH), ev 3 [.ref a0] h = rn 3 0 [.ref a0] [] h := fun _ _ => if_pos (Nat.le_of_ble_eq_true rfl)
-- PayrollRun/Worker.<init>()V
theorem zr_4 : (∀ (l1 : Value) (x : Nat) (S : List Value) (h : zH), rn 4 0 [.ref x, l1] S h = rn 4 1 [.ref x, l1] (.ref x :: S) h) ∧
  (∀ (l0 l1 : Value) (o : Nat) (S : List Value) (h : zH), rn 4 1 [l0, l1] (.ref o :: S) h = if zsum S ≤ 8 then rn 4 4 [l0, l1] S h else none) ∧
  (∀ (l1 : Value) (x : Nat) (S : List Value) (h : zH), rn 4 4 [.ref x, l1] S h = rn 4 5 [.ref x, l1] (.ref x :: S) h) ∧
  (∀ (l0 l1 : Value) (S : List Value) (h : zH), rn 4 5 [l0, l1] S h = rn 4 7 [l0, l1] (.int (nI 36) :: S) h) ∧
  (∀ (l0 l1 : Value) (x : Int32) (S : List Value) (h : zH), rn 4 7 [l0, l1] (.int x :: S) h = mkA x (rn 4 9 [l0, l1] (.ref (100 + h.1) :: S) (znew h (.inl (0, x.toNatClampNeg, zz0 0)) x.toNatClampNeg))) ∧
  (∀ (l0 l1 : Value) (a : Nat) (v : Value) (S : List Value) (h : zH), rn 4 9 [l0, l1] (v :: .ref a :: S) h = zpf h a 10 0 v fun h => rn 4 12 [l0, l1] S h) ∧
  (∀ (l1 : Value) (x : Nat) (S : List Value) (h : zH), rn 4 12 [.ref x, l1] S h = rn 4 13 [.ref x, l1] (.ref x :: S) h) ∧
  (∀ (l0 l1 : Value) (S : List Value) (h : zH), rn 4 13 [l0, l1] S h = rn 4 15 [l0, l1] (.int (nI 36) :: S) h) ∧
  (∀ (l0 l1 : Value) (x : Int32) (S : List Value) (h : zH), rn 4 15 [l0, l1] (.int x :: S) h = mkA x (rn 4 17 [l0, l1] (.ref (100 + h.1) :: S) (znew h (.inl (0, x.toNatClampNeg, zz0 0)) x.toNatClampNeg))) ∧
  (∀ (l0 l1 : Value) (a : Nat) (v : Value) (S : List Value) (h : zH), rn 4 17 [l0, l1] (v :: .ref a :: S) h = zpf h a 10 1 v fun h => rn 4 20 [l0, l1] S h) ∧
  (∀ (l1 : Value) (x : Nat) (S : List Value) (h : zH), rn 4 20 [.ref x, l1] S h = rn 4 21 [.ref x, l1] (.ref x :: S) h) ∧
  (∀ (l0 l1 : Value) (S : List Value) (h : zH), rn 4 21 [l0, l1] S h = rn 4 23 [l0, l1] (.int (nI 60) :: S) h) ∧
  (∀ (l0 l1 : Value) (x : Int32) (S : List Value) (h : zH), rn 4 23 [l0, l1] (.int x :: S) h = mkA x (rn 4 25 [l0, l1] (.ref (100 + h.1) :: S) (znew h (.inl (1, x.toNatClampNeg, zz0 1)) x.toNatClampNeg))) ∧
  (∀ (l0 l1 : Value) (a : Nat) (v : Value) (S : List Value) (h : zH), rn 4 25 [l0, l1] (v :: .ref a :: S) h = zpf h a 10 2 v fun h => rn 4 28 [l0, l1] S h) ∧
  (∀ (l1 : Value) (x : Nat) (S : List Value) (h : zH), rn 4 28 [.ref x, l1] S h = rn 4 29 [.ref x, l1] (.ref x :: S) h) ∧
  (∀ (l0 l1 : Value) (S : List Value) (h : zH), rn 4 29 [l0, l1] S h = rn 4 31 [l0, l1] (.int (nI 12) :: S) h) ∧
  (∀ (l0 l1 : Value) (x : Int32) (S : List Value) (h : zH), rn 4 31 [l0, l1] (.int x :: S) h = mkA x (rn 4 34 [l0, l1] (.ref (100 + h.1) :: S) (znew h (.inl (5, x.toNatClampNeg, .inr (.inr (.inr (.inr fun _ => none))))) x.toNatClampNeg))) ∧
  (∀ (l0 l1 : Value) (a : Nat) (v : Value) (S : List Value) (h : zH), rn 4 34 [l0, l1] (v :: .ref a :: S) h = zpf h a 10 3 v fun h => rn 4 37 [l0, l1] S h) ∧
  (∀ (l1 : Value) (x : Nat) (S : List Value) (h : zH), rn 4 37 [.ref x, l1] S h = rn 4 38 [.ref x, l1] (.ref x :: S) h) ∧
  (∀ (l0 l1 : Value) (S : List Value) (h : zH), rn 4 38 [l0, l1] S h = rn 4 41 [l0, l1] (.ref (100 + h.1) :: S) (znew h (.inr (4, [.null, .null, .null, .null, .int 0])) 5)) ∧
  (∀ (l0 l1 : Value) (v : Value) (S : List Value) (h : zH), rn 4 41 [l0, l1] (v :: S) h = c1 v (rn 4 42 [l0, l1] (v :: v :: S) h)) ∧
  (∀ (l0 l1 : Value) (o : Nat) (S : List Value) (h : zH), rn 4 42 [l0, l1] (.ref o :: S) h = if zsum S ≤ 8 then zcall (ev 5 [.ref o] h) (fun v h => rn 4 45 [l0, l1] (zpush v S) h) else none) ∧
  (∀ (l0 l1 : Value) (a : Nat) (v : Value) (S : List Value) (h : zH), rn 4 45 [l0, l1] (v :: .ref a :: S) h = zpf h a 10 4 v fun h => rn 4 48 [l0, l1] S h) ∧
  (∀ (l1 : Value) (x : Nat) (S : List Value) (h : zH), rn 4 48 [.ref x, l1] S h = rn 4 49 [.ref x, l1] (.ref x :: S) h) ∧
  (∀ (l0 l1 : Value) (S : List Value) (h : zH), rn 4 49 [l0, l1] S h = rn 4 50 [l0, l1] (.int (nI 0) :: S) h) ∧
  (∀ (l0 l1 : Value) (a : Nat) (v : Value) (S : List Value) (h : zH), rn 4 50 [l0, l1] (v :: .ref a :: S) h = zpf h a 10 5 v fun h => rn 4 53 [l0, l1] S h) ∧
  (∀ (l1 : Value) (x : Nat) (S : List Value) (h : zH), rn 4 53 [.ref x, l1] S h = rn 4 54 [.ref x, l1] (.ref x :: S) h) ∧
  (∀ (l0 l1 : Value) (S : List Value) (h : zH), rn 4 54 [l0, l1] S h = rn 4 55 [l0, l1] (.long 0 :: S) h) ∧
  (∀ (l0 l1 : Value) (a : Nat) (v : Value) (S : List Value) (h : zH), rn 4 55 [l0, l1] (v :: .ref a :: S) h = zpf h a 10 6 v fun h => rn 4 58 [l0, l1] S h) ∧
  (∀ (l0 l1 : Value) (S : List Value) (h : zH), rn 4 58 [l0, l1] S h = rn 4 59 [l0, l1] (.int (nI 0) :: S) h) ∧
  (∀ (l0 l1 : Value) (x : Int32) (S : List Value) (h : zH), rn 4 59 [l0, l1] (.int x :: S) h = nl l0 (rn 4 60 [l0, .int x] S h)) ∧
  (∀ (l0 l1 : Value) (S : List Value) (h : zH), rn 4 61 [l0, l1] S h = rn 4 63 [l0, l1] (.int (nI 12) :: S) h) ∧
  (∀ (l0 l1 : Value) (x : Int32) (y : Int32) (S : List Value) (h : zH), rn 4 63 [l0, l1] (.int y :: .int x :: S) h = if y ≤ x then rn 4 83 [l0, l1] S h else rn 4 66 [l0, l1] S h) ∧
  (∀ (l1 : Value) (x : Nat) (S : List Value) (h : zH), rn 4 66 [.ref x, l1] S h = rn 4 67 [.ref x, l1] (.ref x :: S) h) ∧
  (∀ (l0 l1 : Value) (a : Nat) (S : List Value) (h : zH), rn 4 67 [l0, l1] (.ref a :: S) h = zgf h a 10 0 fun v => rn 4 70 [l0, l1] (v :: S) h) ∧
  (∀ (l0 l1 : Value) (S : List Value) (h : zH), rn 4 70 [l0, l1] S h = rn 4 72 [l0, l1] (.int (nI 12) :: S) h) ∧
  (∀ (l0 : Value) (x : Int32) (S : List Value) (h : zH), rn 4 72 [l0, .int x] S h = rn 4 73 [l0, .int x] (.int x :: S) h) ∧
  (∀ (l0 l1 : Value) (x : Int32) (y : Int32) (S : List Value) (h : zH), rn 4 73 [l0, l1] (.int y :: .int x :: S) h = rn 4 74 [l0, l1] (.int (x + y) :: S) h) ∧
  (∀ (l0 l1 : Value) (S : List Value) (h : zH), rn 4 74 [l0, l1] S h = rn 4 76 [l0, l1] (.int (nI 30) :: S) h) ∧
  (∀ (l0 l1 : Value) (a : Nat) (j : Int32) (x : Int32) (S : List Value) (h : zH), rn 4 76 [l0, l1] (.int x :: .int j :: .ref a :: S) h = zsi h a 0 j x fun h => rn 4 77 [l0, l1] S h) ∧
  (∀ (l0 : Value) (x : Int32) (S : List Value) (h : zH), rn 4 77 [l0, .int x] S h = nl l0 (rn 4 80 [l0, .int (x + (nI 1))] S h)) ∧
  (∀ (l0 l1 : Value) (S : List Value) (h : zH), rn 4 80 [l0, l1] S h = rn 4 60 [l0, l1] S h) ∧
  (∀ (l0 l1 : Value) (h : zH), rn 4 83 [l0, l1] [] h = some (none, h)) := ⟨fun _ _ _ _ => r_aload_nr (show zdec 4 0 = some (.aload_n 0, 1) by decide +kernel) rfl rfl,
  fun _ _ _ _ _ => r_cO (show zdec 4 1 = some (.invokespecial 3, 3) by decide +kernel) (show zst.lookup (4 * zKEY + 3) = some (7, 1, 0, 0) by decide +kernel) rfl,
  fun _ _ _ _ => r_aload_nr (show zdec 4 4 = some (.aload_n 0, 1) by decide +kernel) rfl rfl,
  fun _ _ _ _ => r_bipush (show zdec 4 5 = some (.bipush 36, 2) by decide +kernel) rfl rfl,
  fun _ _ _ _ _ => r_newa (show zdec 4 7 = some (.newarray .int, 2) by decide +kernel) rfl rfl,
  fun _ _ _ _ _ _ => r_putfield (show zdec 4 9 = some (.putfield 9, 3) by decide +kernel) (show zft.lookup (4 * zKEY + 9) = some (10, 0) by decide +kernel) (by decide +kernel) rfl,
  fun _ _ _ _ => r_aload_nr (show zdec 4 12 = some (.aload_n 0, 1) by decide +kernel) rfl rfl,
  fun _ _ _ _ => r_bipush (show zdec 4 13 = some (.bipush 36, 2) by decide +kernel) rfl rfl,
  fun _ _ _ _ _ => r_newa (show zdec 4 15 = some (.newarray .int, 2) by decide +kernel) rfl rfl,
  fun _ _ _ _ _ _ => r_putfield (show zdec 4 17 = some (.putfield 15, 3) by decide +kernel) (show zft.lookup (4 * zKEY + 15) = some (10, 1) by decide +kernel) (by decide +kernel) rfl,
  fun _ _ _ _ => r_aload_nr (show zdec 4 20 = some (.aload_n 0, 1) by decide +kernel) rfl rfl,
  fun _ _ _ _ => r_bipush (show zdec 4 21 = some (.bipush 60, 2) by decide +kernel) rfl rfl,
  fun _ _ _ _ _ => r_newa (show zdec 4 23 = some (.newarray .long, 2) by decide +kernel) rfl rfl,
  fun _ _ _ _ _ _ => r_putfield (show zdec 4 25 = some (.putfield 18, 3) by decide +kernel) (show zft.lookup (4 * zKEY + 18) = some (10, 2) by decide +kernel) (by decide +kernel) rfl,
  fun _ _ _ _ => r_aload_nr (show zdec 4 28 = some (.aload_n 0, 1) by decide +kernel) rfl rfl,
  fun _ _ _ _ => r_bipush (show zdec 4 29 = some (.bipush 12, 2) by decide +kernel) rfl rfl,
  fun _ _ _ _ _ => r_anewa (show zdec 4 31 = some (.anewarray 22, 3) by decide +kernel) (show zat.lookup (4 * zKEY + 22) = some 5 by decide +kernel) rfl,
  fun _ _ _ _ _ _ => r_putfield (show zdec 4 34 = some (.putfield 24, 3) by decide +kernel) (show zft.lookup (4 * zKEY + 24) = some (10, 3) by decide +kernel) (by decide +kernel) rfl,
  fun _ _ _ _ => r_aload_nr (show zdec 4 37 = some (.aload_n 0, 1) by decide +kernel) rfl rfl,
  fun _ _ _ _ => r_new (show zdec 4 38 = some (.new 28, 3) by decide +kernel) (show znt.lookup (4 * zKEY + 28) = some 4 by decide +kernel) (by decide +kernel) rfl rfl,
  fun _ _ _ _ _ => r_dup (show zdec 4 41 = some (.dup, 1) by decide +kernel) rfl,
  fun _ _ _ _ _ => r_cI [] rfl (show zdec 4 42 = some (.invokespecial 30, 3) by decide +kernel) (show zst.lookup (4 * zKEY + 30) = some (4, 5, 0, 0) by decide +kernel) (by decide) rfl,
  fun _ _ _ _ _ _ => r_putfield (show zdec 4 45 = some (.putfield 31, 3) by decide +kernel) (show zft.lookup (4 * zKEY + 31) = some (10, 4) by decide +kernel) (by decide +kernel) rfl,
  fun _ _ _ _ => r_aload_nr (show zdec 4 48 = some (.aload_n 0, 1) by decide +kernel) rfl rfl,
  fun _ _ _ _ => r_iconst (show zdec 4 49 = some (.iconst 0, 1) by decide +kernel) rfl rfl,
  fun _ _ _ _ _ _ => r_putfield (show zdec 4 50 = some (.putfield 35, 3) by decide +kernel) (show zft.lookup (4 * zKEY + 35) = some (10, 5) by decide +kernel) (by decide +kernel) rfl,
  fun _ _ _ _ => r_aload_nr (show zdec 4 53 = some (.aload_n 0, 1) by decide +kernel) rfl rfl,
  fun _ _ _ _ => r_lconst (show zdec 4 54 = some (.lconst 0, 1) by decide +kernel) rfl rfl,
  fun _ _ _ _ _ _ => r_putfield (show zdec 4 55 = some (.putfield 39, 3) by decide +kernel) (show zft.lookup (4 * zKEY + 39) = some (10, 6) by decide +kernel) (by decide +kernel) rfl,
  fun _ _ _ _ => r_iconst (show zdec 4 58 = some (.iconst 0, 1) by decide +kernel) rfl rfl,
  fun _ _ _ _ _ => r_istore_n (show zdec 4 59 = some (.istore_n 1, 1) by decide +kernel) rfl rfl (Nat.le_of_ble_eq_true rfl) rfl rfl,
  fun _ _ _ _ => r_bipush (show zdec 4 61 = some (.bipush 12, 2) by decide +kernel) rfl rfl,
  fun _ _ _ _ _ _ => r_icmpge (show zdec 4 63 = some (.if_icmp .ge 20, 3) by decide +kernel) rfl rfl,
  fun _ _ _ _ => r_aload_nr (show zdec 4 66 = some (.aload_n 0, 1) by decide +kernel) rfl rfl,
  fun _ _ _ _ _ => r_getfield (show zdec 4 67 = some (.getfield 9, 3) by decide +kernel) (show zft.lookup (4 * zKEY + 9) = some (10, 0) by decide +kernel) rfl,
  fun _ _ _ _ => r_bipush (show zdec 4 70 = some (.bipush 12, 2) by decide +kernel) rfl rfl,
  fun _ _ _ _ => r_iload_n (show zdec 4 72 = some (.iload_n 1, 1) by decide +kernel) rfl rfl,
  fun _ _ _ _ _ _ => r_iadd (show zdec 4 73 = some (.iadd, 1) by decide +kernel) rfl,
  fun _ _ _ _ => r_bipush (show zdec 4 74 = some (.bipush 30, 2) by decide +kernel) rfl rfl,
  fun _ _ _ _ _ _ _ => r_iast (show zdec 4 76 = some (.iastore, 1) by decide +kernel) rfl,
  fun _ _ _ _ => r_iinc (show zdec 4 77 = some (.iinc 1 1, 3) by decide +kernel) rfl rfl rfl (Nat.le_of_ble_eq_true rfl) rfl rfl,
  fun _ _ _ _ => r_goto (show zdec 4 80 = some (.goto (-20), 3) by decide +kernel) rfl,
  fun _ _ _ => r_vret (show zdec 4 83 = some (.return_, 1) by decide +kernel) (by decide +kernel)⟩
theorem zl_4_60 : ∀ (l0 : Value) (x : Int32) (S : List Value) (h : zH), rn 4 60 [l0, .int x] S h = rn 4 61 [l0, .int x] (.int x :: S) h := fun _ _ _ _ => r_iload_n (show zdec 4 60 = some (.iload_n 1, 1) by decide +kernel) rfl rfl
theorem ze_4 : ∀ (a0 : Nat) (h : zH), ev 4 [.ref a0] h = rn 4 0 [.ref a0, .float 0] [] h := fun _ _ => if_pos (Nat.le_of_ble_eq_true rfl)
-- PayrollRun/Garnishments.<init>()V
theorem zr_5 : (∀ (x : Nat) (S : List Value) (h : zH), rn 5 0 [.ref x] S h = rn 5 1 [.ref x] (.ref x :: S) h) ∧
  (∀ (l0 : Value) (o : Nat) (S : List Value) (h : zH), rn 5 1 [l0] (.ref o :: S) h = if zsum S ≤ 8 then rn 5 4 [l0] S h else none) ∧
  (∀ (x : Nat) (S : List Value) (h : zH), rn 5 4 [.ref x] S h = rn 5 5 [.ref x] (.ref x :: S) h) ∧
  (∀ (l0 : Value) (S : List Value) (h : zH), rn 5 5 [l0] S h = rn 5 6 [l0] (.int (nI 3) :: S) h) ∧
  (∀ (l0 : Value) (x : Int32) (S : List Value) (h : zH), rn 5 6 [l0] (.int x :: S) h = mkA x (rn 5 8 [l0] (.ref (100 + h.1) :: S) (znew h (.inl (0, x.toNatClampNeg, zz0 0)) x.toNatClampNeg))) ∧
  (∀ (l0 : Value) (a : Nat) (v : Value) (S : List Value) (h : zH), rn 5 8 [l0] (v :: .ref a :: S) h = zpf h a 4 0 v fun h => rn 5 11 [l0] S h) ∧
  (∀ (x : Nat) (S : List Value) (h : zH), rn 5 11 [.ref x] S h = rn 5 12 [.ref x] (.ref x :: S) h) ∧
  (∀ (l0 : Value) (S : List Value) (h : zH), rn 5 12 [l0] S h = rn 5 13 [l0] (.int (nI 3) :: S) h) ∧
  (∀ (l0 : Value) (x : Int32) (S : List Value) (h : zH), rn 5 13 [l0] (.int x :: S) h = mkA x (rn 5 15 [l0] (.ref (100 + h.1) :: S) (znew h (.inl (0, x.toNatClampNeg, zz0 0)) x.toNatClampNeg))) ∧
  (∀ (l0 : Value) (a : Nat) (v : Value) (S : List Value) (h : zH), rn 5 15 [l0] (v :: .ref a :: S) h = zpf h a 4 1 v fun h => rn 5 18 [l0] S h) ∧
  (∀ (x : Nat) (S : List Value) (h : zH), rn 5 18 [.ref x] S h = rn 5 19 [.ref x] (.ref x :: S) h) ∧
  (∀ (l0 : Value) (S : List Value) (h : zH), rn 5 19 [l0] S h = rn 5 20 [l0] (.int (nI 3) :: S) h) ∧
  (∀ (l0 : Value) (x : Int32) (S : List Value) (h : zH), rn 5 20 [l0] (.int x :: S) h = mkA x (rn 5 22 [l0] (.ref (100 + h.1) :: S) (znew h (.inl (0, x.toNatClampNeg, zz0 0)) x.toNatClampNeg))) ∧
  (∀ (l0 : Value) (a : Nat) (v : Value) (S : List Value) (h : zH), rn 5 22 [l0] (v :: .ref a :: S) h = zpf h a 4 2 v fun h => rn 5 25 [l0] S h) ∧
  (∀ (x : Nat) (S : List Value) (h : zH), rn 5 25 [.ref x] S h = rn 5 26 [.ref x] (.ref x :: S) h) ∧
  (∀ (l0 : Value) (S : List Value) (h : zH), rn 5 26 [l0] S h = rn 5 27 [l0] (.int (nI 3) :: S) h) ∧
  (∀ (l0 : Value) (x : Int32) (S : List Value) (h : zH), rn 5 27 [l0] (.int x :: S) h = mkA x (rn 5 29 [l0] (.ref (100 + h.1) :: S) (znew h (.inl (1, x.toNatClampNeg, zz0 1)) x.toNatClampNeg))) ∧
  (∀ (l0 : Value) (a : Nat) (v : Value) (S : List Value) (h : zH), rn 5 29 [l0] (v :: .ref a :: S) h = zpf h a 4 3 v fun h => rn 5 32 [l0] S h) ∧
  (∀ (x : Nat) (S : List Value) (h : zH), rn 5 32 [.ref x] S h = rn 5 33 [.ref x] (.ref x :: S) h) ∧
  (∀ (l0 : Value) (S : List Value) (h : zH), rn 5 33 [l0] S h = rn 5 34 [l0] (.int (nI 0) :: S) h) ∧
  (∀ (l0 : Value) (a : Nat) (v : Value) (S : List Value) (h : zH), rn 5 34 [l0] (v :: .ref a :: S) h = zpf h a 4 4 v fun h => rn 5 37 [l0] S h) ∧
  (∀ (l0 : Value) (h : zH), rn 5 37 [l0] [] h = some (none, h)) := ⟨fun _ _ _ => r_aload_nr (show zdec 5 0 = some (.aload_n 0, 1) by decide +kernel) rfl rfl,
  fun _ _ _ _ => r_cO (show zdec 5 1 = some (.invokespecial 3, 3) by decide +kernel) (show zst.lookup (5 * zKEY + 3) = some (7, 1, 0, 0) by decide +kernel) rfl,
  fun _ _ _ => r_aload_nr (show zdec 5 4 = some (.aload_n 0, 1) by decide +kernel) rfl rfl,
  fun _ _ _ => r_iconst (show zdec 5 5 = some (.iconst 3, 1) by decide +kernel) rfl rfl,
  fun _ _ _ _ => r_newa (show zdec 5 6 = some (.newarray .int, 2) by decide +kernel) rfl rfl,
  fun _ _ _ _ _ => r_putfield (show zdec 5 8 = some (.putfield 9, 3) by decide +kernel) (show zft.lookup (5 * zKEY + 9) = some (4, 0) by decide +kernel) (by decide +kernel) rfl,
  fun _ _ _ => r_aload_nr (show zdec 5 11 = some (.aload_n 0, 1) by decide +kernel) rfl rfl,
  fun _ _ _ => r_iconst (show zdec 5 12 = some (.iconst 3, 1) by decide +kernel) rfl rfl,
  fun _ _ _ _ => r_newa (show zdec 5 13 = some (.newarray .int, 2) by decide +kernel) rfl rfl,
  fun _ _ _ _ _ => r_putfield (show zdec 5 15 = some (.putfield 15, 3) by decide +kernel) (show zft.lookup (5 * zKEY + 15) = some (4, 1) by decide +kernel) (by decide +kernel) rfl,
  fun _ _ _ => r_aload_nr (show zdec 5 18 = some (.aload_n 0, 1) by decide +kernel) rfl rfl,
  fun _ _ _ => r_iconst (show zdec 5 19 = some (.iconst 3, 1) by decide +kernel) rfl rfl,
  fun _ _ _ _ => r_newa (show zdec 5 20 = some (.newarray .int, 2) by decide +kernel) rfl rfl,
  fun _ _ _ _ _ => r_putfield (show zdec 5 22 = some (.putfield 18, 3) by decide +kernel) (show zft.lookup (5 * zKEY + 18) = some (4, 2) by decide +kernel) (by decide +kernel) rfl,
  fun _ _ _ => r_aload_nr (show zdec 5 25 = some (.aload_n 0, 1) by decide +kernel) rfl rfl,
  fun _ _ _ => r_iconst (show zdec 5 26 = some (.iconst 3, 1) by decide +kernel) rfl rfl,
  fun _ _ _ _ => r_newa (show zdec 5 27 = some (.newarray .long, 2) by decide +kernel) rfl rfl,
  fun _ _ _ _ _ => r_putfield (show zdec 5 29 = some (.putfield 21, 3) by decide +kernel) (show zft.lookup (5 * zKEY + 21) = some (4, 3) by decide +kernel) (by decide +kernel) rfl,
  fun _ _ _ => r_aload_nr (show zdec 5 32 = some (.aload_n 0, 1) by decide +kernel) rfl rfl,
  fun _ _ _ => r_iconst (show zdec 5 33 = some (.iconst 0, 1) by decide +kernel) rfl rfl,
  fun _ _ _ _ _ => r_putfield (show zdec 5 34 = some (.putfield 25, 3) by decide +kernel) (show zft.lookup (5 * zKEY + 25) = some (4, 4) by decide +kernel) (by decide +kernel) rfl,
  fun _ _ => r_vret (show zdec 5 37 = some (.return_, 1) by decide +kernel) (by decide +kernel)⟩
theorem ze_5 : ∀ (a0 : Nat) (h : zH), ev 5 [.ref a0] h = rn 5 0 [.ref a0] [] h := fun _ _ => if_pos (Nat.le_of_ble_eq_true rfl)
-- PayrollRun/History.<init>()V
theorem zr_6 : (∀ (l1 : Value) (x : Nat) (S : List Value) (h : zH), rn 6 0 [.ref x, l1] S h = rn 6 1 [.ref x, l1] (.ref x :: S) h) ∧
  (∀ (l0 l1 : Value) (o : Nat) (S : List Value) (h : zH), rn 6 1 [l0, l1] (.ref o :: S) h = if zsum S ≤ 8 then rn 6 4 [l0, l1] S h else none) ∧
  (∀ (l1 : Value) (x : Nat) (S : List Value) (h : zH), rn 6 4 [.ref x, l1] S h = rn 6 5 [.ref x, l1] (.ref x :: S) h) ∧
  (∀ (l0 l1 : Value) (S : List Value) (h : zH), rn 6 5 [l0, l1] S h = rn 6 7 [l0, l1] (.int (nI 7) :: S) h) ∧
  (∀ (l0 l1 : Value) (x : Int32) (S : List Value) (h : zH), rn 6 7 [l0, l1] (.int x :: S) h = mkA x (rn 6 10 [l0, l1] (.ref (100 + h.1) :: S) (znew h (.inl (6, x.toNatClampNeg, .inr (.inr (.inr (.inr fun _ => none))))) x.toNatClampNeg))) ∧
  (∀ (l0 l1 : Value) (a : Nat) (v : Value) (S : List Value) (h : zH), rn 6 10 [l0, l1] (v :: .ref a :: S) h = zpf h a 5 0 v fun h => rn 6 13 [l0, l1] S h) ∧
  (∀ (l1 : Value) (x : Nat) (S : List Value) (h : zH), rn 6 13 [.ref x, l1] S h = rn 6 14 [.ref x, l1] (.ref x :: S) h) ∧
  (∀ (l0 l1 : Value) (S : List Value) (h : zH), rn 6 14 [l0, l1] S h = rn 6 15 [l0, l1] (.int (nI 0) :: S) h) ∧
  (∀ (l0 l1 : Value) (a : Nat) (v : Value) (S : List Value) (h : zH), rn 6 15 [l0, l1] (v :: .ref a :: S) h = zpf h a 5 1 v fun h => rn 6 18 [l0, l1] S h) ∧
  (∀ (l1 : Value) (x : Nat) (S : List Value) (h : zH), rn 6 18 [.ref x, l1] S h = rn 6 19 [.ref x, l1] (.ref x :: S) h) ∧
  (∀ (l0 l1 : Value) (S : List Value) (h : zH), rn 6 19 [l0, l1] S h = rn 6 20 [l0, l1] (.int (nI 0) :: S) h) ∧
  (∀ (l0 l1 : Value) (a : Nat) (v : Value) (S : List Value) (h : zH), rn 6 20 [l0, l1] (v :: .ref a :: S) h = zpf h a 5 2 v fun h => rn 6 23 [l0, l1] S h) ∧
  (∀ (l0 l1 : Value) (S : List Value) (h : zH), rn 6 23 [l0, l1] S h = rn 6 24 [l0, l1] (.int (nI 0) :: S) h) ∧
  (∀ (l0 l1 : Value) (x : Int32) (S : List Value) (h : zH), rn 6 24 [l0, l1] (.int x :: S) h = nl l0 (rn 6 25 [l0, .int x] S h)) ∧
  (∀ (l0 l1 : Value) (S : List Value) (h : zH), rn 6 26 [l0, l1] S h = rn 6 28 [l0, l1] (.int (nI 7) :: S) h) ∧
  (∀ (l0 l1 : Value) (x : Int32) (y : Int32) (S : List Value) (h : zH), rn 6 28 [l0, l1] (.int y :: .int x :: S) h = if y ≤ x then rn 6 50 [l0, l1] S h else rn 6 31 [l0, l1] S h) ∧
  (∀ (l1 : Value) (x : Nat) (S : List Value) (h : zH), rn 6 31 [.ref x, l1] S h = rn 6 32 [.ref x, l1] (.ref x :: S) h) ∧
  (∀ (l0 l1 : Value) (a : Nat) (S : List Value) (h : zH), rn 6 32 [l0, l1] (.ref a :: S) h = zgf h a 5 0 fun v => rn 6 35 [l0, l1] (v :: S) h) ∧
  (∀ (l0 : Value) (x : Int32) (S : List Value) (h : zH), rn 6 35 [l0, .int x] S h = rn 6 36 [l0, .int x] (.int x :: S) h) ∧
  (∀ (l0 l1 : Value) (S : List Value) (h : zH), rn 6 36 [l0, l1] S h = rn 6 39 [l0, l1] (.ref (100 + h.1) :: S) (znew h (.inr (1, [.null, .null, .int 0, .int 0, .int 0])) 5)) ∧
  (∀ (l0 l1 : Value) (v : Value) (S : List Value) (h : zH), rn 6 39 [l0, l1] (v :: S) h = c1 v (rn 6 40 [l0, l1] (v :: v :: S) h)) ∧
  (∀ (l0 l1 : Value) (o : Nat) (S : List Value) (h : zH), rn 6 40 [l0, l1] (.ref o :: S) h = if zsum S ≤ 8 then zcall (ev 2 [.ref o] h) (fun v h => rn 6 43 [l0, l1] (zpush v S) h) else none) ∧
  (∀ (l0 l1 : Value) (a : Nat) (j : Int32) (v : Value) (S : List Value) (h : zH), rn 6 43 [l0, l1] (v :: .int j :: .ref a :: S) h = zsq h a j v fun h => rn 6 44 [l0, l1] S h) ∧
  (∀ (l0 : Value) (x : Int32) (S : List Value) (h : zH), rn 6 44 [l0, .int x] S h = nl l0 (rn 6 47 [l0, .int (x + (nI 1))] S h)) ∧
  (∀ (l0 l1 : Value) (S : List Value) (h : zH), rn 6 47 [l0, l1] S h = rn 6 25 [l0, l1] S h) ∧
  (∀ (l0 l1 : Value) (h : zH), rn 6 50 [l0, l1] [] h = some (none, h)) := ⟨fun _ _ _ _ => r_aload_nr (show zdec 6 0 = some (.aload_n 0, 1) by decide +kernel) rfl rfl,
  fun _ _ _ _ _ => r_cO (show zdec 6 1 = some (.invokespecial 3, 3) by decide +kernel) (show zst.lookup (6 * zKEY + 3) = some (7, 1, 0, 0) by decide +kernel) rfl,
  fun _ _ _ _ => r_aload_nr (show zdec 6 4 = some (.aload_n 0, 1) by decide +kernel) rfl rfl,
  fun _ _ _ _ => r_bipush (show zdec 6 5 = some (.bipush 7, 2) by decide +kernel) rfl rfl,
  fun _ _ _ _ _ => r_anewa (show zdec 6 7 = some (.anewarray 11, 3) by decide +kernel) (show zat.lookup (6 * zKEY + 11) = some 6 by decide +kernel) rfl,
  fun _ _ _ _ _ _ => r_putfield (show zdec 6 10 = some (.putfield 13, 3) by decide +kernel) (show zft.lookup (6 * zKEY + 13) = some (5, 0) by decide +kernel) (by decide +kernel) rfl,
  fun _ _ _ _ => r_aload_nr (show zdec 6 13 = some (.aload_n 0, 1) by decide +kernel) rfl rfl,
  fun _ _ _ _ => r_iconst (show zdec 6 14 = some (.iconst 0, 1) by decide +kernel) rfl rfl,
  fun _ _ _ _ _ _ => r_putfield (show zdec 6 15 = some (.putfield 17, 3) by decide +kernel) (show zft.lookup (6 * zKEY + 17) = some (5, 1) by decide +kernel) (by decide +kernel) rfl,
  fun _ _ _ _ => r_aload_nr (show zdec 6 18 = some (.aload_n 0, 1) by decide +kernel) rfl rfl,
  fun _ _ _ _ => r_iconst (show zdec 6 19 = some (.iconst 0, 1) by decide +kernel) rfl rfl,
  fun _ _ _ _ _ _ => r_putfield (show zdec 6 20 = some (.putfield 21, 3) by decide +kernel) (show zft.lookup (6 * zKEY + 21) = some (5, 2) by decide +kernel) (by decide +kernel) rfl,
  fun _ _ _ _ => r_iconst (show zdec 6 23 = some (.iconst 0, 1) by decide +kernel) rfl rfl,
  fun _ _ _ _ _ => r_istore_n (show zdec 6 24 = some (.istore_n 1, 1) by decide +kernel) rfl rfl (Nat.le_of_ble_eq_true rfl) rfl rfl,
  fun _ _ _ _ => r_bipush (show zdec 6 26 = some (.bipush 7, 2) by decide +kernel) rfl rfl,
  fun _ _ _ _ _ _ => r_icmpge (show zdec 6 28 = some (.if_icmp .ge 22, 3) by decide +kernel) rfl rfl,
  fun _ _ _ _ => r_aload_nr (show zdec 6 31 = some (.aload_n 0, 1) by decide +kernel) rfl rfl,
  fun _ _ _ _ _ => r_getfield (show zdec 6 32 = some (.getfield 13, 3) by decide +kernel) (show zft.lookup (6 * zKEY + 13) = some (5, 0) by decide +kernel) rfl,
  fun _ _ _ _ => r_iload_n (show zdec 6 35 = some (.iload_n 1, 1) by decide +kernel) rfl rfl,
  fun _ _ _ _ => r_new (show zdec 6 36 = some (.new 11, 3) by decide +kernel) (show znt.lookup (6 * zKEY + 11) = some 1 by decide +kernel) (by decide +kernel) rfl rfl,
  fun _ _ _ _ _ => r_dup (show zdec 6 39 = some (.dup, 1) by decide +kernel) rfl,
  fun _ _ _ _ _ => r_cI [] rfl (show zdec 6 40 = some (.invokespecial 24, 3) by decide +kernel) (show zst.lookup (6 * zKEY + 24) = some (2, 2, 0, 0) by decide +kernel) (by decide) rfl,
  fun _ _ _ _ _ _ _ => r_aast (show zdec 6 43 = some (.aastore, 1) by decide +kernel) rfl,
  fun _ _ _ _ => r_iinc (show zdec 6 44 = some (.iinc 1 1, 3) by decide +kernel) rfl rfl rfl (Nat.le_of_ble_eq_true rfl) rfl rfl,
  fun _ _ _ _ => r_goto (show zdec 6 47 = some (.goto (-22), 3) by decide +kernel) rfl,
  fun _ _ _ => r_vret (show zdec 6 50 = some (.return_, 1) by decide +kernel) (by decide +kernel)⟩
theorem zl_6_25 : ∀ (l0 : Value) (x : Int32) (S : List Value) (h : zH), rn 6 25 [l0, .int x] S h = rn 6 26 [l0, .int x] (.int x :: S) h := fun _ _ _ _ => r_iload_n (show zdec 6 25 = some (.iload_n 1, 1) by decide +kernel) rfl rfl
theorem ze_6 : ∀ (a0 : Nat) (h : zH), ev 6 [.ref a0] h = rn 6 0 [.ref a0, .float 0] [] h := fun _ _ => if_pos (Nat.le_of_ble_eq_true rfl)
-- PayrollRun/Closing.<init>()V
theorem zr_8 : (∀ (x : Nat) (S : List Value) (h : zH), rn 8 0 [.ref x] S h = rn 8 1 [.ref x] (.ref x :: S) h) ∧
  (∀ (l0 : Value) (o : Nat) (S : List Value) (h : zH), rn 8 1 [l0] (.ref o :: S) h = if zsum S ≤ 8 then rn 8 4 [l0] S h else none) ∧
  (∀ (x : Nat) (S : List Value) (h : zH), rn 8 4 [.ref x] S h = rn 8 5 [.ref x] (.ref x :: S) h) ∧
  (∀ (l0 : Value) (S : List Value) (h : zH), rn 8 5 [l0] S h = rn 8 7 [l0] (.int (nI 60) :: S) h) ∧
  (∀ (l0 : Value) (x : Int32) (S : List Value) (h : zH), rn 8 7 [l0] (.int x :: S) h = mkA x (rn 8 9 [l0] (.ref (100 + h.1) :: S) (znew h (.inl (1, x.toNatClampNeg, zz0 1)) x.toNatClampNeg))) ∧
  (∀ (l0 : Value) (a : Nat) (v : Value) (S : List Value) (h : zH), rn 8 9 [l0] (v :: .ref a :: S) h = zpf h a 2 0 v fun h => rn 8 12 [l0] S h) ∧
  (∀ (l0 : Value) (h : zH), rn 8 12 [l0] [] h = some (none, h)) := ⟨fun _ _ _ => r_aload_nr (show zdec 8 0 = some (.aload_n 0, 1) by decide +kernel) rfl rfl,
  fun _ _ _ _ => r_cO (show zdec 8 1 = some (.invokespecial 3, 3) by decide +kernel) (show zst.lookup (8 * zKEY + 3) = some (7, 1, 0, 0) by decide +kernel) rfl,
  fun _ _ _ => r_aload_nr (show zdec 8 4 = some (.aload_n 0, 1) by decide +kernel) rfl rfl,
  fun _ _ _ => r_bipush (show zdec 8 5 = some (.bipush 60, 2) by decide +kernel) rfl rfl,
  fun _ _ _ _ => r_newa (show zdec 8 7 = some (.newarray .long, 2) by decide +kernel) rfl rfl,
  fun _ _ _ _ _ => r_putfield (show zdec 8 9 = some (.putfield 9, 3) by decide +kernel) (show zft.lookup (8 * zKEY + 9) = some (2, 0) by decide +kernel) (by decide +kernel) rfl,
  fun _ _ => r_vret (show zdec 8 12 = some (.return_, 1) by decide +kernel) (by decide +kernel)⟩
theorem ze_8 : ∀ (a0 : Nat) (h : zH), ev 8 [.ref a0] h = rn 8 0 [.ref a0] [] h := fun _ _ => if_pos (Nat.le_of_ble_eq_true rfl)
-- PayrollRun/Trial.<init>()V
theorem zr_9 : (∀ (x : Nat) (S : List Value) (h : zH), rn 9 0 [.ref x] S h = rn 9 1 [.ref x] (.ref x :: S) h) ∧
  (∀ (l0 : Value) (o : Nat) (S : List Value) (h : zH), rn 9 1 [l0] (.ref o :: S) h = if zsum S ≤ 8 then rn 9 4 [l0] S h else none) ∧
  (∀ (x : Nat) (S : List Value) (h : zH), rn 9 4 [.ref x] S h = rn 9 5 [.ref x] (.ref x :: S) h) ∧
  (∀ (l0 : Value) (S : List Value) (h : zH), rn 9 5 [l0] S h = rn 9 8 [l0] (.ref (100 + h.1) :: S) (znew h (.inr (2, [.null])) 1)) ∧
  (∀ (l0 : Value) (v : Value) (S : List Value) (h : zH), rn 9 8 [l0] (v :: S) h = c1 v (rn 9 9 [l0] (v :: v :: S) h)) ∧
  (∀ (l0 : Value) (o : Nat) (S : List Value) (h : zH), rn 9 9 [l0] (.ref o :: S) h = if zsum S ≤ 8 then zcall (ev 8 [.ref o] h) (fun v h => rn 9 12 [l0] (zpush v S) h) else none) ∧
  (∀ (l0 : Value) (a : Nat) (v : Value) (S : List Value) (h : zH), rn 9 12 [l0] (v :: .ref a :: S) h = zpf h a 9 0 v fun h => rn 9 15 [l0] S h) ∧
  (∀ (x : Nat) (S : List Value) (h : zH), rn 9 15 [.ref x] S h = rn 9 16 [.ref x] (.ref x :: S) h) ∧
  (∀ (l0 : Value) (S : List Value) (h : zH), rn 9 16 [l0] S h = rn 9 19 [l0] (.ref (100 + h.1) :: S) (znew h (.inr (10, [.null, .null, .null, .null, .null, .int 0, .long 0])) 7)) ∧
  (∀ (l0 : Value) (v : Value) (S : List Value) (h : zH), rn 9 19 [l0] (v :: S) h = c1 v (rn 9 20 [l0] (v :: v :: S) h)) ∧
  (∀ (l0 : Value) (o : Nat) (S : List Value) (h : zH), rn 9 20 [l0] (.ref o :: S) h = if zsum S ≤ 8 then zcall (ev 4 [.ref o] h) (fun v h => rn 9 23 [l0] (zpush v S) h) else none) ∧
  (∀ (l0 : Value) (a : Nat) (v : Value) (S : List Value) (h : zH), rn 9 23 [l0] (v :: .ref a :: S) h = zpf h a 9 1 v fun h => rn 9 26 [l0] S h) ∧
  (∀ (x : Nat) (S : List Value) (h : zH), rn 9 26 [.ref x] S h = rn 9 27 [.ref x] (.ref x :: S) h) ∧
  (∀ (l0 : Value) (S : List Value) (h : zH), rn 9 27 [l0] S h = rn 9 30 [l0] (.ref (100 + h.1) :: S) (znew h (.inr (7, [.null, .null, .int 0, .long 0])) 4)) ∧
  (∀ (l0 : Value) (v : Value) (S : List Value) (h : zH), rn 9 30 [l0] (v :: S) h = c1 v (rn 9 31 [l0] (v :: v :: S) h)) ∧
  (∀ (l0 : Value) (o : Nat) (S : List Value) (h : zH), rn 9 31 [l0] (.ref o :: S) h = if zsum S ≤ 8 then zcall (ev 10 [.ref o] h) (fun v h => rn 9 34 [l0] (zpush v S) h) else none) ∧
  (∀ (l0 : Value) (a : Nat) (v : Value) (S : List Value) (h : zH), rn 9 34 [l0] (v :: .ref a :: S) h = zpf h a 9 2 v fun h => rn 9 37 [l0] S h) ∧
  (∀ (l0 : Value) (h : zH), rn 9 37 [l0] [] h = some (none, h)) := ⟨fun _ _ _ => r_aload_nr (show zdec 9 0 = some (.aload_n 0, 1) by decide +kernel) rfl rfl,
  fun _ _ _ _ => r_cO (show zdec 9 1 = some (.invokespecial 3, 3) by decide +kernel) (show zst.lookup (9 * zKEY + 3) = some (7, 1, 0, 0) by decide +kernel) rfl,
  fun _ _ _ => r_aload_nr (show zdec 9 4 = some (.aload_n 0, 1) by decide +kernel) rfl rfl,
  fun _ _ _ => r_new (show zdec 9 5 = some (.new 9, 3) by decide +kernel) (show znt.lookup (9 * zKEY + 9) = some 2 by decide +kernel) (by decide +kernel) rfl rfl,
  fun _ _ _ _ => r_dup (show zdec 9 8 = some (.dup, 1) by decide +kernel) rfl,
  fun _ _ _ _ => r_cI [] rfl (show zdec 9 9 = some (.invokespecial 11, 3) by decide +kernel) (show zst.lookup (9 * zKEY + 11) = some (4, 8, 0, 0) by decide +kernel) (by decide) rfl,
  fun _ _ _ _ _ => r_putfield (show zdec 9 12 = some (.putfield 12, 3) by decide +kernel) (show zft.lookup (9 * zKEY + 12) = some (9, 0) by decide +kernel) (by decide +kernel) rfl,
  fun _ _ _ => r_aload_nr (show zdec 9 15 = some (.aload_n 0, 1) by decide +kernel) rfl rfl,
  fun _ _ _ => r_new (show zdec 9 16 = some (.new 18, 3) by decide +kernel) (show znt.lookup (9 * zKEY + 18) = some 10 by decide +kernel) (by decide +kernel) rfl rfl,
  fun _ _ _ _ => r_dup (show zdec 9 19 = some (.dup, 1) by decide +kernel) rfl,
  fun _ _ _ _ => r_cI [] rfl (show zdec 9 20 = some (.invokespecial 20, 3) by decide +kernel) (show zst.lookup (9 * zKEY + 20) = some (2, 4, 0, 0) by decide +kernel) (by decide) rfl,
  fun _ _ _ _ _ => r_putfield (show zdec 9 23 = some (.putfield 21, 3) by decide +kernel) (show zft.lookup (9 * zKEY + 21) = some (9, 1) by decide +kernel) (by decide +kernel) rfl,
  fun _ _ _ => r_aload_nr (show zdec 9 26 = some (.aload_n 0, 1) by decide +kernel) rfl rfl,
  fun _ _ _ => r_new (show zdec 9 27 = some (.new 25, 3) by decide +kernel) (show znt.lookup (9 * zKEY + 25) = some 7 by decide +kernel) (by decide +kernel) rfl rfl,
  fun _ _ _ _ => r_dup (show zdec 9 30 = some (.dup, 1) by decide +kernel) rfl,
  fun _ _ _ _ => r_cI [] rfl (show zdec 9 31 = some (.invokespecial 27, 3) by decide +kernel) (show zst.lookup (9 * zKEY + 27) = some (4, 10, 0, 0) by decide +kernel) (by decide) rfl,
  fun _ _ _ _ _ => r_putfield (show zdec 9 34 = some (.putfield 28, 3) by decide +kernel) (show zft.lookup (9 * zKEY + 28) = some (9, 2) by decide +kernel) (by decide +kernel) rfl,
  fun _ _ => r_vret (show zdec 9 37 = some (.return_, 1) by decide +kernel) (by decide +kernel)⟩
theorem ze_9 : ∀ (a0 : Nat) (h : zH), ev 9 [.ref a0] h = rn 9 0 [.ref a0] [] h := fun _ _ => if_pos (Nat.le_of_ble_eq_true rfl)
-- PayrollRun/Slip.<init>()V
theorem zr_10 : (∀ (x : Nat) (S : List Value) (h : zH), rn 10 0 [.ref x] S h = rn 10 1 [.ref x] (.ref x :: S) h) ∧
  (∀ (l0 : Value) (o : Nat) (S : List Value) (h : zH), rn 10 1 [l0] (.ref o :: S) h = if zsum S ≤ 8 then rn 10 4 [l0] S h else none) ∧
  (∀ (x : Nat) (S : List Value) (h : zH), rn 10 4 [.ref x] S h = rn 10 5 [.ref x] (.ref x :: S) h) ∧
  (∀ (l0 : Value) (S : List Value) (h : zH), rn 10 5 [l0] S h = rn 10 8 [l0] (.int (nI 162) :: S) h) ∧
  (∀ (l0 : Value) (x : Int32) (S : List Value) (h : zH), rn 10 8 [l0] (.int x :: S) h = mkA x (rn 10 10 [l0] (.ref (100 + h.1) :: S) (znew h (.inl (0, x.toNatClampNeg, zz0 0)) x.toNatClampNeg))) ∧
  (∀ (l0 : Value) (a : Nat) (v : Value) (S : List Value) (h : zH), rn 10 10 [l0] (v :: .ref a :: S) h = zpf h a 7 0 v fun h => rn 10 13 [l0] S h) ∧
  (∀ (x : Nat) (S : List Value) (h : zH), rn 10 13 [.ref x] S h = rn 10 14 [.ref x] (.ref x :: S) h) ∧
  (∀ (l0 : Value) (S : List Value) (h : zH), rn 10 14 [l0] S h = rn 10 16 [l0] (.int (nI 54) :: S) h) ∧
  (∀ (l0 : Value) (x : Int32) (S : List Value) (h : zH), rn 10 16 [l0] (.int x :: S) h = mkA x (rn 10 18 [l0] (.ref (100 + h.1) :: S) (znew h (.inl (1, x.toNatClampNeg, zz0 1)) x.toNatClampNeg))) ∧
  (∀ (l0 : Value) (a : Nat) (v : Value) (S : List Value) (h : zH), rn 10 18 [l0] (v :: .ref a :: S) h = zpf h a 7 1 v fun h => rn 10 21 [l0] S h) ∧
  (∀ (x : Nat) (S : List Value) (h : zH), rn 10 21 [.ref x] S h = rn 10 22 [.ref x] (.ref x :: S) h) ∧
  (∀ (l0 : Value) (S : List Value) (h : zH), rn 10 22 [l0] S h = rn 10 23 [l0] (.int (nI 0) :: S) h) ∧
  (∀ (l0 : Value) (a : Nat) (v : Value) (S : List Value) (h : zH), rn 10 23 [l0] (v :: .ref a :: S) h = zpf h a 7 2 v fun h => rn 10 26 [l0] S h) ∧
  (∀ (x : Nat) (S : List Value) (h : zH), rn 10 26 [.ref x] S h = rn 10 27 [.ref x] (.ref x :: S) h) ∧
  (∀ (l0 : Value) (S : List Value) (h : zH), rn 10 27 [l0] S h = rn 10 28 [l0] (.long 0 :: S) h) ∧
  (∀ (l0 : Value) (a : Nat) (v : Value) (S : List Value) (h : zH), rn 10 28 [l0] (v :: .ref a :: S) h = zpf h a 7 3 v fun h => rn 10 31 [l0] S h) ∧
  (∀ (l0 : Value) (h : zH), rn 10 31 [l0] [] h = some (none, h)) := ⟨fun _ _ _ => r_aload_nr (show zdec 10 0 = some (.aload_n 0, 1) by decide +kernel) rfl rfl,
  fun _ _ _ _ => r_cO (show zdec 10 1 = some (.invokespecial 3, 3) by decide +kernel) (show zst.lookup (10 * zKEY + 3) = some (7, 1, 0, 0) by decide +kernel) rfl,
  fun _ _ _ => r_aload_nr (show zdec 10 4 = some (.aload_n 0, 1) by decide +kernel) rfl rfl,
  fun _ _ _ => r_sipush (show zdec 10 5 = some (.sipush 162, 3) by decide +kernel) rfl rfl,
  fun _ _ _ _ => r_newa (show zdec 10 8 = some (.newarray .int, 2) by decide +kernel) rfl rfl,
  fun _ _ _ _ _ => r_putfield (show zdec 10 10 = some (.putfield 11, 3) by decide +kernel) (show zft.lookup (10 * zKEY + 11) = some (7, 0) by decide +kernel) (by decide +kernel) rfl,
  fun _ _ _ => r_aload_nr (show zdec 10 13 = some (.aload_n 0, 1) by decide +kernel) rfl rfl,
  fun _ _ _ => r_bipush (show zdec 10 14 = some (.bipush 54, 2) by decide +kernel) rfl rfl,
  fun _ _ _ _ => r_newa (show zdec 10 16 = some (.newarray .long, 2) by decide +kernel) rfl rfl,
  fun _ _ _ _ _ => r_putfield (show zdec 10 18 = some (.putfield 15, 3) by decide +kernel) (show zft.lookup (10 * zKEY + 15) = some (7, 1) by decide +kernel) (by decide +kernel) rfl,
  fun _ _ _ => r_aload_nr (show zdec 10 21 = some (.aload_n 0, 1) by decide +kernel) rfl rfl,
  fun _ _ _ => r_iconst (show zdec 10 22 = some (.iconst 0, 1) by decide +kernel) rfl rfl,
  fun _ _ _ _ _ => r_putfield (show zdec 10 23 = some (.putfield 19, 3) by decide +kernel) (show zft.lookup (10 * zKEY + 19) = some (7, 2) by decide +kernel) (by decide +kernel) rfl,
  fun _ _ _ => r_aload_nr (show zdec 10 26 = some (.aload_n 0, 1) by decide +kernel) rfl rfl,
  fun _ _ _ => r_lconst (show zdec 10 27 = some (.lconst 0, 1) by decide +kernel) rfl rfl,
  fun _ _ _ _ _ => r_putfield (show zdec 10 28 = some (.putfield 23, 3) by decide +kernel) (show zft.lookup (10 * zKEY + 23) = some (7, 3) by decide +kernel) (by decide +kernel) rfl,
  fun _ _ => r_vret (show zdec 10 31 = some (.return_, 1) by decide +kernel) (by decide +kernel)⟩
theorem ze_10 : ∀ (a0 : Nat) (h : zH), ev 10 [.ref a0] h = rn 10 0 [.ref a0] [] h := fun _ _ => if_pos (Nat.le_of_ble_eq_true rfl)
-- PayrollRun/History.begin(LPayrollRun/Books;)V
theorem zr_17 : (∀ (l1 : Value) (x : Nat) (S : List Value) (h : zH), rn 17 0 [.ref x, l1] S h = rn 17 1 [.ref x, l1] (.ref x :: S) h) ∧
  (∀ (l0 l1 : Value) (a : Nat) (S : List Value) (h : zH), rn 17 1 [l0, l1] (.ref a :: S) h = zgf h a 5 0 fun v => rn 17 4 [l0, l1] (v :: S) h) ∧
  (∀ (l1 : Value) (x : Nat) (S : List Value) (h : zH), rn 17 4 [.ref x, l1] S h = rn 17 5 [.ref x, l1] (.ref x :: S) h) ∧
  (∀ (l0 l1 : Value) (a : Nat) (S : List Value) (h : zH), rn 17 5 [l0, l1] (.ref a :: S) h = zgf h a 5 1 fun v => rn 17 8 [l0, l1] (v :: S) h) ∧
  (∀ (l0 l1 : Value) (a : Nat) (j : Int32) (S : List Value) (h : zH), rn 17 8 [l0, l1] (.int j :: .ref a :: S) h = zlq h a j fun x => rn 17 9 [l0, l1] (va_rf x :: S) h) ∧
  (∀ (l0 l1 : Value) (S : List Value) (h : zH), rn 17 9 [l0, l1] S h = ldA l1 (rn 17 10 [l0, l1] (l1 :: S) h)) ∧
  (∀ (l0 l1 : Value) (o : Nat) (v0 : Value) (S : List Value) (h : zH), rn 17 10 [l0, l1] (v0 :: .ref o :: S) h = if zkd h o = 1 ∧ zsum S ≤ 8 then zcall (ev 18 [.ref o, v0] h) (fun v h => rn 17 13 [l0, l1] (zpush v S) h) else none) ∧
  (∀ (l0 l1 : Value) (h : zH), rn 17 13 [l0, l1] [] h = some (none, h)) := ⟨fun _ _ _ _ => r_aload_nr (show zdec 17 0 = some (.aload_n 0, 1) by decide +kernel) rfl rfl,
  fun _ _ _ _ _ => r_getfield (show zdec 17 1 = some (.getfield 13, 3) by decide +kernel) (show zft.lookup (17 * zKEY + 13) = some (5, 0) by decide +kernel) rfl,
  fun _ _ _ _ => r_aload_nr (show zdec 17 4 = some (.aload_n 0, 1) by decide +kernel) rfl rfl,
  fun _ _ _ _ _ => r_getfield (show zdec 17 5 = some (.getfield 17, 3) by decide +kernel) (show zft.lookup (17 * zKEY + 17) = some (5, 1) by decide +kernel) rfl,
  fun _ _ _ _ _ _ => r_aald (show zdec 17 8 = some (.aaload, 1) by decide +kernel) rfl,
  fun _ _ _ _ => r_aload_n (show zdec 17 9 = some (.aload_n 1, 1) by decide +kernel) rfl rfl,
  fun _ _ _ _ _ _ => r_cV [_] rfl (show zdec 17 10 = some (.invokevirtual 25, 3) by decide +kernel) (show zst.lookup (17 * zKEY + 25) = some (1, 18, 1, 1) by decide +kernel) (by decide) rfl,
  fun _ _ _ => r_vret (show zdec 17 13 = some (.return_, 1) by decide +kernel) (by decide +kernel)⟩
theorem ze_17 : ∀ (a0 : Nat) (a1 : Nat) (h : zH), ev 17 [.ref a0, .ref a1] h = rn 17 0 [.ref a0, .ref a1] [] h := fun _ _ _ => if_pos (Nat.le_of_ble_eq_true rfl)
-- PayrollRun/Worker.copyFrom(LPayrollRun/Worker;)V
theorem zr_19 : (∀ (l0 l1 l2 : Value) (S : List Value) (h : zH), rn 19 0 [l0, l1, l2] S h = ldA l1 (rn 19 1 [l0, l1, l2] (l1 :: S) h)) ∧
  (∀ (l0 l1 l2 : Value) (a : Nat) (S : List Value) (h : zH), rn 19 1 [l0, l1, l2] (.ref a :: S) h = zgf h a 10 0 fun v => rn 19 4 [l0, l1, l2] (v :: S) h) ∧
  (∀ (l0 l1 l2 : Value) (S : List Value) (h : zH), rn 19 4 [l0, l1, l2] S h = rn 19 5 [l0, l1, l2] (.int (nI 0) :: S) h) ∧
  (∀ (l1 l2 : Value) (x : Nat) (S : List Value) (h : zH), rn 19 5 [.ref x, l1, l2] S h = rn 19 6 [.ref x, l1, l2] (.ref x :: S) h) ∧
  (∀ (l0 l1 l2 : Value) (a : Nat) (S : List Value) (h : zH), rn 19 6 [l0, l1, l2] (.ref a :: S) h = zgf h a 10 0 fun v => rn 19 9 [l0, l1, l2] (v :: S) h) ∧
  (∀ (l0 l1 l2 : Value) (S : List Value) (h : zH), rn 19 9 [l0, l1, l2] S h = rn 19 10 [l0, l1, l2] (.int (nI 0) :: S) h) ∧
  (∀ (l0 l1 l2 : Value) (S : List Value) (h : zH), rn 19 10 [l0, l1, l2] S h = rn 19 12 [l0, l1, l2] (.int (nI 36) :: S) h) ∧
  (∀ (l0 l1 l2 : Value) (s : Nat) (d : Nat) (sp : Int32) (dp : Int32) (x : Int32) (S : List Value) (h : zH), rn 19 12 [l0, l1, l2] (.int x :: .int dp :: .ref d :: .int sp :: .ref s :: S) h = if zsum S ≤ 8 then zcpI h s sp d dp x (fun h => rn 19 15 [l0, l1, l2] S h) else none) ∧
  (∀ (l0 l1 l2 : Value) (S : List Value) (h : zH), rn 19 15 [l0, l1, l2] S h = ldA l1 (rn 19 16 [l0, l1, l2] (l1 :: S) h)) ∧
  (∀ (l0 l1 l2 : Value) (a : Nat) (S : List Value) (h : zH), rn 19 16 [l0, l1, l2] (.ref a :: S) h = zgf h a 10 1 fun v => rn 19 19 [l0, l1, l2] (v :: S) h) ∧
  (∀ (l0 l1 l2 : Value) (S : List Value) (h : zH), rn 19 19 [l0, l1, l2] S h = rn 19 20 [l0, l1, l2] (.int (nI 0) :: S) h) ∧
  (∀ (l1 l2 : Value) (x : Nat) (S : List Value) (h : zH), rn 19 20 [.ref x, l1, l2] S h = rn 19 21 [.ref x, l1, l2] (.ref x :: S) h) ∧
  (∀ (l0 l1 l2 : Value) (a : Nat) (S : List Value) (h : zH), rn 19 21 [l0, l1, l2] (.ref a :: S) h = zgf h a 10 1 fun v => rn 19 24 [l0, l1, l2] (v :: S) h) ∧
  (∀ (l0 l1 l2 : Value) (S : List Value) (h : zH), rn 19 24 [l0, l1, l2] S h = rn 19 25 [l0, l1, l2] (.int (nI 0) :: S) h) ∧
  (∀ (l0 l1 l2 : Value) (S : List Value) (h : zH), rn 19 25 [l0, l1, l2] S h = rn 19 27 [l0, l1, l2] (.int (nI 36) :: S) h) ∧
  (∀ (l0 l1 l2 : Value) (s : Nat) (d : Nat) (sp : Int32) (dp : Int32) (x : Int32) (S : List Value) (h : zH), rn 19 27 [l0, l1, l2] (.int x :: .int dp :: .ref d :: .int sp :: .ref s :: S) h = if zsum S ≤ 8 then zcpI h s sp d dp x (fun h => rn 19 30 [l0, l1, l2] S h) else none) ∧
  (∀ (l0 l1 l2 : Value) (S : List Value) (h : zH), rn 19 30 [l0, l1, l2] S h = ldA l1 (rn 19 31 [l0, l1, l2] (l1 :: S) h)) ∧
  (∀ (l0 l1 l2 : Value) (a : Nat) (S : List Value) (h : zH), rn 19 31 [l0, l1, l2] (.ref a :: S) h = zgf h a 10 2 fun v => rn 19 34 [l0, l1, l2] (v :: S) h) ∧
  (∀ (l0 l1 l2 : Value) (S : List Value) (h : zH), rn 19 34 [l0, l1, l2] S h = rn 19 35 [l0, l1, l2] (.int (nI 0) :: S) h) ∧
  (∀ (l1 l2 : Value) (x : Nat) (S : List Value) (h : zH), rn 19 35 [.ref x, l1, l2] S h = rn 19 36 [.ref x, l1, l2] (.ref x :: S) h) ∧
  (∀ (l0 l1 l2 : Value) (a : Nat) (S : List Value) (h : zH), rn 19 36 [l0, l1, l2] (.ref a :: S) h = zgf h a 10 2 fun v => rn 19 39 [l0, l1, l2] (v :: S) h) ∧
  (∀ (l0 l1 l2 : Value) (S : List Value) (h : zH), rn 19 39 [l0, l1, l2] S h = rn 19 40 [l0, l1, l2] (.int (nI 0) :: S) h) ∧
  (∀ (l0 l1 l2 : Value) (S : List Value) (h : zH), rn 19 40 [l0, l1, l2] S h = rn 19 42 [l0, l1, l2] (.int (nI 60) :: S) h) ∧
  (∀ (l0 l1 l2 : Value) (s : Nat) (d : Nat) (sp : Int32) (dp : Int32) (x : Int32) (S : List Value) (h : zH), rn 19 42 [l0, l1, l2] (.int x :: .int dp :: .ref d :: .int sp :: .ref s :: S) h = if zsum S ≤ 8 then zcpI h s sp d dp x (fun h => rn 19 45 [l0, l1, l2] S h) else none) ∧
  (∀ (l0 l1 l2 : Value) (S : List Value) (h : zH), rn 19 45 [l0, l1, l2] S h = rn 19 46 [l0, l1, l2] (.int (nI 0) :: S) h) ∧
  (∀ (l0 l1 l2 : Value) (x : Int32) (S : List Value) (h : zH), rn 19 46 [l0, l1, l2] (.int x :: S) h = nl l1 (rn 19 47 [l0, l1, .int x] S h)) ∧
  (∀ (l0 l1 l2 : Value) (S : List Value) (h : zH), rn 19 48 [l0, l1, l2] S h = rn 19 50 [l0, l1, l2] (.int (nI 12) :: S) h) ∧
  (∀ (l0 l1 l2 : Value) (x : Int32) (y : Int32) (S : List Value) (h : zH), rn 19 50 [l0, l1, l2] (.int y :: .int x :: S) h = if y ≤ x then rn 19 71 [l0, l1, l2] S h else rn 19 53 [l0, l1, l2] S h) ∧
  (∀ (l1 l2 : Value) (x : Nat) (S : List Value) (h : zH), rn 19 53 [.ref x, l1, l2] S h = rn 19 54 [.ref x, l1, l2] (.ref x :: S) h) ∧
  (∀ (l0 l1 l2 : Value) (a : Nat) (S : List Value) (h : zH), rn 19 54 [l0, l1, l2] (.ref a :: S) h = zgf h a 10 3 fun v => rn 19 57 [l0, l1, l2] (v :: S) h) ∧
  (∀ (l0 l1 : Value) (x : Int32) (S : List Value) (h : zH), rn 19 57 [l0, l1, .int x] S h = rn 19 58 [l0, l1, .int x] (.int x :: S) h) ∧
  (∀ (l0 l1 l2 : Value) (S : List Value) (h : zH), rn 19 58 [l0, l1, l2] S h = ldA l1 (rn 19 59 [l0, l1, l2] (l1 :: S) h)) ∧
  (∀ (l0 l1 l2 : Value) (a : Nat) (S : List Value) (h : zH), rn 19 59 [l0, l1, l2] (.ref a :: S) h = zgf h a 10 3 fun v => rn 19 62 [l0, l1, l2] (v :: S) h) ∧
  (∀ (l0 l1 : Value) (x : Int32) (S : List Value) (h : zH), rn 19 62 [l0, l1, .int x] S h = rn 19 63 [l0, l1, .int x] (.int x :: S) h) ∧
  (∀ (l0 l1 l2 : Value) (a : Nat) (j : Int32) (S : List Value) (h : zH), rn 19 63 [l0, l1, l2] (.int j :: .ref a :: S) h = zlq h a j fun x => rn 19 64 [l0, l1, l2] (va_rf x :: S) h) ∧
  (∀ (l0 l1 l2 : Value) (a : Nat) (j : Int32) (v : Value) (S : List Value) (h : zH), rn 19 64 [l0, l1, l2] (v :: .int j :: .ref a :: S) h = zsq h a j v fun h => rn 19 65 [l0, l1, l2] S h) ∧
  (∀ (l0 l1 : Value) (x : Int32) (S : List Value) (h : zH), rn 19 65 [l0, l1, .int x] S h = nl l1 (rn 19 68 [l0, l1, .int (x + (nI 1))] S h)) ∧
  (∀ (l0 l1 l2 : Value) (S : List Value) (h : zH), rn 19 68 [l0, l1, l2] S h = rn 19 47 [l0, l1, l2] S h) ∧
  (∀ (l1 l2 : Value) (x : Nat) (S : List Value) (h : zH), rn 19 71 [.ref x, l1, l2] S h = rn 19 72 [.ref x, l1, l2] (.ref x :: S) h) ∧
  (∀ (l0 l1 l2 : Value) (a : Nat) (S : List Value) (h : zH), rn 19 72 [l0, l1, l2] (.ref a :: S) h = zgf h a 10 4 fun v => rn 19 75 [l0, l1, l2] (v :: S) h) ∧
  (∀ (l0 l1 l2 : Value) (S : List Value) (h : zH), rn 19 75 [l0, l1, l2] S h = ldA l1 (rn 19 76 [l0, l1, l2] (l1 :: S) h)) ∧
  (∀ (l0 l1 l2 : Value) (a : Nat) (S : List Value) (h : zH), rn 19 76 [l0, l1, l2] (.ref a :: S) h = zgf h a 10 4 fun v => rn 19 79 [l0, l1, l2] (v :: S) h) ∧
  (∀ (l0 l1 l2 : Value) (o : Nat) (v0 : Value) (S : List Value) (h : zH), rn 19 79 [l0, l1, l2] (v0 :: .ref o :: S) h = if zkd h o = 4 ∧ zsum S ≤ 8 then zcall (ev 20 [.ref o, v0] h) (fun v h => rn 19 82 [l0, l1, l2] (zpush v S) h) else none) ∧
  (∀ (l1 l2 : Value) (x : Nat) (S : List Value) (h : zH), rn 19 82 [.ref x, l1, l2] S h = rn 19 83 [.ref x, l1, l2] (.ref x :: S) h) ∧
  (∀ (l0 l1 l2 : Value) (S : List Value) (h : zH), rn 19 83 [l0, l1, l2] S h = ldA l1 (rn 19 84 [l0, l1, l2] (l1 :: S) h)) ∧
  (∀ (l0 l1 l2 : Value) (a : Nat) (S : List Value) (h : zH), rn 19 84 [l0, l1, l2] (.ref a :: S) h = zgf h a 10 5 fun v => rn 19 87 [l0, l1, l2] (v :: S) h) ∧
  (∀ (l0 l1 l2 : Value) (a : Nat) (v : Value) (S : List Value) (h : zH), rn 19 87 [l0, l1, l2] (v :: .ref a :: S) h = zpf h a 10 5 v fun h => rn 19 90 [l0, l1, l2] S h) ∧
  (∀ (l1 l2 : Value) (x : Nat) (S : List Value) (h : zH), rn 19 90 [.ref x, l1, l2] S h = rn 19 91 [.ref x, l1, l2] (.ref x :: S) h) ∧
  (∀ (l0 l1 l2 : Value) (S : List Value) (h : zH), rn 19 91 [l0, l1, l2] S h = ldA l1 (rn 19 92 [l0, l1, l2] (l1 :: S) h)) ∧
  (∀ (l0 l1 l2 : Value) (a : Nat) (S : List Value) (h : zH), rn 19 92 [l0, l1, l2] (.ref a :: S) h = zgf h a 10 6 fun v => rn 19 95 [l0, l1, l2] (v :: S) h) ∧
  (∀ (l0 l1 l2 : Value) (a : Nat) (v : Value) (S : List Value) (h : zH), rn 19 95 [l0, l1, l2] (v :: .ref a :: S) h = zpf h a 10 6 v fun h => rn 19 98 [l0, l1, l2] S h) ∧
  (∀ (l0 l1 l2 : Value) (h : zH), rn 19 98 [l0, l1, l2] [] h = some (none, h)) := ⟨fun _ _ _ _ _ => r_aload_n (show zdec 19 0 = some (.aload_n 1, 1) by decide +kernel) rfl rfl,
  fun _ _ _ _ _ _ => r_getfield (show zdec 19 1 = some (.getfield 9, 3) by decide +kernel) (show zft.lookup (19 * zKEY + 9) = some (10, 0) by decide +kernel) rfl,
  fun _ _ _ _ _ => r_iconst (show zdec 19 4 = some (.iconst 0, 1) by decide +kernel) rfl rfl,
  fun _ _ _ _ _ => r_aload_nr (show zdec 19 5 = some (.aload_n 0, 1) by decide +kernel) rfl rfl,
  fun _ _ _ _ _ _ => r_getfield (show zdec 19 6 = some (.getfield 9, 3) by decide +kernel) (show zft.lookup (19 * zKEY + 9) = some (10, 0) by decide +kernel) rfl,
  fun _ _ _ _ _ => r_iconst (show zdec 19 9 = some (.iconst 0, 1) by decide +kernel) rfl rfl,
  fun _ _ _ _ _ => r_bipush (show zdec 19 10 = some (.bipush 36, 2) by decide +kernel) rfl rfl,
  fun _ _ _ _ _ _ _ _ _ _ => r_cA (show zdec 19 12 = some (.invokestatic 43, 3) by decide +kernel) (show zst.lookup (19 * zKEY + 43) = some (8, 0, 5, 0) by decide +kernel) rfl,
  fun _ _ _ _ _ => r_aload_n (show zdec 19 15 = some (.aload_n 1, 1) by decide +kernel) rfl rfl,
  fun _ _ _ _ _ _ => r_getfield (show zdec 19 16 = some (.getfield 15, 3) by decide +kernel) (show zft.lookup (19 * zKEY + 15) = some (10, 1) by decide +kernel) rfl,
  fun _ _ _ _ _ => r_iconst (show zdec 19 19 = some (.iconst 0, 1) by decide +kernel) rfl rfl,
  fun _ _ _ _ _ => r_aload_nr (show zdec 19 20 = some (.aload_n 0, 1) by decide +kernel) rfl rfl,
  fun _ _ _ _ _ _ => r_getfield (show zdec 19 21 = some (.getfield 15, 3) by decide +kernel) (show zft.lookup (19 * zKEY + 15) = some (10, 1) by decide +kernel) rfl,
  fun _ _ _ _ _ => r_iconst (show zdec 19 24 = some (.iconst 0, 1) by decide +kernel) rfl rfl,
  fun _ _ _ _ _ => r_bipush (show zdec 19 25 = some (.bipush 36, 2) by decide +kernel) rfl rfl,
  fun _ _ _ _ _ _ _ _ _ _ => r_cA (show zdec 19 27 = some (.invokestatic 43, 3) by decide +kernel) (show zst.lookup (19 * zKEY + 43) = some (8, 0, 5, 0) by decide +kernel) rfl,
  fun _ _ _ _ _ => r_aload_n (show zdec 19 30 = some (.aload_n 1, 1) by decide +kernel) rfl rfl,
  fun _ _ _ _ _ _ => r_getfield (show zdec 19 31 = some (.getfield 18, 3) by decide +kernel) (show zft.lookup (19 * zKEY + 18) = some (10, 2) by decide +kernel) rfl,
  fun _ _ _ _ _ => r_iconst (show zdec 19 34 = some (.iconst 0, 1) by decide +kernel) rfl rfl,
  fun _ _ _ _ _ => r_aload_nr (show zdec 19 35 = some (.aload_n 0, 1) by decide +kernel) rfl rfl,
  fun _ _ _ _ _ _ => r_getfield (show zdec 19 36 = some (.getfield 18, 3) by decide +kernel) (show zft.lookup (19 * zKEY + 18) = some (10, 2) by decide +kernel) rfl,
  fun _ _ _ _ _ => r_iconst (show zdec 19 39 = some (.iconst 0, 1) by decide +kernel) rfl rfl,
  fun _ _ _ _ _ => r_bipush (show zdec 19 40 = some (.bipush 60, 2) by decide +kernel) rfl rfl,
  fun _ _ _ _ _ _ _ _ _ _ => r_cA (show zdec 19 42 = some (.invokestatic 43, 3) by decide +kernel) (show zst.lookup (19 * zKEY + 43) = some (8, 0, 5, 0) by decide +kernel) rfl,
  fun _ _ _ _ _ => r_iconst (show zdec 19 45 = some (.iconst 0, 1) by decide +kernel) rfl rfl,
  fun _ _ _ _ _ _ => r_istore_n (show zdec 19 46 = some (.istore_n 2, 1) by decide +kernel) rfl rfl (Nat.le_of_ble_eq_true rfl) rfl rfl,
  fun _ _ _ _ _ => r_bipush (show zdec 19 48 = some (.bipush 12, 2) by decide +kernel) rfl rfl,
  fun _ _ _ _ _ _ _ => r_icmpge (show zdec 19 50 = some (.if_icmp .ge 21, 3) by decide +kernel) rfl rfl,
  fun _ _ _ _ _ => r_aload_nr (show zdec 19 53 = some (.aload_n 0, 1) by decide +kernel) rfl rfl,
  fun _ _ _ _ _ _ => r_getfield (show zdec 19 54 = some (.getfield 24, 3) by decide +kernel) (show zft.lookup (19 * zKEY + 24) = some (10, 3) by decide +kernel) rfl,
  fun _ _ _ _ _ => r_iload_n (show zdec 19 57 = some (.iload_n 2, 1) by decide +kernel) rfl rfl,
  fun _ _ _ _ _ => r_aload_n (show zdec 19 58 = some (.aload_n 1, 1) by decide +kernel) rfl rfl,
  fun _ _ _ _ _ _ => r_getfield (show zdec 19 59 = some (.getfield 24, 3) by decide +kernel) (show zft.lookup (19 * zKEY + 24) = some (10, 3) by decide +kernel) rfl,
  fun _ _ _ _ _ => r_iload_n (show zdec 19 62 = some (.iload_n 2, 1) by decide +kernel) rfl rfl,
  fun _ _ _ _ _ _ _ => r_aald (show zdec 19 63 = some (.aaload, 1) by decide +kernel) rfl,
  fun _ _ _ _ _ _ _ _ => r_aast (show zdec 19 64 = some (.aastore, 1) by decide +kernel) rfl,
  fun _ _ _ _ _ => r_iinc (show zdec 19 65 = some (.iinc 2 1, 3) by decide +kernel) rfl rfl rfl (Nat.le_of_ble_eq_true rfl) rfl rfl,
  fun _ _ _ _ _ => r_goto (show zdec 19 68 = some (.goto (-21), 3) by decide +kernel) rfl,
  fun _ _ _ _ _ => r_aload_nr (show zdec 19 71 = some (.aload_n 0, 1) by decide +kernel) rfl rfl,
  fun _ _ _ _ _ _ => r_getfield (show zdec 19 72 = some (.getfield 31, 3) by decide +kernel) (show zft.lookup (19 * zKEY + 31) = some (10, 4) by decide +kernel) rfl,
  fun _ _ _ _ _ => r_aload_n (show zdec 19 75 = some (.aload_n 1, 1) by decide +kernel) rfl rfl,
  fun _ _ _ _ _ _ => r_getfield (show zdec 19 76 = some (.getfield 31, 3) by decide +kernel) (show zft.lookup (19 * zKEY + 31) = some (10, 4) by decide +kernel) rfl,
  fun _ _ _ _ _ _ _ => r_cV [_] rfl (show zdec 19 79 = some (.invokevirtual 49, 3) by decide +kernel) (show zst.lookup (19 * zKEY + 49) = some (1, 20, 1, 4) by decide +kernel) (by decide) rfl,
  fun _ _ _ _ _ => r_aload_nr (show zdec 19 82 = some (.aload_n 0, 1) by decide +kernel) rfl rfl,
  fun _ _ _ _ _ => r_aload_n (show zdec 19 83 = some (.aload_n 1, 1) by decide +kernel) rfl rfl,
  fun _ _ _ _ _ _ => r_getfield (show zdec 19 84 = some (.getfield 35, 3) by decide +kernel) (show zft.lookup (19 * zKEY + 35) = some (10, 5) by decide +kernel) rfl,
  fun _ _ _ _ _ _ _ => r_putfield (show zdec 19 87 = some (.putfield 35, 3) by decide +kernel) (show zft.lookup (19 * zKEY + 35) = some (10, 5) by decide +kernel) (by decide +kernel) rfl,
  fun _ _ _ _ _ => r_aload_nr (show zdec 19 90 = some (.aload_n 0, 1) by decide +kernel) rfl rfl,
  fun _ _ _ _ _ => r_aload_n (show zdec 19 91 = some (.aload_n 1, 1) by decide +kernel) rfl rfl,
  fun _ _ _ _ _ _ => r_getfield (show zdec 19 92 = some (.getfield 39, 3) by decide +kernel) (show zft.lookup (19 * zKEY + 39) = some (10, 6) by decide +kernel) rfl,
  fun _ _ _ _ _ _ _ => r_putfield (show zdec 19 95 = some (.putfield 39, 3) by decide +kernel) (show zft.lookup (19 * zKEY + 39) = some (10, 6) by decide +kernel) (by decide +kernel) rfl,
  fun _ _ _ _ => r_vret (show zdec 19 98 = some (.return_, 1) by decide +kernel) (by decide +kernel)⟩
theorem zl_19_47 : ∀ (l0 l1 : Value) (x : Int32) (S : List Value) (h : zH), rn 19 47 [l0, l1, .int x] S h = rn 19 48 [l0, l1, .int x] (.int x :: S) h := fun _ _ _ _ _ => r_iload_n (show zdec 19 47 = some (.iload_n 2, 1) by decide +kernel) rfl rfl
theorem ze_19 : ∀ (a0 : Nat) (a1 : Nat) (h : zH), ev 19 [.ref a0, .ref a1] h = rn 19 0 [.ref a0, .ref a1, .float 0] [] h := fun _ _ _ => if_pos (Nat.le_of_ble_eq_true rfl)
-- PayrollRun/Garnishments.copyFrom(LPayrollRun/Garnishments;)V
theorem zr_20 : (∀ (l0 l1 : Value) (S : List Value) (h : zH), rn 20 0 [l0, l1] S h = ldA l1 (rn 20 1 [l0, l1] (l1 :: S) h)) ∧
  (∀ (l0 l1 : Value) (a : Nat) (S : List Value) (h : zH), rn 20 1 [l0, l1] (.ref a :: S) h = zgf h a 4 0 fun v => rn 20 4 [l0, l1] (v :: S) h) ∧
  (∀ (l0 l1 : Value) (S : List Value) (h : zH), rn 20 4 [l0, l1] S h = rn 20 5 [l0, l1] (.int (nI 0) :: S) h) ∧
  (∀ (l1 : Value) (x : Nat) (S : List Value) (h : zH), rn 20 5 [.ref x, l1] S h = rn 20 6 [.ref x, l1] (.ref x :: S) h) ∧
  (∀ (l0 l1 : Value) (a : Nat) (S : List Value) (h : zH), rn 20 6 [l0, l1] (.ref a :: S) h = zgf h a 4 0 fun v => rn 20 9 [l0, l1] (v :: S) h) ∧
  (∀ (l0 l1 : Value) (S : List Value) (h : zH), rn 20 9 [l0, l1] S h = rn 20 10 [l0, l1] (.int (nI 0) :: S) h) ∧
  (∀ (l0 l1 : Value) (S : List Value) (h : zH), rn 20 10 [l0, l1] S h = rn 20 11 [l0, l1] (.int (nI 3) :: S) h) ∧
  (∀ (l0 l1 : Value) (s : Nat) (d : Nat) (sp : Int32) (dp : Int32) (x : Int32) (S : List Value) (h : zH), rn 20 11 [l0, l1] (.int x :: .int dp :: .ref d :: .int sp :: .ref s :: S) h = if zsum S ≤ 8 then zcpI h s sp d dp x (fun h => rn 20 14 [l0, l1] S h) else none) ∧
  (∀ (l0 l1 : Value) (S : List Value) (h : zH), rn 20 14 [l0, l1] S h = ldA l1 (rn 20 15 [l0, l1] (l1 :: S) h)) ∧
  (∀ (l0 l1 : Value) (a : Nat) (S : List Value) (h : zH), rn 20 15 [l0, l1] (.ref a :: S) h = zgf h a 4 1 fun v => rn 20 18 [l0, l1] (v :: S) h) ∧
  (∀ (l0 l1 : Value) (S : List Value) (h : zH), rn 20 18 [l0, l1] S h = rn 20 19 [l0, l1] (.int (nI 0) :: S) h) ∧
  (∀ (l1 : Value) (x : Nat) (S : List Value) (h : zH), rn 20 19 [.ref x, l1] S h = rn 20 20 [.ref x, l1] (.ref x :: S) h) ∧
  (∀ (l0 l1 : Value) (a : Nat) (S : List Value) (h : zH), rn 20 20 [l0, l1] (.ref a :: S) h = zgf h a 4 1 fun v => rn 20 23 [l0, l1] (v :: S) h) ∧
  (∀ (l0 l1 : Value) (S : List Value) (h : zH), rn 20 23 [l0, l1] S h = rn 20 24 [l0, l1] (.int (nI 0) :: S) h) ∧
  (∀ (l0 l1 : Value) (S : List Value) (h : zH), rn 20 24 [l0, l1] S h = rn 20 25 [l0, l1] (.int (nI 3) :: S) h) ∧
  (∀ (l0 l1 : Value) (s : Nat) (d : Nat) (sp : Int32) (dp : Int32) (x : Int32) (S : List Value) (h : zH), rn 20 25 [l0, l1] (.int x :: .int dp :: .ref d :: .int sp :: .ref s :: S) h = if zsum S ≤ 8 then zcpI h s sp d dp x (fun h => rn 20 28 [l0, l1] S h) else none) ∧
  (∀ (l0 l1 : Value) (S : List Value) (h : zH), rn 20 28 [l0, l1] S h = ldA l1 (rn 20 29 [l0, l1] (l1 :: S) h)) ∧
  (∀ (l0 l1 : Value) (a : Nat) (S : List Value) (h : zH), rn 20 29 [l0, l1] (.ref a :: S) h = zgf h a 4 2 fun v => rn 20 32 [l0, l1] (v :: S) h) ∧
  (∀ (l0 l1 : Value) (S : List Value) (h : zH), rn 20 32 [l0, l1] S h = rn 20 33 [l0, l1] (.int (nI 0) :: S) h) ∧
  (∀ (l1 : Value) (x : Nat) (S : List Value) (h : zH), rn 20 33 [.ref x, l1] S h = rn 20 34 [.ref x, l1] (.ref x :: S) h) ∧
  (∀ (l0 l1 : Value) (a : Nat) (S : List Value) (h : zH), rn 20 34 [l0, l1] (.ref a :: S) h = zgf h a 4 2 fun v => rn 20 37 [l0, l1] (v :: S) h) ∧
  (∀ (l0 l1 : Value) (S : List Value) (h : zH), rn 20 37 [l0, l1] S h = rn 20 38 [l0, l1] (.int (nI 0) :: S) h) ∧
  (∀ (l0 l1 : Value) (S : List Value) (h : zH), rn 20 38 [l0, l1] S h = rn 20 39 [l0, l1] (.int (nI 3) :: S) h) ∧
  (∀ (l0 l1 : Value) (s : Nat) (d : Nat) (sp : Int32) (dp : Int32) (x : Int32) (S : List Value) (h : zH), rn 20 39 [l0, l1] (.int x :: .int dp :: .ref d :: .int sp :: .ref s :: S) h = if zsum S ≤ 8 then zcpI h s sp d dp x (fun h => rn 20 42 [l0, l1] S h) else none) ∧
  (∀ (l0 l1 : Value) (S : List Value) (h : zH), rn 20 42 [l0, l1] S h = ldA l1 (rn 20 43 [l0, l1] (l1 :: S) h)) ∧
  (∀ (l0 l1 : Value) (a : Nat) (S : List Value) (h : zH), rn 20 43 [l0, l1] (.ref a :: S) h = zgf h a 4 3 fun v => rn 20 46 [l0, l1] (v :: S) h) ∧
  (∀ (l0 l1 : Value) (S : List Value) (h : zH), rn 20 46 [l0, l1] S h = rn 20 47 [l0, l1] (.int (nI 0) :: S) h) ∧
  (∀ (l1 : Value) (x : Nat) (S : List Value) (h : zH), rn 20 47 [.ref x, l1] S h = rn 20 48 [.ref x, l1] (.ref x :: S) h) ∧
  (∀ (l0 l1 : Value) (a : Nat) (S : List Value) (h : zH), rn 20 48 [l0, l1] (.ref a :: S) h = zgf h a 4 3 fun v => rn 20 51 [l0, l1] (v :: S) h) ∧
  (∀ (l0 l1 : Value) (S : List Value) (h : zH), rn 20 51 [l0, l1] S h = rn 20 52 [l0, l1] (.int (nI 0) :: S) h) ∧
  (∀ (l0 l1 : Value) (S : List Value) (h : zH), rn 20 52 [l0, l1] S h = rn 20 53 [l0, l1] (.int (nI 3) :: S) h) ∧
  (∀ (l0 l1 : Value) (s : Nat) (d : Nat) (sp : Int32) (dp : Int32) (x : Int32) (S : List Value) (h : zH), rn 20 53 [l0, l1] (.int x :: .int dp :: .ref d :: .int sp :: .ref s :: S) h = if zsum S ≤ 8 then zcpI h s sp d dp x (fun h => rn 20 56 [l0, l1] S h) else none) ∧
  (∀ (l1 : Value) (x : Nat) (S : List Value) (h : zH), rn 20 56 [.ref x, l1] S h = rn 20 57 [.ref x, l1] (.ref x :: S) h) ∧
  (∀ (l0 l1 : Value) (S : List Value) (h : zH), rn 20 57 [l0, l1] S h = ldA l1 (rn 20 58 [l0, l1] (l1 :: S) h)) ∧
  (∀ (l0 l1 : Value) (a : Nat) (S : List Value) (h : zH), rn 20 58 [l0, l1] (.ref a :: S) h = zgf h a 4 4 fun v => rn 20 61 [l0, l1] (v :: S) h) ∧
  (∀ (l0 l1 : Value) (a : Nat) (v : Value) (S : List Value) (h : zH), rn 20 61 [l0, l1] (v :: .ref a :: S) h = zpf h a 4 4 v fun h => rn 20 64 [l0, l1] S h) ∧
  (∀ (l0 l1 : Value) (h : zH), rn 20 64 [l0, l1] [] h = some (none, h)) := ⟨fun _ _ _ _ => r_aload_n (show zdec 20 0 = some (.aload_n 1, 1) by decide +kernel) rfl rfl,
  fun _ _ _ _ _ => r_getfield (show zdec 20 1 = some (.getfield 9, 3) by decide +kernel) (show zft.lookup (20 * zKEY + 9) = some (4, 0) by decide +kernel) rfl,
  fun _ _ _ _ => r_iconst (show zdec 20 4 = some (.iconst 0, 1) by decide +kernel) rfl rfl,
  fun _ _ _ _ => r_aload_nr (show zdec 20 5 = some (.aload_n 0, 1) by decide +kernel) rfl rfl,
  fun _ _ _ _ _ => r_getfield (show zdec 20 6 = some (.getfield 9, 3) by decide +kernel) (show zft.lookup (20 * zKEY + 9) = some (4, 0) by decide +kernel) rfl,
  fun _ _ _ _ => r_iconst (show zdec 20 9 = some (.iconst 0, 1) by decide +kernel) rfl rfl,
  fun _ _ _ _ => r_iconst (show zdec 20 10 = some (.iconst 3, 1) by decide +kernel) rfl rfl,
  fun _ _ _ _ _ _ _ _ _ => r_cA (show zdec 20 11 = some (.invokestatic 29, 3) by decide +kernel) (show zst.lookup (20 * zKEY + 29) = some (8, 0, 5, 0) by decide +kernel) rfl,
  fun _ _ _ _ => r_aload_n (show zdec 20 14 = some (.aload_n 1, 1) by decide +kernel) rfl rfl,
  fun _ _ _ _ _ => r_getfield (show zdec 20 15 = some (.getfield 15, 3) by decide +kernel) (show zft.lookup (20 * zKEY + 15) = some (4, 1) by decide +kernel) rfl,
  fun _ _ _ _ => r_iconst (show zdec 20 18 = some (.iconst 0, 1) by decide +kernel) rfl rfl,
  fun _ _ _ _ => r_aload_nr (show zdec 20 19 = some (.aload_n 0, 1) by decide +kernel) rfl rfl,
  fun _ _ _ _ _ => r_getfield (show zdec 20 20 = some (.getfield 15, 3) by decide +kernel) (show zft.lookup (20 * zKEY + 15) = some (4, 1) by decide +kernel) rfl,
  fun _ _ _ _ => r_iconst (show zdec 20 23 = some (.iconst 0, 1) by decide +kernel) rfl rfl,
  fun _ _ _ _ => r_iconst (show zdec 20 24 = some (.iconst 3, 1) by decide +kernel) rfl rfl,
  fun _ _ _ _ _ _ _ _ _ => r_cA (show zdec 20 25 = some (.invokestatic 29, 3) by decide +kernel) (show zst.lookup (20 * zKEY + 29) = some (8, 0, 5, 0) by decide +kernel) rfl,
  fun _ _ _ _ => r_aload_n (show zdec 20 28 = some (.aload_n 1, 1) by decide +kernel) rfl rfl,
  fun _ _ _ _ _ => r_getfield (show zdec 20 29 = some (.getfield 18, 3) by decide +kernel) (show zft.lookup (20 * zKEY + 18) = some (4, 2) by decide +kernel) rfl,
  fun _ _ _ _ => r_iconst (show zdec 20 32 = some (.iconst 0, 1) by decide +kernel) rfl rfl,
  fun _ _ _ _ => r_aload_nr (show zdec 20 33 = some (.aload_n 0, 1) by decide +kernel) rfl rfl,
  fun _ _ _ _ _ => r_getfield (show zdec 20 34 = some (.getfield 18, 3) by decide +kernel) (show zft.lookup (20 * zKEY + 18) = some (4, 2) by decide +kernel) rfl,
  fun _ _ _ _ => r_iconst (show zdec 20 37 = some (.iconst 0, 1) by decide +kernel) rfl rfl,
  fun _ _ _ _ => r_iconst (show zdec 20 38 = some (.iconst 3, 1) by decide +kernel) rfl rfl,
  fun _ _ _ _ _ _ _ _ _ => r_cA (show zdec 20 39 = some (.invokestatic 29, 3) by decide +kernel) (show zst.lookup (20 * zKEY + 29) = some (8, 0, 5, 0) by decide +kernel) rfl,
  fun _ _ _ _ => r_aload_n (show zdec 20 42 = some (.aload_n 1, 1) by decide +kernel) rfl rfl,
  fun _ _ _ _ _ => r_getfield (show zdec 20 43 = some (.getfield 21, 3) by decide +kernel) (show zft.lookup (20 * zKEY + 21) = some (4, 3) by decide +kernel) rfl,
  fun _ _ _ _ => r_iconst (show zdec 20 46 = some (.iconst 0, 1) by decide +kernel) rfl rfl,
  fun _ _ _ _ => r_aload_nr (show zdec 20 47 = some (.aload_n 0, 1) by decide +kernel) rfl rfl,
  fun _ _ _ _ _ => r_getfield (show zdec 20 48 = some (.getfield 21, 3) by decide +kernel) (show zft.lookup (20 * zKEY + 21) = some (4, 3) by decide +kernel) rfl,
  fun _ _ _ _ => r_iconst (show zdec 20 51 = some (.iconst 0, 1) by decide +kernel) rfl rfl,
  fun _ _ _ _ => r_iconst (show zdec 20 52 = some (.iconst 3, 1) by decide +kernel) rfl rfl,
  fun _ _ _ _ _ _ _ _ _ => r_cA (show zdec 20 53 = some (.invokestatic 29, 3) by decide +kernel) (show zst.lookup (20 * zKEY + 29) = some (8, 0, 5, 0) by decide +kernel) rfl,
  fun _ _ _ _ => r_aload_nr (show zdec 20 56 = some (.aload_n 0, 1) by decide +kernel) rfl rfl,
  fun _ _ _ _ => r_aload_n (show zdec 20 57 = some (.aload_n 1, 1) by decide +kernel) rfl rfl,
  fun _ _ _ _ _ => r_getfield (show zdec 20 58 = some (.getfield 25, 3) by decide +kernel) (show zft.lookup (20 * zKEY + 25) = some (4, 4) by decide +kernel) rfl,
  fun _ _ _ _ _ _ => r_putfield (show zdec 20 61 = some (.putfield 25, 3) by decide +kernel) (show zft.lookup (20 * zKEY + 25) = some (4, 4) by decide +kernel) (by decide +kernel) rfl,
  fun _ _ _ => r_vret (show zdec 20 64 = some (.return_, 1) by decide +kernel) (by decide +kernel)⟩
theorem ze_20 : ∀ (a0 : Nat) (a1 : Nat) (h : zH), ev 20 [.ref a0, .ref a1] h = rn 20 0 [.ref a0, .ref a1] [] h := fun _ _ _ => if_pos (Nat.le_of_ble_eq_true rfl)
-- PayrollRun/Rules.copyFrom(LPayrollRun/Rules;)V
theorem zr_21 : (∀ (l0 l1 : Value) (S : List Value) (h : zH), rn 21 0 [l0, l1] S h = ldA l1 (rn 21 1 [l0, l1] (l1 :: S) h)) ∧
  (∀ (l0 l1 : Value) (a : Nat) (S : List Value) (h : zH), rn 21 1 [l0, l1] (.ref a :: S) h = zgf h a 6 0 fun v => rn 21 4 [l0, l1] (v :: S) h) ∧
  (∀ (l0 l1 : Value) (S : List Value) (h : zH), rn 21 4 [l0, l1] S h = rn 21 5 [l0, l1] (.int (nI 0) :: S) h) ∧
  (∀ (l1 : Value) (x : Nat) (S : List Value) (h : zH), rn 21 5 [.ref x, l1] S h = rn 21 6 [.ref x, l1] (.ref x :: S) h) ∧
  (∀ (l0 l1 : Value) (a : Nat) (S : List Value) (h : zH), rn 21 6 [l0, l1] (.ref a :: S) h = zgf h a 6 0 fun v => rn 21 9 [l0, l1] (v :: S) h) ∧
  (∀ (l0 l1 : Value) (S : List Value) (h : zH), rn 21 9 [l0, l1] S h = rn 21 10 [l0, l1] (.int (nI 0) :: S) h) ∧
  (∀ (l0 l1 : Value) (S : List Value) (h : zH), rn 21 10 [l0, l1] S h = rn 21 11 [l0, l1] (.int (nI 2) :: S) h) ∧
  (∀ (l0 l1 : Value) (s : Nat) (d : Nat) (sp : Int32) (dp : Int32) (x : Int32) (S : List Value) (h : zH), rn 21 11 [l0, l1] (.int x :: .int dp :: .ref d :: .int sp :: .ref s :: S) h = if zsum S ≤ 8 then zcpI h s sp d dp x (fun h => rn 21 14 [l0, l1] S h) else none) ∧
  (∀ (l0 l1 : Value) (S : List Value) (h : zH), rn 21 14 [l0, l1] S h = ldA l1 (rn 21 15 [l0, l1] (l1 :: S) h)) ∧
  (∀ (l0 l1 : Value) (a : Nat) (S : List Value) (h : zH), rn 21 15 [l0, l1] (.ref a :: S) h = zgf h a 6 1 fun v => rn 21 18 [l0, l1] (v :: S) h) ∧
  (∀ (l0 l1 : Value) (S : List Value) (h : zH), rn 21 18 [l0, l1] S h = rn 21 19 [l0, l1] (.int (nI 0) :: S) h) ∧
  (∀ (l1 : Value) (x : Nat) (S : List Value) (h : zH), rn 21 19 [.ref x, l1] S h = rn 21 20 [.ref x, l1] (.ref x :: S) h) ∧
  (∀ (l0 l1 : Value) (a : Nat) (S : List Value) (h : zH), rn 21 20 [l0, l1] (.ref a :: S) h = zgf h a 6 1 fun v => rn 21 23 [l0, l1] (v :: S) h) ∧
  (∀ (l0 l1 : Value) (S : List Value) (h : zH), rn 21 23 [l0, l1] S h = rn 21 24 [l0, l1] (.int (nI 0) :: S) h) ∧
  (∀ (l0 l1 : Value) (S : List Value) (h : zH), rn 21 24 [l0, l1] S h = rn 21 25 [l0, l1] (.int (nI 2) :: S) h) ∧
  (∀ (l0 l1 : Value) (s : Nat) (d : Nat) (sp : Int32) (dp : Int32) (x : Int32) (S : List Value) (h : zH), rn 21 25 [l0, l1] (.int x :: .int dp :: .ref d :: .int sp :: .ref s :: S) h = if zsum S ≤ 8 then zcpI h s sp d dp x (fun h => rn 21 28 [l0, l1] S h) else none) ∧
  (∀ (l0 l1 : Value) (S : List Value) (h : zH), rn 21 28 [l0, l1] S h = ldA l1 (rn 21 29 [l0, l1] (l1 :: S) h)) ∧
  (∀ (l0 l1 : Value) (a : Nat) (S : List Value) (h : zH), rn 21 29 [l0, l1] (.ref a :: S) h = zgf h a 6 2 fun v => rn 21 32 [l0, l1] (v :: S) h) ∧
  (∀ (l0 l1 : Value) (S : List Value) (h : zH), rn 21 32 [l0, l1] S h = rn 21 33 [l0, l1] (.int (nI 0) :: S) h) ∧
  (∀ (l1 : Value) (x : Nat) (S : List Value) (h : zH), rn 21 33 [.ref x, l1] S h = rn 21 34 [.ref x, l1] (.ref x :: S) h) ∧
  (∀ (l0 l1 : Value) (a : Nat) (S : List Value) (h : zH), rn 21 34 [l0, l1] (.ref a :: S) h = zgf h a 6 2 fun v => rn 21 37 [l0, l1] (v :: S) h) ∧
  (∀ (l0 l1 : Value) (S : List Value) (h : zH), rn 21 37 [l0, l1] S h = rn 21 38 [l0, l1] (.int (nI 0) :: S) h) ∧
  (∀ (l0 l1 : Value) (S : List Value) (h : zH), rn 21 38 [l0, l1] S h = rn 21 39 [l0, l1] (.int (nI 5) :: S) h) ∧
  (∀ (l0 l1 : Value) (s : Nat) (d : Nat) (sp : Int32) (dp : Int32) (x : Int32) (S : List Value) (h : zH), rn 21 39 [l0, l1] (.int x :: .int dp :: .ref d :: .int sp :: .ref s :: S) h = if zsum S ≤ 8 then zcpI h s sp d dp x (fun h => rn 21 42 [l0, l1] S h) else none) ∧
  (∀ (l0 l1 : Value) (S : List Value) (h : zH), rn 21 42 [l0, l1] S h = ldA l1 (rn 21 43 [l0, l1] (l1 :: S) h)) ∧
  (∀ (l0 l1 : Value) (a : Nat) (S : List Value) (h : zH), rn 21 43 [l0, l1] (.ref a :: S) h = zgf h a 6 3 fun v => rn 21 46 [l0, l1] (v :: S) h) ∧
  (∀ (l0 l1 : Value) (S : List Value) (h : zH), rn 21 46 [l0, l1] S h = rn 21 47 [l0, l1] (.int (nI 0) :: S) h) ∧
  (∀ (l1 : Value) (x : Nat) (S : List Value) (h : zH), rn 21 47 [.ref x, l1] S h = rn 21 48 [.ref x, l1] (.ref x :: S) h) ∧
  (∀ (l0 l1 : Value) (a : Nat) (S : List Value) (h : zH), rn 21 48 [l0, l1] (.ref a :: S) h = zgf h a 6 3 fun v => rn 21 51 [l0, l1] (v :: S) h) ∧
  (∀ (l0 l1 : Value) (S : List Value) (h : zH), rn 21 51 [l0, l1] S h = rn 21 52 [l0, l1] (.int (nI 0) :: S) h) ∧
  (∀ (l0 l1 : Value) (S : List Value) (h : zH), rn 21 52 [l0, l1] S h = rn 21 53 [l0, l1] (.int (nI 5) :: S) h) ∧
  (∀ (l0 l1 : Value) (s : Nat) (d : Nat) (sp : Int32) (dp : Int32) (x : Int32) (S : List Value) (h : zH), rn 21 53 [l0, l1] (.int x :: .int dp :: .ref d :: .int sp :: .ref s :: S) h = if zsum S ≤ 8 then zcpI h s sp d dp x (fun h => rn 21 56 [l0, l1] S h) else none) ∧
  (∀ (l1 : Value) (x : Nat) (S : List Value) (h : zH), rn 21 56 [.ref x, l1] S h = rn 21 57 [.ref x, l1] (.ref x :: S) h) ∧
  (∀ (l0 l1 : Value) (S : List Value) (h : zH), rn 21 57 [l0, l1] S h = ldA l1 (rn 21 58 [l0, l1] (l1 :: S) h)) ∧
  (∀ (l0 l1 : Value) (a : Nat) (S : List Value) (h : zH), rn 21 58 [l0, l1] (.ref a :: S) h = zgf h a 6 4 fun v => rn 21 61 [l0, l1] (v :: S) h) ∧
  (∀ (l0 l1 : Value) (a : Nat) (v : Value) (S : List Value) (h : zH), rn 21 61 [l0, l1] (v :: .ref a :: S) h = zpf h a 6 4 v fun h => rn 21 64 [l0, l1] S h) ∧
  (∀ (l0 l1 : Value) (h : zH), rn 21 64 [l0, l1] [] h = some (none, h)) := ⟨fun _ _ _ _ => r_aload_n (show zdec 21 0 = some (.aload_n 1, 1) by decide +kernel) rfl rfl,
  fun _ _ _ _ _ => r_getfield (show zdec 21 1 = some (.getfield 9, 3) by decide +kernel) (show zft.lookup (21 * zKEY + 9) = some (6, 0) by decide +kernel) rfl,
  fun _ _ _ _ => r_iconst (show zdec 21 4 = some (.iconst 0, 1) by decide +kernel) rfl rfl,
  fun _ _ _ _ => r_aload_nr (show zdec 21 5 = some (.aload_n 0, 1) by decide +kernel) rfl rfl,
  fun _ _ _ _ _ => r_getfield (show zdec 21 6 = some (.getfield 9, 3) by decide +kernel) (show zft.lookup (21 * zKEY + 9) = some (6, 0) by decide +kernel) rfl,
  fun _ _ _ _ => r_iconst (show zdec 21 9 = some (.iconst 0, 1) by decide +kernel) rfl rfl,
  fun _ _ _ _ => r_iconst (show zdec 21 10 = some (.iconst 2, 1) by decide +kernel) rfl rfl,
  fun _ _ _ _ _ _ _ _ _ => r_cA (show zdec 21 11 = some (.invokestatic 29, 3) by decide +kernel) (show zst.lookup (21 * zKEY + 29) = some (8, 0, 5, 0) by decide +kernel) rfl,
  fun _ _ _ _ => r_aload_n (show zdec 21 14 = some (.aload_n 1, 1) by decide +kernel) rfl rfl,
  fun _ _ _ _ _ => r_getfield (show zdec 21 15 = some (.getfield 16, 3) by decide +kernel) (show zft.lookup (21 * zKEY + 16) = some (6, 1) by decide +kernel) rfl,
  fun _ _ _ _ => r_iconst (show zdec 21 18 = some (.iconst 0, 1) by decide +kernel) rfl rfl,
  fun _ _ _ _ => r_aload_nr (show zdec 21 19 = some (.aload_n 0, 1) by decide +kernel) rfl rfl,
  fun _ _ _ _ _ => r_getfield (show zdec 21 20 = some (.getfield 16, 3) by decide +kernel) (show zft.lookup (21 * zKEY + 16) = some (6, 1) by decide +kernel) rfl,
  fun _ _ _ _ => r_iconst (show zdec 21 23 = some (.iconst 0, 1) by decide +kernel) rfl rfl,
  fun _ _ _ _ => r_iconst (show zdec 21 24 = some (.iconst 2, 1) by decide +kernel) rfl rfl,
  fun _ _ _ _ _ _ _ _ _ => r_cA (show zdec 21 25 = some (.invokestatic 29, 3) by decide +kernel) (show zst.lookup (21 * zKEY + 29) = some (8, 0, 5, 0) by decide +kernel) rfl,
  fun _ _ _ _ => r_aload_n (show zdec 21 28 = some (.aload_n 1, 1) by decide +kernel) rfl rfl,
  fun _ _ _ _ _ => r_getfield (show zdec 21 29 = some (.getfield 19, 3) by decide +kernel) (show zft.lookup (21 * zKEY + 19) = some (6, 2) by decide +kernel) rfl,
  fun _ _ _ _ => r_iconst (show zdec 21 32 = some (.iconst 0, 1) by decide +kernel) rfl rfl,
  fun _ _ _ _ => r_aload_nr (show zdec 21 33 = some (.aload_n 0, 1) by decide +kernel) rfl rfl,
  fun _ _ _ _ _ => r_getfield (show zdec 21 34 = some (.getfield 19, 3) by decide +kernel) (show zft.lookup (21 * zKEY + 19) = some (6, 2) by decide +kernel) rfl,
  fun _ _ _ _ => r_iconst (show zdec 21 37 = some (.iconst 0, 1) by decide +kernel) rfl rfl,
  fun _ _ _ _ => r_iconst (show zdec 21 38 = some (.iconst 5, 1) by decide +kernel) rfl rfl,
  fun _ _ _ _ _ _ _ _ _ => r_cA (show zdec 21 39 = some (.invokestatic 29, 3) by decide +kernel) (show zst.lookup (21 * zKEY + 29) = some (8, 0, 5, 0) by decide +kernel) rfl,
  fun _ _ _ _ => r_aload_n (show zdec 21 42 = some (.aload_n 1, 1) by decide +kernel) rfl rfl,
  fun _ _ _ _ _ => r_getfield (show zdec 21 43 = some (.getfield 22, 3) by decide +kernel) (show zft.lookup (21 * zKEY + 22) = some (6, 3) by decide +kernel) rfl,
  fun _ _ _ _ => r_iconst (show zdec 21 46 = some (.iconst 0, 1) by decide +kernel) rfl rfl,
  fun _ _ _ _ => r_aload_nr (show zdec 21 47 = some (.aload_n 0, 1) by decide +kernel) rfl rfl,
  fun _ _ _ _ _ => r_getfield (show zdec 21 48 = some (.getfield 22, 3) by decide +kernel) (show zft.lookup (21 * zKEY + 22) = some (6, 3) by decide +kernel) rfl,
  fun _ _ _ _ => r_iconst (show zdec 21 51 = some (.iconst 0, 1) by decide +kernel) rfl rfl,
  fun _ _ _ _ => r_iconst (show zdec 21 52 = some (.iconst 5, 1) by decide +kernel) rfl rfl,
  fun _ _ _ _ _ _ _ _ _ => r_cA (show zdec 21 53 = some (.invokestatic 29, 3) by decide +kernel) (show zst.lookup (21 * zKEY + 29) = some (8, 0, 5, 0) by decide +kernel) rfl,
  fun _ _ _ _ => r_aload_nr (show zdec 21 56 = some (.aload_n 0, 1) by decide +kernel) rfl rfl,
  fun _ _ _ _ => r_aload_n (show zdec 21 57 = some (.aload_n 1, 1) by decide +kernel) rfl rfl,
  fun _ _ _ _ _ => r_getfield (show zdec 21 58 = some (.getfield 25, 3) by decide +kernel) (show zft.lookup (21 * zKEY + 25) = some (6, 4) by decide +kernel) rfl,
  fun _ _ _ _ _ _ => r_putfield (show zdec 21 61 = some (.putfield 25, 3) by decide +kernel) (show zft.lookup (21 * zKEY + 25) = some (6, 4) by decide +kernel) (by decide +kernel) rfl,
  fun _ _ _ => r_vret (show zdec 21 64 = some (.return_, 1) by decide +kernel) (by decide +kernel)⟩
theorem ze_21 : ∀ (a0 : Nat) (a1 : Nat) (h : zH), ev 21 [.ref a0, .ref a1] h = rn 21 0 [.ref a0, .ref a1] [] h := fun _ _ _ => if_pos (Nat.le_of_ble_eq_true rfl)
-- PayrollRun/History.commit()V
theorem zr_27 : (∀ (x : Nat) (S : List Value) (h : zH), rn 27 0 [.ref x] S h = rn 27 1 [.ref x] (.ref x :: S) h) ∧
  (∀ (x : Nat) (S : List Value) (h : zH), rn 27 1 [.ref x] S h = rn 27 2 [.ref x] (.ref x :: S) h) ∧
  (∀ (l0 : Value) (a : Nat) (S : List Value) (h : zH), rn 27 2 [l0] (.ref a :: S) h = zgf h a 5 1 fun v => rn 27 5 [l0] (v :: S) h) ∧
  (∀ (l0 : Value) (S : List Value) (h : zH), rn 27 5 [l0] S h = rn 27 6 [l0] (.int (nI 1) :: S) h) ∧
  (∀ (l0 : Value) (x : Int32) (y : Int32) (S : List Value) (h : zH), rn 27 6 [l0] (.int y :: .int x :: S) h = rn 27 7 [l0] (.int (x + y) :: S) h) ∧
  (∀ (l0 : Value) (S : List Value) (h : zH), rn 27 7 [l0] S h = rn 27 9 [l0] (.int (nI 7) :: S) h) ∧
  (∀ (l0 : Value) (x : Int32) (y : Int32) (S : List Value) (h : zH), rn 27 9 [l0] (.int y :: .int x :: S) h = dvI y (rn 27 10 [l0] (.int (x - x / y * y) :: S) h)) ∧
  (∀ (l0 : Value) (a : Nat) (v : Value) (S : List Value) (h : zH), rn 27 10 [l0] (v :: .ref a :: S) h = zpf h a 5 1 v fun h => rn 27 13 [l0] S h) ∧
  (∀ (x : Nat) (S : List Value) (h : zH), rn 27 13 [.ref x] S h = rn 27 14 [.ref x] (.ref x :: S) h) ∧
  (∀ (x : Nat) (S : List Value) (h : zH), rn 27 14 [.ref x] S h = rn 27 15 [.ref x] (.ref x :: S) h) ∧
  (∀ (l0 : Value) (a : Nat) (S : List Value) (h : zH), rn 27 15 [l0] (.ref a :: S) h = zgf h a 5 2 fun v => rn 27 18 [l0] (v :: S) h) ∧
  (∀ (l0 : Value) (S : List Value) (h : zH), rn 27 18 [l0] S h = rn 27 19 [l0] (.int (nI 1) :: S) h) ∧
  (∀ (l0 : Value) (x : Int32) (y : Int32) (S : List Value) (h : zH), rn 27 19 [l0] (.int y :: .int x :: S) h = rn 27 20 [l0] (.int (x + y) :: S) h) ∧
  (∀ (l0 : Value) (S : List Value) (h : zH), rn 27 20 [l0] S h = rn 27 22 [l0] (.int (nI 6) :: S) h) ∧
  (∀ (l0 : Value) (x : Int32) (y : Int32) (S : List Value) (h : zH), rn 27 22 [l0] (.int y :: .int x :: S) h = if zsum S ≤ 8 then rn 27 25 [l0] (.int (if y < x then y else x) :: S) h else none) ∧
  (∀ (l0 : Value) (a : Nat) (v : Value) (S : List Value) (h : zH), rn 27 25 [l0] (v :: .ref a :: S) h = zpf h a 5 2 v fun h => rn 27 28 [l0] S h) ∧
  (∀ (l0 : Value) (h : zH), rn 27 28 [l0] [] h = some (none, h)) := ⟨fun _ _ _ => r_aload_nr (show zdec 27 0 = some (.aload_n 0, 1) by decide +kernel) rfl rfl,
  fun _ _ _ => r_aload_nr (show zdec 27 1 = some (.aload_n 0, 1) by decide +kernel) rfl rfl,
  fun _ _ _ _ => r_getfield (show zdec 27 2 = some (.getfield 17, 3) by decide +kernel) (show zft.lookup (27 * zKEY + 17) = some (5, 1) by decide +kernel) rfl,
  fun _ _ _ => r_iconst (show zdec 27 5 = some (.iconst 1, 1) by decide +kernel) rfl rfl,
  fun _ _ _ _ _ => r_iadd (show zdec 27 6 = some (.iadd, 1) by decide +kernel) rfl,
  fun _ _ _ => r_bipush (show zdec 27 7 = some (.bipush 7, 2) by decide +kernel) rfl rfl,
  fun _ _ _ _ _ => r_irem (show zdec 27 9 = some (.irem, 1) by decide +kernel) rfl,
  fun _ _ _ _ _ => r_putfield (show zdec 27 10 = some (.putfield 17, 3) by decide +kernel) (show zft.lookup (27 * zKEY + 17) = some (5, 1) by decide +kernel) (by decide +kernel) rfl,
  fun _ _ _ => r_aload_nr (show zdec 27 13 = some (.aload_n 0, 1) by decide +kernel) rfl rfl,
  fun _ _ _ => r_aload_nr (show zdec 27 14 = some (.aload_n 0, 1) by decide +kernel) rfl rfl,
  fun _ _ _ _ => r_getfield (show zdec 27 15 = some (.getfield 21, 3) by decide +kernel) (show zft.lookup (27 * zKEY + 21) = some (5, 2) by decide +kernel) rfl,
  fun _ _ _ => r_iconst (show zdec 27 18 = some (.iconst 1, 1) by decide +kernel) rfl rfl,
  fun _ _ _ _ _ => r_iadd (show zdec 27 19 = some (.iadd, 1) by decide +kernel) rfl,
  fun _ _ _ => r_bipush (show zdec 27 20 = some (.bipush 6, 2) by decide +kernel) rfl rfl,
  fun _ _ _ _ _ => r_cM1 (show zdec 27 22 = some (.invokestatic 29, 3) by decide +kernel) (show zst.lookup (27 * zKEY + 29) = some (9, 28, 2, 1) by decide +kernel) rfl,
  fun _ _ _ _ _ => r_putfield (show zdec 27 25 = some (.putfield 21, 3) by decide +kernel) (show zft.lookup (27 * zKEY + 21) = some (5, 2) by decide +kernel) (by decide +kernel) rfl,
  fun _ _ => r_vret (show zdec 27 28 = some (.return_, 1) by decide +kernel) (by decide +kernel)⟩
theorem ze_27 : ∀ (a0 : Nat) (h : zH), ev 27 [.ref a0] h = rn 27 0 [.ref a0] [] h := fun _ _ => if_pos (Nat.le_of_ble_eq_true rfl)
-- PayrollRun/Rules.leastThreshold()I
theorem zr_41 : (∀ (x : Nat) (S : List Value) (h : zH), rn 41 0 [.ref x] S h = rn 41 1 [.ref x] (.ref x :: S) h) ∧
  (∀ (l0 : Value) (a : Nat) (S : List Value) (h : zH), rn 41 1 [l0] (.ref a :: S) h = zgf h a 6 4 fun v => rn 41 4 [l0] (v :: S) h) ∧
  (∀ (l0 : Value) (S : List Value) (h : zH), rn 41 4 [l0] S h = rn 41 5 [l0] (.int (nI 1) :: S) h) ∧
  (∀ (l0 : Value) (S : List Value) (h : zH), rn 41 5 [l0] S h = rn 41 6 [l0] (.int (nI 5) :: S) h) ∧
  (∀ (l0 : Value) (v0 : Value) (v1 : Value) (v2 : Value) (S : List Value) (h : zH), rn 41 6 [l0] (v2 :: v1 :: v0 :: S) h = if zsum S ≤ 8 then zcall (ev 24 [v0, v1, v2] h) (fun v h => rn 41 9 [l0] (zpush v S) h) else none) ∧
  (∀ (l0 : Value) (x : Int32) (S : List Value) (h : zH), rn 41 9 [l0] (.int x :: S) h = if x = nI 0 then rn 41 28 [l0] S h else rn 41 12 [l0] S h) ∧
  (∀ (x : Nat) (S : List Value) (h : zH), rn 41 12 [.ref x] S h = rn 41 13 [.ref x] (.ref x :: S) h) ∧
  (∀ (l0 : Value) (a : Nat) (S : List Value) (h : zH), rn 41 13 [l0] (.ref a :: S) h = zgf h a 6 2 fun v => rn 41 16 [l0] (v :: S) h) ∧
  (∀ (x : Nat) (S : List Value) (h : zH), rn 41 16 [.ref x] S h = rn 41 17 [.ref x] (.ref x :: S) h) ∧
  (∀ (l0 : Value) (a : Nat) (S : List Value) (h : zH), rn 41 17 [l0] (.ref a :: S) h = zgf h a 6 4 fun v => rn 41 20 [l0] (v :: S) h) ∧
  (∀ (l0 : Value) (S : List Value) (h : zH), rn 41 20 [l0] S h = rn 41 21 [l0] (.int (nI 1) :: S) h) ∧
  (∀ (l0 : Value) (x : Int32) (y : Int32) (S : List Value) (h : zH), rn 41 21 [l0] (.int y :: .int x :: S) h = rn 41 22 [l0] (.int (x - y) :: S) h) ∧
  (∀ (l0 : Value) (a : Nat) (j : Int32) (S : List Value) (h : zH), rn 41 22 [l0] (.int j :: .ref a :: S) h = zli h a 0 j fun x => rn 41 23 [l0] (.int x :: S) h) ∧
  (∀ (l0 : Value) (S : List Value) (h : zH), rn 41 23 [l0] S h = rn 41 24 [l0] (.int (nI 1) :: S) h) ∧
  (∀ (l0 : Value) (x : Int32) (y : Int32) (S : List Value) (h : zH), rn 41 24 [l0] (.int y :: .int x :: S) h = rn 41 25 [l0] (.int (x + y) :: S) h) ∧
  (∀ (l0 : Value) (S : List Value) (h : zH), rn 41 25 [l0] S h = rn 41 29 [l0] S h) ∧
  (∀ (l0 : Value) (S : List Value) (h : zH), rn 41 28 [l0] S h = rn 41 29 [l0] (.int (nI 0) :: S) h) ∧
  (∀ (l0 : Value) (x : Int32) (h : zH), rn 41 29 [l0] [.int x] h = some (some (.int x), h)) := ⟨fun _ _ _ => r_aload_nr (show zdec 41 0 = some (.aload_n 0, 1) by decide +kernel) rfl rfl,
  fun _ _ _ _ => r_getfield (show zdec 41 1 = some (.getfield 25, 3) by decide +kernel) (show zft.lookup (41 * zKEY + 25) = some (6, 4) by decide +kernel) rfl,
  fun _ _ _ => r_iconst (show zdec 41 4 = some (.iconst 1, 1) by decide +kernel) rfl rfl,
  fun _ _ _ => r_iconst (show zdec 41 5 = some (.iconst 5, 1) by decide +kernel) rfl rfl,
  fun _ _ _ _ _ _ => r_cS [_, _, _] rfl (show zdec 41 6 = some (.invokestatic 35, 3) by decide +kernel) (show zst.lookup (41 * zKEY + 35) = some (3, 24, 3, 0) by decide +kernel) (by decide) rfl,
  fun _ _ _ _ => r_ifeq (show zdec 41 9 = some (.ifCond .eq 19, 3) by decide +kernel) rfl rfl,
  fun _ _ _ => r_aload_nr (show zdec 41 12 = some (.aload_n 0, 1) by decide +kernel) rfl rfl,
  fun _ _ _ _ => r_getfield (show zdec 41 13 = some (.getfield 19, 3) by decide +kernel) (show zft.lookup (41 * zKEY + 19) = some (6, 2) by decide +kernel) rfl,
  fun _ _ _ => r_aload_nr (show zdec 41 16 = some (.aload_n 0, 1) by decide +kernel) rfl rfl,
  fun _ _ _ _ => r_getfield (show zdec 41 17 = some (.getfield 25, 3) by decide +kernel) (show zft.lookup (41 * zKEY + 25) = some (6, 4) by decide +kernel) rfl,
  fun _ _ _ => r_iconst (show zdec 41 20 = some (.iconst 1, 1) by decide +kernel) rfl rfl,
  fun _ _ _ _ _ => r_isub (show zdec 41 21 = some (.isub, 1) by decide +kernel) rfl,
  fun _ _ _ _ _ => r_iald (show zdec 41 22 = some (.iaload, 1) by decide +kernel) rfl,
  fun _ _ _ => r_iconst (show zdec 41 23 = some (.iconst 1, 1) by decide +kernel) rfl rfl,
  fun _ _ _ _ _ => r_iadd (show zdec 41 24 = some (.iadd, 1) by decide +kernel) rfl,
  fun _ _ _ => r_goto (show zdec 41 25 = some (.goto 4, 3) by decide +kernel) rfl,
  fun _ _ _ => r_iconst (show zdec 41 28 = some (.iconst 0, 1) by decide +kernel) rfl rfl,
  fun _ _ _ => r_ireti (show zdec 41 29 = some (.ireturn, 1) by decide +kernel) (by decide +kernel)⟩
theorem ze_41 : ∀ (a0 : Nat) (h : zH), ev 41 [.ref a0] h = rn 41 0 [.ref a0] [] h := fun _ _ => if_pos (Nat.le_of_ble_eq_true rfl)
-- PayrollRun/Garnishments.add(III)I
theorem zr_46 : (∀ (l1 l2 l3 : Value) (x : Nat) (S : List Value) (h : zH), rn 46 0 [.ref x, l1, l2, l3] S h = rn 46 1 [.ref x, l1, l2, l3] (.ref x :: S) h) ∧
  (∀ (l0 l1 l2 l3 : Value) (a : Nat) (S : List Value) (h : zH), rn 46 1 [l0, l1, l2, l3] (.ref a :: S) h = zgf h a 4 4 fun v => rn 46 4 [l0, l1, l2, l3] (v :: S) h) ∧
  (∀ (l0 l1 l2 l3 : Value) (S : List Value) (h : zH), rn 46 4 [l0, l1, l2, l3] S h = rn 46 5 [l0, l1, l2, l3] (.int (nI 3) :: S) h) ∧
  (∀ (l0 l1 l2 l3 : Value) (x : Int32) (y : Int32) (S : List Value) (h : zH), rn 46 5 [l0, l1, l2, l3] (.int y :: .int x :: S) h = if x < y then rn 46 11 [l0, l1, l2, l3] S h else rn 46 8 [l0, l1, l2, l3] S h) ∧
  (∀ (l0 l1 l2 l3 : Value) (S : List Value) (h : zH), rn 46 8 [l0, l1, l2, l3] S h = rn 46 10 [l0, l1, l2, l3] (.int (-3) :: S) h) ∧
  (∀ (l0 l1 l2 l3 : Value) (x : Int32) (h : zH), rn 46 10 [l0, l1, l2, l3] [.int x] h = some (some (.int x), h)) ∧
  (∀ (l1 l2 l3 : Value) (x : Nat) (S : List Value) (h : zH), rn 46 11 [.ref x, l1, l2, l3] S h = rn 46 12 [.ref x, l1, l2, l3] (.ref x :: S) h) ∧
  (∀ (l0 l1 l2 l3 : Value) (a : Nat) (S : List Value) (h : zH), rn 46 12 [l0, l1, l2, l3] (.ref a :: S) h = zgf h a 4 0 fun v => rn 46 15 [l0, l1, l2, l3] (v :: S) h) ∧
  (∀ (l1 l2 l3 : Value) (x : Nat) (S : List Value) (h : zH), rn 46 15 [.ref x, l1, l2, l3] S h = rn 46 16 [.ref x, l1, l2, l3] (.ref x :: S) h) ∧
  (∀ (l0 l1 l2 l3 : Value) (a : Nat) (S : List Value) (h : zH), rn 46 16 [l0, l1, l2, l3] (.ref a :: S) h = zgf h a 4 4 fun v => rn 46 19 [l0, l1, l2, l3] (v :: S) h) ∧
  (∀ (l0 l2 l3 : Value) (x : Int32) (S : List Value) (h : zH), rn 46 19 [l0, .int x, l2, l3] S h = rn 46 20 [l0, .int x, l2, l3] (.int x :: S) h) ∧
  (∀ (l0 l1 l2 l3 : Value) (a : Nat) (j : Int32) (x : Int32) (S : List Value) (h : zH), rn 46 20 [l0, l1, l2, l3] (.int x :: .int j :: .ref a :: S) h = zsi h a 0 j x fun h => rn 46 21 [l0, l1, l2, l3] S h) ∧
  (∀ (l1 l2 l3 : Value) (x : Nat) (S : List Value) (h : zH), rn 46 21 [.ref x, l1, l2, l3] S h = rn 46 22 [.ref x, l1, l2, l3] (.ref x :: S) h) ∧
  (∀ (l0 l1 l2 l3 : Value) (a : Nat) (S : List Value) (h : zH), rn 46 22 [l0, l1, l2, l3] (.ref a :: S) h = zgf h a 4 1 fun v => rn 46 25 [l0, l1, l2, l3] (v :: S) h) ∧
  (∀ (l1 l2 l3 : Value) (x : Nat) (S : List Value) (h : zH), rn 46 25 [.ref x, l1, l2, l3] S h = rn 46 26 [.ref x, l1, l2, l3] (.ref x :: S) h) ∧
  (∀ (l0 l1 l2 l3 : Value) (a : Nat) (S : List Value) (h : zH), rn 46 26 [l0, l1, l2, l3] (.ref a :: S) h = zgf h a 4 4 fun v => rn 46 29 [l0, l1, l2, l3] (v :: S) h) ∧
  (∀ (l0 l1 l3 : Value) (x : Int32) (S : List Value) (h : zH), rn 46 29 [l0, l1, .int x, l3] S h = rn 46 30 [l0, l1, .int x, l3] (.int x :: S) h) ∧
  (∀ (l0 l1 l2 l3 : Value) (a : Nat) (j : Int32) (x : Int32) (S : List Value) (h : zH), rn 46 30 [l0, l1, l2, l3] (.int x :: .int j :: .ref a :: S) h = zsi h a 0 j x fun h => rn 46 31 [l0, l1, l2, l3] S h) ∧
  (∀ (l1 l2 l3 : Value) (x : Nat) (S : List Value) (h : zH), rn 46 31 [.ref x, l1, l2, l3] S h = rn 46 32 [.ref x, l1, l2, l3] (.ref x :: S) h) ∧
  (∀ (l0 l1 l2 l3 : Value) (a : Nat) (S : List Value) (h : zH), rn 46 32 [l0, l1, l2, l3] (.ref a :: S) h = zgf h a 4 2 fun v => rn 46 35 [l0, l1, l2, l3] (v :: S) h) ∧
  (∀ (l1 l2 l3 : Value) (x : Nat) (S : List Value) (h : zH), rn 46 35 [.ref x, l1, l2, l3] S h = rn 46 36 [.ref x, l1, l2, l3] (.ref x :: S) h) ∧
  (∀ (l0 l1 l2 l3 : Value) (a : Nat) (S : List Value) (h : zH), rn 46 36 [l0, l1, l2, l3] (.ref a :: S) h = zgf h a 4 4 fun v => rn 46 39 [l0, l1, l2, l3] (v :: S) h) ∧
  (∀ (l0 l1 l2 : Value) (x : Int32) (S : List Value) (h : zH), rn 46 39 [l0, l1, l2, .int x] S h = rn 46 40 [l0, l1, l2, .int x] (.int x :: S) h) ∧
  (∀ (l0 l1 l2 l3 : Value) (a : Nat) (j : Int32) (x : Int32) (S : List Value) (h : zH), rn 46 40 [l0, l1, l2, l3] (.int x :: .int j :: .ref a :: S) h = zsi h a 0 j x fun h => rn 46 41 [l0, l1, l2, l3] S h) ∧
  (∀ (l1 l2 l3 : Value) (x : Nat) (S : List Value) (h : zH), rn 46 41 [.ref x, l1, l2, l3] S h = rn 46 42 [.ref x, l1, l2, l3] (.ref x :: S) h) ∧
  (∀ (l0 l1 l2 l3 : Value) (a : Nat) (S : List Value) (h : zH), rn 46 42 [l0, l1, l2, l3] (.ref a :: S) h = zgf h a 4 3 fun v => rn 46 45 [l0, l1, l2, l3] (v :: S) h) ∧
  (∀ (l1 l2 l3 : Value) (x : Nat) (S : List Value) (h : zH), rn 46 45 [.ref x, l1, l2, l3] S h = rn 46 46 [.ref x, l1, l2, l3] (.ref x :: S) h) ∧
  (∀ (l0 l1 l2 l3 : Value) (a : Nat) (S : List Value) (h : zH), rn 46 46 [l0, l1, l2, l3] (.ref a :: S) h = zgf h a 4 4 fun v => rn 46 49 [l0, l1, l2, l3] (v :: S) h) ∧
  (∀ (l0 l1 l2 : Value) (x : Int32) (S : List Value) (h : zH), rn 46 49 [l0, l1, l2, .int x] S h = rn 46 50 [l0, l1, l2, .int x] (.int x :: S) h) ∧
  (∀ (l0 l1 l2 l3 : Value) (x : Int32) (S : List Value) (h : zH), rn 46 50 [l0, l1, l2, l3] (.int x :: S) h = rn 46 51 [l0, l1, l2, l3] (.long x.toInt64 :: S) h) ∧
  (∀ (l0 l1 l2 l3 : Value) (S : List Value) (h : zH), rn 46 51 [l0, l1, l2, l3] S h = rn 46 54 [l0, l1, l2, l3] (.long (1000000) :: S) h) ∧
  (∀ (l0 l1 l2 l3 : Value) (x : Int64) (y : Int64) (S : List Value) (h : zH), rn 46 54 [l0, l1, l2, l3] (.long y :: .long x :: S) h = rn 46 55 [l0, l1, l2, l3] (.long (x * y) :: S) h) ∧
  (∀ (l0 l1 l2 l3 : Value) (a : Nat) (j : Int32) (x : Int64) (S : List Value) (h : zH), rn 46 55 [l0, l1, l2, l3] (.long x :: .int j :: .ref a :: S) h = zsj h a j x fun h => rn 46 56 [l0, l1, l2, l3] S h) ∧
  (∀ (l1 l2 l3 : Value) (x : Nat) (S : List Value) (h : zH), rn 46 56 [.ref x, l1, l2, l3] S h = rn 46 57 [.ref x, l1, l2, l3] (.ref x :: S) h) ∧
  (∀ (l0 l1 l2 l3 : Value) (v : Value) (S : List Value) (h : zH), rn 46 57 [l0, l1, l2, l3] (v :: S) h = c1 v (rn 46 58 [l0, l1, l2, l3] (v :: v :: S) h)) ∧
  (∀ (l0 l1 l2 l3 : Value) (a : Nat) (S : List Value) (h : zH), rn 46 58 [l0, l1, l2, l3] (.ref a :: S) h = zgf h a 4 4 fun v => rn 46 61 [l0, l1, l2, l3] (v :: S) h) ∧
  (∀ (l0 l1 l2 l3 : Value) (S : List Value) (h : zH), rn 46 61 [l0, l1, l2, l3] S h = rn 46 62 [l0, l1, l2, l3] (.int (nI 1) :: S) h) ∧
  (∀ (l0 l1 l2 l3 : Value) (x : Int32) (y : Int32) (S : List Value) (h : zH), rn 46 62 [l0, l1, l2, l3] (.int y :: .int x :: S) h = rn 46 63 [l0, l1, l2, l3] (.int (x + y) :: S) h) ∧
  (∀ (l0 l1 l2 l3 : Value) (a : Nat) (v : Value) (S : List Value) (h : zH), rn 46 63 [l0, l1, l2, l3] (v :: .ref a :: S) h = zpf h a 4 4 v fun h => rn 46 66 [l0, l1, l2, l3] S h) ∧
  (∀ (l1 l2 l3 : Value) (x : Nat) (S : List Value) (h : zH), rn 46 66 [.ref x, l1, l2, l3] S h = rn 46 67 [.ref x, l1, l2, l3] (.ref x :: S) h) ∧
  (∀ (l0 l1 l2 l3 : Value) (a : Nat) (S : List Value) (h : zH), rn 46 67 [l0, l1, l2, l3] (.ref a :: S) h = zgf h a 4 4 fun v => rn 46 70 [l0, l1, l2, l3] (v :: S) h) ∧
  (∀ (l0 l1 l2 l3 : Value) (x : Int32) (h : zH), rn 46 70 [l0, l1, l2, l3] [.int x] h = some (some (.int x), h)) := ⟨fun _ _ _ _ _ _ => r_aload_nr (show zdec 46 0 = some (.aload_n 0, 1) by decide +kernel) rfl rfl,
  fun _ _ _ _ _ _ _ => r_getfield (show zdec 46 1 = some (.getfield 25, 3) by decide +kernel) (show zft.lookup (46 * zKEY + 25) = some (4, 4) by decide +kernel) rfl,
  fun _ _ _ _ _ _ => r_iconst (show zdec 46 4 = some (.iconst 3, 1) by decide +kernel) rfl rfl,
  fun _ _ _ _ _ _ _ _ => r_icmplt (show zdec 46 5 = some (.if_icmp .lt 6, 3) by decide +kernel) rfl rfl,
  fun _ _ _ _ _ _ => r_bipush (show zdec 46 8 = some (.bipush (-3), 2) by decide +kernel) rfl rfl,
  fun _ _ _ _ _ _ => r_ireti (show zdec 46 10 = some (.ireturn, 1) by decide +kernel) (by decide +kernel),
  fun _ _ _ _ _ _ => r_aload_nr (show zdec 46 11 = some (.aload_n 0, 1) by decide +kernel) rfl rfl,
  fun _ _ _ _ _ _ _ => r_getfield (show zdec 46 12 = some (.getfield 9, 3) by decide +kernel) (show zft.lookup (46 * zKEY + 9) = some (4, 0) by decide +kernel) rfl,
  fun _ _ _ _ _ _ => r_aload_nr (show zdec 46 15 = some (.aload_n 0, 1) by decide +kernel) rfl rfl,
  fun _ _ _ _ _ _ _ => r_getfield (show zdec 46 16 = some (.getfield 25, 3) by decide +kernel) (show zft.lookup (46 * zKEY + 25) = some (4, 4) by decide +kernel) rfl,
  fun _ _ _ _ _ _ => r_iload_n (show zdec 46 19 = some (.iload_n 1, 1) by decide +kernel) rfl rfl,
  fun _ _ _ _ _ _ _ _ _ => r_iast (show zdec 46 20 = some (.iastore, 1) by decide +kernel) rfl,
  fun _ _ _ _ _ _ => r_aload_nr (show zdec 46 21 = some (.aload_n 0, 1) by decide +kernel) rfl rfl,
  fun _ _ _ _ _ _ _ => r_getfield (show zdec 46 22 = some (.getfield 15, 3) by decide +kernel) (show zft.lookup (46 * zKEY + 15) = some (4, 1) by decide +kernel) rfl,
  fun _ _ _ _ _ _ => r_aload_nr (show zdec 46 25 = some (.aload_n 0, 1) by decide +kernel) rfl rfl,
  fun _ _ _ _ _ _ _ => r_getfield (show zdec 46 26 = some (.getfield 25, 3) by decide +kernel) (show zft.lookup (46 * zKEY + 25) = some (4, 4) by decide +kernel) rfl,
  fun _ _ _ _ _ _ => r_iload_n (show zdec 46 29 = some (.iload_n 2, 1) by decide +kernel) rfl rfl,
  fun _ _ _ _ _ _ _ _ _ => r_iast (show zdec 46 30 = some (.iastore, 1) by decide +kernel) rfl,
  fun _ _ _ _ _ _ => r_aload_nr (show zdec 46 31 = some (.aload_n 0, 1) by decide +kernel) rfl rfl,
  fun _ _ _ _ _ _ _ => r_getfield (show zdec 46 32 = some (.getfield 18, 3) by decide +kernel) (show zft.lookup (46 * zKEY + 18) = some (4, 2) by decide +kernel) rfl,
  fun _ _ _ _ _ _ => r_aload_nr (show zdec 46 35 = some (.aload_n 0, 1) by decide +kernel) rfl rfl,
  fun _ _ _ _ _ _ _ => r_getfield (show zdec 46 36 = some (.getfield 25, 3) by decide +kernel) (show zft.lookup (46 * zKEY + 25) = some (4, 4) by decide +kernel) rfl,
  fun _ _ _ _ _ _ => r_iload_n (show zdec 46 39 = some (.iload_n 3, 1) by decide +kernel) rfl rfl,
  fun _ _ _ _ _ _ _ _ _ => r_iast (show zdec 46 40 = some (.iastore, 1) by decide +kernel) rfl,
  fun _ _ _ _ _ _ => r_aload_nr (show zdec 46 41 = some (.aload_n 0, 1) by decide +kernel) rfl rfl,
  fun _ _ _ _ _ _ _ => r_getfield (show zdec 46 42 = some (.getfield 21, 3) by decide +kernel) (show zft.lookup (46 * zKEY + 21) = some (4, 3) by decide +kernel) rfl,
  fun _ _ _ _ _ _ => r_aload_nr (show zdec 46 45 = some (.aload_n 0, 1) by decide +kernel) rfl rfl,
  fun _ _ _ _ _ _ _ => r_getfield (show zdec 46 46 = some (.getfield 25, 3) by decide +kernel) (show zft.lookup (46 * zKEY + 25) = some (4, 4) by decide +kernel) rfl,
  fun _ _ _ _ _ _ => r_iload_n (show zdec 46 49 = some (.iload_n 3, 1) by decide +kernel) rfl rfl,
  fun _ _ _ _ _ _ _ => r_i2l (show zdec 46 50 = some (.i2l, 1) by decide +kernel) rfl,
  fun _ _ _ _ _ _ => r_ldc2 (show zdec 46 51 = some (.ldc2_w 39, 3) by decide +kernel) (show zlt.lookup (46 * zKEY + 39) = some 1000000 by decide +kernel) rfl,
  fun _ _ _ _ _ _ _ _ => r_lmul (show zdec 46 54 = some (.lmul, 1) by decide +kernel) rfl,
  fun _ _ _ _ _ _ _ _ _ => r_last (show zdec 46 55 = some (.lastore, 1) by decide +kernel) rfl,
  fun _ _ _ _ _ _ => r_aload_nr (show zdec 46 56 = some (.aload_n 0, 1) by decide +kernel) rfl rfl,
  fun _ _ _ _ _ _ _ => r_dup (show zdec 46 57 = some (.dup, 1) by decide +kernel) rfl,
  fun _ _ _ _ _ _ _ => r_getfield (show zdec 46 58 = some (.getfield 25, 3) by decide +kernel) (show zft.lookup (46 * zKEY + 25) = some (4, 4) by decide +kernel) rfl,
  fun _ _ _ _ _ _ => r_iconst (show zdec 46 61 = some (.iconst 1, 1) by decide +kernel) rfl rfl,
  fun _ _ _ _ _ _ _ _ => r_iadd (show zdec 46 62 = some (.iadd, 1) by decide +kernel) rfl,
  fun _ _ _ _ _ _ _ _ => r_putfield (show zdec 46 63 = some (.putfield 25, 3) by decide +kernel) (show zft.lookup (46 * zKEY + 25) = some (4, 4) by decide +kernel) (by decide +kernel) rfl,
  fun _ _ _ _ _ _ => r_aload_nr (show zdec 46 66 = some (.aload_n 0, 1) by decide +kernel) rfl rfl,
  fun _ _ _ _ _ _ _ => r_getfield (show zdec 46 67 = some (.getfield 25, 3) by decide +kernel) (show zft.lookup (46 * zKEY + 25) = some (4, 4) by decide +kernel) rfl,
  fun _ _ _ _ _ _ => r_ireti (show zdec 46 70 = some (.ireturn, 1) by decide +kernel) (by decide +kernel)⟩
theorem ze_46 : ∀ (a0 : Nat) (a1 : Int32) (a2 : Int32) (a3 : Int32) (h : zH), ev 46 [.ref a0, .int a1, .int a2, .int a3] h = rn 46 0 [.ref a0, .int a1, .int a2, .int a3] [] h := fun _ _ _ _ _ => if_pos (Nat.le_of_ble_eq_true rfl)
-- PayrollRun/Garnishments.has(I)Z
theorem zr_51 : (∀ (l0 : Value) (x : Int32) (S : List Value) (h : zH), rn 51 0 [l0, .int x] S h = rn 51 1 [l0, .int x] (.int x :: S) h) ∧
  (∀ (l0 l1 : Value) (S : List Value) (h : zH), rn 51 1 [l0, l1] S h = rn 51 2 [l0, l1] (.int (nI 0) :: S) h) ∧
  (∀ (l1 : Value) (x : Nat) (S : List Value) (h : zH), rn 51 2 [.ref x, l1] S h = rn 51 3 [.ref x, l1] (.ref x :: S) h) ∧
  (∀ (l0 l1 : Value) (a : Nat) (S : List Value) (h : zH), rn 51 3 [l0, l1] (.ref a :: S) h = zgf h a 4 4 fun v => rn 51 6 [l0, l1] (v :: S) h) ∧
  (∀ (l0 l1 : Value) (S : List Value) (h : zH), rn 51 6 [l0, l1] S h = rn 51 7 [l0, l1] (.int (nI 1) :: S) h) ∧
  (∀ (l0 l1 : Value) (x : Int32) (y : Int32) (S : List Value) (h : zH), rn 51 7 [l0, l1] (.int y :: .int x :: S) h = rn 51 8 [l0, l1] (.int (x - y) :: S) h) ∧
  (∀ (l0 l1 : Value) (v0 : Value) (v1 : Value) (v2 : Value) (S : List Value) (h : zH), rn 51 8 [l0, l1] (v2 :: v1 :: v0 :: S) h = if zsum S ≤ 8 then zcall (ev 24 [v0, v1, v2] h) (fun v h => rn 51 11 [l0, l1] (zpush v S) h) else none) ∧
  (∀ (l0 l1 : Value) (x : Int32) (h : zH), rn 51 11 [l0, l1] [.int x] h = if x = nI 0 ∨ x = nI 1 then some (some (.int x), h) else none) := ⟨fun _ _ _ _ => r_iload_n (show zdec 51 0 = some (.iload_n 1, 1) by decide +kernel) rfl rfl,
  fun _ _ _ _ => r_iconst (show zdec 51 1 = some (.iconst 0, 1) by decide +kernel) rfl rfl,
  fun _ _ _ _ => r_aload_nr (show zdec 51 2 = some (.aload_n 0, 1) by decide +kernel) rfl rfl,
  fun _ _ _ _ _ => r_getfield (show zdec 51 3 = some (.getfield 25, 3) by decide +kernel) (show zft.lookup (51 * zKEY + 25) = some (4, 4) by decide +kernel) rfl,
  fun _ _ _ _ => r_iconst (show zdec 51 6 = some (.iconst 1, 1) by decide +kernel) rfl rfl,
  fun _ _ _ _ _ _ => r_isub (show zdec 51 7 = some (.isub, 1) by decide +kernel) rfl,
  fun _ _ _ _ _ _ _ => r_cS [_, _, _] rfl (show zdec 51 8 = some (.invokestatic 35, 3) by decide +kernel) (show zst.lookup (51 * zKEY + 35) = some (3, 24, 3, 0) by decide +kernel) (by decide) rfl,
  fun _ _ _ _ => r_iretb (show zdec 51 11 = some (.ireturn, 1) by decide +kernel) (by decide +kernel)⟩
theorem ze_51 : ∀ (a0 : Nat) (a1 : Int32) (h : zH), ev 51 [.ref a0, .int a1] h = rn 51 0 [.ref a0, .int a1] [] h := fun _ _ _ => if_pos (Nat.le_of_ble_eq_true rfl)
-- PayrollRun/Garnishments.remove(I)I
theorem zr_52 : (∀ (l1 : Value) (x : Nat) (S : List Value) (h : zH), rn 52 0 [.ref x, l1] S h = rn 52 1 [.ref x, l1] (.ref x :: S) h) ∧
  (∀ (l0 : Value) (x : Int32) (S : List Value) (h : zH), rn 52 1 [l0, .int x] S h = rn 52 2 [l0, .int x] (.int x :: S) h) ∧
  (∀ (l1 : Value) (x : Nat) (S : List Value) (h : zH), rn 52 2 [.ref x, l1] S h = rn 52 3 [.ref x, l1] (.ref x :: S) h) ∧
  (∀ (l0 l1 : Value) (a : Nat) (S : List Value) (h : zH), rn 52 3 [l0, l1] (.ref a :: S) h = zgf h a 4 4 fun v => rn 52 6 [l0, l1] (v :: S) h) ∧
  (∀ (l0 l1 : Value) (S : List Value) (h : zH), rn 52 6 [l0, l1] S h = rn 52 7 [l0, l1] (.int (nI 1) :: S) h) ∧
  (∀ (l0 l1 : Value) (x : Int32) (y : Int32) (S : List Value) (h : zH), rn 52 7 [l0, l1] (.int y :: .int x :: S) h = rn 52 8 [l0, l1] (.int (x - y) :: S) h) ∧
  (∀ (l0 l1 : Value) (o : Nat) (v0 : Value) (v1 : Value) (S : List Value) (h : zH), rn 52 8 [l0, l1] (v1 :: v0 :: .ref o :: S) h = if zkd h o = 4 ∧ zsum S ≤ 8 then zcall (ev 53 [.ref o, v0, v1] h) (fun v h => rn 52 11 [l0, l1] (zpush v S) h) else none) ∧
  (∀ (l1 : Value) (x : Nat) (S : List Value) (h : zH), rn 52 11 [.ref x, l1] S h = rn 52 12 [.ref x, l1] (.ref x :: S) h) ∧
  (∀ (l0 l1 : Value) (v : Value) (S : List Value) (h : zH), rn 52 12 [l0, l1] (v :: S) h = c1 v (rn 52 13 [l0, l1] (v :: v :: S) h)) ∧
  (∀ (l0 l1 : Value) (a : Nat) (S : List Value) (h : zH), rn 52 13 [l0, l1] (.ref a :: S) h = zgf h a 4 4 fun v => rn 52 16 [l0, l1] (v :: S) h) ∧
  (∀ (l0 l1 : Value) (S : List Value) (h : zH), rn 52 16 [l0, l1] S h = rn 52 17 [l0, l1] (.int (nI 1) :: S) h) ∧
  (∀ (l0 l1 : Value) (x : Int32) (y : Int32) (S : List Value) (h : zH), rn 52 17 [l0, l1] (.int y :: .int x :: S) h = rn 52 18 [l0, l1] (.int (x - y) :: S) h) ∧
  (∀ (l0 l1 : Value) (a : Nat) (v : Value) (S : List Value) (h : zH), rn 52 18 [l0, l1] (v :: .ref a :: S) h = zpf h a 4 4 v fun h => rn 52 21 [l0, l1] S h) ∧
  (∀ (l1 : Value) (x : Nat) (S : List Value) (h : zH), rn 52 21 [.ref x, l1] S h = rn 52 22 [.ref x, l1] (.ref x :: S) h) ∧
  (∀ (l0 l1 : Value) (a : Nat) (S : List Value) (h : zH), rn 52 22 [l0, l1] (.ref a :: S) h = zgf h a 4 4 fun v => rn 52 25 [l0, l1] (v :: S) h) ∧
  (∀ (l0 l1 : Value) (x : Int32) (h : zH), rn 52 25 [l0, l1] [.int x] h = some (some (.int x), h)) := ⟨fun _ _ _ _ => r_aload_nr (show zdec 52 0 = some (.aload_n 0, 1) by decide +kernel) rfl rfl,
  fun _ _ _ _ => r_iload_n (show zdec 52 1 = some (.iload_n 1, 1) by decide +kernel) rfl rfl,
  fun _ _ _ _ => r_aload_nr (show zdec 52 2 = some (.aload_n 0, 1) by decide +kernel) rfl rfl,
  fun _ _ _ _ _ => r_getfield (show zdec 52 3 = some (.getfield 25, 3) by decide +kernel) (show zft.lookup (52 * zKEY + 25) = some (4, 4) by decide +kernel) rfl,
  fun _ _ _ _ => r_iconst (show zdec 52 6 = some (.iconst 1, 1) by decide +kernel) rfl rfl,
  fun _ _ _ _ _ _ => r_isub (show zdec 52 7 = some (.isub, 1) by decide +kernel) rfl,
  fun _ _ _ _ _ _ _ => r_cV [_, _] rfl (show zdec 52 8 = some (.invokevirtual 41, 3) by decide +kernel) (show zst.lookup (52 * zKEY + 41) = some (1, 53, 2, 4) by decide +kernel) (by decide) rfl,
  fun _ _ _ _ => r_aload_nr (show zdec 52 11 = some (.aload_n 0, 1) by decide +kernel) rfl rfl,
  fun _ _ _ _ _ => r_dup (show zdec 52 12 = some (.dup, 1) by decide +kernel) rfl,
  fun _ _ _ _ _ => r_getfield (show zdec 52 13 = some (.getfield 25, 3) by decide +kernel) (show zft.lookup (52 * zKEY + 25) = some (4, 4) by decide +kernel) rfl,
  fun _ _ _ _ => r_iconst (show zdec 52 16 = some (.iconst 1, 1) by decide +kernel) rfl rfl,
  fun _ _ _ _ _ _ => r_isub (show zdec 52 17 = some (.isub, 1) by decide +kernel) rfl,
  fun _ _ _ _ _ _ => r_putfield (show zdec 52 18 = some (.putfield 25, 3) by decide +kernel) (show zft.lookup (52 * zKEY + 25) = some (4, 4) by decide +kernel) (by decide +kernel) rfl,
  fun _ _ _ _ => r_aload_nr (show zdec 52 21 = some (.aload_n 0, 1) by decide +kernel) rfl rfl,
  fun _ _ _ _ _ => r_getfield (show zdec 52 22 = some (.getfield 25, 3) by decide +kernel) (show zft.lookup (52 * zKEY + 25) = some (4, 4) by decide +kernel) rfl,
  fun _ _ _ _ => r_ireti (show zdec 52 25 = some (.ireturn, 1) by decide +kernel) (by decide +kernel)⟩
theorem ze_52 : ∀ (a0 : Nat) (a1 : Int32) (h : zH), ev 52 [.ref a0, .int a1] h = rn 52 0 [.ref a0, .int a1] [] h := fun _ _ _ => if_pos (Nat.le_of_ble_eq_true rfl)
-- PayrollRun/Garnishments.shift(II)V
theorem zr_53 : (∀ (l0 l2 l3 : Value) (x : Int32) (S : List Value) (h : zH), rn 53 0 [l0, .int x, l2, l3] S h = rn 53 1 [l0, .int x, l2, l3] (.int x :: S) h) ∧
  (∀ (l0 l1 l2 l3 : Value) (x : Int32) (S : List Value) (h : zH), rn 53 1 [l0, l1, l2, l3] (.int x :: S) h = nl l2 (rn 53 2 [l0, l1, l2, .int x] S h)) ∧
  (∀ (l0 l1 l3 : Value) (x : Int32) (S : List Value) (h : zH), rn 53 3 [l0, l1, .int x, l3] S h = rn 53 4 [l0, l1, .int x, l3] (.int x :: S) h) ∧
  (∀ (l0 l1 l2 l3 : Value) (x : Int32) (y : Int32) (S : List Value) (h : zH), rn 53 4 [l0, l1, l2, l3] (.int y :: .int x :: S) h = if y ≤ x then rn 53 21 [l0, l1, l2, l3] S h else rn 53 7 [l0, l1, l2, l3] S h) ∧
  (∀ (l1 l2 l3 : Value) (x : Nat) (S : List Value) (h : zH), rn 53 7 [.ref x, l1, l2, l3] S h = rn 53 8 [.ref x, l1, l2, l3] (.ref x :: S) h) ∧
  (∀ (l0 l1 l2 : Value) (x : Int32) (S : List Value) (h : zH), rn 53 8 [l0, l1, l2, .int x] S h = rn 53 9 [l0, l1, l2, .int x] (.int x :: S) h) ∧
  (∀ (l0 l1 l2 : Value) (x : Int32) (S : List Value) (h : zH), rn 53 9 [l0, l1, l2, .int x] S h = rn 53 10 [l0, l1, l2, .int x] (.int x :: S) h) ∧
  (∀ (l0 l1 l2 l3 : Value) (S : List Value) (h : zH), rn 53 10 [l0, l1, l2, l3] S h = rn 53 11 [l0, l1, l2, l3] (.int (nI 1) :: S) h) ∧
  (∀ (l0 l1 l2 l3 : Value) (x : Int32) (y : Int32) (S : List Value) (h : zH), rn 53 11 [l0, l1, l2, l3] (.int y :: .int x :: S) h = rn 53 12 [l0, l1, l2, l3] (.int (x + y) :: S) h) ∧
  (∀ (l0 l1 l2 l3 : Value) (o : Nat) (v0 : Value) (v1 : Value) (S : List Value) (h : zH), rn 53 12 [l0, l1, l2, l3] (v1 :: v0 :: .ref o :: S) h = if zkd h o = 4 ∧ zsum S ≤ 8 then zcall (ev 54 [.ref o, v0, v1] h) (fun v h => rn 53 15 [l0, l1, l2, l3] (zpush v S) h) else none) ∧
  (∀ (l0 l1 l2 : Value) (x : Int32) (S : List Value) (h : zH), rn 53 15 [l0, l1, l2, .int x] S h = nl l2 (rn 53 18 [l0, l1, l2, .int (x + (nI 1))] S h)) ∧
  (∀ (l0 l1 l2 l3 : Value) (S : List Value) (h : zH), rn 53 18 [l0, l1, l2, l3] S h = rn 53 2 [l0, l1, l2, l3] S h) ∧
  (∀ (l0 l2 l3 : Value) (x : Int32) (S : List Value) (h : zH), rn 53 21 [l0, .int x, l2, l3] S h = rn 53 22 [l0, .int x, l2, l3] (.int x :: S) h) ∧
  (∀ (l0 l1 l2 l3 : Value) (x : Int32) (S : List Value) (h : zH), rn 53 22 [l0, l1, l2, l3] (.int x :: S) h = nl l2 (rn 53 23 [l0, l1, l2, .int x] S h)) ∧
  (∀ (l0 l1 l3 : Value) (x : Int32) (S : List Value) (h : zH), rn 53 24 [l0, l1, .int x, l3] S h = rn 53 25 [l0, l1, .int x, l3] (.int x :: S) h) ∧
  (∀ (l0 l1 l2 l3 : Value) (x : Int32) (y : Int32) (S : List Value) (h : zH), rn 53 25 [l0, l1, l2, l3] (.int y :: .int x :: S) h = if x ≤ y then rn 53 42 [l0, l1, l2, l3] S h else rn 53 28 [l0, l1, l2, l3] S h) ∧
  (∀ (l1 l2 l3 : Value) (x : Nat) (S : List Value) (h : zH), rn 53 28 [.ref x, l1, l2, l3] S h = rn 53 29 [.ref x, l1, l2, l3] (.ref x :: S) h) ∧
  (∀ (l0 l1 l2 : Value) (x : Int32) (S : List Value) (h : zH), rn 53 29 [l0, l1, l2, .int x] S h = rn 53 30 [l0, l1, l2, .int x] (.int x :: S) h) ∧
  (∀ (l0 l1 l2 : Value) (x : Int32) (S : List Value) (h : zH), rn 53 30 [l0, l1, l2, .int x] S h = rn 53 31 [l0, l1, l2, .int x] (.int x :: S) h) ∧
  (∀ (l0 l1 l2 l3 : Value) (S : List Value) (h : zH), rn 53 31 [l0, l1, l2, l3] S h = rn 53 32 [l0, l1, l2, l3] (.int (nI 1) :: S) h) ∧
  (∀ (l0 l1 l2 l3 : Value) (x : Int32) (y : Int32) (S : List Value) (h : zH), rn 53 32 [l0, l1, l2, l3] (.int y :: .int x :: S) h = rn 53 33 [l0, l1, l2, l3] (.int (x - y) :: S) h) ∧
  (∀ (l0 l1 l2 l3 : Value) (o : Nat) (v0 : Value) (v1 : Value) (S : List Value) (h : zH), rn 53 33 [l0, l1, l2, l3] (v1 :: v0 :: .ref o :: S) h = if zkd h o = 4 ∧ zsum S ≤ 8 then zcall (ev 54 [.ref o, v0, v1] h) (fun v h => rn 53 36 [l0, l1, l2, l3] (zpush v S) h) else none) ∧
  (∀ (l0 l1 l2 : Value) (x : Int32) (S : List Value) (h : zH), rn 53 36 [l0, l1, l2, .int x] S h = nl l2 (rn 53 39 [l0, l1, l2, .int (x + (-1))] S h)) ∧
  (∀ (l0 l1 l2 l3 : Value) (S : List Value) (h : zH), rn 53 39 [l0, l1, l2, l3] S h = rn 53 23 [l0, l1, l2, l3] S h) ∧
  (∀ (l0 l1 l2 l3 : Value) (h : zH), rn 53 42 [l0, l1, l2, l3] [] h = some (none, h)) := ⟨fun _ _ _ _ _ _ => r_iload_n (show zdec 53 0 = some (.iload_n 1, 1) by decide +kernel) rfl rfl,
  fun _ _ _ _ _ _ _ => r_istore_n (show zdec 53 1 = some (.istore_n 3, 1) by decide +kernel) rfl rfl (Nat.le_of_ble_eq_true rfl) rfl rfl,
  fun _ _ _ _ _ _ => r_iload_n (show zdec 53 3 = some (.iload_n 2, 1) by decide +kernel) rfl rfl,
  fun _ _ _ _ _ _ _ _ => r_icmpge (show zdec 53 4 = some (.if_icmp .ge 17, 3) by decide +kernel) rfl rfl,
  fun _ _ _ _ _ _ => r_aload_nr (show zdec 53 7 = some (.aload_n 0, 1) by decide +kernel) rfl rfl,
  fun _ _ _ _ _ _ => r_iload_n (show zdec 53 8 = some (.iload_n 3, 1) by decide +kernel) rfl rfl,
  fun _ _ _ _ _ _ => r_iload_n (show zdec 53 9 = some (.iload_n 3, 1) by decide +kernel) rfl rfl,
  fun _ _ _ _ _ _ => r_iconst (show zdec 53 10 = some (.iconst 1, 1) by decide +kernel) rfl rfl,
  fun _ _ _ _ _ _ _ _ => r_iadd (show zdec 53 11 = some (.iadd, 1) by decide +kernel) rfl,
  fun _ _ _ _ _ _ _ _ _ => r_cV [_, _] rfl (show zdec 53 12 = some (.invokevirtual 45, 3) by decide +kernel) (show zst.lookup (53 * zKEY + 45) = some (1, 54, 2, 4) by decide +kernel) (by decide) rfl,
  fun _ _ _ _ _ _ => r_iinc (show zdec 53 15 = some (.iinc 3 1, 3) by decide +kernel) rfl rfl rfl (Nat.le_of_ble_eq_true rfl) rfl rfl,
  fun _ _ _ _ _ _ => r_goto (show zdec 53 18 = some (.goto (-16), 3) by decide +kernel) rfl,
  fun _ _ _ _ _ _ => r_iload_n (show zdec 53 21 = some (.iload_n 1, 1) by decide +kernel) rfl rfl,
  fun _ _ _ _ _ _ _ => r_istore_n (show zdec 53 22 = some (.istore_n 3, 1) by decide +kernel) rfl rfl (Nat.le_of_ble_eq_true rfl) rfl rfl,
  fun _ _ _ _ _ _ => r_iload_n (show zdec 53 24 = some (.iload_n 2, 1) by decide +kernel) rfl rfl,
  fun _ _ _ _ _ _ _ _ => r_icmple (show zdec 53 25 = some (.if_icmp .le 17, 3) by decide +kernel) rfl rfl,
  fun _ _ _ _ _ _ => r_aload_nr (show zdec 53 28 = some (.aload_n 0, 1) by decide +kernel) rfl rfl,
  fun _ _ _ _ _ _ => r_iload_n (show zdec 53 29 = some (.iload_n 3, 1) by decide +kernel) rfl rfl,
  fun _ _ _ _ _ _ => r_iload_n (show zdec 53 30 = some (.iload_n 3, 1) by decide +kernel) rfl rfl,
  fun _ _ _ _ _ _ => r_iconst (show zdec 53 31 = some (.iconst 1, 1) by decide +kernel) rfl rfl,
  fun _ _ _ _ _ _ _ _ => r_isub (show zdec 53 32 = some (.isub, 1) by decide +kernel) rfl,
  fun _ _ _ _ _ _ _ _ _ => r_cV [_, _] rfl (show zdec 53 33 = some (.invokevirtual 45, 3) by decide +kernel) (show zst.lookup (53 * zKEY + 45) = some (1, 54, 2, 4) by decide +kernel) (by decide) rfl,
  fun _ _ _ _ _ _ => r_iinc (show zdec 53 36 = some (.iinc 3 (-1), 3) by decide +kernel) rfl rfl rfl (Nat.le_of_ble_eq_true rfl) rfl rfl,
  fun _ _ _ _ _ _ => r_goto (show zdec 53 39 = some (.goto (-16), 3) by decide +kernel) rfl,
  fun _ _ _ _ _ => r_vret (show zdec 53 42 = some (.return_, 1) by decide +kernel) (by decide +kernel)⟩
theorem zl_53_2 : ∀ (l0 l1 l2 : Value) (x : Int32) (S : List Value) (h : zH), rn 53 2 [l0, l1, l2, .int x] S h = rn 53 3 [l0, l1, l2, .int x] (.int x :: S) h := fun _ _ _ _ _ _ => r_iload_n (show zdec 53 2 = some (.iload_n 3, 1) by decide +kernel) rfl rfl
theorem zl_53_23 : ∀ (l0 l1 l2 : Value) (x : Int32) (S : List Value) (h : zH), rn 53 23 [l0, l1, l2, .int x] S h = rn 53 24 [l0, l1, l2, .int x] (.int x :: S) h := fun _ _ _ _ _ _ => r_iload_n (show zdec 53 23 = some (.iload_n 3, 1) by decide +kernel) rfl rfl
theorem ze_53 : ∀ (a0 : Nat) (a1 : Int32) (a2 : Int32) (h : zH), ev 53 [.ref a0, .int a1, .int a2] h = rn 53 0 [.ref a0, .int a1, .int a2, .float 0] [] h := fun _ _ _ _ => if_pos (Nat.le_of_ble_eq_true rfl)
-- PayrollRun/Garnishments.swap(II)V
theorem zr_54 : (∀ (l1 l2 l3 l4 l5 l6 l7 : Value) (x : Nat) (S : List Value) (h : zH), rn 54 0 [.ref x, l1, l2, l3, l4, l5, l6, l7] S h = rn 54 1 [.ref x, l1, l2, l3, l4, l5, l6, l7] (.ref x :: S) h) ∧
  (∀ (l0 l2 l3 l4 l5 l6 l7 : Value) (x : Int32) (S : List Value) (h : zH), rn 54 1 [l0, .int x, l2, l3, l4, l5, l6, l7] S h = rn 54 2 [l0, .int x, l2, l3, l4, l5, l6, l7] (.int x :: S) h) ∧
  (∀ (l0 l1 l2 l3 l4 l5 l6 l7 : Value) (o : Nat) (v0 : Value) (S : List Value) (h : zH), rn 54 2 [l0, l1, l2, l3, l4, l5, l6, l7] (v0 :: .ref o :: S) h = if zkd h o = 4 ∧ zsum S ≤ 8 then zcall (ev 51 [.ref o, v0] h) (fun v h => rn 54 5 [l0, l1, l2, l3, l4, l5, l6, l7] (zpush v S) h) else none) ∧
  (∀ (l0 l1 l2 l3 l4 l5 l6 l7 : Value) (x : Int32) (S : List Value) (h : zH), rn 54 5 [l0, l1, l2, l3, l4, l5, l6, l7] (.int x :: S) h = if x = nI 0 then rn 54 16 [l0, l1, l2, l3, l4, l5, l6, l7] S h else rn 54 8 [l0, l1, l2, l3, l4, l5, l6, l7] S h) ∧
  (∀ (l1 l2 l3 l4 l5 l6 l7 : Value) (x : Nat) (S : List Value) (h : zH), rn 54 8 [.ref x, l1, l2, l3, l4, l5, l6, l7] S h = rn 54 9 [.ref x, l1, l2, l3, l4, l5, l6, l7] (.ref x :: S) h) ∧
  (∀ (l0 l1 l3 l4 l5 l6 l7 : Value) (x : Int32) (S : List Value) (h : zH), rn 54 9 [l0, l1, .int x, l3, l4, l5, l6, l7] S h = rn 54 10 [l0, l1, .int x, l3, l4, l5, l6, l7] (.int x :: S) h) ∧
  (∀ (l0 l1 l2 l3 l4 l5 l6 l7 : Value) (o : Nat) (v0 : Value) (S : List Value) (h : zH), rn 54 10 [l0, l1, l2, l3, l4, l5, l6, l7] (v0 :: .ref o :: S) h = if zkd h o = 4 ∧ zsum S ≤ 8 then zcall (ev 51 [.ref o, v0] h) (fun v h => rn 54 13 [l0, l1, l2, l3, l4, l5, l6, l7] (zpush v S) h) else none) ∧
  (∀ (l0 l1 l2 l3 l4 l5 l6 l7 : Value) (x : Int32) (S : List Value) (h : zH), rn 54 13 [l0, l1, l2, l3, l4, l5, l6, l7] (.int x :: S) h = if x = nI 0 then rn 54 16 [l0, l1, l2, l3, l4, l5, l6, l7] S h else rn 54 17 [l0, l1, l2, l3, l4, l5, l6, l7] S h) ∧
  (∀ (l0 l1 l2 l3 l4 l5 l6 l7 : Value) (h : zH), rn 54 16 [l0, l1, l2, l3, l4, l5, l6, l7] [] h = some (none, h)) ∧
  (∀ (l1 l2 l3 l4 l5 l6 l7 : Value) (x : Nat) (S : List Value) (h : zH), rn 54 17 [.ref x, l1, l2, l3, l4, l5, l6, l7] S h = rn 54 18 [.ref x, l1, l2, l3, l4, l5, l6, l7] (.ref x :: S) h) ∧
  (∀ (l0 l1 l2 l3 l4 l5 l6 l7 : Value) (a : Nat) (S : List Value) (h : zH), rn 54 18 [l0, l1, l2, l3, l4, l5, l6, l7] (.ref a :: S) h = zgf h a 4 0 fun v => rn 54 21 [l0, l1, l2, l3, l4, l5, l6, l7] (v :: S) h) ∧
  (∀ (l0 l2 l3 l4 l5 l6 l7 : Value) (x : Int32) (S : List Value) (h : zH), rn 54 21 [l0, .int x, l2, l3, l4, l5, l6, l7] S h = rn 54 22 [l0, .int x, l2, l3, l4, l5, l6, l7] (.int x :: S) h) ∧
  (∀ (l0 l1 l2 l3 l4 l5 l6 l7 : Value) (a : Nat) (j : Int32) (S : List Value) (h : zH), rn 54 22 [l0, l1, l2, l3, l4, l5, l6, l7] (.int j :: .ref a :: S) h = zli h a 0 j fun x => rn 54 23 [l0, l1, l2, l3, l4, l5, l6, l7] (.int x :: S) h) ∧
  (∀ (l0 l1 l2 l3 l4 l5 l6 l7 : Value) (x : Int32) (S : List Value) (h : zH), rn 54 23 [l0, l1, l2, l3, l4, l5, l6, l7] (.int x :: S) h = nl l2 (rn 54 24 [l0, l1, l2, .int x, l4, l5, l6, l7] S h)) ∧
  (∀ (l1 l2 l3 l4 l5 l6 l7 : Value) (x : Nat) (S : List Value) (h : zH), rn 54 24 [.ref x, l1, l2, l3, l4, l5, l6, l7] S h = rn 54 25 [.ref x, l1, l2, l3, l4, l5, l6, l7] (.ref x :: S) h) ∧
  (∀ (l0 l1 l2 l3 l4 l5 l6 l7 : Value) (a : Nat) (S : List Value) (h : zH), rn 54 25 [l0, l1, l2, l3, l4, l5, l6, l7] (.ref a :: S) h = zgf h a 4 1 fun v => rn 54 28 [l0, l1, l2, l3, l4, l5, l6, l7] (v :: S) h) ∧
  (∀ (l0 l2 l3 l4 l5 l6 l7 : Value) (x : Int32) (S : List Value) (h : zH), rn 54 28 [l0, .int x, l2, l3, l4, l5, l6, l7] S h = rn 54 29 [l0, .int x, l2, l3, l4, l5, l6, l7] (.int x :: S) h) ∧
  (∀ (l0 l1 l2 l3 l4 l5 l6 l7 : Value) (a : Nat) (j : Int32) (S : List Value) (h : zH), rn 54 29 [l0, l1, l2, l3, l4, l5, l6, l7] (.int j :: .ref a :: S) h = zli h a 0 j fun x => rn 54 30 [l0, l1, l2, l3, l4, l5, l6, l7] (.int x :: S) h) ∧
  (∀ (l0 l1 l2 l3 l4 l5 l6 l7 : Value) (x : Int32) (S : List Value) (h : zH), rn 54 30 [l0, l1, l2, l3, l4, l5, l6, l7] (.int x :: S) h = nl l3 (rn 54 32 [l0, l1, l2, l3, .int x, l5, l6, l7] S h)) ∧
  (∀ (l1 l2 l3 l4 l5 l6 l7 : Value) (x : Nat) (S : List Value) (h : zH), rn 54 32 [.ref x, l1, l2, l3, l4, l5, l6, l7] S h = rn 54 33 [.ref x, l1, l2, l3, l4, l5, l6, l7] (.ref x :: S) h) ∧
  (∀ (l0 l1 l2 l3 l4 l5 l6 l7 : Value) (a : Nat) (S : List Value) (h : zH), rn 54 33 [l0, l1, l2, l3, l4, l5, l6, l7] (.ref a :: S) h = zgf h a 4 2 fun v => rn 54 36 [l0, l1, l2, l3, l4, l5, l6, l7] (v :: S) h) ∧
  (∀ (l0 l2 l3 l4 l5 l6 l7 : Value) (x : Int32) (S : List Value) (h : zH), rn 54 36 [l0, .int x, l2, l3, l4, l5, l6, l7] S h = rn 54 37 [l0, .int x, l2, l3, l4, l5, l6, l7] (.int x :: S) h) ∧
  (∀ (l0 l1 l2 l3 l4 l5 l6 l7 : Value) (a : Nat) (j : Int32) (S : List Value) (h : zH), rn 54 37 [l0, l1, l2, l3, l4, l5, l6, l7] (.int j :: .ref a :: S) h = zli h a 0 j fun x => rn 54 38 [l0, l1, l2, l3, l4, l5, l6, l7] (.int x :: S) h) ∧
  (∀ (l0 l1 l2 l3 l4 l5 l6 l7 : Value) (x : Int32) (S : List Value) (h : zH), rn 54 38 [l0, l1, l2, l3, l4, l5, l6, l7] (.int x :: S) h = nl l4 (rn 54 40 [l0, l1, l2, l3, l4, .int x, l6, l7] S h)) ∧
  (∀ (l1 l2 l3 l4 l5 l6 l7 : Value) (x : Nat) (S : List Value) (h : zH), rn 54 40 [.ref x, l1, l2, l3, l4, l5, l6, l7] S h = rn 54 41 [.ref x, l1, l2, l3, l4, l5, l6, l7] (.ref x :: S) h) ∧
  (∀ (l0 l1 l2 l3 l4 l5 l6 l7 : Value) (a : Nat) (S : List Value) (h : zH), rn 54 41 [l0, l1, l2, l3, l4, l5, l6, l7] (.ref a :: S) h = zgf h a 4 3 fun v => rn 54 44 [l0, l1, l2, l3, l4, l5, l6, l7] (v :: S) h) ∧
  (∀ (l0 l2 l3 l4 l5 l6 l7 : Value) (x : Int32) (S : List Value) (h : zH), rn 54 44 [l0, .int x, l2, l3, l4, l5, l6, l7] S h = rn 54 45 [l0, .int x, l2, l3, l4, l5, l6, l7] (.int x :: S) h) ∧
  (∀ (l0 l1 l2 l3 l4 l5 l6 l7 : Value) (a : Nat) (j : Int32) (S : List Value) (h : zH), rn 54 45 [l0, l1, l2, l3, l4, l5, l6, l7] (.int j :: .ref a :: S) h = zlj h a j fun x => rn 54 46 [l0, l1, l2, l3, l4, l5, l6, l7] (.long x :: S) h) ∧
  (∀ (l0 l1 l2 l3 l4 l5 l6 l7 : Value) (x : Int64) (S : List Value) (h : zH), rn 54 46 [l0, l1, l2, l3, l4, l5, l6, l7] (.long x :: S) h = nl l5 (rn 54 48 [l0, l1, l2, l3, l4, l5, .long x, .float 0] S h)) ∧
  (∀ (l1 l2 l3 l4 l5 l6 l7 : Value) (x : Nat) (S : List Value) (h : zH), rn 54 48 [.ref x, l1, l2, l3, l4, l5, l6, l7] S h = rn 54 49 [.ref x, l1, l2, l3, l4, l5, l6, l7] (.ref x :: S) h) ∧
  (∀ (l0 l1 l2 l3 l4 l5 l6 l7 : Value) (a : Nat) (S : List Value) (h : zH), rn 54 49 [l0, l1, l2, l3, l4, l5, l6, l7] (.ref a :: S) h = zgf h a 4 0 fun v => rn 54 52 [l0, l1, l2, l3, l4, l5, l6, l7] (v :: S) h) ∧
  (∀ (l0 l2 l3 l4 l5 l6 l7 : Value) (x : Int32) (S : List Value) (h : zH), rn 54 52 [l0, .int x, l2, l3, l4, l5, l6, l7] S h = rn 54 53 [l0, .int x, l2, l3, l4, l5, l6, l7] (.int x :: S) h) ∧
  (∀ (l1 l2 l3 l4 l5 l6 l7 : Value) (x : Nat) (S : List Value) (h : zH), rn 54 53 [.ref x, l1, l2, l3, l4, l5, l6, l7] S h = rn 54 54 [.ref x, l1, l2, l3, l4, l5, l6, l7] (.ref x :: S) h) ∧
  (∀ (l0 l1 l2 l3 l4 l5 l6 l7 : Value) (a : Nat) (S : List Value) (h : zH), rn 54 54 [l0, l1, l2, l3, l4, l5, l6, l7] (.ref a :: S) h = zgf h a 4 0 fun v => rn 54 57 [l0, l1, l2, l3, l4, l5, l6, l7] (v :: S) h) ∧
  (∀ (l0 l1 l3 l4 l5 l6 l7 : Value) (x : Int32) (S : List Value) (h : zH), rn 54 57 [l0, l1, .int x, l3, l4, l5, l6, l7] S h = rn 54 58 [l0, l1, .int x, l3, l4, l5, l6, l7] (.int x :: S) h) ∧
  (∀ (l0 l1 l2 l3 l4 l5 l6 l7 : Value) (a : Nat) (j : Int32) (S : List Value) (h : zH), rn 54 58 [l0, l1, l2, l3, l4, l5, l6, l7] (.int j :: .ref a :: S) h = zli h a 0 j fun x => rn 54 59 [l0, l1, l2, l3, l4, l5, l6, l7] (.int x :: S) h) ∧
  (∀ (l0 l1 l2 l3 l4 l5 l6 l7 : Value) (a : Nat) (j : Int32) (x : Int32) (S : List Value) (h : zH), rn 54 59 [l0, l1, l2, l3, l4, l5, l6, l7] (.int x :: .int j :: .ref a :: S) h = zsi h a 0 j x fun h => rn 54 60 [l0, l1, l2, l3, l4, l5, l6, l7] S h) ∧
  (∀ (l1 l2 l3 l4 l5 l6 l7 : Value) (x : Nat) (S : List Value) (h : zH), rn 54 60 [.ref x, l1, l2, l3, l4, l5, l6, l7] S h = rn 54 61 [.ref x, l1, l2, l3, l4, l5, l6, l7] (.ref x :: S) h) ∧
  (∀ (l0 l1 l2 l3 l4 l5 l6 l7 : Value) (a : Nat) (S : List Value) (h : zH), rn 54 61 [l0, l1, l2, l3, l4, l5, l6, l7] (.ref a :: S) h = zgf h a 4 1 fun v => rn 54 64 [l0, l1, l2, l3, l4, l5, l6, l7] (v :: S) h) ∧
  (∀ (l0 l2 l3 l4 l5 l6 l7 : Value) (x : Int32) (S : List Value) (h : zH), rn 54 64 [l0, .int x, l2, l3, l4, l5, l6, l7] S h = rn 54 65 [l0, .int x, l2, l3, l4, l5, l6, l7] (.int x :: S) h) ∧
  (∀ (l1 l2 l3 l4 l5 l6 l7 : Value) (x : Nat) (S : List Value) (h : zH), rn 54 65 [.ref x, l1, l2, l3, l4, l5, l6, l7] S h = rn 54 66 [.ref x, l1, l2, l3, l4, l5, l6, l7] (.ref x :: S) h) ∧
  (∀ (l0 l1 l2 l3 l4 l5 l6 l7 : Value) (a : Nat) (S : List Value) (h : zH), rn 54 66 [l0, l1, l2, l3, l4, l5, l6, l7] (.ref a :: S) h = zgf h a 4 1 fun v => rn 54 69 [l0, l1, l2, l3, l4, l5, l6, l7] (v :: S) h) ∧
  (∀ (l0 l1 l3 l4 l5 l6 l7 : Value) (x : Int32) (S : List Value) (h : zH), rn 54 69 [l0, l1, .int x, l3, l4, l5, l6, l7] S h = rn 54 70 [l0, l1, .int x, l3, l4, l5, l6, l7] (.int x :: S) h) ∧
  (∀ (l0 l1 l2 l3 l4 l5 l6 l7 : Value) (a : Nat) (j : Int32) (S : List Value) (h : zH), rn 54 70 [l0, l1, l2, l3, l4, l5, l6, l7] (.int j :: .ref a :: S) h = zli h a 0 j fun x => rn 54 71 [l0, l1, l2, l3, l4, l5, l6, l7] (.int x :: S) h) ∧
  (∀ (l0 l1 l2 l3 l4 l5 l6 l7 : Value) (a : Nat) (j : Int32) (x : Int32) (S : List Value) (h : zH), rn 54 71 [l0, l1, l2, l3, l4, l5, l6, l7] (.int x :: .int j :: .ref a :: S) h = zsi h a 0 j x fun h => rn 54 72 [l0, l1, l2, l3, l4, l5, l6, l7] S h) ∧
  (∀ (l1 l2 l3 l4 l5 l6 l7 : Value) (x : Nat) (S : List Value) (h : zH), rn 54 72 [.ref x, l1, l2, l3, l4, l5, l6, l7] S h = rn 54 73 [.ref x, l1, l2, l3, l4, l5, l6, l7] (.ref x :: S) h) ∧
  (∀ (l0 l1 l2 l3 l4 l5 l6 l7 : Value) (a : Nat) (S : List Value) (h : zH), rn 54 73 [l0, l1, l2, l3, l4, l5, l6, l7] (.ref a :: S) h = zgf h a 4 2 fun v => rn 54 76 [l0, l1, l2, l3, l4, l5, l6, l7] (v :: S) h) ∧
  (∀ (l0 l2 l3 l4 l5 l6 l7 : Value) (x : Int32) (S : List Value) (h : zH), rn 54 76 [l0, .int x, l2, l3, l4, l5, l6, l7] S h = rn 54 77 [l0, .int x, l2, l3, l4, l5, l6, l7] (.int x :: S) h) ∧
  (∀ (l1 l2 l3 l4 l5 l6 l7 : Value) (x : Nat) (S : List Value) (h : zH), rn 54 77 [.ref x, l1, l2, l3, l4, l5, l6, l7] S h = rn 54 78 [.ref x, l1, l2, l3, l4, l5, l6, l7] (.ref x :: S) h) ∧
  (∀ (l0 l1 l2 l3 l4 l5 l6 l7 : Value) (a : Nat) (S : List Value) (h : zH), rn 54 78 [l0, l1, l2, l3, l4, l5, l6, l7] (.ref a :: S) h = zgf h a 4 2 fun v => rn 54 81 [l0, l1, l2, l3, l4, l5, l6, l7] (v :: S) h) ∧
  (∀ (l0 l1 l3 l4 l5 l6 l7 : Value) (x : Int32) (S : List Value) (h : zH), rn 54 81 [l0, l1, .int x, l3, l4, l5, l6, l7] S h = rn 54 82 [l0, l1, .int x, l3, l4, l5, l6, l7] (.int x :: S) h) ∧
  (∀ (l0 l1 l2 l3 l4 l5 l6 l7 : Value) (a : Nat) (j : Int32) (S : List Value) (h : zH), rn 54 82 [l0, l1, l2, l3, l4, l5, l6, l7] (.int j :: .ref a :: S) h = zli h a 0 j fun x => rn 54 83 [l0, l1, l2, l3, l4, l5, l6, l7] (.int x :: S) h) ∧
  (∀ (l0 l1 l2 l3 l4 l5 l6 l7 : Value) (a : Nat) (j : Int32) (x : Int32) (S : List Value) (h : zH), rn 54 83 [l0, l1, l2, l3, l4, l5, l6, l7] (.int x :: .int j :: .ref a :: S) h = zsi h a 0 j x fun h => rn 54 84 [l0, l1, l2, l3, l4, l5, l6, l7] S h) ∧
  (∀ (l1 l2 l3 l4 l5 l6 l7 : Value) (x : Nat) (S : List Value) (h : zH), rn 54 84 [.ref x, l1, l2, l3, l4, l5, l6, l7] S h = rn 54 85 [.ref x, l1, l2, l3, l4, l5, l6, l7] (.ref x :: S) h) ∧
  (∀ (l0 l1 l2 l3 l4 l5 l6 l7 : Value) (a : Nat) (S : List Value) (h : zH), rn 54 85 [l0, l1, l2, l3, l4, l5, l6, l7] (.ref a :: S) h = zgf h a 4 3 fun v => rn 54 88 [l0, l1, l2, l3, l4, l5, l6, l7] (v :: S) h) ∧
  (∀ (l0 l2 l3 l4 l5 l6 l7 : Value) (x : Int32) (S : List Value) (h : zH), rn 54 88 [l0, .int x, l2, l3, l4, l5, l6, l7] S h = rn 54 89 [l0, .int x, l2, l3, l4, l5, l6, l7] (.int x :: S) h) ∧
  (∀ (l1 l2 l3 l4 l5 l6 l7 : Value) (x : Nat) (S : List Value) (h : zH), rn 54 89 [.ref x, l1, l2, l3, l4, l5, l6, l7] S h = rn 54 90 [.ref x, l1, l2, l3, l4, l5, l6, l7] (.ref x :: S) h) ∧
  (∀ (l0 l1 l2 l3 l4 l5 l6 l7 : Value) (a : Nat) (S : List Value) (h : zH), rn 54 90 [l0, l1, l2, l3, l4, l5, l6, l7] (.ref a :: S) h = zgf h a 4 3 fun v => rn 54 93 [l0, l1, l2, l3, l4, l5, l6, l7] (v :: S) h) ∧
  (∀ (l0 l1 l3 l4 l5 l6 l7 : Value) (x : Int32) (S : List Value) (h : zH), rn 54 93 [l0, l1, .int x, l3, l4, l5, l6, l7] S h = rn 54 94 [l0, l1, .int x, l3, l4, l5, l6, l7] (.int x :: S) h) ∧
  (∀ (l0 l1 l2 l3 l4 l5 l6 l7 : Value) (a : Nat) (j : Int32) (S : List Value) (h : zH), rn 54 94 [l0, l1, l2, l3, l4, l5, l6, l7] (.int j :: .ref a :: S) h = zlj h a j fun x => rn 54 95 [l0, l1, l2, l3, l4, l5, l6, l7] (.long x :: S) h) ∧
  (∀ (l0 l1 l2 l3 l4 l5 l6 l7 : Value) (a : Nat) (j : Int32) (x : Int64) (S : List Value) (h : zH), rn 54 95 [l0, l1, l2, l3, l4, l5, l6, l7] (.long x :: .int j :: .ref a :: S) h = zsj h a j x fun h => rn 54 96 [l0, l1, l2, l3, l4, l5, l6, l7] S h) ∧
  (∀ (l1 l2 l3 l4 l5 l6 l7 : Value) (x : Nat) (S : List Value) (h : zH), rn 54 96 [.ref x, l1, l2, l3, l4, l5, l6, l7] S h = rn 54 97 [.ref x, l1, l2, l3, l4, l5, l6, l7] (.ref x :: S) h) ∧
  (∀ (l0 l1 l2 l3 l4 l5 l6 l7 : Value) (a : Nat) (S : List Value) (h : zH), rn 54 97 [l0, l1, l2, l3, l4, l5, l6, l7] (.ref a :: S) h = zgf h a 4 0 fun v => rn 54 100 [l0, l1, l2, l3, l4, l5, l6, l7] (v :: S) h) ∧
  (∀ (l0 l1 l3 l4 l5 l6 l7 : Value) (x : Int32) (S : List Value) (h : zH), rn 54 100 [l0, l1, .int x, l3, l4, l5, l6, l7] S h = rn 54 101 [l0, l1, .int x, l3, l4, l5, l6, l7] (.int x :: S) h) ∧
  (∀ (l0 l1 l2 l4 l5 l6 l7 : Value) (x : Int32) (S : List Value) (h : zH), rn 54 101 [l0, l1, l2, .int x, l4, l5, l6, l7] S h = rn 54 102 [l0, l1, l2, .int x, l4, l5, l6, l7] (.int x :: S) h) ∧
  (∀ (l0 l1 l2 l3 l4 l5 l6 l7 : Value) (a : Nat) (j : Int32) (x : Int32) (S : List Value) (h : zH), rn 54 102 [l0, l1, l2, l3, l4, l5, l6, l7] (.int x :: .int j :: .ref a :: S) h = zsi h a 0 j x fun h => rn 54 103 [l0, l1, l2, l3, l4, l5, l6, l7] S h) ∧
  (∀ (l1 l2 l3 l4 l5 l6 l7 : Value) (x : Nat) (S : List Value) (h : zH), rn 54 103 [.ref x, l1, l2, l3, l4, l5, l6, l7] S h = rn 54 104 [.ref x, l1, l2, l3, l4, l5, l6, l7] (.ref x :: S) h) ∧
  (∀ (l0 l1 l2 l3 l4 l5 l6 l7 : Value) (a : Nat) (S : List Value) (h : zH), rn 54 104 [l0, l1, l2, l3, l4, l5, l6, l7] (.ref a :: S) h = zgf h a 4 1 fun v => rn 54 107 [l0, l1, l2, l3, l4, l5, l6, l7] (v :: S) h) ∧
  (∀ (l0 l1 l3 l4 l5 l6 l7 : Value) (x : Int32) (S : List Value) (h : zH), rn 54 107 [l0, l1, .int x, l3, l4, l5, l6, l7] S h = rn 54 108 [l0, l1, .int x, l3, l4, l5, l6, l7] (.int x :: S) h) ∧
  (∀ (l0 l1 l2 l3 l5 l6 l7 : Value) (x : Int32) (S : List Value) (h : zH), rn 54 108 [l0, l1, l2, l3, .int x, l5, l6, l7] S h = rn 54 110 [l0, l1, l2, l3, .int x, l5, l6, l7] (.int x :: S) h) ∧
  (∀ (l0 l1 l2 l3 l4 l5 l6 l7 : Value) (a : Nat) (j : Int32) (x : Int32) (S : List Value) (h : zH), rn 54 110 [l0, l1, l2, l3, l4, l5, l6, l7] (.int x :: .int j :: .ref a :: S) h = zsi h a 0 j x fun h => rn 54 111 [l0, l1, l2, l3, l4, l5, l6, l7] S h) ∧
  (∀ (l1 l2 l3 l4 l5 l6 l7 : Value) (x : Nat) (S : List Value) (h : zH), rn 54 111 [.ref x, l1, l2, l3, l4, l5, l6, l7] S h = rn 54 112 [.ref x, l1, l2, l3, l4, l5, l6, l7] (.ref x :: S) h) ∧
  (∀ (l0 l1 l2 l3 l4 l5 l6 l7 : Value) (a : Nat) (S : List Value) (h : zH), rn 54 112 [l0, l1, l2, l3, l4, l5, l6, l7] (.ref a :: S) h = zgf h a 4 2 fun v => rn 54 115 [l0, l1, l2, l3, l4, l5, l6, l7] (v :: S) h) ∧
  (∀ (l0 l1 l3 l4 l5 l6 l7 : Value) (x : Int32) (S : List Value) (h : zH), rn 54 115 [l0, l1, .int x, l3, l4, l5, l6, l7] S h = rn 54 116 [l0, l1, .int x, l3, l4, l5, l6, l7] (.int x :: S) h) ∧
  (∀ (l0 l1 l2 l3 l4 l6 l7 : Value) (x : Int32) (S : List Value) (h : zH), rn 54 116 [l0, l1, l2, l3, l4, .int x, l6, l7] S h = rn 54 118 [l0, l1, l2, l3, l4, .int x, l6, l7] (.int x :: S) h) ∧
  (∀ (l0 l1 l2 l3 l4 l5 l6 l7 : Value) (a : Nat) (j : Int32) (x : Int32) (S : List Value) (h : zH), rn 54 118 [l0, l1, l2, l3, l4, l5, l6, l7] (.int x :: .int j :: .ref a :: S) h = zsi h a 0 j x fun h => rn 54 119 [l0, l1, l2, l3, l4, l5, l6, l7] S h) ∧
  (∀ (l1 l2 l3 l4 l5 l6 l7 : Value) (x : Nat) (S : List Value) (h : zH), rn 54 119 [.ref x, l1, l2, l3, l4, l5, l6, l7] S h = rn 54 120 [.ref x, l1, l2, l3, l4, l5, l6, l7] (.ref x :: S) h) ∧
  (∀ (l0 l1 l2 l3 l4 l5 l6 l7 : Value) (a : Nat) (S : List Value) (h : zH), rn 54 120 [l0, l1, l2, l3, l4, l5, l6, l7] (.ref a :: S) h = zgf h a 4 3 fun v => rn 54 123 [l0, l1, l2, l3, l4, l5, l6, l7] (v :: S) h) ∧
  (∀ (l0 l1 l3 l4 l5 l6 l7 : Value) (x : Int32) (S : List Value) (h : zH), rn 54 123 [l0, l1, .int x, l3, l4, l5, l6, l7] S h = rn 54 124 [l0, l1, .int x, l3, l4, l5, l6, l7] (.int x :: S) h) ∧
  (∀ (l0 l1 l2 l3 l4 l5 l7 : Value) (x : Int64) (S : List Value) (h : zH), rn 54 124 [l0, l1, l2, l3, l4, l5, .long x, l7] S h = rn 54 126 [l0, l1, l2, l3, l4, l5, .long x, l7] (.long x :: S) h) ∧
  (∀ (l0 l1 l2 l3 l4 l5 l6 l7 : Value) (a : Nat) (j : Int32) (x : Int64) (S : List Value) (h : zH), rn 54 126 [l0, l1, l2, l3, l4, l5, l6, l7] (.long x :: .int j :: .ref a :: S) h = zsj h a j x fun h => rn 54 127 [l0, l1, l2, l3, l4, l5, l6, l7] S h) ∧
  (∀ (l0 l1 l2 l3 l4 l5 l6 l7 : Value) (h : zH), rn 54 127 [l0, l1, l2, l3, l4, l5, l6, l7] [] h = some (none, h)) := ⟨fun _ _ _ _ _ _ _ _ _ _ => r_aload_nr (show zdec 54 0 = some (.aload_n 0, 1) by decide +kernel) rfl rfl,
  fun _ _ _ _ _ _ _ _ _ _ => r_iload_n (show zdec 54 1 = some (.iload_n 1, 1) by decide +kernel) rfl rfl,
  fun _ _ _ _ _ _ _ _ _ _ _ _ => r_cV [_] rfl (show zdec 54 2 = some (.invokevirtual 48, 3) by decide +kernel) (show zst.lookup (54 * zKEY + 48) = some (1, 51, 1, 4) by decide +kernel) (by decide) rfl,
  fun _ _ _ _ _ _ _ _ _ _ _ => r_ifeq (show zdec 54 5 = some (.ifCond .eq 11, 3) by decide +kernel) rfl rfl,
  fun _ _ _ _ _ _ _ _ _ _ => r_aload_nr (show zdec 54 8 = some (.aload_n 0, 1) by decide +kernel) rfl rfl,
  fun _ _ _ _ _ _ _ _ _ _ => r_iload_n (show zdec 54 9 = some (.iload_n 2, 1) by decide +kernel) rfl rfl,
  fun _ _ _ _ _ _ _ _ _ _ _ _ => r_cV [_] rfl (show zdec 54 10 = some (.invokevirtual 48, 3) by decide +kernel) (show zst.lookup (54 * zKEY + 48) = some (1, 51, 1, 4) by decide +kernel) (by decide) rfl,
  fun _ _ _ _ _ _ _ _ _ _ _ => r_ifne (show zdec 54 13 = some (.ifCond .ne 4, 3) by decide +kernel) rfl rfl,
  fun _ _ _ _ _ _ _ _ _ => r_vret (show zdec 54 16 = some (.return_, 1) by decide +kernel) (by decide +kernel),
  fun _ _ _ _ _ _ _ _ _ _ => r_aload_nr (show zdec 54 17 = some (.aload_n 0, 1) by decide +kernel) rfl rfl,
  fun _ _ _ _ _ _ _ _ _ _ _ => r_getfield (show zdec 54 18 = some (.getfield 9, 3) by decide +kernel) (show zft.lookup (54 * zKEY + 9) = some (4, 0) by decide +kernel) rfl,
  fun _ _ _ _ _ _ _ _ _ _ => r_iload_n (show zdec 54 21 = some (.iload_n 1, 1) by decide +kernel) rfl rfl,
  fun _ _ _ _ _ _ _ _ _ _ _ _ => r_iald (show zdec 54 22 = some (.iaload, 1) by decide +kernel) rfl,
  fun _ _ _ _ _ _ _ _ _ _ _ => r_istore_n (show zdec 54 23 = some (.istore_n 3, 1) by decide +kernel) rfl rfl (Nat.le_of_ble_eq_true rfl) rfl rfl,
  fun _ _ _ _ _ _ _ _ _ _ => r_aload_nr (show zdec 54 24 = some (.aload_n 0, 1) by decide +kernel) rfl rfl,
  fun _ _ _ _ _ _ _ _ _ _ _ => r_getfield (show zdec 54 25 = some (.getfield 15, 3) by decide +kernel) (show zft.lookup (54 * zKEY + 15) = some (4, 1) by decide +kernel) rfl,
  fun _ _ _ _ _ _ _ _ _ _ => r_iload_n (show zdec 54 28 = some (.iload_n 1, 1) by decide +kernel) rfl rfl,
  fun _ _ _ _ _ _ _ _ _ _ _ _ => r_iald (show zdec 54 29 = some (.iaload, 1) by decide +kernel) rfl,
  fun _ _ _ _ _ _ _ _ _ _ _ => r_istore (show zdec 54 30 = some (.istore 4, 2) by decide +kernel) rfl (Nat.le_of_ble_eq_true rfl) rfl rfl,
  fun _ _ _ _ _ _ _ _ _ _ => r_aload_nr (show zdec 54 32 = some (.aload_n 0, 1) by decide +kernel) rfl rfl,
  fun _ _ _ _ _ _ _ _ _ _ _ => r_getfield (show zdec 54 33 = some (.getfield 18, 3) by decide +kernel) (show zft.lookup (54 * zKEY + 18) = some (4, 2) by decide +kernel) rfl,
  fun _ _ _ _ _ _ _ _ _ _ => r_iload_n (show zdec 54 36 = some (.iload_n 1, 1) by decide +kernel) rfl rfl,
  fun _ _ _ _ _ _ _ _ _ _ _ _ => r_iald (show zdec 54 37 = some (.iaload, 1) by decide +kernel) rfl,
  fun _ _ _ _ _ _ _ _ _ _ _ => r_istore (show zdec 54 38 = some (.istore 5, 2) by decide +kernel) rfl (Nat.le_of_ble_eq_true rfl) rfl rfl,
  fun _ _ _ _ _ _ _ _ _ _ => r_aload_nr (show zdec 54 40 = some (.aload_n 0, 1) by decide +kernel) rfl rfl,
  fun _ _ _ _ _ _ _ _ _ _ _ => r_getfield (show zdec 54 41 = some (.getfield 21, 3) by decide +kernel) (show zft.lookup (54 * zKEY + 21) = some (4, 3) by decide +kernel) rfl,
  fun _ _ _ _ _ _ _ _ _ _ => r_iload_n (show zdec 54 44 = some (.iload_n 1, 1) by decide +kernel) rfl rfl,
  fun _ _ _ _ _ _ _ _ _ _ _ _ => r_lald (show zdec 54 45 = some (.laload, 1) by decide +kernel) rfl,
  fun _ _ _ _ _ _ _ _ _ _ _ => r_lstore (show zdec 54 46 = some (.lstore 6, 2) by decide +kernel) rfl (Nat.le_of_ble_eq_true rfl) rfl rfl,
  fun _ _ _ _ _ _ _ _ _ _ => r_aload_nr (show zdec 54 48 = some (.aload_n 0, 1) by decide +kernel) rfl rfl,
  fun _ _ _ _ _ _ _ _ _ _ _ => r_getfield (show zdec 54 49 = some (.getfield 9, 3) by decide +kernel) (show zft.lookup (54 * zKEY + 9) = some (4, 0) by decide +kernel) rfl,
  fun _ _ _ _ _ _ _ _ _ _ => r_iload_n (show zdec 54 52 = some (.iload_n 1, 1) by decide +kernel) rfl rfl,
  fun _ _ _ _ _ _ _ _ _ _ => r_aload_nr (show zdec 54 53 = some (.aload_n 0, 1) by decide +kernel) rfl rfl,
  fun _ _ _ _ _ _ _ _ _ _ _ => r_getfield (show zdec 54 54 = some (.getfield 9, 3) by decide +kernel) (show zft.lookup (54 * zKEY + 9) = some (4, 0) by decide +kernel) rfl,
  fun _ _ _ _ _ _ _ _ _ _ => r_iload_n (show zdec 54 57 = some (.iload_n 2, 1) by decide +kernel) rfl rfl,
  fun _ _ _ _ _ _ _ _ _ _ _ _ => r_iald (show zdec 54 58 = some (.iaload, 1) by decide +kernel) rfl,
  fun _ _ _ _ _ _ _ _ _ _ _ _ _ => r_iast (show zdec 54 59 = some (.iastore, 1) by decide +kernel) rfl,
  fun _ _ _ _ _ _ _ _ _ _ => r_aload_nr (show zdec 54 60 = some (.aload_n 0, 1) by decide +kernel) rfl rfl,
  fun _ _ _ _ _ _ _ _ _ _ _ => r_getfield (show zdec 54 61 = some (.getfield 15, 3) by decide +kernel) (show zft.lookup (54 * zKEY + 15) = some (4, 1) by decide +kernel) rfl,
  fun _ _ _ _ _ _ _ _ _ _ => r_iload_n (show zdec 54 64 = some (.iload_n 1, 1) by decide +kernel) rfl rfl,
  fun _ _ _ _ _ _ _ _ _ _ => r_aload_nr (show zdec 54 65 = some (.aload_n 0, 1) by decide +kernel) rfl rfl,
  fun _ _ _ _ _ _ _ _ _ _ _ => r_getfield (show zdec 54 66 = some (.getfield 15, 3) by decide +kernel) (show zft.lookup (54 * zKEY + 15) = some (4, 1) by decide +kernel) rfl,
  fun _ _ _ _ _ _ _ _ _ _ => r_iload_n (show zdec 54 69 = some (.iload_n 2, 1) by decide +kernel) rfl rfl,
  fun _ _ _ _ _ _ _ _ _ _ _ _ => r_iald (show zdec 54 70 = some (.iaload, 1) by decide +kernel) rfl,
  fun _ _ _ _ _ _ _ _ _ _ _ _ _ => r_iast (show zdec 54 71 = some (.iastore, 1) by decide +kernel) rfl,
  fun _ _ _ _ _ _ _ _ _ _ => r_aload_nr (show zdec 54 72 = some (.aload_n 0, 1) by decide +kernel) rfl rfl,
  fun _ _ _ _ _ _ _ _ _ _ _ => r_getfield (show zdec 54 73 = some (.getfield 18, 3) by decide +kernel) (show zft.lookup (54 * zKEY + 18) = some (4, 2) by decide +kernel) rfl,
  fun _ _ _ _ _ _ _ _ _ _ => r_iload_n (show zdec 54 76 = some (.iload_n 1, 1) by decide +kernel) rfl rfl,
  fun _ _ _ _ _ _ _ _ _ _ => r_aload_nr (show zdec 54 77 = some (.aload_n 0, 1) by decide +kernel) rfl rfl,
  fun _ _ _ _ _ _ _ _ _ _ _ => r_getfield (show zdec 54 78 = some (.getfield 18, 3) by decide +kernel) (show zft.lookup (54 * zKEY + 18) = some (4, 2) by decide +kernel) rfl,
  fun _ _ _ _ _ _ _ _ _ _ => r_iload_n (show zdec 54 81 = some (.iload_n 2, 1) by decide +kernel) rfl rfl,
  fun _ _ _ _ _ _ _ _ _ _ _ _ => r_iald (show zdec 54 82 = some (.iaload, 1) by decide +kernel) rfl,
  fun _ _ _ _ _ _ _ _ _ _ _ _ _ => r_iast (show zdec 54 83 = some (.iastore, 1) by decide +kernel) rfl,
  fun _ _ _ _ _ _ _ _ _ _ => r_aload_nr (show zdec 54 84 = some (.aload_n 0, 1) by decide +kernel) rfl rfl,
  fun _ _ _ _ _ _ _ _ _ _ _ => r_getfield (show zdec 54 85 = some (.getfield 21, 3) by decide +kernel) (show zft.lookup (54 * zKEY + 21) = some (4, 3) by decide +kernel) rfl,
  fun _ _ _ _ _ _ _ _ _ _ => r_iload_n (show zdec 54 88 = some (.iload_n 1, 1) by decide +kernel) rfl rfl,
  fun _ _ _ _ _ _ _ _ _ _ => r_aload_nr (show zdec 54 89 = some (.aload_n 0, 1) by decide +kernel) rfl rfl,
  fun _ _ _ _ _ _ _ _ _ _ _ => r_getfield (show zdec 54 90 = some (.getfield 21, 3) by decide +kernel) (show zft.lookup (54 * zKEY + 21) = some (4, 3) by decide +kernel) rfl,
  fun _ _ _ _ _ _ _ _ _ _ => r_iload_n (show zdec 54 93 = some (.iload_n 2, 1) by decide +kernel) rfl rfl,
  fun _ _ _ _ _ _ _ _ _ _ _ _ => r_lald (show zdec 54 94 = some (.laload, 1) by decide +kernel) rfl,
  fun _ _ _ _ _ _ _ _ _ _ _ _ _ => r_last (show zdec 54 95 = some (.lastore, 1) by decide +kernel) rfl,
  fun _ _ _ _ _ _ _ _ _ _ => r_aload_nr (show zdec 54 96 = some (.aload_n 0, 1) by decide +kernel) rfl rfl,
  fun _ _ _ _ _ _ _ _ _ _ _ => r_getfield (show zdec 54 97 = some (.getfield 9, 3) by decide +kernel) (show zft.lookup (54 * zKEY + 9) = some (4, 0) by decide +kernel) rfl,
  fun _ _ _ _ _ _ _ _ _ _ => r_iload_n (show zdec 54 100 = some (.iload_n 2, 1) by decide +kernel) rfl rfl,
  fun _ _ _ _ _ _ _ _ _ _ => r_iload_n (show zdec 54 101 = some (.iload_n 3, 1) by decide +kernel) rfl rfl,
  fun _ _ _ _ _ _ _ _ _ _ _ _ _ => r_iast (show zdec 54 102 = some (.iastore, 1) by decide +kernel) rfl,
  fun _ _ _ _ _ _ _ _ _ _ => r_aload_nr (show zdec 54 103 = some (.aload_n 0, 1) by decide +kernel) rfl rfl,
  fun _ _ _ _ _ _ _ _ _ _ _ => r_getfield (show zdec 54 104 = some (.getfield 15, 3) by decide +kernel) (show zft.lookup (54 * zKEY + 15) = some (4, 1) by decide +kernel) rfl,
  fun _ _ _ _ _ _ _ _ _ _ => r_iload_n (show zdec 54 107 = some (.iload_n 2, 1) by decide +kernel) rfl rfl,
  fun _ _ _ _ _ _ _ _ _ _ => r_iload (show zdec 54 108 = some (.iload 4, 2) by decide +kernel) rfl rfl,
  fun _ _ _ _ _ _ _ _ _ _ _ _ _ => r_iast (show zdec 54 110 = some (.iastore, 1) by decide +kernel) rfl,
  fun _ _ _ _ _ _ _ _ _ _ => r_aload_nr (show zdec 54 111 = some (.aload_n 0, 1) by decide +kernel) rfl rfl,
  fun _ _ _ _ _ _ _ _ _ _ _ => r_getfield (show zdec 54 112 = some (.getfield 18, 3) by decide +kernel) (show zft.lookup (54 * zKEY + 18) = some (4, 2) by decide +kernel) rfl,
  fun _ _ _ _ _ _ _ _ _ _ => r_iload_n (show zdec 54 115 = some (.iload_n 2, 1) by decide +kernel) rfl rfl,
  fun _ _ _ _ _ _ _ _ _ _ => r_iload (show zdec 54 116 = some (.iload 5, 2) by decide +kernel) rfl rfl,
  fun _ _ _ _ _ _ _ _ _ _ _ _ _ => r_iast (show zdec 54 118 = some (.iastore, 1) by decide +kernel) rfl,
  fun _ _ _ _ _ _ _ _ _ _ => r_aload_nr (show zdec 54 119 = some (.aload_n 0, 1) by decide +kernel) rfl rfl,
  fun _ _ _ _ _ _ _ _ _ _ _ => r_getfield (show zdec 54 120 = some (.getfield 21, 3) by decide +kernel) (show zft.lookup (54 * zKEY + 21) = some (4, 3) by decide +kernel) rfl,
  fun _ _ _ _ _ _ _ _ _ _ => r_iload_n (show zdec 54 123 = some (.iload_n 2, 1) by decide +kernel) rfl rfl,
  fun _ _ _ _ _ _ _ _ _ _ => r_lload (show zdec 54 124 = some (.lload 6, 2) by decide +kernel) rfl rfl,
  fun _ _ _ _ _ _ _ _ _ _ _ _ _ => r_last (show zdec 54 126 = some (.lastore, 1) by decide +kernel) rfl,
  fun _ _ _ _ _ _ _ _ _ => r_vret (show zdec 54 127 = some (.return_, 1) by decide +kernel) (by decide +kernel)⟩
theorem ze_54 : ∀ (a0 : Nat) (a1 : Int32) (a2 : Int32) (h : zH), ev 54 [.ref a0, .int a1, .int a2] h = rn 54 0 [.ref a0, .int a1, .int a2, .float 0, .float 0, .float 0, .float 0, .float 0] [] h := fun _ _ _ _ => if_pos (Nat.le_of_ble_eq_true rfl)
-- PayrollRun/Closing.close(LPayrollRun/Worker;ILPayrollRun/Rules;ZLPayrollRun/Slip;)V
theorem zr_59 : (∀ (l0 l1 l3 l4 l5 l6 l7 l8 l9 l10 l11 l12 l13 : Value) (x : Int32) (S : List Value) (h : zH), rn 59 0 [l0, l1, .int x, l3, l4, l5, l6, l7, l8, l9, l10, l11, l12, l13] S h = rn 59 1 [l0, l1, .int x, l3, l4, l5, l6, l7, l8, l9, l10, l11, l12, l13] (.int x :: S) h) ∧
  (∀ (l0 l1 l2 l3 l4 l5 l6 l7 l8 l9 l10 l11 l12 l13 : Value) (v0 : Value) (S : List Value) (h : zH), rn 59 1 [l0, l1, l2, l3, l4, l5, l6, l7, l8, l9, l10, l11, l12, l13] (v0 :: S) h = if zsum S ≤ 8 then zcall (ev 25 [v0] h) (fun v h => rn 59 4 [l0, l1, l2, l3, l4, l5, l6, l7, l8, l9, l10, l11, l12, l13] (zpush v S) h) else none) ∧
  (∀ (l0 l1 l2 l3 l4 l5 l6 l7 l8 l9 l10 l11 l12 l13 : Value) (x : Int32) (S : List Value) (h : zH), rn 59 4 [l0, l1, l2, l3, l4, l5, l6, l7, l8, l9, l10, l11, l12, l13] (.int x :: S) h = if x = nI 0 then rn 59 7 [l0, l1, l2, l3, l4, l5, l6, l7, l8, l9, l10, l11, l12, l13] S h else rn 59 8 [l0, l1, l2, l3, l4, l5, l6, l7, l8, l9, l10, l11, l12, l13] S h) ∧
  (∀ (l0 l1 l2 l3 l4 l5 l6 l7 l8 l9 l10 l11 l12 l13 : Value) (h : zH), rn 59 7 [l0, l1, l2, l3, l4, l5, l6, l7, l8, l9, l10, l11, l12, l13] [] h = some (none, h)) ∧
  (∀ (l0 l1 l2 l3 l4 l5 l6 l7 l8 l9 l10 l11 l12 l13 : Value) (S : List Value) (h : zH), rn 59 8 [l0, l1, l2, l3, l4, l5, l6, l7, l8, l9, l10, l11, l12, l13] S h = ldA l3 (rn 59 9 [l0, l1, l2, l3, l4, l5, l6, l7, l8, l9, l10, l11, l12, l13] (l3 :: S) h)) ∧
  (∀ (l0 l1 l2 l3 l4 l5 l6 l7 l8 l9 l10 l11 l12 l13 : Value) (S : List Value) (h : zH), rn 59 9 [l0, l1, l2, l3, l4, l5, l6, l7, l8, l9, l10, l11, l12, l13] S h = ldA l1 (rn 59 10 [l0, l1, l2, l3, l4, l5, l6, l7, l8, l9, l10, l11, l12, l13] (l1 :: S) h)) ∧
  (∀ (l1 l2 l3 l4 l5 l6 l7 l8 l9 l10 l11 l12 l13 : Value) (x : Nat) (S : List Value) (h : zH), rn 59 10 [.ref x, l1, l2, l3, l4, l5, l6, l7, l8, l9, l10, l11, l12, l13] S h = rn 59 11 [.ref x, l1, l2, l3, l4, l5, l6, l7, l8, l9, l10, l11, l12, l13] (.ref x :: S) h) ∧
  (∀ (l0 l1 l2 l3 l4 l5 l6 l7 l8 l9 l10 l11 l12 l13 : Value) (a : Nat) (S : List Value) (h : zH), rn 59 11 [l0, l1, l2, l3, l4, l5, l6, l7, l8, l9, l10, l11, l12, l13] (.ref a :: S) h = zgf h a 2 0 fun v => rn 59 14 [l0, l1, l2, l3, l4, l5, l6, l7, l8, l9, l10, l11, l12, l13] (v :: S) h) ∧
  (∀ (l0 l1 l2 l3 l4 l5 l6 l7 l8 l9 l10 l11 l12 l13 : Value) (o : Nat) (v0 : Value) (v1 : Value) (S : List Value) (h : zH), rn 59 14 [l0, l1, l2, l3, l4, l5, l6, l7, l8, l9, l10, l11, l12, l13] (v1 :: v0 :: .ref o :: S) h = if zkd h o = 6 ∧ zsum S ≤ 8 then zcall (ev 60 [.ref o, v0, v1] h) (fun v h => rn 59 17 [l0, l1, l2, l3, l4, l5, l6, l7, l8, l9, l10, l11, l12, l13] (zpush v S) h) else none) ∧
  (∀ (l1 l2 l3 l4 l5 l6 l7 l8 l9 l10 l11 l12 l13 : Value) (x : Nat) (S : List Value) (h : zH), rn 59 17 [.ref x, l1, l2, l3, l4, l5, l6, l7, l8, l9, l10, l11, l12, l13] S h = rn 59 18 [.ref x, l1, l2, l3, l4, l5, l6, l7, l8, l9, l10, l11, l12, l13] (.ref x :: S) h) ∧
  (∀ (l0 l1 l3 l4 l5 l6 l7 l8 l9 l10 l11 l12 l13 : Value) (x : Int32) (S : List Value) (h : zH), rn 59 18 [l0, l1, .int x, l3, l4, l5, l6, l7, l8, l9, l10, l11, l12, l13] S h = rn 59 19 [l0, l1, .int x, l3, l4, l5, l6, l7, l8, l9, l10, l11, l12, l13] (.int x :: S) h) ∧
  (∀ (l0 l1 l2 l3 l4 l5 l6 l7 l8 l9 l10 l11 l12 l13 : Value) (S : List Value) (h : zH), rn 59 19 [l0, l1, l2, l3, l4, l5, l6, l7, l8, l9, l10, l11, l12, l13] S h = ldA l5 (rn 59 21 [l0, l1, l2, l3, l4, l5, l6, l7, l8, l9, l10, l11, l12, l13] (l5 :: S) h)) ∧
  (∀ (l0 l1 l2 l3 l4 l5 l6 l7 l8 l9 l10 l11 l12 l13 : Value) (o : Nat) (v0 : Value) (v1 : Value) (S : List Value) (h : zH), rn 59 21 [l0, l1, l2, l3, l4, l5, l6, l7, l8, l9, l10, l11, l12, l13] (v1 :: v0 :: .ref o :: S) h = if zkd h o = 2 ∧ zsum S ≤ 8 then zcall (ev 66 [.ref o, v0, v1] h) (fun v h => rn 59 24 [l0, l1, l2, l3, l4, l5, l6, l7, l8, l9, l10, l11, l12, l13] (zpush v S) h) else none) ∧
  (∀ (l0 l1 l2 l3 l4 l5 l6 l7 l8 l9 l10 l11 l12 l13 : Value) (S : List Value) (h : zH), rn 59 24 [l0, l1, l2, l3, l4, l5, l6, l7, l8, l9, l10, l11, l12, l13] S h = rn 59 25 [l0, l1, l2, l3, l4, l5, l6, l7, l8, l9, l10, l11, l12, l13] (.int (nI 0) :: S) h) ∧
  (∀ (l0 l1 l2 l3 l4 l5 l6 l7 l8 l9 l10 l11 l12 l13 : Value) (x : Int32) (S : List Value) (h : zH), rn 59 25 [l0, l1, l2, l3, l4, l5, l6, l7, l8, l9, l10, l11, l12, l13] (.int x :: S) h = nl l5 (rn 59 27 [l0, l1, l2, l3, l4, l5, .int x, l7, l8, l9, l10, l11, l12, l13] S h)) ∧
  (∀ (l0 l1 l3 l4 l5 l6 l7 l8 l9 l10 l11 l12 l13 : Value) (x : Int32) (S : List Value) (h : zH), rn 59 29 [l0, l1, .int x, l3, l4, l5, l6, l7, l8, l9, l10, l11, l12, l13] S h = rn 59 30 [l0, l1, .int x, l3, l4, l5, l6, l7, l8, l9, l10, l11, l12, l13] (.int x :: S) h) ∧
  (∀ (l0 l1 l2 l3 l4 l5 l6 l7 l8 l9 l10 l11 l12 l13 : Value) (x : Int32) (y : Int32) (S : List Value) (h : zH), rn 59 30 [l0, l1, l2, l3, l4, l5, l6, l7, l8, l9, l10, l11, l12, l13] (.int y :: .int x :: S) h = if y ≤ x then rn 59 60 [l0, l1, l2, l3, l4, l5, l6, l7, l8, l9, l10, l11, l12, l13] S h else rn 59 33 [l0, l1, l2, l3, l4, l5, l6, l7, l8, l9, l10, l11, l12, l13] S h) ∧
  (∀ (l1 l2 l3 l4 l5 l6 l7 l8 l9 l10 l11 l12 l13 : Value) (x : Nat) (S : List Value) (h : zH), rn 59 33 [.ref x, l1, l2, l3, l4, l5, l6, l7, l8, l9, l10, l11, l12, l13] S h = rn 59 34 [.ref x, l1, l2, l3, l4, l5, l6, l7, l8, l9, l10, l11, l12, l13] (.ref x :: S) h) ∧
  (∀ (l0 l1 l2 l3 l4 l5 l6 l7 l8 l9 l10 l11 l12 l13 : Value) (S : List Value) (h : zH), rn 59 34 [l0, l1, l2, l3, l4, l5, l6, l7, l8, l9, l10, l11, l12, l13] S h = ldA l1 (rn 59 35 [l0, l1, l2, l3, l4, l5, l6, l7, l8, l9, l10, l11, l12, l13] (l1 :: S) h)) ∧
  (∀ (l0 l1 l2 l3 l4 l5 l7 l8 l9 l10 l11 l12 l13 : Value) (x : Int32) (S : List Value) (h : zH), rn 59 35 [l0, l1, l2, l3, l4, l5, .int x, l7, l8, l9, l10, l11, l12, l13] S h = rn 59 37 [l0, l1, l2, l3, l4, l5, .int x, l7, l8, l9, l10, l11, l12, l13] (.int x :: S) h) ∧
  (∀ (l0 l1 l2 l3 l5 l6 l7 l8 l9 l10 l11 l12 l13 : Value) (x : Int32) (S : List Value) (h : zH), rn 59 37 [l0, l1, l2, l3, .int x, l5, l6, l7, l8, l9, l10, l11, l12, l13] S h = rn 59 39 [l0, l1, l2, l3, .int x, l5, l6, l7, l8, l9, l10, l11, l12, l13] (.int x :: S) h) ∧
  (∀ (l0 l1 l2 l3 l4 l5 l6 l7 l8 l9 l10 l11 l12 l13 : Value) (S : List Value) (h : zH), rn 59 39 [l0, l1, l2, l3, l4, l5, l6, l7, l8, l9, l10, l11, l12, l13] S h = ldA l5 (rn 59 41 [l0, l1, l2, l3, l4, l5, l6, l7, l8, l9, l10, l11, l12, l13] (l5 :: S) h)) ∧
  (∀ (l0 l1 l2 l3 l4 l5 l6 l7 l8 l9 l10 l11 l12 l13 : Value) (o : Nat) (v0 : Value) (v1 : Value) (v2 : Value) (v3 : Value) (S : List Value) (h : zH), rn 59 41 [l0, l1, l2, l3, l4, l5, l6, l7, l8, l9, l10, l11, l12, l13] (v3 :: v2 :: v1 :: v0 :: .ref o :: S) h = if zkd h o = 2 ∧ zsum S ≤ 8 then zcall (ev 69 [.ref o, v0, v1, v2, v3] h) (fun v h => rn 59 44 [l0, l1, l2, l3, l4, l5, l6, l7, l8, l9, l10, l11, l12, l13] (zpush v S) h) else none) ∧
  (∀ (l0 l1 l2 l3 l4 l5 l6 l7 l8 l9 l10 l11 l12 l13 : Value) (S : List Value) (h : zH), rn 59 44 [l0, l1, l2, l3, l4, l5, l6, l7, l8, l9, l10, l11, l12, l13] S h = ldA l1 (rn 59 45 [l0, l1, l2, l3, l4, l5, l6, l7, l8, l9, l10, l11, l12, l13] (l1 :: S) h)) ∧
  (∀ (l0 l1 l2 l3 l4 l5 l7 l8 l9 l10 l11 l12 l13 : Value) (x : Int32) (S : List Value) (h : zH), rn 59 45 [l0, l1, l2, l3, l4, l5, .int x, l7, l8, l9, l10, l11, l12, l13] S h = rn 59 47 [l0, l1, l2, l3, l4, l5, .int x, l7, l8, l9, l10, l11, l12, l13] (.int x :: S) h) ∧
  (∀ (l1 l2 l3 l4 l5 l6 l7 l8 l9 l10 l11 l12 l13 : Value) (x : Nat) (S : List Value) (h : zH), rn 59 47 [.ref x, l1, l2, l3, l4, l5, l6, l7, l8, l9, l10, l11, l12, l13] S h = rn 59 48 [.ref x, l1, l2, l3, l4, l5, l6, l7, l8, l9, l10, l11, l12, l13] (.ref x :: S) h) ∧
  (∀ (l0 l1 l2 l3 l4 l5 l6 l7 l8 l9 l10 l11 l12 l13 : Value) (a : Nat) (S : List Value) (h : zH), rn 59 48 [l0, l1, l2, l3, l4, l5, l6, l7, l8, l9, l10, l11, l12, l13] (.ref a :: S) h = zgf h a 2 0 fun v => rn 59 51 [l0, l1, l2, l3, l4, l5, l6, l7, l8, l9, l10, l11, l12, l13] (v :: S) h) ∧
  (∀ (l0 l1 l2 l3 l4 l5 l6 l7 l8 l9 l10 l11 l12 l13 : Value) (o : Nat) (v0 : Value) (v1 : Value) (S : List Value) (h : zH), rn 59 51 [l0, l1, l2, l3, l4, l5, l6, l7, l8, l9, l10, l11, l12, l13] (v1 :: v0 :: .ref o :: S) h = if zkd h o = 10 ∧ zsum S ≤ 8 then zcall (ev 71 [.ref o, v0, v1] h) (fun v h => rn 59 54 [l0, l1, l2, l3, l4, l5, l6, l7, l8, l9, l10, l11, l12, l13] (zpush v S) h) else none) ∧
  (∀ (l0 l1 l2 l3 l4 l5 l7 l8 l9 l10 l11 l12 l13 : Value) (x : Int32) (S : List Value) (h : zH), rn 59 54 [l0, l1, l2, l3, l4, l5, .int x, l7, l8, l9, l10, l11, l12, l13] S h = nl l5 (rn 59 57 [l0, l1, l2, l3, l4, l5, .int (x + (nI 1)), l7, l8, l9, l10, l11, l12, l13] S h)) ∧
  (∀ (l0 l1 l2 l3 l4 l5 l6 l7 l8 l9 l10 l11 l12 l13 : Value) (S : List Value) (h : zH), rn 59 57 [l0, l1, l2, l3, l4, l5, l6, l7, l8, l9, l10, l11, l12, l13] S h = rn 59 27 [l0, l1, l2, l3, l4, l5, l6, l7, l8, l9, l10, l11, l12, l13] S h) ∧
  (∀ (l0 l1 l2 l3 l4 l5 l6 l7 l8 l9 l10 l11 l12 l13 : Value) (S : List Value) (h : zH), rn 59 60 [l0, l1, l2, l3, l4, l5, l6, l7, l8, l9, l10, l11, l12, l13] S h = ldA l1 (rn 59 61 [l0, l1, l2, l3, l4, l5, l6, l7, l8, l9, l10, l11, l12, l13] (l1 :: S) h)) ∧
  (∀ (l0 l1 l3 l4 l5 l6 l7 l8 l9 l10 l11 l12 l13 : Value) (x : Int32) (S : List Value) (h : zH), rn 59 61 [l0, l1, .int x, l3, l4, l5, l6, l7, l8, l9, l10, l11, l12, l13] S h = rn 59 62 [l0, l1, .int x, l3, l4, l5, l6, l7, l8, l9, l10, l11, l12, l13] (.int x :: S) h) ∧
  (∀ (l1 l2 l3 l4 l5 l6 l7 l8 l9 l10 l11 l12 l13 : Value) (x : Nat) (S : List Value) (h : zH), rn 59 62 [.ref x, l1, l2, l3, l4, l5, l6, l7, l8, l9, l10, l11, l12, l13] S h = rn 59 63 [.ref x, l1, l2, l3, l4, l5, l6, l7, l8, l9, l10, l11, l12, l13] (.ref x :: S) h) ∧
  (∀ (l0 l1 l2 l3 l4 l5 l6 l7 l8 l9 l10 l11 l12 l13 : Value) (a : Nat) (S : List Value) (h : zH), rn 59 63 [l0, l1, l2, l3, l4, l5, l6, l7, l8, l9, l10, l11, l12, l13] (.ref a :: S) h = zgf h a 2 0 fun v => rn 59 66 [l0, l1, l2, l3, l4, l5, l6, l7, l8, l9, l10, l11, l12, l13] (v :: S) h) ∧
  (∀ (l0 l1 l2 l3 l4 l5 l6 l7 l8 l9 l10 l11 l12 l13 : Value) (o : Nat) (v0 : Value) (v1 : Value) (S : List Value) (h : zH), rn 59 66 [l0, l1, l2, l3, l4, l5, l6, l7, l8, l9, l10, l11, l12, l13] (v1 :: v0 :: .ref o :: S) h = if zkd h o = 10 ∧ zsum S ≤ 8 then zcall (ev 71 [.ref o, v0, v1] h) (fun v h => rn 59 69 [l0, l1, l2, l3, l4, l5, l6, l7, l8, l9, l10, l11, l12, l13] (zpush v S) h) else none) ∧
  (∀ (l0 l1 l2 l3 l4 l5 l6 l7 l8 l9 l10 l11 l12 l13 : Value) (S : List Value) (h : zH), rn 59 69 [l0, l1, l2, l3, l4, l5, l6, l7, l8, l9, l10, l11, l12, l13] S h = ldA l1 (rn 59 70 [l0, l1, l2, l3, l4, l5, l6, l7, l8, l9, l10, l11, l12, l13] (l1 :: S) h)) ∧
  (∀ (l0 l1 l2 l3 l4 l5 l6 l7 l8 l9 l10 l11 l12 l13 : Value) (a : Nat) (S : List Value) (h : zH), rn 59 70 [l0, l1, l2, l3, l4, l5, l6, l7, l8, l9, l10, l11, l12, l13] (.ref a :: S) h = zgf h a 10 6 fun v => rn 59 73 [l0, l1, l2, l3, l4, l5, l6, l7, l8, l9, l10, l11, l12, l13] (v :: S) h) ∧
  (∀ (l0 l1 l2 l3 l4 l5 l6 l7 l8 l9 l10 l11 l12 l13 : Value) (S : List Value) (h : zH), rn 59 73 [l0, l1, l2, l3, l4, l5, l6, l7, l8, l9, l10, l11, l12, l13] S h = rn 59 74 [l0, l1, l2, l3, l4, l5, l6, l7, l8, l9, l10, l11, l12, l13] (.long 0 :: S) h) ∧
  (∀ (l0 l1 l2 l3 l4 l5 l6 l7 l8 l9 l10 l11 l12 l13 : Value) (x : Int64) (y : Int64) (S : List Value) (h : zH), rn 59 74 [l0, l1, l2, l3, l4, l5, l6, l7, l8, l9, l10, l11, l12, l13] (.long y :: .long x :: S) h = rn 59 75 [l0, l1, l2, l3, l4, l5, l6, l7, l8, l9, l10, l11, l12, l13] (.int (lg_cmp x y) :: S) h) ∧
  (∀ (l0 l1 l2 l3 l4 l5 l6 l7 l8 l9 l10 l11 l12 l13 : Value) (x : Int32) (S : List Value) (h : zH), rn 59 75 [l0, l1, l2, l3, l4, l5, l6, l7, l8, l9, l10, l11, l12, l13] (.int x :: S) h = if x = nI 0 then rn 59 91 [l0, l1, l2, l3, l4, l5, l6, l7, l8, l9, l10, l11, l12, l13] S h else rn 59 78 [l0, l1, l2, l3, l4, l5, l6, l7, l8, l9, l10, l11, l12, l13] S h) ∧
  (∀ (l0 l1 l2 l3 l4 l5 l6 l7 l8 l9 l10 l11 l12 l13 : Value) (S : List Value) (h : zH), rn 59 78 [l0, l1, l2, l3, l4, l5, l6, l7, l8, l9, l10, l11, l12, l13] S h = ldA l5 (rn 59 80 [l0, l1, l2, l3, l4, l5, l6, l7, l8, l9, l10, l11, l12, l13] (l5 :: S) h)) ∧
  (∀ (l0 l1 l2 l3 l4 l5 l6 l7 l8 l9 l10 l11 l12 l13 : Value) (S : List Value) (h : zH), rn 59 80 [l0, l1, l2, l3, l4, l5, l6, l7, l8, l9, l10, l11, l12, l13] S h = rn 59 81 [l0, l1, l2, l3, l4, l5, l6, l7, l8, l9, l10, l11, l12, l13] (.int (nI 4) :: S) h) ∧
  (∀ (l0 l1 l2 l3 l4 l5 l6 l7 l8 l9 l10 l11 l12 l13 : Value) (S : List Value) (h : zH), rn 59 81 [l0, l1, l2, l3, l4, l5, l6, l7, l8, l9, l10, l11, l12, l13] S h = rn 59 82 [l0, l1, l2, l3, l4, l5, l6, l7, l8, l9, l10, l11, l12, l13] (.int (nI 0) :: S) h) ∧
  (∀ (l0 l1 l2 l3 l4 l5 l6 l7 l8 l9 l10 l11 l12 l13 : Value) (S : List Value) (h : zH), rn 59 82 [l0, l1, l2, l3, l4, l5, l6, l7, l8, l9, l10, l11, l12, l13] S h = rn 59 83 [l0, l1, l2, l3, l4, l5, l6, l7, l8, l9, l10, l11, l12, l13] (.int (nI 0) :: S) h) ∧
  (∀ (l0 l1 l2 l3 l4 l5 l6 l7 l8 l9 l10 l11 l12 l13 : Value) (S : List Value) (h : zH), rn 59 83 [l0, l1, l2, l3, l4, l5, l6, l7, l8, l9, l10, l11, l12, l13] S h = ldA l1 (rn 59 84 [l0, l1, l2, l3, l4, l5, l6, l7, l8, l9, l10, l11, l12, l13] (l1 :: S) h)) ∧
  (∀ (l0 l1 l2 l3 l4 l5 l6 l7 l8 l9 l10 l11 l12 l13 : Value) (a : Nat) (S : List Value) (h : zH), rn 59 84 [l0, l1, l2, l3, l4, l5, l6, l7, l8, l9, l10, l11, l12, l13] (.ref a :: S) h = zgf h a 10 6 fun v => rn 59 87 [l0, l1, l2, l3, l4, l5, l6, l7, l8, l9, l10, l11, l12, l13] (v :: S) h) ∧
  (∀ (l0 l1 l2 l3 l4 l5 l6 l7 l8 l9 l10 l11 l12 l13 : Value) (x : Int64) (S : List Value) (h : zH), rn 59 87 [l0, l1, l2, l3, l4, l5, l6, l7, l8, l9, l10, l11, l12, l13] (.long x :: S) h = rn 59 88 [l0, l1, l2, l3, l4, l5, l6, l7, l8, l9, l10, l11, l12, l13] (.long (-x) :: S) h) ∧
  (∀ (l0 l1 l2 l3 l4 l5 l6 l7 l8 l9 l10 l11 l12 l13 : Value) (o : Nat) (v0 : Value) (v1 : Value) (v2 : Value) (v3 : Value) (S : List Value) (h : zH), rn 59 88 [l0, l1, l2, l3, l4, l5, l6, l7, l8, l9, l10, l11, l12, l13] (v3 :: v2 :: v1 :: v0 :: .ref o :: S) h = if zkd h o = 7 ∧ zsum S ≤ 8 then zcall (ev 68 [.ref o, v0, v1, v2, v3] h) (fun v h => rn 59 91 [l0, l1, l2, l3, l4, l5, l6, l7, l8, l9, l10, l11, l12, l13] (zpush v S) h) else none) ∧
  (∀ (l0 l1 l2 l3 l4 l5 l6 l7 l8 l9 l10 l11 l12 l13 : Value) (S : List Value) (h : zH), rn 59 91 [l0, l1, l2, l3, l4, l5, l6, l7, l8, l9, l10, l11, l12, l13] S h = ldA l5 (rn 59 93 [l0, l1, l2, l3, l4, l5, l6, l7, l8, l9, l10, l11, l12, l13] (l5 :: S) h)) ∧
  (∀ (l0 l1 l2 l3 l4 l5 l6 l7 l8 l9 l10 l11 l12 l13 : Value) (a : Nat) (S : List Value) (h : zH), rn 59 93 [l0, l1, l2, l3, l4, l5, l6, l7, l8, l9, l10, l11, l12, l13] (.ref a :: S) h = zgf h a 7 3 fun v => rn 59 96 [l0, l1, l2, l3, l4, l5, l6, l7, l8, l9, l10, l11, l12, l13] (v :: S) h) ∧
  (∀ (l0 l1 l2 l3 l4 l5 l6 l7 l8 l9 l10 l11 l12 l13 : Value) (x : Int64) (S : List Value) (h : zH), rn 59 96 [l0, l1, l2, l3, l4, l5, l6, l7, l8, l9, l10, l11, l12, l13] (.long x :: S) h = nl l5 (rn 59 98 [l0, l1, l2, l3, l4, l5, .long x, .float 0, l8, l9, l10, l11, l12, l13] S h)) ∧
  (∀ (l0 l1 l2 l3 l4 l5 l6 l7 l8 l9 l10 l11 l12 l13 : Value) (S : List Value) (h : zH), rn 59 98 [l0, l1, l2, l3, l4, l5, l6, l7, l8, l9, l10, l11, l12, l13] S h = ldA l1 (rn 59 99 [l0, l1, l2, l3, l4, l5, l6, l7, l8, l9, l10, l11, l12, l13] (l1 :: S) h)) ∧
  (∀ (l0 l1 l2 l3 l4 l5 l6 l7 l8 l9 l10 l11 l12 l13 : Value) (a : Nat) (S : List Value) (h : zH), rn 59 99 [l0, l1, l2, l3, l4, l5, l6, l7, l8, l9, l10, l11, l12, l13] (.ref a :: S) h = zgf h a 10 5 fun v => rn 59 102 [l0, l1, l2, l3, l4, l5, l6, l7, l8, l9, l10, l11, l12, l13] (v :: S) h) ∧
  (∀ (l0 l1 l2 l3 l4 l5 l6 l7 l8 l9 l10 l11 l12 l13 : Value) (x : Int32) (S : List Value) (h : zH), rn 59 102 [l0, l1, l2, l3, l4, l5, l6, l7, l8, l9, l10, l11, l12, l13] (.int x :: S) h = rn 59 103 [l0, l1, l2, l3, l4, l5, l6, l7, l8, l9, l10, l11, l12, l13] (.long x.toInt64 :: S) h) ∧
  (∀ (l0 l1 l2 l3 l4 l5 l6 l7 l8 l9 l10 l11 l12 l13 : Value) (S : List Value) (h : zH), rn 59 103 [l0, l1, l2, l3, l4, l5, l6, l7, l8, l9, l10, l11, l12, l13] S h = rn 59 106 [l0, l1, l2, l3, l4, l5, l6, l7, l8, l9, l10, l11, l12, l13] (.long (1000000) :: S) h) ∧
  (∀ (l0 l1 l2 l3 l4 l5 l6 l7 l8 l9 l10 l11 l12 l13 : Value) (x : Int64) (y : Int64) (S : List Value) (h : zH), rn 59 106 [l0, l1, l2, l3, l4, l5, l6, l7, l8, l9, l10, l11, l12, l13] (.long y :: .long x :: S) h = rn 59 107 [l0, l1, l2, l3, l4, l5, l6, l7, l8, l9, l10, l11, l12, l13] (.long (x * y) :: S) h) ∧
  (∀ (l0 l1 l2 l3 l4 l5 l6 l7 l8 l9 l10 l11 l12 l13 : Value) (x : Int64) (S : List Value) (h : zH), rn 59 107 [l0, l1, l2, l3, l4, l5, l6, l7, l8, l9, l10, l11, l12, l13] (.long x :: S) h = nl l7 (rn 59 109 [l0, l1, l2, l3, l4, l5, l6, l7, .long x, .float 0, l10, l11, l12, l13] S h)) ∧
  (∀ (l0 l1 l2 l3 l4 l5 l6 l7 l9 l10 l11 l12 l13 : Value) (x : Int64) (S : List Value) (h : zH), rn 59 109 [l0, l1, l2, l3, l4, l5, l6, l7, .long x, l9, l10, l11, l12, l13] S h = rn 59 111 [l0, l1, l2, l3, l4, l5, l6, l7, .long x, l9, l10, l11, l12, l13] (.long x :: S) h) ∧
  (∀ (l1 l2 l3 l4 l5 l6 l7 l8 l9 l10 l11 l12 l13 : Value) (x : Nat) (S : List Value) (h : zH), rn 59 111 [.ref x, l1, l2, l3, l4, l5, l6, l7, l8, l9, l10, l11, l12, l13] S h = rn 59 112 [.ref x, l1, l2, l3, l4, l5, l6, l7, l8, l9, l10, l11, l12, l13] (.ref x :: S) h) ∧
  (∀ (l0 l1 l2 l3 l4 l5 l6 l7 l8 l9 l10 l11 l12 l13 : Value) (a : Nat) (S : List Value) (h : zH), rn 59 112 [l0, l1, l2, l3, l4, l5, l6, l7, l8, l9, l10, l11, l12, l13] (.ref a :: S) h = zgf h a 2 0 fun v => rn 59 115 [l0, l1, l2, l3, l4, l5, l6, l7, l8, l9, l10, l11, l12, l13] (v :: S) h) ∧
  (∀ (l0 l1 l2 l3 l4 l5 l6 l7 l8 l9 l10 l11 l12 l13 : Value) (S : List Value) (h : zH), rn 59 115 [l0, l1, l2, l3, l4, l5, l6, l7, l8, l9, l10, l11, l12, l13] S h = rn 59 117 [l0, l1, l2, l3, l4, l5, l6, l7, l8, l9, l10, l11, l12, l13] (.int (nI 48) :: S) h) ∧
  (∀ (l0 l1 l3 l4 l5 l6 l7 l8 l9 l10 l11 l12 l13 : Value) (x : Int32) (S : List Value) (h : zH), rn 59 117 [l0, l1, .int x, l3, l4, l5, l6, l7, l8, l9, l10, l11, l12, l13] S h = rn 59 118 [l0, l1, .int x, l3, l4, l5, l6, l7, l8, l9, l10, l11, l12, l13] (.int x :: S) h) ∧
  (∀ (l0 l1 l2 l3 l4 l5 l6 l7 l8 l9 l10 l11 l12 l13 : Value) (x : Int32) (y : Int32) (S : List Value) (h : zH), rn 59 118 [l0, l1, l2, l3, l4, l5, l6, l7, l8, l9, l10, l11, l12, l13] (.int y :: .int x :: S) h = rn 59 119 [l0, l1, l2, l3, l4, l5, l6, l7, l8, l9, l10, l11, l12, l13] (.int (x + y) :: S) h) ∧
  (∀ (l0 l1 l2 l3 l4 l5 l6 l7 l8 l9 l10 l11 l12 l13 : Value) (a : Nat) (j : Int32) (S : List Value) (h : zH), rn 59 119 [l0, l1, l2, l3, l4, l5, l6, l7, l8, l9, l10, l11, l12, l13] (.int j :: .ref a :: S) h = zlj h a j fun x => rn 59 120 [l0, l1, l2, l3, l4, l5, l6, l7, l8, l9, l10, l11, l12, l13] (.long x :: S) h) ∧
  (∀ (l0 l1 l2 l3 l4 l5 l6 l7 l8 l9 l10 l11 l12 l13 : Value) (x : Int64) (y : Int64) (S : List Value) (h : zH), rn 59 120 [l0, l1, l2, l3, l4, l5, l6, l7, l8, l9, l10, l11, l12, l13] (.long y :: .long x :: S) h = if zsum S ≤ 8 then rn 59 123 [l0, l1, l2, l3, l4, l5, l6, l7, l8, l9, l10, l11, l12, l13] (.long (if y < x then y else x) :: S) h else none) ∧
  (∀ (l0 l1 l2 l3 l4 l5 l6 l7 l8 l9 l10 l11 l12 l13 : Value) (x : Int64) (S : List Value) (h : zH), rn 59 123 [l0, l1, l2, l3, l4, l5, l6, l7, l8, l9, l10, l11, l12, l13] (.long x :: S) h = nl l9 (rn 59 125 [l0, l1, l2, l3, l4, l5, l6, l7, l8, l9, .long x, .float 0, l12, l13] S h)) ∧
  (∀ (l0 l1 l2 l3 l4 l5 l6 l7 l8 l9 l10 l11 l12 l13 : Value) (S : List Value) (h : zH), rn 59 125 [l0, l1, l2, l3, l4, l5, l6, l7, l8, l9, l10, l11, l12, l13] S h = ldA l1 (rn 59 126 [l0, l1, l2, l3, l4, l5, l6, l7, l8, l9, l10, l11, l12, l13] (l1 :: S) h)) ∧
  (∀ (l0 l1 l2 l3 l4 l5 l6 l7 l8 l9 l11 l12 l13 : Value) (x : Int64) (S : List Value) (h : zH), rn 59 126 [l0, l1, l2, l3, l4, l5, l6, l7, l8, l9, .long x, l11, l12, l13] S h = rn 59 128 [l0, l1, l2, l3, l4, l5, l6, l7, l8, l9, .long x, l11, l12, l13] (.long x :: S) h) ∧
  (∀ (l0 l1 l2 l3 l4 l5 l7 l8 l9 l10 l11 l12 l13 : Value) (x : Int64) (S : List Value) (h : zH), rn 59 128 [l0, l1, l2, l3, l4, l5, .long x, l7, l8, l9, l10, l11, l12, l13] S h = rn 59 130 [l0, l1, l2, l3, l4, l5, .long x, l7, l8, l9, l10, l11, l12, l13] (.long x :: S) h) ∧
  (∀ (l0 l1 l2 l3 l4 l5 l6 l7 l8 l9 l10 l11 l12 l13 : Value) (x : Int64) (y : Int64) (S : List Value) (h : zH), rn 59 130 [l0, l1, l2, l3, l4, l5, l6, l7, l8, l9, l10, l11, l12, l13] (.long y :: .long x :: S) h = rn 59 131 [l0, l1, l2, l3, l4, l5, l6, l7, l8, l9, l10, l11, l12, l13] (.long (x - y) :: S) h) ∧
  (∀ (l0 l1 l2 l3 l4 l5 l6 l7 l8 l9 l10 l11 l12 l13 : Value) (S : List Value) (h : zH), rn 59 131 [l0, l1, l2, l3, l4, l5, l6, l7, l8, l9, l10, l11, l12, l13] S h = rn 59 132 [l0, l1, l2, l3, l4, l5, l6, l7, l8, l9, l10, l11, l12, l13] (.long 0 :: S) h) ∧
  (∀ (l0 l1 l2 l3 l4 l5 l6 l7 l8 l9 l10 l11 l12 l13 : Value) (x : Int64) (y : Int64) (S : List Value) (h : zH), rn 59 132 [l0, l1, l2, l3, l4, l5, l6, l7, l8, l9, l10, l11, l12, l13] (.long y :: .long x :: S) h = if zsum S ≤ 8 then rn 59 135 [l0, l1, l2, l3, l4, l5, l6, l7, l8, l9, l10, l11, l12, l13] (.long (if y < x then x else y) :: S) h else none) ∧
  (∀ (l0 l1 l2 l3 l4 l5 l6 l7 l8 l9 l10 l11 l12 l13 : Value) (a : Nat) (v : Value) (S : List Value) (h : zH), rn 59 135 [l0, l1, l2, l3, l4, l5, l6, l7, l8, l9, l10, l11, l12, l13] (v :: .ref a :: S) h = zpf h a 10 6 v fun h => rn 59 138 [l0, l1, l2, l3, l4, l5, l6, l7, l8, l9, l10, l11, l12, l13] S h) ∧
  (∀ (l0 l1 l2 l3 l4 l5 l7 l8 l9 l10 l11 l12 l13 : Value) (x : Int64) (S : List Value) (h : zH), rn 59 138 [l0, l1, l2, l3, l4, l5, .long x, l7, l8, l9, l10, l11, l12, l13] S h = rn 59 140 [l0, l1, l2, l3, l4, l5, .long x, l7, l8, l9, l10, l11, l12, l13] (.long x :: S) h) ∧
  (∀ (l0 l1 l2 l3 l4 l5 l6 l7 l8 l9 l11 l12 l13 : Value) (x : Int64) (S : List Value) (h : zH), rn 59 140 [l0, l1, l2, l3, l4, l5, l6, l7, l8, l9, .long x, l11, l12, l13] S h = rn 59 142 [l0, l1, l2, l3, l4, l5, l6, l7, l8, l9, .long x, l11, l12, l13] (.long x :: S) h) ∧
  (∀ (l0 l1 l2 l3 l4 l5 l6 l7 l8 l9 l10 l11 l12 l13 : Value) (x : Int64) (y : Int64) (S : List Value) (h : zH), rn 59 142 [l0, l1, l2, l3, l4, l5, l6, l7, l8, l9, l10, l11, l12, l13] (.long y :: .long x :: S) h = if zsum S ≤ 8 then rn 59 145 [l0, l1, l2, l3, l4, l5, l6, l7, l8, l9, l10, l11, l12, l13] (.long (if y < x then x else y) :: S) h else none) ∧
  (∀ (l0 l1 l2 l3 l4 l5 l6 l7 l9 l10 l11 l12 l13 : Value) (x : Int64) (S : List Value) (h : zH), rn 59 145 [l0, l1, l2, l3, l4, l5, l6, l7, .long x, l9, l10, l11, l12, l13] S h = rn 59 147 [l0, l1, l2, l3, l4, l5, l6, l7, .long x, l9, l10, l11, l12, l13] (.long x :: S) h) ∧
  (∀ (l0 l1 l2 l3 l4 l5 l6 l7 l8 l9 l10 l11 l12 l13 : Value) (x : Int64) (y : Int64) (S : List Value) (h : zH), rn 59 147 [l0, l1, l2, l3, l4, l5, l6, l7, l8, l9, l10, l11, l12, l13] (.long y :: .long x :: S) h = rn 59 148 [l0, l1, l2, l3, l4, l5, l6, l7, l8, l9, l10, l11, l12, l13] (.long (x - y) :: S) h) ∧
  (∀ (l0 l1 l2 l3 l4 l5 l6 l7 l8 l9 l10 l11 l12 l13 : Value) (S : List Value) (h : zH), rn 59 148 [l0, l1, l2, l3, l4, l5, l6, l7, l8, l9, l10, l11, l12, l13] S h = rn 59 149 [l0, l1, l2, l3, l4, l5, l6, l7, l8, l9, l10, l11, l12, l13] (.long 0 :: S) h) ∧
  (∀ (l0 l1 l2 l3 l4 l5 l6 l7 l8 l9 l10 l11 l12 l13 : Value) (x : Int64) (y : Int64) (S : List Value) (h : zH), rn 59 149 [l0, l1, l2, l3, l4, l5, l6, l7, l8, l9, l10, l11, l12, l13] (.long y :: .long x :: S) h = if zsum S ≤ 8 then rn 59 152 [l0, l1, l2, l3, l4, l5, l6, l7, l8, l9, l10, l11, l12, l13] (.long (if y < x then x else y) :: S) h else none) ∧
  (∀ (l0 l1 l2 l3 l4 l5 l6 l7 l8 l9 l10 l11 l12 l13 : Value) (x : Int64) (S : List Value) (h : zH), rn 59 152 [l0, l1, l2, l3, l4, l5, l6, l7, l8, l9, l10, l11, l12, l13] (.long x :: S) h = nl l11 (rn 59 154 [l0, l1, l2, l3, l4, l5, l6, l7, l8, l9, l10, l11, .long x, .float 0] S h)) ∧
  (∀ (l1 l2 l3 l4 l5 l6 l7 l8 l9 l10 l11 l12 l13 : Value) (x : Nat) (S : List Value) (h : zH), rn 59 154 [.ref x, l1, l2, l3, l4, l5, l6, l7, l8, l9, l10, l11, l12, l13] S h = rn 59 155 [.ref x, l1, l2, l3, l4, l5, l6, l7, l8, l9, l10, l11, l12, l13] (.ref x :: S) h) ∧
  (∀ (l0 l1 l2 l3 l4 l5 l6 l7 l8 l9 l10 l11 l12 l13 : Value) (S : List Value) (h : zH), rn 59 155 [l0, l1, l2, l3, l4, l5, l6, l7, l8, l9, l10, l11, l12, l13] S h = ldA l1 (rn 59 156 [l0, l1, l2, l3, l4, l5, l6, l7, l8, l9, l10, l11, l12, l13] (l1 :: S) h)) ∧
  (∀ (l0 l1 l2 l3 l4 l5 l6 l7 l8 l9 l10 l11 l12 l13 : Value) (a : Nat) (S : List Value) (h : zH), rn 59 156 [l0, l1, l2, l3, l4, l5, l6, l7, l8, l9, l10, l11, l12, l13] (.ref a :: S) h = zgf h a 10 4 fun v => rn 59 159 [l0, l1, l2, l3, l4, l5, l6, l7, l8, l9, l10, l11, l12, l13] (v :: S) h) ∧
  (∀ (l0 l1 l2 l3 l4 l5 l6 l7 l8 l9 l10 l11 l13 : Value) (x : Int64) (S : List Value) (h : zH), rn 59 159 [l0, l1, l2, l3, l4, l5, l6, l7, l8, l9, l10, l11, .long x, l13] S h = rn 59 161 [l0, l1, l2, l3, l4, l5, l6, l7, l8, l9, l10, l11, .long x, l13] (.long x :: S) h) ∧
  (∀ (l0 l1 l2 l3 l4 l5 l6 l7 l8 l9 l10 l11 l12 l13 : Value) (S : List Value) (h : zH), rn 59 161 [l0, l1, l2, l3, l4, l5, l6, l7, l8, l9, l10, l11, l12, l13] S h = ldA l5 (rn 59 163 [l0, l1, l2, l3, l4, l5, l6, l7, l8, l9, l10, l11, l12, l13] (l5 :: S) h)) ∧
  (∀ (l0 l1 l2 l3 l4 l5 l6 l7 l8 l9 l10 l11 l12 l13 : Value) (o : Nat) (v0 : Value) (v1 : Value) (v2 : Value) (S : List Value) (h : zH), rn 59 163 [l0, l1, l2, l3, l4, l5, l6, l7, l8, l9, l10, l11, l12, l13] (v2 :: v1 :: v0 :: .ref o :: S) h = if zkd h o = 2 ∧ zsum S ≤ 8 then zcall (ev 74 [.ref o, v0, v1, v2] h) (fun v h => rn 59 166 [l0, l1, l2, l3, l4, l5, l6, l7, l8, l9, l10, l11, l12, l13] (zpush v S) h) else none) ∧
  (∀ (l0 l1 l2 l3 l4 l5 l6 l7 l8 l9 l10 l11 l12 l13 : Value) (S : List Value) (h : zH), rn 59 166 [l0, l1, l2, l3, l4, l5, l6, l7, l8, l9, l10, l11, l12, l13] S h = ldA l1 (rn 59 167 [l0, l1, l2, l3, l4, l5, l6, l7, l8, l9, l10, l11, l12, l13] (l1 :: S) h)) ∧
  (∀ (l0 l1 l2 l3 l4 l5 l6 l7 l8 l9 l10 l11 l12 l13 : Value) (a : Nat) (S : List Value) (h : zH), rn 59 167 [l0, l1, l2, l3, l4, l5, l6, l7, l8, l9, l10, l11, l12, l13] (.ref a :: S) h = zgf h a 10 6 fun v => rn 59 170 [l0, l1, l2, l3, l4, l5, l6, l7, l8, l9, l10, l11, l12, l13] (v :: S) h) ∧
  (∀ (l0 l1 l2 l3 l4 l5 l6 l7 l8 l9 l10 l11 l12 l13 : Value) (S : List Value) (h : zH), rn 59 170 [l0, l1, l2, l3, l4, l5, l6, l7, l8, l9, l10, l11, l12, l13] S h = rn 59 171 [l0, l1, l2, l3, l4, l5, l6, l7, l8, l9, l10, l11, l12, l13] (.long 0 :: S) h) ∧
  (∀ (l0 l1 l2 l3 l4 l5 l6 l7 l8 l9 l10 l11 l12 l13 : Value) (x : Int64) (y : Int64) (S : List Value) (h : zH), rn 59 171 [l0, l1, l2, l3, l4, l5, l6, l7, l8, l9, l10, l11, l12, l13] (.long y :: .long x :: S) h = rn 59 172 [l0, l1, l2, l3, l4, l5, l6, l7, l8, l9, l10, l11, l12, l13] (.int (lg_cmp x y) :: S) h) ∧
  (∀ (l0 l1 l2 l3 l4 l5 l6 l7 l8 l9 l10 l11 l12 l13 : Value) (x : Int32) (S : List Value) (h : zH), rn 59 172 [l0, l1, l2, l3, l4, l5, l6, l7, l8, l9, l10, l11, l12, l13] (.int x :: S) h = if x = nI 0 then rn 59 188 [l0, l1, l2, l3, l4, l5, l6, l7, l8, l9, l10, l11, l12, l13] S h else rn 59 175 [l0, l1, l2, l3, l4, l5, l6, l7, l8, l9, l10, l11, l12, l13] S h) ∧
  (∀ (l0 l1 l2 l3 l4 l5 l6 l7 l8 l9 l10 l11 l12 l13 : Value) (S : List Value) (h : zH), rn 59 175 [l0, l1, l2, l3, l4, l5, l6, l7, l8, l9, l10, l11, l12, l13] S h = ldA l5 (rn 59 177 [l0, l1, l2, l3, l4, l5, l6, l7, l8, l9, l10, l11, l12, l13] (l5 :: S) h)) ∧
  (∀ (l0 l1 l2 l3 l4 l5 l6 l7 l8 l9 l10 l11 l12 l13 : Value) (S : List Value) (h : zH), rn 59 177 [l0, l1, l2, l3, l4, l5, l6, l7, l8, l9, l10, l11, l12, l13] S h = rn 59 179 [l0, l1, l2, l3, l4, l5, l6, l7, l8, l9, l10, l11, l12, l13] (.int (nI 6) :: S) h) ∧
  (∀ (l0 l1 l2 l3 l4 l5 l6 l7 l8 l9 l10 l11 l12 l13 : Value) (S : List Value) (h : zH), rn 59 179 [l0, l1, l2, l3, l4, l5, l6, l7, l8, l9, l10, l11, l12, l13] S h = rn 59 180 [l0, l1, l2, l3, l4, l5, l6, l7, l8, l9, l10, l11, l12, l13] (.int (nI 0) :: S) h) ∧
  (∀ (l0 l1 l2 l3 l4 l5 l6 l7 l8 l9 l10 l11 l12 l13 : Value) (S : List Value) (h : zH), rn 59 180 [l0, l1, l2, l3, l4, l5, l6, l7, l8, l9, l10, l11, l12, l13] S h = rn 59 181 [l0, l1, l2, l3, l4, l5, l6, l7, l8, l9, l10, l11, l12, l13] (.int (nI 0) :: S) h) ∧
  (∀ (l0 l1 l2 l3 l4 l5 l6 l7 l8 l9 l10 l11 l12 l13 : Value) (S : List Value) (h : zH), rn 59 181 [l0, l1, l2, l3, l4, l5, l6, l7, l8, l9, l10, l11, l12, l13] S h = ldA l1 (rn 59 182 [l0, l1, l2, l3, l4, l5, l6, l7, l8, l9, l10, l11, l12, l13] (l1 :: S) h)) ∧
  (∀ (l0 l1 l2 l3 l4 l5 l6 l7 l8 l9 l10 l11 l12 l13 : Value) (a : Nat) (S : List Value) (h : zH), rn 59 182 [l0, l1, l2, l3, l4, l5, l6, l7, l8, l9, l10, l11, l12, l13] (.ref a :: S) h = zgf h a 10 6 fun v => rn 59 185 [l0, l1, l2, l3, l4, l5, l6, l7, l8, l9, l10, l11, l12, l13] (v :: S) h) ∧
  (∀ (l0 l1 l2 l3 l4 l5 l6 l7 l8 l9 l10 l11 l12 l13 : Value) (o : Nat) (v0 : Value) (v1 : Value) (v2 : Value) (v3 : Value) (S : List Value) (h : zH), rn 59 185 [l0, l1, l2, l3, l4, l5, l6, l7, l8, l9, l10, l11, l12, l13] (v3 :: v2 :: v1 :: v0 :: .ref o :: S) h = if zkd h o = 7 ∧ zsum S ≤ 8 then zcall (ev 68 [.ref o, v0, v1, v2, v3] h) (fun v h => rn 59 188 [l0, l1, l2, l3, l4, l5, l6, l7, l8, l9, l10, l11, l12, l13] (zpush v S) h) else none) ∧
  (∀ (l0 l1 l2 l3 l4 l5 l6 l7 l8 l9 l10 l11 l12 l13 : Value) (S : List Value) (h : zH), rn 59 188 [l0, l1, l2, l3, l4, l5, l6, l7, l8, l9, l10, l11, l12, l13] S h = ldA l5 (rn 59 190 [l0, l1, l2, l3, l4, l5, l6, l7, l8, l9, l10, l11, l12, l13] (l5 :: S) h)) ∧
  (∀ (l0 l1 l2 l3 l4 l5 l6 l7 l8 l9 l10 l11 l12 l13 : Value) (S : List Value) (h : zH), rn 59 190 [l0, l1, l2, l3, l4, l5, l6, l7, l8, l9, l10, l11, l12, l13] S h = rn 59 192 [l0, l1, l2, l3, l4, l5, l6, l7, l8, l9, l10, l11, l12, l13] (.int (nI 7) :: S) h) ∧
  (∀ (l0 l1 l2 l3 l4 l5 l6 l7 l8 l9 l10 l11 l12 l13 : Value) (S : List Value) (h : zH), rn 59 192 [l0, l1, l2, l3, l4, l5, l6, l7, l8, l9, l10, l11, l12, l13] S h = rn 59 193 [l0, l1, l2, l3, l4, l5, l6, l7, l8, l9, l10, l11, l12, l13] (.int (nI 0) :: S) h) ∧
  (∀ (l0 l1 l2 l3 l4 l5 l6 l7 l8 l9 l10 l11 l12 l13 : Value) (S : List Value) (h : zH), rn 59 193 [l0, l1, l2, l3, l4, l5, l6, l7, l8, l9, l10, l11, l12, l13] S h = rn 59 194 [l0, l1, l2, l3, l4, l5, l6, l7, l8, l9, l10, l11, l12, l13] (.int (nI 0) :: S) h) ∧
  (∀ (l0 l1 l2 l3 l4 l5 l6 l7 l8 l9 l10 l11 l12 l13 : Value) (S : List Value) (h : zH), rn 59 194 [l0, l1, l2, l3, l4, l5, l6, l7, l8, l9, l10, l11, l12, l13] S h = ldA l5 (rn 59 196 [l0, l1, l2, l3, l4, l5, l6, l7, l8, l9, l10, l11, l12, l13] (l5 :: S) h)) ∧
  (∀ (l0 l1 l2 l3 l4 l5 l6 l7 l8 l9 l10 l11 l12 l13 : Value) (a : Nat) (S : List Value) (h : zH), rn 59 196 [l0, l1, l2, l3, l4, l5, l6, l7, l8, l9, l10, l11, l12, l13] (.ref a :: S) h = zgf h a 7 3 fun v => rn 59 199 [l0, l1, l2, l3, l4, l5, l6, l7, l8, l9, l10, l11, l12, l13] (v :: S) h) ∧
  (∀ (l0 l1 l2 l3 l4 l5 l6 l7 l8 l9 l10 l11 l12 l13 : Value) (o : Nat) (v0 : Value) (v1 : Value) (v2 : Value) (v3 : Value) (S : List Value) (h : zH), rn 59 199 [l0, l1, l2, l3, l4, l5, l6, l7, l8, l9, l10, l11, l12, l13] (v3 :: v2 :: v1 :: v0 :: .ref o :: S) h = if zkd h o = 7 ∧ zsum S ≤ 8 then zcall (ev 68 [.ref o, v0, v1, v2, v3] h) (fun v h => rn 59 202 [l0, l1, l2, l3, l4, l5, l6, l7, l8, l9, l10, l11, l12, l13] (zpush v S) h) else none) ∧
  (∀ (l0 l1 l2 l3 l4 l5 l6 l7 l8 l9 l10 l11 l12 l13 : Value) (h : zH), rn 59 202 [l0, l1, l2, l3, l4, l5, l6, l7, l8, l9, l10, l11, l12, l13] [] h = some (none, h)) := ⟨fun _ _ _ _ _ _ _ _ _ _ _ _ _ _ _ _ => r_iload_n (show zdec 59 0 = some (.iload_n 2, 1) by decide +kernel) rfl rfl,
  fun _ _ _ _ _ _ _ _ _ _ _ _ _ _ _ _ _ => r_cS [_] rfl (show zdec 59 1 = some (.invokestatic 15, 3) by decide +kernel) (show zst.lookup (59 * zKEY + 15) = some (3, 25, 1, 0) by decide +kernel) (by decide) rfl,
  fun _ _ _ _ _ _ _ _ _ _ _ _ _ _ _ _ _ => r_ifne (show zdec 59 4 = some (.ifCond .ne 4, 3) by decide +kernel) rfl rfl,
  fun _ _ _ _ _ _ _ _ _ _ _ _ _ _ _ => r_vret (show zdec 59 7 = some (.return_, 1) by decide +kernel) (by decide +kernel),
  fun _ _ _ _ _ _ _ _ _ _ _ _ _ _ _ _ => r_aload_n (show zdec 59 8 = some (.aload_n 3, 1) by decide +kernel) rfl rfl,
  fun _ _ _ _ _ _ _ _ _ _ _ _ _ _ _ _ => r_aload_n (show zdec 59 9 = some (.aload_n 1, 1) by decide +kernel) rfl rfl,
  fun _ _ _ _ _ _ _ _ _ _ _ _ _ _ _ _ => r_aload_nr (show zdec 59 10 = some (.aload_n 0, 1) by decide +kernel) rfl rfl,
  fun _ _ _ _ _ _ _ _ _ _ _ _ _ _ _ _ _ => r_getfield (show zdec 59 11 = some (.getfield 9, 3) by decide +kernel) (show zft.lookup (59 * zKEY + 9) = some (2, 0) by decide +kernel) rfl,
  fun _ _ _ _ _ _ _ _ _ _ _ _ _ _ _ _ _ _ _ => r_cV [_, _] rfl (show zdec 59 14 = some (.invokevirtual 19, 3) by decide +kernel) (show zst.lookup (59 * zKEY + 19) = some (1, 60, 2, 6) by decide +kernel) (by decide) rfl,
  fun _ _ _ _ _ _ _ _ _ _ _ _ _ _ _ _ => r_aload_nr (show zdec 59 17 = some (.aload_n 0, 1) by decide +kernel) rfl rfl,
  fun _ _ _ _ _ _ _ _ _ _ _ _ _ _ _ _ => r_iload_n (show zdec 59 18 = some (.iload_n 2, 1) by decide +kernel) rfl rfl,
  fun _ _ _ _ _ _ _ _ _ _ _ _ _ _ _ _ => r_aload (show zdec 59 19 = some (.aload 5, 2) by decide +kernel) rfl rfl,
  fun _ _ _ _ _ _ _ _ _ _ _ _ _ _ _ _ _ _ _ => r_cV [_, _] rfl (show zdec 59 21 = some (.invokevirtual 25, 3) by decide +kernel) (show zst.lookup (59 * zKEY + 25) = some (1, 66, 2, 2) by decide +kernel) (by decide) rfl,
  fun _ _ _ _ _ _ _ _ _ _ _ _ _ _ _ _ => r_iconst (show zdec 59 24 = some (.iconst 0, 1) by decide +kernel) rfl rfl,
  fun _ _ _ _ _ _ _ _ _ _ _ _ _ _ _ _ _ => r_istore (show zdec 59 25 = some (.istore 6, 2) by decide +kernel) rfl (Nat.le_of_ble_eq_true rfl) rfl rfl,
  fun _ _ _ _ _ _ _ _ _ _ _ _ _ _ _ _ => r_iload_n (show zdec 59 29 = some (.iload_n 2, 1) by decide +kernel) rfl rfl,
  fun _ _ _ _ _ _ _ _ _ _ _ _ _ _ _ _ _ _ => r_icmpge (show zdec 59 30 = some (.if_icmp .ge 30, 3) by decide +kernel) rfl rfl,
  fun _ _ _ _ _ _ _ _ _ _ _ _ _ _ _ _ => r_aload_nr (show zdec 59 33 = some (.aload_n 0, 1) by decide +kernel) rfl rfl,
  fun _ _ _ _ _ _ _ _ _ _ _ _ _ _ _ _ => r_aload_n (show zdec 59 34 = some (.aload_n 1, 1) by decide +kernel) rfl rfl,
  fun _ _ _ _ _ _ _ _ _ _ _ _ _ _ _ _ => r_iload (show zdec 59 35 = some (.iload 6, 2) by decide +kernel) rfl rfl,
  fun _ _ _ _ _ _ _ _ _ _ _ _ _ _ _ _ => r_iload (show zdec 59 37 = some (.iload 4, 2) by decide +kernel) rfl rfl,
  fun _ _ _ _ _ _ _ _ _ _ _ _ _ _ _ _ => r_aload (show zdec 59 39 = some (.aload 5, 2) by decide +kernel) rfl rfl,
  fun _ _ _ _ _ _ _ _ _ _ _ _ _ _ _ _ _ _ _ _ _ => r_cV [_, _, _, _] rfl (show zdec 59 41 = some (.invokevirtual 29, 3) by decide +kernel) (show zst.lookup (59 * zKEY + 29) = some (1, 69, 4, 2) by decide +kernel) (by decide) rfl,
  fun _ _ _ _ _ _ _ _ _ _ _ _ _ _ _ _ => r_aload_n (show zdec 59 44 = some (.aload_n 1, 1) by decide +kernel) rfl rfl,
  fun _ _ _ _ _ _ _ _ _ _ _ _ _ _ _ _ => r_iload (show zdec 59 45 = some (.iload 6, 2) by decide +kernel) rfl rfl,
  fun _ _ _ _ _ _ _ _ _ _ _ _ _ _ _ _ => r_aload_nr (show zdec 59 47 = some (.aload_n 0, 1) by decide +kernel) rfl rfl,
  fun _ _ _ _ _ _ _ _ _ _ _ _ _ _ _ _ _ => r_getfield (show zdec 59 48 = some (.getfield 9, 3) by decide +kernel) (show zft.lookup (59 * zKEY + 9) = some (2, 0) by decide +kernel) rfl,
  fun _ _ _ _ _ _ _ _ _ _ _ _ _ _ _ _ _ _ _ => r_cV [_, _] rfl (show zdec 59 51 = some (.invokevirtual 33, 3) by decide +kernel) (show zst.lookup (59 * zKEY + 33) = some (1, 71, 2, 10) by decide +kernel) (by decide) rfl,
  fun _ _ _ _ _ _ _ _ _ _ _ _ _ _ _ _ => r_iinc (show zdec 59 54 = some (.iinc 6 1, 3) by decide +kernel) rfl rfl rfl (Nat.le_of_ble_eq_true rfl) rfl rfl,
  fun _ _ _ _ _ _ _ _ _ _ _ _ _ _ _ _ => r_goto (show zdec 59 57 = some (.goto (-30), 3) by decide +kernel) rfl,
  fun _ _ _ _ _ _ _ _ _ _ _ _ _ _ _ _ => r_aload_n (show zdec 59 60 = some (.aload_n 1, 1) by decide +kernel) rfl rfl,
  fun _ _ _ _ _ _ _ _ _ _ _ _ _ _ _ _ => r_iload_n (show zdec 59 61 = some (.iload_n 2, 1) by decide +kernel) rfl rfl,
  fun _ _ _ _ _ _ _ _ _ _ _ _ _ _ _ _ => r_aload_nr (show zdec 59 62 = some (.aload_n 0, 1) by decide +kernel) rfl rfl,
  fun _ _ _ _ _ _ _ _ _ _ _ _ _ _ _ _ _ => r_getfield (show zdec 59 63 = some (.getfield 9, 3) by decide +kernel) (show zft.lookup (59 * zKEY + 9) = some (2, 0) by decide +kernel) rfl,
  fun _ _ _ _ _ _ _ _ _ _ _ _ _ _ _ _ _ _ _ => r_cV [_, _] rfl (show zdec 59 66 = some (.invokevirtual 33, 3) by decide +kernel) (show zst.lookup (59 * zKEY + 33) = some (1, 71, 2, 10) by decide +kernel) (by decide) rfl,
  fun _ _ _ _ _ _ _ _ _ _ _ _ _ _ _ _ => r_aload_n (show zdec 59 69 = some (.aload_n 1, 1) by decide +kernel) rfl rfl,
  fun _ _ _ _ _ _ _ _ _ _ _ _ _ _ _ _ _ => r_getfield (show zdec 59 70 = some (.getfield 39, 3) by decide +kernel) (show zft.lookup (59 * zKEY + 39) = some (10, 6) by decide +kernel) rfl,
  fun _ _ _ _ _ _ _ _ _ _ _ _ _ _ _ _ => r_lconst (show zdec 59 73 = some (.lconst 0, 1) by decide +kernel) rfl rfl,
  fun _ _ _ _ _ _ _ _ _ _ _ _ _ _ _ _ _ _ => r_lcmp (show zdec 59 74 = some (.lcmp, 1) by decide +kernel) rfl,
  fun _ _ _ _ _ _ _ _ _ _ _ _ _ _ _ _ _ => r_ifeq (show zdec 59 75 = some (.ifCond .eq 16, 3) by decide +kernel) rfl rfl,
  fun _ _ _ _ _ _ _ _ _ _ _ _ _ _ _ _ => r_aload (show zdec 59 78 = some (.aload 5, 2) by decide +kernel) rfl rfl,
  fun _ _ _ _ _ _ _ _ _ _ _ _ _ _ _ _ => r_iconst (show zdec 59 80 = some (.iconst 4, 1) by decide +kernel) rfl rfl,
  fun _ _ _ _ _ _ _ _ _ _ _ _ _ _ _ _ => r_iconst (show zdec 59 81 = some (.iconst 0, 1) by decide +kernel) rfl rfl,
  fun _ _ _ _ _ _ _ _ _ _ _ _ _ _ _ _ => r_iconst (show zdec 59 82 = some (.iconst 0, 1) by decide +kernel) rfl rfl,
  fun _ _ _ _ _ _ _ _ _ _ _ _ _ _ _ _ => r_aload_n (show zdec 59 83 = some (.aload_n 1, 1) by decide +kernel) rfl rfl,
  fun _ _ _ _ _ _ _ _ _ _ _ _ _ _ _ _ _ => r_getfield (show zdec 59 84 = some (.getfield 39, 3) by decide +kernel) (show zft.lookup (59 * zKEY + 39) = some (10, 6) by decide +kernel) rfl,
  fun _ _ _ _ _ _ _ _ _ _ _ _ _ _ _ _ _ => r_lneg (show zdec 59 87 = some (.lneg, 1) by decide +kernel) rfl,
  fun _ _ _ _ _ _ _ _ _ _ _ _ _ _ _ _ _ _ _ _ _ => r_cV [_, _, _, _] rfl (show zdec 59 88 = some (.invokevirtual 43, 3) by decide +kernel) (show zst.lookup (59 * zKEY + 43) = some (1, 68, 4, 7) by decide +kernel) (by decide) rfl,
  fun _ _ _ _ _ _ _ _ _ _ _ _ _ _ _ _ => r_aload (show zdec 59 91 = some (.aload 5, 2) by decide +kernel) rfl rfl,
  fun _ _ _ _ _ _ _ _ _ _ _ _ _ _ _ _ _ => r_getfield (show zdec 59 93 = some (.getfield 49, 3) by decide +kernel) (show zft.lookup (59 * zKEY + 49) = some (7, 3) by decide +kernel) rfl,
  fun _ _ _ _ _ _ _ _ _ _ _ _ _ _ _ _ _ => r_lstore (show zdec 59 96 = some (.lstore 6, 2) by decide +kernel) rfl (Nat.le_of_ble_eq_true rfl) rfl rfl,
  fun _ _ _ _ _ _ _ _ _ _ _ _ _ _ _ _ => r_aload_n (show zdec 59 98 = some (.aload_n 1, 1) by decide +kernel) rfl rfl,
  fun _ _ _ _ _ _ _ _ _ _ _ _ _ _ _ _ _ => r_getfield (show zdec 59 99 = some (.getfield 52, 3) by decide +kernel) (show zft.lookup (59 * zKEY + 52) = some (10, 5) by decide +kernel) rfl,
  fun _ _ _ _ _ _ _ _ _ _ _ _ _ _ _ _ _ => r_i2l (show zdec 59 102 = some (.i2l, 1) by decide +kernel) rfl,
  fun _ _ _ _ _ _ _ _ _ _ _ _ _ _ _ _ => r_ldc2 (show zdec 59 103 = some (.ldc2_w 56, 3) by decide +kernel) (show zlt.lookup (59 * zKEY + 56) = some 1000000 by decide +kernel) rfl,
  fun _ _ _ _ _ _ _ _ _ _ _ _ _ _ _ _ _ _ => r_lmul (show zdec 59 106 = some (.lmul, 1) by decide +kernel) rfl,
  fun _ _ _ _ _ _ _ _ _ _ _ _ _ _ _ _ _ => r_lstore (show zdec 59 107 = some (.lstore 8, 2) by decide +kernel) rfl (Nat.le_of_ble_eq_true rfl) rfl rfl,
  fun _ _ _ _ _ _ _ _ _ _ _ _ _ _ _ _ => r_lload (show zdec 59 109 = some (.lload 8, 2) by decide +kernel) rfl rfl,
  fun _ _ _ _ _ _ _ _ _ _ _ _ _ _ _ _ => r_aload_nr (show zdec 59 111 = some (.aload_n 0, 1) by decide +kernel) rfl rfl,
  fun _ _ _ _ _ _ _ _ _ _ _ _ _ _ _ _ _ => r_getfield (show zdec 59 112 = some (.getfield 9, 3) by decide +kernel) (show zft.lookup (59 * zKEY + 9) = some (2, 0) by decide +kernel) rfl,
  fun _ _ _ _ _ _ _ _ _ _ _ _ _ _ _ _ => r_bipush (show zdec 59 115 = some (.bipush 48, 2) by decide +kernel) rfl rfl,
  fun _ _ _ _ _ _ _ _ _ _ _ _ _ _ _ _ => r_iload_n (show zdec 59 117 = some (.iload_n 2, 1) by decide +kernel) rfl rfl,
  fun _ _ _ _ _ _ _ _ _ _ _ _ _ _ _ _ _ _ => r_iadd (show zdec 59 118 = some (.iadd, 1) by decide +kernel) rfl,
  fun _ _ _ _ _ _ _ _ _ _ _ _ _ _ _ _ _ _ => r_lald (show zdec 59 119 = some (.laload, 1) by decide +kernel) rfl,
  fun _ _ _ _ _ _ _ _ _ _ _ _ _ _ _ _ _ _ => r_cM3 (show zdec 59 120 = some (.invokestatic 58, 3) by decide +kernel) (show zst.lookup (59 * zKEY + 58) = some (9, 72, 2, 3) by decide +kernel) rfl,
  fun _ _ _ _ _ _ _ _ _ _ _ _ _ _ _ _ _ => r_lstore (show zdec 59 123 = some (.lstore 10, 2) by decide +kernel) rfl (Nat.le_of_ble_eq_true rfl) rfl rfl,
  fun _ _ _ _ _ _ _ _ _ _ _ _ _ _ _ _ => r_aload_n (show zdec 59 125 = some (.aload_n 1, 1) by decide +kernel) rfl rfl,
  fun _ _ _ _ _ _ _ _ _ _ _ _ _ _ _ _ => r_lload (show zdec 59 126 = some (.lload 10, 2) by decide +kernel) rfl rfl,
  fun _ _ _ _ _ _ _ _ _ _ _ _ _ _ _ _ => r_lload (show zdec 59 128 = some (.lload 6, 2) by decide +kernel) rfl rfl,
  fun _ _ _ _ _ _ _ _ _ _ _ _ _ _ _ _ _ _ => r_lsub (show zdec 59 130 = some (.lsub, 1) by decide +kernel) rfl,
  fun _ _ _ _ _ _ _ _ _ _ _ _ _ _ _ _ => r_lconst (show zdec 59 131 = some (.lconst 0, 1) by decide +kernel) rfl rfl,
  fun _ _ _ _ _ _ _ _ _ _ _ _ _ _ _ _ _ _ => r_cM2 (show zdec 59 132 = some (.invokestatic 64, 3) by decide +kernel) (show zst.lookup (59 * zKEY + 64) = some (9, 73, 2, 2) by decide +kernel) rfl,
  fun _ _ _ _ _ _ _ _ _ _ _ _ _ _ _ _ _ _ => r_putfield (show zdec 59 135 = some (.putfield 39, 3) by decide +kernel) (show zft.lookup (59 * zKEY + 39) = some (10, 6) by decide +kernel) (by decide +kernel) rfl,
  fun _ _ _ _ _ _ _ _ _ _ _ _ _ _ _ _ => r_lload (show zdec 59 138 = some (.lload 6, 2) by decide +kernel) rfl rfl,
  fun _ _ _ _ _ _ _ _ _ _ _ _ _ _ _ _ => r_lload (show zdec 59 140 = some (.lload 10, 2) by decide +kernel) rfl rfl,
  fun _ _ _ _ _ _ _ _ _ _ _ _ _ _ _ _ _ _ => r_cM2 (show zdec 59 142 = some (.invokestatic 64, 3) by decide +kernel) (show zst.lookup (59 * zKEY + 64) = some (9, 73, 2, 2) by decide +kernel) rfl,
  fun _ _ _ _ _ _ _ _ _ _ _ _ _ _ _ _ => r_lload (show zdec 59 145 = some (.lload 8, 2) by decide +kernel) rfl rfl,
  fun _ _ _ _ _ _ _ _ _ _ _ _ _ _ _ _ _ _ => r_lsub (show zdec 59 147 = some (.lsub, 1) by decide +kernel) rfl,
  fun _ _ _ _ _ _ _ _ _ _ _ _ _ _ _ _ => r_lconst (show zdec 59 148 = some (.lconst 0, 1) by decide +kernel) rfl rfl,
  fun _ _ _ _ _ _ _ _ _ _ _ _ _ _ _ _ _ _ => r_cM2 (show zdec 59 149 = some (.invokestatic 64, 3) by decide +kernel) (show zst.lookup (59 * zKEY + 64) = some (9, 73, 2, 2) by decide +kernel) rfl,
  fun _ _ _ _ _ _ _ _ _ _ _ _ _ _ _ _ _ => r_lstore (show zdec 59 152 = some (.lstore 12, 2) by decide +kernel) rfl (Nat.le_of_ble_eq_true rfl) rfl rfl,
  fun _ _ _ _ _ _ _ _ _ _ _ _ _ _ _ _ => r_aload_nr (show zdec 59 154 = some (.aload_n 0, 1) by decide +kernel) rfl rfl,
  fun _ _ _ _ _ _ _ _ _ _ _ _ _ _ _ _ => r_aload_n (show zdec 59 155 = some (.aload_n 1, 1) by decide +kernel) rfl rfl,
  fun _ _ _ _ _ _ _ _ _ _ _ _ _ _ _ _ _ => r_getfield (show zdec 59 156 = some (.getfield 67, 3) by decide +kernel) (show zft.lookup (59 * zKEY + 67) = some (10, 4) by decide +kernel) rfl,
  fun _ _ _ _ _ _ _ _ _ _ _ _ _ _ _ _ => r_lload (show zdec 59 159 = some (.lload 12, 2) by decide +kernel) rfl rfl,
  fun _ _ _ _ _ _ _ _ _ _ _ _ _ _ _ _ => r_aload (show zdec 59 161 = some (.aload 5, 2) by decide +kernel) rfl rfl,
  fun _ _ _ _ _ _ _ _ _ _ _ _ _ _ _ _ _ _ _ _ => r_cV [_, _, _] rfl (show zdec 59 163 = some (.invokevirtual 71, 3) by decide +kernel) (show zst.lookup (59 * zKEY + 71) = some (1, 74, 3, 2) by decide +kernel) (by decide) rfl,
  fun _ _ _ _ _ _ _ _ _ _ _ _ _ _ _ _ => r_aload_n (show zdec 59 166 = some (.aload_n 1, 1) by decide +kernel) rfl rfl,
  fun _ _ _ _ _ _ _ _ _ _ _ _ _ _ _ _ _ => r_getfield (show zdec 59 167 = some (.getfield 39, 3) by decide +kernel) (show zft.lookup (59 * zKEY + 39) = some (10, 6) by decide +kernel) rfl,
  fun _ _ _ _ _ _ _ _ _ _ _ _ _ _ _ _ => r_lconst (show zdec 59 170 = some (.lconst 0, 1) by decide +kernel) rfl rfl,
  fun _ _ _ _ _ _ _ _ _ _ _ _ _ _ _ _ _ _ => r_lcmp (show zdec 59 171 = some (.lcmp, 1) by decide +kernel) rfl,
  fun _ _ _ _ _ _ _ _ _ _ _ _ _ _ _ _ _ => r_ifeq (show zdec 59 172 = some (.ifCond .eq 16, 3) by decide +kernel) rfl rfl,
  fun _ _ _ _ _ _ _ _ _ _ _ _ _ _ _ _ => r_aload (show zdec 59 175 = some (.aload 5, 2) by decide +kernel) rfl rfl,
  fun _ _ _ _ _ _ _ _ _ _ _ _ _ _ _ _ => r_bipush (show zdec 59 177 = some (.bipush 6, 2) by decide +kernel) rfl rfl,
  fun _ _ _ _ _ _ _ _ _ _ _ _ _ _ _ _ => r_iconst (show zdec 59 179 = some (.iconst 0, 1) by decide +kernel) rfl rfl,
  fun _ _ _ _ _ _ _ _ _ _ _ _ _ _ _ _ => r_iconst (show zdec 59 180 = some (.iconst 0, 1) by decide +kernel) rfl rfl,
  fun _ _ _ _ _ _ _ _ _ _ _ _ _ _ _ _ => r_aload_n (show zdec 59 181 = some (.aload_n 1, 1) by decide +kernel) rfl rfl,
  fun _ _ _ _ _ _ _ _ _ _ _ _ _ _ _ _ _ => r_getfield (show zdec 59 182 = some (.getfield 39, 3) by decide +kernel) (show zft.lookup (59 * zKEY + 39) = some (10, 6) by decide +kernel) rfl,
  fun _ _ _ _ _ _ _ _ _ _ _ _ _ _ _ _ _ _ _ _ _ => r_cV [_, _, _, _] rfl (show zdec 59 185 = some (.invokevirtual 43, 3) by decide +kernel) (show zst.lookup (59 * zKEY + 43) = some (1, 68, 4, 7) by decide +kernel) (by decide) rfl,
  fun _ _ _ _ _ _ _ _ _ _ _ _ _ _ _ _ => r_aload (show zdec 59 188 = some (.aload 5, 2) by decide +kernel) rfl rfl,
  fun _ _ _ _ _ _ _ _ _ _ _ _ _ _ _ _ => r_bipush (show zdec 59 190 = some (.bipush 7, 2) by decide +kernel) rfl rfl,
  fun _ _ _ _ _ _ _ _ _ _ _ _ _ _ _ _ => r_iconst (show zdec 59 192 = some (.iconst 0, 1) by decide +kernel) rfl rfl,
  fun _ _ _ _ _ _ _ _ _ _ _ _ _ _ _ _ => r_iconst (show zdec 59 193 = some (.iconst 0, 1) by decide +kernel) rfl rfl,
  fun _ _ _ _ _ _ _ _ _ _ _ _ _ _ _ _ => r_aload (show zdec 59 194 = some (.aload 5, 2) by decide +kernel) rfl rfl,
  fun _ _ _ _ _ _ _ _ _ _ _ _ _ _ _ _ _ => r_getfield (show zdec 59 196 = some (.getfield 49, 3) by decide +kernel) (show zft.lookup (59 * zKEY + 49) = some (7, 3) by decide +kernel) rfl,
  fun _ _ _ _ _ _ _ _ _ _ _ _ _ _ _ _ _ _ _ _ _ => r_cV [_, _, _, _] rfl (show zdec 59 199 = some (.invokevirtual 43, 3) by decide +kernel) (show zst.lookup (59 * zKEY + 43) = some (1, 68, 4, 7) by decide +kernel) (by decide) rfl,
  fun _ _ _ _ _ _ _ _ _ _ _ _ _ _ _ => r_vret (show zdec 59 202 = some (.return_, 1) by decide +kernel) (by decide +kernel)⟩
theorem zl_59_27 : ∀ (l0 l1 l2 l3 l4 l5 l7 l8 l9 l10 l11 l12 l13 : Value) (x : Int32) (S : List Value) (h : zH), rn 59 27 [l0, l1, l2, l3, l4, l5, .int x, l7, l8, l9, l10, l11, l12, l13] S h = rn 59 29 [l0, l1, l2, l3, l4, l5, .int x, l7, l8, l9, l10, l11, l12, l13] (.int x :: S) h := fun _ _ _ _ _ _ _ _ _ _ _ _ _ _ _ _ => r_iload (show zdec 59 27 = some (.iload 6, 2) by decide +kernel) rfl rfl
theorem ze_59 : ∀ (a0 : Nat) (a1 : Nat) (a2 : Int32) (a3 : Nat) (a4 : Int32) (a5 : Nat) (h : zH), ev 59 [.ref a0, .ref a1, .int a2, .ref a3, .int a4, .ref a5] h = rn 59 0 [.ref a0, .ref a1, .int a2, .ref a3, .int a4, .ref a5, .float 0, .float 0, .float 0, .float 0, .float 0, .float 0, .float 0, .float 0] [] h := fun _ _ _ _ _ _ _ => if_pos (Nat.le_of_ble_eq_true rfl)
-- PayrollRun/Rules.fillDues(LPayrollRun/Worker;[J)V
theorem zr_60 : (∀ (l0 l1 l2 l3 l4 l5 l6 l7 l8 l9 l10 : Value) (S : List Value) (h : zH), rn 60 0 [l0, l1, l2, l3, l4, l5, l6, l7, l8, l9, l10] S h = ldA l2 (rn 60 1 [l0, l1, l2, l3, l4, l5, l6, l7, l8, l9, l10] (l2 :: S) h)) ∧
  (∀ (l0 l1 l2 l3 l4 l5 l6 l7 l8 l9 l10 : Value) (a : Nat) (S : List Value) (h : zH), rn 60 1 [l0, l1, l2, l3, l4, l5, l6, l7, l8, l9, l10] (.ref a :: S) h = zal h a fun x => rn 60 2 [l0, l1, l2, l3, l4, l5, l6, l7, l8, l9, l10] (.int x :: S) h) ∧
  (∀ (l0 l1 l2 l3 l4 l5 l6 l7 l8 l9 l10 : Value) (S : List Value) (h : zH), rn 60 2 [l0, l1, l2, l3, l4, l5, l6, l7, l8, l9, l10] S h = rn 60 4 [l0, l1, l2, l3, l4, l5, l6, l7, l8, l9, l10] (.int (nI 60) :: S) h) ∧
  (∀ (l0 l1 l2 l3 l4 l5 l6 l7 l8 l9 l10 : Value) (x : Int32) (y : Int32) (S : List Value) (h : zH), rn 60 4 [l0, l1, l2, l3, l4, l5, l6, l7, l8, l9, l10] (.int y :: .int x :: S) h = if y ≤ x then rn 60 8 [l0, l1, l2, l3, l4, l5, l6, l7, l8, l9, l10] S h else rn 60 7 [l0, l1, l2, l3, l4, l5, l6, l7, l8, l9, l10] S h) ∧
  (∀ (l0 l1 l2 l3 l4 l5 l6 l7 l8 l9 l10 : Value) (h : zH), rn 60 7 [l0, l1, l2, l3, l4, l5, l6, l7, l8, l9, l10] [] h = some (none, h)) ∧
  (∀ (l0 l1 l2 l3 l4 l5 l6 l7 l8 l9 l10 : Value) (S : List Value) (h : zH), rn 60 8 [l0, l1, l2, l3, l4, l5, l6, l7, l8, l9, l10] S h = rn 60 9 [l0, l1, l2, l3, l4, l5, l6, l7, l8, l9, l10] (.int (nI 0) :: S) h) ∧
  (∀ (l0 l1 l2 l3 l4 l5 l6 l7 l8 l9 l10 : Value) (x : Int32) (S : List Value) (h : zH), rn 60 9 [l0, l1, l2, l3, l4, l5, l6, l7, l8, l9, l10] (.int x :: S) h = nl l2 (rn 60 10 [l0, l1, l2, .int x, l4, l5, l6, l7, l8, l9, l10] S h)) ∧
  (∀ (l0 l1 l2 l3 l4 l5 l6 l7 l8 l9 l10 : Value) (S : List Value) (h : zH), rn 60 11 [l0, l1, l2, l3, l4, l5, l6, l7, l8, l9, l10] S h = rn 60 12 [l0, l1, l2, l3, l4, l5, l6, l7, l8, l9, l10] (.int (nI 5) :: S) h) ∧
  (∀ (l0 l1 l2 l3 l4 l5 l6 l7 l8 l9 l10 : Value) (x : Int32) (y : Int32) (S : List Value) (h : zH), rn 60 12 [l0, l1, l2, l3, l4, l5, l6, l7, l8, l9, l10] (.int y :: .int x :: S) h = if y ≤ x then rn 60 81 [l0, l1, l2, l3, l4, l5, l6, l7, l8, l9, l10] S h else rn 60 15 [l0, l1, l2, l3, l4, l5, l6, l7, l8, l9, l10] S h) ∧
  (∀ (l0 l1 l2 l3 l4 l5 l6 l7 l8 l9 l10 : Value) (S : List Value) (h : zH), rn 60 15 [l0, l1, l2, l3, l4, l5, l6, l7, l8, l9, l10] S h = rn 60 16 [l0, l1, l2, l3, l4, l5, l6, l7, l8, l9, l10] (.long 0 :: S) h) ∧
  (∀ (l0 l1 l2 l3 l4 l5 l6 l7 l8 l9 l10 : Value) (x : Int64) (S : List Value) (h : zH), rn 60 16 [l0, l1, l2, l3, l4, l5, l6, l7, l8, l9, l10] (.long x :: S) h = nl l3 (rn 60 18 [l0, l1, l2, l3, .long x, .float 0, l6, l7, l8, l9, l10] S h)) ∧
  (∀ (l0 l1 l2 l3 l4 l5 l6 l7 l8 l9 l10 : Value) (S : List Value) (h : zH), rn 60 18 [l0, l1, l2, l3, l4, l5, l6, l7, l8, l9, l10] S h = rn 60 19 [l0, l1, l2, l3, l4, l5, l6, l7, l8, l9, l10] (.long 0 :: S) h) ∧
  (∀ (l0 l1 l2 l3 l4 l5 l6 l7 l8 l9 l10 : Value) (x : Int64) (S : List Value) (h : zH), rn 60 19 [l0, l1, l2, l3, l4, l5, l6, l7, l8, l9, l10] (.long x :: S) h = nl l5 (rn 60 21 [l0, l1, l2, l3, l4, l5, .long x, .float 0, l8, l9, l10] S h)) ∧
  (∀ (l0 l1 l2 l3 l4 l5 l6 l7 l8 l9 l10 : Value) (S : List Value) (h : zH), rn 60 21 [l0, l1, l2, l3, l4, l5, l6, l7, l8, l9, l10] S h = rn 60 22 [l0, l1, l2, l3, l4, l5, l6, l7, l8, l9, l10] (.int (nI 0) :: S) h) ∧
  (∀ (l0 l1 l2 l3 l4 l5 l6 l7 l8 l9 l10 : Value) (x : Int32) (S : List Value) (h : zH), rn 60 22 [l0, l1, l2, l3, l4, l5, l6, l7, l8, l9, l10] (.int x :: S) h = nl l7 (rn 60 24 [l0, l1, l2, l3, l4, l5, l6, l7, .int x, l9, l10] S h)) ∧
  (∀ (l0 l1 l2 l3 l4 l5 l6 l7 l8 l9 l10 : Value) (S : List Value) (h : zH), rn 60 26 [l0, l1, l2, l3, l4, l5, l6, l7, l8, l9, l10] S h = rn 60 28 [l0, l1, l2, l3, l4, l5, l6, l7, l8, l9, l10] (.int (nI 12) :: S) h) ∧
  (∀ (l0 l1 l2 l3 l4 l5 l6 l7 l8 l9 l10 : Value) (x : Int32) (y : Int32) (S : List Value) (h : zH), rn 60 28 [l0, l1, l2, l3, l4, l5, l6, l7, l8, l9, l10] (.int y :: .int x :: S) h = if y ≤ x then rn 60 75 [l0, l1, l2, l3, l4, l5, l6, l7, l8, l9, l10] S h else rn 60 31 [l0, l1, l2, l3, l4, l5, l6, l7, l8, l9, l10] S h) ∧
  (∀ (l0 l1 l2 l3 l5 l6 l7 l8 l9 l10 : Value) (x : Int64) (S : List Value) (h : zH), rn 60 31 [l0, l1, l2, l3, .long x, l5, l6, l7, l8, l9, l10] S h = rn 60 33 [l0, l1, l2, l3, .long x, l5, l6, l7, l8, l9, l10] (.long x :: S) h) ∧
  (∀ (l0 l1 l2 l3 l4 l5 l6 l7 l8 l9 l10 : Value) (S : List Value) (h : zH), rn 60 33 [l0, l1, l2, l3, l4, l5, l6, l7, l8, l9, l10] S h = ldA l1 (rn 60 34 [l0, l1, l2, l3, l4, l5, l6, l7, l8, l9, l10] (l1 :: S) h)) ∧
  (∀ (l0 l1 l2 l3 l4 l5 l6 l7 l9 l10 : Value) (x : Int32) (S : List Value) (h : zH), rn 60 34 [l0, l1, l2, l3, l4, l5, l6, l7, .int x, l9, l10] S h = rn 60 36 [l0, l1, l2, l3, l4, l5, l6, l7, .int x, l9, l10] (.int x :: S) h) ∧
  (∀ (l0 l1 l2 l3 l4 l5 l6 l7 l8 l9 l10 : Value) (o : Nat) (v0 : Value) (S : List Value) (h : zH), rn 60 36 [l0, l1, l2, l3, l4, l5, l6, l7, l8, l9, l10] (v0 :: .ref o :: S) h = if zkd h o = 10 ∧ zsum S ≤ 8 then zcall (ev 61 [.ref o, v0] h) (fun v h => rn 60 39 [l0, l1, l2, l3, l4, l5, l6, l7, l8, l9, l10] (zpush v S) h) else none) ∧
  (∀ (l0 l1 l2 l3 l4 l5 l6 l7 l8 l9 l10 : Value) (x : Int64) (y : Int64) (S : List Value) (h : zH), rn 60 39 [l0, l1, l2, l3, l4, l5, l6, l7, l8, l9, l10] (.long y :: .long x :: S) h = rn 60 40 [l0, l1, l2, l3, l4, l5, l6, l7, l8, l9, l10] (.long (x + y) :: S) h) ∧
  (∀ (l0 l1 l2 l3 l4 l5 l6 l7 l8 l9 l10 : Value) (x : Int64) (S : List Value) (h : zH), rn 60 40 [l0, l1, l2, l3, l4, l5, l6, l7, l8, l9, l10] (.long x :: S) h = nl l3 (rn 60 42 [l0, l1, l2, l3, .long x, .float 0, l6, l7, l8, l9, l10] S h)) ∧
  (∀ (l1 l2 l3 l4 l5 l6 l7 l8 l9 l10 : Value) (x : Nat) (S : List Value) (h : zH), rn 60 42 [.ref x, l1, l2, l3, l4, l5, l6, l7, l8, l9, l10] S h = rn 60 43 [.ref x, l1, l2, l3, l4, l5, l6, l7, l8, l9, l10] (.ref x :: S) h) ∧
  (∀ (l0 l1 l2 l4 l5 l6 l7 l8 l9 l10 : Value) (x : Int32) (S : List Value) (h : zH), rn 60 43 [l0, l1, l2, .int x, l4, l5, l6, l7, l8, l9, l10] S h = rn 60 44 [l0, l1, l2, .int x, l4, l5, l6, l7, l8, l9, l10] (.int x :: S) h) ∧
  (∀ (l0 l1 l2 l3 l5 l6 l7 l8 l9 l10 : Value) (x : Int64) (S : List Value) (h : zH), rn 60 44 [l0, l1, l2, l3, .long x, l5, l6, l7, l8, l9, l10] S h = rn 60 46 [l0, l1, l2, l3, .long x, l5, l6, l7, l8, l9, l10] (.long x :: S) h) ∧
  (∀ (l0 l1 l2 l3 l4 l5 l6 l7 l8 l9 l10 : Value) (o : Nat) (v0 : Value) (v1 : Value) (S : List Value) (h : zH), rn 60 46 [l0, l1, l2, l3, l4, l5, l6, l7, l8, l9, l10] (v1 :: v0 :: .ref o :: S) h = if zkd h o = 6 ∧ zsum S ≤ 8 then zcall (ev 63 [.ref o, v0, v1] h) (fun v h => rn 60 49 [l0, l1, l2, l3, l4, l5, l6, l7, l8, l9, l10] (zpush v S) h) else none) ∧
  (∀ (l0 l1 l2 l3 l4 l5 l6 l7 l8 l9 l10 : Value) (x : Int64) (S : List Value) (h : zH), rn 60 49 [l0, l1, l2, l3, l4, l5, l6, l7, l8, l9, l10] (.long x :: S) h = nl l8 (rn 60 51 [l0, l1, l2, l3, l4, l5, l6, l7, l8, .long x, .float 0] S h)) ∧
  (∀ (l0 l1 l2 l3 l4 l5 l6 l7 l8 l9 l10 : Value) (S : List Value) (h : zH), rn 60 51 [l0, l1, l2, l3, l4, l5, l6, l7, l8, l9, l10] S h = ldA l2 (rn 60 52 [l0, l1, l2, l3, l4, l5, l6, l7, l8, l9, l10] (l2 :: S) h)) ∧
  (∀ (l0 l1 l2 l4 l5 l6 l7 l8 l9 l10 : Value) (x : Int32) (S : List Value) (h : zH), rn 60 52 [l0, l1, l2, .int x, l4, l5, l6, l7, l8, l9, l10] S h = rn 60 53 [l0, l1, l2, .int x, l4, l5, l6, l7, l8, l9, l10] (.int x :: S) h) ∧
  (∀ (l0 l1 l2 l3 l4 l5 l6 l7 l8 l9 l10 : Value) (S : List Value) (h : zH), rn 60 53 [l0, l1, l2, l3, l4, l5, l6, l7, l8, l9, l10] S h = rn 60 55 [l0, l1, l2, l3, l4, l5, l6, l7, l8, l9, l10] (.int (nI 12) :: S) h) ∧
  (∀ (l0 l1 l2 l3 l4 l5 l6 l7 l8 l9 l10 : Value) (x : Int32) (y : Int32) (S : List Value) (h : zH), rn 60 55 [l0, l1, l2, l3, l4, l5, l6, l7, l8, l9, l10] (.int y :: .int x :: S) h = rn 60 56 [l0, l1, l2, l3, l4, l5, l6, l7, l8, l9, l10] (.int (x * y) :: S) h) ∧
  (∀ (l0 l1 l2 l3 l4 l5 l6 l7 l9 l10 : Value) (x : Int32) (S : List Value) (h : zH), rn 60 56 [l0, l1, l2, l3, l4, l5, l6, l7, .int x, l9, l10] S h = rn 60 58 [l0, l1, l2, l3, l4, l5, l6, l7, .int x, l9, l10] (.int x :: S) h) ∧
  (∀ (l0 l1 l2 l3 l4 l5 l6 l7 l8 l9 l10 : Value) (x : Int32) (y : Int32) (S : List Value) (h : zH), rn 60 58 [l0, l1, l2, l3, l4, l5, l6, l7, l8, l9, l10] (.int y :: .int x :: S) h = rn 60 59 [l0, l1, l2, l3, l4, l5, l6, l7, l8, l9, l10] (.int (x + y) :: S) h) ∧
  (∀ (l0 l1 l2 l3 l4 l5 l6 l7 l8 l10 : Value) (x : Int64) (S : List Value) (h : zH), rn 60 59 [l0, l1, l2, l3, l4, l5, l6, l7, l8, .long x, l10] S h = rn 60 61 [l0, l1, l2, l3, l4, l5, l6, l7, l8, .long x, l10] (.long x :: S) h) ∧
  (∀ (l0 l1 l2 l3 l4 l5 l7 l8 l9 l10 : Value) (x : Int64) (S : List Value) (h : zH), rn 60 61 [l0, l1, l2, l3, l4, l5, .long x, l7, l8, l9, l10] S h = rn 60 63 [l0, l1, l2, l3, l4, l5, .long x, l7, l8, l9, l10] (.long x :: S) h) ∧
  (∀ (l0 l1 l2 l3 l4 l5 l6 l7 l8 l9 l10 : Value) (x : Int64) (y : Int64) (S : List Value) (h : zH), rn 60 63 [l0, l1, l2, l3, l4, l5, l6, l7, l8, l9, l10] (.long y :: .long x :: S) h = rn 60 64 [l0, l1, l2, l3, l4, l5, l6, l7, l8, l9, l10] (.long (x - y) :: S) h) ∧
  (∀ (l0 l1 l2 l3 l4 l5 l6 l7 l8 l9 l10 : Value) (a : Nat) (j : Int32) (x : Int64) (S : List Value) (h : zH), rn 60 64 [l0, l1, l2, l3, l4, l5, l6, l7, l8, l9, l10] (.long x :: .int j :: .ref a :: S) h = zsj h a j x fun h => rn 60 65 [l0, l1, l2, l3, l4, l5, l6, l7, l8, l9, l10] S h) ∧
  (∀ (l0 l1 l2 l3 l4 l5 l6 l7 l8 l10 : Value) (x : Int64) (S : List Value) (h : zH), rn 60 65 [l0, l1, l2, l3, l4, l5, l6, l7, l8, .long x, l10] S h = rn 60 67 [l0, l1, l2, l3, l4, l5, l6, l7, l8, .long x, l10] (.long x :: S) h) ∧
  (∀ (l0 l1 l2 l3 l4 l5 l6 l7 l8 l9 l10 : Value) (x : Int64) (S : List Value) (h : zH), rn 60 67 [l0, l1, l2, l3, l4, l5, l6, l7, l8, l9, l10] (.long x :: S) h = nl l5 (rn 60 69 [l0, l1, l2, l3, l4, l5, .long x, .float 0, l8, l9, l10] S h)) ∧
  (∀ (l0 l1 l2 l3 l4 l5 l6 l7 l9 l10 : Value) (x : Int32) (S : List Value) (h : zH), rn 60 69 [l0, l1, l2, l3, l4, l5, l6, l7, .int x, l9, l10] S h = nl l7 (rn 60 72 [l0, l1, l2, l3, l4, l5, l6, l7, .int (x + (nI 1)), l9, l10] S h)) ∧
  (∀ (l0 l1 l2 l3 l4 l5 l6 l7 l8 l9 l10 : Value) (S : List Value) (h : zH), rn 60 72 [l0, l1, l2, l3, l4, l5, l6, l7, l8, l9, l10] S h = rn 60 24 [l0, l1, l2, l3, l4, l5, l6, l7, l8, l9, l10] S h) ∧
  (∀ (l0 l1 l2 l4 l5 l6 l7 l8 l9 l10 : Value) (x : Int32) (S : List Value) (h : zH), rn 60 75 [l0, l1, l2, .int x, l4, l5, l6, l7, l8, l9, l10] S h = nl l2 (rn 60 78 [l0, l1, l2, .int (x + (nI 1)), l4, l5, l6, l7, l8, l9, l10] S h)) ∧
  (∀ (l0 l1 l2 l3 l4 l5 l6 l7 l8 l9 l10 : Value) (S : List Value) (h : zH), rn 60 78 [l0, l1, l2, l3, l4, l5, l6, l7, l8, l9, l10] S h = rn 60 10 [l0, l1, l2, l3, l4, l5, l6, l7, l8, l9, l10] S h) ∧
  (∀ (l0 l1 l2 l3 l4 l5 l6 l7 l8 l9 l10 : Value) (h : zH), rn 60 81 [l0, l1, l2, l3, l4, l5, l6, l7, l8, l9, l10] [] h = some (none, h)) := ⟨fun _ _ _ _ _ _ _ _ _ _ _ _ _ => r_aload_n (show zdec 60 0 = some (.aload_n 2, 1) by decide +kernel) rfl rfl,
  fun _ _ _ _ _ _ _ _ _ _ _ _ _ _ => r_alen (show zdec 60 1 = some (.arraylength, 1) by decide +kernel) rfl,
  fun _ _ _ _ _ _ _ _ _ _ _ _ _ => r_bipush (show zdec 60 2 = some (.bipush 60, 2) by decide +kernel) rfl rfl,
  fun _ _ _ _ _ _ _ _ _ _ _ _ _ _ _ => r_icmpge (show zdec 60 4 = some (.if_icmp .ge 4, 3) by decide +kernel) rfl rfl,
  fun _ _ _ _ _ _ _ _ _ _ _ _ => r_vret (show zdec 60 7 = some (.return_, 1) by decide +kernel) (by decide +kernel),
  fun _ _ _ _ _ _ _ _ _ _ _ _ _ => r_iconst (show zdec 60 8 = some (.iconst 0, 1) by decide +kernel) rfl rfl,
  fun _ _ _ _ _ _ _ _ _ _ _ _ _ _ => r_istore_n (show zdec 60 9 = some (.istore_n 3, 1) by decide +kernel) rfl rfl (Nat.le_of_ble_eq_true rfl) rfl rfl,
  fun _ _ _ _ _ _ _ _ _ _ _ _ _ => r_iconst (show zdec 60 11 = some (.iconst 5, 1) by decide +kernel) rfl rfl,
  fun _ _ _ _ _ _ _ _ _ _ _ _ _ _ _ => r_icmpge (show zdec 60 12 = some (.if_icmp .ge 69, 3) by decide +kernel) rfl rfl,
  fun _ _ _ _ _ _ _ _ _ _ _ _ _ => r_lconst (show zdec 60 15 = some (.lconst 0, 1) by decide +kernel) rfl rfl,
  fun _ _ _ _ _ _ _ _ _ _ _ _ _ _ => r_lstore (show zdec 60 16 = some (.lstore 4, 2) by decide +kernel) rfl (Nat.le_of_ble_eq_true rfl) rfl rfl,
  fun _ _ _ _ _ _ _ _ _ _ _ _ _ => r_lconst (show zdec 60 18 = some (.lconst 0, 1) by decide +kernel) rfl rfl,
  fun _ _ _ _ _ _ _ _ _ _ _ _ _ _ => r_lstore (show zdec 60 19 = some (.lstore 6, 2) by decide +kernel) rfl (Nat.le_of_ble_eq_true rfl) rfl rfl,
  fun _ _ _ _ _ _ _ _ _ _ _ _ _ => r_iconst (show zdec 60 21 = some (.iconst 0, 1) by decide +kernel) rfl rfl,
  fun _ _ _ _ _ _ _ _ _ _ _ _ _ _ => r_istore (show zdec 60 22 = some (.istore 8, 2) by decide +kernel) rfl (Nat.le_of_ble_eq_true rfl) rfl rfl,
  fun _ _ _ _ _ _ _ _ _ _ _ _ _ => r_bipush (show zdec 60 26 = some (.bipush 12, 2) by decide +kernel) rfl rfl,
  fun _ _ _ _ _ _ _ _ _ _ _ _ _ _ _ => r_icmpge (show zdec 60 28 = some (.if_icmp .ge 47, 3) by decide +kernel) rfl rfl,
  fun _ _ _ _ _ _ _ _ _ _ _ _ _ => r_lload (show zdec 60 31 = some (.lload 4, 2) by decide +kernel) rfl rfl,
  fun _ _ _ _ _ _ _ _ _ _ _ _ _ => r_aload_n (show zdec 60 33 = some (.aload_n 1, 1) by decide +kernel) rfl rfl,
  fun _ _ _ _ _ _ _ _ _ _ _ _ _ => r_iload (show zdec 60 34 = some (.iload 8, 2) by decide +kernel) rfl rfl,
  fun _ _ _ _ _ _ _ _ _ _ _ _ _ _ _ => r_cV [_] rfl (show zdec 60 36 = some (.invokevirtual 39, 3) by decide +kernel) (show zst.lookup (60 * zKEY + 39) = some (1, 61, 1, 10) by decide +kernel) (by decide) rfl,
  fun _ _ _ _ _ _ _ _ _ _ _ _ _ _ _ => r_ladd (show zdec 60 39 = some (.ladd, 1) by decide +kernel) rfl,
  fun _ _ _ _ _ _ _ _ _ _ _ _ _ _ => r_lstore (show zdec 60 40 = some (.lstore 4, 2) by decide +kernel) rfl (Nat.le_of_ble_eq_true rfl) rfl rfl,
  fun _ _ _ _ _ _ _ _ _ _ _ _ _ => r_aload_nr (show zdec 60 42 = some (.aload_n 0, 1) by decide +kernel) rfl rfl,
  fun _ _ _ _ _ _ _ _ _ _ _ _ _ => r_iload_n (show zdec 60 43 = some (.iload_n 3, 1) by decide +kernel) rfl rfl,
  fun _ _ _ _ _ _ _ _ _ _ _ _ _ => r_lload (show zdec 60 44 = some (.lload 4, 2) by decide +kernel) rfl rfl,
  fun _ _ _ _ _ _ _ _ _ _ _ _ _ _ _ _ => r_cV [_, _] rfl (show zdec 60 46 = some (.invokevirtual 45, 3) by decide +kernel) (show zst.lookup (60 * zKEY + 45) = some (1, 63, 2, 6) by decide +kernel) (by decide) rfl,
  fun _ _ _ _ _ _ _ _ _ _ _ _ _ _ => r_lstore (show zdec 60 49 = some (.lstore 9, 2) by decide +kernel) rfl (Nat.le_of_ble_eq_true rfl) rfl rfl,
  fun _ _ _ _ _ _ _ _ _ _ _ _ _ => r_aload_n (show zdec 60 51 = some (.aload_n 2, 1) by decide +kernel) rfl rfl,
  fun _ _ _ _ _ _ _ _ _ _ _ _ _ => r_iload_n (show zdec 60 52 = some (.iload_n 3, 1) by decide +kernel) rfl rfl,
  fun _ _ _ _ _ _ _ _ _ _ _ _ _ => r_bipush (show zdec 60 53 = some (.bipush 12, 2) by decide +kernel) rfl rfl,
  fun _ _ _ _ _ _ _ _ _ _ _ _ _ _ _ => r_imul (show zdec 60 55 = some (.imul, 1) by decide +kernel) rfl,
  fun _ _ _ _ _ _ _ _ _ _ _ _ _ => r_iload (show zdec 60 56 = some (.iload 8, 2) by decide +kernel) rfl rfl,
  fun _ _ _ _ _ _ _ _ _ _ _ _ _ _ _ => r_iadd (show zdec 60 58 = some (.iadd, 1) by decide +kernel) rfl,
  fun _ _ _ _ _ _ _ _ _ _ _ _ _ => r_lload (show zdec 60 59 = some (.lload 9, 2) by decide +kernel) rfl rfl,
  fun _ _ _ _ _ _ _ _ _ _ _ _ _ => r_lload (show zdec 60 61 = some (.lload 6, 2) by decide +kernel) rfl rfl,
  fun _ _ _ _ _ _ _ _ _ _ _ _ _ _ _ => r_lsub (show zdec 60 63 = some (.lsub, 1) by decide +kernel) rfl,
  fun _ _ _ _ _ _ _ _ _ _ _ _ _ _ _ _ => r_last (show zdec 60 64 = some (.lastore, 1) by decide +kernel) rfl,
  fun _ _ _ _ _ _ _ _ _ _ _ _ _ => r_lload (show zdec 60 65 = some (.lload 9, 2) by decide +kernel) rfl rfl,
  fun _ _ _ _ _ _ _ _ _ _ _ _ _ _ => r_lstore (show zdec 60 67 = some (.lstore 6, 2) by decide +kernel) rfl (Nat.le_of_ble_eq_true rfl) rfl rfl,
  fun _ _ _ _ _ _ _ _ _ _ _ _ _ => r_iinc (show zdec 60 69 = some (.iinc 8 1, 3) by decide +kernel) rfl rfl rfl (Nat.le_of_ble_eq_true rfl) rfl rfl,
  fun _ _ _ _ _ _ _ _ _ _ _ _ _ => r_goto (show zdec 60 72 = some (.goto (-48), 3) by decide +kernel) rfl,
  fun _ _ _ _ _ _ _ _ _ _ _ _ _ => r_iinc (show zdec 60 75 = some (.iinc 3 1, 3) by decide +kernel) rfl rfl rfl (Nat.le_of_ble_eq_true rfl) rfl rfl,
  fun _ _ _ _ _ _ _ _ _ _ _ _ _ => r_goto (show zdec 60 78 = some (.goto (-68), 3) by decide +kernel) rfl,
  fun _ _ _ _ _ _ _ _ _ _ _ _ => r_vret (show zdec 60 81 = some (.return_, 1) by decide +kernel) (by decide +kernel)⟩
theorem zl_60_10 : ∀ (l0 l1 l2 l4 l5 l6 l7 l8 l9 l10 : Value) (x : Int32) (S : List Value) (h : zH), rn 60 10 [l0, l1, l2, .int x, l4, l5, l6, l7, l8, l9, l10] S h = rn 60 11 [l0, l1, l2, .int x, l4, l5, l6, l7, l8, l9, l10] (.int x :: S) h := fun _ _ _ _ _ _ _ _ _ _ _ _ _ => r_iload_n (show zdec 60 10 = some (.iload_n 3, 1) by decide +kernel) rfl rfl
theorem zl_60_24 : ∀ (l0 l1 l2 l3 l4 l5 l6 l7 l9 l10 : Value) (x : Int32) (S : List Value) (h : zH), rn 60 24 [l0, l1, l2, l3, l4, l5, l6, l7, .int x, l9, l10] S h = rn 60 26 [l0, l1, l2, l3, l4, l5, l6, l7, .int x, l9, l10] (.int x :: S) h := fun _ _ _ _ _ _ _ _ _ _ _ _ _ => r_iload (show zdec 60 24 = some (.iload 8, 2) by decide +kernel) rfl rfl
theorem ze_60 : ∀ (a0 : Nat) (a1 : Nat) (a2 : Nat) (h : zH), ev 60 [.ref a0, .ref a1, .ref a2] h = rn 60 0 [.ref a0, .ref a1, .ref a2, .float 0, .float 0, .float 0, .float 0, .float 0, .float 0, .float 0, .float 0] [] h := fun _ _ _ _ => if_pos (Nat.le_of_ble_eq_true rfl)
-- PayrollRun/Worker.grossOf(I)J
theorem zr_61 : (∀ (l1 : Value) (x : Nat) (S : List Value) (h : zH), rn 61 0 [.ref x, l1] S h = rn 61 1 [.ref x, l1] (.ref x :: S) h) ∧
  (∀ (l0 l1 : Value) (a : Nat) (S : List Value) (h : zH), rn 61 1 [l0, l1] (.ref a :: S) h = zgf h a 10 0 fun v => rn 61 4 [l0, l1] (v :: S) h) ∧
  (∀ (l0 l1 : Value) (S : List Value) (h : zH), rn 61 4 [l0, l1] S h = rn 61 5 [l0, l1] (.int (nI 0) :: S) h) ∧
  (∀ (l0 : Value) (x : Int32) (S : List Value) (h : zH), rn 61 5 [l0, .int x] S h = rn 61 6 [l0, .int x] (.int x :: S) h) ∧
  (∀ (l0 l1 : Value) (x : Int32) (y : Int32) (S : List Value) (h : zH), rn 61 6 [l0, l1] (.int y :: .int x :: S) h = rn 61 7 [l0, l1] (.int (x + y) :: S) h) ∧
  (∀ (l0 l1 : Value) (a : Nat) (j : Int32) (S : List Value) (h : zH), rn 61 7 [l0, l1] (.int j :: .ref a :: S) h = zli h a 0 j fun x => rn 61 8 [l0, l1] (.int x :: S) h) ∧
  (∀ (l1 : Value) (x : Nat) (S : List Value) (h : zH), rn 61 8 [.ref x, l1] S h = rn 61 9 [.ref x, l1] (.ref x :: S) h) ∧
  (∀ (l0 l1 : Value) (a : Nat) (S : List Value) (h : zH), rn 61 9 [l0, l1] (.ref a :: S) h = zgf h a 10 0 fun v => rn 61 12 [l0, l1] (v :: S) h) ∧
  (∀ (l0 l1 : Value) (S : List Value) (h : zH), rn 61 12 [l0, l1] S h = rn 61 14 [l0, l1] (.int (nI 12) :: S) h) ∧
  (∀ (l0 : Value) (x : Int32) (S : List Value) (h : zH), rn 61 14 [l0, .int x] S h = rn 61 15 [l0, .int x] (.int x :: S) h) ∧
  (∀ (l0 l1 : Value) (x : Int32) (y : Int32) (S : List Value) (h : zH), rn 61 15 [l0, l1] (.int y :: .int x :: S) h = rn 61 16 [l0, l1] (.int (x + y) :: S) h) ∧
  (∀ (l0 l1 : Value) (a : Nat) (j : Int32) (S : List Value) (h : zH), rn 61 16 [l0, l1] (.int j :: .ref a :: S) h = zli h a 0 j fun x => rn 61 17 [l0, l1] (.int x :: S) h) ∧
  (∀ (l1 : Value) (x : Nat) (S : List Value) (h : zH), rn 61 17 [.ref x, l1] S h = rn 61 18 [.ref x, l1] (.ref x :: S) h) ∧
  (∀ (l0 l1 : Value) (a : Nat) (S : List Value) (h : zH), rn 61 18 [l0, l1] (.ref a :: S) h = zgf h a 10 0 fun v => rn 61 21 [l0, l1] (v :: S) h) ∧
  (∀ (l0 l1 : Value) (S : List Value) (h : zH), rn 61 21 [l0, l1] S h = rn 61 23 [l0, l1] (.int (nI 24) :: S) h) ∧
  (∀ (l0 : Value) (x : Int32) (S : List Value) (h : zH), rn 61 23 [l0, .int x] S h = rn 61 24 [l0, .int x] (.int x :: S) h) ∧
  (∀ (l0 l1 : Value) (x : Int32) (y : Int32) (S : List Value) (h : zH), rn 61 24 [l0, l1] (.int y :: .int x :: S) h = rn 61 25 [l0, l1] (.int (x + y) :: S) h) ∧
  (∀ (l0 l1 : Value) (a : Nat) (j : Int32) (S : List Value) (h : zH), rn 61 25 [l0, l1] (.int j :: .ref a :: S) h = zli h a 0 j fun x => rn 61 26 [l0, l1] (.int x :: S) h) ∧
  (∀ (l0 l1 : Value) (v0 : Value) (v1 : Value) (v2 : Value) (S : List Value) (h : zH), rn 61 26 [l0, l1] (v2 :: v1 :: v0 :: S) h = if zsum S ≤ 8 then zcall (ev 62 [v0, v1, v2] h) (fun v h => rn 61 29 [l0, l1] (zpush v S) h) else none) ∧
  (∀ (l0 l1 : Value) (x : Int64) (h : zH), rn 61 29 [l0, l1] [.long x] h = some (some (.long x), h)) := ⟨fun _ _ _ _ => r_aload_nr (show zdec 61 0 = some (.aload_n 0, 1) by decide +kernel) rfl rfl,
  fun _ _ _ _ _ => r_getfield (show zdec 61 1 = some (.getfield 9, 3) by decide +kernel) (show zft.lookup (61 * zKEY + 9) = some (10, 0) by decide +kernel) rfl,
  fun _ _ _ _ => r_iconst (show zdec 61 4 = some (.iconst 0, 1) by decide +kernel) rfl rfl,
  fun _ _ _ _ => r_iload_n (show zdec 61 5 = some (.iload_n 1, 1) by decide +kernel) rfl rfl,
  fun _ _ _ _ _ _ => r_iadd (show zdec 61 6 = some (.iadd, 1) by decide +kernel) rfl,
  fun _ _ _ _ _ _ => r_iald (show zdec 61 7 = some (.iaload, 1) by decide +kernel) rfl,
  fun _ _ _ _ => r_aload_nr (show zdec 61 8 = some (.aload_n 0, 1) by decide +kernel) rfl rfl,
  fun _ _ _ _ _ => r_getfield (show zdec 61 9 = some (.getfield 9, 3) by decide +kernel) (show zft.lookup (61 * zKEY + 9) = some (10, 0) by decide +kernel) rfl,
  fun _ _ _ _ => r_bipush (show zdec 61 12 = some (.bipush 12, 2) by decide +kernel) rfl rfl,
  fun _ _ _ _ => r_iload_n (show zdec 61 14 = some (.iload_n 1, 1) by decide +kernel) rfl rfl,
  fun _ _ _ _ _ _ => r_iadd (show zdec 61 15 = some (.iadd, 1) by decide +kernel) rfl,
  fun _ _ _ _ _ _ => r_iald (show zdec 61 16 = some (.iaload, 1) by decide +kernel) rfl,
  fun _ _ _ _ => r_aload_nr (show zdec 61 17 = some (.aload_n 0, 1) by decide +kernel) rfl rfl,
  fun _ _ _ _ _ => r_getfield (show zdec 61 18 = some (.getfield 9, 3) by decide +kernel) (show zft.lookup (61 * zKEY + 9) = some (10, 0) by decide +kernel) rfl,
  fun _ _ _ _ => r_bipush (show zdec 61 21 = some (.bipush 24, 2) by decide +kernel) rfl rfl,
  fun _ _ _ _ => r_iload_n (show zdec 61 23 = some (.iload_n 1, 1) by decide +kernel) rfl rfl,
  fun _ _ _ _ _ _ => r_iadd (show zdec 61 24 = some (.iadd, 1) by decide +kernel) rfl,
  fun _ _ _ _ _ _ => r_iald (show zdec 61 25 = some (.iaload, 1) by decide +kernel) rfl,
  fun _ _ _ _ _ _ _ => r_cS [_, _, _] rfl (show zdec 61 26 = some (.invokestatic 56, 3) by decide +kernel) (show zst.lookup (61 * zKEY + 56) = some (3, 62, 3, 0) by decide +kernel) (by decide) rfl,
  fun _ _ _ _ => r_lret (show zdec 61 29 = some (.lreturn, 1) by decide +kernel) (by decide +kernel)⟩
theorem ze_61 : ∀ (a0 : Nat) (a1 : Int32) (h : zH), ev 61 [.ref a0, .int a1] h = rn 61 0 [.ref a0, .int a1] [] h := fun _ _ _ => if_pos (Nat.le_of_ble_eq_true rfl)
-- PayrollRun/Rules.amountOn(IJ)J
theorem zr_63 : (∀ (l0 l2 l3 l4 l5 l6 l7 l8 l9 l10 l11 : Value) (x : Int32) (S : List Value) (h : zH), rn 63 0 [l0, .int x, l2, l3, l4, l5, l6, l7, l8, l9, l10, l11] S h = rn 63 1 [l0, .int x, l2, l3, l4, l5, l6, l7, l8, l9, l10, l11] (.int x :: S) h) ∧
  (∀ (l0 l1 l2 l3 l4 l5 l6 l7 l8 l9 l10 l11 : Value) (x : Int32) (S : List Value) (h : zH), rn 63 1 [l0, l1, l2, l3, l4, l5, l6, l7, l8, l9, l10, l11] (.int x :: S) h = if x = nI 0 then rn 63 4 [l0, l1, l2, l3, l4, l5, l6, l7, l8, l9, l10, l11] S h else rn 63 10 [l0, l1, l2, l3, l4, l5, l6, l7, l8, l9, l10, l11] S h) ∧
  (∀ (l0 l1 l3 l4 l5 l6 l7 l8 l9 l10 l11 : Value) (x : Int64) (S : List Value) (h : zH), rn 63 4 [l0, l1, .long x, l3, l4, l5, l6, l7, l8, l9, l10, l11] S h = rn 63 5 [l0, l1, .long x, l3, l4, l5, l6, l7, l8, l9, l10, l11] (.long x :: S) h) ∧
  (∀ (l0 l1 l2 l3 l4 l5 l6 l7 l8 l9 l10 l11 : Value) (S : List Value) (h : zH), rn 63 5 [l0, l1, l2, l3, l4, l5, l6, l7, l8, l9, l10, l11] S h = rn 63 8 [l0, l1, l2, l3, l4, l5, l6, l7, l8, l9, l10, l11] (.long (1000000) :: S) h) ∧
  (∀ (l0 l1 l2 l3 l4 l5 l6 l7 l8 l9 l10 l11 : Value) (x : Int64) (y : Int64) (S : List Value) (h : zH), rn 63 8 [l0, l1, l2, l3, l4, l5, l6, l7, l8, l9, l10, l11] (.long y :: .long x :: S) h = rn 63 9 [l0, l1, l2, l3, l4, l5, l6, l7, l8, l9, l10, l11] (.long (x * y) :: S) h) ∧
  (∀ (l0 l1 l2 l3 l4 l5 l6 l7 l8 l9 l10 l11 : Value) (x : Int64) (h : zH), rn 63 9 [l0, l1, l2, l3, l4, l5, l6, l7, l8, l9, l10, l11] [.long x] h = some (some (.long x), h)) ∧
  (∀ (l1 l2 l3 l4 l5 l6 l7 l8 l9 l10 l11 : Value) (x : Nat) (S : List Value) (h : zH), rn 63 10 [.ref x, l1, l2, l3, l4, l5, l6, l7, l8, l9, l10, l11] S h = rn 63 11 [.ref x, l1, l2, l3, l4, l5, l6, l7, l8, l9, l10, l11] (.ref x :: S) h) ∧
  (∀ (l0 l1 l2 l3 l4 l5 l6 l7 l8 l9 l10 l11 : Value) (S : List Value) (h : zH), rn 63 11 [l0, l1, l2, l3, l4, l5, l6, l7, l8, l9, l10, l11] S h = rn 63 12 [l0, l1, l2, l3, l4, l5, l6, l7, l8, l9, l10, l11] (.int (nI 0) :: S) h) ∧
  (∀ (l0 l1 l3 l4 l5 l6 l7 l8 l9 l10 l11 : Value) (x : Int64) (S : List Value) (h : zH), rn 63 12 [l0, l1, .long x, l3, l4, l5, l6, l7, l8, l9, l10, l11] S h = rn 63 13 [l0, l1, .long x, l3, l4, l5, l6, l7, l8, l9, l10, l11] (.long x :: S) h) ∧
  (∀ (l0 l1 l2 l3 l4 l5 l6 l7 l8 l9 l10 l11 : Value) (o : Nat) (v0 : Value) (v1 : Value) (S : List Value) (h : zH), rn 63 13 [l0, l1, l2, l3, l4, l5, l6, l7, l8, l9, l10, l11] (v1 :: v0 :: .ref o :: S) h = if zkd h o = 6 ∧ zsum S ≤ 8 then zcall (ev 64 [.ref o, v0, v1] h) (fun v h => rn 63 16 [l0, l1, l2, l3, l4, l5, l6, l7, l8, l9, l10, l11] (zpush v S) h) else none) ∧
  (∀ (l0 l1 l2 l3 l4 l5 l6 l7 l8 l9 l10 l11 : Value) (x : Int64) (S : List Value) (h : zH), rn 63 16 [l0, l1, l2, l3, l4, l5, l6, l7, l8, l9, l10, l11] (.long x :: S) h = nl l3 (rn 63 18 [l0, l1, l2, l3, .long x, .float 0, l6, l7, l8, l9, l10, l11] S h)) ∧
  (∀ (l0 l2 l3 l4 l5 l6 l7 l8 l9 l10 l11 : Value) (x : Int32) (S : List Value) (h : zH), rn 63 18 [l0, .int x, l2, l3, l4, l5, l6, l7, l8, l9, l10, l11] S h = rn 63 19 [l0, .int x, l2, l3, l4, l5, l6, l7, l8, l9, l10, l11] (.int x :: S) h) ∧
  (∀ (l0 l1 l2 l3 l4 l5 l6 l7 l8 l9 l10 l11 : Value) (S : List Value) (h : zH), rn 63 19 [l0, l1, l2, l3, l4, l5, l6, l7, l8, l9, l10, l11] S h = rn 63 20 [l0, l1, l2, l3, l4, l5, l6, l7, l8, l9, l10, l11] (.int (nI 1) :: S) h) ∧
  (∀ (l0 l1 l2 l3 l4 l5 l6 l7 l8 l9 l10 l11 : Value) (x : Int32) (y : Int32) (S : List Value) (h : zH), rn 63 20 [l0, l1, l2, l3, l4, l5, l6, l7, l8, l9, l10, l11] (.int y :: .int x :: S) h = if x = y then rn 63 23 [l0, l1, l2, l3, l4, l5, l6, l7, l8, l9, l10, l11] S h else rn 63 26 [l0, l1, l2, l3, l4, l5, l6, l7, l8, l9, l10, l11] S h) ∧
  (∀ (l0 l1 l2 l3 l5 l6 l7 l8 l9 l10 l11 : Value) (x : Int64) (S : List Value) (h : zH), rn 63 23 [l0, l1, l2, l3, .long x, l5, l6, l7, l8, l9, l10, l11] S h = rn 63 25 [l0, l1, l2, l3, .long x, l5, l6, l7, l8, l9, l10, l11] (.long x :: S) h) ∧
  (∀ (l0 l1 l2 l3 l4 l5 l6 l7 l8 l9 l10 l11 : Value) (x : Int64) (h : zH), rn 63 25 [l0, l1, l2, l3, l4, l5, l6, l7, l8, l9, l10, l11] [.long x] h = some (some (.long x), h)) ∧
  (∀ (l1 l2 l3 l4 l5 l6 l7 l8 l9 l10 l11 : Value) (x : Nat) (S : List Value) (h : zH), rn 63 26 [.ref x, l1, l2, l3, l4, l5, l6, l7, l8, l9, l10, l11] S h = rn 63 27 [.ref x, l1, l2, l3, l4, l5, l6, l7, l8, l9, l10, l11] (.ref x :: S) h) ∧
  (∀ (l0 l1 l2 l3 l4 l5 l6 l7 l8 l9 l10 l11 : Value) (S : List Value) (h : zH), rn 63 27 [l0, l1, l2, l3, l4, l5, l6, l7, l8, l9, l10, l11] S h = rn 63 28 [l0, l1, l2, l3, l4, l5, l6, l7, l8, l9, l10, l11] (.int (nI 1) :: S) h) ∧
  (∀ (l0 l1 l3 l4 l5 l6 l7 l8 l9 l10 l11 : Value) (x : Int64) (S : List Value) (h : zH), rn 63 28 [l0, l1, .long x, l3, l4, l5, l6, l7, l8, l9, l10, l11] S h = rn 63 29 [l0, l1, .long x, l3, l4, l5, l6, l7, l8, l9, l10, l11] (.long x :: S) h) ∧
  (∀ (l0 l1 l2 l3 l4 l5 l6 l7 l8 l9 l10 l11 : Value) (o : Nat) (v0 : Value) (v1 : Value) (S : List Value) (h : zH), rn 63 29 [l0, l1, l2, l3, l4, l5, l6, l7, l8, l9, l10, l11] (v1 :: v0 :: .ref o :: S) h = if zkd h o = 6 ∧ zsum S ≤ 8 then zcall (ev 64 [.ref o, v0, v1] h) (fun v h => rn 63 32 [l0, l1, l2, l3, l4, l5, l6, l7, l8, l9, l10, l11] (zpush v S) h) else none) ∧
  (∀ (l0 l1 l2 l3 l4 l5 l6 l7 l8 l9 l10 l11 : Value) (x : Int64) (S : List Value) (h : zH), rn 63 32 [l0, l1, l2, l3, l4, l5, l6, l7, l8, l9, l10, l11] (.long x :: S) h = nl l5 (rn 63 34 [l0, l1, l2, l3, l4, l5, .long x, .float 0, l8, l9, l10, l11] S h)) ∧
  (∀ (l0 l2 l3 l4 l5 l6 l7 l8 l9 l10 l11 : Value) (x : Int32) (S : List Value) (h : zH), rn 63 34 [l0, .int x, l2, l3, l4, l5, l6, l7, l8, l9, l10, l11] S h = rn 63 35 [l0, .int x, l2, l3, l4, l5, l6, l7, l8, l9, l10, l11] (.int x :: S) h) ∧
  (∀ (l0 l1 l2 l3 l4 l5 l6 l7 l8 l9 l10 l11 : Value) (S : List Value) (h : zH), rn 63 35 [l0, l1, l2, l3, l4, l5, l6, l7, l8, l9, l10, l11] S h = rn 63 36 [l0, l1, l2, l3, l4, l5, l6, l7, l8, l9, l10, l11] (.int (nI 2) :: S) h) ∧
  (∀ (l0 l1 l2 l3 l4 l5 l6 l7 l8 l9 l10 l11 : Value) (x : Int32) (y : Int32) (S : List Value) (h : zH), rn 63 36 [l0, l1, l2, l3, l4, l5, l6, l7, l8, l9, l10, l11] (.int y :: .int x :: S) h = if x = y then rn 63 39 [l0, l1, l2, l3, l4, l5, l6, l7, l8, l9, l10, l11] S h else rn 63 42 [l0, l1, l2, l3, l4, l5, l6, l7, l8, l9, l10, l11] S h) ∧
  (∀ (l0 l1 l2 l3 l4 l5 l7 l8 l9 l10 l11 : Value) (x : Int64) (S : List Value) (h : zH), rn 63 39 [l0, l1, l2, l3, l4, l5, .long x, l7, l8, l9, l10, l11] S h = rn 63 41 [l0, l1, l2, l3, l4, l5, .long x, l7, l8, l9, l10, l11] (.long x :: S) h) ∧
  (∀ (l0 l1 l2 l3 l4 l5 l6 l7 l8 l9 l10 l11 : Value) (x : Int64) (h : zH), rn 63 41 [l0, l1, l2, l3, l4, l5, l6, l7, l8, l9, l10, l11] [.long x] h = some (some (.long x), h)) ∧
  (∀ (l0 l1 l3 l4 l5 l6 l7 l8 l9 l10 l11 : Value) (x : Int64) (S : List Value) (h : zH), rn 63 42 [l0, l1, .long x, l3, l4, l5, l6, l7, l8, l9, l10, l11] S h = rn 63 43 [l0, l1, .long x, l3, l4, l5, l6, l7, l8, l9, l10, l11] (.long x :: S) h) ∧
  (∀ (l0 l1 l2 l3 l4 l5 l6 l7 l8 l9 l10 l11 : Value) (S : List Value) (h : zH), rn 63 43 [l0, l1, l2, l3, l4, l5, l6, l7, l8, l9, l10, l11] S h = rn 63 46 [l0, l1, l2, l3, l4, l5, l6, l7, l8, l9, l10, l11] (.long (1000000) :: S) h) ∧
  (∀ (l0 l1 l2 l3 l4 l5 l6 l7 l8 l9 l10 l11 : Value) (x : Int64) (y : Int64) (S : List Value) (h : zH), rn 63 46 [l0, l1, l2, l3, l4, l5, l6, l7, l8, l9, l10, l11] (.long y :: .long x :: S) h = rn 63 47 [l0, l1, l2, l3, l4, l5, l6, l7, l8, l9, l10, l11] (.long (x * y) :: S) h) ∧
  (∀ (l0 l1 l2 l3 l5 l6 l7 l8 l9 l10 l11 : Value) (x : Int64) (S : List Value) (h : zH), rn 63 47 [l0, l1, l2, l3, .long x, l5, l6, l7, l8, l9, l10, l11] S h = rn 63 49 [l0, l1, l2, l3, .long x, l5, l6, l7, l8, l9, l10, l11] (.long x :: S) h) ∧
  (∀ (l0 l1 l2 l3 l4 l5 l6 l7 l8 l9 l10 l11 : Value) (x : Int64) (y : Int64) (S : List Value) (h : zH), rn 63 49 [l0, l1, l2, l3, l4, l5, l6, l7, l8, l9, l10, l11] (.long y :: .long x :: S) h = rn 63 50 [l0, l1, l2, l3, l4, l5, l6, l7, l8, l9, l10, l11] (.long (x - y) :: S) h) ∧
  (∀ (l0 l1 l2 l3 l4 l5 l7 l8 l9 l10 l11 : Value) (x : Int64) (S : List Value) (h : zH), rn 63 50 [l0, l1, l2, l3, l4, l5, .long x, l7, l8, l9, l10, l11] S h = rn 63 52 [l0, l1, l2, l3, l4, l5, .long x, l7, l8, l9, l10, l11] (.long x :: S) h) ∧
  (∀ (l0 l1 l2 l3 l4 l5 l6 l7 l8 l9 l10 l11 : Value) (x : Int64) (y : Int64) (S : List Value) (h : zH), rn 63 52 [l0, l1, l2, l3, l4, l5, l6, l7, l8, l9, l10, l11] (.long y :: .long x :: S) h = rn 63 53 [l0, l1, l2, l3, l4, l5, l6, l7, l8, l9, l10, l11] (.long (x - y) :: S) h) ∧
  (∀ (l0 l1 l2 l3 l4 l5 l6 l7 l8 l9 l10 l11 : Value) (x : Int64) (S : List Value) (h : zH), rn 63 53 [l0, l1, l2, l3, l4, l5, l6, l7, l8, l9, l10, l11] (.long x :: S) h = nl l7 (rn 63 55 [l0, l1, l2, l3, l4, l5, l6, l7, .long x, .float 0, l10, l11] S h)) ∧
  (∀ (l1 l2 l3 l4 l5 l6 l7 l8 l9 l10 l11 : Value) (x : Nat) (S : List Value) (h : zH), rn 63 55 [.ref x, l1, l2, l3, l4, l5, l6, l7, l8, l9, l10, l11] S h = rn 63 56 [.ref x, l1, l2, l3, l4, l5, l6, l7, l8, l9, l10, l11] (.ref x :: S) h) ∧
  (∀ (l0 l1 l2 l3 l4 l5 l6 l7 l9 l10 l11 : Value) (x : Int64) (S : List Value) (h : zH), rn 63 56 [l0, l1, l2, l3, l4, l5, l6, l7, .long x, l9, l10, l11] S h = rn 63 58 [l0, l1, l2, l3, l4, l5, l6, l7, .long x, l9, l10, l11] (.long x :: S) h) ∧
  (∀ (l0 l1 l2 l3 l4 l5 l6 l7 l8 l9 l10 l11 : Value) (o : Nat) (v0 : Value) (S : List Value) (h : zH), rn 63 58 [l0, l1, l2, l3, l4, l5, l6, l7, l8, l9, l10, l11] (v0 :: .ref o :: S) h = if zkd h o = 6 ∧ zsum S ≤ 8 then zcall (ev 65 [.ref o, v0] h) (fun v h => rn 63 61 [l0, l1, l2, l3, l4, l5, l6, l7, l8, l9, l10, l11] (zpush v S) h) else none) ∧
  (∀ (l0 l1 l2 l3 l4 l5 l6 l7 l8 l9 l10 l11 : Value) (x : Int64) (S : List Value) (h : zH), rn 63 61 [l0, l1, l2, l3, l4, l5, l6, l7, l8, l9, l10, l11] (.long x :: S) h = nl l9 (rn 63 63 [l0, l1, l2, l3, l4, l5, l6, l7, l8, l9, .long x, .float 0] S h)) ∧
  (∀ (l0 l2 l3 l4 l5 l6 l7 l8 l9 l10 l11 : Value) (x : Int32) (S : List Value) (h : zH), rn 63 63 [l0, .int x, l2, l3, l4, l5, l6, l7, l8, l9, l10, l11] S h = rn 63 64 [l0, .int x, l2, l3, l4, l5, l6, l7, l8, l9, l10, l11] (.int x :: S) h) ∧
  (∀ (l0 l1 l2 l3 l4 l5 l6 l7 l8 l9 l10 l11 : Value) (S : List Value) (h : zH), rn 63 64 [l0, l1, l2, l3, l4, l5, l6, l7, l8, l9, l10, l11] S h = rn 63 65 [l0, l1, l2, l3, l4, l5, l6, l7, l8, l9, l10, l11] (.int (nI 3) :: S) h) ∧
  (∀ (l0 l1 l2 l3 l4 l5 l6 l7 l8 l9 l10 l11 : Value) (x : Int32) (y : Int32) (S : List Value) (h : zH), rn 63 65 [l0, l1, l2, l3, l4, l5, l6, l7, l8, l9, l10, l11] (.int y :: .int x :: S) h = if x = y then rn 63 68 [l0, l1, l2, l3, l4, l5, l6, l7, l8, l9, l10, l11] S h else rn 63 73 [l0, l1, l2, l3, l4, l5, l6, l7, l8, l9, l10, l11] S h) ∧
  (∀ (l0 l1 l2 l3 l4 l5 l6 l7 l8 l9 l11 : Value) (x : Int64) (S : List Value) (h : zH), rn 63 68 [l0, l1, l2, l3, l4, l5, l6, l7, l8, l9, .long x, l11] S h = rn 63 70 [l0, l1, l2, l3, l4, l5, l6, l7, l8, l9, .long x, l11] (.long x :: S) h) ∧
  (∀ (l0 l1 l2 l3 l4 l5 l6 l7 l8 l9 l10 l11 : Value) (S : List Value) (h : zH), rn 63 70 [l0, l1, l2, l3, l4, l5, l6, l7, l8, l9, l10, l11] S h = rn 63 78 [l0, l1, l2, l3, l4, l5, l6, l7, l8, l9, l10, l11] S h) ∧
  (∀ (l0 l1 l2 l3 l4 l5 l6 l7 l9 l10 l11 : Value) (x : Int64) (S : List Value) (h : zH), rn 63 73 [l0, l1, l2, l3, l4, l5, l6, l7, .long x, l9, l10, l11] S h = rn 63 75 [l0, l1, l2, l3, l4, l5, l6, l7, .long x, l9, l10, l11] (.long x :: S) h) ∧
  (∀ (l0 l1 l2 l3 l4 l5 l6 l7 l8 l9 l11 : Value) (x : Int64) (S : List Value) (h : zH), rn 63 75 [l0, l1, l2, l3, l4, l5, l6, l7, l8, l9, .long x, l11] S h = rn 63 77 [l0, l1, l2, l3, l4, l5, l6, l7, l8, l9, .long x, l11] (.long x :: S) h) ∧
  (∀ (l0 l1 l2 l3 l4 l5 l6 l7 l8 l9 l10 l11 : Value) (x : Int64) (y : Int64) (S : List Value) (h : zH), rn 63 77 [l0, l1, l2, l3, l4, l5, l6, l7, l8, l9, l10, l11] (.long y :: .long x :: S) h = rn 63 78 [l0, l1, l2, l3, l4, l5, l6, l7, l8, l9, l10, l11] (.long (x - y) :: S) h) ∧
  (∀ (l0 l1 l2 l3 l4 l5 l6 l7 l8 l9 l10 l11 : Value) (x : Int64) (h : zH), rn 63 78 [l0, l1, l2, l3, l4, l5, l6, l7, l8, l9, l10, l11] [.long x] h = some (some (.long x), h)) := ⟨fun _ _ _ _ _ _ _ _ _ _ _ _ _ _ => r_iload_n (show zdec 63 0 = some (.iload_n 1, 1) by decide +kernel) rfl rfl,
  fun _ _ _ _ _ _ _ _ _ _ _ _ _ _ _ => r_ifne (show zdec 63 1 = some (.ifCond .ne 9, 3) by decide +kernel) rfl rfl,
  fun _ _ _ _ _ _ _ _ _ _ _ _ _ _ => r_lload_n (show zdec 63 4 = some (.lload_n 2, 1) by decide +kernel) rfl rfl,
  fun _ _ _ _ _ _ _ _ _ _ _ _ _ _ => r_ldc2 (show zdec 63 5 = some (.ldc2_w 49, 3) by decide +kernel) (show zlt.lookup (63 * zKEY + 49) = some 1000000 by decide +kernel) rfl,
  fun _ _ _ _ _ _ _ _ _ _ _ _ _ _ _ _ => r_lmul (show zdec 63 8 = some (.lmul, 1) by decide +kernel) rfl,
  fun _ _ _ _ _ _ _ _ _ _ _ _ _ _ => r_lret (show zdec 63 9 = some (.lreturn, 1) by decide +kernel) (by decide +kernel),
  fun _ _ _ _ _ _ _ _ _ _ _ _ _ _ => r_aload_nr (show zdec 63 10 = some (.aload_n 0, 1) by decide +kernel) rfl rfl,
  fun _ _ _ _ _ _ _ _ _ _ _ _ _ _ => r_iconst (show zdec 63 11 = some (.iconst 0, 1) by decide +kernel) rfl rfl,
  fun _ _ _ _ _ _ _ _ _ _ _ _ _ _ => r_lload_n (show zdec 63 12 = some (.lload_n 2, 1) by decide +kernel) rfl rfl,
  fun _ _ _ _ _ _ _ _ _ _ _ _ _ _ _ _ _ => r_cV [_, _] rfl (show zdec 63 13 = some (.invokevirtual 51, 3) by decide +kernel) (show zst.lookup (63 * zKEY + 51) = some (1, 64, 2, 6) by decide +kernel) (by decide) rfl,
  fun _ _ _ _ _ _ _ _ _ _ _ _ _ _ _ => r_lstore (show zdec 63 16 = some (.lstore 4, 2) by decide +kernel) rfl (Nat.le_of_ble_eq_true rfl) rfl rfl,
  fun _ _ _ _ _ _ _ _ _ _ _ _ _ _ => r_iload_n (show zdec 63 18 = some (.iload_n 1, 1) by decide +kernel) rfl rfl,
  fun _ _ _ _ _ _ _ _ _ _ _ _ _ _ => r_iconst (show zdec 63 19 = some (.iconst 1, 1) by decide +kernel) rfl rfl,
  fun _ _ _ _ _ _ _ _ _ _ _ _ _ _ _ _ => r_icmpne (show zdec 63 20 = some (.if_icmp .ne 6, 3) by decide +kernel) rfl rfl,
  fun _ _ _ _ _ _ _ _ _ _ _ _ _ _ => r_lload (show zdec 63 23 = some (.lload 4, 2) by decide +kernel) rfl rfl,
  fun _ _ _ _ _ _ _ _ _ _ _ _ _ _ => r_lret (show zdec 63 25 = some (.lreturn, 1) by decide +kernel) (by decide +kernel),
  fun _ _ _ _ _ _ _ _ _ _ _ _ _ _ => r_aload_nr (show zdec 63 26 = some (.aload_n 0, 1) by decide +kernel) rfl rfl,
  fun _ _ _ _ _ _ _ _ _ _ _ _ _ _ => r_iconst (show zdec 63 27 = some (.iconst 1, 1) by decide +kernel) rfl rfl,
  fun _ _ _ _ _ _ _ _ _ _ _ _ _ _ => r_lload_n (show zdec 63 28 = some (.lload_n 2, 1) by decide +kernel) rfl rfl,
  fun _ _ _ _ _ _ _ _ _ _ _ _ _ _ _ _ _ => r_cV [_, _] rfl (show zdec 63 29 = some (.invokevirtual 51, 3) by decide +kernel) (show zst.lookup (63 * zKEY + 51) = some (1, 64, 2, 6) by decide +kernel) (by decide) rfl,
  fun _ _ _ _ _ _ _ _ _ _ _ _ _ _ _ => r_lstore (show zdec 63 32 = some (.lstore 6, 2) by decide +kernel) rfl (Nat.le_of_ble_eq_true rfl) rfl rfl,
  fun _ _ _ _ _ _ _ _ _ _ _ _ _ _ => r_iload_n (show zdec 63 34 = some (.iload_n 1, 1) by decide +kernel) rfl rfl,
  fun _ _ _ _ _ _ _ _ _ _ _ _ _ _ => r_iconst (show zdec 63 35 = some (.iconst 2, 1) by decide +kernel) rfl rfl,
  fun _ _ _ _ _ _ _ _ _ _ _ _ _ _ _ _ => r_icmpne (show zdec 63 36 = some (.if_icmp .ne 6, 3) by decide +kernel) rfl rfl,
  fun _ _ _ _ _ _ _ _ _ _ _ _ _ _ => r_lload (show zdec 63 39 = some (.lload 6, 2) by decide +kernel) rfl rfl,
  fun _ _ _ _ _ _ _ _ _ _ _ _ _ _ => r_lret (show zdec 63 41 = some (.lreturn, 1) by decide +kernel) (by decide +kernel),
  fun _ _ _ _ _ _ _ _ _ _ _ _ _ _ => r_lload_n (show zdec 63 42 = some (.lload_n 2, 1) by decide +kernel) rfl rfl,
  fun _ _ _ _ _ _ _ _ _ _ _ _ _ _ => r_ldc2 (show zdec 63 43 = some (.ldc2_w 49, 3) by decide +kernel) (show zlt.lookup (63 * zKEY + 49) = some 1000000 by decide +kernel) rfl,
  fun _ _ _ _ _ _ _ _ _ _ _ _ _ _ _ _ => r_lmul (show zdec 63 46 = some (.lmul, 1) by decide +kernel) rfl,
  fun _ _ _ _ _ _ _ _ _ _ _ _ _ _ => r_lload (show zdec 63 47 = some (.lload 4, 2) by decide +kernel) rfl rfl,
  fun _ _ _ _ _ _ _ _ _ _ _ _ _ _ _ _ => r_lsub (show zdec 63 49 = some (.lsub, 1) by decide +kernel) rfl,
  fun _ _ _ _ _ _ _ _ _ _ _ _ _ _ => r_lload (show zdec 63 50 = some (.lload 6, 2) by decide +kernel) rfl rfl,
  fun _ _ _ _ _ _ _ _ _ _ _ _ _ _ _ _ => r_lsub (show zdec 63 52 = some (.lsub, 1) by decide +kernel) rfl,
  fun _ _ _ _ _ _ _ _ _ _ _ _ _ _ _ => r_lstore (show zdec 63 53 = some (.lstore 8, 2) by decide +kernel) rfl (Nat.le_of_ble_eq_true rfl) rfl rfl,
  fun _ _ _ _ _ _ _ _ _ _ _ _ _ _ => r_aload_nr (show zdec 63 55 = some (.aload_n 0, 1) by decide +kernel) rfl rfl,
  fun _ _ _ _ _ _ _ _ _ _ _ _ _ _ => r_lload (show zdec 63 56 = some (.lload 8, 2) by decide +kernel) rfl rfl,
  fun _ _ _ _ _ _ _ _ _ _ _ _ _ _ _ _ => r_cV [_] rfl (show zdec 63 58 = some (.invokevirtual 54, 3) by decide +kernel) (show zst.lookup (63 * zKEY + 54) = some (1, 65, 1, 6) by decide +kernel) (by decide) rfl,
  fun _ _ _ _ _ _ _ _ _ _ _ _ _ _ _ => r_lstore (show zdec 63 61 = some (.lstore 10, 2) by decide +kernel) rfl (Nat.le_of_ble_eq_true rfl) rfl rfl,
  fun _ _ _ _ _ _ _ _ _ _ _ _ _ _ => r_iload_n (show zdec 63 63 = some (.iload_n 1, 1) by decide +kernel) rfl rfl,
  fun _ _ _ _ _ _ _ _ _ _ _ _ _ _ => r_iconst (show zdec 63 64 = some (.iconst 3, 1) by decide +kernel) rfl rfl,
  fun _ _ _ _ _ _ _ _ _ _ _ _ _ _ _ _ => r_icmpne (show zdec 63 65 = some (.if_icmp .ne 8, 3) by decide +kernel) rfl rfl,
  fun _ _ _ _ _ _ _ _ _ _ _ _ _ _ => r_lload (show zdec 63 68 = some (.lload 10, 2) by decide +kernel) rfl rfl,
  fun _ _ _ _ _ _ _ _ _ _ _ _ _ _ => r_goto (show zdec 63 70 = some (.goto 8, 3) by decide +kernel) rfl,
  fun _ _ _ _ _ _ _ _ _ _ _ _ _ _ => r_lload (show zdec 63 73 = some (.lload 8, 2) by decide +kernel) rfl rfl,
  fun _ _ _ _ _ _ _ _ _ _ _ _ _ _ => r_lload (show zdec 63 75 = some (.lload 10, 2) by decide +kernel) rfl rfl,
  fun _ _ _ _ _ _ _ _ _ _ _ _ _ _ _ _ => r_lsub (show zdec 63 77 = some (.lsub, 1) by decide +kernel) rfl,
  fun _ _ _ _ _ _ _ _ _ _ _ _ _ _ => r_lret (show zdec 63 78 = some (.lreturn, 1) by decide +kernel) (by decide +kernel)⟩
theorem ze_63 : ∀ (a0 : Nat) (a1 : Int32) (a2 : Int64) (h : zH), ev 63 [.ref a0, .int a1, .long a2] h = rn 63 0 [.ref a0, .int a1, .long a2, .float 0, .float 0, .float 0, .float 0, .float 0, .float 0, .float 0, .float 0, .float 0] [] h := fun _ _ _ _ => if_pos (Nat.le_of_ble_eq_true rfl)
-- PayrollRun/Rules.contributionOn(IJ)J
theorem zr_64 : (∀ (l1 l2 l3 l4 l5 : Value) (x : Nat) (S : List Value) (h : zH), rn 64 0 [.ref x, l1, l2, l3, l4, l5] S h = rn 64 1 [.ref x, l1, l2, l3, l4, l5] (.ref x :: S) h) ∧
  (∀ (l0 l1 l2 l3 l4 l5 : Value) (a : Nat) (S : List Value) (h : zH), rn 64 1 [l0, l1, l2, l3, l4, l5] (.ref a :: S) h = zgf h a 6 1 fun v => rn 64 4 [l0, l1, l2, l3, l4, l5] (v :: S) h) ∧
  (∀ (l0 l2 l3 l4 l5 : Value) (x : Int32) (S : List Value) (h : zH), rn 64 4 [l0, .int x, l2, l3, l4, l5] S h = rn 64 5 [l0, .int x, l2, l3, l4, l5] (.int x :: S) h) ∧
  (∀ (l0 l1 l2 l3 l4 l5 : Value) (a : Nat) (j : Int32) (S : List Value) (h : zH), rn 64 5 [l0, l1, l2, l3, l4, l5] (.int j :: .ref a :: S) h = zli h a 0 j fun x => rn 64 6 [l0, l1, l2, l3, l4, l5] (.int x :: S) h) ∧
  (∀ (l0 l1 l2 l3 l4 l5 : Value) (x : Int32) (S : List Value) (h : zH), rn 64 6 [l0, l1, l2, l3, l4, l5] (.int x :: S) h = rn 64 7 [l0, l1, l2, l3, l4, l5] (.long x.toInt64 :: S) h) ∧
  (∀ (l0 l1 l2 l3 l4 l5 : Value) (x : Int64) (S : List Value) (h : zH), rn 64 7 [l0, l1, l2, l3, l4, l5] (.long x :: S) h = nl l3 (rn 64 9 [l0, l1, l2, l3, .long x, .float 0] S h)) ∧
  (∀ (l1 l2 l3 l4 l5 : Value) (x : Nat) (S : List Value) (h : zH), rn 64 9 [.ref x, l1, l2, l3, l4, l5] S h = rn 64 10 [.ref x, l1, l2, l3, l4, l5] (.ref x :: S) h) ∧
  (∀ (l0 l1 l2 l3 l4 l5 : Value) (a : Nat) (S : List Value) (h : zH), rn 64 10 [l0, l1, l2, l3, l4, l5] (.ref a :: S) h = zgf h a 6 0 fun v => rn 64 13 [l0, l1, l2, l3, l4, l5] (v :: S) h) ∧
  (∀ (l0 l2 l3 l4 l5 : Value) (x : Int32) (S : List Value) (h : zH), rn 64 13 [l0, .int x, l2, l3, l4, l5] S h = rn 64 14 [l0, .int x, l2, l3, l4, l5] (.int x :: S) h) ∧
  (∀ (l0 l1 l2 l3 l4 l5 : Value) (a : Nat) (j : Int32) (S : List Value) (h : zH), rn 64 14 [l0, l1, l2, l3, l4, l5] (.int j :: .ref a :: S) h = zli h a 0 j fun x => rn 64 15 [l0, l1, l2, l3, l4, l5] (.int x :: S) h) ∧
  (∀ (l0 l1 l2 l3 l4 l5 : Value) (x : Int32) (S : List Value) (h : zH), rn 64 15 [l0, l1, l2, l3, l4, l5] (.int x :: S) h = rn 64 16 [l0, l1, l2, l3, l4, l5] (.long x.toInt64 :: S) h) ∧
  (∀ (l0 l1 l3 l4 l5 : Value) (x : Int64) (S : List Value) (h : zH), rn 64 16 [l0, l1, .long x, l3, l4, l5] S h = rn 64 17 [l0, l1, .long x, l3, l4, l5] (.long x :: S) h) ∧
  (∀ (l0 l1 l2 l3 l5 : Value) (x : Int64) (S : List Value) (h : zH), rn 64 17 [l0, l1, l2, l3, .long x, l5] S h = rn 64 19 [l0, l1, l2, l3, .long x, l5] (.long x :: S) h) ∧
  (∀ (l0 l1 l2 l3 l4 l5 : Value) (x : Int64) (y : Int64) (S : List Value) (h : zH), rn 64 19 [l0, l1, l2, l3, l4, l5] (.long y :: .long x :: S) h = rn 64 20 [l0, l1, l2, l3, l4, l5] (.int (lg_cmp x y) :: S) h) ∧
  (∀ (l0 l1 l2 l3 l4 l5 : Value) (x : Int32) (S : List Value) (h : zH), rn 64 20 [l0, l1, l2, l3, l4, l5] (.int x :: S) h = if nI 0 ≤ x then rn 64 27 [l0, l1, l2, l3, l4, l5] S h else rn 64 23 [l0, l1, l2, l3, l4, l5] S h) ∧
  (∀ (l0 l1 l3 l4 l5 : Value) (x : Int64) (S : List Value) (h : zH), rn 64 23 [l0, l1, .long x, l3, l4, l5] S h = rn 64 24 [l0, l1, .long x, l3, l4, l5] (.long x :: S) h) ∧
  (∀ (l0 l1 l2 l3 l4 l5 : Value) (S : List Value) (h : zH), rn 64 24 [l0, l1, l2, l3, l4, l5] S h = rn 64 29 [l0, l1, l2, l3, l4, l5] S h) ∧
  (∀ (l0 l1 l2 l3 l5 : Value) (x : Int64) (S : List Value) (h : zH), rn 64 27 [l0, l1, l2, l3, .long x, l5] S h = rn 64 29 [l0, l1, l2, l3, .long x, l5] (.long x :: S) h) ∧
  (∀ (l0 l1 l2 l3 l4 l5 : Value) (x : Int64) (y : Int64) (S : List Value) (h : zH), rn 64 29 [l0, l1, l2, l3, l4, l5] (.long y :: .long x :: S) h = rn 64 30 [l0, l1, l2, l3, l4, l5] (.long (x * y) :: S) h) ∧
  (∀ (l0 l1 l2 l3 l4 l5 : Value) (S : List Value) (h : zH), rn 64 30 [l0, l1, l2, l3, l4, l5] S h = rn 64 33 [l0, l1, l2, l3, l4, l5] (.long (1000) :: S) h) ∧
  (∀ (l0 l1 l2 l3 l4 l5 : Value) (x : Int64) (y : Int64) (S : List Value) (h : zH), rn 64 33 [l0, l1, l2, l3, l4, l5] (.long y :: .long x :: S) h = rn 64 34 [l0, l1, l2, l3, l4, l5] (.long (x * y) :: S) h) ∧
  (∀ (l0 l1 l2 l3 l4 l5 : Value) (x : Int64) (h : zH), rn 64 34 [l0, l1, l2, l3, l4, l5] [.long x] h = some (some (.long x), h)) := ⟨fun _ _ _ _ _ _ _ _ => r_aload_nr (show zdec 64 0 = some (.aload_n 0, 1) by decide +kernel) rfl rfl,
  fun _ _ _ _ _ _ _ _ _ => r_getfield (show zdec 64 1 = some (.getfield 16, 3) by decide +kernel) (show zft.lookup (64 * zKEY + 16) = some (6, 1) by decide +kernel) rfl,
  fun _ _ _ _ _ _ _ _ => r_iload_n (show zdec 64 4 = some (.iload_n 1, 1) by decide +kernel) rfl rfl,
  fun _ _ _ _ _ _ _ _ _ _ => r_iald (show zdec 64 5 = some (.iaload, 1) by decide +kernel) rfl,
  fun _ _ _ _ _ _ _ _ _ => r_i2l (show zdec 64 6 = some (.i2l, 1) by decide +kernel) rfl,
  fun _ _ _ _ _ _ _ _ _ => r_lstore (show zdec 64 7 = some (.lstore 4, 2) by decide +kernel) rfl (Nat.le_of_ble_eq_true rfl) rfl rfl,
  fun _ _ _ _ _ _ _ _ => r_aload_nr (show zdec 64 9 = some (.aload_n 0, 1) by decide +kernel) rfl rfl,
  fun _ _ _ _ _ _ _ _ _ => r_getfield (show zdec 64 10 = some (.getfield 9, 3) by decide +kernel) (show zft.lookup (64 * zKEY + 9) = some (6, 0) by decide +kernel) rfl,
  fun _ _ _ _ _ _ _ _ => r_iload_n (show zdec 64 13 = some (.iload_n 1, 1) by decide +kernel) rfl rfl,
  fun _ _ _ _ _ _ _ _ _ _ => r_iald (show zdec 64 14 = some (.iaload, 1) by decide +kernel) rfl,
  fun _ _ _ _ _ _ _ _ _ => r_i2l (show zdec 64 15 = some (.i2l, 1) by decide +kernel) rfl,
  fun _ _ _ _ _ _ _ _ => r_lload_n (show zdec 64 16 = some (.lload_n 2, 1) by decide +kernel) rfl rfl,
  fun _ _ _ _ _ _ _ _ => r_lload (show zdec 64 17 = some (.lload 4, 2) by decide +kernel) rfl rfl,
  fun _ _ _ _ _ _ _ _ _ _ => r_lcmp (show zdec 64 19 = some (.lcmp, 1) by decide +kernel) rfl,
  fun _ _ _ _ _ _ _ _ _ => r_ifge (show zdec 64 20 = some (.ifCond .ge 7, 3) by decide +kernel) rfl rfl,
  fun _ _ _ _ _ _ _ _ => r_lload_n (show zdec 64 23 = some (.lload_n 2, 1) by decide +kernel) rfl rfl,
  fun _ _ _ _ _ _ _ _ => r_goto (show zdec 64 24 = some (.goto 5, 3) by decide +kernel) rfl,
  fun _ _ _ _ _ _ _ _ => r_lload (show zdec 64 27 = some (.lload 4, 2) by decide +kernel) rfl rfl,
  fun _ _ _ _ _ _ _ _ _ _ => r_lmul (show zdec 64 29 = some (.lmul, 1) by decide +kernel) rfl,
  fun _ _ _ _ _ _ _ _ => r_ldc2 (show zdec 64 30 = some (.ldc2_w 58, 3) by decide +kernel) (show zlt.lookup (64 * zKEY + 58) = some 1000 by decide +kernel) rfl,
  fun _ _ _ _ _ _ _ _ _ _ => r_lmul (show zdec 64 33 = some (.lmul, 1) by decide +kernel) rfl,
  fun _ _ _ _ _ _ _ _ => r_lret (show zdec 64 34 = some (.lreturn, 1) by decide +kernel) (by decide +kernel)⟩
theorem ze_64 : ∀ (a0 : Nat) (a1 : Int32) (a2 : Int64) (h : zH), ev 64 [.ref a0, .int a1, .long a2] h = rn 64 0 [.ref a0, .int a1, .long a2, .float 0, .float 0, .float 0] [] h := fun _ _ _ _ => if_pos (Nat.le_of_ble_eq_true rfl)
-- PayrollRun/Rules.taxOn(J)J
theorem zr_65 : (∀ (l0 l1 l2 l3 l4 l5 l6 l7 l8 l9 : Value) (S : List Value) (h : zH), rn 65 0 [l0, l1, l2, l3, l4, l5, l6, l7, l8, l9] S h = rn 65 1 [l0, l1, l2, l3, l4, l5, l6, l7, l8, l9] (.long 0 :: S) h) ∧
  (∀ (l0 l1 l2 l3 l4 l5 l6 l7 l8 l9 : Value) (x : Int64) (S : List Value) (h : zH), rn 65 1 [l0, l1, l2, l3, l4, l5, l6, l7, l8, l9] (.long x :: S) h = nl l2 (rn 65 2 [l0, l1, l2, .long x, .float 0, l5, l6, l7, l8, l9] S h)) ∧
  (∀ (l0 l1 l2 l3 l4 l5 l6 l7 l8 l9 : Value) (S : List Value) (h : zH), rn 65 2 [l0, l1, l2, l3, l4, l5, l6, l7, l8, l9] S h = rn 65 3 [l0, l1, l2, l3, l4, l5, l6, l7, l8, l9] (.int (nI 0) :: S) h) ∧
  (∀ (l0 l1 l2 l3 l4 l5 l6 l7 l8 l9 : Value) (x : Int32) (S : List Value) (h : zH), rn 65 3 [l0, l1, l2, l3, l4, l5, l6, l7, l8, l9] (.int x :: S) h = nl l4 (rn 65 5 [l0, l1, l2, l3, l4, .int x, l6, l7, l8, l9] S h)) ∧
  (∀ (l1 l2 l3 l4 l5 l6 l7 l8 l9 : Value) (x : Nat) (S : List Value) (h : zH), rn 65 7 [.ref x, l1, l2, l3, l4, l5, l6, l7, l8, l9] S h = rn 65 8 [.ref x, l1, l2, l3, l4, l5, l6, l7, l8, l9] (.ref x :: S) h) ∧
  (∀ (l0 l1 l2 l3 l4 l5 l6 l7 l8 l9 : Value) (a : Nat) (S : List Value) (h : zH), rn 65 8 [l0, l1, l2, l3, l4, l5, l6, l7, l8, l9] (.ref a :: S) h = zgf h a 6 4 fun v => rn 65 11 [l0, l1, l2, l3, l4, l5, l6, l7, l8, l9] (v :: S) h) ∧
  (∀ (l0 l1 l2 l3 l4 l5 l6 l7 l8 l9 : Value) (x : Int32) (y : Int32) (S : List Value) (h : zH), rn 65 11 [l0, l1, l2, l3, l4, l5, l6, l7, l8, l9] (.int y :: .int x :: S) h = if y ≤ x then rn 65 126 [l0, l1, l2, l3, l4, l5, l6, l7, l8, l9] S h else rn 65 14 [l0, l1, l2, l3, l4, l5, l6, l7, l8, l9] S h) ∧
  (∀ (l0 l1 l2 l3 l4 l6 l7 l8 l9 : Value) (x : Int32) (S : List Value) (h : zH), rn 65 14 [l0, l1, l2, l3, l4, .int x, l6, l7, l8, l9] S h = rn 65 16 [l0, l1, l2, l3, l4, .int x, l6, l7, l8, l9] (.int x :: S) h) ∧
  (∀ (l0 l1 l2 l3 l4 l5 l6 l7 l8 l9 : Value) (S : List Value) (h : zH), rn 65 16 [l0, l1, l2, l3, l4, l5, l6, l7, l8, l9] S h = rn 65 17 [l0, l1, l2, l3, l4, l5, l6, l7, l8, l9] (.int (nI 5) :: S) h) ∧
  (∀ (l0 l1 l2 l3 l4 l5 l6 l7 l8 l9 : Value) (x : Int32) (y : Int32) (S : List Value) (h : zH), rn 65 17 [l0, l1, l2, l3, l4, l5, l6, l7, l8, l9] (.int y :: .int x :: S) h = if y ≤ x then rn 65 126 [l0, l1, l2, l3, l4, l5, l6, l7, l8, l9] S h else rn 65 20 [l0, l1, l2, l3, l4, l5, l6, l7, l8, l9] S h) ∧
  (∀ (l1 l2 l3 l4 l5 l6 l7 l8 l9 : Value) (x : Nat) (S : List Value) (h : zH), rn 65 20 [.ref x, l1, l2, l3, l4, l5, l6, l7, l8, l9] S h = rn 65 21 [.ref x, l1, l2, l3, l4, l5, l6, l7, l8, l9] (.ref x :: S) h) ∧
  (∀ (l0 l1 l2 l3 l4 l5 l6 l7 l8 l9 : Value) (a : Nat) (S : List Value) (h : zH), rn 65 21 [l0, l1, l2, l3, l4, l5, l6, l7, l8, l9] (.ref a :: S) h = zgf h a 6 2 fun v => rn 65 24 [l0, l1, l2, l3, l4, l5, l6, l7, l8, l9] (v :: S) h) ∧
  (∀ (l0 l1 l2 l3 l4 l6 l7 l8 l9 : Value) (x : Int32) (S : List Value) (h : zH), rn 65 24 [l0, l1, l2, l3, l4, .int x, l6, l7, l8, l9] S h = rn 65 26 [l0, l1, l2, l3, l4, .int x, l6, l7, l8, l9] (.int x :: S) h) ∧
  (∀ (l0 l1 l2 l3 l4 l5 l6 l7 l8 l9 : Value) (a : Nat) (j : Int32) (S : List Value) (h : zH), rn 65 26 [l0, l1, l2, l3, l4, l5, l6, l7, l8, l9] (.int j :: .ref a :: S) h = zli h a 0 j fun x => rn 65 27 [l0, l1, l2, l3, l4, l5, l6, l7, l8, l9] (.int x :: S) h) ∧
  (∀ (l0 l1 l2 l3 l4 l5 l6 l7 l8 l9 : Value) (x : Int32) (S : List Value) (h : zH), rn 65 27 [l0, l1, l2, l3, l4, l5, l6, l7, l8, l9] (.int x :: S) h = rn 65 28 [l0, l1, l2, l3, l4, l5, l6, l7, l8, l9] (.long x.toInt64 :: S) h) ∧
  (∀ (l0 l1 l2 l3 l4 l5 l6 l7 l8 l9 : Value) (S : List Value) (h : zH), rn 65 28 [l0, l1, l2, l3, l4, l5, l6, l7, l8, l9] S h = rn 65 31 [l0, l1, l2, l3, l4, l5, l6, l7, l8, l9] (.long (1000000) :: S) h) ∧
  (∀ (l0 l1 l2 l3 l4 l5 l6 l7 l8 l9 : Value) (x : Int64) (y : Int64) (S : List Value) (h : zH), rn 65 31 [l0, l1, l2, l3, l4, l5, l6, l7, l8, l9] (.long y :: .long x :: S) h = rn 65 32 [l0, l1, l2, l3, l4, l5, l6, l7, l8, l9] (.long (x * y) :: S) h) ∧
  (∀ (l0 l1 l2 l3 l4 l5 l6 l7 l8 l9 : Value) (x : Int64) (S : List Value) (h : zH), rn 65 32 [l0, l1, l2, l3, l4, l5, l6, l7, l8, l9] (.long x :: S) h = nl l5 (rn 65 34 [l0, l1, l2, l3, l4, l5, .long x, .float 0, l8, l9] S h)) ∧
  (∀ (l0 l2 l3 l4 l5 l6 l7 l8 l9 : Value) (x : Int64) (S : List Value) (h : zH), rn 65 34 [l0, .long x, l2, l3, l4, l5, l6, l7, l8, l9] S h = rn 65 35 [l0, .long x, l2, l3, l4, l5, l6, l7, l8, l9] (.long x :: S) h) ∧
  (∀ (l0 l1 l2 l3 l4 l5 l6 l7 l8 l9 : Value) (x : Int64) (S : List Value) (h : zH), rn 65 35 [l0, l1, l2, l3, l4, l5, l6, l7, l8, l9] (.long x :: S) h = nl l7 (rn 65 37 [l0, l1, l2, l3, l4, l5, l6, l7, .long x, .float 0] S h)) ∧
  (∀ (l0 l1 l2 l3 l4 l6 l7 l8 l9 : Value) (x : Int32) (S : List Value) (h : zH), rn 65 37 [l0, l1, l2, l3, l4, .int x, l6, l7, l8, l9] S h = rn 65 39 [l0, l1, l2, l3, l4, .int x, l6, l7, l8, l9] (.int x :: S) h) ∧
  (∀ (l0 l1 l2 l3 l4 l5 l6 l7 l8 l9 : Value) (S : List Value) (h : zH), rn 65 39 [l0, l1, l2, l3, l4, l5, l6, l7, l8, l9] S h = rn 65 40 [l0, l1, l2, l3, l4, l5, l6, l7, l8, l9] (.int (nI 1) :: S) h) ∧
  (∀ (l0 l1 l2 l3 l4 l5 l6 l7 l8 l9 : Value) (x : Int32) (y : Int32) (S : List Value) (h : zH), rn 65 40 [l0, l1, l2, l3, l4, l5, l6, l7, l8, l9] (.int y :: .int x :: S) h = rn 65 41 [l0, l1, l2, l3, l4, l5, l6, l7, l8, l9] (.int (x + y) :: S) h) ∧
  (∀ (l1 l2 l3 l4 l5 l6 l7 l8 l9 : Value) (x : Nat) (S : List Value) (h : zH), rn 65 41 [.ref x, l1, l2, l3, l4, l5, l6, l7, l8, l9] S h = rn 65 42 [.ref x, l1, l2, l3, l4, l5, l6, l7, l8, l9] (.ref x :: S) h) ∧
  (∀ (l0 l1 l2 l3 l4 l5 l6 l7 l8 l9 : Value) (a : Nat) (S : List Value) (h : zH), rn 65 42 [l0, l1, l2, l3, l4, l5, l6, l7, l8, l9] (.ref a :: S) h = zgf h a 6 4 fun v => rn 65 45 [l0, l1, l2, l3, l4, l5, l6, l7, l8, l9] (v :: S) h) ∧
  (∀ (l0 l1 l2 l3 l4 l5 l6 l7 l8 l9 : Value) (x : Int32) (y : Int32) (S : List Value) (h : zH), rn 65 45 [l0, l1, l2, l3, l4, l5, l6, l7, l8, l9] (.int y :: .int x :: S) h = if y ≤ x then rn 65 91 [l0, l1, l2, l3, l4, l5, l6, l7, l8, l9] S h else rn 65 48 [l0, l1, l2, l3, l4, l5, l6, l7, l8, l9] S h) ∧
  (∀ (l0 l1 l2 l3 l4 l6 l7 l8 l9 : Value) (x : Int32) (S : List Value) (h : zH), rn 65 48 [l0, l1, l2, l3, l4, .int x, l6, l7, l8, l9] S h = rn 65 50 [l0, l1, l2, l3, l4, .int x, l6, l7, l8, l9] (.int x :: S) h) ∧
  (∀ (l0 l1 l2 l3 l4 l5 l6 l7 l8 l9 : Value) (S : List Value) (h : zH), rn 65 50 [l0, l1, l2, l3, l4, l5, l6, l7, l8, l9] S h = rn 65 51 [l0, l1, l2, l3, l4, l5, l6, l7, l8, l9] (.int (nI 1) :: S) h) ∧
  (∀ (l0 l1 l2 l3 l4 l5 l6 l7 l8 l9 : Value) (x : Int32) (y : Int32) (S : List Value) (h : zH), rn 65 51 [l0, l1, l2, l3, l4, l5, l6, l7, l8, l9] (.int y :: .int x :: S) h = rn 65 52 [l0, l1, l2, l3, l4, l5, l6, l7, l8, l9] (.int (x + y) :: S) h) ∧
  (∀ (l0 l1 l2 l3 l4 l5 l6 l7 l8 l9 : Value) (S : List Value) (h : zH), rn 65 52 [l0, l1, l2, l3, l4, l5, l6, l7, l8, l9] S h = rn 65 53 [l0, l1, l2, l3, l4, l5, l6, l7, l8, l9] (.int (nI 5) :: S) h) ∧
  (∀ (l0 l1 l2 l3 l4 l5 l6 l7 l8 l9 : Value) (x : Int32) (y : Int32) (S : List Value) (h : zH), rn 65 53 [l0, l1, l2, l3, l4, l5, l6, l7, l8, l9] (.int y :: .int x :: S) h = if y ≤ x then rn 65 91 [l0, l1, l2, l3, l4, l5, l6, l7, l8, l9] S h else rn 65 56 [l0, l1, l2, l3, l4, l5, l6, l7, l8, l9] S h) ∧
  (∀ (l1 l2 l3 l4 l5 l6 l7 l8 l9 : Value) (x : Nat) (S : List Value) (h : zH), rn 65 56 [.ref x, l1, l2, l3, l4, l5, l6, l7, l8, l9] S h = rn 65 57 [.ref x, l1, l2, l3, l4, l5, l6, l7, l8, l9] (.ref x :: S) h) ∧
  (∀ (l0 l1 l2 l3 l4 l5 l6 l7 l8 l9 : Value) (a : Nat) (S : List Value) (h : zH), rn 65 57 [l0, l1, l2, l3, l4, l5, l6, l7, l8, l9] (.ref a :: S) h = zgf h a 6 2 fun v => rn 65 60 [l0, l1, l2, l3, l4, l5, l6, l7, l8, l9] (v :: S) h) ∧
  (∀ (l0 l1 l2 l3 l4 l6 l7 l8 l9 : Value) (x : Int32) (S : List Value) (h : zH), rn 65 60 [l0, l1, l2, l3, l4, .int x, l6, l7, l8, l9] S h = rn 65 62 [l0, l1, l2, l3, l4, .int x, l6, l7, l8, l9] (.int x :: S) h) ∧
  (∀ (l0 l1 l2 l3 l4 l5 l6 l7 l8 l9 : Value) (S : List Value) (h : zH), rn 65 62 [l0, l1, l2, l3, l4, l5, l6, l7, l8, l9] S h = rn 65 63 [l0, l1, l2, l3, l4, l5, l6, l7, l8, l9] (.int (nI 1) :: S) h) ∧
  (∀ (l0 l1 l2 l3 l4 l5 l6 l7 l8 l9 : Value) (x : Int32) (y : Int32) (S : List Value) (h : zH), rn 65 63 [l0, l1, l2, l3, l4, l5, l6, l7, l8, l9] (.int y :: .int x :: S) h = rn 65 64 [l0, l1, l2, l3, l4, l5, l6, l7, l8, l9] (.int (x + y) :: S) h) ∧
  (∀ (l0 l1 l2 l3 l4 l5 l6 l7 l8 l9 : Value) (a : Nat) (j : Int32) (S : List Value) (h : zH), rn 65 64 [l0, l1, l2, l3, l4, l5, l6, l7, l8, l9] (.int j :: .ref a :: S) h = zli h a 0 j fun x => rn 65 65 [l0, l1, l2, l3, l4, l5, l6, l7, l8, l9] (.int x :: S) h) ∧
  (∀ (l0 l1 l2 l3 l4 l5 l6 l7 l8 l9 : Value) (x : Int32) (S : List Value) (h : zH), rn 65 65 [l0, l1, l2, l3, l4, l5, l6, l7, l8, l9] (.int x :: S) h = rn 65 66 [l0, l1, l2, l3, l4, l5, l6, l7, l8, l9] (.long x.toInt64 :: S) h) ∧
  (∀ (l0 l1 l2 l3 l4 l5 l6 l7 l8 l9 : Value) (S : List Value) (h : zH), rn 65 66 [l0, l1, l2, l3, l4, l5, l6, l7, l8, l9] S h = rn 65 69 [l0, l1, l2, l3, l4, l5, l6, l7, l8, l9] (.long (1000000) :: S) h) ∧
  (∀ (l0 l1 l2 l3 l4 l5 l6 l7 l8 l9 : Value) (x : Int64) (y : Int64) (S : List Value) (h : zH), rn 65 69 [l0, l1, l2, l3, l4, l5, l6, l7, l8, l9] (.long y :: .long x :: S) h = rn 65 70 [l0, l1, l2, l3, l4, l5, l6, l7, l8, l9] (.long (x * y) :: S) h) ∧
  (∀ (l0 l2 l3 l4 l5 l6 l7 l8 l9 : Value) (x : Int64) (S : List Value) (h : zH), rn 65 70 [l0, .long x, l2, l3, l4, l5, l6, l7, l8, l9] S h = rn 65 71 [l0, .long x, l2, l3, l4, l5, l6, l7, l8, l9] (.long x :: S) h) ∧
  (∀ (l0 l1 l2 l3 l4 l5 l6 l7 l8 l9 : Value) (x : Int64) (y : Int64) (S : List Value) (h : zH), rn 65 71 [l0, l1, l2, l3, l4, l5, l6, l7, l8, l9] (.long y :: .long x :: S) h = rn 65 72 [l0, l1, l2, l3, l4, l5, l6, l7, l8, l9] (.int (lg_cmp x y) :: S) h) ∧
  (∀ (l0 l1 l2 l3 l4 l5 l6 l7 l8 l9 : Value) (x : Int32) (S : List Value) (h : zH), rn 65 72 [l0, l1, l2, l3, l4, l5, l6, l7, l8, l9] (.int x :: S) h = if nI 0 ≤ x then rn 65 91 [l0, l1, l2, l3, l4, l5, l6, l7, l8, l9] S h else rn 65 75 [l0, l1, l2, l3, l4, l5, l6, l7, l8, l9] S h) ∧
  (∀ (l1 l2 l3 l4 l5 l6 l7 l8 l9 : Value) (x : Nat) (S : List Value) (h : zH), rn 65 75 [.ref x, l1, l2, l3, l4, l5, l6, l7, l8, l9] S h = rn 65 76 [.ref x, l1, l2, l3, l4, l5, l6, l7, l8, l9] (.ref x :: S) h) ∧
  (∀ (l0 l1 l2 l3 l4 l5 l6 l7 l8 l9 : Value) (a : Nat) (S : List Value) (h : zH), rn 65 76 [l0, l1, l2, l3, l4, l5, l6, l7, l8, l9] (.ref a :: S) h = zgf h a 6 2 fun v => rn 65 79 [l0, l1, l2, l3, l4, l5, l6, l7, l8, l9] (v :: S) h) ∧
  (∀ (l0 l1 l2 l3 l4 l6 l7 l8 l9 : Value) (x : Int32) (S : List Value) (h : zH), rn 65 79 [l0, l1, l2, l3, l4, .int x, l6, l7, l8, l9] S h = rn 65 81 [l0, l1, l2, l3, l4, .int x, l6, l7, l8, l9] (.int x :: S) h) ∧
  (∀ (l0 l1 l2 l3 l4 l5 l6 l7 l8 l9 : Value) (S : List Value) (h : zH), rn 65 81 [l0, l1, l2, l3, l4, l5, l6, l7, l8, l9] S h = rn 65 82 [l0, l1, l2, l3, l4, l5, l6, l7, l8, l9] (.int (nI 1) :: S) h) ∧
  (∀ (l0 l1 l2 l3 l4 l5 l6 l7 l8 l9 : Value) (x : Int32) (y : Int32) (S : List Value) (h : zH), rn 65 82 [l0, l1, l2, l3, l4, l5, l6, l7, l8, l9] (.int y :: .int x :: S) h = rn 65 83 [l0, l1, l2, l3, l4, l5, l6, l7, l8, l9] (.int (x + y) :: S) h) ∧
  (∀ (l0 l1 l2 l3 l4 l5 l6 l7 l8 l9 : Value) (a : Nat) (j : Int32) (S : List Value) (h : zH), rn 65 83 [l0, l1, l2, l3, l4, l5, l6, l7, l8, l9] (.int j :: .ref a :: S) h = zli h a 0 j fun x => rn 65 84 [l0, l1, l2, l3, l4, l5, l6, l7, l8, l9] (.int x :: S) h) ∧
  (∀ (l0 l1 l2 l3 l4 l5 l6 l7 l8 l9 : Value) (x : Int32) (S : List Value) (h : zH), rn 65 84 [l0, l1, l2, l3, l4, l5, l6, l7, l8, l9] (.int x :: S) h = rn 65 85 [l0, l1, l2, l3, l4, l5, l6, l7, l8, l9] (.long x.toInt64 :: S) h) ∧
  (∀ (l0 l1 l2 l3 l4 l5 l6 l7 l8 l9 : Value) (S : List Value) (h : zH), rn 65 85 [l0, l1, l2, l3, l4, l5, l6, l7, l8, l9] S h = rn 65 88 [l0, l1, l2, l3, l4, l5, l6, l7, l8, l9] (.long (1000000) :: S) h) ∧
  (∀ (l0 l1 l2 l3 l4 l5 l6 l7 l8 l9 : Value) (x : Int64) (y : Int64) (S : List Value) (h : zH), rn 65 88 [l0, l1, l2, l3, l4, l5, l6, l7, l8, l9] (.long y :: .long x :: S) h = rn 65 89 [l0, l1, l2, l3, l4, l5, l6, l7, l8, l9] (.long (x * y) :: S) h) ∧
  (∀ (l0 l1 l2 l3 l4 l5 l6 l7 l8 l9 : Value) (x : Int64) (S : List Value) (h : zH), rn 65 89 [l0, l1, l2, l3, l4, l5, l6, l7, l8, l9] (.long x :: S) h = nl l7 (rn 65 91 [l0, l1, l2, l3, l4, l5, l6, l7, .long x, .float 0] S h)) ∧
  (∀ (l0 l1 l2 l3 l4 l5 l6 l7 l9 : Value) (x : Int64) (S : List Value) (h : zH), rn 65 91 [l0, l1, l2, l3, l4, l5, l6, l7, .long x, l9] S h = rn 65 93 [l0, l1, l2, l3, l4, l5, l6, l7, .long x, l9] (.long x :: S) h) ∧
  (∀ (l0 l1 l2 l3 l4 l5 l7 l8 l9 : Value) (x : Int64) (S : List Value) (h : zH), rn 65 93 [l0, l1, l2, l3, l4, l5, .long x, l7, l8, l9] S h = rn 65 95 [l0, l1, l2, l3, l4, l5, .long x, l7, l8, l9] (.long x :: S) h) ∧
  (∀ (l0 l1 l2 l3 l4 l5 l6 l7 l8 l9 : Value) (x : Int64) (y : Int64) (S : List Value) (h : zH), rn 65 95 [l0, l1, l2, l3, l4, l5, l6, l7, l8, l9] (.long y :: .long x :: S) h = rn 65 96 [l0, l1, l2, l3, l4, l5, l6, l7, l8, l9] (.int (lg_cmp x y) :: S) h) ∧
  (∀ (l0 l1 l2 l3 l4 l5 l6 l7 l8 l9 : Value) (x : Int32) (S : List Value) (h : zH), rn 65 96 [l0, l1, l2, l3, l4, l5, l6, l7, l8, l9] (.int x :: S) h = if x ≤ nI 0 then rn 65 120 [l0, l1, l2, l3, l4, l5, l6, l7, l8, l9] S h else rn 65 99 [l0, l1, l2, l3, l4, l5, l6, l7, l8, l9] S h) ∧
  (∀ (l0 l1 l2 l4 l5 l6 l7 l8 l9 : Value) (x : Int64) (S : List Value) (h : zH), rn 65 99 [l0, l1, l2, .long x, l4, l5, l6, l7, l8, l9] S h = rn 65 100 [l0, l1, l2, .long x, l4, l5, l6, l7, l8, l9] (.long x :: S) h) ∧
  (∀ (l0 l1 l2 l3 l4 l5 l6 l7 l9 : Value) (x : Int64) (S : List Value) (h : zH), rn 65 100 [l0, l1, l2, l3, l4, l5, l6, l7, .long x, l9] S h = rn 65 102 [l0, l1, l2, l3, l4, l5, l6, l7, .long x, l9] (.long x :: S) h) ∧
  (∀ (l0 l1 l2 l3 l4 l5 l7 l8 l9 : Value) (x : Int64) (S : List Value) (h : zH), rn 65 102 [l0, l1, l2, l3, l4, l5, .long x, l7, l8, l9] S h = rn 65 104 [l0, l1, l2, l3, l4, l5, .long x, l7, l8, l9] (.long x :: S) h) ∧
  (∀ (l0 l1 l2 l3 l4 l5 l6 l7 l8 l9 : Value) (x : Int64) (y : Int64) (S : List Value) (h : zH), rn 65 104 [l0, l1, l2, l3, l4, l5, l6, l7, l8, l9] (.long y :: .long x :: S) h = rn 65 105 [l0, l1, l2, l3, l4, l5, l6, l7, l8, l9] (.long (x - y) :: S) h) ∧
  (∀ (l0 l1 l2 l3 l4 l5 l6 l7 l8 l9 : Value) (S : List Value) (h : zH), rn 65 105 [l0, l1, l2, l3, l4, l5, l6, l7, l8, l9] S h = rn 65 108 [l0, l1, l2, l3, l4, l5, l6, l7, l8, l9] (.long (1000) :: S) h) ∧
  (∀ (l0 l1 l2 l3 l4 l5 l6 l7 l8 l9 : Value) (x : Int64) (y : Int64) (S : List Value) (h : zH), rn 65 108 [l0, l1, l2, l3, l4, l5, l6, l7, l8, l9] (.long y :: .long x :: S) h = dvJ y (rn 65 109 [l0, l1, l2, l3, l4, l5, l6, l7, l8, l9] (.long (x / y) :: S) h)) ∧
  (∀ (l1 l2 l3 l4 l5 l6 l7 l8 l9 : Value) (x : Nat) (S : List Value) (h : zH), rn 65 109 [.ref x, l1, l2, l3, l4, l5, l6, l7, l8, l9] S h = rn 65 110 [.ref x, l1, l2, l3, l4, l5, l6, l7, l8, l9] (.ref x :: S) h) ∧
  (∀ (l0 l1 l2 l3 l4 l5 l6 l7 l8 l9 : Value) (a : Nat) (S : List Value) (h : zH), rn 65 110 [l0, l1, l2, l3, l4, l5, l6, l7, l8, l9] (.ref a :: S) h = zgf h a 6 3 fun v => rn 65 113 [l0, l1, l2, l3, l4, l5, l6, l7, l8, l9] (v :: S) h) ∧
  (∀ (l0 l1 l2 l3 l4 l6 l7 l8 l9 : Value) (x : Int32) (S : List Value) (h : zH), rn 65 113 [l0, l1, l2, l3, l4, .int x, l6, l7, l8, l9] S h = rn 65 115 [l0, l1, l2, l3, l4, .int x, l6, l7, l8, l9] (.int x :: S) h) ∧
  (∀ (l0 l1 l2 l3 l4 l5 l6 l7 l8 l9 : Value) (a : Nat) (j : Int32) (S : List Value) (h : zH), rn 65 115 [l0, l1, l2, l3, l4, l5, l6, l7, l8, l9] (.int j :: .ref a :: S) h = zli h a 0 j fun x => rn 65 116 [l0, l1, l2, l3, l4, l5, l6, l7, l8, l9] (.int x :: S) h) ∧
  (∀ (l0 l1 l2 l3 l4 l5 l6 l7 l8 l9 : Value) (x : Int32) (S : List Value) (h : zH), rn 65 116 [l0, l1, l2, l3, l4, l5, l6, l7, l8, l9] (.int x :: S) h = rn 65 117 [l0, l1, l2, l3, l4, l5, l6, l7, l8, l9] (.long x.toInt64 :: S) h) ∧
  (∀ (l0 l1 l2 l3 l4 l5 l6 l7 l8 l9 : Value) (x : Int64) (y : Int64) (S : List Value) (h : zH), rn 65 117 [l0, l1, l2, l3, l4, l5, l6, l7, l8, l9] (.long y :: .long x :: S) h = rn 65 118 [l0, l1, l2, l3, l4, l5, l6, l7, l8, l9] (.long (x * y) :: S) h) ∧
  (∀ (l0 l1 l2 l3 l4 l5 l6 l7 l8 l9 : Value) (x : Int64) (y : Int64) (S : List Value) (h : zH), rn 65 118 [l0, l1, l2, l3, l4, l5, l6, l7, l8, l9] (.long y :: .long x :: S) h = rn 65 119 [l0, l1, l2, l3, l4, l5, l6, l7, l8, l9] (.long (x + y) :: S) h) ∧
  (∀ (l0 l1 l2 l3 l4 l5 l6 l7 l8 l9 : Value) (x : Int64) (S : List Value) (h : zH), rn 65 119 [l0, l1, l2, l3, l4, l5, l6, l7, l8, l9] (.long x :: S) h = nl l2 (rn 65 120 [l0, l1, l2, .long x, .float 0, l5, l6, l7, l8, l9] S h)) ∧
  (∀ (l0 l1 l2 l3 l4 l6 l7 l8 l9 : Value) (x : Int32) (S : List Value) (h : zH), rn 65 120 [l0, l1, l2, l3, l4, .int x, l6, l7, l8, l9] S h = nl l4 (rn 65 123 [l0, l1, l2, l3, l4, .int (x + (nI 1)), l6, l7, l8, l9] S h)) ∧
  (∀ (l0 l1 l2 l3 l4 l5 l6 l7 l8 l9 : Value) (S : List Value) (h : zH), rn 65 123 [l0, l1, l2, l3, l4, l5, l6, l7, l8, l9] S h = rn 65 5 [l0, l1, l2, l3, l4, l5, l6, l7, l8, l9] S h) ∧
  (∀ (l0 l1 l2 l4 l5 l6 l7 l8 l9 : Value) (x : Int64) (S : List Value) (h : zH), rn 65 126 [l0, l1, l2, .long x, l4, l5, l6, l7, l8, l9] S h = rn 65 127 [l0, l1, l2, .long x, l4, l5, l6, l7, l8, l9] (.long x :: S) h) ∧
  (∀ (l0 l1 l2 l3 l4 l5 l6 l7 l8 l9 : Value) (x : Int64) (h : zH), rn 65 127 [l0, l1, l2, l3, l4, l5, l6, l7, l8, l9] [.long x] h = some (some (.long x), h)) := ⟨fun _ _ _ _ _ _ _ _ _ _ _ _ => r_lconst (show zdec 65 0 = some (.lconst 0, 1) by decide +kernel) rfl rfl,
  fun _ _ _ _ _ _ _ _ _ _ _ _ _ => r_lstore_n (show zdec 65 1 = some (.lstore_n 3, 1) by decide +kernel) rfl rfl (Nat.le_of_ble_eq_true rfl) rfl rfl,
  fun _ _ _ _ _ _ _ _ _ _ _ _ => r_iconst (show zdec 65 2 = some (.iconst 0, 1) by decide +kernel) rfl rfl,
  fun _ _ _ _ _ _ _ _ _ _ _ _ _ => r_istore (show zdec 65 3 = some (.istore 5, 2) by decide +kernel) rfl (Nat.le_of_ble_eq_true rfl) rfl rfl,
  fun _ _ _ _ _ _ _ _ _ _ _ _ => r_aload_nr (show zdec 65 7 = some (.aload_n 0, 1) by decide +kernel) rfl rfl,
  fun _ _ _ _ _ _ _ _ _ _ _ _ _ => r_getfield (show zdec 65 8 = some (.getfield 25, 3) by decide +kernel) (show zft.lookup (65 * zKEY + 25) = some (6, 4) by decide +kernel) rfl,
  fun _ _ _ _ _ _ _ _ _ _ _ _ _ _ => r_icmpge (show zdec 65 11 = some (.if_icmp .ge 115, 3) by decide +kernel) rfl rfl,
  fun _ _ _ _ _ _ _ _ _ _ _ _ => r_iload (show zdec 65 14 = some (.iload 5, 2) by decide +kernel) rfl rfl,
  fun _ _ _ _ _ _ _ _ _ _ _ _ => r_iconst (show zdec 65 16 = some (.iconst 5, 1) by decide +kernel) rfl rfl,
  fun _ _ _ _ _ _ _ _ _ _ _ _ _ _ => r_icmpge (show zdec 65 17 = some (.if_icmp .ge 109, 3) by decide +kernel) rfl rfl,
  fun _ _ _ _ _ _ _ _ _ _ _ _ => r_aload_nr (show zdec 65 20 = some (.aload_n 0, 1) by decide +kernel) rfl rfl,
  fun _ _ _ _ _ _ _ _ _ _ _ _ _ => r_getfield (show zdec 65 21 = some (.getfield 19, 3) by decide +kernel) (show zft.lookup (65 * zKEY + 19) = some (6, 2) by decide +kernel) rfl,
  fun _ _ _ _ _ _ _ _ _ _ _ _ => r_iload (show zdec 65 24 = some (.iload 5, 2) by decide +kernel) rfl rfl,
  fun _ _ _ _ _ _ _ _ _ _ _ _ _ _ => r_iald (show zdec 65 26 = some (.iaload, 1) by decide +kernel) rfl,
  fun _ _ _ _ _ _ _ _ _ _ _ _ _ => r_i2l (show zdec 65 27 = some (.i2l, 1) by decide +kernel) rfl,
  fun _ _ _ _ _ _ _ _ _ _ _ _ => r_ldc2 (show zdec 65 28 = some (.ldc2_w 49, 3) by decide +kernel) (show zlt.lookup (65 * zKEY + 49) = some 1000000 by decide +kernel) rfl,
  fun _ _ _ _ _ _ _ _ _ _ _ _ _ _ => r_lmul (show zdec 65 31 = some (.lmul, 1) by decide +kernel) rfl,
  fun _ _ _ _ _ _ _ _ _ _ _ _ _ => r_lstore (show zdec 65 32 = some (.lstore 6, 2) by decide +kernel) rfl (Nat.le_of_ble_eq_true rfl) rfl rfl,
  fun _ _ _ _ _ _ _ _ _ _ _ _ => r_lload_n (show zdec 65 34 = some (.lload_n 1, 1) by decide +kernel) rfl rfl,
  fun _ _ _ _ _ _ _ _ _ _ _ _ _ => r_lstore (show zdec 65 35 = some (.lstore 8, 2) by decide +kernel) rfl (Nat.le_of_ble_eq_true rfl) rfl rfl,
  fun _ _ _ _ _ _ _ _ _ _ _ _ => r_iload (show zdec 65 37 = some (.iload 5, 2) by decide +kernel) rfl rfl,
  fun _ _ _ _ _ _ _ _ _ _ _ _ => r_iconst (show zdec 65 39 = some (.iconst 1, 1) by decide +kernel) rfl rfl,
  fun _ _ _ _ _ _ _ _ _ _ _ _ _ _ => r_iadd (show zdec 65 40 = some (.iadd, 1) by decide +kernel) rfl,
  fun _ _ _ _ _ _ _ _ _ _ _ _ => r_aload_nr (show zdec 65 41 = some (.aload_n 0, 1) by decide +kernel) rfl rfl,
  fun _ _ _ _ _ _ _ _ _ _ _ _ _ => r_getfield (show zdec 65 42 = some (.getfield 25, 3) by decide +kernel) (show zft.lookup (65 * zKEY + 25) = some (6, 4) by decide +kernel) rfl,
  fun _ _ _ _ _ _ _ _ _ _ _ _ _ _ => r_icmpge (show zdec 65 45 = some (.if_icmp .ge 46, 3) by decide +kernel) rfl rfl,
  fun _ _ _ _ _ _ _ _ _ _ _ _ => r_iload (show zdec 65 48 = some (.iload 5, 2) by decide +kernel) rfl rfl,
  fun _ _ _ _ _ _ _ _ _ _ _ _ => r_iconst (show zdec 65 50 = some (.iconst 1, 1) by decide +kernel) rfl rfl,
  fun _ _ _ _ _ _ _ _ _ _ _ _ _ _ => r_iadd (show zdec 65 51 = some (.iadd, 1) by decide +kernel) rfl,
  fun _ _ _ _ _ _ _ _ _ _ _ _ => r_iconst (show zdec 65 52 = some (.iconst 5, 1) by decide +kernel) rfl rfl,
  fun _ _ _ _ _ _ _ _ _ _ _ _ _ _ => r_icmpge (show zdec 65 53 = some (.if_icmp .ge 38, 3) by decide +kernel) rfl rfl,
  fun _ _ _ _ _ _ _ _ _ _ _ _ => r_aload_nr (show zdec 65 56 = some (.aload_n 0, 1) by decide +kernel) rfl rfl,
  fun _ _ _ _ _ _ _ _ _ _ _ _ _ => r_getfield (show zdec 65 57 = some (.getfield 19, 3) by decide +kernel) (show zft.lookup (65 * zKEY + 19) = some (6, 2) by decide +kernel) rfl,
  fun _ _ _ _ _ _ _ _ _ _ _ _ => r_iload (show zdec 65 60 = some (.iload 5, 2) by decide +kernel) rfl rfl,
  fun _ _ _ _ _ _ _ _ _ _ _ _ => r_iconst (show zdec 65 62 = some (.iconst 1, 1) by decide +kernel) rfl rfl,
  fun _ _ _ _ _ _ _ _ _ _ _ _ _ _ => r_iadd (show zdec 65 63 = some (.iadd, 1) by decide +kernel) rfl,
  fun _ _ _ _ _ _ _ _ _ _ _ _ _ _ => r_iald (show zdec 65 64 = some (.iaload, 1) by decide +kernel) rfl,
  fun _ _ _ _ _ _ _ _ _ _ _ _ _ => r_i2l (show zdec 65 65 = some (.i2l, 1) by decide +kernel) rfl,
  fun _ _ _ _ _ _ _ _ _ _ _ _ => r_ldc2 (show zdec 65 66 = some (.ldc2_w 49, 3) by decide +kernel) (show zlt.lookup (65 * zKEY + 49) = some 1000000 by decide +kernel) rfl,
  fun _ _ _ _ _ _ _ _ _ _ _ _ _ _ => r_lmul (show zdec 65 69 = some (.lmul, 1) by decide +kernel) rfl,
  fun _ _ _ _ _ _ _ _ _ _ _ _ => r_lload_n (show zdec 65 70 = some (.lload_n 1, 1) by decide +kernel) rfl rfl,
  fun _ _ _ _ _ _ _ _ _ _ _ _ _ _ => r_lcmp (show zdec 65 71 = some (.lcmp, 1) by decide +kernel) rfl,
  fun _ _ _ _ _ _ _ _ _ _ _ _ _ => r_ifge (show zdec 65 72 = some (.ifCond .ge 19, 3) by decide +kernel) rfl rfl,
  fun _ _ _ _ _ _ _ _ _ _ _ _ => r_aload_nr (show zdec 65 75 = some (.aload_n 0, 1) by decide +kernel) rfl rfl,
  fun _ _ _ _ _ _ _ _ _ _ _ _ _ => r_getfield (show zdec 65 76 = some (.getfield 19, 3) by decide +kernel) (show zft.lookup (65 * zKEY + 19) = some (6, 2) by decide +kernel) rfl,
  fun _ _ _ _ _ _ _ _ _ _ _ _ => r_iload (show zdec 65 79 = some (.iload 5, 2) by decide +kernel) rfl rfl,
  fun _ _ _ _ _ _ _ _ _ _ _ _ => r_iconst (show zdec 65 81 = some (.iconst 1, 1) by decide +kernel) rfl rfl,
  fun _ _ _ _ _ _ _ _ _ _ _ _ _ _ => r_iadd (show zdec 65 82 = some (.iadd, 1) by decide +kernel) rfl,
  fun _ _ _ _ _ _ _ _ _ _ _ _ _ _ => r_iald (show zdec 65 83 = some (.iaload, 1) by decide +kernel) rfl,
  fun _ _ _ _ _ _ _ _ _ _ _ _ _ => r_i2l (show zdec 65 84 = some (.i2l, 1) by decide +kernel) rfl,
  fun _ _ _ _ _ _ _ _ _ _ _ _ => r_ldc2 (show zdec 65 85 = some (.ldc2_w 49, 3) by decide +kernel) (show zlt.lookup (65 * zKEY + 49) = some 1000000 by decide +kernel) rfl,
  fun _ _ _ _ _ _ _ _ _ _ _ _ _ _ => r_lmul (show zdec 65 88 = some (.lmul, 1) by decide +kernel) rfl,
  fun _ _ _ _ _ _ _ _ _ _ _ _ _ => r_lstore (show zdec 65 89 = some (.lstore 8, 2) by decide +kernel) rfl (Nat.le_of_ble_eq_true rfl) rfl rfl,
  fun _ _ _ _ _ _ _ _ _ _ _ _ => r_lload (show zdec 65 91 = some (.lload 8, 2) by decide +kernel) rfl rfl,
  fun _ _ _ _ _ _ _ _ _ _ _ _ => r_lload (show zdec 65 93 = some (.lload 6, 2) by decide +kernel) rfl rfl,
  fun _ _ _ _ _ _ _ _ _ _ _ _ _ _ => r_lcmp (show zdec 65 95 = some (.lcmp, 1) by decide +kernel) rfl,
  fun _ _ _ _ _ _ _ _ _ _ _ _ _ => r_ifle (show zdec 65 96 = some (.ifCond .le 24, 3) by decide +kernel) rfl rfl,
  fun _ _ _ _ _ _ _ _ _ _ _ _ => r_lload_n (show zdec 65 99 = some (.lload_n 3, 1) by decide +kernel) rfl rfl,
  fun _ _ _ _ _ _ _ _ _ _ _ _ => r_lload (show zdec 65 100 = some (.lload 8, 2) by decide +kernel) rfl rfl,
  fun _ _ _ _ _ _ _ _ _ _ _ _ => r_lload (show zdec 65 102 = some (.lload 6, 2) by decide +kernel) rfl rfl,
  fun _ _ _ _ _ _ _ _ _ _ _ _ _ _ => r_lsub (show zdec 65 104 = some (.lsub, 1) by decide +kernel) rfl,
  fun _ _ _ _ _ _ _ _ _ _ _ _ => r_ldc2 (show zdec 65 105 = some (.ldc2_w 58, 3) by decide +kernel) (show zlt.lookup (65 * zKEY + 58) = some 1000 by decide +kernel) rfl,
  fun _ _ _ _ _ _ _ _ _ _ _ _ _ _ => r_ldiv (show zdec 65 108 = some (.ldiv, 1) by decide +kernel) rfl,
  fun _ _ _ _ _ _ _ _ _ _ _ _ => r_aload_nr (show zdec 65 109 = some (.aload_n 0, 1) by decide +kernel) rfl rfl,
  fun _ _ _ _ _ _ _ _ _ _ _ _ _ => r_getfield (show zdec 65 110 = some (.getfield 22, 3) by decide +kernel) (show zft.lookup (65 * zKEY + 22) = some (6, 3) by decide +kernel) rfl,
  fun _ _ _ _ _ _ _ _ _ _ _ _ => r_iload (show zdec 65 113 = some (.iload 5, 2) by decide +kernel) rfl rfl,
  fun _ _ _ _ _ _ _ _ _ _ _ _ _ _ => r_iald (show zdec 65 115 = some (.iaload, 1) by decide +kernel) rfl,
  fun _ _ _ _ _ _ _ _ _ _ _ _ _ => r_i2l (show zdec 65 116 = some (.i2l, 1) by decide +kernel) rfl,
  fun _ _ _ _ _ _ _ _ _ _ _ _ _ _ => r_lmul (show zdec 65 117 = some (.lmul, 1) by decide +kernel) rfl,
  fun _ _ _ _ _ _ _ _ _ _ _ _ _ _ => r_ladd (show zdec 65 118 = some (.ladd, 1) by decide +kernel) rfl,
  fun _ _ _ _ _ _ _ _ _ _ _ _ _ => r_lstore_n (show zdec 65 119 = some (.lstore_n 3, 1) by decide +kernel) rfl rfl (Nat.le_of_ble_eq_true rfl) rfl rfl,
  fun _ _ _ _ _ _ _ _ _ _ _ _ => r_iinc (show zdec 65 120 = some (.iinc 5 1, 3) by decide +kernel) rfl rfl rfl (Nat.le_of_ble_eq_true rfl) rfl rfl,
  fun _ _ _ _ _ _ _ _ _ _ _ _ => r_goto (show zdec 65 123 = some (.goto (-118), 3) by decide +kernel) rfl,
  fun _ _ _ _ _ _ _ _ _ _ _ _ => r_lload_n (show zdec 65 126 = some (.lload_n 3, 1) by decide +kernel) rfl rfl,
  fun _ _ _ _ _ _ _ _ _ _ _ _ => r_lret (show zdec 65 127 = some (.lreturn, 1) by decide +kernel) (by decide +kernel)⟩
theorem zl_65_5 : ∀ (l0 l1 l2 l3 l4 l6 l7 l8 l9 : Value) (x : Int32) (S : List Value) (h : zH), rn 65 5 [l0, l1, l2, l3, l4, .int x, l6, l7, l8, l9] S h = rn 65 7 [l0, l1, l2, l3, l4, .int x, l6, l7, l8, l9] (.int x :: S) h := fun _ _ _ _ _ _ _ _ _ _ _ _ => r_iload (show zdec 65 5 = some (.iload 5, 2) by decide +kernel) rfl rfl
theorem ze_65 : ∀ (a0 : Nat) (a1 : Int64) (h : zH), ev 65 [.ref a0, .long a1] h = rn 65 0 [.ref a0, .long a1, .float 0, .float 0, .float 0, .float 0, .float 0, .float 0, .float 0, .float 0] [] h := fun _ _ _ => if_pos (Nat.le_of_ble_eq_true rfl)
-- PayrollRun/Closing.addOwnLines(ILPayrollRun/Slip;)V
theorem zr_66 : (∀ (l0 l1 l2 l3 : Value) (S : List Value) (h : zH), rn 66 0 [l0, l1, l2, l3] S h = rn 66 1 [l0, l1, l2, l3] (.int (nI 0) :: S) h) ∧
  (∀ (l0 l1 l2 l3 : Value) (x : Int32) (S : List Value) (h : zH), rn 66 1 [l0, l1, l2, l3] (.int x :: S) h = nl l2 (rn 66 2 [l0, l1, l2, .int x] S h)) ∧
  (∀ (l0 l1 l2 l3 : Value) (S : List Value) (h : zH), rn 66 3 [l0, l1, l2, l3] S h = rn 66 4 [l0, l1, l2, l3] (.int (nI 3) :: S) h) ∧
  (∀ (l0 l1 l2 l3 : Value) (x : Int32) (y : Int32) (S : List Value) (h : zH), rn 66 4 [l0, l1, l2, l3] (.int y :: .int x :: S) h = if y < x then rn 66 35 [l0, l1, l2, l3] S h else rn 66 7 [l0, l1, l2, l3] S h) ∧
  (∀ (l0 l1 l2 l3 : Value) (S : List Value) (h : zH), rn 66 7 [l0, l1, l2, l3] S h = ldA l2 (rn 66 8 [l0, l1, l2, l3] (l2 :: S) h)) ∧
  (∀ (l0 l1 l2 : Value) (x : Int32) (S : List Value) (h : zH), rn 66 8 [l0, l1, l2, .int x] S h = rn 66 9 [l0, l1, l2, .int x] (.int x :: S) h) ∧
  (∀ (l0 l2 l3 : Value) (x : Int32) (S : List Value) (h : zH), rn 66 9 [l0, .int x, l2, l3] S h = rn 66 10 [l0, .int x, l2, l3] (.int x :: S) h) ∧
  (∀ (l0 l1 l2 l3 : Value) (S : List Value) (h : zH), rn 66 10 [l0, l1, l2, l3] S h = rn 66 11 [l0, l1, l2, l3] (.int (nI 0) :: S) h) ∧
  (∀ (l0 l1 l2 : Value) (x : Int32) (S : List Value) (h : zH), rn 66 11 [l0, l1, l2, .int x] S h = rn 66 12 [l0, l1, l2, .int x] (.int x :: S) h) ∧
  (∀ (l1 l2 l3 : Value) (x : Nat) (S : List Value) (h : zH), rn 66 12 [.ref x, l1, l2, l3] S h = rn 66 13 [.ref x, l1, l2, l3] (.ref x :: S) h) ∧
  (∀ (l0 l1 l2 l3 : Value) (a : Nat) (S : List Value) (h : zH), rn 66 13 [l0, l1, l2, l3] (.ref a :: S) h = zgf h a 2 0 fun v => rn 66 16 [l0, l1, l2, l3] (v :: S) h) ∧
  (∀ (l0 l1 l2 : Value) (x : Int32) (S : List Value) (h : zH), rn 66 16 [l0, l1, l2, .int x] S h = rn 66 17 [l0, l1, l2, .int x] (.int x :: S) h) ∧
  (∀ (l0 l1 l2 l3 : Value) (S : List Value) (h : zH), rn 66 17 [l0, l1, l2, l3] S h = rn 66 19 [l0, l1, l2, l3] (.int (nI 12) :: S) h) ∧
  (∀ (l0 l1 l2 l3 : Value) (x : Int32) (y : Int32) (S : List Value) (h : zH), rn 66 19 [l0, l1, l2, l3] (.int y :: .int x :: S) h = rn 66 20 [l0, l1, l2, l3] (.int (x * y) :: S) h) ∧
  (∀ (l0 l2 l3 : Value) (x : Int32) (S : List Value) (h : zH), rn 66 20 [l0, .int x, l2, l3] S h = rn 66 21 [l0, .int x, l2, l3] (.int x :: S) h) ∧
  (∀ (l0 l1 l2 l3 : Value) (x : Int32) (y : Int32) (S : List Value) (h : zH), rn 66 21 [l0, l1, l2, l3] (.int y :: .int x :: S) h = rn 66 22 [l0, l1, l2, l3] (.int (x + y) :: S) h) ∧
  (∀ (l0 l1 l2 l3 : Value) (a : Nat) (j : Int32) (S : List Value) (h : zH), rn 66 22 [l0, l1, l2, l3] (.int j :: .ref a :: S) h = zlj h a j fun x => rn 66 23 [l0, l1, l2, l3] (.long x :: S) h) ∧
  (∀ (l0 l1 l2 l3 : Value) (v0 : Value) (v1 : Value) (S : List Value) (h : zH), rn 66 23 [l0, l1, l2, l3] (v1 :: v0 :: S) h = if zsum S ≤ 8 then zcall (ev 67 [v0, v1] h) (fun v h => rn 66 26 [l0, l1, l2, l3] (zpush v S) h) else none) ∧
  (∀ (l0 l1 l2 l3 : Value) (o : Nat) (v0 : Value) (v1 : Value) (v2 : Value) (v3 : Value) (S : List Value) (h : zH), rn 66 26 [l0, l1, l2, l3] (v3 :: v2 :: v1 :: v0 :: .ref o :: S) h = if zkd h o = 7 ∧ zsum S ≤ 8 then zcall (ev 68 [.ref o, v0, v1, v2, v3] h) (fun v h => rn 66 29 [l0, l1, l2, l3] (zpush v S) h) else none) ∧
  (∀ (l0 l1 l2 : Value) (x : Int32) (S : List Value) (h : zH), rn 66 29 [l0, l1, l2, .int x] S h = nl l2 (rn 66 32 [l0, l1, l2, .int (x + (nI 1))] S h)) ∧
  (∀ (l0 l1 l2 l3 : Value) (S : List Value) (h : zH), rn 66 32 [l0, l1, l2, l3] S h = rn 66 2 [l0, l1, l2, l3] S h) ∧
  (∀ (l0 l1 l2 l3 : Value) (h : zH), rn 66 35 [l0, l1, l2, l3] [] h = some (none, h)) := ⟨fun _ _ _ _ _ _ => r_iconst (show zdec 66 0 = some (.iconst 0, 1) by decide +kernel) rfl rfl,
  fun _ _ _ _ _ _ _ => r_istore_n (show zdec 66 1 = some (.istore_n 3, 1) by decide +kernel) rfl rfl (Nat.le_of_ble_eq_true rfl) rfl rfl,
  fun _ _ _ _ _ _ => r_iconst (show zdec 66 3 = some (.iconst 3, 1) by decide +kernel) rfl rfl,
  fun _ _ _ _ _ _ _ _ => r_icmpgt (show zdec 66 4 = some (.if_icmp .gt 31, 3) by decide +kernel) rfl rfl,
  fun _ _ _ _ _ _ => r_aload_n (show zdec 66 7 = some (.aload_n 2, 1) by decide +kernel) rfl rfl,
  fun _ _ _ _ _ _ => r_iload_n (show zdec 66 8 = some (.iload_n 3, 1) by decide +kernel) rfl rfl,
  fun _ _ _ _ _ _ => r_iload_n (show zdec 66 9 = some (.iload_n 1, 1) by decide +kernel) rfl rfl,
  fun _ _ _ _ _ _ => r_iconst (show zdec 66 10 = some (.iconst 0, 1) by decide +kernel) rfl rfl,
  fun _ _ _ _ _ _ => r_iload_n (show zdec 66 11 = some (.iload_n 3, 1) by decide +kernel) rfl rfl,
  fun _ _ _ _ _ _ => r_aload_nr (show zdec 66 12 = some (.aload_n 0, 1) by decide +kernel) rfl rfl,
  fun _ _ _ _ _ _ _ => r_getfield (show zdec 66 13 = some (.getfield 9, 3) by decide +kernel) (show zft.lookup (66 * zKEY + 9) = some (2, 0) by decide +kernel) rfl,
  fun _ _ _ _ _ _ => r_iload_n (show zdec 66 16 = some (.iload_n 3, 1) by decide +kernel) rfl rfl,
  fun _ _ _ _ _ _ => r_bipush (show zdec 66 17 = some (.bipush 12, 2) by decide +kernel) rfl rfl,
  fun _ _ _ _ _ _ _ _ => r_imul (show zdec 66 19 = some (.imul, 1) by decide +kernel) rfl,
  fun _ _ _ _ _ _ => r_iload_n (show zdec 66 20 = some (.iload_n 1, 1) by decide +kernel) rfl rfl,
  fun _ _ _ _ _ _ _ _ => r_iadd (show zdec 66 21 = some (.iadd, 1) by decide +kernel) rfl,
  fun _ _ _ _ _ _ _ _ => r_lald (show zdec 66 22 = some (.laload, 1) by decide +kernel) rfl,
  fun _ _ _ _ _ _ _ _ => r_cS [_, _] rfl (show zdec 66 23 = some (.invokestatic 75, 3) by decide +kernel) (show zst.lookup (66 * zKEY + 75) = some (0, 67, 2, 0) by decide +kernel) (by decide) rfl,
  fun _ _ _ _ _ _ _ _ _ _ _ => r_cV [_, _, _, _] rfl (show zdec 66 26 = some (.invokevirtual 43, 3) by decide +kernel) (show zst.lookup (66 * zKEY + 43) = some (1, 68, 4, 7) by decide +kernel) (by decide) rfl,
  fun _ _ _ _ _ _ => r_iinc (show zdec 66 29 = some (.iinc 3 1, 3) by decide +kernel) rfl rfl rfl (Nat.le_of_ble_eq_true rfl) rfl rfl,
  fun _ _ _ _ _ _ => r_goto (show zdec 66 32 = some (.goto (-30), 3) by decide +kernel) rfl,
  fun _ _ _ _ _ => r_vret (show zdec 66 35 = some (.return_, 1) by decide +kernel) (by decide +kernel)⟩
theorem zl_66_2 : ∀ (l0 l1 l2 : Value) (x : Int32) (S : List Value) (h : zH), rn 66 2 [l0, l1, l2, .int x] S h = rn 66 3 [l0, l1, l2, .int x] (.int x :: S) h := fun _ _ _ _ _ _ => r_iload_n (show zdec 66 2 = some (.iload_n 3, 1) by decide +kernel) rfl rfl
theorem ze_66 : ∀ (a0 : Nat) (a1 : Int32) (a2 : Nat) (h : zH), ev 66 [.ref a0, .int a1, .ref a2] h = rn 66 0 [.ref a0, .int a1, .ref a2, .float 0] [] h := fun _ _ _ _ => if_pos (Nat.le_of_ble_eq_true rfl)
-- PayrollRun/Closing.signed(IJ)J
theorem zr_67 : (∀ (l1 l2 : Value) (x : Int32) (S : List Value) (h : zH), rn 67 0 [.int x, l1, l2] S h = rn 67 1 [.int x, l1, l2] (.int x :: S) h) ∧
  (∀ (l0 l1 l2 : Value) (x : Int32) (S : List Value) (h : zH), rn 67 1 [l0, l1, l2] (.int x :: S) h = if x = nI 0 then rn 67 4 [l0, l1, l2] S h else rn 67 8 [l0, l1, l2] S h) ∧
  (∀ (l0 l2 : Value) (x : Int64) (S : List Value) (h : zH), rn 67 4 [l0, .long x, l2] S h = rn 67 5 [l0, .long x, l2] (.long x :: S) h) ∧
  (∀ (l0 l1 l2 : Value) (S : List Value) (h : zH), rn 67 5 [l0, l1, l2] S h = rn 67 10 [l0, l1, l2] S h) ∧
  (∀ (l0 l2 : Value) (x : Int64) (S : List Value) (h : zH), rn 67 8 [l0, .long x, l2] S h = rn 67 9 [l0, .long x, l2] (.long x :: S) h) ∧
  (∀ (l0 l1 l2 : Value) (x : Int64) (S : List Value) (h : zH), rn 67 9 [l0, l1, l2] (.long x :: S) h = rn 67 10 [l0, l1, l2] (.long (-x) :: S) h) ∧
  (∀ (l0 l1 l2 : Value) (x : Int64) (h : zH), rn 67 10 [l0, l1, l2] [.long x] h = some (some (.long x), h)) := ⟨fun _ _ _ _ _ => r_iload_n (show zdec 67 0 = some (.iload_n 0, 1) by decide +kernel) rfl rfl,
  fun _ _ _ _ _ _ => r_ifne (show zdec 67 1 = some (.ifCond .ne 7, 3) by decide +kernel) rfl rfl,
  fun _ _ _ _ _ => r_lload_n (show zdec 67 4 = some (.lload_n 1, 1) by decide +kernel) rfl rfl,
  fun _ _ _ _ _ => r_goto (show zdec 67 5 = some (.goto 5, 3) by decide +kernel) rfl,
  fun _ _ _ _ _ => r_lload_n (show zdec 67 8 = some (.lload_n 1, 1) by decide +kernel) rfl rfl,
  fun _ _ _ _ _ _ => r_lneg (show zdec 67 9 = some (.lneg, 1) by decide +kernel) rfl,
  fun _ _ _ _ _ => r_lret (show zdec 67 10 = some (.lreturn, 1) by decide +kernel) (by decide +kernel)⟩
theorem ze_67 : ∀ (a0 : Int32) (a1 : Int64) (h : zH), ev 67 [.int a0, .long a1] h = rn 67 0 [.int a0, .long a1, .float 0] [] h := fun _ _ _ => if_pos (Nat.le_of_ble_eq_true rfl)
-- PayrollRun/Slip.add(IIIJ)V
theorem zr_68 : (∀ (l1 l2 l3 l4 l5 : Value) (x : Nat) (S : List Value) (h : zH), rn 68 0 [.ref x, l1, l2, l3, l4, l5] S h = rn 68 1 [.ref x, l1, l2, l3, l4, l5] (.ref x :: S) h) ∧
  (∀ (l0 l1 l2 l3 l4 l5 : Value) (a : Nat) (S : List Value) (h : zH), rn 68 1 [l0, l1, l2, l3, l4, l5] (.ref a :: S) h = zgf h a 7 2 fun v => rn 68 4 [l0, l1, l2, l3, l4, l5] (v :: S) h) ∧
  (∀ (l0 l1 l2 l3 l4 l5 : Value) (S : List Value) (h : zH), rn 68 4 [l0, l1, l2, l3, l4, l5] S h = rn 68 6 [l0, l1, l2, l3, l4, l5] (.int (nI 54) :: S) h) ∧
  (∀ (l0 l1 l2 l3 l4 l5 : Value) (x : Int32) (y : Int32) (S : List Value) (h : zH), rn 68 6 [l0, l1, l2, l3, l4, l5] (.int y :: .int x :: S) h = if x < y then rn 68 10 [l0, l1, l2, l3, l4, l5] S h else rn 68 9 [l0, l1, l2, l3, l4, l5] S h) ∧
  (∀ (l0 l1 l2 l3 l4 l5 : Value) (h : zH), rn 68 9 [l0, l1, l2, l3, l4, l5] [] h = some (none, h)) ∧
  (∀ (l1 l2 l3 l4 l5 : Value) (x : Nat) (S : List Value) (h : zH), rn 68 10 [.ref x, l1, l2, l3, l4, l5] S h = rn 68 11 [.ref x, l1, l2, l3, l4, l5] (.ref x :: S) h) ∧
  (∀ (l0 l1 l2 l3 l4 l5 : Value) (a : Nat) (S : List Value) (h : zH), rn 68 11 [l0, l1, l2, l3, l4, l5] (.ref a :: S) h = zgf h a 7 0 fun v => rn 68 14 [l0, l1, l2, l3, l4, l5] (v :: S) h) ∧
  (∀ (l1 l2 l3 l4 l5 : Value) (x : Nat) (S : List Value) (h : zH), rn 68 14 [.ref x, l1, l2, l3, l4, l5] S h = rn 68 15 [.ref x, l1, l2, l3, l4, l5] (.ref x :: S) h) ∧
  (∀ (l0 l1 l2 l3 l4 l5 : Value) (a : Nat) (S : List Value) (h : zH), rn 68 15 [l0, l1, l2, l3, l4, l5] (.ref a :: S) h = zgf h a 7 2 fun v => rn 68 18 [l0, l1, l2, l3, l4, l5] (v :: S) h) ∧
  (∀ (l0 l2 l3 l4 l5 : Value) (x : Int32) (S : List Value) (h : zH), rn 68 18 [l0, .int x, l2, l3, l4, l5] S h = rn 68 19 [l0, .int x, l2, l3, l4, l5] (.int x :: S) h) ∧
  (∀ (l0 l1 l2 l3 l4 l5 : Value) (a : Nat) (j : Int32) (x : Int32) (S : List Value) (h : zH), rn 68 19 [l0, l1, l2, l3, l4, l5] (.int x :: .int j :: .ref a :: S) h = zsi h a 0 j x fun h => rn 68 20 [l0, l1, l2, l3, l4, l5] S h) ∧
  (∀ (l1 l2 l3 l4 l5 : Value) (x : Nat) (S : List Value) (h : zH), rn 68 20 [.ref x, l1, l2, l3, l4, l5] S h = rn 68 21 [.ref x, l1, l2, l3, l4, l5] (.ref x :: S) h) ∧
  (∀ (l0 l1 l2 l3 l4 l5 : Value) (a : Nat) (S : List Value) (h : zH), rn 68 21 [l0, l1, l2, l3, l4, l5] (.ref a :: S) h = zgf h a 7 0 fun v => rn 68 24 [l0, l1, l2, l3, l4, l5] (v :: S) h) ∧
  (∀ (l0 l1 l2 l3 l4 l5 : Value) (S : List Value) (h : zH), rn 68 24 [l0, l1, l2, l3, l4, l5] S h = rn 68 26 [l0, l1, l2, l3, l4, l5] (.int (nI 54) :: S) h) ∧
  (∀ (l1 l2 l3 l4 l5 : Value) (x : Nat) (S : List Value) (h : zH), rn 68 26 [.ref x, l1, l2, l3, l4, l5] S h = rn 68 27 [.ref x, l1, l2, l3, l4, l5] (.ref x :: S) h) ∧
  (∀ (l0 l1 l2 l3 l4 l5 : Value) (a : Nat) (S : List Value) (h : zH), rn 68 27 [l0, l1, l2, l3, l4, l5] (.ref a :: S) h = zgf h a 7 2 fun v => rn 68 30 [l0, l1, l2, l3, l4, l5] (v :: S) h) ∧
  (∀ (l0 l1 l2 l3 l4 l5 : Value) (x : Int32) (y : Int32) (S : List Value) (h : zH), rn 68 30 [l0, l1, l2, l3, l4, l5] (.int y :: .int x :: S) h = rn 68 31 [l0, l1, l2, l3, l4, l5] (.int (x + y) :: S) h) ∧
  (∀ (l0 l1 l3 l4 l5 : Value) (x : Int32) (S : List Value) (h : zH), rn 68 31 [l0, l1, .int x, l3, l4, l5] S h = rn 68 32 [l0, l1, .int x, l3, l4, l5] (.int x :: S) h) ∧
  (∀ (l0 l1 l2 l3 l4 l5 : Value) (a : Nat) (j : Int32) (x : Int32) (S : List Value) (h : zH), rn 68 32 [l0, l1, l2, l3, l4, l5] (.int x :: .int j :: .ref a :: S) h = zsi h a 0 j x fun h => rn 68 33 [l0, l1, l2, l3, l4, l5] S h) ∧
  (∀ (l1 l2 l3 l4 l5 : Value) (x : Nat) (S : List Value) (h : zH), rn 68 33 [.ref x, l1, l2, l3, l4, l5] S h = rn 68 34 [.ref x, l1, l2, l3, l4, l5] (.ref x :: S) h) ∧
  (∀ (l0 l1 l2 l3 l4 l5 : Value) (a : Nat) (S : List Value) (h : zH), rn 68 34 [l0, l1, l2, l3, l4, l5] (.ref a :: S) h = zgf h a 7 0 fun v => rn 68 37 [l0, l1, l2, l3, l4, l5] (v :: S) h) ∧
  (∀ (l0 l1 l2 l3 l4 l5 : Value) (S : List Value) (h : zH), rn 68 37 [l0, l1, l2, l3, l4, l5] S h = rn 68 39 [l0, l1, l2, l3, l4, l5] (.int (nI 108) :: S) h) ∧
  (∀ (l1 l2 l3 l4 l5 : Value) (x : Nat) (S : List Value) (h : zH), rn 68 39 [.ref x, l1, l2, l3, l4, l5] S h = rn 68 40 [.ref x, l1, l2, l3, l4, l5] (.ref x :: S) h) ∧
  (∀ (l0 l1 l2 l3 l4 l5 : Value) (a : Nat) (S : List Value) (h : zH), rn 68 40 [l0, l1, l2, l3, l4, l5] (.ref a :: S) h = zgf h a 7 2 fun v => rn 68 43 [l0, l1, l2, l3, l4, l5] (v :: S) h) ∧
  (∀ (l0 l1 l2 l3 l4 l5 : Value) (x : Int32) (y : Int32) (S : List Value) (h : zH), rn 68 43 [l0, l1, l2, l3, l4, l5] (.int y :: .int x :: S) h = rn 68 44 [l0, l1, l2, l3, l4, l5] (.int (x + y) :: S) h) ∧
  (∀ (l0 l1 l2 l4 l5 : Value) (x : Int32) (S : List Value) (h : zH), rn 68 44 [l0, l1, l2, .int x, l4, l5] S h = rn 68 45 [l0, l1, l2, .int x, l4, l5] (.int x :: S) h) ∧
  (∀ (l0 l1 l2 l3 l4 l5 : Value) (a : Nat) (j : Int32) (x : Int32) (S : List Value) (h : zH), rn 68 45 [l0, l1, l2, l3, l4, l5] (.int x :: .int j :: .ref a :: S) h = zsi h a 0 j x fun h => rn 68 46 [l0, l1, l2, l3, l4, l5] S h) ∧
  (∀ (l1 l2 l3 l4 l5 : Value) (x : Nat) (S : List Value) (h : zH), rn 68 46 [.ref x, l1, l2, l3, l4, l5] S h = rn 68 47 [.ref x, l1, l2, l3, l4, l5] (.ref x :: S) h) ∧
  (∀ (l0 l1 l2 l3 l4 l5 : Value) (a : Nat) (S : List Value) (h : zH), rn 68 47 [l0, l1, l2, l3, l4, l5] (.ref a :: S) h = zgf h a 7 1 fun v => rn 68 50 [l0, l1, l2, l3, l4, l5] (v :: S) h) ∧
  (∀ (l1 l2 l3 l4 l5 : Value) (x : Nat) (S : List Value) (h : zH), rn 68 50 [.ref x, l1, l2, l3, l4, l5] S h = rn 68 51 [.ref x, l1, l2, l3, l4, l5] (.ref x :: S) h) ∧
  (∀ (l0 l1 l2 l3 l4 l5 : Value) (a : Nat) (S : List Value) (h : zH), rn 68 51 [l0, l1, l2, l3, l4, l5] (.ref a :: S) h = zgf h a 7 2 fun v => rn 68 54 [l0, l1, l2, l3, l4, l5] (v :: S) h) ∧
  (∀ (l0 l1 l2 l3 l5 : Value) (x : Int64) (S : List Value) (h : zH), rn 68 54 [l0, l1, l2, l3, .long x, l5] S h = rn 68 56 [l0, l1, l2, l3, .long x, l5] (.long x :: S) h) ∧
  (∀ (l0 l1 l2 l3 l4 l5 : Value) (a : Nat) (j : Int32) (x : Int64) (S : List Value) (h : zH), rn 68 56 [l0, l1, l2, l3, l4, l5] (.long x :: .int j :: .ref a :: S) h = zsj h a j x fun h => rn 68 57 [l0, l1, l2, l3, l4, l5] S h) ∧
  (∀ (l1 l2 l3 l4 l5 : Value) (x : Nat) (S : List Value) (h : zH), rn 68 57 [.ref x, l1, l2, l3, l4, l5] S h = rn 68 58 [.ref x, l1, l2, l3, l4, l5] (.ref x :: S) h) ∧
  (∀ (l0 l1 l2 l3 l4 l5 : Value) (v : Value) (S : List Value) (h : zH), rn 68 58 [l0, l1, l2, l3, l4, l5] (v :: S) h = c1 v (rn 68 59 [l0, l1, l2, l3, l4, l5] (v :: v :: S) h)) ∧
  (∀ (l0 l1 l2 l3 l4 l5 : Value) (a : Nat) (S : List Value) (h : zH), rn 68 59 [l0, l1, l2, l3, l4, l5] (.ref a :: S) h = zgf h a 7 2 fun v => rn 68 62 [l0, l1, l2, l3, l4, l5] (v :: S) h) ∧
  (∀ (l0 l1 l2 l3 l4 l5 : Value) (S : List Value) (h : zH), rn 68 62 [l0, l1, l2, l3, l4, l5] S h = rn 68 63 [l0, l1, l2, l3, l4, l5] (.int (nI 1) :: S) h) ∧
  (∀ (l0 l1 l2 l3 l4 l5 : Value) (x : Int32) (y : Int32) (S : List Value) (h : zH), rn 68 63 [l0, l1, l2, l3, l4, l5] (.int y :: .int x :: S) h = rn 68 64 [l0, l1, l2, l3, l4, l5] (.int (x + y) :: S) h) ∧
  (∀ (l0 l1 l2 l3 l4 l5 : Value) (a : Nat) (v : Value) (S : List Value) (h : zH), rn 68 64 [l0, l1, l2, l3, l4, l5] (v :: .ref a :: S) h = zpf h a 7 2 v fun h => rn 68 67 [l0, l1, l2, l3, l4, l5] S h) ∧
  (∀ (l1 l2 l3 l4 l5 : Value) (x : Nat) (S : List Value) (h : zH), rn 68 67 [.ref x, l1, l2, l3, l4, l5] S h = rn 68 68 [.ref x, l1, l2, l3, l4, l5] (.ref x :: S) h) ∧
  (∀ (l0 l1 l2 l3 l4 l5 : Value) (v : Value) (S : List Value) (h : zH), rn 68 68 [l0, l1, l2, l3, l4, l5] (v :: S) h = c1 v (rn 68 69 [l0, l1, l2, l3, l4, l5] (v :: v :: S) h)) ∧
  (∀ (l0 l1 l2 l3 l4 l5 : Value) (a : Nat) (S : List Value) (h : zH), rn 68 69 [l0, l1, l2, l3, l4, l5] (.ref a :: S) h = zgf h a 7 3 fun v => rn 68 72 [l0, l1, l2, l3, l4, l5] (v :: S) h) ∧
  (∀ (l0 l1 l2 l3 l5 : Value) (x : Int64) (S : List Value) (h : zH), rn 68 72 [l0, l1, l2, l3, .long x, l5] S h = rn 68 74 [l0, l1, l2, l3, .long x, l5] (.long x :: S) h) ∧
  (∀ (l0 l1 l2 l3 l4 l5 : Value) (x : Int64) (y : Int64) (S : List Value) (h : zH), rn 68 74 [l0, l1, l2, l3, l4, l5] (.long y :: .long x :: S) h = rn 68 75 [l0, l1, l2, l3, l4, l5] (.long (x + y) :: S) h) ∧
  (∀ (l0 l1 l2 l3 l4 l5 : Value) (a : Nat) (v : Value) (S : List Value) (h : zH), rn 68 75 [l0, l1, l2, l3, l4, l5] (v :: .ref a :: S) h = zpf h a 7 3 v fun h => rn 68 78 [l0, l1, l2, l3, l4, l5] S h) ∧
  (∀ (l0 l1 l2 l3 l4 l5 : Value) (h : zH), rn 68 78 [l0, l1, l2, l3, l4, l5] [] h = some (none, h)) := ⟨fun _ _ _ _ _ _ _ _ => r_aload_nr (show zdec 68 0 = some (.aload_n 0, 1) by decide +kernel) rfl rfl,
  fun _ _ _ _ _ _ _ _ _ => r_getfield (show zdec 68 1 = some (.getfield 19, 3) by decide +kernel) (show zft.lookup (68 * zKEY + 19) = some (7, 2) by decide +kernel) rfl,
  fun _ _ _ _ _ _ _ _ => r_bipush (show zdec 68 4 = some (.bipush 54, 2) by decide +kernel) rfl rfl,
  fun _ _ _ _ _ _ _ _ _ _ => r_icmplt (show zdec 68 6 = some (.if_icmp .lt 4, 3) by decide +kernel) rfl rfl,
  fun _ _ _ _ _ _ _ => r_vret (show zdec 68 9 = some (.return_, 1) by decide +kernel) (by decide +kernel),
  fun _ _ _ _ _ _ _ _ => r_aload_nr (show zdec 68 10 = some (.aload_n 0, 1) by decide +kernel) rfl rfl,
  fun _ _ _ _ _ _ _ _ _ => r_getfield (show zdec 68 11 = some (.getfield 11, 3) by decide +kernel) (show zft.lookup (68 * zKEY + 11) = some (7, 0) by decide +kernel) rfl,
  fun _ _ _ _ _ _ _ _ => r_aload_nr (show zdec 68 14 = some (.aload_n 0, 1) by decide +kernel) rfl rfl,
  fun _ _ _ _ _ _ _ _ _ => r_getfield (show zdec 68 15 = some (.getfield 19, 3) by decide +kernel) (show zft.lookup (68 * zKEY + 19) = some (7, 2) by decide +kernel) rfl,
  fun _ _ _ _ _ _ _ _ => r_iload_n (show zdec 68 18 = some (.iload_n 1, 1) by decide +kernel) rfl rfl,
  fun _ _ _ _ _ _ _ _ _ _ _ => r_iast (show zdec 68 19 = some (.iastore, 1) by decide +kernel) rfl,
  fun _ _ _ _ _ _ _ _ => r_aload_nr (show zdec 68 20 = some (.aload_n 0, 1) by decide +kernel) rfl rfl,
  fun _ _ _ _ _ _ _ _ _ => r_getfield (show zdec 68 21 = some (.getfield 11, 3) by decide +kernel) (show zft.lookup (68 * zKEY + 11) = some (7, 0) by decide +kernel) rfl,
  fun _ _ _ _ _ _ _ _ => r_bipush (show zdec 68 24 = some (.bipush 54, 2) by decide +kernel) rfl rfl,
  fun _ _ _ _ _ _ _ _ => r_aload_nr (show zdec 68 26 = some (.aload_n 0, 1) by decide +kernel) rfl rfl,
  fun _ _ _ _ _ _ _ _ _ => r_getfield (show zdec 68 27 = some (.getfield 19, 3) by decide +kernel) (show zft.lookup (68 * zKEY + 19) = some (7, 2) by decide +kernel) rfl,
  fun _ _ _ _ _ _ _ _ _ _ => r_iadd (show zdec 68 30 = some (.iadd, 1) by decide +kernel) rfl,
  fun _ _ _ _ _ _ _ _ => r_iload_n (show zdec 68 31 = some (.iload_n 2, 1) by decide +kernel) rfl rfl,
  fun _ _ _ _ _ _ _ _ _ _ _ => r_iast (show zdec 68 32 = some (.iastore, 1) by decide +kernel) rfl,
  fun _ _ _ _ _ _ _ _ => r_aload_nr (show zdec 68 33 = some (.aload_n 0, 1) by decide +kernel) rfl rfl,
  fun _ _ _ _ _ _ _ _ _ => r_getfield (show zdec 68 34 = some (.getfield 11, 3) by decide +kernel) (show zft.lookup (68 * zKEY + 11) = some (7, 0) by decide +kernel) rfl,
  fun _ _ _ _ _ _ _ _ => r_bipush (show zdec 68 37 = some (.bipush 108, 2) by decide +kernel) rfl rfl,
  fun _ _ _ _ _ _ _ _ => r_aload_nr (show zdec 68 39 = some (.aload_n 0, 1) by decide +kernel) rfl rfl,
  fun _ _ _ _ _ _ _ _ _ => r_getfield (show zdec 68 40 = some (.getfield 19, 3) by decide +kernel) (show zft.lookup (68 * zKEY + 19) = some (7, 2) by decide +kernel) rfl,
  fun _ _ _ _ _ _ _ _ _ _ => r_iadd (show zdec 68 43 = some (.iadd, 1) by decide +kernel) rfl,
  fun _ _ _ _ _ _ _ _ => r_iload_n (show zdec 68 44 = some (.iload_n 3, 1) by decide +kernel) rfl rfl,
  fun _ _ _ _ _ _ _ _ _ _ _ => r_iast (show zdec 68 45 = some (.iastore, 1) by decide +kernel) rfl,
  fun _ _ _ _ _ _ _ _ => r_aload_nr (show zdec 68 46 = some (.aload_n 0, 1) by decide +kernel) rfl rfl,
  fun _ _ _ _ _ _ _ _ _ => r_getfield (show zdec 68 47 = some (.getfield 15, 3) by decide +kernel) (show zft.lookup (68 * zKEY + 15) = some (7, 1) by decide +kernel) rfl,
  fun _ _ _ _ _ _ _ _ => r_aload_nr (show zdec 68 50 = some (.aload_n 0, 1) by decide +kernel) rfl rfl,
  fun _ _ _ _ _ _ _ _ _ => r_getfield (show zdec 68 51 = some (.getfield 19, 3) by decide +kernel) (show zft.lookup (68 * zKEY + 19) = some (7, 2) by decide +kernel) rfl,
  fun _ _ _ _ _ _ _ _ => r_lload (show zdec 68 54 = some (.lload 4, 2) by decide +kernel) rfl rfl,
  fun _ _ _ _ _ _ _ _ _ _ _ => r_last (show zdec 68 56 = some (.lastore, 1) by decide +kernel) rfl,
  fun _ _ _ _ _ _ _ _ => r_aload_nr (show zdec 68 57 = some (.aload_n 0, 1) by decide +kernel) rfl rfl,
  fun _ _ _ _ _ _ _ _ _ => r_dup (show zdec 68 58 = some (.dup, 1) by decide +kernel) rfl,
  fun _ _ _ _ _ _ _ _ _ => r_getfield (show zdec 68 59 = some (.getfield 19, 3) by decide +kernel) (show zft.lookup (68 * zKEY + 19) = some (7, 2) by decide +kernel) rfl,
  fun _ _ _ _ _ _ _ _ => r_iconst (show zdec 68 62 = some (.iconst 1, 1) by decide +kernel) rfl rfl,
  fun _ _ _ _ _ _ _ _ _ _ => r_iadd (show zdec 68 63 = some (.iadd, 1) by decide +kernel) rfl,
  fun _ _ _ _ _ _ _ _ _ _ => r_putfield (show zdec 68 64 = some (.putfield 19, 3) by decide +kernel) (show zft.lookup (68 * zKEY + 19) = some (7, 2) by decide +kernel) (by decide +kernel) rfl,
  fun _ _ _ _ _ _ _ _ => r_aload_nr (show zdec 68 67 = some (.aload_n 0, 1) by decide +kernel) rfl rfl,
  fun _ _ _ _ _ _ _ _ _ => r_dup (show zdec 68 68 = some (.dup, 1) by decide +kernel) rfl,
  fun _ _ _ _ _ _ _ _ _ => r_getfield (show zdec 68 69 = some (.getfield 23, 3) by decide +kernel) (show zft.lookup (68 * zKEY + 23) = some (7, 3) by decide +kernel) rfl,
  fun _ _ _ _ _ _ _ _ => r_lload (show zdec 68 72 = some (.lload 4, 2) by decide +kernel) rfl rfl,
  fun _ _ _ _ _ _ _ _ _ _ => r_ladd (show zdec 68 74 = some (.ladd, 1) by decide +kernel) rfl,
  fun _ _ _ _ _ _ _ _ _ _ => r_putfield (show zdec 68 75 = some (.putfield 23, 3) by decide +kernel) (show zft.lookup (68 * zKEY + 23) = some (7, 3) by decide +kernel) (by decide +kernel) rfl,
  fun _ _ _ _ _ _ _ => r_vret (show zdec 68 78 = some (.return_, 1) by decide +kernel) (by decide +kernel)⟩
theorem ze_68 : ∀ (a0 : Nat) (a1 : Int32) (a2 : Int32) (a3 : Int32) (a4 : Int64) (h : zH), ev 68 [.ref a0, .int a1, .int a2, .int a3, .long a4] h = rn 68 0 [.ref a0, .int a1, .int a2, .int a3, .long a4, .float 0] [] h := fun _ _ _ _ _ _ => if_pos (Nat.le_of_ble_eq_true rfl)
-- PayrollRun/Closing.addCorrections(LPayrollRun/Worker;IZLPayrollRun/Slip;)V
theorem zr_69 : (∀ (l0 l1 l2 l3 l4 l5 l6 l7 l8 l9 : Value) (S : List Value) (h : zH), rn 69 0 [l0, l1, l2, l3, l4, l5, l6, l7, l8, l9] S h = ldA l1 (rn 69 1 [l0, l1, l2, l3, l4, l5, l6, l7, l8, l9] (l1 :: S) h)) ∧
  (∀ (l0 l1 l3 l4 l5 l6 l7 l8 l9 : Value) (x : Int32) (S : List Value) (h : zH), rn 69 1 [l0, l1, .int x, l3, l4, l5, l6, l7, l8, l9] S h = rn 69 2 [l0, l1, .int x, l3, l4, l5, l6, l7, l8, l9] (.int x :: S) h) ∧
  (∀ (l0 l1 l2 l4 l5 l6 l7 l8 l9 : Value) (x : Int32) (S : List Value) (h : zH), rn 69 2 [l0, l1, l2, .int x, l4, l5, l6, l7, l8, l9] S h = rn 69 3 [l0, l1, l2, .int x, l4, l5, l6, l7, l8, l9] (.int x :: S) h) ∧
  (∀ (l0 l1 l2 l3 l4 l5 l6 l7 l8 l9 : Value) (o : Nat) (v0 : Value) (v1 : Value) (S : List Value) (h : zH), rn 69 3 [l0, l1, l2, l3, l4, l5, l6, l7, l8, l9] (v1 :: v0 :: .ref o :: S) h = if zkd h o = 10 ∧ zsum S ≤ 8 then zcall (ev 70 [.ref o, v0, v1] h) (fun v h => rn 69 6 [l0, l1, l2, l3, l4, l5, l6, l7, l8, l9] (zpush v S) h) else none) ∧
  (∀ (l0 l1 l2 l3 l4 l5 l6 l7 l8 l9 : Value) (x : Int32) (S : List Value) (h : zH), rn 69 6 [l0, l1, l2, l3, l4, l5, l6, l7, l8, l9] (.int x :: S) h = nl l4 (rn 69 8 [l0, l1, l2, l3, l4, .int x, l6, l7, l8, l9] S h)) ∧
  (∀ (l0 l1 l2 l3 l4 l5 l6 l7 l8 l9 : Value) (S : List Value) (h : zH), rn 69 8 [l0, l1, l2, l3, l4, l5, l6, l7, l8, l9] S h = rn 69 9 [l0, l1, l2, l3, l4, l5, l6, l7, l8, l9] (.int (nI 0) :: S) h) ∧
  (∀ (l0 l1 l2 l3 l4 l5 l6 l7 l8 l9 : Value) (x : Int32) (S : List Value) (h : zH), rn 69 9 [l0, l1, l2, l3, l4, l5, l6, l7, l8, l9] (.int x :: S) h = nl l5 (rn 69 11 [l0, l1, l2, l3, l4, l5, .int x, l7, l8, l9] S h)) ∧
  (∀ (l0 l1 l2 l3 l4 l5 l6 l7 l8 l9 : Value) (S : List Value) (h : zH), rn 69 13 [l0, l1, l2, l3, l4, l5, l6, l7, l8, l9] S h = rn 69 14 [l0, l1, l2, l3, l4, l5, l6, l7, l8, l9] (.int (nI 3) :: S) h) ∧
  (∀ (l0 l1 l2 l3 l4 l5 l6 l7 l8 l9 : Value) (x : Int32) (y : Int32) (S : List Value) (h : zH), rn 69 14 [l0, l1, l2, l3, l4, l5, l6, l7, l8, l9] (.int y :: .int x :: S) h = if y < x then rn 69 73 [l0, l1, l2, l3, l4, l5, l6, l7, l8, l9] S h else rn 69 17 [l0, l1, l2, l3, l4, l5, l6, l7, l8, l9] S h) ∧
  (∀ (l0 l1 l2 l3 l4 l5 l7 l8 l9 : Value) (x : Int32) (S : List Value) (h : zH), rn 69 17 [l0, l1, l2, l3, l4, l5, .int x, l7, l8, l9] S h = rn 69 19 [l0, l1, l2, l3, l4, l5, .int x, l7, l8, l9] (.int x :: S) h) ∧
  (∀ (l0 l1 l2 l3 l4 l5 l6 l7 l8 l9 : Value) (S : List Value) (h : zH), rn 69 19 [l0, l1, l2, l3, l4, l5, l6, l7, l8, l9] S h = rn 69 21 [l0, l1, l2, l3, l4, l5, l6, l7, l8, l9] (.int (nI 12) :: S) h) ∧
  (∀ (l0 l1 l2 l3 l4 l5 l6 l7 l8 l9 : Value) (x : Int32) (y : Int32) (S : List Value) (h : zH), rn 69 21 [l0, l1, l2, l3, l4, l5, l6, l7, l8, l9] (.int y :: .int x :: S) h = rn 69 22 [l0, l1, l2, l3, l4, l5, l6, l7, l8, l9] (.int (x * y) :: S) h) ∧
  (∀ (l0 l1 l3 l4 l5 l6 l7 l8 l9 : Value) (x : Int32) (S : List Value) (h : zH), rn 69 22 [l0, l1, .int x, l3, l4, l5, l6, l7, l8, l9] S h = rn 69 23 [l0, l1, .int x, l3, l4, l5, l6, l7, l8, l9] (.int x :: S) h) ∧
  (∀ (l0 l1 l2 l3 l4 l5 l6 l7 l8 l9 : Value) (x : Int32) (y : Int32) (S : List Value) (h : zH), rn 69 23 [l0, l1, l2, l3, l4, l5, l6, l7, l8, l9] (.int y :: .int x :: S) h = rn 69 24 [l0, l1, l2, l3, l4, l5, l6, l7, l8, l9] (.int (x + y) :: S) h) ∧
  (∀ (l0 l1 l2 l3 l4 l5 l6 l7 l8 l9 : Value) (x : Int32) (S : List Value) (h : zH), rn 69 24 [l0, l1, l2, l3, l4, l5, l6, l7, l8, l9] (.int x :: S) h = nl l6 (rn 69 26 [l0, l1, l2, l3, l4, l5, l6, .int x, l8, l9] S h)) ∧
  (∀ (l1 l2 l3 l4 l5 l6 l7 l8 l9 : Value) (x : Nat) (S : List Value) (h : zH), rn 69 26 [.ref x, l1, l2, l3, l4, l5, l6, l7, l8, l9] S h = rn 69 27 [.ref x, l1, l2, l3, l4, l5, l6, l7, l8, l9] (.ref x :: S) h) ∧
  (∀ (l0 l1 l2 l3 l4 l5 l6 l7 l8 l9 : Value) (a : Nat) (S : List Value) (h : zH), rn 69 27 [l0, l1, l2, l3, l4, l5, l6, l7, l8, l9] (.ref a :: S) h = zgf h a 2 0 fun v => rn 69 30 [l0, l1, l2, l3, l4, l5, l6, l7, l8, l9] (v :: S) h) ∧
  (∀ (l0 l1 l2 l3 l4 l5 l6 l8 l9 : Value) (x : Int32) (S : List Value) (h : zH), rn 69 30 [l0, l1, l2, l3, l4, l5, l6, .int x, l8, l9] S h = rn 69 32 [l0, l1, l2, l3, l4, l5, l6, .int x, l8, l9] (.int x :: S) h) ∧
  (∀ (l0 l1 l2 l3 l4 l5 l6 l7 l8 l9 : Value) (a : Nat) (j : Int32) (S : List Value) (h : zH), rn 69 32 [l0, l1, l2, l3, l4, l5, l6, l7, l8, l9] (.int j :: .ref a :: S) h = zlj h a j fun x => rn 69 33 [l0, l1, l2, l3, l4, l5, l6, l7, l8, l9] (.long x :: S) h) ∧
  (∀ (l0 l1 l2 l3 l4 l5 l6 l7 l8 l9 : Value) (S : List Value) (h : zH), rn 69 33 [l0, l1, l2, l3, l4, l5, l6, l7, l8, l9] S h = ldA l1 (rn 69 34 [l0, l1, l2, l3, l4, l5, l6, l7, l8, l9] (l1 :: S) h)) ∧
  (∀ (l0 l1 l2 l3 l4 l5 l6 l7 l8 l9 : Value) (a : Nat) (S : List Value) (h : zH), rn 69 34 [l0, l1, l2, l3, l4, l5, l6, l7, l8, l9] (.ref a :: S) h = zgf h a 10 2 fun v => rn 69 37 [l0, l1, l2, l3, l4, l5, l6, l7, l8, l9] (v :: S) h) ∧
  (∀ (l0 l1 l2 l3 l4 l5 l6 l8 l9 : Value) (x : Int32) (S : List Value) (h : zH), rn 69 37 [l0, l1, l2, l3, l4, l5, l6, .int x, l8, l9] S h = rn 69 39 [l0, l1, l2, l3, l4, l5, l6, .int x, l8, l9] (.int x :: S) h) ∧
  (∀ (l0 l1 l2 l3 l4 l5 l6 l7 l8 l9 : Value) (a : Nat) (j : Int32) (S : List Value) (h : zH), rn 69 39 [l0, l1, l2, l3, l4, l5, l6, l7, l8, l9] (.int j :: .ref a :: S) h = zlj h a j fun x => rn 69 40 [l0, l1, l2, l3, l4, l5, l6, l7, l8, l9] (.long x :: S) h) ∧
  (∀ (l0 l1 l2 l3 l4 l5 l6 l7 l8 l9 : Value) (x : Int64) (y : Int64) (S : List Value) (h : zH), rn 69 40 [l0, l1, l2, l3, l4, l5, l6, l7, l8, l9] (.long y :: .long x :: S) h = rn 69 41 [l0, l1, l2, l3, l4, l5, l6, l7, l8, l9] (.long (x - y) :: S) h) ∧
  (∀ (l0 l1 l2 l3 l4 l5 l6 l7 l8 l9 : Value) (x : Int64) (S : List Value) (h : zH), rn 69 41 [l0, l1, l2, l3, l4, l5, l6, l7, l8, l9] (.long x :: S) h = nl l7 (rn 69 43 [l0, l1, l2, l3, l4, l5, l6, l7, .long x, .float 0] S h)) ∧
  (∀ (l0 l1 l2 l3 l4 l5 l6 l7 l9 : Value) (x : Int64) (S : List Value) (h : zH), rn 69 43 [l0, l1, l2, l3, l4, l5, l6, l7, .long x, l9] S h = rn 69 45 [l0, l1, l2, l3, l4, l5, l6, l7, .long x, l9] (.long x :: S) h) ∧
  (∀ (l0 l1 l2 l3 l4 l5 l6 l7 l8 l9 : Value) (S : List Value) (h : zH), rn 69 45 [l0, l1, l2, l3, l4, l5, l6, l7, l8, l9] S h = rn 69 46 [l0, l1, l2, l3, l4, l5, l6, l7, l8, l9] (.long 0 :: S) h) ∧
  (∀ (l0 l1 l2 l3 l4 l5 l6 l7 l8 l9 : Value) (x : Int64) (y : Int64) (S : List Value) (h : zH), rn 69 46 [l0, l1, l2, l3, l4, l5, l6, l7, l8, l9] (.long y :: .long x :: S) h = rn 69 47 [l0, l1, l2, l3, l4, l5, l6, l7, l8, l9] (.int (lg_cmp x y) :: S) h) ∧
  (∀ (l0 l1 l2 l3 l4 l5 l6 l7 l8 l9 : Value) (x : Int32) (S : List Value) (h : zH), rn 69 47 [l0, l1, l2, l3, l4, l5, l6, l7, l8, l9] (.int x :: S) h = if x = nI 0 then rn 69 67 [l0, l1, l2, l3, l4, l5, l6, l7, l8, l9] S h else rn 69 50 [l0, l1, l2, l3, l4, l5, l6, l7, l8, l9] S h) ∧
  (∀ (l0 l1 l2 l3 l4 l5 l6 l7 l8 l9 : Value) (S : List Value) (h : zH), rn 69 50 [l0, l1, l2, l3, l4, l5, l6, l7, l8, l9] S h = ldA l4 (rn 69 52 [l0, l1, l2, l3, l4, l5, l6, l7, l8, l9] (l4 :: S) h)) ∧
  (∀ (l0 l1 l2 l3 l4 l5 l7 l8 l9 : Value) (x : Int32) (S : List Value) (h : zH), rn 69 52 [l0, l1, l2, l3, l4, l5, .int x, l7, l8, l9] S h = rn 69 54 [l0, l1, l2, l3, l4, l5, .int x, l7, l8, l9] (.int x :: S) h) ∧
  (∀ (l0 l1 l3 l4 l5 l6 l7 l8 l9 : Value) (x : Int32) (S : List Value) (h : zH), rn 69 54 [l0, l1, .int x, l3, l4, l5, l6, l7, l8, l9] S h = rn 69 55 [l0, l1, .int x, l3, l4, l5, l6, l7, l8, l9] (.int x :: S) h) ∧
  (∀ (l0 l1 l2 l3 l4 l6 l7 l8 l9 : Value) (x : Int32) (S : List Value) (h : zH), rn 69 55 [l0, l1, l2, l3, l4, .int x, l6, l7, l8, l9] S h = rn 69 57 [l0, l1, l2, l3, l4, .int x, l6, l7, l8, l9] (.int x :: S) h) ∧
  (∀ (l0 l1 l2 l3 l4 l5 l7 l8 l9 : Value) (x : Int32) (S : List Value) (h : zH), rn 69 57 [l0, l1, l2, l3, l4, l5, .int x, l7, l8, l9] S h = rn 69 59 [l0, l1, l2, l3, l4, l5, .int x, l7, l8, l9] (.int x :: S) h) ∧
  (∀ (l0 l1 l2 l3 l4 l5 l6 l7 l9 : Value) (x : Int64) (S : List Value) (h : zH), rn 69 59 [l0, l1, l2, l3, l4, l5, l6, l7, .long x, l9] S h = rn 69 61 [l0, l1, l2, l3, l4, l5, l6, l7, .long x, l9] (.long x :: S) h) ∧
  (∀ (l0 l1 l2 l3 l4 l5 l6 l7 l8 l9 : Value) (v0 : Value) (v1 : Value) (S : List Value) (h : zH), rn 69 61 [l0, l1, l2, l3, l4, l5, l6, l7, l8, l9] (v1 :: v0 :: S) h = if zsum S ≤ 8 then zcall (ev 67 [v0, v1] h) (fun v h => rn 69 64 [l0, l1, l2, l3, l4, l5, l6, l7, l8, l9] (zpush v S) h) else none) ∧
  (∀ (l0 l1 l2 l3 l4 l5 l6 l7 l8 l9 : Value) (o : Nat) (v0 : Value) (v1 : Value) (v2 : Value) (v3 : Value) (S : List Value) (h : zH), rn 69 64 [l0, l1, l2, l3, l4, l5, l6, l7, l8, l9] (v3 :: v2 :: v1 :: v0 :: .ref o :: S) h = if zkd h o = 7 ∧ zsum S ≤ 8 then zcall (ev 68 [.ref o, v0, v1, v2, v3] h) (fun v h => rn 69 67 [l0, l1, l2, l3, l4, l5, l6, l7, l8, l9] (zpush v S) h) else none) ∧
  (∀ (l0 l1 l2 l3 l4 l5 l7 l8 l9 : Value) (x : Int32) (S : List Value) (h : zH), rn 69 67 [l0, l1, l2, l3, l4, l5, .int x, l7, l8, l9] S h = nl l5 (rn 69 70 [l0, l1, l2, l3, l4, l5, .int (x + (nI 1)), l7, l8, l9] S h)) ∧
  (∀ (l0 l1 l2 l3 l4 l5 l6 l7 l8 l9 : Value) (S : List Value) (h : zH), rn 69 70 [l0, l1, l2, l3, l4, l5, l6, l7, l8, l9] S h = rn 69 11 [l0, l1, l2, l3, l4, l5, l6, l7, l8, l9] S h) ∧
  (∀ (l0 l1 l2 l3 l4 l5 l6 l7 l8 l9 : Value) (h : zH), rn 69 73 [l0, l1, l2, l3, l4, l5, l6, l7, l8, l9] [] h = some (none, h)) := ⟨fun _ _ _ _ _ _ _ _ _ _ _ _ => r_aload_n (show zdec 69 0 = some (.aload_n 1, 1) by decide +kernel) rfl rfl,
  fun _ _ _ _ _ _ _ _ _ _ _ _ => r_iload_n (show zdec 69 1 = some (.iload_n 2, 1) by decide +kernel) rfl rfl,
  fun _ _ _ _ _ _ _ _ _ _ _ _ => r_iload_n (show zdec 69 2 = some (.iload_n 3, 1) by decide +kernel) rfl rfl,
  fun _ _ _ _ _ _ _ _ _ _ _ _ _ _ _ => r_cV [_, _] rfl (show zdec 69 3 = some (.invokevirtual 79, 3) by decide +kernel) (show zst.lookup (69 * zKEY + 79) = some (1, 70, 2, 10) by decide +kernel) (by decide) rfl,
  fun _ _ _ _ _ _ _ _ _ _ _ _ _ => r_istore (show zdec 69 6 = some (.istore 5, 2) by decide +kernel) rfl (Nat.le_of_ble_eq_true rfl) rfl rfl,
  fun _ _ _ _ _ _ _ _ _ _ _ _ => r_iconst (show zdec 69 8 = some (.iconst 0, 1) by decide +kernel) rfl rfl,
  fun _ _ _ _ _ _ _ _ _ _ _ _ _ => r_istore (show zdec 69 9 = some (.istore 6, 2) by decide +kernel) rfl (Nat.le_of_ble_eq_true rfl) rfl rfl,
  fun _ _ _ _ _ _ _ _ _ _ _ _ => r_iconst (show zdec 69 13 = some (.iconst 3, 1) by decide +kernel) rfl rfl,
  fun _ _ _ _ _ _ _ _ _ _ _ _ _ _ => r_icmpgt (show zdec 69 14 = some (.if_icmp .gt 59, 3) by decide +kernel) rfl rfl,
  fun _ _ _ _ _ _ _ _ _ _ _ _ => r_iload (show zdec 69 17 = some (.iload 6, 2) by decide +kernel) rfl rfl,
  fun _ _ _ _ _ _ _ _ _ _ _ _ => r_bipush (show zdec 69 19 = some (.bipush 12, 2) by decide +kernel) rfl rfl,
  fun _ _ _ _ _ _ _ _ _ _ _ _ _ _ => r_imul (show zdec 69 21 = some (.imul, 1) by decide +kernel) rfl,
  fun _ _ _ _ _ _ _ _ _ _ _ _ => r_iload_n (show zdec 69 22 = some (.iload_n 2, 1) by decide +kernel) rfl rfl,
  fun _ _ _ _ _ _ _ _ _ _ _ _ _ _ => r_iadd (show zdec 69 23 = some (.iadd, 1) by decide +kernel) rfl,
  fun _ _ _ _ _ _ _ _ _ _ _ _ _ => r_istore (show zdec 69 24 = some (.istore 7, 2) by decide +kernel) rfl (Nat.le_of_ble_eq_true rfl) rfl rfl,
  fun _ _ _ _ _ _ _ _ _ _ _ _ => r_aload_nr (show zdec 69 26 = some (.aload_n 0, 1) by decide +kernel) rfl rfl,
  fun _ _ _ _ _ _ _ _ _ _ _ _ _ => r_getfield (show zdec 69 27 = some (.getfield 9, 3) by decide +kernel) (show zft.lookup (69 * zKEY + 9) = some (2, 0) by decide +kernel) rfl,
  fun _ _ _ _ _ _ _ _ _ _ _ _ => r_iload (show zdec 69 30 = some (.iload 7, 2) by decide +kernel) rfl rfl,
  fun _ _ _ _ _ _ _ _ _ _ _ _ _ _ => r_lald (show zdec 69 32 = some (.laload, 1) by decide +kernel) rfl,
  fun _ _ _ _ _ _ _ _ _ _ _ _ => r_aload_n (show zdec 69 33 = some (.aload_n 1, 1) by decide +kernel) rfl rfl,
  fun _ _ _ _ _ _ _ _ _ _ _ _ _ => r_getfield (show zdec 69 34 = some (.getfield 83, 3) by decide +kernel) (show zft.lookup (69 * zKEY + 83) = some (10, 2) by decide +kernel) rfl,
  fun _ _ _ _ _ _ _ _ _ _ _ _ => r_iload (show zdec 69 37 = some (.iload 7, 2) by decide +kernel) rfl rfl,
  fun _ _ _ _ _ _ _ _ _ _ _ _ _ _ => r_lald (show zdec 69 39 = some (.laload, 1) by decide +kernel) rfl,
  fun _ _ _ _ _ _ _ _ _ _ _ _ _ _ => r_lsub (show zdec 69 40 = some (.lsub, 1) by decide +kernel) rfl,
  fun _ _ _ _ _ _ _ _ _ _ _ _ _ => r_lstore (show zdec 69 41 = some (.lstore 8, 2) by decide +kernel) rfl (Nat.le_of_ble_eq_true rfl) rfl rfl,
  fun _ _ _ _ _ _ _ _ _ _ _ _ => r_lload (show zdec 69 43 = some (.lload 8, 2) by decide +kernel) rfl rfl,
  fun _ _ _ _ _ _ _ _ _ _ _ _ => r_lconst (show zdec 69 45 = some (.lconst 0, 1) by decide +kernel) rfl rfl,
  fun _ _ _ _ _ _ _ _ _ _ _ _ _ _ => r_lcmp (show zdec 69 46 = some (.lcmp, 1) by decide +kernel) rfl,
  fun _ _ _ _ _ _ _ _ _ _ _ _ _ => r_ifeq (show zdec 69 47 = some (.ifCond .eq 20, 3) by decide +kernel) rfl rfl,
  fun _ _ _ _ _ _ _ _ _ _ _ _ => r_aload (show zdec 69 50 = some (.aload 4, 2) by decide +kernel) rfl rfl,
  fun _ _ _ _ _ _ _ _ _ _ _ _ => r_iload (show zdec 69 52 = some (.iload 6, 2) by decide +kernel) rfl rfl,
  fun _ _ _ _ _ _ _ _ _ _ _ _ => r_iload_n (show zdec 69 54 = some (.iload_n 2, 1) by decide +kernel) rfl rfl,
  fun _ _ _ _ _ _ _ _ _ _ _ _ => r_iload (show zdec 69 55 = some (.iload 5, 2) by decide +kernel) rfl rfl,
  fun _ _ _ _ _ _ _ _ _ _ _ _ => r_iload (show zdec 69 57 = some (.iload 6, 2) by decide +kernel) rfl rfl,
  fun _ _ _ _ _ _ _ _ _ _ _ _ => r_lload (show zdec 69 59 = some (.lload 8, 2) by decide +kernel) rfl rfl,
  fun _ _ _ _ _ _ _ _ _ _ _ _ _ _ => r_cS [_, _] rfl (show zdec 69 61 = some (.invokestatic 75, 3) by decide +kernel) (show zst.lookup (69 * zKEY + 75) = some (0, 67, 2, 0) by decide +kernel) (by decide) rfl,
  fun _ _ _ _ _ _ _ _ _ _ _ _ _ _ _ _ _ => r_cV [_, _, _, _] rfl (show zdec 69 64 = some (.invokevirtual 43, 3) by decide +kernel) (show zst.lookup (69 * zKEY + 43) = some (1, 68, 4, 7) by decide +kernel) (by decide) rfl,
  fun _ _ _ _ _ _ _ _ _ _ _ _ => r_iinc (show zdec 69 67 = some (.iinc 6 1, 3) by decide +kernel) rfl rfl rfl (Nat.le_of_ble_eq_true rfl) rfl rfl,
  fun _ _ _ _ _ _ _ _ _ _ _ _ => r_goto (show zdec 69 70 = some (.goto (-59), 3) by decide +kernel) rfl,
  fun _ _ _ _ _ _ _ _ _ _ _ => r_vret (show zdec 69 73 = some (.return_, 1) by decide +kernel) (by decide +kernel)⟩
theorem zl_69_11 : ∀ (l0 l1 l2 l3 l4 l5 l7 l8 l9 : Value) (x : Int32) (S : List Value) (h : zH), rn 69 11 [l0, l1, l2, l3, l4, l5, .int x, l7, l8, l9] S h = rn 69 13 [l0, l1, l2, l3, l4, l5, .int x, l7, l8, l9] (.int x :: S) h := fun _ _ _ _ _ _ _ _ _ _ _ _ => r_iload (show zdec 69 11 = some (.iload 6, 2) by decide +kernel) rfl rfl
theorem ze_69 : ∀ (a0 : Nat) (a1 : Nat) (a2 : Int32) (a3 : Int32) (a4 : Nat) (h : zH), ev 69 [.ref a0, .ref a1, .int a2, .int a3, .ref a4] h = rn 69 0 [.ref a0, .ref a1, .int a2, .int a3, .ref a4, .float 0, .float 0, .float 0, .float 0, .float 0] [] h := fun _ _ _ _ _ _ => if_pos (Nat.le_of_ble_eq_true rfl)
-- PayrollRun/Worker.reasonFor(IZ)I
theorem zr_70 : (∀ (l1 l2 l3 l4 : Value) (x : Nat) (S : List Value) (h : zH), rn 70 0 [.ref x, l1, l2, l3, l4] S h = rn 70 1 [.ref x, l1, l2, l3, l4] (.ref x :: S) h) ∧
  (∀ (l0 l1 l2 l3 l4 : Value) (a : Nat) (S : List Value) (h : zH), rn 70 1 [l0, l1, l2, l3, l4] (.ref a :: S) h = zgf h a 10 0 fun v => rn 70 4 [l0, l1, l2, l3, l4] (v :: S) h) ∧
  (∀ (l0 l1 l2 l3 l4 : Value) (S : List Value) (h : zH), rn 70 4 [l0, l1, l2, l3, l4] S h = rn 70 5 [l0, l1, l2, l3, l4] (.int (nI 0) :: S) h) ∧
  (∀ (l0 l2 l3 l4 : Value) (x : Int32) (S : List Value) (h : zH), rn 70 5 [l0, .int x, l2, l3, l4] S h = rn 70 6 [l0, .int x, l2, l3, l4] (.int x :: S) h) ∧
  (∀ (l0 l1 l2 l3 l4 : Value) (x : Int32) (y : Int32) (S : List Value) (h : zH), rn 70 6 [l0, l1, l2, l3, l4] (.int y :: .int x :: S) h = rn 70 7 [l0, l1, l2, l3, l4] (.int (x + y) :: S) h) ∧
  (∀ (l0 l1 l2 l3 l4 : Value) (a : Nat) (j : Int32) (S : List Value) (h : zH), rn 70 7 [l0, l1, l2, l3, l4] (.int j :: .ref a :: S) h = zli h a 0 j fun x => rn 70 8 [l0, l1, l2, l3, l4] (.int x :: S) h) ∧
  (∀ (l0 l1 l2 l3 l4 : Value) (x : Int32) (S : List Value) (h : zH), rn 70 8 [l0, l1, l2, l3, l4] (.int x :: S) h = nl l2 (rn 70 9 [l0, l1, l2, .int x, l4] S h)) ∧
  (∀ (l1 l2 l3 l4 : Value) (x : Nat) (S : List Value) (h : zH), rn 70 9 [.ref x, l1, l2, l3, l4] S h = rn 70 10 [.ref x, l1, l2, l3, l4] (.ref x :: S) h) ∧
  (∀ (l0 l1 l2 l3 l4 : Value) (a : Nat) (S : List Value) (h : zH), rn 70 10 [l0, l1, l2, l3, l4] (.ref a :: S) h = zgf h a 10 1 fun v => rn 70 13 [l0, l1, l2, l3, l4] (v :: S) h) ∧
  (∀ (l0 l1 l2 l3 l4 : Value) (S : List Value) (h : zH), rn 70 13 [l0, l1, l2, l3, l4] S h = rn 70 14 [l0, l1, l2, l3, l4] (.int (nI 0) :: S) h) ∧
  (∀ (l0 l2 l3 l4 : Value) (x : Int32) (S : List Value) (h : zH), rn 70 14 [l0, .int x, l2, l3, l4] S h = rn 70 15 [l0, .int x, l2, l3, l4] (.int x :: S) h) ∧
  (∀ (l0 l1 l2 l3 l4 : Value) (x : Int32) (y : Int32) (S : List Value) (h : zH), rn 70 15 [l0, l1, l2, l3, l4] (.int y :: .int x :: S) h = rn 70 16 [l0, l1, l2, l3, l4] (.int (x + y) :: S) h) ∧
  (∀ (l0 l1 l2 l3 l4 : Value) (a : Nat) (j : Int32) (S : List Value) (h : zH), rn 70 16 [l0, l1, l2, l3, l4] (.int j :: .ref a :: S) h = zli h a 0 j fun x => rn 70 17 [l0, l1, l2, l3, l4] (.int x :: S) h) ∧
  (∀ (l0 l1 l2 l3 l4 : Value) (x : Int32) (S : List Value) (h : zH), rn 70 17 [l0, l1, l2, l3, l4] (.int x :: S) h = nl l3 (rn 70 19 [l0, l1, l2, l3, .int x] S h)) ∧
  (∀ (l0 l1 l2 l4 : Value) (x : Int32) (S : List Value) (h : zH), rn 70 19 [l0, l1, l2, .int x, l4] S h = rn 70 20 [l0, l1, l2, .int x, l4] (.int x :: S) h) ∧
  (∀ (l0 l1 l2 l3 : Value) (x : Int32) (S : List Value) (h : zH), rn 70 20 [l0, l1, l2, l3, .int x] S h = rn 70 22 [l0, l1, l2, l3, .int x] (.int x :: S) h) ∧
  (∀ (l0 l1 l2 l3 l4 : Value) (x : Int32) (y : Int32) (S : List Value) (h : zH), rn 70 22 [l0, l1, l2, l3, l4] (.int y :: .int x :: S) h = if x = y then rn 70 37 [l0, l1, l2, l3, l4] S h else rn 70 25 [l0, l1, l2, l3, l4] S h) ∧
  (∀ (l0 l1 l2 l4 : Value) (x : Int32) (S : List Value) (h : zH), rn 70 25 [l0, l1, l2, .int x, l4] S h = rn 70 26 [l0, l1, l2, .int x, l4] (.int x :: S) h) ∧
  (∀ (l0 l1 l2 l3 : Value) (x : Int32) (S : List Value) (h : zH), rn 70 26 [l0, l1, l2, l3, .int x] S h = rn 70 28 [l0, l1, l2, l3, .int x] (.int x :: S) h) ∧
  (∀ (l0 l1 l2 l3 l4 : Value) (x : Int32) (y : Int32) (S : List Value) (h : zH), rn 70 28 [l0, l1, l2, l3, l4] (.int y :: .int x :: S) h = if x ≤ y then rn 70 35 [l0, l1, l2, l3, l4] S h else rn 70 31 [l0, l1, l2, l3, l4] S h) ∧
  (∀ (l0 l1 l2 l3 l4 : Value) (S : List Value) (h : zH), rn 70 31 [l0, l1, l2, l3, l4] S h = rn 70 32 [l0, l1, l2, l3, l4] (.int (nI 1) :: S) h) ∧
  (∀ (l0 l1 l2 l3 l4 : Value) (S : List Value) (h : zH), rn 70 32 [l0, l1, l2, l3, l4] S h = rn 70 36 [l0, l1, l2, l3, l4] S h) ∧
  (∀ (l0 l1 l2 l3 l4 : Value) (S : List Value) (h : zH), rn 70 35 [l0, l1, l2, l3, l4] S h = rn 70 36 [l0, l1, l2, l3, l4] (.int (nI 2) :: S) h) ∧
  (∀ (l0 l1 l2 l3 l4 : Value) (x : Int32) (h : zH), rn 70 36 [l0, l1, l2, l3, l4] [.int x] h = some (some (.int x), h)) ∧
  (∀ (l1 l2 l3 l4 : Value) (x : Nat) (S : List Value) (h : zH), rn 70 37 [.ref x, l1, l2, l3, l4] S h = rn 70 38 [.ref x, l1, l2, l3, l4] (.ref x :: S) h) ∧
  (∀ (l0 l1 l2 l3 l4 : Value) (a : Nat) (S : List Value) (h : zH), rn 70 38 [l0, l1, l2, l3, l4] (.ref a :: S) h = zgf h a 10 0 fun v => rn 70 41 [l0, l1, l2, l3, l4] (v :: S) h) ∧
  (∀ (l0 l1 l2 l3 l4 : Value) (S : List Value) (h : zH), rn 70 41 [l0, l1, l2, l3, l4] S h = rn 70 43 [l0, l1, l2, l3, l4] (.int (nI 12) :: S) h) ∧
  (∀ (l0 l2 l3 l4 : Value) (x : Int32) (S : List Value) (h : zH), rn 70 43 [l0, .int x, l2, l3, l4] S h = rn 70 44 [l0, .int x, l2, l3, l4] (.int x :: S) h) ∧
  (∀ (l0 l1 l2 l3 l4 : Value) (x : Int32) (y : Int32) (S : List Value) (h : zH), rn 70 44 [l0, l1, l2, l3, l4] (.int y :: .int x :: S) h = rn 70 45 [l0, l1, l2, l3, l4] (.int (x + y) :: S) h) ∧
  (∀ (l0 l1 l2 l3 l4 : Value) (a : Nat) (j : Int32) (S : List Value) (h : zH), rn 70 45 [l0, l1, l2, l3, l4] (.int j :: .ref a :: S) h = zli h a 0 j fun x => rn 70 46 [l0, l1, l2, l3, l4] (.int x :: S) h) ∧
  (∀ (l1 l2 l3 l4 : Value) (x : Nat) (S : List Value) (h : zH), rn 70 46 [.ref x, l1, l2, l3, l4] S h = rn 70 47 [.ref x, l1, l2, l3, l4] (.ref x :: S) h) ∧
  (∀ (l0 l1 l2 l3 l4 : Value) (a : Nat) (S : List Value) (h : zH), rn 70 47 [l0, l1, l2, l3, l4] (.ref a :: S) h = zgf h a 10 1 fun v => rn 70 50 [l0, l1, l2, l3, l4] (v :: S) h) ∧
  (∀ (l0 l1 l2 l3 l4 : Value) (S : List Value) (h : zH), rn 70 50 [l0, l1, l2, l3, l4] S h = rn 70 52 [l0, l1, l2, l3, l4] (.int (nI 12) :: S) h) ∧
  (∀ (l0 l2 l3 l4 : Value) (x : Int32) (S : List Value) (h : zH), rn 70 52 [l0, .int x, l2, l3, l4] S h = rn 70 53 [l0, .int x, l2, l3, l4] (.int x :: S) h) ∧
  (∀ (l0 l1 l2 l3 l4 : Value) (x : Int32) (y : Int32) (S : List Value) (h : zH), rn 70 53 [l0, l1, l2, l3, l4] (.int y :: .int x :: S) h = rn 70 54 [l0, l1, l2, l3, l4] (.int (x + y) :: S) h) ∧
  (∀ (l0 l1 l2 l3 l4 : Value) (a : Nat) (j : Int32) (S : List Value) (h : zH), rn 70 54 [l0, l1, l2, l3, l4] (.int j :: .ref a :: S) h = zli h a 0 j fun x => rn 70 55 [l0, l1, l2, l3, l4] (.int x :: S) h) ∧
  (∀ (l0 l1 l2 l3 l4 : Value) (x : Int32) (y : Int32) (S : List Value) (h : zH), rn 70 55 [l0, l1, l2, l3, l4] (.int y :: .int x :: S) h = if x = y then rn 70 60 [l0, l1, l2, l3, l4] S h else rn 70 58 [l0, l1, l2, l3, l4] S h) ∧
  (∀ (l0 l1 l2 l3 l4 : Value) (S : List Value) (h : zH), rn 70 58 [l0, l1, l2, l3, l4] S h = rn 70 59 [l0, l1, l2, l3, l4] (.int (nI 3) :: S) h) ∧
  (∀ (l0 l1 l2 l3 l4 : Value) (x : Int32) (h : zH), rn 70 59 [l0, l1, l2, l3, l4] [.int x] h = some (some (.int x), h)) ∧
  (∀ (l1 l2 l3 l4 : Value) (x : Nat) (S : List Value) (h : zH), rn 70 60 [.ref x, l1, l2, l3, l4] S h = rn 70 61 [.ref x, l1, l2, l3, l4] (.ref x :: S) h) ∧
  (∀ (l0 l1 l2 l3 l4 : Value) (a : Nat) (S : List Value) (h : zH), rn 70 61 [l0, l1, l2, l3, l4] (.ref a :: S) h = zgf h a 10 0 fun v => rn 70 64 [l0, l1, l2, l3, l4] (v :: S) h) ∧
  (∀ (l0 l1 l2 l3 l4 : Value) (S : List Value) (h : zH), rn 70 64 [l0, l1, l2, l3, l4] S h = rn 70 66 [l0, l1, l2, l3, l4] (.int (nI 24) :: S) h) ∧
  (∀ (l0 l2 l3 l4 : Value) (x : Int32) (S : List Value) (h : zH), rn 70 66 [l0, .int x, l2, l3, l4] S h = rn 70 67 [l0, .int x, l2, l3, l4] (.int x :: S) h) ∧
  (∀ (l0 l1 l2 l3 l4 : Value) (x : Int32) (y : Int32) (S : List Value) (h : zH), rn 70 67 [l0, l1, l2, l3, l4] (.int y :: .int x :: S) h = rn 70 68 [l0, l1, l2, l3, l4] (.int (x + y) :: S) h) ∧
  (∀ (l0 l1 l2 l3 l4 : Value) (a : Nat) (j : Int32) (S : List Value) (h : zH), rn 70 68 [l0, l1, l2, l3, l4] (.int j :: .ref a :: S) h = zli h a 0 j fun x => rn 70 69 [l0, l1, l2, l3, l4] (.int x :: S) h) ∧
  (∀ (l1 l2 l3 l4 : Value) (x : Nat) (S : List Value) (h : zH), rn 70 69 [.ref x, l1, l2, l3, l4] S h = rn 70 70 [.ref x, l1, l2, l3, l4] (.ref x :: S) h) ∧
  (∀ (l0 l1 l2 l3 l4 : Value) (a : Nat) (S : List Value) (h : zH), rn 70 70 [l0, l1, l2, l3, l4] (.ref a :: S) h = zgf h a 10 1 fun v => rn 70 73 [l0, l1, l2, l3, l4] (v :: S) h) ∧
  (∀ (l0 l1 l2 l3 l4 : Value) (S : List Value) (h : zH), rn 70 73 [l0, l1, l2, l3, l4] S h = rn 70 75 [l0, l1, l2, l3, l4] (.int (nI 24) :: S) h) ∧
  (∀ (l0 l2 l3 l4 : Value) (x : Int32) (S : List Value) (h : zH), rn 70 75 [l0, .int x, l2, l3, l4] S h = rn 70 76 [l0, .int x, l2, l3, l4] (.int x :: S) h) ∧
  (∀ (l0 l1 l2 l3 l4 : Value) (x : Int32) (y : Int32) (S : List Value) (h : zH), rn 70 76 [l0, l1, l2, l3, l4] (.int y :: .int x :: S) h = rn 70 77 [l0, l1, l2, l3, l4] (.int (x + y) :: S) h) ∧
  (∀ (l0 l1 l2 l3 l4 : Value) (a : Nat) (j : Int32) (S : List Value) (h : zH), rn 70 77 [l0, l1, l2, l3, l4] (.int j :: .ref a :: S) h = zli h a 0 j fun x => rn 70 78 [l0, l1, l2, l3, l4] (.int x :: S) h) ∧
  (∀ (l0 l1 l2 l3 l4 : Value) (x : Int32) (y : Int32) (S : List Value) (h : zH), rn 70 78 [l0, l1, l2, l3, l4] (.int y :: .int x :: S) h = if x = y then rn 70 83 [l0, l1, l2, l3, l4] S h else rn 70 81 [l0, l1, l2, l3, l4] S h) ∧
  (∀ (l0 l1 l2 l3 l4 : Value) (S : List Value) (h : zH), rn 70 81 [l0, l1, l2, l3, l4] S h = rn 70 82 [l0, l1, l2, l3, l4] (.int (nI 4) :: S) h) ∧
  (∀ (l0 l1 l2 l3 l4 : Value) (x : Int32) (h : zH), rn 70 82 [l0, l1, l2, l3, l4] [.int x] h = some (some (.int x), h)) ∧
  (∀ (l0 l1 l3 l4 : Value) (x : Int32) (S : List Value) (h : zH), rn 70 83 [l0, l1, .int x, l3, l4] S h = rn 70 84 [l0, l1, .int x, l3, l4] (.int x :: S) h) ∧
  (∀ (l0 l1 l2 l3 l4 : Value) (x : Int32) (S : List Value) (h : zH), rn 70 84 [l0, l1, l2, l3, l4] (.int x :: S) h = if x = nI 0 then rn 70 91 [l0, l1, l2, l3, l4] S h else rn 70 87 [l0, l1, l2, l3, l4] S h) ∧
  (∀ (l0 l1 l2 l3 l4 : Value) (S : List Value) (h : zH), rn 70 87 [l0, l1, l2, l3, l4] S h = rn 70 88 [l0, l1, l2, l3, l4] (.int (nI 5) :: S) h) ∧
  (∀ (l0 l1 l2 l3 l4 : Value) (S : List Value) (h : zH), rn 70 88 [l0, l1, l2, l3, l4] S h = rn 70 93 [l0, l1, l2, l3, l4] S h) ∧
  (∀ (l0 l1 l2 l3 l4 : Value) (S : List Value) (h : zH), rn 70 91 [l0, l1, l2, l3, l4] S h = rn 70 93 [l0, l1, l2, l3, l4] (.int (nI 6) :: S) h) ∧
  (∀ (l0 l1 l2 l3 l4 : Value) (x : Int32) (h : zH), rn 70 93 [l0, l1, l2, l3, l4] [.int x] h = some (some (.int x), h)) := ⟨fun _ _ _ _ _ _ _ => r_aload_nr (show zdec 70 0 = some (.aload_n 0, 1) by decide +kernel) rfl rfl,
  fun _ _ _ _ _ _ _ _ => r_getfield (show zdec 70 1 = some (.getfield 9, 3) by decide +kernel) (show zft.lookup (70 * zKEY + 9) = some (10, 0) by decide +kernel) rfl,
  fun _ _ _ _ _ _ _ => r_iconst (show zdec 70 4 = some (.iconst 0, 1) by decide +kernel) rfl rfl,
  fun _ _ _ _ _ _ _ => r_iload_n (show zdec 70 5 = some (.iload_n 1, 1) by decide +kernel) rfl rfl,
  fun _ _ _ _ _ _ _ _ _ => r_iadd (show zdec 70 6 = some (.iadd, 1) by decide +kernel) rfl,
  fun _ _ _ _ _ _ _ _ _ => r_iald (show zdec 70 7 = some (.iaload, 1) by decide +kernel) rfl,
  fun _ _ _ _ _ _ _ _ => r_istore_n (show zdec 70 8 = some (.istore_n 3, 1) by decide +kernel) rfl rfl (Nat.le_of_ble_eq_true rfl) rfl rfl,
  fun _ _ _ _ _ _ _ => r_aload_nr (show zdec 70 9 = some (.aload_n 0, 1) by decide +kernel) rfl rfl,
  fun _ _ _ _ _ _ _ _ => r_getfield (show zdec 70 10 = some (.getfield 15, 3) by decide +kernel) (show zft.lookup (70 * zKEY + 15) = some (10, 1) by decide +kernel) rfl,
  fun _ _ _ _ _ _ _ => r_iconst (show zdec 70 13 = some (.iconst 0, 1) by decide +kernel) rfl rfl,
  fun _ _ _ _ _ _ _ => r_iload_n (show zdec 70 14 = some (.iload_n 1, 1) by decide +kernel) rfl rfl,
  fun _ _ _ _ _ _ _ _ _ => r_iadd (show zdec 70 15 = some (.iadd, 1) by decide +kernel) rfl,
  fun _ _ _ _ _ _ _ _ _ => r_iald (show zdec 70 16 = some (.iaload, 1) by decide +kernel) rfl,
  fun _ _ _ _ _ _ _ _ => r_istore (show zdec 70 17 = some (.istore 4, 2) by decide +kernel) rfl (Nat.le_of_ble_eq_true rfl) rfl rfl,
  fun _ _ _ _ _ _ _ => r_iload_n (show zdec 70 19 = some (.iload_n 3, 1) by decide +kernel) rfl rfl,
  fun _ _ _ _ _ _ _ => r_iload (show zdec 70 20 = some (.iload 4, 2) by decide +kernel) rfl rfl,
  fun _ _ _ _ _ _ _ _ _ => r_icmpeq (show zdec 70 22 = some (.if_icmp .eq 15, 3) by decide +kernel) rfl rfl,
  fun _ _ _ _ _ _ _ => r_iload_n (show zdec 70 25 = some (.iload_n 3, 1) by decide +kernel) rfl rfl,
  fun _ _ _ _ _ _ _ => r_iload (show zdec 70 26 = some (.iload 4, 2) by decide +kernel) rfl rfl,
  fun _ _ _ _ _ _ _ _ _ => r_icmple (show zdec 70 28 = some (.if_icmp .le 7, 3) by decide +kernel) rfl rfl,
  fun _ _ _ _ _ _ _ => r_iconst (show zdec 70 31 = some (.iconst 1, 1) by decide +kernel) rfl rfl,
  fun _ _ _ _ _ _ _ => r_goto (show zdec 70 32 = some (.goto 4, 3) by decide +kernel) rfl,
  fun _ _ _ _ _ _ _ => r_iconst (show zdec 70 35 = some (.iconst 2, 1) by decide +kernel) rfl rfl,
  fun _ _ _ _ _ _ _ => r_ireti (show zdec 70 36 = some (.ireturn, 1) by decide +kernel) (by decide +kernel),
  fun _ _ _ _ _ _ _ => r_aload_nr (show zdec 70 37 = some (.aload_n 0, 1) by decide +kernel) rfl rfl,
  fun _ _ _ _ _ _ _ _ => r_getfield (show zdec 70 38 = some (.getfield 9, 3) by decide +kernel) (show zft.lookup (70 * zKEY + 9) = some (10, 0) by decide +kernel) rfl,
  fun _ _ _ _ _ _ _ => r_bipush (show zdec 70 41 = some (.bipush 12, 2) by decide +kernel) rfl rfl,
  fun _ _ _ _ _ _ _ => r_iload_n (show zdec 70 43 = some (.iload_n 1, 1) by decide +kernel) rfl rfl,
  fun _ _ _ _ _ _ _ _ _ => r_iadd (show zdec 70 44 = some (.iadd, 1) by decide +kernel) rfl,
  fun _ _ _ _ _ _ _ _ _ => r_iald (show zdec 70 45 = some (.iaload, 1) by decide +kernel) rfl,
  fun _ _ _ _ _ _ _ => r_aload_nr (show zdec 70 46 = some (.aload_n 0, 1) by decide +kernel) rfl rfl,
  fun _ _ _ _ _ _ _ _ => r_getfield (show zdec 70 47 = some (.getfield 15, 3) by decide +kernel) (show zft.lookup (70 * zKEY + 15) = some (10, 1) by decide +kernel) rfl,
  fun _ _ _ _ _ _ _ => r_bipush (show zdec 70 50 = some (.bipush 12, 2) by decide +kernel) rfl rfl,
  fun _ _ _ _ _ _ _ => r_iload_n (show zdec 70 52 = some (.iload_n 1, 1) by decide +kernel) rfl rfl,
  fun _ _ _ _ _ _ _ _ _ => r_iadd (show zdec 70 53 = some (.iadd, 1) by decide +kernel) rfl,
  fun _ _ _ _ _ _ _ _ _ => r_iald (show zdec 70 54 = some (.iaload, 1) by decide +kernel) rfl,
  fun _ _ _ _ _ _ _ _ _ => r_icmpeq (show zdec 70 55 = some (.if_icmp .eq 5, 3) by decide +kernel) rfl rfl,
  fun _ _ _ _ _ _ _ => r_iconst (show zdec 70 58 = some (.iconst 3, 1) by decide +kernel) rfl rfl,
  fun _ _ _ _ _ _ _ => r_ireti (show zdec 70 59 = some (.ireturn, 1) by decide +kernel) (by decide +kernel),
  fun _ _ _ _ _ _ _ => r_aload_nr (show zdec 70 60 = some (.aload_n 0, 1) by decide +kernel) rfl rfl,
  fun _ _ _ _ _ _ _ _ => r_getfield (show zdec 70 61 = some (.getfield 9, 3) by decide +kernel) (show zft.lookup (70 * zKEY + 9) = some (10, 0) by decide +kernel) rfl,
  fun _ _ _ _ _ _ _ => r_bipush (show zdec 70 64 = some (.bipush 24, 2) by decide +kernel) rfl rfl,
  fun _ _ _ _ _ _ _ => r_iload_n (show zdec 70 66 = some (.iload_n 1, 1) by decide +kernel) rfl rfl,
  fun _ _ _ _ _ _ _ _ _ => r_iadd (show zdec 70 67 = some (.iadd, 1) by decide +kernel) rfl,
  fun _ _ _ _ _ _ _ _ _ => r_iald (show zdec 70 68 = some (.iaload, 1) by decide +kernel) rfl,
  fun _ _ _ _ _ _ _ => r_aload_nr (show zdec 70 69 = some (.aload_n 0, 1) by decide +kernel) rfl rfl,
  fun _ _ _ _ _ _ _ _ => r_getfield (show zdec 70 70 = some (.getfield 15, 3) by decide +kernel) (show zft.lookup (70 * zKEY + 15) = some (10, 1) by decide +kernel) rfl,
  fun _ _ _ _ _ _ _ => r_bipush (show zdec 70 73 = some (.bipush 24, 2) by decide +kernel) rfl rfl,
  fun _ _ _ _ _ _ _ => r_iload_n (show zdec 70 75 = some (.iload_n 1, 1) by decide +kernel) rfl rfl,
  fun _ _ _ _ _ _ _ _ _ => r_iadd (show zdec 70 76 = some (.iadd, 1) by decide +kernel) rfl,
  fun _ _ _ _ _ _ _ _ _ => r_iald (show zdec 70 77 = some (.iaload, 1) by decide +kernel) rfl,
  fun _ _ _ _ _ _ _ _ _ => r_icmpeq (show zdec 70 78 = some (.if_icmp .eq 5, 3) by decide +kernel) rfl rfl,
  fun _ _ _ _ _ _ _ => r_iconst (show zdec 70 81 = some (.iconst 4, 1) by decide +kernel) rfl rfl,
  fun _ _ _ _ _ _ _ => r_ireti (show zdec 70 82 = some (.ireturn, 1) by decide +kernel) (by decide +kernel),
  fun _ _ _ _ _ _ _ => r_iload_n (show zdec 70 83 = some (.iload_n 2, 1) by decide +kernel) rfl rfl,
  fun _ _ _ _ _ _ _ _ => r_ifeq (show zdec 70 84 = some (.ifCond .eq 7, 3) by decide +kernel) rfl rfl,
  fun _ _ _ _ _ _ _ => r_iconst (show zdec 70 87 = some (.iconst 5, 1) by decide +kernel) rfl rfl,
  fun _ _ _ _ _ _ _ => r_goto (show zdec 70 88 = some (.goto 5, 3) by decide +kernel) rfl,
  fun _ _ _ _ _ _ _ => r_bipush (show zdec 70 91 = some (.bipush 6, 2) by decide +kernel) rfl rfl,
  fun _ _ _ _ _ _ _ => r_ireti (show zdec 70 93 = some (.ireturn, 1) by decide +kernel) (by decide +kernel)⟩
theorem ze_70 : ∀ (a0 : Nat) (a1 : Int32) (a2 : Int32) (h : zH), ev 70 [.ref a0, .int a1, .int a2] h = rn 70 0 [.ref a0, .int a1, .int a2, .float 0, .float 0] [] h := fun _ _ _ _ => if_pos (Nat.le_of_ble_eq_true rfl)
-- PayrollRun/Worker.settle(I[J)V
theorem zr_71 : (∀ (l0 l1 l2 l3 : Value) (S : List Value) (h : zH), rn 71 0 [l0, l1, l2, l3] S h = rn 71 1 [l0, l1, l2, l3] (.int (nI 0) :: S) h) ∧
  (∀ (l0 l1 l2 l3 : Value) (x : Int32) (S : List Value) (h : zH), rn 71 1 [l0, l1, l2, l3] (.int x :: S) h = nl l2 (rn 71 2 [l0, l1, l2, .int x] S h)) ∧
  (∀ (l0 l1 l2 l3 : Value) (S : List Value) (h : zH), rn 71 3 [l0, l1, l2, l3] S h = rn 71 4 [l0, l1, l2, l3] (.int (nI 5) :: S) h) ∧
  (∀ (l0 l1 l2 l3 : Value) (x : Int32) (y : Int32) (S : List Value) (h : zH), rn 71 4 [l0, l1, l2, l3] (.int y :: .int x :: S) h = if y ≤ x then rn 71 32 [l0, l1, l2, l3] S h else rn 71 7 [l0, l1, l2, l3] S h) ∧
  (∀ (l1 l2 l3 : Value) (x : Nat) (S : List Value) (h : zH), rn 71 7 [.ref x, l1, l2, l3] S h = rn 71 8 [.ref x, l1, l2, l3] (.ref x :: S) h) ∧
  (∀ (l0 l1 l2 l3 : Value) (a : Nat) (S : List Value) (h : zH), rn 71 8 [l0, l1, l2, l3] (.ref a :: S) h = zgf h a 10 2 fun v => rn 71 11 [l0, l1, l2, l3] (v :: S) h) ∧
  (∀ (l0 l1 l2 : Value) (x : Int32) (S : List Value) (h : zH), rn 71 11 [l0, l1, l2, .int x] S h = rn 71 12 [l0, l1, l2, .int x] (.int x :: S) h) ∧
  (∀ (l0 l1 l2 l3 : Value) (S : List Value) (h : zH), rn 71 12 [l0, l1, l2, l3] S h = rn 71 14 [l0, l1, l2, l3] (.int (nI 12) :: S) h) ∧
  (∀ (l0 l1 l2 l3 : Value) (x : Int32) (y : Int32) (S : List Value) (h : zH), rn 71 14 [l0, l1, l2, l3] (.int y :: .int x :: S) h = rn 71 15 [l0, l1, l2, l3] (.int (x * y) :: S) h) ∧
  (∀ (l0 l2 l3 : Value) (x : Int32) (S : List Value) (h : zH), rn 71 15 [l0, .int x, l2, l3] S h = rn 71 16 [l0, .int x, l2, l3] (.int x :: S) h) ∧
  (∀ (l0 l1 l2 l3 : Value) (x : Int32) (y : Int32) (S : List Value) (h : zH), rn 71 16 [l0, l1, l2, l3] (.int y :: .int x :: S) h = rn 71 17 [l0, l1, l2, l3] (.int (x + y) :: S) h) ∧
  (∀ (l0 l1 l2 l3 : Value) (S : List Value) (h : zH), rn 71 17 [l0, l1, l2, l3] S h = ldA l2 (rn 71 18 [l0, l1, l2, l3] (l2 :: S) h)) ∧
  (∀ (l0 l1 l2 : Value) (x : Int32) (S : List Value) (h : zH), rn 71 18 [l0, l1, l2, .int x] S h = rn 71 19 [l0, l1, l2, .int x] (.int x :: S) h) ∧
  (∀ (l0 l1 l2 l3 : Value) (S : List Value) (h : zH), rn 71 19 [l0, l1, l2, l3] S h = rn 71 21 [l0, l1, l2, l3] (.int (nI 12) :: S) h) ∧
  (∀ (l0 l1 l2 l3 : Value) (x : Int32) (y : Int32) (S : List Value) (h : zH), rn 71 21 [l0, l1, l2, l3] (.int y :: .int x :: S) h = rn 71 22 [l0, l1, l2, l3] (.int (x * y) :: S) h) ∧
  (∀ (l0 l2 l3 : Value) (x : Int32) (S : List Value) (h : zH), rn 71 22 [l0, .int x, l2, l3] S h = rn 71 23 [l0, .int x, l2, l3] (.int x :: S) h) ∧
  (∀ (l0 l1 l2 l3 : Value) (x : Int32) (y : Int32) (S : List Value) (h : zH), rn 71 23 [l0, l1, l2, l3] (.int y :: .int x :: S) h = rn 71 24 [l0, l1, l2, l3] (.int (x + y) :: S) h) ∧
  (∀ (l0 l1 l2 l3 : Value) (a : Nat) (j : Int32) (S : List Value) (h : zH), rn 71 24 [l0, l1, l2, l3] (.int j :: .ref a :: S) h = zlj h a j fun x => rn 71 25 [l0, l1, l2, l3] (.long x :: S) h) ∧
  (∀ (l0 l1 l2 l3 : Value) (a : Nat) (j : Int32) (x : Int64) (S : List Value) (h : zH), rn 71 25 [l0, l1, l2, l3] (.long x :: .int j :: .ref a :: S) h = zsj h a j x fun h => rn 71 26 [l0, l1, l2, l3] S h) ∧
  (∀ (l0 l1 l2 : Value) (x : Int32) (S : List Value) (h : zH), rn 71 26 [l0, l1, l2, .int x] S h = nl l2 (rn 71 29 [l0, l1, l2, .int (x + (nI 1))] S h)) ∧
  (∀ (l0 l1 l2 l3 : Value) (S : List Value) (h : zH), rn 71 29 [l0, l1, l2, l3] S h = rn 71 2 [l0, l1, l2, l3] S h) ∧
  (∀ (l0 l1 l2 l3 : Value) (S : List Value) (h : zH), rn 71 32 [l0, l1, l2, l3] S h = rn 71 33 [l0, l1, l2, l3] (.int (nI 0) :: S) h) ∧
  (∀ (l0 l1 l2 l3 : Value) (x : Int32) (S : List Value) (h : zH), rn 71 33 [l0, l1, l2, l3] (.int x :: S) h = nl l2 (rn 71 34 [l0, l1, l2, .int x] S h)) ∧
  (∀ (l0 l1 l2 l3 : Value) (S : List Value) (h : zH), rn 71 35 [l0, l1, l2, l3] S h = rn 71 36 [l0, l1, l2, l3] (.int (nI 3) :: S) h) ∧
  (∀ (l0 l1 l2 l3 : Value) (x : Int32) (y : Int32) (S : List Value) (h : zH), rn 71 36 [l0, l1, l2, l3] (.int y :: .int x :: S) h = if y ≤ x then rn 71 67 [l0, l1, l2, l3] S h else rn 71 39 [l0, l1, l2, l3] S h) ∧
  (∀ (l1 l2 l3 : Value) (x : Nat) (S : List Value) (h : zH), rn 71 39 [.ref x, l1, l2, l3] S h = rn 71 40 [.ref x, l1, l2, l3] (.ref x :: S) h) ∧
  (∀ (l0 l1 l2 l3 : Value) (a : Nat) (S : List Value) (h : zH), rn 71 40 [l0, l1, l2, l3] (.ref a :: S) h = zgf h a 10 1 fun v => rn 71 43 [l0, l1, l2, l3] (v :: S) h) ∧
  (∀ (l0 l1 l2 : Value) (x : Int32) (S : List Value) (h : zH), rn 71 43 [l0, l1, l2, .int x] S h = rn 71 44 [l0, l1, l2, .int x] (.int x :: S) h) ∧
  (∀ (l0 l1 l2 l3 : Value) (S : List Value) (h : zH), rn 71 44 [l0, l1, l2, l3] S h = rn 71 46 [l0, l1, l2, l3] (.int (nI 12) :: S) h) ∧
  (∀ (l0 l1 l2 l3 : Value) (x : Int32) (y : Int32) (S : List Value) (h : zH), rn 71 46 [l0, l1, l2, l3] (.int y :: .int x :: S) h = rn 71 47 [l0, l1, l2, l3] (.int (x * y) :: S) h) ∧
  (∀ (l0 l2 l3 : Value) (x : Int32) (S : List Value) (h : zH), rn 71 47 [l0, .int x, l2, l3] S h = rn 71 48 [l0, .int x, l2, l3] (.int x :: S) h) ∧
  (∀ (l0 l1 l2 l3 : Value) (x : Int32) (y : Int32) (S : List Value) (h : zH), rn 71 48 [l0, l1, l2, l3] (.int y :: .int x :: S) h = rn 71 49 [l0, l1, l2, l3] (.int (x + y) :: S) h) ∧
  (∀ (l1 l2 l3 : Value) (x : Nat) (S : List Value) (h : zH), rn 71 49 [.ref x, l1, l2, l3] S h = rn 71 50 [.ref x, l1, l2, l3] (.ref x :: S) h) ∧
  (∀ (l0 l1 l2 l3 : Value) (a : Nat) (S : List Value) (h : zH), rn 71 50 [l0, l1, l2, l3] (.ref a :: S) h = zgf h a 10 0 fun v => rn 71 53 [l0, l1, l2, l3] (v :: S) h) ∧
  (∀ (l0 l1 l2 : Value) (x : Int32) (S : List Value) (h : zH), rn 71 53 [l0, l1, l2, .int x] S h = rn 71 54 [l0, l1, l2, .int x] (.int x :: S) h) ∧
  (∀ (l0 l1 l2 l3 : Value) (S : List Value) (h : zH), rn 71 54 [l0, l1, l2, l3] S h = rn 71 56 [l0, l1, l2, l3] (.int (nI 12) :: S) h) ∧
  (∀ (l0 l1 l2 l3 : Value) (x : Int32) (y : Int32) (S : List Value) (h : zH), rn 71 56 [l0, l1, l2, l3] (.int y :: .int x :: S) h = rn 71 57 [l0, l1, l2, l3] (.int (x * y) :: S) h) ∧
  (∀ (l0 l2 l3 : Value) (x : Int32) (S : List Value) (h : zH), rn 71 57 [l0, .int x, l2, l3] S h = rn 71 58 [l0, .int x, l2, l3] (.int x :: S) h) ∧
  (∀ (l0 l1 l2 l3 : Value) (x : Int32) (y : Int32) (S : List Value) (h : zH), rn 71 58 [l0, l1, l2, l3] (.int y :: .int x :: S) h = rn 71 59 [l0, l1, l2, l3] (.int (x + y) :: S) h) ∧
  (∀ (l0 l1 l2 l3 : Value) (a : Nat) (j : Int32) (S : List Value) (h : zH), rn 71 59 [l0, l1, l2, l3] (.int j :: .ref a :: S) h = zli h a 0 j fun x => rn 71 60 [l0, l1, l2, l3] (.int x :: S) h) ∧
  (∀ (l0 l1 l2 l3 : Value) (a : Nat) (j : Int32) (x : Int32) (S : List Value) (h : zH), rn 71 60 [l0, l1, l2, l3] (.int x :: .int j :: .ref a :: S) h = zsi h a 0 j x fun h => rn 71 61 [l0, l1, l2, l3] S h) ∧
  (∀ (l0 l1 l2 : Value) (x : Int32) (S : List Value) (h : zH), rn 71 61 [l0, l1, l2, .int x] S h = nl l2 (rn 71 64 [l0, l1, l2, .int (x + (nI 1))] S h)) ∧
  (∀ (l0 l1 l2 l3 : Value) (S : List Value) (h : zH), rn 71 64 [l0, l1, l2, l3] S h = rn 71 34 [l0, l1, l2, l3] S h) ∧
  (∀ (l0 l1 l2 l3 : Value) (h : zH), rn 71 67 [l0, l1, l2, l3] [] h = some (none, h)) := ⟨fun _ _ _ _ _ _ => r_iconst (show zdec 71 0 = some (.iconst 0, 1) by decide +kernel) rfl rfl,
  fun _ _ _ _ _ _ _ => r_istore_n (show zdec 71 1 = some (.istore_n 3, 1) by decide +kernel) rfl rfl (Nat.le_of_ble_eq_true rfl) rfl rfl,
  fun _ _ _ _ _ _ => r_iconst (show zdec 71 3 = some (.iconst 5, 1) by decide +kernel) rfl rfl,
  fun _ _ _ _ _ _ _ _ => r_icmpge (show zdec 71 4 = some (.if_icmp .ge 28, 3) by decide +kernel) rfl rfl,
  fun _ _ _ _ _ _ => r_aload_nr (show zdec 71 7 = some (.aload_n 0, 1) by decide +kernel) rfl rfl,
  fun _ _ _ _ _ _ _ => r_getfield (show zdec 71 8 = some (.getfield 18, 3) by decide +kernel) (show zft.lookup (71 * zKEY + 18) = some (10, 2) by decide +kernel) rfl,
  fun _ _ _ _ _ _ => r_iload_n (show zdec 71 11 = some (.iload_n 3, 1) by decide +kernel) rfl rfl,
  fun _ _ _ _ _ _ => r_bipush (show zdec 71 12 = some (.bipush 12, 2) by decide +kernel) rfl rfl,
  fun _ _ _ _ _ _ _ _ => r_imul (show zdec 71 14 = some (.imul, 1) by decide +kernel) rfl,
  fun _ _ _ _ _ _ => r_iload_n (show zdec 71 15 = some (.iload_n 1, 1) by decide +kernel) rfl rfl,
  fun _ _ _ _ _ _ _ _ => r_iadd (show zdec 71 16 = some (.iadd, 1) by decide +kernel) rfl,
  fun _ _ _ _ _ _ => r_aload_n (show zdec 71 17 = some (.aload_n 2, 1) by decide +kernel) rfl rfl,
  fun _ _ _ _ _ _ => r_iload_n (show zdec 71 18 = some (.iload_n 3, 1) by decide +kernel) rfl rfl,
  fun _ _ _ _ _ _ => r_bipush (show zdec 71 19 = some (.bipush 12, 2) by decide +kernel) rfl rfl,
  fun _ _ _ _ _ _ _ _ => r_imul (show zdec 71 21 = some (.imul, 1) by decide +kernel) rfl,
  fun _ _ _ _ _ _ => r_iload_n (show zdec 71 22 = some (.iload_n 1, 1) by decide +kernel) rfl rfl,
  fun _ _ _ _ _ _ _ _ => r_iadd (show zdec 71 23 = some (.iadd, 1) by decide +kernel) rfl,
  fun _ _ _ _ _ _ _ _ => r_lald (show zdec 71 24 = some (.laload, 1) by decide +kernel) rfl,
  fun _ _ _ _ _ _ _ _ _ => r_last (show zdec 71 25 = some (.lastore, 1) by decide +kernel) rfl,
  fun _ _ _ _ _ _ => r_iinc (show zdec 71 26 = some (.iinc 3 1, 3) by decide +kernel) rfl rfl rfl (Nat.le_of_ble_eq_true rfl) rfl rfl,
  fun _ _ _ _ _ _ => r_goto (show zdec 71 29 = some (.goto (-27), 3) by decide +kernel) rfl,
  fun _ _ _ _ _ _ => r_iconst (show zdec 71 32 = some (.iconst 0, 1) by decide +kernel) rfl rfl,
  fun _ _ _ _ _ _ _ => r_istore_n (show zdec 71 33 = some (.istore_n 3, 1) by decide +kernel) rfl rfl (Nat.le_of_ble_eq_true rfl) rfl rfl,
  fun _ _ _ _ _ _ => r_iconst (show zdec 71 35 = some (.iconst 3, 1) by decide +kernel) rfl rfl,
  fun _ _ _ _ _ _ _ _ => r_icmpge (show zdec 71 36 = some (.if_icmp .ge 31, 3) by decide +kernel) rfl rfl,
  fun _ _ _ _ _ _ => r_aload_nr (show zdec 71 39 = some (.aload_n 0, 1) by decide +kernel) rfl rfl,
  fun _ _ _ _ _ _ _ => r_getfield (show zdec 71 40 = some (.getfield 15, 3) by decide +kernel) (show zft.lookup (71 * zKEY + 15) = some (10, 1) by decide +kernel) rfl,
  fun _ _ _ _ _ _ => r_iload_n (show zdec 71 43 = some (.iload_n 3, 1) by decide +kernel) rfl rfl,
  fun _ _ _ _ _ _ => r_bipush (show zdec 71 44 = some (.bipush 12, 2) by decide +kernel) rfl rfl,
  fun _ _ _ _ _ _ _ _ => r_imul (show zdec 71 46 = some (.imul, 1) by decide +kernel) rfl,
  fun _ _ _ _ _ _ => r_iload_n (show zdec 71 47 = some (.iload_n 1, 1) by decide +kernel) rfl rfl,
  fun _ _ _ _ _ _ _ _ => r_iadd (show zdec 71 48 = some (.iadd, 1) by decide +kernel) rfl,
  fun _ _ _ _ _ _ => r_aload_nr (show zdec 71 49 = some (.aload_n 0, 1) by decide +kernel) rfl rfl,
  fun _ _ _ _ _ _ _ => r_getfield (show zdec 71 50 = some (.getfield 9, 3) by decide +kernel) (show zft.lookup (71 * zKEY + 9) = some (10, 0) by decide +kernel) rfl,
  fun _ _ _ _ _ _ => r_iload_n (show zdec 71 53 = some (.iload_n 3, 1) by decide +kernel) rfl rfl,
  fun _ _ _ _ _ _ => r_bipush (show zdec 71 54 = some (.bipush 12, 2) by decide +kernel) rfl rfl,
  fun _ _ _ _ _ _ _ _ => r_imul (show zdec 71 56 = some (.imul, 1) by decide +kernel) rfl,
  fun _ _ _ _ _ _ => r_iload_n (show zdec 71 57 = some (.iload_n 1, 1) by decide +kernel) rfl rfl,
  fun _ _ _ _ _ _ _ _ => r_iadd (show zdec 71 58 = some (.iadd, 1) by decide +kernel) rfl,
  fun _ _ _ _ _ _ _ _ => r_iald (show zdec 71 59 = some (.iaload, 1) by decide +kernel) rfl,
  fun _ _ _ _ _ _ _ _ _ => r_iast (show zdec 71 60 = some (.iastore, 1) by decide +kernel) rfl,
  fun _ _ _ _ _ _ => r_iinc (show zdec 71 61 = some (.iinc 3 1, 3) by decide +kernel) rfl rfl rfl (Nat.le_of_ble_eq_true rfl) rfl rfl,
  fun _ _ _ _ _ _ => r_goto (show zdec 71 64 = some (.goto (-30), 3) by decide +kernel) rfl,
  fun _ _ _ _ _ => r_vret (show zdec 71 67 = some (.return_, 1) by decide +kernel) (by decide +kernel)⟩
theorem zl_71_2 : ∀ (l0 l1 l2 : Value) (x : Int32) (S : List Value) (h : zH), rn 71 2 [l0, l1, l2, .int x] S h = rn 71 3 [l0, l1, l2, .int x] (.int x :: S) h := fun _ _ _ _ _ _ => r_iload_n (show zdec 71 2 = some (.iload_n 3, 1) by decide +kernel) rfl rfl
theorem zl_71_34 : ∀ (l0 l1 l2 : Value) (x : Int32) (S : List Value) (h : zH), rn 71 34 [l0, l1, l2, .int x] S h = rn 71 35 [l0, l1, l2, .int x] (.int x :: S) h := fun _ _ _ _ _ _ => r_iload_n (show zdec 71 34 = some (.iload_n 3, 1) by decide +kernel) rfl rfl
theorem ze_71 : ∀ (a0 : Nat) (a1 : Int32) (a2 : Nat) (h : zH), ev 71 [.ref a0, .int a1, .ref a2] h = rn 71 0 [.ref a0, .int a1, .ref a2, .float 0] [] h := fun _ _ _ _ => if_pos (Nat.le_of_ble_eq_true rfl)
-- PayrollRun/Closing.addGarnishes(LPayrollRun/Garnishments;JLPayrollRun/Slip;)V
theorem zr_74 : (∀ (l0 l1 l3 l4 l5 l6 l7 l8 l9 l10 l11 l12 : Value) (x : Int64) (S : List Value) (h : zH), rn 74 0 [l0, l1, .long x, l3, l4, l5, l6, l7, l8, l9, l10, l11, l12] S h = rn 74 1 [l0, l1, .long x, l3, l4, l5, l6, l7, l8, l9, l10, l11, l12] (.long x :: S) h) ∧
  (∀ (l0 l1 l2 l3 l4 l5 l6 l7 l8 l9 l10 l11 l12 : Value) (x : Int64) (S : List Value) (h : zH), rn 74 1 [l0, l1, l2, l3, l4, l5, l6, l7, l8, l9, l10, l11, l12] (.long x :: S) h = nl l4 (rn 74 3 [l0, l1, l2, l3, l4, .long x, .float 0, l7, l8, l9, l10, l11, l12] S h)) ∧
  (∀ (l0 l1 l2 l3 l4 l5 l6 l7 l8 l9 l10 l11 l12 : Value) (S : List Value) (h : zH), rn 74 3 [l0, l1, l2, l3, l4, l5, l6, l7, l8, l9, l10, l11, l12] S h = rn 74 4 [l0, l1, l2, l3, l4, l5, l6, l7, l8, l9, l10, l11, l12] (.int (nI 0) :: S) h) ∧
  (∀ (l0 l1 l2 l3 l4 l5 l6 l7 l8 l9 l10 l11 l12 : Value) (x : Int32) (S : List Value) (h : zH), rn 74 4 [l0, l1, l2, l3, l4, l5, l6, l7, l8, l9, l10, l11, l12] (.int x :: S) h = nl l6 (rn 74 6 [l0, l1, l2, l3, l4, l5, l6, .int x, l8, l9, l10, l11, l12] S h)) ∧
  (∀ (l0 l1 l2 l3 l4 l5 l6 l7 l8 l9 l10 l11 l12 : Value) (S : List Value) (h : zH), rn 74 8 [l0, l1, l2, l3, l4, l5, l6, l7, l8, l9, l10, l11, l12] S h = ldA l1 (rn 74 9 [l0, l1, l2, l3, l4, l5, l6, l7, l8, l9, l10, l11, l12] (l1 :: S) h)) ∧
  (∀ (l0 l1 l2 l3 l4 l5 l6 l7 l8 l9 l10 l11 l12 : Value) (a : Nat) (S : List Value) (h : zH), rn 74 9 [l0, l1, l2, l3, l4, l5, l6, l7, l8, l9, l10, l11, l12] (.ref a :: S) h = zgf h a 4 4 fun v => rn 74 12 [l0, l1, l2, l3, l4, l5, l6, l7, l8, l9, l10, l11, l12] (v :: S) h) ∧
  (∀ (l0 l1 l2 l3 l4 l5 l6 l7 l8 l9 l10 l11 l12 : Value) (x : Int32) (y : Int32) (S : List Value) (h : zH), rn 74 12 [l0, l1, l2, l3, l4, l5, l6, l7, l8, l9, l10, l11, l12] (.int y :: .int x :: S) h = if y ≤ x then rn 74 105 [l0, l1, l2, l3, l4, l5, l6, l7, l8, l9, l10, l11, l12] S h else rn 74 15 [l0, l1, l2, l3, l4, l5, l6, l7, l8, l9, l10, l11, l12] S h) ∧
  (∀ (l0 l1 l2 l3 l4 l5 l6 l8 l9 l10 l11 l12 : Value) (x : Int32) (S : List Value) (h : zH), rn 74 15 [l0, l1, l2, l3, l4, l5, l6, .int x, l8, l9, l10, l11, l12] S h = rn 74 17 [l0, l1, l2, l3, l4, l5, l6, .int x, l8, l9, l10, l11, l12] (.int x :: S) h) ∧
  (∀ (l0 l1 l2 l3 l4 l5 l6 l7 l8 l9 l10 l11 l12 : Value) (S : List Value) (h : zH), rn 74 17 [l0, l1, l2, l3, l4, l5, l6, l7, l8, l9, l10, l11, l12] S h = rn 74 18 [l0, l1, l2, l3, l4, l5, l6, l7, l8, l9, l10, l11, l12] (.int (nI 3) :: S) h) ∧
  (∀ (l0 l1 l2 l3 l4 l5 l6 l7 l8 l9 l10 l11 l12 : Value) (x : Int32) (y : Int32) (S : List Value) (h : zH), rn 74 18 [l0, l1, l2, l3, l4, l5, l6, l7, l8, l9, l10, l11, l12] (.int y :: .int x :: S) h = if y ≤ x then rn 74 105 [l0, l1, l2, l3, l4, l5, l6, l7, l8, l9, l10, l11, l12] S h else rn 74 21 [l0, l1, l2, l3, l4, l5, l6, l7, l8, l9, l10, l11, l12] S h) ∧
  (∀ (l0 l1 l2 l3 l4 l5 l6 l7 l8 l9 l10 l11 l12 : Value) (S : List Value) (h : zH), rn 74 21 [l0, l1, l2, l3, l4, l5, l6, l7, l8, l9, l10, l11, l12] S h = ldA l1 (rn 74 22 [l0, l1, l2, l3, l4, l5, l6, l7, l8, l9, l10, l11, l12] (l1 :: S) h)) ∧
  (∀ (l0 l1 l2 l3 l4 l5 l6 l7 l8 l9 l10 l11 l12 : Value) (a : Nat) (S : List Value) (h : zH), rn 74 22 [l0, l1, l2, l3, l4, l5, l6, l7, l8, l9, l10, l11, l12] (.ref a :: S) h = zgf h a 4 3 fun v => rn 74 25 [l0, l1, l2, l3, l4, l5, l6, l7, l8, l9, l10, l11, l12] (v :: S) h) ∧
  (∀ (l0 l1 l2 l3 l4 l5 l6 l8 l9 l10 l11 l12 : Value) (x : Int32) (S : List Value) (h : zH), rn 74 25 [l0, l1, l2, l3, l4, l5, l6, .int x, l8, l9, l10, l11, l12] S h = rn 74 27 [l0, l1, l2, l3, l4, l5, l6, .int x, l8, l9, l10, l11, l12] (.int x :: S) h) ∧
  (∀ (l0 l1 l2 l3 l4 l5 l6 l7 l8 l9 l10 l11 l12 : Value) (a : Nat) (j : Int32) (S : List Value) (h : zH), rn 74 27 [l0, l1, l2, l3, l4, l5, l6, l7, l8, l9, l10, l11, l12] (.int j :: .ref a :: S) h = zlj h a j fun x => rn 74 28 [l0, l1, l2, l3, l4, l5, l6, l7, l8, l9, l10, l11, l12] (.long x :: S) h) ∧
  (∀ (l0 l1 l2 l3 l4 l5 l6 l7 l8 l9 l10 l11 l12 : Value) (S : List Value) (h : zH), rn 74 28 [l0, l1, l2, l3, l4, l5, l6, l7, l8, l9, l10, l11, l12] S h = rn 74 29 [l0, l1, l2, l3, l4, l5, l6, l7, l8, l9, l10, l11, l12] (.long 0 :: S) h) ∧
  (∀ (l0 l1 l2 l3 l4 l5 l6 l7 l8 l9 l10 l11 l12 : Value) (x : Int64) (y : Int64) (S : List Value) (h : zH), rn 74 29 [l0, l1, l2, l3, l4, l5, l6, l7, l8, l9, l10, l11, l12] (.long y :: .long x :: S) h = rn 74 30 [l0, l1, l2, l3, l4, l5, l6, l7, l8, l9, l10, l11, l12] (.int (lg_cmp x y) :: S) h) ∧
  (∀ (l0 l1 l2 l3 l4 l5 l6 l7 l8 l9 l10 l11 l12 : Value) (x : Int32) (S : List Value) (h : zH), rn 74 30 [l0, l1, l2, l3, l4, l5, l6, l7, l8, l9, l10, l11, l12] (.int x :: S) h = if x ≤ nI 0 then rn 74 99 [l0, l1, l2, l3, l4, l5, l6, l7, l8, l9, l10, l11, l12] S h else rn 74 33 [l0, l1, l2, l3, l4, l5, l6, l7, l8, l9, l10, l11, l12] S h) ∧
  (∀ (l0 l1 l2 l3 l4 l5 l6 l7 l8 l9 l10 l11 l12 : Value) (S : List Value) (h : zH), rn 74 33 [l0, l1, l2, l3, l4, l5, l6, l7, l8, l9, l10, l11, l12] S h = ldA l1 (rn 74 34 [l0, l1, l2, l3, l4, l5, l6, l7, l8, l9, l10, l11, l12] (l1 :: S) h)) ∧
  (∀ (l0 l1 l2 l3 l4 l5 l6 l8 l9 l10 l11 l12 : Value) (x : Int32) (S : List Value) (h : zH), rn 74 34 [l0, l1, l2, l3, l4, l5, l6, .int x, l8, l9, l10, l11, l12] S h = rn 74 36 [l0, l1, l2, l3, l4, l5, l6, .int x, l8, l9, l10, l11, l12] (.int x :: S) h) ∧
  (∀ (l0 l1 l3 l4 l5 l6 l7 l8 l9 l10 l11 l12 : Value) (x : Int64) (S : List Value) (h : zH), rn 74 36 [l0, l1, .long x, l3, l4, l5, l6, l7, l8, l9, l10, l11, l12] S h = rn 74 37 [l0, l1, .long x, l3, l4, l5, l6, l7, l8, l9, l10, l11, l12] (.long x :: S) h) ∧
  (∀ (l0 l1 l2 l3 l4 l5 l6 l7 l8 l9 l10 l11 l12 : Value) (o : Nat) (v0 : Value) (v1 : Value) (S : List Value) (h : zH), rn 74 37 [l0, l1, l2, l3, l4, l5, l6, l7, l8, l9, l10, l11, l12] (v1 :: v0 :: .ref o :: S) h = if zkd h o = 4 ∧ zsum S ≤ 8 then zcall (ev 75 [.ref o, v0, v1] h) (fun v h => rn 74 40 [l0, l1, l2, l3, l4, l5, l6, l7, l8, l9, l10, l11, l12] (zpush v S) h) else none) ∧
  (∀ (l0 l1 l2 l3 l4 l5 l6 l7 l8 l9 l10 l11 l12 : Value) (x : Int64) (S : List Value) (h : zH), rn 74 40 [l0, l1, l2, l3, l4, l5, l6, l7, l8, l9, l10, l11, l12] (.long x :: S) h = nl l7 (rn 74 42 [l0, l1, l2, l3, l4, l5, l6, l7, .long x, .float 0, l10, l11, l12] S h)) ∧
  (∀ (l0 l1 l2 l3 l4 l5 l6 l7 l9 l10 l11 l12 : Value) (x : Int64) (S : List Value) (h : zH), rn 74 42 [l0, l1, l2, l3, l4, l5, l6, l7, .long x, l9, l10, l11, l12] S h = rn 74 44 [l0, l1, l2, l3, l4, l5, l6, l7, .long x, l9, l10, l11, l12] (.long x :: S) h) ∧
  (∀ (l0 l1 l2 l3 l4 l6 l7 l8 l9 l10 l11 l12 : Value) (x : Int64) (S : List Value) (h : zH), rn 74 44 [l0, l1, l2, l3, l4, .long x, l6, l7, l8, l9, l10, l11, l12] S h = rn 74 46 [l0, l1, l2, l3, l4, .long x, l6, l7, l8, l9, l10, l11, l12] (.long x :: S) h) ∧
  (∀ (l0 l1 l2 l3 l4 l5 l6 l7 l8 l9 l10 l11 l12 : Value) (x : Int64) (y : Int64) (S : List Value) (h : zH), rn 74 46 [l0, l1, l2, l3, l4, l5, l6, l7, l8, l9, l10, l11, l12] (.long y :: .long x :: S) h = if zsum S ≤ 8 then rn 74 49 [l0, l1, l2, l3, l4, l5, l6, l7, l8, l9, l10, l11, l12] (.long (if y < x then y else x) :: S) h else none) ∧
  (∀ (l0 l1 l2 l3 l4 l5 l6 l7 l8 l9 l10 l11 l12 : Value) (x : Int64) (S : List Value) (h : zH), rn 74 49 [l0, l1, l2, l3, l4, l5, l6, l7, l8, l9, l10, l11, l12] (.long x :: S) h = nl l9 (rn 74 51 [l0, l1, l2, l3, l4, l5, l6, l7, l8, l9, .long x, .float 0, l12] S h)) ∧
  (∀ (l0 l1 l2 l3 l4 l6 l7 l8 l9 l10 l11 l12 : Value) (x : Int64) (S : List Value) (h : zH), rn 74 51 [l0, l1, l2, l3, l4, .long x, l6, l7, l8, l9, l10, l11, l12] S h = rn 74 53 [l0, l1, l2, l3, l4, .long x, l6, l7, l8, l9, l10, l11, l12] (.long x :: S) h) ∧
  (∀ (l0 l1 l2 l3 l4 l5 l6 l7 l8 l9 l11 l12 : Value) (x : Int64) (S : List Value) (h : zH), rn 74 53 [l0, l1, l2, l3, l4, l5, l6, l7, l8, l9, .long x, l11, l12] S h = rn 74 55 [l0, l1, l2, l3, l4, l5, l6, l7, l8, l9, .long x, l11, l12] (.long x :: S) h) ∧
  (∀ (l0 l1 l2 l3 l4 l5 l6 l7 l8 l9 l10 l11 l12 : Value) (x : Int64) (y : Int64) (S : List Value) (h : zH), rn 74 55 [l0, l1, l2, l3, l4, l5, l6, l7, l8, l9, l10, l11, l12] (.long y :: .long x :: S) h = rn 74 56 [l0, l1, l2, l3, l4, l5, l6, l7, l8, l9, l10, l11, l12] (.long (x - y) :: S) h) ∧
  (∀ (l0 l1 l2 l3 l4 l5 l6 l7 l8 l9 l10 l11 l12 : Value) (x : Int64) (S : List Value) (h : zH), rn 74 56 [l0, l1, l2, l3, l4, l5, l6, l7, l8, l9, l10, l11, l12] (.long x :: S) h = nl l4 (rn 74 58 [l0, l1, l2, l3, l4, .long x, .float 0, l7, l8, l9, l10, l11, l12] S h)) ∧
  (∀ (l0 l1 l2 l3 l4 l5 l6 l7 l8 l9 l10 l11 l12 : Value) (S : List Value) (h : zH), rn 74 58 [l0, l1, l2, l3, l4, l5, l6, l7, l8, l9, l10, l11, l12] S h = ldA l1 (rn 74 59 [l0, l1, l2, l3, l4, l5, l6, l7, l8, l9, l10, l11, l12] (l1 :: S) h)) ∧
  (∀ (l0 l1 l2 l3 l4 l5 l6 l7 l8 l9 l10 l11 l12 : Value) (a : Nat) (S : List Value) (h : zH), rn 74 59 [l0, l1, l2, l3, l4, l5, l6, l7, l8, l9, l10, l11, l12] (.ref a :: S) h = zgf h a 4 3 fun v => rn 74 62 [l0, l1, l2, l3, l4, l5, l6, l7, l8, l9, l10, l11, l12] (v :: S) h) ∧
  (∀ (l0 l1 l2 l3 l4 l5 l6 l8 l9 l10 l11 l12 : Value) (x : Int32) (S : List Value) (h : zH), rn 74 62 [l0, l1, l2, l3, l4, l5, l6, .int x, l8, l9, l10, l11, l12] S h = rn 74 64 [l0, l1, l2, l3, l4, l5, l6, .int x, l8, l9, l10, l11, l12] (.int x :: S) h) ∧
  (∀ (l0 l1 l2 l3 l4 l5 l6 l7 l8 l9 l10 l11 l12 : Value) (v : Value) (w : Value) (S : List Value) (h : zH), rn 74 64 [l0, l1, l2, l3, l4, l5, l6, l7, l8, l9, l10, l11, l12] (v :: w :: S) h = c1 v (c1 w (rn 74 65 [l0, l1, l2, l3, l4, l5, l6, l7, l8, l9, l10, l11, l12] (v :: w :: v :: w :: S) h))) ∧
  (∀ (l0 l1 l2 l3 l4 l5 l6 l7 l8 l9 l10 l11 l12 : Value) (a : Nat) (j : Int32) (S : List Value) (h : zH), rn 74 65 [l0, l1, l2, l3, l4, l5, l6, l7, l8, l9, l10, l11, l12] (.int j :: .ref a :: S) h = zlj h a j fun x => rn 74 66 [l0, l1, l2, l3, l4, l5, l6, l7, l8, l9, l10, l11, l12] (.long x :: S) h) ∧
  (∀ (l0 l1 l2 l3 l4 l5 l6 l7 l8 l9 l11 l12 : Value) (x : Int64) (S : List Value) (h : zH), rn 74 66 [l0, l1, l2, l3, l4, l5, l6, l7, l8, l9, .long x, l11, l12] S h = rn 74 68 [l0, l1, l2, l3, l4, l5, l6, l7, l8, l9, .long x, l11, l12] (.long x :: S) h) ∧
  (∀ (l0 l1 l2 l3 l4 l5 l6 l7 l8 l9 l10 l11 l12 : Value) (x : Int64) (y : Int64) (S : List Value) (h : zH), rn 74 68 [l0, l1, l2, l3, l4, l5, l6, l7, l8, l9, l10, l11, l12] (.long y :: .long x :: S) h = rn 74 69 [l0, l1, l2, l3, l4, l5, l6, l7, l8, l9, l10, l11, l12] (.long (x - y) :: S) h) ∧
  (∀ (l0 l1 l2 l3 l4 l5 l6 l7 l8 l9 l10 l11 l12 : Value) (a : Nat) (j : Int32) (x : Int64) (S : List Value) (h : zH), rn 74 69 [l0, l1, l2, l3, l4, l5, l6, l7, l8, l9, l10, l11, l12] (.long x :: .int j :: .ref a :: S) h = zsj h a j x fun h => rn 74 70 [l0, l1, l2, l3, l4, l5, l6, l7, l8, l9, l10, l11, l12] S h) ∧
  (∀ (l0 l1 l2 l3 l4 l5 l6 l7 l8 l9 l10 l11 l12 : Value) (S : List Value) (h : zH), rn 74 70 [l0, l1, l2, l3, l4, l5, l6, l7, l8, l9, l10, l11, l12] S h = ldA l1 (rn 74 71 [l0, l1, l2, l3, l4, l5, l6, l7, l8, l9, l10, l11, l12] (l1 :: S) h)) ∧
  (∀ (l0 l1 l2 l3 l4 l5 l6 l7 l8 l9 l10 l11 l12 : Value) (a : Nat) (S : List Value) (h : zH), rn 74 71 [l0, l1, l2, l3, l4, l5, l6, l7, l8, l9, l10, l11, l12] (.ref a :: S) h = zgf h a 4 3 fun v => rn 74 74 [l0, l1, l2, l3, l4, l5, l6, l7, l8, l9, l10, l11, l12] (v :: S) h) ∧
  (∀ (l0 l1 l2 l3 l4 l5 l6 l8 l9 l10 l11 l12 : Value) (x : Int32) (S : List Value) (h : zH), rn 74 74 [l0, l1, l2, l3, l4, l5, l6, .int x, l8, l9, l10, l11, l12] S h = rn 74 76 [l0, l1, l2, l3, l4, l5, l6, .int x, l8, l9, l10, l11, l12] (.int x :: S) h) ∧
  (∀ (l0 l1 l2 l3 l4 l5 l6 l7 l8 l9 l10 l11 l12 : Value) (a : Nat) (j : Int32) (S : List Value) (h : zH), rn 74 76 [l0, l1, l2, l3, l4, l5, l6, l7, l8, l9, l10, l11, l12] (.int j :: .ref a :: S) h = zlj h a j fun x => rn 74 77 [l0, l1, l2, l3, l4, l5, l6, l7, l8, l9, l10, l11, l12] (.long x :: S) h) ∧
  (∀ (l0 l1 l2 l3 l4 l5 l6 l7 l9 l10 l11 l12 : Value) (x : Int64) (S : List Value) (h : zH), rn 74 77 [l0, l1, l2, l3, l4, l5, l6, l7, .long x, l9, l10, l11, l12] S h = rn 74 79 [l0, l1, l2, l3, l4, l5, l6, l7, .long x, l9, l10, l11, l12] (.long x :: S) h) ∧
  (∀ (l0 l1 l2 l3 l4 l5 l6 l7 l8 l9 l11 l12 : Value) (x : Int64) (S : List Value) (h : zH), rn 74 79 [l0, l1, l2, l3, l4, l5, l6, l7, l8, l9, .long x, l11, l12] S h = rn 74 81 [l0, l1, l2, l3, l4, l5, l6, l7, l8, l9, .long x, l11, l12] (.long x :: S) h) ∧
  (∀ (l0 l1 l2 l3 l4 l5 l6 l7 l8 l9 l10 l11 l12 : Value) (v0 : Value) (v1 : Value) (v2 : Value) (S : List Value) (h : zH), rn 74 81 [l0, l1, l2, l3, l4, l5, l6, l7, l8, l9, l10, l11, l12] (v2 :: v1 :: v0 :: S) h = if zsum S ≤ 8 then zcall (ev 76 [v0, v1, v2] h) (fun v h => rn 74 84 [l0, l1, l2, l3, l4, l5, l6, l7, l8, l9, l10, l11, l12] (zpush v S) h) else none) ∧
  (∀ (l0 l1 l2 l3 l4 l5 l6 l7 l8 l9 l10 l11 l12 : Value) (x : Int32) (S : List Value) (h : zH), rn 74 84 [l0, l1, l2, l3, l4, l5, l6, l7, l8, l9, l10, l11, l12] (.int x :: S) h = nl l11 (rn 74 86 [l0, l1, l2, l3, l4, l5, l6, l7, l8, l9, l10, l11, .int x] S h)) ∧
  (∀ (l0 l1 l2 l3 l4 l5 l6 l7 l8 l9 l10 l11 l12 : Value) (S : List Value) (h : zH), rn 74 86 [l0, l1, l2, l3, l4, l5, l6, l7, l8, l9, l10, l11, l12] S h = ldA l4 (rn 74 88 [l0, l1, l2, l3, l4, l5, l6, l7, l8, l9, l10, l11, l12] (l4 :: S) h)) ∧
  (∀ (l0 l1 l2 l3 l4 l5 l6 l7 l8 l9 l10 l11 l12 : Value) (S : List Value) (h : zH), rn 74 88 [l0, l1, l2, l3, l4, l5, l6, l7, l8, l9, l10, l11, l12] S h = rn 74 89 [l0, l1, l2, l3, l4, l5, l6, l7, l8, l9, l10, l11, l12] (.int (nI 5) :: S) h) ∧
  (∀ (l0 l1 l2 l3 l4 l5 l6 l8 l9 l10 l11 l12 : Value) (x : Int32) (S : List Value) (h : zH), rn 74 89 [l0, l1, l2, l3, l4, l5, l6, .int x, l8, l9, l10, l11, l12] S h = rn 74 91 [l0, l1, l2, l3, l4, l5, l6, .int x, l8, l9, l10, l11, l12] (.int x :: S) h) ∧
  (∀ (l0 l1 l2 l3 l4 l5 l6 l7 l8 l9 l10 l11 : Value) (x : Int32) (S : List Value) (h : zH), rn 74 91 [l0, l1, l2, l3, l4, l5, l6, l7, l8, l9, l10, l11, .int x] S h = rn 74 93 [l0, l1, l2, l3, l4, l5, l6, l7, l8, l9, l10, l11, .int x] (.int x :: S) h) ∧
  (∀ (l0 l1 l2 l3 l4 l5 l6 l7 l8 l9 l11 l12 : Value) (x : Int64) (S : List Value) (h : zH), rn 74 93 [l0, l1, l2, l3, l4, l5, l6, l7, l8, l9, .long x, l11, l12] S h = rn 74 95 [l0, l1, l2, l3, l4, l5, l6, l7, l8, l9, .long x, l11, l12] (.long x :: S) h) ∧
  (∀ (l0 l1 l2 l3 l4 l5 l6 l7 l8 l9 l10 l11 l12 : Value) (x : Int64) (S : List Value) (h : zH), rn 74 95 [l0, l1, l2, l3, l4, l5, l6, l7, l8, l9, l10, l11, l12] (.long x :: S) h = rn 74 96 [l0, l1, l2, l3, l4, l5, l6, l7, l8, l9, l10, l11, l12] (.long (-x) :: S) h) ∧
  (∀ (l0 l1 l2 l3 l4 l5 l6 l7 l8 l9 l10 l11 l12 : Value) (o : Nat) (v0 : Value) (v1 : Value) (v2 : Value) (v3 : Value) (S : List Value) (h : zH), rn 74 96 [l0, l1, l2, l3, l4, l5, l6, l7, l8, l9, l10, l11, l12] (v3 :: v2 :: v1 :: v0 :: .ref o :: S) h = if zkd h o = 7 ∧ zsum S ≤ 8 then zcall (ev 68 [.ref o, v0, v1, v2, v3] h) (fun v h => rn 74 99 [l0, l1, l2, l3, l4, l5, l6, l7, l8, l9, l10, l11, l12] (zpush v S) h) else none) ∧
  (∀ (l0 l1 l2 l3 l4 l5 l6 l8 l9 l10 l11 l12 : Value) (x : Int32) (S : List Value) (h : zH), rn 74 99 [l0, l1, l2, l3, l4, l5, l6, .int x, l8, l9, l10, l11, l12] S h = nl l6 (rn 74 102 [l0, l1, l2, l3, l4, l5, l6, .int (x + (nI 1)), l8, l9, l10, l11, l12] S h)) ∧
  (∀ (l0 l1 l2 l3 l4 l5 l6 l7 l8 l9 l10 l11 l12 : Value) (S : List Value) (h : zH), rn 74 102 [l0, l1, l2, l3, l4, l5, l6, l7, l8, l9, l10, l11, l12] S h = rn 74 6 [l0, l1, l2, l3, l4, l5, l6, l7, l8, l9, l10, l11, l12] S h) ∧
  (∀ (l0 l1 l2 l3 l4 l5 l6 l7 l8 l9 l10 l11 l12 : Value) (h : zH), rn 74 105 [l0, l1, l2, l3, l4, l5, l6, l7, l8, l9, l10, l11, l12] [] h = some (none, h)) := ⟨fun _ _ _ _ _ _ _ _ _ _ _ _ _ _ _ => r_lload_n (show zdec 74 0 = some (.lload_n 2, 1) by decide +kernel) rfl rfl,
  fun _ _ _ _ _ _ _ _ _ _ _ _ _ _ _ _ => r_lstore (show zdec 74 1 = some (.lstore 5, 2) by decide +kernel) rfl (Nat.le_of_ble_eq_true rfl) rfl rfl,
  fun _ _ _ _ _ _ _ _ _ _ _ _ _ _ _ => r_iconst (show zdec 74 3 = some (.iconst 0, 1) by decide +kernel) rfl rfl,
  fun _ _ _ _ _ _ _ _ _ _ _ _ _ _ _ _ => r_istore (show zdec 74 4 = some (.istore 7, 2) by decide +kernel) rfl (Nat.le_of_ble_eq_true rfl) rfl rfl,
  fun _ _ _ _ _ _ _ _ _ _ _ _ _ _ _ => r_aload_n (show zdec 74 8 = some (.aload_n 1, 1) by decide +kernel) rfl rfl,
  fun _ _ _ _ _ _ _ _ _ _ _ _ _ _ _ _ => r_getfield (show zdec 74 9 = some (.getfield 86, 3) by decide +kernel) (show zft.lookup (74 * zKEY + 86) = some (4, 4) by decide +kernel) rfl,
  fun _ _ _ _ _ _ _ _ _ _ _ _ _ _ _ _ _ => r_icmpge (show zdec 74 12 = some (.if_icmp .ge 93, 3) by decide +kernel) rfl rfl,
  fun _ _ _ _ _ _ _ _ _ _ _ _ _ _ _ => r_iload (show zdec 74 15 = some (.iload 7, 2) by decide +kernel) rfl rfl,
  fun _ _ _ _ _ _ _ _ _ _ _ _ _ _ _ => r_iconst (show zdec 74 17 = some (.iconst 3, 1) by decide +kernel) rfl rfl,
  fun _ _ _ _ _ _ _ _ _ _ _ _ _ _ _ _ _ => r_icmpge (show zdec 74 18 = some (.if_icmp .ge 87, 3) by decide +kernel) rfl rfl,
  fun _ _ _ _ _ _ _ _ _ _ _ _ _ _ _ => r_aload_n (show zdec 74 21 = some (.aload_n 1, 1) by decide +kernel) rfl rfl,
  fun _ _ _ _ _ _ _ _ _ _ _ _ _ _ _ _ => r_getfield (show zdec 74 22 = some (.getfield 91, 3) by decide +kernel) (show zft.lookup (74 * zKEY + 91) = some (4, 3) by decide +kernel) rfl,
  fun _ _ _ _ _ _ _ _ _ _ _ _ _ _ _ => r_iload (show zdec 74 25 = some (.iload 7, 2) by decide +kernel) rfl rfl,
  fun _ _ _ _ _ _ _ _ _ _ _ _ _ _ _ _ _ => r_lald (show zdec 74 27 = some (.laload, 1) by decide +kernel) rfl,
  fun _ _ _ _ _ _ _ _ _ _ _ _ _ _ _ => r_lconst (show zdec 74 28 = some (.lconst 0, 1) by decide +kernel) rfl rfl,
  fun _ _ _ _ _ _ _ _ _ _ _ _ _ _ _ _ _ => r_lcmp (show zdec 74 29 = some (.lcmp, 1) by decide +kernel) rfl,
  fun _ _ _ _ _ _ _ _ _ _ _ _ _ _ _ _ => r_ifle (show zdec 74 30 = some (.ifCond .le 69, 3) by decide +kernel) rfl rfl,
  fun _ _ _ _ _ _ _ _ _ _ _ _ _ _ _ => r_aload_n (show zdec 74 33 = some (.aload_n 1, 1) by decide +kernel) rfl rfl,
  fun _ _ _ _ _ _ _ _ _ _ _ _ _ _ _ => r_iload (show zdec 74 34 = some (.iload 7, 2) by decide +kernel) rfl rfl,
  fun _ _ _ _ _ _ _ _ _ _ _ _ _ _ _ => r_lload_n (show zdec 74 36 = some (.lload_n 2, 1) by decide +kernel) rfl rfl,
  fun _ _ _ _ _ _ _ _ _ _ _ _ _ _ _ _ _ _ => r_cV [_, _] rfl (show zdec 74 37 = some (.invokevirtual 94, 3) by decide +kernel) (show zst.lookup (74 * zKEY + 94) = some (1, 75, 2, 4) by decide +kernel) (by decide) rfl,
  fun _ _ _ _ _ _ _ _ _ _ _ _ _ _ _ _ => r_lstore (show zdec 74 40 = some (.lstore 8, 2) by decide +kernel) rfl (Nat.le_of_ble_eq_true rfl) rfl rfl,
  fun _ _ _ _ _ _ _ _ _ _ _ _ _ _ _ => r_lload (show zdec 74 42 = some (.lload 8, 2) by decide +kernel) rfl rfl,
  fun _ _ _ _ _ _ _ _ _ _ _ _ _ _ _ => r_lload (show zdec 74 44 = some (.lload 5, 2) by decide +kernel) rfl rfl,
  fun _ _ _ _ _ _ _ _ _ _ _ _ _ _ _ _ _ => r_cM3 (show zdec 74 46 = some (.invokestatic 58, 3) by decide +kernel) (show zst.lookup (74 * zKEY + 58) = some (9, 72, 2, 3) by decide +kernel) rfl,
  fun _ _ _ _ _ _ _ _ _ _ _ _ _ _ _ _ => r_lstore (show zdec 74 49 = some (.lstore 10, 2) by decide +kernel) rfl (Nat.le_of_ble_eq_true rfl) rfl rfl,
  fun _ _ _ _ _ _ _ _ _ _ _ _ _ _ _ => r_lload (show zdec 74 51 = some (.lload 5, 2) by decide +kernel) rfl rfl,
  fun _ _ _ _ _ _ _ _ _ _ _ _ _ _ _ => r_lload (show zdec 74 53 = some (.lload 10, 2) by decide +kernel) rfl rfl,
  fun _ _ _ _ _ _ _ _ _ _ _ _ _ _ _ _ _ => r_lsub (show zdec 74 55 = some (.lsub, 1) by decide +kernel) rfl,
  fun _ _ _ _ _ _ _ _ _ _ _ _ _ _ _ _ => r_lstore (show zdec 74 56 = some (.lstore 5, 2) by decide +kernel) rfl (Nat.le_of_ble_eq_true rfl) rfl rfl,
  fun _ _ _ _ _ _ _ _ _ _ _ _ _ _ _ => r_aload_n (show zdec 74 58 = some (.aload_n 1, 1) by decide +kernel) rfl rfl,
  fun _ _ _ _ _ _ _ _ _ _ _ _ _ _ _ _ => r_getfield (show zdec 74 59 = some (.getfield 91, 3) by decide +kernel) (show zft.lookup (74 * zKEY + 91) = some (4, 3) by decide +kernel) rfl,
  fun _ _ _ _ _ _ _ _ _ _ _ _ _ _ _ => r_iload (show zdec 74 62 = some (.iload 7, 2) by decide +kernel) rfl rfl,
  fun _ _ _ _ _ _ _ _ _ _ _ _ _ _ _ _ _ => r_dup2 (show zdec 74 64 = some (.dup2, 1) by decide +kernel) rfl,
  fun _ _ _ _ _ _ _ _ _ _ _ _ _ _ _ _ _ => r_lald (show zdec 74 65 = some (.laload, 1) by decide +kernel) rfl,
  fun _ _ _ _ _ _ _ _ _ _ _ _ _ _ _ => r_lload (show zdec 74 66 = some (.lload 10, 2) by decide +kernel) rfl rfl,
  fun _ _ _ _ _ _ _ _ _ _ _ _ _ _ _ _ _ => r_lsub (show zdec 74 68 = some (.lsub, 1) by decide +kernel) rfl,
  fun _ _ _ _ _ _ _ _ _ _ _ _ _ _ _ _ _ _ => r_last (show zdec 74 69 = some (.lastore, 1) by decide +kernel) rfl,
  fun _ _ _ _ _ _ _ _ _ _ _ _ _ _ _ => r_aload_n (show zdec 74 70 = some (.aload_n 1, 1) by decide +kernel) rfl rfl,
  fun _ _ _ _ _ _ _ _ _ _ _ _ _ _ _ _ => r_getfield (show zdec 74 71 = some (.getfield 91, 3) by decide +kernel) (show zft.lookup (74 * zKEY + 91) = some (4, 3) by decide +kernel) rfl,
  fun _ _ _ _ _ _ _ _ _ _ _ _ _ _ _ => r_iload (show zdec 74 74 = some (.iload 7, 2) by decide +kernel) rfl rfl,
  fun _ _ _ _ _ _ _ _ _ _ _ _ _ _ _ _ _ => r_lald (show zdec 74 76 = some (.laload, 1) by decide +kernel) rfl,
  fun _ _ _ _ _ _ _ _ _ _ _ _ _ _ _ => r_lload (show zdec 74 77 = some (.lload 8, 2) by decide +kernel) rfl rfl,
  fun _ _ _ _ _ _ _ _ _ _ _ _ _ _ _ => r_lload (show zdec 74 79 = some (.lload 10, 2) by decide +kernel) rfl rfl,
  fun _ _ _ _ _ _ _ _ _ _ _ _ _ _ _ _ _ _ => r_cS [_, _, _] rfl (show zdec 74 81 = some (.invokestatic 97, 3) by decide +kernel) (show zst.lookup (74 * zKEY + 97) = some (0, 76, 3, 0) by decide +kernel) (by decide) rfl,
  fun _ _ _ _ _ _ _ _ _ _ _ _ _ _ _ _ => r_istore (show zdec 74 84 = some (.istore 12, 2) by decide +kernel) rfl (Nat.le_of_ble_eq_true rfl) rfl rfl,
  fun _ _ _ _ _ _ _ _ _ _ _ _ _ _ _ => r_aload (show zdec 74 86 = some (.aload 4, 2) by decide +kernel) rfl rfl,
  fun _ _ _ _ _ _ _ _ _ _ _ _ _ _ _ => r_iconst (show zdec 74 88 = some (.iconst 5, 1) by decide +kernel) rfl rfl,
  fun _ _ _ _ _ _ _ _ _ _ _ _ _ _ _ => r_iload (show zdec 74 89 = some (.iload 7, 2) by decide +kernel) rfl rfl,
  fun _ _ _ _ _ _ _ _ _ _ _ _ _ _ _ => r_iload (show zdec 74 91 = some (.iload 12, 2) by decide +kernel) rfl rfl,
  fun _ _ _ _ _ _ _ _ _ _ _ _ _ _ _ => r_lload (show zdec 74 93 = some (.lload 10, 2) by decide +kernel) rfl rfl,
  fun _ _ _ _ _ _ _ _ _ _ _ _ _ _ _ _ => r_lneg (show zdec 74 95 = some (.lneg, 1) by decide +kernel) rfl,
  fun _ _ _ _ _ _ _ _ _ _ _ _ _ _ _ _ _ _ _ _ => r_cV [_, _, _, _] rfl (show zdec 74 96 = some (.invokevirtual 43, 3) by decide +kernel) (show zst.lookup (74 * zKEY + 43) = some (1, 68, 4, 7) by decide +kernel) (by decide) rfl,
  fun _ _ _ _ _ _ _ _ _ _ _ _ _ _ _ => r_iinc (show zdec 74 99 = some (.iinc 7 1, 3) by decide +kernel) rfl rfl rfl (Nat.le_of_ble_eq_true rfl) rfl rfl,
  fun _ _ _ _ _ _ _ _ _ _ _ _ _ _ _ => r_goto (show zdec 74 102 = some (.goto (-96), 3) by decide +kernel) rfl,
  fun _ _ _ _ _ _ _ _ _ _ _ _ _ _ => r_vret (show zdec 74 105 = some (.return_, 1) by decide +kernel) (by decide +kernel)⟩
theorem zl_74_6 : ∀ (l0 l1 l2 l3 l4 l5 l6 l8 l9 l10 l11 l12 : Value) (x : Int32) (S : List Value) (h : zH), rn 74 6 [l0, l1, l2, l3, l4, l5, l6, .int x, l8, l9, l10, l11, l12] S h = rn 74 8 [l0, l1, l2, l3, l4, l5, l6, .int x, l8, l9, l10, l11, l12] (.int x :: S) h := fun _ _ _ _ _ _ _ _ _ _ _ _ _ _ _ => r_iload (show zdec 74 6 = some (.iload 7, 2) by decide +kernel) rfl rfl
theorem ze_74 : ∀ (a0 : Nat) (a1 : Nat) (a2 : Int64) (a3 : Nat) (h : zH), ev 74 [.ref a0, .ref a1, .long a2, .ref a3] h = rn 74 0 [.ref a0, .ref a1, .long a2, .float 0, .ref a3, .float 0, .float 0, .float 0, .float 0, .float 0, .float 0, .float 0, .float 0] [] h := fun _ _ _ _ _ => if_pos (Nat.le_of_ble_eq_true rfl)
-- PayrollRun/Garnishments.wanted(IJ)J
theorem zr_75 : (∀ (l1 l2 l3 l4 l5 : Value) (x : Nat) (S : List Value) (h : zH), rn 75 0 [.ref x, l1, l2, l3, l4, l5] S h = rn 75 1 [.ref x, l1, l2, l3, l4, l5] (.ref x :: S) h) ∧
  (∀ (l0 l1 l2 l3 l4 l5 : Value) (a : Nat) (S : List Value) (h : zH), rn 75 1 [l0, l1, l2, l3, l4, l5] (.ref a :: S) h = zgf h a 4 0 fun v => rn 75 4 [l0, l1, l2, l3, l4, l5] (v :: S) h) ∧
  (∀ (l0 l2 l3 l4 l5 : Value) (x : Int32) (S : List Value) (h : zH), rn 75 4 [l0, .int x, l2, l3, l4, l5] S h = rn 75 5 [l0, .int x, l2, l3, l4, l5] (.int x :: S) h) ∧
  (∀ (l0 l1 l2 l3 l4 l5 : Value) (a : Nat) (j : Int32) (S : List Value) (h : zH), rn 75 5 [l0, l1, l2, l3, l4, l5] (.int j :: .ref a :: S) h = zli h a 0 j fun x => rn 75 6 [l0, l1, l2, l3, l4, l5] (.int x :: S) h) ∧
  (∀ (l0 l1 l2 l3 l4 l5 : Value) (x : Int32) (S : List Value) (h : zH), rn 75 6 [l0, l1, l2, l3, l4, l5] (.int x :: S) h = if x = nI 0 then rn 75 9 [l0, l1, l2, l3, l4, l5] S h else rn 75 23 [l0, l1, l2, l3, l4, l5] S h) ∧
  (∀ (l1 l2 l3 l4 l5 : Value) (x : Nat) (S : List Value) (h : zH), rn 75 9 [.ref x, l1, l2, l3, l4, l5] S h = rn 75 10 [.ref x, l1, l2, l3, l4, l5] (.ref x :: S) h) ∧
  (∀ (l0 l1 l2 l3 l4 l5 : Value) (a : Nat) (S : List Value) (h : zH), rn 75 10 [l0, l1, l2, l3, l4, l5] (.ref a :: S) h = zgf h a 4 1 fun v => rn 75 13 [l0, l1, l2, l3, l4, l5] (v :: S) h) ∧
  (∀ (l0 l2 l3 l4 l5 : Value) (x : Int32) (S : List Value) (h : zH), rn 75 13 [l0, .int x, l2, l3, l4, l5] S h = rn 75 14 [l0, .int x, l2, l3, l4, l5] (.int x :: S) h) ∧
  (∀ (l0 l1 l2 l3 l4 l5 : Value) (a : Nat) (j : Int32) (S : List Value) (h : zH), rn 75 14 [l0, l1, l2, l3, l4, l5] (.int j :: .ref a :: S) h = zli h a 0 j fun x => rn 75 15 [l0, l1, l2, l3, l4, l5] (.int x :: S) h) ∧
  (∀ (l0 l1 l2 l3 l4 l5 : Value) (x : Int32) (S : List Value) (h : zH), rn 75 15 [l0, l1, l2, l3, l4, l5] (.int x :: S) h = rn 75 16 [l0, l1, l2, l3, l4, l5] (.long x.toInt64 :: S) h) ∧
  (∀ (l0 l1 l2 l3 l4 l5 : Value) (S : List Value) (h : zH), rn 75 16 [l0, l1, l2, l3, l4, l5] S h = rn 75 19 [l0, l1, l2, l3, l4, l5] (.long (1000000) :: S) h) ∧
  (∀ (l0 l1 l2 l3 l4 l5 : Value) (x : Int64) (y : Int64) (S : List Value) (h : zH), rn 75 19 [l0, l1, l2, l3, l4, l5] (.long y :: .long x :: S) h = rn 75 20 [l0, l1, l2, l3, l4, l5] (.long (x * y) :: S) h) ∧
  (∀ (l0 l1 l2 l3 l4 l5 : Value) (S : List Value) (h : zH), rn 75 20 [l0, l1, l2, l3, l4, l5] S h = rn 75 36 [l0, l1, l2, l3, l4, l5] S h) ∧
  (∀ (l1 l2 l3 l4 l5 : Value) (x : Nat) (S : List Value) (h : zH), rn 75 23 [.ref x, l1, l2, l3, l4, l5] S h = rn 75 24 [.ref x, l1, l2, l3, l4, l5] (.ref x :: S) h) ∧
  (∀ (l0 l1 l2 l3 l4 l5 : Value) (a : Nat) (S : List Value) (h : zH), rn 75 24 [l0, l1, l2, l3, l4, l5] (.ref a :: S) h = zgf h a 4 1 fun v => rn 75 27 [l0, l1, l2, l3, l4, l5] (v :: S) h) ∧
  (∀ (l0 l2 l3 l4 l5 : Value) (x : Int32) (S : List Value) (h : zH), rn 75 27 [l0, .int x, l2, l3, l4, l5] S h = rn 75 28 [l0, .int x, l2, l3, l4, l5] (.int x :: S) h) ∧
  (∀ (l0 l1 l2 l3 l4 l5 : Value) (a : Nat) (j : Int32) (S : List Value) (h : zH), rn 75 28 [l0, l1, l2, l3, l4, l5] (.int j :: .ref a :: S) h = zli h a 0 j fun x => rn 75 29 [l0, l1, l2, l3, l4, l5] (.int x :: S) h) ∧
  (∀ (l0 l1 l2 l3 l4 l5 : Value) (x : Int32) (S : List Value) (h : zH), rn 75 29 [l0, l1, l2, l3, l4, l5] (.int x :: S) h = rn 75 30 [l0, l1, l2, l3, l4, l5] (.long x.toInt64 :: S) h) ∧
  (∀ (l0 l1 l3 l4 l5 : Value) (x : Int64) (S : List Value) (h : zH), rn 75 30 [l0, l1, .long x, l3, l4, l5] S h = rn 75 31 [l0, l1, .long x, l3, l4, l5] (.long x :: S) h) ∧
  (∀ (l0 l1 l2 l3 l4 l5 : Value) (x : Int64) (y : Int64) (S : List Value) (h : zH), rn 75 31 [l0, l1, l2, l3, l4, l5] (.long y :: .long x :: S) h = rn 75 32 [l0, l1, l2, l3, l4, l5] (.long (x * y) :: S) h) ∧
  (∀ (l0 l1 l2 l3 l4 l5 : Value) (S : List Value) (h : zH), rn 75 32 [l0, l1, l2, l3, l4, l5] S h = rn 75 35 [l0, l1, l2, l3, l4, l5] (.long (1000) :: S) h) ∧
  (∀ (l0 l1 l2 l3 l4 l5 : Value) (x : Int64) (y : Int64) (S : List Value) (h : zH), rn 75 35 [l0, l1, l2, l3, l4, l5] (.long y :: .long x :: S) h = dvJ y (rn 75 36 [l0, l1, l2, l3, l4, l5] (.long (x / y) :: S) h)) ∧
  (∀ (l0 l1 l2 l3 l4 l5 : Value) (x : Int64) (S : List Value) (h : zH), rn 75 36 [l0, l1, l2, l3, l4, l5] (.long x :: S) h = nl l3 (rn 75 38 [l0, l1, l2, l3, .long x, .float 0] S h)) ∧
  (∀ (l0 l1 l2 l3 l5 : Value) (x : Int64) (S : List Value) (h : zH), rn 75 38 [l0, l1, l2, l3, .long x, l5] S h = rn 75 40 [l0, l1, l2, l3, .long x, l5] (.long x :: S) h) ∧
  (∀ (l1 l2 l3 l4 l5 : Value) (x : Nat) (S : List Value) (h : zH), rn 75 40 [.ref x, l1, l2, l3, l4, l5] S h = rn 75 41 [.ref x, l1, l2, l3, l4, l5] (.ref x :: S) h) ∧
  (∀ (l0 l1 l2 l3 l4 l5 : Value) (a : Nat) (S : List Value) (h : zH), rn 75 41 [l0, l1, l2, l3, l4, l5] (.ref a :: S) h = zgf h a 4 3 fun v => rn 75 44 [l0, l1, l2, l3, l4, l5] (v :: S) h) ∧
  (∀ (l0 l2 l3 l4 l5 : Value) (x : Int32) (S : List Value) (h : zH), rn 75 44 [l0, .int x, l2, l3, l4, l5] S h = rn 75 45 [l0, .int x, l2, l3, l4, l5] (.int x :: S) h) ∧
  (∀ (l0 l1 l2 l3 l4 l5 : Value) (a : Nat) (j : Int32) (S : List Value) (h : zH), rn 75 45 [l0, l1, l2, l3, l4, l5] (.int j :: .ref a :: S) h = zlj h a j fun x => rn 75 46 [l0, l1, l2, l3, l4, l5] (.long x :: S) h) ∧
  (∀ (l0 l1 l2 l3 l4 l5 : Value) (x : Int64) (y : Int64) (S : List Value) (h : zH), rn 75 46 [l0, l1, l2, l3, l4, l5] (.long y :: .long x :: S) h = if zsum S ≤ 8 then rn 75 49 [l0, l1, l2, l3, l4, l5] (.long (if y < x then y else x) :: S) h else none) ∧
  (∀ (l0 l1 l2 l3 l4 l5 : Value) (x : Int64) (h : zH), rn 75 49 [l0, l1, l2, l3, l4, l5] [.long x] h = some (some (.long x), h)) := ⟨fun _ _ _ _ _ _ _ _ => r_aload_nr (show zdec 75 0 = some (.aload_n 0, 1) by decide +kernel) rfl rfl,
  fun _ _ _ _ _ _ _ _ _ => r_getfield (show zdec 75 1 = some (.getfield 9, 3) by decide +kernel) (show zft.lookup (75 * zKEY + 9) = some (4, 0) by decide +kernel) rfl,
  fun _ _ _ _ _ _ _ _ => r_iload_n (show zdec 75 4 = some (.iload_n 1, 1) by decide +kernel) rfl rfl,
  fun _ _ _ _ _ _ _ _ _ _ => r_iald (show zdec 75 5 = some (.iaload, 1) by decide +kernel) rfl,
  fun _ _ _ _ _ _ _ _ _ => r_ifne (show zdec 75 6 = some (.ifCond .ne 17, 3) by decide +kernel) rfl rfl,
  fun _ _ _ _ _ _ _ _ => r_aload_nr (show zdec 75 9 = some (.aload_n 0, 1) by decide +kernel) rfl rfl,
  fun _ _ _ _ _ _ _ _ _ => r_getfield (show zdec 75 10 = some (.getfield 15, 3) by decide +kernel) (show zft.lookup (75 * zKEY + 15) = some (4, 1) by decide +kernel) rfl,
  fun _ _ _ _ _ _ _ _ => r_iload_n (show zdec 75 13 = some (.iload_n 1, 1) by decide +kernel) rfl rfl,
  fun _ _ _ _ _ _ _ _ _ _ => r_iald (show zdec 75 14 = some (.iaload, 1) by decide +kernel) rfl,
  fun _ _ _ _ _ _ _ _ _ => r_i2l (show zdec 75 15 = some (.i2l, 1) by decide +kernel) rfl,
  fun _ _ _ _ _ _ _ _ => r_ldc2 (show zdec 75 16 = some (.ldc2_w 39, 3) by decide +kernel) (show zlt.lookup (75 * zKEY + 39) = some 1000000 by decide +kernel) rfl,
  fun _ _ _ _ _ _ _ _ _ _ => r_lmul (show zdec 75 19 = some (.lmul, 1) by decide +kernel) rfl,
  fun _ _ _ _ _ _ _ _ => r_goto (show zdec 75 20 = some (.goto 16, 3) by decide +kernel) rfl,
  fun _ _ _ _ _ _ _ _ => r_aload_nr (show zdec 75 23 = some (.aload_n 0, 1) by decide +kernel) rfl rfl,
  fun _ _ _ _ _ _ _ _ _ => r_getfield (show zdec 75 24 = some (.getfield 15, 3) by decide +kernel) (show zft.lookup (75 * zKEY + 15) = some (4, 1) by decide +kernel) rfl,
  fun _ _ _ _ _ _ _ _ => r_iload_n (show zdec 75 27 = some (.iload_n 1, 1) by decide +kernel) rfl rfl,
  fun _ _ _ _ _ _ _ _ _ _ => r_iald (show zdec 75 28 = some (.iaload, 1) by decide +kernel) rfl,
  fun _ _ _ _ _ _ _ _ _ => r_i2l (show zdec 75 29 = some (.i2l, 1) by decide +kernel) rfl,
  fun _ _ _ _ _ _ _ _ => r_lload_n (show zdec 75 30 = some (.lload_n 2, 1) by decide +kernel) rfl rfl,
  fun _ _ _ _ _ _ _ _ _ _ => r_lmul (show zdec 75 31 = some (.lmul, 1) by decide +kernel) rfl,
  fun _ _ _ _ _ _ _ _ => r_ldc2 (show zdec 75 32 = some (.ldc2_w 52, 3) by decide +kernel) (show zlt.lookup (75 * zKEY + 52) = some 1000 by decide +kernel) rfl,
  fun _ _ _ _ _ _ _ _ _ _ => r_ldiv (show zdec 75 35 = some (.ldiv, 1) by decide +kernel) rfl,
  fun _ _ _ _ _ _ _ _ _ => r_lstore (show zdec 75 36 = some (.lstore 4, 2) by decide +kernel) rfl (Nat.le_of_ble_eq_true rfl) rfl rfl,
  fun _ _ _ _ _ _ _ _ => r_lload (show zdec 75 38 = some (.lload 4, 2) by decide +kernel) rfl rfl,
  fun _ _ _ _ _ _ _ _ => r_aload_nr (show zdec 75 40 = some (.aload_n 0, 1) by decide +kernel) rfl rfl,
  fun _ _ _ _ _ _ _ _ _ => r_getfield (show zdec 75 41 = some (.getfield 21, 3) by decide +kernel) (show zft.lookup (75 * zKEY + 21) = some (4, 3) by decide +kernel) rfl,
  fun _ _ _ _ _ _ _ _ => r_iload_n (show zdec 75 44 = some (.iload_n 1, 1) by decide +kernel) rfl rfl,
  fun _ _ _ _ _ _ _ _ _ _ => r_lald (show zdec 75 45 = some (.laload, 1) by decide +kernel) rfl,
  fun _ _ _ _ _ _ _ _ _ _ => r_cM3 (show zdec 75 46 = some (.invokestatic 54, 3) by decide +kernel) (show zst.lookup (75 * zKEY + 54) = some (9, 72, 2, 3) by decide +kernel) rfl,
  fun _ _ _ _ _ _ _ _ => r_lret (show zdec 75 49 = some (.lreturn, 1) by decide +kernel) (by decide +kernel)⟩
theorem ze_75 : ∀ (a0 : Nat) (a1 : Int32) (a2 : Int64) (h : zH), ev 75 [.ref a0, .int a1, .long a2] h = rn 75 0 [.ref a0, .int a1, .long a2, .float 0, .float 0, .float 0] [] h := fun _ _ _ _ => if_pos (Nat.le_of_ble_eq_true rfl)
-- PayrollRun/Closing.garnishReason(JJJ)I
theorem zr_76 : (∀ (l1 l2 l3 l4 l5 : Value) (x : Int64) (S : List Value) (h : zH), rn 76 0 [.long x, l1, l2, l3, l4, l5] S h = rn 76 1 [.long x, l1, l2, l3, l4, l5] (.long x :: S) h) ∧
  (∀ (l0 l1 l2 l3 l4 l5 : Value) (S : List Value) (h : zH), rn 76 1 [l0, l1, l2, l3, l4, l5] S h = rn 76 2 [l0, l1, l2, l3, l4, l5] (.long 0 :: S) h) ∧
  (∀ (l0 l1 l2 l3 l4 l5 : Value) (x : Int64) (y : Int64) (S : List Value) (h : zH), rn 76 2 [l0, l1, l2, l3, l4, l5] (.long y :: .long x :: S) h = rn 76 3 [l0, l1, l2, l3, l4, l5] (.int (lg_cmp x y) :: S) h) ∧
  (∀ (l0 l1 l2 l3 l4 l5 : Value) (x : Int32) (S : List Value) (h : zH), rn 76 3 [l0, l1, l2, l3, l4, l5] (.int x :: S) h = if x = nI 0 then rn 76 6 [l0, l1, l2, l3, l4, l5] S h else rn 76 8 [l0, l1, l2, l3, l4, l5] S h) ∧
  (∀ (l0 l1 l2 l3 l4 l5 : Value) (S : List Value) (h : zH), rn 76 6 [l0, l1, l2, l3, l4, l5] S h = rn 76 7 [l0, l1, l2, l3, l4, l5] (.int (nI 4) :: S) h) ∧
  (∀ (l0 l1 l2 l3 l4 l5 : Value) (x : Int32) (h : zH), rn 76 7 [l0, l1, l2, l3, l4, l5] [.int x] h = some (some (.int x), h)) ∧
  (∀ (l0 l1 l2 l3 l5 : Value) (x : Int64) (S : List Value) (h : zH), rn 76 8 [l0, l1, l2, l3, .long x, l5] S h = rn 76 10 [l0, l1, l2, l3, .long x, l5] (.long x :: S) h) ∧
  (∀ (l0 l1 l3 l4 l5 : Value) (x : Int64) (S : List Value) (h : zH), rn 76 10 [l0, l1, .long x, l3, l4, l5] S h = rn 76 11 [l0, l1, .long x, l3, l4, l5] (.long x :: S) h) ∧
  (∀ (l0 l1 l2 l3 l4 l5 : Value) (x : Int64) (y : Int64) (S : List Value) (h : zH), rn 76 11 [l0, l1, l2, l3, l4, l5] (.long y :: .long x :: S) h = rn 76 12 [l0, l1, l2, l3, l4, l5] (.int (lg_cmp x y) :: S) h) ∧
  (∀ (l0 l1 l2 l3 l4 l5 : Value) (x : Int32) (S : List Value) (h : zH), rn 76 12 [l0, l1, l2, l3, l4, l5] (.int x :: S) h = if x = nI 0 then rn 76 15 [l0, l1, l2, l3, l4, l5] S h else rn 76 17 [l0, l1, l2, l3, l4, l5] S h) ∧
  (∀ (l0 l1 l2 l3 l4 l5 : Value) (S : List Value) (h : zH), rn 76 15 [l0, l1, l2, l3, l4, l5] S h = rn 76 16 [l0, l1, l2, l3, l4, l5] (.int (nI 1) :: S) h) ∧
  (∀ (l0 l1 l2 l3 l4 l5 : Value) (x : Int32) (h : zH), rn 76 16 [l0, l1, l2, l3, l4, l5] [.int x] h = some (some (.int x), h)) ∧
  (∀ (l0 l1 l2 l3 l5 : Value) (x : Int64) (S : List Value) (h : zH), rn 76 17 [l0, l1, l2, l3, .long x, l5] S h = rn 76 19 [l0, l1, l2, l3, .long x, l5] (.long x :: S) h) ∧
  (∀ (l0 l1 l2 l3 l4 l5 : Value) (S : List Value) (h : zH), rn 76 19 [l0, l1, l2, l3, l4, l5] S h = rn 76 20 [l0, l1, l2, l3, l4, l5] (.long 0 :: S) h) ∧
  (∀ (l0 l1 l2 l3 l4 l5 : Value) (x : Int64) (y : Int64) (S : List Value) (h : zH), rn 76 20 [l0, l1, l2, l3, l4, l5] (.long y :: .long x :: S) h = rn 76 21 [l0, l1, l2, l3, l4, l5] (.int (lg_cmp x y) :: S) h) ∧
  (∀ (l0 l1 l2 l3 l4 l5 : Value) (x : Int32) (S : List Value) (h : zH), rn 76 21 [l0, l1, l2, l3, l4, l5] (.int x :: S) h = if x ≤ nI 0 then rn 76 28 [l0, l1, l2, l3, l4, l5] S h else rn 76 24 [l0, l1, l2, l3, l4, l5] S h) ∧
  (∀ (l0 l1 l2 l3 l4 l5 : Value) (S : List Value) (h : zH), rn 76 24 [l0, l1, l2, l3, l4, l5] S h = rn 76 25 [l0, l1, l2, l3, l4, l5] (.int (nI 2) :: S) h) ∧
  (∀ (l0 l1 l2 l3 l4 l5 : Value) (S : List Value) (h : zH), rn 76 25 [l0, l1, l2, l3, l4, l5] S h = rn 76 29 [l0, l1, l2, l3, l4, l5] S h) ∧
  (∀ (l0 l1 l2 l3 l4 l5 : Value) (S : List Value) (h : zH), rn 76 28 [l0, l1, l2, l3, l4, l5] S h = rn 76 29 [l0, l1, l2, l3, l4, l5] (.int (nI 3) :: S) h) ∧
  (∀ (l0 l1 l2 l3 l4 l5 : Value) (x : Int32) (h : zH), rn 76 29 [l0, l1, l2, l3, l4, l5] [.int x] h = some (some (.int x), h)) := ⟨fun _ _ _ _ _ _ _ _ => r_lload_n (show zdec 76 0 = some (.lload_n 0, 1) by decide +kernel) rfl rfl,
  fun _ _ _ _ _ _ _ _ => r_lconst (show zdec 76 1 = some (.lconst 0, 1) by decide +kernel) rfl rfl,
  fun _ _ _ _ _ _ _ _ _ _ => r_lcmp (show zdec 76 2 = some (.lcmp, 1) by decide +kernel) rfl,
  fun _ _ _ _ _ _ _ _ _ => r_ifne (show zdec 76 3 = some (.ifCond .ne 5, 3) by decide +kernel) rfl rfl,
  fun _ _ _ _ _ _ _ _ => r_iconst (show zdec 76 6 = some (.iconst 4, 1) by decide +kernel) rfl rfl,
  fun _ _ _ _ _ _ _ _ => r_ireti (show zdec 76 7 = some (.ireturn, 1) by decide +kernel) (by decide +kernel),
  fun _ _ _ _ _ _ _ _ => r_lload (show zdec 76 8 = some (.lload 4, 2) by decide +kernel) rfl rfl,
  fun _ _ _ _ _ _ _ _ => r_lload_n (show zdec 76 10 = some (.lload_n 2, 1) by decide +kernel) rfl rfl,
  fun _ _ _ _ _ _ _ _ _ _ => r_lcmp (show zdec 76 11 = some (.lcmp, 1) by decide +kernel) rfl,
  fun _ _ _ _ _ _ _ _ _ => r_ifne (show zdec 76 12 = some (.ifCond .ne 5, 3) by decide +kernel) rfl rfl,
  fun _ _ _ _ _ _ _ _ => r_iconst (show zdec 76 15 = some (.iconst 1, 1) by decide +kernel) rfl rfl,
  fun _ _ _ _ _ _ _ _ => r_ireti (show zdec 76 16 = some (.ireturn, 1) by decide +kernel) (by decide +kernel),
  fun _ _ _ _ _ _ _ _ => r_lload (show zdec 76 17 = some (.lload 4, 2) by decide +kernel) rfl rfl,
  fun _ _ _ _ _ _ _ _ => r_lconst (show zdec 76 19 = some (.lconst 0, 1) by decide +kernel) rfl rfl,
  fun _ _ _ _ _ _ _ _ _ _ => r_lcmp (show zdec 76 20 = some (.lcmp, 1) by decide +kernel) rfl,
  fun _ _ _ _ _ _ _ _ _ => r_ifle (show zdec 76 21 = some (.ifCond .le 7, 3) by decide +kernel) rfl rfl,
  fun _ _ _ _ _ _ _ _ => r_iconst (show zdec 76 24 = some (.iconst 2, 1) by decide +kernel) rfl rfl,
  fun _ _ _ _ _ _ _ _ => r_goto (show zdec 76 25 = some (.goto 4, 3) by decide +kernel) rfl,
  fun _ _ _ _ _ _ _ _ => r_iconst (show zdec 76 28 = some (.iconst 3, 1) by decide +kernel) rfl rfl,
  fun _ _ _ _ _ _ _ _ => r_ireti (show zdec 76 29 = some (.ireturn, 1) by decide +kernel) (by decide +kernel)⟩
theorem ze_76 : ∀ (a0 : Int64) (a1 : Int64) (a2 : Int64) (h : zH), ev 76 [.long a0, .long a1, .long a2] h = rn 76 0 [.long a0, .float 0, .long a1, .float 0, .long a2, .float 0] [] h := fun _ _ _ _ => if_pos (Nat.le_of_ble_eq_true rfl)
-- PayrollRun/Worker.beginYear()V
theorem zr_79 : (∀ (l1 l2 : Value) (x : Nat) (S : List Value) (h : zH), rn 79 0 [.ref x, l1, l2] S h = rn 79 1 [.ref x, l1, l2] (.ref x :: S) h) ∧
  (∀ (l0 l1 l2 : Value) (a : Nat) (S : List Value) (h : zH), rn 79 1 [l0, l1, l2] (.ref a :: S) h = zgf h a 10 0 fun v => rn 79 4 [l0, l1, l2] (v :: S) h) ∧
  (∀ (l0 l1 l2 : Value) (S : List Value) (h : zH), rn 79 4 [l0, l1, l2] S h = rn 79 6 [l0, l1, l2] (.int (nI 11) :: S) h) ∧
  (∀ (l0 l1 l2 : Value) (a : Nat) (j : Int32) (S : List Value) (h : zH), rn 79 6 [l0, l1, l2] (.int j :: .ref a :: S) h = zli h a 0 j fun x => rn 79 7 [l0, l1, l2] (.int x :: S) h) ∧
  (∀ (l0 l1 l2 : Value) (x : Int32) (S : List Value) (h : zH), rn 79 7 [l0, l1, l2] (.int x :: S) h = nl l0 (rn 79 8 [l0, .int x, l2] S h)) ∧
  (∀ (l0 l1 l2 : Value) (S : List Value) (h : zH), rn 79 8 [l0, l1, l2] S h = rn 79 9 [l0, l1, l2] (.int (nI 0) :: S) h) ∧
  (∀ (l0 l1 l2 : Value) (x : Int32) (S : List Value) (h : zH), rn 79 9 [l0, l1, l2] (.int x :: S) h = nl l1 (rn 79 10 [l0, l1, .int x] S h)) ∧
  (∀ (l0 l1 l2 : Value) (S : List Value) (h : zH), rn 79 11 [l0, l1, l2] S h = rn 79 13 [l0, l1, l2] (.int (nI 12) :: S) h) ∧
  (∀ (l0 l1 l2 : Value) (x : Int32) (y : Int32) (S : List Value) (h : zH), rn 79 13 [l0, l1, l2] (.int y :: .int x :: S) h = if y ≤ x then rn 79 59 [l0, l1, l2] S h else rn 79 16 [l0, l1, l2] S h) ∧
  (∀ (l1 l2 : Value) (x : Nat) (S : List Value) (h : zH), rn 79 16 [.ref x, l1, l2] S h = rn 79 17 [.ref x, l1, l2] (.ref x :: S) h) ∧
  (∀ (l0 l1 l2 : Value) (a : Nat) (S : List Value) (h : zH), rn 79 17 [l0, l1, l2] (.ref a :: S) h = zgf h a 10 0 fun v => rn 79 20 [l0, l1, l2] (v :: S) h) ∧
  (∀ (l0 l1 l2 : Value) (S : List Value) (h : zH), rn 79 20 [l0, l1, l2] S h = rn 79 21 [l0, l1, l2] (.int (nI 0) :: S) h) ∧
  (∀ (l0 l1 : Value) (x : Int32) (S : List Value) (h : zH), rn 79 21 [l0, l1, .int x] S h = rn 79 22 [l0, l1, .int x] (.int x :: S) h) ∧
  (∀ (l0 l1 l2 : Value) (x : Int32) (y : Int32) (S : List Value) (h : zH), rn 79 22 [l0, l1, l2] (.int y :: .int x :: S) h = rn 79 23 [l0, l1, l2] (.int (x + y) :: S) h) ∧
  (∀ (l0 l2 : Value) (x : Int32) (S : List Value) (h : zH), rn 79 23 [l0, .int x, l2] S h = rn 79 24 [l0, .int x, l2] (.int x :: S) h) ∧
  (∀ (l0 l1 l2 : Value) (a : Nat) (j : Int32) (x : Int32) (S : List Value) (h : zH), rn 79 24 [l0, l1, l2] (.int x :: .int j :: .ref a :: S) h = zsi h a 0 j x fun h => rn 79 25 [l0, l1, l2] S h) ∧
  (∀ (l1 l2 : Value) (x : Nat) (S : List Value) (h : zH), rn 79 25 [.ref x, l1, l2] S h = rn 79 26 [.ref x, l1, l2] (.ref x :: S) h) ∧
  (∀ (l0 l1 l2 : Value) (a : Nat) (S : List Value) (h : zH), rn 79 26 [l0, l1, l2] (.ref a :: S) h = zgf h a 10 0 fun v => rn 79 29 [l0, l1, l2] (v :: S) h) ∧
  (∀ (l0 l1 l2 : Value) (S : List Value) (h : zH), rn 79 29 [l0, l1, l2] S h = rn 79 31 [l0, l1, l2] (.int (nI 12) :: S) h) ∧
  (∀ (l0 l1 : Value) (x : Int32) (S : List Value) (h : zH), rn 79 31 [l0, l1, .int x] S h = rn 79 32 [l0, l1, .int x] (.int x :: S) h) ∧
  (∀ (l0 l1 l2 : Value) (x : Int32) (y : Int32) (S : List Value) (h : zH), rn 79 32 [l0, l1, l2] (.int y :: .int x :: S) h = rn 79 33 [l0, l1, l2] (.int (x + y) :: S) h) ∧
  (∀ (l0 l1 l2 : Value) (S : List Value) (h : zH), rn 79 33 [l0, l1, l2] S h = rn 79 35 [l0, l1, l2] (.int (nI 30) :: S) h) ∧
  (∀ (l0 l1 l2 : Value) (a : Nat) (j : Int32) (x : Int32) (S : List Value) (h : zH), rn 79 35 [l0, l1, l2] (.int x :: .int j :: .ref a :: S) h = zsi h a 0 j x fun h => rn 79 36 [l0, l1, l2] S h) ∧
  (∀ (l1 l2 : Value) (x : Nat) (S : List Value) (h : zH), rn 79 36 [.ref x, l1, l2] S h = rn 79 37 [.ref x, l1, l2] (.ref x :: S) h) ∧
  (∀ (l0 l1 l2 : Value) (a : Nat) (S : List Value) (h : zH), rn 79 37 [l0, l1, l2] (.ref a :: S) h = zgf h a 10 0 fun v => rn 79 40 [l0, l1, l2] (v :: S) h) ∧
  (∀ (l0 l1 l2 : Value) (S : List Value) (h : zH), rn 79 40 [l0, l1, l2] S h = rn 79 42 [l0, l1, l2] (.int (nI 24) :: S) h) ∧
  (∀ (l0 l1 : Value) (x : Int32) (S : List Value) (h : zH), rn 79 42 [l0, l1, .int x] S h = rn 79 43 [l0, l1, .int x] (.int x :: S) h) ∧
  (∀ (l0 l1 l2 : Value) (x : Int32) (y : Int32) (S : List Value) (h : zH), rn 79 43 [l0, l1, l2] (.int y :: .int x :: S) h = rn 79 44 [l0, l1, l2] (.int (x + y) :: S) h) ∧
  (∀ (l0 l1 l2 : Value) (S : List Value) (h : zH), rn 79 44 [l0, l1, l2] S h = rn 79 45 [l0, l1, l2] (.int (nI 0) :: S) h) ∧
  (∀ (l0 l1 l2 : Value) (a : Nat) (j : Int32) (x : Int32) (S : List Value) (h : zH), rn 79 45 [l0, l1, l2] (.int x :: .int j :: .ref a :: S) h = zsi h a 0 j x fun h => rn 79 46 [l0, l1, l2] S h) ∧
  (∀ (l1 l2 : Value) (x : Nat) (S : List Value) (h : zH), rn 79 46 [.ref x, l1, l2] S h = rn 79 47 [.ref x, l1, l2] (.ref x :: S) h) ∧
  (∀ (l0 l1 l2 : Value) (a : Nat) (S : List Value) (h : zH), rn 79 47 [l0, l1, l2] (.ref a :: S) h = zgf h a 10 3 fun v => rn 79 50 [l0, l1, l2] (v :: S) h) ∧
  (∀ (l0 l1 : Value) (x : Int32) (S : List Value) (h : zH), rn 79 50 [l0, l1, .int x] S h = rn 79 51 [l0, l1, .int x] (.int x :: S) h) ∧
  (∀ (l0 l1 l2 : Value) (S : List Value) (h : zH), rn 79 51 [l0, l1, l2] S h = rn 79 52 [l0, l1, l2] (.null :: S) h) ∧
  (∀ (l0 l1 l2 : Value) (a : Nat) (j : Int32) (v : Value) (S : List Value) (h : zH), rn 79 52 [l0, l1, l2] (v :: .int j :: .ref a :: S) h = zsq h a j v fun h => rn 79 53 [l0, l1, l2] S h) ∧
  (∀ (l0 l1 : Value) (x : Int32) (S : List Value) (h : zH), rn 79 53 [l0, l1, .int x] S h = nl l1 (rn 79 56 [l0, l1, .int (x + (nI 1))] S h)) ∧
  (∀ (l0 l1 l2 : Value) (S : List Value) (h : zH), rn 79 56 [l0, l1, l2] S h = rn 79 10 [l0, l1, l2] S h) ∧
  (∀ (l1 l2 : Value) (x : Nat) (S : List Value) (h : zH), rn 79 59 [.ref x, l1, l2] S h = rn 79 60 [.ref x, l1, l2] (.ref x :: S) h) ∧
  (∀ (l0 l1 l2 : Value) (a : Nat) (S : List Value) (h : zH), rn 79 60 [l0, l1, l2] (.ref a :: S) h = zgf h a 10 4 fun v => rn 79 63 [l0, l1, l2] (v :: S) h) ∧
  (∀ (l0 l1 l2 : Value) (o : Nat) (S : List Value) (h : zH), rn 79 63 [l0, l1, l2] (.ref o :: S) h = if zkd h o = 4 ∧ zsum S ≤ 8 then zcall (ev 80 [.ref o] h) (fun v h => rn 79 66 [l0, l1, l2] (zpush v S) h) else none) ∧
  (∀ (l0 l1 l2 : Value) (h : zH), rn 79 66 [l0, l1, l2] [] h = some (none, h)) := ⟨fun _ _ _ _ _ => r_aload_nr (show zdec 79 0 = some (.aload_n 0, 1) by decide +kernel) rfl rfl,
  fun _ _ _ _ _ _ => r_getfield (show zdec 79 1 = some (.getfield 9, 3) by decide +kernel) (show zft.lookup (79 * zKEY + 9) = some (10, 0) by decide +kernel) rfl,
  fun _ _ _ _ _ => r_bipush (show zdec 79 4 = some (.bipush 11, 2) by decide +kernel) rfl rfl,
  fun _ _ _ _ _ _ _ => r_iald (show zdec 79 6 = some (.iaload, 1) by decide +kernel) rfl,
  fun _ _ _ _ _ _ => r_istore_n (show zdec 79 7 = some (.istore_n 1, 1) by decide +kernel) rfl rfl (Nat.le_of_ble_eq_true rfl) rfl rfl,
  fun _ _ _ _ _ => r_iconst (show zdec 79 8 = some (.iconst 0, 1) by decide +kernel) rfl rfl,
  fun _ _ _ _ _ _ => r_istore_n (show zdec 79 9 = some (.istore_n 2, 1) by decide +kernel) rfl rfl (Nat.le_of_ble_eq_true rfl) rfl rfl,
  fun _ _ _ _ _ => r_bipush (show zdec 79 11 = some (.bipush 12, 2) by decide +kernel) rfl rfl,
  fun _ _ _ _ _ _ _ => r_icmpge (show zdec 79 13 = some (.if_icmp .ge 46, 3) by decide +kernel) rfl rfl,
  fun _ _ _ _ _ => r_aload_nr (show zdec 79 16 = some (.aload_n 0, 1) by decide +kernel) rfl rfl,
  fun _ _ _ _ _ _ => r_getfield (show zdec 79 17 = some (.getfield 9, 3) by decide +kernel) (show zft.lookup (79 * zKEY + 9) = some (10, 0) by decide +kernel) rfl,
  fun _ _ _ _ _ => r_iconst (show zdec 79 20 = some (.iconst 0, 1) by decide +kernel) rfl rfl,
  fun _ _ _ _ _ => r_iload_n (show zdec 79 21 = some (.iload_n 2, 1) by decide +kernel) rfl rfl,
  fun _ _ _ _ _ _ _ => r_iadd (show zdec 79 22 = some (.iadd, 1) by decide +kernel) rfl,
  fun _ _ _ _ _ => r_iload_n (show zdec 79 23 = some (.iload_n 1, 1) by decide +kernel) rfl rfl,
  fun _ _ _ _ _ _ _ _ => r_iast (show zdec 79 24 = some (.iastore, 1) by decide +kernel) rfl,
  fun _ _ _ _ _ => r_aload_nr (show zdec 79 25 = some (.aload_n 0, 1) by decide +kernel) rfl rfl,
  fun _ _ _ _ _ _ => r_getfield (show zdec 79 26 = some (.getfield 9, 3) by decide +kernel) (show zft.lookup (79 * zKEY + 9) = some (10, 0) by decide +kernel) rfl,
  fun _ _ _ _ _ => r_bipush (show zdec 79 29 = some (.bipush 12, 2) by decide +kernel) rfl rfl,
  fun _ _ _ _ _ => r_iload_n (show zdec 79 31 = some (.iload_n 2, 1) by decide +kernel) rfl rfl,
  fun _ _ _ _ _ _ _ => r_iadd (show zdec 79 32 = some (.iadd, 1) by decide +kernel) rfl,
  fun _ _ _ _ _ => r_bipush (show zdec 79 33 = some (.bipush 30, 2) by decide +kernel) rfl rfl,
  fun _ _ _ _ _ _ _ _ => r_iast (show zdec 79 35 = some (.iastore, 1) by decide +kernel) rfl,
  fun _ _ _ _ _ => r_aload_nr (show zdec 79 36 = some (.aload_n 0, 1) by decide +kernel) rfl rfl,
  fun _ _ _ _ _ _ => r_getfield (show zdec 79 37 = some (.getfield 9, 3) by decide +kernel) (show zft.lookup (79 * zKEY + 9) = some (10, 0) by decide +kernel) rfl,
  fun _ _ _ _ _ => r_bipush (show zdec 79 40 = some (.bipush 24, 2) by decide +kernel) rfl rfl,
  fun _ _ _ _ _ => r_iload_n (show zdec 79 42 = some (.iload_n 2, 1) by decide +kernel) rfl rfl,
  fun _ _ _ _ _ _ _ => r_iadd (show zdec 79 43 = some (.iadd, 1) by decide +kernel) rfl,
  fun _ _ _ _ _ => r_iconst (show zdec 79 44 = some (.iconst 0, 1) by decide +kernel) rfl rfl,
  fun _ _ _ _ _ _ _ _ => r_iast (show zdec 79 45 = some (.iastore, 1) by decide +kernel) rfl,
  fun _ _ _ _ _ => r_aload_nr (show zdec 79 46 = some (.aload_n 0, 1) by decide +kernel) rfl rfl,
  fun _ _ _ _ _ _ => r_getfield (show zdec 79 47 = some (.getfield 24, 3) by decide +kernel) (show zft.lookup (79 * zKEY + 24) = some (10, 3) by decide +kernel) rfl,
  fun _ _ _ _ _ => r_iload_n (show zdec 79 50 = some (.iload_n 2, 1) by decide +kernel) rfl rfl,
  fun _ _ _ _ _ => r_null (show zdec 79 51 = some (.aconst_null, 1) by decide +kernel) rfl,
  fun _ _ _ _ _ _ _ _ => r_aast (show zdec 79 52 = some (.aastore, 1) by decide +kernel) rfl,
  fun _ _ _ _ _ => r_iinc (show zdec 79 53 = some (.iinc 2 1, 3) by decide +kernel) rfl rfl rfl (Nat.le_of_ble_eq_true rfl) rfl rfl,
  fun _ _ _ _ _ => r_goto (show zdec 79 56 = some (.goto (-46), 3) by decide +kernel) rfl,
  fun _ _ _ _ _ => r_aload_nr (show zdec 79 59 = some (.aload_n 0, 1) by decide +kernel) rfl rfl,
  fun _ _ _ _ _ _ => r_getfield (show zdec 79 60 = some (.getfield 31, 3) by decide +kernel) (show zft.lookup (79 * zKEY + 31) = some (10, 4) by decide +kernel) rfl,
  fun _ _ _ _ _ _ => r_cV [] rfl (show zdec 79 63 = some (.invokevirtual 53, 3) by decide +kernel) (show zst.lookup (79 * zKEY + 53) = some (1, 80, 0, 4) by decide +kernel) (by decide) rfl,
  fun _ _ _ _ => r_vret (show zdec 79 66 = some (.return_, 1) by decide +kernel) (by decide +kernel)⟩
theorem zl_79_10 : ∀ (l0 l1 : Value) (x : Int32) (S : List Value) (h : zH), rn 79 10 [l0, l1, .int x] S h = rn 79 11 [l0, l1, .int x] (.int x :: S) h := fun _ _ _ _ _ => r_iload_n (show zdec 79 10 = some (.iload_n 2, 1) by decide +kernel) rfl rfl
theorem ze_79 : ∀ (a0 : Nat) (h : zH), ev 79 [.ref a0] h = rn 79 0 [.ref a0, .float 0, .float 0] [] h := fun _ _ => if_pos (Nat.le_of_ble_eq_true rfl)
-- PayrollRun/Garnishments.removePaid()V
theorem zr_80 : (∀ (l0 l1 l2 : Value) (S : List Value) (h : zH), rn 80 0 [l0, l1, l2] S h = rn 80 1 [l0, l1, l2] (.int (nI 0) :: S) h) ∧
  (∀ (l0 l1 l2 : Value) (x : Int32) (S : List Value) (h : zH), rn 80 1 [l0, l1, l2] (.int x :: S) h = nl l0 (rn 80 2 [l0, .int x, l2] S h)) ∧
  (∀ (l0 l1 l2 : Value) (S : List Value) (h : zH), rn 80 2 [l0, l1, l2] S h = rn 80 3 [l0, l1, l2] (.int (nI 0) :: S) h) ∧
  (∀ (l0 l1 l2 : Value) (x : Int32) (S : List Value) (h : zH), rn 80 3 [l0, l1, l2] (.int x :: S) h = nl l1 (rn 80 4 [l0, l1, .int x] S h)) ∧
  (∀ (l1 l2 : Value) (x : Nat) (S : List Value) (h : zH), rn 80 5 [.ref x, l1, l2] S h = rn 80 6 [.ref x, l1, l2] (.ref x :: S) h) ∧
  (∀ (l0 l1 l2 : Value) (a : Nat) (S : List Value) (h : zH), rn 80 6 [l0, l1, l2] (.ref a :: S) h = zgf h a 4 4 fun v => rn 80 9 [l0, l1, l2] (v :: S) h) ∧
  (∀ (l0 l1 l2 : Value) (x : Int32) (y : Int32) (S : List Value) (h : zH), rn 80 9 [l0, l1, l2] (.int y :: .int x :: S) h = if y ≤ x then rn 80 43 [l0, l1, l2] S h else rn 80 12 [l0, l1, l2] S h) ∧
  (∀ (l0 l1 : Value) (x : Int32) (S : List Value) (h : zH), rn 80 12 [l0, l1, .int x] S h = rn 80 13 [l0, l1, .int x] (.int x :: S) h) ∧
  (∀ (l0 l1 l2 : Value) (S : List Value) (h : zH), rn 80 13 [l0, l1, l2] S h = rn 80 14 [l0, l1, l2] (.int (nI 3) :: S) h) ∧
  (∀ (l0 l1 l2 : Value) (x : Int32) (y : Int32) (S : List Value) (h : zH), rn 80 14 [l0, l1, l2] (.int y :: .int x :: S) h = if y ≤ x then rn 80 43 [l0, l1, l2] S h else rn 80 17 [l0, l1, l2] S h) ∧
  (∀ (l1 l2 : Value) (x : Nat) (S : List Value) (h : zH), rn 80 17 [.ref x, l1, l2] S h = rn 80 18 [.ref x, l1, l2] (.ref x :: S) h) ∧
  (∀ (l0 l1 l2 : Value) (a : Nat) (S : List Value) (h : zH), rn 80 18 [l0, l1, l2] (.ref a :: S) h = zgf h a 4 3 fun v => rn 80 21 [l0, l1, l2] (v :: S) h) ∧
  (∀ (l0 l1 : Value) (x : Int32) (S : List Value) (h : zH), rn 80 21 [l0, l1, .int x] S h = rn 80 22 [l0, l1, .int x] (.int x :: S) h) ∧
  (∀ (l0 l1 l2 : Value) (a : Nat) (j : Int32) (S : List Value) (h : zH), rn 80 22 [l0, l1, l2] (.int j :: .ref a :: S) h = zlj h a j fun x => rn 80 23 [l0, l1, l2] (.long x :: S) h) ∧
  (∀ (l0 l1 l2 : Value) (S : List Value) (h : zH), rn 80 23 [l0, l1, l2] S h = rn 80 24 [l0, l1, l2] (.long 0 :: S) h) ∧
  (∀ (l0 l1 l2 : Value) (x : Int64) (y : Int64) (S : List Value) (h : zH), rn 80 24 [l0, l1, l2] (.long y :: .long x :: S) h = rn 80 25 [l0, l1, l2] (.int (lg_cmp x y) :: S) h) ∧
  (∀ (l0 l1 l2 : Value) (x : Int32) (S : List Value) (h : zH), rn 80 25 [l0, l1, l2] (.int x :: S) h = if x ≤ nI 0 then rn 80 37 [l0, l1, l2] S h else rn 80 28 [l0, l1, l2] S h) ∧
  (∀ (l1 l2 : Value) (x : Nat) (S : List Value) (h : zH), rn 80 28 [.ref x, l1, l2] S h = rn 80 29 [.ref x, l1, l2] (.ref x :: S) h) ∧
  (∀ (l0 l2 : Value) (x : Int32) (S : List Value) (h : zH), rn 80 29 [l0, .int x, l2] S h = rn 80 30 [l0, .int x, l2] (.int x :: S) h) ∧
  (∀ (l0 l1 : Value) (x : Int32) (S : List Value) (h : zH), rn 80 30 [l0, l1, .int x] S h = rn 80 31 [l0, l1, .int x] (.int x :: S) h) ∧
  (∀ (l0 l1 l2 : Value) (o : Nat) (v0 : Value) (v1 : Value) (S : List Value) (h : zH), rn 80 31 [l0, l1, l2] (v1 :: v0 :: .ref o :: S) h = if zkd h o = 4 ∧ zsum S ≤ 8 then zcall (ev 54 [.ref o, v0, v1] h) (fun v h => rn 80 34 [l0, l1, l2] (zpush v S) h) else none) ∧
  (∀ (l0 l2 : Value) (x : Int32) (S : List Value) (h : zH), rn 80 34 [l0, .int x, l2] S h = nl l0 (rn 80 37 [l0, .int (x + (nI 1)), l2] S h)) ∧
  (∀ (l0 l1 : Value) (x : Int32) (S : List Value) (h : zH), rn 80 37 [l0, l1, .int x] S h = nl l1 (rn 80 40 [l0, l1, .int (x + (nI 1))] S h)) ∧
  (∀ (l0 l1 l2 : Value) (S : List Value) (h : zH), rn 80 40 [l0, l1, l2] S h = rn 80 4 [l0, l1, l2] S h) ∧
  (∀ (l1 l2 : Value) (x : Nat) (S : List Value) (h : zH), rn 80 43 [.ref x, l1, l2] S h = rn 80 44 [.ref x, l1, l2] (.ref x :: S) h) ∧
  (∀ (l0 l2 : Value) (x : Int32) (S : List Value) (h : zH), rn 80 44 [l0, .int x, l2] S h = rn 80 45 [l0, .int x, l2] (.int x :: S) h) ∧
  (∀ (l0 l1 l2 : Value) (a : Nat) (v : Value) (S : List Value) (h : zH), rn 80 45 [l0, l1, l2] (v :: .ref a :: S) h = zpf h a 4 4 v fun h => rn 80 48 [l0, l1, l2] S h) ∧
  (∀ (l0 l1 l2 : Value) (h : zH), rn 80 48 [l0, l1, l2] [] h = some (none, h)) := ⟨fun _ _ _ _ _ => r_iconst (show zdec 80 0 = some (.iconst 0, 1) by decide +kernel) rfl rfl,
  fun _ _ _ _ _ _ => r_istore_n (show zdec 80 1 = some (.istore_n 1, 1) by decide +kernel) rfl rfl (Nat.le_of_ble_eq_true rfl) rfl rfl,
  fun _ _ _ _ _ => r_iconst (show zdec 80 2 = some (.iconst 0, 1) by decide +kernel) rfl rfl,
  fun _ _ _ _ _ _ => r_istore_n (show zdec 80 3 = some (.istore_n 2, 1) by decide +kernel) rfl rfl (Nat.le_of_ble_eq_true rfl) rfl rfl,
  fun _ _ _ _ _ => r_aload_nr (show zdec 80 5 = some (.aload_n 0, 1) by decide +kernel) rfl rfl,
  fun _ _ _ _ _ _ => r_getfield (show zdec 80 6 = some (.getfield 25, 3) by decide +kernel) (show zft.lookup (80 * zKEY + 25) = some (4, 4) by decide +kernel) rfl,
  fun _ _ _ _ _ _ _ => r_icmpge (show zdec 80 9 = some (.if_icmp .ge 34, 3) by decide +kernel) rfl rfl,
  fun _ _ _ _ _ => r_iload_n (show zdec 80 12 = some (.iload_n 2, 1) by decide +kernel) rfl rfl,
  fun _ _ _ _ _ => r_iconst (show zdec 80 13 = some (.iconst 3, 1) by decide +kernel) rfl rfl,
  fun _ _ _ _ _ _ _ => r_icmpge (show zdec 80 14 = some (.if_icmp .ge 29, 3) by decide +kernel) rfl rfl,
  fun _ _ _ _ _ => r_aload_nr (show zdec 80 17 = some (.aload_n 0, 1) by decide +kernel) rfl rfl,
  fun _ _ _ _ _ _ => r_getfield (show zdec 80 18 = some (.getfield 21, 3) by decide +kernel) (show zft.lookup (80 * zKEY + 21) = some (4, 3) by decide +kernel) rfl,
  fun _ _ _ _ _ => r_iload_n (show zdec 80 21 = some (.iload_n 2, 1) by decide +kernel) rfl rfl,
  fun _ _ _ _ _ _ _ => r_lald (show zdec 80 22 = some (.laload, 1) by decide +kernel) rfl,
  fun _ _ _ _ _ => r_lconst (show zdec 80 23 = some (.lconst 0, 1) by decide +kernel) rfl rfl,
  fun _ _ _ _ _ _ _ => r_lcmp (show zdec 80 24 = some (.lcmp, 1) by decide +kernel) rfl,
  fun _ _ _ _ _ _ => r_ifle (show zdec 80 25 = some (.ifCond .le 12, 3) by decide +kernel) rfl rfl,
  fun _ _ _ _ _ => r_aload_nr (show zdec 80 28 = some (.aload_n 0, 1) by decide +kernel) rfl rfl,
  fun _ _ _ _ _ => r_iload_n (show zdec 80 29 = some (.iload_n 1, 1) by decide +kernel) rfl rfl,
  fun _ _ _ _ _ => r_iload_n (show zdec 80 30 = some (.iload_n 2, 1) by decide +kernel) rfl rfl,
  fun _ _ _ _ _ _ _ _ => r_cV [_, _] rfl (show zdec 80 31 = some (.invokevirtual 45, 3) by decide +kernel) (show zst.lookup (80 * zKEY + 45) = some (1, 54, 2, 4) by decide +kernel) (by decide) rfl,
  fun _ _ _ _ _ => r_iinc (show zdec 80 34 = some (.iinc 1 1, 3) by decide +kernel) rfl rfl rfl (Nat.le_of_ble_eq_true rfl) rfl rfl,
  fun _ _ _ _ _ => r_iinc (show zdec 80 37 = some (.iinc 2 1, 3) by decide +kernel) rfl rfl rfl (Nat.le_of_ble_eq_true rfl) rfl rfl,
  fun _ _ _ _ _ => r_goto (show zdec 80 40 = some (.goto (-36), 3) by decide +kernel) rfl,
  fun _ _ _ _ _ => r_aload_nr (show zdec 80 43 = some (.aload_n 0, 1) by decide +kernel) rfl rfl,
  fun _ _ _ _ _ => r_iload_n (show zdec 80 44 = some (.iload_n 1, 1) by decide +kernel) rfl rfl,
  fun _ _ _ _ _ _ _ => r_putfield (show zdec 80 45 = some (.putfield 25, 3) by decide +kernel) (show zft.lookup (80 * zKEY + 25) = some (4, 4) by decide +kernel) (by decide +kernel) rfl,
  fun _ _ _ _ => r_vret (show zdec 80 48 = some (.return_, 1) by decide +kernel) (by decide +kernel)⟩
theorem zl_80_4 : ∀ (l0 l1 : Value) (x : Int32) (S : List Value) (h : zH), rn 80 4 [l0, l1, .int x] S h = rn 80 5 [l0, l1, .int x] (.int x :: S) h := fun _ _ _ _ _ => r_iload_n (show zdec 80 4 = some (.iload_n 2, 1) by decide +kernel) rfl rfl
theorem ze_80 : ∀ (a0 : Nat) (h : zH), ev 80 [.ref a0] h = rn 80 0 [.ref a0, .float 0, .float 0] [] h := fun _ _ => if_pos (Nat.le_of_ble_eq_true rfl)
-- PayrollRun/Rules.ruleAt(II)I
theorem zr_84 : (∀ (l0 l1 l3 l4 : Value) (x : Int32) (S : List Value) (h : zH), rn 84 0 [l0, l1, .int x, l3, l4] S h = rn 84 1 [l0, l1, .int x, l3, l4] (.int x :: S) h) ∧
  (∀ (l0 l1 l2 l3 l4 : Value) (S : List Value) (h : zH), rn 84 1 [l0, l1, l2, l3, l4] S h = rn 84 2 [l0, l1, l2, l3, l4] (.int (nI 0) :: S) h) ∧
  (∀ (l0 l1 l2 l3 l4 : Value) (S : List Value) (h : zH), rn 84 2 [l0, l1, l2, l3, l4] S h = rn 84 3 [l0, l1, l2, l3, l4] (.int (nI 1) :: S) h) ∧
  (∀ (l0 l1 l2 l3 l4 : Value) (v0 : Value) (v1 : Value) (v2 : Value) (S : List Value) (h : zH), rn 84 3 [l0, l1, l2, l3, l4] (v2 :: v1 :: v0 :: S) h = if zsum S ≤ 8 then zcall (ev 24 [v0, v1, v2] h) (fun v h => rn 84 6 [l0, l1, l2, l3, l4] (zpush v S) h) else none) ∧
  (∀ (l0 l1 l2 l3 l4 : Value) (x : Int32) (S : List Value) (h : zH), rn 84 6 [l0, l1, l2, l3, l4] (.int x :: S) h = nl l2 (rn 84 7 [l0, l1, l2, .int x, l4] S h)) ∧
  (∀ (l0 l1 l3 l4 : Value) (x : Int32) (S : List Value) (h : zH), rn 84 7 [l0, l1, .int x, l3, l4] S h = rn 84 8 [l0, l1, .int x, l3, l4] (.int x :: S) h) ∧
  (∀ (l0 l1 l2 l3 l4 : Value) (S : List Value) (h : zH), rn 84 8 [l0, l1, l2, l3, l4] S h = rn 84 9 [l0, l1, l2, l3, l4] (.int (nI 0) :: S) h) ∧
  (∀ (l1 l2 l3 l4 : Value) (x : Nat) (S : List Value) (h : zH), rn 84 9 [.ref x, l1, l2, l3, l4] S h = rn 84 10 [.ref x, l1, l2, l3, l4] (.ref x :: S) h) ∧
  (∀ (l0 l1 l2 l3 l4 : Value) (a : Nat) (S : List Value) (h : zH), rn 84 10 [l0, l1, l2, l3, l4] (.ref a :: S) h = zgf h a 6 4 fun v => rn 84 13 [l0, l1, l2, l3, l4] (v :: S) h) ∧
  (∀ (l0 l1 l2 l3 l4 : Value) (S : List Value) (h : zH), rn 84 13 [l0, l1, l2, l3, l4] S h = rn 84 14 [l0, l1, l2, l3, l4] (.int (nI 1) :: S) h) ∧
  (∀ (l0 l1 l2 l3 l4 : Value) (x : Int32) (y : Int32) (S : List Value) (h : zH), rn 84 14 [l0, l1, l2, l3, l4] (.int y :: .int x :: S) h = rn 84 15 [l0, l1, l2, l3, l4] (.int (x - y) :: S) h) ∧
  (∀ (l0 l1 l2 l3 l4 : Value) (v0 : Value) (v1 : Value) (v2 : Value) (S : List Value) (h : zH), rn 84 15 [l0, l1, l2, l3, l4] (v2 :: v1 :: v0 :: S) h = if zsum S ≤ 8 then zcall (ev 24 [v0, v1, v2] h) (fun v h => rn 84 18 [l0, l1, l2, l3, l4] (zpush v S) h) else none) ∧
  (∀ (l0 l1 l2 l3 l4 : Value) (x : Int32) (S : List Value) (h : zH), rn 84 18 [l0, l1, l2, l3, l4] (.int x :: S) h = nl l3 (rn 84 20 [l0, l1, l2, l3, .int x] S h)) ∧
  (∀ (l0 l2 l3 l4 : Value) (x : Int32) (S : List Value) (h : zH), rn 84 20 [l0, .int x, l2, l3, l4] S h = rn 84 21 [l0, .int x, l2, l3, l4] (.int x :: S) h) ∧
  (∀ (l0 l1 l2 l3 l4 : Value) (x : Int32) (S : List Value) (h : zH), rn 84 21 [l0, l1, l2, l3, l4] (.int x :: S) h = if x = nI 1 then rn 84 56 [l0, l1, l2, l3, l4] S h else if x = nI 2 then rn 84 71 [l0, l1, l2, l3, l4] S h else if x = nI 3 then rn 84 86 [l0, l1, l2, l3, l4] S h else if x = nI 4 then rn 84 102 [l0, l1, l2, l3, l4] S h else if x = nI 5 then rn 84 118 [l0, l1, l2, l3, l4] S h else rn 84 131 [l0, l1, l2, l3, l4] S h) ∧
  (∀ (l0 l1 l2 l4 : Value) (x : Int32) (S : List Value) (h : zH), rn 84 56 [l0, l1, l2, .int x, l4] S h = rn 84 57 [l0, l1, l2, .int x, l4] (.int x :: S) h) ∧
  (∀ (l0 l1 l2 l3 l4 : Value) (x : Int32) (S : List Value) (h : zH), rn 84 57 [l0, l1, l2, l3, l4] (.int x :: S) h = if x = nI 0 then rn 84 69 [l0, l1, l2, l3, l4] S h else rn 84 60 [l0, l1, l2, l3, l4] S h) ∧
  (∀ (l1 l2 l3 l4 : Value) (x : Nat) (S : List Value) (h : zH), rn 84 60 [.ref x, l1, l2, l3, l4] S h = rn 84 61 [.ref x, l1, l2, l3, l4] (.ref x :: S) h) ∧
  (∀ (l0 l1 l2 l3 l4 : Value) (a : Nat) (S : List Value) (h : zH), rn 84 61 [l0, l1, l2, l3, l4] (.ref a :: S) h = zgf h a 6 0 fun v => rn 84 64 [l0, l1, l2, l3, l4] (v :: S) h) ∧
  (∀ (l0 l1 l3 l4 : Value) (x : Int32) (S : List Value) (h : zH), rn 84 64 [l0, l1, .int x, l3, l4] S h = rn 84 65 [l0, l1, .int x, l3, l4] (.int x :: S) h) ∧
  (∀ (l0 l1 l2 l3 l4 : Value) (a : Nat) (j : Int32) (S : List Value) (h : zH), rn 84 65 [l0, l1, l2, l3, l4] (.int j :: .ref a :: S) h = zli h a 0 j fun x => rn 84 66 [l0, l1, l2, l3, l4] (.int x :: S) h) ∧
  (∀ (l0 l1 l2 l3 l4 : Value) (S : List Value) (h : zH), rn 84 66 [l0, l1, l2, l3, l4] S h = rn 84 70 [l0, l1, l2, l3, l4] S h) ∧
  (∀ (l0 l1 l2 l3 l4 : Value) (S : List Value) (h : zH), rn 84 69 [l0, l1, l2, l3, l4] S h = rn 84 70 [l0, l1, l2, l3, l4] (.int (-1) :: S) h) ∧
  (∀ (l0 l1 l2 l3 l4 : Value) (x : Int32) (h : zH), rn 84 70 [l0, l1, l2, l3, l4] [.int x] h = some (some (.int x), h)) ∧
  (∀ (l0 l1 l2 l4 : Value) (x : Int32) (S : List Value) (h : zH), rn 84 71 [l0, l1, l2, .int x, l4] S h = rn 84 72 [l0, l1, l2, .int x, l4] (.int x :: S) h) ∧
  (∀ (l0 l1 l2 l3 l4 : Value) (x : Int32) (S : List Value) (h : zH), rn 84 72 [l0, l1, l2, l3, l4] (.int x :: S) h = if x = nI 0 then rn 84 84 [l0, l1, l2, l3, l4] S h else rn 84 75 [l0, l1, l2, l3, l4] S h) ∧
  (∀ (l1 l2 l3 l4 : Value) (x : Nat) (S : List Value) (h : zH), rn 84 75 [.ref x, l1, l2, l3, l4] S h = rn 84 76 [.ref x, l1, l2, l3, l4] (.ref x :: S) h) ∧
  (∀ (l0 l1 l2 l3 l4 : Value) (a : Nat) (S : List Value) (h : zH), rn 84 76 [l0, l1, l2, l3, l4] (.ref a :: S) h = zgf h a 6 1 fun v => rn 84 79 [l0, l1, l2, l3, l4] (v :: S) h) ∧
  (∀ (l0 l1 l3 l4 : Value) (x : Int32) (S : List Value) (h : zH), rn 84 79 [l0, l1, .int x, l3, l4] S h = rn 84 80 [l0, l1, .int x, l3, l4] (.int x :: S) h) ∧
  (∀ (l0 l1 l2 l3 l4 : Value) (a : Nat) (j : Int32) (S : List Value) (h : zH), rn 84 80 [l0, l1, l2, l3, l4] (.int j :: .ref a :: S) h = zli h a 0 j fun x => rn 84 81 [l0, l1, l2, l3, l4] (.int x :: S) h) ∧
  (∀ (l0 l1 l2 l3 l4 : Value) (S : List Value) (h : zH), rn 84 81 [l0, l1, l2, l3, l4] S h = rn 84 85 [l0, l1, l2, l3, l4] S h) ∧
  (∀ (l0 l1 l2 l3 l4 : Value) (S : List Value) (h : zH), rn 84 84 [l0, l1, l2, l3, l4] S h = rn 84 85 [l0, l1, l2, l3, l4] (.int (-1) :: S) h) ∧
  (∀ (l0 l1 l2 l3 l4 : Value) (x : Int32) (h : zH), rn 84 85 [l0, l1, l2, l3, l4] [.int x] h = some (some (.int x), h)) ∧
  (∀ (l0 l1 l2 l3 : Value) (x : Int32) (S : List Value) (h : zH), rn 84 86 [l0, l1, l2, l3, .int x] S h = rn 84 88 [l0, l1, l2, l3, .int x] (.int x :: S) h) ∧
  (∀ (l0 l1 l2 l3 l4 : Value) (x : Int32) (S : List Value) (h : zH), rn 84 88 [l0, l1, l2, l3, l4] (.int x :: S) h = if x = nI 0 then rn 84 100 [l0, l1, l2, l3, l4] S h else rn 84 91 [l0, l1, l2, l3, l4] S h) ∧
  (∀ (l1 l2 l3 l4 : Value) (x : Nat) (S : List Value) (h : zH), rn 84 91 [.ref x, l1, l2, l3, l4] S h = rn 84 92 [.ref x, l1, l2, l3, l4] (.ref x :: S) h) ∧
  (∀ (l0 l1 l2 l3 l4 : Value) (a : Nat) (S : List Value) (h : zH), rn 84 92 [l0, l1, l2, l3, l4] (.ref a :: S) h = zgf h a 6 2 fun v => rn 84 95 [l0, l1, l2, l3, l4] (v :: S) h) ∧
  (∀ (l0 l1 l3 l4 : Value) (x : Int32) (S : List Value) (h : zH), rn 84 95 [l0, l1, .int x, l3, l4] S h = rn 84 96 [l0, l1, .int x, l3, l4] (.int x :: S) h) ∧
  (∀ (l0 l1 l2 l3 l4 : Value) (a : Nat) (j : Int32) (S : List Value) (h : zH), rn 84 96 [l0, l1, l2, l3, l4] (.int j :: .ref a :: S) h = zli h a 0 j fun x => rn 84 97 [l0, l1, l2, l3, l4] (.int x :: S) h) ∧
  (∀ (l0 l1 l2 l3 l4 : Value) (S : List Value) (h : zH), rn 84 97 [l0, l1, l2, l3, l4] S h = rn 84 101 [l0, l1, l2, l3, l4] S h) ∧
  (∀ (l0 l1 l2 l3 l4 : Value) (S : List Value) (h : zH), rn 84 100 [l0, l1, l2, l3, l4] S h = rn 84 101 [l0, l1, l2, l3, l4] (.int (-1) :: S) h) ∧
  (∀ (l0 l1 l2 l3 l4 : Value) (x : Int32) (h : zH), rn 84 101 [l0, l1, l2, l3, l4] [.int x] h = some (some (.int x), h)) ∧
  (∀ (l0 l1 l2 l3 : Value) (x : Int32) (S : List Value) (h : zH), rn 84 102 [l0, l1, l2, l3, .int x] S h = rn 84 104 [l0, l1, l2, l3, .int x] (.int x :: S) h) ∧
  (∀ (l0 l1 l2 l3 l4 : Value) (x : Int32) (S : List Value) (h : zH), rn 84 104 [l0, l1, l2, l3, l4] (.int x :: S) h = if x = nI 0 then rn 84 116 [l0, l1, l2, l3, l4] S h else rn 84 107 [l0, l1, l2, l3, l4] S h) ∧
  (∀ (l1 l2 l3 l4 : Value) (x : Nat) (S : List Value) (h : zH), rn 84 107 [.ref x, l1, l2, l3, l4] S h = rn 84 108 [.ref x, l1, l2, l3, l4] (.ref x :: S) h) ∧
  (∀ (l0 l1 l2 l3 l4 : Value) (a : Nat) (S : List Value) (h : zH), rn 84 108 [l0, l1, l2, l3, l4] (.ref a :: S) h = zgf h a 6 3 fun v => rn 84 111 [l0, l1, l2, l3, l4] (v :: S) h) ∧
  (∀ (l0 l1 l3 l4 : Value) (x : Int32) (S : List Value) (h : zH), rn 84 111 [l0, l1, .int x, l3, l4] S h = rn 84 112 [l0, l1, .int x, l3, l4] (.int x :: S) h) ∧
  (∀ (l0 l1 l2 l3 l4 : Value) (a : Nat) (j : Int32) (S : List Value) (h : zH), rn 84 112 [l0, l1, l2, l3, l4] (.int j :: .ref a :: S) h = zli h a 0 j fun x => rn 84 113 [l0, l1, l2, l3, l4] (.int x :: S) h) ∧
  (∀ (l0 l1 l2 l3 l4 : Value) (S : List Value) (h : zH), rn 84 113 [l0, l1, l2, l3, l4] S h = rn 84 117 [l0, l1, l2, l3, l4] S h) ∧
  (∀ (l0 l1 l2 l3 l4 : Value) (S : List Value) (h : zH), rn 84 116 [l0, l1, l2, l3, l4] S h = rn 84 117 [l0, l1, l2, l3, l4] (.int (-1) :: S) h) ∧
  (∀ (l0 l1 l2 l3 l4 : Value) (x : Int32) (h : zH), rn 84 117 [l0, l1, l2, l3, l4] [.int x] h = some (some (.int x), h)) ∧
  (∀ (l0 l1 l3 l4 : Value) (x : Int32) (S : List Value) (h : zH), rn 84 118 [l0, l1, .int x, l3, l4] S h = rn 84 119 [l0, l1, .int x, l3, l4] (.int x :: S) h) ∧
  (∀ (l0 l1 l2 l3 l4 : Value) (x : Int32) (S : List Value) (h : zH), rn 84 119 [l0, l1, l2, l3, l4] (.int x :: S) h = if x = nI 0 then rn 84 122 [l0, l1, l2, l3, l4] S h else rn 84 129 [l0, l1, l2, l3, l4] S h) ∧
  (∀ (l1 l2 l3 l4 : Value) (x : Nat) (S : List Value) (h : zH), rn 84 122 [.ref x, l1, l2, l3, l4] S h = rn 84 123 [.ref x, l1, l2, l3, l4] (.ref x :: S) h) ∧
  (∀ (l0 l1 l2 l3 l4 : Value) (a : Nat) (S : List Value) (h : zH), rn 84 123 [l0, l1, l2, l3, l4] (.ref a :: S) h = zgf h a 6 4 fun v => rn 84 126 [l0, l1, l2, l3, l4] (v :: S) h) ∧
  (∀ (l0 l1 l2 l3 l4 : Value) (S : List Value) (h : zH), rn 84 126 [l0, l1, l2, l3, l4] S h = rn 84 130 [l0, l1, l2, l3, l4] S h) ∧
  (∀ (l0 l1 l2 l3 l4 : Value) (S : List Value) (h : zH), rn 84 129 [l0, l1, l2, l3, l4] S h = rn 84 130 [l0, l1, l2, l3, l4] (.int (-1) :: S) h) ∧
  (∀ (l0 l1 l2 l3 l4 : Value) (x : Int32) (h : zH), rn 84 130 [l0, l1, l2, l3, l4] [.int x] h = some (some (.int x), h)) ∧
  (∀ (l0 l1 l2 l3 l4 : Value) (S : List Value) (h : zH), rn 84 131 [l0, l1, l2, l3, l4] S h = rn 84 132 [l0, l1, l2, l3, l4] (.int (-1) :: S) h) ∧
  (∀ (l0 l1 l2 l3 l4 : Value) (x : Int32) (h : zH), rn 84 132 [l0, l1, l2, l3, l4] [.int x] h = some (some (.int x), h)) := ⟨fun _ _ _ _ _ _ _ => r_iload_n (show zdec 84 0 = some (.iload_n 2, 1) by decide +kernel) rfl rfl,
  fun _ _ _ _ _ _ _ => r_iconst (show zdec 84 1 = some (.iconst 0, 1) by decide +kernel) rfl rfl,
  fun _ _ _ _ _ _ _ => r_iconst (show zdec 84 2 = some (.iconst 1, 1) by decide +kernel) rfl rfl,
  fun _ _ _ _ _ _ _ _ _ _ => r_cS [_, _, _] rfl (show zdec 84 3 = some (.invokestatic 35, 3) by decide +kernel) (show zst.lookup (84 * zKEY + 35) = some (3, 24, 3, 0) by decide +kernel) (by decide) rfl,
  fun _ _ _ _ _ _ _ _ => r_istore_n (show zdec 84 6 = some (.istore_n 3, 1) by decide +kernel) rfl rfl (Nat.le_of_ble_eq_true rfl) rfl rfl,
  fun _ _ _ _ _ _ _ => r_iload_n (show zdec 84 7 = some (.iload_n 2, 1) by decide +kernel) rfl rfl,
  fun _ _ _ _ _ _ _ => r_iconst (show zdec 84 8 = some (.iconst 0, 1) by decide +kernel) rfl rfl,
  fun _ _ _ _ _ _ _ => r_aload_nr (show zdec 84 9 = some (.aload_n 0, 1) by decide +kernel) rfl rfl,
  fun _ _ _ _ _ _ _ _ => r_getfield (show zdec 84 10 = some (.getfield 25, 3) by decide +kernel) (show zft.lookup (84 * zKEY + 25) = some (6, 4) by decide +kernel) rfl,
  fun _ _ _ _ _ _ _ => r_iconst (show zdec 84 13 = some (.iconst 1, 1) by decide +kernel) rfl rfl,
  fun _ _ _ _ _ _ _ _ _ => r_isub (show zdec 84 14 = some (.isub, 1) by decide +kernel) rfl,
  fun _ _ _ _ _ _ _ _ _ _ => r_cS [_, _, _] rfl (show zdec 84 15 = some (.invokestatic 35, 3) by decide +kernel) (show zst.lookup (84 * zKEY + 35) = some (3, 24, 3, 0) by decide +kernel) (by decide) rfl,
  fun _ _ _ _ _ _ _ _ => r_istore (show zdec 84 18 = some (.istore 4, 2) by decide +kernel) rfl (Nat.le_of_ble_eq_true rfl) rfl rfl,
  fun _ _ _ _ _ _ _ => r_iload_n (show zdec 84 20 = some (.iload_n 1, 1) by decide +kernel) rfl rfl,
  fun _ _ _ _ _ _ _ _ => (r_tsw (l := 1) (ts := [56, 71, 86, 102, 118]) (dt := 131) (show zdec 84 21 = some (.tableswitch 110 1 5 #[35, 50, 65, 81, 97], 35) by decide +kernel) (by decide +kernel)),
  fun _ _ _ _ _ _ _ => r_iload_n (show zdec 84 56 = some (.iload_n 3, 1) by decide +kernel) rfl rfl,
  fun _ _ _ _ _ _ _ _ => r_ifeq (show zdec 84 57 = some (.ifCond .eq 12, 3) by decide +kernel) rfl rfl,
  fun _ _ _ _ _ _ _ => r_aload_nr (show zdec 84 60 = some (.aload_n 0, 1) by decide +kernel) rfl rfl,
  fun _ _ _ _ _ _ _ _ => r_getfield (show zdec 84 61 = some (.getfield 9, 3) by decide +kernel) (show zft.lookup (84 * zKEY + 9) = some (6, 0) by decide +kernel) rfl,
  fun _ _ _ _ _ _ _ => r_iload_n (show zdec 84 64 = some (.iload_n 2, 1) by decide +kernel) rfl rfl,
  fun _ _ _ _ _ _ _ _ _ => r_iald (show zdec 84 65 = some (.iaload, 1) by decide +kernel) rfl,
  fun _ _ _ _ _ _ _ => r_goto (show zdec 84 66 = some (.goto 4, 3) by decide +kernel) rfl,
  fun _ _ _ _ _ _ _ => r_iconst (show zdec 84 69 = some (.iconst (-1), 1) by decide +kernel) rfl rfl,
  fun _ _ _ _ _ _ _ => r_ireti (show zdec 84 70 = some (.ireturn, 1) by decide +kernel) (by decide +kernel),
  fun _ _ _ _ _ _ _ => r_iload_n (show zdec 84 71 = some (.iload_n 3, 1) by decide +kernel) rfl rfl,
  fun _ _ _ _ _ _ _ _ => r_ifeq (show zdec 84 72 = some (.ifCond .eq 12, 3) by decide +kernel) rfl rfl,
  fun _ _ _ _ _ _ _ => r_aload_nr (show zdec 84 75 = some (.aload_n 0, 1) by decide +kernel) rfl rfl,
  fun _ _ _ _ _ _ _ _ => r_getfield (show zdec 84 76 = some (.getfield 16, 3) by decide +kernel) (show zft.lookup (84 * zKEY + 16) = some (6, 1) by decide +kernel) rfl,
  fun _ _ _ _ _ _ _ => r_iload_n (show zdec 84 79 = some (.iload_n 2, 1) by decide +kernel) rfl rfl,
  fun _ _ _ _ _ _ _ _ _ => r_iald (show zdec 84 80 = some (.iaload, 1) by decide +kernel) rfl,
  fun _ _ _ _ _ _ _ => r_goto (show zdec 84 81 = some (.goto 4, 3) by decide +kernel) rfl,
  fun _ _ _ _ _ _ _ => r_iconst (show zdec 84 84 = some (.iconst (-1), 1) by decide +kernel) rfl rfl,
  fun _ _ _ _ _ _ _ => r_ireti (show zdec 84 85 = some (.ireturn, 1) by decide +kernel) (by decide +kernel),
  fun _ _ _ _ _ _ _ => r_iload (show zdec 84 86 = some (.iload 4, 2) by decide +kernel) rfl rfl,
  fun _ _ _ _ _ _ _ _ => r_ifeq (show zdec 84 88 = some (.ifCond .eq 12, 3) by decide +kernel) rfl rfl,
  fun _ _ _ _ _ _ _ => r_aload_nr (show zdec 84 91 = some (.aload_n 0, 1) by decide +kernel) rfl rfl,
  fun _ _ _ _ _ _ _ _ => r_getfield (show zdec 84 92 = some (.getfield 19, 3) by decide +kernel) (show zft.lookup (84 * zKEY + 19) = some (6, 2) by decide +kernel) rfl,
  fun _ _ _ _ _ _ _ => r_iload_n (show zdec 84 95 = some (.iload_n 2, 1) by decide +kernel) rfl rfl,
  fun _ _ _ _ _ _ _ _ _ => r_iald (show zdec 84 96 = some (.iaload, 1) by decide +kernel) rfl,
  fun _ _ _ _ _ _ _ => r_goto (show zdec 84 97 = some (.goto 4, 3) by decide +kernel) rfl,
  fun _ _ _ _ _ _ _ => r_iconst (show zdec 84 100 = some (.iconst (-1), 1) by decide +kernel) rfl rfl,
  fun _ _ _ _ _ _ _ => r_ireti (show zdec 84 101 = some (.ireturn, 1) by decide +kernel) (by decide +kernel),
  fun _ _ _ _ _ _ _ => r_iload (show zdec 84 102 = some (.iload 4, 2) by decide +kernel) rfl rfl,
  fun _ _ _ _ _ _ _ _ => r_ifeq (show zdec 84 104 = some (.ifCond .eq 12, 3) by decide +kernel) rfl rfl,
  fun _ _ _ _ _ _ _ => r_aload_nr (show zdec 84 107 = some (.aload_n 0, 1) by decide +kernel) rfl rfl,
  fun _ _ _ _ _ _ _ _ => r_getfield (show zdec 84 108 = some (.getfield 22, 3) by decide +kernel) (show zft.lookup (84 * zKEY + 22) = some (6, 3) by decide +kernel) rfl,
  fun _ _ _ _ _ _ _ => r_iload_n (show zdec 84 111 = some (.iload_n 2, 1) by decide +kernel) rfl rfl,
  fun _ _ _ _ _ _ _ _ _ => r_iald (show zdec 84 112 = some (.iaload, 1) by decide +kernel) rfl,
  fun _ _ _ _ _ _ _ => r_goto (show zdec 84 113 = some (.goto 4, 3) by decide +kernel) rfl,
  fun _ _ _ _ _ _ _ => r_iconst (show zdec 84 116 = some (.iconst (-1), 1) by decide +kernel) rfl rfl,
  fun _ _ _ _ _ _ _ => r_ireti (show zdec 84 117 = some (.ireturn, 1) by decide +kernel) (by decide +kernel),
  fun _ _ _ _ _ _ _ => r_iload_n (show zdec 84 118 = some (.iload_n 2, 1) by decide +kernel) rfl rfl,
  fun _ _ _ _ _ _ _ _ => r_ifne (show zdec 84 119 = some (.ifCond .ne 10, 3) by decide +kernel) rfl rfl,
  fun _ _ _ _ _ _ _ => r_aload_nr (show zdec 84 122 = some (.aload_n 0, 1) by decide +kernel) rfl rfl,
  fun _ _ _ _ _ _ _ _ => r_getfield (show zdec 84 123 = some (.getfield 25, 3) by decide +kernel) (show zft.lookup (84 * zKEY + 25) = some (6, 4) by decide +kernel) rfl,
  fun _ _ _ _ _ _ _ => r_goto (show zdec 84 126 = some (.goto 4, 3) by decide +kernel) rfl,
  fun _ _ _ _ _ _ _ => r_iconst (show zdec 84 129 = some (.iconst (-1), 1) by decide +kernel) rfl rfl,
  fun _ _ _ _ _ _ _ => r_ireti (show zdec 84 130 = some (.ireturn, 1) by decide +kernel) (by decide +kernel),
  fun _ _ _ _ _ _ _ => r_iconst (show zdec 84 131 = some (.iconst (-1), 1) by decide +kernel) rfl rfl,
  fun _ _ _ _ _ _ _ => r_ireti (show zdec 84 132 = some (.ireturn, 1) by decide +kernel) (by decide +kernel)⟩
theorem ze_84 : ∀ (a0 : Nat) (a1 : Int32) (a2 : Int32) (h : zH), ev 84 [.ref a0, .int a1, .int a2] h = rn 84 0 [.ref a0, .int a1, .int a2, .float 0, .float 0] [] h := fun _ _ _ _ => if_pos (Nat.le_of_ble_eq_true rfl)
-- PayrollRun/Slip.has(I)Z
theorem zr_93 : (∀ (l0 : Value) (x : Int32) (S : List Value) (h : zH), rn 93 0 [l0, .int x] S h = rn 93 1 [l0, .int x] (.int x :: S) h) ∧
  (∀ (l0 l1 : Value) (S : List Value) (h : zH), rn 93 1 [l0, l1] S h = rn 93 2 [l0, l1] (.int (nI 0) :: S) h) ∧
  (∀ (l1 : Value) (x : Nat) (S : List Value) (h : zH), rn 93 2 [.ref x, l1] S h = rn 93 3 [.ref x, l1] (.ref x :: S) h) ∧
  (∀ (l0 l1 : Value) (a : Nat) (S : List Value) (h : zH), rn 93 3 [l0, l1] (.ref a :: S) h = zgf h a 7 2 fun v => rn 93 6 [l0, l1] (v :: S) h) ∧
  (∀ (l0 l1 : Value) (S : List Value) (h : zH), rn 93 6 [l0, l1] S h = rn 93 7 [l0, l1] (.int (nI 1) :: S) h) ∧
  (∀ (l0 l1 : Value) (x : Int32) (y : Int32) (S : List Value) (h : zH), rn 93 7 [l0, l1] (.int y :: .int x :: S) h = rn 93 8 [l0, l1] (.int (x - y) :: S) h) ∧
  (∀ (l0 l1 : Value) (v0 : Value) (v1 : Value) (v2 : Value) (S : List Value) (h : zH), rn 93 8 [l0, l1] (v2 :: v1 :: v0 :: S) h = if zsum S ≤ 8 then zcall (ev 24 [v0, v1, v2] h) (fun v h => rn 93 11 [l0, l1] (zpush v S) h) else none) ∧
  (∀ (l0 l1 : Value) (x : Int32) (h : zH), rn 93 11 [l0, l1] [.int x] h = if x = nI 0 ∨ x = nI 1 then some (some (.int x), h) else none) := ⟨fun _ _ _ _ => r_iload_n (show zdec 93 0 = some (.iload_n 1, 1) by decide +kernel) rfl rfl,
  fun _ _ _ _ => r_iconst (show zdec 93 1 = some (.iconst 0, 1) by decide +kernel) rfl rfl,
  fun _ _ _ _ => r_aload_nr (show zdec 93 2 = some (.aload_n 0, 1) by decide +kernel) rfl rfl,
  fun _ _ _ _ _ => r_getfield (show zdec 93 3 = some (.getfield 19, 3) by decide +kernel) (show zft.lookup (93 * zKEY + 19) = some (7, 2) by decide +kernel) rfl,
  fun _ _ _ _ => r_iconst (show zdec 93 6 = some (.iconst 1, 1) by decide +kernel) rfl rfl,
  fun _ _ _ _ _ _ => r_isub (show zdec 93 7 = some (.isub, 1) by decide +kernel) rfl,
  fun _ _ _ _ _ _ _ => r_cS [_, _, _] rfl (show zdec 93 8 = some (.invokestatic 27, 3) by decide +kernel) (show zst.lookup (93 * zKEY + 27) = some (3, 24, 3, 0) by decide +kernel) (by decide) rfl,
  fun _ _ _ _ => r_iretb (show zdec 93 11 = some (.ireturn, 1) by decide +kernel) (by decide +kernel)⟩
theorem ze_93 : ∀ (a0 : Nat) (a1 : Int32) (h : zH), ev 93 [.ref a0, .int a1] h = rn 93 0 [.ref a0, .int a1] [] h := fun _ _ _ => if_pos (Nat.le_of_ble_eq_true rfl)
-- PayrollRun/Slip.paid()J
theorem zr_155 : (∀ (x : Nat) (S : List Value) (h : zH), rn 155 0 [.ref x] S h = rn 155 1 [.ref x] (.ref x :: S) h) ∧
  (∀ (x : Nat) (S : List Value) (h : zH), rn 155 1 [.ref x] S h = rn 155 2 [.ref x] (.ref x :: S) h) ∧
  (∀ (l0 : Value) (a : Nat) (S : List Value) (h : zH), rn 155 2 [l0] (.ref a :: S) h = zgf h a 7 2 fun v => rn 155 5 [l0] (v :: S) h) ∧
  (∀ (l0 : Value) (S : List Value) (h : zH), rn 155 5 [l0] S h = rn 155 6 [l0] (.int (nI 1) :: S) h) ∧
  (∀ (l0 : Value) (x : Int32) (y : Int32) (S : List Value) (h : zH), rn 155 6 [l0] (.int y :: .int x :: S) h = rn 155 7 [l0] (.int (x - y) :: S) h) ∧
  (∀ (l0 : Value) (o : Nat) (v0 : Value) (S : List Value) (h : zH), rn 155 7 [l0] (v0 :: .ref o :: S) h = if zkd h o = 7 ∧ zsum S ≤ 8 then zcall (ev 93 [.ref o, v0] h) (fun v h => rn 155 10 [l0] (zpush v S) h) else none) ∧
  (∀ (l0 : Value) (x : Int32) (S : List Value) (h : zH), rn 155 10 [l0] (.int x :: S) h = if x = nI 0 then rn 155 27 [l0] S h else rn 155 13 [l0] S h) ∧
  (∀ (x : Nat) (S : List Value) (h : zH), rn 155 13 [.ref x] S h = rn 155 14 [.ref x] (.ref x :: S) h) ∧
  (∀ (l0 : Value) (a : Nat) (S : List Value) (h : zH), rn 155 14 [l0] (.ref a :: S) h = zgf h a 7 1 fun v => rn 155 17 [l0] (v :: S) h) ∧
  (∀ (x : Nat) (S : List Value) (h : zH), rn 155 17 [.ref x] S h = rn 155 18 [.ref x] (.ref x :: S) h) ∧
  (∀ (l0 : Value) (a : Nat) (S : List Value) (h : zH), rn 155 18 [l0] (.ref a :: S) h = zgf h a 7 2 fun v => rn 155 21 [l0] (v :: S) h) ∧
  (∀ (l0 : Value) (S : List Value) (h : zH), rn 155 21 [l0] S h = rn 155 22 [l0] (.int (nI 1) :: S) h) ∧
  (∀ (l0 : Value) (x : Int32) (y : Int32) (S : List Value) (h : zH), rn 155 22 [l0] (.int y :: .int x :: S) h = rn 155 23 [l0] (.int (x - y) :: S) h) ∧
  (∀ (l0 : Value) (a : Nat) (j : Int32) (S : List Value) (h : zH), rn 155 23 [l0] (.int j :: .ref a :: S) h = zlj h a j fun x => rn 155 24 [l0] (.long x :: S) h) ∧
  (∀ (l0 : Value) (S : List Value) (h : zH), rn 155 24 [l0] S h = rn 155 28 [l0] S h) ∧
  (∀ (l0 : Value) (S : List Value) (h : zH), rn 155 27 [l0] S h = rn 155 28 [l0] (.long 0 :: S) h) ∧
  (∀ (l0 : Value) (x : Int64) (h : zH), rn 155 28 [l0] [.long x] h = some (some (.long x), h)) := ⟨fun _ _ _ => r_aload_nr (show zdec 155 0 = some (.aload_n 0, 1) by decide +kernel) rfl rfl,
  fun _ _ _ => r_aload_nr (show zdec 155 1 = some (.aload_n 0, 1) by decide +kernel) rfl rfl,
  fun _ _ _ _ => r_getfield (show zdec 155 2 = some (.getfield 19, 3) by decide +kernel) (show zft.lookup (155 * zKEY + 19) = some (7, 2) by decide +kernel) rfl,
  fun _ _ _ => r_iconst (show zdec 155 5 = some (.iconst 1, 1) by decide +kernel) rfl rfl,
  fun _ _ _ _ _ => r_isub (show zdec 155 6 = some (.isub, 1) by decide +kernel) rfl,
  fun _ _ _ _ _ => r_cV [_] rfl (show zdec 155 7 = some (.invokevirtual 31, 3) by decide +kernel) (show zst.lookup (155 * zKEY + 31) = some (1, 93, 1, 7) by decide +kernel) (by decide) rfl,
  fun _ _ _ _ => r_ifeq (show zdec 155 10 = some (.ifCond .eq 17, 3) by decide +kernel) rfl rfl,
  fun _ _ _ => r_aload_nr (show zdec 155 13 = some (.aload_n 0, 1) by decide +kernel) rfl rfl,
  fun _ _ _ _ => r_getfield (show zdec 155 14 = some (.getfield 15, 3) by decide +kernel) (show zft.lookup (155 * zKEY + 15) = some (7, 1) by decide +kernel) rfl,
  fun _ _ _ => r_aload_nr (show zdec 155 17 = some (.aload_n 0, 1) by decide +kernel) rfl rfl,
  fun _ _ _ _ => r_getfield (show zdec 155 18 = some (.getfield 19, 3) by decide +kernel) (show zft.lookup (155 * zKEY + 19) = some (7, 2) by decide +kernel) rfl,
  fun _ _ _ => r_iconst (show zdec 155 21 = some (.iconst 1, 1) by decide +kernel) rfl rfl,
  fun _ _ _ _ _ => r_isub (show zdec 155 22 = some (.isub, 1) by decide +kernel) rfl,
  fun _ _ _ _ _ => r_lald (show zdec 155 23 = some (.laload, 1) by decide +kernel) rfl,
  fun _ _ _ => r_goto (show zdec 155 24 = some (.goto 4, 3) by decide +kernel) rfl,
  fun _ _ _ => r_lconst (show zdec 155 27 = some (.lconst 0, 1) by decide +kernel) rfl rfl,
  fun _ _ _ => r_lret (show zdec 155 28 = some (.lreturn, 1) by decide +kernel) (by decide +kernel)⟩
theorem ze_155 : ∀ (a0 : Nat) (h : zH), ev 155 [.ref a0] h = rn 155 0 [.ref a0] [] h := fun _ _ => if_pos (Nat.le_of_ble_eq_true rfl)
-- PayrollRun/Trial.nextPayout(LPayrollRun/Books;II)J
theorem zr_157 : (∀ (l0 l1 l2 l3 l4 : Value) (S : List Value) (h : zH), rn 157 0 [l0, l1, l2, l3, l4] S h = ldA l1 (rn 157 1 [l0, l1, l2, l3, l4] (l1 :: S) h)) ∧
  (∀ (l0 l1 l2 l3 l4 : Value) (a : Nat) (S : List Value) (h : zH), rn 157 1 [l0, l1, l2, l3, l4] (.ref a :: S) h = zgf h a 1 2 fun v => rn 157 4 [l0, l1, l2, l3, l4] (v :: S) h) ∧
  (∀ (l0 l1 l2 l3 l4 : Value) (x : Int32) (S : List Value) (h : zH), rn 157 4 [l0, l1, l2, l3, l4] (.int x :: S) h = nl l3 (rn 157 6 [l0, l1, l2, l3, .int x] S h)) ∧
  (∀ (l0 l1 l2 l3 : Value) (x : Int32) (S : List Value) (h : zH), rn 157 6 [l0, l1, l2, l3, .int x] S h = rn 157 8 [l0, l1, l2, l3, .int x] (.int x :: S) h) ∧
  (∀ (l0 l1 l2 l3 l4 : Value) (v0 : Value) (S : List Value) (h : zH), rn 157 8 [l0, l1, l2, l3, l4] (v0 :: S) h = if zsum S ≤ 8 then zcall (ev 25 [v0] h) (fun v h => rn 157 11 [l0, l1, l2, l3, l4] (zpush v S) h) else none) ∧
  (∀ (l0 l1 l2 l3 l4 : Value) (x : Int32) (S : List Value) (h : zH), rn 157 11 [l0, l1, l2, l3, l4] (.int x :: S) h = if x = nI 0 then rn 157 14 [l0, l1, l2, l3, l4] S h else rn 157 18 [l0, l1, l2, l3, l4] S h) ∧
  (∀ (l0 l1 l2 l3 l4 : Value) (S : List Value) (h : zH), rn 157 14 [l0, l1, l2, l3, l4] S h = rn 157 17 [l0, l1, l2, l3, l4] (.long (-2) :: S) h) ∧
  (∀ (l0 l1 l2 l3 l4 : Value) (x : Int64) (h : zH), rn 157 17 [l0, l1, l2, l3, l4] [.long x] h = some (some (.long x), h)) ∧
  (∀ (l1 l2 l3 l4 : Value) (x : Nat) (S : List Value) (h : zH), rn 157 18 [.ref x, l1, l2, l3, l4] S h = rn 157 19 [.ref x, l1, l2, l3, l4] (.ref x :: S) h) ∧
  (∀ (l0 l1 l2 l3 l4 : Value) (a : Nat) (S : List Value) (h : zH), rn 157 19 [l0, l1, l2, l3, l4] (.ref a :: S) h = zgf h a 9 1 fun v => rn 157 22 [l0, l1, l2, l3, l4] (v :: S) h) ∧
  (∀ (l0 l1 l2 l3 l4 : Value) (S : List Value) (h : zH), rn 157 22 [l0, l1, l2, l3, l4] S h = ldA l1 (rn 157 23 [l0, l1, l2, l3, l4] (l1 :: S) h)) ∧
  (∀ (l0 l1 l2 l3 l4 : Value) (a : Nat) (S : List Value) (h : zH), rn 157 23 [l0, l1, l2, l3, l4] (.ref a :: S) h = zgf h a 1 0 fun v => rn 157 26 [l0, l1, l2, l3, l4] (v :: S) h) ∧
  (∀ (l0 l1 l3 l4 : Value) (x : Int32) (S : List Value) (h : zH), rn 157 26 [l0, l1, .int x, l3, l4] S h = rn 157 27 [l0, l1, .int x, l3, l4] (.int x :: S) h) ∧
  (∀ (l0 l1 l2 l3 l4 : Value) (a : Nat) (j : Int32) (S : List Value) (h : zH), rn 157 27 [l0, l1, l2, l3, l4] (.int j :: .ref a :: S) h = zlq h a j fun x => rn 157 28 [l0, l1, l2, l3, l4] (va_rf x :: S) h) ∧
  (∀ (l0 l1 l2 l3 l4 : Value) (o : Nat) (v0 : Value) (S : List Value) (h : zH), rn 157 28 [l0, l1, l2, l3, l4] (v0 :: .ref o :: S) h = if zkd h o = 10 ∧ zsum S ≤ 8 then zcall (ev 19 [.ref o, v0] h) (fun v h => rn 157 31 [l0, l1, l2, l3, l4] (zpush v S) h) else none) ∧
  (∀ (l1 l2 l3 l4 : Value) (x : Nat) (S : List Value) (h : zH), rn 157 31 [.ref x, l1, l2, l3, l4] S h = rn 157 32 [.ref x, l1, l2, l3, l4] (.ref x :: S) h) ∧
  (∀ (l0 l1 l2 l3 l4 : Value) (a : Nat) (S : List Value) (h : zH), rn 157 32 [l0, l1, l2, l3, l4] (.ref a :: S) h = zgf h a 9 1 fun v => rn 157 35 [l0, l1, l2, l3, l4] (v :: S) h) ∧
  (∀ (l0 l1 l2 l3 l4 : Value) (a : Nat) (S : List Value) (h : zH), rn 157 35 [l0, l1, l2, l3, l4] (.ref a :: S) h = zgf h a 10 0 fun v => rn 157 38 [l0, l1, l2, l3, l4] (v :: S) h) ∧
  (∀ (l0 l1 l2 l3 l4 : Value) (S : List Value) (h : zH), rn 157 38 [l0, l1, l2, l3, l4] S h = rn 157 40 [l0, l1, l2, l3, l4] (.int (nI 24) :: S) h) ∧
  (∀ (l0 l1 l2 l3 : Value) (x : Int32) (S : List Value) (h : zH), rn 157 40 [l0, l1, l2, l3, .int x] S h = rn 157 42 [l0, l1, l2, l3, .int x] (.int x :: S) h) ∧
  (∀ (l0 l1 l2 l3 l4 : Value) (x : Int32) (y : Int32) (S : List Value) (h : zH), rn 157 42 [l0, l1, l2, l3, l4] (.int y :: .int x :: S) h = rn 157 43 [l0, l1, l2, l3, l4] (.int (x + y) :: S) h) ∧
  (∀ (l0 l1 l2 l3 l4 : Value) (v : Value) (w : Value) (S : List Value) (h : zH), rn 157 43 [l0, l1, l2, l3, l4] (v :: w :: S) h = c1 v (c1 w (rn 157 44 [l0, l1, l2, l3, l4] (v :: w :: v :: w :: S) h))) ∧
  (∀ (l0 l1 l2 l3 l4 : Value) (a : Nat) (j : Int32) (S : List Value) (h : zH), rn 157 44 [l0, l1, l2, l3, l4] (.int j :: .ref a :: S) h = zli h a 0 j fun x => rn 157 45 [l0, l1, l2, l3, l4] (.int x :: S) h) ∧
  (∀ (l0 l1 l2 l4 : Value) (x : Int32) (S : List Value) (h : zH), rn 157 45 [l0, l1, l2, .int x, l4] S h = rn 157 46 [l0, l1, l2, .int x, l4] (.int x :: S) h) ∧
  (∀ (l0 l1 l2 l3 l4 : Value) (x : Int32) (y : Int32) (S : List Value) (h : zH), rn 157 46 [l0, l1, l2, l3, l4] (.int y :: .int x :: S) h = rn 157 47 [l0, l1, l2, l3, l4] (.int (x + y) :: S) h) ∧
  (∀ (l0 l1 l2 l3 l4 : Value) (a : Nat) (j : Int32) (x : Int32) (S : List Value) (h : zH), rn 157 47 [l0, l1, l2, l3, l4] (.int x :: .int j :: .ref a :: S) h = zsi h a 0 j x fun h => rn 157 48 [l0, l1, l2, l3, l4] S h) ∧
  (∀ (l1 l2 l3 l4 : Value) (x : Nat) (S : List Value) (h : zH), rn 157 48 [.ref x, l1, l2, l3, l4] S h = rn 157 49 [.ref x, l1, l2, l3, l4] (.ref x :: S) h) ∧
  (∀ (l0 l1 l2 l3 : Value) (x : Int32) (S : List Value) (h : zH), rn 157 49 [l0, l1, l2, l3, .int x] S h = rn 157 51 [l0, l1, l2, l3, .int x] (.int x :: S) h) ∧
  (∀ (l0 l1 l2 l3 l4 : Value) (S : List Value) (h : zH), rn 157 51 [l0, l1, l2, l3, l4] S h = ldA l1 (rn 157 52 [l0, l1, l2, l3, l4] (l1 :: S) h)) ∧
  (∀ (l0 l1 l2 l3 l4 : Value) (o : Nat) (v0 : Value) (v1 : Value) (S : List Value) (h : zH), rn 157 52 [l0, l1, l2, l3, l4] (v1 :: v0 :: .ref o :: S) h = if zkd h o = 9 ∧ zsum S ≤ 8 then zcall (ev 158 [.ref o, v0, v1] h) (fun v h => rn 157 55 [l0, l1, l2, l3, l4] (zpush v S) h) else none) ∧
  (∀ (l0 l1 l2 l3 l4 : Value) (x : Int64) (h : zH), rn 157 55 [l0, l1, l2, l3, l4] [.long x] h = some (some (.long x), h)) := ⟨fun _ _ _ _ _ _ _ => r_aload_n (show zdec 157 0 = some (.aload_n 1, 1) by decide +kernel) rfl rfl,
  fun _ _ _ _ _ _ _ _ => r_getfield (show zdec 157 1 = some (.getfield 32, 3) by decide +kernel) (show zft.lookup (157 * zKEY + 32) = some (1, 2) by decide +kernel) rfl,
  fun _ _ _ _ _ _ _ _ => r_istore (show zdec 157 4 = some (.istore 4, 2) by decide +kernel) rfl (Nat.le_of_ble_eq_true rfl) rfl rfl,
  fun _ _ _ _ _ _ _ => r_iload (show zdec 157 6 = some (.iload 4, 2) by decide +kernel) rfl rfl,
  fun _ _ _ _ _ _ _ _ => r_cS [_] rfl (show zdec 157 8 = some (.invokestatic 38, 3) by decide +kernel) (show zst.lookup (157 * zKEY + 38) = some (3, 25, 1, 0) by decide +kernel) (by decide) rfl,
  fun _ _ _ _ _ _ _ _ => r_ifne (show zdec 157 11 = some (.ifCond .ne 7, 3) by decide +kernel) rfl rfl,
  fun _ _ _ _ _ _ _ => r_ldc2 (show zdec 157 14 = some (.ldc2_w 42, 3) by decide +kernel) (show zlt.lookup (157 * zKEY + 42) = some (-2) by decide +kernel) rfl,
  fun _ _ _ _ _ _ _ => r_lret (show zdec 157 17 = some (.lreturn, 1) by decide +kernel) (by decide +kernel),
  fun _ _ _ _ _ _ _ => r_aload_nr (show zdec 157 18 = some (.aload_n 0, 1) by decide +kernel) rfl rfl,
  fun _ _ _ _ _ _ _ _ => r_getfield (show zdec 157 19 = some (.getfield 21, 3) by decide +kernel) (show zft.lookup (157 * zKEY + 21) = some (9, 1) by decide +kernel) rfl,
  fun _ _ _ _ _ _ _ => r_aload_n (show zdec 157 22 = some (.aload_n 1, 1) by decide +kernel) rfl rfl,
  fun _ _ _ _ _ _ _ _ => r_getfield (show zdec 157 23 = some (.getfield 44, 3) by decide +kernel) (show zft.lookup (157 * zKEY + 44) = some (1, 0) by decide +kernel) rfl,
  fun _ _ _ _ _ _ _ => r_iload_n (show zdec 157 26 = some (.iload_n 2, 1) by decide +kernel) rfl rfl,
  fun _ _ _ _ _ _ _ _ _ => r_aald (show zdec 157 27 = some (.aaload, 1) by decide +kernel) rfl,
  fun _ _ _ _ _ _ _ _ _ => r_cV [_] rfl (show zdec 157 28 = some (.invokevirtual 48, 3) by decide +kernel) (show zst.lookup (157 * zKEY + 48) = some (1, 19, 1, 10) by decide +kernel) (by decide) rfl,
  fun _ _ _ _ _ _ _ => r_aload_nr (show zdec 157 31 = some (.aload_n 0, 1) by decide +kernel) rfl rfl,
  fun _ _ _ _ _ _ _ _ => r_getfield (show zdec 157 32 = some (.getfield 21, 3) by decide +kernel) (show zft.lookup (157 * zKEY + 21) = some (9, 1) by decide +kernel) rfl,
  fun _ _ _ _ _ _ _ _ => r_getfield (show zdec 157 35 = some (.getfield 52, 3) by decide +kernel) (show zft.lookup (157 * zKEY + 52) = some (10, 0) by decide +kernel) rfl,
  fun _ _ _ _ _ _ _ => r_bipush (show zdec 157 38 = some (.bipush 24, 2) by decide +kernel) rfl rfl,
  fun _ _ _ _ _ _ _ => r_iload (show zdec 157 40 = some (.iload 4, 2) by decide +kernel) rfl rfl,
  fun _ _ _ _ _ _ _ _ _ => r_iadd (show zdec 157 42 = some (.iadd, 1) by decide +kernel) rfl,
  fun _ _ _ _ _ _ _ _ _ => r_dup2 (show zdec 157 43 = some (.dup2, 1) by decide +kernel) rfl,
  fun _ _ _ _ _ _ _ _ _ => r_iald (show zdec 157 44 = some (.iaload, 1) by decide +kernel) rfl,
  fun _ _ _ _ _ _ _ => r_iload_n (show zdec 157 45 = some (.iload_n 3, 1) by decide +kernel) rfl rfl,
  fun _ _ _ _ _ _ _ _ _ => r_iadd (show zdec 157 46 = some (.iadd, 1) by decide +kernel) rfl,
  fun _ _ _ _ _ _ _ _ _ _ => r_iast (show zdec 157 47 = some (.iastore, 1) by decide +kernel) rfl,
  fun _ _ _ _ _ _ _ => r_aload_nr (show zdec 157 48 = some (.aload_n 0, 1) by decide +kernel) rfl rfl,
  fun _ _ _ _ _ _ _ => r_iload (show zdec 157 49 = some (.iload 4, 2) by decide +kernel) rfl rfl,
  fun _ _ _ _ _ _ _ => r_aload_n (show zdec 157 51 = some (.aload_n 1, 1) by decide +kernel) rfl rfl,
  fun _ _ _ _ _ _ _ _ _ _ => r_cV [_, _] rfl (show zdec 157 52 = some (.invokevirtual 56, 3) by decide +kernel) (show zst.lookup (157 * zKEY + 56) = some (1, 158, 2, 9) by decide +kernel) (by decide) rfl,
  fun _ _ _ _ _ _ _ => r_lret (show zdec 157 55 = some (.lreturn, 1) by decide +kernel) (by decide +kernel)⟩
theorem ze_157 : ∀ (a0 : Nat) (a1 : Nat) (a2 : Int32) (a3 : Int32) (h : zH), ev 157 [.ref a0, .ref a1, .int a2, .int a3] h = rn 157 0 [.ref a0, .ref a1, .int a2, .int a3, .float 0] [] h := fun _ _ _ _ _ => if_pos (Nat.le_of_ble_eq_true rfl)
-- PayrollRun/Trial.payoutOf(ILPayrollRun/Books;)J
theorem zr_158 : (∀ (l1 l2 : Value) (x : Nat) (S : List Value) (h : zH), rn 158 0 [.ref x, l1, l2] S h = rn 158 1 [.ref x, l1, l2] (.ref x :: S) h) ∧
  (∀ (l0 l1 l2 : Value) (a : Nat) (S : List Value) (h : zH), rn 158 1 [l0, l1, l2] (.ref a :: S) h = zgf h a 9 2 fun v => rn 158 4 [l0, l1, l2] (v :: S) h) ∧
  (∀ (l0 l1 l2 : Value) (o : Nat) (S : List Value) (h : zH), rn 158 4 [l0, l1, l2] (.ref o :: S) h = if zkd h o = 7 ∧ zsum S ≤ 8 then zcall (ev 159 [.ref o] h) (fun v h => rn 158 7 [l0, l1, l2] (zpush v S) h) else none) ∧
  (∀ (l1 l2 : Value) (x : Nat) (S : List Value) (h : zH), rn 158 7 [.ref x, l1, l2] S h = rn 158 8 [.ref x, l1, l2] (.ref x :: S) h) ∧
  (∀ (l0 l1 l2 : Value) (a : Nat) (S : List Value) (h : zH), rn 158 8 [l0, l1, l2] (.ref a :: S) h = zgf h a 9 0 fun v => rn 158 11 [l0, l1, l2] (v :: S) h) ∧
  (∀ (l1 l2 : Value) (x : Nat) (S : List Value) (h : zH), rn 158 11 [.ref x, l1, l2] S h = rn 158 12 [.ref x, l1, l2] (.ref x :: S) h) ∧
  (∀ (l0 l1 l2 : Value) (a : Nat) (S : List Value) (h : zH), rn 158 12 [l0, l1, l2] (.ref a :: S) h = zgf h a 9 1 fun v => rn 158 15 [l0, l1, l2] (v :: S) h) ∧
  (∀ (l0 l2 : Value) (x : Int32) (S : List Value) (h : zH), rn 158 15 [l0, .int x, l2] S h = rn 158 16 [l0, .int x, l2] (.int x :: S) h) ∧
  (∀ (l0 l1 l2 : Value) (S : List Value) (h : zH), rn 158 16 [l0, l1, l2] S h = ldA l2 (rn 158 17 [l0, l1, l2] (l2 :: S) h)) ∧
  (∀ (l0 l1 l2 : Value) (a : Nat) (S : List Value) (h : zH), rn 158 17 [l0, l1, l2] (.ref a :: S) h = zgf h a 1 1 fun v => rn 158 20 [l0, l1, l2] (v :: S) h) ∧
  (∀ (l0 l1 l2 : Value) (S : List Value) (h : zH), rn 158 20 [l0, l1, l2] S h = ldA l2 (rn 158 21 [l0, l1, l2] (l2 :: S) h)) ∧
  (∀ (l0 l1 l2 : Value) (a : Nat) (S : List Value) (h : zH), rn 158 21 [l0, l1, l2] (.ref a :: S) h = zgf h a 1 4 fun v => rn 158 24 [l0, l1, l2] (v :: S) h) ∧
  (∀ (l1 l2 : Value) (x : Nat) (S : List Value) (h : zH), rn 158 24 [.ref x, l1, l2] S h = rn 158 25 [.ref x, l1, l2] (.ref x :: S) h) ∧
  (∀ (l0 l1 l2 : Value) (a : Nat) (S : List Value) (h : zH), rn 158 25 [l0, l1, l2] (.ref a :: S) h = zgf h a 9 2 fun v => rn 158 28 [l0, l1, l2] (v :: S) h) ∧
  (∀ (l0 l1 l2 : Value) (o : Nat) (v0 : Value) (v1 : Value) (v2 : Value) (v3 : Value) (v4 : Value) (S : List Value) (h : zH), rn 158 28 [l0, l1, l2] (v4 :: v3 :: v2 :: v1 :: v0 :: .ref o :: S) h = if zkd h o = 2 ∧ zsum S ≤ 8 then zcall (ev 59 [.ref o, v0, v1, v2, v3, v4] h) (fun v h => rn 158 31 [l0, l1, l2] (zpush v S) h) else none) ∧
  (∀ (l1 l2 : Value) (x : Nat) (S : List Value) (h : zH), rn 158 31 [.ref x, l1, l2] S h = rn 158 32 [.ref x, l1, l2] (.ref x :: S) h) ∧
  (∀ (l0 l1 l2 : Value) (a : Nat) (S : List Value) (h : zH), rn 158 32 [l0, l1, l2] (.ref a :: S) h = zgf h a 9 2 fun v => rn 158 35 [l0, l1, l2] (v :: S) h) ∧
  (∀ (l0 l1 l2 : Value) (o : Nat) (S : List Value) (h : zH), rn 158 35 [l0, l1, l2] (.ref o :: S) h = if zkd h o = 7 ∧ zsum S ≤ 8 then zcall (ev 155 [.ref o] h) (fun v h => rn 158 38 [l0, l1, l2] (zpush v S) h) else none) ∧
  (∀ (l0 l1 l2 : Value) (x : Int64) (h : zH), rn 158 38 [l0, l1, l2] [.long x] h = some (some (.long x), h)) := ⟨fun _ _ _ _ _ => r_aload_nr (show zdec 158 0 = some (.aload_n 0, 1) by decide +kernel) rfl rfl,
  fun _ _ _ _ _ _ => r_getfield (show zdec 158 1 = some (.getfield 28, 3) by decide +kernel) (show zft.lookup (158 * zKEY + 28) = some (9, 2) by decide +kernel) rfl,
  fun _ _ _ _ _ _ => r_cV [] rfl (show zdec 158 4 = some (.invokevirtual 60, 3) by decide +kernel) (show zst.lookup (158 * zKEY + 60) = some (1, 159, 0, 7) by decide +kernel) (by decide) rfl,
  fun _ _ _ _ _ => r_aload_nr (show zdec 158 7 = some (.aload_n 0, 1) by decide +kernel) rfl rfl,
  fun _ _ _ _ _ _ => r_getfield (show zdec 158 8 = some (.getfield 12, 3) by decide +kernel) (show zft.lookup (158 * zKEY + 12) = some (9, 0) by decide +kernel) rfl,
  fun _ _ _ _ _ => r_aload_nr (show zdec 158 11 = some (.aload_n 0, 1) by decide +kernel) rfl rfl,
  fun _ _ _ _ _ _ => r_getfield (show zdec 158 12 = some (.getfield 21, 3) by decide +kernel) (show zft.lookup (158 * zKEY + 21) = some (9, 1) by decide +kernel) rfl,
  fun _ _ _ _ _ => r_iload_n (show zdec 158 15 = some (.iload_n 1, 1) by decide +kernel) rfl rfl,
  fun _ _ _ _ _ => r_aload_n (show zdec 158 16 = some (.aload_n 2, 1) by decide +kernel) rfl rfl,
  fun _ _ _ _ _ _ => r_getfield (show zdec 158 17 = some (.getfield 63, 3) by decide +kernel) (show zft.lookup (158 * zKEY + 63) = some (1, 1) by decide +kernel) rfl,
  fun _ _ _ _ _ => r_aload_n (show zdec 158 20 = some (.aload_n 2, 1) by decide +kernel) rfl rfl,
  fun _ _ _ _ _ _ => r_getfield (show zdec 158 21 = some (.getfield 67, 3) by decide +kernel) (show zft.lookup (158 * zKEY + 67) = some (1, 4) by decide +kernel) rfl,
  fun _ _ _ _ _ => r_aload_nr (show zdec 158 24 = some (.aload_n 0, 1) by decide +kernel) rfl rfl,
  fun _ _ _ _ _ _ => r_getfield (show zdec 158 25 = some (.getfield 28, 3) by decide +kernel) (show zft.lookup (158 * zKEY + 28) = some (9, 2) by decide +kernel) rfl,
  fun _ _ _ _ _ _ _ _ _ _ _ => r_cV [_, _, _, _, _] rfl (show zdec 158 28 = some (.invokevirtual 71, 3) by decide +kernel) (show zst.lookup (158 * zKEY + 71) = some (1, 59, 5, 2) by decide +kernel) (by decide) rfl,
  fun _ _ _ _ _ => r_aload_nr (show zdec 158 31 = some (.aload_n 0, 1) by decide +kernel) rfl rfl,
  fun _ _ _ _ _ _ => r_getfield (show zdec 158 32 = some (.getfield 28, 3) by decide +kernel) (show zft.lookup (158 * zKEY + 28) = some (9, 2) by decide +kernel) rfl,
  fun _ _ _ _ _ _ => r_cV [] rfl (show zdec 158 35 = some (.invokevirtual 75, 3) by decide +kernel) (show zst.lookup (158 * zKEY + 75) = some (1, 155, 0, 7) by decide +kernel) (by decide) rfl,
  fun _ _ _ _ _ => r_lret (show zdec 158 38 = some (.lreturn, 1) by decide +kernel) (by decide +kernel)⟩
theorem ze_158 : ∀ (a0 : Nat) (a1 : Int32) (a2 : Nat) (h : zH), ev 158 [.ref a0, .int a1, .ref a2] h = rn 158 0 [.ref a0, .int a1, .ref a2] [] h := fun _ _ _ _ => if_pos (Nat.le_of_ble_eq_true rfl)
-- PayrollRun/Slip.clear()V
theorem zr_159 : (∀ (x : Nat) (S : List Value) (h : zH), rn 159 0 [.ref x] S h = rn 159 1 [.ref x] (.ref x :: S) h) ∧
  (∀ (l0 : Value) (S : List Value) (h : zH), rn 159 1 [l0] S h = rn 159 2 [l0] (.int (nI 0) :: S) h) ∧
  (∀ (l0 : Value) (a : Nat) (v : Value) (S : List Value) (h : zH), rn 159 2 [l0] (v :: .ref a :: S) h = zpf h a 7 2 v fun h => rn 159 5 [l0] S h) ∧
  (∀ (x : Nat) (S : List Value) (h : zH), rn 159 5 [.ref x] S h = rn 159 6 [.ref x] (.ref x :: S) h) ∧
  (∀ (l0 : Value) (S : List Value) (h : zH), rn 159 6 [l0] S h = rn 159 7 [l0] (.long 0 :: S) h) ∧
  (∀ (l0 : Value) (a : Nat) (v : Value) (S : List Value) (h : zH), rn 159 7 [l0] (v :: .ref a :: S) h = zpf h a 7 3 v fun h => rn 159 10 [l0] S h) ∧
  (∀ (l0 : Value) (h : zH), rn 159 10 [l0] [] h = some (none, h)) := ⟨fun _ _ _ => r_aload_nr (show zdec 159 0 = some (.aload_n 0, 1) by decide +kernel) rfl rfl,
  fun _ _ _ => r_iconst (show zdec 159 1 = some (.iconst 0, 1) by decide +kernel) rfl rfl,
  fun _ _ _ _ _ => r_putfield (show zdec 159 2 = some (.putfield 19, 3) by decide +kernel) (show zft.lookup (159 * zKEY + 19) = some (7, 2) by decide +kernel) (by decide +kernel) rfl,
  fun _ _ _ => r_aload_nr (show zdec 159 5 = some (.aload_n 0, 1) by decide +kernel) rfl rfl,
  fun _ _ _ => r_lconst (show zdec 159 6 = some (.lconst 0, 1) by decide +kernel) rfl rfl,
  fun _ _ _ _ _ => r_putfield (show zdec 159 7 = some (.putfield 23, 3) by decide +kernel) (show zft.lookup (159 * zKEY + 23) = some (7, 3) by decide +kernel) (by decide +kernel) rfl,
  fun _ _ => r_vret (show zdec 159 10 = some (.return_, 1) by decide +kernel) (by decide +kernel)⟩
theorem ze_159 : ∀ (a0 : Nat) (h : zH), ev 159 [.ref a0] h = rn 159 0 [.ref a0] [] h := fun _ _ => if_pos (Nat.le_of_ble_eq_true rfl)
-- PayrollRun/Trial.leastSalaryFor(LPayrollRun/Books;IJ)I
theorem zr_162 : (∀ (l0 l1 l2 l3 l4 l5 l6 l7 l8 l9 l10 l11 l12 l13 l14 l15 l16 l17 : Value) (S : List Value) (h : zH), rn 162 0 [l0, l1, l2, l3, l4, l5, l6, l7, l8, l9, l10, l11, l12, l13, l14, l15, l16, l17] S h = ldA l1 (rn 162 1 [l0, l1, l2, l3, l4, l5, l6, l7, l8, l9, l10, l11, l12, l13, l14, l15, l16, l17] (l1 :: S) h)) ∧
  (∀ (l0 l1 l2 l3 l4 l5 l6 l7 l8 l9 l10 l11 l12 l13 l14 l15 l16 l17 : Value) (a : Nat) (S : List Value) (h : zH), rn 162 1 [l0, l1, l2, l3, l4, l5, l6, l7, l8, l9, l10, l11, l12, l13, l14, l15, l16, l17] (.ref a :: S) h = zgf h a 1 2 fun v => rn 162 4 [l0, l1, l2, l3, l4, l5, l6, l7, l8, l9, l10, l11, l12, l13, l14, l15, l16, l17] (v :: S) h) ∧
  (∀ (l0 l1 l2 l3 l4 l5 l6 l7 l8 l9 l10 l11 l12 l13 l14 l15 l16 l17 : Value) (x : Int32) (S : List Value) (h : zH), rn 162 4 [l0, l1, l2, l3, l4, l5, l6, l7, l8, l9, l10, l11, l12, l13, l14, l15, l16, l17] (.int x :: S) h = nl l4 (rn 162 6 [l0, l1, l2, l3, l4, .int x, l6, l7, l8, l9, l10, l11, l12, l13, l14, l15, l16, l17] S h)) ∧
  (∀ (l0 l1 l2 l3 l4 l6 l7 l8 l9 l10 l11 l12 l13 l14 l15 l16 l17 : Value) (x : Int32) (S : List Value) (h : zH), rn 162 6 [l0, l1, l2, l3, l4, .int x, l6, l7, l8, l9, l10, l11, l12, l13, l14, l15, l16, l17] S h = rn 162 8 [l0, l1, l2, l3, l4, .int x, l6, l7, l8, l9, l10, l11, l12, l13, l14, l15, l16, l17] (.int x :: S) h) ∧
  (∀ (l0 l1 l2 l3 l4 l5 l6 l7 l8 l9 l10 l11 l12 l13 l14 l15 l16 l17 : Value) (v0 : Value) (S : List Value) (h : zH), rn 162 8 [l0, l1, l2, l3, l4, l5, l6, l7, l8, l9, l10, l11, l12, l13, l14, l15, l16, l17] (v0 :: S) h = if zsum S ≤ 8 then zcall (ev 25 [v0] h) (fun v h => rn 162 11 [l0, l1, l2, l3, l4, l5, l6, l7, l8, l9, l10, l11, l12, l13, l14, l15, l16, l17] (zpush v S) h) else none) ∧
  (∀ (l0 l1 l2 l3 l4 l5 l6 l7 l8 l9 l10 l11 l12 l13 l14 l15 l16 l17 : Value) (x : Int32) (S : List Value) (h : zH), rn 162 11 [l0, l1, l2, l3, l4, l5, l6, l7, l8, l9, l10, l11, l12, l13, l14, l15, l16, l17] (.int x :: S) h = if x = nI 0 then rn 162 14 [l0, l1, l2, l3, l4, l5, l6, l7, l8, l9, l10, l11, l12, l13, l14, l15, l16, l17] S h else rn 162 17 [l0, l1, l2, l3, l4, l5, l6, l7, l8, l9, l10, l11, l12, l13, l14, l15, l16, l17] S h) ∧
  (∀ (l0 l1 l2 l3 l4 l5 l6 l7 l8 l9 l10 l11 l12 l13 l14 l15 l16 l17 : Value) (S : List Value) (h : zH), rn 162 14 [l0, l1, l2, l3, l4, l5, l6, l7, l8, l9, l10, l11, l12, l13, l14, l15, l16, l17] S h = rn 162 16 [l0, l1, l2, l3, l4, l5, l6, l7, l8, l9, l10, l11, l12, l13, l14, l15, l16, l17] (.int (-2) :: S) h) ∧
  (∀ (l0 l1 l2 l3 l4 l5 l6 l7 l8 l9 l10 l11 l12 l13 l14 l15 l16 l17 : Value) (x : Int32) (h : zH), rn 162 16 [l0, l1, l2, l3, l4, l5, l6, l7, l8, l9, l10, l11, l12, l13, l14, l15, l16, l17] [.int x] h = some (some (.int x), h)) ∧
  (∀ (l0 l1 l2 l3 l4 l5 l6 l7 l8 l9 l10 l11 l12 l13 l14 l15 l16 l17 : Value) (S : List Value) (h : zH), rn 162 17 [l0, l1, l2, l3, l4, l5, l6, l7, l8, l9, l10, l11, l12, l13, l14, l15, l16, l17] S h = ldA l1 (rn 162 18 [l0, l1, l2, l3, l4, l5, l6, l7, l8, l9, l10, l11, l12, l13, l14, l15, l16, l17] (l1 :: S) h)) ∧
  (∀ (l0 l1 l2 l3 l4 l5 l6 l7 l8 l9 l10 l11 l12 l13 l14 l15 l16 l17 : Value) (a : Nat) (S : List Value) (h : zH), rn 162 18 [l0, l1, l2, l3, l4, l5, l6, l7, l8, l9, l10, l11, l12, l13, l14, l15, l16, l17] (.ref a :: S) h = zgf h a 1 0 fun v => rn 162 21 [l0, l1, l2, l3, l4, l5, l6, l7, l8, l9, l10, l11, l12, l13, l14, l15, l16, l17] (v :: S) h) ∧
  (∀ (l0 l1 l3 l4 l5 l6 l7 l8 l9 l10 l11 l12 l13 l14 l15 l16 l17 : Value) (x : Int32) (S : List Value) (h : zH), rn 162 21 [l0, l1, .int x, l3, l4, l5, l6, l7, l8, l9, l10, l11, l12, l13, l14, l15, l16, l17] S h = rn 162 22 [l0, l1, .int x, l3, l4, l5, l6, l7, l8, l9, l10, l11, l12, l13, l14, l15, l16, l17] (.int x :: S) h) ∧
  (∀ (l0 l1 l2 l3 l4 l5 l6 l7 l8 l9 l10 l11 l12 l13 l14 l15 l16 l17 : Value) (a : Nat) (j : Int32) (S : List Value) (h : zH), rn 162 22 [l0, l1, l2, l3, l4, l5, l6, l7, l8, l9, l10, l11, l12, l13, l14, l15, l16, l17] (.int j :: .ref a :: S) h = zlq h a j fun x => rn 162 23 [l0, l1, l2, l3, l4, l5, l6, l7, l8, l9, l10, l11, l12, l13, l14, l15, l16, l17] (va_rf x :: S) h) ∧
  (∀ (l0 l1 l2 l3 l4 l5 l6 l7 l8 l9 l10 l11 l12 l13 l14 l15 l16 l17 : Value) (v : Value) (S : List Value) (h : zH), rn 162 23 [l0, l1, l2, l3, l4, l5, l6, l7, l8, l9, l10, l11, l12, l13, l14, l15, l16, l17] (v :: S) h = ldA v (nl l5 (rn 162 25 [l0, l1, l2, l3, l4, l5, v, l7, l8, l9, l10, l11, l12, l13, l14, l15, l16, l17] S h))) ∧
  (∀ (l0 l1 l2 l3 l4 l5 l6 l7 l8 l9 l10 l11 l12 l13 l14 l15 l16 l17 : Value) (S : List Value) (h : zH), rn 162 25 [l0, l1, l2, l3, l4, l5, l6, l7, l8, l9, l10, l11, l12, l13, l14, l15, l16, l17] S h = ldA l6 (rn 162 27 [l0, l1, l2, l3, l4, l5, l6, l7, l8, l9, l10, l11, l12, l13, l14, l15, l16, l17] (l6 :: S) h)) ∧
  (∀ (l0 l1 l2 l3 l4 l5 l6 l7 l8 l9 l10 l11 l12 l13 l14 l15 l16 l17 : Value) (a : Nat) (S : List Value) (h : zH), rn 162 27 [l0, l1, l2, l3, l4, l5, l6, l7, l8, l9, l10, l11, l12, l13, l14, l15, l16, l17] (.ref a :: S) h = zgf h a 10 0 fun v => rn 162 30 [l0, l1, l2, l3, l4, l5, l6, l7, l8, l9, l10, l11, l12, l13, l14, l15, l16, l17] (v :: S) h) ∧
  (∀ (l0 l1 l2 l3 l4 l5 l6 l7 l8 l9 l10 l11 l12 l13 l14 l15 l16 l17 : Value) (S : List Value) (h : zH), rn 162 30 [l0, l1, l2, l3, l4, l5, l6, l7, l8, l9, l10, l11, l12, l13, l14, l15, l16, l17] S h = rn 162 32 [l0, l1, l2, l3, l4, l5, l6, l7, l8, l9, l10, l11, l12, l13, l14, l15, l16, l17] (.int (nI 12) :: S) h) ∧
  (∀ (l0 l1 l2 l3 l4 l6 l7 l8 l9 l10 l11 l12 l13 l14 l15 l16 l17 : Value) (x : Int32) (S : List Value) (h : zH), rn 162 32 [l0, l1, l2, l3, l4, .int x, l6, l7, l8, l9, l10, l11, l12, l13, l14, l15, l16, l17] S h = rn 162 34 [l0, l1, l2, l3, l4, .int x, l6, l7, l8, l9, l10, l11, l12, l13, l14, l15, l16, l17] (.int x :: S) h) ∧
  (∀ (l0 l1 l2 l3 l4 l5 l6 l7 l8 l9 l10 l11 l12 l13 l14 l15 l16 l17 : Value) (x : Int32) (y : Int32) (S : List Value) (h : zH), rn 162 34 [l0, l1, l2, l3, l4, l5, l6, l7, l8, l9, l10, l11, l12, l13, l14, l15, l16, l17] (.int y :: .int x :: S) h = rn 162 35 [l0, l1, l2, l3, l4, l5, l6, l7, l8, l9, l10, l11, l12, l13, l14, l15, l16, l17] (.int (x + y) :: S) h) ∧
  (∀ (l0 l1 l2 l3 l4 l5 l6 l7 l8 l9 l10 l11 l12 l13 l14 l15 l16 l17 : Value) (a : Nat) (j : Int32) (S : List Value) (h : zH), rn 162 35 [l0, l1, l2, l3, l4, l5, l6, l7, l8, l9, l10, l11, l12, l13, l14, l15, l16, l17] (.int j :: .ref a :: S) h = zli h a 0 j fun x => rn 162 36 [l0, l1, l2, l3, l4, l5, l6, l7, l8, l9, l10, l11, l12, l13, l14, l15, l16, l17] (.int x :: S) h) ∧
  (∀ (l0 l1 l2 l3 l4 l5 l6 l7 l8 l9 l10 l11 l12 l13 l14 l15 l16 l17 : Value) (x : Int32) (S : List Value) (h : zH), rn 162 36 [l0, l1, l2, l3, l4, l5, l6, l7, l8, l9, l10, l11, l12, l13, l14, l15, l16, l17] (.int x :: S) h = nl l6 (rn 162 38 [l0, l1, l2, l3, l4, l5, l6, .int x, l8, l9, l10, l11, l12, l13, l14, l15, l16, l17] S h)) ∧
  (∀ (l0 l1 l2 l3 l4 l5 l6 l7 l8 l9 l10 l11 l12 l13 l14 l15 l16 l17 : Value) (S : List Value) (h : zH), rn 162 38 [l0, l1, l2, l3, l4, l5, l6, l7, l8, l9, l10, l11, l12, l13, l14, l15, l16, l17] S h = ldA l6 (rn 162 40 [l0, l1, l2, l3, l4, l5, l6, l7, l8, l9, l10, l11, l12, l13, l14, l15, l16, l17] (l6 :: S) h)) ∧
  (∀ (l0 l1 l2 l3 l4 l5 l6 l7 l8 l9 l10 l11 l12 l13 l14 l15 l16 l17 : Value) (a : Nat) (S : List Value) (h : zH), rn 162 40 [l0, l1, l2, l3, l4, l5, l6, l7, l8, l9, l10, l11, l12, l13, l14, l15, l16, l17] (.ref a :: S) h = zgf h a 10 0 fun v => rn 162 43 [l0, l1, l2, l3, l4, l5, l6, l7, l8, l9, l10, l11, l12, l13, l14, l15, l16, l17] (v :: S) h) ∧
  (∀ (l0 l1 l2 l3 l4 l5 l6 l7 l8 l9 l10 l11 l12 l13 l14 l15 l16 l17 : Value) (S : List Value) (h : zH), rn 162 43 [l0, l1, l2, l3, l4, l5, l6, l7, l8, l9, l10, l11, l12, l13, l14, l15, l16, l17] S h = rn 162 45 [l0, l1, l2, l3, l4, l5, l6, l7, l8, l9, l10, l11, l12, l13, l14, l15, l16, l17] (.int (nI 24) :: S) h) ∧
  (∀ (l0 l1 l2 l3 l4 l6 l7 l8 l9 l10 l11 l12 l13 l14 l15 l16 l17 : Value) (x : Int32) (S : List Value) (h : zH), rn 162 45 [l0, l1, l2, l3, l4, .int x, l6, l7, l8, l9, l10, l11, l12, l13, l14, l15, l16, l17] S h = rn 162 47 [l0, l1, l2, l3, l4, .int x, l6, l7, l8, l9, l10, l11, l12, l13, l14, l15, l16, l17] (.int x :: S) h) ∧
  (∀ (l0 l1 l2 l3 l4 l5 l6 l7 l8 l9 l10 l11 l12 l13 l14 l15 l16 l17 : Value) (x : Int32) (y : Int32) (S : List Value) (h : zH), rn 162 47 [l0, l1, l2, l3, l4, l5, l6, l7, l8, l9, l10, l11, l12, l13, l14, l15, l16, l17] (.int y :: .int x :: S) h = rn 162 48 [l0, l1, l2, l3, l4, l5, l6, l7, l8, l9, l10, l11, l12, l13, l14, l15, l16, l17] (.int (x + y) :: S) h) ∧
  (∀ (l0 l1 l2 l3 l4 l5 l6 l7 l8 l9 l10 l11 l12 l13 l14 l15 l16 l17 : Value) (a : Nat) (j : Int32) (S : List Value) (h : zH), rn 162 48 [l0, l1, l2, l3, l4, l5, l6, l7, l8, l9, l10, l11, l12, l13, l14, l15, l16, l17] (.int j :: .ref a :: S) h = zli h a 0 j fun x => rn 162 49 [l0, l1, l2, l3, l4, l5, l6, l7, l8, l9, l10, l11, l12, l13, l14, l15, l16, l17] (.int x :: S) h) ∧
  (∀ (l0 l1 l2 l3 l4 l5 l6 l7 l8 l9 l10 l11 l12 l13 l14 l15 l16 l17 : Value) (x : Int32) (S : List Value) (h : zH), rn 162 49 [l0, l1, l2, l3, l4, l5, l6, l7, l8, l9, l10, l11, l12, l13, l14, l15, l16, l17] (.int x :: S) h = nl l7 (rn 162 51 [l0, l1, l2, l3, l4, l5, l6, l7, .int x, l9, l10, l11, l12, l13, l14, l15, l16, l17] S h)) ∧
  (∀ (l0 l1 l2 l3 l4 l5 l6 l7 l8 l9 l10 l11 l12 l13 l14 l15 l16 l17 : Value) (S : List Value) (h : zH), rn 162 51 [l0, l1, l2, l3, l4, l5, l6, l7, l8, l9, l10, l11, l12, l13, l14, l15, l16, l17] S h = ldA l6 (rn 162 53 [l0, l1, l2, l3, l4, l5, l6, l7, l8, l9, l10, l11, l12, l13, l14, l15, l16, l17] (l6 :: S) h)) ∧
  (∀ (l0 l1 l2 l3 l4 l6 l7 l8 l9 l10 l11 l12 l13 l14 l15 l16 l17 : Value) (x : Int32) (S : List Value) (h : zH), rn 162 53 [l0, l1, l2, l3, l4, .int x, l6, l7, l8, l9, l10, l11, l12, l13, l14, l15, l16, l17] S h = rn 162 55 [l0, l1, l2, l3, l4, .int x, l6, l7, l8, l9, l10, l11, l12, l13, l14, l15, l16, l17] (.int x :: S) h) ∧
  (∀ (l0 l1 l2 l3 l4 l5 l6 l7 l8 l9 l10 l11 l12 l13 l14 l15 l16 l17 : Value) (o : Nat) (v0 : Value) (S : List Value) (h : zH), rn 162 55 [l0, l1, l2, l3, l4, l5, l6, l7, l8, l9, l10, l11, l12, l13, l14, l15, l16, l17] (v0 :: .ref o :: S) h = if zkd h o = 10 ∧ zsum S ≤ 8 then zcall (ev 163 [.ref o, v0] h) (fun v h => rn 162 58 [l0, l1, l2, l3, l4, l5, l6, l7, l8, l9, l10, l11, l12, l13, l14, l15, l16, l17] (zpush v S) h) else none) ∧
  (∀ (l0 l1 l2 l3 l4 l5 l6 l7 l8 l9 l10 l11 l12 l13 l14 l15 l16 l17 : Value) (x : Int64) (S : List Value) (h : zH), rn 162 58 [l0, l1, l2, l3, l4, l5, l6, l7, l8, l9, l10, l11, l12, l13, l14, l15, l16, l17] (.long x :: S) h = nl l8 (rn 162 60 [l0, l1, l2, l3, l4, l5, l6, l7, l8, .long x, .float 0, l11, l12, l13, l14, l15, l16, l17] S h)) ∧
  (∀ (l0 l1 l2 l3 l4 l5 l6 l7 l8 l9 l10 l11 l12 l13 l14 l15 l16 l17 : Value) (S : List Value) (h : zH), rn 162 60 [l0, l1, l2, l3, l4, l5, l6, l7, l8, l9, l10, l11, l12, l13, l14, l15, l16, l17] S h = ldA l1 (rn 162 61 [l0, l1, l2, l3, l4, l5, l6, l7, l8, l9, l10, l11, l12, l13, l14, l15, l16, l17] (l1 :: S) h)) ∧
  (∀ (l0 l1 l2 l3 l4 l5 l6 l7 l8 l9 l10 l11 l12 l13 l14 l15 l16 l17 : Value) (a : Nat) (S : List Value) (h : zH), rn 162 61 [l0, l1, l2, l3, l4, l5, l6, l7, l8, l9, l10, l11, l12, l13, l14, l15, l16, l17] (.ref a :: S) h = zgf h a 1 1 fun v => rn 162 64 [l0, l1, l2, l3, l4, l5, l6, l7, l8, l9, l10, l11, l12, l13, l14, l15, l16, l17] (v :: S) h) ∧
  (∀ (l0 l1 l2 l3 l4 l5 l6 l7 l8 l9 l10 l11 l12 l13 l14 l15 l16 l17 : Value) (S : List Value) (h : zH), rn 162 64 [l0, l1, l2, l3, l4, l5, l6, l7, l8, l9, l10, l11, l12, l13, l14, l15, l16, l17] S h = rn 162 65 [l0, l1, l2, l3, l4, l5, l6, l7, l8, l9, l10, l11, l12, l13, l14, l15, l16, l17] (.int (nI 4) :: S) h) ∧
  (∀ (l0 l1 l2 l3 l4 l5 l6 l7 l8 l10 l11 l12 l13 l14 l15 l16 l17 : Value) (x : Int64) (S : List Value) (h : zH), rn 162 65 [l0, l1, l2, l3, l4, l5, l6, l7, l8, .long x, l10, l11, l12, l13, l14, l15, l16, l17] S h = rn 162 67 [l0, l1, l2, l3, l4, l5, l6, l7, l8, .long x, l10, l11, l12, l13, l14, l15, l16, l17] (.long x :: S) h) ∧
  (∀ (l0 l1 l2 l3 l4 l5 l6 l7 l8 l9 l10 l11 l12 l13 l14 l15 l16 l17 : Value) (o : Nat) (v0 : Value) (v1 : Value) (S : List Value) (h : zH), rn 162 67 [l0, l1, l2, l3, l4, l5, l6, l7, l8, l9, l10, l11, l12, l13, l14, l15, l16, l17] (v1 :: v0 :: .ref o :: S) h = if zkd h o = 6 ∧ zsum S ≤ 8 then zcall (ev 63 [.ref o, v0, v1] h) (fun v h => rn 162 70 [l0, l1, l2, l3, l4, l5, l6, l7, l8, l9, l10, l11, l12, l13, l14, l15, l16, l17] (zpush v S) h) else none) ∧
  (∀ (l0 l1 l2 l4 l5 l6 l7 l8 l9 l10 l11 l12 l13 l14 l15 l16 l17 : Value) (x : Int64) (S : List Value) (h : zH), rn 162 70 [l0, l1, l2, .long x, l4, l5, l6, l7, l8, l9, l10, l11, l12, l13, l14, l15, l16, l17] S h = rn 162 71 [l0, l1, l2, .long x, l4, l5, l6, l7, l8, l9, l10, l11, l12, l13, l14, l15, l16, l17] (.long x :: S) h) ∧
  (∀ (l0 l1 l2 l3 l4 l5 l6 l7 l8 l9 l10 l11 l12 l13 l14 l15 l16 l17 : Value) (x : Int64) (y : Int64) (S : List Value) (h : zH), rn 162 71 [l0, l1, l2, l3, l4, l5, l6, l7, l8, l9, l10, l11, l12, l13, l14, l15, l16, l17] (.long y :: .long x :: S) h = rn 162 72 [l0, l1, l2, l3, l4, l5, l6, l7, l8, l9, l10, l11, l12, l13, l14, l15, l16, l17] (.long (x + y) :: S) h) ∧
  (∀ (l0 l1 l2 l3 l4 l5 l6 l7 l8 l9 l10 l11 l12 l13 l14 l15 l16 l17 : Value) (x : Int64) (S : List Value) (h : zH), rn 162 72 [l0, l1, l2, l3, l4, l5, l6, l7, l8, l9, l10, l11, l12, l13, l14, l15, l16, l17] (.long x :: S) h = nl l10 (rn 162 74 [l0, l1, l2, l3, l4, l5, l6, l7, l8, l9, l10, .long x, .float 0, l13, l14, l15, l16, l17] S h)) ∧
  (∀ (l0 l1 l2 l3 l4 l5 l6 l7 l8 l9 l10 l11 l12 l13 l14 l15 l16 l17 : Value) (S : List Value) (h : zH), rn 162 74 [l0, l1, l2, l3, l4, l5, l6, l7, l8, l9, l10, l11, l12, l13, l14, l15, l16, l17] S h = rn 162 75 [l0, l1, l2, l3, l4, l5, l6, l7, l8, l9, l10, l11, l12, l13, l14, l15, l16, l17] (.int (nI 0) :: S) h) ∧
  (∀ (l0 l1 l2 l3 l4 l5 l6 l7 l8 l9 l10 l11 l12 l13 l14 l15 l16 l17 : Value) (x : Int32) (S : List Value) (h : zH), rn 162 75 [l0, l1, l2, l3, l4, l5, l6, l7, l8, l9, l10, l11, l12, l13, l14, l15, l16, l17] (.int x :: S) h = nl l12 (rn 162 77 [l0, l1, l2, l3, l4, l5, l6, l7, l8, l9, l10, l11, l12, .int x, l14, l15, l16, l17] S h)) ∧
  (∀ (l0 l1 l2 l3 l4 l5 l6 l7 l8 l9 l10 l11 l12 l13 l14 l15 l16 l17 : Value) (S : List Value) (h : zH), rn 162 77 [l0, l1, l2, l3, l4, l5, l6, l7, l8, l9, l10, l11, l12, l13, l14, l15, l16, l17] S h = rn 162 80 [l0, l1, l2, l3, l4, l5, l6, l7, l8, l9, l10, l11, l12, l13, l14, l15, l16, l17] (.int (nI 8192) :: S) h) ∧
  (∀ (l0 l1 l2 l3 l4 l5 l6 l7 l8 l9 l10 l11 l12 l13 l14 l15 l16 l17 : Value) (x : Int32) (S : List Value) (h : zH), rn 162 80 [l0, l1, l2, l3, l4, l5, l6, l7, l8, l9, l10, l11, l12, l13, l14, l15, l16, l17] (.int x :: S) h = nl l13 (rn 162 82 [l0, l1, l2, l3, l4, l5, l6, l7, l8, l9, l10, l11, l12, l13, .int x, l15, l16, l17] S h)) ∧
  (∀ (l0 l1 l2 l3 l4 l5 l6 l7 l8 l9 l10 l11 l12 l13 l14 l15 l16 l17 : Value) (x : Int32) (S : List Value) (h : zH), rn 162 84 [l0, l1, l2, l3, l4, l5, l6, l7, l8, l9, l10, l11, l12, l13, l14, l15, l16, l17] (.int x :: S) h = if x ≤ nI 0 then rn 162 150 [l0, l1, l2, l3, l4, l5, l6, l7, l8, l9, l10, l11, l12, l13, l14, l15, l16, l17] S h else rn 162 87 [l0, l1, l2, l3, l4, l5, l6, l7, l8, l9, l10, l11, l12, l13, l14, l15, l16, l17] S h) ∧
  (∀ (l0 l1 l2 l3 l4 l5 l6 l7 l8 l9 l10 l11 l12 l14 l15 l16 l17 : Value) (x : Int32) (S : List Value) (h : zH), rn 162 87 [l0, l1, l2, l3, l4, l5, l6, l7, l8, l9, l10, l11, l12, .int x, l14, l15, l16, l17] S h = rn 162 89 [l0, l1, l2, l3, l4, l5, l6, l7, l8, l9, l10, l11, l12, .int x, l14, l15, l16, l17] (.int x :: S) h) ∧
  (∀ (l0 l1 l2 l3 l4 l5 l6 l7 l8 l9 l10 l11 l12 l13 l15 l16 l17 : Value) (x : Int32) (S : List Value) (h : zH), rn 162 89 [l0, l1, l2, l3, l4, l5, l6, l7, l8, l9, l10, l11, l12, l13, .int x, l15, l16, l17] S h = rn 162 91 [l0, l1, l2, l3, l4, l5, l6, l7, l8, l9, l10, l11, l12, l13, .int x, l15, l16, l17] (.int x :: S) h) ∧
  (∀ (l0 l1 l2 l3 l4 l5 l6 l7 l8 l9 l10 l11 l12 l13 l14 l15 l16 l17 : Value) (x : Int32) (y : Int32) (S : List Value) (h : zH), rn 162 91 [l0, l1, l2, l3, l4, l5, l6, l7, l8, l9, l10, l11, l12, l13, l14, l15, l16, l17] (.int y :: .int x :: S) h = rn 162 92 [l0, l1, l2, l3, l4, l5, l6, l7, l8, l9, l10, l11, l12, l13, l14, l15, l16, l17] (.int (x + y) :: S) h) ∧
  (∀ (l0 l1 l2 l3 l4 l5 l6 l7 l8 l9 l10 l11 l12 l13 l14 l15 l16 l17 : Value) (S : List Value) (h : zH), rn 162 92 [l0, l1, l2, l3, l4, l5, l6, l7, l8, l9, l10, l11, l12, l13, l14, l15, l16, l17] S h = rn 162 93 [l0, l1, l2, l3, l4, l5, l6, l7, l8, l9, l10, l11, l12, l13, l14, l15, l16, l17] (.int (nI 1) :: S) h) ∧
  (∀ (l0 l1 l2 l3 l4 l5 l6 l7 l8 l9 l10 l11 l12 l13 l14 l15 l16 l17 : Value) (x : Int32) (y : Int32) (S : List Value) (h : zH), rn 162 93 [l0, l1, l2, l3, l4, l5, l6, l7, l8, l9, l10, l11, l12, l13, l14, l15, l16, l17] (.int y :: .int x :: S) h = rn 162 94 [l0, l1, l2, l3, l4, l5, l6, l7, l8, l9, l10, l11, l12, l13, l14, l15, l16, l17] (.int (x - y) :: S) h) ∧
  (∀ (l0 l1 l2 l3 l4 l5 l6 l7 l8 l9 l10 l11 l12 l13 l14 l15 l16 l17 : Value) (x : Int32) (S : List Value) (h : zH), rn 162 94 [l0, l1, l2, l3, l4, l5, l6, l7, l8, l9, l10, l11, l12, l13, l14, l15, l16, l17] (.int x :: S) h = nl l14 (rn 162 96 [l0, l1, l2, l3, l4, l5, l6, l7, l8, l9, l10, l11, l12, l13, l14, .int x, l16, l17] S h)) ∧
  (∀ (l0 l1 l2 l3 l4 l5 l6 l7 l8 l10 l11 l12 l13 l14 l15 l16 l17 : Value) (x : Int64) (S : List Value) (h : zH), rn 162 96 [l0, l1, l2, l3, l4, l5, l6, l7, l8, .long x, l10, l11, l12, l13, l14, l15, l16, l17] S h = rn 162 98 [l0, l1, l2, l3, l4, l5, l6, l7, l8, .long x, l10, l11, l12, l13, l14, l15, l16, l17] (.long x :: S) h) ∧
  (∀ (l0 l1 l2 l3 l4 l5 l6 l7 l8 l9 l10 l11 l12 l13 l14 l16 l17 : Value) (x : Int32) (S : List Value) (h : zH), rn 162 98 [l0, l1, l2, l3, l4, l5, l6, l7, l8, l9, l10, l11, l12, l13, l14, .int x, l16, l17] S h = rn 162 100 [l0, l1, l2, l3, l4, l5, l6, l7, l8, l9, l10, l11, l12, l13, l14, .int x, l16, l17] (.int x :: S) h) ∧
  (∀ (l0 l1 l2 l3 l4 l5 l6 l8 l9 l10 l11 l12 l13 l14 l15 l16 l17 : Value) (x : Int32) (S : List Value) (h : zH), rn 162 100 [l0, l1, l2, l3, l4, l5, l6, .int x, l8, l9, l10, l11, l12, l13, l14, l15, l16, l17] S h = rn 162 102 [l0, l1, l2, l3, l4, l5, l6, .int x, l8, l9, l10, l11, l12, l13, l14, l15, l16, l17] (.int x :: S) h) ∧
  (∀ (l0 l1 l2 l3 l4 l5 l6 l7 l9 l10 l11 l12 l13 l14 l15 l16 l17 : Value) (x : Int32) (S : List Value) (h : zH), rn 162 102 [l0, l1, l2, l3, l4, l5, l6, l7, .int x, l9, l10, l11, l12, l13, l14, l15, l16, l17] S h = rn 162 104 [l0, l1, l2, l3, l4, l5, l6, l7, .int x, l9, l10, l11, l12, l13, l14, l15, l16, l17] (.int x :: S) h) ∧
  (∀ (l0 l1 l2 l3 l4 l5 l6 l7 l8 l9 l10 l11 l12 l13 l14 l15 l16 l17 : Value) (v0 : Value) (v1 : Value) (v2 : Value) (S : List Value) (h : zH), rn 162 104 [l0, l1, l2, l3, l4, l5, l6, l7, l8, l9, l10, l11, l12, l13, l14, l15, l16, l17] (v2 :: v1 :: v0 :: S) h = if zsum S ≤ 8 then zcall (ev 62 [v0, v1, v2] h) (fun v h => rn 162 107 [l0, l1, l2, l3, l4, l5, l6, l7, l8, l9, l10, l11, l12, l13, l14, l15, l16, l17] (zpush v S) h) else none) ∧
  (∀ (l0 l1 l2 l3 l4 l5 l6 l7 l8 l9 l10 l11 l12 l13 l14 l15 l16 l17 : Value) (x : Int64) (y : Int64) (S : List Value) (h : zH), rn 162 107 [l0, l1, l2, l3, l4, l5, l6, l7, l8, l9, l10, l11, l12, l13, l14, l15, l16, l17] (.long y :: .long x :: S) h = rn 162 108 [l0, l1, l2, l3, l4, l5, l6, l7, l8, l9, l10, l11, l12, l13, l14, l15, l16, l17] (.long (x + y) :: S) h) ∧
  (∀ (l0 l1 l2 l3 l4 l5 l6 l7 l8 l9 l10 l11 l12 l13 l14 l15 l16 l17 : Value) (x : Int64) (S : List Value) (h : zH), rn 162 108 [l0, l1, l2, l3, l4, l5, l6, l7, l8, l9, l10, l11, l12, l13, l14, l15, l16, l17] (.long x :: S) h = nl l15 (rn 162 110 [l0, l1, l2, l3, l4, l5, l6, l7, l8, l9, l10, l11, l12, l13, l14, l15, .long x, .float 0] S h)) ∧
  (∀ (l0 l1 l2 l3 l4 l5 l6 l7 l8 l9 l10 l11 l12 l13 l14 l16 l17 : Value) (x : Int32) (S : List Value) (h : zH), rn 162 110 [l0, l1, l2, l3, l4, l5, l6, l7, l8, l9, l10, l11, l12, l13, l14, .int x, l16, l17] S h = rn 162 112 [l0, l1, l2, l3, l4, l5, l6, l7, l8, l9, l10, l11, l12, l13, l14, .int x, l16, l17] (.int x :: S) h) ∧
  (∀ (l0 l1 l2 l3 l4 l5 l6 l7 l8 l9 l10 l11 l12 l13 l14 l15 l16 l17 : Value) (S : List Value) (h : zH), rn 162 112 [l0, l1, l2, l3, l4, l5, l6, l7, l8, l9, l10, l11, l12, l13, l14, l15, l16, l17] S h = rn 162 115 [l0, l1, l2, l3, l4, l5, l6, l7, l8, l9, l10, l11, l12, l13, l14, l15, l16, l17] (.int (nI 9999) :: S) h) ∧
  (∀ (l0 l1 l2 l3 l4 l5 l6 l7 l8 l9 l10 l11 l12 l13 l14 l15 l16 l17 : Value) (x : Int32) (y : Int32) (S : List Value) (h : zH), rn 162 115 [l0, l1, l2, l3, l4, l5, l6, l7, l8, l9, l10, l11, l12, l13, l14, l15, l16, l17] (.int y :: .int x :: S) h = if y < x then rn 162 141 [l0, l1, l2, l3, l4, l5, l6, l7, l8, l9, l10, l11, l12, l13, l14, l15, l16, l17] S h else rn 162 118 [l0, l1, l2, l3, l4, l5, l6, l7, l8, l9, l10, l11, l12, l13, l14, l15, l16, l17] S h) ∧
  (∀ (l0 l1 l2 l3 l4 l5 l6 l7 l8 l9 l10 l11 l12 l13 l14 l15 l16 l17 : Value) (S : List Value) (h : zH), rn 162 118 [l0, l1, l2, l3, l4, l5, l6, l7, l8, l9, l10, l11, l12, l13, l14, l15, l16, l17] S h = ldA l1 (rn 162 119 [l0, l1, l2, l3, l4, l5, l6, l7, l8, l9, l10, l11, l12, l13, l14, l15, l16, l17] (l1 :: S) h)) ∧
  (∀ (l0 l1 l2 l3 l4 l5 l6 l7 l8 l9 l10 l11 l12 l13 l14 l15 l16 l17 : Value) (a : Nat) (S : List Value) (h : zH), rn 162 119 [l0, l1, l2, l3, l4, l5, l6, l7, l8, l9, l10, l11, l12, l13, l14, l15, l16, l17] (.ref a :: S) h = zgf h a 1 1 fun v => rn 162 122 [l0, l1, l2, l3, l4, l5, l6, l7, l8, l9, l10, l11, l12, l13, l14, l15, l16, l17] (v :: S) h) ∧
  (∀ (l0 l1 l2 l3 l4 l5 l6 l7 l8 l9 l10 l11 l12 l13 l14 l15 l16 l17 : Value) (S : List Value) (h : zH), rn 162 122 [l0, l1, l2, l3, l4, l5, l6, l7, l8, l9, l10, l11, l12, l13, l14, l15, l16, l17] S h = rn 162 123 [l0, l1, l2, l3, l4, l5, l6, l7, l8, l9, l10, l11, l12, l13, l14, l15, l16, l17] (.int (nI 4) :: S) h) ∧
  (∀ (l0 l1 l2 l3 l4 l5 l6 l7 l8 l9 l10 l11 l12 l13 l14 l15 l17 : Value) (x : Int64) (S : List Value) (h : zH), rn 162 123 [l0, l1, l2, l3, l4, l5, l6, l7, l8, l9, l10, l11, l12, l13, l14, l15, .long x, l17] S h = rn 162 125 [l0, l1, l2, l3, l4, l5, l6, l7, l8, l9, l10, l11, l12, l13, l14, l15, .long x, l17] (.long x :: S) h) ∧
  (∀ (l0 l1 l2 l3 l4 l5 l6 l7 l8 l9 l10 l11 l12 l13 l14 l15 l16 l17 : Value) (o : Nat) (v0 : Value) (v1 : Value) (S : List Value) (h : zH), rn 162 125 [l0, l1, l2, l3, l4, l5, l6, l7, l8, l9, l10, l11, l12, l13, l14, l15, l16, l17] (v1 :: v0 :: .ref o :: S) h = if zkd h o = 6 ∧ zsum S ≤ 8 then zcall (ev 63 [.ref o, v0, v1] h) (fun v h => rn 162 128 [l0, l1, l2, l3, l4, l5, l6, l7, l8, l9, l10, l11, l12, l13, l14, l15, l16, l17] (zpush v S) h) else none) ∧
  (∀ (l0 l1 l2 l3 l4 l5 l6 l7 l8 l9 l10 l12 l13 l14 l15 l16 l17 : Value) (x : Int64) (S : List Value) (h : zH), rn 162 128 [l0, l1, l2, l3, l4, l5, l6, l7, l8, l9, l10, .long x, l12, l13, l14, l15, l16, l17] S h = rn 162 130 [l0, l1, l2, l3, l4, l5, l6, l7, l8, l9, l10, .long x, l12, l13, l14, l15, l16, l17] (.long x :: S) h) ∧
  (∀ (l0 l1 l2 l3 l4 l5 l6 l7 l8 l9 l10 l11 l12 l13 l14 l15 l16 l17 : Value) (x : Int64) (y : Int64) (S : List Value) (h : zH), rn 162 130 [l0, l1, l2, l3, l4, l5, l6, l7, l8, l9, l10, l11, l12, l13, l14, l15, l16, l17] (.long y :: .long x :: S) h = rn 162 131 [l0, l1, l2, l3, l4, l5, l6, l7, l8, l9, l10, l11, l12, l13, l14, l15, l16, l17] (.int (lg_cmp x y) :: S) h) ∧
  (∀ (l0 l1 l2 l3 l4 l5 l6 l7 l8 l9 l10 l11 l12 l13 l14 l15 l16 l17 : Value) (x : Int32) (S : List Value) (h : zH), rn 162 131 [l0, l1, l2, l3, l4, l5, l6, l7, l8, l9, l10, l11, l12, l13, l14, l15, l16, l17] (.int x :: S) h = if nI 0 ≤ x then rn 162 141 [l0, l1, l2, l3, l4, l5, l6, l7, l8, l9, l10, l11, l12, l13, l14, l15, l16, l17] S h else rn 162 134 [l0, l1, l2, l3, l4, l5, l6, l7, l8, l9, l10, l11, l12, l13, l14, l15, l16, l17] S h) ∧
  (∀ (l0 l1 l2 l3 l4 l5 l6 l7 l8 l9 l10 l11 l12 l14 l15 l16 l17 : Value) (x : Int32) (S : List Value) (h : zH), rn 162 134 [l0, l1, l2, l3, l4, l5, l6, l7, l8, l9, l10, l11, l12, .int x, l14, l15, l16, l17] S h = rn 162 136 [l0, l1, l2, l3, l4, l5, l6, l7, l8, l9, l10, l11, l12, .int x, l14, l15, l16, l17] (.int x :: S) h) ∧
  (∀ (l0 l1 l2 l3 l4 l5 l6 l7 l8 l9 l10 l11 l12 l13 l15 l16 l17 : Value) (x : Int32) (S : List Value) (h : zH), rn 162 136 [l0, l1, l2, l3, l4, l5, l6, l7, l8, l9, l10, l11, l12, l13, .int x, l15, l16, l17] S h = rn 162 138 [l0, l1, l2, l3, l4, l5, l6, l7, l8, l9, l10, l11, l12, l13, .int x, l15, l16, l17] (.int x :: S) h) ∧
  (∀ (l0 l1 l2 l3 l4 l5 l6 l7 l8 l9 l10 l11 l12 l13 l14 l15 l16 l17 : Value) (x : Int32) (y : Int32) (S : List Value) (h : zH), rn 162 138 [l0, l1, l2, l3, l4, l5, l6, l7, l8, l9, l10, l11, l12, l13, l14, l15, l16, l17] (.int y :: .int x :: S) h = rn 162 139 [l0, l1, l2, l3, l4, l5, l6, l7, l8, l9, l10, l11, l12, l13, l14, l15, l16, l17] (.int (x + y) :: S) h) ∧
  (∀ (l0 l1 l2 l3 l4 l5 l6 l7 l8 l9 l10 l11 l12 l13 l14 l15 l16 l17 : Value) (x : Int32) (S : List Value) (h : zH), rn 162 139 [l0, l1, l2, l3, l4, l5, l6, l7, l8, l9, l10, l11, l12, l13, l14, l15, l16, l17] (.int x :: S) h = nl l12 (rn 162 141 [l0, l1, l2, l3, l4, l5, l6, l7, l8, l9, l10, l11, l12, .int x, l14, l15, l16, l17] S h)) ∧
  (∀ (l0 l1 l2 l3 l4 l5 l6 l7 l8 l9 l10 l11 l12 l13 l15 l16 l17 : Value) (x : Int32) (S : List Value) (h : zH), rn 162 141 [l0, l1, l2, l3, l4, l5, l6, l7, l8, l9, l10, l11, l12, l13, .int x, l15, l16, l17] S h = rn 162 143 [l0, l1, l2, l3, l4, l5, l6, l7, l8, l9, l10, l11, l12, l13, .int x, l15, l16, l17] (.int x :: S) h) ∧
  (∀ (l0 l1 l2 l3 l4 l5 l6 l7 l8 l9 l10 l11 l12 l13 l14 l15 l16 l17 : Value) (S : List Value) (h : zH), rn 162 143 [l0, l1, l2, l3, l4, l5, l6, l7, l8, l9, l10, l11, l12, l13, l14, l15, l16, l17] S h = rn 162 144 [l0, l1, l2, l3, l4, l5, l6, l7, l8, l9, l10, l11, l12, l13, l14, l15, l16, l17] (.int (nI 2) :: S) h) ∧
  (∀ (l0 l1 l2 l3 l4 l5 l6 l7 l8 l9 l10 l11 l12 l13 l14 l15 l16 l17 : Value) (x : Int32) (y : Int32) (S : List Value) (h : zH), rn 162 144 [l0, l1, l2, l3, l4, l5, l6, l7, l8, l9, l10, l11, l12, l13, l14, l15, l16, l17] (.int y :: .int x :: S) h = dvI y (rn 162 145 [l0, l1, l2, l3, l4, l5, l6, l7, l8, l9, l10, l11, l12, l13, l14, l15, l16, l17] (.int (x / y) :: S) h)) ∧
  (∀ (l0 l1 l2 l3 l4 l5 l6 l7 l8 l9 l10 l11 l12 l13 l14 l15 l16 l17 : Value) (x : Int32) (S : List Value) (h : zH), rn 162 145 [l0, l1, l2, l3, l4, l5, l6, l7, l8, l9, l10, l11, l12, l13, l14, l15, l16, l17] (.int x :: S) h = nl l13 (rn 162 147 [l0, l1, l2, l3, l4, l5, l6, l7, l8, l9, l10, l11, l12, l13, .int x, l15, l16, l17] S h)) ∧
  (∀ (l0 l1 l2 l3 l4 l5 l6 l7 l8 l9 l10 l11 l12 l13 l14 l15 l16 l17 : Value) (S : List Value) (h : zH), rn 162 147 [l0, l1, l2, l3, l4, l5, l6, l7, l8, l9, l10, l11, l12, l13, l14, l15, l16, l17] S h = rn 162 82 [l0, l1, l2, l3, l4, l5, l6, l7, l8, l9, l10, l11, l12, l13, l14, l15, l16, l17] S h) ∧
  (∀ (l0 l1 l2 l3 l4 l5 l6 l7 l8 l9 l10 l11 l12 l14 l15 l16 l17 : Value) (x : Int32) (S : List Value) (h : zH), rn 162 150 [l0, l1, l2, l3, l4, l5, l6, l7, l8, l9, l10, l11, l12, .int x, l14, l15, l16, l17] S h = rn 162 152 [l0, l1, l2, l3, l4, l5, l6, l7, l8, l9, l10, l11, l12, .int x, l14, l15, l16, l17] (.int x :: S) h) ∧
  (∀ (l0 l1 l2 l3 l4 l5 l6 l7 l8 l9 l10 l11 l12 l13 l14 l15 l16 l17 : Value) (S : List Value) (h : zH), rn 162 152 [l0, l1, l2, l3, l4, l5, l6, l7, l8, l9, l10, l11, l12, l13, l14, l15, l16, l17] S h = rn 162 155 [l0, l1, l2, l3, l4, l5, l6, l7, l8, l9, l10, l11, l12, l13, l14, l15, l16, l17] (.int (nI 9999) :: S) h) ∧
  (∀ (l0 l1 l2 l3 l4 l5 l6 l7 l8 l9 l10 l11 l12 l13 l14 l15 l16 l17 : Value) (x : Int32) (y : Int32) (S : List Value) (h : zH), rn 162 155 [l0, l1, l2, l3, l4, l5, l6, l7, l8, l9, l10, l11, l12, l13, l14, l15, l16, l17] (.int y :: .int x :: S) h = if y < x then rn 162 163 [l0, l1, l2, l3, l4, l5, l6, l7, l8, l9, l10, l11, l12, l13, l14, l15, l16, l17] S h else rn 162 158 [l0, l1, l2, l3, l4, l5, l6, l7, l8, l9, l10, l11, l12, l13, l14, l15, l16, l17] S h) ∧
  (∀ (l0 l1 l2 l3 l4 l5 l6 l7 l8 l9 l10 l11 l12 l14 l15 l16 l17 : Value) (x : Int32) (S : List Value) (h : zH), rn 162 158 [l0, l1, l2, l3, l4, l5, l6, l7, l8, l9, l10, l11, l12, .int x, l14, l15, l16, l17] S h = rn 162 160 [l0, l1, l2, l3, l4, l5, l6, l7, l8, l9, l10, l11, l12, .int x, l14, l15, l16, l17] (.int x :: S) h) ∧
  (∀ (l0 l1 l2 l3 l4 l5 l6 l7 l8 l9 l10 l11 l12 l13 l14 l15 l16 l17 : Value) (S : List Value) (h : zH), rn 162 160 [l0, l1, l2, l3, l4, l5, l6, l7, l8, l9, l10, l11, l12, l13, l14, l15, l16, l17] S h = rn 162 165 [l0, l1, l2, l3, l4, l5, l6, l7, l8, l9, l10, l11, l12, l13, l14, l15, l16, l17] S h) ∧
  (∀ (l0 l1 l2 l3 l4 l5 l6 l7 l8 l9 l10 l11 l12 l13 l14 l15 l16 l17 : Value) (S : List Value) (h : zH), rn 162 163 [l0, l1, l2, l3, l4, l5, l6, l7, l8, l9, l10, l11, l12, l13, l14, l15, l16, l17] S h = rn 162 165 [l0, l1, l2, l3, l4, l5, l6, l7, l8, l9, l10, l11, l12, l13, l14, l15, l16, l17] (.int (-2) :: S) h) ∧
  (∀ (l0 l1 l2 l3 l4 l5 l6 l7 l8 l9 l10 l11 l12 l13 l14 l15 l16 l17 : Value) (x : Int32) (h : zH), rn 162 165 [l0, l1, l2, l3, l4, l5, l6, l7, l8, l9, l10, l11, l12, l13, l14, l15, l16, l17] [.int x] h = some (some (.int x), h)) := ⟨fun _ _ _ _ _ _ _ _ _ _ _ _ _ _ _ _ _ _ _ _ => r_aload_n (show zdec 162 0 = some (.aload_n 1, 1) by decide +kernel) rfl rfl,
  fun _ _ _ _ _ _ _ _ _ _ _ _ _ _ _ _ _ _ _ _ _ => r_getfield (show zdec 162 1 = some (.getfield 32, 3) by decide +kernel) (show zft.lookup (162 * zKEY + 32) = some (1, 2) by decide +kernel) rfl,
  fun _ _ _ _ _ _ _ _ _ _ _ _ _ _ _ _ _ _ _ _ _ => r_istore (show zdec 162 4 = some (.istore 5, 2) by decide +kernel) rfl (Nat.le_of_ble_eq_true rfl) rfl rfl,
  fun _ _ _ _ _ _ _ _ _ _ _ _ _ _ _ _ _ _ _ _ => r_iload (show zdec 162 6 = some (.iload 5, 2) by decide +kernel) rfl rfl,
  fun _ _ _ _ _ _ _ _ _ _ _ _ _ _ _ _ _ _ _ _ _ => r_cS [_] rfl (show zdec 162 8 = some (.invokestatic 38, 3) by decide +kernel) (show zst.lookup (162 * zKEY + 38) = some (3, 25, 1, 0) by decide +kernel) (by decide) rfl,
  fun _ _ _ _ _ _ _ _ _ _ _ _ _ _ _ _ _ _ _ _ _ => r_ifne (show zdec 162 11 = some (.ifCond .ne 6, 3) by decide +kernel) rfl rfl,
  fun _ _ _ _ _ _ _ _ _ _ _ _ _ _ _ _ _ _ _ _ => r_bipush (show zdec 162 14 = some (.bipush (-2), 2) by decide +kernel) rfl rfl,
  fun _ _ _ _ _ _ _ _ _ _ _ _ _ _ _ _ _ _ _ _ => r_ireti (show zdec 162 16 = some (.ireturn, 1) by decide +kernel) (by decide +kernel),
  fun _ _ _ _ _ _ _ _ _ _ _ _ _ _ _ _ _ _ _ _ => r_aload_n (show zdec 162 17 = some (.aload_n 1, 1) by decide +kernel) rfl rfl,
  fun _ _ _ _ _ _ _ _ _ _ _ _ _ _ _ _ _ _ _ _ _ => r_getfield (show zdec 162 18 = some (.getfield 44, 3) by decide +kernel) (show zft.lookup (162 * zKEY + 44) = some (1, 0) by decide +kernel) rfl,
  fun _ _ _ _ _ _ _ _ _ _ _ _ _ _ _ _ _ _ _ _ => r_iload_n (show zdec 162 21 = some (.iload_n 2, 1) by decide +kernel) rfl rfl,
  fun _ _ _ _ _ _ _ _ _ _ _ _ _ _ _ _ _ _ _ _ _ _ => r_aald (show zdec 162 22 = some (.aaload, 1) by decide +kernel) rfl,
  fun _ _ _ _ _ _ _ _ _ _ _ _ _ _ _ _ _ _ _ _ _ => r_astore (show zdec 162 23 = some (.astore 6, 2) by decide +kernel) rfl (Nat.le_of_ble_eq_true rfl) rfl rfl,
  fun _ _ _ _ _ _ _ _ _ _ _ _ _ _ _ _ _ _ _ _ => r_aload (show zdec 162 25 = some (.aload 6, 2) by decide +kernel) rfl rfl,
  fun _ _ _ _ _ _ _ _ _ _ _ _ _ _ _ _ _ _ _ _ _ => r_getfield (show zdec 162 27 = some (.getfield 52, 3) by decide +kernel) (show zft.lookup (162 * zKEY + 52) = some (10, 0) by decide +kernel) rfl,
  fun _ _ _ _ _ _ _ _ _ _ _ _ _ _ _ _ _ _ _ _ => r_bipush (show zdec 162 30 = some (.bipush 12, 2) by decide +kernel) rfl rfl,
  fun _ _ _ _ _ _ _ _ _ _ _ _ _ _ _ _ _ _ _ _ => r_iload (show zdec 162 32 = some (.iload 5, 2) by decide +kernel) rfl rfl,
  fun _ _ _ _ _ _ _ _ _ _ _ _ _ _ _ _ _ _ _ _ _ _ => r_iadd (show zdec 162 34 = some (.iadd, 1) by decide +kernel) rfl,
  fun _ _ _ _ _ _ _ _ _ _ _ _ _ _ _ _ _ _ _ _ _ _ => r_iald (show zdec 162 35 = some (.iaload, 1) by decide +kernel) rfl,
  fun _ _ _ _ _ _ _ _ _ _ _ _ _ _ _ _ _ _ _ _ _ => r_istore (show zdec 162 36 = some (.istore 7, 2) by decide +kernel) rfl (Nat.le_of_ble_eq_true rfl) rfl rfl,
  fun _ _ _ _ _ _ _ _ _ _ _ _ _ _ _ _ _ _ _ _ => r_aload (show zdec 162 38 = some (.aload 6, 2) by decide +kernel) rfl rfl,
  fun _ _ _ _ _ _ _ _ _ _ _ _ _ _ _ _ _ _ _ _ _ => r_getfield (show zdec 162 40 = some (.getfield 52, 3) by decide +kernel) (show zft.lookup (162 * zKEY + 52) = some (10, 0) by decide +kernel) rfl,
  fun _ _ _ _ _ _ _ _ _ _ _ _ _ _ _ _ _ _ _ _ => r_bipush (show zdec 162 43 = some (.bipush 24, 2) by decide +kernel) rfl rfl,
  fun _ _ _ _ _ _ _ _ _ _ _ _ _ _ _ _ _ _ _ _ => r_iload (show zdec 162 45 = some (.iload 5, 2) by decide +kernel) rfl rfl,
  fun _ _ _ _ _ _ _ _ _ _ _ _ _ _ _ _ _ _ _ _ _ _ => r_iadd (show zdec 162 47 = some (.iadd, 1) by decide +kernel) rfl,
  fun _ _ _ _ _ _ _ _ _ _ _ _ _ _ _ _ _ _ _ _ _ _ => r_iald (show zdec 162 48 = some (.iaload, 1) by decide +kernel) rfl,
  fun _ _ _ _ _ _ _ _ _ _ _ _ _ _ _ _ _ _ _ _ _ => r_istore (show zdec 162 49 = some (.istore 8, 2) by decide +kernel) rfl (Nat.le_of_ble_eq_true rfl) rfl rfl,
  fun _ _ _ _ _ _ _ _ _ _ _ _ _ _ _ _ _ _ _ _ => r_aload (show zdec 162 51 = some (.aload 6, 2) by decide +kernel) rfl rfl,
  fun _ _ _ _ _ _ _ _ _ _ _ _ _ _ _ _ _ _ _ _ => r_iload (show zdec 162 53 = some (.iload 5, 2) by decide +kernel) rfl rfl,
  fun _ _ _ _ _ _ _ _ _ _ _ _ _ _ _ _ _ _ _ _ _ _ => r_cV [_] rfl (show zdec 162 55 = some (.invokevirtual 79, 3) by decide +kernel) (show zst.lookup (162 * zKEY + 79) = some (1, 163, 1, 10) by decide +kernel) (by decide) rfl,
  fun _ _ _ _ _ _ _ _ _ _ _ _ _ _ _ _ _ _ _ _ _ => r_lstore (show zdec 162 58 = some (.lstore 9, 2) by decide +kernel) rfl (Nat.le_of_ble_eq_true rfl) rfl rfl,
  fun _ _ _ _ _ _ _ _ _ _ _ _ _ _ _ _ _ _ _ _ => r_aload_n (show zdec 162 60 = some (.aload_n 1, 1) by decide +kernel) rfl rfl,
  fun _ _ _ _ _ _ _ _ _ _ _ _ _ _ _ _ _ _ _ _ _ => r_getfield (show zdec 162 61 = some (.getfield 63, 3) by decide +kernel) (show zft.lookup (162 * zKEY + 63) = some (1, 1) by decide +kernel) rfl,
  fun _ _ _ _ _ _ _ _ _ _ _ _ _ _ _ _ _ _ _ _ => r_iconst (show zdec 162 64 = some (.iconst 4, 1) by decide +kernel) rfl rfl,
  fun _ _ _ _ _ _ _ _ _ _ _ _ _ _ _ _ _ _ _ _ => r_lload (show zdec 162 65 = some (.lload 9, 2) by decide +kernel) rfl rfl,
  fun _ _ _ _ _ _ _ _ _ _ _ _ _ _ _ _ _ _ _ _ _ _ _ => r_cV [_, _] rfl (show zdec 162 67 = some (.invokevirtual 83, 3) by decide +kernel) (show zst.lookup (162 * zKEY + 83) = some (1, 63, 2, 6) by decide +kernel) (by decide) rfl,
  fun _ _ _ _ _ _ _ _ _ _ _ _ _ _ _ _ _ _ _ _ => r_lload_n (show zdec 162 70 = some (.lload_n 3, 1) by decide +kernel) rfl rfl,
  fun _ _ _ _ _ _ _ _ _ _ _ _ _ _ _ _ _ _ _ _ _ _ => r_ladd (show zdec 162 71 = some (.ladd, 1) by decide +kernel) rfl,
  fun _ _ _ _ _ _ _ _ _ _ _ _ _ _ _ _ _ _ _ _ _ => r_lstore (show zdec 162 72 = some (.lstore 11, 2) by decide +kernel) rfl (Nat.le_of_ble_eq_true rfl) rfl rfl,
  fun _ _ _ _ _ _ _ _ _ _ _ _ _ _ _ _ _ _ _ _ => r_iconst (show zdec 162 74 = some (.iconst 0, 1) by decide +kernel) rfl rfl,
  fun _ _ _ _ _ _ _ _ _ _ _ _ _ _ _ _ _ _ _ _ _ => r_istore (show zdec 162 75 = some (.istore 13, 2) by decide +kernel) rfl (Nat.le_of_ble_eq_true rfl) rfl rfl,
  fun _ _ _ _ _ _ _ _ _ _ _ _ _ _ _ _ _ _ _ _ => r_sipush (show zdec 162 77 = some (.sipush 8192, 3) by decide +kernel) rfl rfl,
  fun _ _ _ _ _ _ _ _ _ _ _ _ _ _ _ _ _ _ _ _ _ => r_istore (show zdec 162 80 = some (.istore 14, 2) by decide +kernel) rfl (Nat.le_of_ble_eq_true rfl) rfl rfl,
  fun _ _ _ _ _ _ _ _ _ _ _ _ _ _ _ _ _ _ _ _ _ => r_ifle (show zdec 162 84 = some (.ifCond .le 66, 3) by decide +kernel) rfl rfl,
  fun _ _ _ _ _ _ _ _ _ _ _ _ _ _ _ _ _ _ _ _ => r_iload (show zdec 162 87 = some (.iload 13, 2) by decide +kernel) rfl rfl,
  fun _ _ _ _ _ _ _ _ _ _ _ _ _ _ _ _ _ _ _ _ => r_iload (show zdec 162 89 = some (.iload 14, 2) by decide +kernel) rfl rfl,
  fun _ _ _ _ _ _ _ _ _ _ _ _ _ _ _ _ _ _ _ _ _ _ => r_iadd (show zdec 162 91 = some (.iadd, 1) by decide +kernel) rfl,
  fun _ _ _ _ _ _ _ _ _ _ _ _ _ _ _ _ _ _ _ _ => r_iconst (show zdec 162 92 = some (.iconst 1, 1) by decide +kernel) rfl rfl,
  fun _ _ _ _ _ _ _ _ _ _ _ _ _ _ _ _ _ _ _ _ _ _ => r_isub (show zdec 162 93 = some (.isub, 1) by decide +kernel) rfl,
  fun _ _ _ _ _ _ _ _ _ _ _ _ _ _ _ _ _ _ _ _ _ => r_istore (show zdec 162 94 = some (.istore 15, 2) by decide +kernel) rfl (Nat.le_of_ble_eq_true rfl) rfl rfl,
  fun _ _ _ _ _ _ _ _ _ _ _ _ _ _ _ _ _ _ _ _ => r_lload (show zdec 162 96 = some (.lload 9, 2) by decide +kernel) rfl rfl,
  fun _ _ _ _ _ _ _ _ _ _ _ _ _ _ _ _ _ _ _ _ => r_iload (show zdec 162 98 = some (.iload 15, 2) by decide +kernel) rfl rfl,
  fun _ _ _ _ _ _ _ _ _ _ _ _ _ _ _ _ _ _ _ _ => r_iload (show zdec 162 100 = some (.iload 7, 2) by decide +kernel) rfl rfl,
  fun _ _ _ _ _ _ _ _ _ _ _ _ _ _ _ _ _ _ _ _ => r_iload (show zdec 162 102 = some (.iload 8, 2) by decide +kernel) rfl rfl,
  fun _ _ _ _ _ _ _ _ _ _ _ _ _ _ _ _ _ _ _ _ _ _ _ => r_cS [_, _, _] rfl (show zdec 162 104 = some (.invokestatic 89, 3) by decide +kernel) (show zst.lookup (162 * zKEY + 89) = some (3, 62, 3, 0) by decide +kernel) (by decide) rfl,
  fun _ _ _ _ _ _ _ _ _ _ _ _ _ _ _ _ _ _ _ _ _ _ => r_ladd (show zdec 162 107 = some (.ladd, 1) by decide +kernel) rfl,
  fun _ _ _ _ _ _ _ _ _ _ _ _ _ _ _ _ _ _ _ _ _ => r_lstore (show zdec 162 108 = some (.lstore 16, 2) by decide +kernel) rfl (Nat.le_of_ble_eq_true rfl) rfl rfl,
  fun _ _ _ _ _ _ _ _ _ _ _ _ _ _ _ _ _ _ _ _ => r_iload (show zdec 162 110 = some (.iload 15, 2) by decide +kernel) rfl rfl,
  fun _ _ _ _ _ _ _ _ _ _ _ _ _ _ _ _ _ _ _ _ => r_sipush (show zdec 162 112 = some (.sipush 9999, 3) by decide +kernel) rfl rfl,
  fun _ _ _ _ _ _ _ _ _ _ _ _ _ _ _ _ _ _ _ _ _ _ => r_icmpgt (show zdec 162 115 = some (.if_icmp .gt 26, 3) by decide +kernel) rfl rfl,
  fun _ _ _ _ _ _ _ _ _ _ _ _ _ _ _ _ _ _ _ _ => r_aload_n (show zdec 162 118 = some (.aload_n 1, 1) by decide +kernel) rfl rfl,
  fun _ _ _ _ _ _ _ _ _ _ _ _ _ _ _ _ _ _ _ _ _ => r_getfield (show zdec 162 119 = some (.getfield 63, 3) by decide +kernel) (show zft.lookup (162 * zKEY + 63) = some (1, 1) by decide +kernel) rfl,
  fun _ _ _ _ _ _ _ _ _ _ _ _ _ _ _ _ _ _ _ _ => r_iconst (show zdec 162 122 = some (.iconst 4, 1) by decide +kernel) rfl rfl,
  fun _ _ _ _ _ _ _ _ _ _ _ _ _ _ _ _ _ _ _ _ => r_lload (show zdec 162 123 = some (.lload 16, 2) by decide +kernel) rfl rfl,
  fun _ _ _ _ _ _ _ _ _ _ _ _ _ _ _ _ _ _ _ _ _ _ _ => r_cV [_, _] rfl (show zdec 162 125 = some (.invokevirtual 83, 3) by decide +kernel) (show zst.lookup (162 * zKEY + 83) = some (1, 63, 2, 6) by decide +kernel) (by decide) rfl,
  fun _ _ _ _ _ _ _ _ _ _ _ _ _ _ _ _ _ _ _ _ => r_lload (show zdec 162 128 = some (.lload 11, 2) by decide +kernel) rfl rfl,
  fun _ _ _ _ _ _ _ _ _ _ _ _ _ _ _ _ _ _ _ _ _ _ => r_lcmp (show zdec 162 130 = some (.lcmp, 1) by decide +kernel) rfl,
  fun _ _ _ _ _ _ _ _ _ _ _ _ _ _ _ _ _ _ _ _ _ => r_ifge (show zdec 162 131 = some (.ifCond .ge 10, 3) by decide +kernel) rfl rfl,
  fun _ _ _ _ _ _ _ _ _ _ _ _ _ _ _ _ _ _ _ _ => r_iload (show zdec 162 134 = some (.iload 13, 2) by decide +kernel) rfl rfl,
  fun _ _ _ _ _ _ _ _ _ _ _ _ _ _ _ _ _ _ _ _ => r_iload (show zdec 162 136 = some (.iload 14, 2) by decide +kernel) rfl rfl,
  fun _ _ _ _ _ _ _ _ _ _ _ _ _ _ _ _ _ _ _ _ _ _ => r_iadd (show zdec 162 138 = some (.iadd, 1) by decide +kernel) rfl,
  fun _ _ _ _ _ _ _ _ _ _ _ _ _ _ _ _ _ _ _ _ _ => r_istore (show zdec 162 139 = some (.istore 13, 2) by decide +kernel) rfl (Nat.le_of_ble_eq_true rfl) rfl rfl,
  fun _ _ _ _ _ _ _ _ _ _ _ _ _ _ _ _ _ _ _ _ => r_iload (show zdec 162 141 = some (.iload 14, 2) by decide +kernel) rfl rfl,
  fun _ _ _ _ _ _ _ _ _ _ _ _ _ _ _ _ _ _ _ _ => r_iconst (show zdec 162 143 = some (.iconst 2, 1) by decide +kernel) rfl rfl,
  fun _ _ _ _ _ _ _ _ _ _ _ _ _ _ _ _ _ _ _ _ _ _ => r_idiv (show zdec 162 144 = some (.idiv, 1) by decide +kernel) rfl,
  fun _ _ _ _ _ _ _ _ _ _ _ _ _ _ _ _ _ _ _ _ _ => r_istore (show zdec 162 145 = some (.istore 14, 2) by decide +kernel) rfl (Nat.le_of_ble_eq_true rfl) rfl rfl,
  fun _ _ _ _ _ _ _ _ _ _ _ _ _ _ _ _ _ _ _ _ => r_goto (show zdec 162 147 = some (.goto (-65), 3) by decide +kernel) rfl,
  fun _ _ _ _ _ _ _ _ _ _ _ _ _ _ _ _ _ _ _ _ => r_iload (show zdec 162 150 = some (.iload 13, 2) by decide +kernel) rfl rfl,
  fun _ _ _ _ _ _ _ _ _ _ _ _ _ _ _ _ _ _ _ _ => r_sipush (show zdec 162 152 = some (.sipush 9999, 3) by decide +kernel) rfl rfl,
  fun _ _ _ _ _ _ _ _ _ _ _ _ _ _ _ _ _ _ _ _ _ _ => r_icmpgt (show zdec 162 155 = some (.if_icmp .gt 8, 3) by decide +kernel) rfl rfl,
  fun _ _ _ _ _ _ _ _ _ _ _ _ _ _ _ _ _ _ _ _ => r_iload (show zdec 162 158 = some (.iload 13, 2) by decide +kernel) rfl rfl,
  fun _ _ _ _ _ _ _ _ _ _ _ _ _ _ _ _ _ _ _ _ => r_goto (show zdec 162 160 = some (.goto 5, 3) by decide +kernel) rfl,
  fun _ _ _ _ _ _ _ _ _ _ _ _ _ _ _ _ _ _ _ _ => r_bipush (show zdec 162 163 = some (.bipush (-2), 2) by decide +kernel) rfl rfl,
  fun _ _ _ _ _ _ _ _ _ _ _ _ _ _ _ _ _ _ _ _ => r_ireti (show zdec 162 165 = some (.ireturn, 1) by decide +kernel) (by decide +kernel)⟩
theorem zl_162_82 : ∀ (l0 l1 l2 l3 l4 l5 l6 l7 l8 l9 l10 l11 l12 l13 l15 l16 l17 : Value) (x : Int32) (S : List Value) (h : zH), rn 162 82 [l0, l1, l2, l3, l4, l5, l6, l7, l8, l9, l10, l11, l12, l13, .int x, l15, l16, l17] S h = rn 162 84 [l0, l1, l2, l3, l4, l5, l6, l7, l8, l9, l10, l11, l12, l13, .int x, l15, l16, l17] (.int x :: S) h := fun _ _ _ _ _ _ _ _ _ _ _ _ _ _ _ _ _ _ _ _ => r_iload (show zdec 162 82 = some (.iload 14, 2) by decide +kernel) rfl rfl
theorem ze_162 : ∀ (a0 : Nat) (a1 : Nat) (a2 : Int32) (a3 : Int64) (h : zH), ev 162 [.ref a0, .ref a1, .int a2, .long a3] h = rn 162 0 [.ref a0, .ref a1, .int a2, .long a3, .float 0, .float 0, .float 0, .float 0, .float 0, .float 0, .float 0, .float 0, .float 0, .float 0, .float 0, .float 0, .float 0, .float 0] [] h := fun _ _ _ _ _ => if_pos (Nat.le_of_ble_eq_true rfl)
-- PayrollRun/Worker.grossBefore(I)J
theorem zr_163 : (∀ (l0 l1 l2 l3 l4 : Value) (S : List Value) (h : zH), rn 163 0 [l0, l1, l2, l3, l4] S h = rn 163 1 [l0, l1, l2, l3, l4] (.long 0 :: S) h) ∧
  (∀ (l0 l1 l2 l3 l4 : Value) (x : Int64) (S : List Value) (h : zH), rn 163 1 [l0, l1, l2, l3, l4] (.long x :: S) h = nl l1 (rn 163 2 [l0, l1, .long x, .float 0, l4] S h)) ∧
  (∀ (l0 l1 l2 l3 l4 : Value) (S : List Value) (h : zH), rn 163 2 [l0, l1, l2, l3, l4] S h = rn 163 3 [l0, l1, l2, l3, l4] (.int (nI 0) :: S) h) ∧
  (∀ (l0 l1 l2 l3 l4 : Value) (x : Int32) (S : List Value) (h : zH), rn 163 3 [l0, l1, l2, l3, l4] (.int x :: S) h = nl l3 (rn 163 5 [l0, l1, l2, l3, .int x] S h)) ∧
  (∀ (l0 l2 l3 l4 : Value) (x : Int32) (S : List Value) (h : zH), rn 163 7 [l0, .int x, l2, l3, l4] S h = rn 163 8 [l0, .int x, l2, l3, l4] (.int x :: S) h) ∧
  (∀ (l0 l1 l2 l3 l4 : Value) (x : Int32) (y : Int32) (S : List Value) (h : zH), rn 163 8 [l0, l1, l2, l3, l4] (.int y :: .int x :: S) h = if y ≤ x then rn 163 33 [l0, l1, l2, l3, l4] S h else rn 163 11 [l0, l1, l2, l3, l4] S h) ∧
  (∀ (l0 l1 l2 l3 : Value) (x : Int32) (S : List Value) (h : zH), rn 163 11 [l0, l1, l2, l3, .int x] S h = rn 163 13 [l0, l1, l2, l3, .int x] (.int x :: S) h) ∧
  (∀ (l0 l1 l2 l3 l4 : Value) (S : List Value) (h : zH), rn 163 13 [l0, l1, l2, l3, l4] S h = rn 163 15 [l0, l1, l2, l3, l4] (.int (nI 12) :: S) h) ∧
  (∀ (l0 l1 l2 l3 l4 : Value) (x : Int32) (y : Int32) (S : List Value) (h : zH), rn 163 15 [l0, l1, l2, l3, l4] (.int y :: .int x :: S) h = if y ≤ x then rn 163 33 [l0, l1, l2, l3, l4] S h else rn 163 18 [l0, l1, l2, l3, l4] S h) ∧
  (∀ (l0 l1 l3 l4 : Value) (x : Int64) (S : List Value) (h : zH), rn 163 18 [l0, l1, .long x, l3, l4] S h = rn 163 19 [l0, l1, .long x, l3, l4] (.long x :: S) h) ∧
  (∀ (l1 l2 l3 l4 : Value) (x : Nat) (S : List Value) (h : zH), rn 163 19 [.ref x, l1, l2, l3, l4] S h = rn 163 20 [.ref x, l1, l2, l3, l4] (.ref x :: S) h) ∧
  (∀ (l0 l1 l2 l3 : Value) (x : Int32) (S : List Value) (h : zH), rn 163 20 [l0, l1, l2, l3, .int x] S h = rn 163 22 [l0, l1, l2, l3, .int x] (.int x :: S) h) ∧
  (∀ (l0 l1 l2 l3 l4 : Value) (o : Nat) (v0 : Value) (S : List Value) (h : zH), rn 163 22 [l0, l1, l2, l3, l4] (v0 :: .ref o :: S) h = if zkd h o = 10 ∧ zsum S ≤ 8 then zcall (ev 61 [.ref o, v0] h) (fun v h => rn 163 25 [l0, l1, l2, l3, l4] (zpush v S) h) else none) ∧
  (∀ (l0 l1 l2 l3 l4 : Value) (x : Int64) (y : Int64) (S : List Value) (h : zH), rn 163 25 [l0, l1, l2, l3, l4] (.long y :: .long x :: S) h = rn 163 26 [l0, l1, l2, l3, l4] (.long (x + y) :: S) h) ∧
  (∀ (l0 l1 l2 l3 l4 : Value) (x : Int64) (S : List Value) (h : zH), rn 163 26 [l0, l1, l2, l3, l4] (.long x :: S) h = nl l1 (rn 163 27 [l0, l1, .long x, .float 0, l4] S h)) ∧
  (∀ (l0 l1 l2 l3 : Value) (x : Int32) (S : List Value) (h : zH), rn 163 27 [l0, l1, l2, l3, .int x] S h = nl l3 (rn 163 30 [l0, l1, l2, l3, .int (x + (nI 1))] S h)) ∧
  (∀ (l0 l1 l2 l3 l4 : Value) (S : List Value) (h : zH), rn 163 30 [l0, l1, l2, l3, l4] S h = rn 163 5 [l0, l1, l2, l3, l4] S h) ∧
  (∀ (l0 l1 l3 l4 : Value) (x : Int64) (S : List Value) (h : zH), rn 163 33 [l0, l1, .long x, l3, l4] S h = rn 163 34 [l0, l1, .long x, l3, l4] (.long x :: S) h) ∧
  (∀ (l0 l1 l2 l3 l4 : Value) (x : Int64) (h : zH), rn 163 34 [l0, l1, l2, l3, l4] [.long x] h = some (some (.long x), h)) := ⟨fun _ _ _ _ _ _ _ => r_lconst (show zdec 163 0 = some (.lconst 0, 1) by decide +kernel) rfl rfl,
  fun _ _ _ _ _ _ _ _ => r_lstore_n (show zdec 163 1 = some (.lstore_n 2, 1) by decide +kernel) rfl rfl (Nat.le_of_ble_eq_true rfl) rfl rfl,
  fun _ _ _ _ _ _ _ => r_iconst (show zdec 163 2 = some (.iconst 0, 1) by decide +kernel) rfl rfl,
  fun _ _ _ _ _ _ _ _ => r_istore (show zdec 163 3 = some (.istore 4, 2) by decide +kernel) rfl (Nat.le_of_ble_eq_true rfl) rfl rfl,
  fun _ _ _ _ _ _ _ => r_iload_n (show zdec 163 7 = some (.iload_n 1, 1) by decide +kernel) rfl rfl,
  fun _ _ _ _ _ _ _ _ _ => r_icmpge (show zdec 163 8 = some (.if_icmp .ge 25, 3) by decide +kernel) rfl rfl,
  fun _ _ _ _ _ _ _ => r_iload (show zdec 163 11 = some (.iload 4, 2) by decide +kernel) rfl rfl,
  fun _ _ _ _ _ _ _ => r_bipush (show zdec 163 13 = some (.bipush 12, 2) by decide +kernel) rfl rfl,
  fun _ _ _ _ _ _ _ _ _ => r_icmpge (show zdec 163 15 = some (.if_icmp .ge 18, 3) by decide +kernel) rfl rfl,
  fun _ _ _ _ _ _ _ => r_lload_n (show zdec 163 18 = some (.lload_n 2, 1) by decide +kernel) rfl rfl,
  fun _ _ _ _ _ _ _ => r_aload_nr (show zdec 163 19 = some (.aload_n 0, 1) by decide +kernel) rfl rfl,
  fun _ _ _ _ _ _ _ => r_iload (show zdec 163 20 = some (.iload 4, 2) by decide +kernel) rfl rfl,
  fun _ _ _ _ _ _ _ _ _ => r_cV [_] rfl (show zdec 163 22 = some (.invokevirtual 60, 3) by decide +kernel) (show zst.lookup (163 * zKEY + 60) = some (1, 61, 1, 10) by decide +kernel) (by decide) rfl,
  fun _ _ _ _ _ _ _ _ _ => r_ladd (show zdec 163 25 = some (.ladd, 1) by decide +kernel) rfl,
  fun _ _ _ _ _ _ _ _ => r_lstore_n (show zdec 163 26 = some (.lstore_n 2, 1) by decide +kernel) rfl rfl (Nat.le_of_ble_eq_true rfl) rfl rfl,
  fun _ _ _ _ _ _ _ => r_iinc (show zdec 163 27 = some (.iinc 4 1, 3) by decide +kernel) rfl rfl rfl (Nat.le_of_ble_eq_true rfl) rfl rfl,
  fun _ _ _ _ _ _ _ => r_goto (show zdec 163 30 = some (.goto (-25), 3) by decide +kernel) rfl,
  fun _ _ _ _ _ _ _ => r_lload_n (show zdec 163 33 = some (.lload_n 2, 1) by decide +kernel) rfl rfl,
  fun _ _ _ _ _ _ _ => r_lret (show zdec 163 34 = some (.lreturn, 1) by decide +kernel) (by decide +kernel)⟩
theorem zl_163_5 : ∀ (l0 l1 l2 l3 : Value) (x : Int32) (S : List Value) (h : zH), rn 163 5 [l0, l1, l2, l3, .int x] S h = rn 163 7 [l0, l1, l2, l3, .int x] (.int x :: S) h := fun _ _ _ _ _ _ _ => r_iload (show zdec 163 5 = some (.iload 4, 2) by decide +kernel) rfl rfl
theorem ze_163 : ∀ (a0 : Nat) (a1 : Int32) (h : zH), ev 163 [.ref a0, .int a1] h = rn 163 0 [.ref a0, .int a1, .float 0, .float 0, .float 0] [] h := fun _ _ _ => if_pos (Nat.le_of_ble_eq_true rfl)
-- PayrollRun/Worker.totalOf(I)J
theorem zr_165 : (∀ (l0 : Value) (x : Int32) (S : List Value) (h : zH), rn 165 0 [l0, .int x] S h = rn 165 1 [l0, .int x] (.int x :: S) h) ∧
  (∀ (l0 l1 : Value) (x : Int32) (S : List Value) (h : zH), rn 165 1 [l0, l1] (.int x :: S) h = if x = nI 0 then rn 165 10 [l0, l1] S h else rn 165 4 [l0, l1] S h) ∧
  (∀ (l0 : Value) (x : Int32) (S : List Value) (h : zH), rn 165 4 [l0, .int x] S h = rn 165 5 [l0, .int x] (.int x :: S) h) ∧
  (∀ (l0 l1 : Value) (S : List Value) (h : zH), rn 165 5 [l0, l1] S h = rn 165 7 [l0, l1] (.int (nI 7) :: S) h) ∧
  (∀ (l0 l1 : Value) (x : Int32) (y : Int32) (S : List Value) (h : zH), rn 165 7 [l0, l1] (.int y :: .int x :: S) h = if x = y then rn 165 10 [l0, l1] S h else rn 165 16 [l0, l1] S h) ∧
  (∀ (l1 : Value) (x : Nat) (S : List Value) (h : zH), rn 165 10 [.ref x, l1] S h = rn 165 11 [.ref x, l1] (.ref x :: S) h) ∧
  (∀ (l0 : Value) (x : Int32) (S : List Value) (h : zH), rn 165 11 [l0, .int x] S h = rn 165 12 [l0, .int x] (.int x :: S) h) ∧
  (∀ (l0 l1 : Value) (o : Nat) (v0 : Value) (S : List Value) (h : zH), rn 165 12 [l0, l1] (v0 :: .ref o :: S) h = if zkd h o = 10 ∧ zsum S ≤ 8 then zcall (ev 166 [.ref o, v0] h) (fun v h => rn 165 15 [l0, l1] (zpush v S) h) else none) ∧
  (∀ (l0 l1 : Value) (x : Int64) (h : zH), rn 165 15 [l0, l1] [.long x] h = some (some (.long x), h)) ∧
  (∀ (l0 : Value) (x : Int32) (S : List Value) (h : zH), rn 165 16 [l0, .int x] S h = rn 165 17 [l0, .int x] (.int x :: S) h) ∧
  (∀ (l0 l1 : Value) (S : List Value) (h : zH), rn 165 17 [l0, l1] S h = rn 165 19 [l0, l1] (.int (nI 8) :: S) h) ∧
  (∀ (l0 l1 : Value) (x : Int32) (y : Int32) (S : List Value) (h : zH), rn 165 19 [l0, l1] (.int y :: .int x :: S) h = if x = y then rn 165 22 [l0, l1] S h else rn 165 35 [l0, l1] S h) ∧
  (∀ (l1 : Value) (x : Nat) (S : List Value) (h : zH), rn 165 22 [.ref x, l1] S h = rn 165 23 [.ref x, l1] (.ref x :: S) h) ∧
  (∀ (l0 l1 : Value) (S : List Value) (h : zH), rn 165 23 [l0, l1] S h = rn 165 24 [l0, l1] (.int (nI 4) :: S) h) ∧
  (∀ (l0 l1 : Value) (o : Nat) (v0 : Value) (S : List Value) (h : zH), rn 165 24 [l0, l1] (v0 :: .ref o :: S) h = if zkd h o = 10 ∧ zsum S ≤ 8 then zcall (ev 166 [.ref o, v0] h) (fun v h => rn 165 27 [l0, l1] (zpush v S) h) else none) ∧
  (∀ (l1 : Value) (x : Nat) (S : List Value) (h : zH), rn 165 27 [.ref x, l1] S h = rn 165 28 [.ref x, l1] (.ref x :: S) h) ∧
  (∀ (l0 l1 : Value) (S : List Value) (h : zH), rn 165 28 [l0, l1] S h = rn 165 30 [l0, l1] (.int (nI 6) :: S) h) ∧
  (∀ (l0 l1 : Value) (o : Nat) (v0 : Value) (S : List Value) (h : zH), rn 165 30 [l0, l1] (v0 :: .ref o :: S) h = if zkd h o = 10 ∧ zsum S ≤ 8 then zcall (ev 166 [.ref o, v0] h) (fun v h => rn 165 33 [l0, l1] (zpush v S) h) else none) ∧
  (∀ (l0 l1 : Value) (x : Int64) (y : Int64) (S : List Value) (h : zH), rn 165 33 [l0, l1] (.long y :: .long x :: S) h = rn 165 34 [l0, l1] (.long (x + y) :: S) h) ∧
  (∀ (l0 l1 : Value) (x : Int64) (h : zH), rn 165 34 [l0, l1] [.long x] h = some (some (.long x), h)) ∧
  (∀ (l1 : Value) (x : Nat) (S : List Value) (h : zH), rn 165 35 [.ref x, l1] S h = rn 165 36 [.ref x, l1] (.ref x :: S) h) ∧
  (∀ (l0 : Value) (x : Int32) (S : List Value) (h : zH), rn 165 36 [l0, .int x] S h = rn 165 37 [l0, .int x] (.int x :: S) h) ∧
  (∀ (l0 l1 : Value) (o : Nat) (v0 : Value) (S : List Value) (h : zH), rn 165 37 [l0, l1] (v0 :: .ref o :: S) h = if zkd h o = 10 ∧ zsum S ≤ 8 then zcall (ev 166 [.ref o, v0] h) (fun v h => rn 165 40 [l0, l1] (zpush v S) h) else none) ∧
  (∀ (l0 l1 : Value) (x : Int64) (S : List Value) (h : zH), rn 165 40 [l0, l1] (.long x :: S) h = rn 165 41 [l0, l1] (.long (-x) :: S) h) ∧
  (∀ (l0 l1 : Value) (x : Int64) (h : zH), rn 165 41 [l0, l1] [.long x] h = some (some (.long x), h)) := ⟨fun _ _ _ _ => r_iload_n (show zdec 165 0 = some (.iload_n 1, 1) by decide +kernel) rfl rfl,
  fun _ _ _ _ _ => r_ifeq (show zdec 165 1 = some (.ifCond .eq 9, 3) by decide +kernel) rfl rfl,
  fun _ _ _ _ => r_iload_n (show zdec 165 4 = some (.iload_n 1, 1) by decide +kernel) rfl rfl,
  fun _ _ _ _ => r_bipush (show zdec 165 5 = some (.bipush 7, 2) by decide +kernel) rfl rfl,
  fun _ _ _ _ _ _ => r_icmpne (show zdec 165 7 = some (.if_icmp .ne 9, 3) by decide +kernel) rfl rfl,
  fun _ _ _ _ => r_aload_nr (show zdec 165 10 = some (.aload_n 0, 1) by decide +kernel) rfl rfl,
  fun _ _ _ _ => r_iload_n (show zdec 165 11 = some (.iload_n 1, 1) by decide +kernel) rfl rfl,
  fun _ _ _ _ _ _ => r_cV [_] rfl (show zdec 165 12 = some (.invokevirtual 64, 3) by decide +kernel) (show zst.lookup (165 * zKEY + 64) = some (1, 166, 1, 10) by decide +kernel) (by decide) rfl,
  fun _ _ _ _ => r_lret (show zdec 165 15 = some (.lreturn, 1) by decide +kernel) (by decide +kernel),
  fun _ _ _ _ => r_iload_n (show zdec 165 16 = some (.iload_n 1, 1) by decide +kernel) rfl rfl,
  fun _ _ _ _ => r_bipush (show zdec 165 17 = some (.bipush 8, 2) by decide +kernel) rfl rfl,
  fun _ _ _ _ _ _ => r_icmpne (show zdec 165 19 = some (.if_icmp .ne 16, 3) by decide +kernel) rfl rfl,
  fun _ _ _ _ => r_aload_nr (show zdec 165 22 = some (.aload_n 0, 1) by decide +kernel) rfl rfl,
  fun _ _ _ _ => r_iconst (show zdec 165 23 = some (.iconst 4, 1) by decide +kernel) rfl rfl,
  fun _ _ _ _ _ _ => r_cV [_] rfl (show zdec 165 24 = some (.invokevirtual 64, 3) by decide +kernel) (show zst.lookup (165 * zKEY + 64) = some (1, 166, 1, 10) by decide +kernel) (by decide) rfl,
  fun _ _ _ _ => r_aload_nr (show zdec 165 27 = some (.aload_n 0, 1) by decide +kernel) rfl rfl,
  fun _ _ _ _ => r_bipush (show zdec 165 28 = some (.bipush 6, 2) by decide +kernel) rfl rfl,
  fun _ _ _ _ _ _ => r_cV [_] rfl (show zdec 165 30 = some (.invokevirtual 64, 3) by decide +kernel) (show zst.lookup (165 * zKEY + 64) = some (1, 166, 1, 10) by decide +kernel) (by decide) rfl,
  fun _ _ _ _ _ _ => r_ladd (show zdec 165 33 = some (.ladd, 1) by decide +kernel) rfl,
  fun _ _ _ _ => r_lret (show zdec 165 34 = some (.lreturn, 1) by decide +kernel) (by decide +kernel),
  fun _ _ _ _ => r_aload_nr (show zdec 165 35 = some (.aload_n 0, 1) by decide +kernel) rfl rfl,
  fun _ _ _ _ => r_iload_n (show zdec 165 36 = some (.iload_n 1, 1) by decide +kernel) rfl rfl,
  fun _ _ _ _ _ _ => r_cV [_] rfl (show zdec 165 37 = some (.invokevirtual 64, 3) by decide +kernel) (show zst.lookup (165 * zKEY + 64) = some (1, 166, 1, 10) by decide +kernel) (by decide) rfl,
  fun _ _ _ _ _ => r_lneg (show zdec 165 40 = some (.lneg, 1) by decide +kernel) rfl,
  fun _ _ _ _ => r_lret (show zdec 165 41 = some (.lreturn, 1) by decide +kernel) (by decide +kernel)⟩
theorem ze_165 : ∀ (a0 : Nat) (a1 : Int32) (h : zH), ev 165 [.ref a0, .int a1] h = rn 165 0 [.ref a0, .int a1] [] h := fun _ _ _ => if_pos (Nat.le_of_ble_eq_true rfl)
-- PayrollRun/Worker.sumOf(I)J
theorem zr_166 : (∀ (l0 l1 l2 l3 l4 : Value) (S : List Value) (h : zH), rn 166 0 [l0, l1, l2, l3, l4] S h = rn 166 1 [l0, l1, l2, l3, l4] (.long 0 :: S) h) ∧
  (∀ (l0 l1 l2 l3 l4 : Value) (x : Int64) (S : List Value) (h : zH), rn 166 1 [l0, l1, l2, l3, l4] (.long x :: S) h = nl l1 (rn 166 2 [l0, l1, .long x, .float 0, l4] S h)) ∧
  (∀ (l0 l1 l2 l3 l4 : Value) (S : List Value) (h : zH), rn 166 2 [l0, l1, l2, l3, l4] S h = rn 166 3 [l0, l1, l2, l3, l4] (.int (nI 0) :: S) h) ∧
  (∀ (l0 l1 l2 l3 l4 : Value) (x : Int32) (S : List Value) (h : zH), rn 166 3 [l0, l1, l2, l3, l4] (.int x :: S) h = nl l3 (rn 166 5 [l0, l1, l2, l3, .int x] S h)) ∧
  (∀ (l0 l1 l2 l3 l4 : Value) (S : List Value) (h : zH), rn 166 7 [l0, l1, l2, l3, l4] S h = rn 166 9 [l0, l1, l2, l3, l4] (.int (nI 12) :: S) h) ∧
  (∀ (l0 l1 l2 l3 l4 : Value) (x : Int32) (y : Int32) (S : List Value) (h : zH), rn 166 9 [l0, l1, l2, l3, l4] (.int y :: .int x :: S) h = if y ≤ x then rn 166 42 [l0, l1, l2, l3, l4] S h else rn 166 12 [l0, l1, l2, l3, l4] S h) ∧
  (∀ (l1 l2 l3 l4 : Value) (x : Nat) (S : List Value) (h : zH), rn 166 12 [.ref x, l1, l2, l3, l4] S h = rn 166 13 [.ref x, l1, l2, l3, l4] (.ref x :: S) h) ∧
  (∀ (l0 l1 l2 l3 l4 : Value) (a : Nat) (S : List Value) (h : zH), rn 166 13 [l0, l1, l2, l3, l4] (.ref a :: S) h = zgf h a 10 3 fun v => rn 166 16 [l0, l1, l2, l3, l4] (v :: S) h) ∧
  (∀ (l0 l1 l2 l3 : Value) (x : Int32) (S : List Value) (h : zH), rn 166 16 [l0, l1, l2, l3, .int x] S h = rn 166 18 [l0, l1, l2, l3, .int x] (.int x :: S) h) ∧
  (∀ (l0 l1 l2 l3 l4 : Value) (a : Nat) (j : Int32) (S : List Value) (h : zH), rn 166 18 [l0, l1, l2, l3, l4] (.int j :: .ref a :: S) h = zlq h a j fun x => rn 166 19 [l0, l1, l2, l3, l4] (va_rf x :: S) h) ∧
  (∀ (l0 l1 l2 l3 l4 : Value) (v : Value) (S : List Value) (h : zH), rn 166 19 [l0, l1, l2, l3, l4] (v :: S) h = ifN v (rn 166 36 [l0, l1, l2, l3, l4] S h) (rn 166 22 [l0, l1, l2, l3, l4] S h)) ∧
  (∀ (l0 l1 l3 l4 : Value) (x : Int64) (S : List Value) (h : zH), rn 166 22 [l0, l1, .long x, l3, l4] S h = rn 166 23 [l0, l1, .long x, l3, l4] (.long x :: S) h) ∧
  (∀ (l1 l2 l3 l4 : Value) (x : Nat) (S : List Value) (h : zH), rn 166 23 [.ref x, l1, l2, l3, l4] S h = rn 166 24 [.ref x, l1, l2, l3, l4] (.ref x :: S) h) ∧
  (∀ (l0 l1 l2 l3 l4 : Value) (a : Nat) (S : List Value) (h : zH), rn 166 24 [l0, l1, l2, l3, l4] (.ref a :: S) h = zgf h a 10 3 fun v => rn 166 27 [l0, l1, l2, l3, l4] (v :: S) h) ∧
  (∀ (l0 l1 l2 l3 : Value) (x : Int32) (S : List Value) (h : zH), rn 166 27 [l0, l1, l2, l3, .int x] S h = rn 166 29 [l0, l1, l2, l3, .int x] (.int x :: S) h) ∧
  (∀ (l0 l1 l2 l3 l4 : Value) (a : Nat) (j : Int32) (S : List Value) (h : zH), rn 166 29 [l0, l1, l2, l3, l4] (.int j :: .ref a :: S) h = zlq h a j fun x => rn 166 30 [l0, l1, l2, l3, l4] (va_rf x :: S) h) ∧
  (∀ (l0 l2 l3 l4 : Value) (x : Int32) (S : List Value) (h : zH), rn 166 30 [l0, .int x, l2, l3, l4] S h = rn 166 31 [l0, .int x, l2, l3, l4] (.int x :: S) h) ∧
  (∀ (l0 l1 l2 l3 l4 : Value) (o : Nat) (v0 : Value) (S : List Value) (h : zH), rn 166 31 [l0, l1, l2, l3, l4] (v0 :: .ref o :: S) h = if zkd h o = 7 ∧ zsum S ≤ 8 then zcall (ev 167 [.ref o, v0] h) (fun v h => rn 166 34 [l0, l1, l2, l3, l4] (zpush v S) h) else none) ∧
  (∀ (l0 l1 l2 l3 l4 : Value) (x : Int64) (y : Int64) (S : List Value) (h : zH), rn 166 34 [l0, l1, l2, l3, l4] (.long y :: .long x :: S) h = rn 166 35 [l0, l1, l2, l3, l4] (.long (x + y) :: S) h) ∧
  (∀ (l0 l1 l2 l3 l4 : Value) (x : Int64) (S : List Value) (h : zH), rn 166 35 [l0, l1, l2, l3, l4] (.long x :: S) h = nl l1 (rn 166 36 [l0, l1, .long x, .float 0, l4] S h)) ∧
  (∀ (l0 l1 l2 l3 : Value) (x : Int32) (S : List Value) (h : zH), rn 166 36 [l0, l1, l2, l3, .int x] S h = nl l3 (rn 166 39 [l0, l1, l2, l3, .int (x + (nI 1))] S h)) ∧
  (∀ (l0 l1 l2 l3 l4 : Value) (S : List Value) (h : zH), rn 166 39 [l0, l1, l2, l3, l4] S h = rn 166 5 [l0, l1, l2, l3, l4] S h) ∧
  (∀ (l0 l1 l3 l4 : Value) (x : Int64) (S : List Value) (h : zH), rn 166 42 [l0, l1, .long x, l3, l4] S h = rn 166 43 [l0, l1, .long x, l3, l4] (.long x :: S) h) ∧
  (∀ (l0 l1 l2 l3 l4 : Value) (x : Int64) (h : zH), rn 166 43 [l0, l1, l2, l3, l4] [.long x] h = some (some (.long x), h)) := ⟨fun _ _ _ _ _ _ _ => r_lconst (show zdec 166 0 = some (.lconst 0, 1) by decide +kernel) rfl rfl,
  fun _ _ _ _ _ _ _ _ => r_lstore_n (show zdec 166 1 = some (.lstore_n 2, 1) by decide +kernel) rfl rfl (Nat.le_of_ble_eq_true rfl) rfl rfl,
  fun _ _ _ _ _ _ _ => r_iconst (show zdec 166 2 = some (.iconst 0, 1) by decide +kernel) rfl rfl,
  fun _ _ _ _ _ _ _ _ => r_istore (show zdec 166 3 = some (.istore 4, 2) by decide +kernel) rfl (Nat.le_of_ble_eq_true rfl) rfl rfl,
  fun _ _ _ _ _ _ _ => r_bipush (show zdec 166 7 = some (.bipush 12, 2) by decide +kernel) rfl rfl,
  fun _ _ _ _ _ _ _ _ _ => r_icmpge (show zdec 166 9 = some (.if_icmp .ge 33, 3) by decide +kernel) rfl rfl,
  fun _ _ _ _ _ _ _ => r_aload_nr (show zdec 166 12 = some (.aload_n 0, 1) by decide +kernel) rfl rfl,
  fun _ _ _ _ _ _ _ _ => r_getfield (show zdec 166 13 = some (.getfield 24, 3) by decide +kernel) (show zft.lookup (166 * zKEY + 24) = some (10, 3) by decide +kernel) rfl,
  fun _ _ _ _ _ _ _ => r_iload (show zdec 166 16 = some (.iload 4, 2) by decide +kernel) rfl rfl,
  fun _ _ _ _ _ _ _ _ _ => r_aald (show zdec 166 18 = some (.aaload, 1) by decide +kernel) rfl,
  fun _ _ _ _ _ _ _ _ => r_ifnull (show zdec 166 19 = some (.ifnull 17, 3) by decide +kernel) rfl rfl,
  fun _ _ _ _ _ _ _ => r_lload_n (show zdec 166 22 = some (.lload_n 2, 1) by decide +kernel) rfl rfl,
  fun _ _ _ _ _ _ _ => r_aload_nr (show zdec 166 23 = some (.aload_n 0, 1) by decide +kernel) rfl rfl,
  fun _ _ _ _ _ _ _ _ => r_getfield (show zdec 166 24 = some (.getfield 24, 3) by decide +kernel) (show zft.lookup (166 * zKEY + 24) = some (10, 3) by decide +kernel) rfl,
  fun _ _ _ _ _ _ _ => r_iload (show zdec 166 27 = some (.iload 4, 2) by decide +kernel) rfl rfl,
  fun _ _ _ _ _ _ _ _ _ => r_aald (show zdec 166 29 = some (.aaload, 1) by decide +kernel) rfl,
  fun _ _ _ _ _ _ _ => r_iload_n (show zdec 166 30 = some (.iload_n 1, 1) by decide +kernel) rfl rfl,
  fun _ _ _ _ _ _ _ _ _ => r_cV [_] rfl (show zdec 166 31 = some (.invokevirtual 67, 3) by decide +kernel) (show zst.lookup (166 * zKEY + 67) = some (1, 167, 1, 7) by decide +kernel) (by decide) rfl,
  fun _ _ _ _ _ _ _ _ _ => r_ladd (show zdec 166 34 = some (.ladd, 1) by decide +kernel) rfl,
  fun _ _ _ _ _ _ _ _ => r_lstore_n (show zdec 166 35 = some (.lstore_n 2, 1) by decide +kernel) rfl rfl (Nat.le_of_ble_eq_true rfl) rfl rfl,
  fun _ _ _ _ _ _ _ => r_iinc (show zdec 166 36 = some (.iinc 4 1, 3) by decide +kernel) rfl rfl rfl (Nat.le_of_ble_eq_true rfl) rfl rfl,
  fun _ _ _ _ _ _ _ => r_goto (show zdec 166 39 = some (.goto (-34), 3) by decide +kernel) rfl,
  fun _ _ _ _ _ _ _ => r_lload_n (show zdec 166 42 = some (.lload_n 2, 1) by decide +kernel) rfl rfl,
  fun _ _ _ _ _ _ _ => r_lret (show zdec 166 43 = some (.lreturn, 1) by decide +kernel) (by decide +kernel)⟩
theorem zl_166_5 : ∀ (l0 l1 l2 l3 : Value) (x : Int32) (S : List Value) (h : zH), rn 166 5 [l0, l1, l2, l3, .int x] S h = rn 166 7 [l0, l1, l2, l3, .int x] (.int x :: S) h := fun _ _ _ _ _ _ _ => r_iload (show zdec 166 5 = some (.iload 4, 2) by decide +kernel) rfl rfl
theorem ze_166 : ∀ (a0 : Nat) (a1 : Int32) (h : zH), ev 166 [.ref a0, .int a1] h = rn 166 0 [.ref a0, .int a1, .float 0, .float 0, .float 0] [] h := fun _ _ _ => if_pos (Nat.le_of_ble_eq_true rfl)
-- PayrollRun/Slip.sumOf(I)J
theorem zr_167 : (∀ (l0 l1 l2 l3 l4 : Value) (S : List Value) (h : zH), rn 167 0 [l0, l1, l2, l3, l4] S h = rn 167 1 [l0, l1, l2, l3, l4] (.long 0 :: S) h) ∧
  (∀ (l0 l1 l2 l3 l4 : Value) (x : Int64) (S : List Value) (h : zH), rn 167 1 [l0, l1, l2, l3, l4] (.long x :: S) h = nl l1 (rn 167 2 [l0, l1, .long x, .float 0, l4] S h)) ∧
  (∀ (l0 l1 l2 l3 l4 : Value) (S : List Value) (h : zH), rn 167 2 [l0, l1, l2, l3, l4] S h = rn 167 3 [l0, l1, l2, l3, l4] (.int (nI 0) :: S) h) ∧
  (∀ (l0 l1 l2 l3 l4 : Value) (x : Int32) (S : List Value) (h : zH), rn 167 3 [l0, l1, l2, l3, l4] (.int x :: S) h = nl l3 (rn 167 5 [l0, l1, l2, l3, .int x] S h)) ∧
  (∀ (l1 l2 l3 l4 : Value) (x : Nat) (S : List Value) (h : zH), rn 167 7 [.ref x, l1, l2, l3, l4] S h = rn 167 8 [.ref x, l1, l2, l3, l4] (.ref x :: S) h) ∧
  (∀ (l0 l1 l2 l3 l4 : Value) (a : Nat) (S : List Value) (h : zH), rn 167 8 [l0, l1, l2, l3, l4] (.ref a :: S) h = zgf h a 7 2 fun v => rn 167 11 [l0, l1, l2, l3, l4] (v :: S) h) ∧
  (∀ (l0 l1 l2 l3 l4 : Value) (x : Int32) (y : Int32) (S : List Value) (h : zH), rn 167 11 [l0, l1, l2, l3, l4] (.int y :: .int x :: S) h = if y ≤ x then rn 167 48 [l0, l1, l2, l3, l4] S h else rn 167 14 [l0, l1, l2, l3, l4] S h) ∧
  (∀ (l0 l1 l2 l3 : Value) (x : Int32) (S : List Value) (h : zH), rn 167 14 [l0, l1, l2, l3, .int x] S h = rn 167 16 [l0, l1, l2, l3, .int x] (.int x :: S) h) ∧
  (∀ (l0 l1 l2 l3 l4 : Value) (S : List Value) (h : zH), rn 167 16 [l0, l1, l2, l3, l4] S h = rn 167 18 [l0, l1, l2, l3, l4] (.int (nI 54) :: S) h) ∧
  (∀ (l0 l1 l2 l3 l4 : Value) (x : Int32) (y : Int32) (S : List Value) (h : zH), rn 167 18 [l0, l1, l2, l3, l4] (.int y :: .int x :: S) h = if y ≤ x then rn 167 48 [l0, l1, l2, l3, l4] S h else rn 167 21 [l0, l1, l2, l3, l4] S h) ∧
  (∀ (l1 l2 l3 l4 : Value) (x : Nat) (S : List Value) (h : zH), rn 167 21 [.ref x, l1, l2, l3, l4] S h = rn 167 22 [.ref x, l1, l2, l3, l4] (.ref x :: S) h) ∧
  (∀ (l0 l1 l2 l3 l4 : Value) (a : Nat) (S : List Value) (h : zH), rn 167 22 [l0, l1, l2, l3, l4] (.ref a :: S) h = zgf h a 7 0 fun v => rn 167 25 [l0, l1, l2, l3, l4] (v :: S) h) ∧
  (∀ (l0 l1 l2 l3 : Value) (x : Int32) (S : List Value) (h : zH), rn 167 25 [l0, l1, l2, l3, .int x] S h = rn 167 27 [l0, l1, l2, l3, .int x] (.int x :: S) h) ∧
  (∀ (l0 l1 l2 l3 l4 : Value) (a : Nat) (j : Int32) (S : List Value) (h : zH), rn 167 27 [l0, l1, l2, l3, l4] (.int j :: .ref a :: S) h = zli h a 0 j fun x => rn 167 28 [l0, l1, l2, l3, l4] (.int x :: S) h) ∧
  (∀ (l0 l2 l3 l4 : Value) (x : Int32) (S : List Value) (h : zH), rn 167 28 [l0, .int x, l2, l3, l4] S h = rn 167 29 [l0, .int x, l2, l3, l4] (.int x :: S) h) ∧
  (∀ (l0 l1 l2 l3 l4 : Value) (x : Int32) (y : Int32) (S : List Value) (h : zH), rn 167 29 [l0, l1, l2, l3, l4] (.int y :: .int x :: S) h = if x = y then rn 167 32 [l0, l1, l2, l3, l4] S h else rn 167 42 [l0, l1, l2, l3, l4] S h) ∧
  (∀ (l0 l1 l3 l4 : Value) (x : Int64) (S : List Value) (h : zH), rn 167 32 [l0, l1, .long x, l3, l4] S h = rn 167 33 [l0, l1, .long x, l3, l4] (.long x :: S) h) ∧
  (∀ (l1 l2 l3 l4 : Value) (x : Nat) (S : List Value) (h : zH), rn 167 33 [.ref x, l1, l2, l3, l4] S h = rn 167 34 [.ref x, l1, l2, l3, l4] (.ref x :: S) h) ∧
  (∀ (l0 l1 l2 l3 l4 : Value) (a : Nat) (S : List Value) (h : zH), rn 167 34 [l0, l1, l2, l3, l4] (.ref a :: S) h = zgf h a 7 1 fun v => rn 167 37 [l0, l1, l2, l3, l4] (v :: S) h) ∧
  (∀ (l0 l1 l2 l3 : Value) (x : Int32) (S : List Value) (h : zH), rn 167 37 [l0, l1, l2, l3, .int x] S h = rn 167 39 [l0, l1, l2, l3, .int x] (.int x :: S) h) ∧
  (∀ (l0 l1 l2 l3 l4 : Value) (a : Nat) (j : Int32) (S : List Value) (h : zH), rn 167 39 [l0, l1, l2, l3, l4] (.int j :: .ref a :: S) h = zlj h a j fun x => rn 167 40 [l0, l1, l2, l3, l4] (.long x :: S) h) ∧
  (∀ (l0 l1 l2 l3 l4 : Value) (x : Int64) (y : Int64) (S : List Value) (h : zH), rn 167 40 [l0, l1, l2, l3, l4] (.long y :: .long x :: S) h = rn 167 41 [l0, l1, l2, l3, l4] (.long (x + y) :: S) h) ∧
  (∀ (l0 l1 l2 l3 l4 : Value) (x : Int64) (S : List Value) (h : zH), rn 167 41 [l0, l1, l2, l3, l4] (.long x :: S) h = nl l1 (rn 167 42 [l0, l1, .long x, .float 0, l4] S h)) ∧
  (∀ (l0 l1 l2 l3 : Value) (x : Int32) (S : List Value) (h : zH), rn 167 42 [l0, l1, l2, l3, .int x] S h = nl l3 (rn 167 45 [l0, l1, l2, l3, .int (x + (nI 1))] S h)) ∧
  (∀ (l0 l1 l2 l3 l4 : Value) (S : List Value) (h : zH), rn 167 45 [l0, l1, l2, l3, l4] S h = rn 167 5 [l0, l1, l2, l3, l4] S h) ∧
  (∀ (l0 l1 l3 l4 : Value) (x : Int64) (S : List Value) (h : zH), rn 167 48 [l0, l1, .long x, l3, l4] S h = rn 167 49 [l0, l1, .long x, l3, l4] (.long x :: S) h) ∧
  (∀ (l0 l1 l2 l3 l4 : Value) (x : Int64) (h : zH), rn 167 49 [l0, l1, l2, l3, l4] [.long x] h = some (some (.long x), h)) := ⟨fun _ _ _ _ _ _ _ => r_lconst (show zdec 167 0 = some (.lconst 0, 1) by decide +kernel) rfl rfl,
  fun _ _ _ _ _ _ _ _ => r_lstore_n (show zdec 167 1 = some (.lstore_n 2, 1) by decide +kernel) rfl rfl (Nat.le_of_ble_eq_true rfl) rfl rfl,
  fun _ _ _ _ _ _ _ => r_iconst (show zdec 167 2 = some (.iconst 0, 1) by decide +kernel) rfl rfl,
  fun _ _ _ _ _ _ _ _ => r_istore (show zdec 167 3 = some (.istore 4, 2) by decide +kernel) rfl (Nat.le_of_ble_eq_true rfl) rfl rfl,
  fun _ _ _ _ _ _ _ => r_aload_nr (show zdec 167 7 = some (.aload_n 0, 1) by decide +kernel) rfl rfl,
  fun _ _ _ _ _ _ _ _ => r_getfield (show zdec 167 8 = some (.getfield 19, 3) by decide +kernel) (show zft.lookup (167 * zKEY + 19) = some (7, 2) by decide +kernel) rfl,
  fun _ _ _ _ _ _ _ _ _ => r_icmpge (show zdec 167 11 = some (.if_icmp .ge 37, 3) by decide +kernel) rfl rfl,
  fun _ _ _ _ _ _ _ => r_iload (show zdec 167 14 = some (.iload 4, 2) by decide +kernel) rfl rfl,
  fun _ _ _ _ _ _ _ => r_bipush (show zdec 167 16 = some (.bipush 54, 2) by decide +kernel) rfl rfl,
  fun _ _ _ _ _ _ _ _ _ => r_icmpge (show zdec 167 18 = some (.if_icmp .ge 30, 3) by decide +kernel) rfl rfl,
  fun _ _ _ _ _ _ _ => r_aload_nr (show zdec 167 21 = some (.aload_n 0, 1) by decide +kernel) rfl rfl,
  fun _ _ _ _ _ _ _ _ => r_getfield (show zdec 167 22 = some (.getfield 11, 3) by decide +kernel) (show zft.lookup (167 * zKEY + 11) = some (7, 0) by decide +kernel) rfl,
  fun _ _ _ _ _ _ _ => r_iload (show zdec 167 25 = some (.iload 4, 2) by decide +kernel) rfl rfl,
  fun _ _ _ _ _ _ _ _ _ => r_iald (show zdec 167 27 = some (.iaload, 1) by decide +kernel) rfl,
  fun _ _ _ _ _ _ _ => r_iload_n (show zdec 167 28 = some (.iload_n 1, 1) by decide +kernel) rfl rfl,
  fun _ _ _ _ _ _ _ _ _ => r_icmpne (show zdec 167 29 = some (.if_icmp .ne 13, 3) by decide +kernel) rfl rfl,
  fun _ _ _ _ _ _ _ => r_lload_n (show zdec 167 32 = some (.lload_n 2, 1) by decide +kernel) rfl rfl,
  fun _ _ _ _ _ _ _ => r_aload_nr (show zdec 167 33 = some (.aload_n 0, 1) by decide +kernel) rfl rfl,
  fun _ _ _ _ _ _ _ _ => r_getfield (show zdec 167 34 = some (.getfield 15, 3) by decide +kernel) (show zft.lookup (167 * zKEY + 15) = some (7, 1) by decide +kernel) rfl,
  fun _ _ _ _ _ _ _ => r_iload (show zdec 167 37 = some (.iload 4, 2) by decide +kernel) rfl rfl,
  fun _ _ _ _ _ _ _ _ _ => r_lald (show zdec 167 39 = some (.laload, 1) by decide +kernel) rfl,
  fun _ _ _ _ _ _ _ _ _ => r_ladd (show zdec 167 40 = some (.ladd, 1) by decide +kernel) rfl,
  fun _ _ _ _ _ _ _ _ => r_lstore_n (show zdec 167 41 = some (.lstore_n 2, 1) by decide +kernel) rfl rfl (Nat.le_of_ble_eq_true rfl) rfl rfl,
  fun _ _ _ _ _ _ _ => r_iinc (show zdec 167 42 = some (.iinc 4 1, 3) by decide +kernel) rfl rfl rfl (Nat.le_of_ble_eq_true rfl) rfl rfl,
  fun _ _ _ _ _ _ _ => r_goto (show zdec 167 45 = some (.goto (-40), 3) by decide +kernel) rfl,
  fun _ _ _ _ _ _ _ => r_lload_n (show zdec 167 48 = some (.lload_n 2, 1) by decide +kernel) rfl rfl,
  fun _ _ _ _ _ _ _ => r_lret (show zdec 167 49 = some (.lreturn, 1) by decide +kernel) (by decide +kernel)⟩
theorem zl_167_5 : ∀ (l0 l1 l2 l3 : Value) (x : Int32) (S : List Value) (h : zH), rn 167 5 [l0, l1, l2, l3, .int x] S h = rn 167 7 [l0, l1, l2, l3, .int x] (.int x :: S) h := fun _ _ _ _ _ _ _ => r_iload (show zdec 167 5 = some (.iload 4, 2) by decide +kernel) rfl rfl
theorem ze_167 : ∀ (a0 : Nat) (a1 : Int32) (h : zH), ev 167 [.ref a0, .int a1] h = rn 167 0 [.ref a0, .int a1, .float 0, .float 0, .float 0] [] h := fun _ _ _ => if_pos (Nat.le_of_ble_eq_true rfl)
-- PayrollRun/Trial.payoutsToCome(LPayrollRun/Books;I)J
theorem zr_168 : (∀ (l1 l2 l3 l4 l5 : Value) (x : Nat) (S : List Value) (h : zH), rn 168 0 [.ref x, l1, l2, l3, l4, l5] S h = rn 168 1 [.ref x, l1, l2, l3, l4, l5] (.ref x :: S) h) ∧
  (∀ (l0 l1 l2 l3 l4 l5 : Value) (a : Nat) (S : List Value) (h : zH), rn 168 1 [l0, l1, l2, l3, l4, l5] (.ref a :: S) h = zgf h a 9 1 fun v => rn 168 4 [l0, l1, l2, l3, l4, l5] (v :: S) h) ∧
  (∀ (l0 l1 l2 l3 l4 l5 : Value) (S : List Value) (h : zH), rn 168 4 [l0, l1, l2, l3, l4, l5] S h = ldA l1 (rn 168 5 [l0, l1, l2, l3, l4, l5] (l1 :: S) h)) ∧
  (∀ (l0 l1 l2 l3 l4 l5 : Value) (a : Nat) (S : List Value) (h : zH), rn 168 5 [l0, l1, l2, l3, l4, l5] (.ref a :: S) h = zgf h a 1 0 fun v => rn 168 8 [l0, l1, l2, l3, l4, l5] (v :: S) h) ∧
  (∀ (l0 l1 l3 l4 l5 : Value) (x : Int32) (S : List Value) (h : zH), rn 168 8 [l0, l1, .int x, l3, l4, l5] S h = rn 168 9 [l0, l1, .int x, l3, l4, l5] (.int x :: S) h) ∧
  (∀ (l0 l1 l2 l3 l4 l5 : Value) (a : Nat) (j : Int32) (S : List Value) (h : zH), rn 168 9 [l0, l1, l2, l3, l4, l5] (.int j :: .ref a :: S) h = zlq h a j fun x => rn 168 10 [l0, l1, l2, l3, l4, l5] (va_rf x :: S) h) ∧
  (∀ (l0 l1 l2 l3 l4 l5 : Value) (o : Nat) (v0 : Value) (S : List Value) (h : zH), rn 168 10 [l0, l1, l2, l3, l4, l5] (v0 :: .ref o :: S) h = if zkd h o = 10 ∧ zsum S ≤ 8 then zcall (ev 19 [.ref o, v0] h) (fun v h => rn 168 13 [l0, l1, l2, l3, l4, l5] (zpush v S) h) else none) ∧
  (∀ (l0 l1 l2 l3 l4 l5 : Value) (S : List Value) (h : zH), rn 168 13 [l0, l1, l2, l3, l4, l5] S h = rn 168 14 [l0, l1, l2, l3, l4, l5] (.long 0 :: S) h) ∧
  (∀ (l0 l1 l2 l3 l4 l5 : Value) (x : Int64) (S : List Value) (h : zH), rn 168 14 [l0, l1, l2, l3, l4, l5] (.long x :: S) h = nl l2 (rn 168 15 [l0, l1, l2, .long x, .float 0, l5] S h)) ∧
  (∀ (l0 l1 l2 l3 l4 l5 : Value) (S : List Value) (h : zH), rn 168 15 [l0, l1, l2, l3, l4, l5] S h = ldA l1 (rn 168 16 [l0, l1, l2, l3, l4, l5] (l1 :: S) h)) ∧
  (∀ (l0 l1 l2 l3 l4 l5 : Value) (a : Nat) (S : List Value) (h : zH), rn 168 16 [l0, l1, l2, l3, l4, l5] (.ref a :: S) h = zgf h a 1 2 fun v => rn 168 19 [l0, l1, l2, l3, l4, l5] (v :: S) h) ∧
  (∀ (l0 l1 l2 l3 l4 l5 : Value) (x : Int32) (S : List Value) (h : zH), rn 168 19 [l0, l1, l2, l3, l4, l5] (.int x :: S) h = nl l4 (rn 168 21 [l0, l1, l2, l3, l4, .int x] S h)) ∧
  (∀ (l0 l1 l2 l3 l4 l5 : Value) (S : List Value) (h : zH), rn 168 23 [l0, l1, l2, l3, l4, l5] S h = rn 168 25 [l0, l1, l2, l3, l4, l5] (.int (nI 12) :: S) h) ∧
  (∀ (l0 l1 l2 l3 l4 l5 : Value) (x : Int32) (y : Int32) (S : List Value) (h : zH), rn 168 25 [l0, l1, l2, l3, l4, l5] (.int y :: .int x :: S) h = if y ≤ x then rn 168 44 [l0, l1, l2, l3, l4, l5] S h else rn 168 28 [l0, l1, l2, l3, l4, l5] S h) ∧
  (∀ (l0 l1 l2 l4 l5 : Value) (x : Int64) (S : List Value) (h : zH), rn 168 28 [l0, l1, l2, .long x, l4, l5] S h = rn 168 29 [l0, l1, l2, .long x, l4, l5] (.long x :: S) h) ∧
  (∀ (l1 l2 l3 l4 l5 : Value) (x : Nat) (S : List Value) (h : zH), rn 168 29 [.ref x, l1, l2, l3, l4, l5] S h = rn 168 30 [.ref x, l1, l2, l3, l4, l5] (.ref x :: S) h) ∧
  (∀ (l0 l1 l2 l3 l4 : Value) (x : Int32) (S : List Value) (h : zH), rn 168 30 [l0, l1, l2, l3, l4, .int x] S h = rn 168 32 [l0, l1, l2, l3, l4, .int x] (.int x :: S) h) ∧
  (∀ (l0 l1 l2 l3 l4 l5 : Value) (S : List Value) (h : zH), rn 168 32 [l0, l1, l2, l3, l4, l5] S h = ldA l1 (rn 168 33 [l0, l1, l2, l3, l4, l5] (l1 :: S) h)) ∧
  (∀ (l0 l1 l2 l3 l4 l5 : Value) (o : Nat) (v0 : Value) (v1 : Value) (S : List Value) (h : zH), rn 168 33 [l0, l1, l2, l3, l4, l5] (v1 :: v0 :: .ref o :: S) h = if zkd h o = 9 ∧ zsum S ≤ 8 then zcall (ev 158 [.ref o, v0, v1] h) (fun v h => rn 168 36 [l0, l1, l2, l3, l4, l5] (zpush v S) h) else none) ∧
  (∀ (l0 l1 l2 l3 l4 l5 : Value) (x : Int64) (y : Int64) (S : List Value) (h : zH), rn 168 36 [l0, l1, l2, l3, l4, l5] (.long y :: .long x :: S) h = rn 168 37 [l0, l1, l2, l3, l4, l5] (.long (x + y) :: S) h) ∧
  (∀ (l0 l1 l2 l3 l4 l5 : Value) (x : Int64) (S : List Value) (h : zH), rn 168 37 [l0, l1, l2, l3, l4, l5] (.long x :: S) h = nl l2 (rn 168 38 [l0, l1, l2, .long x, .float 0, l5] S h)) ∧
  (∀ (l0 l1 l2 l3 l4 : Value) (x : Int32) (S : List Value) (h : zH), rn 168 38 [l0, l1, l2, l3, l4, .int x] S h = nl l4 (rn 168 41 [l0, l1, l2, l3, l4, .int (x + (nI 1))] S h)) ∧
  (∀ (l0 l1 l2 l3 l4 l5 : Value) (S : List Value) (h : zH), rn 168 41 [l0, l1, l2, l3, l4, l5] S h = rn 168 21 [l0, l1, l2, l3, l4, l5] S h) ∧
  (∀ (l0 l1 l2 l4 l5 : Value) (x : Int64) (S : List Value) (h : zH), rn 168 44 [l0, l1, l2, .long x, l4, l5] S h = rn 168 45 [l0, l1, l2, .long x, l4, l5] (.long x :: S) h) ∧
  (∀ (l0 l1 l2 l3 l4 l5 : Value) (x : Int64) (h : zH), rn 168 45 [l0, l1, l2, l3, l4, l5] [.long x] h = some (some (.long x), h)) := ⟨fun _ _ _ _ _ _ _ _ => r_aload_nr (show zdec 168 0 = some (.aload_n 0, 1) by decide +kernel) rfl rfl,
  fun _ _ _ _ _ _ _ _ _ => r_getfield (show zdec 168 1 = some (.getfield 21, 3) by decide +kernel) (show zft.lookup (168 * zKEY + 21) = some (9, 1) by decide +kernel) rfl,
  fun _ _ _ _ _ _ _ _ => r_aload_n (show zdec 168 4 = some (.aload_n 1, 1) by decide +kernel) rfl rfl,
  fun _ _ _ _ _ _ _ _ _ => r_getfield (show zdec 168 5 = some (.getfield 44, 3) by decide +kernel) (show zft.lookup (168 * zKEY + 44) = some (1, 0) by decide +kernel) rfl,
  fun _ _ _ _ _ _ _ _ => r_iload_n (show zdec 168 8 = some (.iload_n 2, 1) by decide +kernel) rfl rfl,
  fun _ _ _ _ _ _ _ _ _ _ => r_aald (show zdec 168 9 = some (.aaload, 1) by decide +kernel) rfl,
  fun _ _ _ _ _ _ _ _ _ _ => r_cV [_] rfl (show zdec 168 10 = some (.invokevirtual 48, 3) by decide +kernel) (show zst.lookup (168 * zKEY + 48) = some (1, 19, 1, 10) by decide +kernel) (by decide) rfl,
  fun _ _ _ _ _ _ _ _ => r_lconst (show zdec 168 13 = some (.lconst 0, 1) by decide +kernel) rfl rfl,
  fun _ _ _ _ _ _ _ _ _ => r_lstore_n (show zdec 168 14 = some (.lstore_n 3, 1) by decide +kernel) rfl rfl (Nat.le_of_ble_eq_true rfl) rfl rfl,
  fun _ _ _ _ _ _ _ _ => r_aload_n (show zdec 168 15 = some (.aload_n 1, 1) by decide +kernel) rfl rfl,
  fun _ _ _ _ _ _ _ _ _ => r_getfield (show zdec 168 16 = some (.getfield 32, 3) by decide +kernel) (show zft.lookup (168 * zKEY + 32) = some (1, 2) by decide +kernel) rfl,
  fun _ _ _ _ _ _ _ _ _ => r_istore (show zdec 168 19 = some (.istore 5, 2) by decide +kernel) rfl (Nat.le_of_ble_eq_true rfl) rfl rfl,
  fun _ _ _ _ _ _ _ _ => r_bipush (show zdec 168 23 = some (.bipush 12, 2) by decide +kernel) rfl rfl,
  fun _ _ _ _ _ _ _ _ _ _ => r_icmpge (show zdec 168 25 = some (.if_icmp .ge 19, 3) by decide +kernel) rfl rfl,
  fun _ _ _ _ _ _ _ _ => r_lload_n (show zdec 168 28 = some (.lload_n 3, 1) by decide +kernel) rfl rfl,
  fun _ _ _ _ _ _ _ _ => r_aload_nr (show zdec 168 29 = some (.aload_n 0, 1) by decide +kernel) rfl rfl,
  fun _ _ _ _ _ _ _ _ => r_iload (show zdec 168 30 = some (.iload 5, 2) by decide +kernel) rfl rfl,
  fun _ _ _ _ _ _ _ _ => r_aload_n (show zdec 168 32 = some (.aload_n 1, 1) by decide +kernel) rfl rfl,
  fun _ _ _ _ _ _ _ _ _ _ _ => r_cV [_, _] rfl (show zdec 168 33 = some (.invokevirtual 56, 3) by decide +kernel) (show zst.lookup (168 * zKEY + 56) = some (1, 158, 2, 9) by decide +kernel) (by decide) rfl,
  fun _ _ _ _ _ _ _ _ _ _ => r_ladd (show zdec 168 36 = some (.ladd, 1) by decide +kernel) rfl,
  fun _ _ _ _ _ _ _ _ _ => r_lstore_n (show zdec 168 37 = some (.lstore_n 3, 1) by decide +kernel) rfl rfl (Nat.le_of_ble_eq_true rfl) rfl rfl,
  fun _ _ _ _ _ _ _ _ => r_iinc (show zdec 168 38 = some (.iinc 5 1, 3) by decide +kernel) rfl rfl rfl (Nat.le_of_ble_eq_true rfl) rfl rfl,
  fun _ _ _ _ _ _ _ _ => r_goto (show zdec 168 41 = some (.goto (-20), 3) by decide +kernel) rfl,
  fun _ _ _ _ _ _ _ _ => r_lload_n (show zdec 168 44 = some (.lload_n 3, 1) by decide +kernel) rfl rfl,
  fun _ _ _ _ _ _ _ _ => r_lret (show zdec 168 45 = some (.lreturn, 1) by decide +kernel) (by decide +kernel)⟩
theorem zl_168_21 : ∀ (l0 l1 l2 l3 l4 : Value) (x : Int32) (S : List Value) (h : zH), rn 168 21 [l0, l1, l2, l3, l4, .int x] S h = rn 168 23 [l0, l1, l2, l3, l4, .int x] (.int x :: S) h := fun _ _ _ _ _ _ _ _ => r_iload (show zdec 168 21 = some (.iload 5, 2) by decide +kernel) rfl rfl
theorem ze_168 : ∀ (a0 : Nat) (a1 : Nat) (a2 : Int32) (h : zH), ev 168 [.ref a0, .ref a1, .int a2] h = rn 168 0 [.ref a0, .ref a1, .int a2, .float 0, .float 0, .float 0] [] h := fun _ _ _ _ => if_pos (Nat.le_of_ble_eq_true rfl)
-- PayrollRun/Worker.lowestPaid()I
theorem zr_176 : (∀ (l0 l1 l2 l3 l4 : Value) (S : List Value) (h : zH), rn 176 0 [l0, l1, l2, l3, l4] S h = rn 176 2 [l0, l1, l2, l3, l4] (.int (-2) :: S) h) ∧
  (∀ (l0 l1 l2 l3 l4 : Value) (x : Int32) (S : List Value) (h : zH), rn 176 2 [l0, l1, l2, l3, l4] (.int x :: S) h = nl l0 (rn 176 3 [l0, .int x, l2, l3, l4] S h)) ∧
  (∀ (l0 l1 l2 l3 l4 : Value) (S : List Value) (h : zH), rn 176 3 [l0, l1, l2, l3, l4] S h = rn 176 4 [l0, l1, l2, l3, l4] (.long 0 :: S) h) ∧
  (∀ (l0 l1 l2 l3 l4 : Value) (x : Int64) (S : List Value) (h : zH), rn 176 4 [l0, l1, l2, l3, l4] (.long x :: S) h = nl l1 (rn 176 5 [l0, l1, .long x, .float 0, l4] S h)) ∧
  (∀ (l0 l1 l2 l3 l4 : Value) (S : List Value) (h : zH), rn 176 5 [l0, l1, l2, l3, l4] S h = rn 176 6 [l0, l1, l2, l3, l4] (.int (nI 0) :: S) h) ∧
  (∀ (l0 l1 l2 l3 l4 : Value) (x : Int32) (S : List Value) (h : zH), rn 176 6 [l0, l1, l2, l3, l4] (.int x :: S) h = nl l3 (rn 176 8 [l0, l1, l2, l3, .int x] S h)) ∧
  (∀ (l0 l1 l2 l3 l4 : Value) (S : List Value) (h : zH), rn 176 10 [l0, l1, l2, l3, l4] S h = rn 176 12 [l0, l1, l2, l3, l4] (.int (nI 12) :: S) h) ∧
  (∀ (l0 l1 l2 l3 l4 : Value) (x : Int32) (y : Int32) (S : List Value) (h : zH), rn 176 12 [l0, l1, l2, l3, l4] (.int y :: .int x :: S) h = if y ≤ x then rn 176 66 [l0, l1, l2, l3, l4] S h else rn 176 15 [l0, l1, l2, l3, l4] S h) ∧
  (∀ (l1 l2 l3 l4 : Value) (x : Nat) (S : List Value) (h : zH), rn 176 15 [.ref x, l1, l2, l3, l4] S h = rn 176 16 [.ref x, l1, l2, l3, l4] (.ref x :: S) h) ∧
  (∀ (l0 l1 l2 l3 l4 : Value) (a : Nat) (S : List Value) (h : zH), rn 176 16 [l0, l1, l2, l3, l4] (.ref a :: S) h = zgf h a 10 3 fun v => rn 176 19 [l0, l1, l2, l3, l4] (v :: S) h) ∧
  (∀ (l0 l1 l2 l3 : Value) (x : Int32) (S : List Value) (h : zH), rn 176 19 [l0, l1, l2, l3, .int x] S h = rn 176 21 [l0, l1, l2, l3, .int x] (.int x :: S) h) ∧
  (∀ (l0 l1 l2 l3 l4 : Value) (a : Nat) (j : Int32) (S : List Value) (h : zH), rn 176 21 [l0, l1, l2, l3, l4] (.int j :: .ref a :: S) h = zlq h a j fun x => rn 176 22 [l0, l1, l2, l3, l4] (va_rf x :: S) h) ∧
  (∀ (l0 l1 l2 l3 l4 : Value) (v : Value) (S : List Value) (h : zH), rn 176 22 [l0, l1, l2, l3, l4] (v :: S) h = ifN v (rn 176 60 [l0, l1, l2, l3, l4] S h) (rn 176 25 [l0, l1, l2, l3, l4] S h)) ∧
  (∀ (l0 l2 l3 l4 : Value) (x : Int32) (S : List Value) (h : zH), rn 176 25 [l0, .int x, l2, l3, l4] S h = rn 176 26 [l0, .int x, l2, l3, l4] (.int x :: S) h) ∧
  (∀ (l0 l1 l2 l3 l4 : Value) (S : List Value) (h : zH), rn 176 26 [l0, l1, l2, l3, l4] S h = rn 176 28 [l0, l1, l2, l3, l4] (.int (-2) :: S) h) ∧
  (∀ (l0 l1 l2 l3 l4 : Value) (x : Int32) (y : Int32) (S : List Value) (h : zH), rn 176 28 [l0, l1, l2, l3, l4] (.int y :: .int x :: S) h = if x = y then rn 176 46 [l0, l1, l2, l3, l4] S h else rn 176 31 [l0, l1, l2, l3, l4] S h) ∧
  (∀ (l1 l2 l3 l4 : Value) (x : Nat) (S : List Value) (h : zH), rn 176 31 [.ref x, l1, l2, l3, l4] S h = rn 176 32 [.ref x, l1, l2, l3, l4] (.ref x :: S) h) ∧
  (∀ (l0 l1 l2 l3 l4 : Value) (a : Nat) (S : List Value) (h : zH), rn 176 32 [l0, l1, l2, l3, l4] (.ref a :: S) h = zgf h a 10 3 fun v => rn 176 35 [l0, l1, l2, l3, l4] (v :: S) h) ∧
  (∀ (l0 l1 l2 l3 : Value) (x : Int32) (S : List Value) (h : zH), rn 176 35 [l0, l1, l2, l3, .int x] S h = rn 176 37 [l0, l1, l2, l3, .int x] (.int x :: S) h) ∧
  (∀ (l0 l1 l2 l3 l4 : Value) (a : Nat) (j : Int32) (S : List Value) (h : zH), rn 176 37 [l0, l1, l2, l3, l4] (.int j :: .ref a :: S) h = zlq h a j fun x => rn 176 38 [l0, l1, l2, l3, l4] (va_rf x :: S) h) ∧
  (∀ (l0 l1 l2 l3 l4 : Value) (o : Nat) (S : List Value) (h : zH), rn 176 38 [l0, l1, l2, l3, l4] (.ref o :: S) h = if zkd h o = 7 ∧ zsum S ≤ 8 then zcall (ev 155 [.ref o] h) (fun v h => rn 176 41 [l0, l1, l2, l3, l4] (zpush v S) h) else none) ∧
  (∀ (l0 l1 l3 l4 : Value) (x : Int64) (S : List Value) (h : zH), rn 176 41 [l0, l1, .long x, l3, l4] S h = rn 176 42 [l0, l1, .long x, l3, l4] (.long x :: S) h) ∧
  (∀ (l0 l1 l2 l3 l4 : Value) (x : Int64) (y : Int64) (S : List Value) (h : zH), rn 176 42 [l0, l1, l2, l3, l4] (.long y :: .long x :: S) h = rn 176 43 [l0, l1, l2, l3, l4] (.int (lg_cmp x y) :: S) h) ∧
  (∀ (l0 l1 l2 l3 l4 : Value) (x : Int32) (S : List Value) (h : zH), rn 176 43 [l0, l1, l2, l3, l4] (.int x :: S) h = if nI 0 ≤ x then rn 176 60 [l0, l1, l2, l3, l4] S h else rn 176 46 [l0, l1, l2, l3, l4] S h) ∧
  (∀ (l0 l1 l2 l3 : Value) (x : Int32) (S : List Value) (h : zH), rn 176 46 [l0, l1, l2, l3, .int x] S h = rn 176 48 [l0, l1, l2, l3, .int x] (.int x :: S) h) ∧
  (∀ (l0 l1 l2 l3 l4 : Value) (x : Int32) (S : List Value) (h : zH), rn 176 48 [l0, l1, l2, l3, l4] (.int x :: S) h = nl l0 (rn 176 49 [l0, .int x, l2, l3, l4] S h)) ∧
  (∀ (l1 l2 l3 l4 : Value) (x : Nat) (S : List Value) (h : zH), rn 176 49 [.ref x, l1, l2, l3, l4] S h = rn 176 50 [.ref x, l1, l2, l3, l4] (.ref x :: S) h) ∧
  (∀ (l0 l1 l2 l3 l4 : Value) (a : Nat) (S : List Value) (h : zH), rn 176 50 [l0, l1, l2, l3, l4] (.ref a :: S) h = zgf h a 10 3 fun v => rn 176 53 [l0, l1, l2, l3, l4] (v :: S) h) ∧
  (∀ (l0 l1 l2 l3 : Value) (x : Int32) (S : List Value) (h : zH), rn 176 53 [l0, l1, l2, l3, .int x] S h = rn 176 55 [l0, l1, l2, l3, .int x] (.int x :: S) h) ∧
  (∀ (l0 l1 l2 l3 l4 : Value) (a : Nat) (j : Int32) (S : List Value) (h : zH), rn 176 55 [l0, l1, l2, l3, l4] (.int j :: .ref a :: S) h = zlq h a j fun x => rn 176 56 [l0, l1, l2, l3, l4] (va_rf x :: S) h) ∧
  (∀ (l0 l1 l2 l3 l4 : Value) (o : Nat) (S : List Value) (h : zH), rn 176 56 [l0, l1, l2, l3, l4] (.ref o :: S) h = if zkd h o = 7 ∧ zsum S ≤ 8 then zcall (ev 155 [.ref o] h) (fun v h => rn 176 59 [l0, l1, l2, l3, l4] (zpush v S) h) else none) ∧
  (∀ (l0 l1 l2 l3 l4 : Value) (x : Int64) (S : List Value) (h : zH), rn 176 59 [l0, l1, l2, l3, l4] (.long x :: S) h = nl l1 (rn 176 60 [l0, l1, .long x, .float 0, l4] S h)) ∧
  (∀ (l0 l1 l2 l3 : Value) (x : Int32) (S : List Value) (h : zH), rn 176 60 [l0, l1, l2, l3, .int x] S h = nl l3 (rn 176 63 [l0, l1, l2, l3, .int (x + (nI 1))] S h)) ∧
  (∀ (l0 l1 l2 l3 l4 : Value) (S : List Value) (h : zH), rn 176 63 [l0, l1, l2, l3, l4] S h = rn 176 8 [l0, l1, l2, l3, l4] S h) ∧
  (∀ (l0 l2 l3 l4 : Value) (x : Int32) (S : List Value) (h : zH), rn 176 66 [l0, .int x, l2, l3, l4] S h = rn 176 67 [l0, .int x, l2, l3, l4] (.int x :: S) h) ∧
  (∀ (l0 l1 l2 l3 l4 : Value) (x : Int32) (h : zH), rn 176 67 [l0, l1, l2, l3, l4] [.int x] h = some (some (.int x), h)) := ⟨fun _ _ _ _ _ _ _ => r_bipush (show zdec 176 0 = some (.bipush (-2), 2) by decide +kernel) rfl rfl,
  fun _ _ _ _ _ _ _ _ => r_istore_n (show zdec 176 2 = some (.istore_n 1, 1) by decide +kernel) rfl rfl (Nat.le_of_ble_eq_true rfl) rfl rfl,
  fun _ _ _ _ _ _ _ => r_lconst (show zdec 176 3 = some (.lconst 0, 1) by decide +kernel) rfl rfl,
  fun _ _ _ _ _ _ _ _ => r_lstore_n (show zdec 176 4 = some (.lstore_n 2, 1) by decide +kernel) rfl rfl (Nat.le_of_ble_eq_true rfl) rfl rfl,
  fun _ _ _ _ _ _ _ => r_iconst (show zdec 176 5 = some (.iconst 0, 1) by decide +kernel) rfl rfl,
  fun _ _ _ _ _ _ _ _ => r_istore (show zdec 176 6 = some (.istore 4, 2) by decide +kernel) rfl (Nat.le_of_ble_eq_true rfl) rfl rfl,
  fun _ _ _ _ _ _ _ => r_bipush (show zdec 176 10 = some (.bipush 12, 2) by decide +kernel) rfl rfl,
  fun _ _ _ _ _ _ _ _ _ => r_icmpge (show zdec 176 12 = some (.if_icmp .ge 54, 3) by decide +kernel) rfl rfl,
  fun _ _ _ _ _ _ _ => r_aload_nr (show zdec 176 15 = some (.aload_n 0, 1) by decide +kernel) rfl rfl,
  fun _ _ _ _ _ _ _ _ => r_getfield (show zdec 176 16 = some (.getfield 24, 3) by decide +kernel) (show zft.lookup (176 * zKEY + 24) = some (10, 3) by decide +kernel) rfl,
  fun _ _ _ _ _ _ _ => r_iload (show zdec 176 19 = some (.iload 4, 2) by decide +kernel) rfl rfl,
  fun _ _ _ _ _ _ _ _ _ => r_aald (show zdec 176 21 = some (.aaload, 1) by decide +kernel) rfl,
  fun _ _ _ _ _ _ _ _ => r_ifnull (show zdec 176 22 = some (.ifnull 38, 3) by decide +kernel) rfl rfl,
  fun _ _ _ _ _ _ _ => r_iload_n (show zdec 176 25 = some (.iload_n 1, 1) by decide +kernel) rfl rfl,
  fun _ _ _ _ _ _ _ => r_bipush (show zdec 176 26 = some (.bipush (-2), 2) by decide +kernel) rfl rfl,
  fun _ _ _ _ _ _ _ _ _ => r_icmpeq (show zdec 176 28 = some (.if_icmp .eq 18, 3) by decide +kernel) rfl rfl,
  fun _ _ _ _ _ _ _ => r_aload_nr (show zdec 176 31 = some (.aload_n 0, 1) by decide +kernel) rfl rfl,
  fun _ _ _ _ _ _ _ _ => r_getfield (show zdec 176 32 = some (.getfield 24, 3) by decide +kernel) (show zft.lookup (176 * zKEY + 24) = some (10, 3) by decide +kernel) rfl,
  fun _ _ _ _ _ _ _ => r_iload (show zdec 176 35 = some (.iload 4, 2) by decide +kernel) rfl rfl,
  fun _ _ _ _ _ _ _ _ _ => r_aald (show zdec 176 37 = some (.aaload, 1) by decide +kernel) rfl,
  fun _ _ _ _ _ _ _ _ => r_cV [] rfl (show zdec 176 38 = some (.invokevirtual 68, 3) by decide +kernel) (show zst.lookup (176 * zKEY + 68) = some (1, 155, 0, 7) by decide +kernel) (by decide) rfl,
  fun _ _ _ _ _ _ _ => r_lload_n (show zdec 176 41 = some (.lload_n 2, 1) by decide +kernel) rfl rfl,
  fun _ _ _ _ _ _ _ _ _ => r_lcmp (show zdec 176 42 = some (.lcmp, 1) by decide +kernel) rfl,
  fun _ _ _ _ _ _ _ _ => r_ifge (show zdec 176 43 = some (.ifCond .ge 17, 3) by decide +kernel) rfl rfl,
  fun _ _ _ _ _ _ _ => r_iload (show zdec 176 46 = some (.iload 4, 2) by decide +kernel) rfl rfl,
  fun _ _ _ _ _ _ _ _ => r_istore_n (show zdec 176 48 = some (.istore_n 1, 1) by decide +kernel) rfl rfl (Nat.le_of_ble_eq_true rfl) rfl rfl,
  fun _ _ _ _ _ _ _ => r_aload_nr (show zdec 176 49 = some (.aload_n 0, 1) by decide +kernel) rfl rfl,
  fun _ _ _ _ _ _ _ _ => r_getfield (show zdec 176 50 = some (.getfield 24, 3) by decide +kernel) (show zft.lookup (176 * zKEY + 24) = some (10, 3) by decide +kernel) rfl,
  fun _ _ _ _ _ _ _ => r_iload (show zdec 176 53 = some (.iload 4, 2) by decide +kernel) rfl rfl,
  fun _ _ _ _ _ _ _ _ _ => r_aald (show zdec 176 55 = some (.aaload, 1) by decide +kernel) rfl,
  fun _ _ _ _ _ _ _ _ => r_cV [] rfl (show zdec 176 56 = some (.invokevirtual 68, 3) by decide +kernel) (show zst.lookup (176 * zKEY + 68) = some (1, 155, 0, 7) by decide +kernel) (by decide) rfl,
  fun _ _ _ _ _ _ _ _ => r_lstore_n (show zdec 176 59 = some (.lstore_n 2, 1) by decide +kernel) rfl rfl (Nat.le_of_ble_eq_true rfl) rfl rfl,
  fun _ _ _ _ _ _ _ => r_iinc (show zdec 176 60 = some (.iinc 4 1, 3) by decide +kernel) rfl rfl rfl (Nat.le_of_ble_eq_true rfl) rfl rfl,
  fun _ _ _ _ _ _ _ => r_goto (show zdec 176 63 = some (.goto (-55), 3) by decide +kernel) rfl,
  fun _ _ _ _ _ _ _ => r_iload_n (show zdec 176 66 = some (.iload_n 1, 1) by decide +kernel) rfl rfl,
  fun _ _ _ _ _ _ _ => r_ireti (show zdec 176 67 = some (.ireturn, 1) by decide +kernel) (by decide +kernel)⟩
theorem zl_176_8 : ∀ (l0 l1 l2 l3 : Value) (x : Int32) (S : List Value) (h : zH), rn 176 8 [l0, l1, l2, l3, .int x] S h = rn 176 10 [l0, l1, l2, l3, .int x] (.int x :: S) h := fun _ _ _ _ _ _ _ => r_iload (show zdec 176 8 = some (.iload 4, 2) by decide +kernel) rfl rfl
theorem ze_176 : ∀ (a0 : Nat) (h : zH), ev 176 [.ref a0] h = rn 176 0 [.ref a0, .float 0, .float 0, .float 0, .float 0] [] h := fun _ _ => if_pos (Nat.le_of_ble_eq_true rfl)
-- PayrollRun/Slip.correctedMonths(I)I
theorem zr_178 : (∀ (l0 l1 l2 l3 l4 : Value) (S : List Value) (h : zH), rn 178 0 [l0, l1, l2, l3, l4] S h = rn 178 1 [l0, l1, l2, l3, l4] (.int (nI 0) :: S) h) ∧
  (∀ (l0 l1 l2 l3 l4 : Value) (x : Int32) (S : List Value) (h : zH), rn 178 1 [l0, l1, l2, l3, l4] (.int x :: S) h = nl l1 (rn 178 2 [l0, l1, .int x, l3, l4] S h)) ∧
  (∀ (l0 l1 l2 l3 l4 : Value) (S : List Value) (h : zH), rn 178 2 [l0, l1, l2, l3, l4] S h = rn 178 3 [l0, l1, l2, l3, l4] (.int (nI 0) :: S) h) ∧
  (∀ (l0 l1 l2 l3 l4 : Value) (x : Int32) (S : List Value) (h : zH), rn 178 3 [l0, l1, l2, l3, l4] (.int x :: S) h = nl l2 (rn 178 4 [l0, l1, l2, .int x, l4] S h)) ∧
  (∀ (l1 l2 l3 l4 : Value) (x : Nat) (S : List Value) (h : zH), rn 178 5 [.ref x, l1, l2, l3, l4] S h = rn 178 6 [.ref x, l1, l2, l3, l4] (.ref x :: S) h) ∧
  (∀ (l0 l1 l2 l3 l4 : Value) (a : Nat) (S : List Value) (h : zH), rn 178 6 [l0, l1, l2, l3, l4] (.ref a :: S) h = zgf h a 7 2 fun v => rn 178 9 [l0, l1, l2, l3, l4] (v :: S) h) ∧
  (∀ (l0 l1 l2 l3 l4 : Value) (x : Int32) (y : Int32) (S : List Value) (h : zH), rn 178 9 [l0, l1, l2, l3, l4] (.int y :: .int x :: S) h = if y ≤ x then rn 178 58 [l0, l1, l2, l3, l4] S h else rn 178 12 [l0, l1, l2, l3, l4] S h) ∧
  (∀ (l0 l1 l2 l4 : Value) (x : Int32) (S : List Value) (h : zH), rn 178 12 [l0, l1, l2, .int x, l4] S h = rn 178 13 [l0, l1, l2, .int x, l4] (.int x :: S) h) ∧
  (∀ (l0 l1 l2 l3 l4 : Value) (S : List Value) (h : zH), rn 178 13 [l0, l1, l2, l3, l4] S h = rn 178 15 [l0, l1, l2, l3, l4] (.int (nI 54) :: S) h) ∧
  (∀ (l0 l1 l2 l3 l4 : Value) (x : Int32) (y : Int32) (S : List Value) (h : zH), rn 178 15 [l0, l1, l2, l3, l4] (.int y :: .int x :: S) h = if y ≤ x then rn 178 58 [l0, l1, l2, l3, l4] S h else rn 178 18 [l0, l1, l2, l3, l4] S h) ∧
  (∀ (l1 l2 l3 l4 : Value) (x : Nat) (S : List Value) (h : zH), rn 178 18 [.ref x, l1, l2, l3, l4] S h = rn 178 19 [.ref x, l1, l2, l3, l4] (.ref x :: S) h) ∧
  (∀ (l0 l1 l2 l3 l4 : Value) (a : Nat) (S : List Value) (h : zH), rn 178 19 [l0, l1, l2, l3, l4] (.ref a :: S) h = zgf h a 7 0 fun v => rn 178 22 [l0, l1, l2, l3, l4] (v :: S) h) ∧
  (∀ (l0 l1 l2 l3 l4 : Value) (S : List Value) (h : zH), rn 178 22 [l0, l1, l2, l3, l4] S h = rn 178 24 [l0, l1, l2, l3, l4] (.int (nI 54) :: S) h) ∧
  (∀ (l0 l1 l2 l4 : Value) (x : Int32) (S : List Value) (h : zH), rn 178 24 [l0, l1, l2, .int x, l4] S h = rn 178 25 [l0, l1, l2, .int x, l4] (.int x :: S) h) ∧
  (∀ (l0 l1 l2 l3 l4 : Value) (x : Int32) (y : Int32) (S : List Value) (h : zH), rn 178 25 [l0, l1, l2, l3, l4] (.int y :: .int x :: S) h = rn 178 26 [l0, l1, l2, l3, l4] (.int (x + y) :: S) h) ∧
  (∀ (l0 l1 l2 l3 l4 : Value) (a : Nat) (j : Int32) (S : List Value) (h : zH), rn 178 26 [l0, l1, l2, l3, l4] (.int j :: .ref a :: S) h = zli h a 0 j fun x => rn 178 27 [l0, l1, l2, l3, l4] (.int x :: S) h) ∧
  (∀ (l0 l1 l2 l3 l4 : Value) (x : Int32) (S : List Value) (h : zH), rn 178 27 [l0, l1, l2, l3, l4] (.int x :: S) h = nl l3 (rn 178 29 [l0, l1, l2, l3, .int x] S h)) ∧
  (∀ (l1 l2 l3 l4 : Value) (x : Nat) (S : List Value) (h : zH), rn 178 29 [.ref x, l1, l2, l3, l4] S h = rn 178 30 [.ref x, l1, l2, l3, l4] (.ref x :: S) h) ∧
  (∀ (l0 l1 l2 l3 l4 : Value) (a : Nat) (S : List Value) (h : zH), rn 178 30 [l0, l1, l2, l3, l4] (.ref a :: S) h = zgf h a 7 0 fun v => rn 178 33 [l0, l1, l2, l3, l4] (v :: S) h) ∧
  (∀ (l0 l1 l2 l4 : Value) (x : Int32) (S : List Value) (h : zH), rn 178 33 [l0, l1, l2, .int x, l4] S h = rn 178 34 [l0, l1, l2, .int x, l4] (.int x :: S) h) ∧
  (∀ (l0 l1 l2 l3 l4 : Value) (a : Nat) (j : Int32) (S : List Value) (h : zH), rn 178 34 [l0, l1, l2, l3, l4] (.int j :: .ref a :: S) h = zli h a 0 j fun x => rn 178 35 [l0, l1, l2, l3, l4] (.int x :: S) h) ∧
  (∀ (l0 l1 l2 l3 l4 : Value) (S : List Value) (h : zH), rn 178 35 [l0, l1, l2, l3, l4] S h = rn 178 36 [l0, l1, l2, l3, l4] (.int (nI 3) :: S) h) ∧
  (∀ (l0 l1 l2 l3 l4 : Value) (x : Int32) (y : Int32) (S : List Value) (h : zH), rn 178 36 [l0, l1, l2, l3, l4] (.int y :: .int x :: S) h = if y < x then rn 178 52 [l0, l1, l2, l3, l4] S h else rn 178 39 [l0, l1, l2, l3, l4] S h) ∧
  (∀ (l0 l1 l2 l3 : Value) (x : Int32) (S : List Value) (h : zH), rn 178 39 [l0, l1, l2, l3, .int x] S h = rn 178 41 [l0, l1, l2, l3, .int x] (.int x :: S) h) ∧
  (∀ (l0 l2 l3 l4 : Value) (x : Int32) (S : List Value) (h : zH), rn 178 41 [l0, .int x, l2, l3, l4] S h = rn 178 42 [l0, .int x, l2, l3, l4] (.int x :: S) h) ∧
  (∀ (l0 l1 l2 l3 l4 : Value) (x : Int32) (y : Int32) (S : List Value) (h : zH), rn 178 42 [l0, l1, l2, l3, l4] (.int y :: .int x :: S) h = if x = y then rn 178 52 [l0, l1, l2, l3, l4] S h else rn 178 45 [l0, l1, l2, l3, l4] S h) ∧
  (∀ (l0 l1 l3 l4 : Value) (x : Int32) (S : List Value) (h : zH), rn 178 45 [l0, l1, .int x, l3, l4] S h = rn 178 46 [l0, l1, .int x, l3, l4] (.int x :: S) h) ∧
  (∀ (l0 l1 l2 l3 l4 : Value) (S : List Value) (h : zH), rn 178 46 [l0, l1, l2, l3, l4] S h = rn 178 47 [l0, l1, l2, l3, l4] (.int (nI 1) :: S) h) ∧
  (∀ (l0 l1 l2 l3 : Value) (x : Int32) (S : List Value) (h : zH), rn 178 47 [l0, l1, l2, l3, .int x] S h = rn 178 49 [l0, l1, l2, l3, .int x] (.int x :: S) h) ∧
  (∀ (l0 l1 l2 l3 l4 : Value) (x : Int32) (y : Int32) (S : List Value) (h : zH), rn 178 49 [l0, l1, l2, l3, l4] (.int y :: .int x :: S) h = rn 178 50 [l0, l1, l2, l3, l4] (.int (x <<< (y &&& 31)) :: S) h) ∧
  (∀ (l0 l1 l2 l3 l4 : Value) (x : Int32) (y : Int32) (S : List Value) (h : zH), rn 178 50 [l0, l1, l2, l3, l4] (.int y :: .int x :: S) h = rn 178 51 [l0, l1, l2, l3, l4] (.int (x ||| y) :: S) h) ∧
  (∀ (l0 l1 l2 l3 l4 : Value) (x : Int32) (S : List Value) (h : zH), rn 178 51 [l0, l1, l2, l3, l4] (.int x :: S) h = nl l1 (rn 178 52 [l0, l1, .int x, l3, l4] S h)) ∧
  (∀ (l0 l1 l2 l4 : Value) (x : Int32) (S : List Value) (h : zH), rn 178 52 [l0, l1, l2, .int x, l4] S h = nl l2 (rn 178 55 [l0, l1, l2, .int (x + (nI 1)), l4] S h)) ∧
  (∀ (l0 l1 l2 l3 l4 : Value) (S : List Value) (h : zH), rn 178 55 [l0, l1, l2, l3, l4] S h = rn 178 4 [l0, l1, l2, l3, l4] S h) ∧
  (∀ (l0 l1 l3 l4 : Value) (x : Int32) (S : List Value) (h : zH), rn 178 58 [l0, l1, .int x, l3, l4] S h = rn 178 59 [l0, l1, .int x, l3, l4] (.int x :: S) h) ∧
  (∀ (l0 l1 l2 l3 l4 : Value) (x : Int32) (h : zH), rn 178 59 [l0, l1, l2, l3, l4] [.int x] h = some (some (.int x), h)) := ⟨fun _ _ _ _ _ _ _ => r_iconst (show zdec 178 0 = some (.iconst 0, 1) by decide +kernel) rfl rfl,
  fun _ _ _ _ _ _ _ _ => r_istore_n (show zdec 178 1 = some (.istore_n 2, 1) by decide +kernel) rfl rfl (Nat.le_of_ble_eq_true rfl) rfl rfl,
  fun _ _ _ _ _ _ _ => r_iconst (show zdec 178 2 = some (.iconst 0, 1) by decide +kernel) rfl rfl,
  fun _ _ _ _ _ _ _ _ => r_istore_n (show zdec 178 3 = some (.istore_n 3, 1) by decide +kernel) rfl rfl (Nat.le_of_ble_eq_true rfl) rfl rfl,
  fun _ _ _ _ _ _ _ => r_aload_nr (show zdec 178 5 = some (.aload_n 0, 1) by decide +kernel) rfl rfl,
  fun _ _ _ _ _ _ _ _ => r_getfield (show zdec 178 6 = some (.getfield 19, 3) by decide +kernel) (show zft.lookup (178 * zKEY + 19) = some (7, 2) by decide +kernel) rfl,
  fun _ _ _ _ _ _ _ _ _ => r_icmpge (show zdec 178 9 = some (.if_icmp .ge 49, 3) by decide +kernel) rfl rfl,
  fun _ _ _ _ _ _ _ => r_iload_n (show zdec 178 12 = some (.iload_n 3, 1) by decide +kernel) rfl rfl,
  fun _ _ _ _ _ _ _ => r_bipush (show zdec 178 13 = some (.bipush 54, 2) by decide +kernel) rfl rfl,
  fun _ _ _ _ _ _ _ _ _ => r_icmpge (show zdec 178 15 = some (.if_icmp .ge 43, 3) by decide +kernel) rfl rfl,
  fun _ _ _ _ _ _ _ => r_aload_nr (show zdec 178 18 = some (.aload_n 0, 1) by decide +kernel) rfl rfl,
  fun _ _ _ _ _ _ _ _ => r_getfield (show zdec 178 19 = some (.getfield 11, 3) by decide +kernel) (show zft.lookup (178 * zKEY + 11) = some (7, 0) by decide +kernel) rfl,
  fun _ _ _ _ _ _ _ => r_bipush (show zdec 178 22 = some (.bipush 54, 2) by decide +kernel) rfl rfl,
  fun _ _ _ _ _ _ _ => r_iload_n (show zdec 178 24 = some (.iload_n 3, 1) by decide +kernel) rfl rfl,
  fun _ _ _ _ _ _ _ _ _ => r_iadd (show zdec 178 25 = some (.iadd, 1) by decide +kernel) rfl,
  fun _ _ _ _ _ _ _ _ _ => r_iald (show zdec 178 26 = some (.iaload, 1) by decide +kernel) rfl,
  fun _ _ _ _ _ _ _ _ => r_istore (show zdec 178 27 = some (.istore 4, 2) by decide +kernel) rfl (Nat.le_of_ble_eq_true rfl) rfl rfl,
  fun _ _ _ _ _ _ _ => r_aload_nr (show zdec 178 29 = some (.aload_n 0, 1) by decide +kernel) rfl rfl,
  fun _ _ _ _ _ _ _ _ => r_getfield (show zdec 178 30 = some (.getfield 11, 3) by decide +kernel) (show zft.lookup (178 * zKEY + 11) = some (7, 0) by decide +kernel) rfl,
  fun _ _ _ _ _ _ _ => r_iload_n (show zdec 178 33 = some (.iload_n 3, 1) by decide +kernel) rfl rfl,
  fun _ _ _ _ _ _ _ _ _ => r_iald (show zdec 178 34 = some (.iaload, 1) by decide +kernel) rfl,
  fun _ _ _ _ _ _ _ => r_iconst (show zdec 178 35 = some (.iconst 3, 1) by decide +kernel) rfl rfl,
  fun _ _ _ _ _ _ _ _ _ => r_icmpgt (show zdec 178 36 = some (.if_icmp .gt 16, 3) by decide +kernel) rfl rfl,
  fun _ _ _ _ _ _ _ => r_iload (show zdec 178 39 = some (.iload 4, 2) by decide +kernel) rfl rfl,
  fun _ _ _ _ _ _ _ => r_iload_n (show zdec 178 41 = some (.iload_n 1, 1) by decide +kernel) rfl rfl,
  fun _ _ _ _ _ _ _ _ _ => r_icmpeq (show zdec 178 42 = some (.if_icmp .eq 10, 3) by decide +kernel) rfl rfl,
  fun _ _ _ _ _ _ _ => r_iload_n (show zdec 178 45 = some (.iload_n 2, 1) by decide +kernel) rfl rfl,
  fun _ _ _ _ _ _ _ => r_iconst (show zdec 178 46 = some (.iconst 1, 1) by decide +kernel) rfl rfl,
  fun _ _ _ _ _ _ _ => r_iload (show zdec 178 47 = some (.iload 4, 2) by decide +kernel) rfl rfl,
  fun _ _ _ _ _ _ _ _ _ => r_ishl (show zdec 178 49 = some (.ishl, 1) by decide +kernel) rfl,
  fun _ _ _ _ _ _ _ _ _ => r_ior (show zdec 178 50 = some (.ior, 1) by decide +kernel) rfl,
  fun _ _ _ _ _ _ _ _ => r_istore_n (show zdec 178 51 = some (.istore_n 2, 1) by decide +kernel) rfl rfl (Nat.le_of_ble_eq_true rfl) rfl rfl,
  fun _ _ _ _ _ _ _ => r_iinc (show zdec 178 52 = some (.iinc 3 1, 3) by decide +kernel) rfl rfl rfl (Nat.le_of_ble_eq_true rfl) rfl rfl,
  fun _ _ _ _ _ _ _ => r_goto (show zdec 178 55 = some (.goto (-51), 3) by decide +kernel) rfl,
  fun _ _ _ _ _ _ _ => r_iload_n (show zdec 178 58 = some (.iload_n 2, 1) by decide +kernel) rfl rfl,
  fun _ _ _ _ _ _ _ => r_ireti (show zdec 178 59 = some (.ireturn, 1) by decide +kernel) (by decide +kernel)⟩
theorem zl_178_4 : ∀ (l0 l1 l2 l4 : Value) (x : Int32) (S : List Value) (h : zH), rn 178 4 [l0, l1, l2, .int x, l4] S h = rn 178 5 [l0, l1, l2, .int x, l4] (.int x :: S) h := fun _ _ _ _ _ _ _ => r_iload_n (show zdec 178 4 = some (.iload_n 3, 1) by decide +kernel) rfl rfl
theorem ze_178 : ∀ (a0 : Nat) (a1 : Int32) (h : zH), ev 178 [.ref a0, .int a1] h = rn 178 0 [.ref a0, .int a1, .float 0, .float 0, .float 0] [] h := fun _ _ _ => if_pos (Nat.le_of_ble_eq_true rfl)
-- PayrollRun/History.takeBack(LPayrollRun/Books;)V
theorem zr_201 : (∀ (l0 l1 : Value) (S : List Value) (h : zH), rn 201 0 [l0, l1] S h = ldA l1 (rn 201 1 [l0, l1] (l1 :: S) h)) ∧
  (∀ (l1 : Value) (x : Nat) (S : List Value) (h : zH), rn 201 1 [.ref x, l1] S h = rn 201 2 [.ref x, l1] (.ref x :: S) h) ∧
  (∀ (l0 l1 : Value) (a : Nat) (S : List Value) (h : zH), rn 201 2 [l0, l1] (.ref a :: S) h = zgf h a 5 0 fun v => rn 201 5 [l0, l1] (v :: S) h) ∧
  (∀ (l1 : Value) (x : Nat) (S : List Value) (h : zH), rn 201 5 [.ref x, l1] S h = rn 201 6 [.ref x, l1] (.ref x :: S) h) ∧
  (∀ (l0 l1 : Value) (a : Nat) (S : List Value) (h : zH), rn 201 6 [l0, l1] (.ref a :: S) h = zgf h a 5 1 fun v => rn 201 9 [l0, l1] (v :: S) h) ∧
  (∀ (l0 l1 : Value) (a : Nat) (j : Int32) (S : List Value) (h : zH), rn 201 9 [l0, l1] (.int j :: .ref a :: S) h = zlq h a j fun x => rn 201 10 [l0, l1] (va_rf x :: S) h) ∧
  (∀ (l0 l1 : Value) (o : Nat) (v0 : Value) (S : List Value) (h : zH), rn 201 10 [l0, l1] (v0 :: .ref o :: S) h = if zkd h o = 1 ∧ zsum S ≤ 8 then zcall (ev 18 [.ref o, v0] h) (fun v h => rn 201 13 [l0, l1] (zpush v S) h) else none) ∧
  (∀ (l0 l1 : Value) (h : zH), rn 201 13 [l0, l1] [] h = some (none, h)) := ⟨fun _ _ _ _ => r_aload_n (show zdec 201 0 = some (.aload_n 1, 1) by decide +kernel) rfl rfl,
  fun _ _ _ _ => r_aload_nr (show zdec 201 1 = some (.aload_n 0, 1) by decide +kernel) rfl rfl,
  fun _ _ _ _ _ => r_getfield (show zdec 201 2 = some (.getfield 13, 3) by decide +kernel) (show zft.lookup (201 * zKEY + 13) = some (5, 0) by decide +kernel) rfl,
  fun _ _ _ _ => r_aload_nr (show zdec 201 5 = some (.aload_n 0, 1) by decide +kernel) rfl rfl,
  fun _ _ _ _ _ => r_getfield (show zdec 201 6 = some (.getfield 17, 3) by decide +kernel) (show zft.lookup (201 * zKEY + 17) = some (5, 1) by decide +kernel) rfl,
  fun _ _ _ _ _ _ => r_aald (show zdec 201 9 = some (.aaload, 1) by decide +kernel) rfl,
  fun _ _ _ _ _ _ => r_cV [_] rfl (show zdec 201 10 = some (.invokevirtual 25, 3) by decide +kernel) (show zst.lookup (201 * zKEY + 25) = some (1, 18, 1, 1) by decide +kernel) (by decide) rfl,
  fun _ _ _ => r_vret (show zdec 201 13 = some (.return_, 1) by decide +kernel) (by decide +kernel)⟩
theorem ze_201 : ∀ (a0 : Nat) (a1 : Nat) (h : zH), ev 201 [.ref a0, .ref a1] h = rn 201 0 [.ref a0, .ref a1] [] h := fun _ _ _ => if_pos (Nat.le_of_ble_eq_true rfl)
-- PayrollRun/History.stepBack(LPayrollRun/Books;)I
theorem zr_206 : (∀ (l1 : Value) (x : Nat) (S : List Value) (h : zH), rn 206 0 [.ref x, l1] S h = rn 206 1 [.ref x, l1] (.ref x :: S) h) ∧
  (∀ (l0 l1 : Value) (a : Nat) (S : List Value) (h : zH), rn 206 1 [l0, l1] (.ref a :: S) h = zgf h a 5 2 fun v => rn 206 4 [l0, l1] (v :: S) h) ∧
  (∀ (l0 l1 : Value) (x : Int32) (S : List Value) (h : zH), rn 206 4 [l0, l1] (.int x :: S) h = if x = nI 0 then rn 206 7 [l0, l1] S h else rn 206 10 [l0, l1] S h) ∧
  (∀ (l0 l1 : Value) (S : List Value) (h : zH), rn 206 7 [l0, l1] S h = rn 206 9 [l0, l1] (.int (-2) :: S) h) ∧
  (∀ (l0 l1 : Value) (x : Int32) (h : zH), rn 206 9 [l0, l1] [.int x] h = some (some (.int x), h)) ∧
  (∀ (l1 : Value) (x : Nat) (S : List Value) (h : zH), rn 206 10 [.ref x, l1] S h = rn 206 11 [.ref x, l1] (.ref x :: S) h) ∧
  (∀ (l1 : Value) (x : Nat) (S : List Value) (h : zH), rn 206 11 [.ref x, l1] S h = rn 206 12 [.ref x, l1] (.ref x :: S) h) ∧
  (∀ (l0 l1 : Value) (a : Nat) (S : List Value) (h : zH), rn 206 12 [l0, l1] (.ref a :: S) h = zgf h a 5 1 fun v => rn 206 15 [l0, l1] (v :: S) h) ∧
  (∀ (l0 l1 : Value) (S : List Value) (h : zH), rn 206 15 [l0, l1] S h = rn 206 17 [l0, l1] (.int (nI 7) :: S) h) ∧
  (∀ (l0 l1 : Value) (x : Int32) (y : Int32) (S : List Value) (h : zH), rn 206 17 [l0, l1] (.int y :: .int x :: S) h = rn 206 18 [l0, l1] (.int (x + y) :: S) h) ∧
  (∀ (l0 l1 : Value) (S : List Value) (h : zH), rn 206 18 [l0, l1] S h = rn 206 19 [l0, l1] (.int (nI 1) :: S) h) ∧
  (∀ (l0 l1 : Value) (x : Int32) (y : Int32) (S : List Value) (h : zH), rn 206 19 [l0, l1] (.int y :: .int x :: S) h = rn 206 20 [l0, l1] (.int (x - y) :: S) h) ∧
  (∀ (l0 l1 : Value) (S : List Value) (h : zH), rn 206 20 [l0, l1] S h = rn 206 22 [l0, l1] (.int (nI 7) :: S) h) ∧
  (∀ (l0 l1 : Value) (x : Int32) (y : Int32) (S : List Value) (h : zH), rn 206 22 [l0, l1] (.int y :: .int x :: S) h = dvI y (rn 206 23 [l0, l1] (.int (x - x / y * y) :: S) h)) ∧
  (∀ (l0 l1 : Value) (a : Nat) (v : Value) (S : List Value) (h : zH), rn 206 23 [l0, l1] (v :: .ref a :: S) h = zpf h a 5 1 v fun h => rn 206 26 [l0, l1] S h) ∧
  (∀ (l1 : Value) (x : Nat) (S : List Value) (h : zH), rn 206 26 [.ref x, l1] S h = rn 206 27 [.ref x, l1] (.ref x :: S) h) ∧
  (∀ (l0 l1 : Value) (v : Value) (S : List Value) (h : zH), rn 206 27 [l0, l1] (v :: S) h = c1 v (rn 206 28 [l0, l1] (v :: v :: S) h)) ∧
  (∀ (l0 l1 : Value) (a : Nat) (S : List Value) (h : zH), rn 206 28 [l0, l1] (.ref a :: S) h = zgf h a 5 2 fun v => rn 206 31 [l0, l1] (v :: S) h) ∧
  (∀ (l0 l1 : Value) (S : List Value) (h : zH), rn 206 31 [l0, l1] S h = rn 206 32 [l0, l1] (.int (nI 1) :: S) h) ∧
  (∀ (l0 l1 : Value) (x : Int32) (y : Int32) (S : List Value) (h : zH), rn 206 32 [l0, l1] (.int y :: .int x :: S) h = rn 206 33 [l0, l1] (.int (x - y) :: S) h) ∧
  (∀ (l0 l1 : Value) (a : Nat) (v : Value) (S : List Value) (h : zH), rn 206 33 [l0, l1] (v :: .ref a :: S) h = zpf h a 5 2 v fun h => rn 206 36 [l0, l1] S h) ∧
  (∀ (l0 l1 : Value) (S : List Value) (h : zH), rn 206 36 [l0, l1] S h = ldA l1 (rn 206 37 [l0, l1] (l1 :: S) h)) ∧
  (∀ (l1 : Value) (x : Nat) (S : List Value) (h : zH), rn 206 37 [.ref x, l1] S h = rn 206 38 [.ref x, l1] (.ref x :: S) h) ∧
  (∀ (l0 l1 : Value) (a : Nat) (S : List Value) (h : zH), rn 206 38 [l0, l1] (.ref a :: S) h = zgf h a 5 0 fun v => rn 206 41 [l0, l1] (v :: S) h) ∧
  (∀ (l1 : Value) (x : Nat) (S : List Value) (h : zH), rn 206 41 [.ref x, l1] S h = rn 206 42 [.ref x, l1] (.ref x :: S) h) ∧
  (∀ (l0 l1 : Value) (a : Nat) (S : List Value) (h : zH), rn 206 42 [l0, l1] (.ref a :: S) h = zgf h a 5 1 fun v => rn 206 45 [l0, l1] (v :: S) h) ∧
  (∀ (l0 l1 : Value) (a : Nat) (j : Int32) (S : List Value) (h : zH), rn 206 45 [l0, l1] (.int j :: .ref a :: S) h = zlq h a j fun x => rn 206 46 [l0, l1] (va_rf x :: S) h) ∧
  (∀ (l0 l1 : Value) (o : Nat) (v0 : Value) (S : List Value) (h : zH), rn 206 46 [l0, l1] (v0 :: .ref o :: S) h = if zkd h o = 1 ∧ zsum S ≤ 8 then zcall (ev 18 [.ref o, v0] h) (fun v h => rn 206 49 [l0, l1] (zpush v S) h) else none) ∧
  (∀ (l1 : Value) (x : Nat) (S : List Value) (h : zH), rn 206 49 [.ref x, l1] S h = rn 206 50 [.ref x, l1] (.ref x :: S) h) ∧
  (∀ (l0 l1 : Value) (a : Nat) (S : List Value) (h : zH), rn 206 50 [l0, l1] (.ref a :: S) h = zgf h a 5 2 fun v => rn 206 53 [l0, l1] (v :: S) h) ∧
  (∀ (l0 l1 : Value) (x : Int32) (h : zH), rn 206 53 [l0, l1] [.int x] h = some (some (.int x), h)) := ⟨fun _ _ _ _ => r_aload_nr (show zdec 206 0 = some (.aload_n 0, 1) by decide +kernel) rfl rfl,
  fun _ _ _ _ _ => r_getfield (show zdec 206 1 = some (.getfield 21, 3) by decide +kernel) (show zft.lookup (206 * zKEY + 21) = some (5, 2) by decide +kernel) rfl,
  fun _ _ _ _ _ => r_ifne (show zdec 206 4 = some (.ifCond .ne 6, 3) by decide +kernel) rfl rfl,
  fun _ _ _ _ => r_bipush (show zdec 206 7 = some (.bipush (-2), 2) by decide +kernel) rfl rfl,
  fun _ _ _ _ => r_ireti (show zdec 206 9 = some (.ireturn, 1) by decide +kernel) (by decide +kernel),
  fun _ _ _ _ => r_aload_nr (show zdec 206 10 = some (.aload_n 0, 1) by decide +kernel) rfl rfl,
  fun _ _ _ _ => r_aload_nr (show zdec 206 11 = some (.aload_n 0, 1) by decide +kernel) rfl rfl,
  fun _ _ _ _ _ => r_getfield (show zdec 206 12 = some (.getfield 17, 3) by decide +kernel) (show zft.lookup (206 * zKEY + 17) = some (5, 1) by decide +kernel) rfl,
  fun _ _ _ _ => r_bipush (show zdec 206 15 = some (.bipush 7, 2) by decide +kernel) rfl rfl,
  fun _ _ _ _ _ _ => r_iadd (show zdec 206 17 = some (.iadd, 1) by decide +kernel) rfl,
  fun _ _ _ _ => r_iconst (show zdec 206 18 = some (.iconst 1, 1) by decide +kernel) rfl rfl,
  fun _ _ _ _ _ _ => r_isub (show zdec 206 19 = some (.isub, 1) by decide +kernel) rfl,
  fun _ _ _ _ => r_bipush (show zdec 206 20 = some (.bipush 7, 2) by decide +kernel) rfl rfl,
  fun _ _ _ _ _ _ => r_irem (show zdec 206 22 = some (.irem, 1) by decide +kernel) rfl,
  fun _ _ _ _ _ _ => r_putfield (show zdec 206 23 = some (.putfield 17, 3) by decide +kernel) (show zft.lookup (206 * zKEY + 17) = some (5, 1) by decide +kernel) (by decide +kernel) rfl,
  fun _ _ _ _ => r_aload_nr (show zdec 206 26 = some (.aload_n 0, 1) by decide +kernel) rfl rfl,
  fun _ _ _ _ _ => r_dup (show zdec 206 27 = some (.dup, 1) by decide +kernel) rfl,
  fun _ _ _ _ _ => r_getfield (show zdec 206 28 = some (.getfield 21, 3) by decide +kernel) (show zft.lookup (206 * zKEY + 21) = some (5, 2) by decide +kernel) rfl,
  fun _ _ _ _ => r_iconst (show zdec 206 31 = some (.iconst 1, 1) by decide +kernel) rfl rfl,
  fun _ _ _ _ _ _ => r_isub (show zdec 206 32 = some (.isub, 1) by decide +kernel) rfl,
  fun _ _ _ _ _ _ => r_putfield (show zdec 206 33 = some (.putfield 21, 3) by decide +kernel) (show zft.lookup (206 * zKEY + 21) = some (5, 2) by decide +kernel) (by decide +kernel) rfl,
  fun _ _ _ _ => r_aload_n (show zdec 206 36 = some (.aload_n 1, 1) by decide +kernel) rfl rfl,
  fun _ _ _ _ => r_aload_nr (show zdec 206 37 = some (.aload_n 0, 1) by decide +kernel) rfl rfl,
  fun _ _ _ _ _ => r_getfield (show zdec 206 38 = some (.getfield 13, 3) by decide +kernel) (show zft.lookup (206 * zKEY + 13) = some (5, 0) by decide +kernel) rfl,
  fun _ _ _ _ => r_aload_nr (show zdec 206 41 = some (.aload_n 0, 1) by decide +kernel) rfl rfl,
  fun _ _ _ _ _ => r_getfield (show zdec 206 42 = some (.getfield 17, 3) by decide +kernel) (show zft.lookup (206 * zKEY + 17) = some (5, 1) by decide +kernel) rfl,
  fun _ _ _ _ _ _ => r_aald (show zdec 206 45 = some (.aaload, 1) by decide +kernel) rfl,
  fun _ _ _ _ _ _ => r_cV [_] rfl (show zdec 206 46 = some (.invokevirtual 25, 3) by decide +kernel) (show zst.lookup (206 * zKEY + 25) = some (1, 18, 1, 1) by decide +kernel) (by decide) rfl,
  fun _ _ _ _ => r_aload_nr (show zdec 206 49 = some (.aload_n 0, 1) by decide +kernel) rfl rfl,
  fun _ _ _ _ _ => r_getfield (show zdec 206 50 = some (.getfield 21, 3) by decide +kernel) (show zft.lookup (206 * zKEY + 21) = some (5, 2) by decide +kernel) rfl,
  fun _ _ _ _ => r_ireti (show zdec 206 53 = some (.ireturn, 1) by decide +kernel) (by decide +kernel)⟩
theorem ze_206 : ∀ (a0 : Nat) (a1 : Nat) (h : zH), ev 206 [.ref a0, .ref a1] h = rn 206 0 [.ref a0, .ref a1] [] h := fun _ _ _ => if_pos (Nat.le_of_ble_eq_true rfl)

