/-! RULES of the class, first part, printed by render.py -/
-- PayrollRun.<init>()V
theorem zr_0 : (∀ (x : Nat) (S : List Value) (h : zH), rn 0 0 [.ref x] S h = rn 0 1 [.ref x] (.ref x :: S) h) ∧
  (∀ (l0 : Value) (o : Nat) (S : List Value) (h : zH), rn 0 1 [l0] (.ref o :: S) h = if zsum S ≤ 8 then rn 0 4 [l0] S h else none) ∧
  (∀ (x : Nat) (S : List Value) (h : zH), rn 0 4 [.ref x] S h = rn 0 5 [.ref x] (.ref x :: S) h) ∧
  (∀ (l0 : Value) (S : List Value) (h : zH), rn 0 5 [l0] S h = rn 0 8 [l0] (.ref (100 + h.1) :: S) (znew h (.inr (1, [.null, .null, .int 0, .int 0, .int 0])) 5)) ∧
  (∀ (l0 : Value) (v : Value) (S : List Value) (h : zH), rn 0 8 [l0] (v :: S) h = c1 v (rn 0 9 [l0] (v :: v :: S) h)) ∧
  (∀ (l0 : Value) (o : Nat) (S : List Value) (h : zH), rn 0 9 [l0] (.ref o :: S) h = if zsum S ≤ 8 then zcall (ev 2 [.ref o] h) (fun v h => rn 0 12 [l0] (zpush v S) h) else none) ∧
  (∀ (l0 : Value) (a : Nat) (v : Value) (S : List Value) (h : zH), rn 0 12 [l0] (v :: .ref a :: S) h = zpf h a 11 0 v fun h => rn 0 15 [l0] S h) ∧
  (∀ (x : Nat) (S : List Value) (h : zH), rn 0 15 [.ref x] S h = rn 0 16 [.ref x] (.ref x :: S) h) ∧
  (∀ (l0 : Value) (S : List Value) (h : zH), rn 0 16 [l0] S h = rn 0 19 [l0] (.ref (100 + h.1) :: S) (znew h (.inr (5, [.null, .int 0, .int 0])) 3)) ∧
  (∀ (l0 : Value) (v : Value) (S : List Value) (h : zH), rn 0 19 [l0] (v :: S) h = c1 v (rn 0 20 [l0] (v :: v :: S) h)) ∧
  (∀ (l0 : Value) (o : Nat) (S : List Value) (h : zH), rn 0 20 [l0] (.ref o :: S) h = if zsum S ≤ 8 then zcall (ev 6 [.ref o] h) (fun v h => rn 0 23 [l0] (zpush v S) h) else none) ∧
  (∀ (l0 : Value) (a : Nat) (v : Value) (S : List Value) (h : zH), rn 0 23 [l0] (v :: .ref a :: S) h = zpf h a 11 1 v fun h => rn 0 26 [l0] S h) ∧
  (∀ (x : Nat) (S : List Value) (h : zH), rn 0 26 [.ref x] S h = rn 0 27 [.ref x] (.ref x :: S) h) ∧
  (∀ (l0 : Value) (S : List Value) (h : zH), rn 0 27 [l0] S h = rn 0 30 [l0] (.ref (100 + h.1) :: S) (znew h (.inr (1, [.null, .null, .int 0, .int 0, .int 0])) 5)) ∧
  (∀ (l0 : Value) (v : Value) (S : List Value) (h : zH), rn 0 30 [l0] (v :: S) h = c1 v (rn 0 31 [l0] (v :: v :: S) h)) ∧
  (∀ (l0 : Value) (o : Nat) (S : List Value) (h : zH), rn 0 31 [l0] (.ref o :: S) h = if zsum S ≤ 8 then zcall (ev 2 [.ref o] h) (fun v h => rn 0 34 [l0] (zpush v S) h) else none) ∧
  (∀ (l0 : Value) (a : Nat) (v : Value) (S : List Value) (h : zH), rn 0 34 [l0] (v :: .ref a :: S) h = zpf h a 11 2 v fun h => rn 0 37 [l0] S h) ∧
  (∀ (x : Nat) (S : List Value) (h : zH), rn 0 37 [.ref x] S h = rn 0 38 [.ref x] (.ref x :: S) h) ∧
  (∀ (l0 : Value) (S : List Value) (h : zH), rn 0 38 [l0] S h = rn 0 39 [l0] (.int (nI 0) :: S) h) ∧
  (∀ (l0 : Value) (a : Nat) (v : Value) (S : List Value) (h : zH), rn 0 39 [l0] (v :: .ref a :: S) h = zpf h a 11 3 v fun h => rn 0 42 [l0] S h) ∧
  (∀ (x : Nat) (S : List Value) (h : zH), rn 0 42 [.ref x] S h = rn 0 43 [.ref x] (.ref x :: S) h) ∧
  (∀ (l0 : Value) (S : List Value) (h : zH), rn 0 43 [l0] S h = rn 0 46 [l0] (.ref (100 + h.1) :: S) (znew h (.inr (3, [.null, .int 0, .int 0, .null, .null, .null])) 6)) ∧
  (∀ (l0 : Value) (v : Value) (S : List Value) (h : zH), rn 0 46 [l0] (v :: S) h = c1 v (rn 0 47 [l0] (v :: v :: S) h)) ∧
  (∀ (l0 : Value) (o : Nat) (S : List Value) (h : zH), rn 0 47 [l0] (.ref o :: S) h = if zsum S ≤ 8 then zcall (ev 7 [.ref o] h) (fun v h => rn 0 50 [l0] (zpush v S) h) else none) ∧
  (∀ (l0 : Value) (a : Nat) (v : Value) (S : List Value) (h : zH), rn 0 50 [l0] (v :: .ref a :: S) h = zpf h a 11 4 v fun h => rn 0 53 [l0] S h) ∧
  (∀ (x : Nat) (S : List Value) (h : zH), rn 0 53 [.ref x] S h = rn 0 54 [.ref x] (.ref x :: S) h) ∧
  (∀ (l0 : Value) (S : List Value) (h : zH), rn 0 54 [l0] S h = rn 0 57 [l0] (.ref (100 + h.1) :: S) (znew h (.inr (2, [.null])) 1)) ∧
  (∀ (l0 : Value) (v : Value) (S : List Value) (h : zH), rn 0 57 [l0] (v :: S) h = c1 v (rn 0 58 [l0] (v :: v :: S) h)) ∧
  (∀ (l0 : Value) (o : Nat) (S : List Value) (h : zH), rn 0 58 [l0] (.ref o :: S) h = if zsum S ≤ 8 then zcall (ev 8 [.ref o] h) (fun v h => rn 0 61 [l0] (zpush v S) h) else none) ∧
  (∀ (l0 : Value) (a : Nat) (v : Value) (S : List Value) (h : zH), rn 0 61 [l0] (v :: .ref a :: S) h = zpf h a 11 5 v fun h => rn 0 64 [l0] S h) ∧
  (∀ (x : Nat) (S : List Value) (h : zH), rn 0 64 [.ref x] S h = rn 0 65 [.ref x] (.ref x :: S) h) ∧
  (∀ (l0 : Value) (S : List Value) (h : zH), rn 0 65 [l0] S h = rn 0 68 [l0] (.ref (100 + h.1) :: S) (znew h (.inr (9, [.null, .null, .null])) 3)) ∧
  (∀ (l0 : Value) (v : Value) (S : List Value) (h : zH), rn 0 68 [l0] (v :: S) h = c1 v (rn 0 69 [l0] (v :: v :: S) h)) ∧
  (∀ (l0 : Value) (o : Nat) (S : List Value) (h : zH), rn 0 69 [l0] (.ref o :: S) h = if zsum S ≤ 8 then zcall (ev 9 [.ref o] h) (fun v h => rn 0 72 [l0] (zpush v S) h) else none) ∧
  (∀ (l0 : Value) (a : Nat) (v : Value) (S : List Value) (h : zH), rn 0 72 [l0] (v :: .ref a :: S) h = zpf h a 11 6 v fun h => rn 0 75 [l0] S h) ∧
  (∀ (x : Nat) (S : List Value) (h : zH), rn 0 75 [.ref x] S h = rn 0 76 [.ref x] (.ref x :: S) h) ∧
  (∀ (l0 : Value) (S : List Value) (h : zH), rn 0 76 [l0] S h = rn 0 79 [l0] (.ref (100 + h.1) :: S) (znew h (.inr (8, [.null, .null])) 2)) ∧
  (∀ (l0 : Value) (v : Value) (S : List Value) (h : zH), rn 0 79 [l0] (v :: S) h = c1 v (rn 0 80 [l0] (v :: v :: S) h)) ∧
  (∀ (l0 : Value) (o : Nat) (S : List Value) (h : zH), rn 0 80 [l0] (.ref o :: S) h = if zsum S ≤ 8 then zcall (ev 11 [.ref o] h) (fun v h => rn 0 83 [l0] (zpush v S) h) else none) ∧
  (∀ (l0 : Value) (a : Nat) (v : Value) (S : List Value) (h : zH), rn 0 83 [l0] (v :: .ref a :: S) h = zpf h a 11 7 v fun h => rn 0 86 [l0] S h) ∧
  (∀ (l0 : Value) (h : zH), rn 0 86 [l0] [] h = some (none, h)) := ⟨fun _ _ _ => r_aload_nr (show zdec 0 0 = some (.aload_n 0, 1) by decide +kernel) rfl rfl,
  fun _ _ _ _ => r_cO (show zdec 0 1 = some (.invokespecial 1, 3) by decide +kernel) (show zst.lookup (0 * zKEY + 1) = some (7, 1, 0, 0) by decide +kernel) rfl,
  fun _ _ _ => r_aload_nr (show zdec 0 4 = some (.aload_n 0, 1) by decide +kernel) rfl rfl,
  fun _ _ _ => r_new (show zdec 0 5 = some (.new 7, 3) by decide +kernel) (show znt.lookup (0 * zKEY + 7) = some 1 by decide +kernel) (by decide +kernel) rfl rfl,
  fun _ _ _ _ => r_dup (show zdec 0 8 = some (.dup, 1) by decide +kernel) rfl,
  fun _ _ _ _ => r_cI [] rfl (show zdec 0 9 = some (.invokespecial 9, 3) by decide +kernel) (show zst.lookup (0 * zKEY + 9) = some (2, 2, 0, 0) by decide +kernel) (by decide) rfl,
  fun _ _ _ _ _ => r_putfield (show zdec 0 12 = some (.putfield 10, 3) by decide +kernel) (show zft.lookup (0 * zKEY + 10) = some (11, 0) by decide +kernel) (by decide +kernel) rfl,
  fun _ _ _ => r_aload_nr (show zdec 0 15 = some (.aload_n 0, 1) by decide +kernel) rfl rfl,
  fun _ _ _ => r_new (show zdec 0 16 = some (.new 16, 3) by decide +kernel) (show znt.lookup (0 * zKEY + 16) = some 5 by decide +kernel) (by decide +kernel) rfl rfl,
  fun _ _ _ _ => r_dup (show zdec 0 19 = some (.dup, 1) by decide +kernel) rfl,
  fun _ _ _ _ => r_cI [] rfl (show zdec 0 20 = some (.invokespecial 18, 3) by decide +kernel) (show zst.lookup (0 * zKEY + 18) = some (2, 6, 0, 0) by decide +kernel) (by decide) rfl,
  fun _ _ _ _ _ => r_putfield (show zdec 0 23 = some (.putfield 19, 3) by decide +kernel) (show zft.lookup (0 * zKEY + 19) = some (11, 1) by decide +kernel) (by decide +kernel) rfl,
  fun _ _ _ => r_aload_nr (show zdec 0 26 = some (.aload_n 0, 1) by decide +kernel) rfl rfl,
  fun _ _ _ => r_new (show zdec 0 27 = some (.new 7, 3) by decide +kernel) (show znt.lookup (0 * zKEY + 7) = some 1 by decide +kernel) (by decide +kernel) rfl rfl,
  fun _ _ _ _ => r_dup (show zdec 0 30 = some (.dup, 1) by decide +kernel) rfl,
  fun _ _ _ _ => r_cI [] rfl (show zdec 0 31 = some (.invokespecial 9, 3) by decide +kernel) (show zst.lookup (0 * zKEY + 9) = some (2, 2, 0, 0) by decide +kernel) (by decide) rfl,
  fun _ _ _ _ _ => r_putfield (show zdec 0 34 = some (.putfield 23, 3) by decide +kernel) (show zft.lookup (0 * zKEY + 23) = some (11, 2) by decide +kernel) (by decide +kernel) rfl,
  fun _ _ _ => r_aload_nr (show zdec 0 37 = some (.aload_n 0, 1) by decide +kernel) rfl rfl,
  fun _ _ _ => r_iconst (show zdec 0 38 = some (.iconst 0, 1) by decide +kernel) rfl rfl,
  fun _ _ _ _ _ => r_putfield (show zdec 0 39 = some (.putfield 26, 3) by decide +kernel) (show zft.lookup (0 * zKEY + 26) = some (11, 3) by decide +kernel) (by decide +kernel) rfl,
  fun _ _ _ => r_aload_nr (show zdec 0 42 = some (.aload_n 0, 1) by decide +kernel) rfl rfl,
  fun _ _ _ => r_new (show zdec 0 43 = some (.new 30, 3) by decide +kernel) (show znt.lookup (0 * zKEY + 30) = some 3 by decide +kernel) (by decide +kernel) rfl rfl,
  fun _ _ _ _ => r_dup (show zdec 0 46 = some (.dup, 1) by decide +kernel) rfl,
  fun _ _ _ _ => r_cI [] rfl (show zdec 0 47 = some (.invokespecial 32, 3) by decide +kernel) (show zst.lookup (0 * zKEY + 32) = some (4, 7, 0, 0) by decide +kernel) (by decide) rfl,
  fun _ _ _ _ _ => r_putfield (show zdec 0 50 = some (.putfield 33, 3) by decide +kernel) (show zft.lookup (0 * zKEY + 33) = some (11, 4) by decide +kernel) (by decide +kernel) rfl,
  fun _ _ _ => r_aload_nr (show zdec 0 53 = some (.aload_n 0, 1) by decide +kernel) rfl rfl,
  fun _ _ _ => r_new (show zdec 0 54 = some (.new 37, 3) by decide +kernel) (show znt.lookup (0 * zKEY + 37) = some 2 by decide +kernel) (by decide +kernel) rfl rfl,
  fun _ _ _ _ => r_dup (show zdec 0 57 = some (.dup, 1) by decide +kernel) rfl,
  fun _ _ _ _ => r_cI [] rfl (show zdec 0 58 = some (.invokespecial 39, 3) by decide +kernel) (show zst.lookup (0 * zKEY + 39) = some (4, 8, 0, 0) by decide +kernel) (by decide) rfl,
  fun _ _ _ _ _ => r_putfield (show zdec 0 61 = some (.putfield 40, 3) by decide +kernel) (show zft.lookup (0 * zKEY + 40) = some (11, 5) by decide +kernel) (by decide +kernel) rfl,
  fun _ _ _ => r_aload_nr (show zdec 0 64 = some (.aload_n 0, 1) by decide +kernel) rfl rfl,
  fun _ _ _ => r_new (show zdec 0 65 = some (.new 44, 3) by decide +kernel) (show znt.lookup (0 * zKEY + 44) = some 9 by decide +kernel) (by decide +kernel) rfl rfl,
  fun _ _ _ _ => r_dup (show zdec 0 68 = some (.dup, 1) by decide +kernel) rfl,
  fun _ _ _ _ => r_cI [] rfl (show zdec 0 69 = some (.invokespecial 46, 3) by decide +kernel) (show zst.lookup (0 * zKEY + 46) = some (4, 9, 0, 0) by decide +kernel) (by decide) rfl,
  fun _ _ _ _ _ => r_putfield (show zdec 0 72 = some (.putfield 47, 3) by decide +kernel) (show zft.lookup (0 * zKEY + 47) = some (11, 6) by decide +kernel) (by decide +kernel) rfl,
  fun _ _ _ => r_aload_nr (show zdec 0 75 = some (.aload_n 0, 1) by decide +kernel) rfl rfl,
  fun _ _ _ => r_new (show zdec 0 76 = some (.new 51, 3) by decide +kernel) (show znt.lookup (0 * zKEY + 51) = some 8 by decide +kernel) (by decide +kernel) rfl rfl,
  fun _ _ _ _ => r_dup (show zdec 0 79 = some (.dup, 1) by decide +kernel) rfl,
  fun _ _ _ _ => r_cI [] rfl (show zdec 0 80 = some (.invokespecial 53, 3) by decide +kernel) (show zst.lookup (0 * zKEY + 53) = some (4, 11, 0, 0) by decide +kernel) (by decide) rfl,
  fun _ _ _ _ _ => r_putfield (show zdec 0 83 = some (.putfield 54, 3) by decide +kernel) (show zft.lookup (0 * zKEY + 54) = some (11, 7) by decide +kernel) (by decide +kernel) rfl,
  fun _ _ => r_vret (show zdec 0 86 = some (.return_, 1) by decide +kernel) (by decide +kernel)⟩
theorem ze_0 : ∀ (a0 : Nat) (h : zH), ev 0 [.ref a0] h = rn 0 0 [.ref a0] [] h := fun _ _ => if_pos (Nat.le_of_ble_eq_true rfl)
-- PayrollRun/Books.<init>()V
theorem zr_2 : (∀ (l1 : Value) (x : Nat) (S : List Value) (h : zH), rn 2 0 [.ref x, l1] S h = rn 2 1 [.ref x, l1] (.ref x :: S) h) ∧
  (∀ (l0 l1 : Value) (o : Nat) (S : List Value) (h : zH), rn 2 1 [l0, l1] (.ref o :: S) h = if zsum S ≤ 8 then rn 2 4 [l0, l1] S h else none) ∧
  (∀ (l1 : Value) (x : Nat) (S : List Value) (h : zH), rn 2 4 [.ref x, l1] S h = rn 2 5 [.ref x, l1] (.ref x :: S) h) ∧
  (∀ (l0 l1 : Value) (S : List Value) (h : zH), rn 2 5 [l0, l1] S h = rn 2 6 [l0, l1] (.int (nI 3) :: S) h) ∧
  (∀ (l0 l1 : Value) (x : Int32) (S : List Value) (h : zH), rn 2 6 [l0, l1] (.int x :: S) h = mkA x (rn 2 9 [l0, l1] (.ref (100 + h.1) :: S) (znew h (.inl (4, x.toNatClampNeg, .inr (.inr (.inr (.inr fun _ => none))))) x.toNatClampNeg))) ∧
  (∀ (l0 l1 : Value) (a : Nat) (v : Value) (S : List Value) (h : zH), rn 2 9 [l0, l1] (v :: .ref a :: S) h = zpf h a 1 0 v fun h => rn 2 12 [l0, l1] S h) ∧
  (∀ (l1 : Value) (x : Nat) (S : List Value) (h : zH), rn 2 12 [.ref x, l1] S h = rn 2 13 [.ref x, l1] (.ref x :: S) h) ∧
  (∀ (l0 l1 : Value) (S : List Value) (h : zH), rn 2 13 [l0, l1] S h = rn 2 16 [l0, l1] (.ref (100 + h.1) :: S) (znew h (.inr (6, [.null, .null, .null, .null, .int 0])) 5)) ∧
  (∀ (l0 l1 : Value) (v : Value) (S : List Value) (h : zH), rn 2 16 [l0, l1] (v :: S) h = c1 v (rn 2 17 [l0, l1] (v :: v :: S) h)) ∧
  (∀ (l0 l1 : Value) (o : Nat) (S : List Value) (h : zH), rn 2 17 [l0, l1] (.ref o :: S) h = if zsum S ≤ 8 then zcall (ev 3 [.ref o] h) (fun v h => rn 2 20 [l0, l1] (zpush v S) h) else none) ∧
  (∀ (l0 l1 : Value) (a : Nat) (v : Value) (S : List Value) (h : zH), rn 2 20 [l0, l1] (v :: .ref a :: S) h = zpf h a 1 1 v fun h => rn 2 23 [l0, l1] S h) ∧
  (∀ (l1 : Value) (x : Nat) (S : List Value) (h : zH), rn 2 23 [.ref x, l1] S h = rn 2 24 [.ref x, l1] (.ref x :: S) h) ∧
  (∀ (l0 l1 : Value) (S : List Value) (h : zH), rn 2 24 [l0, l1] S h = rn 2 25 [l0, l1] (.int (nI 0) :: S) h) ∧
  (∀ (l0 l1 : Value) (a : Nat) (v : Value) (S : List Value) (h : zH), rn 2 25 [l0, l1] (v :: .ref a :: S) h = zpf h a 1 2 v fun h => rn 2 28 [l0, l1] S h) ∧
  (∀ (l1 : Value) (x : Nat) (S : List Value) (h : zH), rn 2 28 [.ref x, l1] S h = rn 2 29 [.ref x, l1] (.ref x :: S) h) ∧
  (∀ (l0 l1 : Value) (S : List Value) (h : zH), rn 2 29 [l0, l1] S h = rn 2 30 [l0, l1] (.int (nI 0) :: S) h) ∧
  (∀ (l0 l1 : Value) (a : Nat) (v : Value) (S : List Value) (h : zH), rn 2 30 [l0, l1] (v :: .ref a :: S) h = zpf h a 1 3 v fun h => rn 2 33 [l0, l1] S h) ∧
  (∀ (l1 : Value) (x : Nat) (S : List Value) (h : zH), rn 2 33 [.ref x, l1] S h = rn 2 34 [.ref x, l1] (.ref x :: S) h) ∧
  (∀ (l0 l1 : Value) (S : List Value) (h : zH), rn 2 34 [l0, l1] S h = rn 2 35 [l0, l1] (.int (nI 0) :: S) h) ∧
  (∀ (l0 l1 : Value) (a : Nat) (v : Value) (S : List Value) (h : zH), rn 2 35 [l0, l1] (v :: .ref a :: S) h = zpf h a 1 4 v fun h => rn 2 38 [l0, l1] S h) ∧
  (∀ (l0 l1 : Value) (S : List Value) (h : zH), rn 2 38 [l0, l1] S h = rn 2 39 [l0, l1] (.int (nI 0) :: S) h) ∧
  (∀ (l0 l1 : Value) (x : Int32) (S : List Value) (h : zH), rn 2 39 [l0, l1] (.int x :: S) h = nl l0 (rn 2 40 [l0, .int x] S h)) ∧
  (∀ (l0 l1 : Value) (S : List Value) (h : zH), rn 2 41 [l0, l1] S h = rn 2 42 [l0, l1] (.int (nI 3) :: S) h) ∧
  (∀ (l0 l1 : Value) (x : Int32) (y : Int32) (S : List Value) (h : zH), rn 2 42 [l0, l1] (.int y :: .int x :: S) h = if y ≤ x then rn 2 64 [l0, l1] S h else rn 2 45 [l0, l1] S h) ∧
  (∀ (l1 : Value) (x : Nat) (S : List Value) (h : zH), rn 2 45 [.ref x, l1] S h = rn 2 46 [.ref x, l1] (.ref x :: S) h) ∧
  (∀ (l0 l1 : Value) (a : Nat) (S : List Value) (h : zH), rn 2 46 [l0, l1] (.ref a :: S) h = zgf h a 1 0 fun v => rn 2 49 [l0, l1] (v :: S) h) ∧
  (∀ (l0 : Value) (x : Int32) (S : List Value) (h : zH), rn 2 49 [l0, .int x] S h = rn 2 50 [l0, .int x] (.int x :: S) h) ∧
  (∀ (l0 l1 : Value) (S : List Value) (h : zH), rn 2 50 [l0, l1] S h = rn 2 53 [l0, l1] (.ref (100 + h.1) :: S) (znew h (.inr (10, [.null, .null, .null, .null, .null, .int 0, .long 0])) 7)) ∧
  (∀ (l0 l1 : Value) (v : Value) (S : List Value) (h : zH), rn 2 53 [l0, l1] (v :: S) h = c1 v (rn 2 54 [l0, l1] (v :: v :: S) h)) ∧
  (∀ (l0 l1 : Value) (o : Nat) (S : List Value) (h : zH), rn 2 54 [l0, l1] (.ref o :: S) h = if zsum S ≤ 8 then zcall (ev 4 [.ref o] h) (fun v h => rn 2 57 [l0, l1] (zpush v S) h) else none) ∧
  (∀ (l0 l1 : Value) (a : Nat) (j : Int32) (v : Value) (S : List Value) (h : zH), rn 2 57 [l0, l1] (v :: .int j :: .ref a :: S) h = zsq h a j v fun h => rn 2 58 [l0, l1] S h) ∧
  (∀ (l0 : Value) (x : Int32) (S : List Value) (h : zH), rn 2 58 [l0, .int x] S h = nl l0 (rn 2 61 [l0, .int (x + (nI 1))] S h)) ∧
  (∀ (l0 l1 : Value) (S : List Value) (h : zH), rn 2 61 [l0, l1] S h = rn 2 40 [l0, l1] S h) ∧
  (∀ (l0 l1 : Value) (h : zH), rn 2 64 [l0, l1] [] h = some (none, h)) := ⟨fun _ _ _ _ => r_aload_nr (show zdec 2 0 = some (.aload_n 0, 1) by decide +kernel) rfl rfl,
  fun _ _ _ _ _ => r_cO (show zdec 2 1 = some (.invokespecial 3, 3) by decide +kernel) (show zst.lookup (2 * zKEY + 3) = some (7, 1, 0, 0) by decide +kernel) rfl,
  fun _ _ _ _ => r_aload_nr (show zdec 2 4 = some (.aload_n 0, 1) by decide +kernel) rfl rfl,
  fun _ _ _ _ => r_iconst (show zdec 2 5 = some (.iconst 3, 1) by decide +kernel) rfl rfl,
  fun _ _ _ _ _ => r_anewa (show zdec 2 6 = some (.anewarray 9, 3) by decide +kernel) (show zat.lookup (2 * zKEY + 9) = some 4 by decide +kernel) rfl,
  fun _ _ _ _ _ _ => r_putfield (show zdec 2 9 = some (.putfield 11, 3) by decide +kernel) (show zft.lookup (2 * zKEY + 11) = some (1, 0) by decide +kernel) (by decide +kernel) rfl,
  fun _ _ _ _ => r_aload_nr (show zdec 2 12 = some (.aload_n 0, 1) by decide +kernel) rfl rfl,
  fun _ _ _ _ => r_new (show zdec 2 13 = some (.new 17, 3) by decide +kernel) (show znt.lookup (2 * zKEY + 17) = some 6 by decide +kernel) (by decide +kernel) rfl rfl,
  fun _ _ _ _ _ => r_dup (show zdec 2 16 = some (.dup, 1) by decide +kernel) rfl,
  fun _ _ _ _ _ => r_cI [] rfl (show zdec 2 17 = some (.invokespecial 19, 3) by decide +kernel) (show zst.lookup (2 * zKEY + 19) = some (4, 3, 0, 0) by decide +kernel) (by decide) rfl,
  fun _ _ _ _ _ _ => r_putfield (show zdec 2 20 = some (.putfield 20, 3) by decide +kernel) (show zft.lookup (2 * zKEY + 20) = some (1, 1) by decide +kernel) (by decide +kernel) rfl,
  fun _ _ _ _ => r_aload_nr (show zdec 2 23 = some (.aload_n 0, 1) by decide +kernel) rfl rfl,
  fun _ _ _ _ => r_iconst (show zdec 2 24 = some (.iconst 0, 1) by decide +kernel) rfl rfl,
  fun _ _ _ _ _ _ => r_putfield (show zdec 2 25 = some (.putfield 24, 3) by decide +kernel) (show zft.lookup (2 * zKEY + 24) = some (1, 2) by decide +kernel) (by decide +kernel) rfl,
  fun _ _ _ _ => r_aload_nr (show zdec 2 28 = some (.aload_n 0, 1) by decide +kernel) rfl rfl,
  fun _ _ _ _ => r_iconst (show zdec 2 29 = some (.iconst 0, 1) by decide +kernel) rfl rfl,
  fun _ _ _ _ _ _ => r_putfield (show zdec 2 30 = some (.putfield 28, 3) by decide +kernel) (show zft.lookup (2 * zKEY + 28) = some (1, 3) by decide +kernel) (by decide +kernel) rfl,
  fun _ _ _ _ => r_aload_nr (show zdec 2 33 = some (.aload_n 0, 1) by decide +kernel) rfl rfl,
  fun _ _ _ _ => r_iconst (show zdec 2 34 = some (.iconst 0, 1) by decide +kernel) rfl rfl,
  fun _ _ _ _ _ _ => r_putfield (show zdec 2 35 = some (.putfield 31, 3) by decide +kernel) (show zft.lookup (2 * zKEY + 31) = some (1, 4) by decide +kernel) (by decide +kernel) rfl,
  fun _ _ _ _ => r_iconst (show zdec 2 38 = some (.iconst 0, 1) by decide +kernel) rfl rfl,
  fun _ _ _ _ _ => r_istore_n (show zdec 2 39 = some (.istore_n 1, 1) by decide +kernel) rfl rfl (Nat.le_of_ble_eq_true rfl) rfl rfl,
  fun _ _ _ _ => r_iconst (show zdec 2 41 = some (.iconst 3, 1) by decide +kernel) rfl rfl,
  fun _ _ _ _ _ _ => r_icmpge (show zdec 2 42 = some (.if_icmp .ge 22, 3) by decide +kernel) rfl rfl,
  fun _ _ _ _ => r_aload_nr (show zdec 2 45 = some (.aload_n 0, 1) by decide +kernel) rfl rfl,
  fun _ _ _ _ _ => r_getfield (show zdec 2 46 = some (.getfield 11, 3) by decide +kernel) (show zft.lookup (2 * zKEY + 11) = some (1, 0) by decide +kernel) rfl,
  fun _ _ _ _ => r_iload_n (show zdec 2 49 = some (.iload_n 1, 1) by decide +kernel) rfl rfl,
  fun _ _ _ _ => r_new (show zdec 2 50 = some (.new 9, 3) by decide +kernel) (show znt.lookup (2 * zKEY + 9) = some 10 by decide +kernel) (by decide +kernel) rfl rfl,
  fun _ _ _ _ _ => r_dup (show zdec 2 53 = some (.dup, 1) by decide +kernel) rfl,
  fun _ _ _ _ _ => r_cI [] rfl (show zdec 2 54 = some (.invokespecial 35, 3) by decide +kernel) (show zst.lookup (2 * zKEY + 35) = some (2, 4, 0, 0) by decide +kernel) (by decide) rfl,
  fun _ _ _ _ _ _ _ => r_aast (show zdec 2 57 = some (.aastore, 1) by decide +kernel) rfl,
  fun _ _ _ _ => r_iinc (show zdec 2 58 = some (.iinc 1 1, 3) by decide +kernel) rfl rfl rfl (Nat.le_of_ble_eq_true rfl) rfl rfl,
  fun _ _ _ _ => r_goto (show zdec 2 61 = some (.goto (-21), 3) by decide +kernel) rfl,
  fun _ _ _ => r_vret (show zdec 2 64 = some (.return_, 1) by decide +kernel) (by decide +kernel)⟩
theorem zl_2_40 : ∀ (l0 : Value) (x : Int32) (S : List Value) (h : zH), rn 2 40 [l0, .int x] S h = rn 2 41 [l0, .int x] (.int x :: S) h := fun _ _ _ _ => r_iload_n (show zdec 2 40 = some (.iload_n 1, 1) by decide +kernel) rfl rfl
theorem ze_2 : ∀ (a0 : Nat) (h : zH), ev 2 [.ref a0] h = rn 2 0 [.ref a0, .float 0] [] h := fun _ _ => if_pos (Nat.le_of_ble_eq_true rfl)
-- PayrollRun.salary(III)I
theorem zr_16 : (∀ (l1 l2 l3 : Value) (x : Nat) (S : List Value) (h : zH), rn 16 0 [.ref x, l1, l2, l3] S h = rn 16 1 [.ref x, l1, l2, l3] (.ref x :: S) h) ∧
  (∀ (l0 l1 l2 l3 : Value) (a : Nat) (S : List Value) (h : zH), rn 16 1 [l0, l1, l2, l3] (.ref a :: S) h = zgf h a 11 1 fun v => rn 16 4 [l0, l1, l2, l3] (v :: S) h) ∧
  (∀ (l1 l2 l3 : Value) (x : Nat) (S : List Value) (h : zH), rn 16 4 [.ref x, l1, l2, l3] S h = rn 16 5 [.ref x, l1, l2, l3] (.ref x :: S) h) ∧
  (∀ (l0 l1 l2 l3 : Value) (a : Nat) (S : List Value) (h : zH), rn 16 5 [l0, l1, l2, l3] (.ref a :: S) h = zgf h a 11 0 fun v => rn 16 8 [l0, l1, l2, l3] (v :: S) h) ∧
  (∀ (l0 l1 l2 l3 : Value) (o : Nat) (v0 : Value) (S : List Value) (h : zH), rn 16 8 [l0, l1, l2, l3] (v0 :: .ref o :: S) h = if zkd h o = 5 ∧ zsum S ≤ 8 then zcall (ev 17 [.ref o, v0] h) (fun v h => rn 16 11 [l0, l1, l2, l3] (zpush v S) h) else none) ∧
  (∀ (l1 l2 l3 : Value) (x : Nat) (S : List Value) (h : zH), rn 16 11 [.ref x, l1, l2, l3] S h = rn 16 12 [.ref x, l1, l2, l3] (.ref x :: S) h) ∧
  (∀ (l1 l2 l3 : Value) (x : Nat) (S : List Value) (h : zH), rn 16 12 [.ref x, l1, l2, l3] S h = rn 16 13 [.ref x, l1, l2, l3] (.ref x :: S) h) ∧
  (∀ (l0 l1 l2 l3 : Value) (a : Nat) (S : List Value) (h : zH), rn 16 13 [l0, l1, l2, l3] (.ref a :: S) h = zgf h a 11 0 fun v => rn 16 16 [l0, l1, l2, l3] (v :: S) h) ∧
  (∀ (l0 l2 l3 : Value) (x : Int32) (S : List Value) (h : zH), rn 16 16 [l0, .int x, l2, l3] S h = rn 16 17 [l0, .int x, l2, l3] (.int x :: S) h) ∧
  (∀ (l0 l1 l3 : Value) (x : Int32) (S : List Value) (h : zH), rn 16 17 [l0, l1, .int x, l3] S h = rn 16 18 [l0, l1, .int x, l3] (.int x :: S) h) ∧
  (∀ (l0 l1 l2 : Value) (x : Int32) (S : List Value) (h : zH), rn 16 18 [l0, l1, l2, .int x] S h = rn 16 19 [l0, l1, l2, .int x] (.int x :: S) h) ∧
  (∀ (l0 l1 l2 l3 : Value) (o : Nat) (v0 : Value) (v1 : Value) (v2 : Value) (S : List Value) (h : zH), rn 16 19 [l0, l1, l2, l3] (v2 :: v1 :: v0 :: .ref o :: S) h = if zkd h o = 1 ∧ zsum S ≤ 8 then zcall (ev 22 [.ref o, v0, v1, v2] h) (fun v h => rn 16 22 [l0, l1, l2, l3] (zpush v S) h) else none) ∧
  (∀ (l0 l1 l2 l3 : Value) (o : Nat) (v0 : Value) (S : List Value) (h : zH), rn 16 22 [l0, l1, l2, l3] (v0 :: .ref o :: S) h = if zkd h o = 11 ∧ zsum S ≤ 8 then zcall (ev 26 [.ref o, v0] h) (fun v h => rn 16 25 [l0, l1, l2, l3] (zpush v S) h) else none) ∧
  (∀ (l0 l1 l2 l3 : Value) (x : Int32) (h : zH), rn 16 25 [l0, l1, l2, l3] [.int x] h = some (some (.int x), h)) := ⟨fun _ _ _ _ _ _ => r_aload_nr (show zdec 16 0 = some (.aload_n 0, 1) by decide +kernel) rfl rfl,
  fun _ _ _ _ _ _ _ => r_getfield (show zdec 16 1 = some (.getfield 19, 3) by decide +kernel) (show zft.lookup (16 * zKEY + 19) = some (11, 1) by decide +kernel) rfl,
  fun _ _ _ _ _ _ => r_aload_nr (show zdec 16 4 = some (.aload_n 0, 1) by decide +kernel) rfl rfl,
  fun _ _ _ _ _ _ _ => r_getfield (show zdec 16 5 = some (.getfield 10, 3) by decide +kernel) (show zft.lookup (16 * zKEY + 10) = some (11, 0) by decide +kernel) rfl,
  fun _ _ _ _ _ _ _ _ => r_cV [_] rfl (show zdec 16 8 = some (.invokevirtual 58, 3) by decide +kernel) (show zst.lookup (16 * zKEY + 58) = some (1, 17, 1, 5) by decide +kernel) (by decide) rfl,
  fun _ _ _ _ _ _ => r_aload_nr (show zdec 16 11 = some (.aload_n 0, 1) by decide +kernel) rfl rfl,
  fun _ _ _ _ _ _ => r_aload_nr (show zdec 16 12 = some (.aload_n 0, 1) by decide +kernel) rfl rfl,
  fun _ _ _ _ _ _ _ => r_getfield (show zdec 16 13 = some (.getfield 10, 3) by decide +kernel) (show zft.lookup (16 * zKEY + 10) = some (11, 0) by decide +kernel) rfl,
  fun _ _ _ _ _ _ => r_iload_n (show zdec 16 16 = some (.iload_n 1, 1) by decide +kernel) rfl rfl,
  fun _ _ _ _ _ _ => r_iload_n (show zdec 16 17 = some (.iload_n 2, 1) by decide +kernel) rfl rfl,
  fun _ _ _ _ _ _ => r_iload_n (show zdec 16 18 = some (.iload_n 3, 1) by decide +kernel) rfl rfl,
  fun _ _ _ _ _ _ _ _ _ _ => r_cV [_, _, _] rfl (show zdec 16 19 = some (.invokevirtual 62, 3) by decide +kernel) (show zst.lookup (16 * zKEY + 62) = some (1, 22, 3, 1) by decide +kernel) (by decide) rfl,
  fun _ _ _ _ _ _ _ _ => r_cV [_] rfl (show zdec 16 22 = some (.invokevirtual 66, 3) by decide +kernel) (show zst.lookup (16 * zKEY + 66) = some (1, 26, 1, 11) by decide +kernel) (by decide) rfl,
  fun _ _ _ _ _ _ => r_ireti (show zdec 16 25 = some (.ireturn, 1) by decide +kernel) (by decide +kernel)⟩
theorem ze_16 : ∀ (a0 : Nat) (a1 : Int32) (a2 : Int32) (a3 : Int32) (h : zH), ev 16 [.ref a0, .int a1, .int a2, .int a3] h = rn 16 0 [.ref a0, .int a1, .int a2, .int a3] [] h := fun _ _ _ _ _ => if_pos (Nat.le_of_ble_eq_true rfl)
-- PayrollRun/Books.copyFrom(LPayrollRun/Books;)V
theorem zr_18 : (∀ (l0 l1 l2 : Value) (S : List Value) (h : zH), rn 18 0 [l0, l1, l2] S h = rn 18 1 [l0, l1, l2] (.int (nI 0) :: S) h) ∧
  (∀ (l0 l1 l2 : Value) (x : Int32) (S : List Value) (h : zH), rn 18 1 [l0, l1, l2] (.int x :: S) h = nl l1 (rn 18 2 [l0, l1, .int x] S h)) ∧
  (∀ (l0 l1 l2 : Value) (S : List Value) (h : zH), rn 18 3 [l0, l1, l2] S h = rn 18 4 [l0, l1, l2] (.int (nI 3) :: S) h) ∧
  (∀ (l0 l1 l2 : Value) (x : Int32) (y : Int32) (S : List Value) (h : zH), rn 18 4 [l0, l1, l2] (.int y :: .int x :: S) h = if y ≤ x then rn 18 28 [l0, l1, l2] S h else rn 18 7 [l0, l1, l2] S h) ∧
  (∀ (l1 l2 : Value) (x : Nat) (S : List Value) (h : zH), rn 18 7 [.ref x, l1, l2] S h = rn 18 8 [.ref x, l1, l2] (.ref x :: S) h) ∧
  (∀ (l0 l1 l2 : Value) (a : Nat) (S : List Value) (h : zH), rn 18 8 [l0, l1, l2] (.ref a :: S) h = zgf h a 1 0 fun v => rn 18 11 [l0, l1, l2] (v :: S) h) ∧
  (∀ (l0 l1 : Value) (x : Int32) (S : List Value) (h : zH), rn 18 11 [l0, l1, .int x] S h = rn 18 12 [l0, l1, .int x] (.int x :: S) h) ∧
  (∀ (l0 l1 l2 : Value) (a : Nat) (j : Int32) (S : List Value) (h : zH), rn 18 12 [l0, l1, l2] (.int j :: .ref a :: S) h = zlq h a j fun x => rn 18 13 [l0, l1, l2] (va_rf x :: S) h) ∧
  (∀ (l0 l1 l2 : Value) (S : List Value) (h : zH), rn 18 13 [l0, l1, l2] S h = ldA l1 (rn 18 14 [l0, l1, l2] (l1 :: S) h)) ∧
  (∀ (l0 l1 l2 : Value) (a : Nat) (S : List Value) (h : zH), rn 18 14 [l0, l1, l2] (.ref a :: S) h = zgf h a 1 0 fun v => rn 18 17 [l0, l1, l2] (v :: S) h) ∧
  (∀ (l0 l1 : Value) (x : Int32) (S : List Value) (h : zH), rn 18 17 [l0, l1, .int x] S h = rn 18 18 [l0, l1, .int x] (.int x :: S) h) ∧
  (∀ (l0 l1 l2 : Value) (a : Nat) (j : Int32) (S : List Value) (h : zH), rn 18 18 [l0, l1, l2] (.int j :: .ref a :: S) h = zlq h a j fun x => rn 18 19 [l0, l1, l2] (va_rf x :: S) h) ∧
  (∀ (l0 l1 l2 : Value) (o : Nat) (v0 : Value) (S : List Value) (h : zH), rn 18 19 [l0, l1, l2] (v0 :: .ref o :: S) h = if zkd h o = 10 ∧ zsum S ≤ 8 then zcall (ev 19 [.ref o, v0] h) (fun v h => rn 18 22 [l0, l1, l2] (zpush v S) h) else none) ∧
  (∀ (l0 l1 : Value) (x : Int32) (S : List Value) (h : zH), rn 18 22 [l0, l1, .int x] S h = nl l1 (rn 18 25 [l0, l1, .int (x + (nI 1))] S h)) ∧
  (∀ (l0 l1 l2 : Value) (S : List Value) (h : zH), rn 18 25 [l0, l1, l2] S h = rn 18 2 [l0, l1, l2] S h) ∧
  (∀ (l1 l2 : Value) (x : Nat) (S : List Value) (h : zH), rn 18 28 [.ref x, l1, l2] S h = rn 18 29 [.ref x, l1, l2] (.ref x :: S) h) ∧
  (∀ (l0 l1 l2 : Value) (a : Nat) (S : List Value) (h : zH), rn 18 29 [l0, l1, l2] (.ref a :: S) h = zgf h a 1 1 fun v => rn 18 32 [l0, l1, l2] (v :: S) h) ∧
  (∀ (l0 l1 l2 : Value) (S : List Value) (h : zH), rn 18 32 [l0, l1, l2] S h = ldA l1 (rn 18 33 [l0, l1, l2] (l1 :: S) h)) ∧
  (∀ (l0 l1 l2 : Value) (a : Nat) (S : List Value) (h : zH), rn 18 33 [l0, l1, l2] (.ref a :: S) h = zgf h a 1 1 fun v => rn 18 36 [l0, l1, l2] (v :: S) h) ∧
  (∀ (l0 l1 l2 : Value) (o : Nat) (v0 : Value) (S : List Value) (h : zH), rn 18 36 [l0, l1, l2] (v0 :: .ref o :: S) h = if zkd h o = 6 ∧ zsum S ≤ 8 then zcall (ev 21 [.ref o, v0] h) (fun v h => rn 18 39 [l0, l1, l2] (zpush v S) h) else none) ∧
  (∀ (l1 l2 : Value) (x : Nat) (S : List Value) (h : zH), rn 18 39 [.ref x, l1, l2] S h = rn 18 40 [.ref x, l1, l2] (.ref x :: S) h) ∧
  (∀ (l0 l1 l2 : Value) (S : List Value) (h : zH), rn 18 40 [l0, l1, l2] S h = ldA l1 (rn 18 41 [l0, l1, l2] (l1 :: S) h)) ∧
  (∀ (l0 l1 l2 : Value) (a : Nat) (S : List Value) (h : zH), rn 18 41 [l0, l1, l2] (.ref a :: S) h = zgf h a 1 2 fun v => rn 18 44 [l0, l1, l2] (v :: S) h) ∧
  (∀ (l0 l1 l2 : Value) (a : Nat) (v : Value) (S : List Value) (h : zH), rn 18 44 [l0, l1, l2] (v :: .ref a :: S) h = zpf h a 1 2 v fun h => rn 18 47 [l0, l1, l2] S h) ∧
  (∀ (l1 l2 : Value) (x : Nat) (S : List Value) (h : zH), rn 18 47 [.ref x, l1, l2] S h = rn 18 48 [.ref x, l1, l2] (.ref x :: S) h) ∧
  (∀ (l0 l1 l2 : Value) (S : List Value) (h : zH), rn 18 48 [l0, l1, l2] S h = ldA l1 (rn 18 49 [l0, l1, l2] (l1 :: S) h)) ∧
  (∀ (l0 l1 l2 : Value) (a : Nat) (S : List Value) (h : zH), rn 18 49 [l0, l1, l2] (.ref a :: S) h = zgf h a 1 3 fun v => rn 18 52 [l0, l1, l2] (v :: S) h) ∧
  (∀ (l0 l1 l2 : Value) (a : Nat) (v : Value) (S : List Value) (h : zH), rn 18 52 [l0, l1, l2] (v :: .ref a :: S) h = zpf h a 1 3 v fun h => rn 18 55 [l0, l1, l2] S h) ∧
  (∀ (l1 l2 : Value) (x : Nat) (S : List Value) (h : zH), rn 18 55 [.ref x, l1, l2] S h = rn 18 56 [.ref x, l1, l2] (.ref x :: S) h) ∧
  (∀ (l0 l1 l2 : Value) (S : List Value) (h : zH), rn 18 56 [l0, l1, l2] S h = ldA l1 (rn 18 57 [l0, l1, l2] (l1 :: S) h)) ∧
  (∀ (l0 l1 l2 : Value) (a : Nat) (S : List Value) (h : zH), rn 18 57 [l0, l1, l2] (.ref a :: S) h = zgf h a 1 4 fun v => rn 18 60 [l0, l1, l2] (v :: S) h) ∧
  (∀ (l0 l1 l2 : Value) (a : Nat) (v : Value) (S : List Value) (h : zH), rn 18 60 [l0, l1, l2] (v :: .ref a :: S) h = zpf h a 1 4 v fun h => rn 18 63 [l0, l1, l2] S h) ∧
  (∀ (l0 l1 l2 : Value) (h : zH), rn 18 63 [l0, l1, l2] [] h = some (none, h)) := ⟨fun _ _ _ _ _ => r_iconst (show zdec 18 0 = some (.iconst 0, 1) by decide +kernel) rfl rfl,
  fun _ _ _ _ _ _ => r_istore_n (show zdec 18 1 = some (.istore_n 2, 1) by decide +kernel) rfl rfl (Nat.le_of_ble_eq_true rfl) rfl rfl,
  fun _ _ _ _ _ => r_iconst (show zdec 18 3 = some (.iconst 3, 1) by decide +kernel) rfl rfl,
  fun _ _ _ _ _ _ _ => r_icmpge (show zdec 18 4 = some (.if_icmp .ge 24, 3) by decide +kernel) rfl rfl,
  fun _ _ _ _ _ => r_aload_nr (show zdec 18 7 = some (.aload_n 0, 1) by decide +kernel) rfl rfl,
  fun _ _ _ _ _ _ => r_getfield (show zdec 18 8 = some (.getfield 11, 3) by decide +kernel) (show zft.lookup (18 * zKEY + 11) = some (1, 0) by decide +kernel) rfl,
  fun _ _ _ _ _ => r_iload_n (show zdec 18 11 = some (.iload_n 2, 1) by decide +kernel) rfl rfl,
  fun _ _ _ _ _ _ _ => r_aald (show zdec 18 12 = some (.aaload, 1) by decide +kernel) rfl,
  fun _ _ _ _ _ => r_aload_n (show zdec 18 13 = some (.aload_n 1, 1) by decide +kernel) rfl rfl,
  fun _ _ _ _ _ _ => r_getfield (show zdec 18 14 = some (.getfield 11, 3) by decide +kernel) (show zft.lookup (18 * zKEY + 11) = some (1, 0) by decide +kernel) rfl,
  fun _ _ _ _ _ => r_iload_n (show zdec 18 17 = some (.iload_n 2, 1) by decide +kernel) rfl rfl,
  fun _ _ _ _ _ _ _ => r_aald (show zdec 18 18 = some (.aaload, 1) by decide +kernel) rfl,
  fun _ _ _ _ _ _ _ => r_cV [_] rfl (show zdec 18 19 = some (.invokevirtual 36, 3) by decide +kernel) (show zst.lookup (18 * zKEY + 36) = some (1, 19, 1, 10) by decide +kernel) (by decide) rfl,
  fun _ _ _ _ _ => r_iinc (show zdec 18 22 = some (.iinc 2 1, 3) by decide +kernel) rfl rfl rfl (Nat.le_of_ble_eq_true rfl) rfl rfl,
  fun _ _ _ _ _ => r_goto (show zdec 18 25 = some (.goto (-23), 3) by decide +kernel) rfl,
  fun _ _ _ _ _ => r_aload_nr (show zdec 18 28 = some (.aload_n 0, 1) by decide +kernel) rfl rfl,
  fun _ _ _ _ _ _ => r_getfield (show zdec 18 29 = some (.getfield 20, 3) by decide +kernel) (show zft.lookup (18 * zKEY + 20) = some (1, 1) by decide +kernel) rfl,
  fun _ _ _ _ _ => r_aload_n (show zdec 18 32 = some (.aload_n 1, 1) by decide +kernel) rfl rfl,
  fun _ _ _ _ _ _ => r_getfield (show zdec 18 33 = some (.getfield 20, 3) by decide +kernel) (show zft.lookup (18 * zKEY + 20) = some (1, 1) by decide +kernel) rfl,
  fun _ _ _ _ _ _ _ => r_cV [_] rfl (show zdec 18 36 = some (.invokevirtual 40, 3) by decide +kernel) (show zst.lookup (18 * zKEY + 40) = some (1, 21, 1, 6) by decide +kernel) (by decide) rfl,
  fun _ _ _ _ _ => r_aload_nr (show zdec 18 39 = some (.aload_n 0, 1) by decide +kernel) rfl rfl,
  fun _ _ _ _ _ => r_aload_n (show zdec 18 40 = some (.aload_n 1, 1) by decide +kernel) rfl rfl,
  fun _ _ _ _ _ _ => r_getfield (show zdec 18 41 = some (.getfield 24, 3) by decide +kernel) (show zft.lookup (18 * zKEY + 24) = some (1, 2) by decide +kernel) rfl,
  fun _ _ _ _ _ _ _ => r_putfield (show zdec 18 44 = some (.putfield 24, 3) by decide +kernel) (show zft.lookup (18 * zKEY + 24) = some (1, 2) by decide +kernel) (by decide +kernel) rfl,
  fun _ _ _ _ _ => r_aload_nr (show zdec 18 47 = some (.aload_n 0, 1) by decide +kernel) rfl rfl,
  fun _ _ _ _ _ => r_aload_n (show zdec 18 48 = some (.aload_n 1, 1) by decide +kernel) rfl rfl,
  fun _ _ _ _ _ _ => r_getfield (show zdec 18 49 = some (.getfield 28, 3) by decide +kernel) (show zft.lookup (18 * zKEY + 28) = some (1, 3) by decide +kernel) rfl,
  fun _ _ _ _ _ _ _ => r_putfield (show zdec 18 52 = some (.putfield 28, 3) by decide +kernel) (show zft.lookup (18 * zKEY + 28) = some (1, 3) by decide +kernel) (by decide +kernel) rfl,
  fun _ _ _ _ _ => r_aload_nr (show zdec 18 55 = some (.aload_n 0, 1) by decide +kernel) rfl rfl,
  fun _ _ _ _ _ => r_aload_n (show zdec 18 56 = some (.aload_n 1, 1) by decide +kernel) rfl rfl,
  fun _ _ _ _ _ _ => r_getfield (show zdec 18 57 = some (.getfield 31, 3) by decide +kernel) (show zft.lookup (18 * zKEY + 31) = some (1, 4) by decide +kernel) rfl,
  fun _ _ _ _ _ _ _ => r_putfield (show zdec 18 60 = some (.putfield 31, 3) by decide +kernel) (show zft.lookup (18 * zKEY + 31) = some (1, 4) by decide +kernel) (by decide +kernel) rfl,
  fun _ _ _ _ => r_vret (show zdec 18 63 = some (.return_, 1) by decide +kernel) (by decide +kernel)⟩
theorem zl_18_2 : ∀ (l0 l1 : Value) (x : Int32) (S : List Value) (h : zH), rn 18 2 [l0, l1, .int x] S h = rn 18 3 [l0, l1, .int x] (.int x :: S) h := fun _ _ _ _ _ => r_iload_n (show zdec 18 2 = some (.iload_n 2, 1) by decide +kernel) rfl rfl
theorem ze_18 : ∀ (a0 : Nat) (a1 : Nat) (h : zH), ev 18 [.ref a0, .ref a1] h = rn 18 0 [.ref a0, .ref a1, .float 0] [] h := fun _ _ _ => if_pos (Nat.le_of_ble_eq_true rfl)
-- PayrollRun/Books.changeSalary(III)I
theorem zr_22 : (∀ (l0 l2 l3 l4 l5 : Value) (x : Int32) (S : List Value) (h : zH), rn 22 0 [l0, .int x, l2, l3, l4, l5] S h = rn 22 1 [l0, .int x, l2, l3, l4, l5] (.int x :: S) h) ∧
  (∀ (l0 l1 l2 l3 l4 l5 : Value) (v0 : Value) (S : List Value) (h : zH), rn 22 1 [l0, l1, l2, l3, l4, l5] (v0 :: S) h = if zsum S ≤ 8 then zcall (ev 23 [v0] h) (fun v h => rn 22 4 [l0, l1, l2, l3, l4, l5] (zpush v S) h) else none) ∧
  (∀ (l0 l1 l2 l3 l4 l5 : Value) (x : Int32) (S : List Value) (h : zH), rn 22 4 [l0, l1, l2, l3, l4, l5] (.int x :: S) h = if x = nI 0 then rn 22 25 [l0, l1, l2, l3, l4, l5] S h else rn 22 7 [l0, l1, l2, l3, l4, l5] S h) ∧
  (∀ (l0 l1 l3 l4 l5 : Value) (x : Int32) (S : List Value) (h : zH), rn 22 7 [l0, l1, .int x, l3, l4, l5] S h = rn 22 8 [l0, l1, .int x, l3, l4, l5] (.int x :: S) h) ∧
  (∀ (l0 l1 l2 l3 l4 l5 : Value) (v0 : Value) (S : List Value) (h : zH), rn 22 8 [l0, l1, l2, l3, l4, l5] (v0 :: S) h = if zsum S ≤ 8 then zcall (ev 25 [v0] h) (fun v h => rn 22 11 [l0, l1, l2, l3, l4, l5] (zpush v S) h) else none) ∧
  (∀ (l0 l1 l2 l3 l4 l5 : Value) (x : Int32) (S : List Value) (h : zH), rn 22 11 [l0, l1, l2, l3, l4, l5] (.int x :: S) h = if x = nI 0 then rn 22 25 [l0, l1, l2, l3, l4, l5] S h else rn 22 14 [l0, l1, l2, l3, l4, l5] S h) ∧
  (∀ (l0 l1 l2 l4 l5 : Value) (x : Int32) (S : List Value) (h : zH), rn 22 14 [l0, l1, l2, .int x, l4, l5] S h = rn 22 15 [l0, l1, l2, .int x, l4, l5] (.int x :: S) h) ∧
  (∀ (l0 l1 l2 l3 l4 l5 : Value) (S : List Value) (h : zH), rn 22 15 [l0, l1, l2, l3, l4, l5] S h = rn 22 16 [l0, l1, l2, l3, l4, l5] (.int (nI 0) :: S) h) ∧
  (∀ (l0 l1 l2 l3 l4 l5 : Value) (S : List Value) (h : zH), rn 22 16 [l0, l1, l2, l3, l4, l5] S h = rn 22 19 [l0, l1, l2, l3, l4, l5] (.int (nI 9999) :: S) h) ∧
  (∀ (l0 l1 l2 l3 l4 l5 : Value) (v0 : Value) (v1 : Value) (v2 : Value) (S : List Value) (h : zH), rn 22 19 [l0, l1, l2, l3, l4, l5] (v2 :: v1 :: v0 :: S) h = if zsum S ≤ 8 then zcall (ev 24 [v0, v1, v2] h) (fun v h => rn 22 22 [l0, l1, l2, l3, l4, l5] (zpush v S) h) else none) ∧
  (∀ (l0 l1 l2 l3 l4 l5 : Value) (x : Int32) (S : List Value) (h : zH), rn 22 22 [l0, l1, l2, l3, l4, l5] (.int x :: S) h = if x = nI 0 then rn 22 25 [l0, l1, l2, l3, l4, l5] S h else rn 22 27 [l0, l1, l2, l3, l4, l5] S h) ∧
  (∀ (l0 l1 l2 l3 l4 l5 : Value) (S : List Value) (h : zH), rn 22 25 [l0, l1, l2, l3, l4, l5] S h = rn 22 26 [l0, l1, l2, l3, l4, l5] (.int (-1) :: S) h) ∧
  (∀ (l0 l1 l2 l3 l4 l5 : Value) (x : Int32) (h : zH), rn 22 26 [l0, l1, l2, l3, l4, l5] [.int x] h = some (some (.int x), h)) ∧
  (∀ (l1 l2 l3 l4 l5 : Value) (x : Nat) (S : List Value) (h : zH), rn 22 27 [.ref x, l1, l2, l3, l4, l5] S h = rn 22 28 [.ref x, l1, l2, l3, l4, l5] (.ref x :: S) h) ∧
  (∀ (l0 l1 l2 l3 l4 l5 : Value) (a : Nat) (S : List Value) (h : zH), rn 22 28 [l0, l1, l2, l3, l4, l5] (.ref a :: S) h = zgf h a 1 0 fun v => rn 22 31 [l0, l1, l2, l3, l4, l5] (v :: S) h) ∧
  (∀ (l0 l2 l3 l4 l5 : Value) (x : Int32) (S : List Value) (h : zH), rn 22 31 [l0, .int x, l2, l3, l4, l5] S h = rn 22 32 [l0, .int x, l2, l3, l4, l5] (.int x :: S) h) ∧
  (∀ (l0 l1 l2 l3 l4 l5 : Value) (a : Nat) (j : Int32) (S : List Value) (h : zH), rn 22 32 [l0, l1, l2, l3, l4, l5] (.int j :: .ref a :: S) h = zlq h a j fun x => rn 22 33 [l0, l1, l2, l3, l4, l5] (va_rf x :: S) h) ∧
  (∀ (l0 l1 l2 l3 l4 l5 : Value) (a : Nat) (S : List Value) (h : zH), rn 22 33 [l0, l1, l2, l3, l4, l5] (.ref a :: S) h = zgf h a 10 0 fun v => rn 22 36 [l0, l1, l2, l3, l4, l5] (v :: S) h) ∧
  (∀ (l0 l1 l2 l3 l4 l5 : Value) (S : List Value) (h : zH), rn 22 36 [l0, l1, l2, l3, l4, l5] S h = rn 22 37 [l0, l1, l2, l3, l4, l5] (.int (nI 0) :: S) h) ∧
  (∀ (l0 l1 l3 l4 l5 : Value) (x : Int32) (S : List Value) (h : zH), rn 22 37 [l0, l1, .int x, l3, l4, l5] S h = rn 22 38 [l0, l1, .int x, l3, l4, l5] (.int x :: S) h) ∧
  (∀ (l0 l1 l2 l3 l4 l5 : Value) (x : Int32) (y : Int32) (S : List Value) (h : zH), rn 22 38 [l0, l1, l2, l3, l4, l5] (.int y :: .int x :: S) h = rn 22 39 [l0, l1, l2, l3, l4, l5] (.int (x + y) :: S) h) ∧
  (∀ (l0 l1 l2 l3 l4 l5 : Value) (a : Nat) (j : Int32) (S : List Value) (h : zH), rn 22 39 [l0, l1, l2, l3, l4, l5] (.int j :: .ref a :: S) h = zli h a 0 j fun x => rn 22 40 [l0, l1, l2, l3, l4, l5] (.int x :: S) h) ∧
  (∀ (l0 l1 l2 l3 l4 l5 : Value) (x : Int32) (S : List Value) (h : zH), rn 22 40 [l0, l1, l2, l3, l4, l5] (.int x :: S) h = nl l3 (rn 22 42 [l0, l1, l2, l3, .int x, l5] S h)) ∧
  (∀ (l0 l1 l3 l4 l5 : Value) (x : Int32) (S : List Value) (h : zH), rn 22 42 [l0, l1, .int x, l3, l4, l5] S h = rn 22 43 [l0, l1, .int x, l3, l4, l5] (.int x :: S) h) ∧
  (∀ (l0 l1 l2 l3 l4 l5 : Value) (x : Int32) (S : List Value) (h : zH), rn 22 43 [l0, l1, l2, l3, l4, l5] (.int x :: S) h = nl l4 (rn 22 45 [l0, l1, l2, l3, l4, .int x] S h)) ∧
  (∀ (l0 l1 l2 l3 l4 l5 : Value) (S : List Value) (h : zH), rn 22 47 [l0, l1, l2, l3, l4, l5] S h = rn 22 49 [l0, l1, l2, l3, l4, l5] (.int (nI 12) :: S) h) ∧
  (∀ (l0 l1 l2 l3 l4 l5 : Value) (x : Int32) (y : Int32) (S : List Value) (h : zH), rn 22 49 [l0, l1, l2, l3, l4, l5] (.int y :: .int x :: S) h = if y ≤ x then rn 22 73 [l0, l1, l2, l3, l4, l5] S h else rn 22 52 [l0, l1, l2, l3, l4, l5] S h) ∧
  (∀ (l1 l2 l3 l4 l5 : Value) (x : Nat) (S : List Value) (h : zH), rn 22 52 [.ref x, l1, l2, l3, l4, l5] S h = rn 22 53 [.ref x, l1, l2, l3, l4, l5] (.ref x :: S) h) ∧
  (∀ (l0 l1 l2 l3 l4 l5 : Value) (a : Nat) (S : List Value) (h : zH), rn 22 53 [l0, l1, l2, l3, l4, l5] (.ref a :: S) h = zgf h a 1 0 fun v => rn 22 56 [l0, l1, l2, l3, l4, l5] (v :: S) h) ∧
  (∀ (l0 l2 l3 l4 l5 : Value) (x : Int32) (S : List Value) (h : zH), rn 22 56 [l0, .int x, l2, l3, l4, l5] S h = rn 22 57 [l0, .int x, l2, l3, l4, l5] (.int x :: S) h) ∧
  (∀ (l0 l1 l2 l3 l4 l5 : Value) (a : Nat) (j : Int32) (S : List Value) (h : zH), rn 22 57 [l0, l1, l2, l3, l4, l5] (.int j :: .ref a :: S) h = zlq h a j fun x => rn 22 58 [l0, l1, l2, l3, l4, l5] (va_rf x :: S) h) ∧
  (∀ (l0 l1 l2 l3 l4 l5 : Value) (a : Nat) (S : List Value) (h : zH), rn 22 58 [l0, l1, l2, l3, l4, l5] (.ref a :: S) h = zgf h a 10 0 fun v => rn 22 61 [l0, l1, l2, l3, l4, l5] (v :: S) h) ∧
  (∀ (l0 l1 l2 l3 l4 l5 : Value) (S : List Value) (h : zH), rn 22 61 [l0, l1, l2, l3, l4, l5] S h = rn 22 62 [l0, l1, l2, l3, l4, l5] (.int (nI 0) :: S) h) ∧
  (∀ (l0 l1 l2 l3 l4 : Value) (x : Int32) (S : List Value) (h : zH), rn 22 62 [l0, l1, l2, l3, l4, .int x] S h = rn 22 64 [l0, l1, l2, l3, l4, .int x] (.int x :: S) h) ∧
  (∀ (l0 l1 l2 l3 l4 l5 : Value) (x : Int32) (y : Int32) (S : List Value) (h : zH), rn 22 64 [l0, l1, l2, l3, l4, l5] (.int y :: .int x :: S) h = rn 22 65 [l0, l1, l2, l3, l4, l5] (.int (x + y) :: S) h) ∧
  (∀ (l0 l1 l2 l4 l5 : Value) (x : Int32) (S : List Value) (h : zH), rn 22 65 [l0, l1, l2, .int x, l4, l5] S h = rn 22 66 [l0, l1, l2, .int x, l4, l5] (.int x :: S) h) ∧
  (∀ (l0 l1 l2 l3 l4 l5 : Value) (a : Nat) (j : Int32) (x : Int32) (S : List Value) (h : zH), rn 22 66 [l0, l1, l2, l3, l4, l5] (.int x :: .int j :: .ref a :: S) h = zsi h a 0 j x fun h => rn 22 67 [l0, l1, l2, l3, l4, l5] S h) ∧
  (∀ (l0 l1 l2 l3 l4 : Value) (x : Int32) (S : List Value) (h : zH), rn 22 67 [l0, l1, l2, l3, l4, .int x] S h = nl l4 (rn 22 70 [l0, l1, l2, l3, l4, .int (x + (nI 1))] S h)) ∧
  (∀ (l0 l1 l2 l3 l4 l5 : Value) (S : List Value) (h : zH), rn 22 70 [l0, l1, l2, l3, l4, l5] S h = rn 22 45 [l0, l1, l2, l3, l4, l5] S h) ∧
  (∀ (l0 l1 l2 l3 l5 : Value) (x : Int32) (S : List Value) (h : zH), rn 22 73 [l0, l1, l2, l3, .int x, l5] S h = rn 22 75 [l0, l1, l2, l3, .int x, l5] (.int x :: S) h) ∧
  (∀ (l0 l1 l2 l3 l4 l5 : Value) (x : Int32) (h : zH), rn 22 75 [l0, l1, l2, l3, l4, l5] [.int x] h = some (some (.int x), h)) := ⟨fun _ _ _ _ _ _ _ _ => r_iload_n (show zdec 22 0 = some (.iload_n 1, 1) by decide +kernel) rfl rfl,
  fun _ _ _ _ _ _ _ _ _ => r_cS [_] rfl (show zdec 22 1 = some (.invokestatic 43, 3) by decide +kernel) (show zst.lookup (22 * zKEY + 43) = some (3, 23, 1, 0) by decide +kernel) (by decide) rfl,
  fun _ _ _ _ _ _ _ _ _ => r_ifeq (show zdec 22 4 = some (.ifCond .eq 21, 3) by decide +kernel) rfl rfl,
  fun _ _ _ _ _ _ _ _ => r_iload_n (show zdec 22 7 = some (.iload_n 2, 1) by decide +kernel) rfl rfl,
  fun _ _ _ _ _ _ _ _ _ => r_cS [_] rfl (show zdec 22 8 = some (.invokestatic 47, 3) by decide +kernel) (show zst.lookup (22 * zKEY + 47) = some (3, 25, 1, 0) by decide +kernel) (by decide) rfl,
  fun _ _ _ _ _ _ _ _ _ => r_ifeq (show zdec 22 11 = some (.ifCond .eq 14, 3) by decide +kernel) rfl rfl,
  fun _ _ _ _ _ _ _ _ => r_iload_n (show zdec 22 14 = some (.iload_n 3, 1) by decide +kernel) rfl rfl,
  fun _ _ _ _ _ _ _ _ => r_iconst (show zdec 22 15 = some (.iconst 0, 1) by decide +kernel) rfl rfl,
  fun _ _ _ _ _ _ _ _ => r_sipush (show zdec 22 16 = some (.sipush 9999, 3) by decide +kernel) rfl rfl,
  fun _ _ _ _ _ _ _ _ _ _ _ => r_cS [_, _, _] rfl (show zdec 22 19 = some (.invokestatic 50, 3) by decide +kernel) (show zst.lookup (22 * zKEY + 50) = some (3, 24, 3, 0) by decide +kernel) (by decide) rfl,
  fun _ _ _ _ _ _ _ _ _ => r_ifne (show zdec 22 22 = some (.ifCond .ne 5, 3) by decide +kernel) rfl rfl,
  fun _ _ _ _ _ _ _ _ => r_iconst (show zdec 22 25 = some (.iconst (-1), 1) by decide +kernel) rfl rfl,
  fun _ _ _ _ _ _ _ _ => r_ireti (show zdec 22 26 = some (.ireturn, 1) by decide +kernel) (by decide +kernel),
  fun _ _ _ _ _ _ _ _ => r_aload_nr (show zdec 22 27 = some (.aload_n 0, 1) by decide +kernel) rfl rfl,
  fun _ _ _ _ _ _ _ _ _ => r_getfield (show zdec 22 28 = some (.getfield 11, 3) by decide +kernel) (show zft.lookup (22 * zKEY + 11) = some (1, 0) by decide +kernel) rfl,
  fun _ _ _ _ _ _ _ _ => r_iload_n (show zdec 22 31 = some (.iload_n 1, 1) by decide +kernel) rfl rfl,
  fun _ _ _ _ _ _ _ _ _ _ => r_aald (show zdec 22 32 = some (.aaload, 1) by decide +kernel) rfl,
  fun _ _ _ _ _ _ _ _ _ => r_getfield (show zdec 22 33 = some (.getfield 54, 3) by decide +kernel) (show zft.lookup (22 * zKEY + 54) = some (10, 0) by decide +kernel) rfl,
  fun _ _ _ _ _ _ _ _ => r_iconst (show zdec 22 36 = some (.iconst 0, 1) by decide +kernel) rfl rfl,
  fun _ _ _ _ _ _ _ _ => r_iload_n (show zdec 22 37 = some (.iload_n 2, 1) by decide +kernel) rfl rfl,
  fun _ _ _ _ _ _ _ _ _ _ => r_iadd (show zdec 22 38 = some (.iadd, 1) by decide +kernel) rfl,
  fun _ _ _ _ _ _ _ _ _ _ => r_iald (show zdec 22 39 = some (.iaload, 1) by decide +kernel) rfl,
  fun _ _ _ _ _ _ _ _ _ => r_istore (show zdec 22 40 = some (.istore 4, 2) by decide +kernel) rfl (Nat.le_of_ble_eq_true rfl) rfl rfl,
  fun _ _ _ _ _ _ _ _ => r_iload_n (show zdec 22 42 = some (.iload_n 2, 1) by decide +kernel) rfl rfl,
  fun _ _ _ _ _ _ _ _ _ => r_istore (show zdec 22 43 = some (.istore 5, 2) by decide +kernel) rfl (Nat.le_of_ble_eq_true rfl) rfl rfl,
  fun _ _ _ _ _ _ _ _ => r_bipush (show zdec 22 47 = some (.bipush 12, 2) by decide +kernel) rfl rfl,
  fun _ _ _ _ _ _ _ _ _ _ => r_icmpge (show zdec 22 49 = some (.if_icmp .ge 24, 3) by decide +kernel) rfl rfl,
  fun _ _ _ _ _ _ _ _ => r_aload_nr (show zdec 22 52 = some (.aload_n 0, 1) by decide +kernel) rfl rfl,
  fun _ _ _ _ _ _ _ _ _ => r_getfield (show zdec 22 53 = some (.getfield 11, 3) by decide +kernel) (show zft.lookup (22 * zKEY + 11) = some (1, 0) by decide +kernel) rfl,
  fun _ _ _ _ _ _ _ _ => r_iload_n (show zdec 22 56 = some (.iload_n 1, 1) by decide +kernel) rfl rfl,
  fun _ _ _ _ _ _ _ _ _ _ => r_aald (show zdec 22 57 = some (.aaload, 1) by decide +kernel) rfl,
  fun _ _ _ _ _ _ _ _ _ => r_getfield (show zdec 22 58 = some (.getfield 54, 3) by decide +kernel) (show zft.lookup (22 * zKEY + 54) = some (10, 0) by decide +kernel) rfl,
  fun _ _ _ _ _ _ _ _ => r_iconst (show zdec 22 61 = some (.iconst 0, 1) by decide +kernel) rfl rfl,
  fun _ _ _ _ _ _ _ _ => r_iload (show zdec 22 62 = some (.iload 5, 2) by decide +kernel) rfl rfl,
  fun _ _ _ _ _ _ _ _ _ _ => r_iadd (show zdec 22 64 = some (.iadd, 1) by decide +kernel) rfl,
  fun _ _ _ _ _ _ _ _ => r_iload_n (show zdec 22 65 = some (.iload_n 3, 1) by decide +kernel) rfl rfl,
  fun _ _ _ _ _ _ _ _ _ _ _ => r_iast (show zdec 22 66 = some (.iastore, 1) by decide +kernel) rfl,
  fun _ _ _ _ _ _ _ _ => r_iinc (show zdec 22 67 = some (.iinc 5 1, 3) by decide +kernel) rfl rfl rfl (Nat.le_of_ble_eq_true rfl) rfl rfl,
  fun _ _ _ _ _ _ _ _ => r_goto (show zdec 22 70 = some (.goto (-25), 3) by decide +kernel) rfl,
  fun _ _ _ _ _ _ _ _ => r_iload (show zdec 22 73 = some (.iload 4, 2) by decide +kernel) rfl rfl,
  fun _ _ _ _ _ _ _ _ => r_ireti (show zdec 22 75 = some (.ireturn, 1) by decide +kernel) (by decide +kernel)⟩
theorem zl_22_45 : ∀ (l0 l1 l2 l3 l4 : Value) (x : Int32) (S : List Value) (h : zH), rn 22 45 [l0, l1, l2, l3, l4, .int x] S h = rn 22 47 [l0, l1, l2, l3, l4, .int x] (.int x :: S) h := fun _ _ _ _ _ _ _ _ => r_iload (show zdec 22 45 = some (.iload 5, 2) by decide +kernel) rfl rfl
theorem ze_22 : ∀ (a0 : Nat) (a1 : Int32) (a2 : Int32) (a3 : Int32) (h : zH), ev 22 [.ref a0, .int a1, .int a2, .int a3] h = rn 22 0 [.ref a0, .int a1, .int a2, .int a3, .float 0, .float 0] [] h := fun _ _ _ _ _ => if_pos (Nat.le_of_ble_eq_true rfl)
-- PayrollRun.isEmployee(I)Z
theorem zr_23 : (∀ (x : Int32) (S : List Value) (h : zH), rn 23 0 [.int x] S h = rn 23 1 [.int x] (.int x :: S) h) ∧
  (∀ (l0 : Value) (S : List Value) (h : zH), rn 23 1 [l0] S h = rn 23 2 [l0] (.int (nI 0) :: S) h) ∧
  (∀ (l0 : Value) (S : List Value) (h : zH), rn 23 2 [l0] S h = rn 23 3 [l0] (.int (nI 2) :: S) h) ∧
  (∀ (l0 : Value) (v0 : Value) (v1 : Value) (v2 : Value) (S : List Value) (h : zH), rn 23 3 [l0] (v2 :: v1 :: v0 :: S) h = if zsum S ≤ 8 then zcall (ev 24 [v0, v1, v2] h) (fun v h => rn 23 6 [l0] (zpush v S) h) else none) ∧
  (∀ (l0 : Value) (x : Int32) (h : zH), rn 23 6 [l0] [.int x] h = if x = nI 0 ∨ x = nI 1 then some (some (.int x), h) else none) := ⟨fun _ _ _ => r_iload_n (show zdec 23 0 = some (.iload_n 0, 1) by decide +kernel) rfl rfl,
  fun _ _ _ => r_iconst (show zdec 23 1 = some (.iconst 0, 1) by decide +kernel) rfl rfl,
  fun _ _ _ => r_iconst (show zdec 23 2 = some (.iconst 2, 1) by decide +kernel) rfl rfl,
  fun _ _ _ _ _ _ => r_cS [_, _, _] rfl (show zdec 23 3 = some (.invokestatic 123, 3) by decide +kernel) (show zst.lookup (23 * zKEY + 123) = some (0, 24, 3, 0) by decide +kernel) (by decide) rfl,
  fun _ _ _ => r_iretb (show zdec 23 6 = some (.ireturn, 1) by decide +kernel) (by decide +kernel)⟩
theorem ze_23 : ∀ (a0 : Int32) (h : zH), ev 23 [.int a0] h = rn 23 0 [.int a0] [] h := fun _ _ => if_pos (Nat.le_of_ble_eq_true rfl)
-- PayrollRun.within(III)Z
theorem zr_24 : (∀ (l1 l2 : Value) (x : Int32) (S : List Value) (h : zH), rn 24 0 [.int x, l1, l2] S h = rn 24 1 [.int x, l1, l2] (.int x :: S) h) ∧
  (∀ (l0 l2 : Value) (x : Int32) (S : List Value) (h : zH), rn 24 1 [l0, .int x, l2] S h = rn 24 2 [l0, .int x, l2] (.int x :: S) h) ∧
  (∀ (l0 l1 l2 : Value) (x : Int32) (y : Int32) (S : List Value) (h : zH), rn 24 2 [l0, l1, l2] (.int y :: .int x :: S) h = if x < y then rn 24 14 [l0, l1, l2] S h else rn 24 5 [l0, l1, l2] S h) ∧
  (∀ (l1 l2 : Value) (x : Int32) (S : List Value) (h : zH), rn 24 5 [.int x, l1, l2] S h = rn 24 6 [.int x, l1, l2] (.int x :: S) h) ∧
  (∀ (l0 l1 : Value) (x : Int32) (S : List Value) (h : zH), rn 24 6 [l0, l1, .int x] S h = rn 24 7 [l0, l1, .int x] (.int x :: S) h) ∧
  (∀ (l0 l1 l2 : Value) (x : Int32) (y : Int32) (S : List Value) (h : zH), rn 24 7 [l0, l1, l2] (.int y :: .int x :: S) h = if y < x then rn 24 14 [l0, l1, l2] S h else rn 24 10 [l0, l1, l2] S h) ∧
  (∀ (l0 l1 l2 : Value) (S : List Value) (h : zH), rn 24 10 [l0, l1, l2] S h = rn 24 11 [l0, l1, l2] (.int (nI 1) :: S) h) ∧
  (∀ (l0 l1 l2 : Value) (S : List Value) (h : zH), rn 24 11 [l0, l1, l2] S h = rn 24 15 [l0, l1, l2] S h) ∧
  (∀ (l0 l1 l2 : Value) (S : List Value) (h : zH), rn 24 14 [l0, l1, l2] S h = rn 24 15 [l0, l1, l2] (.int (nI 0) :: S) h) ∧
  (∀ (l0 l1 l2 : Value) (x : Int32) (h : zH), rn 24 15 [l0, l1, l2] [.int x] h = if x = nI 0 ∨ x = nI 1 then some (some (.int x), h) else none) := ⟨fun _ _ _ _ _ => r_iload_n (show zdec 24 0 = some (.iload_n 0, 1) by decide +kernel) rfl rfl,
  fun _ _ _ _ _ => r_iload_n (show zdec 24 1 = some (.iload_n 1, 1) by decide +kernel) rfl rfl,
  fun _ _ _ _ _ _ _ => r_icmplt (show zdec 24 2 = some (.if_icmp .lt 12, 3) by decide +kernel) rfl rfl,
  fun _ _ _ _ _ => r_iload_n (show zdec 24 5 = some (.iload_n 0, 1) by decide +kernel) rfl rfl,
  fun _ _ _ _ _ => r_iload_n (show zdec 24 6 = some (.iload_n 2, 1) by decide +kernel) rfl rfl,
  fun _ _ _ _ _ _ _ => r_icmpgt (show zdec 24 7 = some (.if_icmp .gt 7, 3) by decide +kernel) rfl rfl,
  fun _ _ _ _ _ => r_iconst (show zdec 24 10 = some (.iconst 1, 1) by decide +kernel) rfl rfl,
  fun _ _ _ _ _ => r_goto (show zdec 24 11 = some (.goto 4, 3) by decide +kernel) rfl,
  fun _ _ _ _ _ => r_iconst (show zdec 24 14 = some (.iconst 0, 1) by decide +kernel) rfl rfl,
  fun _ _ _ _ _ => r_iretb (show zdec 24 15 = some (.ireturn, 1) by decide +kernel) (by decide +kernel)⟩
theorem ze_24 : ∀ (a0 : Int32) (a1 : Int32) (a2 : Int32) (h : zH), ev 24 [.int a0, .int a1, .int a2] h = rn 24 0 [.int a0, .int a1, .int a2] [] h := fun _ _ _ _ => if_pos (Nat.le_of_ble_eq_true rfl)
-- PayrollRun.isMonth(I)Z
theorem zr_25 : (∀ (x : Int32) (S : List Value) (h : zH), rn 25 0 [.int x] S h = rn 25 1 [.int x] (.int x :: S) h) ∧
  (∀ (l0 : Value) (S : List Value) (h : zH), rn 25 1 [l0] S h = rn 25 2 [l0] (.int (nI 0) :: S) h) ∧
  (∀ (l0 : Value) (S : List Value) (h : zH), rn 25 2 [l0] S h = rn 25 4 [l0] (.int (nI 11) :: S) h) ∧
  (∀ (l0 : Value) (v0 : Value) (v1 : Value) (v2 : Value) (S : List Value) (h : zH), rn 25 4 [l0] (v2 :: v1 :: v0 :: S) h = if zsum S ≤ 8 then zcall (ev 24 [v0, v1, v2] h) (fun v h => rn 25 7 [l0] (zpush v S) h) else none) ∧
  (∀ (l0 : Value) (x : Int32) (h : zH), rn 25 7 [l0] [.int x] h = if x = nI 0 ∨ x = nI 1 then some (some (.int x), h) else none) := ⟨fun _ _ _ => r_iload_n (show zdec 25 0 = some (.iload_n 0, 1) by decide +kernel) rfl rfl,
  fun _ _ _ => r_iconst (show zdec 25 1 = some (.iconst 0, 1) by decide +kernel) rfl rfl,
  fun _ _ _ => r_bipush (show zdec 25 2 = some (.bipush 11, 2) by decide +kernel) rfl rfl,
  fun _ _ _ _ _ _ => r_cS [_, _, _] rfl (show zdec 25 4 = some (.invokestatic 123, 3) by decide +kernel) (show zst.lookup (25 * zKEY + 123) = some (0, 24, 3, 0) by decide +kernel) (by decide) rfl,
  fun _ _ _ => r_iretb (show zdec 25 7 = some (.ireturn, 1) by decide +kernel) (by decide +kernel)⟩
theorem ze_25 : ∀ (a0 : Int32) (h : zH), ev 25 [.int a0] h = rn 25 0 [.int a0] [] h := fun _ _ => if_pos (Nat.le_of_ble_eq_true rfl)
-- PayrollRun.finish(I)I
theorem zr_26 : (∀ (l0 : Value) (x : Int32) (S : List Value) (h : zH), rn 26 0 [l0, .int x] S h = rn 26 1 [l0, .int x] (.int x :: S) h) ∧
  (∀ (l0 l1 : Value) (x : Int32) (S : List Value) (h : zH), rn 26 1 [l0, l1] (.int x :: S) h = if x < nI 0 then rn 26 11 [l0, l1] S h else rn 26 4 [l0, l1] S h) ∧
  (∀ (l1 : Value) (x : Nat) (S : List Value) (h : zH), rn 26 4 [.ref x, l1] S h = rn 26 5 [.ref x, l1] (.ref x :: S) h) ∧
  (∀ (l0 l1 : Value) (a : Nat) (S : List Value) (h : zH), rn 26 5 [l0, l1] (.ref a :: S) h = zgf h a 11 1 fun v => rn 26 8 [l0, l1] (v :: S) h) ∧
  (∀ (l0 l1 : Value) (o : Nat) (S : List Value) (h : zH), rn 26 8 [l0, l1] (.ref o :: S) h = if zkd h o = 5 ∧ zsum S ≤ 8 then zcall (ev 27 [.ref o] h) (fun v h => rn 26 11 [l0, l1] (zpush v S) h) else none) ∧
  (∀ (l0 : Value) (x : Int32) (S : List Value) (h : zH), rn 26 11 [l0, .int x] S h = rn 26 12 [l0, .int x] (.int x :: S) h) ∧
  (∀ (l0 l1 : Value) (x : Int32) (h : zH), rn 26 12 [l0, l1] [.int x] h = some (some (.int x), h)) := ⟨fun _ _ _ _ => r_iload_n (show zdec 26 0 = some (.iload_n 1, 1) by decide +kernel) rfl rfl,
  fun _ _ _ _ _ => r_iflt (show zdec 26 1 = some (.ifCond .lt 10, 3) by decide +kernel) rfl rfl,
  fun _ _ _ _ => r_aload_nr (show zdec 26 4 = some (.aload_n 0, 1) by decide +kernel) rfl rfl,
  fun _ _ _ _ _ => r_getfield (show zdec 26 5 = some (.getfield 19, 3) by decide +kernel) (show zft.lookup (26 * zKEY + 19) = some (11, 1) by decide +kernel) rfl,
  fun _ _ _ _ _ => r_cV [] rfl (show zdec 26 8 = some (.invokevirtual 291, 3) by decide +kernel) (show zst.lookup (26 * zKEY + 291) = some (1, 27, 0, 5) by decide +kernel) (by decide) rfl,
  fun _ _ _ _ => r_iload_n (show zdec 26 11 = some (.iload_n 1, 1) by decide +kernel) rfl rfl,
  fun _ _ _ _ => r_ireti (show zdec 26 12 = some (.ireturn, 1) by decide +kernel) (by decide +kernel)⟩
theorem ze_26 : ∀ (a0 : Nat) (a1 : Int32) (h : zH), ev 26 [.ref a0, .int a1] h = rn 26 0 [.ref a0, .int a1] [] h := fun _ _ _ => if_pos (Nat.le_of_ble_eq_true rfl)
-- PayrollRun.days(III)I
theorem zr_29 : (∀ (l1 l2 l3 : Value) (x : Nat) (S : List Value) (h : zH), rn 29 0 [.ref x, l1, l2, l3] S h = rn 29 1 [.ref x, l1, l2, l3] (.ref x :: S) h) ∧
  (∀ (l0 l1 l2 l3 : Value) (a : Nat) (S : List Value) (h : zH), rn 29 1 [l0, l1, l2, l3] (.ref a :: S) h = zgf h a 11 1 fun v => rn 29 4 [l0, l1, l2, l3] (v :: S) h) ∧
  (∀ (l1 l2 l3 : Value) (x : Nat) (S : List Value) (h : zH), rn 29 4 [.ref x, l1, l2, l3] S h = rn 29 5 [.ref x, l1, l2, l3] (.ref x :: S) h) ∧
  (∀ (l0 l1 l2 l3 : Value) (a : Nat) (S : List Value) (h : zH), rn 29 5 [l0, l1, l2, l3] (.ref a :: S) h = zgf h a 11 0 fun v => rn 29 8 [l0, l1, l2, l3] (v :: S) h) ∧
  (∀ (l0 l1 l2 l3 : Value) (o : Nat) (v0 : Value) (S : List Value) (h : zH), rn 29 8 [l0, l1, l2, l3] (v0 :: .ref o :: S) h = if zkd h o = 5 ∧ zsum S ≤ 8 then zcall (ev 17 [.ref o, v0] h) (fun v h => rn 29 11 [l0, l1, l2, l3] (zpush v S) h) else none) ∧
  (∀ (l1 l2 l3 : Value) (x : Nat) (S : List Value) (h : zH), rn 29 11 [.ref x, l1, l2, l3] S h = rn 29 12 [.ref x, l1, l2, l3] (.ref x :: S) h) ∧
  (∀ (l1 l2 l3 : Value) (x : Nat) (S : List Value) (h : zH), rn 29 12 [.ref x, l1, l2, l3] S h = rn 29 13 [.ref x, l1, l2, l3] (.ref x :: S) h) ∧
  (∀ (l0 l1 l2 l3 : Value) (a : Nat) (S : List Value) (h : zH), rn 29 13 [l0, l1, l2, l3] (.ref a :: S) h = zgf h a 11 0 fun v => rn 29 16 [l0, l1, l2, l3] (v :: S) h) ∧
  (∀ (l0 l2 l3 : Value) (x : Int32) (S : List Value) (h : zH), rn 29 16 [l0, .int x, l2, l3] S h = rn 29 17 [l0, .int x, l2, l3] (.int x :: S) h) ∧
  (∀ (l0 l1 l3 : Value) (x : Int32) (S : List Value) (h : zH), rn 29 17 [l0, l1, .int x, l3] S h = rn 29 18 [l0, l1, .int x, l3] (.int x :: S) h) ∧
  (∀ (l0 l1 l2 : Value) (x : Int32) (S : List Value) (h : zH), rn 29 18 [l0, l1, l2, .int x] S h = rn 29 19 [l0, l1, l2, .int x] (.int x :: S) h) ∧
  (∀ (l0 l1 l2 l3 : Value) (o : Nat) (v0 : Value) (v1 : Value) (v2 : Value) (S : List Value) (h : zH), rn 29 19 [l0, l1, l2, l3] (v2 :: v1 :: v0 :: .ref o :: S) h = if zkd h o = 1 ∧ zsum S ≤ 8 then zcall (ev 30 [.ref o, v0, v1, v2] h) (fun v h => rn 29 22 [l0, l1, l2, l3] (zpush v S) h) else none) ∧
  (∀ (l0 l1 l2 l3 : Value) (o : Nat) (v0 : Value) (S : List Value) (h : zH), rn 29 22 [l0, l1, l2, l3] (v0 :: .ref o :: S) h = if zkd h o = 11 ∧ zsum S ≤ 8 then zcall (ev 26 [.ref o, v0] h) (fun v h => rn 29 25 [l0, l1, l2, l3] (zpush v S) h) else none) ∧
  (∀ (l0 l1 l2 l3 : Value) (x : Int32) (h : zH), rn 29 25 [l0, l1, l2, l3] [.int x] h = some (some (.int x), h)) := ⟨fun _ _ _ _ _ _ => r_aload_nr (show zdec 29 0 = some (.aload_n 0, 1) by decide +kernel) rfl rfl,
  fun _ _ _ _ _ _ _ => r_getfield (show zdec 29 1 = some (.getfield 19, 3) by decide +kernel) (show zft.lookup (29 * zKEY + 19) = some (11, 1) by decide +kernel) rfl,
  fun _ _ _ _ _ _ => r_aload_nr (show zdec 29 4 = some (.aload_n 0, 1) by decide +kernel) rfl rfl,
  fun _ _ _ _ _ _ _ => r_getfield (show zdec 29 5 = some (.getfield 10, 3) by decide +kernel) (show zft.lookup (29 * zKEY + 10) = some (11, 0) by decide +kernel) rfl,
  fun _ _ _ _ _ _ _ _ => r_cV [_] rfl (show zdec 29 8 = some (.invokevirtual 58, 3) by decide +kernel) (show zst.lookup (29 * zKEY + 58) = some (1, 17, 1, 5) by decide +kernel) (by decide) rfl,
  fun _ _ _ _ _ _ => r_aload_nr (show zdec 29 11 = some (.aload_n 0, 1) by decide +kernel) rfl rfl,
  fun _ _ _ _ _ _ => r_aload_nr (show zdec 29 12 = some (.aload_n 0, 1) by decide +kernel) rfl rfl,
  fun _ _ _ _ _ _ _ => r_getfield (show zdec 29 13 = some (.getfield 10, 3) by decide +kernel) (show zft.lookup (29 * zKEY + 10) = some (11, 0) by decide +kernel) rfl,
  fun _ _ _ _ _ _ => r_iload_n (show zdec 29 16 = some (.iload_n 1, 1) by decide +kernel) rfl rfl,
  fun _ _ _ _ _ _ => r_iload_n (show zdec 29 17 = some (.iload_n 2, 1) by decide +kernel) rfl rfl,
  fun _ _ _ _ _ _ => r_iload_n (show zdec 29 18 = some (.iload_n 3, 1) by decide +kernel) rfl rfl,
  fun _ _ _ _ _ _ _ _ _ _ => r_cV [_, _, _] rfl (show zdec 29 19 = some (.invokevirtual 70, 3) by decide +kernel) (show zst.lookup (29 * zKEY + 70) = some (1, 30, 3, 1) by decide +kernel) (by decide) rfl,
  fun _ _ _ _ _ _ _ _ => r_cV [_] rfl (show zdec 29 22 = some (.invokevirtual 66, 3) by decide +kernel) (show zst.lookup (29 * zKEY + 66) = some (1, 26, 1, 11) by decide +kernel) (by decide) rfl,
  fun _ _ _ _ _ _ => r_ireti (show zdec 29 25 = some (.ireturn, 1) by decide +kernel) (by decide +kernel)⟩
theorem ze_29 : ∀ (a0 : Nat) (a1 : Int32) (a2 : Int32) (a3 : Int32) (h : zH), ev 29 [.ref a0, .int a1, .int a2, .int a3] h = rn 29 0 [.ref a0, .int a1, .int a2, .int a3] [] h := fun _ _ _ _ _ => if_pos (Nat.le_of_ble_eq_true rfl)
-- PayrollRun/Books.changeDays(III)I
theorem zr_30 : (∀ (l0 l2 l3 l4 : Value) (x : Int32) (S : List Value) (h : zH), rn 30 0 [l0, .int x, l2, l3, l4] S h = rn 30 1 [l0, .int x, l2, l3, l4] (.int x :: S) h) ∧
  (∀ (l0 l1 l2 l3 l4 : Value) (v0 : Value) (S : List Value) (h : zH), rn 30 1 [l0, l1, l2, l3, l4] (v0 :: S) h = if zsum S ≤ 8 then zcall (ev 23 [v0] h) (fun v h => rn 30 4 [l0, l1, l2, l3, l4] (zpush v S) h) else none) ∧
  (∀ (l0 l1 l2 l3 l4 : Value) (x : Int32) (S : List Value) (h : zH), rn 30 4 [l0, l1, l2, l3, l4] (.int x :: S) h = if x = nI 0 then rn 30 24 [l0, l1, l2, l3, l4] S h else rn 30 7 [l0, l1, l2, l3, l4] S h) ∧
  (∀ (l0 l1 l3 l4 : Value) (x : Int32) (S : List Value) (h : zH), rn 30 7 [l0, l1, .int x, l3, l4] S h = rn 30 8 [l0, l1, .int x, l3, l4] (.int x :: S) h) ∧
  (∀ (l0 l1 l2 l3 l4 : Value) (v0 : Value) (S : List Value) (h : zH), rn 30 8 [l0, l1, l2, l3, l4] (v0 :: S) h = if zsum S ≤ 8 then zcall (ev 25 [v0] h) (fun v h => rn 30 11 [l0, l1, l2, l3, l4] (zpush v S) h) else none) ∧
  (∀ (l0 l1 l2 l3 l4 : Value) (x : Int32) (S : List Value) (h : zH), rn 30 11 [l0, l1, l2, l3, l4] (.int x :: S) h = if x = nI 0 then rn 30 24 [l0, l1, l2, l3, l4] S h else rn 30 14 [l0, l1, l2, l3, l4] S h) ∧
  (∀ (l0 l1 l2 l4 : Value) (x : Int32) (S : List Value) (h : zH), rn 30 14 [l0, l1, l2, .int x, l4] S h = rn 30 15 [l0, l1, l2, .int x, l4] (.int x :: S) h) ∧
  (∀ (l0 l1 l2 l3 l4 : Value) (S : List Value) (h : zH), rn 30 15 [l0, l1, l2, l3, l4] S h = rn 30 16 [l0, l1, l2, l3, l4] (.int (nI 0) :: S) h) ∧
  (∀ (l0 l1 l2 l3 l4 : Value) (S : List Value) (h : zH), rn 30 16 [l0, l1, l2, l3, l4] S h = rn 30 18 [l0, l1, l2, l3, l4] (.int (nI 30) :: S) h) ∧
  (∀ (l0 l1 l2 l3 l4 : Value) (v0 : Value) (v1 : Value) (v2 : Value) (S : List Value) (h : zH), rn 30 18 [l0, l1, l2, l3, l4] (v2 :: v1 :: v0 :: S) h = if zsum S ≤ 8 then zcall (ev 24 [v0, v1, v2] h) (fun v h => rn 30 21 [l0, l1, l2, l3, l4] (zpush v S) h) else none) ∧
  (∀ (l0 l1 l2 l3 l4 : Value) (x : Int32) (S : List Value) (h : zH), rn 30 21 [l0, l1, l2, l3, l4] (.int x :: S) h = if x = nI 0 then rn 30 24 [l0, l1, l2, l3, l4] S h else rn 30 26 [l0, l1, l2, l3, l4] S h) ∧
  (∀ (l0 l1 l2 l3 l4 : Value) (S : List Value) (h : zH), rn 30 24 [l0, l1, l2, l3, l4] S h = rn 30 25 [l0, l1, l2, l3, l4] (.int (-1) :: S) h) ∧
  (∀ (l0 l1 l2 l3 l4 : Value) (x : Int32) (h : zH), rn 30 25 [l0, l1, l2, l3, l4] [.int x] h = some (some (.int x), h)) ∧
  (∀ (l1 l2 l3 l4 : Value) (x : Nat) (S : List Value) (h : zH), rn 30 26 [.ref x, l1, l2, l3, l4] S h = rn 30 27 [.ref x, l1, l2, l3, l4] (.ref x :: S) h) ∧
  (∀ (l0 l1 l2 l3 l4 : Value) (a : Nat) (S : List Value) (h : zH), rn 30 27 [l0, l1, l2, l3, l4] (.ref a :: S) h = zgf h a 1 0 fun v => rn 30 30 [l0, l1, l2, l3, l4] (v :: S) h) ∧
  (∀ (l0 l2 l3 l4 : Value) (x : Int32) (S : List Value) (h : zH), rn 30 30 [l0, .int x, l2, l3, l4] S h = rn 30 31 [l0, .int x, l2, l3, l4] (.int x :: S) h) ∧
  (∀ (l0 l1 l2 l3 l4 : Value) (a : Nat) (j : Int32) (S : List Value) (h : zH), rn 30 31 [l0, l1, l2, l3, l4] (.int j :: .ref a :: S) h = zlq h a j fun x => rn 30 32 [l0, l1, l2, l3, l4] (va_rf x :: S) h) ∧
  (∀ (l0 l1 l2 l3 l4 : Value) (a : Nat) (S : List Value) (h : zH), rn 30 32 [l0, l1, l2, l3, l4] (.ref a :: S) h = zgf h a 10 0 fun v => rn 30 35 [l0, l1, l2, l3, l4] (v :: S) h) ∧
  (∀ (l0 l1 l2 l3 l4 : Value) (S : List Value) (h : zH), rn 30 35 [l0, l1, l2, l3, l4] S h = rn 30 37 [l0, l1, l2, l3, l4] (.int (nI 12) :: S) h) ∧
  (∀ (l0 l1 l3 l4 : Value) (x : Int32) (S : List Value) (h : zH), rn 30 37 [l0, l1, .int x, l3, l4] S h = rn 30 38 [l0, l1, .int x, l3, l4] (.int x :: S) h) ∧
  (∀ (l0 l1 l2 l3 l4 : Value) (x : Int32) (y : Int32) (S : List Value) (h : zH), rn 30 38 [l0, l1, l2, l3, l4] (.int y :: .int x :: S) h = rn 30 39 [l0, l1, l2, l3, l4] (.int (x + y) :: S) h) ∧
  (∀ (l0 l1 l2 l3 l4 : Value) (a : Nat) (j : Int32) (S : List Value) (h : zH), rn 30 39 [l0, l1, l2, l3, l4] (.int j :: .ref a :: S) h = zli h a 0 j fun x => rn 30 40 [l0, l1, l2, l3, l4] (.int x :: S) h) ∧
  (∀ (l0 l1 l2 l3 l4 : Value) (x : Int32) (S : List Value) (h : zH), rn 30 40 [l0, l1, l2, l3, l4] (.int x :: S) h = nl l3 (rn 30 42 [l0, l1, l2, l3, .int x] S h)) ∧
  (∀ (l1 l2 l3 l4 : Value) (x : Nat) (S : List Value) (h : zH), rn 30 42 [.ref x, l1, l2, l3, l4] S h = rn 30 43 [.ref x, l1, l2, l3, l4] (.ref x :: S) h) ∧
  (∀ (l0 l1 l2 l3 l4 : Value) (a : Nat) (S : List Value) (h : zH), rn 30 43 [l0, l1, l2, l3, l4] (.ref a :: S) h = zgf h a 1 0 fun v => rn 30 46 [l0, l1, l2, l3, l4] (v :: S) h) ∧
  (∀ (l0 l2 l3 l4 : Value) (x : Int32) (S : List Value) (h : zH), rn 30 46 [l0, .int x, l2, l3, l4] S h = rn 30 47 [l0, .int x, l2, l3, l4] (.int x :: S) h) ∧
  (∀ (l0 l1 l2 l3 l4 : Value) (a : Nat) (j : Int32) (S : List Value) (h : zH), rn 30 47 [l0, l1, l2, l3, l4] (.int j :: .ref a :: S) h = zlq h a j fun x => rn 30 48 [l0, l1, l2, l3, l4] (va_rf x :: S) h) ∧
  (∀ (l0 l1 l2 l3 l4 : Value) (a : Nat) (S : List Value) (h : zH), rn 30 48 [l0, l1, l2, l3, l4] (.ref a :: S) h = zgf h a 10 0 fun v => rn 30 51 [l0, l1, l2, l3, l4] (v :: S) h) ∧
  (∀ (l0 l1 l2 l3 l4 : Value) (S : List Value) (h : zH), rn 30 51 [l0, l1, l2, l3, l4] S h = rn 30 53 [l0, l1, l2, l3, l4] (.int (nI 12) :: S) h) ∧
  (∀ (l0 l1 l3 l4 : Value) (x : Int32) (S : List Value) (h : zH), rn 30 53 [l0, l1, .int x, l3, l4] S h = rn 30 54 [l0, l1, .int x, l3, l4] (.int x :: S) h) ∧
  (∀ (l0 l1 l2 l3 l4 : Value) (x : Int32) (y : Int32) (S : List Value) (h : zH), rn 30 54 [l0, l1, l2, l3, l4] (.int y :: .int x :: S) h = rn 30 55 [l0, l1, l2, l3, l4] (.int (x + y) :: S) h) ∧
  (∀ (l0 l1 l2 l4 : Value) (x : Int32) (S : List Value) (h : zH), rn 30 55 [l0, l1, l2, .int x, l4] S h = rn 30 56 [l0, l1, l2, .int x, l4] (.int x :: S) h) ∧
  (∀ (l0 l1 l2 l3 l4 : Value) (a : Nat) (j : Int32) (x : Int32) (S : List Value) (h : zH), rn 30 56 [l0, l1, l2, l3, l4] (.int x :: .int j :: .ref a :: S) h = zsi h a 0 j x fun h => rn 30 57 [l0, l1, l2, l3, l4] S h) ∧
  (∀ (l0 l1 l2 l3 : Value) (x : Int32) (S : List Value) (h : zH), rn 30 57 [l0, l1, l2, l3, .int x] S h = rn 30 59 [l0, l1, l2, l3, .int x] (.int x :: S) h) ∧
  (∀ (l0 l1 l2 l3 l4 : Value) (x : Int32) (h : zH), rn 30 59 [l0, l1, l2, l3, l4] [.int x] h = some (some (.int x), h)) := ⟨fun _ _ _ _ _ _ _ => r_iload_n (show zdec 30 0 = some (.iload_n 1, 1) by decide +kernel) rfl rfl,
  fun _ _ _ _ _ _ _ _ => r_cS [_] rfl (show zdec 30 1 = some (.invokestatic 43, 3) by decide +kernel) (show zst.lookup (30 * zKEY + 43) = some (3, 23, 1, 0) by decide +kernel) (by decide) rfl,
  fun _ _ _ _ _ _ _ _ => r_ifeq (show zdec 30 4 = some (.ifCond .eq 20, 3) by decide +kernel) rfl rfl,
  fun _ _ _ _ _ _ _ => r_iload_n (show zdec 30 7 = some (.iload_n 2, 1) by decide +kernel) rfl rfl,
  fun _ _ _ _ _ _ _ _ => r_cS [_] rfl (show zdec 30 8 = some (.invokestatic 47, 3) by decide +kernel) (show zst.lookup (30 * zKEY + 47) = some (3, 25, 1, 0) by decide +kernel) (by decide) rfl,
  fun _ _ _ _ _ _ _ _ => r_ifeq (show zdec 30 11 = some (.ifCond .eq 13, 3) by decide +kernel) rfl rfl,
  fun _ _ _ _ _ _ _ => r_iload_n (show zdec 30 14 = some (.iload_n 3, 1) by decide +kernel) rfl rfl,
  fun _ _ _ _ _ _ _ => r_iconst (show zdec 30 15 = some (.iconst 0, 1) by decide +kernel) rfl rfl,
  fun _ _ _ _ _ _ _ => r_bipush (show zdec 30 16 = some (.bipush 30, 2) by decide +kernel) rfl rfl,
  fun _ _ _ _ _ _ _ _ _ _ => r_cS [_, _, _] rfl (show zdec 30 18 = some (.invokestatic 50, 3) by decide +kernel) (show zst.lookup (30 * zKEY + 50) = some (3, 24, 3, 0) by decide +kernel) (by decide) rfl,
  fun _ _ _ _ _ _ _ _ => r_ifne (show zdec 30 21 = some (.ifCond .ne 5, 3) by decide +kernel) rfl rfl,
  fun _ _ _ _ _ _ _ => r_iconst (show zdec 30 24 = some (.iconst (-1), 1) by decide +kernel) rfl rfl,
  fun _ _ _ _ _ _ _ => r_ireti (show zdec 30 25 = some (.ireturn, 1) by decide +kernel) (by decide +kernel),
  fun _ _ _ _ _ _ _ => r_aload_nr (show zdec 30 26 = some (.aload_n 0, 1) by decide +kernel) rfl rfl,
  fun _ _ _ _ _ _ _ _ => r_getfield (show zdec 30 27 = some (.getfield 11, 3) by decide +kernel) (show zft.lookup (30 * zKEY + 11) = some (1, 0) by decide +kernel) rfl,
  fun _ _ _ _ _ _ _ => r_iload_n (show zdec 30 30 = some (.iload_n 1, 1) by decide +kernel) rfl rfl,
  fun _ _ _ _ _ _ _ _ _ => r_aald (show zdec 30 31 = some (.aaload, 1) by decide +kernel) rfl,
  fun _ _ _ _ _ _ _ _ => r_getfield (show zdec 30 32 = some (.getfield 54, 3) by decide +kernel) (show zft.lookup (30 * zKEY + 54) = some (10, 0) by decide +kernel) rfl,
  fun _ _ _ _ _ _ _ => r_bipush (show zdec 30 35 = some (.bipush 12, 2) by decide +kernel) rfl rfl,
  fun _ _ _ _ _ _ _ => r_iload_n (show zdec 30 37 = some (.iload_n 2, 1) by decide +kernel) rfl rfl,
  fun _ _ _ _ _ _ _ _ _ => r_iadd (show zdec 30 38 = some (.iadd, 1) by decide +kernel) rfl,
  fun _ _ _ _ _ _ _ _ _ => r_iald (show zdec 30 39 = some (.iaload, 1) by decide +kernel) rfl,
  fun _ _ _ _ _ _ _ _ => r_istore (show zdec 30 40 = some (.istore 4, 2) by decide +kernel) rfl (Nat.le_of_ble_eq_true rfl) rfl rfl,
  fun _ _ _ _ _ _ _ => r_aload_nr (show zdec 30 42 = some (.aload_n 0, 1) by decide +kernel) rfl rfl,
  fun _ _ _ _ _ _ _ _ => r_getfield (show zdec 30 43 = some (.getfield 11, 3) by decide +kernel) (show zft.lookup (30 * zKEY + 11) = some (1, 0) by decide +kernel) rfl,
  fun _ _ _ _ _ _ _ => r_iload_n (show zdec 30 46 = some (.iload_n 1, 1) by decide +kernel) rfl rfl,
  fun _ _ _ _ _ _ _ _ _ => r_aald (show zdec 30 47 = some (.aaload, 1) by decide +kernel) rfl,
  fun _ _ _ _ _ _ _ _ => r_getfield (show zdec 30 48 = some (.getfield 54, 3) by decide +kernel) (show zft.lookup (30 * zKEY + 54) = some (10, 0) by decide +kernel) rfl,
  fun _ _ _ _ _ _ _ => r_bipush (show zdec 30 51 = some (.bipush 12, 2) by decide +kernel) rfl rfl,
  fun _ _ _ _ _ _ _ => r_iload_n (show zdec 30 53 = some (.iload_n 2, 1) by decide +kernel) rfl rfl,
  fun _ _ _ _ _ _ _ _ _ => r_iadd (show zdec 30 54 = some (.iadd, 1) by decide +kernel) rfl,
  fun _ _ _ _ _ _ _ => r_iload_n (show zdec 30 55 = some (.iload_n 3, 1) by decide +kernel) rfl rfl,
  fun _ _ _ _ _ _ _ _ _ _ => r_iast (show zdec 30 56 = some (.iastore, 1) by decide +kernel) rfl,
  fun _ _ _ _ _ _ _ => r_iload (show zdec 30 57 = some (.iload 4, 2) by decide +kernel) rfl rfl,
  fun _ _ _ _ _ _ _ => r_ireti (show zdec 30 59 = some (.ireturn, 1) by decide +kernel) (by decide +kernel)⟩
theorem ze_30 : ∀ (a0 : Nat) (a1 : Int32) (a2 : Int32) (a3 : Int32) (h : zH), ev 30 [.ref a0, .int a1, .int a2, .int a3] h = rn 30 0 [.ref a0, .int a1, .int a2, .int a3, .float 0] [] h := fun _ _ _ _ _ => if_pos (Nat.le_of_ble_eq_true rfl)
-- PayrollRun.bonus(III)I
theorem zr_31 : (∀ (l1 l2 l3 : Value) (x : Nat) (S : List Value) (h : zH), rn 31 0 [.ref x, l1, l2, l3] S h = rn 31 1 [.ref x, l1, l2, l3] (.ref x :: S) h) ∧
  (∀ (l0 l1 l2 l3 : Value) (a : Nat) (S : List Value) (h : zH), rn 31 1 [l0, l1, l2, l3] (.ref a :: S) h = zgf h a 11 1 fun v => rn 31 4 [l0, l1, l2, l3] (v :: S) h) ∧
  (∀ (l1 l2 l3 : Value) (x : Nat) (S : List Value) (h : zH), rn 31 4 [.ref x, l1, l2, l3] S h = rn 31 5 [.ref x, l1, l2, l3] (.ref x :: S) h) ∧
  (∀ (l0 l1 l2 l3 : Value) (a : Nat) (S : List Value) (h : zH), rn 31 5 [l0, l1, l2, l3] (.ref a :: S) h = zgf h a 11 0 fun v => rn 31 8 [l0, l1, l2, l3] (v :: S) h) ∧
  (∀ (l0 l1 l2 l3 : Value) (o : Nat) (v0 : Value) (S : List Value) (h : zH), rn 31 8 [l0, l1, l2, l3] (v0 :: .ref o :: S) h = if zkd h o = 5 ∧ zsum S ≤ 8 then zcall (ev 17 [.ref o, v0] h) (fun v h => rn 31 11 [l0, l1, l2, l3] (zpush v S) h) else none) ∧
  (∀ (l1 l2 l3 : Value) (x : Nat) (S : List Value) (h : zH), rn 31 11 [.ref x, l1, l2, l3] S h = rn 31 12 [.ref x, l1, l2, l3] (.ref x :: S) h) ∧
  (∀ (l1 l2 l3 : Value) (x : Nat) (S : List Value) (h : zH), rn 31 12 [.ref x, l1, l2, l3] S h = rn 31 13 [.ref x, l1, l2, l3] (.ref x :: S) h) ∧
  (∀ (l0 l1 l2 l3 : Value) (a : Nat) (S : List Value) (h : zH), rn 31 13 [l0, l1, l2, l3] (.ref a :: S) h = zgf h a 11 0 fun v => rn 31 16 [l0, l1, l2, l3] (v :: S) h) ∧
  (∀ (l0 l2 l3 : Value) (x : Int32) (S : List Value) (h : zH), rn 31 16 [l0, .int x, l2, l3] S h = rn 31 17 [l0, .int x, l2, l3] (.int x :: S) h) ∧
  (∀ (l0 l1 l3 : Value) (x : Int32) (S : List Value) (h : zH), rn 31 17 [l0, l1, .int x, l3] S h = rn 31 18 [l0, l1, .int x, l3] (.int x :: S) h) ∧
  (∀ (l0 l1 l2 : Value) (x : Int32) (S : List Value) (h : zH), rn 31 18 [l0, l1, l2, .int x] S h = rn 31 19 [l0, l1, l2, .int x] (.int x :: S) h) ∧
  (∀ (l0 l1 l2 l3 : Value) (o : Nat) (v0 : Value) (v1 : Value) (v2 : Value) (S : List Value) (h : zH), rn 31 19 [l0, l1, l2, l3] (v2 :: v1 :: v0 :: .ref o :: S) h = if zkd h o = 1 ∧ zsum S ≤ 8 then zcall (ev 32 [.ref o, v0, v1, v2] h) (fun v h => rn 31 22 [l0, l1, l2, l3] (zpush v S) h) else none) ∧
  (∀ (l0 l1 l2 l3 : Value) (o : Nat) (v0 : Value) (S : List Value) (h : zH), rn 31 22 [l0, l1, l2, l3] (v0 :: .ref o :: S) h = if zkd h o = 11 ∧ zsum S ≤ 8 then zcall (ev 26 [.ref o, v0] h) (fun v h => rn 31 25 [l0, l1, l2, l3] (zpush v S) h) else none) ∧
  (∀ (l0 l1 l2 l3 : Value) (x : Int32) (h : zH), rn 31 25 [l0, l1, l2, l3] [.int x] h = some (some (.int x), h)) := ⟨fun _ _ _ _ _ _ => r_aload_nr (show zdec 31 0 = some (.aload_n 0, 1) by decide +kernel) rfl rfl,
  fun _ _ _ _ _ _ _ => r_getfield (show zdec 31 1 = some (.getfield 19, 3) by decide +kernel) (show zft.lookup (31 * zKEY + 19) = some (11, 1) by decide +kernel) rfl,
  fun _ _ _ _ _ _ => r_aload_nr (show zdec 31 4 = some (.aload_n 0, 1) by decide +kernel) rfl rfl,
  fun _ _ _ _ _ _ _ => r_getfield (show zdec 31 5 = some (.getfield 10, 3) by decide +kernel) (show zft.lookup (31 * zKEY + 10) = some (11, 0) by decide +kernel) rfl,
  fun _ _ _ _ _ _ _ _ => r_cV [_] rfl (show zdec 31 8 = some (.invokevirtual 58, 3) by decide +kernel) (show zst.lookup (31 * zKEY + 58) = some (1, 17, 1, 5) by decide +kernel) (by decide) rfl,
  fun _ _ _ _ _ _ => r_aload_nr (show zdec 31 11 = some (.aload_n 0, 1) by decide +kernel) rfl rfl,
  fun _ _ _ _ _ _ => r_aload_nr (show zdec 31 12 = some (.aload_n 0, 1) by decide +kernel) rfl rfl,
  fun _ _ _ _ _ _ _ => r_getfield (show zdec 31 13 = some (.getfield 10, 3) by decide +kernel) (show zft.lookup (31 * zKEY + 10) = some (11, 0) by decide +kernel) rfl,
  fun _ _ _ _ _ _ => r_iload_n (show zdec 31 16 = some (.iload_n 1, 1) by decide +kernel) rfl rfl,
  fun _ _ _ _ _ _ => r_iload_n (show zdec 31 17 = some (.iload_n 2, 1) by decide +kernel) rfl rfl,
  fun _ _ _ _ _ _ => r_iload_n (show zdec 31 18 = some (.iload_n 3, 1) by decide +kernel) rfl rfl,
  fun _ _ _ _ _ _ _ _ _ _ => r_cV [_, _, _] rfl (show zdec 31 19 = some (.invokevirtual 73, 3) by decide +kernel) (show zst.lookup (31 * zKEY + 73) = some (1, 32, 3, 1) by decide +kernel) (by decide) rfl,
  fun _ _ _ _ _ _ _ _ => r_cV [_] rfl (show zdec 31 22 = some (.invokevirtual 66, 3) by decide +kernel) (show zst.lookup (31 * zKEY + 66) = some (1, 26, 1, 11) by decide +kernel) (by decide) rfl,
  fun _ _ _ _ _ _ => r_ireti (show zdec 31 25 = some (.ireturn, 1) by decide +kernel) (by decide +kernel)⟩
theorem ze_31 : ∀ (a0 : Nat) (a1 : Int32) (a2 : Int32) (a3 : Int32) (h : zH), ev 31 [.ref a0, .int a1, .int a2, .int a3] h = rn 31 0 [.ref a0, .int a1, .int a2, .int a3] [] h := fun _ _ _ _ _ => if_pos (Nat.le_of_ble_eq_true rfl)
-- PayrollRun/Books.changeBonus(III)I
theorem zr_32 : (∀ (l0 l2 l3 l4 : Value) (x : Int32) (S : List Value) (h : zH), rn 32 0 [l0, .int x, l2, l3, l4] S h = rn 32 1 [l0, .int x, l2, l3, l4] (.int x :: S) h) ∧
  (∀ (l0 l1 l2 l3 l4 : Value) (v0 : Value) (S : List Value) (h : zH), rn 32 1 [l0, l1, l2, l3, l4] (v0 :: S) h = if zsum S ≤ 8 then zcall (ev 23 [v0] h) (fun v h => rn 32 4 [l0, l1, l2, l3, l4] (zpush v S) h) else none) ∧
  (∀ (l0 l1 l2 l3 l4 : Value) (x : Int32) (S : List Value) (h : zH), rn 32 4 [l0, l1, l2, l3, l4] (.int x :: S) h = if x = nI 0 then rn 32 25 [l0, l1, l2, l3, l4] S h else rn 32 7 [l0, l1, l2, l3, l4] S h) ∧
  (∀ (l0 l1 l3 l4 : Value) (x : Int32) (S : List Value) (h : zH), rn 32 7 [l0, l1, .int x, l3, l4] S h = rn 32 8 [l0, l1, .int x, l3, l4] (.int x :: S) h) ∧
  (∀ (l0 l1 l2 l3 l4 : Value) (v0 : Value) (S : List Value) (h : zH), rn 32 8 [l0, l1, l2, l3, l4] (v0 :: S) h = if zsum S ≤ 8 then zcall (ev 25 [v0] h) (fun v h => rn 32 11 [l0, l1, l2, l3, l4] (zpush v S) h) else none) ∧
  (∀ (l0 l1 l2 l3 l4 : Value) (x : Int32) (S : List Value) (h : zH), rn 32 11 [l0, l1, l2, l3, l4] (.int x :: S) h = if x = nI 0 then rn 32 25 [l0, l1, l2, l3, l4] S h else rn 32 14 [l0, l1, l2, l3, l4] S h) ∧
  (∀ (l0 l1 l2 l4 : Value) (x : Int32) (S : List Value) (h : zH), rn 32 14 [l0, l1, l2, .int x, l4] S h = rn 32 15 [l0, l1, l2, .int x, l4] (.int x :: S) h) ∧
  (∀ (l0 l1 l2 l3 l4 : Value) (S : List Value) (h : zH), rn 32 15 [l0, l1, l2, l3, l4] S h = rn 32 16 [l0, l1, l2, l3, l4] (.int (nI 0) :: S) h) ∧
  (∀ (l0 l1 l2 l3 l4 : Value) (S : List Value) (h : zH), rn 32 16 [l0, l1, l2, l3, l4] S h = rn 32 19 [l0, l1, l2, l3, l4] (.int (nI 9999) :: S) h) ∧
  (∀ (l0 l1 l2 l3 l4 : Value) (v0 : Value) (v1 : Value) (v2 : Value) (S : List Value) (h : zH), rn 32 19 [l0, l1, l2, l3, l4] (v2 :: v1 :: v0 :: S) h = if zsum S ≤ 8 then zcall (ev 24 [v0, v1, v2] h) (fun v h => rn 32 22 [l0, l1, l2, l3, l4] (zpush v S) h) else none) ∧
  (∀ (l0 l1 l2 l3 l4 : Value) (x : Int32) (S : List Value) (h : zH), rn 32 22 [l0, l1, l2, l3, l4] (.int x :: S) h = if x = nI 0 then rn 32 25 [l0, l1, l2, l3, l4] S h else rn 32 27 [l0, l1, l2, l3, l4] S h) ∧
  (∀ (l0 l1 l2 l3 l4 : Value) (S : List Value) (h : zH), rn 32 25 [l0, l1, l2, l3, l4] S h = rn 32 26 [l0, l1, l2, l3, l4] (.int (-1) :: S) h) ∧
  (∀ (l0 l1 l2 l3 l4 : Value) (x : Int32) (h : zH), rn 32 26 [l0, l1, l2, l3, l4] [.int x] h = some (some (.int x), h)) ∧
  (∀ (l1 l2 l3 l4 : Value) (x : Nat) (S : List Value) (h : zH), rn 32 27 [.ref x, l1, l2, l3, l4] S h = rn 32 28 [.ref x, l1, l2, l3, l4] (.ref x :: S) h) ∧
  (∀ (l0 l1 l2 l3 l4 : Value) (a : Nat) (S : List Value) (h : zH), rn 32 28 [l0, l1, l2, l3, l4] (.ref a :: S) h = zgf h a 1 0 fun v => rn 32 31 [l0, l1, l2, l3, l4] (v :: S) h) ∧
  (∀ (l0 l2 l3 l4 : Value) (x : Int32) (S : List Value) (h : zH), rn 32 31 [l0, .int x, l2, l3, l4] S h = rn 32 32 [l0, .int x, l2, l3, l4] (.int x :: S) h) ∧
  (∀ (l0 l1 l2 l3 l4 : Value) (a : Nat) (j : Int32) (S : List Value) (h : zH), rn 32 32 [l0, l1, l2, l3, l4] (.int j :: .ref a :: S) h = zlq h a j fun x => rn 32 33 [l0, l1, l2, l3, l4] (va_rf x :: S) h) ∧
  (∀ (l0 l1 l2 l3 l4 : Value) (a : Nat) (S : List Value) (h : zH), rn 32 33 [l0, l1, l2, l3, l4] (.ref a :: S) h = zgf h a 10 0 fun v => rn 32 36 [l0, l1, l2, l3, l4] (v :: S) h) ∧
  (∀ (l0 l1 l2 l3 l4 : Value) (S : List Value) (h : zH), rn 32 36 [l0, l1, l2, l3, l4] S h = rn 32 38 [l0, l1, l2, l3, l4] (.int (nI 24) :: S) h) ∧
  (∀ (l0 l1 l3 l4 : Value) (x : Int32) (S : List Value) (h : zH), rn 32 38 [l0, l1, .int x, l3, l4] S h = rn 32 39 [l0, l1, .int x, l3, l4] (.int x :: S) h) ∧
  (∀ (l0 l1 l2 l3 l4 : Value) (x : Int32) (y : Int32) (S : List Value) (h : zH), rn 32 39 [l0, l1, l2, l3, l4] (.int y :: .int x :: S) h = rn 32 40 [l0, l1, l2, l3, l4] (.int (x + y) :: S) h) ∧
  (∀ (l0 l1 l2 l3 l4 : Value) (a : Nat) (j : Int32) (S : List Value) (h : zH), rn 32 40 [l0, l1, l2, l3, l4] (.int j :: .ref a :: S) h = zli h a 0 j fun x => rn 32 41 [l0, l1, l2, l3, l4] (.int x :: S) h) ∧
  (∀ (l0 l1 l2 l3 l4 : Value) (x : Int32) (S : List Value) (h : zH), rn 32 41 [l0, l1, l2, l3, l4] (.int x :: S) h = nl l3 (rn 32 43 [l0, l1, l2, l3, .int x] S h)) ∧
  (∀ (l1 l2 l3 l4 : Value) (x : Nat) (S : List Value) (h : zH), rn 32 43 [.ref x, l1, l2, l3, l4] S h = rn 32 44 [.ref x, l1, l2, l3, l4] (.ref x :: S) h) ∧
  (∀ (l0 l1 l2 l3 l4 : Value) (a : Nat) (S : List Value) (h : zH), rn 32 44 [l0, l1, l2, l3, l4] (.ref a :: S) h = zgf h a 1 0 fun v => rn 32 47 [l0, l1, l2, l3, l4] (v :: S) h) ∧
  (∀ (l0 l2 l3 l4 : Value) (x : Int32) (S : List Value) (h : zH), rn 32 47 [l0, .int x, l2, l3, l4] S h = rn 32 48 [l0, .int x, l2, l3, l4] (.int x :: S) h) ∧
  (∀ (l0 l1 l2 l3 l4 : Value) (a : Nat) (j : Int32) (S : List Value) (h : zH), rn 32 48 [l0, l1, l2, l3, l4] (.int j :: .ref a :: S) h = zlq h a j fun x => rn 32 49 [l0, l1, l2, l3, l4] (va_rf x :: S) h) ∧
  (∀ (l0 l1 l2 l3 l4 : Value) (a : Nat) (S : List Value) (h : zH), rn 32 49 [l0, l1, l2, l3, l4] (.ref a :: S) h = zgf h a 10 0 fun v => rn 32 52 [l0, l1, l2, l3, l4] (v :: S) h) ∧
  (∀ (l0 l1 l2 l3 l4 : Value) (S : List Value) (h : zH), rn 32 52 [l0, l1, l2, l3, l4] S h = rn 32 54 [l0, l1, l2, l3, l4] (.int (nI 24) :: S) h) ∧
  (∀ (l0 l1 l3 l4 : Value) (x : Int32) (S : List Value) (h : zH), rn 32 54 [l0, l1, .int x, l3, l4] S h = rn 32 55 [l0, l1, .int x, l3, l4] (.int x :: S) h) ∧
  (∀ (l0 l1 l2 l3 l4 : Value) (x : Int32) (y : Int32) (S : List Value) (h : zH), rn 32 55 [l0, l1, l2, l3, l4] (.int y :: .int x :: S) h = rn 32 56 [l0, l1, l2, l3, l4] (.int (x + y) :: S) h) ∧
  (∀ (l0 l1 l2 l4 : Value) (x : Int32) (S : List Value) (h : zH), rn 32 56 [l0, l1, l2, .int x, l4] S h = rn 32 57 [l0, l1, l2, .int x, l4] (.int x :: S) h) ∧
  (∀ (l0 l1 l2 l3 l4 : Value) (a : Nat) (j : Int32) (x : Int32) (S : List Value) (h : zH), rn 32 57 [l0, l1, l2, l3, l4] (.int x :: .int j :: .ref a :: S) h = zsi h a 0 j x fun h => rn 32 58 [l0, l1, l2, l3, l4] S h) ∧
  (∀ (l0 l1 l2 l3 : Value) (x : Int32) (S : List Value) (h : zH), rn 32 58 [l0, l1, l2, l3, .int x] S h = rn 32 60 [l0, l1, l2, l3, .int x] (.int x :: S) h) ∧
  (∀ (l0 l1 l2 l3 l4 : Value) (x : Int32) (h : zH), rn 32 60 [l0, l1, l2, l3, l4] [.int x] h = some (some (.int x), h)) := ⟨fun _ _ _ _ _ _ _ => r_iload_n (show zdec 32 0 = some (.iload_n 1, 1) by decide +kernel) rfl rfl,
  fun _ _ _ _ _ _ _ _ => r_cS [_] rfl (show zdec 32 1 = some (.invokestatic 43, 3) by decide +kernel) (show zst.lookup (32 * zKEY + 43) = some (3, 23, 1, 0) by decide +kernel) (by decide) rfl,
  fun _ _ _ _ _ _ _ _ => r_ifeq (show zdec 32 4 = some (.ifCond .eq 21, 3) by decide +kernel) rfl rfl,
  fun _ _ _ _ _ _ _ => r_iload_n (show zdec 32 7 = some (.iload_n 2, 1) by decide +kernel) rfl rfl,
  fun _ _ _ _ _ _ _ _ => r_cS [_] rfl (show zdec 32 8 = some (.invokestatic 47, 3) by decide +kernel) (show zst.lookup (32 * zKEY + 47) = some (3, 25, 1, 0) by decide +kernel) (by decide) rfl,
  fun _ _ _ _ _ _ _ _ => r_ifeq (show zdec 32 11 = some (.ifCond .eq 14, 3) by decide +kernel) rfl rfl,
  fun _ _ _ _ _ _ _ => r_iload_n (show zdec 32 14 = some (.iload_n 3, 1) by decide +kernel) rfl rfl,
  fun _ _ _ _ _ _ _ => r_iconst (show zdec 32 15 = some (.iconst 0, 1) by decide +kernel) rfl rfl,
  fun _ _ _ _ _ _ _ => r_sipush (show zdec 32 16 = some (.sipush 9999, 3) by decide +kernel) rfl rfl,
  fun _ _ _ _ _ _ _ _ _ _ => r_cS [_, _, _] rfl (show zdec 32 19 = some (.invokestatic 50, 3) by decide +kernel) (show zst.lookup (32 * zKEY + 50) = some (3, 24, 3, 0) by decide +kernel) (by decide) rfl,
  fun _ _ _ _ _ _ _ _ => r_ifne (show zdec 32 22 = some (.ifCond .ne 5, 3) by decide +kernel) rfl rfl,
  fun _ _ _ _ _ _ _ => r_iconst (show zdec 32 25 = some (.iconst (-1), 1) by decide +kernel) rfl rfl,
  fun _ _ _ _ _ _ _ => r_ireti (show zdec 32 26 = some (.ireturn, 1) by decide +kernel) (by decide +kernel),
  fun _ _ _ _ _ _ _ => r_aload_nr (show zdec 32 27 = some (.aload_n 0, 1) by decide +kernel) rfl rfl,
  fun _ _ _ _ _ _ _ _ => r_getfield (show zdec 32 28 = some (.getfield 11, 3) by decide +kernel) (show zft.lookup (32 * zKEY + 11) = some (1, 0) by decide +kernel) rfl,
  fun _ _ _ _ _ _ _ => r_iload_n (show zdec 32 31 = some (.iload_n 1, 1) by decide +kernel) rfl rfl,
  fun _ _ _ _ _ _ _ _ _ => r_aald (show zdec 32 32 = some (.aaload, 1) by decide +kernel) rfl,
  fun _ _ _ _ _ _ _ _ => r_getfield (show zdec 32 33 = some (.getfield 54, 3) by decide +kernel) (show zft.lookup (32 * zKEY + 54) = some (10, 0) by decide +kernel) rfl,
  fun _ _ _ _ _ _ _ => r_bipush (show zdec 32 36 = some (.bipush 24, 2) by decide +kernel) rfl rfl,
  fun _ _ _ _ _ _ _ => r_iload_n (show zdec 32 38 = some (.iload_n 2, 1) by decide +kernel) rfl rfl,
  fun _ _ _ _ _ _ _ _ _ => r_iadd (show zdec 32 39 = some (.iadd, 1) by decide +kernel) rfl,
  fun _ _ _ _ _ _ _ _ _ => r_iald (show zdec 32 40 = some (.iaload, 1) by decide +kernel) rfl,
  fun _ _ _ _ _ _ _ _ => r_istore (show zdec 32 41 = some (.istore 4, 2) by decide +kernel) rfl (Nat.le_of_ble_eq_true rfl) rfl rfl,
  fun _ _ _ _ _ _ _ => r_aload_nr (show zdec 32 43 = some (.aload_n 0, 1) by decide +kernel) rfl rfl,
  fun _ _ _ _ _ _ _ _ => r_getfield (show zdec 32 44 = some (.getfield 11, 3) by decide +kernel) (show zft.lookup (32 * zKEY + 11) = some (1, 0) by decide +kernel) rfl,
  fun _ _ _ _ _ _ _ => r_iload_n (show zdec 32 47 = some (.iload_n 1, 1) by decide +kernel) rfl rfl,
  fun _ _ _ _ _ _ _ _ _ => r_aald (show zdec 32 48 = some (.aaload, 1) by decide +kernel) rfl,
  fun _ _ _ _ _ _ _ _ => r_getfield (show zdec 32 49 = some (.getfield 54, 3) by decide +kernel) (show zft.lookup (32 * zKEY + 54) = some (10, 0) by decide +kernel) rfl,
  fun _ _ _ _ _ _ _ => r_bipush (show zdec 32 52 = some (.bipush 24, 2) by decide +kernel) rfl rfl,
  fun _ _ _ _ _ _ _ => r_iload_n (show zdec 32 54 = some (.iload_n 2, 1) by decide +kernel) rfl rfl,
  fun _ _ _ _ _ _ _ _ _ => r_iadd (show zdec 32 55 = some (.iadd, 1) by decide +kernel) rfl,
  fun _ _ _ _ _ _ _ => r_iload_n (show zdec 32 56 = some (.iload_n 3, 1) by decide +kernel) rfl rfl,
  fun _ _ _ _ _ _ _ _ _ _ => r_iast (show zdec 32 57 = some (.iastore, 1) by decide +kernel) rfl,
  fun _ _ _ _ _ _ _ => r_iload (show zdec 32 58 = some (.iload 4, 2) by decide +kernel) rfl rfl,
  fun _ _ _ _ _ _ _ => r_ireti (show zdec 32 60 = some (.ireturn, 1) by decide +kernel) (by decide +kernel)⟩
theorem ze_32 : ∀ (a0 : Nat) (a1 : Int32) (a2 : Int32) (a3 : Int32) (h : zH), ev 32 [.ref a0, .int a1, .int a2, .int a3] h = rn 32 0 [.ref a0, .int a1, .int a2, .int a3, .float 0] [] h := fun _ _ _ _ _ => if_pos (Nat.le_of_ble_eq_true rfl)
-- PayrollRun.setFloor(II)I
theorem zr_33 : (∀ (l1 l2 : Value) (x : Nat) (S : List Value) (h : zH), rn 33 0 [.ref x, l1, l2] S h = rn 33 1 [.ref x, l1, l2] (.ref x :: S) h) ∧
  (∀ (l0 l1 l2 : Value) (a : Nat) (S : List Value) (h : zH), rn 33 1 [l0, l1, l2] (.ref a :: S) h = zgf h a 11 1 fun v => rn 33 4 [l0, l1, l2] (v :: S) h) ∧
  (∀ (l1 l2 : Value) (x : Nat) (S : List Value) (h : zH), rn 33 4 [.ref x, l1, l2] S h = rn 33 5 [.ref x, l1, l2] (.ref x :: S) h) ∧
  (∀ (l0 l1 l2 : Value) (a : Nat) (S : List Value) (h : zH), rn 33 5 [l0, l1, l2] (.ref a :: S) h = zgf h a 11 0 fun v => rn 33 8 [l0, l1, l2] (v :: S) h) ∧
  (∀ (l0 l1 l2 : Value) (o : Nat) (v0 : Value) (S : List Value) (h : zH), rn 33 8 [l0, l1, l2] (v0 :: .ref o :: S) h = if zkd h o = 5 ∧ zsum S ≤ 8 then zcall (ev 17 [.ref o, v0] h) (fun v h => rn 33 11 [l0, l1, l2] (zpush v S) h) else none) ∧
  (∀ (l1 l2 : Value) (x : Nat) (S : List Value) (h : zH), rn 33 11 [.ref x, l1, l2] S h = rn 33 12 [.ref x, l1, l2] (.ref x :: S) h) ∧
  (∀ (l1 l2 : Value) (x : Nat) (S : List Value) (h : zH), rn 33 12 [.ref x, l1, l2] S h = rn 33 13 [.ref x, l1, l2] (.ref x :: S) h) ∧
  (∀ (l0 l1 l2 : Value) (a : Nat) (S : List Value) (h : zH), rn 33 13 [l0, l1, l2] (.ref a :: S) h = zgf h a 11 0 fun v => rn 33 16 [l0, l1, l2] (v :: S) h) ∧
  (∀ (l0 l2 : Value) (x : Int32) (S : List Value) (h : zH), rn 33 16 [l0, .int x, l2] S h = rn 33 17 [l0, .int x, l2] (.int x :: S) h) ∧
  (∀ (l0 l1 : Value) (x : Int32) (S : List Value) (h : zH), rn 33 17 [l0, l1, .int x] S h = rn 33 18 [l0, l1, .int x] (.int x :: S) h) ∧
  (∀ (l0 l1 l2 : Value) (o : Nat) (v0 : Value) (v1 : Value) (S : List Value) (h : zH), rn 33 18 [l0, l1, l2] (v1 :: v0 :: .ref o :: S) h = if zkd h o = 1 ∧ zsum S ≤ 8 then zcall (ev 34 [.ref o, v0, v1] h) (fun v h => rn 33 21 [l0, l1, l2] (zpush v S) h) else none) ∧
  (∀ (l0 l1 l2 : Value) (o : Nat) (v0 : Value) (S : List Value) (h : zH), rn 33 21 [l0, l1, l2] (v0 :: .ref o :: S) h = if zkd h o = 11 ∧ zsum S ≤ 8 then zcall (ev 26 [.ref o, v0] h) (fun v h => rn 33 24 [l0, l1, l2] (zpush v S) h) else none) ∧
  (∀ (l0 l1 l2 : Value) (x : Int32) (h : zH), rn 33 24 [l0, l1, l2] [.int x] h = some (some (.int x), h)) := ⟨fun _ _ _ _ _ => r_aload_nr (show zdec 33 0 = some (.aload_n 0, 1) by decide +kernel) rfl rfl,
  fun _ _ _ _ _ _ => r_getfield (show zdec 33 1 = some (.getfield 19, 3) by decide +kernel) (show zft.lookup (33 * zKEY + 19) = some (11, 1) by decide +kernel) rfl,
  fun _ _ _ _ _ => r_aload_nr (show zdec 33 4 = some (.aload_n 0, 1) by decide +kernel) rfl rfl,
  fun _ _ _ _ _ _ => r_getfield (show zdec 33 5 = some (.getfield 10, 3) by decide +kernel) (show zft.lookup (33 * zKEY + 10) = some (11, 0) by decide +kernel) rfl,
  fun _ _ _ _ _ _ _ => r_cV [_] rfl (show zdec 33 8 = some (.invokevirtual 58, 3) by decide +kernel) (show zst.lookup (33 * zKEY + 58) = some (1, 17, 1, 5) by decide +kernel) (by decide) rfl,
  fun _ _ _ _ _ => r_aload_nr (show zdec 33 11 = some (.aload_n 0, 1) by decide +kernel) rfl rfl,
  fun _ _ _ _ _ => r_aload_nr (show zdec 33 12 = some (.aload_n 0, 1) by decide +kernel) rfl rfl,
  fun _ _ _ _ _ _ => r_getfield (show zdec 33 13 = some (.getfield 10, 3) by decide +kernel) (show zft.lookup (33 * zKEY + 10) = some (11, 0) by decide +kernel) rfl,
  fun _ _ _ _ _ => r_iload_n (show zdec 33 16 = some (.iload_n 1, 1) by decide +kernel) rfl rfl,
  fun _ _ _ _ _ => r_iload_n (show zdec 33 17 = some (.iload_n 2, 1) by decide +kernel) rfl rfl,
  fun _ _ _ _ _ _ _ _ => r_cV [_, _] rfl (show zdec 33 18 = some (.invokevirtual 76, 3) by decide +kernel) (show zst.lookup (33 * zKEY + 76) = some (1, 34, 2, 1) by decide +kernel) (by decide) rfl,
  fun _ _ _ _ _ _ _ => r_cV [_] rfl (show zdec 33 21 = some (.invokevirtual 66, 3) by decide +kernel) (show zst.lookup (33 * zKEY + 66) = some (1, 26, 1, 11) by decide +kernel) (by decide) rfl,
  fun _ _ _ _ _ => r_ireti (show zdec 33 24 = some (.ireturn, 1) by decide +kernel) (by decide +kernel)⟩
theorem ze_33 : ∀ (a0 : Nat) (a1 : Int32) (a2 : Int32) (h : zH), ev 33 [.ref a0, .int a1, .int a2] h = rn 33 0 [.ref a0, .int a1, .int a2] [] h := fun _ _ _ _ => if_pos (Nat.le_of_ble_eq_true rfl)
-- PayrollRun/Books.changeFloor(II)I
theorem zr_34 : (∀ (l0 l2 l3 : Value) (x : Int32) (S : List Value) (h : zH), rn 34 0 [l0, .int x, l2, l3] S h = rn 34 1 [l0, .int x, l2, l3] (.int x :: S) h) ∧
  (∀ (l0 l1 l2 l3 : Value) (v0 : Value) (S : List Value) (h : zH), rn 34 1 [l0, l1, l2, l3] (v0 :: S) h = if zsum S ≤ 8 then zcall (ev 23 [v0] h) (fun v h => rn 34 4 [l0, l1, l2, l3] (zpush v S) h) else none) ∧
  (∀ (l0 l1 l2 l3 : Value) (x : Int32) (S : List Value) (h : zH), rn 34 4 [l0, l1, l2, l3] (.int x :: S) h = if x = nI 0 then rn 34 18 [l0, l1, l2, l3] S h else rn 34 7 [l0, l1, l2, l3] S h) ∧
  (∀ (l0 l1 l3 : Value) (x : Int32) (S : List Value) (h : zH), rn 34 7 [l0, l1, .int x, l3] S h = rn 34 8 [l0, l1, .int x, l3] (.int x :: S) h) ∧
  (∀ (l0 l1 l2 l3 : Value) (S : List Value) (h : zH), rn 34 8 [l0, l1, l2, l3] S h = rn 34 9 [l0, l1, l2, l3] (.int (nI 0) :: S) h) ∧
  (∀ (l0 l1 l2 l3 : Value) (S : List Value) (h : zH), rn 34 9 [l0, l1, l2, l3] S h = rn 34 12 [l0, l1, l2, l3] (.int (nI 9999) :: S) h) ∧
  (∀ (l0 l1 l2 l3 : Value) (v0 : Value) (v1 : Value) (v2 : Value) (S : List Value) (h : zH), rn 34 12 [l0, l1, l2, l3] (v2 :: v1 :: v0 :: S) h = if zsum S ≤ 8 then zcall (ev 24 [v0, v1, v2] h) (fun v h => rn 34 15 [l0, l1, l2, l3] (zpush v S) h) else none) ∧
  (∀ (l0 l1 l2 l3 : Value) (x : Int32) (S : List Value) (h : zH), rn 34 15 [l0, l1, l2, l3] (.int x :: S) h = if x = nI 0 then rn 34 18 [l0, l1, l2, l3] S h else rn 34 20 [l0, l1, l2, l3] S h) ∧
  (∀ (l0 l1 l2 l3 : Value) (S : List Value) (h : zH), rn 34 18 [l0, l1, l2, l3] S h = rn 34 19 [l0, l1, l2, l3] (.int (-1) :: S) h) ∧
  (∀ (l0 l1 l2 l3 : Value) (x : Int32) (h : zH), rn 34 19 [l0, l1, l2, l3] [.int x] h = some (some (.int x), h)) ∧
  (∀ (l1 l2 l3 : Value) (x : Nat) (S : List Value) (h : zH), rn 34 20 [.ref x, l1, l2, l3] S h = rn 34 21 [.ref x, l1, l2, l3] (.ref x :: S) h) ∧
  (∀ (l0 l1 l2 l3 : Value) (a : Nat) (S : List Value) (h : zH), rn 34 21 [l0, l1, l2, l3] (.ref a :: S) h = zgf h a 1 0 fun v => rn 34 24 [l0, l1, l2, l3] (v :: S) h) ∧
  (∀ (l0 l2 l3 : Value) (x : Int32) (S : List Value) (h : zH), rn 34 24 [l0, .int x, l2, l3] S h = rn 34 25 [l0, .int x, l2, l3] (.int x :: S) h) ∧
  (∀ (l0 l1 l2 l3 : Value) (a : Nat) (j : Int32) (S : List Value) (h : zH), rn 34 25 [l0, l1, l2, l3] (.int j :: .ref a :: S) h = zlq h a j fun x => rn 34 26 [l0, l1, l2, l3] (va_rf x :: S) h) ∧
  (∀ (l0 l1 l2 l3 : Value) (a : Nat) (S : List Value) (h : zH), rn 34 26 [l0, l1, l2, l3] (.ref a :: S) h = zgf h a 10 5 fun v => rn 34 29 [l0, l1, l2, l3] (v :: S) h) ∧
  (∀ (l0 l1 l2 l3 : Value) (x : Int32) (S : List Value) (h : zH), rn 34 29 [l0, l1, l2, l3] (.int x :: S) h = nl l2 (rn 34 30 [l0, l1, l2, .int x] S h)) ∧
  (∀ (l1 l2 l3 : Value) (x : Nat) (S : List Value) (h : zH), rn 34 30 [.ref x, l1, l2, l3] S h = rn 34 31 [.ref x, l1, l2, l3] (.ref x :: S) h) ∧
  (∀ (l0 l1 l2 l3 : Value) (a : Nat) (S : List Value) (h : zH), rn 34 31 [l0, l1, l2, l3] (.ref a :: S) h = zgf h a 1 0 fun v => rn 34 34 [l0, l1, l2, l3] (v :: S) h) ∧
  (∀ (l0 l2 l3 : Value) (x : Int32) (S : List Value) (h : zH), rn 34 34 [l0, .int x, l2, l3] S h = rn 34 35 [l0, .int x, l2, l3] (.int x :: S) h) ∧
  (∀ (l0 l1 l2 l3 : Value) (a : Nat) (j : Int32) (S : List Value) (h : zH), rn 34 35 [l0, l1, l2, l3] (.int j :: .ref a :: S) h = zlq h a j fun x => rn 34 36 [l0, l1, l2, l3] (va_rf x :: S) h) ∧
  (∀ (l0 l1 l3 : Value) (x : Int32) (S : List Value) (h : zH), rn 34 36 [l0, l1, .int x, l3] S h = rn 34 37 [l0, l1, .int x, l3] (.int x :: S) h) ∧
  (∀ (l0 l1 l2 l3 : Value) (a : Nat) (v : Value) (S : List Value) (h : zH), rn 34 37 [l0, l1, l2, l3] (v :: .ref a :: S) h = zpf h a 10 5 v fun h => rn 34 40 [l0, l1, l2, l3] S h) ∧
  (∀ (l0 l1 l2 : Value) (x : Int32) (S : List Value) (h : zH), rn 34 40 [l0, l1, l2, .int x] S h = rn 34 41 [l0, l1, l2, .int x] (.int x :: S) h) ∧
  (∀ (l0 l1 l2 l3 : Value) (x : Int32) (h : zH), rn 34 41 [l0, l1, l2, l3] [.int x] h = some (some (.int x), h)) := ⟨fun _ _ _ _ _ _ => r_iload_n (show zdec 34 0 = some (.iload_n 1, 1) by decide +kernel) rfl rfl,
  fun _ _ _ _ _ _ _ => r_cS [_] rfl (show zdec 34 1 = some (.invokestatic 43, 3) by decide +kernel) (show zst.lookup (34 * zKEY + 43) = some (3, 23, 1, 0) by decide +kernel) (by decide) rfl,
  fun _ _ _ _ _ _ _ => r_ifeq (show zdec 34 4 = some (.ifCond .eq 14, 3) by decide +kernel) rfl rfl,
  fun _ _ _ _ _ _ => r_iload_n (show zdec 34 7 = some (.iload_n 2, 1) by decide +kernel) rfl rfl,
  fun _ _ _ _ _ _ => r_iconst (show zdec 34 8 = some (.iconst 0, 1) by decide +kernel) rfl rfl,
  fun _ _ _ _ _ _ => r_sipush (show zdec 34 9 = some (.sipush 9999, 3) by decide +kernel) rfl rfl,
  fun _ _ _ _ _ _ _ _ _ => r_cS [_, _, _] rfl (show zdec 34 12 = some (.invokestatic 50, 3) by decide +kernel) (show zst.lookup (34 * zKEY + 50) = some (3, 24, 3, 0) by decide +kernel) (by decide) rfl,
  fun _ _ _ _ _ _ _ => r_ifne (show zdec 34 15 = some (.ifCond .ne 5, 3) by decide +kernel) rfl rfl,
  fun _ _ _ _ _ _ => r_iconst (show zdec 34 18 = some (.iconst (-1), 1) by decide +kernel) rfl rfl,
  fun _ _ _ _ _ _ => r_ireti (show zdec 34 19 = some (.ireturn, 1) by decide +kernel) (by decide +kernel),
  fun _ _ _ _ _ _ => r_aload_nr (show zdec 34 20 = some (.aload_n 0, 1) by decide +kernel) rfl rfl,
  fun _ _ _ _ _ _ _ => r_getfield (show zdec 34 21 = some (.getfield 11, 3) by decide +kernel) (show zft.lookup (34 * zKEY + 11) = some (1, 0) by decide +kernel) rfl,
  fun _ _ _ _ _ _ => r_iload_n (show zdec 34 24 = some (.iload_n 1, 1) by decide +kernel) rfl rfl,
  fun _ _ _ _ _ _ _ _ => r_aald (show zdec 34 25 = some (.aaload, 1) by decide +kernel) rfl,
  fun _ _ _ _ _ _ _ => r_getfield (show zdec 34 26 = some (.getfield 58, 3) by decide +kernel) (show zft.lookup (34 * zKEY + 58) = some (10, 5) by decide +kernel) rfl,
  fun _ _ _ _ _ _ _ => r_istore_n (show zdec 34 29 = some (.istore_n 3, 1) by decide +kernel) rfl rfl (Nat.le_of_ble_eq_true rfl) rfl rfl,
  fun _ _ _ _ _ _ => r_aload_nr (show zdec 34 30 = some (.aload_n 0, 1) by decide +kernel) rfl rfl,
  fun _ _ _ _ _ _ _ => r_getfield (show zdec 34 31 = some (.getfield 11, 3) by decide +kernel) (show zft.lookup (34 * zKEY + 11) = some (1, 0) by decide +kernel) rfl,
  fun _ _ _ _ _ _ => r_iload_n (show zdec 34 34 = some (.iload_n 1, 1) by decide +kernel) rfl rfl,
  fun _ _ _ _ _ _ _ _ => r_aald (show zdec 34 35 = some (.aaload, 1) by decide +kernel) rfl,
  fun _ _ _ _ _ _ => r_iload_n (show zdec 34 36 = some (.iload_n 2, 1) by decide +kernel) rfl rfl,
  fun _ _ _ _ _ _ _ _ => r_putfield (show zdec 34 37 = some (.putfield 58, 3) by decide +kernel) (show zft.lookup (34 * zKEY + 58) = some (10, 5) by decide +kernel) (by decide +kernel) rfl,
  fun _ _ _ _ _ _ => r_iload_n (show zdec 34 40 = some (.iload_n 3, 1) by decide +kernel) rfl rfl,
  fun _ _ _ _ _ _ => r_ireti (show zdec 34 41 = some (.ireturn, 1) by decide +kernel) (by decide +kernel)⟩
theorem ze_34 : ∀ (a0 : Nat) (a1 : Int32) (a2 : Int32) (h : zH), ev 34 [.ref a0, .int a1, .int a2] h = rn 34 0 [.ref a0, .int a1, .int a2, .float 0] [] h := fun _ _ _ _ => if_pos (Nat.le_of_ble_eq_true rfl)
-- PayrollRun.setRate(II)I
theorem zr_35 : (∀ (l1 l2 : Value) (x : Nat) (S : List Value) (h : zH), rn 35 0 [.ref x, l1, l2] S h = rn 35 1 [.ref x, l1, l2] (.ref x :: S) h) ∧
  (∀ (l0 l1 l2 : Value) (a : Nat) (S : List Value) (h : zH), rn 35 1 [l0, l1, l2] (.ref a :: S) h = zgf h a 11 1 fun v => rn 35 4 [l0, l1, l2] (v :: S) h) ∧
  (∀ (l1 l2 : Value) (x : Nat) (S : List Value) (h : zH), rn 35 4 [.ref x, l1, l2] S h = rn 35 5 [.ref x, l1, l2] (.ref x :: S) h) ∧
  (∀ (l0 l1 l2 : Value) (a : Nat) (S : List Value) (h : zH), rn 35 5 [l0, l1, l2] (.ref a :: S) h = zgf h a 11 0 fun v => rn 35 8 [l0, l1, l2] (v :: S) h) ∧
  (∀ (l0 l1 l2 : Value) (o : Nat) (v0 : Value) (S : List Value) (h : zH), rn 35 8 [l0, l1, l2] (v0 :: .ref o :: S) h = if zkd h o = 5 ∧ zsum S ≤ 8 then zcall (ev 17 [.ref o, v0] h) (fun v h => rn 35 11 [l0, l1, l2] (zpush v S) h) else none) ∧
  (∀ (l1 l2 : Value) (x : Nat) (S : List Value) (h : zH), rn 35 11 [.ref x, l1, l2] S h = rn 35 12 [.ref x, l1, l2] (.ref x :: S) h) ∧
  (∀ (l1 l2 : Value) (x : Nat) (S : List Value) (h : zH), rn 35 12 [.ref x, l1, l2] S h = rn 35 13 [.ref x, l1, l2] (.ref x :: S) h) ∧
  (∀ (l0 l1 l2 : Value) (a : Nat) (S : List Value) (h : zH), rn 35 13 [l0, l1, l2] (.ref a :: S) h = zgf h a 11 0 fun v => rn 35 16 [l0, l1, l2] (v :: S) h) ∧
  (∀ (l0 l2 : Value) (x : Int32) (S : List Value) (h : zH), rn 35 16 [l0, .int x, l2] S h = rn 35 17 [l0, .int x, l2] (.int x :: S) h) ∧
  (∀ (l0 l1 : Value) (x : Int32) (S : List Value) (h : zH), rn 35 17 [l0, l1, .int x] S h = rn 35 18 [l0, l1, .int x] (.int x :: S) h) ∧
  (∀ (l0 l1 l2 : Value) (o : Nat) (v0 : Value) (v1 : Value) (S : List Value) (h : zH), rn 35 18 [l0, l1, l2] (v1 :: v0 :: .ref o :: S) h = if zkd h o = 1 ∧ zsum S ≤ 8 then zcall (ev 36 [.ref o, v0, v1] h) (fun v h => rn 35 21 [l0, l1, l2] (zpush v S) h) else none) ∧
  (∀ (l0 l1 l2 : Value) (o : Nat) (v0 : Value) (S : List Value) (h : zH), rn 35 21 [l0, l1, l2] (v0 :: .ref o :: S) h = if zkd h o = 11 ∧ zsum S ≤ 8 then zcall (ev 26 [.ref o, v0] h) (fun v h => rn 35 24 [l0, l1, l2] (zpush v S) h) else none) ∧
  (∀ (l0 l1 l2 : Value) (x : Int32) (h : zH), rn 35 24 [l0, l1, l2] [.int x] h = some (some (.int x), h)) := ⟨fun _ _ _ _ _ => r_aload_nr (show zdec 35 0 = some (.aload_n 0, 1) by decide +kernel) rfl rfl,
  fun _ _ _ _ _ _ => r_getfield (show zdec 35 1 = some (.getfield 19, 3) by decide +kernel) (show zft.lookup (35 * zKEY + 19) = some (11, 1) by decide +kernel) rfl,
  fun _ _ _ _ _ => r_aload_nr (show zdec 35 4 = some (.aload_n 0, 1) by decide +kernel) rfl rfl,
  fun _ _ _ _ _ _ => r_getfield (show zdec 35 5 = some (.getfield 10, 3) by decide +kernel) (show zft.lookup (35 * zKEY + 10) = some (11, 0) by decide +kernel) rfl,
  fun _ _ _ _ _ _ _ => r_cV [_] rfl (show zdec 35 8 = some (.invokevirtual 58, 3) by decide +kernel) (show zst.lookup (35 * zKEY + 58) = some (1, 17, 1, 5) by decide +kernel) (by decide) rfl,
  fun _ _ _ _ _ => r_aload_nr (show zdec 35 11 = some (.aload_n 0, 1) by decide +kernel) rfl rfl,
  fun _ _ _ _ _ => r_aload_nr (show zdec 35 12 = some (.aload_n 0, 1) by decide +kernel) rfl rfl,
  fun _ _ _ _ _ _ => r_getfield (show zdec 35 13 = some (.getfield 10, 3) by decide +kernel) (show zft.lookup (35 * zKEY + 10) = some (11, 0) by decide +kernel) rfl,
  fun _ _ _ _ _ => r_iload_n (show zdec 35 16 = some (.iload_n 1, 1) by decide +kernel) rfl rfl,
  fun _ _ _ _ _ => r_iload_n (show zdec 35 17 = some (.iload_n 2, 1) by decide +kernel) rfl rfl,
  fun _ _ _ _ _ _ _ _ => r_cV [_, _] rfl (show zdec 35 18 = some (.invokevirtual 80, 3) by decide +kernel) (show zst.lookup (35 * zKEY + 80) = some (1, 36, 2, 1) by decide +kernel) (by decide) rfl,
  fun _ _ _ _ _ _ _ => r_cV [_] rfl (show zdec 35 21 = some (.invokevirtual 66, 3) by decide +kernel) (show zst.lookup (35 * zKEY + 66) = some (1, 26, 1, 11) by decide +kernel) (by decide) rfl,
  fun _ _ _ _ _ => r_ireti (show zdec 35 24 = some (.ireturn, 1) by decide +kernel) (by decide +kernel)⟩
theorem ze_35 : ∀ (a0 : Nat) (a1 : Int32) (a2 : Int32) (h : zH), ev 35 [.ref a0, .int a1, .int a2] h = rn 35 0 [.ref a0, .int a1, .int a2] [] h := fun _ _ _ _ => if_pos (Nat.le_of_ble_eq_true rfl)
-- PayrollRun/Books.changeRate(II)I
theorem zr_36 : (∀ (l0 l2 l3 : Value) (x : Int32) (S : List Value) (h : zH), rn 36 0 [l0, .int x, l2, l3] S h = rn 36 1 [l0, .int x, l2, l3] (.int x :: S) h) ∧
  (∀ (l0 l1 l2 l3 : Value) (S : List Value) (h : zH), rn 36 1 [l0, l1, l2, l3] S h = rn 36 2 [l0, l1, l2, l3] (.int (nI 0) :: S) h) ∧
  (∀ (l0 l1 l2 l3 : Value) (S : List Value) (h : zH), rn 36 2 [l0, l1, l2, l3] S h = rn 36 3 [l0, l1, l2, l3] (.int (nI 1) :: S) h) ∧
  (∀ (l0 l1 l2 l3 : Value) (v0 : Value) (v1 : Value) (v2 : Value) (S : List Value) (h : zH), rn 36 3 [l0, l1, l2, l3] (v2 :: v1 :: v0 :: S) h = if zsum S ≤ 8 then zcall (ev 24 [v0, v1, v2] h) (fun v h => rn 36 6 [l0, l1, l2, l3] (zpush v S) h) else none) ∧
  (∀ (l0 l1 l2 l3 : Value) (x : Int32) (S : List Value) (h : zH), rn 36 6 [l0, l1, l2, l3] (.int x :: S) h = if x = nI 0 then rn 36 20 [l0, l1, l2, l3] S h else rn 36 9 [l0, l1, l2, l3] S h) ∧
  (∀ (l0 l1 l3 : Value) (x : Int32) (S : List Value) (h : zH), rn 36 9 [l0, l1, .int x, l3] S h = rn 36 10 [l0, l1, .int x, l3] (.int x :: S) h) ∧
  (∀ (l0 l1 l2 l3 : Value) (S : List Value) (h : zH), rn 36 10 [l0, l1, l2, l3] S h = rn 36 11 [l0, l1, l2, l3] (.int (nI 0) :: S) h) ∧
  (∀ (l0 l1 l2 l3 : Value) (S : List Value) (h : zH), rn 36 11 [l0, l1, l2, l3] S h = rn 36 14 [l0, l1, l2, l3] (.int (nI 499) :: S) h) ∧
  (∀ (l0 l1 l2 l3 : Value) (v0 : Value) (v1 : Value) (v2 : Value) (S : List Value) (h : zH), rn 36 14 [l0, l1, l2, l3] (v2 :: v1 :: v0 :: S) h = if zsum S ≤ 8 then zcall (ev 24 [v0, v1, v2] h) (fun v h => rn 36 17 [l0, l1, l2, l3] (zpush v S) h) else none) ∧
  (∀ (l0 l1 l2 l3 : Value) (x : Int32) (S : List Value) (h : zH), rn 36 17 [l0, l1, l2, l3] (.int x :: S) h = if x = nI 0 then rn 36 20 [l0, l1, l2, l3] S h else rn 36 22 [l0, l1, l2, l3] S h) ∧
  (∀ (l0 l1 l2 l3 : Value) (S : List Value) (h : zH), rn 36 20 [l0, l1, l2, l3] S h = rn 36 21 [l0, l1, l2, l3] (.int (-1) :: S) h) ∧
  (∀ (l0 l1 l2 l3 : Value) (x : Int32) (h : zH), rn 36 21 [l0, l1, l2, l3] [.int x] h = some (some (.int x), h)) ∧
  (∀ (l1 l2 l3 : Value) (x : Nat) (S : List Value) (h : zH), rn 36 22 [.ref x, l1, l2, l3] S h = rn 36 23 [.ref x, l1, l2, l3] (.ref x :: S) h) ∧
  (∀ (l0 l1 l2 l3 : Value) (a : Nat) (S : List Value) (h : zH), rn 36 23 [l0, l1, l2, l3] (.ref a :: S) h = zgf h a 1 1 fun v => rn 36 26 [l0, l1, l2, l3] (v :: S) h) ∧
  (∀ (l0 l1 l2 l3 : Value) (a : Nat) (S : List Value) (h : zH), rn 36 26 [l0, l1, l2, l3] (.ref a :: S) h = zgf h a 6 0 fun v => rn 36 29 [l0, l1, l2, l3] (v :: S) h) ∧
  (∀ (l0 l2 l3 : Value) (x : Int32) (S : List Value) (h : zH), rn 36 29 [l0, .int x, l2, l3] S h = rn 36 30 [l0, .int x, l2, l3] (.int x :: S) h) ∧
  (∀ (l0 l1 l2 l3 : Value) (a : Nat) (j : Int32) (S : List Value) (h : zH), rn 36 30 [l0, l1, l2, l3] (.int j :: .ref a :: S) h = zli h a 0 j fun x => rn 36 31 [l0, l1, l2, l3] (.int x :: S) h) ∧
  (∀ (l0 l1 l2 l3 : Value) (x : Int32) (S : List Value) (h : zH), rn 36 31 [l0, l1, l2, l3] (.int x :: S) h = nl l2 (rn 36 32 [l0, l1, l2, .int x] S h)) ∧
  (∀ (l1 l2 l3 : Value) (x : Nat) (S : List Value) (h : zH), rn 36 32 [.ref x, l1, l2, l3] S h = rn 36 33 [.ref x, l1, l2, l3] (.ref x :: S) h) ∧
  (∀ (l0 l1 l2 l3 : Value) (a : Nat) (S : List Value) (h : zH), rn 36 33 [l0, l1, l2, l3] (.ref a :: S) h = zgf h a 1 1 fun v => rn 36 36 [l0, l1, l2, l3] (v :: S) h) ∧
  (∀ (l0 l1 l2 l3 : Value) (a : Nat) (S : List Value) (h : zH), rn 36 36 [l0, l1, l2, l3] (.ref a :: S) h = zgf h a 6 0 fun v => rn 36 39 [l0, l1, l2, l3] (v :: S) h) ∧
  (∀ (l0 l2 l3 : Value) (x : Int32) (S : List Value) (h : zH), rn 36 39 [l0, .int x, l2, l3] S h = rn 36 40 [l0, .int x, l2, l3] (.int x :: S) h) ∧
  (∀ (l0 l1 l3 : Value) (x : Int32) (S : List Value) (h : zH), rn 36 40 [l0, l1, .int x, l3] S h = rn 36 41 [l0, l1, .int x, l3] (.int x :: S) h) ∧
  (∀ (l0 l1 l2 l3 : Value) (a : Nat) (j : Int32) (x : Int32) (S : List Value) (h : zH), rn 36 41 [l0, l1, l2, l3] (.int x :: .int j :: .ref a :: S) h = zsi h a 0 j x fun h => rn 36 42 [l0, l1, l2, l3] S h) ∧
  (∀ (l1 l2 l3 : Value) (x : Nat) (S : List Value) (h : zH), rn 36 42 [.ref x, l1, l2, l3] S h = rn 36 43 [.ref x, l1, l2, l3] (.ref x :: S) h) ∧
  (∀ (l0 l1 l2 l3 : Value) (S : List Value) (h : zH), rn 36 43 [l0, l1, l2, l3] S h = rn 36 44 [l0, l1, l2, l3] (.int (nI 1) :: S) h) ∧
  (∀ (l0 l1 l2 l3 : Value) (a : Nat) (v : Value) (S : List Value) (h : zH), rn 36 44 [l0, l1, l2, l3] (v :: .ref a :: S) h = zpf h a 1 4 v fun h => rn 36 47 [l0, l1, l2, l3] S h) ∧
  (∀ (l0 l1 l2 : Value) (x : Int32) (S : List Value) (h : zH), rn 36 47 [l0, l1, l2, .int x] S h = rn 36 48 [l0, l1, l2, .int x] (.int x :: S) h) ∧
  (∀ (l0 l1 l2 l3 : Value) (x : Int32) (h : zH), rn 36 48 [l0, l1, l2, l3] [.int x] h = some (some (.int x), h)) := ⟨fun _ _ _ _ _ _ => r_iload_n (show zdec 36 0 = some (.iload_n 1, 1) by decide +kernel) rfl rfl,
  fun _ _ _ _ _ _ => r_iconst (show zdec 36 1 = some (.iconst 0, 1) by decide +kernel) rfl rfl,
  fun _ _ _ _ _ _ => r_iconst (show zdec 36 2 = some (.iconst 1, 1) by decide +kernel) rfl rfl,
  fun _ _ _ _ _ _ _ _ _ => r_cS [_, _, _] rfl (show zdec 36 3 = some (.invokestatic 50, 3) by decide +kernel) (show zst.lookup (36 * zKEY + 50) = some (3, 24, 3, 0) by decide +kernel) (by decide) rfl,
  fun _ _ _ _ _ _ _ => r_ifeq (show zdec 36 6 = some (.ifCond .eq 14, 3) by decide +kernel) rfl rfl,
  fun _ _ _ _ _ _ => r_iload_n (show zdec 36 9 = some (.iload_n 2, 1) by decide +kernel) rfl rfl,
  fun _ _ _ _ _ _ => r_iconst (show zdec 36 10 = some (.iconst 0, 1) by decide +kernel) rfl rfl,
  fun _ _ _ _ _ _ => r_sipush (show zdec 36 11 = some (.sipush 499, 3) by decide +kernel) rfl rfl,
  fun _ _ _ _ _ _ _ _ _ => r_cS [_, _, _] rfl (show zdec 36 14 = some (.invokestatic 50, 3) by decide +kernel) (show zst.lookup (36 * zKEY + 50) = some (3, 24, 3, 0) by decide +kernel) (by decide) rfl,
  fun _ _ _ _ _ _ _ => r_ifne (show zdec 36 17 = some (.ifCond .ne 5, 3) by decide +kernel) rfl rfl,
  fun _ _ _ _ _ _ => r_iconst (show zdec 36 20 = some (.iconst (-1), 1) by decide +kernel) rfl rfl,
  fun _ _ _ _ _ _ => r_ireti (show zdec 36 21 = some (.ireturn, 1) by decide +kernel) (by decide +kernel),
  fun _ _ _ _ _ _ => r_aload_nr (show zdec 36 22 = some (.aload_n 0, 1) by decide +kernel) rfl rfl,
  fun _ _ _ _ _ _ _ => r_getfield (show zdec 36 23 = some (.getfield 20, 3) by decide +kernel) (show zft.lookup (36 * zKEY + 20) = some (1, 1) by decide +kernel) rfl,
  fun _ _ _ _ _ _ _ => r_getfield (show zdec 36 26 = some (.getfield 61, 3) by decide +kernel) (show zft.lookup (36 * zKEY + 61) = some (6, 0) by decide +kernel) rfl,
  fun _ _ _ _ _ _ => r_iload_n (show zdec 36 29 = some (.iload_n 1, 1) by decide +kernel) rfl rfl,
  fun _ _ _ _ _ _ _ _ => r_iald (show zdec 36 30 = some (.iaload, 1) by decide +kernel) rfl,
  fun _ _ _ _ _ _ _ => r_istore_n (show zdec 36 31 = some (.istore_n 3, 1) by decide +kernel) rfl rfl (Nat.le_of_ble_eq_true rfl) rfl rfl,
  fun _ _ _ _ _ _ => r_aload_nr (show zdec 36 32 = some (.aload_n 0, 1) by decide +kernel) rfl rfl,
  fun _ _ _ _ _ _ _ => r_getfield (show zdec 36 33 = some (.getfield 20, 3) by decide +kernel) (show zft.lookup (36 * zKEY + 20) = some (1, 1) by decide +kernel) rfl,
  fun _ _ _ _ _ _ _ => r_getfield (show zdec 36 36 = some (.getfield 61, 3) by decide +kernel) (show zft.lookup (36 * zKEY + 61) = some (6, 0) by decide +kernel) rfl,
  fun _ _ _ _ _ _ => r_iload_n (show zdec 36 39 = some (.iload_n 1, 1) by decide +kernel) rfl rfl,
  fun _ _ _ _ _ _ => r_iload_n (show zdec 36 40 = some (.iload_n 2, 1) by decide +kernel) rfl rfl,
  fun _ _ _ _ _ _ _ _ _ => r_iast (show zdec 36 41 = some (.iastore, 1) by decide +kernel) rfl,
  fun _ _ _ _ _ _ => r_aload_nr (show zdec 36 42 = some (.aload_n 0, 1) by decide +kernel) rfl rfl,
  fun _ _ _ _ _ _ => r_iconst (show zdec 36 43 = some (.iconst 1, 1) by decide +kernel) rfl rfl,
  fun _ _ _ _ _ _ _ _ => r_putfield (show zdec 36 44 = some (.putfield 31, 3) by decide +kernel) (show zft.lookup (36 * zKEY + 31) = some (1, 4) by decide +kernel) (by decide +kernel) rfl,
  fun _ _ _ _ _ _ => r_iload_n (show zdec 36 47 = some (.iload_n 3, 1) by decide +kernel) rfl rfl,
  fun _ _ _ _ _ _ => r_ireti (show zdec 36 48 = some (.ireturn, 1) by decide +kernel) (by decide +kernel)⟩
theorem ze_36 : ∀ (a0 : Nat) (a1 : Int32) (a2 : Int32) (h : zH), ev 36 [.ref a0, .int a1, .int a2] h = rn 36 0 [.ref a0, .int a1, .int a2, .float 0] [] h := fun _ _ _ _ => if_pos (Nat.le_of_ble_eq_true rfl)
-- PayrollRun.setCap(II)I
theorem zr_37 : (∀ (l1 l2 : Value) (x : Nat) (S : List Value) (h : zH), rn 37 0 [.ref x, l1, l2] S h = rn 37 1 [.ref x, l1, l2] (.ref x :: S) h) ∧
  (∀ (l0 l1 l2 : Value) (a : Nat) (S : List Value) (h : zH), rn 37 1 [l0, l1, l2] (.ref a :: S) h = zgf h a 11 1 fun v => rn 37 4 [l0, l1, l2] (v :: S) h) ∧
  (∀ (l1 l2 : Value) (x : Nat) (S : List Value) (h : zH), rn 37 4 [.ref x, l1, l2] S h = rn 37 5 [.ref x, l1, l2] (.ref x :: S) h) ∧
  (∀ (l0 l1 l2 : Value) (a : Nat) (S : List Value) (h : zH), rn 37 5 [l0, l1, l2] (.ref a :: S) h = zgf h a 11 0 fun v => rn 37 8 [l0, l1, l2] (v :: S) h) ∧
  (∀ (l0 l1 l2 : Value) (o : Nat) (v0 : Value) (S : List Value) (h : zH), rn 37 8 [l0, l1, l2] (v0 :: .ref o :: S) h = if zkd h o = 5 ∧ zsum S ≤ 8 then zcall (ev 17 [.ref o, v0] h) (fun v h => rn 37 11 [l0, l1, l2] (zpush v S) h) else none) ∧
  (∀ (l1 l2 : Value) (x : Nat) (S : List Value) (h : zH), rn 37 11 [.ref x, l1, l2] S h = rn 37 12 [.ref x, l1, l2] (.ref x :: S) h) ∧
  (∀ (l1 l2 : Value) (x : Nat) (S : List Value) (h : zH), rn 37 12 [.ref x, l1, l2] S h = rn 37 13 [.ref x, l1, l2] (.ref x :: S) h) ∧
  (∀ (l0 l1 l2 : Value) (a : Nat) (S : List Value) (h : zH), rn 37 13 [l0, l1, l2] (.ref a :: S) h = zgf h a 11 0 fun v => rn 37 16 [l0, l1, l2] (v :: S) h) ∧
  (∀ (l0 l2 : Value) (x : Int32) (S : List Value) (h : zH), rn 37 16 [l0, .int x, l2] S h = rn 37 17 [l0, .int x, l2] (.int x :: S) h) ∧
  (∀ (l0 l1 : Value) (x : Int32) (S : List Value) (h : zH), rn 37 17 [l0, l1, .int x] S h = rn 37 18 [l0, l1, .int x] (.int x :: S) h) ∧
  (∀ (l0 l1 l2 : Value) (o : Nat) (v0 : Value) (v1 : Value) (S : List Value) (h : zH), rn 37 18 [l0, l1, l2] (v1 :: v0 :: .ref o :: S) h = if zkd h o = 1 ∧ zsum S ≤ 8 then zcall (ev 38 [.ref o, v0, v1] h) (fun v h => rn 37 21 [l0, l1, l2] (zpush v S) h) else none) ∧
  (∀ (l0 l1 l2 : Value) (o : Nat) (v0 : Value) (S : List Value) (h : zH), rn 37 21 [l0, l1, l2] (v0 :: .ref o :: S) h = if zkd h o = 11 ∧ zsum S ≤ 8 then zcall (ev 26 [.ref o, v0] h) (fun v h => rn 37 24 [l0, l1, l2] (zpush v S) h) else none) ∧
  (∀ (l0 l1 l2 : Value) (x : Int32) (h : zH), rn 37 24 [l0, l1, l2] [.int x] h = some (some (.int x), h)) := ⟨fun _ _ _ _ _ => r_aload_nr (show zdec 37 0 = some (.aload_n 0, 1) by decide +kernel) rfl rfl,
  fun _ _ _ _ _ _ => r_getfield (show zdec 37 1 = some (.getfield 19, 3) by decide +kernel) (show zft.lookup (37 * zKEY + 19) = some (11, 1) by decide +kernel) rfl,
  fun _ _ _ _ _ => r_aload_nr (show zdec 37 4 = some (.aload_n 0, 1) by decide +kernel) rfl rfl,
  fun _ _ _ _ _ _ => r_getfield (show zdec 37 5 = some (.getfield 10, 3) by decide +kernel) (show zft.lookup (37 * zKEY + 10) = some (11, 0) by decide +kernel) rfl,
  fun _ _ _ _ _ _ _ => r_cV [_] rfl (show zdec 37 8 = some (.invokevirtual 58, 3) by decide +kernel) (show zst.lookup (37 * zKEY + 58) = some (1, 17, 1, 5) by decide +kernel) (by decide) rfl,
  fun _ _ _ _ _ => r_aload_nr (show zdec 37 11 = some (.aload_n 0, 1) by decide +kernel) rfl rfl,
  fun _ _ _ _ _ => r_aload_nr (show zdec 37 12 = some (.aload_n 0, 1) by decide +kernel) rfl rfl,
  fun _ _ _ _ _ _ => r_getfield (show zdec 37 13 = some (.getfield 10, 3) by decide +kernel) (show zft.lookup (37 * zKEY + 10) = some (11, 0) by decide +kernel) rfl,
  fun _ _ _ _ _ => r_iload_n (show zdec 37 16 = some (.iload_n 1, 1) by decide +kernel) rfl rfl,
  fun _ _ _ _ _ => r_iload_n (show zdec 37 17 = some (.iload_n 2, 1) by decide +kernel) rfl rfl,
  fun _ _ _ _ _ _ _ _ => r_cV [_, _] rfl (show zdec 37 18 = some (.invokevirtual 83, 3) by decide +kernel) (show zst.lookup (37 * zKEY + 83) = some (1, 38, 2, 1) by decide +kernel) (by decide) rfl,
  fun _ _ _ _ _ _ _ => r_cV [_] rfl (show zdec 37 21 = some (.invokevirtual 66, 3) by decide +kernel) (show zst.lookup (37 * zKEY + 66) = some (1, 26, 1, 11) by decide +kernel) (by decide) rfl,
  fun _ _ _ _ _ => r_ireti (show zdec 37 24 = some (.ireturn, 1) by decide +kernel) (by decide +kernel)⟩
theorem ze_37 : ∀ (a0 : Nat) (a1 : Int32) (a2 : Int32) (h : zH), ev 37 [.ref a0, .int a1, .int a2] h = rn 37 0 [.ref a0, .int a1, .int a2] [] h := fun _ _ _ _ => if_pos (Nat.le_of_ble_eq_true rfl)
-- PayrollRun/Books.changeCap(II)I
theorem zr_38 : (∀ (l0 l2 l3 : Value) (x : Int32) (S : List Value) (h : zH), rn 38 0 [l0, .int x, l2, l3] S h = rn 38 1 [l0, .int x, l2, l3] (.int x :: S) h) ∧
  (∀ (l0 l1 l2 l3 : Value) (S : List Value) (h : zH), rn 38 1 [l0, l1, l2, l3] S h = rn 38 2 [l0, l1, l2, l3] (.int (nI 0) :: S) h) ∧
  (∀ (l0 l1 l2 l3 : Value) (S : List Value) (h : zH), rn 38 2 [l0, l1, l2, l3] S h = rn 38 3 [l0, l1, l2, l3] (.int (nI 1) :: S) h) ∧
  (∀ (l0 l1 l2 l3 : Value) (v0 : Value) (v1 : Value) (v2 : Value) (S : List Value) (h : zH), rn 38 3 [l0, l1, l2, l3] (v2 :: v1 :: v0 :: S) h = if zsum S ≤ 8 then zcall (ev 24 [v0, v1, v2] h) (fun v h => rn 38 6 [l0, l1, l2, l3] (zpush v S) h) else none) ∧
  (∀ (l0 l1 l2 l3 : Value) (x : Int32) (S : List Value) (h : zH), rn 38 6 [l0, l1, l2, l3] (.int x :: S) h = if x = nI 0 then rn 38 19 [l0, l1, l2, l3] S h else rn 38 9 [l0, l1, l2, l3] S h) ∧
  (∀ (l0 l1 l3 : Value) (x : Int32) (S : List Value) (h : zH), rn 38 9 [l0, l1, .int x, l3] S h = rn 38 10 [l0, l1, .int x, l3] (.int x :: S) h) ∧
  (∀ (l0 l1 l2 l3 : Value) (S : List Value) (h : zH), rn 38 10 [l0, l1, l2, l3] S h = rn 38 11 [l0, l1, l2, l3] (.int (nI 0) :: S) h) ∧
  (∀ (l0 l1 l2 l3 : Value) (S : List Value) (h : zH), rn 38 11 [l0, l1, l2, l3] S h = rn 38 13 [l0, l1, l2, l3] (.int (nI 99999) :: S) h) ∧
  (∀ (l0 l1 l2 l3 : Value) (v0 : Value) (v1 : Value) (v2 : Value) (S : List Value) (h : zH), rn 38 13 [l0, l1, l2, l3] (v2 :: v1 :: v0 :: S) h = if zsum S ≤ 8 then zcall (ev 24 [v0, v1, v2] h) (fun v h => rn 38 16 [l0, l1, l2, l3] (zpush v S) h) else none) ∧
  (∀ (l0 l1 l2 l3 : Value) (x : Int32) (S : List Value) (h : zH), rn 38 16 [l0, l1, l2, l3] (.int x :: S) h = if x = nI 0 then rn 38 19 [l0, l1, l2, l3] S h else rn 38 21 [l0, l1, l2, l3] S h) ∧
  (∀ (l0 l1 l2 l3 : Value) (S : List Value) (h : zH), rn 38 19 [l0, l1, l2, l3] S h = rn 38 20 [l0, l1, l2, l3] (.int (-1) :: S) h) ∧
  (∀ (l0 l1 l2 l3 : Value) (x : Int32) (h : zH), rn 38 20 [l0, l1, l2, l3] [.int x] h = some (some (.int x), h)) ∧
  (∀ (l1 l2 l3 : Value) (x : Nat) (S : List Value) (h : zH), rn 38 21 [.ref x, l1, l2, l3] S h = rn 38 22 [.ref x, l1, l2, l3] (.ref x :: S) h) ∧
  (∀ (l0 l1 l2 l3 : Value) (a : Nat) (S : List Value) (h : zH), rn 38 22 [l0, l1, l2, l3] (.ref a :: S) h = zgf h a 1 1 fun v => rn 38 25 [l0, l1, l2, l3] (v :: S) h) ∧
  (∀ (l0 l1 l2 l3 : Value) (a : Nat) (S : List Value) (h : zH), rn 38 25 [l0, l1, l2, l3] (.ref a :: S) h = zgf h a 6 1 fun v => rn 38 28 [l0, l1, l2, l3] (v :: S) h) ∧
  (∀ (l0 l2 l3 : Value) (x : Int32) (S : List Value) (h : zH), rn 38 28 [l0, .int x, l2, l3] S h = rn 38 29 [l0, .int x, l2, l3] (.int x :: S) h) ∧
  (∀ (l0 l1 l2 l3 : Value) (a : Nat) (j : Int32) (S : List Value) (h : zH), rn 38 29 [l0, l1, l2, l3] (.int j :: .ref a :: S) h = zli h a 0 j fun x => rn 38 30 [l0, l1, l2, l3] (.int x :: S) h) ∧
  (∀ (l0 l1 l2 l3 : Value) (x : Int32) (S : List Value) (h : zH), rn 38 30 [l0, l1, l2, l3] (.int x :: S) h = nl l2 (rn 38 31 [l0, l1, l2, .int x] S h)) ∧
  (∀ (l1 l2 l3 : Value) (x : Nat) (S : List Value) (h : zH), rn 38 31 [.ref x, l1, l2, l3] S h = rn 38 32 [.ref x, l1, l2, l3] (.ref x :: S) h) ∧
  (∀ (l0 l1 l2 l3 : Value) (a : Nat) (S : List Value) (h : zH), rn 38 32 [l0, l1, l2, l3] (.ref a :: S) h = zgf h a 1 1 fun v => rn 38 35 [l0, l1, l2, l3] (v :: S) h) ∧
  (∀ (l0 l1 l2 l3 : Value) (a : Nat) (S : List Value) (h : zH), rn 38 35 [l0, l1, l2, l3] (.ref a :: S) h = zgf h a 6 1 fun v => rn 38 38 [l0, l1, l2, l3] (v :: S) h) ∧
  (∀ (l0 l2 l3 : Value) (x : Int32) (S : List Value) (h : zH), rn 38 38 [l0, .int x, l2, l3] S h = rn 38 39 [l0, .int x, l2, l3] (.int x :: S) h) ∧
  (∀ (l0 l1 l3 : Value) (x : Int32) (S : List Value) (h : zH), rn 38 39 [l0, l1, .int x, l3] S h = rn 38 40 [l0, l1, .int x, l3] (.int x :: S) h) ∧
  (∀ (l0 l1 l2 l3 : Value) (a : Nat) (j : Int32) (x : Int32) (S : List Value) (h : zH), rn 38 40 [l0, l1, l2, l3] (.int x :: .int j :: .ref a :: S) h = zsi h a 0 j x fun h => rn 38 41 [l0, l1, l2, l3] S h) ∧
  (∀ (l1 l2 l3 : Value) (x : Nat) (S : List Value) (h : zH), rn 38 41 [.ref x, l1, l2, l3] S h = rn 38 42 [.ref x, l1, l2, l3] (.ref x :: S) h) ∧
  (∀ (l0 l1 l2 l3 : Value) (S : List Value) (h : zH), rn 38 42 [l0, l1, l2, l3] S h = rn 38 43 [l0, l1, l2, l3] (.int (nI 1) :: S) h) ∧
  (∀ (l0 l1 l2 l3 : Value) (a : Nat) (v : Value) (S : List Value) (h : zH), rn 38 43 [l0, l1, l2, l3] (v :: .ref a :: S) h = zpf h a 1 4 v fun h => rn 38 46 [l0, l1, l2, l3] S h) ∧
  (∀ (l0 l1 l2 : Value) (x : Int32) (S : List Value) (h : zH), rn 38 46 [l0, l1, l2, .int x] S h = rn 38 47 [l0, l1, l2, .int x] (.int x :: S) h) ∧
  (∀ (l0 l1 l2 l3 : Value) (x : Int32) (h : zH), rn 38 47 [l0, l1, l2, l3] [.int x] h = some (some (.int x), h)) := ⟨fun _ _ _ _ _ _ => r_iload_n (show zdec 38 0 = some (.iload_n 1, 1) by decide +kernel) rfl rfl,
  fun _ _ _ _ _ _ => r_iconst (show zdec 38 1 = some (.iconst 0, 1) by decide +kernel) rfl rfl,
  fun _ _ _ _ _ _ => r_iconst (show zdec 38 2 = some (.iconst 1, 1) by decide +kernel) rfl rfl,
  fun _ _ _ _ _ _ _ _ _ => r_cS [_, _, _] rfl (show zdec 38 3 = some (.invokestatic 50, 3) by decide +kernel) (show zst.lookup (38 * zKEY + 50) = some (3, 24, 3, 0) by decide +kernel) (by decide) rfl,
  fun _ _ _ _ _ _ _ => r_ifeq (show zdec 38 6 = some (.ifCond .eq 13, 3) by decide +kernel) rfl rfl,
  fun _ _ _ _ _ _ => r_iload_n (show zdec 38 9 = some (.iload_n 2, 1) by decide +kernel) rfl rfl,
  fun _ _ _ _ _ _ => r_iconst (show zdec 38 10 = some (.iconst 0, 1) by decide +kernel) rfl rfl,
  fun _ _ _ _ _ _ => r_ldcI (show zdec 38 11 = some (.ldc 64, 2) by decide +kernel) (show zkt.lookup (38 * zKEY + 64) = some 99999 by decide +kernel) rfl,
  fun _ _ _ _ _ _ _ _ _ => r_cS [_, _, _] rfl (show zdec 38 13 = some (.invokestatic 50, 3) by decide +kernel) (show zst.lookup (38 * zKEY + 50) = some (3, 24, 3, 0) by decide +kernel) (by decide) rfl,
  fun _ _ _ _ _ _ _ => r_ifne (show zdec 38 16 = some (.ifCond .ne 5, 3) by decide +kernel) rfl rfl,
  fun _ _ _ _ _ _ => r_iconst (show zdec 38 19 = some (.iconst (-1), 1) by decide +kernel) rfl rfl,
  fun _ _ _ _ _ _ => r_ireti (show zdec 38 20 = some (.ireturn, 1) by decide +kernel) (by decide +kernel),
  fun _ _ _ _ _ _ => r_aload_nr (show zdec 38 21 = some (.aload_n 0, 1) by decide +kernel) rfl rfl,
  fun _ _ _ _ _ _ _ => r_getfield (show zdec 38 22 = some (.getfield 20, 3) by decide +kernel) (show zft.lookup (38 * zKEY + 20) = some (1, 1) by decide +kernel) rfl,
  fun _ _ _ _ _ _ _ => r_getfield (show zdec 38 25 = some (.getfield 65, 3) by decide +kernel) (show zft.lookup (38 * zKEY + 65) = some (6, 1) by decide +kernel) rfl,
  fun _ _ _ _ _ _ => r_iload_n (show zdec 38 28 = some (.iload_n 1, 1) by decide +kernel) rfl rfl,
  fun _ _ _ _ _ _ _ _ => r_iald (show zdec 38 29 = some (.iaload, 1) by decide +kernel) rfl,
  fun _ _ _ _ _ _ _ => r_istore_n (show zdec 38 30 = some (.istore_n 3, 1) by decide +kernel) rfl rfl (Nat.le_of_ble_eq_true rfl) rfl rfl,
  fun _ _ _ _ _ _ => r_aload_nr (show zdec 38 31 = some (.aload_n 0, 1) by decide +kernel) rfl rfl,
  fun _ _ _ _ _ _ _ => r_getfield (show zdec 38 32 = some (.getfield 20, 3) by decide +kernel) (show zft.lookup (38 * zKEY + 20) = some (1, 1) by decide +kernel) rfl,
  fun _ _ _ _ _ _ _ => r_getfield (show zdec 38 35 = some (.getfield 65, 3) by decide +kernel) (show zft.lookup (38 * zKEY + 65) = some (6, 1) by decide +kernel) rfl,
  fun _ _ _ _ _ _ => r_iload_n (show zdec 38 38 = some (.iload_n 1, 1) by decide +kernel) rfl rfl,
  fun _ _ _ _ _ _ => r_iload_n (show zdec 38 39 = some (.iload_n 2, 1) by decide +kernel) rfl rfl,
  fun _ _ _ _ _ _ _ _ _ => r_iast (show zdec 38 40 = some (.iastore, 1) by decide +kernel) rfl,
  fun _ _ _ _ _ _ => r_aload_nr (show zdec 38 41 = some (.aload_n 0, 1) by decide +kernel) rfl rfl,
  fun _ _ _ _ _ _ => r_iconst (show zdec 38 42 = some (.iconst 1, 1) by decide +kernel) rfl rfl,
  fun _ _ _ _ _ _ _ _ => r_putfield (show zdec 38 43 = some (.putfield 31, 3) by decide +kernel) (show zft.lookup (38 * zKEY + 31) = some (1, 4) by decide +kernel) (by decide +kernel) rfl,
  fun _ _ _ _ _ _ => r_iload_n (show zdec 38 46 = some (.iload_n 3, 1) by decide +kernel) rfl rfl,
  fun _ _ _ _ _ _ => r_ireti (show zdec 38 47 = some (.ireturn, 1) by decide +kernel) (by decide +kernel)⟩
theorem ze_38 : ∀ (a0 : Nat) (a1 : Int32) (a2 : Int32) (h : zH), ev 38 [.ref a0, .int a1, .int a2] h = rn 38 0 [.ref a0, .int a1, .int a2, .float 0] [] h := fun _ _ _ _ => if_pos (Nat.le_of_ble_eq_true rfl)
-- PayrollRun.bracket(II)I
theorem zr_39 : (∀ (l1 l2 : Value) (x : Nat) (S : List Value) (h : zH), rn 39 0 [.ref x, l1, l2] S h = rn 39 1 [.ref x, l1, l2] (.ref x :: S) h) ∧
  (∀ (l0 l1 l2 : Value) (a : Nat) (S : List Value) (h : zH), rn 39 1 [l0, l1, l2] (.ref a :: S) h = zgf h a 11 1 fun v => rn 39 4 [l0, l1, l2] (v :: S) h) ∧
  (∀ (l1 l2 : Value) (x : Nat) (S : List Value) (h : zH), rn 39 4 [.ref x, l1, l2] S h = rn 39 5 [.ref x, l1, l2] (.ref x :: S) h) ∧
  (∀ (l0 l1 l2 : Value) (a : Nat) (S : List Value) (h : zH), rn 39 5 [l0, l1, l2] (.ref a :: S) h = zgf h a 11 0 fun v => rn 39 8 [l0, l1, l2] (v :: S) h) ∧
  (∀ (l0 l1 l2 : Value) (o : Nat) (v0 : Value) (S : List Value) (h : zH), rn 39 8 [l0, l1, l2] (v0 :: .ref o :: S) h = if zkd h o = 5 ∧ zsum S ≤ 8 then zcall (ev 17 [.ref o, v0] h) (fun v h => rn 39 11 [l0, l1, l2] (zpush v S) h) else none) ∧
  (∀ (l1 l2 : Value) (x : Nat) (S : List Value) (h : zH), rn 39 11 [.ref x, l1, l2] S h = rn 39 12 [.ref x, l1, l2] (.ref x :: S) h) ∧
  (∀ (l1 l2 : Value) (x : Nat) (S : List Value) (h : zH), rn 39 12 [.ref x, l1, l2] S h = rn 39 13 [.ref x, l1, l2] (.ref x :: S) h) ∧
  (∀ (l0 l1 l2 : Value) (a : Nat) (S : List Value) (h : zH), rn 39 13 [l0, l1, l2] (.ref a :: S) h = zgf h a 11 0 fun v => rn 39 16 [l0, l1, l2] (v :: S) h) ∧
  (∀ (l0 l2 : Value) (x : Int32) (S : List Value) (h : zH), rn 39 16 [l0, .int x, l2] S h = rn 39 17 [l0, .int x, l2] (.int x :: S) h) ∧
  (∀ (l0 l1 : Value) (x : Int32) (S : List Value) (h : zH), rn 39 17 [l0, l1, .int x] S h = rn 39 18 [l0, l1, .int x] (.int x :: S) h) ∧
  (∀ (l0 l1 l2 : Value) (o : Nat) (v0 : Value) (v1 : Value) (S : List Value) (h : zH), rn 39 18 [l0, l1, l2] (v1 :: v0 :: .ref o :: S) h = if zkd h o = 1 ∧ zsum S ≤ 8 then zcall (ev 40 [.ref o, v0, v1] h) (fun v h => rn 39 21 [l0, l1, l2] (zpush v S) h) else none) ∧
  (∀ (l0 l1 l2 : Value) (o : Nat) (v0 : Value) (S : List Value) (h : zH), rn 39 21 [l0, l1, l2] (v0 :: .ref o :: S) h = if zkd h o = 11 ∧ zsum S ≤ 8 then zcall (ev 26 [.ref o, v0] h) (fun v h => rn 39 24 [l0, l1, l2] (zpush v S) h) else none) ∧
  (∀ (l0 l1 l2 : Value) (x : Int32) (h : zH), rn 39 24 [l0, l1, l2] [.int x] h = some (some (.int x), h)) := ⟨fun _ _ _ _ _ => r_aload_nr (show zdec 39 0 = some (.aload_n 0, 1) by decide +kernel) rfl rfl,
  fun _ _ _ _ _ _ => r_getfield (show zdec 39 1 = some (.getfield 19, 3) by decide +kernel) (show zft.lookup (39 * zKEY + 19) = some (11, 1) by decide +kernel) rfl,
  fun _ _ _ _ _ => r_aload_nr (show zdec 39 4 = some (.aload_n 0, 1) by decide +kernel) rfl rfl,
  fun _ _ _ _ _ _ => r_getfield (show zdec 39 5 = some (.getfield 10, 3) by decide +kernel) (show zft.lookup (39 * zKEY + 10) = some (11, 0) by decide +kernel) rfl,
  fun _ _ _ _ _ _ _ => r_cV [_] rfl (show zdec 39 8 = some (.invokevirtual 58, 3) by decide +kernel) (show zst.lookup (39 * zKEY + 58) = some (1, 17, 1, 5) by decide +kernel) (by decide) rfl,
  fun _ _ _ _ _ => r_aload_nr (show zdec 39 11 = some (.aload_n 0, 1) by decide +kernel) rfl rfl,
  fun _ _ _ _ _ => r_aload_nr (show zdec 39 12 = some (.aload_n 0, 1) by decide +kernel) rfl rfl,
  fun _ _ _ _ _ _ => r_getfield (show zdec 39 13 = some (.getfield 10, 3) by decide +kernel) (show zft.lookup (39 * zKEY + 10) = some (11, 0) by decide +kernel) rfl,
  fun _ _ _ _ _ => r_iload_n (show zdec 39 16 = some (.iload_n 1, 1) by decide +kernel) rfl rfl,
  fun _ _ _ _ _ => r_iload_n (show zdec 39 17 = some (.iload_n 2, 1) by decide +kernel) rfl rfl,
  fun _ _ _ _ _ _ _ _ => r_cV [_, _] rfl (show zdec 39 18 = some (.invokevirtual 86, 3) by decide +kernel) (show zst.lookup (39 * zKEY + 86) = some (1, 40, 2, 1) by decide +kernel) (by decide) rfl,
  fun _ _ _ _ _ _ _ => r_cV [_] rfl (show zdec 39 21 = some (.invokevirtual 66, 3) by decide +kernel) (show zst.lookup (39 * zKEY + 66) = some (1, 26, 1, 11) by decide +kernel) (by decide) rfl,
  fun _ _ _ _ _ => r_ireti (show zdec 39 24 = some (.ireturn, 1) by decide +kernel) (by decide +kernel)⟩
theorem ze_39 : ∀ (a0 : Nat) (a1 : Int32) (a2 : Int32) (h : zH), ev 39 [.ref a0, .int a1, .int a2] h = rn 39 0 [.ref a0, .int a1, .int a2] [] h := fun _ _ _ _ => if_pos (Nat.le_of_ble_eq_true rfl)
-- PayrollRun/Books.addBracket(II)I
theorem zr_40 : (∀ (l0 l2 : Value) (x : Int32) (S : List Value) (h : zH), rn 40 0 [l0, .int x, l2] S h = rn 40 1 [l0, .int x, l2] (.int x :: S) h) ∧
  (∀ (l1 l2 : Value) (x : Nat) (S : List Value) (h : zH), rn 40 1 [.ref x, l1, l2] S h = rn 40 2 [.ref x, l1, l2] (.ref x :: S) h) ∧
  (∀ (l0 l1 l2 : Value) (a : Nat) (S : List Value) (h : zH), rn 40 2 [l0, l1, l2] (.ref a :: S) h = zgf h a 1 1 fun v => rn 40 5 [l0, l1, l2] (v :: S) h) ∧
  (∀ (l0 l1 l2 : Value) (o : Nat) (S : List Value) (h : zH), rn 40 5 [l0, l1, l2] (.ref o :: S) h = if zkd h o = 6 ∧ zsum S ≤ 8 then zcall (ev 41 [.ref o] h) (fun v h => rn 40 8 [l0, l1, l2] (zpush v S) h) else none) ∧
  (∀ (l0 l1 l2 : Value) (S : List Value) (h : zH), rn 40 8 [l0, l1, l2] S h = rn 40 10 [l0, l1, l2] (.int (nI 99999) :: S) h) ∧
  (∀ (l0 l1 l2 : Value) (v0 : Value) (v1 : Value) (v2 : Value) (S : List Value) (h : zH), rn 40 10 [l0, l1, l2] (v2 :: v1 :: v0 :: S) h = if zsum S ≤ 8 then zcall (ev 24 [v0, v1, v2] h) (fun v h => rn 40 13 [l0, l1, l2] (zpush v S) h) else none) ∧
  (∀ (l0 l1 l2 : Value) (x : Int32) (S : List Value) (h : zH), rn 40 13 [l0, l1, l2] (.int x :: S) h = if x = nI 0 then rn 40 27 [l0, l1, l2] S h else rn 40 16 [l0, l1, l2] S h) ∧
  (∀ (l0 l1 : Value) (x : Int32) (S : List Value) (h : zH), rn 40 16 [l0, l1, .int x] S h = rn 40 17 [l0, l1, .int x] (.int x :: S) h) ∧
  (∀ (l0 l1 l2 : Value) (S : List Value) (h : zH), rn 40 17 [l0, l1, l2] S h = rn 40 18 [l0, l1, l2] (.int (nI 0) :: S) h) ∧
  (∀ (l0 l1 l2 : Value) (S : List Value) (h : zH), rn 40 18 [l0, l1, l2] S h = rn 40 21 [l0, l1, l2] (.int (nI 999) :: S) h) ∧
  (∀ (l0 l1 l2 : Value) (v0 : Value) (v1 : Value) (v2 : Value) (S : List Value) (h : zH), rn 40 21 [l0, l1, l2] (v2 :: v1 :: v0 :: S) h = if zsum S ≤ 8 then zcall (ev 24 [v0, v1, v2] h) (fun v h => rn 40 24 [l0, l1, l2] (zpush v S) h) else none) ∧
  (∀ (l0 l1 l2 : Value) (x : Int32) (S : List Value) (h : zH), rn 40 24 [l0, l1, l2] (.int x :: S) h = if x = nI 0 then rn 40 27 [l0, l1, l2] S h else rn 40 29 [l0, l1, l2] S h) ∧
  (∀ (l0 l1 l2 : Value) (S : List Value) (h : zH), rn 40 27 [l0, l1, l2] S h = rn 40 28 [l0, l1, l2] (.int (-1) :: S) h) ∧
  (∀ (l0 l1 l2 : Value) (x : Int32) (h : zH), rn 40 28 [l0, l1, l2] [.int x] h = some (some (.int x), h)) ∧
  (∀ (l1 l2 : Value) (x : Nat) (S : List Value) (h : zH), rn 40 29 [.ref x, l1, l2] S h = rn 40 30 [.ref x, l1, l2] (.ref x :: S) h) ∧
  (∀ (l0 l1 l2 : Value) (a : Nat) (S : List Value) (h : zH), rn 40 30 [l0, l1, l2] (.ref a :: S) h = zgf h a 1 1 fun v => rn 40 33 [l0, l1, l2] (v :: S) h) ∧
  (∀ (l0 l1 l2 : Value) (a : Nat) (S : List Value) (h : zH), rn 40 33 [l0, l1, l2] (.ref a :: S) h = zgf h a 6 4 fun v => rn 40 36 [l0, l1, l2] (v :: S) h) ∧
  (∀ (l0 l1 l2 : Value) (S : List Value) (h : zH), rn 40 36 [l0, l1, l2] S h = rn 40 37 [l0, l1, l2] (.int (nI 5) :: S) h) ∧
  (∀ (l0 l1 l2 : Value) (x : Int32) (y : Int32) (S : List Value) (h : zH), rn 40 37 [l0, l1, l2] (.int y :: .int x :: S) h = if x < y then rn 40 43 [l0, l1, l2] S h else rn 40 40 [l0, l1, l2] S h) ∧
  (∀ (l0 l1 l2 : Value) (S : List Value) (h : zH), rn 40 40 [l0, l1, l2] S h = rn 40 42 [l0, l1, l2] (.int (-3) :: S) h) ∧
  (∀ (l0 l1 l2 : Value) (x : Int32) (h : zH), rn 40 42 [l0, l1, l2] [.int x] h = some (some (.int x), h)) ∧
  (∀ (l1 l2 : Value) (x : Nat) (S : List Value) (h : zH), rn 40 43 [.ref x, l1, l2] S h = rn 40 44 [.ref x, l1, l2] (.ref x :: S) h) ∧
  (∀ (l0 l1 l2 : Value) (a : Nat) (S : List Value) (h : zH), rn 40 44 [l0, l1, l2] (.ref a :: S) h = zgf h a 1 1 fun v => rn 40 47 [l0, l1, l2] (v :: S) h) ∧
  (∀ (l0 l1 l2 : Value) (a : Nat) (S : List Value) (h : zH), rn 40 47 [l0, l1, l2] (.ref a :: S) h = zgf h a 6 2 fun v => rn 40 50 [l0, l1, l2] (v :: S) h) ∧
  (∀ (l1 l2 : Value) (x : Nat) (S : List Value) (h : zH), rn 40 50 [.ref x, l1, l2] S h = rn 40 51 [.ref x, l1, l2] (.ref x :: S) h) ∧
  (∀ (l0 l1 l2 : Value) (a : Nat) (S : List Value) (h : zH), rn 40 51 [l0, l1, l2] (.ref a :: S) h = zgf h a 1 1 fun v => rn 40 54 [l0, l1, l2] (v :: S) h) ∧
  (∀ (l0 l1 l2 : Value) (a : Nat) (S : List Value) (h : zH), rn 40 54 [l0, l1, l2] (.ref a :: S) h = zgf h a 6 4 fun v => rn 40 57 [l0, l1, l2] (v :: S) h) ∧
  (∀ (l0 l2 : Value) (x : Int32) (S : List Value) (h : zH), rn 40 57 [l0, .int x, l2] S h = rn 40 58 [l0, .int x, l2] (.int x :: S) h) ∧
  (∀ (l0 l1 l2 : Value) (a : Nat) (j : Int32) (x : Int32) (S : List Value) (h : zH), rn 40 58 [l0, l1, l2] (.int x :: .int j :: .ref a :: S) h = zsi h a 0 j x fun h => rn 40 59 [l0, l1, l2] S h) ∧
  (∀ (l1 l2 : Value) (x : Nat) (S : List Value) (h : zH), rn 40 59 [.ref x, l1, l2] S h = rn 40 60 [.ref x, l1, l2] (.ref x :: S) h) ∧
  (∀ (l0 l1 l2 : Value) (a : Nat) (S : List Value) (h : zH), rn 40 60 [l0, l1, l2] (.ref a :: S) h = zgf h a 1 1 fun v => rn 40 63 [l0, l1, l2] (v :: S) h) ∧
  (∀ (l0 l1 l2 : Value) (a : Nat) (S : List Value) (h : zH), rn 40 63 [l0, l1, l2] (.ref a :: S) h = zgf h a 6 3 fun v => rn 40 66 [l0, l1, l2] (v :: S) h) ∧
  (∀ (l1 l2 : Value) (x : Nat) (S : List Value) (h : zH), rn 40 66 [.ref x, l1, l2] S h = rn 40 67 [.ref x, l1, l2] (.ref x :: S) h) ∧
  (∀ (l0 l1 l2 : Value) (a : Nat) (S : List Value) (h : zH), rn 40 67 [l0, l1, l2] (.ref a :: S) h = zgf h a 1 1 fun v => rn 40 70 [l0, l1, l2] (v :: S) h) ∧
  (∀ (l0 l1 l2 : Value) (a : Nat) (S : List Value) (h : zH), rn 40 70 [l0, l1, l2] (.ref a :: S) h = zgf h a 6 4 fun v => rn 40 73 [l0, l1, l2] (v :: S) h) ∧
  (∀ (l0 l1 : Value) (x : Int32) (S : List Value) (h : zH), rn 40 73 [l0, l1, .int x] S h = rn 40 74 [l0, l1, .int x] (.int x :: S) h) ∧
  (∀ (l0 l1 l2 : Value) (a : Nat) (j : Int32) (x : Int32) (S : List Value) (h : zH), rn 40 74 [l0, l1, l2] (.int x :: .int j :: .ref a :: S) h = zsi h a 0 j x fun h => rn 40 75 [l0, l1, l2] S h) ∧
  (∀ (l1 l2 : Value) (x : Nat) (S : List Value) (h : zH), rn 40 75 [.ref x, l1, l2] S h = rn 40 76 [.ref x, l1, l2] (.ref x :: S) h) ∧
  (∀ (l0 l1 l2 : Value) (a : Nat) (S : List Value) (h : zH), rn 40 76 [l0, l1, l2] (.ref a :: S) h = zgf h a 1 1 fun v => rn 40 79 [l0, l1, l2] (v :: S) h) ∧
  (∀ (l0 l1 l2 : Value) (v : Value) (S : List Value) (h : zH), rn 40 79 [l0, l1, l2] (v :: S) h = c1 v (rn 40 80 [l0, l1, l2] (v :: v :: S) h)) ∧
  (∀ (l0 l1 l2 : Value) (a : Nat) (S : List Value) (h : zH), rn 40 80 [l0, l1, l2] (.ref a :: S) h = zgf h a 6 4 fun v => rn 40 83 [l0, l1, l2] (v :: S) h) ∧
  (∀ (l0 l1 l2 : Value) (S : List Value) (h : zH), rn 40 83 [l0, l1, l2] S h = rn 40 84 [l0, l1, l2] (.int (nI 1) :: S) h) ∧
  (∀ (l0 l1 l2 : Value) (x : Int32) (y : Int32) (S : List Value) (h : zH), rn 40 84 [l0, l1, l2] (.int y :: .int x :: S) h = rn 40 85 [l0, l1, l2] (.int (x + y) :: S) h) ∧
  (∀ (l0 l1 l2 : Value) (a : Nat) (v : Value) (S : List Value) (h : zH), rn 40 85 [l0, l1, l2] (v :: .ref a :: S) h = zpf h a 6 4 v fun h => rn 40 88 [l0, l1, l2] S h) ∧
  (∀ (l1 l2 : Value) (x : Nat) (S : List Value) (h : zH), rn 40 88 [.ref x, l1, l2] S h = rn 40 89 [.ref x, l1, l2] (.ref x :: S) h) ∧
  (∀ (l0 l1 l2 : Value) (S : List Value) (h : zH), rn 40 89 [l0, l1, l2] S h = rn 40 90 [l0, l1, l2] (.int (nI 1) :: S) h) ∧
  (∀ (l0 l1 l2 : Value) (a : Nat) (v : Value) (S : List Value) (h : zH), rn 40 90 [l0, l1, l2] (v :: .ref a :: S) h = zpf h a 1 4 v fun h => rn 40 93 [l0, l1, l2] S h) ∧
  (∀ (l1 l2 : Value) (x : Nat) (S : List Value) (h : zH), rn 40 93 [.ref x, l1, l2] S h = rn 40 94 [.ref x, l1, l2] (.ref x :: S) h) ∧
  (∀ (l0 l1 l2 : Value) (a : Nat) (S : List Value) (h : zH), rn 40 94 [l0, l1, l2] (.ref a :: S) h = zgf h a 1 1 fun v => rn 40 97 [l0, l1, l2] (v :: S) h) ∧
  (∀ (l0 l1 l2 : Value) (a : Nat) (S : List Value) (h : zH), rn 40 97 [l0, l1, l2] (.ref a :: S) h = zgf h a 6 4 fun v => rn 40 100 [l0, l1, l2] (v :: S) h) ∧
  (∀ (l0 l1 l2 : Value) (x : Int32) (h : zH), rn 40 100 [l0, l1, l2] [.int x] h = some (some (.int x), h)) := ⟨fun _ _ _ _ _ => r_iload_n (show zdec 40 0 = some (.iload_n 1, 1) by decide +kernel) rfl rfl,
  fun _ _ _ _ _ => r_aload_nr (show zdec 40 1 = some (.aload_n 0, 1) by decide +kernel) rfl rfl,
  fun _ _ _ _ _ _ => r_getfield (show zdec 40 2 = some (.getfield 20, 3) by decide +kernel) (show zft.lookup (40 * zKEY + 20) = some (1, 1) by decide +kernel) rfl,
  fun _ _ _ _ _ _ => r_cV [] rfl (show zdec 40 5 = some (.invokevirtual 68, 3) by decide +kernel) (show zst.lookup (40 * zKEY + 68) = some (1, 41, 0, 6) by decide +kernel) (by decide) rfl,
  fun _ _ _ _ _ => r_ldcI (show zdec 40 8 = some (.ldc 64, 2) by decide +kernel) (show zkt.lookup (40 * zKEY + 64) = some 99999 by decide +kernel) rfl,
  fun _ _ _ _ _ _ _ _ => r_cS [_, _, _] rfl (show zdec 40 10 = some (.invokestatic 50, 3) by decide +kernel) (show zst.lookup (40 * zKEY + 50) = some (3, 24, 3, 0) by decide +kernel) (by decide) rfl,
  fun _ _ _ _ _ _ => r_ifeq (show zdec 40 13 = some (.ifCond .eq 14, 3) by decide +kernel) rfl rfl,
  fun _ _ _ _ _ => r_iload_n (show zdec 40 16 = some (.iload_n 2, 1) by decide +kernel) rfl rfl,
  fun _ _ _ _ _ => r_iconst (show zdec 40 17 = some (.iconst 0, 1) by decide +kernel) rfl rfl,
  fun _ _ _ _ _ => r_sipush (show zdec 40 18 = some (.sipush 999, 3) by decide +kernel) rfl rfl,
  fun _ _ _ _ _ _ _ _ => r_cS [_, _, _] rfl (show zdec 40 21 = some (.invokestatic 50, 3) by decide +kernel) (show zst.lookup (40 * zKEY + 50) = some (3, 24, 3, 0) by decide +kernel) (by decide) rfl,
  fun _ _ _ _ _ _ => r_ifne (show zdec 40 24 = some (.ifCond .ne 5, 3) by decide +kernel) rfl rfl,
  fun _ _ _ _ _ => r_iconst (show zdec 40 27 = some (.iconst (-1), 1) by decide +kernel) rfl rfl,
  fun _ _ _ _ _ => r_ireti (show zdec 40 28 = some (.ireturn, 1) by decide +kernel) (by decide +kernel),
  fun _ _ _ _ _ => r_aload_nr (show zdec 40 29 = some (.aload_n 0, 1) by decide +kernel) rfl rfl,
  fun _ _ _ _ _ _ => r_getfield (show zdec 40 30 = some (.getfield 20, 3) by decide +kernel) (show zft.lookup (40 * zKEY + 20) = some (1, 1) by decide +kernel) rfl,
  fun _ _ _ _ _ _ => r_getfield (show zdec 40 33 = some (.getfield 72, 3) by decide +kernel) (show zft.lookup (40 * zKEY + 72) = some (6, 4) by decide +kernel) rfl,
  fun _ _ _ _ _ => r_iconst (show zdec 40 36 = some (.iconst 5, 1) by decide +kernel) rfl rfl,
  fun _ _ _ _ _ _ _ => r_icmplt (show zdec 40 37 = some (.if_icmp .lt 6, 3) by decide +kernel) rfl rfl,
  fun _ _ _ _ _ => r_bipush (show zdec 40 40 = some (.bipush (-3), 2) by decide +kernel) rfl rfl,
  fun _ _ _ _ _ => r_ireti (show zdec 40 42 = some (.ireturn, 1) by decide +kernel) (by decide +kernel),
  fun _ _ _ _ _ => r_aload_nr (show zdec 40 43 = some (.aload_n 0, 1) by decide +kernel) rfl rfl,
  fun _ _ _ _ _ _ => r_getfield (show zdec 40 44 = some (.getfield 20, 3) by decide +kernel) (show zft.lookup (40 * zKEY + 20) = some (1, 1) by decide +kernel) rfl,
  fun _ _ _ _ _ _ => r_getfield (show zdec 40 47 = some (.getfield 75, 3) by decide +kernel) (show zft.lookup (40 * zKEY + 75) = some (6, 2) by decide +kernel) rfl,
  fun _ _ _ _ _ => r_aload_nr (show zdec 40 50 = some (.aload_n 0, 1) by decide +kernel) rfl rfl,
  fun _ _ _ _ _ _ => r_getfield (show zdec 40 51 = some (.getfield 20, 3) by decide +kernel) (show zft.lookup (40 * zKEY + 20) = some (1, 1) by decide +kernel) rfl,
  fun _ _ _ _ _ _ => r_getfield (show zdec 40 54 = some (.getfield 72, 3) by decide +kernel) (show zft.lookup (40 * zKEY + 72) = some (6, 4) by decide +kernel) rfl,
  fun _ _ _ _ _ => r_iload_n (show zdec 40 57 = some (.iload_n 1, 1) by decide +kernel) rfl rfl,
  fun _ _ _ _ _ _ _ _ => r_iast (show zdec 40 58 = some (.iastore, 1) by decide +kernel) rfl,
  fun _ _ _ _ _ => r_aload_nr (show zdec 40 59 = some (.aload_n 0, 1) by decide +kernel) rfl rfl,
  fun _ _ _ _ _ _ => r_getfield (show zdec 40 60 = some (.getfield 20, 3) by decide +kernel) (show zft.lookup (40 * zKEY + 20) = some (1, 1) by decide +kernel) rfl,
  fun _ _ _ _ _ _ => r_getfield (show zdec 40 63 = some (.getfield 78, 3) by decide +kernel) (show zft.lookup (40 * zKEY + 78) = some (6, 3) by decide +kernel) rfl,
  fun _ _ _ _ _ => r_aload_nr (show zdec 40 66 = some (.aload_n 0, 1) by decide +kernel) rfl rfl,
  fun _ _ _ _ _ _ => r_getfield (show zdec 40 67 = some (.getfield 20, 3) by decide +kernel) (show zft.lookup (40 * zKEY + 20) = some (1, 1) by decide +kernel) rfl,
  fun _ _ _ _ _ _ => r_getfield (show zdec 40 70 = some (.getfield 72, 3) by decide +kernel) (show zft.lookup (40 * zKEY + 72) = some (6, 4) by decide +kernel) rfl,
  fun _ _ _ _ _ => r_iload_n (show zdec 40 73 = some (.iload_n 2, 1) by decide +kernel) rfl rfl,
  fun _ _ _ _ _ _ _ _ => r_iast (show zdec 40 74 = some (.iastore, 1) by decide +kernel) rfl,
  fun _ _ _ _ _ => r_aload_nr (show zdec 40 75 = some (.aload_n 0, 1) by decide +kernel) rfl rfl,
  fun _ _ _ _ _ _ => r_getfield (show zdec 40 76 = some (.getfield 20, 3) by decide +kernel) (show zft.lookup (40 * zKEY + 20) = some (1, 1) by decide +kernel) rfl,
  fun _ _ _ _ _ _ => r_dup (show zdec 40 79 = some (.dup, 1) by decide +kernel) rfl,
  fun _ _ _ _ _ _ => r_getfield (show zdec 40 80 = some (.getfield 72, 3) by decide +kernel) (show zft.lookup (40 * zKEY + 72) = some (6, 4) by decide +kernel) rfl,
  fun _ _ _ _ _ => r_iconst (show zdec 40 83 = some (.iconst 1, 1) by decide +kernel) rfl rfl,
  fun _ _ _ _ _ _ _ => r_iadd (show zdec 40 84 = some (.iadd, 1) by decide +kernel) rfl,
  fun _ _ _ _ _ _ _ => r_putfield (show zdec 40 85 = some (.putfield 72, 3) by decide +kernel) (show zft.lookup (40 * zKEY + 72) = some (6, 4) by decide +kernel) (by decide +kernel) rfl,
  fun _ _ _ _ _ => r_aload_nr (show zdec 40 88 = some (.aload_n 0, 1) by decide +kernel) rfl rfl,
  fun _ _ _ _ _ => r_iconst (show zdec 40 89 = some (.iconst 1, 1) by decide +kernel) rfl rfl,
  fun _ _ _ _ _ _ _ => r_putfield (show zdec 40 90 = some (.putfield 31, 3) by decide +kernel) (show zft.lookup (40 * zKEY + 31) = some (1, 4) by decide +kernel) (by decide +kernel) rfl,
  fun _ _ _ _ _ => r_aload_nr (show zdec 40 93 = some (.aload_n 0, 1) by decide +kernel) rfl rfl,
  fun _ _ _ _ _ _ => r_getfield (show zdec 40 94 = some (.getfield 20, 3) by decide +kernel) (show zft.lookup (40 * zKEY + 20) = some (1, 1) by decide +kernel) rfl,
  fun _ _ _ _ _ _ => r_getfield (show zdec 40 97 = some (.getfield 72, 3) by decide +kernel) (show zft.lookup (40 * zKEY + 72) = some (6, 4) by decide +kernel) rfl,
  fun _ _ _ _ _ => r_ireti (show zdec 40 100 = some (.ireturn, 1) by decide +kernel) (by decide +kernel)⟩
theorem ze_40 : ∀ (a0 : Nat) (a1 : Int32) (a2 : Int32) (h : zH), ev 40 [.ref a0, .int a1, .int a2] h = rn 40 0 [.ref a0, .int a1, .int a2] [] h := fun _ _ _ _ => if_pos (Nat.le_of_ble_eq_true rfl)
-- PayrollRun.clearBrackets()I
theorem zr_42 : (∀ (x : Nat) (S : List Value) (h : zH), rn 42 0 [.ref x] S h = rn 42 1 [.ref x] (.ref x :: S) h) ∧
  (∀ (l0 : Value) (a : Nat) (S : List Value) (h : zH), rn 42 1 [l0] (.ref a :: S) h = zgf h a 11 1 fun v => rn 42 4 [l0] (v :: S) h) ∧
  (∀ (x : Nat) (S : List Value) (h : zH), rn 42 4 [.ref x] S h = rn 42 5 [.ref x] (.ref x :: S) h) ∧
  (∀ (l0 : Value) (a : Nat) (S : List Value) (h : zH), rn 42 5 [l0] (.ref a :: S) h = zgf h a 11 0 fun v => rn 42 8 [l0] (v :: S) h) ∧
  (∀ (l0 : Value) (o : Nat) (v0 : Value) (S : List Value) (h : zH), rn 42 8 [l0] (v0 :: .ref o :: S) h = if zkd h o = 5 ∧ zsum S ≤ 8 then zcall (ev 17 [.ref o, v0] h) (fun v h => rn 42 11 [l0] (zpush v S) h) else none) ∧
  (∀ (x : Nat) (S : List Value) (h : zH), rn 42 11 [.ref x] S h = rn 42 12 [.ref x] (.ref x :: S) h) ∧
  (∀ (x : Nat) (S : List Value) (h : zH), rn 42 12 [.ref x] S h = rn 42 13 [.ref x] (.ref x :: S) h) ∧
  (∀ (l0 : Value) (a : Nat) (S : List Value) (h : zH), rn 42 13 [l0] (.ref a :: S) h = zgf h a 11 0 fun v => rn 42 16 [l0] (v :: S) h) ∧
  (∀ (l0 : Value) (o : Nat) (S : List Value) (h : zH), rn 42 16 [l0] (.ref o :: S) h = if zkd h o = 1 ∧ zsum S ≤ 8 then zcall (ev 43 [.ref o] h) (fun v h => rn 42 19 [l0] (zpush v S) h) else none) ∧
  (∀ (l0 : Value) (o : Nat) (v0 : Value) (S : List Value) (h : zH), rn 42 19 [l0] (v0 :: .ref o :: S) h = if zkd h o = 11 ∧ zsum S ≤ 8 then zcall (ev 26 [.ref o, v0] h) (fun v h => rn 42 22 [l0] (zpush v S) h) else none) ∧
  (∀ (l0 : Value) (x : Int32) (h : zH), rn 42 22 [l0] [.int x] h = some (some (.int x), h)) := ⟨fun _ _ _ => r_aload_nr (show zdec 42 0 = some (.aload_n 0, 1) by decide +kernel) rfl rfl,
  fun _ _ _ _ => r_getfield (show zdec 42 1 = some (.getfield 19, 3) by decide +kernel) (show zft.lookup (42 * zKEY + 19) = some (11, 1) by decide +kernel) rfl,
  fun _ _ _ => r_aload_nr (show zdec 42 4 = some (.aload_n 0, 1) by decide +kernel) rfl rfl,
  fun _ _ _ _ => r_getfield (show zdec 42 5 = some (.getfield 10, 3) by decide +kernel) (show zft.lookup (42 * zKEY + 10) = some (11, 0) by decide +kernel) rfl,
  fun _ _ _ _ _ => r_cV [_] rfl (show zdec 42 8 = some (.invokevirtual 58, 3) by decide +kernel) (show zst.lookup (42 * zKEY + 58) = some (1, 17, 1, 5) by decide +kernel) (by decide) rfl,
  fun _ _ _ => r_aload_nr (show zdec 42 11 = some (.aload_n 0, 1) by decide +kernel) rfl rfl,
  fun _ _ _ => r_aload_nr (show zdec 42 12 = some (.aload_n 0, 1) by decide +kernel) rfl rfl,
  fun _ _ _ _ => r_getfield (show zdec 42 13 = some (.getfield 10, 3) by decide +kernel) (show zft.lookup (42 * zKEY + 10) = some (11, 0) by decide +kernel) rfl,
  fun _ _ _ _ => r_cV [] rfl (show zdec 42 16 = some (.invokevirtual 89, 3) by decide +kernel) (show zst.lookup (42 * zKEY + 89) = some (1, 43, 0, 1) by decide +kernel) (by decide) rfl,
  fun _ _ _ _ _ => r_cV [_] rfl (show zdec 42 19 = some (.invokevirtual 66, 3) by decide +kernel) (show zst.lookup (42 * zKEY + 66) = some (1, 26, 1, 11) by decide +kernel) (by decide) rfl,
  fun _ _ _ => r_ireti (show zdec 42 22 = some (.ireturn, 1) by decide +kernel) (by decide +kernel)⟩
theorem ze_42 : ∀ (a0 : Nat) (h : zH), ev 42 [.ref a0] h = rn 42 0 [.ref a0] [] h := fun _ _ => if_pos (Nat.le_of_ble_eq_true rfl)
-- PayrollRun/Books.removeBrackets()I
theorem zr_43 : (∀ (l1 : Value) (x : Nat) (S : List Value) (h : zH), rn 43 0 [.ref x, l1] S h = rn 43 1 [.ref x, l1] (.ref x :: S) h) ∧
  (∀ (l0 l1 : Value) (a : Nat) (S : List Value) (h : zH), rn 43 1 [l0, l1] (.ref a :: S) h = zgf h a 1 1 fun v => rn 43 4 [l0, l1] (v :: S) h) ∧
  (∀ (l0 l1 : Value) (a : Nat) (S : List Value) (h : zH), rn 43 4 [l0, l1] (.ref a :: S) h = zgf h a 6 4 fun v => rn 43 7 [l0, l1] (v :: S) h) ∧
  (∀ (l0 l1 : Value) (x : Int32) (S : List Value) (h : zH), rn 43 7 [l0, l1] (.int x :: S) h = nl l0 (rn 43 8 [l0, .int x] S h)) ∧
  (∀ (l1 : Value) (x : Nat) (S : List Value) (h : zH), rn 43 8 [.ref x, l1] S h = rn 43 9 [.ref x, l1] (.ref x :: S) h) ∧
  (∀ (l0 l1 : Value) (a : Nat) (S : List Value) (h : zH), rn 43 9 [l0, l1] (.ref a :: S) h = zgf h a 1 1 fun v => rn 43 12 [l0, l1] (v :: S) h) ∧
  (∀ (l0 l1 : Value) (S : List Value) (h : zH), rn 43 12 [l0, l1] S h = rn 43 13 [l0, l1] (.int (nI 0) :: S) h) ∧
  (∀ (l0 l1 : Value) (a : Nat) (v : Value) (S : List Value) (h : zH), rn 43 13 [l0, l1] (v :: .ref a :: S) h = zpf h a 6 4 v fun h => rn 43 16 [l0, l1] S h) ∧
  (∀ (l1 : Value) (x : Nat) (S : List Value) (h : zH), rn 43 16 [.ref x, l1] S h = rn 43 17 [.ref x, l1] (.ref x :: S) h) ∧
  (∀ (l0 l1 : Value) (S : List Value) (h : zH), rn 43 17 [l0, l1] S h = rn 43 18 [l0, l1] (.int (nI 1) :: S) h) ∧
  (∀ (l0 l1 : Value) (a : Nat) (v : Value) (S : List Value) (h : zH), rn 43 18 [l0, l1] (v :: .ref a :: S) h = zpf h a 1 4 v fun h => rn 43 21 [l0, l1] S h) ∧
  (∀ (l0 : Value) (x : Int32) (S : List Value) (h : zH), rn 43 21 [l0, .int x] S h = rn 43 22 [l0, .int x] (.int x :: S) h) ∧
  (∀ (l0 l1 : Value) (x : Int32) (h : zH), rn 43 22 [l0, l1] [.int x] h = some (some (.int x), h)) := ⟨fun _ _ _ _ => r_aload_nr (show zdec 43 0 = some (.aload_n 0, 1) by decide +kernel) rfl rfl,
  fun _ _ _ _ _ => r_getfield (show zdec 43 1 = some (.getfield 20, 3) by decide +kernel) (show zft.lookup (43 * zKEY + 20) = some (1, 1) by decide +kernel) rfl,
  fun _ _ _ _ _ => r_getfield (show zdec 43 4 = some (.getfield 72, 3) by decide +kernel) (show zft.lookup (43 * zKEY + 72) = some (6, 4) by decide +kernel) rfl,
  fun _ _ _ _ _ => r_istore_n (show zdec 43 7 = some (.istore_n 1, 1) by decide +kernel) rfl rfl (Nat.le_of_ble_eq_true rfl) rfl rfl,
  fun _ _ _ _ => r_aload_nr (show zdec 43 8 = some (.aload_n 0, 1) by decide +kernel) rfl rfl,
  fun _ _ _ _ _ => r_getfield (show zdec 43 9 = some (.getfield 20, 3) by decide +kernel) (show zft.lookup (43 * zKEY + 20) = some (1, 1) by decide +kernel) rfl,
  fun _ _ _ _ => r_iconst (show zdec 43 12 = some (.iconst 0, 1) by decide +kernel) rfl rfl,
  fun _ _ _ _ _ _ => r_putfield (show zdec 43 13 = some (.putfield 72, 3) by decide +kernel) (show zft.lookup (43 * zKEY + 72) = some (6, 4) by decide +kernel) (by decide +kernel) rfl,
  fun _ _ _ _ => r_aload_nr (show zdec 43 16 = some (.aload_n 0, 1) by decide +kernel) rfl rfl,
  fun _ _ _ _ => r_iconst (show zdec 43 17 = some (.iconst 1, 1) by decide +kernel) rfl rfl,
  fun _ _ _ _ _ _ => r_putfield (show zdec 43 18 = some (.putfield 31, 3) by decide +kernel) (show zft.lookup (43 * zKEY + 31) = some (1, 4) by decide +kernel) (by decide +kernel) rfl,
  fun _ _ _ _ => r_iload_n (show zdec 43 21 = some (.iload_n 1, 1) by decide +kernel) rfl rfl,
  fun _ _ _ _ => r_ireti (show zdec 43 22 = some (.ireturn, 1) by decide +kernel) (by decide +kernel)⟩
theorem ze_43 : ∀ (a0 : Nat) (h : zH), ev 43 [.ref a0] h = rn 43 0 [.ref a0, .float 0] [] h := fun _ _ => if_pos (Nat.le_of_ble_eq_true rfl)
-- PayrollRun.fixed(III)I
theorem zr_44 : (∀ (l1 l2 l3 : Value) (x : Nat) (S : List Value) (h : zH), rn 44 0 [.ref x, l1, l2, l3] S h = rn 44 1 [.ref x, l1, l2, l3] (.ref x :: S) h) ∧
  (∀ (l0 l1 l2 l3 : Value) (a : Nat) (S : List Value) (h : zH), rn 44 1 [l0, l1, l2, l3] (.ref a :: S) h = zgf h a 11 1 fun v => rn 44 4 [l0, l1, l2, l3] (v :: S) h) ∧
  (∀ (l1 l2 l3 : Value) (x : Nat) (S : List Value) (h : zH), rn 44 4 [.ref x, l1, l2, l3] S h = rn 44 5 [.ref x, l1, l2, l3] (.ref x :: S) h) ∧
  (∀ (l0 l1 l2 l3 : Value) (a : Nat) (S : List Value) (h : zH), rn 44 5 [l0, l1, l2, l3] (.ref a :: S) h = zgf h a 11 0 fun v => rn 44 8 [l0, l1, l2, l3] (v :: S) h) ∧
  (∀ (l0 l1 l2 l3 : Value) (o : Nat) (v0 : Value) (S : List Value) (h : zH), rn 44 8 [l0, l1, l2, l3] (v0 :: .ref o :: S) h = if zkd h o = 5 ∧ zsum S ≤ 8 then zcall (ev 17 [.ref o, v0] h) (fun v h => rn 44 11 [l0, l1, l2, l3] (zpush v S) h) else none) ∧
  (∀ (l1 l2 l3 : Value) (x : Nat) (S : List Value) (h : zH), rn 44 11 [.ref x, l1, l2, l3] S h = rn 44 12 [.ref x, l1, l2, l3] (.ref x :: S) h) ∧
  (∀ (l1 l2 l3 : Value) (x : Nat) (S : List Value) (h : zH), rn 44 12 [.ref x, l1, l2, l3] S h = rn 44 13 [.ref x, l1, l2, l3] (.ref x :: S) h) ∧
  (∀ (l0 l1 l2 l3 : Value) (a : Nat) (S : List Value) (h : zH), rn 44 13 [l0, l1, l2, l3] (.ref a :: S) h = zgf h a 11 0 fun v => rn 44 16 [l0, l1, l2, l3] (v :: S) h) ∧
  (∀ (l0 l2 l3 : Value) (x : Int32) (S : List Value) (h : zH), rn 44 16 [l0, .int x, l2, l3] S h = rn 44 17 [l0, .int x, l2, l3] (.int x :: S) h) ∧
  (∀ (l0 l1 l3 : Value) (x : Int32) (S : List Value) (h : zH), rn 44 17 [l0, l1, .int x, l3] S h = rn 44 18 [l0, l1, .int x, l3] (.int x :: S) h) ∧
  (∀ (l0 l1 l2 : Value) (x : Int32) (S : List Value) (h : zH), rn 44 18 [l0, l1, l2, .int x] S h = rn 44 19 [l0, l1, l2, .int x] (.int x :: S) h) ∧
  (∀ (l0 l1 l2 l3 : Value) (o : Nat) (v0 : Value) (v1 : Value) (v2 : Value) (S : List Value) (h : zH), rn 44 19 [l0, l1, l2, l3] (v2 :: v1 :: v0 :: .ref o :: S) h = if zkd h o = 1 ∧ zsum S ≤ 8 then zcall (ev 45 [.ref o, v0, v1, v2] h) (fun v h => rn 44 22 [l0, l1, l2, l3] (zpush v S) h) else none) ∧
  (∀ (l0 l1 l2 l3 : Value) (o : Nat) (v0 : Value) (S : List Value) (h : zH), rn 44 22 [l0, l1, l2, l3] (v0 :: .ref o :: S) h = if zkd h o = 11 ∧ zsum S ≤ 8 then zcall (ev 26 [.ref o, v0] h) (fun v h => rn 44 25 [l0, l1, l2, l3] (zpush v S) h) else none) ∧
  (∀ (l0 l1 l2 l3 : Value) (x : Int32) (h : zH), rn 44 25 [l0, l1, l2, l3] [.int x] h = some (some (.int x), h)) := ⟨fun _ _ _ _ _ _ => r_aload_nr (show zdec 44 0 = some (.aload_n 0, 1) by decide +kernel) rfl rfl,
  fun _ _ _ _ _ _ _ => r_getfield (show zdec 44 1 = some (.getfield 19, 3) by decide +kernel) (show zft.lookup (44 * zKEY + 19) = some (11, 1) by decide +kernel) rfl,
  fun _ _ _ _ _ _ => r_aload_nr (show zdec 44 4 = some (.aload_n 0, 1) by decide +kernel) rfl rfl,
  fun _ _ _ _ _ _ _ => r_getfield (show zdec 44 5 = some (.getfield 10, 3) by decide +kernel) (show zft.lookup (44 * zKEY + 10) = some (11, 0) by decide +kernel) rfl,
  fun _ _ _ _ _ _ _ _ => r_cV [_] rfl (show zdec 44 8 = some (.invokevirtual 58, 3) by decide +kernel) (show zst.lookup (44 * zKEY + 58) = some (1, 17, 1, 5) by decide +kernel) (by decide) rfl,
  fun _ _ _ _ _ _ => r_aload_nr (show zdec 44 11 = some (.aload_n 0, 1) by decide +kernel) rfl rfl,
  fun _ _ _ _ _ _ => r_aload_nr (show zdec 44 12 = some (.aload_n 0, 1) by decide +kernel) rfl rfl,
  fun _ _ _ _ _ _ _ => r_getfield (show zdec 44 13 = some (.getfield 10, 3) by decide +kernel) (show zft.lookup (44 * zKEY + 10) = some (11, 0) by decide +kernel) rfl,
  fun _ _ _ _ _ _ => r_iload_n (show zdec 44 16 = some (.iload_n 1, 1) by decide +kernel) rfl rfl,
  fun _ _ _ _ _ _ => r_iload_n (show zdec 44 17 = some (.iload_n 2, 1) by decide +kernel) rfl rfl,
  fun _ _ _ _ _ _ => r_iload_n (show zdec 44 18 = some (.iload_n 3, 1) by decide +kernel) rfl rfl,
  fun _ _ _ _ _ _ _ _ _ _ => r_cV [_, _, _] rfl (show zdec 44 19 = some (.invokevirtual 93, 3) by decide +kernel) (show zst.lookup (44 * zKEY + 93) = some (1, 45, 3, 1) by decide +kernel) (by decide) rfl,
  fun _ _ _ _ _ _ _ _ => r_cV [_] rfl (show zdec 44 22 = some (.invokevirtual 66, 3) by decide +kernel) (show zst.lookup (44 * zKEY + 66) = some (1, 26, 1, 11) by decide +kernel) (by decide) rfl,
  fun _ _ _ _ _ _ => r_ireti (show zdec 44 25 = some (.ireturn, 1) by decide +kernel) (by decide +kernel)⟩
theorem ze_44 : ∀ (a0 : Nat) (a1 : Int32) (a2 : Int32) (a3 : Int32) (h : zH), ev 44 [.ref a0, .int a1, .int a2, .int a3] h = rn 44 0 [.ref a0, .int a1, .int a2, .int a3] [] h := fun _ _ _ _ _ => if_pos (Nat.le_of_ble_eq_true rfl)
-- PayrollRun/Books.addFixed(III)I
theorem zr_45 : (∀ (l0 l2 l3 : Value) (x : Int32) (S : List Value) (h : zH), rn 45 0 [l0, .int x, l2, l3] S h = rn 45 1 [l0, .int x, l2, l3] (.int x :: S) h) ∧
  (∀ (l0 l1 l2 l3 : Value) (v0 : Value) (S : List Value) (h : zH), rn 45 1 [l0, l1, l2, l3] (v0 :: S) h = if zsum S ≤ 8 then zcall (ev 23 [v0] h) (fun v h => rn 45 4 [l0, l1, l2, l3] (zpush v S) h) else none) ∧
  (∀ (l0 l1 l2 l3 : Value) (x : Int32) (S : List Value) (h : zH), rn 45 4 [l0, l1, l2, l3] (.int x :: S) h = if x = nI 0 then rn 45 28 [l0, l1, l2, l3] S h else rn 45 7 [l0, l1, l2, l3] S h) ∧
  (∀ (l0 l1 l3 : Value) (x : Int32) (S : List Value) (h : zH), rn 45 7 [l0, l1, .int x, l3] S h = rn 45 8 [l0, l1, .int x, l3] (.int x :: S) h) ∧
  (∀ (l0 l1 l2 l3 : Value) (S : List Value) (h : zH), rn 45 8 [l0, l1, l2, l3] S h = rn 45 9 [l0, l1, l2, l3] (.int (nI 1) :: S) h) ∧
  (∀ (l0 l1 l2 l3 : Value) (S : List Value) (h : zH), rn 45 9 [l0, l1, l2, l3] S h = rn 45 12 [l0, l1, l2, l3] (.int (nI 9999) :: S) h) ∧
  (∀ (l0 l1 l2 l3 : Value) (v0 : Value) (v1 : Value) (v2 : Value) (S : List Value) (h : zH), rn 45 12 [l0, l1, l2, l3] (v2 :: v1 :: v0 :: S) h = if zsum S ≤ 8 then zcall (ev 24 [v0, v1, v2] h) (fun v h => rn 45 15 [l0, l1, l2, l3] (zpush v S) h) else none) ∧
  (∀ (l0 l1 l2 l3 : Value) (x : Int32) (S : List Value) (h : zH), rn 45 15 [l0, l1, l2, l3] (.int x :: S) h = if x = nI 0 then rn 45 28 [l0, l1, l2, l3] S h else rn 45 18 [l0, l1, l2, l3] S h) ∧
  (∀ (l0 l1 l2 : Value) (x : Int32) (S : List Value) (h : zH), rn 45 18 [l0, l1, l2, .int x] S h = rn 45 19 [l0, l1, l2, .int x] (.int x :: S) h) ∧
  (∀ (l0 l1 l2 l3 : Value) (S : List Value) (h : zH), rn 45 19 [l0, l1, l2, l3] S h = rn 45 20 [l0, l1, l2, l3] (.int (nI 1) :: S) h) ∧
  (∀ (l0 l1 l2 l3 : Value) (S : List Value) (h : zH), rn 45 20 [l0, l1, l2, l3] S h = rn 45 22 [l0, l1, l2, l3] (.int (nI 99999) :: S) h) ∧
  (∀ (l0 l1 l2 l3 : Value) (v0 : Value) (v1 : Value) (v2 : Value) (S : List Value) (h : zH), rn 45 22 [l0, l1, l2, l3] (v2 :: v1 :: v0 :: S) h = if zsum S ≤ 8 then zcall (ev 24 [v0, v1, v2] h) (fun v h => rn 45 25 [l0, l1, l2, l3] (zpush v S) h) else none) ∧
  (∀ (l0 l1 l2 l3 : Value) (x : Int32) (S : List Value) (h : zH), rn 45 25 [l0, l1, l2, l3] (.int x :: S) h = if x = nI 0 then rn 45 28 [l0, l1, l2, l3] S h else rn 45 30 [l0, l1, l2, l3] S h) ∧
  (∀ (l0 l1 l2 l3 : Value) (S : List Value) (h : zH), rn 45 28 [l0, l1, l2, l3] S h = rn 45 29 [l0, l1, l2, l3] (.int (-1) :: S) h) ∧
  (∀ (l0 l1 l2 l3 : Value) (x : Int32) (h : zH), rn 45 29 [l0, l1, l2, l3] [.int x] h = some (some (.int x), h)) ∧
  (∀ (l1 l2 l3 : Value) (x : Nat) (S : List Value) (h : zH), rn 45 30 [.ref x, l1, l2, l3] S h = rn 45 31 [.ref x, l1, l2, l3] (.ref x :: S) h) ∧
  (∀ (l0 l1 l2 l3 : Value) (a : Nat) (S : List Value) (h : zH), rn 45 31 [l0, l1, l2, l3] (.ref a :: S) h = zgf h a 1 0 fun v => rn 45 34 [l0, l1, l2, l3] (v :: S) h) ∧
  (∀ (l0 l2 l3 : Value) (x : Int32) (S : List Value) (h : zH), rn 45 34 [l0, .int x, l2, l3] S h = rn 45 35 [l0, .int x, l2, l3] (.int x :: S) h) ∧
  (∀ (l0 l1 l2 l3 : Value) (a : Nat) (j : Int32) (S : List Value) (h : zH), rn 45 35 [l0, l1, l2, l3] (.int j :: .ref a :: S) h = zlq h a j fun x => rn 45 36 [l0, l1, l2, l3] (va_rf x :: S) h) ∧
  (∀ (l0 l1 l2 l3 : Value) (a : Nat) (S : List Value) (h : zH), rn 45 36 [l0, l1, l2, l3] (.ref a :: S) h = zgf h a 10 4 fun v => rn 45 39 [l0, l1, l2, l3] (v :: S) h) ∧
  (∀ (l0 l1 l2 l3 : Value) (S : List Value) (h : zH), rn 45 39 [l0, l1, l2, l3] S h = rn 45 40 [l0, l1, l2, l3] (.int (nI 0) :: S) h) ∧
  (∀ (l0 l1 l3 : Value) (x : Int32) (S : List Value) (h : zH), rn 45 40 [l0, l1, .int x, l3] S h = rn 45 41 [l0, l1, .int x, l3] (.int x :: S) h) ∧
  (∀ (l0 l1 l2 : Value) (x : Int32) (S : List Value) (h : zH), rn 45 41 [l0, l1, l2, .int x] S h = rn 45 42 [l0, l1, l2, .int x] (.int x :: S) h) ∧
  (∀ (l0 l1 l2 l3 : Value) (o : Nat) (v0 : Value) (v1 : Value) (v2 : Value) (S : List Value) (h : zH), rn 45 42 [l0, l1, l2, l3] (v2 :: v1 :: v0 :: .ref o :: S) h = if zkd h o = 4 ∧ zsum S ≤ 8 then zcall (ev 46 [.ref o, v0, v1, v2] h) (fun v h => rn 45 45 [l0, l1, l2, l3] (zpush v S) h) else none) ∧
  (∀ (l0 l1 l2 l3 : Value) (x : Int32) (h : zH), rn 45 45 [l0, l1, l2, l3] [.int x] h = some (some (.int x), h)) := ⟨fun _ _ _ _ _ _ => r_iload_n (show zdec 45 0 = some (.iload_n 1, 1) by decide +kernel) rfl rfl,
  fun _ _ _ _ _ _ _ => r_cS [_] rfl (show zdec 45 1 = some (.invokestatic 43, 3) by decide +kernel) (show zst.lookup (45 * zKEY + 43) = some (3, 23, 1, 0) by decide +kernel) (by decide) rfl,
  fun _ _ _ _ _ _ _ => r_ifeq (show zdec 45 4 = some (.ifCond .eq 24, 3) by decide +kernel) rfl rfl,
  fun _ _ _ _ _ _ => r_iload_n (show zdec 45 7 = some (.iload_n 2, 1) by decide +kernel) rfl rfl,
  fun _ _ _ _ _ _ => r_iconst (show zdec 45 8 = some (.iconst 1, 1) by decide +kernel) rfl rfl,
  fun _ _ _ _ _ _ => r_sipush (show zdec 45 9 = some (.sipush 9999, 3) by decide +kernel) rfl rfl,
  fun _ _ _ _ _ _ _ _ _ => r_cS [_, _, _] rfl (show zdec 45 12 = some (.invokestatic 50, 3) by decide +kernel) (show zst.lookup (45 * zKEY + 50) = some (3, 24, 3, 0) by decide +kernel) (by decide) rfl,
  fun _ _ _ _ _ _ _ => r_ifeq (show zdec 45 15 = some (.ifCond .eq 13, 3) by decide +kernel) rfl rfl,
  fun _ _ _ _ _ _ => r_iload_n (show zdec 45 18 = some (.iload_n 3, 1) by decide +kernel) rfl rfl,
  fun _ _ _ _ _ _ => r_iconst (show zdec 45 19 = some (.iconst 1, 1) by decide +kernel) rfl rfl,
  fun _ _ _ _ _ _ => r_ldcI (show zdec 45 20 = some (.ldc 64, 2) by decide +kernel) (show zkt.lookup (45 * zKEY + 64) = some 99999 by decide +kernel) rfl,
  fun _ _ _ _ _ _ _ _ _ => r_cS [_, _, _] rfl (show zdec 45 22 = some (.invokestatic 50, 3) by decide +kernel) (show zst.lookup (45 * zKEY + 50) = some (3, 24, 3, 0) by decide +kernel) (by decide) rfl,
  fun _ _ _ _ _ _ _ => r_ifne (show zdec 45 25 = some (.ifCond .ne 5, 3) by decide +kernel) rfl rfl,
  fun _ _ _ _ _ _ => r_iconst (show zdec 45 28 = some (.iconst (-1), 1) by decide +kernel) rfl rfl,
  fun _ _ _ _ _ _ => r_ireti (show zdec 45 29 = some (.ireturn, 1) by decide +kernel) (by decide +kernel),
  fun _ _ _ _ _ _ => r_aload_nr (show zdec 45 30 = some (.aload_n 0, 1) by decide +kernel) rfl rfl,
  fun _ _ _ _ _ _ _ => r_getfield (show zdec 45 31 = some (.getfield 11, 3) by decide +kernel) (show zft.lookup (45 * zKEY + 11) = some (1, 0) by decide +kernel) rfl,
  fun _ _ _ _ _ _ => r_iload_n (show zdec 45 34 = some (.iload_n 1, 1) by decide +kernel) rfl rfl,
  fun _ _ _ _ _ _ _ _ => r_aald (show zdec 45 35 = some (.aaload, 1) by decide +kernel) rfl,
  fun _ _ _ _ _ _ _ => r_getfield (show zdec 45 36 = some (.getfield 81, 3) by decide +kernel) (show zft.lookup (45 * zKEY + 81) = some (10, 4) by decide +kernel) rfl,
  fun _ _ _ _ _ _ => r_iconst (show zdec 45 39 = some (.iconst 0, 1) by decide +kernel) rfl rfl,
  fun _ _ _ _ _ _ => r_iload_n (show zdec 45 40 = some (.iload_n 2, 1) by decide +kernel) rfl rfl,
  fun _ _ _ _ _ _ => r_iload_n (show zdec 45 41 = some (.iload_n 3, 1) by decide +kernel) rfl rfl,
  fun _ _ _ _ _ _ _ _ _ _ => r_cV [_, _, _] rfl (show zdec 45 42 = some (.invokevirtual 87, 3) by decide +kernel) (show zst.lookup (45 * zKEY + 87) = some (1, 46, 3, 4) by decide +kernel) (by decide) rfl,
  fun _ _ _ _ _ _ => r_ireti (show zdec 45 45 = some (.ireturn, 1) by decide +kernel) (by decide +kernel)⟩
theorem ze_45 : ∀ (a0 : Nat) (a1 : Int32) (a2 : Int32) (a3 : Int32) (h : zH), ev 45 [.ref a0, .int a1, .int a2, .int a3] h = rn 45 0 [.ref a0, .int a1, .int a2, .int a3] [] h := fun _ _ _ _ _ => if_pos (Nat.le_of_ble_eq_true rfl)
-- PayrollRun.share(III)I
theorem zr_47 : (∀ (l1 l2 l3 : Value) (x : Nat) (S : List Value) (h : zH), rn 47 0 [.ref x, l1, l2, l3] S h = rn 47 1 [.ref x, l1, l2, l3] (.ref x :: S) h) ∧
  (∀ (l0 l1 l2 l3 : Value) (a : Nat) (S : List Value) (h : zH), rn 47 1 [l0, l1, l2, l3] (.ref a :: S) h = zgf h a 11 1 fun v => rn 47 4 [l0, l1, l2, l3] (v :: S) h) ∧
  (∀ (l1 l2 l3 : Value) (x : Nat) (S : List Value) (h : zH), rn 47 4 [.ref x, l1, l2, l3] S h = rn 47 5 [.ref x, l1, l2, l3] (.ref x :: S) h) ∧
  (∀ (l0 l1 l2 l3 : Value) (a : Nat) (S : List Value) (h : zH), rn 47 5 [l0, l1, l2, l3] (.ref a :: S) h = zgf h a 11 0 fun v => rn 47 8 [l0, l1, l2, l3] (v :: S) h) ∧
  (∀ (l0 l1 l2 l3 : Value) (o : Nat) (v0 : Value) (S : List Value) (h : zH), rn 47 8 [l0, l1, l2, l3] (v0 :: .ref o :: S) h = if zkd h o = 5 ∧ zsum S ≤ 8 then zcall (ev 17 [.ref o, v0] h) (fun v h => rn 47 11 [l0, l1, l2, l3] (zpush v S) h) else none) ∧
  (∀ (l1 l2 l3 : Value) (x : Nat) (S : List Value) (h : zH), rn 47 11 [.ref x, l1, l2, l3] S h = rn 47 12 [.ref x, l1, l2, l3] (.ref x :: S) h) ∧
  (∀ (l1 l2 l3 : Value) (x : Nat) (S : List Value) (h : zH), rn 47 12 [.ref x, l1, l2, l3] S h = rn 47 13 [.ref x, l1, l2, l3] (.ref x :: S) h) ∧
  (∀ (l0 l1 l2 l3 : Value) (a : Nat) (S : List Value) (h : zH), rn 47 13 [l0, l1, l2, l3] (.ref a :: S) h = zgf h a 11 0 fun v => rn 47 16 [l0, l1, l2, l3] (v :: S) h) ∧
  (∀ (l0 l2 l3 : Value) (x : Int32) (S : List Value) (h : zH), rn 47 16 [l0, .int x, l2, l3] S h = rn 47 17 [l0, .int x, l2, l3] (.int x :: S) h) ∧
  (∀ (l0 l1 l3 : Value) (x : Int32) (S : List Value) (h : zH), rn 47 17 [l0, l1, .int x, l3] S h = rn 47 18 [l0, l1, .int x, l3] (.int x :: S) h) ∧
  (∀ (l0 l1 l2 : Value) (x : Int32) (S : List Value) (h : zH), rn 47 18 [l0, l1, l2, .int x] S h = rn 47 19 [l0, l1, l2, .int x] (.int x :: S) h) ∧
  (∀ (l0 l1 l2 l3 : Value) (o : Nat) (v0 : Value) (v1 : Value) (v2 : Value) (S : List Value) (h : zH), rn 47 19 [l0, l1, l2, l3] (v2 :: v1 :: v0 :: .ref o :: S) h = if zkd h o = 1 ∧ zsum S ≤ 8 then zcall (ev 48 [.ref o, v0, v1, v2] h) (fun v h => rn 47 22 [l0, l1, l2, l3] (zpush v S) h) else none) ∧
  (∀ (l0 l1 l2 l3 : Value) (o : Nat) (v0 : Value) (S : List Value) (h : zH), rn 47 22 [l0, l1, l2, l3] (v0 :: .ref o :: S) h = if zkd h o = 11 ∧ zsum S ≤ 8 then zcall (ev 26 [.ref o, v0] h) (fun v h => rn 47 25 [l0, l1, l2, l3] (zpush v S) h) else none) ∧
  (∀ (l0 l1 l2 l3 : Value) (x : Int32) (h : zH), rn 47 25 [l0, l1, l2, l3] [.int x] h = some (some (.int x), h)) := ⟨fun _ _ _ _ _ _ => r_aload_nr (show zdec 47 0 = some (.aload_n 0, 1) by decide +kernel) rfl rfl,
  fun _ _ _ _ _ _ _ => r_getfield (show zdec 47 1 = some (.getfield 19, 3) by decide +kernel) (show zft.lookup (47 * zKEY + 19) = some (11, 1) by decide +kernel) rfl,
  fun _ _ _ _ _ _ => r_aload_nr (show zdec 47 4 = some (.aload_n 0, 1) by decide +kernel) rfl rfl,
  fun _ _ _ _ _ _ _ => r_getfield (show zdec 47 5 = some (.getfield 10, 3) by decide +kernel) (show zft.lookup (47 * zKEY + 10) = some (11, 0) by decide +kernel) rfl,
  fun _ _ _ _ _ _ _ _ => r_cV [_] rfl (show zdec 47 8 = some (.invokevirtual 58, 3) by decide +kernel) (show zst.lookup (47 * zKEY + 58) = some (1, 17, 1, 5) by decide +kernel) (by decide) rfl,
  fun _ _ _ _ _ _ => r_aload_nr (show zdec 47 11 = some (.aload_n 0, 1) by decide +kernel) rfl rfl,
  fun _ _ _ _ _ _ => r_aload_nr (show zdec 47 12 = some (.aload_n 0, 1) by decide +kernel) rfl rfl,
  fun _ _ _ _ _ _ _ => r_getfield (show zdec 47 13 = some (.getfield 10, 3) by decide +kernel) (show zft.lookup (47 * zKEY + 10) = some (11, 0) by decide +kernel) rfl,
  fun _ _ _ _ _ _ => r_iload_n (show zdec 47 16 = some (.iload_n 1, 1) by decide +kernel) rfl rfl,
  fun _ _ _ _ _ _ => r_iload_n (show zdec 47 17 = some (.iload_n 2, 1) by decide +kernel) rfl rfl,
  fun _ _ _ _ _ _ => r_iload_n (show zdec 47 18 = some (.iload_n 3, 1) by decide +kernel) rfl rfl,
  fun _ _ _ _ _ _ _ _ _ _ => r_cV [_, _, _] rfl (show zdec 47 19 = some (.invokevirtual 96, 3) by decide +kernel) (show zst.lookup (47 * zKEY + 96) = some (1, 48, 3, 1) by decide +kernel) (by decide) rfl,
  fun _ _ _ _ _ _ _ _ => r_cV [_] rfl (show zdec 47 22 = some (.invokevirtual 66, 3) by decide +kernel) (show zst.lookup (47 * zKEY + 66) = some (1, 26, 1, 11) by decide +kernel) (by decide) rfl,
  fun _ _ _ _ _ _ => r_ireti (show zdec 47 25 = some (.ireturn, 1) by decide +kernel) (by decide +kernel)⟩
theorem ze_47 : ∀ (a0 : Nat) (a1 : Int32) (a2 : Int32) (a3 : Int32) (h : zH), ev 47 [.ref a0, .int a1, .int a2, .int a3] h = rn 47 0 [.ref a0, .int a1, .int a2, .int a3] [] h := fun _ _ _ _ _ => if_pos (Nat.le_of_ble_eq_true rfl)
-- PayrollRun/Books.addShare(III)I
theorem zr_48 : (∀ (l0 l2 l3 : Value) (x : Int32) (S : List Value) (h : zH), rn 48 0 [l0, .int x, l2, l3] S h = rn 48 1 [l0, .int x, l2, l3] (.int x :: S) h) ∧
  (∀ (l0 l1 l2 l3 : Value) (v0 : Value) (S : List Value) (h : zH), rn 48 1 [l0, l1, l2, l3] (v0 :: S) h = if zsum S ≤ 8 then zcall (ev 23 [v0] h) (fun v h => rn 48 4 [l0, l1, l2, l3] (zpush v S) h) else none) ∧
  (∀ (l0 l1 l2 l3 : Value) (x : Int32) (S : List Value) (h : zH), rn 48 4 [l0, l1, l2, l3] (.int x :: S) h = if x = nI 0 then rn 48 28 [l0, l1, l2, l3] S h else rn 48 7 [l0, l1, l2, l3] S h) ∧
  (∀ (l0 l1 l3 : Value) (x : Int32) (S : List Value) (h : zH), rn 48 7 [l0, l1, .int x, l3] S h = rn 48 8 [l0, l1, .int x, l3] (.int x :: S) h) ∧
  (∀ (l0 l1 l2 l3 : Value) (S : List Value) (h : zH), rn 48 8 [l0, l1, l2, l3] S h = rn 48 9 [l0, l1, l2, l3] (.int (nI 1) :: S) h) ∧
  (∀ (l0 l1 l2 l3 : Value) (S : List Value) (h : zH), rn 48 9 [l0, l1, l2, l3] S h = rn 48 12 [l0, l1, l2, l3] (.int (nI 1000) :: S) h) ∧
  (∀ (l0 l1 l2 l3 : Value) (v0 : Value) (v1 : Value) (v2 : Value) (S : List Value) (h : zH), rn 48 12 [l0, l1, l2, l3] (v2 :: v1 :: v0 :: S) h = if zsum S ≤ 8 then zcall (ev 24 [v0, v1, v2] h) (fun v h => rn 48 15 [l0, l1, l2, l3] (zpush v S) h) else none) ∧
  (∀ (l0 l1 l2 l3 : Value) (x : Int32) (S : List Value) (h : zH), rn 48 15 [l0, l1, l2, l3] (.int x :: S) h = if x = nI 0 then rn 48 28 [l0, l1, l2, l3] S h else rn 48 18 [l0, l1, l2, l3] S h) ∧
  (∀ (l0 l1 l2 : Value) (x : Int32) (S : List Value) (h : zH), rn 48 18 [l0, l1, l2, .int x] S h = rn 48 19 [l0, l1, l2, .int x] (.int x :: S) h) ∧
  (∀ (l0 l1 l2 l3 : Value) (S : List Value) (h : zH), rn 48 19 [l0, l1, l2, l3] S h = rn 48 20 [l0, l1, l2, l3] (.int (nI 1) :: S) h) ∧
  (∀ (l0 l1 l2 l3 : Value) (S : List Value) (h : zH), rn 48 20 [l0, l1, l2, l3] S h = rn 48 22 [l0, l1, l2, l3] (.int (nI 99999) :: S) h) ∧
  (∀ (l0 l1 l2 l3 : Value) (v0 : Value) (v1 : Value) (v2 : Value) (S : List Value) (h : zH), rn 48 22 [l0, l1, l2, l3] (v2 :: v1 :: v0 :: S) h = if zsum S ≤ 8 then zcall (ev 24 [v0, v1, v2] h) (fun v h => rn 48 25 [l0, l1, l2, l3] (zpush v S) h) else none) ∧
  (∀ (l0 l1 l2 l3 : Value) (x : Int32) (S : List Value) (h : zH), rn 48 25 [l0, l1, l2, l3] (.int x :: S) h = if x = nI 0 then rn 48 28 [l0, l1, l2, l3] S h else rn 48 30 [l0, l1, l2, l3] S h) ∧
  (∀ (l0 l1 l2 l3 : Value) (S : List Value) (h : zH), rn 48 28 [l0, l1, l2, l3] S h = rn 48 29 [l0, l1, l2, l3] (.int (-1) :: S) h) ∧
  (∀ (l0 l1 l2 l3 : Value) (x : Int32) (h : zH), rn 48 29 [l0, l1, l2, l3] [.int x] h = some (some (.int x), h)) ∧
  (∀ (l1 l2 l3 : Value) (x : Nat) (S : List Value) (h : zH), rn 48 30 [.ref x, l1, l2, l3] S h = rn 48 31 [.ref x, l1, l2, l3] (.ref x :: S) h) ∧
  (∀ (l0 l1 l2 l3 : Value) (a : Nat) (S : List Value) (h : zH), rn 48 31 [l0, l1, l2, l3] (.ref a :: S) h = zgf h a 1 0 fun v => rn 48 34 [l0, l1, l2, l3] (v :: S) h) ∧
  (∀ (l0 l2 l3 : Value) (x : Int32) (S : List Value) (h : zH), rn 48 34 [l0, .int x, l2, l3] S h = rn 48 35 [l0, .int x, l2, l3] (.int x :: S) h) ∧
  (∀ (l0 l1 l2 l3 : Value) (a : Nat) (j : Int32) (S : List Value) (h : zH), rn 48 35 [l0, l1, l2, l3] (.int j :: .ref a :: S) h = zlq h a j fun x => rn 48 36 [l0, l1, l2, l3] (va_rf x :: S) h) ∧
  (∀ (l0 l1 l2 l3 : Value) (a : Nat) (S : List Value) (h : zH), rn 48 36 [l0, l1, l2, l3] (.ref a :: S) h = zgf h a 10 4 fun v => rn 48 39 [l0, l1, l2, l3] (v :: S) h) ∧
  (∀ (l0 l1 l2 l3 : Value) (S : List Value) (h : zH), rn 48 39 [l0, l1, l2, l3] S h = rn 48 40 [l0, l1, l2, l3] (.int (nI 1) :: S) h) ∧
  (∀ (l0 l1 l3 : Value) (x : Int32) (S : List Value) (h : zH), rn 48 40 [l0, l1, .int x, l3] S h = rn 48 41 [l0, l1, .int x, l3] (.int x :: S) h) ∧
  (∀ (l0 l1 l2 : Value) (x : Int32) (S : List Value) (h : zH), rn 48 41 [l0, l1, l2, .int x] S h = rn 48 42 [l0, l1, l2, .int x] (.int x :: S) h) ∧
  (∀ (l0 l1 l2 l3 : Value) (o : Nat) (v0 : Value) (v1 : Value) (v2 : Value) (S : List Value) (h : zH), rn 48 42 [l0, l1, l2, l3] (v2 :: v1 :: v0 :: .ref o :: S) h = if zkd h o = 4 ∧ zsum S ≤ 8 then zcall (ev 46 [.ref o, v0, v1, v2] h) (fun v h => rn 48 45 [l0, l1, l2, l3] (zpush v S) h) else none) ∧
  (∀ (l0 l1 l2 l3 : Value) (x : Int32) (h : zH), rn 48 45 [l0, l1, l2, l3] [.int x] h = some (some (.int x), h)) := ⟨fun _ _ _ _ _ _ => r_iload_n (show zdec 48 0 = some (.iload_n 1, 1) by decide +kernel) rfl rfl,
  fun _ _ _ _ _ _ _ => r_cS [_] rfl (show zdec 48 1 = some (.invokestatic 43, 3) by decide +kernel) (show zst.lookup (48 * zKEY + 43) = some (3, 23, 1, 0) by decide +kernel) (by decide) rfl,
  fun _ _ _ _ _ _ _ => r_ifeq (show zdec 48 4 = some (.ifCond .eq 24, 3) by decide +kernel) rfl rfl,
  fun _ _ _ _ _ _ => r_iload_n (show zdec 48 7 = some (.iload_n 2, 1) by decide +kernel) rfl rfl,
  fun _ _ _ _ _ _ => r_iconst (show zdec 48 8 = some (.iconst 1, 1) by decide +kernel) rfl rfl,
  fun _ _ _ _ _ _ => r_sipush (show zdec 48 9 = some (.sipush 1000, 3) by decide +kernel) rfl rfl,
  fun _ _ _ _ _ _ _ _ _ => r_cS [_, _, _] rfl (show zdec 48 12 = some (.invokestatic 50, 3) by decide +kernel) (show zst.lookup (48 * zKEY + 50) = some (3, 24, 3, 0) by decide +kernel) (by decide) rfl,
  fun _ _ _ _ _ _ _ => r_ifeq (show zdec 48 15 = some (.ifCond .eq 13, 3) by decide +kernel) rfl rfl,
  fun _ _ _ _ _ _ => r_iload_n (show zdec 48 18 = some (.iload_n 3, 1) by decide +kernel) rfl rfl,
  fun _ _ _ _ _ _ => r_iconst (show zdec 48 19 = some (.iconst 1, 1) by decide +kernel) rfl rfl,
  fun _ _ _ _ _ _ => r_ldcI (show zdec 48 20 = some (.ldc 64, 2) by decide +kernel) (show zkt.lookup (48 * zKEY + 64) = some 99999 by decide +kernel) rfl,
  fun _ _ _ _ _ _ _ _ _ => r_cS [_, _, _] rfl (show zdec 48 22 = some (.invokestatic 50, 3) by decide +kernel) (show zst.lookup (48 * zKEY + 50) = some (3, 24, 3, 0) by decide +kernel) (by decide) rfl,
  fun _ _ _ _ _ _ _ => r_ifne (show zdec 48 25 = some (.ifCond .ne 5, 3) by decide +kernel) rfl rfl,
  fun _ _ _ _ _ _ => r_iconst (show zdec 48 28 = some (.iconst (-1), 1) by decide +kernel) rfl rfl,
  fun _ _ _ _ _ _ => r_ireti (show zdec 48 29 = some (.ireturn, 1) by decide +kernel) (by decide +kernel),
  fun _ _ _ _ _ _ => r_aload_nr (show zdec 48 30 = some (.aload_n 0, 1) by decide +kernel) rfl rfl,
  fun _ _ _ _ _ _ _ => r_getfield (show zdec 48 31 = some (.getfield 11, 3) by decide +kernel) (show zft.lookup (48 * zKEY + 11) = some (1, 0) by decide +kernel) rfl,
  fun _ _ _ _ _ _ => r_iload_n (show zdec 48 34 = some (.iload_n 1, 1) by decide +kernel) rfl rfl,
  fun _ _ _ _ _ _ _ _ => r_aald (show zdec 48 35 = some (.aaload, 1) by decide +kernel) rfl,
  fun _ _ _ _ _ _ _ => r_getfield (show zdec 48 36 = some (.getfield 81, 3) by decide +kernel) (show zft.lookup (48 * zKEY + 81) = some (10, 4) by decide +kernel) rfl,
  fun _ _ _ _ _ _ => r_iconst (show zdec 48 39 = some (.iconst 1, 1) by decide +kernel) rfl rfl,
  fun _ _ _ _ _ _ => r_iload_n (show zdec 48 40 = some (.iload_n 2, 1) by decide +kernel) rfl rfl,
  fun _ _ _ _ _ _ => r_iload_n (show zdec 48 41 = some (.iload_n 3, 1) by decide +kernel) rfl rfl,
  fun _ _ _ _ _ _ _ _ _ _ => r_cV [_, _, _] rfl (show zdec 48 42 = some (.invokevirtual 87, 3) by decide +kernel) (show zst.lookup (48 * zKEY + 87) = some (1, 46, 3, 4) by decide +kernel) (by decide) rfl,
  fun _ _ _ _ _ _ => r_ireti (show zdec 48 45 = some (.ireturn, 1) by decide +kernel) (by decide +kernel)⟩
theorem ze_48 : ∀ (a0 : Nat) (a1 : Int32) (a2 : Int32) (a3 : Int32) (h : zH), ev 48 [.ref a0, .int a1, .int a2, .int a3] h = rn 48 0 [.ref a0, .int a1, .int a2, .int a3] [] h := fun _ _ _ _ _ => if_pos (Nat.le_of_ble_eq_true rfl)
-- PayrollRun.dropGarnishment(II)I
theorem zr_49 : (∀ (l1 l2 : Value) (x : Nat) (S : List Value) (h : zH), rn 49 0 [.ref x, l1, l2] S h = rn 49 1 [.ref x, l1, l2] (.ref x :: S) h) ∧
  (∀ (l0 l1 l2 : Value) (a : Nat) (S : List Value) (h : zH), rn 49 1 [l0, l1, l2] (.ref a :: S) h = zgf h a 11 1 fun v => rn 49 4 [l0, l1, l2] (v :: S) h) ∧
  (∀ (l1 l2 : Value) (x : Nat) (S : List Value) (h : zH), rn 49 4 [.ref x, l1, l2] S h = rn 49 5 [.ref x, l1, l2] (.ref x :: S) h) ∧
  (∀ (l0 l1 l2 : Value) (a : Nat) (S : List Value) (h : zH), rn 49 5 [l0, l1, l2] (.ref a :: S) h = zgf h a 11 0 fun v => rn 49 8 [l0, l1, l2] (v :: S) h) ∧
  (∀ (l0 l1 l2 : Value) (o : Nat) (v0 : Value) (S : List Value) (h : zH), rn 49 8 [l0, l1, l2] (v0 :: .ref o :: S) h = if zkd h o = 5 ∧ zsum S ≤ 8 then zcall (ev 17 [.ref o, v0] h) (fun v h => rn 49 11 [l0, l1, l2] (zpush v S) h) else none) ∧
  (∀ (l1 l2 : Value) (x : Nat) (S : List Value) (h : zH), rn 49 11 [.ref x, l1, l2] S h = rn 49 12 [.ref x, l1, l2] (.ref x :: S) h) ∧
  (∀ (l1 l2 : Value) (x : Nat) (S : List Value) (h : zH), rn 49 12 [.ref x, l1, l2] S h = rn 49 13 [.ref x, l1, l2] (.ref x :: S) h) ∧
  (∀ (l0 l1 l2 : Value) (a : Nat) (S : List Value) (h : zH), rn 49 13 [l0, l1, l2] (.ref a :: S) h = zgf h a 11 0 fun v => rn 49 16 [l0, l1, l2] (v :: S) h) ∧
  (∀ (l0 l2 : Value) (x : Int32) (S : List Value) (h : zH), rn 49 16 [l0, .int x, l2] S h = rn 49 17 [l0, .int x, l2] (.int x :: S) h) ∧
  (∀ (l0 l1 : Value) (x : Int32) (S : List Value) (h : zH), rn 49 17 [l0, l1, .int x] S h = rn 49 18 [l0, l1, .int x] (.int x :: S) h) ∧
  (∀ (l0 l1 l2 : Value) (o : Nat) (v0 : Value) (v1 : Value) (S : List Value) (h : zH), rn 49 18 [l0, l1, l2] (v1 :: v0 :: .ref o :: S) h = if zkd h o = 1 ∧ zsum S ≤ 8 then zcall (ev 50 [.ref o, v0, v1] h) (fun v h => rn 49 21 [l0, l1, l2] (zpush v S) h) else none) ∧
  (∀ (l0 l1 l2 : Value) (o : Nat) (v0 : Value) (S : List Value) (h : zH), rn 49 21 [l0, l1, l2] (v0 :: .ref o :: S) h = if zkd h o = 11 ∧ zsum S ≤ 8 then zcall (ev 26 [.ref o, v0] h) (fun v h => rn 49 24 [l0, l1, l2] (zpush v S) h) else none) ∧
  (∀ (l0 l1 l2 : Value) (x : Int32) (h : zH), rn 49 24 [l0, l1, l2] [.int x] h = some (some (.int x), h)) := ⟨fun _ _ _ _ _ => r_aload_nr (show zdec 49 0 = some (.aload_n 0, 1) by decide +kernel) rfl rfl,
  fun _ _ _ _ _ _ => r_getfield (show zdec 49 1 = some (.getfield 19, 3) by decide +kernel) (show zft.lookup (49 * zKEY + 19) = some (11, 1) by decide +kernel) rfl,
  fun _ _ _ _ _ => r_aload_nr (show zdec 49 4 = some (.aload_n 0, 1) by decide +kernel) rfl rfl,
  fun _ _ _ _ _ _ => r_getfield (show zdec 49 5 = some (.getfield 10, 3) by decide +kernel) (show zft.lookup (49 * zKEY + 10) = some (11, 0) by decide +kernel) rfl,
  fun _ _ _ _ _ _ _ => r_cV [_] rfl (show zdec 49 8 = some (.invokevirtual 58, 3) by decide +kernel) (show zst.lookup (49 * zKEY + 58) = some (1, 17, 1, 5) by decide +kernel) (by decide) rfl,
  fun _ _ _ _ _ => r_aload_nr (show zdec 49 11 = some (.aload_n 0, 1) by decide +kernel) rfl rfl,
  fun _ _ _ _ _ => r_aload_nr (show zdec 49 12 = some (.aload_n 0, 1) by decide +kernel) rfl rfl,
  fun _ _ _ _ _ _ => r_getfield (show zdec 49 13 = some (.getfield 10, 3) by decide +kernel) (show zft.lookup (49 * zKEY + 10) = some (11, 0) by decide +kernel) rfl,
  fun _ _ _ _ _ => r_iload_n (show zdec 49 16 = some (.iload_n 1, 1) by decide +kernel) rfl rfl,
  fun _ _ _ _ _ => r_iload_n (show zdec 49 17 = some (.iload_n 2, 1) by decide +kernel) rfl rfl,
  fun _ _ _ _ _ _ _ _ => r_cV [_, _] rfl (show zdec 49 18 = some (.invokevirtual 99, 3) by decide +kernel) (show zst.lookup (49 * zKEY + 99) = some (1, 50, 2, 1) by decide +kernel) (by decide) rfl,
  fun _ _ _ _ _ _ _ => r_cV [_] rfl (show zdec 49 21 = some (.invokevirtual 66, 3) by decide +kernel) (show zst.lookup (49 * zKEY + 66) = some (1, 26, 1, 11) by decide +kernel) (by decide) rfl,
  fun _ _ _ _ _ => r_ireti (show zdec 49 24 = some (.ireturn, 1) by decide +kernel) (by decide +kernel)⟩
theorem ze_49 : ∀ (a0 : Nat) (a1 : Int32) (a2 : Int32) (h : zH), ev 49 [.ref a0, .int a1, .int a2] h = rn 49 0 [.ref a0, .int a1, .int a2] [] h := fun _ _ _ _ => if_pos (Nat.le_of_ble_eq_true rfl)
-- PayrollRun/Books.removeGarnishment(II)I
theorem zr_50 : (∀ (l0 l2 : Value) (x : Int32) (S : List Value) (h : zH), rn 50 0 [l0, .int x, l2] S h = rn 50 1 [l0, .int x, l2] (.int x :: S) h) ∧
  (∀ (l0 l1 l2 : Value) (v0 : Value) (S : List Value) (h : zH), rn 50 1 [l0, l1, l2] (v0 :: S) h = if zsum S ≤ 8 then zcall (ev 23 [v0] h) (fun v h => rn 50 4 [l0, l1, l2] (zpush v S) h) else none) ∧
  (∀ (l0 l1 l2 : Value) (x : Int32) (S : List Value) (h : zH), rn 50 4 [l0, l1, l2] (.int x :: S) h = if x = nI 0 then rn 50 23 [l0, l1, l2] S h else rn 50 7 [l0, l1, l2] S h) ∧
  (∀ (l1 l2 : Value) (x : Nat) (S : List Value) (h : zH), rn 50 7 [.ref x, l1, l2] S h = rn 50 8 [.ref x, l1, l2] (.ref x :: S) h) ∧
  (∀ (l0 l1 l2 : Value) (a : Nat) (S : List Value) (h : zH), rn 50 8 [l0, l1, l2] (.ref a :: S) h = zgf h a 1 0 fun v => rn 50 11 [l0, l1, l2] (v :: S) h) ∧
  (∀ (l0 l2 : Value) (x : Int32) (S : List Value) (h : zH), rn 50 11 [l0, .int x, l2] S h = rn 50 12 [l0, .int x, l2] (.int x :: S) h) ∧
  (∀ (l0 l1 l2 : Value) (a : Nat) (j : Int32) (S : List Value) (h : zH), rn 50 12 [l0, l1, l2] (.int j :: .ref a :: S) h = zlq h a j fun x => rn 50 13 [l0, l1, l2] (va_rf x :: S) h) ∧
  (∀ (l0 l1 l2 : Value) (a : Nat) (S : List Value) (h : zH), rn 50 13 [l0, l1, l2] (.ref a :: S) h = zgf h a 10 4 fun v => rn 50 16 [l0, l1, l2] (v :: S) h) ∧
  (∀ (l0 l1 : Value) (x : Int32) (S : List Value) (h : zH), rn 50 16 [l0, l1, .int x] S h = rn 50 17 [l0, l1, .int x] (.int x :: S) h) ∧
  (∀ (l0 l1 l2 : Value) (o : Nat) (v0 : Value) (S : List Value) (h : zH), rn 50 17 [l0, l1, l2] (v0 :: .ref o :: S) h = if zkd h o = 4 ∧ zsum S ≤ 8 then zcall (ev 51 [.ref o, v0] h) (fun v h => rn 50 20 [l0, l1, l2] (zpush v S) h) else none) ∧
  (∀ (l0 l1 l2 : Value) (x : Int32) (S : List Value) (h : zH), rn 50 20 [l0, l1, l2] (.int x :: S) h = if x = nI 0 then rn 50 23 [l0, l1, l2] S h else rn 50 25 [l0, l1, l2] S h) ∧
  (∀ (l0 l1 l2 : Value) (S : List Value) (h : zH), rn 50 23 [l0, l1, l2] S h = rn 50 24 [l0, l1, l2] (.int (-1) :: S) h) ∧
  (∀ (l0 l1 l2 : Value) (x : Int32) (h : zH), rn 50 24 [l0, l1, l2] [.int x] h = some (some (.int x), h)) ∧
  (∀ (l1 l2 : Value) (x : Nat) (S : List Value) (h : zH), rn 50 25 [.ref x, l1, l2] S h = rn 50 26 [.ref x, l1, l2] (.ref x :: S) h) ∧
  (∀ (l0 l1 l2 : Value) (a : Nat) (S : List Value) (h : zH), rn 50 26 [l0, l1, l2] (.ref a :: S) h = zgf h a 1 0 fun v => rn 50 29 [l0, l1, l2] (v :: S) h) ∧
  (∀ (l0 l2 : Value) (x : Int32) (S : List Value) (h : zH), rn 50 29 [l0, .int x, l2] S h = rn 50 30 [l0, .int x, l2] (.int x :: S) h) ∧
  (∀ (l0 l1 l2 : Value) (a : Nat) (j : Int32) (S : List Value) (h : zH), rn 50 30 [l0, l1, l2] (.int j :: .ref a :: S) h = zlq h a j fun x => rn 50 31 [l0, l1, l2] (va_rf x :: S) h) ∧
  (∀ (l0 l1 l2 : Value) (a : Nat) (S : List Value) (h : zH), rn 50 31 [l0, l1, l2] (.ref a :: S) h = zgf h a 10 4 fun v => rn 50 34 [l0, l1, l2] (v :: S) h) ∧
  (∀ (l0 l1 : Value) (x : Int32) (S : List Value) (h : zH), rn 50 34 [l0, l1, .int x] S h = rn 50 35 [l0, l1, .int x] (.int x :: S) h) ∧
  (∀ (l0 l1 l2 : Value) (o : Nat) (v0 : Value) (S : List Value) (h : zH), rn 50 35 [l0, l1, l2] (v0 :: .ref o :: S) h = if zkd h o = 4 ∧ zsum S ≤ 8 then zcall (ev 52 [.ref o, v0] h) (fun v h => rn 50 38 [l0, l1, l2] (zpush v S) h) else none) ∧
  (∀ (l0 l1 l2 : Value) (x : Int32) (h : zH), rn 50 38 [l0, l1, l2] [.int x] h = some (some (.int x), h)) := ⟨fun _ _ _ _ _ => r_iload_n (show zdec 50 0 = some (.iload_n 1, 1) by decide +kernel) rfl rfl,
  fun _ _ _ _ _ _ => r_cS [_] rfl (show zdec 50 1 = some (.invokestatic 43, 3) by decide +kernel) (show zst.lookup (50 * zKEY + 43) = some (3, 23, 1, 0) by decide +kernel) (by decide) rfl,
  fun _ _ _ _ _ _ => r_ifeq (show zdec 50 4 = some (.ifCond .eq 19, 3) by decide +kernel) rfl rfl,
  fun _ _ _ _ _ => r_aload_nr (show zdec 50 7 = some (.aload_n 0, 1) by decide +kernel) rfl rfl,
  fun _ _ _ _ _ _ => r_getfield (show zdec 50 8 = some (.getfield 11, 3) by decide +kernel) (show zft.lookup (50 * zKEY + 11) = some (1, 0) by decide +kernel) rfl,
  fun _ _ _ _ _ => r_iload_n (show zdec 50 11 = some (.iload_n 1, 1) by decide +kernel) rfl rfl,
  fun _ _ _ _ _ _ _ => r_aald (show zdec 50 12 = some (.aaload, 1) by decide +kernel) rfl,
  fun _ _ _ _ _ _ => r_getfield (show zdec 50 13 = some (.getfield 81, 3) by decide +kernel) (show zft.lookup (50 * zKEY + 81) = some (10, 4) by decide +kernel) rfl,
  fun _ _ _ _ _ => r_iload_n (show zdec 50 16 = some (.iload_n 2, 1) by decide +kernel) rfl rfl,
  fun _ _ _ _ _ _ _ => r_cV [_] rfl (show zdec 50 17 = some (.invokevirtual 91, 3) by decide +kernel) (show zst.lookup (50 * zKEY + 91) = some (1, 51, 1, 4) by decide +kernel) (by decide) rfl,
  fun _ _ _ _ _ _ => r_ifne (show zdec 50 20 = some (.ifCond .ne 5, 3) by decide +kernel) rfl rfl,
  fun _ _ _ _ _ => r_iconst (show zdec 50 23 = some (.iconst (-1), 1) by decide +kernel) rfl rfl,
  fun _ _ _ _ _ => r_ireti (show zdec 50 24 = some (.ireturn, 1) by decide +kernel) (by decide +kernel),
  fun _ _ _ _ _ => r_aload_nr (show zdec 50 25 = some (.aload_n 0, 1) by decide +kernel) rfl rfl,
  fun _ _ _ _ _ _ => r_getfield (show zdec 50 26 = some (.getfield 11, 3) by decide +kernel) (show zft.lookup (50 * zKEY + 11) = some (1, 0) by decide +kernel) rfl,
  fun _ _ _ _ _ => r_iload_n (show zdec 50 29 = some (.iload_n 1, 1) by decide +kernel) rfl rfl,
  fun _ _ _ _ _ _ _ => r_aald (show zdec 50 30 = some (.aaload, 1) by decide +kernel) rfl,
  fun _ _ _ _ _ _ => r_getfield (show zdec 50 31 = some (.getfield 81, 3) by decide +kernel) (show zft.lookup (50 * zKEY + 81) = some (10, 4) by decide +kernel) rfl,
  fun _ _ _ _ _ => r_iload_n (show zdec 50 34 = some (.iload_n 2, 1) by decide +kernel) rfl rfl,
  fun _ _ _ _ _ _ _ => r_cV [_] rfl (show zdec 50 35 = some (.invokevirtual 94, 3) by decide +kernel) (show zst.lookup (50 * zKEY + 94) = some (1, 52, 1, 4) by decide +kernel) (by decide) rfl,
  fun _ _ _ _ _ => r_ireti (show zdec 50 38 = some (.ireturn, 1) by decide +kernel) (by decide +kernel)⟩
theorem ze_50 : ∀ (a0 : Nat) (a1 : Int32) (a2 : Int32) (h : zH), ev 50 [.ref a0, .int a1, .int a2] h = rn 50 0 [.ref a0, .int a1, .int a2] [] h := fun _ _ _ _ => if_pos (Nat.le_of_ble_eq_true rfl)
-- PayrollRun.moveGarnishment(III)I
theorem zr_55 : (∀ (l1 l2 l3 : Value) (x : Nat) (S : List Value) (h : zH), rn 55 0 [.ref x, l1, l2, l3] S h = rn 55 1 [.ref x, l1, l2, l3] (.ref x :: S) h) ∧
  (∀ (l0 l1 l2 l3 : Value) (a : Nat) (S : List Value) (h : zH), rn 55 1 [l0, l1, l2, l3] (.ref a :: S) h = zgf h a 11 1 fun v => rn 55 4 [l0, l1, l2, l3] (v :: S) h) ∧
  (∀ (l1 l2 l3 : Value) (x : Nat) (S : List Value) (h : zH), rn 55 4 [.ref x, l1, l2, l3] S h = rn 55 5 [.ref x, l1, l2, l3] (.ref x :: S) h) ∧
  (∀ (l0 l1 l2 l3 : Value) (a : Nat) (S : List Value) (h : zH), rn 55 5 [l0, l1, l2, l3] (.ref a :: S) h = zgf h a 11 0 fun v => rn 55 8 [l0, l1, l2, l3] (v :: S) h) ∧
  (∀ (l0 l1 l2 l3 : Value) (o : Nat) (v0 : Value) (S : List Value) (h : zH), rn 55 8 [l0, l1, l2, l3] (v0 :: .ref o :: S) h = if zkd h o = 5 ∧ zsum S ≤ 8 then zcall (ev 17 [.ref o, v0] h) (fun v h => rn 55 11 [l0, l1, l2, l3] (zpush v S) h) else none) ∧
  (∀ (l1 l2 l3 : Value) (x : Nat) (S : List Value) (h : zH), rn 55 11 [.ref x, l1, l2, l3] S h = rn 55 12 [.ref x, l1, l2, l3] (.ref x :: S) h) ∧
  (∀ (l1 l2 l3 : Value) (x : Nat) (S : List Value) (h : zH), rn 55 12 [.ref x, l1, l2, l3] S h = rn 55 13 [.ref x, l1, l2, l3] (.ref x :: S) h) ∧
  (∀ (l0 l1 l2 l3 : Value) (a : Nat) (S : List Value) (h : zH), rn 55 13 [l0, l1, l2, l3] (.ref a :: S) h = zgf h a 11 0 fun v => rn 55 16 [l0, l1, l2, l3] (v :: S) h) ∧
  (∀ (l0 l2 l3 : Value) (x : Int32) (S : List Value) (h : zH), rn 55 16 [l0, .int x, l2, l3] S h = rn 55 17 [l0, .int x, l2, l3] (.int x :: S) h) ∧
  (∀ (l0 l1 l3 : Value) (x : Int32) (S : List Value) (h : zH), rn 55 17 [l0, l1, .int x, l3] S h = rn 55 18 [l0, l1, .int x, l3] (.int x :: S) h) ∧
  (∀ (l0 l1 l2 : Value) (x : Int32) (S : List Value) (h : zH), rn 55 18 [l0, l1, l2, .int x] S h = rn 55 19 [l0, l1, l2, .int x] (.int x :: S) h) ∧
  (∀ (l0 l1 l2 l3 : Value) (o : Nat) (v0 : Value) (v1 : Value) (v2 : Value) (S : List Value) (h : zH), rn 55 19 [l0, l1, l2, l3] (v2 :: v1 :: v0 :: .ref o :: S) h = if zkd h o = 1 ∧ zsum S ≤ 8 then zcall (ev 56 [.ref o, v0, v1, v2] h) (fun v h => rn 55 22 [l0, l1, l2, l3] (zpush v S) h) else none) ∧
  (∀ (l0 l1 l2 l3 : Value) (o : Nat) (v0 : Value) (S : List Value) (h : zH), rn 55 22 [l0, l1, l2, l3] (v0 :: .ref o :: S) h = if zkd h o = 11 ∧ zsum S ≤ 8 then zcall (ev 26 [.ref o, v0] h) (fun v h => rn 55 25 [l0, l1, l2, l3] (zpush v S) h) else none) ∧
  (∀ (l0 l1 l2 l3 : Value) (x : Int32) (h : zH), rn 55 25 [l0, l1, l2, l3] [.int x] h = some (some (.int x), h)) := ⟨fun _ _ _ _ _ _ => r_aload_nr (show zdec 55 0 = some (.aload_n 0, 1) by decide +kernel) rfl rfl,
  fun _ _ _ _ _ _ _ => r_getfield (show zdec 55 1 = some (.getfield 19, 3) by decide +kernel) (show zft.lookup (55 * zKEY + 19) = some (11, 1) by decide +kernel) rfl,
  fun _ _ _ _ _ _ => r_aload_nr (show zdec 55 4 = some (.aload_n 0, 1) by decide +kernel) rfl rfl,
  fun _ _ _ _ _ _ _ => r_getfield (show zdec 55 5 = some (.getfield 10, 3) by decide +kernel) (show zft.lookup (55 * zKEY + 10) = some (11, 0) by decide +kernel) rfl,
  fun _ _ _ _ _ _ _ _ => r_cV [_] rfl (show zdec 55 8 = some (.invokevirtual 58, 3) by decide +kernel) (show zst.lookup (55 * zKEY + 58) = some (1, 17, 1, 5) by decide +kernel) (by decide) rfl,
  fun _ _ _ _ _ _ => r_aload_nr (show zdec 55 11 = some (.aload_n 0, 1) by decide +kernel) rfl rfl,
  fun _ _ _ _ _ _ => r_aload_nr (show zdec 55 12 = some (.aload_n 0, 1) by decide +kernel) rfl rfl,
  fun _ _ _ _ _ _ _ => r_getfield (show zdec 55 13 = some (.getfield 10, 3) by decide +kernel) (show zft.lookup (55 * zKEY + 10) = some (11, 0) by decide +kernel) rfl,
  fun _ _ _ _ _ _ => r_iload_n (show zdec 55 16 = some (.iload_n 1, 1) by decide +kernel) rfl rfl,
  fun _ _ _ _ _ _ => r_iload_n (show zdec 55 17 = some (.iload_n 2, 1) by decide +kernel) rfl rfl,
  fun _ _ _ _ _ _ => r_iload_n (show zdec 55 18 = some (.iload_n 3, 1) by decide +kernel) rfl rfl,
  fun _ _ _ _ _ _ _ _ _ _ => r_cV [_, _, _] rfl (show zdec 55 19 = some (.invokevirtual 102, 3) by decide +kernel) (show zst.lookup (55 * zKEY + 102) = some (1, 56, 3, 1) by decide +kernel) (by decide) rfl,
  fun _ _ _ _ _ _ _ _ => r_cV [_] rfl (show zdec 55 22 = some (.invokevirtual 66, 3) by decide +kernel) (show zst.lookup (55 * zKEY + 66) = some (1, 26, 1, 11) by decide +kernel) (by decide) rfl,
  fun _ _ _ _ _ _ => r_ireti (show zdec 55 25 = some (.ireturn, 1) by decide +kernel) (by decide +kernel)⟩
theorem ze_55 : ∀ (a0 : Nat) (a1 : Int32) (a2 : Int32) (a3 : Int32) (h : zH), ev 55 [.ref a0, .int a1, .int a2, .int a3] h = rn 55 0 [.ref a0, .int a1, .int a2, .int a3] [] h := fun _ _ _ _ _ => if_pos (Nat.le_of_ble_eq_true rfl)
-- PayrollRun/Books.shiftGarnishment(III)I
theorem zr_56 : (∀ (l0 l2 l3 l4 : Value) (x : Int32) (S : List Value) (h : zH), rn 56 0 [l0, .int x, l2, l3, l4] S h = rn 56 1 [l0, .int x, l2, l3, l4] (.int x :: S) h) ∧
  (∀ (l0 l1 l2 l3 l4 : Value) (v0 : Value) (S : List Value) (h : zH), rn 56 1 [l0, l1, l2, l3, l4] (v0 :: S) h = if zsum S ≤ 8 then zcall (ev 23 [v0] h) (fun v h => rn 56 4 [l0, l1, l2, l3, l4] (zpush v S) h) else none) ∧
  (∀ (l0 l1 l2 l3 l4 : Value) (x : Int32) (S : List Value) (h : zH), rn 56 4 [l0, l1, l2, l3, l4] (.int x :: S) h = if x = nI 0 then rn 56 7 [l0, l1, l2, l3, l4] S h else rn 56 9 [l0, l1, l2, l3, l4] S h) ∧
  (∀ (l0 l1 l2 l3 l4 : Value) (S : List Value) (h : zH), rn 56 7 [l0, l1, l2, l3, l4] S h = rn 56 8 [l0, l1, l2, l3, l4] (.int (-1) :: S) h) ∧
  (∀ (l0 l1 l2 l3 l4 : Value) (x : Int32) (h : zH), rn 56 8 [l0, l1, l2, l3, l4] [.int x] h = some (some (.int x), h)) ∧
  (∀ (l1 l2 l3 l4 : Value) (x : Nat) (S : List Value) (h : zH), rn 56 9 [.ref x, l1, l2, l3, l4] S h = rn 56 10 [.ref x, l1, l2, l3, l4] (.ref x :: S) h) ∧
  (∀ (l0 l1 l2 l3 l4 : Value) (a : Nat) (S : List Value) (h : zH), rn 56 10 [l0, l1, l2, l3, l4] (.ref a :: S) h = zgf h a 1 0 fun v => rn 56 13 [l0, l1, l2, l3, l4] (v :: S) h) ∧
  (∀ (l0 l2 l3 l4 : Value) (x : Int32) (S : List Value) (h : zH), rn 56 13 [l0, .int x, l2, l3, l4] S h = rn 56 14 [l0, .int x, l2, l3, l4] (.int x :: S) h) ∧
  (∀ (l0 l1 l2 l3 l4 : Value) (a : Nat) (j : Int32) (S : List Value) (h : zH), rn 56 14 [l0, l1, l2, l3, l4] (.int j :: .ref a :: S) h = zlq h a j fun x => rn 56 15 [l0, l1, l2, l3, l4] (va_rf x :: S) h) ∧
  (∀ (l0 l1 l2 l3 l4 : Value) (a : Nat) (S : List Value) (h : zH), rn 56 15 [l0, l1, l2, l3, l4] (.ref a :: S) h = zgf h a 10 4 fun v => rn 56 18 [l0, l1, l2, l3, l4] (v :: S) h) ∧
  (∀ (l0 l1 l2 l3 l4 : Value) (v : Value) (S : List Value) (h : zH), rn 56 18 [l0, l1, l2, l3, l4] (v :: S) h = ldA v (nl l3 (rn 56 20 [l0, l1, l2, l3, v] S h))) ∧
  (∀ (l0 l1 l2 l3 l4 : Value) (S : List Value) (h : zH), rn 56 20 [l0, l1, l2, l3, l4] S h = ldA l4 (rn 56 22 [l0, l1, l2, l3, l4] (l4 :: S) h)) ∧
  (∀ (l0 l1 l3 l4 : Value) (x : Int32) (S : List Value) (h : zH), rn 56 22 [l0, l1, .int x, l3, l4] S h = rn 56 23 [l0, l1, .int x, l3, l4] (.int x :: S) h) ∧
  (∀ (l0 l1 l2 l3 l4 : Value) (o : Nat) (v0 : Value) (S : List Value) (h : zH), rn 56 23 [l0, l1, l2, l3, l4] (v0 :: .ref o :: S) h = if zkd h o = 4 ∧ zsum S ≤ 8 then zcall (ev 51 [.ref o, v0] h) (fun v h => rn 56 26 [l0, l1, l2, l3, l4] (zpush v S) h) else none) ∧
  (∀ (l0 l1 l2 l3 l4 : Value) (x : Int32) (S : List Value) (h : zH), rn 56 26 [l0, l1, l2, l3, l4] (.int x :: S) h = if x = nI 0 then rn 56 38 [l0, l1, l2, l3, l4] S h else rn 56 29 [l0, l1, l2, l3, l4] S h) ∧
  (∀ (l0 l1 l2 l3 l4 : Value) (S : List Value) (h : zH), rn 56 29 [l0, l1, l2, l3, l4] S h = ldA l4 (rn 56 31 [l0, l1, l2, l3, l4] (l4 :: S) h)) ∧
  (∀ (l0 l1 l2 l4 : Value) (x : Int32) (S : List Value) (h : zH), rn 56 31 [l0, l1, l2, .int x, l4] S h = rn 56 32 [l0, l1, l2, .int x, l4] (.int x :: S) h) ∧
  (∀ (l0 l1 l2 l3 l4 : Value) (o : Nat) (v0 : Value) (S : List Value) (h : zH), rn 56 32 [l0, l1, l2, l3, l4] (v0 :: .ref o :: S) h = if zkd h o = 4 ∧ zsum S ≤ 8 then zcall (ev 51 [.ref o, v0] h) (fun v h => rn 56 35 [l0, l1, l2, l3, l4] (zpush v S) h) else none) ∧
  (∀ (l0 l1 l2 l3 l4 : Value) (x : Int32) (S : List Value) (h : zH), rn 56 35 [l0, l1, l2, l3, l4] (.int x :: S) h = if x = nI 0 then rn 56 38 [l0, l1, l2, l3, l4] S h else rn 56 40 [l0, l1, l2, l3, l4] S h) ∧
  (∀ (l0 l1 l2 l3 l4 : Value) (S : List Value) (h : zH), rn 56 38 [l0, l1, l2, l3, l4] S h = rn 56 39 [l0, l1, l2, l3, l4] (.int (-1) :: S) h) ∧
  (∀ (l0 l1 l2 l3 l4 : Value) (x : Int32) (h : zH), rn 56 39 [l0, l1, l2, l3, l4] [.int x] h = some (some (.int x), h)) ∧
  (∀ (l0 l1 l2 l3 l4 : Value) (S : List Value) (h : zH), rn 56 40 [l0, l1, l2, l3, l4] S h = ldA l4 (rn 56 42 [l0, l1, l2, l3, l4] (l4 :: S) h)) ∧
  (∀ (l0 l1 l3 l4 : Value) (x : Int32) (S : List Value) (h : zH), rn 56 42 [l0, l1, .int x, l3, l4] S h = rn 56 43 [l0, l1, .int x, l3, l4] (.int x :: S) h) ∧
  (∀ (l0 l1 l2 l4 : Value) (x : Int32) (S : List Value) (h : zH), rn 56 43 [l0, l1, l2, .int x, l4] S h = rn 56 44 [l0, l1, l2, .int x, l4] (.int x :: S) h) ∧
  (∀ (l0 l1 l2 l3 l4 : Value) (o : Nat) (v0 : Value) (v1 : Value) (S : List Value) (h : zH), rn 56 44 [l0, l1, l2, l3, l4] (v1 :: v0 :: .ref o :: S) h = if zkd h o = 4 ∧ zsum S ≤ 8 then zcall (ev 53 [.ref o, v0, v1] h) (fun v h => rn 56 47 [l0, l1, l2, l3, l4] (zpush v S) h) else none) ∧
  (∀ (l0 l1 l2 l3 l4 : Value) (S : List Value) (h : zH), rn 56 47 [l0, l1, l2, l3, l4] S h = ldA l4 (rn 56 49 [l0, l1, l2, l3, l4] (l4 :: S) h)) ∧
  (∀ (l0 l1 l2 l3 l4 : Value) (a : Nat) (S : List Value) (h : zH), rn 56 49 [l0, l1, l2, l3, l4] (.ref a :: S) h = zgf h a 4 0 fun v => rn 56 52 [l0, l1, l2, l3, l4] (v :: S) h) ∧
  (∀ (l0 l1 l2 l4 : Value) (x : Int32) (S : List Value) (h : zH), rn 56 52 [l0, l1, l2, .int x, l4] S h = rn 56 53 [l0, l1, l2, .int x, l4] (.int x :: S) h) ∧
  (∀ (l0 l1 l2 l3 l4 : Value) (a : Nat) (j : Int32) (S : List Value) (h : zH), rn 56 53 [l0, l1, l2, l3, l4] (.int j :: .ref a :: S) h = zli h a 0 j fun x => rn 56 54 [l0, l1, l2, l3, l4] (.int x :: S) h) ∧
  (∀ (l0 l1 l2 l3 l4 : Value) (x : Int32) (h : zH), rn 56 54 [l0, l1, l2, l3, l4] [.int x] h = some (some (.int x), h)) := ⟨fun _ _ _ _ _ _ _ => r_iload_n (show zdec 56 0 = some (.iload_n 1, 1) by decide +kernel) rfl rfl,
  fun _ _ _ _ _ _ _ _ => r_cS [_] rfl (show zdec 56 1 = some (.invokestatic 43, 3) by decide +kernel) (show zst.lookup (56 * zKEY + 43) = some (3, 23, 1, 0) by decide +kernel) (by decide) rfl,
  fun _ _ _ _ _ _ _ _ => r_ifne (show zdec 56 4 = some (.ifCond .ne 5, 3) by decide +kernel) rfl rfl,
  fun _ _ _ _ _ _ _ => r_iconst (show zdec 56 7 = some (.iconst (-1), 1) by decide +kernel) rfl rfl,
  fun _ _ _ _ _ _ _ => r_ireti (show zdec 56 8 = some (.ireturn, 1) by decide +kernel) (by decide +kernel),
  fun _ _ _ _ _ _ _ => r_aload_nr (show zdec 56 9 = some (.aload_n 0, 1) by decide +kernel) rfl rfl,
  fun _ _ _ _ _ _ _ _ => r_getfield (show zdec 56 10 = some (.getfield 11, 3) by decide +kernel) (show zft.lookup (56 * zKEY + 11) = some (1, 0) by decide +kernel) rfl,
  fun _ _ _ _ _ _ _ => r_iload_n (show zdec 56 13 = some (.iload_n 1, 1) by decide +kernel) rfl rfl,
  fun _ _ _ _ _ _ _ _ _ => r_aald (show zdec 56 14 = some (.aaload, 1) by decide +kernel) rfl,
  fun _ _ _ _ _ _ _ _ => r_getfield (show zdec 56 15 = some (.getfield 81, 3) by decide +kernel) (show zft.lookup (56 * zKEY + 81) = some (10, 4) by decide +kernel) rfl,
  fun _ _ _ _ _ _ _ _ => r_astore (show zdec 56 18 = some (.astore 4, 2) by decide +kernel) rfl (Nat.le_of_ble_eq_true rfl) rfl rfl,
  fun _ _ _ _ _ _ _ => r_aload (show zdec 56 20 = some (.aload 4, 2) by decide +kernel) rfl rfl,
  fun _ _ _ _ _ _ _ => r_iload_n (show zdec 56 22 = some (.iload_n 2, 1) by decide +kernel) rfl rfl,
  fun _ _ _ _ _ _ _ _ _ => r_cV [_] rfl (show zdec 56 23 = some (.invokevirtual 91, 3) by decide +kernel) (show zst.lookup (56 * zKEY + 91) = some (1, 51, 1, 4) by decide +kernel) (by decide) rfl,
  fun _ _ _ _ _ _ _ _ => r_ifeq (show zdec 56 26 = some (.ifCond .eq 12, 3) by decide +kernel) rfl rfl,
  fun _ _ _ _ _ _ _ => r_aload (show zdec 56 29 = some (.aload 4, 2) by decide +kernel) rfl rfl,
  fun _ _ _ _ _ _ _ => r_iload_n (show zdec 56 31 = some (.iload_n 3, 1) by decide +kernel) rfl rfl,
  fun _ _ _ _ _ _ _ _ _ => r_cV [_] rfl (show zdec 56 32 = some (.invokevirtual 91, 3) by decide +kernel) (show zst.lookup (56 * zKEY + 91) = some (1, 51, 1, 4) by decide +kernel) (by decide) rfl,
  fun _ _ _ _ _ _ _ _ => r_ifne (show zdec 56 35 = some (.ifCond .ne 5, 3) by decide +kernel) rfl rfl,
  fun _ _ _ _ _ _ _ => r_iconst (show zdec 56 38 = some (.iconst (-1), 1) by decide +kernel) rfl rfl,
  fun _ _ _ _ _ _ _ => r_ireti (show zdec 56 39 = some (.ireturn, 1) by decide +kernel) (by decide +kernel),
  fun _ _ _ _ _ _ _ => r_aload (show zdec 56 40 = some (.aload 4, 2) by decide +kernel) rfl rfl,
  fun _ _ _ _ _ _ _ => r_iload_n (show zdec 56 42 = some (.iload_n 2, 1) by decide +kernel) rfl rfl,
  fun _ _ _ _ _ _ _ => r_iload_n (show zdec 56 43 = some (.iload_n 3, 1) by decide +kernel) rfl rfl,
  fun _ _ _ _ _ _ _ _ _ _ => r_cV [_, _] rfl (show zdec 56 44 = some (.invokevirtual 98, 3) by decide +kernel) (show zst.lookup (56 * zKEY + 98) = some (1, 53, 2, 4) by decide +kernel) (by decide) rfl,
  fun _ _ _ _ _ _ _ => r_aload (show zdec 56 47 = some (.aload 4, 2) by decide +kernel) rfl rfl,
  fun _ _ _ _ _ _ _ _ => r_getfield (show zdec 56 49 = some (.getfield 102, 3) by decide +kernel) (show zft.lookup (56 * zKEY + 102) = some (4, 0) by decide +kernel) rfl,
  fun _ _ _ _ _ _ _ => r_iload_n (show zdec 56 52 = some (.iload_n 3, 1) by decide +kernel) rfl rfl,
  fun _ _ _ _ _ _ _ _ _ => r_iald (show zdec 56 53 = some (.iaload, 1) by decide +kernel) rfl,
  fun _ _ _ _ _ _ _ => r_ireti (show zdec 56 54 = some (.ireturn, 1) by decide +kernel) (by decide +kernel)⟩
theorem ze_56 : ∀ (a0 : Nat) (a1 : Int32) (a2 : Int32) (a3 : Int32) (h : zH), ev 56 [.ref a0, .int a1, .int a2, .int a3] h = rn 56 0 [.ref a0, .int a1, .int a2, .int a3, .float 0] [] h := fun _ _ _ _ _ => if_pos (Nat.le_of_ble_eq_true rfl)
-- PayrollRun.closeMonth()I
theorem zr_57 : (∀ (x : Nat) (S : List Value) (h : zH), rn 57 0 [.ref x] S h = rn 57 1 [.ref x] (.ref x :: S) h) ∧
  (∀ (l0 : Value) (a : Nat) (S : List Value) (h : zH), rn 57 1 [l0] (.ref a :: S) h = zgf h a 11 1 fun v => rn 57 4 [l0] (v :: S) h) ∧
  (∀ (x : Nat) (S : List Value) (h : zH), rn 57 4 [.ref x] S h = rn 57 5 [.ref x] (.ref x :: S) h) ∧
  (∀ (l0 : Value) (a : Nat) (S : List Value) (h : zH), rn 57 5 [l0] (.ref a :: S) h = zgf h a 11 0 fun v => rn 57 8 [l0] (v :: S) h) ∧
  (∀ (l0 : Value) (o : Nat) (v0 : Value) (S : List Value) (h : zH), rn 57 8 [l0] (v0 :: .ref o :: S) h = if zkd h o = 5 ∧ zsum S ≤ 8 then zcall (ev 17 [.ref o, v0] h) (fun v h => rn 57 11 [l0] (zpush v S) h) else none) ∧
  (∀ (x : Nat) (S : List Value) (h : zH), rn 57 11 [.ref x] S h = rn 57 12 [.ref x] (.ref x :: S) h) ∧
  (∀ (x : Nat) (S : List Value) (h : zH), rn 57 12 [.ref x] S h = rn 57 13 [.ref x] (.ref x :: S) h) ∧
  (∀ (l0 : Value) (a : Nat) (S : List Value) (h : zH), rn 57 13 [l0] (.ref a :: S) h = zgf h a 11 0 fun v => rn 57 16 [l0] (v :: S) h) ∧
  (∀ (x : Nat) (S : List Value) (h : zH), rn 57 16 [.ref x] S h = rn 57 17 [.ref x] (.ref x :: S) h) ∧
  (∀ (l0 : Value) (a : Nat) (S : List Value) (h : zH), rn 57 17 [l0] (.ref a :: S) h = zgf h a 11 5 fun v => rn 57 20 [l0] (v :: S) h) ∧
  (∀ (l0 : Value) (o : Nat) (v0 : Value) (S : List Value) (h : zH), rn 57 20 [l0] (v0 :: .ref o :: S) h = if zkd h o = 1 ∧ zsum S ≤ 8 then zcall (ev 58 [.ref o, v0] h) (fun v h => rn 57 23 [l0] (zpush v S) h) else none) ∧
  (∀ (l0 : Value) (o : Nat) (v0 : Value) (S : List Value) (h : zH), rn 57 23 [l0] (v0 :: .ref o :: S) h = if zkd h o = 11 ∧ zsum S ≤ 8 then zcall (ev 26 [.ref o, v0] h) (fun v h => rn 57 26 [l0] (zpush v S) h) else none) ∧
  (∀ (l0 : Value) (x : Int32) (h : zH), rn 57 26 [l0] [.int x] h = some (some (.int x), h)) := ⟨fun _ _ _ => r_aload_nr (show zdec 57 0 = some (.aload_n 0, 1) by decide +kernel) rfl rfl,
  fun _ _ _ _ => r_getfield (show zdec 57 1 = some (.getfield 19, 3) by decide +kernel) (show zft.lookup (57 * zKEY + 19) = some (11, 1) by decide +kernel) rfl,
  fun _ _ _ => r_aload_nr (show zdec 57 4 = some (.aload_n 0, 1) by decide +kernel) rfl rfl,
  fun _ _ _ _ => r_getfield (show zdec 57 5 = some (.getfield 10, 3) by decide +kernel) (show zft.lookup (57 * zKEY + 10) = some (11, 0) by decide +kernel) rfl,
  fun _ _ _ _ _ => r_cV [_] rfl (show zdec 57 8 = some (.invokevirtual 58, 3) by decide +kernel) (show zst.lookup (57 * zKEY + 58) = some (1, 17, 1, 5) by decide +kernel) (by decide) rfl,
  fun _ _ _ => r_aload_nr (show zdec 57 11 = some (.aload_n 0, 1) by decide +kernel) rfl rfl,
  fun _ _ _ => r_aload_nr (show zdec 57 12 = some (.aload_n 0, 1) by decide +kernel) rfl rfl,
  fun _ _ _ _ => r_getfield (show zdec 57 13 = some (.getfield 10, 3) by decide +kernel) (show zft.lookup (57 * zKEY + 10) = some (11, 0) by decide +kernel) rfl,
  fun _ _ _ => r_aload_nr (show zdec 57 16 = some (.aload_n 0, 1) by decide +kernel) rfl rfl,
  fun _ _ _ _ => r_getfield (show zdec 57 17 = some (.getfield 40, 3) by decide +kernel) (show zft.lookup (57 * zKEY + 40) = some (11, 5) by decide +kernel) rfl,
  fun _ _ _ _ _ => r_cV [_] rfl (show zdec 57 20 = some (.invokevirtual 105, 3) by decide +kernel) (show zst.lookup (57 * zKEY + 105) = some (1, 58, 1, 1) by decide +kernel) (by decide) rfl,
  fun _ _ _ _ _ => r_cV [_] rfl (show zdec 57 23 = some (.invokevirtual 66, 3) by decide +kernel) (show zst.lookup (57 * zKEY + 66) = some (1, 26, 1, 11) by decide +kernel) (by decide) rfl,
  fun _ _ _ => r_ireti (show zdec 57 26 = some (.ireturn, 1) by decide +kernel) (by decide +kernel)⟩
theorem ze_57 : ∀ (a0 : Nat) (h : zH), ev 57 [.ref a0] h = rn 57 0 [.ref a0] [] h := fun _ _ => if_pos (Nat.le_of_ble_eq_true rfl)
-- PayrollRun/Books.closeNext(LPayrollRun/Closing;)I
theorem zr_58 : (∀ (l1 l2 l3 l4 : Value) (x : Nat) (S : List Value) (h : zH), rn 58 0 [.ref x, l1, l2, l3, l4] S h = rn 58 1 [.ref x, l1, l2, l3, l4] (.ref x :: S) h) ∧
  (∀ (l0 l1 l2 l3 l4 : Value) (a : Nat) (S : List Value) (h : zH), rn 58 1 [l0, l1, l2, l3, l4] (.ref a :: S) h = zgf h a 1 2 fun v => rn 58 4 [l0, l1, l2, l3, l4] (v :: S) h) ∧
  (∀ (l0 l1 l2 l3 l4 : Value) (x : Int32) (S : List Value) (h : zH), rn 58 4 [l0, l1, l2, l3, l4] (.int x :: S) h = nl l1 (rn 58 5 [l0, l1, .int x, l3, l4] S h)) ∧
  (∀ (l0 l1 l3 l4 : Value) (x : Int32) (S : List Value) (h : zH), rn 58 5 [l0, l1, .int x, l3, l4] S h = rn 58 6 [l0, l1, .int x, l3, l4] (.int x :: S) h) ∧
  (∀ (l0 l1 l2 l3 l4 : Value) (v0 : Value) (S : List Value) (h : zH), rn 58 6 [l0, l1, l2, l3, l4] (v0 :: S) h = if zsum S ≤ 8 then zcall (ev 25 [v0] h) (fun v h => rn 58 9 [l0, l1, l2, l3, l4] (zpush v S) h) else none) ∧
  (∀ (l0 l1 l2 l3 l4 : Value) (x : Int32) (S : List Value) (h : zH), rn 58 9 [l0, l1, l2, l3, l4] (.int x :: S) h = if x = nI 0 then rn 58 12 [l0, l1, l2, l3, l4] S h else rn 58 15 [l0, l1, l2, l3, l4] S h) ∧
  (∀ (l0 l1 l2 l3 l4 : Value) (S : List Value) (h : zH), rn 58 12 [l0, l1, l2, l3, l4] S h = rn 58 14 [l0, l1, l2, l3, l4] (.int (-2) :: S) h) ∧
  (∀ (l0 l1 l2 l3 l4 : Value) (x : Int32) (h : zH), rn 58 14 [l0, l1, l2, l3, l4] [.int x] h = some (some (.int x), h)) ∧
  (∀ (l0 l1 l2 l3 l4 : Value) (S : List Value) (h : zH), rn 58 15 [l0, l1, l2, l3, l4] S h = rn 58 16 [l0, l1, l2, l3, l4] (.int (nI 0) :: S) h) ∧
  (∀ (l0 l1 l2 l3 l4 : Value) (x : Int32) (S : List Value) (h : zH), rn 58 16 [l0, l1, l2, l3, l4] (.int x :: S) h = nl l2 (rn 58 17 [l0, l1, l2, .int x, l4] S h)) ∧
  (∀ (l0 l1 l2 l3 l4 : Value) (S : List Value) (h : zH), rn 58 18 [l0, l1, l2, l3, l4] S h = rn 58 19 [l0, l1, l2, l3, l4] (.int (nI 3) :: S) h) ∧
  (∀ (l0 l1 l2 l3 l4 : Value) (x : Int32) (y : Int32) (S : List Value) (h : zH), rn 58 19 [l0, l1, l2, l3, l4] (.int y :: .int x :: S) h = if y ≤ x then rn 58 71 [l0, l1, l2, l3, l4] S h else rn 58 22 [l0, l1, l2, l3, l4] S h) ∧
  (∀ (l0 l1 l2 l3 l4 : Value) (S : List Value) (h : zH), rn 58 22 [l0, l1, l2, l3, l4] S h = rn 58 25 [l0, l1, l2, l3, l4] (.ref (100 + h.1) :: S) (znew h (.inr (7, [.null, .null, .int 0, .long 0])) 4)) ∧
  (∀ (l0 l1 l2 l3 l4 : Value) (v : Value) (S : List Value) (h : zH), rn 58 25 [l0, l1, l2, l3, l4] (v :: S) h = c1 v (rn 58 26 [l0, l1, l2, l3, l4] (v :: v :: S) h)) ∧
  (∀ (l0 l1 l2 l3 l4 : Value) (o : Nat) (S : List Value) (h : zH), rn 58 26 [l0, l1, l2, l3, l4] (.ref o :: S) h = if zsum S ≤ 8 then zcall (ev 10 [.ref o] h) (fun v h => rn 58 29 [l0, l1, l2, l3, l4] (zpush v S) h) else none) ∧
  (∀ (l0 l1 l2 l3 l4 : Value) (v : Value) (S : List Value) (h : zH), rn 58 29 [l0, l1, l2, l3, l4] (v :: S) h = ldA v (nl l3 (rn 58 31 [l0, l1, l2, l3, v] S h))) ∧
  (∀ (l0 l1 l2 l3 l4 : Value) (S : List Value) (h : zH), rn 58 31 [l0, l1, l2, l3, l4] S h = ldA l1 (rn 58 32 [l0, l1, l2, l3, l4] (l1 :: S) h)) ∧
  (∀ (l1 l2 l3 l4 : Value) (x : Nat) (S : List Value) (h : zH), rn 58 32 [.ref x, l1, l2, l3, l4] S h = rn 58 33 [.ref x, l1, l2, l3, l4] (.ref x :: S) h) ∧
  (∀ (l0 l1 l2 l3 l4 : Value) (a : Nat) (S : List Value) (h : zH), rn 58 33 [l0, l1, l2, l3, l4] (.ref a :: S) h = zgf h a 1 0 fun v => rn 58 36 [l0, l1, l2, l3, l4] (v :: S) h) ∧
  (∀ (l0 l1 l2 l4 : Value) (x : Int32) (S : List Value) (h : zH), rn 58 36 [l0, l1, l2, .int x, l4] S h = rn 58 37 [l0, l1, l2, .int x, l4] (.int x :: S) h) ∧
  (∀ (l0 l1 l2 l3 l4 : Value) (a : Nat) (j : Int32) (S : List Value) (h : zH), rn 58 37 [l0, l1, l2, l3, l4] (.int j :: .ref a :: S) h = zlq h a j fun x => rn 58 38 [l0, l1, l2, l3, l4] (va_rf x :: S) h) ∧
  (∀ (l0 l1 l3 l4 : Value) (x : Int32) (S : List Value) (h : zH), rn 58 38 [l0, l1, .int x, l3, l4] S h = rn 58 39 [l0, l1, .int x, l3, l4] (.int x :: S) h) ∧
  (∀ (l1 l2 l3 l4 : Value) (x : Nat) (S : List Value) (h : zH), rn 58 39 [.ref x, l1, l2, l3, l4] S h = rn 58 40 [.ref x, l1, l2, l3, l4] (.ref x :: S) h) ∧
  (∀ (l0 l1 l2 l3 l4 : Value) (a : Nat) (S : List Value) (h : zH), rn 58 40 [l0, l1, l2, l3, l4] (.ref a :: S) h = zgf h a 1 1 fun v => rn 58 43 [l0, l1, l2, l3, l4] (v :: S) h) ∧
  (∀ (l1 l2 l3 l4 : Value) (x : Nat) (S : List Value) (h : zH), rn 58 43 [.ref x, l1, l2, l3, l4] S h = rn 58 44 [.ref x, l1, l2, l3, l4] (.ref x :: S) h) ∧
  (∀ (l0 l1 l2 l3 l4 : Value) (a : Nat) (S : List Value) (h : zH), rn 58 44 [l0, l1, l2, l3, l4] (.ref a :: S) h = zgf h a 1 4 fun v => rn 58 47 [l0, l1, l2, l3, l4] (v :: S) h) ∧
  (∀ (l0 l1 l2 l3 l4 : Value) (S : List Value) (h : zH), rn 58 47 [l0, l1, l2, l3, l4] S h = ldA l4 (rn 58 49 [l0, l1, l2, l3, l4] (l4 :: S) h)) ∧
  (∀ (l0 l1 l2 l3 l4 : Value) (o : Nat) (v0 : Value) (v1 : Value) (v2 : Value) (v3 : Value) (v4 : Value) (S : List Value) (h : zH), rn 58 49 [l0, l1, l2, l3, l4] (v4 :: v3 :: v2 :: v1 :: v0 :: .ref o :: S) h = if zkd h o = 2 ∧ zsum S ≤ 8 then zcall (ev 59 [.ref o, v0, v1, v2, v3, v4] h) (fun v h => rn 58 52 [l0, l1, l2, l3, l4] (zpush v S) h) else none) ∧
  (∀ (l1 l2 l3 l4 : Value) (x : Nat) (S : List Value) (h : zH), rn 58 52 [.ref x, l1, l2, l3, l4] S h = rn 58 53 [.ref x, l1, l2, l3, l4] (.ref x :: S) h) ∧
  (∀ (l0 l1 l2 l3 l4 : Value) (a : Nat) (S : List Value) (h : zH), rn 58 53 [l0, l1, l2, l3, l4] (.ref a :: S) h = zgf h a 1 0 fun v => rn 58 56 [l0, l1, l2, l3, l4] (v :: S) h) ∧
  (∀ (l0 l1 l2 l4 : Value) (x : Int32) (S : List Value) (h : zH), rn 58 56 [l0, l1, l2, .int x, l4] S h = rn 58 57 [l0, l1, l2, .int x, l4] (.int x :: S) h) ∧
  (∀ (l0 l1 l2 l3 l4 : Value) (a : Nat) (j : Int32) (S : List Value) (h : zH), rn 58 57 [l0, l1, l2, l3, l4] (.int j :: .ref a :: S) h = zlq h a j fun x => rn 58 58 [l0, l1, l2, l3, l4] (va_rf x :: S) h) ∧
  (∀ (l0 l1 l2 l3 l4 : Value) (a : Nat) (S : List Value) (h : zH), rn 58 58 [l0, l1, l2, l3, l4] (.ref a :: S) h = zgf h a 10 3 fun v => rn 58 61 [l0, l1, l2, l3, l4] (v :: S) h) ∧
  (∀ (l0 l1 l3 l4 : Value) (x : Int32) (S : List Value) (h : zH), rn 58 61 [l0, l1, .int x, l3, l4] S h = rn 58 62 [l0, l1, .int x, l3, l4] (.int x :: S) h) ∧
  (∀ (l0 l1 l2 l3 l4 : Value) (S : List Value) (h : zH), rn 58 62 [l0, l1, l2, l3, l4] S h = ldA l4 (rn 58 64 [l0, l1, l2, l3, l4] (l4 :: S) h)) ∧
  (∀ (l0 l1 l2 l3 l4 : Value) (a : Nat) (j : Int32) (v : Value) (S : List Value) (h : zH), rn 58 64 [l0, l1, l2, l3, l4] (v :: .int j :: .ref a :: S) h = zsq h a j v fun h => rn 58 65 [l0, l1, l2, l3, l4] S h) ∧
  (∀ (l0 l1 l2 l4 : Value) (x : Int32) (S : List Value) (h : zH), rn 58 65 [l0, l1, l2, .int x, l4] S h = nl l2 (rn 58 68 [l0, l1, l2, .int (x + (nI 1)), l4] S h)) ∧
  (∀ (l0 l1 l2 l3 l4 : Value) (S : List Value) (h : zH), rn 58 68 [l0, l1, l2, l3, l4] S h = rn 58 17 [l0, l1, l2, l3, l4] S h) ∧
  (∀ (l1 l2 l3 l4 : Value) (x : Nat) (S : List Value) (h : zH), rn 58 71 [.ref x, l1, l2, l3, l4] S h = rn 58 72 [.ref x, l1, l2, l3, l4] (.ref x :: S) h) ∧
  (∀ (l0 l1 l3 l4 : Value) (x : Int32) (S : List Value) (h : zH), rn 58 72 [l0, l1, .int x, l3, l4] S h = rn 58 73 [l0, l1, .int x, l3, l4] (.int x :: S) h) ∧
  (∀ (l0 l1 l2 l3 l4 : Value) (S : List Value) (h : zH), rn 58 73 [l0, l1, l2, l3, l4] S h = rn 58 74 [l0, l1, l2, l3, l4] (.int (nI 1) :: S) h) ∧
  (∀ (l0 l1 l2 l3 l4 : Value) (x : Int32) (y : Int32) (S : List Value) (h : zH), rn 58 74 [l0, l1, l2, l3, l4] (.int y :: .int x :: S) h = rn 58 75 [l0, l1, l2, l3, l4] (.int (x + y) :: S) h) ∧
  (∀ (l0 l1 l2 l3 l4 : Value) (a : Nat) (v : Value) (S : List Value) (h : zH), rn 58 75 [l0, l1, l2, l3, l4] (v :: .ref a :: S) h = zpf h a 1 2 v fun h => rn 58 78 [l0, l1, l2, l3, l4] S h) ∧
  (∀ (l1 l2 l3 l4 : Value) (x : Nat) (S : List Value) (h : zH), rn 58 78 [.ref x, l1, l2, l3, l4] S h = rn 58 79 [.ref x, l1, l2, l3, l4] (.ref x :: S) h) ∧
  (∀ (l0 l1 l2 l3 l4 : Value) (S : List Value) (h : zH), rn 58 79 [l0, l1, l2, l3, l4] S h = rn 58 80 [l0, l1, l2, l3, l4] (.int (nI 0) :: S) h) ∧
  (∀ (l0 l1 l2 l3 l4 : Value) (a : Nat) (v : Value) (S : List Value) (h : zH), rn 58 80 [l0, l1, l2, l3, l4] (v :: .ref a :: S) h = zpf h a 1 4 v fun h => rn 58 83 [l0, l1, l2, l3, l4] S h) ∧
  (∀ (l0 l1 l3 l4 : Value) (x : Int32) (S : List Value) (h : zH), rn 58 83 [l0, l1, .int x, l3, l4] S h = rn 58 84 [l0, l1, .int x, l3, l4] (.int x :: S) h) ∧
  (∀ (l0 l1 l2 l3 l4 : Value) (x : Int32) (h : zH), rn 58 84 [l0, l1, l2, l3, l4] [.int x] h = some (some (.int x), h)) := ⟨fun _ _ _ _ _ _ _ => r_aload_nr (show zdec 58 0 = some (.aload_n 0, 1) by decide +kernel) rfl rfl,
  fun _ _ _ _ _ _ _ _ => r_getfield (show zdec 58 1 = some (.getfield 24, 3) by decide +kernel) (show zft.lookup (58 * zKEY + 24) = some (1, 2) by decide +kernel) rfl,
  fun _ _ _ _ _ _ _ _ => r_istore_n (show zdec 58 4 = some (.istore_n 2, 1) by decide +kernel) rfl rfl (Nat.le_of_ble_eq_true rfl) rfl rfl,
  fun _ _ _ _ _ _ _ => r_iload_n (show zdec 58 5 = some (.iload_n 2, 1) by decide +kernel) rfl rfl,
  fun _ _ _ _ _ _ _ _ => r_cS [_] rfl (show zdec 58 6 = some (.invokestatic 47, 3) by decide +kernel) (show zst.lookup (58 * zKEY + 47) = some (3, 25, 1, 0) by decide +kernel) (by decide) rfl,
  fun _ _ _ _ _ _ _ _ => r_ifne (show zdec 58 9 = some (.ifCond .ne 6, 3) by decide +kernel) rfl rfl,
  fun _ _ _ _ _ _ _ => r_bipush (show zdec 58 12 = some (.bipush (-2), 2) by decide +kernel) rfl rfl,
  fun _ _ _ _ _ _ _ => r_ireti (show zdec 58 14 = some (.ireturn, 1) by decide +kernel) (by decide +kernel),
  fun _ _ _ _ _ _ _ => r_iconst (show zdec 58 15 = some (.iconst 0, 1) by decide +kernel) rfl rfl,
  fun _ _ _ _ _ _ _ _ => r_istore_n (show zdec 58 16 = some (.istore_n 3, 1) by decide +kernel) rfl rfl (Nat.le_of_ble_eq_true rfl) rfl rfl,
  fun _ _ _ _ _ _ _ => r_iconst (show zdec 58 18 = some (.iconst 3, 1) by decide +kernel) rfl rfl,
  fun _ _ _ _ _ _ _ _ _ => r_icmpge (show zdec 58 19 = some (.if_icmp .ge 52, 3) by decide +kernel) rfl rfl,
  fun _ _ _ _ _ _ _ => r_new (show zdec 58 22 = some (.new 105, 3) by decide +kernel) (show znt.lookup (58 * zKEY + 105) = some 7 by decide +kernel) (by decide +kernel) rfl rfl,
  fun _ _ _ _ _ _ _ _ => r_dup (show zdec 58 25 = some (.dup, 1) by decide +kernel) rfl,
  fun _ _ _ _ _ _ _ _ => r_cI [] rfl (show zdec 58 26 = some (.invokespecial 107, 3) by decide +kernel) (show zst.lookup (58 * zKEY + 107) = some (4, 10, 0, 0) by decide +kernel) (by decide) rfl,
  fun _ _ _ _ _ _ _ _ => r_astore (show zdec 58 29 = some (.astore 4, 2) by decide +kernel) rfl (Nat.le_of_ble_eq_true rfl) rfl rfl,
  fun _ _ _ _ _ _ _ => r_aload_n (show zdec 58 31 = some (.aload_n 1, 1) by decide +kernel) rfl rfl,
  fun _ _ _ _ _ _ _ => r_aload_nr (show zdec 58 32 = some (.aload_n 0, 1) by decide +kernel) rfl rfl,
  fun _ _ _ _ _ _ _ _ => r_getfield (show zdec 58 33 = some (.getfield 11, 3) by decide +kernel) (show zft.lookup (58 * zKEY + 11) = some (1, 0) by decide +kernel) rfl,
  fun _ _ _ _ _ _ _ => r_iload_n (show zdec 58 36 = some (.iload_n 3, 1) by decide +kernel) rfl rfl,
  fun _ _ _ _ _ _ _ _ _ => r_aald (show zdec 58 37 = some (.aaload, 1) by decide +kernel) rfl,
  fun _ _ _ _ _ _ _ => r_iload_n (show zdec 58 38 = some (.iload_n 2, 1) by decide +kernel) rfl rfl,
  fun _ _ _ _ _ _ _ => r_aload_nr (show zdec 58 39 = some (.aload_n 0, 1) by decide +kernel) rfl rfl,
  fun _ _ _ _ _ _ _ _ => r_getfield (show zdec 58 40 = some (.getfield 20, 3) by decide +kernel) (show zft.lookup (58 * zKEY + 20) = some (1, 1) by decide +kernel) rfl,
  fun _ _ _ _ _ _ _ => r_aload_nr (show zdec 58 43 = some (.aload_n 0, 1) by decide +kernel) rfl rfl,
  fun _ _ _ _ _ _ _ _ => r_getfield (show zdec 58 44 = some (.getfield 31, 3) by decide +kernel) (show zft.lookup (58 * zKEY + 31) = some (1, 4) by decide +kernel) rfl,
  fun _ _ _ _ _ _ _ => r_aload (show zdec 58 47 = some (.aload 4, 2) by decide +kernel) rfl rfl,
  fun _ _ _ _ _ _ _ _ _ _ _ _ _ => r_cV [_, _, _, _, _] rfl (show zdec 58 49 = some (.invokevirtual 108, 3) by decide +kernel) (show zst.lookup (58 * zKEY + 108) = some (1, 59, 5, 2) by decide +kernel) (by decide) rfl,
  fun _ _ _ _ _ _ _ => r_aload_nr (show zdec 58 52 = some (.aload_n 0, 1) by decide +kernel) rfl rfl,
  fun _ _ _ _ _ _ _ _ => r_getfield (show zdec 58 53 = some (.getfield 11, 3) by decide +kernel) (show zft.lookup (58 * zKEY + 11) = some (1, 0) by decide +kernel) rfl,
  fun _ _ _ _ _ _ _ => r_iload_n (show zdec 58 56 = some (.iload_n 3, 1) by decide +kernel) rfl rfl,
  fun _ _ _ _ _ _ _ _ _ => r_aald (show zdec 58 57 = some (.aaload, 1) by decide +kernel) rfl,
  fun _ _ _ _ _ _ _ _ => r_getfield (show zdec 58 58 = some (.getfield 114, 3) by decide +kernel) (show zft.lookup (58 * zKEY + 114) = some (10, 3) by decide +kernel) rfl,
  fun _ _ _ _ _ _ _ => r_iload_n (show zdec 58 61 = some (.iload_n 2, 1) by decide +kernel) rfl rfl,
  fun _ _ _ _ _ _ _ => r_aload (show zdec 58 62 = some (.aload 4, 2) by decide +kernel) rfl rfl,
  fun _ _ _ _ _ _ _ _ _ _ => r_aast (show zdec 58 64 = some (.aastore, 1) by decide +kernel) rfl,
  fun _ _ _ _ _ _ _ => r_iinc (show zdec 58 65 = some (.iinc 3 1, 3) by decide +kernel) rfl rfl rfl (Nat.le_of_ble_eq_true rfl) rfl rfl,
  fun _ _ _ _ _ _ _ => r_goto (show zdec 58 68 = some (.goto (-51), 3) by decide +kernel) rfl,
  fun _ _ _ _ _ _ _ => r_aload_nr (show zdec 58 71 = some (.aload_n 0, 1) by decide +kernel) rfl rfl,
  fun _ _ _ _ _ _ _ => r_iload_n (show zdec 58 72 = some (.iload_n 2, 1) by decide +kernel) rfl rfl,
  fun _ _ _ _ _ _ _ => r_iconst (show zdec 58 73 = some (.iconst 1, 1) by decide +kernel) rfl rfl,
  fun _ _ _ _ _ _ _ _ _ => r_iadd (show zdec 58 74 = some (.iadd, 1) by decide +kernel) rfl,
  fun _ _ _ _ _ _ _ _ _ => r_putfield (show zdec 58 75 = some (.putfield 24, 3) by decide +kernel) (show zft.lookup (58 * zKEY + 24) = some (1, 2) by decide +kernel) (by decide +kernel) rfl,
  fun _ _ _ _ _ _ _ => r_aload_nr (show zdec 58 78 = some (.aload_n 0, 1) by decide +kernel) rfl rfl,
  fun _ _ _ _ _ _ _ => r_iconst (show zdec 58 79 = some (.iconst 0, 1) by decide +kernel) rfl rfl,
  fun _ _ _ _ _ _ _ _ _ => r_putfield (show zdec 58 80 = some (.putfield 31, 3) by decide +kernel) (show zft.lookup (58 * zKEY + 31) = some (1, 4) by decide +kernel) (by decide +kernel) rfl,
  fun _ _ _ _ _ _ _ => r_iload_n (show zdec 58 83 = some (.iload_n 2, 1) by decide +kernel) rfl rfl,
  fun _ _ _ _ _ _ _ => r_ireti (show zdec 58 84 = some (.ireturn, 1) by decide +kernel) (by decide +kernel)⟩
theorem zl_58_17 : ∀ (l0 l1 l2 l4 : Value) (x : Int32) (S : List Value) (h : zH), rn 58 17 [l0, l1, l2, .int x, l4] S h = rn 58 18 [l0, l1, l2, .int x, l4] (.int x :: S) h := fun _ _ _ _ _ _ _ => r_iload_n (show zdec 58 17 = some (.iload_n 3, 1) by decide +kernel) rfl rfl
theorem ze_58 : ∀ (a0 : Nat) (a1 : Nat) (h : zH), ev 58 [.ref a0, .ref a1] h = rn 58 0 [.ref a0, .ref a1, .float 0, .float 0, .float 0] [] h := fun _ _ _ => if_pos (Nat.le_of_ble_eq_true rfl)
-- PayrollRun.grossPay(III)J
theorem zr_62 : (∀ (l1 l2 : Value) (x : Int32) (S : List Value) (h : zH), rn 62 0 [.int x, l1, l2] S h = rn 62 1 [.int x, l1, l2] (.int x :: S) h) ∧
  (∀ (l0 l2 : Value) (x : Int32) (S : List Value) (h : zH), rn 62 1 [l0, .int x, l2] S h = rn 62 2 [l0, .int x, l2] (.int x :: S) h) ∧
  (∀ (l0 l1 l2 : Value) (x : Int32) (y : Int32) (S : List Value) (h : zH), rn 62 2 [l0, l1, l2] (.int y :: .int x :: S) h = rn 62 3 [l0, l1, l2] (.int (x * y) :: S) h) ∧
  (∀ (l0 l1 l2 : Value) (S : List Value) (h : zH), rn 62 3 [l0, l1, l2] S h = rn 62 5 [l0, l1, l2] (.int (nI 30) :: S) h) ∧
  (∀ (l0 l1 l2 : Value) (x : Int32) (y : Int32) (S : List Value) (h : zH), rn 62 5 [l0, l1, l2] (.int y :: .int x :: S) h = dvI y (rn 62 6 [l0, l1, l2] (.int (x / y) :: S) h)) ∧
  (∀ (l0 l1 : Value) (x : Int32) (S : List Value) (h : zH), rn 62 6 [l0, l1, .int x] S h = rn 62 7 [l0, l1, .int x] (.int x :: S) h) ∧
  (∀ (l0 l1 l2 : Value) (x : Int32) (y : Int32) (S : List Value) (h : zH), rn 62 7 [l0, l1, l2] (.int y :: .int x :: S) h = rn 62 8 [l0, l1, l2] (.int (x + y) :: S) h) ∧
  (∀ (l0 l1 l2 : Value) (x : Int32) (S : List Value) (h : zH), rn 62 8 [l0, l1, l2] (.int x :: S) h = rn 62 9 [l0, l1, l2] (.long x.toInt64 :: S) h) ∧
  (∀ (l0 l1 l2 : Value) (x : Int64) (h : zH), rn 62 9 [l0, l1, l2] [.long x] h = some (some (.long x), h)) := ⟨fun _ _ _ _ _ => r_iload_n (show zdec 62 0 = some (.iload_n 0, 1) by decide +kernel) rfl rfl,
  fun _ _ _ _ _ => r_iload_n (show zdec 62 1 = some (.iload_n 1, 1) by decide +kernel) rfl rfl,
  fun _ _ _ _ _ _ _ => r_imul (show zdec 62 2 = some (.imul, 1) by decide +kernel) rfl,
  fun _ _ _ _ _ => r_bipush (show zdec 62 3 = some (.bipush 30, 2) by decide +kernel) rfl rfl,
  fun _ _ _ _ _ _ _ => r_idiv (show zdec 62 5 = some (.idiv, 1) by decide +kernel) rfl,
  fun _ _ _ _ _ => r_iload_n (show zdec 62 6 = some (.iload_n 2, 1) by decide +kernel) rfl rfl,
  fun _ _ _ _ _ _ _ => r_iadd (show zdec 62 7 = some (.iadd, 1) by decide +kernel) rfl,
  fun _ _ _ _ _ _ => r_i2l (show zdec 62 8 = some (.i2l, 1) by decide +kernel) rfl,
  fun _ _ _ _ _ => r_lret (show zdec 62 9 = some (.lreturn, 1) by decide +kernel) (by decide +kernel)⟩
theorem ze_62 : ∀ (a0 : Int32) (a1 : Int32) (a2 : Int32) (h : zH), ev 62 [.int a0, .int a1, .int a2] h = rn 62 0 [.int a0, .int a1, .int a2] [] h := fun _ _ _ _ => if_pos (Nat.le_of_ble_eq_true rfl)
-- PayrollRun.newYear()I
theorem zr_77 : (∀ (x : Nat) (S : List Value) (h : zH), rn 77 0 [.ref x] S h = rn 77 1 [.ref x] (.ref x :: S) h) ∧
  (∀ (l0 : Value) (a : Nat) (S : List Value) (h : zH), rn 77 1 [l0] (.ref a :: S) h = zgf h a 11 1 fun v => rn 77 4 [l0] (v :: S) h) ∧
  (∀ (x : Nat) (S : List Value) (h : zH), rn 77 4 [.ref x] S h = rn 77 5 [.ref x] (.ref x :: S) h) ∧
  (∀ (l0 : Value) (a : Nat) (S : List Value) (h : zH), rn 77 5 [l0] (.ref a :: S) h = zgf h a 11 0 fun v => rn 77 8 [l0] (v :: S) h) ∧
  (∀ (l0 : Value) (o : Nat) (v0 : Value) (S : List Value) (h : zH), rn 77 8 [l0] (v0 :: .ref o :: S) h = if zkd h o = 5 ∧ zsum S ≤ 8 then zcall (ev 17 [.ref o, v0] h) (fun v h => rn 77 11 [l0] (zpush v S) h) else none) ∧
  (∀ (x : Nat) (S : List Value) (h : zH), rn 77 11 [.ref x] S h = rn 77 12 [.ref x] (.ref x :: S) h) ∧
  (∀ (x : Nat) (S : List Value) (h : zH), rn 77 12 [.ref x] S h = rn 77 13 [.ref x] (.ref x :: S) h) ∧
  (∀ (l0 : Value) (a : Nat) (S : List Value) (h : zH), rn 77 13 [l0] (.ref a :: S) h = zgf h a 11 0 fun v => rn 77 16 [l0] (v :: S) h) ∧
  (∀ (l0 : Value) (o : Nat) (S : List Value) (h : zH), rn 77 16 [l0] (.ref o :: S) h = if zkd h o = 1 ∧ zsum S ≤ 8 then zcall (ev 78 [.ref o] h) (fun v h => rn 77 19 [l0] (zpush v S) h) else none) ∧
  (∀ (l0 : Value) (o : Nat) (v0 : Value) (S : List Value) (h : zH), rn 77 19 [l0] (v0 :: .ref o :: S) h = if zkd h o = 11 ∧ zsum S ≤ 8 then zcall (ev 26 [.ref o, v0] h) (fun v h => rn 77 22 [l0] (zpush v S) h) else none) ∧
  (∀ (l0 : Value) (x : Int32) (h : zH), rn 77 22 [l0] [.int x] h = some (some (.int x), h)) := ⟨fun _ _ _ => r_aload_nr (show zdec 77 0 = some (.aload_n 0, 1) by decide +kernel) rfl rfl,
  fun _ _ _ _ => r_getfield (show zdec 77 1 = some (.getfield 19, 3) by decide +kernel) (show zft.lookup (77 * zKEY + 19) = some (11, 1) by decide +kernel) rfl,
  fun _ _ _ => r_aload_nr (show zdec 77 4 = some (.aload_n 0, 1) by decide +kernel) rfl rfl,
  fun _ _ _ _ => r_getfield (show zdec 77 5 = some (.getfield 10, 3) by decide +kernel) (show zft.lookup (77 * zKEY + 10) = some (11, 0) by decide +kernel) rfl,
  fun _ _ _ _ _ => r_cV [_] rfl (show zdec 77 8 = some (.invokevirtual 58, 3) by decide +kernel) (show zst.lookup (77 * zKEY + 58) = some (1, 17, 1, 5) by decide +kernel) (by decide) rfl,
  fun _ _ _ => r_aload_nr (show zdec 77 11 = some (.aload_n 0, 1) by decide +kernel) rfl rfl,
  fun _ _ _ => r_aload_nr (show zdec 77 12 = some (.aload_n 0, 1) by decide +kernel) rfl rfl,
  fun _ _ _ _ => r_getfield (show zdec 77 13 = some (.getfield 10, 3) by decide +kernel) (show zft.lookup (77 * zKEY + 10) = some (11, 0) by decide +kernel) rfl,
  fun _ _ _ _ => r_cV [] rfl (show zdec 77 16 = some (.invokevirtual 109, 3) by decide +kernel) (show zst.lookup (77 * zKEY + 109) = some (1, 78, 0, 1) by decide +kernel) (by decide) rfl,
  fun _ _ _ _ _ => r_cV [_] rfl (show zdec 77 19 = some (.invokevirtual 66, 3) by decide +kernel) (show zst.lookup (77 * zKEY + 66) = some (1, 26, 1, 11) by decide +kernel) (by decide) rfl,
  fun _ _ _ => r_ireti (show zdec 77 22 = some (.ireturn, 1) by decide +kernel) (by decide +kernel)⟩
theorem ze_77 : ∀ (a0 : Nat) (h : zH), ev 77 [.ref a0] h = rn 77 0 [.ref a0] [] h := fun _ _ => if_pos (Nat.le_of_ble_eq_true rfl)
-- PayrollRun/Books.beginYear()I
theorem zr_78 : (∀ (l1 : Value) (x : Nat) (S : List Value) (h : zH), rn 78 0 [.ref x, l1] S h = rn 78 1 [.ref x, l1] (.ref x :: S) h) ∧
  (∀ (l0 l1 : Value) (a : Nat) (S : List Value) (h : zH), rn 78 1 [l0, l1] (.ref a :: S) h = zgf h a 1 2 fun v => rn 78 4 [l0, l1] (v :: S) h) ∧
  (∀ (l0 l1 : Value) (S : List Value) (h : zH), rn 78 4 [l0, l1] S h = rn 78 6 [l0, l1] (.int (nI 12) :: S) h) ∧
  (∀ (l0 l1 : Value) (x : Int32) (y : Int32) (S : List Value) (h : zH), rn 78 6 [l0, l1] (.int y :: .int x :: S) h = if y ≤ x then rn 78 12 [l0, l1] S h else rn 78 9 [l0, l1] S h) ∧
  (∀ (l0 l1 : Value) (S : List Value) (h : zH), rn 78 9 [l0, l1] S h = rn 78 11 [l0, l1] (.int (-2) :: S) h) ∧
  (∀ (l0 l1 : Value) (x : Int32) (h : zH), rn 78 11 [l0, l1] [.int x] h = some (some (.int x), h)) ∧
  (∀ (l0 l1 : Value) (S : List Value) (h : zH), rn 78 12 [l0, l1] S h = rn 78 13 [l0, l1] (.int (nI 0) :: S) h) ∧
  (∀ (l0 l1 : Value) (x : Int32) (S : List Value) (h : zH), rn 78 13 [l0, l1] (.int x :: S) h = nl l0 (rn 78 14 [l0, .int x] S h)) ∧
  (∀ (l0 l1 : Value) (S : List Value) (h : zH), rn 78 15 [l0, l1] S h = rn 78 16 [l0, l1] (.int (nI 3) :: S) h) ∧
  (∀ (l0 l1 : Value) (x : Int32) (y : Int32) (S : List Value) (h : zH), rn 78 16 [l0, l1] (.int y :: .int x :: S) h = if y ≤ x then rn 78 34 [l0, l1] S h else rn 78 19 [l0, l1] S h) ∧
  (∀ (l1 : Value) (x : Nat) (S : List Value) (h : zH), rn 78 19 [.ref x, l1] S h = rn 78 20 [.ref x, l1] (.ref x :: S) h) ∧
  (∀ (l0 l1 : Value) (a : Nat) (S : List Value) (h : zH), rn 78 20 [l0, l1] (.ref a :: S) h = zgf h a 1 0 fun v => rn 78 23 [l0, l1] (v :: S) h) ∧
  (∀ (l0 : Value) (x : Int32) (S : List Value) (h : zH), rn 78 23 [l0, .int x] S h = rn 78 24 [l0, .int x] (.int x :: S) h) ∧
  (∀ (l0 l1 : Value) (a : Nat) (j : Int32) (S : List Value) (h : zH), rn 78 24 [l0, l1] (.int j :: .ref a :: S) h = zlq h a j fun x => rn 78 25 [l0, l1] (va_rf x :: S) h) ∧
  (∀ (l0 l1 : Value) (o : Nat) (S : List Value) (h : zH), rn 78 25 [l0, l1] (.ref o :: S) h = if zkd h o = 10 ∧ zsum S ≤ 8 then zcall (ev 79 [.ref o] h) (fun v h => rn 78 28 [l0, l1] (zpush v S) h) else none) ∧
  (∀ (l0 : Value) (x : Int32) (S : List Value) (h : zH), rn 78 28 [l0, .int x] S h = nl l0 (rn 78 31 [l0, .int (x + (nI 1))] S h)) ∧
  (∀ (l0 l1 : Value) (S : List Value) (h : zH), rn 78 31 [l0, l1] S h = rn 78 14 [l0, l1] S h) ∧
  (∀ (l1 : Value) (x : Nat) (S : List Value) (h : zH), rn 78 34 [.ref x, l1] S h = rn 78 35 [.ref x, l1] (.ref x :: S) h) ∧
  (∀ (l0 l1 : Value) (S : List Value) (h : zH), rn 78 35 [l0, l1] S h = rn 78 36 [l0, l1] (.int (nI 0) :: S) h) ∧
  (∀ (l0 l1 : Value) (a : Nat) (v : Value) (S : List Value) (h : zH), rn 78 36 [l0, l1] (v :: .ref a :: S) h = zpf h a 1 2 v fun h => rn 78 39 [l0, l1] S h) ∧
  (∀ (l1 : Value) (x : Nat) (S : List Value) (h : zH), rn 78 39 [.ref x, l1] S h = rn 78 40 [.ref x, l1] (.ref x :: S) h) ∧
  (∀ (l0 l1 : Value) (v : Value) (S : List Value) (h : zH), rn 78 40 [l0, l1] (v :: S) h = c1 v (rn 78 41 [l0, l1] (v :: v :: S) h)) ∧
  (∀ (l0 l1 : Value) (a : Nat) (S : List Value) (h : zH), rn 78 41 [l0, l1] (.ref a :: S) h = zgf h a 1 3 fun v => rn 78 44 [l0, l1] (v :: S) h) ∧
  (∀ (l0 l1 : Value) (S : List Value) (h : zH), rn 78 44 [l0, l1] S h = rn 78 45 [l0, l1] (.int (nI 1) :: S) h) ∧
  (∀ (l0 l1 : Value) (x : Int32) (y : Int32) (S : List Value) (h : zH), rn 78 45 [l0, l1] (.int y :: .int x :: S) h = rn 78 46 [l0, l1] (.int (x + y) :: S) h) ∧
  (∀ (l0 l1 : Value) (a : Nat) (v : Value) (S : List Value) (h : zH), rn 78 46 [l0, l1] (v :: .ref a :: S) h = zpf h a 1 3 v fun h => rn 78 49 [l0, l1] S h) ∧
  (∀ (l1 : Value) (x : Nat) (S : List Value) (h : zH), rn 78 49 [.ref x, l1] S h = rn 78 50 [.ref x, l1] (.ref x :: S) h) ∧
  (∀ (l0 l1 : Value) (a : Nat) (S : List Value) (h : zH), rn 78 50 [l0, l1] (.ref a :: S) h = zgf h a 1 3 fun v => rn 78 53 [l0, l1] (v :: S) h) ∧
  (∀ (l0 l1 : Value) (x : Int32) (h : zH), rn 78 53 [l0, l1] [.int x] h = some (some (.int x), h)) := ⟨fun _ _ _ _ => r_aload_nr (show zdec 78 0 = some (.aload_n 0, 1) by decide +kernel) rfl rfl,
  fun _ _ _ _ _ => r_getfield (show zdec 78 1 = some (.getfield 24, 3) by decide +kernel) (show zft.lookup (78 * zKEY + 24) = some (1, 2) by decide +kernel) rfl,
  fun _ _ _ _ => r_bipush (show zdec 78 4 = some (.bipush 12, 2) by decide +kernel) rfl rfl,
  fun _ _ _ _ _ _ => r_icmpge (show zdec 78 6 = some (.if_icmp .ge 6, 3) by decide +kernel) rfl rfl,
  fun _ _ _ _ => r_bipush (show zdec 78 9 = some (.bipush (-2), 2) by decide +kernel) rfl rfl,
  fun _ _ _ _ => r_ireti (show zdec 78 11 = some (.ireturn, 1) by decide +kernel) (by decide +kernel),
  fun _ _ _ _ => r_iconst (show zdec 78 12 = some (.iconst 0, 1) by decide +kernel) rfl rfl,
  fun _ _ _ _ _ => r_istore_n (show zdec 78 13 = some (.istore_n 1, 1) by decide +kernel) rfl rfl (Nat.le_of_ble_eq_true rfl) rfl rfl,
  fun _ _ _ _ => r_iconst (show zdec 78 15 = some (.iconst 3, 1) by decide +kernel) rfl rfl,
  fun _ _ _ _ _ _ => r_icmpge (show zdec 78 16 = some (.if_icmp .ge 18, 3) by decide +kernel) rfl rfl,
  fun _ _ _ _ => r_aload_nr (show zdec 78 19 = some (.aload_n 0, 1) by decide +kernel) rfl rfl,
  fun _ _ _ _ _ => r_getfield (show zdec 78 20 = some (.getfield 11, 3) by decide +kernel) (show zft.lookup (78 * zKEY + 11) = some (1, 0) by decide +kernel) rfl,
  fun _ _ _ _ => r_iload_n (show zdec 78 23 = some (.iload_n 1, 1) by decide +kernel) rfl rfl,
  fun _ _ _ _ _ _ => r_aald (show zdec 78 24 = some (.aaload, 1) by decide +kernel) rfl,
  fun _ _ _ _ _ => r_cV [] rfl (show zdec 78 25 = some (.invokevirtual 118, 3) by decide +kernel) (show zst.lookup (78 * zKEY + 118) = some (1, 79, 0, 10) by decide +kernel) (by decide) rfl,
  fun _ _ _ _ => r_iinc (show zdec 78 28 = some (.iinc 1 1, 3) by decide +kernel) rfl rfl rfl (Nat.le_of_ble_eq_true rfl) rfl rfl,
  fun _ _ _ _ => r_goto (show zdec 78 31 = some (.goto (-17), 3) by decide +kernel) rfl,
  fun _ _ _ _ => r_aload_nr (show zdec 78 34 = some (.aload_n 0, 1) by decide +kernel) rfl rfl,
  fun _ _ _ _ => r_iconst (show zdec 78 35 = some (.iconst 0, 1) by decide +kernel) rfl rfl,
  fun _ _ _ _ _ _ => r_putfield (show zdec 78 36 = some (.putfield 24, 3) by decide +kernel) (show zft.lookup (78 * zKEY + 24) = some (1, 2) by decide +kernel) (by decide +kernel) rfl,
  fun _ _ _ _ => r_aload_nr (show zdec 78 39 = some (.aload_n 0, 1) by decide +kernel) rfl rfl,
  fun _ _ _ _ _ => r_dup (show zdec 78 40 = some (.dup, 1) by decide +kernel) rfl,
  fun _ _ _ _ _ => r_getfield (show zdec 78 41 = some (.getfield 28, 3) by decide +kernel) (show zft.lookup (78 * zKEY + 28) = some (1, 3) by decide +kernel) rfl,
  fun _ _ _ _ => r_iconst (show zdec 78 44 = some (.iconst 1, 1) by decide +kernel) rfl rfl,
  fun _ _ _ _ _ _ => r_iadd (show zdec 78 45 = some (.iadd, 1) by decide +kernel) rfl,
  fun _ _ _ _ _ _ => r_putfield (show zdec 78 46 = some (.putfield 28, 3) by decide +kernel) (show zft.lookup (78 * zKEY + 28) = some (1, 3) by decide +kernel) (by decide +kernel) rfl,
  fun _ _ _ _ => r_aload_nr (show zdec 78 49 = some (.aload_n 0, 1) by decide +kernel) rfl rfl,
  fun _ _ _ _ _ => r_getfield (show zdec 78 50 = some (.getfield 28, 3) by decide +kernel) (show zft.lookup (78 * zKEY + 28) = some (1, 3) by decide +kernel) rfl,
  fun _ _ _ _ => r_ireti (show zdec 78 53 = some (.ireturn, 1) by decide +kernel) (by decide +kernel)⟩
theorem zl_78_14 : ∀ (l0 : Value) (x : Int32) (S : List Value) (h : zH), rn 78 14 [l0, .int x] S h = rn 78 15 [l0, .int x] (.int x :: S) h := fun _ _ _ _ => r_iload_n (show zdec 78 14 = some (.iload_n 1, 1) by decide +kernel) rfl rfl
theorem ze_78 : ∀ (a0 : Nat) (h : zH), ev 78 [.ref a0] h = rn 78 0 [.ref a0, .float 0] [] h := fun _ _ => if_pos (Nat.le_of_ble_eq_true rfl)
-- PayrollRun.closed()I
theorem zr_81 : (∀ (x : Nat) (S : List Value) (h : zH), rn 81 0 [.ref x] S h = rn 81 1 [.ref x] (.ref x :: S) h) ∧
  (∀ (l0 : Value) (a : Nat) (S : List Value) (h : zH), rn 81 1 [l0] (.ref a :: S) h = zgf h a 11 0 fun v => rn 81 4 [l0] (v :: S) h) ∧
  (∀ (l0 : Value) (a : Nat) (S : List Value) (h : zH), rn 81 4 [l0] (.ref a :: S) h = zgf h a 1 2 fun v => rn 81 7 [l0] (v :: S) h) ∧
  (∀ (l0 : Value) (x : Int32) (h : zH), rn 81 7 [l0] [.int x] h = some (some (.int x), h)) := ⟨fun _ _ _ => r_aload_nr (show zdec 81 0 = some (.aload_n 0, 1) by decide +kernel) rfl rfl,
  fun _ _ _ _ => r_getfield (show zdec 81 1 = some (.getfield 10, 3) by decide +kernel) (show zft.lookup (81 * zKEY + 10) = some (11, 0) by decide +kernel) rfl,
  fun _ _ _ _ => r_getfield (show zdec 81 4 = some (.getfield 112, 3) by decide +kernel) (show zft.lookup (81 * zKEY + 112) = some (1, 2) by decide +kernel) rfl,
  fun _ _ _ => r_ireti (show zdec 81 7 = some (.ireturn, 1) by decide +kernel) (by decide +kernel)⟩
theorem ze_81 : ∀ (a0 : Nat) (h : zH), ev 81 [.ref a0] h = rn 81 0 [.ref a0] [] h := fun _ _ => if_pos (Nat.le_of_ble_eq_true rfl)
-- PayrollRun.data(III)I
theorem zr_82 : (∀ (l0 l2 l3 : Value) (x : Int32) (S : List Value) (h : zH), rn 82 0 [l0, .int x, l2, l3] S h = rn 82 1 [l0, .int x, l2, l3] (.int x :: S) h) ∧
  (∀ (l0 l1 l2 l3 : Value) (v0 : Value) (S : List Value) (h : zH), rn 82 1 [l0, l1, l2, l3] (v0 :: S) h = if zsum S ≤ 8 then zcall (ev 23 [v0] h) (fun v h => rn 82 4 [l0, l1, l2, l3] (zpush v S) h) else none) ∧
  (∀ (l0 l1 l2 l3 : Value) (x : Int32) (S : List Value) (h : zH), rn 82 4 [l0, l1, l2, l3] (.int x :: S) h = if x = nI 0 then rn 82 23 [l0, l1, l2, l3] S h else rn 82 7 [l0, l1, l2, l3] S h) ∧
  (∀ (l0 l1 l3 : Value) (x : Int32) (S : List Value) (h : zH), rn 82 7 [l0, l1, .int x, l3] S h = rn 82 8 [l0, l1, .int x, l3] (.int x :: S) h) ∧
  (∀ (l0 l1 l2 l3 : Value) (v0 : Value) (S : List Value) (h : zH), rn 82 8 [l0, l1, l2, l3] (v0 :: S) h = if zsum S ≤ 8 then zcall (ev 25 [v0] h) (fun v h => rn 82 11 [l0, l1, l2, l3] (zpush v S) h) else none) ∧
  (∀ (l0 l1 l2 l3 : Value) (x : Int32) (S : List Value) (h : zH), rn 82 11 [l0, l1, l2, l3] (.int x :: S) h = if x = nI 0 then rn 82 23 [l0, l1, l2, l3] S h else rn 82 14 [l0, l1, l2, l3] S h) ∧
  (∀ (l0 l1 l2 : Value) (x : Int32) (S : List Value) (h : zH), rn 82 14 [l0, l1, l2, .int x] S h = rn 82 15 [l0, l1, l2, .int x] (.int x :: S) h) ∧
  (∀ (l0 l1 l2 l3 : Value) (S : List Value) (h : zH), rn 82 15 [l0, l1, l2, l3] S h = rn 82 16 [l0, l1, l2, l3] (.int (nI 0) :: S) h) ∧
  (∀ (l0 l1 l2 l3 : Value) (S : List Value) (h : zH), rn 82 16 [l0, l1, l2, l3] S h = rn 82 17 [l0, l1, l2, l3] (.int (nI 2) :: S) h) ∧
  (∀ (l0 l1 l2 l3 : Value) (v0 : Value) (v1 : Value) (v2 : Value) (S : List Value) (h : zH), rn 82 17 [l0, l1, l2, l3] (v2 :: v1 :: v0 :: S) h = if zsum S ≤ 8 then zcall (ev 24 [v0, v1, v2] h) (fun v h => rn 82 20 [l0, l1, l2, l3] (zpush v S) h) else none) ∧
  (∀ (l0 l1 l2 l3 : Value) (x : Int32) (S : List Value) (h : zH), rn 82 20 [l0, l1, l2, l3] (.int x :: S) h = if x = nI 0 then rn 82 23 [l0, l1, l2, l3] S h else rn 82 25 [l0, l1, l2, l3] S h) ∧
  (∀ (l0 l1 l2 l3 : Value) (S : List Value) (h : zH), rn 82 23 [l0, l1, l2, l3] S h = rn 82 24 [l0, l1, l2, l3] (.int (-1) :: S) h) ∧
  (∀ (l0 l1 l2 l3 : Value) (x : Int32) (h : zH), rn 82 24 [l0, l1, l2, l3] [.int x] h = some (some (.int x), h)) ∧
  (∀ (l1 l2 l3 : Value) (x : Nat) (S : List Value) (h : zH), rn 82 25 [.ref x, l1, l2, l3] S h = rn 82 26 [.ref x, l1, l2, l3] (.ref x :: S) h) ∧
  (∀ (l0 l1 l2 l3 : Value) (a : Nat) (S : List Value) (h : zH), rn 82 26 [l0, l1, l2, l3] (.ref a :: S) h = zgf h a 11 0 fun v => rn 82 29 [l0, l1, l2, l3] (v :: S) h) ∧
  (∀ (l0 l1 l2 l3 : Value) (a : Nat) (S : List Value) (h : zH), rn 82 29 [l0, l1, l2, l3] (.ref a :: S) h = zgf h a 1 0 fun v => rn 82 32 [l0, l1, l2, l3] (v :: S) h) ∧
  (∀ (l0 l2 l3 : Value) (x : Int32) (S : List Value) (h : zH), rn 82 32 [l0, .int x, l2, l3] S h = rn 82 33 [l0, .int x, l2, l3] (.int x :: S) h) ∧
  (∀ (l0 l1 l2 l3 : Value) (a : Nat) (j : Int32) (S : List Value) (h : zH), rn 82 33 [l0, l1, l2, l3] (.int j :: .ref a :: S) h = zlq h a j fun x => rn 82 34 [l0, l1, l2, l3] (va_rf x :: S) h) ∧
  (∀ (l0 l1 l2 l3 : Value) (a : Nat) (S : List Value) (h : zH), rn 82 34 [l0, l1, l2, l3] (.ref a :: S) h = zgf h a 10 0 fun v => rn 82 37 [l0, l1, l2, l3] (v :: S) h) ∧
  (∀ (l0 l1 l2 : Value) (x : Int32) (S : List Value) (h : zH), rn 82 37 [l0, l1, l2, .int x] S h = rn 82 38 [l0, l1, l2, .int x] (.int x :: S) h) ∧
  (∀ (l0 l1 l2 l3 : Value) (S : List Value) (h : zH), rn 82 38 [l0, l1, l2, l3] S h = rn 82 40 [l0, l1, l2, l3] (.int (nI 12) :: S) h) ∧
  (∀ (l0 l1 l2 l3 : Value) (x : Int32) (y : Int32) (S : List Value) (h : zH), rn 82 40 [l0, l1, l2, l3] (.int y :: .int x :: S) h = rn 82 41 [l0, l1, l2, l3] (.int (x * y) :: S) h) ∧
  (∀ (l0 l1 l3 : Value) (x : Int32) (S : List Value) (h : zH), rn 82 41 [l0, l1, .int x, l3] S h = rn 82 42 [l0, l1, .int x, l3] (.int x :: S) h) ∧
  (∀ (l0 l1 l2 l3 : Value) (x : Int32) (y : Int32) (S : List Value) (h : zH), rn 82 42 [l0, l1, l2, l3] (.int y :: .int x :: S) h = rn 82 43 [l0, l1, l2, l3] (.int (x + y) :: S) h) ∧
  (∀ (l0 l1 l2 l3 : Value) (a : Nat) (j : Int32) (S : List Value) (h : zH), rn 82 43 [l0, l1, l2, l3] (.int j :: .ref a :: S) h = zli h a 0 j fun x => rn 82 44 [l0, l1, l2, l3] (.int x :: S) h) ∧
  (∀ (l0 l1 l2 l3 : Value) (x : Int32) (h : zH), rn 82 44 [l0, l1, l2, l3] [.int x] h = some (some (.int x), h)) := ⟨fun _ _ _ _ _ _ => r_iload_n (show zdec 82 0 = some (.iload_n 1, 1) by decide +kernel) rfl rfl,
  fun _ _ _ _ _ _ _ => r_cS [_] rfl (show zdec 82 1 = some (.invokestatic 116, 3) by decide +kernel) (show zst.lookup (82 * zKEY + 116) = some (0, 23, 1, 0) by decide +kernel) (by decide) rfl,
  fun _ _ _ _ _ _ _ => r_ifeq (show zdec 82 4 = some (.ifCond .eq 19, 3) by decide +kernel) rfl rfl,
  fun _ _ _ _ _ _ => r_iload_n (show zdec 82 7 = some (.iload_n 2, 1) by decide +kernel) rfl rfl,
  fun _ _ _ _ _ _ _ => r_cS [_] rfl (show zdec 82 8 = some (.invokestatic 120, 3) by decide +kernel) (show zst.lookup (82 * zKEY + 120) = some (0, 25, 1, 0) by decide +kernel) (by decide) rfl,
  fun _ _ _ _ _ _ _ => r_ifeq (show zdec 82 11 = some (.ifCond .eq 12, 3) by decide +kernel) rfl rfl,
  fun _ _ _ _ _ _ => r_iload_n (show zdec 82 14 = some (.iload_n 3, 1) by decide +kernel) rfl rfl,
  fun _ _ _ _ _ _ => r_iconst (show zdec 82 15 = some (.iconst 0, 1) by decide +kernel) rfl rfl,
  fun _ _ _ _ _ _ => r_iconst (show zdec 82 16 = some (.iconst 2, 1) by decide +kernel) rfl rfl,
  fun _ _ _ _ _ _ _ _ _ => r_cS [_, _, _] rfl (show zdec 82 17 = some (.invokestatic 123, 3) by decide +kernel) (show zst.lookup (82 * zKEY + 123) = some (0, 24, 3, 0) by decide +kernel) (by decide) rfl,
  fun _ _ _ _ _ _ _ => r_ifne (show zdec 82 20 = some (.ifCond .ne 5, 3) by decide +kernel) rfl rfl,
  fun _ _ _ _ _ _ => r_iconst (show zdec 82 23 = some (.iconst (-1), 1) by decide +kernel) rfl rfl,
  fun _ _ _ _ _ _ => r_ireti (show zdec 82 24 = some (.ireturn, 1) by decide +kernel) (by decide +kernel),
  fun _ _ _ _ _ _ => r_aload_nr (show zdec 82 25 = some (.aload_n 0, 1) by decide +kernel) rfl rfl,
  fun _ _ _ _ _ _ _ => r_getfield (show zdec 82 26 = some (.getfield 10, 3) by decide +kernel) (show zft.lookup (82 * zKEY + 10) = some (11, 0) by decide +kernel) rfl,
  fun _ _ _ _ _ _ _ => r_getfield (show zdec 82 29 = some (.getfield 127, 3) by decide +kernel) (show zft.lookup (82 * zKEY + 127) = some (1, 0) by decide +kernel) rfl,
  fun _ _ _ _ _ _ => r_iload_n (show zdec 82 32 = some (.iload_n 1, 1) by decide +kernel) rfl rfl,
  fun _ _ _ _ _ _ _ _ => r_aald (show zdec 82 33 = some (.aaload, 1) by decide +kernel) rfl,
  fun _ _ _ _ _ _ _ => r_getfield (show zdec 82 34 = some (.getfield 131, 3) by decide +kernel) (show zft.lookup (82 * zKEY + 131) = some (10, 0) by decide +kernel) rfl,
  fun _ _ _ _ _ _ => r_iload_n (show zdec 82 37 = some (.iload_n 3, 1) by decide +kernel) rfl rfl,
  fun _ _ _ _ _ _ => r_bipush (show zdec 82 38 = some (.bipush 12, 2) by decide +kernel) rfl rfl,
  fun _ _ _ _ _ _ _ _ => r_imul (show zdec 82 40 = some (.imul, 1) by decide +kernel) rfl,
  fun _ _ _ _ _ _ => r_iload_n (show zdec 82 41 = some (.iload_n 2, 1) by decide +kernel) rfl rfl,
  fun _ _ _ _ _ _ _ _ => r_iadd (show zdec 82 42 = some (.iadd, 1) by decide +kernel) rfl,
  fun _ _ _ _ _ _ _ _ => r_iald (show zdec 82 43 = some (.iaload, 1) by decide +kernel) rfl,
  fun _ _ _ _ _ _ => r_ireti (show zdec 82 44 = some (.ireturn, 1) by decide +kernel) (by decide +kernel)⟩
theorem ze_82 : ∀ (a0 : Nat) (a1 : Int32) (a2 : Int32) (a3 : Int32) (h : zH), ev 82 [.ref a0, .int a1, .int a2, .int a3] h = rn 82 0 [.ref a0, .int a1, .int a2, .int a3] [] h := fun _ _ _ _ _ => if_pos (Nat.le_of_ble_eq_true rfl)
-- PayrollRun.setting(II)I
theorem zr_83 : (∀ (l0 l2 : Value) (x : Int32) (S : List Value) (h : zH), rn 83 0 [l0, .int x, l2] S h = rn 83 1 [l0, .int x, l2] (.int x :: S) h) ∧
  (∀ (l0 l1 l2 : Value) (x : Int32) (S : List Value) (h : zH), rn 83 1 [l0, l1, l2] (.int x :: S) h = if x = nI 0 then rn 83 4 [l0, l1, l2] S h else rn 83 28 [l0, l1, l2] S h) ∧
  (∀ (l0 l1 : Value) (x : Int32) (S : List Value) (h : zH), rn 83 4 [l0, l1, .int x] S h = rn 83 5 [l0, l1, .int x] (.int x :: S) h) ∧
  (∀ (l0 l1 l2 : Value) (v0 : Value) (S : List Value) (h : zH), rn 83 5 [l0, l1, l2] (v0 :: S) h = if zsum S ≤ 8 then zcall (ev 23 [v0] h) (fun v h => rn 83 8 [l0, l1, l2] (zpush v S) h) else none) ∧
  (∀ (l0 l1 l2 : Value) (x : Int32) (S : List Value) (h : zH), rn 83 8 [l0, l1, l2] (.int x :: S) h = if x = nI 0 then rn 83 26 [l0, l1, l2] S h else rn 83 11 [l0, l1, l2] S h) ∧
  (∀ (l1 l2 : Value) (x : Nat) (S : List Value) (h : zH), rn 83 11 [.ref x, l1, l2] S h = rn 83 12 [.ref x, l1, l2] (.ref x :: S) h) ∧
  (∀ (l0 l1 l2 : Value) (a : Nat) (S : List Value) (h : zH), rn 83 12 [l0, l1, l2] (.ref a :: S) h = zgf h a 11 0 fun v => rn 83 15 [l0, l1, l2] (v :: S) h) ∧
  (∀ (l0 l1 l2 : Value) (a : Nat) (S : List Value) (h : zH), rn 83 15 [l0, l1, l2] (.ref a :: S) h = zgf h a 1 0 fun v => rn 83 18 [l0, l1, l2] (v :: S) h) ∧
  (∀ (l0 l1 : Value) (x : Int32) (S : List Value) (h : zH), rn 83 18 [l0, l1, .int x] S h = rn 83 19 [l0, l1, .int x] (.int x :: S) h) ∧
  (∀ (l0 l1 l2 : Value) (a : Nat) (j : Int32) (S : List Value) (h : zH), rn 83 19 [l0, l1, l2] (.int j :: .ref a :: S) h = zlq h a j fun x => rn 83 20 [l0, l1, l2] (va_rf x :: S) h) ∧
  (∀ (l0 l1 l2 : Value) (a : Nat) (S : List Value) (h : zH), rn 83 20 [l0, l1, l2] (.ref a :: S) h = zgf h a 10 5 fun v => rn 83 23 [l0, l1, l2] (v :: S) h) ∧
  (∀ (l0 l1 l2 : Value) (S : List Value) (h : zH), rn 83 23 [l0, l1, l2] S h = rn 83 27 [l0, l1, l2] S h) ∧
  (∀ (l0 l1 l2 : Value) (S : List Value) (h : zH), rn 83 26 [l0, l1, l2] S h = rn 83 27 [l0, l1, l2] (.int (-1) :: S) h) ∧
  (∀ (l0 l1 l2 : Value) (x : Int32) (h : zH), rn 83 27 [l0, l1, l2] [.int x] h = some (some (.int x), h)) ∧
  (∀ (l1 l2 : Value) (x : Nat) (S : List Value) (h : zH), rn 83 28 [.ref x, l1, l2] S h = rn 83 29 [.ref x, l1, l2] (.ref x :: S) h) ∧
  (∀ (l0 l1 l2 : Value) (a : Nat) (S : List Value) (h : zH), rn 83 29 [l0, l1, l2] (.ref a :: S) h = zgf h a 11 0 fun v => rn 83 32 [l0, l1, l2] (v :: S) h) ∧
  (∀ (l0 l1 l2 : Value) (a : Nat) (S : List Value) (h : zH), rn 83 32 [l0, l1, l2] (.ref a :: S) h = zgf h a 1 1 fun v => rn 83 35 [l0, l1, l2] (v :: S) h) ∧
  (∀ (l0 l2 : Value) (x : Int32) (S : List Value) (h : zH), rn 83 35 [l0, .int x, l2] S h = rn 83 36 [l0, .int x, l2] (.int x :: S) h) ∧
  (∀ (l0 l1 : Value) (x : Int32) (S : List Value) (h : zH), rn 83 36 [l0, l1, .int x] S h = rn 83 37 [l0, l1, .int x] (.int x :: S) h) ∧
  (∀ (l0 l1 l2 : Value) (o : Nat) (v0 : Value) (v1 : Value) (S : List Value) (h : zH), rn 83 37 [l0, l1, l2] (v1 :: v0 :: .ref o :: S) h = if zkd h o = 6 ∧ zsum S ≤ 8 then zcall (ev 84 [.ref o, v0, v1] h) (fun v h => rn 83 40 [l0, l1, l2] (zpush v S) h) else none) ∧
  (∀ (l0 l1 l2 : Value) (x : Int32) (h : zH), rn 83 40 [l0, l1, l2] [.int x] h = some (some (.int x), h)) := ⟨fun _ _ _ _ _ => r_iload_n (show zdec 83 0 = some (.iload_n 1, 1) by decide +kernel) rfl rfl,
  fun _ _ _ _ _ _ => r_ifne (show zdec 83 1 = some (.ifCond .ne 27, 3) by decide +kernel) rfl rfl,
  fun _ _ _ _ _ => r_iload_n (show zdec 83 4 = some (.iload_n 2, 1) by decide +kernel) rfl rfl,
  fun _ _ _ _ _ _ => r_cS [_] rfl (show zdec 83 5 = some (.invokestatic 116, 3) by decide +kernel) (show zst.lookup (83 * zKEY + 116) = some (0, 23, 1, 0) by decide +kernel) (by decide) rfl,
  fun _ _ _ _ _ _ => r_ifeq (show zdec 83 8 = some (.ifCond .eq 18, 3) by decide +kernel) rfl rfl,
  fun _ _ _ _ _ => r_aload_nr (show zdec 83 11 = some (.aload_n 0, 1) by decide +kernel) rfl rfl,
  fun _ _ _ _ _ _ => r_getfield (show zdec 83 12 = some (.getfield 10, 3) by decide +kernel) (show zft.lookup (83 * zKEY + 10) = some (11, 0) by decide +kernel) rfl,
  fun _ _ _ _ _ _ => r_getfield (show zdec 83 15 = some (.getfield 127, 3) by decide +kernel) (show zft.lookup (83 * zKEY + 127) = some (1, 0) by decide +kernel) rfl,
  fun _ _ _ _ _ => r_iload_n (show zdec 83 18 = some (.iload_n 2, 1) by decide +kernel) rfl rfl,
  fun _ _ _ _ _ _ _ => r_aald (show zdec 83 19 = some (.aaload, 1) by decide +kernel) rfl,
  fun _ _ _ _ _ _ => r_getfield (show zdec 83 20 = some (.getfield 137, 3) by decide +kernel) (show zft.lookup (83 * zKEY + 137) = some (10, 5) by decide +kernel) rfl,
  fun _ _ _ _ _ => r_goto (show zdec 83 23 = some (.goto 4, 3) by decide +kernel) rfl,
  fun _ _ _ _ _ => r_iconst (show zdec 83 26 = some (.iconst (-1), 1) by decide +kernel) rfl rfl,
  fun _ _ _ _ _ => r_ireti (show zdec 83 27 = some (.ireturn, 1) by decide +kernel) (by decide +kernel),
  fun _ _ _ _ _ => r_aload_nr (show zdec 83 28 = some (.aload_n 0, 1) by decide +kernel) rfl rfl,
  fun _ _ _ _ _ _ => r_getfield (show zdec 83 29 = some (.getfield 10, 3) by decide +kernel) (show zft.lookup (83 * zKEY + 10) = some (11, 0) by decide +kernel) rfl,
  fun _ _ _ _ _ _ => r_getfield (show zdec 83 32 = some (.getfield 140, 3) by decide +kernel) (show zft.lookup (83 * zKEY + 140) = some (1, 1) by decide +kernel) rfl,
  fun _ _ _ _ _ => r_iload_n (show zdec 83 35 = some (.iload_n 1, 1) by decide +kernel) rfl rfl,
  fun _ _ _ _ _ => r_iload_n (show zdec 83 36 = some (.iload_n 2, 1) by decide +kernel) rfl rfl,
  fun _ _ _ _ _ _ _ _ => r_cV [_, _] rfl (show zdec 83 37 = some (.invokevirtual 144, 3) by decide +kernel) (show zst.lookup (83 * zKEY + 144) = some (1, 84, 2, 6) by decide +kernel) (by decide) rfl,
  fun _ _ _ _ _ => r_ireti (show zdec 83 40 = some (.ireturn, 1) by decide +kernel) (by decide +kernel)⟩
theorem ze_83 : ∀ (a0 : Nat) (a1 : Int32) (a2 : Int32) (h : zH), ev 83 [.ref a0, .int a1, .int a2] h = rn 83 0 [.ref a0, .int a1, .int a2] [] h := fun _ _ _ _ => if_pos (Nat.le_of_ble_eq_true rfl)
-- PayrollRun.garnishment(III)I
theorem zr_85 : (∀ (l0 l2 l3 l4 : Value) (x : Int32) (S : List Value) (h : zH), rn 85 0 [l0, .int x, l2, l3, l4] S h = rn 85 1 [l0, .int x, l2, l3, l4] (.int x :: S) h) ∧
  (∀ (l0 l1 l2 l3 l4 : Value) (v0 : Value) (S : List Value) (h : zH), rn 85 1 [l0, l1, l2, l3, l4] (v0 :: S) h = if zsum S ≤ 8 then zcall (ev 23 [v0] h) (fun v h => rn 85 4 [l0, l1, l2, l3, l4] (zpush v S) h) else none) ∧
  (∀ (l0 l1 l2 l3 l4 : Value) (x : Int32) (S : List Value) (h : zH), rn 85 4 [l0, l1, l2, l3, l4] (.int x :: S) h = if x = nI 0 then rn 85 7 [l0, l1, l2, l3, l4] S h else rn 85 9 [l0, l1, l2, l3, l4] S h) ∧
  (∀ (l0 l1 l2 l3 l4 : Value) (S : List Value) (h : zH), rn 85 7 [l0, l1, l2, l3, l4] S h = rn 85 8 [l0, l1, l2, l3, l4] (.int (-1) :: S) h) ∧
  (∀ (l0 l1 l2 l3 l4 : Value) (x : Int32) (h : zH), rn 85 8 [l0, l1, l2, l3, l4] [.int x] h = some (some (.int x), h)) ∧
  (∀ (l1 l2 l3 l4 : Value) (x : Nat) (S : List Value) (h : zH), rn 85 9 [.ref x, l1, l2, l3, l4] S h = rn 85 10 [.ref x, l1, l2, l3, l4] (.ref x :: S) h) ∧
  (∀ (l0 l1 l2 l3 l4 : Value) (a : Nat) (S : List Value) (h : zH), rn 85 10 [l0, l1, l2, l3, l4] (.ref a :: S) h = zgf h a 11 0 fun v => rn 85 13 [l0, l1, l2, l3, l4] (v :: S) h) ∧
  (∀ (l0 l1 l2 l3 l4 : Value) (a : Nat) (S : List Value) (h : zH), rn 85 13 [l0, l1, l2, l3, l4] (.ref a :: S) h = zgf h a 1 0 fun v => rn 85 16 [l0, l1, l2, l3, l4] (v :: S) h) ∧
  (∀ (l0 l2 l3 l4 : Value) (x : Int32) (S : List Value) (h : zH), rn 85 16 [l0, .int x, l2, l3, l4] S h = rn 85 17 [l0, .int x, l2, l3, l4] (.int x :: S) h) ∧
  (∀ (l0 l1 l2 l3 l4 : Value) (a : Nat) (j : Int32) (S : List Value) (h : zH), rn 85 17 [l0, l1, l2, l3, l4] (.int j :: .ref a :: S) h = zlq h a j fun x => rn 85 18 [l0, l1, l2, l3, l4] (va_rf x :: S) h) ∧
  (∀ (l0 l1 l2 l3 l4 : Value) (a : Nat) (S : List Value) (h : zH), rn 85 18 [l0, l1, l2, l3, l4] (.ref a :: S) h = zgf h a 10 4 fun v => rn 85 21 [l0, l1, l2, l3, l4] (v :: S) h) ∧
  (∀ (l0 l1 l2 l3 l4 : Value) (v : Value) (S : List Value) (h : zH), rn 85 21 [l0, l1, l2, l3, l4] (v :: S) h = ldA v (nl l3 (rn 85 23 [l0, l1, l2, l3, v] S h))) ∧
  (∀ (l0 l1 l3 l4 : Value) (x : Int32) (S : List Value) (h : zH), rn 85 23 [l0, l1, .int x, l3, l4] S h = rn 85 24 [l0, l1, .int x, l3, l4] (.int x :: S) h) ∧
  (∀ (l0 l1 l2 l3 l4 : Value) (S : List Value) (h : zH), rn 85 24 [l0, l1, l2, l3, l4] S h = rn 85 25 [l0, l1, l2, l3, l4] (.int (-1) :: S) h) ∧
  (∀ (l0 l1 l2 l3 l4 : Value) (x : Int32) (y : Int32) (S : List Value) (h : zH), rn 85 25 [l0, l1, l2, l3, l4] (.int y :: .int x :: S) h = if x = y then rn 85 28 [l0, l1, l2, l3, l4] S h else rn 85 38 [l0, l1, l2, l3, l4] S h) ∧
  (∀ (l0 l1 l2 l4 : Value) (x : Int32) (S : List Value) (h : zH), rn 85 28 [l0, l1, l2, .int x, l4] S h = rn 85 29 [l0, l1, l2, .int x, l4] (.int x :: S) h) ∧
  (∀ (l0 l1 l2 l3 l4 : Value) (x : Int32) (S : List Value) (h : zH), rn 85 29 [l0, l1, l2, l3, l4] (.int x :: S) h = if x = nI 0 then rn 85 32 [l0, l1, l2, l3, l4] S h else rn 85 38 [l0, l1, l2, l3, l4] S h) ∧
  (∀ (l0 l1 l2 l3 l4 : Value) (S : List Value) (h : zH), rn 85 32 [l0, l1, l2, l3, l4] S h = ldA l4 (rn 85 34 [l0, l1, l2, l3, l4] (l4 :: S) h)) ∧
  (∀ (l0 l1 l2 l3 l4 : Value) (a : Nat) (S : List Value) (h : zH), rn 85 34 [l0, l1, l2, l3, l4] (.ref a :: S) h = zgf h a 4 4 fun v => rn 85 37 [l0, l1, l2, l3, l4] (v :: S) h) ∧
  (∀ (l0 l1 l2 l3 l4 : Value) (x : Int32) (h : zH), rn 85 37 [l0, l1, l2, l3, l4] [.int x] h = some (some (.int x), h)) ∧
  (∀ (l0 l1 l2 l3 l4 : Value) (S : List Value) (h : zH), rn 85 38 [l0, l1, l2, l3, l4] S h = ldA l4 (rn 85 40 [l0, l1, l2, l3, l4] (l4 :: S) h)) ∧
  (∀ (l0 l1 l3 l4 : Value) (x : Int32) (S : List Value) (h : zH), rn 85 40 [l0, l1, .int x, l3, l4] S h = rn 85 41 [l0, l1, .int x, l3, l4] (.int x :: S) h) ∧
  (∀ (l0 l1 l2 l3 l4 : Value) (o : Nat) (v0 : Value) (S : List Value) (h : zH), rn 85 41 [l0, l1, l2, l3, l4] (v0 :: .ref o :: S) h = if zkd h o = 4 ∧ zsum S ≤ 8 then zcall (ev 51 [.ref o, v0] h) (fun v h => rn 85 44 [l0, l1, l2, l3, l4] (zpush v S) h) else none) ∧
  (∀ (l0 l1 l2 l3 l4 : Value) (x : Int32) (S : List Value) (h : zH), rn 85 44 [l0, l1, l2, l3, l4] (.int x :: S) h = if x = nI 0 then rn 85 47 [l0, l1, l2, l3, l4] S h else rn 85 49 [l0, l1, l2, l3, l4] S h) ∧
  (∀ (l0 l1 l2 l3 l4 : Value) (S : List Value) (h : zH), rn 85 47 [l0, l1, l2, l3, l4] S h = rn 85 48 [l0, l1, l2, l3, l4] (.int (-1) :: S) h) ∧
  (∀ (l0 l1 l2 l3 l4 : Value) (x : Int32) (h : zH), rn 85 48 [l0, l1, l2, l3, l4] [.int x] h = some (some (.int x), h)) ∧
  (∀ (l0 l1 l2 l4 : Value) (x : Int32) (S : List Value) (h : zH), rn 85 49 [l0, l1, l2, .int x, l4] S h = rn 85 50 [l0, l1, l2, .int x, l4] (.int x :: S) h) ∧
  (∀ (l0 l1 l2 l3 l4 : Value) (x : Int32) (S : List Value) (h : zH), rn 85 50 [l0, l1, l2, l3, l4] (.int x :: S) h = if x = nI 0 then rn 85 76 [l0, l1, l2, l3, l4] S h else if x = nI 1 then rn 85 84 [l0, l1, l2, l3, l4] S h else if x = nI 2 then rn 85 92 [l0, l1, l2, l3, l4] S h else rn 85 100 [l0, l1, l2, l3, l4] S h) ∧
  (∀ (l0 l1 l2 l3 l4 : Value) (S : List Value) (h : zH), rn 85 76 [l0, l1, l2, l3, l4] S h = ldA l4 (rn 85 78 [l0, l1, l2, l3, l4] (l4 :: S) h)) ∧
  (∀ (l0 l1 l2 l3 l4 : Value) (a : Nat) (S : List Value) (h : zH), rn 85 78 [l0, l1, l2, l3, l4] (.ref a :: S) h = zgf h a 4 0 fun v => rn 85 81 [l0, l1, l2, l3, l4] (v :: S) h) ∧
  (∀ (l0 l1 l3 l4 : Value) (x : Int32) (S : List Value) (h : zH), rn 85 81 [l0, l1, .int x, l3, l4] S h = rn 85 82 [l0, l1, .int x, l3, l4] (.int x :: S) h) ∧
  (∀ (l0 l1 l2 l3 l4 : Value) (a : Nat) (j : Int32) (S : List Value) (h : zH), rn 85 82 [l0, l1, l2, l3, l4] (.int j :: .ref a :: S) h = zli h a 0 j fun x => rn 85 83 [l0, l1, l2, l3, l4] (.int x :: S) h) ∧
  (∀ (l0 l1 l2 l3 l4 : Value) (x : Int32) (h : zH), rn 85 83 [l0, l1, l2, l3, l4] [.int x] h = some (some (.int x), h)) ∧
  (∀ (l0 l1 l2 l3 l4 : Value) (S : List Value) (h : zH), rn 85 84 [l0, l1, l2, l3, l4] S h = ldA l4 (rn 85 86 [l0, l1, l2, l3, l4] (l4 :: S) h)) ∧
  (∀ (l0 l1 l2 l3 l4 : Value) (a : Nat) (S : List Value) (h : zH), rn 85 86 [l0, l1, l2, l3, l4] (.ref a :: S) h = zgf h a 4 1 fun v => rn 85 89 [l0, l1, l2, l3, l4] (v :: S) h) ∧
  (∀ (l0 l1 l3 l4 : Value) (x : Int32) (S : List Value) (h : zH), rn 85 89 [l0, l1, .int x, l3, l4] S h = rn 85 90 [l0, l1, .int x, l3, l4] (.int x :: S) h) ∧
  (∀ (l0 l1 l2 l3 l4 : Value) (a : Nat) (j : Int32) (S : List Value) (h : zH), rn 85 90 [l0, l1, l2, l3, l4] (.int j :: .ref a :: S) h = zli h a 0 j fun x => rn 85 91 [l0, l1, l2, l3, l4] (.int x :: S) h) ∧
  (∀ (l0 l1 l2 l3 l4 : Value) (x : Int32) (h : zH), rn 85 91 [l0, l1, l2, l3, l4] [.int x] h = some (some (.int x), h)) ∧
  (∀ (l0 l1 l2 l3 l4 : Value) (S : List Value) (h : zH), rn 85 92 [l0, l1, l2, l3, l4] S h = ldA l4 (rn 85 94 [l0, l1, l2, l3, l4] (l4 :: S) h)) ∧
  (∀ (l0 l1 l2 l3 l4 : Value) (a : Nat) (S : List Value) (h : zH), rn 85 94 [l0, l1, l2, l3, l4] (.ref a :: S) h = zgf h a 4 2 fun v => rn 85 97 [l0, l1, l2, l3, l4] (v :: S) h) ∧
  (∀ (l0 l1 l3 l4 : Value) (x : Int32) (S : List Value) (h : zH), rn 85 97 [l0, l1, .int x, l3, l4] S h = rn 85 98 [l0, l1, .int x, l3, l4] (.int x :: S) h) ∧
  (∀ (l0 l1 l2 l3 l4 : Value) (a : Nat) (j : Int32) (S : List Value) (h : zH), rn 85 98 [l0, l1, l2, l3, l4] (.int j :: .ref a :: S) h = zli h a 0 j fun x => rn 85 99 [l0, l1, l2, l3, l4] (.int x :: S) h) ∧
  (∀ (l0 l1 l2 l3 l4 : Value) (x : Int32) (h : zH), rn 85 99 [l0, l1, l2, l3, l4] [.int x] h = some (some (.int x), h)) ∧
  (∀ (l0 l1 l2 l3 l4 : Value) (S : List Value) (h : zH), rn 85 100 [l0, l1, l2, l3, l4] S h = rn 85 101 [l0, l1, l2, l3, l4] (.int (-1) :: S) h) ∧
  (∀ (l0 l1 l2 l3 l4 : Value) (x : Int32) (h : zH), rn 85 101 [l0, l1, l2, l3, l4] [.int x] h = some (some (.int x), h)) := ⟨fun _ _ _ _ _ _ _ => r_iload_n (show zdec 85 0 = some (.iload_n 1, 1) by decide +kernel) rfl rfl,
  fun _ _ _ _ _ _ _ _ => r_cS [_] rfl (show zdec 85 1 = some (.invokestatic 116, 3) by decide +kernel) (show zst.lookup (85 * zKEY + 116) = some (0, 23, 1, 0) by decide +kernel) (by decide) rfl,
  fun _ _ _ _ _ _ _ _ => r_ifne (show zdec 85 4 = some (.ifCond .ne 5, 3) by decide +kernel) rfl rfl,
  fun _ _ _ _ _ _ _ => r_iconst (show zdec 85 7 = some (.iconst (-1), 1) by decide +kernel) rfl rfl,
  fun _ _ _ _ _ _ _ => r_ireti (show zdec 85 8 = some (.ireturn, 1) by decide +kernel) (by decide +kernel),
  fun _ _ _ _ _ _ _ => r_aload_nr (show zdec 85 9 = some (.aload_n 0, 1) by decide +kernel) rfl rfl,
  fun _ _ _ _ _ _ _ _ => r_getfield (show zdec 85 10 = some (.getfield 10, 3) by decide +kernel) (show zft.lookup (85 * zKEY + 10) = some (11, 0) by decide +kernel) rfl,
  fun _ _ _ _ _ _ _ _ => r_getfield (show zdec 85 13 = some (.getfield 127, 3) by decide +kernel) (show zft.lookup (85 * zKEY + 127) = some (1, 0) by decide +kernel) rfl,
  fun _ _ _ _ _ _ _ => r_iload_n (show zdec 85 16 = some (.iload_n 1, 1) by decide +kernel) rfl rfl,
  fun _ _ _ _ _ _ _ _ _ => r_aald (show zdec 85 17 = some (.aaload, 1) by decide +kernel) rfl,
  fun _ _ _ _ _ _ _ _ => r_getfield (show zdec 85 18 = some (.getfield 149, 3) by decide +kernel) (show zft.lookup (85 * zKEY + 149) = some (10, 4) by decide +kernel) rfl,
  fun _ _ _ _ _ _ _ _ => r_astore (show zdec 85 21 = some (.astore 4, 2) by decide +kernel) rfl (Nat.le_of_ble_eq_true rfl) rfl rfl,
  fun _ _ _ _ _ _ _ => r_iload_n (show zdec 85 23 = some (.iload_n 2, 1) by decide +kernel) rfl rfl,
  fun _ _ _ _ _ _ _ => r_iconst (show zdec 85 24 = some (.iconst (-1), 1) by decide +kernel) rfl rfl,
  fun _ _ _ _ _ _ _ _ _ => r_icmpne (show zdec 85 25 = some (.if_icmp .ne 13, 3) by decide +kernel) rfl rfl,
  fun _ _ _ _ _ _ _ => r_iload_n (show zdec 85 28 = some (.iload_n 3, 1) by decide +kernel) rfl rfl,
  fun _ _ _ _ _ _ _ _ => r_ifne (show zdec 85 29 = some (.ifCond .ne 9, 3) by decide +kernel) rfl rfl,
  fun _ _ _ _ _ _ _ => r_aload (show zdec 85 32 = some (.aload 4, 2) by decide +kernel) rfl rfl,
  fun _ _ _ _ _ _ _ _ => r_getfield (show zdec 85 34 = some (.getfield 153, 3) by decide +kernel) (show zft.lookup (85 * zKEY + 153) = some (4, 4) by decide +kernel) rfl,
  fun _ _ _ _ _ _ _ => r_ireti (show zdec 85 37 = some (.ireturn, 1) by decide +kernel) (by decide +kernel),
  fun _ _ _ _ _ _ _ => r_aload (show zdec 85 38 = some (.aload 4, 2) by decide +kernel) rfl rfl,
  fun _ _ _ _ _ _ _ => r_iload_n (show zdec 85 40 = some (.iload_n 2, 1) by decide +kernel) rfl rfl,
  fun _ _ _ _ _ _ _ _ _ => r_cV [_] rfl (show zdec 85 41 = some (.invokevirtual 158, 3) by decide +kernel) (show zst.lookup (85 * zKEY + 158) = some (1, 51, 1, 4) by decide +kernel) (by decide) rfl,
  fun _ _ _ _ _ _ _ _ => r_ifne (show zdec 85 44 = some (.ifCond .ne 5, 3) by decide +kernel) rfl rfl,
  fun _ _ _ _ _ _ _ => r_iconst (show zdec 85 47 = some (.iconst (-1), 1) by decide +kernel) rfl rfl,
  fun _ _ _ _ _ _ _ => r_ireti (show zdec 85 48 = some (.ireturn, 1) by decide +kernel) (by decide +kernel),
  fun _ _ _ _ _ _ _ => r_iload_n (show zdec 85 49 = some (.iload_n 3, 1) by decide +kernel) rfl rfl,
  fun _ _ _ _ _ _ _ _ => (r_tsw (l := 0) (ts := [76, 84, 92]) (dt := 100) (show zdec 85 50 = some (.tableswitch 50 0 2 #[26, 34, 42], 26) by decide +kernel) (by decide +kernel)),
  fun _ _ _ _ _ _ _ => r_aload (show zdec 85 76 = some (.aload 4, 2) by decide +kernel) rfl rfl,
  fun _ _ _ _ _ _ _ _ => r_getfield (show zdec 85 78 = some (.getfield 161, 3) by decide +kernel) (show zft.lookup (85 * zKEY + 161) = some (4, 0) by decide +kernel) rfl,
  fun _ _ _ _ _ _ _ => r_iload_n (show zdec 85 81 = some (.iload_n 2, 1) by decide +kernel) rfl rfl,
  fun _ _ _ _ _ _ _ _ _ => r_iald (show zdec 85 82 = some (.iaload, 1) by decide +kernel) rfl,
  fun _ _ _ _ _ _ _ => r_ireti (show zdec 85 83 = some (.ireturn, 1) by decide +kernel) (by decide +kernel),
  fun _ _ _ _ _ _ _ => r_aload (show zdec 85 84 = some (.aload 4, 2) by decide +kernel) rfl rfl,
  fun _ _ _ _ _ _ _ _ => r_getfield (show zdec 85 86 = some (.getfield 164, 3) by decide +kernel) (show zft.lookup (85 * zKEY + 164) = some (4, 1) by decide +kernel) rfl,
  fun _ _ _ _ _ _ _ => r_iload_n (show zdec 85 89 = some (.iload_n 2, 1) by decide +kernel) rfl rfl,
  fun _ _ _ _ _ _ _ _ _ => r_iald (show zdec 85 90 = some (.iaload, 1) by decide +kernel) rfl,
  fun _ _ _ _ _ _ _ => r_ireti (show zdec 85 91 = some (.ireturn, 1) by decide +kernel) (by decide +kernel),
  fun _ _ _ _ _ _ _ => r_aload (show zdec 85 92 = some (.aload 4, 2) by decide +kernel) rfl rfl,
  fun _ _ _ _ _ _ _ _ => r_getfield (show zdec 85 94 = some (.getfield 167, 3) by decide +kernel) (show zft.lookup (85 * zKEY + 167) = some (4, 2) by decide +kernel) rfl,
  fun _ _ _ _ _ _ _ => r_iload_n (show zdec 85 97 = some (.iload_n 2, 1) by decide +kernel) rfl rfl,
  fun _ _ _ _ _ _ _ _ _ => r_iald (show zdec 85 98 = some (.iaload, 1) by decide +kernel) rfl,
  fun _ _ _ _ _ _ _ => r_ireti (show zdec 85 99 = some (.ireturn, 1) by decide +kernel) (by decide +kernel),
  fun _ _ _ _ _ _ _ => r_iconst (show zdec 85 100 = some (.iconst (-1), 1) by decide +kernel) rfl rfl,
  fun _ _ _ _ _ _ _ => r_ireti (show zdec 85 101 = some (.ireturn, 1) by decide +kernel) (by decide +kernel)⟩
theorem ze_85 : ∀ (a0 : Nat) (a1 : Int32) (a2 : Int32) (a3 : Int32) (h : zH), ev 85 [.ref a0, .int a1, .int a2, .int a3] h = rn 85 0 [.ref a0, .int a1, .int a2, .int a3, .float 0] [] h := fun _ _ _ _ _ => if_pos (Nat.le_of_ble_eq_true rfl)
-- PayrollRun.rest(II)J
theorem zr_86 : (∀ (l0 l2 l3 : Value) (x : Int32) (S : List Value) (h : zH), rn 86 0 [l0, .int x, l2, l3] S h = rn 86 1 [l0, .int x, l2, l3] (.int x :: S) h) ∧
  (∀ (l0 l1 l2 l3 : Value) (v0 : Value) (S : List Value) (h : zH), rn 86 1 [l0, l1, l2, l3] (v0 :: S) h = if zsum S ≤ 8 then zcall (ev 23 [v0] h) (fun v h => rn 86 4 [l0, l1, l2, l3] (zpush v S) h) else none) ∧
  (∀ (l0 l1 l2 l3 : Value) (x : Int32) (S : List Value) (h : zH), rn 86 4 [l0, l1, l2, l3] (.int x :: S) h = if x = nI 0 then rn 86 7 [l0, l1, l2, l3] S h else rn 86 11 [l0, l1, l2, l3] S h) ∧
  (∀ (l0 l1 l2 l3 : Value) (S : List Value) (h : zH), rn 86 7 [l0, l1, l2, l3] S h = rn 86 10 [l0, l1, l2, l3] (.long (-1) :: S) h) ∧
  (∀ (l0 l1 l2 l3 : Value) (x : Int64) (h : zH), rn 86 10 [l0, l1, l2, l3] [.long x] h = some (some (.long x), h)) ∧
  (∀ (l1 l2 l3 : Value) (x : Nat) (S : List Value) (h : zH), rn 86 11 [.ref x, l1, l2, l3] S h = rn 86 12 [.ref x, l1, l2, l3] (.ref x :: S) h) ∧
  (∀ (l0 l1 l2 l3 : Value) (a : Nat) (S : List Value) (h : zH), rn 86 12 [l0, l1, l2, l3] (.ref a :: S) h = zgf h a 11 0 fun v => rn 86 15 [l0, l1, l2, l3] (v :: S) h) ∧
  (∀ (l0 l1 l2 l3 : Value) (a : Nat) (S : List Value) (h : zH), rn 86 15 [l0, l1, l2, l3] (.ref a :: S) h = zgf h a 1 0 fun v => rn 86 18 [l0, l1, l2, l3] (v :: S) h) ∧
  (∀ (l0 l2 l3 : Value) (x : Int32) (S : List Value) (h : zH), rn 86 18 [l0, .int x, l2, l3] S h = rn 86 19 [l0, .int x, l2, l3] (.int x :: S) h) ∧
  (∀ (l0 l1 l2 l3 : Value) (a : Nat) (j : Int32) (S : List Value) (h : zH), rn 86 19 [l0, l1, l2, l3] (.int j :: .ref a :: S) h = zlq h a j fun x => rn 86 20 [l0, l1, l2, l3] (va_rf x :: S) h) ∧
  (∀ (l0 l1 l2 l3 : Value) (a : Nat) (S : List Value) (h : zH), rn 86 20 [l0, l1, l2, l3] (.ref a :: S) h = zgf h a 10 4 fun v => rn 86 23 [l0, l1, l2, l3] (v :: S) h) ∧
  (∀ (l0 l1 l2 l3 : Value) (v : Value) (S : List Value) (h : zH), rn 86 23 [l0, l1, l2, l3] (v :: S) h = ldA v (nl l2 (rn 86 24 [l0, l1, l2, v] S h))) ∧
  (∀ (l0 l1 l2 l3 : Value) (S : List Value) (h : zH), rn 86 24 [l0, l1, l2, l3] S h = ldA l3 (rn 86 25 [l0, l1, l2, l3] (l3 :: S) h)) ∧
  (∀ (l0 l1 l3 : Value) (x : Int32) (S : List Value) (h : zH), rn 86 25 [l0, l1, .int x, l3] S h = rn 86 26 [l0, l1, .int x, l3] (.int x :: S) h) ∧
  (∀ (l0 l1 l2 l3 : Value) (o : Nat) (v0 : Value) (S : List Value) (h : zH), rn 86 26 [l0, l1, l2, l3] (v0 :: .ref o :: S) h = if zkd h o = 4 ∧ zsum S ≤ 8 then zcall (ev 51 [.ref o, v0] h) (fun v h => rn 86 29 [l0, l1, l2, l3] (zpush v S) h) else none) ∧
  (∀ (l0 l1 l2 l3 : Value) (x : Int32) (S : List Value) (h : zH), rn 86 29 [l0, l1, l2, l3] (.int x :: S) h = if x = nI 0 then rn 86 41 [l0, l1, l2, l3] S h else rn 86 32 [l0, l1, l2, l3] S h) ∧
  (∀ (l0 l1 l2 l3 : Value) (S : List Value) (h : zH), rn 86 32 [l0, l1, l2, l3] S h = ldA l3 (rn 86 33 [l0, l1, l2, l3] (l3 :: S) h)) ∧
  (∀ (l0 l1 l2 l3 : Value) (a : Nat) (S : List Value) (h : zH), rn 86 33 [l0, l1, l2, l3] (.ref a :: S) h = zgf h a 4 3 fun v => rn 86 36 [l0, l1, l2, l3] (v :: S) h) ∧
  (∀ (l0 l1 l3 : Value) (x : Int32) (S : List Value) (h : zH), rn 86 36 [l0, l1, .int x, l3] S h = rn 86 37 [l0, l1, .int x, l3] (.int x :: S) h) ∧
  (∀ (l0 l1 l2 l3 : Value) (a : Nat) (j : Int32) (S : List Value) (h : zH), rn 86 37 [l0, l1, l2, l3] (.int j :: .ref a :: S) h = zlj h a j fun x => rn 86 38 [l0, l1, l2, l3] (.long x :: S) h) ∧
  (∀ (l0 l1 l2 l3 : Value) (S : List Value) (h : zH), rn 86 38 [l0, l1, l2, l3] S h = rn 86 44 [l0, l1, l2, l3] S h) ∧
  (∀ (l0 l1 l2 l3 : Value) (S : List Value) (h : zH), rn 86 41 [l0, l1, l2, l3] S h = rn 86 44 [l0, l1, l2, l3] (.long (-1) :: S) h) ∧
  (∀ (l0 l1 l2 l3 : Value) (x : Int64) (h : zH), rn 86 44 [l0, l1, l2, l3] [.long x] h = some (some (.long x), h)) := ⟨fun _ _ _ _ _ _ => r_iload_n (show zdec 86 0 = some (.iload_n 1, 1) by decide +kernel) rfl rfl,
  fun _ _ _ _ _ _ _ => r_cS [_] rfl (show zdec 86 1 = some (.invokestatic 116, 3) by decide +kernel) (show zst.lookup (86 * zKEY + 116) = some (0, 23, 1, 0) by decide +kernel) (by decide) rfl,
  fun _ _ _ _ _ _ _ => r_ifne (show zdec 86 4 = some (.ifCond .ne 7, 3) by decide +kernel) rfl rfl,
  fun _ _ _ _ _ _ => r_ldc2 (show zdec 86 7 = some (.ldc2_w 170, 3) by decide +kernel) (show zlt.lookup (86 * zKEY + 170) = some (-1) by decide +kernel) rfl,
  fun _ _ _ _ _ _ => r_lret (show zdec 86 10 = some (.lreturn, 1) by decide +kernel) (by decide +kernel),
  fun _ _ _ _ _ _ => r_aload_nr (show zdec 86 11 = some (.aload_n 0, 1) by decide +kernel) rfl rfl,
  fun _ _ _ _ _ _ _ => r_getfield (show zdec 86 12 = some (.getfield 10, 3) by decide +kernel) (show zft.lookup (86 * zKEY + 10) = some (11, 0) by decide +kernel) rfl,
  fun _ _ _ _ _ _ _ => r_getfield (show zdec 86 15 = some (.getfield 127, 3) by decide +kernel) (show zft.lookup (86 * zKEY + 127) = some (1, 0) by decide +kernel) rfl,
  fun _ _ _ _ _ _ => r_iload_n (show zdec 86 18 = some (.iload_n 1, 1) by decide +kernel) rfl rfl,
  fun _ _ _ _ _ _ _ _ => r_aald (show zdec 86 19 = some (.aaload, 1) by decide +kernel) rfl,
  fun _ _ _ _ _ _ _ => r_getfield (show zdec 86 20 = some (.getfield 149, 3) by decide +kernel) (show zft.lookup (86 * zKEY + 149) = some (10, 4) by decide +kernel) rfl,
  fun _ _ _ _ _ _ _ => r_astore_n (show zdec 86 23 = some (.astore_n 3, 1) by decide +kernel) rfl rfl (Nat.le_of_ble_eq_true rfl) rfl rfl,
  fun _ _ _ _ _ _ => r_aload_n (show zdec 86 24 = some (.aload_n 3, 1) by decide +kernel) rfl rfl,
  fun _ _ _ _ _ _ => r_iload_n (show zdec 86 25 = some (.iload_n 2, 1) by decide +kernel) rfl rfl,
  fun _ _ _ _ _ _ _ _ => r_cV [_] rfl (show zdec 86 26 = some (.invokevirtual 158, 3) by decide +kernel) (show zst.lookup (86 * zKEY + 158) = some (1, 51, 1, 4) by decide +kernel) (by decide) rfl,
  fun _ _ _ _ _ _ _ => r_ifeq (show zdec 86 29 = some (.ifCond .eq 12, 3) by decide +kernel) rfl rfl,
  fun _ _ _ _ _ _ => r_aload_n (show zdec 86 32 = some (.aload_n 3, 1) by decide +kernel) rfl rfl,
  fun _ _ _ _ _ _ _ => r_getfield (show zdec 86 33 = some (.getfield 172, 3) by decide +kernel) (show zft.lookup (86 * zKEY + 172) = some (4, 3) by decide +kernel) rfl,
  fun _ _ _ _ _ _ => r_iload_n (show zdec 86 36 = some (.iload_n 2, 1) by decide +kernel) rfl rfl,
  fun _ _ _ _ _ _ _ _ => r_lald (show zdec 86 37 = some (.laload, 1) by decide +kernel) rfl,
  fun _ _ _ _ _ _ => r_goto (show zdec 86 38 = some (.goto 6, 3) by decide +kernel) rfl,
  fun _ _ _ _ _ _ => r_ldc2 (show zdec 86 41 = some (.ldc2_w 170, 3) by decide +kernel) (show zlt.lookup (86 * zKEY + 170) = some (-1) by decide +kernel) rfl,
  fun _ _ _ _ _ _ => r_lret (show zdec 86 44 = some (.lreturn, 1) by decide +kernel) (by decide +kernel)⟩
theorem ze_86 : ∀ (a0 : Nat) (a1 : Int32) (a2 : Int32) (h : zH), ev 86 [.ref a0, .int a1, .int a2] h = rn 86 0 [.ref a0, .int a1, .int a2, .float 0] [] h := fun _ _ _ _ => if_pos (Nat.le_of_ble_eq_true rfl)
-- PayrollRun.due(III)J
theorem zr_87 : (∀ (l0 l2 l3 : Value) (x : Int32) (S : List Value) (h : zH), rn 87 0 [l0, .int x, l2, l3] S h = rn 87 1 [l0, .int x, l2, l3] (.int x :: S) h) ∧
  (∀ (l0 l1 l2 l3 : Value) (v0 : Value) (S : List Value) (h : zH), rn 87 1 [l0, l1, l2, l3] (v0 :: S) h = if zsum S ≤ 8 then zcall (ev 23 [v0] h) (fun v h => rn 87 4 [l0, l1, l2, l3] (zpush v S) h) else none) ∧
  (∀ (l0 l1 l2 l3 : Value) (x : Int32) (S : List Value) (h : zH), rn 87 4 [l0, l1, l2, l3] (.int x :: S) h = if x = nI 0 then rn 87 23 [l0, l1, l2, l3] S h else rn 87 7 [l0, l1, l2, l3] S h) ∧
  (∀ (l0 l1 l3 : Value) (x : Int32) (S : List Value) (h : zH), rn 87 7 [l0, l1, .int x, l3] S h = rn 87 8 [l0, l1, .int x, l3] (.int x :: S) h) ∧
  (∀ (l0 l1 l2 l3 : Value) (v0 : Value) (S : List Value) (h : zH), rn 87 8 [l0, l1, l2, l3] (v0 :: S) h = if zsum S ≤ 8 then zcall (ev 25 [v0] h) (fun v h => rn 87 11 [l0, l1, l2, l3] (zpush v S) h) else none) ∧
  (∀ (l0 l1 l2 l3 : Value) (x : Int32) (S : List Value) (h : zH), rn 87 11 [l0, l1, l2, l3] (.int x :: S) h = if x = nI 0 then rn 87 23 [l0, l1, l2, l3] S h else rn 87 14 [l0, l1, l2, l3] S h) ∧
  (∀ (l0 l1 l2 : Value) (x : Int32) (S : List Value) (h : zH), rn 87 14 [l0, l1, l2, .int x] S h = rn 87 15 [l0, l1, l2, .int x] (.int x :: S) h) ∧
  (∀ (l0 l1 l2 l3 : Value) (S : List Value) (h : zH), rn 87 15 [l0, l1, l2, l3] S h = rn 87 16 [l0, l1, l2, l3] (.int (nI 0) :: S) h) ∧
  (∀ (l0 l1 l2 l3 : Value) (S : List Value) (h : zH), rn 87 16 [l0, l1, l2, l3] S h = rn 87 17 [l0, l1, l2, l3] (.int (nI 4) :: S) h) ∧
  (∀ (l0 l1 l2 l3 : Value) (v0 : Value) (v1 : Value) (v2 : Value) (S : List Value) (h : zH), rn 87 17 [l0, l1, l2, l3] (v2 :: v1 :: v0 :: S) h = if zsum S ≤ 8 then zcall (ev 24 [v0, v1, v2] h) (fun v h => rn 87 20 [l0, l1, l2, l3] (zpush v S) h) else none) ∧
  (∀ (l0 l1 l2 l3 : Value) (x : Int32) (S : List Value) (h : zH), rn 87 20 [l0, l1, l2, l3] (.int x :: S) h = if x = nI 0 then rn 87 23 [l0, l1, l2, l3] S h else rn 87 27 [l0, l1, l2, l3] S h) ∧
  (∀ (l0 l1 l2 l3 : Value) (S : List Value) (h : zH), rn 87 23 [l0, l1, l2, l3] S h = rn 87 26 [l0, l1, l2, l3] (.long (-1) :: S) h) ∧
  (∀ (l0 l1 l2 l3 : Value) (x : Int64) (h : zH), rn 87 26 [l0, l1, l2, l3] [.long x] h = some (some (.long x), h)) ∧
  (∀ (l1 l2 l3 : Value) (x : Nat) (S : List Value) (h : zH), rn 87 27 [.ref x, l1, l2, l3] S h = rn 87 28 [.ref x, l1, l2, l3] (.ref x :: S) h) ∧
  (∀ (l0 l1 l2 l3 : Value) (a : Nat) (S : List Value) (h : zH), rn 87 28 [l0, l1, l2, l3] (.ref a :: S) h = zgf h a 11 0 fun v => rn 87 31 [l0, l1, l2, l3] (v :: S) h) ∧
  (∀ (l0 l1 l2 l3 : Value) (a : Nat) (S : List Value) (h : zH), rn 87 31 [l0, l1, l2, l3] (.ref a :: S) h = zgf h a 1 1 fun v => rn 87 34 [l0, l1, l2, l3] (v :: S) h) ∧
  (∀ (l1 l2 l3 : Value) (x : Nat) (S : List Value) (h : zH), rn 87 34 [.ref x, l1, l2, l3] S h = rn 87 35 [.ref x, l1, l2, l3] (.ref x :: S) h) ∧
  (∀ (l0 l1 l2 l3 : Value) (a : Nat) (S : List Value) (h : zH), rn 87 35 [l0, l1, l2, l3] (.ref a :: S) h = zgf h a 11 0 fun v => rn 87 38 [l0, l1, l2, l3] (v :: S) h) ∧
  (∀ (l0 l1 l2 l3 : Value) (a : Nat) (S : List Value) (h : zH), rn 87 38 [l0, l1, l2, l3] (.ref a :: S) h = zgf h a 1 0 fun v => rn 87 41 [l0, l1, l2, l3] (v :: S) h) ∧
  (∀ (l0 l2 l3 : Value) (x : Int32) (S : List Value) (h : zH), rn 87 41 [l0, .int x, l2, l3] S h = rn 87 42 [l0, .int x, l2, l3] (.int x :: S) h) ∧
  (∀ (l0 l1 l2 l3 : Value) (a : Nat) (j : Int32) (S : List Value) (h : zH), rn 87 42 [l0, l1, l2, l3] (.int j :: .ref a :: S) h = zlq h a j fun x => rn 87 43 [l0, l1, l2, l3] (va_rf x :: S) h) ∧
  (∀ (l1 l2 l3 : Value) (x : Nat) (S : List Value) (h : zH), rn 87 43 [.ref x, l1, l2, l3] S h = rn 87 44 [.ref x, l1, l2, l3] (.ref x :: S) h) ∧
  (∀ (l0 l1 l2 l3 : Value) (a : Nat) (S : List Value) (h : zH), rn 87 44 [l0, l1, l2, l3] (.ref a :: S) h = zgf h a 11 5 fun v => rn 87 47 [l0, l1, l2, l3] (v :: S) h) ∧
  (∀ (l0 l1 l2 l3 : Value) (a : Nat) (S : List Value) (h : zH), rn 87 47 [l0, l1, l2, l3] (.ref a :: S) h = zgf h a 2 0 fun v => rn 87 50 [l0, l1, l2, l3] (v :: S) h) ∧
  (∀ (l0 l1 l2 l3 : Value) (o : Nat) (v0 : Value) (v1 : Value) (S : List Value) (h : zH), rn 87 50 [l0, l1, l2, l3] (v1 :: v0 :: .ref o :: S) h = if zkd h o = 6 ∧ zsum S ≤ 8 then zcall (ev 60 [.ref o, v0, v1] h) (fun v h => rn 87 53 [l0, l1, l2, l3] (zpush v S) h) else none) ∧
  (∀ (l1 l2 l3 : Value) (x : Nat) (S : List Value) (h : zH), rn 87 53 [.ref x, l1, l2, l3] S h = rn 87 54 [.ref x, l1, l2, l3] (.ref x :: S) h) ∧
  (∀ (l0 l1 l2 l3 : Value) (a : Nat) (S : List Value) (h : zH), rn 87 54 [l0, l1, l2, l3] (.ref a :: S) h = zgf h a 11 5 fun v => rn 87 57 [l0, l1, l2, l3] (v :: S) h) ∧
  (∀ (l0 l1 l2 l3 : Value) (a : Nat) (S : List Value) (h : zH), rn 87 57 [l0, l1, l2, l3] (.ref a :: S) h = zgf h a 2 0 fun v => rn 87 60 [l0, l1, l2, l3] (v :: S) h) ∧
  (∀ (l0 l1 l2 : Value) (x : Int32) (S : List Value) (h : zH), rn 87 60 [l0, l1, l2, .int x] S h = rn 87 61 [l0, l1, l2, .int x] (.int x :: S) h) ∧
  (∀ (l0 l1 l2 l3 : Value) (S : List Value) (h : zH), rn 87 61 [l0, l1, l2, l3] S h = rn 87 63 [l0, l1, l2, l3] (.int (nI 12) :: S) h) ∧
  (∀ (l0 l1 l2 l3 : Value) (x : Int32) (y : Int32) (S : List Value) (h : zH), rn 87 63 [l0, l1, l2, l3] (.int y :: .int x :: S) h = rn 87 64 [l0, l1, l2, l3] (.int (x * y) :: S) h) ∧
  (∀ (l0 l1 l3 : Value) (x : Int32) (S : List Value) (h : zH), rn 87 64 [l0, l1, .int x, l3] S h = rn 87 65 [l0, l1, .int x, l3] (.int x :: S) h) ∧
  (∀ (l0 l1 l2 l3 : Value) (x : Int32) (y : Int32) (S : List Value) (h : zH), rn 87 65 [l0, l1, l2, l3] (.int y :: .int x :: S) h = rn 87 66 [l0, l1, l2, l3] (.int (x + y) :: S) h) ∧
  (∀ (l0 l1 l2 l3 : Value) (a : Nat) (j : Int32) (S : List Value) (h : zH), rn 87 66 [l0, l1, l2, l3] (.int j :: .ref a :: S) h = zlj h a j fun x => rn 87 67 [l0, l1, l2, l3] (.long x :: S) h) ∧
  (∀ (l0 l1 l2 l3 : Value) (x : Int64) (h : zH), rn 87 67 [l0, l1, l2, l3] [.long x] h = some (some (.long x), h)) := ⟨fun _ _ _ _ _ _ => r_iload_n (show zdec 87 0 = some (.iload_n 1, 1) by decide +kernel) rfl rfl,
  fun _ _ _ _ _ _ _ => r_cS [_] rfl (show zdec 87 1 = some (.invokestatic 116, 3) by decide +kernel) (show zst.lookup (87 * zKEY + 116) = some (0, 23, 1, 0) by decide +kernel) (by decide) rfl,
  fun _ _ _ _ _ _ _ => r_ifeq (show zdec 87 4 = some (.ifCond .eq 19, 3) by decide +kernel) rfl rfl,
  fun _ _ _ _ _ _ => r_iload_n (show zdec 87 7 = some (.iload_n 2, 1) by decide +kernel) rfl rfl,
  fun _ _ _ _ _ _ _ => r_cS [_] rfl (show zdec 87 8 = some (.invokestatic 120, 3) by decide +kernel) (show zst.lookup (87 * zKEY + 120) = some (0, 25, 1, 0) by decide +kernel) (by decide) rfl,
  fun _ _ _ _ _ _ _ => r_ifeq (show zdec 87 11 = some (.ifCond .eq 12, 3) by decide +kernel) rfl rfl,
  fun _ _ _ _ _ _ => r_iload_n (show zdec 87 14 = some (.iload_n 3, 1) by decide +kernel) rfl rfl,
  fun _ _ _ _ _ _ => r_iconst (show zdec 87 15 = some (.iconst 0, 1) by decide +kernel) rfl rfl,
  fun _ _ _ _ _ _ => r_iconst (show zdec 87 16 = some (.iconst 4, 1) by decide +kernel) rfl rfl,
  fun _ _ _ _ _ _ _ _ _ => r_cS [_, _, _] rfl (show zdec 87 17 = some (.invokestatic 123, 3) by decide +kernel) (show zst.lookup (87 * zKEY + 123) = some (0, 24, 3, 0) by decide +kernel) (by decide) rfl,
  fun _ _ _ _ _ _ _ => r_ifne (show zdec 87 20 = some (.ifCond .ne 7, 3) by decide +kernel) rfl rfl,
  fun _ _ _ _ _ _ => r_ldc2 (show zdec 87 23 = some (.ldc2_w 170, 3) by decide +kernel) (show zlt.lookup (87 * zKEY + 170) = some (-1) by decide +kernel) rfl,
  fun _ _ _ _ _ _ => r_lret (show zdec 87 26 = some (.lreturn, 1) by decide +kernel) (by decide +kernel),
  fun _ _ _ _ _ _ => r_aload_nr (show zdec 87 27 = some (.aload_n 0, 1) by decide +kernel) rfl rfl,
  fun _ _ _ _ _ _ _ => r_getfield (show zdec 87 28 = some (.getfield 10, 3) by decide +kernel) (show zft.lookup (87 * zKEY + 10) = some (11, 0) by decide +kernel) rfl,
  fun _ _ _ _ _ _ _ => r_getfield (show zdec 87 31 = some (.getfield 140, 3) by decide +kernel) (show zft.lookup (87 * zKEY + 140) = some (1, 1) by decide +kernel) rfl,
  fun _ _ _ _ _ _ => r_aload_nr (show zdec 87 34 = some (.aload_n 0, 1) by decide +kernel) rfl rfl,
  fun _ _ _ _ _ _ _ => r_getfield (show zdec 87 35 = some (.getfield 10, 3) by decide +kernel) (show zft.lookup (87 * zKEY + 10) = some (11, 0) by decide +kernel) rfl,
  fun _ _ _ _ _ _ _ => r_getfield (show zdec 87 38 = some (.getfield 127, 3) by decide +kernel) (show zft.lookup (87 * zKEY + 127) = some (1, 0) by decide +kernel) rfl,
  fun _ _ _ _ _ _ => r_iload_n (show zdec 87 41 = some (.iload_n 1, 1) by decide +kernel) rfl rfl,
  fun _ _ _ _ _ _ _ _ => r_aald (show zdec 87 42 = some (.aaload, 1) by decide +kernel) rfl,
  fun _ _ _ _ _ _ => r_aload_nr (show zdec 87 43 = some (.aload_n 0, 1) by decide +kernel) rfl rfl,
  fun _ _ _ _ _ _ _ => r_getfield (show zdec 87 44 = some (.getfield 40, 3) by decide +kernel) (show zft.lookup (87 * zKEY + 40) = some (11, 5) by decide +kernel) rfl,
  fun _ _ _ _ _ _ _ => r_getfield (show zdec 87 47 = some (.getfield 176, 3) by decide +kernel) (show zft.lookup (87 * zKEY + 176) = some (2, 0) by decide +kernel) rfl,
  fun _ _ _ _ _ _ _ _ _ => r_cV [_, _] rfl (show zdec 87 50 = some (.invokevirtual 179, 3) by decide +kernel) (show zst.lookup (87 * zKEY + 179) = some (1, 60, 2, 6) by decide +kernel) (by decide) rfl,
  fun _ _ _ _ _ _ => r_aload_nr (show zdec 87 53 = some (.aload_n 0, 1) by decide +kernel) rfl rfl,
  fun _ _ _ _ _ _ _ => r_getfield (show zdec 87 54 = some (.getfield 40, 3) by decide +kernel) (show zft.lookup (87 * zKEY + 40) = some (11, 5) by decide +kernel) rfl,
  fun _ _ _ _ _ _ _ => r_getfield (show zdec 87 57 = some (.getfield 176, 3) by decide +kernel) (show zft.lookup (87 * zKEY + 176) = some (2, 0) by decide +kernel) rfl,
  fun _ _ _ _ _ _ => r_iload_n (show zdec 87 60 = some (.iload_n 3, 1) by decide +kernel) rfl rfl,
  fun _ _ _ _ _ _ => r_bipush (show zdec 87 61 = some (.bipush 12, 2) by decide +kernel) rfl rfl,
  fun _ _ _ _ _ _ _ _ => r_imul (show zdec 87 63 = some (.imul, 1) by decide +kernel) rfl,
  fun _ _ _ _ _ _ => r_iload_n (show zdec 87 64 = some (.iload_n 2, 1) by decide +kernel) rfl rfl,
  fun _ _ _ _ _ _ _ _ => r_iadd (show zdec 87 65 = some (.iadd, 1) by decide +kernel) rfl,
  fun _ _ _ _ _ _ _ _ => r_lald (show zdec 87 66 = some (.laload, 1) by decide +kernel) rfl,
  fun _ _ _ _ _ _ => r_lret (show zdec 87 67 = some (.lreturn, 1) by decide +kernel) (by decide +kernel)⟩
theorem ze_87 : ∀ (a0 : Nat) (a1 : Int32) (a2 : Int32) (a3 : Int32) (h : zH), ev 87 [.ref a0, .int a1, .int a2, .int a3] h = rn 87 0 [.ref a0, .int a1, .int a2, .int a3] [] h := fun _ _ _ _ _ => if_pos (Nat.le_of_ble_eq_true rfl)
-- PayrollRun.settled(III)J
theorem zr_88 : (∀ (l0 l2 l3 : Value) (x : Int32) (S : List Value) (h : zH), rn 88 0 [l0, .int x, l2, l3] S h = rn 88 1 [l0, .int x, l2, l3] (.int x :: S) h) ∧
  (∀ (l0 l1 l2 l3 : Value) (v0 : Value) (S : List Value) (h : zH), rn 88 1 [l0, l1, l2, l3] (v0 :: S) h = if zsum S ≤ 8 then zcall (ev 23 [v0] h) (fun v h => rn 88 4 [l0, l1, l2, l3] (zpush v S) h) else none) ∧
  (∀ (l0 l1 l2 l3 : Value) (x : Int32) (S : List Value) (h : zH), rn 88 4 [l0, l1, l2, l3] (.int x :: S) h = if x = nI 0 then rn 88 23 [l0, l1, l2, l3] S h else rn 88 7 [l0, l1, l2, l3] S h) ∧
  (∀ (l0 l1 l3 : Value) (x : Int32) (S : List Value) (h : zH), rn 88 7 [l0, l1, .int x, l3] S h = rn 88 8 [l0, l1, .int x, l3] (.int x :: S) h) ∧
  (∀ (l0 l1 l2 l3 : Value) (v0 : Value) (S : List Value) (h : zH), rn 88 8 [l0, l1, l2, l3] (v0 :: S) h = if zsum S ≤ 8 then zcall (ev 25 [v0] h) (fun v h => rn 88 11 [l0, l1, l2, l3] (zpush v S) h) else none) ∧
  (∀ (l0 l1 l2 l3 : Value) (x : Int32) (S : List Value) (h : zH), rn 88 11 [l0, l1, l2, l3] (.int x :: S) h = if x = nI 0 then rn 88 23 [l0, l1, l2, l3] S h else rn 88 14 [l0, l1, l2, l3] S h) ∧
  (∀ (l0 l1 l2 : Value) (x : Int32) (S : List Value) (h : zH), rn 88 14 [l0, l1, l2, .int x] S h = rn 88 15 [l0, l1, l2, .int x] (.int x :: S) h) ∧
  (∀ (l0 l1 l2 l3 : Value) (S : List Value) (h : zH), rn 88 15 [l0, l1, l2, l3] S h = rn 88 16 [l0, l1, l2, l3] (.int (nI 0) :: S) h) ∧
  (∀ (l0 l1 l2 l3 : Value) (S : List Value) (h : zH), rn 88 16 [l0, l1, l2, l3] S h = rn 88 17 [l0, l1, l2, l3] (.int (nI 4) :: S) h) ∧
  (∀ (l0 l1 l2 l3 : Value) (v0 : Value) (v1 : Value) (v2 : Value) (S : List Value) (h : zH), rn 88 17 [l0, l1, l2, l3] (v2 :: v1 :: v0 :: S) h = if zsum S ≤ 8 then zcall (ev 24 [v0, v1, v2] h) (fun v h => rn 88 20 [l0, l1, l2, l3] (zpush v S) h) else none) ∧
  (∀ (l0 l1 l2 l3 : Value) (x : Int32) (S : List Value) (h : zH), rn 88 20 [l0, l1, l2, l3] (.int x :: S) h = if x = nI 0 then rn 88 23 [l0, l1, l2, l3] S h else rn 88 27 [l0, l1, l2, l3] S h) ∧
  (∀ (l0 l1 l2 l3 : Value) (S : List Value) (h : zH), rn 88 23 [l0, l1, l2, l3] S h = rn 88 26 [l0, l1, l2, l3] (.long (-1) :: S) h) ∧
  (∀ (l0 l1 l2 l3 : Value) (x : Int64) (h : zH), rn 88 26 [l0, l1, l2, l3] [.long x] h = some (some (.long x), h)) ∧
  (∀ (l0 l1 l3 : Value) (x : Int32) (S : List Value) (h : zH), rn 88 27 [l0, l1, .int x, l3] S h = rn 88 28 [l0, l1, .int x, l3] (.int x :: S) h) ∧
  (∀ (l1 l2 l3 : Value) (x : Nat) (S : List Value) (h : zH), rn 88 28 [.ref x, l1, l2, l3] S h = rn 88 29 [.ref x, l1, l2, l3] (.ref x :: S) h) ∧
  (∀ (l0 l1 l2 l3 : Value) (a : Nat) (S : List Value) (h : zH), rn 88 29 [l0, l1, l2, l3] (.ref a :: S) h = zgf h a 11 0 fun v => rn 88 32 [l0, l1, l2, l3] (v :: S) h) ∧
  (∀ (l0 l1 l2 l3 : Value) (a : Nat) (S : List Value) (h : zH), rn 88 32 [l0, l1, l2, l3] (.ref a :: S) h = zgf h a 1 2 fun v => rn 88 35 [l0, l1, l2, l3] (v :: S) h) ∧
  (∀ (l0 l1 l2 l3 : Value) (x : Int32) (y : Int32) (S : List Value) (h : zH), rn 88 35 [l0, l1, l2, l3] (.int y :: .int x :: S) h = if x < y then rn 88 42 [l0, l1, l2, l3] S h else rn 88 38 [l0, l1, l2, l3] S h) ∧
  (∀ (l0 l1 l2 l3 : Value) (S : List Value) (h : zH), rn 88 38 [l0, l1, l2, l3] S h = rn 88 41 [l0, l1, l2, l3] (.long (-2) :: S) h) ∧
  (∀ (l0 l1 l2 l3 : Value) (x : Int64) (h : zH), rn 88 41 [l0, l1, l2, l3] [.long x] h = some (some (.long x), h)) ∧
  (∀ (l1 l2 l3 : Value) (x : Nat) (S : List Value) (h : zH), rn 88 42 [.ref x, l1, l2, l3] S h = rn 88 43 [.ref x, l1, l2, l3] (.ref x :: S) h) ∧
  (∀ (l0 l1 l2 l3 : Value) (a : Nat) (S : List Value) (h : zH), rn 88 43 [l0, l1, l2, l3] (.ref a :: S) h = zgf h a 11 0 fun v => rn 88 46 [l0, l1, l2, l3] (v :: S) h) ∧
  (∀ (l0 l1 l2 l3 : Value) (a : Nat) (S : List Value) (h : zH), rn 88 46 [l0, l1, l2, l3] (.ref a :: S) h = zgf h a 1 0 fun v => rn 88 49 [l0, l1, l2, l3] (v :: S) h) ∧
  (∀ (l0 l2 l3 : Value) (x : Int32) (S : List Value) (h : zH), rn 88 49 [l0, .int x, l2, l3] S h = rn 88 50 [l0, .int x, l2, l3] (.int x :: S) h) ∧
  (∀ (l0 l1 l2 l3 : Value) (a : Nat) (j : Int32) (S : List Value) (h : zH), rn 88 50 [l0, l1, l2, l3] (.int j :: .ref a :: S) h = zlq h a j fun x => rn 88 51 [l0, l1, l2, l3] (va_rf x :: S) h) ∧
  (∀ (l0 l1 l2 l3 : Value) (a : Nat) (S : List Value) (h : zH), rn 88 51 [l0, l1, l2, l3] (.ref a :: S) h = zgf h a 10 2 fun v => rn 88 54 [l0, l1, l2, l3] (v :: S) h) ∧
  (∀ (l0 l1 l2 : Value) (x : Int32) (S : List Value) (h : zH), rn 88 54 [l0, l1, l2, .int x] S h = rn 88 55 [l0, l1, l2, .int x] (.int x :: S) h) ∧
  (∀ (l0 l1 l2 l3 : Value) (S : List Value) (h : zH), rn 88 55 [l0, l1, l2, l3] S h = rn 88 57 [l0, l1, l2, l3] (.int (nI 12) :: S) h) ∧
  (∀ (l0 l1 l2 l3 : Value) (x : Int32) (y : Int32) (S : List Value) (h : zH), rn 88 57 [l0, l1, l2, l3] (.int y :: .int x :: S) h = rn 88 58 [l0, l1, l2, l3] (.int (x * y) :: S) h) ∧
  (∀ (l0 l1 l3 : Value) (x : Int32) (S : List Value) (h : zH), rn 88 58 [l0, l1, .int x, l3] S h = rn 88 59 [l0, l1, .int x, l3] (.int x :: S) h) ∧
  (∀ (l0 l1 l2 l3 : Value) (x : Int32) (y : Int32) (S : List Value) (h : zH), rn 88 59 [l0, l1, l2, l3] (.int y :: .int x :: S) h = rn 88 60 [l0, l1, l2, l3] (.int (x + y) :: S) h) ∧
  (∀ (l0 l1 l2 l3 : Value) (a : Nat) (j : Int32) (S : List Value) (h : zH), rn 88 60 [l0, l1, l2, l3] (.int j :: .ref a :: S) h = zlj h a j fun x => rn 88 61 [l0, l1, l2, l3] (.long x :: S) h) ∧
  (∀ (l0 l1 l2 l3 : Value) (x : Int64) (h : zH), rn 88 61 [l0, l1, l2, l3] [.long x] h = some (some (.long x), h)) := ⟨fun _ _ _ _ _ _ => r_iload_n (show zdec 88 0 = some (.iload_n 1, 1) by decide +kernel) rfl rfl,
  fun _ _ _ _ _ _ _ => r_cS [_] rfl (show zdec 88 1 = some (.invokestatic 116, 3) by decide +kernel) (show zst.lookup (88 * zKEY + 116) = some (0, 23, 1, 0) by decide +kernel) (by decide) rfl,
  fun _ _ _ _ _ _ _ => r_ifeq (show zdec 88 4 = some (.ifCond .eq 19, 3) by decide +kernel) rfl rfl,
  fun _ _ _ _ _ _ => r_iload_n (show zdec 88 7 = some (.iload_n 2, 1) by decide +kernel) rfl rfl,
  fun _ _ _ _ _ _ _ => r_cS [_] rfl (show zdec 88 8 = some (.invokestatic 120, 3) by decide +kernel) (show zst.lookup (88 * zKEY + 120) = some (0, 25, 1, 0) by decide +kernel) (by decide) rfl,
  fun _ _ _ _ _ _ _ => r_ifeq (show zdec 88 11 = some (.ifCond .eq 12, 3) by decide +kernel) rfl rfl,
  fun _ _ _ _ _ _ => r_iload_n (show zdec 88 14 = some (.iload_n 3, 1) by decide +kernel) rfl rfl,
  fun _ _ _ _ _ _ => r_iconst (show zdec 88 15 = some (.iconst 0, 1) by decide +kernel) rfl rfl,
  fun _ _ _ _ _ _ => r_iconst (show zdec 88 16 = some (.iconst 4, 1) by decide +kernel) rfl rfl,
  fun _ _ _ _ _ _ _ _ _ => r_cS [_, _, _] rfl (show zdec 88 17 = some (.invokestatic 123, 3) by decide +kernel) (show zst.lookup (88 * zKEY + 123) = some (0, 24, 3, 0) by decide +kernel) (by decide) rfl,
  fun _ _ _ _ _ _ _ => r_ifne (show zdec 88 20 = some (.ifCond .ne 7, 3) by decide +kernel) rfl rfl,
  fun _ _ _ _ _ _ => r_ldc2 (show zdec 88 23 = some (.ldc2_w 170, 3) by decide +kernel) (show zlt.lookup (88 * zKEY + 170) = some (-1) by decide +kernel) rfl,
  fun _ _ _ _ _ _ => r_lret (show zdec 88 26 = some (.lreturn, 1) by decide +kernel) (by decide +kernel),
  fun _ _ _ _ _ _ => r_iload_n (show zdec 88 27 = some (.iload_n 2, 1) by decide +kernel) rfl rfl,
  fun _ _ _ _ _ _ => r_aload_nr (show zdec 88 28 = some (.aload_n 0, 1) by decide +kernel) rfl rfl,
  fun _ _ _ _ _ _ _ => r_getfield (show zdec 88 29 = some (.getfield 10, 3) by decide +kernel) (show zft.lookup (88 * zKEY + 10) = some (11, 0) by decide +kernel) rfl,
  fun _ _ _ _ _ _ _ => r_getfield (show zdec 88 32 = some (.getfield 112, 3) by decide +kernel) (show zft.lookup (88 * zKEY + 112) = some (1, 2) by decide +kernel) rfl,
  fun _ _ _ _ _ _ _ _ => r_icmplt (show zdec 88 35 = some (.if_icmp .lt 7, 3) by decide +kernel) rfl rfl,
  fun _ _ _ _ _ _ => r_ldc2 (show zdec 88 38 = some (.ldc2_w 183, 3) by decide +kernel) (show zlt.lookup (88 * zKEY + 183) = some (-2) by decide +kernel) rfl,
  fun _ _ _ _ _ _ => r_lret (show zdec 88 41 = some (.lreturn, 1) by decide +kernel) (by decide +kernel),
  fun _ _ _ _ _ _ => r_aload_nr (show zdec 88 42 = some (.aload_n 0, 1) by decide +kernel) rfl rfl,
  fun _ _ _ _ _ _ _ => r_getfield (show zdec 88 43 = some (.getfield 10, 3) by decide +kernel) (show zft.lookup (88 * zKEY + 10) = some (11, 0) by decide +kernel) rfl,
  fun _ _ _ _ _ _ _ => r_getfield (show zdec 88 46 = some (.getfield 127, 3) by decide +kernel) (show zft.lookup (88 * zKEY + 127) = some (1, 0) by decide +kernel) rfl,
  fun _ _ _ _ _ _ => r_iload_n (show zdec 88 49 = some (.iload_n 1, 1) by decide +kernel) rfl rfl,
  fun _ _ _ _ _ _ _ _ => r_aald (show zdec 88 50 = some (.aaload, 1) by decide +kernel) rfl,
  fun _ _ _ _ _ _ _ => r_getfield (show zdec 88 51 = some (.getfield 185, 3) by decide +kernel) (show zft.lookup (88 * zKEY + 185) = some (10, 2) by decide +kernel) rfl,
  fun _ _ _ _ _ _ => r_iload_n (show zdec 88 54 = some (.iload_n 3, 1) by decide +kernel) rfl rfl,
  fun _ _ _ _ _ _ => r_bipush (show zdec 88 55 = some (.bipush 12, 2) by decide +kernel) rfl rfl,
  fun _ _ _ _ _ _ _ _ => r_imul (show zdec 88 57 = some (.imul, 1) by decide +kernel) rfl,
  fun _ _ _ _ _ _ => r_iload_n (show zdec 88 58 = some (.iload_n 2, 1) by decide +kernel) rfl rfl,
  fun _ _ _ _ _ _ _ _ => r_iadd (show zdec 88 59 = some (.iadd, 1) by decide +kernel) rfl,
  fun _ _ _ _ _ _ _ _ => r_lald (show zdec 88 60 = some (.laload, 1) by decide +kernel) rfl,
  fun _ _ _ _ _ _ => r_lret (show zdec 88 61 = some (.lreturn, 1) by decide +kernel) (by decide +kernel)⟩
theorem ze_88 : ∀ (a0 : Nat) (a1 : Int32) (a2 : Int32) (a3 : Int32) (h : zH), ev 88 [.ref a0, .int a1, .int a2, .int a3] h = rn 88 0 [.ref a0, .int a1, .int a2, .int a3] [] h := fun _ _ _ _ _ => if_pos (Nat.le_of_ble_eq_true rfl)
-- PayrollRun.pending(I)J
theorem zr_89 : (∀ (l0 l2 l3 l4 l5 l6 : Value) (x : Int32) (S : List Value) (h : zH), rn 89 0 [l0, .int x, l2, l3, l4, l5, l6] S h = rn 89 1 [l0, .int x, l2, l3, l4, l5, l6] (.int x :: S) h) ∧
  (∀ (l0 l1 l2 l3 l4 l5 l6 : Value) (v0 : Value) (S : List Value) (h : zH), rn 89 1 [l0, l1, l2, l3, l4, l5, l6] (v0 :: S) h = if zsum S ≤ 8 then zcall (ev 23 [v0] h) (fun v h => rn 89 4 [l0, l1, l2, l3, l4, l5, l6] (zpush v S) h) else none) ∧
  (∀ (l0 l1 l2 l3 l4 l5 l6 : Value) (x : Int32) (S : List Value) (h : zH), rn 89 4 [l0, l1, l2, l3, l4, l5, l6] (.int x :: S) h = if x = nI 0 then rn 89 7 [l0, l1, l2, l3, l4, l5, l6] S h else rn 89 11 [l0, l1, l2, l3, l4, l5, l6] S h) ∧
  (∀ (l0 l1 l2 l3 l4 l5 l6 : Value) (S : List Value) (h : zH), rn 89 7 [l0, l1, l2, l3, l4, l5, l6] S h = rn 89 10 [l0, l1, l2, l3, l4, l5, l6] (.long (-9223372036854775808) :: S) h) ∧
  (∀ (l0 l1 l2 l3 l4 l5 l6 : Value) (x : Int64) (h : zH), rn 89 10 [l0, l1, l2, l3, l4, l5, l6] [.long x] h = some (some (.long x), h)) ∧
  (∀ (l1 l2 l3 l4 l5 l6 : Value) (x : Nat) (S : List Value) (h : zH), rn 89 11 [.ref x, l1, l2, l3, l4, l5, l6] S h = rn 89 12 [.ref x, l1, l2, l3, l4, l5, l6] (.ref x :: S) h) ∧
  (∀ (l0 l1 l2 l3 l4 l5 l6 : Value) (a : Nat) (S : List Value) (h : zH), rn 89 12 [l0, l1, l2, l3, l4, l5, l6] (.ref a :: S) h = zgf h a 11 0 fun v => rn 89 15 [l0, l1, l2, l3, l4, l5, l6] (v :: S) h) ∧
  (∀ (l0 l1 l2 l3 l4 l5 l6 : Value) (a : Nat) (S : List Value) (h : zH), rn 89 15 [l0, l1, l2, l3, l4, l5, l6] (.ref a :: S) h = zgf h a 1 0 fun v => rn 89 18 [l0, l1, l2, l3, l4, l5, l6] (v :: S) h) ∧
  (∀ (l0 l2 l3 l4 l5 l6 : Value) (x : Int32) (S : List Value) (h : zH), rn 89 18 [l0, .int x, l2, l3, l4, l5, l6] S h = rn 89 19 [l0, .int x, l2, l3, l4, l5, l6] (.int x :: S) h) ∧
  (∀ (l0 l1 l2 l3 l4 l5 l6 : Value) (a : Nat) (j : Int32) (S : List Value) (h : zH), rn 89 19 [l0, l1, l2, l3, l4, l5, l6] (.int j :: .ref a :: S) h = zlq h a j fun x => rn 89 20 [l0, l1, l2, l3, l4, l5, l6] (va_rf x :: S) h) ∧
  (∀ (l0 l1 l2 l3 l4 l5 l6 : Value) (v : Value) (S : List Value) (h : zH), rn 89 20 [l0, l1, l2, l3, l4, l5, l6] (v :: S) h = ldA v (nl l1 (rn 89 21 [l0, l1, v, l3, l4, l5, l6] S h))) ∧
  (∀ (l1 l2 l3 l4 l5 l6 : Value) (x : Nat) (S : List Value) (h : zH), rn 89 21 [.ref x, l1, l2, l3, l4, l5, l6] S h = rn 89 22 [.ref x, l1, l2, l3, l4, l5, l6] (.ref x :: S) h) ∧
  (∀ (l0 l1 l2 l3 l4 l5 l6 : Value) (a : Nat) (S : List Value) (h : zH), rn 89 22 [l0, l1, l2, l3, l4, l5, l6] (.ref a :: S) h = zgf h a 11 0 fun v => rn 89 25 [l0, l1, l2, l3, l4, l5, l6] (v :: S) h) ∧
  (∀ (l0 l1 l2 l3 l4 l5 l6 : Value) (a : Nat) (S : List Value) (h : zH), rn 89 25 [l0, l1, l2, l3, l4, l5, l6] (.ref a :: S) h = zgf h a 1 1 fun v => rn 89 28 [l0, l1, l2, l3, l4, l5, l6] (v :: S) h) ∧
  (∀ (l0 l1 l2 l3 l4 l5 l6 : Value) (S : List Value) (h : zH), rn 89 28 [l0, l1, l2, l3, l4, l5, l6] S h = ldA l2 (rn 89 29 [l0, l1, l2, l3, l4, l5, l6] (l2 :: S) h)) ∧
  (∀ (l1 l2 l3 l4 l5 l6 : Value) (x : Nat) (S : List Value) (h : zH), rn 89 29 [.ref x, l1, l2, l3, l4, l5, l6] S h = rn 89 30 [.ref x, l1, l2, l3, l4, l5, l6] (.ref x :: S) h) ∧
  (∀ (l0 l1 l2 l3 l4 l5 l6 : Value) (a : Nat) (S : List Value) (h : zH), rn 89 30 [l0, l1, l2, l3, l4, l5, l6] (.ref a :: S) h = zgf h a 11 5 fun v => rn 89 33 [l0, l1, l2, l3, l4, l5, l6] (v :: S) h) ∧
  (∀ (l0 l1 l2 l3 l4 l5 l6 : Value) (a : Nat) (S : List Value) (h : zH), rn 89 33 [l0, l1, l2, l3, l4, l5, l6] (.ref a :: S) h = zgf h a 2 0 fun v => rn 89 36 [l0, l1, l2, l3, l4, l5, l6] (v :: S) h) ∧
  (∀ (l0 l1 l2 l3 l4 l5 l6 : Value) (o : Nat) (v0 : Value) (v1 : Value) (S : List Value) (h : zH), rn 89 36 [l0, l1, l2, l3, l4, l5, l6] (v1 :: v0 :: .ref o :: S) h = if zkd h o = 6 ∧ zsum S ≤ 8 then zcall (ev 60 [.ref o, v0, v1] h) (fun v h => rn 89 39 [l0, l1, l2, l3, l4, l5, l6] (zpush v S) h) else none) ∧
  (∀ (l0 l1 l2 l3 l4 l5 l6 : Value) (S : List Value) (h : zH), rn 89 39 [l0, l1, l2, l3, l4, l5, l6] S h = rn 89 40 [l0, l1, l2, l3, l4, l5, l6] (.long 0 :: S) h) ∧
  (∀ (l0 l1 l2 l3 l4 l5 l6 : Value) (x : Int64) (S : List Value) (h : zH), rn 89 40 [l0, l1, l2, l3, l4, l5, l6] (.long x :: S) h = nl l2 (rn 89 41 [l0, l1, l2, .long x, .float 0, l5, l6] S h)) ∧
  (∀ (l0 l1 l2 l3 l4 l5 l6 : Value) (S : List Value) (h : zH), rn 89 41 [l0, l1, l2, l3, l4, l5, l6] S h = rn 89 42 [l0, l1, l2, l3, l4, l5, l6] (.int (nI 0) :: S) h) ∧
  (∀ (l0 l1 l2 l3 l4 l5 l6 : Value) (x : Int32) (S : List Value) (h : zH), rn 89 42 [l0, l1, l2, l3, l4, l5, l6] (.int x :: S) h = nl l4 (rn 89 44 [l0, l1, l2, l3, l4, .int x, l6] S h)) ∧
  (∀ (l0 l1 l2 l3 l4 l5 l6 : Value) (S : List Value) (h : zH), rn 89 46 [l0, l1, l2, l3, l4, l5, l6] S h = rn 89 48 [l0, l1, l2, l3, l4, l5, l6] (.int (nI 12) :: S) h) ∧
  (∀ (l0 l1 l2 l3 l4 l5 l6 : Value) (x : Int32) (y : Int32) (S : List Value) (h : zH), rn 89 48 [l0, l1, l2, l3, l4, l5, l6] (.int y :: .int x :: S) h = if y ≤ x then rn 89 97 [l0, l1, l2, l3, l4, l5, l6] S h else rn 89 51 [l0, l1, l2, l3, l4, l5, l6] S h) ∧
  (∀ (l0 l1 l2 l3 l4 l6 : Value) (x : Int32) (S : List Value) (h : zH), rn 89 51 [l0, l1, l2, l3, l4, .int x, l6] S h = rn 89 53 [l0, l1, l2, l3, l4, .int x, l6] (.int x :: S) h) ∧
  (∀ (l1 l2 l3 l4 l5 l6 : Value) (x : Nat) (S : List Value) (h : zH), rn 89 53 [.ref x, l1, l2, l3, l4, l5, l6] S h = rn 89 54 [.ref x, l1, l2, l3, l4, l5, l6] (.ref x :: S) h) ∧
  (∀ (l0 l1 l2 l3 l4 l5 l6 : Value) (a : Nat) (S : List Value) (h : zH), rn 89 54 [l0, l1, l2, l3, l4, l5, l6] (.ref a :: S) h = zgf h a 11 0 fun v => rn 89 57 [l0, l1, l2, l3, l4, l5, l6] (v :: S) h) ∧
  (∀ (l0 l1 l2 l3 l4 l5 l6 : Value) (a : Nat) (S : List Value) (h : zH), rn 89 57 [l0, l1, l2, l3, l4, l5, l6] (.ref a :: S) h = zgf h a 1 2 fun v => rn 89 60 [l0, l1, l2, l3, l4, l5, l6] (v :: S) h) ∧
  (∀ (l0 l1 l2 l3 l4 l5 l6 : Value) (x : Int32) (y : Int32) (S : List Value) (h : zH), rn 89 60 [l0, l1, l2, l3, l4, l5, l6] (.int y :: .int x :: S) h = if y ≤ x then rn 89 97 [l0, l1, l2, l3, l4, l5, l6] S h else rn 89 63 [l0, l1, l2, l3, l4, l5, l6] S h) ∧
  (∀ (l0 l1 l2 l3 l4 l5 l6 : Value) (S : List Value) (h : zH), rn 89 63 [l0, l1, l2, l3, l4, l5, l6] S h = rn 89 65 [l0, l1, l2, l3, l4, l5, l6] (.int (nI 48) :: S) h) ∧
  (∀ (l0 l1 l2 l3 l4 l6 : Value) (x : Int32) (S : List Value) (h : zH), rn 89 65 [l0, l1, l2, l3, l4, .int x, l6] S h = rn 89 67 [l0, l1, l2, l3, l4, .int x, l6] (.int x :: S) h) ∧
  (∀ (l0 l1 l2 l3 l4 l5 l6 : Value) (x : Int32) (y : Int32) (S : List Value) (h : zH), rn 89 67 [l0, l1, l2, l3, l4, l5, l6] (.int y :: .int x :: S) h = rn 89 68 [l0, l1, l2, l3, l4, l5, l6] (.int (x + y) :: S) h) ∧
  (∀ (l0 l1 l2 l3 l4 l5 l6 : Value) (x : Int32) (S : List Value) (h : zH), rn 89 68 [l0, l1, l2, l3, l4, l5, l6] (.int x :: S) h = nl l5 (rn 89 70 [l0, l1, l2, l3, l4, l5, .int x] S h)) ∧
  (∀ (l0 l1 l2 l4 l5 l6 : Value) (x : Int64) (S : List Value) (h : zH), rn 89 70 [l0, l1, l2, .long x, l4, l5, l6] S h = rn 89 71 [l0, l1, l2, .long x, l4, l5, l6] (.long x :: S) h) ∧
  (∀ (l1 l2 l3 l4 l5 l6 : Value) (x : Nat) (S : List Value) (h : zH), rn 89 71 [.ref x, l1, l2, l3, l4, l5, l6] S h = rn 89 72 [.ref x, l1, l2, l3, l4, l5, l6] (.ref x :: S) h) ∧
  (∀ (l0 l1 l2 l3 l4 l5 l6 : Value) (a : Nat) (S : List Value) (h : zH), rn 89 72 [l0, l1, l2, l3, l4, l5, l6] (.ref a :: S) h = zgf h a 11 5 fun v => rn 89 75 [l0, l1, l2, l3, l4, l5, l6] (v :: S) h) ∧
  (∀ (l0 l1 l2 l3 l4 l5 l6 : Value) (a : Nat) (S : List Value) (h : zH), rn 89 75 [l0, l1, l2, l3, l4, l5, l6] (.ref a :: S) h = zgf h a 2 0 fun v => rn 89 78 [l0, l1, l2, l3, l4, l5, l6] (v :: S) h) ∧
  (∀ (l0 l1 l2 l3 l4 l5 : Value) (x : Int32) (S : List Value) (h : zH), rn 89 78 [l0, l1, l2, l3, l4, l5, .int x] S h = rn 89 80 [l0, l1, l2, l3, l4, l5, .int x] (.int x :: S) h) ∧
  (∀ (l0 l1 l2 l3 l4 l5 l6 : Value) (a : Nat) (j : Int32) (S : List Value) (h : zH), rn 89 80 [l0, l1, l2, l3, l4, l5, l6] (.int j :: .ref a :: S) h = zlj h a j fun x => rn 89 81 [l0, l1, l2, l3, l4, l5, l6] (.long x :: S) h) ∧
  (∀ (l0 l1 l2 l3 l4 l5 l6 : Value) (S : List Value) (h : zH), rn 89 81 [l0, l1, l2, l3, l4, l5, l6] S h = ldA l2 (rn 89 82 [l0, l1, l2, l3, l4, l5, l6] (l2 :: S) h)) ∧
  (∀ (l0 l1 l2 l3 l4 l5 l6 : Value) (a : Nat) (S : List Value) (h : zH), rn 89 82 [l0, l1, l2, l3, l4, l5, l6] (.ref a :: S) h = zgf h a 10 2 fun v => rn 89 85 [l0, l1, l2, l3, l4, l5, l6] (v :: S) h) ∧
  (∀ (l0 l1 l2 l3 l4 l5 : Value) (x : Int32) (S : List Value) (h : zH), rn 89 85 [l0, l1, l2, l3, l4, l5, .int x] S h = rn 89 87 [l0, l1, l2, l3, l4, l5, .int x] (.int x :: S) h) ∧
  (∀ (l0 l1 l2 l3 l4 l5 l6 : Value) (a : Nat) (j : Int32) (S : List Value) (h : zH), rn 89 87 [l0, l1, l2, l3, l4, l5, l6] (.int j :: .ref a :: S) h = zlj h a j fun x => rn 89 88 [l0, l1, l2, l3, l4, l5, l6] (.long x :: S) h) ∧
  (∀ (l0 l1 l2 l3 l4 l5 l6 : Value) (x : Int64) (y : Int64) (S : List Value) (h : zH), rn 89 88 [l0, l1, l2, l3, l4, l5, l6] (.long y :: .long x :: S) h = rn 89 89 [l0, l1, l2, l3, l4, l5, l6] (.long (x - y) :: S) h) ∧
  (∀ (l0 l1 l2 l3 l4 l5 l6 : Value) (x : Int64) (y : Int64) (S : List Value) (h : zH), rn 89 89 [l0, l1, l2, l3, l4, l5, l6] (.long y :: .long x :: S) h = rn 89 90 [l0, l1, l2, l3, l4, l5, l6] (.long (x + y) :: S) h) ∧
  (∀ (l0 l1 l2 l3 l4 l5 l6 : Value) (x : Int64) (S : List Value) (h : zH), rn 89 90 [l0, l1, l2, l3, l4, l5, l6] (.long x :: S) h = nl l2 (rn 89 91 [l0, l1, l2, .long x, .float 0, l5, l6] S h)) ∧
  (∀ (l0 l1 l2 l3 l4 l6 : Value) (x : Int32) (S : List Value) (h : zH), rn 89 91 [l0, l1, l2, l3, l4, .int x, l6] S h = nl l4 (rn 89 94 [l0, l1, l2, l3, l4, .int (x + (nI 1)), l6] S h)) ∧
  (∀ (l0 l1 l2 l3 l4 l5 l6 : Value) (S : List Value) (h : zH), rn 89 94 [l0, l1, l2, l3, l4, l5, l6] S h = rn 89 44 [l0, l1, l2, l3, l4, l5, l6] S h) ∧
  (∀ (l0 l1 l2 l4 l5 l6 : Value) (x : Int64) (S : List Value) (h : zH), rn 89 97 [l0, l1, l2, .long x, l4, l5, l6] S h = rn 89 98 [l0, l1, l2, .long x, l4, l5, l6] (.long x :: S) h) ∧
  (∀ (l0 l1 l2 l3 l4 l5 l6 : Value) (x : Int64) (h : zH), rn 89 98 [l0, l1, l2, l3, l4, l5, l6] [.long x] h = some (some (.long x), h)) := ⟨fun _ _ _ _ _ _ _ _ _ => r_iload_n (show zdec 89 0 = some (.iload_n 1, 1) by decide +kernel) rfl rfl,
  fun _ _ _ _ _ _ _ _ _ _ => r_cS [_] rfl (show zdec 89 1 = some (.invokestatic 116, 3) by decide +kernel) (show zst.lookup (89 * zKEY + 116) = some (0, 23, 1, 0) by decide +kernel) (by decide) rfl,
  fun _ _ _ _ _ _ _ _ _ _ => r_ifne (show zdec 89 4 = some (.ifCond .ne 7, 3) by decide +kernel) rfl rfl,
  fun _ _ _ _ _ _ _ _ _ => r_ldc2 (show zdec 89 7 = some (.ldc2_w 188, 3) by decide +kernel) (show zlt.lookup (89 * zKEY + 188) = some (-9223372036854775808) by decide +kernel) rfl,
  fun _ _ _ _ _ _ _ _ _ => r_lret (show zdec 89 10 = some (.lreturn, 1) by decide +kernel) (by decide +kernel),
  fun _ _ _ _ _ _ _ _ _ => r_aload_nr (show zdec 89 11 = some (.aload_n 0, 1) by decide +kernel) rfl rfl,
  fun _ _ _ _ _ _ _ _ _ _ => r_getfield (show zdec 89 12 = some (.getfield 10, 3) by decide +kernel) (show zft.lookup (89 * zKEY + 10) = some (11, 0) by decide +kernel) rfl,
  fun _ _ _ _ _ _ _ _ _ _ => r_getfield (show zdec 89 15 = some (.getfield 127, 3) by decide +kernel) (show zft.lookup (89 * zKEY + 127) = some (1, 0) by decide +kernel) rfl,
  fun _ _ _ _ _ _ _ _ _ => r_iload_n (show zdec 89 18 = some (.iload_n 1, 1) by decide +kernel) rfl rfl,
  fun _ _ _ _ _ _ _ _ _ _ _ => r_aald (show zdec 89 19 = some (.aaload, 1) by decide +kernel) rfl,
  fun _ _ _ _ _ _ _ _ _ _ => r_astore_n (show zdec 89 20 = some (.astore_n 2, 1) by decide +kernel) rfl rfl (Nat.le_of_ble_eq_true rfl) rfl rfl,
  fun _ _ _ _ _ _ _ _ _ => r_aload_nr (show zdec 89 21 = some (.aload_n 0, 1) by decide +kernel) rfl rfl,
  fun _ _ _ _ _ _ _ _ _ _ => r_getfield (show zdec 89 22 = some (.getfield 10, 3) by decide +kernel) (show zft.lookup (89 * zKEY + 10) = some (11, 0) by decide +kernel) rfl,
  fun _ _ _ _ _ _ _ _ _ _ => r_getfield (show zdec 89 25 = some (.getfield 140, 3) by decide +kernel) (show zft.lookup (89 * zKEY + 140) = some (1, 1) by decide +kernel) rfl,
  fun _ _ _ _ _ _ _ _ _ => r_aload_n (show zdec 89 28 = some (.aload_n 2, 1) by decide +kernel) rfl rfl,
  fun _ _ _ _ _ _ _ _ _ => r_aload_nr (show zdec 89 29 = some (.aload_n 0, 1) by decide +kernel) rfl rfl,
  fun _ _ _ _ _ _ _ _ _ _ => r_getfield (show zdec 89 30 = some (.getfield 40, 3) by decide +kernel) (show zft.lookup (89 * zKEY + 40) = some (11, 5) by decide +kernel) rfl,
  fun _ _ _ _ _ _ _ _ _ _ => r_getfield (show zdec 89 33 = some (.getfield 176, 3) by decide +kernel) (show zft.lookup (89 * zKEY + 176) = some (2, 0) by decide +kernel) rfl,
  fun _ _ _ _ _ _ _ _ _ _ _ _ => r_cV [_, _] rfl (show zdec 89 36 = some (.invokevirtual 179, 3) by decide +kernel) (show zst.lookup (89 * zKEY + 179) = some (1, 60, 2, 6) by decide +kernel) (by decide) rfl,
  fun _ _ _ _ _ _ _ _ _ => r_lconst (show zdec 89 39 = some (.lconst 0, 1) by decide +kernel) rfl rfl,
  fun _ _ _ _ _ _ _ _ _ _ => r_lstore_n (show zdec 89 40 = some (.lstore_n 3, 1) by decide +kernel) rfl rfl (Nat.le_of_ble_eq_true rfl) rfl rfl,
  fun _ _ _ _ _ _ _ _ _ => r_iconst (show zdec 89 41 = some (.iconst 0, 1) by decide +kernel) rfl rfl,
  fun _ _ _ _ _ _ _ _ _ _ => r_istore (show zdec 89 42 = some (.istore 5, 2) by decide +kernel) rfl (Nat.le_of_ble_eq_true rfl) rfl rfl,
  fun _ _ _ _ _ _ _ _ _ => r_bipush (show zdec 89 46 = some (.bipush 12, 2) by decide +kernel) rfl rfl,
  fun _ _ _ _ _ _ _ _ _ _ _ => r_icmpge (show zdec 89 48 = some (.if_icmp .ge 49, 3) by decide +kernel) rfl rfl,
  fun _ _ _ _ _ _ _ _ _ => r_iload (show zdec 89 51 = some (.iload 5, 2) by decide +kernel) rfl rfl,
  fun _ _ _ _ _ _ _ _ _ => r_aload_nr (show zdec 89 53 = some (.aload_n 0, 1) by decide +kernel) rfl rfl,
  fun _ _ _ _ _ _ _ _ _ _ => r_getfield (show zdec 89 54 = some (.getfield 10, 3) by decide +kernel) (show zft.lookup (89 * zKEY + 10) = some (11, 0) by decide +kernel) rfl,
  fun _ _ _ _ _ _ _ _ _ _ => r_getfield (show zdec 89 57 = some (.getfield 112, 3) by decide +kernel) (show zft.lookup (89 * zKEY + 112) = some (1, 2) by decide +kernel) rfl,
  fun _ _ _ _ _ _ _ _ _ _ _ => r_icmpge (show zdec 89 60 = some (.if_icmp .ge 37, 3) by decide +kernel) rfl rfl,
  fun _ _ _ _ _ _ _ _ _ => r_bipush (show zdec 89 63 = some (.bipush 48, 2) by decide +kernel) rfl rfl,
  fun _ _ _ _ _ _ _ _ _ => r_iload (show zdec 89 65 = some (.iload 5, 2) by decide +kernel) rfl rfl,
  fun _ _ _ _ _ _ _ _ _ _ _ => r_iadd (show zdec 89 67 = some (.iadd, 1) by decide +kernel) rfl,
  fun _ _ _ _ _ _ _ _ _ _ => r_istore (show zdec 89 68 = some (.istore 6, 2) by decide +kernel) rfl (Nat.le_of_ble_eq_true rfl) rfl rfl,
  fun _ _ _ _ _ _ _ _ _ => r_lload_n (show zdec 89 70 = some (.lload_n 3, 1) by decide +kernel) rfl rfl,
  fun _ _ _ _ _ _ _ _ _ => r_aload_nr (show zdec 89 71 = some (.aload_n 0, 1) by decide +kernel) rfl rfl,
  fun _ _ _ _ _ _ _ _ _ _ => r_getfield (show zdec 89 72 = some (.getfield 40, 3) by decide +kernel) (show zft.lookup (89 * zKEY + 40) = some (11, 5) by decide +kernel) rfl,
  fun _ _ _ _ _ _ _ _ _ _ => r_getfield (show zdec 89 75 = some (.getfield 176, 3) by decide +kernel) (show zft.lookup (89 * zKEY + 176) = some (2, 0) by decide +kernel) rfl,
  fun _ _ _ _ _ _ _ _ _ => r_iload (show zdec 89 78 = some (.iload 6, 2) by decide +kernel) rfl rfl,
  fun _ _ _ _ _ _ _ _ _ _ _ => r_lald (show zdec 89 80 = some (.laload, 1) by decide +kernel) rfl,
  fun _ _ _ _ _ _ _ _ _ => r_aload_n (show zdec 89 81 = some (.aload_n 2, 1) by decide +kernel) rfl rfl,
  fun _ _ _ _ _ _ _ _ _ _ => r_getfield (show zdec 89 82 = some (.getfield 185, 3) by decide +kernel) (show zft.lookup (89 * zKEY + 185) = some (10, 2) by decide +kernel) rfl,
  fun _ _ _ _ _ _ _ _ _ => r_iload (show zdec 89 85 = some (.iload 6, 2) by decide +kernel) rfl rfl,
  fun _ _ _ _ _ _ _ _ _ _ _ => r_lald (show zdec 89 87 = some (.laload, 1) by decide +kernel) rfl,
  fun _ _ _ _ _ _ _ _ _ _ _ => r_lsub (show zdec 89 88 = some (.lsub, 1) by decide +kernel) rfl,
  fun _ _ _ _ _ _ _ _ _ _ _ => r_ladd (show zdec 89 89 = some (.ladd, 1) by decide +kernel) rfl,
  fun _ _ _ _ _ _ _ _ _ _ => r_lstore_n (show zdec 89 90 = some (.lstore_n 3, 1) by decide +kernel) rfl rfl (Nat.le_of_ble_eq_true rfl) rfl rfl,
  fun _ _ _ _ _ _ _ _ _ => r_iinc (show zdec 89 91 = some (.iinc 5 1, 3) by decide +kernel) rfl rfl rfl (Nat.le_of_ble_eq_true rfl) rfl rfl,
  fun _ _ _ _ _ _ _ _ _ => r_goto (show zdec 89 94 = some (.goto (-50), 3) by decide +kernel) rfl,
  fun _ _ _ _ _ _ _ _ _ => r_lload_n (show zdec 89 97 = some (.lload_n 3, 1) by decide +kernel) rfl rfl,
  fun _ _ _ _ _ _ _ _ _ => r_lret (show zdec 89 98 = some (.lreturn, 1) by decide +kernel) (by decide +kernel)⟩
theorem zl_89_44 : ∀ (l0 l1 l2 l3 l4 l6 : Value) (x : Int32) (S : List Value) (h : zH), rn 89 44 [l0, l1, l2, l3, l4, .int x, l6] S h = rn 89 46 [l0, l1, l2, l3, l4, .int x, l6] (.int x :: S) h := fun _ _ _ _ _ _ _ _ _ => r_iload (show zdec 89 44 = some (.iload 5, 2) by decide +kernel) rfl rfl
theorem ze_89 : ∀ (a0 : Nat) (a1 : Int32) (h : zH), ev 89 [.ref a0, .int a1] h = rn 89 0 [.ref a0, .int a1, .float 0, .float 0, .float 0, .float 0, .float 0] [] h := fun _ _ _ => if_pos (Nat.le_of_ble_eq_true rfl)
-- PayrollRun.owed(I)J
theorem zr_90 : (∀ (l0 : Value) (x : Int32) (S : List Value) (h : zH), rn 90 0 [l0, .int x] S h = rn 90 1 [l0, .int x] (.int x :: S) h) ∧
  (∀ (l0 l1 : Value) (v0 : Value) (S : List Value) (h : zH), rn 90 1 [l0, l1] (v0 :: S) h = if zsum S ≤ 8 then zcall (ev 23 [v0] h) (fun v h => rn 90 4 [l0, l1] (zpush v S) h) else none) ∧
  (∀ (l0 l1 : Value) (x : Int32) (S : List Value) (h : zH), rn 90 4 [l0, l1] (.int x :: S) h = if x = nI 0 then rn 90 22 [l0, l1] S h else rn 90 7 [l0, l1] S h) ∧
  (∀ (l1 : Value) (x : Nat) (S : List Value) (h : zH), rn 90 7 [.ref x, l1] S h = rn 90 8 [.ref x, l1] (.ref x :: S) h) ∧
  (∀ (l0 l1 : Value) (a : Nat) (S : List Value) (h : zH), rn 90 8 [l0, l1] (.ref a :: S) h = zgf h a 11 0 fun v => rn 90 11 [l0, l1] (v :: S) h) ∧
  (∀ (l0 l1 : Value) (a : Nat) (S : List Value) (h : zH), rn 90 11 [l0, l1] (.ref a :: S) h = zgf h a 1 0 fun v => rn 90 14 [l0, l1] (v :: S) h) ∧
  (∀ (l0 : Value) (x : Int32) (S : List Value) (h : zH), rn 90 14 [l0, .int x] S h = rn 90 15 [l0, .int x] (.int x :: S) h) ∧
  (∀ (l0 l1 : Value) (a : Nat) (j : Int32) (S : List Value) (h : zH), rn 90 15 [l0, l1] (.int j :: .ref a :: S) h = zlq h a j fun x => rn 90 16 [l0, l1] (va_rf x :: S) h) ∧
  (∀ (l0 l1 : Value) (a : Nat) (S : List Value) (h : zH), rn 90 16 [l0, l1] (.ref a :: S) h = zgf h a 10 6 fun v => rn 90 19 [l0, l1] (v :: S) h) ∧
  (∀ (l0 l1 : Value) (S : List Value) (h : zH), rn 90 19 [l0, l1] S h = rn 90 25 [l0, l1] S h) ∧
  (∀ (l0 l1 : Value) (S : List Value) (h : zH), rn 90 22 [l0, l1] S h = rn 90 25 [l0, l1] (.long (-1) :: S) h) ∧
  (∀ (l0 l1 : Value) (x : Int64) (h : zH), rn 90 25 [l0, l1] [.long x] h = some (some (.long x), h)) := ⟨fun _ _ _ _ => r_iload_n (show zdec 90 0 = some (.iload_n 1, 1) by decide +kernel) rfl rfl,
  fun _ _ _ _ _ => r_cS [_] rfl (show zdec 90 1 = some (.invokestatic 116, 3) by decide +kernel) (show zst.lookup (90 * zKEY + 116) = some (0, 23, 1, 0) by decide +kernel) (by decide) rfl,
  fun _ _ _ _ _ => r_ifeq (show zdec 90 4 = some (.ifCond .eq 18, 3) by decide +kernel) rfl rfl,
  fun _ _ _ _ => r_aload_nr (show zdec 90 7 = some (.aload_n 0, 1) by decide +kernel) rfl rfl,
  fun _ _ _ _ _ => r_getfield (show zdec 90 8 = some (.getfield 10, 3) by decide +kernel) (show zft.lookup (90 * zKEY + 10) = some (11, 0) by decide +kernel) rfl,
  fun _ _ _ _ _ => r_getfield (show zdec 90 11 = some (.getfield 127, 3) by decide +kernel) (show zft.lookup (90 * zKEY + 127) = some (1, 0) by decide +kernel) rfl,
  fun _ _ _ _ => r_iload_n (show zdec 90 14 = some (.iload_n 1, 1) by decide +kernel) rfl rfl,
  fun _ _ _ _ _ _ => r_aald (show zdec 90 15 = some (.aaload, 1) by decide +kernel) rfl,
  fun _ _ _ _ _ => r_getfield (show zdec 90 16 = some (.getfield 190, 3) by decide +kernel) (show zft.lookup (90 * zKEY + 190) = some (10, 6) by decide +kernel) rfl,
  fun _ _ _ _ => r_goto (show zdec 90 19 = some (.goto 6, 3) by decide +kernel) rfl,
  fun _ _ _ _ => r_ldc2 (show zdec 90 22 = some (.ldc2_w 170, 3) by decide +kernel) (show zlt.lookup (90 * zKEY + 170) = some (-1) by decide +kernel) rfl,
  fun _ _ _ _ => r_lret (show zdec 90 25 = some (.lreturn, 1) by decide +kernel) (by decide +kernel)⟩
theorem ze_90 : ∀ (a0 : Nat) (a1 : Int32) (h : zH), ev 90 [.ref a0, .int a1] h = rn 90 0 [.ref a0, .int a1] [] h := fun _ _ _ => if_pos (Nat.le_of_ble_eq_true rfl)
-- PayrollRun.lineCount(II)I
theorem zr_91 : (∀ (l0 l2 l3 : Value) (x : Int32) (S : List Value) (h : zH), rn 91 0 [l0, .int x, l2, l3] S h = rn 91 1 [l0, .int x, l2, l3] (.int x :: S) h) ∧
  (∀ (l0 l1 l2 l3 : Value) (v0 : Value) (S : List Value) (h : zH), rn 91 1 [l0, l1, l2, l3] (v0 :: S) h = if zsum S ≤ 8 then zcall (ev 23 [v0] h) (fun v h => rn 91 4 [l0, l1, l2, l3] (zpush v S) h) else none) ∧
  (∀ (l0 l1 l2 l3 : Value) (x : Int32) (S : List Value) (h : zH), rn 91 4 [l0, l1, l2, l3] (.int x :: S) h = if x = nI 0 then rn 91 14 [l0, l1, l2, l3] S h else rn 91 7 [l0, l1, l2, l3] S h) ∧
  (∀ (l0 l1 l3 : Value) (x : Int32) (S : List Value) (h : zH), rn 91 7 [l0, l1, .int x, l3] S h = rn 91 8 [l0, l1, .int x, l3] (.int x :: S) h) ∧
  (∀ (l0 l1 l2 l3 : Value) (v0 : Value) (S : List Value) (h : zH), rn 91 8 [l0, l1, l2, l3] (v0 :: S) h = if zsum S ≤ 8 then zcall (ev 25 [v0] h) (fun v h => rn 91 11 [l0, l1, l2, l3] (zpush v S) h) else none) ∧
  (∀ (l0 l1 l2 l3 : Value) (x : Int32) (S : List Value) (h : zH), rn 91 11 [l0, l1, l2, l3] (.int x :: S) h = if x = nI 0 then rn 91 14 [l0, l1, l2, l3] S h else rn 91 16 [l0, l1, l2, l3] S h) ∧
  (∀ (l0 l1 l2 l3 : Value) (S : List Value) (h : zH), rn 91 14 [l0, l1, l2, l3] S h = rn 91 15 [l0, l1, l2, l3] (.int (-1) :: S) h) ∧
  (∀ (l0 l1 l2 l3 : Value) (x : Int32) (h : zH), rn 91 15 [l0, l1, l2, l3] [.int x] h = some (some (.int x), h)) ∧
  (∀ (l1 l2 l3 : Value) (x : Nat) (S : List Value) (h : zH), rn 91 16 [.ref x, l1, l2, l3] S h = rn 91 17 [.ref x, l1, l2, l3] (.ref x :: S) h) ∧
  (∀ (l0 l1 l2 l3 : Value) (a : Nat) (S : List Value) (h : zH), rn 91 17 [l0, l1, l2, l3] (.ref a :: S) h = zgf h a 11 0 fun v => rn 91 20 [l0, l1, l2, l3] (v :: S) h) ∧
  (∀ (l0 l1 l2 l3 : Value) (a : Nat) (S : List Value) (h : zH), rn 91 20 [l0, l1, l2, l3] (.ref a :: S) h = zgf h a 1 0 fun v => rn 91 23 [l0, l1, l2, l3] (v :: S) h) ∧
  (∀ (l0 l2 l3 : Value) (x : Int32) (S : List Value) (h : zH), rn 91 23 [l0, .int x, l2, l3] S h = rn 91 24 [l0, .int x, l2, l3] (.int x :: S) h) ∧
  (∀ (l0 l1 l2 l3 : Value) (a : Nat) (j : Int32) (S : List Value) (h : zH), rn 91 24 [l0, l1, l2, l3] (.int j :: .ref a :: S) h = zlq h a j fun x => rn 91 25 [l0, l1, l2, l3] (va_rf x :: S) h) ∧
  (∀ (l0 l1 l2 l3 : Value) (a : Nat) (S : List Value) (h : zH), rn 91 25 [l0, l1, l2, l3] (.ref a :: S) h = zgf h a 10 3 fun v => rn 91 28 [l0, l1, l2, l3] (v :: S) h) ∧
  (∀ (l0 l1 l3 : Value) (x : Int32) (S : List Value) (h : zH), rn 91 28 [l0, l1, .int x, l3] S h = rn 91 29 [l0, l1, .int x, l3] (.int x :: S) h) ∧
  (∀ (l0 l1 l2 l3 : Value) (a : Nat) (j : Int32) (S : List Value) (h : zH), rn 91 29 [l0, l1, l2, l3] (.int j :: .ref a :: S) h = zlq h a j fun x => rn 91 30 [l0, l1, l2, l3] (va_rf x :: S) h) ∧
  (∀ (l0 l1 l2 l3 : Value) (v : Value) (S : List Value) (h : zH), rn 91 30 [l0, l1, l2, l3] (v :: S) h = ldA v (nl l2 (rn 91 31 [l0, l1, l2, v] S h))) ∧
  (∀ (l0 l1 l2 l3 : Value) (S : List Value) (h : zH), rn 91 31 [l0, l1, l2, l3] S h = ldA l3 (rn 91 32 [l0, l1, l2, l3] (l3 :: S) h)) ∧
  (∀ (l0 l1 l2 l3 : Value) (v : Value) (S : List Value) (h : zH), rn 91 32 [l0, l1, l2, l3] (v :: S) h = ifN v (rn 91 35 [l0, l1, l2, l3] S h) (rn 91 40 [l0, l1, l2, l3] S h)) ∧
  (∀ (l0 l1 l2 l3 : Value) (S : List Value) (h : zH), rn 91 35 [l0, l1, l2, l3] S h = rn 91 37 [l0, l1, l2, l3] (.int (-2) :: S) h) ∧
  (∀ (l0 l1 l2 l3 : Value) (S : List Value) (h : zH), rn 91 37 [l0, l1, l2, l3] S h = rn 91 44 [l0, l1, l2, l3] S h) ∧
  (∀ (l0 l1 l2 l3 : Value) (S : List Value) (h : zH), rn 91 40 [l0, l1, l2, l3] S h = ldA l3 (rn 91 41 [l0, l1, l2, l3] (l3 :: S) h)) ∧
  (∀ (l0 l1 l2 l3 : Value) (a : Nat) (S : List Value) (h : zH), rn 91 41 [l0, l1, l2, l3] (.ref a :: S) h = zgf h a 7 2 fun v => rn 91 44 [l0, l1, l2, l3] (v :: S) h) ∧
  (∀ (l0 l1 l2 l3 : Value) (x : Int32) (h : zH), rn 91 44 [l0, l1, l2, l3] [.int x] h = some (some (.int x), h)) := ⟨fun _ _ _ _ _ _ => r_iload_n (show zdec 91 0 = some (.iload_n 1, 1) by decide +kernel) rfl rfl,
  fun _ _ _ _ _ _ _ => r_cS [_] rfl (show zdec 91 1 = some (.invokestatic 116, 3) by decide +kernel) (show zst.lookup (91 * zKEY + 116) = some (0, 23, 1, 0) by decide +kernel) (by decide) rfl,
  fun _ _ _ _ _ _ _ => r_ifeq (show zdec 91 4 = some (.ifCond .eq 10, 3) by decide +kernel) rfl rfl,
  fun _ _ _ _ _ _ => r_iload_n (show zdec 91 7 = some (.iload_n 2, 1) by decide +kernel) rfl rfl,
  fun _ _ _ _ _ _ _ => r_cS [_] rfl (show zdec 91 8 = some (.invokestatic 120, 3) by decide +kernel) (show zst.lookup (91 * zKEY + 120) = some (0, 25, 1, 0) by decide +kernel) (by decide) rfl,
  fun _ _ _ _ _ _ _ => r_ifne (show zdec 91 11 = some (.ifCond .ne 5, 3) by decide +kernel) rfl rfl,
  fun _ _ _ _ _ _ => r_iconst (show zdec 91 14 = some (.iconst (-1), 1) by decide +kernel) rfl rfl,
  fun _ _ _ _ _ _ => r_ireti (show zdec 91 15 = some (.ireturn, 1) by decide +kernel) (by decide +kernel),
  fun _ _ _ _ _ _ => r_aload_nr (show zdec 91 16 = some (.aload_n 0, 1) by decide +kernel) rfl rfl,
  fun _ _ _ _ _ _ _ => r_getfield (show zdec 91 17 = some (.getfield 10, 3) by decide +kernel) (show zft.lookup (91 * zKEY + 10) = some (11, 0) by decide +kernel) rfl,
  fun _ _ _ _ _ _ _ => r_getfield (show zdec 91 20 = some (.getfield 127, 3) by decide +kernel) (show zft.lookup (91 * zKEY + 127) = some (1, 0) by decide +kernel) rfl,
  fun _ _ _ _ _ _ => r_iload_n (show zdec 91 23 = some (.iload_n 1, 1) by decide +kernel) rfl rfl,
  fun _ _ _ _ _ _ _ _ => r_aald (show zdec 91 24 = some (.aaload, 1) by decide +kernel) rfl,
  fun _ _ _ _ _ _ _ => r_getfield (show zdec 91 25 = some (.getfield 194, 3) by decide +kernel) (show zft.lookup (91 * zKEY + 194) = some (10, 3) by decide +kernel) rfl,
  fun _ _ _ _ _ _ => r_iload_n (show zdec 91 28 = some (.iload_n 2, 1) by decide +kernel) rfl rfl,
  fun _ _ _ _ _ _ _ _ => r_aald (show zdec 91 29 = some (.aaload, 1) by decide +kernel) rfl,
  fun _ _ _ _ _ _ _ => r_astore_n (show zdec 91 30 = some (.astore_n 3, 1) by decide +kernel) rfl rfl (Nat.le_of_ble_eq_true rfl) rfl rfl,
  fun _ _ _ _ _ _ => r_aload_n (show zdec 91 31 = some (.aload_n 3, 1) by decide +kernel) rfl rfl,
  fun _ _ _ _ _ _ _ => r_ifnonnull (show zdec 91 32 = some (.ifnonnull 8, 3) by decide +kernel) rfl rfl,
  fun _ _ _ _ _ _ => r_bipush (show zdec 91 35 = some (.bipush (-2), 2) by decide +kernel) rfl rfl,
  fun _ _ _ _ _ _ => r_goto (show zdec 91 37 = some (.goto 7, 3) by decide +kernel) rfl,
  fun _ _ _ _ _ _ => r_aload_n (show zdec 91 40 = some (.aload_n 3, 1) by decide +kernel) rfl rfl,
  fun _ _ _ _ _ _ _ => r_getfield (show zdec 91 41 = some (.getfield 198, 3) by decide +kernel) (show zft.lookup (91 * zKEY + 198) = some (7, 2) by decide +kernel) rfl,
  fun _ _ _ _ _ _ => r_ireti (show zdec 91 44 = some (.ireturn, 1) by decide +kernel) (by decide +kernel)⟩
theorem ze_91 : ∀ (a0 : Nat) (a1 : Int32) (a2 : Int32) (h : zH), ev 91 [.ref a0, .int a1, .int a2] h = rn 91 0 [.ref a0, .int a1, .int a2, .float 0] [] h := fun _ _ _ _ => if_pos (Nat.le_of_ble_eq_true rfl)
-- PayrollRun.line(IIII)I
theorem zr_92 : (∀ (l0 l2 l3 l4 l5 : Value) (x : Int32) (S : List Value) (h : zH), rn 92 0 [l0, .int x, l2, l3, l4, l5] S h = rn 92 1 [l0, .int x, l2, l3, l4, l5] (.int x :: S) h) ∧
  (∀ (l0 l1 l2 l3 l4 l5 : Value) (v0 : Value) (S : List Value) (h : zH), rn 92 1 [l0, l1, l2, l3, l4, l5] (v0 :: S) h = if zsum S ≤ 8 then zcall (ev 23 [v0] h) (fun v h => rn 92 4 [l0, l1, l2, l3, l4, l5] (zpush v S) h) else none) ∧
  (∀ (l0 l1 l2 l3 l4 l5 : Value) (x : Int32) (S : List Value) (h : zH), rn 92 4 [l0, l1, l2, l3, l4, l5] (.int x :: S) h = if x = nI 0 then rn 92 24 [l0, l1, l2, l3, l4, l5] S h else rn 92 7 [l0, l1, l2, l3, l4, l5] S h) ∧
  (∀ (l0 l1 l3 l4 l5 : Value) (x : Int32) (S : List Value) (h : zH), rn 92 7 [l0, l1, .int x, l3, l4, l5] S h = rn 92 8 [l0, l1, .int x, l3, l4, l5] (.int x :: S) h) ∧
  (∀ (l0 l1 l2 l3 l4 l5 : Value) (v0 : Value) (S : List Value) (h : zH), rn 92 8 [l0, l1, l2, l3, l4, l5] (v0 :: S) h = if zsum S ≤ 8 then zcall (ev 25 [v0] h) (fun v h => rn 92 11 [l0, l1, l2, l3, l4, l5] (zpush v S) h) else none) ∧
  (∀ (l0 l1 l2 l3 l4 l5 : Value) (x : Int32) (S : List Value) (h : zH), rn 92 11 [l0, l1, l2, l3, l4, l5] (.int x :: S) h = if x = nI 0 then rn 92 24 [l0, l1, l2, l3, l4, l5] S h else rn 92 14 [l0, l1, l2, l3, l4, l5] S h) ∧
  (∀ (l0 l1 l2 l3 l5 : Value) (x : Int32) (S : List Value) (h : zH), rn 92 14 [l0, l1, l2, l3, .int x, l5] S h = rn 92 16 [l0, l1, l2, l3, .int x, l5] (.int x :: S) h) ∧
  (∀ (l0 l1 l2 l3 l4 l5 : Value) (S : List Value) (h : zH), rn 92 16 [l0, l1, l2, l3, l4, l5] S h = rn 92 17 [l0, l1, l2, l3, l4, l5] (.int (nI 0) :: S) h) ∧
  (∀ (l0 l1 l2 l3 l4 l5 : Value) (S : List Value) (h : zH), rn 92 17 [l0, l1, l2, l3, l4, l5] S h = rn 92 18 [l0, l1, l2, l3, l4, l5] (.int (nI 2) :: S) h) ∧
  (∀ (l0 l1 l2 l3 l4 l5 : Value) (v0 : Value) (v1 : Value) (v2 : Value) (S : List Value) (h : zH), rn 92 18 [l0, l1, l2, l3, l4, l5] (v2 :: v1 :: v0 :: S) h = if zsum S ≤ 8 then zcall (ev 24 [v0, v1, v2] h) (fun v h => rn 92 21 [l0, l1, l2, l3, l4, l5] (zpush v S) h) else none) ∧
  (∀ (l0 l1 l2 l3 l4 l5 : Value) (x : Int32) (S : List Value) (h : zH), rn 92 21 [l0, l1, l2, l3, l4, l5] (.int x :: S) h = if x = nI 0 then rn 92 24 [l0, l1, l2, l3, l4, l5] S h else rn 92 26 [l0, l1, l2, l3, l4, l5] S h) ∧
  (∀ (l0 l1 l2 l3 l4 l5 : Value) (S : List Value) (h : zH), rn 92 24 [l0, l1, l2, l3, l4, l5] S h = rn 92 25 [l0, l1, l2, l3, l4, l5] (.int (-1) :: S) h) ∧
  (∀ (l0 l1 l2 l3 l4 l5 : Value) (x : Int32) (h : zH), rn 92 25 [l0, l1, l2, l3, l4, l5] [.int x] h = some (some (.int x), h)) ∧
  (∀ (l1 l2 l3 l4 l5 : Value) (x : Nat) (S : List Value) (h : zH), rn 92 26 [.ref x, l1, l2, l3, l4, l5] S h = rn 92 27 [.ref x, l1, l2, l3, l4, l5] (.ref x :: S) h) ∧
  (∀ (l0 l1 l2 l3 l4 l5 : Value) (a : Nat) (S : List Value) (h : zH), rn 92 27 [l0, l1, l2, l3, l4, l5] (.ref a :: S) h = zgf h a 11 0 fun v => rn 92 30 [l0, l1, l2, l3, l4, l5] (v :: S) h) ∧
  (∀ (l0 l1 l2 l3 l4 l5 : Value) (a : Nat) (S : List Value) (h : zH), rn 92 30 [l0, l1, l2, l3, l4, l5] (.ref a :: S) h = zgf h a 1 0 fun v => rn 92 33 [l0, l1, l2, l3, l4, l5] (v :: S) h) ∧
  (∀ (l0 l2 l3 l4 l5 : Value) (x : Int32) (S : List Value) (h : zH), rn 92 33 [l0, .int x, l2, l3, l4, l5] S h = rn 92 34 [l0, .int x, l2, l3, l4, l5] (.int x :: S) h) ∧
  (∀ (l0 l1 l2 l3 l4 l5 : Value) (a : Nat) (j : Int32) (S : List Value) (h : zH), rn 92 34 [l0, l1, l2, l3, l4, l5] (.int j :: .ref a :: S) h = zlq h a j fun x => rn 92 35 [l0, l1, l2, l3, l4, l5] (va_rf x :: S) h) ∧
  (∀ (l0 l1 l2 l3 l4 l5 : Value) (a : Nat) (S : List Value) (h : zH), rn 92 35 [l0, l1, l2, l3, l4, l5] (.ref a :: S) h = zgf h a 10 3 fun v => rn 92 38 [l0, l1, l2, l3, l4, l5] (v :: S) h) ∧
  (∀ (l0 l1 l3 l4 l5 : Value) (x : Int32) (S : List Value) (h : zH), rn 92 38 [l0, l1, .int x, l3, l4, l5] S h = rn 92 39 [l0, l1, .int x, l3, l4, l5] (.int x :: S) h) ∧
  (∀ (l0 l1 l2 l3 l4 l5 : Value) (a : Nat) (j : Int32) (S : List Value) (h : zH), rn 92 39 [l0, l1, l2, l3, l4, l5] (.int j :: .ref a :: S) h = zlq h a j fun x => rn 92 40 [l0, l1, l2, l3, l4, l5] (va_rf x :: S) h) ∧
  (∀ (l0 l1 l2 l3 l4 l5 : Value) (v : Value) (S : List Value) (h : zH), rn 92 40 [l0, l1, l2, l3, l4, l5] (v :: S) h = ldA v (nl l4 (rn 92 42 [l0, l1, l2, l3, l4, v] S h))) ∧
  (∀ (l0 l1 l2 l3 l4 l5 : Value) (S : List Value) (h : zH), rn 92 42 [l0, l1, l2, l3, l4, l5] S h = ldA l5 (rn 92 44 [l0, l1, l2, l3, l4, l5] (l5 :: S) h)) ∧
  (∀ (l0 l1 l2 l3 l4 l5 : Value) (v : Value) (S : List Value) (h : zH), rn 92 44 [l0, l1, l2, l3, l4, l5] (v :: S) h = ifN v (rn 92 56 [l0, l1, l2, l3, l4, l5] S h) (rn 92 47 [l0, l1, l2, l3, l4, l5] S h)) ∧
  (∀ (l0 l1 l2 l3 l4 l5 : Value) (S : List Value) (h : zH), rn 92 47 [l0, l1, l2, l3, l4, l5] S h = ldA l5 (rn 92 49 [l0, l1, l2, l3, l4, l5] (l5 :: S) h)) ∧
  (∀ (l0 l1 l2 l4 l5 : Value) (x : Int32) (S : List Value) (h : zH), rn 92 49 [l0, l1, l2, .int x, l4, l5] S h = rn 92 50 [l0, l1, l2, .int x, l4, l5] (.int x :: S) h) ∧
  (∀ (l0 l1 l2 l3 l4 l5 : Value) (o : Nat) (v0 : Value) (S : List Value) (h : zH), rn 92 50 [l0, l1, l2, l3, l4, l5] (v0 :: .ref o :: S) h = if zkd h o = 7 ∧ zsum S ≤ 8 then zcall (ev 93 [.ref o, v0] h) (fun v h => rn 92 53 [l0, l1, l2, l3, l4, l5] (zpush v S) h) else none) ∧
  (∀ (l0 l1 l2 l3 l4 l5 : Value) (x : Int32) (S : List Value) (h : zH), rn 92 53 [l0, l1, l2, l3, l4, l5] (.int x :: S) h = if x = nI 0 then rn 92 56 [l0, l1, l2, l3, l4, l5] S h else rn 92 59 [l0, l1, l2, l3, l4, l5] S h) ∧
  (∀ (l0 l1 l2 l3 l4 l5 : Value) (S : List Value) (h : zH), rn 92 56 [l0, l1, l2, l3, l4, l5] S h = rn 92 58 [l0, l1, l2, l3, l4, l5] (.int (-2) :: S) h) ∧
  (∀ (l0 l1 l2 l3 l4 l5 : Value) (x : Int32) (h : zH), rn 92 58 [l0, l1, l2, l3, l4, l5] [.int x] h = some (some (.int x), h)) ∧
  (∀ (l0 l1 l2 l3 l4 l5 : Value) (S : List Value) (h : zH), rn 92 59 [l0, l1, l2, l3, l4, l5] S h = ldA l5 (rn 92 61 [l0, l1, l2, l3, l4, l5] (l5 :: S) h)) ∧
  (∀ (l0 l1 l2 l3 l4 l5 : Value) (a : Nat) (S : List Value) (h : zH), rn 92 61 [l0, l1, l2, l3, l4, l5] (.ref a :: S) h = zgf h a 7 0 fun v => rn 92 64 [l0, l1, l2, l3, l4, l5] (v :: S) h) ∧
  (∀ (l0 l1 l2 l3 l5 : Value) (x : Int32) (S : List Value) (h : zH), rn 92 64 [l0, l1, l2, l3, .int x, l5] S h = rn 92 66 [l0, l1, l2, l3, .int x, l5] (.int x :: S) h) ∧
  (∀ (l0 l1 l2 l3 l4 l5 : Value) (S : List Value) (h : zH), rn 92 66 [l0, l1, l2, l3, l4, l5] S h = rn 92 68 [l0, l1, l2, l3, l4, l5] (.int (nI 54) :: S) h) ∧
  (∀ (l0 l1 l2 l3 l4 l5 : Value) (x : Int32) (y : Int32) (S : List Value) (h : zH), rn 92 68 [l0, l1, l2, l3, l4, l5] (.int y :: .int x :: S) h = rn 92 69 [l0, l1, l2, l3, l4, l5] (.int (x * y) :: S) h) ∧
  (∀ (l0 l1 l2 l4 l5 : Value) (x : Int32) (S : List Value) (h : zH), rn 92 69 [l0, l1, l2, .int x, l4, l5] S h = rn 92 70 [l0, l1, l2, .int x, l4, l5] (.int x :: S) h) ∧
  (∀ (l0 l1 l2 l3 l4 l5 : Value) (x : Int32) (y : Int32) (S : List Value) (h : zH), rn 92 70 [l0, l1, l2, l3, l4, l5] (.int y :: .int x :: S) h = rn 92 71 [l0, l1, l2, l3, l4, l5] (.int (x + y) :: S) h) ∧
  (∀ (l0 l1 l2 l3 l4 l5 : Value) (a : Nat) (j : Int32) (S : List Value) (h : zH), rn 92 71 [l0, l1, l2, l3, l4, l5] (.int j :: .ref a :: S) h = zli h a 0 j fun x => rn 92 72 [l0, l1, l2, l3, l4, l5] (.int x :: S) h) ∧
  (∀ (l0 l1 l2 l3 l4 l5 : Value) (x : Int32) (h : zH), rn 92 72 [l0, l1, l2, l3, l4, l5] [.int x] h = some (some (.int x), h)) := ⟨fun _ _ _ _ _ _ _ _ => r_iload_n (show zdec 92 0 = some (.iload_n 1, 1) by decide +kernel) rfl rfl,
  fun _ _ _ _ _ _ _ _ _ => r_cS [_] rfl (show zdec 92 1 = some (.invokestatic 116, 3) by decide +kernel) (show zst.lookup (92 * zKEY + 116) = some (0, 23, 1, 0) by decide +kernel) (by decide) rfl,
  fun _ _ _ _ _ _ _ _ _ => r_ifeq (show zdec 92 4 = some (.ifCond .eq 20, 3) by decide +kernel) rfl rfl,
  fun _ _ _ _ _ _ _ _ => r_iload_n (show zdec 92 7 = some (.iload_n 2, 1) by decide +kernel) rfl rfl,
  fun _ _ _ _ _ _ _ _ _ => r_cS [_] rfl (show zdec 92 8 = some (.invokestatic 120, 3) by decide +kernel) (show zst.lookup (92 * zKEY + 120) = some (0, 25, 1, 0) by decide +kernel) (by decide) rfl,
  fun _ _ _ _ _ _ _ _ _ => r_ifeq (show zdec 92 11 = some (.ifCond .eq 13, 3) by decide +kernel) rfl rfl,
  fun _ _ _ _ _ _ _ _ => r_iload (show zdec 92 14 = some (.iload 4, 2) by decide +kernel) rfl rfl,
  fun _ _ _ _ _ _ _ _ => r_iconst (show zdec 92 16 = some (.iconst 0, 1) by decide +kernel) rfl rfl,
  fun _ _ _ _ _ _ _ _ => r_iconst (show zdec 92 17 = some (.iconst 2, 1) by decide +kernel) rfl rfl,
  fun _ _ _ _ _ _ _ _ _ _ _ => r_cS [_, _, _] rfl (show zdec 92 18 = some (.invokestatic 123, 3) by decide +kernel) (show zst.lookup (92 * zKEY + 123) = some (0, 24, 3, 0) by decide +kernel) (by decide) rfl,
  fun _ _ _ _ _ _ _ _ _ => r_ifne (show zdec 92 21 = some (.ifCond .ne 5, 3) by decide +kernel) rfl rfl,
  fun _ _ _ _ _ _ _ _ => r_iconst (show zdec 92 24 = some (.iconst (-1), 1) by decide +kernel) rfl rfl,
  fun _ _ _ _ _ _ _ _ => r_ireti (show zdec 92 25 = some (.ireturn, 1) by decide +kernel) (by decide +kernel),
  fun _ _ _ _ _ _ _ _ => r_aload_nr (show zdec 92 26 = some (.aload_n 0, 1) by decide +kernel) rfl rfl,
  fun _ _ _ _ _ _ _ _ _ => r_getfield (show zdec 92 27 = some (.getfield 10, 3) by decide +kernel) (show zft.lookup (92 * zKEY + 10) = some (11, 0) by decide +kernel) rfl,
  fun _ _ _ _ _ _ _ _ _ => r_getfield (show zdec 92 30 = some (.getfield 127, 3) by decide +kernel) (show zft.lookup (92 * zKEY + 127) = some (1, 0) by decide +kernel) rfl,
  fun _ _ _ _ _ _ _ _ => r_iload_n (show zdec 92 33 = some (.iload_n 1, 1) by decide +kernel) rfl rfl,
  fun _ _ _ _ _ _ _ _ _ _ => r_aald (show zdec 92 34 = some (.aaload, 1) by decide +kernel) rfl,
  fun _ _ _ _ _ _ _ _ _ => r_getfield (show zdec 92 35 = some (.getfield 194, 3) by decide +kernel) (show zft.lookup (92 * zKEY + 194) = some (10, 3) by decide +kernel) rfl,
  fun _ _ _ _ _ _ _ _ => r_iload_n (show zdec 92 38 = some (.iload_n 2, 1) by decide +kernel) rfl rfl,
  fun _ _ _ _ _ _ _ _ _ _ => r_aald (show zdec 92 39 = some (.aaload, 1) by decide +kernel) rfl,
  fun _ _ _ _ _ _ _ _ _ => r_astore (show zdec 92 40 = some (.astore 5, 2) by decide +kernel) rfl (Nat.le_of_ble_eq_true rfl) rfl rfl,
  fun _ _ _ _ _ _ _ _ => r_aload (show zdec 92 42 = some (.aload 5, 2) by decide +kernel) rfl rfl,
  fun _ _ _ _ _ _ _ _ _ => r_ifnull (show zdec 92 44 = some (.ifnull 12, 3) by decide +kernel) rfl rfl,
  fun _ _ _ _ _ _ _ _ => r_aload (show zdec 92 47 = some (.aload 5, 2) by decide +kernel) rfl rfl,
  fun _ _ _ _ _ _ _ _ => r_iload_n (show zdec 92 49 = some (.iload_n 3, 1) by decide +kernel) rfl rfl,
  fun _ _ _ _ _ _ _ _ _ _ => r_cV [_] rfl (show zdec 92 50 = some (.invokevirtual 201, 3) by decide +kernel) (show zst.lookup (92 * zKEY + 201) = some (1, 93, 1, 7) by decide +kernel) (by decide) rfl,
  fun _ _ _ _ _ _ _ _ _ => r_ifne (show zdec 92 53 = some (.ifCond .ne 6, 3) by decide +kernel) rfl rfl,
  fun _ _ _ _ _ _ _ _ => r_bipush (show zdec 92 56 = some (.bipush (-2), 2) by decide +kernel) rfl rfl,
  fun _ _ _ _ _ _ _ _ => r_ireti (show zdec 92 58 = some (.ireturn, 1) by decide +kernel) (by decide +kernel),
  fun _ _ _ _ _ _ _ _ => r_aload (show zdec 92 59 = some (.aload 5, 2) by decide +kernel) rfl rfl,
  fun _ _ _ _ _ _ _ _ _ => r_getfield (show zdec 92 61 = some (.getfield 202, 3) by decide +kernel) (show zft.lookup (92 * zKEY + 202) = some (7, 0) by decide +kernel) rfl,
  fun _ _ _ _ _ _ _ _ => r_iload (show zdec 92 64 = some (.iload 4, 2) by decide +kernel) rfl rfl,
  fun _ _ _ _ _ _ _ _ => r_bipush (show zdec 92 66 = some (.bipush 54, 2) by decide +kernel) rfl rfl,
  fun _ _ _ _ _ _ _ _ _ _ => r_imul (show zdec 92 68 = some (.imul, 1) by decide +kernel) rfl,
  fun _ _ _ _ _ _ _ _ => r_iload_n (show zdec 92 69 = some (.iload_n 3, 1) by decide +kernel) rfl rfl,
  fun _ _ _ _ _ _ _ _ _ _ => r_iadd (show zdec 92 70 = some (.iadd, 1) by decide +kernel) rfl,
  fun _ _ _ _ _ _ _ _ _ _ => r_iald (show zdec 92 71 = some (.iaload, 1) by decide +kernel) rfl,
  fun _ _ _ _ _ _ _ _ => r_ireti (show zdec 92 72 = some (.ireturn, 1) by decide +kernel) (by decide +kernel)⟩
theorem ze_92 : ∀ (a0 : Nat) (a1 : Int32) (a2 : Int32) (a3 : Int32) (a4 : Int32) (h : zH), ev 92 [.ref a0, .int a1, .int a2, .int a3, .int a4] h = rn 92 0 [.ref a0, .int a1, .int a2, .int a3, .int a4, .float 0] [] h := fun _ _ _ _ _ _ => if_pos (Nat.le_of_ble_eq_true rfl)
-- PayrollRun.amount(III)J
theorem zr_94 : (∀ (l0 l2 l3 l4 : Value) (x : Int32) (S : List Value) (h : zH), rn 94 0 [l0, .int x, l2, l3, l4] S h = rn 94 1 [l0, .int x, l2, l3, l4] (.int x :: S) h) ∧
  (∀ (l0 l1 l2 l3 l4 : Value) (v0 : Value) (S : List Value) (h : zH), rn 94 1 [l0, l1, l2, l3, l4] (v0 :: S) h = if zsum S ≤ 8 then zcall (ev 23 [v0] h) (fun v h => rn 94 4 [l0, l1, l2, l3, l4] (zpush v S) h) else none) ∧
  (∀ (l0 l1 l2 l3 l4 : Value) (x : Int32) (S : List Value) (h : zH), rn 94 4 [l0, l1, l2, l3, l4] (.int x :: S) h = if x = nI 0 then rn 94 14 [l0, l1, l2, l3, l4] S h else rn 94 7 [l0, l1, l2, l3, l4] S h) ∧
  (∀ (l0 l1 l3 l4 : Value) (x : Int32) (S : List Value) (h : zH), rn 94 7 [l0, l1, .int x, l3, l4] S h = rn 94 8 [l0, l1, .int x, l3, l4] (.int x :: S) h) ∧
  (∀ (l0 l1 l2 l3 l4 : Value) (v0 : Value) (S : List Value) (h : zH), rn 94 8 [l0, l1, l2, l3, l4] (v0 :: S) h = if zsum S ≤ 8 then zcall (ev 25 [v0] h) (fun v h => rn 94 11 [l0, l1, l2, l3, l4] (zpush v S) h) else none) ∧
  (∀ (l0 l1 l2 l3 l4 : Value) (x : Int32) (S : List Value) (h : zH), rn 94 11 [l0, l1, l2, l3, l4] (.int x :: S) h = if x = nI 0 then rn 94 14 [l0, l1, l2, l3, l4] S h else rn 94 18 [l0, l1, l2, l3, l4] S h) ∧
  (∀ (l0 l1 l2 l3 l4 : Value) (S : List Value) (h : zH), rn 94 14 [l0, l1, l2, l3, l4] S h = rn 94 17 [l0, l1, l2, l3, l4] (.long (-9223372036854775808) :: S) h) ∧
  (∀ (l0 l1 l2 l3 l4 : Value) (x : Int64) (h : zH), rn 94 17 [l0, l1, l2, l3, l4] [.long x] h = some (some (.long x), h)) ∧
  (∀ (l1 l2 l3 l4 : Value) (x : Nat) (S : List Value) (h : zH), rn 94 18 [.ref x, l1, l2, l3, l4] S h = rn 94 19 [.ref x, l1, l2, l3, l4] (.ref x :: S) h) ∧
  (∀ (l0 l1 l2 l3 l4 : Value) (a : Nat) (S : List Value) (h : zH), rn 94 19 [l0, l1, l2, l3, l4] (.ref a :: S) h = zgf h a 11 0 fun v => rn 94 22 [l0, l1, l2, l3, l4] (v :: S) h) ∧
  (∀ (l0 l1 l2 l3 l4 : Value) (a : Nat) (S : List Value) (h : zH), rn 94 22 [l0, l1, l2, l3, l4] (.ref a :: S) h = zgf h a 1 0 fun v => rn 94 25 [l0, l1, l2, l3, l4] (v :: S) h) ∧
  (∀ (l0 l2 l3 l4 : Value) (x : Int32) (S : List Value) (h : zH), rn 94 25 [l0, .int x, l2, l3, l4] S h = rn 94 26 [l0, .int x, l2, l3, l4] (.int x :: S) h) ∧
  (∀ (l0 l1 l2 l3 l4 : Value) (a : Nat) (j : Int32) (S : List Value) (h : zH), rn 94 26 [l0, l1, l2, l3, l4] (.int j :: .ref a :: S) h = zlq h a j fun x => rn 94 27 [l0, l1, l2, l3, l4] (va_rf x :: S) h) ∧
  (∀ (l0 l1 l2 l3 l4 : Value) (a : Nat) (S : List Value) (h : zH), rn 94 27 [l0, l1, l2, l3, l4] (.ref a :: S) h = zgf h a 10 3 fun v => rn 94 30 [l0, l1, l2, l3, l4] (v :: S) h) ∧
  (∀ (l0 l1 l3 l4 : Value) (x : Int32) (S : List Value) (h : zH), rn 94 30 [l0, l1, .int x, l3, l4] S h = rn 94 31 [l0, l1, .int x, l3, l4] (.int x :: S) h) ∧
  (∀ (l0 l1 l2 l3 l4 : Value) (a : Nat) (j : Int32) (S : List Value) (h : zH), rn 94 31 [l0, l1, l2, l3, l4] (.int j :: .ref a :: S) h = zlq h a j fun x => rn 94 32 [l0, l1, l2, l3, l4] (va_rf x :: S) h) ∧
  (∀ (l0 l1 l2 l3 l4 : Value) (v : Value) (S : List Value) (h : zH), rn 94 32 [l0, l1, l2, l3, l4] (v :: S) h = ldA v (nl l3 (rn 94 34 [l0, l1, l2, l3, v] S h))) ∧
  (∀ (l0 l1 l2 l3 l4 : Value) (S : List Value) (h : zH), rn 94 34 [l0, l1, l2, l3, l4] S h = ldA l4 (rn 94 36 [l0, l1, l2, l3, l4] (l4 :: S) h)) ∧
  (∀ (l0 l1 l2 l3 l4 : Value) (v : Value) (S : List Value) (h : zH), rn 94 36 [l0, l1, l2, l3, l4] (v :: S) h = ifN v (rn 94 48 [l0, l1, l2, l3, l4] S h) (rn 94 39 [l0, l1, l2, l3, l4] S h)) ∧
  (∀ (l0 l1 l2 l3 l4 : Value) (S : List Value) (h : zH), rn 94 39 [l0, l1, l2, l3, l4] S h = ldA l4 (rn 94 41 [l0, l1, l2, l3, l4] (l4 :: S) h)) ∧
  (∀ (l0 l1 l2 l4 : Value) (x : Int32) (S : List Value) (h : zH), rn 94 41 [l0, l1, l2, .int x, l4] S h = rn 94 42 [l0, l1, l2, .int x, l4] (.int x :: S) h) ∧
  (∀ (l0 l1 l2 l3 l4 : Value) (o : Nat) (v0 : Value) (S : List Value) (h : zH), rn 94 42 [l0, l1, l2, l3, l4] (v0 :: .ref o :: S) h = if zkd h o = 7 ∧ zsum S ≤ 8 then zcall (ev 93 [.ref o, v0] h) (fun v h => rn 94 45 [l0, l1, l2, l3, l4] (zpush v S) h) else none) ∧
  (∀ (l0 l1 l2 l3 l4 : Value) (x : Int32) (S : List Value) (h : zH), rn 94 45 [l0, l1, l2, l3, l4] (.int x :: S) h = if x = nI 0 then rn 94 48 [l0, l1, l2, l3, l4] S h else rn 94 52 [l0, l1, l2, l3, l4] S h) ∧
  (∀ (l0 l1 l2 l3 l4 : Value) (S : List Value) (h : zH), rn 94 48 [l0, l1, l2, l3, l4] S h = rn 94 51 [l0, l1, l2, l3, l4] (.long (-9223372036854775808) :: S) h) ∧
  (∀ (l0 l1 l2 l3 l4 : Value) (x : Int64) (h : zH), rn 94 51 [l0, l1, l2, l3, l4] [.long x] h = some (some (.long x), h)) ∧
  (∀ (l0 l1 l2 l3 l4 : Value) (S : List Value) (h : zH), rn 94 52 [l0, l1, l2, l3, l4] S h = ldA l4 (rn 94 54 [l0, l1, l2, l3, l4] (l4 :: S) h)) ∧
  (∀ (l0 l1 l2 l3 l4 : Value) (a : Nat) (S : List Value) (h : zH), rn 94 54 [l0, l1, l2, l3, l4] (.ref a :: S) h = zgf h a 7 1 fun v => rn 94 57 [l0, l1, l2, l3, l4] (v :: S) h) ∧
  (∀ (l0 l1 l2 l4 : Value) (x : Int32) (S : List Value) (h : zH), rn 94 57 [l0, l1, l2, .int x, l4] S h = rn 94 58 [l0, l1, l2, .int x, l4] (.int x :: S) h) ∧
  (∀ (l0 l1 l2 l3 l4 : Value) (a : Nat) (j : Int32) (S : List Value) (h : zH), rn 94 58 [l0, l1, l2, l3, l4] (.int j :: .ref a :: S) h = zlj h a j fun x => rn 94 59 [l0, l1, l2, l3, l4] (.long x :: S) h) ∧
  (∀ (l0 l1 l2 l3 l4 : Value) (x : Int64) (h : zH), rn 94 59 [l0, l1, l2, l3, l4] [.long x] h = some (some (.long x), h)) := ⟨fun _ _ _ _ _ _ _ => r_iload_n (show zdec 94 0 = some (.iload_n 1, 1) by decide +kernel) rfl rfl,
  fun _ _ _ _ _ _ _ _ => r_cS [_] rfl (show zdec 94 1 = some (.invokestatic 116, 3) by decide +kernel) (show zst.lookup (94 * zKEY + 116) = some (0, 23, 1, 0) by decide +kernel) (by decide) rfl,
  fun _ _ _ _ _ _ _ _ => r_ifeq (show zdec 94 4 = some (.ifCond .eq 10, 3) by decide +kernel) rfl rfl,
  fun _ _ _ _ _ _ _ => r_iload_n (show zdec 94 7 = some (.iload_n 2, 1) by decide +kernel) rfl rfl,
  fun _ _ _ _ _ _ _ _ => r_cS [_] rfl (show zdec 94 8 = some (.invokestatic 120, 3) by decide +kernel) (show zst.lookup (94 * zKEY + 120) = some (0, 25, 1, 0) by decide +kernel) (by decide) rfl,
  fun _ _ _ _ _ _ _ _ => r_ifne (show zdec 94 11 = some (.ifCond .ne 7, 3) by decide +kernel) rfl rfl,
  fun _ _ _ _ _ _ _ => r_ldc2 (show zdec 94 14 = some (.ldc2_w 188, 3) by decide +kernel) (show zlt.lookup (94 * zKEY + 188) = some (-9223372036854775808) by decide +kernel) rfl,
  fun _ _ _ _ _ _ _ => r_lret (show zdec 94 17 = some (.lreturn, 1) by decide +kernel) (by decide +kernel),
  fun _ _ _ _ _ _ _ => r_aload_nr (show zdec 94 18 = some (.aload_n 0, 1) by decide +kernel) rfl rfl,
  fun _ _ _ _ _ _ _ _ => r_getfield (show zdec 94 19 = some (.getfield 10, 3) by decide +kernel) (show zft.lookup (94 * zKEY + 10) = some (11, 0) by decide +kernel) rfl,
  fun _ _ _ _ _ _ _ _ => r_getfield (show zdec 94 22 = some (.getfield 127, 3) by decide +kernel) (show zft.lookup (94 * zKEY + 127) = some (1, 0) by decide +kernel) rfl,
  fun _ _ _ _ _ _ _ => r_iload_n (show zdec 94 25 = some (.iload_n 1, 1) by decide +kernel) rfl rfl,
  fun _ _ _ _ _ _ _ _ _ => r_aald (show zdec 94 26 = some (.aaload, 1) by decide +kernel) rfl,
  fun _ _ _ _ _ _ _ _ => r_getfield (show zdec 94 27 = some (.getfield 194, 3) by decide +kernel) (show zft.lookup (94 * zKEY + 194) = some (10, 3) by decide +kernel) rfl,
  fun _ _ _ _ _ _ _ => r_iload_n (show zdec 94 30 = some (.iload_n 2, 1) by decide +kernel) rfl rfl,
  fun _ _ _ _ _ _ _ _ _ => r_aald (show zdec 94 31 = some (.aaload, 1) by decide +kernel) rfl,
  fun _ _ _ _ _ _ _ _ => r_astore (show zdec 94 32 = some (.astore 4, 2) by decide +kernel) rfl (Nat.le_of_ble_eq_true rfl) rfl rfl,
  fun _ _ _ _ _ _ _ => r_aload (show zdec 94 34 = some (.aload 4, 2) by decide +kernel) rfl rfl,
  fun _ _ _ _ _ _ _ _ => r_ifnull (show zdec 94 36 = some (.ifnull 12, 3) by decide +kernel) rfl rfl,
  fun _ _ _ _ _ _ _ => r_aload (show zdec 94 39 = some (.aload 4, 2) by decide +kernel) rfl rfl,
  fun _ _ _ _ _ _ _ => r_iload_n (show zdec 94 41 = some (.iload_n 3, 1) by decide +kernel) rfl rfl,
  fun _ _ _ _ _ _ _ _ _ => r_cV [_] rfl (show zdec 94 42 = some (.invokevirtual 201, 3) by decide +kernel) (show zst.lookup (94 * zKEY + 201) = some (1, 93, 1, 7) by decide +kernel) (by decide) rfl,
  fun _ _ _ _ _ _ _ _ => r_ifne (show zdec 94 45 = some (.ifCond .ne 7, 3) by decide +kernel) rfl rfl,
  fun _ _ _ _ _ _ _ => r_ldc2 (show zdec 94 48 = some (.ldc2_w 188, 3) by decide +kernel) (show zlt.lookup (94 * zKEY + 188) = some (-9223372036854775808) by decide +kernel) rfl,
  fun _ _ _ _ _ _ _ => r_lret (show zdec 94 51 = some (.lreturn, 1) by decide +kernel) (by decide +kernel),
  fun _ _ _ _ _ _ _ => r_aload (show zdec 94 52 = some (.aload 4, 2) by decide +kernel) rfl rfl,
  fun _ _ _ _ _ _ _ _ => r_getfield (show zdec 94 54 = some (.getfield 205, 3) by decide +kernel) (show zft.lookup (94 * zKEY + 205) = some (7, 1) by decide +kernel) rfl,
  fun _ _ _ _ _ _ _ => r_iload_n (show zdec 94 57 = some (.iload_n 3, 1) by decide +kernel) rfl rfl,
  fun _ _ _ _ _ _ _ _ _ => r_lald (show zdec 94 58 = some (.laload, 1) by decide +kernel) rfl,
  fun _ _ _ _ _ _ _ => r_lret (show zdec 94 59 = some (.lreturn, 1) by decide +kernel) (by decide +kernel)⟩
theorem ze_94 : ∀ (a0 : Nat) (a1 : Int32) (a2 : Int32) (a3 : Int32) (h : zH), ev 94 [.ref a0, .int a1, .int a2, .int a3] h = rn 94 0 [.ref a0, .int a1, .int a2, .int a3, .float 0] [] h := fun _ _ _ _ _ => if_pos (Nat.le_of_ble_eq_true rfl)
-- PayrollRun.letter(III)I
theorem zr_95 : (∀ (l0 l2 l3 l4 : Value) (x : Int32) (S : List Value) (h : zH), rn 95 0 [l0, .int x, l2, l3, l4] S h = rn 95 1 [l0, .int x, l2, l3, l4] (.int x :: S) h) ∧
  (∀ (l0 l1 l2 l3 l4 : Value) (v0 : Value) (S : List Value) (h : zH), rn 95 1 [l0, l1, l2, l3, l4] (v0 :: S) h = if zsum S ≤ 8 then zcall (ev 23 [v0] h) (fun v h => rn 95 4 [l0, l1, l2, l3, l4] (zpush v S) h) else none) ∧
  (∀ (l0 l1 l2 l3 l4 : Value) (x : Int32) (S : List Value) (h : zH), rn 95 4 [l0, l1, l2, l3, l4] (.int x :: S) h = if x = nI 0 then rn 95 14 [l0, l1, l2, l3, l4] S h else rn 95 7 [l0, l1, l2, l3, l4] S h) ∧
  (∀ (l0 l1 l3 l4 : Value) (x : Int32) (S : List Value) (h : zH), rn 95 7 [l0, l1, .int x, l3, l4] S h = rn 95 8 [l0, l1, .int x, l3, l4] (.int x :: S) h) ∧
  (∀ (l0 l1 l2 l3 l4 : Value) (v0 : Value) (S : List Value) (h : zH), rn 95 8 [l0, l1, l2, l3, l4] (v0 :: S) h = if zsum S ≤ 8 then zcall (ev 25 [v0] h) (fun v h => rn 95 11 [l0, l1, l2, l3, l4] (zpush v S) h) else none) ∧
  (∀ (l0 l1 l2 l3 l4 : Value) (x : Int32) (S : List Value) (h : zH), rn 95 11 [l0, l1, l2, l3, l4] (.int x :: S) h = if x = nI 0 then rn 95 14 [l0, l1, l2, l3, l4] S h else rn 95 16 [l0, l1, l2, l3, l4] S h) ∧
  (∀ (l0 l1 l2 l3 l4 : Value) (S : List Value) (h : zH), rn 95 14 [l0, l1, l2, l3, l4] S h = rn 95 15 [l0, l1, l2, l3, l4] (.int (-1) :: S) h) ∧
  (∀ (l0 l1 l2 l3 l4 : Value) (x : Int32) (h : zH), rn 95 15 [l0, l1, l2, l3, l4] [.int x] h = some (some (.int x), h)) ∧
  (∀ (l1 l2 l3 l4 : Value) (x : Nat) (S : List Value) (h : zH), rn 95 16 [.ref x, l1, l2, l3, l4] S h = rn 95 17 [.ref x, l1, l2, l3, l4] (.ref x :: S) h) ∧
  (∀ (l0 l1 l2 l3 l4 : Value) (a : Nat) (S : List Value) (h : zH), rn 95 17 [l0, l1, l2, l3, l4] (.ref a :: S) h = zgf h a 11 0 fun v => rn 95 20 [l0, l1, l2, l3, l4] (v :: S) h) ∧
  (∀ (l0 l1 l2 l3 l4 : Value) (a : Nat) (S : List Value) (h : zH), rn 95 20 [l0, l1, l2, l3, l4] (.ref a :: S) h = zgf h a 1 0 fun v => rn 95 23 [l0, l1, l2, l3, l4] (v :: S) h) ∧
  (∀ (l0 l2 l3 l4 : Value) (x : Int32) (S : List Value) (h : zH), rn 95 23 [l0, .int x, l2, l3, l4] S h = rn 95 24 [l0, .int x, l2, l3, l4] (.int x :: S) h) ∧
  (∀ (l0 l1 l2 l3 l4 : Value) (a : Nat) (j : Int32) (S : List Value) (h : zH), rn 95 24 [l0, l1, l2, l3, l4] (.int j :: .ref a :: S) h = zlq h a j fun x => rn 95 25 [l0, l1, l2, l3, l4] (va_rf x :: S) h) ∧
  (∀ (l0 l1 l2 l3 l4 : Value) (a : Nat) (S : List Value) (h : zH), rn 95 25 [l0, l1, l2, l3, l4] (.ref a :: S) h = zgf h a 10 3 fun v => rn 95 28 [l0, l1, l2, l3, l4] (v :: S) h) ∧
  (∀ (l0 l1 l3 l4 : Value) (x : Int32) (S : List Value) (h : zH), rn 95 28 [l0, l1, .int x, l3, l4] S h = rn 95 29 [l0, l1, .int x, l3, l4] (.int x :: S) h) ∧
  (∀ (l0 l1 l2 l3 l4 : Value) (a : Nat) (j : Int32) (S : List Value) (h : zH), rn 95 29 [l0, l1, l2, l3, l4] (.int j :: .ref a :: S) h = zlq h a j fun x => rn 95 30 [l0, l1, l2, l3, l4] (va_rf x :: S) h) ∧
  (∀ (l0 l1 l2 l3 l4 : Value) (v : Value) (S : List Value) (h : zH), rn 95 30 [l0, l1, l2, l3, l4] (v :: S) h = ldA v (nl l3 (rn 95 32 [l0, l1, l2, l3, v] S h))) ∧
  (∀ (l0 l1 l2 l3 l4 : Value) (S : List Value) (h : zH), rn 95 32 [l0, l1, l2, l3, l4] S h = ldA l4 (rn 95 34 [l0, l1, l2, l3, l4] (l4 :: S) h)) ∧
  (∀ (l0 l1 l2 l3 l4 : Value) (v : Value) (S : List Value) (h : zH), rn 95 34 [l0, l1, l2, l3, l4] (v :: S) h = ifN v (rn 95 37 [l0, l1, l2, l3, l4] S h) (rn 95 40 [l0, l1, l2, l3, l4] S h)) ∧
  (∀ (l0 l1 l2 l3 l4 : Value) (S : List Value) (h : zH), rn 95 37 [l0, l1, l2, l3, l4] S h = rn 95 39 [l0, l1, l2, l3, l4] (.int (-2) :: S) h) ∧
  (∀ (l0 l1 l2 l3 l4 : Value) (x : Int32) (h : zH), rn 95 39 [l0, l1, l2, l3, l4] [.int x] h = some (some (.int x), h)) ∧
  (∀ (l1 l2 l3 l4 : Value) (x : Nat) (S : List Value) (h : zH), rn 95 40 [.ref x, l1, l2, l3, l4] S h = rn 95 41 [.ref x, l1, l2, l3, l4] (.ref x :: S) h) ∧
  (∀ (l0 l1 l2 l3 l4 : Value) (a : Nat) (S : List Value) (h : zH), rn 95 41 [l0, l1, l2, l3, l4] (.ref a :: S) h = zgf h a 11 7 fun v => rn 95 44 [l0, l1, l2, l3, l4] (v :: S) h) ∧
  (∀ (l0 l1 l2 l3 l4 : Value) (S : List Value) (h : zH), rn 95 44 [l0, l1, l2, l3, l4] S h = ldA l4 (rn 95 46 [l0, l1, l2, l3, l4] (l4 :: S) h)) ∧
  (∀ (l0 l1 l2 l3 l4 : Value) (o : Nat) (v0 : Value) (S : List Value) (h : zH), rn 95 46 [l0, l1, l2, l3, l4] (v0 :: .ref o :: S) h = if zkd h o = 8 ∧ zsum S ≤ 8 then zcall (ev 96 [.ref o, v0] h) (fun v h => rn 95 49 [l0, l1, l2, l3, l4] (zpush v S) h) else none) ∧
  (∀ (l1 l2 l3 l4 : Value) (x : Nat) (S : List Value) (h : zH), rn 95 49 [.ref x, l1, l2, l3, l4] S h = rn 95 50 [.ref x, l1, l2, l3, l4] (.ref x :: S) h) ∧
  (∀ (l0 l1 l2 l3 l4 : Value) (a : Nat) (S : List Value) (h : zH), rn 95 50 [l0, l1, l2, l3, l4] (.ref a :: S) h = zgf h a 11 7 fun v => rn 95 53 [l0, l1, l2, l3, l4] (v :: S) h) ∧
  (∀ (l0 l1 l2 l4 : Value) (x : Int32) (S : List Value) (h : zH), rn 95 53 [l0, l1, l2, .int x, l4] S h = rn 95 54 [l0, l1, l2, .int x, l4] (.int x :: S) h) ∧
  (∀ (l0 l1 l2 l3 l4 : Value) (o : Nat) (v0 : Value) (S : List Value) (h : zH), rn 95 54 [l0, l1, l2, l3, l4] (v0 :: .ref o :: S) h = if zkd h o = 8 ∧ zsum S ≤ 8 then zcall (ev 148 [.ref o, v0] h) (fun v h => rn 95 57 [l0, l1, l2, l3, l4] (zpush v S) h) else none) ∧
  (∀ (l0 l1 l2 l3 l4 : Value) (x : Int32) (h : zH), rn 95 57 [l0, l1, l2, l3, l4] [.int x] h = some (some (.int x), h)) := ⟨fun _ _ _ _ _ _ _ => r_iload_n (show zdec 95 0 = some (.iload_n 1, 1) by decide +kernel) rfl rfl,
  fun _ _ _ _ _ _ _ _ => r_cS [_] rfl (show zdec 95 1 = some (.invokestatic 116, 3) by decide +kernel) (show zst.lookup (95 * zKEY + 116) = some (0, 23, 1, 0) by decide +kernel) (by decide) rfl,
  fun _ _ _ _ _ _ _ _ => r_ifeq (show zdec 95 4 = some (.ifCond .eq 10, 3) by decide +kernel) rfl rfl,
  fun _ _ _ _ _ _ _ => r_iload_n (show zdec 95 7 = some (.iload_n 2, 1) by decide +kernel) rfl rfl,
  fun _ _ _ _ _ _ _ _ => r_cS [_] rfl (show zdec 95 8 = some (.invokestatic 120, 3) by decide +kernel) (show zst.lookup (95 * zKEY + 120) = some (0, 25, 1, 0) by decide +kernel) (by decide) rfl,
  fun _ _ _ _ _ _ _ _ => r_ifne (show zdec 95 11 = some (.ifCond .ne 5, 3) by decide +kernel) rfl rfl,
  fun _ _ _ _ _ _ _ => r_iconst (show zdec 95 14 = some (.iconst (-1), 1) by decide +kernel) rfl rfl,
  fun _ _ _ _ _ _ _ => r_ireti (show zdec 95 15 = some (.ireturn, 1) by decide +kernel) (by decide +kernel),
  fun _ _ _ _ _ _ _ => r_aload_nr (show zdec 95 16 = some (.aload_n 0, 1) by decide +kernel) rfl rfl,
  fun _ _ _ _ _ _ _ _ => r_getfield (show zdec 95 17 = some (.getfield 10, 3) by decide +kernel) (show zft.lookup (95 * zKEY + 10) = some (11, 0) by decide +kernel) rfl,
  fun _ _ _ _ _ _ _ _ => r_getfield (show zdec 95 20 = some (.getfield 127, 3) by decide +kernel) (show zft.lookup (95 * zKEY + 127) = some (1, 0) by decide +kernel) rfl,
  fun _ _ _ _ _ _ _ => r_iload_n (show zdec 95 23 = some (.iload_n 1, 1) by decide +kernel) rfl rfl,
  fun _ _ _ _ _ _ _ _ _ => r_aald (show zdec 95 24 = some (.aaload, 1) by decide +kernel) rfl,
  fun _ _ _ _ _ _ _ _ => r_getfield (show zdec 95 25 = some (.getfield 194, 3) by decide +kernel) (show zft.lookup (95 * zKEY + 194) = some (10, 3) by decide +kernel) rfl,
  fun _ _ _ _ _ _ _ => r_iload_n (show zdec 95 28 = some (.iload_n 2, 1) by decide +kernel) rfl rfl,
  fun _ _ _ _ _ _ _ _ _ => r_aald (show zdec 95 29 = some (.aaload, 1) by decide +kernel) rfl,
  fun _ _ _ _ _ _ _ _ => r_astore (show zdec 95 30 = some (.astore 4, 2) by decide +kernel) rfl (Nat.le_of_ble_eq_true rfl) rfl rfl,
  fun _ _ _ _ _ _ _ => r_aload (show zdec 95 32 = some (.aload 4, 2) by decide +kernel) rfl rfl,
  fun _ _ _ _ _ _ _ _ => r_ifnonnull (show zdec 95 34 = some (.ifnonnull 6, 3) by decide +kernel) rfl rfl,
  fun _ _ _ _ _ _ _ => r_bipush (show zdec 95 37 = some (.bipush (-2), 2) by decide +kernel) rfl rfl,
  fun _ _ _ _ _ _ _ => r_ireti (show zdec 95 39 = some (.ireturn, 1) by decide +kernel) (by decide +kernel),
  fun _ _ _ _ _ _ _ => r_aload_nr (show zdec 95 40 = some (.aload_n 0, 1) by decide +kernel) rfl rfl,
  fun _ _ _ _ _ _ _ _ => r_getfield (show zdec 95 41 = some (.getfield 54, 3) by decide +kernel) (show zft.lookup (95 * zKEY + 54) = some (11, 7) by decide +kernel) rfl,
  fun _ _ _ _ _ _ _ => r_aload (show zdec 95 44 = some (.aload 4, 2) by decide +kernel) rfl rfl,
  fun _ _ _ _ _ _ _ _ _ => r_cV [_] rfl (show zdec 95 46 = some (.invokevirtual 208, 3) by decide +kernel) (show zst.lookup (95 * zKEY + 208) = some (1, 96, 1, 8) by decide +kernel) (by decide) rfl,
  fun _ _ _ _ _ _ _ => r_aload_nr (show zdec 95 49 = some (.aload_n 0, 1) by decide +kernel) rfl rfl,
  fun _ _ _ _ _ _ _ _ => r_getfield (show zdec 95 50 = some (.getfield 54, 3) by decide +kernel) (show zft.lookup (95 * zKEY + 54) = some (11, 7) by decide +kernel) rfl,
  fun _ _ _ _ _ _ _ => r_iload_n (show zdec 95 53 = some (.iload_n 3, 1) by decide +kernel) rfl rfl,
  fun _ _ _ _ _ _ _ _ _ => r_cV [_] rfl (show zdec 95 54 = some (.invokevirtual 212, 3) by decide +kernel) (show zst.lookup (95 * zKEY + 212) = some (1, 148, 1, 8) by decide +kernel) (by decide) rfl,
  fun _ _ _ _ _ _ _ => r_ireti (show zdec 95 57 = some (.ireturn, 1) by decide +kernel) (by decide +kernel)⟩
theorem ze_95 : ∀ (a0 : Nat) (a1 : Int32) (a2 : Int32) (a3 : Int32) (h : zH), ev 95 [.ref a0, .int a1, .int a2, .int a3] h = rn 95 0 [.ref a0, .int a1, .int a2, .int a3, .float 0] [] h := fun _ _ _ _ _ => if_pos (Nat.le_of_ble_eq_true rfl)
-- PayrollRun.payout(II)J
theorem zr_154 : (∀ (l0 l2 l3 : Value) (x : Int32) (S : List Value) (h : zH), rn 154 0 [l0, .int x, l2, l3] S h = rn 154 1 [l0, .int x, l2, l3] (.int x :: S) h) ∧
  (∀ (l0 l1 l2 l3 : Value) (v0 : Value) (S : List Value) (h : zH), rn 154 1 [l0, l1, l2, l3] (v0 :: S) h = if zsum S ≤ 8 then zcall (ev 23 [v0] h) (fun v h => rn 154 4 [l0, l1, l2, l3] (zpush v S) h) else none) ∧
  (∀ (l0 l1 l2 l3 : Value) (x : Int32) (S : List Value) (h : zH), rn 154 4 [l0, l1, l2, l3] (.int x :: S) h = if x = nI 0 then rn 154 14 [l0, l1, l2, l3] S h else rn 154 7 [l0, l1, l2, l3] S h) ∧
  (∀ (l0 l1 l3 : Value) (x : Int32) (S : List Value) (h : zH), rn 154 7 [l0, l1, .int x, l3] S h = rn 154 8 [l0, l1, .int x, l3] (.int x :: S) h) ∧
  (∀ (l0 l1 l2 l3 : Value) (v0 : Value) (S : List Value) (h : zH), rn 154 8 [l0, l1, l2, l3] (v0 :: S) h = if zsum S ≤ 8 then zcall (ev 25 [v0] h) (fun v h => rn 154 11 [l0, l1, l2, l3] (zpush v S) h) else none) ∧
  (∀ (l0 l1 l2 l3 : Value) (x : Int32) (S : List Value) (h : zH), rn 154 11 [l0, l1, l2, l3] (.int x :: S) h = if x = nI 0 then rn 154 14 [l0, l1, l2, l3] S h else rn 154 18 [l0, l1, l2, l3] S h) ∧
  (∀ (l0 l1 l2 l3 : Value) (S : List Value) (h : zH), rn 154 14 [l0, l1, l2, l3] S h = rn 154 17 [l0, l1, l2, l3] (.long (-1) :: S) h) ∧
  (∀ (l0 l1 l2 l3 : Value) (x : Int64) (h : zH), rn 154 17 [l0, l1, l2, l3] [.long x] h = some (some (.long x), h)) ∧
  (∀ (l1 l2 l3 : Value) (x : Nat) (S : List Value) (h : zH), rn 154 18 [.ref x, l1, l2, l3] S h = rn 154 19 [.ref x, l1, l2, l3] (.ref x :: S) h) ∧
  (∀ (l0 l1 l2 l3 : Value) (a : Nat) (S : List Value) (h : zH), rn 154 19 [l0, l1, l2, l3] (.ref a :: S) h = zgf h a 11 0 fun v => rn 154 22 [l0, l1, l2, l3] (v :: S) h) ∧
  (∀ (l0 l1 l2 l3 : Value) (a : Nat) (S : List Value) (h : zH), rn 154 22 [l0, l1, l2, l3] (.ref a :: S) h = zgf h a 1 0 fun v => rn 154 25 [l0, l1, l2, l3] (v :: S) h) ∧
  (∀ (l0 l2 l3 : Value) (x : Int32) (S : List Value) (h : zH), rn 154 25 [l0, .int x, l2, l3] S h = rn 154 26 [l0, .int x, l2, l3] (.int x :: S) h) ∧
  (∀ (l0 l1 l2 l3 : Value) (a : Nat) (j : Int32) (S : List Value) (h : zH), rn 154 26 [l0, l1, l2, l3] (.int j :: .ref a :: S) h = zlq h a j fun x => rn 154 27 [l0, l1, l2, l3] (va_rf x :: S) h) ∧
  (∀ (l0 l1 l2 l3 : Value) (a : Nat) (S : List Value) (h : zH), rn 154 27 [l0, l1, l2, l3] (.ref a :: S) h = zgf h a 10 3 fun v => rn 154 30 [l0, l1, l2, l3] (v :: S) h) ∧
  (∀ (l0 l1 l3 : Value) (x : Int32) (S : List Value) (h : zH), rn 154 30 [l0, l1, .int x, l3] S h = rn 154 31 [l0, l1, .int x, l3] (.int x :: S) h) ∧
  (∀ (l0 l1 l2 l3 : Value) (a : Nat) (j : Int32) (S : List Value) (h : zH), rn 154 31 [l0, l1, l2, l3] (.int j :: .ref a :: S) h = zlq h a j fun x => rn 154 32 [l0, l1, l2, l3] (va_rf x :: S) h) ∧
  (∀ (l0 l1 l2 l3 : Value) (v : Value) (S : List Value) (h : zH), rn 154 32 [l0, l1, l2, l3] (v :: S) h = ldA v (nl l2 (rn 154 33 [l0, l1, l2, v] S h))) ∧
  (∀ (l0 l1 l2 l3 : Value) (S : List Value) (h : zH), rn 154 33 [l0, l1, l2, l3] S h = ldA l3 (rn 154 34 [l0, l1, l2, l3] (l3 :: S) h)) ∧
  (∀ (l0 l1 l2 l3 : Value) (v : Value) (S : List Value) (h : zH), rn 154 34 [l0, l1, l2, l3] (v :: S) h = ifN v (rn 154 37 [l0, l1, l2, l3] S h) (rn 154 43 [l0, l1, l2, l3] S h)) ∧
  (∀ (l0 l1 l2 l3 : Value) (S : List Value) (h : zH), rn 154 37 [l0, l1, l2, l3] S h = rn 154 40 [l0, l1, l2, l3] (.long (-2) :: S) h) ∧
  (∀ (l0 l1 l2 l3 : Value) (S : List Value) (h : zH), rn 154 40 [l0, l1, l2, l3] S h = rn 154 47 [l0, l1, l2, l3] S h) ∧
  (∀ (l0 l1 l2 l3 : Value) (S : List Value) (h : zH), rn 154 43 [l0, l1, l2, l3] S h = ldA l3 (rn 154 44 [l0, l1, l2, l3] (l3 :: S) h)) ∧
  (∀ (l0 l1 l2 l3 : Value) (o : Nat) (S : List Value) (h : zH), rn 154 44 [l0, l1, l2, l3] (.ref o :: S) h = if zkd h o = 7 ∧ zsum S ≤ 8 then zcall (ev 155 [.ref o] h) (fun v h => rn 154 47 [l0, l1, l2, l3] (zpush v S) h) else none) ∧
  (∀ (l0 l1 l2 l3 : Value) (x : Int64) (h : zH), rn 154 47 [l0, l1, l2, l3] [.long x] h = some (some (.long x), h)) := ⟨fun _ _ _ _ _ _ => r_iload_n (show zdec 154 0 = some (.iload_n 1, 1) by decide +kernel) rfl rfl,
  fun _ _ _ _ _ _ _ => r_cS [_] rfl (show zdec 154 1 = some (.invokestatic 116, 3) by decide +kernel) (show zst.lookup (154 * zKEY + 116) = some (0, 23, 1, 0) by decide +kernel) (by decide) rfl,
  fun _ _ _ _ _ _ _ => r_ifeq (show zdec 154 4 = some (.ifCond .eq 10, 3) by decide +kernel) rfl rfl,
  fun _ _ _ _ _ _ => r_iload_n (show zdec 154 7 = some (.iload_n 2, 1) by decide +kernel) rfl rfl,
  fun _ _ _ _ _ _ _ => r_cS [_] rfl (show zdec 154 8 = some (.invokestatic 120, 3) by decide +kernel) (show zst.lookup (154 * zKEY + 120) = some (0, 25, 1, 0) by decide +kernel) (by decide) rfl,
  fun _ _ _ _ _ _ _ => r_ifne (show zdec 154 11 = some (.ifCond .ne 7, 3) by decide +kernel) rfl rfl,
  fun _ _ _ _ _ _ => r_ldc2 (show zdec 154 14 = some (.ldc2_w 170, 3) by decide +kernel) (show zlt.lookup (154 * zKEY + 170) = some (-1) by decide +kernel) rfl,
  fun _ _ _ _ _ _ => r_lret (show zdec 154 17 = some (.lreturn, 1) by decide +kernel) (by decide +kernel),
  fun _ _ _ _ _ _ => r_aload_nr (show zdec 154 18 = some (.aload_n 0, 1) by decide +kernel) rfl rfl,
  fun _ _ _ _ _ _ _ => r_getfield (show zdec 154 19 = some (.getfield 10, 3) by decide +kernel) (show zft.lookup (154 * zKEY + 10) = some (11, 0) by decide +kernel) rfl,
  fun _ _ _ _ _ _ _ => r_getfield (show zdec 154 22 = some (.getfield 127, 3) by decide +kernel) (show zft.lookup (154 * zKEY + 127) = some (1, 0) by decide +kernel) rfl,
  fun _ _ _ _ _ _ => r_iload_n (show zdec 154 25 = some (.iload_n 1, 1) by decide +kernel) rfl rfl,
  fun _ _ _ _ _ _ _ _ => r_aald (show zdec 154 26 = some (.aaload, 1) by decide +kernel) rfl,
  fun _ _ _ _ _ _ _ => r_getfield (show zdec 154 27 = some (.getfield 194, 3) by decide +kernel) (show zft.lookup (154 * zKEY + 194) = some (10, 3) by decide +kernel) rfl,
  fun _ _ _ _ _ _ => r_iload_n (show zdec 154 30 = some (.iload_n 2, 1) by decide +kernel) rfl rfl,
  fun _ _ _ _ _ _ _ _ => r_aald (show zdec 154 31 = some (.aaload, 1) by decide +kernel) rfl,
  fun _ _ _ _ _ _ _ => r_astore_n (show zdec 154 32 = some (.astore_n 3, 1) by decide +kernel) rfl rfl (Nat.le_of_ble_eq_true rfl) rfl rfl,
  fun _ _ _ _ _ _ => r_aload_n (show zdec 154 33 = some (.aload_n 3, 1) by decide +kernel) rfl rfl,
  fun _ _ _ _ _ _ _ => r_ifnonnull (show zdec 154 34 = some (.ifnonnull 9, 3) by decide +kernel) rfl rfl,
  fun _ _ _ _ _ _ => r_ldc2 (show zdec 154 37 = some (.ldc2_w 183, 3) by decide +kernel) (show zlt.lookup (154 * zKEY + 183) = some (-2) by decide +kernel) rfl,
  fun _ _ _ _ _ _ => r_goto (show zdec 154 40 = some (.goto 7, 3) by decide +kernel) rfl,
  fun _ _ _ _ _ _ => r_aload_n (show zdec 154 43 = some (.aload_n 3, 1) by decide +kernel) rfl rfl,
  fun _ _ _ _ _ _ _ => r_cV [] rfl (show zdec 154 44 = some (.invokevirtual 215, 3) by decide +kernel) (show zst.lookup (154 * zKEY + 215) = some (1, 155, 0, 7) by decide +kernel) (by decide) rfl,
  fun _ _ _ _ _ _ => r_lret (show zdec 154 47 = some (.lreturn, 1) by decide +kernel) (by decide +kernel)⟩
theorem ze_154 : ∀ (a0 : Nat) (a1 : Int32) (a2 : Int32) (h : zH), ev 154 [.ref a0, .int a1, .int a2] h = rn 154 0 [.ref a0, .int a1, .int a2, .float 0] [] h := fun _ _ _ _ => if_pos (Nat.le_of_ble_eq_true rfl)
-- PayrollRun.preview(I)J
theorem zr_156 : (∀ (l0 : Value) (x : Int32) (S : List Value) (h : zH), rn 156 0 [l0, .int x] S h = rn 156 1 [l0, .int x] (.int x :: S) h) ∧
  (∀ (l0 l1 : Value) (v0 : Value) (S : List Value) (h : zH), rn 156 1 [l0, l1] (v0 :: S) h = if zsum S ≤ 8 then zcall (ev 23 [v0] h) (fun v h => rn 156 4 [l0, l1] (zpush v S) h) else none) ∧
  (∀ (l0 l1 : Value) (x : Int32) (S : List Value) (h : zH), rn 156 4 [l0, l1] (.int x :: S) h = if x = nI 0 then rn 156 7 [l0, l1] S h else rn 156 11 [l0, l1] S h) ∧
  (∀ (l0 l1 : Value) (S : List Value) (h : zH), rn 156 7 [l0, l1] S h = rn 156 10 [l0, l1] (.long (-1) :: S) h) ∧
  (∀ (l0 l1 : Value) (x : Int64) (h : zH), rn 156 10 [l0, l1] [.long x] h = some (some (.long x), h)) ∧
  (∀ (l1 : Value) (x : Nat) (S : List Value) (h : zH), rn 156 11 [.ref x, l1] S h = rn 156 12 [.ref x, l1] (.ref x :: S) h) ∧
  (∀ (l0 l1 : Value) (a : Nat) (S : List Value) (h : zH), rn 156 12 [l0, l1] (.ref a :: S) h = zgf h a 11 0 fun v => rn 156 15 [l0, l1] (v :: S) h) ∧
  (∀ (l0 l1 : Value) (a : Nat) (S : List Value) (h : zH), rn 156 15 [l0, l1] (.ref a :: S) h = zgf h a 1 2 fun v => rn 156 18 [l0, l1] (v :: S) h) ∧
  (∀ (l0 l1 : Value) (S : List Value) (h : zH), rn 156 18 [l0, l1] S h = rn 156 20 [l0, l1] (.int (nI 12) :: S) h) ∧
  (∀ (l0 l1 : Value) (x : Int32) (y : Int32) (S : List Value) (h : zH), rn 156 20 [l0, l1] (.int y :: .int x :: S) h = if x < y then rn 156 27 [l0, l1] S h else rn 156 23 [l0, l1] S h) ∧
  (∀ (l0 l1 : Value) (S : List Value) (h : zH), rn 156 23 [l0, l1] S h = rn 156 26 [l0, l1] (.long (-2) :: S) h) ∧
  (∀ (l0 l1 : Value) (x : Int64) (h : zH), rn 156 26 [l0, l1] [.long x] h = some (some (.long x), h)) ∧
  (∀ (l1 : Value) (x : Nat) (S : List Value) (h : zH), rn 156 27 [.ref x, l1] S h = rn 156 28 [.ref x, l1] (.ref x :: S) h) ∧
  (∀ (l0 l1 : Value) (a : Nat) (S : List Value) (h : zH), rn 156 28 [l0, l1] (.ref a :: S) h = zgf h a 11 6 fun v => rn 156 31 [l0, l1] (v :: S) h) ∧
  (∀ (l1 : Value) (x : Nat) (S : List Value) (h : zH), rn 156 31 [.ref x, l1] S h = rn 156 32 [.ref x, l1] (.ref x :: S) h) ∧
  (∀ (l0 l1 : Value) (a : Nat) (S : List Value) (h : zH), rn 156 32 [l0, l1] (.ref a :: S) h = zgf h a 11 0 fun v => rn 156 35 [l0, l1] (v :: S) h) ∧
  (∀ (l0 : Value) (x : Int32) (S : List Value) (h : zH), rn 156 35 [l0, .int x] S h = rn 156 36 [l0, .int x] (.int x :: S) h) ∧
  (∀ (l0 l1 : Value) (S : List Value) (h : zH), rn 156 36 [l0, l1] S h = rn 156 37 [l0, l1] (.int (nI 0) :: S) h) ∧
  (∀ (l0 l1 : Value) (o : Nat) (v0 : Value) (v1 : Value) (v2 : Value) (S : List Value) (h : zH), rn 156 37 [l0, l1] (v2 :: v1 :: v0 :: .ref o :: S) h = if zkd h o = 9 ∧ zsum S ≤ 8 then zcall (ev 157 [.ref o, v0, v1, v2] h) (fun v h => rn 156 40 [l0, l1] (zpush v S) h) else none) ∧
  (∀ (l0 l1 : Value) (x : Int64) (h : zH), rn 156 40 [l0, l1] [.long x] h = some (some (.long x), h)) := ⟨fun _ _ _ _ => r_iload_n (show zdec 156 0 = some (.iload_n 1, 1) by decide +kernel) rfl rfl,
  fun _ _ _ _ _ => r_cS [_] rfl (show zdec 156 1 = some (.invokestatic 116, 3) by decide +kernel) (show zst.lookup (156 * zKEY + 116) = some (0, 23, 1, 0) by decide +kernel) (by decide) rfl,
  fun _ _ _ _ _ => r_ifne (show zdec 156 4 = some (.ifCond .ne 7, 3) by decide +kernel) rfl rfl,
  fun _ _ _ _ => r_ldc2 (show zdec 156 7 = some (.ldc2_w 170, 3) by decide +kernel) (show zlt.lookup (156 * zKEY + 170) = some (-1) by decide +kernel) rfl,
  fun _ _ _ _ => r_lret (show zdec 156 10 = some (.lreturn, 1) by decide +kernel) (by decide +kernel),
  fun _ _ _ _ => r_aload_nr (show zdec 156 11 = some (.aload_n 0, 1) by decide +kernel) rfl rfl,
  fun _ _ _ _ _ => r_getfield (show zdec 156 12 = some (.getfield 10, 3) by decide +kernel) (show zft.lookup (156 * zKEY + 10) = some (11, 0) by decide +kernel) rfl,
  fun _ _ _ _ _ => r_getfield (show zdec 156 15 = some (.getfield 112, 3) by decide +kernel) (show zft.lookup (156 * zKEY + 112) = some (1, 2) by decide +kernel) rfl,
  fun _ _ _ _ => r_bipush (show zdec 156 18 = some (.bipush 12, 2) by decide +kernel) rfl rfl,
  fun _ _ _ _ _ _ => r_icmplt (show zdec 156 20 = some (.if_icmp .lt 7, 3) by decide +kernel) rfl rfl,
  fun _ _ _ _ => r_ldc2 (show zdec 156 23 = some (.ldc2_w 183, 3) by decide +kernel) (show zlt.lookup (156 * zKEY + 183) = some (-2) by decide +kernel) rfl,
  fun _ _ _ _ => r_lret (show zdec 156 26 = some (.lreturn, 1) by decide +kernel) (by decide +kernel),
  fun _ _ _ _ => r_aload_nr (show zdec 156 27 = some (.aload_n 0, 1) by decide +kernel) rfl rfl,
  fun _ _ _ _ _ => r_getfield (show zdec 156 28 = some (.getfield 47, 3) by decide +kernel) (show zft.lookup (156 * zKEY + 47) = some (11, 6) by decide +kernel) rfl,
  fun _ _ _ _ => r_aload_nr (show zdec 156 31 = some (.aload_n 0, 1) by decide +kernel) rfl rfl,
  fun _ _ _ _ _ => r_getfield (show zdec 156 32 = some (.getfield 10, 3) by decide +kernel) (show zft.lookup (156 * zKEY + 10) = some (11, 0) by decide +kernel) rfl,
  fun _ _ _ _ => r_iload_n (show zdec 156 35 = some (.iload_n 1, 1) by decide +kernel) rfl rfl,
  fun _ _ _ _ => r_iconst (show zdec 156 36 = some (.iconst 0, 1) by decide +kernel) rfl rfl,
  fun _ _ _ _ _ _ _ _ => r_cV [_, _, _] rfl (show zdec 156 37 = some (.invokevirtual 219, 3) by decide +kernel) (show zst.lookup (156 * zKEY + 219) = some (1, 157, 3, 9) by decide +kernel) (by decide) rfl,
  fun _ _ _ _ => r_lret (show zdec 156 40 = some (.lreturn, 1) by decide +kernel) (by decide +kernel)⟩
theorem ze_156 : ∀ (a0 : Nat) (a1 : Int32) (h : zH), ev 156 [.ref a0, .int a1] h = rn 156 0 [.ref a0, .int a1] [] h := fun _ _ _ => if_pos (Nat.le_of_ble_eq_true rfl)
-- PayrollRun.marginal(I)J
theorem zr_160 : (∀ (l0 : Value) (x : Int32) (S : List Value) (h : zH), rn 160 0 [l0, .int x] S h = rn 160 1 [l0, .int x] (.int x :: S) h) ∧
  (∀ (l0 l1 : Value) (v0 : Value) (S : List Value) (h : zH), rn 160 1 [l0, l1] (v0 :: S) h = if zsum S ≤ 8 then zcall (ev 23 [v0] h) (fun v h => rn 160 4 [l0, l1] (zpush v S) h) else none) ∧
  (∀ (l0 l1 : Value) (x : Int32) (S : List Value) (h : zH), rn 160 4 [l0, l1] (.int x :: S) h = if x = nI 0 then rn 160 7 [l0, l1] S h else rn 160 11 [l0, l1] S h) ∧
  (∀ (l0 l1 : Value) (S : List Value) (h : zH), rn 160 7 [l0, l1] S h = rn 160 10 [l0, l1] (.long (-1) :: S) h) ∧
  (∀ (l0 l1 : Value) (x : Int64) (h : zH), rn 160 10 [l0, l1] [.long x] h = some (some (.long x), h)) ∧
  (∀ (l1 : Value) (x : Nat) (S : List Value) (h : zH), rn 160 11 [.ref x, l1] S h = rn 160 12 [.ref x, l1] (.ref x :: S) h) ∧
  (∀ (l0 l1 : Value) (a : Nat) (S : List Value) (h : zH), rn 160 12 [l0, l1] (.ref a :: S) h = zgf h a 11 0 fun v => rn 160 15 [l0, l1] (v :: S) h) ∧
  (∀ (l0 l1 : Value) (a : Nat) (S : List Value) (h : zH), rn 160 15 [l0, l1] (.ref a :: S) h = zgf h a 1 2 fun v => rn 160 18 [l0, l1] (v :: S) h) ∧
  (∀ (l0 l1 : Value) (S : List Value) (h : zH), rn 160 18 [l0, l1] S h = rn 160 20 [l0, l1] (.int (nI 12) :: S) h) ∧
  (∀ (l0 l1 : Value) (x : Int32) (y : Int32) (S : List Value) (h : zH), rn 160 20 [l0, l1] (.int y :: .int x :: S) h = if x < y then rn 160 27 [l0, l1] S h else rn 160 23 [l0, l1] S h) ∧
  (∀ (l0 l1 : Value) (S : List Value) (h : zH), rn 160 23 [l0, l1] S h = rn 160 26 [l0, l1] (.long (-2) :: S) h) ∧
  (∀ (l0 l1 : Value) (x : Int64) (h : zH), rn 160 26 [l0, l1] [.long x] h = some (some (.long x), h)) ∧
  (∀ (l1 : Value) (x : Nat) (S : List Value) (h : zH), rn 160 27 [.ref x, l1] S h = rn 160 28 [.ref x, l1] (.ref x :: S) h) ∧
  (∀ (l0 l1 : Value) (a : Nat) (S : List Value) (h : zH), rn 160 28 [l0, l1] (.ref a :: S) h = zgf h a 11 6 fun v => rn 160 31 [l0, l1] (v :: S) h) ∧
  (∀ (l1 : Value) (x : Nat) (S : List Value) (h : zH), rn 160 31 [.ref x, l1] S h = rn 160 32 [.ref x, l1] (.ref x :: S) h) ∧
  (∀ (l0 l1 : Value) (a : Nat) (S : List Value) (h : zH), rn 160 32 [l0, l1] (.ref a :: S) h = zgf h a 11 0 fun v => rn 160 35 [l0, l1] (v :: S) h) ∧
  (∀ (l0 : Value) (x : Int32) (S : List Value) (h : zH), rn 160 35 [l0, .int x] S h = rn 160 36 [l0, .int x] (.int x :: S) h) ∧
  (∀ (l0 l1 : Value) (S : List Value) (h : zH), rn 160 36 [l0, l1] S h = rn 160 37 [l0, l1] (.int (nI 1) :: S) h) ∧
  (∀ (l0 l1 : Value) (o : Nat) (v0 : Value) (v1 : Value) (v2 : Value) (S : List Value) (h : zH), rn 160 37 [l0, l1] (v2 :: v1 :: v0 :: .ref o :: S) h = if zkd h o = 9 ∧ zsum S ≤ 8 then zcall (ev 157 [.ref o, v0, v1, v2] h) (fun v h => rn 160 40 [l0, l1] (zpush v S) h) else none) ∧
  (∀ (l1 : Value) (x : Nat) (S : List Value) (h : zH), rn 160 40 [.ref x, l1] S h = rn 160 41 [.ref x, l1] (.ref x :: S) h) ∧
  (∀ (l0 l1 : Value) (a : Nat) (S : List Value) (h : zH), rn 160 41 [l0, l1] (.ref a :: S) h = zgf h a 11 6 fun v => rn 160 44 [l0, l1] (v :: S) h) ∧
  (∀ (l1 : Value) (x : Nat) (S : List Value) (h : zH), rn 160 44 [.ref x, l1] S h = rn 160 45 [.ref x, l1] (.ref x :: S) h) ∧
  (∀ (l0 l1 : Value) (a : Nat) (S : List Value) (h : zH), rn 160 45 [l0, l1] (.ref a :: S) h = zgf h a 11 0 fun v => rn 160 48 [l0, l1] (v :: S) h) ∧
  (∀ (l0 : Value) (x : Int32) (S : List Value) (h : zH), rn 160 48 [l0, .int x] S h = rn 160 49 [l0, .int x] (.int x :: S) h) ∧
  (∀ (l0 l1 : Value) (S : List Value) (h : zH), rn 160 49 [l0, l1] S h = rn 160 50 [l0, l1] (.int (nI 0) :: S) h) ∧
  (∀ (l0 l1 : Value) (o : Nat) (v0 : Value) (v1 : Value) (v2 : Value) (S : List Value) (h : zH), rn 160 50 [l0, l1] (v2 :: v1 :: v0 :: .ref o :: S) h = if zkd h o = 9 ∧ zsum S ≤ 8 then zcall (ev 157 [.ref o, v0, v1, v2] h) (fun v h => rn 160 53 [l0, l1] (zpush v S) h) else none) ∧
  (∀ (l0 l1 : Value) (x : Int64) (y : Int64) (S : List Value) (h : zH), rn 160 53 [l0, l1] (.long y :: .long x :: S) h = rn 160 54 [l0, l1] (.long (x - y) :: S) h) ∧
  (∀ (l0 l1 : Value) (x : Int64) (h : zH), rn 160 54 [l0, l1] [.long x] h = some (some (.long x), h)) := ⟨fun _ _ _ _ => r_iload_n (show zdec 160 0 = some (.iload_n 1, 1) by decide +kernel) rfl rfl,
  fun _ _ _ _ _ => r_cS [_] rfl (show zdec 160 1 = some (.invokestatic 116, 3) by decide +kernel) (show zst.lookup (160 * zKEY + 116) = some (0, 23, 1, 0) by decide +kernel) (by decide) rfl,
  fun _ _ _ _ _ => r_ifne (show zdec 160 4 = some (.ifCond .ne 7, 3) by decide +kernel) rfl rfl,
  fun _ _ _ _ => r_ldc2 (show zdec 160 7 = some (.ldc2_w 170, 3) by decide +kernel) (show zlt.lookup (160 * zKEY + 170) = some (-1) by decide +kernel) rfl,
  fun _ _ _ _ => r_lret (show zdec 160 10 = some (.lreturn, 1) by decide +kernel) (by decide +kernel),
  fun _ _ _ _ => r_aload_nr (show zdec 160 11 = some (.aload_n 0, 1) by decide +kernel) rfl rfl,
  fun _ _ _ _ _ => r_getfield (show zdec 160 12 = some (.getfield 10, 3) by decide +kernel) (show zft.lookup (160 * zKEY + 10) = some (11, 0) by decide +kernel) rfl,
  fun _ _ _ _ _ => r_getfield (show zdec 160 15 = some (.getfield 112, 3) by decide +kernel) (show zft.lookup (160 * zKEY + 112) = some (1, 2) by decide +kernel) rfl,
  fun _ _ _ _ => r_bipush (show zdec 160 18 = some (.bipush 12, 2) by decide +kernel) rfl rfl,
  fun _ _ _ _ _ _ => r_icmplt (show zdec 160 20 = some (.if_icmp .lt 7, 3) by decide +kernel) rfl rfl,
  fun _ _ _ _ => r_ldc2 (show zdec 160 23 = some (.ldc2_w 183, 3) by decide +kernel) (show zlt.lookup (160 * zKEY + 183) = some (-2) by decide +kernel) rfl,
  fun _ _ _ _ => r_lret (show zdec 160 26 = some (.lreturn, 1) by decide +kernel) (by decide +kernel),
  fun _ _ _ _ => r_aload_nr (show zdec 160 27 = some (.aload_n 0, 1) by decide +kernel) rfl rfl,
  fun _ _ _ _ _ => r_getfield (show zdec 160 28 = some (.getfield 47, 3) by decide +kernel) (show zft.lookup (160 * zKEY + 47) = some (11, 6) by decide +kernel) rfl,
  fun _ _ _ _ => r_aload_nr (show zdec 160 31 = some (.aload_n 0, 1) by decide +kernel) rfl rfl,
  fun _ _ _ _ _ => r_getfield (show zdec 160 32 = some (.getfield 10, 3) by decide +kernel) (show zft.lookup (160 * zKEY + 10) = some (11, 0) by decide +kernel) rfl,
  fun _ _ _ _ => r_iload_n (show zdec 160 35 = some (.iload_n 1, 1) by decide +kernel) rfl rfl,
  fun _ _ _ _ => r_iconst (show zdec 160 36 = some (.iconst 1, 1) by decide +kernel) rfl rfl,
  fun _ _ _ _ _ _ _ _ => r_cV [_, _, _] rfl (show zdec 160 37 = some (.invokevirtual 219, 3) by decide +kernel) (show zst.lookup (160 * zKEY + 219) = some (1, 157, 3, 9) by decide +kernel) (by decide) rfl,
  fun _ _ _ _ => r_aload_nr (show zdec 160 40 = some (.aload_n 0, 1) by decide +kernel) rfl rfl,
  fun _ _ _ _ _ => r_getfield (show zdec 160 41 = some (.getfield 47, 3) by decide +kernel) (show zft.lookup (160 * zKEY + 47) = some (11, 6) by decide +kernel) rfl,
  fun _ _ _ _ => r_aload_nr (show zdec 160 44 = some (.aload_n 0, 1) by decide +kernel) rfl rfl,
  fun _ _ _ _ _ => r_getfield (show zdec 160 45 = some (.getfield 10, 3) by decide +kernel) (show zft.lookup (160 * zKEY + 10) = some (11, 0) by decide +kernel) rfl,
  fun _ _ _ _ => r_iload_n (show zdec 160 48 = some (.iload_n 1, 1) by decide +kernel) rfl rfl,
  fun _ _ _ _ => r_iconst (show zdec 160 49 = some (.iconst 0, 1) by decide +kernel) rfl rfl,
  fun _ _ _ _ _ _ _ _ => r_cV [_, _, _] rfl (show zdec 160 50 = some (.invokevirtual 219, 3) by decide +kernel) (show zst.lookup (160 * zKEY + 219) = some (1, 157, 3, 9) by decide +kernel) (by decide) rfl,
  fun _ _ _ _ _ _ => r_lsub (show zdec 160 53 = some (.lsub, 1) by decide +kernel) rfl,
  fun _ _ _ _ => r_lret (show zdec 160 54 = some (.lreturn, 1) by decide +kernel) (by decide +kernel)⟩
theorem ze_160 : ∀ (a0 : Nat) (a1 : Int32) (h : zH), ev 160 [.ref a0, .int a1] h = rn 160 0 [.ref a0, .int a1] [] h := fun _ _ _ => if_pos (Nat.le_of_ble_eq_true rfl)
-- PayrollRun.leastSalary(II)I
theorem zr_161 : (∀ (l0 l2 : Value) (x : Int32) (S : List Value) (h : zH), rn 161 0 [l0, .int x, l2] S h = rn 161 1 [l0, .int x, l2] (.int x :: S) h) ∧
  (∀ (l0 l1 l2 : Value) (v0 : Value) (S : List Value) (h : zH), rn 161 1 [l0, l1, l2] (v0 :: S) h = if zsum S ≤ 8 then zcall (ev 23 [v0] h) (fun v h => rn 161 4 [l0, l1, l2] (zpush v S) h) else none) ∧
  (∀ (l0 l1 l2 : Value) (x : Int32) (S : List Value) (h : zH), rn 161 4 [l0, l1, l2] (.int x :: S) h = if x = nI 0 then rn 161 17 [l0, l1, l2] S h else rn 161 7 [l0, l1, l2] S h) ∧
  (∀ (l0 l1 : Value) (x : Int32) (S : List Value) (h : zH), rn 161 7 [l0, l1, .int x] S h = rn 161 8 [l0, l1, .int x] (.int x :: S) h) ∧
  (∀ (l0 l1 l2 : Value) (S : List Value) (h : zH), rn 161 8 [l0, l1, l2] S h = rn 161 9 [l0, l1, l2] (.int (nI 0) :: S) h) ∧
  (∀ (l0 l1 l2 : Value) (S : List Value) (h : zH), rn 161 9 [l0, l1, l2] S h = rn 161 11 [l0, l1, l2] (.int (nI 99999) :: S) h) ∧
  (∀ (l0 l1 l2 : Value) (v0 : Value) (v1 : Value) (v2 : Value) (S : List Value) (h : zH), rn 161 11 [l0, l1, l2] (v2 :: v1 :: v0 :: S) h = if zsum S ≤ 8 then zcall (ev 24 [v0, v1, v2] h) (fun v h => rn 161 14 [l0, l1, l2] (zpush v S) h) else none) ∧
  (∀ (l0 l1 l2 : Value) (x : Int32) (S : List Value) (h : zH), rn 161 14 [l0, l1, l2] (.int x :: S) h = if x = nI 0 then rn 161 17 [l0, l1, l2] S h else rn 161 19 [l0, l1, l2] S h) ∧
  (∀ (l0 l1 l2 : Value) (S : List Value) (h : zH), rn 161 17 [l0, l1, l2] S h = rn 161 18 [l0, l1, l2] (.int (-1) :: S) h) ∧
  (∀ (l0 l1 l2 : Value) (x : Int32) (h : zH), rn 161 18 [l0, l1, l2] [.int x] h = some (some (.int x), h)) ∧
  (∀ (l1 l2 : Value) (x : Nat) (S : List Value) (h : zH), rn 161 19 [.ref x, l1, l2] S h = rn 161 20 [.ref x, l1, l2] (.ref x :: S) h) ∧
  (∀ (l0 l1 l2 : Value) (a : Nat) (S : List Value) (h : zH), rn 161 20 [l0, l1, l2] (.ref a :: S) h = zgf h a 11 0 fun v => rn 161 23 [l0, l1, l2] (v :: S) h) ∧
  (∀ (l0 l1 l2 : Value) (a : Nat) (S : List Value) (h : zH), rn 161 23 [l0, l1, l2] (.ref a :: S) h = zgf h a 1 2 fun v => rn 161 26 [l0, l1, l2] (v :: S) h) ∧
  (∀ (l0 l1 l2 : Value) (S : List Value) (h : zH), rn 161 26 [l0, l1, l2] S h = rn 161 28 [l0, l1, l2] (.int (nI 12) :: S) h) ∧
  (∀ (l0 l1 l2 : Value) (x : Int32) (y : Int32) (S : List Value) (h : zH), rn 161 28 [l0, l1, l2] (.int y :: .int x :: S) h = if x < y then rn 161 34 [l0, l1, l2] S h else rn 161 31 [l0, l1, l2] S h) ∧
  (∀ (l0 l1 l2 : Value) (S : List Value) (h : zH), rn 161 31 [l0, l1, l2] S h = rn 161 33 [l0, l1, l2] (.int (-2) :: S) h) ∧
  (∀ (l0 l1 l2 : Value) (x : Int32) (h : zH), rn 161 33 [l0, l1, l2] [.int x] h = some (some (.int x), h)) ∧
  (∀ (l1 l2 : Value) (x : Nat) (S : List Value) (h : zH), rn 161 34 [.ref x, l1, l2] S h = rn 161 35 [.ref x, l1, l2] (.ref x :: S) h) ∧
  (∀ (l0 l1 l2 : Value) (a : Nat) (S : List Value) (h : zH), rn 161 35 [l0, l1, l2] (.ref a :: S) h = zgf h a 11 6 fun v => rn 161 38 [l0, l1, l2] (v :: S) h) ∧
  (∀ (l1 l2 : Value) (x : Nat) (S : List Value) (h : zH), rn 161 38 [.ref x, l1, l2] S h = rn 161 39 [.ref x, l1, l2] (.ref x :: S) h) ∧
  (∀ (l0 l1 l2 : Value) (a : Nat) (S : List Value) (h : zH), rn 161 39 [l0, l1, l2] (.ref a :: S) h = zgf h a 11 0 fun v => rn 161 42 [l0, l1, l2] (v :: S) h) ∧
  (∀ (l0 l2 : Value) (x : Int32) (S : List Value) (h : zH), rn 161 42 [l0, .int x, l2] S h = rn 161 43 [l0, .int x, l2] (.int x :: S) h) ∧
  (∀ (l0 l1 : Value) (x : Int32) (S : List Value) (h : zH), rn 161 43 [l0, l1, .int x] S h = rn 161 44 [l0, l1, .int x] (.int x :: S) h) ∧
  (∀ (l0 l1 l2 : Value) (x : Int32) (S : List Value) (h : zH), rn 161 44 [l0, l1, l2] (.int x :: S) h = rn 161 45 [l0, l1, l2] (.long x.toInt64 :: S) h) ∧
  (∀ (l0 l1 l2 : Value) (S : List Value) (h : zH), rn 161 45 [l0, l1, l2] S h = rn 161 48 [l0, l1, l2] (.long (1000000) :: S) h) ∧
  (∀ (l0 l1 l2 : Value) (x : Int64) (y : Int64) (S : List Value) (h : zH), rn 161 48 [l0, l1, l2] (.long y :: .long x :: S) h = rn 161 49 [l0, l1, l2] (.long (x * y) :: S) h) ∧
  (∀ (l0 l1 l2 : Value) (o : Nat) (v0 : Value) (v1 : Value) (v2 : Value) (S : List Value) (h : zH), rn 161 49 [l0, l1, l2] (v2 :: v1 :: v0 :: .ref o :: S) h = if zkd h o = 9 ∧ zsum S ≤ 8 then zcall (ev 162 [.ref o, v0, v1, v2] h) (fun v h => rn 161 52 [l0, l1, l2] (zpush v S) h) else none) ∧
  (∀ (l0 l1 l2 : Value) (x : Int32) (h : zH), rn 161 52 [l0, l1, l2] [.int x] h = some (some (.int x), h)) := ⟨fun _ _ _ _ _ => r_iload_n (show zdec 161 0 = some (.iload_n 1, 1) by decide +kernel) rfl rfl,
  fun _ _ _ _ _ _ => r_cS [_] rfl (show zdec 161 1 = some (.invokestatic 116, 3) by decide +kernel) (show zst.lookup (161 * zKEY + 116) = some (0, 23, 1, 0) by decide +kernel) (by decide) rfl,
  fun _ _ _ _ _ _ => r_ifeq (show zdec 161 4 = some (.ifCond .eq 13, 3) by decide +kernel) rfl rfl,
  fun _ _ _ _ _ => r_iload_n (show zdec 161 7 = some (.iload_n 2, 1) by decide +kernel) rfl rfl,
  fun _ _ _ _ _ => r_iconst (show zdec 161 8 = some (.iconst 0, 1) by decide +kernel) rfl rfl,
  fun _ _ _ _ _ => r_ldcI (show zdec 161 9 = some (.ldc 223, 2) by decide +kernel) (show zkt.lookup (161 * zKEY + 223) = some 99999 by decide +kernel) rfl,
  fun _ _ _ _ _ _ _ _ => r_cS [_, _, _] rfl (show zdec 161 11 = some (.invokestatic 123, 3) by decide +kernel) (show zst.lookup (161 * zKEY + 123) = some (0, 24, 3, 0) by decide +kernel) (by decide) rfl,
  fun _ _ _ _ _ _ => r_ifne (show zdec 161 14 = some (.ifCond .ne 5, 3) by decide +kernel) rfl rfl,
  fun _ _ _ _ _ => r_iconst (show zdec 161 17 = some (.iconst (-1), 1) by decide +kernel) rfl rfl,
  fun _ _ _ _ _ => r_ireti (show zdec 161 18 = some (.ireturn, 1) by decide +kernel) (by decide +kernel),
  fun _ _ _ _ _ => r_aload_nr (show zdec 161 19 = some (.aload_n 0, 1) by decide +kernel) rfl rfl,
  fun _ _ _ _ _ _ => r_getfield (show zdec 161 20 = some (.getfield 10, 3) by decide +kernel) (show zft.lookup (161 * zKEY + 10) = some (11, 0) by decide +kernel) rfl,
  fun _ _ _ _ _ _ => r_getfield (show zdec 161 23 = some (.getfield 112, 3) by decide +kernel) (show zft.lookup (161 * zKEY + 112) = some (1, 2) by decide +kernel) rfl,
  fun _ _ _ _ _ => r_bipush (show zdec 161 26 = some (.bipush 12, 2) by decide +kernel) rfl rfl,
  fun _ _ _ _ _ _ _ => r_icmplt (show zdec 161 28 = some (.if_icmp .lt 6, 3) by decide +kernel) rfl rfl,
  fun _ _ _ _ _ => r_bipush (show zdec 161 31 = some (.bipush (-2), 2) by decide +kernel) rfl rfl,
  fun _ _ _ _ _ => r_ireti (show zdec 161 33 = some (.ireturn, 1) by decide +kernel) (by decide +kernel),
  fun _ _ _ _ _ => r_aload_nr (show zdec 161 34 = some (.aload_n 0, 1) by decide +kernel) rfl rfl,
  fun _ _ _ _ _ _ => r_getfield (show zdec 161 35 = some (.getfield 47, 3) by decide +kernel) (show zft.lookup (161 * zKEY + 47) = some (11, 6) by decide +kernel) rfl,
  fun _ _ _ _ _ => r_aload_nr (show zdec 161 38 = some (.aload_n 0, 1) by decide +kernel) rfl rfl,
  fun _ _ _ _ _ _ => r_getfield (show zdec 161 39 = some (.getfield 10, 3) by decide +kernel) (show zft.lookup (161 * zKEY + 10) = some (11, 0) by decide +kernel) rfl,
  fun _ _ _ _ _ => r_iload_n (show zdec 161 42 = some (.iload_n 1, 1) by decide +kernel) rfl rfl,
  fun _ _ _ _ _ => r_iload_n (show zdec 161 43 = some (.iload_n 2, 1) by decide +kernel) rfl rfl,
  fun _ _ _ _ _ _ => r_i2l (show zdec 161 44 = some (.i2l, 1) by decide +kernel) rfl,
  fun _ _ _ _ _ => r_ldc2 (show zdec 161 45 = some (.ldc2_w 224, 3) by decide +kernel) (show zlt.lookup (161 * zKEY + 224) = some 1000000 by decide +kernel) rfl,
  fun _ _ _ _ _ _ _ => r_lmul (show zdec 161 48 = some (.lmul, 1) by decide +kernel) rfl,
  fun _ _ _ _ _ _ _ _ _ => r_cV [_, _, _] rfl (show zdec 161 49 = some (.invokevirtual 226, 3) by decide +kernel) (show zst.lookup (161 * zKEY + 226) = some (1, 162, 3, 9) by decide +kernel) (by decide) rfl,
  fun _ _ _ _ _ => r_ireti (show zdec 161 52 = some (.ireturn, 1) by decide +kernel) (by decide +kernel)⟩
theorem ze_161 : ∀ (a0 : Nat) (a1 : Int32) (a2 : Int32) (h : zH), ev 161 [.ref a0, .int a1, .int a2] h = rn 161 0 [.ref a0, .int a1, .int a2] [] h := fun _ _ _ _ => if_pos (Nat.le_of_ble_eq_true rfl)
-- PayrollRun.projected(I)J
theorem zr_164 : (∀ (l0 : Value) (x : Int32) (S : List Value) (h : zH), rn 164 0 [l0, .int x] S h = rn 164 1 [l0, .int x] (.int x :: S) h) ∧
  (∀ (l0 l1 : Value) (v0 : Value) (S : List Value) (h : zH), rn 164 1 [l0, l1] (v0 :: S) h = if zsum S ≤ 8 then zcall (ev 23 [v0] h) (fun v h => rn 164 4 [l0, l1] (zpush v S) h) else none) ∧
  (∀ (l0 l1 : Value) (x : Int32) (S : List Value) (h : zH), rn 164 4 [l0, l1] (.int x :: S) h = if x = nI 0 then rn 164 7 [l0, l1] S h else rn 164 11 [l0, l1] S h) ∧
  (∀ (l0 l1 : Value) (S : List Value) (h : zH), rn 164 7 [l0, l1] S h = rn 164 10 [l0, l1] (.long (-1) :: S) h) ∧
  (∀ (l0 l1 : Value) (x : Int64) (h : zH), rn 164 10 [l0, l1] [.long x] h = some (some (.long x), h)) ∧
  (∀ (l1 : Value) (x : Nat) (S : List Value) (h : zH), rn 164 11 [.ref x, l1] S h = rn 164 12 [.ref x, l1] (.ref x :: S) h) ∧
  (∀ (l0 l1 : Value) (a : Nat) (S : List Value) (h : zH), rn 164 12 [l0, l1] (.ref a :: S) h = zgf h a 11 0 fun v => rn 164 15 [l0, l1] (v :: S) h) ∧
  (∀ (l0 l1 : Value) (a : Nat) (S : List Value) (h : zH), rn 164 15 [l0, l1] (.ref a :: S) h = zgf h a 1 0 fun v => rn 164 18 [l0, l1] (v :: S) h) ∧
  (∀ (l0 : Value) (x : Int32) (S : List Value) (h : zH), rn 164 18 [l0, .int x] S h = rn 164 19 [l0, .int x] (.int x :: S) h) ∧
  (∀ (l0 l1 : Value) (a : Nat) (j : Int32) (S : List Value) (h : zH), rn 164 19 [l0, l1] (.int j :: .ref a :: S) h = zlq h a j fun x => rn 164 20 [l0, l1] (va_rf x :: S) h) ∧
  (∀ (l0 l1 : Value) (S : List Value) (h : zH), rn 164 20 [l0, l1] S h = rn 164 22 [l0, l1] (.int (nI 7) :: S) h) ∧
  (∀ (l0 l1 : Value) (o : Nat) (v0 : Value) (S : List Value) (h : zH), rn 164 22 [l0, l1] (v0 :: .ref o :: S) h = if zkd h o = 10 ∧ zsum S ≤ 8 then zcall (ev 165 [.ref o, v0] h) (fun v h => rn 164 25 [l0, l1] (zpush v S) h) else none) ∧
  (∀ (l1 : Value) (x : Nat) (S : List Value) (h : zH), rn 164 25 [.ref x, l1] S h = rn 164 26 [.ref x, l1] (.ref x :: S) h) ∧
  (∀ (l0 l1 : Value) (a : Nat) (S : List Value) (h : zH), rn 164 26 [l0, l1] (.ref a :: S) h = zgf h a 11 6 fun v => rn 164 29 [l0, l1] (v :: S) h) ∧
  (∀ (l1 : Value) (x : Nat) (S : List Value) (h : zH), rn 164 29 [.ref x, l1] S h = rn 164 30 [.ref x, l1] (.ref x :: S) h) ∧
  (∀ (l0 l1 : Value) (a : Nat) (S : List Value) (h : zH), rn 164 30 [l0, l1] (.ref a :: S) h = zgf h a 11 0 fun v => rn 164 33 [l0, l1] (v :: S) h) ∧
  (∀ (l0 : Value) (x : Int32) (S : List Value) (h : zH), rn 164 33 [l0, .int x] S h = rn 164 34 [l0, .int x] (.int x :: S) h) ∧
  (∀ (l0 l1 : Value) (o : Nat) (v0 : Value) (v1 : Value) (S : List Value) (h : zH), rn 164 34 [l0, l1] (v1 :: v0 :: .ref o :: S) h = if zkd h o = 9 ∧ zsum S ≤ 8 then zcall (ev 168 [.ref o, v0, v1] h) (fun v h => rn 164 37 [l0, l1] (zpush v S) h) else none) ∧
  (∀ (l0 l1 : Value) (x : Int64) (y : Int64) (S : List Value) (h : zH), rn 164 37 [l0, l1] (.long y :: .long x :: S) h = rn 164 38 [l0, l1] (.long (x + y) :: S) h) ∧
  (∀ (l0 l1 : Value) (x : Int64) (h : zH), rn 164 38 [l0, l1] [.long x] h = some (some (.long x), h)) := ⟨fun _ _ _ _ => r_iload_n (show zdec 164 0 = some (.iload_n 1, 1) by decide +kernel) rfl rfl,
  fun _ _ _ _ _ => r_cS [_] rfl (show zdec 164 1 = some (.invokestatic 116, 3) by decide +kernel) (show zst.lookup (164 * zKEY + 116) = some (0, 23, 1, 0) by decide +kernel) (by decide) rfl,
  fun _ _ _ _ _ => r_ifne (show zdec 164 4 = some (.ifCond .ne 7, 3) by decide +kernel) rfl rfl,
  fun _ _ _ _ => r_ldc2 (show zdec 164 7 = some (.ldc2_w 170, 3) by decide +kernel) (show zlt.lookup (164 * zKEY + 170) = some (-1) by decide +kernel) rfl,
  fun _ _ _ _ => r_lret (show zdec 164 10 = some (.lreturn, 1) by decide +kernel) (by decide +kernel),
  fun _ _ _ _ => r_aload_nr (show zdec 164 11 = some (.aload_n 0, 1) by decide +kernel) rfl rfl,
  fun _ _ _ _ _ => r_getfield (show zdec 164 12 = some (.getfield 10, 3) by decide +kernel) (show zft.lookup (164 * zKEY + 10) = some (11, 0) by decide +kernel) rfl,
  fun _ _ _ _ _ => r_getfield (show zdec 164 15 = some (.getfield 127, 3) by decide +kernel) (show zft.lookup (164 * zKEY + 127) = some (1, 0) by decide +kernel) rfl,
  fun _ _ _ _ => r_iload_n (show zdec 164 18 = some (.iload_n 1, 1) by decide +kernel) rfl rfl,
  fun _ _ _ _ _ _ => r_aald (show zdec 164 19 = some (.aaload, 1) by decide +kernel) rfl,
  fun _ _ _ _ => r_bipush (show zdec 164 20 = some (.bipush 7, 2) by decide +kernel) rfl rfl,
  fun _ _ _ _ _ _ => r_cV [_] rfl (show zdec 164 22 = some (.invokevirtual 230, 3) by decide +kernel) (show zst.lookup (164 * zKEY + 230) = some (1, 165, 1, 10) by decide +kernel) (by decide) rfl,
  fun _ _ _ _ => r_aload_nr (show zdec 164 25 = some (.aload_n 0, 1) by decide +kernel) rfl rfl,
  fun _ _ _ _ _ => r_getfield (show zdec 164 26 = some (.getfield 47, 3) by decide +kernel) (show zft.lookup (164 * zKEY + 47) = some (11, 6) by decide +kernel) rfl,
  fun _ _ _ _ => r_aload_nr (show zdec 164 29 = some (.aload_n 0, 1) by decide +kernel) rfl rfl,
  fun _ _ _ _ _ => r_getfield (show zdec 164 30 = some (.getfield 10, 3) by decide +kernel) (show zft.lookup (164 * zKEY + 10) = some (11, 0) by decide +kernel) rfl,
  fun _ _ _ _ => r_iload_n (show zdec 164 33 = some (.iload_n 1, 1) by decide +kernel) rfl rfl,
  fun _ _ _ _ _ _ _ => r_cV [_, _] rfl (show zdec 164 34 = some (.invokevirtual 234, 3) by decide +kernel) (show zst.lookup (164 * zKEY + 234) = some (1, 168, 2, 9) by decide +kernel) (by decide) rfl,
  fun _ _ _ _ _ _ => r_ladd (show zdec 164 37 = some (.ladd, 1) by decide +kernel) rfl,
  fun _ _ _ _ => r_lret (show zdec 164 38 = some (.lreturn, 1) by decide +kernel) (by decide +kernel)⟩
theorem ze_164 : ∀ (a0 : Nat) (a1 : Int32) (h : zH), ev 164 [.ref a0, .int a1] h = rn 164 0 [.ref a0, .int a1] [] h := fun _ _ _ => if_pos (Nat.le_of_ble_eq_true rfl)
-- PayrollRun.total(II)J
theorem zr_169 : (∀ (l0 l1 l3 : Value) (x : Int32) (S : List Value) (h : zH), rn 169 0 [l0, l1, .int x, l3] S h = rn 169 1 [l0, l1, .int x, l3] (.int x :: S) h) ∧
  (∀ (l0 l1 l2 l3 : Value) (S : List Value) (h : zH), rn 169 1 [l0, l1, l2, l3] S h = rn 169 2 [l0, l1, l2, l3] (.int (nI 0) :: S) h) ∧
  (∀ (l0 l1 l2 l3 : Value) (S : List Value) (h : zH), rn 169 2 [l0, l1, l2, l3] S h = rn 169 3 [l0, l1, l2, l3] (.int (nI 3) :: S) h) ∧
  (∀ (l0 l1 l2 l3 : Value) (v0 : Value) (v1 : Value) (v2 : Value) (S : List Value) (h : zH), rn 169 3 [l0, l1, l2, l3] (v2 :: v1 :: v0 :: S) h = if zsum S ≤ 8 then zcall (ev 24 [v0, v1, v2] h) (fun v h => rn 169 6 [l0, l1, l2, l3] (zpush v S) h) else none) ∧
  (∀ (l0 l1 l2 l3 : Value) (x : Int32) (S : List Value) (h : zH), rn 169 6 [l0, l1, l2, l3] (.int x :: S) h = if x = nI 0 then rn 169 9 [l0, l1, l2, l3] S h else rn 169 26 [l0, l1, l2, l3] S h) ∧
  (∀ (l0 l1 l3 : Value) (x : Int32) (S : List Value) (h : zH), rn 169 9 [l0, l1, .int x, l3] S h = rn 169 10 [l0, l1, .int x, l3] (.int x :: S) h) ∧
  (∀ (l0 l1 l2 l3 : Value) (S : List Value) (h : zH), rn 169 10 [l0, l1, l2, l3] S h = rn 169 11 [l0, l1, l2, l3] (.int (nI 5) :: S) h) ∧
  (∀ (l0 l1 l2 l3 : Value) (x : Int32) (y : Int32) (S : List Value) (h : zH), rn 169 11 [l0, l1, l2, l3] (.int y :: .int x :: S) h = if x = y then rn 169 26 [l0, l1, l2, l3] S h else rn 169 14 [l0, l1, l2, l3] S h) ∧
  (∀ (l0 l1 l3 : Value) (x : Int32) (S : List Value) (h : zH), rn 169 14 [l0, l1, .int x, l3] S h = rn 169 15 [l0, l1, .int x, l3] (.int x :: S) h) ∧
  (∀ (l0 l1 l2 l3 : Value) (S : List Value) (h : zH), rn 169 15 [l0, l1, l2, l3] S h = rn 169 17 [l0, l1, l2, l3] (.int (nI 7) :: S) h) ∧
  (∀ (l0 l1 l2 l3 : Value) (x : Int32) (y : Int32) (S : List Value) (h : zH), rn 169 17 [l0, l1, l2, l3] (.int y :: .int x :: S) h = if x = y then rn 169 26 [l0, l1, l2, l3] S h else rn 169 20 [l0, l1, l2, l3] S h) ∧
  (∀ (l0 l1 l3 : Value) (x : Int32) (S : List Value) (h : zH), rn 169 20 [l0, l1, .int x, l3] S h = rn 169 21 [l0, l1, .int x, l3] (.int x :: S) h) ∧
  (∀ (l0 l1 l2 l3 : Value) (S : List Value) (h : zH), rn 169 21 [l0, l1, l2, l3] S h = rn 169 23 [l0, l1, l2, l3] (.int (nI 8) :: S) h) ∧
  (∀ (l0 l1 l2 l3 : Value) (x : Int32) (y : Int32) (S : List Value) (h : zH), rn 169 23 [l0, l1, l2, l3] (.int y :: .int x :: S) h = if x = y then rn 169 26 [l0, l1, l2, l3] S h else rn 169 30 [l0, l1, l2, l3] S h) ∧
  (∀ (l0 l1 l2 l3 : Value) (S : List Value) (h : zH), rn 169 26 [l0, l1, l2, l3] S h = rn 169 27 [l0, l1, l2, l3] (.int (nI 1) :: S) h) ∧
  (∀ (l0 l1 l2 l3 : Value) (S : List Value) (h : zH), rn 169 27 [l0, l1, l2, l3] S h = rn 169 31 [l0, l1, l2, l3] S h) ∧
  (∀ (l0 l1 l2 l3 : Value) (S : List Value) (h : zH), rn 169 30 [l0, l1, l2, l3] S h = rn 169 31 [l0, l1, l2, l3] (.int (nI 0) :: S) h) ∧
  (∀ (l0 l1 l2 l3 : Value) (x : Int32) (S : List Value) (h : zH), rn 169 31 [l0, l1, l2, l3] (.int x :: S) h = nl l2 (rn 169 32 [l0, l1, l2, .int x] S h)) ∧
  (∀ (l0 l2 l3 : Value) (x : Int32) (S : List Value) (h : zH), rn 169 32 [l0, .int x, l2, l3] S h = rn 169 33 [l0, .int x, l2, l3] (.int x :: S) h) ∧
  (∀ (l0 l1 l2 l3 : Value) (v0 : Value) (S : List Value) (h : zH), rn 169 33 [l0, l1, l2, l3] (v0 :: S) h = if zsum S ≤ 8 then zcall (ev 23 [v0] h) (fun v h => rn 169 36 [l0, l1, l2, l3] (zpush v S) h) else none) ∧
  (∀ (l0 l1 l2 l3 : Value) (x : Int32) (S : List Value) (h : zH), rn 169 36 [l0, l1, l2, l3] (.int x :: S) h = if x = nI 0 then rn 169 43 [l0, l1, l2, l3] S h else rn 169 39 [l0, l1, l2, l3] S h) ∧
  (∀ (l0 l1 l2 : Value) (x : Int32) (S : List Value) (h : zH), rn 169 39 [l0, l1, l2, .int x] S h = rn 169 40 [l0, l1, l2, .int x] (.int x :: S) h) ∧
  (∀ (l0 l1 l2 l3 : Value) (x : Int32) (S : List Value) (h : zH), rn 169 40 [l0, l1, l2, l3] (.int x :: S) h = if x = nI 0 then rn 169 43 [l0, l1, l2, l3] S h else rn 169 47 [l0, l1, l2, l3] S h) ∧
  (∀ (l0 l1 l2 l3 : Value) (S : List Value) (h : zH), rn 169 43 [l0, l1, l2, l3] S h = rn 169 46 [l0, l1, l2, l3] (.long (-1) :: S) h) ∧
  (∀ (l0 l1 l2 l3 : Value) (x : Int64) (h : zH), rn 169 46 [l0, l1, l2, l3] [.long x] h = some (some (.long x), h)) ∧
  (∀ (l1 l2 l3 : Value) (x : Nat) (S : List Value) (h : zH), rn 169 47 [.ref x, l1, l2, l3] S h = rn 169 48 [.ref x, l1, l2, l3] (.ref x :: S) h) ∧
  (∀ (l0 l1 l2 l3 : Value) (a : Nat) (S : List Value) (h : zH), rn 169 48 [l0, l1, l2, l3] (.ref a :: S) h = zgf h a 11 0 fun v => rn 169 51 [l0, l1, l2, l3] (v :: S) h) ∧
  (∀ (l0 l1 l2 l3 : Value) (a : Nat) (S : List Value) (h : zH), rn 169 51 [l0, l1, l2, l3] (.ref a :: S) h = zgf h a 1 0 fun v => rn 169 54 [l0, l1, l2, l3] (v :: S) h) ∧
  (∀ (l0 l2 l3 : Value) (x : Int32) (S : List Value) (h : zH), rn 169 54 [l0, .int x, l2, l3] S h = rn 169 55 [l0, .int x, l2, l3] (.int x :: S) h) ∧
  (∀ (l0 l1 l2 l3 : Value) (a : Nat) (j : Int32) (S : List Value) (h : zH), rn 169 55 [l0, l1, l2, l3] (.int j :: .ref a :: S) h = zlq h a j fun x => rn 169 56 [l0, l1, l2, l3] (va_rf x :: S) h) ∧
  (∀ (l0 l1 l3 : Value) (x : Int32) (S : List Value) (h : zH), rn 169 56 [l0, l1, .int x, l3] S h = rn 169 57 [l0, l1, .int x, l3] (.int x :: S) h) ∧
  (∀ (l0 l1 l2 l3 : Value) (o : Nat) (v0 : Value) (S : List Value) (h : zH), rn 169 57 [l0, l1, l2, l3] (v0 :: .ref o :: S) h = if zkd h o = 10 ∧ zsum S ≤ 8 then zcall (ev 165 [.ref o, v0] h) (fun v h => rn 169 60 [l0, l1, l2, l3] (zpush v S) h) else none) ∧
  (∀ (l0 l1 l2 l3 : Value) (x : Int64) (h : zH), rn 169 60 [l0, l1, l2, l3] [.long x] h = some (some (.long x), h)) := ⟨fun _ _ _ _ _ _ => r_iload_n (show zdec 169 0 = some (.iload_n 2, 1) by decide +kernel) rfl rfl,
  fun _ _ _ _ _ _ => r_iconst (show zdec 169 1 = some (.iconst 0, 1) by decide +kernel) rfl rfl,
  fun _ _ _ _ _ _ => r_iconst (show zdec 169 2 = some (.iconst 3, 1) by decide +kernel) rfl rfl,
  fun _ _ _ _ _ _ _ _ _ => r_cS [_, _, _] rfl (show zdec 169 3 = some (.invokestatic 123, 3) by decide +kernel) (show zst.lookup (169 * zKEY + 123) = some (0, 24, 3, 0) by decide +kernel) (by decide) rfl,
  fun _ _ _ _ _ _ _ => r_ifne (show zdec 169 6 = some (.ifCond .ne 20, 3) by decide +kernel) rfl rfl,
  fun _ _ _ _ _ _ => r_iload_n (show zdec 169 9 = some (.iload_n 2, 1) by decide +kernel) rfl rfl,
  fun _ _ _ _ _ _ => r_iconst (show zdec 169 10 = some (.iconst 5, 1) by decide +kernel) rfl rfl,
  fun _ _ _ _ _ _ _ _ => r_icmpeq (show zdec 169 11 = some (.if_icmp .eq 15, 3) by decide +kernel) rfl rfl,
  fun _ _ _ _ _ _ => r_iload_n (show zdec 169 14 = some (.iload_n 2, 1) by decide +kernel) rfl rfl,
  fun _ _ _ _ _ _ => r_bipush (show zdec 169 15 = some (.bipush 7, 2) by decide +kernel) rfl rfl,
  fun _ _ _ _ _ _ _ _ => r_icmpeq (show zdec 169 17 = some (.if_icmp .eq 9, 3) by decide +kernel) rfl rfl,
  fun _ _ _ _ _ _ => r_iload_n (show zdec 169 20 = some (.iload_n 2, 1) by decide +kernel) rfl rfl,
  fun _ _ _ _ _ _ => r_bipush (show zdec 169 21 = some (.bipush 8, 2) by decide +kernel) rfl rfl,
  fun _ _ _ _ _ _ _ _ => r_icmpne (show zdec 169 23 = some (.if_icmp .ne 7, 3) by decide +kernel) rfl rfl,
  fun _ _ _ _ _ _ => r_iconst (show zdec 169 26 = some (.iconst 1, 1) by decide +kernel) rfl rfl,
  fun _ _ _ _ _ _ => r_goto (show zdec 169 27 = some (.goto 4, 3) by decide +kernel) rfl,
  fun _ _ _ _ _ _ => r_iconst (show zdec 169 30 = some (.iconst 0, 1) by decide +kernel) rfl rfl,
  fun _ _ _ _ _ _ _ => r_istore_n (show zdec 169 31 = some (.istore_n 3, 1) by decide +kernel) rfl rfl (Nat.le_of_ble_eq_true rfl) rfl rfl,
  fun _ _ _ _ _ _ => r_iload_n (show zdec 169 32 = some (.iload_n 1, 1) by decide +kernel) rfl rfl,
  fun _ _ _ _ _ _ _ => r_cS [_] rfl (show zdec 169 33 = some (.invokestatic 116, 3) by decide +kernel) (show zst.lookup (169 * zKEY + 116) = some (0, 23, 1, 0) by decide +kernel) (by decide) rfl,
  fun _ _ _ _ _ _ _ => r_ifeq (show zdec 169 36 = some (.ifCond .eq 7, 3) by decide +kernel) rfl rfl,
  fun _ _ _ _ _ _ => r_iload_n (show zdec 169 39 = some (.iload_n 3, 1) by decide +kernel) rfl rfl,
  fun _ _ _ _ _ _ _ => r_ifne (show zdec 169 40 = some (.ifCond .ne 7, 3) by decide +kernel) rfl rfl,
  fun _ _ _ _ _ _ => r_ldc2 (show zdec 169 43 = some (.ldc2_w 170, 3) by decide +kernel) (show zlt.lookup (169 * zKEY + 170) = some (-1) by decide +kernel) rfl,
  fun _ _ _ _ _ _ => r_lret (show zdec 169 46 = some (.lreturn, 1) by decide +kernel) (by decide +kernel),
  fun _ _ _ _ _ _ => r_aload_nr (show zdec 169 47 = some (.aload_n 0, 1) by decide +kernel) rfl rfl,
  fun _ _ _ _ _ _ _ => r_getfield (show zdec 169 48 = some (.getfield 10, 3) by decide +kernel) (show zft.lookup (169 * zKEY + 10) = some (11, 0) by decide +kernel) rfl,
  fun _ _ _ _ _ _ _ => r_getfield (show zdec 169 51 = some (.getfield 127, 3) by decide +kernel) (show zft.lookup (169 * zKEY + 127) = some (1, 0) by decide +kernel) rfl,
  fun _ _ _ _ _ _ => r_iload_n (show zdec 169 54 = some (.iload_n 1, 1) by decide +kernel) rfl rfl,
  fun _ _ _ _ _ _ _ _ => r_aald (show zdec 169 55 = some (.aaload, 1) by decide +kernel) rfl,
  fun _ _ _ _ _ _ => r_iload_n (show zdec 169 56 = some (.iload_n 2, 1) by decide +kernel) rfl rfl,
  fun _ _ _ _ _ _ _ _ => r_cV [_] rfl (show zdec 169 57 = some (.invokevirtual 230, 3) by decide +kernel) (show zst.lookup (169 * zKEY + 230) = some (1, 165, 1, 10) by decide +kernel) (by decide) rfl,
  fun _ _ _ _ _ _ => r_lret (show zdec 169 60 = some (.lreturn, 1) by decide +kernel) (by decide +kernel)⟩
theorem ze_169 : ∀ (a0 : Nat) (a1 : Int32) (a2 : Int32) (h : zH), ev 169 [.ref a0, .int a1, .int a2] h = rn 169 0 [.ref a0, .int a1, .int a2, .float 0] [] h := fun _ _ _ _ => if_pos (Nat.le_of_ble_eq_true rfl)
-- PayrollRun.oneRun(II)J
theorem zr_170 : (∀ (l0 l2 : Value) (x : Int32) (S : List Value) (h : zH), rn 170 0 [l0, .int x, l2] S h = rn 170 1 [l0, .int x, l2] (.int x :: S) h) ∧
  (∀ (l0 l1 l2 : Value) (v0 : Value) (S : List Value) (h : zH), rn 170 1 [l0, l1, l2] (v0 :: S) h = if zsum S ≤ 8 then zcall (ev 23 [v0] h) (fun v h => rn 170 4 [l0, l1, l2] (zpush v S) h) else none) ∧
  (∀ (l0 l1 l2 : Value) (x : Int32) (S : List Value) (h : zH), rn 170 4 [l0, l1, l2] (.int x :: S) h = if x = nI 0 then rn 170 16 [l0, l1, l2] S h else rn 170 7 [l0, l1, l2] S h) ∧
  (∀ (l0 l1 : Value) (x : Int32) (S : List Value) (h : zH), rn 170 7 [l0, l1, .int x] S h = rn 170 8 [l0, l1, .int x] (.int x :: S) h) ∧
  (∀ (l0 l1 l2 : Value) (S : List Value) (h : zH), rn 170 8 [l0, l1, l2] S h = rn 170 9 [l0, l1, l2] (.int (nI 0) :: S) h) ∧
  (∀ (l0 l1 l2 : Value) (S : List Value) (h : zH), rn 170 9 [l0, l1, l2] S h = rn 170 10 [l0, l1, l2] (.int (nI 4) :: S) h) ∧
  (∀ (l0 l1 l2 : Value) (v0 : Value) (v1 : Value) (v2 : Value) (S : List Value) (h : zH), rn 170 10 [l0, l1, l2] (v2 :: v1 :: v0 :: S) h = if zsum S ≤ 8 then zcall (ev 24 [v0, v1, v2] h) (fun v h => rn 170 13 [l0, l1, l2] (zpush v S) h) else none) ∧
  (∀ (l0 l1 l2 : Value) (x : Int32) (S : List Value) (h : zH), rn 170 13 [l0, l1, l2] (.int x :: S) h = if x = nI 0 then rn 170 16 [l0, l1, l2] S h else rn 170 20 [l0, l1, l2] S h) ∧
  (∀ (l0 l1 l2 : Value) (S : List Value) (h : zH), rn 170 16 [l0, l1, l2] S h = rn 170 19 [l0, l1, l2] (.long (-1) :: S) h) ∧
  (∀ (l0 l1 l2 : Value) (x : Int64) (h : zH), rn 170 19 [l0, l1, l2] [.long x] h = some (some (.long x), h)) ∧
  (∀ (l1 l2 : Value) (x : Nat) (S : List Value) (h : zH), rn 170 20 [.ref x, l1, l2] S h = rn 170 21 [.ref x, l1, l2] (.ref x :: S) h) ∧
  (∀ (l0 l1 l2 : Value) (a : Nat) (S : List Value) (h : zH), rn 170 21 [l0, l1, l2] (.ref a :: S) h = zgf h a 11 0 fun v => rn 170 24 [l0, l1, l2] (v :: S) h) ∧
  (∀ (l0 l2 : Value) (x : Int32) (S : List Value) (h : zH), rn 170 24 [l0, .int x, l2] S h = rn 170 25 [l0, .int x, l2] (.int x :: S) h) ∧
  (∀ (l0 l1 : Value) (x : Int32) (S : List Value) (h : zH), rn 170 25 [l0, l1, .int x] S h = rn 170 26 [l0, l1, .int x] (.int x :: S) h) ∧
  (∀ (l0 l1 l2 : Value) (o : Nat) (v0 : Value) (v1 : Value) (S : List Value) (h : zH), rn 170 26 [l0, l1, l2] (v1 :: v0 :: .ref o :: S) h = if zkd h o = 1 ∧ zsum S ≤ 8 then zcall (ev 171 [.ref o, v0, v1] h) (fun v h => rn 170 29 [l0, l1, l2] (zpush v S) h) else none) ∧
  (∀ (l0 l1 l2 : Value) (x : Int64) (h : zH), rn 170 29 [l0, l1, l2] [.long x] h = some (some (.long x), h)) := ⟨fun _ _ _ _ _ => r_iload_n (show zdec 170 0 = some (.iload_n 1, 1) by decide +kernel) rfl rfl,
  fun _ _ _ _ _ _ => r_cS [_] rfl (show zdec 170 1 = some (.invokestatic 116, 3) by decide +kernel) (show zst.lookup (170 * zKEY + 116) = some (0, 23, 1, 0) by decide +kernel) (by decide) rfl,
  fun _ _ _ _ _ _ => r_ifeq (show zdec 170 4 = some (.ifCond .eq 12, 3) by decide +kernel) rfl rfl,
  fun _ _ _ _ _ => r_iload_n (show zdec 170 7 = some (.iload_n 2, 1) by decide +kernel) rfl rfl,
  fun _ _ _ _ _ => r_iconst (show zdec 170 8 = some (.iconst 0, 1) by decide +kernel) rfl rfl,
  fun _ _ _ _ _ => r_iconst (show zdec 170 9 = some (.iconst 4, 1) by decide +kernel) rfl rfl,
  fun _ _ _ _ _ _ _ _ => r_cS [_, _, _] rfl (show zdec 170 10 = some (.invokestatic 123, 3) by decide +kernel) (show zst.lookup (170 * zKEY + 123) = some (0, 24, 3, 0) by decide +kernel) (by decide) rfl,
  fun _ _ _ _ _ _ => r_ifne (show zdec 170 13 = some (.ifCond .ne 7, 3) by decide +kernel) rfl rfl,
  fun _ _ _ _ _ => r_ldc2 (show zdec 170 16 = some (.ldc2_w 170, 3) by decide +kernel) (show zlt.lookup (170 * zKEY + 170) = some (-1) by decide +kernel) rfl,
  fun _ _ _ _ _ => r_lret (show zdec 170 19 = some (.lreturn, 1) by decide +kernel) (by decide +kernel),
  fun _ _ _ _ _ => r_aload_nr (show zdec 170 20 = some (.aload_n 0, 1) by decide +kernel) rfl rfl,
  fun _ _ _ _ _ _ => r_getfield (show zdec 170 21 = some (.getfield 10, 3) by decide +kernel) (show zft.lookup (170 * zKEY + 10) = some (11, 0) by decide +kernel) rfl,
  fun _ _ _ _ _ => r_iload_n (show zdec 170 24 = some (.iload_n 1, 1) by decide +kernel) rfl rfl,
  fun _ _ _ _ _ => r_iload_n (show zdec 170 25 = some (.iload_n 2, 1) by decide +kernel) rfl rfl,
  fun _ _ _ _ _ _ _ _ => r_cV [_, _] rfl (show zdec 170 26 = some (.invokevirtual 238, 3) by decide +kernel) (show zst.lookup (170 * zKEY + 238) = some (1, 171, 2, 1) by decide +kernel) (by decide) rfl,
  fun _ _ _ _ _ => r_lret (show zdec 170 29 = some (.lreturn, 1) by decide +kernel) (by decide +kernel)⟩
theorem ze_170 : ∀ (a0 : Nat) (a1 : Int32) (a2 : Int32) (h : zH), ev 170 [.ref a0, .int a1, .int a2] h = rn 170 0 [.ref a0, .int a1, .int a2] [] h := fun _ _ _ _ => if_pos (Nat.le_of_ble_eq_true rfl)
-- PayrollRun/Books.inOneRun(II)J
theorem zr_171 : (∀ (l1 l2 : Value) (x : Nat) (S : List Value) (h : zH), rn 171 0 [.ref x, l1, l2] S h = rn 171 1 [.ref x, l1, l2] (.ref x :: S) h) ∧
  (∀ (l0 l1 l2 : Value) (a : Nat) (S : List Value) (h : zH), rn 171 1 [l0, l1, l2] (.ref a :: S) h = zgf h a 1 1 fun v => rn 171 4 [l0, l1, l2] (v :: S) h) ∧
  (∀ (l0 l1 : Value) (x : Int32) (S : List Value) (h : zH), rn 171 4 [l0, l1, .int x] S h = rn 171 5 [l0, l1, .int x] (.int x :: S) h) ∧
  (∀ (l1 l2 : Value) (x : Nat) (S : List Value) (h : zH), rn 171 5 [.ref x, l1, l2] S h = rn 171 6 [.ref x, l1, l2] (.ref x :: S) h) ∧
  (∀ (l0 l1 l2 : Value) (a : Nat) (S : List Value) (h : zH), rn 171 6 [l0, l1, l2] (.ref a :: S) h = zgf h a 1 0 fun v => rn 171 9 [l0, l1, l2] (v :: S) h) ∧
  (∀ (l0 l2 : Value) (x : Int32) (S : List Value) (h : zH), rn 171 9 [l0, .int x, l2] S h = rn 171 10 [l0, .int x, l2] (.int x :: S) h) ∧
  (∀ (l0 l1 l2 : Value) (a : Nat) (j : Int32) (S : List Value) (h : zH), rn 171 10 [l0, l1, l2] (.int j :: .ref a :: S) h = zlq h a j fun x => rn 171 11 [l0, l1, l2] (va_rf x :: S) h) ∧
  (∀ (l1 l2 : Value) (x : Nat) (S : List Value) (h : zH), rn 171 11 [.ref x, l1, l2] S h = rn 171 12 [.ref x, l1, l2] (.ref x :: S) h) ∧
  (∀ (l0 l1 l2 : Value) (a : Nat) (S : List Value) (h : zH), rn 171 12 [l0, l1, l2] (.ref a :: S) h = zgf h a 1 2 fun v => rn 171 15 [l0, l1, l2] (v :: S) h) ∧
  (∀ (l0 l1 l2 : Value) (o : Nat) (v0 : Value) (S : List Value) (h : zH), rn 171 15 [l0, l1, l2] (v0 :: .ref o :: S) h = if zkd h o = 10 ∧ zsum S ≤ 8 then zcall (ev 163 [.ref o, v0] h) (fun v h => rn 171 18 [l0, l1, l2] (zpush v S) h) else none) ∧
  (∀ (l0 l1 l2 : Value) (o : Nat) (v0 : Value) (v1 : Value) (S : List Value) (h : zH), rn 171 18 [l0, l1, l2] (v1 :: v0 :: .ref o :: S) h = if zkd h o = 6 ∧ zsum S ≤ 8 then zcall (ev 63 [.ref o, v0, v1] h) (fun v h => rn 171 21 [l0, l1, l2] (zpush v S) h) else none) ∧
  (∀ (l0 l1 l2 : Value) (x : Int64) (h : zH), rn 171 21 [l0, l1, l2] [.long x] h = some (some (.long x), h)) := ⟨fun _ _ _ _ _ => r_aload_nr (show zdec 171 0 = some (.aload_n 0, 1) by decide +kernel) rfl rfl,
  fun _ _ _ _ _ _ => r_getfield (show zdec 171 1 = some (.getfield 20, 3) by decide +kernel) (show zft.lookup (171 * zKEY + 20) = some (1, 1) by decide +kernel) rfl,
  fun _ _ _ _ _ => r_iload_n (show zdec 171 4 = some (.iload_n 2, 1) by decide +kernel) rfl rfl,
  fun _ _ _ _ _ => r_aload_nr (show zdec 171 5 = some (.aload_n 0, 1) by decide +kernel) rfl rfl,
  fun _ _ _ _ _ _ => r_getfield (show zdec 171 6 = some (.getfield 11, 3) by decide +kernel) (show zft.lookup (171 * zKEY + 11) = some (1, 0) by decide +kernel) rfl,
  fun _ _ _ _ _ => r_iload_n (show zdec 171 9 = some (.iload_n 1, 1) by decide +kernel) rfl rfl,
  fun _ _ _ _ _ _ _ => r_aald (show zdec 171 10 = some (.aaload, 1) by decide +kernel) rfl,
  fun _ _ _ _ _ => r_aload_nr (show zdec 171 11 = some (.aload_n 0, 1) by decide +kernel) rfl rfl,
  fun _ _ _ _ _ _ => r_getfield (show zdec 171 12 = some (.getfield 24, 3) by decide +kernel) (show zft.lookup (171 * zKEY + 24) = some (1, 2) by decide +kernel) rfl,
  fun _ _ _ _ _ _ _ => r_cV [_] rfl (show zdec 171 15 = some (.invokevirtual 121, 3) by decide +kernel) (show zst.lookup (171 * zKEY + 121) = some (1, 163, 1, 10) by decide +kernel) (by decide) rfl,
  fun _ _ _ _ _ _ _ _ => r_cV [_, _] rfl (show zdec 171 18 = some (.invokevirtual 125, 3) by decide +kernel) (show zst.lookup (171 * zKEY + 125) = some (1, 63, 2, 6) by decide +kernel) (by decide) rfl,
  fun _ _ _ _ _ => r_lret (show zdec 171 21 = some (.lreturn, 1) by decide +kernel) (by decide +kernel)⟩
theorem ze_171 : ∀ (a0 : Nat) (a1 : Int32) (a2 : Int32) (h : zH), ev 171 [.ref a0, .int a1, .int a2] h = rn 171 0 [.ref a0, .int a1, .int a2] [] h := fun _ _ _ _ => if_pos (Nat.le_of_ble_eq_true rfl)
-- PayrollRun.account(II)J
theorem zr_172 : (∀ (l0 l2 l3 l4 l5 : Value) (x : Int32) (S : List Value) (h : zH), rn 172 0 [l0, .int x, l2, l3, l4, l5] S h = rn 172 1 [l0, .int x, l2, l3, l4, l5] (.int x :: S) h) ∧
  (∀ (l0 l1 l2 l3 l4 l5 : Value) (v0 : Value) (S : List Value) (h : zH), rn 172 1 [l0, l1, l2, l3, l4, l5] (v0 :: S) h = if zsum S ≤ 8 then zcall (ev 25 [v0] h) (fun v h => rn 172 4 [l0, l1, l2, l3, l4, l5] (zpush v S) h) else none) ∧
  (∀ (l0 l1 l2 l3 l4 l5 : Value) (x : Int32) (S : List Value) (h : zH), rn 172 4 [l0, l1, l2, l3, l4, l5] (.int x :: S) h = if x = nI 0 then rn 172 21 [l0, l1, l2, l3, l4, l5] S h else rn 172 7 [l0, l1, l2, l3, l4, l5] S h) ∧
  (∀ (l0 l1 l3 l4 l5 : Value) (x : Int32) (S : List Value) (h : zH), rn 172 7 [l0, l1, .int x, l3, l4, l5] S h = rn 172 8 [l0, l1, .int x, l3, l4, l5] (.int x :: S) h) ∧
  (∀ (l0 l1 l2 l3 l4 l5 : Value) (S : List Value) (h : zH), rn 172 8 [l0, l1, l2, l3, l4, l5] S h = rn 172 9 [l0, l1, l2, l3, l4, l5] (.int (nI 0) :: S) h) ∧
  (∀ (l0 l1 l2 l3 l4 l5 : Value) (S : List Value) (h : zH), rn 172 9 [l0, l1, l2, l3, l4, l5] S h = rn 172 12 [l0, l1, l2, l3, l4, l5] (.ref 3 :: S) h) ∧
  (∀ (l0 l1 l2 l3 l4 l5 : Value) (a : Nat) (S : List Value) (h : zH), rn 172 12 [l0, l1, l2, l3, l4, l5] (.ref a :: S) h = zal h a fun x => rn 172 13 [l0, l1, l2, l3, l4, l5] (.int x :: S) h) ∧
  (∀ (l0 l1 l2 l3 l4 l5 : Value) (S : List Value) (h : zH), rn 172 13 [l0, l1, l2, l3, l4, l5] S h = rn 172 14 [l0, l1, l2, l3, l4, l5] (.int (nI 1) :: S) h) ∧
  (∀ (l0 l1 l2 l3 l4 l5 : Value) (x : Int32) (y : Int32) (S : List Value) (h : zH), rn 172 14 [l0, l1, l2, l3, l4, l5] (.int y :: .int x :: S) h = rn 172 15 [l0, l1, l2, l3, l4, l5] (.int (x - y) :: S) h) ∧
  (∀ (l0 l1 l2 l3 l4 l5 : Value) (v0 : Value) (v1 : Value) (v2 : Value) (S : List Value) (h : zH), rn 172 15 [l0, l1, l2, l3, l4, l5] (v2 :: v1 :: v0 :: S) h = if zsum S ≤ 8 then zcall (ev 24 [v0, v1, v2] h) (fun v h => rn 172 18 [l0, l1, l2, l3, l4, l5] (zpush v S) h) else none) ∧
  (∀ (l0 l1 l2 l3 l4 l5 : Value) (x : Int32) (S : List Value) (h : zH), rn 172 18 [l0, l1, l2, l3, l4, l5] (.int x :: S) h = if x = nI 0 then rn 172 21 [l0, l1, l2, l3, l4, l5] S h else rn 172 25 [l0, l1, l2, l3, l4, l5] S h) ∧
  (∀ (l0 l1 l2 l3 l4 l5 : Value) (S : List Value) (h : zH), rn 172 21 [l0, l1, l2, l3, l4, l5] S h = rn 172 24 [l0, l1, l2, l3, l4, l5] (.long (-1) :: S) h) ∧
  (∀ (l0 l1 l2 l3 l4 l5 : Value) (x : Int64) (h : zH), rn 172 24 [l0, l1, l2, l3, l4, l5] [.long x] h = some (some (.long x), h)) ∧
  (∀ (l0 l2 l3 l4 l5 : Value) (x : Int32) (S : List Value) (h : zH), rn 172 25 [l0, .int x, l2, l3, l4, l5] S h = rn 172 26 [l0, .int x, l2, l3, l4, l5] (.int x :: S) h) ∧
  (∀ (l1 l2 l3 l4 l5 : Value) (x : Nat) (S : List Value) (h : zH), rn 172 26 [.ref x, l1, l2, l3, l4, l5] S h = rn 172 27 [.ref x, l1, l2, l3, l4, l5] (.ref x :: S) h) ∧
  (∀ (l0 l1 l2 l3 l4 l5 : Value) (a : Nat) (S : List Value) (h : zH), rn 172 27 [l0, l1, l2, l3, l4, l5] (.ref a :: S) h = zgf h a 11 0 fun v => rn 172 30 [l0, l1, l2, l3, l4, l5] (v :: S) h) ∧
  (∀ (l0 l1 l2 l3 l4 l5 : Value) (a : Nat) (S : List Value) (h : zH), rn 172 30 [l0, l1, l2, l3, l4, l5] (.ref a :: S) h = zgf h a 1 2 fun v => rn 172 33 [l0, l1, l2, l3, l4, l5] (v :: S) h) ∧
  (∀ (l0 l1 l2 l3 l4 l5 : Value) (x : Int32) (y : Int32) (S : List Value) (h : zH), rn 172 33 [l0, l1, l2, l3, l4, l5] (.int y :: .int x :: S) h = if x < y then rn 172 40 [l0, l1, l2, l3, l4, l5] S h else rn 172 36 [l0, l1, l2, l3, l4, l5] S h) ∧
  (∀ (l0 l1 l2 l3 l4 l5 : Value) (S : List Value) (h : zH), rn 172 36 [l0, l1, l2, l3, l4, l5] S h = rn 172 39 [l0, l1, l2, l3, l4, l5] (.long (-2) :: S) h) ∧
  (∀ (l0 l1 l2 l3 l4 l5 : Value) (x : Int64) (h : zH), rn 172 39 [l0, l1, l2, l3, l4, l5] [.long x] h = some (some (.long x), h)) ∧
  (∀ (l0 l1 l2 l3 l4 l5 : Value) (S : List Value) (h : zH), rn 172 40 [l0, l1, l2, l3, l4, l5] S h = rn 172 43 [l0, l1, l2, l3, l4, l5] (.ref 3 :: S) h) ∧
  (∀ (l0 l1 l3 l4 l5 : Value) (x : Int32) (S : List Value) (h : zH), rn 172 43 [l0, l1, .int x, l3, l4, l5] S h = rn 172 44 [l0, l1, .int x, l3, l4, l5] (.int x :: S) h) ∧
  (∀ (l0 l1 l2 l3 l4 l5 : Value) (a : Nat) (j : Int32) (S : List Value) (h : zH), rn 172 44 [l0, l1, l2, l3, l4, l5] (.int j :: .ref a :: S) h = zli h a 0 j fun x => rn 172 45 [l0, l1, l2, l3, l4, l5] (.int x :: S) h) ∧
  (∀ (l0 l1 l2 l3 l4 l5 : Value) (x : Int32) (S : List Value) (h : zH), rn 172 45 [l0, l1, l2, l3, l4, l5] (.int x :: S) h = nl l2 (rn 172 46 [l0, l1, l2, .int x, l4, l5] S h)) ∧
  (∀ (l1 l2 l3 l4 l5 : Value) (x : Nat) (S : List Value) (h : zH), rn 172 46 [.ref x, l1, l2, l3, l4, l5] S h = rn 172 47 [.ref x, l1, l2, l3, l4, l5] (.ref x :: S) h) ∧
  (∀ (l0 l1 l2 l3 l4 l5 : Value) (a : Nat) (S : List Value) (h : zH), rn 172 47 [l0, l1, l2, l3, l4, l5] (.ref a :: S) h = zgf h a 11 0 fun v => rn 172 50 [l0, l1, l2, l3, l4, l5] (v :: S) h) ∧
  (∀ (l0 l2 l3 l4 l5 : Value) (x : Int32) (S : List Value) (h : zH), rn 172 50 [l0, .int x, l2, l3, l4, l5] S h = rn 172 51 [l0, .int x, l2, l3, l4, l5] (.int x :: S) h) ∧
  (∀ (l0 l1 l2 l4 l5 : Value) (x : Int32) (S : List Value) (h : zH), rn 172 51 [l0, l1, l2, .int x, l4, l5] S h = rn 172 52 [l0, l1, l2, .int x, l4, l5] (.int x :: S) h) ∧
  (∀ (l0 l1 l2 l3 l4 l5 : Value) (o : Nat) (v0 : Value) (v1 : Value) (S : List Value) (h : zH), rn 172 52 [l0, l1, l2, l3, l4, l5] (v1 :: v0 :: .ref o :: S) h = if zkd h o = 1 ∧ zsum S ≤ 8 then zcall (ev 173 [.ref o, v0, v1] h) (fun v h => rn 172 55 [l0, l1, l2, l3, l4, l5] (zpush v S) h) else none) ∧
  (∀ (l0 l1 l2 l3 l4 l5 : Value) (x : Int64) (S : List Value) (h : zH), rn 172 55 [l0, l1, l2, l3, l4, l5] (.long x :: S) h = nl l3 (rn 172 57 [l0, l1, l2, l3, .long x, .float 0] S h)) ∧
  (∀ (l0 l1 l2 l4 l5 : Value) (x : Int32) (S : List Value) (h : zH), rn 172 57 [l0, l1, l2, .int x, l4, l5] S h = rn 172 58 [l0, l1, l2, .int x, l4, l5] (.int x :: S) h) ∧
  (∀ (l0 l1 l2 l3 l4 l5 : Value) (S : List Value) (h : zH), rn 172 58 [l0, l1, l2, l3, l4, l5] S h = rn 172 60 [l0, l1, l2, l3, l4, l5] (.int (nI 7) :: S) h) ∧
  (∀ (l0 l1 l2 l3 l4 l5 : Value) (x : Int32) (y : Int32) (S : List Value) (h : zH), rn 172 60 [l0, l1, l2, l3, l4, l5] (.int y :: .int x :: S) h = if x = y then rn 172 63 [l0, l1, l2, l3, l4, l5] S h else rn 172 68 [l0, l1, l2, l3, l4, l5] S h) ∧
  (∀ (l0 l1 l2 l3 l5 : Value) (x : Int64) (S : List Value) (h : zH), rn 172 63 [l0, l1, l2, l3, .long x, l5] S h = rn 172 65 [l0, l1, l2, l3, .long x, l5] (.long x :: S) h) ∧
  (∀ (l0 l1 l2 l3 l4 l5 : Value) (S : List Value) (h : zH), rn 172 65 [l0, l1, l2, l3, l4, l5] S h = rn 172 71 [l0, l1, l2, l3, l4, l5] S h) ∧
  (∀ (l0 l1 l2 l3 l5 : Value) (x : Int64) (S : List Value) (h : zH), rn 172 68 [l0, l1, l2, l3, .long x, l5] S h = rn 172 70 [l0, l1, l2, l3, .long x, l5] (.long x :: S) h) ∧
  (∀ (l0 l1 l2 l3 l4 l5 : Value) (x : Int64) (S : List Value) (h : zH), rn 172 70 [l0, l1, l2, l3, l4, l5] (.long x :: S) h = rn 172 71 [l0, l1, l2, l3, l4, l5] (.long (-x) :: S) h) ∧
  (∀ (l0 l1 l2 l3 l4 l5 : Value) (x : Int64) (h : zH), rn 172 71 [l0, l1, l2, l3, l4, l5] [.long x] h = some (some (.long x), h)) := ⟨fun _ _ _ _ _ _ _ _ => r_iload_n (show zdec 172 0 = some (.iload_n 1, 1) by decide +kernel) rfl rfl,
  fun _ _ _ _ _ _ _ _ _ => r_cS [_] rfl (show zdec 172 1 = some (.invokestatic 120, 3) by decide +kernel) (show zst.lookup (172 * zKEY + 120) = some (0, 25, 1, 0) by decide +kernel) (by decide) rfl,
  fun _ _ _ _ _ _ _ _ _ => r_ifeq (show zdec 172 4 = some (.ifCond .eq 17, 3) by decide +kernel) rfl rfl,
  fun _ _ _ _ _ _ _ _ => r_iload_n (show zdec 172 7 = some (.iload_n 2, 1) by decide +kernel) rfl rfl,
  fun _ _ _ _ _ _ _ _ => r_iconst (show zdec 172 8 = some (.iconst 0, 1) by decide +kernel) rfl rfl,
  fun _ _ _ _ _ _ _ _ => r_getstatic (show zdec 172 9 = some (.getstatic 242, 3) by decide +kernel) (show zgt.lookup (172 * zKEY + 242) = some 2 by decide +kernel) (by rfl) rfl,
  fun _ _ _ _ _ _ _ _ _ => r_alen (show zdec 172 12 = some (.arraylength, 1) by decide +kernel) rfl,
  fun _ _ _ _ _ _ _ _ => r_iconst (show zdec 172 13 = some (.iconst 1, 1) by decide +kernel) rfl rfl,
  fun _ _ _ _ _ _ _ _ _ _ => r_isub (show zdec 172 14 = some (.isub, 1) by decide +kernel) rfl,
  fun _ _ _ _ _ _ _ _ _ _ _ => r_cS [_, _, _] rfl (show zdec 172 15 = some (.invokestatic 123, 3) by decide +kernel) (show zst.lookup (172 * zKEY + 123) = some (0, 24, 3, 0) by decide +kernel) (by decide) rfl,
  fun _ _ _ _ _ _ _ _ _ => r_ifne (show zdec 172 18 = some (.ifCond .ne 7, 3) by decide +kernel) rfl rfl,
  fun _ _ _ _ _ _ _ _ => r_ldc2 (show zdec 172 21 = some (.ldc2_w 170, 3) by decide +kernel) (show zlt.lookup (172 * zKEY + 170) = some (-1) by decide +kernel) rfl,
  fun _ _ _ _ _ _ _ _ => r_lret (show zdec 172 24 = some (.lreturn, 1) by decide +kernel) (by decide +kernel),
  fun _ _ _ _ _ _ _ _ => r_iload_n (show zdec 172 25 = some (.iload_n 1, 1) by decide +kernel) rfl rfl,
  fun _ _ _ _ _ _ _ _ => r_aload_nr (show zdec 172 26 = some (.aload_n 0, 1) by decide +kernel) rfl rfl,
  fun _ _ _ _ _ _ _ _ _ => r_getfield (show zdec 172 27 = some (.getfield 10, 3) by decide +kernel) (show zft.lookup (172 * zKEY + 10) = some (11, 0) by decide +kernel) rfl,
  fun _ _ _ _ _ _ _ _ _ => r_getfield (show zdec 172 30 = some (.getfield 112, 3) by decide +kernel) (show zft.lookup (172 * zKEY + 112) = some (1, 2) by decide +kernel) rfl,
  fun _ _ _ _ _ _ _ _ _ _ => r_icmplt (show zdec 172 33 = some (.if_icmp .lt 7, 3) by decide +kernel) rfl rfl,
  fun _ _ _ _ _ _ _ _ => r_ldc2 (show zdec 172 36 = some (.ldc2_w 183, 3) by decide +kernel) (show zlt.lookup (172 * zKEY + 183) = some (-2) by decide +kernel) rfl,
  fun _ _ _ _ _ _ _ _ => r_lret (show zdec 172 39 = some (.lreturn, 1) by decide +kernel) (by decide +kernel),
  fun _ _ _ _ _ _ _ _ => r_getstatic (show zdec 172 40 = some (.getstatic 242, 3) by decide +kernel) (show zgt.lookup (172 * zKEY + 242) = some 2 by decide +kernel) (by rfl) rfl,
  fun _ _ _ _ _ _ _ _ => r_iload_n (show zdec 172 43 = some (.iload_n 2, 1) by decide +kernel) rfl rfl,
  fun _ _ _ _ _ _ _ _ _ _ => r_iald (show zdec 172 44 = some (.iaload, 1) by decide +kernel) rfl,
  fun _ _ _ _ _ _ _ _ _ => r_istore_n (show zdec 172 45 = some (.istore_n 3, 1) by decide +kernel) rfl rfl (Nat.le_of_ble_eq_true rfl) rfl rfl,
  fun _ _ _ _ _ _ _ _ => r_aload_nr (show zdec 172 46 = some (.aload_n 0, 1) by decide +kernel) rfl rfl,
  fun _ _ _ _ _ _ _ _ _ => r_getfield (show zdec 172 47 = some (.getfield 10, 3) by decide +kernel) (show zft.lookup (172 * zKEY + 10) = some (11, 0) by decide +kernel) rfl,
  fun _ _ _ _ _ _ _ _ => r_iload_n (show zdec 172 50 = some (.iload_n 1, 1) by decide +kernel) rfl rfl,
  fun _ _ _ _ _ _ _ _ => r_iload_n (show zdec 172 51 = some (.iload_n 3, 1) by decide +kernel) rfl rfl,
  fun _ _ _ _ _ _ _ _ _ _ _ => r_cV [_, _] rfl (show zdec 172 52 = some (.invokevirtual 245, 3) by decide +kernel) (show zst.lookup (172 * zKEY + 245) = some (1, 173, 2, 1) by decide +kernel) (by decide) rfl,
  fun _ _ _ _ _ _ _ _ _ => r_lstore (show zdec 172 55 = some (.lstore 4, 2) by decide +kernel) rfl (Nat.le_of_ble_eq_true rfl) rfl rfl,
  fun _ _ _ _ _ _ _ _ => r_iload_n (show zdec 172 57 = some (.iload_n 3, 1) by decide +kernel) rfl rfl,
  fun _ _ _ _ _ _ _ _ => r_bipush (show zdec 172 58 = some (.bipush 7, 2) by decide +kernel) rfl rfl,
  fun _ _ _ _ _ _ _ _ _ _ => r_icmpne (show zdec 172 60 = some (.if_icmp .ne 8, 3) by decide +kernel) rfl rfl,
  fun _ _ _ _ _ _ _ _ => r_lload (show zdec 172 63 = some (.lload 4, 2) by decide +kernel) rfl rfl,
  fun _ _ _ _ _ _ _ _ => r_goto (show zdec 172 65 = some (.goto 6, 3) by decide +kernel) rfl,
  fun _ _ _ _ _ _ _ _ => r_lload (show zdec 172 68 = some (.lload 4, 2) by decide +kernel) rfl rfl,
  fun _ _ _ _ _ _ _ _ _ => r_lneg (show zdec 172 70 = some (.lneg, 1) by decide +kernel) rfl,
  fun _ _ _ _ _ _ _ _ => r_lret (show zdec 172 71 = some (.lreturn, 1) by decide +kernel) (by decide +kernel)⟩
theorem ze_172 : ∀ (a0 : Nat) (a1 : Int32) (a2 : Int32) (h : zH), ev 172 [.ref a0, .int a1, .int a2] h = rn 172 0 [.ref a0, .int a1, .int a2, .float 0, .float 0, .float 0] [] h := fun _ _ _ _ => if_pos (Nat.le_of_ble_eq_true rfl)
-- PayrollRun/Books.sumOfSlips(II)J
theorem zr_173 : (∀ (l0 l1 l2 l3 l4 l5 l6 : Value) (S : List Value) (h : zH), rn 173 0 [l0, l1, l2, l3, l4, l5, l6] S h = rn 173 1 [l0, l1, l2, l3, l4, l5, l6] (.long 0 :: S) h) ∧
  (∀ (l0 l1 l2 l3 l4 l5 l6 : Value) (x : Int64) (S : List Value) (h : zH), rn 173 1 [l0, l1, l2, l3, l4, l5, l6] (.long x :: S) h = nl l2 (rn 173 2 [l0, l1, l2, .long x, .float 0, l5, l6] S h)) ∧
  (∀ (l0 l1 l2 l3 l4 l5 l6 : Value) (S : List Value) (h : zH), rn 173 2 [l0, l1, l2, l3, l4, l5, l6] S h = rn 173 3 [l0, l1, l2, l3, l4, l5, l6] (.int (nI 0) :: S) h) ∧
  (∀ (l0 l1 l2 l3 l4 l5 l6 : Value) (x : Int32) (S : List Value) (h : zH), rn 173 3 [l0, l1, l2, l3, l4, l5, l6] (.int x :: S) h = nl l4 (rn 173 5 [l0, l1, l2, l3, l4, .int x, l6] S h)) ∧
  (∀ (l0 l1 l2 l3 l4 l5 l6 : Value) (S : List Value) (h : zH), rn 173 7 [l0, l1, l2, l3, l4, l5, l6] S h = rn 173 8 [l0, l1, l2, l3, l4, l5, l6] (.int (nI 3) :: S) h) ∧
  (∀ (l0 l1 l2 l3 l4 l5 l6 : Value) (x : Int32) (y : Int32) (S : List Value) (h : zH), rn 173 8 [l0, l1, l2, l3, l4, l5, l6] (.int y :: .int x :: S) h = if y ≤ x then rn 173 45 [l0, l1, l2, l3, l4, l5, l6] S h else rn 173 11 [l0, l1, l2, l3, l4, l5, l6] S h) ∧
  (∀ (l1 l2 l3 l4 l5 l6 : Value) (x : Nat) (S : List Value) (h : zH), rn 173 11 [.ref x, l1, l2, l3, l4, l5, l6] S h = rn 173 12 [.ref x, l1, l2, l3, l4, l5, l6] (.ref x :: S) h) ∧
  (∀ (l0 l1 l2 l3 l4 l5 l6 : Value) (a : Nat) (S : List Value) (h : zH), rn 173 12 [l0, l1, l2, l3, l4, l5, l6] (.ref a :: S) h = zgf h a 1 0 fun v => rn 173 15 [l0, l1, l2, l3, l4, l5, l6] (v :: S) h) ∧
  (∀ (l0 l1 l2 l3 l4 l6 : Value) (x : Int32) (S : List Value) (h : zH), rn 173 15 [l0, l1, l2, l3, l4, .int x, l6] S h = rn 173 17 [l0, l1, l2, l3, l4, .int x, l6] (.int x :: S) h) ∧
  (∀ (l0 l1 l2 l3 l4 l5 l6 : Value) (a : Nat) (j : Int32) (S : List Value) (h : zH), rn 173 17 [l0, l1, l2, l3, l4, l5, l6] (.int j :: .ref a :: S) h = zlq h a j fun x => rn 173 18 [l0, l1, l2, l3, l4, l5, l6] (va_rf x :: S) h) ∧
  (∀ (l0 l1 l2 l3 l4 l5 l6 : Value) (a : Nat) (S : List Value) (h : zH), rn 173 18 [l0, l1, l2, l3, l4, l5, l6] (.ref a :: S) h = zgf h a 10 3 fun v => rn 173 21 [l0, l1, l2, l3, l4, l5, l6] (v :: S) h) ∧
  (∀ (l0 l2 l3 l4 l5 l6 : Value) (x : Int32) (S : List Value) (h : zH), rn 173 21 [l0, .int x, l2, l3, l4, l5, l6] S h = rn 173 22 [l0, .int x, l2, l3, l4, l5, l6] (.int x :: S) h) ∧
  (∀ (l0 l1 l2 l3 l4 l5 l6 : Value) (a : Nat) (j : Int32) (S : List Value) (h : zH), rn 173 22 [l0, l1, l2, l3, l4, l5, l6] (.int j :: .ref a :: S) h = zlq h a j fun x => rn 173 23 [l0, l1, l2, l3, l4, l5, l6] (va_rf x :: S) h) ∧
  (∀ (l0 l1 l2 l3 l4 l5 l6 : Value) (v : Value) (S : List Value) (h : zH), rn 173 23 [l0, l1, l2, l3, l4, l5, l6] (v :: S) h = ldA v (nl l5 (rn 173 25 [l0, l1, l2, l3, l4, l5, v] S h))) ∧
  (∀ (l0 l1 l2 l3 l4 l5 l6 : Value) (S : List Value) (h : zH), rn 173 25 [l0, l1, l2, l3, l4, l5, l6] S h = ldA l6 (rn 173 27 [l0, l1, l2, l3, l4, l5, l6] (l6 :: S) h)) ∧
  (∀ (l0 l1 l2 l3 l4 l5 l6 : Value) (v : Value) (S : List Value) (h : zH), rn 173 27 [l0, l1, l2, l3, l4, l5, l6] (v :: S) h = ifN v (rn 173 39 [l0, l1, l2, l3, l4, l5, l6] S h) (rn 173 30 [l0, l1, l2, l3, l4, l5, l6] S h)) ∧
  (∀ (l0 l1 l2 l4 l5 l6 : Value) (x : Int64) (S : List Value) (h : zH), rn 173 30 [l0, l1, l2, .long x, l4, l5, l6] S h = rn 173 31 [l0, l1, l2, .long x, l4, l5, l6] (.long x :: S) h) ∧
  (∀ (l0 l1 l2 l3 l4 l5 l6 : Value) (S : List Value) (h : zH), rn 173 31 [l0, l1, l2, l3, l4, l5, l6] S h = ldA l6 (rn 173 33 [l0, l1, l2, l3, l4, l5, l6] (l6 :: S) h)) ∧
  (∀ (l0 l1 l3 l4 l5 l6 : Value) (x : Int32) (S : List Value) (h : zH), rn 173 33 [l0, l1, .int x, l3, l4, l5, l6] S h = rn 173 34 [l0, l1, .int x, l3, l4, l5, l6] (.int x :: S) h) ∧
  (∀ (l0 l1 l2 l3 l4 l5 l6 : Value) (o : Nat) (v0 : Value) (S : List Value) (h : zH), rn 173 34 [l0, l1, l2, l3, l4, l5, l6] (v0 :: .ref o :: S) h = if zkd h o = 7 ∧ zsum S ≤ 8 then zcall (ev 167 [.ref o, v0] h) (fun v h => rn 173 37 [l0, l1, l2, l3, l4, l5, l6] (zpush v S) h) else none) ∧
  (∀ (l0 l1 l2 l3 l4 l5 l6 : Value) (x : Int64) (y : Int64) (S : List Value) (h : zH), rn 173 37 [l0, l1, l2, l3, l4, l5, l6] (.long y :: .long x :: S) h = rn 173 38 [l0, l1, l2, l3, l4, l5, l6] (.long (x + y) :: S) h) ∧
  (∀ (l0 l1 l2 l3 l4 l5 l6 : Value) (x : Int64) (S : List Value) (h : zH), rn 173 38 [l0, l1, l2, l3, l4, l5, l6] (.long x :: S) h = nl l2 (rn 173 39 [l0, l1, l2, .long x, .float 0, l5, l6] S h)) ∧
  (∀ (l0 l1 l2 l3 l4 l6 : Value) (x : Int32) (S : List Value) (h : zH), rn 173 39 [l0, l1, l2, l3, l4, .int x, l6] S h = nl l4 (rn 173 42 [l0, l1, l2, l3, l4, .int (x + (nI 1)), l6] S h)) ∧
  (∀ (l0 l1 l2 l3 l4 l5 l6 : Value) (S : List Value) (h : zH), rn 173 42 [l0, l1, l2, l3, l4, l5, l6] S h = rn 173 5 [l0, l1, l2, l3, l4, l5, l6] S h) ∧
  (∀ (l0 l1 l2 l4 l5 l6 : Value) (x : Int64) (S : List Value) (h : zH), rn 173 45 [l0, l1, l2, .long x, l4, l5, l6] S h = rn 173 46 [l0, l1, l2, .long x, l4, l5, l6] (.long x :: S) h) ∧
  (∀ (l0 l1 l2 l3 l4 l5 l6 : Value) (x : Int64) (h : zH), rn 173 46 [l0, l1, l2, l3, l4, l5, l6] [.long x] h = some (some (.long x), h)) := ⟨fun _ _ _ _ _ _ _ _ _ => r_lconst (show zdec 173 0 = some (.lconst 0, 1) by decide +kernel) rfl rfl,
  fun _ _ _ _ _ _ _ _ _ _ => r_lstore_n (show zdec 173 1 = some (.lstore_n 3, 1) by decide +kernel) rfl rfl (Nat.le_of_ble_eq_true rfl) rfl rfl,
  fun _ _ _ _ _ _ _ _ _ => r_iconst (show zdec 173 2 = some (.iconst 0, 1) by decide +kernel) rfl rfl,
  fun _ _ _ _ _ _ _ _ _ _ => r_istore (show zdec 173 3 = some (.istore 5, 2) by decide +kernel) rfl (Nat.le_of_ble_eq_true rfl) rfl rfl,
  fun _ _ _ _ _ _ _ _ _ => r_iconst (show zdec 173 7 = some (.iconst 3, 1) by decide +kernel) rfl rfl,
  fun _ _ _ _ _ _ _ _ _ _ _ => r_icmpge (show zdec 173 8 = some (.if_icmp .ge 37, 3) by decide +kernel) rfl rfl,
  fun _ _ _ _ _ _ _ _ _ => r_aload_nr (show zdec 173 11 = some (.aload_n 0, 1) by decide +kernel) rfl rfl,
  fun _ _ _ _ _ _ _ _ _ _ => r_getfield (show zdec 173 12 = some (.getfield 11, 3) by decide +kernel) (show zft.lookup (173 * zKEY + 11) = some (1, 0) by decide +kernel) rfl,
  fun _ _ _ _ _ _ _ _ _ => r_iload (show zdec 173 15 = some (.iload 5, 2) by decide +kernel) rfl rfl,
  fun _ _ _ _ _ _ _ _ _ _ _ => r_aald (show zdec 173 17 = some (.aaload, 1) by decide +kernel) rfl,
  fun _ _ _ _ _ _ _ _ _ _ => r_getfield (show zdec 173 18 = some (.getfield 114, 3) by decide +kernel) (show zft.lookup (173 * zKEY + 114) = some (10, 3) by decide +kernel) rfl,
  fun _ _ _ _ _ _ _ _ _ => r_iload_n (show zdec 173 21 = some (.iload_n 1, 1) by decide +kernel) rfl rfl,
  fun _ _ _ _ _ _ _ _ _ _ _ => r_aald (show zdec 173 22 = some (.aaload, 1) by decide +kernel) rfl,
  fun _ _ _ _ _ _ _ _ _ _ => r_astore (show zdec 173 23 = some (.astore 6, 2) by decide +kernel) rfl (Nat.le_of_ble_eq_true rfl) rfl rfl,
  fun _ _ _ _ _ _ _ _ _ => r_aload (show zdec 173 25 = some (.aload 6, 2) by decide +kernel) rfl rfl,
  fun _ _ _ _ _ _ _ _ _ _ => r_ifnull (show zdec 173 27 = some (.ifnull 12, 3) by decide +kernel) rfl rfl,
  fun _ _ _ _ _ _ _ _ _ => r_lload_n (show zdec 173 30 = some (.lload_n 3, 1) by decide +kernel) rfl rfl,
  fun _ _ _ _ _ _ _ _ _ => r_aload (show zdec 173 31 = some (.aload 6, 2) by decide +kernel) rfl rfl,
  fun _ _ _ _ _ _ _ _ _ => r_iload_n (show zdec 173 33 = some (.iload_n 2, 1) by decide +kernel) rfl rfl,
  fun _ _ _ _ _ _ _ _ _ _ _ => r_cV [_] rfl (show zdec 173 34 = some (.invokevirtual 129, 3) by decide +kernel) (show zst.lookup (173 * zKEY + 129) = some (1, 167, 1, 7) by decide +kernel) (by decide) rfl,
  fun _ _ _ _ _ _ _ _ _ _ _ => r_ladd (show zdec 173 37 = some (.ladd, 1) by decide +kernel) rfl,
  fun _ _ _ _ _ _ _ _ _ _ => r_lstore_n (show zdec 173 38 = some (.lstore_n 3, 1) by decide +kernel) rfl rfl (Nat.le_of_ble_eq_true rfl) rfl rfl,
  fun _ _ _ _ _ _ _ _ _ => r_iinc (show zdec 173 39 = some (.iinc 5 1, 3) by decide +kernel) rfl rfl rfl (Nat.le_of_ble_eq_true rfl) rfl rfl,
  fun _ _ _ _ _ _ _ _ _ => r_goto (show zdec 173 42 = some (.goto (-37), 3) by decide +kernel) rfl,
  fun _ _ _ _ _ _ _ _ _ => r_lload_n (show zdec 173 45 = some (.lload_n 3, 1) by decide +kernel) rfl rfl,
  fun _ _ _ _ _ _ _ _ _ => r_lret (show zdec 173 46 = some (.lreturn, 1) by decide +kernel) (by decide +kernel)⟩
theorem zl_173_5 : ∀ (l0 l1 l2 l3 l4 l6 : Value) (x : Int32) (S : List Value) (h : zH), rn 173 5 [l0, l1, l2, l3, l4, .int x, l6] S h = rn 173 7 [l0, l1, l2, l3, l4, .int x, l6] (.int x :: S) h := fun _ _ _ _ _ _ _ _ _ => r_iload (show zdec 173 5 = some (.iload 5, 2) by decide +kernel) rfl rfl
theorem ze_173 : ∀ (a0 : Nat) (a1 : Int32) (a2 : Int32) (h : zH), ev 173 [.ref a0, .int a1, .int a2] h = rn 173 0 [.ref a0, .int a1, .int a2, .float 0, .float 0, .float 0, .float 0] [] h := fun _ _ _ _ => if_pos (Nat.le_of_ble_eq_true rfl)
-- PayrollRun.statement(II)I
theorem zr_174 : (∀ (l0 l2 l3 l4 l5 l6 l7 : Value) (x : Int32) (S : List Value) (h : zH), rn 174 0 [l0, .int x, l2, l3, l4, l5, l6, l7] S h = rn 174 1 [l0, .int x, l2, l3, l4, l5, l6, l7] (.int x :: S) h) ∧
  (∀ (l0 l1 l2 l3 l4 l5 l6 l7 : Value) (v0 : Value) (S : List Value) (h : zH), rn 174 1 [l0, l1, l2, l3, l4, l5, l6, l7] (v0 :: S) h = if zsum S ≤ 8 then zcall (ev 23 [v0] h) (fun v h => rn 174 4 [l0, l1, l2, l3, l4, l5, l6, l7] (zpush v S) h) else none) ∧
  (∀ (l0 l1 l2 l3 l4 l5 l6 l7 : Value) (x : Int32) (S : List Value) (h : zH), rn 174 4 [l0, l1, l2, l3, l4, l5, l6, l7] (.int x :: S) h = if x = nI 0 then rn 174 7 [l0, l1, l2, l3, l4, l5, l6, l7] S h else rn 174 9 [l0, l1, l2, l3, l4, l5, l6, l7] S h) ∧
  (∀ (l0 l1 l2 l3 l4 l5 l6 l7 : Value) (S : List Value) (h : zH), rn 174 7 [l0, l1, l2, l3, l4, l5, l6, l7] S h = rn 174 8 [l0, l1, l2, l3, l4, l5, l6, l7] (.int (-1) :: S) h) ∧
  (∀ (l0 l1 l2 l3 l4 l5 l6 l7 : Value) (x : Int32) (h : zH), rn 174 8 [l0, l1, l2, l3, l4, l5, l6, l7] [.int x] h = some (some (.int x), h)) ∧
  (∀ (l1 l2 l3 l4 l5 l6 l7 : Value) (x : Nat) (S : List Value) (h : zH), rn 174 9 [.ref x, l1, l2, l3, l4, l5, l6, l7] S h = rn 174 10 [.ref x, l1, l2, l3, l4, l5, l6, l7] (.ref x :: S) h) ∧
  (∀ (l0 l1 l2 l3 l4 l5 l6 l7 : Value) (a : Nat) (S : List Value) (h : zH), rn 174 10 [l0, l1, l2, l3, l4, l5, l6, l7] (.ref a :: S) h = zgf h a 11 7 fun v => rn 174 13 [l0, l1, l2, l3, l4, l5, l6, l7] (v :: S) h) ∧
  (∀ (l0 l1 l2 l3 l4 l5 l6 l7 : Value) (o : Nat) (S : List Value) (h : zH), rn 174 13 [l0, l1, l2, l3, l4, l5, l6, l7] (.ref o :: S) h = if zkd h o = 8 ∧ zsum S ≤ 8 then zcall (ev 97 [.ref o] h) (fun v h => rn 174 16 [l0, l1, l2, l3, l4, l5, l6, l7] (zpush v S) h) else none) ∧
  (∀ (l0 l1 l2 l3 l4 l5 l6 l7 : Value) (S : List Value) (h : zH), rn 174 16 [l0, l1, l2, l3, l4, l5, l6, l7] S h = rn 174 17 [l0, l1, l2, l3, l4, l5, l6, l7] (.int (nI 0) :: S) h) ∧
  (∀ (l0 l1 l2 l3 l4 l5 l6 l7 : Value) (x : Int32) (S : List Value) (h : zH), rn 174 17 [l0, l1, l2, l3, l4, l5, l6, l7] (.int x :: S) h = nl l2 (rn 174 18 [l0, l1, l2, .int x, l4, l5, l6, l7] S h)) ∧
  (∀ (l0 l1 l2 l3 l4 l5 l6 l7 : Value) (S : List Value) (h : zH), rn 174 19 [l0, l1, l2, l3, l4, l5, l6, l7] S h = rn 174 22 [l0, l1, l2, l3, l4, l5, l6, l7] (.ref 1 :: S) h) ∧
  (∀ (l0 l1 l2 l3 l4 l5 l6 l7 : Value) (a : Nat) (S : List Value) (h : zH), rn 174 22 [l0, l1, l2, l3, l4, l5, l6, l7] (.ref a :: S) h = zal h a fun x => rn 174 23 [l0, l1, l2, l3, l4, l5, l6, l7] (.int x :: S) h) ∧
  (∀ (l0 l1 l2 l3 l4 l5 l6 l7 : Value) (x : Int32) (y : Int32) (S : List Value) (h : zH), rn 174 23 [l0, l1, l2, l3, l4, l5, l6, l7] (.int y :: .int x :: S) h = if y ≤ x then rn 174 123 [l0, l1, l2, l3, l4, l5, l6, l7] S h else rn 174 26 [l0, l1, l2, l3, l4, l5, l6, l7] S h) ∧
  (∀ (l0 l1 l2 l4 l5 l6 l7 : Value) (x : Int32) (S : List Value) (h : zH), rn 174 26 [l0, l1, l2, .int x, l4, l5, l6, l7] S h = rn 174 27 [l0, l1, l2, .int x, l4, l5, l6, l7] (.int x :: S) h) ∧
  (∀ (l0 l1 l2 l3 l4 l5 l6 l7 : Value) (S : List Value) (h : zH), rn 174 27 [l0, l1, l2, l3, l4, l5, l6, l7] S h = rn 174 30 [l0, l1, l2, l3, l4, l5, l6, l7] (.ref 2 :: S) h) ∧
  (∀ (l0 l1 l2 l3 l4 l5 l6 l7 : Value) (a : Nat) (S : List Value) (h : zH), rn 174 30 [l0, l1, l2, l3, l4, l5, l6, l7] (.ref a :: S) h = zal h a fun x => rn 174 31 [l0, l1, l2, l3, l4, l5, l6, l7] (.int x :: S) h) ∧
  (∀ (l0 l1 l2 l3 l4 l5 l6 l7 : Value) (x : Int32) (y : Int32) (S : List Value) (h : zH), rn 174 31 [l0, l1, l2, l3, l4, l5, l6, l7] (.int y :: .int x :: S) h = if y ≤ x then rn 174 123 [l0, l1, l2, l3, l4, l5, l6, l7] S h else rn 174 34 [l0, l1, l2, l3, l4, l5, l6, l7] S h) ∧
  (∀ (l0 l1 l2 l3 l4 l5 l6 l7 : Value) (S : List Value) (h : zH), rn 174 34 [l0, l1, l2, l3, l4, l5, l6, l7] S h = rn 174 37 [l0, l1, l2, l3, l4, l5, l6, l7] (.ref 1 :: S) h) ∧
  (∀ (l0 l1 l2 l4 l5 l6 l7 : Value) (x : Int32) (S : List Value) (h : zH), rn 174 37 [l0, l1, l2, .int x, l4, l5, l6, l7] S h = rn 174 38 [l0, l1, l2, .int x, l4, l5, l6, l7] (.int x :: S) h) ∧
  (∀ (l0 l1 l2 l3 l4 l5 l6 l7 : Value) (a : Nat) (j : Int32) (S : List Value) (h : zH), rn 174 38 [l0, l1, l2, l3, l4, l5, l6, l7] (.int j :: .ref a :: S) h = zli h a 0 j fun x => rn 174 39 [l0, l1, l2, l3, l4, l5, l6, l7] (.int x :: S) h) ∧
  (∀ (l0 l1 l2 l3 l4 l5 l6 l7 : Value) (x : Int32) (S : List Value) (h : zH), rn 174 39 [l0, l1, l2, l3, l4, l5, l6, l7] (.int x :: S) h = nl l3 (rn 174 41 [l0, l1, l2, l3, .int x, l5, l6, l7] S h)) ∧
  (∀ (l1 l2 l3 l4 l5 l6 l7 : Value) (x : Nat) (S : List Value) (h : zH), rn 174 41 [.ref x, l1, l2, l3, l4, l5, l6, l7] S h = rn 174 42 [.ref x, l1, l2, l3, l4, l5, l6, l7] (.ref x :: S) h) ∧
  (∀ (l0 l1 l2 l3 l4 l5 l6 l7 : Value) (a : Nat) (S : List Value) (h : zH), rn 174 42 [l0, l1, l2, l3, l4, l5, l6, l7] (.ref a :: S) h = zgf h a 11 0 fun v => rn 174 45 [l0, l1, l2, l3, l4, l5, l6, l7] (v :: S) h) ∧
  (∀ (l0 l1 l2 l3 l4 l5 l6 l7 : Value) (a : Nat) (S : List Value) (h : zH), rn 174 45 [l0, l1, l2, l3, l4, l5, l6, l7] (.ref a :: S) h = zgf h a 1 0 fun v => rn 174 48 [l0, l1, l2, l3, l4, l5, l6, l7] (v :: S) h) ∧
  (∀ (l0 l2 l3 l4 l5 l6 l7 : Value) (x : Int32) (S : List Value) (h : zH), rn 174 48 [l0, .int x, l2, l3, l4, l5, l6, l7] S h = rn 174 49 [l0, .int x, l2, l3, l4, l5, l6, l7] (.int x :: S) h) ∧
  (∀ (l0 l1 l2 l3 l4 l5 l6 l7 : Value) (a : Nat) (j : Int32) (S : List Value) (h : zH), rn 174 49 [l0, l1, l2, l3, l4, l5, l6, l7] (.int j :: .ref a :: S) h = zlq h a j fun x => rn 174 50 [l0, l1, l2, l3, l4, l5, l6, l7] (va_rf x :: S) h) ∧
  (∀ (l0 l1 l2 l3 l4 l5 l6 l7 : Value) (S : List Value) (h : zH), rn 174 50 [l0, l1, l2, l3, l4, l5, l6, l7] S h = rn 174 53 [l0, l1, l2, l3, l4, l5, l6, l7] (.ref 2 :: S) h) ∧
  (∀ (l0 l1 l2 l4 l5 l6 l7 : Value) (x : Int32) (S : List Value) (h : zH), rn 174 53 [l0, l1, l2, .int x, l4, l5, l6, l7] S h = rn 174 54 [l0, l1, l2, .int x, l4, l5, l6, l7] (.int x :: S) h) ∧
  (∀ (l0 l1 l2 l3 l4 l5 l6 l7 : Value) (a : Nat) (j : Int32) (S : List Value) (h : zH), rn 174 54 [l0, l1, l2, l3, l4, l5, l6, l7] (.int j :: .ref a :: S) h = zli h a 0 j fun x => rn 174 55 [l0, l1, l2, l3, l4, l5, l6, l7] (.int x :: S) h) ∧
  (∀ (l0 l1 l2 l3 l4 l5 l6 l7 : Value) (o : Nat) (v0 : Value) (S : List Value) (h : zH), rn 174 55 [l0, l1, l2, l3, l4, l5, l6, l7] (v0 :: .ref o :: S) h = if zkd h o = 10 ∧ zsum S ≤ 8 then zcall (ev 165 [.ref o, v0] h) (fun v h => rn 174 58 [l0, l1, l2, l3, l4, l5, l6, l7] (zpush v S) h) else none) ∧
  (∀ (l0 l1 l2 l3 l4 l5 l6 l7 : Value) (x : Int64) (S : List Value) (h : zH), rn 174 58 [l0, l1, l2, l3, l4, l5, l6, l7] (.long x :: S) h = nl l4 (rn 174 60 [l0, l1, l2, l3, l4, .long x, .float 0, l7] S h)) ∧
  (∀ (l0 l1 l2 l3 l5 l6 l7 : Value) (x : Int32) (S : List Value) (h : zH), rn 174 60 [l0, l1, l2, l3, .int x, l5, l6, l7] S h = rn 174 62 [l0, l1, l2, l3, .int x, l5, l6, l7] (.int x :: S) h) ∧
  (∀ (l0 l1 l2 l3 l4 l5 l6 l7 : Value) (S : List Value) (h : zH), rn 174 62 [l0, l1, l2, l3, l4, l5, l6, l7] S h = rn 174 63 [l0, l1, l2, l3, l4, l5, l6, l7] (.int (nI 3) :: S) h) ∧
  (∀ (l0 l1 l2 l3 l4 l5 l6 l7 : Value) (x : Int32) (y : Int32) (S : List Value) (h : zH), rn 174 63 [l0, l1, l2, l3, l4, l5, l6, l7] (.int y :: .int x :: S) h = if y < x then rn 174 86 [l0, l1, l2, l3, l4, l5, l6, l7] S h else rn 174 66 [l0, l1, l2, l3, l4, l5, l6, l7] S h) ∧
  (∀ (l0 l1 l2 l3 l4 l6 l7 : Value) (x : Int64) (S : List Value) (h : zH), rn 174 66 [l0, l1, l2, l3, l4, .long x, l6, l7] S h = rn 174 68 [l0, l1, l2, l3, l4, .long x, l6, l7] (.long x :: S) h) ∧
  (∀ (l1 l2 l3 l4 l5 l6 l7 : Value) (x : Nat) (S : List Value) (h : zH), rn 174 68 [.ref x, l1, l2, l3, l4, l5, l6, l7] S h = rn 174 69 [.ref x, l1, l2, l3, l4, l5, l6, l7] (.ref x :: S) h) ∧
  (∀ (l0 l1 l2 l3 l4 l5 l6 l7 : Value) (a : Nat) (S : List Value) (h : zH), rn 174 69 [l0, l1, l2, l3, l4, l5, l6, l7] (.ref a :: S) h = zgf h a 11 0 fun v => rn 174 72 [l0, l1, l2, l3, l4, l5, l6, l7] (v :: S) h) ∧
  (∀ (l0 l2 l3 l4 l5 l6 l7 : Value) (x : Int32) (S : List Value) (h : zH), rn 174 72 [l0, .int x, l2, l3, l4, l5, l6, l7] S h = rn 174 73 [l0, .int x, l2, l3, l4, l5, l6, l7] (.int x :: S) h) ∧
  (∀ (l0 l1 l2 l3 l5 l6 l7 : Value) (x : Int32) (S : List Value) (h : zH), rn 174 73 [l0, l1, l2, l3, .int x, l5, l6, l7] S h = rn 174 75 [l0, l1, l2, l3, .int x, l5, l6, l7] (.int x :: S) h) ∧
  (∀ (l0 l1 l2 l3 l4 l5 l6 l7 : Value) (o : Nat) (v0 : Value) (v1 : Value) (S : List Value) (h : zH), rn 174 75 [l0, l1, l2, l3, l4, l5, l6, l7] (v1 :: v0 :: .ref o :: S) h = if zkd h o = 1 ∧ zsum S ≤ 8 then zcall (ev 171 [.ref o, v0, v1] h) (fun v h => rn 174 78 [l0, l1, l2, l3, l4, l5, l6, l7] (zpush v S) h) else none) ∧
  (∀ (l0 l1 l2 l3 l4 l5 l6 l7 : Value) (x : Int64) (y : Int64) (S : List Value) (h : zH), rn 174 78 [l0, l1, l2, l3, l4, l5, l6, l7] (.long y :: .long x :: S) h = rn 174 79 [l0, l1, l2, l3, l4, l5, l6, l7] (.int (lg_cmp x y) :: S) h) ∧
  (∀ (l0 l1 l2 l3 l4 l5 l6 l7 : Value) (x : Int32) (S : List Value) (h : zH), rn 174 79 [l0, l1, l2, l3, l4, l5, l6, l7] (.int x :: S) h = if x = nI 0 then rn 174 86 [l0, l1, l2, l3, l4, l5, l6, l7] S h else rn 174 82 [l0, l1, l2, l3, l4, l5, l6, l7] S h) ∧
  (∀ (l0 l1 l2 l3 l4 l5 l6 l7 : Value) (S : List Value) (h : zH), rn 174 82 [l0, l1, l2, l3, l4, l5, l6, l7] S h = rn 174 83 [l0, l1, l2, l3, l4, l5, l6, l7] (.int (nI 1) :: S) h) ∧
  (∀ (l0 l1 l2 l3 l4 l5 l6 l7 : Value) (S : List Value) (h : zH), rn 174 83 [l0, l1, l2, l3, l4, l5, l6, l7] S h = rn 174 87 [l0, l1, l2, l3, l4, l5, l6, l7] S h) ∧
  (∀ (l0 l1 l2 l3 l4 l5 l6 l7 : Value) (S : List Value) (h : zH), rn 174 86 [l0, l1, l2, l3, l4, l5, l6, l7] S h = rn 174 87 [l0, l1, l2, l3, l4, l5, l6, l7] (.int (nI 0) :: S) h) ∧
  (∀ (l0 l1 l2 l3 l4 l5 l6 l7 : Value) (x : Int32) (S : List Value) (h : zH), rn 174 87 [l0, l1, l2, l3, l4, l5, l6, l7] (.int x :: S) h = nl l6 (rn 174 89 [l0, l1, l2, l3, l4, l5, l6, .int x] S h)) ∧
  (∀ (l1 l2 l3 l4 l5 l6 l7 : Value) (x : Nat) (S : List Value) (h : zH), rn 174 89 [.ref x, l1, l2, l3, l4, l5, l6, l7] S h = rn 174 90 [.ref x, l1, l2, l3, l4, l5, l6, l7] (.ref x :: S) h) ∧
  (∀ (l0 l1 l2 l3 l4 l5 l6 l7 : Value) (a : Nat) (S : List Value) (h : zH), rn 174 90 [l0, l1, l2, l3, l4, l5, l6, l7] (.ref a :: S) h = zgf h a 11 7 fun v => rn 174 93 [l0, l1, l2, l3, l4, l5, l6, l7] (v :: S) h) ∧
  (∀ (l0 l1 l2 l3 l5 l6 l7 : Value) (x : Int32) (S : List Value) (h : zH), rn 174 93 [l0, l1, l2, l3, .int x, l5, l6, l7] S h = rn 174 95 [l0, l1, l2, l3, .int x, l5, l6, l7] (.int x :: S) h) ∧
  (∀ (l1 l2 l3 l4 l5 l6 l7 : Value) (x : Nat) (S : List Value) (h : zH), rn 174 95 [.ref x, l1, l2, l3, l4, l5, l6, l7] S h = rn 174 96 [.ref x, l1, l2, l3, l4, l5, l6, l7] (.ref x :: S) h) ∧
  (∀ (l0 l1 l2 l3 l4 l5 l6 l7 : Value) (a : Nat) (S : List Value) (h : zH), rn 174 96 [l0, l1, l2, l3, l4, l5, l6, l7] (.ref a :: S) h = zgf h a 11 0 fun v => rn 174 99 [l0, l1, l2, l3, l4, l5, l6, l7] (v :: S) h) ∧
  (∀ (l0 l1 l2 l3 l4 l5 l6 l7 : Value) (a : Nat) (S : List Value) (h : zH), rn 174 99 [l0, l1, l2, l3, l4, l5, l6, l7] (.ref a :: S) h = zgf h a 1 2 fun v => rn 174 102 [l0, l1, l2, l3, l4, l5, l6, l7] (v :: S) h) ∧
  (∀ (l0 l1 l2 l3 l4 l5 l6 : Value) (x : Int32) (S : List Value) (h : zH), rn 174 102 [l0, l1, l2, l3, l4, l5, l6, .int x] S h = rn 174 104 [l0, l1, l2, l3, l4, l5, l6, .int x] (.int x :: S) h) ∧
  (∀ (l0 l1 l2 l3 l4 l5 l6 l7 : Value) (x : Int32) (S : List Value) (h : zH), rn 174 104 [l0, l1, l2, l3, l4, l5, l6, l7] (.int x :: S) h = if x = nI 0 then rn 174 111 [l0, l1, l2, l3, l4, l5, l6, l7] S h else rn 174 107 [l0, l1, l2, l3, l4, l5, l6, l7] S h) ∧
  (∀ (l0 l1 l2 l3 l4 l5 l6 l7 : Value) (S : List Value) (h : zH), rn 174 107 [l0, l1, l2, l3, l4, l5, l6, l7] S h = rn 174 108 [l0, l1, l2, l3, l4, l5, l6, l7] (.int (nI 1) :: S) h) ∧
  (∀ (l0 l1 l2 l3 l4 l5 l6 l7 : Value) (S : List Value) (h : zH), rn 174 108 [l0, l1, l2, l3, l4, l5, l6, l7] S h = rn 174 112 [l0, l1, l2, l3, l4, l5, l6, l7] S h) ∧
  (∀ (l0 l1 l2 l3 l4 l5 l6 l7 : Value) (S : List Value) (h : zH), rn 174 111 [l0, l1, l2, l3, l4, l5, l6, l7] S h = rn 174 112 [l0, l1, l2, l3, l4, l5, l6, l7] (.int (nI 0) :: S) h) ∧
  (∀ (l0 l1 l2 l3 l4 l6 l7 : Value) (x : Int64) (S : List Value) (h : zH), rn 174 112 [l0, l1, l2, l3, l4, .long x, l6, l7] S h = rn 174 114 [l0, l1, l2, l3, l4, .long x, l6, l7] (.long x :: S) h) ∧
  (∀ (l0 l1 l2 l3 l4 l5 l6 l7 : Value) (o : Nat) (v0 : Value) (v1 : Value) (v2 : Value) (v3 : Value) (S : List Value) (h : zH), rn 174 114 [l0, l1, l2, l3, l4, l5, l6, l7] (v3 :: v2 :: v1 :: v0 :: .ref o :: S) h = if zkd h o = 8 ∧ zsum S ≤ 8 then zcall (ev 111 [.ref o, v0, v1, v2, v3] h) (fun v h => rn 174 117 [l0, l1, l2, l3, l4, l5, l6, l7] (zpush v S) h) else none) ∧
  (∀ (l0 l1 l2 l4 l5 l6 l7 : Value) (x : Int32) (S : List Value) (h : zH), rn 174 117 [l0, l1, l2, .int x, l4, l5, l6, l7] S h = nl l2 (rn 174 120 [l0, l1, l2, .int (x + (nI 1)), l4, l5, l6, l7] S h)) ∧
  (∀ (l0 l1 l2 l3 l4 l5 l6 l7 : Value) (S : List Value) (h : zH), rn 174 120 [l0, l1, l2, l3, l4, l5, l6, l7] S h = rn 174 18 [l0, l1, l2, l3, l4, l5, l6, l7] S h) ∧
  (∀ (l1 l2 l3 l4 l5 l6 l7 : Value) (x : Nat) (S : List Value) (h : zH), rn 174 123 [.ref x, l1, l2, l3, l4, l5, l6, l7] S h = rn 174 124 [.ref x, l1, l2, l3, l4, l5, l6, l7] (.ref x :: S) h) ∧
  (∀ (l0 l1 l2 l3 l4 l5 l6 l7 : Value) (a : Nat) (S : List Value) (h : zH), rn 174 124 [l0, l1, l2, l3, l4, l5, l6, l7] (.ref a :: S) h = zgf h a 11 7 fun v => rn 174 127 [l0, l1, l2, l3, l4, l5, l6, l7] (v :: S) h) ∧
  (∀ (l0 l1 l3 l4 l5 l6 l7 : Value) (x : Int32) (S : List Value) (h : zH), rn 174 127 [l0, l1, .int x, l3, l4, l5, l6, l7] S h = rn 174 128 [l0, l1, .int x, l3, l4, l5, l6, l7] (.int x :: S) h) ∧
  (∀ (l0 l1 l2 l3 l4 l5 l6 l7 : Value) (o : Nat) (v0 : Value) (S : List Value) (h : zH), rn 174 128 [l0, l1, l2, l3, l4, l5, l6, l7] (v0 :: .ref o :: S) h = if zkd h o = 8 ∧ zsum S ≤ 8 then zcall (ev 148 [.ref o, v0] h) (fun v h => rn 174 131 [l0, l1, l2, l3, l4, l5, l6, l7] (zpush v S) h) else none) ∧
  (∀ (l0 l1 l2 l3 l4 l5 l6 l7 : Value) (x : Int32) (h : zH), rn 174 131 [l0, l1, l2, l3, l4, l5, l6, l7] [.int x] h = some (some (.int x), h)) := ⟨fun _ _ _ _ _ _ _ _ _ _ => r_iload_n (show zdec 174 0 = some (.iload_n 1, 1) by decide +kernel) rfl rfl,
  fun _ _ _ _ _ _ _ _ _ _ _ => r_cS [_] rfl (show zdec 174 1 = some (.invokestatic 116, 3) by decide +kernel) (show zst.lookup (174 * zKEY + 116) = some (0, 23, 1, 0) by decide +kernel) (by decide) rfl,
  fun _ _ _ _ _ _ _ _ _ _ _ => r_ifne (show zdec 174 4 = some (.ifCond .ne 5, 3) by decide +kernel) rfl rfl,
  fun _ _ _ _ _ _ _ _ _ _ => r_iconst (show zdec 174 7 = some (.iconst (-1), 1) by decide +kernel) rfl rfl,
  fun _ _ _ _ _ _ _ _ _ _ => r_ireti (show zdec 174 8 = some (.ireturn, 1) by decide +kernel) (by decide +kernel),
  fun _ _ _ _ _ _ _ _ _ _ => r_aload_nr (show zdec 174 9 = some (.aload_n 0, 1) by decide +kernel) rfl rfl,
  fun _ _ _ _ _ _ _ _ _ _ _ => r_getfield (show zdec 174 10 = some (.getfield 54, 3) by decide +kernel) (show zft.lookup (174 * zKEY + 54) = some (11, 7) by decide +kernel) rfl,
  fun _ _ _ _ _ _ _ _ _ _ _ => r_cV [] rfl (show zdec 174 13 = some (.invokevirtual 248, 3) by decide +kernel) (show zst.lookup (174 * zKEY + 248) = some (1, 97, 0, 8) by decide +kernel) (by decide) rfl,
  fun _ _ _ _ _ _ _ _ _ _ => r_iconst (show zdec 174 16 = some (.iconst 0, 1) by decide +kernel) rfl rfl,
  fun _ _ _ _ _ _ _ _ _ _ _ => r_istore_n (show zdec 174 17 = some (.istore_n 3, 1) by decide +kernel) rfl rfl (Nat.le_of_ble_eq_true rfl) rfl rfl,
  fun _ _ _ _ _ _ _ _ _ _ => r_getstatic (show zdec 174 19 = some (.getstatic 251, 3) by decide +kernel) (show zgt.lookup (174 * zKEY + 251) = some 0 by decide +kernel) (by rfl) rfl,
  fun _ _ _ _ _ _ _ _ _ _ _ => r_alen (show zdec 174 22 = some (.arraylength, 1) by decide +kernel) rfl,
  fun _ _ _ _ _ _ _ _ _ _ _ _ => r_icmpge (show zdec 174 23 = some (.if_icmp .ge 100, 3) by decide +kernel) rfl rfl,
  fun _ _ _ _ _ _ _ _ _ _ => r_iload_n (show zdec 174 26 = some (.iload_n 3, 1) by decide +kernel) rfl rfl,
  fun _ _ _ _ _ _ _ _ _ _ => r_getstatic (show zdec 174 27 = some (.getstatic 254, 3) by decide +kernel) (show zgt.lookup (174 * zKEY + 254) = some 1 by decide +kernel) (by rfl) rfl,
  fun _ _ _ _ _ _ _ _ _ _ _ => r_alen (show zdec 174 30 = some (.arraylength, 1) by decide +kernel) rfl,
  fun _ _ _ _ _ _ _ _ _ _ _ _ => r_icmpge (show zdec 174 31 = some (.if_icmp .ge 92, 3) by decide +kernel) rfl rfl,
  fun _ _ _ _ _ _ _ _ _ _ => r_getstatic (show zdec 174 34 = some (.getstatic 251, 3) by decide +kernel) (show zgt.lookup (174 * zKEY + 251) = some 0 by decide +kernel) (by rfl) rfl,
  fun _ _ _ _ _ _ _ _ _ _ => r_iload_n (show zdec 174 37 = some (.iload_n 3, 1) by decide +kernel) rfl rfl,
  fun _ _ _ _ _ _ _ _ _ _ _ _ => r_iald (show zdec 174 38 = some (.iaload, 1) by decide +kernel) rfl,
  fun _ _ _ _ _ _ _ _ _ _ _ => r_istore (show zdec 174 39 = some (.istore 4, 2) by decide +kernel) rfl (Nat.le_of_ble_eq_true rfl) rfl rfl,
  fun _ _ _ _ _ _ _ _ _ _ => r_aload_nr (show zdec 174 41 = some (.aload_n 0, 1) by decide +kernel) rfl rfl,
  fun _ _ _ _ _ _ _ _ _ _ _ => r_getfield (show zdec 174 42 = some (.getfield 10, 3) by decide +kernel) (show zft.lookup (174 * zKEY + 10) = some (11, 0) by decide +kernel) rfl,
  fun _ _ _ _ _ _ _ _ _ _ _ => r_getfield (show zdec 174 45 = some (.getfield 127, 3) by decide +kernel) (show zft.lookup (174 * zKEY + 127) = some (1, 0) by decide +kernel) rfl,
  fun _ _ _ _ _ _ _ _ _ _ => r_iload_n (show zdec 174 48 = some (.iload_n 1, 1) by decide +kernel) rfl rfl,
  fun _ _ _ _ _ _ _ _ _ _ _ _ => r_aald (show zdec 174 49 = some (.aaload, 1) by decide +kernel) rfl,
  fun _ _ _ _ _ _ _ _ _ _ => r_getstatic (show zdec 174 50 = some (.getstatic 254, 3) by decide +kernel) (show zgt.lookup (174 * zKEY + 254) = some 1 by decide +kernel) (by rfl) rfl,
  fun _ _ _ _ _ _ _ _ _ _ => r_iload_n (show zdec 174 53 = some (.iload_n 3, 1) by decide +kernel) rfl rfl,
  fun _ _ _ _ _ _ _ _ _ _ _ _ => r_iald (show zdec 174 54 = some (.iaload, 1) by decide +kernel) rfl,
  fun _ _ _ _ _ _ _ _ _ _ _ _ => r_cV [_] rfl (show zdec 174 55 = some (.invokevirtual 230, 3) by decide +kernel) (show zst.lookup (174 * zKEY + 230) = some (1, 165, 1, 10) by decide +kernel) (by decide) rfl,
  fun _ _ _ _ _ _ _ _ _ _ _ => r_lstore (show zdec 174 58 = some (.lstore 5, 2) by decide +kernel) rfl (Nat.le_of_ble_eq_true rfl) rfl rfl,
  fun _ _ _ _ _ _ _ _ _ _ => r_iload (show zdec 174 60 = some (.iload 4, 2) by decide +kernel) rfl rfl,
  fun _ _ _ _ _ _ _ _ _ _ => r_iconst (show zdec 174 62 = some (.iconst 3, 1) by decide +kernel) rfl rfl,
  fun _ _ _ _ _ _ _ _ _ _ _ _ => r_icmpgt (show zdec 174 63 = some (.if_icmp .gt 23, 3) by decide +kernel) rfl rfl,
  fun _ _ _ _ _ _ _ _ _ _ => r_lload (show zdec 174 66 = some (.lload 5, 2) by decide +kernel) rfl rfl,
  fun _ _ _ _ _ _ _ _ _ _ => r_aload_nr (show zdec 174 68 = some (.aload_n 0, 1) by decide +kernel) rfl rfl,
  fun _ _ _ _ _ _ _ _ _ _ _ => r_getfield (show zdec 174 69 = some (.getfield 10, 3) by decide +kernel) (show zft.lookup (174 * zKEY + 10) = some (11, 0) by decide +kernel) rfl,
  fun _ _ _ _ _ _ _ _ _ _ => r_iload_n (show zdec 174 72 = some (.iload_n 1, 1) by decide +kernel) rfl rfl,
  fun _ _ _ _ _ _ _ _ _ _ => r_iload (show zdec 174 73 = some (.iload 4, 2) by decide +kernel) rfl rfl,
  fun _ _ _ _ _ _ _ _ _ _ _ _ _ => r_cV [_, _] rfl (show zdec 174 75 = some (.invokevirtual 238, 3) by decide +kernel) (show zst.lookup (174 * zKEY + 238) = some (1, 171, 2, 1) by decide +kernel) (by decide) rfl,
  fun _ _ _ _ _ _ _ _ _ _ _ _ => r_lcmp (show zdec 174 78 = some (.lcmp, 1) by decide +kernel) rfl,
  fun _ _ _ _ _ _ _ _ _ _ _ => r_ifeq (show zdec 174 79 = some (.ifCond .eq 7, 3) by decide +kernel) rfl rfl,
  fun _ _ _ _ _ _ _ _ _ _ => r_iconst (show zdec 174 82 = some (.iconst 1, 1) by decide +kernel) rfl rfl,
  fun _ _ _ _ _ _ _ _ _ _ => r_goto (show zdec 174 83 = some (.goto 4, 3) by decide +kernel) rfl,
  fun _ _ _ _ _ _ _ _ _ _ => r_iconst (show zdec 174 86 = some (.iconst 0, 1) by decide +kernel) rfl rfl,
  fun _ _ _ _ _ _ _ _ _ _ _ => r_istore (show zdec 174 87 = some (.istore 7, 2) by decide +kernel) rfl (Nat.le_of_ble_eq_true rfl) rfl rfl,
  fun _ _ _ _ _ _ _ _ _ _ => r_aload_nr (show zdec 174 89 = some (.aload_n 0, 1) by decide +kernel) rfl rfl,
  fun _ _ _ _ _ _ _ _ _ _ _ => r_getfield (show zdec 174 90 = some (.getfield 54, 3) by decide +kernel) (show zft.lookup (174 * zKEY + 54) = some (11, 7) by decide +kernel) rfl,
  fun _ _ _ _ _ _ _ _ _ _ => r_iload (show zdec 174 93 = some (.iload 4, 2) by decide +kernel) rfl rfl,
  fun _ _ _ _ _ _ _ _ _ _ => r_aload_nr (show zdec 174 95 = some (.aload_n 0, 1) by decide +kernel) rfl rfl,
  fun _ _ _ _ _ _ _ _ _ _ _ => r_getfield (show zdec 174 96 = some (.getfield 10, 3) by decide +kernel) (show zft.lookup (174 * zKEY + 10) = some (11, 0) by decide +kernel) rfl,
  fun _ _ _ _ _ _ _ _ _ _ _ => r_getfield (show zdec 174 99 = some (.getfield 112, 3) by decide +kernel) (show zft.lookup (174 * zKEY + 112) = some (1, 2) by decide +kernel) rfl,
  fun _ _ _ _ _ _ _ _ _ _ => r_iload (show zdec 174 102 = some (.iload 7, 2) by decide +kernel) rfl rfl,
  fun _ _ _ _ _ _ _ _ _ _ _ => r_ifeq (show zdec 174 104 = some (.ifCond .eq 7, 3) by decide +kernel) rfl rfl,
  fun _ _ _ _ _ _ _ _ _ _ => r_iconst (show zdec 174 107 = some (.iconst 1, 1) by decide +kernel) rfl rfl,
  fun _ _ _ _ _ _ _ _ _ _ => r_goto (show zdec 174 108 = some (.goto 4, 3) by decide +kernel) rfl,
  fun _ _ _ _ _ _ _ _ _ _ => r_iconst (show zdec 174 111 = some (.iconst 0, 1) by decide +kernel) rfl rfl,
  fun _ _ _ _ _ _ _ _ _ _ => r_lload (show zdec 174 112 = some (.lload 5, 2) by decide +kernel) rfl rfl,
  fun _ _ _ _ _ _ _ _ _ _ _ _ _ _ _ => r_cV [_, _, _, _] rfl (show zdec 174 114 = some (.invokevirtual 257, 3) by decide +kernel) (show zst.lookup (174 * zKEY + 257) = some (1, 111, 4, 8) by decide +kernel) (by decide) rfl,
  fun _ _ _ _ _ _ _ _ _ _ => r_iinc (show zdec 174 117 = some (.iinc 3 1, 3) by decide +kernel) rfl rfl rfl (Nat.le_of_ble_eq_true rfl) rfl rfl,
  fun _ _ _ _ _ _ _ _ _ _ => r_goto (show zdec 174 120 = some (.goto (-102), 3) by decide +kernel) rfl,
  fun _ _ _ _ _ _ _ _ _ _ => r_aload_nr (show zdec 174 123 = some (.aload_n 0, 1) by decide +kernel) rfl rfl,
  fun _ _ _ _ _ _ _ _ _ _ _ => r_getfield (show zdec 174 124 = some (.getfield 54, 3) by decide +kernel) (show zft.lookup (174 * zKEY + 54) = some (11, 7) by decide +kernel) rfl,
  fun _ _ _ _ _ _ _ _ _ _ => r_iload_n (show zdec 174 127 = some (.iload_n 2, 1) by decide +kernel) rfl rfl,
  fun _ _ _ _ _ _ _ _ _ _ _ _ => r_cV [_] rfl (show zdec 174 128 = some (.invokevirtual 212, 3) by decide +kernel) (show zst.lookup (174 * zKEY + 212) = some (1, 148, 1, 8) by decide +kernel) (by decide) rfl,
  fun _ _ _ _ _ _ _ _ _ _ => r_ireti (show zdec 174 131 = some (.ireturn, 1) by decide +kernel) (by decide +kernel)⟩
theorem zl_174_18 : ∀ (l0 l1 l2 l4 l5 l6 l7 : Value) (x : Int32) (S : List Value) (h : zH), rn 174 18 [l0, l1, l2, .int x, l4, l5, l6, l7] S h = rn 174 19 [l0, l1, l2, .int x, l4, l5, l6, l7] (.int x :: S) h := fun _ _ _ _ _ _ _ _ _ _ => r_iload_n (show zdec 174 18 = some (.iload_n 3, 1) by decide +kernel) rfl rfl
theorem ze_174 : ∀ (a0 : Nat) (a1 : Int32) (a2 : Int32) (h : zH), ev 174 [.ref a0, .int a1, .int a2] h = rn 174 0 [.ref a0, .int a1, .int a2, .float 0, .float 0, .float 0, .float 0, .float 0] [] h := fun _ _ _ _ => if_pos (Nat.le_of_ble_eq_true rfl)
-- PayrollRun.lowest(I)I
theorem zr_175 : (∀ (l0 : Value) (x : Int32) (S : List Value) (h : zH), rn 175 0 [l0, .int x] S h = rn 175 1 [l0, .int x] (.int x :: S) h) ∧
  (∀ (l0 l1 : Value) (v0 : Value) (S : List Value) (h : zH), rn 175 1 [l0, l1] (v0 :: S) h = if zsum S ≤ 8 then zcall (ev 23 [v0] h) (fun v h => rn 175 4 [l0, l1] (zpush v S) h) else none) ∧
  (∀ (l0 l1 : Value) (x : Int32) (S : List Value) (h : zH), rn 175 4 [l0, l1] (.int x :: S) h = if x = nI 0 then rn 175 22 [l0, l1] S h else rn 175 7 [l0, l1] S h) ∧
  (∀ (l1 : Value) (x : Nat) (S : List Value) (h : zH), rn 175 7 [.ref x, l1] S h = rn 175 8 [.ref x, l1] (.ref x :: S) h) ∧
  (∀ (l0 l1 : Value) (a : Nat) (S : List Value) (h : zH), rn 175 8 [l0, l1] (.ref a :: S) h = zgf h a 11 0 fun v => rn 175 11 [l0, l1] (v :: S) h) ∧
  (∀ (l0 l1 : Value) (a : Nat) (S : List Value) (h : zH), rn 175 11 [l0, l1] (.ref a :: S) h = zgf h a 1 0 fun v => rn 175 14 [l0, l1] (v :: S) h) ∧
  (∀ (l0 : Value) (x : Int32) (S : List Value) (h : zH), rn 175 14 [l0, .int x] S h = rn 175 15 [l0, .int x] (.int x :: S) h) ∧
  (∀ (l0 l1 : Value) (a : Nat) (j : Int32) (S : List Value) (h : zH), rn 175 15 [l0, l1] (.int j :: .ref a :: S) h = zlq h a j fun x => rn 175 16 [l0, l1] (va_rf x :: S) h) ∧
  (∀ (l0 l1 : Value) (o : Nat) (S : List Value) (h : zH), rn 175 16 [l0, l1] (.ref o :: S) h = if zkd h o = 10 ∧ zsum S ≤ 8 then zcall (ev 176 [.ref o] h) (fun v h => rn 175 19 [l0, l1] (zpush v S) h) else none) ∧
  (∀ (l0 l1 : Value) (S : List Value) (h : zH), rn 175 19 [l0, l1] S h = rn 175 23 [l0, l1] S h) ∧
  (∀ (l0 l1 : Value) (S : List Value) (h : zH), rn 175 22 [l0, l1] S h = rn 175 23 [l0, l1] (.int (-1) :: S) h) ∧
  (∀ (l0 l1 : Value) (x : Int32) (h : zH), rn 175 23 [l0, l1] [.int x] h = some (some (.int x), h)) := ⟨fun _ _ _ _ => r_iload_n (show zdec 175 0 = some (.iload_n 1, 1) by decide +kernel) rfl rfl,
  fun _ _ _ _ _ => r_cS [_] rfl (show zdec 175 1 = some (.invokestatic 116, 3) by decide +kernel) (show zst.lookup (175 * zKEY + 116) = some (0, 23, 1, 0) by decide +kernel) (by decide) rfl,
  fun _ _ _ _ _ => r_ifeq (show zdec 175 4 = some (.ifCond .eq 18, 3) by decide +kernel) rfl rfl,
  fun _ _ _ _ => r_aload_nr (show zdec 175 7 = some (.aload_n 0, 1) by decide +kernel) rfl rfl,
  fun _ _ _ _ _ => r_getfield (show zdec 175 8 = some (.getfield 10, 3) by decide +kernel) (show zft.lookup (175 * zKEY + 10) = some (11, 0) by decide +kernel) rfl,
  fun _ _ _ _ _ => r_getfield (show zdec 175 11 = some (.getfield 127, 3) by decide +kernel) (show zft.lookup (175 * zKEY + 127) = some (1, 0) by decide +kernel) rfl,
  fun _ _ _ _ => r_iload_n (show zdec 175 14 = some (.iload_n 1, 1) by decide +kernel) rfl rfl,
  fun _ _ _ _ _ _ => r_aald (show zdec 175 15 = some (.aaload, 1) by decide +kernel) rfl,
  fun _ _ _ _ _ => r_cV [] rfl (show zdec 175 16 = some (.invokevirtual 261, 3) by decide +kernel) (show zst.lookup (175 * zKEY + 261) = some (1, 176, 0, 10) by decide +kernel) (by decide) rfl,
  fun _ _ _ _ => r_goto (show zdec 175 19 = some (.goto 4, 3) by decide +kernel) rfl,
  fun _ _ _ _ => r_iconst (show zdec 175 22 = some (.iconst (-1), 1) by decide +kernel) rfl rfl,
  fun _ _ _ _ => r_ireti (show zdec 175 23 = some (.ireturn, 1) by decide +kernel) (by decide +kernel)⟩
theorem ze_175 : ∀ (a0 : Nat) (a1 : Int32) (h : zH), ev 175 [.ref a0, .int a1] h = rn 175 0 [.ref a0, .int a1] [] h := fun _ _ _ => if_pos (Nat.le_of_ble_eq_true rfl)
-- PayrollRun.corrections(II)I
theorem zr_177 : (∀ (l0 l2 l3 : Value) (x : Int32) (S : List Value) (h : zH), rn 177 0 [l0, .int x, l2, l3] S h = rn 177 1 [l0, .int x, l2, l3] (.int x :: S) h) ∧
  (∀ (l0 l1 l2 l3 : Value) (v0 : Value) (S : List Value) (h : zH), rn 177 1 [l0, l1, l2, l3] (v0 :: S) h = if zsum S ≤ 8 then zcall (ev 23 [v0] h) (fun v h => rn 177 4 [l0, l1, l2, l3] (zpush v S) h) else none) ∧
  (∀ (l0 l1 l2 l3 : Value) (x : Int32) (S : List Value) (h : zH), rn 177 4 [l0, l1, l2, l3] (.int x :: S) h = if x = nI 0 then rn 177 14 [l0, l1, l2, l3] S h else rn 177 7 [l0, l1, l2, l3] S h) ∧
  (∀ (l0 l1 l3 : Value) (x : Int32) (S : List Value) (h : zH), rn 177 7 [l0, l1, .int x, l3] S h = rn 177 8 [l0, l1, .int x, l3] (.int x :: S) h) ∧
  (∀ (l0 l1 l2 l3 : Value) (v0 : Value) (S : List Value) (h : zH), rn 177 8 [l0, l1, l2, l3] (v0 :: S) h = if zsum S ≤ 8 then zcall (ev 25 [v0] h) (fun v h => rn 177 11 [l0, l1, l2, l3] (zpush v S) h) else none) ∧
  (∀ (l0 l1 l2 l3 : Value) (x : Int32) (S : List Value) (h : zH), rn 177 11 [l0, l1, l2, l3] (.int x :: S) h = if x = nI 0 then rn 177 14 [l0, l1, l2, l3] S h else rn 177 16 [l0, l1, l2, l3] S h) ∧
  (∀ (l0 l1 l2 l3 : Value) (S : List Value) (h : zH), rn 177 14 [l0, l1, l2, l3] S h = rn 177 15 [l0, l1, l2, l3] (.int (-1) :: S) h) ∧
  (∀ (l0 l1 l2 l3 : Value) (x : Int32) (h : zH), rn 177 15 [l0, l1, l2, l3] [.int x] h = some (some (.int x), h)) ∧
  (∀ (l1 l2 l3 : Value) (x : Nat) (S : List Value) (h : zH), rn 177 16 [.ref x, l1, l2, l3] S h = rn 177 17 [.ref x, l1, l2, l3] (.ref x :: S) h) ∧
  (∀ (l0 l1 l2 l3 : Value) (a : Nat) (S : List Value) (h : zH), rn 177 17 [l0, l1, l2, l3] (.ref a :: S) h = zgf h a 11 0 fun v => rn 177 20 [l0, l1, l2, l3] (v :: S) h) ∧
  (∀ (l0 l1 l2 l3 : Value) (a : Nat) (S : List Value) (h : zH), rn 177 20 [l0, l1, l2, l3] (.ref a :: S) h = zgf h a 1 0 fun v => rn 177 23 [l0, l1, l2, l3] (v :: S) h) ∧
  (∀ (l0 l2 l3 : Value) (x : Int32) (S : List Value) (h : zH), rn 177 23 [l0, .int x, l2, l3] S h = rn 177 24 [l0, .int x, l2, l3] (.int x :: S) h) ∧
  (∀ (l0 l1 l2 l3 : Value) (a : Nat) (j : Int32) (S : List Value) (h : zH), rn 177 24 [l0, l1, l2, l3] (.int j :: .ref a :: S) h = zlq h a j fun x => rn 177 25 [l0, l1, l2, l3] (va_rf x :: S) h) ∧
  (∀ (l0 l1 l2 l3 : Value) (a : Nat) (S : List Value) (h : zH), rn 177 25 [l0, l1, l2, l3] (.ref a :: S) h = zgf h a 10 3 fun v => rn 177 28 [l0, l1, l2, l3] (v :: S) h) ∧
  (∀ (l0 l1 l3 : Value) (x : Int32) (S : List Value) (h : zH), rn 177 28 [l0, l1, .int x, l3] S h = rn 177 29 [l0, l1, .int x, l3] (.int x :: S) h) ∧
  (∀ (l0 l1 l2 l3 : Value) (a : Nat) (j : Int32) (S : List Value) (h : zH), rn 177 29 [l0, l1, l2, l3] (.int j :: .ref a :: S) h = zlq h a j fun x => rn 177 30 [l0, l1, l2, l3] (va_rf x :: S) h) ∧
  (∀ (l0 l1 l2 l3 : Value) (v : Value) (S : List Value) (h : zH), rn 177 30 [l0, l1, l2, l3] (v :: S) h = ldA v (nl l2 (rn 177 31 [l0, l1, l2, v] S h))) ∧
  (∀ (l0 l1 l2 l3 : Value) (S : List Value) (h : zH), rn 177 31 [l0, l1, l2, l3] S h = ldA l3 (rn 177 32 [l0, l1, l2, l3] (l3 :: S) h)) ∧
  (∀ (l0 l1 l2 l3 : Value) (v : Value) (S : List Value) (h : zH), rn 177 32 [l0, l1, l2, l3] (v :: S) h = ifN v (rn 177 35 [l0, l1, l2, l3] S h) (rn 177 40 [l0, l1, l2, l3] S h)) ∧
  (∀ (l0 l1 l2 l3 : Value) (S : List Value) (h : zH), rn 177 35 [l0, l1, l2, l3] S h = rn 177 37 [l0, l1, l2, l3] (.int (-2) :: S) h) ∧
  (∀ (l0 l1 l2 l3 : Value) (S : List Value) (h : zH), rn 177 37 [l0, l1, l2, l3] S h = rn 177 45 [l0, l1, l2, l3] S h) ∧
  (∀ (l0 l1 l2 l3 : Value) (S : List Value) (h : zH), rn 177 40 [l0, l1, l2, l3] S h = ldA l3 (rn 177 41 [l0, l1, l2, l3] (l3 :: S) h)) ∧
  (∀ (l0 l1 l3 : Value) (x : Int32) (S : List Value) (h : zH), rn 177 41 [l0, l1, .int x, l3] S h = rn 177 42 [l0, l1, .int x, l3] (.int x :: S) h) ∧
  (∀ (l0 l1 l2 l3 : Value) (o : Nat) (v0 : Value) (S : List Value) (h : zH), rn 177 42 [l0, l1, l2, l3] (v0 :: .ref o :: S) h = if zkd h o = 7 ∧ zsum S ≤ 8 then zcall (ev 178 [.ref o, v0] h) (fun v h => rn 177 45 [l0, l1, l2, l3] (zpush v S) h) else none) ∧
  (∀ (l0 l1 l2 l3 : Value) (x : Int32) (h : zH), rn 177 45 [l0, l1, l2, l3] [.int x] h = some (some (.int x), h)) := ⟨fun _ _ _ _ _ _ => r_iload_n (show zdec 177 0 = some (.iload_n 1, 1) by decide +kernel) rfl rfl,
  fun _ _ _ _ _ _ _ => r_cS [_] rfl (show zdec 177 1 = some (.invokestatic 116, 3) by decide +kernel) (show zst.lookup (177 * zKEY + 116) = some (0, 23, 1, 0) by decide +kernel) (by decide) rfl,
  fun _ _ _ _ _ _ _ => r_ifeq (show zdec 177 4 = some (.ifCond .eq 10, 3) by decide +kernel) rfl rfl,
  fun _ _ _ _ _ _ => r_iload_n (show zdec 177 7 = some (.iload_n 2, 1) by decide +kernel) rfl rfl,
  fun _ _ _ _ _ _ _ => r_cS [_] rfl (show zdec 177 8 = some (.invokestatic 120, 3) by decide +kernel) (show zst.lookup (177 * zKEY + 120) = some (0, 25, 1, 0) by decide +kernel) (by decide) rfl,
  fun _ _ _ _ _ _ _ => r_ifne (show zdec 177 11 = some (.ifCond .ne 5, 3) by decide +kernel) rfl rfl,
  fun _ _ _ _ _ _ => r_iconst (show zdec 177 14 = some (.iconst (-1), 1) by decide +kernel) rfl rfl,
  fun _ _ _ _ _ _ => r_ireti (show zdec 177 15 = some (.ireturn, 1) by decide +kernel) (by decide +kernel),
  fun _ _ _ _ _ _ => r_aload_nr (show zdec 177 16 = some (.aload_n 0, 1) by decide +kernel) rfl rfl,
  fun _ _ _ _ _ _ _ => r_getfield (show zdec 177 17 = some (.getfield 10, 3) by decide +kernel) (show zft.lookup (177 * zKEY + 10) = some (11, 0) by decide +kernel) rfl,
  fun _ _ _ _ _ _ _ => r_getfield (show zdec 177 20 = some (.getfield 127, 3) by decide +kernel) (show zft.lookup (177 * zKEY + 127) = some (1, 0) by decide +kernel) rfl,
  fun _ _ _ _ _ _ => r_iload_n (show zdec 177 23 = some (.iload_n 1, 1) by decide +kernel) rfl rfl,
  fun _ _ _ _ _ _ _ _ => r_aald (show zdec 177 24 = some (.aaload, 1) by decide +kernel) rfl,
  fun _ _ _ _ _ _ _ => r_getfield (show zdec 177 25 = some (.getfield 194, 3) by decide +kernel) (show zft.lookup (177 * zKEY + 194) = some (10, 3) by decide +kernel) rfl,
  fun _ _ _ _ _ _ => r_iload_n (show zdec 177 28 = some (.iload_n 2, 1) by decide +kernel) rfl rfl,
  fun _ _ _ _ _ _ _ _ => r_aald (show zdec 177 29 = some (.aaload, 1) by decide +kernel) rfl,
  fun _ _ _ _ _ _ _ => r_astore_n (show zdec 177 30 = some (.astore_n 3, 1) by decide +kernel) rfl rfl (Nat.le_of_ble_eq_true rfl) rfl rfl,
  fun _ _ _ _ _ _ => r_aload_n (show zdec 177 31 = some (.aload_n 3, 1) by decide +kernel) rfl rfl,
  fun _ _ _ _ _ _ _ => r_ifnonnull (show zdec 177 32 = some (.ifnonnull 8, 3) by decide +kernel) rfl rfl,
  fun _ _ _ _ _ _ => r_bipush (show zdec 177 35 = some (.bipush (-2), 2) by decide +kernel) rfl rfl,
  fun _ _ _ _ _ _ => r_goto (show zdec 177 37 = some (.goto 8, 3) by decide +kernel) rfl,
  fun _ _ _ _ _ _ => r_aload_n (show zdec 177 40 = some (.aload_n 3, 1) by decide +kernel) rfl rfl,
  fun _ _ _ _ _ _ => r_iload_n (show zdec 177 41 = some (.iload_n 2, 1) by decide +kernel) rfl rfl,
  fun _ _ _ _ _ _ _ _ => r_cV [_] rfl (show zdec 177 42 = some (.invokevirtual 264, 3) by decide +kernel) (show zst.lookup (177 * zKEY + 264) = some (1, 178, 1, 7) by decide +kernel) (by decide) rfl,
  fun _ _ _ _ _ _ => r_ireti (show zdec 177 45 = some (.ireturn, 1) by decide +kernel) (by decide +kernel)⟩
theorem ze_177 : ∀ (a0 : Nat) (a1 : Int32) (a2 : Int32) (h : zH), ev 177 [.ref a0, .int a1, .int a2] h = rn 177 0 [.ref a0, .int a1, .int a2, .float 0] [] h := fun _ _ _ _ => if_pos (Nat.le_of_ble_eq_true rfl)
-- PayrollRun.feed(I)I
theorem zr_179 : (∀ (l1 : Value) (x : Nat) (S : List Value) (h : zH), rn 179 0 [.ref x, l1] S h = rn 179 1 [.ref x, l1] (.ref x :: S) h) ∧
  (∀ (l0 l1 : Value) (a : Nat) (S : List Value) (h : zH), rn 179 1 [l0, l1] (.ref a :: S) h = zgf h a 11 4 fun v => rn 179 4 [l0, l1] (v :: S) h) ∧
  (∀ (l0 : Value) (x : Int32) (S : List Value) (h : zH), rn 179 4 [l0, .int x] S h = rn 179 5 [l0, .int x] (.int x :: S) h) ∧
  (∀ (l0 l1 : Value) (o : Nat) (v0 : Value) (S : List Value) (h : zH), rn 179 5 [l0, l1] (v0 :: .ref o :: S) h = if zkd h o = 3 ∧ zsum S ≤ 8 then zcall (ev 180 [.ref o, v0] h) (fun v h => rn 179 8 [l0, l1] (zpush v S) h) else none) ∧
  (∀ (l0 l1 : Value) (x : Int32) (h : zH), rn 179 8 [l0, l1] [.int x] h = some (some (.int x), h)) := ⟨fun _ _ _ _ => r_aload_nr (show zdec 179 0 = some (.aload_n 0, 1) by decide +kernel) rfl rfl,
  fun _ _ _ _ _ => r_getfield (show zdec 179 1 = some (.getfield 33, 3) by decide +kernel) (show zft.lookup (179 * zKEY + 33) = some (11, 4) by decide +kernel) rfl,
  fun _ _ _ _ => r_iload_n (show zdec 179 4 = some (.iload_n 1, 1) by decide +kernel) rfl rfl,
  fun _ _ _ _ _ _ => r_cV [_] rfl (show zdec 179 5 = some (.invokevirtual 267, 3) by decide +kernel) (show zst.lookup (179 * zKEY + 267) = some (1, 180, 1, 3) by decide +kernel) (by decide) rfl,
  fun _ _ _ _ => r_ireti (show zdec 179 8 = some (.ireturn, 1) by decide +kernel) (by decide +kernel)⟩
theorem ze_179 : ∀ (a0 : Nat) (a1 : Int32) (h : zH), ev 179 [.ref a0, .int a1] h = rn 179 0 [.ref a0, .int a1] [] h := fun _ _ _ => if_pos (Nat.le_of_ble_eq_true rfl)
-- PayrollRun.execute()I
theorem zr_181 : (∀ (l1 l2 : Value) (x : Nat) (S : List Value) (h : zH), rn 181 0 [.ref x, l1, l2] S h = rn 181 1 [.ref x, l1, l2] (.ref x :: S) h) ∧
  (∀ (l0 l1 l2 : Value) (a : Nat) (S : List Value) (h : zH), rn 181 1 [l0, l1, l2] (.ref a :: S) h = zgf h a 11 4 fun v => rn 181 4 [l0, l1, l2] (v :: S) h) ∧
  (∀ (l0 l1 l2 : Value) (o : Nat) (S : List Value) (h : zH), rn 181 4 [l0, l1, l2] (.ref o :: S) h = if zkd h o = 3 ∧ zsum S ≤ 8 then zcall (ev 182 [.ref o] h) (fun v h => rn 181 7 [l0, l1, l2] (zpush v S) h) else none) ∧
  (∀ (l0 l1 l2 : Value) (x : Int32) (S : List Value) (h : zH), rn 181 7 [l0, l1, l2] (.int x :: S) h = nl l0 (rn 181 8 [l0, .int x, l2] S h)) ∧
  (∀ (l1 l2 : Value) (x : Nat) (S : List Value) (h : zH), rn 181 8 [.ref x, l1, l2] S h = rn 181 9 [.ref x, l1, l2] (.ref x :: S) h) ∧
  (∀ (l0 l1 l2 : Value) (a : Nat) (S : List Value) (h : zH), rn 181 9 [l0, l1, l2] (.ref a :: S) h = zgf h a 11 4 fun v => rn 181 12 [l0, l1, l2] (v :: S) h) ∧
  (∀ (l0 l1 l2 : Value) (o : Nat) (S : List Value) (h : zH), rn 181 12 [l0, l1, l2] (.ref o :: S) h = if zkd h o = 3 ∧ zsum S ≤ 8 then zcall (ev 197 [.ref o] h) (fun v h => rn 181 15 [l0, l1, l2] (zpush v S) h) else none) ∧
  (∀ (l0 l2 : Value) (x : Int32) (S : List Value) (h : zH), rn 181 15 [l0, .int x, l2] S h = rn 181 16 [l0, .int x, l2] (.int x :: S) h) ∧
  (∀ (l0 l1 l2 : Value) (S : List Value) (h : zH), rn 181 16 [l0, l1, l2] S h = rn 181 17 [l0, l1, l2] (.int (-1) :: S) h) ∧
  (∀ (l0 l1 l2 : Value) (x : Int32) (y : Int32) (S : List Value) (h : zH), rn 181 17 [l0, l1, l2] (.int y :: .int x :: S) h = if x = y then rn 181 25 [l0, l1, l2] S h else rn 181 20 [l0, l1, l2] S h) ∧
  (∀ (l0 l1 l2 : Value) (S : List Value) (h : zH), rn 181 20 [l0, l1, l2] S h = rn 181 22 [l0, l1, l2] (.int (-100) :: S) h) ∧
  (∀ (l0 l2 : Value) (x : Int32) (S : List Value) (h : zH), rn 181 22 [l0, .int x, l2] S h = rn 181 23 [l0, .int x, l2] (.int x :: S) h) ∧
  (∀ (l0 l1 l2 : Value) (x : Int32) (y : Int32) (S : List Value) (h : zH), rn 181 23 [l0, l1, l2] (.int y :: .int x :: S) h = rn 181 24 [l0, l1, l2] (.int (x - y) :: S) h) ∧
  (∀ (l0 l1 l2 : Value) (x : Int32) (h : zH), rn 181 24 [l0, l1, l2] [.int x] h = some (some (.int x), h)) ∧
  (∀ (l1 l2 : Value) (x : Nat) (S : List Value) (h : zH), rn 181 25 [.ref x, l1, l2] S h = rn 181 26 [.ref x, l1, l2] (.ref x :: S) h) ∧
  (∀ (l0 l1 l2 : Value) (a : Nat) (S : List Value) (h : zH), rn 181 26 [l0, l1, l2] (.ref a :: S) h = zgf h a 11 1 fun v => rn 181 29 [l0, l1, l2] (v :: S) h) ∧
  (∀ (l1 l2 : Value) (x : Nat) (S : List Value) (h : zH), rn 181 29 [.ref x, l1, l2] S h = rn 181 30 [.ref x, l1, l2] (.ref x :: S) h) ∧
  (∀ (l0 l1 l2 : Value) (a : Nat) (S : List Value) (h : zH), rn 181 30 [l0, l1, l2] (.ref a :: S) h = zgf h a 11 0 fun v => rn 181 33 [l0, l1, l2] (v :: S) h) ∧
  (∀ (l0 l1 l2 : Value) (o : Nat) (v0 : Value) (S : List Value) (h : zH), rn 181 33 [l0, l1, l2] (v0 :: .ref o :: S) h = if zkd h o = 5 ∧ zsum S ≤ 8 then zcall (ev 17 [.ref o, v0] h) (fun v h => rn 181 36 [l0, l1, l2] (zpush v S) h) else none) ∧
  (∀ (l0 l1 l2 : Value) (S : List Value) (h : zH), rn 181 36 [l0, l1, l2] S h = rn 181 37 [l0, l1, l2] (.int (nI 0) :: S) h) ∧
  (∀ (l0 l1 l2 : Value) (x : Int32) (S : List Value) (h : zH), rn 181 37 [l0, l1, l2] (.int x :: S) h = nl l1 (rn 181 38 [l0, l1, .int x] S h)) ∧
  (∀ (l1 l2 : Value) (x : Nat) (S : List Value) (h : zH), rn 181 39 [.ref x, l1, l2] S h = rn 181 40 [.ref x, l1, l2] (.ref x :: S) h) ∧
  (∀ (l0 l1 l2 : Value) (a : Nat) (S : List Value) (h : zH), rn 181 40 [l0, l1, l2] (.ref a :: S) h = zgf h a 11 4 fun v => rn 181 43 [l0, l1, l2] (v :: S) h) ∧
  (∀ (l0 l1 l2 : Value) (a : Nat) (S : List Value) (h : zH), rn 181 43 [l0, l1, l2] (.ref a :: S) h = zgf h a 3 2 fun v => rn 181 46 [l0, l1, l2] (v :: S) h) ∧
  (∀ (l0 l1 l2 : Value) (x : Int32) (y : Int32) (S : List Value) (h : zH), rn 181 46 [l0, l1, l2] (.int y :: .int x :: S) h = if y ≤ x then rn 181 87 [l0, l1, l2] S h else rn 181 49 [l0, l1, l2] S h) ∧
  (∀ (l1 l2 : Value) (x : Nat) (S : List Value) (h : zH), rn 181 49 [.ref x, l1, l2] S h = rn 181 50 [.ref x, l1, l2] (.ref x :: S) h) ∧
  (∀ (l0 l1 : Value) (x : Int32) (S : List Value) (h : zH), rn 181 50 [l0, l1, .int x] S h = rn 181 51 [l0, l1, .int x] (.int x :: S) h) ∧
  (∀ (l0 l1 l2 : Value) (o : Nat) (v0 : Value) (S : List Value) (h : zH), rn 181 51 [l0, l1, l2] (v0 :: .ref o :: S) h = if zkd h o = 11 ∧ zsum S ≤ 8 then zcall (ev 198 [.ref o, v0] h) (fun v h => rn 181 54 [l0, l1, l2] (zpush v S) h) else none) ∧
  (∀ (l0 l1 l2 : Value) (x : Int32) (S : List Value) (h : zH), rn 181 54 [l0, l1, l2] (.int x :: S) h = if nI 0 ≤ x then rn 181 81 [l0, l1, l2] S h else rn 181 57 [l0, l1, l2] S h) ∧
  (∀ (l1 l2 : Value) (x : Nat) (S : List Value) (h : zH), rn 181 57 [.ref x, l1, l2] S h = rn 181 58 [.ref x, l1, l2] (.ref x :: S) h) ∧
  (∀ (l0 l1 l2 : Value) (a : Nat) (S : List Value) (h : zH), rn 181 58 [l0, l1, l2] (.ref a :: S) h = zgf h a 11 1 fun v => rn 181 61 [l0, l1, l2] (v :: S) h) ∧
  (∀ (l1 l2 : Value) (x : Nat) (S : List Value) (h : zH), rn 181 61 [.ref x, l1, l2] S h = rn 181 62 [.ref x, l1, l2] (.ref x :: S) h) ∧
  (∀ (l0 l1 l2 : Value) (a : Nat) (S : List Value) (h : zH), rn 181 62 [l0, l1, l2] (.ref a :: S) h = zgf h a 11 0 fun v => rn 181 65 [l0, l1, l2] (v :: S) h) ∧
  (∀ (l0 l1 l2 : Value) (o : Nat) (v0 : Value) (S : List Value) (h : zH), rn 181 65 [l0, l1, l2] (v0 :: .ref o :: S) h = if zkd h o = 5 ∧ zsum S ≤ 8 then zcall (ev 201 [.ref o, v0] h) (fun v h => rn 181 68 [l0, l1, l2] (zpush v S) h) else none) ∧
  (∀ (l0 l1 l2 : Value) (S : List Value) (h : zH), rn 181 68 [l0, l1, l2] S h = rn 181 71 [l0, l1, l2] (.int (-200) :: S) h) ∧
  (∀ (l1 l2 : Value) (x : Nat) (S : List Value) (h : zH), rn 181 71 [.ref x, l1, l2] S h = rn 181 72 [.ref x, l1, l2] (.ref x :: S) h) ∧
  (∀ (l0 l1 l2 : Value) (a : Nat) (S : List Value) (h : zH), rn 181 72 [l0, l1, l2] (.ref a :: S) h = zgf h a 11 4 fun v => rn 181 75 [l0, l1, l2] (v :: S) h) ∧
  (∀ (l0 l1 : Value) (x : Int32) (S : List Value) (h : zH), rn 181 75 [l0, l1, .int x] S h = rn 181 76 [l0, l1, .int x] (.int x :: S) h) ∧
  (∀ (l0 l1 l2 : Value) (o : Nat) (v0 : Value) (S : List Value) (h : zH), rn 181 76 [l0, l1, l2] (v0 :: .ref o :: S) h = if zkd h o = 3 ∧ zsum S ≤ 8 then zcall (ev 202 [.ref o, v0] h) (fun v h => rn 181 79 [l0, l1, l2] (zpush v S) h) else none) ∧
  (∀ (l0 l1 l2 : Value) (x : Int32) (y : Int32) (S : List Value) (h : zH), rn 181 79 [l0, l1, l2] (.int y :: .int x :: S) h = rn 181 80 [l0, l1, l2] (.int (x - y) :: S) h) ∧
  (∀ (l0 l1 l2 : Value) (x : Int32) (h : zH), rn 181 80 [l0, l1, l2] [.int x] h = some (some (.int x), h)) ∧
  (∀ (l0 l1 : Value) (x : Int32) (S : List Value) (h : zH), rn 181 81 [l0, l1, .int x] S h = nl l1 (rn 181 84 [l0, l1, .int (x + (nI 1))] S h)) ∧
  (∀ (l0 l1 l2 : Value) (S : List Value) (h : zH), rn 181 84 [l0, l1, l2] S h = rn 181 38 [l0, l1, l2] S h) ∧
  (∀ (l1 l2 : Value) (x : Nat) (S : List Value) (h : zH), rn 181 87 [.ref x, l1, l2] S h = rn 181 88 [.ref x, l1, l2] (.ref x :: S) h) ∧
  (∀ (l1 l2 : Value) (x : Nat) (S : List Value) (h : zH), rn 181 88 [.ref x, l1, l2] S h = rn 181 89 [.ref x, l1, l2] (.ref x :: S) h) ∧
  (∀ (l0 l1 l2 : Value) (a : Nat) (S : List Value) (h : zH), rn 181 89 [l0, l1, l2] (.ref a :: S) h = zgf h a 11 4 fun v => rn 181 92 [l0, l1, l2] (v :: S) h) ∧
  (∀ (l0 l1 l2 : Value) (a : Nat) (S : List Value) (h : zH), rn 181 92 [l0, l1, l2] (.ref a :: S) h = zgf h a 3 2 fun v => rn 181 95 [l0, l1, l2] (v :: S) h) ∧
  (∀ (l0 l1 l2 : Value) (o : Nat) (v0 : Value) (S : List Value) (h : zH), rn 181 95 [l0, l1, l2] (v0 :: .ref o :: S) h = if zkd h o = 11 ∧ zsum S ≤ 8 then zcall (ev 26 [.ref o, v0] h) (fun v h => rn 181 98 [l0, l1, l2] (zpush v S) h) else none) ∧
  (∀ (l0 l1 l2 : Value) (x : Int32) (h : zH), rn 181 98 [l0, l1, l2] [.int x] h = some (some (.int x), h)) := ⟨fun _ _ _ _ _ => r_aload_nr (show zdec 181 0 = some (.aload_n 0, 1) by decide +kernel) rfl rfl,
  fun _ _ _ _ _ _ => r_getfield (show zdec 181 1 = some (.getfield 33, 3) by decide +kernel) (show zft.lookup (181 * zKEY + 33) = some (11, 4) by decide +kernel) rfl,
  fun _ _ _ _ _ _ => r_cV [] rfl (show zdec 181 4 = some (.invokevirtual 270, 3) by decide +kernel) (show zst.lookup (181 * zKEY + 270) = some (1, 182, 0, 3) by decide +kernel) (by decide) rfl,
  fun _ _ _ _ _ _ => r_istore_n (show zdec 181 7 = some (.istore_n 1, 1) by decide +kernel) rfl rfl (Nat.le_of_ble_eq_true rfl) rfl rfl,
  fun _ _ _ _ _ => r_aload_nr (show zdec 181 8 = some (.aload_n 0, 1) by decide +kernel) rfl rfl,
  fun _ _ _ _ _ _ => r_getfield (show zdec 181 9 = some (.getfield 33, 3) by decide +kernel) (show zft.lookup (181 * zKEY + 33) = some (11, 4) by decide +kernel) rfl,
  fun _ _ _ _ _ _ => r_cV [] rfl (show zdec 181 12 = some (.invokevirtual 273, 3) by decide +kernel) (show zst.lookup (181 * zKEY + 273) = some (1, 197, 0, 3) by decide +kernel) (by decide) rfl,
  fun _ _ _ _ _ => r_iload_n (show zdec 181 15 = some (.iload_n 1, 1) by decide +kernel) rfl rfl,
  fun _ _ _ _ _ => r_iconst (show zdec 181 16 = some (.iconst (-1), 1) by decide +kernel) rfl rfl,
  fun _ _ _ _ _ _ _ => r_icmpeq (show zdec 181 17 = some (.if_icmp .eq 8, 3) by decide +kernel) rfl rfl,
  fun _ _ _ _ _ => r_bipush (show zdec 181 20 = some (.bipush (-100), 2) by decide +kernel) rfl rfl,
  fun _ _ _ _ _ => r_iload_n (show zdec 181 22 = some (.iload_n 1, 1) by decide +kernel) rfl rfl,
  fun _ _ _ _ _ _ _ => r_isub (show zdec 181 23 = some (.isub, 1) by decide +kernel) rfl,
  fun _ _ _ _ _ => r_ireti (show zdec 181 24 = some (.ireturn, 1) by decide +kernel) (by decide +kernel),
  fun _ _ _ _ _ => r_aload_nr (show zdec 181 25 = some (.aload_n 0, 1) by decide +kernel) rfl rfl,
  fun _ _ _ _ _ _ => r_getfield (show zdec 181 26 = some (.getfield 19, 3) by decide +kernel) (show zft.lookup (181 * zKEY + 19) = some (11, 1) by decide +kernel) rfl,
  fun _ _ _ _ _ => r_aload_nr (show zdec 181 29 = some (.aload_n 0, 1) by decide +kernel) rfl rfl,
  fun _ _ _ _ _ _ => r_getfield (show zdec 181 30 = some (.getfield 10, 3) by decide +kernel) (show zft.lookup (181 * zKEY + 10) = some (11, 0) by decide +kernel) rfl,
  fun _ _ _ _ _ _ _ => r_cV [_] rfl (show zdec 181 33 = some (.invokevirtual 58, 3) by decide +kernel) (show zst.lookup (181 * zKEY + 58) = some (1, 17, 1, 5) by decide +kernel) (by decide) rfl,
  fun _ _ _ _ _ => r_iconst (show zdec 181 36 = some (.iconst 0, 1) by decide +kernel) rfl rfl,
  fun _ _ _ _ _ _ => r_istore_n (show zdec 181 37 = some (.istore_n 2, 1) by decide +kernel) rfl rfl (Nat.le_of_ble_eq_true rfl) rfl rfl,
  fun _ _ _ _ _ => r_aload_nr (show zdec 181 39 = some (.aload_n 0, 1) by decide +kernel) rfl rfl,
  fun _ _ _ _ _ _ => r_getfield (show zdec 181 40 = some (.getfield 33, 3) by decide +kernel) (show zft.lookup (181 * zKEY + 33) = some (11, 4) by decide +kernel) rfl,
  fun _ _ _ _ _ _ => r_getfield (show zdec 181 43 = some (.getfield 274, 3) by decide +kernel) (show zft.lookup (181 * zKEY + 274) = some (3, 2) by decide +kernel) rfl,
  fun _ _ _ _ _ _ _ => r_icmpge (show zdec 181 46 = some (.if_icmp .ge 41, 3) by decide +kernel) rfl rfl,
  fun _ _ _ _ _ => r_aload_nr (show zdec 181 49 = some (.aload_n 0, 1) by decide +kernel) rfl rfl,
  fun _ _ _ _ _ => r_iload_n (show zdec 181 50 = some (.iload_n 2, 1) by decide +kernel) rfl rfl,
  fun _ _ _ _ _ _ _ => r_cV [_] rfl (show zdec 181 51 = some (.invokevirtual 275, 3) by decide +kernel) (show zst.lookup (181 * zKEY + 275) = some (1, 198, 1, 11) by decide +kernel) (by decide) rfl,
  fun _ _ _ _ _ _ => r_ifge (show zdec 181 54 = some (.ifCond .ge 27, 3) by decide +kernel) rfl rfl,
  fun _ _ _ _ _ => r_aload_nr (show zdec 181 57 = some (.aload_n 0, 1) by decide +kernel) rfl rfl,
  fun _ _ _ _ _ _ => r_getfield (show zdec 181 58 = some (.getfield 19, 3) by decide +kernel) (show zft.lookup (181 * zKEY + 19) = some (11, 1) by decide +kernel) rfl,
  fun _ _ _ _ _ => r_aload_nr (show zdec 181 61 = some (.aload_n 0, 1) by decide +kernel) rfl rfl,
  fun _ _ _ _ _ _ => r_getfield (show zdec 181 62 = some (.getfield 10, 3) by decide +kernel) (show zft.lookup (181 * zKEY + 10) = some (11, 0) by decide +kernel) rfl,
  fun _ _ _ _ _ _ _ => r_cV [_] rfl (show zdec 181 65 = some (.invokevirtual 278, 3) by decide +kernel) (show zst.lookup (181 * zKEY + 278) = some (1, 201, 1, 5) by decide +kernel) (by decide) rfl,
  fun _ _ _ _ _ => r_sipush (show zdec 181 68 = some (.sipush (-200), 3) by decide +kernel) rfl rfl,
  fun _ _ _ _ _ => r_aload_nr (show zdec 181 71 = some (.aload_n 0, 1) by decide +kernel) rfl rfl,
  fun _ _ _ _ _ _ => r_getfield (show zdec 181 72 = some (.getfield 33, 3) by decide +kernel) (show zft.lookup (181 * zKEY + 33) = some (11, 4) by decide +kernel) rfl,
  fun _ _ _ _ _ => r_iload_n (show zdec 181 75 = some (.iload_n 2, 1) by decide +kernel) rfl rfl,
  fun _ _ _ _ _ _ _ => r_cV [_] rfl (show zdec 181 76 = some (.invokevirtual 281, 3) by decide +kernel) (show zst.lookup (181 * zKEY + 281) = some (1, 202, 1, 3) by decide +kernel) (by decide) rfl,
  fun _ _ _ _ _ _ _ => r_isub (show zdec 181 79 = some (.isub, 1) by decide +kernel) rfl,
  fun _ _ _ _ _ => r_ireti (show zdec 181 80 = some (.ireturn, 1) by decide +kernel) (by decide +kernel),
  fun _ _ _ _ _ => r_iinc (show zdec 181 81 = some (.iinc 2 1, 3) by decide +kernel) rfl rfl rfl (Nat.le_of_ble_eq_true rfl) rfl rfl,
  fun _ _ _ _ _ => r_goto (show zdec 181 84 = some (.goto (-46), 3) by decide +kernel) rfl,
  fun _ _ _ _ _ => r_aload_nr (show zdec 181 87 = some (.aload_n 0, 1) by decide +kernel) rfl rfl,
  fun _ _ _ _ _ => r_aload_nr (show zdec 181 88 = some (.aload_n 0, 1) by decide +kernel) rfl rfl,
  fun _ _ _ _ _ _ => r_getfield (show zdec 181 89 = some (.getfield 33, 3) by decide +kernel) (show zft.lookup (181 * zKEY + 33) = some (11, 4) by decide +kernel) rfl,
  fun _ _ _ _ _ _ => r_getfield (show zdec 181 92 = some (.getfield 274, 3) by decide +kernel) (show zft.lookup (181 * zKEY + 274) = some (3, 2) by decide +kernel) rfl,
  fun _ _ _ _ _ _ _ => r_cV [_] rfl (show zdec 181 95 = some (.invokevirtual 66, 3) by decide +kernel) (show zst.lookup (181 * zKEY + 66) = some (1, 26, 1, 11) by decide +kernel) (by decide) rfl,
  fun _ _ _ _ _ => r_ireti (show zdec 181 98 = some (.ireturn, 1) by decide +kernel) (by decide +kernel)⟩
theorem zl_181_38 : ∀ (l0 l1 : Value) (x : Int32) (S : List Value) (h : zH), rn 181 38 [l0, l1, .int x] S h = rn 181 39 [l0, l1, .int x] (.int x :: S) h := fun _ _ _ _ _ => r_iload_n (show zdec 181 38 = some (.iload_n 2, 1) by decide +kernel) rfl rfl
theorem ze_181 : ∀ (a0 : Nat) (h : zH), ev 181 [.ref a0] h = rn 181 0 [.ref a0, .float 0, .float 0] [] h := fun _ _ => if_pos (Nat.le_of_ble_eq_true rfl)
-- PayrollRun.perform(I)I
theorem zr_198 : (∀ (l1 l2 l3 l4 : Value) (x : Nat) (S : List Value) (h : zH), rn 198 0 [.ref x, l1, l2, l3, l4] S h = rn 198 1 [.ref x, l1, l2, l3, l4] (.ref x :: S) h) ∧
  (∀ (l0 l1 l2 l3 l4 : Value) (a : Nat) (S : List Value) (h : zH), rn 198 1 [l0, l1, l2, l3, l4] (.ref a :: S) h = zgf h a 11 4 fun v => rn 198 4 [l0, l1, l2, l3, l4] (v :: S) h) ∧
  (∀ (l0 l2 l3 l4 : Value) (x : Int32) (S : List Value) (h : zH), rn 198 4 [l0, .int x, l2, l3, l4] S h = rn 198 5 [l0, .int x, l2, l3, l4] (.int x :: S) h) ∧
  (∀ (l0 l1 l2 l3 l4 : Value) (S : List Value) (h : zH), rn 198 5 [l0, l1, l2, l3, l4] S h = rn 198 6 [l0, l1, l2, l3, l4] (.int (nI 0) :: S) h) ∧
  (∀ (l0 l1 l2 l3 l4 : Value) (o : Nat) (v0 : Value) (v1 : Value) (S : List Value) (h : zH), rn 198 6 [l0, l1, l2, l3, l4] (v1 :: v0 :: .ref o :: S) h = if zkd h o = 3 ∧ zsum S ≤ 8 then zcall (ev 199 [.ref o, v0, v1] h) (fun v h => rn 198 9 [l0, l1, l2, l3, l4] (zpush v S) h) else none) ∧
  (∀ (l0 l1 l2 l3 l4 : Value) (x : Int32) (S : List Value) (h : zH), rn 198 9 [l0, l1, l2, l3, l4] (.int x :: S) h = nl l1 (rn 198 10 [l0, l1, .int x, l3, l4] S h)) ∧
  (∀ (l1 l2 l3 l4 : Value) (x : Nat) (S : List Value) (h : zH), rn 198 10 [.ref x, l1, l2, l3, l4] S h = rn 198 11 [.ref x, l1, l2, l3, l4] (.ref x :: S) h) ∧
  (∀ (l0 l1 l2 l3 l4 : Value) (a : Nat) (S : List Value) (h : zH), rn 198 11 [l0, l1, l2, l3, l4] (.ref a :: S) h = zgf h a 11 4 fun v => rn 198 14 [l0, l1, l2, l3, l4] (v :: S) h) ∧
  (∀ (l0 l2 l3 l4 : Value) (x : Int32) (S : List Value) (h : zH), rn 198 14 [l0, .int x, l2, l3, l4] S h = rn 198 15 [l0, .int x, l2, l3, l4] (.int x :: S) h) ∧
  (∀ (l0 l1 l2 l3 l4 : Value) (S : List Value) (h : zH), rn 198 15 [l0, l1, l2, l3, l4] S h = rn 198 16 [l0, l1, l2, l3, l4] (.int (nI 1) :: S) h) ∧
  (∀ (l0 l1 l2 l3 l4 : Value) (o : Nat) (v0 : Value) (v1 : Value) (S : List Value) (h : zH), rn 198 16 [l0, l1, l2, l3, l4] (v1 :: v0 :: .ref o :: S) h = if zkd h o = 3 ∧ zsum S ≤ 8 then zcall (ev 199 [.ref o, v0, v1] h) (fun v h => rn 198 19 [l0, l1, l2, l3, l4] (zpush v S) h) else none) ∧
  (∀ (l0 l1 l2 l3 l4 : Value) (x : Int32) (S : List Value) (h : zH), rn 198 19 [l0, l1, l2, l3, l4] (.int x :: S) h = nl l2 (rn 198 20 [l0, l1, l2, .int x, l4] S h)) ∧
  (∀ (l1 l2 l3 l4 : Value) (x : Nat) (S : List Value) (h : zH), rn 198 20 [.ref x, l1, l2, l3, l4] S h = rn 198 21 [.ref x, l1, l2, l3, l4] (.ref x :: S) h) ∧
  (∀ (l0 l1 l2 l3 l4 : Value) (a : Nat) (S : List Value) (h : zH), rn 198 21 [l0, l1, l2, l3, l4] (.ref a :: S) h = zgf h a 11 4 fun v => rn 198 24 [l0, l1, l2, l3, l4] (v :: S) h) ∧
  (∀ (l0 l2 l3 l4 : Value) (x : Int32) (S : List Value) (h : zH), rn 198 24 [l0, .int x, l2, l3, l4] S h = rn 198 25 [l0, .int x, l2, l3, l4] (.int x :: S) h) ∧
  (∀ (l0 l1 l2 l3 l4 : Value) (S : List Value) (h : zH), rn 198 25 [l0, l1, l2, l3, l4] S h = rn 198 26 [l0, l1, l2, l3, l4] (.int (nI 2) :: S) h) ∧
  (∀ (l0 l1 l2 l3 l4 : Value) (o : Nat) (v0 : Value) (v1 : Value) (S : List Value) (h : zH), rn 198 26 [l0, l1, l2, l3, l4] (v1 :: v0 :: .ref o :: S) h = if zkd h o = 3 ∧ zsum S ≤ 8 then zcall (ev 199 [.ref o, v0, v1] h) (fun v h => rn 198 29 [l0, l1, l2, l3, l4] (zpush v S) h) else none) ∧
  (∀ (l0 l1 l2 l3 l4 : Value) (x : Int32) (S : List Value) (h : zH), rn 198 29 [l0, l1, l2, l3, l4] (.int x :: S) h = nl l3 (rn 198 31 [l0, l1, l2, l3, .int x] S h)) ∧
  (∀ (l1 l2 l3 l4 : Value) (x : Nat) (S : List Value) (h : zH), rn 198 31 [.ref x, l1, l2, l3, l4] S h = rn 198 32 [.ref x, l1, l2, l3, l4] (.ref x :: S) h) ∧
  (∀ (l0 l1 l2 l3 l4 : Value) (a : Nat) (S : List Value) (h : zH), rn 198 32 [l0, l1, l2, l3, l4] (.ref a :: S) h = zgf h a 11 4 fun v => rn 198 35 [l0, l1, l2, l3, l4] (v :: S) h) ∧
  (∀ (l0 l2 l3 l4 : Value) (x : Int32) (S : List Value) (h : zH), rn 198 35 [l0, .int x, l2, l3, l4] S h = rn 198 36 [l0, .int x, l2, l3, l4] (.int x :: S) h) ∧
  (∀ (l0 l1 l2 l3 l4 : Value) (o : Nat) (v0 : Value) (S : List Value) (h : zH), rn 198 36 [l0, l1, l2, l3, l4] (v0 :: .ref o :: S) h = if zkd h o = 3 ∧ zsum S ≤ 8 then zcall (ev 200 [.ref o, v0] h) (fun v h => rn 198 39 [l0, l1, l2, l3, l4] (zpush v S) h) else none) ∧
  (∀ (l0 l1 l2 l3 l4 : Value) (x : Int32) (S : List Value) (h : zH), rn 198 39 [l0, l1, l2, l3, l4] (.int x :: S) h = if x = nI 0 then rn 198 100 [l0, l1, l2, l3, l4] S h else if x = nI 1 then rn 198 112 [l0, l1, l2, l3, l4] S h else if x = nI 2 then rn 198 124 [l0, l1, l2, l3, l4] S h else if x = nI 3 then rn 198 136 [l0, l1, l2, l3, l4] S h else if x = nI 4 then rn 198 146 [l0, l1, l2, l3, l4] S h else if x = nI 5 then rn 198 156 [l0, l1, l2, l3, l4] S h else if x = nI 6 then rn 198 166 [l0, l1, l2, l3, l4] S h else if x = nI 7 then rn 198 176 [l0, l1, l2, l3, l4] S h else if x = nI 8 then rn 198 188 [l0, l1, l2, l3, l4] S h else if x = nI 9 then rn 198 200 [l0, l1, l2, l3, l4] S h else if x = nI 10 then rn 198 210 [l0, l1, l2, l3, l4] S h else if x = nI 11 then rn 198 222 [l0, l1, l2, l3, l4] S h else rn 198 234 [l0, l1, l2, l3, l4] S h) ∧
  (∀ (l1 l2 l3 l4 : Value) (x : Nat) (S : List Value) (h : zH), rn 198 100 [.ref x, l1, l2, l3, l4] S h = rn 198 101 [.ref x, l1, l2, l3, l4] (.ref x :: S) h) ∧
  (∀ (l0 l1 l2 l3 l4 : Value) (a : Nat) (S : List Value) (h : zH), rn 198 101 [l0, l1, l2, l3, l4] (.ref a :: S) h = zgf h a 11 0 fun v => rn 198 104 [l0, l1, l2, l3, l4] (v :: S) h) ∧
  (∀ (l0 l1 l3 l4 : Value) (x : Int32) (S : List Value) (h : zH), rn 198 104 [l0, l1, .int x, l3, l4] S h = rn 198 105 [l0, l1, .int x, l3, l4] (.int x :: S) h) ∧
  (∀ (l0 l1 l2 l4 : Value) (x : Int32) (S : List Value) (h : zH), rn 198 105 [l0, l1, l2, .int x, l4] S h = rn 198 106 [l0, l1, l2, .int x, l4] (.int x :: S) h) ∧
  (∀ (l0 l1 l2 l3 : Value) (x : Int32) (S : List Value) (h : zH), rn 198 106 [l0, l1, l2, l3, .int x] S h = rn 198 108 [l0, l1, l2, l3, .int x] (.int x :: S) h) ∧
  (∀ (l0 l1 l2 l3 l4 : Value) (o : Nat) (v0 : Value) (v1 : Value) (v2 : Value) (S : List Value) (h : zH), rn 198 108 [l0, l1, l2, l3, l4] (v2 :: v1 :: v0 :: .ref o :: S) h = if zkd h o = 1 ∧ zsum S ≤ 8 then zcall (ev 22 [.ref o, v0, v1, v2] h) (fun v h => rn 198 111 [l0, l1, l2, l3, l4] (zpush v S) h) else none) ∧
  (∀ (l0 l1 l2 l3 l4 : Value) (x : Int32) (h : zH), rn 198 111 [l0, l1, l2, l3, l4] [.int x] h = some (some (.int x), h)) ∧
  (∀ (l1 l2 l3 l4 : Value) (x : Nat) (S : List Value) (h : zH), rn 198 112 [.ref x, l1, l2, l3, l4] S h = rn 198 113 [.ref x, l1, l2, l3, l4] (.ref x :: S) h) ∧
  (∀ (l0 l1 l2 l3 l4 : Value) (a : Nat) (S : List Value) (h : zH), rn 198 113 [l0, l1, l2, l3, l4] (.ref a :: S) h = zgf h a 11 0 fun v => rn 198 116 [l0, l1, l2, l3, l4] (v :: S) h) ∧
  (∀ (l0 l1 l3 l4 : Value) (x : Int32) (S : List Value) (h : zH), rn 198 116 [l0, l1, .int x, l3, l4] S h = rn 198 117 [l0, l1, .int x, l3, l4] (.int x :: S) h) ∧
  (∀ (l0 l1 l2 l4 : Value) (x : Int32) (S : List Value) (h : zH), rn 198 117 [l0, l1, l2, .int x, l4] S h = rn 198 118 [l0, l1, l2, .int x, l4] (.int x :: S) h) ∧
  (∀ (l0 l1 l2 l3 : Value) (x : Int32) (S : List Value) (h : zH), rn 198 118 [l0, l1, l2, l3, .int x] S h = rn 198 120 [l0, l1, l2, l3, .int x] (.int x :: S) h) ∧
  (∀ (l0 l1 l2 l3 l4 : Value) (o : Nat) (v0 : Value) (v1 : Value) (v2 : Value) (S : List Value) (h : zH), rn 198 120 [l0, l1, l2, l3, l4] (v2 :: v1 :: v0 :: .ref o :: S) h = if zkd h o = 1 ∧ zsum S ≤ 8 then zcall (ev 30 [.ref o, v0, v1, v2] h) (fun v h => rn 198 123 [l0, l1, l2, l3, l4] (zpush v S) h) else none) ∧
  (∀ (l0 l1 l2 l3 l4 : Value) (x : Int32) (h : zH), rn 198 123 [l0, l1, l2, l3, l4] [.int x] h = some (some (.int x), h)) ∧
  (∀ (l1 l2 l3 l4 : Value) (x : Nat) (S : List Value) (h : zH), rn 198 124 [.ref x, l1, l2, l3, l4] S h = rn 198 125 [.ref x, l1, l2, l3, l4] (.ref x :: S) h) ∧
  (∀ (l0 l1 l2 l3 l4 : Value) (a : Nat) (S : List Value) (h : zH), rn 198 125 [l0, l1, l2, l3, l4] (.ref a :: S) h = zgf h a 11 0 fun v => rn 198 128 [l0, l1, l2, l3, l4] (v :: S) h) ∧
  (∀ (l0 l1 l3 l4 : Value) (x : Int32) (S : List Value) (h : zH), rn 198 128 [l0, l1, .int x, l3, l4] S h = rn 198 129 [l0, l1, .int x, l3, l4] (.int x :: S) h) ∧
  (∀ (l0 l1 l2 l4 : Value) (x : Int32) (S : List Value) (h : zH), rn 198 129 [l0, l1, l2, .int x, l4] S h = rn 198 130 [l0, l1, l2, .int x, l4] (.int x :: S) h) ∧
  (∀ (l0 l1 l2 l3 : Value) (x : Int32) (S : List Value) (h : zH), rn 198 130 [l0, l1, l2, l3, .int x] S h = rn 198 132 [l0, l1, l2, l3, .int x] (.int x :: S) h) ∧
  (∀ (l0 l1 l2 l3 l4 : Value) (o : Nat) (v0 : Value) (v1 : Value) (v2 : Value) (S : List Value) (h : zH), rn 198 132 [l0, l1, l2, l3, l4] (v2 :: v1 :: v0 :: .ref o :: S) h = if zkd h o = 1 ∧ zsum S ≤ 8 then zcall (ev 32 [.ref o, v0, v1, v2] h) (fun v h => rn 198 135 [l0, l1, l2, l3, l4] (zpush v S) h) else none) ∧
  (∀ (l0 l1 l2 l3 l4 : Value) (x : Int32) (h : zH), rn 198 135 [l0, l1, l2, l3, l4] [.int x] h = some (some (.int x), h)) ∧
  (∀ (l1 l2 l3 l4 : Value) (x : Nat) (S : List Value) (h : zH), rn 198 136 [.ref x, l1, l2, l3, l4] S h = rn 198 137 [.ref x, l1, l2, l3, l4] (.ref x :: S) h) ∧
  (∀ (l0 l1 l2 l3 l4 : Value) (a : Nat) (S : List Value) (h : zH), rn 198 137 [l0, l1, l2, l3, l4] (.ref a :: S) h = zgf h a 11 0 fun v => rn 198 140 [l0, l1, l2, l3, l4] (v :: S) h) ∧
  (∀ (l0 l1 l3 l4 : Value) (x : Int32) (S : List Value) (h : zH), rn 198 140 [l0, l1, .int x, l3, l4] S h = rn 198 141 [l0, l1, .int x, l3, l4] (.int x :: S) h) ∧
  (∀ (l0 l1 l2 l4 : Value) (x : Int32) (S : List Value) (h : zH), rn 198 141 [l0, l1, l2, .int x, l4] S h = rn 198 142 [l0, l1, l2, .int x, l4] (.int x :: S) h) ∧
  (∀ (l0 l1 l2 l3 l4 : Value) (o : Nat) (v0 : Value) (v1 : Value) (S : List Value) (h : zH), rn 198 142 [l0, l1, l2, l3, l4] (v1 :: v0 :: .ref o :: S) h = if zkd h o = 1 ∧ zsum S ≤ 8 then zcall (ev 34 [.ref o, v0, v1] h) (fun v h => rn 198 145 [l0, l1, l2, l3, l4] (zpush v S) h) else none) ∧
  (∀ (l0 l1 l2 l3 l4 : Value) (x : Int32) (h : zH), rn 198 145 [l0, l1, l2, l3, l4] [.int x] h = some (some (.int x), h)) ∧
  (∀ (l1 l2 l3 l4 : Value) (x : Nat) (S : List Value) (h : zH), rn 198 146 [.ref x, l1, l2, l3, l4] S h = rn 198 147 [.ref x, l1, l2, l3, l4] (.ref x :: S) h) ∧
  (∀ (l0 l1 l2 l3 l4 : Value) (a : Nat) (S : List Value) (h : zH), rn 198 147 [l0, l1, l2, l3, l4] (.ref a :: S) h = zgf h a 11 0 fun v => rn 198 150 [l0, l1, l2, l3, l4] (v :: S) h) ∧
  (∀ (l0 l1 l3 l4 : Value) (x : Int32) (S : List Value) (h : zH), rn 198 150 [l0, l1, .int x, l3, l4] S h = rn 198 151 [l0, l1, .int x, l3, l4] (.int x :: S) h) ∧
  (∀ (l0 l1 l2 l4 : Value) (x : Int32) (S : List Value) (h : zH), rn 198 151 [l0, l1, l2, .int x, l4] S h = rn 198 152 [l0, l1, l2, .int x, l4] (.int x :: S) h) ∧
  (∀ (l0 l1 l2 l3 l4 : Value) (o : Nat) (v0 : Value) (v1 : Value) (S : List Value) (h : zH), rn 198 152 [l0, l1, l2, l3, l4] (v1 :: v0 :: .ref o :: S) h = if zkd h o = 1 ∧ zsum S ≤ 8 then zcall (ev 36 [.ref o, v0, v1] h) (fun v h => rn 198 155 [l0, l1, l2, l3, l4] (zpush v S) h) else none) ∧
  (∀ (l0 l1 l2 l3 l4 : Value) (x : Int32) (h : zH), rn 198 155 [l0, l1, l2, l3, l4] [.int x] h = some (some (.int x), h)) ∧
  (∀ (l1 l2 l3 l4 : Value) (x : Nat) (S : List Value) (h : zH), rn 198 156 [.ref x, l1, l2, l3, l4] S h = rn 198 157 [.ref x, l1, l2, l3, l4] (.ref x :: S) h) ∧
  (∀ (l0 l1 l2 l3 l4 : Value) (a : Nat) (S : List Value) (h : zH), rn 198 157 [l0, l1, l2, l3, l4] (.ref a :: S) h = zgf h a 11 0 fun v => rn 198 160 [l0, l1, l2, l3, l4] (v :: S) h) ∧
  (∀ (l0 l1 l3 l4 : Value) (x : Int32) (S : List Value) (h : zH), rn 198 160 [l0, l1, .int x, l3, l4] S h = rn 198 161 [l0, l1, .int x, l3, l4] (.int x :: S) h) ∧
  (∀ (l0 l1 l2 l4 : Value) (x : Int32) (S : List Value) (h : zH), rn 198 161 [l0, l1, l2, .int x, l4] S h = rn 198 162 [l0, l1, l2, .int x, l4] (.int x :: S) h) ∧
  (∀ (l0 l1 l2 l3 l4 : Value) (o : Nat) (v0 : Value) (v1 : Value) (S : List Value) (h : zH), rn 198 162 [l0, l1, l2, l3, l4] (v1 :: v0 :: .ref o :: S) h = if zkd h o = 1 ∧ zsum S ≤ 8 then zcall (ev 38 [.ref o, v0, v1] h) (fun v h => rn 198 165 [l0, l1, l2, l3, l4] (zpush v S) h) else none) ∧
  (∀ (l0 l1 l2 l3 l4 : Value) (x : Int32) (h : zH), rn 198 165 [l0, l1, l2, l3, l4] [.int x] h = some (some (.int x), h)) ∧
  (∀ (l1 l2 l3 l4 : Value) (x : Nat) (S : List Value) (h : zH), rn 198 166 [.ref x, l1, l2, l3, l4] S h = rn 198 167 [.ref x, l1, l2, l3, l4] (.ref x :: S) h) ∧
  (∀ (l0 l1 l2 l3 l4 : Value) (a : Nat) (S : List Value) (h : zH), rn 198 167 [l0, l1, l2, l3, l4] (.ref a :: S) h = zgf h a 11 0 fun v => rn 198 170 [l0, l1, l2, l3, l4] (v :: S) h) ∧
  (∀ (l0 l1 l3 l4 : Value) (x : Int32) (S : List Value) (h : zH), rn 198 170 [l0, l1, .int x, l3, l4] S h = rn 198 171 [l0, l1, .int x, l3, l4] (.int x :: S) h) ∧
  (∀ (l0 l1 l2 l4 : Value) (x : Int32) (S : List Value) (h : zH), rn 198 171 [l0, l1, l2, .int x, l4] S h = rn 198 172 [l0, l1, l2, .int x, l4] (.int x :: S) h) ∧
  (∀ (l0 l1 l2 l3 l4 : Value) (o : Nat) (v0 : Value) (v1 : Value) (S : List Value) (h : zH), rn 198 172 [l0, l1, l2, l3, l4] (v1 :: v0 :: .ref o :: S) h = if zkd h o = 1 ∧ zsum S ≤ 8 then zcall (ev 40 [.ref o, v0, v1] h) (fun v h => rn 198 175 [l0, l1, l2, l3, l4] (zpush v S) h) else none) ∧
  (∀ (l0 l1 l2 l3 l4 : Value) (x : Int32) (h : zH), rn 198 175 [l0, l1, l2, l3, l4] [.int x] h = some (some (.int x), h)) ∧
  (∀ (l1 l2 l3 l4 : Value) (x : Nat) (S : List Value) (h : zH), rn 198 176 [.ref x, l1, l2, l3, l4] S h = rn 198 177 [.ref x, l1, l2, l3, l4] (.ref x :: S) h) ∧
  (∀ (l0 l1 l2 l3 l4 : Value) (a : Nat) (S : List Value) (h : zH), rn 198 177 [l0, l1, l2, l3, l4] (.ref a :: S) h = zgf h a 11 0 fun v => rn 198 180 [l0, l1, l2, l3, l4] (v :: S) h) ∧
  (∀ (l0 l1 l3 l4 : Value) (x : Int32) (S : List Value) (h : zH), rn 198 180 [l0, l1, .int x, l3, l4] S h = rn 198 181 [l0, l1, .int x, l3, l4] (.int x :: S) h) ∧
  (∀ (l0 l1 l2 l4 : Value) (x : Int32) (S : List Value) (h : zH), rn 198 181 [l0, l1, l2, .int x, l4] S h = rn 198 182 [l0, l1, l2, .int x, l4] (.int x :: S) h) ∧
  (∀ (l0 l1 l2 l3 : Value) (x : Int32) (S : List Value) (h : zH), rn 198 182 [l0, l1, l2, l3, .int x] S h = rn 198 184 [l0, l1, l2, l3, .int x] (.int x :: S) h) ∧
  (∀ (l0 l1 l2 l3 l4 : Value) (o : Nat) (v0 : Value) (v1 : Value) (v2 : Value) (S : List Value) (h : zH), rn 198 184 [l0, l1, l2, l3, l4] (v2 :: v1 :: v0 :: .ref o :: S) h = if zkd h o = 1 ∧ zsum S ≤ 8 then zcall (ev 45 [.ref o, v0, v1, v2] h) (fun v h => rn 198 187 [l0, l1, l2, l3, l4] (zpush v S) h) else none) ∧
  (∀ (l0 l1 l2 l3 l4 : Value) (x : Int32) (h : zH), rn 198 187 [l0, l1, l2, l3, l4] [.int x] h = some (some (.int x), h)) ∧
  (∀ (l1 l2 l3 l4 : Value) (x : Nat) (S : List Value) (h : zH), rn 198 188 [.ref x, l1, l2, l3, l4] S h = rn 198 189 [.ref x, l1, l2, l3, l4] (.ref x :: S) h) ∧
  (∀ (l0 l1 l2 l3 l4 : Value) (a : Nat) (S : List Value) (h : zH), rn 198 189 [l0, l1, l2, l3, l4] (.ref a :: S) h = zgf h a 11 0 fun v => rn 198 192 [l0, l1, l2, l3, l4] (v :: S) h) ∧
  (∀ (l0 l1 l3 l4 : Value) (x : Int32) (S : List Value) (h : zH), rn 198 192 [l0, l1, .int x, l3, l4] S h = rn 198 193 [l0, l1, .int x, l3, l4] (.int x :: S) h) ∧
  (∀ (l0 l1 l2 l4 : Value) (x : Int32) (S : List Value) (h : zH), rn 198 193 [l0, l1, l2, .int x, l4] S h = rn 198 194 [l0, l1, l2, .int x, l4] (.int x :: S) h) ∧
  (∀ (l0 l1 l2 l3 : Value) (x : Int32) (S : List Value) (h : zH), rn 198 194 [l0, l1, l2, l3, .int x] S h = rn 198 196 [l0, l1, l2, l3, .int x] (.int x :: S) h) ∧
  (∀ (l0 l1 l2 l3 l4 : Value) (o : Nat) (v0 : Value) (v1 : Value) (v2 : Value) (S : List Value) (h : zH), rn 198 196 [l0, l1, l2, l3, l4] (v2 :: v1 :: v0 :: .ref o :: S) h = if zkd h o = 1 ∧ zsum S ≤ 8 then zcall (ev 48 [.ref o, v0, v1, v2] h) (fun v h => rn 198 199 [l0, l1, l2, l3, l4] (zpush v S) h) else none) ∧
  (∀ (l0 l1 l2 l3 l4 : Value) (x : Int32) (h : zH), rn 198 199 [l0, l1, l2, l3, l4] [.int x] h = some (some (.int x), h)) ∧
  (∀ (l1 l2 l3 l4 : Value) (x : Nat) (S : List Value) (h : zH), rn 198 200 [.ref x, l1, l2, l3, l4] S h = rn 198 201 [.ref x, l1, l2, l3, l4] (.ref x :: S) h) ∧
  (∀ (l0 l1 l2 l3 l4 : Value) (a : Nat) (S : List Value) (h : zH), rn 198 201 [l0, l1, l2, l3, l4] (.ref a :: S) h = zgf h a 11 0 fun v => rn 198 204 [l0, l1, l2, l3, l4] (v :: S) h) ∧
  (∀ (l0 l1 l3 l4 : Value) (x : Int32) (S : List Value) (h : zH), rn 198 204 [l0, l1, .int x, l3, l4] S h = rn 198 205 [l0, l1, .int x, l3, l4] (.int x :: S) h) ∧
  (∀ (l0 l1 l2 l4 : Value) (x : Int32) (S : List Value) (h : zH), rn 198 205 [l0, l1, l2, .int x, l4] S h = rn 198 206 [l0, l1, l2, .int x, l4] (.int x :: S) h) ∧
  (∀ (l0 l1 l2 l3 l4 : Value) (o : Nat) (v0 : Value) (v1 : Value) (S : List Value) (h : zH), rn 198 206 [l0, l1, l2, l3, l4] (v1 :: v0 :: .ref o :: S) h = if zkd h o = 1 ∧ zsum S ≤ 8 then zcall (ev 50 [.ref o, v0, v1] h) (fun v h => rn 198 209 [l0, l1, l2, l3, l4] (zpush v S) h) else none) ∧
  (∀ (l0 l1 l2 l3 l4 : Value) (x : Int32) (h : zH), rn 198 209 [l0, l1, l2, l3, l4] [.int x] h = some (some (.int x), h)) ∧
  (∀ (l1 l2 l3 l4 : Value) (x : Nat) (S : List Value) (h : zH), rn 198 210 [.ref x, l1, l2, l3, l4] S h = rn 198 211 [.ref x, l1, l2, l3, l4] (.ref x :: S) h) ∧
  (∀ (l0 l1 l2 l3 l4 : Value) (a : Nat) (S : List Value) (h : zH), rn 198 211 [l0, l1, l2, l3, l4] (.ref a :: S) h = zgf h a 11 0 fun v => rn 198 214 [l0, l1, l2, l3, l4] (v :: S) h) ∧
  (∀ (l0 l1 l3 l4 : Value) (x : Int32) (S : List Value) (h : zH), rn 198 214 [l0, l1, .int x, l3, l4] S h = rn 198 215 [l0, l1, .int x, l3, l4] (.int x :: S) h) ∧
  (∀ (l0 l1 l2 l4 : Value) (x : Int32) (S : List Value) (h : zH), rn 198 215 [l0, l1, l2, .int x, l4] S h = rn 198 216 [l0, l1, l2, .int x, l4] (.int x :: S) h) ∧
  (∀ (l0 l1 l2 l3 : Value) (x : Int32) (S : List Value) (h : zH), rn 198 216 [l0, l1, l2, l3, .int x] S h = rn 198 218 [l0, l1, l2, l3, .int x] (.int x :: S) h) ∧
  (∀ (l0 l1 l2 l3 l4 : Value) (o : Nat) (v0 : Value) (v1 : Value) (v2 : Value) (S : List Value) (h : zH), rn 198 218 [l0, l1, l2, l3, l4] (v2 :: v1 :: v0 :: .ref o :: S) h = if zkd h o = 1 ∧ zsum S ≤ 8 then zcall (ev 56 [.ref o, v0, v1, v2] h) (fun v h => rn 198 221 [l0, l1, l2, l3, l4] (zpush v S) h) else none) ∧
  (∀ (l0 l1 l2 l3 l4 : Value) (x : Int32) (h : zH), rn 198 221 [l0, l1, l2, l3, l4] [.int x] h = some (some (.int x), h)) ∧
  (∀ (l1 l2 l3 l4 : Value) (x : Nat) (S : List Value) (h : zH), rn 198 222 [.ref x, l1, l2, l3, l4] S h = rn 198 223 [.ref x, l1, l2, l3, l4] (.ref x :: S) h) ∧
  (∀ (l0 l1 l2 l3 l4 : Value) (a : Nat) (S : List Value) (h : zH), rn 198 223 [l0, l1, l2, l3, l4] (.ref a :: S) h = zgf h a 11 0 fun v => rn 198 226 [l0, l1, l2, l3, l4] (v :: S) h) ∧
  (∀ (l1 l2 l3 l4 : Value) (x : Nat) (S : List Value) (h : zH), rn 198 226 [.ref x, l1, l2, l3, l4] S h = rn 198 227 [.ref x, l1, l2, l3, l4] (.ref x :: S) h) ∧
  (∀ (l0 l1 l2 l3 l4 : Value) (a : Nat) (S : List Value) (h : zH), rn 198 227 [l0, l1, l2, l3, l4] (.ref a :: S) h = zgf h a 11 5 fun v => rn 198 230 [l0, l1, l2, l3, l4] (v :: S) h) ∧
  (∀ (l0 l1 l2 l3 l4 : Value) (o : Nat) (v0 : Value) (S : List Value) (h : zH), rn 198 230 [l0, l1, l2, l3, l4] (v0 :: .ref o :: S) h = if zkd h o = 1 ∧ zsum S ≤ 8 then zcall (ev 58 [.ref o, v0] h) (fun v h => rn 198 233 [l0, l1, l2, l3, l4] (zpush v S) h) else none) ∧
  (∀ (l0 l1 l2 l3 l4 : Value) (x : Int32) (h : zH), rn 198 233 [l0, l1, l2, l3, l4] [.int x] h = some (some (.int x), h)) ∧
  (∀ (l0 l1 l2 l3 l4 : Value) (S : List Value) (h : zH), rn 198 234 [l0, l1, l2, l3, l4] S h = rn 198 235 [l0, l1, l2, l3, l4] (.int (-1) :: S) h) ∧
  (∀ (l0 l1 l2 l3 l4 : Value) (x : Int32) (h : zH), rn 198 235 [l0, l1, l2, l3, l4] [.int x] h = some (some (.int x), h)) := ⟨fun _ _ _ _ _ _ _ => r_aload_nr (show zdec 198 0 = some (.aload_n 0, 1) by decide +kernel) rfl rfl,
  fun _ _ _ _ _ _ _ _ => r_getfield (show zdec 198 1 = some (.getfield 33, 3) by decide +kernel) (show zft.lookup (198 * zKEY + 33) = some (11, 4) by decide +kernel) rfl,
  fun _ _ _ _ _ _ _ => r_iload_n (show zdec 198 4 = some (.iload_n 1, 1) by decide +kernel) rfl rfl,
  fun _ _ _ _ _ _ _ => r_iconst (show zdec 198 5 = some (.iconst 0, 1) by decide +kernel) rfl rfl,
  fun _ _ _ _ _ _ _ _ _ _ => r_cV [_, _] rfl (show zdec 198 6 = some (.invokevirtual 294, 3) by decide +kernel) (show zst.lookup (198 * zKEY + 294) = some (1, 199, 2, 3) by decide +kernel) (by decide) rfl,
  fun _ _ _ _ _ _ _ _ => r_istore_n (show zdec 198 9 = some (.istore_n 2, 1) by decide +kernel) rfl rfl (Nat.le_of_ble_eq_true rfl) rfl rfl,
  fun _ _ _ _ _ _ _ => r_aload_nr (show zdec 198 10 = some (.aload_n 0, 1) by decide +kernel) rfl rfl,
  fun _ _ _ _ _ _ _ _ => r_getfield (show zdec 198 11 = some (.getfield 33, 3) by decide +kernel) (show zft.lookup (198 * zKEY + 33) = some (11, 4) by decide +kernel) rfl,
  fun _ _ _ _ _ _ _ => r_iload_n (show zdec 198 14 = some (.iload_n 1, 1) by decide +kernel) rfl rfl,
  fun _ _ _ _ _ _ _ => r_iconst (show zdec 198 15 = some (.iconst 1, 1) by decide +kernel) rfl rfl,
  fun _ _ _ _ _ _ _ _ _ _ => r_cV [_, _] rfl (show zdec 198 16 = some (.invokevirtual 294, 3) by decide +kernel) (show zst.lookup (198 * zKEY + 294) = some (1, 199, 2, 3) by decide +kernel) (by decide) rfl,
  fun _ _ _ _ _ _ _ _ => r_istore_n (show zdec 198 19 = some (.istore_n 3, 1) by decide +kernel) rfl rfl (Nat.le_of_ble_eq_true rfl) rfl rfl,
  fun _ _ _ _ _ _ _ => r_aload_nr (show zdec 198 20 = some (.aload_n 0, 1) by decide +kernel) rfl rfl,
  fun _ _ _ _ _ _ _ _ => r_getfield (show zdec 198 21 = some (.getfield 33, 3) by decide +kernel) (show zft.lookup (198 * zKEY + 33) = some (11, 4) by decide +kernel) rfl,
  fun _ _ _ _ _ _ _ => r_iload_n (show zdec 198 24 = some (.iload_n 1, 1) by decide +kernel) rfl rfl,
  fun _ _ _ _ _ _ _ => r_iconst (show zdec 198 25 = some (.iconst 2, 1) by decide +kernel) rfl rfl,
  fun _ _ _ _ _ _ _ _ _ _ => r_cV [_, _] rfl (show zdec 198 26 = some (.invokevirtual 294, 3) by decide +kernel) (show zst.lookup (198 * zKEY + 294) = some (1, 199, 2, 3) by decide +kernel) (by decide) rfl,
  fun _ _ _ _ _ _ _ _ => r_istore (show zdec 198 29 = some (.istore 4, 2) by decide +kernel) rfl (Nat.le_of_ble_eq_true rfl) rfl rfl,
  fun _ _ _ _ _ _ _ => r_aload_nr (show zdec 198 31 = some (.aload_n 0, 1) by decide +kernel) rfl rfl,
  fun _ _ _ _ _ _ _ _ => r_getfield (show zdec 198 32 = some (.getfield 33, 3) by decide +kernel) (show zft.lookup (198 * zKEY + 33) = some (11, 4) by decide +kernel) rfl,
  fun _ _ _ _ _ _ _ => r_iload_n (show zdec 198 35 = some (.iload_n 1, 1) by decide +kernel) rfl rfl,
  fun _ _ _ _ _ _ _ _ _ => r_cV [_] rfl (show zdec 198 36 = some (.invokevirtual 297, 3) by decide +kernel) (show zst.lookup (198 * zKEY + 297) = some (1, 200, 1, 3) by decide +kernel) (by decide) rfl,
  fun _ _ _ _ _ _ _ _ => (r_tsw (l := 0) (ts := [100, 112, 124, 136, 146, 156, 166, 176, 188, 200, 210, 222]) (dt := 234) (show zdec 198 39 = some (.tableswitch 195 0 11 #[61, 73, 85, 97, 107, 117, 127, 137, 149, 161, 171, 183], 61) by decide +kernel) (by decide +kernel)),
  fun _ _ _ _ _ _ _ => r_aload_nr (show zdec 198 100 = some (.aload_n 0, 1) by decide +kernel) rfl rfl,
  fun _ _ _ _ _ _ _ _ => r_getfield (show zdec 198 101 = some (.getfield 10, 3) by decide +kernel) (show zft.lookup (198 * zKEY + 10) = some (11, 0) by decide +kernel) rfl,
  fun _ _ _ _ _ _ _ => r_iload_n (show zdec 198 104 = some (.iload_n 2, 1) by decide +kernel) rfl rfl,
  fun _ _ _ _ _ _ _ => r_iload_n (show zdec 198 105 = some (.iload_n 3, 1) by decide +kernel) rfl rfl,
  fun _ _ _ _ _ _ _ => r_iload (show zdec 198 106 = some (.iload 4, 2) by decide +kernel) rfl rfl,
  fun _ _ _ _ _ _ _ _ _ _ _ => r_cV [_, _, _] rfl (show zdec 198 108 = some (.invokevirtual 62, 3) by decide +kernel) (show zst.lookup (198 * zKEY + 62) = some (1, 22, 3, 1) by decide +kernel) (by decide) rfl,
  fun _ _ _ _ _ _ _ => r_ireti (show zdec 198 111 = some (.ireturn, 1) by decide +kernel) (by decide +kernel),
  fun _ _ _ _ _ _ _ => r_aload_nr (show zdec 198 112 = some (.aload_n 0, 1) by decide +kernel) rfl rfl,
  fun _ _ _ _ _ _ _ _ => r_getfield (show zdec 198 113 = some (.getfield 10, 3) by decide +kernel) (show zft.lookup (198 * zKEY + 10) = some (11, 0) by decide +kernel) rfl,
  fun _ _ _ _ _ _ _ => r_iload_n (show zdec 198 116 = some (.iload_n 2, 1) by decide +kernel) rfl rfl,
  fun _ _ _ _ _ _ _ => r_iload_n (show zdec 198 117 = some (.iload_n 3, 1) by decide +kernel) rfl rfl,
  fun _ _ _ _ _ _ _ => r_iload (show zdec 198 118 = some (.iload 4, 2) by decide +kernel) rfl rfl,
  fun _ _ _ _ _ _ _ _ _ _ _ => r_cV [_, _, _] rfl (show zdec 198 120 = some (.invokevirtual 70, 3) by decide +kernel) (show zst.lookup (198 * zKEY + 70) = some (1, 30, 3, 1) by decide +kernel) (by decide) rfl,
  fun _ _ _ _ _ _ _ => r_ireti (show zdec 198 123 = some (.ireturn, 1) by decide +kernel) (by decide +kernel),
  fun _ _ _ _ _ _ _ => r_aload_nr (show zdec 198 124 = some (.aload_n 0, 1) by decide +kernel) rfl rfl,
  fun _ _ _ _ _ _ _ _ => r_getfield (show zdec 198 125 = some (.getfield 10, 3) by decide +kernel) (show zft.lookup (198 * zKEY + 10) = some (11, 0) by decide +kernel) rfl,
  fun _ _ _ _ _ _ _ => r_iload_n (show zdec 198 128 = some (.iload_n 2, 1) by decide +kernel) rfl rfl,
  fun _ _ _ _ _ _ _ => r_iload_n (show zdec 198 129 = some (.iload_n 3, 1) by decide +kernel) rfl rfl,
  fun _ _ _ _ _ _ _ => r_iload (show zdec 198 130 = some (.iload 4, 2) by decide +kernel) rfl rfl,
  fun _ _ _ _ _ _ _ _ _ _ _ => r_cV [_, _, _] rfl (show zdec 198 132 = some (.invokevirtual 73, 3) by decide +kernel) (show zst.lookup (198 * zKEY + 73) = some (1, 32, 3, 1) by decide +kernel) (by decide) rfl,
  fun _ _ _ _ _ _ _ => r_ireti (show zdec 198 135 = some (.ireturn, 1) by decide +kernel) (by decide +kernel),
  fun _ _ _ _ _ _ _ => r_aload_nr (show zdec 198 136 = some (.aload_n 0, 1) by decide +kernel) rfl rfl,
  fun _ _ _ _ _ _ _ _ => r_getfield (show zdec 198 137 = some (.getfield 10, 3) by decide +kernel) (show zft.lookup (198 * zKEY + 10) = some (11, 0) by decide +kernel) rfl,
  fun _ _ _ _ _ _ _ => r_iload_n (show zdec 198 140 = some (.iload_n 2, 1) by decide +kernel) rfl rfl,
  fun _ _ _ _ _ _ _ => r_iload_n (show zdec 198 141 = some (.iload_n 3, 1) by decide +kernel) rfl rfl,
  fun _ _ _ _ _ _ _ _ _ _ => r_cV [_, _] rfl (show zdec 198 142 = some (.invokevirtual 76, 3) by decide +kernel) (show zst.lookup (198 * zKEY + 76) = some (1, 34, 2, 1) by decide +kernel) (by decide) rfl,
  fun _ _ _ _ _ _ _ => r_ireti (show zdec 198 145 = some (.ireturn, 1) by decide +kernel) (by decide +kernel),
  fun _ _ _ _ _ _ _ => r_aload_nr (show zdec 198 146 = some (.aload_n 0, 1) by decide +kernel) rfl rfl,
  fun _ _ _ _ _ _ _ _ => r_getfield (show zdec 198 147 = some (.getfield 10, 3) by decide +kernel) (show zft.lookup (198 * zKEY + 10) = some (11, 0) by decide +kernel) rfl,
  fun _ _ _ _ _ _ _ => r_iload_n (show zdec 198 150 = some (.iload_n 2, 1) by decide +kernel) rfl rfl,
  fun _ _ _ _ _ _ _ => r_iload_n (show zdec 198 151 = some (.iload_n 3, 1) by decide +kernel) rfl rfl,
  fun _ _ _ _ _ _ _ _ _ _ => r_cV [_, _] rfl (show zdec 198 152 = some (.invokevirtual 80, 3) by decide +kernel) (show zst.lookup (198 * zKEY + 80) = some (1, 36, 2, 1) by decide +kernel) (by decide) rfl,
  fun _ _ _ _ _ _ _ => r_ireti (show zdec 198 155 = some (.ireturn, 1) by decide +kernel) (by decide +kernel),
  fun _ _ _ _ _ _ _ => r_aload_nr (show zdec 198 156 = some (.aload_n 0, 1) by decide +kernel) rfl rfl,
  fun _ _ _ _ _ _ _ _ => r_getfield (show zdec 198 157 = some (.getfield 10, 3) by decide +kernel) (show zft.lookup (198 * zKEY + 10) = some (11, 0) by decide +kernel) rfl,
  fun _ _ _ _ _ _ _ => r_iload_n (show zdec 198 160 = some (.iload_n 2, 1) by decide +kernel) rfl rfl,
  fun _ _ _ _ _ _ _ => r_iload_n (show zdec 198 161 = some (.iload_n 3, 1) by decide +kernel) rfl rfl,
  fun _ _ _ _ _ _ _ _ _ _ => r_cV [_, _] rfl (show zdec 198 162 = some (.invokevirtual 83, 3) by decide +kernel) (show zst.lookup (198 * zKEY + 83) = some (1, 38, 2, 1) by decide +kernel) (by decide) rfl,
  fun _ _ _ _ _ _ _ => r_ireti (show zdec 198 165 = some (.ireturn, 1) by decide +kernel) (by decide +kernel),
  fun _ _ _ _ _ _ _ => r_aload_nr (show zdec 198 166 = some (.aload_n 0, 1) by decide +kernel) rfl rfl,
  fun _ _ _ _ _ _ _ _ => r_getfield (show zdec 198 167 = some (.getfield 10, 3) by decide +kernel) (show zft.lookup (198 * zKEY + 10) = some (11, 0) by decide +kernel) rfl,
  fun _ _ _ _ _ _ _ => r_iload_n (show zdec 198 170 = some (.iload_n 2, 1) by decide +kernel) rfl rfl,
  fun _ _ _ _ _ _ _ => r_iload_n (show zdec 198 171 = some (.iload_n 3, 1) by decide +kernel) rfl rfl,
  fun _ _ _ _ _ _ _ _ _ _ => r_cV [_, _] rfl (show zdec 198 172 = some (.invokevirtual 86, 3) by decide +kernel) (show zst.lookup (198 * zKEY + 86) = some (1, 40, 2, 1) by decide +kernel) (by decide) rfl,
  fun _ _ _ _ _ _ _ => r_ireti (show zdec 198 175 = some (.ireturn, 1) by decide +kernel) (by decide +kernel),
  fun _ _ _ _ _ _ _ => r_aload_nr (show zdec 198 176 = some (.aload_n 0, 1) by decide +kernel) rfl rfl,
  fun _ _ _ _ _ _ _ _ => r_getfield (show zdec 198 177 = some (.getfield 10, 3) by decide +kernel) (show zft.lookup (198 * zKEY + 10) = some (11, 0) by decide +kernel) rfl,
  fun _ _ _ _ _ _ _ => r_iload_n (show zdec 198 180 = some (.iload_n 2, 1) by decide +kernel) rfl rfl,
  fun _ _ _ _ _ _ _ => r_iload_n (show zdec 198 181 = some (.iload_n 3, 1) by decide +kernel) rfl rfl,
  fun _ _ _ _ _ _ _ => r_iload (show zdec 198 182 = some (.iload 4, 2) by decide +kernel) rfl rfl,
  fun _ _ _ _ _ _ _ _ _ _ _ => r_cV [_, _, _] rfl (show zdec 198 184 = some (.invokevirtual 93, 3) by decide +kernel) (show zst.lookup (198 * zKEY + 93) = some (1, 45, 3, 1) by decide +kernel) (by decide) rfl,
  fun _ _ _ _ _ _ _ => r_ireti (show zdec 198 187 = some (.ireturn, 1) by decide +kernel) (by decide +kernel),
  fun _ _ _ _ _ _ _ => r_aload_nr (show zdec 198 188 = some (.aload_n 0, 1) by decide +kernel) rfl rfl,
  fun _ _ _ _ _ _ _ _ => r_getfield (show zdec 198 189 = some (.getfield 10, 3) by decide +kernel) (show zft.lookup (198 * zKEY + 10) = some (11, 0) by decide +kernel) rfl,
  fun _ _ _ _ _ _ _ => r_iload_n (show zdec 198 192 = some (.iload_n 2, 1) by decide +kernel) rfl rfl,
  fun _ _ _ _ _ _ _ => r_iload_n (show zdec 198 193 = some (.iload_n 3, 1) by decide +kernel) rfl rfl,
  fun _ _ _ _ _ _ _ => r_iload (show zdec 198 194 = some (.iload 4, 2) by decide +kernel) rfl rfl,
  fun _ _ _ _ _ _ _ _ _ _ _ => r_cV [_, _, _] rfl (show zdec 198 196 = some (.invokevirtual 96, 3) by decide +kernel) (show zst.lookup (198 * zKEY + 96) = some (1, 48, 3, 1) by decide +kernel) (by decide) rfl,
  fun _ _ _ _ _ _ _ => r_ireti (show zdec 198 199 = some (.ireturn, 1) by decide +kernel) (by decide +kernel),
  fun _ _ _ _ _ _ _ => r_aload_nr (show zdec 198 200 = some (.aload_n 0, 1) by decide +kernel) rfl rfl,
  fun _ _ _ _ _ _ _ _ => r_getfield (show zdec 198 201 = some (.getfield 10, 3) by decide +kernel) (show zft.lookup (198 * zKEY + 10) = some (11, 0) by decide +kernel) rfl,
  fun _ _ _ _ _ _ _ => r_iload_n (show zdec 198 204 = some (.iload_n 2, 1) by decide +kernel) rfl rfl,
  fun _ _ _ _ _ _ _ => r_iload_n (show zdec 198 205 = some (.iload_n 3, 1) by decide +kernel) rfl rfl,
  fun _ _ _ _ _ _ _ _ _ _ => r_cV [_, _] rfl (show zdec 198 206 = some (.invokevirtual 99, 3) by decide +kernel) (show zst.lookup (198 * zKEY + 99) = some (1, 50, 2, 1) by decide +kernel) (by decide) rfl,
  fun _ _ _ _ _ _ _ => r_ireti (show zdec 198 209 = some (.ireturn, 1) by decide +kernel) (by decide +kernel),
  fun _ _ _ _ _ _ _ => r_aload_nr (show zdec 198 210 = some (.aload_n 0, 1) by decide +kernel) rfl rfl,
  fun _ _ _ _ _ _ _ _ => r_getfield (show zdec 198 211 = some (.getfield 10, 3) by decide +kernel) (show zft.lookup (198 * zKEY + 10) = some (11, 0) by decide +kernel) rfl,
  fun _ _ _ _ _ _ _ => r_iload_n (show zdec 198 214 = some (.iload_n 2, 1) by decide +kernel) rfl rfl,
  fun _ _ _ _ _ _ _ => r_iload_n (show zdec 198 215 = some (.iload_n 3, 1) by decide +kernel) rfl rfl,
  fun _ _ _ _ _ _ _ => r_iload (show zdec 198 216 = some (.iload 4, 2) by decide +kernel) rfl rfl,
  fun _ _ _ _ _ _ _ _ _ _ _ => r_cV [_, _, _] rfl (show zdec 198 218 = some (.invokevirtual 102, 3) by decide +kernel) (show zst.lookup (198 * zKEY + 102) = some (1, 56, 3, 1) by decide +kernel) (by decide) rfl,
  fun _ _ _ _ _ _ _ => r_ireti (show zdec 198 221 = some (.ireturn, 1) by decide +kernel) (by decide +kernel),
  fun _ _ _ _ _ _ _ => r_aload_nr (show zdec 198 222 = some (.aload_n 0, 1) by decide +kernel) rfl rfl,
  fun _ _ _ _ _ _ _ _ => r_getfield (show zdec 198 223 = some (.getfield 10, 3) by decide +kernel) (show zft.lookup (198 * zKEY + 10) = some (11, 0) by decide +kernel) rfl,
  fun _ _ _ _ _ _ _ => r_aload_nr (show zdec 198 226 = some (.aload_n 0, 1) by decide +kernel) rfl rfl,
  fun _ _ _ _ _ _ _ _ => r_getfield (show zdec 198 227 = some (.getfield 40, 3) by decide +kernel) (show zft.lookup (198 * zKEY + 40) = some (11, 5) by decide +kernel) rfl,
  fun _ _ _ _ _ _ _ _ _ => r_cV [_] rfl (show zdec 198 230 = some (.invokevirtual 105, 3) by decide +kernel) (show zst.lookup (198 * zKEY + 105) = some (1, 58, 1, 1) by decide +kernel) (by decide) rfl,
  fun _ _ _ _ _ _ _ => r_ireti (show zdec 198 233 = some (.ireturn, 1) by decide +kernel) (by decide +kernel),
  fun _ _ _ _ _ _ _ => r_iconst (show zdec 198 234 = some (.iconst (-1), 1) by decide +kernel) rfl rfl,
  fun _ _ _ _ _ _ _ => r_ireti (show zdec 198 235 = some (.ireturn, 1) by decide +kernel) (by decide +kernel)⟩
theorem ze_198 : ∀ (a0 : Nat) (a1 : Int32) (h : zH), ev 198 [.ref a0, .int a1] h = rn 198 0 [.ref a0, .int a1, .float 0, .float 0, .float 0] [] h := fun _ _ _ => if_pos (Nat.le_of_ble_eq_true rfl)
-- PayrollRun.save()I
theorem zr_203 : (∀ (x : Nat) (S : List Value) (h : zH), rn 203 0 [.ref x] S h = rn 203 1 [.ref x] (.ref x :: S) h) ∧
  (∀ (l0 : Value) (a : Nat) (S : List Value) (h : zH), rn 203 1 [l0] (.ref a :: S) h = zgf h a 11 2 fun v => rn 203 4 [l0] (v :: S) h) ∧
  (∀ (x : Nat) (S : List Value) (h : zH), rn 203 4 [.ref x] S h = rn 203 5 [.ref x] (.ref x :: S) h) ∧
  (∀ (l0 : Value) (a : Nat) (S : List Value) (h : zH), rn 203 5 [l0] (.ref a :: S) h = zgf h a 11 0 fun v => rn 203 8 [l0] (v :: S) h) ∧
  (∀ (l0 : Value) (o : Nat) (v0 : Value) (S : List Value) (h : zH), rn 203 8 [l0] (v0 :: .ref o :: S) h = if zkd h o = 1 ∧ zsum S ≤ 8 then zcall (ev 18 [.ref o, v0] h) (fun v h => rn 203 11 [l0] (zpush v S) h) else none) ∧
  (∀ (x : Nat) (S : List Value) (h : zH), rn 203 11 [.ref x] S h = rn 203 12 [.ref x] (.ref x :: S) h) ∧
  (∀ (l0 : Value) (S : List Value) (h : zH), rn 203 12 [l0] S h = rn 203 13 [l0] (.int (nI 1) :: S) h) ∧
  (∀ (l0 : Value) (a : Nat) (v : Value) (S : List Value) (h : zH), rn 203 13 [l0] (v :: .ref a :: S) h = zpf h a 11 3 v fun h => rn 203 16 [l0] S h) ∧
  (∀ (x : Nat) (S : List Value) (h : zH), rn 203 16 [.ref x] S h = rn 203 17 [.ref x] (.ref x :: S) h) ∧
  (∀ (l0 : Value) (a : Nat) (S : List Value) (h : zH), rn 203 17 [l0] (.ref a :: S) h = zgf h a 11 0 fun v => rn 203 20 [l0] (v :: S) h) ∧
  (∀ (l0 : Value) (a : Nat) (S : List Value) (h : zH), rn 203 20 [l0] (.ref a :: S) h = zgf h a 1 2 fun v => rn 203 23 [l0] (v :: S) h) ∧
  (∀ (l0 : Value) (x : Int32) (h : zH), rn 203 23 [l0] [.int x] h = some (some (.int x), h)) := ⟨fun _ _ _ => r_aload_nr (show zdec 203 0 = some (.aload_n 0, 1) by decide +kernel) rfl rfl,
  fun _ _ _ _ => r_getfield (show zdec 203 1 = some (.getfield 23, 3) by decide +kernel) (show zft.lookup (203 * zKEY + 23) = some (11, 2) by decide +kernel) rfl,
  fun _ _ _ => r_aload_nr (show zdec 203 4 = some (.aload_n 0, 1) by decide +kernel) rfl rfl,
  fun _ _ _ _ => r_getfield (show zdec 203 5 = some (.getfield 10, 3) by decide +kernel) (show zft.lookup (203 * zKEY + 10) = some (11, 0) by decide +kernel) rfl,
  fun _ _ _ _ _ => r_cV [_] rfl (show zdec 203 8 = some (.invokevirtual 284, 3) by decide +kernel) (show zst.lookup (203 * zKEY + 284) = some (1, 18, 1, 1) by decide +kernel) (by decide) rfl,
  fun _ _ _ => r_aload_nr (show zdec 203 11 = some (.aload_n 0, 1) by decide +kernel) rfl rfl,
  fun _ _ _ => r_iconst (show zdec 203 12 = some (.iconst 1, 1) by decide +kernel) rfl rfl,
  fun _ _ _ _ _ => r_putfield (show zdec 203 13 = some (.putfield 26, 3) by decide +kernel) (show zft.lookup (203 * zKEY + 26) = some (11, 3) by decide +kernel) (by decide +kernel) rfl,
  fun _ _ _ => r_aload_nr (show zdec 203 16 = some (.aload_n 0, 1) by decide +kernel) rfl rfl,
  fun _ _ _ _ => r_getfield (show zdec 203 17 = some (.getfield 10, 3) by decide +kernel) (show zft.lookup (203 * zKEY + 10) = some (11, 0) by decide +kernel) rfl,
  fun _ _ _ _ => r_getfield (show zdec 203 20 = some (.getfield 112, 3) by decide +kernel) (show zft.lookup (203 * zKEY + 112) = some (1, 2) by decide +kernel) rfl,
  fun _ _ _ => r_ireti (show zdec 203 23 = some (.ireturn, 1) by decide +kernel) (by decide +kernel)⟩
theorem ze_203 : ∀ (a0 : Nat) (h : zH), ev 203 [.ref a0] h = rn 203 0 [.ref a0] [] h := fun _ _ => if_pos (Nat.le_of_ble_eq_true rfl)
-- PayrollRun.restore()I
theorem zr_204 : (∀ (x : Nat) (S : List Value) (h : zH), rn 204 0 [.ref x] S h = rn 204 1 [.ref x] (.ref x :: S) h) ∧
  (∀ (l0 : Value) (a : Nat) (S : List Value) (h : zH), rn 204 1 [l0] (.ref a :: S) h = zgf h a 11 3 fun v => rn 204 4 [l0] (v :: S) h) ∧
  (∀ (l0 : Value) (x : Int32) (S : List Value) (h : zH), rn 204 4 [l0] (.int x :: S) h = if x = nI 0 then rn 204 7 [l0] S h else rn 204 10 [l0] S h) ∧
  (∀ (l0 : Value) (S : List Value) (h : zH), rn 204 7 [l0] S h = rn 204 9 [l0] (.int (-2) :: S) h) ∧
  (∀ (l0 : Value) (x : Int32) (h : zH), rn 204 9 [l0] [.int x] h = some (some (.int x), h)) ∧
  (∀ (x : Nat) (S : List Value) (h : zH), rn 204 10 [.ref x] S h = rn 204 11 [.ref x] (.ref x :: S) h) ∧
  (∀ (l0 : Value) (a : Nat) (S : List Value) (h : zH), rn 204 11 [l0] (.ref a :: S) h = zgf h a 11 1 fun v => rn 204 14 [l0] (v :: S) h) ∧
  (∀ (x : Nat) (S : List Value) (h : zH), rn 204 14 [.ref x] S h = rn 204 15 [.ref x] (.ref x :: S) h) ∧
  (∀ (l0 : Value) (a : Nat) (S : List Value) (h : zH), rn 204 15 [l0] (.ref a :: S) h = zgf h a 11 0 fun v => rn 204 18 [l0] (v :: S) h) ∧
  (∀ (l0 : Value) (o : Nat) (v0 : Value) (S : List Value) (h : zH), rn 204 18 [l0] (v0 :: .ref o :: S) h = if zkd h o = 5 ∧ zsum S ≤ 8 then zcall (ev 17 [.ref o, v0] h) (fun v h => rn 204 21 [l0] (zpush v S) h) else none) ∧
  (∀ (x : Nat) (S : List Value) (h : zH), rn 204 21 [.ref x] S h = rn 204 22 [.ref x] (.ref x :: S) h) ∧
  (∀ (l0 : Value) (a : Nat) (S : List Value) (h : zH), rn 204 22 [l0] (.ref a :: S) h = zgf h a 11 0 fun v => rn 204 25 [l0] (v :: S) h) ∧
  (∀ (x : Nat) (S : List Value) (h : zH), rn 204 25 [.ref x] S h = rn 204 26 [.ref x] (.ref x :: S) h) ∧
  (∀ (l0 : Value) (a : Nat) (S : List Value) (h : zH), rn 204 26 [l0] (.ref a :: S) h = zgf h a 11 2 fun v => rn 204 29 [l0] (v :: S) h) ∧
  (∀ (l0 : Value) (o : Nat) (v0 : Value) (S : List Value) (h : zH), rn 204 29 [l0] (v0 :: .ref o :: S) h = if zkd h o = 1 ∧ zsum S ≤ 8 then zcall (ev 18 [.ref o, v0] h) (fun v h => rn 204 32 [l0] (zpush v S) h) else none) ∧
  (∀ (x : Nat) (S : List Value) (h : zH), rn 204 32 [.ref x] S h = rn 204 33 [.ref x] (.ref x :: S) h) ∧
  (∀ (x : Nat) (S : List Value) (h : zH), rn 204 33 [.ref x] S h = rn 204 34 [.ref x] (.ref x :: S) h) ∧
  (∀ (l0 : Value) (a : Nat) (S : List Value) (h : zH), rn 204 34 [l0] (.ref a :: S) h = zgf h a 11 0 fun v => rn 204 37 [l0] (v :: S) h) ∧
  (∀ (l0 : Value) (a : Nat) (S : List Value) (h : zH), rn 204 37 [l0] (.ref a :: S) h = zgf h a 1 2 fun v => rn 204 40 [l0] (v :: S) h) ∧
  (∀ (l0 : Value) (o : Nat) (v0 : Value) (S : List Value) (h : zH), rn 204 40 [l0] (v0 :: .ref o :: S) h = if zkd h o = 11 ∧ zsum S ≤ 8 then zcall (ev 26 [.ref o, v0] h) (fun v h => rn 204 43 [l0] (zpush v S) h) else none) ∧
  (∀ (l0 : Value) (x : Int32) (h : zH), rn 204 43 [l0] [.int x] h = some (some (.int x), h)) := ⟨fun _ _ _ => r_aload_nr (show zdec 204 0 = some (.aload_n 0, 1) by decide +kernel) rfl rfl,
  fun _ _ _ _ => r_getfield (show zdec 204 1 = some (.getfield 26, 3) by decide +kernel) (show zft.lookup (204 * zKEY + 26) = some (11, 3) by decide +kernel) rfl,
  fun _ _ _ _ => r_ifne (show zdec 204 4 = some (.ifCond .ne 6, 3) by decide +kernel) rfl rfl,
  fun _ _ _ => r_bipush (show zdec 204 7 = some (.bipush (-2), 2) by decide +kernel) rfl rfl,
  fun _ _ _ => r_ireti (show zdec 204 9 = some (.ireturn, 1) by decide +kernel) (by decide +kernel),
  fun _ _ _ => r_aload_nr (show zdec 204 10 = some (.aload_n 0, 1) by decide +kernel) rfl rfl,
  fun _ _ _ _ => r_getfield (show zdec 204 11 = some (.getfield 19, 3) by decide +kernel) (show zft.lookup (204 * zKEY + 19) = some (11, 1) by decide +kernel) rfl,
  fun _ _ _ => r_aload_nr (show zdec 204 14 = some (.aload_n 0, 1) by decide +kernel) rfl rfl,
  fun _ _ _ _ => r_getfield (show zdec 204 15 = some (.getfield 10, 3) by decide +kernel) (show zft.lookup (204 * zKEY + 10) = some (11, 0) by decide +kernel) rfl,
  fun _ _ _ _ _ => r_cV [_] rfl (show zdec 204 18 = some (.invokevirtual 58, 3) by decide +kernel) (show zst.lookup (204 * zKEY + 58) = some (1, 17, 1, 5) by decide +kernel) (by decide) rfl,
  fun _ _ _ => r_aload_nr (show zdec 204 21 = some (.aload_n 0, 1) by decide +kernel) rfl rfl,
  fun _ _ _ _ => r_getfield (show zdec 204 22 = some (.getfield 10, 3) by decide +kernel) (show zft.lookup (204 * zKEY + 10) = some (11, 0) by decide +kernel) rfl,
  fun _ _ _ => r_aload_nr (show zdec 204 25 = some (.aload_n 0, 1) by decide +kernel) rfl rfl,
  fun _ _ _ _ => r_getfield (show zdec 204 26 = some (.getfield 23, 3) by decide +kernel) (show zft.lookup (204 * zKEY + 23) = some (11, 2) by decide +kernel) rfl,
  fun _ _ _ _ _ => r_cV [_] rfl (show zdec 204 29 = some (.invokevirtual 284, 3) by decide +kernel) (show zst.lookup (204 * zKEY + 284) = some (1, 18, 1, 1) by decide +kernel) (by decide) rfl,
  fun _ _ _ => r_aload_nr (show zdec 204 32 = some (.aload_n 0, 1) by decide +kernel) rfl rfl,
  fun _ _ _ => r_aload_nr (show zdec 204 33 = some (.aload_n 0, 1) by decide +kernel) rfl rfl,
  fun _ _ _ _ => r_getfield (show zdec 204 34 = some (.getfield 10, 3) by decide +kernel) (show zft.lookup (204 * zKEY + 10) = some (11, 0) by decide +kernel) rfl,
  fun _ _ _ _ => r_getfield (show zdec 204 37 = some (.getfield 112, 3) by decide +kernel) (show zft.lookup (204 * zKEY + 112) = some (1, 2) by decide +kernel) rfl,
  fun _ _ _ _ _ => r_cV [_] rfl (show zdec 204 40 = some (.invokevirtual 66, 3) by decide +kernel) (show zst.lookup (204 * zKEY + 66) = some (1, 26, 1, 11) by decide +kernel) (by decide) rfl,
  fun _ _ _ => r_ireti (show zdec 204 43 = some (.ireturn, 1) by decide +kernel) (by decide +kernel)⟩
theorem ze_204 : ∀ (a0 : Nat) (h : zH), ev 204 [.ref a0] h = rn 204 0 [.ref a0] [] h := fun _ _ => if_pos (Nat.le_of_ble_eq_true rfl)
-- PayrollRun.undo()I
theorem zr_205 : (∀ (x : Nat) (S : List Value) (h : zH), rn 205 0 [.ref x] S h = rn 205 1 [.ref x] (.ref x :: S) h) ∧
  (∀ (l0 : Value) (a : Nat) (S : List Value) (h : zH), rn 205 1 [l0] (.ref a :: S) h = zgf h a 11 1 fun v => rn 205 4 [l0] (v :: S) h) ∧
  (∀ (x : Nat) (S : List Value) (h : zH), rn 205 4 [.ref x] S h = rn 205 5 [.ref x] (.ref x :: S) h) ∧
  (∀ (l0 : Value) (a : Nat) (S : List Value) (h : zH), rn 205 5 [l0] (.ref a :: S) h = zgf h a 11 0 fun v => rn 205 8 [l0] (v :: S) h) ∧
  (∀ (l0 : Value) (o : Nat) (v0 : Value) (S : List Value) (h : zH), rn 205 8 [l0] (v0 :: .ref o :: S) h = if zkd h o = 5 ∧ zsum S ≤ 8 then zcall (ev 206 [.ref o, v0] h) (fun v h => rn 205 11 [l0] (zpush v S) h) else none) ∧
  (∀ (l0 : Value) (x : Int32) (h : zH), rn 205 11 [l0] [.int x] h = some (some (.int x), h)) := ⟨fun _ _ _ => r_aload_nr (show zdec 205 0 = some (.aload_n 0, 1) by decide +kernel) rfl rfl,
  fun _ _ _ _ => r_getfield (show zdec 205 1 = some (.getfield 19, 3) by decide +kernel) (show zft.lookup (205 * zKEY + 19) = some (11, 1) by decide +kernel) rfl,
  fun _ _ _ => r_aload_nr (show zdec 205 4 = some (.aload_n 0, 1) by decide +kernel) rfl rfl,
  fun _ _ _ _ => r_getfield (show zdec 205 5 = some (.getfield 10, 3) by decide +kernel) (show zft.lookup (205 * zKEY + 10) = some (11, 0) by decide +kernel) rfl,
  fun _ _ _ _ _ => r_cV [_] rfl (show zdec 205 8 = some (.invokevirtual 287, 3) by decide +kernel) (show zst.lookup (205 * zKEY + 287) = some (1, 206, 1, 5) by decide +kernel) (by decide) rfl,
  fun _ _ _ => r_ireti (show zdec 205 11 = some (.ireturn, 1) by decide +kernel) (by decide +kernel)⟩
theorem ze_205 : ∀ (a0 : Nat) (h : zH), ev 205 [.ref a0] h = rn 205 0 [.ref a0] [] h := fun _ _ => if_pos (Nat.le_of_ble_eq_true rfl)

