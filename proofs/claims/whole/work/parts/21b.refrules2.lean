/-! RULES of the reference, second part, printed by render.py -/
-- PayrollRunModel.<init>()V
theorem zr_207 : (∀ (l1 l2 : Value) (x : Nat) (S : List Value) (h : zH), rn 207 0 [.ref x, l1, l2] S h = rn 207 1 [.ref x, l1, l2] (.ref x :: S) h) ∧
  (∀ (l0 l1 l2 : Value) (o : Nat) (S : List Value) (h : zH), rn 207 1 [l0, l1, l2] (.ref o :: S) h = if zsum S ≤ 8 then rn 207 4 [l0, l1, l2] S h else none) ∧
  (∀ (l1 l2 : Value) (x : Nat) (S : List Value) (h : zH), rn 207 4 [.ref x, l1, l2] S h = rn 207 5 [.ref x, l1, l2] (.ref x :: S) h) ∧
  (∀ (l0 l1 l2 : Value) (S : List Value) (h : zH), rn 207 5 [l0, l1, l2] S h = rn 207 8 [l0, l1, l2] (.int (nI 8271) :: S) h) ∧
  (∀ (l0 l1 l2 : Value) (x : Int32) (S : List Value) (h : zH), rn 207 8 [l0, l1, l2] (.int x :: S) h = mkA x (rn 207 10 [l0, l1, l2] (.ref (100 + h.1) :: S) (znew h (.inl (1, x.toNatClampNeg, zz0 1)) x.toNatClampNeg))) ∧
  (∀ (l0 l1 l2 : Value) (a : Nat) (v : Value) (S : List Value) (h : zH), rn 207 10 [l0, l1, l2] (v :: .ref a :: S) h = zpf h a 12 0 v fun h => rn 207 13 [l0, l1, l2] S h) ∧
  (∀ (l1 l2 : Value) (x : Nat) (S : List Value) (h : zH), rn 207 13 [.ref x, l1, l2] S h = rn 207 14 [.ref x, l1, l2] (.ref x :: S) h) ∧
  (∀ (l0 l1 l2 : Value) (S : List Value) (h : zH), rn 207 14 [l0, l1, l2] S h = rn 207 17 [l0, l1, l2] (.int (nI 8271) :: S) h) ∧
  (∀ (l0 l1 l2 : Value) (x : Int32) (S : List Value) (h : zH), rn 207 17 [l0, l1, l2] (.int x :: S) h = mkA x (rn 207 19 [l0, l1, l2] (.ref (100 + h.1) :: S) (znew h (.inl (1, x.toNatClampNeg, zz0 1)) x.toNatClampNeg))) ∧
  (∀ (l0 l1 l2 : Value) (a : Nat) (v : Value) (S : List Value) (h : zH), rn 207 19 [l0, l1, l2] (v :: .ref a :: S) h = zpf h a 12 1 v fun h => rn 207 22 [l0, l1, l2] S h) ∧
  (∀ (l1 l2 : Value) (x : Nat) (S : List Value) (h : zH), rn 207 22 [.ref x, l1, l2] S h = rn 207 23 [.ref x, l1, l2] (.ref x :: S) h) ∧
  (∀ (l0 l1 l2 : Value) (S : List Value) (h : zH), rn 207 23 [l0, l1, l2] S h = rn 207 25 [l0, l1, l2] (.int (nI 49626) :: S) h) ∧
  (∀ (l0 l1 l2 : Value) (x : Int32) (S : List Value) (h : zH), rn 207 25 [l0, l1, l2] (.int x :: S) h = mkA x (rn 207 27 [l0, l1, l2] (.ref (100 + h.1) :: S) (znew h (.inl (1, x.toNatClampNeg, zz0 1)) x.toNatClampNeg))) ∧
  (∀ (l0 l1 l2 : Value) (a : Nat) (v : Value) (S : List Value) (h : zH), rn 207 27 [l0, l1, l2] (v :: .ref a :: S) h = zpf h a 12 3 v fun h => rn 207 30 [l0, l1, l2] S h) ∧
  (∀ (l1 l2 : Value) (x : Nat) (S : List Value) (h : zH), rn 207 30 [.ref x, l1, l2] S h = rn 207 31 [.ref x, l1, l2] (.ref x :: S) h) ∧
  (∀ (l0 l1 l2 : Value) (S : List Value) (h : zH), rn 207 31 [l0, l1, l2] S h = rn 207 34 [l0, l1, l2] (.int (nI 8271) :: S) h) ∧
  (∀ (l0 l1 l2 : Value) (x : Int32) (S : List Value) (h : zH), rn 207 34 [l0, l1, l2] (.int x :: S) h = mkA x (rn 207 36 [l0, l1, l2] (.ref (100 + h.1) :: S) (znew h (.inl (1, x.toNatClampNeg, zz0 1)) x.toNatClampNeg))) ∧
  (∀ (l0 l1 l2 : Value) (a : Nat) (v : Value) (S : List Value) (h : zH), rn 207 36 [l0, l1, l2] (v :: .ref a :: S) h = zpf h a 12 5 v fun h => rn 207 39 [l0, l1, l2] S h) ∧
  (∀ (l1 l2 : Value) (x : Nat) (S : List Value) (h : zH), rn 207 39 [.ref x, l1, l2] S h = rn 207 40 [.ref x, l1, l2] (.ref x :: S) h) ∧
  (∀ (l0 l1 l2 : Value) (S : List Value) (h : zH), rn 207 40 [l0, l1, l2] S h = rn 207 43 [l0, l1, l2] (.int (nI 8271) :: S) h) ∧
  (∀ (l0 l1 l2 : Value) (x : Int32) (S : List Value) (h : zH), rn 207 43 [l0, l1, l2] (.int x :: S) h = mkA x (rn 207 45 [l0, l1, l2] (.ref (100 + h.1) :: S) (znew h (.inl (1, x.toNatClampNeg, zz0 1)) x.toNatClampNeg))) ∧
  (∀ (l0 l1 l2 : Value) (a : Nat) (v : Value) (S : List Value) (h : zH), rn 207 45 [l0, l1, l2] (v :: .ref a :: S) h = zpf h a 12 6 v fun h => rn 207 48 [l0, l1, l2] S h) ∧
  (∀ (l1 l2 : Value) (x : Nat) (S : List Value) (h : zH), rn 207 48 [.ref x, l1, l2] S h = rn 207 49 [.ref x, l1, l2] (.ref x :: S) h) ∧
  (∀ (l0 l1 l2 : Value) (S : List Value) (h : zH), rn 207 49 [l0, l1, l2] S h = rn 207 52 [l0, l1, l2] (.int (nI 2160) :: S) h) ∧
  (∀ (l0 l1 l2 : Value) (x : Int32) (S : List Value) (h : zH), rn 207 52 [l0, l1, l2] (.int x :: S) h = mkA x (rn 207 54 [l0, l1, l2] (.ref (100 + h.1) :: S) (znew h (.inl (2, x.toNatClampNeg, zz0 2)) x.toNatClampNeg))) ∧
  (∀ (l0 l1 l2 : Value) (a : Nat) (v : Value) (S : List Value) (h : zH), rn 207 54 [l0, l1, l2] (v :: .ref a :: S) h = zpf h a 12 8 v fun h => rn 207 57 [l0, l1, l2] S h) ∧
  (∀ (l1 l2 : Value) (x : Nat) (S : List Value) (h : zH), rn 207 57 [.ref x, l1, l2] S h = rn 207 58 [.ref x, l1, l2] (.ref x :: S) h) ∧
  (∀ (l0 l1 l2 : Value) (S : List Value) (h : zH), rn 207 58 [l0, l1, l2] S h = rn 207 60 [l0, l1, l2] (.int (nI 60) :: S) h) ∧
  (∀ (l0 l1 l2 : Value) (x : Int32) (S : List Value) (h : zH), rn 207 60 [l0, l1, l2] (.int x :: S) h = mkA x (rn 207 62 [l0, l1, l2] (.ref (100 + h.1) :: S) (znew h (.inl (2, x.toNatClampNeg, zz0 2)) x.toNatClampNeg))) ∧
  (∀ (l0 l1 l2 : Value) (a : Nat) (v : Value) (S : List Value) (h : zH), rn 207 62 [l0, l1, l2] (v :: .ref a :: S) h = zpf h a 12 10 v fun h => rn 207 65 [l0, l1, l2] S h) ∧
  (∀ (l1 l2 : Value) (x : Nat) (S : List Value) (h : zH), rn 207 65 [.ref x, l1, l2] S h = rn 207 66 [.ref x, l1, l2] (.ref x :: S) h) ∧
  (∀ (l0 l1 l2 : Value) (S : List Value) (h : zH), rn 207 66 [l0, l1, l2] S h = rn 207 67 [l0, l1, l2] (.int (nI 3) :: S) h) ∧
  (∀ (l0 l1 l2 : Value) (x : Int32) (S : List Value) (h : zH), rn 207 67 [l0, l1, l2] (.int x :: S) h = mkA x (rn 207 69 [l0, l1, l2] (.ref (100 + h.1) :: S) (znew h (.inl (0, x.toNatClampNeg, zz0 0)) x.toNatClampNeg))) ∧
  (∀ (l0 l1 l2 : Value) (a : Nat) (v : Value) (S : List Value) (h : zH), rn 207 69 [l0, l1, l2] (v :: .ref a :: S) h = zpf h a 12 14 v fun h => rn 207 72 [l0, l1, l2] S h) ∧
  (∀ (l1 l2 : Value) (x : Nat) (S : List Value) (h : zH), rn 207 72 [.ref x, l1, l2] S h = rn 207 73 [.ref x, l1, l2] (.ref x :: S) h) ∧
  (∀ (l0 l1 l2 : Value) (a : Nat) (S : List Value) (h : zH), rn 207 73 [l0, l1, l2] (.ref a :: S) h = zgf h a 12 0 fun v => rn 207 76 [l0, l1, l2] (v :: S) h) ∧
  (∀ (l0 l1 l2 : Value) (S : List Value) (h : zH), rn 207 76 [l0, l1, l2] S h = rn 207 77 [l0, l1, l2] (.int (nI 5) :: S) h) ∧
  (∀ (l0 l1 l2 : Value) (S : List Value) (h : zH), rn 207 77 [l0, l1, l2] S h = rn 207 80 [l0, l1, l2] (.long (99999) :: S) h) ∧
  (∀ (l0 l1 l2 : Value) (a : Nat) (j : Int32) (x : Int64) (S : List Value) (h : zH), rn 207 80 [l0, l1, l2] (.long x :: .int j :: .ref a :: S) h = zsj h a j x fun h => rn 207 81 [l0, l1, l2] S h) ∧
  (∀ (l1 l2 : Value) (x : Nat) (S : List Value) (h : zH), rn 207 81 [.ref x, l1, l2] S h = rn 207 82 [.ref x, l1, l2] (.ref x :: S) h) ∧
  (∀ (l0 l1 l2 : Value) (a : Nat) (S : List Value) (h : zH), rn 207 82 [l0, l1, l2] (.ref a :: S) h = zgf h a 12 0 fun v => rn 207 85 [l0, l1, l2] (v :: S) h) ∧
  (∀ (l0 l1 l2 : Value) (S : List Value) (h : zH), rn 207 85 [l0, l1, l2] S h = rn 207 87 [l0, l1, l2] (.int (nI 6) :: S) h) ∧
  (∀ (l0 l1 l2 : Value) (S : List Value) (h : zH), rn 207 87 [l0, l1, l2] S h = rn 207 90 [l0, l1, l2] (.long (99999) :: S) h) ∧
  (∀ (l0 l1 l2 : Value) (a : Nat) (j : Int32) (x : Int64) (S : List Value) (h : zH), rn 207 90 [l0, l1, l2] (.long x :: .int j :: .ref a :: S) h = zsj h a j x fun h => rn 207 91 [l0, l1, l2] S h) ∧
  (∀ (l0 l1 l2 : Value) (S : List Value) (h : zH), rn 207 91 [l0, l1, l2] S h = rn 207 92 [l0, l1, l2] (.int (nI 0) :: S) h) ∧
  (∀ (l0 l1 l2 : Value) (x : Int32) (S : List Value) (h : zH), rn 207 92 [l0, l1, l2] (.int x :: S) h = nl l0 (rn 207 93 [l0, .int x, l2] S h)) ∧
  (∀ (l0 l1 l2 : Value) (S : List Value) (h : zH), rn 207 94 [l0, l1, l2] S h = rn 207 95 [l0, l1, l2] (.int (nI 3) :: S) h) ∧
  (∀ (l0 l1 l2 : Value) (x : Int32) (y : Int32) (S : List Value) (h : zH), rn 207 95 [l0, l1, l2] (.int y :: .int x :: S) h = if y ≤ x then rn 207 134 [l0, l1, l2] S h else rn 207 98 [l0, l1, l2] S h) ∧
  (∀ (l0 l1 l2 : Value) (S : List Value) (h : zH), rn 207 98 [l0, l1, l2] S h = rn 207 99 [l0, l1, l2] (.int (nI 0) :: S) h) ∧
  (∀ (l0 l1 l2 : Value) (x : Int32) (S : List Value) (h : zH), rn 207 99 [l0, l1, l2] (.int x :: S) h = nl l1 (rn 207 100 [l0, l1, .int x] S h)) ∧
  (∀ (l0 l1 l2 : Value) (S : List Value) (h : zH), rn 207 101 [l0, l1, l2] S h = rn 207 103 [l0, l1, l2] (.int (nI 12) :: S) h) ∧
  (∀ (l0 l1 l2 : Value) (x : Int32) (y : Int32) (S : List Value) (h : zH), rn 207 103 [l0, l1, l2] (.int y :: .int x :: S) h = if y ≤ x then rn 207 128 [l0, l1, l2] S h else rn 207 106 [l0, l1, l2] S h) ∧
  (∀ (l1 l2 : Value) (x : Nat) (S : List Value) (h : zH), rn 207 106 [.ref x, l1, l2] S h = rn 207 107 [.ref x, l1, l2] (.ref x :: S) h) ∧
  (∀ (l0 l1 l2 : Value) (a : Nat) (S : List Value) (h : zH), rn 207 107 [l0, l1, l2] (.ref a :: S) h = zgf h a 12 0 fun v => rn 207 110 [l0, l1, l2] (v :: S) h) ∧
  (∀ (l0 l2 : Value) (x : Int32) (S : List Value) (h : zH), rn 207 110 [l0, .int x, l2] S h = rn 207 111 [l0, .int x, l2] (.int x :: S) h) ∧
  (∀ (l0 l1 l2 : Value) (S : List Value) (h : zH), rn 207 111 [l0, l1, l2] S h = rn 207 113 [l0, l1, l2] (.int (nI 14) :: S) h) ∧
  (∀ (l0 l1 : Value) (x : Int32) (S : List Value) (h : zH), rn 207 113 [l0, l1, .int x] S h = rn 207 114 [l0, l1, .int x] (.int x :: S) h) ∧
  (∀ (l0 l1 l2 : Value) (x : Int32) (y : Int32) (S : List Value) (h : zH), rn 207 114 [l0, l1, l2] (.int y :: .int x :: S) h = rn 207 115 [l0, l1, l2] (.int (x + y) :: S) h) ∧
  (∀ (l0 l1 l2 : Value) (v0 : Value) (v1 : Value) (S : List Value) (h : zH), rn 207 115 [l0, l1, l2] (v1 :: v0 :: S) h = if zsum S ≤ 8 then zcall (ev 208 [v0, v1] h) (fun v h => rn 207 118 [l0, l1, l2] (zpush v S) h) else none) ∧
  (∀ (l0 l1 l2 : Value) (S : List Value) (h : zH), rn 207 118 [l0, l1, l2] S h = rn 207 121 [l0, l1, l2] (.long (30) :: S) h) ∧
  (∀ (l0 l1 l2 : Value) (a : Nat) (j : Int32) (x : Int64) (S : List Value) (h : zH), rn 207 121 [l0, l1, l2] (.long x :: .int j :: .ref a :: S) h = zsj h a j x fun h => rn 207 122 [l0, l1, l2] S h) ∧
  (∀ (l0 l1 : Value) (x : Int32) (S : List Value) (h : zH), rn 207 122 [l0, l1, .int x] S h = nl l1 (rn 207 125 [l0, l1, .int (x + (nI 1))] S h)) ∧
  (∀ (l0 l1 l2 : Value) (S : List Value) (h : zH), rn 207 125 [l0, l1, l2] S h = rn 207 100 [l0, l1, l2] S h) ∧
  (∀ (l0 l2 : Value) (x : Int32) (S : List Value) (h : zH), rn 207 128 [l0, .int x, l2] S h = nl l0 (rn 207 131 [l0, .int (x + (nI 1)), l2] S h)) ∧
  (∀ (l0 l1 l2 : Value) (S : List Value) (h : zH), rn 207 131 [l0, l1, l2] S h = rn 207 93 [l0, l1, l2] S h) ∧
  (∀ (l0 l1 l2 : Value) (h : zH), rn 207 134 [l0, l1, l2] [] h = some (none, h)) := ⟨fun _ _ _ _ _ => r_aload_nr (show zdec 207 0 = some (.aload_n 0, 1) by decide +kernel) rfl rfl,
  fun _ _ _ _ _ _ => r_cO (show zdec 207 1 = some (.invokespecial 3, 3) by decide +kernel) (show zst.lookup (207 * zKEY + 3) = some (7, 1, 0, 0) by decide +kernel) rfl,
  fun _ _ _ _ _ => r_aload_nr (show zdec 207 4 = some (.aload_n 0, 1) by decide +kernel) rfl rfl,
  fun _ _ _ _ _ => r_sipush (show zdec 207 5 = some (.sipush 8271, 3) by decide +kernel) rfl rfl,
  fun _ _ _ _ _ _ => r_newa (show zdec 207 8 = some (.newarray .long, 2) by decide +kernel) rfl rfl,
  fun _ _ _ _ _ _ _ => r_putfield (show zdec 207 10 = some (.putfield 9, 3) by decide +kernel) (show zft.lookup (207 * zKEY + 9) = some (12, 0) by decide +kernel) (by decide +kernel) rfl,
  fun _ _ _ _ _ => r_aload_nr (show zdec 207 13 = some (.aload_n 0, 1) by decide +kernel) rfl rfl,
  fun _ _ _ _ _ => r_sipush (show zdec 207 14 = some (.sipush 8271, 3) by decide +kernel) rfl rfl,
  fun _ _ _ _ _ _ => r_newa (show zdec 207 17 = some (.newarray .long, 2) by decide +kernel) rfl rfl,
  fun _ _ _ _ _ _ _ => r_putfield (show zdec 207 19 = some (.putfield 13, 3) by decide +kernel) (show zft.lookup (207 * zKEY + 13) = some (12, 1) by decide +kernel) (by decide +kernel) rfl,
  fun _ _ _ _ _ => r_aload_nr (show zdec 207 22 = some (.aload_n 0, 1) by decide +kernel) rfl rfl,
  fun _ _ _ _ _ => r_ldcI (show zdec 207 23 = some (.ldc 16, 2) by decide +kernel) (show zkt.lookup (207 * zKEY + 16) = some 49626 by decide +kernel) rfl,
  fun _ _ _ _ _ _ => r_newa (show zdec 207 25 = some (.newarray .long, 2) by decide +kernel) rfl rfl,
  fun _ _ _ _ _ _ _ => r_putfield (show zdec 207 27 = some (.putfield 17, 3) by decide +kernel) (show zft.lookup (207 * zKEY + 17) = some (12, 3) by decide +kernel) (by decide +kernel) rfl,
  fun _ _ _ _ _ => r_aload_nr (show zdec 207 30 = some (.aload_n 0, 1) by decide +kernel) rfl rfl,
  fun _ _ _ _ _ => r_sipush (show zdec 207 31 = some (.sipush 8271, 3) by decide +kernel) rfl rfl,
  fun _ _ _ _ _ _ => r_newa (show zdec 207 34 = some (.newarray .long, 2) by decide +kernel) rfl rfl,
  fun _ _ _ _ _ _ _ => r_putfield (show zdec 207 36 = some (.putfield 20, 3) by decide +kernel) (show zft.lookup (207 * zKEY + 20) = some (12, 5) by decide +kernel) (by decide +kernel) rfl,
  fun _ _ _ _ _ => r_aload_nr (show zdec 207 39 = some (.aload_n 0, 1) by decide +kernel) rfl rfl,
  fun _ _ _ _ _ => r_sipush (show zdec 207 40 = some (.sipush 8271, 3) by decide +kernel) rfl rfl,
  fun _ _ _ _ _ _ => r_newa (show zdec 207 43 = some (.newarray .long, 2) by decide +kernel) rfl rfl,
  fun _ _ _ _ _ _ _ => r_putfield (show zdec 207 45 = some (.putfield 23, 3) by decide +kernel) (show zft.lookup (207 * zKEY + 23) = some (12, 6) by decide +kernel) (by decide +kernel) rfl,
  fun _ _ _ _ _ => r_aload_nr (show zdec 207 48 = some (.aload_n 0, 1) by decide +kernel) rfl rfl,
  fun _ _ _ _ _ => r_sipush (show zdec 207 49 = some (.sipush 2160, 3) by decide +kernel) rfl rfl,
  fun _ _ _ _ _ _ => r_newa (show zdec 207 52 = some (.newarray .char, 2) by decide +kernel) rfl rfl,
  fun _ _ _ _ _ _ _ => r_putfield (show zdec 207 54 = some (.putfield 26, 3) by decide +kernel) (show zft.lookup (207 * zKEY + 26) = some (12, 8) by decide +kernel) (by decide +kernel) rfl,
  fun _ _ _ _ _ => r_aload_nr (show zdec 207 57 = some (.aload_n 0, 1) by decide +kernel) rfl rfl,
  fun _ _ _ _ _ => r_bipush (show zdec 207 58 = some (.bipush 60, 2) by decide +kernel) rfl rfl,
  fun _ _ _ _ _ _ => r_newa (show zdec 207 60 = some (.newarray .char, 2) by decide +kernel) rfl rfl,
  fun _ _ _ _ _ _ _ => r_putfield (show zdec 207 62 = some (.putfield 30, 3) by decide +kernel) (show zft.lookup (207 * zKEY + 30) = some (12, 10) by decide +kernel) (by decide +kernel) rfl,
  fun _ _ _ _ _ => r_aload_nr (show zdec 207 65 = some (.aload_n 0, 1) by decide +kernel) rfl rfl,
  fun _ _ _ _ _ => r_iconst (show zdec 207 66 = some (.iconst 3, 1) by decide +kernel) rfl rfl,
  fun _ _ _ _ _ _ => r_newa (show zdec 207 67 = some (.newarray .int, 2) by decide +kernel) rfl rfl,
  fun _ _ _ _ _ _ _ => r_putfield (show zdec 207 69 = some (.putfield 33, 3) by decide +kernel) (show zft.lookup (207 * zKEY + 33) = some (12, 14) by decide +kernel) (by decide +kernel) rfl,
  fun _ _ _ _ _ => r_aload_nr (show zdec 207 72 = some (.aload_n 0, 1) by decide +kernel) rfl rfl,
  fun _ _ _ _ _ _ => r_getfield (show zdec 207 73 = some (.getfield 9, 3) by decide +kernel) (show zft.lookup (207 * zKEY + 9) = some (12, 0) by decide +kernel) rfl,
  fun _ _ _ _ _ => r_iconst (show zdec 207 76 = some (.iconst 5, 1) by decide +kernel) rfl rfl,
  fun _ _ _ _ _ => r_ldc2 (show zdec 207 77 = some (.ldc2_w 37, 3) by decide +kernel) (show zlt.lookup (207 * zKEY + 37) = some 99999 by decide +kernel) rfl,
  fun _ _ _ _ _ _ _ _ => r_last (show zdec 207 80 = some (.lastore, 1) by decide +kernel) rfl,
  fun _ _ _ _ _ => r_aload_nr (show zdec 207 81 = some (.aload_n 0, 1) by decide +kernel) rfl rfl,
  fun _ _ _ _ _ _ => r_getfield (show zdec 207 82 = some (.getfield 9, 3) by decide +kernel) (show zft.lookup (207 * zKEY + 9) = some (12, 0) by decide +kernel) rfl,
  fun _ _ _ _ _ => r_bipush (show zdec 207 85 = some (.bipush 6, 2) by decide +kernel) rfl rfl,
  fun _ _ _ _ _ => r_ldc2 (show zdec 207 87 = some (.ldc2_w 37, 3) by decide +kernel) (show zlt.lookup (207 * zKEY + 37) = some 99999 by decide +kernel) rfl,
  fun _ _ _ _ _ _ _ _ => r_last (show zdec 207 90 = some (.lastore, 1) by decide +kernel) rfl,
  fun _ _ _ _ _ => r_iconst (show zdec 207 91 = some (.iconst 0, 1) by decide +kernel) rfl rfl,
  fun _ _ _ _ _ _ => r_istore_n (show zdec 207 92 = some (.istore_n 1, 1) by decide +kernel) rfl rfl (Nat.le_of_ble_eq_true rfl) rfl rfl,
  fun _ _ _ _ _ => r_iconst (show zdec 207 94 = some (.iconst 3, 1) by decide +kernel) rfl rfl,
  fun _ _ _ _ _ _ _ => r_icmpge (show zdec 207 95 = some (.if_icmp .ge 39, 3) by decide +kernel) rfl rfl,
  fun _ _ _ _ _ => r_iconst (show zdec 207 98 = some (.iconst 0, 1) by decide +kernel) rfl rfl,
  fun _ _ _ _ _ _ => r_istore_n (show zdec 207 99 = some (.istore_n 2, 1) by decide +kernel) rfl rfl (Nat.le_of_ble_eq_true rfl) rfl rfl,
  fun _ _ _ _ _ => r_bipush (show zdec 207 101 = some (.bipush 12, 2) by decide +kernel) rfl rfl,
  fun _ _ _ _ _ _ _ => r_icmpge (show zdec 207 103 = some (.if_icmp .ge 25, 3) by decide +kernel) rfl rfl,
  fun _ _ _ _ _ => r_aload_nr (show zdec 207 106 = some (.aload_n 0, 1) by decide +kernel) rfl rfl,
  fun _ _ _ _ _ _ => r_getfield (show zdec 207 107 = some (.getfield 9, 3) by decide +kernel) (show zft.lookup (207 * zKEY + 9) = some (12, 0) by decide +kernel) rfl,
  fun _ _ _ _ _ => r_iload_n (show zdec 207 110 = some (.iload_n 1, 1) by decide +kernel) rfl rfl,
  fun _ _ _ _ _ => r_bipush (show zdec 207 111 = some (.bipush 14, 2) by decide +kernel) rfl rfl,
  fun _ _ _ _ _ => r_iload_n (show zdec 207 113 = some (.iload_n 2, 1) by decide +kernel) rfl rfl,
  fun _ _ _ _ _ _ _ => r_iadd (show zdec 207 114 = some (.iadd, 1) by decide +kernel) rfl,
  fun _ _ _ _ _ _ _ => r_cS [_, _] rfl (show zdec 207 115 = some (.invokestatic 39, 3) by decide +kernel) (show zst.lookup (207 * zKEY + 39) = some (0, 208, 2, 0) by decide +kernel) (by decide) rfl,
  fun _ _ _ _ _ => r_ldc2 (show zdec 207 118 = some (.ldc2_w 43, 3) by decide +kernel) (show zlt.lookup (207 * zKEY + 43) = some 30 by decide +kernel) rfl,
  fun _ _ _ _ _ _ _ _ => r_last (show zdec 207 121 = some (.lastore, 1) by decide +kernel) rfl,
  fun _ _ _ _ _ => r_iinc (show zdec 207 122 = some (.iinc 2 1, 3) by decide +kernel) rfl rfl rfl (Nat.le_of_ble_eq_true rfl) rfl rfl,
  fun _ _ _ _ _ => r_goto (show zdec 207 125 = some (.goto (-25), 3) by decide +kernel) rfl,
  fun _ _ _ _ _ => r_iinc (show zdec 207 128 = some (.iinc 1 1, 3) by decide +kernel) rfl rfl rfl (Nat.le_of_ble_eq_true rfl) rfl rfl,
  fun _ _ _ _ _ => r_goto (show zdec 207 131 = some (.goto (-38), 3) by decide +kernel) rfl,
  fun _ _ _ _ => r_vret (show zdec 207 134 = some (.return_, 1) by decide +kernel) (by decide +kernel)⟩
theorem zl_207_93 : ∀ (l0 l2 : Value) (x : Int32) (S : List Value) (h : zH), rn 207 93 [l0, .int x, l2] S h = rn 207 94 [l0, .int x, l2] (.int x :: S) h := fun _ _ _ _ _ => r_iload_n (show zdec 207 93 = some (.iload_n 1, 1) by decide +kernel) rfl rfl
theorem zl_207_100 : ∀ (l0 l1 : Value) (x : Int32) (S : List Value) (h : zH), rn 207 100 [l0, l1, .int x] S h = rn 207 101 [l0, l1, .int x] (.int x :: S) h := fun _ _ _ _ _ => r_iload_n (show zdec 207 100 = some (.iload_n 2, 1) by decide +kernel) rfl rfl
theorem ze_207 : ∀ (a0 : Nat) (h : zH), ev 207 [.ref a0] h = rn 207 0 [.ref a0, .float 0, .float 0] [] h := fun _ _ => if_pos (Nat.le_of_ble_eq_true rfl)
-- PayrollRunModel.closeMonth()I
theorem zr_232 : (∀ (x : Nat) (S : List Value) (h : zH), rn 232 0 [.ref x] S h = rn 232 1 [.ref x] (.ref x :: S) h) ∧
  (∀ (l0 : Value) (o : Nat) (S : List Value) (h : zH), rn 232 1 [l0] (.ref o :: S) h = if zkd h o = 12 ∧ zsum S ≤ 8 then zcall (ev 233 [.ref o] h) (fun v h => rn 232 4 [l0] (zpush v S) h) else none) ∧
  (∀ (l0 : Value) (S : List Value) (h : zH), rn 232 4 [l0] S h = rn 232 6 [l0] (.int (nI 12) :: S) h) ∧
  (∀ (l0 : Value) (x : Int32) (y : Int32) (S : List Value) (h : zH), rn 232 6 [l0] (.int y :: .int x :: S) h = if x = y then rn 232 9 [l0] S h else rn 232 12 [l0] S h) ∧
  (∀ (l0 : Value) (S : List Value) (h : zH), rn 232 9 [l0] S h = rn 232 11 [l0] (.int (-2) :: S) h) ∧
  (∀ (l0 : Value) (x : Int32) (h : zH), rn 232 11 [l0] [.int x] h = some (some (.int x), h)) ∧
  (∀ (x : Nat) (S : List Value) (h : zH), rn 232 12 [.ref x] S h = rn 232 13 [.ref x] (.ref x :: S) h) ∧
  (∀ (l0 : Value) (o : Nat) (S : List Value) (h : zH), rn 232 13 [l0] (.ref o :: S) h = if zkd h o = 12 ∧ zsum S ≤ 8 then zcall (ev 214 [.ref o] h) (fun v h => rn 232 16 [l0] (zpush v S) h) else none) ∧
  (∀ (x : Nat) (S : List Value) (h : zH), rn 232 16 [.ref x] S h = rn 232 17 [.ref x] (.ref x :: S) h) ∧
  (∀ (l0 : Value) (o : Nat) (S : List Value) (h : zH), rn 232 17 [l0] (.ref o :: S) h = if zkd h o = 12 ∧ zsum S ≤ 8 then zcall (ev 234 [.ref o] h) (fun v h => rn 232 20 [l0] (zpush v S) h) else none) ∧
  (∀ (l0 : Value) (x : Int32) (h : zH), rn 232 20 [l0] [.int x] h = some (some (.int x), h)) := ⟨fun _ _ _ => r_aload_nr (show zdec 232 0 = some (.aload_n 0, 1) by decide +kernel) rfl rfl,
  fun _ _ _ _ => r_cV [] rfl (show zdec 232 1 = some (.invokevirtual 164, 3) by decide +kernel) (show zst.lookup (232 * zKEY + 164) = some (1, 233, 0, 12) by decide +kernel) (by decide) rfl,
  fun _ _ _ => r_bipush (show zdec 232 4 = some (.bipush 12, 2) by decide +kernel) rfl rfl,
  fun _ _ _ _ _ => r_icmpne (show zdec 232 6 = some (.if_icmp .ne 6, 3) by decide +kernel) rfl rfl,
  fun _ _ _ => r_bipush (show zdec 232 9 = some (.bipush (-2), 2) by decide +kernel) rfl rfl,
  fun _ _ _ => r_ireti (show zdec 232 11 = some (.ireturn, 1) by decide +kernel) (by decide +kernel),
  fun _ _ _ => r_aload_nr (show zdec 232 12 = some (.aload_n 0, 1) by decide +kernel) rfl rfl,
  fun _ _ _ _ => r_cV [] rfl (show zdec 232 13 = some (.invokevirtual 68, 3) by decide +kernel) (show zst.lookup (232 * zKEY + 68) = some (1, 214, 0, 12) by decide +kernel) (by decide) rfl,
  fun _ _ _ => r_aload_nr (show zdec 232 16 = some (.aload_n 0, 1) by decide +kernel) rfl rfl,
  fun _ _ _ _ => r_cV [] rfl (show zdec 232 17 = some (.invokevirtual 171, 3) by decide +kernel) (show zst.lookup (232 * zKEY + 171) = some (1, 234, 0, 12) by decide +kernel) (by decide) rfl,
  fun _ _ _ => r_ireti (show zdec 232 20 = some (.ireturn, 1) by decide +kernel) (by decide +kernel)⟩
theorem ze_232 : ∀ (a0 : Nat) (h : zH), ev 232 [.ref a0] h = rn 232 0 [.ref a0] [] h := fun _ _ => if_pos (Nat.le_of_ble_eq_true rfl)
-- PayrollRunModel.close()I
theorem zr_234 : (∀ (l1 l2 : Value) (x : Nat) (S : List Value) (h : zH), rn 234 0 [.ref x, l1, l2] S h = rn 234 1 [.ref x, l1, l2] (.ref x :: S) h) ∧
  (∀ (l0 l1 l2 : Value) (o : Nat) (S : List Value) (h : zH), rn 234 1 [l0, l1, l2] (.ref o :: S) h = if zkd h o = 12 ∧ zsum S ≤ 8 then zcall (ev 233 [.ref o] h) (fun v h => rn 234 4 [l0, l1, l2] (zpush v S) h) else none) ∧
  (∀ (l0 l1 l2 : Value) (x : Int32) (S : List Value) (h : zH), rn 234 4 [l0, l1, l2] (.int x :: S) h = nl l0 (rn 234 5 [l0, .int x, l2] S h)) ∧
  (∀ (l0 l1 l2 : Value) (S : List Value) (h : zH), rn 234 5 [l0, l1, l2] S h = rn 234 6 [l0, l1, l2] (.int (nI 0) :: S) h) ∧
  (∀ (l0 l1 l2 : Value) (x : Int32) (S : List Value) (h : zH), rn 234 6 [l0, l1, l2] (.int x :: S) h = nl l1 (rn 234 7 [l0, l1, .int x] S h)) ∧
  (∀ (l0 l1 l2 : Value) (S : List Value) (h : zH), rn 234 8 [l0, l1, l2] S h = rn 234 9 [l0, l1, l2] (.int (nI 3) :: S) h) ∧
  (∀ (l0 l1 l2 : Value) (x : Int32) (y : Int32) (S : List Value) (h : zH), rn 234 9 [l0, l1, l2] (.int y :: .int x :: S) h = if y ≤ x then rn 234 24 [l0, l1, l2] S h else rn 234 12 [l0, l1, l2] S h) ∧
  (∀ (l1 l2 : Value) (x : Nat) (S : List Value) (h : zH), rn 234 12 [.ref x, l1, l2] S h = rn 234 13 [.ref x, l1, l2] (.ref x :: S) h) ∧
  (∀ (l0 l1 : Value) (x : Int32) (S : List Value) (h : zH), rn 234 13 [l0, l1, .int x] S h = rn 234 14 [l0, l1, .int x] (.int x :: S) h) ∧
  (∀ (l0 l2 : Value) (x : Int32) (S : List Value) (h : zH), rn 234 14 [l0, .int x, l2] S h = rn 234 15 [l0, .int x, l2] (.int x :: S) h) ∧
  (∀ (l0 l1 l2 : Value) (o : Nat) (v0 : Value) (v1 : Value) (S : List Value) (h : zH), rn 234 15 [l0, l1, l2] (v1 :: v0 :: .ref o :: S) h = if zkd h o = 12 ∧ zsum S ≤ 8 then zcall (ev 235 [.ref o, v0, v1] h) (fun v h => rn 234 18 [l0, l1, l2] (zpush v S) h) else none) ∧
  (∀ (l0 l1 : Value) (x : Int32) (S : List Value) (h : zH), rn 234 18 [l0, l1, .int x] S h = nl l1 (rn 234 21 [l0, l1, .int (x + (nI 1))] S h)) ∧
  (∀ (l0 l1 l2 : Value) (S : List Value) (h : zH), rn 234 21 [l0, l1, l2] S h = rn 234 7 [l0, l1, l2] S h) ∧
  (∀ (l1 l2 : Value) (x : Nat) (S : List Value) (h : zH), rn 234 24 [.ref x, l1, l2] S h = rn 234 25 [.ref x, l1, l2] (.ref x :: S) h) ∧
  (∀ (l0 l1 l2 : Value) (a : Nat) (S : List Value) (h : zH), rn 234 25 [l0, l1, l2] (.ref a :: S) h = zgf h a 12 0 fun v => rn 234 28 [l0, l1, l2] (v :: S) h) ∧
  (∀ (l0 l1 l2 : Value) (S : List Value) (h : zH), rn 234 28 [l0, l1, l2] S h = rn 234 29 [l0, l1, l2] (.int (nI 0) :: S) h) ∧
  (∀ (l0 l1 l2 : Value) (v : Value) (w : Value) (S : List Value) (h : zH), rn 234 29 [l0, l1, l2] (v :: w :: S) h = c1 v (c1 w (rn 234 30 [l0, l1, l2] (v :: w :: v :: w :: S) h))) ∧
  (∀ (l0 l1 l2 : Value) (a : Nat) (j : Int32) (S : List Value) (h : zH), rn 234 30 [l0, l1, l2] (.int j :: .ref a :: S) h = zlj h a j fun x => rn 234 31 [l0, l1, l2] (.long x :: S) h) ∧
  (∀ (l0 l1 l2 : Value) (S : List Value) (h : zH), rn 234 31 [l0, l1, l2] S h = rn 234 32 [l0, l1, l2] (.long 1 :: S) h) ∧
  (∀ (l0 l1 l2 : Value) (x : Int64) (y : Int64) (S : List Value) (h : zH), rn 234 32 [l0, l1, l2] (.long y :: .long x :: S) h = rn 234 33 [l0, l1, l2] (.long (x + y) :: S) h) ∧
  (∀ (l0 l1 l2 : Value) (a : Nat) (j : Int32) (x : Int64) (S : List Value) (h : zH), rn 234 33 [l0, l1, l2] (.long x :: .int j :: .ref a :: S) h = zsj h a j x fun h => rn 234 34 [l0, l1, l2] S h) ∧
  (∀ (l0 l2 : Value) (x : Int32) (S : List Value) (h : zH), rn 234 34 [l0, .int x, l2] S h = rn 234 35 [l0, .int x, l2] (.int x :: S) h) ∧
  (∀ (l0 l1 l2 : Value) (x : Int32) (h : zH), rn 234 35 [l0, l1, l2] [.int x] h = some (some (.int x), h)) := ⟨fun _ _ _ _ _ => r_aload_nr (show zdec 234 0 = some (.aload_n 0, 1) by decide +kernel) rfl rfl,
  fun _ _ _ _ _ _ => r_cV [] rfl (show zdec 234 1 = some (.invokevirtual 164, 3) by decide +kernel) (show zst.lookup (234 * zKEY + 164) = some (1, 233, 0, 12) by decide +kernel) (by decide) rfl,
  fun _ _ _ _ _ _ => r_istore_n (show zdec 234 4 = some (.istore_n 1, 1) by decide +kernel) rfl rfl (Nat.le_of_ble_eq_true rfl) rfl rfl,
  fun _ _ _ _ _ => r_iconst (show zdec 234 5 = some (.iconst 0, 1) by decide +kernel) rfl rfl,
  fun _ _ _ _ _ _ => r_istore_n (show zdec 234 6 = some (.istore_n 2, 1) by decide +kernel) rfl rfl (Nat.le_of_ble_eq_true rfl) rfl rfl,
  fun _ _ _ _ _ => r_iconst (show zdec 234 8 = some (.iconst 3, 1) by decide +kernel) rfl rfl,
  fun _ _ _ _ _ _ _ => r_icmpge (show zdec 234 9 = some (.if_icmp .ge 15, 3) by decide +kernel) rfl rfl,
  fun _ _ _ _ _ => r_aload_nr (show zdec 234 12 = some (.aload_n 0, 1) by decide +kernel) rfl rfl,
  fun _ _ _ _ _ => r_iload_n (show zdec 234 13 = some (.iload_n 2, 1) by decide +kernel) rfl rfl,
  fun _ _ _ _ _ => r_iload_n (show zdec 234 14 = some (.iload_n 1, 1) by decide +kernel) rfl rfl,
  fun _ _ _ _ _ _ _ _ => r_cV [_, _] rfl (show zdec 234 15 = some (.invokevirtual 168, 3) by decide +kernel) (show zst.lookup (234 * zKEY + 168) = some (1, 235, 2, 12) by decide +kernel) (by decide) rfl,
  fun _ _ _ _ _ => r_iinc (show zdec 234 18 = some (.iinc 2 1, 3) by decide +kernel) rfl rfl rfl (Nat.le_of_ble_eq_true rfl) rfl rfl,
  fun _ _ _ _ _ => r_goto (show zdec 234 21 = some (.goto (-14), 3) by decide +kernel) rfl,
  fun _ _ _ _ _ => r_aload_nr (show zdec 234 24 = some (.aload_n 0, 1) by decide +kernel) rfl rfl,
  fun _ _ _ _ _ _ => r_getfield (show zdec 234 25 = some (.getfield 9, 3) by decide +kernel) (show zft.lookup (234 * zKEY + 9) = some (12, 0) by decide +kernel) rfl,
  fun _ _ _ _ _ => r_iconst (show zdec 234 28 = some (.iconst 0, 1) by decide +kernel) rfl rfl,
  fun _ _ _ _ _ _ _ => r_dup2 (show zdec 234 29 = some (.dup2, 1) by decide +kernel) rfl,
  fun _ _ _ _ _ _ _ => r_lald (show zdec 234 30 = some (.laload, 1) by decide +kernel) rfl,
  fun _ _ _ _ _ => r_lconst (show zdec 234 31 = some (.lconst 1, 1) by decide +kernel) rfl rfl,
  fun _ _ _ _ _ _ _ => r_ladd (show zdec 234 32 = some (.ladd, 1) by decide +kernel) rfl,
  fun _ _ _ _ _ _ _ _ => r_last (show zdec 234 33 = some (.lastore, 1) by decide +kernel) rfl,
  fun _ _ _ _ _ => r_iload_n (show zdec 234 34 = some (.iload_n 1, 1) by decide +kernel) rfl rfl,
  fun _ _ _ _ _ => r_ireti (show zdec 234 35 = some (.ireturn, 1) by decide +kernel) (by decide +kernel)⟩
theorem zl_234_7 : ∀ (l0 l1 : Value) (x : Int32) (S : List Value) (h : zH), rn 234 7 [l0, l1, .int x] S h = rn 234 8 [l0, l1, .int x] (.int x :: S) h := fun _ _ _ _ _ => r_iload_n (show zdec 234 7 = some (.iload_n 2, 1) by decide +kernel) rfl rfl
theorem ze_234 : ∀ (a0 : Nat) (h : zH), ev 234 [.ref a0] h = rn 234 0 [.ref a0, .float 0, .float 0] [] h := fun _ _ => if_pos (Nat.le_of_ble_eq_true rfl)
-- PayrollRunModel.closeFor(II)V
theorem zr_235 : (∀ (l1 l2 l3 l4 l5 l6 l7 l8 : Value) (x : Nat) (S : List Value) (h : zH), rn 235 0 [.ref x, l1, l2, l3, l4, l5, l6, l7, l8] S h = rn 235 1 [.ref x, l1, l2, l3, l4, l5, l6, l7, l8] (.ref x :: S) h) ∧
  (∀ (l0 l2 l3 l4 l5 l6 l7 l8 : Value) (x : Int32) (S : List Value) (h : zH), rn 235 1 [l0, .int x, l2, l3, l4, l5, l6, l7, l8] S h = rn 235 2 [l0, .int x, l2, l3, l4, l5, l6, l7, l8] (.int x :: S) h) ∧
  (∀ (l0 l1 l3 l4 l5 l6 l7 l8 : Value) (x : Int32) (S : List Value) (h : zH), rn 235 2 [l0, l1, .int x, l3, l4, l5, l6, l7, l8] S h = rn 235 3 [l0, l1, .int x, l3, l4, l5, l6, l7, l8] (.int x :: S) h) ∧
  (∀ (l0 l1 l2 l3 l4 l5 l6 l7 l8 : Value) (o : Nat) (v0 : Value) (v1 : Value) (S : List Value) (h : zH), rn 235 3 [l0, l1, l2, l3, l4, l5, l6, l7, l8] (v1 :: v0 :: .ref o :: S) h = if zkd h o = 12 ∧ zsum S ≤ 8 then zcall (ev 236 [.ref o, v0, v1] h) (fun v h => rn 235 6 [l0, l1, l2, l3, l4, l5, l6, l7, l8] (zpush v S) h) else none) ∧
  (∀ (l1 l2 l3 l4 l5 l6 l7 l8 : Value) (x : Nat) (S : List Value) (h : zH), rn 235 6 [.ref x, l1, l2, l3, l4, l5, l6, l7, l8] S h = rn 235 7 [.ref x, l1, l2, l3, l4, l5, l6, l7, l8] (.ref x :: S) h) ∧
  (∀ (l0 l2 l3 l4 l5 l6 l7 l8 : Value) (x : Int32) (S : List Value) (h : zH), rn 235 7 [l0, .int x, l2, l3, l4, l5, l6, l7, l8] S h = rn 235 8 [l0, .int x, l2, l3, l4, l5, l6, l7, l8] (.int x :: S) h) ∧
  (∀ (l0 l1 l2 l3 l4 l5 l6 l7 l8 : Value) (S : List Value) (h : zH), rn 235 8 [l0, l1, l2, l3, l4, l5, l6, l7, l8] S h = rn 235 9 [l0, l1, l2, l3, l4, l5, l6, l7, l8] (.int (nI 1) :: S) h) ∧
  (∀ (l0 l1 l2 l3 l4 l5 l6 l7 l8 : Value) (o : Nat) (v0 : Value) (v1 : Value) (S : List Value) (h : zH), rn 235 9 [l0, l1, l2, l3, l4, l5, l6, l7, l8] (v1 :: v0 :: .ref o :: S) h = if zkd h o = 12 ∧ zsum S ≤ 8 then zcall (ev 226 [.ref o, v0, v1] h) (fun v h => rn 235 12 [l0, l1, l2, l3, l4, l5, l6, l7, l8] (zpush v S) h) else none) ∧
  (∀ (l0 l1 l2 l3 l4 l5 l6 l7 l8 : Value) (S : List Value) (h : zH), rn 235 12 [l0, l1, l2, l3, l4, l5, l6, l7, l8] S h = rn 235 13 [l0, l1, l2, l3, l4, l5, l6, l7, l8] (.long 0 :: S) h) ∧
  (∀ (l0 l1 l2 l3 l4 l5 l6 l7 l8 : Value) (x : Int64) (y : Int64) (S : List Value) (h : zH), rn 235 13 [l0, l1, l2, l3, l4, l5, l6, l7, l8] (.long y :: .long x :: S) h = rn 235 14 [l0, l1, l2, l3, l4, l5, l6, l7, l8] (.int (lg_cmp x y) :: S) h) ∧
  (∀ (l0 l1 l2 l3 l4 l5 l6 l7 l8 : Value) (x : Int32) (S : List Value) (h : zH), rn 235 14 [l0, l1, l2, l3, l4, l5, l6, l7, l8] (.int x :: S) h = if x = nI 0 then rn 235 33 [l0, l1, l2, l3, l4, l5, l6, l7, l8] S h else rn 235 17 [l0, l1, l2, l3, l4, l5, l6, l7, l8] S h) ∧
  (∀ (l1 l2 l3 l4 l5 l6 l7 l8 : Value) (x : Nat) (S : List Value) (h : zH), rn 235 17 [.ref x, l1, l2, l3, l4, l5, l6, l7, l8] S h = rn 235 18 [.ref x, l1, l2, l3, l4, l5, l6, l7, l8] (.ref x :: S) h) ∧
  (∀ (l0 l2 l3 l4 l5 l6 l7 l8 : Value) (x : Int32) (S : List Value) (h : zH), rn 235 18 [l0, .int x, l2, l3, l4, l5, l6, l7, l8] S h = rn 235 19 [l0, .int x, l2, l3, l4, l5, l6, l7, l8] (.int x :: S) h) ∧
  (∀ (l0 l1 l3 l4 l5 l6 l7 l8 : Value) (x : Int32) (S : List Value) (h : zH), rn 235 19 [l0, l1, .int x, l3, l4, l5, l6, l7, l8] S h = rn 235 20 [l0, l1, .int x, l3, l4, l5, l6, l7, l8] (.int x :: S) h) ∧
  (∀ (l0 l1 l2 l3 l4 l5 l6 l7 l8 : Value) (S : List Value) (h : zH), rn 235 20 [l0, l1, l2, l3, l4, l5, l6, l7, l8] S h = rn 235 21 [l0, l1, l2, l3, l4, l5, l6, l7, l8] (.int (nI 4) :: S) h) ∧
  (∀ (l0 l1 l2 l3 l4 l5 l6 l7 l8 : Value) (S : List Value) (h : zH), rn 235 21 [l0, l1, l2, l3, l4, l5, l6, l7, l8] S h = rn 235 22 [l0, l1, l2, l3, l4, l5, l6, l7, l8] (.int (nI 0) :: S) h) ∧
  (∀ (l0 l1 l2 l3 l4 l5 l6 l7 l8 : Value) (S : List Value) (h : zH), rn 235 22 [l0, l1, l2, l3, l4, l5, l6, l7, l8] S h = rn 235 23 [l0, l1, l2, l3, l4, l5, l6, l7, l8] (.int (nI 0) :: S) h) ∧
  (∀ (l1 l2 l3 l4 l5 l6 l7 l8 : Value) (x : Nat) (S : List Value) (h : zH), rn 235 23 [.ref x, l1, l2, l3, l4, l5, l6, l7, l8] S h = rn 235 24 [.ref x, l1, l2, l3, l4, l5, l6, l7, l8] (.ref x :: S) h) ∧
  (∀ (l0 l2 l3 l4 l5 l6 l7 l8 : Value) (x : Int32) (S : List Value) (h : zH), rn 235 24 [l0, .int x, l2, l3, l4, l5, l6, l7, l8] S h = rn 235 25 [l0, .int x, l2, l3, l4, l5, l6, l7, l8] (.int x :: S) h) ∧
  (∀ (l0 l1 l2 l3 l4 l5 l6 l7 l8 : Value) (S : List Value) (h : zH), rn 235 25 [l0, l1, l2, l3, l4, l5, l6, l7, l8] S h = rn 235 26 [l0, l1, l2, l3, l4, l5, l6, l7, l8] (.int (nI 1) :: S) h) ∧
  (∀ (l0 l1 l2 l3 l4 l5 l6 l7 l8 : Value) (o : Nat) (v0 : Value) (v1 : Value) (S : List Value) (h : zH), rn 235 26 [l0, l1, l2, l3, l4, l5, l6, l7, l8] (v1 :: v0 :: .ref o :: S) h = if zkd h o = 12 ∧ zsum S ≤ 8 then zcall (ev 226 [.ref o, v0, v1] h) (fun v h => rn 235 29 [l0, l1, l2, l3, l4, l5, l6, l7, l8] (zpush v S) h) else none) ∧
  (∀ (l0 l1 l2 l3 l4 l5 l6 l7 l8 : Value) (x : Int64) (S : List Value) (h : zH), rn 235 29 [l0, l1, l2, l3, l4, l5, l6, l7, l8] (.long x :: S) h = rn 235 30 [l0, l1, l2, l3, l4, l5, l6, l7, l8] (.long (-x) :: S) h) ∧
  (∀ (l0 l1 l2 l3 l4 l5 l6 l7 l8 : Value) (o : Nat) (v0 : Value) (v1 : Value) (v2 : Value) (v3 : Value) (v4 : Value) (v5 : Value) (S : List Value) (h : zH), rn 235 30 [l0, l1, l2, l3, l4, l5, l6, l7, l8] (v5 :: v4 :: v3 :: v2 :: v1 :: v0 :: .ref o :: S) h = if zkd h o = 12 ∧ zsum S ≤ 8 then zcall (ev 243 [.ref o, v0, v1, v2, v3, v4, v5] h) (fun v h => rn 235 33 [l0, l1, l2, l3, l4, l5, l6, l7, l8] (zpush v S) h) else none) ∧
  (∀ (l1 l2 l3 l4 l5 l6 l7 l8 : Value) (x : Nat) (S : List Value) (h : zH), rn 235 33 [.ref x, l1, l2, l3, l4, l5, l6, l7, l8] S h = rn 235 34 [.ref x, l1, l2, l3, l4, l5, l6, l7, l8] (.ref x :: S) h) ∧
  (∀ (l0 l2 l3 l4 l5 l6 l7 l8 : Value) (x : Int32) (S : List Value) (h : zH), rn 235 34 [l0, .int x, l2, l3, l4, l5, l6, l7, l8] S h = rn 235 35 [l0, .int x, l2, l3, l4, l5, l6, l7, l8] (.int x :: S) h) ∧
  (∀ (l0 l1 l3 l4 l5 l6 l7 l8 : Value) (x : Int32) (S : List Value) (h : zH), rn 235 35 [l0, l1, .int x, l3, l4, l5, l6, l7, l8] S h = rn 235 36 [l0, l1, .int x, l3, l4, l5, l6, l7, l8] (.int x :: S) h) ∧
  (∀ (l0 l1 l2 l3 l4 l5 l6 l7 l8 : Value) (o : Nat) (v0 : Value) (v1 : Value) (S : List Value) (h : zH), rn 235 36 [l0, l1, l2, l3, l4, l5, l6, l7, l8] (v1 :: v0 :: .ref o :: S) h = if zkd h o = 12 ∧ zsum S ≤ 8 then zcall (ev 248 [.ref o, v0, v1] h) (fun v h => rn 235 39 [l0, l1, l2, l3, l4, l5, l6, l7, l8] (zpush v S) h) else none) ∧
  (∀ (l0 l1 l2 l3 l4 l5 l6 l7 l8 : Value) (x : Int64) (S : List Value) (h : zH), rn 235 39 [l0, l1, l2, l3, l4, l5, l6, l7, l8] (.long x :: S) h = nl l2 (rn 235 40 [l0, l1, l2, .long x, .float 0, l5, l6, l7, l8] S h)) ∧
  (∀ (l1 l2 l3 l4 l5 l6 l7 l8 : Value) (x : Nat) (S : List Value) (h : zH), rn 235 40 [.ref x, l1, l2, l3, l4, l5, l6, l7, l8] S h = rn 235 41 [.ref x, l1, l2, l3, l4, l5, l6, l7, l8] (.ref x :: S) h) ∧
  (∀ (l0 l2 l3 l4 l5 l6 l7 l8 : Value) (x : Int32) (S : List Value) (h : zH), rn 235 41 [l0, .int x, l2, l3, l4, l5, l6, l7, l8] S h = rn 235 42 [l0, .int x, l2, l3, l4, l5, l6, l7, l8] (.int x :: S) h) ∧
  (∀ (l0 l1 l2 l3 l4 l5 l6 l7 l8 : Value) (S : List Value) (h : zH), rn 235 42 [l0, l1, l2, l3, l4, l5, l6, l7, l8] S h = rn 235 43 [l0, l1, l2, l3, l4, l5, l6, l7, l8] (.int (nI 0) :: S) h) ∧
  (∀ (l0 l1 l2 l3 l4 l5 l6 l7 l8 : Value) (o : Nat) (v0 : Value) (v1 : Value) (S : List Value) (h : zH), rn 235 43 [l0, l1, l2, l3, l4, l5, l6, l7, l8] (v1 :: v0 :: .ref o :: S) h = if zkd h o = 12 ∧ zsum S ≤ 8 then zcall (ev 226 [.ref o, v0, v1] h) (fun v h => rn 235 46 [l0, l1, l2, l3, l4, l5, l6, l7, l8] (zpush v S) h) else none) ∧
  (∀ (l0 l1 l2 l3 l4 l5 l6 l7 l8 : Value) (S : List Value) (h : zH), rn 235 46 [l0, l1, l2, l3, l4, l5, l6, l7, l8] S h = rn 235 49 [l0, l1, l2, l3, l4, l5, l6, l7, l8] (.long (1000000) :: S) h) ∧
  (∀ (l0 l1 l2 l3 l4 l5 l6 l7 l8 : Value) (x : Int64) (y : Int64) (S : List Value) (h : zH), rn 235 49 [l0, l1, l2, l3, l4, l5, l6, l7, l8] (.long y :: .long x :: S) h = rn 235 50 [l0, l1, l2, l3, l4, l5, l6, l7, l8] (.long (x * y) :: S) h) ∧
  (∀ (l0 l1 l2 l3 l4 l5 l6 l7 l8 : Value) (x : Int64) (S : List Value) (h : zH), rn 235 50 [l0, l1, l2, l3, l4, l5, l6, l7, l8] (.long x :: S) h = nl l4 (rn 235 52 [l0, l1, l2, l3, l4, .long x, .float 0, l7, l8] S h)) ∧
  (∀ (l0 l1 l2 l3 l4 l6 l7 l8 : Value) (x : Int64) (S : List Value) (h : zH), rn 235 52 [l0, l1, l2, l3, l4, .long x, l6, l7, l8] S h = rn 235 54 [l0, l1, l2, l3, l4, .long x, l6, l7, l8] (.long x :: S) h) ∧
  (∀ (l1 l2 l3 l4 l5 l6 l7 l8 : Value) (x : Nat) (S : List Value) (h : zH), rn 235 54 [.ref x, l1, l2, l3, l4, l5, l6, l7, l8] S h = rn 235 55 [.ref x, l1, l2, l3, l4, l5, l6, l7, l8] (.ref x :: S) h) ∧
  (∀ (l0 l2 l3 l4 l5 l6 l7 l8 : Value) (x : Int32) (S : List Value) (h : zH), rn 235 55 [l0, .int x, l2, l3, l4, l5, l6, l7, l8] S h = rn 235 56 [l0, .int x, l2, l3, l4, l5, l6, l7, l8] (.int x :: S) h) ∧
  (∀ (l0 l1 l3 l4 l5 l6 l7 l8 : Value) (x : Int32) (S : List Value) (h : zH), rn 235 56 [l0, l1, .int x, l3, l4, l5, l6, l7, l8] S h = rn 235 57 [l0, l1, .int x, l3, l4, l5, l6, l7, l8] (.int x :: S) h) ∧
  (∀ (l0 l1 l2 l3 l4 l5 l6 l7 l8 : Value) (S : List Value) (h : zH), rn 235 57 [l0, l1, l2, l3, l4, l5, l6, l7, l8] S h = rn 235 58 [l0, l1, l2, l3, l4, l5, l6, l7, l8] (.int (nI 4) :: S) h) ∧
  (∀ (l0 l1 l2 l3 l4 l5 l6 l7 l8 : Value) (o : Nat) (v0 : Value) (v1 : Value) (v2 : Value) (S : List Value) (h : zH), rn 235 58 [l0, l1, l2, l3, l4, l5, l6, l7, l8] (v2 :: v1 :: v0 :: .ref o :: S) h = if zkd h o = 12 ∧ zsum S ≤ 8 then zcall (ev 237 [.ref o, v0, v1, v2] h) (fun v h => rn 235 61 [l0, l1, l2, l3, l4, l5, l6, l7, l8] (zpush v S) h) else none) ∧
  (∀ (l0 l1 l2 l3 l4 l5 l6 l7 l8 : Value) (x : Int64) (y : Int64) (S : List Value) (h : zH), rn 235 61 [l0, l1, l2, l3, l4, l5, l6, l7, l8] (.long y :: .long x :: S) h = if zsum S ≤ 8 then rn 235 64 [l0, l1, l2, l3, l4, l5, l6, l7, l8] (.long (if y < x then y else x) :: S) h else none) ∧
  (∀ (l0 l1 l2 l3 l4 l5 l6 l7 l8 : Value) (x : Int64) (S : List Value) (h : zH), rn 235 64 [l0, l1, l2, l3, l4, l5, l6, l7, l8] (.long x :: S) h = nl l6 (rn 235 66 [l0, l1, l2, l3, l4, l5, l6, .long x, .float 0] S h)) ∧
  (∀ (l1 l2 l3 l4 l5 l6 l7 l8 : Value) (x : Nat) (S : List Value) (h : zH), rn 235 66 [.ref x, l1, l2, l3, l4, l5, l6, l7, l8] S h = rn 235 67 [.ref x, l1, l2, l3, l4, l5, l6, l7, l8] (.ref x :: S) h) ∧
  (∀ (l0 l1 l2 l3 l4 l5 l6 l7 l8 : Value) (a : Nat) (S : List Value) (h : zH), rn 235 67 [l0, l1, l2, l3, l4, l5, l6, l7, l8] (.ref a :: S) h = zgf h a 12 0 fun v => rn 235 70 [l0, l1, l2, l3, l4, l5, l6, l7, l8] (v :: S) h) ∧
  (∀ (l0 l2 l3 l4 l5 l6 l7 l8 : Value) (x : Int32) (S : List Value) (h : zH), rn 235 70 [l0, .int x, l2, l3, l4, l5, l6, l7, l8] S h = rn 235 71 [l0, .int x, l2, l3, l4, l5, l6, l7, l8] (.int x :: S) h) ∧
  (∀ (l0 l1 l2 l3 l4 l5 l6 l7 l8 : Value) (S : List Value) (h : zH), rn 235 71 [l0, l1, l2, l3, l4, l5, l6, l7, l8] S h = rn 235 72 [l0, l1, l2, l3, l4, l5, l6, l7, l8] (.int (nI 1) :: S) h) ∧
  (∀ (l0 l1 l2 l3 l4 l5 l6 l7 l8 : Value) (v0 : Value) (v1 : Value) (S : List Value) (h : zH), rn 235 72 [l0, l1, l2, l3, l4, l5, l6, l7, l8] (v1 :: v0 :: S) h = if zsum S ≤ 8 then zcall (ev 208 [v0, v1] h) (fun v h => rn 235 75 [l0, l1, l2, l3, l4, l5, l6, l7, l8] (zpush v S) h) else none) ∧
  (∀ (l0 l1 l2 l3 l4 l5 l6 l7 l8 : Value) (S : List Value) (h : zH), rn 235 75 [l0, l1, l2, l3, l4, l5, l6, l7, l8] S h = rn 235 76 [l0, l1, l2, l3, l4, l5, l6, l7, l8] (.long 0 :: S) h) ∧
  (∀ (l0 l1 l2 l3 l4 l5 l6 l8 : Value) (x : Int64) (S : List Value) (h : zH), rn 235 76 [l0, l1, l2, l3, l4, l5, l6, .long x, l8] S h = rn 235 78 [l0, l1, l2, l3, l4, l5, l6, .long x, l8] (.long x :: S) h) ∧
  (∀ (l0 l1 l2 l4 l5 l6 l7 l8 : Value) (x : Int64) (S : List Value) (h : zH), rn 235 78 [l0, l1, l2, .long x, l4, l5, l6, l7, l8] S h = rn 235 79 [l0, l1, l2, .long x, l4, l5, l6, l7, l8] (.long x :: S) h) ∧
  (∀ (l0 l1 l2 l3 l4 l5 l6 l7 l8 : Value) (x : Int64) (y : Int64) (S : List Value) (h : zH), rn 235 79 [l0, l1, l2, l3, l4, l5, l6, l7, l8] (.long y :: .long x :: S) h = rn 235 80 [l0, l1, l2, l3, l4, l5, l6, l7, l8] (.long (x - y) :: S) h) ∧
  (∀ (l0 l1 l2 l3 l4 l5 l6 l7 l8 : Value) (x : Int64) (y : Int64) (S : List Value) (h : zH), rn 235 80 [l0, l1, l2, l3, l4, l5, l6, l7, l8] (.long y :: .long x :: S) h = if zsum S ≤ 8 then rn 235 83 [l0, l1, l2, l3, l4, l5, l6, l7, l8] (.long (if y < x then x else y) :: S) h else none) ∧
  (∀ (l0 l1 l2 l3 l4 l5 l6 l7 l8 : Value) (a : Nat) (j : Int32) (x : Int64) (S : List Value) (h : zH), rn 235 83 [l0, l1, l2, l3, l4, l5, l6, l7, l8] (.long x :: .int j :: .ref a :: S) h = zsj h a j x fun h => rn 235 84 [l0, l1, l2, l3, l4, l5, l6, l7, l8] S h) ∧
  (∀ (l1 l2 l3 l4 l5 l6 l7 l8 : Value) (x : Nat) (S : List Value) (h : zH), rn 235 84 [.ref x, l1, l2, l3, l4, l5, l6, l7, l8] S h = rn 235 85 [.ref x, l1, l2, l3, l4, l5, l6, l7, l8] (.ref x :: S) h) ∧
  (∀ (l0 l2 l3 l4 l5 l6 l7 l8 : Value) (x : Int32) (S : List Value) (h : zH), rn 235 85 [l0, .int x, l2, l3, l4, l5, l6, l7, l8] S h = rn 235 86 [l0, .int x, l2, l3, l4, l5, l6, l7, l8] (.int x :: S) h) ∧
  (∀ (l0 l1 l3 l4 l5 l6 l7 l8 : Value) (x : Int32) (S : List Value) (h : zH), rn 235 86 [l0, l1, .int x, l3, l4, l5, l6, l7, l8] S h = rn 235 87 [l0, l1, .int x, l3, l4, l5, l6, l7, l8] (.int x :: S) h) ∧
  (∀ (l0 l1 l2 l3 l4 l5 l6 l7 l8 : Value) (S : List Value) (h : zH), rn 235 87 [l0, l1, l2, l3, l4, l5, l6, l7, l8] S h = rn 235 88 [l0, l1, l2, l3, l4, l5, l6, l7, l8] (.long 0 :: S) h) ∧
  (∀ (l0 l1 l2 l4 l5 l6 l7 l8 : Value) (x : Int64) (S : List Value) (h : zH), rn 235 88 [l0, l1, l2, .long x, l4, l5, l6, l7, l8] S h = rn 235 89 [l0, l1, l2, .long x, l4, l5, l6, l7, l8] (.long x :: S) h) ∧
  (∀ (l0 l1 l2 l3 l4 l5 l6 l8 : Value) (x : Int64) (S : List Value) (h : zH), rn 235 89 [l0, l1, l2, l3, l4, l5, l6, .long x, l8] S h = rn 235 91 [l0, l1, l2, l3, l4, l5, l6, .long x, l8] (.long x :: S) h) ∧
  (∀ (l0 l1 l2 l3 l4 l5 l6 l7 l8 : Value) (x : Int64) (y : Int64) (S : List Value) (h : zH), rn 235 91 [l0, l1, l2, l3, l4, l5, l6, l7, l8] (.long y :: .long x :: S) h = if zsum S ≤ 8 then rn 235 94 [l0, l1, l2, l3, l4, l5, l6, l7, l8] (.long (if y < x then x else y) :: S) h else none) ∧
  (∀ (l0 l1 l2 l3 l4 l6 l7 l8 : Value) (x : Int64) (S : List Value) (h : zH), rn 235 94 [l0, l1, l2, l3, l4, .long x, l6, l7, l8] S h = rn 235 96 [l0, l1, l2, l3, l4, .long x, l6, l7, l8] (.long x :: S) h) ∧
  (∀ (l0 l1 l2 l3 l4 l5 l6 l7 l8 : Value) (x : Int64) (y : Int64) (S : List Value) (h : zH), rn 235 96 [l0, l1, l2, l3, l4, l5, l6, l7, l8] (.long y :: .long x :: S) h = rn 235 97 [l0, l1, l2, l3, l4, l5, l6, l7, l8] (.long (x - y) :: S) h) ∧
  (∀ (l0 l1 l2 l3 l4 l5 l6 l7 l8 : Value) (x : Int64) (y : Int64) (S : List Value) (h : zH), rn 235 97 [l0, l1, l2, l3, l4, l5, l6, l7, l8] (.long y :: .long x :: S) h = if zsum S ≤ 8 then rn 235 100 [l0, l1, l2, l3, l4, l5, l6, l7, l8] (.long (if y < x then x else y) :: S) h else none) ∧
  (∀ (l0 l1 l2 l3 l4 l5 l6 l7 l8 : Value) (o : Nat) (v0 : Value) (v1 : Value) (v2 : Value) (S : List Value) (h : zH), rn 235 100 [l0, l1, l2, l3, l4, l5, l6, l7, l8] (v2 :: v1 :: v0 :: .ref o :: S) h = if zkd h o = 12 ∧ zsum S ≤ 8 then zcall (ev 249 [.ref o, v0, v1, v2] h) (fun v h => rn 235 103 [l0, l1, l2, l3, l4, l5, l6, l7, l8] (zpush v S) h) else none) ∧
  (∀ (l1 l2 l3 l4 l5 l6 l7 l8 : Value) (x : Nat) (S : List Value) (h : zH), rn 235 103 [.ref x, l1, l2, l3, l4, l5, l6, l7, l8] S h = rn 235 104 [.ref x, l1, l2, l3, l4, l5, l6, l7, l8] (.ref x :: S) h) ∧
  (∀ (l0 l2 l3 l4 l5 l6 l7 l8 : Value) (x : Int32) (S : List Value) (h : zH), rn 235 104 [l0, .int x, l2, l3, l4, l5, l6, l7, l8] S h = rn 235 105 [l0, .int x, l2, l3, l4, l5, l6, l7, l8] (.int x :: S) h) ∧
  (∀ (l0 l1 l2 l3 l4 l5 l6 l7 l8 : Value) (S : List Value) (h : zH), rn 235 105 [l0, l1, l2, l3, l4, l5, l6, l7, l8] S h = rn 235 106 [l0, l1, l2, l3, l4, l5, l6, l7, l8] (.int (nI 1) :: S) h) ∧
  (∀ (l0 l1 l2 l3 l4 l5 l6 l7 l8 : Value) (o : Nat) (v0 : Value) (v1 : Value) (S : List Value) (h : zH), rn 235 106 [l0, l1, l2, l3, l4, l5, l6, l7, l8] (v1 :: v0 :: .ref o :: S) h = if zkd h o = 12 ∧ zsum S ≤ 8 then zcall (ev 226 [.ref o, v0, v1] h) (fun v h => rn 235 109 [l0, l1, l2, l3, l4, l5, l6, l7, l8] (zpush v S) h) else none) ∧
  (∀ (l0 l1 l2 l3 l4 l5 l6 l7 l8 : Value) (S : List Value) (h : zH), rn 235 109 [l0, l1, l2, l3, l4, l5, l6, l7, l8] S h = rn 235 110 [l0, l1, l2, l3, l4, l5, l6, l7, l8] (.long 0 :: S) h) ∧
  (∀ (l0 l1 l2 l3 l4 l5 l6 l7 l8 : Value) (x : Int64) (y : Int64) (S : List Value) (h : zH), rn 235 110 [l0, l1, l2, l3, l4, l5, l6, l7, l8] (.long y :: .long x :: S) h = rn 235 111 [l0, l1, l2, l3, l4, l5, l6, l7, l8] (.int (lg_cmp x y) :: S) h) ∧
  (∀ (l0 l1 l2 l3 l4 l5 l6 l7 l8 : Value) (x : Int32) (S : List Value) (h : zH), rn 235 111 [l0, l1, l2, l3, l4, l5, l6, l7, l8] (.int x :: S) h = if x = nI 0 then rn 235 130 [l0, l1, l2, l3, l4, l5, l6, l7, l8] S h else rn 235 114 [l0, l1, l2, l3, l4, l5, l6, l7, l8] S h) ∧
  (∀ (l1 l2 l3 l4 l5 l6 l7 l8 : Value) (x : Nat) (S : List Value) (h : zH), rn 235 114 [.ref x, l1, l2, l3, l4, l5, l6, l7, l8] S h = rn 235 115 [.ref x, l1, l2, l3, l4, l5, l6, l7, l8] (.ref x :: S) h) ∧
  (∀ (l0 l2 l3 l4 l5 l6 l7 l8 : Value) (x : Int32) (S : List Value) (h : zH), rn 235 115 [l0, .int x, l2, l3, l4, l5, l6, l7, l8] S h = rn 235 116 [l0, .int x, l2, l3, l4, l5, l6, l7, l8] (.int x :: S) h) ∧
  (∀ (l0 l1 l3 l4 l5 l6 l7 l8 : Value) (x : Int32) (S : List Value) (h : zH), rn 235 116 [l0, l1, .int x, l3, l4, l5, l6, l7, l8] S h = rn 235 117 [l0, l1, .int x, l3, l4, l5, l6, l7, l8] (.int x :: S) h) ∧
  (∀ (l0 l1 l2 l3 l4 l5 l6 l7 l8 : Value) (S : List Value) (h : zH), rn 235 117 [l0, l1, l2, l3, l4, l5, l6, l7, l8] S h = rn 235 119 [l0, l1, l2, l3, l4, l5, l6, l7, l8] (.int (nI 6) :: S) h) ∧
  (∀ (l0 l1 l2 l3 l4 l5 l6 l7 l8 : Value) (S : List Value) (h : zH), rn 235 119 [l0, l1, l2, l3, l4, l5, l6, l7, l8] S h = rn 235 120 [l0, l1, l2, l3, l4, l5, l6, l7, l8] (.int (nI 0) :: S) h) ∧
  (∀ (l0 l1 l2 l3 l4 l5 l6 l7 l8 : Value) (S : List Value) (h : zH), rn 235 120 [l0, l1, l2, l3, l4, l5, l6, l7, l8] S h = rn 235 121 [l0, l1, l2, l3, l4, l5, l6, l7, l8] (.int (nI 0) :: S) h) ∧
  (∀ (l1 l2 l3 l4 l5 l6 l7 l8 : Value) (x : Nat) (S : List Value) (h : zH), rn 235 121 [.ref x, l1, l2, l3, l4, l5, l6, l7, l8] S h = rn 235 122 [.ref x, l1, l2, l3, l4, l5, l6, l7, l8] (.ref x :: S) h) ∧
  (∀ (l0 l2 l3 l4 l5 l6 l7 l8 : Value) (x : Int32) (S : List Value) (h : zH), rn 235 122 [l0, .int x, l2, l3, l4, l5, l6, l7, l8] S h = rn 235 123 [l0, .int x, l2, l3, l4, l5, l6, l7, l8] (.int x :: S) h) ∧
  (∀ (l0 l1 l2 l3 l4 l5 l6 l7 l8 : Value) (S : List Value) (h : zH), rn 235 123 [l0, l1, l2, l3, l4, l5, l6, l7, l8] S h = rn 235 124 [l0, l1, l2, l3, l4, l5, l6, l7, l8] (.int (nI 1) :: S) h) ∧
  (∀ (l0 l1 l2 l3 l4 l5 l6 l7 l8 : Value) (o : Nat) (v0 : Value) (v1 : Value) (S : List Value) (h : zH), rn 235 124 [l0, l1, l2, l3, l4, l5, l6, l7, l8] (v1 :: v0 :: .ref o :: S) h = if zkd h o = 12 ∧ zsum S ≤ 8 then zcall (ev 226 [.ref o, v0, v1] h) (fun v h => rn 235 127 [l0, l1, l2, l3, l4, l5, l6, l7, l8] (zpush v S) h) else none) ∧
  (∀ (l0 l1 l2 l3 l4 l5 l6 l7 l8 : Value) (o : Nat) (v0 : Value) (v1 : Value) (v2 : Value) (v3 : Value) (v4 : Value) (v5 : Value) (S : List Value) (h : zH), rn 235 127 [l0, l1, l2, l3, l4, l5, l6, l7, l8] (v5 :: v4 :: v3 :: v2 :: v1 :: v0 :: .ref o :: S) h = if zkd h o = 12 ∧ zsum S ≤ 8 then zcall (ev 243 [.ref o, v0, v1, v2, v3, v4, v5] h) (fun v h => rn 235 130 [l0, l1, l2, l3, l4, l5, l6, l7, l8] (zpush v S) h) else none) ∧
  (∀ (l1 l2 l3 l4 l5 l6 l7 l8 : Value) (x : Nat) (S : List Value) (h : zH), rn 235 130 [.ref x, l1, l2, l3, l4, l5, l6, l7, l8] S h = rn 235 131 [.ref x, l1, l2, l3, l4, l5, l6, l7, l8] (.ref x :: S) h) ∧
  (∀ (l0 l2 l3 l4 l5 l6 l7 l8 : Value) (x : Int32) (S : List Value) (h : zH), rn 235 131 [l0, .int x, l2, l3, l4, l5, l6, l7, l8] S h = rn 235 132 [l0, .int x, l2, l3, l4, l5, l6, l7, l8] (.int x :: S) h) ∧
  (∀ (l0 l1 l3 l4 l5 l6 l7 l8 : Value) (x : Int32) (S : List Value) (h : zH), rn 235 132 [l0, l1, .int x, l3, l4, l5, l6, l7, l8] S h = rn 235 133 [l0, l1, .int x, l3, l4, l5, l6, l7, l8] (.int x :: S) h) ∧
  (∀ (l0 l1 l2 l3 l4 l5 l6 l7 l8 : Value) (S : List Value) (h : zH), rn 235 133 [l0, l1, l2, l3, l4, l5, l6, l7, l8] S h = rn 235 135 [l0, l1, l2, l3, l4, l5, l6, l7, l8] (.int (nI 7) :: S) h) ∧
  (∀ (l0 l1 l2 l3 l4 l5 l6 l7 l8 : Value) (S : List Value) (h : zH), rn 235 135 [l0, l1, l2, l3, l4, l5, l6, l7, l8] S h = rn 235 136 [l0, l1, l2, l3, l4, l5, l6, l7, l8] (.int (nI 0) :: S) h) ∧
  (∀ (l0 l1 l2 l3 l4 l5 l6 l7 l8 : Value) (S : List Value) (h : zH), rn 235 136 [l0, l1, l2, l3, l4, l5, l6, l7, l8] S h = rn 235 137 [l0, l1, l2, l3, l4, l5, l6, l7, l8] (.int (nI 0) :: S) h) ∧
  (∀ (l1 l2 l3 l4 l5 l6 l7 l8 : Value) (x : Nat) (S : List Value) (h : zH), rn 235 137 [.ref x, l1, l2, l3, l4, l5, l6, l7, l8] S h = rn 235 138 [.ref x, l1, l2, l3, l4, l5, l6, l7, l8] (.ref x :: S) h) ∧
  (∀ (l0 l2 l3 l4 l5 l6 l7 l8 : Value) (x : Int32) (S : List Value) (h : zH), rn 235 138 [l0, .int x, l2, l3, l4, l5, l6, l7, l8] S h = rn 235 139 [l0, .int x, l2, l3, l4, l5, l6, l7, l8] (.int x :: S) h) ∧
  (∀ (l0 l1 l3 l4 l5 l6 l7 l8 : Value) (x : Int32) (S : List Value) (h : zH), rn 235 139 [l0, l1, .int x, l3, l4, l5, l6, l7, l8] S h = rn 235 140 [l0, l1, .int x, l3, l4, l5, l6, l7, l8] (.int x :: S) h) ∧
  (∀ (l0 l1 l2 l3 l4 l5 l6 l7 l8 : Value) (o : Nat) (v0 : Value) (v1 : Value) (S : List Value) (h : zH), rn 235 140 [l0, l1, l2, l3, l4, l5, l6, l7, l8] (v1 :: v0 :: .ref o :: S) h = if zkd h o = 12 ∧ zsum S ≤ 8 then zcall (ev 248 [.ref o, v0, v1] h) (fun v h => rn 235 143 [l0, l1, l2, l3, l4, l5, l6, l7, l8] (zpush v S) h) else none) ∧
  (∀ (l0 l1 l2 l3 l4 l5 l6 l7 l8 : Value) (o : Nat) (v0 : Value) (v1 : Value) (v2 : Value) (v3 : Value) (v4 : Value) (v5 : Value) (S : List Value) (h : zH), rn 235 143 [l0, l1, l2, l3, l4, l5, l6, l7, l8] (v5 :: v4 :: v3 :: v2 :: v1 :: v0 :: .ref o :: S) h = if zkd h o = 12 ∧ zsum S ≤ 8 then zcall (ev 243 [.ref o, v0, v1, v2, v3, v4, v5] h) (fun v h => rn 235 146 [l0, l1, l2, l3, l4, l5, l6, l7, l8] (zpush v S) h) else none) ∧
  (∀ (l0 l1 l2 l3 l4 l5 l6 l7 l8 : Value) (h : zH), rn 235 146 [l0, l1, l2, l3, l4, l5, l6, l7, l8] [] h = some (none, h)) := ⟨fun _ _ _ _ _ _ _ _ _ _ _ => r_aload_nr (show zdec 235 0 = some (.aload_n 0, 1) by decide +kernel) rfl rfl,
  fun _ _ _ _ _ _ _ _ _ _ _ => r_iload_n (show zdec 235 1 = some (.iload_n 1, 1) by decide +kernel) rfl rfl,
  fun _ _ _ _ _ _ _ _ _ _ _ => r_iload_n (show zdec 235 2 = some (.iload_n 2, 1) by decide +kernel) rfl rfl,
  fun _ _ _ _ _ _ _ _ _ _ _ _ _ _ => r_cV [_, _] rfl (show zdec 235 3 = some (.invokevirtual 154, 3) by decide +kernel) (show zst.lookup (235 * zKEY + 154) = some (1, 236, 2, 12) by decide +kernel) (by decide) rfl,
  fun _ _ _ _ _ _ _ _ _ _ _ => r_aload_nr (show zdec 235 6 = some (.aload_n 0, 1) by decide +kernel) rfl rfl,
  fun _ _ _ _ _ _ _ _ _ _ _ => r_iload_n (show zdec 235 7 = some (.iload_n 1, 1) by decide +kernel) rfl rfl,
  fun _ _ _ _ _ _ _ _ _ _ _ => r_iconst (show zdec 235 8 = some (.iconst 1, 1) by decide +kernel) rfl rfl,
  fun _ _ _ _ _ _ _ _ _ _ _ _ _ _ => r_cV [_, _] rfl (show zdec 235 9 = some (.invokevirtual 85, 3) by decide +kernel) (show zst.lookup (235 * zKEY + 85) = some (1, 226, 2, 12) by decide +kernel) (by decide) rfl,
  fun _ _ _ _ _ _ _ _ _ _ _ => r_lconst (show zdec 235 12 = some (.lconst 0, 1) by decide +kernel) rfl rfl,
  fun _ _ _ _ _ _ _ _ _ _ _ _ _ => r_lcmp (show zdec 235 13 = some (.lcmp, 1) by decide +kernel) rfl,
  fun _ _ _ _ _ _ _ _ _ _ _ _ => r_ifeq (show zdec 235 14 = some (.ifCond .eq 19, 3) by decide +kernel) rfl rfl,
  fun _ _ _ _ _ _ _ _ _ _ _ => r_aload_nr (show zdec 235 17 = some (.aload_n 0, 1) by decide +kernel) rfl rfl,
  fun _ _ _ _ _ _ _ _ _ _ _ => r_iload_n (show zdec 235 18 = some (.iload_n 1, 1) by decide +kernel) rfl rfl,
  fun _ _ _ _ _ _ _ _ _ _ _ => r_iload_n (show zdec 235 19 = some (.iload_n 2, 1) by decide +kernel) rfl rfl,
  fun _ _ _ _ _ _ _ _ _ _ _ => r_iconst (show zdec 235 20 = some (.iconst 4, 1) by decide +kernel) rfl rfl,
  fun _ _ _ _ _ _ _ _ _ _ _ => r_iconst (show zdec 235 21 = some (.iconst 0, 1) by decide +kernel) rfl rfl,
  fun _ _ _ _ _ _ _ _ _ _ _ => r_iconst (show zdec 235 22 = some (.iconst 0, 1) by decide +kernel) rfl rfl,
  fun _ _ _ _ _ _ _ _ _ _ _ => r_aload_nr (show zdec 235 23 = some (.aload_n 0, 1) by decide +kernel) rfl rfl,
  fun _ _ _ _ _ _ _ _ _ _ _ => r_iload_n (show zdec 235 24 = some (.iload_n 1, 1) by decide +kernel) rfl rfl,
  fun _ _ _ _ _ _ _ _ _ _ _ => r_iconst (show zdec 235 25 = some (.iconst 1, 1) by decide +kernel) rfl rfl,
  fun _ _ _ _ _ _ _ _ _ _ _ _ _ _ => r_cV [_, _] rfl (show zdec 235 26 = some (.invokevirtual 85, 3) by decide +kernel) (show zst.lookup (235 * zKEY + 85) = some (1, 226, 2, 12) by decide +kernel) (by decide) rfl,
  fun _ _ _ _ _ _ _ _ _ _ _ _ => r_lneg (show zdec 235 29 = some (.lneg, 1) by decide +kernel) rfl,
  fun _ _ _ _ _ _ _ _ _ _ _ _ _ _ _ _ _ _ => r_cV [_, _, _, _, _, _] rfl (show zdec 235 30 = some (.invokevirtual 140, 3) by decide +kernel) (show zst.lookup (235 * zKEY + 140) = some (1, 243, 6, 12) by decide +kernel) (by decide) rfl,
  fun _ _ _ _ _ _ _ _ _ _ _ => r_aload_nr (show zdec 235 33 = some (.aload_n 0, 1) by decide +kernel) rfl rfl,
  fun _ _ _ _ _ _ _ _ _ _ _ => r_iload_n (show zdec 235 34 = some (.iload_n 1, 1) by decide +kernel) rfl rfl,
  fun _ _ _ _ _ _ _ _ _ _ _ => r_iload_n (show zdec 235 35 = some (.iload_n 2, 1) by decide +kernel) rfl rfl,
  fun _ _ _ _ _ _ _ _ _ _ _ _ _ _ => r_cV [_, _] rfl (show zdec 235 36 = some (.invokevirtual 157, 3) by decide +kernel) (show zst.lookup (235 * zKEY + 157) = some (1, 248, 2, 12) by decide +kernel) (by decide) rfl,
  fun _ _ _ _ _ _ _ _ _ _ _ _ => r_lstore_n (show zdec 235 39 = some (.lstore_n 3, 1) by decide +kernel) rfl rfl (Nat.le_of_ble_eq_true rfl) rfl rfl,
  fun _ _ _ _ _ _ _ _ _ _ _ => r_aload_nr (show zdec 235 40 = some (.aload_n 0, 1) by decide +kernel) rfl rfl,
  fun _ _ _ _ _ _ _ _ _ _ _ => r_iload_n (show zdec 235 41 = some (.iload_n 1, 1) by decide +kernel) rfl rfl,
  fun _ _ _ _ _ _ _ _ _ _ _ => r_iconst (show zdec 235 42 = some (.iconst 0, 1) by decide +kernel) rfl rfl,
  fun _ _ _ _ _ _ _ _ _ _ _ _ _ _ => r_cV [_, _] rfl (show zdec 235 43 = some (.invokevirtual 85, 3) by decide +kernel) (show zst.lookup (235 * zKEY + 85) = some (1, 226, 2, 12) by decide +kernel) (by decide) rfl,
  fun _ _ _ _ _ _ _ _ _ _ _ => r_ldc2 (show zdec 235 46 = some (.ldc2_w 89, 3) by decide +kernel) (show zlt.lookup (235 * zKEY + 89) = some 1000000 by decide +kernel) rfl,
  fun _ _ _ _ _ _ _ _ _ _ _ _ _ => r_lmul (show zdec 235 49 = some (.lmul, 1) by decide +kernel) rfl,
  fun _ _ _ _ _ _ _ _ _ _ _ _ => r_lstore (show zdec 235 50 = some (.lstore 5, 2) by decide +kernel) rfl (Nat.le_of_ble_eq_true rfl) rfl rfl,
  fun _ _ _ _ _ _ _ _ _ _ _ => r_lload (show zdec 235 52 = some (.lload 5, 2) by decide +kernel) rfl rfl,
  fun _ _ _ _ _ _ _ _ _ _ _ => r_aload_nr (show zdec 235 54 = some (.aload_n 0, 1) by decide +kernel) rfl rfl,
  fun _ _ _ _ _ _ _ _ _ _ _ => r_iload_n (show zdec 235 55 = some (.iload_n 1, 1) by decide +kernel) rfl rfl,
  fun _ _ _ _ _ _ _ _ _ _ _ => r_iload_n (show zdec 235 56 = some (.iload_n 2, 1) by decide +kernel) rfl rfl,
  fun _ _ _ _ _ _ _ _ _ _ _ => r_iconst (show zdec 235 57 = some (.iconst 4, 1) by decide +kernel) rfl rfl,
  fun _ _ _ _ _ _ _ _ _ _ _ _ _ _ _ => r_cV [_, _, _] rfl (show zdec 235 58 = some (.invokevirtual 136, 3) by decide +kernel) (show zst.lookup (235 * zKEY + 136) = some (1, 237, 3, 12) by decide +kernel) (by decide) rfl,
  fun _ _ _ _ _ _ _ _ _ _ _ _ _ => r_cM3 (show zdec 235 61 = some (.invokestatic 106, 3) by decide +kernel) (show zst.lookup (235 * zKEY + 106) = some (9, 72, 2, 3) by decide +kernel) rfl,
  fun _ _ _ _ _ _ _ _ _ _ _ _ => r_lstore (show zdec 235 64 = some (.lstore 7, 2) by decide +kernel) rfl (Nat.le_of_ble_eq_true rfl) rfl rfl,
  fun _ _ _ _ _ _ _ _ _ _ _ => r_aload_nr (show zdec 235 66 = some (.aload_n 0, 1) by decide +kernel) rfl rfl,
  fun _ _ _ _ _ _ _ _ _ _ _ _ => r_getfield (show zdec 235 67 = some (.getfield 9, 3) by decide +kernel) (show zft.lookup (235 * zKEY + 9) = some (12, 0) by decide +kernel) rfl,
  fun _ _ _ _ _ _ _ _ _ _ _ => r_iload_n (show zdec 235 70 = some (.iload_n 1, 1) by decide +kernel) rfl rfl,
  fun _ _ _ _ _ _ _ _ _ _ _ => r_iconst (show zdec 235 71 = some (.iconst 1, 1) by decide +kernel) rfl rfl,
  fun _ _ _ _ _ _ _ _ _ _ _ _ _ => r_cS [_, _] rfl (show zdec 235 72 = some (.invokestatic 39, 3) by decide +kernel) (show zst.lookup (235 * zKEY + 39) = some (0, 208, 2, 0) by decide +kernel) (by decide) rfl,
  fun _ _ _ _ _ _ _ _ _ _ _ => r_lconst (show zdec 235 75 = some (.lconst 0, 1) by decide +kernel) rfl rfl,
  fun _ _ _ _ _ _ _ _ _ _ _ => r_lload (show zdec 235 76 = some (.lload 7, 2) by decide +kernel) rfl rfl,
  fun _ _ _ _ _ _ _ _ _ _ _ => r_lload_n (show zdec 235 78 = some (.lload_n 3, 1) by decide +kernel) rfl rfl,
  fun _ _ _ _ _ _ _ _ _ _ _ _ _ => r_lsub (show zdec 235 79 = some (.lsub, 1) by decide +kernel) rfl,
  fun _ _ _ _ _ _ _ _ _ _ _ _ _ => r_cM2 (show zdec 235 80 = some (.invokestatic 118, 3) by decide +kernel) (show zst.lookup (235 * zKEY + 118) = some (9, 73, 2, 2) by decide +kernel) rfl,
  fun _ _ _ _ _ _ _ _ _ _ _ _ _ _ => r_last (show zdec 235 83 = some (.lastore, 1) by decide +kernel) rfl,
  fun _ _ _ _ _ _ _ _ _ _ _ => r_aload_nr (show zdec 235 84 = some (.aload_n 0, 1) by decide +kernel) rfl rfl,
  fun _ _ _ _ _ _ _ _ _ _ _ => r_iload_n (show zdec 235 85 = some (.iload_n 1, 1) by decide +kernel) rfl rfl,
  fun _ _ _ _ _ _ _ _ _ _ _ => r_iload_n (show zdec 235 86 = some (.iload_n 2, 1) by decide +kernel) rfl rfl,
  fun _ _ _ _ _ _ _ _ _ _ _ => r_lconst (show zdec 235 87 = some (.lconst 0, 1) by decide +kernel) rfl rfl,
  fun _ _ _ _ _ _ _ _ _ _ _ => r_lload_n (show zdec 235 88 = some (.lload_n 3, 1) by decide +kernel) rfl rfl,
  fun _ _ _ _ _ _ _ _ _ _ _ => r_lload (show zdec 235 89 = some (.lload 7, 2) by decide +kernel) rfl rfl,
  fun _ _ _ _ _ _ _ _ _ _ _ _ _ => r_cM2 (show zdec 235 91 = some (.invokestatic 118, 3) by decide +kernel) (show zst.lookup (235 * zKEY + 118) = some (9, 73, 2, 2) by decide +kernel) rfl,
  fun _ _ _ _ _ _ _ _ _ _ _ => r_lload (show zdec 235 94 = some (.lload 5, 2) by decide +kernel) rfl rfl,
  fun _ _ _ _ _ _ _ _ _ _ _ _ _ => r_lsub (show zdec 235 96 = some (.lsub, 1) by decide +kernel) rfl,
  fun _ _ _ _ _ _ _ _ _ _ _ _ _ => r_cM2 (show zdec 235 97 = some (.invokestatic 118, 3) by decide +kernel) (show zst.lookup (235 * zKEY + 118) = some (9, 73, 2, 2) by decide +kernel) rfl,
  fun _ _ _ _ _ _ _ _ _ _ _ _ _ _ _ => r_cV [_, _, _] rfl (show zdec 235 100 = some (.invokevirtual 160, 3) by decide +kernel) (show zst.lookup (235 * zKEY + 160) = some (1, 249, 3, 12) by decide +kernel) (by decide) rfl,
  fun _ _ _ _ _ _ _ _ _ _ _ => r_aload_nr (show zdec 235 103 = some (.aload_n 0, 1) by decide +kernel) rfl rfl,
  fun _ _ _ _ _ _ _ _ _ _ _ => r_iload_n (show zdec 235 104 = some (.iload_n 1, 1) by decide +kernel) rfl rfl,
  fun _ _ _ _ _ _ _ _ _ _ _ => r_iconst (show zdec 235 105 = some (.iconst 1, 1) by decide +kernel) rfl rfl,
  fun _ _ _ _ _ _ _ _ _ _ _ _ _ _ => r_cV [_, _] rfl (show zdec 235 106 = some (.invokevirtual 85, 3) by decide +kernel) (show zst.lookup (235 * zKEY + 85) = some (1, 226, 2, 12) by decide +kernel) (by decide) rfl,
  fun _ _ _ _ _ _ _ _ _ _ _ => r_lconst (show zdec 235 109 = some (.lconst 0, 1) by decide +kernel) rfl rfl,
  fun _ _ _ _ _ _ _ _ _ _ _ _ _ => r_lcmp (show zdec 235 110 = some (.lcmp, 1) by decide +kernel) rfl,
  fun _ _ _ _ _ _ _ _ _ _ _ _ => r_ifeq (show zdec 235 111 = some (.ifCond .eq 19, 3) by decide +kernel) rfl rfl,
  fun _ _ _ _ _ _ _ _ _ _ _ => r_aload_nr (show zdec 235 114 = some (.aload_n 0, 1) by decide +kernel) rfl rfl,
  fun _ _ _ _ _ _ _ _ _ _ _ => r_iload_n (show zdec 235 115 = some (.iload_n 1, 1) by decide +kernel) rfl rfl,
  fun _ _ _ _ _ _ _ _ _ _ _ => r_iload_n (show zdec 235 116 = some (.iload_n 2, 1) by decide +kernel) rfl rfl,
  fun _ _ _ _ _ _ _ _ _ _ _ => r_bipush (show zdec 235 117 = some (.bipush 6, 2) by decide +kernel) rfl rfl,
  fun _ _ _ _ _ _ _ _ _ _ _ => r_iconst (show zdec 235 119 = some (.iconst 0, 1) by decide +kernel) rfl rfl,
  fun _ _ _ _ _ _ _ _ _ _ _ => r_iconst (show zdec 235 120 = some (.iconst 0, 1) by decide +kernel) rfl rfl,
  fun _ _ _ _ _ _ _ _ _ _ _ => r_aload_nr (show zdec 235 121 = some (.aload_n 0, 1) by decide +kernel) rfl rfl,
  fun _ _ _ _ _ _ _ _ _ _ _ => r_iload_n (show zdec 235 122 = some (.iload_n 1, 1) by decide +kernel) rfl rfl,
  fun _ _ _ _ _ _ _ _ _ _ _ => r_iconst (show zdec 235 123 = some (.iconst 1, 1) by decide +kernel) rfl rfl,
  fun _ _ _ _ _ _ _ _ _ _ _ _ _ _ => r_cV [_, _] rfl (show zdec 235 124 = some (.invokevirtual 85, 3) by decide +kernel) (show zst.lookup (235 * zKEY + 85) = some (1, 226, 2, 12) by decide +kernel) (by decide) rfl,
  fun _ _ _ _ _ _ _ _ _ _ _ _ _ _ _ _ _ _ => r_cV [_, _, _, _, _, _] rfl (show zdec 235 127 = some (.invokevirtual 140, 3) by decide +kernel) (show zst.lookup (235 * zKEY + 140) = some (1, 243, 6, 12) by decide +kernel) (by decide) rfl,
  fun _ _ _ _ _ _ _ _ _ _ _ => r_aload_nr (show zdec 235 130 = some (.aload_n 0, 1) by decide +kernel) rfl rfl,
  fun _ _ _ _ _ _ _ _ _ _ _ => r_iload_n (show zdec 235 131 = some (.iload_n 1, 1) by decide +kernel) rfl rfl,
  fun _ _ _ _ _ _ _ _ _ _ _ => r_iload_n (show zdec 235 132 = some (.iload_n 2, 1) by decide +kernel) rfl rfl,
  fun _ _ _ _ _ _ _ _ _ _ _ => r_bipush (show zdec 235 133 = some (.bipush 7, 2) by decide +kernel) rfl rfl,
  fun _ _ _ _ _ _ _ _ _ _ _ => r_iconst (show zdec 235 135 = some (.iconst 0, 1) by decide +kernel) rfl rfl,
  fun _ _ _ _ _ _ _ _ _ _ _ => r_iconst (show zdec 235 136 = some (.iconst 0, 1) by decide +kernel) rfl rfl,
  fun _ _ _ _ _ _ _ _ _ _ _ => r_aload_nr (show zdec 235 137 = some (.aload_n 0, 1) by decide +kernel) rfl rfl,
  fun _ _ _ _ _ _ _ _ _ _ _ => r_iload_n (show zdec 235 138 = some (.iload_n 1, 1) by decide +kernel) rfl rfl,
  fun _ _ _ _ _ _ _ _ _ _ _ => r_iload_n (show zdec 235 139 = some (.iload_n 2, 1) by decide +kernel) rfl rfl,
  fun _ _ _ _ _ _ _ _ _ _ _ _ _ _ => r_cV [_, _] rfl (show zdec 235 140 = some (.invokevirtual 157, 3) by decide +kernel) (show zst.lookup (235 * zKEY + 157) = some (1, 248, 2, 12) by decide +kernel) (by decide) rfl,
  fun _ _ _ _ _ _ _ _ _ _ _ _ _ _ _ _ _ _ => r_cV [_, _, _, _, _, _] rfl (show zdec 235 143 = some (.invokevirtual 140, 3) by decide +kernel) (show zst.lookup (235 * zKEY + 140) = some (1, 243, 6, 12) by decide +kernel) (by decide) rfl,
  fun _ _ _ _ _ _ _ _ _ _ => r_vret (show zdec 235 146 = some (.return_, 1) by decide +kernel) (by decide +kernel)⟩
theorem ze_235 : ∀ (a0 : Nat) (a1 : Int32) (a2 : Int32) (h : zH), ev 235 [.ref a0, .int a1, .int a2] h = rn 235 0 [.ref a0, .int a1, .int a2, .float 0, .float 0, .float 0, .float 0, .float 0, .float 0] [] h := fun _ _ _ _ => if_pos (Nat.le_of_ble_eq_true rfl)
-- PayrollRunModel.addDueLines(II)V
theorem zr_236 : (∀ (l0 l1 l2 l3 l4 l5 l6 : Value) (S : List Value) (h : zH), rn 236 0 [l0, l1, l2, l3, l4, l5, l6] S h = rn 236 1 [l0, l1, l2, l3, l4, l5, l6] (.int (nI 0) :: S) h) ∧
  (∀ (l0 l1 l2 l3 l4 l5 l6 : Value) (x : Int32) (S : List Value) (h : zH), rn 236 1 [l0, l1, l2, l3, l4, l5, l6] (.int x :: S) h = nl l2 (rn 236 2 [l0, l1, l2, .int x, l4, l5, l6] S h)) ∧
  (∀ (l0 l1 l2 l3 l4 l5 l6 : Value) (S : List Value) (h : zH), rn 236 3 [l0, l1, l2, l3, l4, l5, l6] S h = rn 236 4 [l0, l1, l2, l3, l4, l5, l6] (.int (nI 4) :: S) h) ∧
  (∀ (l0 l1 l2 l3 l4 l5 l6 : Value) (x : Int32) (y : Int32) (S : List Value) (h : zH), rn 236 4 [l0, l1, l2, l3, l4, l5, l6] (.int y :: .int x :: S) h = if y ≤ x then rn 236 43 [l0, l1, l2, l3, l4, l5, l6] S h else rn 236 7 [l0, l1, l2, l3, l4, l5, l6] S h) ∧
  (∀ (l1 l2 l3 l4 l5 l6 : Value) (x : Nat) (S : List Value) (h : zH), rn 236 7 [.ref x, l1, l2, l3, l4, l5, l6] S h = rn 236 8 [.ref x, l1, l2, l3, l4, l5, l6] (.ref x :: S) h) ∧
  (∀ (l0 l2 l3 l4 l5 l6 : Value) (x : Int32) (S : List Value) (h : zH), rn 236 8 [l0, .int x, l2, l3, l4, l5, l6] S h = rn 236 9 [l0, .int x, l2, l3, l4, l5, l6] (.int x :: S) h) ∧
  (∀ (l0 l1 l3 l4 l5 l6 : Value) (x : Int32) (S : List Value) (h : zH), rn 236 9 [l0, l1, .int x, l3, l4, l5, l6] S h = rn 236 10 [l0, l1, .int x, l3, l4, l5, l6] (.int x :: S) h) ∧
  (∀ (l0 l1 l2 l4 l5 l6 : Value) (x : Int32) (S : List Value) (h : zH), rn 236 10 [l0, l1, l2, .int x, l4, l5, l6] S h = rn 236 11 [l0, l1, l2, .int x, l4, l5, l6] (.int x :: S) h) ∧
  (∀ (l0 l1 l2 l3 l4 l5 l6 : Value) (o : Nat) (v0 : Value) (v1 : Value) (v2 : Value) (S : List Value) (h : zH), rn 236 11 [l0, l1, l2, l3, l4, l5, l6] (v2 :: v1 :: v0 :: .ref o :: S) h = if zkd h o = 12 ∧ zsum S ≤ 8 then zcall (ev 237 [.ref o, v0, v1, v2] h) (fun v h => rn 236 14 [l0, l1, l2, l3, l4, l5, l6] (zpush v S) h) else none) ∧
  (∀ (l0 l1 l2 l3 l4 l5 l6 : Value) (x : Int64) (S : List Value) (h : zH), rn 236 14 [l0, l1, l2, l3, l4, l5, l6] (.long x :: S) h = nl l3 (rn 236 16 [l0, l1, l2, l3, .long x, .float 0, l6] S h)) ∧
  (∀ (l1 l2 l3 l4 l5 l6 : Value) (x : Nat) (S : List Value) (h : zH), rn 236 16 [.ref x, l1, l2, l3, l4, l5, l6] S h = rn 236 17 [.ref x, l1, l2, l3, l4, l5, l6] (.ref x :: S) h) ∧
  (∀ (l0 l2 l3 l4 l5 l6 : Value) (x : Int32) (S : List Value) (h : zH), rn 236 17 [l0, .int x, l2, l3, l4, l5, l6] S h = rn 236 18 [l0, .int x, l2, l3, l4, l5, l6] (.int x :: S) h) ∧
  (∀ (l0 l1 l3 l4 l5 l6 : Value) (x : Int32) (S : List Value) (h : zH), rn 236 18 [l0, l1, .int x, l3, l4, l5, l6] S h = rn 236 19 [l0, l1, .int x, l3, l4, l5, l6] (.int x :: S) h) ∧
  (∀ (l0 l1 l2 l4 l5 l6 : Value) (x : Int32) (S : List Value) (h : zH), rn 236 19 [l0, l1, l2, .int x, l4, l5, l6] S h = rn 236 20 [l0, l1, l2, .int x, l4, l5, l6] (.int x :: S) h) ∧
  (∀ (l0 l1 l3 l4 l5 l6 : Value) (x : Int32) (S : List Value) (h : zH), rn 236 20 [l0, l1, .int x, l3, l4, l5, l6] S h = rn 236 21 [l0, l1, .int x, l3, l4, l5, l6] (.int x :: S) h) ∧
  (∀ (l0 l1 l2 l3 l4 l5 l6 : Value) (S : List Value) (h : zH), rn 236 21 [l0, l1, l2, l3, l4, l5, l6] S h = rn 236 22 [l0, l1, l2, l3, l4, l5, l6] (.int (nI 0) :: S) h) ∧
  (∀ (l0 l1 l2 l4 l5 l6 : Value) (x : Int32) (S : List Value) (h : zH), rn 236 22 [l0, l1, l2, .int x, l4, l5, l6] S h = rn 236 23 [l0, l1, l2, .int x, l4, l5, l6] (.int x :: S) h) ∧
  (∀ (l0 l1 l2 l3 l4 l5 l6 : Value) (x : Int32) (S : List Value) (h : zH), rn 236 23 [l0, l1, l2, l3, l4, l5, l6] (.int x :: S) h = if x = nI 0 then rn 236 26 [l0, l1, l2, l3, l4, l5, l6] S h else rn 236 31 [l0, l1, l2, l3, l4, l5, l6] S h) ∧
  (∀ (l0 l1 l2 l3 l5 l6 : Value) (x : Int64) (S : List Value) (h : zH), rn 236 26 [l0, l1, l2, l3, .long x, l5, l6] S h = rn 236 28 [l0, l1, l2, l3, .long x, l5, l6] (.long x :: S) h) ∧
  (∀ (l0 l1 l2 l3 l4 l5 l6 : Value) (S : List Value) (h : zH), rn 236 28 [l0, l1, l2, l3, l4, l5, l6] S h = rn 236 34 [l0, l1, l2, l3, l4, l5, l6] S h) ∧
  (∀ (l0 l1 l2 l3 l5 l6 : Value) (x : Int64) (S : List Value) (h : zH), rn 236 31 [l0, l1, l2, l3, .long x, l5, l6] S h = rn 236 33 [l0, l1, l2, l3, .long x, l5, l6] (.long x :: S) h) ∧
  (∀ (l0 l1 l2 l3 l4 l5 l6 : Value) (x : Int64) (S : List Value) (h : zH), rn 236 33 [l0, l1, l2, l3, l4, l5, l6] (.long x :: S) h = rn 236 34 [l0, l1, l2, l3, l4, l5, l6] (.long (-x) :: S) h) ∧
  (∀ (l0 l1 l2 l3 l4 l5 l6 : Value) (o : Nat) (v0 : Value) (v1 : Value) (v2 : Value) (v3 : Value) (v4 : Value) (v5 : Value) (S : List Value) (h : zH), rn 236 34 [l0, l1, l2, l3, l4, l5, l6] (v5 :: v4 :: v3 :: v2 :: v1 :: v0 :: .ref o :: S) h = if zkd h o = 12 ∧ zsum S ≤ 8 then zcall (ev 243 [.ref o, v0, v1, v2, v3, v4, v5] h) (fun v h => rn 236 37 [l0, l1, l2, l3, l4, l5, l6] (zpush v S) h) else none) ∧
  (∀ (l0 l1 l2 l4 l5 l6 : Value) (x : Int32) (S : List Value) (h : zH), rn 236 37 [l0, l1, l2, .int x, l4, l5, l6] S h = nl l2 (rn 236 40 [l0, l1, l2, .int (x + (nI 1)), l4, l5, l6] S h)) ∧
  (∀ (l0 l1 l2 l3 l4 l5 l6 : Value) (S : List Value) (h : zH), rn 236 40 [l0, l1, l2, l3, l4, l5, l6] S h = rn 236 2 [l0, l1, l2, l3, l4, l5, l6] S h) ∧
  (∀ (l0 l1 l2 l3 l4 l5 l6 : Value) (S : List Value) (h : zH), rn 236 43 [l0, l1, l2, l3, l4, l5, l6] S h = rn 236 44 [l0, l1, l2, l3, l4, l5, l6] (.int (nI 0) :: S) h) ∧
  (∀ (l0 l1 l2 l3 l4 l5 l6 : Value) (x : Int32) (S : List Value) (h : zH), rn 236 44 [l0, l1, l2, l3, l4, l5, l6] (.int x :: S) h = nl l2 (rn 236 45 [l0, l1, l2, .int x, l4, l5, l6] S h)) ∧
  (∀ (l0 l1 l3 l4 l5 l6 : Value) (x : Int32) (S : List Value) (h : zH), rn 236 46 [l0, l1, .int x, l3, l4, l5, l6] S h = rn 236 47 [l0, l1, .int x, l3, l4, l5, l6] (.int x :: S) h) ∧
  (∀ (l0 l1 l2 l3 l4 l5 l6 : Value) (x : Int32) (y : Int32) (S : List Value) (h : zH), rn 236 47 [l0, l1, l2, l3, l4, l5, l6] (.int y :: .int x :: S) h = if y ≤ x then rn 236 125 [l0, l1, l2, l3, l4, l5, l6] S h else rn 236 50 [l0, l1, l2, l3, l4, l5, l6] S h) ∧
  (∀ (l0 l1 l2 l3 l4 l5 l6 : Value) (S : List Value) (h : zH), rn 236 50 [l0, l1, l2, l3, l4, l5, l6] S h = rn 236 51 [l0, l1, l2, l3, l4, l5, l6] (.int (nI 0) :: S) h) ∧
  (∀ (l0 l1 l2 l3 l4 l5 l6 : Value) (x : Int32) (S : List Value) (h : zH), rn 236 51 [l0, l1, l2, l3, l4, l5, l6] (.int x :: S) h = nl l3 (rn 236 53 [l0, l1, l2, l3, .int x, l5, l6] S h)) ∧
  (∀ (l0 l1 l2 l3 l4 l5 l6 : Value) (S : List Value) (h : zH), rn 236 55 [l0, l1, l2, l3, l4, l5, l6] S h = rn 236 56 [l0, l1, l2, l3, l4, l5, l6] (.int (nI 4) :: S) h) ∧
  (∀ (l0 l1 l2 l3 l4 l5 l6 : Value) (x : Int32) (y : Int32) (S : List Value) (h : zH), rn 236 56 [l0, l1, l2, l3, l4, l5, l6] (.int y :: .int x :: S) h = if y ≤ x then rn 236 119 [l0, l1, l2, l3, l4, l5, l6] S h else rn 236 59 [l0, l1, l2, l3, l4, l5, l6] S h) ∧
  (∀ (l1 l2 l3 l4 l5 l6 : Value) (x : Nat) (S : List Value) (h : zH), rn 236 59 [.ref x, l1, l2, l3, l4, l5, l6] S h = rn 236 60 [.ref x, l1, l2, l3, l4, l5, l6] (.ref x :: S) h) ∧
  (∀ (l0 l2 l3 l4 l5 l6 : Value) (x : Int32) (S : List Value) (h : zH), rn 236 60 [l0, .int x, l2, l3, l4, l5, l6] S h = rn 236 61 [l0, .int x, l2, l3, l4, l5, l6] (.int x :: S) h) ∧
  (∀ (l0 l1 l2 l4 l5 l6 : Value) (x : Int32) (S : List Value) (h : zH), rn 236 61 [l0, l1, l2, .int x, l4, l5, l6] S h = rn 236 62 [l0, l1, l2, .int x, l4, l5, l6] (.int x :: S) h) ∧
  (∀ (l0 l1 l2 l3 l5 l6 : Value) (x : Int32) (S : List Value) (h : zH), rn 236 62 [l0, l1, l2, l3, .int x, l5, l6] S h = rn 236 64 [l0, l1, l2, l3, .int x, l5, l6] (.int x :: S) h) ∧
  (∀ (l0 l1 l2 l3 l4 l5 l6 : Value) (o : Nat) (v0 : Value) (v1 : Value) (v2 : Value) (S : List Value) (h : zH), rn 236 64 [l0, l1, l2, l3, l4, l5, l6] (v2 :: v1 :: v0 :: .ref o :: S) h = if zkd h o = 12 ∧ zsum S ≤ 8 then zcall (ev 237 [.ref o, v0, v1, v2] h) (fun v h => rn 236 67 [l0, l1, l2, l3, l4, l5, l6] (zpush v S) h) else none) ∧
  (∀ (l1 l2 l3 l4 l5 l6 : Value) (x : Nat) (S : List Value) (h : zH), rn 236 67 [.ref x, l1, l2, l3, l4, l5, l6] S h = rn 236 68 [.ref x, l1, l2, l3, l4, l5, l6] (.ref x :: S) h) ∧
  (∀ (l0 l2 l3 l4 l5 l6 : Value) (x : Int32) (S : List Value) (h : zH), rn 236 68 [l0, .int x, l2, l3, l4, l5, l6] S h = rn 236 69 [l0, .int x, l2, l3, l4, l5, l6] (.int x :: S) h) ∧
  (∀ (l0 l1 l2 l4 l5 l6 : Value) (x : Int32) (S : List Value) (h : zH), rn 236 69 [l0, l1, l2, .int x, l4, l5, l6] S h = rn 236 70 [l0, l1, l2, .int x, l4, l5, l6] (.int x :: S) h) ∧
  (∀ (l0 l1 l2 l3 l5 l6 : Value) (x : Int32) (S : List Value) (h : zH), rn 236 70 [l0, l1, l2, l3, .int x, l5, l6] S h = rn 236 72 [l0, l1, l2, l3, .int x, l5, l6] (.int x :: S) h) ∧
  (∀ (l0 l1 l2 l3 l4 l5 l6 : Value) (o : Nat) (v0 : Value) (v1 : Value) (v2 : Value) (S : List Value) (h : zH), rn 236 72 [l0, l1, l2, l3, l4, l5, l6] (v2 :: v1 :: v0 :: .ref o :: S) h = if zkd h o = 12 ∧ zsum S ≤ 8 then zcall (ev 245 [.ref o, v0, v1, v2] h) (fun v h => rn 236 75 [l0, l1, l2, l3, l4, l5, l6] (zpush v S) h) else none) ∧
  (∀ (l0 l1 l2 l3 l4 l5 l6 : Value) (x : Int64) (y : Int64) (S : List Value) (h : zH), rn 236 75 [l0, l1, l2, l3, l4, l5, l6] (.long y :: .long x :: S) h = rn 236 76 [l0, l1, l2, l3, l4, l5, l6] (.long (x - y) :: S) h) ∧
  (∀ (l0 l1 l2 l3 l4 l5 l6 : Value) (x : Int64) (S : List Value) (h : zH), rn 236 76 [l0, l1, l2, l3, l4, l5, l6] (.long x :: S) h = nl l4 (rn 236 78 [l0, l1, l2, l3, l4, .long x, .float 0] S h)) ∧
  (∀ (l0 l1 l2 l3 l4 l6 : Value) (x : Int64) (S : List Value) (h : zH), rn 236 78 [l0, l1, l2, l3, l4, .long x, l6] S h = rn 236 80 [l0, l1, l2, l3, l4, .long x, l6] (.long x :: S) h) ∧
  (∀ (l0 l1 l2 l3 l4 l5 l6 : Value) (S : List Value) (h : zH), rn 236 80 [l0, l1, l2, l3, l4, l5, l6] S h = rn 236 81 [l0, l1, l2, l3, l4, l5, l6] (.long 0 :: S) h) ∧
  (∀ (l0 l1 l2 l3 l4 l5 l6 : Value) (x : Int64) (y : Int64) (S : List Value) (h : zH), rn 236 81 [l0, l1, l2, l3, l4, l5, l6] (.long y :: .long x :: S) h = rn 236 82 [l0, l1, l2, l3, l4, l5, l6] (.int (lg_cmp x y) :: S) h) ∧
  (∀ (l0 l1 l2 l3 l4 l5 l6 : Value) (x : Int32) (S : List Value) (h : zH), rn 236 82 [l0, l1, l2, l3, l4, l5, l6] (.int x :: S) h = if x = nI 0 then rn 236 113 [l0, l1, l2, l3, l4, l5, l6] S h else rn 236 85 [l0, l1, l2, l3, l4, l5, l6] S h) ∧
  (∀ (l1 l2 l3 l4 l5 l6 : Value) (x : Nat) (S : List Value) (h : zH), rn 236 85 [.ref x, l1, l2, l3, l4, l5, l6] S h = rn 236 86 [.ref x, l1, l2, l3, l4, l5, l6] (.ref x :: S) h) ∧
  (∀ (l0 l2 l3 l4 l5 l6 : Value) (x : Int32) (S : List Value) (h : zH), rn 236 86 [l0, .int x, l2, l3, l4, l5, l6] S h = rn 236 87 [l0, .int x, l2, l3, l4, l5, l6] (.int x :: S) h) ∧
  (∀ (l0 l1 l3 l4 l5 l6 : Value) (x : Int32) (S : List Value) (h : zH), rn 236 87 [l0, l1, .int x, l3, l4, l5, l6] S h = rn 236 88 [l0, l1, .int x, l3, l4, l5, l6] (.int x :: S) h) ∧
  (∀ (l0 l1 l2 l3 l5 l6 : Value) (x : Int32) (S : List Value) (h : zH), rn 236 88 [l0, l1, l2, l3, .int x, l5, l6] S h = rn 236 90 [l0, l1, l2, l3, .int x, l5, l6] (.int x :: S) h) ∧
  (∀ (l0 l1 l2 l4 l5 l6 : Value) (x : Int32) (S : List Value) (h : zH), rn 236 90 [l0, l1, l2, .int x, l4, l5, l6] S h = rn 236 91 [l0, l1, l2, .int x, l4, l5, l6] (.int x :: S) h) ∧
  (∀ (l1 l2 l3 l4 l5 l6 : Value) (x : Nat) (S : List Value) (h : zH), rn 236 91 [.ref x, l1, l2, l3, l4, l5, l6] S h = rn 236 92 [.ref x, l1, l2, l3, l4, l5, l6] (.ref x :: S) h) ∧
  (∀ (l0 l2 l3 l4 l5 l6 : Value) (x : Int32) (S : List Value) (h : zH), rn 236 92 [l0, .int x, l2, l3, l4, l5, l6] S h = rn 236 93 [l0, .int x, l2, l3, l4, l5, l6] (.int x :: S) h) ∧
  (∀ (l0 l1 l2 l4 l5 l6 : Value) (x : Int32) (S : List Value) (h : zH), rn 236 93 [l0, l1, l2, .int x, l4, l5, l6] S h = rn 236 94 [l0, l1, l2, .int x, l4, l5, l6] (.int x :: S) h) ∧
  (∀ (l0 l1 l2 l3 l4 l5 l6 : Value) (o : Nat) (v0 : Value) (v1 : Value) (S : List Value) (h : zH), rn 236 94 [l0, l1, l2, l3, l4, l5, l6] (v1 :: v0 :: .ref o :: S) h = if zkd h o = 12 ∧ zsum S ≤ 8 then zcall (ev 246 [.ref o, v0, v1] h) (fun v h => rn 236 97 [l0, l1, l2, l3, l4, l5, l6] (zpush v S) h) else none) ∧
  (∀ (l0 l1 l2 l3 l5 l6 : Value) (x : Int32) (S : List Value) (h : zH), rn 236 97 [l0, l1, l2, l3, .int x, l5, l6] S h = rn 236 99 [l0, l1, l2, l3, .int x, l5, l6] (.int x :: S) h) ∧
  (∀ (l0 l1 l2 l3 l4 l5 l6 : Value) (x : Int32) (S : List Value) (h : zH), rn 236 99 [l0, l1, l2, l3, l4, l5, l6] (.int x :: S) h = if x = nI 0 then rn 236 102 [l0, l1, l2, l3, l4, l5, l6] S h else rn 236 107 [l0, l1, l2, l3, l4, l5, l6] S h) ∧
  (∀ (l0 l1 l2 l3 l4 l6 : Value) (x : Int64) (S : List Value) (h : zH), rn 236 102 [l0, l1, l2, l3, l4, .long x, l6] S h = rn 236 104 [l0, l1, l2, l3, l4, .long x, l6] (.long x :: S) h) ∧
  (∀ (l0 l1 l2 l3 l4 l5 l6 : Value) (S : List Value) (h : zH), rn 236 104 [l0, l1, l2, l3, l4, l5, l6] S h = rn 236 110 [l0, l1, l2, l3, l4, l5, l6] S h) ∧
  (∀ (l0 l1 l2 l3 l4 l6 : Value) (x : Int64) (S : List Value) (h : zH), rn 236 107 [l0, l1, l2, l3, l4, .long x, l6] S h = rn 236 109 [l0, l1, l2, l3, l4, .long x, l6] (.long x :: S) h) ∧
  (∀ (l0 l1 l2 l3 l4 l5 l6 : Value) (x : Int64) (S : List Value) (h : zH), rn 236 109 [l0, l1, l2, l3, l4, l5, l6] (.long x :: S) h = rn 236 110 [l0, l1, l2, l3, l4, l5, l6] (.long (-x) :: S) h) ∧
  (∀ (l0 l1 l2 l3 l4 l5 l6 : Value) (o : Nat) (v0 : Value) (v1 : Value) (v2 : Value) (v3 : Value) (v4 : Value) (v5 : Value) (S : List Value) (h : zH), rn 236 110 [l0, l1, l2, l3, l4, l5, l6] (v5 :: v4 :: v3 :: v2 :: v1 :: v0 :: .ref o :: S) h = if zkd h o = 12 ∧ zsum S ≤ 8 then zcall (ev 243 [.ref o, v0, v1, v2, v3, v4, v5] h) (fun v h => rn 236 113 [l0, l1, l2, l3, l4, l5, l6] (zpush v S) h) else none) ∧
  (∀ (l0 l1 l2 l3 l5 l6 : Value) (x : Int32) (S : List Value) (h : zH), rn 236 113 [l0, l1, l2, l3, .int x, l5, l6] S h = nl l3 (rn 236 116 [l0, l1, l2, l3, .int (x + (nI 1)), l5, l6] S h)) ∧
  (∀ (l0 l1 l2 l3 l4 l5 l6 : Value) (S : List Value) (h : zH), rn 236 116 [l0, l1, l2, l3, l4, l5, l6] S h = rn 236 53 [l0, l1, l2, l3, l4, l5, l6] S h) ∧
  (∀ (l0 l1 l2 l4 l5 l6 : Value) (x : Int32) (S : List Value) (h : zH), rn 236 119 [l0, l1, l2, .int x, l4, l5, l6] S h = nl l2 (rn 236 122 [l0, l1, l2, .int (x + (nI 1)), l4, l5, l6] S h)) ∧
  (∀ (l0 l1 l2 l3 l4 l5 l6 : Value) (S : List Value) (h : zH), rn 236 122 [l0, l1, l2, l3, l4, l5, l6] S h = rn 236 45 [l0, l1, l2, l3, l4, l5, l6] S h) ∧
  (∀ (l0 l1 l2 l3 l4 l5 l6 : Value) (S : List Value) (h : zH), rn 236 125 [l0, l1, l2, l3, l4, l5, l6] S h = rn 236 126 [l0, l1, l2, l3, l4, l5, l6] (.int (nI 0) :: S) h) ∧
  (∀ (l0 l1 l2 l3 l4 l5 l6 : Value) (x : Int32) (S : List Value) (h : zH), rn 236 126 [l0, l1, l2, l3, l4, l5, l6] (.int x :: S) h = nl l2 (rn 236 127 [l0, l1, l2, .int x, l4, l5, l6] S h)) ∧
  (∀ (l0 l1 l3 l4 l5 l6 : Value) (x : Int32) (S : List Value) (h : zH), rn 236 128 [l0, l1, .int x, l3, l4, l5, l6] S h = rn 236 129 [l0, l1, .int x, l3, l4, l5, l6] (.int x :: S) h) ∧
  (∀ (l0 l1 l2 l3 l4 l5 l6 : Value) (x : Int32) (y : Int32) (S : List Value) (h : zH), rn 236 129 [l0, l1, l2, l3, l4, l5, l6] (.int y :: .int x :: S) h = if y < x then rn 236 144 [l0, l1, l2, l3, l4, l5, l6] S h else rn 236 132 [l0, l1, l2, l3, l4, l5, l6] S h) ∧
  (∀ (l1 l2 l3 l4 l5 l6 : Value) (x : Nat) (S : List Value) (h : zH), rn 236 132 [.ref x, l1, l2, l3, l4, l5, l6] S h = rn 236 133 [.ref x, l1, l2, l3, l4, l5, l6] (.ref x :: S) h) ∧
  (∀ (l0 l2 l3 l4 l5 l6 : Value) (x : Int32) (S : List Value) (h : zH), rn 236 133 [l0, .int x, l2, l3, l4, l5, l6] S h = rn 236 134 [l0, .int x, l2, l3, l4, l5, l6] (.int x :: S) h) ∧
  (∀ (l0 l1 l2 l4 l5 l6 : Value) (x : Int32) (S : List Value) (h : zH), rn 236 134 [l0, l1, l2, .int x, l4, l5, l6] S h = rn 236 135 [l0, l1, l2, .int x, l4, l5, l6] (.int x :: S) h) ∧
  (∀ (l0 l1 l2 l3 l4 l5 l6 : Value) (o : Nat) (v0 : Value) (v1 : Value) (S : List Value) (h : zH), rn 236 135 [l0, l1, l2, l3, l4, l5, l6] (v1 :: v0 :: .ref o :: S) h = if zkd h o = 12 ∧ zsum S ≤ 8 then zcall (ev 247 [.ref o, v0, v1] h) (fun v h => rn 236 138 [l0, l1, l2, l3, l4, l5, l6] (zpush v S) h) else none) ∧
  (∀ (l0 l1 l2 l4 l5 l6 : Value) (x : Int32) (S : List Value) (h : zH), rn 236 138 [l0, l1, l2, .int x, l4, l5, l6] S h = nl l2 (rn 236 141 [l0, l1, l2, .int (x + (nI 1)), l4, l5, l6] S h)) ∧
  (∀ (l0 l1 l2 l3 l4 l5 l6 : Value) (S : List Value) (h : zH), rn 236 141 [l0, l1, l2, l3, l4, l5, l6] S h = rn 236 127 [l0, l1, l2, l3, l4, l5, l6] S h) ∧
  (∀ (l0 l1 l2 l3 l4 l5 l6 : Value) (h : zH), rn 236 144 [l0, l1, l2, l3, l4, l5, l6] [] h = some (none, h)) := ⟨fun _ _ _ _ _ _ _ _ _ => r_iconst (show zdec 236 0 = some (.iconst 0, 1) by decide +kernel) rfl rfl,
  fun _ _ _ _ _ _ _ _ _ _ => r_istore_n (show zdec 236 1 = some (.istore_n 3, 1) by decide +kernel) rfl rfl (Nat.le_of_ble_eq_true rfl) rfl rfl,
  fun _ _ _ _ _ _ _ _ _ => r_iconst (show zdec 236 3 = some (.iconst 4, 1) by decide +kernel) rfl rfl,
  fun _ _ _ _ _ _ _ _ _ _ _ => r_icmpge (show zdec 236 4 = some (.if_icmp .ge 39, 3) by decide +kernel) rfl rfl,
  fun _ _ _ _ _ _ _ _ _ => r_aload_nr (show zdec 236 7 = some (.aload_n 0, 1) by decide +kernel) rfl rfl,
  fun _ _ _ _ _ _ _ _ _ => r_iload_n (show zdec 236 8 = some (.iload_n 1, 1) by decide +kernel) rfl rfl,
  fun _ _ _ _ _ _ _ _ _ => r_iload_n (show zdec 236 9 = some (.iload_n 2, 1) by decide +kernel) rfl rfl,
  fun _ _ _ _ _ _ _ _ _ => r_iload_n (show zdec 236 10 = some (.iload_n 3, 1) by decide +kernel) rfl rfl,
  fun _ _ _ _ _ _ _ _ _ _ _ _ _ => r_cV [_, _, _] rfl (show zdec 236 11 = some (.invokevirtual 136, 3) by decide +kernel) (show zst.lookup (236 * zKEY + 136) = some (1, 237, 3, 12) by decide +kernel) (by decide) rfl,
  fun _ _ _ _ _ _ _ _ _ _ => r_lstore (show zdec 236 14 = some (.lstore 4, 2) by decide +kernel) rfl (Nat.le_of_ble_eq_true rfl) rfl rfl,
  fun _ _ _ _ _ _ _ _ _ => r_aload_nr (show zdec 236 16 = some (.aload_n 0, 1) by decide +kernel) rfl rfl,
  fun _ _ _ _ _ _ _ _ _ => r_iload_n (show zdec 236 17 = some (.iload_n 1, 1) by decide +kernel) rfl rfl,
  fun _ _ _ _ _ _ _ _ _ => r_iload_n (show zdec 236 18 = some (.iload_n 2, 1) by decide +kernel) rfl rfl,
  fun _ _ _ _ _ _ _ _ _ => r_iload_n (show zdec 236 19 = some (.iload_n 3, 1) by decide +kernel) rfl rfl,
  fun _ _ _ _ _ _ _ _ _ => r_iload_n (show zdec 236 20 = some (.iload_n 2, 1) by decide +kernel) rfl rfl,
  fun _ _ _ _ _ _ _ _ _ => r_iconst (show zdec 236 21 = some (.iconst 0, 1) by decide +kernel) rfl rfl,
  fun _ _ _ _ _ _ _ _ _ => r_iload_n (show zdec 236 22 = some (.iload_n 3, 1) by decide +kernel) rfl rfl,
  fun _ _ _ _ _ _ _ _ _ _ => r_ifne (show zdec 236 23 = some (.ifCond .ne 8, 3) by decide +kernel) rfl rfl,
  fun _ _ _ _ _ _ _ _ _ => r_lload (show zdec 236 26 = some (.lload 4, 2) by decide +kernel) rfl rfl,
  fun _ _ _ _ _ _ _ _ _ => r_goto (show zdec 236 28 = some (.goto 6, 3) by decide +kernel) rfl,
  fun _ _ _ _ _ _ _ _ _ => r_lload (show zdec 236 31 = some (.lload 4, 2) by decide +kernel) rfl rfl,
  fun _ _ _ _ _ _ _ _ _ _ => r_lneg (show zdec 236 33 = some (.lneg, 1) by decide +kernel) rfl,
  fun _ _ _ _ _ _ _ _ _ _ _ _ _ _ _ _ => r_cV [_, _, _, _, _, _] rfl (show zdec 236 34 = some (.invokevirtual 140, 3) by decide +kernel) (show zst.lookup (236 * zKEY + 140) = some (1, 243, 6, 12) by decide +kernel) (by decide) rfl,
  fun _ _ _ _ _ _ _ _ _ => r_iinc (show zdec 236 37 = some (.iinc 3 1, 3) by decide +kernel) rfl rfl rfl (Nat.le_of_ble_eq_true rfl) rfl rfl,
  fun _ _ _ _ _ _ _ _ _ => r_goto (show zdec 236 40 = some (.goto (-38), 3) by decide +kernel) rfl,
  fun _ _ _ _ _ _ _ _ _ => r_iconst (show zdec 236 43 = some (.iconst 0, 1) by decide +kernel) rfl rfl,
  fun _ _ _ _ _ _ _ _ _ _ => r_istore_n (show zdec 236 44 = some (.istore_n 3, 1) by decide +kernel) rfl rfl (Nat.le_of_ble_eq_true rfl) rfl rfl,
  fun _ _ _ _ _ _ _ _ _ => r_iload_n (show zdec 236 46 = some (.iload_n 2, 1) by decide +kernel) rfl rfl,
  fun _ _ _ _ _ _ _ _ _ _ _ => r_icmpge (show zdec 236 47 = some (.if_icmp .ge 78, 3) by decide +kernel) rfl rfl,
  fun _ _ _ _ _ _ _ _ _ => r_iconst (show zdec 236 50 = some (.iconst 0, 1) by decide +kernel) rfl rfl,
  fun _ _ _ _ _ _ _ _ _ _ => r_istore (show zdec 236 51 = some (.istore 4, 2) by decide +kernel) rfl (Nat.le_of_ble_eq_true rfl) rfl rfl,
  fun _ _ _ _ _ _ _ _ _ => r_iconst (show zdec 236 55 = some (.iconst 4, 1) by decide +kernel) rfl rfl,
  fun _ _ _ _ _ _ _ _ _ _ _ => r_icmpge (show zdec 236 56 = some (.if_icmp .ge 63, 3) by decide +kernel) rfl rfl,
  fun _ _ _ _ _ _ _ _ _ => r_aload_nr (show zdec 236 59 = some (.aload_n 0, 1) by decide +kernel) rfl rfl,
  fun _ _ _ _ _ _ _ _ _ => r_iload_n (show zdec 236 60 = some (.iload_n 1, 1) by decide +kernel) rfl rfl,
  fun _ _ _ _ _ _ _ _ _ => r_iload_n (show zdec 236 61 = some (.iload_n 3, 1) by decide +kernel) rfl rfl,
  fun _ _ _ _ _ _ _ _ _ => r_iload (show zdec 236 62 = some (.iload 4, 2) by decide +kernel) rfl rfl,
  fun _ _ _ _ _ _ _ _ _ _ _ _ _ => r_cV [_, _, _] rfl (show zdec 236 64 = some (.invokevirtual 136, 3) by decide +kernel) (show zst.lookup (236 * zKEY + 136) = some (1, 237, 3, 12) by decide +kernel) (by decide) rfl,
  fun _ _ _ _ _ _ _ _ _ => r_aload_nr (show zdec 236 67 = some (.aload_n 0, 1) by decide +kernel) rfl rfl,
  fun _ _ _ _ _ _ _ _ _ => r_iload_n (show zdec 236 68 = some (.iload_n 1, 1) by decide +kernel) rfl rfl,
  fun _ _ _ _ _ _ _ _ _ => r_iload_n (show zdec 236 69 = some (.iload_n 3, 1) by decide +kernel) rfl rfl,
  fun _ _ _ _ _ _ _ _ _ => r_iload (show zdec 236 70 = some (.iload 4, 2) by decide +kernel) rfl rfl,
  fun _ _ _ _ _ _ _ _ _ _ _ _ _ => r_cV [_, _, _] rfl (show zdec 236 72 = some (.invokevirtual 144, 3) by decide +kernel) (show zst.lookup (236 * zKEY + 144) = some (1, 245, 3, 12) by decide +kernel) (by decide) rfl,
  fun _ _ _ _ _ _ _ _ _ _ _ => r_lsub (show zdec 236 75 = some (.lsub, 1) by decide +kernel) rfl,
  fun _ _ _ _ _ _ _ _ _ _ => r_lstore (show zdec 236 76 = some (.lstore 5, 2) by decide +kernel) rfl (Nat.le_of_ble_eq_true rfl) rfl rfl,
  fun _ _ _ _ _ _ _ _ _ => r_lload (show zdec 236 78 = some (.lload 5, 2) by decide +kernel) rfl rfl,
  fun _ _ _ _ _ _ _ _ _ => r_lconst (show zdec 236 80 = some (.lconst 0, 1) by decide +kernel) rfl rfl,
  fun _ _ _ _ _ _ _ _ _ _ _ => r_lcmp (show zdec 236 81 = some (.lcmp, 1) by decide +kernel) rfl,
  fun _ _ _ _ _ _ _ _ _ _ => r_ifeq (show zdec 236 82 = some (.ifCond .eq 31, 3) by decide +kernel) rfl rfl,
  fun _ _ _ _ _ _ _ _ _ => r_aload_nr (show zdec 236 85 = some (.aload_n 0, 1) by decide +kernel) rfl rfl,
  fun _ _ _ _ _ _ _ _ _ => r_iload_n (show zdec 236 86 = some (.iload_n 1, 1) by decide +kernel) rfl rfl,
  fun _ _ _ _ _ _ _ _ _ => r_iload_n (show zdec 236 87 = some (.iload_n 2, 1) by decide +kernel) rfl rfl,
  fun _ _ _ _ _ _ _ _ _ => r_iload (show zdec 236 88 = some (.iload 4, 2) by decide +kernel) rfl rfl,
  fun _ _ _ _ _ _ _ _ _ => r_iload_n (show zdec 236 90 = some (.iload_n 3, 1) by decide +kernel) rfl rfl,
  fun _ _ _ _ _ _ _ _ _ => r_aload_nr (show zdec 236 91 = some (.aload_n 0, 1) by decide +kernel) rfl rfl,
  fun _ _ _ _ _ _ _ _ _ => r_iload_n (show zdec 236 92 = some (.iload_n 1, 1) by decide +kernel) rfl rfl,
  fun _ _ _ _ _ _ _ _ _ => r_iload_n (show zdec 236 93 = some (.iload_n 3, 1) by decide +kernel) rfl rfl,
  fun _ _ _ _ _ _ _ _ _ _ _ _ => r_cV [_, _] rfl (show zdec 236 94 = some (.invokevirtual 147, 3) by decide +kernel) (show zst.lookup (236 * zKEY + 147) = some (1, 246, 2, 12) by decide +kernel) (by decide) rfl,
  fun _ _ _ _ _ _ _ _ _ => r_iload (show zdec 236 97 = some (.iload 4, 2) by decide +kernel) rfl rfl,
  fun _ _ _ _ _ _ _ _ _ _ => r_ifne (show zdec 236 99 = some (.ifCond .ne 8, 3) by decide +kernel) rfl rfl,
  fun _ _ _ _ _ _ _ _ _ => r_lload (show zdec 236 102 = some (.lload 5, 2) by decide +kernel) rfl rfl,
  fun _ _ _ _ _ _ _ _ _ => r_goto (show zdec 236 104 = some (.goto 6, 3) by decide +kernel) rfl,
  fun _ _ _ _ _ _ _ _ _ => r_lload (show zdec 236 107 = some (.lload 5, 2) by decide +kernel) rfl rfl,
  fun _ _ _ _ _ _ _ _ _ _ => r_lneg (show zdec 236 109 = some (.lneg, 1) by decide +kernel) rfl,
  fun _ _ _ _ _ _ _ _ _ _ _ _ _ _ _ _ => r_cV [_, _, _, _, _, _] rfl (show zdec 236 110 = some (.invokevirtual 140, 3) by decide +kernel) (show zst.lookup (236 * zKEY + 140) = some (1, 243, 6, 12) by decide +kernel) (by decide) rfl,
  fun _ _ _ _ _ _ _ _ _ => r_iinc (show zdec 236 113 = some (.iinc 4 1, 3) by decide +kernel) rfl rfl rfl (Nat.le_of_ble_eq_true rfl) rfl rfl,
  fun _ _ _ _ _ _ _ _ _ => r_goto (show zdec 236 116 = some (.goto (-63), 3) by decide +kernel) rfl,
  fun _ _ _ _ _ _ _ _ _ => r_iinc (show zdec 236 119 = some (.iinc 3 1, 3) by decide +kernel) rfl rfl rfl (Nat.le_of_ble_eq_true rfl) rfl rfl,
  fun _ _ _ _ _ _ _ _ _ => r_goto (show zdec 236 122 = some (.goto (-77), 3) by decide +kernel) rfl,
  fun _ _ _ _ _ _ _ _ _ => r_iconst (show zdec 236 125 = some (.iconst 0, 1) by decide +kernel) rfl rfl,
  fun _ _ _ _ _ _ _ _ _ _ => r_istore_n (show zdec 236 126 = some (.istore_n 3, 1) by decide +kernel) rfl rfl (Nat.le_of_ble_eq_true rfl) rfl rfl,
  fun _ _ _ _ _ _ _ _ _ => r_iload_n (show zdec 236 128 = some (.iload_n 2, 1) by decide +kernel) rfl rfl,
  fun _ _ _ _ _ _ _ _ _ _ _ => r_icmpgt (show zdec 236 129 = some (.if_icmp .gt 15, 3) by decide +kernel) rfl rfl,
  fun _ _ _ _ _ _ _ _ _ => r_aload_nr (show zdec 236 132 = some (.aload_n 0, 1) by decide +kernel) rfl rfl,
  fun _ _ _ _ _ _ _ _ _ => r_iload_n (show zdec 236 133 = some (.iload_n 1, 1) by decide +kernel) rfl rfl,
  fun _ _ _ _ _ _ _ _ _ => r_iload_n (show zdec 236 134 = some (.iload_n 3, 1) by decide +kernel) rfl rfl,
  fun _ _ _ _ _ _ _ _ _ _ _ _ => r_cV [_, _] rfl (show zdec 236 135 = some (.invokevirtual 150, 3) by decide +kernel) (show zst.lookup (236 * zKEY + 150) = some (1, 247, 2, 12) by decide +kernel) (by decide) rfl,
  fun _ _ _ _ _ _ _ _ _ => r_iinc (show zdec 236 138 = some (.iinc 3 1, 3) by decide +kernel) rfl rfl rfl (Nat.le_of_ble_eq_true rfl) rfl rfl,
  fun _ _ _ _ _ _ _ _ _ => r_goto (show zdec 236 141 = some (.goto (-14), 3) by decide +kernel) rfl,
  fun _ _ _ _ _ _ _ _ => r_vret (show zdec 236 144 = some (.return_, 1) by decide +kernel) (by decide +kernel)⟩
theorem zl_236_2 : ∀ (l0 l1 l2 l4 l5 l6 : Value) (x : Int32) (S : List Value) (h : zH), rn 236 2 [l0, l1, l2, .int x, l4, l5, l6] S h = rn 236 3 [l0, l1, l2, .int x, l4, l5, l6] (.int x :: S) h := fun _ _ _ _ _ _ _ _ _ => r_iload_n (show zdec 236 2 = some (.iload_n 3, 1) by decide +kernel) rfl rfl
theorem zl_236_45 : ∀ (l0 l1 l2 l4 l5 l6 : Value) (x : Int32) (S : List Value) (h : zH), rn 236 45 [l0, l1, l2, .int x, l4, l5, l6] S h = rn 236 46 [l0, l1, l2, .int x, l4, l5, l6] (.int x :: S) h := fun _ _ _ _ _ _ _ _ _ => r_iload_n (show zdec 236 45 = some (.iload_n 3, 1) by decide +kernel) rfl rfl
theorem zl_236_53 : ∀ (l0 l1 l2 l3 l5 l6 : Value) (x : Int32) (S : List Value) (h : zH), rn 236 53 [l0, l1, l2, l3, .int x, l5, l6] S h = rn 236 55 [l0, l1, l2, l3, .int x, l5, l6] (.int x :: S) h := fun _ _ _ _ _ _ _ _ _ => r_iload (show zdec 236 53 = some (.iload 4, 2) by decide +kernel) rfl rfl
theorem zl_236_127 : ∀ (l0 l1 l2 l4 l5 l6 : Value) (x : Int32) (S : List Value) (h : zH), rn 236 127 [l0, l1, l2, .int x, l4, l5, l6] S h = rn 236 128 [l0, l1, l2, .int x, l4, l5, l6] (.int x :: S) h := fun _ _ _ _ _ _ _ _ _ => r_iload_n (show zdec 236 127 = some (.iload_n 3, 1) by decide +kernel) rfl rfl
theorem ze_236 : ∀ (a0 : Nat) (a1 : Int32) (a2 : Int32) (h : zH), ev 236 [.ref a0, .int a1, .int a2] h = rn 236 0 [.ref a0, .int a1, .int a2, .float 0, .float 0, .float 0, .float 0] [] h := fun _ _ _ _ => if_pos (Nat.le_of_ble_eq_true rfl)
-- PayrollRunModel.addLine(IIIIIJ)V
theorem zr_243 : (∀ (l1 l2 l3 l4 l5 l6 l7 l8 l9 : Value) (x : Nat) (S : List Value) (h : zH), rn 243 0 [.ref x, l1, l2, l3, l4, l5, l6, l7, l8, l9] S h = rn 243 1 [.ref x, l1, l2, l3, l4, l5, l6, l7, l8, l9] (.ref x :: S) h) ∧
  (∀ (l0 l2 l3 l4 l5 l6 l7 l8 l9 : Value) (x : Int32) (S : List Value) (h : zH), rn 243 1 [l0, .int x, l2, l3, l4, l5, l6, l7, l8, l9] S h = rn 243 2 [l0, .int x, l2, l3, l4, l5, l6, l7, l8, l9] (.int x :: S) h) ∧
  (∀ (l0 l1 l2 l3 l4 l5 l6 l7 l8 l9 : Value) (S : List Value) (h : zH), rn 243 2 [l0, l1, l2, l3, l4, l5, l6, l7, l8, l9] S h = rn 243 5 [l0, l1, l2, l3, l4, l5, l6, l7, l8, l9] (.int (nI 147) :: S) h) ∧
  (∀ (l0 l1 l3 l4 l5 l6 l7 l8 l9 : Value) (x : Int32) (S : List Value) (h : zH), rn 243 5 [l0, l1, .int x, l3, l4, l5, l6, l7, l8, l9] S h = rn 243 6 [l0, l1, .int x, l3, l4, l5, l6, l7, l8, l9] (.int x :: S) h) ∧
  (∀ (l0 l1 l2 l3 l4 l5 l6 l7 l8 l9 : Value) (x : Int32) (y : Int32) (S : List Value) (h : zH), rn 243 6 [l0, l1, l2, l3, l4, l5, l6, l7, l8, l9] (.int y :: .int x :: S) h = rn 243 7 [l0, l1, l2, l3, l4, l5, l6, l7, l8, l9] (.int (x + y) :: S) h) ∧
  (∀ (l0 l1 l2 l3 l4 l5 l6 l7 l8 l9 : Value) (o : Nat) (v0 : Value) (v1 : Value) (S : List Value) (h : zH), rn 243 7 [l0, l1, l2, l3, l4, l5, l6, l7, l8, l9] (v1 :: v0 :: .ref o :: S) h = if zkd h o = 12 ∧ zsum S ≤ 8 then zcall (ev 226 [.ref o, v0, v1] h) (fun v h => rn 243 10 [l0, l1, l2, l3, l4, l5, l6, l7, l8, l9] (zpush v S) h) else none) ∧
  (∀ (l0 l1 l2 l3 l4 l5 l6 l7 l8 l9 : Value) (x : Int64) (S : List Value) (h : zH), rn 243 10 [l0, l1, l2, l3, l4, l5, l6, l7, l8, l9] (.long x :: S) h = rn 243 11 [l0, l1, l2, l3, l4, l5, l6, l7, l8, l9] (.int x.toInt32 :: S) h) ∧
  (∀ (l0 l1 l2 l3 l4 l5 l6 l7 l8 l9 : Value) (x : Int32) (S : List Value) (h : zH), rn 243 11 [l0, l1, l2, l3, l4, l5, l6, l7, l8, l9] (.int x :: S) h = nl l7 (rn 243 13 [l0, l1, l2, l3, l4, l5, l6, l7, .int x, l9] S h)) ∧
  (∀ (l0 l2 l3 l4 l5 l6 l7 l8 l9 : Value) (x : Int32) (S : List Value) (h : zH), rn 243 13 [l0, .int x, l2, l3, l4, l5, l6, l7, l8, l9] S h = rn 243 14 [l0, .int x, l2, l3, l4, l5, l6, l7, l8, l9] (.int x :: S) h) ∧
  (∀ (l0 l1 l3 l4 l5 l6 l7 l8 l9 : Value) (x : Int32) (S : List Value) (h : zH), rn 243 14 [l0, l1, .int x, l3, l4, l5, l6, l7, l8, l9] S h = rn 243 15 [l0, l1, .int x, l3, l4, l5, l6, l7, l8, l9] (.int x :: S) h) ∧
  (∀ (l0 l1 l2 l3 l4 l5 l6 l7 l9 : Value) (x : Int32) (S : List Value) (h : zH), rn 243 15 [l0, l1, l2, l3, l4, l5, l6, l7, .int x, l9] S h = rn 243 17 [l0, l1, l2, l3, l4, l5, l6, l7, .int x, l9] (.int x :: S) h) ∧
  (∀ (l0 l1 l2 l3 l4 l5 l6 l7 l8 l9 : Value) (v0 : Value) (v1 : Value) (v2 : Value) (S : List Value) (h : zH), rn 243 17 [l0, l1, l2, l3, l4, l5, l6, l7, l8, l9] (v2 :: v1 :: v0 :: S) h = if zsum S ≤ 8 then zcall (ev 244 [v0, v1, v2] h) (fun v h => rn 243 20 [l0, l1, l2, l3, l4, l5, l6, l7, l8, l9] (zpush v S) h) else none) ∧
  (∀ (l0 l1 l2 l3 l4 l5 l6 l7 l8 l9 : Value) (x : Int32) (S : List Value) (h : zH), rn 243 20 [l0, l1, l2, l3, l4, l5, l6, l7, l8, l9] (.int x :: S) h = nl l8 (rn 243 22 [l0, l1, l2, l3, l4, l5, l6, l7, l8, .int x] S h)) ∧
  (∀ (l1 l2 l3 l4 l5 l6 l7 l8 l9 : Value) (x : Nat) (S : List Value) (h : zH), rn 243 22 [.ref x, l1, l2, l3, l4, l5, l6, l7, l8, l9] S h = rn 243 23 [.ref x, l1, l2, l3, l4, l5, l6, l7, l8, l9] (.ref x :: S) h) ∧
  (∀ (l0 l1 l2 l3 l4 l5 l6 l7 l8 l9 : Value) (a : Nat) (S : List Value) (h : zH), rn 243 23 [l0, l1, l2, l3, l4, l5, l6, l7, l8, l9] (.ref a :: S) h = zgf h a 12 0 fun v => rn 243 26 [l0, l1, l2, l3, l4, l5, l6, l7, l8, l9] (v :: S) h) ∧
  (∀ (l0 l1 l2 l3 l4 l5 l6 l7 l8 : Value) (x : Int32) (S : List Value) (h : zH), rn 243 26 [l0, l1, l2, l3, l4, l5, l6, l7, l8, .int x] S h = rn 243 28 [l0, l1, l2, l3, l4, l5, l6, l7, l8, .int x] (.int x :: S) h) ∧
  (∀ (l0 l1 l2 l4 l5 l6 l7 l8 l9 : Value) (x : Int32) (S : List Value) (h : zH), rn 243 28 [l0, l1, l2, .int x, l4, l5, l6, l7, l8, l9] S h = rn 243 29 [l0, l1, l2, .int x, l4, l5, l6, l7, l8, l9] (.int x :: S) h) ∧
  (∀ (l0 l1 l2 l3 l4 l5 l6 l7 l8 l9 : Value) (x : Int32) (S : List Value) (h : zH), rn 243 29 [l0, l1, l2, l3, l4, l5, l6, l7, l8, l9] (.int x :: S) h = rn 243 30 [l0, l1, l2, l3, l4, l5, l6, l7, l8, l9] (.long x.toInt64 :: S) h) ∧
  (∀ (l0 l1 l2 l3 l4 l5 l6 l7 l8 l9 : Value) (a : Nat) (j : Int32) (x : Int64) (S : List Value) (h : zH), rn 243 30 [l0, l1, l2, l3, l4, l5, l6, l7, l8, l9] (.long x :: .int j :: .ref a :: S) h = zsj h a j x fun h => rn 243 31 [l0, l1, l2, l3, l4, l5, l6, l7, l8, l9] S h) ∧
  (∀ (l1 l2 l3 l4 l5 l6 l7 l8 l9 : Value) (x : Nat) (S : List Value) (h : zH), rn 243 31 [.ref x, l1, l2, l3, l4, l5, l6, l7, l8, l9] S h = rn 243 32 [.ref x, l1, l2, l3, l4, l5, l6, l7, l8, l9] (.ref x :: S) h) ∧
  (∀ (l0 l1 l2 l3 l4 l5 l6 l7 l8 l9 : Value) (a : Nat) (S : List Value) (h : zH), rn 243 32 [l0, l1, l2, l3, l4, l5, l6, l7, l8, l9] (.ref a :: S) h = zgf h a 12 0 fun v => rn 243 35 [l0, l1, l2, l3, l4, l5, l6, l7, l8, l9] (v :: S) h) ∧
  (∀ (l0 l1 l2 l3 l4 l5 l6 l7 l8 : Value) (x : Int32) (S : List Value) (h : zH), rn 243 35 [l0, l1, l2, l3, l4, l5, l6, l7, l8, .int x] S h = rn 243 37 [l0, l1, l2, l3, l4, l5, l6, l7, l8, .int x] (.int x :: S) h) ∧
  (∀ (l0 l1 l2 l3 l4 l5 l6 l7 l8 l9 : Value) (S : List Value) (h : zH), rn 243 37 [l0, l1, l2, l3, l4, l5, l6, l7, l8, l9] S h = rn 243 38 [l0, l1, l2, l3, l4, l5, l6, l7, l8, l9] (.int (nI 1) :: S) h) ∧
  (∀ (l0 l1 l2 l3 l4 l5 l6 l7 l8 l9 : Value) (x : Int32) (y : Int32) (S : List Value) (h : zH), rn 243 38 [l0, l1, l2, l3, l4, l5, l6, l7, l8, l9] (.int y :: .int x :: S) h = rn 243 39 [l0, l1, l2, l3, l4, l5, l6, l7, l8, l9] (.int (x + y) :: S) h) ∧
  (∀ (l0 l1 l2 l3 l5 l6 l7 l8 l9 : Value) (x : Int32) (S : List Value) (h : zH), rn 243 39 [l0, l1, l2, l3, .int x, l5, l6, l7, l8, l9] S h = rn 243 41 [l0, l1, l2, l3, .int x, l5, l6, l7, l8, l9] (.int x :: S) h) ∧
  (∀ (l0 l1 l2 l3 l4 l5 l6 l7 l8 l9 : Value) (x : Int32) (S : List Value) (h : zH), rn 243 41 [l0, l1, l2, l3, l4, l5, l6, l7, l8, l9] (.int x :: S) h = rn 243 42 [l0, l1, l2, l3, l4, l5, l6, l7, l8, l9] (.long x.toInt64 :: S) h) ∧
  (∀ (l0 l1 l2 l3 l4 l5 l6 l7 l8 l9 : Value) (a : Nat) (j : Int32) (x : Int64) (S : List Value) (h : zH), rn 243 42 [l0, l1, l2, l3, l4, l5, l6, l7, l8, l9] (.long x :: .int j :: .ref a :: S) h = zsj h a j x fun h => rn 243 43 [l0, l1, l2, l3, l4, l5, l6, l7, l8, l9] S h) ∧
  (∀ (l1 l2 l3 l4 l5 l6 l7 l8 l9 : Value) (x : Nat) (S : List Value) (h : zH), rn 243 43 [.ref x, l1, l2, l3, l4, l5, l6, l7, l8, l9] S h = rn 243 44 [.ref x, l1, l2, l3, l4, l5, l6, l7, l8, l9] (.ref x :: S) h) ∧
  (∀ (l0 l1 l2 l3 l4 l5 l6 l7 l8 l9 : Value) (a : Nat) (S : List Value) (h : zH), rn 243 44 [l0, l1, l2, l3, l4, l5, l6, l7, l8, l9] (.ref a :: S) h = zgf h a 12 0 fun v => rn 243 47 [l0, l1, l2, l3, l4, l5, l6, l7, l8, l9] (v :: S) h) ∧
  (∀ (l0 l1 l2 l3 l4 l5 l6 l7 l8 : Value) (x : Int32) (S : List Value) (h : zH), rn 243 47 [l0, l1, l2, l3, l4, l5, l6, l7, l8, .int x] S h = rn 243 49 [l0, l1, l2, l3, l4, l5, l6, l7, l8, .int x] (.int x :: S) h) ∧
  (∀ (l0 l1 l2 l3 l4 l5 l6 l7 l8 l9 : Value) (S : List Value) (h : zH), rn 243 49 [l0, l1, l2, l3, l4, l5, l6, l7, l8, l9] S h = rn 243 50 [l0, l1, l2, l3, l4, l5, l6, l7, l8, l9] (.int (nI 2) :: S) h) ∧
  (∀ (l0 l1 l2 l3 l4 l5 l6 l7 l8 l9 : Value) (x : Int32) (y : Int32) (S : List Value) (h : zH), rn 243 50 [l0, l1, l2, l3, l4, l5, l6, l7, l8, l9] (.int y :: .int x :: S) h = rn 243 51 [l0, l1, l2, l3, l4, l5, l6, l7, l8, l9] (.int (x + y) :: S) h) ∧
  (∀ (l0 l1 l2 l3 l4 l6 l7 l8 l9 : Value) (x : Int32) (S : List Value) (h : zH), rn 243 51 [l0, l1, l2, l3, l4, .int x, l6, l7, l8, l9] S h = rn 243 53 [l0, l1, l2, l3, l4, .int x, l6, l7, l8, l9] (.int x :: S) h) ∧
  (∀ (l0 l1 l2 l3 l4 l5 l6 l7 l8 l9 : Value) (x : Int32) (S : List Value) (h : zH), rn 243 53 [l0, l1, l2, l3, l4, l5, l6, l7, l8, l9] (.int x :: S) h = rn 243 54 [l0, l1, l2, l3, l4, l5, l6, l7, l8, l9] (.long x.toInt64 :: S) h) ∧
  (∀ (l0 l1 l2 l3 l4 l5 l6 l7 l8 l9 : Value) (a : Nat) (j : Int32) (x : Int64) (S : List Value) (h : zH), rn 243 54 [l0, l1, l2, l3, l4, l5, l6, l7, l8, l9] (.long x :: .int j :: .ref a :: S) h = zsj h a j x fun h => rn 243 55 [l0, l1, l2, l3, l4, l5, l6, l7, l8, l9] S h) ∧
  (∀ (l1 l2 l3 l4 l5 l6 l7 l8 l9 : Value) (x : Nat) (S : List Value) (h : zH), rn 243 55 [.ref x, l1, l2, l3, l4, l5, l6, l7, l8, l9] S h = rn 243 56 [.ref x, l1, l2, l3, l4, l5, l6, l7, l8, l9] (.ref x :: S) h) ∧
  (∀ (l0 l1 l2 l3 l4 l5 l6 l7 l8 l9 : Value) (a : Nat) (S : List Value) (h : zH), rn 243 56 [l0, l1, l2, l3, l4, l5, l6, l7, l8, l9] (.ref a :: S) h = zgf h a 12 0 fun v => rn 243 59 [l0, l1, l2, l3, l4, l5, l6, l7, l8, l9] (v :: S) h) ∧
  (∀ (l0 l1 l2 l3 l4 l5 l6 l7 l8 : Value) (x : Int32) (S : List Value) (h : zH), rn 243 59 [l0, l1, l2, l3, l4, l5, l6, l7, l8, .int x] S h = rn 243 61 [l0, l1, l2, l3, l4, l5, l6, l7, l8, .int x] (.int x :: S) h) ∧
  (∀ (l0 l1 l2 l3 l4 l5 l6 l7 l8 l9 : Value) (S : List Value) (h : zH), rn 243 61 [l0, l1, l2, l3, l4, l5, l6, l7, l8, l9] S h = rn 243 62 [l0, l1, l2, l3, l4, l5, l6, l7, l8, l9] (.int (nI 3) :: S) h) ∧
  (∀ (l0 l1 l2 l3 l4 l5 l6 l7 l8 l9 : Value) (x : Int32) (y : Int32) (S : List Value) (h : zH), rn 243 62 [l0, l1, l2, l3, l4, l5, l6, l7, l8, l9] (.int y :: .int x :: S) h = rn 243 63 [l0, l1, l2, l3, l4, l5, l6, l7, l8, l9] (.int (x + y) :: S) h) ∧
  (∀ (l0 l1 l2 l3 l4 l5 l7 l8 l9 : Value) (x : Int64) (S : List Value) (h : zH), rn 243 63 [l0, l1, l2, l3, l4, l5, .long x, l7, l8, l9] S h = rn 243 65 [l0, l1, l2, l3, l4, l5, .long x, l7, l8, l9] (.long x :: S) h) ∧
  (∀ (l0 l1 l2 l3 l4 l5 l6 l7 l8 l9 : Value) (a : Nat) (j : Int32) (x : Int64) (S : List Value) (h : zH), rn 243 65 [l0, l1, l2, l3, l4, l5, l6, l7, l8, l9] (.long x :: .int j :: .ref a :: S) h = zsj h a j x fun h => rn 243 66 [l0, l1, l2, l3, l4, l5, l6, l7, l8, l9] S h) ∧
  (∀ (l1 l2 l3 l4 l5 l6 l7 l8 l9 : Value) (x : Nat) (S : List Value) (h : zH), rn 243 66 [.ref x, l1, l2, l3, l4, l5, l6, l7, l8, l9] S h = rn 243 67 [.ref x, l1, l2, l3, l4, l5, l6, l7, l8, l9] (.ref x :: S) h) ∧
  (∀ (l0 l1 l2 l3 l4 l5 l6 l7 l8 l9 : Value) (a : Nat) (S : List Value) (h : zH), rn 243 67 [l0, l1, l2, l3, l4, l5, l6, l7, l8, l9] (.ref a :: S) h = zgf h a 12 0 fun v => rn 243 70 [l0, l1, l2, l3, l4, l5, l6, l7, l8, l9] (v :: S) h) ∧
  (∀ (l0 l2 l3 l4 l5 l6 l7 l8 l9 : Value) (x : Int32) (S : List Value) (h : zH), rn 243 70 [l0, .int x, l2, l3, l4, l5, l6, l7, l8, l9] S h = rn 243 71 [l0, .int x, l2, l3, l4, l5, l6, l7, l8, l9] (.int x :: S) h) ∧
  (∀ (l0 l1 l2 l3 l4 l5 l6 l7 l8 l9 : Value) (S : List Value) (h : zH), rn 243 71 [l0, l1, l2, l3, l4, l5, l6, l7, l8, l9] S h = rn 243 74 [l0, l1, l2, l3, l4, l5, l6, l7, l8, l9] (.int (nI 147) :: S) h) ∧
  (∀ (l0 l1 l3 l4 l5 l6 l7 l8 l9 : Value) (x : Int32) (S : List Value) (h : zH), rn 243 74 [l0, l1, .int x, l3, l4, l5, l6, l7, l8, l9] S h = rn 243 75 [l0, l1, .int x, l3, l4, l5, l6, l7, l8, l9] (.int x :: S) h) ∧
  (∀ (l0 l1 l2 l3 l4 l5 l6 l7 l8 l9 : Value) (x : Int32) (y : Int32) (S : List Value) (h : zH), rn 243 75 [l0, l1, l2, l3, l4, l5, l6, l7, l8, l9] (.int y :: .int x :: S) h = rn 243 76 [l0, l1, l2, l3, l4, l5, l6, l7, l8, l9] (.int (x + y) :: S) h) ∧
  (∀ (l0 l1 l2 l3 l4 l5 l6 l7 l8 l9 : Value) (v0 : Value) (v1 : Value) (S : List Value) (h : zH), rn 243 76 [l0, l1, l2, l3, l4, l5, l6, l7, l8, l9] (v1 :: v0 :: S) h = if zsum S ≤ 8 then zcall (ev 208 [v0, v1] h) (fun v h => rn 243 79 [l0, l1, l2, l3, l4, l5, l6, l7, l8, l9] (zpush v S) h) else none) ∧
  (∀ (l0 l1 l2 l3 l4 l5 l6 l7 l8 l9 : Value) (v : Value) (w : Value) (S : List Value) (h : zH), rn 243 79 [l0, l1, l2, l3, l4, l5, l6, l7, l8, l9] (v :: w :: S) h = c1 v (c1 w (rn 243 80 [l0, l1, l2, l3, l4, l5, l6, l7, l8, l9] (v :: w :: v :: w :: S) h))) ∧
  (∀ (l0 l1 l2 l3 l4 l5 l6 l7 l8 l9 : Value) (a : Nat) (j : Int32) (S : List Value) (h : zH), rn 243 80 [l0, l1, l2, l3, l4, l5, l6, l7, l8, l9] (.int j :: .ref a :: S) h = zlj h a j fun x => rn 243 81 [l0, l1, l2, l3, l4, l5, l6, l7, l8, l9] (.long x :: S) h) ∧
  (∀ (l0 l1 l2 l3 l4 l5 l6 l7 l8 l9 : Value) (S : List Value) (h : zH), rn 243 81 [l0, l1, l2, l3, l4, l5, l6, l7, l8, l9] S h = rn 243 82 [l0, l1, l2, l3, l4, l5, l6, l7, l8, l9] (.long 1 :: S) h) ∧
  (∀ (l0 l1 l2 l3 l4 l5 l6 l7 l8 l9 : Value) (x : Int64) (y : Int64) (S : List Value) (h : zH), rn 243 82 [l0, l1, l2, l3, l4, l5, l6, l7, l8, l9] (.long y :: .long x :: S) h = rn 243 83 [l0, l1, l2, l3, l4, l5, l6, l7, l8, l9] (.long (x + y) :: S) h) ∧
  (∀ (l0 l1 l2 l3 l4 l5 l6 l7 l8 l9 : Value) (a : Nat) (j : Int32) (x : Int64) (S : List Value) (h : zH), rn 243 83 [l0, l1, l2, l3, l4, l5, l6, l7, l8, l9] (.long x :: .int j :: .ref a :: S) h = zsj h a j x fun h => rn 243 84 [l0, l1, l2, l3, l4, l5, l6, l7, l8, l9] S h) ∧
  (∀ (l0 l1 l2 l3 l4 l5 l6 l7 l8 l9 : Value) (h : zH), rn 243 84 [l0, l1, l2, l3, l4, l5, l6, l7, l8, l9] [] h = some (none, h)) := ⟨fun _ _ _ _ _ _ _ _ _ _ _ _ => r_aload_nr (show zdec 243 0 = some (.aload_n 0, 1) by decide +kernel) rfl rfl,
  fun _ _ _ _ _ _ _ _ _ _ _ _ => r_iload_n (show zdec 243 1 = some (.iload_n 1, 1) by decide +kernel) rfl rfl,
  fun _ _ _ _ _ _ _ _ _ _ _ _ => r_sipush (show zdec 243 2 = some (.sipush 147, 3) by decide +kernel) rfl rfl,
  fun _ _ _ _ _ _ _ _ _ _ _ _ => r_iload_n (show zdec 243 5 = some (.iload_n 2, 1) by decide +kernel) rfl rfl,
  fun _ _ _ _ _ _ _ _ _ _ _ _ _ _ => r_iadd (show zdec 243 6 = some (.iadd, 1) by decide +kernel) rfl,
  fun _ _ _ _ _ _ _ _ _ _ _ _ _ _ _ => r_cV [_, _] rfl (show zdec 243 7 = some (.invokevirtual 85, 3) by decide +kernel) (show zst.lookup (243 * zKEY + 85) = some (1, 226, 2, 12) by decide +kernel) (by decide) rfl,
  fun _ _ _ _ _ _ _ _ _ _ _ _ _ => r_l2i (show zdec 243 10 = some (.l2i, 1) by decide +kernel) rfl,
  fun _ _ _ _ _ _ _ _ _ _ _ _ _ => r_istore (show zdec 243 11 = some (.istore 8, 2) by decide +kernel) rfl (Nat.le_of_ble_eq_true rfl) rfl rfl,
  fun _ _ _ _ _ _ _ _ _ _ _ _ => r_iload_n (show zdec 243 13 = some (.iload_n 1, 1) by decide +kernel) rfl rfl,
  fun _ _ _ _ _ _ _ _ _ _ _ _ => r_iload_n (show zdec 243 14 = some (.iload_n 2, 1) by decide +kernel) rfl rfl,
  fun _ _ _ _ _ _ _ _ _ _ _ _ => r_iload (show zdec 243 15 = some (.iload 8, 2) by decide +kernel) rfl rfl,
  fun _ _ _ _ _ _ _ _ _ _ _ _ _ _ _ => r_cS [_, _, _] rfl (show zdec 243 17 = some (.invokestatic 132, 3) by decide +kernel) (show zst.lookup (243 * zKEY + 132) = some (0, 244, 3, 0) by decide +kernel) (by decide) rfl,
  fun _ _ _ _ _ _ _ _ _ _ _ _ _ => r_istore (show zdec 243 20 = some (.istore 9, 2) by decide +kernel) rfl (Nat.le_of_ble_eq_true rfl) rfl rfl,
  fun _ _ _ _ _ _ _ _ _ _ _ _ => r_aload_nr (show zdec 243 22 = some (.aload_n 0, 1) by decide +kernel) rfl rfl,
  fun _ _ _ _ _ _ _ _ _ _ _ _ _ => r_getfield (show zdec 243 23 = some (.getfield 9, 3) by decide +kernel) (show zft.lookup (243 * zKEY + 9) = some (12, 0) by decide +kernel) rfl,
  fun _ _ _ _ _ _ _ _ _ _ _ _ => r_iload (show zdec 243 26 = some (.iload 9, 2) by decide +kernel) rfl rfl,
  fun _ _ _ _ _ _ _ _ _ _ _ _ => r_iload_n (show zdec 243 28 = some (.iload_n 3, 1) by decide +kernel) rfl rfl,
  fun _ _ _ _ _ _ _ _ _ _ _ _ _ => r_i2l (show zdec 243 29 = some (.i2l, 1) by decide +kernel) rfl,
  fun _ _ _ _ _ _ _ _ _ _ _ _ _ _ _ => r_last (show zdec 243 30 = some (.lastore, 1) by decide +kernel) rfl,
  fun _ _ _ _ _ _ _ _ _ _ _ _ => r_aload_nr (show zdec 243 31 = some (.aload_n 0, 1) by decide +kernel) rfl rfl,
  fun _ _ _ _ _ _ _ _ _ _ _ _ _ => r_getfield (show zdec 243 32 = some (.getfield 9, 3) by decide +kernel) (show zft.lookup (243 * zKEY + 9) = some (12, 0) by decide +kernel) rfl,
  fun _ _ _ _ _ _ _ _ _ _ _ _ => r_iload (show zdec 243 35 = some (.iload 9, 2) by decide +kernel) rfl rfl,
  fun _ _ _ _ _ _ _ _ _ _ _ _ => r_iconst (show zdec 243 37 = some (.iconst 1, 1) by decide +kernel) rfl rfl,
  fun _ _ _ _ _ _ _ _ _ _ _ _ _ _ => r_iadd (show zdec 243 38 = some (.iadd, 1) by decide +kernel) rfl,
  fun _ _ _ _ _ _ _ _ _ _ _ _ => r_iload (show zdec 243 39 = some (.iload 4, 2) by decide +kernel) rfl rfl,
  fun _ _ _ _ _ _ _ _ _ _ _ _ _ => r_i2l (show zdec 243 41 = some (.i2l, 1) by decide +kernel) rfl,
  fun _ _ _ _ _ _ _ _ _ _ _ _ _ _ _ => r_last (show zdec 243 42 = some (.lastore, 1) by decide +kernel) rfl,
  fun _ _ _ _ _ _ _ _ _ _ _ _ => r_aload_nr (show zdec 243 43 = some (.aload_n 0, 1) by decide +kernel) rfl rfl,
  fun _ _ _ _ _ _ _ _ _ _ _ _ _ => r_getfield (show zdec 243 44 = some (.getfield 9, 3) by decide +kernel) (show zft.lookup (243 * zKEY + 9) = some (12, 0) by decide +kernel) rfl,
  fun _ _ _ _ _ _ _ _ _ _ _ _ => r_iload (show zdec 243 47 = some (.iload 9, 2) by decide +kernel) rfl rfl,
  fun _ _ _ _ _ _ _ _ _ _ _ _ => r_iconst (show zdec 243 49 = some (.iconst 2, 1) by decide +kernel) rfl rfl,
  fun _ _ _ _ _ _ _ _ _ _ _ _ _ _ => r_iadd (show zdec 243 50 = some (.iadd, 1) by decide +kernel) rfl,
  fun _ _ _ _ _ _ _ _ _ _ _ _ => r_iload (show zdec 243 51 = some (.iload 5, 2) by decide +kernel) rfl rfl,
  fun _ _ _ _ _ _ _ _ _ _ _ _ _ => r_i2l (show zdec 243 53 = some (.i2l, 1) by decide +kernel) rfl,
  fun _ _ _ _ _ _ _ _ _ _ _ _ _ _ _ => r_last (show zdec 243 54 = some (.lastore, 1) by decide +kernel) rfl,
  fun _ _ _ _ _ _ _ _ _ _ _ _ => r_aload_nr (show zdec 243 55 = some (.aload_n 0, 1) by decide +kernel) rfl rfl,
  fun _ _ _ _ _ _ _ _ _ _ _ _ _ => r_getfield (show zdec 243 56 = some (.getfield 9, 3) by decide +kernel) (show zft.lookup (243 * zKEY + 9) = some (12, 0) by decide +kernel) rfl,
  fun _ _ _ _ _ _ _ _ _ _ _ _ => r_iload (show zdec 243 59 = some (.iload 9, 2) by decide +kernel) rfl rfl,
  fun _ _ _ _ _ _ _ _ _ _ _ _ => r_iconst (show zdec 243 61 = some (.iconst 3, 1) by decide +kernel) rfl rfl,
  fun _ _ _ _ _ _ _ _ _ _ _ _ _ _ => r_iadd (show zdec 243 62 = some (.iadd, 1) by decide +kernel) rfl,
  fun _ _ _ _ _ _ _ _ _ _ _ _ => r_lload (show zdec 243 63 = some (.lload 6, 2) by decide +kernel) rfl rfl,
  fun _ _ _ _ _ _ _ _ _ _ _ _ _ _ _ => r_last (show zdec 243 65 = some (.lastore, 1) by decide +kernel) rfl,
  fun _ _ _ _ _ _ _ _ _ _ _ _ => r_aload_nr (show zdec 243 66 = some (.aload_n 0, 1) by decide +kernel) rfl rfl,
  fun _ _ _ _ _ _ _ _ _ _ _ _ _ => r_getfield (show zdec 243 67 = some (.getfield 9, 3) by decide +kernel) (show zft.lookup (243 * zKEY + 9) = some (12, 0) by decide +kernel) rfl,
  fun _ _ _ _ _ _ _ _ _ _ _ _ => r_iload_n (show zdec 243 70 = some (.iload_n 1, 1) by decide +kernel) rfl rfl,
  fun _ _ _ _ _ _ _ _ _ _ _ _ => r_sipush (show zdec 243 71 = some (.sipush 147, 3) by decide +kernel) rfl rfl,
  fun _ _ _ _ _ _ _ _ _ _ _ _ => r_iload_n (show zdec 243 74 = some (.iload_n 2, 1) by decide +kernel) rfl rfl,
  fun _ _ _ _ _ _ _ _ _ _ _ _ _ _ => r_iadd (show zdec 243 75 = some (.iadd, 1) by decide +kernel) rfl,
  fun _ _ _ _ _ _ _ _ _ _ _ _ _ _ => r_cS [_, _] rfl (show zdec 243 76 = some (.invokestatic 39, 3) by decide +kernel) (show zst.lookup (243 * zKEY + 39) = some (0, 208, 2, 0) by decide +kernel) (by decide) rfl,
  fun _ _ _ _ _ _ _ _ _ _ _ _ _ _ => r_dup2 (show zdec 243 79 = some (.dup2, 1) by decide +kernel) rfl,
  fun _ _ _ _ _ _ _ _ _ _ _ _ _ _ => r_lald (show zdec 243 80 = some (.laload, 1) by decide +kernel) rfl,
  fun _ _ _ _ _ _ _ _ _ _ _ _ => r_lconst (show zdec 243 81 = some (.lconst 1, 1) by decide +kernel) rfl rfl,
  fun _ _ _ _ _ _ _ _ _ _ _ _ _ _ => r_ladd (show zdec 243 82 = some (.ladd, 1) by decide +kernel) rfl,
  fun _ _ _ _ _ _ _ _ _ _ _ _ _ _ _ => r_last (show zdec 243 83 = some (.lastore, 1) by decide +kernel) rfl,
  fun _ _ _ _ _ _ _ _ _ _ _ => r_vret (show zdec 243 84 = some (.return_, 1) by decide +kernel) (by decide +kernel)⟩
theorem ze_243 : ∀ (a0 : Nat) (a1 : Int32) (a2 : Int32) (a3 : Int32) (a4 : Int32) (a5 : Int32) (a6 : Int64) (h : zH), ev 243 [.ref a0, .int a1, .int a2, .int a3, .int a4, .int a5, .long a6] h = rn 243 0 [.ref a0, .int a1, .int a2, .int a3, .int a4, .int a5, .long a6, .float 0, .float 0, .float 0] [] h := fun _ _ _ _ _ _ _ _ => if_pos (Nat.le_of_ble_eq_true rfl)
-- PayrollRunModel.lineAt(III)I
theorem zr_244 : (∀ (l1 l2 : Value) (x : Int32) (S : List Value) (h : zH), rn 244 0 [.int x, l1, l2] S h = rn 244 1 [.int x, l1, l2] (.int x :: S) h) ∧
  (∀ (l0 l1 l2 : Value) (S : List Value) (h : zH), rn 244 1 [l0, l1, l2] S h = rn 244 4 [l0, l1, l2] (.int (nI 159) :: S) h) ∧
  (∀ (l0 l1 l2 : Value) (S : List Value) (h : zH), rn 244 4 [l0, l1, l2] S h = rn 244 5 [l0, l1, l2] (.int (nI 4) :: S) h) ∧
  (∀ (l0 l1 l2 : Value) (S : List Value) (h : zH), rn 244 5 [l0, l1, l2] S h = rn 244 7 [l0, l1, l2] (.int (nI 54) :: S) h) ∧
  (∀ (l0 l2 : Value) (x : Int32) (S : List Value) (h : zH), rn 244 7 [l0, .int x, l2] S h = rn 244 8 [l0, .int x, l2] (.int x :: S) h) ∧
  (∀ (l0 l1 l2 : Value) (x : Int32) (y : Int32) (S : List Value) (h : zH), rn 244 8 [l0, l1, l2] (.int y :: .int x :: S) h = rn 244 9 [l0, l1, l2] (.int (x * y) :: S) h) ∧
  (∀ (l0 l1 : Value) (x : Int32) (S : List Value) (h : zH), rn 244 9 [l0, l1, .int x] S h = rn 244 10 [l0, l1, .int x] (.int x :: S) h) ∧
  (∀ (l0 l1 l2 : Value) (x : Int32) (y : Int32) (S : List Value) (h : zH), rn 244 10 [l0, l1, l2] (.int y :: .int x :: S) h = rn 244 11 [l0, l1, l2] (.int (x + y) :: S) h) ∧
  (∀ (l0 l1 l2 : Value) (x : Int32) (y : Int32) (S : List Value) (h : zH), rn 244 11 [l0, l1, l2] (.int y :: .int x :: S) h = rn 244 12 [l0, l1, l2] (.int (x * y) :: S) h) ∧
  (∀ (l0 l1 l2 : Value) (x : Int32) (y : Int32) (S : List Value) (h : zH), rn 244 12 [l0, l1, l2] (.int y :: .int x :: S) h = rn 244 13 [l0, l1, l2] (.int (x + y) :: S) h) ∧
  (∀ (l0 l1 l2 : Value) (v0 : Value) (v1 : Value) (S : List Value) (h : zH), rn 244 13 [l0, l1, l2] (v1 :: v0 :: S) h = if zsum S ≤ 8 then zcall (ev 208 [v0, v1] h) (fun v h => rn 244 16 [l0, l1, l2] (zpush v S) h) else none) ∧
  (∀ (l0 l1 l2 : Value) (x : Int32) (h : zH), rn 244 16 [l0, l1, l2] [.int x] h = some (some (.int x), h)) := ⟨fun _ _ _ _ _ => r_iload_n (show zdec 244 0 = some (.iload_n 0, 1) by decide +kernel) rfl rfl,
  fun _ _ _ _ _ => r_sipush (show zdec 244 1 = some (.sipush 159, 3) by decide +kernel) rfl rfl,
  fun _ _ _ _ _ => r_iconst (show zdec 244 4 = some (.iconst 4, 1) by decide +kernel) rfl rfl,
  fun _ _ _ _ _ => r_bipush (show zdec 244 5 = some (.bipush 54, 2) by decide +kernel) rfl rfl,
  fun _ _ _ _ _ => r_iload_n (show zdec 244 7 = some (.iload_n 1, 1) by decide +kernel) rfl rfl,
  fun _ _ _ _ _ _ _ => r_imul (show zdec 244 8 = some (.imul, 1) by decide +kernel) rfl,
  fun _ _ _ _ _ => r_iload_n (show zdec 244 9 = some (.iload_n 2, 1) by decide +kernel) rfl rfl,
  fun _ _ _ _ _ _ _ => r_iadd (show zdec 244 10 = some (.iadd, 1) by decide +kernel) rfl,
  fun _ _ _ _ _ _ _ => r_imul (show zdec 244 11 = some (.imul, 1) by decide +kernel) rfl,
  fun _ _ _ _ _ _ _ => r_iadd (show zdec 244 12 = some (.iadd, 1) by decide +kernel) rfl,
  fun _ _ _ _ _ _ _ => r_cS [_, _] rfl (show zdec 244 13 = some (.invokestatic 39, 3) by decide +kernel) (show zst.lookup (244 * zKEY + 39) = some (0, 208, 2, 0) by decide +kernel) (by decide) rfl,
  fun _ _ _ _ _ => r_ireti (show zdec 244 16 = some (.ireturn, 1) by decide +kernel) (by decide +kernel)⟩
theorem ze_244 : ∀ (a0 : Int32) (a1 : Int32) (a2 : Int32) (h : zH), ev 244 [.int a0, .int a1, .int a2] h = rn 244 0 [.int a0, .int a1, .int a2] [] h := fun _ _ _ _ => if_pos (Nat.le_of_ble_eq_true rfl)
-- PayrollRunModel.reasonFor(II)I
theorem zr_246 : (∀ (l1 l2 l3 l4 : Value) (x : Nat) (S : List Value) (h : zH), rn 246 0 [.ref x, l1, l2, l3, l4] S h = rn 246 1 [.ref x, l1, l2, l3, l4] (.ref x :: S) h) ∧
  (∀ (l0 l2 l3 l4 : Value) (x : Int32) (S : List Value) (h : zH), rn 246 1 [l0, .int x, l2, l3, l4] S h = rn 246 2 [l0, .int x, l2, l3, l4] (.int x :: S) h) ∧
  (∀ (l0 l1 l2 l3 l4 : Value) (S : List Value) (h : zH), rn 246 2 [l0, l1, l2, l3, l4] S h = rn 246 3 [l0, l1, l2, l3, l4] (.int (nI 2) :: S) h) ∧
  (∀ (l0 l1 l3 l4 : Value) (x : Int32) (S : List Value) (h : zH), rn 246 3 [l0, l1, .int x, l3, l4] S h = rn 246 4 [l0, l1, .int x, l3, l4] (.int x :: S) h) ∧
  (∀ (l0 l1 l2 l3 l4 : Value) (x : Int32) (y : Int32) (S : List Value) (h : zH), rn 246 4 [l0, l1, l2, l3, l4] (.int y :: .int x :: S) h = rn 246 5 [l0, l1, l2, l3, l4] (.int (x + y) :: S) h) ∧
  (∀ (l0 l1 l2 l3 l4 : Value) (o : Nat) (v0 : Value) (v1 : Value) (S : List Value) (h : zH), rn 246 5 [l0, l1, l2, l3, l4] (v1 :: v0 :: .ref o :: S) h = if zkd h o = 12 ∧ zsum S ≤ 8 then zcall (ev 226 [.ref o, v0, v1] h) (fun v h => rn 246 8 [l0, l1, l2, l3, l4] (zpush v S) h) else none) ∧
  (∀ (l1 l2 l3 l4 : Value) (x : Nat) (S : List Value) (h : zH), rn 246 8 [.ref x, l1, l2, l3, l4] S h = rn 246 9 [.ref x, l1, l2, l3, l4] (.ref x :: S) h) ∧
  (∀ (l0 l2 l3 l4 : Value) (x : Int32) (S : List Value) (h : zH), rn 246 9 [l0, .int x, l2, l3, l4] S h = rn 246 10 [l0, .int x, l2, l3, l4] (.int x :: S) h) ∧
  (∀ (l0 l1 l2 l3 l4 : Value) (S : List Value) (h : zH), rn 246 10 [l0, l1, l2, l3, l4] S h = rn 246 12 [l0, l1, l2, l3, l4] (.int (nI 86) :: S) h) ∧
  (∀ (l0 l1 l3 l4 : Value) (x : Int32) (S : List Value) (h : zH), rn 246 12 [l0, l1, .int x, l3, l4] S h = rn 246 13 [l0, l1, .int x, l3, l4] (.int x :: S) h) ∧
  (∀ (l0 l1 l2 l3 l4 : Value) (x : Int32) (y : Int32) (S : List Value) (h : zH), rn 246 13 [l0, l1, l2, l3, l4] (.int y :: .int x :: S) h = rn 246 14 [l0, l1, l2, l3, l4] (.int (x + y) :: S) h) ∧
  (∀ (l0 l1 l2 l3 l4 : Value) (o : Nat) (v0 : Value) (v1 : Value) (S : List Value) (h : zH), rn 246 14 [l0, l1, l2, l3, l4] (v1 :: v0 :: .ref o :: S) h = if zkd h o = 12 ∧ zsum S ≤ 8 then zcall (ev 226 [.ref o, v0, v1] h) (fun v h => rn 246 17 [l0, l1, l2, l3, l4] (zpush v S) h) else none) ∧
  (∀ (l0 l1 l2 l3 l4 : Value) (x : Int64) (y : Int64) (S : List Value) (h : zH), rn 246 17 [l0, l1, l2, l3, l4] (.long y :: .long x :: S) h = rn 246 18 [l0, l1, l2, l3, l4] (.long (x - y) :: S) h) ∧
  (∀ (l0 l1 l2 l3 l4 : Value) (x : Int64) (S : List Value) (h : zH), rn 246 18 [l0, l1, l2, l3, l4] (.long x :: S) h = nl l2 (rn 246 19 [l0, l1, l2, .long x, .float 0] S h)) ∧
  (∀ (l0 l1 l2 l4 : Value) (x : Int64) (S : List Value) (h : zH), rn 246 19 [l0, l1, l2, .long x, l4] S h = rn 246 20 [l0, l1, l2, .long x, l4] (.long x :: S) h) ∧
  (∀ (l0 l1 l2 l3 l4 : Value) (S : List Value) (h : zH), rn 246 20 [l0, l1, l2, l3, l4] S h = rn 246 21 [l0, l1, l2, l3, l4] (.long 0 :: S) h) ∧
  (∀ (l0 l1 l2 l3 l4 : Value) (x : Int64) (y : Int64) (S : List Value) (h : zH), rn 246 21 [l0, l1, l2, l3, l4] (.long y :: .long x :: S) h = rn 246 22 [l0, l1, l2, l3, l4] (.int (lg_cmp x y) :: S) h) ∧
  (∀ (l0 l1 l2 l3 l4 : Value) (x : Int32) (S : List Value) (h : zH), rn 246 22 [l0, l1, l2, l3, l4] (.int x :: S) h = if x = nI 0 then rn 246 37 [l0, l1, l2, l3, l4] S h else rn 246 25 [l0, l1, l2, l3, l4] S h) ∧
  (∀ (l0 l1 l2 l4 : Value) (x : Int64) (S : List Value) (h : zH), rn 246 25 [l0, l1, l2, .long x, l4] S h = rn 246 26 [l0, l1, l2, .long x, l4] (.long x :: S) h) ∧
  (∀ (l0 l1 l2 l3 l4 : Value) (S : List Value) (h : zH), rn 246 26 [l0, l1, l2, l3, l4] S h = rn 246 27 [l0, l1, l2, l3, l4] (.long 0 :: S) h) ∧
  (∀ (l0 l1 l2 l3 l4 : Value) (x : Int64) (y : Int64) (S : List Value) (h : zH), rn 246 27 [l0, l1, l2, l3, l4] (.long y :: .long x :: S) h = rn 246 28 [l0, l1, l2, l3, l4] (.int (lg_cmp x y) :: S) h) ∧
  (∀ (l0 l1 l2 l3 l4 : Value) (x : Int32) (S : List Value) (h : zH), rn 246 28 [l0, l1, l2, l3, l4] (.int x :: S) h = if x ≤ nI 0 then rn 246 35 [l0, l1, l2, l3, l4] S h else rn 246 31 [l0, l1, l2, l3, l4] S h) ∧
  (∀ (l0 l1 l2 l3 l4 : Value) (S : List Value) (h : zH), rn 246 31 [l0, l1, l2, l3, l4] S h = rn 246 32 [l0, l1, l2, l3, l4] (.int (nI 1) :: S) h) ∧
  (∀ (l0 l1 l2 l3 l4 : Value) (S : List Value) (h : zH), rn 246 32 [l0, l1, l2, l3, l4] S h = rn 246 36 [l0, l1, l2, l3, l4] S h) ∧
  (∀ (l0 l1 l2 l3 l4 : Value) (S : List Value) (h : zH), rn 246 35 [l0, l1, l2, l3, l4] S h = rn 246 36 [l0, l1, l2, l3, l4] (.int (nI 2) :: S) h) ∧
  (∀ (l0 l1 l2 l3 l4 : Value) (x : Int32) (h : zH), rn 246 36 [l0, l1, l2, l3, l4] [.int x] h = some (some (.int x), h)) ∧
  (∀ (l1 l2 l3 l4 : Value) (x : Nat) (S : List Value) (h : zH), rn 246 37 [.ref x, l1, l2, l3, l4] S h = rn 246 38 [.ref x, l1, l2, l3, l4] (.ref x :: S) h) ∧
  (∀ (l0 l2 l3 l4 : Value) (x : Int32) (S : List Value) (h : zH), rn 246 38 [l0, .int x, l2, l3, l4] S h = rn 246 39 [l0, .int x, l2, l3, l4] (.int x :: S) h) ∧
  (∀ (l0 l1 l2 l3 l4 : Value) (S : List Value) (h : zH), rn 246 39 [l0, l1, l2, l3, l4] S h = rn 246 41 [l0, l1, l2, l3, l4] (.int (nI 14) :: S) h) ∧
  (∀ (l0 l1 l3 l4 : Value) (x : Int32) (S : List Value) (h : zH), rn 246 41 [l0, l1, .int x, l3, l4] S h = rn 246 42 [l0, l1, .int x, l3, l4] (.int x :: S) h) ∧
  (∀ (l0 l1 l2 l3 l4 : Value) (x : Int32) (y : Int32) (S : List Value) (h : zH), rn 246 42 [l0, l1, l2, l3, l4] (.int y :: .int x :: S) h = rn 246 43 [l0, l1, l2, l3, l4] (.int (x + y) :: S) h) ∧
  (∀ (l0 l1 l2 l3 l4 : Value) (o : Nat) (v0 : Value) (v1 : Value) (S : List Value) (h : zH), rn 246 43 [l0, l1, l2, l3, l4] (v1 :: v0 :: .ref o :: S) h = if zkd h o = 12 ∧ zsum S ≤ 8 then zcall (ev 226 [.ref o, v0, v1] h) (fun v h => rn 246 46 [l0, l1, l2, l3, l4] (zpush v S) h) else none) ∧
  (∀ (l1 l2 l3 l4 : Value) (x : Nat) (S : List Value) (h : zH), rn 246 46 [.ref x, l1, l2, l3, l4] S h = rn 246 47 [.ref x, l1, l2, l3, l4] (.ref x :: S) h) ∧
  (∀ (l0 l2 l3 l4 : Value) (x : Int32) (S : List Value) (h : zH), rn 246 47 [l0, .int x, l2, l3, l4] S h = rn 246 48 [l0, .int x, l2, l3, l4] (.int x :: S) h) ∧
  (∀ (l0 l1 l2 l3 l4 : Value) (S : List Value) (h : zH), rn 246 48 [l0, l1, l2, l3, l4] S h = rn 246 50 [l0, l1, l2, l3, l4] (.int (nI 98) :: S) h) ∧
  (∀ (l0 l1 l3 l4 : Value) (x : Int32) (S : List Value) (h : zH), rn 246 50 [l0, l1, .int x, l3, l4] S h = rn 246 51 [l0, l1, .int x, l3, l4] (.int x :: S) h) ∧
  (∀ (l0 l1 l2 l3 l4 : Value) (x : Int32) (y : Int32) (S : List Value) (h : zH), rn 246 51 [l0, l1, l2, l3, l4] (.int y :: .int x :: S) h = rn 246 52 [l0, l1, l2, l3, l4] (.int (x + y) :: S) h) ∧
  (∀ (l0 l1 l2 l3 l4 : Value) (o : Nat) (v0 : Value) (v1 : Value) (S : List Value) (h : zH), rn 246 52 [l0, l1, l2, l3, l4] (v1 :: v0 :: .ref o :: S) h = if zkd h o = 12 ∧ zsum S ≤ 8 then zcall (ev 226 [.ref o, v0, v1] h) (fun v h => rn 246 55 [l0, l1, l2, l3, l4] (zpush v S) h) else none) ∧
  (∀ (l0 l1 l2 l3 l4 : Value) (x : Int64) (y : Int64) (S : List Value) (h : zH), rn 246 55 [l0, l1, l2, l3, l4] (.long y :: .long x :: S) h = rn 246 56 [l0, l1, l2, l3, l4] (.int (lg_cmp x y) :: S) h) ∧
  (∀ (l0 l1 l2 l3 l4 : Value) (x : Int32) (S : List Value) (h : zH), rn 246 56 [l0, l1, l2, l3, l4] (.int x :: S) h = if x = nI 0 then rn 246 61 [l0, l1, l2, l3, l4] S h else rn 246 59 [l0, l1, l2, l3, l4] S h) ∧
  (∀ (l0 l1 l2 l3 l4 : Value) (S : List Value) (h : zH), rn 246 59 [l0, l1, l2, l3, l4] S h = rn 246 60 [l0, l1, l2, l3, l4] (.int (nI 3) :: S) h) ∧
  (∀ (l0 l1 l2 l3 l4 : Value) (x : Int32) (h : zH), rn 246 60 [l0, l1, l2, l3, l4] [.int x] h = some (some (.int x), h)) ∧
  (∀ (l1 l2 l3 l4 : Value) (x : Nat) (S : List Value) (h : zH), rn 246 61 [.ref x, l1, l2, l3, l4] S h = rn 246 62 [.ref x, l1, l2, l3, l4] (.ref x :: S) h) ∧
  (∀ (l0 l2 l3 l4 : Value) (x : Int32) (S : List Value) (h : zH), rn 246 62 [l0, .int x, l2, l3, l4] S h = rn 246 63 [l0, .int x, l2, l3, l4] (.int x :: S) h) ∧
  (∀ (l0 l1 l2 l3 l4 : Value) (S : List Value) (h : zH), rn 246 63 [l0, l1, l2, l3, l4] S h = rn 246 65 [l0, l1, l2, l3, l4] (.int (nI 26) :: S) h) ∧
  (∀ (l0 l1 l3 l4 : Value) (x : Int32) (S : List Value) (h : zH), rn 246 65 [l0, l1, .int x, l3, l4] S h = rn 246 66 [l0, l1, .int x, l3, l4] (.int x :: S) h) ∧
  (∀ (l0 l1 l2 l3 l4 : Value) (x : Int32) (y : Int32) (S : List Value) (h : zH), rn 246 66 [l0, l1, l2, l3, l4] (.int y :: .int x :: S) h = rn 246 67 [l0, l1, l2, l3, l4] (.int (x + y) :: S) h) ∧
  (∀ (l0 l1 l2 l3 l4 : Value) (o : Nat) (v0 : Value) (v1 : Value) (S : List Value) (h : zH), rn 246 67 [l0, l1, l2, l3, l4] (v1 :: v0 :: .ref o :: S) h = if zkd h o = 12 ∧ zsum S ≤ 8 then zcall (ev 226 [.ref o, v0, v1] h) (fun v h => rn 246 70 [l0, l1, l2, l3, l4] (zpush v S) h) else none) ∧
  (∀ (l1 l2 l3 l4 : Value) (x : Nat) (S : List Value) (h : zH), rn 246 70 [.ref x, l1, l2, l3, l4] S h = rn 246 71 [.ref x, l1, l2, l3, l4] (.ref x :: S) h) ∧
  (∀ (l0 l2 l3 l4 : Value) (x : Int32) (S : List Value) (h : zH), rn 246 71 [l0, .int x, l2, l3, l4] S h = rn 246 72 [l0, .int x, l2, l3, l4] (.int x :: S) h) ∧
  (∀ (l0 l1 l2 l3 l4 : Value) (S : List Value) (h : zH), rn 246 72 [l0, l1, l2, l3, l4] S h = rn 246 74 [l0, l1, l2, l3, l4] (.int (nI 110) :: S) h) ∧
  (∀ (l0 l1 l3 l4 : Value) (x : Int32) (S : List Value) (h : zH), rn 246 74 [l0, l1, .int x, l3, l4] S h = rn 246 75 [l0, l1, .int x, l3, l4] (.int x :: S) h) ∧
  (∀ (l0 l1 l2 l3 l4 : Value) (x : Int32) (y : Int32) (S : List Value) (h : zH), rn 246 75 [l0, l1, l2, l3, l4] (.int y :: .int x :: S) h = rn 246 76 [l0, l1, l2, l3, l4] (.int (x + y) :: S) h) ∧
  (∀ (l0 l1 l2 l3 l4 : Value) (o : Nat) (v0 : Value) (v1 : Value) (S : List Value) (h : zH), rn 246 76 [l0, l1, l2, l3, l4] (v1 :: v0 :: .ref o :: S) h = if zkd h o = 12 ∧ zsum S ≤ 8 then zcall (ev 226 [.ref o, v0, v1] h) (fun v h => rn 246 79 [l0, l1, l2, l3, l4] (zpush v S) h) else none) ∧
  (∀ (l0 l1 l2 l3 l4 : Value) (x : Int64) (y : Int64) (S : List Value) (h : zH), rn 246 79 [l0, l1, l2, l3, l4] (.long y :: .long x :: S) h = rn 246 80 [l0, l1, l2, l3, l4] (.int (lg_cmp x y) :: S) h) ∧
  (∀ (l0 l1 l2 l3 l4 : Value) (x : Int32) (S : List Value) (h : zH), rn 246 80 [l0, l1, l2, l3, l4] (.int x :: S) h = if x = nI 0 then rn 246 85 [l0, l1, l2, l3, l4] S h else rn 246 83 [l0, l1, l2, l3, l4] S h) ∧
  (∀ (l0 l1 l2 l3 l4 : Value) (S : List Value) (h : zH), rn 246 83 [l0, l1, l2, l3, l4] S h = rn 246 84 [l0, l1, l2, l3, l4] (.int (nI 4) :: S) h) ∧
  (∀ (l0 l1 l2 l3 l4 : Value) (x : Int32) (h : zH), rn 246 84 [l0, l1, l2, l3, l4] [.int x] h = some (some (.int x), h)) ∧
  (∀ (l1 l2 l3 l4 : Value) (x : Nat) (S : List Value) (h : zH), rn 246 85 [.ref x, l1, l2, l3, l4] S h = rn 246 86 [.ref x, l1, l2, l3, l4] (.ref x :: S) h) ∧
  (∀ (l0 l1 l2 l3 l4 : Value) (a : Nat) (S : List Value) (h : zH), rn 246 86 [l0, l1, l2, l3, l4] (.ref a :: S) h = zgf h a 12 0 fun v => rn 246 89 [l0, l1, l2, l3, l4] (v :: S) h) ∧
  (∀ (l0 l1 l2 l3 l4 : Value) (S : List Value) (h : zH), rn 246 89 [l0, l1, l2, l3, l4] S h = rn 246 90 [l0, l1, l2, l3, l4] (.int (nI 2) :: S) h) ∧
  (∀ (l0 l1 l2 l3 l4 : Value) (a : Nat) (j : Int32) (S : List Value) (h : zH), rn 246 90 [l0, l1, l2, l3, l4] (.int j :: .ref a :: S) h = zlj h a j fun x => rn 246 91 [l0, l1, l2, l3, l4] (.long x :: S) h) ∧
  (∀ (l1 l2 l3 l4 : Value) (x : Nat) (S : List Value) (h : zH), rn 246 91 [.ref x, l1, l2, l3, l4] S h = rn 246 92 [.ref x, l1, l2, l3, l4] (.ref x :: S) h) ∧
  (∀ (l0 l2 l3 l4 : Value) (x : Int32) (S : List Value) (h : zH), rn 246 92 [l0, .int x, l2, l3, l4] S h = rn 246 93 [l0, .int x, l2, l3, l4] (.int x :: S) h) ∧
  (∀ (l0 l1 l2 l3 l4 : Value) (S : List Value) (h : zH), rn 246 93 [l0, l1, l2, l3, l4] S h = rn 246 95 [l0, l1, l2, l3, l4] (.int (nI 122) :: S) h) ∧
  (∀ (l0 l1 l3 l4 : Value) (x : Int32) (S : List Value) (h : zH), rn 246 95 [l0, l1, .int x, l3, l4] S h = rn 246 96 [l0, l1, .int x, l3, l4] (.int x :: S) h) ∧
  (∀ (l0 l1 l2 l3 l4 : Value) (x : Int32) (y : Int32) (S : List Value) (h : zH), rn 246 96 [l0, l1, l2, l3, l4] (.int y :: .int x :: S) h = rn 246 97 [l0, l1, l2, l3, l4] (.int (x + y) :: S) h) ∧
  (∀ (l0 l1 l2 l3 l4 : Value) (o : Nat) (v0 : Value) (v1 : Value) (S : List Value) (h : zH), rn 246 97 [l0, l1, l2, l3, l4] (v1 :: v0 :: .ref o :: S) h = if zkd h o = 12 ∧ zsum S ≤ 8 then zcall (ev 226 [.ref o, v0, v1] h) (fun v h => rn 246 100 [l0, l1, l2, l3, l4] (zpush v S) h) else none) ∧
  (∀ (l0 l1 l2 l3 l4 : Value) (x : Int64) (y : Int64) (S : List Value) (h : zH), rn 246 100 [l0, l1, l2, l3, l4] (.long y :: .long x :: S) h = rn 246 101 [l0, l1, l2, l3, l4] (.int (lg_cmp x y) :: S) h) ∧
  (∀ (l0 l1 l2 l3 l4 : Value) (x : Int32) (S : List Value) (h : zH), rn 246 101 [l0, l1, l2, l3, l4] (.int x :: S) h = if x = nI 0 then rn 246 108 [l0, l1, l2, l3, l4] S h else rn 246 104 [l0, l1, l2, l3, l4] S h) ∧
  (∀ (l0 l1 l2 l3 l4 : Value) (S : List Value) (h : zH), rn 246 104 [l0, l1, l2, l3, l4] S h = rn 246 105 [l0, l1, l2, l3, l4] (.int (nI 5) :: S) h) ∧
  (∀ (l0 l1 l2 l3 l4 : Value) (S : List Value) (h : zH), rn 246 105 [l0, l1, l2, l3, l4] S h = rn 246 110 [l0, l1, l2, l3, l4] S h) ∧
  (∀ (l0 l1 l2 l3 l4 : Value) (S : List Value) (h : zH), rn 246 108 [l0, l1, l2, l3, l4] S h = rn 246 110 [l0, l1, l2, l3, l4] (.int (nI 6) :: S) h) ∧
  (∀ (l0 l1 l2 l3 l4 : Value) (x : Int32) (h : zH), rn 246 110 [l0, l1, l2, l3, l4] [.int x] h = some (some (.int x), h)) := ⟨fun _ _ _ _ _ _ _ => r_aload_nr (show zdec 246 0 = some (.aload_n 0, 1) by decide +kernel) rfl rfl,
  fun _ _ _ _ _ _ _ => r_iload_n (show zdec 246 1 = some (.iload_n 1, 1) by decide +kernel) rfl rfl,
  fun _ _ _ _ _ _ _ => r_iconst (show zdec 246 2 = some (.iconst 2, 1) by decide +kernel) rfl rfl,
  fun _ _ _ _ _ _ _ => r_iload_n (show zdec 246 3 = some (.iload_n 2, 1) by decide +kernel) rfl rfl,
  fun _ _ _ _ _ _ _ _ _ => r_iadd (show zdec 246 4 = some (.iadd, 1) by decide +kernel) rfl,
  fun _ _ _ _ _ _ _ _ _ _ => r_cV [_, _] rfl (show zdec 246 5 = some (.invokevirtual 85, 3) by decide +kernel) (show zst.lookup (246 * zKEY + 85) = some (1, 226, 2, 12) by decide +kernel) (by decide) rfl,
  fun _ _ _ _ _ _ _ => r_aload_nr (show zdec 246 8 = some (.aload_n 0, 1) by decide +kernel) rfl rfl,
  fun _ _ _ _ _ _ _ => r_iload_n (show zdec 246 9 = some (.iload_n 1, 1) by decide +kernel) rfl rfl,
  fun _ _ _ _ _ _ _ => r_bipush (show zdec 246 10 = some (.bipush 86, 2) by decide +kernel) rfl rfl,
  fun _ _ _ _ _ _ _ => r_iload_n (show zdec 246 12 = some (.iload_n 2, 1) by decide +kernel) rfl rfl,
  fun _ _ _ _ _ _ _ _ _ => r_iadd (show zdec 246 13 = some (.iadd, 1) by decide +kernel) rfl,
  fun _ _ _ _ _ _ _ _ _ _ => r_cV [_, _] rfl (show zdec 246 14 = some (.invokevirtual 85, 3) by decide +kernel) (show zst.lookup (246 * zKEY + 85) = some (1, 226, 2, 12) by decide +kernel) (by decide) rfl,
  fun _ _ _ _ _ _ _ _ _ => r_lsub (show zdec 246 17 = some (.lsub, 1) by decide +kernel) rfl,
  fun _ _ _ _ _ _ _ _ => r_lstore_n (show zdec 246 18 = some (.lstore_n 3, 1) by decide +kernel) rfl rfl (Nat.le_of_ble_eq_true rfl) rfl rfl,
  fun _ _ _ _ _ _ _ => r_lload_n (show zdec 246 19 = some (.lload_n 3, 1) by decide +kernel) rfl rfl,
  fun _ _ _ _ _ _ _ => r_lconst (show zdec 246 20 = some (.lconst 0, 1) by decide +kernel) rfl rfl,
  fun _ _ _ _ _ _ _ _ _ => r_lcmp (show zdec 246 21 = some (.lcmp, 1) by decide +kernel) rfl,
  fun _ _ _ _ _ _ _ _ => r_ifeq (show zdec 246 22 = some (.ifCond .eq 15, 3) by decide +kernel) rfl rfl,
  fun _ _ _ _ _ _ _ => r_lload_n (show zdec 246 25 = some (.lload_n 3, 1) by decide +kernel) rfl rfl,
  fun _ _ _ _ _ _ _ => r_lconst (show zdec 246 26 = some (.lconst 0, 1) by decide +kernel) rfl rfl,
  fun _ _ _ _ _ _ _ _ _ => r_lcmp (show zdec 246 27 = some (.lcmp, 1) by decide +kernel) rfl,
  fun _ _ _ _ _ _ _ _ => r_ifle (show zdec 246 28 = some (.ifCond .le 7, 3) by decide +kernel) rfl rfl,
  fun _ _ _ _ _ _ _ => r_iconst (show zdec 246 31 = some (.iconst 1, 1) by decide +kernel) rfl rfl,
  fun _ _ _ _ _ _ _ => r_goto (show zdec 246 32 = some (.goto 4, 3) by decide +kernel) rfl,
  fun _ _ _ _ _ _ _ => r_iconst (show zdec 246 35 = some (.iconst 2, 1) by decide +kernel) rfl rfl,
  fun _ _ _ _ _ _ _ => r_ireti (show zdec 246 36 = some (.ireturn, 1) by decide +kernel) (by decide +kernel),
  fun _ _ _ _ _ _ _ => r_aload_nr (show zdec 246 37 = some (.aload_n 0, 1) by decide +kernel) rfl rfl,
  fun _ _ _ _ _ _ _ => r_iload_n (show zdec 246 38 = some (.iload_n 1, 1) by decide +kernel) rfl rfl,
  fun _ _ _ _ _ _ _ => r_bipush (show zdec 246 39 = some (.bipush 14, 2) by decide +kernel) rfl rfl,
  fun _ _ _ _ _ _ _ => r_iload_n (show zdec 246 41 = some (.iload_n 2, 1) by decide +kernel) rfl rfl,
  fun _ _ _ _ _ _ _ _ _ => r_iadd (show zdec 246 42 = some (.iadd, 1) by decide +kernel) rfl,
  fun _ _ _ _ _ _ _ _ _ _ => r_cV [_, _] rfl (show zdec 246 43 = some (.invokevirtual 85, 3) by decide +kernel) (show zst.lookup (246 * zKEY + 85) = some (1, 226, 2, 12) by decide +kernel) (by decide) rfl,
  fun _ _ _ _ _ _ _ => r_aload_nr (show zdec 246 46 = some (.aload_n 0, 1) by decide +kernel) rfl rfl,
  fun _ _ _ _ _ _ _ => r_iload_n (show zdec 246 47 = some (.iload_n 1, 1) by decide +kernel) rfl rfl,
  fun _ _ _ _ _ _ _ => r_bipush (show zdec 246 48 = some (.bipush 98, 2) by decide +kernel) rfl rfl,
  fun _ _ _ _ _ _ _ => r_iload_n (show zdec 246 50 = some (.iload_n 2, 1) by decide +kernel) rfl rfl,
  fun _ _ _ _ _ _ _ _ _ => r_iadd (show zdec 246 51 = some (.iadd, 1) by decide +kernel) rfl,
  fun _ _ _ _ _ _ _ _ _ _ => r_cV [_, _] rfl (show zdec 246 52 = some (.invokevirtual 85, 3) by decide +kernel) (show zst.lookup (246 * zKEY + 85) = some (1, 226, 2, 12) by decide +kernel) (by decide) rfl,
  fun _ _ _ _ _ _ _ _ _ => r_lcmp (show zdec 246 55 = some (.lcmp, 1) by decide +kernel) rfl,
  fun _ _ _ _ _ _ _ _ => r_ifeq (show zdec 246 56 = some (.ifCond .eq 5, 3) by decide +kernel) rfl rfl,
  fun _ _ _ _ _ _ _ => r_iconst (show zdec 246 59 = some (.iconst 3, 1) by decide +kernel) rfl rfl,
  fun _ _ _ _ _ _ _ => r_ireti (show zdec 246 60 = some (.ireturn, 1) by decide +kernel) (by decide +kernel),
  fun _ _ _ _ _ _ _ => r_aload_nr (show zdec 246 61 = some (.aload_n 0, 1) by decide +kernel) rfl rfl,
  fun _ _ _ _ _ _ _ => r_iload_n (show zdec 246 62 = some (.iload_n 1, 1) by decide +kernel) rfl rfl,
  fun _ _ _ _ _ _ _ => r_bipush (show zdec 246 63 = some (.bipush 26, 2) by decide +kernel) rfl rfl,
  fun _ _ _ _ _ _ _ => r_iload_n (show zdec 246 65 = some (.iload_n 2, 1) by decide +kernel) rfl rfl,
  fun _ _ _ _ _ _ _ _ _ => r_iadd (show zdec 246 66 = some (.iadd, 1) by decide +kernel) rfl,
  fun _ _ _ _ _ _ _ _ _ _ => r_cV [_, _] rfl (show zdec 246 67 = some (.invokevirtual 85, 3) by decide +kernel) (show zst.lookup (246 * zKEY + 85) = some (1, 226, 2, 12) by decide +kernel) (by decide) rfl,
  fun _ _ _ _ _ _ _ => r_aload_nr (show zdec 246 70 = some (.aload_n 0, 1) by decide +kernel) rfl rfl,
  fun _ _ _ _ _ _ _ => r_iload_n (show zdec 246 71 = some (.iload_n 1, 1) by decide +kernel) rfl rfl,
  fun _ _ _ _ _ _ _ => r_bipush (show zdec 246 72 = some (.bipush 110, 2) by decide +kernel) rfl rfl,
  fun _ _ _ _ _ _ _ => r_iload_n (show zdec 246 74 = some (.iload_n 2, 1) by decide +kernel) rfl rfl,
  fun _ _ _ _ _ _ _ _ _ => r_iadd (show zdec 246 75 = some (.iadd, 1) by decide +kernel) rfl,
  fun _ _ _ _ _ _ _ _ _ _ => r_cV [_, _] rfl (show zdec 246 76 = some (.invokevirtual 85, 3) by decide +kernel) (show zst.lookup (246 * zKEY + 85) = some (1, 226, 2, 12) by decide +kernel) (by decide) rfl,
  fun _ _ _ _ _ _ _ _ _ => r_lcmp (show zdec 246 79 = some (.lcmp, 1) by decide +kernel) rfl,
  fun _ _ _ _ _ _ _ _ => r_ifeq (show zdec 246 80 = some (.ifCond .eq 5, 3) by decide +kernel) rfl rfl,
  fun _ _ _ _ _ _ _ => r_iconst (show zdec 246 83 = some (.iconst 4, 1) by decide +kernel) rfl rfl,
  fun _ _ _ _ _ _ _ => r_ireti (show zdec 246 84 = some (.ireturn, 1) by decide +kernel) (by decide +kernel),
  fun _ _ _ _ _ _ _ => r_aload_nr (show zdec 246 85 = some (.aload_n 0, 1) by decide +kernel) rfl rfl,
  fun _ _ _ _ _ _ _ _ => r_getfield (show zdec 246 86 = some (.getfield 9, 3) by decide +kernel) (show zft.lookup (246 * zKEY + 9) = some (12, 0) by decide +kernel) rfl,
  fun _ _ _ _ _ _ _ => r_iconst (show zdec 246 89 = some (.iconst 2, 1) by decide +kernel) rfl rfl,
  fun _ _ _ _ _ _ _ _ _ => r_lald (show zdec 246 90 = some (.laload, 1) by decide +kernel) rfl,
  fun _ _ _ _ _ _ _ => r_aload_nr (show zdec 246 91 = some (.aload_n 0, 1) by decide +kernel) rfl rfl,
  fun _ _ _ _ _ _ _ => r_iload_n (show zdec 246 92 = some (.iload_n 1, 1) by decide +kernel) rfl rfl,
  fun _ _ _ _ _ _ _ => r_bipush (show zdec 246 93 = some (.bipush 122, 2) by decide +kernel) rfl rfl,
  fun _ _ _ _ _ _ _ => r_iload_n (show zdec 246 95 = some (.iload_n 2, 1) by decide +kernel) rfl rfl,
  fun _ _ _ _ _ _ _ _ _ => r_iadd (show zdec 246 96 = some (.iadd, 1) by decide +kernel) rfl,
  fun _ _ _ _ _ _ _ _ _ _ => r_cV [_, _] rfl (show zdec 246 97 = some (.invokevirtual 85, 3) by decide +kernel) (show zst.lookup (246 * zKEY + 85) = some (1, 226, 2, 12) by decide +kernel) (by decide) rfl,
  fun _ _ _ _ _ _ _ _ _ => r_lcmp (show zdec 246 100 = some (.lcmp, 1) by decide +kernel) rfl,
  fun _ _ _ _ _ _ _ _ => r_ifeq (show zdec 246 101 = some (.ifCond .eq 7, 3) by decide +kernel) rfl rfl,
  fun _ _ _ _ _ _ _ => r_iconst (show zdec 246 104 = some (.iconst 5, 1) by decide +kernel) rfl rfl,
  fun _ _ _ _ _ _ _ => r_goto (show zdec 246 105 = some (.goto 5, 3) by decide +kernel) rfl,
  fun _ _ _ _ _ _ _ => r_bipush (show zdec 246 108 = some (.bipush 6, 2) by decide +kernel) rfl rfl,
  fun _ _ _ _ _ _ _ => r_ireti (show zdec 246 110 = some (.ireturn, 1) by decide +kernel) (by decide +kernel)⟩
theorem ze_246 : ∀ (a0 : Nat) (a1 : Int32) (a2 : Int32) (h : zH), ev 246 [.ref a0, .int a1, .int a2] h = rn 246 0 [.ref a0, .int a1, .int a2, .float 0, .float 0] [] h := fun _ _ _ _ => if_pos (Nat.le_of_ble_eq_true rfl)
-- PayrollRunModel.settle(II)V
theorem zr_247 : (∀ (l0 l1 l2 l3 : Value) (S : List Value) (h : zH), rn 247 0 [l0, l1, l2, l3] S h = rn 247 1 [l0, l1, l2, l3] (.int (nI 0) :: S) h) ∧
  (∀ (l0 l1 l2 l3 : Value) (x : Int32) (S : List Value) (h : zH), rn 247 1 [l0, l1, l2, l3] (.int x :: S) h = nl l2 (rn 247 2 [l0, l1, l2, .int x] S h)) ∧
  (∀ (l0 l1 l2 l3 : Value) (S : List Value) (h : zH), rn 247 3 [l0, l1, l2, l3] S h = rn 247 4 [l0, l1, l2, l3] (.int (nI 4) :: S) h) ∧
  (∀ (l0 l1 l2 l3 : Value) (x : Int32) (y : Int32) (S : List Value) (h : zH), rn 247 4 [l0, l1, l2, l3] (.int y :: .int x :: S) h = if y ≤ x then rn 247 37 [l0, l1, l2, l3] S h else rn 247 7 [l0, l1, l2, l3] S h) ∧
  (∀ (l1 l2 l3 : Value) (x : Nat) (S : List Value) (h : zH), rn 247 7 [.ref x, l1, l2, l3] S h = rn 247 8 [.ref x, l1, l2, l3] (.ref x :: S) h) ∧
  (∀ (l0 l1 l2 l3 : Value) (a : Nat) (S : List Value) (h : zH), rn 247 8 [l0, l1, l2, l3] (.ref a :: S) h = zgf h a 12 0 fun v => rn 247 11 [l0, l1, l2, l3] (v :: S) h) ∧
  (∀ (l0 l2 l3 : Value) (x : Int32) (S : List Value) (h : zH), rn 247 11 [l0, .int x, l2, l3] S h = rn 247 12 [l0, .int x, l2, l3] (.int x :: S) h) ∧
  (∀ (l0 l1 l2 l3 : Value) (S : List Value) (h : zH), rn 247 12 [l0, l1, l2, l3] S h = rn 247 14 [l0, l1, l2, l3] (.int (nI 38) :: S) h) ∧
  (∀ (l0 l1 l2 l3 : Value) (S : List Value) (h : zH), rn 247 14 [l0, l1, l2, l3] S h = rn 247 15 [l0, l1, l2, l3] (.int (nI 4) :: S) h) ∧
  (∀ (l0 l1 l3 : Value) (x : Int32) (S : List Value) (h : zH), rn 247 15 [l0, l1, .int x, l3] S h = rn 247 16 [l0, l1, .int x, l3] (.int x :: S) h) ∧
  (∀ (l0 l1 l2 l3 : Value) (x : Int32) (y : Int32) (S : List Value) (h : zH), rn 247 16 [l0, l1, l2, l3] (.int y :: .int x :: S) h = rn 247 17 [l0, l1, l2, l3] (.int (x * y) :: S) h) ∧
  (∀ (l0 l1 l2 l3 : Value) (x : Int32) (y : Int32) (S : List Value) (h : zH), rn 247 17 [l0, l1, l2, l3] (.int y :: .int x :: S) h = rn 247 18 [l0, l1, l2, l3] (.int (x + y) :: S) h) ∧
  (∀ (l0 l1 l2 : Value) (x : Int32) (S : List Value) (h : zH), rn 247 18 [l0, l1, l2, .int x] S h = rn 247 19 [l0, l1, l2, .int x] (.int x :: S) h) ∧
  (∀ (l0 l1 l2 l3 : Value) (x : Int32) (y : Int32) (S : List Value) (h : zH), rn 247 19 [l0, l1, l2, l3] (.int y :: .int x :: S) h = rn 247 20 [l0, l1, l2, l3] (.int (x + y) :: S) h) ∧
  (∀ (l0 l1 l2 l3 : Value) (v0 : Value) (v1 : Value) (S : List Value) (h : zH), rn 247 20 [l0, l1, l2, l3] (v1 :: v0 :: S) h = if zsum S ≤ 8 then zcall (ev 208 [v0, v1] h) (fun v h => rn 247 23 [l0, l1, l2, l3] (zpush v S) h) else none) ∧
  (∀ (l1 l2 l3 : Value) (x : Nat) (S : List Value) (h : zH), rn 247 23 [.ref x, l1, l2, l3] S h = rn 247 24 [.ref x, l1, l2, l3] (.ref x :: S) h) ∧
  (∀ (l0 l2 l3 : Value) (x : Int32) (S : List Value) (h : zH), rn 247 24 [l0, .int x, l2, l3] S h = rn 247 25 [l0, .int x, l2, l3] (.int x :: S) h) ∧
  (∀ (l0 l1 l3 : Value) (x : Int32) (S : List Value) (h : zH), rn 247 25 [l0, l1, .int x, l3] S h = rn 247 26 [l0, l1, .int x, l3] (.int x :: S) h) ∧
  (∀ (l0 l1 l2 : Value) (x : Int32) (S : List Value) (h : zH), rn 247 26 [l0, l1, l2, .int x] S h = rn 247 27 [l0, l1, l2, .int x] (.int x :: S) h) ∧
  (∀ (l0 l1 l2 l3 : Value) (o : Nat) (v0 : Value) (v1 : Value) (v2 : Value) (S : List Value) (h : zH), rn 247 27 [l0, l1, l2, l3] (v2 :: v1 :: v0 :: .ref o :: S) h = if zkd h o = 12 ∧ zsum S ≤ 8 then zcall (ev 237 [.ref o, v0, v1, v2] h) (fun v h => rn 247 30 [l0, l1, l2, l3] (zpush v S) h) else none) ∧
  (∀ (l0 l1 l2 l3 : Value) (a : Nat) (j : Int32) (x : Int64) (S : List Value) (h : zH), rn 247 30 [l0, l1, l2, l3] (.long x :: .int j :: .ref a :: S) h = zsj h a j x fun h => rn 247 31 [l0, l1, l2, l3] S h) ∧
  (∀ (l0 l1 l2 : Value) (x : Int32) (S : List Value) (h : zH), rn 247 31 [l0, l1, l2, .int x] S h = nl l2 (rn 247 34 [l0, l1, l2, .int (x + (nI 1))] S h)) ∧
  (∀ (l0 l1 l2 l3 : Value) (S : List Value) (h : zH), rn 247 34 [l0, l1, l2, l3] S h = rn 247 2 [l0, l1, l2, l3] S h) ∧
  (∀ (l1 l2 l3 : Value) (x : Nat) (S : List Value) (h : zH), rn 247 37 [.ref x, l1, l2, l3] S h = rn 247 38 [.ref x, l1, l2, l3] (.ref x :: S) h) ∧
  (∀ (l0 l1 l2 l3 : Value) (a : Nat) (S : List Value) (h : zH), rn 247 38 [l0, l1, l2, l3] (.ref a :: S) h = zgf h a 12 0 fun v => rn 247 41 [l0, l1, l2, l3] (v :: S) h) ∧
  (∀ (l0 l2 l3 : Value) (x : Int32) (S : List Value) (h : zH), rn 247 41 [l0, .int x, l2, l3] S h = rn 247 42 [l0, .int x, l2, l3] (.int x :: S) h) ∧
  (∀ (l0 l1 l2 l3 : Value) (S : List Value) (h : zH), rn 247 42 [l0, l1, l2, l3] S h = rn 247 44 [l0, l1, l2, l3] (.int (nI 86) :: S) h) ∧
  (∀ (l0 l1 l3 : Value) (x : Int32) (S : List Value) (h : zH), rn 247 44 [l0, l1, .int x, l3] S h = rn 247 45 [l0, l1, .int x, l3] (.int x :: S) h) ∧
  (∀ (l0 l1 l2 l3 : Value) (x : Int32) (y : Int32) (S : List Value) (h : zH), rn 247 45 [l0, l1, l2, l3] (.int y :: .int x :: S) h = rn 247 46 [l0, l1, l2, l3] (.int (x + y) :: S) h) ∧
  (∀ (l0 l1 l2 l3 : Value) (v0 : Value) (v1 : Value) (S : List Value) (h : zH), rn 247 46 [l0, l1, l2, l3] (v1 :: v0 :: S) h = if zsum S ≤ 8 then zcall (ev 208 [v0, v1] h) (fun v h => rn 247 49 [l0, l1, l2, l3] (zpush v S) h) else none) ∧
  (∀ (l1 l2 l3 : Value) (x : Nat) (S : List Value) (h : zH), rn 247 49 [.ref x, l1, l2, l3] S h = rn 247 50 [.ref x, l1, l2, l3] (.ref x :: S) h) ∧
  (∀ (l0 l2 l3 : Value) (x : Int32) (S : List Value) (h : zH), rn 247 50 [l0, .int x, l2, l3] S h = rn 247 51 [l0, .int x, l2, l3] (.int x :: S) h) ∧
  (∀ (l0 l1 l2 l3 : Value) (S : List Value) (h : zH), rn 247 51 [l0, l1, l2, l3] S h = rn 247 52 [l0, l1, l2, l3] (.int (nI 2) :: S) h) ∧
  (∀ (l0 l1 l3 : Value) (x : Int32) (S : List Value) (h : zH), rn 247 52 [l0, l1, .int x, l3] S h = rn 247 53 [l0, l1, .int x, l3] (.int x :: S) h) ∧
  (∀ (l0 l1 l2 l3 : Value) (x : Int32) (y : Int32) (S : List Value) (h : zH), rn 247 53 [l0, l1, l2, l3] (.int y :: .int x :: S) h = rn 247 54 [l0, l1, l2, l3] (.int (x + y) :: S) h) ∧
  (∀ (l0 l1 l2 l3 : Value) (o : Nat) (v0 : Value) (v1 : Value) (S : List Value) (h : zH), rn 247 54 [l0, l1, l2, l3] (v1 :: v0 :: .ref o :: S) h = if zkd h o = 12 ∧ zsum S ≤ 8 then zcall (ev 226 [.ref o, v0, v1] h) (fun v h => rn 247 57 [l0, l1, l2, l3] (zpush v S) h) else none) ∧
  (∀ (l0 l1 l2 l3 : Value) (a : Nat) (j : Int32) (x : Int64) (S : List Value) (h : zH), rn 247 57 [l0, l1, l2, l3] (.long x :: .int j :: .ref a :: S) h = zsj h a j x fun h => rn 247 58 [l0, l1, l2, l3] S h) ∧
  (∀ (l1 l2 l3 : Value) (x : Nat) (S : List Value) (h : zH), rn 247 58 [.ref x, l1, l2, l3] S h = rn 247 59 [.ref x, l1, l2, l3] (.ref x :: S) h) ∧
  (∀ (l0 l1 l2 l3 : Value) (a : Nat) (S : List Value) (h : zH), rn 247 59 [l0, l1, l2, l3] (.ref a :: S) h = zgf h a 12 0 fun v => rn 247 62 [l0, l1, l2, l3] (v :: S) h) ∧
  (∀ (l0 l2 l3 : Value) (x : Int32) (S : List Value) (h : zH), rn 247 62 [l0, .int x, l2, l3] S h = rn 247 63 [l0, .int x, l2, l3] (.int x :: S) h) ∧
  (∀ (l0 l1 l2 l3 : Value) (S : List Value) (h : zH), rn 247 63 [l0, l1, l2, l3] S h = rn 247 65 [l0, l1, l2, l3] (.int (nI 98) :: S) h) ∧
  (∀ (l0 l1 l3 : Value) (x : Int32) (S : List Value) (h : zH), rn 247 65 [l0, l1, .int x, l3] S h = rn 247 66 [l0, l1, .int x, l3] (.int x :: S) h) ∧
  (∀ (l0 l1 l2 l3 : Value) (x : Int32) (y : Int32) (S : List Value) (h : zH), rn 247 66 [l0, l1, l2, l3] (.int y :: .int x :: S) h = rn 247 67 [l0, l1, l2, l3] (.int (x + y) :: S) h) ∧
  (∀ (l0 l1 l2 l3 : Value) (v0 : Value) (v1 : Value) (S : List Value) (h : zH), rn 247 67 [l0, l1, l2, l3] (v1 :: v0 :: S) h = if zsum S ≤ 8 then zcall (ev 208 [v0, v1] h) (fun v h => rn 247 70 [l0, l1, l2, l3] (zpush v S) h) else none) ∧
  (∀ (l1 l2 l3 : Value) (x : Nat) (S : List Value) (h : zH), rn 247 70 [.ref x, l1, l2, l3] S h = rn 247 71 [.ref x, l1, l2, l3] (.ref x :: S) h) ∧
  (∀ (l0 l2 l3 : Value) (x : Int32) (S : List Value) (h : zH), rn 247 71 [l0, .int x, l2, l3] S h = rn 247 72 [l0, .int x, l2, l3] (.int x :: S) h) ∧
  (∀ (l0 l1 l2 l3 : Value) (S : List Value) (h : zH), rn 247 72 [l0, l1, l2, l3] S h = rn 247 74 [l0, l1, l2, l3] (.int (nI 14) :: S) h) ∧
  (∀ (l0 l1 l3 : Value) (x : Int32) (S : List Value) (h : zH), rn 247 74 [l0, l1, .int x, l3] S h = rn 247 75 [l0, l1, .int x, l3] (.int x :: S) h) ∧
  (∀ (l0 l1 l2 l3 : Value) (x : Int32) (y : Int32) (S : List Value) (h : zH), rn 247 75 [l0, l1, l2, l3] (.int y :: .int x :: S) h = rn 247 76 [l0, l1, l2, l3] (.int (x + y) :: S) h) ∧
  (∀ (l0 l1 l2 l3 : Value) (o : Nat) (v0 : Value) (v1 : Value) (S : List Value) (h : zH), rn 247 76 [l0, l1, l2, l3] (v1 :: v0 :: .ref o :: S) h = if zkd h o = 12 ∧ zsum S ≤ 8 then zcall (ev 226 [.ref o, v0, v1] h) (fun v h => rn 247 79 [l0, l1, l2, l3] (zpush v S) h) else none) ∧
  (∀ (l0 l1 l2 l3 : Value) (a : Nat) (j : Int32) (x : Int64) (S : List Value) (h : zH), rn 247 79 [l0, l1, l2, l3] (.long x :: .int j :: .ref a :: S) h = zsj h a j x fun h => rn 247 80 [l0, l1, l2, l3] S h) ∧
  (∀ (l1 l2 l3 : Value) (x : Nat) (S : List Value) (h : zH), rn 247 80 [.ref x, l1, l2, l3] S h = rn 247 81 [.ref x, l1, l2, l3] (.ref x :: S) h) ∧
  (∀ (l0 l1 l2 l3 : Value) (a : Nat) (S : List Value) (h : zH), rn 247 81 [l0, l1, l2, l3] (.ref a :: S) h = zgf h a 12 0 fun v => rn 247 84 [l0, l1, l2, l3] (v :: S) h) ∧
  (∀ (l0 l2 l3 : Value) (x : Int32) (S : List Value) (h : zH), rn 247 84 [l0, .int x, l2, l3] S h = rn 247 85 [l0, .int x, l2, l3] (.int x :: S) h) ∧
  (∀ (l0 l1 l2 l3 : Value) (S : List Value) (h : zH), rn 247 85 [l0, l1, l2, l3] S h = rn 247 87 [l0, l1, l2, l3] (.int (nI 110) :: S) h) ∧
  (∀ (l0 l1 l3 : Value) (x : Int32) (S : List Value) (h : zH), rn 247 87 [l0, l1, .int x, l3] S h = rn 247 88 [l0, l1, .int x, l3] (.int x :: S) h) ∧
  (∀ (l0 l1 l2 l3 : Value) (x : Int32) (y : Int32) (S : List Value) (h : zH), rn 247 88 [l0, l1, l2, l3] (.int y :: .int x :: S) h = rn 247 89 [l0, l1, l2, l3] (.int (x + y) :: S) h) ∧
  (∀ (l0 l1 l2 l3 : Value) (v0 : Value) (v1 : Value) (S : List Value) (h : zH), rn 247 89 [l0, l1, l2, l3] (v1 :: v0 :: S) h = if zsum S ≤ 8 then zcall (ev 208 [v0, v1] h) (fun v h => rn 247 92 [l0, l1, l2, l3] (zpush v S) h) else none) ∧
  (∀ (l1 l2 l3 : Value) (x : Nat) (S : List Value) (h : zH), rn 247 92 [.ref x, l1, l2, l3] S h = rn 247 93 [.ref x, l1, l2, l3] (.ref x :: S) h) ∧
  (∀ (l0 l2 l3 : Value) (x : Int32) (S : List Value) (h : zH), rn 247 93 [l0, .int x, l2, l3] S h = rn 247 94 [l0, .int x, l2, l3] (.int x :: S) h) ∧
  (∀ (l0 l1 l2 l3 : Value) (S : List Value) (h : zH), rn 247 94 [l0, l1, l2, l3] S h = rn 247 96 [l0, l1, l2, l3] (.int (nI 26) :: S) h) ∧
  (∀ (l0 l1 l3 : Value) (x : Int32) (S : List Value) (h : zH), rn 247 96 [l0, l1, .int x, l3] S h = rn 247 97 [l0, l1, .int x, l3] (.int x :: S) h) ∧
  (∀ (l0 l1 l2 l3 : Value) (x : Int32) (y : Int32) (S : List Value) (h : zH), rn 247 97 [l0, l1, l2, l3] (.int y :: .int x :: S) h = rn 247 98 [l0, l1, l2, l3] (.int (x + y) :: S) h) ∧
  (∀ (l0 l1 l2 l3 : Value) (o : Nat) (v0 : Value) (v1 : Value) (S : List Value) (h : zH), rn 247 98 [l0, l1, l2, l3] (v1 :: v0 :: .ref o :: S) h = if zkd h o = 12 ∧ zsum S ≤ 8 then zcall (ev 226 [.ref o, v0, v1] h) (fun v h => rn 247 101 [l0, l1, l2, l3] (zpush v S) h) else none) ∧
  (∀ (l0 l1 l2 l3 : Value) (a : Nat) (j : Int32) (x : Int64) (S : List Value) (h : zH), rn 247 101 [l0, l1, l2, l3] (.long x :: .int j :: .ref a :: S) h = zsj h a j x fun h => rn 247 102 [l0, l1, l2, l3] S h) ∧
  (∀ (l1 l2 l3 : Value) (x : Nat) (S : List Value) (h : zH), rn 247 102 [.ref x, l1, l2, l3] S h = rn 247 103 [.ref x, l1, l2, l3] (.ref x :: S) h) ∧
  (∀ (l0 l1 l2 l3 : Value) (a : Nat) (S : List Value) (h : zH), rn 247 103 [l0, l1, l2, l3] (.ref a :: S) h = zgf h a 12 0 fun v => rn 247 106 [l0, l1, l2, l3] (v :: S) h) ∧
  (∀ (l0 l2 l3 : Value) (x : Int32) (S : List Value) (h : zH), rn 247 106 [l0, .int x, l2, l3] S h = rn 247 107 [l0, .int x, l2, l3] (.int x :: S) h) ∧
  (∀ (l0 l1 l2 l3 : Value) (S : List Value) (h : zH), rn 247 107 [l0, l1, l2, l3] S h = rn 247 109 [l0, l1, l2, l3] (.int (nI 122) :: S) h) ∧
  (∀ (l0 l1 l3 : Value) (x : Int32) (S : List Value) (h : zH), rn 247 109 [l0, l1, .int x, l3] S h = rn 247 110 [l0, l1, .int x, l3] (.int x :: S) h) ∧
  (∀ (l0 l1 l2 l3 : Value) (x : Int32) (y : Int32) (S : List Value) (h : zH), rn 247 110 [l0, l1, l2, l3] (.int y :: .int x :: S) h = rn 247 111 [l0, l1, l2, l3] (.int (x + y) :: S) h) ∧
  (∀ (l0 l1 l2 l3 : Value) (v0 : Value) (v1 : Value) (S : List Value) (h : zH), rn 247 111 [l0, l1, l2, l3] (v1 :: v0 :: S) h = if zsum S ≤ 8 then zcall (ev 208 [v0, v1] h) (fun v h => rn 247 114 [l0, l1, l2, l3] (zpush v S) h) else none) ∧
  (∀ (l1 l2 l3 : Value) (x : Nat) (S : List Value) (h : zH), rn 247 114 [.ref x, l1, l2, l3] S h = rn 247 115 [.ref x, l1, l2, l3] (.ref x :: S) h) ∧
  (∀ (l0 l1 l2 l3 : Value) (a : Nat) (S : List Value) (h : zH), rn 247 115 [l0, l1, l2, l3] (.ref a :: S) h = zgf h a 12 0 fun v => rn 247 118 [l0, l1, l2, l3] (v :: S) h) ∧
  (∀ (l0 l1 l2 l3 : Value) (S : List Value) (h : zH), rn 247 118 [l0, l1, l2, l3] S h = rn 247 119 [l0, l1, l2, l3] (.int (nI 2) :: S) h) ∧
  (∀ (l0 l1 l2 l3 : Value) (a : Nat) (j : Int32) (S : List Value) (h : zH), rn 247 119 [l0, l1, l2, l3] (.int j :: .ref a :: S) h = zlj h a j fun x => rn 247 120 [l0, l1, l2, l3] (.long x :: S) h) ∧
  (∀ (l0 l1 l2 l3 : Value) (a : Nat) (j : Int32) (x : Int64) (S : List Value) (h : zH), rn 247 120 [l0, l1, l2, l3] (.long x :: .int j :: .ref a :: S) h = zsj h a j x fun h => rn 247 121 [l0, l1, l2, l3] S h) ∧
  (∀ (l0 l1 l2 l3 : Value) (h : zH), rn 247 121 [l0, l1, l2, l3] [] h = some (none, h)) := ⟨fun _ _ _ _ _ _ => r_iconst (show zdec 247 0 = some (.iconst 0, 1) by decide +kernel) rfl rfl,
  fun _ _ _ _ _ _ _ => r_istore_n (show zdec 247 1 = some (.istore_n 3, 1) by decide +kernel) rfl rfl (Nat.le_of_ble_eq_true rfl) rfl rfl,
  fun _ _ _ _ _ _ => r_iconst (show zdec 247 3 = some (.iconst 4, 1) by decide +kernel) rfl rfl,
  fun _ _ _ _ _ _ _ _ => r_icmpge (show zdec 247 4 = some (.if_icmp .ge 33, 3) by decide +kernel) rfl rfl,
  fun _ _ _ _ _ _ => r_aload_nr (show zdec 247 7 = some (.aload_n 0, 1) by decide +kernel) rfl rfl,
  fun _ _ _ _ _ _ _ => r_getfield (show zdec 247 8 = some (.getfield 9, 3) by decide +kernel) (show zft.lookup (247 * zKEY + 9) = some (12, 0) by decide +kernel) rfl,
  fun _ _ _ _ _ _ => r_iload_n (show zdec 247 11 = some (.iload_n 1, 1) by decide +kernel) rfl rfl,
  fun _ _ _ _ _ _ => r_bipush (show zdec 247 12 = some (.bipush 38, 2) by decide +kernel) rfl rfl,
  fun _ _ _ _ _ _ => r_iconst (show zdec 247 14 = some (.iconst 4, 1) by decide +kernel) rfl rfl,
  fun _ _ _ _ _ _ => r_iload_n (show zdec 247 15 = some (.iload_n 2, 1) by decide +kernel) rfl rfl,
  fun _ _ _ _ _ _ _ _ => r_imul (show zdec 247 16 = some (.imul, 1) by decide +kernel) rfl,
  fun _ _ _ _ _ _ _ _ => r_iadd (show zdec 247 17 = some (.iadd, 1) by decide +kernel) rfl,
  fun _ _ _ _ _ _ => r_iload_n (show zdec 247 18 = some (.iload_n 3, 1) by decide +kernel) rfl rfl,
  fun _ _ _ _ _ _ _ _ => r_iadd (show zdec 247 19 = some (.iadd, 1) by decide +kernel) rfl,
  fun _ _ _ _ _ _ _ _ => r_cS [_, _] rfl (show zdec 247 20 = some (.invokestatic 39, 3) by decide +kernel) (show zst.lookup (247 * zKEY + 39) = some (0, 208, 2, 0) by decide +kernel) (by decide) rfl,
  fun _ _ _ _ _ _ => r_aload_nr (show zdec 247 23 = some (.aload_n 0, 1) by decide +kernel) rfl rfl,
  fun _ _ _ _ _ _ => r_iload_n (show zdec 247 24 = some (.iload_n 1, 1) by decide +kernel) rfl rfl,
  fun _ _ _ _ _ _ => r_iload_n (show zdec 247 25 = some (.iload_n 2, 1) by decide +kernel) rfl rfl,
  fun _ _ _ _ _ _ => r_iload_n (show zdec 247 26 = some (.iload_n 3, 1) by decide +kernel) rfl rfl,
  fun _ _ _ _ _ _ _ _ _ _ => r_cV [_, _, _] rfl (show zdec 247 27 = some (.invokevirtual 136, 3) by decide +kernel) (show zst.lookup (247 * zKEY + 136) = some (1, 237, 3, 12) by decide +kernel) (by decide) rfl,
  fun _ _ _ _ _ _ _ _ _ => r_last (show zdec 247 30 = some (.lastore, 1) by decide +kernel) rfl,
  fun _ _ _ _ _ _ => r_iinc (show zdec 247 31 = some (.iinc 3 1, 3) by decide +kernel) rfl rfl rfl (Nat.le_of_ble_eq_true rfl) rfl rfl,
  fun _ _ _ _ _ _ => r_goto (show zdec 247 34 = some (.goto (-32), 3) by decide +kernel) rfl,
  fun _ _ _ _ _ _ => r_aload_nr (show zdec 247 37 = some (.aload_n 0, 1) by decide +kernel) rfl rfl,
  fun _ _ _ _ _ _ _ => r_getfield (show zdec 247 38 = some (.getfield 9, 3) by decide +kernel) (show zft.lookup (247 * zKEY + 9) = some (12, 0) by decide +kernel) rfl,
  fun _ _ _ _ _ _ => r_iload_n (show zdec 247 41 = some (.iload_n 1, 1) by decide +kernel) rfl rfl,
  fun _ _ _ _ _ _ => r_bipush (show zdec 247 42 = some (.bipush 86, 2) by decide +kernel) rfl rfl,
  fun _ _ _ _ _ _ => r_iload_n (show zdec 247 44 = some (.iload_n 2, 1) by decide +kernel) rfl rfl,
  fun _ _ _ _ _ _ _ _ => r_iadd (show zdec 247 45 = some (.iadd, 1) by decide +kernel) rfl,
  fun _ _ _ _ _ _ _ _ => r_cS [_, _] rfl (show zdec 247 46 = some (.invokestatic 39, 3) by decide +kernel) (show zst.lookup (247 * zKEY + 39) = some (0, 208, 2, 0) by decide +kernel) (by decide) rfl,
  fun _ _ _ _ _ _ => r_aload_nr (show zdec 247 49 = some (.aload_n 0, 1) by decide +kernel) rfl rfl,
  fun _ _ _ _ _ _ => r_iload_n (show zdec 247 50 = some (.iload_n 1, 1) by decide +kernel) rfl rfl,
  fun _ _ _ _ _ _ => r_iconst (show zdec 247 51 = some (.iconst 2, 1) by decide +kernel) rfl rfl,
  fun _ _ _ _ _ _ => r_iload_n (show zdec 247 52 = some (.iload_n 2, 1) by decide +kernel) rfl rfl,
  fun _ _ _ _ _ _ _ _ => r_iadd (show zdec 247 53 = some (.iadd, 1) by decide +kernel) rfl,
  fun _ _ _ _ _ _ _ _ _ => r_cV [_, _] rfl (show zdec 247 54 = some (.invokevirtual 85, 3) by decide +kernel) (show zst.lookup (247 * zKEY + 85) = some (1, 226, 2, 12) by decide +kernel) (by decide) rfl,
  fun _ _ _ _ _ _ _ _ _ => r_last (show zdec 247 57 = some (.lastore, 1) by decide +kernel) rfl,
  fun _ _ _ _ _ _ => r_aload_nr (show zdec 247 58 = some (.aload_n 0, 1) by decide +kernel) rfl rfl,
  fun _ _ _ _ _ _ _ => r_getfield (show zdec 247 59 = some (.getfield 9, 3) by decide +kernel) (show zft.lookup (247 * zKEY + 9) = some (12, 0) by decide +kernel) rfl,
  fun _ _ _ _ _ _ => r_iload_n (show zdec 247 62 = some (.iload_n 1, 1) by decide +kernel) rfl rfl,
  fun _ _ _ _ _ _ => r_bipush (show zdec 247 63 = some (.bipush 98, 2) by decide +kernel) rfl rfl,
  fun _ _ _ _ _ _ => r_iload_n (show zdec 247 65 = some (.iload_n 2, 1) by decide +kernel) rfl rfl,
  fun _ _ _ _ _ _ _ _ => r_iadd (show zdec 247 66 = some (.iadd, 1) by decide +kernel) rfl,
  fun _ _ _ _ _ _ _ _ => r_cS [_, _] rfl (show zdec 247 67 = some (.invokestatic 39, 3) by decide +kernel) (show zst.lookup (247 * zKEY + 39) = some (0, 208, 2, 0) by decide +kernel) (by decide) rfl,
  fun _ _ _ _ _ _ => r_aload_nr (show zdec 247 70 = some (.aload_n 0, 1) by decide +kernel) rfl rfl,
  fun _ _ _ _ _ _ => r_iload_n (show zdec 247 71 = some (.iload_n 1, 1) by decide +kernel) rfl rfl,
  fun _ _ _ _ _ _ => r_bipush (show zdec 247 72 = some (.bipush 14, 2) by decide +kernel) rfl rfl,
  fun _ _ _ _ _ _ => r_iload_n (show zdec 247 74 = some (.iload_n 2, 1) by decide +kernel) rfl rfl,
  fun _ _ _ _ _ _ _ _ => r_iadd (show zdec 247 75 = some (.iadd, 1) by decide +kernel) rfl,
  fun _ _ _ _ _ _ _ _ _ => r_cV [_, _] rfl (show zdec 247 76 = some (.invokevirtual 85, 3) by decide +kernel) (show zst.lookup (247 * zKEY + 85) = some (1, 226, 2, 12) by decide +kernel) (by decide) rfl,
  fun _ _ _ _ _ _ _ _ _ => r_last (show zdec 247 79 = some (.lastore, 1) by decide +kernel) rfl,
  fun _ _ _ _ _ _ => r_aload_nr (show zdec 247 80 = some (.aload_n 0, 1) by decide +kernel) rfl rfl,
  fun _ _ _ _ _ _ _ => r_getfield (show zdec 247 81 = some (.getfield 9, 3) by decide +kernel) (show zft.lookup (247 * zKEY + 9) = some (12, 0) by decide +kernel) rfl,
  fun _ _ _ _ _ _ => r_iload_n (show zdec 247 84 = some (.iload_n 1, 1) by decide +kernel) rfl rfl,
  fun _ _ _ _ _ _ => r_bipush (show zdec 247 85 = some (.bipush 110, 2) by decide +kernel) rfl rfl,
  fun _ _ _ _ _ _ => r_iload_n (show zdec 247 87 = some (.iload_n 2, 1) by decide +kernel) rfl rfl,
  fun _ _ _ _ _ _ _ _ => r_iadd (show zdec 247 88 = some (.iadd, 1) by decide +kernel) rfl,
  fun _ _ _ _ _ _ _ _ => r_cS [_, _] rfl (show zdec 247 89 = some (.invokestatic 39, 3) by decide +kernel) (show zst.lookup (247 * zKEY + 39) = some (0, 208, 2, 0) by decide +kernel) (by decide) rfl,
  fun _ _ _ _ _ _ => r_aload_nr (show zdec 247 92 = some (.aload_n 0, 1) by decide +kernel) rfl rfl,
  fun _ _ _ _ _ _ => r_iload_n (show zdec 247 93 = some (.iload_n 1, 1) by decide +kernel) rfl rfl,
  fun _ _ _ _ _ _ => r_bipush (show zdec 247 94 = some (.bipush 26, 2) by decide +kernel) rfl rfl,
  fun _ _ _ _ _ _ => r_iload_n (show zdec 247 96 = some (.iload_n 2, 1) by decide +kernel) rfl rfl,
  fun _ _ _ _ _ _ _ _ => r_iadd (show zdec 247 97 = some (.iadd, 1) by decide +kernel) rfl,
  fun _ _ _ _ _ _ _ _ _ => r_cV [_, _] rfl (show zdec 247 98 = some (.invokevirtual 85, 3) by decide +kernel) (show zst.lookup (247 * zKEY + 85) = some (1, 226, 2, 12) by decide +kernel) (by decide) rfl,
  fun _ _ _ _ _ _ _ _ _ => r_last (show zdec 247 101 = some (.lastore, 1) by decide +kernel) rfl,
  fun _ _ _ _ _ _ => r_aload_nr (show zdec 247 102 = some (.aload_n 0, 1) by decide +kernel) rfl rfl,
  fun _ _ _ _ _ _ _ => r_getfield (show zdec 247 103 = some (.getfield 9, 3) by decide +kernel) (show zft.lookup (247 * zKEY + 9) = some (12, 0) by decide +kernel) rfl,
  fun _ _ _ _ _ _ => r_iload_n (show zdec 247 106 = some (.iload_n 1, 1) by decide +kernel) rfl rfl,
  fun _ _ _ _ _ _ => r_bipush (show zdec 247 107 = some (.bipush 122, 2) by decide +kernel) rfl rfl,
  fun _ _ _ _ _ _ => r_iload_n (show zdec 247 109 = some (.iload_n 2, 1) by decide +kernel) rfl rfl,
  fun _ _ _ _ _ _ _ _ => r_iadd (show zdec 247 110 = some (.iadd, 1) by decide +kernel) rfl,
  fun _ _ _ _ _ _ _ _ => r_cS [_, _] rfl (show zdec 247 111 = some (.invokestatic 39, 3) by decide +kernel) (show zst.lookup (247 * zKEY + 39) = some (0, 208, 2, 0) by decide +kernel) (by decide) rfl,
  fun _ _ _ _ _ _ => r_aload_nr (show zdec 247 114 = some (.aload_n 0, 1) by decide +kernel) rfl rfl,
  fun _ _ _ _ _ _ _ => r_getfield (show zdec 247 115 = some (.getfield 9, 3) by decide +kernel) (show zft.lookup (247 * zKEY + 9) = some (12, 0) by decide +kernel) rfl,
  fun _ _ _ _ _ _ => r_iconst (show zdec 247 118 = some (.iconst 2, 1) by decide +kernel) rfl rfl,
  fun _ _ _ _ _ _ _ _ => r_lald (show zdec 247 119 = some (.laload, 1) by decide +kernel) rfl,
  fun _ _ _ _ _ _ _ _ _ => r_last (show zdec 247 120 = some (.lastore, 1) by decide +kernel) rfl,
  fun _ _ _ _ _ => r_vret (show zdec 247 121 = some (.return_, 1) by decide +kernel) (by decide +kernel)⟩
theorem zl_247_2 : ∀ (l0 l1 l2 : Value) (x : Int32) (S : List Value) (h : zH), rn 247 2 [l0, l1, l2, .int x] S h = rn 247 3 [l0, l1, l2, .int x] (.int x :: S) h := fun _ _ _ _ _ _ => r_iload_n (show zdec 247 2 = some (.iload_n 3, 1) by decide +kernel) rfl rfl
theorem ze_247 : ∀ (a0 : Nat) (a1 : Int32) (a2 : Int32) (h : zH), ev 247 [.ref a0, .int a1, .int a2] h = rn 247 0 [.ref a0, .int a1, .int a2, .float 0] [] h := fun _ _ _ _ => if_pos (Nat.le_of_ble_eq_true rfl)
-- PayrollRunModel.sumOfLines(II)J
theorem zr_248 : (∀ (l0 l1 l2 l3 l4 l5 : Value) (S : List Value) (h : zH), rn 248 0 [l0, l1, l2, l3, l4, l5] S h = rn 248 1 [l0, l1, l2, l3, l4, l5] (.long 0 :: S) h) ∧
  (∀ (l0 l1 l2 l3 l4 l5 : Value) (x : Int64) (S : List Value) (h : zH), rn 248 1 [l0, l1, l2, l3, l4, l5] (.long x :: S) h = nl l2 (rn 248 2 [l0, l1, l2, .long x, .float 0, l5] S h)) ∧
  (∀ (l0 l1 l2 l3 l4 l5 : Value) (S : List Value) (h : zH), rn 248 2 [l0, l1, l2, l3, l4, l5] S h = rn 248 3 [l0, l1, l2, l3, l4, l5] (.int (nI 0) :: S) h) ∧
  (∀ (l0 l1 l2 l3 l4 l5 : Value) (x : Int32) (S : List Value) (h : zH), rn 248 3 [l0, l1, l2, l3, l4, l5] (.int x :: S) h = nl l4 (rn 248 5 [l0, l1, l2, l3, l4, .int x] S h)) ∧
  (∀ (l0 l1 l2 l3 l4 l5 : Value) (x : Int32) (S : List Value) (h : zH), rn 248 7 [l0, l1, l2, l3, l4, l5] (.int x :: S) h = rn 248 8 [l0, l1, l2, l3, l4, l5] (.long x.toInt64 :: S) h) ∧
  (∀ (l1 l2 l3 l4 l5 : Value) (x : Nat) (S : List Value) (h : zH), rn 248 8 [.ref x, l1, l2, l3, l4, l5] S h = rn 248 9 [.ref x, l1, l2, l3, l4, l5] (.ref x :: S) h) ∧
  (∀ (l0 l2 l3 l4 l5 : Value) (x : Int32) (S : List Value) (h : zH), rn 248 9 [l0, .int x, l2, l3, l4, l5] S h = rn 248 10 [l0, .int x, l2, l3, l4, l5] (.int x :: S) h) ∧
  (∀ (l0 l1 l2 l3 l4 l5 : Value) (S : List Value) (h : zH), rn 248 10 [l0, l1, l2, l3, l4, l5] S h = rn 248 13 [l0, l1, l2, l3, l4, l5] (.int (nI 147) :: S) h) ∧
  (∀ (l0 l1 l3 l4 l5 : Value) (x : Int32) (S : List Value) (h : zH), rn 248 13 [l0, l1, .int x, l3, l4, l5] S h = rn 248 14 [l0, l1, .int x, l3, l4, l5] (.int x :: S) h) ∧
  (∀ (l0 l1 l2 l3 l4 l5 : Value) (x : Int32) (y : Int32) (S : List Value) (h : zH), rn 248 14 [l0, l1, l2, l3, l4, l5] (.int y :: .int x :: S) h = rn 248 15 [l0, l1, l2, l3, l4, l5] (.int (x + y) :: S) h) ∧
  (∀ (l0 l1 l2 l3 l4 l5 : Value) (o : Nat) (v0 : Value) (v1 : Value) (S : List Value) (h : zH), rn 248 15 [l0, l1, l2, l3, l4, l5] (v1 :: v0 :: .ref o :: S) h = if zkd h o = 12 ∧ zsum S ≤ 8 then zcall (ev 226 [.ref o, v0, v1] h) (fun v h => rn 248 18 [l0, l1, l2, l3, l4, l5] (zpush v S) h) else none) ∧
  (∀ (l0 l1 l2 l3 l4 l5 : Value) (x : Int64) (y : Int64) (S : List Value) (h : zH), rn 248 18 [l0, l1, l2, l3, l4, l5] (.long y :: .long x :: S) h = rn 248 19 [l0, l1, l2, l3, l4, l5] (.int (lg_cmp x y) :: S) h) ∧
  (∀ (l0 l1 l2 l3 l4 l5 : Value) (x : Int32) (S : List Value) (h : zH), rn 248 19 [l0, l1, l2, l3, l4, l5] (.int x :: S) h = if nI 0 ≤ x then rn 248 45 [l0, l1, l2, l3, l4, l5] S h else rn 248 22 [l0, l1, l2, l3, l4, l5] S h) ∧
  (∀ (l0 l1 l2 l4 l5 : Value) (x : Int64) (S : List Value) (h : zH), rn 248 22 [l0, l1, l2, .long x, l4, l5] S h = rn 248 23 [l0, l1, l2, .long x, l4, l5] (.long x :: S) h) ∧
  (∀ (l1 l2 l3 l4 l5 : Value) (x : Nat) (S : List Value) (h : zH), rn 248 23 [.ref x, l1, l2, l3, l4, l5] S h = rn 248 24 [.ref x, l1, l2, l3, l4, l5] (.ref x :: S) h) ∧
  (∀ (l0 l1 l2 l3 l4 l5 : Value) (a : Nat) (S : List Value) (h : zH), rn 248 24 [l0, l1, l2, l3, l4, l5] (.ref a :: S) h = zgf h a 12 0 fun v => rn 248 27 [l0, l1, l2, l3, l4, l5] (v :: S) h) ∧
  (∀ (l0 l2 l3 l4 l5 : Value) (x : Int32) (S : List Value) (h : zH), rn 248 27 [l0, .int x, l2, l3, l4, l5] S h = rn 248 28 [l0, .int x, l2, l3, l4, l5] (.int x :: S) h) ∧
  (∀ (l0 l1 l3 l4 l5 : Value) (x : Int32) (S : List Value) (h : zH), rn 248 28 [l0, l1, .int x, l3, l4, l5] S h = rn 248 29 [l0, l1, .int x, l3, l4, l5] (.int x :: S) h) ∧
  (∀ (l0 l1 l2 l3 l4 : Value) (x : Int32) (S : List Value) (h : zH), rn 248 29 [l0, l1, l2, l3, l4, .int x] S h = rn 248 31 [l0, l1, l2, l3, l4, .int x] (.int x :: S) h) ∧
  (∀ (l0 l1 l2 l3 l4 l5 : Value) (v0 : Value) (v1 : Value) (v2 : Value) (S : List Value) (h : zH), rn 248 31 [l0, l1, l2, l3, l4, l5] (v2 :: v1 :: v0 :: S) h = if zsum S ≤ 8 then zcall (ev 244 [v0, v1, v2] h) (fun v h => rn 248 34 [l0, l1, l2, l3, l4, l5] (zpush v S) h) else none) ∧
  (∀ (l0 l1 l2 l3 l4 l5 : Value) (S : List Value) (h : zH), rn 248 34 [l0, l1, l2, l3, l4, l5] S h = rn 248 35 [l0, l1, l2, l3, l4, l5] (.int (nI 3) :: S) h) ∧
  (∀ (l0 l1 l2 l3 l4 l5 : Value) (x : Int32) (y : Int32) (S : List Value) (h : zH), rn 248 35 [l0, l1, l2, l3, l4, l5] (.int y :: .int x :: S) h = rn 248 36 [l0, l1, l2, l3, l4, l5] (.int (x + y) :: S) h) ∧
  (∀ (l0 l1 l2 l3 l4 l5 : Value) (a : Nat) (j : Int32) (S : List Value) (h : zH), rn 248 36 [l0, l1, l2, l3, l4, l5] (.int j :: .ref a :: S) h = zlj h a j fun x => rn 248 37 [l0, l1, l2, l3, l4, l5] (.long x :: S) h) ∧
  (∀ (l0 l1 l2 l3 l4 l5 : Value) (x : Int64) (y : Int64) (S : List Value) (h : zH), rn 248 37 [l0, l1, l2, l3, l4, l5] (.long y :: .long x :: S) h = rn 248 38 [l0, l1, l2, l3, l4, l5] (.long (x + y) :: S) h) ∧
  (∀ (l0 l1 l2 l3 l4 l5 : Value) (x : Int64) (S : List Value) (h : zH), rn 248 38 [l0, l1, l2, l3, l4, l5] (.long x :: S) h = nl l2 (rn 248 39 [l0, l1, l2, .long x, .float 0, l5] S h)) ∧
  (∀ (l0 l1 l2 l3 l4 : Value) (x : Int32) (S : List Value) (h : zH), rn 248 39 [l0, l1, l2, l3, l4, .int x] S h = nl l4 (rn 248 42 [l0, l1, l2, l3, l4, .int (x + (nI 1))] S h)) ∧
  (∀ (l0 l1 l2 l3 l4 l5 : Value) (S : List Value) (h : zH), rn 248 42 [l0, l1, l2, l3, l4, l5] S h = rn 248 5 [l0, l1, l2, l3, l4, l5] S h) ∧
  (∀ (l0 l1 l2 l4 l5 : Value) (x : Int64) (S : List Value) (h : zH), rn 248 45 [l0, l1, l2, .long x, l4, l5] S h = rn 248 46 [l0, l1, l2, .long x, l4, l5] (.long x :: S) h) ∧
  (∀ (l0 l1 l2 l3 l4 l5 : Value) (x : Int64) (h : zH), rn 248 46 [l0, l1, l2, l3, l4, l5] [.long x] h = some (some (.long x), h)) := ⟨fun _ _ _ _ _ _ _ _ => r_lconst (show zdec 248 0 = some (.lconst 0, 1) by decide +kernel) rfl rfl,
  fun _ _ _ _ _ _ _ _ _ => r_lstore_n (show zdec 248 1 = some (.lstore_n 3, 1) by decide +kernel) rfl rfl (Nat.le_of_ble_eq_true rfl) rfl rfl,
  fun _ _ _ _ _ _ _ _ => r_iconst (show zdec 248 2 = some (.iconst 0, 1) by decide +kernel) rfl rfl,
  fun _ _ _ _ _ _ _ _ _ => r_istore (show zdec 248 3 = some (.istore 5, 2) by decide +kernel) rfl (Nat.le_of_ble_eq_true rfl) rfl rfl,
  fun _ _ _ _ _ _ _ _ _ => r_i2l (show zdec 248 7 = some (.i2l, 1) by decide +kernel) rfl,
  fun _ _ _ _ _ _ _ _ => r_aload_nr (show zdec 248 8 = some (.aload_n 0, 1) by decide +kernel) rfl rfl,
  fun _ _ _ _ _ _ _ _ => r_iload_n (show zdec 248 9 = some (.iload_n 1, 1) by decide +kernel) rfl rfl,
  fun _ _ _ _ _ _ _ _ => r_sipush (show zdec 248 10 = some (.sipush 147, 3) by decide +kernel) rfl rfl,
  fun _ _ _ _ _ _ _ _ => r_iload_n (show zdec 248 13 = some (.iload_n 2, 1) by decide +kernel) rfl rfl,
  fun _ _ _ _ _ _ _ _ _ _ => r_iadd (show zdec 248 14 = some (.iadd, 1) by decide +kernel) rfl,
  fun _ _ _ _ _ _ _ _ _ _ _ => r_cV [_, _] rfl (show zdec 248 15 = some (.invokevirtual 85, 3) by decide +kernel) (show zst.lookup (248 * zKEY + 85) = some (1, 226, 2, 12) by decide +kernel) (by decide) rfl,
  fun _ _ _ _ _ _ _ _ _ _ => r_lcmp (show zdec 248 18 = some (.lcmp, 1) by decide +kernel) rfl,
  fun _ _ _ _ _ _ _ _ _ => r_ifge (show zdec 248 19 = some (.ifCond .ge 26, 3) by decide +kernel) rfl rfl,
  fun _ _ _ _ _ _ _ _ => r_lload_n (show zdec 248 22 = some (.lload_n 3, 1) by decide +kernel) rfl rfl,
  fun _ _ _ _ _ _ _ _ => r_aload_nr (show zdec 248 23 = some (.aload_n 0, 1) by decide +kernel) rfl rfl,
  fun _ _ _ _ _ _ _ _ _ => r_getfield (show zdec 248 24 = some (.getfield 9, 3) by decide +kernel) (show zft.lookup (248 * zKEY + 9) = some (12, 0) by decide +kernel) rfl,
  fun _ _ _ _ _ _ _ _ => r_iload_n (show zdec 248 27 = some (.iload_n 1, 1) by decide +kernel) rfl rfl,
  fun _ _ _ _ _ _ _ _ => r_iload_n (show zdec 248 28 = some (.iload_n 2, 1) by decide +kernel) rfl rfl,
  fun _ _ _ _ _ _ _ _ => r_iload (show zdec 248 29 = some (.iload 5, 2) by decide +kernel) rfl rfl,
  fun _ _ _ _ _ _ _ _ _ _ _ => r_cS [_, _, _] rfl (show zdec 248 31 = some (.invokestatic 132, 3) by decide +kernel) (show zst.lookup (248 * zKEY + 132) = some (0, 244, 3, 0) by decide +kernel) (by decide) rfl,
  fun _ _ _ _ _ _ _ _ => r_iconst (show zdec 248 34 = some (.iconst 3, 1) by decide +kernel) rfl rfl,
  fun _ _ _ _ _ _ _ _ _ _ => r_iadd (show zdec 248 35 = some (.iadd, 1) by decide +kernel) rfl,
  fun _ _ _ _ _ _ _ _ _ _ => r_lald (show zdec 248 36 = some (.laload, 1) by decide +kernel) rfl,
  fun _ _ _ _ _ _ _ _ _ _ => r_ladd (show zdec 248 37 = some (.ladd, 1) by decide +kernel) rfl,
  fun _ _ _ _ _ _ _ _ _ => r_lstore_n (show zdec 248 38 = some (.lstore_n 3, 1) by decide +kernel) rfl rfl (Nat.le_of_ble_eq_true rfl) rfl rfl,
  fun _ _ _ _ _ _ _ _ => r_iinc (show zdec 248 39 = some (.iinc 5 1, 3) by decide +kernel) rfl rfl rfl (Nat.le_of_ble_eq_true rfl) rfl rfl,
  fun _ _ _ _ _ _ _ _ => r_goto (show zdec 248 42 = some (.goto (-37), 3) by decide +kernel) rfl,
  fun _ _ _ _ _ _ _ _ => r_lload_n (show zdec 248 45 = some (.lload_n 3, 1) by decide +kernel) rfl rfl,
  fun _ _ _ _ _ _ _ _ => r_lret (show zdec 248 46 = some (.lreturn, 1) by decide +kernel) (by decide +kernel)⟩
theorem zl_248_5 : ∀ (l0 l1 l2 l3 l4 : Value) (x : Int32) (S : List Value) (h : zH), rn 248 5 [l0, l1, l2, l3, l4, .int x] S h = rn 248 7 [l0, l1, l2, l3, l4, .int x] (.int x :: S) h := fun _ _ _ _ _ _ _ _ => r_iload (show zdec 248 5 = some (.iload 5, 2) by decide +kernel) rfl rfl
theorem ze_248 : ∀ (a0 : Nat) (a1 : Int32) (a2 : Int32) (h : zH), ev 248 [.ref a0, .int a1, .int a2] h = rn 248 0 [.ref a0, .int a1, .int a2, .float 0, .float 0, .float 0] [] h := fun _ _ _ _ => if_pos (Nat.le_of_ble_eq_true rfl)
-- PayrollRunModel.addGarnishLines(IIJ)V
theorem zr_249 : (∀ (l0 l1 l2 l4 l5 l6 l7 l8 l9 l10 l11 l12 l13 l14 l15 : Value) (x : Int64) (S : List Value) (h : zH), rn 249 0 [l0, l1, l2, .long x, l4, l5, l6, l7, l8, l9, l10, l11, l12, l13, l14, l15] S h = rn 249 1 [l0, l1, l2, .long x, l4, l5, l6, l7, l8, l9, l10, l11, l12, l13, l14, l15] (.long x :: S) h) ∧
  (∀ (l0 l1 l2 l3 l4 l5 l6 l7 l8 l9 l10 l11 l12 l13 l14 l15 : Value) (x : Int64) (S : List Value) (h : zH), rn 249 1 [l0, l1, l2, l3, l4, l5, l6, l7, l8, l9, l10, l11, l12, l13, l14, l15] (.long x :: S) h = nl l4 (rn 249 3 [l0, l1, l2, l3, l4, .long x, .float 0, l7, l8, l9, l10, l11, l12, l13, l14, l15] S h)) ∧
  (∀ (l0 l1 l2 l3 l4 l5 l6 l7 l8 l9 l10 l11 l12 l13 l14 l15 : Value) (S : List Value) (h : zH), rn 249 3 [l0, l1, l2, l3, l4, l5, l6, l7, l8, l9, l10, l11, l12, l13, l14, l15] S h = rn 249 4 [l0, l1, l2, l3, l4, l5, l6, l7, l8, l9, l10, l11, l12, l13, l14, l15] (.int (nI 0) :: S) h) ∧
  (∀ (l0 l1 l2 l3 l4 l5 l6 l7 l8 l9 l10 l11 l12 l13 l14 l15 : Value) (x : Int32) (S : List Value) (h : zH), rn 249 4 [l0, l1, l2, l3, l4, l5, l6, l7, l8, l9, l10, l11, l12, l13, l14, l15] (.int x :: S) h = nl l6 (rn 249 6 [l0, l1, l2, l3, l4, l5, l6, .int x, l8, l9, l10, l11, l12, l13, l14, l15] S h)) ∧
  (∀ (l0 l1 l2 l3 l4 l5 l6 l7 l8 l9 l10 l11 l12 l13 l14 l15 : Value) (x : Int32) (S : List Value) (h : zH), rn 249 8 [l0, l1, l2, l3, l4, l5, l6, l7, l8, l9, l10, l11, l12, l13, l14, l15] (.int x :: S) h = rn 249 9 [l0, l1, l2, l3, l4, l5, l6, l7, l8, l9, l10, l11, l12, l13, l14, l15] (.long x.toInt64 :: S) h) ∧
  (∀ (l1 l2 l3 l4 l5 l6 l7 l8 l9 l10 l11 l12 l13 l14 l15 : Value) (x : Nat) (S : List Value) (h : zH), rn 249 9 [.ref x, l1, l2, l3, l4, l5, l6, l7, l8, l9, l10, l11, l12, l13, l14, l15] S h = rn 249 10 [.ref x, l1, l2, l3, l4, l5, l6, l7, l8, l9, l10, l11, l12, l13, l14, l15] (.ref x :: S) h) ∧
  (∀ (l0 l2 l3 l4 l5 l6 l7 l8 l9 l10 l11 l12 l13 l14 l15 : Value) (x : Int32) (S : List Value) (h : zH), rn 249 10 [l0, .int x, l2, l3, l4, l5, l6, l7, l8, l9, l10, l11, l12, l13, l14, l15] S h = rn 249 11 [l0, .int x, l2, l3, l4, l5, l6, l7, l8, l9, l10, l11, l12, l13, l14, l15] (.int x :: S) h) ∧
  (∀ (l0 l1 l2 l3 l4 l5 l6 l7 l8 l9 l10 l11 l12 l13 l14 l15 : Value) (S : List Value) (h : zH), rn 249 11 [l0, l1, l2, l3, l4, l5, l6, l7, l8, l9, l10, l11, l12, l13, l14, l15] S h = rn 249 14 [l0, l1, l2, l3, l4, l5, l6, l7, l8, l9, l10, l11, l12, l13, l14, l15] (.int (nI 134) :: S) h) ∧
  (∀ (l0 l1 l2 l3 l4 l5 l6 l7 l8 l9 l10 l11 l12 l13 l14 l15 : Value) (o : Nat) (v0 : Value) (v1 : Value) (S : List Value) (h : zH), rn 249 14 [l0, l1, l2, l3, l4, l5, l6, l7, l8, l9, l10, l11, l12, l13, l14, l15] (v1 :: v0 :: .ref o :: S) h = if zkd h o = 12 ∧ zsum S ≤ 8 then zcall (ev 226 [.ref o, v0, v1] h) (fun v h => rn 249 17 [l0, l1, l2, l3, l4, l5, l6, l7, l8, l9, l10, l11, l12, l13, l14, l15] (zpush v S) h) else none) ∧
  (∀ (l0 l1 l2 l3 l4 l5 l6 l7 l8 l9 l10 l11 l12 l13 l14 l15 : Value) (x : Int64) (y : Int64) (S : List Value) (h : zH), rn 249 17 [l0, l1, l2, l3, l4, l5, l6, l7, l8, l9, l10, l11, l12, l13, l14, l15] (.long y :: .long x :: S) h = rn 249 18 [l0, l1, l2, l3, l4, l5, l6, l7, l8, l9, l10, l11, l12, l13, l14, l15] (.int (lg_cmp x y) :: S) h) ∧
  (∀ (l0 l1 l2 l3 l4 l5 l6 l7 l8 l9 l10 l11 l12 l13 l14 l15 : Value) (x : Int32) (S : List Value) (h : zH), rn 249 18 [l0, l1, l2, l3, l4, l5, l6, l7, l8, l9, l10, l11, l12, l13, l14, l15] (.int x :: S) h = if nI 0 ≤ x then rn 249 191 [l0, l1, l2, l3, l4, l5, l6, l7, l8, l9, l10, l11, l12, l13, l14, l15] S h else rn 249 21 [l0, l1, l2, l3, l4, l5, l6, l7, l8, l9, l10, l11, l12, l13, l14, l15] S h) ∧
  (∀ (l0 l2 l3 l4 l5 l6 l7 l8 l9 l10 l11 l12 l13 l14 l15 : Value) (x : Int32) (S : List Value) (h : zH), rn 249 21 [l0, .int x, l2, l3, l4, l5, l6, l7, l8, l9, l10, l11, l12, l13, l14, l15] S h = rn 249 22 [l0, .int x, l2, l3, l4, l5, l6, l7, l8, l9, l10, l11, l12, l13, l14, l15] (.int x :: S) h) ∧
  (∀ (l0 l1 l2 l3 l4 l5 l6 l7 l8 l9 l10 l11 l12 l13 l14 l15 : Value) (S : List Value) (h : zH), rn 249 22 [l0, l1, l2, l3, l4, l5, l6, l7, l8, l9, l10, l11, l12, l13, l14, l15] S h = rn 249 25 [l0, l1, l2, l3, l4, l5, l6, l7, l8, l9, l10, l11, l12, l13, l14, l15] (.int (nI 135) :: S) h) ∧
  (∀ (l0 l1 l2 l3 l4 l5 l6 l7 l8 l9 l10 l11 l12 l13 l14 l15 : Value) (S : List Value) (h : zH), rn 249 25 [l0, l1, l2, l3, l4, l5, l6, l7, l8, l9, l10, l11, l12, l13, l14, l15] S h = rn 249 26 [l0, l1, l2, l3, l4, l5, l6, l7, l8, l9, l10, l11, l12, l13, l14, l15] (.int (nI 4) :: S) h) ∧
  (∀ (l0 l1 l2 l3 l4 l5 l6 l8 l9 l10 l11 l12 l13 l14 l15 : Value) (x : Int32) (S : List Value) (h : zH), rn 249 26 [l0, l1, l2, l3, l4, l5, l6, .int x, l8, l9, l10, l11, l12, l13, l14, l15] S h = rn 249 28 [l0, l1, l2, l3, l4, l5, l6, .int x, l8, l9, l10, l11, l12, l13, l14, l15] (.int x :: S) h) ∧
  (∀ (l0 l1 l2 l3 l4 l5 l6 l7 l8 l9 l10 l11 l12 l13 l14 l15 : Value) (x : Int32) (y : Int32) (S : List Value) (h : zH), rn 249 28 [l0, l1, l2, l3, l4, l5, l6, l7, l8, l9, l10, l11, l12, l13, l14, l15] (.int y :: .int x :: S) h = rn 249 29 [l0, l1, l2, l3, l4, l5, l6, l7, l8, l9, l10, l11, l12, l13, l14, l15] (.int (x * y) :: S) h) ∧
  (∀ (l0 l1 l2 l3 l4 l5 l6 l7 l8 l9 l10 l11 l12 l13 l14 l15 : Value) (x : Int32) (y : Int32) (S : List Value) (h : zH), rn 249 29 [l0, l1, l2, l3, l4, l5, l6, l7, l8, l9, l10, l11, l12, l13, l14, l15] (.int y :: .int x :: S) h = rn 249 30 [l0, l1, l2, l3, l4, l5, l6, l7, l8, l9, l10, l11, l12, l13, l14, l15] (.int (x + y) :: S) h) ∧
  (∀ (l0 l1 l2 l3 l4 l5 l6 l7 l8 l9 l10 l11 l12 l13 l14 l15 : Value) (v0 : Value) (v1 : Value) (S : List Value) (h : zH), rn 249 30 [l0, l1, l2, l3, l4, l5, l6, l7, l8, l9, l10, l11, l12, l13, l14, l15] (v1 :: v0 :: S) h = if zsum S ≤ 8 then zcall (ev 208 [v0, v1] h) (fun v h => rn 249 33 [l0, l1, l2, l3, l4, l5, l6, l7, l8, l9, l10, l11, l12, l13, l14, l15] (zpush v S) h) else none) ∧
  (∀ (l0 l1 l2 l3 l4 l5 l6 l7 l8 l9 l10 l11 l12 l13 l14 l15 : Value) (x : Int32) (S : List Value) (h : zH), rn 249 33 [l0, l1, l2, l3, l4, l5, l6, l7, l8, l9, l10, l11, l12, l13, l14, l15] (.int x :: S) h = nl l7 (rn 249 35 [l0, l1, l2, l3, l4, l5, l6, l7, .int x, l9, l10, l11, l12, l13, l14, l15] S h)) ∧
  (∀ (l1 l2 l3 l4 l5 l6 l7 l8 l9 l10 l11 l12 l13 l14 l15 : Value) (x : Nat) (S : List Value) (h : zH), rn 249 35 [.ref x, l1, l2, l3, l4, l5, l6, l7, l8, l9, l10, l11, l12, l13, l14, l15] S h = rn 249 36 [.ref x, l1, l2, l3, l4, l5, l6, l7, l8, l9, l10, l11, l12, l13, l14, l15] (.ref x :: S) h) ∧
  (∀ (l0 l1 l2 l3 l4 l5 l6 l7 l8 l9 l10 l11 l12 l13 l14 l15 : Value) (a : Nat) (S : List Value) (h : zH), rn 249 36 [l0, l1, l2, l3, l4, l5, l6, l7, l8, l9, l10, l11, l12, l13, l14, l15] (.ref a :: S) h = zgf h a 12 0 fun v => rn 249 39 [l0, l1, l2, l3, l4, l5, l6, l7, l8, l9, l10, l11, l12, l13, l14, l15] (v :: S) h) ∧
  (∀ (l0 l1 l2 l3 l4 l5 l6 l7 l9 l10 l11 l12 l13 l14 l15 : Value) (x : Int32) (S : List Value) (h : zH), rn 249 39 [l0, l1, l2, l3, l4, l5, l6, l7, .int x, l9, l10, l11, l12, l13, l14, l15] S h = rn 249 41 [l0, l1, l2, l3, l4, l5, l6, l7, .int x, l9, l10, l11, l12, l13, l14, l15] (.int x :: S) h) ∧
  (∀ (l0 l1 l2 l3 l4 l5 l6 l7 l8 l9 l10 l11 l12 l13 l14 l15 : Value) (S : List Value) (h : zH), rn 249 41 [l0, l1, l2, l3, l4, l5, l6, l7, l8, l9, l10, l11, l12, l13, l14, l15] S h = rn 249 42 [l0, l1, l2, l3, l4, l5, l6, l7, l8, l9, l10, l11, l12, l13, l14, l15] (.int (nI 3) :: S) h) ∧
  (∀ (l0 l1 l2 l3 l4 l5 l6 l7 l8 l9 l10 l11 l12 l13 l14 l15 : Value) (x : Int32) (y : Int32) (S : List Value) (h : zH), rn 249 42 [l0, l1, l2, l3, l4, l5, l6, l7, l8, l9, l10, l11, l12, l13, l14, l15] (.int y :: .int x :: S) h = rn 249 43 [l0, l1, l2, l3, l4, l5, l6, l7, l8, l9, l10, l11, l12, l13, l14, l15] (.int (x + y) :: S) h) ∧
  (∀ (l0 l1 l2 l3 l4 l5 l6 l7 l8 l9 l10 l11 l12 l13 l14 l15 : Value) (a : Nat) (j : Int32) (S : List Value) (h : zH), rn 249 43 [l0, l1, l2, l3, l4, l5, l6, l7, l8, l9, l10, l11, l12, l13, l14, l15] (.int j :: .ref a :: S) h = zlj h a j fun x => rn 249 44 [l0, l1, l2, l3, l4, l5, l6, l7, l8, l9, l10, l11, l12, l13, l14, l15] (.long x :: S) h) ∧
  (∀ (l0 l1 l2 l3 l4 l5 l6 l7 l8 l9 l10 l11 l12 l13 l14 l15 : Value) (x : Int64) (S : List Value) (h : zH), rn 249 44 [l0, l1, l2, l3, l4, l5, l6, l7, l8, l9, l10, l11, l12, l13, l14, l15] (.long x :: S) h = nl l8 (rn 249 46 [l0, l1, l2, l3, l4, l5, l6, l7, l8, .long x, .float 0, l11, l12, l13, l14, l15] S h)) ∧
  (∀ (l0 l1 l2 l3 l4 l5 l6 l7 l8 l10 l11 l12 l13 l14 l15 : Value) (x : Int64) (S : List Value) (h : zH), rn 249 46 [l0, l1, l2, l3, l4, l5, l6, l7, l8, .long x, l10, l11, l12, l13, l14, l15] S h = rn 249 48 [l0, l1, l2, l3, l4, l5, l6, l7, l8, .long x, l10, l11, l12, l13, l14, l15] (.long x :: S) h) ∧
  (∀ (l0 l1 l2 l3 l4 l5 l6 l7 l8 l9 l10 l11 l12 l13 l14 l15 : Value) (S : List Value) (h : zH), rn 249 48 [l0, l1, l2, l3, l4, l5, l6, l7, l8, l9, l10, l11, l12, l13, l14, l15] S h = rn 249 49 [l0, l1, l2, l3, l4, l5, l6, l7, l8, l9, l10, l11, l12, l13, l14, l15] (.long 0 :: S) h) ∧
  (∀ (l0 l1 l2 l3 l4 l5 l6 l7 l8 l9 l10 l11 l12 l13 l14 l15 : Value) (x : Int64) (y : Int64) (S : List Value) (h : zH), rn 249 49 [l0, l1, l2, l3, l4, l5, l6, l7, l8, l9, l10, l11, l12, l13, l14, l15] (.long y :: .long x :: S) h = rn 249 50 [l0, l1, l2, l3, l4, l5, l6, l7, l8, l9, l10, l11, l12, l13, l14, l15] (.int (lg_cmp x y) :: S) h) ∧
  (∀ (l0 l1 l2 l3 l4 l5 l6 l7 l8 l9 l10 l11 l12 l13 l14 l15 : Value) (x : Int32) (S : List Value) (h : zH), rn 249 50 [l0, l1, l2, l3, l4, l5, l6, l7, l8, l9, l10, l11, l12, l13, l14, l15] (.int x :: S) h = if x ≤ nI 0 then rn 249 185 [l0, l1, l2, l3, l4, l5, l6, l7, l8, l9, l10, l11, l12, l13, l14, l15] S h else rn 249 53 [l0, l1, l2, l3, l4, l5, l6, l7, l8, l9, l10, l11, l12, l13, l14, l15] S h) ∧
  (∀ (l0 l1 l2 l3 l4 l5 l6 l7 l8 l10 l11 l12 l13 l14 l15 : Value) (x : Int64) (S : List Value) (h : zH), rn 249 53 [l0, l1, l2, l3, l4, l5, l6, l7, l8, .long x, l10, l11, l12, l13, l14, l15] S h = rn 249 55 [l0, l1, l2, l3, l4, l5, l6, l7, l8, .long x, l10, l11, l12, l13, l14, l15] (.long x :: S) h) ∧
  (∀ (l1 l2 l3 l4 l5 l6 l7 l8 l9 l10 l11 l12 l13 l14 l15 : Value) (x : Nat) (S : List Value) (h : zH), rn 249 55 [.ref x, l1, l2, l3, l4, l5, l6, l7, l8, l9, l10, l11, l12, l13, l14, l15] S h = rn 249 56 [.ref x, l1, l2, l3, l4, l5, l6, l7, l8, l9, l10, l11, l12, l13, l14, l15] (.ref x :: S) h) ∧
  (∀ (l0 l1 l2 l3 l4 l5 l6 l7 l8 l9 l10 l11 l12 l13 l14 l15 : Value) (a : Nat) (S : List Value) (h : zH), rn 249 56 [l0, l1, l2, l3, l4, l5, l6, l7, l8, l9, l10, l11, l12, l13, l14, l15] (.ref a :: S) h = zgf h a 12 0 fun v => rn 249 59 [l0, l1, l2, l3, l4, l5, l6, l7, l8, l9, l10, l11, l12, l13, l14, l15] (v :: S) h) ∧
  (∀ (l0 l1 l2 l3 l4 l5 l6 l7 l9 l10 l11 l12 l13 l14 l15 : Value) (x : Int32) (S : List Value) (h : zH), rn 249 59 [l0, l1, l2, l3, l4, l5, l6, l7, .int x, l9, l10, l11, l12, l13, l14, l15] S h = rn 249 61 [l0, l1, l2, l3, l4, l5, l6, l7, .int x, l9, l10, l11, l12, l13, l14, l15] (.int x :: S) h) ∧
  (∀ (l0 l1 l2 l3 l4 l5 l6 l7 l8 l9 l10 l11 l12 l13 l14 l15 : Value) (a : Nat) (j : Int32) (S : List Value) (h : zH), rn 249 61 [l0, l1, l2, l3, l4, l5, l6, l7, l8, l9, l10, l11, l12, l13, l14, l15] (.int j :: .ref a :: S) h = zlj h a j fun x => rn 249 62 [l0, l1, l2, l3, l4, l5, l6, l7, l8, l9, l10, l11, l12, l13, l14, l15] (.long x :: S) h) ∧
  (∀ (l0 l1 l2 l3 l4 l5 l6 l7 l8 l9 l10 l11 l12 l13 l14 l15 : Value) (S : List Value) (h : zH), rn 249 62 [l0, l1, l2, l3, l4, l5, l6, l7, l8, l9, l10, l11, l12, l13, l14, l15] S h = rn 249 63 [l0, l1, l2, l3, l4, l5, l6, l7, l8, l9, l10, l11, l12, l13, l14, l15] (.long 0 :: S) h) ∧
  (∀ (l0 l1 l2 l3 l4 l5 l6 l7 l8 l9 l10 l11 l12 l13 l14 l15 : Value) (x : Int64) (y : Int64) (S : List Value) (h : zH), rn 249 63 [l0, l1, l2, l3, l4, l5, l6, l7, l8, l9, l10, l11, l12, l13, l14, l15] (.long y :: .long x :: S) h = rn 249 64 [l0, l1, l2, l3, l4, l5, l6, l7, l8, l9, l10, l11, l12, l13, l14, l15] (.int (lg_cmp x y) :: S) h) ∧
  (∀ (l0 l1 l2 l3 l4 l5 l6 l7 l8 l9 l10 l11 l12 l13 l14 l15 : Value) (x : Int32) (S : List Value) (h : zH), rn 249 64 [l0, l1, l2, l3, l4, l5, l6, l7, l8, l9, l10, l11, l12, l13, l14, l15] (.int x :: S) h = if x = nI 0 then rn 249 67 [l0, l1, l2, l3, l4, l5, l6, l7, l8, l9, l10, l11, l12, l13, l14, l15] S h else rn 249 83 [l0, l1, l2, l3, l4, l5, l6, l7, l8, l9, l10, l11, l12, l13, l14, l15] S h) ∧
  (∀ (l1 l2 l3 l4 l5 l6 l7 l8 l9 l10 l11 l12 l13 l14 l15 : Value) (x : Nat) (S : List Value) (h : zH), rn 249 67 [.ref x, l1, l2, l3, l4, l5, l6, l7, l8, l9, l10, l11, l12, l13, l14, l15] S h = rn 249 68 [.ref x, l1, l2, l3, l4, l5, l6, l7, l8, l9, l10, l11, l12, l13, l14, l15] (.ref x :: S) h) ∧
  (∀ (l0 l1 l2 l3 l4 l5 l6 l7 l8 l9 l10 l11 l12 l13 l14 l15 : Value) (a : Nat) (S : List Value) (h : zH), rn 249 68 [l0, l1, l2, l3, l4, l5, l6, l7, l8, l9, l10, l11, l12, l13, l14, l15] (.ref a :: S) h = zgf h a 12 0 fun v => rn 249 71 [l0, l1, l2, l3, l4, l5, l6, l7, l8, l9, l10, l11, l12, l13, l14, l15] (v :: S) h) ∧
  (∀ (l0 l1 l2 l3 l4 l5 l6 l7 l9 l10 l11 l12 l13 l14 l15 : Value) (x : Int32) (S : List Value) (h : zH), rn 249 71 [l0, l1, l2, l3, l4, l5, l6, l7, .int x, l9, l10, l11, l12, l13, l14, l15] S h = rn 249 73 [l0, l1, l2, l3, l4, l5, l6, l7, .int x, l9, l10, l11, l12, l13, l14, l15] (.int x :: S) h) ∧
  (∀ (l0 l1 l2 l3 l4 l5 l6 l7 l8 l9 l10 l11 l12 l13 l14 l15 : Value) (S : List Value) (h : zH), rn 249 73 [l0, l1, l2, l3, l4, l5, l6, l7, l8, l9, l10, l11, l12, l13, l14, l15] S h = rn 249 74 [l0, l1, l2, l3, l4, l5, l6, l7, l8, l9, l10, l11, l12, l13, l14, l15] (.int (nI 1) :: S) h) ∧
  (∀ (l0 l1 l2 l3 l4 l5 l6 l7 l8 l9 l10 l11 l12 l13 l14 l15 : Value) (x : Int32) (y : Int32) (S : List Value) (h : zH), rn 249 74 [l0, l1, l2, l3, l4, l5, l6, l7, l8, l9, l10, l11, l12, l13, l14, l15] (.int y :: .int x :: S) h = rn 249 75 [l0, l1, l2, l3, l4, l5, l6, l7, l8, l9, l10, l11, l12, l13, l14, l15] (.int (x + y) :: S) h) ∧
  (∀ (l0 l1 l2 l3 l4 l5 l6 l7 l8 l9 l10 l11 l12 l13 l14 l15 : Value) (a : Nat) (j : Int32) (S : List Value) (h : zH), rn 249 75 [l0, l1, l2, l3, l4, l5, l6, l7, l8, l9, l10, l11, l12, l13, l14, l15] (.int j :: .ref a :: S) h = zlj h a j fun x => rn 249 76 [l0, l1, l2, l3, l4, l5, l6, l7, l8, l9, l10, l11, l12, l13, l14, l15] (.long x :: S) h) ∧
  (∀ (l0 l1 l2 l3 l4 l5 l6 l7 l8 l9 l10 l11 l12 l13 l14 l15 : Value) (S : List Value) (h : zH), rn 249 76 [l0, l1, l2, l3, l4, l5, l6, l7, l8, l9, l10, l11, l12, l13, l14, l15] S h = rn 249 79 [l0, l1, l2, l3, l4, l5, l6, l7, l8, l9, l10, l11, l12, l13, l14, l15] (.long (1000000) :: S) h) ∧
  (∀ (l0 l1 l2 l3 l4 l5 l6 l7 l8 l9 l10 l11 l12 l13 l14 l15 : Value) (x : Int64) (y : Int64) (S : List Value) (h : zH), rn 249 79 [l0, l1, l2, l3, l4, l5, l6, l7, l8, l9, l10, l11, l12, l13, l14, l15] (.long y :: .long x :: S) h = rn 249 80 [l0, l1, l2, l3, l4, l5, l6, l7, l8, l9, l10, l11, l12, l13, l14, l15] (.long (x * y) :: S) h) ∧
  (∀ (l0 l1 l2 l3 l4 l5 l6 l7 l8 l9 l10 l11 l12 l13 l14 l15 : Value) (S : List Value) (h : zH), rn 249 80 [l0, l1, l2, l3, l4, l5, l6, l7, l8, l9, l10, l11, l12, l13, l14, l15] S h = rn 249 98 [l0, l1, l2, l3, l4, l5, l6, l7, l8, l9, l10, l11, l12, l13, l14, l15] S h) ∧
  (∀ (l1 l2 l3 l4 l5 l6 l7 l8 l9 l10 l11 l12 l13 l14 l15 : Value) (x : Nat) (S : List Value) (h : zH), rn 249 83 [.ref x, l1, l2, l3, l4, l5, l6, l7, l8, l9, l10, l11, l12, l13, l14, l15] S h = rn 249 84 [.ref x, l1, l2, l3, l4, l5, l6, l7, l8, l9, l10, l11, l12, l13, l14, l15] (.ref x :: S) h) ∧
  (∀ (l0 l1 l2 l3 l4 l5 l6 l7 l8 l9 l10 l11 l12 l13 l14 l15 : Value) (a : Nat) (S : List Value) (h : zH), rn 249 84 [l0, l1, l2, l3, l4, l5, l6, l7, l8, l9, l10, l11, l12, l13, l14, l15] (.ref a :: S) h = zgf h a 12 0 fun v => rn 249 87 [l0, l1, l2, l3, l4, l5, l6, l7, l8, l9, l10, l11, l12, l13, l14, l15] (v :: S) h) ∧
  (∀ (l0 l1 l2 l3 l4 l5 l6 l7 l9 l10 l11 l12 l13 l14 l15 : Value) (x : Int32) (S : List Value) (h : zH), rn 249 87 [l0, l1, l2, l3, l4, l5, l6, l7, .int x, l9, l10, l11, l12, l13, l14, l15] S h = rn 249 89 [l0, l1, l2, l3, l4, l5, l6, l7, .int x, l9, l10, l11, l12, l13, l14, l15] (.int x :: S) h) ∧
  (∀ (l0 l1 l2 l3 l4 l5 l6 l7 l8 l9 l10 l11 l12 l13 l14 l15 : Value) (S : List Value) (h : zH), rn 249 89 [l0, l1, l2, l3, l4, l5, l6, l7, l8, l9, l10, l11, l12, l13, l14, l15] S h = rn 249 90 [l0, l1, l2, l3, l4, l5, l6, l7, l8, l9, l10, l11, l12, l13, l14, l15] (.int (nI 1) :: S) h) ∧
  (∀ (l0 l1 l2 l3 l4 l5 l6 l7 l8 l9 l10 l11 l12 l13 l14 l15 : Value) (x : Int32) (y : Int32) (S : List Value) (h : zH), rn 249 90 [l0, l1, l2, l3, l4, l5, l6, l7, l8, l9, l10, l11, l12, l13, l14, l15] (.int y :: .int x :: S) h = rn 249 91 [l0, l1, l2, l3, l4, l5, l6, l7, l8, l9, l10, l11, l12, l13, l14, l15] (.int (x + y) :: S) h) ∧
  (∀ (l0 l1 l2 l3 l4 l5 l6 l7 l8 l9 l10 l11 l12 l13 l14 l15 : Value) (a : Nat) (j : Int32) (S : List Value) (h : zH), rn 249 91 [l0, l1, l2, l3, l4, l5, l6, l7, l8, l9, l10, l11, l12, l13, l14, l15] (.int j :: .ref a :: S) h = zlj h a j fun x => rn 249 92 [l0, l1, l2, l3, l4, l5, l6, l7, l8, l9, l10, l11, l12, l13, l14, l15] (.long x :: S) h) ∧
  (∀ (l0 l1 l2 l4 l5 l6 l7 l8 l9 l10 l11 l12 l13 l14 l15 : Value) (x : Int64) (S : List Value) (h : zH), rn 249 92 [l0, l1, l2, .long x, l4, l5, l6, l7, l8, l9, l10, l11, l12, l13, l14, l15] S h = rn 249 93 [l0, l1, l2, .long x, l4, l5, l6, l7, l8, l9, l10, l11, l12, l13, l14, l15] (.long x :: S) h) ∧
  (∀ (l0 l1 l2 l3 l4 l5 l6 l7 l8 l9 l10 l11 l12 l13 l14 l15 : Value) (x : Int64) (y : Int64) (S : List Value) (h : zH), rn 249 93 [l0, l1, l2, l3, l4, l5, l6, l7, l8, l9, l10, l11, l12, l13, l14, l15] (.long y :: .long x :: S) h = rn 249 94 [l0, l1, l2, l3, l4, l5, l6, l7, l8, l9, l10, l11, l12, l13, l14, l15] (.long (x * y) :: S) h) ∧
  (∀ (l0 l1 l2 l3 l4 l5 l6 l7 l8 l9 l10 l11 l12 l13 l14 l15 : Value) (S : List Value) (h : zH), rn 249 94 [l0, l1, l2, l3, l4, l5, l6, l7, l8, l9, l10, l11, l12, l13, l14, l15] S h = rn 249 97 [l0, l1, l2, l3, l4, l5, l6, l7, l8, l9, l10, l11, l12, l13, l14, l15] (.long (1000) :: S) h) ∧
  (∀ (l0 l1 l2 l3 l4 l5 l6 l7 l8 l9 l10 l11 l12 l13 l14 l15 : Value) (x : Int64) (y : Int64) (S : List Value) (h : zH), rn 249 97 [l0, l1, l2, l3, l4, l5, l6, l7, l8, l9, l10, l11, l12, l13, l14, l15] (.long y :: .long x :: S) h = dvJ y (rn 249 98 [l0, l1, l2, l3, l4, l5, l6, l7, l8, l9, l10, l11, l12, l13, l14, l15] (.long (x / y) :: S) h)) ∧
  (∀ (l0 l1 l2 l3 l4 l5 l6 l7 l8 l9 l10 l11 l12 l13 l14 l15 : Value) (x : Int64) (y : Int64) (S : List Value) (h : zH), rn 249 98 [l0, l1, l2, l3, l4, l5, l6, l7, l8, l9, l10, l11, l12, l13, l14, l15] (.long y :: .long x :: S) h = if zsum S ≤ 8 then rn 249 101 [l0, l1, l2, l3, l4, l5, l6, l7, l8, l9, l10, l11, l12, l13, l14, l15] (.long (if y < x then y else x) :: S) h else none) ∧
  (∀ (l0 l1 l2 l3 l4 l5 l6 l7 l8 l9 l10 l11 l12 l13 l14 l15 : Value) (x : Int64) (S : List Value) (h : zH), rn 249 101 [l0, l1, l2, l3, l4, l5, l6, l7, l8, l9, l10, l11, l12, l13, l14, l15] (.long x :: S) h = nl l10 (rn 249 103 [l0, l1, l2, l3, l4, l5, l6, l7, l8, l9, l10, .long x, .float 0, l13, l14, l15] S h)) ∧
  (∀ (l0 l1 l2 l3 l4 l5 l6 l7 l8 l9 l10 l12 l13 l14 l15 : Value) (x : Int64) (S : List Value) (h : zH), rn 249 103 [l0, l1, l2, l3, l4, l5, l6, l7, l8, l9, l10, .long x, l12, l13, l14, l15] S h = rn 249 105 [l0, l1, l2, l3, l4, l5, l6, l7, l8, l9, l10, .long x, l12, l13, l14, l15] (.long x :: S) h) ∧
  (∀ (l0 l1 l2 l3 l4 l6 l7 l8 l9 l10 l11 l12 l13 l14 l15 : Value) (x : Int64) (S : List Value) (h : zH), rn 249 105 [l0, l1, l2, l3, l4, .long x, l6, l7, l8, l9, l10, l11, l12, l13, l14, l15] S h = rn 249 107 [l0, l1, l2, l3, l4, .long x, l6, l7, l8, l9, l10, l11, l12, l13, l14, l15] (.long x :: S) h) ∧
  (∀ (l0 l1 l2 l3 l4 l5 l6 l7 l8 l9 l10 l11 l12 l13 l14 l15 : Value) (x : Int64) (y : Int64) (S : List Value) (h : zH), rn 249 107 [l0, l1, l2, l3, l4, l5, l6, l7, l8, l9, l10, l11, l12, l13, l14, l15] (.long y :: .long x :: S) h = if zsum S ≤ 8 then rn 249 110 [l0, l1, l2, l3, l4, l5, l6, l7, l8, l9, l10, l11, l12, l13, l14, l15] (.long (if y < x then y else x) :: S) h else none) ∧
  (∀ (l0 l1 l2 l3 l4 l5 l6 l7 l8 l9 l10 l11 l12 l13 l14 l15 : Value) (x : Int64) (S : List Value) (h : zH), rn 249 110 [l0, l1, l2, l3, l4, l5, l6, l7, l8, l9, l10, l11, l12, l13, l14, l15] (.long x :: S) h = nl l12 (rn 249 112 [l0, l1, l2, l3, l4, l5, l6, l7, l8, l9, l10, l11, l12, .long x, .float 0, l15] S h)) ∧
  (∀ (l0 l1 l2 l3 l4 l6 l7 l8 l9 l10 l11 l12 l13 l14 l15 : Value) (x : Int64) (S : List Value) (h : zH), rn 249 112 [l0, l1, l2, l3, l4, .long x, l6, l7, l8, l9, l10, l11, l12, l13, l14, l15] S h = rn 249 114 [l0, l1, l2, l3, l4, .long x, l6, l7, l8, l9, l10, l11, l12, l13, l14, l15] (.long x :: S) h) ∧
  (∀ (l0 l1 l2 l3 l4 l5 l6 l7 l8 l9 l10 l11 l12 l14 l15 : Value) (x : Int64) (S : List Value) (h : zH), rn 249 114 [l0, l1, l2, l3, l4, l5, l6, l7, l8, l9, l10, l11, l12, .long x, l14, l15] S h = rn 249 116 [l0, l1, l2, l3, l4, l5, l6, l7, l8, l9, l10, l11, l12, .long x, l14, l15] (.long x :: S) h) ∧
  (∀ (l0 l1 l2 l3 l4 l5 l6 l7 l8 l9 l10 l11 l12 l13 l14 l15 : Value) (x : Int64) (y : Int64) (S : List Value) (h : zH), rn 249 116 [l0, l1, l2, l3, l4, l5, l6, l7, l8, l9, l10, l11, l12, l13, l14, l15] (.long y :: .long x :: S) h = rn 249 117 [l0, l1, l2, l3, l4, l5, l6, l7, l8, l9, l10, l11, l12, l13, l14, l15] (.long (x - y) :: S) h) ∧
  (∀ (l0 l1 l2 l3 l4 l5 l6 l7 l8 l9 l10 l11 l12 l13 l14 l15 : Value) (x : Int64) (S : List Value) (h : zH), rn 249 117 [l0, l1, l2, l3, l4, l5, l6, l7, l8, l9, l10, l11, l12, l13, l14, l15] (.long x :: S) h = nl l4 (rn 249 119 [l0, l1, l2, l3, l4, .long x, .float 0, l7, l8, l9, l10, l11, l12, l13, l14, l15] S h)) ∧
  (∀ (l1 l2 l3 l4 l5 l6 l7 l8 l9 l10 l11 l12 l13 l14 l15 : Value) (x : Nat) (S : List Value) (h : zH), rn 249 119 [.ref x, l1, l2, l3, l4, l5, l6, l7, l8, l9, l10, l11, l12, l13, l14, l15] S h = rn 249 120 [.ref x, l1, l2, l3, l4, l5, l6, l7, l8, l9, l10, l11, l12, l13, l14, l15] (.ref x :: S) h) ∧
  (∀ (l0 l1 l2 l3 l4 l5 l6 l7 l8 l9 l10 l11 l12 l13 l14 l15 : Value) (a : Nat) (S : List Value) (h : zH), rn 249 120 [l0, l1, l2, l3, l4, l5, l6, l7, l8, l9, l10, l11, l12, l13, l14, l15] (.ref a :: S) h = zgf h a 12 0 fun v => rn 249 123 [l0, l1, l2, l3, l4, l5, l6, l7, l8, l9, l10, l11, l12, l13, l14, l15] (v :: S) h) ∧
  (∀ (l0 l1 l2 l3 l4 l5 l6 l7 l9 l10 l11 l12 l13 l14 l15 : Value) (x : Int32) (S : List Value) (h : zH), rn 249 123 [l0, l1, l2, l3, l4, l5, l6, l7, .int x, l9, l10, l11, l12, l13, l14, l15] S h = rn 249 125 [l0, l1, l2, l3, l4, l5, l6, l7, .int x, l9, l10, l11, l12, l13, l14, l15] (.int x :: S) h) ∧
  (∀ (l0 l1 l2 l3 l4 l5 l6 l7 l8 l9 l10 l11 l12 l13 l14 l15 : Value) (S : List Value) (h : zH), rn 249 125 [l0, l1, l2, l3, l4, l5, l6, l7, l8, l9, l10, l11, l12, l13, l14, l15] S h = rn 249 126 [l0, l1, l2, l3, l4, l5, l6, l7, l8, l9, l10, l11, l12, l13, l14, l15] (.int (nI 3) :: S) h) ∧
  (∀ (l0 l1 l2 l3 l4 l5 l6 l7 l8 l9 l10 l11 l12 l13 l14 l15 : Value) (x : Int32) (y : Int32) (S : List Value) (h : zH), rn 249 126 [l0, l1, l2, l3, l4, l5, l6, l7, l8, l9, l10, l11, l12, l13, l14, l15] (.int y :: .int x :: S) h = rn 249 127 [l0, l1, l2, l3, l4, l5, l6, l7, l8, l9, l10, l11, l12, l13, l14, l15] (.int (x + y) :: S) h) ∧
  (∀ (l0 l1 l2 l3 l4 l5 l6 l7 l8 l10 l11 l12 l13 l14 l15 : Value) (x : Int64) (S : List Value) (h : zH), rn 249 127 [l0, l1, l2, l3, l4, l5, l6, l7, l8, .long x, l10, l11, l12, l13, l14, l15] S h = rn 249 129 [l0, l1, l2, l3, l4, l5, l6, l7, l8, .long x, l10, l11, l12, l13, l14, l15] (.long x :: S) h) ∧
  (∀ (l0 l1 l2 l3 l4 l5 l6 l7 l8 l9 l10 l11 l12 l14 l15 : Value) (x : Int64) (S : List Value) (h : zH), rn 249 129 [l0, l1, l2, l3, l4, l5, l6, l7, l8, l9, l10, l11, l12, .long x, l14, l15] S h = rn 249 131 [l0, l1, l2, l3, l4, l5, l6, l7, l8, l9, l10, l11, l12, .long x, l14, l15] (.long x :: S) h) ∧
  (∀ (l0 l1 l2 l3 l4 l5 l6 l7 l8 l9 l10 l11 l12 l13 l14 l15 : Value) (x : Int64) (y : Int64) (S : List Value) (h : zH), rn 249 131 [l0, l1, l2, l3, l4, l5, l6, l7, l8, l9, l10, l11, l12, l13, l14, l15] (.long y :: .long x :: S) h = rn 249 132 [l0, l1, l2, l3, l4, l5, l6, l7, l8, l9, l10, l11, l12, l13, l14, l15] (.long (x - y) :: S) h) ∧
  (∀ (l0 l1 l2 l3 l4 l5 l6 l7 l8 l9 l10 l11 l12 l13 l14 l15 : Value) (a : Nat) (j : Int32) (x : Int64) (S : List Value) (h : zH), rn 249 132 [l0, l1, l2, l3, l4, l5, l6, l7, l8, l9, l10, l11, l12, l13, l14, l15] (.long x :: .int j :: .ref a :: S) h = zsj h a j x fun h => rn 249 133 [l0, l1, l2, l3, l4, l5, l6, l7, l8, l9, l10, l11, l12, l13, l14, l15] S h) ∧
  (∀ (l0 l1 l2 l3 l4 l5 l6 l7 l8 l10 l11 l12 l13 l14 l15 : Value) (x : Int64) (S : List Value) (h : zH), rn 249 133 [l0, l1, l2, l3, l4, l5, l6, l7, l8, .long x, l10, l11, l12, l13, l14, l15] S h = rn 249 135 [l0, l1, l2, l3, l4, l5, l6, l7, l8, .long x, l10, l11, l12, l13, l14, l15] (.long x :: S) h) ∧
  (∀ (l0 l1 l2 l3 l4 l5 l6 l7 l8 l9 l10 l11 l12 l14 l15 : Value) (x : Int64) (S : List Value) (h : zH), rn 249 135 [l0, l1, l2, l3, l4, l5, l6, l7, l8, l9, l10, l11, l12, .long x, l14, l15] S h = rn 249 137 [l0, l1, l2, l3, l4, l5, l6, l7, l8, l9, l10, l11, l12, .long x, l14, l15] (.long x :: S) h) ∧
  (∀ (l0 l1 l2 l3 l4 l5 l6 l7 l8 l9 l10 l11 l12 l13 l14 l15 : Value) (x : Int64) (y : Int64) (S : List Value) (h : zH), rn 249 137 [l0, l1, l2, l3, l4, l5, l6, l7, l8, l9, l10, l11, l12, l13, l14, l15] (.long y :: .long x :: S) h = rn 249 138 [l0, l1, l2, l3, l4, l5, l6, l7, l8, l9, l10, l11, l12, l13, l14, l15] (.int (lg_cmp x y) :: S) h) ∧
  (∀ (l0 l1 l2 l3 l4 l5 l6 l7 l8 l9 l10 l11 l12 l13 l14 l15 : Value) (x : Int32) (S : List Value) (h : zH), rn 249 138 [l0, l1, l2, l3, l4, l5, l6, l7, l8, l9, l10, l11, l12, l13, l14, l15] (.int x :: S) h = if x = nI 0 then rn 249 141 [l0, l1, l2, l3, l4, l5, l6, l7, l8, l9, l10, l11, l12, l13, l14, l15] S h else rn 249 145 [l0, l1, l2, l3, l4, l5, l6, l7, l8, l9, l10, l11, l12, l13, l14, l15] S h) ∧
  (∀ (l0 l1 l2 l3 l4 l5 l6 l7 l8 l9 l10 l11 l12 l13 l14 l15 : Value) (S : List Value) (h : zH), rn 249 141 [l0, l1, l2, l3, l4, l5, l6, l7, l8, l9, l10, l11, l12, l13, l14, l15] S h = rn 249 142 [l0, l1, l2, l3, l4, l5, l6, l7, l8, l9, l10, l11, l12, l13, l14, l15] (.int (nI 4) :: S) h) ∧
  (∀ (l0 l1 l2 l3 l4 l5 l6 l7 l8 l9 l10 l11 l12 l13 l14 l15 : Value) (S : List Value) (h : zH), rn 249 142 [l0, l1, l2, l3, l4, l5, l6, l7, l8, l9, l10, l11, l12, l13, l14, l15] S h = rn 249 169 [l0, l1, l2, l3, l4, l5, l6, l7, l8, l9, l10, l11, l12, l13, l14, l15] S h) ∧
  (∀ (l0 l1 l2 l3 l4 l5 l6 l7 l8 l9 l10 l11 l12 l14 l15 : Value) (x : Int64) (S : List Value) (h : zH), rn 249 145 [l0, l1, l2, l3, l4, l5, l6, l7, l8, l9, l10, l11, l12, .long x, l14, l15] S h = rn 249 147 [l0, l1, l2, l3, l4, l5, l6, l7, l8, l9, l10, l11, l12, .long x, l14, l15] (.long x :: S) h) ∧
  (∀ (l0 l1 l2 l3 l4 l5 l6 l7 l8 l9 l10 l12 l13 l14 l15 : Value) (x : Int64) (S : List Value) (h : zH), rn 249 147 [l0, l1, l2, l3, l4, l5, l6, l7, l8, l9, l10, .long x, l12, l13, l14, l15] S h = rn 249 149 [l0, l1, l2, l3, l4, l5, l6, l7, l8, l9, l10, .long x, l12, l13, l14, l15] (.long x :: S) h) ∧
  (∀ (l0 l1 l2 l3 l4 l5 l6 l7 l8 l9 l10 l11 l12 l13 l14 l15 : Value) (x : Int64) (y : Int64) (S : List Value) (h : zH), rn 249 149 [l0, l1, l2, l3, l4, l5, l6, l7, l8, l9, l10, l11, l12, l13, l14, l15] (.long y :: .long x :: S) h = rn 249 150 [l0, l1, l2, l3, l4, l5, l6, l7, l8, l9, l10, l11, l12, l13, l14, l15] (.int (lg_cmp x y) :: S) h) ∧
  (∀ (l0 l1 l2 l3 l4 l5 l6 l7 l8 l9 l10 l11 l12 l13 l14 l15 : Value) (x : Int32) (S : List Value) (h : zH), rn 249 150 [l0, l1, l2, l3, l4, l5, l6, l7, l8, l9, l10, l11, l12, l13, l14, l15] (.int x :: S) h = if x = nI 0 then rn 249 153 [l0, l1, l2, l3, l4, l5, l6, l7, l8, l9, l10, l11, l12, l13, l14, l15] S h else rn 249 157 [l0, l1, l2, l3, l4, l5, l6, l7, l8, l9, l10, l11, l12, l13, l14, l15] S h) ∧
  (∀ (l0 l1 l2 l3 l4 l5 l6 l7 l8 l9 l10 l11 l12 l13 l14 l15 : Value) (S : List Value) (h : zH), rn 249 153 [l0, l1, l2, l3, l4, l5, l6, l7, l8, l9, l10, l11, l12, l13, l14, l15] S h = rn 249 154 [l0, l1, l2, l3, l4, l5, l6, l7, l8, l9, l10, l11, l12, l13, l14, l15] (.int (nI 1) :: S) h) ∧
  (∀ (l0 l1 l2 l3 l4 l5 l6 l7 l8 l9 l10 l11 l12 l13 l14 l15 : Value) (S : List Value) (h : zH), rn 249 154 [l0, l1, l2, l3, l4, l5, l6, l7, l8, l9, l10, l11, l12, l13, l14, l15] S h = rn 249 169 [l0, l1, l2, l3, l4, l5, l6, l7, l8, l9, l10, l11, l12, l13, l14, l15] S h) ∧
  (∀ (l0 l1 l2 l3 l4 l5 l6 l7 l8 l9 l10 l11 l12 l14 l15 : Value) (x : Int64) (S : List Value) (h : zH), rn 249 157 [l0, l1, l2, l3, l4, l5, l6, l7, l8, l9, l10, l11, l12, .long x, l14, l15] S h = rn 249 159 [l0, l1, l2, l3, l4, l5, l6, l7, l8, l9, l10, l11, l12, .long x, l14, l15] (.long x :: S) h) ∧
  (∀ (l0 l1 l2 l3 l4 l5 l6 l7 l8 l9 l10 l11 l12 l13 l14 l15 : Value) (S : List Value) (h : zH), rn 249 159 [l0, l1, l2, l3, l4, l5, l6, l7, l8, l9, l10, l11, l12, l13, l14, l15] S h = rn 249 160 [l0, l1, l2, l3, l4, l5, l6, l7, l8, l9, l10, l11, l12, l13, l14, l15] (.long 0 :: S) h) ∧
  (∀ (l0 l1 l2 l3 l4 l5 l6 l7 l8 l9 l10 l11 l12 l13 l14 l15 : Value) (x : Int64) (y : Int64) (S : List Value) (h : zH), rn 249 160 [l0, l1, l2, l3, l4, l5, l6, l7, l8, l9, l10, l11, l12, l13, l14, l15] (.long y :: .long x :: S) h = rn 249 161 [l0, l1, l2, l3, l4, l5, l6, l7, l8, l9, l10, l11, l12, l13, l14, l15] (.int (lg_cmp x y) :: S) h) ∧
  (∀ (l0 l1 l2 l3 l4 l5 l6 l7 l8 l9 l10 l11 l12 l13 l14 l15 : Value) (x : Int32) (S : List Value) (h : zH), rn 249 161 [l0, l1, l2, l3, l4, l5, l6, l7, l8, l9, l10, l11, l12, l13, l14, l15] (.int x :: S) h = if x ≤ nI 0 then rn 249 168 [l0, l1, l2, l3, l4, l5, l6, l7, l8, l9, l10, l11, l12, l13, l14, l15] S h else rn 249 164 [l0, l1, l2, l3, l4, l5, l6, l7, l8, l9, l10, l11, l12, l13, l14, l15] S h) ∧
  (∀ (l0 l1 l2 l3 l4 l5 l6 l7 l8 l9 l10 l11 l12 l13 l14 l15 : Value) (S : List Value) (h : zH), rn 249 164 [l0, l1, l2, l3, l4, l5, l6, l7, l8, l9, l10, l11, l12, l13, l14, l15] S h = rn 249 165 [l0, l1, l2, l3, l4, l5, l6, l7, l8, l9, l10, l11, l12, l13, l14, l15] (.int (nI 2) :: S) h) ∧
  (∀ (l0 l1 l2 l3 l4 l5 l6 l7 l8 l9 l10 l11 l12 l13 l14 l15 : Value) (S : List Value) (h : zH), rn 249 165 [l0, l1, l2, l3, l4, l5, l6, l7, l8, l9, l10, l11, l12, l13, l14, l15] S h = rn 249 169 [l0, l1, l2, l3, l4, l5, l6, l7, l8, l9, l10, l11, l12, l13, l14, l15] S h) ∧
  (∀ (l0 l1 l2 l3 l4 l5 l6 l7 l8 l9 l10 l11 l12 l13 l14 l15 : Value) (S : List Value) (h : zH), rn 249 168 [l0, l1, l2, l3, l4, l5, l6, l7, l8, l9, l10, l11, l12, l13, l14, l15] S h = rn 249 169 [l0, l1, l2, l3, l4, l5, l6, l7, l8, l9, l10, l11, l12, l13, l14, l15] (.int (nI 3) :: S) h) ∧
  (∀ (l0 l1 l2 l3 l4 l5 l6 l7 l8 l9 l10 l11 l12 l13 l14 l15 : Value) (x : Int32) (S : List Value) (h : zH), rn 249 169 [l0, l1, l2, l3, l4, l5, l6, l7, l8, l9, l10, l11, l12, l13, l14, l15] (.int x :: S) h = nl l14 (rn 249 171 [l0, l1, l2, l3, l4, l5, l6, l7, l8, l9, l10, l11, l12, l13, l14, .int x] S h)) ∧
  (∀ (l1 l2 l3 l4 l5 l6 l7 l8 l9 l10 l11 l12 l13 l14 l15 : Value) (x : Nat) (S : List Value) (h : zH), rn 249 171 [.ref x, l1, l2, l3, l4, l5, l6, l7, l8, l9, l10, l11, l12, l13, l14, l15] S h = rn 249 172 [.ref x, l1, l2, l3, l4, l5, l6, l7, l8, l9, l10, l11, l12, l13, l14, l15] (.ref x :: S) h) ∧
  (∀ (l0 l2 l3 l4 l5 l6 l7 l8 l9 l10 l11 l12 l13 l14 l15 : Value) (x : Int32) (S : List Value) (h : zH), rn 249 172 [l0, .int x, l2, l3, l4, l5, l6, l7, l8, l9, l10, l11, l12, l13, l14, l15] S h = rn 249 173 [l0, .int x, l2, l3, l4, l5, l6, l7, l8, l9, l10, l11, l12, l13, l14, l15] (.int x :: S) h) ∧
  (∀ (l0 l1 l3 l4 l5 l6 l7 l8 l9 l10 l11 l12 l13 l14 l15 : Value) (x : Int32) (S : List Value) (h : zH), rn 249 173 [l0, l1, .int x, l3, l4, l5, l6, l7, l8, l9, l10, l11, l12, l13, l14, l15] S h = rn 249 174 [l0, l1, .int x, l3, l4, l5, l6, l7, l8, l9, l10, l11, l12, l13, l14, l15] (.int x :: S) h) ∧
  (∀ (l0 l1 l2 l3 l4 l5 l6 l7 l8 l9 l10 l11 l12 l13 l14 l15 : Value) (S : List Value) (h : zH), rn 249 174 [l0, l1, l2, l3, l4, l5, l6, l7, l8, l9, l10, l11, l12, l13, l14, l15] S h = rn 249 175 [l0, l1, l2, l3, l4, l5, l6, l7, l8, l9, l10, l11, l12, l13, l14, l15] (.int (nI 5) :: S) h) ∧
  (∀ (l0 l1 l2 l3 l4 l5 l6 l8 l9 l10 l11 l12 l13 l14 l15 : Value) (x : Int32) (S : List Value) (h : zH), rn 249 175 [l0, l1, l2, l3, l4, l5, l6, .int x, l8, l9, l10, l11, l12, l13, l14, l15] S h = rn 249 177 [l0, l1, l2, l3, l4, l5, l6, .int x, l8, l9, l10, l11, l12, l13, l14, l15] (.int x :: S) h) ∧
  (∀ (l0 l1 l2 l3 l4 l5 l6 l7 l8 l9 l10 l11 l12 l13 l14 : Value) (x : Int32) (S : List Value) (h : zH), rn 249 177 [l0, l1, l2, l3, l4, l5, l6, l7, l8, l9, l10, l11, l12, l13, l14, .int x] S h = rn 249 179 [l0, l1, l2, l3, l4, l5, l6, l7, l8, l9, l10, l11, l12, l13, l14, .int x] (.int x :: S) h) ∧
  (∀ (l0 l1 l2 l3 l4 l5 l6 l7 l8 l9 l10 l11 l12 l14 l15 : Value) (x : Int64) (S : List Value) (h : zH), rn 249 179 [l0, l1, l2, l3, l4, l5, l6, l7, l8, l9, l10, l11, l12, .long x, l14, l15] S h = rn 249 181 [l0, l1, l2, l3, l4, l5, l6, l7, l8, l9, l10, l11, l12, .long x, l14, l15] (.long x :: S) h) ∧
  (∀ (l0 l1 l2 l3 l4 l5 l6 l7 l8 l9 l10 l11 l12 l13 l14 l15 : Value) (x : Int64) (S : List Value) (h : zH), rn 249 181 [l0, l1, l2, l3, l4, l5, l6, l7, l8, l9, l10, l11, l12, l13, l14, l15] (.long x :: S) h = rn 249 182 [l0, l1, l2, l3, l4, l5, l6, l7, l8, l9, l10, l11, l12, l13, l14, l15] (.long (-x) :: S) h) ∧
  (∀ (l0 l1 l2 l3 l4 l5 l6 l7 l8 l9 l10 l11 l12 l13 l14 l15 : Value) (o : Nat) (v0 : Value) (v1 : Value) (v2 : Value) (v3 : Value) (v4 : Value) (v5 : Value) (S : List Value) (h : zH), rn 249 182 [l0, l1, l2, l3, l4, l5, l6, l7, l8, l9, l10, l11, l12, l13, l14, l15] (v5 :: v4 :: v3 :: v2 :: v1 :: v0 :: .ref o :: S) h = if zkd h o = 12 ∧ zsum S ≤ 8 then zcall (ev 243 [.ref o, v0, v1, v2, v3, v4, v5] h) (fun v h => rn 249 185 [l0, l1, l2, l3, l4, l5, l6, l7, l8, l9, l10, l11, l12, l13, l14, l15] (zpush v S) h) else none) ∧
  (∀ (l0 l1 l2 l3 l4 l5 l6 l8 l9 l10 l11 l12 l13 l14 l15 : Value) (x : Int32) (S : List Value) (h : zH), rn 249 185 [l0, l1, l2, l3, l4, l5, l6, .int x, l8, l9, l10, l11, l12, l13, l14, l15] S h = nl l6 (rn 249 188 [l0, l1, l2, l3, l4, l5, l6, .int (x + (nI 1)), l8, l9, l10, l11, l12, l13, l14, l15] S h)) ∧
  (∀ (l0 l1 l2 l3 l4 l5 l6 l7 l8 l9 l10 l11 l12 l13 l14 l15 : Value) (S : List Value) (h : zH), rn 249 188 [l0, l1, l2, l3, l4, l5, l6, l7, l8, l9, l10, l11, l12, l13, l14, l15] S h = rn 249 6 [l0, l1, l2, l3, l4, l5, l6, l7, l8, l9, l10, l11, l12, l13, l14, l15] S h) ∧
  (∀ (l0 l1 l2 l3 l4 l5 l6 l7 l8 l9 l10 l11 l12 l13 l14 l15 : Value) (h : zH), rn 249 191 [l0, l1, l2, l3, l4, l5, l6, l7, l8, l9, l10, l11, l12, l13, l14, l15] [] h = some (none, h)) := ⟨fun _ _ _ _ _ _ _ _ _ _ _ _ _ _ _ _ _ _ => r_lload_n (show zdec 249 0 = some (.lload_n 3, 1) by decide +kernel) rfl rfl,
  fun _ _ _ _ _ _ _ _ _ _ _ _ _ _ _ _ _ _ _ => r_lstore (show zdec 249 1 = some (.lstore 5, 2) by decide +kernel) rfl (Nat.le_of_ble_eq_true rfl) rfl rfl,
  fun _ _ _ _ _ _ _ _ _ _ _ _ _ _ _ _ _ _ => r_iconst (show zdec 249 3 = some (.iconst 0, 1) by decide +kernel) rfl rfl,
  fun _ _ _ _ _ _ _ _ _ _ _ _ _ _ _ _ _ _ _ => r_istore (show zdec 249 4 = some (.istore 7, 2) by decide +kernel) rfl (Nat.le_of_ble_eq_true rfl) rfl rfl,
  fun _ _ _ _ _ _ _ _ _ _ _ _ _ _ _ _ _ _ _ => r_i2l (show zdec 249 8 = some (.i2l, 1) by decide +kernel) rfl,
  fun _ _ _ _ _ _ _ _ _ _ _ _ _ _ _ _ _ _ => r_aload_nr (show zdec 249 9 = some (.aload_n 0, 1) by decide +kernel) rfl rfl,
  fun _ _ _ _ _ _ _ _ _ _ _ _ _ _ _ _ _ _ => r_iload_n (show zdec 249 10 = some (.iload_n 1, 1) by decide +kernel) rfl rfl,
  fun _ _ _ _ _ _ _ _ _ _ _ _ _ _ _ _ _ _ => r_sipush (show zdec 249 11 = some (.sipush 134, 3) by decide +kernel) rfl rfl,
  fun _ _ _ _ _ _ _ _ _ _ _ _ _ _ _ _ _ _ _ _ _ => r_cV [_, _] rfl (show zdec 249 14 = some (.invokevirtual 85, 3) by decide +kernel) (show zst.lookup (249 * zKEY + 85) = some (1, 226, 2, 12) by decide +kernel) (by decide) rfl,
  fun _ _ _ _ _ _ _ _ _ _ _ _ _ _ _ _ _ _ _ _ => r_lcmp (show zdec 249 17 = some (.lcmp, 1) by decide +kernel) rfl,
  fun _ _ _ _ _ _ _ _ _ _ _ _ _ _ _ _ _ _ _ => r_ifge (show zdec 249 18 = some (.ifCond .ge 173, 3) by decide +kernel) rfl rfl,
  fun _ _ _ _ _ _ _ _ _ _ _ _ _ _ _ _ _ _ => r_iload_n (show zdec 249 21 = some (.iload_n 1, 1) by decide +kernel) rfl rfl,
  fun _ _ _ _ _ _ _ _ _ _ _ _ _ _ _ _ _ _ => r_sipush (show zdec 249 22 = some (.sipush 135, 3) by decide +kernel) rfl rfl,
  fun _ _ _ _ _ _ _ _ _ _ _ _ _ _ _ _ _ _ => r_iconst (show zdec 249 25 = some (.iconst 4, 1) by decide +kernel) rfl rfl,
  fun _ _ _ _ _ _ _ _ _ _ _ _ _ _ _ _ _ _ => r_iload (show zdec 249 26 = some (.iload 7, 2) by decide +kernel) rfl rfl,
  fun _ _ _ _ _ _ _ _ _ _ _ _ _ _ _ _ _ _ _ _ => r_imul (show zdec 249 28 = some (.imul, 1) by decide +kernel) rfl,
  fun _ _ _ _ _ _ _ _ _ _ _ _ _ _ _ _ _ _ _ _ => r_iadd (show zdec 249 29 = some (.iadd, 1) by decide +kernel) rfl,
  fun _ _ _ _ _ _ _ _ _ _ _ _ _ _ _ _ _ _ _ _ => r_cS [_, _] rfl (show zdec 249 30 = some (.invokestatic 39, 3) by decide +kernel) (show zst.lookup (249 * zKEY + 39) = some (0, 208, 2, 0) by decide +kernel) (by decide) rfl,
  fun _ _ _ _ _ _ _ _ _ _ _ _ _ _ _ _ _ _ _ => r_istore (show zdec 249 33 = some (.istore 8, 2) by decide +kernel) rfl (Nat.le_of_ble_eq_true rfl) rfl rfl,
  fun _ _ _ _ _ _ _ _ _ _ _ _ _ _ _ _ _ _ => r_aload_nr (show zdec 249 35 = some (.aload_n 0, 1) by decide +kernel) rfl rfl,
  fun _ _ _ _ _ _ _ _ _ _ _ _ _ _ _ _ _ _ _ => r_getfield (show zdec 249 36 = some (.getfield 9, 3) by decide +kernel) (show zft.lookup (249 * zKEY + 9) = some (12, 0) by decide +kernel) rfl,
  fun _ _ _ _ _ _ _ _ _ _ _ _ _ _ _ _ _ _ => r_iload (show zdec 249 39 = some (.iload 8, 2) by decide +kernel) rfl rfl,
  fun _ _ _ _ _ _ _ _ _ _ _ _ _ _ _ _ _ _ => r_iconst (show zdec 249 41 = some (.iconst 3, 1) by decide +kernel) rfl rfl,
  fun _ _ _ _ _ _ _ _ _ _ _ _ _ _ _ _ _ _ _ _ => r_iadd (show zdec 249 42 = some (.iadd, 1) by decide +kernel) rfl,
  fun _ _ _ _ _ _ _ _ _ _ _ _ _ _ _ _ _ _ _ _ => r_lald (show zdec 249 43 = some (.laload, 1) by decide +kernel) rfl,
  fun _ _ _ _ _ _ _ _ _ _ _ _ _ _ _ _ _ _ _ => r_lstore (show zdec 249 44 = some (.lstore 9, 2) by decide +kernel) rfl (Nat.le_of_ble_eq_true rfl) rfl rfl,
  fun _ _ _ _ _ _ _ _ _ _ _ _ _ _ _ _ _ _ => r_lload (show zdec 249 46 = some (.lload 9, 2) by decide +kernel) rfl rfl,
  fun _ _ _ _ _ _ _ _ _ _ _ _ _ _ _ _ _ _ => r_lconst (show zdec 249 48 = some (.lconst 0, 1) by decide +kernel) rfl rfl,
  fun _ _ _ _ _ _ _ _ _ _ _ _ _ _ _ _ _ _ _ _ => r_lcmp (show zdec 249 49 = some (.lcmp, 1) by decide +kernel) rfl,
  fun _ _ _ _ _ _ _ _ _ _ _ _ _ _ _ _ _ _ _ => r_ifle (show zdec 249 50 = some (.ifCond .le 135, 3) by decide +kernel) rfl rfl,
  fun _ _ _ _ _ _ _ _ _ _ _ _ _ _ _ _ _ _ => r_lload (show zdec 249 53 = some (.lload 9, 2) by decide +kernel) rfl rfl,
  fun _ _ _ _ _ _ _ _ _ _ _ _ _ _ _ _ _ _ => r_aload_nr (show zdec 249 55 = some (.aload_n 0, 1) by decide +kernel) rfl rfl,
  fun _ _ _ _ _ _ _ _ _ _ _ _ _ _ _ _ _ _ _ => r_getfield (show zdec 249 56 = some (.getfield 9, 3) by decide +kernel) (show zft.lookup (249 * zKEY + 9) = some (12, 0) by decide +kernel) rfl,
  fun _ _ _ _ _ _ _ _ _ _ _ _ _ _ _ _ _ _ => r_iload (show zdec 249 59 = some (.iload 8, 2) by decide +kernel) rfl rfl,
  fun _ _ _ _ _ _ _ _ _ _ _ _ _ _ _ _ _ _ _ _ => r_lald (show zdec 249 61 = some (.laload, 1) by decide +kernel) rfl,
  fun _ _ _ _ _ _ _ _ _ _ _ _ _ _ _ _ _ _ => r_lconst (show zdec 249 62 = some (.lconst 0, 1) by decide +kernel) rfl rfl,
  fun _ _ _ _ _ _ _ _ _ _ _ _ _ _ _ _ _ _ _ _ => r_lcmp (show zdec 249 63 = some (.lcmp, 1) by decide +kernel) rfl,
  fun _ _ _ _ _ _ _ _ _ _ _ _ _ _ _ _ _ _ _ => r_ifne (show zdec 249 64 = some (.ifCond .ne 19, 3) by decide +kernel) rfl rfl,
  fun _ _ _ _ _ _ _ _ _ _ _ _ _ _ _ _ _ _ => r_aload_nr (show zdec 249 67 = some (.aload_n 0, 1) by decide +kernel) rfl rfl,
  fun _ _ _ _ _ _ _ _ _ _ _ _ _ _ _ _ _ _ _ => r_getfield (show zdec 249 68 = some (.getfield 9, 3) by decide +kernel) (show zft.lookup (249 * zKEY + 9) = some (12, 0) by decide +kernel) rfl,
  fun _ _ _ _ _ _ _ _ _ _ _ _ _ _ _ _ _ _ => r_iload (show zdec 249 71 = some (.iload 8, 2) by decide +kernel) rfl rfl,
  fun _ _ _ _ _ _ _ _ _ _ _ _ _ _ _ _ _ _ => r_iconst (show zdec 249 73 = some (.iconst 1, 1) by decide +kernel) rfl rfl,
  fun _ _ _ _ _ _ _ _ _ _ _ _ _ _ _ _ _ _ _ _ => r_iadd (show zdec 249 74 = some (.iadd, 1) by decide +kernel) rfl,
  fun _ _ _ _ _ _ _ _ _ _ _ _ _ _ _ _ _ _ _ _ => r_lald (show zdec 249 75 = some (.laload, 1) by decide +kernel) rfl,
  fun _ _ _ _ _ _ _ _ _ _ _ _ _ _ _ _ _ _ => r_ldc2 (show zdec 249 76 = some (.ldc2_w 89, 3) by decide +kernel) (show zlt.lookup (249 * zKEY + 89) = some 1000000 by decide +kernel) rfl,
  fun _ _ _ _ _ _ _ _ _ _ _ _ _ _ _ _ _ _ _ _ => r_lmul (show zdec 249 79 = some (.lmul, 1) by decide +kernel) rfl,
  fun _ _ _ _ _ _ _ _ _ _ _ _ _ _ _ _ _ _ => r_goto (show zdec 249 80 = some (.goto 18, 3) by decide +kernel) rfl,
  fun _ _ _ _ _ _ _ _ _ _ _ _ _ _ _ _ _ _ => r_aload_nr (show zdec 249 83 = some (.aload_n 0, 1) by decide +kernel) rfl rfl,
  fun _ _ _ _ _ _ _ _ _ _ _ _ _ _ _ _ _ _ _ => r_getfield (show zdec 249 84 = some (.getfield 9, 3) by decide +kernel) (show zft.lookup (249 * zKEY + 9) = some (12, 0) by decide +kernel) rfl,
  fun _ _ _ _ _ _ _ _ _ _ _ _ _ _ _ _ _ _ => r_iload (show zdec 249 87 = some (.iload 8, 2) by decide +kernel) rfl rfl,
  fun _ _ _ _ _ _ _ _ _ _ _ _ _ _ _ _ _ _ => r_iconst (show zdec 249 89 = some (.iconst 1, 1) by decide +kernel) rfl rfl,
  fun _ _ _ _ _ _ _ _ _ _ _ _ _ _ _ _ _ _ _ _ => r_iadd (show zdec 249 90 = some (.iadd, 1) by decide +kernel) rfl,
  fun _ _ _ _ _ _ _ _ _ _ _ _ _ _ _ _ _ _ _ _ => r_lald (show zdec 249 91 = some (.laload, 1) by decide +kernel) rfl,
  fun _ _ _ _ _ _ _ _ _ _ _ _ _ _ _ _ _ _ => r_lload_n (show zdec 249 92 = some (.lload_n 3, 1) by decide +kernel) rfl rfl,
  fun _ _ _ _ _ _ _ _ _ _ _ _ _ _ _ _ _ _ _ _ => r_lmul (show zdec 249 93 = some (.lmul, 1) by decide +kernel) rfl,
  fun _ _ _ _ _ _ _ _ _ _ _ _ _ _ _ _ _ _ => r_ldc2 (show zdec 249 94 = some (.ldc2_w 112, 3) by decide +kernel) (show zlt.lookup (249 * zKEY + 112) = some 1000 by decide +kernel) rfl,
  fun _ _ _ _ _ _ _ _ _ _ _ _ _ _ _ _ _ _ _ _ => r_ldiv (show zdec 249 97 = some (.ldiv, 1) by decide +kernel) rfl,
  fun _ _ _ _ _ _ _ _ _ _ _ _ _ _ _ _ _ _ _ _ => r_cM3 (show zdec 249 98 = some (.invokestatic 106, 3) by decide +kernel) (show zst.lookup (249 * zKEY + 106) = some (9, 72, 2, 3) by decide +kernel) rfl,
  fun _ _ _ _ _ _ _ _ _ _ _ _ _ _ _ _ _ _ _ => r_lstore (show zdec 249 101 = some (.lstore 11, 2) by decide +kernel) rfl (Nat.le_of_ble_eq_true rfl) rfl rfl,
  fun _ _ _ _ _ _ _ _ _ _ _ _ _ _ _ _ _ _ => r_lload (show zdec 249 103 = some (.lload 11, 2) by decide +kernel) rfl rfl,
  fun _ _ _ _ _ _ _ _ _ _ _ _ _ _ _ _ _ _ => r_lload (show zdec 249 105 = some (.lload 5, 2) by decide +kernel) rfl rfl,
  fun _ _ _ _ _ _ _ _ _ _ _ _ _ _ _ _ _ _ _ _ => r_cM3 (show zdec 249 107 = some (.invokestatic 106, 3) by decide +kernel) (show zst.lookup (249 * zKEY + 106) = some (9, 72, 2, 3) by decide +kernel) rfl,
  fun _ _ _ _ _ _ _ _ _ _ _ _ _ _ _ _ _ _ _ => r_lstore (show zdec 249 110 = some (.lstore 13, 2) by decide +kernel) rfl (Nat.le_of_ble_eq_true rfl) rfl rfl,
  fun _ _ _ _ _ _ _ _ _ _ _ _ _ _ _ _ _ _ => r_lload (show zdec 249 112 = some (.lload 5, 2) by decide +kernel) rfl rfl,
  fun _ _ _ _ _ _ _ _ _ _ _ _ _ _ _ _ _ _ => r_lload (show zdec 249 114 = some (.lload 13, 2) by decide +kernel) rfl rfl,
  fun _ _ _ _ _ _ _ _ _ _ _ _ _ _ _ _ _ _ _ _ => r_lsub (show zdec 249 116 = some (.lsub, 1) by decide +kernel) rfl,
  fun _ _ _ _ _ _ _ _ _ _ _ _ _ _ _ _ _ _ _ => r_lstore (show zdec 249 117 = some (.lstore 5, 2) by decide +kernel) rfl (Nat.le_of_ble_eq_true rfl) rfl rfl,
  fun _ _ _ _ _ _ _ _ _ _ _ _ _ _ _ _ _ _ => r_aload_nr (show zdec 249 119 = some (.aload_n 0, 1) by decide +kernel) rfl rfl,
  fun _ _ _ _ _ _ _ _ _ _ _ _ _ _ _ _ _ _ _ => r_getfield (show zdec 249 120 = some (.getfield 9, 3) by decide +kernel) (show zft.lookup (249 * zKEY + 9) = some (12, 0) by decide +kernel) rfl,
  fun _ _ _ _ _ _ _ _ _ _ _ _ _ _ _ _ _ _ => r_iload (show zdec 249 123 = some (.iload 8, 2) by decide +kernel) rfl rfl,
  fun _ _ _ _ _ _ _ _ _ _ _ _ _ _ _ _ _ _ => r_iconst (show zdec 249 125 = some (.iconst 3, 1) by decide +kernel) rfl rfl,
  fun _ _ _ _ _ _ _ _ _ _ _ _ _ _ _ _ _ _ _ _ => r_iadd (show zdec 249 126 = some (.iadd, 1) by decide +kernel) rfl,
  fun _ _ _ _ _ _ _ _ _ _ _ _ _ _ _ _ _ _ => r_lload (show zdec 249 127 = some (.lload 9, 2) by decide +kernel) rfl rfl,
  fun _ _ _ _ _ _ _ _ _ _ _ _ _ _ _ _ _ _ => r_lload (show zdec 249 129 = some (.lload 13, 2) by decide +kernel) rfl rfl,
  fun _ _ _ _ _ _ _ _ _ _ _ _ _ _ _ _ _ _ _ _ => r_lsub (show zdec 249 131 = some (.lsub, 1) by decide +kernel) rfl,
  fun _ _ _ _ _ _ _ _ _ _ _ _ _ _ _ _ _ _ _ _ _ => r_last (show zdec 249 132 = some (.lastore, 1) by decide +kernel) rfl,
  fun _ _ _ _ _ _ _ _ _ _ _ _ _ _ _ _ _ _ => r_lload (show zdec 249 133 = some (.lload 9, 2) by decide +kernel) rfl rfl,
  fun _ _ _ _ _ _ _ _ _ _ _ _ _ _ _ _ _ _ => r_lload (show zdec 249 135 = some (.lload 13, 2) by decide +kernel) rfl rfl,
  fun _ _ _ _ _ _ _ _ _ _ _ _ _ _ _ _ _ _ _ _ => r_lcmp (show zdec 249 137 = some (.lcmp, 1) by decide +kernel) rfl,
  fun _ _ _ _ _ _ _ _ _ _ _ _ _ _ _ _ _ _ _ => r_ifne (show zdec 249 138 = some (.ifCond .ne 7, 3) by decide +kernel) rfl rfl,
  fun _ _ _ _ _ _ _ _ _ _ _ _ _ _ _ _ _ _ => r_iconst (show zdec 249 141 = some (.iconst 4, 1) by decide +kernel) rfl rfl,
  fun _ _ _ _ _ _ _ _ _ _ _ _ _ _ _ _ _ _ => r_goto (show zdec 249 142 = some (.goto 27, 3) by decide +kernel) rfl,
  fun _ _ _ _ _ _ _ _ _ _ _ _ _ _ _ _ _ _ => r_lload (show zdec 249 145 = some (.lload 13, 2) by decide +kernel) rfl rfl,
  fun _ _ _ _ _ _ _ _ _ _ _ _ _ _ _ _ _ _ => r_lload (show zdec 249 147 = some (.lload 11, 2) by decide +kernel) rfl rfl,
  fun _ _ _ _ _ _ _ _ _ _ _ _ _ _ _ _ _ _ _ _ => r_lcmp (show zdec 249 149 = some (.lcmp, 1) by decide +kernel) rfl,
  fun _ _ _ _ _ _ _ _ _ _ _ _ _ _ _ _ _ _ _ => r_ifne (show zdec 249 150 = some (.ifCond .ne 7, 3) by decide +kernel) rfl rfl,
  fun _ _ _ _ _ _ _ _ _ _ _ _ _ _ _ _ _ _ => r_iconst (show zdec 249 153 = some (.iconst 1, 1) by decide +kernel) rfl rfl,
  fun _ _ _ _ _ _ _ _ _ _ _ _ _ _ _ _ _ _ => r_goto (show zdec 249 154 = some (.goto 15, 3) by decide +kernel) rfl,
  fun _ _ _ _ _ _ _ _ _ _ _ _ _ _ _ _ _ _ => r_lload (show zdec 249 157 = some (.lload 13, 2) by decide +kernel) rfl rfl,
  fun _ _ _ _ _ _ _ _ _ _ _ _ _ _ _ _ _ _ => r_lconst (show zdec 249 159 = some (.lconst 0, 1) by decide +kernel) rfl rfl,
  fun _ _ _ _ _ _ _ _ _ _ _ _ _ _ _ _ _ _ _ _ => r_lcmp (show zdec 249 160 = some (.lcmp, 1) by decide +kernel) rfl,
  fun _ _ _ _ _ _ _ _ _ _ _ _ _ _ _ _ _ _ _ => r_ifle (show zdec 249 161 = some (.ifCond .le 7, 3) by decide +kernel) rfl rfl,
  fun _ _ _ _ _ _ _ _ _ _ _ _ _ _ _ _ _ _ => r_iconst (show zdec 249 164 = some (.iconst 2, 1) by decide +kernel) rfl rfl,
  fun _ _ _ _ _ _ _ _ _ _ _ _ _ _ _ _ _ _ => r_goto (show zdec 249 165 = some (.goto 4, 3) by decide +kernel) rfl,
  fun _ _ _ _ _ _ _ _ _ _ _ _ _ _ _ _ _ _ => r_iconst (show zdec 249 168 = some (.iconst 3, 1) by decide +kernel) rfl rfl,
  fun _ _ _ _ _ _ _ _ _ _ _ _ _ _ _ _ _ _ _ => r_istore (show zdec 249 169 = some (.istore 15, 2) by decide +kernel) rfl (Nat.le_of_ble_eq_true rfl) rfl rfl,
  fun _ _ _ _ _ _ _ _ _ _ _ _ _ _ _ _ _ _ => r_aload_nr (show zdec 249 171 = some (.aload_n 0, 1) by decide +kernel) rfl rfl,
  fun _ _ _ _ _ _ _ _ _ _ _ _ _ _ _ _ _ _ => r_iload_n (show zdec 249 172 = some (.iload_n 1, 1) by decide +kernel) rfl rfl,
  fun _ _ _ _ _ _ _ _ _ _ _ _ _ _ _ _ _ _ => r_iload_n (show zdec 249 173 = some (.iload_n 2, 1) by decide +kernel) rfl rfl,
  fun _ _ _ _ _ _ _ _ _ _ _ _ _ _ _ _ _ _ => r_iconst (show zdec 249 174 = some (.iconst 5, 1) by decide +kernel) rfl rfl,
  fun _ _ _ _ _ _ _ _ _ _ _ _ _ _ _ _ _ _ => r_iload (show zdec 249 175 = some (.iload 7, 2) by decide +kernel) rfl rfl,
  fun _ _ _ _ _ _ _ _ _ _ _ _ _ _ _ _ _ _ => r_iload (show zdec 249 177 = some (.iload 15, 2) by decide +kernel) rfl rfl,
  fun _ _ _ _ _ _ _ _ _ _ _ _ _ _ _ _ _ _ => r_lload (show zdec 249 179 = some (.lload 13, 2) by decide +kernel) rfl rfl,
  fun _ _ _ _ _ _ _ _ _ _ _ _ _ _ _ _ _ _ _ => r_lneg (show zdec 249 181 = some (.lneg, 1) by decide +kernel) rfl,
  fun _ _ _ _ _ _ _ _ _ _ _ _ _ _ _ _ _ _ _ _ _ _ _ _ _ => r_cV [_, _, _, _, _, _] rfl (show zdec 249 182 = some (.invokevirtual 140, 3) by decide +kernel) (show zst.lookup (249 * zKEY + 140) = some (1, 243, 6, 12) by decide +kernel) (by decide) rfl,
  fun _ _ _ _ _ _ _ _ _ _ _ _ _ _ _ _ _ _ => r_iinc (show zdec 249 185 = some (.iinc 7 1, 3) by decide +kernel) rfl rfl rfl (Nat.le_of_ble_eq_true rfl) rfl rfl,
  fun _ _ _ _ _ _ _ _ _ _ _ _ _ _ _ _ _ _ => r_goto (show zdec 249 188 = some (.goto (-182), 3) by decide +kernel) rfl,
  fun _ _ _ _ _ _ _ _ _ _ _ _ _ _ _ _ _ => r_vret (show zdec 249 191 = some (.return_, 1) by decide +kernel) (by decide +kernel)⟩
theorem zl_249_6 : ∀ (l0 l1 l2 l3 l4 l5 l6 l8 l9 l10 l11 l12 l13 l14 l15 : Value) (x : Int32) (S : List Value) (h : zH), rn 249 6 [l0, l1, l2, l3, l4, l5, l6, .int x, l8, l9, l10, l11, l12, l13, l14, l15] S h = rn 249 8 [l0, l1, l2, l3, l4, l5, l6, .int x, l8, l9, l10, l11, l12, l13, l14, l15] (.int x :: S) h := fun _ _ _ _ _ _ _ _ _ _ _ _ _ _ _ _ _ _ => r_iload (show zdec 249 6 = some (.iload 7, 2) by decide +kernel) rfl rfl
theorem ze_249 : ∀ (a0 : Nat) (a1 : Int32) (a2 : Int32) (a3 : Int64) (h : zH), ev 249 [.ref a0, .int a1, .int a2, .long a3] h = rn 249 0 [.ref a0, .int a1, .int a2, .long a3, .float 0, .float 0, .float 0, .float 0, .float 0, .float 0, .float 0, .float 0, .float 0, .float 0, .float 0, .float 0] [] h := fun _ _ _ _ _ => if_pos (Nat.le_of_ble_eq_true rfl)
-- PayrollRunModel.newYear()I
theorem zr_250 : (∀ (l1 l2 l3 : Value) (x : Nat) (S : List Value) (h : zH), rn 250 0 [.ref x, l1, l2, l3] S h = rn 250 1 [.ref x, l1, l2, l3] (.ref x :: S) h) ∧
  (∀ (l0 l1 l2 l3 : Value) (o : Nat) (S : List Value) (h : zH), rn 250 1 [l0, l1, l2, l3] (.ref o :: S) h = if zkd h o = 12 ∧ zsum S ≤ 8 then zcall (ev 233 [.ref o] h) (fun v h => rn 250 4 [l0, l1, l2, l3] (zpush v S) h) else none) ∧
  (∀ (l0 l1 l2 l3 : Value) (S : List Value) (h : zH), rn 250 4 [l0, l1, l2, l3] S h = rn 250 6 [l0, l1, l2, l3] (.int (nI 12) :: S) h) ∧
  (∀ (l0 l1 l2 l3 : Value) (x : Int32) (y : Int32) (S : List Value) (h : zH), rn 250 6 [l0, l1, l2, l3] (.int y :: .int x :: S) h = if y ≤ x then rn 250 12 [l0, l1, l2, l3] S h else rn 250 9 [l0, l1, l2, l3] S h) ∧
  (∀ (l0 l1 l2 l3 : Value) (S : List Value) (h : zH), rn 250 9 [l0, l1, l2, l3] S h = rn 250 11 [l0, l1, l2, l3] (.int (-2) :: S) h) ∧
  (∀ (l0 l1 l2 l3 : Value) (x : Int32) (h : zH), rn 250 11 [l0, l1, l2, l3] [.int x] h = some (some (.int x), h)) ∧
  (∀ (l1 l2 l3 : Value) (x : Nat) (S : List Value) (h : zH), rn 250 12 [.ref x, l1, l2, l3] S h = rn 250 13 [.ref x, l1, l2, l3] (.ref x :: S) h) ∧
  (∀ (l0 l1 l2 l3 : Value) (o : Nat) (S : List Value) (h : zH), rn 250 13 [l0, l1, l2, l3] (.ref o :: S) h = if zkd h o = 12 ∧ zsum S ≤ 8 then zcall (ev 214 [.ref o] h) (fun v h => rn 250 16 [l0, l1, l2, l3] (zpush v S) h) else none) ∧
  (∀ (l1 l2 l3 : Value) (x : Nat) (S : List Value) (h : zH), rn 250 16 [.ref x, l1, l2, l3] S h = rn 250 17 [.ref x, l1, l2, l3] (.ref x :: S) h) ∧
  (∀ (l0 l1 l2 l3 : Value) (a : Nat) (S : List Value) (h : zH), rn 250 17 [l0, l1, l2, l3] (.ref a :: S) h = zgf h a 12 0 fun v => rn 250 20 [l0, l1, l2, l3] (v :: S) h) ∧
  (∀ (l0 l1 l2 l3 : Value) (S : List Value) (h : zH), rn 250 20 [l0, l1, l2, l3] S h = rn 250 21 [l0, l1, l2, l3] (.int (nI 0) :: S) h) ∧
  (∀ (l0 l1 l2 l3 : Value) (S : List Value) (h : zH), rn 250 21 [l0, l1, l2, l3] S h = rn 250 22 [l0, l1, l2, l3] (.long 0 :: S) h) ∧
  (∀ (l0 l1 l2 l3 : Value) (a : Nat) (j : Int32) (x : Int64) (S : List Value) (h : zH), rn 250 22 [l0, l1, l2, l3] (.long x :: .int j :: .ref a :: S) h = zsj h a j x fun h => rn 250 23 [l0, l1, l2, l3] S h) ∧
  (∀ (l1 l2 l3 : Value) (x : Nat) (S : List Value) (h : zH), rn 250 23 [.ref x, l1, l2, l3] S h = rn 250 24 [.ref x, l1, l2, l3] (.ref x :: S) h) ∧
  (∀ (l0 l1 l2 l3 : Value) (a : Nat) (S : List Value) (h : zH), rn 250 24 [l0, l1, l2, l3] (.ref a :: S) h = zgf h a 12 0 fun v => rn 250 27 [l0, l1, l2, l3] (v :: S) h) ∧
  (∀ (l0 l1 l2 l3 : Value) (S : List Value) (h : zH), rn 250 27 [l0, l1, l2, l3] S h = rn 250 28 [l0, l1, l2, l3] (.int (nI 1) :: S) h) ∧
  (∀ (l0 l1 l2 l3 : Value) (v : Value) (w : Value) (S : List Value) (h : zH), rn 250 28 [l0, l1, l2, l3] (v :: w :: S) h = c1 v (c1 w (rn 250 29 [l0, l1, l2, l3] (v :: w :: v :: w :: S) h))) ∧
  (∀ (l0 l1 l2 l3 : Value) (a : Nat) (j : Int32) (S : List Value) (h : zH), rn 250 29 [l0, l1, l2, l3] (.int j :: .ref a :: S) h = zlj h a j fun x => rn 250 30 [l0, l1, l2, l3] (.long x :: S) h) ∧
  (∀ (l0 l1 l2 l3 : Value) (S : List Value) (h : zH), rn 250 30 [l0, l1, l2, l3] S h = rn 250 31 [l0, l1, l2, l3] (.long 1 :: S) h) ∧
  (∀ (l0 l1 l2 l3 : Value) (x : Int64) (y : Int64) (S : List Value) (h : zH), rn 250 31 [l0, l1, l2, l3] (.long y :: .long x :: S) h = rn 250 32 [l0, l1, l2, l3] (.long (x + y) :: S) h) ∧
  (∀ (l0 l1 l2 l3 : Value) (a : Nat) (j : Int32) (x : Int64) (S : List Value) (h : zH), rn 250 32 [l0, l1, l2, l3] (.long x :: .int j :: .ref a :: S) h = zsj h a j x fun h => rn 250 33 [l0, l1, l2, l3] S h) ∧
  (∀ (l0 l1 l2 l3 : Value) (S : List Value) (h : zH), rn 250 33 [l0, l1, l2, l3] S h = rn 250 34 [l0, l1, l2, l3] (.int (nI 0) :: S) h) ∧
  (∀ (l0 l1 l2 l3 : Value) (x : Int32) (S : List Value) (h : zH), rn 250 34 [l0, l1, l2, l3] (.int x :: S) h = nl l0 (rn 250 35 [l0, .int x, l2, l3] S h)) ∧
  (∀ (l0 l1 l2 l3 : Value) (S : List Value) (h : zH), rn 250 36 [l0, l1, l2, l3] S h = rn 250 37 [l0, l1, l2, l3] (.int (nI 3) :: S) h) ∧
  (∀ (l0 l1 l2 l3 : Value) (x : Int32) (y : Int32) (S : List Value) (h : zH), rn 250 37 [l0, l1, l2, l3] (.int y :: .int x :: S) h = if y ≤ x then rn 250 191 [l0, l1, l2, l3] S h else rn 250 40 [l0, l1, l2, l3] S h) ∧
  (∀ (l0 l1 l2 l3 : Value) (S : List Value) (h : zH), rn 250 40 [l0, l1, l2, l3] S h = rn 250 41 [l0, l1, l2, l3] (.int (nI 0) :: S) h) ∧
  (∀ (l0 l1 l2 l3 : Value) (x : Int32) (S : List Value) (h : zH), rn 250 41 [l0, l1, l2, l3] (.int x :: S) h = nl l1 (rn 250 42 [l0, l1, .int x, l3] S h)) ∧
  (∀ (l0 l1 l2 l3 : Value) (S : List Value) (h : zH), rn 250 43 [l0, l1, l2, l3] S h = rn 250 45 [l0, l1, l2, l3] (.int (nI 12) :: S) h) ∧
  (∀ (l0 l1 l2 l3 : Value) (x : Int32) (y : Int32) (S : List Value) (h : zH), rn 250 45 [l0, l1, l2, l3] (.int y :: .int x :: S) h = if y ≤ x then rn 250 118 [l0, l1, l2, l3] S h else rn 250 48 [l0, l1, l2, l3] S h) ∧
  (∀ (l1 l2 l3 : Value) (x : Nat) (S : List Value) (h : zH), rn 250 48 [.ref x, l1, l2, l3] S h = rn 250 49 [.ref x, l1, l2, l3] (.ref x :: S) h) ∧
  (∀ (l0 l1 l2 l3 : Value) (a : Nat) (S : List Value) (h : zH), rn 250 49 [l0, l1, l2, l3] (.ref a :: S) h = zgf h a 12 0 fun v => rn 250 52 [l0, l1, l2, l3] (v :: S) h) ∧
  (∀ (l0 l2 l3 : Value) (x : Int32) (S : List Value) (h : zH), rn 250 52 [l0, .int x, l2, l3] S h = rn 250 53 [l0, .int x, l2, l3] (.int x :: S) h) ∧
  (∀ (l0 l1 l2 l3 : Value) (S : List Value) (h : zH), rn 250 53 [l0, l1, l2, l3] S h = rn 250 54 [l0, l1, l2, l3] (.int (nI 2) :: S) h) ∧
  (∀ (l0 l1 l3 : Value) (x : Int32) (S : List Value) (h : zH), rn 250 54 [l0, l1, .int x, l3] S h = rn 250 55 [l0, l1, .int x, l3] (.int x :: S) h) ∧
  (∀ (l0 l1 l2 l3 : Value) (x : Int32) (y : Int32) (S : List Value) (h : zH), rn 250 55 [l0, l1, l2, l3] (.int y :: .int x :: S) h = rn 250 56 [l0, l1, l2, l3] (.int (x + y) :: S) h) ∧
  (∀ (l0 l1 l2 l3 : Value) (v0 : Value) (v1 : Value) (S : List Value) (h : zH), rn 250 56 [l0, l1, l2, l3] (v1 :: v0 :: S) h = if zsum S ≤ 8 then zcall (ev 208 [v0, v1] h) (fun v h => rn 250 59 [l0, l1, l2, l3] (zpush v S) h) else none) ∧
  (∀ (l1 l2 l3 : Value) (x : Nat) (S : List Value) (h : zH), rn 250 59 [.ref x, l1, l2, l3] S h = rn 250 60 [.ref x, l1, l2, l3] (.ref x :: S) h) ∧
  (∀ (l0 l2 l3 : Value) (x : Int32) (S : List Value) (h : zH), rn 250 60 [l0, .int x, l2, l3] S h = rn 250 61 [l0, .int x, l2, l3] (.int x :: S) h) ∧
  (∀ (l0 l1 l2 l3 : Value) (S : List Value) (h : zH), rn 250 61 [l0, l1, l2, l3] S h = rn 250 63 [l0, l1, l2, l3] (.int (nI 13) :: S) h) ∧
  (∀ (l0 l1 l2 l3 : Value) (o : Nat) (v0 : Value) (v1 : Value) (S : List Value) (h : zH), rn 250 63 [l0, l1, l2, l3] (v1 :: v0 :: .ref o :: S) h = if zkd h o = 12 ∧ zsum S ≤ 8 then zcall (ev 226 [.ref o, v0, v1] h) (fun v h => rn 250 66 [l0, l1, l2, l3] (zpush v S) h) else none) ∧
  (∀ (l0 l1 l2 l3 : Value) (a : Nat) (j : Int32) (x : Int64) (S : List Value) (h : zH), rn 250 66 [l0, l1, l2, l3] (.long x :: .int j :: .ref a :: S) h = zsj h a j x fun h => rn 250 67 [l0, l1, l2, l3] S h) ∧
  (∀ (l1 l2 l3 : Value) (x : Nat) (S : List Value) (h : zH), rn 250 67 [.ref x, l1, l2, l3] S h = rn 250 68 [.ref x, l1, l2, l3] (.ref x :: S) h) ∧
  (∀ (l0 l1 l2 l3 : Value) (a : Nat) (S : List Value) (h : zH), rn 250 68 [l0, l1, l2, l3] (.ref a :: S) h = zgf h a 12 0 fun v => rn 250 71 [l0, l1, l2, l3] (v :: S) h) ∧
  (∀ (l0 l2 l3 : Value) (x : Int32) (S : List Value) (h : zH), rn 250 71 [l0, .int x, l2, l3] S h = rn 250 72 [l0, .int x, l2, l3] (.int x :: S) h) ∧
  (∀ (l0 l1 l2 l3 : Value) (S : List Value) (h : zH), rn 250 72 [l0, l1, l2, l3] S h = rn 250 74 [l0, l1, l2, l3] (.int (nI 14) :: S) h) ∧
  (∀ (l0 l1 l3 : Value) (x : Int32) (S : List Value) (h : zH), rn 250 74 [l0, l1, .int x, l3] S h = rn 250 75 [l0, l1, .int x, l3] (.int x :: S) h) ∧
  (∀ (l0 l1 l2 l3 : Value) (x : Int32) (y : Int32) (S : List Value) (h : zH), rn 250 75 [l0, l1, l2, l3] (.int y :: .int x :: S) h = rn 250 76 [l0, l1, l2, l3] (.int (x + y) :: S) h) ∧
  (∀ (l0 l1 l2 l3 : Value) (v0 : Value) (v1 : Value) (S : List Value) (h : zH), rn 250 76 [l0, l1, l2, l3] (v1 :: v0 :: S) h = if zsum S ≤ 8 then zcall (ev 208 [v0, v1] h) (fun v h => rn 250 79 [l0, l1, l2, l3] (zpush v S) h) else none) ∧
  (∀ (l0 l1 l2 l3 : Value) (S : List Value) (h : zH), rn 250 79 [l0, l1, l2, l3] S h = rn 250 82 [l0, l1, l2, l3] (.long (30) :: S) h) ∧
  (∀ (l0 l1 l2 l3 : Value) (a : Nat) (j : Int32) (x : Int64) (S : List Value) (h : zH), rn 250 82 [l0, l1, l2, l3] (.long x :: .int j :: .ref a :: S) h = zsj h a j x fun h => rn 250 83 [l0, l1, l2, l3] S h) ∧
  (∀ (l1 l2 l3 : Value) (x : Nat) (S : List Value) (h : zH), rn 250 83 [.ref x, l1, l2, l3] S h = rn 250 84 [.ref x, l1, l2, l3] (.ref x :: S) h) ∧
  (∀ (l0 l1 l2 l3 : Value) (a : Nat) (S : List Value) (h : zH), rn 250 84 [l0, l1, l2, l3] (.ref a :: S) h = zgf h a 12 0 fun v => rn 250 87 [l0, l1, l2, l3] (v :: S) h) ∧
  (∀ (l0 l2 l3 : Value) (x : Int32) (S : List Value) (h : zH), rn 250 87 [l0, .int x, l2, l3] S h = rn 250 88 [l0, .int x, l2, l3] (.int x :: S) h) ∧
  (∀ (l0 l1 l2 l3 : Value) (S : List Value) (h : zH), rn 250 88 [l0, l1, l2, l3] S h = rn 250 90 [l0, l1, l2, l3] (.int (nI 26) :: S) h) ∧
  (∀ (l0 l1 l3 : Value) (x : Int32) (S : List Value) (h : zH), rn 250 90 [l0, l1, .int x, l3] S h = rn 250 91 [l0, l1, .int x, l3] (.int x :: S) h) ∧
  (∀ (l0 l1 l2 l3 : Value) (x : Int32) (y : Int32) (S : List Value) (h : zH), rn 250 91 [l0, l1, l2, l3] (.int y :: .int x :: S) h = rn 250 92 [l0, l1, l2, l3] (.int (x + y) :: S) h) ∧
  (∀ (l0 l1 l2 l3 : Value) (v0 : Value) (v1 : Value) (S : List Value) (h : zH), rn 250 92 [l0, l1, l2, l3] (v1 :: v0 :: S) h = if zsum S ≤ 8 then zcall (ev 208 [v0, v1] h) (fun v h => rn 250 95 [l0, l1, l2, l3] (zpush v S) h) else none) ∧
  (∀ (l0 l1 l2 l3 : Value) (S : List Value) (h : zH), rn 250 95 [l0, l1, l2, l3] S h = rn 250 96 [l0, l1, l2, l3] (.long 0 :: S) h) ∧
  (∀ (l0 l1 l2 l3 : Value) (a : Nat) (j : Int32) (x : Int64) (S : List Value) (h : zH), rn 250 96 [l0, l1, l2, l3] (.long x :: .int j :: .ref a :: S) h = zsj h a j x fun h => rn 250 97 [l0, l1, l2, l3] S h) ∧
  (∀ (l1 l2 l3 : Value) (x : Nat) (S : List Value) (h : zH), rn 250 97 [.ref x, l1, l2, l3] S h = rn 250 98 [.ref x, l1, l2, l3] (.ref x :: S) h) ∧
  (∀ (l0 l1 l2 l3 : Value) (a : Nat) (S : List Value) (h : zH), rn 250 98 [l0, l1, l2, l3] (.ref a :: S) h = zgf h a 12 0 fun v => rn 250 101 [l0, l1, l2, l3] (v :: S) h) ∧
  (∀ (l0 l2 l3 : Value) (x : Int32) (S : List Value) (h : zH), rn 250 101 [l0, .int x, l2, l3] S h = rn 250 102 [l0, .int x, l2, l3] (.int x :: S) h) ∧
  (∀ (l0 l1 l2 l3 : Value) (S : List Value) (h : zH), rn 250 102 [l0, l1, l2, l3] S h = rn 250 105 [l0, l1, l2, l3] (.int (nI 147) :: S) h) ∧
  (∀ (l0 l1 l3 : Value) (x : Int32) (S : List Value) (h : zH), rn 250 105 [l0, l1, .int x, l3] S h = rn 250 106 [l0, l1, .int x, l3] (.int x :: S) h) ∧
  (∀ (l0 l1 l2 l3 : Value) (x : Int32) (y : Int32) (S : List Value) (h : zH), rn 250 106 [l0, l1, l2, l3] (.int y :: .int x :: S) h = rn 250 107 [l0, l1, l2, l3] (.int (x + y) :: S) h) ∧
  (∀ (l0 l1 l2 l3 : Value) (v0 : Value) (v1 : Value) (S : List Value) (h : zH), rn 250 107 [l0, l1, l2, l3] (v1 :: v0 :: S) h = if zsum S ≤ 8 then zcall (ev 208 [v0, v1] h) (fun v h => rn 250 110 [l0, l1, l2, l3] (zpush v S) h) else none) ∧
  (∀ (l0 l1 l2 l3 : Value) (S : List Value) (h : zH), rn 250 110 [l0, l1, l2, l3] S h = rn 250 111 [l0, l1, l2, l3] (.long 0 :: S) h) ∧
  (∀ (l0 l1 l2 l3 : Value) (a : Nat) (j : Int32) (x : Int64) (S : List Value) (h : zH), rn 250 111 [l0, l1, l2, l3] (.long x :: .int j :: .ref a :: S) h = zsj h a j x fun h => rn 250 112 [l0, l1, l2, l3] S h) ∧
  (∀ (l0 l1 l3 : Value) (x : Int32) (S : List Value) (h : zH), rn 250 112 [l0, l1, .int x, l3] S h = nl l1 (rn 250 115 [l0, l1, .int (x + (nI 1)), l3] S h)) ∧
  (∀ (l0 l1 l2 l3 : Value) (S : List Value) (h : zH), rn 250 115 [l0, l1, l2, l3] S h = rn 250 42 [l0, l1, l2, l3] S h) ∧
  (∀ (l0 l1 l2 l3 : Value) (S : List Value) (h : zH), rn 250 118 [l0, l1, l2, l3] S h = rn 250 119 [l0, l1, l2, l3] (.int (nI 0) :: S) h) ∧
  (∀ (l0 l1 l2 l3 : Value) (x : Int32) (S : List Value) (h : zH), rn 250 119 [l0, l1, l2, l3] (.int x :: S) h = nl l1 (rn 250 120 [l0, l1, .int x, l3] S h)) ∧
  (∀ (l0 l1 l2 l3 : Value) (S : List Value) (h : zH), rn 250 120 [l0, l1, l2, l3] S h = rn 250 121 [l0, l1, l2, l3] (.int (nI 0) :: S) h) ∧
  (∀ (l0 l1 l2 l3 : Value) (x : Int32) (S : List Value) (h : zH), rn 250 121 [l0, l1, l2, l3] (.int x :: S) h = nl l2 (rn 250 122 [l0, l1, l2, .int x] S h)) ∧
  (∀ (l0 l1 l2 l3 : Value) (x : Int32) (S : List Value) (h : zH), rn 250 123 [l0, l1, l2, l3] (.int x :: S) h = rn 250 124 [l0, l1, l2, l3] (.long x.toInt64 :: S) h) ∧
  (∀ (l1 l2 l3 : Value) (x : Nat) (S : List Value) (h : zH), rn 250 124 [.ref x, l1, l2, l3] S h = rn 250 125 [.ref x, l1, l2, l3] (.ref x :: S) h) ∧
  (∀ (l0 l2 l3 : Value) (x : Int32) (S : List Value) (h : zH), rn 250 125 [l0, .int x, l2, l3] S h = rn 250 126 [l0, .int x, l2, l3] (.int x :: S) h) ∧
  (∀ (l0 l1 l2 l3 : Value) (S : List Value) (h : zH), rn 250 126 [l0, l1, l2, l3] S h = rn 250 129 [l0, l1, l2, l3] (.int (nI 134) :: S) h) ∧
  (∀ (l0 l1 l2 l3 : Value) (o : Nat) (v0 : Value) (v1 : Value) (S : List Value) (h : zH), rn 250 129 [l0, l1, l2, l3] (v1 :: v0 :: .ref o :: S) h = if zkd h o = 12 ∧ zsum S ≤ 8 then zcall (ev 226 [.ref o, v0, v1] h) (fun v h => rn 250 132 [l0, l1, l2, l3] (zpush v S) h) else none) ∧
  (∀ (l0 l1 l2 l3 : Value) (x : Int64) (y : Int64) (S : List Value) (h : zH), rn 250 132 [l0, l1, l2, l3] (.long y :: .long x :: S) h = rn 250 133 [l0, l1, l2, l3] (.int (lg_cmp x y) :: S) h) ∧
  (∀ (l0 l1 l2 l3 : Value) (x : Int32) (S : List Value) (h : zH), rn 250 133 [l0, l1, l2, l3] (.int x :: S) h = if nI 0 ≤ x then rn 250 171 [l0, l1, l2, l3] S h else rn 250 136 [l0, l1, l2, l3] S h) ∧
  (∀ (l1 l2 l3 : Value) (x : Nat) (S : List Value) (h : zH), rn 250 136 [.ref x, l1, l2, l3] S h = rn 250 137 [.ref x, l1, l2, l3] (.ref x :: S) h) ∧
  (∀ (l0 l2 l3 : Value) (x : Int32) (S : List Value) (h : zH), rn 250 137 [l0, .int x, l2, l3] S h = rn 250 138 [l0, .int x, l2, l3] (.int x :: S) h) ∧
  (∀ (l0 l1 l2 l3 : Value) (S : List Value) (h : zH), rn 250 138 [l0, l1, l2, l3] S h = rn 250 141 [l0, l1, l2, l3] (.int (nI 135) :: S) h) ∧
  (∀ (l0 l1 l2 l3 : Value) (S : List Value) (h : zH), rn 250 141 [l0, l1, l2, l3] S h = rn 250 142 [l0, l1, l2, l3] (.int (nI 4) :: S) h) ∧
  (∀ (l0 l1 l2 : Value) (x : Int32) (S : List Value) (h : zH), rn 250 142 [l0, l1, l2, .int x] S h = rn 250 143 [l0, l1, l2, .int x] (.int x :: S) h) ∧
  (∀ (l0 l1 l2 l3 : Value) (x : Int32) (y : Int32) (S : List Value) (h : zH), rn 250 143 [l0, l1, l2, l3] (.int y :: .int x :: S) h = rn 250 144 [l0, l1, l2, l3] (.int (x * y) :: S) h) ∧
  (∀ (l0 l1 l2 l3 : Value) (x : Int32) (y : Int32) (S : List Value) (h : zH), rn 250 144 [l0, l1, l2, l3] (.int y :: .int x :: S) h = rn 250 145 [l0, l1, l2, l3] (.int (x + y) :: S) h) ∧
  (∀ (l0 l1 l2 l3 : Value) (S : List Value) (h : zH), rn 250 145 [l0, l1, l2, l3] S h = rn 250 146 [l0, l1, l2, l3] (.int (nI 3) :: S) h) ∧
  (∀ (l0 l1 l2 l3 : Value) (x : Int32) (y : Int32) (S : List Value) (h : zH), rn 250 146 [l0, l1, l2, l3] (.int y :: .int x :: S) h = rn 250 147 [l0, l1, l2, l3] (.int (x + y) :: S) h) ∧
  (∀ (l0 l1 l2 l3 : Value) (o : Nat) (v0 : Value) (v1 : Value) (S : List Value) (h : zH), rn 250 147 [l0, l1, l2, l3] (v1 :: v0 :: .ref o :: S) h = if zkd h o = 12 ∧ zsum S ≤ 8 then zcall (ev 226 [.ref o, v0, v1] h) (fun v h => rn 250 150 [l0, l1, l2, l3] (zpush v S) h) else none) ∧
  (∀ (l0 l1 l2 l3 : Value) (S : List Value) (h : zH), rn 250 150 [l0, l1, l2, l3] S h = rn 250 151 [l0, l1, l2, l3] (.long 0 :: S) h) ∧
  (∀ (l0 l1 l2 l3 : Value) (x : Int64) (y : Int64) (S : List Value) (h : zH), rn 250 151 [l0, l1, l2, l3] (.long y :: .long x :: S) h = rn 250 152 [l0, l1, l2, l3] (.int (lg_cmp x y) :: S) h) ∧
  (∀ (l0 l1 l2 l3 : Value) (x : Int32) (S : List Value) (h : zH), rn 250 152 [l0, l1, l2, l3] (.int x :: S) h = if x ≤ nI 0 then rn 250 165 [l0, l1, l2, l3] S h else rn 250 155 [l0, l1, l2, l3] S h) ∧
  (∀ (l1 l2 l3 : Value) (x : Nat) (S : List Value) (h : zH), rn 250 155 [.ref x, l1, l2, l3] S h = rn 250 156 [.ref x, l1, l2, l3] (.ref x :: S) h) ∧
  (∀ (l0 l2 l3 : Value) (x : Int32) (S : List Value) (h : zH), rn 250 156 [l0, .int x, l2, l3] S h = rn 250 157 [l0, .int x, l2, l3] (.int x :: S) h) ∧
  (∀ (l0 l1 l3 : Value) (x : Int32) (S : List Value) (h : zH), rn 250 157 [l0, l1, .int x, l3] S h = rn 250 158 [l0, l1, .int x, l3] (.int x :: S) h) ∧
  (∀ (l0 l1 l2 : Value) (x : Int32) (S : List Value) (h : zH), rn 250 158 [l0, l1, l2, .int x] S h = rn 250 159 [l0, l1, l2, .int x] (.int x :: S) h) ∧
  (∀ (l0 l1 l2 l3 : Value) (o : Nat) (v0 : Value) (v1 : Value) (v2 : Value) (S : List Value) (h : zH), rn 250 159 [l0, l1, l2, l3] (v2 :: v1 :: v0 :: .ref o :: S) h = if zkd h o = 12 ∧ zsum S ≤ 8 then zcall (ev 230 [.ref o, v0, v1, v2] h) (fun v h => rn 250 162 [l0, l1, l2, l3] (zpush v S) h) else none) ∧
  (∀ (l0 l1 l3 : Value) (x : Int32) (S : List Value) (h : zH), rn 250 162 [l0, l1, .int x, l3] S h = nl l1 (rn 250 165 [l0, l1, .int (x + (nI 1)), l3] S h)) ∧
  (∀ (l0 l1 l2 : Value) (x : Int32) (S : List Value) (h : zH), rn 250 165 [l0, l1, l2, .int x] S h = nl l2 (rn 250 168 [l0, l1, l2, .int (x + (nI 1))] S h)) ∧
  (∀ (l0 l1 l2 l3 : Value) (S : List Value) (h : zH), rn 250 168 [l0, l1, l2, l3] S h = rn 250 122 [l0, l1, l2, l3] S h) ∧
  (∀ (l1 l2 l3 : Value) (x : Nat) (S : List Value) (h : zH), rn 250 171 [.ref x, l1, l2, l3] S h = rn 250 172 [.ref x, l1, l2, l3] (.ref x :: S) h) ∧
  (∀ (l0 l1 l2 l3 : Value) (a : Nat) (S : List Value) (h : zH), rn 250 172 [l0, l1, l2, l3] (.ref a :: S) h = zgf h a 12 0 fun v => rn 250 175 [l0, l1, l2, l3] (v :: S) h) ∧
  (∀ (l0 l2 l3 : Value) (x : Int32) (S : List Value) (h : zH), rn 250 175 [l0, .int x, l2, l3] S h = rn 250 176 [l0, .int x, l2, l3] (.int x :: S) h) ∧
  (∀ (l0 l1 l2 l3 : Value) (S : List Value) (h : zH), rn 250 176 [l0, l1, l2, l3] S h = rn 250 179 [l0, l1, l2, l3] (.int (nI 134) :: S) h) ∧
  (∀ (l0 l1 l2 l3 : Value) (v0 : Value) (v1 : Value) (S : List Value) (h : zH), rn 250 179 [l0, l1, l2, l3] (v1 :: v0 :: S) h = if zsum S ≤ 8 then zcall (ev 208 [v0, v1] h) (fun v h => rn 250 182 [l0, l1, l2, l3] (zpush v S) h) else none) ∧
  (∀ (l0 l1 l3 : Value) (x : Int32) (S : List Value) (h : zH), rn 250 182 [l0, l1, .int x, l3] S h = rn 250 183 [l0, l1, .int x, l3] (.int x :: S) h) ∧
  (∀ (l0 l1 l2 l3 : Value) (x : Int32) (S : List Value) (h : zH), rn 250 183 [l0, l1, l2, l3] (.int x :: S) h = rn 250 184 [l0, l1, l2, l3] (.long x.toInt64 :: S) h) ∧
  (∀ (l0 l1 l2 l3 : Value) (a : Nat) (j : Int32) (x : Int64) (S : List Value) (h : zH), rn 250 184 [l0, l1, l2, l3] (.long x :: .int j :: .ref a :: S) h = zsj h a j x fun h => rn 250 185 [l0, l1, l2, l3] S h) ∧
  (∀ (l0 l2 l3 : Value) (x : Int32) (S : List Value) (h : zH), rn 250 185 [l0, .int x, l2, l3] S h = nl l0 (rn 250 188 [l0, .int (x + (nI 1)), l2, l3] S h)) ∧
  (∀ (l0 l1 l2 l3 : Value) (S : List Value) (h : zH), rn 250 188 [l0, l1, l2, l3] S h = rn 250 35 [l0, l1, l2, l3] S h) ∧
  (∀ (l1 l2 l3 : Value) (x : Nat) (S : List Value) (h : zH), rn 250 191 [.ref x, l1, l2, l3] S h = rn 250 192 [.ref x, l1, l2, l3] (.ref x :: S) h) ∧
  (∀ (l0 l1 l2 l3 : Value) (a : Nat) (S : List Value) (h : zH), rn 250 192 [l0, l1, l2, l3] (.ref a :: S) h = zgf h a 12 0 fun v => rn 250 195 [l0, l1, l2, l3] (v :: S) h) ∧
  (∀ (l0 l1 l2 l3 : Value) (S : List Value) (h : zH), rn 250 195 [l0, l1, l2, l3] S h = rn 250 196 [l0, l1, l2, l3] (.int (nI 1) :: S) h) ∧
  (∀ (l0 l1 l2 l3 : Value) (a : Nat) (j : Int32) (S : List Value) (h : zH), rn 250 196 [l0, l1, l2, l3] (.int j :: .ref a :: S) h = zlj h a j fun x => rn 250 197 [l0, l1, l2, l3] (.long x :: S) h) ∧
  (∀ (l0 l1 l2 l3 : Value) (x : Int64) (S : List Value) (h : zH), rn 250 197 [l0, l1, l2, l3] (.long x :: S) h = rn 250 198 [l0, l1, l2, l3] (.int x.toInt32 :: S) h) ∧
  (∀ (l0 l1 l2 l3 : Value) (x : Int32) (h : zH), rn 250 198 [l0, l1, l2, l3] [.int x] h = some (some (.int x), h)) := ⟨fun _ _ _ _ _ _ => r_aload_nr (show zdec 250 0 = some (.aload_n 0, 1) by decide +kernel) rfl rfl,
  fun _ _ _ _ _ _ _ => r_cV [] rfl (show zdec 250 1 = some (.invokevirtual 164, 3) by decide +kernel) (show zst.lookup (250 * zKEY + 164) = some (1, 233, 0, 12) by decide +kernel) (by decide) rfl,
  fun _ _ _ _ _ _ => r_bipush (show zdec 250 4 = some (.bipush 12, 2) by decide +kernel) rfl rfl,
  fun _ _ _ _ _ _ _ _ => r_icmpge (show zdec 250 6 = some (.if_icmp .ge 6, 3) by decide +kernel) rfl rfl,
  fun _ _ _ _ _ _ => r_bipush (show zdec 250 9 = some (.bipush (-2), 2) by decide +kernel) rfl rfl,
  fun _ _ _ _ _ _ => r_ireti (show zdec 250 11 = some (.ireturn, 1) by decide +kernel) (by decide +kernel),
  fun _ _ _ _ _ _ => r_aload_nr (show zdec 250 12 = some (.aload_n 0, 1) by decide +kernel) rfl rfl,
  fun _ _ _ _ _ _ _ => r_cV [] rfl (show zdec 250 13 = some (.invokevirtual 68, 3) by decide +kernel) (show zst.lookup (250 * zKEY + 68) = some (1, 214, 0, 12) by decide +kernel) (by decide) rfl,
  fun _ _ _ _ _ _ => r_aload_nr (show zdec 250 16 = some (.aload_n 0, 1) by decide +kernel) rfl rfl,
  fun _ _ _ _ _ _ _ => r_getfield (show zdec 250 17 = some (.getfield 9, 3) by decide +kernel) (show zft.lookup (250 * zKEY + 9) = some (12, 0) by decide +kernel) rfl,
  fun _ _ _ _ _ _ => r_iconst (show zdec 250 20 = some (.iconst 0, 1) by decide +kernel) rfl rfl,
  fun _ _ _ _ _ _ => r_lconst (show zdec 250 21 = some (.lconst 0, 1) by decide +kernel) rfl rfl,
  fun _ _ _ _ _ _ _ _ _ => r_last (show zdec 250 22 = some (.lastore, 1) by decide +kernel) rfl,
  fun _ _ _ _ _ _ => r_aload_nr (show zdec 250 23 = some (.aload_n 0, 1) by decide +kernel) rfl rfl,
  fun _ _ _ _ _ _ _ => r_getfield (show zdec 250 24 = some (.getfield 9, 3) by decide +kernel) (show zft.lookup (250 * zKEY + 9) = some (12, 0) by decide +kernel) rfl,
  fun _ _ _ _ _ _ => r_iconst (show zdec 250 27 = some (.iconst 1, 1) by decide +kernel) rfl rfl,
  fun _ _ _ _ _ _ _ _ => r_dup2 (show zdec 250 28 = some (.dup2, 1) by decide +kernel) rfl,
  fun _ _ _ _ _ _ _ _ => r_lald (show zdec 250 29 = some (.laload, 1) by decide +kernel) rfl,
  fun _ _ _ _ _ _ => r_lconst (show zdec 250 30 = some (.lconst 1, 1) by decide +kernel) rfl rfl,
  fun _ _ _ _ _ _ _ _ => r_ladd (show zdec 250 31 = some (.ladd, 1) by decide +kernel) rfl,
  fun _ _ _ _ _ _ _ _ _ => r_last (show zdec 250 32 = some (.lastore, 1) by decide +kernel) rfl,
  fun _ _ _ _ _ _ => r_iconst (show zdec 250 33 = some (.iconst 0, 1) by decide +kernel) rfl rfl,
  fun _ _ _ _ _ _ _ => r_istore_n (show zdec 250 34 = some (.istore_n 1, 1) by decide +kernel) rfl rfl (Nat.le_of_ble_eq_true rfl) rfl rfl,
  fun _ _ _ _ _ _ => r_iconst (show zdec 250 36 = some (.iconst 3, 1) by decide +kernel) rfl rfl,
  fun _ _ _ _ _ _ _ _ => r_icmpge (show zdec 250 37 = some (.if_icmp .ge 154, 3) by decide +kernel) rfl rfl,
  fun _ _ _ _ _ _ => r_iconst (show zdec 250 40 = some (.iconst 0, 1) by decide +kernel) rfl rfl,
  fun _ _ _ _ _ _ _ => r_istore_n (show zdec 250 41 = some (.istore_n 2, 1) by decide +kernel) rfl rfl (Nat.le_of_ble_eq_true rfl) rfl rfl,
  fun _ _ _ _ _ _ => r_bipush (show zdec 250 43 = some (.bipush 12, 2) by decide +kernel) rfl rfl,
  fun _ _ _ _ _ _ _ _ => r_icmpge (show zdec 250 45 = some (.if_icmp .ge 73, 3) by decide +kernel) rfl rfl,
  fun _ _ _ _ _ _ => r_aload_nr (show zdec 250 48 = some (.aload_n 0, 1) by decide +kernel) rfl rfl,
  fun _ _ _ _ _ _ _ => r_getfield (show zdec 250 49 = some (.getfield 9, 3) by decide +kernel) (show zft.lookup (250 * zKEY + 9) = some (12, 0) by decide +kernel) rfl,
  fun _ _ _ _ _ _ => r_iload_n (show zdec 250 52 = some (.iload_n 1, 1) by decide +kernel) rfl rfl,
  fun _ _ _ _ _ _ => r_iconst (show zdec 250 53 = some (.iconst 2, 1) by decide +kernel) rfl rfl,
  fun _ _ _ _ _ _ => r_iload_n (show zdec 250 54 = some (.iload_n 2, 1) by decide +kernel) rfl rfl,
  fun _ _ _ _ _ _ _ _ => r_iadd (show zdec 250 55 = some (.iadd, 1) by decide +kernel) rfl,
  fun _ _ _ _ _ _ _ _ => r_cS [_, _] rfl (show zdec 250 56 = some (.invokestatic 39, 3) by decide +kernel) (show zst.lookup (250 * zKEY + 39) = some (0, 208, 2, 0) by decide +kernel) (by decide) rfl,
  fun _ _ _ _ _ _ => r_aload_nr (show zdec 250 59 = some (.aload_n 0, 1) by decide +kernel) rfl rfl,
  fun _ _ _ _ _ _ => r_iload_n (show zdec 250 60 = some (.iload_n 1, 1) by decide +kernel) rfl rfl,
  fun _ _ _ _ _ _ => r_bipush (show zdec 250 61 = some (.bipush 13, 2) by decide +kernel) rfl rfl,
  fun _ _ _ _ _ _ _ _ _ => r_cV [_, _] rfl (show zdec 250 63 = some (.invokevirtual 85, 3) by decide +kernel) (show zst.lookup (250 * zKEY + 85) = some (1, 226, 2, 12) by decide +kernel) (by decide) rfl,
  fun _ _ _ _ _ _ _ _ _ => r_last (show zdec 250 66 = some (.lastore, 1) by decide +kernel) rfl,
  fun _ _ _ _ _ _ => r_aload_nr (show zdec 250 67 = some (.aload_n 0, 1) by decide +kernel) rfl rfl,
  fun _ _ _ _ _ _ _ => r_getfield (show zdec 250 68 = some (.getfield 9, 3) by decide +kernel) (show zft.lookup (250 * zKEY + 9) = some (12, 0) by decide +kernel) rfl,
  fun _ _ _ _ _ _ => r_iload_n (show zdec 250 71 = some (.iload_n 1, 1) by decide +kernel) rfl rfl,
  fun _ _ _ _ _ _ => r_bipush (show zdec 250 72 = some (.bipush 14, 2) by decide +kernel) rfl rfl,
  fun _ _ _ _ _ _ => r_iload_n (show zdec 250 74 = some (.iload_n 2, 1) by decide +kernel) rfl rfl,
  fun _ _ _ _ _ _ _ _ => r_iadd (show zdec 250 75 = some (.iadd, 1) by decide +kernel) rfl,
  fun _ _ _ _ _ _ _ _ => r_cS [_, _] rfl (show zdec 250 76 = some (.invokestatic 39, 3) by decide +kernel) (show zst.lookup (250 * zKEY + 39) = some (0, 208, 2, 0) by decide +kernel) (by decide) rfl,
  fun _ _ _ _ _ _ => r_ldc2 (show zdec 250 79 = some (.ldc2_w 43, 3) by decide +kernel) (show zlt.lookup (250 * zKEY + 43) = some 30 by decide +kernel) rfl,
  fun _ _ _ _ _ _ _ _ _ => r_last (show zdec 250 82 = some (.lastore, 1) by decide +kernel) rfl,
  fun _ _ _ _ _ _ => r_aload_nr (show zdec 250 83 = some (.aload_n 0, 1) by decide +kernel) rfl rfl,
  fun _ _ _ _ _ _ _ => r_getfield (show zdec 250 84 = some (.getfield 9, 3) by decide +kernel) (show zft.lookup (250 * zKEY + 9) = some (12, 0) by decide +kernel) rfl,
  fun _ _ _ _ _ _ => r_iload_n (show zdec 250 87 = some (.iload_n 1, 1) by decide +kernel) rfl rfl,
  fun _ _ _ _ _ _ => r_bipush (show zdec 250 88 = some (.bipush 26, 2) by decide +kernel) rfl rfl,
  fun _ _ _ _ _ _ => r_iload_n (show zdec 250 90 = some (.iload_n 2, 1) by decide +kernel) rfl rfl,
  fun _ _ _ _ _ _ _ _ => r_iadd (show zdec 250 91 = some (.iadd, 1) by decide +kernel) rfl,
  fun _ _ _ _ _ _ _ _ => r_cS [_, _] rfl (show zdec 250 92 = some (.invokestatic 39, 3) by decide +kernel) (show zst.lookup (250 * zKEY + 39) = some (0, 208, 2, 0) by decide +kernel) (by decide) rfl,
  fun _ _ _ _ _ _ => r_lconst (show zdec 250 95 = some (.lconst 0, 1) by decide +kernel) rfl rfl,
  fun _ _ _ _ _ _ _ _ _ => r_last (show zdec 250 96 = some (.lastore, 1) by decide +kernel) rfl,
  fun _ _ _ _ _ _ => r_aload_nr (show zdec 250 97 = some (.aload_n 0, 1) by decide +kernel) rfl rfl,
  fun _ _ _ _ _ _ _ => r_getfield (show zdec 250 98 = some (.getfield 9, 3) by decide +kernel) (show zft.lookup (250 * zKEY + 9) = some (12, 0) by decide +kernel) rfl,
  fun _ _ _ _ _ _ => r_iload_n (show zdec 250 101 = some (.iload_n 1, 1) by decide +kernel) rfl rfl,
  fun _ _ _ _ _ _ => r_sipush (show zdec 250 102 = some (.sipush 147, 3) by decide +kernel) rfl rfl,
  fun _ _ _ _ _ _ => r_iload_n (show zdec 250 105 = some (.iload_n 2, 1) by decide +kernel) rfl rfl,
  fun _ _ _ _ _ _ _ _ => r_iadd (show zdec 250 106 = some (.iadd, 1) by decide +kernel) rfl,
  fun _ _ _ _ _ _ _ _ => r_cS [_, _] rfl (show zdec 250 107 = some (.invokestatic 39, 3) by decide +kernel) (show zst.lookup (250 * zKEY + 39) = some (0, 208, 2, 0) by decide +kernel) (by decide) rfl,
  fun _ _ _ _ _ _ => r_lconst (show zdec 250 110 = some (.lconst 0, 1) by decide +kernel) rfl rfl,
  fun _ _ _ _ _ _ _ _ _ => r_last (show zdec 250 111 = some (.lastore, 1) by decide +kernel) rfl,
  fun _ _ _ _ _ _ => r_iinc (show zdec 250 112 = some (.iinc 2 1, 3) by decide +kernel) rfl rfl rfl (Nat.le_of_ble_eq_true rfl) rfl rfl,
  fun _ _ _ _ _ _ => r_goto (show zdec 250 115 = some (.goto (-73), 3) by decide +kernel) rfl,
  fun _ _ _ _ _ _ => r_iconst (show zdec 250 118 = some (.iconst 0, 1) by decide +kernel) rfl rfl,
  fun _ _ _ _ _ _ _ => r_istore_n (show zdec 250 119 = some (.istore_n 2, 1) by decide +kernel) rfl rfl (Nat.le_of_ble_eq_true rfl) rfl rfl,
  fun _ _ _ _ _ _ => r_iconst (show zdec 250 120 = some (.iconst 0, 1) by decide +kernel) rfl rfl,
  fun _ _ _ _ _ _ _ => r_istore_n (show zdec 250 121 = some (.istore_n 3, 1) by decide +kernel) rfl rfl (Nat.le_of_ble_eq_true rfl) rfl rfl,
  fun _ _ _ _ _ _ _ => r_i2l (show zdec 250 123 = some (.i2l, 1) by decide +kernel) rfl,
  fun _ _ _ _ _ _ => r_aload_nr (show zdec 250 124 = some (.aload_n 0, 1) by decide +kernel) rfl rfl,
  fun _ _ _ _ _ _ => r_iload_n (show zdec 250 125 = some (.iload_n 1, 1) by decide +kernel) rfl rfl,
  fun _ _ _ _ _ _ => r_sipush (show zdec 250 126 = some (.sipush 134, 3) by decide +kernel) rfl rfl,
  fun _ _ _ _ _ _ _ _ _ => r_cV [_, _] rfl (show zdec 250 129 = some (.invokevirtual 85, 3) by decide +kernel) (show zst.lookup (250 * zKEY + 85) = some (1, 226, 2, 12) by decide +kernel) (by decide) rfl,
  fun _ _ _ _ _ _ _ _ => r_lcmp (show zdec 250 132 = some (.lcmp, 1) by decide +kernel) rfl,
  fun _ _ _ _ _ _ _ => r_ifge (show zdec 250 133 = some (.ifCond .ge 38, 3) by decide +kernel) rfl rfl,
  fun _ _ _ _ _ _ => r_aload_nr (show zdec 250 136 = some (.aload_n 0, 1) by decide +kernel) rfl rfl,
  fun _ _ _ _ _ _ => r_iload_n (show zdec 250 137 = some (.iload_n 1, 1) by decide +kernel) rfl rfl,
  fun _ _ _ _ _ _ => r_sipush (show zdec 250 138 = some (.sipush 135, 3) by decide +kernel) rfl rfl,
  fun _ _ _ _ _ _ => r_iconst (show zdec 250 141 = some (.iconst 4, 1) by decide +kernel) rfl rfl,
  fun _ _ _ _ _ _ => r_iload_n (show zdec 250 142 = some (.iload_n 3, 1) by decide +kernel) rfl rfl,
  fun _ _ _ _ _ _ _ _ => r_imul (show zdec 250 143 = some (.imul, 1) by decide +kernel) rfl,
  fun _ _ _ _ _ _ _ _ => r_iadd (show zdec 250 144 = some (.iadd, 1) by decide +kernel) rfl,
  fun _ _ _ _ _ _ => r_iconst (show zdec 250 145 = some (.iconst 3, 1) by decide +kernel) rfl rfl,
  fun _ _ _ _ _ _ _ _ => r_iadd (show zdec 250 146 = some (.iadd, 1) by decide +kernel) rfl,
  fun _ _ _ _ _ _ _ _ _ => r_cV [_, _] rfl (show zdec 250 147 = some (.invokevirtual 85, 3) by decide +kernel) (show zst.lookup (250 * zKEY + 85) = some (1, 226, 2, 12) by decide +kernel) (by decide) rfl,
  fun _ _ _ _ _ _ => r_lconst (show zdec 250 150 = some (.lconst 0, 1) by decide +kernel) rfl rfl,
  fun _ _ _ _ _ _ _ _ => r_lcmp (show zdec 250 151 = some (.lcmp, 1) by decide +kernel) rfl,
  fun _ _ _ _ _ _ _ => r_ifle (show zdec 250 152 = some (.ifCond .le 13, 3) by decide +kernel) rfl rfl,
  fun _ _ _ _ _ _ => r_aload_nr (show zdec 250 155 = some (.aload_n 0, 1) by decide +kernel) rfl rfl,
  fun _ _ _ _ _ _ => r_iload_n (show zdec 250 156 = some (.iload_n 1, 1) by decide +kernel) rfl rfl,
  fun _ _ _ _ _ _ => r_iload_n (show zdec 250 157 = some (.iload_n 2, 1) by decide +kernel) rfl rfl,
  fun _ _ _ _ _ _ => r_iload_n (show zdec 250 158 = some (.iload_n 3, 1) by decide +kernel) rfl rfl,
  fun _ _ _ _ _ _ _ _ _ _ => r_cV [_, _, _] rfl (show zdec 250 159 = some (.invokevirtual 99, 3) by decide +kernel) (show zst.lookup (250 * zKEY + 99) = some (1, 230, 3, 12) by decide +kernel) (by decide) rfl,
  fun _ _ _ _ _ _ => r_iinc (show zdec 250 162 = some (.iinc 2 1, 3) by decide +kernel) rfl rfl rfl (Nat.le_of_ble_eq_true rfl) rfl rfl,
  fun _ _ _ _ _ _ => r_iinc (show zdec 250 165 = some (.iinc 3 1, 3) by decide +kernel) rfl rfl rfl (Nat.le_of_ble_eq_true rfl) rfl rfl,
  fun _ _ _ _ _ _ => r_goto (show zdec 250 168 = some (.goto (-46), 3) by decide +kernel) rfl,
  fun _ _ _ _ _ _ => r_aload_nr (show zdec 250 171 = some (.aload_n 0, 1) by decide +kernel) rfl rfl,
  fun _ _ _ _ _ _ _ => r_getfield (show zdec 250 172 = some (.getfield 9, 3) by decide +kernel) (show zft.lookup (250 * zKEY + 9) = some (12, 0) by decide +kernel) rfl,
  fun _ _ _ _ _ _ => r_iload_n (show zdec 250 175 = some (.iload_n 1, 1) by decide +kernel) rfl rfl,
  fun _ _ _ _ _ _ => r_sipush (show zdec 250 176 = some (.sipush 134, 3) by decide +kernel) rfl rfl,
  fun _ _ _ _ _ _ _ _ => r_cS [_, _] rfl (show zdec 250 179 = some (.invokestatic 39, 3) by decide +kernel) (show zst.lookup (250 * zKEY + 39) = some (0, 208, 2, 0) by decide +kernel) (by decide) rfl,
  fun _ _ _ _ _ _ => r_iload_n (show zdec 250 182 = some (.iload_n 2, 1) by decide +kernel) rfl rfl,
  fun _ _ _ _ _ _ _ => r_i2l (show zdec 250 183 = some (.i2l, 1) by decide +kernel) rfl,
  fun _ _ _ _ _ _ _ _ _ => r_last (show zdec 250 184 = some (.lastore, 1) by decide +kernel) rfl,
  fun _ _ _ _ _ _ => r_iinc (show zdec 250 185 = some (.iinc 1 1, 3) by decide +kernel) rfl rfl rfl (Nat.le_of_ble_eq_true rfl) rfl rfl,
  fun _ _ _ _ _ _ => r_goto (show zdec 250 188 = some (.goto (-153), 3) by decide +kernel) rfl,
  fun _ _ _ _ _ _ => r_aload_nr (show zdec 250 191 = some (.aload_n 0, 1) by decide +kernel) rfl rfl,
  fun _ _ _ _ _ _ _ => r_getfield (show zdec 250 192 = some (.getfield 9, 3) by decide +kernel) (show zft.lookup (250 * zKEY + 9) = some (12, 0) by decide +kernel) rfl,
  fun _ _ _ _ _ _ => r_iconst (show zdec 250 195 = some (.iconst 1, 1) by decide +kernel) rfl rfl,
  fun _ _ _ _ _ _ _ _ => r_lald (show zdec 250 196 = some (.laload, 1) by decide +kernel) rfl,
  fun _ _ _ _ _ _ _ => r_l2i (show zdec 250 197 = some (.l2i, 1) by decide +kernel) rfl,
  fun _ _ _ _ _ _ => r_ireti (show zdec 250 198 = some (.ireturn, 1) by decide +kernel) (by decide +kernel)⟩
theorem zl_250_35 : ∀ (l0 l2 l3 : Value) (x : Int32) (S : List Value) (h : zH), rn 250 35 [l0, .int x, l2, l3] S h = rn 250 36 [l0, .int x, l2, l3] (.int x :: S) h := fun _ _ _ _ _ _ => r_iload_n (show zdec 250 35 = some (.iload_n 1, 1) by decide +kernel) rfl rfl
theorem zl_250_42 : ∀ (l0 l1 l3 : Value) (x : Int32) (S : List Value) (h : zH), rn 250 42 [l0, l1, .int x, l3] S h = rn 250 43 [l0, l1, .int x, l3] (.int x :: S) h := fun _ _ _ _ _ _ => r_iload_n (show zdec 250 42 = some (.iload_n 2, 1) by decide +kernel) rfl rfl
theorem zl_250_122 : ∀ (l0 l1 l2 : Value) (x : Int32) (S : List Value) (h : zH), rn 250 122 [l0, l1, l2, .int x] S h = rn 250 123 [l0, l1, l2, .int x] (.int x :: S) h := fun _ _ _ _ _ _ => r_iload_n (show zdec 250 122 = some (.iload_n 3, 1) by decide +kernel) rfl rfl
theorem ze_250 : ∀ (a0 : Nat) (h : zH), ev 250 [.ref a0] h = rn 250 0 [.ref a0, .float 0, .float 0, .float 0] [] h := fun _ _ => if_pos (Nat.le_of_ble_eq_true rfl)
-- PayrollRunModel.closed()I
theorem zr_251 : (∀ (x : Nat) (S : List Value) (h : zH), rn 251 0 [.ref x] S h = rn 251 1 [.ref x] (.ref x :: S) h) ∧
  (∀ (l0 : Value) (o : Nat) (S : List Value) (h : zH), rn 251 1 [l0] (.ref o :: S) h = if zkd h o = 12 ∧ zsum S ≤ 8 then zcall (ev 233 [.ref o] h) (fun v h => rn 251 4 [l0] (zpush v S) h) else none) ∧
  (∀ (l0 : Value) (x : Int32) (h : zH), rn 251 4 [l0] [.int x] h = some (some (.int x), h)) := ⟨fun _ _ _ => r_aload_nr (show zdec 251 0 = some (.aload_n 0, 1) by decide +kernel) rfl rfl,
  fun _ _ _ _ => r_cV [] rfl (show zdec 251 1 = some (.invokevirtual 164, 3) by decide +kernel) (show zst.lookup (251 * zKEY + 164) = some (1, 233, 0, 12) by decide +kernel) (by decide) rfl,
  fun _ _ _ => r_ireti (show zdec 251 4 = some (.ireturn, 1) by decide +kernel) (by decide +kernel)⟩
theorem ze_251 : ∀ (a0 : Nat) (h : zH), ev 251 [.ref a0] h = rn 251 0 [.ref a0] [] h := fun _ _ => if_pos (Nat.le_of_ble_eq_true rfl)
-- PayrollRunModel.data(III)I
theorem zr_252 : (∀ (l0 l2 l3 : Value) (x : Int32) (S : List Value) (h : zH), rn 252 0 [l0, .int x, l2, l3] S h = rn 252 1 [l0, .int x, l2, l3] (.int x :: S) h) ∧
  (∀ (l0 l1 l2 l3 : Value) (v0 : Value) (S : List Value) (h : zH), rn 252 1 [l0, l1, l2, l3] (v0 :: S) h = if zsum S ≤ 8 then zcall (ev 210 [v0] h) (fun v h => rn 252 4 [l0, l1, l2, l3] (zpush v S) h) else none) ∧
  (∀ (l0 l1 l2 l3 : Value) (x : Int32) (S : List Value) (h : zH), rn 252 4 [l0, l1, l2, l3] (.int x :: S) h = if x = nI 0 then rn 252 40 [l0, l1, l2, l3] S h else rn 252 7 [l0, l1, l2, l3] S h) ∧
  (∀ (l0 l1 l3 : Value) (x : Int32) (S : List Value) (h : zH), rn 252 7 [l0, l1, .int x, l3] S h = rn 252 8 [l0, l1, .int x, l3] (.int x :: S) h) ∧
  (∀ (l0 l1 l2 l3 : Value) (v0 : Value) (S : List Value) (h : zH), rn 252 8 [l0, l1, l2, l3] (v0 :: S) h = if zsum S ≤ 8 then zcall (ev 212 [v0] h) (fun v h => rn 252 11 [l0, l1, l2, l3] (zpush v S) h) else none) ∧
  (∀ (l0 l1 l2 l3 : Value) (x : Int32) (S : List Value) (h : zH), rn 252 11 [l0, l1, l2, l3] (.int x :: S) h = if x = nI 0 then rn 252 40 [l0, l1, l2, l3] S h else rn 252 14 [l0, l1, l2, l3] S h) ∧
  (∀ (l0 l1 l2 : Value) (x : Int32) (S : List Value) (h : zH), rn 252 14 [l0, l1, l2, .int x] S h = rn 252 15 [l0, l1, l2, .int x] (.int x :: S) h) ∧
  (∀ (l0 l1 l2 l3 : Value) (S : List Value) (h : zH), rn 252 15 [l0, l1, l2, l3] S h = rn 252 16 [l0, l1, l2, l3] (.int (nI 0) :: S) h) ∧
  (∀ (l0 l1 l2 l3 : Value) (S : List Value) (h : zH), rn 252 16 [l0, l1, l2, l3] S h = rn 252 17 [l0, l1, l2, l3] (.int (nI 2) :: S) h) ∧
  (∀ (l0 l1 l2 l3 : Value) (v0 : Value) (v1 : Value) (v2 : Value) (S : List Value) (h : zH), rn 252 17 [l0, l1, l2, l3] (v2 :: v1 :: v0 :: S) h = if zsum S ≤ 8 then zcall (ev 211 [v0, v1, v2] h) (fun v h => rn 252 20 [l0, l1, l2, l3] (zpush v S) h) else none) ∧
  (∀ (l0 l1 l2 l3 : Value) (x : Int32) (S : List Value) (h : zH), rn 252 20 [l0, l1, l2, l3] (.int x :: S) h = if x = nI 0 then rn 252 40 [l0, l1, l2, l3] S h else rn 252 23 [l0, l1, l2, l3] S h) ∧
  (∀ (l1 l2 l3 : Value) (x : Nat) (S : List Value) (h : zH), rn 252 23 [.ref x, l1, l2, l3] S h = rn 252 24 [.ref x, l1, l2, l3] (.ref x :: S) h) ∧
  (∀ (l0 l2 l3 : Value) (x : Int32) (S : List Value) (h : zH), rn 252 24 [l0, .int x, l2, l3] S h = rn 252 25 [l0, .int x, l2, l3] (.int x :: S) h) ∧
  (∀ (l0 l1 l2 l3 : Value) (S : List Value) (h : zH), rn 252 25 [l0, l1, l2, l3] S h = rn 252 26 [l0, l1, l2, l3] (.int (nI 2) :: S) h) ∧
  (∀ (l0 l1 l2 l3 : Value) (S : List Value) (h : zH), rn 252 26 [l0, l1, l2, l3] S h = rn 252 28 [l0, l1, l2, l3] (.int (nI 12) :: S) h) ∧
  (∀ (l0 l1 l2 : Value) (x : Int32) (S : List Value) (h : zH), rn 252 28 [l0, l1, l2, .int x] S h = rn 252 29 [l0, l1, l2, .int x] (.int x :: S) h) ∧
  (∀ (l0 l1 l2 l3 : Value) (x : Int32) (y : Int32) (S : List Value) (h : zH), rn 252 29 [l0, l1, l2, l3] (.int y :: .int x :: S) h = rn 252 30 [l0, l1, l2, l3] (.int (x * y) :: S) h) ∧
  (∀ (l0 l1 l2 l3 : Value) (x : Int32) (y : Int32) (S : List Value) (h : zH), rn 252 30 [l0, l1, l2, l3] (.int y :: .int x :: S) h = rn 252 31 [l0, l1, l2, l3] (.int (x + y) :: S) h) ∧
  (∀ (l0 l1 l3 : Value) (x : Int32) (S : List Value) (h : zH), rn 252 31 [l0, l1, .int x, l3] S h = rn 252 32 [l0, l1, .int x, l3] (.int x :: S) h) ∧
  (∀ (l0 l1 l2 l3 : Value) (x : Int32) (y : Int32) (S : List Value) (h : zH), rn 252 32 [l0, l1, l2, l3] (.int y :: .int x :: S) h = rn 252 33 [l0, l1, l2, l3] (.int (x + y) :: S) h) ∧
  (∀ (l0 l1 l2 l3 : Value) (o : Nat) (v0 : Value) (v1 : Value) (S : List Value) (h : zH), rn 252 33 [l0, l1, l2, l3] (v1 :: v0 :: .ref o :: S) h = if zkd h o = 12 ∧ zsum S ≤ 8 then zcall (ev 226 [.ref o, v0, v1] h) (fun v h => rn 252 36 [l0, l1, l2, l3] (zpush v S) h) else none) ∧
  (∀ (l0 l1 l2 l3 : Value) (x : Int64) (S : List Value) (h : zH), rn 252 36 [l0, l1, l2, l3] (.long x :: S) h = rn 252 37 [l0, l1, l2, l3] (.int x.toInt32 :: S) h) ∧
  (∀ (l0 l1 l2 l3 : Value) (S : List Value) (h : zH), rn 252 37 [l0, l1, l2, l3] S h = rn 252 41 [l0, l1, l2, l3] S h) ∧
  (∀ (l0 l1 l2 l3 : Value) (S : List Value) (h : zH), rn 252 40 [l0, l1, l2, l3] S h = rn 252 41 [l0, l1, l2, l3] (.int (-1) :: S) h) ∧
  (∀ (l0 l1 l2 l3 : Value) (x : Int32) (h : zH), rn 252 41 [l0, l1, l2, l3] [.int x] h = some (some (.int x), h)) := ⟨fun _ _ _ _ _ _ => r_iload_n (show zdec 252 0 = some (.iload_n 1, 1) by decide +kernel) rfl rfl,
  fun _ _ _ _ _ _ _ => r_cS [_] rfl (show zdec 252 1 = some (.invokestatic 71, 3) by decide +kernel) (show zst.lookup (252 * zKEY + 71) = some (0, 210, 1, 0) by decide +kernel) (by decide) rfl,
  fun _ _ _ _ _ _ _ => r_ifeq (show zdec 252 4 = some (.ifCond .eq 36, 3) by decide +kernel) rfl rfl,
  fun _ _ _ _ _ _ => r_iload_n (show zdec 252 7 = some (.iload_n 2, 1) by decide +kernel) rfl rfl,
  fun _ _ _ _ _ _ _ => r_cS [_] rfl (show zdec 252 8 = some (.invokestatic 75, 3) by decide +kernel) (show zst.lookup (252 * zKEY + 75) = some (0, 212, 1, 0) by decide +kernel) (by decide) rfl,
  fun _ _ _ _ _ _ _ => r_ifeq (show zdec 252 11 = some (.ifCond .eq 29, 3) by decide +kernel) rfl rfl,
  fun _ _ _ _ _ _ => r_iload_n (show zdec 252 14 = some (.iload_n 3, 1) by decide +kernel) rfl rfl,
  fun _ _ _ _ _ _ => r_iconst (show zdec 252 15 = some (.iconst 0, 1) by decide +kernel) rfl rfl,
  fun _ _ _ _ _ _ => r_iconst (show zdec 252 16 = some (.iconst 2, 1) by decide +kernel) rfl rfl,
  fun _ _ _ _ _ _ _ _ _ => r_cS [_, _, _] rfl (show zdec 252 17 = some (.invokestatic 45, 3) by decide +kernel) (show zst.lookup (252 * zKEY + 45) = some (0, 211, 3, 0) by decide +kernel) (by decide) rfl,
  fun _ _ _ _ _ _ _ => r_ifeq (show zdec 252 20 = some (.ifCond .eq 20, 3) by decide +kernel) rfl rfl,
  fun _ _ _ _ _ _ => r_aload_nr (show zdec 252 23 = some (.aload_n 0, 1) by decide +kernel) rfl rfl,
  fun _ _ _ _ _ _ => r_iload_n (show zdec 252 24 = some (.iload_n 1, 1) by decide +kernel) rfl rfl,
  fun _ _ _ _ _ _ => r_iconst (show zdec 252 25 = some (.iconst 2, 1) by decide +kernel) rfl rfl,
  fun _ _ _ _ _ _ => r_bipush (show zdec 252 26 = some (.bipush 12, 2) by decide +kernel) rfl rfl,
  fun _ _ _ _ _ _ => r_iload_n (show zdec 252 28 = some (.iload_n 3, 1) by decide +kernel) rfl rfl,
  fun _ _ _ _ _ _ _ _ => r_imul (show zdec 252 29 = some (.imul, 1) by decide +kernel) rfl,
  fun _ _ _ _ _ _ _ _ => r_iadd (show zdec 252 30 = some (.iadd, 1) by decide +kernel) rfl,
  fun _ _ _ _ _ _ => r_iload_n (show zdec 252 31 = some (.iload_n 2, 1) by decide +kernel) rfl rfl,
  fun _ _ _ _ _ _ _ _ => r_iadd (show zdec 252 32 = some (.iadd, 1) by decide +kernel) rfl,
  fun _ _ _ _ _ _ _ _ _ => r_cV [_, _] rfl (show zdec 252 33 = some (.invokevirtual 85, 3) by decide +kernel) (show zst.lookup (252 * zKEY + 85) = some (1, 226, 2, 12) by decide +kernel) (by decide) rfl,
  fun _ _ _ _ _ _ _ => r_l2i (show zdec 252 36 = some (.l2i, 1) by decide +kernel) rfl,
  fun _ _ _ _ _ _ => r_goto (show zdec 252 37 = some (.goto 4, 3) by decide +kernel) rfl,
  fun _ _ _ _ _ _ => r_iconst (show zdec 252 40 = some (.iconst (-1), 1) by decide +kernel) rfl rfl,
  fun _ _ _ _ _ _ => r_ireti (show zdec 252 41 = some (.ireturn, 1) by decide +kernel) (by decide +kernel)⟩
theorem ze_252 : ∀ (a0 : Nat) (a1 : Int32) (a2 : Int32) (a3 : Int32) (h : zH), ev 252 [.ref a0, .int a1, .int a2, .int a3] h = rn 252 0 [.ref a0, .int a1, .int a2, .int a3] [] h := fun _ _ _ _ _ => if_pos (Nat.le_of_ble_eq_true rfl)
-- PayrollRunModel.setting(II)I
theorem zr_253 : (∀ (l0 l2 l3 : Value) (x : Int32) (S : List Value) (h : zH), rn 253 0 [l0, .int x, l2, l3] S h = rn 253 1 [l0, .int x, l2, l3] (.int x :: S) h) ∧
  (∀ (l0 l1 l2 l3 : Value) (x : Int32) (S : List Value) (h : zH), rn 253 1 [l0, l1, l2, l3] (.int x :: S) h = if x = nI 0 then rn 253 4 [l0, l1, l2, l3] S h else rn 253 8 [l0, l1, l2, l3] S h) ∧
  (∀ (l0 l1 l2 l3 : Value) (S : List Value) (h : zH), rn 253 4 [l0, l1, l2, l3] S h = rn 253 5 [l0, l1, l2, l3] (.int (nI 3) :: S) h) ∧
  (∀ (l0 l1 l2 l3 : Value) (S : List Value) (h : zH), rn 253 5 [l0, l1, l2, l3] S h = rn 253 34 [l0, l1, l2, l3] S h) ∧
  (∀ (l0 l2 l3 : Value) (x : Int32) (S : List Value) (h : zH), rn 253 8 [l0, .int x, l2, l3] S h = rn 253 9 [l0, .int x, l2, l3] (.int x :: S) h) ∧
  (∀ (l0 l1 l2 l3 : Value) (S : List Value) (h : zH), rn 253 9 [l0, l1, l2, l3] S h = rn 253 10 [l0, l1, l2, l3] (.int (nI 3) :: S) h) ∧
  (∀ (l0 l1 l2 l3 : Value) (x : Int32) (y : Int32) (S : List Value) (h : zH), rn 253 10 [l0, l1, l2, l3] (.int y :: .int x :: S) h = if y ≤ x then rn 253 17 [l0, l1, l2, l3] S h else rn 253 13 [l0, l1, l2, l3] S h) ∧
  (∀ (l0 l1 l2 l3 : Value) (S : List Value) (h : zH), rn 253 13 [l0, l1, l2, l3] S h = rn 253 14 [l0, l1, l2, l3] (.int (nI 2) :: S) h) ∧
  (∀ (l0 l1 l2 l3 : Value) (S : List Value) (h : zH), rn 253 14 [l0, l1, l2, l3] S h = rn 253 34 [l0, l1, l2, l3] S h) ∧
  (∀ (l0 l2 l3 : Value) (x : Int32) (S : List Value) (h : zH), rn 253 17 [l0, .int x, l2, l3] S h = rn 253 18 [l0, .int x, l2, l3] (.int x :: S) h) ∧
  (∀ (l0 l1 l2 l3 : Value) (S : List Value) (h : zH), rn 253 18 [l0, l1, l2, l3] S h = rn 253 19 [l0, l1, l2, l3] (.int (nI 5) :: S) h) ∧
  (∀ (l0 l1 l2 l3 : Value) (x : Int32) (y : Int32) (S : List Value) (h : zH), rn 253 19 [l0, l1, l2, l3] (.int y :: .int x :: S) h = if y ≤ x then rn 253 33 [l0, l1, l2, l3] S h else rn 253 22 [l0, l1, l2, l3] S h) ∧
  (∀ (l1 l2 l3 : Value) (x : Nat) (S : List Value) (h : zH), rn 253 22 [.ref x, l1, l2, l3] S h = rn 253 23 [.ref x, l1, l2, l3] (.ref x :: S) h) ∧
  (∀ (l0 l1 l2 l3 : Value) (a : Nat) (S : List Value) (h : zH), rn 253 23 [l0, l1, l2, l3] (.ref a :: S) h = zgf h a 12 0 fun v => rn 253 26 [l0, l1, l2, l3] (v :: S) h) ∧
  (∀ (l0 l1 l2 l3 : Value) (S : List Value) (h : zH), rn 253 26 [l0, l1, l2, l3] S h = rn 253 28 [l0, l1, l2, l3] (.int (nI 7) :: S) h) ∧
  (∀ (l0 l1 l2 l3 : Value) (a : Nat) (j : Int32) (S : List Value) (h : zH), rn 253 28 [l0, l1, l2, l3] (.int j :: .ref a :: S) h = zlj h a j fun x => rn 253 29 [l0, l1, l2, l3] (.long x :: S) h) ∧
  (∀ (l0 l1 l2 l3 : Value) (x : Int64) (S : List Value) (h : zH), rn 253 29 [l0, l1, l2, l3] (.long x :: S) h = rn 253 30 [l0, l1, l2, l3] (.int x.toInt32 :: S) h) ∧
  (∀ (l0 l1 l2 l3 : Value) (S : List Value) (h : zH), rn 253 30 [l0, l1, l2, l3] S h = rn 253 34 [l0, l1, l2, l3] S h) ∧
  (∀ (l0 l1 l2 l3 : Value) (S : List Value) (h : zH), rn 253 33 [l0, l1, l2, l3] S h = rn 253 34 [l0, l1, l2, l3] (.int (nI 1) :: S) h) ∧
  (∀ (l0 l1 l2 l3 : Value) (x : Int32) (S : List Value) (h : zH), rn 253 34 [l0, l1, l2, l3] (.int x :: S) h = nl l2 (rn 253 35 [l0, l1, l2, .int x] S h)) ∧
  (∀ (l0 l2 l3 : Value) (x : Int32) (S : List Value) (h : zH), rn 253 35 [l0, .int x, l2, l3] S h = rn 253 36 [l0, .int x, l2, l3] (.int x :: S) h) ∧
  (∀ (l0 l1 l2 l3 : Value) (S : List Value) (h : zH), rn 253 36 [l0, l1, l2, l3] S h = rn 253 37 [l0, l1, l2, l3] (.int (nI 0) :: S) h) ∧
  (∀ (l0 l1 l2 l3 : Value) (S : List Value) (h : zH), rn 253 37 [l0, l1, l2, l3] S h = rn 253 38 [l0, l1, l2, l3] (.int (nI 5) :: S) h) ∧
  (∀ (l0 l1 l2 l3 : Value) (v0 : Value) (v1 : Value) (v2 : Value) (S : List Value) (h : zH), rn 253 38 [l0, l1, l2, l3] (v2 :: v1 :: v0 :: S) h = if zsum S ≤ 8 then zcall (ev 211 [v0, v1, v2] h) (fun v h => rn 253 41 [l0, l1, l2, l3] (zpush v S) h) else none) ∧
  (∀ (l0 l1 l2 l3 : Value) (x : Int32) (S : List Value) (h : zH), rn 253 41 [l0, l1, l2, l3] (.int x :: S) h = if x = nI 0 then rn 253 55 [l0, l1, l2, l3] S h else rn 253 44 [l0, l1, l2, l3] S h) ∧
  (∀ (l0 l1 l3 : Value) (x : Int32) (S : List Value) (h : zH), rn 253 44 [l0, l1, .int x, l3] S h = rn 253 45 [l0, l1, .int x, l3] (.int x :: S) h) ∧
  (∀ (l0 l1 l2 l3 : Value) (S : List Value) (h : zH), rn 253 45 [l0, l1, l2, l3] S h = rn 253 46 [l0, l1, l2, l3] (.int (nI 0) :: S) h) ∧
  (∀ (l0 l1 l2 : Value) (x : Int32) (S : List Value) (h : zH), rn 253 46 [l0, l1, l2, .int x] S h = rn 253 47 [l0, l1, l2, .int x] (.int x :: S) h) ∧
  (∀ (l0 l1 l2 l3 : Value) (S : List Value) (h : zH), rn 253 47 [l0, l1, l2, l3] S h = rn 253 48 [l0, l1, l2, l3] (.int (nI 1) :: S) h) ∧
  (∀ (l0 l1 l2 l3 : Value) (x : Int32) (y : Int32) (S : List Value) (h : zH), rn 253 48 [l0, l1, l2, l3] (.int y :: .int x :: S) h = rn 253 49 [l0, l1, l2, l3] (.int (x - y) :: S) h) ∧
  (∀ (l0 l1 l2 l3 : Value) (v0 : Value) (v1 : Value) (v2 : Value) (S : List Value) (h : zH), rn 253 49 [l0, l1, l2, l3] (v2 :: v1 :: v0 :: S) h = if zsum S ≤ 8 then zcall (ev 211 [v0, v1, v2] h) (fun v h => rn 253 52 [l0, l1, l2, l3] (zpush v S) h) else none) ∧
  (∀ (l0 l1 l2 l3 : Value) (x : Int32) (S : List Value) (h : zH), rn 253 52 [l0, l1, l2, l3] (.int x :: S) h = if x = nI 0 then rn 253 55 [l0, l1, l2, l3] S h else rn 253 57 [l0, l1, l2, l3] S h) ∧
  (∀ (l0 l1 l2 l3 : Value) (S : List Value) (h : zH), rn 253 55 [l0, l1, l2, l3] S h = rn 253 56 [l0, l1, l2, l3] (.int (-1) :: S) h) ∧
  (∀ (l0 l1 l2 l3 : Value) (x : Int32) (h : zH), rn 253 56 [l0, l1, l2, l3] [.int x] h = some (some (.int x), h)) ∧
  (∀ (l0 l2 l3 : Value) (x : Int32) (S : List Value) (h : zH), rn 253 57 [l0, .int x, l2, l3] S h = rn 253 58 [l0, .int x, l2, l3] (.int x :: S) h) ∧
  (∀ (l0 l1 l2 l3 : Value) (x : Int32) (S : List Value) (h : zH), rn 253 58 [l0, l1, l2, l3] (.int x :: S) h = if x = nI 0 then rn 253 92 [l0, l1, l2, l3] S h else if x = nI 1 then rn 253 100 [l0, l1, l2, l3] S h else if x = nI 2 then rn 253 110 [l0, l1, l2, l3] S h else if x = nI 3 then rn 253 120 [l0, l1, l2, l3] S h else if x = nI 4 then rn 253 131 [l0, l1, l2, l3] S h else rn 253 142 [l0, l1, l2, l3] S h) ∧
  (∀ (l1 l2 l3 : Value) (x : Nat) (S : List Value) (h : zH), rn 253 92 [.ref x, l1, l2, l3] S h = rn 253 93 [.ref x, l1, l2, l3] (.ref x :: S) h) ∧
  (∀ (l0 l1 l3 : Value) (x : Int32) (S : List Value) (h : zH), rn 253 93 [l0, l1, .int x, l3] S h = rn 253 94 [l0, l1, .int x, l3] (.int x :: S) h) ∧
  (∀ (l0 l1 l2 l3 : Value) (S : List Value) (h : zH), rn 253 94 [l0, l1, l2, l3] S h = rn 253 95 [l0, l1, l2, l3] (.int (nI 0) :: S) h) ∧
  (∀ (l0 l1 l2 l3 : Value) (o : Nat) (v0 : Value) (v1 : Value) (S : List Value) (h : zH), rn 253 95 [l0, l1, l2, l3] (v1 :: v0 :: .ref o :: S) h = if zkd h o = 12 ∧ zsum S ≤ 8 then zcall (ev 226 [.ref o, v0, v1] h) (fun v h => rn 253 98 [l0, l1, l2, l3] (zpush v S) h) else none) ∧
  (∀ (l0 l1 l2 l3 : Value) (x : Int64) (S : List Value) (h : zH), rn 253 98 [l0, l1, l2, l3] (.long x :: S) h = rn 253 99 [l0, l1, l2, l3] (.int x.toInt32 :: S) h) ∧
  (∀ (l0 l1 l2 l3 : Value) (x : Int32) (h : zH), rn 253 99 [l0, l1, l2, l3] [.int x] h = some (some (.int x), h)) ∧
  (∀ (l1 l2 l3 : Value) (x : Nat) (S : List Value) (h : zH), rn 253 100 [.ref x, l1, l2, l3] S h = rn 253 101 [.ref x, l1, l2, l3] (.ref x :: S) h) ∧
  (∀ (l0 l1 l2 l3 : Value) (a : Nat) (S : List Value) (h : zH), rn 253 101 [l0, l1, l2, l3] (.ref a :: S) h = zgf h a 12 0 fun v => rn 253 104 [l0, l1, l2, l3] (v :: S) h) ∧
  (∀ (l0 l1 l2 l3 : Value) (S : List Value) (h : zH), rn 253 104 [l0, l1, l2, l3] S h = rn 253 105 [l0, l1, l2, l3] (.int (nI 3) :: S) h) ∧
  (∀ (l0 l1 l3 : Value) (x : Int32) (S : List Value) (h : zH), rn 253 105 [l0, l1, .int x, l3] S h = rn 253 106 [l0, l1, .int x, l3] (.int x :: S) h) ∧
  (∀ (l0 l1 l2 l3 : Value) (x : Int32) (y : Int32) (S : List Value) (h : zH), rn 253 106 [l0, l1, l2, l3] (.int y :: .int x :: S) h = rn 253 107 [l0, l1, l2, l3] (.int (x + y) :: S) h) ∧
  (∀ (l0 l1 l2 l3 : Value) (a : Nat) (j : Int32) (S : List Value) (h : zH), rn 253 107 [l0, l1, l2, l3] (.int j :: .ref a :: S) h = zlj h a j fun x => rn 253 108 [l0, l1, l2, l3] (.long x :: S) h) ∧
  (∀ (l0 l1 l2 l3 : Value) (x : Int64) (S : List Value) (h : zH), rn 253 108 [l0, l1, l2, l3] (.long x :: S) h = rn 253 109 [l0, l1, l2, l3] (.int x.toInt32 :: S) h) ∧
  (∀ (l0 l1 l2 l3 : Value) (x : Int32) (h : zH), rn 253 109 [l0, l1, l2, l3] [.int x] h = some (some (.int x), h)) ∧
  (∀ (l1 l2 l3 : Value) (x : Nat) (S : List Value) (h : zH), rn 253 110 [.ref x, l1, l2, l3] S h = rn 253 111 [.ref x, l1, l2, l3] (.ref x :: S) h) ∧
  (∀ (l0 l1 l2 l3 : Value) (a : Nat) (S : List Value) (h : zH), rn 253 111 [l0, l1, l2, l3] (.ref a :: S) h = zgf h a 12 0 fun v => rn 253 114 [l0, l1, l2, l3] (v :: S) h) ∧
  (∀ (l0 l1 l2 l3 : Value) (S : List Value) (h : zH), rn 253 114 [l0, l1, l2, l3] S h = rn 253 115 [l0, l1, l2, l3] (.int (nI 5) :: S) h) ∧
  (∀ (l0 l1 l3 : Value) (x : Int32) (S : List Value) (h : zH), rn 253 115 [l0, l1, .int x, l3] S h = rn 253 116 [l0, l1, .int x, l3] (.int x :: S) h) ∧
  (∀ (l0 l1 l2 l3 : Value) (x : Int32) (y : Int32) (S : List Value) (h : zH), rn 253 116 [l0, l1, l2, l3] (.int y :: .int x :: S) h = rn 253 117 [l0, l1, l2, l3] (.int (x + y) :: S) h) ∧
  (∀ (l0 l1 l2 l3 : Value) (a : Nat) (j : Int32) (S : List Value) (h : zH), rn 253 117 [l0, l1, l2, l3] (.int j :: .ref a :: S) h = zlj h a j fun x => rn 253 118 [l0, l1, l2, l3] (.long x :: S) h) ∧
  (∀ (l0 l1 l2 l3 : Value) (x : Int64) (S : List Value) (h : zH), rn 253 118 [l0, l1, l2, l3] (.long x :: S) h = rn 253 119 [l0, l1, l2, l3] (.int x.toInt32 :: S) h) ∧
  (∀ (l0 l1 l2 l3 : Value) (x : Int32) (h : zH), rn 253 119 [l0, l1, l2, l3] [.int x] h = some (some (.int x), h)) ∧
  (∀ (l1 l2 l3 : Value) (x : Nat) (S : List Value) (h : zH), rn 253 120 [.ref x, l1, l2, l3] S h = rn 253 121 [.ref x, l1, l2, l3] (.ref x :: S) h) ∧
  (∀ (l0 l1 l2 l3 : Value) (a : Nat) (S : List Value) (h : zH), rn 253 121 [l0, l1, l2, l3] (.ref a :: S) h = zgf h a 12 0 fun v => rn 253 124 [l0, l1, l2, l3] (v :: S) h) ∧
  (∀ (l0 l1 l2 l3 : Value) (S : List Value) (h : zH), rn 253 124 [l0, l1, l2, l3] S h = rn 253 126 [l0, l1, l2, l3] (.int (nI 8) :: S) h) ∧
  (∀ (l0 l1 l3 : Value) (x : Int32) (S : List Value) (h : zH), rn 253 126 [l0, l1, .int x, l3] S h = rn 253 127 [l0, l1, .int x, l3] (.int x :: S) h) ∧
  (∀ (l0 l1 l2 l3 : Value) (x : Int32) (y : Int32) (S : List Value) (h : zH), rn 253 127 [l0, l1, l2, l3] (.int y :: .int x :: S) h = rn 253 128 [l0, l1, l2, l3] (.int (x + y) :: S) h) ∧
  (∀ (l0 l1 l2 l3 : Value) (a : Nat) (j : Int32) (S : List Value) (h : zH), rn 253 128 [l0, l1, l2, l3] (.int j :: .ref a :: S) h = zlj h a j fun x => rn 253 129 [l0, l1, l2, l3] (.long x :: S) h) ∧
  (∀ (l0 l1 l2 l3 : Value) (x : Int64) (S : List Value) (h : zH), rn 253 129 [l0, l1, l2, l3] (.long x :: S) h = rn 253 130 [l0, l1, l2, l3] (.int x.toInt32 :: S) h) ∧
  (∀ (l0 l1 l2 l3 : Value) (x : Int32) (h : zH), rn 253 130 [l0, l1, l2, l3] [.int x] h = some (some (.int x), h)) ∧
  (∀ (l1 l2 l3 : Value) (x : Nat) (S : List Value) (h : zH), rn 253 131 [.ref x, l1, l2, l3] S h = rn 253 132 [.ref x, l1, l2, l3] (.ref x :: S) h) ∧
  (∀ (l0 l1 l2 l3 : Value) (a : Nat) (S : List Value) (h : zH), rn 253 132 [l0, l1, l2, l3] (.ref a :: S) h = zgf h a 12 0 fun v => rn 253 135 [l0, l1, l2, l3] (v :: S) h) ∧
  (∀ (l0 l1 l2 l3 : Value) (S : List Value) (h : zH), rn 253 135 [l0, l1, l2, l3] S h = rn 253 137 [l0, l1, l2, l3] (.int (nI 13) :: S) h) ∧
  (∀ (l0 l1 l3 : Value) (x : Int32) (S : List Value) (h : zH), rn 253 137 [l0, l1, .int x, l3] S h = rn 253 138 [l0, l1, .int x, l3] (.int x :: S) h) ∧
  (∀ (l0 l1 l2 l3 : Value) (x : Int32) (y : Int32) (S : List Value) (h : zH), rn 253 138 [l0, l1, l2, l3] (.int y :: .int x :: S) h = rn 253 139 [l0, l1, l2, l3] (.int (x + y) :: S) h) ∧
  (∀ (l0 l1 l2 l3 : Value) (a : Nat) (j : Int32) (S : List Value) (h : zH), rn 253 139 [l0, l1, l2, l3] (.int j :: .ref a :: S) h = zlj h a j fun x => rn 253 140 [l0, l1, l2, l3] (.long x :: S) h) ∧
  (∀ (l0 l1 l2 l3 : Value) (x : Int64) (S : List Value) (h : zH), rn 253 140 [l0, l1, l2, l3] (.long x :: S) h = rn 253 141 [l0, l1, l2, l3] (.int x.toInt32 :: S) h) ∧
  (∀ (l0 l1 l2 l3 : Value) (x : Int32) (h : zH), rn 253 141 [l0, l1, l2, l3] [.int x] h = some (some (.int x), h)) ∧
  (∀ (l1 l2 l3 : Value) (x : Nat) (S : List Value) (h : zH), rn 253 142 [.ref x, l1, l2, l3] S h = rn 253 143 [.ref x, l1, l2, l3] (.ref x :: S) h) ∧
  (∀ (l0 l1 l2 l3 : Value) (a : Nat) (S : List Value) (h : zH), rn 253 143 [l0, l1, l2, l3] (.ref a :: S) h = zgf h a 12 0 fun v => rn 253 146 [l0, l1, l2, l3] (v :: S) h) ∧
  (∀ (l0 l1 l2 l3 : Value) (S : List Value) (h : zH), rn 253 146 [l0, l1, l2, l3] S h = rn 253 148 [l0, l1, l2, l3] (.int (nI 7) :: S) h) ∧
  (∀ (l0 l1 l2 l3 : Value) (a : Nat) (j : Int32) (S : List Value) (h : zH), rn 253 148 [l0, l1, l2, l3] (.int j :: .ref a :: S) h = zlj h a j fun x => rn 253 149 [l0, l1, l2, l3] (.long x :: S) h) ∧
  (∀ (l0 l1 l2 l3 : Value) (x : Int64) (S : List Value) (h : zH), rn 253 149 [l0, l1, l2, l3] (.long x :: S) h = rn 253 150 [l0, l1, l2, l3] (.int x.toInt32 :: S) h) ∧
  (∀ (l0 l1 l2 l3 : Value) (x : Int32) (h : zH), rn 253 150 [l0, l1, l2, l3] [.int x] h = some (some (.int x), h)) := ⟨fun _ _ _ _ _ _ => r_iload_n (show zdec 253 0 = some (.iload_n 1, 1) by decide +kernel) rfl rfl,
  fun _ _ _ _ _ _ _ => r_ifne (show zdec 253 1 = some (.ifCond .ne 7, 3) by decide +kernel) rfl rfl,
  fun _ _ _ _ _ _ => r_iconst (show zdec 253 4 = some (.iconst 3, 1) by decide +kernel) rfl rfl,
  fun _ _ _ _ _ _ => r_goto (show zdec 253 5 = some (.goto 29, 3) by decide +kernel) rfl,
  fun _ _ _ _ _ _ => r_iload_n (show zdec 253 8 = some (.iload_n 1, 1) by decide +kernel) rfl rfl,
  fun _ _ _ _ _ _ => r_iconst (show zdec 253 9 = some (.iconst 3, 1) by decide +kernel) rfl rfl,
  fun _ _ _ _ _ _ _ _ => r_icmpge (show zdec 253 10 = some (.if_icmp .ge 7, 3) by decide +kernel) rfl rfl,
  fun _ _ _ _ _ _ => r_iconst (show zdec 253 13 = some (.iconst 2, 1) by decide +kernel) rfl rfl,
  fun _ _ _ _ _ _ => r_goto (show zdec 253 14 = some (.goto 20, 3) by decide +kernel) rfl,
  fun _ _ _ _ _ _ => r_iload_n (show zdec 253 17 = some (.iload_n 1, 1) by decide +kernel) rfl rfl,
  fun _ _ _ _ _ _ => r_iconst (show zdec 253 18 = some (.iconst 5, 1) by decide +kernel) rfl rfl,
  fun _ _ _ _ _ _ _ _ => r_icmpge (show zdec 253 19 = some (.if_icmp .ge 14, 3) by decide +kernel) rfl rfl,
  fun _ _ _ _ _ _ => r_aload_nr (show zdec 253 22 = some (.aload_n 0, 1) by decide +kernel) rfl rfl,
  fun _ _ _ _ _ _ _ => r_getfield (show zdec 253 23 = some (.getfield 9, 3) by decide +kernel) (show zft.lookup (253 * zKEY + 9) = some (12, 0) by decide +kernel) rfl,
  fun _ _ _ _ _ _ => r_bipush (show zdec 253 26 = some (.bipush 7, 2) by decide +kernel) rfl rfl,
  fun _ _ _ _ _ _ _ _ => r_lald (show zdec 253 28 = some (.laload, 1) by decide +kernel) rfl,
  fun _ _ _ _ _ _ _ => r_l2i (show zdec 253 29 = some (.l2i, 1) by decide +kernel) rfl,
  fun _ _ _ _ _ _ => r_goto (show zdec 253 30 = some (.goto 4, 3) by decide +kernel) rfl,
  fun _ _ _ _ _ _ => r_iconst (show zdec 253 33 = some (.iconst 1, 1) by decide +kernel) rfl rfl,
  fun _ _ _ _ _ _ _ => r_istore_n (show zdec 253 34 = some (.istore_n 3, 1) by decide +kernel) rfl rfl (Nat.le_of_ble_eq_true rfl) rfl rfl,
  fun _ _ _ _ _ _ => r_iload_n (show zdec 253 35 = some (.iload_n 1, 1) by decide +kernel) rfl rfl,
  fun _ _ _ _ _ _ => r_iconst (show zdec 253 36 = some (.iconst 0, 1) by decide +kernel) rfl rfl,
  fun _ _ _ _ _ _ => r_iconst (show zdec 253 37 = some (.iconst 5, 1) by decide +kernel) rfl rfl,
  fun _ _ _ _ _ _ _ _ _ => r_cS [_, _, _] rfl (show zdec 253 38 = some (.invokestatic 45, 3) by decide +kernel) (show zst.lookup (253 * zKEY + 45) = some (0, 211, 3, 0) by decide +kernel) (by decide) rfl,
  fun _ _ _ _ _ _ _ => r_ifeq (show zdec 253 41 = some (.ifCond .eq 14, 3) by decide +kernel) rfl rfl,
  fun _ _ _ _ _ _ => r_iload_n (show zdec 253 44 = some (.iload_n 2, 1) by decide +kernel) rfl rfl,
  fun _ _ _ _ _ _ => r_iconst (show zdec 253 45 = some (.iconst 0, 1) by decide +kernel) rfl rfl,
  fun _ _ _ _ _ _ => r_iload_n (show zdec 253 46 = some (.iload_n 3, 1) by decide +kernel) rfl rfl,
  fun _ _ _ _ _ _ => r_iconst (show zdec 253 47 = some (.iconst 1, 1) by decide +kernel) rfl rfl,
  fun _ _ _ _ _ _ _ _ => r_isub (show zdec 253 48 = some (.isub, 1) by decide +kernel) rfl,
  fun _ _ _ _ _ _ _ _ _ => r_cS [_, _, _] rfl (show zdec 253 49 = some (.invokestatic 45, 3) by decide +kernel) (show zst.lookup (253 * zKEY + 45) = some (0, 211, 3, 0) by decide +kernel) (by decide) rfl,
  fun _ _ _ _ _ _ _ => r_ifne (show zdec 253 52 = some (.ifCond .ne 5, 3) by decide +kernel) rfl rfl,
  fun _ _ _ _ _ _ => r_iconst (show zdec 253 55 = some (.iconst (-1), 1) by decide +kernel) rfl rfl,
  fun _ _ _ _ _ _ => r_ireti (show zdec 253 56 = some (.ireturn, 1) by decide +kernel) (by decide +kernel),
  fun _ _ _ _ _ _ => r_iload_n (show zdec 253 57 = some (.iload_n 1, 1) by decide +kernel) rfl rfl,
  fun _ _ _ _ _ _ _ => (r_tsw (l := 0) (ts := [92, 100, 110, 120, 131]) (dt := 142) (show zdec 253 58 = some (.tableswitch 84 0 4 #[34, 42, 52, 62, 73], 34) by decide +kernel) (by decide +kernel)),
  fun _ _ _ _ _ _ => r_aload_nr (show zdec 253 92 = some (.aload_n 0, 1) by decide +kernel) rfl rfl,
  fun _ _ _ _ _ _ => r_iload_n (show zdec 253 93 = some (.iload_n 2, 1) by decide +kernel) rfl rfl,
  fun _ _ _ _ _ _ => r_iconst (show zdec 253 94 = some (.iconst 0, 1) by decide +kernel) rfl rfl,
  fun _ _ _ _ _ _ _ _ _ => r_cV [_, _] rfl (show zdec 253 95 = some (.invokevirtual 85, 3) by decide +kernel) (show zst.lookup (253 * zKEY + 85) = some (1, 226, 2, 12) by decide +kernel) (by decide) rfl,
  fun _ _ _ _ _ _ _ => r_l2i (show zdec 253 98 = some (.l2i, 1) by decide +kernel) rfl,
  fun _ _ _ _ _ _ => r_ireti (show zdec 253 99 = some (.ireturn, 1) by decide +kernel) (by decide +kernel),
  fun _ _ _ _ _ _ => r_aload_nr (show zdec 253 100 = some (.aload_n 0, 1) by decide +kernel) rfl rfl,
  fun _ _ _ _ _ _ _ => r_getfield (show zdec 253 101 = some (.getfield 9, 3) by decide +kernel) (show zft.lookup (253 * zKEY + 9) = some (12, 0) by decide +kernel) rfl,
  fun _ _ _ _ _ _ => r_iconst (show zdec 253 104 = some (.iconst 3, 1) by decide +kernel) rfl rfl,
  fun _ _ _ _ _ _ => r_iload_n (show zdec 253 105 = some (.iload_n 2, 1) by decide +kernel) rfl rfl,
  fun _ _ _ _ _ _ _ _ => r_iadd (show zdec 253 106 = some (.iadd, 1) by decide +kernel) rfl,
  fun _ _ _ _ _ _ _ _ => r_lald (show zdec 253 107 = some (.laload, 1) by decide +kernel) rfl,
  fun _ _ _ _ _ _ _ => r_l2i (show zdec 253 108 = some (.l2i, 1) by decide +kernel) rfl,
  fun _ _ _ _ _ _ => r_ireti (show zdec 253 109 = some (.ireturn, 1) by decide +kernel) (by decide +kernel),
  fun _ _ _ _ _ _ => r_aload_nr (show zdec 253 110 = some (.aload_n 0, 1) by decide +kernel) rfl rfl,
  fun _ _ _ _ _ _ _ => r_getfield (show zdec 253 111 = some (.getfield 9, 3) by decide +kernel) (show zft.lookup (253 * zKEY + 9) = some (12, 0) by decide +kernel) rfl,
  fun _ _ _ _ _ _ => r_iconst (show zdec 253 114 = some (.iconst 5, 1) by decide +kernel) rfl rfl,
  fun _ _ _ _ _ _ => r_iload_n (show zdec 253 115 = some (.iload_n 2, 1) by decide +kernel) rfl rfl,
  fun _ _ _ _ _ _ _ _ => r_iadd (show zdec 253 116 = some (.iadd, 1) by decide +kernel) rfl,
  fun _ _ _ _ _ _ _ _ => r_lald (show zdec 253 117 = some (.laload, 1) by decide +kernel) rfl,
  fun _ _ _ _ _ _ _ => r_l2i (show zdec 253 118 = some (.l2i, 1) by decide +kernel) rfl,
  fun _ _ _ _ _ _ => r_ireti (show zdec 253 119 = some (.ireturn, 1) by decide +kernel) (by decide +kernel),
  fun _ _ _ _ _ _ => r_aload_nr (show zdec 253 120 = some (.aload_n 0, 1) by decide +kernel) rfl rfl,
  fun _ _ _ _ _ _ _ => r_getfield (show zdec 253 121 = some (.getfield 9, 3) by decide +kernel) (show zft.lookup (253 * zKEY + 9) = some (12, 0) by decide +kernel) rfl,
  fun _ _ _ _ _ _ => r_bipush (show zdec 253 124 = some (.bipush 8, 2) by decide +kernel) rfl rfl,
  fun _ _ _ _ _ _ => r_iload_n (show zdec 253 126 = some (.iload_n 2, 1) by decide +kernel) rfl rfl,
  fun _ _ _ _ _ _ _ _ => r_iadd (show zdec 253 127 = some (.iadd, 1) by decide +kernel) rfl,
  fun _ _ _ _ _ _ _ _ => r_lald (show zdec 253 128 = some (.laload, 1) by decide +kernel) rfl,
  fun _ _ _ _ _ _ _ => r_l2i (show zdec 253 129 = some (.l2i, 1) by decide +kernel) rfl,
  fun _ _ _ _ _ _ => r_ireti (show zdec 253 130 = some (.ireturn, 1) by decide +kernel) (by decide +kernel),
  fun _ _ _ _ _ _ => r_aload_nr (show zdec 253 131 = some (.aload_n 0, 1) by decide +kernel) rfl rfl,
  fun _ _ _ _ _ _ _ => r_getfield (show zdec 253 132 = some (.getfield 9, 3) by decide +kernel) (show zft.lookup (253 * zKEY + 9) = some (12, 0) by decide +kernel) rfl,
  fun _ _ _ _ _ _ => r_bipush (show zdec 253 135 = some (.bipush 13, 2) by decide +kernel) rfl rfl,
  fun _ _ _ _ _ _ => r_iload_n (show zdec 253 137 = some (.iload_n 2, 1) by decide +kernel) rfl rfl,
  fun _ _ _ _ _ _ _ _ => r_iadd (show zdec 253 138 = some (.iadd, 1) by decide +kernel) rfl,
  fun _ _ _ _ _ _ _ _ => r_lald (show zdec 253 139 = some (.laload, 1) by decide +kernel) rfl,
  fun _ _ _ _ _ _ _ => r_l2i (show zdec 253 140 = some (.l2i, 1) by decide +kernel) rfl,
  fun _ _ _ _ _ _ => r_ireti (show zdec 253 141 = some (.ireturn, 1) by decide +kernel) (by decide +kernel),
  fun _ _ _ _ _ _ => r_aload_nr (show zdec 253 142 = some (.aload_n 0, 1) by decide +kernel) rfl rfl,
  fun _ _ _ _ _ _ _ => r_getfield (show zdec 253 143 = some (.getfield 9, 3) by decide +kernel) (show zft.lookup (253 * zKEY + 9) = some (12, 0) by decide +kernel) rfl,
  fun _ _ _ _ _ _ => r_bipush (show zdec 253 146 = some (.bipush 7, 2) by decide +kernel) rfl rfl,
  fun _ _ _ _ _ _ _ _ => r_lald (show zdec 253 148 = some (.laload, 1) by decide +kernel) rfl,
  fun _ _ _ _ _ _ _ => r_l2i (show zdec 253 149 = some (.l2i, 1) by decide +kernel) rfl,
  fun _ _ _ _ _ _ => r_ireti (show zdec 253 150 = some (.ireturn, 1) by decide +kernel) (by decide +kernel)⟩
theorem ze_253 : ∀ (a0 : Nat) (a1 : Int32) (a2 : Int32) (h : zH), ev 253 [.ref a0, .int a1, .int a2] h = rn 253 0 [.ref a0, .int a1, .int a2, .float 0] [] h := fun _ _ _ _ => if_pos (Nat.le_of_ble_eq_true rfl)
-- PayrollRunModel.garnishment(III)I
theorem zr_254 : (∀ (l0 l2 l3 : Value) (x : Int32) (S : List Value) (h : zH), rn 254 0 [l0, .int x, l2, l3] S h = rn 254 1 [l0, .int x, l2, l3] (.int x :: S) h) ∧
  (∀ (l0 l1 l2 l3 : Value) (v0 : Value) (S : List Value) (h : zH), rn 254 1 [l0, l1, l2, l3] (v0 :: S) h = if zsum S ≤ 8 then zcall (ev 210 [v0] h) (fun v h => rn 254 4 [l0, l1, l2, l3] (zpush v S) h) else none) ∧
  (∀ (l0 l1 l2 l3 : Value) (x : Int32) (S : List Value) (h : zH), rn 254 4 [l0, l1, l2, l3] (.int x :: S) h = if x = nI 0 then rn 254 26 [l0, l1, l2, l3] S h else rn 254 7 [l0, l1, l2, l3] S h) ∧
  (∀ (l0 l1 l3 : Value) (x : Int32) (S : List Value) (h : zH), rn 254 7 [l0, l1, .int x, l3] S h = rn 254 8 [l0, l1, .int x, l3] (.int x :: S) h) ∧
  (∀ (l0 l1 l2 l3 : Value) (S : List Value) (h : zH), rn 254 8 [l0, l1, l2, l3] S h = rn 254 9 [l0, l1, l2, l3] (.int (-1) :: S) h) ∧
  (∀ (l0 l1 l2 l3 : Value) (x : Int32) (y : Int32) (S : List Value) (h : zH), rn 254 9 [l0, l1, l2, l3] (.int y :: .int x :: S) h = if x = y then rn 254 12 [l0, l1, l2, l3] S h else rn 254 26 [l0, l1, l2, l3] S h) ∧
  (∀ (l0 l1 l2 : Value) (x : Int32) (S : List Value) (h : zH), rn 254 12 [l0, l1, l2, .int x] S h = rn 254 13 [l0, l1, l2, .int x] (.int x :: S) h) ∧
  (∀ (l0 l1 l2 l3 : Value) (x : Int32) (S : List Value) (h : zH), rn 254 13 [l0, l1, l2, l3] (.int x :: S) h = if x = nI 0 then rn 254 16 [l0, l1, l2, l3] S h else rn 254 26 [l0, l1, l2, l3] S h) ∧
  (∀ (l1 l2 l3 : Value) (x : Nat) (S : List Value) (h : zH), rn 254 16 [.ref x, l1, l2, l3] S h = rn 254 17 [.ref x, l1, l2, l3] (.ref x :: S) h) ∧
  (∀ (l0 l2 l3 : Value) (x : Int32) (S : List Value) (h : zH), rn 254 17 [l0, .int x, l2, l3] S h = rn 254 18 [l0, .int x, l2, l3] (.int x :: S) h) ∧
  (∀ (l0 l1 l2 l3 : Value) (S : List Value) (h : zH), rn 254 18 [l0, l1, l2, l3] S h = rn 254 21 [l0, l1, l2, l3] (.int (nI 134) :: S) h) ∧
  (∀ (l0 l1 l2 l3 : Value) (o : Nat) (v0 : Value) (v1 : Value) (S : List Value) (h : zH), rn 254 21 [l0, l1, l2, l3] (v1 :: v0 :: .ref o :: S) h = if zkd h o = 12 ∧ zsum S ≤ 8 then zcall (ev 226 [.ref o, v0, v1] h) (fun v h => rn 254 24 [l0, l1, l2, l3] (zpush v S) h) else none) ∧
  (∀ (l0 l1 l2 l3 : Value) (x : Int64) (S : List Value) (h : zH), rn 254 24 [l0, l1, l2, l3] (.long x :: S) h = rn 254 25 [l0, l1, l2, l3] (.int x.toInt32 :: S) h) ∧
  (∀ (l0 l1 l2 l3 : Value) (x : Int32) (h : zH), rn 254 25 [l0, l1, l2, l3] [.int x] h = some (some (.int x), h)) ∧
  (∀ (l1 l2 l3 : Value) (x : Nat) (S : List Value) (h : zH), rn 254 26 [.ref x, l1, l2, l3] S h = rn 254 27 [.ref x, l1, l2, l3] (.ref x :: S) h) ∧
  (∀ (l0 l2 l3 : Value) (x : Int32) (S : List Value) (h : zH), rn 254 27 [l0, .int x, l2, l3] S h = rn 254 28 [l0, .int x, l2, l3] (.int x :: S) h) ∧
  (∀ (l0 l1 l3 : Value) (x : Int32) (S : List Value) (h : zH), rn 254 28 [l0, l1, .int x, l3] S h = rn 254 29 [l0, l1, .int x, l3] (.int x :: S) h) ∧
  (∀ (l0 l1 l2 l3 : Value) (o : Nat) (v0 : Value) (v1 : Value) (S : List Value) (h : zH), rn 254 29 [l0, l1, l2, l3] (v1 :: v0 :: .ref o :: S) h = if zkd h o = 12 ∧ zsum S ≤ 8 then zcall (ev 229 [.ref o, v0, v1] h) (fun v h => rn 254 32 [l0, l1, l2, l3] (zpush v S) h) else none) ∧
  (∀ (l0 l1 l2 l3 : Value) (x : Int32) (S : List Value) (h : zH), rn 254 32 [l0, l1, l2, l3] (.int x :: S) h = if x = nI 0 then rn 254 62 [l0, l1, l2, l3] S h else rn 254 35 [l0, l1, l2, l3] S h) ∧
  (∀ (l0 l1 l2 : Value) (x : Int32) (S : List Value) (h : zH), rn 254 35 [l0, l1, l2, .int x] S h = rn 254 36 [l0, l1, l2, .int x] (.int x :: S) h) ∧
  (∀ (l0 l1 l2 l3 : Value) (S : List Value) (h : zH), rn 254 36 [l0, l1, l2, l3] S h = rn 254 37 [l0, l1, l2, l3] (.int (nI 0) :: S) h) ∧
  (∀ (l0 l1 l2 l3 : Value) (S : List Value) (h : zH), rn 254 37 [l0, l1, l2, l3] S h = rn 254 38 [l0, l1, l2, l3] (.int (nI 2) :: S) h) ∧
  (∀ (l0 l1 l2 l3 : Value) (v0 : Value) (v1 : Value) (v2 : Value) (S : List Value) (h : zH), rn 254 38 [l0, l1, l2, l3] (v2 :: v1 :: v0 :: S) h = if zsum S ≤ 8 then zcall (ev 211 [v0, v1, v2] h) (fun v h => rn 254 41 [l0, l1, l2, l3] (zpush v S) h) else none) ∧
  (∀ (l0 l1 l2 l3 : Value) (x : Int32) (S : List Value) (h : zH), rn 254 41 [l0, l1, l2, l3] (.int x :: S) h = if x = nI 0 then rn 254 62 [l0, l1, l2, l3] S h else rn 254 44 [l0, l1, l2, l3] S h) ∧
  (∀ (l1 l2 l3 : Value) (x : Nat) (S : List Value) (h : zH), rn 254 44 [.ref x, l1, l2, l3] S h = rn 254 45 [.ref x, l1, l2, l3] (.ref x :: S) h) ∧
  (∀ (l0 l2 l3 : Value) (x : Int32) (S : List Value) (h : zH), rn 254 45 [l0, .int x, l2, l3] S h = rn 254 46 [l0, .int x, l2, l3] (.int x :: S) h) ∧
  (∀ (l0 l1 l2 l3 : Value) (S : List Value) (h : zH), rn 254 46 [l0, l1, l2, l3] S h = rn 254 49 [l0, l1, l2, l3] (.int (nI 135) :: S) h) ∧
  (∀ (l0 l1 l2 l3 : Value) (S : List Value) (h : zH), rn 254 49 [l0, l1, l2, l3] S h = rn 254 50 [l0, l1, l2, l3] (.int (nI 4) :: S) h) ∧
  (∀ (l0 l1 l3 : Value) (x : Int32) (S : List Value) (h : zH), rn 254 50 [l0, l1, .int x, l3] S h = rn 254 51 [l0, l1, .int x, l3] (.int x :: S) h) ∧
  (∀ (l0 l1 l2 l3 : Value) (x : Int32) (y : Int32) (S : List Value) (h : zH), rn 254 51 [l0, l1, l2, l3] (.int y :: .int x :: S) h = rn 254 52 [l0, l1, l2, l3] (.int (x * y) :: S) h) ∧
  (∀ (l0 l1 l2 l3 : Value) (x : Int32) (y : Int32) (S : List Value) (h : zH), rn 254 52 [l0, l1, l2, l3] (.int y :: .int x :: S) h = rn 254 53 [l0, l1, l2, l3] (.int (x + y) :: S) h) ∧
  (∀ (l0 l1 l2 : Value) (x : Int32) (S : List Value) (h : zH), rn 254 53 [l0, l1, l2, .int x] S h = rn 254 54 [l0, l1, l2, .int x] (.int x :: S) h) ∧
  (∀ (l0 l1 l2 l3 : Value) (x : Int32) (y : Int32) (S : List Value) (h : zH), rn 254 54 [l0, l1, l2, l3] (.int y :: .int x :: S) h = rn 254 55 [l0, l1, l2, l3] (.int (x + y) :: S) h) ∧
  (∀ (l0 l1 l2 l3 : Value) (o : Nat) (v0 : Value) (v1 : Value) (S : List Value) (h : zH), rn 254 55 [l0, l1, l2, l3] (v1 :: v0 :: .ref o :: S) h = if zkd h o = 12 ∧ zsum S ≤ 8 then zcall (ev 226 [.ref o, v0, v1] h) (fun v h => rn 254 58 [l0, l1, l2, l3] (zpush v S) h) else none) ∧
  (∀ (l0 l1 l2 l3 : Value) (x : Int64) (S : List Value) (h : zH), rn 254 58 [l0, l1, l2, l3] (.long x :: S) h = rn 254 59 [l0, l1, l2, l3] (.int x.toInt32 :: S) h) ∧
  (∀ (l0 l1 l2 l3 : Value) (S : List Value) (h : zH), rn 254 59 [l0, l1, l2, l3] S h = rn 254 63 [l0, l1, l2, l3] S h) ∧
  (∀ (l0 l1 l2 l3 : Value) (S : List Value) (h : zH), rn 254 62 [l0, l1, l2, l3] S h = rn 254 63 [l0, l1, l2, l3] (.int (-1) :: S) h) ∧
  (∀ (l0 l1 l2 l3 : Value) (x : Int32) (h : zH), rn 254 63 [l0, l1, l2, l3] [.int x] h = some (some (.int x), h)) := ⟨fun _ _ _ _ _ _ => r_iload_n (show zdec 254 0 = some (.iload_n 1, 1) by decide +kernel) rfl rfl,
  fun _ _ _ _ _ _ _ => r_cS [_] rfl (show zdec 254 1 = some (.invokestatic 71, 3) by decide +kernel) (show zst.lookup (254 * zKEY + 71) = some (0, 210, 1, 0) by decide +kernel) (by decide) rfl,
  fun _ _ _ _ _ _ _ => r_ifeq (show zdec 254 4 = some (.ifCond .eq 22, 3) by decide +kernel) rfl rfl,
  fun _ _ _ _ _ _ => r_iload_n (show zdec 254 7 = some (.iload_n 2, 1) by decide +kernel) rfl rfl,
  fun _ _ _ _ _ _ => r_iconst (show zdec 254 8 = some (.iconst (-1), 1) by decide +kernel) rfl rfl,
  fun _ _ _ _ _ _ _ _ => r_icmpne (show zdec 254 9 = some (.if_icmp .ne 17, 3) by decide +kernel) rfl rfl,
  fun _ _ _ _ _ _ => r_iload_n (show zdec 254 12 = some (.iload_n 3, 1) by decide +kernel) rfl rfl,
  fun _ _ _ _ _ _ _ => r_ifne (show zdec 254 13 = some (.ifCond .ne 13, 3) by decide +kernel) rfl rfl,
  fun _ _ _ _ _ _ => r_aload_nr (show zdec 254 16 = some (.aload_n 0, 1) by decide +kernel) rfl rfl,
  fun _ _ _ _ _ _ => r_iload_n (show zdec 254 17 = some (.iload_n 1, 1) by decide +kernel) rfl rfl,
  fun _ _ _ _ _ _ => r_sipush (show zdec 254 18 = some (.sipush 134, 3) by decide +kernel) rfl rfl,
  fun _ _ _ _ _ _ _ _ _ => r_cV [_, _] rfl (show zdec 254 21 = some (.invokevirtual 85, 3) by decide +kernel) (show zst.lookup (254 * zKEY + 85) = some (1, 226, 2, 12) by decide +kernel) (by decide) rfl,
  fun _ _ _ _ _ _ _ => r_l2i (show zdec 254 24 = some (.l2i, 1) by decide +kernel) rfl,
  fun _ _ _ _ _ _ => r_ireti (show zdec 254 25 = some (.ireturn, 1) by decide +kernel) (by decide +kernel),
  fun _ _ _ _ _ _ => r_aload_nr (show zdec 254 26 = some (.aload_n 0, 1) by decide +kernel) rfl rfl,
  fun _ _ _ _ _ _ => r_iload_n (show zdec 254 27 = some (.iload_n 1, 1) by decide +kernel) rfl rfl,
  fun _ _ _ _ _ _ => r_iload_n (show zdec 254 28 = some (.iload_n 2, 1) by decide +kernel) rfl rfl,
  fun _ _ _ _ _ _ _ _ _ => r_cV [_, _] rfl (show zdec 254 29 = some (.invokevirtual 95, 3) by decide +kernel) (show zst.lookup (254 * zKEY + 95) = some (1, 229, 2, 12) by decide +kernel) (by decide) rfl,
  fun _ _ _ _ _ _ _ => r_ifeq (show zdec 254 32 = some (.ifCond .eq 30, 3) by decide +kernel) rfl rfl,
  fun _ _ _ _ _ _ => r_iload_n (show zdec 254 35 = some (.iload_n 3, 1) by decide +kernel) rfl rfl,
  fun _ _ _ _ _ _ => r_iconst (show zdec 254 36 = some (.iconst 0, 1) by decide +kernel) rfl rfl,
  fun _ _ _ _ _ _ => r_iconst (show zdec 254 37 = some (.iconst 2, 1) by decide +kernel) rfl rfl,
  fun _ _ _ _ _ _ _ _ _ => r_cS [_, _, _] rfl (show zdec 254 38 = some (.invokestatic 45, 3) by decide +kernel) (show zst.lookup (254 * zKEY + 45) = some (0, 211, 3, 0) by decide +kernel) (by decide) rfl,
  fun _ _ _ _ _ _ _ => r_ifeq (show zdec 254 41 = some (.ifCond .eq 21, 3) by decide +kernel) rfl rfl,
  fun _ _ _ _ _ _ => r_aload_nr (show zdec 254 44 = some (.aload_n 0, 1) by decide +kernel) rfl rfl,
  fun _ _ _ _ _ _ => r_iload_n (show zdec 254 45 = some (.iload_n 1, 1) by decide +kernel) rfl rfl,
  fun _ _ _ _ _ _ => r_sipush (show zdec 254 46 = some (.sipush 135, 3) by decide +kernel) rfl rfl,
  fun _ _ _ _ _ _ => r_iconst (show zdec 254 49 = some (.iconst 4, 1) by decide +kernel) rfl rfl,
  fun _ _ _ _ _ _ => r_iload_n (show zdec 254 50 = some (.iload_n 2, 1) by decide +kernel) rfl rfl,
  fun _ _ _ _ _ _ _ _ => r_imul (show zdec 254 51 = some (.imul, 1) by decide +kernel) rfl,
  fun _ _ _ _ _ _ _ _ => r_iadd (show zdec 254 52 = some (.iadd, 1) by decide +kernel) rfl,
  fun _ _ _ _ _ _ => r_iload_n (show zdec 254 53 = some (.iload_n 3, 1) by decide +kernel) rfl rfl,
  fun _ _ _ _ _ _ _ _ => r_iadd (show zdec 254 54 = some (.iadd, 1) by decide +kernel) rfl,
  fun _ _ _ _ _ _ _ _ _ => r_cV [_, _] rfl (show zdec 254 55 = some (.invokevirtual 85, 3) by decide +kernel) (show zst.lookup (254 * zKEY + 85) = some (1, 226, 2, 12) by decide +kernel) (by decide) rfl,
  fun _ _ _ _ _ _ _ => r_l2i (show zdec 254 58 = some (.l2i, 1) by decide +kernel) rfl,
  fun _ _ _ _ _ _ => r_goto (show zdec 254 59 = some (.goto 4, 3) by decide +kernel) rfl,
  fun _ _ _ _ _ _ => r_iconst (show zdec 254 62 = some (.iconst (-1), 1) by decide +kernel) rfl rfl,
  fun _ _ _ _ _ _ => r_ireti (show zdec 254 63 = some (.ireturn, 1) by decide +kernel) (by decide +kernel)⟩
theorem ze_254 : ∀ (a0 : Nat) (a1 : Int32) (a2 : Int32) (a3 : Int32) (h : zH), ev 254 [.ref a0, .int a1, .int a2, .int a3] h = rn 254 0 [.ref a0, .int a1, .int a2, .int a3] [] h := fun _ _ _ _ _ => if_pos (Nat.le_of_ble_eq_true rfl)
-- PayrollRunModel.rest(II)J
theorem zr_255 : (∀ (l1 l2 : Value) (x : Nat) (S : List Value) (h : zH), rn 255 0 [.ref x, l1, l2] S h = rn 255 1 [.ref x, l1, l2] (.ref x :: S) h) ∧
  (∀ (l0 l2 : Value) (x : Int32) (S : List Value) (h : zH), rn 255 1 [l0, .int x, l2] S h = rn 255 2 [l0, .int x, l2] (.int x :: S) h) ∧
  (∀ (l0 l1 : Value) (x : Int32) (S : List Value) (h : zH), rn 255 2 [l0, l1, .int x] S h = rn 255 3 [l0, l1, .int x] (.int x :: S) h) ∧
  (∀ (l0 l1 l2 : Value) (o : Nat) (v0 : Value) (v1 : Value) (S : List Value) (h : zH), rn 255 3 [l0, l1, l2] (v1 :: v0 :: .ref o :: S) h = if zkd h o = 12 ∧ zsum S ≤ 8 then zcall (ev 229 [.ref o, v0, v1] h) (fun v h => rn 255 6 [l0, l1, l2] (zpush v S) h) else none) ∧
  (∀ (l0 l1 l2 : Value) (x : Int32) (S : List Value) (h : zH), rn 255 6 [l0, l1, l2] (.int x :: S) h = if x = nI 0 then rn 255 26 [l0, l1, l2] S h else rn 255 9 [l0, l1, l2] S h) ∧
  (∀ (l1 l2 : Value) (x : Nat) (S : List Value) (h : zH), rn 255 9 [.ref x, l1, l2] S h = rn 255 10 [.ref x, l1, l2] (.ref x :: S) h) ∧
  (∀ (l0 l2 : Value) (x : Int32) (S : List Value) (h : zH), rn 255 10 [l0, .int x, l2] S h = rn 255 11 [l0, .int x, l2] (.int x :: S) h) ∧
  (∀ (l0 l1 l2 : Value) (S : List Value) (h : zH), rn 255 11 [l0, l1, l2] S h = rn 255 14 [l0, l1, l2] (.int (nI 135) :: S) h) ∧
  (∀ (l0 l1 l2 : Value) (S : List Value) (h : zH), rn 255 14 [l0, l1, l2] S h = rn 255 15 [l0, l1, l2] (.int (nI 4) :: S) h) ∧
  (∀ (l0 l1 : Value) (x : Int32) (S : List Value) (h : zH), rn 255 15 [l0, l1, .int x] S h = rn 255 16 [l0, l1, .int x] (.int x :: S) h) ∧
  (∀ (l0 l1 l2 : Value) (x : Int32) (y : Int32) (S : List Value) (h : zH), rn 255 16 [l0, l1, l2] (.int y :: .int x :: S) h = rn 255 17 [l0, l1, l2] (.int (x * y) :: S) h) ∧
  (∀ (l0 l1 l2 : Value) (x : Int32) (y : Int32) (S : List Value) (h : zH), rn 255 17 [l0, l1, l2] (.int y :: .int x :: S) h = rn 255 18 [l0, l1, l2] (.int (x + y) :: S) h) ∧
  (∀ (l0 l1 l2 : Value) (S : List Value) (h : zH), rn 255 18 [l0, l1, l2] S h = rn 255 19 [l0, l1, l2] (.int (nI 3) :: S) h) ∧
  (∀ (l0 l1 l2 : Value) (x : Int32) (y : Int32) (S : List Value) (h : zH), rn 255 19 [l0, l1, l2] (.int y :: .int x :: S) h = rn 255 20 [l0, l1, l2] (.int (x + y) :: S) h) ∧
  (∀ (l0 l1 l2 : Value) (o : Nat) (v0 : Value) (v1 : Value) (S : List Value) (h : zH), rn 255 20 [l0, l1, l2] (v1 :: v0 :: .ref o :: S) h = if zkd h o = 12 ∧ zsum S ≤ 8 then zcall (ev 226 [.ref o, v0, v1] h) (fun v h => rn 255 23 [l0, l1, l2] (zpush v S) h) else none) ∧
  (∀ (l0 l1 l2 : Value) (S : List Value) (h : zH), rn 255 23 [l0, l1, l2] S h = rn 255 29 [l0, l1, l2] S h) ∧
  (∀ (l0 l1 l2 : Value) (S : List Value) (h : zH), rn 255 26 [l0, l1, l2] S h = rn 255 29 [l0, l1, l2] (.long (-1) :: S) h) ∧
  (∀ (l0 l1 l2 : Value) (x : Int64) (h : zH), rn 255 29 [l0, l1, l2] [.long x] h = some (some (.long x), h)) := ⟨fun _ _ _ _ _ => r_aload_nr (show zdec 255 0 = some (.aload_n 0, 1) by decide +kernel) rfl rfl,
  fun _ _ _ _ _ => r_iload_n (show zdec 255 1 = some (.iload_n 1, 1) by decide +kernel) rfl rfl,
  fun _ _ _ _ _ => r_iload_n (show zdec 255 2 = some (.iload_n 2, 1) by decide +kernel) rfl rfl,
  fun _ _ _ _ _ _ _ _ => r_cV [_, _] rfl (show zdec 255 3 = some (.invokevirtual 95, 3) by decide +kernel) (show zst.lookup (255 * zKEY + 95) = some (1, 229, 2, 12) by decide +kernel) (by decide) rfl,
  fun _ _ _ _ _ _ => r_ifeq (show zdec 255 6 = some (.ifCond .eq 20, 3) by decide +kernel) rfl rfl,
  fun _ _ _ _ _ => r_aload_nr (show zdec 255 9 = some (.aload_n 0, 1) by decide +kernel) rfl rfl,
  fun _ _ _ _ _ => r_iload_n (show zdec 255 10 = some (.iload_n 1, 1) by decide +kernel) rfl rfl,
  fun _ _ _ _ _ => r_sipush (show zdec 255 11 = some (.sipush 135, 3) by decide +kernel) rfl rfl,
  fun _ _ _ _ _ => r_iconst (show zdec 255 14 = some (.iconst 4, 1) by decide +kernel) rfl rfl,
  fun _ _ _ _ _ => r_iload_n (show zdec 255 15 = some (.iload_n 2, 1) by decide +kernel) rfl rfl,
  fun _ _ _ _ _ _ _ => r_imul (show zdec 255 16 = some (.imul, 1) by decide +kernel) rfl,
  fun _ _ _ _ _ _ _ => r_iadd (show zdec 255 17 = some (.iadd, 1) by decide +kernel) rfl,
  fun _ _ _ _ _ => r_iconst (show zdec 255 18 = some (.iconst 3, 1) by decide +kernel) rfl rfl,
  fun _ _ _ _ _ _ _ => r_iadd (show zdec 255 19 = some (.iadd, 1) by decide +kernel) rfl,
  fun _ _ _ _ _ _ _ _ => r_cV [_, _] rfl (show zdec 255 20 = some (.invokevirtual 85, 3) by decide +kernel) (show zst.lookup (255 * zKEY + 85) = some (1, 226, 2, 12) by decide +kernel) (by decide) rfl,
  fun _ _ _ _ _ => r_goto (show zdec 255 23 = some (.goto 6, 3) by decide +kernel) rfl,
  fun _ _ _ _ _ => r_ldc2 (show zdec 255 26 = some (.ldc2_w 174, 3) by decide +kernel) (show zlt.lookup (255 * zKEY + 174) = some (-1) by decide +kernel) rfl,
  fun _ _ _ _ _ => r_lret (show zdec 255 29 = some (.lreturn, 1) by decide +kernel) (by decide +kernel)⟩
theorem ze_255 : ∀ (a0 : Nat) (a1 : Int32) (a2 : Int32) (h : zH), ev 255 [.ref a0, .int a1, .int a2] h = rn 255 0 [.ref a0, .int a1, .int a2] [] h := fun _ _ _ _ => if_pos (Nat.le_of_ble_eq_true rfl)
-- PayrollRunModel.due(III)J
theorem zr_256 : (∀ (l0 l2 l3 : Value) (x : Int32) (S : List Value) (h : zH), rn 256 0 [l0, .int x, l2, l3] S h = rn 256 1 [l0, .int x, l2, l3] (.int x :: S) h) ∧
  (∀ (l0 l1 l2 l3 : Value) (v0 : Value) (S : List Value) (h : zH), rn 256 1 [l0, l1, l2, l3] (v0 :: S) h = if zsum S ≤ 8 then zcall (ev 210 [v0] h) (fun v h => rn 256 4 [l0, l1, l2, l3] (zpush v S) h) else none) ∧
  (∀ (l0 l1 l2 l3 : Value) (x : Int32) (S : List Value) (h : zH), rn 256 4 [l0, l1, l2, l3] (.int x :: S) h = if x = nI 0 then rn 256 33 [l0, l1, l2, l3] S h else rn 256 7 [l0, l1, l2, l3] S h) ∧
  (∀ (l0 l1 l3 : Value) (x : Int32) (S : List Value) (h : zH), rn 256 7 [l0, l1, .int x, l3] S h = rn 256 8 [l0, l1, .int x, l3] (.int x :: S) h) ∧
  (∀ (l0 l1 l2 l3 : Value) (v0 : Value) (S : List Value) (h : zH), rn 256 8 [l0, l1, l2, l3] (v0 :: S) h = if zsum S ≤ 8 then zcall (ev 212 [v0] h) (fun v h => rn 256 11 [l0, l1, l2, l3] (zpush v S) h) else none) ∧
  (∀ (l0 l1 l2 l3 : Value) (x : Int32) (S : List Value) (h : zH), rn 256 11 [l0, l1, l2, l3] (.int x :: S) h = if x = nI 0 then rn 256 33 [l0, l1, l2, l3] S h else rn 256 14 [l0, l1, l2, l3] S h) ∧
  (∀ (l0 l1 l2 : Value) (x : Int32) (S : List Value) (h : zH), rn 256 14 [l0, l1, l2, .int x] S h = rn 256 15 [l0, l1, l2, .int x] (.int x :: S) h) ∧
  (∀ (l0 l1 l2 l3 : Value) (S : List Value) (h : zH), rn 256 15 [l0, l1, l2, l3] S h = rn 256 16 [l0, l1, l2, l3] (.int (nI 0) :: S) h) ∧
  (∀ (l0 l1 l2 l3 : Value) (S : List Value) (h : zH), rn 256 16 [l0, l1, l2, l3] S h = rn 256 17 [l0, l1, l2, l3] (.int (nI 4) :: S) h) ∧
  (∀ (l0 l1 l2 l3 : Value) (v0 : Value) (v1 : Value) (v2 : Value) (S : List Value) (h : zH), rn 256 17 [l0, l1, l2, l3] (v2 :: v1 :: v0 :: S) h = if zsum S ≤ 8 then zcall (ev 211 [v0, v1, v2] h) (fun v h => rn 256 20 [l0, l1, l2, l3] (zpush v S) h) else none) ∧
  (∀ (l0 l1 l2 l3 : Value) (x : Int32) (S : List Value) (h : zH), rn 256 20 [l0, l1, l2, l3] (.int x :: S) h = if x = nI 0 then rn 256 33 [l0, l1, l2, l3] S h else rn 256 23 [l0, l1, l2, l3] S h) ∧
  (∀ (l1 l2 l3 : Value) (x : Nat) (S : List Value) (h : zH), rn 256 23 [.ref x, l1, l2, l3] S h = rn 256 24 [.ref x, l1, l2, l3] (.ref x :: S) h) ∧
  (∀ (l0 l2 l3 : Value) (x : Int32) (S : List Value) (h : zH), rn 256 24 [l0, .int x, l2, l3] S h = rn 256 25 [l0, .int x, l2, l3] (.int x :: S) h) ∧
  (∀ (l0 l1 l3 : Value) (x : Int32) (S : List Value) (h : zH), rn 256 25 [l0, l1, .int x, l3] S h = rn 256 26 [l0, l1, .int x, l3] (.int x :: S) h) ∧
  (∀ (l0 l1 l2 : Value) (x : Int32) (S : List Value) (h : zH), rn 256 26 [l0, l1, l2, .int x] S h = rn 256 27 [l0, l1, l2, .int x] (.int x :: S) h) ∧
  (∀ (l0 l1 l2 l3 : Value) (o : Nat) (v0 : Value) (v1 : Value) (v2 : Value) (S : List Value) (h : zH), rn 256 27 [l0, l1, l2, l3] (v2 :: v1 :: v0 :: .ref o :: S) h = if zkd h o = 12 ∧ zsum S ≤ 8 then zcall (ev 237 [.ref o, v0, v1, v2] h) (fun v h => rn 256 30 [l0, l1, l2, l3] (zpush v S) h) else none) ∧
  (∀ (l0 l1 l2 l3 : Value) (S : List Value) (h : zH), rn 256 30 [l0, l1, l2, l3] S h = rn 256 36 [l0, l1, l2, l3] S h) ∧
  (∀ (l0 l1 l2 l3 : Value) (S : List Value) (h : zH), rn 256 33 [l0, l1, l2, l3] S h = rn 256 36 [l0, l1, l2, l3] (.long (-1) :: S) h) ∧
  (∀ (l0 l1 l2 l3 : Value) (x : Int64) (h : zH), rn 256 36 [l0, l1, l2, l3] [.long x] h = some (some (.long x), h)) := ⟨fun _ _ _ _ _ _ => r_iload_n (show zdec 256 0 = some (.iload_n 1, 1) by decide +kernel) rfl rfl,
  fun _ _ _ _ _ _ _ => r_cS [_] rfl (show zdec 256 1 = some (.invokestatic 71, 3) by decide +kernel) (show zst.lookup (256 * zKEY + 71) = some (0, 210, 1, 0) by decide +kernel) (by decide) rfl,
  fun _ _ _ _ _ _ _ => r_ifeq (show zdec 256 4 = some (.ifCond .eq 29, 3) by decide +kernel) rfl rfl,
  fun _ _ _ _ _ _ => r_iload_n (show zdec 256 7 = some (.iload_n 2, 1) by decide +kernel) rfl rfl,
  fun _ _ _ _ _ _ _ => r_cS [_] rfl (show zdec 256 8 = some (.invokestatic 75, 3) by decide +kernel) (show zst.lookup (256 * zKEY + 75) = some (0, 212, 1, 0) by decide +kernel) (by decide) rfl,
  fun _ _ _ _ _ _ _ => r_ifeq (show zdec 256 11 = some (.ifCond .eq 22, 3) by decide +kernel) rfl rfl,
  fun _ _ _ _ _ _ => r_iload_n (show zdec 256 14 = some (.iload_n 3, 1) by decide +kernel) rfl rfl,
  fun _ _ _ _ _ _ => r_iconst (show zdec 256 15 = some (.iconst 0, 1) by decide +kernel) rfl rfl,
  fun _ _ _ _ _ _ => r_iconst (show zdec 256 16 = some (.iconst 4, 1) by decide +kernel) rfl rfl,
  fun _ _ _ _ _ _ _ _ _ => r_cS [_, _, _] rfl (show zdec 256 17 = some (.invokestatic 45, 3) by decide +kernel) (show zst.lookup (256 * zKEY + 45) = some (0, 211, 3, 0) by decide +kernel) (by decide) rfl,
  fun _ _ _ _ _ _ _ => r_ifeq (show zdec 256 20 = some (.ifCond .eq 13, 3) by decide +kernel) rfl rfl,
  fun _ _ _ _ _ _ => r_aload_nr (show zdec 256 23 = some (.aload_n 0, 1) by decide +kernel) rfl rfl,
  fun _ _ _ _ _ _ => r_iload_n (show zdec 256 24 = some (.iload_n 1, 1) by decide +kernel) rfl rfl,
  fun _ _ _ _ _ _ => r_iload_n (show zdec 256 25 = some (.iload_n 2, 1) by decide +kernel) rfl rfl,
  fun _ _ _ _ _ _ => r_iload_n (show zdec 256 26 = some (.iload_n 3, 1) by decide +kernel) rfl rfl,
  fun _ _ _ _ _ _ _ _ _ _ => r_cV [_, _, _] rfl (show zdec 256 27 = some (.invokevirtual 136, 3) by decide +kernel) (show zst.lookup (256 * zKEY + 136) = some (1, 237, 3, 12) by decide +kernel) (by decide) rfl,
  fun _ _ _ _ _ _ => r_goto (show zdec 256 30 = some (.goto 6, 3) by decide +kernel) rfl,
  fun _ _ _ _ _ _ => r_ldc2 (show zdec 256 33 = some (.ldc2_w 174, 3) by decide +kernel) (show zlt.lookup (256 * zKEY + 174) = some (-1) by decide +kernel) rfl,
  fun _ _ _ _ _ _ => r_lret (show zdec 256 36 = some (.lreturn, 1) by decide +kernel) (by decide +kernel)⟩
theorem ze_256 : ∀ (a0 : Nat) (a1 : Int32) (a2 : Int32) (a3 : Int32) (h : zH), ev 256 [.ref a0, .int a1, .int a2, .int a3] h = rn 256 0 [.ref a0, .int a1, .int a2, .int a3] [] h := fun _ _ _ _ _ => if_pos (Nat.le_of_ble_eq_true rfl)
-- PayrollRunModel.settled(III)J
theorem zr_257 : (∀ (l0 l1 l2 l4 : Value) (x : Int32) (S : List Value) (h : zH), rn 257 0 [l0, l1, l2, .int x, l4] S h = rn 257 1 [l0, l1, l2, .int x, l4] (.int x :: S) h) ∧
  (∀ (l0 l1 l2 l3 l4 : Value) (S : List Value) (h : zH), rn 257 1 [l0, l1, l2, l3, l4] S h = rn 257 2 [l0, l1, l2, l3, l4] (.int (nI 0) :: S) h) ∧
  (∀ (l0 l1 l2 l3 l4 : Value) (S : List Value) (h : zH), rn 257 2 [l0, l1, l2, l3, l4] S h = rn 257 3 [l0, l1, l2, l3, l4] (.int (nI 4) :: S) h) ∧
  (∀ (l0 l1 l2 l3 l4 : Value) (v0 : Value) (v1 : Value) (v2 : Value) (S : List Value) (h : zH), rn 257 3 [l0, l1, l2, l3, l4] (v2 :: v1 :: v0 :: S) h = if zsum S ≤ 8 then zcall (ev 211 [v0, v1, v2] h) (fun v h => rn 257 6 [l0, l1, l2, l3, l4] (zpush v S) h) else none) ∧
  (∀ (l0 l1 l2 l3 l4 : Value) (x : Int32) (S : List Value) (h : zH), rn 257 6 [l0, l1, l2, l3, l4] (.int x :: S) h = if x = nI 0 then rn 257 18 [l0, l1, l2, l3, l4] S h else rn 257 9 [l0, l1, l2, l3, l4] S h) ∧
  (∀ (l1 l2 l3 l4 : Value) (x : Nat) (S : List Value) (h : zH), rn 257 9 [.ref x, l1, l2, l3, l4] S h = rn 257 10 [.ref x, l1, l2, l3, l4] (.ref x :: S) h) ∧
  (∀ (l0 l2 l3 l4 : Value) (x : Int32) (S : List Value) (h : zH), rn 257 10 [l0, .int x, l2, l3, l4] S h = rn 257 11 [l0, .int x, l2, l3, l4] (.int x :: S) h) ∧
  (∀ (l0 l1 l3 l4 : Value) (x : Int32) (S : List Value) (h : zH), rn 257 11 [l0, l1, .int x, l3, l4] S h = rn 257 12 [l0, l1, .int x, l3, l4] (.int x :: S) h) ∧
  (∀ (l0 l1 l2 l3 l4 : Value) (o : Nat) (v0 : Value) (v1 : Value) (S : List Value) (h : zH), rn 257 12 [l0, l1, l2, l3, l4] (v1 :: v0 :: .ref o :: S) h = if zkd h o = 12 ∧ zsum S ≤ 8 then zcall (ev 258 [.ref o, v0, v1] h) (fun v h => rn 257 15 [l0, l1, l2, l3, l4] (zpush v S) h) else none) ∧
  (∀ (l0 l1 l2 l3 l4 : Value) (S : List Value) (h : zH), rn 257 15 [l0, l1, l2, l3, l4] S h = rn 257 19 [l0, l1, l2, l3, l4] S h) ∧
  (∀ (l0 l1 l2 l3 l4 : Value) (S : List Value) (h : zH), rn 257 18 [l0, l1, l2, l3, l4] S h = rn 257 19 [l0, l1, l2, l3, l4] (.int (-1) :: S) h) ∧
  (∀ (l0 l1 l2 l3 l4 : Value) (x : Int32) (S : List Value) (h : zH), rn 257 19 [l0, l1, l2, l3, l4] (.int x :: S) h = nl l3 (rn 257 21 [l0, l1, l2, l3, .int x] S h)) ∧
  (∀ (l0 l1 l2 l3 : Value) (x : Int32) (S : List Value) (h : zH), rn 257 21 [l0, l1, l2, l3, .int x] S h = rn 257 23 [l0, l1, l2, l3, .int x] (.int x :: S) h) ∧
  (∀ (l0 l1 l2 l3 l4 : Value) (x : Int32) (S : List Value) (h : zH), rn 257 23 [l0, l1, l2, l3, l4] (.int x :: S) h = if nI 0 ≤ x then rn 257 32 [l0, l1, l2, l3, l4] S h else rn 257 26 [l0, l1, l2, l3, l4] S h) ∧
  (∀ (l0 l1 l2 l3 : Value) (x : Int32) (S : List Value) (h : zH), rn 257 26 [l0, l1, l2, l3, .int x] S h = rn 257 28 [l0, l1, l2, l3, .int x] (.int x :: S) h) ∧
  (∀ (l0 l1 l2 l3 l4 : Value) (x : Int32) (S : List Value) (h : zH), rn 257 28 [l0, l1, l2, l3, l4] (.int x :: S) h = rn 257 29 [l0, l1, l2, l3, l4] (.long x.toInt64 :: S) h) ∧
  (∀ (l0 l1 l2 l3 l4 : Value) (S : List Value) (h : zH), rn 257 29 [l0, l1, l2, l3, l4] S h = rn 257 39 [l0, l1, l2, l3, l4] S h) ∧
  (∀ (l1 l2 l3 l4 : Value) (x : Nat) (S : List Value) (h : zH), rn 257 32 [.ref x, l1, l2, l3, l4] S h = rn 257 33 [.ref x, l1, l2, l3, l4] (.ref x :: S) h) ∧
  (∀ (l0 l2 l3 l4 : Value) (x : Int32) (S : List Value) (h : zH), rn 257 33 [l0, .int x, l2, l3, l4] S h = rn 257 34 [l0, .int x, l2, l3, l4] (.int x :: S) h) ∧
  (∀ (l0 l1 l3 l4 : Value) (x : Int32) (S : List Value) (h : zH), rn 257 34 [l0, l1, .int x, l3, l4] S h = rn 257 35 [l0, l1, .int x, l3, l4] (.int x :: S) h) ∧
  (∀ (l0 l1 l2 l4 : Value) (x : Int32) (S : List Value) (h : zH), rn 257 35 [l0, l1, l2, .int x, l4] S h = rn 257 36 [l0, l1, l2, .int x, l4] (.int x :: S) h) ∧
  (∀ (l0 l1 l2 l3 l4 : Value) (o : Nat) (v0 : Value) (v1 : Value) (v2 : Value) (S : List Value) (h : zH), rn 257 36 [l0, l1, l2, l3, l4] (v2 :: v1 :: v0 :: .ref o :: S) h = if zkd h o = 12 ∧ zsum S ≤ 8 then zcall (ev 245 [.ref o, v0, v1, v2] h) (fun v h => rn 257 39 [l0, l1, l2, l3, l4] (zpush v S) h) else none) ∧
  (∀ (l0 l1 l2 l3 l4 : Value) (x : Int64) (h : zH), rn 257 39 [l0, l1, l2, l3, l4] [.long x] h = some (some (.long x), h)) := ⟨fun _ _ _ _ _ _ _ => r_iload_n (show zdec 257 0 = some (.iload_n 3, 1) by decide +kernel) rfl rfl,
  fun _ _ _ _ _ _ _ => r_iconst (show zdec 257 1 = some (.iconst 0, 1) by decide +kernel) rfl rfl,
  fun _ _ _ _ _ _ _ => r_iconst (show zdec 257 2 = some (.iconst 4, 1) by decide +kernel) rfl rfl,
  fun _ _ _ _ _ _ _ _ _ _ => r_cS [_, _, _] rfl (show zdec 257 3 = some (.invokestatic 45, 3) by decide +kernel) (show zst.lookup (257 * zKEY + 45) = some (0, 211, 3, 0) by decide +kernel) (by decide) rfl,
  fun _ _ _ _ _ _ _ _ => r_ifeq (show zdec 257 6 = some (.ifCond .eq 12, 3) by decide +kernel) rfl rfl,
  fun _ _ _ _ _ _ _ => r_aload_nr (show zdec 257 9 = some (.aload_n 0, 1) by decide +kernel) rfl rfl,
  fun _ _ _ _ _ _ _ => r_iload_n (show zdec 257 10 = some (.iload_n 1, 1) by decide +kernel) rfl rfl,
  fun _ _ _ _ _ _ _ => r_iload_n (show zdec 257 11 = some (.iload_n 2, 1) by decide +kernel) rfl rfl,
  fun _ _ _ _ _ _ _ _ _ _ => r_cV [_, _] rfl (show zdec 257 12 = some (.invokevirtual 176, 3) by decide +kernel) (show zst.lookup (257 * zKEY + 176) = some (1, 258, 2, 12) by decide +kernel) (by decide) rfl,
  fun _ _ _ _ _ _ _ => r_goto (show zdec 257 15 = some (.goto 4, 3) by decide +kernel) rfl,
  fun _ _ _ _ _ _ _ => r_iconst (show zdec 257 18 = some (.iconst (-1), 1) by decide +kernel) rfl rfl,
  fun _ _ _ _ _ _ _ _ => r_istore (show zdec 257 19 = some (.istore 4, 2) by decide +kernel) rfl (Nat.le_of_ble_eq_true rfl) rfl rfl,
  fun _ _ _ _ _ _ _ => r_iload (show zdec 257 21 = some (.iload 4, 2) by decide +kernel) rfl rfl,
  fun _ _ _ _ _ _ _ _ => r_ifge (show zdec 257 23 = some (.ifCond .ge 9, 3) by decide +kernel) rfl rfl,
  fun _ _ _ _ _ _ _ => r_iload (show zdec 257 26 = some (.iload 4, 2) by decide +kernel) rfl rfl,
  fun _ _ _ _ _ _ _ _ => r_i2l (show zdec 257 28 = some (.i2l, 1) by decide +kernel) rfl,
  fun _ _ _ _ _ _ _ => r_goto (show zdec 257 29 = some (.goto 10, 3) by decide +kernel) rfl,
  fun _ _ _ _ _ _ _ => r_aload_nr (show zdec 257 32 = some (.aload_n 0, 1) by decide +kernel) rfl rfl,
  fun _ _ _ _ _ _ _ => r_iload_n (show zdec 257 33 = some (.iload_n 1, 1) by decide +kernel) rfl rfl,
  fun _ _ _ _ _ _ _ => r_iload_n (show zdec 257 34 = some (.iload_n 2, 1) by decide +kernel) rfl rfl,
  fun _ _ _ _ _ _ _ => r_iload_n (show zdec 257 35 = some (.iload_n 3, 1) by decide +kernel) rfl rfl,
  fun _ _ _ _ _ _ _ _ _ _ _ => r_cV [_, _, _] rfl (show zdec 257 36 = some (.invokevirtual 144, 3) by decide +kernel) (show zst.lookup (257 * zKEY + 144) = some (1, 245, 3, 12) by decide +kernel) (by decide) rfl,
  fun _ _ _ _ _ _ _ => r_lret (show zdec 257 39 = some (.lreturn, 1) by decide +kernel) (by decide +kernel)⟩
theorem ze_257 : ∀ (a0 : Nat) (a1 : Int32) (a2 : Int32) (a3 : Int32) (h : zH), ev 257 [.ref a0, .int a1, .int a2, .int a3] h = rn 257 0 [.ref a0, .int a1, .int a2, .int a3, .float 0] [] h := fun _ _ _ _ _ => if_pos (Nat.le_of_ble_eq_true rfl)
-- PayrollRunModel.why(II)I
theorem zr_258 : (∀ (l0 l2 : Value) (x : Int32) (S : List Value) (h : zH), rn 258 0 [l0, .int x, l2] S h = rn 258 1 [l0, .int x, l2] (.int x :: S) h) ∧
  (∀ (l0 l1 l2 : Value) (v0 : Value) (S : List Value) (h : zH), rn 258 1 [l0, l1, l2] (v0 :: S) h = if zsum S ≤ 8 then zcall (ev 210 [v0] h) (fun v h => rn 258 4 [l0, l1, l2] (zpush v S) h) else none) ∧
  (∀ (l0 l1 l2 : Value) (x : Int32) (S : List Value) (h : zH), rn 258 4 [l0, l1, l2] (.int x :: S) h = if x = nI 0 then rn 258 14 [l0, l1, l2] S h else rn 258 7 [l0, l1, l2] S h) ∧
  (∀ (l0 l1 : Value) (x : Int32) (S : List Value) (h : zH), rn 258 7 [l0, l1, .int x] S h = rn 258 8 [l0, l1, .int x] (.int x :: S) h) ∧
  (∀ (l0 l1 l2 : Value) (v0 : Value) (S : List Value) (h : zH), rn 258 8 [l0, l1, l2] (v0 :: S) h = if zsum S ≤ 8 then zcall (ev 212 [v0] h) (fun v h => rn 258 11 [l0, l1, l2] (zpush v S) h) else none) ∧
  (∀ (l0 l1 l2 : Value) (x : Int32) (S : List Value) (h : zH), rn 258 11 [l0, l1, l2] (.int x :: S) h = if x = nI 0 then rn 258 14 [l0, l1, l2] S h else rn 258 18 [l0, l1, l2] S h) ∧
  (∀ (l0 l1 l2 : Value) (S : List Value) (h : zH), rn 258 14 [l0, l1, l2] S h = rn 258 15 [l0, l1, l2] (.int (-1) :: S) h) ∧
  (∀ (l0 l1 l2 : Value) (S : List Value) (h : zH), rn 258 15 [l0, l1, l2] S h = rn 258 32 [l0, l1, l2] S h) ∧
  (∀ (l0 l1 : Value) (x : Int32) (S : List Value) (h : zH), rn 258 18 [l0, l1, .int x] S h = rn 258 19 [l0, l1, .int x] (.int x :: S) h) ∧
  (∀ (l1 l2 : Value) (x : Nat) (S : List Value) (h : zH), rn 258 19 [.ref x, l1, l2] S h = rn 258 20 [.ref x, l1, l2] (.ref x :: S) h) ∧
  (∀ (l0 l1 l2 : Value) (o : Nat) (S : List Value) (h : zH), rn 258 20 [l0, l1, l2] (.ref o :: S) h = if zkd h o = 12 ∧ zsum S ≤ 8 then zcall (ev 233 [.ref o] h) (fun v h => rn 258 23 [l0, l1, l2] (zpush v S) h) else none) ∧
  (∀ (l0 l1 l2 : Value) (x : Int32) (y : Int32) (S : List Value) (h : zH), rn 258 23 [l0, l1, l2] (.int y :: .int x :: S) h = if x < y then rn 258 31 [l0, l1, l2] S h else rn 258 26 [l0, l1, l2] S h) ∧
  (∀ (l0 l1 l2 : Value) (S : List Value) (h : zH), rn 258 26 [l0, l1, l2] S h = rn 258 28 [l0, l1, l2] (.int (-2) :: S) h) ∧
  (∀ (l0 l1 l2 : Value) (S : List Value) (h : zH), rn 258 28 [l0, l1, l2] S h = rn 258 32 [l0, l1, l2] S h) ∧
  (∀ (l0 l1 l2 : Value) (S : List Value) (h : zH), rn 258 31 [l0, l1, l2] S h = rn 258 32 [l0, l1, l2] (.int (nI 0) :: S) h) ∧
  (∀ (l0 l1 l2 : Value) (x : Int32) (h : zH), rn 258 32 [l0, l1, l2] [.int x] h = some (some (.int x), h)) := ⟨fun _ _ _ _ _ => r_iload_n (show zdec 258 0 = some (.iload_n 1, 1) by decide +kernel) rfl rfl,
  fun _ _ _ _ _ _ => r_cS [_] rfl (show zdec 258 1 = some (.invokestatic 71, 3) by decide +kernel) (show zst.lookup (258 * zKEY + 71) = some (0, 210, 1, 0) by decide +kernel) (by decide) rfl,
  fun _ _ _ _ _ _ => r_ifeq (show zdec 258 4 = some (.ifCond .eq 10, 3) by decide +kernel) rfl rfl,
  fun _ _ _ _ _ => r_iload_n (show zdec 258 7 = some (.iload_n 2, 1) by decide +kernel) rfl rfl,
  fun _ _ _ _ _ _ => r_cS [_] rfl (show zdec 258 8 = some (.invokestatic 75, 3) by decide +kernel) (show zst.lookup (258 * zKEY + 75) = some (0, 212, 1, 0) by decide +kernel) (by decide) rfl,
  fun _ _ _ _ _ _ => r_ifne (show zdec 258 11 = some (.ifCond .ne 7, 3) by decide +kernel) rfl rfl,
  fun _ _ _ _ _ => r_iconst (show zdec 258 14 = some (.iconst (-1), 1) by decide +kernel) rfl rfl,
  fun _ _ _ _ _ => r_goto (show zdec 258 15 = some (.goto 17, 3) by decide +kernel) rfl,
  fun _ _ _ _ _ => r_iload_n (show zdec 258 18 = some (.iload_n 2, 1) by decide +kernel) rfl rfl,
  fun _ _ _ _ _ => r_aload_nr (show zdec 258 19 = some (.aload_n 0, 1) by decide +kernel) rfl rfl,
  fun _ _ _ _ _ _ => r_cV [] rfl (show zdec 258 20 = some (.invokevirtual 164, 3) by decide +kernel) (show zst.lookup (258 * zKEY + 164) = some (1, 233, 0, 12) by decide +kernel) (by decide) rfl,
  fun _ _ _ _ _ _ _ => r_icmplt (show zdec 258 23 = some (.if_icmp .lt 8, 3) by decide +kernel) rfl rfl,
  fun _ _ _ _ _ => r_bipush (show zdec 258 26 = some (.bipush (-2), 2) by decide +kernel) rfl rfl,
  fun _ _ _ _ _ => r_goto (show zdec 258 28 = some (.goto 4, 3) by decide +kernel) rfl,
  fun _ _ _ _ _ => r_iconst (show zdec 258 31 = some (.iconst 0, 1) by decide +kernel) rfl rfl,
  fun _ _ _ _ _ => r_ireti (show zdec 258 32 = some (.ireturn, 1) by decide +kernel) (by decide +kernel)⟩
theorem ze_258 : ∀ (a0 : Nat) (a1 : Int32) (a2 : Int32) (h : zH), ev 258 [.ref a0, .int a1, .int a2] h = rn 258 0 [.ref a0, .int a1, .int a2] [] h := fun _ _ _ _ => if_pos (Nat.le_of_ble_eq_true rfl)
-- PayrollRunModel.pending(I)J
theorem zr_259 : (∀ (l0 l2 l3 l4 : Value) (x : Int32) (S : List Value) (h : zH), rn 259 0 [l0, .int x, l2, l3, l4] S h = rn 259 1 [l0, .int x, l2, l3, l4] (.int x :: S) h) ∧
  (∀ (l0 l1 l2 l3 l4 : Value) (v0 : Value) (S : List Value) (h : zH), rn 259 1 [l0, l1, l2, l3, l4] (v0 :: S) h = if zsum S ≤ 8 then zcall (ev 210 [v0] h) (fun v h => rn 259 4 [l0, l1, l2, l3, l4] (zpush v S) h) else none) ∧
  (∀ (l0 l1 l2 l3 l4 : Value) (x : Int32) (S : List Value) (h : zH), rn 259 4 [l0, l1, l2, l3, l4] (.int x :: S) h = if x = nI 0 then rn 259 7 [l0, l1, l2, l3, l4] S h else rn 259 11 [l0, l1, l2, l3, l4] S h) ∧
  (∀ (l0 l1 l2 l3 l4 : Value) (S : List Value) (h : zH), rn 259 7 [l0, l1, l2, l3, l4] S h = rn 259 10 [l0, l1, l2, l3, l4] (.long (-9223372036854775808) :: S) h) ∧
  (∀ (l0 l1 l2 l3 l4 : Value) (x : Int64) (h : zH), rn 259 10 [l0, l1, l2, l3, l4] [.long x] h = some (some (.long x), h)) ∧
  (∀ (l0 l1 l2 l3 l4 : Value) (S : List Value) (h : zH), rn 259 11 [l0, l1, l2, l3, l4] S h = rn 259 12 [l0, l1, l2, l3, l4] (.long 0 :: S) h) ∧
  (∀ (l0 l1 l2 l3 l4 : Value) (x : Int64) (S : List Value) (h : zH), rn 259 12 [l0, l1, l2, l3, l4] (.long x :: S) h = nl l1 (rn 259 13 [l0, l1, .long x, .float 0, l4] S h)) ∧
  (∀ (l0 l1 l2 l3 l4 : Value) (S : List Value) (h : zH), rn 259 13 [l0, l1, l2, l3, l4] S h = rn 259 14 [l0, l1, l2, l3, l4] (.int (nI 0) :: S) h) ∧
  (∀ (l0 l1 l2 l3 l4 : Value) (x : Int32) (S : List Value) (h : zH), rn 259 14 [l0, l1, l2, l3, l4] (.int x :: S) h = nl l3 (rn 259 16 [l0, l1, l2, l3, .int x] S h)) ∧
  (∀ (l1 l2 l3 l4 : Value) (x : Nat) (S : List Value) (h : zH), rn 259 18 [.ref x, l1, l2, l3, l4] S h = rn 259 19 [.ref x, l1, l2, l3, l4] (.ref x :: S) h) ∧
  (∀ (l0 l1 l2 l3 l4 : Value) (o : Nat) (S : List Value) (h : zH), rn 259 19 [l0, l1, l2, l3, l4] (.ref o :: S) h = if zkd h o = 12 ∧ zsum S ≤ 8 then zcall (ev 233 [.ref o] h) (fun v h => rn 259 22 [l0, l1, l2, l3, l4] (zpush v S) h) else none) ∧
  (∀ (l0 l1 l2 l3 l4 : Value) (x : Int32) (y : Int32) (S : List Value) (h : zH), rn 259 22 [l0, l1, l2, l3, l4] (.int y :: .int x :: S) h = if y ≤ x then rn 259 51 [l0, l1, l2, l3, l4] S h else rn 259 25 [l0, l1, l2, l3, l4] S h) ∧
  (∀ (l0 l1 l3 l4 : Value) (x : Int64) (S : List Value) (h : zH), rn 259 25 [l0, l1, .long x, l3, l4] S h = rn 259 26 [l0, l1, .long x, l3, l4] (.long x :: S) h) ∧
  (∀ (l1 l2 l3 l4 : Value) (x : Nat) (S : List Value) (h : zH), rn 259 26 [.ref x, l1, l2, l3, l4] S h = rn 259 27 [.ref x, l1, l2, l3, l4] (.ref x :: S) h) ∧
  (∀ (l0 l2 l3 l4 : Value) (x : Int32) (S : List Value) (h : zH), rn 259 27 [l0, .int x, l2, l3, l4] S h = rn 259 28 [l0, .int x, l2, l3, l4] (.int x :: S) h) ∧
  (∀ (l0 l1 l2 l3 : Value) (x : Int32) (S : List Value) (h : zH), rn 259 28 [l0, l1, l2, l3, .int x] S h = rn 259 30 [l0, l1, l2, l3, .int x] (.int x :: S) h) ∧
  (∀ (l0 l1 l2 l3 l4 : Value) (S : List Value) (h : zH), rn 259 30 [l0, l1, l2, l3, l4] S h = rn 259 31 [l0, l1, l2, l3, l4] (.int (nI 4) :: S) h) ∧
  (∀ (l0 l1 l2 l3 l4 : Value) (o : Nat) (v0 : Value) (v1 : Value) (v2 : Value) (S : List Value) (h : zH), rn 259 31 [l0, l1, l2, l3, l4] (v2 :: v1 :: v0 :: .ref o :: S) h = if zkd h o = 12 ∧ zsum S ≤ 8 then zcall (ev 237 [.ref o, v0, v1, v2] h) (fun v h => rn 259 34 [l0, l1, l2, l3, l4] (zpush v S) h) else none) ∧
  (∀ (l1 l2 l3 l4 : Value) (x : Nat) (S : List Value) (h : zH), rn 259 34 [.ref x, l1, l2, l3, l4] S h = rn 259 35 [.ref x, l1, l2, l3, l4] (.ref x :: S) h) ∧
  (∀ (l0 l2 l3 l4 : Value) (x : Int32) (S : List Value) (h : zH), rn 259 35 [l0, .int x, l2, l3, l4] S h = rn 259 36 [l0, .int x, l2, l3, l4] (.int x :: S) h) ∧
  (∀ (l0 l1 l2 l3 : Value) (x : Int32) (S : List Value) (h : zH), rn 259 36 [l0, l1, l2, l3, .int x] S h = rn 259 38 [l0, l1, l2, l3, .int x] (.int x :: S) h) ∧
  (∀ (l0 l1 l2 l3 l4 : Value) (S : List Value) (h : zH), rn 259 38 [l0, l1, l2, l3, l4] S h = rn 259 39 [l0, l1, l2, l3, l4] (.int (nI 4) :: S) h) ∧
  (∀ (l0 l1 l2 l3 l4 : Value) (o : Nat) (v0 : Value) (v1 : Value) (v2 : Value) (S : List Value) (h : zH), rn 259 39 [l0, l1, l2, l3, l4] (v2 :: v1 :: v0 :: .ref o :: S) h = if zkd h o = 12 ∧ zsum S ≤ 8 then zcall (ev 245 [.ref o, v0, v1, v2] h) (fun v h => rn 259 42 [l0, l1, l2, l3, l4] (zpush v S) h) else none) ∧
  (∀ (l0 l1 l2 l3 l4 : Value) (x : Int64) (y : Int64) (S : List Value) (h : zH), rn 259 42 [l0, l1, l2, l3, l4] (.long y :: .long x :: S) h = rn 259 43 [l0, l1, l2, l3, l4] (.long (x - y) :: S) h) ∧
  (∀ (l0 l1 l2 l3 l4 : Value) (x : Int64) (y : Int64) (S : List Value) (h : zH), rn 259 43 [l0, l1, l2, l3, l4] (.long y :: .long x :: S) h = rn 259 44 [l0, l1, l2, l3, l4] (.long (x + y) :: S) h) ∧
  (∀ (l0 l1 l2 l3 l4 : Value) (x : Int64) (S : List Value) (h : zH), rn 259 44 [l0, l1, l2, l3, l4] (.long x :: S) h = nl l1 (rn 259 45 [l0, l1, .long x, .float 0, l4] S h)) ∧
  (∀ (l0 l1 l2 l3 : Value) (x : Int32) (S : List Value) (h : zH), rn 259 45 [l0, l1, l2, l3, .int x] S h = nl l3 (rn 259 48 [l0, l1, l2, l3, .int (x + (nI 1))] S h)) ∧
  (∀ (l0 l1 l2 l3 l4 : Value) (S : List Value) (h : zH), rn 259 48 [l0, l1, l2, l3, l4] S h = rn 259 16 [l0, l1, l2, l3, l4] S h) ∧
  (∀ (l0 l1 l3 l4 : Value) (x : Int64) (S : List Value) (h : zH), rn 259 51 [l0, l1, .long x, l3, l4] S h = rn 259 52 [l0, l1, .long x, l3, l4] (.long x :: S) h) ∧
  (∀ (l0 l1 l2 l3 l4 : Value) (x : Int64) (h : zH), rn 259 52 [l0, l1, l2, l3, l4] [.long x] h = some (some (.long x), h)) := ⟨fun _ _ _ _ _ _ _ => r_iload_n (show zdec 259 0 = some (.iload_n 1, 1) by decide +kernel) rfl rfl,
  fun _ _ _ _ _ _ _ _ => r_cS [_] rfl (show zdec 259 1 = some (.invokestatic 71, 3) by decide +kernel) (show zst.lookup (259 * zKEY + 71) = some (0, 210, 1, 0) by decide +kernel) (by decide) rfl,
  fun _ _ _ _ _ _ _ _ => r_ifne (show zdec 259 4 = some (.ifCond .ne 7, 3) by decide +kernel) rfl rfl,
  fun _ _ _ _ _ _ _ => r_ldc2 (show zdec 259 7 = some (.ldc2_w 181, 3) by decide +kernel) (show zlt.lookup (259 * zKEY + 181) = some (-9223372036854775808) by decide +kernel) rfl,
  fun _ _ _ _ _ _ _ => r_lret (show zdec 259 10 = some (.lreturn, 1) by decide +kernel) (by decide +kernel),
  fun _ _ _ _ _ _ _ => r_lconst (show zdec 259 11 = some (.lconst 0, 1) by decide +kernel) rfl rfl,
  fun _ _ _ _ _ _ _ _ => r_lstore_n (show zdec 259 12 = some (.lstore_n 2, 1) by decide +kernel) rfl rfl (Nat.le_of_ble_eq_true rfl) rfl rfl,
  fun _ _ _ _ _ _ _ => r_iconst (show zdec 259 13 = some (.iconst 0, 1) by decide +kernel) rfl rfl,
  fun _ _ _ _ _ _ _ _ => r_istore (show zdec 259 14 = some (.istore 4, 2) by decide +kernel) rfl (Nat.le_of_ble_eq_true rfl) rfl rfl,
  fun _ _ _ _ _ _ _ => r_aload_nr (show zdec 259 18 = some (.aload_n 0, 1) by decide +kernel) rfl rfl,
  fun _ _ _ _ _ _ _ _ => r_cV [] rfl (show zdec 259 19 = some (.invokevirtual 164, 3) by decide +kernel) (show zst.lookup (259 * zKEY + 164) = some (1, 233, 0, 12) by decide +kernel) (by decide) rfl,
  fun _ _ _ _ _ _ _ _ _ => r_icmpge (show zdec 259 22 = some (.if_icmp .ge 29, 3) by decide +kernel) rfl rfl,
  fun _ _ _ _ _ _ _ => r_lload_n (show zdec 259 25 = some (.lload_n 2, 1) by decide +kernel) rfl rfl,
  fun _ _ _ _ _ _ _ => r_aload_nr (show zdec 259 26 = some (.aload_n 0, 1) by decide +kernel) rfl rfl,
  fun _ _ _ _ _ _ _ => r_iload_n (show zdec 259 27 = some (.iload_n 1, 1) by decide +kernel) rfl rfl,
  fun _ _ _ _ _ _ _ => r_iload (show zdec 259 28 = some (.iload 4, 2) by decide +kernel) rfl rfl,
  fun _ _ _ _ _ _ _ => r_iconst (show zdec 259 30 = some (.iconst 4, 1) by decide +kernel) rfl rfl,
  fun _ _ _ _ _ _ _ _ _ _ _ => r_cV [_, _, _] rfl (show zdec 259 31 = some (.invokevirtual 136, 3) by decide +kernel) (show zst.lookup (259 * zKEY + 136) = some (1, 237, 3, 12) by decide +kernel) (by decide) rfl,
  fun _ _ _ _ _ _ _ => r_aload_nr (show zdec 259 34 = some (.aload_n 0, 1) by decide +kernel) rfl rfl,
  fun _ _ _ _ _ _ _ => r_iload_n (show zdec 259 35 = some (.iload_n 1, 1) by decide +kernel) rfl rfl,
  fun _ _ _ _ _ _ _ => r_iload (show zdec 259 36 = some (.iload 4, 2) by decide +kernel) rfl rfl,
  fun _ _ _ _ _ _ _ => r_iconst (show zdec 259 38 = some (.iconst 4, 1) by decide +kernel) rfl rfl,
  fun _ _ _ _ _ _ _ _ _ _ _ => r_cV [_, _, _] rfl (show zdec 259 39 = some (.invokevirtual 144, 3) by decide +kernel) (show zst.lookup (259 * zKEY + 144) = some (1, 245, 3, 12) by decide +kernel) (by decide) rfl,
  fun _ _ _ _ _ _ _ _ _ => r_lsub (show zdec 259 42 = some (.lsub, 1) by decide +kernel) rfl,
  fun _ _ _ _ _ _ _ _ _ => r_ladd (show zdec 259 43 = some (.ladd, 1) by decide +kernel) rfl,
  fun _ _ _ _ _ _ _ _ => r_lstore_n (show zdec 259 44 = some (.lstore_n 2, 1) by decide +kernel) rfl rfl (Nat.le_of_ble_eq_true rfl) rfl rfl,
  fun _ _ _ _ _ _ _ => r_iinc (show zdec 259 45 = some (.iinc 4 1, 3) by decide +kernel) rfl rfl rfl (Nat.le_of_ble_eq_true rfl) rfl rfl,
  fun _ _ _ _ _ _ _ => r_goto (show zdec 259 48 = some (.goto (-32), 3) by decide +kernel) rfl,
  fun _ _ _ _ _ _ _ => r_lload_n (show zdec 259 51 = some (.lload_n 2, 1) by decide +kernel) rfl rfl,
  fun _ _ _ _ _ _ _ => r_lret (show zdec 259 52 = some (.lreturn, 1) by decide +kernel) (by decide +kernel)⟩
theorem zl_259_16 : ∀ (l0 l1 l2 l3 : Value) (x : Int32) (S : List Value) (h : zH), rn 259 16 [l0, l1, l2, l3, .int x] S h = rn 259 18 [l0, l1, l2, l3, .int x] (.int x :: S) h := fun _ _ _ _ _ _ _ => r_iload (show zdec 259 16 = some (.iload 4, 2) by decide +kernel) rfl rfl
theorem ze_259 : ∀ (a0 : Nat) (a1 : Int32) (h : zH), ev 259 [.ref a0, .int a1] h = rn 259 0 [.ref a0, .int a1, .float 0, .float 0, .float 0] [] h := fun _ _ _ => if_pos (Nat.le_of_ble_eq_true rfl)
-- PayrollRunModel.owed(I)J
theorem zr_260 : (∀ (l0 : Value) (x : Int32) (S : List Value) (h : zH), rn 260 0 [l0, .int x] S h = rn 260 1 [l0, .int x] (.int x :: S) h) ∧
  (∀ (l0 l1 : Value) (v0 : Value) (S : List Value) (h : zH), rn 260 1 [l0, l1] (v0 :: S) h = if zsum S ≤ 8 then zcall (ev 210 [v0] h) (fun v h => rn 260 4 [l0, l1] (zpush v S) h) else none) ∧
  (∀ (l0 l1 : Value) (x : Int32) (S : List Value) (h : zH), rn 260 4 [l0, l1] (.int x :: S) h = if x = nI 0 then rn 260 16 [l0, l1] S h else rn 260 7 [l0, l1] S h) ∧
  (∀ (l1 : Value) (x : Nat) (S : List Value) (h : zH), rn 260 7 [.ref x, l1] S h = rn 260 8 [.ref x, l1] (.ref x :: S) h) ∧
  (∀ (l0 : Value) (x : Int32) (S : List Value) (h : zH), rn 260 8 [l0, .int x] S h = rn 260 9 [l0, .int x] (.int x :: S) h) ∧
  (∀ (l0 l1 : Value) (S : List Value) (h : zH), rn 260 9 [l0, l1] S h = rn 260 10 [l0, l1] (.int (nI 1) :: S) h) ∧
  (∀ (l0 l1 : Value) (o : Nat) (v0 : Value) (v1 : Value) (S : List Value) (h : zH), rn 260 10 [l0, l1] (v1 :: v0 :: .ref o :: S) h = if zkd h o = 12 ∧ zsum S ≤ 8 then zcall (ev 226 [.ref o, v0, v1] h) (fun v h => rn 260 13 [l0, l1] (zpush v S) h) else none) ∧
  (∀ (l0 l1 : Value) (S : List Value) (h : zH), rn 260 13 [l0, l1] S h = rn 260 19 [l0, l1] S h) ∧
  (∀ (l0 l1 : Value) (S : List Value) (h : zH), rn 260 16 [l0, l1] S h = rn 260 19 [l0, l1] (.long (-1) :: S) h) ∧
  (∀ (l0 l1 : Value) (x : Int64) (h : zH), rn 260 19 [l0, l1] [.long x] h = some (some (.long x), h)) := ⟨fun _ _ _ _ => r_iload_n (show zdec 260 0 = some (.iload_n 1, 1) by decide +kernel) rfl rfl,
  fun _ _ _ _ _ => r_cS [_] rfl (show zdec 260 1 = some (.invokestatic 71, 3) by decide +kernel) (show zst.lookup (260 * zKEY + 71) = some (0, 210, 1, 0) by decide +kernel) (by decide) rfl,
  fun _ _ _ _ _ => r_ifeq (show zdec 260 4 = some (.ifCond .eq 12, 3) by decide +kernel) rfl rfl,
  fun _ _ _ _ => r_aload_nr (show zdec 260 7 = some (.aload_n 0, 1) by decide +kernel) rfl rfl,
  fun _ _ _ _ => r_iload_n (show zdec 260 8 = some (.iload_n 1, 1) by decide +kernel) rfl rfl,
  fun _ _ _ _ => r_iconst (show zdec 260 9 = some (.iconst 1, 1) by decide +kernel) rfl rfl,
  fun _ _ _ _ _ _ _ => r_cV [_, _] rfl (show zdec 260 10 = some (.invokevirtual 85, 3) by decide +kernel) (show zst.lookup (260 * zKEY + 85) = some (1, 226, 2, 12) by decide +kernel) (by decide) rfl,
  fun _ _ _ _ => r_goto (show zdec 260 13 = some (.goto 6, 3) by decide +kernel) rfl,
  fun _ _ _ _ => r_ldc2 (show zdec 260 16 = some (.ldc2_w 174, 3) by decide +kernel) (show zlt.lookup (260 * zKEY + 174) = some (-1) by decide +kernel) rfl,
  fun _ _ _ _ => r_lret (show zdec 260 19 = some (.lreturn, 1) by decide +kernel) (by decide +kernel)⟩
theorem ze_260 : ∀ (a0 : Nat) (a1 : Int32) (h : zH), ev 260 [.ref a0, .int a1] h = rn 260 0 [.ref a0, .int a1] [] h := fun _ _ _ => if_pos (Nat.le_of_ble_eq_true rfl)
-- PayrollRunModel.lineCount(II)I
theorem zr_261 : (∀ (l1 l2 l3 : Value) (x : Nat) (S : List Value) (h : zH), rn 261 0 [.ref x, l1, l2, l3] S h = rn 261 1 [.ref x, l1, l2, l3] (.ref x :: S) h) ∧
  (∀ (l0 l2 l3 : Value) (x : Int32) (S : List Value) (h : zH), rn 261 1 [l0, .int x, l2, l3] S h = rn 261 2 [l0, .int x, l2, l3] (.int x :: S) h) ∧
  (∀ (l0 l1 l3 : Value) (x : Int32) (S : List Value) (h : zH), rn 261 2 [l0, l1, .int x, l3] S h = rn 261 3 [l0, l1, .int x, l3] (.int x :: S) h) ∧
  (∀ (l0 l1 l2 l3 : Value) (o : Nat) (v0 : Value) (v1 : Value) (S : List Value) (h : zH), rn 261 3 [l0, l1, l2, l3] (v1 :: v0 :: .ref o :: S) h = if zkd h o = 12 ∧ zsum S ≤ 8 then zcall (ev 258 [.ref o, v0, v1] h) (fun v h => rn 261 6 [l0, l1, l2, l3] (zpush v S) h) else none) ∧
  (∀ (l0 l1 l2 l3 : Value) (x : Int32) (S : List Value) (h : zH), rn 261 6 [l0, l1, l2, l3] (.int x :: S) h = nl l2 (rn 261 7 [l0, l1, l2, .int x] S h)) ∧
  (∀ (l0 l1 l2 : Value) (x : Int32) (S : List Value) (h : zH), rn 261 7 [l0, l1, l2, .int x] S h = rn 261 8 [l0, l1, l2, .int x] (.int x :: S) h) ∧
  (∀ (l0 l1 l2 l3 : Value) (x : Int32) (S : List Value) (h : zH), rn 261 8 [l0, l1, l2, l3] (.int x :: S) h = if nI 0 ≤ x then rn 261 15 [l0, l1, l2, l3] S h else rn 261 11 [l0, l1, l2, l3] S h) ∧
  (∀ (l0 l1 l2 : Value) (x : Int32) (S : List Value) (h : zH), rn 261 11 [l0, l1, l2, .int x] S h = rn 261 12 [l0, l1, l2, .int x] (.int x :: S) h) ∧
  (∀ (l0 l1 l2 l3 : Value) (S : List Value) (h : zH), rn 261 12 [l0, l1, l2, l3] S h = rn 261 26 [l0, l1, l2, l3] S h) ∧
  (∀ (l1 l2 l3 : Value) (x : Nat) (S : List Value) (h : zH), rn 261 15 [.ref x, l1, l2, l3] S h = rn 261 16 [.ref x, l1, l2, l3] (.ref x :: S) h) ∧
  (∀ (l0 l2 l3 : Value) (x : Int32) (S : List Value) (h : zH), rn 261 16 [l0, .int x, l2, l3] S h = rn 261 17 [l0, .int x, l2, l3] (.int x :: S) h) ∧
  (∀ (l0 l1 l2 l3 : Value) (S : List Value) (h : zH), rn 261 17 [l0, l1, l2, l3] S h = rn 261 20 [l0, l1, l2, l3] (.int (nI 147) :: S) h) ∧
  (∀ (l0 l1 l3 : Value) (x : Int32) (S : List Value) (h : zH), rn 261 20 [l0, l1, .int x, l3] S h = rn 261 21 [l0, l1, .int x, l3] (.int x :: S) h) ∧
  (∀ (l0 l1 l2 l3 : Value) (x : Int32) (y : Int32) (S : List Value) (h : zH), rn 261 21 [l0, l1, l2, l3] (.int y :: .int x :: S) h = rn 261 22 [l0, l1, l2, l3] (.int (x + y) :: S) h) ∧
  (∀ (l0 l1 l2 l3 : Value) (o : Nat) (v0 : Value) (v1 : Value) (S : List Value) (h : zH), rn 261 22 [l0, l1, l2, l3] (v1 :: v0 :: .ref o :: S) h = if zkd h o = 12 ∧ zsum S ≤ 8 then zcall (ev 226 [.ref o, v0, v1] h) (fun v h => rn 261 25 [l0, l1, l2, l3] (zpush v S) h) else none) ∧
  (∀ (l0 l1 l2 l3 : Value) (x : Int64) (S : List Value) (h : zH), rn 261 25 [l0, l1, l2, l3] (.long x :: S) h = rn 261 26 [l0, l1, l2, l3] (.int x.toInt32 :: S) h) ∧
  (∀ (l0 l1 l2 l3 : Value) (x : Int32) (h : zH), rn 261 26 [l0, l1, l2, l3] [.int x] h = some (some (.int x), h)) := ⟨fun _ _ _ _ _ _ => r_aload_nr (show zdec 261 0 = some (.aload_n 0, 1) by decide +kernel) rfl rfl,
  fun _ _ _ _ _ _ => r_iload_n (show zdec 261 1 = some (.iload_n 1, 1) by decide +kernel) rfl rfl,
  fun _ _ _ _ _ _ => r_iload_n (show zdec 261 2 = some (.iload_n 2, 1) by decide +kernel) rfl rfl,
  fun _ _ _ _ _ _ _ _ _ => r_cV [_, _] rfl (show zdec 261 3 = some (.invokevirtual 176, 3) by decide +kernel) (show zst.lookup (261 * zKEY + 176) = some (1, 258, 2, 12) by decide +kernel) (by decide) rfl,
  fun _ _ _ _ _ _ _ => r_istore_n (show zdec 261 6 = some (.istore_n 3, 1) by decide +kernel) rfl rfl (Nat.le_of_ble_eq_true rfl) rfl rfl,
  fun _ _ _ _ _ _ => r_iload_n (show zdec 261 7 = some (.iload_n 3, 1) by decide +kernel) rfl rfl,
  fun _ _ _ _ _ _ _ => r_ifge (show zdec 261 8 = some (.ifCond .ge 7, 3) by decide +kernel) rfl rfl,
  fun _ _ _ _ _ _ => r_iload_n (show zdec 261 11 = some (.iload_n 3, 1) by decide +kernel) rfl rfl,
  fun _ _ _ _ _ _ => r_goto (show zdec 261 12 = some (.goto 14, 3) by decide +kernel) rfl,
  fun _ _ _ _ _ _ => r_aload_nr (show zdec 261 15 = some (.aload_n 0, 1) by decide +kernel) rfl rfl,
  fun _ _ _ _ _ _ => r_iload_n (show zdec 261 16 = some (.iload_n 1, 1) by decide +kernel) rfl rfl,
  fun _ _ _ _ _ _ => r_sipush (show zdec 261 17 = some (.sipush 147, 3) by decide +kernel) rfl rfl,
  fun _ _ _ _ _ _ => r_iload_n (show zdec 261 20 = some (.iload_n 2, 1) by decide +kernel) rfl rfl,
  fun _ _ _ _ _ _ _ _ => r_iadd (show zdec 261 21 = some (.iadd, 1) by decide +kernel) rfl,
  fun _ _ _ _ _ _ _ _ _ => r_cV [_, _] rfl (show zdec 261 22 = some (.invokevirtual 85, 3) by decide +kernel) (show zst.lookup (261 * zKEY + 85) = some (1, 226, 2, 12) by decide +kernel) (by decide) rfl,
  fun _ _ _ _ _ _ _ => r_l2i (show zdec 261 25 = some (.l2i, 1) by decide +kernel) rfl,
  fun _ _ _ _ _ _ => r_ireti (show zdec 261 26 = some (.ireturn, 1) by decide +kernel) (by decide +kernel)⟩
theorem ze_261 : ∀ (a0 : Nat) (a1 : Int32) (a2 : Int32) (h : zH), ev 261 [.ref a0, .int a1, .int a2] h = rn 261 0 [.ref a0, .int a1, .int a2, .float 0] [] h := fun _ _ _ _ => if_pos (Nat.le_of_ble_eq_true rfl)
-- PayrollRunModel.line(IIII)I
theorem zr_262 : (∀ (l0 l1 l2 l3 l5 : Value) (x : Int32) (S : List Value) (h : zH), rn 262 0 [l0, l1, l2, l3, .int x, l5] S h = rn 262 2 [l0, l1, l2, l3, .int x, l5] (.int x :: S) h) ∧
  (∀ (l0 l1 l2 l3 l4 l5 : Value) (S : List Value) (h : zH), rn 262 2 [l0, l1, l2, l3, l4, l5] S h = rn 262 3 [l0, l1, l2, l3, l4, l5] (.int (nI 0) :: S) h) ∧
  (∀ (l0 l1 l2 l3 l4 l5 : Value) (S : List Value) (h : zH), rn 262 3 [l0, l1, l2, l3, l4, l5] S h = rn 262 4 [l0, l1, l2, l3, l4, l5] (.int (nI 2) :: S) h) ∧
  (∀ (l0 l1 l2 l3 l4 l5 : Value) (v0 : Value) (v1 : Value) (v2 : Value) (S : List Value) (h : zH), rn 262 4 [l0, l1, l2, l3, l4, l5] (v2 :: v1 :: v0 :: S) h = if zsum S ≤ 8 then zcall (ev 211 [v0, v1, v2] h) (fun v h => rn 262 7 [l0, l1, l2, l3, l4, l5] (zpush v S) h) else none) ∧
  (∀ (l0 l1 l2 l3 l4 l5 : Value) (x : Int32) (S : List Value) (h : zH), rn 262 7 [l0, l1, l2, l3, l4, l5] (.int x :: S) h = if x = nI 0 then rn 262 19 [l0, l1, l2, l3, l4, l5] S h else rn 262 10 [l0, l1, l2, l3, l4, l5] S h) ∧
  (∀ (l1 l2 l3 l4 l5 : Value) (x : Nat) (S : List Value) (h : zH), rn 262 10 [.ref x, l1, l2, l3, l4, l5] S h = rn 262 11 [.ref x, l1, l2, l3, l4, l5] (.ref x :: S) h) ∧
  (∀ (l0 l2 l3 l4 l5 : Value) (x : Int32) (S : List Value) (h : zH), rn 262 11 [l0, .int x, l2, l3, l4, l5] S h = rn 262 12 [l0, .int x, l2, l3, l4, l5] (.int x :: S) h) ∧
  (∀ (l0 l1 l3 l4 l5 : Value) (x : Int32) (S : List Value) (h : zH), rn 262 12 [l0, l1, .int x, l3, l4, l5] S h = rn 262 13 [l0, l1, .int x, l3, l4, l5] (.int x :: S) h) ∧
  (∀ (l0 l1 l2 l3 l4 l5 : Value) (o : Nat) (v0 : Value) (v1 : Value) (S : List Value) (h : zH), rn 262 13 [l0, l1, l2, l3, l4, l5] (v1 :: v0 :: .ref o :: S) h = if zkd h o = 12 ∧ zsum S ≤ 8 then zcall (ev 258 [.ref o, v0, v1] h) (fun v h => rn 262 16 [l0, l1, l2, l3, l4, l5] (zpush v S) h) else none) ∧
  (∀ (l0 l1 l2 l3 l4 l5 : Value) (S : List Value) (h : zH), rn 262 16 [l0, l1, l2, l3, l4, l5] S h = rn 262 20 [l0, l1, l2, l3, l4, l5] S h) ∧
  (∀ (l0 l1 l2 l3 l4 l5 : Value) (S : List Value) (h : zH), rn 262 19 [l0, l1, l2, l3, l4, l5] S h = rn 262 20 [l0, l1, l2, l3, l4, l5] (.int (-1) :: S) h) ∧
  (∀ (l0 l1 l2 l3 l4 l5 : Value) (x : Int32) (S : List Value) (h : zH), rn 262 20 [l0, l1, l2, l3, l4, l5] (.int x :: S) h = nl l4 (rn 262 22 [l0, l1, l2, l3, l4, .int x] S h)) ∧
  (∀ (l0 l1 l2 l3 l4 : Value) (x : Int32) (S : List Value) (h : zH), rn 262 22 [l0, l1, l2, l3, l4, .int x] S h = rn 262 24 [l0, l1, l2, l3, l4, .int x] (.int x :: S) h) ∧
  (∀ (l0 l1 l2 l3 l4 l5 : Value) (x : Int32) (S : List Value) (h : zH), rn 262 24 [l0, l1, l2, l3, l4, l5] (.int x :: S) h = if x = nI 0 then rn 262 27 [l0, l1, l2, l3, l4, l5] S h else rn 262 42 [l0, l1, l2, l3, l4, l5] S h) ∧
  (∀ (l1 l2 l3 l4 l5 : Value) (x : Nat) (S : List Value) (h : zH), rn 262 27 [.ref x, l1, l2, l3, l4, l5] S h = rn 262 28 [.ref x, l1, l2, l3, l4, l5] (.ref x :: S) h) ∧
  (∀ (l0 l2 l3 l4 l5 : Value) (x : Int32) (S : List Value) (h : zH), rn 262 28 [l0, .int x, l2, l3, l4, l5] S h = rn 262 29 [l0, .int x, l2, l3, l4, l5] (.int x :: S) h) ∧
  (∀ (l0 l1 l3 l4 l5 : Value) (x : Int32) (S : List Value) (h : zH), rn 262 29 [l0, l1, .int x, l3, l4, l5] S h = rn 262 30 [l0, l1, .int x, l3, l4, l5] (.int x :: S) h) ∧
  (∀ (l0 l1 l2 l4 l5 : Value) (x : Int32) (S : List Value) (h : zH), rn 262 30 [l0, l1, l2, .int x, l4, l5] S h = rn 262 31 [l0, l1, l2, .int x, l4, l5] (.int x :: S) h) ∧
  (∀ (l0 l1 l2 l3 l4 l5 : Value) (o : Nat) (v0 : Value) (v1 : Value) (v2 : Value) (S : List Value) (h : zH), rn 262 31 [l0, l1, l2, l3, l4, l5] (v2 :: v1 :: v0 :: .ref o :: S) h = if zkd h o = 12 ∧ zsum S ≤ 8 then zcall (ev 263 [.ref o, v0, v1, v2] h) (fun v h => rn 262 34 [l0, l1, l2, l3, l4, l5] (zpush v S) h) else none) ∧
  (∀ (l0 l1 l2 l3 l4 l5 : Value) (x : Int32) (S : List Value) (h : zH), rn 262 34 [l0, l1, l2, l3, l4, l5] (.int x :: S) h = if x = nI 0 then rn 262 37 [l0, l1, l2, l3, l4, l5] S h else rn 262 42 [l0, l1, l2, l3, l4, l5] S h) ∧
  (∀ (l0 l1 l2 l3 l4 l5 : Value) (S : List Value) (h : zH), rn 262 37 [l0, l1, l2, l3, l4, l5] S h = rn 262 39 [l0, l1, l2, l3, l4, l5] (.int (-2) :: S) h) ∧
  (∀ (l0 l1 l2 l3 l4 l5 : Value) (S : List Value) (h : zH), rn 262 39 [l0, l1, l2, l3, l4, l5] S h = rn 262 44 [l0, l1, l2, l3, l4, l5] S h) ∧
  (∀ (l0 l1 l2 l3 l4 : Value) (x : Int32) (S : List Value) (h : zH), rn 262 42 [l0, l1, l2, l3, l4, .int x] S h = rn 262 44 [l0, l1, l2, l3, l4, .int x] (.int x :: S) h) ∧
  (∀ (l0 l1 l2 l3 l4 l5 : Value) (x : Int32) (S : List Value) (h : zH), rn 262 44 [l0, l1, l2, l3, l4, l5] (.int x :: S) h = nl l4 (rn 262 46 [l0, l1, l2, l3, l4, .int x] S h)) ∧
  (∀ (l0 l1 l2 l3 l4 : Value) (x : Int32) (S : List Value) (h : zH), rn 262 46 [l0, l1, l2, l3, l4, .int x] S h = rn 262 48 [l0, l1, l2, l3, l4, .int x] (.int x :: S) h) ∧
  (∀ (l0 l1 l2 l3 l4 l5 : Value) (x : Int32) (S : List Value) (h : zH), rn 262 48 [l0, l1, l2, l3, l4, l5] (.int x :: S) h = if nI 0 ≤ x then rn 262 56 [l0, l1, l2, l3, l4, l5] S h else rn 262 51 [l0, l1, l2, l3, l4, l5] S h) ∧
  (∀ (l0 l1 l2 l3 l4 : Value) (x : Int32) (S : List Value) (h : zH), rn 262 51 [l0, l1, l2, l3, l4, .int x] S h = rn 262 53 [l0, l1, l2, l3, l4, .int x] (.int x :: S) h) ∧
  (∀ (l0 l1 l2 l3 l4 l5 : Value) (S : List Value) (h : zH), rn 262 53 [l0, l1, l2, l3, l4, l5] S h = rn 262 71 [l0, l1, l2, l3, l4, l5] S h) ∧
  (∀ (l1 l2 l3 l4 l5 : Value) (x : Nat) (S : List Value) (h : zH), rn 262 56 [.ref x, l1, l2, l3, l4, l5] S h = rn 262 57 [.ref x, l1, l2, l3, l4, l5] (.ref x :: S) h) ∧
  (∀ (l0 l1 l2 l3 l4 l5 : Value) (a : Nat) (S : List Value) (h : zH), rn 262 57 [l0, l1, l2, l3, l4, l5] (.ref a :: S) h = zgf h a 12 0 fun v => rn 262 60 [l0, l1, l2, l3, l4, l5] (v :: S) h) ∧
  (∀ (l0 l2 l3 l4 l5 : Value) (x : Int32) (S : List Value) (h : zH), rn 262 60 [l0, .int x, l2, l3, l4, l5] S h = rn 262 61 [l0, .int x, l2, l3, l4, l5] (.int x :: S) h) ∧
  (∀ (l0 l1 l3 l4 l5 : Value) (x : Int32) (S : List Value) (h : zH), rn 262 61 [l0, l1, .int x, l3, l4, l5] S h = rn 262 62 [l0, l1, .int x, l3, l4, l5] (.int x :: S) h) ∧
  (∀ (l0 l1 l2 l4 l5 : Value) (x : Int32) (S : List Value) (h : zH), rn 262 62 [l0, l1, l2, .int x, l4, l5] S h = rn 262 63 [l0, l1, l2, .int x, l4, l5] (.int x :: S) h) ∧
  (∀ (l0 l1 l2 l3 l4 l5 : Value) (v0 : Value) (v1 : Value) (v2 : Value) (S : List Value) (h : zH), rn 262 63 [l0, l1, l2, l3, l4, l5] (v2 :: v1 :: v0 :: S) h = if zsum S ≤ 8 then zcall (ev 244 [v0, v1, v2] h) (fun v h => rn 262 66 [l0, l1, l2, l3, l4, l5] (zpush v S) h) else none) ∧
  (∀ (l0 l1 l2 l3 l5 : Value) (x : Int32) (S : List Value) (h : zH), rn 262 66 [l0, l1, l2, l3, .int x, l5] S h = rn 262 68 [l0, l1, l2, l3, .int x, l5] (.int x :: S) h) ∧
  (∀ (l0 l1 l2 l3 l4 l5 : Value) (x : Int32) (y : Int32) (S : List Value) (h : zH), rn 262 68 [l0, l1, l2, l3, l4, l5] (.int y :: .int x :: S) h = rn 262 69 [l0, l1, l2, l3, l4, l5] (.int (x + y) :: S) h) ∧
  (∀ (l0 l1 l2 l3 l4 l5 : Value) (a : Nat) (j : Int32) (S : List Value) (h : zH), rn 262 69 [l0, l1, l2, l3, l4, l5] (.int j :: .ref a :: S) h = zlj h a j fun x => rn 262 70 [l0, l1, l2, l3, l4, l5] (.long x :: S) h) ∧
  (∀ (l0 l1 l2 l3 l4 l5 : Value) (x : Int64) (S : List Value) (h : zH), rn 262 70 [l0, l1, l2, l3, l4, l5] (.long x :: S) h = rn 262 71 [l0, l1, l2, l3, l4, l5] (.int x.toInt32 :: S) h) ∧
  (∀ (l0 l1 l2 l3 l4 l5 : Value) (x : Int32) (h : zH), rn 262 71 [l0, l1, l2, l3, l4, l5] [.int x] h = some (some (.int x), h)) := ⟨fun _ _ _ _ _ _ _ _ => r_iload (show zdec 262 0 = some (.iload 4, 2) by decide +kernel) rfl rfl,
  fun _ _ _ _ _ _ _ _ => r_iconst (show zdec 262 2 = some (.iconst 0, 1) by decide +kernel) rfl rfl,
  fun _ _ _ _ _ _ _ _ => r_iconst (show zdec 262 3 = some (.iconst 2, 1) by decide +kernel) rfl rfl,
  fun _ _ _ _ _ _ _ _ _ _ _ => r_cS [_, _, _] rfl (show zdec 262 4 = some (.invokestatic 45, 3) by decide +kernel) (show zst.lookup (262 * zKEY + 45) = some (0, 211, 3, 0) by decide +kernel) (by decide) rfl,
  fun _ _ _ _ _ _ _ _ _ => r_ifeq (show zdec 262 7 = some (.ifCond .eq 12, 3) by decide +kernel) rfl rfl,
  fun _ _ _ _ _ _ _ _ => r_aload_nr (show zdec 262 10 = some (.aload_n 0, 1) by decide +kernel) rfl rfl,
  fun _ _ _ _ _ _ _ _ => r_iload_n (show zdec 262 11 = some (.iload_n 1, 1) by decide +kernel) rfl rfl,
  fun _ _ _ _ _ _ _ _ => r_iload_n (show zdec 262 12 = some (.iload_n 2, 1) by decide +kernel) rfl rfl,
  fun _ _ _ _ _ _ _ _ _ _ _ => r_cV [_, _] rfl (show zdec 262 13 = some (.invokevirtual 176, 3) by decide +kernel) (show zst.lookup (262 * zKEY + 176) = some (1, 258, 2, 12) by decide +kernel) (by decide) rfl,
  fun _ _ _ _ _ _ _ _ => r_goto (show zdec 262 16 = some (.goto 4, 3) by decide +kernel) rfl,
  fun _ _ _ _ _ _ _ _ => r_iconst (show zdec 262 19 = some (.iconst (-1), 1) by decide +kernel) rfl rfl,
  fun _ _ _ _ _ _ _ _ _ => r_istore (show zdec 262 20 = some (.istore 5, 2) by decide +kernel) rfl (Nat.le_of_ble_eq_true rfl) rfl rfl,
  fun _ _ _ _ _ _ _ _ => r_iload (show zdec 262 22 = some (.iload 5, 2) by decide +kernel) rfl rfl,
  fun _ _ _ _ _ _ _ _ _ => r_ifne (show zdec 262 24 = some (.ifCond .ne 18, 3) by decide +kernel) rfl rfl,
  fun _ _ _ _ _ _ _ _ => r_aload_nr (show zdec 262 27 = some (.aload_n 0, 1) by decide +kernel) rfl rfl,
  fun _ _ _ _ _ _ _ _ => r_iload_n (show zdec 262 28 = some (.iload_n 1, 1) by decide +kernel) rfl rfl,
  fun _ _ _ _ _ _ _ _ => r_iload_n (show zdec 262 29 = some (.iload_n 2, 1) by decide +kernel) rfl rfl,
  fun _ _ _ _ _ _ _ _ => r_iload_n (show zdec 262 30 = some (.iload_n 3, 1) by decide +kernel) rfl rfl,
  fun _ _ _ _ _ _ _ _ _ _ _ _ => r_cV [_, _, _] rfl (show zdec 262 31 = some (.invokevirtual 183, 3) by decide +kernel) (show zst.lookup (262 * zKEY + 183) = some (1, 263, 3, 12) by decide +kernel) (by decide) rfl,
  fun _ _ _ _ _ _ _ _ _ => r_ifne (show zdec 262 34 = some (.ifCond .ne 8, 3) by decide +kernel) rfl rfl,
  fun _ _ _ _ _ _ _ _ => r_bipush (show zdec 262 37 = some (.bipush (-2), 2) by decide +kernel) rfl rfl,
  fun _ _ _ _ _ _ _ _ => r_goto (show zdec 262 39 = some (.goto 5, 3) by decide +kernel) rfl,
  fun _ _ _ _ _ _ _ _ => r_iload (show zdec 262 42 = some (.iload 5, 2) by decide +kernel) rfl rfl,
  fun _ _ _ _ _ _ _ _ _ => r_istore (show zdec 262 44 = some (.istore 5, 2) by decide +kernel) rfl (Nat.le_of_ble_eq_true rfl) rfl rfl,
  fun _ _ _ _ _ _ _ _ => r_iload (show zdec 262 46 = some (.iload 5, 2) by decide +kernel) rfl rfl,
  fun _ _ _ _ _ _ _ _ _ => r_ifge (show zdec 262 48 = some (.ifCond .ge 8, 3) by decide +kernel) rfl rfl,
  fun _ _ _ _ _ _ _ _ => r_iload (show zdec 262 51 = some (.iload 5, 2) by decide +kernel) rfl rfl,
  fun _ _ _ _ _ _ _ _ => r_goto (show zdec 262 53 = some (.goto 18, 3) by decide +kernel) rfl,
  fun _ _ _ _ _ _ _ _ => r_aload_nr (show zdec 262 56 = some (.aload_n 0, 1) by decide +kernel) rfl rfl,
  fun _ _ _ _ _ _ _ _ _ => r_getfield (show zdec 262 57 = some (.getfield 9, 3) by decide +kernel) (show zft.lookup (262 * zKEY + 9) = some (12, 0) by decide +kernel) rfl,
  fun _ _ _ _ _ _ _ _ => r_iload_n (show zdec 262 60 = some (.iload_n 1, 1) by decide +kernel) rfl rfl,
  fun _ _ _ _ _ _ _ _ => r_iload_n (show zdec 262 61 = some (.iload_n 2, 1) by decide +kernel) rfl rfl,
  fun _ _ _ _ _ _ _ _ => r_iload_n (show zdec 262 62 = some (.iload_n 3, 1) by decide +kernel) rfl rfl,
  fun _ _ _ _ _ _ _ _ _ _ _ => r_cS [_, _, _] rfl (show zdec 262 63 = some (.invokestatic 132, 3) by decide +kernel) (show zst.lookup (262 * zKEY + 132) = some (0, 244, 3, 0) by decide +kernel) (by decide) rfl,
  fun _ _ _ _ _ _ _ _ => r_iload (show zdec 262 66 = some (.iload 4, 2) by decide +kernel) rfl rfl,
  fun _ _ _ _ _ _ _ _ _ _ => r_iadd (show zdec 262 68 = some (.iadd, 1) by decide +kernel) rfl,
  fun _ _ _ _ _ _ _ _ _ _ => r_lald (show zdec 262 69 = some (.laload, 1) by decide +kernel) rfl,
  fun _ _ _ _ _ _ _ _ _ => r_l2i (show zdec 262 70 = some (.l2i, 1) by decide +kernel) rfl,
  fun _ _ _ _ _ _ _ _ => r_ireti (show zdec 262 71 = some (.ireturn, 1) by decide +kernel) (by decide +kernel)⟩
theorem ze_262 : ∀ (a0 : Nat) (a1 : Int32) (a2 : Int32) (a3 : Int32) (a4 : Int32) (h : zH), ev 262 [.ref a0, .int a1, .int a2, .int a3, .int a4] h = rn 262 0 [.ref a0, .int a1, .int a2, .int a3, .int a4, .float 0] [] h := fun _ _ _ _ _ _ => if_pos (Nat.le_of_ble_eq_true rfl)
-- PayrollRunModel.isLine(III)Z
theorem zr_263 : (∀ (l0 l1 l2 : Value) (x : Int32) (S : List Value) (h : zH), rn 263 0 [l0, l1, l2, .int x] S h = rn 263 1 [l0, l1, l2, .int x] (.int x :: S) h) ∧
  (∀ (l0 l1 l2 l3 : Value) (x : Int32) (S : List Value) (h : zH), rn 263 1 [l0, l1, l2, l3] (.int x :: S) h = if x < nI 0 then rn 263 24 [l0, l1, l2, l3] S h else rn 263 4 [l0, l1, l2, l3] S h) ∧
  (∀ (l0 l1 l2 : Value) (x : Int32) (S : List Value) (h : zH), rn 263 4 [l0, l1, l2, .int x] S h = rn 263 5 [l0, l1, l2, .int x] (.int x :: S) h) ∧
  (∀ (l0 l1 l2 l3 : Value) (x : Int32) (S : List Value) (h : zH), rn 263 5 [l0, l1, l2, l3] (.int x :: S) h = rn 263 6 [l0, l1, l2, l3] (.long x.toInt64 :: S) h) ∧
  (∀ (l1 l2 l3 : Value) (x : Nat) (S : List Value) (h : zH), rn 263 6 [.ref x, l1, l2, l3] S h = rn 263 7 [.ref x, l1, l2, l3] (.ref x :: S) h) ∧
  (∀ (l0 l2 l3 : Value) (x : Int32) (S : List Value) (h : zH), rn 263 7 [l0, .int x, l2, l3] S h = rn 263 8 [l0, .int x, l2, l3] (.int x :: S) h) ∧
  (∀ (l0 l1 l2 l3 : Value) (S : List Value) (h : zH), rn 263 8 [l0, l1, l2, l3] S h = rn 263 11 [l0, l1, l2, l3] (.int (nI 147) :: S) h) ∧
  (∀ (l0 l1 l3 : Value) (x : Int32) (S : List Value) (h : zH), rn 263 11 [l0, l1, .int x, l3] S h = rn 263 12 [l0, l1, .int x, l3] (.int x :: S) h) ∧
  (∀ (l0 l1 l2 l3 : Value) (x : Int32) (y : Int32) (S : List Value) (h : zH), rn 263 12 [l0, l1, l2, l3] (.int y :: .int x :: S) h = rn 263 13 [l0, l1, l2, l3] (.int (x + y) :: S) h) ∧
  (∀ (l0 l1 l2 l3 : Value) (o : Nat) (v0 : Value) (v1 : Value) (S : List Value) (h : zH), rn 263 13 [l0, l1, l2, l3] (v1 :: v0 :: .ref o :: S) h = if zkd h o = 12 ∧ zsum S ≤ 8 then zcall (ev 226 [.ref o, v0, v1] h) (fun v h => rn 263 16 [l0, l1, l2, l3] (zpush v S) h) else none) ∧
  (∀ (l0 l1 l2 l3 : Value) (x : Int64) (y : Int64) (S : List Value) (h : zH), rn 263 16 [l0, l1, l2, l3] (.long y :: .long x :: S) h = rn 263 17 [l0, l1, l2, l3] (.int (lg_cmp x y) :: S) h) ∧
  (∀ (l0 l1 l2 l3 : Value) (x : Int32) (S : List Value) (h : zH), rn 263 17 [l0, l1, l2, l3] (.int x :: S) h = if nI 0 ≤ x then rn 263 24 [l0, l1, l2, l3] S h else rn 263 20 [l0, l1, l2, l3] S h) ∧
  (∀ (l0 l1 l2 l3 : Value) (S : List Value) (h : zH), rn 263 20 [l0, l1, l2, l3] S h = rn 263 21 [l0, l1, l2, l3] (.int (nI 1) :: S) h) ∧
  (∀ (l0 l1 l2 l3 : Value) (S : List Value) (h : zH), rn 263 21 [l0, l1, l2, l3] S h = rn 263 25 [l0, l1, l2, l3] S h) ∧
  (∀ (l0 l1 l2 l3 : Value) (S : List Value) (h : zH), rn 263 24 [l0, l1, l2, l3] S h = rn 263 25 [l0, l1, l2, l3] (.int (nI 0) :: S) h) ∧
  (∀ (l0 l1 l2 l3 : Value) (x : Int32) (h : zH), rn 263 25 [l0, l1, l2, l3] [.int x] h = if x = nI 0 ∨ x = nI 1 then some (some (.int x), h) else none) := ⟨fun _ _ _ _ _ _ => r_iload_n (show zdec 263 0 = some (.iload_n 3, 1) by decide +kernel) rfl rfl,
  fun _ _ _ _ _ _ _ => r_iflt (show zdec 263 1 = some (.ifCond .lt 23, 3) by decide +kernel) rfl rfl,
  fun _ _ _ _ _ _ => r_iload_n (show zdec 263 4 = some (.iload_n 3, 1) by decide +kernel) rfl rfl,
  fun _ _ _ _ _ _ _ => r_i2l (show zdec 263 5 = some (.i2l, 1) by decide +kernel) rfl,
  fun _ _ _ _ _ _ => r_aload_nr (show zdec 263 6 = some (.aload_n 0, 1) by decide +kernel) rfl rfl,
  fun _ _ _ _ _ _ => r_iload_n (show zdec 263 7 = some (.iload_n 1, 1) by decide +kernel) rfl rfl,
  fun _ _ _ _ _ _ => r_sipush (show zdec 263 8 = some (.sipush 147, 3) by decide +kernel) rfl rfl,
  fun _ _ _ _ _ _ => r_iload_n (show zdec 263 11 = some (.iload_n 2, 1) by decide +kernel) rfl rfl,
  fun _ _ _ _ _ _ _ _ => r_iadd (show zdec 263 12 = some (.iadd, 1) by decide +kernel) rfl,
  fun _ _ _ _ _ _ _ _ _ => r_cV [_, _] rfl (show zdec 263 13 = some (.invokevirtual 85, 3) by decide +kernel) (show zst.lookup (263 * zKEY + 85) = some (1, 226, 2, 12) by decide +kernel) (by decide) rfl,
  fun _ _ _ _ _ _ _ _ => r_lcmp (show zdec 263 16 = some (.lcmp, 1) by decide +kernel) rfl,
  fun _ _ _ _ _ _ _ => r_ifge (show zdec 263 17 = some (.ifCond .ge 7, 3) by decide +kernel) rfl rfl,
  fun _ _ _ _ _ _ => r_iconst (show zdec 263 20 = some (.iconst 1, 1) by decide +kernel) rfl rfl,
  fun _ _ _ _ _ _ => r_goto (show zdec 263 21 = some (.goto 4, 3) by decide +kernel) rfl,
  fun _ _ _ _ _ _ => r_iconst (show zdec 263 24 = some (.iconst 0, 1) by decide +kernel) rfl rfl,
  fun _ _ _ _ _ _ => r_iretb (show zdec 263 25 = some (.ireturn, 1) by decide +kernel) (by decide +kernel)⟩
theorem ze_263 : ∀ (a0 : Nat) (a1 : Int32) (a2 : Int32) (a3 : Int32) (h : zH), ev 263 [.ref a0, .int a1, .int a2, .int a3] h = rn 263 0 [.ref a0, .int a1, .int a2, .int a3] [] h := fun _ _ _ _ _ => if_pos (Nat.le_of_ble_eq_true rfl)
-- PayrollRunModel.amount(III)J
theorem zr_264 : (∀ (l1 l2 l3 l4 : Value) (x : Nat) (S : List Value) (h : zH), rn 264 0 [.ref x, l1, l2, l3, l4] S h = rn 264 1 [.ref x, l1, l2, l3, l4] (.ref x :: S) h) ∧
  (∀ (l0 l2 l3 l4 : Value) (x : Int32) (S : List Value) (h : zH), rn 264 1 [l0, .int x, l2, l3, l4] S h = rn 264 2 [l0, .int x, l2, l3, l4] (.int x :: S) h) ∧
  (∀ (l0 l1 l3 l4 : Value) (x : Int32) (S : List Value) (h : zH), rn 264 2 [l0, l1, .int x, l3, l4] S h = rn 264 3 [l0, l1, .int x, l3, l4] (.int x :: S) h) ∧
  (∀ (l0 l1 l2 l3 l4 : Value) (o : Nat) (v0 : Value) (v1 : Value) (S : List Value) (h : zH), rn 264 3 [l0, l1, l2, l3, l4] (v1 :: v0 :: .ref o :: S) h = if zkd h o = 12 ∧ zsum S ≤ 8 then zcall (ev 258 [.ref o, v0, v1] h) (fun v h => rn 264 6 [l0, l1, l2, l3, l4] (zpush v S) h) else none) ∧
  (∀ (l0 l1 l2 l3 l4 : Value) (x : Int32) (S : List Value) (h : zH), rn 264 6 [l0, l1, l2, l3, l4] (.int x :: S) h = if x = nI 0 then rn 264 9 [l0, l1, l2, l3, l4] S h else rn 264 23 [l0, l1, l2, l3, l4] S h) ∧
  (∀ (l1 l2 l3 l4 : Value) (x : Nat) (S : List Value) (h : zH), rn 264 9 [.ref x, l1, l2, l3, l4] S h = rn 264 10 [.ref x, l1, l2, l3, l4] (.ref x :: S) h) ∧
  (∀ (l0 l2 l3 l4 : Value) (x : Int32) (S : List Value) (h : zH), rn 264 10 [l0, .int x, l2, l3, l4] S h = rn 264 11 [l0, .int x, l2, l3, l4] (.int x :: S) h) ∧
  (∀ (l0 l1 l3 l4 : Value) (x : Int32) (S : List Value) (h : zH), rn 264 11 [l0, l1, .int x, l3, l4] S h = rn 264 12 [l0, l1, .int x, l3, l4] (.int x :: S) h) ∧
  (∀ (l0 l1 l2 l4 : Value) (x : Int32) (S : List Value) (h : zH), rn 264 12 [l0, l1, l2, .int x, l4] S h = rn 264 13 [l0, l1, l2, .int x, l4] (.int x :: S) h) ∧
  (∀ (l0 l1 l2 l3 l4 : Value) (o : Nat) (v0 : Value) (v1 : Value) (v2 : Value) (S : List Value) (h : zH), rn 264 13 [l0, l1, l2, l3, l4] (v2 :: v1 :: v0 :: .ref o :: S) h = if zkd h o = 12 ∧ zsum S ≤ 8 then zcall (ev 263 [.ref o, v0, v1, v2] h) (fun v h => rn 264 16 [l0, l1, l2, l3, l4] (zpush v S) h) else none) ∧
  (∀ (l0 l1 l2 l3 l4 : Value) (x : Int32) (S : List Value) (h : zH), rn 264 16 [l0, l1, l2, l3, l4] (.int x :: S) h = if x = nI 0 then rn 264 23 [l0, l1, l2, l3, l4] S h else rn 264 19 [l0, l1, l2, l3, l4] S h) ∧
  (∀ (l0 l1 l2 l3 l4 : Value) (S : List Value) (h : zH), rn 264 19 [l0, l1, l2, l3, l4] S h = rn 264 20 [l0, l1, l2, l3, l4] (.int (nI 1) :: S) h) ∧
  (∀ (l0 l1 l2 l3 l4 : Value) (S : List Value) (h : zH), rn 264 20 [l0, l1, l2, l3, l4] S h = rn 264 24 [l0, l1, l2, l3, l4] S h) ∧
  (∀ (l0 l1 l2 l3 l4 : Value) (S : List Value) (h : zH), rn 264 23 [l0, l1, l2, l3, l4] S h = rn 264 24 [l0, l1, l2, l3, l4] (.int (nI 0) :: S) h) ∧
  (∀ (l0 l1 l2 l3 l4 : Value) (x : Int32) (S : List Value) (h : zH), rn 264 24 [l0, l1, l2, l3, l4] (.int x :: S) h = nl l3 (rn 264 26 [l0, l1, l2, l3, .int x] S h)) ∧
  (∀ (l0 l1 l2 l3 : Value) (x : Int32) (S : List Value) (h : zH), rn 264 26 [l0, l1, l2, l3, .int x] S h = rn 264 28 [l0, l1, l2, l3, .int x] (.int x :: S) h) ∧
  (∀ (l0 l1 l2 l3 l4 : Value) (x : Int32) (S : List Value) (h : zH), rn 264 28 [l0, l1, l2, l3, l4] (.int x :: S) h = if x = nI 0 then rn 264 47 [l0, l1, l2, l3, l4] S h else rn 264 31 [l0, l1, l2, l3, l4] S h) ∧
  (∀ (l1 l2 l3 l4 : Value) (x : Nat) (S : List Value) (h : zH), rn 264 31 [.ref x, l1, l2, l3, l4] S h = rn 264 32 [.ref x, l1, l2, l3, l4] (.ref x :: S) h) ∧
  (∀ (l0 l1 l2 l3 l4 : Value) (a : Nat) (S : List Value) (h : zH), rn 264 32 [l0, l1, l2, l3, l4] (.ref a :: S) h = zgf h a 12 0 fun v => rn 264 35 [l0, l1, l2, l3, l4] (v :: S) h) ∧
  (∀ (l0 l2 l3 l4 : Value) (x : Int32) (S : List Value) (h : zH), rn 264 35 [l0, .int x, l2, l3, l4] S h = rn 264 36 [l0, .int x, l2, l3, l4] (.int x :: S) h) ∧
  (∀ (l0 l1 l3 l4 : Value) (x : Int32) (S : List Value) (h : zH), rn 264 36 [l0, l1, .int x, l3, l4] S h = rn 264 37 [l0, l1, .int x, l3, l4] (.int x :: S) h) ∧
  (∀ (l0 l1 l2 l4 : Value) (x : Int32) (S : List Value) (h : zH), rn 264 37 [l0, l1, l2, .int x, l4] S h = rn 264 38 [l0, l1, l2, .int x, l4] (.int x :: S) h) ∧
  (∀ (l0 l1 l2 l3 l4 : Value) (v0 : Value) (v1 : Value) (v2 : Value) (S : List Value) (h : zH), rn 264 38 [l0, l1, l2, l3, l4] (v2 :: v1 :: v0 :: S) h = if zsum S ≤ 8 then zcall (ev 244 [v0, v1, v2] h) (fun v h => rn 264 41 [l0, l1, l2, l3, l4] (zpush v S) h) else none) ∧
  (∀ (l0 l1 l2 l3 l4 : Value) (S : List Value) (h : zH), rn 264 41 [l0, l1, l2, l3, l4] S h = rn 264 42 [l0, l1, l2, l3, l4] (.int (nI 3) :: S) h) ∧
  (∀ (l0 l1 l2 l3 l4 : Value) (x : Int32) (y : Int32) (S : List Value) (h : zH), rn 264 42 [l0, l1, l2, l3, l4] (.int y :: .int x :: S) h = rn 264 43 [l0, l1, l2, l3, l4] (.int (x + y) :: S) h) ∧
  (∀ (l0 l1 l2 l3 l4 : Value) (a : Nat) (j : Int32) (S : List Value) (h : zH), rn 264 43 [l0, l1, l2, l3, l4] (.int j :: .ref a :: S) h = zlj h a j fun x => rn 264 44 [l0, l1, l2, l3, l4] (.long x :: S) h) ∧
  (∀ (l0 l1 l2 l3 l4 : Value) (S : List Value) (h : zH), rn 264 44 [l0, l1, l2, l3, l4] S h = rn 264 50 [l0, l1, l2, l3, l4] S h) ∧
  (∀ (l0 l1 l2 l3 l4 : Value) (S : List Value) (h : zH), rn 264 47 [l0, l1, l2, l3, l4] S h = rn 264 50 [l0, l1, l2, l3, l4] (.long (-9223372036854775808) :: S) h) ∧
  (∀ (l0 l1 l2 l3 l4 : Value) (x : Int64) (h : zH), rn 264 50 [l0, l1, l2, l3, l4] [.long x] h = some (some (.long x), h)) := ⟨fun _ _ _ _ _ _ _ => r_aload_nr (show zdec 264 0 = some (.aload_n 0, 1) by decide +kernel) rfl rfl,
  fun _ _ _ _ _ _ _ => r_iload_n (show zdec 264 1 = some (.iload_n 1, 1) by decide +kernel) rfl rfl,
  fun _ _ _ _ _ _ _ => r_iload_n (show zdec 264 2 = some (.iload_n 2, 1) by decide +kernel) rfl rfl,
  fun _ _ _ _ _ _ _ _ _ _ => r_cV [_, _] rfl (show zdec 264 3 = some (.invokevirtual 176, 3) by decide +kernel) (show zst.lookup (264 * zKEY + 176) = some (1, 258, 2, 12) by decide +kernel) (by decide) rfl,
  fun _ _ _ _ _ _ _ _ => r_ifne (show zdec 264 6 = some (.ifCond .ne 17, 3) by decide +kernel) rfl rfl,
  fun _ _ _ _ _ _ _ => r_aload_nr (show zdec 264 9 = some (.aload_n 0, 1) by decide +kernel) rfl rfl,
  fun _ _ _ _ _ _ _ => r_iload_n (show zdec 264 10 = some (.iload_n 1, 1) by decide +kernel) rfl rfl,
  fun _ _ _ _ _ _ _ => r_iload_n (show zdec 264 11 = some (.iload_n 2, 1) by decide +kernel) rfl rfl,
  fun _ _ _ _ _ _ _ => r_iload_n (show zdec 264 12 = some (.iload_n 3, 1) by decide +kernel) rfl rfl,
  fun _ _ _ _ _ _ _ _ _ _ _ => r_cV [_, _, _] rfl (show zdec 264 13 = some (.invokevirtual 183, 3) by decide +kernel) (show zst.lookup (264 * zKEY + 183) = some (1, 263, 3, 12) by decide +kernel) (by decide) rfl,
  fun _ _ _ _ _ _ _ _ => r_ifeq (show zdec 264 16 = some (.ifCond .eq 7, 3) by decide +kernel) rfl rfl,
  fun _ _ _ _ _ _ _ => r_iconst (show zdec 264 19 = some (.iconst 1, 1) by decide +kernel) rfl rfl,
  fun _ _ _ _ _ _ _ => r_goto (show zdec 264 20 = some (.goto 4, 3) by decide +kernel) rfl,
  fun _ _ _ _ _ _ _ => r_iconst (show zdec 264 23 = some (.iconst 0, 1) by decide +kernel) rfl rfl,
  fun _ _ _ _ _ _ _ _ => r_istore (show zdec 264 24 = some (.istore 4, 2) by decide +kernel) rfl (Nat.le_of_ble_eq_true rfl) rfl rfl,
  fun _ _ _ _ _ _ _ => r_iload (show zdec 264 26 = some (.iload 4, 2) by decide +kernel) rfl rfl,
  fun _ _ _ _ _ _ _ _ => r_ifeq (show zdec 264 28 = some (.ifCond .eq 19, 3) by decide +kernel) rfl rfl,
  fun _ _ _ _ _ _ _ => r_aload_nr (show zdec 264 31 = some (.aload_n 0, 1) by decide +kernel) rfl rfl,
  fun _ _ _ _ _ _ _ _ => r_getfield (show zdec 264 32 = some (.getfield 9, 3) by decide +kernel) (show zft.lookup (264 * zKEY + 9) = some (12, 0) by decide +kernel) rfl,
  fun _ _ _ _ _ _ _ => r_iload_n (show zdec 264 35 = some (.iload_n 1, 1) by decide +kernel) rfl rfl,
  fun _ _ _ _ _ _ _ => r_iload_n (show zdec 264 36 = some (.iload_n 2, 1) by decide +kernel) rfl rfl,
  fun _ _ _ _ _ _ _ => r_iload_n (show zdec 264 37 = some (.iload_n 3, 1) by decide +kernel) rfl rfl,
  fun _ _ _ _ _ _ _ _ _ _ => r_cS [_, _, _] rfl (show zdec 264 38 = some (.invokestatic 132, 3) by decide +kernel) (show zst.lookup (264 * zKEY + 132) = some (0, 244, 3, 0) by decide +kernel) (by decide) rfl,
  fun _ _ _ _ _ _ _ => r_iconst (show zdec 264 41 = some (.iconst 3, 1) by decide +kernel) rfl rfl,
  fun _ _ _ _ _ _ _ _ _ => r_iadd (show zdec 264 42 = some (.iadd, 1) by decide +kernel) rfl,
  fun _ _ _ _ _ _ _ _ _ => r_lald (show zdec 264 43 = some (.laload, 1) by decide +kernel) rfl,
  fun _ _ _ _ _ _ _ => r_goto (show zdec 264 44 = some (.goto 6, 3) by decide +kernel) rfl,
  fun _ _ _ _ _ _ _ => r_ldc2 (show zdec 264 47 = some (.ldc2_w 181, 3) by decide +kernel) (show zlt.lookup (264 * zKEY + 181) = some (-9223372036854775808) by decide +kernel) rfl,
  fun _ _ _ _ _ _ _ => r_lret (show zdec 264 50 = some (.lreturn, 1) by decide +kernel) (by decide +kernel)⟩
theorem ze_264 : ∀ (a0 : Nat) (a1 : Int32) (a2 : Int32) (a3 : Int32) (h : zH), ev 264 [.ref a0, .int a1, .int a2, .int a3] h = rn 264 0 [.ref a0, .int a1, .int a2, .int a3, .float 0] [] h := fun _ _ _ _ _ => if_pos (Nat.le_of_ble_eq_true rfl)
-- PayrollRunModel.letter(III)I
theorem zr_265 : (∀ (l1 l2 l3 l4 l5 l6 : Value) (x : Nat) (S : List Value) (h : zH), rn 265 0 [.ref x, l1, l2, l3, l4, l5, l6] S h = rn 265 1 [.ref x, l1, l2, l3, l4, l5, l6] (.ref x :: S) h) ∧
  (∀ (l0 l2 l3 l4 l5 l6 : Value) (x : Int32) (S : List Value) (h : zH), rn 265 1 [l0, .int x, l2, l3, l4, l5, l6] S h = rn 265 2 [l0, .int x, l2, l3, l4, l5, l6] (.int x :: S) h) ∧
  (∀ (l0 l1 l3 l4 l5 l6 : Value) (x : Int32) (S : List Value) (h : zH), rn 265 2 [l0, l1, .int x, l3, l4, l5, l6] S h = rn 265 3 [l0, l1, .int x, l3, l4, l5, l6] (.int x :: S) h) ∧
  (∀ (l0 l1 l2 l3 l4 l5 l6 : Value) (o : Nat) (v0 : Value) (v1 : Value) (S : List Value) (h : zH), rn 265 3 [l0, l1, l2, l3, l4, l5, l6] (v1 :: v0 :: .ref o :: S) h = if zkd h o = 12 ∧ zsum S ≤ 8 then zcall (ev 258 [.ref o, v0, v1] h) (fun v h => rn 265 6 [l0, l1, l2, l3, l4, l5, l6] (zpush v S) h) else none) ∧
  (∀ (l0 l1 l2 l3 l4 l5 l6 : Value) (x : Int32) (S : List Value) (h : zH), rn 265 6 [l0, l1, l2, l3, l4, l5, l6] (.int x :: S) h = nl l3 (rn 265 8 [l0, l1, l2, l3, .int x, l5, l6] S h)) ∧
  (∀ (l0 l1 l2 l3 l5 l6 : Value) (x : Int32) (S : List Value) (h : zH), rn 265 8 [l0, l1, l2, l3, .int x, l5, l6] S h = rn 265 10 [l0, l1, l2, l3, .int x, l5, l6] (.int x :: S) h) ∧
  (∀ (l0 l1 l2 l3 l4 l5 l6 : Value) (x : Int32) (S : List Value) (h : zH), rn 265 10 [l0, l1, l2, l3, l4, l5, l6] (.int x :: S) h = if nI 0 ≤ x then rn 265 16 [l0, l1, l2, l3, l4, l5, l6] S h else rn 265 13 [l0, l1, l2, l3, l4, l5, l6] S h) ∧
  (∀ (l0 l1 l2 l3 l5 l6 : Value) (x : Int32) (S : List Value) (h : zH), rn 265 13 [l0, l1, l2, l3, .int x, l5, l6] S h = rn 265 15 [l0, l1, l2, l3, .int x, l5, l6] (.int x :: S) h) ∧
  (∀ (l0 l1 l2 l3 l4 l5 l6 : Value) (x : Int32) (h : zH), rn 265 15 [l0, l1, l2, l3, l4, l5, l6] [.int x] h = some (some (.int x), h)) ∧
  (∀ (l1 l2 l3 l4 l5 l6 : Value) (x : Nat) (S : List Value) (h : zH), rn 265 16 [.ref x, l1, l2, l3, l4, l5, l6] S h = rn 265 17 [.ref x, l1, l2, l3, l4, l5, l6] (.ref x :: S) h) ∧
  (∀ (l0 l1 l2 l3 l4 l5 l6 : Value) (S : List Value) (h : zH), rn 265 17 [l0, l1, l2, l3, l4, l5, l6] S h = rn 265 18 [l0, l1, l2, l3, l4, l5, l6] (.int (nI 0) :: S) h) ∧
  (∀ (l0 l1 l2 l3 l4 l5 l6 : Value) (a : Nat) (v : Value) (S : List Value) (h : zH), rn 265 18 [l0, l1, l2, l3, l4, l5, l6] (v :: .ref a :: S) h = zpf h a 12 9 v fun h => rn 265 21 [l0, l1, l2, l3, l4, l5, l6] S h) ∧
  (∀ (l0 l1 l2 l3 l4 l5 l6 : Value) (S : List Value) (h : zH), rn 265 21 [l0, l1, l2, l3, l4, l5, l6] S h = rn 265 22 [l0, l1, l2, l3, l4, l5, l6] (.int (nI 0) :: S) h) ∧
  (∀ (l0 l1 l2 l3 l4 l5 l6 : Value) (x : Int32) (S : List Value) (h : zH), rn 265 22 [l0, l1, l2, l3, l4, l5, l6] (.int x :: S) h = nl l4 (rn 265 24 [l0, l1, l2, l3, l4, .int x, l6] S h)) ∧
  (∀ (l0 l1 l2 l3 l4 l5 l6 : Value) (x : Int32) (S : List Value) (h : zH), rn 265 26 [l0, l1, l2, l3, l4, l5, l6] (.int x :: S) h = rn 265 27 [l0, l1, l2, l3, l4, l5, l6] (.long x.toInt64 :: S) h) ∧
  (∀ (l1 l2 l3 l4 l5 l6 : Value) (x : Nat) (S : List Value) (h : zH), rn 265 27 [.ref x, l1, l2, l3, l4, l5, l6] S h = rn 265 28 [.ref x, l1, l2, l3, l4, l5, l6] (.ref x :: S) h) ∧
  (∀ (l0 l2 l3 l4 l5 l6 : Value) (x : Int32) (S : List Value) (h : zH), rn 265 28 [l0, .int x, l2, l3, l4, l5, l6] S h = rn 265 29 [l0, .int x, l2, l3, l4, l5, l6] (.int x :: S) h) ∧
  (∀ (l0 l1 l2 l3 l4 l5 l6 : Value) (S : List Value) (h : zH), rn 265 29 [l0, l1, l2, l3, l4, l5, l6] S h = rn 265 32 [l0, l1, l2, l3, l4, l5, l6] (.int (nI 147) :: S) h) ∧
  (∀ (l0 l1 l3 l4 l5 l6 : Value) (x : Int32) (S : List Value) (h : zH), rn 265 32 [l0, l1, .int x, l3, l4, l5, l6] S h = rn 265 33 [l0, l1, .int x, l3, l4, l5, l6] (.int x :: S) h) ∧
  (∀ (l0 l1 l2 l3 l4 l5 l6 : Value) (x : Int32) (y : Int32) (S : List Value) (h : zH), rn 265 33 [l0, l1, l2, l3, l4, l5, l6] (.int y :: .int x :: S) h = rn 265 34 [l0, l1, l2, l3, l4, l5, l6] (.int (x + y) :: S) h) ∧
  (∀ (l0 l1 l2 l3 l4 l5 l6 : Value) (o : Nat) (v0 : Value) (v1 : Value) (S : List Value) (h : zH), rn 265 34 [l0, l1, l2, l3, l4, l5, l6] (v1 :: v0 :: .ref o :: S) h = if zkd h o = 12 ∧ zsum S ≤ 8 then zcall (ev 226 [.ref o, v0, v1] h) (fun v h => rn 265 37 [l0, l1, l2, l3, l4, l5, l6] (zpush v S) h) else none) ∧
  (∀ (l0 l1 l2 l3 l4 l5 l6 : Value) (x : Int64) (y : Int64) (S : List Value) (h : zH), rn 265 37 [l0, l1, l2, l3, l4, l5, l6] (.long y :: .long x :: S) h = rn 265 38 [l0, l1, l2, l3, l4, l5, l6] (.int (lg_cmp x y) :: S) h) ∧
  (∀ (l0 l1 l2 l3 l4 l5 l6 : Value) (x : Int32) (S : List Value) (h : zH), rn 265 38 [l0, l1, l2, l3, l4, l5, l6] (.int x :: S) h = if nI 0 ≤ x then rn 265 95 [l0, l1, l2, l3, l4, l5, l6] S h else rn 265 41 [l0, l1, l2, l3, l4, l5, l6] S h) ∧
  (∀ (l0 l2 l3 l4 l5 l6 : Value) (x : Int32) (S : List Value) (h : zH), rn 265 41 [l0, .int x, l2, l3, l4, l5, l6] S h = rn 265 42 [l0, .int x, l2, l3, l4, l5, l6] (.int x :: S) h) ∧
  (∀ (l0 l1 l3 l4 l5 l6 : Value) (x : Int32) (S : List Value) (h : zH), rn 265 42 [l0, l1, .int x, l3, l4, l5, l6] S h = rn 265 43 [l0, l1, .int x, l3, l4, l5, l6] (.int x :: S) h) ∧
  (∀ (l0 l1 l2 l3 l4 l6 : Value) (x : Int32) (S : List Value) (h : zH), rn 265 43 [l0, l1, l2, l3, l4, .int x, l6] S h = rn 265 45 [l0, l1, l2, l3, l4, .int x, l6] (.int x :: S) h) ∧
  (∀ (l0 l1 l2 l3 l4 l5 l6 : Value) (v0 : Value) (v1 : Value) (v2 : Value) (S : List Value) (h : zH), rn 265 45 [l0, l1, l2, l3, l4, l5, l6] (v2 :: v1 :: v0 :: S) h = if zsum S ≤ 8 then zcall (ev 244 [v0, v1, v2] h) (fun v h => rn 265 48 [l0, l1, l2, l3, l4, l5, l6] (zpush v S) h) else none) ∧
  (∀ (l0 l1 l2 l3 l4 l5 l6 : Value) (x : Int32) (S : List Value) (h : zH), rn 265 48 [l0, l1, l2, l3, l4, l5, l6] (.int x :: S) h = nl l5 (rn 265 50 [l0, l1, l2, l3, l4, l5, .int x] S h)) ∧
  (∀ (l1 l2 l3 l4 l5 l6 : Value) (x : Nat) (S : List Value) (h : zH), rn 265 50 [.ref x, l1, l2, l3, l4, l5, l6] S h = rn 265 51 [.ref x, l1, l2, l3, l4, l5, l6] (.ref x :: S) h) ∧
  (∀ (l1 l2 l3 l4 l5 l6 : Value) (x : Nat) (S : List Value) (h : zH), rn 265 51 [.ref x, l1, l2, l3, l4, l5, l6] S h = rn 265 52 [.ref x, l1, l2, l3, l4, l5, l6] (.ref x :: S) h) ∧
  (∀ (l0 l1 l2 l3 l4 l5 l6 : Value) (a : Nat) (S : List Value) (h : zH), rn 265 52 [l0, l1, l2, l3, l4, l5, l6] (.ref a :: S) h = zgf h a 12 0 fun v => rn 265 55 [l0, l1, l2, l3, l4, l5, l6] (v :: S) h) ∧
  (∀ (l0 l1 l2 l3 l4 l5 : Value) (x : Int32) (S : List Value) (h : zH), rn 265 55 [l0, l1, l2, l3, l4, l5, .int x] S h = rn 265 57 [l0, l1, l2, l3, l4, l5, .int x] (.int x :: S) h) ∧
  (∀ (l0 l1 l2 l3 l4 l5 l6 : Value) (a : Nat) (j : Int32) (S : List Value) (h : zH), rn 265 57 [l0, l1, l2, l3, l4, l5, l6] (.int j :: .ref a :: S) h = zlj h a j fun x => rn 265 58 [l0, l1, l2, l3, l4, l5, l6] (.long x :: S) h) ∧
  (∀ (l0 l1 l2 l3 l4 l5 l6 : Value) (x : Int64) (S : List Value) (h : zH), rn 265 58 [l0, l1, l2, l3, l4, l5, l6] (.long x :: S) h = rn 265 59 [l0, l1, l2, l3, l4, l5, l6] (.int x.toInt32 :: S) h) ∧
  (∀ (l1 l2 l3 l4 l5 l6 : Value) (x : Nat) (S : List Value) (h : zH), rn 265 59 [.ref x, l1, l2, l3, l4, l5, l6] S h = rn 265 60 [.ref x, l1, l2, l3, l4, l5, l6] (.ref x :: S) h) ∧
  (∀ (l0 l1 l2 l3 l4 l5 l6 : Value) (a : Nat) (S : List Value) (h : zH), rn 265 60 [l0, l1, l2, l3, l4, l5, l6] (.ref a :: S) h = zgf h a 12 0 fun v => rn 265 63 [l0, l1, l2, l3, l4, l5, l6] (v :: S) h) ∧
  (∀ (l0 l1 l2 l3 l4 l5 : Value) (x : Int32) (S : List Value) (h : zH), rn 265 63 [l0, l1, l2, l3, l4, l5, .int x] S h = rn 265 65 [l0, l1, l2, l3, l4, l5, .int x] (.int x :: S) h) ∧
  (∀ (l0 l1 l2 l3 l4 l5 l6 : Value) (S : List Value) (h : zH), rn 265 65 [l0, l1, l2, l3, l4, l5, l6] S h = rn 265 66 [l0, l1, l2, l3, l4, l5, l6] (.int (nI 1) :: S) h) ∧
  (∀ (l0 l1 l2 l3 l4 l5 l6 : Value) (x : Int32) (y : Int32) (S : List Value) (h : zH), rn 265 66 [l0, l1, l2, l3, l4, l5, l6] (.int y :: .int x :: S) h = rn 265 67 [l0, l1, l2, l3, l4, l5, l6] (.int (x + y) :: S) h) ∧
  (∀ (l0 l1 l2 l3 l4 l5 l6 : Value) (a : Nat) (j : Int32) (S : List Value) (h : zH), rn 265 67 [l0, l1, l2, l3, l4, l5, l6] (.int j :: .ref a :: S) h = zlj h a j fun x => rn 265 68 [l0, l1, l2, l3, l4, l5, l6] (.long x :: S) h) ∧
  (∀ (l1 l2 l3 l4 l5 l6 : Value) (x : Nat) (S : List Value) (h : zH), rn 265 68 [.ref x, l1, l2, l3, l4, l5, l6] S h = rn 265 69 [.ref x, l1, l2, l3, l4, l5, l6] (.ref x :: S) h) ∧
  (∀ (l0 l1 l2 l3 l4 l5 l6 : Value) (a : Nat) (S : List Value) (h : zH), rn 265 69 [l0, l1, l2, l3, l4, l5, l6] (.ref a :: S) h = zgf h a 12 0 fun v => rn 265 72 [l0, l1, l2, l3, l4, l5, l6] (v :: S) h) ∧
  (∀ (l0 l1 l2 l3 l4 l5 : Value) (x : Int32) (S : List Value) (h : zH), rn 265 72 [l0, l1, l2, l3, l4, l5, .int x] S h = rn 265 74 [l0, l1, l2, l3, l4, l5, .int x] (.int x :: S) h) ∧
  (∀ (l0 l1 l2 l3 l4 l5 l6 : Value) (S : List Value) (h : zH), rn 265 74 [l0, l1, l2, l3, l4, l5, l6] S h = rn 265 75 [l0, l1, l2, l3, l4, l5, l6] (.int (nI 2) :: S) h) ∧
  (∀ (l0 l1 l2 l3 l4 l5 l6 : Value) (x : Int32) (y : Int32) (S : List Value) (h : zH), rn 265 75 [l0, l1, l2, l3, l4, l5, l6] (.int y :: .int x :: S) h = rn 265 76 [l0, l1, l2, l3, l4, l5, l6] (.int (x + y) :: S) h) ∧
  (∀ (l0 l1 l2 l3 l4 l5 l6 : Value) (a : Nat) (j : Int32) (S : List Value) (h : zH), rn 265 76 [l0, l1, l2, l3, l4, l5, l6] (.int j :: .ref a :: S) h = zlj h a j fun x => rn 265 77 [l0, l1, l2, l3, l4, l5, l6] (.long x :: S) h) ∧
  (∀ (l1 l2 l3 l4 l5 l6 : Value) (x : Nat) (S : List Value) (h : zH), rn 265 77 [.ref x, l1, l2, l3, l4, l5, l6] S h = rn 265 78 [.ref x, l1, l2, l3, l4, l5, l6] (.ref x :: S) h) ∧
  (∀ (l0 l1 l2 l3 l4 l5 l6 : Value) (a : Nat) (S : List Value) (h : zH), rn 265 78 [l0, l1, l2, l3, l4, l5, l6] (.ref a :: S) h = zgf h a 12 0 fun v => rn 265 81 [l0, l1, l2, l3, l4, l5, l6] (v :: S) h) ∧
  (∀ (l0 l1 l2 l3 l4 l5 : Value) (x : Int32) (S : List Value) (h : zH), rn 265 81 [l0, l1, l2, l3, l4, l5, .int x] S h = rn 265 83 [l0, l1, l2, l3, l4, l5, .int x] (.int x :: S) h) ∧
  (∀ (l0 l1 l2 l3 l4 l5 l6 : Value) (S : List Value) (h : zH), rn 265 83 [l0, l1, l2, l3, l4, l5, l6] S h = rn 265 84 [l0, l1, l2, l3, l4, l5, l6] (.int (nI 3) :: S) h) ∧
  (∀ (l0 l1 l2 l3 l4 l5 l6 : Value) (x : Int32) (y : Int32) (S : List Value) (h : zH), rn 265 84 [l0, l1, l2, l3, l4, l5, l6] (.int y :: .int x :: S) h = rn 265 85 [l0, l1, l2, l3, l4, l5, l6] (.int (x + y) :: S) h) ∧
  (∀ (l0 l1 l2 l3 l4 l5 l6 : Value) (a : Nat) (j : Int32) (S : List Value) (h : zH), rn 265 85 [l0, l1, l2, l3, l4, l5, l6] (.int j :: .ref a :: S) h = zlj h a j fun x => rn 265 86 [l0, l1, l2, l3, l4, l5, l6] (.long x :: S) h) ∧
  (∀ (l0 l1 l2 l3 l4 l5 l6 : Value) (o : Nat) (v0 : Value) (v1 : Value) (v2 : Value) (v3 : Value) (S : List Value) (h : zH), rn 265 86 [l0, l1, l2, l3, l4, l5, l6] (v3 :: v2 :: v1 :: v0 :: .ref o :: S) h = if zkd h o = 12 ∧ zsum S ≤ 8 then zcall (ev 266 [.ref o, v0, v1, v2, v3] h) (fun v h => rn 265 89 [l0, l1, l2, l3, l4, l5, l6] (zpush v S) h) else none) ∧
  (∀ (l0 l1 l2 l3 l4 l6 : Value) (x : Int32) (S : List Value) (h : zH), rn 265 89 [l0, l1, l2, l3, l4, .int x, l6] S h = nl l4 (rn 265 92 [l0, l1, l2, l3, l4, .int (x + (nI 1)), l6] S h)) ∧
  (∀ (l0 l1 l2 l3 l4 l5 l6 : Value) (S : List Value) (h : zH), rn 265 92 [l0, l1, l2, l3, l4, l5, l6] S h = rn 265 24 [l0, l1, l2, l3, l4, l5, l6] S h) ∧
  (∀ (l1 l2 l3 l4 l5 l6 : Value) (x : Nat) (S : List Value) (h : zH), rn 265 95 [.ref x, l1, l2, l3, l4, l5, l6] S h = rn 265 96 [.ref x, l1, l2, l3, l4, l5, l6] (.ref x :: S) h) ∧
  (∀ (l0 l1 l2 l4 l5 l6 : Value) (x : Int32) (S : List Value) (h : zH), rn 265 96 [l0, l1, l2, .int x, l4, l5, l6] S h = rn 265 97 [l0, l1, l2, .int x, l4, l5, l6] (.int x :: S) h) ∧
  (∀ (l0 l1 l2 l3 l4 l5 l6 : Value) (o : Nat) (v0 : Value) (S : List Value) (h : zH), rn 265 97 [l0, l1, l2, l3, l4, l5, l6] (v0 :: .ref o :: S) h = if zkd h o = 12 ∧ zsum S ≤ 8 then zcall (ev 270 [.ref o, v0] h) (fun v h => rn 265 100 [l0, l1, l2, l3, l4, l5, l6] (zpush v S) h) else none) ∧
  (∀ (l0 l1 l2 l3 l4 l5 l6 : Value) (x : Int32) (h : zH), rn 265 100 [l0, l1, l2, l3, l4, l5, l6] [.int x] h = some (some (.int x), h)) := ⟨fun _ _ _ _ _ _ _ _ _ => r_aload_nr (show zdec 265 0 = some (.aload_n 0, 1) by decide +kernel) rfl rfl,
  fun _ _ _ _ _ _ _ _ _ => r_iload_n (show zdec 265 1 = some (.iload_n 1, 1) by decide +kernel) rfl rfl,
  fun _ _ _ _ _ _ _ _ _ => r_iload_n (show zdec 265 2 = some (.iload_n 2, 1) by decide +kernel) rfl rfl,
  fun _ _ _ _ _ _ _ _ _ _ _ _ => r_cV [_, _] rfl (show zdec 265 3 = some (.invokevirtual 176, 3) by decide +kernel) (show zst.lookup (265 * zKEY + 176) = some (1, 258, 2, 12) by decide +kernel) (by decide) rfl,
  fun _ _ _ _ _ _ _ _ _ _ => r_istore (show zdec 265 6 = some (.istore 4, 2) by decide +kernel) rfl (Nat.le_of_ble_eq_true rfl) rfl rfl,
  fun _ _ _ _ _ _ _ _ _ => r_iload (show zdec 265 8 = some (.iload 4, 2) by decide +kernel) rfl rfl,
  fun _ _ _ _ _ _ _ _ _ _ => r_ifge (show zdec 265 10 = some (.ifCond .ge 6, 3) by decide +kernel) rfl rfl,
  fun _ _ _ _ _ _ _ _ _ => r_iload (show zdec 265 13 = some (.iload 4, 2) by decide +kernel) rfl rfl,
  fun _ _ _ _ _ _ _ _ _ => r_ireti (show zdec 265 15 = some (.ireturn, 1) by decide +kernel) (by decide +kernel),
  fun _ _ _ _ _ _ _ _ _ => r_aload_nr (show zdec 265 16 = some (.aload_n 0, 1) by decide +kernel) rfl rfl,
  fun _ _ _ _ _ _ _ _ _ => r_iconst (show zdec 265 17 = some (.iconst 0, 1) by decide +kernel) rfl rfl,
  fun _ _ _ _ _ _ _ _ _ _ _ => r_putfield (show zdec 265 18 = some (.putfield 186, 3) by decide +kernel) (show zft.lookup (265 * zKEY + 186) = some (12, 9) by decide +kernel) (by decide +kernel) rfl,
  fun _ _ _ _ _ _ _ _ _ => r_iconst (show zdec 265 21 = some (.iconst 0, 1) by decide +kernel) rfl rfl,
  fun _ _ _ _ _ _ _ _ _ _ => r_istore (show zdec 265 22 = some (.istore 5, 2) by decide +kernel) rfl (Nat.le_of_ble_eq_true rfl) rfl rfl,
  fun _ _ _ _ _ _ _ _ _ _ => r_i2l (show zdec 265 26 = some (.i2l, 1) by decide +kernel) rfl,
  fun _ _ _ _ _ _ _ _ _ => r_aload_nr (show zdec 265 27 = some (.aload_n 0, 1) by decide +kernel) rfl rfl,
  fun _ _ _ _ _ _ _ _ _ => r_iload_n (show zdec 265 28 = some (.iload_n 1, 1) by decide +kernel) rfl rfl,
  fun _ _ _ _ _ _ _ _ _ => r_sipush (show zdec 265 29 = some (.sipush 147, 3) by decide +kernel) rfl rfl,
  fun _ _ _ _ _ _ _ _ _ => r_iload_n (show zdec 265 32 = some (.iload_n 2, 1) by decide +kernel) rfl rfl,
  fun _ _ _ _ _ _ _ _ _ _ _ => r_iadd (show zdec 265 33 = some (.iadd, 1) by decide +kernel) rfl,
  fun _ _ _ _ _ _ _ _ _ _ _ _ => r_cV [_, _] rfl (show zdec 265 34 = some (.invokevirtual 85, 3) by decide +kernel) (show zst.lookup (265 * zKEY + 85) = some (1, 226, 2, 12) by decide +kernel) (by decide) rfl,
  fun _ _ _ _ _ _ _ _ _ _ _ => r_lcmp (show zdec 265 37 = some (.lcmp, 1) by decide +kernel) rfl,
  fun _ _ _ _ _ _ _ _ _ _ => r_ifge (show zdec 265 38 = some (.ifCond .ge 57, 3) by decide +kernel) rfl rfl,
  fun _ _ _ _ _ _ _ _ _ => r_iload_n (show zdec 265 41 = some (.iload_n 1, 1) by decide +kernel) rfl rfl,
  fun _ _ _ _ _ _ _ _ _ => r_iload_n (show zdec 265 42 = some (.iload_n 2, 1) by decide +kernel) rfl rfl,
  fun _ _ _ _ _ _ _ _ _ => r_iload (show zdec 265 43 = some (.iload 5, 2) by decide +kernel) rfl rfl,
  fun _ _ _ _ _ _ _ _ _ _ _ _ => r_cS [_, _, _] rfl (show zdec 265 45 = some (.invokestatic 132, 3) by decide +kernel) (show zst.lookup (265 * zKEY + 132) = some (0, 244, 3, 0) by decide +kernel) (by decide) rfl,
  fun _ _ _ _ _ _ _ _ _ _ => r_istore (show zdec 265 48 = some (.istore 6, 2) by decide +kernel) rfl (Nat.le_of_ble_eq_true rfl) rfl rfl,
  fun _ _ _ _ _ _ _ _ _ => r_aload_nr (show zdec 265 50 = some (.aload_n 0, 1) by decide +kernel) rfl rfl,
  fun _ _ _ _ _ _ _ _ _ => r_aload_nr (show zdec 265 51 = some (.aload_n 0, 1) by decide +kernel) rfl rfl,
  fun _ _ _ _ _ _ _ _ _ _ => r_getfield (show zdec 265 52 = some (.getfield 9, 3) by decide +kernel) (show zft.lookup (265 * zKEY + 9) = some (12, 0) by decide +kernel) rfl,
  fun _ _ _ _ _ _ _ _ _ => r_iload (show zdec 265 55 = some (.iload 6, 2) by decide +kernel) rfl rfl,
  fun _ _ _ _ _ _ _ _ _ _ _ => r_lald (show zdec 265 57 = some (.laload, 1) by decide +kernel) rfl,
  fun _ _ _ _ _ _ _ _ _ _ => r_l2i (show zdec 265 58 = some (.l2i, 1) by decide +kernel) rfl,
  fun _ _ _ _ _ _ _ _ _ => r_aload_nr (show zdec 265 59 = some (.aload_n 0, 1) by decide +kernel) rfl rfl,
  fun _ _ _ _ _ _ _ _ _ _ => r_getfield (show zdec 265 60 = some (.getfield 9, 3) by decide +kernel) (show zft.lookup (265 * zKEY + 9) = some (12, 0) by decide +kernel) rfl,
  fun _ _ _ _ _ _ _ _ _ => r_iload (show zdec 265 63 = some (.iload 6, 2) by decide +kernel) rfl rfl,
  fun _ _ _ _ _ _ _ _ _ => r_iconst (show zdec 265 65 = some (.iconst 1, 1) by decide +kernel) rfl rfl,
  fun _ _ _ _ _ _ _ _ _ _ _ => r_iadd (show zdec 265 66 = some (.iadd, 1) by decide +kernel) rfl,
  fun _ _ _ _ _ _ _ _ _ _ _ => r_lald (show zdec 265 67 = some (.laload, 1) by decide +kernel) rfl,
  fun _ _ _ _ _ _ _ _ _ => r_aload_nr (show zdec 265 68 = some (.aload_n 0, 1) by decide +kernel) rfl rfl,
  fun _ _ _ _ _ _ _ _ _ _ => r_getfield (show zdec 265 69 = some (.getfield 9, 3) by decide +kernel) (show zft.lookup (265 * zKEY + 9) = some (12, 0) by decide +kernel) rfl,
  fun _ _ _ _ _ _ _ _ _ => r_iload (show zdec 265 72 = some (.iload 6, 2) by decide +kernel) rfl rfl,
  fun _ _ _ _ _ _ _ _ _ => r_iconst (show zdec 265 74 = some (.iconst 2, 1) by decide +kernel) rfl rfl,
  fun _ _ _ _ _ _ _ _ _ _ _ => r_iadd (show zdec 265 75 = some (.iadd, 1) by decide +kernel) rfl,
  fun _ _ _ _ _ _ _ _ _ _ _ => r_lald (show zdec 265 76 = some (.laload, 1) by decide +kernel) rfl,
  fun _ _ _ _ _ _ _ _ _ => r_aload_nr (show zdec 265 77 = some (.aload_n 0, 1) by decide +kernel) rfl rfl,
  fun _ _ _ _ _ _ _ _ _ _ => r_getfield (show zdec 265 78 = some (.getfield 9, 3) by decide +kernel) (show zft.lookup (265 * zKEY + 9) = some (12, 0) by decide +kernel) rfl,
  fun _ _ _ _ _ _ _ _ _ => r_iload (show zdec 265 81 = some (.iload 6, 2) by decide +kernel) rfl rfl,
  fun _ _ _ _ _ _ _ _ _ => r_iconst (show zdec 265 83 = some (.iconst 3, 1) by decide +kernel) rfl rfl,
  fun _ _ _ _ _ _ _ _ _ _ _ => r_iadd (show zdec 265 84 = some (.iadd, 1) by decide +kernel) rfl,
  fun _ _ _ _ _ _ _ _ _ _ _ => r_lald (show zdec 265 85 = some (.laload, 1) by decide +kernel) rfl,
  fun _ _ _ _ _ _ _ _ _ _ _ _ _ _ => r_cV [_, _, _, _] rfl (show zdec 265 86 = some (.invokevirtual 230, 3) by decide +kernel) (show zst.lookup (265 * zKEY + 230) = some (1, 266, 4, 12) by decide +kernel) (by decide) rfl,
  fun _ _ _ _ _ _ _ _ _ => r_iinc (show zdec 265 89 = some (.iinc 5 1, 3) by decide +kernel) rfl rfl rfl (Nat.le_of_ble_eq_true rfl) rfl rfl,
  fun _ _ _ _ _ _ _ _ _ => r_goto (show zdec 265 92 = some (.goto (-68), 3) by decide +kernel) rfl,
  fun _ _ _ _ _ _ _ _ _ => r_aload_nr (show zdec 265 95 = some (.aload_n 0, 1) by decide +kernel) rfl rfl,
  fun _ _ _ _ _ _ _ _ _ => r_iload_n (show zdec 265 96 = some (.iload_n 3, 1) by decide +kernel) rfl rfl,
  fun _ _ _ _ _ _ _ _ _ _ _ => r_cV [_] rfl (show zdec 265 97 = some (.invokevirtual 234, 3) by decide +kernel) (show zst.lookup (265 * zKEY + 234) = some (1, 270, 1, 12) by decide +kernel) (by decide) rfl,
  fun _ _ _ _ _ _ _ _ _ => r_ireti (show zdec 265 100 = some (.ireturn, 1) by decide +kernel) (by decide +kernel)⟩
theorem zl_265_24 : ∀ (l0 l1 l2 l3 l4 l6 : Value) (x : Int32) (S : List Value) (h : zH), rn 265 24 [l0, l1, l2, l3, l4, .int x, l6] S h = rn 265 26 [l0, l1, l2, l3, l4, .int x, l6] (.int x :: S) h := fun _ _ _ _ _ _ _ _ _ => r_iload (show zdec 265 24 = some (.iload 5, 2) by decide +kernel) rfl rfl
theorem ze_265 : ∀ (a0 : Nat) (a1 : Int32) (a2 : Int32) (a3 : Int32) (h : zH), ev 265 [.ref a0, .int a1, .int a2, .int a3] h = rn 265 0 [.ref a0, .int a1, .int a2, .int a3, .float 0, .float 0, .float 0] [] h := fun _ _ _ _ _ => if_pos (Nat.le_of_ble_eq_true rfl)
-- PayrollRunModel.writeLine(IJJJ)V
theorem zr_266 : (∀ (l1 l2 l3 l4 l5 l6 l7 : Value) (x : Nat) (S : List Value) (h : zH), rn 266 0 [.ref x, l1, l2, l3, l4, l5, l6, l7] S h = rn 266 1 [.ref x, l1, l2, l3, l4, l5, l6, l7] (.ref x :: S) h) ∧
  (∀ (l0 l2 l3 l4 l5 l6 l7 : Value) (x : Int32) (S : List Value) (h : zH), rn 266 1 [l0, .int x, l2, l3, l4, l5, l6, l7] S h = rn 266 2 [l0, .int x, l2, l3, l4, l5, l6, l7] (.int x :: S) h) ∧
  (∀ (l0 l1 l2 l3 l4 l5 l6 l7 : Value) (o : Nat) (v0 : Value) (S : List Value) (h : zH), rn 266 2 [l0, l1, l2, l3, l4, l5, l6, l7] (v0 :: .ref o :: S) h = if zkd h o = 12 ∧ zsum S ≤ 8 then zcall (ev 267 [.ref o, v0] h) (fun v h => rn 266 5 [l0, l1, l2, l3, l4, l5, l6, l7] (zpush v S) h) else none) ∧
  (∀ (l1 l2 l3 l4 l5 l6 l7 : Value) (x : Nat) (S : List Value) (h : zH), rn 266 5 [.ref x, l1, l2, l3, l4, l5, l6, l7] S h = rn 266 6 [.ref x, l1, l2, l3, l4, l5, l6, l7] (.ref x :: S) h) ∧
  (∀ (l0 l1 l3 l4 l5 l6 l7 : Value) (x : Int64) (S : List Value) (h : zH), rn 266 6 [l0, l1, .long x, l3, l4, l5, l6, l7] S h = rn 266 7 [l0, l1, .long x, l3, l4, l5, l6, l7] (.long x :: S) h) ∧
  (∀ (l0 l1 l2 l3 l4 l5 l6 l7 : Value) (o : Nat) (v0 : Value) (S : List Value) (h : zH), rn 266 7 [l0, l1, l2, l3, l4, l5, l6, l7] (v0 :: .ref o :: S) h = if zkd h o = 12 ∧ zsum S ≤ 8 then zcall (ev 269 [.ref o, v0] h) (fun v h => rn 266 10 [l0, l1, l2, l3, l4, l5, l6, l7] (zpush v S) h) else none) ∧
  (∀ (l1 l2 l3 l4 l5 l6 l7 : Value) (x : Nat) (S : List Value) (h : zH), rn 266 10 [.ref x, l1, l2, l3, l4, l5, l6, l7] S h = rn 266 11 [.ref x, l1, l2, l3, l4, l5, l6, l7] (.ref x :: S) h) ∧
  (∀ (l0 l1 l2 l3 l5 l6 l7 : Value) (x : Int64) (S : List Value) (h : zH), rn 266 11 [l0, l1, l2, l3, .long x, l5, l6, l7] S h = rn 266 13 [l0, l1, l2, l3, .long x, l5, l6, l7] (.long x :: S) h) ∧
  (∀ (l0 l1 l2 l3 l4 l5 l6 l7 : Value) (o : Nat) (v0 : Value) (S : List Value) (h : zH), rn 266 13 [l0, l1, l2, l3, l4, l5, l6, l7] (v0 :: .ref o :: S) h = if zkd h o = 12 ∧ zsum S ≤ 8 then zcall (ev 269 [.ref o, v0] h) (fun v h => rn 266 16 [l0, l1, l2, l3, l4, l5, l6, l7] (zpush v S) h) else none) ∧
  (∀ (l1 l2 l3 l4 l5 l6 l7 : Value) (x : Nat) (S : List Value) (h : zH), rn 266 16 [.ref x, l1, l2, l3, l4, l5, l6, l7] S h = rn 266 17 [.ref x, l1, l2, l3, l4, l5, l6, l7] (.ref x :: S) h) ∧
  (∀ (l0 l1 l2 l3 l4 l5 l7 : Value) (x : Int64) (S : List Value) (h : zH), rn 266 17 [l0, l1, l2, l3, l4, l5, .long x, l7] S h = rn 266 19 [l0, l1, l2, l3, l4, l5, .long x, l7] (.long x :: S) h) ∧
  (∀ (l0 l1 l2 l3 l4 l5 l6 l7 : Value) (o : Nat) (v0 : Value) (S : List Value) (h : zH), rn 266 19 [l0, l1, l2, l3, l4, l5, l6, l7] (v0 :: .ref o :: S) h = if zkd h o = 12 ∧ zsum S ≤ 8 then zcall (ev 269 [.ref o, v0] h) (fun v h => rn 266 22 [l0, l1, l2, l3, l4, l5, l6, l7] (zpush v S) h) else none) ∧
  (∀ (l1 l2 l3 l4 l5 l6 l7 : Value) (x : Nat) (S : List Value) (h : zH), rn 266 22 [.ref x, l1, l2, l3, l4, l5, l6, l7] S h = rn 266 23 [.ref x, l1, l2, l3, l4, l5, l6, l7] (.ref x :: S) h) ∧
  (∀ (l0 l1 l2 l3 l4 l5 l6 l7 : Value) (S : List Value) (h : zH), rn 266 23 [l0, l1, l2, l3, l4, l5, l6, l7] S h = rn 266 25 [l0, l1, l2, l3, l4, l5, l6, l7] (.int (nI 59) :: S) h) ∧
  (∀ (l0 l1 l2 l3 l4 l5 l6 l7 : Value) (o : Nat) (v0 : Value) (S : List Value) (h : zH), rn 266 25 [l0, l1, l2, l3, l4, l5, l6, l7] (v0 :: .ref o :: S) h = if zkd h o = 12 ∧ zsum S ≤ 8 then zcall (ev 268 [.ref o, v0] h) (fun v h => rn 266 28 [l0, l1, l2, l3, l4, l5, l6, l7] (zpush v S) h) else none) ∧
  (∀ (l0 l1 l2 l3 l4 l5 l6 l7 : Value) (h : zH), rn 266 28 [l0, l1, l2, l3, l4, l5, l6, l7] [] h = some (none, h)) := ⟨fun _ _ _ _ _ _ _ _ _ _ => r_aload_nr (show zdec 266 0 = some (.aload_n 0, 1) by decide +kernel) rfl rfl,
  fun _ _ _ _ _ _ _ _ _ _ => r_iload_n (show zdec 266 1 = some (.iload_n 1, 1) by decide +kernel) rfl rfl,
  fun _ _ _ _ _ _ _ _ _ _ _ _ => r_cV [_] rfl (show zdec 266 2 = some (.invokevirtual 222, 3) by decide +kernel) (show zst.lookup (266 * zKEY + 222) = some (1, 267, 1, 12) by decide +kernel) (by decide) rfl,
  fun _ _ _ _ _ _ _ _ _ _ => r_aload_nr (show zdec 266 5 = some (.aload_n 0, 1) by decide +kernel) rfl rfl,
  fun _ _ _ _ _ _ _ _ _ _ => r_lload_n (show zdec 266 6 = some (.lload_n 2, 1) by decide +kernel) rfl rfl,
  fun _ _ _ _ _ _ _ _ _ _ _ _ => r_cV [_] rfl (show zdec 266 7 = some (.invokevirtual 226, 3) by decide +kernel) (show zst.lookup (266 * zKEY + 226) = some (1, 269, 1, 12) by decide +kernel) (by decide) rfl,
  fun _ _ _ _ _ _ _ _ _ _ => r_aload_nr (show zdec 266 10 = some (.aload_n 0, 1) by decide +kernel) rfl rfl,
  fun _ _ _ _ _ _ _ _ _ _ => r_lload (show zdec 266 11 = some (.lload 4, 2) by decide +kernel) rfl rfl,
  fun _ _ _ _ _ _ _ _ _ _ _ _ => r_cV [_] rfl (show zdec 266 13 = some (.invokevirtual 226, 3) by decide +kernel) (show zst.lookup (266 * zKEY + 226) = some (1, 269, 1, 12) by decide +kernel) (by decide) rfl,
  fun _ _ _ _ _ _ _ _ _ _ => r_aload_nr (show zdec 266 16 = some (.aload_n 0, 1) by decide +kernel) rfl rfl,
  fun _ _ _ _ _ _ _ _ _ _ => r_lload (show zdec 266 17 = some (.lload 6, 2) by decide +kernel) rfl rfl,
  fun _ _ _ _ _ _ _ _ _ _ _ _ => r_cV [_] rfl (show zdec 266 19 = some (.invokevirtual 226, 3) by decide +kernel) (show zst.lookup (266 * zKEY + 226) = some (1, 269, 1, 12) by decide +kernel) (by decide) rfl,
  fun _ _ _ _ _ _ _ _ _ _ => r_aload_nr (show zdec 266 22 = some (.aload_n 0, 1) by decide +kernel) rfl rfl,
  fun _ _ _ _ _ _ _ _ _ _ => r_bipush (show zdec 266 23 = some (.bipush 59, 2) by decide +kernel) rfl rfl,
  fun _ _ _ _ _ _ _ _ _ _ _ _ => r_cV [_] rfl (show zdec 266 25 = some (.invokevirtual 212, 3) by decide +kernel) (show zst.lookup (266 * zKEY + 212) = some (1, 268, 1, 12) by decide +kernel) (by decide) rfl,
  fun _ _ _ _ _ _ _ _ _ => r_vret (show zdec 266 28 = some (.return_, 1) by decide +kernel) (by decide +kernel)⟩
theorem ze_266 : ∀ (a0 : Nat) (a1 : Int32) (a2 : Int64) (a3 : Int64) (a4 : Int64) (h : zH), ev 266 [.ref a0, .int a1, .long a2, .long a3, .long a4] h = rn 266 0 [.ref a0, .int a1, .long a2, .float 0, .long a3, .float 0, .long a4, .float 0] [] h := fun _ _ _ _ _ _ => if_pos (Nat.le_of_ble_eq_true rfl)
-- PayrollRunModel.writeName(I)V
theorem zr_267 : (∀ (l0 l2 l3 : Value) (x : Int32) (S : List Value) (h : zH), rn 267 0 [l0, .int x, l2, l3] S h = rn 267 1 [l0, .int x, l2, l3] (.int x :: S) h) ∧
  (∀ (l0 l1 l2 l3 : Value) (x : Int32) (S : List Value) (h : zH), rn 267 1 [l0, l1, l2, l3] (.int x :: S) h = if x = nI 0 then rn 267 4 [l0, l1, l2, l3] S h else rn 267 9 [l0, l1, l2, l3] S h) ∧
  (∀ (l0 l1 l2 l3 : Value) (S : List Value) (h : zH), rn 267 4 [l0, l1, l2, l3] S h = rn 267 6 [l0, l1, l2, l3] (.ref 50 :: S) h) ∧
  (∀ (l0 l1 l2 l3 : Value) (S : List Value) (h : zH), rn 267 6 [l0, l1, l2, l3] S h = rn 267 72 [l0, l1, l2, l3] S h) ∧
  (∀ (l0 l2 l3 : Value) (x : Int32) (S : List Value) (h : zH), rn 267 9 [l0, .int x, l2, l3] S h = rn 267 10 [l0, .int x, l2, l3] (.int x :: S) h) ∧
  (∀ (l0 l1 l2 l3 : Value) (S : List Value) (h : zH), rn 267 10 [l0, l1, l2, l3] S h = rn 267 11 [l0, l1, l2, l3] (.int (nI 1) :: S) h) ∧
  (∀ (l0 l1 l2 l3 : Value) (x : Int32) (y : Int32) (S : List Value) (h : zH), rn 267 11 [l0, l1, l2, l3] (.int y :: .int x :: S) h = if x = y then rn 267 14 [l0, l1, l2, l3] S h else rn 267 19 [l0, l1, l2, l3] S h) ∧
  (∀ (l0 l1 l2 l3 : Value) (S : List Value) (h : zH), rn 267 14 [l0, l1, l2, l3] S h = rn 267 16 [l0, l1, l2, l3] (.ref 52 :: S) h) ∧
  (∀ (l0 l1 l2 l3 : Value) (S : List Value) (h : zH), rn 267 16 [l0, l1, l2, l3] S h = rn 267 72 [l0, l1, l2, l3] S h) ∧
  (∀ (l0 l2 l3 : Value) (x : Int32) (S : List Value) (h : zH), rn 267 19 [l0, .int x, l2, l3] S h = rn 267 20 [l0, .int x, l2, l3] (.int x :: S) h) ∧
  (∀ (l0 l1 l2 l3 : Value) (S : List Value) (h : zH), rn 267 20 [l0, l1, l2, l3] S h = rn 267 21 [l0, l1, l2, l3] (.int (nI 2) :: S) h) ∧
  (∀ (l0 l1 l2 l3 : Value) (x : Int32) (y : Int32) (S : List Value) (h : zH), rn 267 21 [l0, l1, l2, l3] (.int y :: .int x :: S) h = if x = y then rn 267 24 [l0, l1, l2, l3] S h else rn 267 29 [l0, l1, l2, l3] S h) ∧
  (∀ (l0 l1 l2 l3 : Value) (S : List Value) (h : zH), rn 267 24 [l0, l1, l2, l3] S h = rn 267 26 [l0, l1, l2, l3] (.ref 54 :: S) h) ∧
  (∀ (l0 l1 l2 l3 : Value) (S : List Value) (h : zH), rn 267 26 [l0, l1, l2, l3] S h = rn 267 72 [l0, l1, l2, l3] S h) ∧
  (∀ (l0 l2 l3 : Value) (x : Int32) (S : List Value) (h : zH), rn 267 29 [l0, .int x, l2, l3] S h = rn 267 30 [l0, .int x, l2, l3] (.int x :: S) h) ∧
  (∀ (l0 l1 l2 l3 : Value) (S : List Value) (h : zH), rn 267 30 [l0, l1, l2, l3] S h = rn 267 31 [l0, l1, l2, l3] (.int (nI 3) :: S) h) ∧
  (∀ (l0 l1 l2 l3 : Value) (x : Int32) (y : Int32) (S : List Value) (h : zH), rn 267 31 [l0, l1, l2, l3] (.int y :: .int x :: S) h = if x = y then rn 267 34 [l0, l1, l2, l3] S h else rn 267 39 [l0, l1, l2, l3] S h) ∧
  (∀ (l0 l1 l2 l3 : Value) (S : List Value) (h : zH), rn 267 34 [l0, l1, l2, l3] S h = rn 267 36 [l0, l1, l2, l3] (.ref 56 :: S) h) ∧
  (∀ (l0 l1 l2 l3 : Value) (S : List Value) (h : zH), rn 267 36 [l0, l1, l2, l3] S h = rn 267 72 [l0, l1, l2, l3] S h) ∧
  (∀ (l0 l2 l3 : Value) (x : Int32) (S : List Value) (h : zH), rn 267 39 [l0, .int x, l2, l3] S h = rn 267 40 [l0, .int x, l2, l3] (.int x :: S) h) ∧
  (∀ (l0 l1 l2 l3 : Value) (S : List Value) (h : zH), rn 267 40 [l0, l1, l2, l3] S h = rn 267 41 [l0, l1, l2, l3] (.int (nI 4) :: S) h) ∧
  (∀ (l0 l1 l2 l3 : Value) (x : Int32) (y : Int32) (S : List Value) (h : zH), rn 267 41 [l0, l1, l2, l3] (.int y :: .int x :: S) h = if x = y then rn 267 44 [l0, l1, l2, l3] S h else rn 267 49 [l0, l1, l2, l3] S h) ∧
  (∀ (l0 l1 l2 l3 : Value) (S : List Value) (h : zH), rn 267 44 [l0, l1, l2, l3] S h = rn 267 46 [l0, l1, l2, l3] (.ref 58 :: S) h) ∧
  (∀ (l0 l1 l2 l3 : Value) (S : List Value) (h : zH), rn 267 46 [l0, l1, l2, l3] S h = rn 267 72 [l0, l1, l2, l3] S h) ∧
  (∀ (l0 l2 l3 : Value) (x : Int32) (S : List Value) (h : zH), rn 267 49 [l0, .int x, l2, l3] S h = rn 267 50 [l0, .int x, l2, l3] (.int x :: S) h) ∧
  (∀ (l0 l1 l2 l3 : Value) (S : List Value) (h : zH), rn 267 50 [l0, l1, l2, l3] S h = rn 267 51 [l0, l1, l2, l3] (.int (nI 5) :: S) h) ∧
  (∀ (l0 l1 l2 l3 : Value) (x : Int32) (y : Int32) (S : List Value) (h : zH), rn 267 51 [l0, l1, l2, l3] (.int y :: .int x :: S) h = if x = y then rn 267 54 [l0, l1, l2, l3] S h else rn 267 59 [l0, l1, l2, l3] S h) ∧
  (∀ (l0 l1 l2 l3 : Value) (S : List Value) (h : zH), rn 267 54 [l0, l1, l2, l3] S h = rn 267 56 [l0, l1, l2, l3] (.ref 60 :: S) h) ∧
  (∀ (l0 l1 l2 l3 : Value) (S : List Value) (h : zH), rn 267 56 [l0, l1, l2, l3] S h = rn 267 72 [l0, l1, l2, l3] S h) ∧
  (∀ (l0 l2 l3 : Value) (x : Int32) (S : List Value) (h : zH), rn 267 59 [l0, .int x, l2, l3] S h = rn 267 60 [l0, .int x, l2, l3] (.int x :: S) h) ∧
  (∀ (l0 l1 l2 l3 : Value) (S : List Value) (h : zH), rn 267 60 [l0, l1, l2, l3] S h = rn 267 62 [l0, l1, l2, l3] (.int (nI 6) :: S) h) ∧
  (∀ (l0 l1 l2 l3 : Value) (x : Int32) (y : Int32) (S : List Value) (h : zH), rn 267 62 [l0, l1, l2, l3] (.int y :: .int x :: S) h = if x = y then rn 267 65 [l0, l1, l2, l3] S h else rn 267 70 [l0, l1, l2, l3] S h) ∧
  (∀ (l0 l1 l2 l3 : Value) (S : List Value) (h : zH), rn 267 65 [l0, l1, l2, l3] S h = rn 267 67 [l0, l1, l2, l3] (.ref 62 :: S) h) ∧
  (∀ (l0 l1 l2 l3 : Value) (S : List Value) (h : zH), rn 267 67 [l0, l1, l2, l3] S h = rn 267 72 [l0, l1, l2, l3] S h) ∧
  (∀ (l0 l1 l2 l3 : Value) (S : List Value) (h : zH), rn 267 70 [l0, l1, l2, l3] S h = rn 267 72 [l0, l1, l2, l3] (.ref 64 :: S) h) ∧
  (∀ (l0 l1 l2 l3 : Value) (v : Value) (S : List Value) (h : zH), rn 267 72 [l0, l1, l2, l3] (v :: S) h = ldA v (nl l1 (rn 267 73 [l0, l1, v, l3] S h))) ∧
  (∀ (l0 l1 l2 l3 : Value) (S : List Value) (h : zH), rn 267 73 [l0, l1, l2, l3] S h = rn 267 74 [l0, l1, l2, l3] (.int (nI 0) :: S) h) ∧
  (∀ (l0 l1 l2 l3 : Value) (x : Int32) (S : List Value) (h : zH), rn 267 74 [l0, l1, l2, l3] (.int x :: S) h = nl l2 (rn 267 75 [l0, l1, l2, .int x] S h)) ∧
  (∀ (l0 l1 l2 l3 : Value) (S : List Value) (h : zH), rn 267 76 [l0, l1, l2, l3] S h = ldA l2 (rn 267 77 [l0, l1, l2, l3] (l2 :: S) h)) ∧
  (∀ (l0 l1 l2 l3 : Value) (o : Nat) (S : List Value) (h : zH), rn 267 77 [l0, l1, l2, l3] (.ref o :: S) h = if zkd h o = 13 ∧ zsum S ≤ 8 then zcall (ev 122 [.ref o] h) (fun v h => rn 267 80 [l0, l1, l2, l3] (zpush v S) h) else none) ∧
  (∀ (l0 l1 l2 l3 : Value) (x : Int32) (y : Int32) (S : List Value) (h : zH), rn 267 80 [l0, l1, l2, l3] (.int y :: .int x :: S) h = if y ≤ x then rn 267 98 [l0, l1, l2, l3] S h else rn 267 83 [l0, l1, l2, l3] S h) ∧
  (∀ (l1 l2 l3 : Value) (x : Nat) (S : List Value) (h : zH), rn 267 83 [.ref x, l1, l2, l3] S h = rn 267 84 [.ref x, l1, l2, l3] (.ref x :: S) h) ∧
  (∀ (l0 l1 l2 l3 : Value) (S : List Value) (h : zH), rn 267 84 [l0, l1, l2, l3] S h = ldA l2 (rn 267 85 [l0, l1, l2, l3] (l2 :: S) h)) ∧
  (∀ (l0 l1 l2 : Value) (x : Int32) (S : List Value) (h : zH), rn 267 85 [l0, l1, l2, .int x] S h = rn 267 86 [l0, l1, l2, .int x] (.int x :: S) h) ∧
  (∀ (l0 l1 l2 l3 : Value) (o : Nat) (v0 : Value) (S : List Value) (h : zH), rn 267 86 [l0, l1, l2, l3] (v0 :: .ref o :: S) h = if zkd h o = 13 ∧ zsum S ≤ 8 then zcall (ev 189 [.ref o, v0] h) (fun v h => rn 267 89 [l0, l1, l2, l3] (zpush v S) h) else none) ∧
  (∀ (l0 l1 l2 l3 : Value) (o : Nat) (v0 : Value) (S : List Value) (h : zH), rn 267 89 [l0, l1, l2, l3] (v0 :: .ref o :: S) h = if zkd h o = 12 ∧ zsum S ≤ 8 then zcall (ev 268 [.ref o, v0] h) (fun v h => rn 267 92 [l0, l1, l2, l3] (zpush v S) h) else none) ∧
  (∀ (l0 l1 l2 : Value) (x : Int32) (S : List Value) (h : zH), rn 267 92 [l0, l1, l2, .int x] S h = nl l2 (rn 267 95 [l0, l1, l2, .int (x + (nI 1))] S h)) ∧
  (∀ (l0 l1 l2 l3 : Value) (S : List Value) (h : zH), rn 267 95 [l0, l1, l2, l3] S h = rn 267 75 [l0, l1, l2, l3] S h) ∧
  (∀ (l0 l1 l2 l3 : Value) (h : zH), rn 267 98 [l0, l1, l2, l3] [] h = some (none, h)) := ⟨fun _ _ _ _ _ _ => r_iload_n (show zdec 267 0 = some (.iload_n 1, 1) by decide +kernel) rfl rfl,
  fun _ _ _ _ _ _ _ => r_ifne (show zdec 267 1 = some (.ifCond .ne 8, 3) by decide +kernel) rfl rfl,
  fun _ _ _ _ _ _ => r_ldcS (show zdec 267 4 = some (.ldc 189, 2) by decide +kernel) (show zkt.lookup (267 * zKEY + 189) = none by decide +kernel) (show zut.lookup (267 * zKEY + 189) = some 20 by decide +kernel) rfl rfl,
  fun _ _ _ _ _ _ => r_goto (show zdec 267 6 = some (.goto 66, 3) by decide +kernel) rfl,
  fun _ _ _ _ _ _ => r_iload_n (show zdec 267 9 = some (.iload_n 1, 1) by decide +kernel) rfl rfl,
  fun _ _ _ _ _ _ => r_iconst (show zdec 267 10 = some (.iconst 1, 1) by decide +kernel) rfl rfl,
  fun _ _ _ _ _ _ _ _ => r_icmpne (show zdec 267 11 = some (.if_icmp .ne 8, 3) by decide +kernel) rfl rfl,
  fun _ _ _ _ _ _ => r_ldcS (show zdec 267 14 = some (.ldc 191, 2) by decide +kernel) (show zkt.lookup (267 * zKEY + 191) = none by decide +kernel) (show zut.lookup (267 * zKEY + 191) = some 21 by decide +kernel) rfl rfl,
  fun _ _ _ _ _ _ => r_goto (show zdec 267 16 = some (.goto 56, 3) by decide +kernel) rfl,
  fun _ _ _ _ _ _ => r_iload_n (show zdec 267 19 = some (.iload_n 1, 1) by decide +kernel) rfl rfl,
  fun _ _ _ _ _ _ => r_iconst (show zdec 267 20 = some (.iconst 2, 1) by decide +kernel) rfl rfl,
  fun _ _ _ _ _ _ _ _ => r_icmpne (show zdec 267 21 = some (.if_icmp .ne 8, 3) by decide +kernel) rfl rfl,
  fun _ _ _ _ _ _ => r_ldcS (show zdec 267 24 = some (.ldc 193, 2) by decide +kernel) (show zkt.lookup (267 * zKEY + 193) = none by decide +kernel) (show zut.lookup (267 * zKEY + 193) = some 22 by decide +kernel) rfl rfl,
  fun _ _ _ _ _ _ => r_goto (show zdec 267 26 = some (.goto 46, 3) by decide +kernel) rfl,
  fun _ _ _ _ _ _ => r_iload_n (show zdec 267 29 = some (.iload_n 1, 1) by decide +kernel) rfl rfl,
  fun _ _ _ _ _ _ => r_iconst (show zdec 267 30 = some (.iconst 3, 1) by decide +kernel) rfl rfl,
  fun _ _ _ _ _ _ _ _ => r_icmpne (show zdec 267 31 = some (.if_icmp .ne 8, 3) by decide +kernel) rfl rfl,
  fun _ _ _ _ _ _ => r_ldcS (show zdec 267 34 = some (.ldc 195, 2) by decide +kernel) (show zkt.lookup (267 * zKEY + 195) = none by decide +kernel) (show zut.lookup (267 * zKEY + 195) = some 23 by decide +kernel) rfl rfl,
  fun _ _ _ _ _ _ => r_goto (show zdec 267 36 = some (.goto 36, 3) by decide +kernel) rfl,
  fun _ _ _ _ _ _ => r_iload_n (show zdec 267 39 = some (.iload_n 1, 1) by decide +kernel) rfl rfl,
  fun _ _ _ _ _ _ => r_iconst (show zdec 267 40 = some (.iconst 4, 1) by decide +kernel) rfl rfl,
  fun _ _ _ _ _ _ _ _ => r_icmpne (show zdec 267 41 = some (.if_icmp .ne 8, 3) by decide +kernel) rfl rfl,
  fun _ _ _ _ _ _ => r_ldcS (show zdec 267 44 = some (.ldc 196, 2) by decide +kernel) (show zkt.lookup (267 * zKEY + 196) = none by decide +kernel) (show zut.lookup (267 * zKEY + 196) = some 24 by decide +kernel) rfl rfl,
  fun _ _ _ _ _ _ => r_goto (show zdec 267 46 = some (.goto 26, 3) by decide +kernel) rfl,
  fun _ _ _ _ _ _ => r_iload_n (show zdec 267 49 = some (.iload_n 1, 1) by decide +kernel) rfl rfl,
  fun _ _ _ _ _ _ => r_iconst (show zdec 267 50 = some (.iconst 5, 1) by decide +kernel) rfl rfl,
  fun _ _ _ _ _ _ _ _ => r_icmpne (show zdec 267 51 = some (.if_icmp .ne 8, 3) by decide +kernel) rfl rfl,
  fun _ _ _ _ _ _ => r_ldcS (show zdec 267 54 = some (.ldc 198, 2) by decide +kernel) (show zkt.lookup (267 * zKEY + 198) = none by decide +kernel) (show zut.lookup (267 * zKEY + 198) = some 25 by decide +kernel) rfl rfl,
  fun _ _ _ _ _ _ => r_goto (show zdec 267 56 = some (.goto 16, 3) by decide +kernel) rfl,
  fun _ _ _ _ _ _ => r_iload_n (show zdec 267 59 = some (.iload_n 1, 1) by decide +kernel) rfl rfl,
  fun _ _ _ _ _ _ => r_bipush (show zdec 267 60 = some (.bipush 6, 2) by decide +kernel) rfl rfl,
  fun _ _ _ _ _ _ _ _ => r_icmpne (show zdec 267 62 = some (.if_icmp .ne 8, 3) by decide +kernel) rfl rfl,
  fun _ _ _ _ _ _ => r_ldcS (show zdec 267 65 = some (.ldc 199, 2) by decide +kernel) (show zkt.lookup (267 * zKEY + 199) = none by decide +kernel) (show zut.lookup (267 * zKEY + 199) = some 26 by decide +kernel) rfl rfl,
  fun _ _ _ _ _ _ => r_goto (show zdec 267 67 = some (.goto 5, 3) by decide +kernel) rfl,
  fun _ _ _ _ _ _ => r_ldcS (show zdec 267 70 = some (.ldc 201, 2) by decide +kernel) (show zkt.lookup (267 * zKEY + 201) = none by decide +kernel) (show zut.lookup (267 * zKEY + 201) = some 27 by decide +kernel) rfl rfl,
  fun _ _ _ _ _ _ _ => r_astore_n (show zdec 267 72 = some (.astore_n 2, 1) by decide +kernel) rfl rfl (Nat.le_of_ble_eq_true rfl) rfl rfl,
  fun _ _ _ _ _ _ => r_iconst (show zdec 267 73 = some (.iconst 0, 1) by decide +kernel) rfl rfl,
  fun _ _ _ _ _ _ _ => r_istore_n (show zdec 267 74 = some (.istore_n 3, 1) by decide +kernel) rfl rfl (Nat.le_of_ble_eq_true rfl) rfl rfl,
  fun _ _ _ _ _ _ => r_aload_n (show zdec 267 76 = some (.aload_n 2, 1) by decide +kernel) rfl rfl,
  fun _ _ _ _ _ _ _ => r_cV [] rfl (show zdec 267 77 = some (.invokevirtual 203, 3) by decide +kernel) (show zst.lookup (267 * zKEY + 203) = some (1, 122, 0, 13) by decide +kernel) (by decide) rfl,
  fun _ _ _ _ _ _ _ _ => r_icmpge (show zdec 267 80 = some (.if_icmp .ge 18, 3) by decide +kernel) rfl rfl,
  fun _ _ _ _ _ _ => r_aload_nr (show zdec 267 83 = some (.aload_n 0, 1) by decide +kernel) rfl rfl,
  fun _ _ _ _ _ _ => r_aload_n (show zdec 267 84 = some (.aload_n 2, 1) by decide +kernel) rfl rfl,
  fun _ _ _ _ _ _ => r_iload_n (show zdec 267 85 = some (.iload_n 3, 1) by decide +kernel) rfl rfl,
  fun _ _ _ _ _ _ _ _ => r_cV [_] rfl (show zdec 267 86 = some (.invokevirtual 208, 3) by decide +kernel) (show zst.lookup (267 * zKEY + 208) = some (1, 189, 1, 13) by decide +kernel) (by decide) rfl,
  fun _ _ _ _ _ _ _ _ => r_cV [_] rfl (show zdec 267 89 = some (.invokevirtual 212, 3) by decide +kernel) (show zst.lookup (267 * zKEY + 212) = some (1, 268, 1, 12) by decide +kernel) (by decide) rfl,
  fun _ _ _ _ _ _ => r_iinc (show zdec 267 92 = some (.iinc 3 1, 3) by decide +kernel) rfl rfl rfl (Nat.le_of_ble_eq_true rfl) rfl rfl,
  fun _ _ _ _ _ _ => r_goto (show zdec 267 95 = some (.goto (-20), 3) by decide +kernel) rfl,
  fun _ _ _ _ _ => r_vret (show zdec 267 98 = some (.return_, 1) by decide +kernel) (by decide +kernel)⟩
theorem zl_267_75 : ∀ (l0 l1 l2 : Value) (x : Int32) (S : List Value) (h : zH), rn 267 75 [l0, l1, l2, .int x] S h = rn 267 76 [l0, l1, l2, .int x] (.int x :: S) h := fun _ _ _ _ _ _ => r_iload_n (show zdec 267 75 = some (.iload_n 3, 1) by decide +kernel) rfl rfl
theorem ze_267 : ∀ (a0 : Nat) (a1 : Int32) (h : zH), ev 267 [.ref a0, .int a1] h = rn 267 0 [.ref a0, .int a1, .float 0, .float 0] [] h := fun _ _ _ => if_pos (Nat.le_of_ble_eq_true rfl)
-- PayrollRunModel.write(C)V
theorem zr_268 : (∀ (l1 : Value) (x : Nat) (S : List Value) (h : zH), rn 268 0 [.ref x, l1] S h = rn 268 1 [.ref x, l1] (.ref x :: S) h) ∧
  (∀ (l0 l1 : Value) (a : Nat) (S : List Value) (h : zH), rn 268 1 [l0, l1] (.ref a :: S) h = zgf h a 12 8 fun v => rn 268 4 [l0, l1] (v :: S) h) ∧
  (∀ (l1 : Value) (x : Nat) (S : List Value) (h : zH), rn 268 4 [.ref x, l1] S h = rn 268 5 [.ref x, l1] (.ref x :: S) h) ∧
  (∀ (l0 l1 : Value) (a : Nat) (S : List Value) (h : zH), rn 268 5 [l0, l1] (.ref a :: S) h = zgf h a 12 9 fun v => rn 268 8 [l0, l1] (v :: S) h) ∧
  (∀ (l0 : Value) (x : Int32) (S : List Value) (h : zH), rn 268 8 [l0, .int x] S h = rn 268 9 [l0, .int x] (.int x :: S) h) ∧
  (∀ (l0 l1 : Value) (a : Nat) (j : Int32) (x : Int32) (S : List Value) (h : zH), rn 268 9 [l0, l1] (.int x :: .int j :: .ref a :: S) h = zsi h a 2 j (vp_nar .char x) fun h => rn 268 10 [l0, l1] S h) ∧
  (∀ (l1 : Value) (x : Nat) (S : List Value) (h : zH), rn 268 10 [.ref x, l1] S h = rn 268 11 [.ref x, l1] (.ref x :: S) h) ∧
  (∀ (l0 l1 : Value) (v : Value) (S : List Value) (h : zH), rn 268 11 [l0, l1] (v :: S) h = c1 v (rn 268 12 [l0, l1] (v :: v :: S) h)) ∧
  (∀ (l0 l1 : Value) (a : Nat) (S : List Value) (h : zH), rn 268 12 [l0, l1] (.ref a :: S) h = zgf h a 12 9 fun v => rn 268 15 [l0, l1] (v :: S) h) ∧
  (∀ (l0 l1 : Value) (S : List Value) (h : zH), rn 268 15 [l0, l1] S h = rn 268 16 [l0, l1] (.int (nI 1) :: S) h) ∧
  (∀ (l0 l1 : Value) (x : Int32) (y : Int32) (S : List Value) (h : zH), rn 268 16 [l0, l1] (.int y :: .int x :: S) h = rn 268 17 [l0, l1] (.int (x + y) :: S) h) ∧
  (∀ (l0 l1 : Value) (a : Nat) (v : Value) (S : List Value) (h : zH), rn 268 17 [l0, l1] (v :: .ref a :: S) h = zpf h a 12 9 v fun h => rn 268 20 [l0, l1] S h) ∧
  (∀ (l0 l1 : Value) (h : zH), rn 268 20 [l0, l1] [] h = some (none, h)) := ⟨fun _ _ _ _ => r_aload_nr (show zdec 268 0 = some (.aload_n 0, 1) by decide +kernel) rfl rfl,
  fun _ _ _ _ _ => r_getfield (show zdec 268 1 = some (.getfield 26, 3) by decide +kernel) (show zft.lookup (268 * zKEY + 26) = some (12, 8) by decide +kernel) rfl,
  fun _ _ _ _ => r_aload_nr (show zdec 268 4 = some (.aload_n 0, 1) by decide +kernel) rfl rfl,
  fun _ _ _ _ _ => r_getfield (show zdec 268 5 = some (.getfield 186, 3) by decide +kernel) (show zft.lookup (268 * zKEY + 186) = some (12, 9) by decide +kernel) rfl,
  fun _ _ _ _ => r_iload_n (show zdec 268 8 = some (.iload_n 1, 1) by decide +kernel) rfl rfl,
  fun _ _ _ _ _ _ _ => r_cast (show zdec 268 9 = some (.castore, 1) by decide +kernel) rfl,
  fun _ _ _ _ => r_aload_nr (show zdec 268 10 = some (.aload_n 0, 1) by decide +kernel) rfl rfl,
  fun _ _ _ _ _ => r_dup (show zdec 268 11 = some (.dup, 1) by decide +kernel) rfl,
  fun _ _ _ _ _ => r_getfield (show zdec 268 12 = some (.getfield 186, 3) by decide +kernel) (show zft.lookup (268 * zKEY + 186) = some (12, 9) by decide +kernel) rfl,
  fun _ _ _ _ => r_iconst (show zdec 268 15 = some (.iconst 1, 1) by decide +kernel) rfl rfl,
  fun _ _ _ _ _ _ => r_iadd (show zdec 268 16 = some (.iadd, 1) by decide +kernel) rfl,
  fun _ _ _ _ _ _ => r_putfield (show zdec 268 17 = some (.putfield 186, 3) by decide +kernel) (show zft.lookup (268 * zKEY + 186) = some (12, 9) by decide +kernel) (by decide +kernel) rfl,
  fun _ _ _ => r_vret (show zdec 268 20 = some (.return_, 1) by decide +kernel) (by decide +kernel)⟩
theorem ze_268 : ∀ (a0 : Nat) (a1 : Int32) (h : zH), ev 268 [.ref a0, .int a1] h = rn 268 0 [.ref a0, .int a1] [] h := fun _ _ _ => if_pos (Nat.le_of_ble_eq_true rfl)
-- PayrollRunModel.writeNumber(J)V
theorem zr_269 : (∀ (l1 l2 l3 l4 l5 l6 : Value) (x : Nat) (S : List Value) (h : zH), rn 269 0 [.ref x, l1, l2, l3, l4, l5, l6] S h = rn 269 1 [.ref x, l1, l2, l3, l4, l5, l6] (.ref x :: S) h) ∧
  (∀ (l0 l1 l2 l3 l4 l5 l6 : Value) (S : List Value) (h : zH), rn 269 1 [l0, l1, l2, l3, l4, l5, l6] S h = rn 269 3 [l0, l1, l2, l3, l4, l5, l6] (.int (nI 32) :: S) h) ∧
  (∀ (l0 l1 l2 l3 l4 l5 l6 : Value) (o : Nat) (v0 : Value) (S : List Value) (h : zH), rn 269 3 [l0, l1, l2, l3, l4, l5, l6] (v0 :: .ref o :: S) h = if zkd h o = 12 ∧ zsum S ≤ 8 then zcall (ev 268 [.ref o, v0] h) (fun v h => rn 269 6 [l0, l1, l2, l3, l4, l5, l6] (zpush v S) h) else none) ∧
  (∀ (l0 l2 l3 l4 l5 l6 : Value) (x : Int64) (S : List Value) (h : zH), rn 269 6 [l0, .long x, l2, l3, l4, l5, l6] S h = rn 269 7 [l0, .long x, l2, l3, l4, l5, l6] (.long x :: S) h) ∧
  (∀ (l0 l1 l2 l3 l4 l5 l6 : Value) (S : List Value) (h : zH), rn 269 7 [l0, l1, l2, l3, l4, l5, l6] S h = rn 269 8 [l0, l1, l2, l3, l4, l5, l6] (.long 0 :: S) h) ∧
  (∀ (l0 l1 l2 l3 l4 l5 l6 : Value) (x : Int64) (y : Int64) (S : List Value) (h : zH), rn 269 8 [l0, l1, l2, l3, l4, l5, l6] (.long y :: .long x :: S) h = rn 269 9 [l0, l1, l2, l3, l4, l5, l6] (.int (lg_cmp x y) :: S) h) ∧
  (∀ (l0 l1 l2 l3 l4 l5 l6 : Value) (x : Int32) (S : List Value) (h : zH), rn 269 9 [l0, l1, l2, l3, l4, l5, l6] (.int x :: S) h = if nI 0 ≤ x then rn 269 18 [l0, l1, l2, l3, l4, l5, l6] S h else rn 269 12 [l0, l1, l2, l3, l4, l5, l6] S h) ∧
  (∀ (l1 l2 l3 l4 l5 l6 : Value) (x : Nat) (S : List Value) (h : zH), rn 269 12 [.ref x, l1, l2, l3, l4, l5, l6] S h = rn 269 13 [.ref x, l1, l2, l3, l4, l5, l6] (.ref x :: S) h) ∧
  (∀ (l0 l1 l2 l3 l4 l5 l6 : Value) (S : List Value) (h : zH), rn 269 13 [l0, l1, l2, l3, l4, l5, l6] S h = rn 269 15 [l0, l1, l2, l3, l4, l5, l6] (.int (nI 45) :: S) h) ∧
  (∀ (l0 l1 l2 l3 l4 l5 l6 : Value) (o : Nat) (v0 : Value) (S : List Value) (h : zH), rn 269 15 [l0, l1, l2, l3, l4, l5, l6] (v0 :: .ref o :: S) h = if zkd h o = 12 ∧ zsum S ≤ 8 then zcall (ev 268 [.ref o, v0] h) (fun v h => rn 269 18 [l0, l1, l2, l3, l4, l5, l6] (zpush v S) h) else none) ∧
  (∀ (l0 l2 l3 l4 l5 l6 : Value) (x : Int64) (S : List Value) (h : zH), rn 269 18 [l0, .long x, l2, l3, l4, l5, l6] S h = rn 269 19 [l0, .long x, l2, l3, l4, l5, l6] (.long x :: S) h) ∧
  (∀ (l0 l1 l2 l3 l4 l5 l6 : Value) (S : List Value) (h : zH), rn 269 19 [l0, l1, l2, l3, l4, l5, l6] S h = rn 269 20 [l0, l1, l2, l3, l4, l5, l6] (.long 0 :: S) h) ∧
  (∀ (l0 l1 l2 l3 l4 l5 l6 : Value) (x : Int64) (y : Int64) (S : List Value) (h : zH), rn 269 20 [l0, l1, l2, l3, l4, l5, l6] (.long y :: .long x :: S) h = rn 269 21 [l0, l1, l2, l3, l4, l5, l6] (.int (lg_cmp x y) :: S) h) ∧
  (∀ (l0 l1 l2 l3 l4 l5 l6 : Value) (x : Int32) (S : List Value) (h : zH), rn 269 21 [l0, l1, l2, l3, l4, l5, l6] (.int x :: S) h = if nI 0 ≤ x then rn 269 29 [l0, l1, l2, l3, l4, l5, l6] S h else rn 269 24 [l0, l1, l2, l3, l4, l5, l6] S h) ∧
  (∀ (l0 l2 l3 l4 l5 l6 : Value) (x : Int64) (S : List Value) (h : zH), rn 269 24 [l0, .long x, l2, l3, l4, l5, l6] S h = rn 269 25 [l0, .long x, l2, l3, l4, l5, l6] (.long x :: S) h) ∧
  (∀ (l0 l1 l2 l3 l4 l5 l6 : Value) (x : Int64) (S : List Value) (h : zH), rn 269 25 [l0, l1, l2, l3, l4, l5, l6] (.long x :: S) h = rn 269 26 [l0, l1, l2, l3, l4, l5, l6] (.long (-x) :: S) h) ∧
  (∀ (l0 l1 l2 l3 l4 l5 l6 : Value) (S : List Value) (h : zH), rn 269 26 [l0, l1, l2, l3, l4, l5, l6] S h = rn 269 30 [l0, l1, l2, l3, l4, l5, l6] S h) ∧
  (∀ (l0 l2 l3 l4 l5 l6 : Value) (x : Int64) (S : List Value) (h : zH), rn 269 29 [l0, .long x, l2, l3, l4, l5, l6] S h = rn 269 30 [l0, .long x, l2, l3, l4, l5, l6] (.long x :: S) h) ∧
  (∀ (l0 l1 l2 l3 l4 l5 l6 : Value) (x : Int64) (S : List Value) (h : zH), rn 269 30 [l0, l1, l2, l3, l4, l5, l6] (.long x :: S) h = nl l2 (rn 269 31 [l0, l1, l2, .long x, .float 0, l5, l6] S h)) ∧
  (∀ (l0 l1 l2 l3 l4 l5 l6 : Value) (S : List Value) (h : zH), rn 269 31 [l0, l1, l2, l3, l4, l5, l6] S h = rn 269 32 [l0, l1, l2, l3, l4, l5, l6] (.long 1 :: S) h) ∧
  (∀ (l0 l1 l2 l3 l4 l5 l6 : Value) (x : Int64) (S : List Value) (h : zH), rn 269 32 [l0, l1, l2, l3, l4, l5, l6] (.long x :: S) h = nl l4 (rn 269 34 [l0, l1, l2, l3, l4, .long x, .float 0] S h)) ∧
  (∀ (l0 l1 l2 l3 l4 l6 : Value) (x : Int64) (S : List Value) (h : zH), rn 269 35 [l0, l1, l2, l3, l4, .long x, l6] S h = rn 269 37 [l0, l1, l2, l3, l4, .long x, l6] (.long x :: S) h) ∧
  (∀ (l0 l1 l2 l3 l4 l5 l6 : Value) (x : Int64) (y : Int64) (S : List Value) (h : zH), rn 269 37 [l0, l1, l2, l3, l4, l5, l6] (.long y :: .long x :: S) h = dvJ y (rn 269 38 [l0, l1, l2, l3, l4, l5, l6] (.long (x / y) :: S) h)) ∧
  (∀ (l0 l1 l2 l3 l4 l5 l6 : Value) (S : List Value) (h : zH), rn 269 38 [l0, l1, l2, l3, l4, l5, l6] S h = rn 269 41 [l0, l1, l2, l3, l4, l5, l6] (.long (9) :: S) h) ∧
  (∀ (l0 l1 l2 l3 l4 l5 l6 : Value) (x : Int64) (y : Int64) (S : List Value) (h : zH), rn 269 41 [l0, l1, l2, l3, l4, l5, l6] (.long y :: .long x :: S) h = rn 269 42 [l0, l1, l2, l3, l4, l5, l6] (.int (lg_cmp x y) :: S) h) ∧
  (∀ (l0 l1 l2 l3 l4 l5 l6 : Value) (x : Int32) (S : List Value) (h : zH), rn 269 42 [l0, l1, l2, l3, l4, l5, l6] (.int x :: S) h = if x ≤ nI 0 then rn 269 56 [l0, l1, l2, l3, l4, l5, l6] S h else rn 269 45 [l0, l1, l2, l3, l4, l5, l6] S h) ∧
  (∀ (l0 l1 l2 l3 l4 l6 : Value) (x : Int64) (S : List Value) (h : zH), rn 269 45 [l0, l1, l2, l3, l4, .long x, l6] S h = rn 269 47 [l0, l1, l2, l3, l4, .long x, l6] (.long x :: S) h) ∧
  (∀ (l0 l1 l2 l3 l4 l5 l6 : Value) (S : List Value) (h : zH), rn 269 47 [l0, l1, l2, l3, l4, l5, l6] S h = rn 269 50 [l0, l1, l2, l3, l4, l5, l6] (.long (10) :: S) h) ∧
  (∀ (l0 l1 l2 l3 l4 l5 l6 : Value) (x : Int64) (y : Int64) (S : List Value) (h : zH), rn 269 50 [l0, l1, l2, l3, l4, l5, l6] (.long y :: .long x :: S) h = rn 269 51 [l0, l1, l2, l3, l4, l5, l6] (.long (x * y) :: S) h) ∧
  (∀ (l0 l1 l2 l3 l4 l5 l6 : Value) (x : Int64) (S : List Value) (h : zH), rn 269 51 [l0, l1, l2, l3, l4, l5, l6] (.long x :: S) h = nl l4 (rn 269 53 [l0, l1, l2, l3, l4, .long x, .float 0] S h)) ∧
  (∀ (l0 l1 l2 l3 l4 l5 l6 : Value) (S : List Value) (h : zH), rn 269 53 [l0, l1, l2, l3, l4, l5, l6] S h = rn 269 34 [l0, l1, l2, l3, l4, l5, l6] S h) ∧
  (∀ (l0 l1 l2 l3 l4 l5 l6 : Value) (S : List Value) (h : zH), rn 269 58 [l0, l1, l2, l3, l4, l5, l6] S h = rn 269 59 [l0, l1, l2, l3, l4, l5, l6] (.long 0 :: S) h) ∧
  (∀ (l0 l1 l2 l3 l4 l5 l6 : Value) (x : Int64) (y : Int64) (S : List Value) (h : zH), rn 269 59 [l0, l1, l2, l3, l4, l5, l6] (.long y :: .long x :: S) h = rn 269 60 [l0, l1, l2, l3, l4, l5, l6] (.int (lg_cmp x y) :: S) h) ∧
  (∀ (l0 l1 l2 l3 l4 l5 l6 : Value) (x : Int32) (S : List Value) (h : zH), rn 269 60 [l0, l1, l2, l3, l4, l5, l6] (.int x :: S) h = if x ≤ nI 0 then rn 269 92 [l0, l1, l2, l3, l4, l5, l6] S h else rn 269 63 [l0, l1, l2, l3, l4, l5, l6] S h) ∧
  (∀ (l1 l2 l3 l4 l5 l6 : Value) (x : Nat) (S : List Value) (h : zH), rn 269 63 [.ref x, l1, l2, l3, l4, l5, l6] S h = rn 269 64 [.ref x, l1, l2, l3, l4, l5, l6] (.ref x :: S) h) ∧
  (∀ (l0 l1 l2 l3 l4 l5 l6 : Value) (S : List Value) (h : zH), rn 269 64 [l0, l1, l2, l3, l4, l5, l6] S h = rn 269 67 [l0, l1, l2, l3, l4, l5, l6] (.long (48) :: S) h) ∧
  (∀ (l0 l1 l2 l4 l5 l6 : Value) (x : Int64) (S : List Value) (h : zH), rn 269 67 [l0, l1, l2, .long x, l4, l5, l6] S h = rn 269 68 [l0, l1, l2, .long x, l4, l5, l6] (.long x :: S) h) ∧
  (∀ (l0 l1 l2 l3 l4 l6 : Value) (x : Int64) (S : List Value) (h : zH), rn 269 68 [l0, l1, l2, l3, l4, .long x, l6] S h = rn 269 70 [l0, l1, l2, l3, l4, .long x, l6] (.long x :: S) h) ∧
  (∀ (l0 l1 l2 l3 l4 l5 l6 : Value) (x : Int64) (y : Int64) (S : List Value) (h : zH), rn 269 70 [l0, l1, l2, l3, l4, l5, l6] (.long y :: .long x :: S) h = dvJ y (rn 269 71 [l0, l1, l2, l3, l4, l5, l6] (.long (x / y) :: S) h)) ∧
  (∀ (l0 l1 l2 l3 l4 l5 l6 : Value) (S : List Value) (h : zH), rn 269 71 [l0, l1, l2, l3, l4, l5, l6] S h = rn 269 74 [l0, l1, l2, l3, l4, l5, l6] (.long (10) :: S) h) ∧
  (∀ (l0 l1 l2 l3 l4 l5 l6 : Value) (x : Int64) (y : Int64) (S : List Value) (h : zH), rn 269 74 [l0, l1, l2, l3, l4, l5, l6] (.long y :: .long x :: S) h = dvJ y (rn 269 75 [l0, l1, l2, l3, l4, l5, l6] (.long (x - x / y * y) :: S) h)) ∧
  (∀ (l0 l1 l2 l3 l4 l5 l6 : Value) (x : Int64) (y : Int64) (S : List Value) (h : zH), rn 269 75 [l0, l1, l2, l3, l4, l5, l6] (.long y :: .long x :: S) h = rn 269 76 [l0, l1, l2, l3, l4, l5, l6] (.long (x + y) :: S) h) ∧
  (∀ (l0 l1 l2 l3 l4 l5 l6 : Value) (x : Int64) (S : List Value) (h : zH), rn 269 76 [l0, l1, l2, l3, l4, l5, l6] (.long x :: S) h = rn 269 77 [l0, l1, l2, l3, l4, l5, l6] (.int x.toInt32 :: S) h) ∧
  (∀ (l0 l1 l2 l3 l4 l5 l6 : Value) (x : Int32) (S : List Value) (h : zH), rn 269 77 [l0, l1, l2, l3, l4, l5, l6] (.int x :: S) h = rn 269 78 [l0, l1, l2, l3, l4, l5, l6] (.int (x.toUInt32 % 65536).toInt32 :: S) h) ∧
  (∀ (l0 l1 l2 l3 l4 l5 l6 : Value) (o : Nat) (v0 : Value) (S : List Value) (h : zH), rn 269 78 [l0, l1, l2, l3, l4, l5, l6] (v0 :: .ref o :: S) h = if zkd h o = 12 ∧ zsum S ≤ 8 then zcall (ev 268 [.ref o, v0] h) (fun v h => rn 269 81 [l0, l1, l2, l3, l4, l5, l6] (zpush v S) h) else none) ∧
  (∀ (l0 l1 l2 l3 l4 l6 : Value) (x : Int64) (S : List Value) (h : zH), rn 269 81 [l0, l1, l2, l3, l4, .long x, l6] S h = rn 269 83 [l0, l1, l2, l3, l4, .long x, l6] (.long x :: S) h) ∧
  (∀ (l0 l1 l2 l3 l4 l5 l6 : Value) (S : List Value) (h : zH), rn 269 83 [l0, l1, l2, l3, l4, l5, l6] S h = rn 269 86 [l0, l1, l2, l3, l4, l5, l6] (.long (10) :: S) h) ∧
  (∀ (l0 l1 l2 l3 l4 l5 l6 : Value) (x : Int64) (y : Int64) (S : List Value) (h : zH), rn 269 86 [l0, l1, l2, l3, l4, l5, l6] (.long y :: .long x :: S) h = dvJ y (rn 269 87 [l0, l1, l2, l3, l4, l5, l6] (.long (x / y) :: S) h)) ∧
  (∀ (l0 l1 l2 l3 l4 l5 l6 : Value) (x : Int64) (S : List Value) (h : zH), rn 269 87 [l0, l1, l2, l3, l4, l5, l6] (.long x :: S) h = nl l4 (rn 269 89 [l0, l1, l2, l3, l4, .long x, .float 0] S h)) ∧
  (∀ (l0 l1 l2 l3 l4 l5 l6 : Value) (S : List Value) (h : zH), rn 269 89 [l0, l1, l2, l3, l4, l5, l6] S h = rn 269 56 [l0, l1, l2, l3, l4, l5, l6] S h) ∧
  (∀ (l0 l1 l2 l3 l4 l5 l6 : Value) (h : zH), rn 269 92 [l0, l1, l2, l3, l4, l5, l6] [] h = some (none, h)) := ⟨fun _ _ _ _ _ _ _ _ _ => r_aload_nr (show zdec 269 0 = some (.aload_n 0, 1) by decide +kernel) rfl rfl,
  fun _ _ _ _ _ _ _ _ _ => r_bipush (show zdec 269 1 = some (.bipush 32, 2) by decide +kernel) rfl rfl,
  fun _ _ _ _ _ _ _ _ _ _ _ => r_cV [_] rfl (show zdec 269 3 = some (.invokevirtual 212, 3) by decide +kernel) (show zst.lookup (269 * zKEY + 212) = some (1, 268, 1, 12) by decide +kernel) (by decide) rfl,
  fun _ _ _ _ _ _ _ _ _ => r_lload_n (show zdec 269 6 = some (.lload_n 1, 1) by decide +kernel) rfl rfl,
  fun _ _ _ _ _ _ _ _ _ => r_lconst (show zdec 269 7 = some (.lconst 0, 1) by decide +kernel) rfl rfl,
  fun _ _ _ _ _ _ _ _ _ _ _ => r_lcmp (show zdec 269 8 = some (.lcmp, 1) by decide +kernel) rfl,
  fun _ _ _ _ _ _ _ _ _ _ => r_ifge (show zdec 269 9 = some (.ifCond .ge 9, 3) by decide +kernel) rfl rfl,
  fun _ _ _ _ _ _ _ _ _ => r_aload_nr (show zdec 269 12 = some (.aload_n 0, 1) by decide +kernel) rfl rfl,
  fun _ _ _ _ _ _ _ _ _ => r_bipush (show zdec 269 13 = some (.bipush 45, 2) by decide +kernel) rfl rfl,
  fun _ _ _ _ _ _ _ _ _ _ _ => r_cV [_] rfl (show zdec 269 15 = some (.invokevirtual 212, 3) by decide +kernel) (show zst.lookup (269 * zKEY + 212) = some (1, 268, 1, 12) by decide +kernel) (by decide) rfl,
  fun _ _ _ _ _ _ _ _ _ => r_lload_n (show zdec 269 18 = some (.lload_n 1, 1) by decide +kernel) rfl rfl,
  fun _ _ _ _ _ _ _ _ _ => r_lconst (show zdec 269 19 = some (.lconst 0, 1) by decide +kernel) rfl rfl,
  fun _ _ _ _ _ _ _ _ _ _ _ => r_lcmp (show zdec 269 20 = some (.lcmp, 1) by decide +kernel) rfl,
  fun _ _ _ _ _ _ _ _ _ _ => r_ifge (show zdec 269 21 = some (.ifCond .ge 8, 3) by decide +kernel) rfl rfl,
  fun _ _ _ _ _ _ _ _ _ => r_lload_n (show zdec 269 24 = some (.lload_n 1, 1) by decide +kernel) rfl rfl,
  fun _ _ _ _ _ _ _ _ _ _ => r_lneg (show zdec 269 25 = some (.lneg, 1) by decide +kernel) rfl,
  fun _ _ _ _ _ _ _ _ _ => r_goto (show zdec 269 26 = some (.goto 4, 3) by decide +kernel) rfl,
  fun _ _ _ _ _ _ _ _ _ => r_lload_n (show zdec 269 29 = some (.lload_n 1, 1) by decide +kernel) rfl rfl,
  fun _ _ _ _ _ _ _ _ _ _ => r_lstore_n (show zdec 269 30 = some (.lstore_n 3, 1) by decide +kernel) rfl rfl (Nat.le_of_ble_eq_true rfl) rfl rfl,
  fun _ _ _ _ _ _ _ _ _ => r_lconst (show zdec 269 31 = some (.lconst 1, 1) by decide +kernel) rfl rfl,
  fun _ _ _ _ _ _ _ _ _ _ => r_lstore (show zdec 269 32 = some (.lstore 5, 2) by decide +kernel) rfl (Nat.le_of_ble_eq_true rfl) rfl rfl,
  fun _ _ _ _ _ _ _ _ _ => r_lload (show zdec 269 35 = some (.lload 5, 2) by decide +kernel) rfl rfl,
  fun _ _ _ _ _ _ _ _ _ _ _ => r_ldiv (show zdec 269 37 = some (.ldiv, 1) by decide +kernel) rfl,
  fun _ _ _ _ _ _ _ _ _ => r_ldc2 (show zdec 269 38 = some (.ldc2_w 216, 3) by decide +kernel) (show zlt.lookup (269 * zKEY + 216) = some 9 by decide +kernel) rfl,
  fun _ _ _ _ _ _ _ _ _ _ _ => r_lcmp (show zdec 269 41 = some (.lcmp, 1) by decide +kernel) rfl,
  fun _ _ _ _ _ _ _ _ _ _ => r_ifle (show zdec 269 42 = some (.ifCond .le 14, 3) by decide +kernel) rfl rfl,
  fun _ _ _ _ _ _ _ _ _ => r_lload (show zdec 269 45 = some (.lload 5, 2) by decide +kernel) rfl rfl,
  fun _ _ _ _ _ _ _ _ _ => r_ldc2 (show zdec 269 47 = some (.ldc2_w 218, 3) by decide +kernel) (show zlt.lookup (269 * zKEY + 218) = some 10 by decide +kernel) rfl,
  fun _ _ _ _ _ _ _ _ _ _ _ => r_lmul (show zdec 269 50 = some (.lmul, 1) by decide +kernel) rfl,
  fun _ _ _ _ _ _ _ _ _ _ => r_lstore (show zdec 269 51 = some (.lstore 5, 2) by decide +kernel) rfl (Nat.le_of_ble_eq_true rfl) rfl rfl,
  fun _ _ _ _ _ _ _ _ _ => r_goto (show zdec 269 53 = some (.goto (-19), 3) by decide +kernel) rfl,
  fun _ _ _ _ _ _ _ _ _ => r_lconst (show zdec 269 58 = some (.lconst 0, 1) by decide +kernel) rfl rfl,
  fun _ _ _ _ _ _ _ _ _ _ _ => r_lcmp (show zdec 269 59 = some (.lcmp, 1) by decide +kernel) rfl,
  fun _ _ _ _ _ _ _ _ _ _ => r_ifle (show zdec 269 60 = some (.ifCond .le 32, 3) by decide +kernel) rfl rfl,
  fun _ _ _ _ _ _ _ _ _ => r_aload_nr (show zdec 269 63 = some (.aload_n 0, 1) by decide +kernel) rfl rfl,
  fun _ _ _ _ _ _ _ _ _ => r_ldc2 (show zdec 269 64 = some (.ldc2_w 220, 3) by decide +kernel) (show zlt.lookup (269 * zKEY + 220) = some 48 by decide +kernel) rfl,
  fun _ _ _ _ _ _ _ _ _ => r_lload_n (show zdec 269 67 = some (.lload_n 3, 1) by decide +kernel) rfl rfl,
  fun _ _ _ _ _ _ _ _ _ => r_lload (show zdec 269 68 = some (.lload 5, 2) by decide +kernel) rfl rfl,
  fun _ _ _ _ _ _ _ _ _ _ _ => r_ldiv (show zdec 269 70 = some (.ldiv, 1) by decide +kernel) rfl,
  fun _ _ _ _ _ _ _ _ _ => r_ldc2 (show zdec 269 71 = some (.ldc2_w 218, 3) by decide +kernel) (show zlt.lookup (269 * zKEY + 218) = some 10 by decide +kernel) rfl,
  fun _ _ _ _ _ _ _ _ _ _ _ => r_lrem (show zdec 269 74 = some (.lrem, 1) by decide +kernel) rfl,
  fun _ _ _ _ _ _ _ _ _ _ _ => r_ladd (show zdec 269 75 = some (.ladd, 1) by decide +kernel) rfl,
  fun _ _ _ _ _ _ _ _ _ _ => r_l2i (show zdec 269 76 = some (.l2i, 1) by decide +kernel) rfl,
  fun _ _ _ _ _ _ _ _ _ _ => r_i2c (show zdec 269 77 = some (.i2c, 1) by decide +kernel) rfl,
  fun _ _ _ _ _ _ _ _ _ _ _ => r_cV [_] rfl (show zdec 269 78 = some (.invokevirtual 212, 3) by decide +kernel) (show zst.lookup (269 * zKEY + 212) = some (1, 268, 1, 12) by decide +kernel) (by decide) rfl,
  fun _ _ _ _ _ _ _ _ _ => r_lload (show zdec 269 81 = some (.lload 5, 2) by decide +kernel) rfl rfl,
  fun _ _ _ _ _ _ _ _ _ => r_ldc2 (show zdec 269 83 = some (.ldc2_w 218, 3) by decide +kernel) (show zlt.lookup (269 * zKEY + 218) = some 10 by decide +kernel) rfl,
  fun _ _ _ _ _ _ _ _ _ _ _ => r_ldiv (show zdec 269 86 = some (.ldiv, 1) by decide +kernel) rfl,
  fun _ _ _ _ _ _ _ _ _ _ => r_lstore (show zdec 269 87 = some (.lstore 5, 2) by decide +kernel) rfl (Nat.le_of_ble_eq_true rfl) rfl rfl,
  fun _ _ _ _ _ _ _ _ _ => r_goto (show zdec 269 89 = some (.goto (-33), 3) by decide +kernel) rfl,
  fun _ _ _ _ _ _ _ _ => r_vret (show zdec 269 92 = some (.return_, 1) by decide +kernel) (by decide +kernel)⟩
theorem zl_269_34 : ∀ (l0 l1 l2 l4 l5 l6 : Value) (x : Int64) (S : List Value) (h : zH), rn 269 34 [l0, l1, l2, .long x, l4, l5, l6] S h = rn 269 35 [l0, l1, l2, .long x, l4, l5, l6] (.long x :: S) h := fun _ _ _ _ _ _ _ _ _ => r_lload_n (show zdec 269 34 = some (.lload_n 3, 1) by decide +kernel) rfl rfl
theorem zl_269_56 : ∀ (l0 l1 l2 l3 l4 l6 : Value) (x : Int64) (S : List Value) (h : zH), rn 269 56 [l0, l1, l2, l3, l4, .long x, l6] S h = rn 269 58 [l0, l1, l2, l3, l4, .long x, l6] (.long x :: S) h := fun _ _ _ _ _ _ _ _ _ => r_lload (show zdec 269 56 = some (.lload 5, 2) by decide +kernel) rfl rfl
theorem ze_269 : ∀ (a0 : Nat) (a1 : Int64) (h : zH), ev 269 [.ref a0, .long a1] h = rn 269 0 [.ref a0, .long a1, .float 0, .float 0, .float 0, .float 0, .float 0] [] h := fun _ _ _ => if_pos (Nat.le_of_ble_eq_true rfl)
-- PayrollRunModel.readWritten(I)I
theorem zr_270 : (∀ (l0 : Value) (x : Int32) (S : List Value) (h : zH), rn 270 0 [l0, .int x] S h = rn 270 1 [l0, .int x] (.int x :: S) h) ∧
  (∀ (l0 l1 : Value) (S : List Value) (h : zH), rn 270 1 [l0, l1] S h = rn 270 2 [l0, l1] (.int (-1) :: S) h) ∧
  (∀ (l0 l1 : Value) (x : Int32) (y : Int32) (S : List Value) (h : zH), rn 270 2 [l0, l1] (.int y :: .int x :: S) h = if x = y then rn 270 5 [l0, l1] S h else rn 270 12 [l0, l1] S h) ∧
  (∀ (l1 : Value) (x : Nat) (S : List Value) (h : zH), rn 270 5 [.ref x, l1] S h = rn 270 6 [.ref x, l1] (.ref x :: S) h) ∧
  (∀ (l0 l1 : Value) (a : Nat) (S : List Value) (h : zH), rn 270 6 [l0, l1] (.ref a :: S) h = zgf h a 12 9 fun v => rn 270 9 [l0, l1] (v :: S) h) ∧
  (∀ (l0 l1 : Value) (S : List Value) (h : zH), rn 270 9 [l0, l1] S h = rn 270 37 [l0, l1] S h) ∧
  (∀ (l0 : Value) (x : Int32) (S : List Value) (h : zH), rn 270 12 [l0, .int x] S h = rn 270 13 [l0, .int x] (.int x :: S) h) ∧
  (∀ (l0 l1 : Value) (S : List Value) (h : zH), rn 270 13 [l0, l1] S h = rn 270 14 [l0, l1] (.int (nI 0) :: S) h) ∧
  (∀ (l1 : Value) (x : Nat) (S : List Value) (h : zH), rn 270 14 [.ref x, l1] S h = rn 270 15 [.ref x, l1] (.ref x :: S) h) ∧
  (∀ (l0 l1 : Value) (a : Nat) (S : List Value) (h : zH), rn 270 15 [l0, l1] (.ref a :: S) h = zgf h a 12 9 fun v => rn 270 18 [l0, l1] (v :: S) h) ∧
  (∀ (l0 l1 : Value) (S : List Value) (h : zH), rn 270 18 [l0, l1] S h = rn 270 19 [l0, l1] (.int (nI 1) :: S) h) ∧
  (∀ (l0 l1 : Value) (x : Int32) (y : Int32) (S : List Value) (h : zH), rn 270 19 [l0, l1] (.int y :: .int x :: S) h = rn 270 20 [l0, l1] (.int (x - y) :: S) h) ∧
  (∀ (l0 l1 : Value) (v0 : Value) (v1 : Value) (v2 : Value) (S : List Value) (h : zH), rn 270 20 [l0, l1] (v2 :: v1 :: v0 :: S) h = if zsum S ≤ 8 then zcall (ev 211 [v0, v1, v2] h) (fun v h => rn 270 23 [l0, l1] (zpush v S) h) else none) ∧
  (∀ (l0 l1 : Value) (x : Int32) (S : List Value) (h : zH), rn 270 23 [l0, l1] (.int x :: S) h = if x = nI 0 then rn 270 35 [l0, l1] S h else rn 270 26 [l0, l1] S h) ∧
  (∀ (l1 : Value) (x : Nat) (S : List Value) (h : zH), rn 270 26 [.ref x, l1] S h = rn 270 27 [.ref x, l1] (.ref x :: S) h) ∧
  (∀ (l0 l1 : Value) (a : Nat) (S : List Value) (h : zH), rn 270 27 [l0, l1] (.ref a :: S) h = zgf h a 12 8 fun v => rn 270 30 [l0, l1] (v :: S) h) ∧
  (∀ (l0 : Value) (x : Int32) (S : List Value) (h : zH), rn 270 30 [l0, .int x] S h = rn 270 31 [l0, .int x] (.int x :: S) h) ∧
  (∀ (l0 l1 : Value) (a : Nat) (j : Int32) (S : List Value) (h : zH), rn 270 31 [l0, l1] (.int j :: .ref a :: S) h = zli h a 2 j fun x => rn 270 32 [l0, l1] (.int x :: S) h) ∧
  (∀ (l0 l1 : Value) (S : List Value) (h : zH), rn 270 32 [l0, l1] S h = rn 270 37 [l0, l1] S h) ∧
  (∀ (l0 l1 : Value) (S : List Value) (h : zH), rn 270 35 [l0, l1] S h = rn 270 37 [l0, l1] (.int (-2) :: S) h) ∧
  (∀ (l0 l1 : Value) (x : Int32) (h : zH), rn 270 37 [l0, l1] [.int x] h = some (some (.int x), h)) := ⟨fun _ _ _ _ => r_iload_n (show zdec 270 0 = some (.iload_n 1, 1) by decide +kernel) rfl rfl,
  fun _ _ _ _ => r_iconst (show zdec 270 1 = some (.iconst (-1), 1) by decide +kernel) rfl rfl,
  fun _ _ _ _ _ _ => r_icmpne (show zdec 270 2 = some (.if_icmp .ne 10, 3) by decide +kernel) rfl rfl,
  fun _ _ _ _ => r_aload_nr (show zdec 270 5 = some (.aload_n 0, 1) by decide +kernel) rfl rfl,
  fun _ _ _ _ _ => r_getfield (show zdec 270 6 = some (.getfield 186, 3) by decide +kernel) (show zft.lookup (270 * zKEY + 186) = some (12, 9) by decide +kernel) rfl,
  fun _ _ _ _ => r_goto (show zdec 270 9 = some (.goto 28, 3) by decide +kernel) rfl,
  fun _ _ _ _ => r_iload_n (show zdec 270 12 = some (.iload_n 1, 1) by decide +kernel) rfl rfl,
  fun _ _ _ _ => r_iconst (show zdec 270 13 = some (.iconst 0, 1) by decide +kernel) rfl rfl,
  fun _ _ _ _ => r_aload_nr (show zdec 270 14 = some (.aload_n 0, 1) by decide +kernel) rfl rfl,
  fun _ _ _ _ _ => r_getfield (show zdec 270 15 = some (.getfield 186, 3) by decide +kernel) (show zft.lookup (270 * zKEY + 186) = some (12, 9) by decide +kernel) rfl,
  fun _ _ _ _ => r_iconst (show zdec 270 18 = some (.iconst 1, 1) by decide +kernel) rfl rfl,
  fun _ _ _ _ _ _ => r_isub (show zdec 270 19 = some (.isub, 1) by decide +kernel) rfl,
  fun _ _ _ _ _ _ _ => r_cS [_, _, _] rfl (show zdec 270 20 = some (.invokestatic 45, 3) by decide +kernel) (show zst.lookup (270 * zKEY + 45) = some (0, 211, 3, 0) by decide +kernel) (by decide) rfl,
  fun _ _ _ _ _ => r_ifeq (show zdec 270 23 = some (.ifCond .eq 12, 3) by decide +kernel) rfl rfl,
  fun _ _ _ _ => r_aload_nr (show zdec 270 26 = some (.aload_n 0, 1) by decide +kernel) rfl rfl,
  fun _ _ _ _ _ => r_getfield (show zdec 270 27 = some (.getfield 26, 3) by decide +kernel) (show zft.lookup (270 * zKEY + 26) = some (12, 8) by decide +kernel) rfl,
  fun _ _ _ _ => r_iload_n (show zdec 270 30 = some (.iload_n 1, 1) by decide +kernel) rfl rfl,
  fun _ _ _ _ _ _ => r_cald (show zdec 270 31 = some (.caload, 1) by decide +kernel) rfl,
  fun _ _ _ _ => r_goto (show zdec 270 32 = some (.goto 5, 3) by decide +kernel) rfl,
  fun _ _ _ _ => r_bipush (show zdec 270 35 = some (.bipush (-2), 2) by decide +kernel) rfl rfl,
  fun _ _ _ _ => r_ireti (show zdec 270 37 = some (.ireturn, 1) by decide +kernel) (by decide +kernel)⟩
theorem ze_270 : ∀ (a0 : Nat) (a1 : Int32) (h : zH), ev 270 [.ref a0, .int a1] h = rn 270 0 [.ref a0, .int a1] [] h := fun _ _ _ => if_pos (Nat.le_of_ble_eq_true rfl)
-- PayrollRunModel.payout(II)J
theorem zr_271 : (∀ (l1 l2 l3 : Value) (x : Nat) (S : List Value) (h : zH), rn 271 0 [.ref x, l1, l2, l3] S h = rn 271 1 [.ref x, l1, l2, l3] (.ref x :: S) h) ∧
  (∀ (l0 l2 l3 : Value) (x : Int32) (S : List Value) (h : zH), rn 271 1 [l0, .int x, l2, l3] S h = rn 271 2 [l0, .int x, l2, l3] (.int x :: S) h) ∧
  (∀ (l0 l1 l3 : Value) (x : Int32) (S : List Value) (h : zH), rn 271 2 [l0, l1, .int x, l3] S h = rn 271 3 [l0, l1, .int x, l3] (.int x :: S) h) ∧
  (∀ (l0 l1 l2 l3 : Value) (o : Nat) (v0 : Value) (v1 : Value) (S : List Value) (h : zH), rn 271 3 [l0, l1, l2, l3] (v1 :: v0 :: .ref o :: S) h = if zkd h o = 12 ∧ zsum S ≤ 8 then zcall (ev 258 [.ref o, v0, v1] h) (fun v h => rn 271 6 [l0, l1, l2, l3] (zpush v S) h) else none) ∧
  (∀ (l0 l1 l2 l3 : Value) (x : Int32) (S : List Value) (h : zH), rn 271 6 [l0, l1, l2, l3] (.int x :: S) h = nl l2 (rn 271 7 [l0, l1, l2, .int x] S h)) ∧
  (∀ (l0 l1 l2 : Value) (x : Int32) (S : List Value) (h : zH), rn 271 7 [l0, l1, l2, .int x] S h = rn 271 8 [l0, l1, l2, .int x] (.int x :: S) h) ∧
  (∀ (l0 l1 l2 l3 : Value) (x : Int32) (S : List Value) (h : zH), rn 271 8 [l0, l1, l2, l3] (.int x :: S) h = if nI 0 ≤ x then rn 271 16 [l0, l1, l2, l3] S h else rn 271 11 [l0, l1, l2, l3] S h) ∧
  (∀ (l0 l1 l2 : Value) (x : Int32) (S : List Value) (h : zH), rn 271 11 [l0, l1, l2, .int x] S h = rn 271 12 [l0, l1, l2, .int x] (.int x :: S) h) ∧
  (∀ (l0 l1 l2 l3 : Value) (x : Int32) (S : List Value) (h : zH), rn 271 12 [l0, l1, l2, l3] (.int x :: S) h = rn 271 13 [l0, l1, l2, l3] (.long x.toInt64 :: S) h) ∧
  (∀ (l0 l1 l2 l3 : Value) (S : List Value) (h : zH), rn 271 13 [l0, l1, l2, l3] S h = rn 271 22 [l0, l1, l2, l3] S h) ∧
  (∀ (l1 l2 l3 : Value) (x : Nat) (S : List Value) (h : zH), rn 271 16 [.ref x, l1, l2, l3] S h = rn 271 17 [.ref x, l1, l2, l3] (.ref x :: S) h) ∧
  (∀ (l0 l2 l3 : Value) (x : Int32) (S : List Value) (h : zH), rn 271 17 [l0, .int x, l2, l3] S h = rn 271 18 [l0, .int x, l2, l3] (.int x :: S) h) ∧
  (∀ (l0 l1 l3 : Value) (x : Int32) (S : List Value) (h : zH), rn 271 18 [l0, l1, .int x, l3] S h = rn 271 19 [l0, l1, .int x, l3] (.int x :: S) h) ∧
  (∀ (l0 l1 l2 l3 : Value) (o : Nat) (v0 : Value) (v1 : Value) (S : List Value) (h : zH), rn 271 19 [l0, l1, l2, l3] (v1 :: v0 :: .ref o :: S) h = if zkd h o = 12 ∧ zsum S ≤ 8 then zcall (ev 272 [.ref o, v0, v1] h) (fun v h => rn 271 22 [l0, l1, l2, l3] (zpush v S) h) else none) ∧
  (∀ (l0 l1 l2 l3 : Value) (x : Int64) (h : zH), rn 271 22 [l0, l1, l2, l3] [.long x] h = some (some (.long x), h)) := ⟨fun _ _ _ _ _ _ => r_aload_nr (show zdec 271 0 = some (.aload_n 0, 1) by decide +kernel) rfl rfl,
  fun _ _ _ _ _ _ => r_iload_n (show zdec 271 1 = some (.iload_n 1, 1) by decide +kernel) rfl rfl,
  fun _ _ _ _ _ _ => r_iload_n (show zdec 271 2 = some (.iload_n 2, 1) by decide +kernel) rfl rfl,
  fun _ _ _ _ _ _ _ _ _ => r_cV [_, _] rfl (show zdec 271 3 = some (.invokevirtual 176, 3) by decide +kernel) (show zst.lookup (271 * zKEY + 176) = some (1, 258, 2, 12) by decide +kernel) (by decide) rfl,
  fun _ _ _ _ _ _ _ => r_istore_n (show zdec 271 6 = some (.istore_n 3, 1) by decide +kernel) rfl rfl (Nat.le_of_ble_eq_true rfl) rfl rfl,
  fun _ _ _ _ _ _ => r_iload_n (show zdec 271 7 = some (.iload_n 3, 1) by decide +kernel) rfl rfl,
  fun _ _ _ _ _ _ _ => r_ifge (show zdec 271 8 = some (.ifCond .ge 8, 3) by decide +kernel) rfl rfl,
  fun _ _ _ _ _ _ => r_iload_n (show zdec 271 11 = some (.iload_n 3, 1) by decide +kernel) rfl rfl,
  fun _ _ _ _ _ _ _ => r_i2l (show zdec 271 12 = some (.i2l, 1) by decide +kernel) rfl,
  fun _ _ _ _ _ _ => r_goto (show zdec 271 13 = some (.goto 9, 3) by decide +kernel) rfl,
  fun _ _ _ _ _ _ => r_aload_nr (show zdec 271 16 = some (.aload_n 0, 1) by decide +kernel) rfl rfl,
  fun _ _ _ _ _ _ => r_iload_n (show zdec 271 17 = some (.iload_n 1, 1) by decide +kernel) rfl rfl,
  fun _ _ _ _ _ _ => r_iload_n (show zdec 271 18 = some (.iload_n 2, 1) by decide +kernel) rfl rfl,
  fun _ _ _ _ _ _ _ _ _ => r_cV [_, _] rfl (show zdec 271 19 = some (.invokevirtual 238, 3) by decide +kernel) (show zst.lookup (271 * zKEY + 238) = some (1, 272, 2, 12) by decide +kernel) (by decide) rfl,
  fun _ _ _ _ _ _ => r_lret (show zdec 271 22 = some (.lreturn, 1) by decide +kernel) (by decide +kernel)⟩
theorem ze_271 : ∀ (a0 : Nat) (a1 : Int32) (a2 : Int32) (h : zH), ev 271 [.ref a0, .int a1, .int a2] h = rn 271 0 [.ref a0, .int a1, .int a2, .float 0] [] h := fun _ _ _ _ => if_pos (Nat.le_of_ble_eq_true rfl)
-- PayrollRunModel.payoutOf(II)J
theorem zr_272 : (∀ (l1 l2 : Value) (x : Nat) (S : List Value) (h : zH), rn 272 0 [.ref x, l1, l2] S h = rn 272 1 [.ref x, l1, l2] (.ref x :: S) h) ∧
  (∀ (l0 l1 l2 : Value) (a : Nat) (S : List Value) (h : zH), rn 272 1 [l0, l1, l2] (.ref a :: S) h = zgf h a 12 0 fun v => rn 272 4 [l0, l1, l2] (v :: S) h) ∧
  (∀ (l0 l2 : Value) (x : Int32) (S : List Value) (h : zH), rn 272 4 [l0, .int x, l2] S h = rn 272 5 [l0, .int x, l2] (.int x :: S) h) ∧
  (∀ (l0 l1 : Value) (x : Int32) (S : List Value) (h : zH), rn 272 5 [l0, l1, .int x] S h = rn 272 6 [l0, l1, .int x] (.int x :: S) h) ∧
  (∀ (l1 l2 : Value) (x : Nat) (S : List Value) (h : zH), rn 272 6 [.ref x, l1, l2] S h = rn 272 7 [.ref x, l1, l2] (.ref x :: S) h) ∧
  (∀ (l0 l2 : Value) (x : Int32) (S : List Value) (h : zH), rn 272 7 [l0, .int x, l2] S h = rn 272 8 [l0, .int x, l2] (.int x :: S) h) ∧
  (∀ (l0 l1 l2 : Value) (S : List Value) (h : zH), rn 272 8 [l0, l1, l2] S h = rn 272 11 [l0, l1, l2] (.int (nI 147) :: S) h) ∧
  (∀ (l0 l1 : Value) (x : Int32) (S : List Value) (h : zH), rn 272 11 [l0, l1, .int x] S h = rn 272 12 [l0, l1, .int x] (.int x :: S) h) ∧
  (∀ (l0 l1 l2 : Value) (x : Int32) (y : Int32) (S : List Value) (h : zH), rn 272 12 [l0, l1, l2] (.int y :: .int x :: S) h = rn 272 13 [l0, l1, l2] (.int (x + y) :: S) h) ∧
  (∀ (l0 l1 l2 : Value) (o : Nat) (v0 : Value) (v1 : Value) (S : List Value) (h : zH), rn 272 13 [l0, l1, l2] (v1 :: v0 :: .ref o :: S) h = if zkd h o = 12 ∧ zsum S ≤ 8 then zcall (ev 226 [.ref o, v0, v1] h) (fun v h => rn 272 16 [l0, l1, l2] (zpush v S) h) else none) ∧
  (∀ (l0 l1 l2 : Value) (x : Int64) (S : List Value) (h : zH), rn 272 16 [l0, l1, l2] (.long x :: S) h = rn 272 17 [l0, l1, l2] (.int x.toInt32 :: S) h) ∧
  (∀ (l0 l1 l2 : Value) (S : List Value) (h : zH), rn 272 17 [l0, l1, l2] S h = rn 272 18 [l0, l1, l2] (.int (nI 1) :: S) h) ∧
  (∀ (l0 l1 l2 : Value) (x : Int32) (y : Int32) (S : List Value) (h : zH), rn 272 18 [l0, l1, l2] (.int y :: .int x :: S) h = rn 272 19 [l0, l1, l2] (.int (x - y) :: S) h) ∧
  (∀ (l0 l1 l2 : Value) (v0 : Value) (v1 : Value) (v2 : Value) (S : List Value) (h : zH), rn 272 19 [l0, l1, l2] (v2 :: v1 :: v0 :: S) h = if zsum S ≤ 8 then zcall (ev 244 [v0, v1, v2] h) (fun v h => rn 272 22 [l0, l1, l2] (zpush v S) h) else none) ∧
  (∀ (l0 l1 l2 : Value) (S : List Value) (h : zH), rn 272 22 [l0, l1, l2] S h = rn 272 23 [l0, l1, l2] (.int (nI 3) :: S) h) ∧
  (∀ (l0 l1 l2 : Value) (x : Int32) (y : Int32) (S : List Value) (h : zH), rn 272 23 [l0, l1, l2] (.int y :: .int x :: S) h = rn 272 24 [l0, l1, l2] (.int (x + y) :: S) h) ∧
  (∀ (l0 l1 l2 : Value) (a : Nat) (j : Int32) (S : List Value) (h : zH), rn 272 24 [l0, l1, l2] (.int j :: .ref a :: S) h = zlj h a j fun x => rn 272 25 [l0, l1, l2] (.long x :: S) h) ∧
  (∀ (l0 l1 l2 : Value) (x : Int64) (h : zH), rn 272 25 [l0, l1, l2] [.long x] h = some (some (.long x), h)) := ⟨fun _ _ _ _ _ => r_aload_nr (show zdec 272 0 = some (.aload_n 0, 1) by decide +kernel) rfl rfl,
  fun _ _ _ _ _ _ => r_getfield (show zdec 272 1 = some (.getfield 9, 3) by decide +kernel) (show zft.lookup (272 * zKEY + 9) = some (12, 0) by decide +kernel) rfl,
  fun _ _ _ _ _ => r_iload_n (show zdec 272 4 = some (.iload_n 1, 1) by decide +kernel) rfl rfl,
  fun _ _ _ _ _ => r_iload_n (show zdec 272 5 = some (.iload_n 2, 1) by decide +kernel) rfl rfl,
  fun _ _ _ _ _ => r_aload_nr (show zdec 272 6 = some (.aload_n 0, 1) by decide +kernel) rfl rfl,
  fun _ _ _ _ _ => r_iload_n (show zdec 272 7 = some (.iload_n 1, 1) by decide +kernel) rfl rfl,
  fun _ _ _ _ _ => r_sipush (show zdec 272 8 = some (.sipush 147, 3) by decide +kernel) rfl rfl,
  fun _ _ _ _ _ => r_iload_n (show zdec 272 11 = some (.iload_n 2, 1) by decide +kernel) rfl rfl,
  fun _ _ _ _ _ _ _ => r_iadd (show zdec 272 12 = some (.iadd, 1) by decide +kernel) rfl,
  fun _ _ _ _ _ _ _ _ => r_cV [_, _] rfl (show zdec 272 13 = some (.invokevirtual 85, 3) by decide +kernel) (show zst.lookup (272 * zKEY + 85) = some (1, 226, 2, 12) by decide +kernel) (by decide) rfl,
  fun _ _ _ _ _ _ => r_l2i (show zdec 272 16 = some (.l2i, 1) by decide +kernel) rfl,
  fun _ _ _ _ _ => r_iconst (show zdec 272 17 = some (.iconst 1, 1) by decide +kernel) rfl rfl,
  fun _ _ _ _ _ _ _ => r_isub (show zdec 272 18 = some (.isub, 1) by decide +kernel) rfl,
  fun _ _ _ _ _ _ _ _ => r_cS [_, _, _] rfl (show zdec 272 19 = some (.invokestatic 132, 3) by decide +kernel) (show zst.lookup (272 * zKEY + 132) = some (0, 244, 3, 0) by decide +kernel) (by decide) rfl,
  fun _ _ _ _ _ => r_iconst (show zdec 272 22 = some (.iconst 3, 1) by decide +kernel) rfl rfl,
  fun _ _ _ _ _ _ _ => r_iadd (show zdec 272 23 = some (.iadd, 1) by decide +kernel) rfl,
  fun _ _ _ _ _ _ _ => r_lald (show zdec 272 24 = some (.laload, 1) by decide +kernel) rfl,
  fun _ _ _ _ _ => r_lret (show zdec 272 25 = some (.lreturn, 1) by decide +kernel) (by decide +kernel)⟩
theorem ze_272 : ∀ (a0 : Nat) (a1 : Int32) (a2 : Int32) (h : zH), ev 272 [.ref a0, .int a1, .int a2] h = rn 272 0 [.ref a0, .int a1, .int a2] [] h := fun _ _ _ _ => if_pos (Nat.le_of_ble_eq_true rfl)
-- PayrollRunModel.preview(I)J
theorem zr_273 : (∀ (l0 : Value) (x : Int32) (S : List Value) (h : zH), rn 273 0 [l0, .int x] S h = rn 273 1 [l0, .int x] (.int x :: S) h) ∧
  (∀ (l0 l1 : Value) (v0 : Value) (S : List Value) (h : zH), rn 273 1 [l0, l1] (v0 :: S) h = if zsum S ≤ 8 then zcall (ev 210 [v0] h) (fun v h => rn 273 4 [l0, l1] (zpush v S) h) else none) ∧
  (∀ (l0 l1 : Value) (x : Int32) (S : List Value) (h : zH), rn 273 4 [l0, l1] (.int x :: S) h = if x = nI 0 then rn 273 7 [l0, l1] S h else rn 273 13 [l0, l1] S h) ∧
  (∀ (l0 l1 : Value) (S : List Value) (h : zH), rn 273 7 [l0, l1] S h = rn 273 10 [l0, l1] (.long (-1) :: S) h) ∧
  (∀ (l0 l1 : Value) (S : List Value) (h : zH), rn 273 10 [l0, l1] S h = rn 273 34 [l0, l1] S h) ∧
  (∀ (l1 : Value) (x : Nat) (S : List Value) (h : zH), rn 273 13 [.ref x, l1] S h = rn 273 14 [.ref x, l1] (.ref x :: S) h) ∧
  (∀ (l0 l1 : Value) (o : Nat) (S : List Value) (h : zH), rn 273 14 [l0, l1] (.ref o :: S) h = if zkd h o = 12 ∧ zsum S ≤ 8 then zcall (ev 233 [.ref o] h) (fun v h => rn 273 17 [l0, l1] (zpush v S) h) else none) ∧
  (∀ (l0 l1 : Value) (S : List Value) (h : zH), rn 273 17 [l0, l1] S h = rn 273 19 [l0, l1] (.int (nI 12) :: S) h) ∧
  (∀ (l0 l1 : Value) (x : Int32) (y : Int32) (S : List Value) (h : zH), rn 273 19 [l0, l1] (.int y :: .int x :: S) h = if x = y then rn 273 22 [l0, l1] S h else rn 273 28 [l0, l1] S h) ∧
  (∀ (l0 l1 : Value) (S : List Value) (h : zH), rn 273 22 [l0, l1] S h = rn 273 25 [l0, l1] (.long (-2) :: S) h) ∧
  (∀ (l0 l1 : Value) (S : List Value) (h : zH), rn 273 25 [l0, l1] S h = rn 273 34 [l0, l1] S h) ∧
  (∀ (l1 : Value) (x : Nat) (S : List Value) (h : zH), rn 273 28 [.ref x, l1] S h = rn 273 29 [.ref x, l1] (.ref x :: S) h) ∧
  (∀ (l0 : Value) (x : Int32) (S : List Value) (h : zH), rn 273 29 [l0, .int x] S h = rn 273 30 [l0, .int x] (.int x :: S) h) ∧
  (∀ (l0 l1 : Value) (S : List Value) (h : zH), rn 273 30 [l0, l1] S h = rn 273 31 [l0, l1] (.int (nI 0) :: S) h) ∧
  (∀ (l0 l1 : Value) (o : Nat) (v0 : Value) (v1 : Value) (S : List Value) (h : zH), rn 273 31 [l0, l1] (v1 :: v0 :: .ref o :: S) h = if zkd h o = 12 ∧ zsum S ≤ 8 then zcall (ev 274 [.ref o, v0, v1] h) (fun v h => rn 273 34 [l0, l1] (zpush v S) h) else none) ∧
  (∀ (l0 l1 : Value) (x : Int64) (h : zH), rn 273 34 [l0, l1] [.long x] h = some (some (.long x), h)) := ⟨fun _ _ _ _ => r_iload_n (show zdec 273 0 = some (.iload_n 1, 1) by decide +kernel) rfl rfl,
  fun _ _ _ _ _ => r_cS [_] rfl (show zdec 273 1 = some (.invokestatic 71, 3) by decide +kernel) (show zst.lookup (273 * zKEY + 71) = some (0, 210, 1, 0) by decide +kernel) (by decide) rfl,
  fun _ _ _ _ _ => r_ifne (show zdec 273 4 = some (.ifCond .ne 9, 3) by decide +kernel) rfl rfl,
  fun _ _ _ _ => r_ldc2 (show zdec 273 7 = some (.ldc2_w 174, 3) by decide +kernel) (show zlt.lookup (273 * zKEY + 174) = some (-1) by decide +kernel) rfl,
  fun _ _ _ _ => r_goto (show zdec 273 10 = some (.goto 24, 3) by decide +kernel) rfl,
  fun _ _ _ _ => r_aload_nr (show zdec 273 13 = some (.aload_n 0, 1) by decide +kernel) rfl rfl,
  fun _ _ _ _ _ => r_cV [] rfl (show zdec 273 14 = some (.invokevirtual 164, 3) by decide +kernel) (show zst.lookup (273 * zKEY + 164) = some (1, 233, 0, 12) by decide +kernel) (by decide) rfl,
  fun _ _ _ _ => r_bipush (show zdec 273 17 = some (.bipush 12, 2) by decide +kernel) rfl rfl,
  fun _ _ _ _ _ _ => r_icmpne (show zdec 273 19 = some (.if_icmp .ne 9, 3) by decide +kernel) rfl rfl,
  fun _ _ _ _ => r_ldc2 (show zdec 273 22 = some (.ldc2_w 247, 3) by decide +kernel) (show zlt.lookup (273 * zKEY + 247) = some (-2) by decide +kernel) rfl,
  fun _ _ _ _ => r_goto (show zdec 273 25 = some (.goto 9, 3) by decide +kernel) rfl,
  fun _ _ _ _ => r_aload_nr (show zdec 273 28 = some (.aload_n 0, 1) by decide +kernel) rfl rfl,
  fun _ _ _ _ => r_iload_n (show zdec 273 29 = some (.iload_n 1, 1) by decide +kernel) rfl rfl,
  fun _ _ _ _ => r_iconst (show zdec 273 30 = some (.iconst 0, 1) by decide +kernel) rfl rfl,
  fun _ _ _ _ _ _ _ => r_cV [_, _] rfl (show zdec 273 31 = some (.invokevirtual 249, 3) by decide +kernel) (show zst.lookup (273 * zKEY + 249) = some (1, 274, 2, 12) by decide +kernel) (by decide) rfl,
  fun _ _ _ _ => r_lret (show zdec 273 34 = some (.lreturn, 1) by decide +kernel) (by decide +kernel)⟩
theorem ze_273 : ∀ (a0 : Nat) (a1 : Int32) (h : zH), ev 273 [.ref a0, .int a1] h = rn 273 0 [.ref a0, .int a1] [] h := fun _ _ _ => if_pos (Nat.le_of_ble_eq_true rfl)
-- PayrollRunModel.nextPayout(II)J
theorem zr_274 : (∀ (l1 l2 l3 l4 : Value) (x : Nat) (S : List Value) (h : zH), rn 274 0 [.ref x, l1, l2, l3, l4] S h = rn 274 1 [.ref x, l1, l2, l3, l4] (.ref x :: S) h) ∧
  (∀ (l0 l1 l2 l3 l4 : Value) (o : Nat) (S : List Value) (h : zH), rn 274 1 [l0, l1, l2, l3, l4] (.ref o :: S) h = if zkd h o = 12 ∧ zsum S ≤ 8 then zcall (ev 275 [.ref o] h) (fun v h => rn 274 4 [l0, l1, l2, l3, l4] (zpush v S) h) else none) ∧
  (∀ (l1 l2 l3 l4 : Value) (x : Nat) (S : List Value) (h : zH), rn 274 4 [.ref x, l1, l2, l3, l4] S h = rn 274 5 [.ref x, l1, l2, l3, l4] (.ref x :: S) h) ∧
  (∀ (l0 l1 l2 l3 l4 : Value) (a : Nat) (S : List Value) (h : zH), rn 274 5 [l0, l1, l2, l3, l4] (.ref a :: S) h = zgf h a 12 0 fun v => rn 274 8 [l0, l1, l2, l3, l4] (v :: S) h) ∧
  (∀ (l0 l2 l3 l4 : Value) (x : Int32) (S : List Value) (h : zH), rn 274 8 [l0, .int x, l2, l3, l4] S h = rn 274 9 [l0, .int x, l2, l3, l4] (.int x :: S) h) ∧
  (∀ (l0 l1 l2 l3 l4 : Value) (S : List Value) (h : zH), rn 274 9 [l0, l1, l2, l3, l4] S h = rn 274 11 [l0, l1, l2, l3, l4] (.int (nI 26) :: S) h) ∧
  (∀ (l1 l2 l3 l4 : Value) (x : Nat) (S : List Value) (h : zH), rn 274 11 [.ref x, l1, l2, l3, l4] S h = rn 274 12 [.ref x, l1, l2, l3, l4] (.ref x :: S) h) ∧
  (∀ (l0 l1 l2 l3 l4 : Value) (o : Nat) (S : List Value) (h : zH), rn 274 12 [l0, l1, l2, l3, l4] (.ref o :: S) h = if zkd h o = 12 ∧ zsum S ≤ 8 then zcall (ev 233 [.ref o] h) (fun v h => rn 274 15 [l0, l1, l2, l3, l4] (zpush v S) h) else none) ∧
  (∀ (l0 l1 l2 l3 l4 : Value) (x : Int32) (y : Int32) (S : List Value) (h : zH), rn 274 15 [l0, l1, l2, l3, l4] (.int y :: .int x :: S) h = rn 274 16 [l0, l1, l2, l3, l4] (.int (x + y) :: S) h) ∧
  (∀ (l0 l1 l2 l3 l4 : Value) (v0 : Value) (v1 : Value) (S : List Value) (h : zH), rn 274 16 [l0, l1, l2, l3, l4] (v1 :: v0 :: S) h = if zsum S ≤ 8 then zcall (ev 208 [v0, v1] h) (fun v h => rn 274 19 [l0, l1, l2, l3, l4] (zpush v S) h) else none) ∧
  (∀ (l0 l1 l2 l3 l4 : Value) (v : Value) (w : Value) (S : List Value) (h : zH), rn 274 19 [l0, l1, l2, l3, l4] (v :: w :: S) h = c1 v (c1 w (rn 274 20 [l0, l1, l2, l3, l4] (v :: w :: v :: w :: S) h))) ∧
  (∀ (l0 l1 l2 l3 l4 : Value) (a : Nat) (j : Int32) (S : List Value) (h : zH), rn 274 20 [l0, l1, l2, l3, l4] (.int j :: .ref a :: S) h = zlj h a j fun x => rn 274 21 [l0, l1, l2, l3, l4] (.long x :: S) h) ∧
  (∀ (l0 l1 l3 l4 : Value) (x : Int32) (S : List Value) (h : zH), rn 274 21 [l0, l1, .int x, l3, l4] S h = rn 274 22 [l0, l1, .int x, l3, l4] (.int x :: S) h) ∧
  (∀ (l0 l1 l2 l3 l4 : Value) (x : Int32) (S : List Value) (h : zH), rn 274 22 [l0, l1, l2, l3, l4] (.int x :: S) h = rn 274 23 [l0, l1, l2, l3, l4] (.long x.toInt64 :: S) h) ∧
  (∀ (l0 l1 l2 l3 l4 : Value) (x : Int64) (y : Int64) (S : List Value) (h : zH), rn 274 23 [l0, l1, l2, l3, l4] (.long y :: .long x :: S) h = rn 274 24 [l0, l1, l2, l3, l4] (.long (x + y) :: S) h) ∧
  (∀ (l0 l1 l2 l3 l4 : Value) (a : Nat) (j : Int32) (x : Int64) (S : List Value) (h : zH), rn 274 24 [l0, l1, l2, l3, l4] (.long x :: .int j :: .ref a :: S) h = zsj h a j x fun h => rn 274 25 [l0, l1, l2, l3, l4] S h) ∧
  (∀ (l1 l2 l3 l4 : Value) (x : Nat) (S : List Value) (h : zH), rn 274 25 [.ref x, l1, l2, l3, l4] S h = rn 274 26 [.ref x, l1, l2, l3, l4] (.ref x :: S) h) ∧
  (∀ (l0 l2 l3 l4 : Value) (x : Int32) (S : List Value) (h : zH), rn 274 26 [l0, .int x, l2, l3, l4] S h = rn 274 27 [l0, .int x, l2, l3, l4] (.int x :: S) h) ∧
  (∀ (l1 l2 l3 l4 : Value) (x : Nat) (S : List Value) (h : zH), rn 274 27 [.ref x, l1, l2, l3, l4] S h = rn 274 28 [.ref x, l1, l2, l3, l4] (.ref x :: S) h) ∧
  (∀ (l0 l1 l2 l3 l4 : Value) (o : Nat) (S : List Value) (h : zH), rn 274 28 [l0, l1, l2, l3, l4] (.ref o :: S) h = if zkd h o = 12 ∧ zsum S ≤ 8 then zcall (ev 234 [.ref o] h) (fun v h => rn 274 31 [l0, l1, l2, l3, l4] (zpush v S) h) else none) ∧
  (∀ (l0 l1 l2 l3 l4 : Value) (o : Nat) (v0 : Value) (v1 : Value) (S : List Value) (h : zH), rn 274 31 [l0, l1, l2, l3, l4] (v1 :: v0 :: .ref o :: S) h = if zkd h o = 12 ∧ zsum S ≤ 8 then zcall (ev 272 [.ref o, v0, v1] h) (fun v h => rn 274 34 [l0, l1, l2, l3, l4] (zpush v S) h) else none) ∧
  (∀ (l0 l1 l2 l3 l4 : Value) (x : Int64) (S : List Value) (h : zH), rn 274 34 [l0, l1, l2, l3, l4] (.long x :: S) h = nl l2 (rn 274 35 [l0, l1, l2, .long x, .float 0] S h)) ∧
  (∀ (l1 l2 l3 l4 : Value) (x : Nat) (S : List Value) (h : zH), rn 274 35 [.ref x, l1, l2, l3, l4] S h = rn 274 36 [.ref x, l1, l2, l3, l4] (.ref x :: S) h) ∧
  (∀ (l0 l1 l2 l3 l4 : Value) (o : Nat) (S : List Value) (h : zH), rn 274 36 [l0, l1, l2, l3, l4] (.ref o :: S) h = if zkd h o = 12 ∧ zsum S ≤ 8 then zcall (ev 276 [.ref o] h) (fun v h => rn 274 39 [l0, l1, l2, l3, l4] (zpush v S) h) else none) ∧
  (∀ (l0 l1 l2 l4 : Value) (x : Int64) (S : List Value) (h : zH), rn 274 39 [l0, l1, l2, .long x, l4] S h = rn 274 40 [l0, l1, l2, .long x, l4] (.long x :: S) h) ∧
  (∀ (l0 l1 l2 l3 l4 : Value) (x : Int64) (h : zH), rn 274 40 [l0, l1, l2, l3, l4] [.long x] h = some (some (.long x), h)) := ⟨fun _ _ _ _ _ _ _ => r_aload_nr (show zdec 274 0 = some (.aload_n 0, 1) by decide +kernel) rfl rfl,
  fun _ _ _ _ _ _ _ _ => r_cV [] rfl (show zdec 274 1 = some (.invokevirtual 241, 3) by decide +kernel) (show zst.lookup (274 * zKEY + 241) = some (1, 275, 0, 12) by decide +kernel) (by decide) rfl,
  fun _ _ _ _ _ _ _ => r_aload_nr (show zdec 274 4 = some (.aload_n 0, 1) by decide +kernel) rfl rfl,
  fun _ _ _ _ _ _ _ _ => r_getfield (show zdec 274 5 = some (.getfield 9, 3) by decide +kernel) (show zft.lookup (274 * zKEY + 9) = some (12, 0) by decide +kernel) rfl,
  fun _ _ _ _ _ _ _ => r_iload_n (show zdec 274 8 = some (.iload_n 1, 1) by decide +kernel) rfl rfl,
  fun _ _ _ _ _ _ _ => r_bipush (show zdec 274 9 = some (.bipush 26, 2) by decide +kernel) rfl rfl,
  fun _ _ _ _ _ _ _ => r_aload_nr (show zdec 274 11 = some (.aload_n 0, 1) by decide +kernel) rfl rfl,
  fun _ _ _ _ _ _ _ _ => r_cV [] rfl (show zdec 274 12 = some (.invokevirtual 164, 3) by decide +kernel) (show zst.lookup (274 * zKEY + 164) = some (1, 233, 0, 12) by decide +kernel) (by decide) rfl,
  fun _ _ _ _ _ _ _ _ _ => r_iadd (show zdec 274 15 = some (.iadd, 1) by decide +kernel) rfl,
  fun _ _ _ _ _ _ _ _ _ => r_cS [_, _] rfl (show zdec 274 16 = some (.invokestatic 39, 3) by decide +kernel) (show zst.lookup (274 * zKEY + 39) = some (0, 208, 2, 0) by decide +kernel) (by decide) rfl,
  fun _ _ _ _ _ _ _ _ _ => r_dup2 (show zdec 274 19 = some (.dup2, 1) by decide +kernel) rfl,
  fun _ _ _ _ _ _ _ _ _ => r_lald (show zdec 274 20 = some (.laload, 1) by decide +kernel) rfl,
  fun _ _ _ _ _ _ _ => r_iload_n (show zdec 274 21 = some (.iload_n 2, 1) by decide +kernel) rfl rfl,
  fun _ _ _ _ _ _ _ _ => r_i2l (show zdec 274 22 = some (.i2l, 1) by decide +kernel) rfl,
  fun _ _ _ _ _ _ _ _ _ => r_ladd (show zdec 274 23 = some (.ladd, 1) by decide +kernel) rfl,
  fun _ _ _ _ _ _ _ _ _ _ => r_last (show zdec 274 24 = some (.lastore, 1) by decide +kernel) rfl,
  fun _ _ _ _ _ _ _ => r_aload_nr (show zdec 274 25 = some (.aload_n 0, 1) by decide +kernel) rfl rfl,
  fun _ _ _ _ _ _ _ => r_iload_n (show zdec 274 26 = some (.iload_n 1, 1) by decide +kernel) rfl rfl,
  fun _ _ _ _ _ _ _ => r_aload_nr (show zdec 274 27 = some (.aload_n 0, 1) by decide +kernel) rfl rfl,
  fun _ _ _ _ _ _ _ _ => r_cV [] rfl (show zdec 274 28 = some (.invokevirtual 171, 3) by decide +kernel) (show zst.lookup (274 * zKEY + 171) = some (1, 234, 0, 12) by decide +kernel) (by decide) rfl,
  fun _ _ _ _ _ _ _ _ _ _ => r_cV [_, _] rfl (show zdec 274 31 = some (.invokevirtual 238, 3) by decide +kernel) (show zst.lookup (274 * zKEY + 238) = some (1, 272, 2, 12) by decide +kernel) (by decide) rfl,
  fun _ _ _ _ _ _ _ _ => r_lstore_n (show zdec 274 34 = some (.lstore_n 3, 1) by decide +kernel) rfl rfl (Nat.le_of_ble_eq_true rfl) rfl rfl,
  fun _ _ _ _ _ _ _ => r_aload_nr (show zdec 274 35 = some (.aload_n 0, 1) by decide +kernel) rfl rfl,
  fun _ _ _ _ _ _ _ _ => r_cV [] rfl (show zdec 274 36 = some (.invokevirtual 244, 3) by decide +kernel) (show zst.lookup (274 * zKEY + 244) = some (1, 276, 0, 12) by decide +kernel) (by decide) rfl,
  fun _ _ _ _ _ _ _ => r_lload_n (show zdec 274 39 = some (.lload_n 3, 1) by decide +kernel) rfl rfl,
  fun _ _ _ _ _ _ _ => r_lret (show zdec 274 40 = some (.lreturn, 1) by decide +kernel) (by decide +kernel)⟩
theorem ze_274 : ∀ (a0 : Nat) (a1 : Int32) (a2 : Int32) (h : zH), ev 274 [.ref a0, .int a1, .int a2] h = rn 274 0 [.ref a0, .int a1, .int a2, .float 0, .float 0] [] h := fun _ _ _ _ => if_pos (Nat.le_of_ble_eq_true rfl)
-- PayrollRunModel.think()V
theorem zr_275 : (∀ (x : Nat) (S : List Value) (h : zH), rn 275 0 [.ref x] S h = rn 275 1 [.ref x] (.ref x :: S) h) ∧
  (∀ (l0 : Value) (a : Nat) (S : List Value) (h : zH), rn 275 1 [l0] (.ref a :: S) h = zgf h a 12 0 fun v => rn 275 4 [l0] (v :: S) h) ∧
  (∀ (l0 : Value) (S : List Value) (h : zH), rn 275 4 [l0] S h = rn 275 5 [l0] (.int (nI 0) :: S) h) ∧
  (∀ (x : Nat) (S : List Value) (h : zH), rn 275 5 [.ref x] S h = rn 275 6 [.ref x] (.ref x :: S) h) ∧
  (∀ (l0 : Value) (a : Nat) (S : List Value) (h : zH), rn 275 6 [l0] (.ref a :: S) h = zgf h a 12 5 fun v => rn 275 9 [l0] (v :: S) h) ∧
  (∀ (l0 : Value) (S : List Value) (h : zH), rn 275 9 [l0] S h = rn 275 10 [l0] (.int (nI 0) :: S) h) ∧
  (∀ (l0 : Value) (S : List Value) (h : zH), rn 275 10 [l0] S h = rn 275 13 [l0] (.int (nI 8271) :: S) h) ∧
  (∀ (l0 : Value) (s : Nat) (d : Nat) (sp : Int32) (dp : Int32) (x : Int32) (S : List Value) (h : zH), rn 275 13 [l0] (.int x :: .int dp :: .ref d :: .int sp :: .ref s :: S) h = if zsum S ≤ 8 then zcpI h s sp d dp x (fun h => rn 275 16 [l0] S h) else none) ∧
  (∀ (l0 : Value) (h : zH), rn 275 16 [l0] [] h = some (none, h)) := ⟨fun _ _ _ => r_aload_nr (show zdec 275 0 = some (.aload_n 0, 1) by decide +kernel) rfl rfl,
  fun _ _ _ _ => r_getfield (show zdec 275 1 = some (.getfield 9, 3) by decide +kernel) (show zft.lookup (275 * zKEY + 9) = some (12, 0) by decide +kernel) rfl,
  fun _ _ _ => r_iconst (show zdec 275 4 = some (.iconst 0, 1) by decide +kernel) rfl rfl,
  fun _ _ _ => r_aload_nr (show zdec 275 5 = some (.aload_n 0, 1) by decide +kernel) rfl rfl,
  fun _ _ _ _ => r_getfield (show zdec 275 6 = some (.getfield 20, 3) by decide +kernel) (show zft.lookup (275 * zKEY + 20) = some (12, 5) by decide +kernel) rfl,
  fun _ _ _ => r_iconst (show zdec 275 9 = some (.iconst 0, 1) by decide +kernel) rfl rfl,
  fun _ _ _ => r_sipush (show zdec 275 10 = some (.sipush 8271, 3) by decide +kernel) rfl rfl,
  fun _ _ _ _ _ _ _ _ => r_cA (show zdec 275 13 = some (.invokestatic 62, 3) by decide +kernel) (show zst.lookup (275 * zKEY + 62) = some (8, 0, 5, 0) by decide +kernel) rfl,
  fun _ _ => r_vret (show zdec 275 16 = some (.return_, 1) by decide +kernel) (by decide +kernel)⟩
theorem ze_275 : ∀ (a0 : Nat) (h : zH), ev 275 [.ref a0] h = rn 275 0 [.ref a0] [] h := fun _ _ => if_pos (Nat.le_of_ble_eq_true rfl)
-- PayrollRunModel.forget()V
theorem zr_276 : (∀ (x : Nat) (S : List Value) (h : zH), rn 276 0 [.ref x] S h = rn 276 1 [.ref x] (.ref x :: S) h) ∧
  (∀ (l0 : Value) (a : Nat) (S : List Value) (h : zH), rn 276 1 [l0] (.ref a :: S) h = zgf h a 12 5 fun v => rn 276 4 [l0] (v :: S) h) ∧
  (∀ (l0 : Value) (S : List Value) (h : zH), rn 276 4 [l0] S h = rn 276 5 [l0] (.int (nI 0) :: S) h) ∧
  (∀ (x : Nat) (S : List Value) (h : zH), rn 276 5 [.ref x] S h = rn 276 6 [.ref x] (.ref x :: S) h) ∧
  (∀ (l0 : Value) (a : Nat) (S : List Value) (h : zH), rn 276 6 [l0] (.ref a :: S) h = zgf h a 12 0 fun v => rn 276 9 [l0] (v :: S) h) ∧
  (∀ (l0 : Value) (S : List Value) (h : zH), rn 276 9 [l0] S h = rn 276 10 [l0] (.int (nI 0) :: S) h) ∧
  (∀ (l0 : Value) (S : List Value) (h : zH), rn 276 10 [l0] S h = rn 276 13 [l0] (.int (nI 8271) :: S) h) ∧
  (∀ (l0 : Value) (s : Nat) (d : Nat) (sp : Int32) (dp : Int32) (x : Int32) (S : List Value) (h : zH), rn 276 13 [l0] (.int x :: .int dp :: .ref d :: .int sp :: .ref s :: S) h = if zsum S ≤ 8 then zcpI h s sp d dp x (fun h => rn 276 16 [l0] S h) else none) ∧
  (∀ (l0 : Value) (h : zH), rn 276 16 [l0] [] h = some (none, h)) := ⟨fun _ _ _ => r_aload_nr (show zdec 276 0 = some (.aload_n 0, 1) by decide +kernel) rfl rfl,
  fun _ _ _ _ => r_getfield (show zdec 276 1 = some (.getfield 20, 3) by decide +kernel) (show zft.lookup (276 * zKEY + 20) = some (12, 5) by decide +kernel) rfl,
  fun _ _ _ => r_iconst (show zdec 276 4 = some (.iconst 0, 1) by decide +kernel) rfl rfl,
  fun _ _ _ => r_aload_nr (show zdec 276 5 = some (.aload_n 0, 1) by decide +kernel) rfl rfl,
  fun _ _ _ _ => r_getfield (show zdec 276 6 = some (.getfield 9, 3) by decide +kernel) (show zft.lookup (276 * zKEY + 9) = some (12, 0) by decide +kernel) rfl,
  fun _ _ _ => r_iconst (show zdec 276 9 = some (.iconst 0, 1) by decide +kernel) rfl rfl,
  fun _ _ _ => r_sipush (show zdec 276 10 = some (.sipush 8271, 3) by decide +kernel) rfl rfl,
  fun _ _ _ _ _ _ _ _ => r_cA (show zdec 276 13 = some (.invokestatic 62, 3) by decide +kernel) (show zst.lookup (276 * zKEY + 62) = some (8, 0, 5, 0) by decide +kernel) rfl,
  fun _ _ => r_vret (show zdec 276 16 = some (.return_, 1) by decide +kernel) (by decide +kernel)⟩
theorem ze_276 : ∀ (a0 : Nat) (h : zH), ev 276 [.ref a0] h = rn 276 0 [.ref a0] [] h := fun _ _ => if_pos (Nat.le_of_ble_eq_true rfl)
-- PayrollRunModel.marginal(I)J
theorem zr_277 : (∀ (l0 : Value) (x : Int32) (S : List Value) (h : zH), rn 277 0 [l0, .int x] S h = rn 277 1 [l0, .int x] (.int x :: S) h) ∧
  (∀ (l0 l1 : Value) (v0 : Value) (S : List Value) (h : zH), rn 277 1 [l0, l1] (v0 :: S) h = if zsum S ≤ 8 then zcall (ev 210 [v0] h) (fun v h => rn 277 4 [l0, l1] (zpush v S) h) else none) ∧
  (∀ (l0 l1 : Value) (x : Int32) (S : List Value) (h : zH), rn 277 4 [l0, l1] (.int x :: S) h = if x = nI 0 then rn 277 7 [l0, l1] S h else rn 277 13 [l0, l1] S h) ∧
  (∀ (l0 l1 : Value) (S : List Value) (h : zH), rn 277 7 [l0, l1] S h = rn 277 10 [l0, l1] (.long (-1) :: S) h) ∧
  (∀ (l0 l1 : Value) (S : List Value) (h : zH), rn 277 10 [l0, l1] S h = rn 277 41 [l0, l1] S h) ∧
  (∀ (l1 : Value) (x : Nat) (S : List Value) (h : zH), rn 277 13 [.ref x, l1] S h = rn 277 14 [.ref x, l1] (.ref x :: S) h) ∧
  (∀ (l0 l1 : Value) (o : Nat) (S : List Value) (h : zH), rn 277 14 [l0, l1] (.ref o :: S) h = if zkd h o = 12 ∧ zsum S ≤ 8 then zcall (ev 233 [.ref o] h) (fun v h => rn 277 17 [l0, l1] (zpush v S) h) else none) ∧
  (∀ (l0 l1 : Value) (S : List Value) (h : zH), rn 277 17 [l0, l1] S h = rn 277 19 [l0, l1] (.int (nI 12) :: S) h) ∧
  (∀ (l0 l1 : Value) (x : Int32) (y : Int32) (S : List Value) (h : zH), rn 277 19 [l0, l1] (.int y :: .int x :: S) h = if x = y then rn 277 22 [l0, l1] S h else rn 277 28 [l0, l1] S h) ∧
  (∀ (l0 l1 : Value) (S : List Value) (h : zH), rn 277 22 [l0, l1] S h = rn 277 25 [l0, l1] (.long (-2) :: S) h) ∧
  (∀ (l0 l1 : Value) (S : List Value) (h : zH), rn 277 25 [l0, l1] S h = rn 277 41 [l0, l1] S h) ∧
  (∀ (l1 : Value) (x : Nat) (S : List Value) (h : zH), rn 277 28 [.ref x, l1] S h = rn 277 29 [.ref x, l1] (.ref x :: S) h) ∧
  (∀ (l0 : Value) (x : Int32) (S : List Value) (h : zH), rn 277 29 [l0, .int x] S h = rn 277 30 [l0, .int x] (.int x :: S) h) ∧
  (∀ (l0 l1 : Value) (S : List Value) (h : zH), rn 277 30 [l0, l1] S h = rn 277 31 [l0, l1] (.int (nI 1) :: S) h) ∧
  (∀ (l0 l1 : Value) (o : Nat) (v0 : Value) (v1 : Value) (S : List Value) (h : zH), rn 277 31 [l0, l1] (v1 :: v0 :: .ref o :: S) h = if zkd h o = 12 ∧ zsum S ≤ 8 then zcall (ev 274 [.ref o, v0, v1] h) (fun v h => rn 277 34 [l0, l1] (zpush v S) h) else none) ∧
  (∀ (l1 : Value) (x : Nat) (S : List Value) (h : zH), rn 277 34 [.ref x, l1] S h = rn 277 35 [.ref x, l1] (.ref x :: S) h) ∧
  (∀ (l0 : Value) (x : Int32) (S : List Value) (h : zH), rn 277 35 [l0, .int x] S h = rn 277 36 [l0, .int x] (.int x :: S) h) ∧
  (∀ (l0 l1 : Value) (S : List Value) (h : zH), rn 277 36 [l0, l1] S h = rn 277 37 [l0, l1] (.int (nI 0) :: S) h) ∧
  (∀ (l0 l1 : Value) (o : Nat) (v0 : Value) (v1 : Value) (S : List Value) (h : zH), rn 277 37 [l0, l1] (v1 :: v0 :: .ref o :: S) h = if zkd h o = 12 ∧ zsum S ≤ 8 then zcall (ev 274 [.ref o, v0, v1] h) (fun v h => rn 277 40 [l0, l1] (zpush v S) h) else none) ∧
  (∀ (l0 l1 : Value) (x : Int64) (y : Int64) (S : List Value) (h : zH), rn 277 40 [l0, l1] (.long y :: .long x :: S) h = rn 277 41 [l0, l1] (.long (x - y) :: S) h) ∧
  (∀ (l0 l1 : Value) (x : Int64) (h : zH), rn 277 41 [l0, l1] [.long x] h = some (some (.long x), h)) := ⟨fun _ _ _ _ => r_iload_n (show zdec 277 0 = some (.iload_n 1, 1) by decide +kernel) rfl rfl,
  fun _ _ _ _ _ => r_cS [_] rfl (show zdec 277 1 = some (.invokestatic 71, 3) by decide +kernel) (show zst.lookup (277 * zKEY + 71) = some (0, 210, 1, 0) by decide +kernel) (by decide) rfl,
  fun _ _ _ _ _ => r_ifne (show zdec 277 4 = some (.ifCond .ne 9, 3) by decide +kernel) rfl rfl,
  fun _ _ _ _ => r_ldc2 (show zdec 277 7 = some (.ldc2_w 174, 3) by decide +kernel) (show zlt.lookup (277 * zKEY + 174) = some (-1) by decide +kernel) rfl,
  fun _ _ _ _ => r_goto (show zdec 277 10 = some (.goto 31, 3) by decide +kernel) rfl,
  fun _ _ _ _ => r_aload_nr (show zdec 277 13 = some (.aload_n 0, 1) by decide +kernel) rfl rfl,
  fun _ _ _ _ _ => r_cV [] rfl (show zdec 277 14 = some (.invokevirtual 164, 3) by decide +kernel) (show zst.lookup (277 * zKEY + 164) = some (1, 233, 0, 12) by decide +kernel) (by decide) rfl,
  fun _ _ _ _ => r_bipush (show zdec 277 17 = some (.bipush 12, 2) by decide +kernel) rfl rfl,
  fun _ _ _ _ _ _ => r_icmpne (show zdec 277 19 = some (.if_icmp .ne 9, 3) by decide +kernel) rfl rfl,
  fun _ _ _ _ => r_ldc2 (show zdec 277 22 = some (.ldc2_w 247, 3) by decide +kernel) (show zlt.lookup (277 * zKEY + 247) = some (-2) by decide +kernel) rfl,
  fun _ _ _ _ => r_goto (show zdec 277 25 = some (.goto 16, 3) by decide +kernel) rfl,
  fun _ _ _ _ => r_aload_nr (show zdec 277 28 = some (.aload_n 0, 1) by decide +kernel) rfl rfl,
  fun _ _ _ _ => r_iload_n (show zdec 277 29 = some (.iload_n 1, 1) by decide +kernel) rfl rfl,
  fun _ _ _ _ => r_iconst (show zdec 277 30 = some (.iconst 1, 1) by decide +kernel) rfl rfl,
  fun _ _ _ _ _ _ _ => r_cV [_, _] rfl (show zdec 277 31 = some (.invokevirtual 249, 3) by decide +kernel) (show zst.lookup (277 * zKEY + 249) = some (1, 274, 2, 12) by decide +kernel) (by decide) rfl,
  fun _ _ _ _ => r_aload_nr (show zdec 277 34 = some (.aload_n 0, 1) by decide +kernel) rfl rfl,
  fun _ _ _ _ => r_iload_n (show zdec 277 35 = some (.iload_n 1, 1) by decide +kernel) rfl rfl,
  fun _ _ _ _ => r_iconst (show zdec 277 36 = some (.iconst 0, 1) by decide +kernel) rfl rfl,
  fun _ _ _ _ _ _ _ => r_cV [_, _] rfl (show zdec 277 37 = some (.invokevirtual 249, 3) by decide +kernel) (show zst.lookup (277 * zKEY + 249) = some (1, 274, 2, 12) by decide +kernel) (by decide) rfl,
  fun _ _ _ _ _ _ => r_lsub (show zdec 277 40 = some (.lsub, 1) by decide +kernel) rfl,
  fun _ _ _ _ => r_lret (show zdec 277 41 = some (.lreturn, 1) by decide +kernel) (by decide +kernel)⟩
theorem ze_277 : ∀ (a0 : Nat) (a1 : Int32) (h : zH), ev 277 [.ref a0, .int a1] h = rn 277 0 [.ref a0, .int a1] [] h := fun _ _ _ => if_pos (Nat.le_of_ble_eq_true rfl)
-- PayrollRunModel.leastSalary(II)I
theorem zr_278 : (∀ (l0 l2 l3 l4 l5 l6 l7 l8 l9 l10 : Value) (x : Int32) (S : List Value) (h : zH), rn 278 0 [l0, .int x, l2, l3, l4, l5, l6, l7, l8, l9, l10] S h = rn 278 1 [l0, .int x, l2, l3, l4, l5, l6, l7, l8, l9, l10] (.int x :: S) h) ∧
  (∀ (l0 l1 l2 l3 l4 l5 l6 l7 l8 l9 l10 : Value) (v0 : Value) (S : List Value) (h : zH), rn 278 1 [l0, l1, l2, l3, l4, l5, l6, l7, l8, l9, l10] (v0 :: S) h = if zsum S ≤ 8 then zcall (ev 210 [v0] h) (fun v h => rn 278 4 [l0, l1, l2, l3, l4, l5, l6, l7, l8, l9, l10] (zpush v S) h) else none) ∧
  (∀ (l0 l1 l2 l3 l4 l5 l6 l7 l8 l9 l10 : Value) (x : Int32) (S : List Value) (h : zH), rn 278 4 [l0, l1, l2, l3, l4, l5, l6, l7, l8, l9, l10] (.int x :: S) h = if x = nI 0 then rn 278 17 [l0, l1, l2, l3, l4, l5, l6, l7, l8, l9, l10] S h else rn 278 7 [l0, l1, l2, l3, l4, l5, l6, l7, l8, l9, l10] S h) ∧
  (∀ (l0 l1 l3 l4 l5 l6 l7 l8 l9 l10 : Value) (x : Int32) (S : List Value) (h : zH), rn 278 7 [l0, l1, .int x, l3, l4, l5, l6, l7, l8, l9, l10] S h = rn 278 8 [l0, l1, .int x, l3, l4, l5, l6, l7, l8, l9, l10] (.int x :: S) h) ∧
  (∀ (l0 l1 l2 l3 l4 l5 l6 l7 l8 l9 l10 : Value) (S : List Value) (h : zH), rn 278 8 [l0, l1, l2, l3, l4, l5, l6, l7, l8, l9, l10] S h = rn 278 9 [l0, l1, l2, l3, l4, l5, l6, l7, l8, l9, l10] (.int (nI 0) :: S) h) ∧
  (∀ (l0 l1 l2 l3 l4 l5 l6 l7 l8 l9 l10 : Value) (S : List Value) (h : zH), rn 278 9 [l0, l1, l2, l3, l4, l5, l6, l7, l8, l9, l10] S h = rn 278 11 [l0, l1, l2, l3, l4, l5, l6, l7, l8, l9, l10] (.int (nI 99999) :: S) h) ∧
  (∀ (l0 l1 l2 l3 l4 l5 l6 l7 l8 l9 l10 : Value) (v0 : Value) (v1 : Value) (v2 : Value) (S : List Value) (h : zH), rn 278 11 [l0, l1, l2, l3, l4, l5, l6, l7, l8, l9, l10] (v2 :: v1 :: v0 :: S) h = if zsum S ≤ 8 then zcall (ev 211 [v0, v1, v2] h) (fun v h => rn 278 14 [l0, l1, l2, l3, l4, l5, l6, l7, l8, l9, l10] (zpush v S) h) else none) ∧
  (∀ (l0 l1 l2 l3 l4 l5 l6 l7 l8 l9 l10 : Value) (x : Int32) (S : List Value) (h : zH), rn 278 14 [l0, l1, l2, l3, l4, l5, l6, l7, l8, l9, l10] (.int x :: S) h = if x = nI 0 then rn 278 17 [l0, l1, l2, l3, l4, l5, l6, l7, l8, l9, l10] S h else rn 278 19 [l0, l1, l2, l3, l4, l5, l6, l7, l8, l9, l10] S h) ∧
  (∀ (l0 l1 l2 l3 l4 l5 l6 l7 l8 l9 l10 : Value) (S : List Value) (h : zH), rn 278 17 [l0, l1, l2, l3, l4, l5, l6, l7, l8, l9, l10] S h = rn 278 18 [l0, l1, l2, l3, l4, l5, l6, l7, l8, l9, l10] (.int (-1) :: S) h) ∧
  (∀ (l0 l1 l2 l3 l4 l5 l6 l7 l8 l9 l10 : Value) (x : Int32) (h : zH), rn 278 18 [l0, l1, l2, l3, l4, l5, l6, l7, l8, l9, l10] [.int x] h = some (some (.int x), h)) ∧
  (∀ (l1 l2 l3 l4 l5 l6 l7 l8 l9 l10 : Value) (x : Nat) (S : List Value) (h : zH), rn 278 19 [.ref x, l1, l2, l3, l4, l5, l6, l7, l8, l9, l10] S h = rn 278 20 [.ref x, l1, l2, l3, l4, l5, l6, l7, l8, l9, l10] (.ref x :: S) h) ∧
  (∀ (l0 l1 l2 l3 l4 l5 l6 l7 l8 l9 l10 : Value) (o : Nat) (S : List Value) (h : zH), rn 278 20 [l0, l1, l2, l3, l4, l5, l6, l7, l8, l9, l10] (.ref o :: S) h = if zkd h o = 12 ∧ zsum S ≤ 8 then zcall (ev 233 [.ref o] h) (fun v h => rn 278 23 [l0, l1, l2, l3, l4, l5, l6, l7, l8, l9, l10] (zpush v S) h) else none) ∧
  (∀ (l0 l1 l2 l3 l4 l5 l6 l7 l8 l9 l10 : Value) (x : Int32) (S : List Value) (h : zH), rn 278 23 [l0, l1, l2, l3, l4, l5, l6, l7, l8, l9, l10] (.int x :: S) h = nl l2 (rn 278 24 [l0, l1, l2, .int x, l4, l5, l6, l7, l8, l9, l10] S h)) ∧
  (∀ (l0 l1 l2 l4 l5 l6 l7 l8 l9 l10 : Value) (x : Int32) (S : List Value) (h : zH), rn 278 24 [l0, l1, l2, .int x, l4, l5, l6, l7, l8, l9, l10] S h = rn 278 25 [l0, l1, l2, .int x, l4, l5, l6, l7, l8, l9, l10] (.int x :: S) h) ∧
  (∀ (l0 l1 l2 l3 l4 l5 l6 l7 l8 l9 l10 : Value) (S : List Value) (h : zH), rn 278 25 [l0, l1, l2, l3, l4, l5, l6, l7, l8, l9, l10] S h = rn 278 27 [l0, l1, l2, l3, l4, l5, l6, l7, l8, l9, l10] (.int (nI 12) :: S) h) ∧
  (∀ (l0 l1 l2 l3 l4 l5 l6 l7 l8 l9 l10 : Value) (x : Int32) (y : Int32) (S : List Value) (h : zH), rn 278 27 [l0, l1, l2, l3, l4, l5, l6, l7, l8, l9, l10] (.int y :: .int x :: S) h = if x = y then rn 278 30 [l0, l1, l2, l3, l4, l5, l6, l7, l8, l9, l10] S h else rn 278 33 [l0, l1, l2, l3, l4, l5, l6, l7, l8, l9, l10] S h) ∧
  (∀ (l0 l1 l2 l3 l4 l5 l6 l7 l8 l9 l10 : Value) (S : List Value) (h : zH), rn 278 30 [l0, l1, l2, l3, l4, l5, l6, l7, l8, l9, l10] S h = rn 278 32 [l0, l1, l2, l3, l4, l5, l6, l7, l8, l9, l10] (.int (-2) :: S) h) ∧
  (∀ (l0 l1 l2 l3 l4 l5 l6 l7 l8 l9 l10 : Value) (x : Int32) (h : zH), rn 278 32 [l0, l1, l2, l3, l4, l5, l6, l7, l8, l9, l10] [.int x] h = some (some (.int x), h)) ∧
  (∀ (l1 l2 l3 l4 l5 l6 l7 l8 l9 l10 : Value) (x : Nat) (S : List Value) (h : zH), rn 278 33 [.ref x, l1, l2, l3, l4, l5, l6, l7, l8, l9, l10] S h = rn 278 34 [.ref x, l1, l2, l3, l4, l5, l6, l7, l8, l9, l10] (.ref x :: S) h) ∧
  (∀ (l0 l2 l3 l4 l5 l6 l7 l8 l9 l10 : Value) (x : Int32) (S : List Value) (h : zH), rn 278 34 [l0, .int x, l2, l3, l4, l5, l6, l7, l8, l9, l10] S h = rn 278 35 [l0, .int x, l2, l3, l4, l5, l6, l7, l8, l9, l10] (.int x :: S) h) ∧
  (∀ (l0 l1 l2 l4 l5 l6 l7 l8 l9 l10 : Value) (x : Int32) (S : List Value) (h : zH), rn 278 35 [l0, l1, l2, .int x, l4, l5, l6, l7, l8, l9, l10] S h = rn 278 36 [l0, l1, l2, .int x, l4, l5, l6, l7, l8, l9, l10] (.int x :: S) h) ∧
  (∀ (l0 l1 l2 l3 l4 l5 l6 l7 l8 l9 l10 : Value) (o : Nat) (v0 : Value) (v1 : Value) (S : List Value) (h : zH), rn 278 36 [l0, l1, l2, l3, l4, l5, l6, l7, l8, l9, l10] (v1 :: v0 :: .ref o :: S) h = if zkd h o = 12 ∧ zsum S ≤ 8 then zcall (ev 238 [.ref o, v0, v1] h) (fun v h => rn 278 39 [l0, l1, l2, l3, l4, l5, l6, l7, l8, l9, l10] (zpush v S) h) else none) ∧
  (∀ (l0 l1 l2 l3 l4 l5 l6 l7 l8 l9 l10 : Value) (x : Int64) (S : List Value) (h : zH), rn 278 39 [l0, l1, l2, l3, l4, l5, l6, l7, l8, l9, l10] (.long x :: S) h = nl l3 (rn 278 41 [l0, l1, l2, l3, .long x, .float 0, l6, l7, l8, l9, l10] S h)) ∧
  (∀ (l1 l2 l3 l4 l5 l6 l7 l8 l9 l10 : Value) (x : Nat) (S : List Value) (h : zH), rn 278 41 [.ref x, l1, l2, l3, l4, l5, l6, l7, l8, l9, l10] S h = rn 278 42 [.ref x, l1, l2, l3, l4, l5, l6, l7, l8, l9, l10] (.ref x :: S) h) ∧
  (∀ (l0 l1 l2 l3 l5 l6 l7 l8 l9 l10 : Value) (x : Int64) (S : List Value) (h : zH), rn 278 42 [l0, l1, l2, l3, .long x, l5, l6, l7, l8, l9, l10] S h = rn 278 44 [l0, l1, l2, l3, .long x, l5, l6, l7, l8, l9, l10] (.long x :: S) h) ∧
  (∀ (l0 l1 l2 l3 l4 l5 l6 l7 l8 l9 l10 : Value) (S : List Value) (h : zH), rn 278 44 [l0, l1, l2, l3, l4, l5, l6, l7, l8, l9, l10] S h = rn 278 45 [l0, l1, l2, l3, l4, l5, l6, l7, l8, l9, l10] (.int (nI 4) :: S) h) ∧
  (∀ (l0 l1 l2 l3 l4 l5 l6 l7 l8 l9 l10 : Value) (o : Nat) (v0 : Value) (v1 : Value) (S : List Value) (h : zH), rn 278 45 [l0, l1, l2, l3, l4, l5, l6, l7, l8, l9, l10] (v1 :: v0 :: .ref o :: S) h = if zkd h o = 12 ∧ zsum S ≤ 8 then zcall (ev 240 [.ref o, v0, v1] h) (fun v h => rn 278 48 [l0, l1, l2, l3, l4, l5, l6, l7, l8, l9, l10] (zpush v S) h) else none) ∧
  (∀ (l0 l1 l3 l4 l5 l6 l7 l8 l9 l10 : Value) (x : Int32) (S : List Value) (h : zH), rn 278 48 [l0, l1, .int x, l3, l4, l5, l6, l7, l8, l9, l10] S h = rn 278 49 [l0, l1, .int x, l3, l4, l5, l6, l7, l8, l9, l10] (.int x :: S) h) ∧
  (∀ (l0 l1 l2 l3 l4 l5 l6 l7 l8 l9 l10 : Value) (x : Int32) (S : List Value) (h : zH), rn 278 49 [l0, l1, l2, l3, l4, l5, l6, l7, l8, l9, l10] (.int x :: S) h = rn 278 50 [l0, l1, l2, l3, l4, l5, l6, l7, l8, l9, l10] (.long x.toInt64 :: S) h) ∧
  (∀ (l0 l1 l2 l3 l4 l5 l6 l7 l8 l9 l10 : Value) (S : List Value) (h : zH), rn 278 50 [l0, l1, l2, l3, l4, l5, l6, l7, l8, l9, l10] S h = rn 278 53 [l0, l1, l2, l3, l4, l5, l6, l7, l8, l9, l10] (.long (1000000) :: S) h) ∧
  (∀ (l0 l1 l2 l3 l4 l5 l6 l7 l8 l9 l10 : Value) (x : Int64) (y : Int64) (S : List Value) (h : zH), rn 278 53 [l0, l1, l2, l3, l4, l5, l6, l7, l8, l9, l10] (.long y :: .long x :: S) h = rn 278 54 [l0, l1, l2, l3, l4, l5, l6, l7, l8, l9, l10] (.long (x * y) :: S) h) ∧
  (∀ (l0 l1 l2 l3 l4 l5 l6 l7 l8 l9 l10 : Value) (x : Int64) (y : Int64) (S : List Value) (h : zH), rn 278 54 [l0, l1, l2, l3, l4, l5, l6, l7, l8, l9, l10] (.long y :: .long x :: S) h = rn 278 55 [l0, l1, l2, l3, l4, l5, l6, l7, l8, l9, l10] (.long (x + y) :: S) h) ∧
  (∀ (l0 l1 l2 l3 l4 l5 l6 l7 l8 l9 l10 : Value) (x : Int64) (S : List Value) (h : zH), rn 278 55 [l0, l1, l2, l3, l4, l5, l6, l7, l8, l9, l10] (.long x :: S) h = nl l5 (rn 278 57 [l0, l1, l2, l3, l4, l5, .long x, .float 0, l8, l9, l10] S h)) ∧
  (∀ (l0 l1 l2 l3 l4 l5 l6 l7 l8 l9 l10 : Value) (S : List Value) (h : zH), rn 278 57 [l0, l1, l2, l3, l4, l5, l6, l7, l8, l9, l10] S h = rn 278 58 [l0, l1, l2, l3, l4, l5, l6, l7, l8, l9, l10] (.int (nI 0) :: S) h) ∧
  (∀ (l0 l1 l2 l3 l4 l5 l6 l7 l8 l9 l10 : Value) (x : Int32) (S : List Value) (h : zH), rn 278 58 [l0, l1, l2, l3, l4, l5, l6, l7, l8, l9, l10] (.int x :: S) h = nl l7 (rn 278 60 [l0, l1, l2, l3, l4, l5, l6, l7, .int x, l9, l10] S h)) ∧
  (∀ (l0 l1 l2 l3 l4 l5 l6 l7 l8 l9 l10 : Value) (S : List Value) (h : zH), rn 278 62 [l0, l1, l2, l3, l4, l5, l6, l7, l8, l9, l10] S h = rn 278 65 [l0, l1, l2, l3, l4, l5, l6, l7, l8, l9, l10] (.int (nI 10000) :: S) h) ∧
  (∀ (l0 l1 l2 l3 l4 l5 l6 l7 l8 l9 l10 : Value) (x : Int32) (y : Int32) (S : List Value) (h : zH), rn 278 65 [l0, l1, l2, l3, l4, l5, l6, l7, l8, l9, l10] (.int y :: .int x :: S) h = if y ≤ x then rn 278 122 [l0, l1, l2, l3, l4, l5, l6, l7, l8, l9, l10] S h else rn 278 68 [l0, l1, l2, l3, l4, l5, l6, l7, l8, l9, l10] S h) ∧
  (∀ (l0 l1 l2 l3 l4 l5 l6 l7 l9 l10 : Value) (x : Int32) (S : List Value) (h : zH), rn 278 68 [l0, l1, l2, l3, l4, l5, l6, l7, .int x, l9, l10] S h = rn 278 70 [l0, l1, l2, l3, l4, l5, l6, l7, .int x, l9, l10] (.int x :: S) h) ∧
  (∀ (l0 l1 l2 l3 l4 l5 l6 l7 l8 l9 l10 : Value) (x : Int32) (S : List Value) (h : zH), rn 278 70 [l0, l1, l2, l3, l4, l5, l6, l7, l8, l9, l10] (.int x :: S) h = rn 278 71 [l0, l1, l2, l3, l4, l5, l6, l7, l8, l9, l10] (.long x.toInt64 :: S) h) ∧
  (∀ (l1 l2 l3 l4 l5 l6 l7 l8 l9 l10 : Value) (x : Nat) (S : List Value) (h : zH), rn 278 71 [.ref x, l1, l2, l3, l4, l5, l6, l7, l8, l9, l10] S h = rn 278 72 [.ref x, l1, l2, l3, l4, l5, l6, l7, l8, l9, l10] (.ref x :: S) h) ∧
  (∀ (l0 l2 l3 l4 l5 l6 l7 l8 l9 l10 : Value) (x : Int32) (S : List Value) (h : zH), rn 278 72 [l0, .int x, l2, l3, l4, l5, l6, l7, l8, l9, l10] S h = rn 278 73 [l0, .int x, l2, l3, l4, l5, l6, l7, l8, l9, l10] (.int x :: S) h) ∧
  (∀ (l0 l1 l2 l3 l4 l5 l6 l7 l8 l9 l10 : Value) (S : List Value) (h : zH), rn 278 73 [l0, l1, l2, l3, l4, l5, l6, l7, l8, l9, l10] S h = rn 278 75 [l0, l1, l2, l3, l4, l5, l6, l7, l8, l9, l10] (.int (nI 14) :: S) h) ∧
  (∀ (l0 l1 l2 l4 l5 l6 l7 l8 l9 l10 : Value) (x : Int32) (S : List Value) (h : zH), rn 278 75 [l0, l1, l2, .int x, l4, l5, l6, l7, l8, l9, l10] S h = rn 278 76 [l0, l1, l2, .int x, l4, l5, l6, l7, l8, l9, l10] (.int x :: S) h) ∧
  (∀ (l0 l1 l2 l3 l4 l5 l6 l7 l8 l9 l10 : Value) (x : Int32) (y : Int32) (S : List Value) (h : zH), rn 278 76 [l0, l1, l2, l3, l4, l5, l6, l7, l8, l9, l10] (.int y :: .int x :: S) h = rn 278 77 [l0, l1, l2, l3, l4, l5, l6, l7, l8, l9, l10] (.int (x + y) :: S) h) ∧
  (∀ (l0 l1 l2 l3 l4 l5 l6 l7 l8 l9 l10 : Value) (o : Nat) (v0 : Value) (v1 : Value) (S : List Value) (h : zH), rn 278 77 [l0, l1, l2, l3, l4, l5, l6, l7, l8, l9, l10] (v1 :: v0 :: .ref o :: S) h = if zkd h o = 12 ∧ zsum S ≤ 8 then zcall (ev 226 [.ref o, v0, v1] h) (fun v h => rn 278 80 [l0, l1, l2, l3, l4, l5, l6, l7, l8, l9, l10] (zpush v S) h) else none) ∧
  (∀ (l0 l1 l2 l3 l4 l5 l6 l7 l8 l9 l10 : Value) (x : Int64) (y : Int64) (S : List Value) (h : zH), rn 278 80 [l0, l1, l2, l3, l4, l5, l6, l7, l8, l9, l10] (.long y :: .long x :: S) h = rn 278 81 [l0, l1, l2, l3, l4, l5, l6, l7, l8, l9, l10] (.long (x * y) :: S) h) ∧
  (∀ (l0 l1 l2 l3 l4 l5 l6 l7 l8 l9 l10 : Value) (S : List Value) (h : zH), rn 278 81 [l0, l1, l2, l3, l4, l5, l6, l7, l8, l9, l10] S h = rn 278 84 [l0, l1, l2, l3, l4, l5, l6, l7, l8, l9, l10] (.long (30) :: S) h) ∧
  (∀ (l0 l1 l2 l3 l4 l5 l6 l7 l8 l9 l10 : Value) (x : Int64) (y : Int64) (S : List Value) (h : zH), rn 278 84 [l0, l1, l2, l3, l4, l5, l6, l7, l8, l9, l10] (.long y :: .long x :: S) h = dvJ y (rn 278 85 [l0, l1, l2, l3, l4, l5, l6, l7, l8, l9, l10] (.long (x / y) :: S) h)) ∧
  (∀ (l1 l2 l3 l4 l5 l6 l7 l8 l9 l10 : Value) (x : Nat) (S : List Value) (h : zH), rn 278 85 [.ref x, l1, l2, l3, l4, l5, l6, l7, l8, l9, l10] S h = rn 278 86 [.ref x, l1, l2, l3, l4, l5, l6, l7, l8, l9, l10] (.ref x :: S) h) ∧
  (∀ (l0 l2 l3 l4 l5 l6 l7 l8 l9 l10 : Value) (x : Int32) (S : List Value) (h : zH), rn 278 86 [l0, .int x, l2, l3, l4, l5, l6, l7, l8, l9, l10] S h = rn 278 87 [l0, .int x, l2, l3, l4, l5, l6, l7, l8, l9, l10] (.int x :: S) h) ∧
  (∀ (l0 l1 l2 l3 l4 l5 l6 l7 l8 l9 l10 : Value) (S : List Value) (h : zH), rn 278 87 [l0, l1, l2, l3, l4, l5, l6, l7, l8, l9, l10] S h = rn 278 89 [l0, l1, l2, l3, l4, l5, l6, l7, l8, l9, l10] (.int (nI 26) :: S) h) ∧
  (∀ (l0 l1 l2 l4 l5 l6 l7 l8 l9 l10 : Value) (x : Int32) (S : List Value) (h : zH), rn 278 89 [l0, l1, l2, .int x, l4, l5, l6, l7, l8, l9, l10] S h = rn 278 90 [l0, l1, l2, .int x, l4, l5, l6, l7, l8, l9, l10] (.int x :: S) h) ∧
  (∀ (l0 l1 l2 l3 l4 l5 l6 l7 l8 l9 l10 : Value) (x : Int32) (y : Int32) (S : List Value) (h : zH), rn 278 90 [l0, l1, l2, l3, l4, l5, l6, l7, l8, l9, l10] (.int y :: .int x :: S) h = rn 278 91 [l0, l1, l2, l3, l4, l5, l6, l7, l8, l9, l10] (.int (x + y) :: S) h) ∧
  (∀ (l0 l1 l2 l3 l4 l5 l6 l7 l8 l9 l10 : Value) (o : Nat) (v0 : Value) (v1 : Value) (S : List Value) (h : zH), rn 278 91 [l0, l1, l2, l3, l4, l5, l6, l7, l8, l9, l10] (v1 :: v0 :: .ref o :: S) h = if zkd h o = 12 ∧ zsum S ≤ 8 then zcall (ev 226 [.ref o, v0, v1] h) (fun v h => rn 278 94 [l0, l1, l2, l3, l4, l5, l6, l7, l8, l9, l10] (zpush v S) h) else none) ∧
  (∀ (l0 l1 l2 l3 l4 l5 l6 l7 l8 l9 l10 : Value) (x : Int64) (y : Int64) (S : List Value) (h : zH), rn 278 94 [l0, l1, l2, l3, l4, l5, l6, l7, l8, l9, l10] (.long y :: .long x :: S) h = rn 278 95 [l0, l1, l2, l3, l4, l5, l6, l7, l8, l9, l10] (.long (x + y) :: S) h) ∧
  (∀ (l0 l1 l2 l3 l4 l5 l6 l7 l8 l9 l10 : Value) (x : Int64) (S : List Value) (h : zH), rn 278 95 [l0, l1, l2, l3, l4, l5, l6, l7, l8, l9, l10] (.long x :: S) h = nl l8 (rn 278 97 [l0, l1, l2, l3, l4, l5, l6, l7, l8, .long x, .float 0] S h)) ∧
  (∀ (l1 l2 l3 l4 l5 l6 l7 l8 l9 l10 : Value) (x : Nat) (S : List Value) (h : zH), rn 278 97 [.ref x, l1, l2, l3, l4, l5, l6, l7, l8, l9, l10] S h = rn 278 98 [.ref x, l1, l2, l3, l4, l5, l6, l7, l8, l9, l10] (.ref x :: S) h) ∧
  (∀ (l0 l1 l2 l3 l5 l6 l7 l8 l9 l10 : Value) (x : Int64) (S : List Value) (h : zH), rn 278 98 [l0, l1, l2, l3, .long x, l5, l6, l7, l8, l9, l10] S h = rn 278 100 [l0, l1, l2, l3, .long x, l5, l6, l7, l8, l9, l10] (.long x :: S) h) ∧
  (∀ (l0 l1 l2 l3 l4 l5 l6 l7 l8 l10 : Value) (x : Int64) (S : List Value) (h : zH), rn 278 100 [l0, l1, l2, l3, l4, l5, l6, l7, l8, .long x, l10] S h = rn 278 102 [l0, l1, l2, l3, l4, l5, l6, l7, l8, .long x, l10] (.long x :: S) h) ∧
  (∀ (l0 l1 l2 l3 l4 l5 l6 l7 l8 l9 l10 : Value) (x : Int64) (y : Int64) (S : List Value) (h : zH), rn 278 102 [l0, l1, l2, l3, l4, l5, l6, l7, l8, l9, l10] (.long y :: .long x :: S) h = rn 278 103 [l0, l1, l2, l3, l4, l5, l6, l7, l8, l9, l10] (.long (x + y) :: S) h) ∧
  (∀ (l0 l1 l2 l3 l4 l5 l6 l7 l8 l9 l10 : Value) (S : List Value) (h : zH), rn 278 103 [l0, l1, l2, l3, l4, l5, l6, l7, l8, l9, l10] S h = rn 278 104 [l0, l1, l2, l3, l4, l5, l6, l7, l8, l9, l10] (.int (nI 4) :: S) h) ∧
  (∀ (l0 l1 l2 l3 l4 l5 l6 l7 l8 l9 l10 : Value) (o : Nat) (v0 : Value) (v1 : Value) (S : List Value) (h : zH), rn 278 104 [l0, l1, l2, l3, l4, l5, l6, l7, l8, l9, l10] (v1 :: v0 :: .ref o :: S) h = if zkd h o = 12 ∧ zsum S ≤ 8 then zcall (ev 240 [.ref o, v0, v1] h) (fun v h => rn 278 107 [l0, l1, l2, l3, l4, l5, l6, l7, l8, l9, l10] (zpush v S) h) else none) ∧
  (∀ (l0 l1 l2 l3 l4 l5 l7 l8 l9 l10 : Value) (x : Int64) (S : List Value) (h : zH), rn 278 107 [l0, l1, l2, l3, l4, l5, .long x, l7, l8, l9, l10] S h = rn 278 109 [l0, l1, l2, l3, l4, l5, .long x, l7, l8, l9, l10] (.long x :: S) h) ∧
  (∀ (l0 l1 l2 l3 l4 l5 l6 l7 l8 l9 l10 : Value) (x : Int64) (y : Int64) (S : List Value) (h : zH), rn 278 109 [l0, l1, l2, l3, l4, l5, l6, l7, l8, l9, l10] (.long y :: .long x :: S) h = rn 278 110 [l0, l1, l2, l3, l4, l5, l6, l7, l8, l9, l10] (.int (lg_cmp x y) :: S) h) ∧
  (∀ (l0 l1 l2 l3 l4 l5 l6 l7 l8 l9 l10 : Value) (x : Int32) (S : List Value) (h : zH), rn 278 110 [l0, l1, l2, l3, l4, l5, l6, l7, l8, l9, l10] (.int x :: S) h = if x < nI 0 then rn 278 116 [l0, l1, l2, l3, l4, l5, l6, l7, l8, l9, l10] S h else rn 278 113 [l0, l1, l2, l3, l4, l5, l6, l7, l8, l9, l10] S h) ∧
  (∀ (l0 l1 l2 l3 l4 l5 l6 l7 l9 l10 : Value) (x : Int32) (S : List Value) (h : zH), rn 278 113 [l0, l1, l2, l3, l4, l5, l6, l7, .int x, l9, l10] S h = rn 278 115 [l0, l1, l2, l3, l4, l5, l6, l7, .int x, l9, l10] (.int x :: S) h) ∧
  (∀ (l0 l1 l2 l3 l4 l5 l6 l7 l8 l9 l10 : Value) (x : Int32) (h : zH), rn 278 115 [l0, l1, l2, l3, l4, l5, l6, l7, l8, l9, l10] [.int x] h = some (some (.int x), h)) ∧
  (∀ (l0 l1 l2 l3 l4 l5 l6 l7 l9 l10 : Value) (x : Int32) (S : List Value) (h : zH), rn 278 116 [l0, l1, l2, l3, l4, l5, l6, l7, .int x, l9, l10] S h = nl l7 (rn 278 119 [l0, l1, l2, l3, l4, l5, l6, l7, .int (x + (nI 1)), l9, l10] S h)) ∧
  (∀ (l0 l1 l2 l3 l4 l5 l6 l7 l8 l9 l10 : Value) (S : List Value) (h : zH), rn 278 119 [l0, l1, l2, l3, l4, l5, l6, l7, l8, l9, l10] S h = rn 278 60 [l0, l1, l2, l3, l4, l5, l6, l7, l8, l9, l10] S h) ∧
  (∀ (l0 l1 l2 l3 l4 l5 l6 l7 l8 l9 l10 : Value) (S : List Value) (h : zH), rn 278 122 [l0, l1, l2, l3, l4, l5, l6, l7, l8, l9, l10] S h = rn 278 124 [l0, l1, l2, l3, l4, l5, l6, l7, l8, l9, l10] (.int (-2) :: S) h) ∧
  (∀ (l0 l1 l2 l3 l4 l5 l6 l7 l8 l9 l10 : Value) (x : Int32) (h : zH), rn 278 124 [l0, l1, l2, l3, l4, l5, l6, l7, l8, l9, l10] [.int x] h = some (some (.int x), h)) := ⟨fun _ _ _ _ _ _ _ _ _ _ _ _ _ => r_iload_n (show zdec 278 0 = some (.iload_n 1, 1) by decide +kernel) rfl rfl,
  fun _ _ _ _ _ _ _ _ _ _ _ _ _ _ => r_cS [_] rfl (show zdec 278 1 = some (.invokestatic 71, 3) by decide +kernel) (show zst.lookup (278 * zKEY + 71) = some (0, 210, 1, 0) by decide +kernel) (by decide) rfl,
  fun _ _ _ _ _ _ _ _ _ _ _ _ _ _ => r_ifeq (show zdec 278 4 = some (.ifCond .eq 13, 3) by decide +kernel) rfl rfl,
  fun _ _ _ _ _ _ _ _ _ _ _ _ _ => r_iload_n (show zdec 278 7 = some (.iload_n 2, 1) by decide +kernel) rfl rfl,
  fun _ _ _ _ _ _ _ _ _ _ _ _ _ => r_iconst (show zdec 278 8 = some (.iconst 0, 1) by decide +kernel) rfl rfl,
  fun _ _ _ _ _ _ _ _ _ _ _ _ _ => r_ldcI (show zdec 278 9 = some (.ldc 84, 2) by decide +kernel) (show zkt.lookup (278 * zKEY + 84) = some 99999 by decide +kernel) rfl,
  fun _ _ _ _ _ _ _ _ _ _ _ _ _ _ _ _ => r_cS [_, _, _] rfl (show zdec 278 11 = some (.invokestatic 45, 3) by decide +kernel) (show zst.lookup (278 * zKEY + 45) = some (0, 211, 3, 0) by decide +kernel) (by decide) rfl,
  fun _ _ _ _ _ _ _ _ _ _ _ _ _ _ => r_ifne (show zdec 278 14 = some (.ifCond .ne 5, 3) by decide +kernel) rfl rfl,
  fun _ _ _ _ _ _ _ _ _ _ _ _ _ => r_iconst (show zdec 278 17 = some (.iconst (-1), 1) by decide +kernel) rfl rfl,
  fun _ _ _ _ _ _ _ _ _ _ _ _ _ => r_ireti (show zdec 278 18 = some (.ireturn, 1) by decide +kernel) (by decide +kernel),
  fun _ _ _ _ _ _ _ _ _ _ _ _ _ => r_aload_nr (show zdec 278 19 = some (.aload_n 0, 1) by decide +kernel) rfl rfl,
  fun _ _ _ _ _ _ _ _ _ _ _ _ _ _ => r_cV [] rfl (show zdec 278 20 = some (.invokevirtual 164, 3) by decide +kernel) (show zst.lookup (278 * zKEY + 164) = some (1, 233, 0, 12) by decide +kernel) (by decide) rfl,
  fun _ _ _ _ _ _ _ _ _ _ _ _ _ _ => r_istore_n (show zdec 278 23 = some (.istore_n 3, 1) by decide +kernel) rfl rfl (Nat.le_of_ble_eq_true rfl) rfl rfl,
  fun _ _ _ _ _ _ _ _ _ _ _ _ _ => r_iload_n (show zdec 278 24 = some (.iload_n 3, 1) by decide +kernel) rfl rfl,
  fun _ _ _ _ _ _ _ _ _ _ _ _ _ => r_bipush (show zdec 278 25 = some (.bipush 12, 2) by decide +kernel) rfl rfl,
  fun _ _ _ _ _ _ _ _ _ _ _ _ _ _ _ => r_icmpne (show zdec 278 27 = some (.if_icmp .ne 6, 3) by decide +kernel) rfl rfl,
  fun _ _ _ _ _ _ _ _ _ _ _ _ _ => r_bipush (show zdec 278 30 = some (.bipush (-2), 2) by decide +kernel) rfl rfl,
  fun _ _ _ _ _ _ _ _ _ _ _ _ _ => r_ireti (show zdec 278 32 = some (.ireturn, 1) by decide +kernel) (by decide +kernel),
  fun _ _ _ _ _ _ _ _ _ _ _ _ _ => r_aload_nr (show zdec 278 33 = some (.aload_n 0, 1) by decide +kernel) rfl rfl,
  fun _ _ _ _ _ _ _ _ _ _ _ _ _ => r_iload_n (show zdec 278 34 = some (.iload_n 1, 1) by decide +kernel) rfl rfl,
  fun _ _ _ _ _ _ _ _ _ _ _ _ _ => r_iload_n (show zdec 278 35 = some (.iload_n 3, 1) by decide +kernel) rfl rfl,
  fun _ _ _ _ _ _ _ _ _ _ _ _ _ _ _ _ => r_cV [_, _] rfl (show zdec 278 36 = some (.invokevirtual 125, 3) by decide +kernel) (show zst.lookup (278 * zKEY + 125) = some (1, 238, 2, 12) by decide +kernel) (by decide) rfl,
  fun _ _ _ _ _ _ _ _ _ _ _ _ _ _ => r_lstore (show zdec 278 39 = some (.lstore 4, 2) by decide +kernel) rfl (Nat.le_of_ble_eq_true rfl) rfl rfl,
  fun _ _ _ _ _ _ _ _ _ _ _ _ _ => r_aload_nr (show zdec 278 41 = some (.aload_n 0, 1) by decide +kernel) rfl rfl,
  fun _ _ _ _ _ _ _ _ _ _ _ _ _ => r_lload (show zdec 278 42 = some (.lload 4, 2) by decide +kernel) rfl rfl,
  fun _ _ _ _ _ _ _ _ _ _ _ _ _ => r_iconst (show zdec 278 44 = some (.iconst 4, 1) by decide +kernel) rfl rfl,
  fun _ _ _ _ _ _ _ _ _ _ _ _ _ _ _ _ => r_cV [_, _] rfl (show zdec 278 45 = some (.invokevirtual 128, 3) by decide +kernel) (show zst.lookup (278 * zKEY + 128) = some (1, 240, 2, 12) by decide +kernel) (by decide) rfl,
  fun _ _ _ _ _ _ _ _ _ _ _ _ _ => r_iload_n (show zdec 278 48 = some (.iload_n 2, 1) by decide +kernel) rfl rfl,
  fun _ _ _ _ _ _ _ _ _ _ _ _ _ _ => r_i2l (show zdec 278 49 = some (.i2l, 1) by decide +kernel) rfl,
  fun _ _ _ _ _ _ _ _ _ _ _ _ _ => r_ldc2 (show zdec 278 50 = some (.ldc2_w 89, 3) by decide +kernel) (show zlt.lookup (278 * zKEY + 89) = some 1000000 by decide +kernel) rfl,
  fun _ _ _ _ _ _ _ _ _ _ _ _ _ _ _ => r_lmul (show zdec 278 53 = some (.lmul, 1) by decide +kernel) rfl,
  fun _ _ _ _ _ _ _ _ _ _ _ _ _ _ _ => r_ladd (show zdec 278 54 = some (.ladd, 1) by decide +kernel) rfl,
  fun _ _ _ _ _ _ _ _ _ _ _ _ _ _ => r_lstore (show zdec 278 55 = some (.lstore 6, 2) by decide +kernel) rfl (Nat.le_of_ble_eq_true rfl) rfl rfl,
  fun _ _ _ _ _ _ _ _ _ _ _ _ _ => r_iconst (show zdec 278 57 = some (.iconst 0, 1) by decide +kernel) rfl rfl,
  fun _ _ _ _ _ _ _ _ _ _ _ _ _ _ => r_istore (show zdec 278 58 = some (.istore 8, 2) by decide +kernel) rfl (Nat.le_of_ble_eq_true rfl) rfl rfl,
  fun _ _ _ _ _ _ _ _ _ _ _ _ _ => r_sipush (show zdec 278 62 = some (.sipush 10000, 3) by decide +kernel) rfl rfl,
  fun _ _ _ _ _ _ _ _ _ _ _ _ _ _ _ => r_icmpge (show zdec 278 65 = some (.if_icmp .ge 57, 3) by decide +kernel) rfl rfl,
  fun _ _ _ _ _ _ _ _ _ _ _ _ _ => r_iload (show zdec 278 68 = some (.iload 8, 2) by decide +kernel) rfl rfl,
  fun _ _ _ _ _ _ _ _ _ _ _ _ _ _ => r_i2l (show zdec 278 70 = some (.i2l, 1) by decide +kernel) rfl,
  fun _ _ _ _ _ _ _ _ _ _ _ _ _ => r_aload_nr (show zdec 278 71 = some (.aload_n 0, 1) by decide +kernel) rfl rfl,
  fun _ _ _ _ _ _ _ _ _ _ _ _ _ => r_iload_n (show zdec 278 72 = some (.iload_n 1, 1) by decide +kernel) rfl rfl,
  fun _ _ _ _ _ _ _ _ _ _ _ _ _ => r_bipush (show zdec 278 73 = some (.bipush 14, 2) by decide +kernel) rfl rfl,
  fun _ _ _ _ _ _ _ _ _ _ _ _ _ => r_iload_n (show zdec 278 75 = some (.iload_n 3, 1) by decide +kernel) rfl rfl,
  fun _ _ _ _ _ _ _ _ _ _ _ _ _ _ _ => r_iadd (show zdec 278 76 = some (.iadd, 1) by decide +kernel) rfl,
  fun _ _ _ _ _ _ _ _ _ _ _ _ _ _ _ _ => r_cV [_, _] rfl (show zdec 278 77 = some (.invokevirtual 85, 3) by decide +kernel) (show zst.lookup (278 * zKEY + 85) = some (1, 226, 2, 12) by decide +kernel) (by decide) rfl,
  fun _ _ _ _ _ _ _ _ _ _ _ _ _ _ _ => r_lmul (show zdec 278 80 = some (.lmul, 1) by decide +kernel) rfl,
  fun _ _ _ _ _ _ _ _ _ _ _ _ _ => r_ldc2 (show zdec 278 81 = some (.ldc2_w 43, 3) by decide +kernel) (show zlt.lookup (278 * zKEY + 43) = some 30 by decide +kernel) rfl,
  fun _ _ _ _ _ _ _ _ _ _ _ _ _ _ _ => r_ldiv (show zdec 278 84 = some (.ldiv, 1) by decide +kernel) rfl,
  fun _ _ _ _ _ _ _ _ _ _ _ _ _ => r_aload_nr (show zdec 278 85 = some (.aload_n 0, 1) by decide +kernel) rfl rfl,
  fun _ _ _ _ _ _ _ _ _ _ _ _ _ => r_iload_n (show zdec 278 86 = some (.iload_n 1, 1) by decide +kernel) rfl rfl,
  fun _ _ _ _ _ _ _ _ _ _ _ _ _ => r_bipush (show zdec 278 87 = some (.bipush 26, 2) by decide +kernel) rfl rfl,
  fun _ _ _ _ _ _ _ _ _ _ _ _ _ => r_iload_n (show zdec 278 89 = some (.iload_n 3, 1) by decide +kernel) rfl rfl,
  fun _ _ _ _ _ _ _ _ _ _ _ _ _ _ _ => r_iadd (show zdec 278 90 = some (.iadd, 1) by decide +kernel) rfl,
  fun _ _ _ _ _ _ _ _ _ _ _ _ _ _ _ _ => r_cV [_, _] rfl (show zdec 278 91 = some (.invokevirtual 85, 3) by decide +kernel) (show zst.lookup (278 * zKEY + 85) = some (1, 226, 2, 12) by decide +kernel) (by decide) rfl,
  fun _ _ _ _ _ _ _ _ _ _ _ _ _ _ _ => r_ladd (show zdec 278 94 = some (.ladd, 1) by decide +kernel) rfl,
  fun _ _ _ _ _ _ _ _ _ _ _ _ _ _ => r_lstore (show zdec 278 95 = some (.lstore 9, 2) by decide +kernel) rfl (Nat.le_of_ble_eq_true rfl) rfl rfl,
  fun _ _ _ _ _ _ _ _ _ _ _ _ _ => r_aload_nr (show zdec 278 97 = some (.aload_n 0, 1) by decide +kernel) rfl rfl,
  fun _ _ _ _ _ _ _ _ _ _ _ _ _ => r_lload (show zdec 278 98 = some (.lload 4, 2) by decide +kernel) rfl rfl,
  fun _ _ _ _ _ _ _ _ _ _ _ _ _ => r_lload (show zdec 278 100 = some (.lload 9, 2) by decide +kernel) rfl rfl,
  fun _ _ _ _ _ _ _ _ _ _ _ _ _ _ _ => r_ladd (show zdec 278 102 = some (.ladd, 1) by decide +kernel) rfl,
  fun _ _ _ _ _ _ _ _ _ _ _ _ _ => r_iconst (show zdec 278 103 = some (.iconst 4, 1) by decide +kernel) rfl rfl,
  fun _ _ _ _ _ _ _ _ _ _ _ _ _ _ _ _ => r_cV [_, _] rfl (show zdec 278 104 = some (.invokevirtual 128, 3) by decide +kernel) (show zst.lookup (278 * zKEY + 128) = some (1, 240, 2, 12) by decide +kernel) (by decide) rfl,
  fun _ _ _ _ _ _ _ _ _ _ _ _ _ => r_lload (show zdec 278 107 = some (.lload 6, 2) by decide +kernel) rfl rfl,
  fun _ _ _ _ _ _ _ _ _ _ _ _ _ _ _ => r_lcmp (show zdec 278 109 = some (.lcmp, 1) by decide +kernel) rfl,
  fun _ _ _ _ _ _ _ _ _ _ _ _ _ _ => r_iflt (show zdec 278 110 = some (.ifCond .lt 6, 3) by decide +kernel) rfl rfl,
  fun _ _ _ _ _ _ _ _ _ _ _ _ _ => r_iload (show zdec 278 113 = some (.iload 8, 2) by decide +kernel) rfl rfl,
  fun _ _ _ _ _ _ _ _ _ _ _ _ _ => r_ireti (show zdec 278 115 = some (.ireturn, 1) by decide +kernel) (by decide +kernel),
  fun _ _ _ _ _ _ _ _ _ _ _ _ _ => r_iinc (show zdec 278 116 = some (.iinc 8 1, 3) by decide +kernel) rfl rfl rfl (Nat.le_of_ble_eq_true rfl) rfl rfl,
  fun _ _ _ _ _ _ _ _ _ _ _ _ _ => r_goto (show zdec 278 119 = some (.goto (-59), 3) by decide +kernel) rfl,
  fun _ _ _ _ _ _ _ _ _ _ _ _ _ => r_bipush (show zdec 278 122 = some (.bipush (-2), 2) by decide +kernel) rfl rfl,
  fun _ _ _ _ _ _ _ _ _ _ _ _ _ => r_ireti (show zdec 278 124 = some (.ireturn, 1) by decide +kernel) (by decide +kernel)⟩
theorem zl_278_60 : ∀ (l0 l1 l2 l3 l4 l5 l6 l7 l9 l10 : Value) (x : Int32) (S : List Value) (h : zH), rn 278 60 [l0, l1, l2, l3, l4, l5, l6, l7, .int x, l9, l10] S h = rn 278 62 [l0, l1, l2, l3, l4, l5, l6, l7, .int x, l9, l10] (.int x :: S) h := fun _ _ _ _ _ _ _ _ _ _ _ _ _ => r_iload (show zdec 278 60 = some (.iload 8, 2) by decide +kernel) rfl rfl
theorem ze_278 : ∀ (a0 : Nat) (a1 : Int32) (a2 : Int32) (h : zH), ev 278 [.ref a0, .int a1, .int a2] h = rn 278 0 [.ref a0, .int a1, .int a2, .float 0, .float 0, .float 0, .float 0, .float 0, .float 0, .float 0, .float 0] [] h := fun _ _ _ _ => if_pos (Nat.le_of_ble_eq_true rfl)
-- PayrollRunModel.projected(I)J
theorem zr_279 : (∀ (l0 l2 l3 : Value) (x : Int32) (S : List Value) (h : zH), rn 279 0 [l0, .int x, l2, l3] S h = rn 279 1 [l0, .int x, l2, l3] (.int x :: S) h) ∧
  (∀ (l0 l1 l2 l3 : Value) (v0 : Value) (S : List Value) (h : zH), rn 279 1 [l0, l1, l2, l3] (v0 :: S) h = if zsum S ≤ 8 then zcall (ev 210 [v0] h) (fun v h => rn 279 4 [l0, l1, l2, l3] (zpush v S) h) else none) ∧
  (∀ (l0 l1 l2 l3 : Value) (x : Int32) (S : List Value) (h : zH), rn 279 4 [l0, l1, l2, l3] (.int x :: S) h = if x = nI 0 then rn 279 7 [l0, l1, l2, l3] S h else rn 279 11 [l0, l1, l2, l3] S h) ∧
  (∀ (l0 l1 l2 l3 : Value) (S : List Value) (h : zH), rn 279 7 [l0, l1, l2, l3] S h = rn 279 10 [l0, l1, l2, l3] (.long (-1) :: S) h) ∧
  (∀ (l0 l1 l2 l3 : Value) (x : Int64) (h : zH), rn 279 10 [l0, l1, l2, l3] [.long x] h = some (some (.long x), h)) ∧
  (∀ (l1 l2 l3 : Value) (x : Nat) (S : List Value) (h : zH), rn 279 11 [.ref x, l1, l2, l3] S h = rn 279 12 [.ref x, l1, l2, l3] (.ref x :: S) h) ∧
  (∀ (l0 l1 l2 l3 : Value) (o : Nat) (S : List Value) (h : zH), rn 279 12 [l0, l1, l2, l3] (.ref o :: S) h = if zkd h o = 12 ∧ zsum S ≤ 8 then zcall (ev 275 [.ref o] h) (fun v h => rn 279 15 [l0, l1, l2, l3] (zpush v S) h) else none) ∧
  (∀ (l0 l1 l2 l3 : Value) (o : Nat) (S : List Value) (h : zH), rn 279 16 [l0, l1, l2, l3] (.ref o :: S) h = if zkd h o = 12 ∧ zsum S ≤ 8 then zcall (ev 233 [.ref o] h) (fun v h => rn 279 19 [l0, l1, l2, l3] (zpush v S) h) else none) ∧
  (∀ (l0 l1 l2 l3 : Value) (S : List Value) (h : zH), rn 279 19 [l0, l1, l2, l3] S h = rn 279 21 [l0, l1, l2, l3] (.int (nI 12) :: S) h) ∧
  (∀ (l0 l1 l2 l3 : Value) (x : Int32) (y : Int32) (S : List Value) (h : zH), rn 279 21 [l0, l1, l2, l3] (.int y :: .int x :: S) h = if y ≤ x then rn 279 32 [l0, l1, l2, l3] S h else rn 279 24 [l0, l1, l2, l3] S h) ∧
  (∀ (l1 l2 l3 : Value) (x : Nat) (S : List Value) (h : zH), rn 279 24 [.ref x, l1, l2, l3] S h = rn 279 25 [.ref x, l1, l2, l3] (.ref x :: S) h) ∧
  (∀ (l0 l1 l2 l3 : Value) (o : Nat) (S : List Value) (h : zH), rn 279 25 [l0, l1, l2, l3] (.ref o :: S) h = if zkd h o = 12 ∧ zsum S ≤ 8 then zcall (ev 234 [.ref o] h) (fun v h => rn 279 28 [l0, l1, l2, l3] (zpush v S) h) else none) ∧
  (∀ (l0 l1 l2 l3 : Value) (x : Int32) (S : List Value) (h : zH), rn 279 28 [l0, l1, l2, l3] (.int x :: S) h = nl l1 (rn 279 29 [l0, l1, .int x, l3] S h)) ∧
  (∀ (l0 l1 l2 l3 : Value) (S : List Value) (h : zH), rn 279 29 [l0, l1, l2, l3] S h = rn 279 15 [l0, l1, l2, l3] S h) ∧
  (∀ (l1 l2 l3 : Value) (x : Nat) (S : List Value) (h : zH), rn 279 32 [.ref x, l1, l2, l3] S h = rn 279 33 [.ref x, l1, l2, l3] (.ref x :: S) h) ∧
  (∀ (l0 l2 l3 : Value) (x : Int32) (S : List Value) (h : zH), rn 279 33 [l0, .int x, l2, l3] S h = rn 279 34 [l0, .int x, l2, l3] (.int x :: S) h) ∧
  (∀ (l0 l1 l2 l3 : Value) (o : Nat) (v0 : Value) (S : List Value) (h : zH), rn 279 34 [l0, l1, l2, l3] (v0 :: .ref o :: S) h = if zkd h o = 12 ∧ zsum S ≤ 8 then zcall (ev 280 [.ref o, v0] h) (fun v h => rn 279 37 [l0, l1, l2, l3] (zpush v S) h) else none) ∧
  (∀ (l0 l1 l2 l3 : Value) (x : Int64) (S : List Value) (h : zH), rn 279 37 [l0, l1, l2, l3] (.long x :: S) h = nl l1 (rn 279 38 [l0, l1, .long x, .float 0] S h)) ∧
  (∀ (l1 l2 l3 : Value) (x : Nat) (S : List Value) (h : zH), rn 279 38 [.ref x, l1, l2, l3] S h = rn 279 39 [.ref x, l1, l2, l3] (.ref x :: S) h) ∧
  (∀ (l0 l1 l2 l3 : Value) (o : Nat) (S : List Value) (h : zH), rn 279 39 [l0, l1, l2, l3] (.ref o :: S) h = if zkd h o = 12 ∧ zsum S ≤ 8 then zcall (ev 276 [.ref o] h) (fun v h => rn 279 42 [l0, l1, l2, l3] (zpush v S) h) else none) ∧
  (∀ (l0 l1 l3 : Value) (x : Int64) (S : List Value) (h : zH), rn 279 42 [l0, l1, .long x, l3] S h = rn 279 43 [l0, l1, .long x, l3] (.long x :: S) h) ∧
  (∀ (l0 l1 l2 l3 : Value) (x : Int64) (h : zH), rn 279 43 [l0, l1, l2, l3] [.long x] h = some (some (.long x), h)) := ⟨fun _ _ _ _ _ _ => r_iload_n (show zdec 279 0 = some (.iload_n 1, 1) by decide +kernel) rfl rfl,
  fun _ _ _ _ _ _ _ => r_cS [_] rfl (show zdec 279 1 = some (.invokestatic 71, 3) by decide +kernel) (show zst.lookup (279 * zKEY + 71) = some (0, 210, 1, 0) by decide +kernel) (by decide) rfl,
  fun _ _ _ _ _ _ _ => r_ifne (show zdec 279 4 = some (.ifCond .ne 7, 3) by decide +kernel) rfl rfl,
  fun _ _ _ _ _ _ => r_ldc2 (show zdec 279 7 = some (.ldc2_w 174, 3) by decide +kernel) (show zlt.lookup (279 * zKEY + 174) = some (-1) by decide +kernel) rfl,
  fun _ _ _ _ _ _ => r_lret (show zdec 279 10 = some (.lreturn, 1) by decide +kernel) (by decide +kernel),
  fun _ _ _ _ _ _ => r_aload_nr (show zdec 279 11 = some (.aload_n 0, 1) by decide +kernel) rfl rfl,
  fun _ _ _ _ _ _ _ => r_cV [] rfl (show zdec 279 12 = some (.invokevirtual 241, 3) by decide +kernel) (show zst.lookup (279 * zKEY + 241) = some (1, 275, 0, 12) by decide +kernel) (by decide) rfl,
  fun _ _ _ _ _ _ _ => r_cV [] rfl (show zdec 279 16 = some (.invokevirtual 164, 3) by decide +kernel) (show zst.lookup (279 * zKEY + 164) = some (1, 233, 0, 12) by decide +kernel) (by decide) rfl,
  fun _ _ _ _ _ _ => r_bipush (show zdec 279 19 = some (.bipush 12, 2) by decide +kernel) rfl rfl,
  fun _ _ _ _ _ _ _ _ => r_icmpge (show zdec 279 21 = some (.if_icmp .ge 11, 3) by decide +kernel) rfl rfl,
  fun _ _ _ _ _ _ => r_aload_nr (show zdec 279 24 = some (.aload_n 0, 1) by decide +kernel) rfl rfl,
  fun _ _ _ _ _ _ _ => r_cV [] rfl (show zdec 279 25 = some (.invokevirtual 171, 3) by decide +kernel) (show zst.lookup (279 * zKEY + 171) = some (1, 234, 0, 12) by decide +kernel) (by decide) rfl,
  fun _ _ _ _ _ _ _ => r_istore_n (show zdec 279 28 = some (.istore_n 2, 1) by decide +kernel) rfl rfl (Nat.le_of_ble_eq_true rfl) rfl rfl,
  fun _ _ _ _ _ _ => r_goto (show zdec 279 29 = some (.goto (-14), 3) by decide +kernel) rfl,
  fun _ _ _ _ _ _ => r_aload_nr (show zdec 279 32 = some (.aload_n 0, 1) by decide +kernel) rfl rfl,
  fun _ _ _ _ _ _ => r_iload_n (show zdec 279 33 = some (.iload_n 1, 1) by decide +kernel) rfl rfl,
  fun _ _ _ _ _ _ _ _ => r_cV [_] rfl (show zdec 279 34 = some (.invokevirtual 252, 3) by decide +kernel) (show zst.lookup (279 * zKEY + 252) = some (1, 280, 1, 12) by decide +kernel) (by decide) rfl,
  fun _ _ _ _ _ _ _ => r_lstore_n (show zdec 279 37 = some (.lstore_n 2, 1) by decide +kernel) rfl rfl (Nat.le_of_ble_eq_true rfl) rfl rfl,
  fun _ _ _ _ _ _ => r_aload_nr (show zdec 279 38 = some (.aload_n 0, 1) by decide +kernel) rfl rfl,
  fun _ _ _ _ _ _ _ => r_cV [] rfl (show zdec 279 39 = some (.invokevirtual 244, 3) by decide +kernel) (show zst.lookup (279 * zKEY + 244) = some (1, 276, 0, 12) by decide +kernel) (by decide) rfl,
  fun _ _ _ _ _ _ => r_lload_n (show zdec 279 42 = some (.lload_n 2, 1) by decide +kernel) rfl rfl,
  fun _ _ _ _ _ _ => r_lret (show zdec 279 43 = some (.lreturn, 1) by decide +kernel) (by decide +kernel)⟩
theorem zl_279_15 : ∀ (l1 l2 l3 : Value) (x : Nat) (S : List Value) (h : zH), rn 279 15 [.ref x, l1, l2, l3] S h = rn 279 16 [.ref x, l1, l2, l3] (.ref x :: S) h := fun _ _ _ _ _ _ => r_aload_nr (show zdec 279 15 = some (.aload_n 0, 1) by decide +kernel) rfl rfl
theorem ze_279 : ∀ (a0 : Nat) (a1 : Int32) (h : zH), ev 279 [.ref a0, .int a1] h = rn 279 0 [.ref a0, .int a1, .float 0, .float 0] [] h := fun _ _ _ => if_pos (Nat.le_of_ble_eq_true rfl)
-- PayrollRunModel.payouts(I)J
theorem zr_280 : (∀ (l0 l1 l2 l3 l4 : Value) (S : List Value) (h : zH), rn 280 0 [l0, l1, l2, l3, l4] S h = rn 280 1 [l0, l1, l2, l3, l4] (.long 0 :: S) h) ∧
  (∀ (l0 l1 l2 l3 l4 : Value) (x : Int64) (S : List Value) (h : zH), rn 280 1 [l0, l1, l2, l3, l4] (.long x :: S) h = nl l1 (rn 280 2 [l0, l1, .long x, .float 0, l4] S h)) ∧
  (∀ (l0 l1 l2 l3 l4 : Value) (S : List Value) (h : zH), rn 280 2 [l0, l1, l2, l3, l4] S h = rn 280 3 [l0, l1, l2, l3, l4] (.int (nI 0) :: S) h) ∧
  (∀ (l0 l1 l2 l3 l4 : Value) (x : Int32) (S : List Value) (h : zH), rn 280 3 [l0, l1, l2, l3, l4] (.int x :: S) h = nl l3 (rn 280 5 [l0, l1, l2, l3, .int x] S h)) ∧
  (∀ (l1 l2 l3 l4 : Value) (x : Nat) (S : List Value) (h : zH), rn 280 7 [.ref x, l1, l2, l3, l4] S h = rn 280 8 [.ref x, l1, l2, l3, l4] (.ref x :: S) h) ∧
  (∀ (l0 l1 l2 l3 l4 : Value) (o : Nat) (S : List Value) (h : zH), rn 280 8 [l0, l1, l2, l3, l4] (.ref o :: S) h = if zkd h o = 12 ∧ zsum S ≤ 8 then zcall (ev 233 [.ref o] h) (fun v h => rn 280 11 [l0, l1, l2, l3, l4] (zpush v S) h) else none) ∧
  (∀ (l0 l1 l2 l3 l4 : Value) (x : Int32) (y : Int32) (S : List Value) (h : zH), rn 280 11 [l0, l1, l2, l3, l4] (.int y :: .int x :: S) h = if y ≤ x then rn 280 30 [l0, l1, l2, l3, l4] S h else rn 280 14 [l0, l1, l2, l3, l4] S h) ∧
  (∀ (l0 l1 l3 l4 : Value) (x : Int64) (S : List Value) (h : zH), rn 280 14 [l0, l1, .long x, l3, l4] S h = rn 280 15 [l0, l1, .long x, l3, l4] (.long x :: S) h) ∧
  (∀ (l1 l2 l3 l4 : Value) (x : Nat) (S : List Value) (h : zH), rn 280 15 [.ref x, l1, l2, l3, l4] S h = rn 280 16 [.ref x, l1, l2, l3, l4] (.ref x :: S) h) ∧
  (∀ (l0 l2 l3 l4 : Value) (x : Int32) (S : List Value) (h : zH), rn 280 16 [l0, .int x, l2, l3, l4] S h = rn 280 17 [l0, .int x, l2, l3, l4] (.int x :: S) h) ∧
  (∀ (l0 l1 l2 l3 : Value) (x : Int32) (S : List Value) (h : zH), rn 280 17 [l0, l1, l2, l3, .int x] S h = rn 280 19 [l0, l1, l2, l3, .int x] (.int x :: S) h) ∧
  (∀ (l0 l1 l2 l3 l4 : Value) (o : Nat) (v0 : Value) (v1 : Value) (S : List Value) (h : zH), rn 280 19 [l0, l1, l2, l3, l4] (v1 :: v0 :: .ref o :: S) h = if zkd h o = 12 ∧ zsum S ≤ 8 then zcall (ev 272 [.ref o, v0, v1] h) (fun v h => rn 280 22 [l0, l1, l2, l3, l4] (zpush v S) h) else none) ∧
  (∀ (l0 l1 l2 l3 l4 : Value) (x : Int64) (y : Int64) (S : List Value) (h : zH), rn 280 22 [l0, l1, l2, l3, l4] (.long y :: .long x :: S) h = rn 280 23 [l0, l1, l2, l3, l4] (.long (x + y) :: S) h) ∧
  (∀ (l0 l1 l2 l3 l4 : Value) (x : Int64) (S : List Value) (h : zH), rn 280 23 [l0, l1, l2, l3, l4] (.long x :: S) h = nl l1 (rn 280 24 [l0, l1, .long x, .float 0, l4] S h)) ∧
  (∀ (l0 l1 l2 l3 : Value) (x : Int32) (S : List Value) (h : zH), rn 280 24 [l0, l1, l2, l3, .int x] S h = nl l3 (rn 280 27 [l0, l1, l2, l3, .int (x + (nI 1))] S h)) ∧
  (∀ (l0 l1 l2 l3 l4 : Value) (S : List Value) (h : zH), rn 280 27 [l0, l1, l2, l3, l4] S h = rn 280 5 [l0, l1, l2, l3, l4] S h) ∧
  (∀ (l0 l1 l3 l4 : Value) (x : Int64) (S : List Value) (h : zH), rn 280 30 [l0, l1, .long x, l3, l4] S h = rn 280 31 [l0, l1, .long x, l3, l4] (.long x :: S) h) ∧
  (∀ (l0 l1 l2 l3 l4 : Value) (x : Int64) (h : zH), rn 280 31 [l0, l1, l2, l3, l4] [.long x] h = some (some (.long x), h)) := ⟨fun _ _ _ _ _ _ _ => r_lconst (show zdec 280 0 = some (.lconst 0, 1) by decide +kernel) rfl rfl,
  fun _ _ _ _ _ _ _ _ => r_lstore_n (show zdec 280 1 = some (.lstore_n 2, 1) by decide +kernel) rfl rfl (Nat.le_of_ble_eq_true rfl) rfl rfl,
  fun _ _ _ _ _ _ _ => r_iconst (show zdec 280 2 = some (.iconst 0, 1) by decide +kernel) rfl rfl,
  fun _ _ _ _ _ _ _ _ => r_istore (show zdec 280 3 = some (.istore 4, 2) by decide +kernel) rfl (Nat.le_of_ble_eq_true rfl) rfl rfl,
  fun _ _ _ _ _ _ _ => r_aload_nr (show zdec 280 7 = some (.aload_n 0, 1) by decide +kernel) rfl rfl,
  fun _ _ _ _ _ _ _ _ => r_cV [] rfl (show zdec 280 8 = some (.invokevirtual 164, 3) by decide +kernel) (show zst.lookup (280 * zKEY + 164) = some (1, 233, 0, 12) by decide +kernel) (by decide) rfl,
  fun _ _ _ _ _ _ _ _ _ => r_icmpge (show zdec 280 11 = some (.if_icmp .ge 19, 3) by decide +kernel) rfl rfl,
  fun _ _ _ _ _ _ _ => r_lload_n (show zdec 280 14 = some (.lload_n 2, 1) by decide +kernel) rfl rfl,
  fun _ _ _ _ _ _ _ => r_aload_nr (show zdec 280 15 = some (.aload_n 0, 1) by decide +kernel) rfl rfl,
  fun _ _ _ _ _ _ _ => r_iload_n (show zdec 280 16 = some (.iload_n 1, 1) by decide +kernel) rfl rfl,
  fun _ _ _ _ _ _ _ => r_iload (show zdec 280 17 = some (.iload 4, 2) by decide +kernel) rfl rfl,
  fun _ _ _ _ _ _ _ _ _ _ => r_cV [_, _] rfl (show zdec 280 19 = some (.invokevirtual 238, 3) by decide +kernel) (show zst.lookup (280 * zKEY + 238) = some (1, 272, 2, 12) by decide +kernel) (by decide) rfl,
  fun _ _ _ _ _ _ _ _ _ => r_ladd (show zdec 280 22 = some (.ladd, 1) by decide +kernel) rfl,
  fun _ _ _ _ _ _ _ _ => r_lstore_n (show zdec 280 23 = some (.lstore_n 2, 1) by decide +kernel) rfl rfl (Nat.le_of_ble_eq_true rfl) rfl rfl,
  fun _ _ _ _ _ _ _ => r_iinc (show zdec 280 24 = some (.iinc 4 1, 3) by decide +kernel) rfl rfl rfl (Nat.le_of_ble_eq_true rfl) rfl rfl,
  fun _ _ _ _ _ _ _ => r_goto (show zdec 280 27 = some (.goto (-22), 3) by decide +kernel) rfl,
  fun _ _ _ _ _ _ _ => r_lload_n (show zdec 280 30 = some (.lload_n 2, 1) by decide +kernel) rfl rfl,
  fun _ _ _ _ _ _ _ => r_lret (show zdec 280 31 = some (.lreturn, 1) by decide +kernel) (by decide +kernel)⟩
theorem zl_280_5 : ∀ (l0 l1 l2 l3 : Value) (x : Int32) (S : List Value) (h : zH), rn 280 5 [l0, l1, l2, l3, .int x] S h = rn 280 7 [l0, l1, l2, l3, .int x] (.int x :: S) h := fun _ _ _ _ _ _ _ => r_iload (show zdec 280 5 = some (.iload 4, 2) by decide +kernel) rfl rfl
theorem ze_280 : ∀ (a0 : Nat) (a1 : Int32) (h : zH), ev 280 [.ref a0, .int a1] h = rn 280 0 [.ref a0, .int a1, .float 0, .float 0, .float 0] [] h := fun _ _ _ => if_pos (Nat.le_of_ble_eq_true rfl)
-- PayrollRunModel.total(II)J
theorem zr_281 : (∀ (l0 l2 : Value) (x : Int32) (S : List Value) (h : zH), rn 281 0 [l0, .int x, l2] S h = rn 281 1 [l0, .int x, l2] (.int x :: S) h) ∧
  (∀ (l0 l1 l2 : Value) (v0 : Value) (S : List Value) (h : zH), rn 281 1 [l0, l1, l2] (v0 :: S) h = if zsum S ≤ 8 then zcall (ev 210 [v0] h) (fun v h => rn 281 4 [l0, l1, l2] (zpush v S) h) else none) ∧
  (∀ (l0 l1 l2 : Value) (x : Int32) (S : List Value) (h : zH), rn 281 4 [l0, l1, l2] (.int x :: S) h = if x = nI 0 then rn 281 37 [l0, l1, l2] S h else rn 281 7 [l0, l1, l2] S h) ∧
  (∀ (l0 l1 : Value) (x : Int32) (S : List Value) (h : zH), rn 281 7 [l0, l1, .int x] S h = rn 281 8 [l0, l1, .int x] (.int x :: S) h) ∧
  (∀ (l0 l1 l2 : Value) (S : List Value) (h : zH), rn 281 8 [l0, l1, l2] S h = rn 281 9 [l0, l1, l2] (.int (nI 0) :: S) h) ∧
  (∀ (l0 l1 l2 : Value) (S : List Value) (h : zH), rn 281 9 [l0, l1, l2] S h = rn 281 11 [l0, l1, l2] (.int (nI 8) :: S) h) ∧
  (∀ (l0 l1 l2 : Value) (v0 : Value) (v1 : Value) (v2 : Value) (S : List Value) (h : zH), rn 281 11 [l0, l1, l2] (v2 :: v1 :: v0 :: S) h = if zsum S ≤ 8 then zcall (ev 211 [v0, v1, v2] h) (fun v h => rn 281 14 [l0, l1, l2] (zpush v S) h) else none) ∧
  (∀ (l0 l1 l2 : Value) (x : Int32) (S : List Value) (h : zH), rn 281 14 [l0, l1, l2] (.int x :: S) h = if x = nI 0 then rn 281 37 [l0, l1, l2] S h else rn 281 17 [l0, l1, l2] S h) ∧
  (∀ (l0 l1 : Value) (x : Int32) (S : List Value) (h : zH), rn 281 17 [l0, l1, .int x] S h = rn 281 18 [l0, l1, .int x] (.int x :: S) h) ∧
  (∀ (l0 l1 l2 : Value) (S : List Value) (h : zH), rn 281 18 [l0, l1, l2] S h = rn 281 19 [l0, l1, l2] (.int (nI 4) :: S) h) ∧
  (∀ (l0 l1 l2 : Value) (x : Int32) (y : Int32) (S : List Value) (h : zH), rn 281 19 [l0, l1, l2] (.int y :: .int x :: S) h = if x = y then rn 281 37 [l0, l1, l2] S h else rn 281 22 [l0, l1, l2] S h) ∧
  (∀ (l0 l1 : Value) (x : Int32) (S : List Value) (h : zH), rn 281 22 [l0, l1, .int x] S h = rn 281 23 [l0, l1, .int x] (.int x :: S) h) ∧
  (∀ (l0 l1 l2 : Value) (S : List Value) (h : zH), rn 281 23 [l0, l1, l2] S h = rn 281 25 [l0, l1, l2] (.int (nI 6) :: S) h) ∧
  (∀ (l0 l1 l2 : Value) (x : Int32) (y : Int32) (S : List Value) (h : zH), rn 281 25 [l0, l1, l2] (.int y :: .int x :: S) h = if x = y then rn 281 37 [l0, l1, l2] S h else rn 281 28 [l0, l1, l2] S h) ∧
  (∀ (l1 l2 : Value) (x : Nat) (S : List Value) (h : zH), rn 281 28 [.ref x, l1, l2] S h = rn 281 29 [.ref x, l1, l2] (.ref x :: S) h) ∧
  (∀ (l0 l2 : Value) (x : Int32) (S : List Value) (h : zH), rn 281 29 [l0, .int x, l2] S h = rn 281 30 [l0, .int x, l2] (.int x :: S) h) ∧
  (∀ (l0 l1 : Value) (x : Int32) (S : List Value) (h : zH), rn 281 30 [l0, l1, .int x] S h = rn 281 31 [l0, l1, .int x] (.int x :: S) h) ∧
  (∀ (l0 l1 l2 : Value) (o : Nat) (v0 : Value) (v1 : Value) (S : List Value) (h : zH), rn 281 31 [l0, l1, l2] (v1 :: v0 :: .ref o :: S) h = if zkd h o = 12 ∧ zsum S ≤ 8 then zcall (ev 282 [.ref o, v0, v1] h) (fun v h => rn 281 34 [l0, l1, l2] (zpush v S) h) else none) ∧
  (∀ (l0 l1 l2 : Value) (S : List Value) (h : zH), rn 281 34 [l0, l1, l2] S h = rn 281 40 [l0, l1, l2] S h) ∧
  (∀ (l0 l1 l2 : Value) (S : List Value) (h : zH), rn 281 37 [l0, l1, l2] S h = rn 281 40 [l0, l1, l2] (.long (-1) :: S) h) ∧
  (∀ (l0 l1 l2 : Value) (x : Int64) (h : zH), rn 281 40 [l0, l1, l2] [.long x] h = some (some (.long x), h)) := ⟨fun _ _ _ _ _ => r_iload_n (show zdec 281 0 = some (.iload_n 1, 1) by decide +kernel) rfl rfl,
  fun _ _ _ _ _ _ => r_cS [_] rfl (show zdec 281 1 = some (.invokestatic 71, 3) by decide +kernel) (show zst.lookup (281 * zKEY + 71) = some (0, 210, 1, 0) by decide +kernel) (by decide) rfl,
  fun _ _ _ _ _ _ => r_ifeq (show zdec 281 4 = some (.ifCond .eq 33, 3) by decide +kernel) rfl rfl,
  fun _ _ _ _ _ => r_iload_n (show zdec 281 7 = some (.iload_n 2, 1) by decide +kernel) rfl rfl,
  fun _ _ _ _ _ => r_iconst (show zdec 281 8 = some (.iconst 0, 1) by decide +kernel) rfl rfl,
  fun _ _ _ _ _ => r_bipush (show zdec 281 9 = some (.bipush 8, 2) by decide +kernel) rfl rfl,
  fun _ _ _ _ _ _ _ _ => r_cS [_, _, _] rfl (show zdec 281 11 = some (.invokestatic 45, 3) by decide +kernel) (show zst.lookup (281 * zKEY + 45) = some (0, 211, 3, 0) by decide +kernel) (by decide) rfl,
  fun _ _ _ _ _ _ => r_ifeq (show zdec 281 14 = some (.ifCond .eq 23, 3) by decide +kernel) rfl rfl,
  fun _ _ _ _ _ => r_iload_n (show zdec 281 17 = some (.iload_n 2, 1) by decide +kernel) rfl rfl,
  fun _ _ _ _ _ => r_iconst (show zdec 281 18 = some (.iconst 4, 1) by decide +kernel) rfl rfl,
  fun _ _ _ _ _ _ _ => r_icmpeq (show zdec 281 19 = some (.if_icmp .eq 18, 3) by decide +kernel) rfl rfl,
  fun _ _ _ _ _ => r_iload_n (show zdec 281 22 = some (.iload_n 2, 1) by decide +kernel) rfl rfl,
  fun _ _ _ _ _ => r_bipush (show zdec 281 23 = some (.bipush 6, 2) by decide +kernel) rfl rfl,
  fun _ _ _ _ _ _ _ => r_icmpeq (show zdec 281 25 = some (.if_icmp .eq 12, 3) by decide +kernel) rfl rfl,
  fun _ _ _ _ _ => r_aload_nr (show zdec 281 28 = some (.aload_n 0, 1) by decide +kernel) rfl rfl,
  fun _ _ _ _ _ => r_iload_n (show zdec 281 29 = some (.iload_n 1, 1) by decide +kernel) rfl rfl,
  fun _ _ _ _ _ => r_iload_n (show zdec 281 30 = some (.iload_n 2, 1) by decide +kernel) rfl rfl,
  fun _ _ _ _ _ _ _ _ => r_cV [_, _] rfl (show zdec 281 31 = some (.invokevirtual 259, 3) by decide +kernel) (show zst.lookup (281 * zKEY + 259) = some (1, 282, 2, 12) by decide +kernel) (by decide) rfl,
  fun _ _ _ _ _ => r_goto (show zdec 281 34 = some (.goto 6, 3) by decide +kernel) rfl,
  fun _ _ _ _ _ => r_ldc2 (show zdec 281 37 = some (.ldc2_w 174, 3) by decide +kernel) (show zlt.lookup (281 * zKEY + 174) = some (-1) by decide +kernel) rfl,
  fun _ _ _ _ _ => r_lret (show zdec 281 40 = some (.lreturn, 1) by decide +kernel) (by decide +kernel)⟩
theorem ze_281 : ∀ (a0 : Nat) (a1 : Int32) (a2 : Int32) (h : zH), ev 281 [.ref a0, .int a1, .int a2] h = rn 281 0 [.ref a0, .int a1, .int a2] [] h := fun _ _ _ _ => if_pos (Nat.le_of_ble_eq_true rfl)
-- PayrollRunModel.totalOf(II)J
theorem zr_282 : (∀ (l0 l1 l2 l3 l4 l5 : Value) (S : List Value) (h : zH), rn 282 0 [l0, l1, l2, l3, l4, l5] S h = rn 282 1 [l0, l1, l2, l3, l4, l5] (.long 0 :: S) h) ∧
  (∀ (l0 l1 l2 l3 l4 l5 : Value) (x : Int64) (S : List Value) (h : zH), rn 282 1 [l0, l1, l2, l3, l4, l5] (.long x :: S) h = nl l2 (rn 282 2 [l0, l1, l2, .long x, .float 0, l5] S h)) ∧
  (∀ (l0 l1 l2 l3 l4 l5 : Value) (S : List Value) (h : zH), rn 282 2 [l0, l1, l2, l3, l4, l5] S h = rn 282 3 [l0, l1, l2, l3, l4, l5] (.int (nI 0) :: S) h) ∧
  (∀ (l0 l1 l2 l3 l4 l5 : Value) (x : Int32) (S : List Value) (h : zH), rn 282 3 [l0, l1, l2, l3, l4, l5] (.int x :: S) h = nl l4 (rn 282 5 [l0, l1, l2, l3, l4, .int x] S h)) ∧
  (∀ (l1 l2 l3 l4 l5 : Value) (x : Nat) (S : List Value) (h : zH), rn 282 7 [.ref x, l1, l2, l3, l4, l5] S h = rn 282 8 [.ref x, l1, l2, l3, l4, l5] (.ref x :: S) h) ∧
  (∀ (l0 l1 l2 l3 l4 l5 : Value) (o : Nat) (S : List Value) (h : zH), rn 282 8 [l0, l1, l2, l3, l4, l5] (.ref o :: S) h = if zkd h o = 12 ∧ zsum S ≤ 8 then zcall (ev 233 [.ref o] h) (fun v h => rn 282 11 [l0, l1, l2, l3, l4, l5] (zpush v S) h) else none) ∧
  (∀ (l0 l1 l2 l3 l4 l5 : Value) (x : Int32) (y : Int32) (S : List Value) (h : zH), rn 282 11 [l0, l1, l2, l3, l4, l5] (.int y :: .int x :: S) h = if y ≤ x then rn 282 58 [l0, l1, l2, l3, l4, l5] S h else rn 282 14 [l0, l1, l2, l3, l4, l5] S h) ∧
  (∀ (l0 l1 l2 l4 l5 : Value) (x : Int64) (S : List Value) (h : zH), rn 282 14 [l0, l1, l2, .long x, l4, l5] S h = rn 282 15 [l0, l1, l2, .long x, l4, l5] (.long x :: S) h) ∧
  (∀ (l0 l1 l3 l4 l5 : Value) (x : Int32) (S : List Value) (h : zH), rn 282 15 [l0, l1, .int x, l3, l4, l5] S h = rn 282 16 [l0, l1, .int x, l3, l4, l5] (.int x :: S) h) ∧
  (∀ (l0 l1 l2 l3 l4 l5 : Value) (S : List Value) (h : zH), rn 282 16 [l0, l1, l2, l3, l4, l5] S h = rn 282 18 [l0, l1, l2, l3, l4, l5] (.int (nI 8) :: S) h) ∧
  (∀ (l0 l1 l2 l3 l4 l5 : Value) (x : Int32) (y : Int32) (S : List Value) (h : zH), rn 282 18 [l0, l1, l2, l3, l4, l5] (.int y :: .int x :: S) h = if y ≤ x then rn 282 32 [l0, l1, l2, l3, l4, l5] S h else rn 282 21 [l0, l1, l2, l3, l4, l5] S h) ∧
  (∀ (l1 l2 l3 l4 l5 : Value) (x : Nat) (S : List Value) (h : zH), rn 282 21 [.ref x, l1, l2, l3, l4, l5] S h = rn 282 22 [.ref x, l1, l2, l3, l4, l5] (.ref x :: S) h) ∧
  (∀ (l0 l2 l3 l4 l5 : Value) (x : Int32) (S : List Value) (h : zH), rn 282 22 [l0, .int x, l2, l3, l4, l5] S h = rn 282 23 [l0, .int x, l2, l3, l4, l5] (.int x :: S) h) ∧
  (∀ (l0 l1 l2 l3 l4 : Value) (x : Int32) (S : List Value) (h : zH), rn 282 23 [l0, l1, l2, l3, l4, .int x] S h = rn 282 25 [l0, l1, l2, l3, l4, .int x] (.int x :: S) h) ∧
  (∀ (l0 l1 l3 l4 l5 : Value) (x : Int32) (S : List Value) (h : zH), rn 282 25 [l0, l1, .int x, l3, l4, l5] S h = rn 282 26 [l0, l1, .int x, l3, l4, l5] (.int x :: S) h) ∧
  (∀ (l0 l1 l2 l3 l4 l5 : Value) (o : Nat) (v0 : Value) (v1 : Value) (v2 : Value) (S : List Value) (h : zH), rn 282 26 [l0, l1, l2, l3, l4, l5] (v2 :: v1 :: v0 :: .ref o :: S) h = if zkd h o = 12 ∧ zsum S ≤ 8 then zcall (ev 283 [.ref o, v0, v1, v2] h) (fun v h => rn 282 29 [l0, l1, l2, l3, l4, l5] (zpush v S) h) else none) ∧
  (∀ (l0 l1 l2 l3 l4 l5 : Value) (S : List Value) (h : zH), rn 282 29 [l0, l1, l2, l3, l4, l5] S h = rn 282 50 [l0, l1, l2, l3, l4, l5] S h) ∧
  (∀ (l1 l2 l3 l4 l5 : Value) (x : Nat) (S : List Value) (h : zH), rn 282 32 [.ref x, l1, l2, l3, l4, l5] S h = rn 282 33 [.ref x, l1, l2, l3, l4, l5] (.ref x :: S) h) ∧
  (∀ (l0 l2 l3 l4 l5 : Value) (x : Int32) (S : List Value) (h : zH), rn 282 33 [l0, .int x, l2, l3, l4, l5] S h = rn 282 34 [l0, .int x, l2, l3, l4, l5] (.int x :: S) h) ∧
  (∀ (l0 l1 l2 l3 l4 : Value) (x : Int32) (S : List Value) (h : zH), rn 282 34 [l0, l1, l2, l3, l4, .int x] S h = rn 282 36 [l0, l1, l2, l3, l4, .int x] (.int x :: S) h) ∧
  (∀ (l0 l1 l2 l3 l4 l5 : Value) (S : List Value) (h : zH), rn 282 36 [l0, l1, l2, l3, l4, l5] S h = rn 282 37 [l0, l1, l2, l3, l4, l5] (.int (nI 4) :: S) h) ∧
  (∀ (l0 l1 l2 l3 l4 l5 : Value) (o : Nat) (v0 : Value) (v1 : Value) (v2 : Value) (S : List Value) (h : zH), rn 282 37 [l0, l1, l2, l3, l4, l5] (v2 :: v1 :: v0 :: .ref o :: S) h = if zkd h o = 12 ∧ zsum S ≤ 8 then zcall (ev 283 [.ref o, v0, v1, v2] h) (fun v h => rn 282 40 [l0, l1, l2, l3, l4, l5] (zpush v S) h) else none) ∧
  (∀ (l1 l2 l3 l4 l5 : Value) (x : Nat) (S : List Value) (h : zH), rn 282 40 [.ref x, l1, l2, l3, l4, l5] S h = rn 282 41 [.ref x, l1, l2, l3, l4, l5] (.ref x :: S) h) ∧
  (∀ (l0 l2 l3 l4 l5 : Value) (x : Int32) (S : List Value) (h : zH), rn 282 41 [l0, .int x, l2, l3, l4, l5] S h = rn 282 42 [l0, .int x, l2, l3, l4, l5] (.int x :: S) h) ∧
  (∀ (l0 l1 l2 l3 l4 : Value) (x : Int32) (S : List Value) (h : zH), rn 282 42 [l0, l1, l2, l3, l4, .int x] S h = rn 282 44 [l0, l1, l2, l3, l4, .int x] (.int x :: S) h) ∧
  (∀ (l0 l1 l2 l3 l4 l5 : Value) (S : List Value) (h : zH), rn 282 44 [l0, l1, l2, l3, l4, l5] S h = rn 282 46 [l0, l1, l2, l3, l4, l5] (.int (nI 6) :: S) h) ∧
  (∀ (l0 l1 l2 l3 l4 l5 : Value) (o : Nat) (v0 : Value) (v1 : Value) (v2 : Value) (S : List Value) (h : zH), rn 282 46 [l0, l1, l2, l3, l4, l5] (v2 :: v1 :: v0 :: .ref o :: S) h = if zkd h o = 12 ∧ zsum S ≤ 8 then zcall (ev 283 [.ref o, v0, v1, v2] h) (fun v h => rn 282 49 [l0, l1, l2, l3, l4, l5] (zpush v S) h) else none) ∧
  (∀ (l0 l1 l2 l3 l4 l5 : Value) (x : Int64) (y : Int64) (S : List Value) (h : zH), rn 282 49 [l0, l1, l2, l3, l4, l5] (.long y :: .long x :: S) h = rn 282 50 [l0, l1, l2, l3, l4, l5] (.long (x + y) :: S) h) ∧
  (∀ (l0 l1 l2 l3 l4 l5 : Value) (x : Int64) (y : Int64) (S : List Value) (h : zH), rn 282 50 [l0, l1, l2, l3, l4, l5] (.long y :: .long x :: S) h = rn 282 51 [l0, l1, l2, l3, l4, l5] (.long (x + y) :: S) h) ∧
  (∀ (l0 l1 l2 l3 l4 l5 : Value) (x : Int64) (S : List Value) (h : zH), rn 282 51 [l0, l1, l2, l3, l4, l5] (.long x :: S) h = nl l2 (rn 282 52 [l0, l1, l2, .long x, .float 0, l5] S h)) ∧
  (∀ (l0 l1 l2 l3 l4 : Value) (x : Int32) (S : List Value) (h : zH), rn 282 52 [l0, l1, l2, l3, l4, .int x] S h = nl l4 (rn 282 55 [l0, l1, l2, l3, l4, .int (x + (nI 1))] S h)) ∧
  (∀ (l0 l1 l2 l3 l4 l5 : Value) (S : List Value) (h : zH), rn 282 55 [l0, l1, l2, l3, l4, l5] S h = rn 282 5 [l0, l1, l2, l3, l4, l5] S h) ∧
  (∀ (l0 l1 l3 l4 l5 : Value) (x : Int32) (S : List Value) (h : zH), rn 282 58 [l0, l1, .int x, l3, l4, l5] S h = rn 282 59 [l0, l1, .int x, l3, l4, l5] (.int x :: S) h) ∧
  (∀ (l0 l1 l2 l3 l4 l5 : Value) (S : List Value) (h : zH), rn 282 59 [l0, l1, l2, l3, l4, l5] S h = rn 282 60 [l0, l1, l2, l3, l4, l5] (.int (nI 1) :: S) h) ∧
  (∀ (l0 l1 l2 l3 l4 l5 : Value) (S : List Value) (h : zH), rn 282 60 [l0, l1, l2, l3, l4, l5] S h = rn 282 61 [l0, l1, l2, l3, l4, l5] (.int (nI 5) :: S) h) ∧
  (∀ (l0 l1 l2 l3 l4 l5 : Value) (v0 : Value) (v1 : Value) (v2 : Value) (S : List Value) (h : zH), rn 282 61 [l0, l1, l2, l3, l4, l5] (v2 :: v1 :: v0 :: S) h = if zsum S ≤ 8 then zcall (ev 211 [v0, v1, v2] h) (fun v h => rn 282 64 [l0, l1, l2, l3, l4, l5] (zpush v S) h) else none) ∧
  (∀ (l0 l1 l2 l3 l4 l5 : Value) (x : Int32) (S : List Value) (h : zH), rn 282 64 [l0, l1, l2, l3, l4, l5] (.int x :: S) h = if x = nI 0 then rn 282 72 [l0, l1, l2, l3, l4, l5] S h else rn 282 67 [l0, l1, l2, l3, l4, l5] S h) ∧
  (∀ (l0 l1 l2 l4 l5 : Value) (x : Int64) (S : List Value) (h : zH), rn 282 67 [l0, l1, l2, .long x, l4, l5] S h = rn 282 68 [l0, l1, l2, .long x, l4, l5] (.long x :: S) h) ∧
  (∀ (l0 l1 l2 l3 l4 l5 : Value) (x : Int64) (S : List Value) (h : zH), rn 282 68 [l0, l1, l2, l3, l4, l5] (.long x :: S) h = rn 282 69 [l0, l1, l2, l3, l4, l5] (.long (-x) :: S) h) ∧
  (∀ (l0 l1 l2 l3 l4 l5 : Value) (S : List Value) (h : zH), rn 282 69 [l0, l1, l2, l3, l4, l5] S h = rn 282 73 [l0, l1, l2, l3, l4, l5] S h) ∧
  (∀ (l0 l1 l2 l4 l5 : Value) (x : Int64) (S : List Value) (h : zH), rn 282 72 [l0, l1, l2, .long x, l4, l5] S h = rn 282 73 [l0, l1, l2, .long x, l4, l5] (.long x :: S) h) ∧
  (∀ (l0 l1 l2 l3 l4 l5 : Value) (x : Int64) (h : zH), rn 282 73 [l0, l1, l2, l3, l4, l5] [.long x] h = some (some (.long x), h)) := ⟨fun _ _ _ _ _ _ _ _ => r_lconst (show zdec 282 0 = some (.lconst 0, 1) by decide +kernel) rfl rfl,
  fun _ _ _ _ _ _ _ _ _ => r_lstore_n (show zdec 282 1 = some (.lstore_n 3, 1) by decide +kernel) rfl rfl (Nat.le_of_ble_eq_true rfl) rfl rfl,
  fun _ _ _ _ _ _ _ _ => r_iconst (show zdec 282 2 = some (.iconst 0, 1) by decide +kernel) rfl rfl,
  fun _ _ _ _ _ _ _ _ _ => r_istore (show zdec 282 3 = some (.istore 5, 2) by decide +kernel) rfl (Nat.le_of_ble_eq_true rfl) rfl rfl,
  fun _ _ _ _ _ _ _ _ => r_aload_nr (show zdec 282 7 = some (.aload_n 0, 1) by decide +kernel) rfl rfl,
  fun _ _ _ _ _ _ _ _ _ => r_cV [] rfl (show zdec 282 8 = some (.invokevirtual 164, 3) by decide +kernel) (show zst.lookup (282 * zKEY + 164) = some (1, 233, 0, 12) by decide +kernel) (by decide) rfl,
  fun _ _ _ _ _ _ _ _ _ _ => r_icmpge (show zdec 282 11 = some (.if_icmp .ge 47, 3) by decide +kernel) rfl rfl,
  fun _ _ _ _ _ _ _ _ => r_lload_n (show zdec 282 14 = some (.lload_n 3, 1) by decide +kernel) rfl rfl,
  fun _ _ _ _ _ _ _ _ => r_iload_n (show zdec 282 15 = some (.iload_n 2, 1) by decide +kernel) rfl rfl,
  fun _ _ _ _ _ _ _ _ => r_bipush (show zdec 282 16 = some (.bipush 8, 2) by decide +kernel) rfl rfl,
  fun _ _ _ _ _ _ _ _ _ _ => r_icmpge (show zdec 282 18 = some (.if_icmp .ge 14, 3) by decide +kernel) rfl rfl,
  fun _ _ _ _ _ _ _ _ => r_aload_nr (show zdec 282 21 = some (.aload_n 0, 1) by decide +kernel) rfl rfl,
  fun _ _ _ _ _ _ _ _ => r_iload_n (show zdec 282 22 = some (.iload_n 1, 1) by decide +kernel) rfl rfl,
  fun _ _ _ _ _ _ _ _ => r_iload (show zdec 282 23 = some (.iload 5, 2) by decide +kernel) rfl rfl,
  fun _ _ _ _ _ _ _ _ => r_iload_n (show zdec 282 25 = some (.iload_n 2, 1) by decide +kernel) rfl rfl,
  fun _ _ _ _ _ _ _ _ _ _ _ _ => r_cV [_, _, _] rfl (show zdec 282 26 = some (.invokevirtual 256, 3) by decide +kernel) (show zst.lookup (282 * zKEY + 256) = some (1, 283, 3, 12) by decide +kernel) (by decide) rfl,
  fun _ _ _ _ _ _ _ _ => r_goto (show zdec 282 29 = some (.goto 21, 3) by decide +kernel) rfl,
  fun _ _ _ _ _ _ _ _ => r_aload_nr (show zdec 282 32 = some (.aload_n 0, 1) by decide +kernel) rfl rfl,
  fun _ _ _ _ _ _ _ _ => r_iload_n (show zdec 282 33 = some (.iload_n 1, 1) by decide +kernel) rfl rfl,
  fun _ _ _ _ _ _ _ _ => r_iload (show zdec 282 34 = some (.iload 5, 2) by decide +kernel) rfl rfl,
  fun _ _ _ _ _ _ _ _ => r_iconst (show zdec 282 36 = some (.iconst 4, 1) by decide +kernel) rfl rfl,
  fun _ _ _ _ _ _ _ _ _ _ _ _ => r_cV [_, _, _] rfl (show zdec 282 37 = some (.invokevirtual 256, 3) by decide +kernel) (show zst.lookup (282 * zKEY + 256) = some (1, 283, 3, 12) by decide +kernel) (by decide) rfl,
  fun _ _ _ _ _ _ _ _ => r_aload_nr (show zdec 282 40 = some (.aload_n 0, 1) by decide +kernel) rfl rfl,
  fun _ _ _ _ _ _ _ _ => r_iload_n (show zdec 282 41 = some (.iload_n 1, 1) by decide +kernel) rfl rfl,
  fun _ _ _ _ _ _ _ _ => r_iload (show zdec 282 42 = some (.iload 5, 2) by decide +kernel) rfl rfl,
  fun _ _ _ _ _ _ _ _ => r_bipush (show zdec 282 44 = some (.bipush 6, 2) by decide +kernel) rfl rfl,
  fun _ _ _ _ _ _ _ _ _ _ _ _ => r_cV [_, _, _] rfl (show zdec 282 46 = some (.invokevirtual 256, 3) by decide +kernel) (show zst.lookup (282 * zKEY + 256) = some (1, 283, 3, 12) by decide +kernel) (by decide) rfl,
  fun _ _ _ _ _ _ _ _ _ _ => r_ladd (show zdec 282 49 = some (.ladd, 1) by decide +kernel) rfl,
  fun _ _ _ _ _ _ _ _ _ _ => r_ladd (show zdec 282 50 = some (.ladd, 1) by decide +kernel) rfl,
  fun _ _ _ _ _ _ _ _ _ => r_lstore_n (show zdec 282 51 = some (.lstore_n 3, 1) by decide +kernel) rfl rfl (Nat.le_of_ble_eq_true rfl) rfl rfl,
  fun _ _ _ _ _ _ _ _ => r_iinc (show zdec 282 52 = some (.iinc 5 1, 3) by decide +kernel) rfl rfl rfl (Nat.le_of_ble_eq_true rfl) rfl rfl,
  fun _ _ _ _ _ _ _ _ => r_goto (show zdec 282 55 = some (.goto (-50), 3) by decide +kernel) rfl,
  fun _ _ _ _ _ _ _ _ => r_iload_n (show zdec 282 58 = some (.iload_n 2, 1) by decide +kernel) rfl rfl,
  fun _ _ _ _ _ _ _ _ => r_iconst (show zdec 282 59 = some (.iconst 1, 1) by decide +kernel) rfl rfl,
  fun _ _ _ _ _ _ _ _ => r_iconst (show zdec 282 60 = some (.iconst 5, 1) by decide +kernel) rfl rfl,
  fun _ _ _ _ _ _ _ _ _ _ _ => r_cS [_, _, _] rfl (show zdec 282 61 = some (.invokestatic 45, 3) by decide +kernel) (show zst.lookup (282 * zKEY + 45) = some (0, 211, 3, 0) by decide +kernel) (by decide) rfl,
  fun _ _ _ _ _ _ _ _ _ => r_ifeq (show zdec 282 64 = some (.ifCond .eq 8, 3) by decide +kernel) rfl rfl,
  fun _ _ _ _ _ _ _ _ => r_lload_n (show zdec 282 67 = some (.lload_n 3, 1) by decide +kernel) rfl rfl,
  fun _ _ _ _ _ _ _ _ _ => r_lneg (show zdec 282 68 = some (.lneg, 1) by decide +kernel) rfl,
  fun _ _ _ _ _ _ _ _ => r_goto (show zdec 282 69 = some (.goto 4, 3) by decide +kernel) rfl,
  fun _ _ _ _ _ _ _ _ => r_lload_n (show zdec 282 72 = some (.lload_n 3, 1) by decide +kernel) rfl rfl,
  fun _ _ _ _ _ _ _ _ => r_lret (show zdec 282 73 = some (.lreturn, 1) by decide +kernel) (by decide +kernel)⟩
theorem zl_282_5 : ∀ (l0 l1 l2 l3 l4 : Value) (x : Int32) (S : List Value) (h : zH), rn 282 5 [l0, l1, l2, l3, l4, .int x] S h = rn 282 7 [l0, l1, l2, l3, l4, .int x] (.int x :: S) h := fun _ _ _ _ _ _ _ _ => r_iload (show zdec 282 5 = some (.iload 5, 2) by decide +kernel) rfl rfl
theorem ze_282 : ∀ (a0 : Nat) (a1 : Int32) (a2 : Int32) (h : zH), ev 282 [.ref a0, .int a1, .int a2] h = rn 282 0 [.ref a0, .int a1, .int a2, .float 0, .float 0, .float 0] [] h := fun _ _ _ _ => if_pos (Nat.le_of_ble_eq_true rfl)
-- PayrollRunModel.sumOfKind(III)J
theorem zr_283 : (∀ (l0 l1 l2 l3 l4 l5 l6 l7 : Value) (S : List Value) (h : zH), rn 283 0 [l0, l1, l2, l3, l4, l5, l6, l7] S h = rn 283 1 [l0, l1, l2, l3, l4, l5, l6, l7] (.long 0 :: S) h) ∧
  (∀ (l0 l1 l2 l3 l4 l5 l6 l7 : Value) (x : Int64) (S : List Value) (h : zH), rn 283 1 [l0, l1, l2, l3, l4, l5, l6, l7] (.long x :: S) h = nl l3 (rn 283 3 [l0, l1, l2, l3, .long x, .float 0, l6, l7] S h)) ∧
  (∀ (l0 l1 l2 l3 l4 l5 l6 l7 : Value) (S : List Value) (h : zH), rn 283 3 [l0, l1, l2, l3, l4, l5, l6, l7] S h = rn 283 4 [l0, l1, l2, l3, l4, l5, l6, l7] (.int (nI 0) :: S) h) ∧
  (∀ (l0 l1 l2 l3 l4 l5 l6 l7 : Value) (x : Int32) (S : List Value) (h : zH), rn 283 4 [l0, l1, l2, l3, l4, l5, l6, l7] (.int x :: S) h = nl l5 (rn 283 6 [l0, l1, l2, l3, l4, l5, .int x, l7] S h)) ∧
  (∀ (l0 l1 l2 l3 l4 l5 l6 l7 : Value) (x : Int32) (S : List Value) (h : zH), rn 283 8 [l0, l1, l2, l3, l4, l5, l6, l7] (.int x :: S) h = rn 283 9 [l0, l1, l2, l3, l4, l5, l6, l7] (.long x.toInt64 :: S) h) ∧
  (∀ (l1 l2 l3 l4 l5 l6 l7 : Value) (x : Nat) (S : List Value) (h : zH), rn 283 9 [.ref x, l1, l2, l3, l4, l5, l6, l7] S h = rn 283 10 [.ref x, l1, l2, l3, l4, l5, l6, l7] (.ref x :: S) h) ∧
  (∀ (l0 l2 l3 l4 l5 l6 l7 : Value) (x : Int32) (S : List Value) (h : zH), rn 283 10 [l0, .int x, l2, l3, l4, l5, l6, l7] S h = rn 283 11 [l0, .int x, l2, l3, l4, l5, l6, l7] (.int x :: S) h) ∧
  (∀ (l0 l1 l2 l3 l4 l5 l6 l7 : Value) (S : List Value) (h : zH), rn 283 11 [l0, l1, l2, l3, l4, l5, l6, l7] S h = rn 283 14 [l0, l1, l2, l3, l4, l5, l6, l7] (.int (nI 147) :: S) h) ∧
  (∀ (l0 l1 l3 l4 l5 l6 l7 : Value) (x : Int32) (S : List Value) (h : zH), rn 283 14 [l0, l1, .int x, l3, l4, l5, l6, l7] S h = rn 283 15 [l0, l1, .int x, l3, l4, l5, l6, l7] (.int x :: S) h) ∧
  (∀ (l0 l1 l2 l3 l4 l5 l6 l7 : Value) (x : Int32) (y : Int32) (S : List Value) (h : zH), rn 283 15 [l0, l1, l2, l3, l4, l5, l6, l7] (.int y :: .int x :: S) h = rn 283 16 [l0, l1, l2, l3, l4, l5, l6, l7] (.int (x + y) :: S) h) ∧
  (∀ (l0 l1 l2 l3 l4 l5 l6 l7 : Value) (o : Nat) (v0 : Value) (v1 : Value) (S : List Value) (h : zH), rn 283 16 [l0, l1, l2, l3, l4, l5, l6, l7] (v1 :: v0 :: .ref o :: S) h = if zkd h o = 12 ∧ zsum S ≤ 8 then zcall (ev 226 [.ref o, v0, v1] h) (fun v h => rn 283 19 [l0, l1, l2, l3, l4, l5, l6, l7] (zpush v S) h) else none) ∧
  (∀ (l0 l1 l2 l3 l4 l5 l6 l7 : Value) (x : Int64) (y : Int64) (S : List Value) (h : zH), rn 283 19 [l0, l1, l2, l3, l4, l5, l6, l7] (.long y :: .long x :: S) h = rn 283 20 [l0, l1, l2, l3, l4, l5, l6, l7] (.int (lg_cmp x y) :: S) h) ∧
  (∀ (l0 l1 l2 l3 l4 l5 l6 l7 : Value) (x : Int32) (S : List Value) (h : zH), rn 283 20 [l0, l1, l2, l3, l4, l5, l6, l7] (.int x :: S) h = if nI 0 ≤ x then rn 283 69 [l0, l1, l2, l3, l4, l5, l6, l7] S h else rn 283 23 [l0, l1, l2, l3, l4, l5, l6, l7] S h) ∧
  (∀ (l0 l2 l3 l4 l5 l6 l7 : Value) (x : Int32) (S : List Value) (h : zH), rn 283 23 [l0, .int x, l2, l3, l4, l5, l6, l7] S h = rn 283 24 [l0, .int x, l2, l3, l4, l5, l6, l7] (.int x :: S) h) ∧
  (∀ (l0 l1 l3 l4 l5 l6 l7 : Value) (x : Int32) (S : List Value) (h : zH), rn 283 24 [l0, l1, .int x, l3, l4, l5, l6, l7] S h = rn 283 25 [l0, l1, .int x, l3, l4, l5, l6, l7] (.int x :: S) h) ∧
  (∀ (l0 l1 l2 l3 l4 l5 l7 : Value) (x : Int32) (S : List Value) (h : zH), rn 283 25 [l0, l1, l2, l3, l4, l5, .int x, l7] S h = rn 283 27 [l0, l1, l2, l3, l4, l5, .int x, l7] (.int x :: S) h) ∧
  (∀ (l0 l1 l2 l3 l4 l5 l6 l7 : Value) (v0 : Value) (v1 : Value) (v2 : Value) (S : List Value) (h : zH), rn 283 27 [l0, l1, l2, l3, l4, l5, l6, l7] (v2 :: v1 :: v0 :: S) h = if zsum S ≤ 8 then zcall (ev 244 [v0, v1, v2] h) (fun v h => rn 283 30 [l0, l1, l2, l3, l4, l5, l6, l7] (zpush v S) h) else none) ∧
  (∀ (l0 l1 l2 l3 l4 l5 l6 l7 : Value) (x : Int32) (S : List Value) (h : zH), rn 283 30 [l0, l1, l2, l3, l4, l5, l6, l7] (.int x :: S) h = nl l6 (rn 283 32 [l0, l1, l2, l3, l4, l5, l6, .int x] S h)) ∧
  (∀ (l0 l1 l2 l3 l5 l6 l7 : Value) (x : Int64) (S : List Value) (h : zH), rn 283 32 [l0, l1, l2, l3, .long x, l5, l6, l7] S h = rn 283 34 [l0, l1, l2, l3, .long x, l5, l6, l7] (.long x :: S) h) ∧
  (∀ (l1 l2 l3 l4 l5 l6 l7 : Value) (x : Nat) (S : List Value) (h : zH), rn 283 34 [.ref x, l1, l2, l3, l4, l5, l6, l7] S h = rn 283 35 [.ref x, l1, l2, l3, l4, l5, l6, l7] (.ref x :: S) h) ∧
  (∀ (l0 l1 l2 l3 l4 l5 l6 l7 : Value) (a : Nat) (S : List Value) (h : zH), rn 283 35 [l0, l1, l2, l3, l4, l5, l6, l7] (.ref a :: S) h = zgf h a 12 0 fun v => rn 283 38 [l0, l1, l2, l3, l4, l5, l6, l7] (v :: S) h) ∧
  (∀ (l0 l1 l2 l3 l4 l5 l6 : Value) (x : Int32) (S : List Value) (h : zH), rn 283 38 [l0, l1, l2, l3, l4, l5, l6, .int x] S h = rn 283 40 [l0, l1, l2, l3, l4, l5, l6, .int x] (.int x :: S) h) ∧
  (∀ (l0 l1 l2 l3 l4 l5 l6 l7 : Value) (a : Nat) (j : Int32) (S : List Value) (h : zH), rn 283 40 [l0, l1, l2, l3, l4, l5, l6, l7] (.int j :: .ref a :: S) h = zlj h a j fun x => rn 283 41 [l0, l1, l2, l3, l4, l5, l6, l7] (.long x :: S) h) ∧
  (∀ (l0 l1 l2 l4 l5 l6 l7 : Value) (x : Int32) (S : List Value) (h : zH), rn 283 41 [l0, l1, l2, .int x, l4, l5, l6, l7] S h = rn 283 42 [l0, l1, l2, .int x, l4, l5, l6, l7] (.int x :: S) h) ∧
  (∀ (l0 l1 l2 l3 l4 l5 l6 l7 : Value) (x : Int32) (S : List Value) (h : zH), rn 283 42 [l0, l1, l2, l3, l4, l5, l6, l7] (.int x :: S) h = rn 283 43 [l0, l1, l2, l3, l4, l5, l6, l7] (.long x.toInt64 :: S) h) ∧
  (∀ (l0 l1 l2 l3 l4 l5 l6 l7 : Value) (x : Int64) (y : Int64) (S : List Value) (h : zH), rn 283 43 [l0, l1, l2, l3, l4, l5, l6, l7] (.long y :: .long x :: S) h = rn 283 44 [l0, l1, l2, l3, l4, l5, l6, l7] (.int (lg_cmp x y) :: S) h) ∧
  (∀ (l0 l1 l2 l3 l4 l5 l6 l7 : Value) (x : Int32) (S : List Value) (h : zH), rn 283 44 [l0, l1, l2, l3, l4, l5, l6, l7] (.int x :: S) h = if x = nI 0 then rn 283 47 [l0, l1, l2, l3, l4, l5, l6, l7] S h else rn 283 59 [l0, l1, l2, l3, l4, l5, l6, l7] S h) ∧
  (∀ (l1 l2 l3 l4 l5 l6 l7 : Value) (x : Nat) (S : List Value) (h : zH), rn 283 47 [.ref x, l1, l2, l3, l4, l5, l6, l7] S h = rn 283 48 [.ref x, l1, l2, l3, l4, l5, l6, l7] (.ref x :: S) h) ∧
  (∀ (l0 l1 l2 l3 l4 l5 l6 l7 : Value) (a : Nat) (S : List Value) (h : zH), rn 283 48 [l0, l1, l2, l3, l4, l5, l6, l7] (.ref a :: S) h = zgf h a 12 0 fun v => rn 283 51 [l0, l1, l2, l3, l4, l5, l6, l7] (v :: S) h) ∧
  (∀ (l0 l1 l2 l3 l4 l5 l6 : Value) (x : Int32) (S : List Value) (h : zH), rn 283 51 [l0, l1, l2, l3, l4, l5, l6, .int x] S h = rn 283 53 [l0, l1, l2, l3, l4, l5, l6, .int x] (.int x :: S) h) ∧
  (∀ (l0 l1 l2 l3 l4 l5 l6 l7 : Value) (S : List Value) (h : zH), rn 283 53 [l0, l1, l2, l3, l4, l5, l6, l7] S h = rn 283 54 [l0, l1, l2, l3, l4, l5, l6, l7] (.int (nI 3) :: S) h) ∧
  (∀ (l0 l1 l2 l3 l4 l5 l6 l7 : Value) (x : Int32) (y : Int32) (S : List Value) (h : zH), rn 283 54 [l0, l1, l2, l3, l4, l5, l6, l7] (.int y :: .int x :: S) h = rn 283 55 [l0, l1, l2, l3, l4, l5, l6, l7] (.int (x + y) :: S) h) ∧
  (∀ (l0 l1 l2 l3 l4 l5 l6 l7 : Value) (a : Nat) (j : Int32) (S : List Value) (h : zH), rn 283 55 [l0, l1, l2, l3, l4, l5, l6, l7] (.int j :: .ref a :: S) h = zlj h a j fun x => rn 283 56 [l0, l1, l2, l3, l4, l5, l6, l7] (.long x :: S) h) ∧
  (∀ (l0 l1 l2 l3 l4 l5 l6 l7 : Value) (S : List Value) (h : zH), rn 283 56 [l0, l1, l2, l3, l4, l5, l6, l7] S h = rn 283 60 [l0, l1, l2, l3, l4, l5, l6, l7] S h) ∧
  (∀ (l0 l1 l2 l3 l4 l5 l6 l7 : Value) (S : List Value) (h : zH), rn 283 59 [l0, l1, l2, l3, l4, l5, l6, l7] S h = rn 283 60 [l0, l1, l2, l3, l4, l5, l6, l7] (.long 0 :: S) h) ∧
  (∀ (l0 l1 l2 l3 l4 l5 l6 l7 : Value) (x : Int64) (y : Int64) (S : List Value) (h : zH), rn 283 60 [l0, l1, l2, l3, l4, l5, l6, l7] (.long y :: .long x :: S) h = rn 283 61 [l0, l1, l2, l3, l4, l5, l6, l7] (.long (x + y) :: S) h) ∧
  (∀ (l0 l1 l2 l3 l4 l5 l6 l7 : Value) (x : Int64) (S : List Value) (h : zH), rn 283 61 [l0, l1, l2, l3, l4, l5, l6, l7] (.long x :: S) h = nl l3 (rn 283 63 [l0, l1, l2, l3, .long x, .float 0, l6, l7] S h)) ∧
  (∀ (l0 l1 l2 l3 l4 l5 l7 : Value) (x : Int32) (S : List Value) (h : zH), rn 283 63 [l0, l1, l2, l3, l4, l5, .int x, l7] S h = nl l5 (rn 283 66 [l0, l1, l2, l3, l4, l5, .int (x + (nI 1)), l7] S h)) ∧
  (∀ (l0 l1 l2 l3 l4 l5 l6 l7 : Value) (S : List Value) (h : zH), rn 283 66 [l0, l1, l2, l3, l4, l5, l6, l7] S h = rn 283 6 [l0, l1, l2, l3, l4, l5, l6, l7] S h) ∧
  (∀ (l0 l1 l2 l3 l5 l6 l7 : Value) (x : Int64) (S : List Value) (h : zH), rn 283 69 [l0, l1, l2, l3, .long x, l5, l6, l7] S h = rn 283 71 [l0, l1, l2, l3, .long x, l5, l6, l7] (.long x :: S) h) ∧
  (∀ (l0 l1 l2 l3 l4 l5 l6 l7 : Value) (x : Int64) (h : zH), rn 283 71 [l0, l1, l2, l3, l4, l5, l6, l7] [.long x] h = some (some (.long x), h)) := ⟨fun _ _ _ _ _ _ _ _ _ _ => r_lconst (show zdec 283 0 = some (.lconst 0, 1) by decide +kernel) rfl rfl,
  fun _ _ _ _ _ _ _ _ _ _ _ => r_lstore (show zdec 283 1 = some (.lstore 4, 2) by decide +kernel) rfl (Nat.le_of_ble_eq_true rfl) rfl rfl,
  fun _ _ _ _ _ _ _ _ _ _ => r_iconst (show zdec 283 3 = some (.iconst 0, 1) by decide +kernel) rfl rfl,
  fun _ _ _ _ _ _ _ _ _ _ _ => r_istore (show zdec 283 4 = some (.istore 6, 2) by decide +kernel) rfl (Nat.le_of_ble_eq_true rfl) rfl rfl,
  fun _ _ _ _ _ _ _ _ _ _ _ => r_i2l (show zdec 283 8 = some (.i2l, 1) by decide +kernel) rfl,
  fun _ _ _ _ _ _ _ _ _ _ => r_aload_nr (show zdec 283 9 = some (.aload_n 0, 1) by decide +kernel) rfl rfl,
  fun _ _ _ _ _ _ _ _ _ _ => r_iload_n (show zdec 283 10 = some (.iload_n 1, 1) by decide +kernel) rfl rfl,
  fun _ _ _ _ _ _ _ _ _ _ => r_sipush (show zdec 283 11 = some (.sipush 147, 3) by decide +kernel) rfl rfl,
  fun _ _ _ _ _ _ _ _ _ _ => r_iload_n (show zdec 283 14 = some (.iload_n 2, 1) by decide +kernel) rfl rfl,
  fun _ _ _ _ _ _ _ _ _ _ _ _ => r_iadd (show zdec 283 15 = some (.iadd, 1) by decide +kernel) rfl,
  fun _ _ _ _ _ _ _ _ _ _ _ _ _ => r_cV [_, _] rfl (show zdec 283 16 = some (.invokevirtual 85, 3) by decide +kernel) (show zst.lookup (283 * zKEY + 85) = some (1, 226, 2, 12) by decide +kernel) (by decide) rfl,
  fun _ _ _ _ _ _ _ _ _ _ _ _ => r_lcmp (show zdec 283 19 = some (.lcmp, 1) by decide +kernel) rfl,
  fun _ _ _ _ _ _ _ _ _ _ _ => r_ifge (show zdec 283 20 = some (.ifCond .ge 49, 3) by decide +kernel) rfl rfl,
  fun _ _ _ _ _ _ _ _ _ _ => r_iload_n (show zdec 283 23 = some (.iload_n 1, 1) by decide +kernel) rfl rfl,
  fun _ _ _ _ _ _ _ _ _ _ => r_iload_n (show zdec 283 24 = some (.iload_n 2, 1) by decide +kernel) rfl rfl,
  fun _ _ _ _ _ _ _ _ _ _ => r_iload (show zdec 283 25 = some (.iload 6, 2) by decide +kernel) rfl rfl,
  fun _ _ _ _ _ _ _ _ _ _ _ _ _ => r_cS [_, _, _] rfl (show zdec 283 27 = some (.invokestatic 132, 3) by decide +kernel) (show zst.lookup (283 * zKEY + 132) = some (0, 244, 3, 0) by decide +kernel) (by decide) rfl,
  fun _ _ _ _ _ _ _ _ _ _ _ => r_istore (show zdec 283 30 = some (.istore 7, 2) by decide +kernel) rfl (Nat.le_of_ble_eq_true rfl) rfl rfl,
  fun _ _ _ _ _ _ _ _ _ _ => r_lload (show zdec 283 32 = some (.lload 4, 2) by decide +kernel) rfl rfl,
  fun _ _ _ _ _ _ _ _ _ _ => r_aload_nr (show zdec 283 34 = some (.aload_n 0, 1) by decide +kernel) rfl rfl,
  fun _ _ _ _ _ _ _ _ _ _ _ => r_getfield (show zdec 283 35 = some (.getfield 9, 3) by decide +kernel) (show zft.lookup (283 * zKEY + 9) = some (12, 0) by decide +kernel) rfl,
  fun _ _ _ _ _ _ _ _ _ _ => r_iload (show zdec 283 38 = some (.iload 7, 2) by decide +kernel) rfl rfl,
  fun _ _ _ _ _ _ _ _ _ _ _ _ => r_lald (show zdec 283 40 = some (.laload, 1) by decide +kernel) rfl,
  fun _ _ _ _ _ _ _ _ _ _ => r_iload_n (show zdec 283 41 = some (.iload_n 3, 1) by decide +kernel) rfl rfl,
  fun _ _ _ _ _ _ _ _ _ _ _ => r_i2l (show zdec 283 42 = some (.i2l, 1) by decide +kernel) rfl,
  fun _ _ _ _ _ _ _ _ _ _ _ _ => r_lcmp (show zdec 283 43 = some (.lcmp, 1) by decide +kernel) rfl,
  fun _ _ _ _ _ _ _ _ _ _ _ => r_ifne (show zdec 283 44 = some (.ifCond .ne 15, 3) by decide +kernel) rfl rfl,
  fun _ _ _ _ _ _ _ _ _ _ => r_aload_nr (show zdec 283 47 = some (.aload_n 0, 1) by decide +kernel) rfl rfl,
  fun _ _ _ _ _ _ _ _ _ _ _ => r_getfield (show zdec 283 48 = some (.getfield 9, 3) by decide +kernel) (show zft.lookup (283 * zKEY + 9) = some (12, 0) by decide +kernel) rfl,
  fun _ _ _ _ _ _ _ _ _ _ => r_iload (show zdec 283 51 = some (.iload 7, 2) by decide +kernel) rfl rfl,
  fun _ _ _ _ _ _ _ _ _ _ => r_iconst (show zdec 283 53 = some (.iconst 3, 1) by decide +kernel) rfl rfl,
  fun _ _ _ _ _ _ _ _ _ _ _ _ => r_iadd (show zdec 283 54 = some (.iadd, 1) by decide +kernel) rfl,
  fun _ _ _ _ _ _ _ _ _ _ _ _ => r_lald (show zdec 283 55 = some (.laload, 1) by decide +kernel) rfl,
  fun _ _ _ _ _ _ _ _ _ _ => r_goto (show zdec 283 56 = some (.goto 4, 3) by decide +kernel) rfl,
  fun _ _ _ _ _ _ _ _ _ _ => r_lconst (show zdec 283 59 = some (.lconst 0, 1) by decide +kernel) rfl rfl,
  fun _ _ _ _ _ _ _ _ _ _ _ _ => r_ladd (show zdec 283 60 = some (.ladd, 1) by decide +kernel) rfl,
  fun _ _ _ _ _ _ _ _ _ _ _ => r_lstore (show zdec 283 61 = some (.lstore 4, 2) by decide +kernel) rfl (Nat.le_of_ble_eq_true rfl) rfl rfl,
  fun _ _ _ _ _ _ _ _ _ _ => r_iinc (show zdec 283 63 = some (.iinc 6 1, 3) by decide +kernel) rfl rfl rfl (Nat.le_of_ble_eq_true rfl) rfl rfl,
  fun _ _ _ _ _ _ _ _ _ _ => r_goto (show zdec 283 66 = some (.goto (-60), 3) by decide +kernel) rfl,
  fun _ _ _ _ _ _ _ _ _ _ => r_lload (show zdec 283 69 = some (.lload 4, 2) by decide +kernel) rfl rfl,
  fun _ _ _ _ _ _ _ _ _ _ => r_lret (show zdec 283 71 = some (.lreturn, 1) by decide +kernel) (by decide +kernel)⟩
theorem zl_283_6 : ∀ (l0 l1 l2 l3 l4 l5 l7 : Value) (x : Int32) (S : List Value) (h : zH), rn 283 6 [l0, l1, l2, l3, l4, l5, .int x, l7] S h = rn 283 8 [l0, l1, l2, l3, l4, l5, .int x, l7] (.int x :: S) h := fun _ _ _ _ _ _ _ _ _ _ => r_iload (show zdec 283 6 = some (.iload 6, 2) by decide +kernel) rfl rfl
theorem ze_283 : ∀ (a0 : Nat) (a1 : Int32) (a2 : Int32) (a3 : Int32) (h : zH), ev 283 [.ref a0, .int a1, .int a2, .int a3] h = rn 283 0 [.ref a0, .int a1, .int a2, .int a3, .float 0, .float 0, .float 0, .float 0] [] h := fun _ _ _ _ _ => if_pos (Nat.le_of_ble_eq_true rfl)
-- PayrollRunModel.oneRun(II)J
theorem zr_284 : (∀ (l0 l2 : Value) (x : Int32) (S : List Value) (h : zH), rn 284 0 [l0, .int x, l2] S h = rn 284 1 [l0, .int x, l2] (.int x :: S) h) ∧
  (∀ (l0 l1 l2 : Value) (v0 : Value) (S : List Value) (h : zH), rn 284 1 [l0, l1, l2] (v0 :: S) h = if zsum S ≤ 8 then zcall (ev 210 [v0] h) (fun v h => rn 284 4 [l0, l1, l2] (zpush v S) h) else none) ∧
  (∀ (l0 l1 l2 : Value) (x : Int32) (S : List Value) (h : zH), rn 284 4 [l0, l1, l2] (.int x :: S) h = if x = nI 0 then rn 284 33 [l0, l1, l2] S h else rn 284 7 [l0, l1, l2] S h) ∧
  (∀ (l0 l1 : Value) (x : Int32) (S : List Value) (h : zH), rn 284 7 [l0, l1, .int x] S h = rn 284 8 [l0, l1, .int x] (.int x :: S) h) ∧
  (∀ (l0 l1 l2 : Value) (S : List Value) (h : zH), rn 284 8 [l0, l1, l2] S h = rn 284 9 [l0, l1, l2] (.int (nI 0) :: S) h) ∧
  (∀ (l0 l1 l2 : Value) (S : List Value) (h : zH), rn 284 9 [l0, l1, l2] S h = rn 284 10 [l0, l1, l2] (.int (nI 4) :: S) h) ∧
  (∀ (l0 l1 l2 : Value) (v0 : Value) (v1 : Value) (v2 : Value) (S : List Value) (h : zH), rn 284 10 [l0, l1, l2] (v2 :: v1 :: v0 :: S) h = if zsum S ≤ 8 then zcall (ev 211 [v0, v1, v2] h) (fun v h => rn 284 13 [l0, l1, l2] (zpush v S) h) else none) ∧
  (∀ (l0 l1 l2 : Value) (x : Int32) (S : List Value) (h : zH), rn 284 13 [l0, l1, l2] (.int x :: S) h = if x = nI 0 then rn 284 33 [l0, l1, l2] S h else rn 284 16 [l0, l1, l2] S h) ∧
  (∀ (l1 l2 : Value) (x : Nat) (S : List Value) (h : zH), rn 284 16 [.ref x, l1, l2] S h = rn 284 17 [.ref x, l1, l2] (.ref x :: S) h) ∧
  (∀ (l1 l2 : Value) (x : Nat) (S : List Value) (h : zH), rn 284 17 [.ref x, l1, l2] S h = rn 284 18 [.ref x, l1, l2] (.ref x :: S) h) ∧
  (∀ (l0 l2 : Value) (x : Int32) (S : List Value) (h : zH), rn 284 18 [l0, .int x, l2] S h = rn 284 19 [l0, .int x, l2] (.int x :: S) h) ∧
  (∀ (l1 l2 : Value) (x : Nat) (S : List Value) (h : zH), rn 284 19 [.ref x, l1, l2] S h = rn 284 20 [.ref x, l1, l2] (.ref x :: S) h) ∧
  (∀ (l0 l1 l2 : Value) (o : Nat) (S : List Value) (h : zH), rn 284 20 [l0, l1, l2] (.ref o :: S) h = if zkd h o = 12 ∧ zsum S ≤ 8 then zcall (ev 233 [.ref o] h) (fun v h => rn 284 23 [l0, l1, l2] (zpush v S) h) else none) ∧
  (∀ (l0 l1 l2 : Value) (o : Nat) (v0 : Value) (v1 : Value) (S : List Value) (h : zH), rn 284 23 [l0, l1, l2] (v1 :: v0 :: .ref o :: S) h = if zkd h o = 12 ∧ zsum S ≤ 8 then zcall (ev 238 [.ref o, v0, v1] h) (fun v h => rn 284 26 [l0, l1, l2] (zpush v S) h) else none) ∧
  (∀ (l0 l1 : Value) (x : Int32) (S : List Value) (h : zH), rn 284 26 [l0, l1, .int x] S h = rn 284 27 [l0, l1, .int x] (.int x :: S) h) ∧
  (∀ (l0 l1 l2 : Value) (o : Nat) (v0 : Value) (v1 : Value) (S : List Value) (h : zH), rn 284 27 [l0, l1, l2] (v1 :: v0 :: .ref o :: S) h = if zkd h o = 12 ∧ zsum S ≤ 8 then zcall (ev 240 [.ref o, v0, v1] h) (fun v h => rn 284 30 [l0, l1, l2] (zpush v S) h) else none) ∧
  (∀ (l0 l1 l2 : Value) (S : List Value) (h : zH), rn 284 30 [l0, l1, l2] S h = rn 284 36 [l0, l1, l2] S h) ∧
  (∀ (l0 l1 l2 : Value) (S : List Value) (h : zH), rn 284 33 [l0, l1, l2] S h = rn 284 36 [l0, l1, l2] (.long (-1) :: S) h) ∧
  (∀ (l0 l1 l2 : Value) (x : Int64) (h : zH), rn 284 36 [l0, l1, l2] [.long x] h = some (some (.long x), h)) := ⟨fun _ _ _ _ _ => r_iload_n (show zdec 284 0 = some (.iload_n 1, 1) by decide +kernel) rfl rfl,
  fun _ _ _ _ _ _ => r_cS [_] rfl (show zdec 284 1 = some (.invokestatic 71, 3) by decide +kernel) (show zst.lookup (284 * zKEY + 71) = some (0, 210, 1, 0) by decide +kernel) (by decide) rfl,
  fun _ _ _ _ _ _ => r_ifeq (show zdec 284 4 = some (.ifCond .eq 29, 3) by decide +kernel) rfl rfl,
  fun _ _ _ _ _ => r_iload_n (show zdec 284 7 = some (.iload_n 2, 1) by decide +kernel) rfl rfl,
  fun _ _ _ _ _ => r_iconst (show zdec 284 8 = some (.iconst 0, 1) by decide +kernel) rfl rfl,
  fun _ _ _ _ _ => r_iconst (show zdec 284 9 = some (.iconst 4, 1) by decide +kernel) rfl rfl,
  fun _ _ _ _ _ _ _ _ => r_cS [_, _, _] rfl (show zdec 284 10 = some (.invokestatic 45, 3) by decide +kernel) (show zst.lookup (284 * zKEY + 45) = some (0, 211, 3, 0) by decide +kernel) (by decide) rfl,
  fun _ _ _ _ _ _ => r_ifeq (show zdec 284 13 = some (.ifCond .eq 20, 3) by decide +kernel) rfl rfl,
  fun _ _ _ _ _ => r_aload_nr (show zdec 284 16 = some (.aload_n 0, 1) by decide +kernel) rfl rfl,
  fun _ _ _ _ _ => r_aload_nr (show zdec 284 17 = some (.aload_n 0, 1) by decide +kernel) rfl rfl,
  fun _ _ _ _ _ => r_iload_n (show zdec 284 18 = some (.iload_n 1, 1) by decide +kernel) rfl rfl,
  fun _ _ _ _ _ => r_aload_nr (show zdec 284 19 = some (.aload_n 0, 1) by decide +kernel) rfl rfl,
  fun _ _ _ _ _ _ => r_cV [] rfl (show zdec 284 20 = some (.invokevirtual 164, 3) by decide +kernel) (show zst.lookup (284 * zKEY + 164) = some (1, 233, 0, 12) by decide +kernel) (by decide) rfl,
  fun _ _ _ _ _ _ _ _ => r_cV [_, _] rfl (show zdec 284 23 = some (.invokevirtual 125, 3) by decide +kernel) (show zst.lookup (284 * zKEY + 125) = some (1, 238, 2, 12) by decide +kernel) (by decide) rfl,
  fun _ _ _ _ _ => r_iload_n (show zdec 284 26 = some (.iload_n 2, 1) by decide +kernel) rfl rfl,
  fun _ _ _ _ _ _ _ _ => r_cV [_, _] rfl (show zdec 284 27 = some (.invokevirtual 128, 3) by decide +kernel) (show zst.lookup (284 * zKEY + 128) = some (1, 240, 2, 12) by decide +kernel) (by decide) rfl,
  fun _ _ _ _ _ => r_goto (show zdec 284 30 = some (.goto 6, 3) by decide +kernel) rfl,
  fun _ _ _ _ _ => r_ldc2 (show zdec 284 33 = some (.ldc2_w 174, 3) by decide +kernel) (show zlt.lookup (284 * zKEY + 174) = some (-1) by decide +kernel) rfl,
  fun _ _ _ _ _ => r_lret (show zdec 284 36 = some (.lreturn, 1) by decide +kernel) (by decide +kernel)⟩
theorem ze_284 : ∀ (a0 : Nat) (a1 : Int32) (a2 : Int32) (h : zH), ev 284 [.ref a0, .int a1, .int a2] h = rn 284 0 [.ref a0, .int a1, .int a2] [] h := fun _ _ _ _ => if_pos (Nat.le_of_ble_eq_true rfl)
-- PayrollRunModel.account(II)J
theorem zr_285 : (∀ (l0 l2 l3 l4 l5 l6 : Value) (x : Int32) (S : List Value) (h : zH), rn 285 0 [l0, .int x, l2, l3, l4, l5, l6] S h = rn 285 1 [l0, .int x, l2, l3, l4, l5, l6] (.int x :: S) h) ∧
  (∀ (l0 l1 l2 l3 l4 l5 l6 : Value) (v0 : Value) (S : List Value) (h : zH), rn 285 1 [l0, l1, l2, l3, l4, l5, l6] (v0 :: S) h = if zsum S ≤ 8 then zcall (ev 212 [v0] h) (fun v h => rn 285 4 [l0, l1, l2, l3, l4, l5, l6] (zpush v S) h) else none) ∧
  (∀ (l0 l1 l2 l3 l4 l5 l6 : Value) (x : Int32) (S : List Value) (h : zH), rn 285 4 [l0, l1, l2, l3, l4, l5, l6] (.int x :: S) h = if x = nI 0 then rn 285 16 [l0, l1, l2, l3, l4, l5, l6] S h else rn 285 7 [l0, l1, l2, l3, l4, l5, l6] S h) ∧
  (∀ (l0 l1 l3 l4 l5 l6 : Value) (x : Int32) (S : List Value) (h : zH), rn 285 7 [l0, l1, .int x, l3, l4, l5, l6] S h = rn 285 8 [l0, l1, .int x, l3, l4, l5, l6] (.int x :: S) h) ∧
  (∀ (l0 l1 l2 l3 l4 l5 l6 : Value) (S : List Value) (h : zH), rn 285 8 [l0, l1, l2, l3, l4, l5, l6] S h = rn 285 9 [l0, l1, l2, l3, l4, l5, l6] (.int (nI 0) :: S) h) ∧
  (∀ (l0 l1 l2 l3 l4 l5 l6 : Value) (S : List Value) (h : zH), rn 285 9 [l0, l1, l2, l3, l4, l5, l6] S h = rn 285 10 [l0, l1, l2, l3, l4, l5, l6] (.int (nI 4) :: S) h) ∧
  (∀ (l0 l1 l2 l3 l4 l5 l6 : Value) (v0 : Value) (v1 : Value) (v2 : Value) (S : List Value) (h : zH), rn 285 10 [l0, l1, l2, l3, l4, l5, l6] (v2 :: v1 :: v0 :: S) h = if zsum S ≤ 8 then zcall (ev 211 [v0, v1, v2] h) (fun v h => rn 285 13 [l0, l1, l2, l3, l4, l5, l6] (zpush v S) h) else none) ∧
  (∀ (l0 l1 l2 l3 l4 l5 l6 : Value) (x : Int32) (S : List Value) (h : zH), rn 285 13 [l0, l1, l2, l3, l4, l5, l6] (.int x :: S) h = if x = nI 0 then rn 285 16 [l0, l1, l2, l3, l4, l5, l6] S h else rn 285 20 [l0, l1, l2, l3, l4, l5, l6] S h) ∧
  (∀ (l0 l1 l2 l3 l4 l5 l6 : Value) (S : List Value) (h : zH), rn 285 16 [l0, l1, l2, l3, l4, l5, l6] S h = rn 285 19 [l0, l1, l2, l3, l4, l5, l6] (.long (-1) :: S) h) ∧
  (∀ (l0 l1 l2 l3 l4 l5 l6 : Value) (x : Int64) (h : zH), rn 285 19 [l0, l1, l2, l3, l4, l5, l6] [.long x] h = some (some (.long x), h)) ∧
  (∀ (l0 l2 l3 l4 l5 l6 : Value) (x : Int32) (S : List Value) (h : zH), rn 285 20 [l0, .int x, l2, l3, l4, l5, l6] S h = rn 285 21 [l0, .int x, l2, l3, l4, l5, l6] (.int x :: S) h) ∧
  (∀ (l1 l2 l3 l4 l5 l6 : Value) (x : Nat) (S : List Value) (h : zH), rn 285 21 [.ref x, l1, l2, l3, l4, l5, l6] S h = rn 285 22 [.ref x, l1, l2, l3, l4, l5, l6] (.ref x :: S) h) ∧
  (∀ (l0 l1 l2 l3 l4 l5 l6 : Value) (o : Nat) (S : List Value) (h : zH), rn 285 22 [l0, l1, l2, l3, l4, l5, l6] (.ref o :: S) h = if zkd h o = 12 ∧ zsum S ≤ 8 then zcall (ev 233 [.ref o] h) (fun v h => rn 285 25 [l0, l1, l2, l3, l4, l5, l6] (zpush v S) h) else none) ∧
  (∀ (l0 l1 l2 l3 l4 l5 l6 : Value) (x : Int32) (y : Int32) (S : List Value) (h : zH), rn 285 25 [l0, l1, l2, l3, l4, l5, l6] (.int y :: .int x :: S) h = if x < y then rn 285 32 [l0, l1, l2, l3, l4, l5, l6] S h else rn 285 28 [l0, l1, l2, l3, l4, l5, l6] S h) ∧
  (∀ (l0 l1 l2 l3 l4 l5 l6 : Value) (S : List Value) (h : zH), rn 285 28 [l0, l1, l2, l3, l4, l5, l6] S h = rn 285 31 [l0, l1, l2, l3, l4, l5, l6] (.long (-2) :: S) h) ∧
  (∀ (l0 l1 l2 l3 l4 l5 l6 : Value) (x : Int64) (h : zH), rn 285 31 [l0, l1, l2, l3, l4, l5, l6] [.long x] h = some (some (.long x), h)) ∧
  (∀ (l0 l1 l3 l4 l5 l6 : Value) (x : Int32) (S : List Value) (h : zH), rn 285 32 [l0, l1, .int x, l3, l4, l5, l6] S h = rn 285 33 [l0, l1, .int x, l3, l4, l5, l6] (.int x :: S) h) ∧
  (∀ (l0 l1 l2 l3 l4 l5 l6 : Value) (x : Int32) (S : List Value) (h : zH), rn 285 33 [l0, l1, l2, l3, l4, l5, l6] (.int x :: S) h = if x = nI 0 then rn 285 36 [l0, l1, l2, l3, l4, l5, l6] S h else rn 285 40 [l0, l1, l2, l3, l4, l5, l6] S h) ∧
  (∀ (l0 l1 l2 l3 l4 l5 l6 : Value) (S : List Value) (h : zH), rn 285 36 [l0, l1, l2, l3, l4, l5, l6] S h = rn 285 37 [l0, l1, l2, l3, l4, l5, l6] (.int (nI 3) :: S) h) ∧
  (∀ (l0 l1 l2 l3 l4 l5 l6 : Value) (S : List Value) (h : zH), rn 285 37 [l0, l1, l2, l3, l4, l5, l6] S h = rn 285 60 [l0, l1, l2, l3, l4, l5, l6] S h) ∧
  (∀ (l0 l1 l3 l4 l5 l6 : Value) (x : Int32) (S : List Value) (h : zH), rn 285 40 [l0, l1, .int x, l3, l4, l5, l6] S h = rn 285 41 [l0, l1, .int x, l3, l4, l5, l6] (.int x :: S) h) ∧
  (∀ (l0 l1 l2 l3 l4 l5 l6 : Value) (S : List Value) (h : zH), rn 285 41 [l0, l1, l2, l3, l4, l5, l6] S h = rn 285 42 [l0, l1, l2, l3, l4, l5, l6] (.int (nI 3) :: S) h) ∧
  (∀ (l0 l1 l2 l3 l4 l5 l6 : Value) (x : Int32) (y : Int32) (S : List Value) (h : zH), rn 285 42 [l0, l1, l2, l3, l4, l5, l6] (.int y :: .int x :: S) h = if y ≤ x then rn 285 49 [l0, l1, l2, l3, l4, l5, l6] S h else rn 285 45 [l0, l1, l2, l3, l4, l5, l6] S h) ∧
  (∀ (l0 l1 l3 l4 l5 l6 : Value) (x : Int32) (S : List Value) (h : zH), rn 285 45 [l0, l1, .int x, l3, l4, l5, l6] S h = rn 285 46 [l0, l1, .int x, l3, l4, l5, l6] (.int x :: S) h) ∧
  (∀ (l0 l1 l2 l3 l4 l5 l6 : Value) (S : List Value) (h : zH), rn 285 46 [l0, l1, l2, l3, l4, l5, l6] S h = rn 285 60 [l0, l1, l2, l3, l4, l5, l6] S h) ∧
  (∀ (l0 l1 l3 l4 l5 l6 : Value) (x : Int32) (S : List Value) (h : zH), rn 285 49 [l0, l1, .int x, l3, l4, l5, l6] S h = rn 285 50 [l0, l1, .int x, l3, l4, l5, l6] (.int x :: S) h) ∧
  (∀ (l0 l1 l2 l3 l4 l5 l6 : Value) (S : List Value) (h : zH), rn 285 50 [l0, l1, l2, l3, l4, l5, l6] S h = rn 285 51 [l0, l1, l2, l3, l4, l5, l6] (.int (nI 3) :: S) h) ∧
  (∀ (l0 l1 l2 l3 l4 l5 l6 : Value) (x : Int32) (y : Int32) (S : List Value) (h : zH), rn 285 51 [l0, l1, l2, l3, l4, l5, l6] (.int y :: .int x :: S) h = if x = y then rn 285 54 [l0, l1, l2, l3, l4, l5, l6] S h else rn 285 58 [l0, l1, l2, l3, l4, l5, l6] S h) ∧
  (∀ (l0 l1 l2 l3 l4 l5 l6 : Value) (S : List Value) (h : zH), rn 285 54 [l0, l1, l2, l3, l4, l5, l6] S h = rn 285 55 [l0, l1, l2, l3, l4, l5, l6] (.int (nI 5) :: S) h) ∧
  (∀ (l0 l1 l2 l3 l4 l5 l6 : Value) (S : List Value) (h : zH), rn 285 55 [l0, l1, l2, l3, l4, l5, l6] S h = rn 285 60 [l0, l1, l2, l3, l4, l5, l6] S h) ∧
  (∀ (l0 l1 l2 l3 l4 l5 l6 : Value) (S : List Value) (h : zH), rn 285 58 [l0, l1, l2, l3, l4, l5, l6] S h = rn 285 60 [l0, l1, l2, l3, l4, l5, l6] (.int (nI 7) :: S) h) ∧
  (∀ (l0 l1 l2 l3 l4 l5 l6 : Value) (x : Int32) (S : List Value) (h : zH), rn 285 60 [l0, l1, l2, l3, l4, l5, l6] (.int x :: S) h = nl l2 (rn 285 61 [l0, l1, l2, .int x, l4, l5, l6] S h)) ∧
  (∀ (l0 l1 l2 l3 l4 l5 l6 : Value) (S : List Value) (h : zH), rn 285 61 [l0, l1, l2, l3, l4, l5, l6] S h = rn 285 62 [l0, l1, l2, l3, l4, l5, l6] (.long 0 :: S) h) ∧
  (∀ (l0 l1 l2 l3 l4 l5 l6 : Value) (x : Int64) (S : List Value) (h : zH), rn 285 62 [l0, l1, l2, l3, l4, l5, l6] (.long x :: S) h = nl l3 (rn 285 64 [l0, l1, l2, l3, .long x, .float 0, l6] S h)) ∧
  (∀ (l0 l1 l2 l3 l4 l5 l6 : Value) (S : List Value) (h : zH), rn 285 64 [l0, l1, l2, l3, l4, l5, l6] S h = rn 285 65 [l0, l1, l2, l3, l4, l5, l6] (.int (nI 0) :: S) h) ∧
  (∀ (l0 l1 l2 l3 l4 l5 l6 : Value) (x : Int32) (S : List Value) (h : zH), rn 285 65 [l0, l1, l2, l3, l4, l5, l6] (.int x :: S) h = nl l5 (rn 285 67 [l0, l1, l2, l3, l4, l5, .int x] S h)) ∧
  (∀ (l0 l1 l2 l3 l4 l5 l6 : Value) (S : List Value) (h : zH), rn 285 69 [l0, l1, l2, l3, l4, l5, l6] S h = rn 285 70 [l0, l1, l2, l3, l4, l5, l6] (.int (nI 3) :: S) h) ∧
  (∀ (l0 l1 l2 l3 l4 l5 l6 : Value) (x : Int32) (y : Int32) (S : List Value) (h : zH), rn 285 70 [l0, l1, l2, l3, l4, l5, l6] (.int y :: .int x :: S) h = if y ≤ x then rn 285 92 [l0, l1, l2, l3, l4, l5, l6] S h else rn 285 73 [l0, l1, l2, l3, l4, l5, l6] S h) ∧
  (∀ (l0 l1 l2 l3 l5 l6 : Value) (x : Int64) (S : List Value) (h : zH), rn 285 73 [l0, l1, l2, l3, .long x, l5, l6] S h = rn 285 75 [l0, l1, l2, l3, .long x, l5, l6] (.long x :: S) h) ∧
  (∀ (l1 l2 l3 l4 l5 l6 : Value) (x : Nat) (S : List Value) (h : zH), rn 285 75 [.ref x, l1, l2, l3, l4, l5, l6] S h = rn 285 76 [.ref x, l1, l2, l3, l4, l5, l6] (.ref x :: S) h) ∧
  (∀ (l0 l1 l2 l3 l4 l5 : Value) (x : Int32) (S : List Value) (h : zH), rn 285 76 [l0, l1, l2, l3, l4, l5, .int x] S h = rn 285 78 [l0, l1, l2, l3, l4, l5, .int x] (.int x :: S) h) ∧
  (∀ (l0 l2 l3 l4 l5 l6 : Value) (x : Int32) (S : List Value) (h : zH), rn 285 78 [l0, .int x, l2, l3, l4, l5, l6] S h = rn 285 79 [l0, .int x, l2, l3, l4, l5, l6] (.int x :: S) h) ∧
  (∀ (l0 l1 l2 l4 l5 l6 : Value) (x : Int32) (S : List Value) (h : zH), rn 285 79 [l0, l1, l2, .int x, l4, l5, l6] S h = rn 285 80 [l0, l1, l2, .int x, l4, l5, l6] (.int x :: S) h) ∧
  (∀ (l0 l1 l2 l3 l4 l5 l6 : Value) (o : Nat) (v0 : Value) (v1 : Value) (v2 : Value) (S : List Value) (h : zH), rn 285 80 [l0, l1, l2, l3, l4, l5, l6] (v2 :: v1 :: v0 :: .ref o :: S) h = if zkd h o = 12 ∧ zsum S ≤ 8 then zcall (ev 283 [.ref o, v0, v1, v2] h) (fun v h => rn 285 83 [l0, l1, l2, l3, l4, l5, l6] (zpush v S) h) else none) ∧
  (∀ (l0 l1 l2 l3 l4 l5 l6 : Value) (x : Int64) (y : Int64) (S : List Value) (h : zH), rn 285 83 [l0, l1, l2, l3, l4, l5, l6] (.long y :: .long x :: S) h = rn 285 84 [l0, l1, l2, l3, l4, l5, l6] (.long (x + y) :: S) h) ∧
  (∀ (l0 l1 l2 l3 l4 l5 l6 : Value) (x : Int64) (S : List Value) (h : zH), rn 285 84 [l0, l1, l2, l3, l4, l5, l6] (.long x :: S) h = nl l3 (rn 285 86 [l0, l1, l2, l3, .long x, .float 0, l6] S h)) ∧
  (∀ (l0 l1 l2 l3 l4 l5 : Value) (x : Int32) (S : List Value) (h : zH), rn 285 86 [l0, l1, l2, l3, l4, l5, .int x] S h = nl l5 (rn 285 89 [l0, l1, l2, l3, l4, l5, .int (x + (nI 1))] S h)) ∧
  (∀ (l0 l1 l2 l3 l4 l5 l6 : Value) (S : List Value) (h : zH), rn 285 89 [l0, l1, l2, l3, l4, l5, l6] S h = rn 285 67 [l0, l1, l2, l3, l4, l5, l6] S h) ∧
  (∀ (l0 l1 l3 l4 l5 l6 : Value) (x : Int32) (S : List Value) (h : zH), rn 285 92 [l0, l1, .int x, l3, l4, l5, l6] S h = rn 285 93 [l0, l1, .int x, l3, l4, l5, l6] (.int x :: S) h) ∧
  (∀ (l0 l1 l2 l3 l4 l5 l6 : Value) (S : List Value) (h : zH), rn 285 93 [l0, l1, l2, l3, l4, l5, l6] S h = rn 285 94 [l0, l1, l2, l3, l4, l5, l6] (.int (nI 4) :: S) h) ∧
  (∀ (l0 l1 l2 l3 l4 l5 l6 : Value) (x : Int32) (y : Int32) (S : List Value) (h : zH), rn 285 94 [l0, l1, l2, l3, l4, l5, l6] (.int y :: .int x :: S) h = if y ≤ x then rn 285 103 [l0, l1, l2, l3, l4, l5, l6] S h else rn 285 97 [l0, l1, l2, l3, l4, l5, l6] S h) ∧
  (∀ (l0 l1 l2 l3 l5 l6 : Value) (x : Int64) (S : List Value) (h : zH), rn 285 97 [l0, l1, l2, l3, .long x, l5, l6] S h = rn 285 99 [l0, l1, l2, l3, .long x, l5, l6] (.long x :: S) h) ∧
  (∀ (l0 l1 l2 l3 l4 l5 l6 : Value) (x : Int64) (S : List Value) (h : zH), rn 285 99 [l0, l1, l2, l3, l4, l5, l6] (.long x :: S) h = rn 285 100 [l0, l1, l2, l3, l4, l5, l6] (.long (-x) :: S) h) ∧
  (∀ (l0 l1 l2 l3 l4 l5 l6 : Value) (S : List Value) (h : zH), rn 285 100 [l0, l1, l2, l3, l4, l5, l6] S h = rn 285 105 [l0, l1, l2, l3, l4, l5, l6] S h) ∧
  (∀ (l0 l1 l2 l3 l5 l6 : Value) (x : Int64) (S : List Value) (h : zH), rn 285 103 [l0, l1, l2, l3, .long x, l5, l6] S h = rn 285 105 [l0, l1, l2, l3, .long x, l5, l6] (.long x :: S) h) ∧
  (∀ (l0 l1 l2 l3 l4 l5 l6 : Value) (x : Int64) (h : zH), rn 285 105 [l0, l1, l2, l3, l4, l5, l6] [.long x] h = some (some (.long x), h)) := ⟨fun _ _ _ _ _ _ _ _ _ => r_iload_n (show zdec 285 0 = some (.iload_n 1, 1) by decide +kernel) rfl rfl,
  fun _ _ _ _ _ _ _ _ _ _ => r_cS [_] rfl (show zdec 285 1 = some (.invokestatic 75, 3) by decide +kernel) (show zst.lookup (285 * zKEY + 75) = some (0, 212, 1, 0) by decide +kernel) (by decide) rfl,
  fun _ _ _ _ _ _ _ _ _ _ => r_ifeq (show zdec 285 4 = some (.ifCond .eq 12, 3) by decide +kernel) rfl rfl,
  fun _ _ _ _ _ _ _ _ _ => r_iload_n (show zdec 285 7 = some (.iload_n 2, 1) by decide +kernel) rfl rfl,
  fun _ _ _ _ _ _ _ _ _ => r_iconst (show zdec 285 8 = some (.iconst 0, 1) by decide +kernel) rfl rfl,
  fun _ _ _ _ _ _ _ _ _ => r_iconst (show zdec 285 9 = some (.iconst 4, 1) by decide +kernel) rfl rfl,
  fun _ _ _ _ _ _ _ _ _ _ _ _ => r_cS [_, _, _] rfl (show zdec 285 10 = some (.invokestatic 45, 3) by decide +kernel) (show zst.lookup (285 * zKEY + 45) = some (0, 211, 3, 0) by decide +kernel) (by decide) rfl,
  fun _ _ _ _ _ _ _ _ _ _ => r_ifne (show zdec 285 13 = some (.ifCond .ne 7, 3) by decide +kernel) rfl rfl,
  fun _ _ _ _ _ _ _ _ _ => r_ldc2 (show zdec 285 16 = some (.ldc2_w 174, 3) by decide +kernel) (show zlt.lookup (285 * zKEY + 174) = some (-1) by decide +kernel) rfl,
  fun _ _ _ _ _ _ _ _ _ => r_lret (show zdec 285 19 = some (.lreturn, 1) by decide +kernel) (by decide +kernel),
  fun _ _ _ _ _ _ _ _ _ => r_iload_n (show zdec 285 20 = some (.iload_n 1, 1) by decide +kernel) rfl rfl,
  fun _ _ _ _ _ _ _ _ _ => r_aload_nr (show zdec 285 21 = some (.aload_n 0, 1) by decide +kernel) rfl rfl,
  fun _ _ _ _ _ _ _ _ _ _ => r_cV [] rfl (show zdec 285 22 = some (.invokevirtual 164, 3) by decide +kernel) (show zst.lookup (285 * zKEY + 164) = some (1, 233, 0, 12) by decide +kernel) (by decide) rfl,
  fun _ _ _ _ _ _ _ _ _ _ _ => r_icmplt (show zdec 285 25 = some (.if_icmp .lt 7, 3) by decide +kernel) rfl rfl,
  fun _ _ _ _ _ _ _ _ _ => r_ldc2 (show zdec 285 28 = some (.ldc2_w 247, 3) by decide +kernel) (show zlt.lookup (285 * zKEY + 247) = some (-2) by decide +kernel) rfl,
  fun _ _ _ _ _ _ _ _ _ => r_lret (show zdec 285 31 = some (.lreturn, 1) by decide +kernel) (by decide +kernel),
  fun _ _ _ _ _ _ _ _ _ => r_iload_n (show zdec 285 32 = some (.iload_n 2, 1) by decide +kernel) rfl rfl,
  fun _ _ _ _ _ _ _ _ _ _ => r_ifne (show zdec 285 33 = some (.ifCond .ne 7, 3) by decide +kernel) rfl rfl,
  fun _ _ _ _ _ _ _ _ _ => r_iconst (show zdec 285 36 = some (.iconst 3, 1) by decide +kernel) rfl rfl,
  fun _ _ _ _ _ _ _ _ _ => r_goto (show zdec 285 37 = some (.goto 23, 3) by decide +kernel) rfl,
  fun _ _ _ _ _ _ _ _ _ => r_iload_n (show zdec 285 40 = some (.iload_n 2, 1) by decide +kernel) rfl rfl,
  fun _ _ _ _ _ _ _ _ _ => r_iconst (show zdec 285 41 = some (.iconst 3, 1) by decide +kernel) rfl rfl,
  fun _ _ _ _ _ _ _ _ _ _ _ => r_icmpge (show zdec 285 42 = some (.if_icmp .ge 7, 3) by decide +kernel) rfl rfl,
  fun _ _ _ _ _ _ _ _ _ => r_iload_n (show zdec 285 45 = some (.iload_n 2, 1) by decide +kernel) rfl rfl,
  fun _ _ _ _ _ _ _ _ _ => r_goto (show zdec 285 46 = some (.goto 14, 3) by decide +kernel) rfl,
  fun _ _ _ _ _ _ _ _ _ => r_iload_n (show zdec 285 49 = some (.iload_n 2, 1) by decide +kernel) rfl rfl,
  fun _ _ _ _ _ _ _ _ _ => r_iconst (show zdec 285 50 = some (.iconst 3, 1) by decide +kernel) rfl rfl,
  fun _ _ _ _ _ _ _ _ _ _ _ => r_icmpne (show zdec 285 51 = some (.if_icmp .ne 7, 3) by decide +kernel) rfl rfl,
  fun _ _ _ _ _ _ _ _ _ => r_iconst (show zdec 285 54 = some (.iconst 5, 1) by decide +kernel) rfl rfl,
  fun _ _ _ _ _ _ _ _ _ => r_goto (show zdec 285 55 = some (.goto 5, 3) by decide +kernel) rfl,
  fun _ _ _ _ _ _ _ _ _ => r_bipush (show zdec 285 58 = some (.bipush 7, 2) by decide +kernel) rfl rfl,
  fun _ _ _ _ _ _ _ _ _ _ => r_istore_n (show zdec 285 60 = some (.istore_n 3, 1) by decide +kernel) rfl rfl (Nat.le_of_ble_eq_true rfl) rfl rfl,
  fun _ _ _ _ _ _ _ _ _ => r_lconst (show zdec 285 61 = some (.lconst 0, 1) by decide +kernel) rfl rfl,
  fun _ _ _ _ _ _ _ _ _ _ => r_lstore (show zdec 285 62 = some (.lstore 4, 2) by decide +kernel) rfl (Nat.le_of_ble_eq_true rfl) rfl rfl,
  fun _ _ _ _ _ _ _ _ _ => r_iconst (show zdec 285 64 = some (.iconst 0, 1) by decide +kernel) rfl rfl,
  fun _ _ _ _ _ _ _ _ _ _ => r_istore (show zdec 285 65 = some (.istore 6, 2) by decide +kernel) rfl (Nat.le_of_ble_eq_true rfl) rfl rfl,
  fun _ _ _ _ _ _ _ _ _ => r_iconst (show zdec 285 69 = some (.iconst 3, 1) by decide +kernel) rfl rfl,
  fun _ _ _ _ _ _ _ _ _ _ _ => r_icmpge (show zdec 285 70 = some (.if_icmp .ge 22, 3) by decide +kernel) rfl rfl,
  fun _ _ _ _ _ _ _ _ _ => r_lload (show zdec 285 73 = some (.lload 4, 2) by decide +kernel) rfl rfl,
  fun _ _ _ _ _ _ _ _ _ => r_aload_nr (show zdec 285 75 = some (.aload_n 0, 1) by decide +kernel) rfl rfl,
  fun _ _ _ _ _ _ _ _ _ => r_iload (show zdec 285 76 = some (.iload 6, 2) by decide +kernel) rfl rfl,
  fun _ _ _ _ _ _ _ _ _ => r_iload_n (show zdec 285 78 = some (.iload_n 1, 1) by decide +kernel) rfl rfl,
  fun _ _ _ _ _ _ _ _ _ => r_iload_n (show zdec 285 79 = some (.iload_n 3, 1) by decide +kernel) rfl rfl,
  fun _ _ _ _ _ _ _ _ _ _ _ _ _ => r_cV [_, _, _] rfl (show zdec 285 80 = some (.invokevirtual 256, 3) by decide +kernel) (show zst.lookup (285 * zKEY + 256) = some (1, 283, 3, 12) by decide +kernel) (by decide) rfl,
  fun _ _ _ _ _ _ _ _ _ _ _ => r_ladd (show zdec 285 83 = some (.ladd, 1) by decide +kernel) rfl,
  fun _ _ _ _ _ _ _ _ _ _ => r_lstore (show zdec 285 84 = some (.lstore 4, 2) by decide +kernel) rfl (Nat.le_of_ble_eq_true rfl) rfl rfl,
  fun _ _ _ _ _ _ _ _ _ => r_iinc (show zdec 285 86 = some (.iinc 6 1, 3) by decide +kernel) rfl rfl rfl (Nat.le_of_ble_eq_true rfl) rfl rfl,
  fun _ _ _ _ _ _ _ _ _ => r_goto (show zdec 285 89 = some (.goto (-22), 3) by decide +kernel) rfl,
  fun _ _ _ _ _ _ _ _ _ => r_iload_n (show zdec 285 92 = some (.iload_n 2, 1) by decide +kernel) rfl rfl,
  fun _ _ _ _ _ _ _ _ _ => r_iconst (show zdec 285 93 = some (.iconst 4, 1) by decide +kernel) rfl rfl,
  fun _ _ _ _ _ _ _ _ _ _ _ => r_icmpge (show zdec 285 94 = some (.if_icmp .ge 9, 3) by decide +kernel) rfl rfl,
  fun _ _ _ _ _ _ _ _ _ => r_lload (show zdec 285 97 = some (.lload 4, 2) by decide +kernel) rfl rfl,
  fun _ _ _ _ _ _ _ _ _ _ => r_lneg (show zdec 285 99 = some (.lneg, 1) by decide +kernel) rfl,
  fun _ _ _ _ _ _ _ _ _ => r_goto (show zdec 285 100 = some (.goto 5, 3) by decide +kernel) rfl,
  fun _ _ _ _ _ _ _ _ _ => r_lload (show zdec 285 103 = some (.lload 4, 2) by decide +kernel) rfl rfl,
  fun _ _ _ _ _ _ _ _ _ => r_lret (show zdec 285 105 = some (.lreturn, 1) by decide +kernel) (by decide +kernel)⟩
theorem zl_285_67 : ∀ (l0 l1 l2 l3 l4 l5 : Value) (x : Int32) (S : List Value) (h : zH), rn 285 67 [l0, l1, l2, l3, l4, l5, .int x] S h = rn 285 69 [l0, l1, l2, l3, l4, l5, .int x] (.int x :: S) h := fun _ _ _ _ _ _ _ _ _ => r_iload (show zdec 285 67 = some (.iload 6, 2) by decide +kernel) rfl rfl
theorem ze_285 : ∀ (a0 : Nat) (a1 : Int32) (a2 : Int32) (h : zH), ev 285 [.ref a0, .int a1, .int a2] h = rn 285 0 [.ref a0, .int a1, .int a2, .float 0, .float 0, .float 0, .float 0] [] h := fun _ _ _ _ => if_pos (Nat.le_of_ble_eq_true rfl)
-- PayrollRunModel.statement(II)I
theorem zr_286 : (∀ (l0 l2 l3 l4 l5 l6 l7 : Value) (x : Int32) (S : List Value) (h : zH), rn 286 0 [l0, .int x, l2, l3, l4, l5, l6, l7] S h = rn 286 1 [l0, .int x, l2, l3, l4, l5, l6, l7] (.int x :: S) h) ∧
  (∀ (l0 l1 l2 l3 l4 l5 l6 l7 : Value) (v0 : Value) (S : List Value) (h : zH), rn 286 1 [l0, l1, l2, l3, l4, l5, l6, l7] (v0 :: S) h = if zsum S ≤ 8 then zcall (ev 210 [v0] h) (fun v h => rn 286 4 [l0, l1, l2, l3, l4, l5, l6, l7] (zpush v S) h) else none) ∧
  (∀ (l0 l1 l2 l3 l4 l5 l6 l7 : Value) (x : Int32) (S : List Value) (h : zH), rn 286 4 [l0, l1, l2, l3, l4, l5, l6, l7] (.int x :: S) h = if x = nI 0 then rn 286 7 [l0, l1, l2, l3, l4, l5, l6, l7] S h else rn 286 9 [l0, l1, l2, l3, l4, l5, l6, l7] S h) ∧
  (∀ (l0 l1 l2 l3 l4 l5 l6 l7 : Value) (S : List Value) (h : zH), rn 286 7 [l0, l1, l2, l3, l4, l5, l6, l7] S h = rn 286 8 [l0, l1, l2, l3, l4, l5, l6, l7] (.int (-1) :: S) h) ∧
  (∀ (l0 l1 l2 l3 l4 l5 l6 l7 : Value) (x : Int32) (h : zH), rn 286 8 [l0, l1, l2, l3, l4, l5, l6, l7] [.int x] h = some (some (.int x), h)) ∧
  (∀ (l1 l2 l3 l4 l5 l6 l7 : Value) (x : Nat) (S : List Value) (h : zH), rn 286 9 [.ref x, l1, l2, l3, l4, l5, l6, l7] S h = rn 286 10 [.ref x, l1, l2, l3, l4, l5, l6, l7] (.ref x :: S) h) ∧
  (∀ (l0 l1 l2 l3 l4 l5 l6 l7 : Value) (S : List Value) (h : zH), rn 286 10 [l0, l1, l2, l3, l4, l5, l6, l7] S h = rn 286 11 [l0, l1, l2, l3, l4, l5, l6, l7] (.int (nI 0) :: S) h) ∧
  (∀ (l0 l1 l2 l3 l4 l5 l6 l7 : Value) (a : Nat) (v : Value) (S : List Value) (h : zH), rn 286 11 [l0, l1, l2, l3, l4, l5, l6, l7] (v :: .ref a :: S) h = zpf h a 12 9 v fun h => rn 286 14 [l0, l1, l2, l3, l4, l5, l6, l7] S h) ∧
  (∀ (l0 l1 l2 l3 l4 l5 l6 l7 : Value) (S : List Value) (h : zH), rn 286 14 [l0, l1, l2, l3, l4, l5, l6, l7] S h = rn 286 15 [l0, l1, l2, l3, l4, l5, l6, l7] (.int (nI 0) :: S) h) ∧
  (∀ (l0 l1 l2 l3 l4 l5 l6 l7 : Value) (x : Int32) (S : List Value) (h : zH), rn 286 15 [l0, l1, l2, l3, l4, l5, l6, l7] (.int x :: S) h = nl l2 (rn 286 16 [l0, l1, l2, .int x, l4, l5, l6, l7] S h)) ∧
  (∀ (l0 l1 l2 l3 l4 l5 l6 l7 : Value) (S : List Value) (h : zH), rn 286 17 [l0, l1, l2, l3, l4, l5, l6, l7] S h = rn 286 19 [l0, l1, l2, l3, l4, l5, l6, l7] (.int (nI 7) :: S) h) ∧
  (∀ (l0 l1 l2 l3 l4 l5 l6 l7 : Value) (x : Int32) (y : Int32) (S : List Value) (h : zH), rn 286 19 [l0, l1, l2, l3, l4, l5, l6, l7] (.int y :: .int x :: S) h = if y ≤ x then rn 286 137 [l0, l1, l2, l3, l4, l5, l6, l7] S h else rn 286 22 [l0, l1, l2, l3, l4, l5, l6, l7] S h) ∧
  (∀ (l0 l1 l2 l4 l5 l6 l7 : Value) (x : Int32) (S : List Value) (h : zH), rn 286 22 [l0, l1, l2, .int x, l4, l5, l6, l7] S h = rn 286 23 [l0, l1, l2, .int x, l4, l5, l6, l7] (.int x :: S) h) ∧
  (∀ (l0 l1 l2 l3 l4 l5 l6 l7 : Value) (S : List Value) (h : zH), rn 286 23 [l0, l1, l2, l3, l4, l5, l6, l7] S h = rn 286 24 [l0, l1, l2, l3, l4, l5, l6, l7] (.int (nI 4) :: S) h) ∧
  (∀ (l0 l1 l2 l3 l4 l5 l6 l7 : Value) (x : Int32) (y : Int32) (S : List Value) (h : zH), rn 286 24 [l0, l1, l2, l3, l4, l5, l6, l7] (.int y :: .int x :: S) h = if y ≤ x then rn 286 31 [l0, l1, l2, l3, l4, l5, l6, l7] S h else rn 286 27 [l0, l1, l2, l3, l4, l5, l6, l7] S h) ∧
  (∀ (l0 l1 l2 l4 l5 l6 l7 : Value) (x : Int32) (S : List Value) (h : zH), rn 286 27 [l0, l1, l2, .int x, l4, l5, l6, l7] S h = rn 286 28 [l0, l1, l2, .int x, l4, l5, l6, l7] (.int x :: S) h) ∧
  (∀ (l0 l1 l2 l3 l4 l5 l6 l7 : Value) (S : List Value) (h : zH), rn 286 28 [l0, l1, l2, l3, l4, l5, l6, l7] S h = rn 286 52 [l0, l1, l2, l3, l4, l5, l6, l7] S h) ∧
  (∀ (l0 l1 l2 l4 l5 l6 l7 : Value) (x : Int32) (S : List Value) (h : zH), rn 286 31 [l0, l1, l2, .int x, l4, l5, l6, l7] S h = rn 286 32 [l0, l1, l2, .int x, l4, l5, l6, l7] (.int x :: S) h) ∧
  (∀ (l0 l1 l2 l3 l4 l5 l6 l7 : Value) (S : List Value) (h : zH), rn 286 32 [l0, l1, l2, l3, l4, l5, l6, l7] S h = rn 286 33 [l0, l1, l2, l3, l4, l5, l6, l7] (.int (nI 4) :: S) h) ∧
  (∀ (l0 l1 l2 l3 l4 l5 l6 l7 : Value) (x : Int32) (y : Int32) (S : List Value) (h : zH), rn 286 33 [l0, l1, l2, l3, l4, l5, l6, l7] (.int y :: .int x :: S) h = if x = y then rn 286 36 [l0, l1, l2, l3, l4, l5, l6, l7] S h else rn 286 40 [l0, l1, l2, l3, l4, l5, l6, l7] S h) ∧
  (∀ (l0 l1 l2 l3 l4 l5 l6 l7 : Value) (S : List Value) (h : zH), rn 286 36 [l0, l1, l2, l3, l4, l5, l6, l7] S h = rn 286 37 [l0, l1, l2, l3, l4, l5, l6, l7] (.int (nI 5) :: S) h) ∧
  (∀ (l0 l1 l2 l3 l4 l5 l6 l7 : Value) (S : List Value) (h : zH), rn 286 37 [l0, l1, l2, l3, l4, l5, l6, l7] S h = rn 286 52 [l0, l1, l2, l3, l4, l5, l6, l7] S h) ∧
  (∀ (l0 l1 l2 l4 l5 l6 l7 : Value) (x : Int32) (S : List Value) (h : zH), rn 286 40 [l0, l1, l2, .int x, l4, l5, l6, l7] S h = rn 286 41 [l0, l1, l2, .int x, l4, l5, l6, l7] (.int x :: S) h) ∧
  (∀ (l0 l1 l2 l3 l4 l5 l6 l7 : Value) (S : List Value) (h : zH), rn 286 41 [l0, l1, l2, l3, l4, l5, l6, l7] S h = rn 286 42 [l0, l1, l2, l3, l4, l5, l6, l7] (.int (nI 5) :: S) h) ∧
  (∀ (l0 l1 l2 l3 l4 l5 l6 l7 : Value) (x : Int32) (y : Int32) (S : List Value) (h : zH), rn 286 42 [l0, l1, l2, l3, l4, l5, l6, l7] (.int y :: .int x :: S) h = if x = y then rn 286 45 [l0, l1, l2, l3, l4, l5, l6, l7] S h else rn 286 50 [l0, l1, l2, l3, l4, l5, l6, l7] S h) ∧
  (∀ (l0 l1 l2 l3 l4 l5 l6 l7 : Value) (S : List Value) (h : zH), rn 286 45 [l0, l1, l2, l3, l4, l5, l6, l7] S h = rn 286 47 [l0, l1, l2, l3, l4, l5, l6, l7] (.int (nI 6) :: S) h) ∧
  (∀ (l0 l1 l2 l3 l4 l5 l6 l7 : Value) (S : List Value) (h : zH), rn 286 47 [l0, l1, l2, l3, l4, l5, l6, l7] S h = rn 286 52 [l0, l1, l2, l3, l4, l5, l6, l7] S h) ∧
  (∀ (l0 l1 l2 l3 l4 l5 l6 l7 : Value) (S : List Value) (h : zH), rn 286 50 [l0, l1, l2, l3, l4, l5, l6, l7] S h = rn 286 52 [l0, l1, l2, l3, l4, l5, l6, l7] (.int (nI 7) :: S) h) ∧
  (∀ (l0 l1 l2 l3 l4 l5 l6 l7 : Value) (x : Int32) (S : List Value) (h : zH), rn 286 52 [l0, l1, l2, l3, l4, l5, l6, l7] (.int x :: S) h = nl l3 (rn 286 54 [l0, l1, l2, l3, .int x, l5, l6, l7] S h)) ∧
  (∀ (l1 l2 l3 l4 l5 l6 l7 : Value) (x : Nat) (S : List Value) (h : zH), rn 286 54 [.ref x, l1, l2, l3, l4, l5, l6, l7] S h = rn 286 55 [.ref x, l1, l2, l3, l4, l5, l6, l7] (.ref x :: S) h) ∧
  (∀ (l0 l2 l3 l4 l5 l6 l7 : Value) (x : Int32) (S : List Value) (h : zH), rn 286 55 [l0, .int x, l2, l3, l4, l5, l6, l7] S h = rn 286 56 [l0, .int x, l2, l3, l4, l5, l6, l7] (.int x :: S) h) ∧
  (∀ (l0 l1 l2 l3 l5 l6 l7 : Value) (x : Int32) (S : List Value) (h : zH), rn 286 56 [l0, l1, l2, l3, .int x, l5, l6, l7] S h = rn 286 58 [l0, l1, l2, l3, .int x, l5, l6, l7] (.int x :: S) h) ∧
  (∀ (l0 l1 l2 l3 l4 l5 l6 l7 : Value) (S : List Value) (h : zH), rn 286 58 [l0, l1, l2, l3, l4, l5, l6, l7] S h = rn 286 60 [l0, l1, l2, l3, l4, l5, l6, l7] (.int (nI 6) :: S) h) ∧
  (∀ (l0 l1 l2 l3 l4 l5 l6 l7 : Value) (x : Int32) (y : Int32) (S : List Value) (h : zH), rn 286 60 [l0, l1, l2, l3, l4, l5, l6, l7] (.int y :: .int x :: S) h = if x = y then rn 286 63 [l0, l1, l2, l3, l4, l5, l6, l7] S h else rn 286 68 [l0, l1, l2, l3, l4, l5, l6, l7] S h) ∧
  (∀ (l0 l1 l2 l3 l4 l5 l6 l7 : Value) (S : List Value) (h : zH), rn 286 63 [l0, l1, l2, l3, l4, l5, l6, l7] S h = rn 286 65 [l0, l1, l2, l3, l4, l5, l6, l7] (.int (nI 8) :: S) h) ∧
  (∀ (l0 l1 l2 l3 l4 l5 l6 l7 : Value) (S : List Value) (h : zH), rn 286 65 [l0, l1, l2, l3, l4, l5, l6, l7] S h = rn 286 70 [l0, l1, l2, l3, l4, l5, l6, l7] S h) ∧
  (∀ (l0 l1 l2 l3 l5 l6 l7 : Value) (x : Int32) (S : List Value) (h : zH), rn 286 68 [l0, l1, l2, l3, .int x, l5, l6, l7] S h = rn 286 70 [l0, l1, l2, l3, .int x, l5, l6, l7] (.int x :: S) h) ∧
  (∀ (l0 l1 l2 l3 l4 l5 l6 l7 : Value) (o : Nat) (v0 : Value) (v1 : Value) (S : List Value) (h : zH), rn 286 70 [l0, l1, l2, l3, l4, l5, l6, l7] (v1 :: v0 :: .ref o :: S) h = if zkd h o = 12 ∧ zsum S ≤ 8 then zcall (ev 282 [.ref o, v0, v1] h) (fun v h => rn 286 73 [l0, l1, l2, l3, l4, l5, l6, l7] (zpush v S) h) else none) ∧
  (∀ (l0 l1 l2 l3 l4 l5 l6 l7 : Value) (x : Int64) (S : List Value) (h : zH), rn 286 73 [l0, l1, l2, l3, l4, l5, l6, l7] (.long x :: S) h = nl l4 (rn 286 75 [l0, l1, l2, l3, l4, .long x, .float 0, l7] S h)) ∧
  (∀ (l0 l1 l2 l4 l5 l6 l7 : Value) (x : Int32) (S : List Value) (h : zH), rn 286 75 [l0, l1, l2, .int x, l4, l5, l6, l7] S h = rn 286 76 [l0, l1, l2, .int x, l4, l5, l6, l7] (.int x :: S) h) ∧
  (∀ (l0 l1 l2 l3 l4 l5 l6 l7 : Value) (S : List Value) (h : zH), rn 286 76 [l0, l1, l2, l3, l4, l5, l6, l7] S h = rn 286 77 [l0, l1, l2, l3, l4, l5, l6, l7] (.int (nI 4) :: S) h) ∧
  (∀ (l0 l1 l2 l3 l4 l5 l6 l7 : Value) (x : Int32) (y : Int32) (S : List Value) (h : zH), rn 286 77 [l0, l1, l2, l3, l4, l5, l6, l7] (.int y :: .int x :: S) h = if y ≤ x then rn 286 104 [l0, l1, l2, l3, l4, l5, l6, l7] S h else rn 286 80 [l0, l1, l2, l3, l4, l5, l6, l7] S h) ∧
  (∀ (l0 l1 l2 l3 l4 l6 l7 : Value) (x : Int64) (S : List Value) (h : zH), rn 286 80 [l0, l1, l2, l3, l4, .long x, l6, l7] S h = rn 286 82 [l0, l1, l2, l3, l4, .long x, l6, l7] (.long x :: S) h) ∧
  (∀ (l1 l2 l3 l4 l5 l6 l7 : Value) (x : Nat) (S : List Value) (h : zH), rn 286 82 [.ref x, l1, l2, l3, l4, l5, l6, l7] S h = rn 286 83 [.ref x, l1, l2, l3, l4, l5, l6, l7] (.ref x :: S) h) ∧
  (∀ (l1 l2 l3 l4 l5 l6 l7 : Value) (x : Nat) (S : List Value) (h : zH), rn 286 83 [.ref x, l1, l2, l3, l4, l5, l6, l7] S h = rn 286 84 [.ref x, l1, l2, l3, l4, l5, l6, l7] (.ref x :: S) h) ∧
  (∀ (l0 l2 l3 l4 l5 l6 l7 : Value) (x : Int32) (S : List Value) (h : zH), rn 286 84 [l0, .int x, l2, l3, l4, l5, l6, l7] S h = rn 286 85 [l0, .int x, l2, l3, l4, l5, l6, l7] (.int x :: S) h) ∧
  (∀ (l1 l2 l3 l4 l5 l6 l7 : Value) (x : Nat) (S : List Value) (h : zH), rn 286 85 [.ref x, l1, l2, l3, l4, l5, l6, l7] S h = rn 286 86 [.ref x, l1, l2, l3, l4, l5, l6, l7] (.ref x :: S) h) ∧
  (∀ (l0 l1 l2 l3 l4 l5 l6 l7 : Value) (o : Nat) (S : List Value) (h : zH), rn 286 86 [l0, l1, l2, l3, l4, l5, l6, l7] (.ref o :: S) h = if zkd h o = 12 ∧ zsum S ≤ 8 then zcall (ev 233 [.ref o] h) (fun v h => rn 286 89 [l0, l1, l2, l3, l4, l5, l6, l7] (zpush v S) h) else none) ∧
  (∀ (l0 l1 l2 l3 l4 l5 l6 l7 : Value) (o : Nat) (v0 : Value) (v1 : Value) (S : List Value) (h : zH), rn 286 89 [l0, l1, l2, l3, l4, l5, l6, l7] (v1 :: v0 :: .ref o :: S) h = if zkd h o = 12 ∧ zsum S ≤ 8 then zcall (ev 238 [.ref o, v0, v1] h) (fun v h => rn 286 92 [l0, l1, l2, l3, l4, l5, l6, l7] (zpush v S) h) else none) ∧
  (∀ (l0 l1 l2 l4 l5 l6 l7 : Value) (x : Int32) (S : List Value) (h : zH), rn 286 92 [l0, l1, l2, .int x, l4, l5, l6, l7] S h = rn 286 93 [l0, l1, l2, .int x, l4, l5, l6, l7] (.int x :: S) h) ∧
  (∀ (l0 l1 l2 l3 l4 l5 l6 l7 : Value) (o : Nat) (v0 : Value) (v1 : Value) (S : List Value) (h : zH), rn 286 93 [l0, l1, l2, l3, l4, l5, l6, l7] (v1 :: v0 :: .ref o :: S) h = if zkd h o = 12 ∧ zsum S ≤ 8 then zcall (ev 240 [.ref o, v0, v1] h) (fun v h => rn 286 96 [l0, l1, l2, l3, l4, l5, l6, l7] (zpush v S) h) else none) ∧
  (∀ (l0 l1 l2 l3 l4 l5 l6 l7 : Value) (x : Int64) (y : Int64) (S : List Value) (h : zH), rn 286 96 [l0, l1, l2, l3, l4, l5, l6, l7] (.long y :: .long x :: S) h = rn 286 97 [l0, l1, l2, l3, l4, l5, l6, l7] (.int (lg_cmp x y) :: S) h) ∧
  (∀ (l0 l1 l2 l3 l4 l5 l6 l7 : Value) (x : Int32) (S : List Value) (h : zH), rn 286 97 [l0, l1, l2, l3, l4, l5, l6, l7] (.int x :: S) h = if x = nI 0 then rn 286 104 [l0, l1, l2, l3, l4, l5, l6, l7] S h else rn 286 100 [l0, l1, l2, l3, l4, l5, l6, l7] S h) ∧
  (∀ (l0 l1 l2 l3 l4 l5 l6 l7 : Value) (S : List Value) (h : zH), rn 286 100 [l0, l1, l2, l3, l4, l5, l6, l7] S h = rn 286 101 [l0, l1, l2, l3, l4, l5, l6, l7] (.int (nI 1) :: S) h) ∧
  (∀ (l0 l1 l2 l3 l4 l5 l6 l7 : Value) (S : List Value) (h : zH), rn 286 101 [l0, l1, l2, l3, l4, l5, l6, l7] S h = rn 286 105 [l0, l1, l2, l3, l4, l5, l6, l7] S h) ∧
  (∀ (l0 l1 l2 l3 l4 l5 l6 l7 : Value) (S : List Value) (h : zH), rn 286 104 [l0, l1, l2, l3, l4, l5, l6, l7] S h = rn 286 105 [l0, l1, l2, l3, l4, l5, l6, l7] (.int (nI 0) :: S) h) ∧
  (∀ (l0 l1 l2 l3 l4 l5 l6 l7 : Value) (x : Int32) (S : List Value) (h : zH), rn 286 105 [l0, l1, l2, l3, l4, l5, l6, l7] (.int x :: S) h = nl l6 (rn 286 107 [l0, l1, l2, l3, l4, l5, l6, .int x] S h)) ∧
  (∀ (l1 l2 l3 l4 l5 l6 l7 : Value) (x : Nat) (S : List Value) (h : zH), rn 286 107 [.ref x, l1, l2, l3, l4, l5, l6, l7] S h = rn 286 108 [.ref x, l1, l2, l3, l4, l5, l6, l7] (.ref x :: S) h) ∧
  (∀ (l0 l1 l2 l3 l5 l6 l7 : Value) (x : Int32) (S : List Value) (h : zH), rn 286 108 [l0, l1, l2, l3, .int x, l5, l6, l7] S h = rn 286 110 [l0, l1, l2, l3, .int x, l5, l6, l7] (.int x :: S) h) ∧
  (∀ (l1 l2 l3 l4 l5 l6 l7 : Value) (x : Nat) (S : List Value) (h : zH), rn 286 110 [.ref x, l1, l2, l3, l4, l5, l6, l7] S h = rn 286 111 [.ref x, l1, l2, l3, l4, l5, l6, l7] (.ref x :: S) h) ∧
  (∀ (l0 l1 l2 l3 l4 l5 l6 l7 : Value) (a : Nat) (S : List Value) (h : zH), rn 286 111 [l0, l1, l2, l3, l4, l5, l6, l7] (.ref a :: S) h = zgf h a 12 0 fun v => rn 286 114 [l0, l1, l2, l3, l4, l5, l6, l7] (v :: S) h) ∧
  (∀ (l0 l1 l2 l3 l4 l5 l6 l7 : Value) (S : List Value) (h : zH), rn 286 114 [l0, l1, l2, l3, l4, l5, l6, l7] S h = rn 286 115 [l0, l1, l2, l3, l4, l5, l6, l7] (.int (nI 0) :: S) h) ∧
  (∀ (l0 l1 l2 l3 l4 l5 l6 l7 : Value) (a : Nat) (j : Int32) (S : List Value) (h : zH), rn 286 115 [l0, l1, l2, l3, l4, l5, l6, l7] (.int j :: .ref a :: S) h = zlj h a j fun x => rn 286 116 [l0, l1, l2, l3, l4, l5, l6, l7] (.long x :: S) h) ∧
  (∀ (l0 l1 l2 l3 l4 l5 l6 : Value) (x : Int32) (S : List Value) (h : zH), rn 286 116 [l0, l1, l2, l3, l4, l5, l6, .int x] S h = rn 286 118 [l0, l1, l2, l3, l4, l5, l6, .int x] (.int x :: S) h) ∧
  (∀ (l0 l1 l2 l3 l4 l5 l6 l7 : Value) (x : Int32) (S : List Value) (h : zH), rn 286 118 [l0, l1, l2, l3, l4, l5, l6, l7] (.int x :: S) h = if x = nI 0 then rn 286 125 [l0, l1, l2, l3, l4, l5, l6, l7] S h else rn 286 121 [l0, l1, l2, l3, l4, l5, l6, l7] S h) ∧
  (∀ (l0 l1 l2 l3 l4 l5 l6 l7 : Value) (S : List Value) (h : zH), rn 286 121 [l0, l1, l2, l3, l4, l5, l6, l7] S h = rn 286 122 [l0, l1, l2, l3, l4, l5, l6, l7] (.long 1 :: S) h) ∧
  (∀ (l0 l1 l2 l3 l4 l5 l6 l7 : Value) (S : List Value) (h : zH), rn 286 122 [l0, l1, l2, l3, l4, l5, l6, l7] S h = rn 286 126 [l0, l1, l2, l3, l4, l5, l6, l7] S h) ∧
  (∀ (l0 l1 l2 l3 l4 l5 l6 l7 : Value) (S : List Value) (h : zH), rn 286 125 [l0, l1, l2, l3, l4, l5, l6, l7] S h = rn 286 126 [l0, l1, l2, l3, l4, l5, l6, l7] (.long 0 :: S) h) ∧
  (∀ (l0 l1 l2 l3 l4 l6 l7 : Value) (x : Int64) (S : List Value) (h : zH), rn 286 126 [l0, l1, l2, l3, l4, .long x, l6, l7] S h = rn 286 128 [l0, l1, l2, l3, l4, .long x, l6, l7] (.long x :: S) h) ∧
  (∀ (l0 l1 l2 l3 l4 l5 l6 l7 : Value) (o : Nat) (v0 : Value) (v1 : Value) (v2 : Value) (v3 : Value) (S : List Value) (h : zH), rn 286 128 [l0, l1, l2, l3, l4, l5, l6, l7] (v3 :: v2 :: v1 :: v0 :: .ref o :: S) h = if zkd h o = 12 ∧ zsum S ≤ 8 then zcall (ev 266 [.ref o, v0, v1, v2, v3] h) (fun v h => rn 286 131 [l0, l1, l2, l3, l4, l5, l6, l7] (zpush v S) h) else none) ∧
  (∀ (l0 l1 l2 l4 l5 l6 l7 : Value) (x : Int32) (S : List Value) (h : zH), rn 286 131 [l0, l1, l2, .int x, l4, l5, l6, l7] S h = nl l2 (rn 286 134 [l0, l1, l2, .int (x + (nI 1)), l4, l5, l6, l7] S h)) ∧
  (∀ (l0 l1 l2 l3 l4 l5 l6 l7 : Value) (S : List Value) (h : zH), rn 286 134 [l0, l1, l2, l3, l4, l5, l6, l7] S h = rn 286 16 [l0, l1, l2, l3, l4, l5, l6, l7] S h) ∧
  (∀ (l1 l2 l3 l4 l5 l6 l7 : Value) (x : Nat) (S : List Value) (h : zH), rn 286 137 [.ref x, l1, l2, l3, l4, l5, l6, l7] S h = rn 286 138 [.ref x, l1, l2, l3, l4, l5, l6, l7] (.ref x :: S) h) ∧
  (∀ (l0 l1 l3 l4 l5 l6 l7 : Value) (x : Int32) (S : List Value) (h : zH), rn 286 138 [l0, l1, .int x, l3, l4, l5, l6, l7] S h = rn 286 139 [l0, l1, .int x, l3, l4, l5, l6, l7] (.int x :: S) h) ∧
  (∀ (l0 l1 l2 l3 l4 l5 l6 l7 : Value) (o : Nat) (v0 : Value) (S : List Value) (h : zH), rn 286 139 [l0, l1, l2, l3, l4, l5, l6, l7] (v0 :: .ref o :: S) h = if zkd h o = 12 ∧ zsum S ≤ 8 then zcall (ev 270 [.ref o, v0] h) (fun v h => rn 286 142 [l0, l1, l2, l3, l4, l5, l6, l7] (zpush v S) h) else none) ∧
  (∀ (l0 l1 l2 l3 l4 l5 l6 l7 : Value) (x : Int32) (h : zH), rn 286 142 [l0, l1, l2, l3, l4, l5, l6, l7] [.int x] h = some (some (.int x), h)) := ⟨fun _ _ _ _ _ _ _ _ _ _ => r_iload_n (show zdec 286 0 = some (.iload_n 1, 1) by decide +kernel) rfl rfl,
  fun _ _ _ _ _ _ _ _ _ _ _ => r_cS [_] rfl (show zdec 286 1 = some (.invokestatic 71, 3) by decide +kernel) (show zst.lookup (286 * zKEY + 71) = some (0, 210, 1, 0) by decide +kernel) (by decide) rfl,
  fun _ _ _ _ _ _ _ _ _ _ _ => r_ifne (show zdec 286 4 = some (.ifCond .ne 5, 3) by decide +kernel) rfl rfl,
  fun _ _ _ _ _ _ _ _ _ _ => r_iconst (show zdec 286 7 = some (.iconst (-1), 1) by decide +kernel) rfl rfl,
  fun _ _ _ _ _ _ _ _ _ _ => r_ireti (show zdec 286 8 = some (.ireturn, 1) by decide +kernel) (by decide +kernel),
  fun _ _ _ _ _ _ _ _ _ _ => r_aload_nr (show zdec 286 9 = some (.aload_n 0, 1) by decide +kernel) rfl rfl,
  fun _ _ _ _ _ _ _ _ _ _ => r_iconst (show zdec 286 10 = some (.iconst 0, 1) by decide +kernel) rfl rfl,
  fun _ _ _ _ _ _ _ _ _ _ _ _ => r_putfield (show zdec 286 11 = some (.putfield 186, 3) by decide +kernel) (show zft.lookup (286 * zKEY + 186) = some (12, 9) by decide +kernel) (by decide +kernel) rfl,
  fun _ _ _ _ _ _ _ _ _ _ => r_iconst (show zdec 286 14 = some (.iconst 0, 1) by decide +kernel) rfl rfl,
  fun _ _ _ _ _ _ _ _ _ _ _ => r_istore_n (show zdec 286 15 = some (.istore_n 3, 1) by decide +kernel) rfl rfl (Nat.le_of_ble_eq_true rfl) rfl rfl,
  fun _ _ _ _ _ _ _ _ _ _ => r_bipush (show zdec 286 17 = some (.bipush 7, 2) by decide +kernel) rfl rfl,
  fun _ _ _ _ _ _ _ _ _ _ _ _ => r_icmpge (show zdec 286 19 = some (.if_icmp .ge 118, 3) by decide +kernel) rfl rfl,
  fun _ _ _ _ _ _ _ _ _ _ => r_iload_n (show zdec 286 22 = some (.iload_n 3, 1) by decide +kernel) rfl rfl,
  fun _ _ _ _ _ _ _ _ _ _ => r_iconst (show zdec 286 23 = some (.iconst 4, 1) by decide +kernel) rfl rfl,
  fun _ _ _ _ _ _ _ _ _ _ _ _ => r_icmpge (show zdec 286 24 = some (.if_icmp .ge 7, 3) by decide +kernel) rfl rfl,
  fun _ _ _ _ _ _ _ _ _ _ => r_iload_n (show zdec 286 27 = some (.iload_n 3, 1) by decide +kernel) rfl rfl,
  fun _ _ _ _ _ _ _ _ _ _ => r_goto (show zdec 286 28 = some (.goto 24, 3) by decide +kernel) rfl,
  fun _ _ _ _ _ _ _ _ _ _ => r_iload_n (show zdec 286 31 = some (.iload_n 3, 1) by decide +kernel) rfl rfl,
  fun _ _ _ _ _ _ _ _ _ _ => r_iconst (show zdec 286 32 = some (.iconst 4, 1) by decide +kernel) rfl rfl,
  fun _ _ _ _ _ _ _ _ _ _ _ _ => r_icmpne (show zdec 286 33 = some (.if_icmp .ne 7, 3) by decide +kernel) rfl rfl,
  fun _ _ _ _ _ _ _ _ _ _ => r_iconst (show zdec 286 36 = some (.iconst 5, 1) by decide +kernel) rfl rfl,
  fun _ _ _ _ _ _ _ _ _ _ => r_goto (show zdec 286 37 = some (.goto 15, 3) by decide +kernel) rfl,
  fun _ _ _ _ _ _ _ _ _ _ => r_iload_n (show zdec 286 40 = some (.iload_n 3, 1) by decide +kernel) rfl rfl,
  fun _ _ _ _ _ _ _ _ _ _ => r_iconst (show zdec 286 41 = some (.iconst 5, 1) by decide +kernel) rfl rfl,
  fun _ _ _ _ _ _ _ _ _ _ _ _ => r_icmpne (show zdec 286 42 = some (.if_icmp .ne 8, 3) by decide +kernel) rfl rfl,
  fun _ _ _ _ _ _ _ _ _ _ => r_bipush (show zdec 286 45 = some (.bipush 6, 2) by decide +kernel) rfl rfl,
  fun _ _ _ _ _ _ _ _ _ _ => r_goto (show zdec 286 47 = some (.goto 5, 3) by decide +kernel) rfl,
  fun _ _ _ _ _ _ _ _ _ _ => r_bipush (show zdec 286 50 = some (.bipush 7, 2) by decide +kernel) rfl rfl,
  fun _ _ _ _ _ _ _ _ _ _ _ => r_istore (show zdec 286 52 = some (.istore 4, 2) by decide +kernel) rfl (Nat.le_of_ble_eq_true rfl) rfl rfl,
  fun _ _ _ _ _ _ _ _ _ _ => r_aload_nr (show zdec 286 54 = some (.aload_n 0, 1) by decide +kernel) rfl rfl,
  fun _ _ _ _ _ _ _ _ _ _ => r_iload_n (show zdec 286 55 = some (.iload_n 1, 1) by decide +kernel) rfl rfl,
  fun _ _ _ _ _ _ _ _ _ _ => r_iload (show zdec 286 56 = some (.iload 4, 2) by decide +kernel) rfl rfl,
  fun _ _ _ _ _ _ _ _ _ _ => r_bipush (show zdec 286 58 = some (.bipush 6, 2) by decide +kernel) rfl rfl,
  fun _ _ _ _ _ _ _ _ _ _ _ _ => r_icmpne (show zdec 286 60 = some (.if_icmp .ne 8, 3) by decide +kernel) rfl rfl,
  fun _ _ _ _ _ _ _ _ _ _ => r_bipush (show zdec 286 63 = some (.bipush 8, 2) by decide +kernel) rfl rfl,
  fun _ _ _ _ _ _ _ _ _ _ => r_goto (show zdec 286 65 = some (.goto 5, 3) by decide +kernel) rfl,
  fun _ _ _ _ _ _ _ _ _ _ => r_iload (show zdec 286 68 = some (.iload 4, 2) by decide +kernel) rfl rfl,
  fun _ _ _ _ _ _ _ _ _ _ _ _ _ => r_cV [_, _] rfl (show zdec 286 70 = some (.invokevirtual 259, 3) by decide +kernel) (show zst.lookup (286 * zKEY + 259) = some (1, 282, 2, 12) by decide +kernel) (by decide) rfl,
  fun _ _ _ _ _ _ _ _ _ _ _ => r_lstore (show zdec 286 73 = some (.lstore 5, 2) by decide +kernel) rfl (Nat.le_of_ble_eq_true rfl) rfl rfl,
  fun _ _ _ _ _ _ _ _ _ _ => r_iload_n (show zdec 286 75 = some (.iload_n 3, 1) by decide +kernel) rfl rfl,
  fun _ _ _ _ _ _ _ _ _ _ => r_iconst (show zdec 286 76 = some (.iconst 4, 1) by decide +kernel) rfl rfl,
  fun _ _ _ _ _ _ _ _ _ _ _ _ => r_icmpge (show zdec 286 77 = some (.if_icmp .ge 27, 3) by decide +kernel) rfl rfl,
  fun _ _ _ _ _ _ _ _ _ _ => r_lload (show zdec 286 80 = some (.lload 5, 2) by decide +kernel) rfl rfl,
  fun _ _ _ _ _ _ _ _ _ _ => r_aload_nr (show zdec 286 82 = some (.aload_n 0, 1) by decide +kernel) rfl rfl,
  fun _ _ _ _ _ _ _ _ _ _ => r_aload_nr (show zdec 286 83 = some (.aload_n 0, 1) by decide +kernel) rfl rfl,
  fun _ _ _ _ _ _ _ _ _ _ => r_iload_n (show zdec 286 84 = some (.iload_n 1, 1) by decide +kernel) rfl rfl,
  fun _ _ _ _ _ _ _ _ _ _ => r_aload_nr (show zdec 286 85 = some (.aload_n 0, 1) by decide +kernel) rfl rfl,
  fun _ _ _ _ _ _ _ _ _ _ _ => r_cV [] rfl (show zdec 286 86 = some (.invokevirtual 164, 3) by decide +kernel) (show zst.lookup (286 * zKEY + 164) = some (1, 233, 0, 12) by decide +kernel) (by decide) rfl,
  fun _ _ _ _ _ _ _ _ _ _ _ _ _ => r_cV [_, _] rfl (show zdec 286 89 = some (.invokevirtual 125, 3) by decide +kernel) (show zst.lookup (286 * zKEY + 125) = some (1, 238, 2, 12) by decide +kernel) (by decide) rfl,
  fun _ _ _ _ _ _ _ _ _ _ => r_iload_n (show zdec 286 92 = some (.iload_n 3, 1) by decide +kernel) rfl rfl,
  fun _ _ _ _ _ _ _ _ _ _ _ _ _ => r_cV [_, _] rfl (show zdec 286 93 = some (.invokevirtual 128, 3) by decide +kernel) (show zst.lookup (286 * zKEY + 128) = some (1, 240, 2, 12) by decide +kernel) (by decide) rfl,
  fun _ _ _ _ _ _ _ _ _ _ _ _ => r_lcmp (show zdec 286 96 = some (.lcmp, 1) by decide +kernel) rfl,
  fun _ _ _ _ _ _ _ _ _ _ _ => r_ifeq (show zdec 286 97 = some (.ifCond .eq 7, 3) by decide +kernel) rfl rfl,
  fun _ _ _ _ _ _ _ _ _ _ => r_iconst (show zdec 286 100 = some (.iconst 1, 1) by decide +kernel) rfl rfl,
  fun _ _ _ _ _ _ _ _ _ _ => r_goto (show zdec 286 101 = some (.goto 4, 3) by decide +kernel) rfl,
  fun _ _ _ _ _ _ _ _ _ _ => r_iconst (show zdec 286 104 = some (.iconst 0, 1) by decide +kernel) rfl rfl,
  fun _ _ _ _ _ _ _ _ _ _ _ => r_istore (show zdec 286 105 = some (.istore 7, 2) by decide +kernel) rfl (Nat.le_of_ble_eq_true rfl) rfl rfl,
  fun _ _ _ _ _ _ _ _ _ _ => r_aload_nr (show zdec 286 107 = some (.aload_n 0, 1) by decide +kernel) rfl rfl,
  fun _ _ _ _ _ _ _ _ _ _ => r_iload (show zdec 286 108 = some (.iload 4, 2) by decide +kernel) rfl rfl,
  fun _ _ _ _ _ _ _ _ _ _ => r_aload_nr (show zdec 286 110 = some (.aload_n 0, 1) by decide +kernel) rfl rfl,
  fun _ _ _ _ _ _ _ _ _ _ _ => r_getfield (show zdec 286 111 = some (.getfield 9, 3) by decide +kernel) (show zft.lookup (286 * zKEY + 9) = some (12, 0) by decide +kernel) rfl,
  fun _ _ _ _ _ _ _ _ _ _ => r_iconst (show zdec 286 114 = some (.iconst 0, 1) by decide +kernel) rfl rfl,
  fun _ _ _ _ _ _ _ _ _ _ _ _ => r_lald (show zdec 286 115 = some (.laload, 1) by decide +kernel) rfl,
  fun _ _ _ _ _ _ _ _ _ _ => r_iload (show zdec 286 116 = some (.iload 7, 2) by decide +kernel) rfl rfl,
  fun _ _ _ _ _ _ _ _ _ _ _ => r_ifeq (show zdec 286 118 = some (.ifCond .eq 7, 3) by decide +kernel) rfl rfl,
  fun _ _ _ _ _ _ _ _ _ _ => r_lconst (show zdec 286 121 = some (.lconst 1, 1) by decide +kernel) rfl rfl,
  fun _ _ _ _ _ _ _ _ _ _ => r_goto (show zdec 286 122 = some (.goto 4, 3) by decide +kernel) rfl,
  fun _ _ _ _ _ _ _ _ _ _ => r_lconst (show zdec 286 125 = some (.lconst 0, 1) by decide +kernel) rfl rfl,
  fun _ _ _ _ _ _ _ _ _ _ => r_lload (show zdec 286 126 = some (.lload 5, 2) by decide +kernel) rfl rfl,
  fun _ _ _ _ _ _ _ _ _ _ _ _ _ _ _ => r_cV [_, _, _, _] rfl (show zdec 286 128 = some (.invokevirtual 230, 3) by decide +kernel) (show zst.lookup (286 * zKEY + 230) = some (1, 266, 4, 12) by decide +kernel) (by decide) rfl,
  fun _ _ _ _ _ _ _ _ _ _ => r_iinc (show zdec 286 131 = some (.iinc 3 1, 3) by decide +kernel) rfl rfl rfl (Nat.le_of_ble_eq_true rfl) rfl rfl,
  fun _ _ _ _ _ _ _ _ _ _ => r_goto (show zdec 286 134 = some (.goto (-118), 3) by decide +kernel) rfl,
  fun _ _ _ _ _ _ _ _ _ _ => r_aload_nr (show zdec 286 137 = some (.aload_n 0, 1) by decide +kernel) rfl rfl,
  fun _ _ _ _ _ _ _ _ _ _ => r_iload_n (show zdec 286 138 = some (.iload_n 2, 1) by decide +kernel) rfl rfl,
  fun _ _ _ _ _ _ _ _ _ _ _ _ => r_cV [_] rfl (show zdec 286 139 = some (.invokevirtual 234, 3) by decide +kernel) (show zst.lookup (286 * zKEY + 234) = some (1, 270, 1, 12) by decide +kernel) (by decide) rfl,
  fun _ _ _ _ _ _ _ _ _ _ => r_ireti (show zdec 286 142 = some (.ireturn, 1) by decide +kernel) (by decide +kernel)⟩
theorem zl_286_16 : ∀ (l0 l1 l2 l4 l5 l6 l7 : Value) (x : Int32) (S : List Value) (h : zH), rn 286 16 [l0, l1, l2, .int x, l4, l5, l6, l7] S h = rn 286 17 [l0, l1, l2, .int x, l4, l5, l6, l7] (.int x :: S) h := fun _ _ _ _ _ _ _ _ _ _ => r_iload_n (show zdec 286 16 = some (.iload_n 3, 1) by decide +kernel) rfl rfl
theorem ze_286 : ∀ (a0 : Nat) (a1 : Int32) (a2 : Int32) (h : zH), ev 286 [.ref a0, .int a1, .int a2] h = rn 286 0 [.ref a0, .int a1, .int a2, .float 0, .float 0, .float 0, .float 0, .float 0] [] h := fun _ _ _ _ => if_pos (Nat.le_of_ble_eq_true rfl)
-- PayrollRunModel.lowest(I)I
theorem zr_287 : (∀ (l0 l2 l3 : Value) (x : Int32) (S : List Value) (h : zH), rn 287 0 [l0, .int x, l2, l3] S h = rn 287 1 [l0, .int x, l2, l3] (.int x :: S) h) ∧
  (∀ (l0 l1 l2 l3 : Value) (v0 : Value) (S : List Value) (h : zH), rn 287 1 [l0, l1, l2, l3] (v0 :: S) h = if zsum S ≤ 8 then zcall (ev 210 [v0] h) (fun v h => rn 287 4 [l0, l1, l2, l3] (zpush v S) h) else none) ∧
  (∀ (l0 l1 l2 l3 : Value) (x : Int32) (S : List Value) (h : zH), rn 287 4 [l0, l1, l2, l3] (.int x :: S) h = if x = nI 0 then rn 287 7 [l0, l1, l2, l3] S h else rn 287 9 [l0, l1, l2, l3] S h) ∧
  (∀ (l0 l1 l2 l3 : Value) (S : List Value) (h : zH), rn 287 7 [l0, l1, l2, l3] S h = rn 287 8 [l0, l1, l2, l3] (.int (-1) :: S) h) ∧
  (∀ (l0 l1 l2 l3 : Value) (x : Int32) (h : zH), rn 287 8 [l0, l1, l2, l3] [.int x] h = some (some (.int x), h)) ∧
  (∀ (l0 l1 l2 l3 : Value) (S : List Value) (h : zH), rn 287 9 [l0, l1, l2, l3] S h = rn 287 11 [l0, l1, l2, l3] (.int (-2) :: S) h) ∧
  (∀ (l0 l1 l2 l3 : Value) (x : Int32) (S : List Value) (h : zH), rn 287 11 [l0, l1, l2, l3] (.int x :: S) h = nl l1 (rn 287 12 [l0, l1, .int x, l3] S h)) ∧
  (∀ (l0 l1 l2 l3 : Value) (S : List Value) (h : zH), rn 287 12 [l0, l1, l2, l3] S h = rn 287 13 [l0, l1, l2, l3] (.int (nI 0) :: S) h) ∧
  (∀ (l0 l1 l2 l3 : Value) (x : Int32) (S : List Value) (h : zH), rn 287 13 [l0, l1, l2, l3] (.int x :: S) h = nl l2 (rn 287 14 [l0, l1, l2, .int x] S h)) ∧
  (∀ (l1 l2 l3 : Value) (x : Nat) (S : List Value) (h : zH), rn 287 15 [.ref x, l1, l2, l3] S h = rn 287 16 [.ref x, l1, l2, l3] (.ref x :: S) h) ∧
  (∀ (l0 l1 l2 l3 : Value) (o : Nat) (S : List Value) (h : zH), rn 287 16 [l0, l1, l2, l3] (.ref o :: S) h = if zkd h o = 12 ∧ zsum S ≤ 8 then zcall (ev 233 [.ref o] h) (fun v h => rn 287 19 [l0, l1, l2, l3] (zpush v S) h) else none) ∧
  (∀ (l0 l1 l2 l3 : Value) (x : Int32) (y : Int32) (S : List Value) (h : zH), rn 287 19 [l0, l1, l2, l3] (.int y :: .int x :: S) h = if y ≤ x then rn 287 54 [l0, l1, l2, l3] S h else rn 287 22 [l0, l1, l2, l3] S h) ∧
  (∀ (l0 l1 l3 : Value) (x : Int32) (S : List Value) (h : zH), rn 287 22 [l0, l1, .int x, l3] S h = rn 287 23 [l0, l1, .int x, l3] (.int x :: S) h) ∧
  (∀ (l0 l1 l2 l3 : Value) (x : Int32) (S : List Value) (h : zH), rn 287 23 [l0, l1, l2, l3] (.int x :: S) h = if x < nI 0 then rn 287 42 [l0, l1, l2, l3] S h else rn 287 26 [l0, l1, l2, l3] S h) ∧
  (∀ (l1 l2 l3 : Value) (x : Nat) (S : List Value) (h : zH), rn 287 26 [.ref x, l1, l2, l3] S h = rn 287 27 [.ref x, l1, l2, l3] (.ref x :: S) h) ∧
  (∀ (l0 l2 l3 : Value) (x : Int32) (S : List Value) (h : zH), rn 287 27 [l0, .int x, l2, l3] S h = rn 287 28 [l0, .int x, l2, l3] (.int x :: S) h) ∧
  (∀ (l0 l1 l2 : Value) (x : Int32) (S : List Value) (h : zH), rn 287 28 [l0, l1, l2, .int x] S h = rn 287 29 [l0, l1, l2, .int x] (.int x :: S) h) ∧
  (∀ (l0 l1 l2 l3 : Value) (o : Nat) (v0 : Value) (v1 : Value) (S : List Value) (h : zH), rn 287 29 [l0, l1, l2, l3] (v1 :: v0 :: .ref o :: S) h = if zkd h o = 12 ∧ zsum S ≤ 8 then zcall (ev 272 [.ref o, v0, v1] h) (fun v h => rn 287 32 [l0, l1, l2, l3] (zpush v S) h) else none) ∧
  (∀ (l1 l2 l3 : Value) (x : Nat) (S : List Value) (h : zH), rn 287 32 [.ref x, l1, l2, l3] S h = rn 287 33 [.ref x, l1, l2, l3] (.ref x :: S) h) ∧
  (∀ (l0 l2 l3 : Value) (x : Int32) (S : List Value) (h : zH), rn 287 33 [l0, .int x, l2, l3] S h = rn 287 34 [l0, .int x, l2, l3] (.int x :: S) h) ∧
  (∀ (l0 l1 l3 : Value) (x : Int32) (S : List Value) (h : zH), rn 287 34 [l0, l1, .int x, l3] S h = rn 287 35 [l0, l1, .int x, l3] (.int x :: S) h) ∧
  (∀ (l0 l1 l2 l3 : Value) (o : Nat) (v0 : Value) (v1 : Value) (S : List Value) (h : zH), rn 287 35 [l0, l1, l2, l3] (v1 :: v0 :: .ref o :: S) h = if zkd h o = 12 ∧ zsum S ≤ 8 then zcall (ev 272 [.ref o, v0, v1] h) (fun v h => rn 287 38 [l0, l1, l2, l3] (zpush v S) h) else none) ∧
  (∀ (l0 l1 l2 l3 : Value) (x : Int64) (y : Int64) (S : List Value) (h : zH), rn 287 38 [l0, l1, l2, l3] (.long y :: .long x :: S) h = rn 287 39 [l0, l1, l2, l3] (.int (lg_cmp x y) :: S) h) ∧
  (∀ (l0 l1 l2 l3 : Value) (x : Int32) (S : List Value) (h : zH), rn 287 39 [l0, l1, l2, l3] (.int x :: S) h = if nI 0 ≤ x then rn 287 46 [l0, l1, l2, l3] S h else rn 287 42 [l0, l1, l2, l3] S h) ∧
  (∀ (l0 l1 l2 : Value) (x : Int32) (S : List Value) (h : zH), rn 287 42 [l0, l1, l2, .int x] S h = rn 287 43 [l0, l1, l2, .int x] (.int x :: S) h) ∧
  (∀ (l0 l1 l2 l3 : Value) (S : List Value) (h : zH), rn 287 43 [l0, l1, l2, l3] S h = rn 287 47 [l0, l1, l2, l3] S h) ∧
  (∀ (l0 l1 l3 : Value) (x : Int32) (S : List Value) (h : zH), rn 287 46 [l0, l1, .int x, l3] S h = rn 287 47 [l0, l1, .int x, l3] (.int x :: S) h) ∧
  (∀ (l0 l1 l2 l3 : Value) (x : Int32) (S : List Value) (h : zH), rn 287 47 [l0, l1, l2, l3] (.int x :: S) h = nl l1 (rn 287 48 [l0, l1, .int x, l3] S h)) ∧
  (∀ (l0 l1 l2 : Value) (x : Int32) (S : List Value) (h : zH), rn 287 48 [l0, l1, l2, .int x] S h = nl l2 (rn 287 51 [l0, l1, l2, .int (x + (nI 1))] S h)) ∧
  (∀ (l0 l1 l2 l3 : Value) (S : List Value) (h : zH), rn 287 51 [l0, l1, l2, l3] S h = rn 287 14 [l0, l1, l2, l3] S h) ∧
  (∀ (l0 l1 l3 : Value) (x : Int32) (S : List Value) (h : zH), rn 287 54 [l0, l1, .int x, l3] S h = rn 287 55 [l0, l1, .int x, l3] (.int x :: S) h) ∧
  (∀ (l0 l1 l2 l3 : Value) (x : Int32) (h : zH), rn 287 55 [l0, l1, l2, l3] [.int x] h = some (some (.int x), h)) := ⟨fun _ _ _ _ _ _ => r_iload_n (show zdec 287 0 = some (.iload_n 1, 1) by decide +kernel) rfl rfl,
  fun _ _ _ _ _ _ _ => r_cS [_] rfl (show zdec 287 1 = some (.invokestatic 71, 3) by decide +kernel) (show zst.lookup (287 * zKEY + 71) = some (0, 210, 1, 0) by decide +kernel) (by decide) rfl,
  fun _ _ _ _ _ _ _ => r_ifne (show zdec 287 4 = some (.ifCond .ne 5, 3) by decide +kernel) rfl rfl,
  fun _ _ _ _ _ _ => r_iconst (show zdec 287 7 = some (.iconst (-1), 1) by decide +kernel) rfl rfl,
  fun _ _ _ _ _ _ => r_ireti (show zdec 287 8 = some (.ireturn, 1) by decide +kernel) (by decide +kernel),
  fun _ _ _ _ _ _ => r_bipush (show zdec 287 9 = some (.bipush (-2), 2) by decide +kernel) rfl rfl,
  fun _ _ _ _ _ _ _ => r_istore_n (show zdec 287 11 = some (.istore_n 2, 1) by decide +kernel) rfl rfl (Nat.le_of_ble_eq_true rfl) rfl rfl,
  fun _ _ _ _ _ _ => r_iconst (show zdec 287 12 = some (.iconst 0, 1) by decide +kernel) rfl rfl,
  fun _ _ _ _ _ _ _ => r_istore_n (show zdec 287 13 = some (.istore_n 3, 1) by decide +kernel) rfl rfl (Nat.le_of_ble_eq_true rfl) rfl rfl,
  fun _ _ _ _ _ _ => r_aload_nr (show zdec 287 15 = some (.aload_n 0, 1) by decide +kernel) rfl rfl,
  fun _ _ _ _ _ _ _ => r_cV [] rfl (show zdec 287 16 = some (.invokevirtual 164, 3) by decide +kernel) (show zst.lookup (287 * zKEY + 164) = some (1, 233, 0, 12) by decide +kernel) (by decide) rfl,
  fun _ _ _ _ _ _ _ _ => r_icmpge (show zdec 287 19 = some (.if_icmp .ge 35, 3) by decide +kernel) rfl rfl,
  fun _ _ _ _ _ _ => r_iload_n (show zdec 287 22 = some (.iload_n 2, 1) by decide +kernel) rfl rfl,
  fun _ _ _ _ _ _ _ => r_iflt (show zdec 287 23 = some (.ifCond .lt 19, 3) by decide +kernel) rfl rfl,
  fun _ _ _ _ _ _ => r_aload_nr (show zdec 287 26 = some (.aload_n 0, 1) by decide +kernel) rfl rfl,
  fun _ _ _ _ _ _ => r_iload_n (show zdec 287 27 = some (.iload_n 1, 1) by decide +kernel) rfl rfl,
  fun _ _ _ _ _ _ => r_iload_n (show zdec 287 28 = some (.iload_n 3, 1) by decide +kernel) rfl rfl,
  fun _ _ _ _ _ _ _ _ _ => r_cV [_, _] rfl (show zdec 287 29 = some (.invokevirtual 238, 3) by decide +kernel) (show zst.lookup (287 * zKEY + 238) = some (1, 272, 2, 12) by decide +kernel) (by decide) rfl,
  fun _ _ _ _ _ _ => r_aload_nr (show zdec 287 32 = some (.aload_n 0, 1) by decide +kernel) rfl rfl,
  fun _ _ _ _ _ _ => r_iload_n (show zdec 287 33 = some (.iload_n 1, 1) by decide +kernel) rfl rfl,
  fun _ _ _ _ _ _ => r_iload_n (show zdec 287 34 = some (.iload_n 2, 1) by decide +kernel) rfl rfl,
  fun _ _ _ _ _ _ _ _ _ => r_cV [_, _] rfl (show zdec 287 35 = some (.invokevirtual 238, 3) by decide +kernel) (show zst.lookup (287 * zKEY + 238) = some (1, 272, 2, 12) by decide +kernel) (by decide) rfl,
  fun _ _ _ _ _ _ _ _ => r_lcmp (show zdec 287 38 = some (.lcmp, 1) by decide +kernel) rfl,
  fun _ _ _ _ _ _ _ => r_ifge (show zdec 287 39 = some (.ifCond .ge 7, 3) by decide +kernel) rfl rfl,
  fun _ _ _ _ _ _ => r_iload_n (show zdec 287 42 = some (.iload_n 3, 1) by decide +kernel) rfl rfl,
  fun _ _ _ _ _ _ => r_goto (show zdec 287 43 = some (.goto 4, 3) by decide +kernel) rfl,
  fun _ _ _ _ _ _ => r_iload_n (show zdec 287 46 = some (.iload_n 2, 1) by decide +kernel) rfl rfl,
  fun _ _ _ _ _ _ _ => r_istore_n (show zdec 287 47 = some (.istore_n 2, 1) by decide +kernel) rfl rfl (Nat.le_of_ble_eq_true rfl) rfl rfl,
  fun _ _ _ _ _ _ => r_iinc (show zdec 287 48 = some (.iinc 3 1, 3) by decide +kernel) rfl rfl rfl (Nat.le_of_ble_eq_true rfl) rfl rfl,
  fun _ _ _ _ _ _ => r_goto (show zdec 287 51 = some (.goto (-37), 3) by decide +kernel) rfl,
  fun _ _ _ _ _ _ => r_iload_n (show zdec 287 54 = some (.iload_n 2, 1) by decide +kernel) rfl rfl,
  fun _ _ _ _ _ _ => r_ireti (show zdec 287 55 = some (.ireturn, 1) by decide +kernel) (by decide +kernel)⟩
theorem zl_287_14 : ∀ (l0 l1 l2 : Value) (x : Int32) (S : List Value) (h : zH), rn 287 14 [l0, l1, l2, .int x] S h = rn 287 15 [l0, l1, l2, .int x] (.int x :: S) h := fun _ _ _ _ _ _ => r_iload_n (show zdec 287 14 = some (.iload_n 3, 1) by decide +kernel) rfl rfl
theorem ze_287 : ∀ (a0 : Nat) (a1 : Int32) (h : zH), ev 287 [.ref a0, .int a1] h = rn 287 0 [.ref a0, .int a1, .float 0, .float 0] [] h := fun _ _ _ => if_pos (Nat.le_of_ble_eq_true rfl)
-- PayrollRunModel.corrections(II)I
theorem zr_288 : (∀ (l1 l2 l3 l4 l5 l6 : Value) (x : Nat) (S : List Value) (h : zH), rn 288 0 [.ref x, l1, l2, l3, l4, l5, l6] S h = rn 288 1 [.ref x, l1, l2, l3, l4, l5, l6] (.ref x :: S) h) ∧
  (∀ (l0 l2 l3 l4 l5 l6 : Value) (x : Int32) (S : List Value) (h : zH), rn 288 1 [l0, .int x, l2, l3, l4, l5, l6] S h = rn 288 2 [l0, .int x, l2, l3, l4, l5, l6] (.int x :: S) h) ∧
  (∀ (l0 l1 l3 l4 l5 l6 : Value) (x : Int32) (S : List Value) (h : zH), rn 288 2 [l0, l1, .int x, l3, l4, l5, l6] S h = rn 288 3 [l0, l1, .int x, l3, l4, l5, l6] (.int x :: S) h) ∧
  (∀ (l0 l1 l2 l3 l4 l5 l6 : Value) (o : Nat) (v0 : Value) (v1 : Value) (S : List Value) (h : zH), rn 288 3 [l0, l1, l2, l3, l4, l5, l6] (v1 :: v0 :: .ref o :: S) h = if zkd h o = 12 ∧ zsum S ≤ 8 then zcall (ev 258 [.ref o, v0, v1] h) (fun v h => rn 288 6 [l0, l1, l2, l3, l4, l5, l6] (zpush v S) h) else none) ∧
  (∀ (l0 l1 l2 l3 l4 l5 l6 : Value) (x : Int32) (S : List Value) (h : zH), rn 288 6 [l0, l1, l2, l3, l4, l5, l6] (.int x :: S) h = nl l2 (rn 288 7 [l0, l1, l2, .int x, l4, l5, l6] S h)) ∧
  (∀ (l0 l1 l2 l4 l5 l6 : Value) (x : Int32) (S : List Value) (h : zH), rn 288 7 [l0, l1, l2, .int x, l4, l5, l6] S h = rn 288 8 [l0, l1, l2, .int x, l4, l5, l6] (.int x :: S) h) ∧
  (∀ (l0 l1 l2 l3 l4 l5 l6 : Value) (x : Int32) (S : List Value) (h : zH), rn 288 8 [l0, l1, l2, l3, l4, l5, l6] (.int x :: S) h = if nI 0 ≤ x then rn 288 13 [l0, l1, l2, l3, l4, l5, l6] S h else rn 288 11 [l0, l1, l2, l3, l4, l5, l6] S h) ∧
  (∀ (l0 l1 l2 l4 l5 l6 : Value) (x : Int32) (S : List Value) (h : zH), rn 288 11 [l0, l1, l2, .int x, l4, l5, l6] S h = rn 288 12 [l0, l1, l2, .int x, l4, l5, l6] (.int x :: S) h) ∧
  (∀ (l0 l1 l2 l3 l4 l5 l6 : Value) (x : Int32) (h : zH), rn 288 12 [l0, l1, l2, l3, l4, l5, l6] [.int x] h = some (some (.int x), h)) ∧
  (∀ (l0 l1 l2 l3 l4 l5 l6 : Value) (S : List Value) (h : zH), rn 288 13 [l0, l1, l2, l3, l4, l5, l6] S h = rn 288 14 [l0, l1, l2, l3, l4, l5, l6] (.int (nI 0) :: S) h) ∧
  (∀ (l0 l1 l2 l3 l4 l5 l6 : Value) (x : Int32) (S : List Value) (h : zH), rn 288 14 [l0, l1, l2, l3, l4, l5, l6] (.int x :: S) h = nl l3 (rn 288 16 [l0, l1, l2, l3, .int x, l5, l6] S h)) ∧
  (∀ (l0 l1 l2 l3 l4 l5 l6 : Value) (S : List Value) (h : zH), rn 288 16 [l0, l1, l2, l3, l4, l5, l6] S h = rn 288 17 [l0, l1, l2, l3, l4, l5, l6] (.int (nI 0) :: S) h) ∧
  (∀ (l0 l1 l2 l3 l4 l5 l6 : Value) (x : Int32) (S : List Value) (h : zH), rn 288 17 [l0, l1, l2, l3, l4, l5, l6] (.int x :: S) h = nl l4 (rn 288 19 [l0, l1, l2, l3, l4, .int x, l6] S h)) ∧
  (∀ (l0 l1 l2 l3 l4 l5 l6 : Value) (x : Int32) (S : List Value) (h : zH), rn 288 21 [l0, l1, l2, l3, l4, l5, l6] (.int x :: S) h = rn 288 22 [l0, l1, l2, l3, l4, l5, l6] (.long x.toInt64 :: S) h) ∧
  (∀ (l1 l2 l3 l4 l5 l6 : Value) (x : Nat) (S : List Value) (h : zH), rn 288 22 [.ref x, l1, l2, l3, l4, l5, l6] S h = rn 288 23 [.ref x, l1, l2, l3, l4, l5, l6] (.ref x :: S) h) ∧
  (∀ (l0 l2 l3 l4 l5 l6 : Value) (x : Int32) (S : List Value) (h : zH), rn 288 23 [l0, .int x, l2, l3, l4, l5, l6] S h = rn 288 24 [l0, .int x, l2, l3, l4, l5, l6] (.int x :: S) h) ∧
  (∀ (l0 l1 l2 l3 l4 l5 l6 : Value) (S : List Value) (h : zH), rn 288 24 [l0, l1, l2, l3, l4, l5, l6] S h = rn 288 27 [l0, l1, l2, l3, l4, l5, l6] (.int (nI 147) :: S) h) ∧
  (∀ (l0 l1 l3 l4 l5 l6 : Value) (x : Int32) (S : List Value) (h : zH), rn 288 27 [l0, l1, .int x, l3, l4, l5, l6] S h = rn 288 28 [l0, l1, .int x, l3, l4, l5, l6] (.int x :: S) h) ∧
  (∀ (l0 l1 l2 l3 l4 l5 l6 : Value) (x : Int32) (y : Int32) (S : List Value) (h : zH), rn 288 28 [l0, l1, l2, l3, l4, l5, l6] (.int y :: .int x :: S) h = rn 288 29 [l0, l1, l2, l3, l4, l5, l6] (.int (x + y) :: S) h) ∧
  (∀ (l0 l1 l2 l3 l4 l5 l6 : Value) (o : Nat) (v0 : Value) (v1 : Value) (S : List Value) (h : zH), rn 288 29 [l0, l1, l2, l3, l4, l5, l6] (v1 :: v0 :: .ref o :: S) h = if zkd h o = 12 ∧ zsum S ≤ 8 then zcall (ev 226 [.ref o, v0, v1] h) (fun v h => rn 288 32 [l0, l1, l2, l3, l4, l5, l6] (zpush v S) h) else none) ∧
  (∀ (l0 l1 l2 l3 l4 l5 l6 : Value) (x : Int64) (y : Int64) (S : List Value) (h : zH), rn 288 32 [l0, l1, l2, l3, l4, l5, l6] (.long y :: .long x :: S) h = rn 288 33 [l0, l1, l2, l3, l4, l5, l6] (.int (lg_cmp x y) :: S) h) ∧
  (∀ (l0 l1 l2 l3 l4 l5 l6 : Value) (x : Int32) (S : List Value) (h : zH), rn 288 33 [l0, l1, l2, l3, l4, l5, l6] (.int x :: S) h = if nI 0 ≤ x then rn 288 101 [l0, l1, l2, l3, l4, l5, l6] S h else rn 288 36 [l0, l1, l2, l3, l4, l5, l6] S h) ∧
  (∀ (l0 l2 l3 l4 l5 l6 : Value) (x : Int32) (S : List Value) (h : zH), rn 288 36 [l0, .int x, l2, l3, l4, l5, l6] S h = rn 288 37 [l0, .int x, l2, l3, l4, l5, l6] (.int x :: S) h) ∧
  (∀ (l0 l1 l3 l4 l5 l6 : Value) (x : Int32) (S : List Value) (h : zH), rn 288 37 [l0, l1, .int x, l3, l4, l5, l6] S h = rn 288 38 [l0, l1, .int x, l3, l4, l5, l6] (.int x :: S) h) ∧
  (∀ (l0 l1 l2 l3 l4 l6 : Value) (x : Int32) (S : List Value) (h : zH), rn 288 38 [l0, l1, l2, l3, l4, .int x, l6] S h = rn 288 40 [l0, l1, l2, l3, l4, .int x, l6] (.int x :: S) h) ∧
  (∀ (l0 l1 l2 l3 l4 l5 l6 : Value) (v0 : Value) (v1 : Value) (v2 : Value) (S : List Value) (h : zH), rn 288 40 [l0, l1, l2, l3, l4, l5, l6] (v2 :: v1 :: v0 :: S) h = if zsum S ≤ 8 then zcall (ev 244 [v0, v1, v2] h) (fun v h => rn 288 43 [l0, l1, l2, l3, l4, l5, l6] (zpush v S) h) else none) ∧
  (∀ (l0 l1 l2 l3 l4 l5 l6 : Value) (x : Int32) (S : List Value) (h : zH), rn 288 43 [l0, l1, l2, l3, l4, l5, l6] (.int x :: S) h = nl l5 (rn 288 45 [l0, l1, l2, l3, l4, l5, .int x] S h)) ∧
  (∀ (l0 l1 l2 l3 l5 l6 : Value) (x : Int32) (S : List Value) (h : zH), rn 288 45 [l0, l1, l2, l3, .int x, l5, l6] S h = rn 288 47 [l0, l1, l2, l3, .int x, l5, l6] (.int x :: S) h) ∧
  (∀ (l1 l2 l3 l4 l5 l6 : Value) (x : Nat) (S : List Value) (h : zH), rn 288 47 [.ref x, l1, l2, l3, l4, l5, l6] S h = rn 288 48 [.ref x, l1, l2, l3, l4, l5, l6] (.ref x :: S) h) ∧
  (∀ (l0 l1 l2 l3 l4 l5 l6 : Value) (a : Nat) (S : List Value) (h : zH), rn 288 48 [l0, l1, l2, l3, l4, l5, l6] (.ref a :: S) h = zgf h a 12 0 fun v => rn 288 51 [l0, l1, l2, l3, l4, l5, l6] (v :: S) h) ∧
  (∀ (l0 l1 l2 l3 l4 l5 : Value) (x : Int32) (S : List Value) (h : zH), rn 288 51 [l0, l1, l2, l3, l4, l5, .int x] S h = rn 288 53 [l0, l1, l2, l3, l4, l5, .int x] (.int x :: S) h) ∧
  (∀ (l0 l1 l2 l3 l4 l5 l6 : Value) (a : Nat) (j : Int32) (S : List Value) (h : zH), rn 288 53 [l0, l1, l2, l3, l4, l5, l6] (.int j :: .ref a :: S) h = zlj h a j fun x => rn 288 54 [l0, l1, l2, l3, l4, l5, l6] (.long x :: S) h) ∧
  (∀ (l0 l1 l2 l3 l4 l5 l6 : Value) (S : List Value) (h : zH), rn 288 54 [l0, l1, l2, l3, l4, l5, l6] S h = rn 288 57 [l0, l1, l2, l3, l4, l5, l6] (.long (4) :: S) h) ∧
  (∀ (l0 l1 l2 l3 l4 l5 l6 : Value) (x : Int64) (y : Int64) (S : List Value) (h : zH), rn 288 57 [l0, l1, l2, l3, l4, l5, l6] (.long y :: .long x :: S) h = rn 288 58 [l0, l1, l2, l3, l4, l5, l6] (.int (lg_cmp x y) :: S) h) ∧
  (∀ (l0 l1 l2 l3 l4 l5 l6 : Value) (x : Int32) (S : List Value) (h : zH), rn 288 58 [l0, l1, l2, l3, l4, l5, l6] (.int x :: S) h = if nI 0 ≤ x then rn 288 91 [l0, l1, l2, l3, l4, l5, l6] S h else rn 288 61 [l0, l1, l2, l3, l4, l5, l6] S h) ∧
  (∀ (l1 l2 l3 l4 l5 l6 : Value) (x : Nat) (S : List Value) (h : zH), rn 288 61 [.ref x, l1, l2, l3, l4, l5, l6] S h = rn 288 62 [.ref x, l1, l2, l3, l4, l5, l6] (.ref x :: S) h) ∧
  (∀ (l0 l1 l2 l3 l4 l5 l6 : Value) (a : Nat) (S : List Value) (h : zH), rn 288 62 [l0, l1, l2, l3, l4, l5, l6] (.ref a :: S) h = zgf h a 12 0 fun v => rn 288 65 [l0, l1, l2, l3, l4, l5, l6] (v :: S) h) ∧
  (∀ (l0 l1 l2 l3 l4 l5 : Value) (x : Int32) (S : List Value) (h : zH), rn 288 65 [l0, l1, l2, l3, l4, l5, .int x] S h = rn 288 67 [l0, l1, l2, l3, l4, l5, .int x] (.int x :: S) h) ∧
  (∀ (l0 l1 l2 l3 l4 l5 l6 : Value) (S : List Value) (h : zH), rn 288 67 [l0, l1, l2, l3, l4, l5, l6] S h = rn 288 68 [l0, l1, l2, l3, l4, l5, l6] (.int (nI 1) :: S) h) ∧
  (∀ (l0 l1 l2 l3 l4 l5 l6 : Value) (x : Int32) (y : Int32) (S : List Value) (h : zH), rn 288 68 [l0, l1, l2, l3, l4, l5, l6] (.int y :: .int x :: S) h = rn 288 69 [l0, l1, l2, l3, l4, l5, l6] (.int (x + y) :: S) h) ∧
  (∀ (l0 l1 l2 l3 l4 l5 l6 : Value) (a : Nat) (j : Int32) (S : List Value) (h : zH), rn 288 69 [l0, l1, l2, l3, l4, l5, l6] (.int j :: .ref a :: S) h = zlj h a j fun x => rn 288 70 [l0, l1, l2, l3, l4, l5, l6] (.long x :: S) h) ∧
  (∀ (l0 l1 l3 l4 l5 l6 : Value) (x : Int32) (S : List Value) (h : zH), rn 288 70 [l0, l1, .int x, l3, l4, l5, l6] S h = rn 288 71 [l0, l1, .int x, l3, l4, l5, l6] (.int x :: S) h) ∧
  (∀ (l0 l1 l2 l3 l4 l5 l6 : Value) (x : Int32) (S : List Value) (h : zH), rn 288 71 [l0, l1, l2, l3, l4, l5, l6] (.int x :: S) h = rn 288 72 [l0, l1, l2, l3, l4, l5, l6] (.long x.toInt64 :: S) h) ∧
  (∀ (l0 l1 l2 l3 l4 l5 l6 : Value) (x : Int64) (y : Int64) (S : List Value) (h : zH), rn 288 72 [l0, l1, l2, l3, l4, l5, l6] (.long y :: .long x :: S) h = rn 288 73 [l0, l1, l2, l3, l4, l5, l6] (.int (lg_cmp x y) :: S) h) ∧
  (∀ (l0 l1 l2 l3 l4 l5 l6 : Value) (x : Int32) (S : List Value) (h : zH), rn 288 73 [l0, l1, l2, l3, l4, l5, l6] (.int x :: S) h = if x = nI 0 then rn 288 91 [l0, l1, l2, l3, l4, l5, l6] S h else rn 288 76 [l0, l1, l2, l3, l4, l5, l6] S h) ∧
  (∀ (l0 l1 l2 l3 l4 l5 l6 : Value) (S : List Value) (h : zH), rn 288 76 [l0, l1, l2, l3, l4, l5, l6] S h = rn 288 77 [l0, l1, l2, l3, l4, l5, l6] (.int (nI 1) :: S) h) ∧
  (∀ (l1 l2 l3 l4 l5 l6 : Value) (x : Nat) (S : List Value) (h : zH), rn 288 77 [.ref x, l1, l2, l3, l4, l5, l6] S h = rn 288 78 [.ref x, l1, l2, l3, l4, l5, l6] (.ref x :: S) h) ∧
  (∀ (l0 l1 l2 l3 l4 l5 l6 : Value) (a : Nat) (S : List Value) (h : zH), rn 288 78 [l0, l1, l2, l3, l4, l5, l6] (.ref a :: S) h = zgf h a 12 0 fun v => rn 288 81 [l0, l1, l2, l3, l4, l5, l6] (v :: S) h) ∧
  (∀ (l0 l1 l2 l3 l4 l5 : Value) (x : Int32) (S : List Value) (h : zH), rn 288 81 [l0, l1, l2, l3, l4, l5, .int x] S h = rn 288 83 [l0, l1, l2, l3, l4, l5, .int x] (.int x :: S) h) ∧
  (∀ (l0 l1 l2 l3 l4 l5 l6 : Value) (S : List Value) (h : zH), rn 288 83 [l0, l1, l2, l3, l4, l5, l6] S h = rn 288 84 [l0, l1, l2, l3, l4, l5, l6] (.int (nI 1) :: S) h) ∧
  (∀ (l0 l1 l2 l3 l4 l5 l6 : Value) (x : Int32) (y : Int32) (S : List Value) (h : zH), rn 288 84 [l0, l1, l2, l3, l4, l5, l6] (.int y :: .int x :: S) h = rn 288 85 [l0, l1, l2, l3, l4, l5, l6] (.int (x + y) :: S) h) ∧
  (∀ (l0 l1 l2 l3 l4 l5 l6 : Value) (a : Nat) (j : Int32) (S : List Value) (h : zH), rn 288 85 [l0, l1, l2, l3, l4, l5, l6] (.int j :: .ref a :: S) h = zlj h a j fun x => rn 288 86 [l0, l1, l2, l3, l4, l5, l6] (.long x :: S) h) ∧
  (∀ (l0 l1 l2 l3 l4 l5 l6 : Value) (x : Int64) (S : List Value) (h : zH), rn 288 86 [l0, l1, l2, l3, l4, l5, l6] (.long x :: S) h = rn 288 87 [l0, l1, l2, l3, l4, l5, l6] (.int x.toInt32 :: S) h) ∧
  (∀ (l0 l1 l2 l3 l4 l5 l6 : Value) (x : Int32) (y : Int32) (S : List Value) (h : zH), rn 288 87 [l0, l1, l2, l3, l4, l5, l6] (.int y :: .int x :: S) h = rn 288 88 [l0, l1, l2, l3, l4, l5, l6] (.int (x <<< (y &&& 31)) :: S) h) ∧
  (∀ (l0 l1 l2 l3 l4 l5 l6 : Value) (S : List Value) (h : zH), rn 288 88 [l0, l1, l2, l3, l4, l5, l6] S h = rn 288 92 [l0, l1, l2, l3, l4, l5, l6] S h) ∧
  (∀ (l0 l1 l2 l3 l4 l5 l6 : Value) (S : List Value) (h : zH), rn 288 91 [l0, l1, l2, l3, l4, l5, l6] S h = rn 288 92 [l0, l1, l2, l3, l4, l5, l6] (.int (nI 0) :: S) h) ∧
  (∀ (l0 l1 l2 l3 l4 l5 l6 : Value) (x : Int32) (y : Int32) (S : List Value) (h : zH), rn 288 92 [l0, l1, l2, l3, l4, l5, l6] (.int y :: .int x :: S) h = rn 288 93 [l0, l1, l2, l3, l4, l5, l6] (.int (x ||| y) :: S) h) ∧
  (∀ (l0 l1 l2 l3 l4 l5 l6 : Value) (x : Int32) (S : List Value) (h : zH), rn 288 93 [l0, l1, l2, l3, l4, l5, l6] (.int x :: S) h = nl l3 (rn 288 95 [l0, l1, l2, l3, .int x, l5, l6] S h)) ∧
  (∀ (l0 l1 l2 l3 l4 l6 : Value) (x : Int32) (S : List Value) (h : zH), rn 288 95 [l0, l1, l2, l3, l4, .int x, l6] S h = nl l4 (rn 288 98 [l0, l1, l2, l3, l4, .int (x + (nI 1)), l6] S h)) ∧
  (∀ (l0 l1 l2 l3 l4 l5 l6 : Value) (S : List Value) (h : zH), rn 288 98 [l0, l1, l2, l3, l4, l5, l6] S h = rn 288 19 [l0, l1, l2, l3, l4, l5, l6] S h) ∧
  (∀ (l0 l1 l2 l3 l5 l6 : Value) (x : Int32) (S : List Value) (h : zH), rn 288 101 [l0, l1, l2, l3, .int x, l5, l6] S h = rn 288 103 [l0, l1, l2, l3, .int x, l5, l6] (.int x :: S) h) ∧
  (∀ (l0 l1 l2 l3 l4 l5 l6 : Value) (x : Int32) (h : zH), rn 288 103 [l0, l1, l2, l3, l4, l5, l6] [.int x] h = some (some (.int x), h)) := ⟨fun _ _ _ _ _ _ _ _ _ => r_aload_nr (show zdec 288 0 = some (.aload_n 0, 1) by decide +kernel) rfl rfl,
  fun _ _ _ _ _ _ _ _ _ => r_iload_n (show zdec 288 1 = some (.iload_n 1, 1) by decide +kernel) rfl rfl,
  fun _ _ _ _ _ _ _ _ _ => r_iload_n (show zdec 288 2 = some (.iload_n 2, 1) by decide +kernel) rfl rfl,
  fun _ _ _ _ _ _ _ _ _ _ _ _ => r_cV [_, _] rfl (show zdec 288 3 = some (.invokevirtual 176, 3) by decide +kernel) (show zst.lookup (288 * zKEY + 176) = some (1, 258, 2, 12) by decide +kernel) (by decide) rfl,
  fun _ _ _ _ _ _ _ _ _ _ => r_istore_n (show zdec 288 6 = some (.istore_n 3, 1) by decide +kernel) rfl rfl (Nat.le_of_ble_eq_true rfl) rfl rfl,
  fun _ _ _ _ _ _ _ _ _ => r_iload_n (show zdec 288 7 = some (.iload_n 3, 1) by decide +kernel) rfl rfl,
  fun _ _ _ _ _ _ _ _ _ _ => r_ifge (show zdec 288 8 = some (.ifCond .ge 5, 3) by decide +kernel) rfl rfl,
  fun _ _ _ _ _ _ _ _ _ => r_iload_n (show zdec 288 11 = some (.iload_n 3, 1) by decide +kernel) rfl rfl,
  fun _ _ _ _ _ _ _ _ _ => r_ireti (show zdec 288 12 = some (.ireturn, 1) by decide +kernel) (by decide +kernel),
  fun _ _ _ _ _ _ _ _ _ => r_iconst (show zdec 288 13 = some (.iconst 0, 1) by decide +kernel) rfl rfl,
  fun _ _ _ _ _ _ _ _ _ _ => r_istore (show zdec 288 14 = some (.istore 4, 2) by decide +kernel) rfl (Nat.le_of_ble_eq_true rfl) rfl rfl,
  fun _ _ _ _ _ _ _ _ _ => r_iconst (show zdec 288 16 = some (.iconst 0, 1) by decide +kernel) rfl rfl,
  fun _ _ _ _ _ _ _ _ _ _ => r_istore (show zdec 288 17 = some (.istore 5, 2) by decide +kernel) rfl (Nat.le_of_ble_eq_true rfl) rfl rfl,
  fun _ _ _ _ _ _ _ _ _ _ => r_i2l (show zdec 288 21 = some (.i2l, 1) by decide +kernel) rfl,
  fun _ _ _ _ _ _ _ _ _ => r_aload_nr (show zdec 288 22 = some (.aload_n 0, 1) by decide +kernel) rfl rfl,
  fun _ _ _ _ _ _ _ _ _ => r_iload_n (show zdec 288 23 = some (.iload_n 1, 1) by decide +kernel) rfl rfl,
  fun _ _ _ _ _ _ _ _ _ => r_sipush (show zdec 288 24 = some (.sipush 147, 3) by decide +kernel) rfl rfl,
  fun _ _ _ _ _ _ _ _ _ => r_iload_n (show zdec 288 27 = some (.iload_n 2, 1) by decide +kernel) rfl rfl,
  fun _ _ _ _ _ _ _ _ _ _ _ => r_iadd (show zdec 288 28 = some (.iadd, 1) by decide +kernel) rfl,
  fun _ _ _ _ _ _ _ _ _ _ _ _ => r_cV [_, _] rfl (show zdec 288 29 = some (.invokevirtual 85, 3) by decide +kernel) (show zst.lookup (288 * zKEY + 85) = some (1, 226, 2, 12) by decide +kernel) (by decide) rfl,
  fun _ _ _ _ _ _ _ _ _ _ _ => r_lcmp (show zdec 288 32 = some (.lcmp, 1) by decide +kernel) rfl,
  fun _ _ _ _ _ _ _ _ _ _ => r_ifge (show zdec 288 33 = some (.ifCond .ge 68, 3) by decide +kernel) rfl rfl,
  fun _ _ _ _ _ _ _ _ _ => r_iload_n (show zdec 288 36 = some (.iload_n 1, 1) by decide +kernel) rfl rfl,
  fun _ _ _ _ _ _ _ _ _ => r_iload_n (show zdec 288 37 = some (.iload_n 2, 1) by decide +kernel) rfl rfl,
  fun _ _ _ _ _ _ _ _ _ => r_iload (show zdec 288 38 = some (.iload 5, 2) by decide +kernel) rfl rfl,
  fun _ _ _ _ _ _ _ _ _ _ _ _ => r_cS [_, _, _] rfl (show zdec 288 40 = some (.invokestatic 132, 3) by decide +kernel) (show zst.lookup (288 * zKEY + 132) = some (0, 244, 3, 0) by decide +kernel) (by decide) rfl,
  fun _ _ _ _ _ _ _ _ _ _ => r_istore (show zdec 288 43 = some (.istore 6, 2) by decide +kernel) rfl (Nat.le_of_ble_eq_true rfl) rfl rfl,
  fun _ _ _ _ _ _ _ _ _ => r_iload (show zdec 288 45 = some (.iload 4, 2) by decide +kernel) rfl rfl,
  fun _ _ _ _ _ _ _ _ _ => r_aload_nr (show zdec 288 47 = some (.aload_n 0, 1) by decide +kernel) rfl rfl,
  fun _ _ _ _ _ _ _ _ _ _ => r_getfield (show zdec 288 48 = some (.getfield 9, 3) by decide +kernel) (show zft.lookup (288 * zKEY + 9) = some (12, 0) by decide +kernel) rfl,
  fun _ _ _ _ _ _ _ _ _ => r_iload (show zdec 288 51 = some (.iload 6, 2) by decide +kernel) rfl rfl,
  fun _ _ _ _ _ _ _ _ _ _ _ => r_lald (show zdec 288 53 = some (.laload, 1) by decide +kernel) rfl,
  fun _ _ _ _ _ _ _ _ _ => r_ldc2 (show zdec 288 54 = some (.ldc2_w 262, 3) by decide +kernel) (show zlt.lookup (288 * zKEY + 262) = some 4 by decide +kernel) rfl,
  fun _ _ _ _ _ _ _ _ _ _ _ => r_lcmp (show zdec 288 57 = some (.lcmp, 1) by decide +kernel) rfl,
  fun _ _ _ _ _ _ _ _ _ _ => r_ifge (show zdec 288 58 = some (.ifCond .ge 33, 3) by decide +kernel) rfl rfl,
  fun _ _ _ _ _ _ _ _ _ => r_aload_nr (show zdec 288 61 = some (.aload_n 0, 1) by decide +kernel) rfl rfl,
  fun _ _ _ _ _ _ _ _ _ _ => r_getfield (show zdec 288 62 = some (.getfield 9, 3) by decide +kernel) (show zft.lookup (288 * zKEY + 9) = some (12, 0) by decide +kernel) rfl,
  fun _ _ _ _ _ _ _ _ _ => r_iload (show zdec 288 65 = some (.iload 6, 2) by decide +kernel) rfl rfl,
  fun _ _ _ _ _ _ _ _ _ => r_iconst (show zdec 288 67 = some (.iconst 1, 1) by decide +kernel) rfl rfl,
  fun _ _ _ _ _ _ _ _ _ _ _ => r_iadd (show zdec 288 68 = some (.iadd, 1) by decide +kernel) rfl,
  fun _ _ _ _ _ _ _ _ _ _ _ => r_lald (show zdec 288 69 = some (.laload, 1) by decide +kernel) rfl,
  fun _ _ _ _ _ _ _ _ _ => r_iload_n (show zdec 288 70 = some (.iload_n 2, 1) by decide +kernel) rfl rfl,
  fun _ _ _ _ _ _ _ _ _ _ => r_i2l (show zdec 288 71 = some (.i2l, 1) by decide +kernel) rfl,
  fun _ _ _ _ _ _ _ _ _ _ _ => r_lcmp (show zdec 288 72 = some (.lcmp, 1) by decide +kernel) rfl,
  fun _ _ _ _ _ _ _ _ _ _ => r_ifeq (show zdec 288 73 = some (.ifCond .eq 18, 3) by decide +kernel) rfl rfl,
  fun _ _ _ _ _ _ _ _ _ => r_iconst (show zdec 288 76 = some (.iconst 1, 1) by decide +kernel) rfl rfl,
  fun _ _ _ _ _ _ _ _ _ => r_aload_nr (show zdec 288 77 = some (.aload_n 0, 1) by decide +kernel) rfl rfl,
  fun _ _ _ _ _ _ _ _ _ _ => r_getfield (show zdec 288 78 = some (.getfield 9, 3) by decide +kernel) (show zft.lookup (288 * zKEY + 9) = some (12, 0) by decide +kernel) rfl,
  fun _ _ _ _ _ _ _ _ _ => r_iload (show zdec 288 81 = some (.iload 6, 2) by decide +kernel) rfl rfl,
  fun _ _ _ _ _ _ _ _ _ => r_iconst (show zdec 288 83 = some (.iconst 1, 1) by decide +kernel) rfl rfl,
  fun _ _ _ _ _ _ _ _ _ _ _ => r_iadd (show zdec 288 84 = some (.iadd, 1) by decide +kernel) rfl,
  fun _ _ _ _ _ _ _ _ _ _ _ => r_lald (show zdec 288 85 = some (.laload, 1) by decide +kernel) rfl,
  fun _ _ _ _ _ _ _ _ _ _ => r_l2i (show zdec 288 86 = some (.l2i, 1) by decide +kernel) rfl,
  fun _ _ _ _ _ _ _ _ _ _ _ => r_ishl (show zdec 288 87 = some (.ishl, 1) by decide +kernel) rfl,
  fun _ _ _ _ _ _ _ _ _ => r_goto (show zdec 288 88 = some (.goto 4, 3) by decide +kernel) rfl,
  fun _ _ _ _ _ _ _ _ _ => r_iconst (show zdec 288 91 = some (.iconst 0, 1) by decide +kernel) rfl rfl,
  fun _ _ _ _ _ _ _ _ _ _ _ => r_ior (show zdec 288 92 = some (.ior, 1) by decide +kernel) rfl,
  fun _ _ _ _ _ _ _ _ _ _ => r_istore (show zdec 288 93 = some (.istore 4, 2) by decide +kernel) rfl (Nat.le_of_ble_eq_true rfl) rfl rfl,
  fun _ _ _ _ _ _ _ _ _ => r_iinc (show zdec 288 95 = some (.iinc 5 1, 3) by decide +kernel) rfl rfl rfl (Nat.le_of_ble_eq_true rfl) rfl rfl,
  fun _ _ _ _ _ _ _ _ _ => r_goto (show zdec 288 98 = some (.goto (-79), 3) by decide +kernel) rfl,
  fun _ _ _ _ _ _ _ _ _ => r_iload (show zdec 288 101 = some (.iload 4, 2) by decide +kernel) rfl rfl,
  fun _ _ _ _ _ _ _ _ _ => r_ireti (show zdec 288 103 = some (.ireturn, 1) by decide +kernel) (by decide +kernel)⟩
theorem zl_288_19 : ∀ (l0 l1 l2 l3 l4 l6 : Value) (x : Int32) (S : List Value) (h : zH), rn 288 19 [l0, l1, l2, l3, l4, .int x, l6] S h = rn 288 21 [l0, l1, l2, l3, l4, .int x, l6] (.int x :: S) h := fun _ _ _ _ _ _ _ _ _ => r_iload (show zdec 288 19 = some (.iload 5, 2) by decide +kernel) rfl rfl
theorem ze_288 : ∀ (a0 : Nat) (a1 : Int32) (a2 : Int32) (h : zH), ev 288 [.ref a0, .int a1, .int a2] h = rn 288 0 [.ref a0, .int a1, .int a2, .float 0, .float 0, .float 0, .float 0] [] h := fun _ _ _ _ => if_pos (Nat.le_of_ble_eq_true rfl)
-- PayrollRunModel.feed(I)I
theorem zr_289 : (∀ (l0 : Value) (x : Int32) (S : List Value) (h : zH), rn 289 0 [l0, .int x] S h = rn 289 1 [l0, .int x] (.int x :: S) h) ∧
  (∀ (l0 l1 : Value) (S : List Value) (h : zH), rn 289 1 [l0, l1] S h = rn 289 3 [l0, l1] (.int (nI 32) :: S) h) ∧
  (∀ (l0 l1 : Value) (S : List Value) (h : zH), rn 289 3 [l0, l1] S h = rn 289 5 [l0, l1] (.int (nI 126) :: S) h) ∧
  (∀ (l0 l1 : Value) (v0 : Value) (v1 : Value) (v2 : Value) (S : List Value) (h : zH), rn 289 5 [l0, l1] (v2 :: v1 :: v0 :: S) h = if zsum S ≤ 8 then zcall (ev 211 [v0, v1, v2] h) (fun v h => rn 289 8 [l0, l1] (zpush v S) h) else none) ∧
  (∀ (l0 l1 : Value) (x : Int32) (S : List Value) (h : zH), rn 289 8 [l0, l1] (.int x :: S) h = if x = nI 0 then rn 289 11 [l0, l1] S h else rn 289 13 [l0, l1] S h) ∧
  (∀ (l0 l1 : Value) (S : List Value) (h : zH), rn 289 11 [l0, l1] S h = rn 289 12 [l0, l1] (.int (-1) :: S) h) ∧
  (∀ (l0 l1 : Value) (x : Int32) (h : zH), rn 289 12 [l0, l1] [.int x] h = some (some (.int x), h)) ∧
  (∀ (l1 : Value) (x : Nat) (S : List Value) (h : zH), rn 289 13 [.ref x, l1] S h = rn 289 14 [.ref x, l1] (.ref x :: S) h) ∧
  (∀ (l0 l1 : Value) (a : Nat) (S : List Value) (h : zH), rn 289 14 [l0, l1] (.ref a :: S) h = zgf h a 12 11 fun v => rn 289 17 [l0, l1] (v :: S) h) ∧
  (∀ (l0 l1 : Value) (S : List Value) (h : zH), rn 289 17 [l0, l1] S h = rn 289 19 [l0, l1] (.int (nI 60) :: S) h) ∧
  (∀ (l0 l1 : Value) (x : Int32) (y : Int32) (S : List Value) (h : zH), rn 289 19 [l0, l1] (.int y :: .int x :: S) h = if x = y then rn 289 22 [l0, l1] S h else rn 289 25 [l0, l1] S h) ∧
  (∀ (l0 l1 : Value) (S : List Value) (h : zH), rn 289 22 [l0, l1] S h = rn 289 24 [l0, l1] (.int (-3) :: S) h) ∧
  (∀ (l0 l1 : Value) (x : Int32) (h : zH), rn 289 24 [l0, l1] [.int x] h = some (some (.int x), h)) ∧
  (∀ (l1 : Value) (x : Nat) (S : List Value) (h : zH), rn 289 25 [.ref x, l1] S h = rn 289 26 [.ref x, l1] (.ref x :: S) h) ∧
  (∀ (l0 l1 : Value) (a : Nat) (S : List Value) (h : zH), rn 289 26 [l0, l1] (.ref a :: S) h = zgf h a 12 10 fun v => rn 289 29 [l0, l1] (v :: S) h) ∧
  (∀ (l1 : Value) (x : Nat) (S : List Value) (h : zH), rn 289 29 [.ref x, l1] S h = rn 289 30 [.ref x, l1] (.ref x :: S) h) ∧
  (∀ (l0 l1 : Value) (a : Nat) (S : List Value) (h : zH), rn 289 30 [l0, l1] (.ref a :: S) h = zgf h a 12 11 fun v => rn 289 33 [l0, l1] (v :: S) h) ∧
  (∀ (l0 : Value) (x : Int32) (S : List Value) (h : zH), rn 289 33 [l0, .int x] S h = rn 289 34 [l0, .int x] (.int x :: S) h) ∧
  (∀ (l0 l1 : Value) (x : Int32) (S : List Value) (h : zH), rn 289 34 [l0, l1] (.int x :: S) h = rn 289 35 [l0, l1] (.int (x.toUInt32 % 65536).toInt32 :: S) h) ∧
  (∀ (l0 l1 : Value) (a : Nat) (j : Int32) (x : Int32) (S : List Value) (h : zH), rn 289 35 [l0, l1] (.int x :: .int j :: .ref a :: S) h = zsi h a 2 j (vp_nar .char x) fun h => rn 289 36 [l0, l1] S h) ∧
  (∀ (l1 : Value) (x : Nat) (S : List Value) (h : zH), rn 289 36 [.ref x, l1] S h = rn 289 37 [.ref x, l1] (.ref x :: S) h) ∧
  (∀ (l0 l1 : Value) (v : Value) (S : List Value) (h : zH), rn 289 37 [l0, l1] (v :: S) h = c1 v (rn 289 38 [l0, l1] (v :: v :: S) h)) ∧
  (∀ (l0 l1 : Value) (a : Nat) (S : List Value) (h : zH), rn 289 38 [l0, l1] (.ref a :: S) h = zgf h a 12 11 fun v => rn 289 41 [l0, l1] (v :: S) h) ∧
  (∀ (l0 l1 : Value) (S : List Value) (h : zH), rn 289 41 [l0, l1] S h = rn 289 42 [l0, l1] (.int (nI 1) :: S) h) ∧
  (∀ (l0 l1 : Value) (x : Int32) (y : Int32) (S : List Value) (h : zH), rn 289 42 [l0, l1] (.int y :: .int x :: S) h = rn 289 43 [l0, l1] (.int (x + y) :: S) h) ∧
  (∀ (l0 l1 : Value) (a : Nat) (v : Value) (S : List Value) (h : zH), rn 289 43 [l0, l1] (v :: .ref a :: S) h = zpf h a 12 11 v fun h => rn 289 46 [l0, l1] S h) ∧
  (∀ (l1 : Value) (x : Nat) (S : List Value) (h : zH), rn 289 46 [.ref x, l1] S h = rn 289 47 [.ref x, l1] (.ref x :: S) h) ∧
  (∀ (l0 l1 : Value) (a : Nat) (S : List Value) (h : zH), rn 289 47 [l0, l1] (.ref a :: S) h = zgf h a 12 11 fun v => rn 289 50 [l0, l1] (v :: S) h) ∧
  (∀ (l0 l1 : Value) (x : Int32) (h : zH), rn 289 50 [l0, l1] [.int x] h = some (some (.int x), h)) := ⟨fun _ _ _ _ => r_iload_n (show zdec 289 0 = some (.iload_n 1, 1) by decide +kernel) rfl rfl,
  fun _ _ _ _ => r_bipush (show zdec 289 1 = some (.bipush 32, 2) by decide +kernel) rfl rfl,
  fun _ _ _ _ => r_bipush (show zdec 289 3 = some (.bipush 126, 2) by decide +kernel) rfl rfl,
  fun _ _ _ _ _ _ _ => r_cS [_, _, _] rfl (show zdec 289 5 = some (.invokestatic 45, 3) by decide +kernel) (show zst.lookup (289 * zKEY + 45) = some (0, 211, 3, 0) by decide +kernel) (by decide) rfl,
  fun _ _ _ _ _ => r_ifne (show zdec 289 8 = some (.ifCond .ne 5, 3) by decide +kernel) rfl rfl,
  fun _ _ _ _ => r_iconst (show zdec 289 11 = some (.iconst (-1), 1) by decide +kernel) rfl rfl,
  fun _ _ _ _ => r_ireti (show zdec 289 12 = some (.ireturn, 1) by decide +kernel) (by decide +kernel),
  fun _ _ _ _ => r_aload_nr (show zdec 289 13 = some (.aload_n 0, 1) by decide +kernel) rfl rfl,
  fun _ _ _ _ _ => r_getfield (show zdec 289 14 = some (.getfield 264, 3) by decide +kernel) (show zft.lookup (289 * zKEY + 264) = some (12, 11) by decide +kernel) rfl,
  fun _ _ _ _ => r_bipush (show zdec 289 17 = some (.bipush 60, 2) by decide +kernel) rfl rfl,
  fun _ _ _ _ _ _ => r_icmpne (show zdec 289 19 = some (.if_icmp .ne 6, 3) by decide +kernel) rfl rfl,
  fun _ _ _ _ => r_bipush (show zdec 289 22 = some (.bipush (-3), 2) by decide +kernel) rfl rfl,
  fun _ _ _ _ => r_ireti (show zdec 289 24 = some (.ireturn, 1) by decide +kernel) (by decide +kernel),
  fun _ _ _ _ => r_aload_nr (show zdec 289 25 = some (.aload_n 0, 1) by decide +kernel) rfl rfl,
  fun _ _ _ _ _ => r_getfield (show zdec 289 26 = some (.getfield 30, 3) by decide +kernel) (show zft.lookup (289 * zKEY + 30) = some (12, 10) by decide +kernel) rfl,
  fun _ _ _ _ => r_aload_nr (show zdec 289 29 = some (.aload_n 0, 1) by decide +kernel) rfl rfl,
  fun _ _ _ _ _ => r_getfield (show zdec 289 30 = some (.getfield 264, 3) by decide +kernel) (show zft.lookup (289 * zKEY + 264) = some (12, 11) by decide +kernel) rfl,
  fun _ _ _ _ => r_iload_n (show zdec 289 33 = some (.iload_n 1, 1) by decide +kernel) rfl rfl,
  fun _ _ _ _ _ => r_i2c (show zdec 289 34 = some (.i2c, 1) by decide +kernel) rfl,
  fun _ _ _ _ _ _ _ => r_cast (show zdec 289 35 = some (.castore, 1) by decide +kernel) rfl,
  fun _ _ _ _ => r_aload_nr (show zdec 289 36 = some (.aload_n 0, 1) by decide +kernel) rfl rfl,
  fun _ _ _ _ _ => r_dup (show zdec 289 37 = some (.dup, 1) by decide +kernel) rfl,
  fun _ _ _ _ _ => r_getfield (show zdec 289 38 = some (.getfield 264, 3) by decide +kernel) (show zft.lookup (289 * zKEY + 264) = some (12, 11) by decide +kernel) rfl,
  fun _ _ _ _ => r_iconst (show zdec 289 41 = some (.iconst 1, 1) by decide +kernel) rfl rfl,
  fun _ _ _ _ _ _ => r_iadd (show zdec 289 42 = some (.iadd, 1) by decide +kernel) rfl,
  fun _ _ _ _ _ _ => r_putfield (show zdec 289 43 = some (.putfield 264, 3) by decide +kernel) (show zft.lookup (289 * zKEY + 264) = some (12, 11) by decide +kernel) (by decide +kernel) rfl,
  fun _ _ _ _ => r_aload_nr (show zdec 289 46 = some (.aload_n 0, 1) by decide +kernel) rfl rfl,
  fun _ _ _ _ _ => r_getfield (show zdec 289 47 = some (.getfield 264, 3) by decide +kernel) (show zft.lookup (289 * zKEY + 264) = some (12, 11) by decide +kernel) rfl,
  fun _ _ _ _ => r_ireti (show zdec 289 50 = some (.ireturn, 1) by decide +kernel) (by decide +kernel)⟩
theorem ze_289 : ∀ (a0 : Nat) (a1 : Int32) (h : zH), ev 289 [.ref a0, .int a1] h = rn 289 0 [.ref a0, .int a1] [] h := fun _ _ _ => if_pos (Nat.le_of_ble_eq_true rfl)
-- PayrollRunModel.execute()I
theorem zr_290 : (∀ (l1 l2 l3 l4 l5 : Value) (x : Nat) (S : List Value) (h : zH), rn 290 0 [.ref x, l1, l2, l3, l4, l5] S h = rn 290 1 [.ref x, l1, l2, l3, l4, l5] (.ref x :: S) h) ∧
  (∀ (l0 l1 l2 l3 l4 l5 : Value) (S : List Value) (h : zH), rn 290 1 [l0, l1, l2, l3, l4, l5] S h = rn 290 2 [l0, l1, l2, l3, l4, l5] (.int (nI 0) :: S) h) ∧
  (∀ (l0 l1 l2 l3 l4 l5 : Value) (a : Nat) (v : Value) (S : List Value) (h : zH), rn 290 2 [l0, l1, l2, l3, l4, l5] (v :: .ref a :: S) h = zpf h a 12 12 v fun h => rn 290 5 [l0, l1, l2, l3, l4, l5] S h) ∧
  (∀ (l1 l2 l3 l4 l5 : Value) (x : Nat) (S : List Value) (h : zH), rn 290 5 [.ref x, l1, l2, l3, l4, l5] S h = rn 290 6 [.ref x, l1, l2, l3, l4, l5] (.ref x :: S) h) ∧
  (∀ (l0 l1 l2 l3 l4 l5 : Value) (S : List Value) (h : zH), rn 290 6 [l0, l1, l2, l3, l4, l5] S h = rn 290 7 [l0, l1, l2, l3, l4, l5] (.int (nI 0) :: S) h) ∧
  (∀ (l0 l1 l2 l3 l4 l5 : Value) (a : Nat) (v : Value) (S : List Value) (h : zH), rn 290 7 [l0, l1, l2, l3, l4, l5] (v :: .ref a :: S) h = zpf h a 12 13 v fun h => rn 290 10 [l0, l1, l2, l3, l4, l5] S h) ∧
  (∀ (l0 l1 l2 l3 l4 l5 : Value) (S : List Value) (h : zH), rn 290 10 [l0, l1, l2, l3, l4, l5] S h = rn 290 11 [l0, l1, l2, l3, l4, l5] (.int (nI 0) :: S) h) ∧
  (∀ (l0 l1 l2 l3 l4 l5 : Value) (x : Int32) (S : List Value) (h : zH), rn 290 11 [l0, l1, l2, l3, l4, l5] (.int x :: S) h = nl l0 (rn 290 12 [l0, .int x, l2, l3, l4, l5] S h)) ∧
  (∀ (l0 l1 l2 l3 l4 l5 : Value) (S : List Value) (h : zH), rn 290 12 [l0, l1, l2, l3, l4, l5] S h = rn 290 13 [l0, l1, l2, l3, l4, l5] (.int (nI 1) :: S) h) ∧
  (∀ (l0 l1 l2 l3 l4 l5 : Value) (x : Int32) (S : List Value) (h : zH), rn 290 13 [l0, l1, l2, l3, l4, l5] (.int x :: S) h = nl l1 (rn 290 14 [l0, l1, .int x, l3, l4, l5] S h)) ∧
  (∀ (l0 l1 l2 l3 l4 l5 : Value) (x : Int32) (S : List Value) (h : zH), rn 290 15 [l0, l1, l2, l3, l4, l5] (.int x :: S) h = if x = nI 0 then rn 290 70 [l0, l1, l2, l3, l4, l5] S h else rn 290 18 [l0, l1, l2, l3, l4, l5] S h) ∧
  (∀ (l1 l2 l3 l4 l5 : Value) (x : Nat) (S : List Value) (h : zH), rn 290 18 [.ref x, l1, l2, l3, l4, l5] S h = rn 290 19 [.ref x, l1, l2, l3, l4, l5] (.ref x :: S) h) ∧
  (∀ (l0 l1 l2 l3 l4 l5 : Value) (S : List Value) (h : zH), rn 290 19 [l0, l1, l2, l3, l4, l5] S h = rn 290 20 [l0, l1, l2, l3, l4, l5] (.int (nI 0) :: S) h) ∧
  (∀ (l0 l1 l2 l3 l4 l5 : Value) (o : Nat) (v0 : Value) (S : List Value) (h : zH), rn 290 20 [l0, l1, l2, l3, l4, l5] (v0 :: .ref o :: S) h = if zkd h o = 12 ∧ zsum S ≤ 8 then zcall (ev 291 [.ref o, v0] h) (fun v h => rn 290 23 [l0, l1, l2, l3, l4, l5] (zpush v S) h) else none) ∧
  (∀ (l0 l1 l2 l3 l4 l5 : Value) (x : Int32) (S : List Value) (h : zH), rn 290 23 [l0, l1, l2, l3, l4, l5] (.int x :: S) h = nl l2 (rn 290 24 [l0, l1, l2, .int x, l4, l5] S h)) ∧
  (∀ (l0 l2 l3 l4 l5 : Value) (x : Int32) (S : List Value) (h : zH), rn 290 24 [l0, .int x, l2, l3, l4, l5] S h = nl l0 (rn 290 27 [l0, .int (x + (nI 1)), l2, l3, l4, l5] S h)) ∧
  (∀ (l1 l2 l3 l4 l5 : Value) (x : Nat) (S : List Value) (h : zH), rn 290 27 [.ref x, l1, l2, l3, l4, l5] S h = rn 290 28 [.ref x, l1, l2, l3, l4, l5] (.ref x :: S) h) ∧
  (∀ (l0 l1 l2 l3 l4 l5 : Value) (a : Nat) (S : List Value) (h : zH), rn 290 28 [l0, l1, l2, l3, l4, l5] (.ref a :: S) h = zgf h a 12 13 fun v => rn 290 31 [l0, l1, l2, l3, l4, l5] (v :: S) h) ∧
  (∀ (l0 l1 l2 l3 l4 l5 : Value) (x : Int32) (S : List Value) (h : zH), rn 290 31 [l0, l1, l2, l3, l4, l5] (.int x :: S) h = if x = nI 0 then rn 290 34 [l0, l1, l2, l3, l4, l5] S h else rn 290 47 [l0, l1, l2, l3, l4, l5] S h) ∧
  (∀ (l1 l2 l3 l4 l5 : Value) (x : Nat) (S : List Value) (h : zH), rn 290 34 [.ref x, l1, l2, l3, l4, l5] S h = rn 290 35 [.ref x, l1, l2, l3, l4, l5] (.ref x :: S) h) ∧
  (∀ (l0 l1 l2 l3 l4 l5 : Value) (o : Nat) (S : List Value) (h : zH), rn 290 35 [l0, l1, l2, l3, l4, l5] (.ref o :: S) h = if zkd h o = 12 ∧ zsum S ≤ 8 then zcall (ev 292 [.ref o] h) (fun v h => rn 290 38 [l0, l1, l2, l3, l4, l5] (zpush v S) h) else none) ∧
  (∀ (l0 l1 l2 l3 l4 l5 : Value) (S : List Value) (h : zH), rn 290 38 [l0, l1, l2, l3, l4, l5] S h = rn 290 40 [l0, l1, l2, l3, l4, l5] (.int (nI 59) :: S) h) ∧
  (∀ (l0 l1 l2 l3 l4 l5 : Value) (x : Int32) (y : Int32) (S : List Value) (h : zH), rn 290 40 [l0, l1, l2, l3, l4, l5] (.int y :: .int x :: S) h = if x = y then rn 290 43 [l0, l1, l2, l3, l4, l5] S h else rn 290 47 [l0, l1, l2, l3, l4, l5] S h) ∧
  (∀ (l0 l1 l2 l3 l4 l5 : Value) (S : List Value) (h : zH), rn 290 43 [l0, l1, l2, l3, l4, l5] S h = rn 290 44 [l0, l1, l2, l3, l4, l5] (.int (nI 1) :: S) h) ∧
  (∀ (l0 l1 l2 l3 l4 l5 : Value) (S : List Value) (h : zH), rn 290 44 [l0, l1, l2, l3, l4, l5] S h = rn 290 48 [l0, l1, l2, l3, l4, l5] S h) ∧
  (∀ (l0 l1 l2 l3 l4 l5 : Value) (S : List Value) (h : zH), rn 290 47 [l0, l1, l2, l3, l4, l5] S h = rn 290 48 [l0, l1, l2, l3, l4, l5] (.int (nI 0) :: S) h) ∧
  (∀ (l0 l1 l2 l3 l4 l5 : Value) (x : Int32) (S : List Value) (h : zH), rn 290 48 [l0, l1, l2, l3, l4, l5] (.int x :: S) h = nl l1 (rn 290 49 [l0, l1, .int x, l3, l4, l5] S h)) ∧
  (∀ (l1 l2 l3 l4 l5 : Value) (x : Nat) (S : List Value) (h : zH), rn 290 49 [.ref x, l1, l2, l3, l4, l5] S h = rn 290 50 [.ref x, l1, l2, l3, l4, l5] (.ref x :: S) h) ∧
  (∀ (l0 l1 l2 l3 l4 l5 : Value) (v : Value) (S : List Value) (h : zH), rn 290 50 [l0, l1, l2, l3, l4, l5] (v :: S) h = c1 v (rn 290 51 [l0, l1, l2, l3, l4, l5] (v :: v :: S) h)) ∧
  (∀ (l0 l1 l2 l3 l4 l5 : Value) (a : Nat) (S : List Value) (h : zH), rn 290 51 [l0, l1, l2, l3, l4, l5] (.ref a :: S) h = zgf h a 12 12 fun v => rn 290 54 [l0, l1, l2, l3, l4, l5] (v :: S) h) ∧
  (∀ (l0 l1 l3 l4 l5 : Value) (x : Int32) (S : List Value) (h : zH), rn 290 54 [l0, l1, .int x, l3, l4, l5] S h = rn 290 55 [l0, l1, .int x, l3, l4, l5] (.int x :: S) h) ∧
  (∀ (l0 l1 l2 l3 l4 l5 : Value) (x : Int32) (S : List Value) (h : zH), rn 290 55 [l0, l1, l2, l3, l4, l5] (.int x :: S) h = if x = nI 0 then rn 290 62 [l0, l1, l2, l3, l4, l5] S h else rn 290 58 [l0, l1, l2, l3, l4, l5] S h) ∧
  (∀ (l0 l1 l2 l3 l4 l5 : Value) (S : List Value) (h : zH), rn 290 58 [l0, l1, l2, l3, l4, l5] S h = rn 290 59 [l0, l1, l2, l3, l4, l5] (.int (nI 1) :: S) h) ∧
  (∀ (l0 l1 l2 l3 l4 l5 : Value) (S : List Value) (h : zH), rn 290 59 [l0, l1, l2, l3, l4, l5] S h = rn 290 63 [l0, l1, l2, l3, l4, l5] S h) ∧
  (∀ (l0 l1 l2 l3 l4 l5 : Value) (S : List Value) (h : zH), rn 290 62 [l0, l1, l2, l3, l4, l5] S h = rn 290 63 [l0, l1, l2, l3, l4, l5] (.int (nI 0) :: S) h) ∧
  (∀ (l0 l1 l2 l3 l4 l5 : Value) (x : Int32) (y : Int32) (S : List Value) (h : zH), rn 290 63 [l0, l1, l2, l3, l4, l5] (.int y :: .int x :: S) h = rn 290 64 [l0, l1, l2, l3, l4, l5] (.int (x + y) :: S) h) ∧
  (∀ (l0 l1 l2 l3 l4 l5 : Value) (a : Nat) (v : Value) (S : List Value) (h : zH), rn 290 64 [l0, l1, l2, l3, l4, l5] (v :: .ref a :: S) h = zpf h a 12 12 v fun h => rn 290 67 [l0, l1, l2, l3, l4, l5] S h) ∧
  (∀ (l0 l1 l2 l3 l4 l5 : Value) (S : List Value) (h : zH), rn 290 67 [l0, l1, l2, l3, l4, l5] S h = rn 290 14 [l0, l1, l2, l3, l4, l5] S h) ∧
  (∀ (l1 l2 l3 l4 l5 : Value) (x : Nat) (S : List Value) (h : zH), rn 290 70 [.ref x, l1, l2, l3, l4, l5] S h = rn 290 71 [.ref x, l1, l2, l3, l4, l5] (.ref x :: S) h) ∧
  (∀ (l0 l1 l2 l3 l4 l5 : Value) (a : Nat) (S : List Value) (h : zH), rn 290 71 [l0, l1, l2, l3, l4, l5] (.ref a :: S) h = zgf h a 12 13 fun v => rn 290 74 [l0, l1, l2, l3, l4, l5] (v :: S) h) ∧
  (∀ (l0 l1 l2 l3 l4 l5 : Value) (x : Int32) (S : List Value) (h : zH), rn 290 74 [l0, l1, l2, l3, l4, l5] (.int x :: S) h = if x = nI 0 then rn 290 77 [l0, l1, l2, l3, l4, l5] S h else rn 290 88 [l0, l1, l2, l3, l4, l5] S h) ∧
  (∀ (l1 l2 l3 l4 l5 : Value) (x : Nat) (S : List Value) (h : zH), rn 290 77 [.ref x, l1, l2, l3, l4, l5] S h = rn 290 78 [.ref x, l1, l2, l3, l4, l5] (.ref x :: S) h) ∧
  (∀ (l0 l1 l2 l3 l4 l5 : Value) (a : Nat) (S : List Value) (h : zH), rn 290 78 [l0, l1, l2, l3, l4, l5] (.ref a :: S) h = zgf h a 12 12 fun v => rn 290 81 [l0, l1, l2, l3, l4, l5] (v :: S) h) ∧
  (∀ (l1 l2 l3 l4 l5 : Value) (x : Nat) (S : List Value) (h : zH), rn 290 81 [.ref x, l1, l2, l3, l4, l5] S h = rn 290 82 [.ref x, l1, l2, l3, l4, l5] (.ref x :: S) h) ∧
  (∀ (l0 l1 l2 l3 l4 l5 : Value) (a : Nat) (S : List Value) (h : zH), rn 290 82 [l0, l1, l2, l3, l4, l5] (.ref a :: S) h = zgf h a 12 11 fun v => rn 290 85 [l0, l1, l2, l3, l4, l5] (v :: S) h) ∧
  (∀ (l0 l1 l2 l3 l4 l5 : Value) (x : Int32) (y : Int32) (S : List Value) (h : zH), rn 290 85 [l0, l1, l2, l3, l4, l5] (.int y :: .int x :: S) h = if y ≤ x then rn 290 101 [l0, l1, l2, l3, l4, l5] S h else rn 290 88 [l0, l1, l2, l3, l4, l5] S h) ∧
  (∀ (l1 l2 l3 l4 l5 : Value) (x : Nat) (S : List Value) (h : zH), rn 290 88 [.ref x, l1, l2, l3, l4, l5] S h = rn 290 89 [.ref x, l1, l2, l3, l4, l5] (.ref x :: S) h) ∧
  (∀ (l0 l1 l2 l3 l4 l5 : Value) (S : List Value) (h : zH), rn 290 89 [l0, l1, l2, l3, l4, l5] S h = rn 290 90 [l0, l1, l2, l3, l4, l5] (.int (nI 0) :: S) h) ∧
  (∀ (l0 l1 l2 l3 l4 l5 : Value) (a : Nat) (v : Value) (S : List Value) (h : zH), rn 290 90 [l0, l1, l2, l3, l4, l5] (v :: .ref a :: S) h = zpf h a 12 11 v fun h => rn 290 93 [l0, l1, l2, l3, l4, l5] S h) ∧
  (∀ (l0 l1 l2 l3 l4 l5 : Value) (S : List Value) (h : zH), rn 290 93 [l0, l1, l2, l3, l4, l5] S h = rn 290 95 [l0, l1, l2, l3, l4, l5] (.int (-100) :: S) h) ∧
  (∀ (l1 l2 l3 l4 l5 : Value) (x : Nat) (S : List Value) (h : zH), rn 290 95 [.ref x, l1, l2, l3, l4, l5] S h = rn 290 96 [.ref x, l1, l2, l3, l4, l5] (.ref x :: S) h) ∧
  (∀ (l0 l1 l2 l3 l4 l5 : Value) (a : Nat) (S : List Value) (h : zH), rn 290 96 [l0, l1, l2, l3, l4, l5] (.ref a :: S) h = zgf h a 12 12 fun v => rn 290 99 [l0, l1, l2, l3, l4, l5] (v :: S) h) ∧
  (∀ (l0 l1 l2 l3 l4 l5 : Value) (x : Int32) (y : Int32) (S : List Value) (h : zH), rn 290 99 [l0, l1, l2, l3, l4, l5] (.int y :: .int x :: S) h = rn 290 100 [l0, l1, l2, l3, l4, l5] (.int (x - y) :: S) h) ∧
  (∀ (l0 l1 l2 l3 l4 l5 : Value) (x : Int32) (h : zH), rn 290 100 [l0, l1, l2, l3, l4, l5] [.int x] h = some (some (.int x), h)) ∧
  (∀ (l1 l2 l3 l4 l5 : Value) (x : Nat) (S : List Value) (h : zH), rn 290 101 [.ref x, l1, l2, l3, l4, l5] S h = rn 290 102 [.ref x, l1, l2, l3, l4, l5] (.ref x :: S) h) ∧
  (∀ (l0 l1 l2 l3 l4 l5 : Value) (a : Nat) (S : List Value) (h : zH), rn 290 102 [l0, l1, l2, l3, l4, l5] (.ref a :: S) h = zgf h a 12 0 fun v => rn 290 105 [l0, l1, l2, l3, l4, l5] (v :: S) h) ∧
  (∀ (l0 l1 l2 l3 l4 l5 : Value) (S : List Value) (h : zH), rn 290 105 [l0, l1, l2, l3, l4, l5] S h = rn 290 106 [l0, l1, l2, l3, l4, l5] (.int (nI 0) :: S) h) ∧
  (∀ (l1 l2 l3 l4 l5 : Value) (x : Nat) (S : List Value) (h : zH), rn 290 106 [.ref x, l1, l2, l3, l4, l5] S h = rn 290 107 [.ref x, l1, l2, l3, l4, l5] (.ref x :: S) h) ∧
  (∀ (l0 l1 l2 l3 l4 l5 : Value) (a : Nat) (S : List Value) (h : zH), rn 290 107 [l0, l1, l2, l3, l4, l5] (.ref a :: S) h = zgf h a 12 6 fun v => rn 290 110 [l0, l1, l2, l3, l4, l5] (v :: S) h) ∧
  (∀ (l0 l1 l2 l3 l4 l5 : Value) (S : List Value) (h : zH), rn 290 110 [l0, l1, l2, l3, l4, l5] S h = rn 290 111 [l0, l1, l2, l3, l4, l5] (.int (nI 0) :: S) h) ∧
  (∀ (l0 l1 l2 l3 l4 l5 : Value) (S : List Value) (h : zH), rn 290 111 [l0, l1, l2, l3, l4, l5] S h = rn 290 114 [l0, l1, l2, l3, l4, l5] (.int (nI 8271) :: S) h) ∧
  (∀ (l0 l1 l2 l3 l4 l5 : Value) (s : Nat) (d : Nat) (sp : Int32) (dp : Int32) (x : Int32) (S : List Value) (h : zH), rn 290 114 [l0, l1, l2, l3, l4, l5] (.int x :: .int dp :: .ref d :: .int sp :: .ref s :: S) h = if zsum S ≤ 8 then zcpI h s sp d dp x (fun h => rn 290 117 [l0, l1, l2, l3, l4, l5] S h) else none) ∧
  (∀ (l1 l2 l3 l4 l5 : Value) (x : Nat) (S : List Value) (h : zH), rn 290 117 [.ref x, l1, l2, l3, l4, l5] S h = rn 290 118 [.ref x, l1, l2, l3, l4, l5] (.ref x :: S) h) ∧
  (∀ (l0 l1 l2 l3 l4 l5 : Value) (S : List Value) (h : zH), rn 290 118 [l0, l1, l2, l3, l4, l5] S h = rn 290 119 [l0, l1, l2, l3, l4, l5] (.int (nI 0) :: S) h) ∧
  (∀ (l0 l1 l2 l3 l4 l5 : Value) (a : Nat) (v : Value) (S : List Value) (h : zH), rn 290 119 [l0, l1, l2, l3, l4, l5] (v :: .ref a :: S) h = zpf h a 12 12 v fun h => rn 290 122 [l0, l1, l2, l3, l4, l5] S h) ∧
  (∀ (l1 l2 l3 l4 l5 : Value) (x : Nat) (S : List Value) (h : zH), rn 290 122 [.ref x, l1, l2, l3, l4, l5] S h = rn 290 123 [.ref x, l1, l2, l3, l4, l5] (.ref x :: S) h) ∧
  (∀ (l0 l1 l2 l3 l4 l5 : Value) (S : List Value) (h : zH), rn 290 123 [l0, l1, l2, l3, l4, l5] S h = rn 290 124 [l0, l1, l2, l3, l4, l5] (.int (nI 1) :: S) h) ∧
  (∀ (l0 l1 l2 l3 l4 l5 : Value) (a : Nat) (v : Value) (S : List Value) (h : zH), rn 290 124 [l0, l1, l2, l3, l4, l5] (v :: .ref a :: S) h = zpf h a 12 7 v fun h => rn 290 127 [l0, l1, l2, l3, l4, l5] S h) ∧
  (∀ (l0 l1 l2 l3 l4 l5 : Value) (S : List Value) (h : zH), rn 290 127 [l0, l1, l2, l3, l4, l5] S h = rn 290 128 [l0, l1, l2, l3, l4, l5] (.int (nI 0) :: S) h) ∧
  (∀ (l0 l1 l2 l3 l4 l5 : Value) (x : Int32) (S : List Value) (h : zH), rn 290 128 [l0, l1, l2, l3, l4, l5] (.int x :: S) h = nl l2 (rn 290 129 [l0, l1, l2, .int x, l4, l5] S h)) ∧
  (∀ (l0 l1 l2 l3 l4 l5 : Value) (S : List Value) (h : zH), rn 290 129 [l0, l1, l2, l3, l4, l5] S h = rn 290 130 [l0, l1, l2, l3, l4, l5] (.int (nI 1) :: S) h) ∧
  (∀ (l0 l1 l2 l3 l4 l5 : Value) (x : Int32) (S : List Value) (h : zH), rn 290 130 [l0, l1, l2, l3, l4, l5] (.int x :: S) h = nl l3 (rn 290 132 [l0, l1, l2, l3, .int x, l5] S h)) ∧
  (∀ (l0 l1 l2 l3 l4 l5 : Value) (S : List Value) (h : zH), rn 290 132 [l0, l1, l2, l3, l4, l5] S h = rn 290 133 [l0, l1, l2, l3, l4, l5] (.int (nI 0) :: S) h) ∧
  (∀ (l0 l1 l2 l3 l4 l5 : Value) (x : Int32) (S : List Value) (h : zH), rn 290 133 [l0, l1, l2, l3, l4, l5] (.int x :: S) h = nl l4 (rn 290 135 [l0, l1, l2, l3, l4, .int x] S h)) ∧
  (∀ (l0 l2 l3 l4 l5 : Value) (x : Int32) (S : List Value) (h : zH), rn 290 137 [l0, .int x, l2, l3, l4, l5] S h = rn 290 138 [l0, .int x, l2, l3, l4, l5] (.int x :: S) h) ∧
  (∀ (l0 l1 l2 l3 l4 l5 : Value) (x : Int32) (y : Int32) (S : List Value) (h : zH), rn 290 138 [l0, l1, l2, l3, l4, l5] (.int y :: .int x :: S) h = if y ≤ x then rn 290 182 [l0, l1, l2, l3, l4, l5] S h else rn 290 141 [l0, l1, l2, l3, l4, l5] S h) ∧
  (∀ (l0 l1 l2 l3 l5 : Value) (x : Int32) (S : List Value) (h : zH), rn 290 141 [l0, l1, l2, l3, .int x, l5] S h = rn 290 143 [l0, l1, l2, l3, .int x, l5] (.int x :: S) h) ∧
  (∀ (l0 l1 l2 l3 l4 l5 : Value) (x : Int32) (S : List Value) (h : zH), rn 290 143 [l0, l1, l2, l3, l4, l5] (.int x :: S) h = if x = nI 0 then rn 290 182 [l0, l1, l2, l3, l4, l5] S h else rn 290 146 [l0, l1, l2, l3, l4, l5] S h) ∧
  (∀ (l1 l2 l3 l4 l5 : Value) (x : Nat) (S : List Value) (h : zH), rn 290 146 [.ref x, l1, l2, l3, l4, l5] S h = rn 290 147 [.ref x, l1, l2, l3, l4, l5] (.ref x :: S) h) ∧
  (∀ (l0 l1 l2 l3 l4 l5 : Value) (a : Nat) (S : List Value) (h : zH), rn 290 147 [l0, l1, l2, l3, l4, l5] (.ref a :: S) h = zgf h a 12 12 fun v => rn 290 150 [l0, l1, l2, l3, l4, l5] (v :: S) h) ∧
  (∀ (l0 l1 l2 l3 l4 l5 : Value) (x : Int32) (S : List Value) (h : zH), rn 290 150 [l0, l1, l2, l3, l4, l5] (.int x :: S) h = nl l2 (rn 290 151 [l0, l1, l2, .int x, l4, l5] S h)) ∧
  (∀ (l1 l2 l3 l4 l5 : Value) (x : Nat) (S : List Value) (h : zH), rn 290 151 [.ref x, l1, l2, l3, l4, l5] S h = rn 290 152 [.ref x, l1, l2, l3, l4, l5] (.ref x :: S) h) ∧
  (∀ (l0 l1 l2 l3 l4 l5 : Value) (S : List Value) (h : zH), rn 290 152 [l0, l1, l2, l3, l4, l5] S h = rn 290 153 [l0, l1, l2, l3, l4, l5] (.int (nI 1) :: S) h) ∧
  (∀ (l0 l1 l2 l3 l4 l5 : Value) (o : Nat) (v0 : Value) (S : List Value) (h : zH), rn 290 153 [l0, l1, l2, l3, l4, l5] (v0 :: .ref o :: S) h = if zkd h o = 12 ∧ zsum S ≤ 8 then zcall (ev 291 [.ref o, v0] h) (fun v h => rn 290 156 [l0, l1, l2, l3, l4, l5] (zpush v S) h) else none) ∧
  (∀ (l0 l1 l2 l3 l4 l5 : Value) (x : Int32) (S : List Value) (h : zH), rn 290 156 [l0, l1, l2, l3, l4, l5] (.int x :: S) h = if x < nI 0 then rn 290 163 [l0, l1, l2, l3, l4, l5] S h else rn 290 159 [l0, l1, l2, l3, l4, l5] S h) ∧
  (∀ (l0 l1 l2 l3 l4 l5 : Value) (S : List Value) (h : zH), rn 290 159 [l0, l1, l2, l3, l4, l5] S h = rn 290 160 [l0, l1, l2, l3, l4, l5] (.int (nI 1) :: S) h) ∧
  (∀ (l0 l1 l2 l3 l4 l5 : Value) (S : List Value) (h : zH), rn 290 160 [l0, l1, l2, l3, l4, l5] S h = rn 290 164 [l0, l1, l2, l3, l4, l5] S h) ∧
  (∀ (l0 l1 l2 l3 l4 l5 : Value) (S : List Value) (h : zH), rn 290 163 [l0, l1, l2, l3, l4, l5] S h = rn 290 164 [l0, l1, l2, l3, l4, l5] (.int (nI 0) :: S) h) ∧
  (∀ (l0 l1 l2 l3 l4 l5 : Value) (x : Int32) (S : List Value) (h : zH), rn 290 164 [l0, l1, l2, l3, l4, l5] (.int x :: S) h = nl l3 (rn 290 166 [l0, l1, l2, l3, .int x, l5] S h)) ∧
  (∀ (l1 l2 l3 l4 l5 : Value) (x : Nat) (S : List Value) (h : zH), rn 290 166 [.ref x, l1, l2, l3, l4, l5] S h = rn 290 167 [.ref x, l1, l2, l3, l4, l5] (.ref x :: S) h) ∧
  (∀ (l0 l1 l2 l3 l4 l5 : Value) (v : Value) (S : List Value) (h : zH), rn 290 167 [l0, l1, l2, l3, l4, l5] (v :: S) h = c1 v (rn 290 168 [l0, l1, l2, l3, l4, l5] (v :: v :: S) h)) ∧
  (∀ (l0 l1 l2 l3 l4 l5 : Value) (a : Nat) (S : List Value) (h : zH), rn 290 168 [l0, l1, l2, l3, l4, l5] (.ref a :: S) h = zgf h a 12 12 fun v => rn 290 171 [l0, l1, l2, l3, l4, l5] (v :: S) h) ∧
  (∀ (l0 l1 l2 l3 l4 l5 : Value) (S : List Value) (h : zH), rn 290 171 [l0, l1, l2, l3, l4, l5] S h = rn 290 172 [l0, l1, l2, l3, l4, l5] (.int (nI 1) :: S) h) ∧
  (∀ (l0 l1 l2 l3 l4 l5 : Value) (x : Int32) (y : Int32) (S : List Value) (h : zH), rn 290 172 [l0, l1, l2, l3, l4, l5] (.int y :: .int x :: S) h = rn 290 173 [l0, l1, l2, l3, l4, l5] (.int (x + y) :: S) h) ∧
  (∀ (l0 l1 l2 l3 l4 l5 : Value) (a : Nat) (v : Value) (S : List Value) (h : zH), rn 290 173 [l0, l1, l2, l3, l4, l5] (v :: .ref a :: S) h = zpf h a 12 12 v fun h => rn 290 176 [l0, l1, l2, l3, l4, l5] S h) ∧
  (∀ (l0 l1 l2 l3 l4 : Value) (x : Int32) (S : List Value) (h : zH), rn 290 176 [l0, l1, l2, l3, l4, .int x] S h = nl l4 (rn 290 179 [l0, l1, l2, l3, l4, .int (x + (nI 1))] S h)) ∧
  (∀ (l0 l1 l2 l3 l4 l5 : Value) (S : List Value) (h : zH), rn 290 179 [l0, l1, l2, l3, l4, l5] S h = rn 290 135 [l0, l1, l2, l3, l4, l5] S h) ∧
  (∀ (l1 l2 l3 l4 l5 : Value) (x : Nat) (S : List Value) (h : zH), rn 290 182 [.ref x, l1, l2, l3, l4, l5] S h = rn 290 183 [.ref x, l1, l2, l3, l4, l5] (.ref x :: S) h) ∧
  (∀ (l0 l1 l2 l3 l4 l5 : Value) (S : List Value) (h : zH), rn 290 183 [l0, l1, l2, l3, l4, l5] S h = rn 290 184 [l0, l1, l2, l3, l4, l5] (.int (nI 0) :: S) h) ∧
  (∀ (l0 l1 l2 l3 l4 l5 : Value) (a : Nat) (v : Value) (S : List Value) (h : zH), rn 290 184 [l0, l1, l2, l3, l4, l5] (v :: .ref a :: S) h = zpf h a 12 7 v fun h => rn 290 187 [l0, l1, l2, l3, l4, l5] S h) ∧
  (∀ (l1 l2 l3 l4 l5 : Value) (x : Nat) (S : List Value) (h : zH), rn 290 187 [.ref x, l1, l2, l3, l4, l5] S h = rn 290 188 [.ref x, l1, l2, l3, l4, l5] (.ref x :: S) h) ∧
  (∀ (l0 l1 l2 l3 l4 l5 : Value) (S : List Value) (h : zH), rn 290 188 [l0, l1, l2, l3, l4, l5] S h = rn 290 189 [l0, l1, l2, l3, l4, l5] (.int (nI 0) :: S) h) ∧
  (∀ (l0 l1 l2 l3 l4 l5 : Value) (a : Nat) (v : Value) (S : List Value) (h : zH), rn 290 189 [l0, l1, l2, l3, l4, l5] (v :: .ref a :: S) h = zpf h a 12 11 v fun h => rn 290 192 [l0, l1, l2, l3, l4, l5] S h) ∧
  (∀ (l0 l1 l2 l3 l5 : Value) (x : Int32) (S : List Value) (h : zH), rn 290 192 [l0, l1, l2, l3, .int x, l5] S h = rn 290 194 [l0, l1, l2, l3, .int x, l5] (.int x :: S) h) ∧
  (∀ (l0 l1 l2 l3 l4 l5 : Value) (x : Int32) (S : List Value) (h : zH), rn 290 194 [l0, l1, l2, l3, l4, l5] (.int x :: S) h = if x = nI 0 then rn 290 197 [l0, l1, l2, l3, l4, l5] S h else rn 290 219 [l0, l1, l2, l3, l4, l5] S h) ∧
  (∀ (l1 l2 l3 l4 l5 : Value) (x : Nat) (S : List Value) (h : zH), rn 290 197 [.ref x, l1, l2, l3, l4, l5] S h = rn 290 198 [.ref x, l1, l2, l3, l4, l5] (.ref x :: S) h) ∧
  (∀ (l0 l1 l2 l3 l4 l5 : Value) (a : Nat) (S : List Value) (h : zH), rn 290 198 [l0, l1, l2, l3, l4, l5] (.ref a :: S) h = zgf h a 12 6 fun v => rn 290 201 [l0, l1, l2, l3, l4, l5] (v :: S) h) ∧
  (∀ (l0 l1 l2 l3 l4 l5 : Value) (S : List Value) (h : zH), rn 290 201 [l0, l1, l2, l3, l4, l5] S h = rn 290 202 [l0, l1, l2, l3, l4, l5] (.int (nI 0) :: S) h) ∧
  (∀ (l1 l2 l3 l4 l5 : Value) (x : Nat) (S : List Value) (h : zH), rn 290 202 [.ref x, l1, l2, l3, l4, l5] S h = rn 290 203 [.ref x, l1, l2, l3, l4, l5] (.ref x :: S) h) ∧
  (∀ (l0 l1 l2 l3 l4 l5 : Value) (a : Nat) (S : List Value) (h : zH), rn 290 203 [l0, l1, l2, l3, l4, l5] (.ref a :: S) h = zgf h a 12 0 fun v => rn 290 206 [l0, l1, l2, l3, l4, l5] (v :: S) h) ∧
  (∀ (l0 l1 l2 l3 l4 l5 : Value) (S : List Value) (h : zH), rn 290 206 [l0, l1, l2, l3, l4, l5] S h = rn 290 207 [l0, l1, l2, l3, l4, l5] (.int (nI 0) :: S) h) ∧
  (∀ (l0 l1 l2 l3 l4 l5 : Value) (S : List Value) (h : zH), rn 290 207 [l0, l1, l2, l3, l4, l5] S h = rn 290 210 [l0, l1, l2, l3, l4, l5] (.int (nI 8271) :: S) h) ∧
  (∀ (l0 l1 l2 l3 l4 l5 : Value) (s : Nat) (d : Nat) (sp : Int32) (dp : Int32) (x : Int32) (S : List Value) (h : zH), rn 290 210 [l0, l1, l2, l3, l4, l5] (.int x :: .int dp :: .ref d :: .int sp :: .ref s :: S) h = if zsum S ≤ 8 then zcpI h s sp d dp x (fun h => rn 290 213 [l0, l1, l2, l3, l4, l5] S h) else none) ∧
  (∀ (l0 l1 l2 l3 l4 l5 : Value) (S : List Value) (h : zH), rn 290 213 [l0, l1, l2, l3, l4, l5] S h = rn 290 216 [l0, l1, l2, l3, l4, l5] (.int (-200) :: S) h) ∧
  (∀ (l0 l1 l2 l4 l5 : Value) (x : Int32) (S : List Value) (h : zH), rn 290 216 [l0, l1, l2, .int x, l4, l5] S h = rn 290 217 [l0, l1, l2, .int x, l4, l5] (.int x :: S) h) ∧
  (∀ (l0 l1 l2 l3 l4 l5 : Value) (x : Int32) (y : Int32) (S : List Value) (h : zH), rn 290 217 [l0, l1, l2, l3, l4, l5] (.int y :: .int x :: S) h = rn 290 218 [l0, l1, l2, l3, l4, l5] (.int (x - y) :: S) h) ∧
  (∀ (l0 l1 l2 l3 l4 l5 : Value) (x : Int32) (h : zH), rn 290 218 [l0, l1, l2, l3, l4, l5] [.int x] h = some (some (.int x), h)) ∧
  (∀ (l1 l2 l3 l4 l5 : Value) (x : Nat) (S : List Value) (h : zH), rn 290 219 [.ref x, l1, l2, l3, l4, l5] S h = rn 290 220 [.ref x, l1, l2, l3, l4, l5] (.ref x :: S) h) ∧
  (∀ (l1 l2 l3 l4 l5 : Value) (x : Nat) (S : List Value) (h : zH), rn 290 220 [.ref x, l1, l2, l3, l4, l5] S h = rn 290 221 [.ref x, l1, l2, l3, l4, l5] (.ref x :: S) h) ∧
  (∀ (l0 l1 l2 l3 l4 l5 : Value) (a : Nat) (S : List Value) (h : zH), rn 290 221 [l0, l1, l2, l3, l4, l5] (.ref a :: S) h = zgf h a 12 6 fun v => rn 290 224 [l0, l1, l2, l3, l4, l5] (v :: S) h) ∧
  (∀ (l0 l1 l2 l3 l4 l5 : Value) (o : Nat) (v0 : Value) (S : List Value) (h : zH), rn 290 224 [l0, l1, l2, l3, l4, l5] (v0 :: .ref o :: S) h = if zkd h o = 12 ∧ zsum S ≤ 8 then zcall (ev 215 [.ref o, v0] h) (fun v h => rn 290 227 [l0, l1, l2, l3, l4, l5] (zpush v S) h) else none) ∧
  (∀ (l0 l2 l3 l4 l5 : Value) (x : Int32) (S : List Value) (h : zH), rn 290 227 [l0, .int x, l2, l3, l4, l5] S h = rn 290 228 [l0, .int x, l2, l3, l4, l5] (.int x :: S) h) ∧
  (∀ (l0 l1 l2 l3 l4 l5 : Value) (x : Int32) (h : zH), rn 290 228 [l0, l1, l2, l3, l4, l5] [.int x] h = some (some (.int x), h)) := ⟨fun _ _ _ _ _ _ _ _ => r_aload_nr (show zdec 290 0 = some (.aload_n 0, 1) by decide +kernel) rfl rfl,
  fun _ _ _ _ _ _ _ _ => r_iconst (show zdec 290 1 = some (.iconst 0, 1) by decide +kernel) rfl rfl,
  fun _ _ _ _ _ _ _ _ _ _ => r_putfield (show zdec 290 2 = some (.putfield 266, 3) by decide +kernel) (show zft.lookup (290 * zKEY + 266) = some (12, 12) by decide +kernel) (by decide +kernel) rfl,
  fun _ _ _ _ _ _ _ _ => r_aload_nr (show zdec 290 5 = some (.aload_n 0, 1) by decide +kernel) rfl rfl,
  fun _ _ _ _ _ _ _ _ => r_iconst (show zdec 290 6 = some (.iconst 0, 1) by decide +kernel) rfl rfl,
  fun _ _ _ _ _ _ _ _ _ _ => r_putfield (show zdec 290 7 = some (.putfield 299, 3) by decide +kernel) (show zft.lookup (290 * zKEY + 299) = some (12, 13) by decide +kernel) (by decide +kernel) rfl,
  fun _ _ _ _ _ _ _ _ => r_iconst (show zdec 290 10 = some (.iconst 0, 1) by decide +kernel) rfl rfl,
  fun _ _ _ _ _ _ _ _ _ => r_istore_n (show zdec 290 11 = some (.istore_n 1, 1) by decide +kernel) rfl rfl (Nat.le_of_ble_eq_true rfl) rfl rfl,
  fun _ _ _ _ _ _ _ _ => r_iconst (show zdec 290 12 = some (.iconst 1, 1) by decide +kernel) rfl rfl,
  fun _ _ _ _ _ _ _ _ _ => r_istore_n (show zdec 290 13 = some (.istore_n 2, 1) by decide +kernel) rfl rfl (Nat.le_of_ble_eq_true rfl) rfl rfl,
  fun _ _ _ _ _ _ _ _ _ => r_ifeq (show zdec 290 15 = some (.ifCond .eq 55, 3) by decide +kernel) rfl rfl,
  fun _ _ _ _ _ _ _ _ => r_aload_nr (show zdec 290 18 = some (.aload_n 0, 1) by decide +kernel) rfl rfl,
  fun _ _ _ _ _ _ _ _ => r_iconst (show zdec 290 19 = some (.iconst 0, 1) by decide +kernel) rfl rfl,
  fun _ _ _ _ _ _ _ _ _ _ => r_cV [_] rfl (show zdec 290 20 = some (.invokevirtual 341, 3) by decide +kernel) (show zst.lookup (290 * zKEY + 341) = some (1, 291, 1, 12) by decide +kernel) (by decide) rfl,
  fun _ _ _ _ _ _ _ _ _ => r_istore_n (show zdec 290 23 = some (.istore_n 3, 1) by decide +kernel) rfl rfl (Nat.le_of_ble_eq_true rfl) rfl rfl,
  fun _ _ _ _ _ _ _ _ => r_iinc (show zdec 290 24 = some (.iinc 1 1, 3) by decide +kernel) rfl rfl rfl (Nat.le_of_ble_eq_true rfl) rfl rfl,
  fun _ _ _ _ _ _ _ _ => r_aload_nr (show zdec 290 27 = some (.aload_n 0, 1) by decide +kernel) rfl rfl,
  fun _ _ _ _ _ _ _ _ _ => r_getfield (show zdec 290 28 = some (.getfield 299, 3) by decide +kernel) (show zft.lookup (290 * zKEY + 299) = some (12, 13) by decide +kernel) rfl,
  fun _ _ _ _ _ _ _ _ _ => r_ifne (show zdec 290 31 = some (.ifCond .ne 16, 3) by decide +kernel) rfl rfl,
  fun _ _ _ _ _ _ _ _ => r_aload_nr (show zdec 290 34 = some (.aload_n 0, 1) by decide +kernel) rfl rfl,
  fun _ _ _ _ _ _ _ _ _ => r_cV [] rfl (show zdec 290 35 = some (.invokevirtual 296, 3) by decide +kernel) (show zst.lookup (290 * zKEY + 296) = some (1, 292, 0, 12) by decide +kernel) (by decide) rfl,
  fun _ _ _ _ _ _ _ _ => r_bipush (show zdec 290 38 = some (.bipush 59, 2) by decide +kernel) rfl rfl,
  fun _ _ _ _ _ _ _ _ _ _ => r_icmpne (show zdec 290 40 = some (.if_icmp .ne 7, 3) by decide +kernel) rfl rfl,
  fun _ _ _ _ _ _ _ _ => r_iconst (show zdec 290 43 = some (.iconst 1, 1) by decide +kernel) rfl rfl,
  fun _ _ _ _ _ _ _ _ => r_goto (show zdec 290 44 = some (.goto 4, 3) by decide +kernel) rfl,
  fun _ _ _ _ _ _ _ _ => r_iconst (show zdec 290 47 = some (.iconst 0, 1) by decide +kernel) rfl rfl,
  fun _ _ _ _ _ _ _ _ _ => r_istore_n (show zdec 290 48 = some (.istore_n 2, 1) by decide +kernel) rfl rfl (Nat.le_of_ble_eq_true rfl) rfl rfl,
  fun _ _ _ _ _ _ _ _ => r_aload_nr (show zdec 290 49 = some (.aload_n 0, 1) by decide +kernel) rfl rfl,
  fun _ _ _ _ _ _ _ _ _ => r_dup (show zdec 290 50 = some (.dup, 1) by decide +kernel) rfl,
  fun _ _ _ _ _ _ _ _ _ => r_getfield (show zdec 290 51 = some (.getfield 266, 3) by decide +kernel) (show zft.lookup (290 * zKEY + 266) = some (12, 12) by decide +kernel) rfl,
  fun _ _ _ _ _ _ _ _ => r_iload_n (show zdec 290 54 = some (.iload_n 2, 1) by decide +kernel) rfl rfl,
  fun _ _ _ _ _ _ _ _ _ => r_ifeq (show zdec 290 55 = some (.ifCond .eq 7, 3) by decide +kernel) rfl rfl,
  fun _ _ _ _ _ _ _ _ => r_iconst (show zdec 290 58 = some (.iconst 1, 1) by decide +kernel) rfl rfl,
  fun _ _ _ _ _ _ _ _ => r_goto (show zdec 290 59 = some (.goto 4, 3) by decide +kernel) rfl,
  fun _ _ _ _ _ _ _ _ => r_iconst (show zdec 290 62 = some (.iconst 0, 1) by decide +kernel) rfl rfl,
  fun _ _ _ _ _ _ _ _ _ _ => r_iadd (show zdec 290 63 = some (.iadd, 1) by decide +kernel) rfl,
  fun _ _ _ _ _ _ _ _ _ _ => r_putfield (show zdec 290 64 = some (.putfield 266, 3) by decide +kernel) (show zft.lookup (290 * zKEY + 266) = some (12, 12) by decide +kernel) (by decide +kernel) rfl,
  fun _ _ _ _ _ _ _ _ => r_goto (show zdec 290 67 = some (.goto (-53), 3) by decide +kernel) rfl,
  fun _ _ _ _ _ _ _ _ => r_aload_nr (show zdec 290 70 = some (.aload_n 0, 1) by decide +kernel) rfl rfl,
  fun _ _ _ _ _ _ _ _ _ => r_getfield (show zdec 290 71 = some (.getfield 299, 3) by decide +kernel) (show zft.lookup (290 * zKEY + 299) = some (12, 13) by decide +kernel) rfl,
  fun _ _ _ _ _ _ _ _ _ => r_ifne (show zdec 290 74 = some (.ifCond .ne 14, 3) by decide +kernel) rfl rfl,
  fun _ _ _ _ _ _ _ _ => r_aload_nr (show zdec 290 77 = some (.aload_n 0, 1) by decide +kernel) rfl rfl,
  fun _ _ _ _ _ _ _ _ _ => r_getfield (show zdec 290 78 = some (.getfield 266, 3) by decide +kernel) (show zft.lookup (290 * zKEY + 266) = some (12, 12) by decide +kernel) rfl,
  fun _ _ _ _ _ _ _ _ => r_aload_nr (show zdec 290 81 = some (.aload_n 0, 1) by decide +kernel) rfl rfl,
  fun _ _ _ _ _ _ _ _ _ => r_getfield (show zdec 290 82 = some (.getfield 264, 3) by decide +kernel) (show zft.lookup (290 * zKEY + 264) = some (12, 11) by decide +kernel) rfl,
  fun _ _ _ _ _ _ _ _ _ _ => r_icmpge (show zdec 290 85 = some (.if_icmp .ge 16, 3) by decide +kernel) rfl rfl,
  fun _ _ _ _ _ _ _ _ => r_aload_nr (show zdec 290 88 = some (.aload_n 0, 1) by decide +kernel) rfl rfl,
  fun _ _ _ _ _ _ _ _ => r_iconst (show zdec 290 89 = some (.iconst 0, 1) by decide +kernel) rfl rfl,
  fun _ _ _ _ _ _ _ _ _ _ => r_putfield (show zdec 290 90 = some (.putfield 264, 3) by decide +kernel) (show zft.lookup (290 * zKEY + 264) = some (12, 11) by decide +kernel) (by decide +kernel) rfl,
  fun _ _ _ _ _ _ _ _ => r_bipush (show zdec 290 93 = some (.bipush (-100), 2) by decide +kernel) rfl rfl,
  fun _ _ _ _ _ _ _ _ => r_aload_nr (show zdec 290 95 = some (.aload_n 0, 1) by decide +kernel) rfl rfl,
  fun _ _ _ _ _ _ _ _ _ => r_getfield (show zdec 290 96 = some (.getfield 266, 3) by decide +kernel) (show zft.lookup (290 * zKEY + 266) = some (12, 12) by decide +kernel) rfl,
  fun _ _ _ _ _ _ _ _ _ _ => r_isub (show zdec 290 99 = some (.isub, 1) by decide +kernel) rfl,
  fun _ _ _ _ _ _ _ _ => r_ireti (show zdec 290 100 = some (.ireturn, 1) by decide +kernel) (by decide +kernel),
  fun _ _ _ _ _ _ _ _ => r_aload_nr (show zdec 290 101 = some (.aload_n 0, 1) by decide +kernel) rfl rfl,
  fun _ _ _ _ _ _ _ _ _ => r_getfield (show zdec 290 102 = some (.getfield 9, 3) by decide +kernel) (show zft.lookup (290 * zKEY + 9) = some (12, 0) by decide +kernel) rfl,
  fun _ _ _ _ _ _ _ _ => r_iconst (show zdec 290 105 = some (.iconst 0, 1) by decide +kernel) rfl rfl,
  fun _ _ _ _ _ _ _ _ => r_aload_nr (show zdec 290 106 = some (.aload_n 0, 1) by decide +kernel) rfl rfl,
  fun _ _ _ _ _ _ _ _ _ => r_getfield (show zdec 290 107 = some (.getfield 23, 3) by decide +kernel) (show zft.lookup (290 * zKEY + 23) = some (12, 6) by decide +kernel) rfl,
  fun _ _ _ _ _ _ _ _ => r_iconst (show zdec 290 110 = some (.iconst 0, 1) by decide +kernel) rfl rfl,
  fun _ _ _ _ _ _ _ _ => r_sipush (show zdec 290 111 = some (.sipush 8271, 3) by decide +kernel) rfl rfl,
  fun _ _ _ _ _ _ _ _ _ _ _ _ _ => r_cA (show zdec 290 114 = some (.invokestatic 62, 3) by decide +kernel) (show zst.lookup (290 * zKEY + 62) = some (8, 0, 5, 0) by decide +kernel) rfl,
  fun _ _ _ _ _ _ _ _ => r_aload_nr (show zdec 290 117 = some (.aload_n 0, 1) by decide +kernel) rfl rfl,
  fun _ _ _ _ _ _ _ _ => r_iconst (show zdec 290 118 = some (.iconst 0, 1) by decide +kernel) rfl rfl,
  fun _ _ _ _ _ _ _ _ _ _ => r_putfield (show zdec 290 119 = some (.putfield 266, 3) by decide +kernel) (show zft.lookup (290 * zKEY + 266) = some (12, 12) by decide +kernel) (by decide +kernel) rfl,
  fun _ _ _ _ _ _ _ _ => r_aload_nr (show zdec 290 122 = some (.aload_n 0, 1) by decide +kernel) rfl rfl,
  fun _ _ _ _ _ _ _ _ => r_iconst (show zdec 290 123 = some (.iconst 1, 1) by decide +kernel) rfl rfl,
  fun _ _ _ _ _ _ _ _ _ _ => r_putfield (show zdec 290 124 = some (.putfield 49, 3) by decide +kernel) (show zft.lookup (290 * zKEY + 49) = some (12, 7) by decide +kernel) (by decide +kernel) rfl,
  fun _ _ _ _ _ _ _ _ => r_iconst (show zdec 290 127 = some (.iconst 0, 1) by decide +kernel) rfl rfl,
  fun _ _ _ _ _ _ _ _ _ => r_istore_n (show zdec 290 128 = some (.istore_n 3, 1) by decide +kernel) rfl rfl (Nat.le_of_ble_eq_true rfl) rfl rfl,
  fun _ _ _ _ _ _ _ _ => r_iconst (show zdec 290 129 = some (.iconst 1, 1) by decide +kernel) rfl rfl,
  fun _ _ _ _ _ _ _ _ _ => r_istore (show zdec 290 130 = some (.istore 4, 2) by decide +kernel) rfl (Nat.le_of_ble_eq_true rfl) rfl rfl,
  fun _ _ _ _ _ _ _ _ => r_iconst (show zdec 290 132 = some (.iconst 0, 1) by decide +kernel) rfl rfl,
  fun _ _ _ _ _ _ _ _ _ => r_istore (show zdec 290 133 = some (.istore 5, 2) by decide +kernel) rfl (Nat.le_of_ble_eq_true rfl) rfl rfl,
  fun _ _ _ _ _ _ _ _ => r_iload_n (show zdec 290 137 = some (.iload_n 1, 1) by decide +kernel) rfl rfl,
  fun _ _ _ _ _ _ _ _ _ _ => r_icmpge (show zdec 290 138 = some (.if_icmp .ge 44, 3) by decide +kernel) rfl rfl,
  fun _ _ _ _ _ _ _ _ => r_iload (show zdec 290 141 = some (.iload 4, 2) by decide +kernel) rfl rfl,
  fun _ _ _ _ _ _ _ _ _ => r_ifeq (show zdec 290 143 = some (.ifCond .eq 39, 3) by decide +kernel) rfl rfl,
  fun _ _ _ _ _ _ _ _ => r_aload_nr (show zdec 290 146 = some (.aload_n 0, 1) by decide +kernel) rfl rfl,
  fun _ _ _ _ _ _ _ _ _ => r_getfield (show zdec 290 147 = some (.getfield 266, 3) by decide +kernel) (show zft.lookup (290 * zKEY + 266) = some (12, 12) by decide +kernel) rfl,
  fun _ _ _ _ _ _ _ _ _ => r_istore_n (show zdec 290 150 = some (.istore_n 3, 1) by decide +kernel) rfl rfl (Nat.le_of_ble_eq_true rfl) rfl rfl,
  fun _ _ _ _ _ _ _ _ => r_aload_nr (show zdec 290 151 = some (.aload_n 0, 1) by decide +kernel) rfl rfl,
  fun _ _ _ _ _ _ _ _ => r_iconst (show zdec 290 152 = some (.iconst 1, 1) by decide +kernel) rfl rfl,
  fun _ _ _ _ _ _ _ _ _ _ => r_cV [_] rfl (show zdec 290 153 = some (.invokevirtual 341, 3) by decide +kernel) (show zst.lookup (290 * zKEY + 341) = some (1, 291, 1, 12) by decide +kernel) (by decide) rfl,
  fun _ _ _ _ _ _ _ _ _ => r_iflt (show zdec 290 156 = some (.ifCond .lt 7, 3) by decide +kernel) rfl rfl,
  fun _ _ _ _ _ _ _ _ => r_iconst (show zdec 290 159 = some (.iconst 1, 1) by decide +kernel) rfl rfl,
  fun _ _ _ _ _ _ _ _ => r_goto (show zdec 290 160 = some (.goto 4, 3) by decide +kernel) rfl,
  fun _ _ _ _ _ _ _ _ => r_iconst (show zdec 290 163 = some (.iconst 0, 1) by decide +kernel) rfl rfl,
  fun _ _ _ _ _ _ _ _ _ => r_istore (show zdec 290 164 = some (.istore 4, 2) by decide +kernel) rfl (Nat.le_of_ble_eq_true rfl) rfl rfl,
  fun _ _ _ _ _ _ _ _ => r_aload_nr (show zdec 290 166 = some (.aload_n 0, 1) by decide +kernel) rfl rfl,
  fun _ _ _ _ _ _ _ _ _ => r_dup (show zdec 290 167 = some (.dup, 1) by decide +kernel) rfl,
  fun _ _ _ _ _ _ _ _ _ => r_getfield (show zdec 290 168 = some (.getfield 266, 3) by decide +kernel) (show zft.lookup (290 * zKEY + 266) = some (12, 12) by decide +kernel) rfl,
  fun _ _ _ _ _ _ _ _ => r_iconst (show zdec 290 171 = some (.iconst 1, 1) by decide +kernel) rfl rfl,
  fun _ _ _ _ _ _ _ _ _ _ => r_iadd (show zdec 290 172 = some (.iadd, 1) by decide +kernel) rfl,
  fun _ _ _ _ _ _ _ _ _ _ => r_putfield (show zdec 290 173 = some (.putfield 266, 3) by decide +kernel) (show zft.lookup (290 * zKEY + 266) = some (12, 12) by decide +kernel) (by decide +kernel) rfl,
  fun _ _ _ _ _ _ _ _ => r_iinc (show zdec 290 176 = some (.iinc 5 1, 3) by decide +kernel) rfl rfl rfl (Nat.le_of_ble_eq_true rfl) rfl rfl,
  fun _ _ _ _ _ _ _ _ => r_goto (show zdec 290 179 = some (.goto (-44), 3) by decide +kernel) rfl,
  fun _ _ _ _ _ _ _ _ => r_aload_nr (show zdec 290 182 = some (.aload_n 0, 1) by decide +kernel) rfl rfl,
  fun _ _ _ _ _ _ _ _ => r_iconst (show zdec 290 183 = some (.iconst 0, 1) by decide +kernel) rfl rfl,
  fun _ _ _ _ _ _ _ _ _ _ => r_putfield (show zdec 290 184 = some (.putfield 49, 3) by decide +kernel) (show zft.lookup (290 * zKEY + 49) = some (12, 7) by decide +kernel) (by decide +kernel) rfl,
  fun _ _ _ _ _ _ _ _ => r_aload_nr (show zdec 290 187 = some (.aload_n 0, 1) by decide +kernel) rfl rfl,
  fun _ _ _ _ _ _ _ _ => r_iconst (show zdec 290 188 = some (.iconst 0, 1) by decide +kernel) rfl rfl,
  fun _ _ _ _ _ _ _ _ _ _ => r_putfield (show zdec 290 189 = some (.putfield 264, 3) by decide +kernel) (show zft.lookup (290 * zKEY + 264) = some (12, 11) by decide +kernel) (by decide +kernel) rfl,
  fun _ _ _ _ _ _ _ _ => r_iload (show zdec 290 192 = some (.iload 4, 2) by decide +kernel) rfl rfl,
  fun _ _ _ _ _ _ _ _ _ => r_ifne (show zdec 290 194 = some (.ifCond .ne 25, 3) by decide +kernel) rfl rfl,
  fun _ _ _ _ _ _ _ _ => r_aload_nr (show zdec 290 197 = some (.aload_n 0, 1) by decide +kernel) rfl rfl,
  fun _ _ _ _ _ _ _ _ _ => r_getfield (show zdec 290 198 = some (.getfield 23, 3) by decide +kernel) (show zft.lookup (290 * zKEY + 23) = some (12, 6) by decide +kernel) rfl,
  fun _ _ _ _ _ _ _ _ => r_iconst (show zdec 290 201 = some (.iconst 0, 1) by decide +kernel) rfl rfl,
  fun _ _ _ _ _ _ _ _ => r_aload_nr (show zdec 290 202 = some (.aload_n 0, 1) by decide +kernel) rfl rfl,
  fun _ _ _ _ _ _ _ _ _ => r_getfield (show zdec 290 203 = some (.getfield 9, 3) by decide +kernel) (show zft.lookup (290 * zKEY + 9) = some (12, 0) by decide +kernel) rfl,
  fun _ _ _ _ _ _ _ _ => r_iconst (show zdec 290 206 = some (.iconst 0, 1) by decide +kernel) rfl rfl,
  fun _ _ _ _ _ _ _ _ => r_sipush (show zdec 290 207 = some (.sipush 8271, 3) by decide +kernel) rfl rfl,
  fun _ _ _ _ _ _ _ _ _ _ _ _ _ => r_cA (show zdec 290 210 = some (.invokestatic 62, 3) by decide +kernel) (show zst.lookup (290 * zKEY + 62) = some (8, 0, 5, 0) by decide +kernel) rfl,
  fun _ _ _ _ _ _ _ _ => r_sipush (show zdec 290 213 = some (.sipush (-200), 3) by decide +kernel) rfl rfl,
  fun _ _ _ _ _ _ _ _ => r_iload_n (show zdec 290 216 = some (.iload_n 3, 1) by decide +kernel) rfl rfl,
  fun _ _ _ _ _ _ _ _ _ _ => r_isub (show zdec 290 217 = some (.isub, 1) by decide +kernel) rfl,
  fun _ _ _ _ _ _ _ _ => r_ireti (show zdec 290 218 = some (.ireturn, 1) by decide +kernel) (by decide +kernel),
  fun _ _ _ _ _ _ _ _ => r_aload_nr (show zdec 290 219 = some (.aload_n 0, 1) by decide +kernel) rfl rfl,
  fun _ _ _ _ _ _ _ _ => r_aload_nr (show zdec 290 220 = some (.aload_n 0, 1) by decide +kernel) rfl rfl,
  fun _ _ _ _ _ _ _ _ _ => r_getfield (show zdec 290 221 = some (.getfield 23, 3) by decide +kernel) (show zft.lookup (290 * zKEY + 23) = some (12, 6) by decide +kernel) rfl,
  fun _ _ _ _ _ _ _ _ _ _ => r_cV [_] rfl (show zdec 290 224 = some (.invokevirtual 53, 3) by decide +kernel) (show zst.lookup (290 * zKEY + 53) = some (1, 215, 1, 12) by decide +kernel) (by decide) rfl,
  fun _ _ _ _ _ _ _ _ => r_iload_n (show zdec 290 227 = some (.iload_n 1, 1) by decide +kernel) rfl rfl,
  fun _ _ _ _ _ _ _ _ => r_ireti (show zdec 290 228 = some (.ireturn, 1) by decide +kernel) (by decide +kernel)⟩
theorem zl_290_14 : ∀ (l0 l1 l3 l4 l5 : Value) (x : Int32) (S : List Value) (h : zH), rn 290 14 [l0, l1, .int x, l3, l4, l5] S h = rn 290 15 [l0, l1, .int x, l3, l4, l5] (.int x :: S) h := fun _ _ _ _ _ _ _ _ => r_iload_n (show zdec 290 14 = some (.iload_n 2, 1) by decide +kernel) rfl rfl
theorem zl_290_135 : ∀ (l0 l1 l2 l3 l4 : Value) (x : Int32) (S : List Value) (h : zH), rn 290 135 [l0, l1, l2, l3, l4, .int x] S h = rn 290 137 [l0, l1, l2, l3, l4, .int x] (.int x :: S) h := fun _ _ _ _ _ _ _ _ => r_iload (show zdec 290 135 = some (.iload 5, 2) by decide +kernel) rfl rfl
theorem ze_290 : ∀ (a0 : Nat) (h : zH), ev 290 [.ref a0] h = rn 290 0 [.ref a0, .float 0, .float 0, .float 0, .float 0, .float 0] [] h := fun _ _ => if_pos (Nat.le_of_ble_eq_true rfl)
-- PayrollRunModel.command(Z)I
theorem zr_291 : (∀ (l1 l2 l3 l4 l5 : Value) (x : Nat) (S : List Value) (h : zH), rn 291 0 [.ref x, l1, l2, l3, l4, l5] S h = rn 291 1 [.ref x, l1, l2, l3, l4, l5] (.ref x :: S) h) ∧
  (∀ (l0 l1 l2 l3 l4 l5 : Value) (a : Nat) (S : List Value) (h : zH), rn 291 1 [l0, l1, l2, l3, l4, l5] (.ref a :: S) h = zgf h a 12 12 fun v => rn 291 4 [l0, l1, l2, l3, l4, l5] (v :: S) h) ∧
  (∀ (l0 l1 l2 l3 l4 l5 : Value) (x : Int32) (S : List Value) (h : zH), rn 291 4 [l0, l1, l2, l3, l4, l5] (.int x :: S) h = nl l1 (rn 291 5 [l0, l1, .int x, l3, l4, l5] S h)) ∧
  (∀ (l0 l1 l2 l3 l4 l5 : Value) (o : Nat) (S : List Value) (h : zH), rn 291 6 [l0, l1, l2, l3, l4, l5] (.ref o :: S) h = if zkd h o = 12 ∧ zsum S ≤ 8 then zcall (ev 292 [.ref o] h) (fun v h => rn 291 9 [l0, l1, l2, l3, l4, l5] (zpush v S) h) else none) ∧
  (∀ (l0 l1 l2 l3 l4 l5 : Value) (S : List Value) (h : zH), rn 291 9 [l0, l1, l2, l3, l4, l5] S h = rn 291 11 [l0, l1, l2, l3, l4, l5] (.int (nI 97) :: S) h) ∧
  (∀ (l0 l1 l2 l3 l4 l5 : Value) (S : List Value) (h : zH), rn 291 11 [l0, l1, l2, l3, l4, l5] S h = rn 291 13 [l0, l1, l2, l3, l4, l5] (.int (nI 122) :: S) h) ∧
  (∀ (l0 l1 l2 l3 l4 l5 : Value) (v0 : Value) (v1 : Value) (v2 : Value) (S : List Value) (h : zH), rn 291 13 [l0, l1, l2, l3, l4, l5] (v2 :: v1 :: v0 :: S) h = if zsum S ≤ 8 then zcall (ev 211 [v0, v1, v2] h) (fun v h => rn 291 16 [l0, l1, l2, l3, l4, l5] (zpush v S) h) else none) ∧
  (∀ (l0 l1 l2 l3 l4 l5 : Value) (x : Int32) (S : List Value) (h : zH), rn 291 16 [l0, l1, l2, l3, l4, l5] (.int x :: S) h = if x = nI 0 then rn 291 32 [l0, l1, l2, l3, l4, l5] S h else rn 291 19 [l0, l1, l2, l3, l4, l5] S h) ∧
  (∀ (l1 l2 l3 l4 l5 : Value) (x : Nat) (S : List Value) (h : zH), rn 291 19 [.ref x, l1, l2, l3, l4, l5] S h = rn 291 20 [.ref x, l1, l2, l3, l4, l5] (.ref x :: S) h) ∧
  (∀ (l0 l1 l2 l3 l4 l5 : Value) (v : Value) (S : List Value) (h : zH), rn 291 20 [l0, l1, l2, l3, l4, l5] (v :: S) h = c1 v (rn 291 21 [l0, l1, l2, l3, l4, l5] (v :: v :: S) h)) ∧
  (∀ (l0 l1 l2 l3 l4 l5 : Value) (a : Nat) (S : List Value) (h : zH), rn 291 21 [l0, l1, l2, l3, l4, l5] (.ref a :: S) h = zgf h a 12 12 fun v => rn 291 24 [l0, l1, l2, l3, l4, l5] (v :: S) h) ∧
  (∀ (l0 l1 l2 l3 l4 l5 : Value) (S : List Value) (h : zH), rn 291 24 [l0, l1, l2, l3, l4, l5] S h = rn 291 25 [l0, l1, l2, l3, l4, l5] (.int (nI 1) :: S) h) ∧
  (∀ (l0 l1 l2 l3 l4 l5 : Value) (x : Int32) (y : Int32) (S : List Value) (h : zH), rn 291 25 [l0, l1, l2, l3, l4, l5] (.int y :: .int x :: S) h = rn 291 26 [l0, l1, l2, l3, l4, l5] (.int (x + y) :: S) h) ∧
  (∀ (l0 l1 l2 l3 l4 l5 : Value) (a : Nat) (v : Value) (S : List Value) (h : zH), rn 291 26 [l0, l1, l2, l3, l4, l5] (v :: .ref a :: S) h = zpf h a 12 12 v fun h => rn 291 29 [l0, l1, l2, l3, l4, l5] S h) ∧
  (∀ (l0 l1 l2 l3 l4 l5 : Value) (S : List Value) (h : zH), rn 291 29 [l0, l1, l2, l3, l4, l5] S h = rn 291 5 [l0, l1, l2, l3, l4, l5] S h) ∧
  (∀ (l1 l2 l3 l4 l5 : Value) (x : Nat) (S : List Value) (h : zH), rn 291 32 [.ref x, l1, l2, l3, l4, l5] S h = rn 291 33 [.ref x, l1, l2, l3, l4, l5] (.ref x :: S) h) ∧
  (∀ (l0 l1 l3 l4 l5 : Value) (x : Int32) (S : List Value) (h : zH), rn 291 33 [l0, l1, .int x, l3, l4, l5] S h = rn 291 34 [l0, l1, .int x, l3, l4, l5] (.int x :: S) h) ∧
  (∀ (l0 l1 l2 l3 l4 l5 : Value) (o : Nat) (v0 : Value) (S : List Value) (h : zH), rn 291 34 [l0, l1, l2, l3, l4, l5] (v0 :: .ref o :: S) h = if zkd h o = 12 ∧ zsum S ≤ 8 then zcall (ev 293 [.ref o, v0] h) (fun v h => rn 291 37 [l0, l1, l2, l3, l4, l5] (zpush v S) h) else none) ∧
  (∀ (l0 l1 l2 l3 l4 l5 : Value) (x : Int32) (S : List Value) (h : zH), rn 291 37 [l0, l1, l2, l3, l4, l5] (.int x :: S) h = nl l2 (rn 291 38 [l0, l1, l2, .int x, l4, l5] S h)) ∧
  (∀ (l0 l1 l2 l4 l5 : Value) (x : Int32) (S : List Value) (h : zH), rn 291 38 [l0, l1, l2, .int x, l4, l5] S h = rn 291 39 [l0, l1, l2, .int x, l4, l5] (.int x :: S) h) ∧
  (∀ (l0 l1 l2 l3 l4 l5 : Value) (x : Int32) (S : List Value) (h : zH), rn 291 39 [l0, l1, l2, l3, l4, l5] (.int x :: S) h = if nI 0 ≤ x then rn 291 54 [l0, l1, l2, l3, l4, l5] S h else rn 291 42 [l0, l1, l2, l3, l4, l5] S h) ∧
  (∀ (l1 l2 l3 l4 l5 : Value) (x : Nat) (S : List Value) (h : zH), rn 291 42 [.ref x, l1, l2, l3, l4, l5] S h = rn 291 43 [.ref x, l1, l2, l3, l4, l5] (.ref x :: S) h) ∧
  (∀ (l0 l1 l3 l4 l5 : Value) (x : Int32) (S : List Value) (h : zH), rn 291 43 [l0, l1, .int x, l3, l4, l5] S h = rn 291 44 [l0, l1, .int x, l3, l4, l5] (.int x :: S) h) ∧
  (∀ (l0 l1 l2 l3 l4 l5 : Value) (a : Nat) (v : Value) (S : List Value) (h : zH), rn 291 44 [l0, l1, l2, l3, l4, l5] (v :: .ref a :: S) h = zpf h a 12 12 v fun h => rn 291 47 [l0, l1, l2, l3, l4, l5] S h) ∧
  (∀ (l1 l2 l3 l4 l5 : Value) (x : Nat) (S : List Value) (h : zH), rn 291 47 [.ref x, l1, l2, l3, l4, l5] S h = rn 291 48 [.ref x, l1, l2, l3, l4, l5] (.ref x :: S) h) ∧
  (∀ (l0 l1 l2 l3 l4 l5 : Value) (S : List Value) (h : zH), rn 291 48 [l0, l1, l2, l3, l4, l5] S h = rn 291 49 [l0, l1, l2, l3, l4, l5] (.int (nI 1) :: S) h) ∧
  (∀ (l0 l1 l2 l3 l4 l5 : Value) (a : Nat) (v : Value) (S : List Value) (h : zH), rn 291 49 [l0, l1, l2, l3, l4, l5] (v :: .ref a :: S) h = zpf h a 12 13 v fun h => rn 291 52 [l0, l1, l2, l3, l4, l5] S h) ∧
  (∀ (l0 l1 l2 l3 l4 l5 : Value) (S : List Value) (h : zH), rn 291 52 [l0, l1, l2, l3, l4, l5] S h = rn 291 53 [l0, l1, l2, l3, l4, l5] (.int (nI 0) :: S) h) ∧
  (∀ (l0 l1 l2 l3 l4 l5 : Value) (x : Int32) (h : zH), rn 291 53 [l0, l1, l2, l3, l4, l5] [.int x] h = some (some (.int x), h)) ∧
  (∀ (l0 l1 l2 l4 l5 : Value) (x : Int32) (S : List Value) (h : zH), rn 291 54 [l0, l1, l2, .int x, l4, l5] S h = rn 291 55 [l0, l1, l2, .int x, l4, l5] (.int x :: S) h) ∧
  (∀ (l0 l1 l2 l3 l4 l5 : Value) (S : List Value) (h : zH), rn 291 55 [l0, l1, l2, l3, l4, l5] S h = rn 291 57 [l0, l1, l2, l3, l4, l5] (.int (nI 6) :: S) h) ∧
  (∀ (l0 l1 l2 l3 l4 l5 : Value) (x : Int32) (y : Int32) (S : List Value) (h : zH), rn 291 57 [l0, l1, l2, l3, l4, l5] (.int y :: .int x :: S) h = if y ≤ x then rn 291 64 [l0, l1, l2, l3, l4, l5] S h else rn 291 60 [l0, l1, l2, l3, l4, l5] S h) ∧
  (∀ (l0 l1 l2 l3 l4 l5 : Value) (S : List Value) (h : zH), rn 291 60 [l0, l1, l2, l3, l4, l5] S h = rn 291 61 [l0, l1, l2, l3, l4, l5] (.int (nI 3) :: S) h) ∧
  (∀ (l0 l1 l2 l3 l4 l5 : Value) (S : List Value) (h : zH), rn 291 61 [l0, l1, l2, l3, l4, l5] S h = rn 291 75 [l0, l1, l2, l3, l4, l5] S h) ∧
  (∀ (l0 l1 l2 l4 l5 : Value) (x : Int32) (S : List Value) (h : zH), rn 291 64 [l0, l1, l2, .int x, l4, l5] S h = rn 291 65 [l0, l1, l2, .int x, l4, l5] (.int x :: S) h) ∧
  (∀ (l0 l1 l2 l3 l4 l5 : Value) (S : List Value) (h : zH), rn 291 65 [l0, l1, l2, l3, l4, l5] S h = rn 291 67 [l0, l1, l2, l3, l4, l5] (.int (nI 11) :: S) h) ∧
  (∀ (l0 l1 l2 l3 l4 l5 : Value) (x : Int32) (y : Int32) (S : List Value) (h : zH), rn 291 67 [l0, l1, l2, l3, l4, l5] (.int y :: .int x :: S) h = if y ≤ x then rn 291 74 [l0, l1, l2, l3, l4, l5] S h else rn 291 70 [l0, l1, l2, l3, l4, l5] S h) ∧
  (∀ (l0 l1 l2 l3 l4 l5 : Value) (S : List Value) (h : zH), rn 291 70 [l0, l1, l2, l3, l4, l5] S h = rn 291 71 [l0, l1, l2, l3, l4, l5] (.int (nI 2) :: S) h) ∧
  (∀ (l0 l1 l2 l3 l4 l5 : Value) (S : List Value) (h : zH), rn 291 71 [l0, l1, l2, l3, l4, l5] S h = rn 291 75 [l0, l1, l2, l3, l4, l5] S h) ∧
  (∀ (l0 l1 l2 l3 l4 l5 : Value) (S : List Value) (h : zH), rn 291 74 [l0, l1, l2, l3, l4, l5] S h = rn 291 75 [l0, l1, l2, l3, l4, l5] (.int (nI 0) :: S) h) ∧
  (∀ (l0 l1 l2 l3 l4 l5 : Value) (x : Int32) (S : List Value) (h : zH), rn 291 75 [l0, l1, l2, l3, l4, l5] (.int x :: S) h = nl l3 (rn 291 77 [l0, l1, l2, l3, .int x, l5] S h)) ∧
  (∀ (l0 l1 l2 l3 l4 l5 : Value) (S : List Value) (h : zH), rn 291 77 [l0, l1, l2, l3, l4, l5] S h = rn 291 78 [l0, l1, l2, l3, l4, l5] (.int (nI 0) :: S) h) ∧
  (∀ (l0 l1 l2 l3 l4 l5 : Value) (x : Int32) (S : List Value) (h : zH), rn 291 78 [l0, l1, l2, l3, l4, l5] (.int x :: S) h = nl l4 (rn 291 80 [l0, l1, l2, l3, l4, .int x] S h)) ∧
  (∀ (l0 l1 l2 l3 l5 : Value) (x : Int32) (S : List Value) (h : zH), rn 291 82 [l0, l1, l2, l3, .int x, l5] S h = rn 291 84 [l0, l1, l2, l3, .int x, l5] (.int x :: S) h) ∧
  (∀ (l0 l1 l2 l3 l4 l5 : Value) (x : Int32) (y : Int32) (S : List Value) (h : zH), rn 291 84 [l0, l1, l2, l3, l4, l5] (.int y :: .int x :: S) h = if y ≤ x then rn 291 106 [l0, l1, l2, l3, l4, l5] S h else rn 291 87 [l0, l1, l2, l3, l4, l5] S h) ∧
  (∀ (l1 l2 l3 l4 l5 : Value) (x : Nat) (S : List Value) (h : zH), rn 291 87 [.ref x, l1, l2, l3, l4, l5] S h = rn 291 88 [.ref x, l1, l2, l3, l4, l5] (.ref x :: S) h) ∧
  (∀ (l0 l1 l2 l3 l4 l5 : Value) (a : Nat) (S : List Value) (h : zH), rn 291 88 [l0, l1, l2, l3, l4, l5] (.ref a :: S) h = zgf h a 12 13 fun v => rn 291 91 [l0, l1, l2, l3, l4, l5] (v :: S) h) ∧
  (∀ (l0 l1 l2 l3 l4 l5 : Value) (x : Int32) (S : List Value) (h : zH), rn 291 91 [l0, l1, l2, l3, l4, l5] (.int x :: S) h = if x = nI 0 then rn 291 94 [l0, l1, l2, l3, l4, l5] S h else rn 291 106 [l0, l1, l2, l3, l4, l5] S h) ∧
  (∀ (l1 l2 l3 l4 l5 : Value) (x : Nat) (S : List Value) (h : zH), rn 291 94 [.ref x, l1, l2, l3, l4, l5] S h = rn 291 95 [.ref x, l1, l2, l3, l4, l5] (.ref x :: S) h) ∧
  (∀ (l0 l1 l2 l3 l4 : Value) (x : Int32) (S : List Value) (h : zH), rn 291 95 [l0, l1, l2, l3, l4, .int x] S h = rn 291 97 [l0, l1, l2, l3, l4, .int x] (.int x :: S) h) ∧
  (∀ (l0 l1 l2 l3 l4 l5 : Value) (o : Nat) (v0 : Value) (S : List Value) (h : zH), rn 291 97 [l0, l1, l2, l3, l4, l5] (v0 :: .ref o :: S) h = if zkd h o = 12 ∧ zsum S ≤ 8 then zcall (ev 295 [.ref o, v0] h) (fun v h => rn 291 100 [l0, l1, l2, l3, l4, l5] (zpush v S) h) else none) ∧
  (∀ (l0 l1 l2 l3 l4 : Value) (x : Int32) (S : List Value) (h : zH), rn 291 100 [l0, l1, l2, l3, l4, .int x] S h = nl l4 (rn 291 103 [l0, l1, l2, l3, l4, .int (x + (nI 1))] S h)) ∧
  (∀ (l0 l1 l2 l3 l4 l5 : Value) (S : List Value) (h : zH), rn 291 103 [l0, l1, l2, l3, l4, l5] S h = rn 291 80 [l0, l1, l2, l3, l4, l5] S h) ∧
  (∀ (l1 l2 l3 l4 l5 : Value) (x : Nat) (S : List Value) (h : zH), rn 291 106 [.ref x, l1, l2, l3, l4, l5] S h = rn 291 107 [.ref x, l1, l2, l3, l4, l5] (.ref x :: S) h) ∧
  (∀ (l0 l1 l2 l3 l4 l5 : Value) (a : Nat) (S : List Value) (h : zH), rn 291 107 [l0, l1, l2, l3, l4, l5] (.ref a :: S) h = zgf h a 12 13 fun v => rn 291 110 [l0, l1, l2, l3, l4, l5] (v :: S) h) ∧
  (∀ (l0 l1 l2 l3 l4 l5 : Value) (x : Int32) (S : List Value) (h : zH), rn 291 110 [l0, l1, l2, l3, l4, l5] (.int x :: S) h = if x = nI 0 then rn 291 113 [l0, l1, l2, l3, l4, l5] S h else rn 291 117 [l0, l1, l2, l3, l4, l5] S h) ∧
  (∀ (l0 l2 l3 l4 l5 : Value) (x : Int32) (S : List Value) (h : zH), rn 291 113 [l0, .int x, l2, l3, l4, l5] S h = rn 291 114 [l0, .int x, l2, l3, l4, l5] (.int x :: S) h) ∧
  (∀ (l0 l1 l2 l3 l4 l5 : Value) (x : Int32) (S : List Value) (h : zH), rn 291 114 [l0, l1, l2, l3, l4, l5] (.int x :: S) h = if x = nI 0 then rn 291 117 [l0, l1, l2, l3, l4, l5] S h else rn 291 121 [l0, l1, l2, l3, l4, l5] S h) ∧
  (∀ (l0 l1 l2 l3 l4 l5 : Value) (S : List Value) (h : zH), rn 291 117 [l0, l1, l2, l3, l4, l5] S h = rn 291 118 [l0, l1, l2, l3, l4, l5] (.int (nI 0) :: S) h) ∧
  (∀ (l0 l1 l2 l3 l4 l5 : Value) (S : List Value) (h : zH), rn 291 118 [l0, l1, l2, l3, l4, l5] S h = rn 291 126 [l0, l1, l2, l3, l4, l5] S h) ∧
  (∀ (l1 l2 l3 l4 l5 : Value) (x : Nat) (S : List Value) (h : zH), rn 291 121 [.ref x, l1, l2, l3, l4, l5] S h = rn 291 122 [.ref x, l1, l2, l3, l4, l5] (.ref x :: S) h) ∧
  (∀ (l0 l1 l2 l4 l5 : Value) (x : Int32) (S : List Value) (h : zH), rn 291 122 [l0, l1, l2, .int x, l4, l5] S h = rn 291 123 [l0, l1, l2, .int x, l4, l5] (.int x :: S) h) ∧
  (∀ (l0 l1 l2 l3 l4 l5 : Value) (o : Nat) (v0 : Value) (S : List Value) (h : zH), rn 291 123 [l0, l1, l2, l3, l4, l5] (v0 :: .ref o :: S) h = if zkd h o = 12 ∧ zsum S ≤ 8 then zcall (ev 296 [.ref o, v0] h) (fun v h => rn 291 126 [l0, l1, l2, l3, l4, l5] (zpush v S) h) else none) ∧
  (∀ (l0 l1 l2 l3 l4 l5 : Value) (x : Int32) (h : zH), rn 291 126 [l0, l1, l2, l3, l4, l5] [.int x] h = some (some (.int x), h)) := ⟨fun _ _ _ _ _ _ _ _ => r_aload_nr (show zdec 291 0 = some (.aload_n 0, 1) by decide +kernel) rfl rfl,
  fun _ _ _ _ _ _ _ _ _ => r_getfield (show zdec 291 1 = some (.getfield 266, 3) by decide +kernel) (show zft.lookup (291 * zKEY + 266) = some (12, 12) by decide +kernel) rfl,
  fun _ _ _ _ _ _ _ _ _ => r_istore_n (show zdec 291 4 = some (.istore_n 2, 1) by decide +kernel) rfl rfl (Nat.le_of_ble_eq_true rfl) rfl rfl,
  fun _ _ _ _ _ _ _ _ _ => r_cV [] rfl (show zdec 291 6 = some (.invokevirtual 296, 3) by decide +kernel) (show zst.lookup (291 * zKEY + 296) = some (1, 292, 0, 12) by decide +kernel) (by decide) rfl,
  fun _ _ _ _ _ _ _ _ => r_bipush (show zdec 291 9 = some (.bipush 97, 2) by decide +kernel) rfl rfl,
  fun _ _ _ _ _ _ _ _ => r_bipush (show zdec 291 11 = some (.bipush 122, 2) by decide +kernel) rfl rfl,
  fun _ _ _ _ _ _ _ _ _ _ _ => r_cS [_, _, _] rfl (show zdec 291 13 = some (.invokestatic 45, 3) by decide +kernel) (show zst.lookup (291 * zKEY + 45) = some (0, 211, 3, 0) by decide +kernel) (by decide) rfl,
  fun _ _ _ _ _ _ _ _ _ => r_ifeq (show zdec 291 16 = some (.ifCond .eq 16, 3) by decide +kernel) rfl rfl,
  fun _ _ _ _ _ _ _ _ => r_aload_nr (show zdec 291 19 = some (.aload_n 0, 1) by decide +kernel) rfl rfl,
  fun _ _ _ _ _ _ _ _ _ => r_dup (show zdec 291 20 = some (.dup, 1) by decide +kernel) rfl,
  fun _ _ _ _ _ _ _ _ _ => r_getfield (show zdec 291 21 = some (.getfield 266, 3) by decide +kernel) (show zft.lookup (291 * zKEY + 266) = some (12, 12) by decide +kernel) rfl,
  fun _ _ _ _ _ _ _ _ => r_iconst (show zdec 291 24 = some (.iconst 1, 1) by decide +kernel) rfl rfl,
  fun _ _ _ _ _ _ _ _ _ _ => r_iadd (show zdec 291 25 = some (.iadd, 1) by decide +kernel) rfl,
  fun _ _ _ _ _ _ _ _ _ _ => r_putfield (show zdec 291 26 = some (.putfield 266, 3) by decide +kernel) (show zft.lookup (291 * zKEY + 266) = some (12, 12) by decide +kernel) (by decide +kernel) rfl,
  fun _ _ _ _ _ _ _ _ => r_goto (show zdec 291 29 = some (.goto (-24), 3) by decide +kernel) rfl,
  fun _ _ _ _ _ _ _ _ => r_aload_nr (show zdec 291 32 = some (.aload_n 0, 1) by decide +kernel) rfl rfl,
  fun _ _ _ _ _ _ _ _ => r_iload_n (show zdec 291 33 = some (.iload_n 2, 1) by decide +kernel) rfl rfl,
  fun _ _ _ _ _ _ _ _ _ _ => r_cV [_] rfl (show zdec 291 34 = some (.invokevirtual 332, 3) by decide +kernel) (show zst.lookup (291 * zKEY + 332) = some (1, 293, 1, 12) by decide +kernel) (by decide) rfl,
  fun _ _ _ _ _ _ _ _ _ => r_istore_n (show zdec 291 37 = some (.istore_n 3, 1) by decide +kernel) rfl rfl (Nat.le_of_ble_eq_true rfl) rfl rfl,
  fun _ _ _ _ _ _ _ _ => r_iload_n (show zdec 291 38 = some (.iload_n 3, 1) by decide +kernel) rfl rfl,
  fun _ _ _ _ _ _ _ _ _ => r_ifge (show zdec 291 39 = some (.ifCond .ge 15, 3) by decide +kernel) rfl rfl,
  fun _ _ _ _ _ _ _ _ => r_aload_nr (show zdec 291 42 = some (.aload_n 0, 1) by decide +kernel) rfl rfl,
  fun _ _ _ _ _ _ _ _ => r_iload_n (show zdec 291 43 = some (.iload_n 2, 1) by decide +kernel) rfl rfl,
  fun _ _ _ _ _ _ _ _ _ _ => r_putfield (show zdec 291 44 = some (.putfield 266, 3) by decide +kernel) (show zft.lookup (291 * zKEY + 266) = some (12, 12) by decide +kernel) (by decide +kernel) rfl,
  fun _ _ _ _ _ _ _ _ => r_aload_nr (show zdec 291 47 = some (.aload_n 0, 1) by decide +kernel) rfl rfl,
  fun _ _ _ _ _ _ _ _ => r_iconst (show zdec 291 48 = some (.iconst 1, 1) by decide +kernel) rfl rfl,
  fun _ _ _ _ _ _ _ _ _ _ => r_putfield (show zdec 291 49 = some (.putfield 299, 3) by decide +kernel) (show zft.lookup (291 * zKEY + 299) = some (12, 13) by decide +kernel) (by decide +kernel) rfl,
  fun _ _ _ _ _ _ _ _ => r_iconst (show zdec 291 52 = some (.iconst 0, 1) by decide +kernel) rfl rfl,
  fun _ _ _ _ _ _ _ _ => r_ireti (show zdec 291 53 = some (.ireturn, 1) by decide +kernel) (by decide +kernel),
  fun _ _ _ _ _ _ _ _ => r_iload_n (show zdec 291 54 = some (.iload_n 3, 1) by decide +kernel) rfl rfl,
  fun _ _ _ _ _ _ _ _ => r_bipush (show zdec 291 55 = some (.bipush 6, 2) by decide +kernel) rfl rfl,
  fun _ _ _ _ _ _ _ _ _ _ => r_icmpge (show zdec 291 57 = some (.if_icmp .ge 7, 3) by decide +kernel) rfl rfl,
  fun _ _ _ _ _ _ _ _ => r_iconst (show zdec 291 60 = some (.iconst 3, 1) by decide +kernel) rfl rfl,
  fun _ _ _ _ _ _ _ _ => r_goto (show zdec 291 61 = some (.goto 14, 3) by decide +kernel) rfl,
  fun _ _ _ _ _ _ _ _ => r_iload_n (show zdec 291 64 = some (.iload_n 3, 1) by decide +kernel) rfl rfl,
  fun _ _ _ _ _ _ _ _ => r_bipush (show zdec 291 65 = some (.bipush 11, 2) by decide +kernel) rfl rfl,
  fun _ _ _ _ _ _ _ _ _ _ => r_icmpge (show zdec 291 67 = some (.if_icmp .ge 7, 3) by decide +kernel) rfl rfl,
  fun _ _ _ _ _ _ _ _ => r_iconst (show zdec 291 70 = some (.iconst 2, 1) by decide +kernel) rfl rfl,
  fun _ _ _ _ _ _ _ _ => r_goto (show zdec 291 71 = some (.goto 4, 3) by decide +kernel) rfl,
  fun _ _ _ _ _ _ _ _ => r_iconst (show zdec 291 74 = some (.iconst 0, 1) by decide +kernel) rfl rfl,
  fun _ _ _ _ _ _ _ _ _ => r_istore (show zdec 291 75 = some (.istore 4, 2) by decide +kernel) rfl (Nat.le_of_ble_eq_true rfl) rfl rfl,
  fun _ _ _ _ _ _ _ _ => r_iconst (show zdec 291 77 = some (.iconst 0, 1) by decide +kernel) rfl rfl,
  fun _ _ _ _ _ _ _ _ _ => r_istore (show zdec 291 78 = some (.istore 5, 2) by decide +kernel) rfl (Nat.le_of_ble_eq_true rfl) rfl rfl,
  fun _ _ _ _ _ _ _ _ => r_iload (show zdec 291 82 = some (.iload 4, 2) by decide +kernel) rfl rfl,
  fun _ _ _ _ _ _ _ _ _ _ => r_icmpge (show zdec 291 84 = some (.if_icmp .ge 22, 3) by decide +kernel) rfl rfl,
  fun _ _ _ _ _ _ _ _ => r_aload_nr (show zdec 291 87 = some (.aload_n 0, 1) by decide +kernel) rfl rfl,
  fun _ _ _ _ _ _ _ _ _ => r_getfield (show zdec 291 88 = some (.getfield 299, 3) by decide +kernel) (show zft.lookup (291 * zKEY + 299) = some (12, 13) by decide +kernel) rfl,
  fun _ _ _ _ _ _ _ _ _ => r_ifne (show zdec 291 91 = some (.ifCond .ne 15, 3) by decide +kernel) rfl rfl,
  fun _ _ _ _ _ _ _ _ => r_aload_nr (show zdec 291 94 = some (.aload_n 0, 1) by decide +kernel) rfl rfl,
  fun _ _ _ _ _ _ _ _ => r_iload (show zdec 291 95 = some (.iload 5, 2) by decide +kernel) rfl rfl,
  fun _ _ _ _ _ _ _ _ _ _ => r_cV [_] rfl (show zdec 291 97 = some (.invokevirtual 335, 3) by decide +kernel) (show zst.lookup (291 * zKEY + 335) = some (1, 295, 1, 12) by decide +kernel) (by decide) rfl,
  fun _ _ _ _ _ _ _ _ => r_iinc (show zdec 291 100 = some (.iinc 5 1, 3) by decide +kernel) rfl rfl rfl (Nat.le_of_ble_eq_true rfl) rfl rfl,
  fun _ _ _ _ _ _ _ _ => r_goto (show zdec 291 103 = some (.goto (-23), 3) by decide +kernel) rfl,
  fun _ _ _ _ _ _ _ _ => r_aload_nr (show zdec 291 106 = some (.aload_n 0, 1) by decide +kernel) rfl rfl,
  fun _ _ _ _ _ _ _ _ _ => r_getfield (show zdec 291 107 = some (.getfield 299, 3) by decide +kernel) (show zft.lookup (291 * zKEY + 299) = some (12, 13) by decide +kernel) rfl,
  fun _ _ _ _ _ _ _ _ _ => r_ifne (show zdec 291 110 = some (.ifCond .ne 7, 3) by decide +kernel) rfl rfl,
  fun _ _ _ _ _ _ _ _ => r_iload_n (show zdec 291 113 = some (.iload_n 1, 1) by decide +kernel) rfl rfl,
  fun _ _ _ _ _ _ _ _ _ => r_ifne (show zdec 291 114 = some (.ifCond .ne 7, 3) by decide +kernel) rfl rfl,
  fun _ _ _ _ _ _ _ _ => r_iconst (show zdec 291 117 = some (.iconst 0, 1) by decide +kernel) rfl rfl,
  fun _ _ _ _ _ _ _ _ => r_goto (show zdec 291 118 = some (.goto 8, 3) by decide +kernel) rfl,
  fun _ _ _ _ _ _ _ _ => r_aload_nr (show zdec 291 121 = some (.aload_n 0, 1) by decide +kernel) rfl rfl,
  fun _ _ _ _ _ _ _ _ => r_iload_n (show zdec 291 122 = some (.iload_n 3, 1) by decide +kernel) rfl rfl,
  fun _ _ _ _ _ _ _ _ _ _ => r_cV [_] rfl (show zdec 291 123 = some (.invokevirtual 338, 3) by decide +kernel) (show zst.lookup (291 * zKEY + 338) = some (1, 296, 1, 12) by decide +kernel) (by decide) rfl,
  fun _ _ _ _ _ _ _ _ => r_ireti (show zdec 291 126 = some (.ireturn, 1) by decide +kernel) (by decide +kernel)⟩
theorem zl_291_5 : ∀ (l1 l2 l3 l4 l5 : Value) (x : Nat) (S : List Value) (h : zH), rn 291 5 [.ref x, l1, l2, l3, l4, l5] S h = rn 291 6 [.ref x, l1, l2, l3, l4, l5] (.ref x :: S) h := fun _ _ _ _ _ _ _ _ => r_aload_nr (show zdec 291 5 = some (.aload_n 0, 1) by decide +kernel) rfl rfl
theorem zl_291_80 : ∀ (l0 l1 l2 l3 l4 : Value) (x : Int32) (S : List Value) (h : zH), rn 291 80 [l0, l1, l2, l3, l4, .int x] S h = rn 291 82 [l0, l1, l2, l3, l4, .int x] (.int x :: S) h := fun _ _ _ _ _ _ _ _ => r_iload (show zdec 291 80 = some (.iload 5, 2) by decide +kernel) rfl rfl
theorem ze_291 : ∀ (a0 : Nat) (a1 : Int32) (h : zH), ev 291 [.ref a0, .int a1] h = rn 291 0 [.ref a0, .int a1, .float 0, .float 0, .float 0, .float 0] [] h := fun _ _ _ => if_pos (Nat.le_of_ble_eq_true rfl)
-- PayrollRunModel.here()I
theorem zr_292 : (∀ (x : Nat) (S : List Value) (h : zH), rn 292 0 [.ref x] S h = rn 292 1 [.ref x] (.ref x :: S) h) ∧
  (∀ (l0 : Value) (a : Nat) (S : List Value) (h : zH), rn 292 1 [l0] (.ref a :: S) h = zgf h a 12 12 fun v => rn 292 4 [l0] (v :: S) h) ∧
  (∀ (x : Nat) (S : List Value) (h : zH), rn 292 4 [.ref x] S h = rn 292 5 [.ref x] (.ref x :: S) h) ∧
  (∀ (l0 : Value) (a : Nat) (S : List Value) (h : zH), rn 292 5 [l0] (.ref a :: S) h = zgf h a 12 11 fun v => rn 292 8 [l0] (v :: S) h) ∧
  (∀ (l0 : Value) (x : Int32) (y : Int32) (S : List Value) (h : zH), rn 292 8 [l0] (.int y :: .int x :: S) h = if y ≤ x then rn 292 23 [l0] S h else rn 292 11 [l0] S h) ∧
  (∀ (x : Nat) (S : List Value) (h : zH), rn 292 11 [.ref x] S h = rn 292 12 [.ref x] (.ref x :: S) h) ∧
  (∀ (l0 : Value) (a : Nat) (S : List Value) (h : zH), rn 292 12 [l0] (.ref a :: S) h = zgf h a 12 10 fun v => rn 292 15 [l0] (v :: S) h) ∧
  (∀ (x : Nat) (S : List Value) (h : zH), rn 292 15 [.ref x] S h = rn 292 16 [.ref x] (.ref x :: S) h) ∧
  (∀ (l0 : Value) (a : Nat) (S : List Value) (h : zH), rn 292 16 [l0] (.ref a :: S) h = zgf h a 12 12 fun v => rn 292 19 [l0] (v :: S) h) ∧
  (∀ (l0 : Value) (a : Nat) (j : Int32) (S : List Value) (h : zH), rn 292 19 [l0] (.int j :: .ref a :: S) h = zli h a 2 j fun x => rn 292 20 [l0] (.int x :: S) h) ∧
  (∀ (l0 : Value) (S : List Value) (h : zH), rn 292 20 [l0] S h = rn 292 24 [l0] S h) ∧
  (∀ (l0 : Value) (S : List Value) (h : zH), rn 292 23 [l0] S h = rn 292 24 [l0] (.int (nI 0) :: S) h) ∧
  (∀ (l0 : Value) (x : Int32) (h : zH), rn 292 24 [l0] [.int x] h = some (some (.int x), h)) := ⟨fun _ _ _ => r_aload_nr (show zdec 292 0 = some (.aload_n 0, 1) by decide +kernel) rfl rfl,
  fun _ _ _ _ => r_getfield (show zdec 292 1 = some (.getfield 266, 3) by decide +kernel) (show zft.lookup (292 * zKEY + 266) = some (12, 12) by decide +kernel) rfl,
  fun _ _ _ => r_aload_nr (show zdec 292 4 = some (.aload_n 0, 1) by decide +kernel) rfl rfl,
  fun _ _ _ _ => r_getfield (show zdec 292 5 = some (.getfield 264, 3) by decide +kernel) (show zft.lookup (292 * zKEY + 264) = some (12, 11) by decide +kernel) rfl,
  fun _ _ _ _ _ => r_icmpge (show zdec 292 8 = some (.if_icmp .ge 15, 3) by decide +kernel) rfl rfl,
  fun _ _ _ => r_aload_nr (show zdec 292 11 = some (.aload_n 0, 1) by decide +kernel) rfl rfl,
  fun _ _ _ _ => r_getfield (show zdec 292 12 = some (.getfield 30, 3) by decide +kernel) (show zft.lookup (292 * zKEY + 30) = some (12, 10) by decide +kernel) rfl,
  fun _ _ _ => r_aload_nr (show zdec 292 15 = some (.aload_n 0, 1) by decide +kernel) rfl rfl,
  fun _ _ _ _ => r_getfield (show zdec 292 16 = some (.getfield 266, 3) by decide +kernel) (show zft.lookup (292 * zKEY + 266) = some (12, 12) by decide +kernel) rfl,
  fun _ _ _ _ _ => r_cald (show zdec 292 19 = some (.caload, 1) by decide +kernel) rfl,
  fun _ _ _ => r_goto (show zdec 292 20 = some (.goto 4, 3) by decide +kernel) rfl,
  fun _ _ _ => r_iconst (show zdec 292 23 = some (.iconst 0, 1) by decide +kernel) rfl rfl,
  fun _ _ _ => r_ireti (show zdec 292 24 = some (.ireturn, 1) by decide +kernel) (by decide +kernel)⟩
theorem ze_292 : ∀ (a0 : Nat) (h : zH), ev 292 [.ref a0] h = rn 292 0 [.ref a0] [] h := fun _ _ => if_pos (Nat.le_of_ble_eq_true rfl)
-- PayrollRunModel.wordOf(I)I
theorem zr_293 : (∀ (l0 l1 l2 l3 l4 : Value) (S : List Value) (h : zH), rn 293 0 [l0, l1, l2, l3, l4] S h = rn 293 2 [l0, l1, l2, l3, l4] (.int (nI 12) :: S) h) ∧
  (∀ (l0 l1 l2 l3 l4 : Value) (x : Int32) (S : List Value) (h : zH), rn 293 2 [l0, l1, l2, l3, l4] (.int x :: S) h = mkA x (rn 293 5 [l0, l1, l2, l3, l4] (.ref (100 + h.1) :: S) (znew h (.inl (7, x.toNatClampNeg, .inr (.inr (.inr (.inr fun _ => none))))) x.toNatClampNeg))) ∧
  (∀ (l0 l1 l2 l3 l4 : Value) (v : Value) (S : List Value) (h : zH), rn 293 5 [l0, l1, l2, l3, l4] (v :: S) h = c1 v (rn 293 6 [l0, l1, l2, l3, l4] (v :: v :: S) h)) ∧
  (∀ (l0 l1 l2 l3 l4 : Value) (S : List Value) (h : zH), rn 293 6 [l0, l1, l2, l3, l4] S h = rn 293 7 [l0, l1, l2, l3, l4] (.int (nI 0) :: S) h) ∧
  (∀ (l0 l1 l2 l3 l4 : Value) (a : Nat) (j : Int32) (v : Value) (S : List Value) (h : zH), rn 293 10 [l0, l1, l2, l3, l4] (v :: .int j :: .ref a :: S) h = zsq h a j v fun h => rn 293 11 [l0, l1, l2, l3, l4] S h) ∧
  (∀ (l0 l1 l2 l3 l4 : Value) (v : Value) (S : List Value) (h : zH), rn 293 11 [l0, l1, l2, l3, l4] (v :: S) h = c1 v (rn 293 12 [l0, l1, l2, l3, l4] (v :: v :: S) h)) ∧
  (∀ (l0 l1 l2 l3 l4 : Value) (S : List Value) (h : zH), rn 293 12 [l0, l1, l2, l3, l4] S h = rn 293 13 [l0, l1, l2, l3, l4] (.int (nI 1) :: S) h) ∧
  (∀ (l0 l1 l2 l3 l4 : Value) (a : Nat) (j : Int32) (v : Value) (S : List Value) (h : zH), rn 293 16 [l0, l1, l2, l3, l4] (v :: .int j :: .ref a :: S) h = zsq h a j v fun h => rn 293 17 [l0, l1, l2, l3, l4] S h) ∧
  (∀ (l0 l1 l2 l3 l4 : Value) (v : Value) (S : List Value) (h : zH), rn 293 17 [l0, l1, l2, l3, l4] (v :: S) h = c1 v (rn 293 18 [l0, l1, l2, l3, l4] (v :: v :: S) h)) ∧
  (∀ (l0 l1 l2 l3 l4 : Value) (S : List Value) (h : zH), rn 293 18 [l0, l1, l2, l3, l4] S h = rn 293 19 [l0, l1, l2, l3, l4] (.int (nI 2) :: S) h) ∧
  (∀ (l0 l1 l2 l3 l4 : Value) (a : Nat) (j : Int32) (v : Value) (S : List Value) (h : zH), rn 293 22 [l0, l1, l2, l3, l4] (v :: .int j :: .ref a :: S) h = zsq h a j v fun h => rn 293 23 [l0, l1, l2, l3, l4] S h) ∧
  (∀ (l0 l1 l2 l3 l4 : Value) (v : Value) (S : List Value) (h : zH), rn 293 23 [l0, l1, l2, l3, l4] (v :: S) h = c1 v (rn 293 24 [l0, l1, l2, l3, l4] (v :: v :: S) h)) ∧
  (∀ (l0 l1 l2 l3 l4 : Value) (S : List Value) (h : zH), rn 293 24 [l0, l1, l2, l3, l4] S h = rn 293 25 [l0, l1, l2, l3, l4] (.int (nI 3) :: S) h) ∧
  (∀ (l0 l1 l2 l3 l4 : Value) (a : Nat) (j : Int32) (v : Value) (S : List Value) (h : zH), rn 293 28 [l0, l1, l2, l3, l4] (v :: .int j :: .ref a :: S) h = zsq h a j v fun h => rn 293 29 [l0, l1, l2, l3, l4] S h) ∧
  (∀ (l0 l1 l2 l3 l4 : Value) (v : Value) (S : List Value) (h : zH), rn 293 29 [l0, l1, l2, l3, l4] (v :: S) h = c1 v (rn 293 30 [l0, l1, l2, l3, l4] (v :: v :: S) h)) ∧
  (∀ (l0 l1 l2 l3 l4 : Value) (S : List Value) (h : zH), rn 293 30 [l0, l1, l2, l3, l4] S h = rn 293 31 [l0, l1, l2, l3, l4] (.int (nI 4) :: S) h) ∧
  (∀ (l0 l1 l2 l3 l4 : Value) (a : Nat) (j : Int32) (v : Value) (S : List Value) (h : zH), rn 293 34 [l0, l1, l2, l3, l4] (v :: .int j :: .ref a :: S) h = zsq h a j v fun h => rn 293 35 [l0, l1, l2, l3, l4] S h) ∧
  (∀ (l0 l1 l2 l3 l4 : Value) (v : Value) (S : List Value) (h : zH), rn 293 35 [l0, l1, l2, l3, l4] (v :: S) h = c1 v (rn 293 36 [l0, l1, l2, l3, l4] (v :: v :: S) h)) ∧
  (∀ (l0 l1 l2 l3 l4 : Value) (S : List Value) (h : zH), rn 293 36 [l0, l1, l2, l3, l4] S h = rn 293 37 [l0, l1, l2, l3, l4] (.int (nI 5) :: S) h) ∧
  (∀ (l0 l1 l2 l3 l4 : Value) (a : Nat) (j : Int32) (v : Value) (S : List Value) (h : zH), rn 293 40 [l0, l1, l2, l3, l4] (v :: .int j :: .ref a :: S) h = zsq h a j v fun h => rn 293 41 [l0, l1, l2, l3, l4] S h) ∧
  (∀ (l0 l1 l2 l3 l4 : Value) (v : Value) (S : List Value) (h : zH), rn 293 41 [l0, l1, l2, l3, l4] (v :: S) h = c1 v (rn 293 42 [l0, l1, l2, l3, l4] (v :: v :: S) h)) ∧
  (∀ (l0 l1 l2 l3 l4 : Value) (S : List Value) (h : zH), rn 293 42 [l0, l1, l2, l3, l4] S h = rn 293 44 [l0, l1, l2, l3, l4] (.int (nI 6) :: S) h) ∧
  (∀ (l0 l1 l2 l3 l4 : Value) (a : Nat) (j : Int32) (v : Value) (S : List Value) (h : zH), rn 293 47 [l0, l1, l2, l3, l4] (v :: .int j :: .ref a :: S) h = zsq h a j v fun h => rn 293 48 [l0, l1, l2, l3, l4] S h) ∧
  (∀ (l0 l1 l2 l3 l4 : Value) (v : Value) (S : List Value) (h : zH), rn 293 48 [l0, l1, l2, l3, l4] (v :: S) h = c1 v (rn 293 49 [l0, l1, l2, l3, l4] (v :: v :: S) h)) ∧
  (∀ (l0 l1 l2 l3 l4 : Value) (S : List Value) (h : zH), rn 293 49 [l0, l1, l2, l3, l4] S h = rn 293 51 [l0, l1, l2, l3, l4] (.int (nI 7) :: S) h) ∧
  (∀ (l0 l1 l2 l3 l4 : Value) (a : Nat) (j : Int32) (v : Value) (S : List Value) (h : zH), rn 293 54 [l0, l1, l2, l3, l4] (v :: .int j :: .ref a :: S) h = zsq h a j v fun h => rn 293 55 [l0, l1, l2, l3, l4] S h) ∧
  (∀ (l0 l1 l2 l3 l4 : Value) (v : Value) (S : List Value) (h : zH), rn 293 55 [l0, l1, l2, l3, l4] (v :: S) h = c1 v (rn 293 56 [l0, l1, l2, l3, l4] (v :: v :: S) h)) ∧
  (∀ (l0 l1 l2 l3 l4 : Value) (S : List Value) (h : zH), rn 293 56 [l0, l1, l2, l3, l4] S h = rn 293 58 [l0, l1, l2, l3, l4] (.int (nI 8) :: S) h) ∧
  (∀ (l0 l1 l2 l3 l4 : Value) (a : Nat) (j : Int32) (v : Value) (S : List Value) (h : zH), rn 293 61 [l0, l1, l2, l3, l4] (v :: .int j :: .ref a :: S) h = zsq h a j v fun h => rn 293 62 [l0, l1, l2, l3, l4] S h) ∧
  (∀ (l0 l1 l2 l3 l4 : Value) (v : Value) (S : List Value) (h : zH), rn 293 62 [l0, l1, l2, l3, l4] (v :: S) h = c1 v (rn 293 63 [l0, l1, l2, l3, l4] (v :: v :: S) h)) ∧
  (∀ (l0 l1 l2 l3 l4 : Value) (S : List Value) (h : zH), rn 293 63 [l0, l1, l2, l3, l4] S h = rn 293 65 [l0, l1, l2, l3, l4] (.int (nI 9) :: S) h) ∧
  (∀ (l0 l1 l2 l3 l4 : Value) (a : Nat) (j : Int32) (v : Value) (S : List Value) (h : zH), rn 293 68 [l0, l1, l2, l3, l4] (v :: .int j :: .ref a :: S) h = zsq h a j v fun h => rn 293 69 [l0, l1, l2, l3, l4] S h) ∧
  (∀ (l0 l1 l2 l3 l4 : Value) (v : Value) (S : List Value) (h : zH), rn 293 69 [l0, l1, l2, l3, l4] (v :: S) h = c1 v (rn 293 70 [l0, l1, l2, l3, l4] (v :: v :: S) h)) ∧
  (∀ (l0 l1 l2 l3 l4 : Value) (S : List Value) (h : zH), rn 293 70 [l0, l1, l2, l3, l4] S h = rn 293 72 [l0, l1, l2, l3, l4] (.int (nI 10) :: S) h) ∧
  (∀ (l0 l1 l2 l3 l4 : Value) (a : Nat) (j : Int32) (v : Value) (S : List Value) (h : zH), rn 293 75 [l0, l1, l2, l3, l4] (v :: .int j :: .ref a :: S) h = zsq h a j v fun h => rn 293 76 [l0, l1, l2, l3, l4] S h) ∧
  (∀ (l0 l1 l2 l3 l4 : Value) (v : Value) (S : List Value) (h : zH), rn 293 76 [l0, l1, l2, l3, l4] (v :: S) h = c1 v (rn 293 77 [l0, l1, l2, l3, l4] (v :: v :: S) h)) ∧
  (∀ (l0 l1 l2 l3 l4 : Value) (S : List Value) (h : zH), rn 293 77 [l0, l1, l2, l3, l4] S h = rn 293 79 [l0, l1, l2, l3, l4] (.int (nI 11) :: S) h) ∧
  (∀ (l0 l1 l2 l3 l4 : Value) (a : Nat) (j : Int32) (v : Value) (S : List Value) (h : zH), rn 293 82 [l0, l1, l2, l3, l4] (v :: .int j :: .ref a :: S) h = zsq h a j v fun h => rn 293 83 [l0, l1, l2, l3, l4] S h) ∧
  (∀ (l0 l1 l2 l3 l4 : Value) (v : Value) (S : List Value) (h : zH), rn 293 83 [l0, l1, l2, l3, l4] (v :: S) h = ldA v (nl l1 (rn 293 84 [l0, l1, v, l3, l4] S h))) ∧
  (∀ (l0 l1 l2 l3 l4 : Value) (S : List Value) (h : zH), rn 293 84 [l0, l1, l2, l3, l4] S h = rn 293 85 [l0, l1, l2, l3, l4] (.int (-1) :: S) h) ∧
  (∀ (l0 l1 l2 l3 l4 : Value) (x : Int32) (S : List Value) (h : zH), rn 293 85 [l0, l1, l2, l3, l4] (.int x :: S) h = nl l2 (rn 293 86 [l0, l1, l2, .int x, l4] S h)) ∧
  (∀ (l0 l1 l2 l3 l4 : Value) (S : List Value) (h : zH), rn 293 86 [l0, l1, l2, l3, l4] S h = rn 293 87 [l0, l1, l2, l3, l4] (.int (nI 0) :: S) h) ∧
  (∀ (l0 l1 l2 l3 l4 : Value) (x : Int32) (S : List Value) (h : zH), rn 293 87 [l0, l1, l2, l3, l4] (.int x :: S) h = nl l3 (rn 293 89 [l0, l1, l2, l3, .int x] S h)) ∧
  (∀ (l0 l1 l2 l3 l4 : Value) (S : List Value) (h : zH), rn 293 91 [l0, l1, l2, l3, l4] S h = ldA l2 (rn 293 92 [l0, l1, l2, l3, l4] (l2 :: S) h)) ∧
  (∀ (l0 l1 l2 l3 l4 : Value) (a : Nat) (S : List Value) (h : zH), rn 293 92 [l0, l1, l2, l3, l4] (.ref a :: S) h = zal h a fun x => rn 293 93 [l0, l1, l2, l3, l4] (.int x :: S) h) ∧
  (∀ (l0 l1 l2 l3 l4 : Value) (x : Int32) (y : Int32) (S : List Value) (h : zH), rn 293 93 [l0, l1, l2, l3, l4] (.int y :: .int x :: S) h = if y ≤ x then rn 293 121 [l0, l1, l2, l3, l4] S h else rn 293 96 [l0, l1, l2, l3, l4] S h) ∧
  (∀ (l1 l2 l3 l4 : Value) (x : Nat) (S : List Value) (h : zH), rn 293 96 [.ref x, l1, l2, l3, l4] S h = rn 293 97 [.ref x, l1, l2, l3, l4] (.ref x :: S) h) ∧
  (∀ (l0 l2 l3 l4 : Value) (x : Int32) (S : List Value) (h : zH), rn 293 97 [l0, .int x, l2, l3, l4] S h = rn 293 98 [l0, .int x, l2, l3, l4] (.int x :: S) h) ∧
  (∀ (l0 l1 l2 l3 l4 : Value) (S : List Value) (h : zH), rn 293 98 [l0, l1, l2, l3, l4] S h = ldA l2 (rn 293 99 [l0, l1, l2, l3, l4] (l2 :: S) h)) ∧
  (∀ (l0 l1 l2 l3 : Value) (x : Int32) (S : List Value) (h : zH), rn 293 99 [l0, l1, l2, l3, .int x] S h = rn 293 101 [l0, l1, l2, l3, .int x] (.int x :: S) h) ∧
  (∀ (l0 l1 l2 l3 l4 : Value) (a : Nat) (j : Int32) (S : List Value) (h : zH), rn 293 101 [l0, l1, l2, l3, l4] (.int j :: .ref a :: S) h = zlq h a j fun x => rn 293 102 [l0, l1, l2, l3, l4] (va_rf x :: S) h) ∧
  (∀ (l0 l1 l2 l3 l4 : Value) (o : Nat) (v0 : Value) (v1 : Value) (S : List Value) (h : zH), rn 293 102 [l0, l1, l2, l3, l4] (v1 :: v0 :: .ref o :: S) h = if zkd h o = 12 ∧ zsum S ≤ 8 then zcall (ev 294 [.ref o, v0, v1] h) (fun v h => rn 293 105 [l0, l1, l2, l3, l4] (zpush v S) h) else none) ∧
  (∀ (l0 l1 l2 l3 l4 : Value) (x : Int32) (S : List Value) (h : zH), rn 293 105 [l0, l1, l2, l3, l4] (.int x :: S) h = if x = nI 0 then rn 293 113 [l0, l1, l2, l3, l4] S h else rn 293 108 [l0, l1, l2, l3, l4] S h) ∧
  (∀ (l0 l1 l2 l3 : Value) (x : Int32) (S : List Value) (h : zH), rn 293 108 [l0, l1, l2, l3, .int x] S h = rn 293 110 [l0, l1, l2, l3, .int x] (.int x :: S) h) ∧
  (∀ (l0 l1 l2 l3 l4 : Value) (S : List Value) (h : zH), rn 293 110 [l0, l1, l2, l3, l4] S h = rn 293 114 [l0, l1, l2, l3, l4] S h) ∧
  (∀ (l0 l1 l2 l4 : Value) (x : Int32) (S : List Value) (h : zH), rn 293 113 [l0, l1, l2, .int x, l4] S h = rn 293 114 [l0, l1, l2, .int x, l4] (.int x :: S) h) ∧
  (∀ (l0 l1 l2 l3 l4 : Value) (x : Int32) (S : List Value) (h : zH), rn 293 114 [l0, l1, l2, l3, l4] (.int x :: S) h = nl l2 (rn 293 115 [l0, l1, l2, .int x, l4] S h)) ∧
  (∀ (l0 l1 l2 l3 : Value) (x : Int32) (S : List Value) (h : zH), rn 293 115 [l0, l1, l2, l3, .int x] S h = nl l3 (rn 293 118 [l0, l1, l2, l3, .int (x + (nI 1))] S h)) ∧
  (∀ (l0 l1 l2 l3 l4 : Value) (S : List Value) (h : zH), rn 293 118 [l0, l1, l2, l3, l4] S h = rn 293 89 [l0, l1, l2, l3, l4] S h) ∧
  (∀ (l0 l1 l2 l4 : Value) (x : Int32) (S : List Value) (h : zH), rn 293 121 [l0, l1, l2, .int x, l4] S h = rn 293 122 [l0, l1, l2, .int x, l4] (.int x :: S) h) ∧
  (∀ (l0 l1 l2 l3 l4 : Value) (x : Int32) (h : zH), rn 293 122 [l0, l1, l2, l3, l4] [.int x] h = some (some (.int x), h)) := ⟨fun _ _ _ _ _ _ _ => r_bipush (show zdec 293 0 = some (.bipush 12, 2) by decide +kernel) rfl rfl,
  fun _ _ _ _ _ _ _ _ => r_anewa (show zdec 293 2 = some (.anewarray 204, 3) by decide +kernel) (show zat.lookup (293 * zKEY + 204) = some 7 by decide +kernel) rfl,
  fun _ _ _ _ _ _ _ _ => r_dup (show zdec 293 5 = some (.dup, 1) by decide +kernel) rfl,
  fun _ _ _ _ _ _ _ => r_iconst (show zdec 293 6 = some (.iconst 0, 1) by decide +kernel) rfl rfl,
  fun _ _ _ _ _ _ _ _ _ _ => r_aast (show zdec 293 10 = some (.aastore, 1) by decide +kernel) rfl,
  fun _ _ _ _ _ _ _ _ => r_dup (show zdec 293 11 = some (.dup, 1) by decide +kernel) rfl,
  fun _ _ _ _ _ _ _ => r_iconst (show zdec 293 12 = some (.iconst 1, 1) by decide +kernel) rfl rfl,
  fun _ _ _ _ _ _ _ _ _ _ => r_aast (show zdec 293 16 = some (.aastore, 1) by decide +kernel) rfl,
  fun _ _ _ _ _ _ _ _ => r_dup (show zdec 293 17 = some (.dup, 1) by decide +kernel) rfl,
  fun _ _ _ _ _ _ _ => r_iconst (show zdec 293 18 = some (.iconst 2, 1) by decide +kernel) rfl rfl,
  fun _ _ _ _ _ _ _ _ _ _ => r_aast (show zdec 293 22 = some (.aastore, 1) by decide +kernel) rfl,
  fun _ _ _ _ _ _ _ _ => r_dup (show zdec 293 23 = some (.dup, 1) by decide +kernel) rfl,
  fun _ _ _ _ _ _ _ => r_iconst (show zdec 293 24 = some (.iconst 3, 1) by decide +kernel) rfl rfl,
  fun _ _ _ _ _ _ _ _ _ _ => r_aast (show zdec 293 28 = some (.aastore, 1) by decide +kernel) rfl,
  fun _ _ _ _ _ _ _ _ => r_dup (show zdec 293 29 = some (.dup, 1) by decide +kernel) rfl,
  fun _ _ _ _ _ _ _ => r_iconst (show zdec 293 30 = some (.iconst 4, 1) by decide +kernel) rfl rfl,
  fun _ _ _ _ _ _ _ _ _ _ => r_aast (show zdec 293 34 = some (.aastore, 1) by decide +kernel) rfl,
  fun _ _ _ _ _ _ _ _ => r_dup (show zdec 293 35 = some (.dup, 1) by decide +kernel) rfl,
  fun _ _ _ _ _ _ _ => r_iconst (show zdec 293 36 = some (.iconst 5, 1) by decide +kernel) rfl rfl,
  fun _ _ _ _ _ _ _ _ _ _ => r_aast (show zdec 293 40 = some (.aastore, 1) by decide +kernel) rfl,
  fun _ _ _ _ _ _ _ _ => r_dup (show zdec 293 41 = some (.dup, 1) by decide +kernel) rfl,
  fun _ _ _ _ _ _ _ => r_bipush (show zdec 293 42 = some (.bipush 6, 2) by decide +kernel) rfl rfl,
  fun _ _ _ _ _ _ _ _ _ _ => r_aast (show zdec 293 47 = some (.aastore, 1) by decide +kernel) rfl,
  fun _ _ _ _ _ _ _ _ => r_dup (show zdec 293 48 = some (.dup, 1) by decide +kernel) rfl,
  fun _ _ _ _ _ _ _ => r_bipush (show zdec 293 49 = some (.bipush 7, 2) by decide +kernel) rfl rfl,
  fun _ _ _ _ _ _ _ _ _ _ => r_aast (show zdec 293 54 = some (.aastore, 1) by decide +kernel) rfl,
  fun _ _ _ _ _ _ _ _ => r_dup (show zdec 293 55 = some (.dup, 1) by decide +kernel) rfl,
  fun _ _ _ _ _ _ _ => r_bipush (show zdec 293 56 = some (.bipush 8, 2) by decide +kernel) rfl rfl,
  fun _ _ _ _ _ _ _ _ _ _ => r_aast (show zdec 293 61 = some (.aastore, 1) by decide +kernel) rfl,
  fun _ _ _ _ _ _ _ _ => r_dup (show zdec 293 62 = some (.dup, 1) by decide +kernel) rfl,
  fun _ _ _ _ _ _ _ => r_bipush (show zdec 293 63 = some (.bipush 9, 2) by decide +kernel) rfl rfl,
  fun _ _ _ _ _ _ _ _ _ _ => r_aast (show zdec 293 68 = some (.aastore, 1) by decide +kernel) rfl,
  fun _ _ _ _ _ _ _ _ => r_dup (show zdec 293 69 = some (.dup, 1) by decide +kernel) rfl,
  fun _ _ _ _ _ _ _ => r_bipush (show zdec 293 70 = some (.bipush 10, 2) by decide +kernel) rfl rfl,
  fun _ _ _ _ _ _ _ _ _ _ => r_aast (show zdec 293 75 = some (.aastore, 1) by decide +kernel) rfl,
  fun _ _ _ _ _ _ _ _ => r_dup (show zdec 293 76 = some (.dup, 1) by decide +kernel) rfl,
  fun _ _ _ _ _ _ _ => r_bipush (show zdec 293 77 = some (.bipush 11, 2) by decide +kernel) rfl rfl,
  fun _ _ _ _ _ _ _ _ _ _ => r_aast (show zdec 293 82 = some (.aastore, 1) by decide +kernel) rfl,
  fun _ _ _ _ _ _ _ _ => r_astore_n (show zdec 293 83 = some (.astore_n 2, 1) by decide +kernel) rfl rfl (Nat.le_of_ble_eq_true rfl) rfl rfl,
  fun _ _ _ _ _ _ _ => r_iconst (show zdec 293 84 = some (.iconst (-1), 1) by decide +kernel) rfl rfl,
  fun _ _ _ _ _ _ _ _ => r_istore_n (show zdec 293 85 = some (.istore_n 3, 1) by decide +kernel) rfl rfl (Nat.le_of_ble_eq_true rfl) rfl rfl,
  fun _ _ _ _ _ _ _ => r_iconst (show zdec 293 86 = some (.iconst 0, 1) by decide +kernel) rfl rfl,
  fun _ _ _ _ _ _ _ _ => r_istore (show zdec 293 87 = some (.istore 4, 2) by decide +kernel) rfl (Nat.le_of_ble_eq_true rfl) rfl rfl,
  fun _ _ _ _ _ _ _ => r_aload_n (show zdec 293 91 = some (.aload_n 2, 1) by decide +kernel) rfl rfl,
  fun _ _ _ _ _ _ _ _ => r_alen (show zdec 293 92 = some (.arraylength, 1) by decide +kernel) rfl,
  fun _ _ _ _ _ _ _ _ _ => r_icmpge (show zdec 293 93 = some (.if_icmp .ge 28, 3) by decide +kernel) rfl rfl,
  fun _ _ _ _ _ _ _ => r_aload_nr (show zdec 293 96 = some (.aload_n 0, 1) by decide +kernel) rfl rfl,
  fun _ _ _ _ _ _ _ => r_iload_n (show zdec 293 97 = some (.iload_n 1, 1) by decide +kernel) rfl rfl,
  fun _ _ _ _ _ _ _ => r_aload_n (show zdec 293 98 = some (.aload_n 2, 1) by decide +kernel) rfl rfl,
  fun _ _ _ _ _ _ _ => r_iload (show zdec 293 99 = some (.iload 4, 2) by decide +kernel) rfl rfl,
  fun _ _ _ _ _ _ _ _ _ => r_aald (show zdec 293 101 = some (.aaload, 1) by decide +kernel) rfl,
  fun _ _ _ _ _ _ _ _ _ _ => r_cV [_, _] rfl (show zdec 293 102 = some (.invokevirtual 292, 3) by decide +kernel) (show zst.lookup (293 * zKEY + 292) = some (1, 294, 2, 12) by decide +kernel) (by decide) rfl,
  fun _ _ _ _ _ _ _ _ => r_ifeq (show zdec 293 105 = some (.ifCond .eq 8, 3) by decide +kernel) rfl rfl,
  fun _ _ _ _ _ _ _ => r_iload (show zdec 293 108 = some (.iload 4, 2) by decide +kernel) rfl rfl,
  fun _ _ _ _ _ _ _ => r_goto (show zdec 293 110 = some (.goto 4, 3) by decide +kernel) rfl,
  fun _ _ _ _ _ _ _ => r_iload_n (show zdec 293 113 = some (.iload_n 3, 1) by decide +kernel) rfl rfl,
  fun _ _ _ _ _ _ _ _ => r_istore_n (show zdec 293 114 = some (.istore_n 3, 1) by decide +kernel) rfl rfl (Nat.le_of_ble_eq_true rfl) rfl rfl,
  fun _ _ _ _ _ _ _ => r_iinc (show zdec 293 115 = some (.iinc 4 1, 3) by decide +kernel) rfl rfl rfl (Nat.le_of_ble_eq_true rfl) rfl rfl,
  fun _ _ _ _ _ _ _ => r_goto (show zdec 293 118 = some (.goto (-29), 3) by decide +kernel) rfl,
  fun _ _ _ _ _ _ _ => r_iload_n (show zdec 293 121 = some (.iload_n 3, 1) by decide +kernel) rfl rfl,
  fun _ _ _ _ _ _ _ => r_ireti (show zdec 293 122 = some (.ireturn, 1) by decide +kernel) (by decide +kernel)⟩
theorem zl_293_89 : ∀ (l0 l1 l2 l3 : Value) (x : Int32) (S : List Value) (h : zH), rn 293 89 [l0, l1, l2, l3, .int x] S h = rn 293 91 [l0, l1, l2, l3, .int x] (.int x :: S) h := fun _ _ _ _ _ _ _ => r_iload (show zdec 293 89 = some (.iload 4, 2) by decide +kernel) rfl rfl
theorem ze_293 : ∀ (a0 : Nat) (a1 : Int32) (h : zH), ev 293 [.ref a0, .int a1] h = rn 293 0 [.ref a0, .int a1, .float 0, .float 0, .float 0] [] h := fun _ _ _ => if_pos (Nat.le_of_ble_eq_true rfl)
-- PayrollRunModel.isWord(ILjava/lang/String;)Z
theorem zr_294 : (∀ (l1 l2 l3 l4 : Value) (x : Nat) (S : List Value) (h : zH), rn 294 0 [.ref x, l1, l2, l3, l4] S h = rn 294 1 [.ref x, l1, l2, l3, l4] (.ref x :: S) h) ∧
  (∀ (l0 l1 l2 l3 l4 : Value) (a : Nat) (S : List Value) (h : zH), rn 294 1 [l0, l1, l2, l3, l4] (.ref a :: S) h = zgf h a 12 12 fun v => rn 294 4 [l0, l1, l2, l3, l4] (v :: S) h) ∧
  (∀ (l0 l2 l3 l4 : Value) (x : Int32) (S : List Value) (h : zH), rn 294 4 [l0, .int x, l2, l3, l4] S h = rn 294 5 [l0, .int x, l2, l3, l4] (.int x :: S) h) ∧
  (∀ (l0 l1 l2 l3 l4 : Value) (x : Int32) (y : Int32) (S : List Value) (h : zH), rn 294 5 [l0, l1, l2, l3, l4] (.int y :: .int x :: S) h = rn 294 6 [l0, l1, l2, l3, l4] (.int (x - y) :: S) h) ∧
  (∀ (l0 l1 l2 l3 l4 : Value) (S : List Value) (h : zH), rn 294 6 [l0, l1, l2, l3, l4] S h = ldA l2 (rn 294 7 [l0, l1, l2, l3, l4] (l2 :: S) h)) ∧
  (∀ (l0 l1 l2 l3 l4 : Value) (o : Nat) (S : List Value) (h : zH), rn 294 7 [l0, l1, l2, l3, l4] (.ref o :: S) h = if zkd h o = 13 ∧ zsum S ≤ 8 then zcall (ev 122 [.ref o] h) (fun v h => rn 294 10 [l0, l1, l2, l3, l4] (zpush v S) h) else none) ∧
  (∀ (l0 l1 l2 l3 l4 : Value) (x : Int32) (y : Int32) (S : List Value) (h : zH), rn 294 10 [l0, l1, l2, l3, l4] (.int y :: .int x :: S) h = if x = y then rn 294 13 [l0, l1, l2, l3, l4] S h else rn 294 17 [l0, l1, l2, l3, l4] S h) ∧
  (∀ (l0 l1 l2 l3 l4 : Value) (S : List Value) (h : zH), rn 294 13 [l0, l1, l2, l3, l4] S h = rn 294 14 [l0, l1, l2, l3, l4] (.int (nI 1) :: S) h) ∧
  (∀ (l0 l1 l2 l3 l4 : Value) (S : List Value) (h : zH), rn 294 14 [l0, l1, l2, l3, l4] S h = rn 294 18 [l0, l1, l2, l3, l4] S h) ∧
  (∀ (l0 l1 l2 l3 l4 : Value) (S : List Value) (h : zH), rn 294 17 [l0, l1, l2, l3, l4] S h = rn 294 18 [l0, l1, l2, l3, l4] (.int (nI 0) :: S) h) ∧
  (∀ (l0 l1 l2 l3 l4 : Value) (x : Int32) (S : List Value) (h : zH), rn 294 18 [l0, l1, l2, l3, l4] (.int x :: S) h = nl l2 (rn 294 19 [l0, l1, l2, .int x, l4] S h)) ∧
  (∀ (l0 l1 l2 l3 l4 : Value) (S : List Value) (h : zH), rn 294 19 [l0, l1, l2, l3, l4] S h = rn 294 20 [l0, l1, l2, l3, l4] (.int (nI 0) :: S) h) ∧
  (∀ (l0 l1 l2 l3 l4 : Value) (x : Int32) (S : List Value) (h : zH), rn 294 20 [l0, l1, l2, l3, l4] (.int x :: S) h = nl l3 (rn 294 22 [l0, l1, l2, l3, .int x] S h)) ∧
  (∀ (l0 l1 l2 l3 l4 : Value) (S : List Value) (h : zH), rn 294 24 [l0, l1, l2, l3, l4] S h = ldA l2 (rn 294 25 [l0, l1, l2, l3, l4] (l2 :: S) h)) ∧
  (∀ (l0 l1 l2 l3 l4 : Value) (o : Nat) (S : List Value) (h : zH), rn 294 25 [l0, l1, l2, l3, l4] (.ref o :: S) h = if zkd h o = 13 ∧ zsum S ≤ 8 then zcall (ev 122 [.ref o] h) (fun v h => rn 294 28 [l0, l1, l2, l3, l4] (zpush v S) h) else none) ∧
  (∀ (l0 l1 l2 l3 l4 : Value) (x : Int32) (y : Int32) (S : List Value) (h : zH), rn 294 28 [l0, l1, l2, l3, l4] (.int y :: .int x :: S) h = if y ≤ x then rn 294 65 [l0, l1, l2, l3, l4] S h else rn 294 31 [l0, l1, l2, l3, l4] S h) ∧
  (∀ (l0 l1 l2 l4 : Value) (x : Int32) (S : List Value) (h : zH), rn 294 31 [l0, l1, l2, .int x, l4] S h = rn 294 32 [l0, l1, l2, .int x, l4] (.int x :: S) h) ∧
  (∀ (l0 l1 l2 l3 l4 : Value) (x : Int32) (S : List Value) (h : zH), rn 294 32 [l0, l1, l2, l3, l4] (.int x :: S) h = if x = nI 0 then rn 294 65 [l0, l1, l2, l3, l4] S h else rn 294 35 [l0, l1, l2, l3, l4] S h) ∧
  (∀ (l1 l2 l3 l4 : Value) (x : Nat) (S : List Value) (h : zH), rn 294 35 [.ref x, l1, l2, l3, l4] S h = rn 294 36 [.ref x, l1, l2, l3, l4] (.ref x :: S) h) ∧
  (∀ (l0 l1 l2 l3 l4 : Value) (a : Nat) (S : List Value) (h : zH), rn 294 36 [l0, l1, l2, l3, l4] (.ref a :: S) h = zgf h a 12 10 fun v => rn 294 39 [l0, l1, l2, l3, l4] (v :: S) h) ∧
  (∀ (l0 l2 l3 l4 : Value) (x : Int32) (S : List Value) (h : zH), rn 294 39 [l0, .int x, l2, l3, l4] S h = rn 294 40 [l0, .int x, l2, l3, l4] (.int x :: S) h) ∧
  (∀ (l0 l1 l2 l3 : Value) (x : Int32) (S : List Value) (h : zH), rn 294 40 [l0, l1, l2, l3, .int x] S h = rn 294 42 [l0, l1, l2, l3, .int x] (.int x :: S) h) ∧
  (∀ (l0 l1 l2 l3 l4 : Value) (x : Int32) (y : Int32) (S : List Value) (h : zH), rn 294 42 [l0, l1, l2, l3, l4] (.int y :: .int x :: S) h = rn 294 43 [l0, l1, l2, l3, l4] (.int (x + y) :: S) h) ∧
  (∀ (l0 l1 l2 l3 l4 : Value) (a : Nat) (j : Int32) (S : List Value) (h : zH), rn 294 43 [l0, l1, l2, l3, l4] (.int j :: .ref a :: S) h = zli h a 2 j fun x => rn 294 44 [l0, l1, l2, l3, l4] (.int x :: S) h) ∧
  (∀ (l0 l1 l2 l3 l4 : Value) (S : List Value) (h : zH), rn 294 44 [l0, l1, l2, l3, l4] S h = ldA l2 (rn 294 45 [l0, l1, l2, l3, l4] (l2 :: S) h)) ∧
  (∀ (l0 l1 l2 l3 : Value) (x : Int32) (S : List Value) (h : zH), rn 294 45 [l0, l1, l2, l3, .int x] S h = rn 294 47 [l0, l1, l2, l3, .int x] (.int x :: S) h) ∧
  (∀ (l0 l1 l2 l3 l4 : Value) (o : Nat) (v0 : Value) (S : List Value) (h : zH), rn 294 47 [l0, l1, l2, l3, l4] (v0 :: .ref o :: S) h = if zkd h o = 13 ∧ zsum S ≤ 8 then zcall (ev 189 [.ref o, v0] h) (fun v h => rn 294 50 [l0, l1, l2, l3, l4] (zpush v S) h) else none) ∧
  (∀ (l0 l1 l2 l3 l4 : Value) (x : Int32) (y : Int32) (S : List Value) (h : zH), rn 294 50 [l0, l1, l2, l3, l4] (.int y :: .int x :: S) h = if x = y then rn 294 53 [l0, l1, l2, l3, l4] S h else rn 294 57 [l0, l1, l2, l3, l4] S h) ∧
  (∀ (l0 l1 l2 l3 l4 : Value) (S : List Value) (h : zH), rn 294 53 [l0, l1, l2, l3, l4] S h = rn 294 54 [l0, l1, l2, l3, l4] (.int (nI 1) :: S) h) ∧
  (∀ (l0 l1 l2 l3 l4 : Value) (S : List Value) (h : zH), rn 294 54 [l0, l1, l2, l3, l4] S h = rn 294 58 [l0, l1, l2, l3, l4] S h) ∧
  (∀ (l0 l1 l2 l3 l4 : Value) (S : List Value) (h : zH), rn 294 57 [l0, l1, l2, l3, l4] S h = rn 294 58 [l0, l1, l2, l3, l4] (.int (nI 0) :: S) h) ∧
  (∀ (l0 l1 l2 l3 l4 : Value) (x : Int32) (S : List Value) (h : zH), rn 294 58 [l0, l1, l2, l3, l4] (.int x :: S) h = nl l2 (rn 294 59 [l0, l1, l2, .int x, l4] S h)) ∧
  (∀ (l0 l1 l2 l3 : Value) (x : Int32) (S : List Value) (h : zH), rn 294 59 [l0, l1, l2, l3, .int x] S h = nl l3 (rn 294 62 [l0, l1, l2, l3, .int (x + (nI 1))] S h)) ∧
  (∀ (l0 l1 l2 l3 l4 : Value) (S : List Value) (h : zH), rn 294 62 [l0, l1, l2, l3, l4] S h = rn 294 22 [l0, l1, l2, l3, l4] S h) ∧
  (∀ (l0 l1 l2 l4 : Value) (x : Int32) (S : List Value) (h : zH), rn 294 65 [l0, l1, l2, .int x, l4] S h = rn 294 66 [l0, l1, l2, .int x, l4] (.int x :: S) h) ∧
  (∀ (l0 l1 l2 l3 l4 : Value) (x : Int32) (h : zH), rn 294 66 [l0, l1, l2, l3, l4] [.int x] h = if x = nI 0 ∨ x = nI 1 then some (some (.int x), h) else none) := ⟨fun _ _ _ _ _ _ _ => r_aload_nr (show zdec 294 0 = some (.aload_n 0, 1) by decide +kernel) rfl rfl,
  fun _ _ _ _ _ _ _ _ => r_getfield (show zdec 294 1 = some (.getfield 266, 3) by decide +kernel) (show zft.lookup (294 * zKEY + 266) = some (12, 12) by decide +kernel) rfl,
  fun _ _ _ _ _ _ _ => r_iload_n (show zdec 294 4 = some (.iload_n 1, 1) by decide +kernel) rfl rfl,
  fun _ _ _ _ _ _ _ _ _ => r_isub (show zdec 294 5 = some (.isub, 1) by decide +kernel) rfl,
  fun _ _ _ _ _ _ _ => r_aload_n (show zdec 294 6 = some (.aload_n 2, 1) by decide +kernel) rfl rfl,
  fun _ _ _ _ _ _ _ _ => r_cV [] rfl (show zdec 294 7 = some (.invokevirtual 203, 3) by decide +kernel) (show zst.lookup (294 * zKEY + 203) = some (1, 122, 0, 13) by decide +kernel) (by decide) rfl,
  fun _ _ _ _ _ _ _ _ _ => r_icmpne (show zdec 294 10 = some (.if_icmp .ne 7, 3) by decide +kernel) rfl rfl,
  fun _ _ _ _ _ _ _ => r_iconst (show zdec 294 13 = some (.iconst 1, 1) by decide +kernel) rfl rfl,
  fun _ _ _ _ _ _ _ => r_goto (show zdec 294 14 = some (.goto 4, 3) by decide +kernel) rfl,
  fun _ _ _ _ _ _ _ => r_iconst (show zdec 294 17 = some (.iconst 0, 1) by decide +kernel) rfl rfl,
  fun _ _ _ _ _ _ _ _ => r_istore_n (show zdec 294 18 = some (.istore_n 3, 1) by decide +kernel) rfl rfl (Nat.le_of_ble_eq_true rfl) rfl rfl,
  fun _ _ _ _ _ _ _ => r_iconst (show zdec 294 19 = some (.iconst 0, 1) by decide +kernel) rfl rfl,
  fun _ _ _ _ _ _ _ _ => r_istore (show zdec 294 20 = some (.istore 4, 2) by decide +kernel) rfl (Nat.le_of_ble_eq_true rfl) rfl rfl,
  fun _ _ _ _ _ _ _ => r_aload_n (show zdec 294 24 = some (.aload_n 2, 1) by decide +kernel) rfl rfl,
  fun _ _ _ _ _ _ _ _ => r_cV [] rfl (show zdec 294 25 = some (.invokevirtual 203, 3) by decide +kernel) (show zst.lookup (294 * zKEY + 203) = some (1, 122, 0, 13) by decide +kernel) (by decide) rfl,
  fun _ _ _ _ _ _ _ _ _ => r_icmpge (show zdec 294 28 = some (.if_icmp .ge 37, 3) by decide +kernel) rfl rfl,
  fun _ _ _ _ _ _ _ => r_iload_n (show zdec 294 31 = some (.iload_n 3, 1) by decide +kernel) rfl rfl,
  fun _ _ _ _ _ _ _ _ => r_ifeq (show zdec 294 32 = some (.ifCond .eq 33, 3) by decide +kernel) rfl rfl,
  fun _ _ _ _ _ _ _ => r_aload_nr (show zdec 294 35 = some (.aload_n 0, 1) by decide +kernel) rfl rfl,
  fun _ _ _ _ _ _ _ _ => r_getfield (show zdec 294 36 = some (.getfield 30, 3) by decide +kernel) (show zft.lookup (294 * zKEY + 30) = some (12, 10) by decide +kernel) rfl,
  fun _ _ _ _ _ _ _ => r_iload_n (show zdec 294 39 = some (.iload_n 1, 1) by decide +kernel) rfl rfl,
  fun _ _ _ _ _ _ _ => r_iload (show zdec 294 40 = some (.iload 4, 2) by decide +kernel) rfl rfl,
  fun _ _ _ _ _ _ _ _ _ => r_iadd (show zdec 294 42 = some (.iadd, 1) by decide +kernel) rfl,
  fun _ _ _ _ _ _ _ _ _ => r_cald (show zdec 294 43 = some (.caload, 1) by decide +kernel) rfl,
  fun _ _ _ _ _ _ _ => r_aload_n (show zdec 294 44 = some (.aload_n 2, 1) by decide +kernel) rfl rfl,
  fun _ _ _ _ _ _ _ => r_iload (show zdec 294 45 = some (.iload 4, 2) by decide +kernel) rfl rfl,
  fun _ _ _ _ _ _ _ _ _ => r_cV [_] rfl (show zdec 294 47 = some (.invokevirtual 208, 3) by decide +kernel) (show zst.lookup (294 * zKEY + 208) = some (1, 189, 1, 13) by decide +kernel) (by decide) rfl,
  fun _ _ _ _ _ _ _ _ _ => r_icmpne (show zdec 294 50 = some (.if_icmp .ne 7, 3) by decide +kernel) rfl rfl,
  fun _ _ _ _ _ _ _ => r_iconst (show zdec 294 53 = some (.iconst 1, 1) by decide +kernel) rfl rfl,
  fun _ _ _ _ _ _ _ => r_goto (show zdec 294 54 = some (.goto 4, 3) by decide +kernel) rfl,
  fun _ _ _ _ _ _ _ => r_iconst (show zdec 294 57 = some (.iconst 0, 1) by decide +kernel) rfl rfl,
  fun _ _ _ _ _ _ _ _ => r_istore_n (show zdec 294 58 = some (.istore_n 3, 1) by decide +kernel) rfl rfl (Nat.le_of_ble_eq_true rfl) rfl rfl,
  fun _ _ _ _ _ _ _ => r_iinc (show zdec 294 59 = some (.iinc 4 1, 3) by decide +kernel) rfl rfl rfl (Nat.le_of_ble_eq_true rfl) rfl rfl,
  fun _ _ _ _ _ _ _ => r_goto (show zdec 294 62 = some (.goto (-40), 3) by decide +kernel) rfl,
  fun _ _ _ _ _ _ _ => r_iload_n (show zdec 294 65 = some (.iload_n 3, 1) by decide +kernel) rfl rfl,
  fun _ _ _ _ _ _ _ => r_iretb (show zdec 294 66 = some (.ireturn, 1) by decide +kernel) (by decide +kernel)⟩
theorem zl_294_22 : ∀ (l0 l1 l2 l3 : Value) (x : Int32) (S : List Value) (h : zH), rn 294 22 [l0, l1, l2, l3, .int x] S h = rn 294 24 [l0, l1, l2, l3, .int x] (.int x :: S) h := fun _ _ _ _ _ _ _ => r_iload (show zdec 294 22 = some (.iload 4, 2) by decide +kernel) rfl rfl
theorem ze_294 : ∀ (a0 : Nat) (a1 : Int32) (a2 : Nat) (h : zH), ev 294 [.ref a0, .int a1, .ref a2] h = rn 294 0 [.ref a0, .int a1, .ref a2, .float 0, .float 0] [] h := fun _ _ _ _ => if_pos (Nat.le_of_ble_eq_true rfl)
-- PayrollRunModel.readNumber(I)V
theorem zr_295 : (∀ (l1 l2 : Value) (x : Nat) (S : List Value) (h : zH), rn 295 0 [.ref x, l1, l2] S h = rn 295 1 [.ref x, l1, l2] (.ref x :: S) h) ∧
  (∀ (l0 l1 l2 : Value) (o : Nat) (S : List Value) (h : zH), rn 295 1 [l0, l1, l2] (.ref o :: S) h = if zkd h o = 12 ∧ zsum S ≤ 8 then zcall (ev 292 [.ref o] h) (fun v h => rn 295 4 [l0, l1, l2] (zpush v S) h) else none) ∧
  (∀ (l0 l1 l2 : Value) (S : List Value) (h : zH), rn 295 4 [l0, l1, l2] S h = rn 295 6 [l0, l1, l2] (.int (nI 32) :: S) h) ∧
  (∀ (l0 l1 l2 : Value) (x : Int32) (y : Int32) (S : List Value) (h : zH), rn 295 6 [l0, l1, l2] (.int y :: .int x :: S) h = if x = y then rn 295 15 [l0, l1, l2] S h else rn 295 9 [l0, l1, l2] S h) ∧
  (∀ (l1 l2 : Value) (x : Nat) (S : List Value) (h : zH), rn 295 9 [.ref x, l1, l2] S h = rn 295 10 [.ref x, l1, l2] (.ref x :: S) h) ∧
  (∀ (l0 l1 l2 : Value) (S : List Value) (h : zH), rn 295 10 [l0, l1, l2] S h = rn 295 11 [l0, l1, l2] (.int (nI 1) :: S) h) ∧
  (∀ (l0 l1 l2 : Value) (a : Nat) (v : Value) (S : List Value) (h : zH), rn 295 11 [l0, l1, l2] (v :: .ref a :: S) h = zpf h a 12 13 v fun h => rn 295 14 [l0, l1, l2] S h) ∧
  (∀ (l0 l1 l2 : Value) (h : zH), rn 295 14 [l0, l1, l2] [] h = some (none, h)) ∧
  (∀ (l1 l2 : Value) (x : Nat) (S : List Value) (h : zH), rn 295 15 [.ref x, l1, l2] S h = rn 295 16 [.ref x, l1, l2] (.ref x :: S) h) ∧
  (∀ (l0 l1 l2 : Value) (v : Value) (S : List Value) (h : zH), rn 295 16 [l0, l1, l2] (v :: S) h = c1 v (rn 295 17 [l0, l1, l2] (v :: v :: S) h)) ∧
  (∀ (l0 l1 l2 : Value) (a : Nat) (S : List Value) (h : zH), rn 295 17 [l0, l1, l2] (.ref a :: S) h = zgf h a 12 12 fun v => rn 295 20 [l0, l1, l2] (v :: S) h) ∧
  (∀ (l0 l1 l2 : Value) (S : List Value) (h : zH), rn 295 20 [l0, l1, l2] S h = rn 295 21 [l0, l1, l2] (.int (nI 1) :: S) h) ∧
  (∀ (l0 l1 l2 : Value) (x : Int32) (y : Int32) (S : List Value) (h : zH), rn 295 21 [l0, l1, l2] (.int y :: .int x :: S) h = rn 295 22 [l0, l1, l2] (.int (x + y) :: S) h) ∧
  (∀ (l0 l1 l2 : Value) (a : Nat) (v : Value) (S : List Value) (h : zH), rn 295 22 [l0, l1, l2] (v :: .ref a :: S) h = zpf h a 12 12 v fun h => rn 295 25 [l0, l1, l2] S h) ∧
  (∀ (l0 l1 l2 : Value) (S : List Value) (h : zH), rn 295 25 [l0, l1, l2] S h = rn 295 26 [l0, l1, l2] (.int (nI 0) :: S) h) ∧
  (∀ (l0 l1 l2 : Value) (x : Int32) (S : List Value) (h : zH), rn 295 26 [l0, l1, l2] (.int x :: S) h = nl l1 (rn 295 27 [l0, l1, .int x] S h)) ∧
  (∀ (l1 l2 : Value) (x : Nat) (S : List Value) (h : zH), rn 295 27 [.ref x, l1, l2] S h = rn 295 28 [.ref x, l1, l2] (.ref x :: S) h) ∧
  (∀ (l0 l1 l2 : Value) (a : Nat) (S : List Value) (h : zH), rn 295 28 [l0, l1, l2] (.ref a :: S) h = zgf h a 12 14 fun v => rn 295 31 [l0, l1, l2] (v :: S) h) ∧
  (∀ (l0 l2 : Value) (x : Int32) (S : List Value) (h : zH), rn 295 31 [l0, .int x, l2] S h = rn 295 32 [l0, .int x, l2] (.int x :: S) h) ∧
  (∀ (l0 l1 l2 : Value) (S : List Value) (h : zH), rn 295 32 [l0, l1, l2] S h = rn 295 33 [l0, l1, l2] (.int (nI 0) :: S) h) ∧
  (∀ (l0 l1 l2 : Value) (a : Nat) (j : Int32) (x : Int32) (S : List Value) (h : zH), rn 295 33 [l0, l1, l2] (.int x :: .int j :: .ref a :: S) h = zsi h a 0 j x fun h => rn 295 34 [l0, l1, l2] S h) ∧
  (∀ (l0 l1 l2 : Value) (S : List Value) (h : zH), rn 295 35 [l0, l1, l2] S h = rn 295 36 [l0, l1, l2] (.int (nI 5) :: S) h) ∧
  (∀ (l0 l1 l2 : Value) (x : Int32) (y : Int32) (S : List Value) (h : zH), rn 295 36 [l0, l1, l2] (.int y :: .int x :: S) h = if y ≤ x then rn 295 92 [l0, l1, l2] S h else rn 295 39 [l0, l1, l2] S h) ∧
  (∀ (l1 l2 : Value) (x : Nat) (S : List Value) (h : zH), rn 295 39 [.ref x, l1, l2] S h = rn 295 40 [.ref x, l1, l2] (.ref x :: S) h) ∧
  (∀ (l0 l1 l2 : Value) (o : Nat) (S : List Value) (h : zH), rn 295 40 [l0, l1, l2] (.ref o :: S) h = if zkd h o = 12 ∧ zsum S ≤ 8 then zcall (ev 292 [.ref o] h) (fun v h => rn 295 43 [l0, l1, l2] (zpush v S) h) else none) ∧
  (∀ (l0 l1 l2 : Value) (S : List Value) (h : zH), rn 295 43 [l0, l1, l2] S h = rn 295 45 [l0, l1, l2] (.int (nI 48) :: S) h) ∧
  (∀ (l0 l1 l2 : Value) (S : List Value) (h : zH), rn 295 45 [l0, l1, l2] S h = rn 295 47 [l0, l1, l2] (.int (nI 57) :: S) h) ∧
  (∀ (l0 l1 l2 : Value) (v0 : Value) (v1 : Value) (v2 : Value) (S : List Value) (h : zH), rn 295 47 [l0, l1, l2] (v2 :: v1 :: v0 :: S) h = if zsum S ≤ 8 then zcall (ev 211 [v0, v1, v2] h) (fun v h => rn 295 50 [l0, l1, l2] (zpush v S) h) else none) ∧
  (∀ (l0 l1 l2 : Value) (x : Int32) (S : List Value) (h : zH), rn 295 50 [l0, l1, l2] (.int x :: S) h = if x = nI 0 then rn 295 92 [l0, l1, l2] S h else rn 295 53 [l0, l1, l2] S h) ∧
  (∀ (l1 l2 : Value) (x : Nat) (S : List Value) (h : zH), rn 295 53 [.ref x, l1, l2] S h = rn 295 54 [.ref x, l1, l2] (.ref x :: S) h) ∧
  (∀ (l0 l1 l2 : Value) (a : Nat) (S : List Value) (h : zH), rn 295 54 [l0, l1, l2] (.ref a :: S) h = zgf h a 12 14 fun v => rn 295 57 [l0, l1, l2] (v :: S) h) ∧
  (∀ (l0 l2 : Value) (x : Int32) (S : List Value) (h : zH), rn 295 57 [l0, .int x, l2] S h = rn 295 58 [l0, .int x, l2] (.int x :: S) h) ∧
  (∀ (l0 l1 l2 : Value) (S : List Value) (h : zH), rn 295 58 [l0, l1, l2] S h = rn 295 60 [l0, l1, l2] (.int (nI 10) :: S) h) ∧
  (∀ (l1 l2 : Value) (x : Nat) (S : List Value) (h : zH), rn 295 60 [.ref x, l1, l2] S h = rn 295 61 [.ref x, l1, l2] (.ref x :: S) h) ∧
  (∀ (l0 l1 l2 : Value) (a : Nat) (S : List Value) (h : zH), rn 295 61 [l0, l1, l2] (.ref a :: S) h = zgf h a 12 14 fun v => rn 295 64 [l0, l1, l2] (v :: S) h) ∧
  (∀ (l0 l2 : Value) (x : Int32) (S : List Value) (h : zH), rn 295 64 [l0, .int x, l2] S h = rn 295 65 [l0, .int x, l2] (.int x :: S) h) ∧
  (∀ (l0 l1 l2 : Value) (a : Nat) (j : Int32) (S : List Value) (h : zH), rn 295 65 [l0, l1, l2] (.int j :: .ref a :: S) h = zli h a 0 j fun x => rn 295 66 [l0, l1, l2] (.int x :: S) h) ∧
  (∀ (l0 l1 l2 : Value) (x : Int32) (y : Int32) (S : List Value) (h : zH), rn 295 66 [l0, l1, l2] (.int y :: .int x :: S) h = rn 295 67 [l0, l1, l2] (.int (x * y) :: S) h) ∧
  (∀ (l1 l2 : Value) (x : Nat) (S : List Value) (h : zH), rn 295 67 [.ref x, l1, l2] S h = rn 295 68 [.ref x, l1, l2] (.ref x :: S) h) ∧
  (∀ (l0 l1 l2 : Value) (o : Nat) (S : List Value) (h : zH), rn 295 68 [l0, l1, l2] (.ref o :: S) h = if zkd h o = 12 ∧ zsum S ≤ 8 then zcall (ev 292 [.ref o] h) (fun v h => rn 295 71 [l0, l1, l2] (zpush v S) h) else none) ∧
  (∀ (l0 l1 l2 : Value) (x : Int32) (y : Int32) (S : List Value) (h : zH), rn 295 71 [l0, l1, l2] (.int y :: .int x :: S) h = rn 295 72 [l0, l1, l2] (.int (x + y) :: S) h) ∧
  (∀ (l0 l1 l2 : Value) (S : List Value) (h : zH), rn 295 72 [l0, l1, l2] S h = rn 295 74 [l0, l1, l2] (.int (nI 48) :: S) h) ∧
  (∀ (l0 l1 l2 : Value) (x : Int32) (y : Int32) (S : List Value) (h : zH), rn 295 74 [l0, l1, l2] (.int y :: .int x :: S) h = rn 295 75 [l0, l1, l2] (.int (x - y) :: S) h) ∧
  (∀ (l0 l1 l2 : Value) (a : Nat) (j : Int32) (x : Int32) (S : List Value) (h : zH), rn 295 75 [l0, l1, l2] (.int x :: .int j :: .ref a :: S) h = zsi h a 0 j x fun h => rn 295 76 [l0, l1, l2] S h) ∧
  (∀ (l1 l2 : Value) (x : Nat) (S : List Value) (h : zH), rn 295 76 [.ref x, l1, l2] S h = rn 295 77 [.ref x, l1, l2] (.ref x :: S) h) ∧
  (∀ (l0 l1 l2 : Value) (v : Value) (S : List Value) (h : zH), rn 295 77 [l0, l1, l2] (v :: S) h = c1 v (rn 295 78 [l0, l1, l2] (v :: v :: S) h)) ∧
  (∀ (l0 l1 l2 : Value) (a : Nat) (S : List Value) (h : zH), rn 295 78 [l0, l1, l2] (.ref a :: S) h = zgf h a 12 12 fun v => rn 295 81 [l0, l1, l2] (v :: S) h) ∧
  (∀ (l0 l1 l2 : Value) (S : List Value) (h : zH), rn 295 81 [l0, l1, l2] S h = rn 295 82 [l0, l1, l2] (.int (nI 1) :: S) h) ∧
  (∀ (l0 l1 l2 : Value) (x : Int32) (y : Int32) (S : List Value) (h : zH), rn 295 82 [l0, l1, l2] (.int y :: .int x :: S) h = rn 295 83 [l0, l1, l2] (.int (x + y) :: S) h) ∧
  (∀ (l0 l1 l2 : Value) (a : Nat) (v : Value) (S : List Value) (h : zH), rn 295 83 [l0, l1, l2] (v :: .ref a :: S) h = zpf h a 12 12 v fun h => rn 295 86 [l0, l1, l2] S h) ∧
  (∀ (l0 l1 : Value) (x : Int32) (S : List Value) (h : zH), rn 295 86 [l0, l1, .int x] S h = nl l1 (rn 295 89 [l0, l1, .int (x + (nI 1))] S h)) ∧
  (∀ (l0 l1 l2 : Value) (S : List Value) (h : zH), rn 295 89 [l0, l1, l2] S h = rn 295 34 [l0, l1, l2] S h) ∧
  (∀ (l1 l2 : Value) (x : Nat) (S : List Value) (h : zH), rn 295 92 [.ref x, l1, l2] S h = rn 295 93 [.ref x, l1, l2] (.ref x :: S) h) ∧
  (∀ (l0 l1 : Value) (x : Int32) (S : List Value) (h : zH), rn 295 93 [l0, l1, .int x] S h = rn 295 94 [l0, l1, .int x] (.int x :: S) h) ∧
  (∀ (l0 l1 l2 : Value) (x : Int32) (S : List Value) (h : zH), rn 295 94 [l0, l1, l2] (.int x :: S) h = if x = nI 0 then rn 295 97 [l0, l1, l2] S h else rn 295 101 [l0, l1, l2] S h) ∧
  (∀ (l0 l1 l2 : Value) (S : List Value) (h : zH), rn 295 97 [l0, l1, l2] S h = rn 295 98 [l0, l1, l2] (.int (nI 1) :: S) h) ∧
  (∀ (l0 l1 l2 : Value) (S : List Value) (h : zH), rn 295 98 [l0, l1, l2] S h = rn 295 102 [l0, l1, l2] S h) ∧
  (∀ (l0 l1 l2 : Value) (S : List Value) (h : zH), rn 295 101 [l0, l1, l2] S h = rn 295 102 [l0, l1, l2] (.int (nI 0) :: S) h) ∧
  (∀ (l0 l1 l2 : Value) (a : Nat) (v : Value) (S : List Value) (h : zH), rn 295 102 [l0, l1, l2] (v :: .ref a :: S) h = zpf h a 12 13 v fun h => rn 295 105 [l0, l1, l2] S h) ∧
  (∀ (l0 l1 l2 : Value) (h : zH), rn 295 105 [l0, l1, l2] [] h = some (none, h)) := ⟨fun _ _ _ _ _ => r_aload_nr (show zdec 295 0 = some (.aload_n 0, 1) by decide +kernel) rfl rfl,
  fun _ _ _ _ _ _ => r_cV [] rfl (show zdec 295 1 = some (.invokevirtual 296, 3) by decide +kernel) (show zst.lookup (295 * zKEY + 296) = some (1, 292, 0, 12) by decide +kernel) (by decide) rfl,
  fun _ _ _ _ _ => r_bipush (show zdec 295 4 = some (.bipush 32, 2) by decide +kernel) rfl rfl,
  fun _ _ _ _ _ _ _ => r_icmpeq (show zdec 295 6 = some (.if_icmp .eq 9, 3) by decide +kernel) rfl rfl,
  fun _ _ _ _ _ => r_aload_nr (show zdec 295 9 = some (.aload_n 0, 1) by decide +kernel) rfl rfl,
  fun _ _ _ _ _ => r_iconst (show zdec 295 10 = some (.iconst 1, 1) by decide +kernel) rfl rfl,
  fun _ _ _ _ _ _ _ => r_putfield (show zdec 295 11 = some (.putfield 299, 3) by decide +kernel) (show zft.lookup (295 * zKEY + 299) = some (12, 13) by decide +kernel) (by decide +kernel) rfl,
  fun _ _ _ _ => r_vret (show zdec 295 14 = some (.return_, 1) by decide +kernel) (by decide +kernel),
  fun _ _ _ _ _ => r_aload_nr (show zdec 295 15 = some (.aload_n 0, 1) by decide +kernel) rfl rfl,
  fun _ _ _ _ _ _ => r_dup (show zdec 295 16 = some (.dup, 1) by decide +kernel) rfl,
  fun _ _ _ _ _ _ => r_getfield (show zdec 295 17 = some (.getfield 266, 3) by decide +kernel) (show zft.lookup (295 * zKEY + 266) = some (12, 12) by decide +kernel) rfl,
  fun _ _ _ _ _ => r_iconst (show zdec 295 20 = some (.iconst 1, 1) by decide +kernel) rfl rfl,
  fun _ _ _ _ _ _ _ => r_iadd (show zdec 295 21 = some (.iadd, 1) by decide +kernel) rfl,
  fun _ _ _ _ _ _ _ => r_putfield (show zdec 295 22 = some (.putfield 266, 3) by decide +kernel) (show zft.lookup (295 * zKEY + 266) = some (12, 12) by decide +kernel) (by decide +kernel) rfl,
  fun _ _ _ _ _ => r_iconst (show zdec 295 25 = some (.iconst 0, 1) by decide +kernel) rfl rfl,
  fun _ _ _ _ _ _ => r_istore_n (show zdec 295 26 = some (.istore_n 2, 1) by decide +kernel) rfl rfl (Nat.le_of_ble_eq_true rfl) rfl rfl,
  fun _ _ _ _ _ => r_aload_nr (show zdec 295 27 = some (.aload_n 0, 1) by decide +kernel) rfl rfl,
  fun _ _ _ _ _ _ => r_getfield (show zdec 295 28 = some (.getfield 33, 3) by decide +kernel) (show zft.lookup (295 * zKEY + 33) = some (12, 14) by decide +kernel) rfl,
  fun _ _ _ _ _ => r_iload_n (show zdec 295 31 = some (.iload_n 1, 1) by decide +kernel) rfl rfl,
  fun _ _ _ _ _ => r_iconst (show zdec 295 32 = some (.iconst 0, 1) by decide +kernel) rfl rfl,
  fun _ _ _ _ _ _ _ _ => r_iast (show zdec 295 33 = some (.iastore, 1) by decide +kernel) rfl,
  fun _ _ _ _ _ => r_iconst (show zdec 295 35 = some (.iconst 5, 1) by decide +kernel) rfl rfl,
  fun _ _ _ _ _ _ _ => r_icmpge (show zdec 295 36 = some (.if_icmp .ge 56, 3) by decide +kernel) rfl rfl,
  fun _ _ _ _ _ => r_aload_nr (show zdec 295 39 = some (.aload_n 0, 1) by decide +kernel) rfl rfl,
  fun _ _ _ _ _ _ => r_cV [] rfl (show zdec 295 40 = some (.invokevirtual 296, 3) by decide +kernel) (show zst.lookup (295 * zKEY + 296) = some (1, 292, 0, 12) by decide +kernel) (by decide) rfl,
  fun _ _ _ _ _ => r_bipush (show zdec 295 43 = some (.bipush 48, 2) by decide +kernel) rfl rfl,
  fun _ _ _ _ _ => r_bipush (show zdec 295 45 = some (.bipush 57, 2) by decide +kernel) rfl rfl,
  fun _ _ _ _ _ _ _ _ => r_cS [_, _, _] rfl (show zdec 295 47 = some (.invokestatic 45, 3) by decide +kernel) (show zst.lookup (295 * zKEY + 45) = some (0, 211, 3, 0) by decide +kernel) (by decide) rfl,
  fun _ _ _ _ _ _ => r_ifeq (show zdec 295 50 = some (.ifCond .eq 42, 3) by decide +kernel) rfl rfl,
  fun _ _ _ _ _ => r_aload_nr (show zdec 295 53 = some (.aload_n 0, 1) by decide +kernel) rfl rfl,
  fun _ _ _ _ _ _ => r_getfield (show zdec 295 54 = some (.getfield 33, 3) by decide +kernel) (show zft.lookup (295 * zKEY + 33) = some (12, 14) by decide +kernel) rfl,
  fun _ _ _ _ _ => r_iload_n (show zdec 295 57 = some (.iload_n 1, 1) by decide +kernel) rfl rfl,
  fun _ _ _ _ _ => r_bipush (show zdec 295 58 = some (.bipush 10, 2) by decide +kernel) rfl rfl,
  fun _ _ _ _ _ => r_aload_nr (show zdec 295 60 = some (.aload_n 0, 1) by decide +kernel) rfl rfl,
  fun _ _ _ _ _ _ => r_getfield (show zdec 295 61 = some (.getfield 33, 3) by decide +kernel) (show zft.lookup (295 * zKEY + 33) = some (12, 14) by decide +kernel) rfl,
  fun _ _ _ _ _ => r_iload_n (show zdec 295 64 = some (.iload_n 1, 1) by decide +kernel) rfl rfl,
  fun _ _ _ _ _ _ _ => r_iald (show zdec 295 65 = some (.iaload, 1) by decide +kernel) rfl,
  fun _ _ _ _ _ _ _ => r_imul (show zdec 295 66 = some (.imul, 1) by decide +kernel) rfl,
  fun _ _ _ _ _ => r_aload_nr (show zdec 295 67 = some (.aload_n 0, 1) by decide +kernel) rfl rfl,
  fun _ _ _ _ _ _ => r_cV [] rfl (show zdec 295 68 = some (.invokevirtual 296, 3) by decide +kernel) (show zst.lookup (295 * zKEY + 296) = some (1, 292, 0, 12) by decide +kernel) (by decide) rfl,
  fun _ _ _ _ _ _ _ => r_iadd (show zdec 295 71 = some (.iadd, 1) by decide +kernel) rfl,
  fun _ _ _ _ _ => r_bipush (show zdec 295 72 = some (.bipush 48, 2) by decide +kernel) rfl rfl,
  fun _ _ _ _ _ _ _ => r_isub (show zdec 295 74 = some (.isub, 1) by decide +kernel) rfl,
  fun _ _ _ _ _ _ _ _ => r_iast (show zdec 295 75 = some (.iastore, 1) by decide +kernel) rfl,
  fun _ _ _ _ _ => r_aload_nr (show zdec 295 76 = some (.aload_n 0, 1) by decide +kernel) rfl rfl,
  fun _ _ _ _ _ _ => r_dup (show zdec 295 77 = some (.dup, 1) by decide +kernel) rfl,
  fun _ _ _ _ _ _ => r_getfield (show zdec 295 78 = some (.getfield 266, 3) by decide +kernel) (show zft.lookup (295 * zKEY + 266) = some (12, 12) by decide +kernel) rfl,
  fun _ _ _ _ _ => r_iconst (show zdec 295 81 = some (.iconst 1, 1) by decide +kernel) rfl rfl,
  fun _ _ _ _ _ _ _ => r_iadd (show zdec 295 82 = some (.iadd, 1) by decide +kernel) rfl,
  fun _ _ _ _ _ _ _ => r_putfield (show zdec 295 83 = some (.putfield 266, 3) by decide +kernel) (show zft.lookup (295 * zKEY + 266) = some (12, 12) by decide +kernel) (by decide +kernel) rfl,
  fun _ _ _ _ _ => r_iinc (show zdec 295 86 = some (.iinc 2 1, 3) by decide +kernel) rfl rfl rfl (Nat.le_of_ble_eq_true rfl) rfl rfl,
  fun _ _ _ _ _ => r_goto (show zdec 295 89 = some (.goto (-55), 3) by decide +kernel) rfl,
  fun _ _ _ _ _ => r_aload_nr (show zdec 295 92 = some (.aload_n 0, 1) by decide +kernel) rfl rfl,
  fun _ _ _ _ _ => r_iload_n (show zdec 295 93 = some (.iload_n 2, 1) by decide +kernel) rfl rfl,
  fun _ _ _ _ _ _ => r_ifne (show zdec 295 94 = some (.ifCond .ne 7, 3) by decide +kernel) rfl rfl,
  fun _ _ _ _ _ => r_iconst (show zdec 295 97 = some (.iconst 1, 1) by decide +kernel) rfl rfl,
  fun _ _ _ _ _ => r_goto (show zdec 295 98 = some (.goto 4, 3) by decide +kernel) rfl,
  fun _ _ _ _ _ => r_iconst (show zdec 295 101 = some (.iconst 0, 1) by decide +kernel) rfl rfl,
  fun _ _ _ _ _ _ _ => r_putfield (show zdec 295 102 = some (.putfield 299, 3) by decide +kernel) (show zft.lookup (295 * zKEY + 299) = some (12, 13) by decide +kernel) (by decide +kernel) rfl,
  fun _ _ _ _ => r_vret (show zdec 295 105 = some (.return_, 1) by decide +kernel) (by decide +kernel)⟩
theorem zl_295_34 : ∀ (l0 l1 : Value) (x : Int32) (S : List Value) (h : zH), rn 295 34 [l0, l1, .int x] S h = rn 295 35 [l0, l1, .int x] (.int x :: S) h := fun _ _ _ _ _ => r_iload_n (show zdec 295 34 = some (.iload_n 2, 1) by decide +kernel) rfl rfl
theorem ze_295 : ∀ (a0 : Nat) (a1 : Int32) (h : zH), ev 295 [.ref a0, .int a1] h = rn 295 0 [.ref a0, .int a1, .float 0] [] h := fun _ _ _ => if_pos (Nat.le_of_ble_eq_true rfl)
-- PayrollRunModel.perform(I)I
theorem zr_296 : (∀ (l1 l2 l3 l4 : Value) (x : Nat) (S : List Value) (h : zH), rn 296 0 [.ref x, l1, l2, l3, l4] S h = rn 296 1 [.ref x, l1, l2, l3, l4] (.ref x :: S) h) ∧
  (∀ (l0 l1 l2 l3 l4 : Value) (a : Nat) (S : List Value) (h : zH), rn 296 1 [l0, l1, l2, l3, l4] (.ref a :: S) h = zgf h a 12 14 fun v => rn 296 4 [l0, l1, l2, l3, l4] (v :: S) h) ∧
  (∀ (l0 l1 l2 l3 l4 : Value) (S : List Value) (h : zH), rn 296 4 [l0, l1, l2, l3, l4] S h = rn 296 5 [l0, l1, l2, l3, l4] (.int (nI 0) :: S) h) ∧
  (∀ (l0 l1 l2 l3 l4 : Value) (a : Nat) (j : Int32) (S : List Value) (h : zH), rn 296 5 [l0, l1, l2, l3, l4] (.int j :: .ref a :: S) h = zli h a 0 j fun x => rn 296 6 [l0, l1, l2, l3, l4] (.int x :: S) h) ∧
  (∀ (l0 l1 l2 l3 l4 : Value) (x : Int32) (S : List Value) (h : zH), rn 296 6 [l0, l1, l2, l3, l4] (.int x :: S) h = nl l1 (rn 296 7 [l0, l1, .int x, l3, l4] S h)) ∧
  (∀ (l1 l2 l3 l4 : Value) (x : Nat) (S : List Value) (h : zH), rn 296 7 [.ref x, l1, l2, l3, l4] S h = rn 296 8 [.ref x, l1, l2, l3, l4] (.ref x :: S) h) ∧
  (∀ (l0 l1 l2 l3 l4 : Value) (a : Nat) (S : List Value) (h : zH), rn 296 8 [l0, l1, l2, l3, l4] (.ref a :: S) h = zgf h a 12 14 fun v => rn 296 11 [l0, l1, l2, l3, l4] (v :: S) h) ∧
  (∀ (l0 l1 l2 l3 l4 : Value) (S : List Value) (h : zH), rn 296 11 [l0, l1, l2, l3, l4] S h = rn 296 12 [l0, l1, l2, l3, l4] (.int (nI 1) :: S) h) ∧
  (∀ (l0 l1 l2 l3 l4 : Value) (a : Nat) (j : Int32) (S : List Value) (h : zH), rn 296 12 [l0, l1, l2, l3, l4] (.int j :: .ref a :: S) h = zli h a 0 j fun x => rn 296 13 [l0, l1, l2, l3, l4] (.int x :: S) h) ∧
  (∀ (l0 l1 l2 l3 l4 : Value) (x : Int32) (S : List Value) (h : zH), rn 296 13 [l0, l1, l2, l3, l4] (.int x :: S) h = nl l2 (rn 296 14 [l0, l1, l2, .int x, l4] S h)) ∧
  (∀ (l1 l2 l3 l4 : Value) (x : Nat) (S : List Value) (h : zH), rn 296 14 [.ref x, l1, l2, l3, l4] S h = rn 296 15 [.ref x, l1, l2, l3, l4] (.ref x :: S) h) ∧
  (∀ (l0 l1 l2 l3 l4 : Value) (a : Nat) (S : List Value) (h : zH), rn 296 15 [l0, l1, l2, l3, l4] (.ref a :: S) h = zgf h a 12 14 fun v => rn 296 18 [l0, l1, l2, l3, l4] (v :: S) h) ∧
  (∀ (l0 l1 l2 l3 l4 : Value) (S : List Value) (h : zH), rn 296 18 [l0, l1, l2, l3, l4] S h = rn 296 19 [l0, l1, l2, l3, l4] (.int (nI 2) :: S) h) ∧
  (∀ (l0 l1 l2 l3 l4 : Value) (a : Nat) (j : Int32) (S : List Value) (h : zH), rn 296 19 [l0, l1, l2, l3, l4] (.int j :: .ref a :: S) h = zli h a 0 j fun x => rn 296 20 [l0, l1, l2, l3, l4] (.int x :: S) h) ∧
  (∀ (l0 l1 l2 l3 l4 : Value) (x : Int32) (S : List Value) (h : zH), rn 296 20 [l0, l1, l2, l3, l4] (.int x :: S) h = nl l3 (rn 296 22 [l0, l1, l2, l3, .int x] S h)) ∧
  (∀ (l0 l2 l3 l4 : Value) (x : Int32) (S : List Value) (h : zH), rn 296 22 [l0, .int x, l2, l3, l4] S h = rn 296 23 [l0, .int x, l2, l3, l4] (.int x :: S) h) ∧
  (∀ (l0 l1 l2 l3 l4 : Value) (x : Int32) (S : List Value) (h : zH), rn 296 23 [l0, l1, l2, l3, l4] (.int x :: S) h = if x = nI 0 then rn 296 80 [l0, l1, l2, l3, l4] S h else if x = nI 1 then rn 296 89 [l0, l1, l2, l3, l4] S h else if x = nI 2 then rn 296 98 [l0, l1, l2, l3, l4] S h else if x = nI 3 then rn 296 107 [l0, l1, l2, l3, l4] S h else if x = nI 4 then rn 296 116 [l0, l1, l2, l3, l4] S h else if x = nI 5 then rn 296 125 [l0, l1, l2, l3, l4] S h else if x = nI 6 then rn 296 134 [l0, l1, l2, l3, l4] S h else if x = nI 7 then rn 296 141 [l0, l1, l2, l3, l4] S h else if x = nI 8 then rn 296 148 [l0, l1, l2, l3, l4] S h else if x = nI 9 then rn 296 155 [l0, l1, l2, l3, l4] S h else if x = nI 10 then rn 296 162 [l0, l1, l2, l3, l4] S h else rn 296 169 [l0, l1, l2, l3, l4] S h) ∧
  (∀ (l1 l2 l3 l4 : Value) (x : Nat) (S : List Value) (h : zH), rn 296 80 [.ref x, l1, l2, l3, l4] S h = rn 296 81 [.ref x, l1, l2, l3, l4] (.ref x :: S) h) ∧
  (∀ (l0 l1 l3 l4 : Value) (x : Int32) (S : List Value) (h : zH), rn 296 81 [l0, l1, .int x, l3, l4] S h = rn 296 82 [l0, l1, .int x, l3, l4] (.int x :: S) h) ∧
  (∀ (l0 l1 l2 l4 : Value) (x : Int32) (S : List Value) (h : zH), rn 296 82 [l0, l1, l2, .int x, l4] S h = rn 296 83 [l0, l1, l2, .int x, l4] (.int x :: S) h) ∧
  (∀ (l0 l1 l2 l3 : Value) (x : Int32) (S : List Value) (h : zH), rn 296 83 [l0, l1, l2, l3, .int x] S h = rn 296 85 [l0, l1, l2, l3, .int x] (.int x :: S) h) ∧
  (∀ (l0 l1 l2 l3 l4 : Value) (o : Nat) (v0 : Value) (v1 : Value) (v2 : Value) (S : List Value) (h : zH), rn 296 85 [l0, l1, l2, l3, l4] (v2 :: v1 :: v0 :: .ref o :: S) h = if zkd h o = 12 ∧ zsum S ≤ 8 then zcall (ev 209 [.ref o, v0, v1, v2] h) (fun v h => rn 296 88 [l0, l1, l2, l3, l4] (zpush v S) h) else none) ∧
  (∀ (l0 l1 l2 l3 l4 : Value) (x : Int32) (h : zH), rn 296 88 [l0, l1, l2, l3, l4] [.int x] h = some (some (.int x), h)) ∧
  (∀ (l1 l2 l3 l4 : Value) (x : Nat) (S : List Value) (h : zH), rn 296 89 [.ref x, l1, l2, l3, l4] S h = rn 296 90 [.ref x, l1, l2, l3, l4] (.ref x :: S) h) ∧
  (∀ (l0 l1 l3 l4 : Value) (x : Int32) (S : List Value) (h : zH), rn 296 90 [l0, l1, .int x, l3, l4] S h = rn 296 91 [l0, l1, .int x, l3, l4] (.int x :: S) h) ∧
  (∀ (l0 l1 l2 l4 : Value) (x : Int32) (S : List Value) (h : zH), rn 296 91 [l0, l1, l2, .int x, l4] S h = rn 296 92 [l0, l1, l2, .int x, l4] (.int x :: S) h) ∧
  (∀ (l0 l1 l2 l3 : Value) (x : Int32) (S : List Value) (h : zH), rn 296 92 [l0, l1, l2, l3, .int x] S h = rn 296 94 [l0, l1, l2, l3, .int x] (.int x :: S) h) ∧
  (∀ (l0 l1 l2 l3 l4 : Value) (o : Nat) (v0 : Value) (v1 : Value) (v2 : Value) (S : List Value) (h : zH), rn 296 94 [l0, l1, l2, l3, l4] (v2 :: v1 :: v0 :: .ref o :: S) h = if zkd h o = 12 ∧ zsum S ≤ 8 then zcall (ev 216 [.ref o, v0, v1, v2] h) (fun v h => rn 296 97 [l0, l1, l2, l3, l4] (zpush v S) h) else none) ∧
  (∀ (l0 l1 l2 l3 l4 : Value) (x : Int32) (h : zH), rn 296 97 [l0, l1, l2, l3, l4] [.int x] h = some (some (.int x), h)) ∧
  (∀ (l1 l2 l3 l4 : Value) (x : Nat) (S : List Value) (h : zH), rn 296 98 [.ref x, l1, l2, l3, l4] S h = rn 296 99 [.ref x, l1, l2, l3, l4] (.ref x :: S) h) ∧
  (∀ (l0 l1 l3 l4 : Value) (x : Int32) (S : List Value) (h : zH), rn 296 99 [l0, l1, .int x, l3, l4] S h = rn 296 100 [l0, l1, .int x, l3, l4] (.int x :: S) h) ∧
  (∀ (l0 l1 l2 l4 : Value) (x : Int32) (S : List Value) (h : zH), rn 296 100 [l0, l1, l2, .int x, l4] S h = rn 296 101 [l0, l1, l2, .int x, l4] (.int x :: S) h) ∧
  (∀ (l0 l1 l2 l3 : Value) (x : Int32) (S : List Value) (h : zH), rn 296 101 [l0, l1, l2, l3, .int x] S h = rn 296 103 [l0, l1, l2, l3, .int x] (.int x :: S) h) ∧
  (∀ (l0 l1 l2 l3 l4 : Value) (o : Nat) (v0 : Value) (v1 : Value) (v2 : Value) (S : List Value) (h : zH), rn 296 103 [l0, l1, l2, l3, l4] (v2 :: v1 :: v0 :: .ref o :: S) h = if zkd h o = 12 ∧ zsum S ≤ 8 then zcall (ev 217 [.ref o, v0, v1, v2] h) (fun v h => rn 296 106 [l0, l1, l2, l3, l4] (zpush v S) h) else none) ∧
  (∀ (l0 l1 l2 l3 l4 : Value) (x : Int32) (h : zH), rn 296 106 [l0, l1, l2, l3, l4] [.int x] h = some (some (.int x), h)) ∧
  (∀ (l1 l2 l3 l4 : Value) (x : Nat) (S : List Value) (h : zH), rn 296 107 [.ref x, l1, l2, l3, l4] S h = rn 296 108 [.ref x, l1, l2, l3, l4] (.ref x :: S) h) ∧
  (∀ (l0 l1 l3 l4 : Value) (x : Int32) (S : List Value) (h : zH), rn 296 108 [l0, l1, .int x, l3, l4] S h = rn 296 109 [l0, l1, .int x, l3, l4] (.int x :: S) h) ∧
  (∀ (l0 l1 l2 l4 : Value) (x : Int32) (S : List Value) (h : zH), rn 296 109 [l0, l1, l2, .int x, l4] S h = rn 296 110 [l0, l1, l2, .int x, l4] (.int x :: S) h) ∧
  (∀ (l0 l1 l2 l3 : Value) (x : Int32) (S : List Value) (h : zH), rn 296 110 [l0, l1, l2, l3, .int x] S h = rn 296 112 [l0, l1, l2, l3, .int x] (.int x :: S) h) ∧
  (∀ (l0 l1 l2 l3 l4 : Value) (o : Nat) (v0 : Value) (v1 : Value) (v2 : Value) (S : List Value) (h : zH), rn 296 112 [l0, l1, l2, l3, l4] (v2 :: v1 :: v0 :: .ref o :: S) h = if zkd h o = 12 ∧ zsum S ≤ 8 then zcall (ev 224 [.ref o, v0, v1, v2] h) (fun v h => rn 296 115 [l0, l1, l2, l3, l4] (zpush v S) h) else none) ∧
  (∀ (l0 l1 l2 l3 l4 : Value) (x : Int32) (h : zH), rn 296 115 [l0, l1, l2, l3, l4] [.int x] h = some (some (.int x), h)) ∧
  (∀ (l1 l2 l3 l4 : Value) (x : Nat) (S : List Value) (h : zH), rn 296 116 [.ref x, l1, l2, l3, l4] S h = rn 296 117 [.ref x, l1, l2, l3, l4] (.ref x :: S) h) ∧
  (∀ (l0 l1 l3 l4 : Value) (x : Int32) (S : List Value) (h : zH), rn 296 117 [l0, l1, .int x, l3, l4] S h = rn 296 118 [l0, l1, .int x, l3, l4] (.int x :: S) h) ∧
  (∀ (l0 l1 l2 l4 : Value) (x : Int32) (S : List Value) (h : zH), rn 296 118 [l0, l1, l2, .int x, l4] S h = rn 296 119 [l0, l1, l2, .int x, l4] (.int x :: S) h) ∧
  (∀ (l0 l1 l2 l3 : Value) (x : Int32) (S : List Value) (h : zH), rn 296 119 [l0, l1, l2, l3, .int x] S h = rn 296 121 [l0, l1, l2, l3, .int x] (.int x :: S) h) ∧
  (∀ (l0 l1 l2 l3 l4 : Value) (o : Nat) (v0 : Value) (v1 : Value) (v2 : Value) (S : List Value) (h : zH), rn 296 121 [l0, l1, l2, l3, l4] (v2 :: v1 :: v0 :: .ref o :: S) h = if zkd h o = 12 ∧ zsum S ≤ 8 then zcall (ev 227 [.ref o, v0, v1, v2] h) (fun v h => rn 296 124 [l0, l1, l2, l3, l4] (zpush v S) h) else none) ∧
  (∀ (l0 l1 l2 l3 l4 : Value) (x : Int32) (h : zH), rn 296 124 [l0, l1, l2, l3, l4] [.int x] h = some (some (.int x), h)) ∧
  (∀ (l1 l2 l3 l4 : Value) (x : Nat) (S : List Value) (h : zH), rn 296 125 [.ref x, l1, l2, l3, l4] S h = rn 296 126 [.ref x, l1, l2, l3, l4] (.ref x :: S) h) ∧
  (∀ (l0 l1 l3 l4 : Value) (x : Int32) (S : List Value) (h : zH), rn 296 126 [l0, l1, .int x, l3, l4] S h = rn 296 127 [l0, l1, .int x, l3, l4] (.int x :: S) h) ∧
  (∀ (l0 l1 l2 l4 : Value) (x : Int32) (S : List Value) (h : zH), rn 296 127 [l0, l1, l2, .int x, l4] S h = rn 296 128 [l0, l1, l2, .int x, l4] (.int x :: S) h) ∧
  (∀ (l0 l1 l2 l3 : Value) (x : Int32) (S : List Value) (h : zH), rn 296 128 [l0, l1, l2, l3, .int x] S h = rn 296 130 [l0, l1, l2, l3, .int x] (.int x :: S) h) ∧
  (∀ (l0 l1 l2 l3 l4 : Value) (o : Nat) (v0 : Value) (v1 : Value) (v2 : Value) (S : List Value) (h : zH), rn 296 130 [l0, l1, l2, l3, l4] (v2 :: v1 :: v0 :: .ref o :: S) h = if zkd h o = 12 ∧ zsum S ≤ 8 then zcall (ev 231 [.ref o, v0, v1, v2] h) (fun v h => rn 296 133 [l0, l1, l2, l3, l4] (zpush v S) h) else none) ∧
  (∀ (l0 l1 l2 l3 l4 : Value) (x : Int32) (h : zH), rn 296 133 [l0, l1, l2, l3, l4] [.int x] h = some (some (.int x), h)) ∧
  (∀ (l1 l2 l3 l4 : Value) (x : Nat) (S : List Value) (h : zH), rn 296 134 [.ref x, l1, l2, l3, l4] S h = rn 296 135 [.ref x, l1, l2, l3, l4] (.ref x :: S) h) ∧
  (∀ (l0 l1 l3 l4 : Value) (x : Int32) (S : List Value) (h : zH), rn 296 135 [l0, l1, .int x, l3, l4] S h = rn 296 136 [l0, l1, .int x, l3, l4] (.int x :: S) h) ∧
  (∀ (l0 l1 l2 l4 : Value) (x : Int32) (S : List Value) (h : zH), rn 296 136 [l0, l1, l2, .int x, l4] S h = rn 296 137 [l0, l1, l2, .int x, l4] (.int x :: S) h) ∧
  (∀ (l0 l1 l2 l3 l4 : Value) (o : Nat) (v0 : Value) (v1 : Value) (S : List Value) (h : zH), rn 296 137 [l0, l1, l2, l3, l4] (v1 :: v0 :: .ref o :: S) h = if zkd h o = 12 ∧ zsum S ≤ 8 then zcall (ev 218 [.ref o, v0, v1] h) (fun v h => rn 296 140 [l0, l1, l2, l3, l4] (zpush v S) h) else none) ∧
  (∀ (l0 l1 l2 l3 l4 : Value) (x : Int32) (h : zH), rn 296 140 [l0, l1, l2, l3, l4] [.int x] h = some (some (.int x), h)) ∧
  (∀ (l1 l2 l3 l4 : Value) (x : Nat) (S : List Value) (h : zH), rn 296 141 [.ref x, l1, l2, l3, l4] S h = rn 296 142 [.ref x, l1, l2, l3, l4] (.ref x :: S) h) ∧
  (∀ (l0 l1 l3 l4 : Value) (x : Int32) (S : List Value) (h : zH), rn 296 142 [l0, l1, .int x, l3, l4] S h = rn 296 143 [l0, l1, .int x, l3, l4] (.int x :: S) h) ∧
  (∀ (l0 l1 l2 l4 : Value) (x : Int32) (S : List Value) (h : zH), rn 296 143 [l0, l1, l2, .int x, l4] S h = rn 296 144 [l0, l1, l2, .int x, l4] (.int x :: S) h) ∧
  (∀ (l0 l1 l2 l3 l4 : Value) (o : Nat) (v0 : Value) (v1 : Value) (S : List Value) (h : zH), rn 296 144 [l0, l1, l2, l3, l4] (v1 :: v0 :: .ref o :: S) h = if zkd h o = 12 ∧ zsum S ≤ 8 then zcall (ev 219 [.ref o, v0, v1] h) (fun v h => rn 296 147 [l0, l1, l2, l3, l4] (zpush v S) h) else none) ∧
  (∀ (l0 l1 l2 l3 l4 : Value) (x : Int32) (h : zH), rn 296 147 [l0, l1, l2, l3, l4] [.int x] h = some (some (.int x), h)) ∧
  (∀ (l1 l2 l3 l4 : Value) (x : Nat) (S : List Value) (h : zH), rn 296 148 [.ref x, l1, l2, l3, l4] S h = rn 296 149 [.ref x, l1, l2, l3, l4] (.ref x :: S) h) ∧
  (∀ (l0 l1 l3 l4 : Value) (x : Int32) (S : List Value) (h : zH), rn 296 149 [l0, l1, .int x, l3, l4] S h = rn 296 150 [l0, l1, .int x, l3, l4] (.int x :: S) h) ∧
  (∀ (l0 l1 l2 l4 : Value) (x : Int32) (S : List Value) (h : zH), rn 296 150 [l0, l1, l2, .int x, l4] S h = rn 296 151 [l0, l1, l2, .int x, l4] (.int x :: S) h) ∧
  (∀ (l0 l1 l2 l3 l4 : Value) (o : Nat) (v0 : Value) (v1 : Value) (S : List Value) (h : zH), rn 296 151 [l0, l1, l2, l3, l4] (v1 :: v0 :: .ref o :: S) h = if zkd h o = 12 ∧ zsum S ≤ 8 then zcall (ev 221 [.ref o, v0, v1] h) (fun v h => rn 296 154 [l0, l1, l2, l3, l4] (zpush v S) h) else none) ∧
  (∀ (l0 l1 l2 l3 l4 : Value) (x : Int32) (h : zH), rn 296 154 [l0, l1, l2, l3, l4] [.int x] h = some (some (.int x), h)) ∧
  (∀ (l1 l2 l3 l4 : Value) (x : Nat) (S : List Value) (h : zH), rn 296 155 [.ref x, l1, l2, l3, l4] S h = rn 296 156 [.ref x, l1, l2, l3, l4] (.ref x :: S) h) ∧
  (∀ (l0 l1 l3 l4 : Value) (x : Int32) (S : List Value) (h : zH), rn 296 156 [l0, l1, .int x, l3, l4] S h = rn 296 157 [l0, l1, .int x, l3, l4] (.int x :: S) h) ∧
  (∀ (l0 l1 l2 l4 : Value) (x : Int32) (S : List Value) (h : zH), rn 296 157 [l0, l1, l2, .int x, l4] S h = rn 296 158 [l0, l1, l2, .int x, l4] (.int x :: S) h) ∧
  (∀ (l0 l1 l2 l3 l4 : Value) (o : Nat) (v0 : Value) (v1 : Value) (S : List Value) (h : zH), rn 296 158 [l0, l1, l2, l3, l4] (v1 :: v0 :: .ref o :: S) h = if zkd h o = 12 ∧ zsum S ≤ 8 then zcall (ev 222 [.ref o, v0, v1] h) (fun v h => rn 296 161 [l0, l1, l2, l3, l4] (zpush v S) h) else none) ∧
  (∀ (l0 l1 l2 l3 l4 : Value) (x : Int32) (h : zH), rn 296 161 [l0, l1, l2, l3, l4] [.int x] h = some (some (.int x), h)) ∧
  (∀ (l1 l2 l3 l4 : Value) (x : Nat) (S : List Value) (h : zH), rn 296 162 [.ref x, l1, l2, l3, l4] S h = rn 296 163 [.ref x, l1, l2, l3, l4] (.ref x :: S) h) ∧
  (∀ (l0 l1 l3 l4 : Value) (x : Int32) (S : List Value) (h : zH), rn 296 163 [l0, l1, .int x, l3, l4] S h = rn 296 164 [l0, l1, .int x, l3, l4] (.int x :: S) h) ∧
  (∀ (l0 l1 l2 l4 : Value) (x : Int32) (S : List Value) (h : zH), rn 296 164 [l0, l1, l2, .int x, l4] S h = rn 296 165 [l0, l1, l2, .int x, l4] (.int x :: S) h) ∧
  (∀ (l0 l1 l2 l3 l4 : Value) (o : Nat) (v0 : Value) (v1 : Value) (S : List Value) (h : zH), rn 296 165 [l0, l1, l2, l3, l4] (v1 :: v0 :: .ref o :: S) h = if zkd h o = 12 ∧ zsum S ≤ 8 then zcall (ev 228 [.ref o, v0, v1] h) (fun v h => rn 296 168 [l0, l1, l2, l3, l4] (zpush v S) h) else none) ∧
  (∀ (l0 l1 l2 l3 l4 : Value) (x : Int32) (h : zH), rn 296 168 [l0, l1, l2, l3, l4] [.int x] h = some (some (.int x), h)) ∧
  (∀ (l1 l2 l3 l4 : Value) (x : Nat) (S : List Value) (h : zH), rn 296 169 [.ref x, l1, l2, l3, l4] S h = rn 296 170 [.ref x, l1, l2, l3, l4] (.ref x :: S) h) ∧
  (∀ (l0 l1 l2 l3 l4 : Value) (o : Nat) (S : List Value) (h : zH), rn 296 170 [l0, l1, l2, l3, l4] (.ref o :: S) h = if zkd h o = 12 ∧ zsum S ≤ 8 then zcall (ev 232 [.ref o] h) (fun v h => rn 296 173 [l0, l1, l2, l3, l4] (zpush v S) h) else none) ∧
  (∀ (l0 l1 l2 l3 l4 : Value) (x : Int32) (h : zH), rn 296 173 [l0, l1, l2, l3, l4] [.int x] h = some (some (.int x), h)) := ⟨fun _ _ _ _ _ _ _ => r_aload_nr (show zdec 296 0 = some (.aload_n 0, 1) by decide +kernel) rfl rfl,
  fun _ _ _ _ _ _ _ _ => r_getfield (show zdec 296 1 = some (.getfield 33, 3) by decide +kernel) (show zft.lookup (296 * zKEY + 33) = some (12, 14) by decide +kernel) rfl,
  fun _ _ _ _ _ _ _ => r_iconst (show zdec 296 4 = some (.iconst 0, 1) by decide +kernel) rfl rfl,
  fun _ _ _ _ _ _ _ _ _ => r_iald (show zdec 296 5 = some (.iaload, 1) by decide +kernel) rfl,
  fun _ _ _ _ _ _ _ _ => r_istore_n (show zdec 296 6 = some (.istore_n 2, 1) by decide +kernel) rfl rfl (Nat.le_of_ble_eq_true rfl) rfl rfl,
  fun _ _ _ _ _ _ _ => r_aload_nr (show zdec 296 7 = some (.aload_n 0, 1) by decide +kernel) rfl rfl,
  fun _ _ _ _ _ _ _ _ => r_getfield (show zdec 296 8 = some (.getfield 33, 3) by decide +kernel) (show zft.lookup (296 * zKEY + 33) = some (12, 14) by decide +kernel) rfl,
  fun _ _ _ _ _ _ _ => r_iconst (show zdec 296 11 = some (.iconst 1, 1) by decide +kernel) rfl rfl,
  fun _ _ _ _ _ _ _ _ _ => r_iald (show zdec 296 12 = some (.iaload, 1) by decide +kernel) rfl,
  fun _ _ _ _ _ _ _ _ => r_istore_n (show zdec 296 13 = some (.istore_n 3, 1) by decide +kernel) rfl rfl (Nat.le_of_ble_eq_true rfl) rfl rfl,
  fun _ _ _ _ _ _ _ => r_aload_nr (show zdec 296 14 = some (.aload_n 0, 1) by decide +kernel) rfl rfl,
  fun _ _ _ _ _ _ _ _ => r_getfield (show zdec 296 15 = some (.getfield 33, 3) by decide +kernel) (show zft.lookup (296 * zKEY + 33) = some (12, 14) by decide +kernel) rfl,
  fun _ _ _ _ _ _ _ => r_iconst (show zdec 296 18 = some (.iconst 2, 1) by decide +kernel) rfl rfl,
  fun _ _ _ _ _ _ _ _ _ => r_iald (show zdec 296 19 = some (.iaload, 1) by decide +kernel) rfl,
  fun _ _ _ _ _ _ _ _ => r_istore (show zdec 296 20 = some (.istore 4, 2) by decide +kernel) rfl (Nat.le_of_ble_eq_true rfl) rfl rfl,
  fun _ _ _ _ _ _ _ => r_iload_n (show zdec 296 22 = some (.iload_n 1, 1) by decide +kernel) rfl rfl,
  fun _ _ _ _ _ _ _ _ => (r_tsw (l := 0) (ts := [80, 89, 98, 107, 116, 125, 134, 141, 148, 155, 162]) (dt := 169) (show zdec 296 23 = some (.tableswitch 146 0 10 #[57, 66, 75, 84, 93, 102, 111, 118, 125, 132, 139], 57) by decide +kernel) (by decide +kernel)),
  fun _ _ _ _ _ _ _ => r_aload_nr (show zdec 296 80 = some (.aload_n 0, 1) by decide +kernel) rfl rfl,
  fun _ _ _ _ _ _ _ => r_iload_n (show zdec 296 81 = some (.iload_n 2, 1) by decide +kernel) rfl rfl,
  fun _ _ _ _ _ _ _ => r_iload_n (show zdec 296 82 = some (.iload_n 3, 1) by decide +kernel) rfl rfl,
  fun _ _ _ _ _ _ _ => r_iload (show zdec 296 83 = some (.iload 4, 2) by decide +kernel) rfl rfl,
  fun _ _ _ _ _ _ _ _ _ _ _ => r_cV [_, _, _] rfl (show zdec 296 85 = some (.invokevirtual 302, 3) by decide +kernel) (show zst.lookup (296 * zKEY + 302) = some (1, 209, 3, 12) by decide +kernel) (by decide) rfl,
  fun _ _ _ _ _ _ _ => r_ireti (show zdec 296 88 = some (.ireturn, 1) by decide +kernel) (by decide +kernel),
  fun _ _ _ _ _ _ _ => r_aload_nr (show zdec 296 89 = some (.aload_n 0, 1) by decide +kernel) rfl rfl,
  fun _ _ _ _ _ _ _ => r_iload_n (show zdec 296 90 = some (.iload_n 2, 1) by decide +kernel) rfl rfl,
  fun _ _ _ _ _ _ _ => r_iload_n (show zdec 296 91 = some (.iload_n 3, 1) by decide +kernel) rfl rfl,
  fun _ _ _ _ _ _ _ => r_iload (show zdec 296 92 = some (.iload 4, 2) by decide +kernel) rfl rfl,
  fun _ _ _ _ _ _ _ _ _ _ _ => r_cV [_, _, _] rfl (show zdec 296 94 = some (.invokevirtual 304, 3) by decide +kernel) (show zst.lookup (296 * zKEY + 304) = some (1, 216, 3, 12) by decide +kernel) (by decide) rfl,
  fun _ _ _ _ _ _ _ => r_ireti (show zdec 296 97 = some (.ireturn, 1) by decide +kernel) (by decide +kernel),
  fun _ _ _ _ _ _ _ => r_aload_nr (show zdec 296 98 = some (.aload_n 0, 1) by decide +kernel) rfl rfl,
  fun _ _ _ _ _ _ _ => r_iload_n (show zdec 296 99 = some (.iload_n 2, 1) by decide +kernel) rfl rfl,
  fun _ _ _ _ _ _ _ => r_iload_n (show zdec 296 100 = some (.iload_n 3, 1) by decide +kernel) rfl rfl,
  fun _ _ _ _ _ _ _ => r_iload (show zdec 296 101 = some (.iload 4, 2) by decide +kernel) rfl rfl,
  fun _ _ _ _ _ _ _ _ _ _ _ => r_cV [_, _, _] rfl (show zdec 296 103 = some (.invokevirtual 306, 3) by decide +kernel) (show zst.lookup (296 * zKEY + 306) = some (1, 217, 3, 12) by decide +kernel) (by decide) rfl,
  fun _ _ _ _ _ _ _ => r_ireti (show zdec 296 106 = some (.ireturn, 1) by decide +kernel) (by decide +kernel),
  fun _ _ _ _ _ _ _ => r_aload_nr (show zdec 296 107 = some (.aload_n 0, 1) by decide +kernel) rfl rfl,
  fun _ _ _ _ _ _ _ => r_iload_n (show zdec 296 108 = some (.iload_n 2, 1) by decide +kernel) rfl rfl,
  fun _ _ _ _ _ _ _ => r_iload_n (show zdec 296 109 = some (.iload_n 3, 1) by decide +kernel) rfl rfl,
  fun _ _ _ _ _ _ _ => r_iload (show zdec 296 110 = some (.iload 4, 2) by decide +kernel) rfl rfl,
  fun _ _ _ _ _ _ _ _ _ _ _ => r_cV [_, _, _] rfl (show zdec 296 112 = some (.invokevirtual 308, 3) by decide +kernel) (show zst.lookup (296 * zKEY + 308) = some (1, 224, 3, 12) by decide +kernel) (by decide) rfl,
  fun _ _ _ _ _ _ _ => r_ireti (show zdec 296 115 = some (.ireturn, 1) by decide +kernel) (by decide +kernel),
  fun _ _ _ _ _ _ _ => r_aload_nr (show zdec 296 116 = some (.aload_n 0, 1) by decide +kernel) rfl rfl,
  fun _ _ _ _ _ _ _ => r_iload_n (show zdec 296 117 = some (.iload_n 2, 1) by decide +kernel) rfl rfl,
  fun _ _ _ _ _ _ _ => r_iload_n (show zdec 296 118 = some (.iload_n 3, 1) by decide +kernel) rfl rfl,
  fun _ _ _ _ _ _ _ => r_iload (show zdec 296 119 = some (.iload 4, 2) by decide +kernel) rfl rfl,
  fun _ _ _ _ _ _ _ _ _ _ _ => r_cV [_, _, _] rfl (show zdec 296 121 = some (.invokevirtual 310, 3) by decide +kernel) (show zst.lookup (296 * zKEY + 310) = some (1, 227, 3, 12) by decide +kernel) (by decide) rfl,
  fun _ _ _ _ _ _ _ => r_ireti (show zdec 296 124 = some (.ireturn, 1) by decide +kernel) (by decide +kernel),
  fun _ _ _ _ _ _ _ => r_aload_nr (show zdec 296 125 = some (.aload_n 0, 1) by decide +kernel) rfl rfl,
  fun _ _ _ _ _ _ _ => r_iload_n (show zdec 296 126 = some (.iload_n 2, 1) by decide +kernel) rfl rfl,
  fun _ _ _ _ _ _ _ => r_iload_n (show zdec 296 127 = some (.iload_n 3, 1) by decide +kernel) rfl rfl,
  fun _ _ _ _ _ _ _ => r_iload (show zdec 296 128 = some (.iload 4, 2) by decide +kernel) rfl rfl,
  fun _ _ _ _ _ _ _ _ _ _ _ => r_cV [_, _, _] rfl (show zdec 296 130 = some (.invokevirtual 312, 3) by decide +kernel) (show zst.lookup (296 * zKEY + 312) = some (1, 231, 3, 12) by decide +kernel) (by decide) rfl,
  fun _ _ _ _ _ _ _ => r_ireti (show zdec 296 133 = some (.ireturn, 1) by decide +kernel) (by decide +kernel),
  fun _ _ _ _ _ _ _ => r_aload_nr (show zdec 296 134 = some (.aload_n 0, 1) by decide +kernel) rfl rfl,
  fun _ _ _ _ _ _ _ => r_iload_n (show zdec 296 135 = some (.iload_n 2, 1) by decide +kernel) rfl rfl,
  fun _ _ _ _ _ _ _ => r_iload_n (show zdec 296 136 = some (.iload_n 3, 1) by decide +kernel) rfl rfl,
  fun _ _ _ _ _ _ _ _ _ _ => r_cV [_, _] rfl (show zdec 296 137 = some (.invokevirtual 315, 3) by decide +kernel) (show zst.lookup (296 * zKEY + 315) = some (1, 218, 2, 12) by decide +kernel) (by decide) rfl,
  fun _ _ _ _ _ _ _ => r_ireti (show zdec 296 140 = some (.ireturn, 1) by decide +kernel) (by decide +kernel),
  fun _ _ _ _ _ _ _ => r_aload_nr (show zdec 296 141 = some (.aload_n 0, 1) by decide +kernel) rfl rfl,
  fun _ _ _ _ _ _ _ => r_iload_n (show zdec 296 142 = some (.iload_n 2, 1) by decide +kernel) rfl rfl,
  fun _ _ _ _ _ _ _ => r_iload_n (show zdec 296 143 = some (.iload_n 3, 1) by decide +kernel) rfl rfl,
  fun _ _ _ _ _ _ _ _ _ _ => r_cV [_, _] rfl (show zdec 296 144 = some (.invokevirtual 318, 3) by decide +kernel) (show zst.lookup (296 * zKEY + 318) = some (1, 219, 2, 12) by decide +kernel) (by decide) rfl,
  fun _ _ _ _ _ _ _ => r_ireti (show zdec 296 147 = some (.ireturn, 1) by decide +kernel) (by decide +kernel),
  fun _ _ _ _ _ _ _ => r_aload_nr (show zdec 296 148 = some (.aload_n 0, 1) by decide +kernel) rfl rfl,
  fun _ _ _ _ _ _ _ => r_iload_n (show zdec 296 149 = some (.iload_n 2, 1) by decide +kernel) rfl rfl,
  fun _ _ _ _ _ _ _ => r_iload_n (show zdec 296 150 = some (.iload_n 3, 1) by decide +kernel) rfl rfl,
  fun _ _ _ _ _ _ _ _ _ _ => r_cV [_, _] rfl (show zdec 296 151 = some (.invokevirtual 321, 3) by decide +kernel) (show zst.lookup (296 * zKEY + 321) = some (1, 221, 2, 12) by decide +kernel) (by decide) rfl,
  fun _ _ _ _ _ _ _ => r_ireti (show zdec 296 154 = some (.ireturn, 1) by decide +kernel) (by decide +kernel),
  fun _ _ _ _ _ _ _ => r_aload_nr (show zdec 296 155 = some (.aload_n 0, 1) by decide +kernel) rfl rfl,
  fun _ _ _ _ _ _ _ => r_iload_n (show zdec 296 156 = some (.iload_n 2, 1) by decide +kernel) rfl rfl,
  fun _ _ _ _ _ _ _ => r_iload_n (show zdec 296 157 = some (.iload_n 3, 1) by decide +kernel) rfl rfl,
  fun _ _ _ _ _ _ _ _ _ _ => r_cV [_, _] rfl (show zdec 296 158 = some (.invokevirtual 324, 3) by decide +kernel) (show zst.lookup (296 * zKEY + 324) = some (1, 222, 2, 12) by decide +kernel) (by decide) rfl,
  fun _ _ _ _ _ _ _ => r_ireti (show zdec 296 161 = some (.ireturn, 1) by decide +kernel) (by decide +kernel),
  fun _ _ _ _ _ _ _ => r_aload_nr (show zdec 296 162 = some (.aload_n 0, 1) by decide +kernel) rfl rfl,
  fun _ _ _ _ _ _ _ => r_iload_n (show zdec 296 163 = some (.iload_n 2, 1) by decide +kernel) rfl rfl,
  fun _ _ _ _ _ _ _ => r_iload_n (show zdec 296 164 = some (.iload_n 3, 1) by decide +kernel) rfl rfl,
  fun _ _ _ _ _ _ _ _ _ _ => r_cV [_, _] rfl (show zdec 296 165 = some (.invokevirtual 326, 3) by decide +kernel) (show zst.lookup (296 * zKEY + 326) = some (1, 228, 2, 12) by decide +kernel) (by decide) rfl,
  fun _ _ _ _ _ _ _ => r_ireti (show zdec 296 168 = some (.ireturn, 1) by decide +kernel) (by decide +kernel),
  fun _ _ _ _ _ _ _ => r_aload_nr (show zdec 296 169 = some (.aload_n 0, 1) by decide +kernel) rfl rfl,
  fun _ _ _ _ _ _ _ _ => r_cV [] rfl (show zdec 296 170 = some (.invokevirtual 329, 3) by decide +kernel) (show zst.lookup (296 * zKEY + 329) = some (1, 232, 0, 12) by decide +kernel) (by decide) rfl,
  fun _ _ _ _ _ _ _ => r_ireti (show zdec 296 173 = some (.ireturn, 1) by decide +kernel) (by decide +kernel)⟩
theorem ze_296 : ∀ (a0 : Nat) (a1 : Int32) (h : zH), ev 296 [.ref a0, .int a1] h = rn 296 0 [.ref a0, .int a1, .float 0, .float 0, .float 0] [] h := fun _ _ _ => if_pos (Nat.le_of_ble_eq_true rfl)
-- PayrollRunModel.save()I
theorem zr_297 : (∀ (x : Nat) (S : List Value) (h : zH), rn 297 0 [.ref x] S h = rn 297 1 [.ref x] (.ref x :: S) h) ∧
  (∀ (l0 : Value) (a : Nat) (S : List Value) (h : zH), rn 297 1 [l0] (.ref a :: S) h = zgf h a 12 0 fun v => rn 297 4 [l0] (v :: S) h) ∧
  (∀ (l0 : Value) (S : List Value) (h : zH), rn 297 4 [l0] S h = rn 297 5 [l0] (.int (nI 0) :: S) h) ∧
  (∀ (x : Nat) (S : List Value) (h : zH), rn 297 5 [.ref x] S h = rn 297 6 [.ref x] (.ref x :: S) h) ∧
  (∀ (l0 : Value) (a : Nat) (S : List Value) (h : zH), rn 297 6 [l0] (.ref a :: S) h = zgf h a 12 1 fun v => rn 297 9 [l0] (v :: S) h) ∧
  (∀ (l0 : Value) (S : List Value) (h : zH), rn 297 9 [l0] S h = rn 297 10 [l0] (.int (nI 0) :: S) h) ∧
  (∀ (l0 : Value) (S : List Value) (h : zH), rn 297 10 [l0] S h = rn 297 13 [l0] (.int (nI 8271) :: S) h) ∧
  (∀ (l0 : Value) (s : Nat) (d : Nat) (sp : Int32) (dp : Int32) (x : Int32) (S : List Value) (h : zH), rn 297 13 [l0] (.int x :: .int dp :: .ref d :: .int sp :: .ref s :: S) h = if zsum S ≤ 8 then zcpI h s sp d dp x (fun h => rn 297 16 [l0] S h) else none) ∧
  (∀ (x : Nat) (S : List Value) (h : zH), rn 297 16 [.ref x] S h = rn 297 17 [.ref x] (.ref x :: S) h) ∧
  (∀ (l0 : Value) (S : List Value) (h : zH), rn 297 17 [l0] S h = rn 297 18 [l0] (.int (nI 1) :: S) h) ∧
  (∀ (l0 : Value) (a : Nat) (v : Value) (S : List Value) (h : zH), rn 297 18 [l0] (v :: .ref a :: S) h = zpf h a 12 2 v fun h => rn 297 21 [l0] S h) ∧
  (∀ (x : Nat) (S : List Value) (h : zH), rn 297 21 [.ref x] S h = rn 297 22 [.ref x] (.ref x :: S) h) ∧
  (∀ (l0 : Value) (o : Nat) (S : List Value) (h : zH), rn 297 22 [l0] (.ref o :: S) h = if zkd h o = 12 ∧ zsum S ≤ 8 then zcall (ev 233 [.ref o] h) (fun v h => rn 297 25 [l0] (zpush v S) h) else none) ∧
  (∀ (l0 : Value) (x : Int32) (h : zH), rn 297 25 [l0] [.int x] h = some (some (.int x), h)) := ⟨fun _ _ _ => r_aload_nr (show zdec 297 0 = some (.aload_n 0, 1) by decide +kernel) rfl rfl,
  fun _ _ _ _ => r_getfield (show zdec 297 1 = some (.getfield 9, 3) by decide +kernel) (show zft.lookup (297 * zKEY + 9) = some (12, 0) by decide +kernel) rfl,
  fun _ _ _ => r_iconst (show zdec 297 4 = some (.iconst 0, 1) by decide +kernel) rfl rfl,
  fun _ _ _ => r_aload_nr (show zdec 297 5 = some (.aload_n 0, 1) by decide +kernel) rfl rfl,
  fun _ _ _ _ => r_getfield (show zdec 297 6 = some (.getfield 13, 3) by decide +kernel) (show zft.lookup (297 * zKEY + 13) = some (12, 1) by decide +kernel) rfl,
  fun _ _ _ => r_iconst (show zdec 297 9 = some (.iconst 0, 1) by decide +kernel) rfl rfl,
  fun _ _ _ => r_sipush (show zdec 297 10 = some (.sipush 8271, 3) by decide +kernel) rfl rfl,
  fun _ _ _ _ _ _ _ _ => r_cA (show zdec 297 13 = some (.invokestatic 62, 3) by decide +kernel) (show zst.lookup (297 * zKEY + 62) = some (8, 0, 5, 0) by decide +kernel) rfl,
  fun _ _ _ => r_aload_nr (show zdec 297 16 = some (.aload_n 0, 1) by decide +kernel) rfl rfl,
  fun _ _ _ => r_iconst (show zdec 297 17 = some (.iconst 1, 1) by decide +kernel) rfl rfl,
  fun _ _ _ _ _ => r_putfield (show zdec 297 18 = some (.putfield 345, 3) by decide +kernel) (show zft.lookup (297 * zKEY + 345) = some (12, 2) by decide +kernel) (by decide +kernel) rfl,
  fun _ _ _ => r_aload_nr (show zdec 297 21 = some (.aload_n 0, 1) by decide +kernel) rfl rfl,
  fun _ _ _ _ => r_cV [] rfl (show zdec 297 22 = some (.invokevirtual 164, 3) by decide +kernel) (show zst.lookup (297 * zKEY + 164) = some (1, 233, 0, 12) by decide +kernel) (by decide) rfl,
  fun _ _ _ => r_ireti (show zdec 297 25 = some (.ireturn, 1) by decide +kernel) (by decide +kernel)⟩
theorem ze_297 : ∀ (a0 : Nat) (h : zH), ev 297 [.ref a0] h = rn 297 0 [.ref a0] [] h := fun _ _ => if_pos (Nat.le_of_ble_eq_true rfl)
-- PayrollRunModel.restore()I
theorem zr_298 : (∀ (x : Nat) (S : List Value) (h : zH), rn 298 0 [.ref x] S h = rn 298 1 [.ref x] (.ref x :: S) h) ∧
  (∀ (l0 : Value) (a : Nat) (S : List Value) (h : zH), rn 298 1 [l0] (.ref a :: S) h = zgf h a 12 2 fun v => rn 298 4 [l0] (v :: S) h) ∧
  (∀ (l0 : Value) (x : Int32) (S : List Value) (h : zH), rn 298 4 [l0] (.int x :: S) h = if x = nI 0 then rn 298 7 [l0] S h else rn 298 10 [l0] S h) ∧
  (∀ (l0 : Value) (S : List Value) (h : zH), rn 298 7 [l0] S h = rn 298 9 [l0] (.int (-2) :: S) h) ∧
  (∀ (l0 : Value) (x : Int32) (h : zH), rn 298 9 [l0] [.int x] h = some (some (.int x), h)) ∧
  (∀ (x : Nat) (S : List Value) (h : zH), rn 298 10 [.ref x] S h = rn 298 11 [.ref x] (.ref x :: S) h) ∧
  (∀ (l0 : Value) (o : Nat) (S : List Value) (h : zH), rn 298 11 [l0] (.ref o :: S) h = if zkd h o = 12 ∧ zsum S ≤ 8 then zcall (ev 214 [.ref o] h) (fun v h => rn 298 14 [l0] (zpush v S) h) else none) ∧
  (∀ (x : Nat) (S : List Value) (h : zH), rn 298 14 [.ref x] S h = rn 298 15 [.ref x] (.ref x :: S) h) ∧
  (∀ (l0 : Value) (a : Nat) (S : List Value) (h : zH), rn 298 15 [l0] (.ref a :: S) h = zgf h a 12 1 fun v => rn 298 18 [l0] (v :: S) h) ∧
  (∀ (l0 : Value) (S : List Value) (h : zH), rn 298 18 [l0] S h = rn 298 19 [l0] (.int (nI 0) :: S) h) ∧
  (∀ (x : Nat) (S : List Value) (h : zH), rn 298 19 [.ref x] S h = rn 298 20 [.ref x] (.ref x :: S) h) ∧
  (∀ (l0 : Value) (a : Nat) (S : List Value) (h : zH), rn 298 20 [l0] (.ref a :: S) h = zgf h a 12 0 fun v => rn 298 23 [l0] (v :: S) h) ∧
  (∀ (l0 : Value) (S : List Value) (h : zH), rn 298 23 [l0] S h = rn 298 24 [l0] (.int (nI 0) :: S) h) ∧
  (∀ (l0 : Value) (S : List Value) (h : zH), rn 298 24 [l0] S h = rn 298 27 [l0] (.int (nI 8271) :: S) h) ∧
  (∀ (l0 : Value) (s : Nat) (d : Nat) (sp : Int32) (dp : Int32) (x : Int32) (S : List Value) (h : zH), rn 298 27 [l0] (.int x :: .int dp :: .ref d :: .int sp :: .ref s :: S) h = if zsum S ≤ 8 then zcpI h s sp d dp x (fun h => rn 298 30 [l0] S h) else none) ∧
  (∀ (x : Nat) (S : List Value) (h : zH), rn 298 30 [.ref x] S h = rn 298 31 [.ref x] (.ref x :: S) h) ∧
  (∀ (l0 : Value) (o : Nat) (S : List Value) (h : zH), rn 298 31 [l0] (.ref o :: S) h = if zkd h o = 12 ∧ zsum S ≤ 8 then zcall (ev 233 [.ref o] h) (fun v h => rn 298 34 [l0] (zpush v S) h) else none) ∧
  (∀ (l0 : Value) (x : Int32) (h : zH), rn 298 34 [l0] [.int x] h = some (some (.int x), h)) := ⟨fun _ _ _ => r_aload_nr (show zdec 298 0 = some (.aload_n 0, 1) by decide +kernel) rfl rfl,
  fun _ _ _ _ => r_getfield (show zdec 298 1 = some (.getfield 345, 3) by decide +kernel) (show zft.lookup (298 * zKEY + 345) = some (12, 2) by decide +kernel) rfl,
  fun _ _ _ _ => r_ifne (show zdec 298 4 = some (.ifCond .ne 6, 3) by decide +kernel) rfl rfl,
  fun _ _ _ => r_bipush (show zdec 298 7 = some (.bipush (-2), 2) by decide +kernel) rfl rfl,
  fun _ _ _ => r_ireti (show zdec 298 9 = some (.ireturn, 1) by decide +kernel) (by decide +kernel),
  fun _ _ _ => r_aload_nr (show zdec 298 10 = some (.aload_n 0, 1) by decide +kernel) rfl rfl,
  fun _ _ _ _ => r_cV [] rfl (show zdec 298 11 = some (.invokevirtual 68, 3) by decide +kernel) (show zst.lookup (298 * zKEY + 68) = some (1, 214, 0, 12) by decide +kernel) (by decide) rfl,
  fun _ _ _ => r_aload_nr (show zdec 298 14 = some (.aload_n 0, 1) by decide +kernel) rfl rfl,
  fun _ _ _ _ => r_getfield (show zdec 298 15 = some (.getfield 13, 3) by decide +kernel) (show zft.lookup (298 * zKEY + 13) = some (12, 1) by decide +kernel) rfl,
  fun _ _ _ => r_iconst (show zdec 298 18 = some (.iconst 0, 1) by decide +kernel) rfl rfl,
  fun _ _ _ => r_aload_nr (show zdec 298 19 = some (.aload_n 0, 1) by decide +kernel) rfl rfl,
  fun _ _ _ _ => r_getfield (show zdec 298 20 = some (.getfield 9, 3) by decide +kernel) (show zft.lookup (298 * zKEY + 9) = some (12, 0) by decide +kernel) rfl,
  fun _ _ _ => r_iconst (show zdec 298 23 = some (.iconst 0, 1) by decide +kernel) rfl rfl,
  fun _ _ _ => r_sipush (show zdec 298 24 = some (.sipush 8271, 3) by decide +kernel) rfl rfl,
  fun _ _ _ _ _ _ _ _ => r_cA (show zdec 298 27 = some (.invokestatic 62, 3) by decide +kernel) (show zst.lookup (298 * zKEY + 62) = some (8, 0, 5, 0) by decide +kernel) rfl,
  fun _ _ _ => r_aload_nr (show zdec 298 30 = some (.aload_n 0, 1) by decide +kernel) rfl rfl,
  fun _ _ _ _ => r_cV [] rfl (show zdec 298 31 = some (.invokevirtual 164, 3) by decide +kernel) (show zst.lookup (298 * zKEY + 164) = some (1, 233, 0, 12) by decide +kernel) (by decide) rfl,
  fun _ _ _ => r_ireti (show zdec 298 34 = some (.ireturn, 1) by decide +kernel) (by decide +kernel)⟩
theorem ze_298 : ∀ (a0 : Nat) (h : zH), ev 298 [.ref a0] h = rn 298 0 [.ref a0] [] h := fun _ _ => if_pos (Nat.le_of_ble_eq_true rfl)
-- PayrollRunModel.undo()I
theorem zr_299 : (∀ (x : Nat) (S : List Value) (h : zH), rn 299 0 [.ref x] S h = rn 299 1 [.ref x] (.ref x :: S) h) ∧
  (∀ (l0 : Value) (a : Nat) (S : List Value) (h : zH), rn 299 1 [l0] (.ref a :: S) h = zgf h a 12 4 fun v => rn 299 4 [l0] (v :: S) h) ∧
  (∀ (l0 : Value) (x : Int32) (S : List Value) (h : zH), rn 299 4 [l0] (.int x :: S) h = if x = nI 0 then rn 299 7 [l0] S h else rn 299 10 [l0] S h) ∧
  (∀ (l0 : Value) (S : List Value) (h : zH), rn 299 7 [l0] S h = rn 299 9 [l0] (.int (-2) :: S) h) ∧
  (∀ (l0 : Value) (x : Int32) (h : zH), rn 299 9 [l0] [.int x] h = some (some (.int x), h)) ∧
  (∀ (x : Nat) (S : List Value) (h : zH), rn 299 10 [.ref x] S h = rn 299 11 [.ref x] (.ref x :: S) h) ∧
  (∀ (l0 : Value) (v : Value) (S : List Value) (h : zH), rn 299 11 [l0] (v :: S) h = c1 v (rn 299 12 [l0] (v :: v :: S) h)) ∧
  (∀ (l0 : Value) (a : Nat) (S : List Value) (h : zH), rn 299 12 [l0] (.ref a :: S) h = zgf h a 12 4 fun v => rn 299 15 [l0] (v :: S) h) ∧
  (∀ (l0 : Value) (S : List Value) (h : zH), rn 299 15 [l0] S h = rn 299 16 [l0] (.int (nI 1) :: S) h) ∧
  (∀ (l0 : Value) (x : Int32) (y : Int32) (S : List Value) (h : zH), rn 299 16 [l0] (.int y :: .int x :: S) h = rn 299 17 [l0] (.int (x - y) :: S) h) ∧
  (∀ (l0 : Value) (a : Nat) (v : Value) (S : List Value) (h : zH), rn 299 17 [l0] (v :: .ref a :: S) h = zpf h a 12 4 v fun h => rn 299 20 [l0] S h) ∧
  (∀ (x : Nat) (S : List Value) (h : zH), rn 299 20 [.ref x] S h = rn 299 21 [.ref x] (.ref x :: S) h) ∧
  (∀ (l0 : Value) (a : Nat) (S : List Value) (h : zH), rn 299 21 [l0] (.ref a :: S) h = zgf h a 12 3 fun v => rn 299 24 [l0] (v :: S) h) ∧
  (∀ (l0 : Value) (S : List Value) (h : zH), rn 299 24 [l0] S h = rn 299 27 [l0] (.int (nI 8271) :: S) h) ∧
  (∀ (x : Nat) (S : List Value) (h : zH), rn 299 27 [.ref x] S h = rn 299 28 [.ref x] (.ref x :: S) h) ∧
  (∀ (l0 : Value) (a : Nat) (S : List Value) (h : zH), rn 299 28 [l0] (.ref a :: S) h = zgf h a 12 4 fun v => rn 299 31 [l0] (v :: S) h) ∧
  (∀ (l0 : Value) (x : Int32) (y : Int32) (S : List Value) (h : zH), rn 299 31 [l0] (.int y :: .int x :: S) h = rn 299 32 [l0] (.int (x * y) :: S) h) ∧
  (∀ (x : Nat) (S : List Value) (h : zH), rn 299 32 [.ref x] S h = rn 299 33 [.ref x] (.ref x :: S) h) ∧
  (∀ (l0 : Value) (a : Nat) (S : List Value) (h : zH), rn 299 33 [l0] (.ref a :: S) h = zgf h a 12 0 fun v => rn 299 36 [l0] (v :: S) h) ∧
  (∀ (l0 : Value) (S : List Value) (h : zH), rn 299 36 [l0] S h = rn 299 37 [l0] (.int (nI 0) :: S) h) ∧
  (∀ (l0 : Value) (S : List Value) (h : zH), rn 299 37 [l0] S h = rn 299 40 [l0] (.int (nI 8271) :: S) h) ∧
  (∀ (l0 : Value) (s : Nat) (d : Nat) (sp : Int32) (dp : Int32) (x : Int32) (S : List Value) (h : zH), rn 299 40 [l0] (.int x :: .int dp :: .ref d :: .int sp :: .ref s :: S) h = if zsum S ≤ 8 then zcpI h s sp d dp x (fun h => rn 299 43 [l0] S h) else none) ∧
  (∀ (x : Nat) (S : List Value) (h : zH), rn 299 43 [.ref x] S h = rn 299 44 [.ref x] (.ref x :: S) h) ∧
  (∀ (l0 : Value) (a : Nat) (S : List Value) (h : zH), rn 299 44 [l0] (.ref a :: S) h = zgf h a 12 4 fun v => rn 299 47 [l0] (v :: S) h) ∧
  (∀ (l0 : Value) (x : Int32) (h : zH), rn 299 47 [l0] [.int x] h = some (some (.int x), h)) := ⟨fun _ _ _ => r_aload_nr (show zdec 299 0 = some (.aload_n 0, 1) by decide +kernel) rfl rfl,
  fun _ _ _ _ => r_getfield (show zdec 299 1 = some (.getfield 57, 3) by decide +kernel) (show zft.lookup (299 * zKEY + 57) = some (12, 4) by decide +kernel) rfl,
  fun _ _ _ _ => r_ifne (show zdec 299 4 = some (.ifCond .ne 6, 3) by decide +kernel) rfl rfl,
  fun _ _ _ => r_bipush (show zdec 299 7 = some (.bipush (-2), 2) by decide +kernel) rfl rfl,
  fun _ _ _ => r_ireti (show zdec 299 9 = some (.ireturn, 1) by decide +kernel) (by decide +kernel),
  fun _ _ _ => r_aload_nr (show zdec 299 10 = some (.aload_n 0, 1) by decide +kernel) rfl rfl,
  fun _ _ _ _ => r_dup (show zdec 299 11 = some (.dup, 1) by decide +kernel) rfl,
  fun _ _ _ _ => r_getfield (show zdec 299 12 = some (.getfield 57, 3) by decide +kernel) (show zft.lookup (299 * zKEY + 57) = some (12, 4) by decide +kernel) rfl,
  fun _ _ _ => r_iconst (show zdec 299 15 = some (.iconst 1, 1) by decide +kernel) rfl rfl,
  fun _ _ _ _ _ => r_isub (show zdec 299 16 = some (.isub, 1) by decide +kernel) rfl,
  fun _ _ _ _ _ => r_putfield (show zdec 299 17 = some (.putfield 57, 3) by decide +kernel) (show zft.lookup (299 * zKEY + 57) = some (12, 4) by decide +kernel) (by decide +kernel) rfl,
  fun _ _ _ => r_aload_nr (show zdec 299 20 = some (.aload_n 0, 1) by decide +kernel) rfl rfl,
  fun _ _ _ _ => r_getfield (show zdec 299 21 = some (.getfield 17, 3) by decide +kernel) (show zft.lookup (299 * zKEY + 17) = some (12, 3) by decide +kernel) rfl,
  fun _ _ _ => r_sipush (show zdec 299 24 = some (.sipush 8271, 3) by decide +kernel) rfl rfl,
  fun _ _ _ => r_aload_nr (show zdec 299 27 = some (.aload_n 0, 1) by decide +kernel) rfl rfl,
  fun _ _ _ _ => r_getfield (show zdec 299 28 = some (.getfield 57, 3) by decide +kernel) (show zft.lookup (299 * zKEY + 57) = some (12, 4) by decide +kernel) rfl,
  fun _ _ _ _ _ => r_imul (show zdec 299 31 = some (.imul, 1) by decide +kernel) rfl,
  fun _ _ _ => r_aload_nr (show zdec 299 32 = some (.aload_n 0, 1) by decide +kernel) rfl rfl,
  fun _ _ _ _ => r_getfield (show zdec 299 33 = some (.getfield 9, 3) by decide +kernel) (show zft.lookup (299 * zKEY + 9) = some (12, 0) by decide +kernel) rfl,
  fun _ _ _ => r_iconst (show zdec 299 36 = some (.iconst 0, 1) by decide +kernel) rfl rfl,
  fun _ _ _ => r_sipush (show zdec 299 37 = some (.sipush 8271, 3) by decide +kernel) rfl rfl,
  fun _ _ _ _ _ _ _ _ => r_cA (show zdec 299 40 = some (.invokestatic 62, 3) by decide +kernel) (show zst.lookup (299 * zKEY + 62) = some (8, 0, 5, 0) by decide +kernel) rfl,
  fun _ _ _ => r_aload_nr (show zdec 299 43 = some (.aload_n 0, 1) by decide +kernel) rfl rfl,
  fun _ _ _ _ => r_getfield (show zdec 299 44 = some (.getfield 57, 3) by decide +kernel) (show zft.lookup (299 * zKEY + 57) = some (12, 4) by decide +kernel) rfl,
  fun _ _ _ => r_ireti (show zdec 299 47 = some (.ireturn, 1) by decide +kernel) (by decide +kernel)⟩
theorem ze_299 : ∀ (a0 : Nat) (h : zH), ev 299 [.ref a0] h = rn 299 0 [.ref a0] [] h := fun _ _ => if_pos (Nat.le_of_ble_eq_true rfl)

