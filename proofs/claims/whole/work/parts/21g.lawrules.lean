/-! RULES of the law, printed by render.py -/
-- law
theorem zr_300_0 : (∀ (l0 l1 l2 l3 : Value) (S : List Value) (h : zH), rn 300 0 [l0, l1, l2, l3] S h = rn 300 3 [l0, l1, l2, l3] (.ref (100 + h.1) :: S) (znew h (.inr (11, [.null, .null, .null, .int 0, .null, .null, .null, .null])) 8)) ∧
  (∀ (l0 l1 l2 l3 : Value) (v : Value) (S : List Value) (h : zH), rn 300 3 [l0, l1, l2, l3] (v :: S) h = c1 v (rn 300 4 [l0, l1, l2, l3] (v :: v :: S) h)) ∧
  (∀ (l0 l1 l2 l3 : Value) (o : Nat) (S : List Value) (h : zH), rn 300 4 [l0, l1, l2, l3] (.ref o :: S) h = if zsum S ≤ 8 then zcall (ev 0 [.ref o] h) (fun v h => rn 300 7 [l0, l1, l2, l3] (zpush v S) h) else none) ∧
  (∀ (l0 l1 l2 l3 : Value) (v : Value) (S : List Value) (h : zH), rn 300 7 [l0, l1, l2, l3] (v :: S) h = ldA v (nl l0 (rn 300 8 [l0, v, l2, l3] S h))) ∧
  (∀ (l0 l1 l2 l3 : Value) (S : List Value) (h : zH), rn 300 8 [l0, l1, l2, l3] S h = rn 300 11 [l0, l1, l2, l3] (.ref (100 + h.1) :: S) (znew h (.inr (12, [.null, .null, .int 0, .null, .int 0, .null, .null, .int 0, .null, .int 0, .null, .int 0, .int 0, .int 0, .null])) 15)) ∧
  (∀ (l0 l1 l2 l3 : Value) (v : Value) (S : List Value) (h : zH), rn 300 11 [l0, l1, l2, l3] (v :: S) h = c1 v (rn 300 12 [l0, l1, l2, l3] (v :: v :: S) h)) ∧
  (∀ (l0 l1 l2 l3 : Value) (o : Nat) (S : List Value) (h : zH), rn 300 12 [l0, l1, l2, l3] (.ref o :: S) h = if zsum S ≤ 8 then zcall (ev 207 [.ref o] h) (fun v h => rn 300 15 [l0, l1, l2, l3] (zpush v S) h) else none) ∧
  (∀ (l0 l1 l2 l3 : Value) (v : Value) (S : List Value) (h : zH), rn 300 15 [l0, l1, l2, l3] (v :: S) h = ldA v (nl l1 (rn 300 16 [l0, l1, v, l3] S h))) ∧
  (∀ (l0 l1 l2 l3 : Value) (S : List Value) (h : zH), rn 300 16 [l0, l1, l2, l3] S h = rn 300 17 [l0, l1, l2, l3] (.int (nI 0) :: S) h) ∧
  (∀ (l0 l1 l2 l3 : Value) (x : Int32) (S : List Value) (h : zH), rn 300 17 [l0, l1, l2, l3] (.int x :: S) h = nl l2 (rn 300 18 [l0, l1, l2, .int x] S h)) ∧
  (∀ (l0 l1 l2 l3 : Value) (S : List Value) (h : zH), rn 300 19 [l0, l1, l2, l3] S h = ldA l0 (rn 300 20 [l0, l1, l2, l3] (l0 :: S) h)) ∧
  (∀ (l0 l1 l2 l3 : Value) (a : Nat) (S : List Value) (h : zH), rn 300 20 [l0, l1, l2, l3] (.ref a :: S) h = zal h a fun x => rn 300 21 [l0, l1, l2, l3] (.int x :: S) h) ∧
  (∀ (l0 l1 l2 l3 : Value) (S : List Value) (h : zH), rn 300 21 [l0, l1, l2, l3] S h = rn 300 22 [l0, l1, l2, l3] (.int (nI 5) :: S) h) ∧
  (∀ (l0 l1 l2 l3 : Value) (x : Int32) (y : Int32) (S : List Value) (h : zH), rn 300 22 [l0, l1, l2, l3] (.int y :: .int x :: S) h = rn 300 23 [l0, l1, l2, l3] (.int (x - y) :: S) h) ∧
  (∀ (l0 l1 l2 l3 : Value) (x : Int32) (y : Int32) (S : List Value) (h : zH), rn 300 23 [l0, l1, l2, l3] (.int y :: .int x :: S) h = if y < x then rn 300 1568 [l0, l1, l2, l3] S h else rn 300 26 [l0, l1, l2, l3] S h) ∧
  (∀ (l0 l1 l2 l3 : Value) (S : List Value) (h : zH), rn 300 26 [l0, l1, l2, l3] S h = ldA l0 (rn 300 27 [l0, l1, l2, l3] (l0 :: S) h)) ∧
  (∀ (l0 l1 l2 : Value) (x : Int32) (S : List Value) (h : zH), rn 300 27 [l0, l1, l2, .int x] S h = rn 300 28 [l0, l1, l2, .int x] (.int x :: S) h) ∧
  (∀ (l0 l1 l2 l3 : Value) (a : Nat) (j : Int32) (S : List Value) (h : zH), rn 300 28 [l0, l1, l2, l3] (.int j :: .ref a :: S) h = zli h a 0 j fun x => rn 300 29 [l0, l1, l2, l3] (.int x :: S) h) ∧
  (∀ (l0 l1 l2 l3 : Value) (S : List Value) (h : zH), rn 300 29 [l0, l1, l2, l3] S h = rn 300 31 [l0, l1, l2, l3] (.int (nI 63) :: S) h) ∧
  (∀ (l0 l1 l2 l3 : Value) (x : Int32) (y : Int32) (S : List Value) (h : zH), rn 300 31 [l0, l1, l2, l3] (.int y :: .int x :: S) h = rn 300 32 [l0, l1, l2, l3] (.int (x &&& y) :: S) h) ∧
  (∀ (l0 l1 l2 l3 : Value) (x : Int32) (S : List Value) (h : zH), rn 300 32 [l0, l1, l2, l3] (.int x :: S) h = if x = nI 0 then rn 300 220 [l0, l1, l2, l3] S h else if x = nI 1 then rn 300 263 [l0, l1, l2, l3] S h else if x = nI 2 then rn 300 306 [l0, l1, l2, l3] S h else if x = nI 3 then rn 300 349 [l0, l1, l2, l3] S h else if x = nI 4 then rn 300 382 [l0, l1, l2, l3] S h else if x = nI 5 then rn 300 415 [l0, l1, l2, l3] S h else if x = nI 6 then rn 300 448 [l0, l1, l2, l3] S h else if x = nI 7 then rn 300 481 [l0, l1, l2, l3] S h else if x = nI 8 then rn 300 494 [l0, l1, l2, l3] S h else if x = nI 9 then rn 300 537 [l0, l1, l2, l3] S h else if x = nI 10 then rn 300 580 [l0, l1, l2, l3] S h else if x = nI 11 then rn 300 613 [l0, l1, l2, l3] S h else if x = nI 12 then rn 300 656 [l0, l1, l2, l3] S h else if x = nI 13 then rn 300 669 [l0, l1, l2, l3] S h else if x = nI 14 then rn 300 682 [l0, l1, l2, l3] S h else if x = nI 15 then rn 300 695 [l0, l1, l2, l3] S h else if x = nI 16 then rn 300 738 [l0, l1, l2, l3] S h else if x = nI 17 then rn 300 771 [l0, l1, l2, l3] S h else if x = nI 18 then rn 300 814 [l0, l1, l2, l3] S h else if x = nI 19 then rn 300 848 [l0, l1, l2, l3] S h else if x = nI 20 then rn 300 892 [l0, l1, l2, l3] S h else if x = nI 21 then rn 300 936 [l0, l1, l2, l3] S h else if x = nI 22 then rn 300 960 [l0, l1, l2, l3] S h else if x = nI 23 then rn 300 984 [l0, l1, l2, l3] S h else if x = nI 24 then rn 300 1017 [l0, l1, l2, l3] S h else if x = nI 25 then rn 300 1070 [l0, l1, l2, l3] S h else if x = nI 26 then rn 300 1114 [l0, l1, l2, l3] S h else if x = nI 27 then rn 300 1157 [l0, l1, l2, l3] S h else if x = nI 28 then rn 300 1191 [l0, l1, l2, l3] S h else if x = nI 29 then rn 300 1215 [l0, l1, l2, l3] S h else if x = nI 30 then rn 300 1239 [l0, l1, l2, l3] S h else if x = nI 31 then rn 300 1272 [l0, l1, l2, l3] S h else if x = nI 32 then rn 300 1296 [l0, l1, l2, l3] S h else if x = nI 33 then rn 300 1330 [l0, l1, l2, l3] S h else if x = nI 34 then rn 300 1364 [l0, l1, l2, l3] S h else if x = nI 35 then rn 300 1398 [l0, l1, l2, l3] S h else if x = nI 36 then rn 300 1431 [l0, l1, l2, l3] S h else if x = nI 37 then rn 300 1454 [l0, l1, l2, l3] S h else if x = nI 38 then rn 300 1487 [l0, l1, l2, l3] S h else if x = nI 39 then rn 300 1510 [l0, l1, l2, l3] S h else if x = nI 40 then rn 300 1523 [l0, l1, l2, l3] S h else if x = nI 41 then rn 300 1536 [l0, l1, l2, l3] S h else if x = nI 42 then rn 300 1549 [l0, l1, l2, l3] S h else rn 300 1562 [l0, l1, l2, l3] S h) ∧
  (∀ (l0 l1 l2 l3 : Value) (S : List Value) (h : zH), rn 300 220 [l0, l1, l2, l3] S h = ldA l1 (rn 300 221 [l0, l1, l2, l3] (l1 :: S) h)) ∧
  (∀ (l0 l1 l2 l3 : Value) (S : List Value) (h : zH), rn 300 221 [l0, l1, l2, l3] S h = ldA l0 (rn 300 222 [l0, l1, l2, l3] (l0 :: S) h)) ∧
  (∀ (l0 l1 l2 : Value) (x : Int32) (S : List Value) (h : zH), rn 300 222 [l0, l1, l2, .int x] S h = rn 300 223 [l0, l1, l2, .int x] (.int x :: S) h) ∧
  (∀ (l0 l1 l2 l3 : Value) (S : List Value) (h : zH), rn 300 223 [l0, l1, l2, l3] S h = rn 300 224 [l0, l1, l2, l3] (.int (nI 1) :: S) h) ∧
  (∀ (l0 l1 l2 l3 : Value) (x : Int32) (y : Int32) (S : List Value) (h : zH), rn 300 224 [l0, l1, l2, l3] (.int y :: .int x :: S) h = rn 300 225 [l0, l1, l2, l3] (.int (x + y) :: S) h) ∧
  (∀ (l0 l1 l2 l3 : Value) (a : Nat) (j : Int32) (S : List Value) (h : zH), rn 300 225 [l0, l1, l2, l3] (.int j :: .ref a :: S) h = zli h a 0 j fun x => rn 300 226 [l0, l1, l2, l3] (.int x :: S) h) ∧
  (∀ (l0 l1 l2 l3 : Value) (S : List Value) (h : zH), rn 300 226 [l0, l1, l2, l3] S h = ldA l0 (rn 300 227 [l0, l1, l2, l3] (l0 :: S) h)) ∧
  (∀ (l0 l1 l2 : Value) (x : Int32) (S : List Value) (h : zH), rn 300 227 [l0, l1, l2, .int x] S h = rn 300 228 [l0, l1, l2, .int x] (.int x :: S) h) ∧
  (∀ (l0 l1 l2 l3 : Value) (S : List Value) (h : zH), rn 300 228 [l0, l1, l2, l3] S h = rn 300 229 [l0, l1, l2, l3] (.int (nI 2) :: S) h) ∧
  (∀ (l0 l1 l2 l3 : Value) (x : Int32) (y : Int32) (S : List Value) (h : zH), rn 300 229 [l0, l1, l2, l3] (.int y :: .int x :: S) h = rn 300 230 [l0, l1, l2, l3] (.int (x + y) :: S) h) ∧
  (∀ (l0 l1 l2 l3 : Value) (a : Nat) (j : Int32) (S : List Value) (h : zH), rn 300 230 [l0, l1, l2, l3] (.int j :: .ref a :: S) h = zli h a 0 j fun x => rn 300 231 [l0, l1, l2, l3] (.int x :: S) h) ∧
  (∀ (l0 l1 l2 l3 : Value) (S : List Value) (h : zH), rn 300 231 [l0, l1, l2, l3] S h = ldA l0 (rn 300 232 [l0, l1, l2, l3] (l0 :: S) h)) ∧
  (∀ (l0 l1 l2 : Value) (x : Int32) (S : List Value) (h : zH), rn 300 232 [l0, l1, l2, .int x] S h = rn 300 233 [l0, l1, l2, .int x] (.int x :: S) h) ∧
  (∀ (l0 l1 l2 l3 : Value) (S : List Value) (h : zH), rn 300 233 [l0, l1, l2, l3] S h = rn 300 234 [l0, l1, l2, l3] (.int (nI 3) :: S) h) ∧
  (∀ (l0 l1 l2 l3 : Value) (x : Int32) (y : Int32) (S : List Value) (h : zH), rn 300 234 [l0, l1, l2, l3] (.int y :: .int x :: S) h = rn 300 235 [l0, l1, l2, l3] (.int (x + y) :: S) h) ∧
  (∀ (l0 l1 l2 l3 : Value) (a : Nat) (j : Int32) (S : List Value) (h : zH), rn 300 235 [l0, l1, l2, l3] (.int j :: .ref a :: S) h = zli h a 0 j fun x => rn 300 236 [l0, l1, l2, l3] (.int x :: S) h) ∧
  (∀ (l0 l1 l2 l3 : Value) (o : Nat) (v0 : Value) (v1 : Value) (v2 : Value) (S : List Value) (h : zH), rn 300 236 [l0, l1, l2, l3] (v2 :: v1 :: v0 :: .ref o :: S) h = if zkd h o = 11 ∧ zsum S ≤ 8 then zcall (ev 16 [.ref o, v0, v1, v2] h) (fun v h => rn 300 239 [l0, l1, l2, l3] (zpush v S) h) else none) ∧
  (∀ (l0 l1 l2 l3 : Value) (S : List Value) (h : zH), rn 300 239 [l0, l1, l2, l3] S h = ldA l2 (rn 300 240 [l0, l1, l2, l3] (l2 :: S) h)) ∧
  (∀ (l0 l1 l2 l3 : Value) (S : List Value) (h : zH), rn 300 240 [l0, l1, l2, l3] S h = ldA l0 (rn 300 241 [l0, l1, l2, l3] (l0 :: S) h)) ∧
  (∀ (l0 l1 l2 : Value) (x : Int32) (S : List Value) (h : zH), rn 300 241 [l0, l1, l2, .int x] S h = rn 300 242 [l0, l1, l2, .int x] (.int x :: S) h) ∧
  (∀ (l0 l1 l2 l3 : Value) (S : List Value) (h : zH), rn 300 242 [l0, l1, l2, l3] S h = rn 300 243 [l0, l1, l2, l3] (.int (nI 1) :: S) h) ∧
  (∀ (l0 l1 l2 l3 : Value) (x : Int32) (y : Int32) (S : List Value) (h : zH), rn 300 243 [l0, l1, l2, l3] (.int y :: .int x :: S) h = rn 300 244 [l0, l1, l2, l3] (.int (x + y) :: S) h) ∧
  (∀ (l0 l1 l2 l3 : Value) (a : Nat) (j : Int32) (S : List Value) (h : zH), rn 300 244 [l0, l1, l2, l3] (.int j :: .ref a :: S) h = zli h a 0 j fun x => rn 300 245 [l0, l1, l2, l3] (.int x :: S) h) ∧
  (∀ (l0 l1 l2 l3 : Value) (S : List Value) (h : zH), rn 300 245 [l0, l1, l2, l3] S h = ldA l0 (rn 300 246 [l0, l1, l2, l3] (l0 :: S) h)) ∧
  (∀ (l0 l1 l2 : Value) (x : Int32) (S : List Value) (h : zH), rn 300 246 [l0, l1, l2, .int x] S h = rn 300 247 [l0, l1, l2, .int x] (.int x :: S) h) ∧
  (∀ (l0 l1 l2 l3 : Value) (S : List Value) (h : zH), rn 300 247 [l0, l1, l2, l3] S h = rn 300 248 [l0, l1, l2, l3] (.int (nI 2) :: S) h) ∧
  (∀ (l0 l1 l2 l3 : Value) (x : Int32) (y : Int32) (S : List Value) (h : zH), rn 300 248 [l0, l1, l2, l3] (.int y :: .int x :: S) h = rn 300 249 [l0, l1, l2, l3] (.int (x + y) :: S) h) ∧
  (∀ (l0 l1 l2 l3 : Value) (a : Nat) (j : Int32) (S : List Value) (h : zH), rn 300 249 [l0, l1, l2, l3] (.int j :: .ref a :: S) h = zli h a 0 j fun x => rn 300 250 [l0, l1, l2, l3] (.int x :: S) h) ∧
  (∀ (l0 l1 l2 l3 : Value) (S : List Value) (h : zH), rn 300 250 [l0, l1, l2, l3] S h = ldA l0 (rn 300 251 [l0, l1, l2, l3] (l0 :: S) h)) ∧
  (∀ (l0 l1 l2 : Value) (x : Int32) (S : List Value) (h : zH), rn 300 251 [l0, l1, l2, .int x] S h = rn 300 252 [l0, l1, l2, .int x] (.int x :: S) h) ∧
  (∀ (l0 l1 l2 l3 : Value) (S : List Value) (h : zH), rn 300 252 [l0, l1, l2, l3] S h = rn 300 253 [l0, l1, l2, l3] (.int (nI 3) :: S) h) ∧
  (∀ (l0 l1 l2 l3 : Value) (x : Int32) (y : Int32) (S : List Value) (h : zH), rn 300 253 [l0, l1, l2, l3] (.int y :: .int x :: S) h = rn 300 254 [l0, l1, l2, l3] (.int (x + y) :: S) h) ∧
  (∀ (l0 l1 l2 l3 : Value) (a : Nat) (j : Int32) (S : List Value) (h : zH), rn 300 254 [l0, l1, l2, l3] (.int j :: .ref a :: S) h = zli h a 0 j fun x => rn 300 255 [l0, l1, l2, l3] (.int x :: S) h) ∧
  (∀ (l0 l1 l2 l3 : Value) (o : Nat) (v0 : Value) (v1 : Value) (v2 : Value) (S : List Value) (h : zH), rn 300 255 [l0, l1, l2, l3] (v2 :: v1 :: v0 :: .ref o :: S) h = if zkd h o = 12 ∧ zsum S ≤ 8 then zcall (ev 209 [.ref o, v0, v1, v2] h) (fun v h => rn 300 258 [l0, l1, l2, l3] (zpush v S) h) else none) ∧
  (∀ (l0 l1 l2 l3 : Value) (x : Int32) (y : Int32) (S : List Value) (h : zH), rn 300 258 [l0, l1, l2, l3] (.int y :: .int x :: S) h = if x = y then rn 300 1562 [l0, l1, l2, l3] S h else rn 300 261 [l0, l1, l2, l3] S h) ∧
  (∀ (l0 l1 l2 l3 : Value) (S : List Value) (h : zH), rn 300 261 [l0, l1, l2, l3] S h = rn 300 262 [l0, l1, l2, l3] (.int (nI 0) :: S) h) ∧
  (∀ (l0 l1 l2 l3 : Value) (x : Int32) (h : zH), rn 300 262 [l0, l1, l2, l3] [.int x] h = if x = nI 0 ∨ x = nI 1 then some (some (.int x), h) else none) ∧
  (∀ (l0 l1 l2 l3 : Value) (S : List Value) (h : zH), rn 300 263 [l0, l1, l2, l3] S h = ldA l1 (rn 300 264 [l0, l1, l2, l3] (l1 :: S) h)) ∧
  (∀ (l0 l1 l2 l3 : Value) (S : List Value) (h : zH), rn 300 264 [l0, l1, l2, l3] S h = ldA l0 (rn 300 265 [l0, l1, l2, l3] (l0 :: S) h)) ∧
  (∀ (l0 l1 l2 : Value) (x : Int32) (S : List Value) (h : zH), rn 300 265 [l0, l1, l2, .int x] S h = rn 300 266 [l0, l1, l2, .int x] (.int x :: S) h) ∧
  (∀ (l0 l1 l2 l3 : Value) (S : List Value) (h : zH), rn 300 266 [l0, l1, l2, l3] S h = rn 300 267 [l0, l1, l2, l3] (.int (nI 1) :: S) h) ∧
  (∀ (l0 l1 l2 l3 : Value) (x : Int32) (y : Int32) (S : List Value) (h : zH), rn 300 267 [l0, l1, l2, l3] (.int y :: .int x :: S) h = rn 300 268 [l0, l1, l2, l3] (.int (x + y) :: S) h) ∧
  (∀ (l0 l1 l2 l3 : Value) (a : Nat) (j : Int32) (S : List Value) (h : zH), rn 300 268 [l0, l1, l2, l3] (.int j :: .ref a :: S) h = zli h a 0 j fun x => rn 300 269 [l0, l1, l2, l3] (.int x :: S) h) ∧
  (∀ (l0 l1 l2 l3 : Value) (S : List Value) (h : zH), rn 300 269 [l0, l1, l2, l3] S h = ldA l0 (rn 300 270 [l0, l1, l2, l3] (l0 :: S) h)) ∧
  (∀ (l0 l1 l2 : Value) (x : Int32) (S : List Value) (h : zH), rn 300 270 [l0, l1, l2, .int x] S h = rn 300 271 [l0, l1, l2, .int x] (.int x :: S) h) ∧
  (∀ (l0 l1 l2 l3 : Value) (S : List Value) (h : zH), rn 300 271 [l0, l1, l2, l3] S h = rn 300 272 [l0, l1, l2, l3] (.int (nI 2) :: S) h) ∧
  (∀ (l0 l1 l2 l3 : Value) (x : Int32) (y : Int32) (S : List Value) (h : zH), rn 300 272 [l0, l1, l2, l3] (.int y :: .int x :: S) h = rn 300 273 [l0, l1, l2, l3] (.int (x + y) :: S) h) ∧
  (∀ (l0 l1 l2 l3 : Value) (a : Nat) (j : Int32) (S : List Value) (h : zH), rn 300 273 [l0, l1, l2, l3] (.int j :: .ref a :: S) h = zli h a 0 j fun x => rn 300 274 [l0, l1, l2, l3] (.int x :: S) h) ∧
  (∀ (l0 l1 l2 l3 : Value) (S : List Value) (h : zH), rn 300 274 [l0, l1, l2, l3] S h = ldA l0 (rn 300 275 [l0, l1, l2, l3] (l0 :: S) h)) ∧
  (∀ (l0 l1 l2 : Value) (x : Int32) (S : List Value) (h : zH), rn 300 275 [l0, l1, l2, .int x] S h = rn 300 276 [l0, l1, l2, .int x] (.int x :: S) h) ∧
  (∀ (l0 l1 l2 l3 : Value) (S : List Value) (h : zH), rn 300 276 [l0, l1, l2, l3] S h = rn 300 277 [l0, l1, l2, l3] (.int (nI 3) :: S) h) ∧
  (∀ (l0 l1 l2 l3 : Value) (x : Int32) (y : Int32) (S : List Value) (h : zH), rn 300 277 [l0, l1, l2, l3] (.int y :: .int x :: S) h = rn 300 278 [l0, l1, l2, l3] (.int (x + y) :: S) h) ∧
  (∀ (l0 l1 l2 l3 : Value) (a : Nat) (j : Int32) (S : List Value) (h : zH), rn 300 278 [l0, l1, l2, l3] (.int j :: .ref a :: S) h = zli h a 0 j fun x => rn 300 279 [l0, l1, l2, l3] (.int x :: S) h) ∧
  (∀ (l0 l1 l2 l3 : Value) (o : Nat) (v0 : Value) (v1 : Value) (v2 : Value) (S : List Value) (h : zH), rn 300 279 [l0, l1, l2, l3] (v2 :: v1 :: v0 :: .ref o :: S) h = if zkd h o = 11 ∧ zsum S ≤ 8 then zcall (ev 29 [.ref o, v0, v1, v2] h) (fun v h => rn 300 282 [l0, l1, l2, l3] (zpush v S) h) else none) ∧
  (∀ (l0 l1 l2 l3 : Value) (S : List Value) (h : zH), rn 300 282 [l0, l1, l2, l3] S h = ldA l2 (rn 300 283 [l0, l1, l2, l3] (l2 :: S) h)) ∧
  (∀ (l0 l1 l2 l3 : Value) (S : List Value) (h : zH), rn 300 283 [l0, l1, l2, l3] S h = ldA l0 (rn 300 284 [l0, l1, l2, l3] (l0 :: S) h)) ∧
  (∀ (l0 l1 l2 : Value) (x : Int32) (S : List Value) (h : zH), rn 300 284 [l0, l1, l2, .int x] S h = rn 300 285 [l0, l1, l2, .int x] (.int x :: S) h) ∧
  (∀ (l0 l1 l2 l3 : Value) (S : List Value) (h : zH), rn 300 285 [l0, l1, l2, l3] S h = rn 300 286 [l0, l1, l2, l3] (.int (nI 1) :: S) h) ∧
  (∀ (l0 l1 l2 l3 : Value) (x : Int32) (y : Int32) (S : List Value) (h : zH), rn 300 286 [l0, l1, l2, l3] (.int y :: .int x :: S) h = rn 300 287 [l0, l1, l2, l3] (.int (x + y) :: S) h) ∧
  (∀ (l0 l1 l2 l3 : Value) (a : Nat) (j : Int32) (S : List Value) (h : zH), rn 300 287 [l0, l1, l2, l3] (.int j :: .ref a :: S) h = zli h a 0 j fun x => rn 300 288 [l0, l1, l2, l3] (.int x :: S) h) ∧
  (∀ (l0 l1 l2 l3 : Value) (S : List Value) (h : zH), rn 300 288 [l0, l1, l2, l3] S h = ldA l0 (rn 300 289 [l0, l1, l2, l3] (l0 :: S) h)) ∧
  (∀ (l0 l1 l2 : Value) (x : Int32) (S : List Value) (h : zH), rn 300 289 [l0, l1, l2, .int x] S h = rn 300 290 [l0, l1, l2, .int x] (.int x :: S) h) ∧
  (∀ (l0 l1 l2 l3 : Value) (S : List Value) (h : zH), rn 300 290 [l0, l1, l2, l3] S h = rn 300 291 [l0, l1, l2, l3] (.int (nI 2) :: S) h) ∧
  (∀ (l0 l1 l2 l3 : Value) (x : Int32) (y : Int32) (S : List Value) (h : zH), rn 300 291 [l0, l1, l2, l3] (.int y :: .int x :: S) h = rn 300 292 [l0, l1, l2, l3] (.int (x + y) :: S) h) ∧
  (∀ (l0 l1 l2 l3 : Value) (a : Nat) (j : Int32) (S : List Value) (h : zH), rn 300 292 [l0, l1, l2, l3] (.int j :: .ref a :: S) h = zli h a 0 j fun x => rn 300 293 [l0, l1, l2, l3] (.int x :: S) h) ∧
  (∀ (l0 l1 l2 l3 : Value) (S : List Value) (h : zH), rn 300 293 [l0, l1, l2, l3] S h = ldA l0 (rn 300 294 [l0, l1, l2, l3] (l0 :: S) h)) ∧
  (∀ (l0 l1 l2 : Value) (x : Int32) (S : List Value) (h : zH), rn 300 294 [l0, l1, l2, .int x] S h = rn 300 295 [l0, l1, l2, .int x] (.int x :: S) h) ∧
  (∀ (l0 l1 l2 l3 : Value) (S : List Value) (h : zH), rn 300 295 [l0, l1, l2, l3] S h = rn 300 296 [l0, l1, l2, l3] (.int (nI 3) :: S) h) ∧
  (∀ (l0 l1 l2 l3 : Value) (x : Int32) (y : Int32) (S : List Value) (h : zH), rn 300 296 [l0, l1, l2, l3] (.int y :: .int x :: S) h = rn 300 297 [l0, l1, l2, l3] (.int (x + y) :: S) h) ∧
  (∀ (l0 l1 l2 l3 : Value) (a : Nat) (j : Int32) (S : List Value) (h : zH), rn 300 297 [l0, l1, l2, l3] (.int j :: .ref a :: S) h = zli h a 0 j fun x => rn 300 298 [l0, l1, l2, l3] (.int x :: S) h) ∧
  (∀ (l0 l1 l2 l3 : Value) (o : Nat) (v0 : Value) (v1 : Value) (v2 : Value) (S : List Value) (h : zH), rn 300 298 [l0, l1, l2, l3] (v2 :: v1 :: v0 :: .ref o :: S) h = if zkd h o = 12 ∧ zsum S ≤ 8 then zcall (ev 216 [.ref o, v0, v1, v2] h) (fun v h => rn 300 301 [l0, l1, l2, l3] (zpush v S) h) else none) ∧
  (∀ (l0 l1 l2 l3 : Value) (x : Int32) (y : Int32) (S : List Value) (h : zH), rn 300 301 [l0, l1, l2, l3] (.int y :: .int x :: S) h = if x = y then rn 300 1562 [l0, l1, l2, l3] S h else rn 300 304 [l0, l1, l2, l3] S h) ∧
  (∀ (l0 l1 l2 l3 : Value) (S : List Value) (h : zH), rn 300 304 [l0, l1, l2, l3] S h = rn 300 305 [l0, l1, l2, l3] (.int (nI 0) :: S) h) ∧
  (∀ (l0 l1 l2 l3 : Value) (x : Int32) (h : zH), rn 300 305 [l0, l1, l2, l3] [.int x] h = if x = nI 0 ∨ x = nI 1 then some (some (.int x), h) else none) ∧
  (∀ (l0 l1 l2 l3 : Value) (S : List Value) (h : zH), rn 300 306 [l0, l1, l2, l3] S h = ldA l1 (rn 300 307 [l0, l1, l2, l3] (l1 :: S) h)) ∧
  (∀ (l0 l1 l2 l3 : Value) (S : List Value) (h : zH), rn 300 307 [l0, l1, l2, l3] S h = ldA l0 (rn 300 308 [l0, l1, l2, l3] (l0 :: S) h)) ∧
  (∀ (l0 l1 l2 : Value) (x : Int32) (S : List Value) (h : zH), rn 300 308 [l0, l1, l2, .int x] S h = rn 300 309 [l0, l1, l2, .int x] (.int x :: S) h) ∧
  (∀ (l0 l1 l2 l3 : Value) (S : List Value) (h : zH), rn 300 309 [l0, l1, l2, l3] S h = rn 300 310 [l0, l1, l2, l3] (.int (nI 1) :: S) h) ∧
  (∀ (l0 l1 l2 l3 : Value) (x : Int32) (y : Int32) (S : List Value) (h : zH), rn 300 310 [l0, l1, l2, l3] (.int y :: .int x :: S) h = rn 300 311 [l0, l1, l2, l3] (.int (x + y) :: S) h) ∧
  (∀ (l0 l1 l2 l3 : Value) (a : Nat) (j : Int32) (S : List Value) (h : zH), rn 300 311 [l0, l1, l2, l3] (.int j :: .ref a :: S) h = zli h a 0 j fun x => rn 300 312 [l0, l1, l2, l3] (.int x :: S) h) ∧
  (∀ (l0 l1 l2 l3 : Value) (S : List Value) (h : zH), rn 300 312 [l0, l1, l2, l3] S h = ldA l0 (rn 300 313 [l0, l1, l2, l3] (l0 :: S) h)) ∧
  (∀ (l0 l1 l2 : Value) (x : Int32) (S : List Value) (h : zH), rn 300 313 [l0, l1, l2, .int x] S h = rn 300 314 [l0, l1, l2, .int x] (.int x :: S) h) ∧
  (∀ (l0 l1 l2 l3 : Value) (S : List Value) (h : zH), rn 300 314 [l0, l1, l2, l3] S h = rn 300 315 [l0, l1, l2, l3] (.int (nI 2) :: S) h) ∧
  (∀ (l0 l1 l2 l3 : Value) (x : Int32) (y : Int32) (S : List Value) (h : zH), rn 300 315 [l0, l1, l2, l3] (.int y :: .int x :: S) h = rn 300 316 [l0, l1, l2, l3] (.int (x + y) :: S) h) ∧
  (∀ (l0 l1 l2 l3 : Value) (a : Nat) (j : Int32) (S : List Value) (h : zH), rn 300 316 [l0, l1, l2, l3] (.int j :: .ref a :: S) h = zli h a 0 j fun x => rn 300 317 [l0, l1, l2, l3] (.int x :: S) h) ∧
  (∀ (l0 l1 l2 l3 : Value) (S : List Value) (h : zH), rn 300 317 [l0, l1, l2, l3] S h = ldA l0 (rn 300 318 [l0, l1, l2, l3] (l0 :: S) h)) ∧
  (∀ (l0 l1 l2 : Value) (x : Int32) (S : List Value) (h : zH), rn 300 318 [l0, l1, l2, .int x] S h = rn 300 319 [l0, l1, l2, .int x] (.int x :: S) h) ∧
  (∀ (l0 l1 l2 l3 : Value) (S : List Value) (h : zH), rn 300 319 [l0, l1, l2, l3] S h = rn 300 320 [l0, l1, l2, l3] (.int (nI 3) :: S) h) ∧
  (∀ (l0 l1 l2 l3 : Value) (x : Int32) (y : Int32) (S : List Value) (h : zH), rn 300 320 [l0, l1, l2, l3] (.int y :: .int x :: S) h = rn 300 321 [l0, l1, l2, l3] (.int (x + y) :: S) h) ∧
  (∀ (l0 l1 l2 l3 : Value) (a : Nat) (j : Int32) (S : List Value) (h : zH), rn 300 321 [l0, l1, l2, l3] (.int j :: .ref a :: S) h = zli h a 0 j fun x => rn 300 322 [l0, l1, l2, l3] (.int x :: S) h) ∧
  (∀ (l0 l1 l2 l3 : Value) (o : Nat) (v0 : Value) (v1 : Value) (v2 : Value) (S : List Value) (h : zH), rn 300 322 [l0, l1, l2, l3] (v2 :: v1 :: v0 :: .ref o :: S) h = if zkd h o = 11 ∧ zsum S ≤ 8 then zcall (ev 31 [.ref o, v0, v1, v2] h) (fun v h => rn 300 325 [l0, l1, l2, l3] (zpush v S) h) else none) ∧
  (∀ (l0 l1 l2 l3 : Value) (S : List Value) (h : zH), rn 300 325 [l0, l1, l2, l3] S h = ldA l2 (rn 300 326 [l0, l1, l2, l3] (l2 :: S) h)) ∧
  (∀ (l0 l1 l2 l3 : Value) (S : List Value) (h : zH), rn 300 326 [l0, l1, l2, l3] S h = ldA l0 (rn 300 327 [l0, l1, l2, l3] (l0 :: S) h)) ∧
  (∀ (l0 l1 l2 : Value) (x : Int32) (S : List Value) (h : zH), rn 300 327 [l0, l1, l2, .int x] S h = rn 300 328 [l0, l1, l2, .int x] (.int x :: S) h) ∧
  (∀ (l0 l1 l2 l3 : Value) (S : List Value) (h : zH), rn 300 328 [l0, l1, l2, l3] S h = rn 300 329 [l0, l1, l2, l3] (.int (nI 1) :: S) h) ∧
  (∀ (l0 l1 l2 l3 : Value) (x : Int32) (y : Int32) (S : List Value) (h : zH), rn 300 329 [l0, l1, l2, l3] (.int y :: .int x :: S) h = rn 300 330 [l0, l1, l2, l3] (.int (x + y) :: S) h) ∧
  (∀ (l0 l1 l2 l3 : Value) (a : Nat) (j : Int32) (S : List Value) (h : zH), rn 300 330 [l0, l1, l2, l3] (.int j :: .ref a :: S) h = zli h a 0 j fun x => rn 300 331 [l0, l1, l2, l3] (.int x :: S) h) ∧
  (∀ (l0 l1 l2 l3 : Value) (S : List Value) (h : zH), rn 300 331 [l0, l1, l2, l3] S h = ldA l0 (rn 300 332 [l0, l1, l2, l3] (l0 :: S) h)) ∧
  (∀ (l0 l1 l2 : Value) (x : Int32) (S : List Value) (h : zH), rn 300 332 [l0, l1, l2, .int x] S h = rn 300 333 [l0, l1, l2, .int x] (.int x :: S) h) ∧
  (∀ (l0 l1 l2 l3 : Value) (S : List Value) (h : zH), rn 300 333 [l0, l1, l2, l3] S h = rn 300 334 [l0, l1, l2, l3] (.int (nI 2) :: S) h) ∧
  (∀ (l0 l1 l2 l3 : Value) (x : Int32) (y : Int32) (S : List Value) (h : zH), rn 300 334 [l0, l1, l2, l3] (.int y :: .int x :: S) h = rn 300 335 [l0, l1, l2, l3] (.int (x + y) :: S) h) ∧
  (∀ (l0 l1 l2 l3 : Value) (a : Nat) (j : Int32) (S : List Value) (h : zH), rn 300 335 [l0, l1, l2, l3] (.int j :: .ref a :: S) h = zli h a 0 j fun x => rn 300 336 [l0, l1, l2, l3] (.int x :: S) h) ∧
  (∀ (l0 l1 l2 l3 : Value) (S : List Value) (h : zH), rn 300 336 [l0, l1, l2, l3] S h = ldA l0 (rn 300 337 [l0, l1, l2, l3] (l0 :: S) h)) ∧
  (∀ (l0 l1 l2 : Value) (x : Int32) (S : List Value) (h : zH), rn 300 337 [l0, l1, l2, .int x] S h = rn 300 338 [l0, l1, l2, .int x] (.int x :: S) h) ∧
  (∀ (l0 l1 l2 l3 : Value) (S : List Value) (h : zH), rn 300 338 [l0, l1, l2, l3] S h = rn 300 339 [l0, l1, l2, l3] (.int (nI 3) :: S) h) ∧
  (∀ (l0 l1 l2 l3 : Value) (x : Int32) (y : Int32) (S : List Value) (h : zH), rn 300 339 [l0, l1, l2, l3] (.int y :: .int x :: S) h = rn 300 340 [l0, l1, l2, l3] (.int (x + y) :: S) h) ∧
  (∀ (l0 l1 l2 l3 : Value) (a : Nat) (j : Int32) (S : List Value) (h : zH), rn 300 340 [l0, l1, l2, l3] (.int j :: .ref a :: S) h = zli h a 0 j fun x => rn 300 341 [l0, l1, l2, l3] (.int x :: S) h) ∧
  (∀ (l0 l1 l2 l3 : Value) (o : Nat) (v0 : Value) (v1 : Value) (v2 : Value) (S : List Value) (h : zH), rn 300 341 [l0, l1, l2, l3] (v2 :: v1 :: v0 :: .ref o :: S) h = if zkd h o = 12 ∧ zsum S ≤ 8 then zcall (ev 217 [.ref o, v0, v1, v2] h) (fun v h => rn 300 344 [l0, l1, l2, l3] (zpush v S) h) else none) ∧
  (∀ (l0 l1 l2 l3 : Value) (x : Int32) (y : Int32) (S : List Value) (h : zH), rn 300 344 [l0, l1, l2, l3] (.int y :: .int x :: S) h = if x = y then rn 300 1562 [l0, l1, l2, l3] S h else rn 300 347 [l0, l1, l2, l3] S h) ∧
  (∀ (l0 l1 l2 l3 : Value) (S : List Value) (h : zH), rn 300 347 [l0, l1, l2, l3] S h = rn 300 348 [l0, l1, l2, l3] (.int (nI 0) :: S) h) ∧
  (∀ (l0 l1 l2 l3 : Value) (x : Int32) (h : zH), rn 300 348 [l0, l1, l2, l3] [.int x] h = if x = nI 0 ∨ x = nI 1 then some (some (.int x), h) else none) ∧
  (∀ (l0 l1 l2 l3 : Value) (S : List Value) (h : zH), rn 300 349 [l0, l1, l2, l3] S h = ldA l1 (rn 300 350 [l0, l1, l2, l3] (l1 :: S) h)) ∧
  (∀ (l0 l1 l2 l3 : Value) (S : List Value) (h : zH), rn 300 350 [l0, l1, l2, l3] S h = ldA l0 (rn 300 351 [l0, l1, l2, l3] (l0 :: S) h)) ∧
  (∀ (l0 l1 l2 : Value) (x : Int32) (S : List Value) (h : zH), rn 300 351 [l0, l1, l2, .int x] S h = rn 300 352 [l0, l1, l2, .int x] (.int x :: S) h) ∧
  (∀ (l0 l1 l2 l3 : Value) (S : List Value) (h : zH), rn 300 352 [l0, l1, l2, l3] S h = rn 300 353 [l0, l1, l2, l3] (.int (nI 1) :: S) h) ∧
  (∀ (l0 l1 l2 l3 : Value) (x : Int32) (y : Int32) (S : List Value) (h : zH), rn 300 353 [l0, l1, l2, l3] (.int y :: .int x :: S) h = rn 300 354 [l0, l1, l2, l3] (.int (x + y) :: S) h) ∧
  (∀ (l0 l1 l2 l3 : Value) (a : Nat) (j : Int32) (S : List Value) (h : zH), rn 300 354 [l0, l1, l2, l3] (.int j :: .ref a :: S) h = zli h a 0 j fun x => rn 300 355 [l0, l1, l2, l3] (.int x :: S) h) ∧
  (∀ (l0 l1 l2 l3 : Value) (S : List Value) (h : zH), rn 300 355 [l0, l1, l2, l3] S h = ldA l0 (rn 300 356 [l0, l1, l2, l3] (l0 :: S) h)) ∧
  (∀ (l0 l1 l2 : Value) (x : Int32) (S : List Value) (h : zH), rn 300 356 [l0, l1, l2, .int x] S h = rn 300 357 [l0, l1, l2, .int x] (.int x :: S) h) ∧
  (∀ (l0 l1 l2 l3 : Value) (S : List Value) (h : zH), rn 300 357 [l0, l1, l2, l3] S h = rn 300 358 [l0, l1, l2, l3] (.int (nI 2) :: S) h) ∧
  (∀ (l0 l1 l2 l3 : Value) (x : Int32) (y : Int32) (S : List Value) (h : zH), rn 300 358 [l0, l1, l2, l3] (.int y :: .int x :: S) h = rn 300 359 [l0, l1, l2, l3] (.int (x + y) :: S) h) ∧
  (∀ (l0 l1 l2 l3 : Value) (a : Nat) (j : Int32) (S : List Value) (h : zH), rn 300 359 [l0, l1, l2, l3] (.int j :: .ref a :: S) h = zli h a 0 j fun x => rn 300 360 [l0, l1, l2, l3] (.int x :: S) h) ∧
  (∀ (l0 l1 l2 l3 : Value) (o : Nat) (v0 : Value) (v1 : Value) (S : List Value) (h : zH), rn 300 360 [l0, l1, l2, l3] (v1 :: v0 :: .ref o :: S) h = if zkd h o = 11 ∧ zsum S ≤ 8 then zcall (ev 33 [.ref o, v0, v1] h) (fun v h => rn 300 363 [l0, l1, l2, l3] (zpush v S) h) else none) ∧
  (∀ (l0 l1 l2 l3 : Value) (S : List Value) (h : zH), rn 300 363 [l0, l1, l2, l3] S h = ldA l2 (rn 300 364 [l0, l1, l2, l3] (l2 :: S) h)) ∧
  (∀ (l0 l1 l2 l3 : Value) (S : List Value) (h : zH), rn 300 364 [l0, l1, l2, l3] S h = ldA l0 (rn 300 365 [l0, l1, l2, l3] (l0 :: S) h)) ∧
  (∀ (l0 l1 l2 : Value) (x : Int32) (S : List Value) (h : zH), rn 300 365 [l0, l1, l2, .int x] S h = rn 300 366 [l0, l1, l2, .int x] (.int x :: S) h) ∧
  (∀ (l0 l1 l2 l3 : Value) (S : List Value) (h : zH), rn 300 366 [l0, l1, l2, l3] S h = rn 300 367 [l0, l1, l2, l3] (.int (nI 1) :: S) h) ∧
  (∀ (l0 l1 l2 l3 : Value) (x : Int32) (y : Int32) (S : List Value) (h : zH), rn 300 367 [l0, l1, l2, l3] (.int y :: .int x :: S) h = rn 300 368 [l0, l1, l2, l3] (.int (x + y) :: S) h) ∧
  (∀ (l0 l1 l2 l3 : Value) (a : Nat) (j : Int32) (S : List Value) (h : zH), rn 300 368 [l0, l1, l2, l3] (.int j :: .ref a :: S) h = zli h a 0 j fun x => rn 300 369 [l0, l1, l2, l3] (.int x :: S) h) ∧
  (∀ (l0 l1 l2 l3 : Value) (S : List Value) (h : zH), rn 300 369 [l0, l1, l2, l3] S h = ldA l0 (rn 300 370 [l0, l1, l2, l3] (l0 :: S) h)) ∧
  (∀ (l0 l1 l2 : Value) (x : Int32) (S : List Value) (h : zH), rn 300 370 [l0, l1, l2, .int x] S h = rn 300 371 [l0, l1, l2, .int x] (.int x :: S) h) ∧
  (∀ (l0 l1 l2 l3 : Value) (S : List Value) (h : zH), rn 300 371 [l0, l1, l2, l3] S h = rn 300 372 [l0, l1, l2, l3] (.int (nI 2) :: S) h) ∧
  (∀ (l0 l1 l2 l3 : Value) (x : Int32) (y : Int32) (S : List Value) (h : zH), rn 300 372 [l0, l1, l2, l3] (.int y :: .int x :: S) h = rn 300 373 [l0, l1, l2, l3] (.int (x + y) :: S) h) ∧
  (∀ (l0 l1 l2 l3 : Value) (a : Nat) (j : Int32) (S : List Value) (h : zH), rn 300 373 [l0, l1, l2, l3] (.int j :: .ref a :: S) h = zli h a 0 j fun x => rn 300 374 [l0, l1, l2, l3] (.int x :: S) h) ∧
  (∀ (l0 l1 l2 l3 : Value) (o : Nat) (v0 : Value) (v1 : Value) (S : List Value) (h : zH), rn 300 374 [l0, l1, l2, l3] (v1 :: v0 :: .ref o :: S) h = if zkd h o = 12 ∧ zsum S ≤ 8 then zcall (ev 218 [.ref o, v0, v1] h) (fun v h => rn 300 377 [l0, l1, l2, l3] (zpush v S) h) else none) ∧
  (∀ (l0 l1 l2 l3 : Value) (x : Int32) (y : Int32) (S : List Value) (h : zH), rn 300 377 [l0, l1, l2, l3] (.int y :: .int x :: S) h = if x = y then rn 300 1562 [l0, l1, l2, l3] S h else rn 300 380 [l0, l1, l2, l3] S h) ∧
  (∀ (l0 l1 l2 l3 : Value) (S : List Value) (h : zH), rn 300 380 [l0, l1, l2, l3] S h = rn 300 381 [l0, l1, l2, l3] (.int (nI 0) :: S) h) ∧
  (∀ (l0 l1 l2 l3 : Value) (x : Int32) (h : zH), rn 300 381 [l0, l1, l2, l3] [.int x] h = if x = nI 0 ∨ x = nI 1 then some (some (.int x), h) else none) ∧
  (∀ (l0 l1 l2 l3 : Value) (S : List Value) (h : zH), rn 300 382 [l0, l1, l2, l3] S h = ldA l1 (rn 300 383 [l0, l1, l2, l3] (l1 :: S) h)) ∧
  (∀ (l0 l1 l2 l3 : Value) (S : List Value) (h : zH), rn 300 383 [l0, l1, l2, l3] S h = ldA l0 (rn 300 384 [l0, l1, l2, l3] (l0 :: S) h)) ∧
  (∀ (l0 l1 l2 : Value) (x : Int32) (S : List Value) (h : zH), rn 300 384 [l0, l1, l2, .int x] S h = rn 300 385 [l0, l1, l2, .int x] (.int x :: S) h) ∧
  (∀ (l0 l1 l2 l3 : Value) (S : List Value) (h : zH), rn 300 385 [l0, l1, l2, l3] S h = rn 300 386 [l0, l1, l2, l3] (.int (nI 1) :: S) h) ∧
  (∀ (l0 l1 l2 l3 : Value) (x : Int32) (y : Int32) (S : List Value) (h : zH), rn 300 386 [l0, l1, l2, l3] (.int y :: .int x :: S) h = rn 300 387 [l0, l1, l2, l3] (.int (x + y) :: S) h) ∧
  (∀ (l0 l1 l2 l3 : Value) (a : Nat) (j : Int32) (S : List Value) (h : zH), rn 300 387 [l0, l1, l2, l3] (.int j :: .ref a :: S) h = zli h a 0 j fun x => rn 300 388 [l0, l1, l2, l3] (.int x :: S) h) ∧
  (∀ (l0 l1 l2 l3 : Value) (S : List Value) (h : zH), rn 300 388 [l0, l1, l2, l3] S h = ldA l0 (rn 300 389 [l0, l1, l2, l3] (l0 :: S) h)) ∧
  (∀ (l0 l1 l2 : Value) (x : Int32) (S : List Value) (h : zH), rn 300 389 [l0, l1, l2, .int x] S h = rn 300 390 [l0, l1, l2, .int x] (.int x :: S) h) ∧
  (∀ (l0 l1 l2 l3 : Value) (S : List Value) (h : zH), rn 300 390 [l0, l1, l2, l3] S h = rn 300 391 [l0, l1, l2, l3] (.int (nI 2) :: S) h) ∧
  (∀ (l0 l1 l2 l3 : Value) (x : Int32) (y : Int32) (S : List Value) (h : zH), rn 300 391 [l0, l1, l2, l3] (.int y :: .int x :: S) h = rn 300 392 [l0, l1, l2, l3] (.int (x + y) :: S) h) ∧
  (∀ (l0 l1 l2 l3 : Value) (a : Nat) (j : Int32) (S : List Value) (h : zH), rn 300 392 [l0, l1, l2, l3] (.int j :: .ref a :: S) h = zli h a 0 j fun x => rn 300 393 [l0, l1, l2, l3] (.int x :: S) h) ∧
  (∀ (l0 l1 l2 l3 : Value) (o : Nat) (v0 : Value) (v1 : Value) (S : List Value) (h : zH), rn 300 393 [l0, l1, l2, l3] (v1 :: v0 :: .ref o :: S) h = if zkd h o = 11 ∧ zsum S ≤ 8 then zcall (ev 35 [.ref o, v0, v1] h) (fun v h => rn 300 396 [l0, l1, l2, l3] (zpush v S) h) else none) ∧
  (∀ (l0 l1 l2 l3 : Value) (S : List Value) (h : zH), rn 300 396 [l0, l1, l2, l3] S h = ldA l2 (rn 300 397 [l0, l1, l2, l3] (l2 :: S) h)) ∧
  (∀ (l0 l1 l2 l3 : Value) (S : List Value) (h : zH), rn 300 397 [l0, l1, l2, l3] S h = ldA l0 (rn 300 398 [l0, l1, l2, l3] (l0 :: S) h)) ∧
  (∀ (l0 l1 l2 : Value) (x : Int32) (S : List Value) (h : zH), rn 300 398 [l0, l1, l2, .int x] S h = rn 300 399 [l0, l1, l2, .int x] (.int x :: S) h) ∧
  (∀ (l0 l1 l2 l3 : Value) (S : List Value) (h : zH), rn 300 399 [l0, l1, l2, l3] S h = rn 300 400 [l0, l1, l2, l3] (.int (nI 1) :: S) h) ∧
  (∀ (l0 l1 l2 l3 : Value) (x : Int32) (y : Int32) (S : List Value) (h : zH), rn 300 400 [l0, l1, l2, l3] (.int y :: .int x :: S) h = rn 300 401 [l0, l1, l2, l3] (.int (x + y) :: S) h) ∧
  (∀ (l0 l1 l2 l3 : Value) (a : Nat) (j : Int32) (S : List Value) (h : zH), rn 300 401 [l0, l1, l2, l3] (.int j :: .ref a :: S) h = zli h a 0 j fun x => rn 300 402 [l0, l1, l2, l3] (.int x :: S) h) ∧
  (∀ (l0 l1 l2 l3 : Value) (S : List Value) (h : zH), rn 300 402 [l0, l1, l2, l3] S h = ldA l0 (rn 300 403 [l0, l1, l2, l3] (l0 :: S) h)) ∧
  (∀ (l0 l1 l2 : Value) (x : Int32) (S : List Value) (h : zH), rn 300 403 [l0, l1, l2, .int x] S h = rn 300 404 [l0, l1, l2, .int x] (.int x :: S) h) ∧
  (∀ (l0 l1 l2 l3 : Value) (S : List Value) (h : zH), rn 300 404 [l0, l1, l2, l3] S h = rn 300 405 [l0, l1, l2, l3] (.int (nI 2) :: S) h) ∧
  (∀ (l0 l1 l2 l3 : Value) (x : Int32) (y : Int32) (S : List Value) (h : zH), rn 300 405 [l0, l1, l2, l3] (.int y :: .int x :: S) h = rn 300 406 [l0, l1, l2, l3] (.int (x + y) :: S) h) ∧
  (∀ (l0 l1 l2 l3 : Value) (a : Nat) (j : Int32) (S : List Value) (h : zH), rn 300 406 [l0, l1, l2, l3] (.int j :: .ref a :: S) h = zli h a 0 j fun x => rn 300 407 [l0, l1, l2, l3] (.int x :: S) h) ∧
  (∀ (l0 l1 l2 l3 : Value) (o : Nat) (v0 : Value) (v1 : Value) (S : List Value) (h : zH), rn 300 407 [l0, l1, l2, l3] (v1 :: v0 :: .ref o :: S) h = if zkd h o = 12 ∧ zsum S ≤ 8 then zcall (ev 219 [.ref o, v0, v1] h) (fun v h => rn 300 410 [l0, l1, l2, l3] (zpush v S) h) else none) ∧
  (∀ (l0 l1 l2 l3 : Value) (x : Int32) (y : Int32) (S : List Value) (h : zH), rn 300 410 [l0, l1, l2, l3] (.int y :: .int x :: S) h = if x = y then rn 300 1562 [l0, l1, l2, l3] S h else rn 300 413 [l0, l1, l2, l3] S h) ∧
  (∀ (l0 l1 l2 l3 : Value) (S : List Value) (h : zH), rn 300 413 [l0, l1, l2, l3] S h = rn 300 414 [l0, l1, l2, l3] (.int (nI 0) :: S) h) ∧
  (∀ (l0 l1 l2 l3 : Value) (x : Int32) (h : zH), rn 300 414 [l0, l1, l2, l3] [.int x] h = if x = nI 0 ∨ x = nI 1 then some (some (.int x), h) else none) ∧
  (∀ (l0 l1 l2 l3 : Value) (S : List Value) (h : zH), rn 300 415 [l0, l1, l2, l3] S h = ldA l1 (rn 300 416 [l0, l1, l2, l3] (l1 :: S) h)) ∧
  (∀ (l0 l1 l2 l3 : Value) (S : List Value) (h : zH), rn 300 416 [l0, l1, l2, l3] S h = ldA l0 (rn 300 417 [l0, l1, l2, l3] (l0 :: S) h)) ∧
  (∀ (l0 l1 l2 : Value) (x : Int32) (S : List Value) (h : zH), rn 300 417 [l0, l1, l2, .int x] S h = rn 300 418 [l0, l1, l2, .int x] (.int x :: S) h) ∧
  (∀ (l0 l1 l2 l3 : Value) (S : List Value) (h : zH), rn 300 418 [l0, l1, l2, l3] S h = rn 300 419 [l0, l1, l2, l3] (.int (nI 1) :: S) h) ∧
  (∀ (l0 l1 l2 l3 : Value) (x : Int32) (y : Int32) (S : List Value) (h : zH), rn 300 419 [l0, l1, l2, l3] (.int y :: .int x :: S) h = rn 300 420 [l0, l1, l2, l3] (.int (x + y) :: S) h) ∧
  (∀ (l0 l1 l2 l3 : Value) (a : Nat) (j : Int32) (S : List Value) (h : zH), rn 300 420 [l0, l1, l2, l3] (.int j :: .ref a :: S) h = zli h a 0 j fun x => rn 300 421 [l0, l1, l2, l3] (.int x :: S) h) ∧
  (∀ (l0 l1 l2 l3 : Value) (S : List Value) (h : zH), rn 300 421 [l0, l1, l2, l3] S h = ldA l0 (rn 300 422 [l0, l1, l2, l3] (l0 :: S) h)) ∧
  (∀ (l0 l1 l2 : Value) (x : Int32) (S : List Value) (h : zH), rn 300 422 [l0, l1, l2, .int x] S h = rn 300 423 [l0, l1, l2, .int x] (.int x :: S) h) ∧
  (∀ (l0 l1 l2 l3 : Value) (S : List Value) (h : zH), rn 300 423 [l0, l1, l2, l3] S h = rn 300 424 [l0, l1, l2, l3] (.int (nI 2) :: S) h) ∧
  (∀ (l0 l1 l2 l3 : Value) (x : Int32) (y : Int32) (S : List Value) (h : zH), rn 300 424 [l0, l1, l2, l3] (.int y :: .int x :: S) h = rn 300 425 [l0, l1, l2, l3] (.int (x + y) :: S) h) ∧
  (∀ (l0 l1 l2 l3 : Value) (a : Nat) (j : Int32) (S : List Value) (h : zH), rn 300 425 [l0, l1, l2, l3] (.int j :: .ref a :: S) h = zli h a 0 j fun x => rn 300 426 [l0, l1, l2, l3] (.int x :: S) h) ∧
  (∀ (l0 l1 l2 l3 : Value) (o : Nat) (v0 : Value) (v1 : Value) (S : List Value) (h : zH), rn 300 426 [l0, l1, l2, l3] (v1 :: v0 :: .ref o :: S) h = if zkd h o = 11 ∧ zsum S ≤ 8 then zcall (ev 37 [.ref o, v0, v1] h) (fun v h => rn 300 429 [l0, l1, l2, l3] (zpush v S) h) else none) ∧
  (∀ (l0 l1 l2 l3 : Value) (S : List Value) (h : zH), rn 300 429 [l0, l1, l2, l3] S h = ldA l2 (rn 300 430 [l0, l1, l2, l3] (l2 :: S) h)) ∧
  (∀ (l0 l1 l2 l3 : Value) (S : List Value) (h : zH), rn 300 430 [l0, l1, l2, l3] S h = ldA l0 (rn 300 431 [l0, l1, l2, l3] (l0 :: S) h)) := ⟨fun _ _ _ _ _ _ => r_new (show zdec 300 0 = some (.new 7, 3) by decide +kernel) (show znt.lookup (300 * zKEY + 7) = some 11 by decide +kernel) (by decide +kernel) rfl rfl,
  fun _ _ _ _ _ _ _ => r_dup (show zdec 300 3 = some (.dup, 1) by decide +kernel) rfl,
  fun _ _ _ _ _ _ _ => r_cI [] rfl (show zdec 300 4 = some (.invokespecial 9, 3) by decide +kernel) (show zst.lookup (300 * zKEY + 9) = some (2, 0, 0, 0) by decide +kernel) (by decide) rfl,
  fun _ _ _ _ _ _ _ => r_astore_n (show zdec 300 7 = some (.astore_n 1, 1) by decide +kernel) rfl rfl (Nat.le_of_ble_eq_true rfl) rfl rfl,
  fun _ _ _ _ _ _ => r_new (show zdec 300 8 = some (.new 10, 3) by decide +kernel) (show znt.lookup (300 * zKEY + 10) = some 12 by decide +kernel) (by decide +kernel) rfl rfl,
  fun _ _ _ _ _ _ _ => r_dup (show zdec 300 11 = some (.dup, 1) by decide +kernel) rfl,
  fun _ _ _ _ _ _ _ => r_cI [] rfl (show zdec 300 12 = some (.invokespecial 12, 3) by decide +kernel) (show zst.lookup (300 * zKEY + 12) = some (2, 207, 0, 0) by decide +kernel) (by decide) rfl,
  fun _ _ _ _ _ _ _ => r_astore_n (show zdec 300 15 = some (.astore_n 2, 1) by decide +kernel) rfl rfl (Nat.le_of_ble_eq_true rfl) rfl rfl,
  fun _ _ _ _ _ _ => r_iconst (show zdec 300 16 = some (.iconst 0, 1) by decide +kernel) rfl rfl,
  fun _ _ _ _ _ _ _ => r_istore_n (show zdec 300 17 = some (.istore_n 3, 1) by decide +kernel) rfl rfl (Nat.le_of_ble_eq_true rfl) rfl rfl,
  fun _ _ _ _ _ _ => r_aload_n (show zdec 300 19 = some (.aload_n 0, 1) by decide +kernel) rfl rfl,
  fun _ _ _ _ _ _ _ => r_alen (show zdec 300 20 = some (.arraylength, 1) by decide +kernel) rfl,
  fun _ _ _ _ _ _ => r_iconst (show zdec 300 21 = some (.iconst 5, 1) by decide +kernel) rfl rfl,
  fun _ _ _ _ _ _ _ _ => r_isub (show zdec 300 22 = some (.isub, 1) by decide +kernel) rfl,
  fun _ _ _ _ _ _ _ _ => r_icmpgt (show zdec 300 23 = some (.if_icmp .gt 1545, 3) by decide +kernel) rfl rfl,
  fun _ _ _ _ _ _ => r_aload_n (show zdec 300 26 = some (.aload_n 0, 1) by decide +kernel) rfl rfl,
  fun _ _ _ _ _ _ => r_iload_n (show zdec 300 27 = some (.iload_n 3, 1) by decide +kernel) rfl rfl,
  fun _ _ _ _ _ _ _ _ => r_iald (show zdec 300 28 = some (.iaload, 1) by decide +kernel) rfl,
  fun _ _ _ _ _ _ => r_bipush (show zdec 300 29 = some (.bipush 63, 2) by decide +kernel) rfl rfl,
  fun _ _ _ _ _ _ _ _ => r_iand (show zdec 300 31 = some (.iand, 1) by decide +kernel) rfl,
  fun _ _ _ _ _ _ _ => (r_tsw (l := 0) (ts := [220, 263, 306, 349, 382, 415, 448, 481, 494, 537, 580, 613, 656, 669, 682, 695, 738, 771, 814, 848, 892, 936, 960, 984, 1017, 1070, 1114, 1157, 1191, 1215, 1239, 1272, 1296, 1330, 1364, 1398, 1431, 1454, 1487, 1510, 1523, 1536, 1549]) (dt := 1562) (show zdec 300 32 = some (.tableswitch 1530 0 42 #[188, 231, 274, 317, 350, 383, 416, 449, 462, 505, 548, 581, 624, 637, 650, 663, 706, 739, 782, 816, 860, 904, 928, 952, 985, 1038, 1082, 1125, 1159, 1183, 1207, 1240, 1264, 1298, 1332, 1366, 1399, 1422, 1455, 1478, 1491, 1504, 1517], 188) by decide +kernel) (by decide +kernel)),
  fun _ _ _ _ _ _ => r_aload_n (show zdec 300 220 = some (.aload_n 1, 1) by decide +kernel) rfl rfl,
  fun _ _ _ _ _ _ => r_aload_n (show zdec 300 221 = some (.aload_n 0, 1) by decide +kernel) rfl rfl,
  fun _ _ _ _ _ _ => r_iload_n (show zdec 300 222 = some (.iload_n 3, 1) by decide +kernel) rfl rfl,
  fun _ _ _ _ _ _ => r_iconst (show zdec 300 223 = some (.iconst 1, 1) by decide +kernel) rfl rfl,
  fun _ _ _ _ _ _ _ _ => r_iadd (show zdec 300 224 = some (.iadd, 1) by decide +kernel) rfl,
  fun _ _ _ _ _ _ _ _ => r_iald (show zdec 300 225 = some (.iaload, 1) by decide +kernel) rfl,
  fun _ _ _ _ _ _ => r_aload_n (show zdec 300 226 = some (.aload_n 0, 1) by decide +kernel) rfl rfl,
  fun _ _ _ _ _ _ => r_iload_n (show zdec 300 227 = some (.iload_n 3, 1) by decide +kernel) rfl rfl,
  fun _ _ _ _ _ _ => r_iconst (show zdec 300 228 = some (.iconst 2, 1) by decide +kernel) rfl rfl,
  fun _ _ _ _ _ _ _ _ => r_iadd (show zdec 300 229 = some (.iadd, 1) by decide +kernel) rfl,
  fun _ _ _ _ _ _ _ _ => r_iald (show zdec 300 230 = some (.iaload, 1) by decide +kernel) rfl,
  fun _ _ _ _ _ _ => r_aload_n (show zdec 300 231 = some (.aload_n 0, 1) by decide +kernel) rfl rfl,
  fun _ _ _ _ _ _ => r_iload_n (show zdec 300 232 = some (.iload_n 3, 1) by decide +kernel) rfl rfl,
  fun _ _ _ _ _ _ => r_iconst (show zdec 300 233 = some (.iconst 3, 1) by decide +kernel) rfl rfl,
  fun _ _ _ _ _ _ _ _ => r_iadd (show zdec 300 234 = some (.iadd, 1) by decide +kernel) rfl,
  fun _ _ _ _ _ _ _ _ => r_iald (show zdec 300 235 = some (.iaload, 1) by decide +kernel) rfl,
  fun _ _ _ _ _ _ _ _ _ _ => r_cV [_, _, _] rfl (show zdec 300 236 = some (.invokevirtual 13, 3) by decide +kernel) (show zst.lookup (300 * zKEY + 13) = some (1, 16, 3, 11) by decide +kernel) (by decide) rfl,
  fun _ _ _ _ _ _ => r_aload_n (show zdec 300 239 = some (.aload_n 2, 1) by decide +kernel) rfl rfl,
  fun _ _ _ _ _ _ => r_aload_n (show zdec 300 240 = some (.aload_n 0, 1) by decide +kernel) rfl rfl,
  fun _ _ _ _ _ _ => r_iload_n (show zdec 300 241 = some (.iload_n 3, 1) by decide +kernel) rfl rfl,
  fun _ _ _ _ _ _ => r_iconst (show zdec 300 242 = some (.iconst 1, 1) by decide +kernel) rfl rfl,
  fun _ _ _ _ _ _ _ _ => r_iadd (show zdec 300 243 = some (.iadd, 1) by decide +kernel) rfl,
  fun _ _ _ _ _ _ _ _ => r_iald (show zdec 300 244 = some (.iaload, 1) by decide +kernel) rfl,
  fun _ _ _ _ _ _ => r_aload_n (show zdec 300 245 = some (.aload_n 0, 1) by decide +kernel) rfl rfl,
  fun _ _ _ _ _ _ => r_iload_n (show zdec 300 246 = some (.iload_n 3, 1) by decide +kernel) rfl rfl,
  fun _ _ _ _ _ _ => r_iconst (show zdec 300 247 = some (.iconst 2, 1) by decide +kernel) rfl rfl,
  fun _ _ _ _ _ _ _ _ => r_iadd (show zdec 300 248 = some (.iadd, 1) by decide +kernel) rfl,
  fun _ _ _ _ _ _ _ _ => r_iald (show zdec 300 249 = some (.iaload, 1) by decide +kernel) rfl,
  fun _ _ _ _ _ _ => r_aload_n (show zdec 300 250 = some (.aload_n 0, 1) by decide +kernel) rfl rfl,
  fun _ _ _ _ _ _ => r_iload_n (show zdec 300 251 = some (.iload_n 3, 1) by decide +kernel) rfl rfl,
  fun _ _ _ _ _ _ => r_iconst (show zdec 300 252 = some (.iconst 3, 1) by decide +kernel) rfl rfl,
  fun _ _ _ _ _ _ _ _ => r_iadd (show zdec 300 253 = some (.iadd, 1) by decide +kernel) rfl,
  fun _ _ _ _ _ _ _ _ => r_iald (show zdec 300 254 = some (.iaload, 1) by decide +kernel) rfl,
  fun _ _ _ _ _ _ _ _ _ _ => r_cV [_, _, _] rfl (show zdec 300 255 = some (.invokevirtual 17, 3) by decide +kernel) (show zst.lookup (300 * zKEY + 17) = some (1, 209, 3, 12) by decide +kernel) (by decide) rfl,
  fun _ _ _ _ _ _ _ _ => r_icmpeq (show zdec 300 258 = some (.if_icmp .eq 1304, 3) by decide +kernel) rfl rfl,
  fun _ _ _ _ _ _ => r_iconst (show zdec 300 261 = some (.iconst 0, 1) by decide +kernel) rfl rfl,
  fun _ _ _ _ _ _ => r_iretb (show zdec 300 262 = some (.ireturn, 1) by decide +kernel) (by decide +kernel),
  fun _ _ _ _ _ _ => r_aload_n (show zdec 300 263 = some (.aload_n 1, 1) by decide +kernel) rfl rfl,
  fun _ _ _ _ _ _ => r_aload_n (show zdec 300 264 = some (.aload_n 0, 1) by decide +kernel) rfl rfl,
  fun _ _ _ _ _ _ => r_iload_n (show zdec 300 265 = some (.iload_n 3, 1) by decide +kernel) rfl rfl,
  fun _ _ _ _ _ _ => r_iconst (show zdec 300 266 = some (.iconst 1, 1) by decide +kernel) rfl rfl,
  fun _ _ _ _ _ _ _ _ => r_iadd (show zdec 300 267 = some (.iadd, 1) by decide +kernel) rfl,
  fun _ _ _ _ _ _ _ _ => r_iald (show zdec 300 268 = some (.iaload, 1) by decide +kernel) rfl,
  fun _ _ _ _ _ _ => r_aload_n (show zdec 300 269 = some (.aload_n 0, 1) by decide +kernel) rfl rfl,
  fun _ _ _ _ _ _ => r_iload_n (show zdec 300 270 = some (.iload_n 3, 1) by decide +kernel) rfl rfl,
  fun _ _ _ _ _ _ => r_iconst (show zdec 300 271 = some (.iconst 2, 1) by decide +kernel) rfl rfl,
  fun _ _ _ _ _ _ _ _ => r_iadd (show zdec 300 272 = some (.iadd, 1) by decide +kernel) rfl,
  fun _ _ _ _ _ _ _ _ => r_iald (show zdec 300 273 = some (.iaload, 1) by decide +kernel) rfl,
  fun _ _ _ _ _ _ => r_aload_n (show zdec 300 274 = some (.aload_n 0, 1) by decide +kernel) rfl rfl,
  fun _ _ _ _ _ _ => r_iload_n (show zdec 300 275 = some (.iload_n 3, 1) by decide +kernel) rfl rfl,
  fun _ _ _ _ _ _ => r_iconst (show zdec 300 276 = some (.iconst 3, 1) by decide +kernel) rfl rfl,
  fun _ _ _ _ _ _ _ _ => r_iadd (show zdec 300 277 = some (.iadd, 1) by decide +kernel) rfl,
  fun _ _ _ _ _ _ _ _ => r_iald (show zdec 300 278 = some (.iaload, 1) by decide +kernel) rfl,
  fun _ _ _ _ _ _ _ _ _ _ => r_cV [_, _, _] rfl (show zdec 300 279 = some (.invokevirtual 18, 3) by decide +kernel) (show zst.lookup (300 * zKEY + 18) = some (1, 29, 3, 11) by decide +kernel) (by decide) rfl,
  fun _ _ _ _ _ _ => r_aload_n (show zdec 300 282 = some (.aload_n 2, 1) by decide +kernel) rfl rfl,
  fun _ _ _ _ _ _ => r_aload_n (show zdec 300 283 = some (.aload_n 0, 1) by decide +kernel) rfl rfl,
  fun _ _ _ _ _ _ => r_iload_n (show zdec 300 284 = some (.iload_n 3, 1) by decide +kernel) rfl rfl,
  fun _ _ _ _ _ _ => r_iconst (show zdec 300 285 = some (.iconst 1, 1) by decide +kernel) rfl rfl,
  fun _ _ _ _ _ _ _ _ => r_iadd (show zdec 300 286 = some (.iadd, 1) by decide +kernel) rfl,
  fun _ _ _ _ _ _ _ _ => r_iald (show zdec 300 287 = some (.iaload, 1) by decide +kernel) rfl,
  fun _ _ _ _ _ _ => r_aload_n (show zdec 300 288 = some (.aload_n 0, 1) by decide +kernel) rfl rfl,
  fun _ _ _ _ _ _ => r_iload_n (show zdec 300 289 = some (.iload_n 3, 1) by decide +kernel) rfl rfl,
  fun _ _ _ _ _ _ => r_iconst (show zdec 300 290 = some (.iconst 2, 1) by decide +kernel) rfl rfl,
  fun _ _ _ _ _ _ _ _ => r_iadd (show zdec 300 291 = some (.iadd, 1) by decide +kernel) rfl,
  fun _ _ _ _ _ _ _ _ => r_iald (show zdec 300 292 = some (.iaload, 1) by decide +kernel) rfl,
  fun _ _ _ _ _ _ => r_aload_n (show zdec 300 293 = some (.aload_n 0, 1) by decide +kernel) rfl rfl,
  fun _ _ _ _ _ _ => r_iload_n (show zdec 300 294 = some (.iload_n 3, 1) by decide +kernel) rfl rfl,
  fun _ _ _ _ _ _ => r_iconst (show zdec 300 295 = some (.iconst 3, 1) by decide +kernel) rfl rfl,
  fun _ _ _ _ _ _ _ _ => r_iadd (show zdec 300 296 = some (.iadd, 1) by decide +kernel) rfl,
  fun _ _ _ _ _ _ _ _ => r_iald (show zdec 300 297 = some (.iaload, 1) by decide +kernel) rfl,
  fun _ _ _ _ _ _ _ _ _ _ => r_cV [_, _, _] rfl (show zdec 300 298 = some (.invokevirtual 21, 3) by decide +kernel) (show zst.lookup (300 * zKEY + 21) = some (1, 216, 3, 12) by decide +kernel) (by decide) rfl,
  fun _ _ _ _ _ _ _ _ => r_icmpeq (show zdec 300 301 = some (.if_icmp .eq 1261, 3) by decide +kernel) rfl rfl,
  fun _ _ _ _ _ _ => r_iconst (show zdec 300 304 = some (.iconst 0, 1) by decide +kernel) rfl rfl,
  fun _ _ _ _ _ _ => r_iretb (show zdec 300 305 = some (.ireturn, 1) by decide +kernel) (by decide +kernel),
  fun _ _ _ _ _ _ => r_aload_n (show zdec 300 306 = some (.aload_n 1, 1) by decide +kernel) rfl rfl,
  fun _ _ _ _ _ _ => r_aload_n (show zdec 300 307 = some (.aload_n 0, 1) by decide +kernel) rfl rfl,
  fun _ _ _ _ _ _ => r_iload_n (show zdec 300 308 = some (.iload_n 3, 1) by decide +kernel) rfl rfl,
  fun _ _ _ _ _ _ => r_iconst (show zdec 300 309 = some (.iconst 1, 1) by decide +kernel) rfl rfl,
  fun _ _ _ _ _ _ _ _ => r_iadd (show zdec 300 310 = some (.iadd, 1) by decide +kernel) rfl,
  fun _ _ _ _ _ _ _ _ => r_iald (show zdec 300 311 = some (.iaload, 1) by decide +kernel) rfl,
  fun _ _ _ _ _ _ => r_aload_n (show zdec 300 312 = some (.aload_n 0, 1) by decide +kernel) rfl rfl,
  fun _ _ _ _ _ _ => r_iload_n (show zdec 300 313 = some (.iload_n 3, 1) by decide +kernel) rfl rfl,
  fun _ _ _ _ _ _ => r_iconst (show zdec 300 314 = some (.iconst 2, 1) by decide +kernel) rfl rfl,
  fun _ _ _ _ _ _ _ _ => r_iadd (show zdec 300 315 = some (.iadd, 1) by decide +kernel) rfl,
  fun _ _ _ _ _ _ _ _ => r_iald (show zdec 300 316 = some (.iaload, 1) by decide +kernel) rfl,
  fun _ _ _ _ _ _ => r_aload_n (show zdec 300 317 = some (.aload_n 0, 1) by decide +kernel) rfl rfl,
  fun _ _ _ _ _ _ => r_iload_n (show zdec 300 318 = some (.iload_n 3, 1) by decide +kernel) rfl rfl,
  fun _ _ _ _ _ _ => r_iconst (show zdec 300 319 = some (.iconst 3, 1) by decide +kernel) rfl rfl,
  fun _ _ _ _ _ _ _ _ => r_iadd (show zdec 300 320 = some (.iadd, 1) by decide +kernel) rfl,
  fun _ _ _ _ _ _ _ _ => r_iald (show zdec 300 321 = some (.iaload, 1) by decide +kernel) rfl,
  fun _ _ _ _ _ _ _ _ _ _ => r_cV [_, _, _] rfl (show zdec 300 322 = some (.invokevirtual 22, 3) by decide +kernel) (show zst.lookup (300 * zKEY + 22) = some (1, 31, 3, 11) by decide +kernel) (by decide) rfl,
  fun _ _ _ _ _ _ => r_aload_n (show zdec 300 325 = some (.aload_n 2, 1) by decide +kernel) rfl rfl,
  fun _ _ _ _ _ _ => r_aload_n (show zdec 300 326 = some (.aload_n 0, 1) by decide +kernel) rfl rfl,
  fun _ _ _ _ _ _ => r_iload_n (show zdec 300 327 = some (.iload_n 3, 1) by decide +kernel) rfl rfl,
  fun _ _ _ _ _ _ => r_iconst (show zdec 300 328 = some (.iconst 1, 1) by decide +kernel) rfl rfl,
  fun _ _ _ _ _ _ _ _ => r_iadd (show zdec 300 329 = some (.iadd, 1) by decide +kernel) rfl,
  fun _ _ _ _ _ _ _ _ => r_iald (show zdec 300 330 = some (.iaload, 1) by decide +kernel) rfl,
  fun _ _ _ _ _ _ => r_aload_n (show zdec 300 331 = some (.aload_n 0, 1) by decide +kernel) rfl rfl,
  fun _ _ _ _ _ _ => r_iload_n (show zdec 300 332 = some (.iload_n 3, 1) by decide +kernel) rfl rfl,
  fun _ _ _ _ _ _ => r_iconst (show zdec 300 333 = some (.iconst 2, 1) by decide +kernel) rfl rfl,
  fun _ _ _ _ _ _ _ _ => r_iadd (show zdec 300 334 = some (.iadd, 1) by decide +kernel) rfl,
  fun _ _ _ _ _ _ _ _ => r_iald (show zdec 300 335 = some (.iaload, 1) by decide +kernel) rfl,
  fun _ _ _ _ _ _ => r_aload_n (show zdec 300 336 = some (.aload_n 0, 1) by decide +kernel) rfl rfl,
  fun _ _ _ _ _ _ => r_iload_n (show zdec 300 337 = some (.iload_n 3, 1) by decide +kernel) rfl rfl,
  fun _ _ _ _ _ _ => r_iconst (show zdec 300 338 = some (.iconst 3, 1) by decide +kernel) rfl rfl,
  fun _ _ _ _ _ _ _ _ => r_iadd (show zdec 300 339 = some (.iadd, 1) by decide +kernel) rfl,
  fun _ _ _ _ _ _ _ _ => r_iald (show zdec 300 340 = some (.iaload, 1) by decide +kernel) rfl,
  fun _ _ _ _ _ _ _ _ _ _ => r_cV [_, _, _] rfl (show zdec 300 341 = some (.invokevirtual 25, 3) by decide +kernel) (show zst.lookup (300 * zKEY + 25) = some (1, 217, 3, 12) by decide +kernel) (by decide) rfl,
  fun _ _ _ _ _ _ _ _ => r_icmpeq (show zdec 300 344 = some (.if_icmp .eq 1218, 3) by decide +kernel) rfl rfl,
  fun _ _ _ _ _ _ => r_iconst (show zdec 300 347 = some (.iconst 0, 1) by decide +kernel) rfl rfl,
  fun _ _ _ _ _ _ => r_iretb (show zdec 300 348 = some (.ireturn, 1) by decide +kernel) (by decide +kernel),
  fun _ _ _ _ _ _ => r_aload_n (show zdec 300 349 = some (.aload_n 1, 1) by decide +kernel) rfl rfl,
  fun _ _ _ _ _ _ => r_aload_n (show zdec 300 350 = some (.aload_n 0, 1) by decide +kernel) rfl rfl,
  fun _ _ _ _ _ _ => r_iload_n (show zdec 300 351 = some (.iload_n 3, 1) by decide +kernel) rfl rfl,
  fun _ _ _ _ _ _ => r_iconst (show zdec 300 352 = some (.iconst 1, 1) by decide +kernel) rfl rfl,
  fun _ _ _ _ _ _ _ _ => r_iadd (show zdec 300 353 = some (.iadd, 1) by decide +kernel) rfl,
  fun _ _ _ _ _ _ _ _ => r_iald (show zdec 300 354 = some (.iaload, 1) by decide +kernel) rfl,
  fun _ _ _ _ _ _ => r_aload_n (show zdec 300 355 = some (.aload_n 0, 1) by decide +kernel) rfl rfl,
  fun _ _ _ _ _ _ => r_iload_n (show zdec 300 356 = some (.iload_n 3, 1) by decide +kernel) rfl rfl,
  fun _ _ _ _ _ _ => r_iconst (show zdec 300 357 = some (.iconst 2, 1) by decide +kernel) rfl rfl,
  fun _ _ _ _ _ _ _ _ => r_iadd (show zdec 300 358 = some (.iadd, 1) by decide +kernel) rfl,
  fun _ _ _ _ _ _ _ _ => r_iald (show zdec 300 359 = some (.iaload, 1) by decide +kernel) rfl,
  fun _ _ _ _ _ _ _ _ _ => r_cV [_, _] rfl (show zdec 300 360 = some (.invokevirtual 26, 3) by decide +kernel) (show zst.lookup (300 * zKEY + 26) = some (1, 33, 2, 11) by decide +kernel) (by decide) rfl,
  fun _ _ _ _ _ _ => r_aload_n (show zdec 300 363 = some (.aload_n 2, 1) by decide +kernel) rfl rfl,
  fun _ _ _ _ _ _ => r_aload_n (show zdec 300 364 = some (.aload_n 0, 1) by decide +kernel) rfl rfl,
  fun _ _ _ _ _ _ => r_iload_n (show zdec 300 365 = some (.iload_n 3, 1) by decide +kernel) rfl rfl,
  fun _ _ _ _ _ _ => r_iconst (show zdec 300 366 = some (.iconst 1, 1) by decide +kernel) rfl rfl,
  fun _ _ _ _ _ _ _ _ => r_iadd (show zdec 300 367 = some (.iadd, 1) by decide +kernel) rfl,
  fun _ _ _ _ _ _ _ _ => r_iald (show zdec 300 368 = some (.iaload, 1) by decide +kernel) rfl,
  fun _ _ _ _ _ _ => r_aload_n (show zdec 300 369 = some (.aload_n 0, 1) by decide +kernel) rfl rfl,
  fun _ _ _ _ _ _ => r_iload_n (show zdec 300 370 = some (.iload_n 3, 1) by decide +kernel) rfl rfl,
  fun _ _ _ _ _ _ => r_iconst (show zdec 300 371 = some (.iconst 2, 1) by decide +kernel) rfl rfl,
  fun _ _ _ _ _ _ _ _ => r_iadd (show zdec 300 372 = some (.iadd, 1) by decide +kernel) rfl,
  fun _ _ _ _ _ _ _ _ => r_iald (show zdec 300 373 = some (.iaload, 1) by decide +kernel) rfl,
  fun _ _ _ _ _ _ _ _ _ => r_cV [_, _] rfl (show zdec 300 374 = some (.invokevirtual 30, 3) by decide +kernel) (show zst.lookup (300 * zKEY + 30) = some (1, 218, 2, 12) by decide +kernel) (by decide) rfl,
  fun _ _ _ _ _ _ _ _ => r_icmpeq (show zdec 300 377 = some (.if_icmp .eq 1185, 3) by decide +kernel) rfl rfl,
  fun _ _ _ _ _ _ => r_iconst (show zdec 300 380 = some (.iconst 0, 1) by decide +kernel) rfl rfl,
  fun _ _ _ _ _ _ => r_iretb (show zdec 300 381 = some (.ireturn, 1) by decide +kernel) (by decide +kernel),
  fun _ _ _ _ _ _ => r_aload_n (show zdec 300 382 = some (.aload_n 1, 1) by decide +kernel) rfl rfl,
  fun _ _ _ _ _ _ => r_aload_n (show zdec 300 383 = some (.aload_n 0, 1) by decide +kernel) rfl rfl,
  fun _ _ _ _ _ _ => r_iload_n (show zdec 300 384 = some (.iload_n 3, 1) by decide +kernel) rfl rfl,
  fun _ _ _ _ _ _ => r_iconst (show zdec 300 385 = some (.iconst 1, 1) by decide +kernel) rfl rfl,
  fun _ _ _ _ _ _ _ _ => r_iadd (show zdec 300 386 = some (.iadd, 1) by decide +kernel) rfl,
  fun _ _ _ _ _ _ _ _ => r_iald (show zdec 300 387 = some (.iaload, 1) by decide +kernel) rfl,
  fun _ _ _ _ _ _ => r_aload_n (show zdec 300 388 = some (.aload_n 0, 1) by decide +kernel) rfl rfl,
  fun _ _ _ _ _ _ => r_iload_n (show zdec 300 389 = some (.iload_n 3, 1) by decide +kernel) rfl rfl,
  fun _ _ _ _ _ _ => r_iconst (show zdec 300 390 = some (.iconst 2, 1) by decide +kernel) rfl rfl,
  fun _ _ _ _ _ _ _ _ => r_iadd (show zdec 300 391 = some (.iadd, 1) by decide +kernel) rfl,
  fun _ _ _ _ _ _ _ _ => r_iald (show zdec 300 392 = some (.iaload, 1) by decide +kernel) rfl,
  fun _ _ _ _ _ _ _ _ _ => r_cV [_, _] rfl (show zdec 300 393 = some (.invokevirtual 31, 3) by decide +kernel) (show zst.lookup (300 * zKEY + 31) = some (1, 35, 2, 11) by decide +kernel) (by decide) rfl,
  fun _ _ _ _ _ _ => r_aload_n (show zdec 300 396 = some (.aload_n 2, 1) by decide +kernel) rfl rfl,
  fun _ _ _ _ _ _ => r_aload_n (show zdec 300 397 = some (.aload_n 0, 1) by decide +kernel) rfl rfl,
  fun _ _ _ _ _ _ => r_iload_n (show zdec 300 398 = some (.iload_n 3, 1) by decide +kernel) rfl rfl,
  fun _ _ _ _ _ _ => r_iconst (show zdec 300 399 = some (.iconst 1, 1) by decide +kernel) rfl rfl,
  fun _ _ _ _ _ _ _ _ => r_iadd (show zdec 300 400 = some (.iadd, 1) by decide +kernel) rfl,
  fun _ _ _ _ _ _ _ _ => r_iald (show zdec 300 401 = some (.iaload, 1) by decide +kernel) rfl,
  fun _ _ _ _ _ _ => r_aload_n (show zdec 300 402 = some (.aload_n 0, 1) by decide +kernel) rfl rfl,
  fun _ _ _ _ _ _ => r_iload_n (show zdec 300 403 = some (.iload_n 3, 1) by decide +kernel) rfl rfl,
  fun _ _ _ _ _ _ => r_iconst (show zdec 300 404 = some (.iconst 2, 1) by decide +kernel) rfl rfl,
  fun _ _ _ _ _ _ _ _ => r_iadd (show zdec 300 405 = some (.iadd, 1) by decide +kernel) rfl,
  fun _ _ _ _ _ _ _ _ => r_iald (show zdec 300 406 = some (.iaload, 1) by decide +kernel) rfl,
  fun _ _ _ _ _ _ _ _ _ => r_cV [_, _] rfl (show zdec 300 407 = some (.invokevirtual 34, 3) by decide +kernel) (show zst.lookup (300 * zKEY + 34) = some (1, 219, 2, 12) by decide +kernel) (by decide) rfl,
  fun _ _ _ _ _ _ _ _ => r_icmpeq (show zdec 300 410 = some (.if_icmp .eq 1152, 3) by decide +kernel) rfl rfl,
  fun _ _ _ _ _ _ => r_iconst (show zdec 300 413 = some (.iconst 0, 1) by decide +kernel) rfl rfl,
  fun _ _ _ _ _ _ => r_iretb (show zdec 300 414 = some (.ireturn, 1) by decide +kernel) (by decide +kernel),
  fun _ _ _ _ _ _ => r_aload_n (show zdec 300 415 = some (.aload_n 1, 1) by decide +kernel) rfl rfl,
  fun _ _ _ _ _ _ => r_aload_n (show zdec 300 416 = some (.aload_n 0, 1) by decide +kernel) rfl rfl,
  fun _ _ _ _ _ _ => r_iload_n (show zdec 300 417 = some (.iload_n 3, 1) by decide +kernel) rfl rfl,
  fun _ _ _ _ _ _ => r_iconst (show zdec 300 418 = some (.iconst 1, 1) by decide +kernel) rfl rfl,
  fun _ _ _ _ _ _ _ _ => r_iadd (show zdec 300 419 = some (.iadd, 1) by decide +kernel) rfl,
  fun _ _ _ _ _ _ _ _ => r_iald (show zdec 300 420 = some (.iaload, 1) by decide +kernel) rfl,
  fun _ _ _ _ _ _ => r_aload_n (show zdec 300 421 = some (.aload_n 0, 1) by decide +kernel) rfl rfl,
  fun _ _ _ _ _ _ => r_iload_n (show zdec 300 422 = some (.iload_n 3, 1) by decide +kernel) rfl rfl,
  fun _ _ _ _ _ _ => r_iconst (show zdec 300 423 = some (.iconst 2, 1) by decide +kernel) rfl rfl,
  fun _ _ _ _ _ _ _ _ => r_iadd (show zdec 300 424 = some (.iadd, 1) by decide +kernel) rfl,
  fun _ _ _ _ _ _ _ _ => r_iald (show zdec 300 425 = some (.iaload, 1) by decide +kernel) rfl,
  fun _ _ _ _ _ _ _ _ _ => r_cV [_, _] rfl (show zdec 300 426 = some (.invokevirtual 35, 3) by decide +kernel) (show zst.lookup (300 * zKEY + 35) = some (1, 37, 2, 11) by decide +kernel) (by decide) rfl,
  fun _ _ _ _ _ _ => r_aload_n (show zdec 300 429 = some (.aload_n 2, 1) by decide +kernel) rfl rfl,
  fun _ _ _ _ _ _ => r_aload_n (show zdec 300 430 = some (.aload_n 0, 1) by decide +kernel) rfl rfl⟩
theorem zr_300_1 : (∀ (l0 l1 l2 : Value) (x : Int32) (S : List Value) (h : zH), rn 300 431 [l0, l1, l2, .int x] S h = rn 300 432 [l0, l1, l2, .int x] (.int x :: S) h) ∧
  (∀ (l0 l1 l2 l3 : Value) (S : List Value) (h : zH), rn 300 432 [l0, l1, l2, l3] S h = rn 300 433 [l0, l1, l2, l3] (.int (nI 1) :: S) h) ∧
  (∀ (l0 l1 l2 l3 : Value) (x : Int32) (y : Int32) (S : List Value) (h : zH), rn 300 433 [l0, l1, l2, l3] (.int y :: .int x :: S) h = rn 300 434 [l0, l1, l2, l3] (.int (x + y) :: S) h) ∧
  (∀ (l0 l1 l2 l3 : Value) (a : Nat) (j : Int32) (S : List Value) (h : zH), rn 300 434 [l0, l1, l2, l3] (.int j :: .ref a :: S) h = zli h a 0 j fun x => rn 300 435 [l0, l1, l2, l3] (.int x :: S) h) ∧
  (∀ (l0 l1 l2 l3 : Value) (S : List Value) (h : zH), rn 300 435 [l0, l1, l2, l3] S h = ldA l0 (rn 300 436 [l0, l1, l2, l3] (l0 :: S) h)) ∧
  (∀ (l0 l1 l2 : Value) (x : Int32) (S : List Value) (h : zH), rn 300 436 [l0, l1, l2, .int x] S h = rn 300 437 [l0, l1, l2, .int x] (.int x :: S) h) ∧
  (∀ (l0 l1 l2 l3 : Value) (S : List Value) (h : zH), rn 300 437 [l0, l1, l2, l3] S h = rn 300 438 [l0, l1, l2, l3] (.int (nI 2) :: S) h) ∧
  (∀ (l0 l1 l2 l3 : Value) (x : Int32) (y : Int32) (S : List Value) (h : zH), rn 300 438 [l0, l1, l2, l3] (.int y :: .int x :: S) h = rn 300 439 [l0, l1, l2, l3] (.int (x + y) :: S) h) ∧
  (∀ (l0 l1 l2 l3 : Value) (a : Nat) (j : Int32) (S : List Value) (h : zH), rn 300 439 [l0, l1, l2, l3] (.int j :: .ref a :: S) h = zli h a 0 j fun x => rn 300 440 [l0, l1, l2, l3] (.int x :: S) h) ∧
  (∀ (l0 l1 l2 l3 : Value) (o : Nat) (v0 : Value) (v1 : Value) (S : List Value) (h : zH), rn 300 440 [l0, l1, l2, l3] (v1 :: v0 :: .ref o :: S) h = if zkd h o = 12 ∧ zsum S ≤ 8 then zcall (ev 221 [.ref o, v0, v1] h) (fun v h => rn 300 443 [l0, l1, l2, l3] (zpush v S) h) else none) ∧
  (∀ (l0 l1 l2 l3 : Value) (x : Int32) (y : Int32) (S : List Value) (h : zH), rn 300 443 [l0, l1, l2, l3] (.int y :: .int x :: S) h = if x = y then rn 300 1562 [l0, l1, l2, l3] S h else rn 300 446 [l0, l1, l2, l3] S h) ∧
  (∀ (l0 l1 l2 l3 : Value) (S : List Value) (h : zH), rn 300 446 [l0, l1, l2, l3] S h = rn 300 447 [l0, l1, l2, l3] (.int (nI 0) :: S) h) ∧
  (∀ (l0 l1 l2 l3 : Value) (x : Int32) (h : zH), rn 300 447 [l0, l1, l2, l3] [.int x] h = if x = nI 0 ∨ x = nI 1 then some (some (.int x), h) else none) ∧
  (∀ (l0 l1 l2 l3 : Value) (S : List Value) (h : zH), rn 300 448 [l0, l1, l2, l3] S h = ldA l1 (rn 300 449 [l0, l1, l2, l3] (l1 :: S) h)) ∧
  (∀ (l0 l1 l2 l3 : Value) (S : List Value) (h : zH), rn 300 449 [l0, l1, l2, l3] S h = ldA l0 (rn 300 450 [l0, l1, l2, l3] (l0 :: S) h)) ∧
  (∀ (l0 l1 l2 : Value) (x : Int32) (S : List Value) (h : zH), rn 300 450 [l0, l1, l2, .int x] S h = rn 300 451 [l0, l1, l2, .int x] (.int x :: S) h) ∧
  (∀ (l0 l1 l2 l3 : Value) (S : List Value) (h : zH), rn 300 451 [l0, l1, l2, l3] S h = rn 300 452 [l0, l1, l2, l3] (.int (nI 1) :: S) h) ∧
  (∀ (l0 l1 l2 l3 : Value) (x : Int32) (y : Int32) (S : List Value) (h : zH), rn 300 452 [l0, l1, l2, l3] (.int y :: .int x :: S) h = rn 300 453 [l0, l1, l2, l3] (.int (x + y) :: S) h) ∧
  (∀ (l0 l1 l2 l3 : Value) (a : Nat) (j : Int32) (S : List Value) (h : zH), rn 300 453 [l0, l1, l2, l3] (.int j :: .ref a :: S) h = zli h a 0 j fun x => rn 300 454 [l0, l1, l2, l3] (.int x :: S) h) ∧
  (∀ (l0 l1 l2 l3 : Value) (S : List Value) (h : zH), rn 300 454 [l0, l1, l2, l3] S h = ldA l0 (rn 300 455 [l0, l1, l2, l3] (l0 :: S) h)) ∧
  (∀ (l0 l1 l2 : Value) (x : Int32) (S : List Value) (h : zH), rn 300 455 [l0, l1, l2, .int x] S h = rn 300 456 [l0, l1, l2, .int x] (.int x :: S) h) ∧
  (∀ (l0 l1 l2 l3 : Value) (S : List Value) (h : zH), rn 300 456 [l0, l1, l2, l3] S h = rn 300 457 [l0, l1, l2, l3] (.int (nI 2) :: S) h) ∧
  (∀ (l0 l1 l2 l3 : Value) (x : Int32) (y : Int32) (S : List Value) (h : zH), rn 300 457 [l0, l1, l2, l3] (.int y :: .int x :: S) h = rn 300 458 [l0, l1, l2, l3] (.int (x + y) :: S) h) ∧
  (∀ (l0 l1 l2 l3 : Value) (a : Nat) (j : Int32) (S : List Value) (h : zH), rn 300 458 [l0, l1, l2, l3] (.int j :: .ref a :: S) h = zli h a 0 j fun x => rn 300 459 [l0, l1, l2, l3] (.int x :: S) h) ∧
  (∀ (l0 l1 l2 l3 : Value) (o : Nat) (v0 : Value) (v1 : Value) (S : List Value) (h : zH), rn 300 459 [l0, l1, l2, l3] (v1 :: v0 :: .ref o :: S) h = if zkd h o = 11 ∧ zsum S ≤ 8 then zcall (ev 39 [.ref o, v0, v1] h) (fun v h => rn 300 462 [l0, l1, l2, l3] (zpush v S) h) else none) ∧
  (∀ (l0 l1 l2 l3 : Value) (S : List Value) (h : zH), rn 300 462 [l0, l1, l2, l3] S h = ldA l2 (rn 300 463 [l0, l1, l2, l3] (l2 :: S) h)) ∧
  (∀ (l0 l1 l2 l3 : Value) (S : List Value) (h : zH), rn 300 463 [l0, l1, l2, l3] S h = ldA l0 (rn 300 464 [l0, l1, l2, l3] (l0 :: S) h)) ∧
  (∀ (l0 l1 l2 : Value) (x : Int32) (S : List Value) (h : zH), rn 300 464 [l0, l1, l2, .int x] S h = rn 300 465 [l0, l1, l2, .int x] (.int x :: S) h) ∧
  (∀ (l0 l1 l2 l3 : Value) (S : List Value) (h : zH), rn 300 465 [l0, l1, l2, l3] S h = rn 300 466 [l0, l1, l2, l3] (.int (nI 1) :: S) h) ∧
  (∀ (l0 l1 l2 l3 : Value) (x : Int32) (y : Int32) (S : List Value) (h : zH), rn 300 466 [l0, l1, l2, l3] (.int y :: .int x :: S) h = rn 300 467 [l0, l1, l2, l3] (.int (x + y) :: S) h) ∧
  (∀ (l0 l1 l2 l3 : Value) (a : Nat) (j : Int32) (S : List Value) (h : zH), rn 300 467 [l0, l1, l2, l3] (.int j :: .ref a :: S) h = zli h a 0 j fun x => rn 300 468 [l0, l1, l2, l3] (.int x :: S) h) ∧
  (∀ (l0 l1 l2 l3 : Value) (S : List Value) (h : zH), rn 300 468 [l0, l1, l2, l3] S h = ldA l0 (rn 300 469 [l0, l1, l2, l3] (l0 :: S) h)) ∧
  (∀ (l0 l1 l2 : Value) (x : Int32) (S : List Value) (h : zH), rn 300 469 [l0, l1, l2, .int x] S h = rn 300 470 [l0, l1, l2, .int x] (.int x :: S) h) ∧
  (∀ (l0 l1 l2 l3 : Value) (S : List Value) (h : zH), rn 300 470 [l0, l1, l2, l3] S h = rn 300 471 [l0, l1, l2, l3] (.int (nI 2) :: S) h) ∧
  (∀ (l0 l1 l2 l3 : Value) (x : Int32) (y : Int32) (S : List Value) (h : zH), rn 300 471 [l0, l1, l2, l3] (.int y :: .int x :: S) h = rn 300 472 [l0, l1, l2, l3] (.int (x + y) :: S) h) ∧
  (∀ (l0 l1 l2 l3 : Value) (a : Nat) (j : Int32) (S : List Value) (h : zH), rn 300 472 [l0, l1, l2, l3] (.int j :: .ref a :: S) h = zli h a 0 j fun x => rn 300 473 [l0, l1, l2, l3] (.int x :: S) h) ∧
  (∀ (l0 l1 l2 l3 : Value) (o : Nat) (v0 : Value) (v1 : Value) (S : List Value) (h : zH), rn 300 473 [l0, l1, l2, l3] (v1 :: v0 :: .ref o :: S) h = if zkd h o = 12 ∧ zsum S ≤ 8 then zcall (ev 222 [.ref o, v0, v1] h) (fun v h => rn 300 476 [l0, l1, l2, l3] (zpush v S) h) else none) ∧
  (∀ (l0 l1 l2 l3 : Value) (x : Int32) (y : Int32) (S : List Value) (h : zH), rn 300 476 [l0, l1, l2, l3] (.int y :: .int x :: S) h = if x = y then rn 300 1562 [l0, l1, l2, l3] S h else rn 300 479 [l0, l1, l2, l3] S h) ∧
  (∀ (l0 l1 l2 l3 : Value) (S : List Value) (h : zH), rn 300 479 [l0, l1, l2, l3] S h = rn 300 480 [l0, l1, l2, l3] (.int (nI 0) :: S) h) ∧
  (∀ (l0 l1 l2 l3 : Value) (x : Int32) (h : zH), rn 300 480 [l0, l1, l2, l3] [.int x] h = if x = nI 0 ∨ x = nI 1 then some (some (.int x), h) else none) ∧
  (∀ (l0 l1 l2 l3 : Value) (S : List Value) (h : zH), rn 300 481 [l0, l1, l2, l3] S h = ldA l1 (rn 300 482 [l0, l1, l2, l3] (l1 :: S) h)) ∧
  (∀ (l0 l1 l2 l3 : Value) (o : Nat) (S : List Value) (h : zH), rn 300 482 [l0, l1, l2, l3] (.ref o :: S) h = if zkd h o = 11 ∧ zsum S ≤ 8 then zcall (ev 42 [.ref o] h) (fun v h => rn 300 485 [l0, l1, l2, l3] (zpush v S) h) else none) ∧
  (∀ (l0 l1 l2 l3 : Value) (S : List Value) (h : zH), rn 300 485 [l0, l1, l2, l3] S h = ldA l2 (rn 300 486 [l0, l1, l2, l3] (l2 :: S) h)) ∧
  (∀ (l0 l1 l2 l3 : Value) (o : Nat) (S : List Value) (h : zH), rn 300 486 [l0, l1, l2, l3] (.ref o :: S) h = if zkd h o = 12 ∧ zsum S ≤ 8 then zcall (ev 223 [.ref o] h) (fun v h => rn 300 489 [l0, l1, l2, l3] (zpush v S) h) else none) ∧
  (∀ (l0 l1 l2 l3 : Value) (x : Int32) (y : Int32) (S : List Value) (h : zH), rn 300 489 [l0, l1, l2, l3] (.int y :: .int x :: S) h = if x = y then rn 300 1562 [l0, l1, l2, l3] S h else rn 300 492 [l0, l1, l2, l3] S h) ∧
  (∀ (l0 l1 l2 l3 : Value) (S : List Value) (h : zH), rn 300 492 [l0, l1, l2, l3] S h = rn 300 493 [l0, l1, l2, l3] (.int (nI 0) :: S) h) ∧
  (∀ (l0 l1 l2 l3 : Value) (x : Int32) (h : zH), rn 300 493 [l0, l1, l2, l3] [.int x] h = if x = nI 0 ∨ x = nI 1 then some (some (.int x), h) else none) ∧
  (∀ (l0 l1 l2 l3 : Value) (S : List Value) (h : zH), rn 300 494 [l0, l1, l2, l3] S h = ldA l1 (rn 300 495 [l0, l1, l2, l3] (l1 :: S) h)) ∧
  (∀ (l0 l1 l2 l3 : Value) (S : List Value) (h : zH), rn 300 495 [l0, l1, l2, l3] S h = ldA l0 (rn 300 496 [l0, l1, l2, l3] (l0 :: S) h)) ∧
  (∀ (l0 l1 l2 : Value) (x : Int32) (S : List Value) (h : zH), rn 300 496 [l0, l1, l2, .int x] S h = rn 300 497 [l0, l1, l2, .int x] (.int x :: S) h) ∧
  (∀ (l0 l1 l2 l3 : Value) (S : List Value) (h : zH), rn 300 497 [l0, l1, l2, l3] S h = rn 300 498 [l0, l1, l2, l3] (.int (nI 1) :: S) h) ∧
  (∀ (l0 l1 l2 l3 : Value) (x : Int32) (y : Int32) (S : List Value) (h : zH), rn 300 498 [l0, l1, l2, l3] (.int y :: .int x :: S) h = rn 300 499 [l0, l1, l2, l3] (.int (x + y) :: S) h) ∧
  (∀ (l0 l1 l2 l3 : Value) (a : Nat) (j : Int32) (S : List Value) (h : zH), rn 300 499 [l0, l1, l2, l3] (.int j :: .ref a :: S) h = zli h a 0 j fun x => rn 300 500 [l0, l1, l2, l3] (.int x :: S) h) ∧
  (∀ (l0 l1 l2 l3 : Value) (S : List Value) (h : zH), rn 300 500 [l0, l1, l2, l3] S h = ldA l0 (rn 300 501 [l0, l1, l2, l3] (l0 :: S) h)) ∧
  (∀ (l0 l1 l2 : Value) (x : Int32) (S : List Value) (h : zH), rn 300 501 [l0, l1, l2, .int x] S h = rn 300 502 [l0, l1, l2, .int x] (.int x :: S) h) ∧
  (∀ (l0 l1 l2 l3 : Value) (S : List Value) (h : zH), rn 300 502 [l0, l1, l2, l3] S h = rn 300 503 [l0, l1, l2, l3] (.int (nI 2) :: S) h) ∧
  (∀ (l0 l1 l2 l3 : Value) (x : Int32) (y : Int32) (S : List Value) (h : zH), rn 300 503 [l0, l1, l2, l3] (.int y :: .int x :: S) h = rn 300 504 [l0, l1, l2, l3] (.int (x + y) :: S) h) ∧
  (∀ (l0 l1 l2 l3 : Value) (a : Nat) (j : Int32) (S : List Value) (h : zH), rn 300 504 [l0, l1, l2, l3] (.int j :: .ref a :: S) h = zli h a 0 j fun x => rn 300 505 [l0, l1, l2, l3] (.int x :: S) h) ∧
  (∀ (l0 l1 l2 l3 : Value) (S : List Value) (h : zH), rn 300 505 [l0, l1, l2, l3] S h = ldA l0 (rn 300 506 [l0, l1, l2, l3] (l0 :: S) h)) ∧
  (∀ (l0 l1 l2 : Value) (x : Int32) (S : List Value) (h : zH), rn 300 506 [l0, l1, l2, .int x] S h = rn 300 507 [l0, l1, l2, .int x] (.int x :: S) h) ∧
  (∀ (l0 l1 l2 l3 : Value) (S : List Value) (h : zH), rn 300 507 [l0, l1, l2, l3] S h = rn 300 508 [l0, l1, l2, l3] (.int (nI 3) :: S) h) ∧
  (∀ (l0 l1 l2 l3 : Value) (x : Int32) (y : Int32) (S : List Value) (h : zH), rn 300 508 [l0, l1, l2, l3] (.int y :: .int x :: S) h = rn 300 509 [l0, l1, l2, l3] (.int (x + y) :: S) h) ∧
  (∀ (l0 l1 l2 l3 : Value) (a : Nat) (j : Int32) (S : List Value) (h : zH), rn 300 509 [l0, l1, l2, l3] (.int j :: .ref a :: S) h = zli h a 0 j fun x => rn 300 510 [l0, l1, l2, l3] (.int x :: S) h) ∧
  (∀ (l0 l1 l2 l3 : Value) (o : Nat) (v0 : Value) (v1 : Value) (v2 : Value) (S : List Value) (h : zH), rn 300 510 [l0, l1, l2, l3] (v2 :: v1 :: v0 :: .ref o :: S) h = if zkd h o = 11 ∧ zsum S ≤ 8 then zcall (ev 44 [.ref o, v0, v1, v2] h) (fun v h => rn 300 513 [l0, l1, l2, l3] (zpush v S) h) else none) ∧
  (∀ (l0 l1 l2 l3 : Value) (S : List Value) (h : zH), rn 300 513 [l0, l1, l2, l3] S h = ldA l2 (rn 300 514 [l0, l1, l2, l3] (l2 :: S) h)) ∧
  (∀ (l0 l1 l2 l3 : Value) (S : List Value) (h : zH), rn 300 514 [l0, l1, l2, l3] S h = ldA l0 (rn 300 515 [l0, l1, l2, l3] (l0 :: S) h)) ∧
  (∀ (l0 l1 l2 : Value) (x : Int32) (S : List Value) (h : zH), rn 300 515 [l0, l1, l2, .int x] S h = rn 300 516 [l0, l1, l2, .int x] (.int x :: S) h) ∧
  (∀ (l0 l1 l2 l3 : Value) (S : List Value) (h : zH), rn 300 516 [l0, l1, l2, l3] S h = rn 300 517 [l0, l1, l2, l3] (.int (nI 1) :: S) h) ∧
  (∀ (l0 l1 l2 l3 : Value) (x : Int32) (y : Int32) (S : List Value) (h : zH), rn 300 517 [l0, l1, l2, l3] (.int y :: .int x :: S) h = rn 300 518 [l0, l1, l2, l3] (.int (x + y) :: S) h) ∧
  (∀ (l0 l1 l2 l3 : Value) (a : Nat) (j : Int32) (S : List Value) (h : zH), rn 300 518 [l0, l1, l2, l3] (.int j :: .ref a :: S) h = zli h a 0 j fun x => rn 300 519 [l0, l1, l2, l3] (.int x :: S) h) ∧
  (∀ (l0 l1 l2 l3 : Value) (S : List Value) (h : zH), rn 300 519 [l0, l1, l2, l3] S h = ldA l0 (rn 300 520 [l0, l1, l2, l3] (l0 :: S) h)) ∧
  (∀ (l0 l1 l2 : Value) (x : Int32) (S : List Value) (h : zH), rn 300 520 [l0, l1, l2, .int x] S h = rn 300 521 [l0, l1, l2, .int x] (.int x :: S) h) ∧
  (∀ (l0 l1 l2 l3 : Value) (S : List Value) (h : zH), rn 300 521 [l0, l1, l2, l3] S h = rn 300 522 [l0, l1, l2, l3] (.int (nI 2) :: S) h) ∧
  (∀ (l0 l1 l2 l3 : Value) (x : Int32) (y : Int32) (S : List Value) (h : zH), rn 300 522 [l0, l1, l2, l3] (.int y :: .int x :: S) h = rn 300 523 [l0, l1, l2, l3] (.int (x + y) :: S) h) ∧
  (∀ (l0 l1 l2 l3 : Value) (a : Nat) (j : Int32) (S : List Value) (h : zH), rn 300 523 [l0, l1, l2, l3] (.int j :: .ref a :: S) h = zli h a 0 j fun x => rn 300 524 [l0, l1, l2, l3] (.int x :: S) h) ∧
  (∀ (l0 l1 l2 l3 : Value) (S : List Value) (h : zH), rn 300 524 [l0, l1, l2, l3] S h = ldA l0 (rn 300 525 [l0, l1, l2, l3] (l0 :: S) h)) ∧
  (∀ (l0 l1 l2 : Value) (x : Int32) (S : List Value) (h : zH), rn 300 525 [l0, l1, l2, .int x] S h = rn 300 526 [l0, l1, l2, .int x] (.int x :: S) h) ∧
  (∀ (l0 l1 l2 l3 : Value) (S : List Value) (h : zH), rn 300 526 [l0, l1, l2, l3] S h = rn 300 527 [l0, l1, l2, l3] (.int (nI 3) :: S) h) ∧
  (∀ (l0 l1 l2 l3 : Value) (x : Int32) (y : Int32) (S : List Value) (h : zH), rn 300 527 [l0, l1, l2, l3] (.int y :: .int x :: S) h = rn 300 528 [l0, l1, l2, l3] (.int (x + y) :: S) h) ∧
  (∀ (l0 l1 l2 l3 : Value) (a : Nat) (j : Int32) (S : List Value) (h : zH), rn 300 528 [l0, l1, l2, l3] (.int j :: .ref a :: S) h = zli h a 0 j fun x => rn 300 529 [l0, l1, l2, l3] (.int x :: S) h) ∧
  (∀ (l0 l1 l2 l3 : Value) (o : Nat) (v0 : Value) (v1 : Value) (v2 : Value) (S : List Value) (h : zH), rn 300 529 [l0, l1, l2, l3] (v2 :: v1 :: v0 :: .ref o :: S) h = if zkd h o = 12 ∧ zsum S ≤ 8 then zcall (ev 224 [.ref o, v0, v1, v2] h) (fun v h => rn 300 532 [l0, l1, l2, l3] (zpush v S) h) else none) ∧
  (∀ (l0 l1 l2 l3 : Value) (x : Int32) (y : Int32) (S : List Value) (h : zH), rn 300 532 [l0, l1, l2, l3] (.int y :: .int x :: S) h = if x = y then rn 300 1562 [l0, l1, l2, l3] S h else rn 300 535 [l0, l1, l2, l3] S h) ∧
  (∀ (l0 l1 l2 l3 : Value) (S : List Value) (h : zH), rn 300 535 [l0, l1, l2, l3] S h = rn 300 536 [l0, l1, l2, l3] (.int (nI 0) :: S) h) ∧
  (∀ (l0 l1 l2 l3 : Value) (x : Int32) (h : zH), rn 300 536 [l0, l1, l2, l3] [.int x] h = if x = nI 0 ∨ x = nI 1 then some (some (.int x), h) else none) ∧
  (∀ (l0 l1 l2 l3 : Value) (S : List Value) (h : zH), rn 300 537 [l0, l1, l2, l3] S h = ldA l1 (rn 300 538 [l0, l1, l2, l3] (l1 :: S) h)) ∧
  (∀ (l0 l1 l2 l3 : Value) (S : List Value) (h : zH), rn 300 538 [l0, l1, l2, l3] S h = ldA l0 (rn 300 539 [l0, l1, l2, l3] (l0 :: S) h)) ∧
  (∀ (l0 l1 l2 : Value) (x : Int32) (S : List Value) (h : zH), rn 300 539 [l0, l1, l2, .int x] S h = rn 300 540 [l0, l1, l2, .int x] (.int x :: S) h) ∧
  (∀ (l0 l1 l2 l3 : Value) (S : List Value) (h : zH), rn 300 540 [l0, l1, l2, l3] S h = rn 300 541 [l0, l1, l2, l3] (.int (nI 1) :: S) h) ∧
  (∀ (l0 l1 l2 l3 : Value) (x : Int32) (y : Int32) (S : List Value) (h : zH), rn 300 541 [l0, l1, l2, l3] (.int y :: .int x :: S) h = rn 300 542 [l0, l1, l2, l3] (.int (x + y) :: S) h) ∧
  (∀ (l0 l1 l2 l3 : Value) (a : Nat) (j : Int32) (S : List Value) (h : zH), rn 300 542 [l0, l1, l2, l3] (.int j :: .ref a :: S) h = zli h a 0 j fun x => rn 300 543 [l0, l1, l2, l3] (.int x :: S) h) ∧
  (∀ (l0 l1 l2 l3 : Value) (S : List Value) (h : zH), rn 300 543 [l0, l1, l2, l3] S h = ldA l0 (rn 300 544 [l0, l1, l2, l3] (l0 :: S) h)) ∧
  (∀ (l0 l1 l2 : Value) (x : Int32) (S : List Value) (h : zH), rn 300 544 [l0, l1, l2, .int x] S h = rn 300 545 [l0, l1, l2, .int x] (.int x :: S) h) ∧
  (∀ (l0 l1 l2 l3 : Value) (S : List Value) (h : zH), rn 300 545 [l0, l1, l2, l3] S h = rn 300 546 [l0, l1, l2, l3] (.int (nI 2) :: S) h) ∧
  (∀ (l0 l1 l2 l3 : Value) (x : Int32) (y : Int32) (S : List Value) (h : zH), rn 300 546 [l0, l1, l2, l3] (.int y :: .int x :: S) h = rn 300 547 [l0, l1, l2, l3] (.int (x + y) :: S) h) ∧
  (∀ (l0 l1 l2 l3 : Value) (a : Nat) (j : Int32) (S : List Value) (h : zH), rn 300 547 [l0, l1, l2, l3] (.int j :: .ref a :: S) h = zli h a 0 j fun x => rn 300 548 [l0, l1, l2, l3] (.int x :: S) h) ∧
  (∀ (l0 l1 l2 l3 : Value) (S : List Value) (h : zH), rn 300 548 [l0, l1, l2, l3] S h = ldA l0 (rn 300 549 [l0, l1, l2, l3] (l0 :: S) h)) ∧
  (∀ (l0 l1 l2 : Value) (x : Int32) (S : List Value) (h : zH), rn 300 549 [l0, l1, l2, .int x] S h = rn 300 550 [l0, l1, l2, .int x] (.int x :: S) h) ∧
  (∀ (l0 l1 l2 l3 : Value) (S : List Value) (h : zH), rn 300 550 [l0, l1, l2, l3] S h = rn 300 551 [l0, l1, l2, l3] (.int (nI 3) :: S) h) ∧
  (∀ (l0 l1 l2 l3 : Value) (x : Int32) (y : Int32) (S : List Value) (h : zH), rn 300 551 [l0, l1, l2, l3] (.int y :: .int x :: S) h = rn 300 552 [l0, l1, l2, l3] (.int (x + y) :: S) h) ∧
  (∀ (l0 l1 l2 l3 : Value) (a : Nat) (j : Int32) (S : List Value) (h : zH), rn 300 552 [l0, l1, l2, l3] (.int j :: .ref a :: S) h = zli h a 0 j fun x => rn 300 553 [l0, l1, l2, l3] (.int x :: S) h) ∧
  (∀ (l0 l1 l2 l3 : Value) (o : Nat) (v0 : Value) (v1 : Value) (v2 : Value) (S : List Value) (h : zH), rn 300 553 [l0, l1, l2, l3] (v2 :: v1 :: v0 :: .ref o :: S) h = if zkd h o = 11 ∧ zsum S ≤ 8 then zcall (ev 47 [.ref o, v0, v1, v2] h) (fun v h => rn 300 556 [l0, l1, l2, l3] (zpush v S) h) else none) ∧
  (∀ (l0 l1 l2 l3 : Value) (S : List Value) (h : zH), rn 300 556 [l0, l1, l2, l3] S h = ldA l2 (rn 300 557 [l0, l1, l2, l3] (l2 :: S) h)) ∧
  (∀ (l0 l1 l2 l3 : Value) (S : List Value) (h : zH), rn 300 557 [l0, l1, l2, l3] S h = ldA l0 (rn 300 558 [l0, l1, l2, l3] (l0 :: S) h)) ∧
  (∀ (l0 l1 l2 : Value) (x : Int32) (S : List Value) (h : zH), rn 300 558 [l0, l1, l2, .int x] S h = rn 300 559 [l0, l1, l2, .int x] (.int x :: S) h) ∧
  (∀ (l0 l1 l2 l3 : Value) (S : List Value) (h : zH), rn 300 559 [l0, l1, l2, l3] S h = rn 300 560 [l0, l1, l2, l3] (.int (nI 1) :: S) h) ∧
  (∀ (l0 l1 l2 l3 : Value) (x : Int32) (y : Int32) (S : List Value) (h : zH), rn 300 560 [l0, l1, l2, l3] (.int y :: .int x :: S) h = rn 300 561 [l0, l1, l2, l3] (.int (x + y) :: S) h) ∧
  (∀ (l0 l1 l2 l3 : Value) (a : Nat) (j : Int32) (S : List Value) (h : zH), rn 300 561 [l0, l1, l2, l3] (.int j :: .ref a :: S) h = zli h a 0 j fun x => rn 300 562 [l0, l1, l2, l3] (.int x :: S) h) ∧
  (∀ (l0 l1 l2 l3 : Value) (S : List Value) (h : zH), rn 300 562 [l0, l1, l2, l3] S h = ldA l0 (rn 300 563 [l0, l1, l2, l3] (l0 :: S) h)) ∧
  (∀ (l0 l1 l2 : Value) (x : Int32) (S : List Value) (h : zH), rn 300 563 [l0, l1, l2, .int x] S h = rn 300 564 [l0, l1, l2, .int x] (.int x :: S) h) ∧
  (∀ (l0 l1 l2 l3 : Value) (S : List Value) (h : zH), rn 300 564 [l0, l1, l2, l3] S h = rn 300 565 [l0, l1, l2, l3] (.int (nI 2) :: S) h) ∧
  (∀ (l0 l1 l2 l3 : Value) (x : Int32) (y : Int32) (S : List Value) (h : zH), rn 300 565 [l0, l1, l2, l3] (.int y :: .int x :: S) h = rn 300 566 [l0, l1, l2, l3] (.int (x + y) :: S) h) ∧
  (∀ (l0 l1 l2 l3 : Value) (a : Nat) (j : Int32) (S : List Value) (h : zH), rn 300 566 [l0, l1, l2, l3] (.int j :: .ref a :: S) h = zli h a 0 j fun x => rn 300 567 [l0, l1, l2, l3] (.int x :: S) h) ∧
  (∀ (l0 l1 l2 l3 : Value) (S : List Value) (h : zH), rn 300 567 [l0, l1, l2, l3] S h = ldA l0 (rn 300 568 [l0, l1, l2, l3] (l0 :: S) h)) ∧
  (∀ (l0 l1 l2 : Value) (x : Int32) (S : List Value) (h : zH), rn 300 568 [l0, l1, l2, .int x] S h = rn 300 569 [l0, l1, l2, .int x] (.int x :: S) h) ∧
  (∀ (l0 l1 l2 l3 : Value) (S : List Value) (h : zH), rn 300 569 [l0, l1, l2, l3] S h = rn 300 570 [l0, l1, l2, l3] (.int (nI 3) :: S) h) ∧
  (∀ (l0 l1 l2 l3 : Value) (x : Int32) (y : Int32) (S : List Value) (h : zH), rn 300 570 [l0, l1, l2, l3] (.int y :: .int x :: S) h = rn 300 571 [l0, l1, l2, l3] (.int (x + y) :: S) h) ∧
  (∀ (l0 l1 l2 l3 : Value) (a : Nat) (j : Int32) (S : List Value) (h : zH), rn 300 571 [l0, l1, l2, l3] (.int j :: .ref a :: S) h = zli h a 0 j fun x => rn 300 572 [l0, l1, l2, l3] (.int x :: S) h) ∧
  (∀ (l0 l1 l2 l3 : Value) (o : Nat) (v0 : Value) (v1 : Value) (v2 : Value) (S : List Value) (h : zH), rn 300 572 [l0, l1, l2, l3] (v2 :: v1 :: v0 :: .ref o :: S) h = if zkd h o = 12 ∧ zsum S ≤ 8 then zcall (ev 227 [.ref o, v0, v1, v2] h) (fun v h => rn 300 575 [l0, l1, l2, l3] (zpush v S) h) else none) ∧
  (∀ (l0 l1 l2 l3 : Value) (x : Int32) (y : Int32) (S : List Value) (h : zH), rn 300 575 [l0, l1, l2, l3] (.int y :: .int x :: S) h = if x = y then rn 300 1562 [l0, l1, l2, l3] S h else rn 300 578 [l0, l1, l2, l3] S h) ∧
  (∀ (l0 l1 l2 l3 : Value) (S : List Value) (h : zH), rn 300 578 [l0, l1, l2, l3] S h = rn 300 579 [l0, l1, l2, l3] (.int (nI 0) :: S) h) ∧
  (∀ (l0 l1 l2 l3 : Value) (x : Int32) (h : zH), rn 300 579 [l0, l1, l2, l3] [.int x] h = if x = nI 0 ∨ x = nI 1 then some (some (.int x), h) else none) ∧
  (∀ (l0 l1 l2 l3 : Value) (S : List Value) (h : zH), rn 300 580 [l0, l1, l2, l3] S h = ldA l1 (rn 300 581 [l0, l1, l2, l3] (l1 :: S) h)) ∧
  (∀ (l0 l1 l2 l3 : Value) (S : List Value) (h : zH), rn 300 581 [l0, l1, l2, l3] S h = ldA l0 (rn 300 582 [l0, l1, l2, l3] (l0 :: S) h)) ∧
  (∀ (l0 l1 l2 : Value) (x : Int32) (S : List Value) (h : zH), rn 300 582 [l0, l1, l2, .int x] S h = rn 300 583 [l0, l1, l2, .int x] (.int x :: S) h) ∧
  (∀ (l0 l1 l2 l3 : Value) (S : List Value) (h : zH), rn 300 583 [l0, l1, l2, l3] S h = rn 300 584 [l0, l1, l2, l3] (.int (nI 1) :: S) h) ∧
  (∀ (l0 l1 l2 l3 : Value) (x : Int32) (y : Int32) (S : List Value) (h : zH), rn 300 584 [l0, l1, l2, l3] (.int y :: .int x :: S) h = rn 300 585 [l0, l1, l2, l3] (.int (x + y) :: S) h) ∧
  (∀ (l0 l1 l2 l3 : Value) (a : Nat) (j : Int32) (S : List Value) (h : zH), rn 300 585 [l0, l1, l2, l3] (.int j :: .ref a :: S) h = zli h a 0 j fun x => rn 300 586 [l0, l1, l2, l3] (.int x :: S) h) ∧
  (∀ (l0 l1 l2 l3 : Value) (S : List Value) (h : zH), rn 300 586 [l0, l1, l2, l3] S h = ldA l0 (rn 300 587 [l0, l1, l2, l3] (l0 :: S) h)) ∧
  (∀ (l0 l1 l2 : Value) (x : Int32) (S : List Value) (h : zH), rn 300 587 [l0, l1, l2, .int x] S h = rn 300 588 [l0, l1, l2, .int x] (.int x :: S) h) ∧
  (∀ (l0 l1 l2 l3 : Value) (S : List Value) (h : zH), rn 300 588 [l0, l1, l2, l3] S h = rn 300 589 [l0, l1, l2, l3] (.int (nI 2) :: S) h) ∧
  (∀ (l0 l1 l2 l3 : Value) (x : Int32) (y : Int32) (S : List Value) (h : zH), rn 300 589 [l0, l1, l2, l3] (.int y :: .int x :: S) h = rn 300 590 [l0, l1, l2, l3] (.int (x + y) :: S) h) ∧
  (∀ (l0 l1 l2 l3 : Value) (a : Nat) (j : Int32) (S : List Value) (h : zH), rn 300 590 [l0, l1, l2, l3] (.int j :: .ref a :: S) h = zli h a 0 j fun x => rn 300 591 [l0, l1, l2, l3] (.int x :: S) h) ∧
  (∀ (l0 l1 l2 l3 : Value) (o : Nat) (v0 : Value) (v1 : Value) (S : List Value) (h : zH), rn 300 591 [l0, l1, l2, l3] (v1 :: v0 :: .ref o :: S) h = if zkd h o = 11 ∧ zsum S ≤ 8 then zcall (ev 49 [.ref o, v0, v1] h) (fun v h => rn 300 594 [l0, l1, l2, l3] (zpush v S) h) else none) ∧
  (∀ (l0 l1 l2 l3 : Value) (S : List Value) (h : zH), rn 300 594 [l0, l1, l2, l3] S h = ldA l2 (rn 300 595 [l0, l1, l2, l3] (l2 :: S) h)) ∧
  (∀ (l0 l1 l2 l3 : Value) (S : List Value) (h : zH), rn 300 595 [l0, l1, l2, l3] S h = ldA l0 (rn 300 596 [l0, l1, l2, l3] (l0 :: S) h)) ∧
  (∀ (l0 l1 l2 : Value) (x : Int32) (S : List Value) (h : zH), rn 300 596 [l0, l1, l2, .int x] S h = rn 300 597 [l0, l1, l2, .int x] (.int x :: S) h) ∧
  (∀ (l0 l1 l2 l3 : Value) (S : List Value) (h : zH), rn 300 597 [l0, l1, l2, l3] S h = rn 300 598 [l0, l1, l2, l3] (.int (nI 1) :: S) h) ∧
  (∀ (l0 l1 l2 l3 : Value) (x : Int32) (y : Int32) (S : List Value) (h : zH), rn 300 598 [l0, l1, l2, l3] (.int y :: .int x :: S) h = rn 300 599 [l0, l1, l2, l3] (.int (x + y) :: S) h) ∧
  (∀ (l0 l1 l2 l3 : Value) (a : Nat) (j : Int32) (S : List Value) (h : zH), rn 300 599 [l0, l1, l2, l3] (.int j :: .ref a :: S) h = zli h a 0 j fun x => rn 300 600 [l0, l1, l2, l3] (.int x :: S) h) ∧
  (∀ (l0 l1 l2 l3 : Value) (S : List Value) (h : zH), rn 300 600 [l0, l1, l2, l3] S h = ldA l0 (rn 300 601 [l0, l1, l2, l3] (l0 :: S) h)) ∧
  (∀ (l0 l1 l2 : Value) (x : Int32) (S : List Value) (h : zH), rn 300 601 [l0, l1, l2, .int x] S h = rn 300 602 [l0, l1, l2, .int x] (.int x :: S) h) ∧
  (∀ (l0 l1 l2 l3 : Value) (S : List Value) (h : zH), rn 300 602 [l0, l1, l2, l3] S h = rn 300 603 [l0, l1, l2, l3] (.int (nI 2) :: S) h) ∧
  (∀ (l0 l1 l2 l3 : Value) (x : Int32) (y : Int32) (S : List Value) (h : zH), rn 300 603 [l0, l1, l2, l3] (.int y :: .int x :: S) h = rn 300 604 [l0, l1, l2, l3] (.int (x + y) :: S) h) ∧
  (∀ (l0 l1 l2 l3 : Value) (a : Nat) (j : Int32) (S : List Value) (h : zH), rn 300 604 [l0, l1, l2, l3] (.int j :: .ref a :: S) h = zli h a 0 j fun x => rn 300 605 [l0, l1, l2, l3] (.int x :: S) h) ∧
  (∀ (l0 l1 l2 l3 : Value) (o : Nat) (v0 : Value) (v1 : Value) (S : List Value) (h : zH), rn 300 605 [l0, l1, l2, l3] (v1 :: v0 :: .ref o :: S) h = if zkd h o = 12 ∧ zsum S ≤ 8 then zcall (ev 228 [.ref o, v0, v1] h) (fun v h => rn 300 608 [l0, l1, l2, l3] (zpush v S) h) else none) ∧
  (∀ (l0 l1 l2 l3 : Value) (x : Int32) (y : Int32) (S : List Value) (h : zH), rn 300 608 [l0, l1, l2, l3] (.int y :: .int x :: S) h = if x = y then rn 300 1562 [l0, l1, l2, l3] S h else rn 300 611 [l0, l1, l2, l3] S h) ∧
  (∀ (l0 l1 l2 l3 : Value) (S : List Value) (h : zH), rn 300 611 [l0, l1, l2, l3] S h = rn 300 612 [l0, l1, l2, l3] (.int (nI 0) :: S) h) ∧
  (∀ (l0 l1 l2 l3 : Value) (x : Int32) (h : zH), rn 300 612 [l0, l1, l2, l3] [.int x] h = if x = nI 0 ∨ x = nI 1 then some (some (.int x), h) else none) ∧
  (∀ (l0 l1 l2 l3 : Value) (S : List Value) (h : zH), rn 300 613 [l0, l1, l2, l3] S h = ldA l1 (rn 300 614 [l0, l1, l2, l3] (l1 :: S) h)) ∧
  (∀ (l0 l1 l2 l3 : Value) (S : List Value) (h : zH), rn 300 614 [l0, l1, l2, l3] S h = ldA l0 (rn 300 615 [l0, l1, l2, l3] (l0 :: S) h)) ∧
  (∀ (l0 l1 l2 : Value) (x : Int32) (S : List Value) (h : zH), rn 300 615 [l0, l1, l2, .int x] S h = rn 300 616 [l0, l1, l2, .int x] (.int x :: S) h) ∧
  (∀ (l0 l1 l2 l3 : Value) (S : List Value) (h : zH), rn 300 616 [l0, l1, l2, l3] S h = rn 300 617 [l0, l1, l2, l3] (.int (nI 1) :: S) h) ∧
  (∀ (l0 l1 l2 l3 : Value) (x : Int32) (y : Int32) (S : List Value) (h : zH), rn 300 617 [l0, l1, l2, l3] (.int y :: .int x :: S) h = rn 300 618 [l0, l1, l2, l3] (.int (x + y) :: S) h) ∧
  (∀ (l0 l1 l2 l3 : Value) (a : Nat) (j : Int32) (S : List Value) (h : zH), rn 300 618 [l0, l1, l2, l3] (.int j :: .ref a :: S) h = zli h a 0 j fun x => rn 300 619 [l0, l1, l2, l3] (.int x :: S) h) ∧
  (∀ (l0 l1 l2 l3 : Value) (S : List Value) (h : zH), rn 300 619 [l0, l1, l2, l3] S h = ldA l0 (rn 300 620 [l0, l1, l2, l3] (l0 :: S) h)) ∧
  (∀ (l0 l1 l2 : Value) (x : Int32) (S : List Value) (h : zH), rn 300 620 [l0, l1, l2, .int x] S h = rn 300 621 [l0, l1, l2, .int x] (.int x :: S) h) ∧
  (∀ (l0 l1 l2 l3 : Value) (S : List Value) (h : zH), rn 300 621 [l0, l1, l2, l3] S h = rn 300 622 [l0, l1, l2, l3] (.int (nI 2) :: S) h) ∧
  (∀ (l0 l1 l2 l3 : Value) (x : Int32) (y : Int32) (S : List Value) (h : zH), rn 300 622 [l0, l1, l2, l3] (.int y :: .int x :: S) h = rn 300 623 [l0, l1, l2, l3] (.int (x + y) :: S) h) ∧
  (∀ (l0 l1 l2 l3 : Value) (a : Nat) (j : Int32) (S : List Value) (h : zH), rn 300 623 [l0, l1, l2, l3] (.int j :: .ref a :: S) h = zli h a 0 j fun x => rn 300 624 [l0, l1, l2, l3] (.int x :: S) h) ∧
  (∀ (l0 l1 l2 l3 : Value) (S : List Value) (h : zH), rn 300 624 [l0, l1, l2, l3] S h = ldA l0 (rn 300 625 [l0, l1, l2, l3] (l0 :: S) h)) ∧
  (∀ (l0 l1 l2 : Value) (x : Int32) (S : List Value) (h : zH), rn 300 625 [l0, l1, l2, .int x] S h = rn 300 626 [l0, l1, l2, .int x] (.int x :: S) h) ∧
  (∀ (l0 l1 l2 l3 : Value) (S : List Value) (h : zH), rn 300 626 [l0, l1, l2, l3] S h = rn 300 627 [l0, l1, l2, l3] (.int (nI 3) :: S) h) ∧
  (∀ (l0 l1 l2 l3 : Value) (x : Int32) (y : Int32) (S : List Value) (h : zH), rn 300 627 [l0, l1, l2, l3] (.int y :: .int x :: S) h = rn 300 628 [l0, l1, l2, l3] (.int (x + y) :: S) h) ∧
  (∀ (l0 l1 l2 l3 : Value) (a : Nat) (j : Int32) (S : List Value) (h : zH), rn 300 628 [l0, l1, l2, l3] (.int j :: .ref a :: S) h = zli h a 0 j fun x => rn 300 629 [l0, l1, l2, l3] (.int x :: S) h) ∧
  (∀ (l0 l1 l2 l3 : Value) (o : Nat) (v0 : Value) (v1 : Value) (v2 : Value) (S : List Value) (h : zH), rn 300 629 [l0, l1, l2, l3] (v2 :: v1 :: v0 :: .ref o :: S) h = if zkd h o = 11 ∧ zsum S ≤ 8 then zcall (ev 55 [.ref o, v0, v1, v2] h) (fun v h => rn 300 632 [l0, l1, l2, l3] (zpush v S) h) else none) ∧
  (∀ (l0 l1 l2 l3 : Value) (S : List Value) (h : zH), rn 300 632 [l0, l1, l2, l3] S h = ldA l2 (rn 300 633 [l0, l1, l2, l3] (l2 :: S) h)) ∧
  (∀ (l0 l1 l2 l3 : Value) (S : List Value) (h : zH), rn 300 633 [l0, l1, l2, l3] S h = ldA l0 (rn 300 634 [l0, l1, l2, l3] (l0 :: S) h)) ∧
  (∀ (l0 l1 l2 : Value) (x : Int32) (S : List Value) (h : zH), rn 300 634 [l0, l1, l2, .int x] S h = rn 300 635 [l0, l1, l2, .int x] (.int x :: S) h) ∧
  (∀ (l0 l1 l2 l3 : Value) (S : List Value) (h : zH), rn 300 635 [l0, l1, l2, l3] S h = rn 300 636 [l0, l1, l2, l3] (.int (nI 1) :: S) h) ∧
  (∀ (l0 l1 l2 l3 : Value) (x : Int32) (y : Int32) (S : List Value) (h : zH), rn 300 636 [l0, l1, l2, l3] (.int y :: .int x :: S) h = rn 300 637 [l0, l1, l2, l3] (.int (x + y) :: S) h) ∧
  (∀ (l0 l1 l2 l3 : Value) (a : Nat) (j : Int32) (S : List Value) (h : zH), rn 300 637 [l0, l1, l2, l3] (.int j :: .ref a :: S) h = zli h a 0 j fun x => rn 300 638 [l0, l1, l2, l3] (.int x :: S) h) ∧
  (∀ (l0 l1 l2 l3 : Value) (S : List Value) (h : zH), rn 300 638 [l0, l1, l2, l3] S h = ldA l0 (rn 300 639 [l0, l1, l2, l3] (l0 :: S) h)) ∧
  (∀ (l0 l1 l2 : Value) (x : Int32) (S : List Value) (h : zH), rn 300 639 [l0, l1, l2, .int x] S h = rn 300 640 [l0, l1, l2, .int x] (.int x :: S) h) ∧
  (∀ (l0 l1 l2 l3 : Value) (S : List Value) (h : zH), rn 300 640 [l0, l1, l2, l3] S h = rn 300 641 [l0, l1, l2, l3] (.int (nI 2) :: S) h) ∧
  (∀ (l0 l1 l2 l3 : Value) (x : Int32) (y : Int32) (S : List Value) (h : zH), rn 300 641 [l0, l1, l2, l3] (.int y :: .int x :: S) h = rn 300 642 [l0, l1, l2, l3] (.int (x + y) :: S) h) ∧
  (∀ (l0 l1 l2 l3 : Value) (a : Nat) (j : Int32) (S : List Value) (h : zH), rn 300 642 [l0, l1, l2, l3] (.int j :: .ref a :: S) h = zli h a 0 j fun x => rn 300 643 [l0, l1, l2, l3] (.int x :: S) h) ∧
  (∀ (l0 l1 l2 l3 : Value) (S : List Value) (h : zH), rn 300 643 [l0, l1, l2, l3] S h = ldA l0 (rn 300 644 [l0, l1, l2, l3] (l0 :: S) h)) ∧
  (∀ (l0 l1 l2 : Value) (x : Int32) (S : List Value) (h : zH), rn 300 644 [l0, l1, l2, .int x] S h = rn 300 645 [l0, l1, l2, .int x] (.int x :: S) h) ∧
  (∀ (l0 l1 l2 l3 : Value) (S : List Value) (h : zH), rn 300 645 [l0, l1, l2, l3] S h = rn 300 646 [l0, l1, l2, l3] (.int (nI 3) :: S) h) ∧
  (∀ (l0 l1 l2 l3 : Value) (x : Int32) (y : Int32) (S : List Value) (h : zH), rn 300 646 [l0, l1, l2, l3] (.int y :: .int x :: S) h = rn 300 647 [l0, l1, l2, l3] (.int (x + y) :: S) h) ∧
  (∀ (l0 l1 l2 l3 : Value) (a : Nat) (j : Int32) (S : List Value) (h : zH), rn 300 647 [l0, l1, l2, l3] (.int j :: .ref a :: S) h = zli h a 0 j fun x => rn 300 648 [l0, l1, l2, l3] (.int x :: S) h) ∧
  (∀ (l0 l1 l2 l3 : Value) (o : Nat) (v0 : Value) (v1 : Value) (v2 : Value) (S : List Value) (h : zH), rn 300 648 [l0, l1, l2, l3] (v2 :: v1 :: v0 :: .ref o :: S) h = if zkd h o = 12 ∧ zsum S ≤ 8 then zcall (ev 231 [.ref o, v0, v1, v2] h) (fun v h => rn 300 651 [l0, l1, l2, l3] (zpush v S) h) else none) ∧
  (∀ (l0 l1 l2 l3 : Value) (x : Int32) (y : Int32) (S : List Value) (h : zH), rn 300 651 [l0, l1, l2, l3] (.int y :: .int x :: S) h = if x = y then rn 300 1562 [l0, l1, l2, l3] S h else rn 300 654 [l0, l1, l2, l3] S h) ∧
  (∀ (l0 l1 l2 l3 : Value) (S : List Value) (h : zH), rn 300 654 [l0, l1, l2, l3] S h = rn 300 655 [l0, l1, l2, l3] (.int (nI 0) :: S) h) ∧
  (∀ (l0 l1 l2 l3 : Value) (x : Int32) (h : zH), rn 300 655 [l0, l1, l2, l3] [.int x] h = if x = nI 0 ∨ x = nI 1 then some (some (.int x), h) else none) ∧
  (∀ (l0 l1 l2 l3 : Value) (S : List Value) (h : zH), rn 300 656 [l0, l1, l2, l3] S h = ldA l1 (rn 300 657 [l0, l1, l2, l3] (l1 :: S) h)) ∧
  (∀ (l0 l1 l2 l3 : Value) (o : Nat) (S : List Value) (h : zH), rn 300 657 [l0, l1, l2, l3] (.ref o :: S) h = if zkd h o = 11 ∧ zsum S ≤ 8 then zcall (ev 57 [.ref o] h) (fun v h => rn 300 660 [l0, l1, l2, l3] (zpush v S) h) else none) ∧
  (∀ (l0 l1 l2 l3 : Value) (S : List Value) (h : zH), rn 300 660 [l0, l1, l2, l3] S h = ldA l2 (rn 300 661 [l0, l1, l2, l3] (l2 :: S) h)) ∧
  (∀ (l0 l1 l2 l3 : Value) (o : Nat) (S : List Value) (h : zH), rn 300 661 [l0, l1, l2, l3] (.ref o :: S) h = if zkd h o = 12 ∧ zsum S ≤ 8 then zcall (ev 232 [.ref o] h) (fun v h => rn 300 664 [l0, l1, l2, l3] (zpush v S) h) else none) ∧
  (∀ (l0 l1 l2 l3 : Value) (x : Int32) (y : Int32) (S : List Value) (h : zH), rn 300 664 [l0, l1, l2, l3] (.int y :: .int x :: S) h = if x = y then rn 300 1562 [l0, l1, l2, l3] S h else rn 300 667 [l0, l1, l2, l3] S h) ∧
  (∀ (l0 l1 l2 l3 : Value) (S : List Value) (h : zH), rn 300 667 [l0, l1, l2, l3] S h = rn 300 668 [l0, l1, l2, l3] (.int (nI 0) :: S) h) ∧
  (∀ (l0 l1 l2 l3 : Value) (x : Int32) (h : zH), rn 300 668 [l0, l1, l2, l3] [.int x] h = if x = nI 0 ∨ x = nI 1 then some (some (.int x), h) else none) ∧
  (∀ (l0 l1 l2 l3 : Value) (S : List Value) (h : zH), rn 300 669 [l0, l1, l2, l3] S h = ldA l1 (rn 300 670 [l0, l1, l2, l3] (l1 :: S) h)) ∧
  (∀ (l0 l1 l2 l3 : Value) (o : Nat) (S : List Value) (h : zH), rn 300 670 [l0, l1, l2, l3] (.ref o :: S) h = if zkd h o = 11 ∧ zsum S ≤ 8 then zcall (ev 77 [.ref o] h) (fun v h => rn 300 673 [l0, l1, l2, l3] (zpush v S) h) else none) ∧
  (∀ (l0 l1 l2 l3 : Value) (S : List Value) (h : zH), rn 300 673 [l0, l1, l2, l3] S h = ldA l2 (rn 300 674 [l0, l1, l2, l3] (l2 :: S) h)) ∧
  (∀ (l0 l1 l2 l3 : Value) (o : Nat) (S : List Value) (h : zH), rn 300 674 [l0, l1, l2, l3] (.ref o :: S) h = if zkd h o = 12 ∧ zsum S ≤ 8 then zcall (ev 250 [.ref o] h) (fun v h => rn 300 677 [l0, l1, l2, l3] (zpush v S) h) else none) ∧
  (∀ (l0 l1 l2 l3 : Value) (x : Int32) (y : Int32) (S : List Value) (h : zH), rn 300 677 [l0, l1, l2, l3] (.int y :: .int x :: S) h = if x = y then rn 300 1562 [l0, l1, l2, l3] S h else rn 300 680 [l0, l1, l2, l3] S h) ∧
  (∀ (l0 l1 l2 l3 : Value) (S : List Value) (h : zH), rn 300 680 [l0, l1, l2, l3] S h = rn 300 681 [l0, l1, l2, l3] (.int (nI 0) :: S) h) ∧
  (∀ (l0 l1 l2 l3 : Value) (x : Int32) (h : zH), rn 300 681 [l0, l1, l2, l3] [.int x] h = if x = nI 0 ∨ x = nI 1 then some (some (.int x), h) else none) ∧
  (∀ (l0 l1 l2 l3 : Value) (S : List Value) (h : zH), rn 300 682 [l0, l1, l2, l3] S h = ldA l1 (rn 300 683 [l0, l1, l2, l3] (l1 :: S) h)) := ⟨fun _ _ _ _ _ _ => r_iload_n (show zdec 300 431 = some (.iload_n 3, 1) by decide +kernel) rfl rfl,
  fun _ _ _ _ _ _ => r_iconst (show zdec 300 432 = some (.iconst 1, 1) by decide +kernel) rfl rfl,
  fun _ _ _ _ _ _ _ _ => r_iadd (show zdec 300 433 = some (.iadd, 1) by decide +kernel) rfl,
  fun _ _ _ _ _ _ _ _ => r_iald (show zdec 300 434 = some (.iaload, 1) by decide +kernel) rfl,
  fun _ _ _ _ _ _ => r_aload_n (show zdec 300 435 = some (.aload_n 0, 1) by decide +kernel) rfl rfl,
  fun _ _ _ _ _ _ => r_iload_n (show zdec 300 436 = some (.iload_n 3, 1) by decide +kernel) rfl rfl,
  fun _ _ _ _ _ _ => r_iconst (show zdec 300 437 = some (.iconst 2, 1) by decide +kernel) rfl rfl,
  fun _ _ _ _ _ _ _ _ => r_iadd (show zdec 300 438 = some (.iadd, 1) by decide +kernel) rfl,
  fun _ _ _ _ _ _ _ _ => r_iald (show zdec 300 439 = some (.iaload, 1) by decide +kernel) rfl,
  fun _ _ _ _ _ _ _ _ _ => r_cV [_, _] rfl (show zdec 300 440 = some (.invokevirtual 38, 3) by decide +kernel) (show zst.lookup (300 * zKEY + 38) = some (1, 221, 2, 12) by decide +kernel) (by decide) rfl,
  fun _ _ _ _ _ _ _ _ => r_icmpeq (show zdec 300 443 = some (.if_icmp .eq 1119, 3) by decide +kernel) rfl rfl,
  fun _ _ _ _ _ _ => r_iconst (show zdec 300 446 = some (.iconst 0, 1) by decide +kernel) rfl rfl,
  fun _ _ _ _ _ _ => r_iretb (show zdec 300 447 = some (.ireturn, 1) by decide +kernel) (by decide +kernel),
  fun _ _ _ _ _ _ => r_aload_n (show zdec 300 448 = some (.aload_n 1, 1) by decide +kernel) rfl rfl,
  fun _ _ _ _ _ _ => r_aload_n (show zdec 300 449 = some (.aload_n 0, 1) by decide +kernel) rfl rfl,
  fun _ _ _ _ _ _ => r_iload_n (show zdec 300 450 = some (.iload_n 3, 1) by decide +kernel) rfl rfl,
  fun _ _ _ _ _ _ => r_iconst (show zdec 300 451 = some (.iconst 1, 1) by decide +kernel) rfl rfl,
  fun _ _ _ _ _ _ _ _ => r_iadd (show zdec 300 452 = some (.iadd, 1) by decide +kernel) rfl,
  fun _ _ _ _ _ _ _ _ => r_iald (show zdec 300 453 = some (.iaload, 1) by decide +kernel) rfl,
  fun _ _ _ _ _ _ => r_aload_n (show zdec 300 454 = some (.aload_n 0, 1) by decide +kernel) rfl rfl,
  fun _ _ _ _ _ _ => r_iload_n (show zdec 300 455 = some (.iload_n 3, 1) by decide +kernel) rfl rfl,
  fun _ _ _ _ _ _ => r_iconst (show zdec 300 456 = some (.iconst 2, 1) by decide +kernel) rfl rfl,
  fun _ _ _ _ _ _ _ _ => r_iadd (show zdec 300 457 = some (.iadd, 1) by decide +kernel) rfl,
  fun _ _ _ _ _ _ _ _ => r_iald (show zdec 300 458 = some (.iaload, 1) by decide +kernel) rfl,
  fun _ _ _ _ _ _ _ _ _ => r_cV [_, _] rfl (show zdec 300 459 = some (.invokevirtual 39, 3) by decide +kernel) (show zst.lookup (300 * zKEY + 39) = some (1, 39, 2, 11) by decide +kernel) (by decide) rfl,
  fun _ _ _ _ _ _ => r_aload_n (show zdec 300 462 = some (.aload_n 2, 1) by decide +kernel) rfl rfl,
  fun _ _ _ _ _ _ => r_aload_n (show zdec 300 463 = some (.aload_n 0, 1) by decide +kernel) rfl rfl,
  fun _ _ _ _ _ _ => r_iload_n (show zdec 300 464 = some (.iload_n 3, 1) by decide +kernel) rfl rfl,
  fun _ _ _ _ _ _ => r_iconst (show zdec 300 465 = some (.iconst 1, 1) by decide +kernel) rfl rfl,
  fun _ _ _ _ _ _ _ _ => r_iadd (show zdec 300 466 = some (.iadd, 1) by decide +kernel) rfl,
  fun _ _ _ _ _ _ _ _ => r_iald (show zdec 300 467 = some (.iaload, 1) by decide +kernel) rfl,
  fun _ _ _ _ _ _ => r_aload_n (show zdec 300 468 = some (.aload_n 0, 1) by decide +kernel) rfl rfl,
  fun _ _ _ _ _ _ => r_iload_n (show zdec 300 469 = some (.iload_n 3, 1) by decide +kernel) rfl rfl,
  fun _ _ _ _ _ _ => r_iconst (show zdec 300 470 = some (.iconst 2, 1) by decide +kernel) rfl rfl,
  fun _ _ _ _ _ _ _ _ => r_iadd (show zdec 300 471 = some (.iadd, 1) by decide +kernel) rfl,
  fun _ _ _ _ _ _ _ _ => r_iald (show zdec 300 472 = some (.iaload, 1) by decide +kernel) rfl,
  fun _ _ _ _ _ _ _ _ _ => r_cV [_, _] rfl (show zdec 300 473 = some (.invokevirtual 42, 3) by decide +kernel) (show zst.lookup (300 * zKEY + 42) = some (1, 222, 2, 12) by decide +kernel) (by decide) rfl,
  fun _ _ _ _ _ _ _ _ => r_icmpeq (show zdec 300 476 = some (.if_icmp .eq 1086, 3) by decide +kernel) rfl rfl,
  fun _ _ _ _ _ _ => r_iconst (show zdec 300 479 = some (.iconst 0, 1) by decide +kernel) rfl rfl,
  fun _ _ _ _ _ _ => r_iretb (show zdec 300 480 = some (.ireturn, 1) by decide +kernel) (by decide +kernel),
  fun _ _ _ _ _ _ => r_aload_n (show zdec 300 481 = some (.aload_n 1, 1) by decide +kernel) rfl rfl,
  fun _ _ _ _ _ _ _ => r_cV [] rfl (show zdec 300 482 = some (.invokevirtual 43, 3) by decide +kernel) (show zst.lookup (300 * zKEY + 43) = some (1, 42, 0, 11) by decide +kernel) (by decide) rfl,
  fun _ _ _ _ _ _ => r_aload_n (show zdec 300 485 = some (.aload_n 2, 1) by decide +kernel) rfl rfl,
  fun _ _ _ _ _ _ _ => r_cV [] rfl (show zdec 300 486 = some (.invokevirtual 47, 3) by decide +kernel) (show zst.lookup (300 * zKEY + 47) = some (1, 223, 0, 12) by decide +kernel) (by decide) rfl,
  fun _ _ _ _ _ _ _ _ => r_icmpeq (show zdec 300 489 = some (.if_icmp .eq 1073, 3) by decide +kernel) rfl rfl,
  fun _ _ _ _ _ _ => r_iconst (show zdec 300 492 = some (.iconst 0, 1) by decide +kernel) rfl rfl,
  fun _ _ _ _ _ _ => r_iretb (show zdec 300 493 = some (.ireturn, 1) by decide +kernel) (by decide +kernel),
  fun _ _ _ _ _ _ => r_aload_n (show zdec 300 494 = some (.aload_n 1, 1) by decide +kernel) rfl rfl,
  fun _ _ _ _ _ _ => r_aload_n (show zdec 300 495 = some (.aload_n 0, 1) by decide +kernel) rfl rfl,
  fun _ _ _ _ _ _ => r_iload_n (show zdec 300 496 = some (.iload_n 3, 1) by decide +kernel) rfl rfl,
  fun _ _ _ _ _ _ => r_iconst (show zdec 300 497 = some (.iconst 1, 1) by decide +kernel) rfl rfl,
  fun _ _ _ _ _ _ _ _ => r_iadd (show zdec 300 498 = some (.iadd, 1) by decide +kernel) rfl,
  fun _ _ _ _ _ _ _ _ => r_iald (show zdec 300 499 = some (.iaload, 1) by decide +kernel) rfl,
  fun _ _ _ _ _ _ => r_aload_n (show zdec 300 500 = some (.aload_n 0, 1) by decide +kernel) rfl rfl,
  fun _ _ _ _ _ _ => r_iload_n (show zdec 300 501 = some (.iload_n 3, 1) by decide +kernel) rfl rfl,
  fun _ _ _ _ _ _ => r_iconst (show zdec 300 502 = some (.iconst 2, 1) by decide +kernel) rfl rfl,
  fun _ _ _ _ _ _ _ _ => r_iadd (show zdec 300 503 = some (.iadd, 1) by decide +kernel) rfl,
  fun _ _ _ _ _ _ _ _ => r_iald (show zdec 300 504 = some (.iaload, 1) by decide +kernel) rfl,
  fun _ _ _ _ _ _ => r_aload_n (show zdec 300 505 = some (.aload_n 0, 1) by decide +kernel) rfl rfl,
  fun _ _ _ _ _ _ => r_iload_n (show zdec 300 506 = some (.iload_n 3, 1) by decide +kernel) rfl rfl,
  fun _ _ _ _ _ _ => r_iconst (show zdec 300 507 = some (.iconst 3, 1) by decide +kernel) rfl rfl,
  fun _ _ _ _ _ _ _ _ => r_iadd (show zdec 300 508 = some (.iadd, 1) by decide +kernel) rfl,
  fun _ _ _ _ _ _ _ _ => r_iald (show zdec 300 509 = some (.iaload, 1) by decide +kernel) rfl,
  fun _ _ _ _ _ _ _ _ _ _ => r_cV [_, _, _] rfl (show zdec 300 510 = some (.invokevirtual 48, 3) by decide +kernel) (show zst.lookup (300 * zKEY + 48) = some (1, 44, 3, 11) by decide +kernel) (by decide) rfl,
  fun _ _ _ _ _ _ => r_aload_n (show zdec 300 513 = some (.aload_n 2, 1) by decide +kernel) rfl rfl,
  fun _ _ _ _ _ _ => r_aload_n (show zdec 300 514 = some (.aload_n 0, 1) by decide +kernel) rfl rfl,
  fun _ _ _ _ _ _ => r_iload_n (show zdec 300 515 = some (.iload_n 3, 1) by decide +kernel) rfl rfl,
  fun _ _ _ _ _ _ => r_iconst (show zdec 300 516 = some (.iconst 1, 1) by decide +kernel) rfl rfl,
  fun _ _ _ _ _ _ _ _ => r_iadd (show zdec 300 517 = some (.iadd, 1) by decide +kernel) rfl,
  fun _ _ _ _ _ _ _ _ => r_iald (show zdec 300 518 = some (.iaload, 1) by decide +kernel) rfl,
  fun _ _ _ _ _ _ => r_aload_n (show zdec 300 519 = some (.aload_n 0, 1) by decide +kernel) rfl rfl,
  fun _ _ _ _ _ _ => r_iload_n (show zdec 300 520 = some (.iload_n 3, 1) by decide +kernel) rfl rfl,
  fun _ _ _ _ _ _ => r_iconst (show zdec 300 521 = some (.iconst 2, 1) by decide +kernel) rfl rfl,
  fun _ _ _ _ _ _ _ _ => r_iadd (show zdec 300 522 = some (.iadd, 1) by decide +kernel) rfl,
  fun _ _ _ _ _ _ _ _ => r_iald (show zdec 300 523 = some (.iaload, 1) by decide +kernel) rfl,
  fun _ _ _ _ _ _ => r_aload_n (show zdec 300 524 = some (.aload_n 0, 1) by decide +kernel) rfl rfl,
  fun _ _ _ _ _ _ => r_iload_n (show zdec 300 525 = some (.iload_n 3, 1) by decide +kernel) rfl rfl,
  fun _ _ _ _ _ _ => r_iconst (show zdec 300 526 = some (.iconst 3, 1) by decide +kernel) rfl rfl,
  fun _ _ _ _ _ _ _ _ => r_iadd (show zdec 300 527 = some (.iadd, 1) by decide +kernel) rfl,
  fun _ _ _ _ _ _ _ _ => r_iald (show zdec 300 528 = some (.iaload, 1) by decide +kernel) rfl,
  fun _ _ _ _ _ _ _ _ _ _ => r_cV [_, _, _] rfl (show zdec 300 529 = some (.invokevirtual 51, 3) by decide +kernel) (show zst.lookup (300 * zKEY + 51) = some (1, 224, 3, 12) by decide +kernel) (by decide) rfl,
  fun _ _ _ _ _ _ _ _ => r_icmpeq (show zdec 300 532 = some (.if_icmp .eq 1030, 3) by decide +kernel) rfl rfl,
  fun _ _ _ _ _ _ => r_iconst (show zdec 300 535 = some (.iconst 0, 1) by decide +kernel) rfl rfl,
  fun _ _ _ _ _ _ => r_iretb (show zdec 300 536 = some (.ireturn, 1) by decide +kernel) (by decide +kernel),
  fun _ _ _ _ _ _ => r_aload_n (show zdec 300 537 = some (.aload_n 1, 1) by decide +kernel) rfl rfl,
  fun _ _ _ _ _ _ => r_aload_n (show zdec 300 538 = some (.aload_n 0, 1) by decide +kernel) rfl rfl,
  fun _ _ _ _ _ _ => r_iload_n (show zdec 300 539 = some (.iload_n 3, 1) by decide +kernel) rfl rfl,
  fun _ _ _ _ _ _ => r_iconst (show zdec 300 540 = some (.iconst 1, 1) by decide +kernel) rfl rfl,
  fun _ _ _ _ _ _ _ _ => r_iadd (show zdec 300 541 = some (.iadd, 1) by decide +kernel) rfl,
  fun _ _ _ _ _ _ _ _ => r_iald (show zdec 300 542 = some (.iaload, 1) by decide +kernel) rfl,
  fun _ _ _ _ _ _ => r_aload_n (show zdec 300 543 = some (.aload_n 0, 1) by decide +kernel) rfl rfl,
  fun _ _ _ _ _ _ => r_iload_n (show zdec 300 544 = some (.iload_n 3, 1) by decide +kernel) rfl rfl,
  fun _ _ _ _ _ _ => r_iconst (show zdec 300 545 = some (.iconst 2, 1) by decide +kernel) rfl rfl,
  fun _ _ _ _ _ _ _ _ => r_iadd (show zdec 300 546 = some (.iadd, 1) by decide +kernel) rfl,
  fun _ _ _ _ _ _ _ _ => r_iald (show zdec 300 547 = some (.iaload, 1) by decide +kernel) rfl,
  fun _ _ _ _ _ _ => r_aload_n (show zdec 300 548 = some (.aload_n 0, 1) by decide +kernel) rfl rfl,
  fun _ _ _ _ _ _ => r_iload_n (show zdec 300 549 = some (.iload_n 3, 1) by decide +kernel) rfl rfl,
  fun _ _ _ _ _ _ => r_iconst (show zdec 300 550 = some (.iconst 3, 1) by decide +kernel) rfl rfl,
  fun _ _ _ _ _ _ _ _ => r_iadd (show zdec 300 551 = some (.iadd, 1) by decide +kernel) rfl,
  fun _ _ _ _ _ _ _ _ => r_iald (show zdec 300 552 = some (.iaload, 1) by decide +kernel) rfl,
  fun _ _ _ _ _ _ _ _ _ _ => r_cV [_, _, _] rfl (show zdec 300 553 = some (.invokevirtual 52, 3) by decide +kernel) (show zst.lookup (300 * zKEY + 52) = some (1, 47, 3, 11) by decide +kernel) (by decide) rfl,
  fun _ _ _ _ _ _ => r_aload_n (show zdec 300 556 = some (.aload_n 2, 1) by decide +kernel) rfl rfl,
  fun _ _ _ _ _ _ => r_aload_n (show zdec 300 557 = some (.aload_n 0, 1) by decide +kernel) rfl rfl,
  fun _ _ _ _ _ _ => r_iload_n (show zdec 300 558 = some (.iload_n 3, 1) by decide +kernel) rfl rfl,
  fun _ _ _ _ _ _ => r_iconst (show zdec 300 559 = some (.iconst 1, 1) by decide +kernel) rfl rfl,
  fun _ _ _ _ _ _ _ _ => r_iadd (show zdec 300 560 = some (.iadd, 1) by decide +kernel) rfl,
  fun _ _ _ _ _ _ _ _ => r_iald (show zdec 300 561 = some (.iaload, 1) by decide +kernel) rfl,
  fun _ _ _ _ _ _ => r_aload_n (show zdec 300 562 = some (.aload_n 0, 1) by decide +kernel) rfl rfl,
  fun _ _ _ _ _ _ => r_iload_n (show zdec 300 563 = some (.iload_n 3, 1) by decide +kernel) rfl rfl,
  fun _ _ _ _ _ _ => r_iconst (show zdec 300 564 = some (.iconst 2, 1) by decide +kernel) rfl rfl,
  fun _ _ _ _ _ _ _ _ => r_iadd (show zdec 300 565 = some (.iadd, 1) by decide +kernel) rfl,
  fun _ _ _ _ _ _ _ _ => r_iald (show zdec 300 566 = some (.iaload, 1) by decide +kernel) rfl,
  fun _ _ _ _ _ _ => r_aload_n (show zdec 300 567 = some (.aload_n 0, 1) by decide +kernel) rfl rfl,
  fun _ _ _ _ _ _ => r_iload_n (show zdec 300 568 = some (.iload_n 3, 1) by decide +kernel) rfl rfl,
  fun _ _ _ _ _ _ => r_iconst (show zdec 300 569 = some (.iconst 3, 1) by decide +kernel) rfl rfl,
  fun _ _ _ _ _ _ _ _ => r_iadd (show zdec 300 570 = some (.iadd, 1) by decide +kernel) rfl,
  fun _ _ _ _ _ _ _ _ => r_iald (show zdec 300 571 = some (.iaload, 1) by decide +kernel) rfl,
  fun _ _ _ _ _ _ _ _ _ _ => r_cV [_, _, _] rfl (show zdec 300 572 = some (.invokevirtual 55, 3) by decide +kernel) (show zst.lookup (300 * zKEY + 55) = some (1, 227, 3, 12) by decide +kernel) (by decide) rfl,
  fun _ _ _ _ _ _ _ _ => r_icmpeq (show zdec 300 575 = some (.if_icmp .eq 987, 3) by decide +kernel) rfl rfl,
  fun _ _ _ _ _ _ => r_iconst (show zdec 300 578 = some (.iconst 0, 1) by decide +kernel) rfl rfl,
  fun _ _ _ _ _ _ => r_iretb (show zdec 300 579 = some (.ireturn, 1) by decide +kernel) (by decide +kernel),
  fun _ _ _ _ _ _ => r_aload_n (show zdec 300 580 = some (.aload_n 1, 1) by decide +kernel) rfl rfl,
  fun _ _ _ _ _ _ => r_aload_n (show zdec 300 581 = some (.aload_n 0, 1) by decide +kernel) rfl rfl,
  fun _ _ _ _ _ _ => r_iload_n (show zdec 300 582 = some (.iload_n 3, 1) by decide +kernel) rfl rfl,
  fun _ _ _ _ _ _ => r_iconst (show zdec 300 583 = some (.iconst 1, 1) by decide +kernel) rfl rfl,
  fun _ _ _ _ _ _ _ _ => r_iadd (show zdec 300 584 = some (.iadd, 1) by decide +kernel) rfl,
  fun _ _ _ _ _ _ _ _ => r_iald (show zdec 300 585 = some (.iaload, 1) by decide +kernel) rfl,
  fun _ _ _ _ _ _ => r_aload_n (show zdec 300 586 = some (.aload_n 0, 1) by decide +kernel) rfl rfl,
  fun _ _ _ _ _ _ => r_iload_n (show zdec 300 587 = some (.iload_n 3, 1) by decide +kernel) rfl rfl,
  fun _ _ _ _ _ _ => r_iconst (show zdec 300 588 = some (.iconst 2, 1) by decide +kernel) rfl rfl,
  fun _ _ _ _ _ _ _ _ => r_iadd (show zdec 300 589 = some (.iadd, 1) by decide +kernel) rfl,
  fun _ _ _ _ _ _ _ _ => r_iald (show zdec 300 590 = some (.iaload, 1) by decide +kernel) rfl,
  fun _ _ _ _ _ _ _ _ _ => r_cV [_, _] rfl (show zdec 300 591 = some (.invokevirtual 56, 3) by decide +kernel) (show zst.lookup (300 * zKEY + 56) = some (1, 49, 2, 11) by decide +kernel) (by decide) rfl,
  fun _ _ _ _ _ _ => r_aload_n (show zdec 300 594 = some (.aload_n 2, 1) by decide +kernel) rfl rfl,
  fun _ _ _ _ _ _ => r_aload_n (show zdec 300 595 = some (.aload_n 0, 1) by decide +kernel) rfl rfl,
  fun _ _ _ _ _ _ => r_iload_n (show zdec 300 596 = some (.iload_n 3, 1) by decide +kernel) rfl rfl,
  fun _ _ _ _ _ _ => r_iconst (show zdec 300 597 = some (.iconst 1, 1) by decide +kernel) rfl rfl,
  fun _ _ _ _ _ _ _ _ => r_iadd (show zdec 300 598 = some (.iadd, 1) by decide +kernel) rfl,
  fun _ _ _ _ _ _ _ _ => r_iald (show zdec 300 599 = some (.iaload, 1) by decide +kernel) rfl,
  fun _ _ _ _ _ _ => r_aload_n (show zdec 300 600 = some (.aload_n 0, 1) by decide +kernel) rfl rfl,
  fun _ _ _ _ _ _ => r_iload_n (show zdec 300 601 = some (.iload_n 3, 1) by decide +kernel) rfl rfl,
  fun _ _ _ _ _ _ => r_iconst (show zdec 300 602 = some (.iconst 2, 1) by decide +kernel) rfl rfl,
  fun _ _ _ _ _ _ _ _ => r_iadd (show zdec 300 603 = some (.iadd, 1) by decide +kernel) rfl,
  fun _ _ _ _ _ _ _ _ => r_iald (show zdec 300 604 = some (.iaload, 1) by decide +kernel) rfl,
  fun _ _ _ _ _ _ _ _ _ => r_cV [_, _] rfl (show zdec 300 605 = some (.invokevirtual 59, 3) by decide +kernel) (show zst.lookup (300 * zKEY + 59) = some (1, 228, 2, 12) by decide +kernel) (by decide) rfl,
  fun _ _ _ _ _ _ _ _ => r_icmpeq (show zdec 300 608 = some (.if_icmp .eq 954, 3) by decide +kernel) rfl rfl,
  fun _ _ _ _ _ _ => r_iconst (show zdec 300 611 = some (.iconst 0, 1) by decide +kernel) rfl rfl,
  fun _ _ _ _ _ _ => r_iretb (show zdec 300 612 = some (.ireturn, 1) by decide +kernel) (by decide +kernel),
  fun _ _ _ _ _ _ => r_aload_n (show zdec 300 613 = some (.aload_n 1, 1) by decide +kernel) rfl rfl,
  fun _ _ _ _ _ _ => r_aload_n (show zdec 300 614 = some (.aload_n 0, 1) by decide +kernel) rfl rfl,
  fun _ _ _ _ _ _ => r_iload_n (show zdec 300 615 = some (.iload_n 3, 1) by decide +kernel) rfl rfl,
  fun _ _ _ _ _ _ => r_iconst (show zdec 300 616 = some (.iconst 1, 1) by decide +kernel) rfl rfl,
  fun _ _ _ _ _ _ _ _ => r_iadd (show zdec 300 617 = some (.iadd, 1) by decide +kernel) rfl,
  fun _ _ _ _ _ _ _ _ => r_iald (show zdec 300 618 = some (.iaload, 1) by decide +kernel) rfl,
  fun _ _ _ _ _ _ => r_aload_n (show zdec 300 619 = some (.aload_n 0, 1) by decide +kernel) rfl rfl,
  fun _ _ _ _ _ _ => r_iload_n (show zdec 300 620 = some (.iload_n 3, 1) by decide +kernel) rfl rfl,
  fun _ _ _ _ _ _ => r_iconst (show zdec 300 621 = some (.iconst 2, 1) by decide +kernel) rfl rfl,
  fun _ _ _ _ _ _ _ _ => r_iadd (show zdec 300 622 = some (.iadd, 1) by decide +kernel) rfl,
  fun _ _ _ _ _ _ _ _ => r_iald (show zdec 300 623 = some (.iaload, 1) by decide +kernel) rfl,
  fun _ _ _ _ _ _ => r_aload_n (show zdec 300 624 = some (.aload_n 0, 1) by decide +kernel) rfl rfl,
  fun _ _ _ _ _ _ => r_iload_n (show zdec 300 625 = some (.iload_n 3, 1) by decide +kernel) rfl rfl,
  fun _ _ _ _ _ _ => r_iconst (show zdec 300 626 = some (.iconst 3, 1) by decide +kernel) rfl rfl,
  fun _ _ _ _ _ _ _ _ => r_iadd (show zdec 300 627 = some (.iadd, 1) by decide +kernel) rfl,
  fun _ _ _ _ _ _ _ _ => r_iald (show zdec 300 628 = some (.iaload, 1) by decide +kernel) rfl,
  fun _ _ _ _ _ _ _ _ _ _ => r_cV [_, _, _] rfl (show zdec 300 629 = some (.invokevirtual 60, 3) by decide +kernel) (show zst.lookup (300 * zKEY + 60) = some (1, 55, 3, 11) by decide +kernel) (by decide) rfl,
  fun _ _ _ _ _ _ => r_aload_n (show zdec 300 632 = some (.aload_n 2, 1) by decide +kernel) rfl rfl,
  fun _ _ _ _ _ _ => r_aload_n (show zdec 300 633 = some (.aload_n 0, 1) by decide +kernel) rfl rfl,
  fun _ _ _ _ _ _ => r_iload_n (show zdec 300 634 = some (.iload_n 3, 1) by decide +kernel) rfl rfl,
  fun _ _ _ _ _ _ => r_iconst (show zdec 300 635 = some (.iconst 1, 1) by decide +kernel) rfl rfl,
  fun _ _ _ _ _ _ _ _ => r_iadd (show zdec 300 636 = some (.iadd, 1) by decide +kernel) rfl,
  fun _ _ _ _ _ _ _ _ => r_iald (show zdec 300 637 = some (.iaload, 1) by decide +kernel) rfl,
  fun _ _ _ _ _ _ => r_aload_n (show zdec 300 638 = some (.aload_n 0, 1) by decide +kernel) rfl rfl,
  fun _ _ _ _ _ _ => r_iload_n (show zdec 300 639 = some (.iload_n 3, 1) by decide +kernel) rfl rfl,
  fun _ _ _ _ _ _ => r_iconst (show zdec 300 640 = some (.iconst 2, 1) by decide +kernel) rfl rfl,
  fun _ _ _ _ _ _ _ _ => r_iadd (show zdec 300 641 = some (.iadd, 1) by decide +kernel) rfl,
  fun _ _ _ _ _ _ _ _ => r_iald (show zdec 300 642 = some (.iaload, 1) by decide +kernel) rfl,
  fun _ _ _ _ _ _ => r_aload_n (show zdec 300 643 = some (.aload_n 0, 1) by decide +kernel) rfl rfl,
  fun _ _ _ _ _ _ => r_iload_n (show zdec 300 644 = some (.iload_n 3, 1) by decide +kernel) rfl rfl,
  fun _ _ _ _ _ _ => r_iconst (show zdec 300 645 = some (.iconst 3, 1) by decide +kernel) rfl rfl,
  fun _ _ _ _ _ _ _ _ => r_iadd (show zdec 300 646 = some (.iadd, 1) by decide +kernel) rfl,
  fun _ _ _ _ _ _ _ _ => r_iald (show zdec 300 647 = some (.iaload, 1) by decide +kernel) rfl,
  fun _ _ _ _ _ _ _ _ _ _ => r_cV [_, _, _] rfl (show zdec 300 648 = some (.invokevirtual 63, 3) by decide +kernel) (show zst.lookup (300 * zKEY + 63) = some (1, 231, 3, 12) by decide +kernel) (by decide) rfl,
  fun _ _ _ _ _ _ _ _ => r_icmpeq (show zdec 300 651 = some (.if_icmp .eq 911, 3) by decide +kernel) rfl rfl,
  fun _ _ _ _ _ _ => r_iconst (show zdec 300 654 = some (.iconst 0, 1) by decide +kernel) rfl rfl,
  fun _ _ _ _ _ _ => r_iretb (show zdec 300 655 = some (.ireturn, 1) by decide +kernel) (by decide +kernel),
  fun _ _ _ _ _ _ => r_aload_n (show zdec 300 656 = some (.aload_n 1, 1) by decide +kernel) rfl rfl,
  fun _ _ _ _ _ _ _ => r_cV [] rfl (show zdec 300 657 = some (.invokevirtual 64, 3) by decide +kernel) (show zst.lookup (300 * zKEY + 64) = some (1, 57, 0, 11) by decide +kernel) (by decide) rfl,
  fun _ _ _ _ _ _ => r_aload_n (show zdec 300 660 = some (.aload_n 2, 1) by decide +kernel) rfl rfl,
  fun _ _ _ _ _ _ _ => r_cV [] rfl (show zdec 300 661 = some (.invokevirtual 67, 3) by decide +kernel) (show zst.lookup (300 * zKEY + 67) = some (1, 232, 0, 12) by decide +kernel) (by decide) rfl,
  fun _ _ _ _ _ _ _ _ => r_icmpeq (show zdec 300 664 = some (.if_icmp .eq 898, 3) by decide +kernel) rfl rfl,
  fun _ _ _ _ _ _ => r_iconst (show zdec 300 667 = some (.iconst 0, 1) by decide +kernel) rfl rfl,
  fun _ _ _ _ _ _ => r_iretb (show zdec 300 668 = some (.ireturn, 1) by decide +kernel) (by decide +kernel),
  fun _ _ _ _ _ _ => r_aload_n (show zdec 300 669 = some (.aload_n 1, 1) by decide +kernel) rfl rfl,
  fun _ _ _ _ _ _ _ => r_cV [] rfl (show zdec 300 670 = some (.invokevirtual 68, 3) by decide +kernel) (show zst.lookup (300 * zKEY + 68) = some (1, 77, 0, 11) by decide +kernel) (by decide) rfl,
  fun _ _ _ _ _ _ => r_aload_n (show zdec 300 673 = some (.aload_n 2, 1) by decide +kernel) rfl rfl,
  fun _ _ _ _ _ _ _ => r_cV [] rfl (show zdec 300 674 = some (.invokevirtual 71, 3) by decide +kernel) (show zst.lookup (300 * zKEY + 71) = some (1, 250, 0, 12) by decide +kernel) (by decide) rfl,
  fun _ _ _ _ _ _ _ _ => r_icmpeq (show zdec 300 677 = some (.if_icmp .eq 885, 3) by decide +kernel) rfl rfl,
  fun _ _ _ _ _ _ => r_iconst (show zdec 300 680 = some (.iconst 0, 1) by decide +kernel) rfl rfl,
  fun _ _ _ _ _ _ => r_iretb (show zdec 300 681 = some (.ireturn, 1) by decide +kernel) (by decide +kernel),
  fun _ _ _ _ _ _ => r_aload_n (show zdec 300 682 = some (.aload_n 1, 1) by decide +kernel) rfl rfl⟩
theorem zr_300_2 : (∀ (l0 l1 l2 l3 : Value) (o : Nat) (S : List Value) (h : zH), rn 300 683 [l0, l1, l2, l3] (.ref o :: S) h = if zkd h o = 11 ∧ zsum S ≤ 8 then zcall (ev 81 [.ref o] h) (fun v h => rn 300 686 [l0, l1, l2, l3] (zpush v S) h) else none) ∧
  (∀ (l0 l1 l2 l3 : Value) (S : List Value) (h : zH), rn 300 686 [l0, l1, l2, l3] S h = ldA l2 (rn 300 687 [l0, l1, l2, l3] (l2 :: S) h)) ∧
  (∀ (l0 l1 l2 l3 : Value) (o : Nat) (S : List Value) (h : zH), rn 300 687 [l0, l1, l2, l3] (.ref o :: S) h = if zkd h o = 12 ∧ zsum S ≤ 8 then zcall (ev 251 [.ref o] h) (fun v h => rn 300 690 [l0, l1, l2, l3] (zpush v S) h) else none) ∧
  (∀ (l0 l1 l2 l3 : Value) (x : Int32) (y : Int32) (S : List Value) (h : zH), rn 300 690 [l0, l1, l2, l3] (.int y :: .int x :: S) h = if x = y then rn 300 1562 [l0, l1, l2, l3] S h else rn 300 693 [l0, l1, l2, l3] S h) ∧
  (∀ (l0 l1 l2 l3 : Value) (S : List Value) (h : zH), rn 300 693 [l0, l1, l2, l3] S h = rn 300 694 [l0, l1, l2, l3] (.int (nI 0) :: S) h) ∧
  (∀ (l0 l1 l2 l3 : Value) (x : Int32) (h : zH), rn 300 694 [l0, l1, l2, l3] [.int x] h = if x = nI 0 ∨ x = nI 1 then some (some (.int x), h) else none) ∧
  (∀ (l0 l1 l2 l3 : Value) (S : List Value) (h : zH), rn 300 695 [l0, l1, l2, l3] S h = ldA l1 (rn 300 696 [l0, l1, l2, l3] (l1 :: S) h)) ∧
  (∀ (l0 l1 l2 l3 : Value) (S : List Value) (h : zH), rn 300 696 [l0, l1, l2, l3] S h = ldA l0 (rn 300 697 [l0, l1, l2, l3] (l0 :: S) h)) ∧
  (∀ (l0 l1 l2 : Value) (x : Int32) (S : List Value) (h : zH), rn 300 697 [l0, l1, l2, .int x] S h = rn 300 698 [l0, l1, l2, .int x] (.int x :: S) h) ∧
  (∀ (l0 l1 l2 l3 : Value) (S : List Value) (h : zH), rn 300 698 [l0, l1, l2, l3] S h = rn 300 699 [l0, l1, l2, l3] (.int (nI 1) :: S) h) ∧
  (∀ (l0 l1 l2 l3 : Value) (x : Int32) (y : Int32) (S : List Value) (h : zH), rn 300 699 [l0, l1, l2, l3] (.int y :: .int x :: S) h = rn 300 700 [l0, l1, l2, l3] (.int (x + y) :: S) h) ∧
  (∀ (l0 l1 l2 l3 : Value) (a : Nat) (j : Int32) (S : List Value) (h : zH), rn 300 700 [l0, l1, l2, l3] (.int j :: .ref a :: S) h = zli h a 0 j fun x => rn 300 701 [l0, l1, l2, l3] (.int x :: S) h) ∧
  (∀ (l0 l1 l2 l3 : Value) (S : List Value) (h : zH), rn 300 701 [l0, l1, l2, l3] S h = ldA l0 (rn 300 702 [l0, l1, l2, l3] (l0 :: S) h)) ∧
  (∀ (l0 l1 l2 : Value) (x : Int32) (S : List Value) (h : zH), rn 300 702 [l0, l1, l2, .int x] S h = rn 300 703 [l0, l1, l2, .int x] (.int x :: S) h) ∧
  (∀ (l0 l1 l2 l3 : Value) (S : List Value) (h : zH), rn 300 703 [l0, l1, l2, l3] S h = rn 300 704 [l0, l1, l2, l3] (.int (nI 2) :: S) h) ∧
  (∀ (l0 l1 l2 l3 : Value) (x : Int32) (y : Int32) (S : List Value) (h : zH), rn 300 704 [l0, l1, l2, l3] (.int y :: .int x :: S) h = rn 300 705 [l0, l1, l2, l3] (.int (x + y) :: S) h) ∧
  (∀ (l0 l1 l2 l3 : Value) (a : Nat) (j : Int32) (S : List Value) (h : zH), rn 300 705 [l0, l1, l2, l3] (.int j :: .ref a :: S) h = zli h a 0 j fun x => rn 300 706 [l0, l1, l2, l3] (.int x :: S) h) ∧
  (∀ (l0 l1 l2 l3 : Value) (S : List Value) (h : zH), rn 300 706 [l0, l1, l2, l3] S h = ldA l0 (rn 300 707 [l0, l1, l2, l3] (l0 :: S) h)) ∧
  (∀ (l0 l1 l2 : Value) (x : Int32) (S : List Value) (h : zH), rn 300 707 [l0, l1, l2, .int x] S h = rn 300 708 [l0, l1, l2, .int x] (.int x :: S) h) ∧
  (∀ (l0 l1 l2 l3 : Value) (S : List Value) (h : zH), rn 300 708 [l0, l1, l2, l3] S h = rn 300 709 [l0, l1, l2, l3] (.int (nI 3) :: S) h) ∧
  (∀ (l0 l1 l2 l3 : Value) (x : Int32) (y : Int32) (S : List Value) (h : zH), rn 300 709 [l0, l1, l2, l3] (.int y :: .int x :: S) h = rn 300 710 [l0, l1, l2, l3] (.int (x + y) :: S) h) ∧
  (∀ (l0 l1 l2 l3 : Value) (a : Nat) (j : Int32) (S : List Value) (h : zH), rn 300 710 [l0, l1, l2, l3] (.int j :: .ref a :: S) h = zli h a 0 j fun x => rn 300 711 [l0, l1, l2, l3] (.int x :: S) h) ∧
  (∀ (l0 l1 l2 l3 : Value) (o : Nat) (v0 : Value) (v1 : Value) (v2 : Value) (S : List Value) (h : zH), rn 300 711 [l0, l1, l2, l3] (v2 :: v1 :: v0 :: .ref o :: S) h = if zkd h o = 11 ∧ zsum S ≤ 8 then zcall (ev 82 [.ref o, v0, v1, v2] h) (fun v h => rn 300 714 [l0, l1, l2, l3] (zpush v S) h) else none) ∧
  (∀ (l0 l1 l2 l3 : Value) (S : List Value) (h : zH), rn 300 714 [l0, l1, l2, l3] S h = ldA l2 (rn 300 715 [l0, l1, l2, l3] (l2 :: S) h)) ∧
  (∀ (l0 l1 l2 l3 : Value) (S : List Value) (h : zH), rn 300 715 [l0, l1, l2, l3] S h = ldA l0 (rn 300 716 [l0, l1, l2, l3] (l0 :: S) h)) ∧
  (∀ (l0 l1 l2 : Value) (x : Int32) (S : List Value) (h : zH), rn 300 716 [l0, l1, l2, .int x] S h = rn 300 717 [l0, l1, l2, .int x] (.int x :: S) h) ∧
  (∀ (l0 l1 l2 l3 : Value) (S : List Value) (h : zH), rn 300 717 [l0, l1, l2, l3] S h = rn 300 718 [l0, l1, l2, l3] (.int (nI 1) :: S) h) ∧
  (∀ (l0 l1 l2 l3 : Value) (x : Int32) (y : Int32) (S : List Value) (h : zH), rn 300 718 [l0, l1, l2, l3] (.int y :: .int x :: S) h = rn 300 719 [l0, l1, l2, l3] (.int (x + y) :: S) h) ∧
  (∀ (l0 l1 l2 l3 : Value) (a : Nat) (j : Int32) (S : List Value) (h : zH), rn 300 719 [l0, l1, l2, l3] (.int j :: .ref a :: S) h = zli h a 0 j fun x => rn 300 720 [l0, l1, l2, l3] (.int x :: S) h) ∧
  (∀ (l0 l1 l2 l3 : Value) (S : List Value) (h : zH), rn 300 720 [l0, l1, l2, l3] S h = ldA l0 (rn 300 721 [l0, l1, l2, l3] (l0 :: S) h)) ∧
  (∀ (l0 l1 l2 : Value) (x : Int32) (S : List Value) (h : zH), rn 300 721 [l0, l1, l2, .int x] S h = rn 300 722 [l0, l1, l2, .int x] (.int x :: S) h) ∧
  (∀ (l0 l1 l2 l3 : Value) (S : List Value) (h : zH), rn 300 722 [l0, l1, l2, l3] S h = rn 300 723 [l0, l1, l2, l3] (.int (nI 2) :: S) h) ∧
  (∀ (l0 l1 l2 l3 : Value) (x : Int32) (y : Int32) (S : List Value) (h : zH), rn 300 723 [l0, l1, l2, l3] (.int y :: .int x :: S) h = rn 300 724 [l0, l1, l2, l3] (.int (x + y) :: S) h) ∧
  (∀ (l0 l1 l2 l3 : Value) (a : Nat) (j : Int32) (S : List Value) (h : zH), rn 300 724 [l0, l1, l2, l3] (.int j :: .ref a :: S) h = zli h a 0 j fun x => rn 300 725 [l0, l1, l2, l3] (.int x :: S) h) ∧
  (∀ (l0 l1 l2 l3 : Value) (S : List Value) (h : zH), rn 300 725 [l0, l1, l2, l3] S h = ldA l0 (rn 300 726 [l0, l1, l2, l3] (l0 :: S) h)) ∧
  (∀ (l0 l1 l2 : Value) (x : Int32) (S : List Value) (h : zH), rn 300 726 [l0, l1, l2, .int x] S h = rn 300 727 [l0, l1, l2, .int x] (.int x :: S) h) ∧
  (∀ (l0 l1 l2 l3 : Value) (S : List Value) (h : zH), rn 300 727 [l0, l1, l2, l3] S h = rn 300 728 [l0, l1, l2, l3] (.int (nI 3) :: S) h) ∧
  (∀ (l0 l1 l2 l3 : Value) (x : Int32) (y : Int32) (S : List Value) (h : zH), rn 300 728 [l0, l1, l2, l3] (.int y :: .int x :: S) h = rn 300 729 [l0, l1, l2, l3] (.int (x + y) :: S) h) ∧
  (∀ (l0 l1 l2 l3 : Value) (a : Nat) (j : Int32) (S : List Value) (h : zH), rn 300 729 [l0, l1, l2, l3] (.int j :: .ref a :: S) h = zli h a 0 j fun x => rn 300 730 [l0, l1, l2, l3] (.int x :: S) h) ∧
  (∀ (l0 l1 l2 l3 : Value) (o : Nat) (v0 : Value) (v1 : Value) (v2 : Value) (S : List Value) (h : zH), rn 300 730 [l0, l1, l2, l3] (v2 :: v1 :: v0 :: .ref o :: S) h = if zkd h o = 12 ∧ zsum S ≤ 8 then zcall (ev 252 [.ref o, v0, v1, v2] h) (fun v h => rn 300 733 [l0, l1, l2, l3] (zpush v S) h) else none) ∧
  (∀ (l0 l1 l2 l3 : Value) (x : Int32) (y : Int32) (S : List Value) (h : zH), rn 300 733 [l0, l1, l2, l3] (.int y :: .int x :: S) h = if x = y then rn 300 1562 [l0, l1, l2, l3] S h else rn 300 736 [l0, l1, l2, l3] S h) ∧
  (∀ (l0 l1 l2 l3 : Value) (S : List Value) (h : zH), rn 300 736 [l0, l1, l2, l3] S h = rn 300 737 [l0, l1, l2, l3] (.int (nI 0) :: S) h) ∧
  (∀ (l0 l1 l2 l3 : Value) (x : Int32) (h : zH), rn 300 737 [l0, l1, l2, l3] [.int x] h = if x = nI 0 ∨ x = nI 1 then some (some (.int x), h) else none) ∧
  (∀ (l0 l1 l2 l3 : Value) (S : List Value) (h : zH), rn 300 738 [l0, l1, l2, l3] S h = ldA l1 (rn 300 739 [l0, l1, l2, l3] (l1 :: S) h)) ∧
  (∀ (l0 l1 l2 l3 : Value) (S : List Value) (h : zH), rn 300 739 [l0, l1, l2, l3] S h = ldA l0 (rn 300 740 [l0, l1, l2, l3] (l0 :: S) h)) ∧
  (∀ (l0 l1 l2 : Value) (x : Int32) (S : List Value) (h : zH), rn 300 740 [l0, l1, l2, .int x] S h = rn 300 741 [l0, l1, l2, .int x] (.int x :: S) h) ∧
  (∀ (l0 l1 l2 l3 : Value) (S : List Value) (h : zH), rn 300 741 [l0, l1, l2, l3] S h = rn 300 742 [l0, l1, l2, l3] (.int (nI 1) :: S) h) ∧
  (∀ (l0 l1 l2 l3 : Value) (x : Int32) (y : Int32) (S : List Value) (h : zH), rn 300 742 [l0, l1, l2, l3] (.int y :: .int x :: S) h = rn 300 743 [l0, l1, l2, l3] (.int (x + y) :: S) h) ∧
  (∀ (l0 l1 l2 l3 : Value) (a : Nat) (j : Int32) (S : List Value) (h : zH), rn 300 743 [l0, l1, l2, l3] (.int j :: .ref a :: S) h = zli h a 0 j fun x => rn 300 744 [l0, l1, l2, l3] (.int x :: S) h) ∧
  (∀ (l0 l1 l2 l3 : Value) (S : List Value) (h : zH), rn 300 744 [l0, l1, l2, l3] S h = ldA l0 (rn 300 745 [l0, l1, l2, l3] (l0 :: S) h)) ∧
  (∀ (l0 l1 l2 : Value) (x : Int32) (S : List Value) (h : zH), rn 300 745 [l0, l1, l2, .int x] S h = rn 300 746 [l0, l1, l2, .int x] (.int x :: S) h) ∧
  (∀ (l0 l1 l2 l3 : Value) (S : List Value) (h : zH), rn 300 746 [l0, l1, l2, l3] S h = rn 300 747 [l0, l1, l2, l3] (.int (nI 2) :: S) h) ∧
  (∀ (l0 l1 l2 l3 : Value) (x : Int32) (y : Int32) (S : List Value) (h : zH), rn 300 747 [l0, l1, l2, l3] (.int y :: .int x :: S) h = rn 300 748 [l0, l1, l2, l3] (.int (x + y) :: S) h) ∧
  (∀ (l0 l1 l2 l3 : Value) (a : Nat) (j : Int32) (S : List Value) (h : zH), rn 300 748 [l0, l1, l2, l3] (.int j :: .ref a :: S) h = zli h a 0 j fun x => rn 300 749 [l0, l1, l2, l3] (.int x :: S) h) ∧
  (∀ (l0 l1 l2 l3 : Value) (o : Nat) (v0 : Value) (v1 : Value) (S : List Value) (h : zH), rn 300 749 [l0, l1, l2, l3] (v1 :: v0 :: .ref o :: S) h = if zkd h o = 11 ∧ zsum S ≤ 8 then zcall (ev 83 [.ref o, v0, v1] h) (fun v h => rn 300 752 [l0, l1, l2, l3] (zpush v S) h) else none) ∧
  (∀ (l0 l1 l2 l3 : Value) (S : List Value) (h : zH), rn 300 752 [l0, l1, l2, l3] S h = ldA l2 (rn 300 753 [l0, l1, l2, l3] (l2 :: S) h)) ∧
  (∀ (l0 l1 l2 l3 : Value) (S : List Value) (h : zH), rn 300 753 [l0, l1, l2, l3] S h = ldA l0 (rn 300 754 [l0, l1, l2, l3] (l0 :: S) h)) ∧
  (∀ (l0 l1 l2 : Value) (x : Int32) (S : List Value) (h : zH), rn 300 754 [l0, l1, l2, .int x] S h = rn 300 755 [l0, l1, l2, .int x] (.int x :: S) h) ∧
  (∀ (l0 l1 l2 l3 : Value) (S : List Value) (h : zH), rn 300 755 [l0, l1, l2, l3] S h = rn 300 756 [l0, l1, l2, l3] (.int (nI 1) :: S) h) ∧
  (∀ (l0 l1 l2 l3 : Value) (x : Int32) (y : Int32) (S : List Value) (h : zH), rn 300 756 [l0, l1, l2, l3] (.int y :: .int x :: S) h = rn 300 757 [l0, l1, l2, l3] (.int (x + y) :: S) h) ∧
  (∀ (l0 l1 l2 l3 : Value) (a : Nat) (j : Int32) (S : List Value) (h : zH), rn 300 757 [l0, l1, l2, l3] (.int j :: .ref a :: S) h = zli h a 0 j fun x => rn 300 758 [l0, l1, l2, l3] (.int x :: S) h) ∧
  (∀ (l0 l1 l2 l3 : Value) (S : List Value) (h : zH), rn 300 758 [l0, l1, l2, l3] S h = ldA l0 (rn 300 759 [l0, l1, l2, l3] (l0 :: S) h)) ∧
  (∀ (l0 l1 l2 : Value) (x : Int32) (S : List Value) (h : zH), rn 300 759 [l0, l1, l2, .int x] S h = rn 300 760 [l0, l1, l2, .int x] (.int x :: S) h) ∧
  (∀ (l0 l1 l2 l3 : Value) (S : List Value) (h : zH), rn 300 760 [l0, l1, l2, l3] S h = rn 300 761 [l0, l1, l2, l3] (.int (nI 2) :: S) h) ∧
  (∀ (l0 l1 l2 l3 : Value) (x : Int32) (y : Int32) (S : List Value) (h : zH), rn 300 761 [l0, l1, l2, l3] (.int y :: .int x :: S) h = rn 300 762 [l0, l1, l2, l3] (.int (x + y) :: S) h) ∧
  (∀ (l0 l1 l2 l3 : Value) (a : Nat) (j : Int32) (S : List Value) (h : zH), rn 300 762 [l0, l1, l2, l3] (.int j :: .ref a :: S) h = zli h a 0 j fun x => rn 300 763 [l0, l1, l2, l3] (.int x :: S) h) ∧
  (∀ (l0 l1 l2 l3 : Value) (o : Nat) (v0 : Value) (v1 : Value) (S : List Value) (h : zH), rn 300 763 [l0, l1, l2, l3] (v1 :: v0 :: .ref o :: S) h = if zkd h o = 12 ∧ zsum S ≤ 8 then zcall (ev 253 [.ref o, v0, v1] h) (fun v h => rn 300 766 [l0, l1, l2, l3] (zpush v S) h) else none) ∧
  (∀ (l0 l1 l2 l3 : Value) (x : Int32) (y : Int32) (S : List Value) (h : zH), rn 300 766 [l0, l1, l2, l3] (.int y :: .int x :: S) h = if x = y then rn 300 1562 [l0, l1, l2, l3] S h else rn 300 769 [l0, l1, l2, l3] S h) ∧
  (∀ (l0 l1 l2 l3 : Value) (S : List Value) (h : zH), rn 300 769 [l0, l1, l2, l3] S h = rn 300 770 [l0, l1, l2, l3] (.int (nI 0) :: S) h) ∧
  (∀ (l0 l1 l2 l3 : Value) (x : Int32) (h : zH), rn 300 770 [l0, l1, l2, l3] [.int x] h = if x = nI 0 ∨ x = nI 1 then some (some (.int x), h) else none) ∧
  (∀ (l0 l1 l2 l3 : Value) (S : List Value) (h : zH), rn 300 771 [l0, l1, l2, l3] S h = ldA l1 (rn 300 772 [l0, l1, l2, l3] (l1 :: S) h)) ∧
  (∀ (l0 l1 l2 l3 : Value) (S : List Value) (h : zH), rn 300 772 [l0, l1, l2, l3] S h = ldA l0 (rn 300 773 [l0, l1, l2, l3] (l0 :: S) h)) ∧
  (∀ (l0 l1 l2 : Value) (x : Int32) (S : List Value) (h : zH), rn 300 773 [l0, l1, l2, .int x] S h = rn 300 774 [l0, l1, l2, .int x] (.int x :: S) h) ∧
  (∀ (l0 l1 l2 l3 : Value) (S : List Value) (h : zH), rn 300 774 [l0, l1, l2, l3] S h = rn 300 775 [l0, l1, l2, l3] (.int (nI 1) :: S) h) ∧
  (∀ (l0 l1 l2 l3 : Value) (x : Int32) (y : Int32) (S : List Value) (h : zH), rn 300 775 [l0, l1, l2, l3] (.int y :: .int x :: S) h = rn 300 776 [l0, l1, l2, l3] (.int (x + y) :: S) h) ∧
  (∀ (l0 l1 l2 l3 : Value) (a : Nat) (j : Int32) (S : List Value) (h : zH), rn 300 776 [l0, l1, l2, l3] (.int j :: .ref a :: S) h = zli h a 0 j fun x => rn 300 777 [l0, l1, l2, l3] (.int x :: S) h) ∧
  (∀ (l0 l1 l2 l3 : Value) (S : List Value) (h : zH), rn 300 777 [l0, l1, l2, l3] S h = ldA l0 (rn 300 778 [l0, l1, l2, l3] (l0 :: S) h)) ∧
  (∀ (l0 l1 l2 : Value) (x : Int32) (S : List Value) (h : zH), rn 300 778 [l0, l1, l2, .int x] S h = rn 300 779 [l0, l1, l2, .int x] (.int x :: S) h) ∧
  (∀ (l0 l1 l2 l3 : Value) (S : List Value) (h : zH), rn 300 779 [l0, l1, l2, l3] S h = rn 300 780 [l0, l1, l2, l3] (.int (nI 2) :: S) h) ∧
  (∀ (l0 l1 l2 l3 : Value) (x : Int32) (y : Int32) (S : List Value) (h : zH), rn 300 780 [l0, l1, l2, l3] (.int y :: .int x :: S) h = rn 300 781 [l0, l1, l2, l3] (.int (x + y) :: S) h) ∧
  (∀ (l0 l1 l2 l3 : Value) (a : Nat) (j : Int32) (S : List Value) (h : zH), rn 300 781 [l0, l1, l2, l3] (.int j :: .ref a :: S) h = zli h a 0 j fun x => rn 300 782 [l0, l1, l2, l3] (.int x :: S) h) ∧
  (∀ (l0 l1 l2 l3 : Value) (S : List Value) (h : zH), rn 300 782 [l0, l1, l2, l3] S h = ldA l0 (rn 300 783 [l0, l1, l2, l3] (l0 :: S) h)) ∧
  (∀ (l0 l1 l2 : Value) (x : Int32) (S : List Value) (h : zH), rn 300 783 [l0, l1, l2, .int x] S h = rn 300 784 [l0, l1, l2, .int x] (.int x :: S) h) ∧
  (∀ (l0 l1 l2 l3 : Value) (S : List Value) (h : zH), rn 300 784 [l0, l1, l2, l3] S h = rn 300 785 [l0, l1, l2, l3] (.int (nI 3) :: S) h) ∧
  (∀ (l0 l1 l2 l3 : Value) (x : Int32) (y : Int32) (S : List Value) (h : zH), rn 300 785 [l0, l1, l2, l3] (.int y :: .int x :: S) h = rn 300 786 [l0, l1, l2, l3] (.int (x + y) :: S) h) ∧
  (∀ (l0 l1 l2 l3 : Value) (a : Nat) (j : Int32) (S : List Value) (h : zH), rn 300 786 [l0, l1, l2, l3] (.int j :: .ref a :: S) h = zli h a 0 j fun x => rn 300 787 [l0, l1, l2, l3] (.int x :: S) h) ∧
  (∀ (l0 l1 l2 l3 : Value) (o : Nat) (v0 : Value) (v1 : Value) (v2 : Value) (S : List Value) (h : zH), rn 300 787 [l0, l1, l2, l3] (v2 :: v1 :: v0 :: .ref o :: S) h = if zkd h o = 11 ∧ zsum S ≤ 8 then zcall (ev 85 [.ref o, v0, v1, v2] h) (fun v h => rn 300 790 [l0, l1, l2, l3] (zpush v S) h) else none) ∧
  (∀ (l0 l1 l2 l3 : Value) (S : List Value) (h : zH), rn 300 790 [l0, l1, l2, l3] S h = ldA l2 (rn 300 791 [l0, l1, l2, l3] (l2 :: S) h)) ∧
  (∀ (l0 l1 l2 l3 : Value) (S : List Value) (h : zH), rn 300 791 [l0, l1, l2, l3] S h = ldA l0 (rn 300 792 [l0, l1, l2, l3] (l0 :: S) h)) ∧
  (∀ (l0 l1 l2 : Value) (x : Int32) (S : List Value) (h : zH), rn 300 792 [l0, l1, l2, .int x] S h = rn 300 793 [l0, l1, l2, .int x] (.int x :: S) h) ∧
  (∀ (l0 l1 l2 l3 : Value) (S : List Value) (h : zH), rn 300 793 [l0, l1, l2, l3] S h = rn 300 794 [l0, l1, l2, l3] (.int (nI 1) :: S) h) ∧
  (∀ (l0 l1 l2 l3 : Value) (x : Int32) (y : Int32) (S : List Value) (h : zH), rn 300 794 [l0, l1, l2, l3] (.int y :: .int x :: S) h = rn 300 795 [l0, l1, l2, l3] (.int (x + y) :: S) h) ∧
  (∀ (l0 l1 l2 l3 : Value) (a : Nat) (j : Int32) (S : List Value) (h : zH), rn 300 795 [l0, l1, l2, l3] (.int j :: .ref a :: S) h = zli h a 0 j fun x => rn 300 796 [l0, l1, l2, l3] (.int x :: S) h) ∧
  (∀ (l0 l1 l2 l3 : Value) (S : List Value) (h : zH), rn 300 796 [l0, l1, l2, l3] S h = ldA l0 (rn 300 797 [l0, l1, l2, l3] (l0 :: S) h)) ∧
  (∀ (l0 l1 l2 : Value) (x : Int32) (S : List Value) (h : zH), rn 300 797 [l0, l1, l2, .int x] S h = rn 300 798 [l0, l1, l2, .int x] (.int x :: S) h) ∧
  (∀ (l0 l1 l2 l3 : Value) (S : List Value) (h : zH), rn 300 798 [l0, l1, l2, l3] S h = rn 300 799 [l0, l1, l2, l3] (.int (nI 2) :: S) h) ∧
  (∀ (l0 l1 l2 l3 : Value) (x : Int32) (y : Int32) (S : List Value) (h : zH), rn 300 799 [l0, l1, l2, l3] (.int y :: .int x :: S) h = rn 300 800 [l0, l1, l2, l3] (.int (x + y) :: S) h) ∧
  (∀ (l0 l1 l2 l3 : Value) (a : Nat) (j : Int32) (S : List Value) (h : zH), rn 300 800 [l0, l1, l2, l3] (.int j :: .ref a :: S) h = zli h a 0 j fun x => rn 300 801 [l0, l1, l2, l3] (.int x :: S) h) ∧
  (∀ (l0 l1 l2 l3 : Value) (S : List Value) (h : zH), rn 300 801 [l0, l1, l2, l3] S h = ldA l0 (rn 300 802 [l0, l1, l2, l3] (l0 :: S) h)) ∧
  (∀ (l0 l1 l2 : Value) (x : Int32) (S : List Value) (h : zH), rn 300 802 [l0, l1, l2, .int x] S h = rn 300 803 [l0, l1, l2, .int x] (.int x :: S) h) ∧
  (∀ (l0 l1 l2 l3 : Value) (S : List Value) (h : zH), rn 300 803 [l0, l1, l2, l3] S h = rn 300 804 [l0, l1, l2, l3] (.int (nI 3) :: S) h) ∧
  (∀ (l0 l1 l2 l3 : Value) (x : Int32) (y : Int32) (S : List Value) (h : zH), rn 300 804 [l0, l1, l2, l3] (.int y :: .int x :: S) h = rn 300 805 [l0, l1, l2, l3] (.int (x + y) :: S) h) ∧
  (∀ (l0 l1 l2 l3 : Value) (a : Nat) (j : Int32) (S : List Value) (h : zH), rn 300 805 [l0, l1, l2, l3] (.int j :: .ref a :: S) h = zli h a 0 j fun x => rn 300 806 [l0, l1, l2, l3] (.int x :: S) h) ∧
  (∀ (l0 l1 l2 l3 : Value) (o : Nat) (v0 : Value) (v1 : Value) (v2 : Value) (S : List Value) (h : zH), rn 300 806 [l0, l1, l2, l3] (v2 :: v1 :: v0 :: .ref o :: S) h = if zkd h o = 12 ∧ zsum S ≤ 8 then zcall (ev 254 [.ref o, v0, v1, v2] h) (fun v h => rn 300 809 [l0, l1, l2, l3] (zpush v S) h) else none) ∧
  (∀ (l0 l1 l2 l3 : Value) (x : Int32) (y : Int32) (S : List Value) (h : zH), rn 300 809 [l0, l1, l2, l3] (.int y :: .int x :: S) h = if x = y then rn 300 1562 [l0, l1, l2, l3] S h else rn 300 812 [l0, l1, l2, l3] S h) ∧
  (∀ (l0 l1 l2 l3 : Value) (S : List Value) (h : zH), rn 300 812 [l0, l1, l2, l3] S h = rn 300 813 [l0, l1, l2, l3] (.int (nI 0) :: S) h) ∧
  (∀ (l0 l1 l2 l3 : Value) (x : Int32) (h : zH), rn 300 813 [l0, l1, l2, l3] [.int x] h = if x = nI 0 ∨ x = nI 1 then some (some (.int x), h) else none) ∧
  (∀ (l0 l1 l2 l3 : Value) (S : List Value) (h : zH), rn 300 814 [l0, l1, l2, l3] S h = ldA l1 (rn 300 815 [l0, l1, l2, l3] (l1 :: S) h)) ∧
  (∀ (l0 l1 l2 l3 : Value) (S : List Value) (h : zH), rn 300 815 [l0, l1, l2, l3] S h = ldA l0 (rn 300 816 [l0, l1, l2, l3] (l0 :: S) h)) ∧
  (∀ (l0 l1 l2 : Value) (x : Int32) (S : List Value) (h : zH), rn 300 816 [l0, l1, l2, .int x] S h = rn 300 817 [l0, l1, l2, .int x] (.int x :: S) h) ∧
  (∀ (l0 l1 l2 l3 : Value) (S : List Value) (h : zH), rn 300 817 [l0, l1, l2, l3] S h = rn 300 818 [l0, l1, l2, l3] (.int (nI 1) :: S) h) ∧
  (∀ (l0 l1 l2 l3 : Value) (x : Int32) (y : Int32) (S : List Value) (h : zH), rn 300 818 [l0, l1, l2, l3] (.int y :: .int x :: S) h = rn 300 819 [l0, l1, l2, l3] (.int (x + y) :: S) h) ∧
  (∀ (l0 l1 l2 l3 : Value) (a : Nat) (j : Int32) (S : List Value) (h : zH), rn 300 819 [l0, l1, l2, l3] (.int j :: .ref a :: S) h = zli h a 0 j fun x => rn 300 820 [l0, l1, l2, l3] (.int x :: S) h) ∧
  (∀ (l0 l1 l2 l3 : Value) (S : List Value) (h : zH), rn 300 820 [l0, l1, l2, l3] S h = ldA l0 (rn 300 821 [l0, l1, l2, l3] (l0 :: S) h)) ∧
  (∀ (l0 l1 l2 : Value) (x : Int32) (S : List Value) (h : zH), rn 300 821 [l0, l1, l2, .int x] S h = rn 300 822 [l0, l1, l2, .int x] (.int x :: S) h) ∧
  (∀ (l0 l1 l2 l3 : Value) (S : List Value) (h : zH), rn 300 822 [l0, l1, l2, l3] S h = rn 300 823 [l0, l1, l2, l3] (.int (nI 2) :: S) h) ∧
  (∀ (l0 l1 l2 l3 : Value) (x : Int32) (y : Int32) (S : List Value) (h : zH), rn 300 823 [l0, l1, l2, l3] (.int y :: .int x :: S) h = rn 300 824 [l0, l1, l2, l3] (.int (x + y) :: S) h) ∧
  (∀ (l0 l1 l2 l3 : Value) (a : Nat) (j : Int32) (S : List Value) (h : zH), rn 300 824 [l0, l1, l2, l3] (.int j :: .ref a :: S) h = zli h a 0 j fun x => rn 300 825 [l0, l1, l2, l3] (.int x :: S) h) ∧
  (∀ (l0 l1 l2 l3 : Value) (o : Nat) (v0 : Value) (v1 : Value) (S : List Value) (h : zH), rn 300 825 [l0, l1, l2, l3] (v1 :: v0 :: .ref o :: S) h = if zkd h o = 11 ∧ zsum S ≤ 8 then zcall (ev 86 [.ref o, v0, v1] h) (fun v h => rn 300 828 [l0, l1, l2, l3] (zpush v S) h) else none) ∧
  (∀ (l0 l1 l2 l3 : Value) (S : List Value) (h : zH), rn 300 828 [l0, l1, l2, l3] S h = ldA l2 (rn 300 829 [l0, l1, l2, l3] (l2 :: S) h)) ∧
  (∀ (l0 l1 l2 l3 : Value) (S : List Value) (h : zH), rn 300 829 [l0, l1, l2, l3] S h = ldA l0 (rn 300 830 [l0, l1, l2, l3] (l0 :: S) h)) ∧
  (∀ (l0 l1 l2 : Value) (x : Int32) (S : List Value) (h : zH), rn 300 830 [l0, l1, l2, .int x] S h = rn 300 831 [l0, l1, l2, .int x] (.int x :: S) h) ∧
  (∀ (l0 l1 l2 l3 : Value) (S : List Value) (h : zH), rn 300 831 [l0, l1, l2, l3] S h = rn 300 832 [l0, l1, l2, l3] (.int (nI 1) :: S) h) ∧
  (∀ (l0 l1 l2 l3 : Value) (x : Int32) (y : Int32) (S : List Value) (h : zH), rn 300 832 [l0, l1, l2, l3] (.int y :: .int x :: S) h = rn 300 833 [l0, l1, l2, l3] (.int (x + y) :: S) h) ∧
  (∀ (l0 l1 l2 l3 : Value) (a : Nat) (j : Int32) (S : List Value) (h : zH), rn 300 833 [l0, l1, l2, l3] (.int j :: .ref a :: S) h = zli h a 0 j fun x => rn 300 834 [l0, l1, l2, l3] (.int x :: S) h) ∧
  (∀ (l0 l1 l2 l3 : Value) (S : List Value) (h : zH), rn 300 834 [l0, l1, l2, l3] S h = ldA l0 (rn 300 835 [l0, l1, l2, l3] (l0 :: S) h)) ∧
  (∀ (l0 l1 l2 : Value) (x : Int32) (S : List Value) (h : zH), rn 300 835 [l0, l1, l2, .int x] S h = rn 300 836 [l0, l1, l2, .int x] (.int x :: S) h) ∧
  (∀ (l0 l1 l2 l3 : Value) (S : List Value) (h : zH), rn 300 836 [l0, l1, l2, l3] S h = rn 300 837 [l0, l1, l2, l3] (.int (nI 2) :: S) h) ∧
  (∀ (l0 l1 l2 l3 : Value) (x : Int32) (y : Int32) (S : List Value) (h : zH), rn 300 837 [l0, l1, l2, l3] (.int y :: .int x :: S) h = rn 300 838 [l0, l1, l2, l3] (.int (x + y) :: S) h) ∧
  (∀ (l0 l1 l2 l3 : Value) (a : Nat) (j : Int32) (S : List Value) (h : zH), rn 300 838 [l0, l1, l2, l3] (.int j :: .ref a :: S) h = zli h a 0 j fun x => rn 300 839 [l0, l1, l2, l3] (.int x :: S) h) ∧
  (∀ (l0 l1 l2 l3 : Value) (o : Nat) (v0 : Value) (v1 : Value) (S : List Value) (h : zH), rn 300 839 [l0, l1, l2, l3] (v1 :: v0 :: .ref o :: S) h = if zkd h o = 12 ∧ zsum S ≤ 8 then zcall (ev 255 [.ref o, v0, v1] h) (fun v h => rn 300 842 [l0, l1, l2, l3] (zpush v S) h) else none) ∧
  (∀ (l0 l1 l2 l3 : Value) (x : Int64) (y : Int64) (S : List Value) (h : zH), rn 300 842 [l0, l1, l2, l3] (.long y :: .long x :: S) h = rn 300 843 [l0, l1, l2, l3] (.int (lg_cmp x y) :: S) h) ∧
  (∀ (l0 l1 l2 l3 : Value) (x : Int32) (S : List Value) (h : zH), rn 300 843 [l0, l1, l2, l3] (.int x :: S) h = if x = nI 0 then rn 300 1562 [l0, l1, l2, l3] S h else rn 300 846 [l0, l1, l2, l3] S h) ∧
  (∀ (l0 l1 l2 l3 : Value) (S : List Value) (h : zH), rn 300 846 [l0, l1, l2, l3] S h = rn 300 847 [l0, l1, l2, l3] (.int (nI 0) :: S) h) ∧
  (∀ (l0 l1 l2 l3 : Value) (x : Int32) (h : zH), rn 300 847 [l0, l1, l2, l3] [.int x] h = if x = nI 0 ∨ x = nI 1 then some (some (.int x), h) else none) ∧
  (∀ (l0 l1 l2 l3 : Value) (S : List Value) (h : zH), rn 300 848 [l0, l1, l2, l3] S h = ldA l1 (rn 300 849 [l0, l1, l2, l3] (l1 :: S) h)) ∧
  (∀ (l0 l1 l2 l3 : Value) (S : List Value) (h : zH), rn 300 849 [l0, l1, l2, l3] S h = ldA l0 (rn 300 850 [l0, l1, l2, l3] (l0 :: S) h)) ∧
  (∀ (l0 l1 l2 : Value) (x : Int32) (S : List Value) (h : zH), rn 300 850 [l0, l1, l2, .int x] S h = rn 300 851 [l0, l1, l2, .int x] (.int x :: S) h) ∧
  (∀ (l0 l1 l2 l3 : Value) (S : List Value) (h : zH), rn 300 851 [l0, l1, l2, l3] S h = rn 300 852 [l0, l1, l2, l3] (.int (nI 1) :: S) h) ∧
  (∀ (l0 l1 l2 l3 : Value) (x : Int32) (y : Int32) (S : List Value) (h : zH), rn 300 852 [l0, l1, l2, l3] (.int y :: .int x :: S) h = rn 300 853 [l0, l1, l2, l3] (.int (x + y) :: S) h) ∧
  (∀ (l0 l1 l2 l3 : Value) (a : Nat) (j : Int32) (S : List Value) (h : zH), rn 300 853 [l0, l1, l2, l3] (.int j :: .ref a :: S) h = zli h a 0 j fun x => rn 300 854 [l0, l1, l2, l3] (.int x :: S) h) ∧
  (∀ (l0 l1 l2 l3 : Value) (S : List Value) (h : zH), rn 300 854 [l0, l1, l2, l3] S h = ldA l0 (rn 300 855 [l0, l1, l2, l3] (l0 :: S) h)) ∧
  (∀ (l0 l1 l2 : Value) (x : Int32) (S : List Value) (h : zH), rn 300 855 [l0, l1, l2, .int x] S h = rn 300 856 [l0, l1, l2, .int x] (.int x :: S) h) ∧
  (∀ (l0 l1 l2 l3 : Value) (S : List Value) (h : zH), rn 300 856 [l0, l1, l2, l3] S h = rn 300 857 [l0, l1, l2, l3] (.int (nI 2) :: S) h) ∧
  (∀ (l0 l1 l2 l3 : Value) (x : Int32) (y : Int32) (S : List Value) (h : zH), rn 300 857 [l0, l1, l2, l3] (.int y :: .int x :: S) h = rn 300 858 [l0, l1, l2, l3] (.int (x + y) :: S) h) ∧
  (∀ (l0 l1 l2 l3 : Value) (a : Nat) (j : Int32) (S : List Value) (h : zH), rn 300 858 [l0, l1, l2, l3] (.int j :: .ref a :: S) h = zli h a 0 j fun x => rn 300 859 [l0, l1, l2, l3] (.int x :: S) h) ∧
  (∀ (l0 l1 l2 l3 : Value) (S : List Value) (h : zH), rn 300 859 [l0, l1, l2, l3] S h = ldA l0 (rn 300 860 [l0, l1, l2, l3] (l0 :: S) h)) ∧
  (∀ (l0 l1 l2 : Value) (x : Int32) (S : List Value) (h : zH), rn 300 860 [l0, l1, l2, .int x] S h = rn 300 861 [l0, l1, l2, .int x] (.int x :: S) h) ∧
  (∀ (l0 l1 l2 l3 : Value) (S : List Value) (h : zH), rn 300 861 [l0, l1, l2, l3] S h = rn 300 862 [l0, l1, l2, l3] (.int (nI 3) :: S) h) ∧
  (∀ (l0 l1 l2 l3 : Value) (x : Int32) (y : Int32) (S : List Value) (h : zH), rn 300 862 [l0, l1, l2, l3] (.int y :: .int x :: S) h = rn 300 863 [l0, l1, l2, l3] (.int (x + y) :: S) h) ∧
  (∀ (l0 l1 l2 l3 : Value) (a : Nat) (j : Int32) (S : List Value) (h : zH), rn 300 863 [l0, l1, l2, l3] (.int j :: .ref a :: S) h = zli h a 0 j fun x => rn 300 864 [l0, l1, l2, l3] (.int x :: S) h) ∧
  (∀ (l0 l1 l2 l3 : Value) (o : Nat) (v0 : Value) (v1 : Value) (v2 : Value) (S : List Value) (h : zH), rn 300 864 [l0, l1, l2, l3] (v2 :: v1 :: v0 :: .ref o :: S) h = if zkd h o = 11 ∧ zsum S ≤ 8 then zcall (ev 87 [.ref o, v0, v1, v2] h) (fun v h => rn 300 867 [l0, l1, l2, l3] (zpush v S) h) else none) ∧
  (∀ (l0 l1 l2 l3 : Value) (S : List Value) (h : zH), rn 300 867 [l0, l1, l2, l3] S h = ldA l2 (rn 300 868 [l0, l1, l2, l3] (l2 :: S) h)) ∧
  (∀ (l0 l1 l2 l3 : Value) (S : List Value) (h : zH), rn 300 868 [l0, l1, l2, l3] S h = ldA l0 (rn 300 869 [l0, l1, l2, l3] (l0 :: S) h)) ∧
  (∀ (l0 l1 l2 : Value) (x : Int32) (S : List Value) (h : zH), rn 300 869 [l0, l1, l2, .int x] S h = rn 300 870 [l0, l1, l2, .int x] (.int x :: S) h) ∧
  (∀ (l0 l1 l2 l3 : Value) (S : List Value) (h : zH), rn 300 870 [l0, l1, l2, l3] S h = rn 300 871 [l0, l1, l2, l3] (.int (nI 1) :: S) h) ∧
  (∀ (l0 l1 l2 l3 : Value) (x : Int32) (y : Int32) (S : List Value) (h : zH), rn 300 871 [l0, l1, l2, l3] (.int y :: .int x :: S) h = rn 300 872 [l0, l1, l2, l3] (.int (x + y) :: S) h) ∧
  (∀ (l0 l1 l2 l3 : Value) (a : Nat) (j : Int32) (S : List Value) (h : zH), rn 300 872 [l0, l1, l2, l3] (.int j :: .ref a :: S) h = zli h a 0 j fun x => rn 300 873 [l0, l1, l2, l3] (.int x :: S) h) ∧
  (∀ (l0 l1 l2 l3 : Value) (S : List Value) (h : zH), rn 300 873 [l0, l1, l2, l3] S h = ldA l0 (rn 300 874 [l0, l1, l2, l3] (l0 :: S) h)) ∧
  (∀ (l0 l1 l2 : Value) (x : Int32) (S : List Value) (h : zH), rn 300 874 [l0, l1, l2, .int x] S h = rn 300 875 [l0, l1, l2, .int x] (.int x :: S) h) ∧
  (∀ (l0 l1 l2 l3 : Value) (S : List Value) (h : zH), rn 300 875 [l0, l1, l2, l3] S h = rn 300 876 [l0, l1, l2, l3] (.int (nI 2) :: S) h) ∧
  (∀ (l0 l1 l2 l3 : Value) (x : Int32) (y : Int32) (S : List Value) (h : zH), rn 300 876 [l0, l1, l2, l3] (.int y :: .int x :: S) h = rn 300 877 [l0, l1, l2, l3] (.int (x + y) :: S) h) ∧
  (∀ (l0 l1 l2 l3 : Value) (a : Nat) (j : Int32) (S : List Value) (h : zH), rn 300 877 [l0, l1, l2, l3] (.int j :: .ref a :: S) h = zli h a 0 j fun x => rn 300 878 [l0, l1, l2, l3] (.int x :: S) h) ∧
  (∀ (l0 l1 l2 l3 : Value) (S : List Value) (h : zH), rn 300 878 [l0, l1, l2, l3] S h = ldA l0 (rn 300 879 [l0, l1, l2, l3] (l0 :: S) h)) ∧
  (∀ (l0 l1 l2 : Value) (x : Int32) (S : List Value) (h : zH), rn 300 879 [l0, l1, l2, .int x] S h = rn 300 880 [l0, l1, l2, .int x] (.int x :: S) h) ∧
  (∀ (l0 l1 l2 l3 : Value) (S : List Value) (h : zH), rn 300 880 [l0, l1, l2, l3] S h = rn 300 881 [l0, l1, l2, l3] (.int (nI 3) :: S) h) ∧
  (∀ (l0 l1 l2 l3 : Value) (x : Int32) (y : Int32) (S : List Value) (h : zH), rn 300 881 [l0, l1, l2, l3] (.int y :: .int x :: S) h = rn 300 882 [l0, l1, l2, l3] (.int (x + y) :: S) h) ∧
  (∀ (l0 l1 l2 l3 : Value) (a : Nat) (j : Int32) (S : List Value) (h : zH), rn 300 882 [l0, l1, l2, l3] (.int j :: .ref a :: S) h = zli h a 0 j fun x => rn 300 883 [l0, l1, l2, l3] (.int x :: S) h) ∧
  (∀ (l0 l1 l2 l3 : Value) (o : Nat) (v0 : Value) (v1 : Value) (v2 : Value) (S : List Value) (h : zH), rn 300 883 [l0, l1, l2, l3] (v2 :: v1 :: v0 :: .ref o :: S) h = if zkd h o = 12 ∧ zsum S ≤ 8 then zcall (ev 256 [.ref o, v0, v1, v2] h) (fun v h => rn 300 886 [l0, l1, l2, l3] (zpush v S) h) else none) ∧
  (∀ (l0 l1 l2 l3 : Value) (x : Int64) (y : Int64) (S : List Value) (h : zH), rn 300 886 [l0, l1, l2, l3] (.long y :: .long x :: S) h = rn 300 887 [l0, l1, l2, l3] (.int (lg_cmp x y) :: S) h) ∧
  (∀ (l0 l1 l2 l3 : Value) (x : Int32) (S : List Value) (h : zH), rn 300 887 [l0, l1, l2, l3] (.int x :: S) h = if x = nI 0 then rn 300 1562 [l0, l1, l2, l3] S h else rn 300 890 [l0, l1, l2, l3] S h) ∧
  (∀ (l0 l1 l2 l3 : Value) (S : List Value) (h : zH), rn 300 890 [l0, l1, l2, l3] S h = rn 300 891 [l0, l1, l2, l3] (.int (nI 0) :: S) h) ∧
  (∀ (l0 l1 l2 l3 : Value) (x : Int32) (h : zH), rn 300 891 [l0, l1, l2, l3] [.int x] h = if x = nI 0 ∨ x = nI 1 then some (some (.int x), h) else none) ∧
  (∀ (l0 l1 l2 l3 : Value) (S : List Value) (h : zH), rn 300 892 [l0, l1, l2, l3] S h = ldA l1 (rn 300 893 [l0, l1, l2, l3] (l1 :: S) h)) ∧
  (∀ (l0 l1 l2 l3 : Value) (S : List Value) (h : zH), rn 300 893 [l0, l1, l2, l3] S h = ldA l0 (rn 300 894 [l0, l1, l2, l3] (l0 :: S) h)) ∧
  (∀ (l0 l1 l2 : Value) (x : Int32) (S : List Value) (h : zH), rn 300 894 [l0, l1, l2, .int x] S h = rn 300 895 [l0, l1, l2, .int x] (.int x :: S) h) ∧
  (∀ (l0 l1 l2 l3 : Value) (S : List Value) (h : zH), rn 300 895 [l0, l1, l2, l3] S h = rn 300 896 [l0, l1, l2, l3] (.int (nI 1) :: S) h) ∧
  (∀ (l0 l1 l2 l3 : Value) (x : Int32) (y : Int32) (S : List Value) (h : zH), rn 300 896 [l0, l1, l2, l3] (.int y :: .int x :: S) h = rn 300 897 [l0, l1, l2, l3] (.int (x + y) :: S) h) ∧
  (∀ (l0 l1 l2 l3 : Value) (a : Nat) (j : Int32) (S : List Value) (h : zH), rn 300 897 [l0, l1, l2, l3] (.int j :: .ref a :: S) h = zli h a 0 j fun x => rn 300 898 [l0, l1, l2, l3] (.int x :: S) h) ∧
  (∀ (l0 l1 l2 l3 : Value) (S : List Value) (h : zH), rn 300 898 [l0, l1, l2, l3] S h = ldA l0 (rn 300 899 [l0, l1, l2, l3] (l0 :: S) h)) ∧
  (∀ (l0 l1 l2 : Value) (x : Int32) (S : List Value) (h : zH), rn 300 899 [l0, l1, l2, .int x] S h = rn 300 900 [l0, l1, l2, .int x] (.int x :: S) h) ∧
  (∀ (l0 l1 l2 l3 : Value) (S : List Value) (h : zH), rn 300 900 [l0, l1, l2, l3] S h = rn 300 901 [l0, l1, l2, l3] (.int (nI 2) :: S) h) ∧
  (∀ (l0 l1 l2 l3 : Value) (x : Int32) (y : Int32) (S : List Value) (h : zH), rn 300 901 [l0, l1, l2, l3] (.int y :: .int x :: S) h = rn 300 902 [l0, l1, l2, l3] (.int (x + y) :: S) h) ∧
  (∀ (l0 l1 l2 l3 : Value) (a : Nat) (j : Int32) (S : List Value) (h : zH), rn 300 902 [l0, l1, l2, l3] (.int j :: .ref a :: S) h = zli h a 0 j fun x => rn 300 903 [l0, l1, l2, l3] (.int x :: S) h) ∧
  (∀ (l0 l1 l2 l3 : Value) (S : List Value) (h : zH), rn 300 903 [l0, l1, l2, l3] S h = ldA l0 (rn 300 904 [l0, l1, l2, l3] (l0 :: S) h)) ∧
  (∀ (l0 l1 l2 : Value) (x : Int32) (S : List Value) (h : zH), rn 300 904 [l0, l1, l2, .int x] S h = rn 300 905 [l0, l1, l2, .int x] (.int x :: S) h) ∧
  (∀ (l0 l1 l2 l3 : Value) (S : List Value) (h : zH), rn 300 905 [l0, l1, l2, l3] S h = rn 300 906 [l0, l1, l2, l3] (.int (nI 3) :: S) h) ∧
  (∀ (l0 l1 l2 l3 : Value) (x : Int32) (y : Int32) (S : List Value) (h : zH), rn 300 906 [l0, l1, l2, l3] (.int y :: .int x :: S) h = rn 300 907 [l0, l1, l2, l3] (.int (x + y) :: S) h) ∧
  (∀ (l0 l1 l2 l3 : Value) (a : Nat) (j : Int32) (S : List Value) (h : zH), rn 300 907 [l0, l1, l2, l3] (.int j :: .ref a :: S) h = zli h a 0 j fun x => rn 300 908 [l0, l1, l2, l3] (.int x :: S) h) ∧
  (∀ (l0 l1 l2 l3 : Value) (o : Nat) (v0 : Value) (v1 : Value) (v2 : Value) (S : List Value) (h : zH), rn 300 908 [l0, l1, l2, l3] (v2 :: v1 :: v0 :: .ref o :: S) h = if zkd h o = 11 ∧ zsum S ≤ 8 then zcall (ev 88 [.ref o, v0, v1, v2] h) (fun v h => rn 300 911 [l0, l1, l2, l3] (zpush v S) h) else none) ∧
  (∀ (l0 l1 l2 l3 : Value) (S : List Value) (h : zH), rn 300 911 [l0, l1, l2, l3] S h = ldA l2 (rn 300 912 [l0, l1, l2, l3] (l2 :: S) h)) ∧
  (∀ (l0 l1 l2 l3 : Value) (S : List Value) (h : zH), rn 300 912 [l0, l1, l2, l3] S h = ldA l0 (rn 300 913 [l0, l1, l2, l3] (l0 :: S) h)) ∧
  (∀ (l0 l1 l2 : Value) (x : Int32) (S : List Value) (h : zH), rn 300 913 [l0, l1, l2, .int x] S h = rn 300 914 [l0, l1, l2, .int x] (.int x :: S) h) ∧
  (∀ (l0 l1 l2 l3 : Value) (S : List Value) (h : zH), rn 300 914 [l0, l1, l2, l3] S h = rn 300 915 [l0, l1, l2, l3] (.int (nI 1) :: S) h) ∧
  (∀ (l0 l1 l2 l3 : Value) (x : Int32) (y : Int32) (S : List Value) (h : zH), rn 300 915 [l0, l1, l2, l3] (.int y :: .int x :: S) h = rn 300 916 [l0, l1, l2, l3] (.int (x + y) :: S) h) ∧
  (∀ (l0 l1 l2 l3 : Value) (a : Nat) (j : Int32) (S : List Value) (h : zH), rn 300 916 [l0, l1, l2, l3] (.int j :: .ref a :: S) h = zli h a 0 j fun x => rn 300 917 [l0, l1, l2, l3] (.int x :: S) h) ∧
  (∀ (l0 l1 l2 l3 : Value) (S : List Value) (h : zH), rn 300 917 [l0, l1, l2, l3] S h = ldA l0 (rn 300 918 [l0, l1, l2, l3] (l0 :: S) h)) ∧
  (∀ (l0 l1 l2 : Value) (x : Int32) (S : List Value) (h : zH), rn 300 918 [l0, l1, l2, .int x] S h = rn 300 919 [l0, l1, l2, .int x] (.int x :: S) h) ∧
  (∀ (l0 l1 l2 l3 : Value) (S : List Value) (h : zH), rn 300 919 [l0, l1, l2, l3] S h = rn 300 920 [l0, l1, l2, l3] (.int (nI 2) :: S) h) ∧
  (∀ (l0 l1 l2 l3 : Value) (x : Int32) (y : Int32) (S : List Value) (h : zH), rn 300 920 [l0, l1, l2, l3] (.int y :: .int x :: S) h = rn 300 921 [l0, l1, l2, l3] (.int (x + y) :: S) h) := ⟨fun _ _ _ _ _ _ _ => r_cV [] rfl (show zdec 300 683 = some (.invokevirtual 72, 3) by decide +kernel) (show zst.lookup (300 * zKEY + 72) = some (1, 81, 0, 11) by decide +kernel) (by decide) rfl,
  fun _ _ _ _ _ _ => r_aload_n (show zdec 300 686 = some (.aload_n 2, 1) by decide +kernel) rfl rfl,
  fun _ _ _ _ _ _ _ => r_cV [] rfl (show zdec 300 687 = some (.invokevirtual 75, 3) by decide +kernel) (show zst.lookup (300 * zKEY + 75) = some (1, 251, 0, 12) by decide +kernel) (by decide) rfl,
  fun _ _ _ _ _ _ _ _ => r_icmpeq (show zdec 300 690 = some (.if_icmp .eq 872, 3) by decide +kernel) rfl rfl,
  fun _ _ _ _ _ _ => r_iconst (show zdec 300 693 = some (.iconst 0, 1) by decide +kernel) rfl rfl,
  fun _ _ _ _ _ _ => r_iretb (show zdec 300 694 = some (.ireturn, 1) by decide +kernel) (by decide +kernel),
  fun _ _ _ _ _ _ => r_aload_n (show zdec 300 695 = some (.aload_n 1, 1) by decide +kernel) rfl rfl,
  fun _ _ _ _ _ _ => r_aload_n (show zdec 300 696 = some (.aload_n 0, 1) by decide +kernel) rfl rfl,
  fun _ _ _ _ _ _ => r_iload_n (show zdec 300 697 = some (.iload_n 3, 1) by decide +kernel) rfl rfl,
  fun _ _ _ _ _ _ => r_iconst (show zdec 300 698 = some (.iconst 1, 1) by decide +kernel) rfl rfl,
  fun _ _ _ _ _ _ _ _ => r_iadd (show zdec 300 699 = some (.iadd, 1) by decide +kernel) rfl,
  fun _ _ _ _ _ _ _ _ => r_iald (show zdec 300 700 = some (.iaload, 1) by decide +kernel) rfl,
  fun _ _ _ _ _ _ => r_aload_n (show zdec 300 701 = some (.aload_n 0, 1) by decide +kernel) rfl rfl,
  fun _ _ _ _ _ _ => r_iload_n (show zdec 300 702 = some (.iload_n 3, 1) by decide +kernel) rfl rfl,
  fun _ _ _ _ _ _ => r_iconst (show zdec 300 703 = some (.iconst 2, 1) by decide +kernel) rfl rfl,
  fun _ _ _ _ _ _ _ _ => r_iadd (show zdec 300 704 = some (.iadd, 1) by decide +kernel) rfl,
  fun _ _ _ _ _ _ _ _ => r_iald (show zdec 300 705 = some (.iaload, 1) by decide +kernel) rfl,
  fun _ _ _ _ _ _ => r_aload_n (show zdec 300 706 = some (.aload_n 0, 1) by decide +kernel) rfl rfl,
  fun _ _ _ _ _ _ => r_iload_n (show zdec 300 707 = some (.iload_n 3, 1) by decide +kernel) rfl rfl,
  fun _ _ _ _ _ _ => r_iconst (show zdec 300 708 = some (.iconst 3, 1) by decide +kernel) rfl rfl,
  fun _ _ _ _ _ _ _ _ => r_iadd (show zdec 300 709 = some (.iadd, 1) by decide +kernel) rfl,
  fun _ _ _ _ _ _ _ _ => r_iald (show zdec 300 710 = some (.iaload, 1) by decide +kernel) rfl,
  fun _ _ _ _ _ _ _ _ _ _ => r_cV [_, _, _] rfl (show zdec 300 711 = some (.invokevirtual 76, 3) by decide +kernel) (show zst.lookup (300 * zKEY + 76) = some (1, 82, 3, 11) by decide +kernel) (by decide) rfl,
  fun _ _ _ _ _ _ => r_aload_n (show zdec 300 714 = some (.aload_n 2, 1) by decide +kernel) rfl rfl,
  fun _ _ _ _ _ _ => r_aload_n (show zdec 300 715 = some (.aload_n 0, 1) by decide +kernel) rfl rfl,
  fun _ _ _ _ _ _ => r_iload_n (show zdec 300 716 = some (.iload_n 3, 1) by decide +kernel) rfl rfl,
  fun _ _ _ _ _ _ => r_iconst (show zdec 300 717 = some (.iconst 1, 1) by decide +kernel) rfl rfl,
  fun _ _ _ _ _ _ _ _ => r_iadd (show zdec 300 718 = some (.iadd, 1) by decide +kernel) rfl,
  fun _ _ _ _ _ _ _ _ => r_iald (show zdec 300 719 = some (.iaload, 1) by decide +kernel) rfl,
  fun _ _ _ _ _ _ => r_aload_n (show zdec 300 720 = some (.aload_n 0, 1) by decide +kernel) rfl rfl,
  fun _ _ _ _ _ _ => r_iload_n (show zdec 300 721 = some (.iload_n 3, 1) by decide +kernel) rfl rfl,
  fun _ _ _ _ _ _ => r_iconst (show zdec 300 722 = some (.iconst 2, 1) by decide +kernel) rfl rfl,
  fun _ _ _ _ _ _ _ _ => r_iadd (show zdec 300 723 = some (.iadd, 1) by decide +kernel) rfl,
  fun _ _ _ _ _ _ _ _ => r_iald (show zdec 300 724 = some (.iaload, 1) by decide +kernel) rfl,
  fun _ _ _ _ _ _ => r_aload_n (show zdec 300 725 = some (.aload_n 0, 1) by decide +kernel) rfl rfl,
  fun _ _ _ _ _ _ => r_iload_n (show zdec 300 726 = some (.iload_n 3, 1) by decide +kernel) rfl rfl,
  fun _ _ _ _ _ _ => r_iconst (show zdec 300 727 = some (.iconst 3, 1) by decide +kernel) rfl rfl,
  fun _ _ _ _ _ _ _ _ => r_iadd (show zdec 300 728 = some (.iadd, 1) by decide +kernel) rfl,
  fun _ _ _ _ _ _ _ _ => r_iald (show zdec 300 729 = some (.iaload, 1) by decide +kernel) rfl,
  fun _ _ _ _ _ _ _ _ _ _ => r_cV [_, _, _] rfl (show zdec 300 730 = some (.invokevirtual 79, 3) by decide +kernel) (show zst.lookup (300 * zKEY + 79) = some (1, 252, 3, 12) by decide +kernel) (by decide) rfl,
  fun _ _ _ _ _ _ _ _ => r_icmpeq (show zdec 300 733 = some (.if_icmp .eq 829, 3) by decide +kernel) rfl rfl,
  fun _ _ _ _ _ _ => r_iconst (show zdec 300 736 = some (.iconst 0, 1) by decide +kernel) rfl rfl,
  fun _ _ _ _ _ _ => r_iretb (show zdec 300 737 = some (.ireturn, 1) by decide +kernel) (by decide +kernel),
  fun _ _ _ _ _ _ => r_aload_n (show zdec 300 738 = some (.aload_n 1, 1) by decide +kernel) rfl rfl,
  fun _ _ _ _ _ _ => r_aload_n (show zdec 300 739 = some (.aload_n 0, 1) by decide +kernel) rfl rfl,
  fun _ _ _ _ _ _ => r_iload_n (show zdec 300 740 = some (.iload_n 3, 1) by decide +kernel) rfl rfl,
  fun _ _ _ _ _ _ => r_iconst (show zdec 300 741 = some (.iconst 1, 1) by decide +kernel) rfl rfl,
  fun _ _ _ _ _ _ _ _ => r_iadd (show zdec 300 742 = some (.iadd, 1) by decide +kernel) rfl,
  fun _ _ _ _ _ _ _ _ => r_iald (show zdec 300 743 = some (.iaload, 1) by decide +kernel) rfl,
  fun _ _ _ _ _ _ => r_aload_n (show zdec 300 744 = some (.aload_n 0, 1) by decide +kernel) rfl rfl,
  fun _ _ _ _ _ _ => r_iload_n (show zdec 300 745 = some (.iload_n 3, 1) by decide +kernel) rfl rfl,
  fun _ _ _ _ _ _ => r_iconst (show zdec 300 746 = some (.iconst 2, 1) by decide +kernel) rfl rfl,
  fun _ _ _ _ _ _ _ _ => r_iadd (show zdec 300 747 = some (.iadd, 1) by decide +kernel) rfl,
  fun _ _ _ _ _ _ _ _ => r_iald (show zdec 300 748 = some (.iaload, 1) by decide +kernel) rfl,
  fun _ _ _ _ _ _ _ _ _ => r_cV [_, _] rfl (show zdec 300 749 = some (.invokevirtual 80, 3) by decide +kernel) (show zst.lookup (300 * zKEY + 80) = some (1, 83, 2, 11) by decide +kernel) (by decide) rfl,
  fun _ _ _ _ _ _ => r_aload_n (show zdec 300 752 = some (.aload_n 2, 1) by decide +kernel) rfl rfl,
  fun _ _ _ _ _ _ => r_aload_n (show zdec 300 753 = some (.aload_n 0, 1) by decide +kernel) rfl rfl,
  fun _ _ _ _ _ _ => r_iload_n (show zdec 300 754 = some (.iload_n 3, 1) by decide +kernel) rfl rfl,
  fun _ _ _ _ _ _ => r_iconst (show zdec 300 755 = some (.iconst 1, 1) by decide +kernel) rfl rfl,
  fun _ _ _ _ _ _ _ _ => r_iadd (show zdec 300 756 = some (.iadd, 1) by decide +kernel) rfl,
  fun _ _ _ _ _ _ _ _ => r_iald (show zdec 300 757 = some (.iaload, 1) by decide +kernel) rfl,
  fun _ _ _ _ _ _ => r_aload_n (show zdec 300 758 = some (.aload_n 0, 1) by decide +kernel) rfl rfl,
  fun _ _ _ _ _ _ => r_iload_n (show zdec 300 759 = some (.iload_n 3, 1) by decide +kernel) rfl rfl,
  fun _ _ _ _ _ _ => r_iconst (show zdec 300 760 = some (.iconst 2, 1) by decide +kernel) rfl rfl,
  fun _ _ _ _ _ _ _ _ => r_iadd (show zdec 300 761 = some (.iadd, 1) by decide +kernel) rfl,
  fun _ _ _ _ _ _ _ _ => r_iald (show zdec 300 762 = some (.iaload, 1) by decide +kernel) rfl,
  fun _ _ _ _ _ _ _ _ _ => r_cV [_, _] rfl (show zdec 300 763 = some (.invokevirtual 83, 3) by decide +kernel) (show zst.lookup (300 * zKEY + 83) = some (1, 253, 2, 12) by decide +kernel) (by decide) rfl,
  fun _ _ _ _ _ _ _ _ => r_icmpeq (show zdec 300 766 = some (.if_icmp .eq 796, 3) by decide +kernel) rfl rfl,
  fun _ _ _ _ _ _ => r_iconst (show zdec 300 769 = some (.iconst 0, 1) by decide +kernel) rfl rfl,
  fun _ _ _ _ _ _ => r_iretb (show zdec 300 770 = some (.ireturn, 1) by decide +kernel) (by decide +kernel),
  fun _ _ _ _ _ _ => r_aload_n (show zdec 300 771 = some (.aload_n 1, 1) by decide +kernel) rfl rfl,
  fun _ _ _ _ _ _ => r_aload_n (show zdec 300 772 = some (.aload_n 0, 1) by decide +kernel) rfl rfl,
  fun _ _ _ _ _ _ => r_iload_n (show zdec 300 773 = some (.iload_n 3, 1) by decide +kernel) rfl rfl,
  fun _ _ _ _ _ _ => r_iconst (show zdec 300 774 = some (.iconst 1, 1) by decide +kernel) rfl rfl,
  fun _ _ _ _ _ _ _ _ => r_iadd (show zdec 300 775 = some (.iadd, 1) by decide +kernel) rfl,
  fun _ _ _ _ _ _ _ _ => r_iald (show zdec 300 776 = some (.iaload, 1) by decide +kernel) rfl,
  fun _ _ _ _ _ _ => r_aload_n (show zdec 300 777 = some (.aload_n 0, 1) by decide +kernel) rfl rfl,
  fun _ _ _ _ _ _ => r_iload_n (show zdec 300 778 = some (.iload_n 3, 1) by decide +kernel) rfl rfl,
  fun _ _ _ _ _ _ => r_iconst (show zdec 300 779 = some (.iconst 2, 1) by decide +kernel) rfl rfl,
  fun _ _ _ _ _ _ _ _ => r_iadd (show zdec 300 780 = some (.iadd, 1) by decide +kernel) rfl,
  fun _ _ _ _ _ _ _ _ => r_iald (show zdec 300 781 = some (.iaload, 1) by decide +kernel) rfl,
  fun _ _ _ _ _ _ => r_aload_n (show zdec 300 782 = some (.aload_n 0, 1) by decide +kernel) rfl rfl,
  fun _ _ _ _ _ _ => r_iload_n (show zdec 300 783 = some (.iload_n 3, 1) by decide +kernel) rfl rfl,
  fun _ _ _ _ _ _ => r_iconst (show zdec 300 784 = some (.iconst 3, 1) by decide +kernel) rfl rfl,
  fun _ _ _ _ _ _ _ _ => r_iadd (show zdec 300 785 = some (.iadd, 1) by decide +kernel) rfl,
  fun _ _ _ _ _ _ _ _ => r_iald (show zdec 300 786 = some (.iaload, 1) by decide +kernel) rfl,
  fun _ _ _ _ _ _ _ _ _ _ => r_cV [_, _, _] rfl (show zdec 300 787 = some (.invokevirtual 84, 3) by decide +kernel) (show zst.lookup (300 * zKEY + 84) = some (1, 85, 3, 11) by decide +kernel) (by decide) rfl,
  fun _ _ _ _ _ _ => r_aload_n (show zdec 300 790 = some (.aload_n 2, 1) by decide +kernel) rfl rfl,
  fun _ _ _ _ _ _ => r_aload_n (show zdec 300 791 = some (.aload_n 0, 1) by decide +kernel) rfl rfl,
  fun _ _ _ _ _ _ => r_iload_n (show zdec 300 792 = some (.iload_n 3, 1) by decide +kernel) rfl rfl,
  fun _ _ _ _ _ _ => r_iconst (show zdec 300 793 = some (.iconst 1, 1) by decide +kernel) rfl rfl,
  fun _ _ _ _ _ _ _ _ => r_iadd (show zdec 300 794 = some (.iadd, 1) by decide +kernel) rfl,
  fun _ _ _ _ _ _ _ _ => r_iald (show zdec 300 795 = some (.iaload, 1) by decide +kernel) rfl,
  fun _ _ _ _ _ _ => r_aload_n (show zdec 300 796 = some (.aload_n 0, 1) by decide +kernel) rfl rfl,
  fun _ _ _ _ _ _ => r_iload_n (show zdec 300 797 = some (.iload_n 3, 1) by decide +kernel) rfl rfl,
  fun _ _ _ _ _ _ => r_iconst (show zdec 300 798 = some (.iconst 2, 1) by decide +kernel) rfl rfl,
  fun _ _ _ _ _ _ _ _ => r_iadd (show zdec 300 799 = some (.iadd, 1) by decide +kernel) rfl,
  fun _ _ _ _ _ _ _ _ => r_iald (show zdec 300 800 = some (.iaload, 1) by decide +kernel) rfl,
  fun _ _ _ _ _ _ => r_aload_n (show zdec 300 801 = some (.aload_n 0, 1) by decide +kernel) rfl rfl,
  fun _ _ _ _ _ _ => r_iload_n (show zdec 300 802 = some (.iload_n 3, 1) by decide +kernel) rfl rfl,
  fun _ _ _ _ _ _ => r_iconst (show zdec 300 803 = some (.iconst 3, 1) by decide +kernel) rfl rfl,
  fun _ _ _ _ _ _ _ _ => r_iadd (show zdec 300 804 = some (.iadd, 1) by decide +kernel) rfl,
  fun _ _ _ _ _ _ _ _ => r_iald (show zdec 300 805 = some (.iaload, 1) by decide +kernel) rfl,
  fun _ _ _ _ _ _ _ _ _ _ => r_cV [_, _, _] rfl (show zdec 300 806 = some (.invokevirtual 87, 3) by decide +kernel) (show zst.lookup (300 * zKEY + 87) = some (1, 254, 3, 12) by decide +kernel) (by decide) rfl,
  fun _ _ _ _ _ _ _ _ => r_icmpeq (show zdec 300 809 = some (.if_icmp .eq 753, 3) by decide +kernel) rfl rfl,
  fun _ _ _ _ _ _ => r_iconst (show zdec 300 812 = some (.iconst 0, 1) by decide +kernel) rfl rfl,
  fun _ _ _ _ _ _ => r_iretb (show zdec 300 813 = some (.ireturn, 1) by decide +kernel) (by decide +kernel),
  fun _ _ _ _ _ _ => r_aload_n (show zdec 300 814 = some (.aload_n 1, 1) by decide +kernel) rfl rfl,
  fun _ _ _ _ _ _ => r_aload_n (show zdec 300 815 = some (.aload_n 0, 1) by decide +kernel) rfl rfl,
  fun _ _ _ _ _ _ => r_iload_n (show zdec 300 816 = some (.iload_n 3, 1) by decide +kernel) rfl rfl,
  fun _ _ _ _ _ _ => r_iconst (show zdec 300 817 = some (.iconst 1, 1) by decide +kernel) rfl rfl,
  fun _ _ _ _ _ _ _ _ => r_iadd (show zdec 300 818 = some (.iadd, 1) by decide +kernel) rfl,
  fun _ _ _ _ _ _ _ _ => r_iald (show zdec 300 819 = some (.iaload, 1) by decide +kernel) rfl,
  fun _ _ _ _ _ _ => r_aload_n (show zdec 300 820 = some (.aload_n 0, 1) by decide +kernel) rfl rfl,
  fun _ _ _ _ _ _ => r_iload_n (show zdec 300 821 = some (.iload_n 3, 1) by decide +kernel) rfl rfl,
  fun _ _ _ _ _ _ => r_iconst (show zdec 300 822 = some (.iconst 2, 1) by decide +kernel) rfl rfl,
  fun _ _ _ _ _ _ _ _ => r_iadd (show zdec 300 823 = some (.iadd, 1) by decide +kernel) rfl,
  fun _ _ _ _ _ _ _ _ => r_iald (show zdec 300 824 = some (.iaload, 1) by decide +kernel) rfl,
  fun _ _ _ _ _ _ _ _ _ => r_cV [_, _] rfl (show zdec 300 825 = some (.invokevirtual 88, 3) by decide +kernel) (show zst.lookup (300 * zKEY + 88) = some (1, 86, 2, 11) by decide +kernel) (by decide) rfl,
  fun _ _ _ _ _ _ => r_aload_n (show zdec 300 828 = some (.aload_n 2, 1) by decide +kernel) rfl rfl,
  fun _ _ _ _ _ _ => r_aload_n (show zdec 300 829 = some (.aload_n 0, 1) by decide +kernel) rfl rfl,
  fun _ _ _ _ _ _ => r_iload_n (show zdec 300 830 = some (.iload_n 3, 1) by decide +kernel) rfl rfl,
  fun _ _ _ _ _ _ => r_iconst (show zdec 300 831 = some (.iconst 1, 1) by decide +kernel) rfl rfl,
  fun _ _ _ _ _ _ _ _ => r_iadd (show zdec 300 832 = some (.iadd, 1) by decide +kernel) rfl,
  fun _ _ _ _ _ _ _ _ => r_iald (show zdec 300 833 = some (.iaload, 1) by decide +kernel) rfl,
  fun _ _ _ _ _ _ => r_aload_n (show zdec 300 834 = some (.aload_n 0, 1) by decide +kernel) rfl rfl,
  fun _ _ _ _ _ _ => r_iload_n (show zdec 300 835 = some (.iload_n 3, 1) by decide +kernel) rfl rfl,
  fun _ _ _ _ _ _ => r_iconst (show zdec 300 836 = some (.iconst 2, 1) by decide +kernel) rfl rfl,
  fun _ _ _ _ _ _ _ _ => r_iadd (show zdec 300 837 = some (.iadd, 1) by decide +kernel) rfl,
  fun _ _ _ _ _ _ _ _ => r_iald (show zdec 300 838 = some (.iaload, 1) by decide +kernel) rfl,
  fun _ _ _ _ _ _ _ _ _ => r_cV [_, _] rfl (show zdec 300 839 = some (.invokevirtual 92, 3) by decide +kernel) (show zst.lookup (300 * zKEY + 92) = some (1, 255, 2, 12) by decide +kernel) (by decide) rfl,
  fun _ _ _ _ _ _ _ _ => r_lcmp (show zdec 300 842 = some (.lcmp, 1) by decide +kernel) rfl,
  fun _ _ _ _ _ _ _ => r_ifeq (show zdec 300 843 = some (.ifCond .eq 719, 3) by decide +kernel) rfl rfl,
  fun _ _ _ _ _ _ => r_iconst (show zdec 300 846 = some (.iconst 0, 1) by decide +kernel) rfl rfl,
  fun _ _ _ _ _ _ => r_iretb (show zdec 300 847 = some (.ireturn, 1) by decide +kernel) (by decide +kernel),
  fun _ _ _ _ _ _ => r_aload_n (show zdec 300 848 = some (.aload_n 1, 1) by decide +kernel) rfl rfl,
  fun _ _ _ _ _ _ => r_aload_n (show zdec 300 849 = some (.aload_n 0, 1) by decide +kernel) rfl rfl,
  fun _ _ _ _ _ _ => r_iload_n (show zdec 300 850 = some (.iload_n 3, 1) by decide +kernel) rfl rfl,
  fun _ _ _ _ _ _ => r_iconst (show zdec 300 851 = some (.iconst 1, 1) by decide +kernel) rfl rfl,
  fun _ _ _ _ _ _ _ _ => r_iadd (show zdec 300 852 = some (.iadd, 1) by decide +kernel) rfl,
  fun _ _ _ _ _ _ _ _ => r_iald (show zdec 300 853 = some (.iaload, 1) by decide +kernel) rfl,
  fun _ _ _ _ _ _ => r_aload_n (show zdec 300 854 = some (.aload_n 0, 1) by decide +kernel) rfl rfl,
  fun _ _ _ _ _ _ => r_iload_n (show zdec 300 855 = some (.iload_n 3, 1) by decide +kernel) rfl rfl,
  fun _ _ _ _ _ _ => r_iconst (show zdec 300 856 = some (.iconst 2, 1) by decide +kernel) rfl rfl,
  fun _ _ _ _ _ _ _ _ => r_iadd (show zdec 300 857 = some (.iadd, 1) by decide +kernel) rfl,
  fun _ _ _ _ _ _ _ _ => r_iald (show zdec 300 858 = some (.iaload, 1) by decide +kernel) rfl,
  fun _ _ _ _ _ _ => r_aload_n (show zdec 300 859 = some (.aload_n 0, 1) by decide +kernel) rfl rfl,
  fun _ _ _ _ _ _ => r_iload_n (show zdec 300 860 = some (.iload_n 3, 1) by decide +kernel) rfl rfl,
  fun _ _ _ _ _ _ => r_iconst (show zdec 300 861 = some (.iconst 3, 1) by decide +kernel) rfl rfl,
  fun _ _ _ _ _ _ _ _ => r_iadd (show zdec 300 862 = some (.iadd, 1) by decide +kernel) rfl,
  fun _ _ _ _ _ _ _ _ => r_iald (show zdec 300 863 = some (.iaload, 1) by decide +kernel) rfl,
  fun _ _ _ _ _ _ _ _ _ _ => r_cV [_, _, _] rfl (show zdec 300 864 = some (.invokevirtual 93, 3) by decide +kernel) (show zst.lookup (300 * zKEY + 93) = some (1, 87, 3, 11) by decide +kernel) (by decide) rfl,
  fun _ _ _ _ _ _ => r_aload_n (show zdec 300 867 = some (.aload_n 2, 1) by decide +kernel) rfl rfl,
  fun _ _ _ _ _ _ => r_aload_n (show zdec 300 868 = some (.aload_n 0, 1) by decide +kernel) rfl rfl,
  fun _ _ _ _ _ _ => r_iload_n (show zdec 300 869 = some (.iload_n 3, 1) by decide +kernel) rfl rfl,
  fun _ _ _ _ _ _ => r_iconst (show zdec 300 870 = some (.iconst 1, 1) by decide +kernel) rfl rfl,
  fun _ _ _ _ _ _ _ _ => r_iadd (show zdec 300 871 = some (.iadd, 1) by decide +kernel) rfl,
  fun _ _ _ _ _ _ _ _ => r_iald (show zdec 300 872 = some (.iaload, 1) by decide +kernel) rfl,
  fun _ _ _ _ _ _ => r_aload_n (show zdec 300 873 = some (.aload_n 0, 1) by decide +kernel) rfl rfl,
  fun _ _ _ _ _ _ => r_iload_n (show zdec 300 874 = some (.iload_n 3, 1) by decide +kernel) rfl rfl,
  fun _ _ _ _ _ _ => r_iconst (show zdec 300 875 = some (.iconst 2, 1) by decide +kernel) rfl rfl,
  fun _ _ _ _ _ _ _ _ => r_iadd (show zdec 300 876 = some (.iadd, 1) by decide +kernel) rfl,
  fun _ _ _ _ _ _ _ _ => r_iald (show zdec 300 877 = some (.iaload, 1) by decide +kernel) rfl,
  fun _ _ _ _ _ _ => r_aload_n (show zdec 300 878 = some (.aload_n 0, 1) by decide +kernel) rfl rfl,
  fun _ _ _ _ _ _ => r_iload_n (show zdec 300 879 = some (.iload_n 3, 1) by decide +kernel) rfl rfl,
  fun _ _ _ _ _ _ => r_iconst (show zdec 300 880 = some (.iconst 3, 1) by decide +kernel) rfl rfl,
  fun _ _ _ _ _ _ _ _ => r_iadd (show zdec 300 881 = some (.iadd, 1) by decide +kernel) rfl,
  fun _ _ _ _ _ _ _ _ => r_iald (show zdec 300 882 = some (.iaload, 1) by decide +kernel) rfl,
  fun _ _ _ _ _ _ _ _ _ _ => r_cV [_, _, _] rfl (show zdec 300 883 = some (.invokevirtual 97, 3) by decide +kernel) (show zst.lookup (300 * zKEY + 97) = some (1, 256, 3, 12) by decide +kernel) (by decide) rfl,
  fun _ _ _ _ _ _ _ _ => r_lcmp (show zdec 300 886 = some (.lcmp, 1) by decide +kernel) rfl,
  fun _ _ _ _ _ _ _ => r_ifeq (show zdec 300 887 = some (.ifCond .eq 675, 3) by decide +kernel) rfl rfl,
  fun _ _ _ _ _ _ => r_iconst (show zdec 300 890 = some (.iconst 0, 1) by decide +kernel) rfl rfl,
  fun _ _ _ _ _ _ => r_iretb (show zdec 300 891 = some (.ireturn, 1) by decide +kernel) (by decide +kernel),
  fun _ _ _ _ _ _ => r_aload_n (show zdec 300 892 = some (.aload_n 1, 1) by decide +kernel) rfl rfl,
  fun _ _ _ _ _ _ => r_aload_n (show zdec 300 893 = some (.aload_n 0, 1) by decide +kernel) rfl rfl,
  fun _ _ _ _ _ _ => r_iload_n (show zdec 300 894 = some (.iload_n 3, 1) by decide +kernel) rfl rfl,
  fun _ _ _ _ _ _ => r_iconst (show zdec 300 895 = some (.iconst 1, 1) by decide +kernel) rfl rfl,
  fun _ _ _ _ _ _ _ _ => r_iadd (show zdec 300 896 = some (.iadd, 1) by decide +kernel) rfl,
  fun _ _ _ _ _ _ _ _ => r_iald (show zdec 300 897 = some (.iaload, 1) by decide +kernel) rfl,
  fun _ _ _ _ _ _ => r_aload_n (show zdec 300 898 = some (.aload_n 0, 1) by decide +kernel) rfl rfl,
  fun _ _ _ _ _ _ => r_iload_n (show zdec 300 899 = some (.iload_n 3, 1) by decide +kernel) rfl rfl,
  fun _ _ _ _ _ _ => r_iconst (show zdec 300 900 = some (.iconst 2, 1) by decide +kernel) rfl rfl,
  fun _ _ _ _ _ _ _ _ => r_iadd (show zdec 300 901 = some (.iadd, 1) by decide +kernel) rfl,
  fun _ _ _ _ _ _ _ _ => r_iald (show zdec 300 902 = some (.iaload, 1) by decide +kernel) rfl,
  fun _ _ _ _ _ _ => r_aload_n (show zdec 300 903 = some (.aload_n 0, 1) by decide +kernel) rfl rfl,
  fun _ _ _ _ _ _ => r_iload_n (show zdec 300 904 = some (.iload_n 3, 1) by decide +kernel) rfl rfl,
  fun _ _ _ _ _ _ => r_iconst (show zdec 300 905 = some (.iconst 3, 1) by decide +kernel) rfl rfl,
  fun _ _ _ _ _ _ _ _ => r_iadd (show zdec 300 906 = some (.iadd, 1) by decide +kernel) rfl,
  fun _ _ _ _ _ _ _ _ => r_iald (show zdec 300 907 = some (.iaload, 1) by decide +kernel) rfl,
  fun _ _ _ _ _ _ _ _ _ _ => r_cV [_, _, _] rfl (show zdec 300 908 = some (.invokevirtual 98, 3) by decide +kernel) (show zst.lookup (300 * zKEY + 98) = some (1, 88, 3, 11) by decide +kernel) (by decide) rfl,
  fun _ _ _ _ _ _ => r_aload_n (show zdec 300 911 = some (.aload_n 2, 1) by decide +kernel) rfl rfl,
  fun _ _ _ _ _ _ => r_aload_n (show zdec 300 912 = some (.aload_n 0, 1) by decide +kernel) rfl rfl,
  fun _ _ _ _ _ _ => r_iload_n (show zdec 300 913 = some (.iload_n 3, 1) by decide +kernel) rfl rfl,
  fun _ _ _ _ _ _ => r_iconst (show zdec 300 914 = some (.iconst 1, 1) by decide +kernel) rfl rfl,
  fun _ _ _ _ _ _ _ _ => r_iadd (show zdec 300 915 = some (.iadd, 1) by decide +kernel) rfl,
  fun _ _ _ _ _ _ _ _ => r_iald (show zdec 300 916 = some (.iaload, 1) by decide +kernel) rfl,
  fun _ _ _ _ _ _ => r_aload_n (show zdec 300 917 = some (.aload_n 0, 1) by decide +kernel) rfl rfl,
  fun _ _ _ _ _ _ => r_iload_n (show zdec 300 918 = some (.iload_n 3, 1) by decide +kernel) rfl rfl,
  fun _ _ _ _ _ _ => r_iconst (show zdec 300 919 = some (.iconst 2, 1) by decide +kernel) rfl rfl,
  fun _ _ _ _ _ _ _ _ => r_iadd (show zdec 300 920 = some (.iadd, 1) by decide +kernel) rfl⟩
theorem zr_300_3 : (∀ (l0 l1 l2 l3 : Value) (a : Nat) (j : Int32) (S : List Value) (h : zH), rn 300 921 [l0, l1, l2, l3] (.int j :: .ref a :: S) h = zli h a 0 j fun x => rn 300 922 [l0, l1, l2, l3] (.int x :: S) h) ∧
  (∀ (l0 l1 l2 l3 : Value) (S : List Value) (h : zH), rn 300 922 [l0, l1, l2, l3] S h = ldA l0 (rn 300 923 [l0, l1, l2, l3] (l0 :: S) h)) ∧
  (∀ (l0 l1 l2 : Value) (x : Int32) (S : List Value) (h : zH), rn 300 923 [l0, l1, l2, .int x] S h = rn 300 924 [l0, l1, l2, .int x] (.int x :: S) h) ∧
  (∀ (l0 l1 l2 l3 : Value) (S : List Value) (h : zH), rn 300 924 [l0, l1, l2, l3] S h = rn 300 925 [l0, l1, l2, l3] (.int (nI 3) :: S) h) ∧
  (∀ (l0 l1 l2 l3 : Value) (x : Int32) (y : Int32) (S : List Value) (h : zH), rn 300 925 [l0, l1, l2, l3] (.int y :: .int x :: S) h = rn 300 926 [l0, l1, l2, l3] (.int (x + y) :: S) h) ∧
  (∀ (l0 l1 l2 l3 : Value) (a : Nat) (j : Int32) (S : List Value) (h : zH), rn 300 926 [l0, l1, l2, l3] (.int j :: .ref a :: S) h = zli h a 0 j fun x => rn 300 927 [l0, l1, l2, l3] (.int x :: S) h) ∧
  (∀ (l0 l1 l2 l3 : Value) (o : Nat) (v0 : Value) (v1 : Value) (v2 : Value) (S : List Value) (h : zH), rn 300 927 [l0, l1, l2, l3] (v2 :: v1 :: v0 :: .ref o :: S) h = if zkd h o = 12 ∧ zsum S ≤ 8 then zcall (ev 257 [.ref o, v0, v1, v2] h) (fun v h => rn 300 930 [l0, l1, l2, l3] (zpush v S) h) else none) ∧
  (∀ (l0 l1 l2 l3 : Value) (x : Int64) (y : Int64) (S : List Value) (h : zH), rn 300 930 [l0, l1, l2, l3] (.long y :: .long x :: S) h = rn 300 931 [l0, l1, l2, l3] (.int (lg_cmp x y) :: S) h) ∧
  (∀ (l0 l1 l2 l3 : Value) (x : Int32) (S : List Value) (h : zH), rn 300 931 [l0, l1, l2, l3] (.int x :: S) h = if x = nI 0 then rn 300 1562 [l0, l1, l2, l3] S h else rn 300 934 [l0, l1, l2, l3] S h) ∧
  (∀ (l0 l1 l2 l3 : Value) (S : List Value) (h : zH), rn 300 934 [l0, l1, l2, l3] S h = rn 300 935 [l0, l1, l2, l3] (.int (nI 0) :: S) h) ∧
  (∀ (l0 l1 l2 l3 : Value) (x : Int32) (h : zH), rn 300 935 [l0, l1, l2, l3] [.int x] h = if x = nI 0 ∨ x = nI 1 then some (some (.int x), h) else none) ∧
  (∀ (l0 l1 l2 l3 : Value) (S : List Value) (h : zH), rn 300 936 [l0, l1, l2, l3] S h = ldA l1 (rn 300 937 [l0, l1, l2, l3] (l1 :: S) h)) ∧
  (∀ (l0 l1 l2 l3 : Value) (S : List Value) (h : zH), rn 300 937 [l0, l1, l2, l3] S h = ldA l0 (rn 300 938 [l0, l1, l2, l3] (l0 :: S) h)) ∧
  (∀ (l0 l1 l2 : Value) (x : Int32) (S : List Value) (h : zH), rn 300 938 [l0, l1, l2, .int x] S h = rn 300 939 [l0, l1, l2, .int x] (.int x :: S) h) ∧
  (∀ (l0 l1 l2 l3 : Value) (S : List Value) (h : zH), rn 300 939 [l0, l1, l2, l3] S h = rn 300 940 [l0, l1, l2, l3] (.int (nI 1) :: S) h) ∧
  (∀ (l0 l1 l2 l3 : Value) (x : Int32) (y : Int32) (S : List Value) (h : zH), rn 300 940 [l0, l1, l2, l3] (.int y :: .int x :: S) h = rn 300 941 [l0, l1, l2, l3] (.int (x + y) :: S) h) ∧
  (∀ (l0 l1 l2 l3 : Value) (a : Nat) (j : Int32) (S : List Value) (h : zH), rn 300 941 [l0, l1, l2, l3] (.int j :: .ref a :: S) h = zli h a 0 j fun x => rn 300 942 [l0, l1, l2, l3] (.int x :: S) h) ∧
  (∀ (l0 l1 l2 l3 : Value) (o : Nat) (v0 : Value) (S : List Value) (h : zH), rn 300 942 [l0, l1, l2, l3] (v0 :: .ref o :: S) h = if zkd h o = 11 ∧ zsum S ≤ 8 then zcall (ev 89 [.ref o, v0] h) (fun v h => rn 300 945 [l0, l1, l2, l3] (zpush v S) h) else none) ∧
  (∀ (l0 l1 l2 l3 : Value) (S : List Value) (h : zH), rn 300 945 [l0, l1, l2, l3] S h = ldA l2 (rn 300 946 [l0, l1, l2, l3] (l2 :: S) h)) ∧
  (∀ (l0 l1 l2 l3 : Value) (S : List Value) (h : zH), rn 300 946 [l0, l1, l2, l3] S h = ldA l0 (rn 300 947 [l0, l1, l2, l3] (l0 :: S) h)) ∧
  (∀ (l0 l1 l2 : Value) (x : Int32) (S : List Value) (h : zH), rn 300 947 [l0, l1, l2, .int x] S h = rn 300 948 [l0, l1, l2, .int x] (.int x :: S) h) ∧
  (∀ (l0 l1 l2 l3 : Value) (S : List Value) (h : zH), rn 300 948 [l0, l1, l2, l3] S h = rn 300 949 [l0, l1, l2, l3] (.int (nI 1) :: S) h) ∧
  (∀ (l0 l1 l2 l3 : Value) (x : Int32) (y : Int32) (S : List Value) (h : zH), rn 300 949 [l0, l1, l2, l3] (.int y :: .int x :: S) h = rn 300 950 [l0, l1, l2, l3] (.int (x + y) :: S) h) ∧
  (∀ (l0 l1 l2 l3 : Value) (a : Nat) (j : Int32) (S : List Value) (h : zH), rn 300 950 [l0, l1, l2, l3] (.int j :: .ref a :: S) h = zli h a 0 j fun x => rn 300 951 [l0, l1, l2, l3] (.int x :: S) h) ∧
  (∀ (l0 l1 l2 l3 : Value) (o : Nat) (v0 : Value) (S : List Value) (h : zH), rn 300 951 [l0, l1, l2, l3] (v0 :: .ref o :: S) h = if zkd h o = 12 ∧ zsum S ≤ 8 then zcall (ev 259 [.ref o, v0] h) (fun v h => rn 300 954 [l0, l1, l2, l3] (zpush v S) h) else none) ∧
  (∀ (l0 l1 l2 l3 : Value) (x : Int64) (y : Int64) (S : List Value) (h : zH), rn 300 954 [l0, l1, l2, l3] (.long y :: .long x :: S) h = rn 300 955 [l0, l1, l2, l3] (.int (lg_cmp x y) :: S) h) ∧
  (∀ (l0 l1 l2 l3 : Value) (x : Int32) (S : List Value) (h : zH), rn 300 955 [l0, l1, l2, l3] (.int x :: S) h = if x = nI 0 then rn 300 1562 [l0, l1, l2, l3] S h else rn 300 958 [l0, l1, l2, l3] S h) ∧
  (∀ (l0 l1 l2 l3 : Value) (S : List Value) (h : zH), rn 300 958 [l0, l1, l2, l3] S h = rn 300 959 [l0, l1, l2, l3] (.int (nI 0) :: S) h) ∧
  (∀ (l0 l1 l2 l3 : Value) (x : Int32) (h : zH), rn 300 959 [l0, l1, l2, l3] [.int x] h = if x = nI 0 ∨ x = nI 1 then some (some (.int x), h) else none) ∧
  (∀ (l0 l1 l2 l3 : Value) (S : List Value) (h : zH), rn 300 960 [l0, l1, l2, l3] S h = ldA l1 (rn 300 961 [l0, l1, l2, l3] (l1 :: S) h)) ∧
  (∀ (l0 l1 l2 l3 : Value) (S : List Value) (h : zH), rn 300 961 [l0, l1, l2, l3] S h = ldA l0 (rn 300 962 [l0, l1, l2, l3] (l0 :: S) h)) ∧
  (∀ (l0 l1 l2 : Value) (x : Int32) (S : List Value) (h : zH), rn 300 962 [l0, l1, l2, .int x] S h = rn 300 963 [l0, l1, l2, .int x] (.int x :: S) h) ∧
  (∀ (l0 l1 l2 l3 : Value) (S : List Value) (h : zH), rn 300 963 [l0, l1, l2, l3] S h = rn 300 964 [l0, l1, l2, l3] (.int (nI 1) :: S) h) ∧
  (∀ (l0 l1 l2 l3 : Value) (x : Int32) (y : Int32) (S : List Value) (h : zH), rn 300 964 [l0, l1, l2, l3] (.int y :: .int x :: S) h = rn 300 965 [l0, l1, l2, l3] (.int (x + y) :: S) h) ∧
  (∀ (l0 l1 l2 l3 : Value) (a : Nat) (j : Int32) (S : List Value) (h : zH), rn 300 965 [l0, l1, l2, l3] (.int j :: .ref a :: S) h = zli h a 0 j fun x => rn 300 966 [l0, l1, l2, l3] (.int x :: S) h) ∧
  (∀ (l0 l1 l2 l3 : Value) (o : Nat) (v0 : Value) (S : List Value) (h : zH), rn 300 966 [l0, l1, l2, l3] (v0 :: .ref o :: S) h = if zkd h o = 11 ∧ zsum S ≤ 8 then zcall (ev 90 [.ref o, v0] h) (fun v h => rn 300 969 [l0, l1, l2, l3] (zpush v S) h) else none) ∧
  (∀ (l0 l1 l2 l3 : Value) (S : List Value) (h : zH), rn 300 969 [l0, l1, l2, l3] S h = ldA l2 (rn 300 970 [l0, l1, l2, l3] (l2 :: S) h)) ∧
  (∀ (l0 l1 l2 l3 : Value) (S : List Value) (h : zH), rn 300 970 [l0, l1, l2, l3] S h = ldA l0 (rn 300 971 [l0, l1, l2, l3] (l0 :: S) h)) ∧
  (∀ (l0 l1 l2 : Value) (x : Int32) (S : List Value) (h : zH), rn 300 971 [l0, l1, l2, .int x] S h = rn 300 972 [l0, l1, l2, .int x] (.int x :: S) h) ∧
  (∀ (l0 l1 l2 l3 : Value) (S : List Value) (h : zH), rn 300 972 [l0, l1, l2, l3] S h = rn 300 973 [l0, l1, l2, l3] (.int (nI 1) :: S) h) ∧
  (∀ (l0 l1 l2 l3 : Value) (x : Int32) (y : Int32) (S : List Value) (h : zH), rn 300 973 [l0, l1, l2, l3] (.int y :: .int x :: S) h = rn 300 974 [l0, l1, l2, l3] (.int (x + y) :: S) h) ∧
  (∀ (l0 l1 l2 l3 : Value) (a : Nat) (j : Int32) (S : List Value) (h : zH), rn 300 974 [l0, l1, l2, l3] (.int j :: .ref a :: S) h = zli h a 0 j fun x => rn 300 975 [l0, l1, l2, l3] (.int x :: S) h) ∧
  (∀ (l0 l1 l2 l3 : Value) (o : Nat) (v0 : Value) (S : List Value) (h : zH), rn 300 975 [l0, l1, l2, l3] (v0 :: .ref o :: S) h = if zkd h o = 12 ∧ zsum S ≤ 8 then zcall (ev 260 [.ref o, v0] h) (fun v h => rn 300 978 [l0, l1, l2, l3] (zpush v S) h) else none) ∧
  (∀ (l0 l1 l2 l3 : Value) (x : Int64) (y : Int64) (S : List Value) (h : zH), rn 300 978 [l0, l1, l2, l3] (.long y :: .long x :: S) h = rn 300 979 [l0, l1, l2, l3] (.int (lg_cmp x y) :: S) h) ∧
  (∀ (l0 l1 l2 l3 : Value) (x : Int32) (S : List Value) (h : zH), rn 300 979 [l0, l1, l2, l3] (.int x :: S) h = if x = nI 0 then rn 300 1562 [l0, l1, l2, l3] S h else rn 300 982 [l0, l1, l2, l3] S h) ∧
  (∀ (l0 l1 l2 l3 : Value) (S : List Value) (h : zH), rn 300 982 [l0, l1, l2, l3] S h = rn 300 983 [l0, l1, l2, l3] (.int (nI 0) :: S) h) ∧
  (∀ (l0 l1 l2 l3 : Value) (x : Int32) (h : zH), rn 300 983 [l0, l1, l2, l3] [.int x] h = if x = nI 0 ∨ x = nI 1 then some (some (.int x), h) else none) ∧
  (∀ (l0 l1 l2 l3 : Value) (S : List Value) (h : zH), rn 300 984 [l0, l1, l2, l3] S h = ldA l1 (rn 300 985 [l0, l1, l2, l3] (l1 :: S) h)) ∧
  (∀ (l0 l1 l2 l3 : Value) (S : List Value) (h : zH), rn 300 985 [l0, l1, l2, l3] S h = ldA l0 (rn 300 986 [l0, l1, l2, l3] (l0 :: S) h)) ∧
  (∀ (l0 l1 l2 : Value) (x : Int32) (S : List Value) (h : zH), rn 300 986 [l0, l1, l2, .int x] S h = rn 300 987 [l0, l1, l2, .int x] (.int x :: S) h) ∧
  (∀ (l0 l1 l2 l3 : Value) (S : List Value) (h : zH), rn 300 987 [l0, l1, l2, l3] S h = rn 300 988 [l0, l1, l2, l3] (.int (nI 1) :: S) h) ∧
  (∀ (l0 l1 l2 l3 : Value) (x : Int32) (y : Int32) (S : List Value) (h : zH), rn 300 988 [l0, l1, l2, l3] (.int y :: .int x :: S) h = rn 300 989 [l0, l1, l2, l3] (.int (x + y) :: S) h) ∧
  (∀ (l0 l1 l2 l3 : Value) (a : Nat) (j : Int32) (S : List Value) (h : zH), rn 300 989 [l0, l1, l2, l3] (.int j :: .ref a :: S) h = zli h a 0 j fun x => rn 300 990 [l0, l1, l2, l3] (.int x :: S) h) ∧
  (∀ (l0 l1 l2 l3 : Value) (S : List Value) (h : zH), rn 300 990 [l0, l1, l2, l3] S h = ldA l0 (rn 300 991 [l0, l1, l2, l3] (l0 :: S) h)) ∧
  (∀ (l0 l1 l2 : Value) (x : Int32) (S : List Value) (h : zH), rn 300 991 [l0, l1, l2, .int x] S h = rn 300 992 [l0, l1, l2, .int x] (.int x :: S) h) ∧
  (∀ (l0 l1 l2 l3 : Value) (S : List Value) (h : zH), rn 300 992 [l0, l1, l2, l3] S h = rn 300 993 [l0, l1, l2, l3] (.int (nI 2) :: S) h) ∧
  (∀ (l0 l1 l2 l3 : Value) (x : Int32) (y : Int32) (S : List Value) (h : zH), rn 300 993 [l0, l1, l2, l3] (.int y :: .int x :: S) h = rn 300 994 [l0, l1, l2, l3] (.int (x + y) :: S) h) ∧
  (∀ (l0 l1 l2 l3 : Value) (a : Nat) (j : Int32) (S : List Value) (h : zH), rn 300 994 [l0, l1, l2, l3] (.int j :: .ref a :: S) h = zli h a 0 j fun x => rn 300 995 [l0, l1, l2, l3] (.int x :: S) h) ∧
  (∀ (l0 l1 l2 l3 : Value) (o : Nat) (v0 : Value) (v1 : Value) (S : List Value) (h : zH), rn 300 995 [l0, l1, l2, l3] (v1 :: v0 :: .ref o :: S) h = if zkd h o = 11 ∧ zsum S ≤ 8 then zcall (ev 91 [.ref o, v0, v1] h) (fun v h => rn 300 998 [l0, l1, l2, l3] (zpush v S) h) else none) ∧
  (∀ (l0 l1 l2 l3 : Value) (S : List Value) (h : zH), rn 300 998 [l0, l1, l2, l3] S h = ldA l2 (rn 300 999 [l0, l1, l2, l3] (l2 :: S) h)) ∧
  (∀ (l0 l1 l2 l3 : Value) (S : List Value) (h : zH), rn 300 999 [l0, l1, l2, l3] S h = ldA l0 (rn 300 1000 [l0, l1, l2, l3] (l0 :: S) h)) ∧
  (∀ (l0 l1 l2 : Value) (x : Int32) (S : List Value) (h : zH), rn 300 1000 [l0, l1, l2, .int x] S h = rn 300 1001 [l0, l1, l2, .int x] (.int x :: S) h) ∧
  (∀ (l0 l1 l2 l3 : Value) (S : List Value) (h : zH), rn 300 1001 [l0, l1, l2, l3] S h = rn 300 1002 [l0, l1, l2, l3] (.int (nI 1) :: S) h) ∧
  (∀ (l0 l1 l2 l3 : Value) (x : Int32) (y : Int32) (S : List Value) (h : zH), rn 300 1002 [l0, l1, l2, l3] (.int y :: .int x :: S) h = rn 300 1003 [l0, l1, l2, l3] (.int (x + y) :: S) h) ∧
  (∀ (l0 l1 l2 l3 : Value) (a : Nat) (j : Int32) (S : List Value) (h : zH), rn 300 1003 [l0, l1, l2, l3] (.int j :: .ref a :: S) h = zli h a 0 j fun x => rn 300 1004 [l0, l1, l2, l3] (.int x :: S) h) ∧
  (∀ (l0 l1 l2 l3 : Value) (S : List Value) (h : zH), rn 300 1004 [l0, l1, l2, l3] S h = ldA l0 (rn 300 1005 [l0, l1, l2, l3] (l0 :: S) h)) ∧
  (∀ (l0 l1 l2 : Value) (x : Int32) (S : List Value) (h : zH), rn 300 1005 [l0, l1, l2, .int x] S h = rn 300 1006 [l0, l1, l2, .int x] (.int x :: S) h) ∧
  (∀ (l0 l1 l2 l3 : Value) (S : List Value) (h : zH), rn 300 1006 [l0, l1, l2, l3] S h = rn 300 1007 [l0, l1, l2, l3] (.int (nI 2) :: S) h) ∧
  (∀ (l0 l1 l2 l3 : Value) (x : Int32) (y : Int32) (S : List Value) (h : zH), rn 300 1007 [l0, l1, l2, l3] (.int y :: .int x :: S) h = rn 300 1008 [l0, l1, l2, l3] (.int (x + y) :: S) h) ∧
  (∀ (l0 l1 l2 l3 : Value) (a : Nat) (j : Int32) (S : List Value) (h : zH), rn 300 1008 [l0, l1, l2, l3] (.int j :: .ref a :: S) h = zli h a 0 j fun x => rn 300 1009 [l0, l1, l2, l3] (.int x :: S) h) ∧
  (∀ (l0 l1 l2 l3 : Value) (o : Nat) (v0 : Value) (v1 : Value) (S : List Value) (h : zH), rn 300 1009 [l0, l1, l2, l3] (v1 :: v0 :: .ref o :: S) h = if zkd h o = 12 ∧ zsum S ≤ 8 then zcall (ev 261 [.ref o, v0, v1] h) (fun v h => rn 300 1012 [l0, l1, l2, l3] (zpush v S) h) else none) ∧
  (∀ (l0 l1 l2 l3 : Value) (x : Int32) (y : Int32) (S : List Value) (h : zH), rn 300 1012 [l0, l1, l2, l3] (.int y :: .int x :: S) h = if x = y then rn 300 1562 [l0, l1, l2, l3] S h else rn 300 1015 [l0, l1, l2, l3] S h) ∧
  (∀ (l0 l1 l2 l3 : Value) (S : List Value) (h : zH), rn 300 1015 [l0, l1, l2, l3] S h = rn 300 1016 [l0, l1, l2, l3] (.int (nI 0) :: S) h) ∧
  (∀ (l0 l1 l2 l3 : Value) (x : Int32) (h : zH), rn 300 1016 [l0, l1, l2, l3] [.int x] h = if x = nI 0 ∨ x = nI 1 then some (some (.int x), h) else none) ∧
  (∀ (l0 l1 l2 l3 : Value) (S : List Value) (h : zH), rn 300 1017 [l0, l1, l2, l3] S h = ldA l1 (rn 300 1018 [l0, l1, l2, l3] (l1 :: S) h)) ∧
  (∀ (l0 l1 l2 l3 : Value) (S : List Value) (h : zH), rn 300 1018 [l0, l1, l2, l3] S h = ldA l0 (rn 300 1019 [l0, l1, l2, l3] (l0 :: S) h)) ∧
  (∀ (l0 l1 l2 : Value) (x : Int32) (S : List Value) (h : zH), rn 300 1019 [l0, l1, l2, .int x] S h = rn 300 1020 [l0, l1, l2, .int x] (.int x :: S) h) ∧
  (∀ (l0 l1 l2 l3 : Value) (S : List Value) (h : zH), rn 300 1020 [l0, l1, l2, l3] S h = rn 300 1021 [l0, l1, l2, l3] (.int (nI 1) :: S) h) ∧
  (∀ (l0 l1 l2 l3 : Value) (x : Int32) (y : Int32) (S : List Value) (h : zH), rn 300 1021 [l0, l1, l2, l3] (.int y :: .int x :: S) h = rn 300 1022 [l0, l1, l2, l3] (.int (x + y) :: S) h) ∧
  (∀ (l0 l1 l2 l3 : Value) (a : Nat) (j : Int32) (S : List Value) (h : zH), rn 300 1022 [l0, l1, l2, l3] (.int j :: .ref a :: S) h = zli h a 0 j fun x => rn 300 1023 [l0, l1, l2, l3] (.int x :: S) h) ∧
  (∀ (l0 l1 l2 l3 : Value) (S : List Value) (h : zH), rn 300 1023 [l0, l1, l2, l3] S h = ldA l0 (rn 300 1024 [l0, l1, l2, l3] (l0 :: S) h)) ∧
  (∀ (l0 l1 l2 : Value) (x : Int32) (S : List Value) (h : zH), rn 300 1024 [l0, l1, l2, .int x] S h = rn 300 1025 [l0, l1, l2, .int x] (.int x :: S) h) ∧
  (∀ (l0 l1 l2 l3 : Value) (S : List Value) (h : zH), rn 300 1025 [l0, l1, l2, l3] S h = rn 300 1026 [l0, l1, l2, l3] (.int (nI 2) :: S) h) ∧
  (∀ (l0 l1 l2 l3 : Value) (x : Int32) (y : Int32) (S : List Value) (h : zH), rn 300 1026 [l0, l1, l2, l3] (.int y :: .int x :: S) h = rn 300 1027 [l0, l1, l2, l3] (.int (x + y) :: S) h) ∧
  (∀ (l0 l1 l2 l3 : Value) (a : Nat) (j : Int32) (S : List Value) (h : zH), rn 300 1027 [l0, l1, l2, l3] (.int j :: .ref a :: S) h = zli h a 0 j fun x => rn 300 1028 [l0, l1, l2, l3] (.int x :: S) h) ∧
  (∀ (l0 l1 l2 l3 : Value) (S : List Value) (h : zH), rn 300 1028 [l0, l1, l2, l3] S h = ldA l0 (rn 300 1029 [l0, l1, l2, l3] (l0 :: S) h)) ∧
  (∀ (l0 l1 l2 : Value) (x : Int32) (S : List Value) (h : zH), rn 300 1029 [l0, l1, l2, .int x] S h = rn 300 1030 [l0, l1, l2, .int x] (.int x :: S) h) ∧
  (∀ (l0 l1 l2 l3 : Value) (S : List Value) (h : zH), rn 300 1030 [l0, l1, l2, l3] S h = rn 300 1031 [l0, l1, l2, l3] (.int (nI 3) :: S) h) ∧
  (∀ (l0 l1 l2 l3 : Value) (x : Int32) (y : Int32) (S : List Value) (h : zH), rn 300 1031 [l0, l1, l2, l3] (.int y :: .int x :: S) h = rn 300 1032 [l0, l1, l2, l3] (.int (x + y) :: S) h) ∧
  (∀ (l0 l1 l2 l3 : Value) (a : Nat) (j : Int32) (S : List Value) (h : zH), rn 300 1032 [l0, l1, l2, l3] (.int j :: .ref a :: S) h = zli h a 0 j fun x => rn 300 1033 [l0, l1, l2, l3] (.int x :: S) h) ∧
  (∀ (l0 l1 l2 l3 : Value) (S : List Value) (h : zH), rn 300 1033 [l0, l1, l2, l3] S h = ldA l0 (rn 300 1034 [l0, l1, l2, l3] (l0 :: S) h)) ∧
  (∀ (l0 l1 l2 : Value) (x : Int32) (S : List Value) (h : zH), rn 300 1034 [l0, l1, l2, .int x] S h = rn 300 1035 [l0, l1, l2, .int x] (.int x :: S) h) ∧
  (∀ (l0 l1 l2 l3 : Value) (S : List Value) (h : zH), rn 300 1035 [l0, l1, l2, l3] S h = rn 300 1036 [l0, l1, l2, l3] (.int (nI 4) :: S) h) ∧
  (∀ (l0 l1 l2 l3 : Value) (x : Int32) (y : Int32) (S : List Value) (h : zH), rn 300 1036 [l0, l1, l2, l3] (.int y :: .int x :: S) h = rn 300 1037 [l0, l1, l2, l3] (.int (x + y) :: S) h) ∧
  (∀ (l0 l1 l2 l3 : Value) (a : Nat) (j : Int32) (S : List Value) (h : zH), rn 300 1037 [l0, l1, l2, l3] (.int j :: .ref a :: S) h = zli h a 0 j fun x => rn 300 1038 [l0, l1, l2, l3] (.int x :: S) h) ∧
  (∀ (l0 l1 l2 l3 : Value) (o : Nat) (v0 : Value) (v1 : Value) (v2 : Value) (v3 : Value) (S : List Value) (h : zH), rn 300 1038 [l0, l1, l2, l3] (v3 :: v2 :: v1 :: v0 :: .ref o :: S) h = if zkd h o = 11 ∧ zsum S ≤ 8 then zcall (ev 92 [.ref o, v0, v1, v2, v3] h) (fun v h => rn 300 1041 [l0, l1, l2, l3] (zpush v S) h) else none) ∧
  (∀ (l0 l1 l2 l3 : Value) (S : List Value) (h : zH), rn 300 1041 [l0, l1, l2, l3] S h = ldA l2 (rn 300 1042 [l0, l1, l2, l3] (l2 :: S) h)) ∧
  (∀ (l0 l1 l2 l3 : Value) (S : List Value) (h : zH), rn 300 1042 [l0, l1, l2, l3] S h = ldA l0 (rn 300 1043 [l0, l1, l2, l3] (l0 :: S) h)) ∧
  (∀ (l0 l1 l2 : Value) (x : Int32) (S : List Value) (h : zH), rn 300 1043 [l0, l1, l2, .int x] S h = rn 300 1044 [l0, l1, l2, .int x] (.int x :: S) h) ∧
  (∀ (l0 l1 l2 l3 : Value) (S : List Value) (h : zH), rn 300 1044 [l0, l1, l2, l3] S h = rn 300 1045 [l0, l1, l2, l3] (.int (nI 1) :: S) h) ∧
  (∀ (l0 l1 l2 l3 : Value) (x : Int32) (y : Int32) (S : List Value) (h : zH), rn 300 1045 [l0, l1, l2, l3] (.int y :: .int x :: S) h = rn 300 1046 [l0, l1, l2, l3] (.int (x + y) :: S) h) ∧
  (∀ (l0 l1 l2 l3 : Value) (a : Nat) (j : Int32) (S : List Value) (h : zH), rn 300 1046 [l0, l1, l2, l3] (.int j :: .ref a :: S) h = zli h a 0 j fun x => rn 300 1047 [l0, l1, l2, l3] (.int x :: S) h) ∧
  (∀ (l0 l1 l2 l3 : Value) (S : List Value) (h : zH), rn 300 1047 [l0, l1, l2, l3] S h = ldA l0 (rn 300 1048 [l0, l1, l2, l3] (l0 :: S) h)) ∧
  (∀ (l0 l1 l2 : Value) (x : Int32) (S : List Value) (h : zH), rn 300 1048 [l0, l1, l2, .int x] S h = rn 300 1049 [l0, l1, l2, .int x] (.int x :: S) h) ∧
  (∀ (l0 l1 l2 l3 : Value) (S : List Value) (h : zH), rn 300 1049 [l0, l1, l2, l3] S h = rn 300 1050 [l0, l1, l2, l3] (.int (nI 2) :: S) h) ∧
  (∀ (l0 l1 l2 l3 : Value) (x : Int32) (y : Int32) (S : List Value) (h : zH), rn 300 1050 [l0, l1, l2, l3] (.int y :: .int x :: S) h = rn 300 1051 [l0, l1, l2, l3] (.int (x + y) :: S) h) ∧
  (∀ (l0 l1 l2 l3 : Value) (a : Nat) (j : Int32) (S : List Value) (h : zH), rn 300 1051 [l0, l1, l2, l3] (.int j :: .ref a :: S) h = zli h a 0 j fun x => rn 300 1052 [l0, l1, l2, l3] (.int x :: S) h) ∧
  (∀ (l0 l1 l2 l3 : Value) (S : List Value) (h : zH), rn 300 1052 [l0, l1, l2, l3] S h = ldA l0 (rn 300 1053 [l0, l1, l2, l3] (l0 :: S) h)) ∧
  (∀ (l0 l1 l2 : Value) (x : Int32) (S : List Value) (h : zH), rn 300 1053 [l0, l1, l2, .int x] S h = rn 300 1054 [l0, l1, l2, .int x] (.int x :: S) h) ∧
  (∀ (l0 l1 l2 l3 : Value) (S : List Value) (h : zH), rn 300 1054 [l0, l1, l2, l3] S h = rn 300 1055 [l0, l1, l2, l3] (.int (nI 3) :: S) h) ∧
  (∀ (l0 l1 l2 l3 : Value) (x : Int32) (y : Int32) (S : List Value) (h : zH), rn 300 1055 [l0, l1, l2, l3] (.int y :: .int x :: S) h = rn 300 1056 [l0, l1, l2, l3] (.int (x + y) :: S) h) ∧
  (∀ (l0 l1 l2 l3 : Value) (a : Nat) (j : Int32) (S : List Value) (h : zH), rn 300 1056 [l0, l1, l2, l3] (.int j :: .ref a :: S) h = zli h a 0 j fun x => rn 300 1057 [l0, l1, l2, l3] (.int x :: S) h) ∧
  (∀ (l0 l1 l2 l3 : Value) (S : List Value) (h : zH), rn 300 1057 [l0, l1, l2, l3] S h = ldA l0 (rn 300 1058 [l0, l1, l2, l3] (l0 :: S) h)) ∧
  (∀ (l0 l1 l2 : Value) (x : Int32) (S : List Value) (h : zH), rn 300 1058 [l0, l1, l2, .int x] S h = rn 300 1059 [l0, l1, l2, .int x] (.int x :: S) h) ∧
  (∀ (l0 l1 l2 l3 : Value) (S : List Value) (h : zH), rn 300 1059 [l0, l1, l2, l3] S h = rn 300 1060 [l0, l1, l2, l3] (.int (nI 4) :: S) h) ∧
  (∀ (l0 l1 l2 l3 : Value) (x : Int32) (y : Int32) (S : List Value) (h : zH), rn 300 1060 [l0, l1, l2, l3] (.int y :: .int x :: S) h = rn 300 1061 [l0, l1, l2, l3] (.int (x + y) :: S) h) ∧
  (∀ (l0 l1 l2 l3 : Value) (a : Nat) (j : Int32) (S : List Value) (h : zH), rn 300 1061 [l0, l1, l2, l3] (.int j :: .ref a :: S) h = zli h a 0 j fun x => rn 300 1062 [l0, l1, l2, l3] (.int x :: S) h) ∧
  (∀ (l0 l1 l2 l3 : Value) (o : Nat) (v0 : Value) (v1 : Value) (v2 : Value) (v3 : Value) (S : List Value) (h : zH), rn 300 1062 [l0, l1, l2, l3] (v3 :: v2 :: v1 :: v0 :: .ref o :: S) h = if zkd h o = 12 ∧ zsum S ≤ 8 then zcall (ev 262 [.ref o, v0, v1, v2, v3] h) (fun v h => rn 300 1065 [l0, l1, l2, l3] (zpush v S) h) else none) ∧
  (∀ (l0 l1 l2 l3 : Value) (x : Int32) (y : Int32) (S : List Value) (h : zH), rn 300 1065 [l0, l1, l2, l3] (.int y :: .int x :: S) h = if x = y then rn 300 1562 [l0, l1, l2, l3] S h else rn 300 1068 [l0, l1, l2, l3] S h) ∧
  (∀ (l0 l1 l2 l3 : Value) (S : List Value) (h : zH), rn 300 1068 [l0, l1, l2, l3] S h = rn 300 1069 [l0, l1, l2, l3] (.int (nI 0) :: S) h) ∧
  (∀ (l0 l1 l2 l3 : Value) (x : Int32) (h : zH), rn 300 1069 [l0, l1, l2, l3] [.int x] h = if x = nI 0 ∨ x = nI 1 then some (some (.int x), h) else none) ∧
  (∀ (l0 l1 l2 l3 : Value) (S : List Value) (h : zH), rn 300 1070 [l0, l1, l2, l3] S h = ldA l1 (rn 300 1071 [l0, l1, l2, l3] (l1 :: S) h)) ∧
  (∀ (l0 l1 l2 l3 : Value) (S : List Value) (h : zH), rn 300 1071 [l0, l1, l2, l3] S h = ldA l0 (rn 300 1072 [l0, l1, l2, l3] (l0 :: S) h)) ∧
  (∀ (l0 l1 l2 : Value) (x : Int32) (S : List Value) (h : zH), rn 300 1072 [l0, l1, l2, .int x] S h = rn 300 1073 [l0, l1, l2, .int x] (.int x :: S) h) ∧
  (∀ (l0 l1 l2 l3 : Value) (S : List Value) (h : zH), rn 300 1073 [l0, l1, l2, l3] S h = rn 300 1074 [l0, l1, l2, l3] (.int (nI 1) :: S) h) ∧
  (∀ (l0 l1 l2 l3 : Value) (x : Int32) (y : Int32) (S : List Value) (h : zH), rn 300 1074 [l0, l1, l2, l3] (.int y :: .int x :: S) h = rn 300 1075 [l0, l1, l2, l3] (.int (x + y) :: S) h) ∧
  (∀ (l0 l1 l2 l3 : Value) (a : Nat) (j : Int32) (S : List Value) (h : zH), rn 300 1075 [l0, l1, l2, l3] (.int j :: .ref a :: S) h = zli h a 0 j fun x => rn 300 1076 [l0, l1, l2, l3] (.int x :: S) h) ∧
  (∀ (l0 l1 l2 l3 : Value) (S : List Value) (h : zH), rn 300 1076 [l0, l1, l2, l3] S h = ldA l0 (rn 300 1077 [l0, l1, l2, l3] (l0 :: S) h)) ∧
  (∀ (l0 l1 l2 : Value) (x : Int32) (S : List Value) (h : zH), rn 300 1077 [l0, l1, l2, .int x] S h = rn 300 1078 [l0, l1, l2, .int x] (.int x :: S) h) ∧
  (∀ (l0 l1 l2 l3 : Value) (S : List Value) (h : zH), rn 300 1078 [l0, l1, l2, l3] S h = rn 300 1079 [l0, l1, l2, l3] (.int (nI 2) :: S) h) ∧
  (∀ (l0 l1 l2 l3 : Value) (x : Int32) (y : Int32) (S : List Value) (h : zH), rn 300 1079 [l0, l1, l2, l3] (.int y :: .int x :: S) h = rn 300 1080 [l0, l1, l2, l3] (.int (x + y) :: S) h) ∧
  (∀ (l0 l1 l2 l3 : Value) (a : Nat) (j : Int32) (S : List Value) (h : zH), rn 300 1080 [l0, l1, l2, l3] (.int j :: .ref a :: S) h = zli h a 0 j fun x => rn 300 1081 [l0, l1, l2, l3] (.int x :: S) h) ∧
  (∀ (l0 l1 l2 l3 : Value) (S : List Value) (h : zH), rn 300 1081 [l0, l1, l2, l3] S h = ldA l0 (rn 300 1082 [l0, l1, l2, l3] (l0 :: S) h)) ∧
  (∀ (l0 l1 l2 : Value) (x : Int32) (S : List Value) (h : zH), rn 300 1082 [l0, l1, l2, .int x] S h = rn 300 1083 [l0, l1, l2, .int x] (.int x :: S) h) ∧
  (∀ (l0 l1 l2 l3 : Value) (S : List Value) (h : zH), rn 300 1083 [l0, l1, l2, l3] S h = rn 300 1084 [l0, l1, l2, l3] (.int (nI 3) :: S) h) ∧
  (∀ (l0 l1 l2 l3 : Value) (x : Int32) (y : Int32) (S : List Value) (h : zH), rn 300 1084 [l0, l1, l2, l3] (.int y :: .int x :: S) h = rn 300 1085 [l0, l1, l2, l3] (.int (x + y) :: S) h) ∧
  (∀ (l0 l1 l2 l3 : Value) (a : Nat) (j : Int32) (S : List Value) (h : zH), rn 300 1085 [l0, l1, l2, l3] (.int j :: .ref a :: S) h = zli h a 0 j fun x => rn 300 1086 [l0, l1, l2, l3] (.int x :: S) h) ∧
  (∀ (l0 l1 l2 l3 : Value) (o : Nat) (v0 : Value) (v1 : Value) (v2 : Value) (S : List Value) (h : zH), rn 300 1086 [l0, l1, l2, l3] (v2 :: v1 :: v0 :: .ref o :: S) h = if zkd h o = 11 ∧ zsum S ≤ 8 then zcall (ev 94 [.ref o, v0, v1, v2] h) (fun v h => rn 300 1089 [l0, l1, l2, l3] (zpush v S) h) else none) ∧
  (∀ (l0 l1 l2 l3 : Value) (S : List Value) (h : zH), rn 300 1089 [l0, l1, l2, l3] S h = ldA l2 (rn 300 1090 [l0, l1, l2, l3] (l2 :: S) h)) ∧
  (∀ (l0 l1 l2 l3 : Value) (S : List Value) (h : zH), rn 300 1090 [l0, l1, l2, l3] S h = ldA l0 (rn 300 1091 [l0, l1, l2, l3] (l0 :: S) h)) ∧
  (∀ (l0 l1 l2 : Value) (x : Int32) (S : List Value) (h : zH), rn 300 1091 [l0, l1, l2, .int x] S h = rn 300 1092 [l0, l1, l2, .int x] (.int x :: S) h) ∧
  (∀ (l0 l1 l2 l3 : Value) (S : List Value) (h : zH), rn 300 1092 [l0, l1, l2, l3] S h = rn 300 1093 [l0, l1, l2, l3] (.int (nI 1) :: S) h) ∧
  (∀ (l0 l1 l2 l3 : Value) (x : Int32) (y : Int32) (S : List Value) (h : zH), rn 300 1093 [l0, l1, l2, l3] (.int y :: .int x :: S) h = rn 300 1094 [l0, l1, l2, l3] (.int (x + y) :: S) h) ∧
  (∀ (l0 l1 l2 l3 : Value) (a : Nat) (j : Int32) (S : List Value) (h : zH), rn 300 1094 [l0, l1, l2, l3] (.int j :: .ref a :: S) h = zli h a 0 j fun x => rn 300 1095 [l0, l1, l2, l3] (.int x :: S) h) ∧
  (∀ (l0 l1 l2 l3 : Value) (S : List Value) (h : zH), rn 300 1095 [l0, l1, l2, l3] S h = ldA l0 (rn 300 1096 [l0, l1, l2, l3] (l0 :: S) h)) ∧
  (∀ (l0 l1 l2 : Value) (x : Int32) (S : List Value) (h : zH), rn 300 1096 [l0, l1, l2, .int x] S h = rn 300 1097 [l0, l1, l2, .int x] (.int x :: S) h) ∧
  (∀ (l0 l1 l2 l3 : Value) (S : List Value) (h : zH), rn 300 1097 [l0, l1, l2, l3] S h = rn 300 1098 [l0, l1, l2, l3] (.int (nI 2) :: S) h) ∧
  (∀ (l0 l1 l2 l3 : Value) (x : Int32) (y : Int32) (S : List Value) (h : zH), rn 300 1098 [l0, l1, l2, l3] (.int y :: .int x :: S) h = rn 300 1099 [l0, l1, l2, l3] (.int (x + y) :: S) h) ∧
  (∀ (l0 l1 l2 l3 : Value) (a : Nat) (j : Int32) (S : List Value) (h : zH), rn 300 1099 [l0, l1, l2, l3] (.int j :: .ref a :: S) h = zli h a 0 j fun x => rn 300 1100 [l0, l1, l2, l3] (.int x :: S) h) ∧
  (∀ (l0 l1 l2 l3 : Value) (S : List Value) (h : zH), rn 300 1100 [l0, l1, l2, l3] S h = ldA l0 (rn 300 1101 [l0, l1, l2, l3] (l0 :: S) h)) ∧
  (∀ (l0 l1 l2 : Value) (x : Int32) (S : List Value) (h : zH), rn 300 1101 [l0, l1, l2, .int x] S h = rn 300 1102 [l0, l1, l2, .int x] (.int x :: S) h) ∧
  (∀ (l0 l1 l2 l3 : Value) (S : List Value) (h : zH), rn 300 1102 [l0, l1, l2, l3] S h = rn 300 1103 [l0, l1, l2, l3] (.int (nI 3) :: S) h) ∧
  (∀ (l0 l1 l2 l3 : Value) (x : Int32) (y : Int32) (S : List Value) (h : zH), rn 300 1103 [l0, l1, l2, l3] (.int y :: .int x :: S) h = rn 300 1104 [l0, l1, l2, l3] (.int (x + y) :: S) h) ∧
  (∀ (l0 l1 l2 l3 : Value) (a : Nat) (j : Int32) (S : List Value) (h : zH), rn 300 1104 [l0, l1, l2, l3] (.int j :: .ref a :: S) h = zli h a 0 j fun x => rn 300 1105 [l0, l1, l2, l3] (.int x :: S) h) ∧
  (∀ (l0 l1 l2 l3 : Value) (o : Nat) (v0 : Value) (v1 : Value) (v2 : Value) (S : List Value) (h : zH), rn 300 1105 [l0, l1, l2, l3] (v2 :: v1 :: v0 :: .ref o :: S) h = if zkd h o = 12 ∧ zsum S ≤ 8 then zcall (ev 264 [.ref o, v0, v1, v2] h) (fun v h => rn 300 1108 [l0, l1, l2, l3] (zpush v S) h) else none) ∧
  (∀ (l0 l1 l2 l3 : Value) (x : Int64) (y : Int64) (S : List Value) (h : zH), rn 300 1108 [l0, l1, l2, l3] (.long y :: .long x :: S) h = rn 300 1109 [l0, l1, l2, l3] (.int (lg_cmp x y) :: S) h) ∧
  (∀ (l0 l1 l2 l3 : Value) (x : Int32) (S : List Value) (h : zH), rn 300 1109 [l0, l1, l2, l3] (.int x :: S) h = if x = nI 0 then rn 300 1562 [l0, l1, l2, l3] S h else rn 300 1112 [l0, l1, l2, l3] S h) ∧
  (∀ (l0 l1 l2 l3 : Value) (S : List Value) (h : zH), rn 300 1112 [l0, l1, l2, l3] S h = rn 300 1113 [l0, l1, l2, l3] (.int (nI 0) :: S) h) ∧
  (∀ (l0 l1 l2 l3 : Value) (x : Int32) (h : zH), rn 300 1113 [l0, l1, l2, l3] [.int x] h = if x = nI 0 ∨ x = nI 1 then some (some (.int x), h) else none) ∧
  (∀ (l0 l1 l2 l3 : Value) (S : List Value) (h : zH), rn 300 1114 [l0, l1, l2, l3] S h = ldA l1 (rn 300 1115 [l0, l1, l2, l3] (l1 :: S) h)) ∧
  (∀ (l0 l1 l2 l3 : Value) (S : List Value) (h : zH), rn 300 1115 [l0, l1, l2, l3] S h = ldA l0 (rn 300 1116 [l0, l1, l2, l3] (l0 :: S) h)) ∧
  (∀ (l0 l1 l2 : Value) (x : Int32) (S : List Value) (h : zH), rn 300 1116 [l0, l1, l2, .int x] S h = rn 300 1117 [l0, l1, l2, .int x] (.int x :: S) h) ∧
  (∀ (l0 l1 l2 l3 : Value) (S : List Value) (h : zH), rn 300 1117 [l0, l1, l2, l3] S h = rn 300 1118 [l0, l1, l2, l3] (.int (nI 1) :: S) h) ∧
  (∀ (l0 l1 l2 l3 : Value) (x : Int32) (y : Int32) (S : List Value) (h : zH), rn 300 1118 [l0, l1, l2, l3] (.int y :: .int x :: S) h = rn 300 1119 [l0, l1, l2, l3] (.int (x + y) :: S) h) ∧
  (∀ (l0 l1 l2 l3 : Value) (a : Nat) (j : Int32) (S : List Value) (h : zH), rn 300 1119 [l0, l1, l2, l3] (.int j :: .ref a :: S) h = zli h a 0 j fun x => rn 300 1120 [l0, l1, l2, l3] (.int x :: S) h) ∧
  (∀ (l0 l1 l2 l3 : Value) (S : List Value) (h : zH), rn 300 1120 [l0, l1, l2, l3] S h = ldA l0 (rn 300 1121 [l0, l1, l2, l3] (l0 :: S) h)) ∧
  (∀ (l0 l1 l2 : Value) (x : Int32) (S : List Value) (h : zH), rn 300 1121 [l0, l1, l2, .int x] S h = rn 300 1122 [l0, l1, l2, .int x] (.int x :: S) h) ∧
  (∀ (l0 l1 l2 l3 : Value) (S : List Value) (h : zH), rn 300 1122 [l0, l1, l2, l3] S h = rn 300 1123 [l0, l1, l2, l3] (.int (nI 2) :: S) h) ∧
  (∀ (l0 l1 l2 l3 : Value) (x : Int32) (y : Int32) (S : List Value) (h : zH), rn 300 1123 [l0, l1, l2, l3] (.int y :: .int x :: S) h = rn 300 1124 [l0, l1, l2, l3] (.int (x + y) :: S) h) ∧
  (∀ (l0 l1 l2 l3 : Value) (a : Nat) (j : Int32) (S : List Value) (h : zH), rn 300 1124 [l0, l1, l2, l3] (.int j :: .ref a :: S) h = zli h a 0 j fun x => rn 300 1125 [l0, l1, l2, l3] (.int x :: S) h) ∧
  (∀ (l0 l1 l2 l3 : Value) (S : List Value) (h : zH), rn 300 1125 [l0, l1, l2, l3] S h = ldA l0 (rn 300 1126 [l0, l1, l2, l3] (l0 :: S) h)) ∧
  (∀ (l0 l1 l2 : Value) (x : Int32) (S : List Value) (h : zH), rn 300 1126 [l0, l1, l2, .int x] S h = rn 300 1127 [l0, l1, l2, .int x] (.int x :: S) h) ∧
  (∀ (l0 l1 l2 l3 : Value) (S : List Value) (h : zH), rn 300 1127 [l0, l1, l2, l3] S h = rn 300 1128 [l0, l1, l2, l3] (.int (nI 3) :: S) h) ∧
  (∀ (l0 l1 l2 l3 : Value) (x : Int32) (y : Int32) (S : List Value) (h : zH), rn 300 1128 [l0, l1, l2, l3] (.int y :: .int x :: S) h = rn 300 1129 [l0, l1, l2, l3] (.int (x + y) :: S) h) ∧
  (∀ (l0 l1 l2 l3 : Value) (a : Nat) (j : Int32) (S : List Value) (h : zH), rn 300 1129 [l0, l1, l2, l3] (.int j :: .ref a :: S) h = zli h a 0 j fun x => rn 300 1130 [l0, l1, l2, l3] (.int x :: S) h) ∧
  (∀ (l0 l1 l2 l3 : Value) (o : Nat) (v0 : Value) (v1 : Value) (v2 : Value) (S : List Value) (h : zH), rn 300 1130 [l0, l1, l2, l3] (v2 :: v1 :: v0 :: .ref o :: S) h = if zkd h o = 11 ∧ zsum S ≤ 8 then zcall (ev 95 [.ref o, v0, v1, v2] h) (fun v h => rn 300 1133 [l0, l1, l2, l3] (zpush v S) h) else none) ∧
  (∀ (l0 l1 l2 l3 : Value) (S : List Value) (h : zH), rn 300 1133 [l0, l1, l2, l3] S h = ldA l2 (rn 300 1134 [l0, l1, l2, l3] (l2 :: S) h)) ∧
  (∀ (l0 l1 l2 l3 : Value) (S : List Value) (h : zH), rn 300 1134 [l0, l1, l2, l3] S h = ldA l0 (rn 300 1135 [l0, l1, l2, l3] (l0 :: S) h)) ∧
  (∀ (l0 l1 l2 : Value) (x : Int32) (S : List Value) (h : zH), rn 300 1135 [l0, l1, l2, .int x] S h = rn 300 1136 [l0, l1, l2, .int x] (.int x :: S) h) ∧
  (∀ (l0 l1 l2 l3 : Value) (S : List Value) (h : zH), rn 300 1136 [l0, l1, l2, l3] S h = rn 300 1137 [l0, l1, l2, l3] (.int (nI 1) :: S) h) ∧
  (∀ (l0 l1 l2 l3 : Value) (x : Int32) (y : Int32) (S : List Value) (h : zH), rn 300 1137 [l0, l1, l2, l3] (.int y :: .int x :: S) h = rn 300 1138 [l0, l1, l2, l3] (.int (x + y) :: S) h) ∧
  (∀ (l0 l1 l2 l3 : Value) (a : Nat) (j : Int32) (S : List Value) (h : zH), rn 300 1138 [l0, l1, l2, l3] (.int j :: .ref a :: S) h = zli h a 0 j fun x => rn 300 1139 [l0, l1, l2, l3] (.int x :: S) h) ∧
  (∀ (l0 l1 l2 l3 : Value) (S : List Value) (h : zH), rn 300 1139 [l0, l1, l2, l3] S h = ldA l0 (rn 300 1140 [l0, l1, l2, l3] (l0 :: S) h)) ∧
  (∀ (l0 l1 l2 : Value) (x : Int32) (S : List Value) (h : zH), rn 300 1140 [l0, l1, l2, .int x] S h = rn 300 1141 [l0, l1, l2, .int x] (.int x :: S) h) ∧
  (∀ (l0 l1 l2 l3 : Value) (S : List Value) (h : zH), rn 300 1141 [l0, l1, l2, l3] S h = rn 300 1142 [l0, l1, l2, l3] (.int (nI 2) :: S) h) ∧
  (∀ (l0 l1 l2 l3 : Value) (x : Int32) (y : Int32) (S : List Value) (h : zH), rn 300 1142 [l0, l1, l2, l3] (.int y :: .int x :: S) h = rn 300 1143 [l0, l1, l2, l3] (.int (x + y) :: S) h) ∧
  (∀ (l0 l1 l2 l3 : Value) (a : Nat) (j : Int32) (S : List Value) (h : zH), rn 300 1143 [l0, l1, l2, l3] (.int j :: .ref a :: S) h = zli h a 0 j fun x => rn 300 1144 [l0, l1, l2, l3] (.int x :: S) h) ∧
  (∀ (l0 l1 l2 l3 : Value) (S : List Value) (h : zH), rn 300 1144 [l0, l1, l2, l3] S h = ldA l0 (rn 300 1145 [l0, l1, l2, l3] (l0 :: S) h)) ∧
  (∀ (l0 l1 l2 : Value) (x : Int32) (S : List Value) (h : zH), rn 300 1145 [l0, l1, l2, .int x] S h = rn 300 1146 [l0, l1, l2, .int x] (.int x :: S) h) ∧
  (∀ (l0 l1 l2 l3 : Value) (S : List Value) (h : zH), rn 300 1146 [l0, l1, l2, l3] S h = rn 300 1147 [l0, l1, l2, l3] (.int (nI 3) :: S) h) ∧
  (∀ (l0 l1 l2 l3 : Value) (x : Int32) (y : Int32) (S : List Value) (h : zH), rn 300 1147 [l0, l1, l2, l3] (.int y :: .int x :: S) h = rn 300 1148 [l0, l1, l2, l3] (.int (x + y) :: S) h) ∧
  (∀ (l0 l1 l2 l3 : Value) (a : Nat) (j : Int32) (S : List Value) (h : zH), rn 300 1148 [l0, l1, l2, l3] (.int j :: .ref a :: S) h = zli h a 0 j fun x => rn 300 1149 [l0, l1, l2, l3] (.int x :: S) h) ∧
  (∀ (l0 l1 l2 l3 : Value) (o : Nat) (v0 : Value) (v1 : Value) (v2 : Value) (S : List Value) (h : zH), rn 300 1149 [l0, l1, l2, l3] (v2 :: v1 :: v0 :: .ref o :: S) h = if zkd h o = 12 ∧ zsum S ≤ 8 then zcall (ev 265 [.ref o, v0, v1, v2] h) (fun v h => rn 300 1152 [l0, l1, l2, l3] (zpush v S) h) else none) ∧
  (∀ (l0 l1 l2 l3 : Value) (x : Int32) (y : Int32) (S : List Value) (h : zH), rn 300 1152 [l0, l1, l2, l3] (.int y :: .int x :: S) h = if x = y then rn 300 1562 [l0, l1, l2, l3] S h else rn 300 1155 [l0, l1, l2, l3] S h) ∧
  (∀ (l0 l1 l2 l3 : Value) (S : List Value) (h : zH), rn 300 1155 [l0, l1, l2, l3] S h = rn 300 1156 [l0, l1, l2, l3] (.int (nI 0) :: S) h) ∧
  (∀ (l0 l1 l2 l3 : Value) (x : Int32) (h : zH), rn 300 1156 [l0, l1, l2, l3] [.int x] h = if x = nI 0 ∨ x = nI 1 then some (some (.int x), h) else none) ∧
  (∀ (l0 l1 l2 l3 : Value) (S : List Value) (h : zH), rn 300 1157 [l0, l1, l2, l3] S h = ldA l1 (rn 300 1158 [l0, l1, l2, l3] (l1 :: S) h)) ∧
  (∀ (l0 l1 l2 l3 : Value) (S : List Value) (h : zH), rn 300 1158 [l0, l1, l2, l3] S h = ldA l0 (rn 300 1159 [l0, l1, l2, l3] (l0 :: S) h)) ∧
  (∀ (l0 l1 l2 : Value) (x : Int32) (S : List Value) (h : zH), rn 300 1159 [l0, l1, l2, .int x] S h = rn 300 1160 [l0, l1, l2, .int x] (.int x :: S) h) ∧
  (∀ (l0 l1 l2 l3 : Value) (S : List Value) (h : zH), rn 300 1160 [l0, l1, l2, l3] S h = rn 300 1161 [l0, l1, l2, l3] (.int (nI 1) :: S) h) := ⟨fun _ _ _ _ _ _ _ _ => r_iald (show zdec 300 921 = some (.iaload, 1) by decide +kernel) rfl,
  fun _ _ _ _ _ _ => r_aload_n (show zdec 300 922 = some (.aload_n 0, 1) by decide +kernel) rfl rfl,
  fun _ _ _ _ _ _ => r_iload_n (show zdec 300 923 = some (.iload_n 3, 1) by decide +kernel) rfl rfl,
  fun _ _ _ _ _ _ => r_iconst (show zdec 300 924 = some (.iconst 3, 1) by decide +kernel) rfl rfl,
  fun _ _ _ _ _ _ _ _ => r_iadd (show zdec 300 925 = some (.iadd, 1) by decide +kernel) rfl,
  fun _ _ _ _ _ _ _ _ => r_iald (show zdec 300 926 = some (.iaload, 1) by decide +kernel) rfl,
  fun _ _ _ _ _ _ _ _ _ _ => r_cV [_, _, _] rfl (show zdec 300 927 = some (.invokevirtual 101, 3) by decide +kernel) (show zst.lookup (300 * zKEY + 101) = some (1, 257, 3, 12) by decide +kernel) (by decide) rfl,
  fun _ _ _ _ _ _ _ _ => r_lcmp (show zdec 300 930 = some (.lcmp, 1) by decide +kernel) rfl,
  fun _ _ _ _ _ _ _ => r_ifeq (show zdec 300 931 = some (.ifCond .eq 631, 3) by decide +kernel) rfl rfl,
  fun _ _ _ _ _ _ => r_iconst (show zdec 300 934 = some (.iconst 0, 1) by decide +kernel) rfl rfl,
  fun _ _ _ _ _ _ => r_iretb (show zdec 300 935 = some (.ireturn, 1) by decide +kernel) (by decide +kernel),
  fun _ _ _ _ _ _ => r_aload_n (show zdec 300 936 = some (.aload_n 1, 1) by decide +kernel) rfl rfl,
  fun _ _ _ _ _ _ => r_aload_n (show zdec 300 937 = some (.aload_n 0, 1) by decide +kernel) rfl rfl,
  fun _ _ _ _ _ _ => r_iload_n (show zdec 300 938 = some (.iload_n 3, 1) by decide +kernel) rfl rfl,
  fun _ _ _ _ _ _ => r_iconst (show zdec 300 939 = some (.iconst 1, 1) by decide +kernel) rfl rfl,
  fun _ _ _ _ _ _ _ _ => r_iadd (show zdec 300 940 = some (.iadd, 1) by decide +kernel) rfl,
  fun _ _ _ _ _ _ _ _ => r_iald (show zdec 300 941 = some (.iaload, 1) by decide +kernel) rfl,
  fun _ _ _ _ _ _ _ _ => r_cV [_] rfl (show zdec 300 942 = some (.invokevirtual 102, 3) by decide +kernel) (show zst.lookup (300 * zKEY + 102) = some (1, 89, 1, 11) by decide +kernel) (by decide) rfl,
  fun _ _ _ _ _ _ => r_aload_n (show zdec 300 945 = some (.aload_n 2, 1) by decide +kernel) rfl rfl,
  fun _ _ _ _ _ _ => r_aload_n (show zdec 300 946 = some (.aload_n 0, 1) by decide +kernel) rfl rfl,
  fun _ _ _ _ _ _ => r_iload_n (show zdec 300 947 = some (.iload_n 3, 1) by decide +kernel) rfl rfl,
  fun _ _ _ _ _ _ => r_iconst (show zdec 300 948 = some (.iconst 1, 1) by decide +kernel) rfl rfl,
  fun _ _ _ _ _ _ _ _ => r_iadd (show zdec 300 949 = some (.iadd, 1) by decide +kernel) rfl,
  fun _ _ _ _ _ _ _ _ => r_iald (show zdec 300 950 = some (.iaload, 1) by decide +kernel) rfl,
  fun _ _ _ _ _ _ _ _ => r_cV [_] rfl (show zdec 300 951 = some (.invokevirtual 106, 3) by decide +kernel) (show zst.lookup (300 * zKEY + 106) = some (1, 259, 1, 12) by decide +kernel) (by decide) rfl,
  fun _ _ _ _ _ _ _ _ => r_lcmp (show zdec 300 954 = some (.lcmp, 1) by decide +kernel) rfl,
  fun _ _ _ _ _ _ _ => r_ifeq (show zdec 300 955 = some (.ifCond .eq 607, 3) by decide +kernel) rfl rfl,
  fun _ _ _ _ _ _ => r_iconst (show zdec 300 958 = some (.iconst 0, 1) by decide +kernel) rfl rfl,
  fun _ _ _ _ _ _ => r_iretb (show zdec 300 959 = some (.ireturn, 1) by decide +kernel) (by decide +kernel),
  fun _ _ _ _ _ _ => r_aload_n (show zdec 300 960 = some (.aload_n 1, 1) by decide +kernel) rfl rfl,
  fun _ _ _ _ _ _ => r_aload_n (show zdec 300 961 = some (.aload_n 0, 1) by decide +kernel) rfl rfl,
  fun _ _ _ _ _ _ => r_iload_n (show zdec 300 962 = some (.iload_n 3, 1) by decide +kernel) rfl rfl,
  fun _ _ _ _ _ _ => r_iconst (show zdec 300 963 = some (.iconst 1, 1) by decide +kernel) rfl rfl,
  fun _ _ _ _ _ _ _ _ => r_iadd (show zdec 300 964 = some (.iadd, 1) by decide +kernel) rfl,
  fun _ _ _ _ _ _ _ _ => r_iald (show zdec 300 965 = some (.iaload, 1) by decide +kernel) rfl,
  fun _ _ _ _ _ _ _ _ => r_cV [_] rfl (show zdec 300 966 = some (.invokevirtual 107, 3) by decide +kernel) (show zst.lookup (300 * zKEY + 107) = some (1, 90, 1, 11) by decide +kernel) (by decide) rfl,
  fun _ _ _ _ _ _ => r_aload_n (show zdec 300 969 = some (.aload_n 2, 1) by decide +kernel) rfl rfl,
  fun _ _ _ _ _ _ => r_aload_n (show zdec 300 970 = some (.aload_n 0, 1) by decide +kernel) rfl rfl,
  fun _ _ _ _ _ _ => r_iload_n (show zdec 300 971 = some (.iload_n 3, 1) by decide +kernel) rfl rfl,
  fun _ _ _ _ _ _ => r_iconst (show zdec 300 972 = some (.iconst 1, 1) by decide +kernel) rfl rfl,
  fun _ _ _ _ _ _ _ _ => r_iadd (show zdec 300 973 = some (.iadd, 1) by decide +kernel) rfl,
  fun _ _ _ _ _ _ _ _ => r_iald (show zdec 300 974 = some (.iaload, 1) by decide +kernel) rfl,
  fun _ _ _ _ _ _ _ _ => r_cV [_] rfl (show zdec 300 975 = some (.invokevirtual 110, 3) by decide +kernel) (show zst.lookup (300 * zKEY + 110) = some (1, 260, 1, 12) by decide +kernel) (by decide) rfl,
  fun _ _ _ _ _ _ _ _ => r_lcmp (show zdec 300 978 = some (.lcmp, 1) by decide +kernel) rfl,
  fun _ _ _ _ _ _ _ => r_ifeq (show zdec 300 979 = some (.ifCond .eq 583, 3) by decide +kernel) rfl rfl,
  fun _ _ _ _ _ _ => r_iconst (show zdec 300 982 = some (.iconst 0, 1) by decide +kernel) rfl rfl,
  fun _ _ _ _ _ _ => r_iretb (show zdec 300 983 = some (.ireturn, 1) by decide +kernel) (by decide +kernel),
  fun _ _ _ _ _ _ => r_aload_n (show zdec 300 984 = some (.aload_n 1, 1) by decide +kernel) rfl rfl,
  fun _ _ _ _ _ _ => r_aload_n (show zdec 300 985 = some (.aload_n 0, 1) by decide +kernel) rfl rfl,
  fun _ _ _ _ _ _ => r_iload_n (show zdec 300 986 = some (.iload_n 3, 1) by decide +kernel) rfl rfl,
  fun _ _ _ _ _ _ => r_iconst (show zdec 300 987 = some (.iconst 1, 1) by decide +kernel) rfl rfl,
  fun _ _ _ _ _ _ _ _ => r_iadd (show zdec 300 988 = some (.iadd, 1) by decide +kernel) rfl,
  fun _ _ _ _ _ _ _ _ => r_iald (show zdec 300 989 = some (.iaload, 1) by decide +kernel) rfl,
  fun _ _ _ _ _ _ => r_aload_n (show zdec 300 990 = some (.aload_n 0, 1) by decide +kernel) rfl rfl,
  fun _ _ _ _ _ _ => r_iload_n (show zdec 300 991 = some (.iload_n 3, 1) by decide +kernel) rfl rfl,
  fun _ _ _ _ _ _ => r_iconst (show zdec 300 992 = some (.iconst 2, 1) by decide +kernel) rfl rfl,
  fun _ _ _ _ _ _ _ _ => r_iadd (show zdec 300 993 = some (.iadd, 1) by decide +kernel) rfl,
  fun _ _ _ _ _ _ _ _ => r_iald (show zdec 300 994 = some (.iaload, 1) by decide +kernel) rfl,
  fun _ _ _ _ _ _ _ _ _ => r_cV [_, _] rfl (show zdec 300 995 = some (.invokevirtual 111, 3) by decide +kernel) (show zst.lookup (300 * zKEY + 111) = some (1, 91, 2, 11) by decide +kernel) (by decide) rfl,
  fun _ _ _ _ _ _ => r_aload_n (show zdec 300 998 = some (.aload_n 2, 1) by decide +kernel) rfl rfl,
  fun _ _ _ _ _ _ => r_aload_n (show zdec 300 999 = some (.aload_n 0, 1) by decide +kernel) rfl rfl,
  fun _ _ _ _ _ _ => r_iload_n (show zdec 300 1000 = some (.iload_n 3, 1) by decide +kernel) rfl rfl,
  fun _ _ _ _ _ _ => r_iconst (show zdec 300 1001 = some (.iconst 1, 1) by decide +kernel) rfl rfl,
  fun _ _ _ _ _ _ _ _ => r_iadd (show zdec 300 1002 = some (.iadd, 1) by decide +kernel) rfl,
  fun _ _ _ _ _ _ _ _ => r_iald (show zdec 300 1003 = some (.iaload, 1) by decide +kernel) rfl,
  fun _ _ _ _ _ _ => r_aload_n (show zdec 300 1004 = some (.aload_n 0, 1) by decide +kernel) rfl rfl,
  fun _ _ _ _ _ _ => r_iload_n (show zdec 300 1005 = some (.iload_n 3, 1) by decide +kernel) rfl rfl,
  fun _ _ _ _ _ _ => r_iconst (show zdec 300 1006 = some (.iconst 2, 1) by decide +kernel) rfl rfl,
  fun _ _ _ _ _ _ _ _ => r_iadd (show zdec 300 1007 = some (.iadd, 1) by decide +kernel) rfl,
  fun _ _ _ _ _ _ _ _ => r_iald (show zdec 300 1008 = some (.iaload, 1) by decide +kernel) rfl,
  fun _ _ _ _ _ _ _ _ _ => r_cV [_, _] rfl (show zdec 300 1009 = some (.invokevirtual 114, 3) by decide +kernel) (show zst.lookup (300 * zKEY + 114) = some (1, 261, 2, 12) by decide +kernel) (by decide) rfl,
  fun _ _ _ _ _ _ _ _ => r_icmpeq (show zdec 300 1012 = some (.if_icmp .eq 550, 3) by decide +kernel) rfl rfl,
  fun _ _ _ _ _ _ => r_iconst (show zdec 300 1015 = some (.iconst 0, 1) by decide +kernel) rfl rfl,
  fun _ _ _ _ _ _ => r_iretb (show zdec 300 1016 = some (.ireturn, 1) by decide +kernel) (by decide +kernel),
  fun _ _ _ _ _ _ => r_aload_n (show zdec 300 1017 = some (.aload_n 1, 1) by decide +kernel) rfl rfl,
  fun _ _ _ _ _ _ => r_aload_n (show zdec 300 1018 = some (.aload_n 0, 1) by decide +kernel) rfl rfl,
  fun _ _ _ _ _ _ => r_iload_n (show zdec 300 1019 = some (.iload_n 3, 1) by decide +kernel) rfl rfl,
  fun _ _ _ _ _ _ => r_iconst (show zdec 300 1020 = some (.iconst 1, 1) by decide +kernel) rfl rfl,
  fun _ _ _ _ _ _ _ _ => r_iadd (show zdec 300 1021 = some (.iadd, 1) by decide +kernel) rfl,
  fun _ _ _ _ _ _ _ _ => r_iald (show zdec 300 1022 = some (.iaload, 1) by decide +kernel) rfl,
  fun _ _ _ _ _ _ => r_aload_n (show zdec 300 1023 = some (.aload_n 0, 1) by decide +kernel) rfl rfl,
  fun _ _ _ _ _ _ => r_iload_n (show zdec 300 1024 = some (.iload_n 3, 1) by decide +kernel) rfl rfl,
  fun _ _ _ _ _ _ => r_iconst (show zdec 300 1025 = some (.iconst 2, 1) by decide +kernel) rfl rfl,
  fun _ _ _ _ _ _ _ _ => r_iadd (show zdec 300 1026 = some (.iadd, 1) by decide +kernel) rfl,
  fun _ _ _ _ _ _ _ _ => r_iald (show zdec 300 1027 = some (.iaload, 1) by decide +kernel) rfl,
  fun _ _ _ _ _ _ => r_aload_n (show zdec 300 1028 = some (.aload_n 0, 1) by decide +kernel) rfl rfl,
  fun _ _ _ _ _ _ => r_iload_n (show zdec 300 1029 = some (.iload_n 3, 1) by decide +kernel) rfl rfl,
  fun _ _ _ _ _ _ => r_iconst (show zdec 300 1030 = some (.iconst 3, 1) by decide +kernel) rfl rfl,
  fun _ _ _ _ _ _ _ _ => r_iadd (show zdec 300 1031 = some (.iadd, 1) by decide +kernel) rfl,
  fun _ _ _ _ _ _ _ _ => r_iald (show zdec 300 1032 = some (.iaload, 1) by decide +kernel) rfl,
  fun _ _ _ _ _ _ => r_aload_n (show zdec 300 1033 = some (.aload_n 0, 1) by decide +kernel) rfl rfl,
  fun _ _ _ _ _ _ => r_iload_n (show zdec 300 1034 = some (.iload_n 3, 1) by decide +kernel) rfl rfl,
  fun _ _ _ _ _ _ => r_iconst (show zdec 300 1035 = some (.iconst 4, 1) by decide +kernel) rfl rfl,
  fun _ _ _ _ _ _ _ _ => r_iadd (show zdec 300 1036 = some (.iadd, 1) by decide +kernel) rfl,
  fun _ _ _ _ _ _ _ _ => r_iald (show zdec 300 1037 = some (.iaload, 1) by decide +kernel) rfl,
  fun _ _ _ _ _ _ _ _ _ _ _ => r_cV [_, _, _, _] rfl (show zdec 300 1038 = some (.invokevirtual 115, 3) by decide +kernel) (show zst.lookup (300 * zKEY + 115) = some (1, 92, 4, 11) by decide +kernel) (by decide) rfl,
  fun _ _ _ _ _ _ => r_aload_n (show zdec 300 1041 = some (.aload_n 2, 1) by decide +kernel) rfl rfl,
  fun _ _ _ _ _ _ => r_aload_n (show zdec 300 1042 = some (.aload_n 0, 1) by decide +kernel) rfl rfl,
  fun _ _ _ _ _ _ => r_iload_n (show zdec 300 1043 = some (.iload_n 3, 1) by decide +kernel) rfl rfl,
  fun _ _ _ _ _ _ => r_iconst (show zdec 300 1044 = some (.iconst 1, 1) by decide +kernel) rfl rfl,
  fun _ _ _ _ _ _ _ _ => r_iadd (show zdec 300 1045 = some (.iadd, 1) by decide +kernel) rfl,
  fun _ _ _ _ _ _ _ _ => r_iald (show zdec 300 1046 = some (.iaload, 1) by decide +kernel) rfl,
  fun _ _ _ _ _ _ => r_aload_n (show zdec 300 1047 = some (.aload_n 0, 1) by decide +kernel) rfl rfl,
  fun _ _ _ _ _ _ => r_iload_n (show zdec 300 1048 = some (.iload_n 3, 1) by decide +kernel) rfl rfl,
  fun _ _ _ _ _ _ => r_iconst (show zdec 300 1049 = some (.iconst 2, 1) by decide +kernel) rfl rfl,
  fun _ _ _ _ _ _ _ _ => r_iadd (show zdec 300 1050 = some (.iadd, 1) by decide +kernel) rfl,
  fun _ _ _ _ _ _ _ _ => r_iald (show zdec 300 1051 = some (.iaload, 1) by decide +kernel) rfl,
  fun _ _ _ _ _ _ => r_aload_n (show zdec 300 1052 = some (.aload_n 0, 1) by decide +kernel) rfl rfl,
  fun _ _ _ _ _ _ => r_iload_n (show zdec 300 1053 = some (.iload_n 3, 1) by decide +kernel) rfl rfl,
  fun _ _ _ _ _ _ => r_iconst (show zdec 300 1054 = some (.iconst 3, 1) by decide +kernel) rfl rfl,
  fun _ _ _ _ _ _ _ _ => r_iadd (show zdec 300 1055 = some (.iadd, 1) by decide +kernel) rfl,
  fun _ _ _ _ _ _ _ _ => r_iald (show zdec 300 1056 = some (.iaload, 1) by decide +kernel) rfl,
  fun _ _ _ _ _ _ => r_aload_n (show zdec 300 1057 = some (.aload_n 0, 1) by decide +kernel) rfl rfl,
  fun _ _ _ _ _ _ => r_iload_n (show zdec 300 1058 = some (.iload_n 3, 1) by decide +kernel) rfl rfl,
  fun _ _ _ _ _ _ => r_iconst (show zdec 300 1059 = some (.iconst 4, 1) by decide +kernel) rfl rfl,
  fun _ _ _ _ _ _ _ _ => r_iadd (show zdec 300 1060 = some (.iadd, 1) by decide +kernel) rfl,
  fun _ _ _ _ _ _ _ _ => r_iald (show zdec 300 1061 = some (.iaload, 1) by decide +kernel) rfl,
  fun _ _ _ _ _ _ _ _ _ _ _ => r_cV [_, _, _, _] rfl (show zdec 300 1062 = some (.invokevirtual 119, 3) by decide +kernel) (show zst.lookup (300 * zKEY + 119) = some (1, 262, 4, 12) by decide +kernel) (by decide) rfl,
  fun _ _ _ _ _ _ _ _ => r_icmpeq (show zdec 300 1065 = some (.if_icmp .eq 497, 3) by decide +kernel) rfl rfl,
  fun _ _ _ _ _ _ => r_iconst (show zdec 300 1068 = some (.iconst 0, 1) by decide +kernel) rfl rfl,
  fun _ _ _ _ _ _ => r_iretb (show zdec 300 1069 = some (.ireturn, 1) by decide +kernel) (by decide +kernel),
  fun _ _ _ _ _ _ => r_aload_n (show zdec 300 1070 = some (.aload_n 1, 1) by decide +kernel) rfl rfl,
  fun _ _ _ _ _ _ => r_aload_n (show zdec 300 1071 = some (.aload_n 0, 1) by decide +kernel) rfl rfl,
  fun _ _ _ _ _ _ => r_iload_n (show zdec 300 1072 = some (.iload_n 3, 1) by decide +kernel) rfl rfl,
  fun _ _ _ _ _ _ => r_iconst (show zdec 300 1073 = some (.iconst 1, 1) by decide +kernel) rfl rfl,
  fun _ _ _ _ _ _ _ _ => r_iadd (show zdec 300 1074 = some (.iadd, 1) by decide +kernel) rfl,
  fun _ _ _ _ _ _ _ _ => r_iald (show zdec 300 1075 = some (.iaload, 1) by decide +kernel) rfl,
  fun _ _ _ _ _ _ => r_aload_n (show zdec 300 1076 = some (.aload_n 0, 1) by decide +kernel) rfl rfl,
  fun _ _ _ _ _ _ => r_iload_n (show zdec 300 1077 = some (.iload_n 3, 1) by decide +kernel) rfl rfl,
  fun _ _ _ _ _ _ => r_iconst (show zdec 300 1078 = some (.iconst 2, 1) by decide +kernel) rfl rfl,
  fun _ _ _ _ _ _ _ _ => r_iadd (show zdec 300 1079 = some (.iadd, 1) by decide +kernel) rfl,
  fun _ _ _ _ _ _ _ _ => r_iald (show zdec 300 1080 = some (.iaload, 1) by decide +kernel) rfl,
  fun _ _ _ _ _ _ => r_aload_n (show zdec 300 1081 = some (.aload_n 0, 1) by decide +kernel) rfl rfl,
  fun _ _ _ _ _ _ => r_iload_n (show zdec 300 1082 = some (.iload_n 3, 1) by decide +kernel) rfl rfl,
  fun _ _ _ _ _ _ => r_iconst (show zdec 300 1083 = some (.iconst 3, 1) by decide +kernel) rfl rfl,
  fun _ _ _ _ _ _ _ _ => r_iadd (show zdec 300 1084 = some (.iadd, 1) by decide +kernel) rfl,
  fun _ _ _ _ _ _ _ _ => r_iald (show zdec 300 1085 = some (.iaload, 1) by decide +kernel) rfl,
  fun _ _ _ _ _ _ _ _ _ _ => r_cV [_, _, _] rfl (show zdec 300 1086 = some (.invokevirtual 120, 3) by decide +kernel) (show zst.lookup (300 * zKEY + 120) = some (1, 94, 3, 11) by decide +kernel) (by decide) rfl,
  fun _ _ _ _ _ _ => r_aload_n (show zdec 300 1089 = some (.aload_n 2, 1) by decide +kernel) rfl rfl,
  fun _ _ _ _ _ _ => r_aload_n (show zdec 300 1090 = some (.aload_n 0, 1) by decide +kernel) rfl rfl,
  fun _ _ _ _ _ _ => r_iload_n (show zdec 300 1091 = some (.iload_n 3, 1) by decide +kernel) rfl rfl,
  fun _ _ _ _ _ _ => r_iconst (show zdec 300 1092 = some (.iconst 1, 1) by decide +kernel) rfl rfl,
  fun _ _ _ _ _ _ _ _ => r_iadd (show zdec 300 1093 = some (.iadd, 1) by decide +kernel) rfl,
  fun _ _ _ _ _ _ _ _ => r_iald (show zdec 300 1094 = some (.iaload, 1) by decide +kernel) rfl,
  fun _ _ _ _ _ _ => r_aload_n (show zdec 300 1095 = some (.aload_n 0, 1) by decide +kernel) rfl rfl,
  fun _ _ _ _ _ _ => r_iload_n (show zdec 300 1096 = some (.iload_n 3, 1) by decide +kernel) rfl rfl,
  fun _ _ _ _ _ _ => r_iconst (show zdec 300 1097 = some (.iconst 2, 1) by decide +kernel) rfl rfl,
  fun _ _ _ _ _ _ _ _ => r_iadd (show zdec 300 1098 = some (.iadd, 1) by decide +kernel) rfl,
  fun _ _ _ _ _ _ _ _ => r_iald (show zdec 300 1099 = some (.iaload, 1) by decide +kernel) rfl,
  fun _ _ _ _ _ _ => r_aload_n (show zdec 300 1100 = some (.aload_n 0, 1) by decide +kernel) rfl rfl,
  fun _ _ _ _ _ _ => r_iload_n (show zdec 300 1101 = some (.iload_n 3, 1) by decide +kernel) rfl rfl,
  fun _ _ _ _ _ _ => r_iconst (show zdec 300 1102 = some (.iconst 3, 1) by decide +kernel) rfl rfl,
  fun _ _ _ _ _ _ _ _ => r_iadd (show zdec 300 1103 = some (.iadd, 1) by decide +kernel) rfl,
  fun _ _ _ _ _ _ _ _ => r_iald (show zdec 300 1104 = some (.iaload, 1) by decide +kernel) rfl,
  fun _ _ _ _ _ _ _ _ _ _ => r_cV [_, _, _] rfl (show zdec 300 1105 = some (.invokevirtual 123, 3) by decide +kernel) (show zst.lookup (300 * zKEY + 123) = some (1, 264, 3, 12) by decide +kernel) (by decide) rfl,
  fun _ _ _ _ _ _ _ _ => r_lcmp (show zdec 300 1108 = some (.lcmp, 1) by decide +kernel) rfl,
  fun _ _ _ _ _ _ _ => r_ifeq (show zdec 300 1109 = some (.ifCond .eq 453, 3) by decide +kernel) rfl rfl,
  fun _ _ _ _ _ _ => r_iconst (show zdec 300 1112 = some (.iconst 0, 1) by decide +kernel) rfl rfl,
  fun _ _ _ _ _ _ => r_iretb (show zdec 300 1113 = some (.ireturn, 1) by decide +kernel) (by decide +kernel),
  fun _ _ _ _ _ _ => r_aload_n (show zdec 300 1114 = some (.aload_n 1, 1) by decide +kernel) rfl rfl,
  fun _ _ _ _ _ _ => r_aload_n (show zdec 300 1115 = some (.aload_n 0, 1) by decide +kernel) rfl rfl,
  fun _ _ _ _ _ _ => r_iload_n (show zdec 300 1116 = some (.iload_n 3, 1) by decide +kernel) rfl rfl,
  fun _ _ _ _ _ _ => r_iconst (show zdec 300 1117 = some (.iconst 1, 1) by decide +kernel) rfl rfl,
  fun _ _ _ _ _ _ _ _ => r_iadd (show zdec 300 1118 = some (.iadd, 1) by decide +kernel) rfl,
  fun _ _ _ _ _ _ _ _ => r_iald (show zdec 300 1119 = some (.iaload, 1) by decide +kernel) rfl,
  fun _ _ _ _ _ _ => r_aload_n (show zdec 300 1120 = some (.aload_n 0, 1) by decide +kernel) rfl rfl,
  fun _ _ _ _ _ _ => r_iload_n (show zdec 300 1121 = some (.iload_n 3, 1) by decide +kernel) rfl rfl,
  fun _ _ _ _ _ _ => r_iconst (show zdec 300 1122 = some (.iconst 2, 1) by decide +kernel) rfl rfl,
  fun _ _ _ _ _ _ _ _ => r_iadd (show zdec 300 1123 = some (.iadd, 1) by decide +kernel) rfl,
  fun _ _ _ _ _ _ _ _ => r_iald (show zdec 300 1124 = some (.iaload, 1) by decide +kernel) rfl,
  fun _ _ _ _ _ _ => r_aload_n (show zdec 300 1125 = some (.aload_n 0, 1) by decide +kernel) rfl rfl,
  fun _ _ _ _ _ _ => r_iload_n (show zdec 300 1126 = some (.iload_n 3, 1) by decide +kernel) rfl rfl,
  fun _ _ _ _ _ _ => r_iconst (show zdec 300 1127 = some (.iconst 3, 1) by decide +kernel) rfl rfl,
  fun _ _ _ _ _ _ _ _ => r_iadd (show zdec 300 1128 = some (.iadd, 1) by decide +kernel) rfl,
  fun _ _ _ _ _ _ _ _ => r_iald (show zdec 300 1129 = some (.iaload, 1) by decide +kernel) rfl,
  fun _ _ _ _ _ _ _ _ _ _ => r_cV [_, _, _] rfl (show zdec 300 1130 = some (.invokevirtual 124, 3) by decide +kernel) (show zst.lookup (300 * zKEY + 124) = some (1, 95, 3, 11) by decide +kernel) (by decide) rfl,
  fun _ _ _ _ _ _ => r_aload_n (show zdec 300 1133 = some (.aload_n 2, 1) by decide +kernel) rfl rfl,
  fun _ _ _ _ _ _ => r_aload_n (show zdec 300 1134 = some (.aload_n 0, 1) by decide +kernel) rfl rfl,
  fun _ _ _ _ _ _ => r_iload_n (show zdec 300 1135 = some (.iload_n 3, 1) by decide +kernel) rfl rfl,
  fun _ _ _ _ _ _ => r_iconst (show zdec 300 1136 = some (.iconst 1, 1) by decide +kernel) rfl rfl,
  fun _ _ _ _ _ _ _ _ => r_iadd (show zdec 300 1137 = some (.iadd, 1) by decide +kernel) rfl,
  fun _ _ _ _ _ _ _ _ => r_iald (show zdec 300 1138 = some (.iaload, 1) by decide +kernel) rfl,
  fun _ _ _ _ _ _ => r_aload_n (show zdec 300 1139 = some (.aload_n 0, 1) by decide +kernel) rfl rfl,
  fun _ _ _ _ _ _ => r_iload_n (show zdec 300 1140 = some (.iload_n 3, 1) by decide +kernel) rfl rfl,
  fun _ _ _ _ _ _ => r_iconst (show zdec 300 1141 = some (.iconst 2, 1) by decide +kernel) rfl rfl,
  fun _ _ _ _ _ _ _ _ => r_iadd (show zdec 300 1142 = some (.iadd, 1) by decide +kernel) rfl,
  fun _ _ _ _ _ _ _ _ => r_iald (show zdec 300 1143 = some (.iaload, 1) by decide +kernel) rfl,
  fun _ _ _ _ _ _ => r_aload_n (show zdec 300 1144 = some (.aload_n 0, 1) by decide +kernel) rfl rfl,
  fun _ _ _ _ _ _ => r_iload_n (show zdec 300 1145 = some (.iload_n 3, 1) by decide +kernel) rfl rfl,
  fun _ _ _ _ _ _ => r_iconst (show zdec 300 1146 = some (.iconst 3, 1) by decide +kernel) rfl rfl,
  fun _ _ _ _ _ _ _ _ => r_iadd (show zdec 300 1147 = some (.iadd, 1) by decide +kernel) rfl,
  fun _ _ _ _ _ _ _ _ => r_iald (show zdec 300 1148 = some (.iaload, 1) by decide +kernel) rfl,
  fun _ _ _ _ _ _ _ _ _ _ => r_cV [_, _, _] rfl (show zdec 300 1149 = some (.invokevirtual 127, 3) by decide +kernel) (show zst.lookup (300 * zKEY + 127) = some (1, 265, 3, 12) by decide +kernel) (by decide) rfl,
  fun _ _ _ _ _ _ _ _ => r_icmpeq (show zdec 300 1152 = some (.if_icmp .eq 410, 3) by decide +kernel) rfl rfl,
  fun _ _ _ _ _ _ => r_iconst (show zdec 300 1155 = some (.iconst 0, 1) by decide +kernel) rfl rfl,
  fun _ _ _ _ _ _ => r_iretb (show zdec 300 1156 = some (.ireturn, 1) by decide +kernel) (by decide +kernel),
  fun _ _ _ _ _ _ => r_aload_n (show zdec 300 1157 = some (.aload_n 1, 1) by decide +kernel) rfl rfl,
  fun _ _ _ _ _ _ => r_aload_n (show zdec 300 1158 = some (.aload_n 0, 1) by decide +kernel) rfl rfl,
  fun _ _ _ _ _ _ => r_iload_n (show zdec 300 1159 = some (.iload_n 3, 1) by decide +kernel) rfl rfl,
  fun _ _ _ _ _ _ => r_iconst (show zdec 300 1160 = some (.iconst 1, 1) by decide +kernel) rfl rfl⟩
theorem zr_300_4 : (∀ (l0 l1 l2 l3 : Value) (x : Int32) (y : Int32) (S : List Value) (h : zH), rn 300 1161 [l0, l1, l2, l3] (.int y :: .int x :: S) h = rn 300 1162 [l0, l1, l2, l3] (.int (x + y) :: S) h) ∧
  (∀ (l0 l1 l2 l3 : Value) (a : Nat) (j : Int32) (S : List Value) (h : zH), rn 300 1162 [l0, l1, l2, l3] (.int j :: .ref a :: S) h = zli h a 0 j fun x => rn 300 1163 [l0, l1, l2, l3] (.int x :: S) h) ∧
  (∀ (l0 l1 l2 l3 : Value) (S : List Value) (h : zH), rn 300 1163 [l0, l1, l2, l3] S h = ldA l0 (rn 300 1164 [l0, l1, l2, l3] (l0 :: S) h)) ∧
  (∀ (l0 l1 l2 : Value) (x : Int32) (S : List Value) (h : zH), rn 300 1164 [l0, l1, l2, .int x] S h = rn 300 1165 [l0, l1, l2, .int x] (.int x :: S) h) ∧
  (∀ (l0 l1 l2 l3 : Value) (S : List Value) (h : zH), rn 300 1165 [l0, l1, l2, l3] S h = rn 300 1166 [l0, l1, l2, l3] (.int (nI 2) :: S) h) ∧
  (∀ (l0 l1 l2 l3 : Value) (x : Int32) (y : Int32) (S : List Value) (h : zH), rn 300 1166 [l0, l1, l2, l3] (.int y :: .int x :: S) h = rn 300 1167 [l0, l1, l2, l3] (.int (x + y) :: S) h) ∧
  (∀ (l0 l1 l2 l3 : Value) (a : Nat) (j : Int32) (S : List Value) (h : zH), rn 300 1167 [l0, l1, l2, l3] (.int j :: .ref a :: S) h = zli h a 0 j fun x => rn 300 1168 [l0, l1, l2, l3] (.int x :: S) h) ∧
  (∀ (l0 l1 l2 l3 : Value) (o : Nat) (v0 : Value) (v1 : Value) (S : List Value) (h : zH), rn 300 1168 [l0, l1, l2, l3] (v1 :: v0 :: .ref o :: S) h = if zkd h o = 11 ∧ zsum S ≤ 8 then zcall (ev 154 [.ref o, v0, v1] h) (fun v h => rn 300 1171 [l0, l1, l2, l3] (zpush v S) h) else none) ∧
  (∀ (l0 l1 l2 l3 : Value) (S : List Value) (h : zH), rn 300 1171 [l0, l1, l2, l3] S h = ldA l2 (rn 300 1172 [l0, l1, l2, l3] (l2 :: S) h)) ∧
  (∀ (l0 l1 l2 l3 : Value) (S : List Value) (h : zH), rn 300 1172 [l0, l1, l2, l3] S h = ldA l0 (rn 300 1173 [l0, l1, l2, l3] (l0 :: S) h)) ∧
  (∀ (l0 l1 l2 : Value) (x : Int32) (S : List Value) (h : zH), rn 300 1173 [l0, l1, l2, .int x] S h = rn 300 1174 [l0, l1, l2, .int x] (.int x :: S) h) ∧
  (∀ (l0 l1 l2 l3 : Value) (S : List Value) (h : zH), rn 300 1174 [l0, l1, l2, l3] S h = rn 300 1175 [l0, l1, l2, l3] (.int (nI 1) :: S) h) ∧
  (∀ (l0 l1 l2 l3 : Value) (x : Int32) (y : Int32) (S : List Value) (h : zH), rn 300 1175 [l0, l1, l2, l3] (.int y :: .int x :: S) h = rn 300 1176 [l0, l1, l2, l3] (.int (x + y) :: S) h) ∧
  (∀ (l0 l1 l2 l3 : Value) (a : Nat) (j : Int32) (S : List Value) (h : zH), rn 300 1176 [l0, l1, l2, l3] (.int j :: .ref a :: S) h = zli h a 0 j fun x => rn 300 1177 [l0, l1, l2, l3] (.int x :: S) h) ∧
  (∀ (l0 l1 l2 l3 : Value) (S : List Value) (h : zH), rn 300 1177 [l0, l1, l2, l3] S h = ldA l0 (rn 300 1178 [l0, l1, l2, l3] (l0 :: S) h)) ∧
  (∀ (l0 l1 l2 : Value) (x : Int32) (S : List Value) (h : zH), rn 300 1178 [l0, l1, l2, .int x] S h = rn 300 1179 [l0, l1, l2, .int x] (.int x :: S) h) ∧
  (∀ (l0 l1 l2 l3 : Value) (S : List Value) (h : zH), rn 300 1179 [l0, l1, l2, l3] S h = rn 300 1180 [l0, l1, l2, l3] (.int (nI 2) :: S) h) ∧
  (∀ (l0 l1 l2 l3 : Value) (x : Int32) (y : Int32) (S : List Value) (h : zH), rn 300 1180 [l0, l1, l2, l3] (.int y :: .int x :: S) h = rn 300 1181 [l0, l1, l2, l3] (.int (x + y) :: S) h) ∧
  (∀ (l0 l1 l2 l3 : Value) (a : Nat) (j : Int32) (S : List Value) (h : zH), rn 300 1181 [l0, l1, l2, l3] (.int j :: .ref a :: S) h = zli h a 0 j fun x => rn 300 1182 [l0, l1, l2, l3] (.int x :: S) h) ∧
  (∀ (l0 l1 l2 l3 : Value) (o : Nat) (v0 : Value) (v1 : Value) (S : List Value) (h : zH), rn 300 1182 [l0, l1, l2, l3] (v1 :: v0 :: .ref o :: S) h = if zkd h o = 12 ∧ zsum S ≤ 8 then zcall (ev 271 [.ref o, v0, v1] h) (fun v h => rn 300 1185 [l0, l1, l2, l3] (zpush v S) h) else none) ∧
  (∀ (l0 l1 l2 l3 : Value) (x : Int64) (y : Int64) (S : List Value) (h : zH), rn 300 1185 [l0, l1, l2, l3] (.long y :: .long x :: S) h = rn 300 1186 [l0, l1, l2, l3] (.int (lg_cmp x y) :: S) h) ∧
  (∀ (l0 l1 l2 l3 : Value) (x : Int32) (S : List Value) (h : zH), rn 300 1186 [l0, l1, l2, l3] (.int x :: S) h = if x = nI 0 then rn 300 1562 [l0, l1, l2, l3] S h else rn 300 1189 [l0, l1, l2, l3] S h) ∧
  (∀ (l0 l1 l2 l3 : Value) (S : List Value) (h : zH), rn 300 1189 [l0, l1, l2, l3] S h = rn 300 1190 [l0, l1, l2, l3] (.int (nI 0) :: S) h) ∧
  (∀ (l0 l1 l2 l3 : Value) (x : Int32) (h : zH), rn 300 1190 [l0, l1, l2, l3] [.int x] h = if x = nI 0 ∨ x = nI 1 then some (some (.int x), h) else none) ∧
  (∀ (l0 l1 l2 l3 : Value) (S : List Value) (h : zH), rn 300 1191 [l0, l1, l2, l3] S h = ldA l1 (rn 300 1192 [l0, l1, l2, l3] (l1 :: S) h)) ∧
  (∀ (l0 l1 l2 l3 : Value) (S : List Value) (h : zH), rn 300 1192 [l0, l1, l2, l3] S h = ldA l0 (rn 300 1193 [l0, l1, l2, l3] (l0 :: S) h)) ∧
  (∀ (l0 l1 l2 : Value) (x : Int32) (S : List Value) (h : zH), rn 300 1193 [l0, l1, l2, .int x] S h = rn 300 1194 [l0, l1, l2, .int x] (.int x :: S) h) ∧
  (∀ (l0 l1 l2 l3 : Value) (S : List Value) (h : zH), rn 300 1194 [l0, l1, l2, l3] S h = rn 300 1195 [l0, l1, l2, l3] (.int (nI 1) :: S) h) ∧
  (∀ (l0 l1 l2 l3 : Value) (x : Int32) (y : Int32) (S : List Value) (h : zH), rn 300 1195 [l0, l1, l2, l3] (.int y :: .int x :: S) h = rn 300 1196 [l0, l1, l2, l3] (.int (x + y) :: S) h) ∧
  (∀ (l0 l1 l2 l3 : Value) (a : Nat) (j : Int32) (S : List Value) (h : zH), rn 300 1196 [l0, l1, l2, l3] (.int j :: .ref a :: S) h = zli h a 0 j fun x => rn 300 1197 [l0, l1, l2, l3] (.int x :: S) h) ∧
  (∀ (l0 l1 l2 l3 : Value) (o : Nat) (v0 : Value) (S : List Value) (h : zH), rn 300 1197 [l0, l1, l2, l3] (v0 :: .ref o :: S) h = if zkd h o = 11 ∧ zsum S ≤ 8 then zcall (ev 156 [.ref o, v0] h) (fun v h => rn 300 1200 [l0, l1, l2, l3] (zpush v S) h) else none) ∧
  (∀ (l0 l1 l2 l3 : Value) (S : List Value) (h : zH), rn 300 1200 [l0, l1, l2, l3] S h = ldA l2 (rn 300 1201 [l0, l1, l2, l3] (l2 :: S) h)) ∧
  (∀ (l0 l1 l2 l3 : Value) (S : List Value) (h : zH), rn 300 1201 [l0, l1, l2, l3] S h = ldA l0 (rn 300 1202 [l0, l1, l2, l3] (l0 :: S) h)) ∧
  (∀ (l0 l1 l2 : Value) (x : Int32) (S : List Value) (h : zH), rn 300 1202 [l0, l1, l2, .int x] S h = rn 300 1203 [l0, l1, l2, .int x] (.int x :: S) h) ∧
  (∀ (l0 l1 l2 l3 : Value) (S : List Value) (h : zH), rn 300 1203 [l0, l1, l2, l3] S h = rn 300 1204 [l0, l1, l2, l3] (.int (nI 1) :: S) h) ∧
  (∀ (l0 l1 l2 l3 : Value) (x : Int32) (y : Int32) (S : List Value) (h : zH), rn 300 1204 [l0, l1, l2, l3] (.int y :: .int x :: S) h = rn 300 1205 [l0, l1, l2, l3] (.int (x + y) :: S) h) ∧
  (∀ (l0 l1 l2 l3 : Value) (a : Nat) (j : Int32) (S : List Value) (h : zH), rn 300 1205 [l0, l1, l2, l3] (.int j :: .ref a :: S) h = zli h a 0 j fun x => rn 300 1206 [l0, l1, l2, l3] (.int x :: S) h) ∧
  (∀ (l0 l1 l2 l3 : Value) (o : Nat) (v0 : Value) (S : List Value) (h : zH), rn 300 1206 [l0, l1, l2, l3] (v0 :: .ref o :: S) h = if zkd h o = 12 ∧ zsum S ≤ 8 then zcall (ev 273 [.ref o, v0] h) (fun v h => rn 300 1209 [l0, l1, l2, l3] (zpush v S) h) else none) ∧
  (∀ (l0 l1 l2 l3 : Value) (x : Int64) (y : Int64) (S : List Value) (h : zH), rn 300 1209 [l0, l1, l2, l3] (.long y :: .long x :: S) h = rn 300 1210 [l0, l1, l2, l3] (.int (lg_cmp x y) :: S) h) ∧
  (∀ (l0 l1 l2 l3 : Value) (x : Int32) (S : List Value) (h : zH), rn 300 1210 [l0, l1, l2, l3] (.int x :: S) h = if x = nI 0 then rn 300 1562 [l0, l1, l2, l3] S h else rn 300 1213 [l0, l1, l2, l3] S h) ∧
  (∀ (l0 l1 l2 l3 : Value) (S : List Value) (h : zH), rn 300 1213 [l0, l1, l2, l3] S h = rn 300 1214 [l0, l1, l2, l3] (.int (nI 0) :: S) h) ∧
  (∀ (l0 l1 l2 l3 : Value) (x : Int32) (h : zH), rn 300 1214 [l0, l1, l2, l3] [.int x] h = if x = nI 0 ∨ x = nI 1 then some (some (.int x), h) else none) ∧
  (∀ (l0 l1 l2 l3 : Value) (S : List Value) (h : zH), rn 300 1215 [l0, l1, l2, l3] S h = ldA l1 (rn 300 1216 [l0, l1, l2, l3] (l1 :: S) h)) ∧
  (∀ (l0 l1 l2 l3 : Value) (S : List Value) (h : zH), rn 300 1216 [l0, l1, l2, l3] S h = ldA l0 (rn 300 1217 [l0, l1, l2, l3] (l0 :: S) h)) ∧
  (∀ (l0 l1 l2 : Value) (x : Int32) (S : List Value) (h : zH), rn 300 1217 [l0, l1, l2, .int x] S h = rn 300 1218 [l0, l1, l2, .int x] (.int x :: S) h) ∧
  (∀ (l0 l1 l2 l3 : Value) (S : List Value) (h : zH), rn 300 1218 [l0, l1, l2, l3] S h = rn 300 1219 [l0, l1, l2, l3] (.int (nI 1) :: S) h) ∧
  (∀ (l0 l1 l2 l3 : Value) (x : Int32) (y : Int32) (S : List Value) (h : zH), rn 300 1219 [l0, l1, l2, l3] (.int y :: .int x :: S) h = rn 300 1220 [l0, l1, l2, l3] (.int (x + y) :: S) h) ∧
  (∀ (l0 l1 l2 l3 : Value) (a : Nat) (j : Int32) (S : List Value) (h : zH), rn 300 1220 [l0, l1, l2, l3] (.int j :: .ref a :: S) h = zli h a 0 j fun x => rn 300 1221 [l0, l1, l2, l3] (.int x :: S) h) ∧
  (∀ (l0 l1 l2 l3 : Value) (o : Nat) (v0 : Value) (S : List Value) (h : zH), rn 300 1221 [l0, l1, l2, l3] (v0 :: .ref o :: S) h = if zkd h o = 11 ∧ zsum S ≤ 8 then zcall (ev 160 [.ref o, v0] h) (fun v h => rn 300 1224 [l0, l1, l2, l3] (zpush v S) h) else none) ∧
  (∀ (l0 l1 l2 l3 : Value) (S : List Value) (h : zH), rn 300 1224 [l0, l1, l2, l3] S h = ldA l2 (rn 300 1225 [l0, l1, l2, l3] (l2 :: S) h)) ∧
  (∀ (l0 l1 l2 l3 : Value) (S : List Value) (h : zH), rn 300 1225 [l0, l1, l2, l3] S h = ldA l0 (rn 300 1226 [l0, l1, l2, l3] (l0 :: S) h)) ∧
  (∀ (l0 l1 l2 : Value) (x : Int32) (S : List Value) (h : zH), rn 300 1226 [l0, l1, l2, .int x] S h = rn 300 1227 [l0, l1, l2, .int x] (.int x :: S) h) ∧
  (∀ (l0 l1 l2 l3 : Value) (S : List Value) (h : zH), rn 300 1227 [l0, l1, l2, l3] S h = rn 300 1228 [l0, l1, l2, l3] (.int (nI 1) :: S) h) ∧
  (∀ (l0 l1 l2 l3 : Value) (x : Int32) (y : Int32) (S : List Value) (h : zH), rn 300 1228 [l0, l1, l2, l3] (.int y :: .int x :: S) h = rn 300 1229 [l0, l1, l2, l3] (.int (x + y) :: S) h) ∧
  (∀ (l0 l1 l2 l3 : Value) (a : Nat) (j : Int32) (S : List Value) (h : zH), rn 300 1229 [l0, l1, l2, l3] (.int j :: .ref a :: S) h = zli h a 0 j fun x => rn 300 1230 [l0, l1, l2, l3] (.int x :: S) h) ∧
  (∀ (l0 l1 l2 l3 : Value) (o : Nat) (v0 : Value) (S : List Value) (h : zH), rn 300 1230 [l0, l1, l2, l3] (v0 :: .ref o :: S) h = if zkd h o = 12 ∧ zsum S ≤ 8 then zcall (ev 277 [.ref o, v0] h) (fun v h => rn 300 1233 [l0, l1, l2, l3] (zpush v S) h) else none) ∧
  (∀ (l0 l1 l2 l3 : Value) (x : Int64) (y : Int64) (S : List Value) (h : zH), rn 300 1233 [l0, l1, l2, l3] (.long y :: .long x :: S) h = rn 300 1234 [l0, l1, l2, l3] (.int (lg_cmp x y) :: S) h) ∧
  (∀ (l0 l1 l2 l3 : Value) (x : Int32) (S : List Value) (h : zH), rn 300 1234 [l0, l1, l2, l3] (.int x :: S) h = if x = nI 0 then rn 300 1562 [l0, l1, l2, l3] S h else rn 300 1237 [l0, l1, l2, l3] S h) ∧
  (∀ (l0 l1 l2 l3 : Value) (S : List Value) (h : zH), rn 300 1237 [l0, l1, l2, l3] S h = rn 300 1238 [l0, l1, l2, l3] (.int (nI 0) :: S) h) ∧
  (∀ (l0 l1 l2 l3 : Value) (x : Int32) (h : zH), rn 300 1238 [l0, l1, l2, l3] [.int x] h = if x = nI 0 ∨ x = nI 1 then some (some (.int x), h) else none) ∧
  (∀ (l0 l1 l2 l3 : Value) (S : List Value) (h : zH), rn 300 1239 [l0, l1, l2, l3] S h = ldA l1 (rn 300 1240 [l0, l1, l2, l3] (l1 :: S) h)) ∧
  (∀ (l0 l1 l2 l3 : Value) (S : List Value) (h : zH), rn 300 1240 [l0, l1, l2, l3] S h = ldA l0 (rn 300 1241 [l0, l1, l2, l3] (l0 :: S) h)) ∧
  (∀ (l0 l1 l2 : Value) (x : Int32) (S : List Value) (h : zH), rn 300 1241 [l0, l1, l2, .int x] S h = rn 300 1242 [l0, l1, l2, .int x] (.int x :: S) h) ∧
  (∀ (l0 l1 l2 l3 : Value) (S : List Value) (h : zH), rn 300 1242 [l0, l1, l2, l3] S h = rn 300 1243 [l0, l1, l2, l3] (.int (nI 1) :: S) h) ∧
  (∀ (l0 l1 l2 l3 : Value) (x : Int32) (y : Int32) (S : List Value) (h : zH), rn 300 1243 [l0, l1, l2, l3] (.int y :: .int x :: S) h = rn 300 1244 [l0, l1, l2, l3] (.int (x + y) :: S) h) ∧
  (∀ (l0 l1 l2 l3 : Value) (a : Nat) (j : Int32) (S : List Value) (h : zH), rn 300 1244 [l0, l1, l2, l3] (.int j :: .ref a :: S) h = zli h a 0 j fun x => rn 300 1245 [l0, l1, l2, l3] (.int x :: S) h) ∧
  (∀ (l0 l1 l2 l3 : Value) (S : List Value) (h : zH), rn 300 1245 [l0, l1, l2, l3] S h = ldA l0 (rn 300 1246 [l0, l1, l2, l3] (l0 :: S) h)) ∧
  (∀ (l0 l1 l2 : Value) (x : Int32) (S : List Value) (h : zH), rn 300 1246 [l0, l1, l2, .int x] S h = rn 300 1247 [l0, l1, l2, .int x] (.int x :: S) h) ∧
  (∀ (l0 l1 l2 l3 : Value) (S : List Value) (h : zH), rn 300 1247 [l0, l1, l2, l3] S h = rn 300 1248 [l0, l1, l2, l3] (.int (nI 2) :: S) h) ∧
  (∀ (l0 l1 l2 l3 : Value) (x : Int32) (y : Int32) (S : List Value) (h : zH), rn 300 1248 [l0, l1, l2, l3] (.int y :: .int x :: S) h = rn 300 1249 [l0, l1, l2, l3] (.int (x + y) :: S) h) ∧
  (∀ (l0 l1 l2 l3 : Value) (a : Nat) (j : Int32) (S : List Value) (h : zH), rn 300 1249 [l0, l1, l2, l3] (.int j :: .ref a :: S) h = zli h a 0 j fun x => rn 300 1250 [l0, l1, l2, l3] (.int x :: S) h) ∧
  (∀ (l0 l1 l2 l3 : Value) (o : Nat) (v0 : Value) (v1 : Value) (S : List Value) (h : zH), rn 300 1250 [l0, l1, l2, l3] (v1 :: v0 :: .ref o :: S) h = if zkd h o = 11 ∧ zsum S ≤ 8 then zcall (ev 161 [.ref o, v0, v1] h) (fun v h => rn 300 1253 [l0, l1, l2, l3] (zpush v S) h) else none) ∧
  (∀ (l0 l1 l2 l3 : Value) (S : List Value) (h : zH), rn 300 1253 [l0, l1, l2, l3] S h = ldA l2 (rn 300 1254 [l0, l1, l2, l3] (l2 :: S) h)) ∧
  (∀ (l0 l1 l2 l3 : Value) (S : List Value) (h : zH), rn 300 1254 [l0, l1, l2, l3] S h = ldA l0 (rn 300 1255 [l0, l1, l2, l3] (l0 :: S) h)) ∧
  (∀ (l0 l1 l2 : Value) (x : Int32) (S : List Value) (h : zH), rn 300 1255 [l0, l1, l2, .int x] S h = rn 300 1256 [l0, l1, l2, .int x] (.int x :: S) h) ∧
  (∀ (l0 l1 l2 l3 : Value) (S : List Value) (h : zH), rn 300 1256 [l0, l1, l2, l3] S h = rn 300 1257 [l0, l1, l2, l3] (.int (nI 1) :: S) h) ∧
  (∀ (l0 l1 l2 l3 : Value) (x : Int32) (y : Int32) (S : List Value) (h : zH), rn 300 1257 [l0, l1, l2, l3] (.int y :: .int x :: S) h = rn 300 1258 [l0, l1, l2, l3] (.int (x + y) :: S) h) ∧
  (∀ (l0 l1 l2 l3 : Value) (a : Nat) (j : Int32) (S : List Value) (h : zH), rn 300 1258 [l0, l1, l2, l3] (.int j :: .ref a :: S) h = zli h a 0 j fun x => rn 300 1259 [l0, l1, l2, l3] (.int x :: S) h) ∧
  (∀ (l0 l1 l2 l3 : Value) (S : List Value) (h : zH), rn 300 1259 [l0, l1, l2, l3] S h = ldA l0 (rn 300 1260 [l0, l1, l2, l3] (l0 :: S) h)) ∧
  (∀ (l0 l1 l2 : Value) (x : Int32) (S : List Value) (h : zH), rn 300 1260 [l0, l1, l2, .int x] S h = rn 300 1261 [l0, l1, l2, .int x] (.int x :: S) h) ∧
  (∀ (l0 l1 l2 l3 : Value) (S : List Value) (h : zH), rn 300 1261 [l0, l1, l2, l3] S h = rn 300 1262 [l0, l1, l2, l3] (.int (nI 2) :: S) h) ∧
  (∀ (l0 l1 l2 l3 : Value) (x : Int32) (y : Int32) (S : List Value) (h : zH), rn 300 1262 [l0, l1, l2, l3] (.int y :: .int x :: S) h = rn 300 1263 [l0, l1, l2, l3] (.int (x + y) :: S) h) ∧
  (∀ (l0 l1 l2 l3 : Value) (a : Nat) (j : Int32) (S : List Value) (h : zH), rn 300 1263 [l0, l1, l2, l3] (.int j :: .ref a :: S) h = zli h a 0 j fun x => rn 300 1264 [l0, l1, l2, l3] (.int x :: S) h) ∧
  (∀ (l0 l1 l2 l3 : Value) (o : Nat) (v0 : Value) (v1 : Value) (S : List Value) (h : zH), rn 300 1264 [l0, l1, l2, l3] (v1 :: v0 :: .ref o :: S) h = if zkd h o = 12 ∧ zsum S ≤ 8 then zcall (ev 278 [.ref o, v0, v1] h) (fun v h => rn 300 1267 [l0, l1, l2, l3] (zpush v S) h) else none) ∧
  (∀ (l0 l1 l2 l3 : Value) (x : Int32) (y : Int32) (S : List Value) (h : zH), rn 300 1267 [l0, l1, l2, l3] (.int y :: .int x :: S) h = if x = y then rn 300 1562 [l0, l1, l2, l3] S h else rn 300 1270 [l0, l1, l2, l3] S h) ∧
  (∀ (l0 l1 l2 l3 : Value) (S : List Value) (h : zH), rn 300 1270 [l0, l1, l2, l3] S h = rn 300 1271 [l0, l1, l2, l3] (.int (nI 0) :: S) h) ∧
  (∀ (l0 l1 l2 l3 : Value) (x : Int32) (h : zH), rn 300 1271 [l0, l1, l2, l3] [.int x] h = if x = nI 0 ∨ x = nI 1 then some (some (.int x), h) else none) ∧
  (∀ (l0 l1 l2 l3 : Value) (S : List Value) (h : zH), rn 300 1272 [l0, l1, l2, l3] S h = ldA l1 (rn 300 1273 [l0, l1, l2, l3] (l1 :: S) h)) ∧
  (∀ (l0 l1 l2 l3 : Value) (S : List Value) (h : zH), rn 300 1273 [l0, l1, l2, l3] S h = ldA l0 (rn 300 1274 [l0, l1, l2, l3] (l0 :: S) h)) ∧
  (∀ (l0 l1 l2 : Value) (x : Int32) (S : List Value) (h : zH), rn 300 1274 [l0, l1, l2, .int x] S h = rn 300 1275 [l0, l1, l2, .int x] (.int x :: S) h) ∧
  (∀ (l0 l1 l2 l3 : Value) (S : List Value) (h : zH), rn 300 1275 [l0, l1, l2, l3] S h = rn 300 1276 [l0, l1, l2, l3] (.int (nI 1) :: S) h) ∧
  (∀ (l0 l1 l2 l3 : Value) (x : Int32) (y : Int32) (S : List Value) (h : zH), rn 300 1276 [l0, l1, l2, l3] (.int y :: .int x :: S) h = rn 300 1277 [l0, l1, l2, l3] (.int (x + y) :: S) h) ∧
  (∀ (l0 l1 l2 l3 : Value) (a : Nat) (j : Int32) (S : List Value) (h : zH), rn 300 1277 [l0, l1, l2, l3] (.int j :: .ref a :: S) h = zli h a 0 j fun x => rn 300 1278 [l0, l1, l2, l3] (.int x :: S) h) ∧
  (∀ (l0 l1 l2 l3 : Value) (o : Nat) (v0 : Value) (S : List Value) (h : zH), rn 300 1278 [l0, l1, l2, l3] (v0 :: .ref o :: S) h = if zkd h o = 11 ∧ zsum S ≤ 8 then zcall (ev 164 [.ref o, v0] h) (fun v h => rn 300 1281 [l0, l1, l2, l3] (zpush v S) h) else none) ∧
  (∀ (l0 l1 l2 l3 : Value) (S : List Value) (h : zH), rn 300 1281 [l0, l1, l2, l3] S h = ldA l2 (rn 300 1282 [l0, l1, l2, l3] (l2 :: S) h)) ∧
  (∀ (l0 l1 l2 l3 : Value) (S : List Value) (h : zH), rn 300 1282 [l0, l1, l2, l3] S h = ldA l0 (rn 300 1283 [l0, l1, l2, l3] (l0 :: S) h)) ∧
  (∀ (l0 l1 l2 : Value) (x : Int32) (S : List Value) (h : zH), rn 300 1283 [l0, l1, l2, .int x] S h = rn 300 1284 [l0, l1, l2, .int x] (.int x :: S) h) ∧
  (∀ (l0 l1 l2 l3 : Value) (S : List Value) (h : zH), rn 300 1284 [l0, l1, l2, l3] S h = rn 300 1285 [l0, l1, l2, l3] (.int (nI 1) :: S) h) ∧
  (∀ (l0 l1 l2 l3 : Value) (x : Int32) (y : Int32) (S : List Value) (h : zH), rn 300 1285 [l0, l1, l2, l3] (.int y :: .int x :: S) h = rn 300 1286 [l0, l1, l2, l3] (.int (x + y) :: S) h) ∧
  (∀ (l0 l1 l2 l3 : Value) (a : Nat) (j : Int32) (S : List Value) (h : zH), rn 300 1286 [l0, l1, l2, l3] (.int j :: .ref a :: S) h = zli h a 0 j fun x => rn 300 1287 [l0, l1, l2, l3] (.int x :: S) h) ∧
  (∀ (l0 l1 l2 l3 : Value) (o : Nat) (v0 : Value) (S : List Value) (h : zH), rn 300 1287 [l0, l1, l2, l3] (v0 :: .ref o :: S) h = if zkd h o = 12 ∧ zsum S ≤ 8 then zcall (ev 279 [.ref o, v0] h) (fun v h => rn 300 1290 [l0, l1, l2, l3] (zpush v S) h) else none) ∧
  (∀ (l0 l1 l2 l3 : Value) (x : Int64) (y : Int64) (S : List Value) (h : zH), rn 300 1290 [l0, l1, l2, l3] (.long y :: .long x :: S) h = rn 300 1291 [l0, l1, l2, l3] (.int (lg_cmp x y) :: S) h) ∧
  (∀ (l0 l1 l2 l3 : Value) (x : Int32) (S : List Value) (h : zH), rn 300 1291 [l0, l1, l2, l3] (.int x :: S) h = if x = nI 0 then rn 300 1562 [l0, l1, l2, l3] S h else rn 300 1294 [l0, l1, l2, l3] S h) ∧
  (∀ (l0 l1 l2 l3 : Value) (S : List Value) (h : zH), rn 300 1294 [l0, l1, l2, l3] S h = rn 300 1295 [l0, l1, l2, l3] (.int (nI 0) :: S) h) ∧
  (∀ (l0 l1 l2 l3 : Value) (x : Int32) (h : zH), rn 300 1295 [l0, l1, l2, l3] [.int x] h = if x = nI 0 ∨ x = nI 1 then some (some (.int x), h) else none) ∧
  (∀ (l0 l1 l2 l3 : Value) (S : List Value) (h : zH), rn 300 1296 [l0, l1, l2, l3] S h = ldA l1 (rn 300 1297 [l0, l1, l2, l3] (l1 :: S) h)) ∧
  (∀ (l0 l1 l2 l3 : Value) (S : List Value) (h : zH), rn 300 1297 [l0, l1, l2, l3] S h = ldA l0 (rn 300 1298 [l0, l1, l2, l3] (l0 :: S) h)) ∧
  (∀ (l0 l1 l2 : Value) (x : Int32) (S : List Value) (h : zH), rn 300 1298 [l0, l1, l2, .int x] S h = rn 300 1299 [l0, l1, l2, .int x] (.int x :: S) h) ∧
  (∀ (l0 l1 l2 l3 : Value) (S : List Value) (h : zH), rn 300 1299 [l0, l1, l2, l3] S h = rn 300 1300 [l0, l1, l2, l3] (.int (nI 1) :: S) h) ∧
  (∀ (l0 l1 l2 l3 : Value) (x : Int32) (y : Int32) (S : List Value) (h : zH), rn 300 1300 [l0, l1, l2, l3] (.int y :: .int x :: S) h = rn 300 1301 [l0, l1, l2, l3] (.int (x + y) :: S) h) ∧
  (∀ (l0 l1 l2 l3 : Value) (a : Nat) (j : Int32) (S : List Value) (h : zH), rn 300 1301 [l0, l1, l2, l3] (.int j :: .ref a :: S) h = zli h a 0 j fun x => rn 300 1302 [l0, l1, l2, l3] (.int x :: S) h) ∧
  (∀ (l0 l1 l2 l3 : Value) (S : List Value) (h : zH), rn 300 1302 [l0, l1, l2, l3] S h = ldA l0 (rn 300 1303 [l0, l1, l2, l3] (l0 :: S) h)) ∧
  (∀ (l0 l1 l2 : Value) (x : Int32) (S : List Value) (h : zH), rn 300 1303 [l0, l1, l2, .int x] S h = rn 300 1304 [l0, l1, l2, .int x] (.int x :: S) h) ∧
  (∀ (l0 l1 l2 l3 : Value) (S : List Value) (h : zH), rn 300 1304 [l0, l1, l2, l3] S h = rn 300 1305 [l0, l1, l2, l3] (.int (nI 2) :: S) h) ∧
  (∀ (l0 l1 l2 l3 : Value) (x : Int32) (y : Int32) (S : List Value) (h : zH), rn 300 1305 [l0, l1, l2, l3] (.int y :: .int x :: S) h = rn 300 1306 [l0, l1, l2, l3] (.int (x + y) :: S) h) ∧
  (∀ (l0 l1 l2 l3 : Value) (a : Nat) (j : Int32) (S : List Value) (h : zH), rn 300 1306 [l0, l1, l2, l3] (.int j :: .ref a :: S) h = zli h a 0 j fun x => rn 300 1307 [l0, l1, l2, l3] (.int x :: S) h) ∧
  (∀ (l0 l1 l2 l3 : Value) (o : Nat) (v0 : Value) (v1 : Value) (S : List Value) (h : zH), rn 300 1307 [l0, l1, l2, l3] (v1 :: v0 :: .ref o :: S) h = if zkd h o = 11 ∧ zsum S ≤ 8 then zcall (ev 169 [.ref o, v0, v1] h) (fun v h => rn 300 1310 [l0, l1, l2, l3] (zpush v S) h) else none) ∧
  (∀ (l0 l1 l2 l3 : Value) (S : List Value) (h : zH), rn 300 1310 [l0, l1, l2, l3] S h = ldA l2 (rn 300 1311 [l0, l1, l2, l3] (l2 :: S) h)) ∧
  (∀ (l0 l1 l2 l3 : Value) (S : List Value) (h : zH), rn 300 1311 [l0, l1, l2, l3] S h = ldA l0 (rn 300 1312 [l0, l1, l2, l3] (l0 :: S) h)) ∧
  (∀ (l0 l1 l2 : Value) (x : Int32) (S : List Value) (h : zH), rn 300 1312 [l0, l1, l2, .int x] S h = rn 300 1313 [l0, l1, l2, .int x] (.int x :: S) h) ∧
  (∀ (l0 l1 l2 l3 : Value) (S : List Value) (h : zH), rn 300 1313 [l0, l1, l2, l3] S h = rn 300 1314 [l0, l1, l2, l3] (.int (nI 1) :: S) h) ∧
  (∀ (l0 l1 l2 l3 : Value) (x : Int32) (y : Int32) (S : List Value) (h : zH), rn 300 1314 [l0, l1, l2, l3] (.int y :: .int x :: S) h = rn 300 1315 [l0, l1, l2, l3] (.int (x + y) :: S) h) ∧
  (∀ (l0 l1 l2 l3 : Value) (a : Nat) (j : Int32) (S : List Value) (h : zH), rn 300 1315 [l0, l1, l2, l3] (.int j :: .ref a :: S) h = zli h a 0 j fun x => rn 300 1316 [l0, l1, l2, l3] (.int x :: S) h) ∧
  (∀ (l0 l1 l2 l3 : Value) (S : List Value) (h : zH), rn 300 1316 [l0, l1, l2, l3] S h = ldA l0 (rn 300 1317 [l0, l1, l2, l3] (l0 :: S) h)) ∧
  (∀ (l0 l1 l2 : Value) (x : Int32) (S : List Value) (h : zH), rn 300 1317 [l0, l1, l2, .int x] S h = rn 300 1318 [l0, l1, l2, .int x] (.int x :: S) h) ∧
  (∀ (l0 l1 l2 l3 : Value) (S : List Value) (h : zH), rn 300 1318 [l0, l1, l2, l3] S h = rn 300 1319 [l0, l1, l2, l3] (.int (nI 2) :: S) h) ∧
  (∀ (l0 l1 l2 l3 : Value) (x : Int32) (y : Int32) (S : List Value) (h : zH), rn 300 1319 [l0, l1, l2, l3] (.int y :: .int x :: S) h = rn 300 1320 [l0, l1, l2, l3] (.int (x + y) :: S) h) ∧
  (∀ (l0 l1 l2 l3 : Value) (a : Nat) (j : Int32) (S : List Value) (h : zH), rn 300 1320 [l0, l1, l2, l3] (.int j :: .ref a :: S) h = zli h a 0 j fun x => rn 300 1321 [l0, l1, l2, l3] (.int x :: S) h) ∧
  (∀ (l0 l1 l2 l3 : Value) (o : Nat) (v0 : Value) (v1 : Value) (S : List Value) (h : zH), rn 300 1321 [l0, l1, l2, l3] (v1 :: v0 :: .ref o :: S) h = if zkd h o = 12 ∧ zsum S ≤ 8 then zcall (ev 281 [.ref o, v0, v1] h) (fun v h => rn 300 1324 [l0, l1, l2, l3] (zpush v S) h) else none) ∧
  (∀ (l0 l1 l2 l3 : Value) (x : Int64) (y : Int64) (S : List Value) (h : zH), rn 300 1324 [l0, l1, l2, l3] (.long y :: .long x :: S) h = rn 300 1325 [l0, l1, l2, l3] (.int (lg_cmp x y) :: S) h) ∧
  (∀ (l0 l1 l2 l3 : Value) (x : Int32) (S : List Value) (h : zH), rn 300 1325 [l0, l1, l2, l3] (.int x :: S) h = if x = nI 0 then rn 300 1562 [l0, l1, l2, l3] S h else rn 300 1328 [l0, l1, l2, l3] S h) ∧
  (∀ (l0 l1 l2 l3 : Value) (S : List Value) (h : zH), rn 300 1328 [l0, l1, l2, l3] S h = rn 300 1329 [l0, l1, l2, l3] (.int (nI 0) :: S) h) ∧
  (∀ (l0 l1 l2 l3 : Value) (x : Int32) (h : zH), rn 300 1329 [l0, l1, l2, l3] [.int x] h = if x = nI 0 ∨ x = nI 1 then some (some (.int x), h) else none) ∧
  (∀ (l0 l1 l2 l3 : Value) (S : List Value) (h : zH), rn 300 1330 [l0, l1, l2, l3] S h = ldA l1 (rn 300 1331 [l0, l1, l2, l3] (l1 :: S) h)) ∧
  (∀ (l0 l1 l2 l3 : Value) (S : List Value) (h : zH), rn 300 1331 [l0, l1, l2, l3] S h = ldA l0 (rn 300 1332 [l0, l1, l2, l3] (l0 :: S) h)) ∧
  (∀ (l0 l1 l2 : Value) (x : Int32) (S : List Value) (h : zH), rn 300 1332 [l0, l1, l2, .int x] S h = rn 300 1333 [l0, l1, l2, .int x] (.int x :: S) h) ∧
  (∀ (l0 l1 l2 l3 : Value) (S : List Value) (h : zH), rn 300 1333 [l0, l1, l2, l3] S h = rn 300 1334 [l0, l1, l2, l3] (.int (nI 1) :: S) h) ∧
  (∀ (l0 l1 l2 l3 : Value) (x : Int32) (y : Int32) (S : List Value) (h : zH), rn 300 1334 [l0, l1, l2, l3] (.int y :: .int x :: S) h = rn 300 1335 [l0, l1, l2, l3] (.int (x + y) :: S) h) ∧
  (∀ (l0 l1 l2 l3 : Value) (a : Nat) (j : Int32) (S : List Value) (h : zH), rn 300 1335 [l0, l1, l2, l3] (.int j :: .ref a :: S) h = zli h a 0 j fun x => rn 300 1336 [l0, l1, l2, l3] (.int x :: S) h) ∧
  (∀ (l0 l1 l2 l3 : Value) (S : List Value) (h : zH), rn 300 1336 [l0, l1, l2, l3] S h = ldA l0 (rn 300 1337 [l0, l1, l2, l3] (l0 :: S) h)) ∧
  (∀ (l0 l1 l2 : Value) (x : Int32) (S : List Value) (h : zH), rn 300 1337 [l0, l1, l2, .int x] S h = rn 300 1338 [l0, l1, l2, .int x] (.int x :: S) h) ∧
  (∀ (l0 l1 l2 l3 : Value) (S : List Value) (h : zH), rn 300 1338 [l0, l1, l2, l3] S h = rn 300 1339 [l0, l1, l2, l3] (.int (nI 2) :: S) h) ∧
  (∀ (l0 l1 l2 l3 : Value) (x : Int32) (y : Int32) (S : List Value) (h : zH), rn 300 1339 [l0, l1, l2, l3] (.int y :: .int x :: S) h = rn 300 1340 [l0, l1, l2, l3] (.int (x + y) :: S) h) ∧
  (∀ (l0 l1 l2 l3 : Value) (a : Nat) (j : Int32) (S : List Value) (h : zH), rn 300 1340 [l0, l1, l2, l3] (.int j :: .ref a :: S) h = zli h a 0 j fun x => rn 300 1341 [l0, l1, l2, l3] (.int x :: S) h) ∧
  (∀ (l0 l1 l2 l3 : Value) (o : Nat) (v0 : Value) (v1 : Value) (S : List Value) (h : zH), rn 300 1341 [l0, l1, l2, l3] (v1 :: v0 :: .ref o :: S) h = if zkd h o = 11 ∧ zsum S ≤ 8 then zcall (ev 170 [.ref o, v0, v1] h) (fun v h => rn 300 1344 [l0, l1, l2, l3] (zpush v S) h) else none) ∧
  (∀ (l0 l1 l2 l3 : Value) (S : List Value) (h : zH), rn 300 1344 [l0, l1, l2, l3] S h = ldA l2 (rn 300 1345 [l0, l1, l2, l3] (l2 :: S) h)) ∧
  (∀ (l0 l1 l2 l3 : Value) (S : List Value) (h : zH), rn 300 1345 [l0, l1, l2, l3] S h = ldA l0 (rn 300 1346 [l0, l1, l2, l3] (l0 :: S) h)) ∧
  (∀ (l0 l1 l2 : Value) (x : Int32) (S : List Value) (h : zH), rn 300 1346 [l0, l1, l2, .int x] S h = rn 300 1347 [l0, l1, l2, .int x] (.int x :: S) h) ∧
  (∀ (l0 l1 l2 l3 : Value) (S : List Value) (h : zH), rn 300 1347 [l0, l1, l2, l3] S h = rn 300 1348 [l0, l1, l2, l3] (.int (nI 1) :: S) h) ∧
  (∀ (l0 l1 l2 l3 : Value) (x : Int32) (y : Int32) (S : List Value) (h : zH), rn 300 1348 [l0, l1, l2, l3] (.int y :: .int x :: S) h = rn 300 1349 [l0, l1, l2, l3] (.int (x + y) :: S) h) ∧
  (∀ (l0 l1 l2 l3 : Value) (a : Nat) (j : Int32) (S : List Value) (h : zH), rn 300 1349 [l0, l1, l2, l3] (.int j :: .ref a :: S) h = zli h a 0 j fun x => rn 300 1350 [l0, l1, l2, l3] (.int x :: S) h) ∧
  (∀ (l0 l1 l2 l3 : Value) (S : List Value) (h : zH), rn 300 1350 [l0, l1, l2, l3] S h = ldA l0 (rn 300 1351 [l0, l1, l2, l3] (l0 :: S) h)) ∧
  (∀ (l0 l1 l2 : Value) (x : Int32) (S : List Value) (h : zH), rn 300 1351 [l0, l1, l2, .int x] S h = rn 300 1352 [l0, l1, l2, .int x] (.int x :: S) h) ∧
  (∀ (l0 l1 l2 l3 : Value) (S : List Value) (h : zH), rn 300 1352 [l0, l1, l2, l3] S h = rn 300 1353 [l0, l1, l2, l3] (.int (nI 2) :: S) h) ∧
  (∀ (l0 l1 l2 l3 : Value) (x : Int32) (y : Int32) (S : List Value) (h : zH), rn 300 1353 [l0, l1, l2, l3] (.int y :: .int x :: S) h = rn 300 1354 [l0, l1, l2, l3] (.int (x + y) :: S) h) ∧
  (∀ (l0 l1 l2 l3 : Value) (a : Nat) (j : Int32) (S : List Value) (h : zH), rn 300 1354 [l0, l1, l2, l3] (.int j :: .ref a :: S) h = zli h a 0 j fun x => rn 300 1355 [l0, l1, l2, l3] (.int x :: S) h) ∧
  (∀ (l0 l1 l2 l3 : Value) (o : Nat) (v0 : Value) (v1 : Value) (S : List Value) (h : zH), rn 300 1355 [l0, l1, l2, l3] (v1 :: v0 :: .ref o :: S) h = if zkd h o = 12 ∧ zsum S ≤ 8 then zcall (ev 284 [.ref o, v0, v1] h) (fun v h => rn 300 1358 [l0, l1, l2, l3] (zpush v S) h) else none) ∧
  (∀ (l0 l1 l2 l3 : Value) (x : Int64) (y : Int64) (S : List Value) (h : zH), rn 300 1358 [l0, l1, l2, l3] (.long y :: .long x :: S) h = rn 300 1359 [l0, l1, l2, l3] (.int (lg_cmp x y) :: S) h) ∧
  (∀ (l0 l1 l2 l3 : Value) (x : Int32) (S : List Value) (h : zH), rn 300 1359 [l0, l1, l2, l3] (.int x :: S) h = if x = nI 0 then rn 300 1562 [l0, l1, l2, l3] S h else rn 300 1362 [l0, l1, l2, l3] S h) ∧
  (∀ (l0 l1 l2 l3 : Value) (S : List Value) (h : zH), rn 300 1362 [l0, l1, l2, l3] S h = rn 300 1363 [l0, l1, l2, l3] (.int (nI 0) :: S) h) ∧
  (∀ (l0 l1 l2 l3 : Value) (x : Int32) (h : zH), rn 300 1363 [l0, l1, l2, l3] [.int x] h = if x = nI 0 ∨ x = nI 1 then some (some (.int x), h) else none) ∧
  (∀ (l0 l1 l2 l3 : Value) (S : List Value) (h : zH), rn 300 1364 [l0, l1, l2, l3] S h = ldA l1 (rn 300 1365 [l0, l1, l2, l3] (l1 :: S) h)) ∧
  (∀ (l0 l1 l2 l3 : Value) (S : List Value) (h : zH), rn 300 1365 [l0, l1, l2, l3] S h = ldA l0 (rn 300 1366 [l0, l1, l2, l3] (l0 :: S) h)) ∧
  (∀ (l0 l1 l2 : Value) (x : Int32) (S : List Value) (h : zH), rn 300 1366 [l0, l1, l2, .int x] S h = rn 300 1367 [l0, l1, l2, .int x] (.int x :: S) h) ∧
  (∀ (l0 l1 l2 l3 : Value) (S : List Value) (h : zH), rn 300 1367 [l0, l1, l2, l3] S h = rn 300 1368 [l0, l1, l2, l3] (.int (nI 1) :: S) h) ∧
  (∀ (l0 l1 l2 l3 : Value) (x : Int32) (y : Int32) (S : List Value) (h : zH), rn 300 1368 [l0, l1, l2, l3] (.int y :: .int x :: S) h = rn 300 1369 [l0, l1, l2, l3] (.int (x + y) :: S) h) ∧
  (∀ (l0 l1 l2 l3 : Value) (a : Nat) (j : Int32) (S : List Value) (h : zH), rn 300 1369 [l0, l1, l2, l3] (.int j :: .ref a :: S) h = zli h a 0 j fun x => rn 300 1370 [l0, l1, l2, l3] (.int x :: S) h) ∧
  (∀ (l0 l1 l2 l3 : Value) (S : List Value) (h : zH), rn 300 1370 [l0, l1, l2, l3] S h = ldA l0 (rn 300 1371 [l0, l1, l2, l3] (l0 :: S) h)) ∧
  (∀ (l0 l1 l2 : Value) (x : Int32) (S : List Value) (h : zH), rn 300 1371 [l0, l1, l2, .int x] S h = rn 300 1372 [l0, l1, l2, .int x] (.int x :: S) h) ∧
  (∀ (l0 l1 l2 l3 : Value) (S : List Value) (h : zH), rn 300 1372 [l0, l1, l2, l3] S h = rn 300 1373 [l0, l1, l2, l3] (.int (nI 2) :: S) h) ∧
  (∀ (l0 l1 l2 l3 : Value) (x : Int32) (y : Int32) (S : List Value) (h : zH), rn 300 1373 [l0, l1, l2, l3] (.int y :: .int x :: S) h = rn 300 1374 [l0, l1, l2, l3] (.int (x + y) :: S) h) ∧
  (∀ (l0 l1 l2 l3 : Value) (a : Nat) (j : Int32) (S : List Value) (h : zH), rn 300 1374 [l0, l1, l2, l3] (.int j :: .ref a :: S) h = zli h a 0 j fun x => rn 300 1375 [l0, l1, l2, l3] (.int x :: S) h) ∧
  (∀ (l0 l1 l2 l3 : Value) (o : Nat) (v0 : Value) (v1 : Value) (S : List Value) (h : zH), rn 300 1375 [l0, l1, l2, l3] (v1 :: v0 :: .ref o :: S) h = if zkd h o = 11 ∧ zsum S ≤ 8 then zcall (ev 172 [.ref o, v0, v1] h) (fun v h => rn 300 1378 [l0, l1, l2, l3] (zpush v S) h) else none) ∧
  (∀ (l0 l1 l2 l3 : Value) (S : List Value) (h : zH), rn 300 1378 [l0, l1, l2, l3] S h = ldA l2 (rn 300 1379 [l0, l1, l2, l3] (l2 :: S) h)) ∧
  (∀ (l0 l1 l2 l3 : Value) (S : List Value) (h : zH), rn 300 1379 [l0, l1, l2, l3] S h = ldA l0 (rn 300 1380 [l0, l1, l2, l3] (l0 :: S) h)) ∧
  (∀ (l0 l1 l2 : Value) (x : Int32) (S : List Value) (h : zH), rn 300 1380 [l0, l1, l2, .int x] S h = rn 300 1381 [l0, l1, l2, .int x] (.int x :: S) h) ∧
  (∀ (l0 l1 l2 l3 : Value) (S : List Value) (h : zH), rn 300 1381 [l0, l1, l2, l3] S h = rn 300 1382 [l0, l1, l2, l3] (.int (nI 1) :: S) h) ∧
  (∀ (l0 l1 l2 l3 : Value) (x : Int32) (y : Int32) (S : List Value) (h : zH), rn 300 1382 [l0, l1, l2, l3] (.int y :: .int x :: S) h = rn 300 1383 [l0, l1, l2, l3] (.int (x + y) :: S) h) ∧
  (∀ (l0 l1 l2 l3 : Value) (a : Nat) (j : Int32) (S : List Value) (h : zH), rn 300 1383 [l0, l1, l2, l3] (.int j :: .ref a :: S) h = zli h a 0 j fun x => rn 300 1384 [l0, l1, l2, l3] (.int x :: S) h) ∧
  (∀ (l0 l1 l2 l3 : Value) (S : List Value) (h : zH), rn 300 1384 [l0, l1, l2, l3] S h = ldA l0 (rn 300 1385 [l0, l1, l2, l3] (l0 :: S) h)) ∧
  (∀ (l0 l1 l2 : Value) (x : Int32) (S : List Value) (h : zH), rn 300 1385 [l0, l1, l2, .int x] S h = rn 300 1386 [l0, l1, l2, .int x] (.int x :: S) h) ∧
  (∀ (l0 l1 l2 l3 : Value) (S : List Value) (h : zH), rn 300 1386 [l0, l1, l2, l3] S h = rn 300 1387 [l0, l1, l2, l3] (.int (nI 2) :: S) h) ∧
  (∀ (l0 l1 l2 l3 : Value) (x : Int32) (y : Int32) (S : List Value) (h : zH), rn 300 1387 [l0, l1, l2, l3] (.int y :: .int x :: S) h = rn 300 1388 [l0, l1, l2, l3] (.int (x + y) :: S) h) ∧
  (∀ (l0 l1 l2 l3 : Value) (a : Nat) (j : Int32) (S : List Value) (h : zH), rn 300 1388 [l0, l1, l2, l3] (.int j :: .ref a :: S) h = zli h a 0 j fun x => rn 300 1389 [l0, l1, l2, l3] (.int x :: S) h) ∧
  (∀ (l0 l1 l2 l3 : Value) (o : Nat) (v0 : Value) (v1 : Value) (S : List Value) (h : zH), rn 300 1389 [l0, l1, l2, l3] (v1 :: v0 :: .ref o :: S) h = if zkd h o = 12 ∧ zsum S ≤ 8 then zcall (ev 285 [.ref o, v0, v1] h) (fun v h => rn 300 1392 [l0, l1, l2, l3] (zpush v S) h) else none) ∧
  (∀ (l0 l1 l2 l3 : Value) (x : Int64) (y : Int64) (S : List Value) (h : zH), rn 300 1392 [l0, l1, l2, l3] (.long y :: .long x :: S) h = rn 300 1393 [l0, l1, l2, l3] (.int (lg_cmp x y) :: S) h) ∧
  (∀ (l0 l1 l2 l3 : Value) (x : Int32) (S : List Value) (h : zH), rn 300 1393 [l0, l1, l2, l3] (.int x :: S) h = if x = nI 0 then rn 300 1562 [l0, l1, l2, l3] S h else rn 300 1396 [l0, l1, l2, l3] S h) ∧
  (∀ (l0 l1 l2 l3 : Value) (S : List Value) (h : zH), rn 300 1396 [l0, l1, l2, l3] S h = rn 300 1397 [l0, l1, l2, l3] (.int (nI 0) :: S) h) ∧
  (∀ (l0 l1 l2 l3 : Value) (x : Int32) (h : zH), rn 300 1397 [l0, l1, l2, l3] [.int x] h = if x = nI 0 ∨ x = nI 1 then some (some (.int x), h) else none) ∧
  (∀ (l0 l1 l2 l3 : Value) (S : List Value) (h : zH), rn 300 1398 [l0, l1, l2, l3] S h = ldA l1 (rn 300 1399 [l0, l1, l2, l3] (l1 :: S) h)) ∧
  (∀ (l0 l1 l2 l3 : Value) (S : List Value) (h : zH), rn 300 1399 [l0, l1, l2, l3] S h = ldA l0 (rn 300 1400 [l0, l1, l2, l3] (l0 :: S) h)) ∧
  (∀ (l0 l1 l2 : Value) (x : Int32) (S : List Value) (h : zH), rn 300 1400 [l0, l1, l2, .int x] S h = rn 300 1401 [l0, l1, l2, .int x] (.int x :: S) h) ∧
  (∀ (l0 l1 l2 l3 : Value) (S : List Value) (h : zH), rn 300 1401 [l0, l1, l2, l3] S h = rn 300 1402 [l0, l1, l2, l3] (.int (nI 1) :: S) h) ∧
  (∀ (l0 l1 l2 l3 : Value) (x : Int32) (y : Int32) (S : List Value) (h : zH), rn 300 1402 [l0, l1, l2, l3] (.int y :: .int x :: S) h = rn 300 1403 [l0, l1, l2, l3] (.int (x + y) :: S) h) ∧
  (∀ (l0 l1 l2 l3 : Value) (a : Nat) (j : Int32) (S : List Value) (h : zH), rn 300 1403 [l0, l1, l2, l3] (.int j :: .ref a :: S) h = zli h a 0 j fun x => rn 300 1404 [l0, l1, l2, l3] (.int x :: S) h) ∧
  (∀ (l0 l1 l2 l3 : Value) (S : List Value) (h : zH), rn 300 1404 [l0, l1, l2, l3] S h = ldA l0 (rn 300 1405 [l0, l1, l2, l3] (l0 :: S) h)) ∧
  (∀ (l0 l1 l2 : Value) (x : Int32) (S : List Value) (h : zH), rn 300 1405 [l0, l1, l2, .int x] S h = rn 300 1406 [l0, l1, l2, .int x] (.int x :: S) h) ∧
  (∀ (l0 l1 l2 l3 : Value) (S : List Value) (h : zH), rn 300 1406 [l0, l1, l2, l3] S h = rn 300 1407 [l0, l1, l2, l3] (.int (nI 2) :: S) h) ∧
  (∀ (l0 l1 l2 l3 : Value) (x : Int32) (y : Int32) (S : List Value) (h : zH), rn 300 1407 [l0, l1, l2, l3] (.int y :: .int x :: S) h = rn 300 1408 [l0, l1, l2, l3] (.int (x + y) :: S) h) ∧
  (∀ (l0 l1 l2 l3 : Value) (a : Nat) (j : Int32) (S : List Value) (h : zH), rn 300 1408 [l0, l1, l2, l3] (.int j :: .ref a :: S) h = zli h a 0 j fun x => rn 300 1409 [l0, l1, l2, l3] (.int x :: S) h) := ⟨fun _ _ _ _ _ _ _ _ => r_iadd (show zdec 300 1161 = some (.iadd, 1) by decide +kernel) rfl,
  fun _ _ _ _ _ _ _ _ => r_iald (show zdec 300 1162 = some (.iaload, 1) by decide +kernel) rfl,
  fun _ _ _ _ _ _ => r_aload_n (show zdec 300 1163 = some (.aload_n 0, 1) by decide +kernel) rfl rfl,
  fun _ _ _ _ _ _ => r_iload_n (show zdec 300 1164 = some (.iload_n 3, 1) by decide +kernel) rfl rfl,
  fun _ _ _ _ _ _ => r_iconst (show zdec 300 1165 = some (.iconst 2, 1) by decide +kernel) rfl rfl,
  fun _ _ _ _ _ _ _ _ => r_iadd (show zdec 300 1166 = some (.iadd, 1) by decide +kernel) rfl,
  fun _ _ _ _ _ _ _ _ => r_iald (show zdec 300 1167 = some (.iaload, 1) by decide +kernel) rfl,
  fun _ _ _ _ _ _ _ _ _ => r_cV [_, _] rfl (show zdec 300 1168 = some (.invokevirtual 128, 3) by decide +kernel) (show zst.lookup (300 * zKEY + 128) = some (1, 154, 2, 11) by decide +kernel) (by decide) rfl,
  fun _ _ _ _ _ _ => r_aload_n (show zdec 300 1171 = some (.aload_n 2, 1) by decide +kernel) rfl rfl,
  fun _ _ _ _ _ _ => r_aload_n (show zdec 300 1172 = some (.aload_n 0, 1) by decide +kernel) rfl rfl,
  fun _ _ _ _ _ _ => r_iload_n (show zdec 300 1173 = some (.iload_n 3, 1) by decide +kernel) rfl rfl,
  fun _ _ _ _ _ _ => r_iconst (show zdec 300 1174 = some (.iconst 1, 1) by decide +kernel) rfl rfl,
  fun _ _ _ _ _ _ _ _ => r_iadd (show zdec 300 1175 = some (.iadd, 1) by decide +kernel) rfl,
  fun _ _ _ _ _ _ _ _ => r_iald (show zdec 300 1176 = some (.iaload, 1) by decide +kernel) rfl,
  fun _ _ _ _ _ _ => r_aload_n (show zdec 300 1177 = some (.aload_n 0, 1) by decide +kernel) rfl rfl,
  fun _ _ _ _ _ _ => r_iload_n (show zdec 300 1178 = some (.iload_n 3, 1) by decide +kernel) rfl rfl,
  fun _ _ _ _ _ _ => r_iconst (show zdec 300 1179 = some (.iconst 2, 1) by decide +kernel) rfl rfl,
  fun _ _ _ _ _ _ _ _ => r_iadd (show zdec 300 1180 = some (.iadd, 1) by decide +kernel) rfl,
  fun _ _ _ _ _ _ _ _ => r_iald (show zdec 300 1181 = some (.iaload, 1) by decide +kernel) rfl,
  fun _ _ _ _ _ _ _ _ _ => r_cV [_, _] rfl (show zdec 300 1182 = some (.invokevirtual 131, 3) by decide +kernel) (show zst.lookup (300 * zKEY + 131) = some (1, 271, 2, 12) by decide +kernel) (by decide) rfl,
  fun _ _ _ _ _ _ _ _ => r_lcmp (show zdec 300 1185 = some (.lcmp, 1) by decide +kernel) rfl,
  fun _ _ _ _ _ _ _ => r_ifeq (show zdec 300 1186 = some (.ifCond .eq 376, 3) by decide +kernel) rfl rfl,
  fun _ _ _ _ _ _ => r_iconst (show zdec 300 1189 = some (.iconst 0, 1) by decide +kernel) rfl rfl,
  fun _ _ _ _ _ _ => r_iretb (show zdec 300 1190 = some (.ireturn, 1) by decide +kernel) (by decide +kernel),
  fun _ _ _ _ _ _ => r_aload_n (show zdec 300 1191 = some (.aload_n 1, 1) by decide +kernel) rfl rfl,
  fun _ _ _ _ _ _ => r_aload_n (show zdec 300 1192 = some (.aload_n 0, 1) by decide +kernel) rfl rfl,
  fun _ _ _ _ _ _ => r_iload_n (show zdec 300 1193 = some (.iload_n 3, 1) by decide +kernel) rfl rfl,
  fun _ _ _ _ _ _ => r_iconst (show zdec 300 1194 = some (.iconst 1, 1) by decide +kernel) rfl rfl,
  fun _ _ _ _ _ _ _ _ => r_iadd (show zdec 300 1195 = some (.iadd, 1) by decide +kernel) rfl,
  fun _ _ _ _ _ _ _ _ => r_iald (show zdec 300 1196 = some (.iaload, 1) by decide +kernel) rfl,
  fun _ _ _ _ _ _ _ _ => r_cV [_] rfl (show zdec 300 1197 = some (.invokevirtual 132, 3) by decide +kernel) (show zst.lookup (300 * zKEY + 132) = some (1, 156, 1, 11) by decide +kernel) (by decide) rfl,
  fun _ _ _ _ _ _ => r_aload_n (show zdec 300 1200 = some (.aload_n 2, 1) by decide +kernel) rfl rfl,
  fun _ _ _ _ _ _ => r_aload_n (show zdec 300 1201 = some (.aload_n 0, 1) by decide +kernel) rfl rfl,
  fun _ _ _ _ _ _ => r_iload_n (show zdec 300 1202 = some (.iload_n 3, 1) by decide +kernel) rfl rfl,
  fun _ _ _ _ _ _ => r_iconst (show zdec 300 1203 = some (.iconst 1, 1) by decide +kernel) rfl rfl,
  fun _ _ _ _ _ _ _ _ => r_iadd (show zdec 300 1204 = some (.iadd, 1) by decide +kernel) rfl,
  fun _ _ _ _ _ _ _ _ => r_iald (show zdec 300 1205 = some (.iaload, 1) by decide +kernel) rfl,
  fun _ _ _ _ _ _ _ _ => r_cV [_] rfl (show zdec 300 1206 = some (.invokevirtual 135, 3) by decide +kernel) (show zst.lookup (300 * zKEY + 135) = some (1, 273, 1, 12) by decide +kernel) (by decide) rfl,
  fun _ _ _ _ _ _ _ _ => r_lcmp (show zdec 300 1209 = some (.lcmp, 1) by decide +kernel) rfl,
  fun _ _ _ _ _ _ _ => r_ifeq (show zdec 300 1210 = some (.ifCond .eq 352, 3) by decide +kernel) rfl rfl,
  fun _ _ _ _ _ _ => r_iconst (show zdec 300 1213 = some (.iconst 0, 1) by decide +kernel) rfl rfl,
  fun _ _ _ _ _ _ => r_iretb (show zdec 300 1214 = some (.ireturn, 1) by decide +kernel) (by decide +kernel),
  fun _ _ _ _ _ _ => r_aload_n (show zdec 300 1215 = some (.aload_n 1, 1) by decide +kernel) rfl rfl,
  fun _ _ _ _ _ _ => r_aload_n (show zdec 300 1216 = some (.aload_n 0, 1) by decide +kernel) rfl rfl,
  fun _ _ _ _ _ _ => r_iload_n (show zdec 300 1217 = some (.iload_n 3, 1) by decide +kernel) rfl rfl,
  fun _ _ _ _ _ _ => r_iconst (show zdec 300 1218 = some (.iconst 1, 1) by decide +kernel) rfl rfl,
  fun _ _ _ _ _ _ _ _ => r_iadd (show zdec 300 1219 = some (.iadd, 1) by decide +kernel) rfl,
  fun _ _ _ _ _ _ _ _ => r_iald (show zdec 300 1220 = some (.iaload, 1) by decide +kernel) rfl,
  fun _ _ _ _ _ _ _ _ => r_cV [_] rfl (show zdec 300 1221 = some (.invokevirtual 136, 3) by decide +kernel) (show zst.lookup (300 * zKEY + 136) = some (1, 160, 1, 11) by decide +kernel) (by decide) rfl,
  fun _ _ _ _ _ _ => r_aload_n (show zdec 300 1224 = some (.aload_n 2, 1) by decide +kernel) rfl rfl,
  fun _ _ _ _ _ _ => r_aload_n (show zdec 300 1225 = some (.aload_n 0, 1) by decide +kernel) rfl rfl,
  fun _ _ _ _ _ _ => r_iload_n (show zdec 300 1226 = some (.iload_n 3, 1) by decide +kernel) rfl rfl,
  fun _ _ _ _ _ _ => r_iconst (show zdec 300 1227 = some (.iconst 1, 1) by decide +kernel) rfl rfl,
  fun _ _ _ _ _ _ _ _ => r_iadd (show zdec 300 1228 = some (.iadd, 1) by decide +kernel) rfl,
  fun _ _ _ _ _ _ _ _ => r_iald (show zdec 300 1229 = some (.iaload, 1) by decide +kernel) rfl,
  fun _ _ _ _ _ _ _ _ => r_cV [_] rfl (show zdec 300 1230 = some (.invokevirtual 139, 3) by decide +kernel) (show zst.lookup (300 * zKEY + 139) = some (1, 277, 1, 12) by decide +kernel) (by decide) rfl,
  fun _ _ _ _ _ _ _ _ => r_lcmp (show zdec 300 1233 = some (.lcmp, 1) by decide +kernel) rfl,
  fun _ _ _ _ _ _ _ => r_ifeq (show zdec 300 1234 = some (.ifCond .eq 328, 3) by decide +kernel) rfl rfl,
  fun _ _ _ _ _ _ => r_iconst (show zdec 300 1237 = some (.iconst 0, 1) by decide +kernel) rfl rfl,
  fun _ _ _ _ _ _ => r_iretb (show zdec 300 1238 = some (.ireturn, 1) by decide +kernel) (by decide +kernel),
  fun _ _ _ _ _ _ => r_aload_n (show zdec 300 1239 = some (.aload_n 1, 1) by decide +kernel) rfl rfl,
  fun _ _ _ _ _ _ => r_aload_n (show zdec 300 1240 = some (.aload_n 0, 1) by decide +kernel) rfl rfl,
  fun _ _ _ _ _ _ => r_iload_n (show zdec 300 1241 = some (.iload_n 3, 1) by decide +kernel) rfl rfl,
  fun _ _ _ _ _ _ => r_iconst (show zdec 300 1242 = some (.iconst 1, 1) by decide +kernel) rfl rfl,
  fun _ _ _ _ _ _ _ _ => r_iadd (show zdec 300 1243 = some (.iadd, 1) by decide +kernel) rfl,
  fun _ _ _ _ _ _ _ _ => r_iald (show zdec 300 1244 = some (.iaload, 1) by decide +kernel) rfl,
  fun _ _ _ _ _ _ => r_aload_n (show zdec 300 1245 = some (.aload_n 0, 1) by decide +kernel) rfl rfl,
  fun _ _ _ _ _ _ => r_iload_n (show zdec 300 1246 = some (.iload_n 3, 1) by decide +kernel) rfl rfl,
  fun _ _ _ _ _ _ => r_iconst (show zdec 300 1247 = some (.iconst 2, 1) by decide +kernel) rfl rfl,
  fun _ _ _ _ _ _ _ _ => r_iadd (show zdec 300 1248 = some (.iadd, 1) by decide +kernel) rfl,
  fun _ _ _ _ _ _ _ _ => r_iald (show zdec 300 1249 = some (.iaload, 1) by decide +kernel) rfl,
  fun _ _ _ _ _ _ _ _ _ => r_cV [_, _] rfl (show zdec 300 1250 = some (.invokevirtual 140, 3) by decide +kernel) (show zst.lookup (300 * zKEY + 140) = some (1, 161, 2, 11) by decide +kernel) (by decide) rfl,
  fun _ _ _ _ _ _ => r_aload_n (show zdec 300 1253 = some (.aload_n 2, 1) by decide +kernel) rfl rfl,
  fun _ _ _ _ _ _ => r_aload_n (show zdec 300 1254 = some (.aload_n 0, 1) by decide +kernel) rfl rfl,
  fun _ _ _ _ _ _ => r_iload_n (show zdec 300 1255 = some (.iload_n 3, 1) by decide +kernel) rfl rfl,
  fun _ _ _ _ _ _ => r_iconst (show zdec 300 1256 = some (.iconst 1, 1) by decide +kernel) rfl rfl,
  fun _ _ _ _ _ _ _ _ => r_iadd (show zdec 300 1257 = some (.iadd, 1) by decide +kernel) rfl,
  fun _ _ _ _ _ _ _ _ => r_iald (show zdec 300 1258 = some (.iaload, 1) by decide +kernel) rfl,
  fun _ _ _ _ _ _ => r_aload_n (show zdec 300 1259 = some (.aload_n 0, 1) by decide +kernel) rfl rfl,
  fun _ _ _ _ _ _ => r_iload_n (show zdec 300 1260 = some (.iload_n 3, 1) by decide +kernel) rfl rfl,
  fun _ _ _ _ _ _ => r_iconst (show zdec 300 1261 = some (.iconst 2, 1) by decide +kernel) rfl rfl,
  fun _ _ _ _ _ _ _ _ => r_iadd (show zdec 300 1262 = some (.iadd, 1) by decide +kernel) rfl,
  fun _ _ _ _ _ _ _ _ => r_iald (show zdec 300 1263 = some (.iaload, 1) by decide +kernel) rfl,
  fun _ _ _ _ _ _ _ _ _ => r_cV [_, _] rfl (show zdec 300 1264 = some (.invokevirtual 143, 3) by decide +kernel) (show zst.lookup (300 * zKEY + 143) = some (1, 278, 2, 12) by decide +kernel) (by decide) rfl,
  fun _ _ _ _ _ _ _ _ => r_icmpeq (show zdec 300 1267 = some (.if_icmp .eq 295, 3) by decide +kernel) rfl rfl,
  fun _ _ _ _ _ _ => r_iconst (show zdec 300 1270 = some (.iconst 0, 1) by decide +kernel) rfl rfl,
  fun _ _ _ _ _ _ => r_iretb (show zdec 300 1271 = some (.ireturn, 1) by decide +kernel) (by decide +kernel),
  fun _ _ _ _ _ _ => r_aload_n (show zdec 300 1272 = some (.aload_n 1, 1) by decide +kernel) rfl rfl,
  fun _ _ _ _ _ _ => r_aload_n (show zdec 300 1273 = some (.aload_n 0, 1) by decide +kernel) rfl rfl,
  fun _ _ _ _ _ _ => r_iload_n (show zdec 300 1274 = some (.iload_n 3, 1) by decide +kernel) rfl rfl,
  fun _ _ _ _ _ _ => r_iconst (show zdec 300 1275 = some (.iconst 1, 1) by decide +kernel) rfl rfl,
  fun _ _ _ _ _ _ _ _ => r_iadd (show zdec 300 1276 = some (.iadd, 1) by decide +kernel) rfl,
  fun _ _ _ _ _ _ _ _ => r_iald (show zdec 300 1277 = some (.iaload, 1) by decide +kernel) rfl,
  fun _ _ _ _ _ _ _ _ => r_cV [_] rfl (show zdec 300 1278 = some (.invokevirtual 144, 3) by decide +kernel) (show zst.lookup (300 * zKEY + 144) = some (1, 164, 1, 11) by decide +kernel) (by decide) rfl,
  fun _ _ _ _ _ _ => r_aload_n (show zdec 300 1281 = some (.aload_n 2, 1) by decide +kernel) rfl rfl,
  fun _ _ _ _ _ _ => r_aload_n (show zdec 300 1282 = some (.aload_n 0, 1) by decide +kernel) rfl rfl,
  fun _ _ _ _ _ _ => r_iload_n (show zdec 300 1283 = some (.iload_n 3, 1) by decide +kernel) rfl rfl,
  fun _ _ _ _ _ _ => r_iconst (show zdec 300 1284 = some (.iconst 1, 1) by decide +kernel) rfl rfl,
  fun _ _ _ _ _ _ _ _ => r_iadd (show zdec 300 1285 = some (.iadd, 1) by decide +kernel) rfl,
  fun _ _ _ _ _ _ _ _ => r_iald (show zdec 300 1286 = some (.iaload, 1) by decide +kernel) rfl,
  fun _ _ _ _ _ _ _ _ => r_cV [_] rfl (show zdec 300 1287 = some (.invokevirtual 147, 3) by decide +kernel) (show zst.lookup (300 * zKEY + 147) = some (1, 279, 1, 12) by decide +kernel) (by decide) rfl,
  fun _ _ _ _ _ _ _ _ => r_lcmp (show zdec 300 1290 = some (.lcmp, 1) by decide +kernel) rfl,
  fun _ _ _ _ _ _ _ => r_ifeq (show zdec 300 1291 = some (.ifCond .eq 271, 3) by decide +kernel) rfl rfl,
  fun _ _ _ _ _ _ => r_iconst (show zdec 300 1294 = some (.iconst 0, 1) by decide +kernel) rfl rfl,
  fun _ _ _ _ _ _ => r_iretb (show zdec 300 1295 = some (.ireturn, 1) by decide +kernel) (by decide +kernel),
  fun _ _ _ _ _ _ => r_aload_n (show zdec 300 1296 = some (.aload_n 1, 1) by decide +kernel) rfl rfl,
  fun _ _ _ _ _ _ => r_aload_n (show zdec 300 1297 = some (.aload_n 0, 1) by decide +kernel) rfl rfl,
  fun _ _ _ _ _ _ => r_iload_n (show zdec 300 1298 = some (.iload_n 3, 1) by decide +kernel) rfl rfl,
  fun _ _ _ _ _ _ => r_iconst (show zdec 300 1299 = some (.iconst 1, 1) by decide +kernel) rfl rfl,
  fun _ _ _ _ _ _ _ _ => r_iadd (show zdec 300 1300 = some (.iadd, 1) by decide +kernel) rfl,
  fun _ _ _ _ _ _ _ _ => r_iald (show zdec 300 1301 = some (.iaload, 1) by decide +kernel) rfl,
  fun _ _ _ _ _ _ => r_aload_n (show zdec 300 1302 = some (.aload_n 0, 1) by decide +kernel) rfl rfl,
  fun _ _ _ _ _ _ => r_iload_n (show zdec 300 1303 = some (.iload_n 3, 1) by decide +kernel) rfl rfl,
  fun _ _ _ _ _ _ => r_iconst (show zdec 300 1304 = some (.iconst 2, 1) by decide +kernel) rfl rfl,
  fun _ _ _ _ _ _ _ _ => r_iadd (show zdec 300 1305 = some (.iadd, 1) by decide +kernel) rfl,
  fun _ _ _ _ _ _ _ _ => r_iald (show zdec 300 1306 = some (.iaload, 1) by decide +kernel) rfl,
  fun _ _ _ _ _ _ _ _ _ => r_cV [_, _] rfl (show zdec 300 1307 = some (.invokevirtual 148, 3) by decide +kernel) (show zst.lookup (300 * zKEY + 148) = some (1, 169, 2, 11) by decide +kernel) (by decide) rfl,
  fun _ _ _ _ _ _ => r_aload_n (show zdec 300 1310 = some (.aload_n 2, 1) by decide +kernel) rfl rfl,
  fun _ _ _ _ _ _ => r_aload_n (show zdec 300 1311 = some (.aload_n 0, 1) by decide +kernel) rfl rfl,
  fun _ _ _ _ _ _ => r_iload_n (show zdec 300 1312 = some (.iload_n 3, 1) by decide +kernel) rfl rfl,
  fun _ _ _ _ _ _ => r_iconst (show zdec 300 1313 = some (.iconst 1, 1) by decide +kernel) rfl rfl,
  fun _ _ _ _ _ _ _ _ => r_iadd (show zdec 300 1314 = some (.iadd, 1) by decide +kernel) rfl,
  fun _ _ _ _ _ _ _ _ => r_iald (show zdec 300 1315 = some (.iaload, 1) by decide +kernel) rfl,
  fun _ _ _ _ _ _ => r_aload_n (show zdec 300 1316 = some (.aload_n 0, 1) by decide +kernel) rfl rfl,
  fun _ _ _ _ _ _ => r_iload_n (show zdec 300 1317 = some (.iload_n 3, 1) by decide +kernel) rfl rfl,
  fun _ _ _ _ _ _ => r_iconst (show zdec 300 1318 = some (.iconst 2, 1) by decide +kernel) rfl rfl,
  fun _ _ _ _ _ _ _ _ => r_iadd (show zdec 300 1319 = some (.iadd, 1) by decide +kernel) rfl,
  fun _ _ _ _ _ _ _ _ => r_iald (show zdec 300 1320 = some (.iaload, 1) by decide +kernel) rfl,
  fun _ _ _ _ _ _ _ _ _ => r_cV [_, _] rfl (show zdec 300 1321 = some (.invokevirtual 151, 3) by decide +kernel) (show zst.lookup (300 * zKEY + 151) = some (1, 281, 2, 12) by decide +kernel) (by decide) rfl,
  fun _ _ _ _ _ _ _ _ => r_lcmp (show zdec 300 1324 = some (.lcmp, 1) by decide +kernel) rfl,
  fun _ _ _ _ _ _ _ => r_ifeq (show zdec 300 1325 = some (.ifCond .eq 237, 3) by decide +kernel) rfl rfl,
  fun _ _ _ _ _ _ => r_iconst (show zdec 300 1328 = some (.iconst 0, 1) by decide +kernel) rfl rfl,
  fun _ _ _ _ _ _ => r_iretb (show zdec 300 1329 = some (.ireturn, 1) by decide +kernel) (by decide +kernel),
  fun _ _ _ _ _ _ => r_aload_n (show zdec 300 1330 = some (.aload_n 1, 1) by decide +kernel) rfl rfl,
  fun _ _ _ _ _ _ => r_aload_n (show zdec 300 1331 = some (.aload_n 0, 1) by decide +kernel) rfl rfl,
  fun _ _ _ _ _ _ => r_iload_n (show zdec 300 1332 = some (.iload_n 3, 1) by decide +kernel) rfl rfl,
  fun _ _ _ _ _ _ => r_iconst (show zdec 300 1333 = some (.iconst 1, 1) by decide +kernel) rfl rfl,
  fun _ _ _ _ _ _ _ _ => r_iadd (show zdec 300 1334 = some (.iadd, 1) by decide +kernel) rfl,
  fun _ _ _ _ _ _ _ _ => r_iald (show zdec 300 1335 = some (.iaload, 1) by decide +kernel) rfl,
  fun _ _ _ _ _ _ => r_aload_n (show zdec 300 1336 = some (.aload_n 0, 1) by decide +kernel) rfl rfl,
  fun _ _ _ _ _ _ => r_iload_n (show zdec 300 1337 = some (.iload_n 3, 1) by decide +kernel) rfl rfl,
  fun _ _ _ _ _ _ => r_iconst (show zdec 300 1338 = some (.iconst 2, 1) by decide +kernel) rfl rfl,
  fun _ _ _ _ _ _ _ _ => r_iadd (show zdec 300 1339 = some (.iadd, 1) by decide +kernel) rfl,
  fun _ _ _ _ _ _ _ _ => r_iald (show zdec 300 1340 = some (.iaload, 1) by decide +kernel) rfl,
  fun _ _ _ _ _ _ _ _ _ => r_cV [_, _] rfl (show zdec 300 1341 = some (.invokevirtual 152, 3) by decide +kernel) (show zst.lookup (300 * zKEY + 152) = some (1, 170, 2, 11) by decide +kernel) (by decide) rfl,
  fun _ _ _ _ _ _ => r_aload_n (show zdec 300 1344 = some (.aload_n 2, 1) by decide +kernel) rfl rfl,
  fun _ _ _ _ _ _ => r_aload_n (show zdec 300 1345 = some (.aload_n 0, 1) by decide +kernel) rfl rfl,
  fun _ _ _ _ _ _ => r_iload_n (show zdec 300 1346 = some (.iload_n 3, 1) by decide +kernel) rfl rfl,
  fun _ _ _ _ _ _ => r_iconst (show zdec 300 1347 = some (.iconst 1, 1) by decide +kernel) rfl rfl,
  fun _ _ _ _ _ _ _ _ => r_iadd (show zdec 300 1348 = some (.iadd, 1) by decide +kernel) rfl,
  fun _ _ _ _ _ _ _ _ => r_iald (show zdec 300 1349 = some (.iaload, 1) by decide +kernel) rfl,
  fun _ _ _ _ _ _ => r_aload_n (show zdec 300 1350 = some (.aload_n 0, 1) by decide +kernel) rfl rfl,
  fun _ _ _ _ _ _ => r_iload_n (show zdec 300 1351 = some (.iload_n 3, 1) by decide +kernel) rfl rfl,
  fun _ _ _ _ _ _ => r_iconst (show zdec 300 1352 = some (.iconst 2, 1) by decide +kernel) rfl rfl,
  fun _ _ _ _ _ _ _ _ => r_iadd (show zdec 300 1353 = some (.iadd, 1) by decide +kernel) rfl,
  fun _ _ _ _ _ _ _ _ => r_iald (show zdec 300 1354 = some (.iaload, 1) by decide +kernel) rfl,
  fun _ _ _ _ _ _ _ _ _ => r_cV [_, _] rfl (show zdec 300 1355 = some (.invokevirtual 155, 3) by decide +kernel) (show zst.lookup (300 * zKEY + 155) = some (1, 284, 2, 12) by decide +kernel) (by decide) rfl,
  fun _ _ _ _ _ _ _ _ => r_lcmp (show zdec 300 1358 = some (.lcmp, 1) by decide +kernel) rfl,
  fun _ _ _ _ _ _ _ => r_ifeq (show zdec 300 1359 = some (.ifCond .eq 203, 3) by decide +kernel) rfl rfl,
  fun _ _ _ _ _ _ => r_iconst (show zdec 300 1362 = some (.iconst 0, 1) by decide +kernel) rfl rfl,
  fun _ _ _ _ _ _ => r_iretb (show zdec 300 1363 = some (.ireturn, 1) by decide +kernel) (by decide +kernel),
  fun _ _ _ _ _ _ => r_aload_n (show zdec 300 1364 = some (.aload_n 1, 1) by decide +kernel) rfl rfl,
  fun _ _ _ _ _ _ => r_aload_n (show zdec 300 1365 = some (.aload_n 0, 1) by decide +kernel) rfl rfl,
  fun _ _ _ _ _ _ => r_iload_n (show zdec 300 1366 = some (.iload_n 3, 1) by decide +kernel) rfl rfl,
  fun _ _ _ _ _ _ => r_iconst (show zdec 300 1367 = some (.iconst 1, 1) by decide +kernel) rfl rfl,
  fun _ _ _ _ _ _ _ _ => r_iadd (show zdec 300 1368 = some (.iadd, 1) by decide +kernel) rfl,
  fun _ _ _ _ _ _ _ _ => r_iald (show zdec 300 1369 = some (.iaload, 1) by decide +kernel) rfl,
  fun _ _ _ _ _ _ => r_aload_n (show zdec 300 1370 = some (.aload_n 0, 1) by decide +kernel) rfl rfl,
  fun _ _ _ _ _ _ => r_iload_n (show zdec 300 1371 = some (.iload_n 3, 1) by decide +kernel) rfl rfl,
  fun _ _ _ _ _ _ => r_iconst (show zdec 300 1372 = some (.iconst 2, 1) by decide +kernel) rfl rfl,
  fun _ _ _ _ _ _ _ _ => r_iadd (show zdec 300 1373 = some (.iadd, 1) by decide +kernel) rfl,
  fun _ _ _ _ _ _ _ _ => r_iald (show zdec 300 1374 = some (.iaload, 1) by decide +kernel) rfl,
  fun _ _ _ _ _ _ _ _ _ => r_cV [_, _] rfl (show zdec 300 1375 = some (.invokevirtual 156, 3) by decide +kernel) (show zst.lookup (300 * zKEY + 156) = some (1, 172, 2, 11) by decide +kernel) (by decide) rfl,
  fun _ _ _ _ _ _ => r_aload_n (show zdec 300 1378 = some (.aload_n 2, 1) by decide +kernel) rfl rfl,
  fun _ _ _ _ _ _ => r_aload_n (show zdec 300 1379 = some (.aload_n 0, 1) by decide +kernel) rfl rfl,
  fun _ _ _ _ _ _ => r_iload_n (show zdec 300 1380 = some (.iload_n 3, 1) by decide +kernel) rfl rfl,
  fun _ _ _ _ _ _ => r_iconst (show zdec 300 1381 = some (.iconst 1, 1) by decide +kernel) rfl rfl,
  fun _ _ _ _ _ _ _ _ => r_iadd (show zdec 300 1382 = some (.iadd, 1) by decide +kernel) rfl,
  fun _ _ _ _ _ _ _ _ => r_iald (show zdec 300 1383 = some (.iaload, 1) by decide +kernel) rfl,
  fun _ _ _ _ _ _ => r_aload_n (show zdec 300 1384 = some (.aload_n 0, 1) by decide +kernel) rfl rfl,
  fun _ _ _ _ _ _ => r_iload_n (show zdec 300 1385 = some (.iload_n 3, 1) by decide +kernel) rfl rfl,
  fun _ _ _ _ _ _ => r_iconst (show zdec 300 1386 = some (.iconst 2, 1) by decide +kernel) rfl rfl,
  fun _ _ _ _ _ _ _ _ => r_iadd (show zdec 300 1387 = some (.iadd, 1) by decide +kernel) rfl,
  fun _ _ _ _ _ _ _ _ => r_iald (show zdec 300 1388 = some (.iaload, 1) by decide +kernel) rfl,
  fun _ _ _ _ _ _ _ _ _ => r_cV [_, _] rfl (show zdec 300 1389 = some (.invokevirtual 159, 3) by decide +kernel) (show zst.lookup (300 * zKEY + 159) = some (1, 285, 2, 12) by decide +kernel) (by decide) rfl,
  fun _ _ _ _ _ _ _ _ => r_lcmp (show zdec 300 1392 = some (.lcmp, 1) by decide +kernel) rfl,
  fun _ _ _ _ _ _ _ => r_ifeq (show zdec 300 1393 = some (.ifCond .eq 169, 3) by decide +kernel) rfl rfl,
  fun _ _ _ _ _ _ => r_iconst (show zdec 300 1396 = some (.iconst 0, 1) by decide +kernel) rfl rfl,
  fun _ _ _ _ _ _ => r_iretb (show zdec 300 1397 = some (.ireturn, 1) by decide +kernel) (by decide +kernel),
  fun _ _ _ _ _ _ => r_aload_n (show zdec 300 1398 = some (.aload_n 1, 1) by decide +kernel) rfl rfl,
  fun _ _ _ _ _ _ => r_aload_n (show zdec 300 1399 = some (.aload_n 0, 1) by decide +kernel) rfl rfl,
  fun _ _ _ _ _ _ => r_iload_n (show zdec 300 1400 = some (.iload_n 3, 1) by decide +kernel) rfl rfl,
  fun _ _ _ _ _ _ => r_iconst (show zdec 300 1401 = some (.iconst 1, 1) by decide +kernel) rfl rfl,
  fun _ _ _ _ _ _ _ _ => r_iadd (show zdec 300 1402 = some (.iadd, 1) by decide +kernel) rfl,
  fun _ _ _ _ _ _ _ _ => r_iald (show zdec 300 1403 = some (.iaload, 1) by decide +kernel) rfl,
  fun _ _ _ _ _ _ => r_aload_n (show zdec 300 1404 = some (.aload_n 0, 1) by decide +kernel) rfl rfl,
  fun _ _ _ _ _ _ => r_iload_n (show zdec 300 1405 = some (.iload_n 3, 1) by decide +kernel) rfl rfl,
  fun _ _ _ _ _ _ => r_iconst (show zdec 300 1406 = some (.iconst 2, 1) by decide +kernel) rfl rfl,
  fun _ _ _ _ _ _ _ _ => r_iadd (show zdec 300 1407 = some (.iadd, 1) by decide +kernel) rfl,
  fun _ _ _ _ _ _ _ _ => r_iald (show zdec 300 1408 = some (.iaload, 1) by decide +kernel) rfl⟩
theorem zr_300_5 : (∀ (l0 l1 l2 l3 : Value) (o : Nat) (v0 : Value) (v1 : Value) (S : List Value) (h : zH), rn 300 1409 [l0, l1, l2, l3] (v1 :: v0 :: .ref o :: S) h = if zkd h o = 11 ∧ zsum S ≤ 8 then zcall (ev 174 [.ref o, v0, v1] h) (fun v h => rn 300 1412 [l0, l1, l2, l3] (zpush v S) h) else none) ∧
  (∀ (l0 l1 l2 l3 : Value) (S : List Value) (h : zH), rn 300 1412 [l0, l1, l2, l3] S h = ldA l2 (rn 300 1413 [l0, l1, l2, l3] (l2 :: S) h)) ∧
  (∀ (l0 l1 l2 l3 : Value) (S : List Value) (h : zH), rn 300 1413 [l0, l1, l2, l3] S h = ldA l0 (rn 300 1414 [l0, l1, l2, l3] (l0 :: S) h)) ∧
  (∀ (l0 l1 l2 : Value) (x : Int32) (S : List Value) (h : zH), rn 300 1414 [l0, l1, l2, .int x] S h = rn 300 1415 [l0, l1, l2, .int x] (.int x :: S) h) ∧
  (∀ (l0 l1 l2 l3 : Value) (S : List Value) (h : zH), rn 300 1415 [l0, l1, l2, l3] S h = rn 300 1416 [l0, l1, l2, l3] (.int (nI 1) :: S) h) ∧
  (∀ (l0 l1 l2 l3 : Value) (x : Int32) (y : Int32) (S : List Value) (h : zH), rn 300 1416 [l0, l1, l2, l3] (.int y :: .int x :: S) h = rn 300 1417 [l0, l1, l2, l3] (.int (x + y) :: S) h) ∧
  (∀ (l0 l1 l2 l3 : Value) (a : Nat) (j : Int32) (S : List Value) (h : zH), rn 300 1417 [l0, l1, l2, l3] (.int j :: .ref a :: S) h = zli h a 0 j fun x => rn 300 1418 [l0, l1, l2, l3] (.int x :: S) h) ∧
  (∀ (l0 l1 l2 l3 : Value) (S : List Value) (h : zH), rn 300 1418 [l0, l1, l2, l3] S h = ldA l0 (rn 300 1419 [l0, l1, l2, l3] (l0 :: S) h)) ∧
  (∀ (l0 l1 l2 : Value) (x : Int32) (S : List Value) (h : zH), rn 300 1419 [l0, l1, l2, .int x] S h = rn 300 1420 [l0, l1, l2, .int x] (.int x :: S) h) ∧
  (∀ (l0 l1 l2 l3 : Value) (S : List Value) (h : zH), rn 300 1420 [l0, l1, l2, l3] S h = rn 300 1421 [l0, l1, l2, l3] (.int (nI 2) :: S) h) ∧
  (∀ (l0 l1 l2 l3 : Value) (x : Int32) (y : Int32) (S : List Value) (h : zH), rn 300 1421 [l0, l1, l2, l3] (.int y :: .int x :: S) h = rn 300 1422 [l0, l1, l2, l3] (.int (x + y) :: S) h) ∧
  (∀ (l0 l1 l2 l3 : Value) (a : Nat) (j : Int32) (S : List Value) (h : zH), rn 300 1422 [l0, l1, l2, l3] (.int j :: .ref a :: S) h = zli h a 0 j fun x => rn 300 1423 [l0, l1, l2, l3] (.int x :: S) h) ∧
  (∀ (l0 l1 l2 l3 : Value) (o : Nat) (v0 : Value) (v1 : Value) (S : List Value) (h : zH), rn 300 1423 [l0, l1, l2, l3] (v1 :: v0 :: .ref o :: S) h = if zkd h o = 12 ∧ zsum S ≤ 8 then zcall (ev 286 [.ref o, v0, v1] h) (fun v h => rn 300 1426 [l0, l1, l2, l3] (zpush v S) h) else none) ∧
  (∀ (l0 l1 l2 l3 : Value) (x : Int32) (y : Int32) (S : List Value) (h : zH), rn 300 1426 [l0, l1, l2, l3] (.int y :: .int x :: S) h = if x = y then rn 300 1562 [l0, l1, l2, l3] S h else rn 300 1429 [l0, l1, l2, l3] S h) ∧
  (∀ (l0 l1 l2 l3 : Value) (S : List Value) (h : zH), rn 300 1429 [l0, l1, l2, l3] S h = rn 300 1430 [l0, l1, l2, l3] (.int (nI 0) :: S) h) ∧
  (∀ (l0 l1 l2 l3 : Value) (x : Int32) (h : zH), rn 300 1430 [l0, l1, l2, l3] [.int x] h = if x = nI 0 ∨ x = nI 1 then some (some (.int x), h) else none) ∧
  (∀ (l0 l1 l2 l3 : Value) (S : List Value) (h : zH), rn 300 1431 [l0, l1, l2, l3] S h = ldA l1 (rn 300 1432 [l0, l1, l2, l3] (l1 :: S) h)) ∧
  (∀ (l0 l1 l2 l3 : Value) (S : List Value) (h : zH), rn 300 1432 [l0, l1, l2, l3] S h = ldA l0 (rn 300 1433 [l0, l1, l2, l3] (l0 :: S) h)) ∧
  (∀ (l0 l1 l2 : Value) (x : Int32) (S : List Value) (h : zH), rn 300 1433 [l0, l1, l2, .int x] S h = rn 300 1434 [l0, l1, l2, .int x] (.int x :: S) h) ∧
  (∀ (l0 l1 l2 l3 : Value) (S : List Value) (h : zH), rn 300 1434 [l0, l1, l2, l3] S h = rn 300 1435 [l0, l1, l2, l3] (.int (nI 1) :: S) h) ∧
  (∀ (l0 l1 l2 l3 : Value) (x : Int32) (y : Int32) (S : List Value) (h : zH), rn 300 1435 [l0, l1, l2, l3] (.int y :: .int x :: S) h = rn 300 1436 [l0, l1, l2, l3] (.int (x + y) :: S) h) ∧
  (∀ (l0 l1 l2 l3 : Value) (a : Nat) (j : Int32) (S : List Value) (h : zH), rn 300 1436 [l0, l1, l2, l3] (.int j :: .ref a :: S) h = zli h a 0 j fun x => rn 300 1437 [l0, l1, l2, l3] (.int x :: S) h) ∧
  (∀ (l0 l1 l2 l3 : Value) (o : Nat) (v0 : Value) (S : List Value) (h : zH), rn 300 1437 [l0, l1, l2, l3] (v0 :: .ref o :: S) h = if zkd h o = 11 ∧ zsum S ≤ 8 then zcall (ev 175 [.ref o, v0] h) (fun v h => rn 300 1440 [l0, l1, l2, l3] (zpush v S) h) else none) ∧
  (∀ (l0 l1 l2 l3 : Value) (S : List Value) (h : zH), rn 300 1440 [l0, l1, l2, l3] S h = ldA l2 (rn 300 1441 [l0, l1, l2, l3] (l2 :: S) h)) ∧
  (∀ (l0 l1 l2 l3 : Value) (S : List Value) (h : zH), rn 300 1441 [l0, l1, l2, l3] S h = ldA l0 (rn 300 1442 [l0, l1, l2, l3] (l0 :: S) h)) ∧
  (∀ (l0 l1 l2 : Value) (x : Int32) (S : List Value) (h : zH), rn 300 1442 [l0, l1, l2, .int x] S h = rn 300 1443 [l0, l1, l2, .int x] (.int x :: S) h) ∧
  (∀ (l0 l1 l2 l3 : Value) (S : List Value) (h : zH), rn 300 1443 [l0, l1, l2, l3] S h = rn 300 1444 [l0, l1, l2, l3] (.int (nI 1) :: S) h) ∧
  (∀ (l0 l1 l2 l3 : Value) (x : Int32) (y : Int32) (S : List Value) (h : zH), rn 300 1444 [l0, l1, l2, l3] (.int y :: .int x :: S) h = rn 300 1445 [l0, l1, l2, l3] (.int (x + y) :: S) h) ∧
  (∀ (l0 l1 l2 l3 : Value) (a : Nat) (j : Int32) (S : List Value) (h : zH), rn 300 1445 [l0, l1, l2, l3] (.int j :: .ref a :: S) h = zli h a 0 j fun x => rn 300 1446 [l0, l1, l2, l3] (.int x :: S) h) ∧
  (∀ (l0 l1 l2 l3 : Value) (o : Nat) (v0 : Value) (S : List Value) (h : zH), rn 300 1446 [l0, l1, l2, l3] (v0 :: .ref o :: S) h = if zkd h o = 12 ∧ zsum S ≤ 8 then zcall (ev 287 [.ref o, v0] h) (fun v h => rn 300 1449 [l0, l1, l2, l3] (zpush v S) h) else none) ∧
  (∀ (l0 l1 l2 l3 : Value) (x : Int32) (y : Int32) (S : List Value) (h : zH), rn 300 1449 [l0, l1, l2, l3] (.int y :: .int x :: S) h = if x = y then rn 300 1562 [l0, l1, l2, l3] S h else rn 300 1452 [l0, l1, l2, l3] S h) ∧
  (∀ (l0 l1 l2 l3 : Value) (S : List Value) (h : zH), rn 300 1452 [l0, l1, l2, l3] S h = rn 300 1453 [l0, l1, l2, l3] (.int (nI 0) :: S) h) ∧
  (∀ (l0 l1 l2 l3 : Value) (x : Int32) (h : zH), rn 300 1453 [l0, l1, l2, l3] [.int x] h = if x = nI 0 ∨ x = nI 1 then some (some (.int x), h) else none) ∧
  (∀ (l0 l1 l2 l3 : Value) (S : List Value) (h : zH), rn 300 1454 [l0, l1, l2, l3] S h = ldA l1 (rn 300 1455 [l0, l1, l2, l3] (l1 :: S) h)) ∧
  (∀ (l0 l1 l2 l3 : Value) (S : List Value) (h : zH), rn 300 1455 [l0, l1, l2, l3] S h = ldA l0 (rn 300 1456 [l0, l1, l2, l3] (l0 :: S) h)) ∧
  (∀ (l0 l1 l2 : Value) (x : Int32) (S : List Value) (h : zH), rn 300 1456 [l0, l1, l2, .int x] S h = rn 300 1457 [l0, l1, l2, .int x] (.int x :: S) h) ∧
  (∀ (l0 l1 l2 l3 : Value) (S : List Value) (h : zH), rn 300 1457 [l0, l1, l2, l3] S h = rn 300 1458 [l0, l1, l2, l3] (.int (nI 1) :: S) h) ∧
  (∀ (l0 l1 l2 l3 : Value) (x : Int32) (y : Int32) (S : List Value) (h : zH), rn 300 1458 [l0, l1, l2, l3] (.int y :: .int x :: S) h = rn 300 1459 [l0, l1, l2, l3] (.int (x + y) :: S) h) ∧
  (∀ (l0 l1 l2 l3 : Value) (a : Nat) (j : Int32) (S : List Value) (h : zH), rn 300 1459 [l0, l1, l2, l3] (.int j :: .ref a :: S) h = zli h a 0 j fun x => rn 300 1460 [l0, l1, l2, l3] (.int x :: S) h) ∧
  (∀ (l0 l1 l2 l3 : Value) (S : List Value) (h : zH), rn 300 1460 [l0, l1, l2, l3] S h = ldA l0 (rn 300 1461 [l0, l1, l2, l3] (l0 :: S) h)) ∧
  (∀ (l0 l1 l2 : Value) (x : Int32) (S : List Value) (h : zH), rn 300 1461 [l0, l1, l2, .int x] S h = rn 300 1462 [l0, l1, l2, .int x] (.int x :: S) h) ∧
  (∀ (l0 l1 l2 l3 : Value) (S : List Value) (h : zH), rn 300 1462 [l0, l1, l2, l3] S h = rn 300 1463 [l0, l1, l2, l3] (.int (nI 2) :: S) h) ∧
  (∀ (l0 l1 l2 l3 : Value) (x : Int32) (y : Int32) (S : List Value) (h : zH), rn 300 1463 [l0, l1, l2, l3] (.int y :: .int x :: S) h = rn 300 1464 [l0, l1, l2, l3] (.int (x + y) :: S) h) ∧
  (∀ (l0 l1 l2 l3 : Value) (a : Nat) (j : Int32) (S : List Value) (h : zH), rn 300 1464 [l0, l1, l2, l3] (.int j :: .ref a :: S) h = zli h a 0 j fun x => rn 300 1465 [l0, l1, l2, l3] (.int x :: S) h) ∧
  (∀ (l0 l1 l2 l3 : Value) (o : Nat) (v0 : Value) (v1 : Value) (S : List Value) (h : zH), rn 300 1465 [l0, l1, l2, l3] (v1 :: v0 :: .ref o :: S) h = if zkd h o = 11 ∧ zsum S ≤ 8 then zcall (ev 177 [.ref o, v0, v1] h) (fun v h => rn 300 1468 [l0, l1, l2, l3] (zpush v S) h) else none) ∧
  (∀ (l0 l1 l2 l3 : Value) (S : List Value) (h : zH), rn 300 1468 [l0, l1, l2, l3] S h = ldA l2 (rn 300 1469 [l0, l1, l2, l3] (l2 :: S) h)) ∧
  (∀ (l0 l1 l2 l3 : Value) (S : List Value) (h : zH), rn 300 1469 [l0, l1, l2, l3] S h = ldA l0 (rn 300 1470 [l0, l1, l2, l3] (l0 :: S) h)) ∧
  (∀ (l0 l1 l2 : Value) (x : Int32) (S : List Value) (h : zH), rn 300 1470 [l0, l1, l2, .int x] S h = rn 300 1471 [l0, l1, l2, .int x] (.int x :: S) h) ∧
  (∀ (l0 l1 l2 l3 : Value) (S : List Value) (h : zH), rn 300 1471 [l0, l1, l2, l3] S h = rn 300 1472 [l0, l1, l2, l3] (.int (nI 1) :: S) h) ∧
  (∀ (l0 l1 l2 l3 : Value) (x : Int32) (y : Int32) (S : List Value) (h : zH), rn 300 1472 [l0, l1, l2, l3] (.int y :: .int x :: S) h = rn 300 1473 [l0, l1, l2, l3] (.int (x + y) :: S) h) ∧
  (∀ (l0 l1 l2 l3 : Value) (a : Nat) (j : Int32) (S : List Value) (h : zH), rn 300 1473 [l0, l1, l2, l3] (.int j :: .ref a :: S) h = zli h a 0 j fun x => rn 300 1474 [l0, l1, l2, l3] (.int x :: S) h) ∧
  (∀ (l0 l1 l2 l3 : Value) (S : List Value) (h : zH), rn 300 1474 [l0, l1, l2, l3] S h = ldA l0 (rn 300 1475 [l0, l1, l2, l3] (l0 :: S) h)) ∧
  (∀ (l0 l1 l2 : Value) (x : Int32) (S : List Value) (h : zH), rn 300 1475 [l0, l1, l2, .int x] S h = rn 300 1476 [l0, l1, l2, .int x] (.int x :: S) h) ∧
  (∀ (l0 l1 l2 l3 : Value) (S : List Value) (h : zH), rn 300 1476 [l0, l1, l2, l3] S h = rn 300 1477 [l0, l1, l2, l3] (.int (nI 2) :: S) h) ∧
  (∀ (l0 l1 l2 l3 : Value) (x : Int32) (y : Int32) (S : List Value) (h : zH), rn 300 1477 [l0, l1, l2, l3] (.int y :: .int x :: S) h = rn 300 1478 [l0, l1, l2, l3] (.int (x + y) :: S) h) ∧
  (∀ (l0 l1 l2 l3 : Value) (a : Nat) (j : Int32) (S : List Value) (h : zH), rn 300 1478 [l0, l1, l2, l3] (.int j :: .ref a :: S) h = zli h a 0 j fun x => rn 300 1479 [l0, l1, l2, l3] (.int x :: S) h) ∧
  (∀ (l0 l1 l2 l3 : Value) (o : Nat) (v0 : Value) (v1 : Value) (S : List Value) (h : zH), rn 300 1479 [l0, l1, l2, l3] (v1 :: v0 :: .ref o :: S) h = if zkd h o = 12 ∧ zsum S ≤ 8 then zcall (ev 288 [.ref o, v0, v1] h) (fun v h => rn 300 1482 [l0, l1, l2, l3] (zpush v S) h) else none) ∧
  (∀ (l0 l1 l2 l3 : Value) (x : Int32) (y : Int32) (S : List Value) (h : zH), rn 300 1482 [l0, l1, l2, l3] (.int y :: .int x :: S) h = if x = y then rn 300 1562 [l0, l1, l2, l3] S h else rn 300 1485 [l0, l1, l2, l3] S h) ∧
  (∀ (l0 l1 l2 l3 : Value) (S : List Value) (h : zH), rn 300 1485 [l0, l1, l2, l3] S h = rn 300 1486 [l0, l1, l2, l3] (.int (nI 0) :: S) h) ∧
  (∀ (l0 l1 l2 l3 : Value) (x : Int32) (h : zH), rn 300 1486 [l0, l1, l2, l3] [.int x] h = if x = nI 0 ∨ x = nI 1 then some (some (.int x), h) else none) ∧
  (∀ (l0 l1 l2 l3 : Value) (S : List Value) (h : zH), rn 300 1487 [l0, l1, l2, l3] S h = ldA l1 (rn 300 1488 [l0, l1, l2, l3] (l1 :: S) h)) ∧
  (∀ (l0 l1 l2 l3 : Value) (S : List Value) (h : zH), rn 300 1488 [l0, l1, l2, l3] S h = ldA l0 (rn 300 1489 [l0, l1, l2, l3] (l0 :: S) h)) ∧
  (∀ (l0 l1 l2 : Value) (x : Int32) (S : List Value) (h : zH), rn 300 1489 [l0, l1, l2, .int x] S h = rn 300 1490 [l0, l1, l2, .int x] (.int x :: S) h) ∧
  (∀ (l0 l1 l2 l3 : Value) (S : List Value) (h : zH), rn 300 1490 [l0, l1, l2, l3] S h = rn 300 1491 [l0, l1, l2, l3] (.int (nI 1) :: S) h) ∧
  (∀ (l0 l1 l2 l3 : Value) (x : Int32) (y : Int32) (S : List Value) (h : zH), rn 300 1491 [l0, l1, l2, l3] (.int y :: .int x :: S) h = rn 300 1492 [l0, l1, l2, l3] (.int (x + y) :: S) h) ∧
  (∀ (l0 l1 l2 l3 : Value) (a : Nat) (j : Int32) (S : List Value) (h : zH), rn 300 1492 [l0, l1, l2, l3] (.int j :: .ref a :: S) h = zli h a 0 j fun x => rn 300 1493 [l0, l1, l2, l3] (.int x :: S) h) ∧
  (∀ (l0 l1 l2 l3 : Value) (o : Nat) (v0 : Value) (S : List Value) (h : zH), rn 300 1493 [l0, l1, l2, l3] (v0 :: .ref o :: S) h = if zkd h o = 11 ∧ zsum S ≤ 8 then zcall (ev 179 [.ref o, v0] h) (fun v h => rn 300 1496 [l0, l1, l2, l3] (zpush v S) h) else none) ∧
  (∀ (l0 l1 l2 l3 : Value) (S : List Value) (h : zH), rn 300 1496 [l0, l1, l2, l3] S h = ldA l2 (rn 300 1497 [l0, l1, l2, l3] (l2 :: S) h)) ∧
  (∀ (l0 l1 l2 l3 : Value) (S : List Value) (h : zH), rn 300 1497 [l0, l1, l2, l3] S h = ldA l0 (rn 300 1498 [l0, l1, l2, l3] (l0 :: S) h)) ∧
  (∀ (l0 l1 l2 : Value) (x : Int32) (S : List Value) (h : zH), rn 300 1498 [l0, l1, l2, .int x] S h = rn 300 1499 [l0, l1, l2, .int x] (.int x :: S) h) ∧
  (∀ (l0 l1 l2 l3 : Value) (S : List Value) (h : zH), rn 300 1499 [l0, l1, l2, l3] S h = rn 300 1500 [l0, l1, l2, l3] (.int (nI 1) :: S) h) ∧
  (∀ (l0 l1 l2 l3 : Value) (x : Int32) (y : Int32) (S : List Value) (h : zH), rn 300 1500 [l0, l1, l2, l3] (.int y :: .int x :: S) h = rn 300 1501 [l0, l1, l2, l3] (.int (x + y) :: S) h) ∧
  (∀ (l0 l1 l2 l3 : Value) (a : Nat) (j : Int32) (S : List Value) (h : zH), rn 300 1501 [l0, l1, l2, l3] (.int j :: .ref a :: S) h = zli h a 0 j fun x => rn 300 1502 [l0, l1, l2, l3] (.int x :: S) h) ∧
  (∀ (l0 l1 l2 l3 : Value) (o : Nat) (v0 : Value) (S : List Value) (h : zH), rn 300 1502 [l0, l1, l2, l3] (v0 :: .ref o :: S) h = if zkd h o = 12 ∧ zsum S ≤ 8 then zcall (ev 289 [.ref o, v0] h) (fun v h => rn 300 1505 [l0, l1, l2, l3] (zpush v S) h) else none) ∧
  (∀ (l0 l1 l2 l3 : Value) (x : Int32) (y : Int32) (S : List Value) (h : zH), rn 300 1505 [l0, l1, l2, l3] (.int y :: .int x :: S) h = if x = y then rn 300 1562 [l0, l1, l2, l3] S h else rn 300 1508 [l0, l1, l2, l3] S h) ∧
  (∀ (l0 l1 l2 l3 : Value) (S : List Value) (h : zH), rn 300 1508 [l0, l1, l2, l3] S h = rn 300 1509 [l0, l1, l2, l3] (.int (nI 0) :: S) h) ∧
  (∀ (l0 l1 l2 l3 : Value) (x : Int32) (h : zH), rn 300 1509 [l0, l1, l2, l3] [.int x] h = if x = nI 0 ∨ x = nI 1 then some (some (.int x), h) else none) ∧
  (∀ (l0 l1 l2 l3 : Value) (S : List Value) (h : zH), rn 300 1510 [l0, l1, l2, l3] S h = ldA l1 (rn 300 1511 [l0, l1, l2, l3] (l1 :: S) h)) ∧
  (∀ (l0 l1 l2 l3 : Value) (o : Nat) (S : List Value) (h : zH), rn 300 1511 [l0, l1, l2, l3] (.ref o :: S) h = if zkd h o = 11 ∧ zsum S ≤ 8 then zcall (ev 181 [.ref o] h) (fun v h => rn 300 1514 [l0, l1, l2, l3] (zpush v S) h) else none) ∧
  (∀ (l0 l1 l2 l3 : Value) (S : List Value) (h : zH), rn 300 1514 [l0, l1, l2, l3] S h = ldA l2 (rn 300 1515 [l0, l1, l2, l3] (l2 :: S) h)) ∧
  (∀ (l0 l1 l2 l3 : Value) (o : Nat) (S : List Value) (h : zH), rn 300 1515 [l0, l1, l2, l3] (.ref o :: S) h = if zkd h o = 12 ∧ zsum S ≤ 8 then zcall (ev 290 [.ref o] h) (fun v h => rn 300 1518 [l0, l1, l2, l3] (zpush v S) h) else none) ∧
  (∀ (l0 l1 l2 l3 : Value) (x : Int32) (y : Int32) (S : List Value) (h : zH), rn 300 1518 [l0, l1, l2, l3] (.int y :: .int x :: S) h = if x = y then rn 300 1562 [l0, l1, l2, l3] S h else rn 300 1521 [l0, l1, l2, l3] S h) ∧
  (∀ (l0 l1 l2 l3 : Value) (S : List Value) (h : zH), rn 300 1521 [l0, l1, l2, l3] S h = rn 300 1522 [l0, l1, l2, l3] (.int (nI 0) :: S) h) ∧
  (∀ (l0 l1 l2 l3 : Value) (x : Int32) (h : zH), rn 300 1522 [l0, l1, l2, l3] [.int x] h = if x = nI 0 ∨ x = nI 1 then some (some (.int x), h) else none) ∧
  (∀ (l0 l1 l2 l3 : Value) (S : List Value) (h : zH), rn 300 1523 [l0, l1, l2, l3] S h = ldA l1 (rn 300 1524 [l0, l1, l2, l3] (l1 :: S) h)) ∧
  (∀ (l0 l1 l2 l3 : Value) (o : Nat) (S : List Value) (h : zH), rn 300 1524 [l0, l1, l2, l3] (.ref o :: S) h = if zkd h o = 11 ∧ zsum S ≤ 8 then zcall (ev 203 [.ref o] h) (fun v h => rn 300 1527 [l0, l1, l2, l3] (zpush v S) h) else none) ∧
  (∀ (l0 l1 l2 l3 : Value) (S : List Value) (h : zH), rn 300 1527 [l0, l1, l2, l3] S h = ldA l2 (rn 300 1528 [l0, l1, l2, l3] (l2 :: S) h)) ∧
  (∀ (l0 l1 l2 l3 : Value) (o : Nat) (S : List Value) (h : zH), rn 300 1528 [l0, l1, l2, l3] (.ref o :: S) h = if zkd h o = 12 ∧ zsum S ≤ 8 then zcall (ev 297 [.ref o] h) (fun v h => rn 300 1531 [l0, l1, l2, l3] (zpush v S) h) else none) ∧
  (∀ (l0 l1 l2 l3 : Value) (x : Int32) (y : Int32) (S : List Value) (h : zH), rn 300 1531 [l0, l1, l2, l3] (.int y :: .int x :: S) h = if x = y then rn 300 1562 [l0, l1, l2, l3] S h else rn 300 1534 [l0, l1, l2, l3] S h) ∧
  (∀ (l0 l1 l2 l3 : Value) (S : List Value) (h : zH), rn 300 1534 [l0, l1, l2, l3] S h = rn 300 1535 [l0, l1, l2, l3] (.int (nI 0) :: S) h) ∧
  (∀ (l0 l1 l2 l3 : Value) (x : Int32) (h : zH), rn 300 1535 [l0, l1, l2, l3] [.int x] h = if x = nI 0 ∨ x = nI 1 then some (some (.int x), h) else none) ∧
  (∀ (l0 l1 l2 l3 : Value) (S : List Value) (h : zH), rn 300 1536 [l0, l1, l2, l3] S h = ldA l1 (rn 300 1537 [l0, l1, l2, l3] (l1 :: S) h)) ∧
  (∀ (l0 l1 l2 l3 : Value) (o : Nat) (S : List Value) (h : zH), rn 300 1537 [l0, l1, l2, l3] (.ref o :: S) h = if zkd h o = 11 ∧ zsum S ≤ 8 then zcall (ev 204 [.ref o] h) (fun v h => rn 300 1540 [l0, l1, l2, l3] (zpush v S) h) else none) ∧
  (∀ (l0 l1 l2 l3 : Value) (S : List Value) (h : zH), rn 300 1540 [l0, l1, l2, l3] S h = ldA l2 (rn 300 1541 [l0, l1, l2, l3] (l2 :: S) h)) ∧
  (∀ (l0 l1 l2 l3 : Value) (o : Nat) (S : List Value) (h : zH), rn 300 1541 [l0, l1, l2, l3] (.ref o :: S) h = if zkd h o = 12 ∧ zsum S ≤ 8 then zcall (ev 298 [.ref o] h) (fun v h => rn 300 1544 [l0, l1, l2, l3] (zpush v S) h) else none) ∧
  (∀ (l0 l1 l2 l3 : Value) (x : Int32) (y : Int32) (S : List Value) (h : zH), rn 300 1544 [l0, l1, l2, l3] (.int y :: .int x :: S) h = if x = y then rn 300 1562 [l0, l1, l2, l3] S h else rn 300 1547 [l0, l1, l2, l3] S h) ∧
  (∀ (l0 l1 l2 l3 : Value) (S : List Value) (h : zH), rn 300 1547 [l0, l1, l2, l3] S h = rn 300 1548 [l0, l1, l2, l3] (.int (nI 0) :: S) h) ∧
  (∀ (l0 l1 l2 l3 : Value) (x : Int32) (h : zH), rn 300 1548 [l0, l1, l2, l3] [.int x] h = if x = nI 0 ∨ x = nI 1 then some (some (.int x), h) else none) ∧
  (∀ (l0 l1 l2 l3 : Value) (S : List Value) (h : zH), rn 300 1549 [l0, l1, l2, l3] S h = ldA l1 (rn 300 1550 [l0, l1, l2, l3] (l1 :: S) h)) ∧
  (∀ (l0 l1 l2 l3 : Value) (o : Nat) (S : List Value) (h : zH), rn 300 1550 [l0, l1, l2, l3] (.ref o :: S) h = if zkd h o = 11 ∧ zsum S ≤ 8 then zcall (ev 205 [.ref o] h) (fun v h => rn 300 1553 [l0, l1, l2, l3] (zpush v S) h) else none) ∧
  (∀ (l0 l1 l2 l3 : Value) (S : List Value) (h : zH), rn 300 1553 [l0, l1, l2, l3] S h = ldA l2 (rn 300 1554 [l0, l1, l2, l3] (l2 :: S) h)) ∧
  (∀ (l0 l1 l2 l3 : Value) (o : Nat) (S : List Value) (h : zH), rn 300 1554 [l0, l1, l2, l3] (.ref o :: S) h = if zkd h o = 12 ∧ zsum S ≤ 8 then zcall (ev 299 [.ref o] h) (fun v h => rn 300 1557 [l0, l1, l2, l3] (zpush v S) h) else none) ∧
  (∀ (l0 l1 l2 l3 : Value) (x : Int32) (y : Int32) (S : List Value) (h : zH), rn 300 1557 [l0, l1, l2, l3] (.int y :: .int x :: S) h = if x = y then rn 300 1562 [l0, l1, l2, l3] S h else rn 300 1560 [l0, l1, l2, l3] S h) ∧
  (∀ (l0 l1 l2 l3 : Value) (S : List Value) (h : zH), rn 300 1560 [l0, l1, l2, l3] S h = rn 300 1561 [l0, l1, l2, l3] (.int (nI 0) :: S) h) ∧
  (∀ (l0 l1 l2 l3 : Value) (x : Int32) (h : zH), rn 300 1561 [l0, l1, l2, l3] [.int x] h = if x = nI 0 ∨ x = nI 1 then some (some (.int x), h) else none) ∧
  (∀ (l0 l1 l2 : Value) (x : Int32) (S : List Value) (h : zH), rn 300 1562 [l0, l1, l2, .int x] S h = nl l2 (rn 300 1565 [l0, l1, l2, .int (x + (nI 5))] S h)) ∧
  (∀ (l0 l1 l2 l3 : Value) (S : List Value) (h : zH), rn 300 1565 [l0, l1, l2, l3] S h = rn 300 18 [l0, l1, l2, l3] S h) ∧
  (∀ (l0 l1 l2 l3 : Value) (S : List Value) (h : zH), rn 300 1568 [l0, l1, l2, l3] S h = rn 300 1569 [l0, l1, l2, l3] (.int (nI 1) :: S) h) ∧
  (∀ (l0 l1 l2 l3 : Value) (x : Int32) (h : zH), rn 300 1569 [l0, l1, l2, l3] [.int x] h = if x = nI 0 ∨ x = nI 1 then some (some (.int x), h) else none) := ⟨fun _ _ _ _ _ _ _ _ _ => r_cV [_, _] rfl (show zdec 300 1409 = some (.invokevirtual 160, 3) by decide +kernel) (show zst.lookup (300 * zKEY + 160) = some (1, 174, 2, 11) by decide +kernel) (by decide) rfl,
  fun _ _ _ _ _ _ => r_aload_n (show zdec 300 1412 = some (.aload_n 2, 1) by decide +kernel) rfl rfl,
  fun _ _ _ _ _ _ => r_aload_n (show zdec 300 1413 = some (.aload_n 0, 1) by decide +kernel) rfl rfl,
  fun _ _ _ _ _ _ => r_iload_n (show zdec 300 1414 = some (.iload_n 3, 1) by decide +kernel) rfl rfl,
  fun _ _ _ _ _ _ => r_iconst (show zdec 300 1415 = some (.iconst 1, 1) by decide +kernel) rfl rfl,
  fun _ _ _ _ _ _ _ _ => r_iadd (show zdec 300 1416 = some (.iadd, 1) by decide +kernel) rfl,
  fun _ _ _ _ _ _ _ _ => r_iald (show zdec 300 1417 = some (.iaload, 1) by decide +kernel) rfl,
  fun _ _ _ _ _ _ => r_aload_n (show zdec 300 1418 = some (.aload_n 0, 1) by decide +kernel) rfl rfl,
  fun _ _ _ _ _ _ => r_iload_n (show zdec 300 1419 = some (.iload_n 3, 1) by decide +kernel) rfl rfl,
  fun _ _ _ _ _ _ => r_iconst (show zdec 300 1420 = some (.iconst 2, 1) by decide +kernel) rfl rfl,
  fun _ _ _ _ _ _ _ _ => r_iadd (show zdec 300 1421 = some (.iadd, 1) by decide +kernel) rfl,
  fun _ _ _ _ _ _ _ _ => r_iald (show zdec 300 1422 = some (.iaload, 1) by decide +kernel) rfl,
  fun _ _ _ _ _ _ _ _ _ => r_cV [_, _] rfl (show zdec 300 1423 = some (.invokevirtual 163, 3) by decide +kernel) (show zst.lookup (300 * zKEY + 163) = some (1, 286, 2, 12) by decide +kernel) (by decide) rfl,
  fun _ _ _ _ _ _ _ _ => r_icmpeq (show zdec 300 1426 = some (.if_icmp .eq 136, 3) by decide +kernel) rfl rfl,
  fun _ _ _ _ _ _ => r_iconst (show zdec 300 1429 = some (.iconst 0, 1) by decide +kernel) rfl rfl,
  fun _ _ _ _ _ _ => r_iretb (show zdec 300 1430 = some (.ireturn, 1) by decide +kernel) (by decide +kernel),
  fun _ _ _ _ _ _ => r_aload_n (show zdec 300 1431 = some (.aload_n 1, 1) by decide +kernel) rfl rfl,
  fun _ _ _ _ _ _ => r_aload_n (show zdec 300 1432 = some (.aload_n 0, 1) by decide +kernel) rfl rfl,
  fun _ _ _ _ _ _ => r_iload_n (show zdec 300 1433 = some (.iload_n 3, 1) by decide +kernel) rfl rfl,
  fun _ _ _ _ _ _ => r_iconst (show zdec 300 1434 = some (.iconst 1, 1) by decide +kernel) rfl rfl,
  fun _ _ _ _ _ _ _ _ => r_iadd (show zdec 300 1435 = some (.iadd, 1) by decide +kernel) rfl,
  fun _ _ _ _ _ _ _ _ => r_iald (show zdec 300 1436 = some (.iaload, 1) by decide +kernel) rfl,
  fun _ _ _ _ _ _ _ _ => r_cV [_] rfl (show zdec 300 1437 = some (.invokevirtual 164, 3) by decide +kernel) (show zst.lookup (300 * zKEY + 164) = some (1, 175, 1, 11) by decide +kernel) (by decide) rfl,
  fun _ _ _ _ _ _ => r_aload_n (show zdec 300 1440 = some (.aload_n 2, 1) by decide +kernel) rfl rfl,
  fun _ _ _ _ _ _ => r_aload_n (show zdec 300 1441 = some (.aload_n 0, 1) by decide +kernel) rfl rfl,
  fun _ _ _ _ _ _ => r_iload_n (show zdec 300 1442 = some (.iload_n 3, 1) by decide +kernel) rfl rfl,
  fun _ _ _ _ _ _ => r_iconst (show zdec 300 1443 = some (.iconst 1, 1) by decide +kernel) rfl rfl,
  fun _ _ _ _ _ _ _ _ => r_iadd (show zdec 300 1444 = some (.iadd, 1) by decide +kernel) rfl,
  fun _ _ _ _ _ _ _ _ => r_iald (show zdec 300 1445 = some (.iaload, 1) by decide +kernel) rfl,
  fun _ _ _ _ _ _ _ _ => r_cV [_] rfl (show zdec 300 1446 = some (.invokevirtual 168, 3) by decide +kernel) (show zst.lookup (300 * zKEY + 168) = some (1, 287, 1, 12) by decide +kernel) (by decide) rfl,
  fun _ _ _ _ _ _ _ _ => r_icmpeq (show zdec 300 1449 = some (.if_icmp .eq 113, 3) by decide +kernel) rfl rfl,
  fun _ _ _ _ _ _ => r_iconst (show zdec 300 1452 = some (.iconst 0, 1) by decide +kernel) rfl rfl,
  fun _ _ _ _ _ _ => r_iretb (show zdec 300 1453 = some (.ireturn, 1) by decide +kernel) (by decide +kernel),
  fun _ _ _ _ _ _ => r_aload_n (show zdec 300 1454 = some (.aload_n 1, 1) by decide +kernel) rfl rfl,
  fun _ _ _ _ _ _ => r_aload_n (show zdec 300 1455 = some (.aload_n 0, 1) by decide +kernel) rfl rfl,
  fun _ _ _ _ _ _ => r_iload_n (show zdec 300 1456 = some (.iload_n 3, 1) by decide +kernel) rfl rfl,
  fun _ _ _ _ _ _ => r_iconst (show zdec 300 1457 = some (.iconst 1, 1) by decide +kernel) rfl rfl,
  fun _ _ _ _ _ _ _ _ => r_iadd (show zdec 300 1458 = some (.iadd, 1) by decide +kernel) rfl,
  fun _ _ _ _ _ _ _ _ => r_iald (show zdec 300 1459 = some (.iaload, 1) by decide +kernel) rfl,
  fun _ _ _ _ _ _ => r_aload_n (show zdec 300 1460 = some (.aload_n 0, 1) by decide +kernel) rfl rfl,
  fun _ _ _ _ _ _ => r_iload_n (show zdec 300 1461 = some (.iload_n 3, 1) by decide +kernel) rfl rfl,
  fun _ _ _ _ _ _ => r_iconst (show zdec 300 1462 = some (.iconst 2, 1) by decide +kernel) rfl rfl,
  fun _ _ _ _ _ _ _ _ => r_iadd (show zdec 300 1463 = some (.iadd, 1) by decide +kernel) rfl,
  fun _ _ _ _ _ _ _ _ => r_iald (show zdec 300 1464 = some (.iaload, 1) by decide +kernel) rfl,
  fun _ _ _ _ _ _ _ _ _ => r_cV [_, _] rfl (show zdec 300 1465 = some (.invokevirtual 169, 3) by decide +kernel) (show zst.lookup (300 * zKEY + 169) = some (1, 177, 2, 11) by decide +kernel) (by decide) rfl,
  fun _ _ _ _ _ _ => r_aload_n (show zdec 300 1468 = some (.aload_n 2, 1) by decide +kernel) rfl rfl,
  fun _ _ _ _ _ _ => r_aload_n (show zdec 300 1469 = some (.aload_n 0, 1) by decide +kernel) rfl rfl,
  fun _ _ _ _ _ _ => r_iload_n (show zdec 300 1470 = some (.iload_n 3, 1) by decide +kernel) rfl rfl,
  fun _ _ _ _ _ _ => r_iconst (show zdec 300 1471 = some (.iconst 1, 1) by decide +kernel) rfl rfl,
  fun _ _ _ _ _ _ _ _ => r_iadd (show zdec 300 1472 = some (.iadd, 1) by decide +kernel) rfl,
  fun _ _ _ _ _ _ _ _ => r_iald (show zdec 300 1473 = some (.iaload, 1) by decide +kernel) rfl,
  fun _ _ _ _ _ _ => r_aload_n (show zdec 300 1474 = some (.aload_n 0, 1) by decide +kernel) rfl rfl,
  fun _ _ _ _ _ _ => r_iload_n (show zdec 300 1475 = some (.iload_n 3, 1) by decide +kernel) rfl rfl,
  fun _ _ _ _ _ _ => r_iconst (show zdec 300 1476 = some (.iconst 2, 1) by decide +kernel) rfl rfl,
  fun _ _ _ _ _ _ _ _ => r_iadd (show zdec 300 1477 = some (.iadd, 1) by decide +kernel) rfl,
  fun _ _ _ _ _ _ _ _ => r_iald (show zdec 300 1478 = some (.iaload, 1) by decide +kernel) rfl,
  fun _ _ _ _ _ _ _ _ _ => r_cV [_, _] rfl (show zdec 300 1479 = some (.invokevirtual 172, 3) by decide +kernel) (show zst.lookup (300 * zKEY + 172) = some (1, 288, 2, 12) by decide +kernel) (by decide) rfl,
  fun _ _ _ _ _ _ _ _ => r_icmpeq (show zdec 300 1482 = some (.if_icmp .eq 80, 3) by decide +kernel) rfl rfl,
  fun _ _ _ _ _ _ => r_iconst (show zdec 300 1485 = some (.iconst 0, 1) by decide +kernel) rfl rfl,
  fun _ _ _ _ _ _ => r_iretb (show zdec 300 1486 = some (.ireturn, 1) by decide +kernel) (by decide +kernel),
  fun _ _ _ _ _ _ => r_aload_n (show zdec 300 1487 = some (.aload_n 1, 1) by decide +kernel) rfl rfl,
  fun _ _ _ _ _ _ => r_aload_n (show zdec 300 1488 = some (.aload_n 0, 1) by decide +kernel) rfl rfl,
  fun _ _ _ _ _ _ => r_iload_n (show zdec 300 1489 = some (.iload_n 3, 1) by decide +kernel) rfl rfl,
  fun _ _ _ _ _ _ => r_iconst (show zdec 300 1490 = some (.iconst 1, 1) by decide +kernel) rfl rfl,
  fun _ _ _ _ _ _ _ _ => r_iadd (show zdec 300 1491 = some (.iadd, 1) by decide +kernel) rfl,
  fun _ _ _ _ _ _ _ _ => r_iald (show zdec 300 1492 = some (.iaload, 1) by decide +kernel) rfl,
  fun _ _ _ _ _ _ _ _ => r_cV [_] rfl (show zdec 300 1493 = some (.invokevirtual 173, 3) by decide +kernel) (show zst.lookup (300 * zKEY + 173) = some (1, 179, 1, 11) by decide +kernel) (by decide) rfl,
  fun _ _ _ _ _ _ => r_aload_n (show zdec 300 1496 = some (.aload_n 2, 1) by decide +kernel) rfl rfl,
  fun _ _ _ _ _ _ => r_aload_n (show zdec 300 1497 = some (.aload_n 0, 1) by decide +kernel) rfl rfl,
  fun _ _ _ _ _ _ => r_iload_n (show zdec 300 1498 = some (.iload_n 3, 1) by decide +kernel) rfl rfl,
  fun _ _ _ _ _ _ => r_iconst (show zdec 300 1499 = some (.iconst 1, 1) by decide +kernel) rfl rfl,
  fun _ _ _ _ _ _ _ _ => r_iadd (show zdec 300 1500 = some (.iadd, 1) by decide +kernel) rfl,
  fun _ _ _ _ _ _ _ _ => r_iald (show zdec 300 1501 = some (.iaload, 1) by decide +kernel) rfl,
  fun _ _ _ _ _ _ _ _ => r_cV [_] rfl (show zdec 300 1502 = some (.invokevirtual 176, 3) by decide +kernel) (show zst.lookup (300 * zKEY + 176) = some (1, 289, 1, 12) by decide +kernel) (by decide) rfl,
  fun _ _ _ _ _ _ _ _ => r_icmpeq (show zdec 300 1505 = some (.if_icmp .eq 57, 3) by decide +kernel) rfl rfl,
  fun _ _ _ _ _ _ => r_iconst (show zdec 300 1508 = some (.iconst 0, 1) by decide +kernel) rfl rfl,
  fun _ _ _ _ _ _ => r_iretb (show zdec 300 1509 = some (.ireturn, 1) by decide +kernel) (by decide +kernel),
  fun _ _ _ _ _ _ => r_aload_n (show zdec 300 1510 = some (.aload_n 1, 1) by decide +kernel) rfl rfl,
  fun _ _ _ _ _ _ _ => r_cV [] rfl (show zdec 300 1511 = some (.invokevirtual 177, 3) by decide +kernel) (show zst.lookup (300 * zKEY + 177) = some (1, 181, 0, 11) by decide +kernel) (by decide) rfl,
  fun _ _ _ _ _ _ => r_aload_n (show zdec 300 1514 = some (.aload_n 2, 1) by decide +kernel) rfl rfl,
  fun _ _ _ _ _ _ _ => r_cV [] rfl (show zdec 300 1515 = some (.invokevirtual 180, 3) by decide +kernel) (show zst.lookup (300 * zKEY + 180) = some (1, 290, 0, 12) by decide +kernel) (by decide) rfl,
  fun _ _ _ _ _ _ _ _ => r_icmpeq (show zdec 300 1518 = some (.if_icmp .eq 44, 3) by decide +kernel) rfl rfl,
  fun _ _ _ _ _ _ => r_iconst (show zdec 300 1521 = some (.iconst 0, 1) by decide +kernel) rfl rfl,
  fun _ _ _ _ _ _ => r_iretb (show zdec 300 1522 = some (.ireturn, 1) by decide +kernel) (by decide +kernel),
  fun _ _ _ _ _ _ => r_aload_n (show zdec 300 1523 = some (.aload_n 1, 1) by decide +kernel) rfl rfl,
  fun _ _ _ _ _ _ _ => r_cV [] rfl (show zdec 300 1524 = some (.invokevirtual 181, 3) by decide +kernel) (show zst.lookup (300 * zKEY + 181) = some (1, 203, 0, 11) by decide +kernel) (by decide) rfl,
  fun _ _ _ _ _ _ => r_aload_n (show zdec 300 1527 = some (.aload_n 2, 1) by decide +kernel) rfl rfl,
  fun _ _ _ _ _ _ _ => r_cV [] rfl (show zdec 300 1528 = some (.invokevirtual 184, 3) by decide +kernel) (show zst.lookup (300 * zKEY + 184) = some (1, 297, 0, 12) by decide +kernel) (by decide) rfl,
  fun _ _ _ _ _ _ _ _ => r_icmpeq (show zdec 300 1531 = some (.if_icmp .eq 31, 3) by decide +kernel) rfl rfl,
  fun _ _ _ _ _ _ => r_iconst (show zdec 300 1534 = some (.iconst 0, 1) by decide +kernel) rfl rfl,
  fun _ _ _ _ _ _ => r_iretb (show zdec 300 1535 = some (.ireturn, 1) by decide +kernel) (by decide +kernel),
  fun _ _ _ _ _ _ => r_aload_n (show zdec 300 1536 = some (.aload_n 1, 1) by decide +kernel) rfl rfl,
  fun _ _ _ _ _ _ _ => r_cV [] rfl (show zdec 300 1537 = some (.invokevirtual 185, 3) by decide +kernel) (show zst.lookup (300 * zKEY + 185) = some (1, 204, 0, 11) by decide +kernel) (by decide) rfl,
  fun _ _ _ _ _ _ => r_aload_n (show zdec 300 1540 = some (.aload_n 2, 1) by decide +kernel) rfl rfl,
  fun _ _ _ _ _ _ _ => r_cV [] rfl (show zdec 300 1541 = some (.invokevirtual 188, 3) by decide +kernel) (show zst.lookup (300 * zKEY + 188) = some (1, 298, 0, 12) by decide +kernel) (by decide) rfl,
  fun _ _ _ _ _ _ _ _ => r_icmpeq (show zdec 300 1544 = some (.if_icmp .eq 18, 3) by decide +kernel) rfl rfl,
  fun _ _ _ _ _ _ => r_iconst (show zdec 300 1547 = some (.iconst 0, 1) by decide +kernel) rfl rfl,
  fun _ _ _ _ _ _ => r_iretb (show zdec 300 1548 = some (.ireturn, 1) by decide +kernel) (by decide +kernel),
  fun _ _ _ _ _ _ => r_aload_n (show zdec 300 1549 = some (.aload_n 1, 1) by decide +kernel) rfl rfl,
  fun _ _ _ _ _ _ _ => r_cV [] rfl (show zdec 300 1550 = some (.invokevirtual 189, 3) by decide +kernel) (show zst.lookup (300 * zKEY + 189) = some (1, 205, 0, 11) by decide +kernel) (by decide) rfl,
  fun _ _ _ _ _ _ => r_aload_n (show zdec 300 1553 = some (.aload_n 2, 1) by decide +kernel) rfl rfl,
  fun _ _ _ _ _ _ _ => r_cV [] rfl (show zdec 300 1554 = some (.invokevirtual 192, 3) by decide +kernel) (show zst.lookup (300 * zKEY + 192) = some (1, 299, 0, 12) by decide +kernel) (by decide) rfl,
  fun _ _ _ _ _ _ _ _ => r_icmpeq (show zdec 300 1557 = some (.if_icmp .eq 5, 3) by decide +kernel) rfl rfl,
  fun _ _ _ _ _ _ => r_iconst (show zdec 300 1560 = some (.iconst 0, 1) by decide +kernel) rfl rfl,
  fun _ _ _ _ _ _ => r_iretb (show zdec 300 1561 = some (.ireturn, 1) by decide +kernel) (by decide +kernel),
  fun _ _ _ _ _ _ => r_iinc (show zdec 300 1562 = some (.iinc 3 5, 3) by decide +kernel) rfl rfl rfl (Nat.le_of_ble_eq_true rfl) rfl rfl,
  fun _ _ _ _ _ _ => r_goto (show zdec 300 1565 = some (.goto (-1547), 3) by decide +kernel) rfl,
  fun _ _ _ _ _ _ => r_iconst (show zdec 300 1568 = some (.iconst 1, 1) by decide +kernel) rfl rfl,
  fun _ _ _ _ _ _ => r_iretb (show zdec 300 1569 = some (.ireturn, 1) by decide +kernel) (by decide +kernel)⟩
theorem zl_300_18 : ∀ (l0 l1 l2 : Value) (x : Int32) (S : List Value) (h : zH), rn 300 18 [l0, l1, l2, .int x] S h = rn 300 19 [l0, l1, l2, .int x] (.int x :: S) h := fun _ _ _ _ _ _ => r_iload_n (show zdec 300 18 = some (.iload_n 3, 1) by decide +kernel) rfl rfl
theorem ze_300 : ∀ (a0 : Nat) (h : zH), ev 300 [.ref a0] h = rn 300 0 [.ref a0, .float 0, .float 0, .float 0] [] h := fun _ _ => if_pos (Nat.le_of_ble_eq_true rfl)

