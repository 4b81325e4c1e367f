/-! THE ABSTRACT MACHINE: one step as a function, over a heap that is a function of addresses; runs by fuel; 'rn' is what a run comes to, 'ev' what a call does. Addresses below 100 are the statics' cells (the script, static arrays, texts of constants), 100 + i is the i-th cell made since the law began. -/
abbrev zC : Type := (Nat × vp_A) ⊕ (Nat × List Value)
abbrev zH : Type := Nat × Nat × (Nat → zC)
abbrev zRet : Type := Option Value × zH
abbrev zCfg : Type := Nat × List Value × List Value × zH
abbrev zCal : Type := Nat × List Value × Nat × List Value × List Value × zH
abbrev zStp : Type := Option (zCfg ⊕ zRet ⊕ zCal)
abbrev zRes : Type := Option zRet
def zNo : zC := .inr (99, [])
def zup (f : Nat → zC) (a : Nat) (c : zC) : Nat → zC := fun q => if q = a then c else f q
def zset (h : zH) (a : Nat) (c : zC) : zH := (h.1, h.2.1, zup h.2.2 a c)
def znew (h : zH) (c : zC) (n : Nat) : zH := (h.1 + 1, h.2.1 + n, zup h.2.2 (100 + h.1) c)
def zgo (pc : Nat) (L S : List Value) (h : zH) : zStp := some (.inl (pc, L, S, h))
def zisI : Value → Bool
  | .int _ => true
  | _ => false
def zisJ : Value → Bool
  | .long _ => true
  | _ => false
def zisA : Value → Bool
  | .ref _ => true
  | .null => true
  | .retAddr _ => true
  | _ => false
/-- no long begins just ahead of a local -/
def znj (L : List Value) : Nat → Bool
  | 0 => true
  | k + 1 => match L[k]? with
    | some v => v.category == 1
    | none => true
def zld (ok : Value → Bool) (L : List Value) (k : Nat) (f : Value → zStp) : zStp := match L[k]? with
  | some v => if ok v = true then f v else none
  | none => none
def zst1 (ok : Value → Bool) (L : List Value) (k : Nat) (S : List Value) (f : List Value → List Value → zStp) : zStp := match S with
  | v :: r => if (ok v && znj L k && decide (k < L.length)) = true then f (L.set k v) r else none
  | [] => none
def zst2 (L : List Value) (k : Nat) (S : List Value) (f : List Value → List Value → zStp) : zStp := match S with
  | v :: r => if (zisJ v && znj L k && decide (k + 1 < L.length)) = true then f ((L.set k v).set (k + 1) (.float 0)) r else none
  | [] => none
def zI1 (S : List Value) (f : Int32 → List Value → zStp) : zStp := match S with
  | .int x :: r => f x r
  | _ => none
def zI2 (S : List Value) (f : Int32 → Int32 → List Value → zStp) : zStp := match S with
  | .int y :: .int x :: r => f x y r
  | _ => none
def zJ1 (S : List Value) (f : Int64 → List Value → zStp) : zStp := match S with
  | .long x :: r => f x r
  | _ => none
def zJ2 (S : List Value) (f : Int64 → Int64 → List Value → zStp) : zStp := match S with
  | .long y :: .long x :: r => f x y r
  | _ => none
def zR1 (S : List Value) (f : Nat → List Value → zStp) : zStp := match S with
  | .ref a :: r => f a r
  | _ => none
def zRI (S : List Value) (f : Nat → Int32 → List Value → zStp) : zStp := match S with
  | .int i :: .ref a :: r => f a i r
  | _ => none
def ztg (pc : Nat) (off : Int) (f : Nat → zStp) : zStp := if 0 ≤ (pc : Int) + off then f ((pc : Int) + off).toNat else none
def zcmp : Jvm.ClassFile.Cond → Int32 → Int32 → Bool
  | .eq, x, y => decide (x = y)
  | .ne, x, y => decide (¬ x = y)
  | .lt, x, y => decide (x < y)
  | .ge, x, y => decide (y ≤ x)
  | .gt, x, y => decide (y < x)
  | .le, x, y => decide (x ≤ y)
def zin (i : Int32) (n : Nat) : Bool := decide (¬ (i < 0 ∨ n ≤ i.toNatClampNeg))
section
variable {β : Type}
/-- reads and writes of the heap -/
def zgf (h : zH) (a ci k : Nat) (f : Value → Option β) : Option β := match h.2.2 a with
  | .inr (c, fs) => if c = ci then (match fs[k]? with
    | some v => f v
    | none => none) else none
  | .inl _ => none
def zfit (ty : FieldType) (v : Value) : Bool := match ty, v with
  | .int, .int _ => true
  | .long, .long _ => true
  | .boolean, .int x => x == 0 || x == 1
  | .byte, .int x => x == 0
  | .object _, .ref _ => true
  | .object _, .null => true
  | .array _, .ref _ => true
  | .array _, .null => true
  | _, _ => false
def zpf (h : zH) (a ci k : Nat) (v : Value) (f : zH → Option β) : Option β := match h.2.2 a with
  | .inr (c, fs) => if c = ci ∧ k < fs.length ∧ 100 ≤ a ∧ zfit ((ztl.getD ci (fun _ => .int)) k) v = true then f (zset h a (.inr (c, fs.set k v))) else none
  | .inl _ => none
def zal (h : zH) (a : Nat) (f : Int32 → Option β) : Option β := match h.2.2 a with
  | .inl (t, m, _) => if t < 8 then f (Int32.ofNat m) else none
  | .inr _ => none
def zli (h : zH) (a t : Nat) (i : Int32) (f : Int32 → Option β) : Option β := match h.2.2 a with
  | .inl (t2, m, .inl g) => if t2 = t ∧ zin i m = true then f (g i.toNatClampNeg) else none
  | _ => none
def zlj (h : zH) (a : Nat) (i : Int32) (f : Int64 → Option β) : Option β := match h.2.2 a with
  | .inl (t2, m, .inr (.inl g)) => if t2 = 1 ∧ zin i m = true then f (g i.toNatClampNeg) else none
  | _ => none
def zlq (h : zH) (a : Nat) (i : Int32) (f : Option Nat → Option β) : Option β := match h.2.2 a with
  | .inl (t2, m, .inr (.inr (.inr (.inr g)))) => if (4 ≤ t2 ∧ t2 < 8) ∧ zin i m = true then f (g i.toNatClampNeg) else none
  | _ => none
def zsi (h : zH) (a t : Nat) (i x : Int32) (f : zH → Option β) : Option β := match h.2.2 a with
  | .inl (t2, m, .inl g) => if t2 = t ∧ zin i m = true ∧ 100 ≤ a then f (zset h a (.inl (t2, m, .inl (upd g i.toNatClampNeg x)))) else none
  | _ => none
def zsj (h : zH) (a : Nat) (i : Int32) (x : Int64) (f : zH → Option β) : Option β := match h.2.2 a with
  | .inl (t2, m, .inr (.inl g)) => if t2 = 1 ∧ zin i m = true ∧ 100 ≤ a then f (zset h a (.inl (t2, m, .inr (.inl (vp_updL g i.toNatClampNeg x))))) else none
  | _ => none
def zkd (h : zH) (a : Nat) : Nat := match h.2.2 a with
  | .inr (c, _) => c
  | .inl (t, _) => 1000 + t
/-- the tag of the arrays that may hold objects of a class -/
def zotg (c : Nat) : Nat := ([(10, 4), (7, 5), (1, 6), (13, 7)].lookup c).getD 0
def zsq (h : zH) (a : Nat) (i : Int32) (v : Value) (f : zH → Option β) : Option β := match h.2.2 a with
  | .inl (t2, m, .inr (.inr (.inr (.inr g)))) => if (4 ≤ t2 ∧ t2 < 8) ∧ zin i m = true ∧ 100 ≤ a then (match v with
    | .ref b => if zotg (zkd h b) = t2 then f (zset h a (.inl (t2, m, .inr (.inr (.inr (.inr (va_up g i.toNatClampNeg (some b)))))))) else none
    | .null => f (zset h a (.inl (t2, m, .inr (.inr (.inr (.inr (va_up g i.toNatClampNeg none)))))))
    | _ => none) else none
  | _ => none
def zcpI (h : zH) (s : Nat) (sp : Int32) (d : Nat) (dp n : Int32) (f : zH → Option β) : Option β := match h.2.2 s, h.2.2 d with
  | .inl (t1, n1, .inl g1), .inl (t2, n2, .inl g2) => if t1 = t2 ∧ (t1 = 0 ∨ t1 = 3 ∧ ∀ i : Nat, i < n.toNatClampNeg → fits .byte (.int (g1 (sp.toNatClampNeg + i))) = true) ∧ 100 ≤ d ∧ ¬ sp < 0 ∧ ¬ dp < 0 ∧ ¬ n < 0 ∧ sp.toNatClampNeg + n.toNatClampNeg ≤ n1 ∧ dp.toNatClampNeg + n.toNatClampNeg ≤ n2 then f (zset h d (.inl (t2, n2, .inl (va_cpy g1 g2 sp.toNatClampNeg dp.toNatClampNeg n.toNatClampNeg)))) else none
  | .inl (t1, n1, .inr (.inl g1)), .inl (t2, n2, .inr (.inl g2)) => if t1 = 1 ∧ t2 = 1 ∧ 100 ≤ s ∧ 100 ≤ d ∧ ¬ sp < 0 ∧ ¬ dp < 0 ∧ ¬ n < 0 ∧ sp.toNatClampNeg + n.toNatClampNeg ≤ n1 ∧ dp.toNatClampNeg + n.toNatClampNeg ≤ n2 then f (zset h d (.inl (t2, n2, .inr (.inl (va_cpy g1 g2 sp.toNatClampNeg dp.toNatClampNeg n.toNatClampNeg))))) else none
  | _, _ => none
end
def zsum (S : List Value) : Nat := (S.map fun v => v.category).sum
def zdv : FieldType → Value
  | .int => .int 0
  | .boolean => .int 0
  | .byte => .int 0
  | .long => .long 0
  | _ => .null
def zdef (ci : Nat) : List Value := match zcl[ci]? with
  | some q => (List.range q.2.2).map fun k => zdv ((ztl.getD ci (fun _ => .int)) k)
  | none => []
def zaty : ArrayType → Option Nat
  | .int => some 0
  | .long => some 1
  | .char => some 2
  | .byte => some 3
  | _ => none
def zz0 (t : Nat) : (Nat → Int32) ⊕ (Nat → Int64) ⊕ (Nat → UInt32) ⊕ (Nat → UInt64) ⊕ (Nat → Option Nat) := if t = 1 then .inr (.inl fun _ => 0) else .inl fun _ => 0
/-- may a method write a field: one that isn't final, or its own class's in a constructor -/
def zpok (M ci k : Nat) : Bool := match zcl[ci]? with
  | some q => !(q.2.1 k).2.2.2 || ((zmy M).name == "<init>" && (q.2.1 k).1 == (zmy M).cls)
  | none => false
def zrok (M : Nat) (v : Option Value) : Bool := match zmr M, v with
  | none, none => true
  | some .int, some (.int _) => true
  | some .boolean, some (.int x) => x == 0 || x == 1
  | some .byte, some (.int x) => x == 0
  | some .char, some (.int x) => decide (narrow .char (.int x) = .int x)
  | some .long, some (.long _) => true
  | some (.object _), some (.ref _) => true
  | some (.object _), some .null => true
  | some (.array _), some (.ref _) => true
  | some (.array _), some .null => true
  | _, _ => false
def zrt (M : Nat) (v : Option Value) (h : zH) : zStp := if zrok M v = true then some (.inr (.inl (v, h))) else none
def zcal (y : Nat) (args : List Value) (pc : Nat) (L r : List Value) (h : zH) : zStp := if zsum r ≤ 8 then some (.inr (.inr (y, args, pc, L, r, h))) else none
def zmath (rc : Nat) (S : List Value) (f : Value → List Value → zStp) : zStp := match rc with
  | 0 => zI2 S fun x y r => f (.int (if x < y then y else x)) r
  | 1 => zI2 S fun x y r => f (.int (if y < x then y else x)) r
  | 2 => zJ2 S fun x y r => f (.long (if y < x then x else y)) r
  | 3 => zJ2 S fun x y r => f (.long (if y < x then y else x)) r
  | 4 => zJ1 S fun x r => f (.long (if 0 < x then x else -x)) r
  | _ => none
def zinv (op : Nat) (M pc : Nat) (L S : List Value) (h : zH) (i : Nat) : zStp := match zst.lookup (M * zKEY + i) with
  | some (8, _, _, _) => if op = 0 then (match S with
    | .int n :: .int dp :: .ref d :: .int sp :: .ref s :: r => if zsum r ≤ 8 then zcpI h s sp d dp n fun h => zgo (pc + 3) L r h else none
    | _ => none) else none
  | some (7, _, _, _) => if op = 1 then (match S with
    | .ref _ :: r => if zsum r ≤ 8 then zgo (pc + 3) L r h else none
    | _ => none) else none
  | some (9, _, _, rc) => if op = 0 then zmath rc S fun v r => if zsum r ≤ 8 then zgo (pc + 3) L (v :: r) h else none else none
  | some (k, y, n, rc) => if n ≤ S.length then (
      if (k = 0 ∨ k = 3) ∧ op = 0 then zcal y (S.take n).reverse (pc + 3) L (S.drop n) h
      else match S.drop n with
        | .ref a :: r => if (k = 2 ∨ k = 4) ∧ op = 1 then zcal y (.ref a :: (S.take n).reverse) (pc + 3) L r h
          else if ((k = 1 ∨ k = 5) ∧ op = 2 ∨ k = 6 ∧ op = 1) ∧ zkd h a = rc then zcal y (.ref a :: (S.take n).reverse) (pc + 3) L r h else none
        | _ => none) else none
  | none => none
def zins (M pc n : Nat) (L S : List Value) (h : zH) : Instr → zStp
  | .iconst k => zgo (pc + n) L (.int (Int32.ofInt k) :: S) h
  | .bipush k => zgo (pc + n) L (.int (Int8.ofInt k).toInt32 :: S) h
  | .sipush k => zgo (pc + n) L (.int (Int16.ofInt k).toInt32 :: S) h
  | .lconst k => zgo (pc + n) L (.long (Int64.ofNat k) :: S) h
  | .aconst_null => zgo (pc + n) L (.null :: S) h
  | .iload k => zld zisI L k fun v => zgo (pc + n) L (v :: S) h
  | .iload_n k => zld zisI L k fun v => zgo (pc + n) L (v :: S) h
  | .lload k => zld zisJ L k fun v => zgo (pc + n) L (v :: S) h
  | .lload_n k => zld zisJ L k fun v => zgo (pc + n) L (v :: S) h
  | .aload k => zld zisA L k fun v => zgo (pc + n) L (v :: S) h
  | .aload_n k => zld zisA L k fun v => zgo (pc + n) L (v :: S) h
  | .istore k => zst1 zisI L k S fun L S => zgo (pc + n) L S h
  | .istore_n k => zst1 zisI L k S fun L S => zgo (pc + n) L S h
  | .lstore k => zst2 L k S fun L S => zgo (pc + n) L S h
  | .lstore_n k => zst2 L k S fun L S => zgo (pc + n) L S h
  | .astore k => zst1 zisA L k S fun L S => zgo (pc + n) L S h
  | .astore_n k => zst1 zisA L k S fun L S => zgo (pc + n) L S h
  | .iinc k c => zld zisI L k fun v => match v with
    | .int x => if (znj L k && decide (k < L.length)) = true then zgo (pc + n) (L.set k (.int (x + Int32.ofInt c))) S h else none
    | _ => none
  | .iadd => zI2 S fun x y r => zgo (pc + n) L (.int (x + y) :: r) h
  | .isub => zI2 S fun x y r => zgo (pc + n) L (.int (x - y) :: r) h
  | .imul => zI2 S fun x y r => zgo (pc + n) L (.int (x * y) :: r) h
  | .iand => zI2 S fun x y r => zgo (pc + n) L (.int (x &&& y) :: r) h
  | .ior => zI2 S fun x y r => zgo (pc + n) L (.int (x ||| y) :: r) h
  | .ishl => zI2 S fun x y r => zgo (pc + n) L (.int (x <<< (y &&& 31)) :: r) h
  | .ishr => zI2 S fun x y r => zgo (pc + n) L (.int (x >>> (y &&& 31)) :: r) h
  | .idiv => zI2 S fun x y r => if y = 0 then none else zgo (pc + n) L (.int (x / y) :: r) h
  | .irem => zI2 S fun x y r => if y = 0 then none else zgo (pc + n) L (.int (x - x / y * y) :: r) h
  | .ineg => zI1 S fun x r => zgo (pc + n) L (.int (-x) :: r) h
  | .ladd => zJ2 S fun x y r => zgo (pc + n) L (.long (x + y) :: r) h
  | .lsub => zJ2 S fun x y r => zgo (pc + n) L (.long (x - y) :: r) h
  | .lmul => zJ2 S fun x y r => zgo (pc + n) L (.long (x * y) :: r) h
  | .ldiv => zJ2 S fun x y r => if y = 0 then none else zgo (pc + n) L (.long (x / y) :: r) h
  | .lrem => zJ2 S fun x y r => if y = 0 then none else zgo (pc + n) L (.long (x - x / y * y) :: r) h
  | .lneg => zJ1 S fun x r => zgo (pc + n) L (.long (-x) :: r) h
  | .lcmp => zJ2 S fun x y r => zgo (pc + n) L (.int (lg_cmp x y) :: r) h
  | .i2l => zI1 S fun x r => zgo (pc + n) L (.long x.toInt64 :: r) h
  | .l2i => zJ1 S fun x r => zgo (pc + n) L (.int x.toInt32 :: r) h
  | .i2b => zI1 S fun x r => zgo (pc + n) L (.int x.toInt8.toInt32 :: r) h
  | .i2c => zI1 S fun x r => zgo (pc + n) L (.int (x.toUInt32 % 65536).toInt32 :: r) h
  | .dup => match S with
    | v :: r => if v.category = 1 then zgo (pc + n) L (v :: v :: r) h else none
    | _ => none
  | .pop => match S with
    | v :: r => if v.category = 1 then zgo (pc + n) L r h else none
    | _ => none
  | .dup_x1 => match S with
    | v :: w :: r => if v.category = 1 ∧ w.category = 1 then zgo (pc + n) L (v :: w :: v :: r) h else none
    | _ => none
  | .dup2 => match S with
    | v :: w :: r => if v.category = 1 ∧ w.category = 1 then zgo (pc + n) L (v :: w :: v :: w :: r) h else none
    | _ => none
  | .goto off => ztg pc off fun t => zgo t L S h
  | .ifCond c off => zI1 S fun x r => ztg pc off fun t => if zcmp c x 0 = true then zgo t L r h else zgo (pc + 3) L r h
  | .if_icmp c off => zI2 S fun x y r => ztg pc off fun t => if zcmp c x y = true then zgo t L r h else zgo (pc + 3) L r h
  | .ifnull off => match S with
    | .null :: r => ztg pc off fun t => zgo t L r h
    | .ref _ :: r => zgo (pc + 3) L r h
    | _ => none
  | .ifnonnull off => match S with
    | .ref _ :: r => ztg pc off fun t => zgo t L r h
    | .null :: r => zgo (pc + 3) L r h
    | _ => none
  | .tableswitch d lo hi offs => zI1 S fun x r => if x.toInt < lo ∨ hi < x.toInt then ztg pc d fun t => zgo t L r h else (match offs[(x.toInt - lo).toNat]? with
    | some o => ztg pc o fun t => zgo t L r h
    | none => none)
  | .getfield i => match zft.lookup (M * zKEY + i) with
    | some (ci, k) => zR1 S fun a r => zgf h a ci k fun v => zgo (pc + 3) L (v :: r) h
    | none => none
  | .putfield i => match zft.lookup (M * zKEY + i) with
    | some (ci, k) => if zpok M ci k = true then (match S with
      | v :: .ref a :: r => zpf h a ci k v fun h => zgo (pc + 3) L r h
      | _ => none) else none
    | none => none
  | .getstatic i => match zgt.lookup (M * zKEY + i) with
    | some j => (match zsl[j]? with
      | some q => zgo (pc + 3) L (q.2.2.2 :: S) h
      | none => none)
    | none => none
  | .arraylength => zR1 S fun a r => zal h a fun x => zgo (pc + 1) L (.int x :: r) h
  | .iaload => zRI S fun a i r => zli h a 0 i fun x => zgo (pc + 1) L (.int x :: r) h
  | .caload => zRI S fun a i r => zli h a 2 i fun x => zgo (pc + 1) L (.int x :: r) h
  | .baload => zRI S fun a i r => zli h a 3 i fun x => zgo (pc + 1) L (.int x :: r) h
  | .laload => zRI S fun a i r => zlj h a i fun x => zgo (pc + 1) L (.long x :: r) h
  | .aaload => zRI S fun a i r => zlq h a i fun x => zgo (pc + 1) L (va_rf x :: r) h
  | .iastore => zI1 S fun x r => zRI r fun a i r => zsi h a 0 i x fun h => zgo (pc + 1) L r h
  | .castore => zI1 S fun x r => zRI r fun a i r => zsi h a 2 i (vp_nar .char x) fun h => zgo (pc + 1) L r h
  | .bastore => zI1 S fun x r => zRI r fun a i r => zsi h a 3 i (vp_nar .byte x) fun h => zgo (pc + 1) L r h
  | .lastore => zJ1 S fun x r => zRI r fun a i r => zsj h a i x fun h => zgo (pc + 1) L r h
  | .aastore => match S with
    | v :: r => zRI r fun a i r => zsq h a i v fun h => zgo (pc + 1) L r h
    | _ => none
  | .new i => match znt.lookup (M * zKEY + i) with
    | some ci => zgo (pc + 3) L (.ref (100 + h.1) :: S) (znew h (.inr (ci, zdef ci)) (zdef ci).length)
    | none => none
  | .newarray ty => match zaty ty with
    | some t => zI1 S fun x r => if ¬ x < 0 ∧ x.toNatClampNeg ≤ 67108864 then zgo (pc + 2) L (.ref (100 + h.1) :: r) (znew h (.inl (t, x.toNatClampNeg, zz0 t)) x.toNatClampNeg) else none
    | none => none
  | .anewarray i => match zat.lookup (M * zKEY + i) with
    | some t => zI1 S fun x r => if ¬ x < 0 ∧ x.toNatClampNeg ≤ 67108864 then zgo (pc + 3) L (.ref (100 + h.1) :: r) (znew h (.inl (t, x.toNatClampNeg, .inr (.inr (.inr (.inr fun _ => none))))) x.toNatClampNeg) else none
    | none => none
  | .ldc i => match zkt.lookup (M * zKEY + i) with
    | some v => zgo (pc + 2) L (.int v :: S) h
    | none => (match zut.lookup (M * zKEY + i) with
      | some j => zgo (pc + 2) L (.ref (10 + 2 * j) :: S) h
      | none => none)
  | .ldc_w i => match zkt.lookup (M * zKEY + i) with
    | some v => zgo (pc + 3) L (.int v :: S) h
    | none => (match zut.lookup (M * zKEY + i) with
      | some j => zgo (pc + 3) L (.ref (10 + 2 * j) :: S) h
      | none => none)
  | .ldc2_w i => match zlt.lookup (M * zKEY + i) with
    | some v => zgo (pc + 3) L (.long v :: S) h
    | none => none
  | .invokestatic i => zinv 0 M pc L S h i
  | .invokespecial i => zinv 1 M pc L S h i
  | .invokevirtual i => zinv 2 M pc L S h i
  | .ireturn => match S with
    | [.int x] => zrt M (some (.int x)) h
    | _ => none
  | .lreturn => match S with
    | [.long x] => zrt M (some (.long x)) h
    | _ => none
  | .areturn => match S with
    | [v] => if zisA v = true then zrt M (some v) h else none
    | _ => none
  | .return_ => match S with
    | [] => zrt M none h
    | _ => none
  | _ => none
/-- the lengths that the kit's rows speak of -/
def zlen (i : Instr) (n : Nat) : Bool := match i with
  | .aload _ | .iload _ | .lload _ | .astore _ | .istore _ | .lstore _ | .bipush _ | .newarray _ => n == 2
  | .ldc i => n == 2 && decide (i < zKEY)
  | .iinc _ _ | .goto _ | .ifCond _ _ | .if_icmp _ _ | .ifnull _ | .ifnonnull _ | .sipush _ => n == 3
  | .getfield i | .putfield i | .getstatic i | .new i | .anewarray i | .ldc_w i | .ldc2_w i | .invokestatic i | .invokespecial i | .invokevirtual i => n == 3 && decide (i < zKEY)
  | .tableswitch _ _ _ _ => true
  | _ => n == 1
def zdec (M pc : Nat) : Option (Instr × Nat) := match decode (zmb M) pc with
  | .ok (i, n) => if zlen i n = true then some (i, n) else none
  | .error _ => none
theorem zdec_ok {M pc n : Nat} {i : Instr} (h : zdec M pc = some (i, n)) : decode (zmb M) pc = .ok (i, n) ∧ zlen i n = true := by
  unfold zdec at h
  split at h
  · rename_i i2 n2 e
    split at h
    · rename_i h2
      cases h
      exact ⟨e, h2⟩
    · cases h
  · cases h
def zstp (M pc : Nat) (L S : List Value) (h : zH) : zStp := match zdec M pc with
  | some (i, n) => zins M pc n L S h i
  | none => none
def zexp : List Value → List Value
  | [] => []
  | v :: r => if v.category = 2 then v :: .float 0 :: zexp r else v :: zexp r
def zent (M : Nat) (args : List Value) : List Value := zexp args ++ List.replicate (zml M - (zexp args).length) (.float 0)
/-- a run, by fuel -/
def zX : Nat → Nat → Nat → List Value → List Value → zH → zRes
  | 0, _, _, _, _, _ => none
  | n + 1, M, pc, L, S, h => match zstp M pc L S h with
    | none => none
    | some (.inl (pc, L, S, h)) => zX n M pc L S h
    | some (.inr (.inl r)) => some r
    | some (.inr (.inr (y, args, pc, L, r, h))) => if (zexp args).length ≤ zml y then (match zX n y 0 (zent y args) [] h with
      | none => none
      | some (v, h2) => zX n M pc L (v.toList ++ r) h2) else none
theorem zX_mono : ∀ (n M pc : Nat) (L S : List Value) (h : zH) (r : zRet), zX n M pc L S h = some r → zX (n + 1) M pc L S h = some r := by
  intro n
  induction n with
  | zero => intro M pc L S h r e; cases e
  | succ n ih =>
    intro M pc L S h r e
    rw [zX] at e ⊢
    cases hs : zstp M pc L S h with
    | none => rw [hs] at e; cases e
    | some q =>
      rw [hs] at e
      rcases q with ⟨pc2, L2, S2, h2⟩ | r2 | ⟨y, args, pc2, L2, r2, h2⟩
      · exact ih _ _ _ _ _ _ e
      · exact e
      · dsimp only at e ⊢
        by_cases hz : (zexp args).length ≤ zml y
        · rw [if_pos hz] at e ⊢
          cases hc : zX n y 0 (zent y args) [] h2 with
          | none => rw [hc] at e; cases e
          | some z =>
            obtain ⟨v, h3⟩ := z
            rw [hc] at e
            rw [ih _ _ _ _ _ _ hc]
            exact ih _ _ _ _ _ _ e
        · rw [if_neg hz] at e; cases e
theorem zX_le {n k M pc : Nat} {L S : List Value} {h : zH} {r : zRet} (hnk : n ≤ k) (e : zX n M pc L S h = some r) : zX k M pc L S h = some r := by
  induction hnk with
  | refl => exact e
  | step _ ih => exact zX_mono _ _ _ _ _ _ _ ih
theorem rn_ex (M pc : Nat) (L S : List Value) (h : zH) : ∃ r : zRes, ∀ q : zRet, r = some q ↔ ∃ n, zX n M pc L S h = some q := by
  rcases Classical.em (∃ (n : Nat) (q : zRet), zX n M pc L S h = some q) with ⟨n, q, e⟩ | hno
  · refine ⟨some q, fun q2 => ⟨fun e2 => ⟨n, by rw [e, e2]⟩, fun ⟨k, e2⟩ => ?_⟩⟩
    have a1 := zX_le (Nat.le_max_left n k) e
    have a2 := zX_le (Nat.le_max_right n k) e2
    rw [← a1, ← a2]
  · exact ⟨none, fun q => ⟨fun e => (by cases e), fun ⟨n, e⟩ => absurd ⟨n, q, e⟩ hno⟩⟩
noncomputable def rn (M pc : Nat) (L S : List Value) (h : zH) : zRes := Classical.choose (rn_ex M pc L S h)
theorem rn_iff (M pc : Nat) (L S : List Value) (h : zH) (q : zRet) : rn M pc L S h = some q ↔ ∃ n, zX n M pc L S h = some q := Classical.choose_spec (rn_ex M pc L S h) q
noncomputable def ev (y : Nat) (args : List Value) (h : zH) : zRes := if (zexp args).length ≤ zml y then rn y 0 (zent y args) [] h else none
def zpush (v : Option Value) (S : List Value) : List Value := v.toList ++ S
def zcall {β : Type} (e : zRes) (f : Option Value → zH → Option β) : Option β := match e with
  | some (v, h) => f v h
  | none => none
noncomputable def zrun (M : Nat) (q : zStp) : zRes := match q with
  | none => none
  | some (.inl (pc, L, S, h)) => rn M pc L S h
  | some (.inr (.inl r)) => some r
  | some (.inr (.inr (y, args, pc, L, r, h))) => zcall (ev y args h) fun v h => rn M pc L (zpush v r) h
theorem rn_eq (M pc : Nat) (L S : List Value) (h : zH) : rn M pc L S h = zrun M (zstp M pc L S h) := by
  have key : ∀ q : zRet, rn M pc L S h = some q ↔ zrun M (zstp M pc L S h) = some q := by
    intro q
    rw [rn_iff]
    constructor
    · rintro ⟨n, e⟩
      cases n with
      | zero => cases e
      | succ n =>
        rw [zX] at e
        cases hs : zstp M pc L S h with
        | none => rw [hs] at e; cases e
        | some z =>
          rw [hs] at e
          rcases z with ⟨pc2, L2, S2, h2⟩ | r2 | ⟨y, args, pc2, L2, r2, h2⟩
          · exact (rn_iff _ _ _ _ _ _).mpr ⟨n, e⟩
          · exact e
          · dsimp only at e
            by_cases hz : (zexp args).length ≤ zml y
            · rw [if_pos hz] at e
              cases hc : zX n y 0 (zent y args) [] h2 with
              | none => rw [hc] at e; cases e
              | some z =>
                obtain ⟨v, h3⟩ := z
                rw [hc] at e
                show zcall (ev y args h2) _ = _
                rw [show ev y args h2 = some (v, h3) from (if_pos hz).trans ((rn_iff _ _ _ _ _ _).mpr ⟨n, hc⟩)]
                exact (rn_iff _ _ _ _ _ _).mpr ⟨n, e⟩
            · rw [if_neg hz] at e; cases e
    · intro e
      cases hs : zstp M pc L S h with
      | none => rw [hs] at e; cases e
      | some z =>
        rw [hs] at e
        rcases z with ⟨pc2, L2, S2, h2⟩ | r2 | ⟨y, args, pc2, L2, r2, h2⟩
        · obtain ⟨n, e2⟩ := (rn_iff _ _ _ _ _ _).mp e
          exact ⟨n + 1, by rw [zX, hs]; exact e2⟩
        · exact ⟨1, by rw [zX, hs]; exact e⟩
        · have e1 : zcall (ev y args h2) (fun v h => rn M pc2 L2 (zpush v r2) h) = some q := e
          by_cases hz : (zexp args).length ≤ zml y
          rotate_left
          · rw [show ev y args h2 = none from if_neg hz] at e1; cases e1
          cases hc : ev y args h2 with
          | none => rw [hc] at e1; cases e1
          | some z =>
            obtain ⟨v, h3⟩ := z
            rw [hc] at e1
            obtain ⟨n1, e2⟩ := (rn_iff _ _ _ _ _ _).mp ((if_pos hz).symm.trans hc)
            obtain ⟨n2, e3⟩ := (rn_iff _ _ _ _ _ _).mp e1
            refine ⟨max n1 n2 + 1, ?_⟩
            rw [zX, hs]
            dsimp only
            rw [if_pos hz, zX_le (Nat.le_max_left n1 n2) e2]
            exact zX_le (Nat.le_max_right n1 n2) e3
  cases hr : rn M pc L S h with
  | some q => exact ((key q).mp hr).symm
  | none =>
    cases hz : zrun M (zstp M pc L S h) with
    | none => rfl
    | some q => rw [(key q).mpr hz] at hr; cases hr
theorem rn_at {M pc n : Nat} {i : Instr} (hd : zdec M pc = some (i, n)) (L S : List Value) (h : zH) : rn M pc L S h = zrun M (zins M pc n L S h i) := by
  rw [rn_eq, zstp, hd]
