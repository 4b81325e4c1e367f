/-! RULES: an instruction, an equation of 'rn' -/
section
variable {M pc n q : Nat} {L S : List Value} {h : zH}
theorem zrun_gf (h : zH) (a ci k : Nat) (f : Value → zStp) : zrun M (zgf h a ci k f) = zgf h a ci k fun v => zrun M (f v) := by
  unfold zgf; repeat' split
  all_goals rfl
theorem zrun_pf (h : zH) (a ci k : Nat) (v : Value) (f : zH → zStp) : zrun M (zpf h a ci k v f) = zpf h a ci k v fun v => zrun M (f v) := by
  unfold zpf; repeat' split
  all_goals rfl
theorem zrun_al (h : zH) (a : Nat) (f : Int32 → zStp) : zrun M (zal h a f) = zal h a fun v => zrun M (f v) := by
  unfold zal; repeat' split
  all_goals rfl
theorem zrun_li (h : zH) (a t : Nat) (i : Int32) (f : Int32 → zStp) : zrun M (zli h a t i f) = zli h a t i fun v => zrun M (f v) := by
  unfold zli; repeat' split
  all_goals rfl
theorem zrun_lj (h : zH) (a : Nat) (i : Int32) (f : Int64 → zStp) : zrun M (zlj h a i f) = zlj h a i fun v => zrun M (f v) := by
  unfold zlj; repeat' split
  all_goals rfl
theorem zrun_lq (h : zH) (a : Nat) (i : Int32) (f : Option Nat → zStp) : zrun M (zlq h a i f) = zlq h a i fun v => zrun M (f v) := by
  unfold zlq; repeat' split
  all_goals rfl
theorem zrun_si (h : zH) (a t : Nat) (i x : Int32) (f : zH → zStp) : zrun M (zsi h a t i x f) = zsi h a t i x fun v => zrun M (f v) := by
  unfold zsi; repeat' split
  all_goals rfl
theorem zrun_sj (h : zH) (a : Nat) (i : Int32) (x : Int64) (f : zH → zStp) : zrun M (zsj h a i x f) = zsj h a i x fun v => zrun M (f v) := by
  unfold zsj; repeat' split
  all_goals rfl
theorem zrun_sq (h : zH) (a : Nat) (i : Int32) (v : Value) (f : zH → zStp) : zrun M (zsq h a i v f) = zsq h a i v fun v => zrun M (f v) := by
  unfold zsq; repeat' split
  all_goals rfl
theorem zrun_cp (h : zH) (s : Nat) (sp : Int32) (d : Nat) (dp m : Int32) (f : zH → zStp) : zrun M (zcpI h s sp d dp m f) = zcpI h s sp d dp m fun v => zrun M (f v) := by
  unfold zcpI; repeat' split
  all_goals rfl
theorem zrun_ite {c : Prop} [Decidable c] (a b : zStp) : zrun M (if c then a else b) = if c then zrun M a else zrun M b := by split <;> rfl
/-- a local that holds an address or null -/
def ldA (v : Value) (r : zRes) : zRes := if zisA v = true then r else none
theorem ldA_ref (a : Nat) (r : zRes) : ldA (.ref a) r = r := rfl
theorem ldA_null (r : zRes) : ldA .null r = r := rfl
theorem ldA_ra (a : Nat) (r : zRes) : ldA (.retAddr a) r = r := rfl
/-- no long just ahead -/
def nl (v : Value) (r : zRes) : zRes := if v.category == 1 then r else none
theorem nl_int (a : Int32) (r : zRes) : nl (.int a) r = r := rfl
theorem nl_ref (a : Nat) (r : zRes) : nl (.ref a) r = r := rfl
theorem nl_null (r : zRes) : nl .null r = r := rfl
theorem nl_fl (a : UInt32) (r : zRes) : nl (.float a) r = r := rfl
theorem nl_ra (a : Nat) (r : zRes) : nl (.retAddr a) r = r := rfl
/-- a divisor -/
def dvI (y : Int32) (r : zRes) : zRes := if y = 0 then none else r
def dvJ (y : Int64) (r : zRes) : zRes := if y = 0 then none else r
/-- a cell's width on the stack -/
def c1 (v : Value) (r : zRes) : zRes := if v.category = 1 then r else none
theorem c1_int (a : Int32) (r : zRes) : c1 (.int a) r = r := rfl
theorem c1_ref (a : Nat) (r : zRes) : c1 (.ref a) r = r := rfl
theorem c1_null (r : zRes) : c1 .null r = r := rfl
theorem r_iconst {k : Int} {v : Int32} (hd : zdec M pc = some (.iconst k, n)) (hq : pc + n = q) (hv : Int32.ofInt k = v) : rn M pc L S h = rn M q L (.int v :: S) h := by rw [rn_at hd, ← hq, ← hv]; rfl
theorem r_bipush {k : Int} {v : Int32} (hd : zdec M pc = some (.bipush k, n)) (hq : pc + n = q) (hv : (Int8.ofInt k).toInt32 = v) : rn M pc L S h = rn M q L (.int v :: S) h := by rw [rn_at hd, ← hq, ← hv]; rfl
theorem r_sipush {k : Int} {v : Int32} (hd : zdec M pc = some (.sipush k, n)) (hq : pc + n = q) (hv : (Int16.ofInt k).toInt32 = v) : rn M pc L S h = rn M q L (.int v :: S) h := by rw [rn_at hd, ← hq, ← hv]; rfl
theorem r_lconst {k : Fin 2} {v : Int64} (hd : zdec M pc = some (.lconst k, n)) (hq : pc + n = q) (hv : Int64.ofNat k = v) : rn M pc L S h = rn M q L (.long v :: S) h := by rw [rn_at hd, ← hq, ← hv]; rfl
theorem r_null (hd : zdec M pc = some (.aconst_null, n)) (hq : pc + n = q) : rn M pc L S h = rn M q L (.null :: S) h := by rw [rn_at hd, ← hq]; rfl
theorem r_iload {k : Nat} {x : Int32} (hd : zdec M pc = some (.iload k, n)) (hq : pc + n = q) (hl : L[k]? = some (.int x)) : rn M pc L S h = rn M q L (.int x :: S) h := by rw [rn_at hd, ← hq]; simp only [zins, zld, hl]; rfl
theorem r_iload_n {k : Fin 4} {x : Int32} (hd : zdec M pc = some (.iload_n k, n)) (hq : pc + n = q) (hl : L[k.val]? = some (.int x)) : rn M pc L S h = rn M q L (.int x :: S) h := by rw [rn_at hd, ← hq]; simp only [zins, zld, hl]; rfl
theorem r_lload {k : Nat} {x : Int64} (hd : zdec M pc = some (.lload k, n)) (hq : pc + n = q) (hl : L[k]? = some (.long x)) : rn M pc L S h = rn M q L (.long x :: S) h := by rw [rn_at hd, ← hq]; simp only [zins, zld, hl]; rfl
theorem r_lload_n {k : Fin 4} {x : Int64} (hd : zdec M pc = some (.lload_n k, n)) (hq : pc + n = q) (hl : L[k.val]? = some (.long x)) : rn M pc L S h = rn M q L (.long x :: S) h := by rw [rn_at hd, ← hq]; simp only [zins, zld, hl]; rfl
theorem r_aload {k : Nat} {v : Value} (hd : zdec M pc = some (.aload k, n)) (hq : pc + n = q) (hl : L[k]? = some v) : rn M pc L S h = ldA v (rn M q L (v :: S) h) := by rw [rn_at hd, ← hq]; simp only [zins, zld, hl]; unfold ldA; split <;> rfl
theorem r_aload_n {k : Fin 4} {v : Value} (hd : zdec M pc = some (.aload_n k, n)) (hq : pc + n = q) (hl : L[k.val]? = some v) : rn M pc L S h = ldA v (rn M q L (v :: S) h) := by rw [rn_at hd, ← hq]; simp only [zins, zld, hl]; unfold ldA; split <;> rfl
theorem r_aload_r {k : Nat} {a : Nat} (hd : zdec M pc = some (.aload k, n)) (hq : pc + n = q) (hl : L[k]? = some (.ref a)) : rn M pc L S h = rn M q L (.ref a :: S) h := by rw [r_aload hd hq hl]; rfl
theorem r_aload_nr {k : Fin 4} {a : Nat} (hd : zdec M pc = some (.aload_n k, n)) (hq : pc + n = q) (hl : L[k.val]? = some (.ref a)) : rn M pc L S h = rn M q L (.ref a :: S) h := by rw [r_aload_n hd hq hl]; rfl
theorem z_st1 {ok : Value → Bool} {k : Nat} {v : Value} {f : List Value → List Value → zStp} (hk : k < L.length) (h0 : k = 0) (hv : ok v = true) : zst1 ok L k (v :: S) f = f (L.set k v) S := by
  subst h0
  simp [zst1, hv, hk, znj]
theorem z_st1' {ok : Value → Bool} {k : Nat} {v w : Value} {f : List Value → List Value → zStp} (hk : k + 1 < L.length) (hw : L[k]? = some w) (hv : ok v = true) : zrun M (zst1 ok L (k + 1) (v :: S) f) = nl w (zrun M (f (L.set (k + 1) v) S)) := by
  unfold nl
  simp only [zst1, hv, hk, znj, hw, Bool.true_and, decide_true, Bool.and_true]
  split <;> rfl
theorem r_istore0 {k : Nat} {x : Int32} {L2 : List Value} (hd : zdec M pc = some (.istore k, n)) (hq : pc + n = q) (h0 : k = 0) (hk : k < L.length) (hl : L.set k (.int x) = L2) : rn M pc L (.int x :: S) h = rn M q L2 S h := by
  rw [rn_at hd, ← hq, ← hl]; simp only [zins]; rw [z_st1 hk h0 rfl]; rfl
theorem r_istore_n0 {k : Fin 4} {x : Int32} {L2 : List Value} (hd : zdec M pc = some (.istore_n k, n)) (hq : pc + n = q) (h0 : k.val = 0) (hk : k.val < L.length) (hl : L.set k.val (.int x) = L2) : rn M pc L (.int x :: S) h = rn M q L2 S h := by
  rw [rn_at hd, ← hq, ← hl]; simp only [zins]; rw [z_st1 hk h0 rfl]; rfl
theorem r_astore0 {k : Nat} {x : Nat} {L2 : List Value} (hd : zdec M pc = some (.astore k, n)) (hq : pc + n = q) (h0 : k = 0) (hk : k < L.length) (hl : L.set k (.ref x) = L2) : rn M pc L (.ref x :: S) h = rn M q L2 S h := by
  rw [rn_at hd, ← hq, ← hl]; simp only [zins]; rw [z_st1 hk h0 rfl]; rfl
theorem r_istore {k : Nat} {x : Int32} {w : Value} {L2 : List Value} (hd : zdec M pc = some (.istore (k + 1), n)) (hq : pc + n = q) (hk : k + 1 < L.length) (hw : L[k]? = some w) (hl : L.set (k + 1) (.int x) = L2) : rn M pc L (.int x :: S) h = nl w (rn M q L2 S h) := by
  rw [rn_at hd, ← hq, ← hl]; simp only [zins]; rw [z_st1' hk hw rfl]; rfl
theorem r_istore_n {k : Fin 4} {j : Nat} {x : Int32} {w : Value} {L2 : List Value} (hd : zdec M pc = some (.istore_n k, n)) (hq : pc + n = q) (hj : k.val = j + 1) (hk : j + 1 < L.length) (hw : L[j]? = some w) (hl : L.set (j + 1) (.int x) = L2) : rn M pc L (.int x :: S) h = nl w (rn M q L2 S h) := by
  rw [rn_at hd, ← hq, ← hl]; simp only [zins, hj]; rw [z_st1' hk hw rfl]; rfl
theorem r_astore {k : Nat} {v : Value} {w : Value} {L2 : List Value} (hd : zdec M pc = some (.astore (k + 1), n)) (hq : pc + n = q) (hk : k + 1 < L.length) (hw : L[k]? = some w) (hl : L.set (k + 1) v = L2) : rn M pc L (v :: S) h = ldA v (nl w (rn M q L2 S h)) := by
  rw [rn_at hd, ← hq, ← hl]; simp only [zins]
  unfold ldA
  by_cases hv : zisA v = true
  · rw [if_pos hv, z_st1' hk hw hv]; rfl
  · rw [if_neg hv]; simp [zst1, hv, zrun]
theorem r_astore_n {k : Fin 4} {j : Nat} {v : Value} {w : Value} {L2 : List Value} (hd : zdec M pc = some (.astore_n k, n)) (hq : pc + n = q) (hj : k.val = j + 1) (hk : j + 1 < L.length) (hw : L[j]? = some w) (hl : L.set (j + 1) v = L2) : rn M pc L (v :: S) h = ldA v (nl w (rn M q L2 S h)) := by
  rw [rn_at hd, ← hq, ← hl]; simp only [zins, hj]
  unfold ldA
  by_cases hv : zisA v = true
  · rw [if_pos hv, z_st1' hk hw hv]; rfl
  · rw [if_neg hv]; simp [zst1, hv, zrun]
theorem z_st2' {k : Nat} {x : Int64} {w : Value} {f : List Value → List Value → zStp} (hk : k + 1 + 1 < L.length) (hw : L[k]? = some w) : zrun M (zst2 L (k + 1) (.long x :: S) f) = nl w (zrun M (f ((L.set (k + 1) (.long x)).set (k + 1 + 1) (.float 0)) S)) := by
  unfold nl
  simp only [zst2, hk, znj, hw, zisJ, Bool.true_and, decide_true, Bool.and_true]
  split <;> rfl
theorem r_lstore {k : Nat} {x : Int64} {w : Value} {L2 : List Value} (hd : zdec M pc = some (.lstore (k + 1), n)) (hq : pc + n = q) (hk : k + 1 + 1 < L.length) (hw : L[k]? = some w) (hl : (L.set (k + 1) (.long x)).set (k + 1 + 1) (.float 0) = L2) : rn M pc L (.long x :: S) h = nl w (rn M q L2 S h) := by
  rw [rn_at hd, ← hq, ← hl]; simp only [zins]; rw [z_st2' hk hw]; rfl
theorem r_lstore_n {k : Fin 4} {j : Nat} {x : Int64} {w : Value} {L2 : List Value} (hd : zdec M pc = some (.lstore_n k, n)) (hq : pc + n = q) (hj : k.val = j + 1) (hk : j + 1 + 1 < L.length) (hw : L[j]? = some w) (hl : (L.set (j + 1) (.long x)).set (j + 1 + 1) (.float 0) = L2) : rn M pc L (.long x :: S) h = nl w (rn M q L2 S h) := by
  rw [rn_at hd, ← hq, ← hl]; simp only [zins, hj]; rw [z_st2' hk hw]; rfl
theorem r_lstore0 {k : Nat} {x : Int64} {L2 : List Value} (hd : zdec M pc = some (.lstore k, n)) (hq : pc + n = q) (h0 : k = 0) (hk : k + 1 < L.length) (hl : (L.set k (.long x)).set (k + 1) (.float 0) = L2) : rn M pc L (.long x :: S) h = rn M q L2 S h := by
  rw [rn_at hd, ← hq, ← hl]; subst h0; simp [zins, zst2, zisJ, znj, hk, zrun, zgo]
theorem r_iinc0 {k : Nat} {c : Int} {x v : Int32} {L2 : List Value} (hd : zdec M pc = some (.iinc k c, n)) (hq : pc + n = q) (h0 : k = 0) (hx : L[k]? = some (.int x)) (hv : x + Int32.ofInt c = v) (hk : k < L.length) (hl : L.set k (.int v) = L2) : rn M pc L S h = rn M q L2 S h := by
  rw [rn_at hd, ← hq, ← hl, ← hv]; subst h0; simp only [zins, zld, zisI, znj, hx, hk, decide_true, Bool.and_true, if_true]; rfl
theorem r_iinc {k : Nat} {c : Int} {x v : Int32} {w : Value} {L2 : List Value} (hd : zdec M pc = some (.iinc (k + 1) c, n)) (hq : pc + n = q) (hx : L[k + 1]? = some (.int x)) (hv : x + Int32.ofInt c = v) (hk : k + 1 < L.length) (hw : L[k]? = some w) (hl : L.set (k + 1) (.int v) = L2) : rn M pc L S h = nl w (rn M q L2 S h) := by
  rw [rn_at hd, ← hq, ← hl, ← hv]
  unfold nl
  simp only [zins, zld, zisI, znj, hx, hk, hw, decide_true, Bool.and_true, if_true]
  split <;> rfl
theorem r_iadd {x y : Int32} (hd : zdec M pc = some (.iadd, n)) (hq : pc + n = q) : rn M pc L (.int y :: .int x :: S) h = rn M q L (.int (x + y) :: S) h := by rw [rn_at hd, ← hq]; rfl
theorem r_isub {x y : Int32} (hd : zdec M pc = some (.isub, n)) (hq : pc + n = q) : rn M pc L (.int y :: .int x :: S) h = rn M q L (.int (x - y) :: S) h := by rw [rn_at hd, ← hq]; rfl
theorem r_imul {x y : Int32} (hd : zdec M pc = some (.imul, n)) (hq : pc + n = q) : rn M pc L (.int y :: .int x :: S) h = rn M q L (.int (x * y) :: S) h := by rw [rn_at hd, ← hq]; rfl
theorem r_iand {x y : Int32} (hd : zdec M pc = some (.iand, n)) (hq : pc + n = q) : rn M pc L (.int y :: .int x :: S) h = rn M q L (.int (x &&& y) :: S) h := by rw [rn_at hd, ← hq]; rfl
theorem r_ior {x y : Int32} (hd : zdec M pc = some (.ior, n)) (hq : pc + n = q) : rn M pc L (.int y :: .int x :: S) h = rn M q L (.int (x ||| y) :: S) h := by rw [rn_at hd, ← hq]; rfl
theorem r_ishl {x y : Int32} (hd : zdec M pc = some (.ishl, n)) (hq : pc + n = q) : rn M pc L (.int y :: .int x :: S) h = rn M q L (.int (x <<< (y &&& 31)) :: S) h := by rw [rn_at hd, ← hq]; rfl
theorem r_ishr {x y : Int32} (hd : zdec M pc = some (.ishr, n)) (hq : pc + n = q) : rn M pc L (.int y :: .int x :: S) h = rn M q L (.int (x >>> (y &&& 31)) :: S) h := by rw [rn_at hd, ← hq]; rfl
theorem r_idiv {x y : Int32} (hd : zdec M pc = some (.idiv, n)) (hq : pc + n = q) : rn M pc L (.int y :: .int x :: S) h = dvI y (rn M q L (.int (x / y) :: S) h) := by rw [rn_at hd, ← hq]; simp only [zins, zI2, zrun_ite]; rfl
theorem r_irem {x y : Int32} (hd : zdec M pc = some (.irem, n)) (hq : pc + n = q) : rn M pc L (.int y :: .int x :: S) h = dvI y (rn M q L (.int (x - x / y * y) :: S) h) := by rw [rn_at hd, ← hq]; simp only [zins, zI2, zrun_ite]; rfl
theorem r_ineg {x : Int32} (hd : zdec M pc = some (.ineg, n)) (hq : pc + n = q) : rn M pc L (.int x :: S) h = rn M q L (.int (-x) :: S) h := by rw [rn_at hd, ← hq]; rfl
theorem r_ladd {x y : Int64} (hd : zdec M pc = some (.ladd, n)) (hq : pc + n = q) : rn M pc L (.long y :: .long x :: S) h = rn M q L (.long (x + y) :: S) h := by rw [rn_at hd, ← hq]; rfl
theorem r_lsub {x y : Int64} (hd : zdec M pc = some (.lsub, n)) (hq : pc + n = q) : rn M pc L (.long y :: .long x :: S) h = rn M q L (.long (x - y) :: S) h := by rw [rn_at hd, ← hq]; rfl
theorem r_lmul {x y : Int64} (hd : zdec M pc = some (.lmul, n)) (hq : pc + n = q) : rn M pc L (.long y :: .long x :: S) h = rn M q L (.long (x * y) :: S) h := by rw [rn_at hd, ← hq]; rfl
theorem r_ldiv {x y : Int64} (hd : zdec M pc = some (.ldiv, n)) (hq : pc + n = q) : rn M pc L (.long y :: .long x :: S) h = dvJ y (rn M q L (.long (x / y) :: S) h) := by rw [rn_at hd, ← hq]; simp only [zins, zJ2, zrun_ite]; rfl
theorem r_lrem {x y : Int64} (hd : zdec M pc = some (.lrem, n)) (hq : pc + n = q) : rn M pc L (.long y :: .long x :: S) h = dvJ y (rn M q L (.long (x - x / y * y) :: S) h) := by rw [rn_at hd, ← hq]; simp only [zins, zJ2, zrun_ite]; rfl
theorem r_lneg {x : Int64} (hd : zdec M pc = some (.lneg, n)) (hq : pc + n = q) : rn M pc L (.long x :: S) h = rn M q L (.long (-x) :: S) h := by rw [rn_at hd, ← hq]; rfl
theorem r_lcmp {x y : Int64} (hd : zdec M pc = some (.lcmp, n)) (hq : pc + n = q) : rn M pc L (.long y :: .long x :: S) h = rn M q L (.int (lg_cmp x y) :: S) h := by rw [rn_at hd, ← hq]; rfl
theorem r_i2l {x : Int32} (hd : zdec M pc = some (.i2l, n)) (hq : pc + n = q) : rn M pc L (.int x :: S) h = rn M q L (.long x.toInt64 :: S) h := by rw [rn_at hd, ← hq]; rfl
theorem r_l2i {x : Int64} (hd : zdec M pc = some (.l2i, n)) (hq : pc + n = q) : rn M pc L (.long x :: S) h = rn M q L (.int x.toInt32 :: S) h := by rw [rn_at hd, ← hq]; rfl
theorem r_i2b {x : Int32} (hd : zdec M pc = some (.i2b, n)) (hq : pc + n = q) : rn M pc L (.int x :: S) h = rn M q L (.int x.toInt8.toInt32 :: S) h := by rw [rn_at hd, ← hq]; rfl
theorem r_i2c {x : Int32} (hd : zdec M pc = some (.i2c, n)) (hq : pc + n = q) : rn M pc L (.int x :: S) h = rn M q L (.int (x.toUInt32 % 65536).toInt32 :: S) h := by rw [rn_at hd, ← hq]; rfl
theorem r_dup {v : Value} (hd : zdec M pc = some (.dup, n)) (hq : pc + n = q) : rn M pc L (v :: S) h = c1 v (rn M q L (v :: v :: S) h) := by rw [rn_at hd, ← hq]; simp only [zins, zrun_ite]; rfl
theorem r_pop {v : Value} (hd : zdec M pc = some (.pop, n)) (hq : pc + n = q) : rn M pc L (v :: S) h = c1 v (rn M q L S h) := by rw [rn_at hd, ← hq]; simp only [zins, zrun_ite]; rfl
theorem r_dup_x1 {v w : Value} (hd : zdec M pc = some (.dup_x1, n)) (hq : pc + n = q) : rn M pc L (v :: w :: S) h = c1 v (c1 w (rn M q L (v :: w :: v :: S) h)) := by
  rw [rn_at hd, ← hq]; simp only [zins, zrun_ite, c1]
  by_cases h1 : v.category = 1 <;> by_cases h2 : w.category = 1 <;> simp [h1, h2, zrun, zgo]
theorem r_dup2 {v w : Value} (hd : zdec M pc = some (.dup2, n)) (hq : pc + n = q) : rn M pc L (v :: w :: S) h = c1 v (c1 w (rn M q L (v :: w :: v :: w :: S) h)) := by
  rw [rn_at hd, ← hq]; simp only [zins, zrun_ite, c1]
  by_cases h1 : v.category = 1 <;> by_cases h2 : w.category = 1 <;> simp [h1, h2, zrun, zgo]
theorem z_tg {off : Int} {t : Nat} {f : Nat → zStp} (ht : (pc : Int) + off = (t : Int)) : ztg pc off f = f t := by
  unfold ztg; rw [ht, if_pos (Int.natCast_nonneg t), Int.toNat_natCast]
theorem r_goto {off : Int} {t : Nat} (hd : zdec M pc = some (.goto off, n)) (ht : (pc : Int) + off = (t : Int)) : rn M pc L S h = rn M t L S h := by rw [rn_at hd]; simp only [zins]; rw [z_tg ht]; rfl
theorem z_if {off : Int} {t : Nat} {c : Bool} {p : Prop} [Decidable p] {r : List Value} (hc : c = true ↔ p) (ht : (pc : Int) + off = (t : Int)) : zrun M (ztg pc off fun t => if c = true then zgo t L r h else zgo (pc + 3) L r h) = if p then rn M t L r h else rn M (pc + 3) L r h := by
  rw [z_tg ht, zrun_ite]
  by_cases hp : p
  · rw [if_pos hp, if_pos (hc.mpr hp)]; rfl
  · rw [if_neg hp, if_neg (fun z => hp (hc.mp z))]; rfl
theorem z_ift {off : Int} {t : Nat} {p : Prop} [Decidable p] {r : List Value} (ht : (pc : Int) + off = (t : Int)) : zrun M (ztg pc off fun t => if decide p = true then zgo t L r h else zgo (pc + 3) L r h) = if p then rn M t L r h else rn M (pc + 3) L r h := z_if (decide_eq_true_iff) ht
section
variable {off : Int} {t : Nat} {x y : Int32}
theorem r_ifeq (hd : zdec M pc = some (.ifCond .eq off, n)) (ht : (pc : Int) + off = (t : Int)) (hq : pc + 3 = q) : rn M pc L (.int x :: S) h = if x = nI 0 then rn M t L S h else rn M q L S h := by rw [rn_at hd, ← hq]; exact z_ift ht
theorem r_ifne (hd : zdec M pc = some (.ifCond .ne off, n)) (ht : (pc : Int) + off = (t : Int)) (hq : pc + 3 = q) : rn M pc L (.int x :: S) h = if x = nI 0 then rn M q L S h else rn M t L S h := by
  rw [rn_at hd, ← hq]; refine (z_ift ht).trans ?_; show _ = if x = 0 then _ else _; by_cases e : x = 0 <;> simp [e]
theorem r_iflt (hd : zdec M pc = some (.ifCond .lt off, n)) (ht : (pc : Int) + off = (t : Int)) (hq : pc + 3 = q) : rn M pc L (.int x :: S) h = if x < nI 0 then rn M t L S h else rn M q L S h := by rw [rn_at hd, ← hq]; exact z_ift ht
theorem r_ifge (hd : zdec M pc = some (.ifCond .ge off, n)) (ht : (pc : Int) + off = (t : Int)) (hq : pc + 3 = q) : rn M pc L (.int x :: S) h = if nI 0 ≤ x then rn M t L S h else rn M q L S h := by rw [rn_at hd, ← hq]; exact z_ift ht
theorem r_ifgt (hd : zdec M pc = some (.ifCond .gt off, n)) (ht : (pc : Int) + off = (t : Int)) (hq : pc + 3 = q) : rn M pc L (.int x :: S) h = if nI 0 < x then rn M t L S h else rn M q L S h := by rw [rn_at hd, ← hq]; exact z_ift ht
theorem r_ifle (hd : zdec M pc = some (.ifCond .le off, n)) (ht : (pc : Int) + off = (t : Int)) (hq : pc + 3 = q) : rn M pc L (.int x :: S) h = if x ≤ nI 0 then rn M t L S h else rn M q L S h := by rw [rn_at hd, ← hq]; exact z_ift ht
theorem r_icmpeq (hd : zdec M pc = some (.if_icmp .eq off, n)) (ht : (pc : Int) + off = (t : Int)) (hq : pc + 3 = q) : rn M pc L (.int y :: .int x :: S) h = if x = y then rn M t L S h else rn M q L S h := by rw [rn_at hd, ← hq]; exact z_ift ht
theorem r_icmpne (hd : zdec M pc = some (.if_icmp .ne off, n)) (ht : (pc : Int) + off = (t : Int)) (hq : pc + 3 = q) : rn M pc L (.int y :: .int x :: S) h = if x = y then rn M q L S h else rn M t L S h := by
  rw [rn_at hd, ← hq]; refine (z_ift ht).trans ?_; by_cases e : x = y <;> simp [e]
theorem r_icmplt (hd : zdec M pc = some (.if_icmp .lt off, n)) (ht : (pc : Int) + off = (t : Int)) (hq : pc + 3 = q) : rn M pc L (.int y :: .int x :: S) h = if x < y then rn M t L S h else rn M q L S h := by rw [rn_at hd, ← hq]; exact z_ift ht
theorem r_icmpge (hd : zdec M pc = some (.if_icmp .ge off, n)) (ht : (pc : Int) + off = (t : Int)) (hq : pc + 3 = q) : rn M pc L (.int y :: .int x :: S) h = if y ≤ x then rn M t L S h else rn M q L S h := by rw [rn_at hd, ← hq]; exact z_ift ht
theorem r_icmpgt (hd : zdec M pc = some (.if_icmp .gt off, n)) (ht : (pc : Int) + off = (t : Int)) (hq : pc + 3 = q) : rn M pc L (.int y :: .int x :: S) h = if y < x then rn M t L S h else rn M q L S h := by rw [rn_at hd, ← hq]; exact z_ift ht
theorem r_icmple (hd : zdec M pc = some (.if_icmp .le off, n)) (ht : (pc : Int) + off = (t : Int)) (hq : pc + 3 = q) : rn M pc L (.int y :: .int x :: S) h = if x ≤ y then rn M t L S h else rn M q L S h := by rw [rn_at hd, ← hq]; exact z_ift ht
/-- null or not -/
def ifN (v : Value) (a b : zRes) : zRes := match v with
  | .null => a
  | .ref _ => b
  | _ => none
theorem ifN_null (a b : zRes) : ifN .null a b = a := rfl
theorem ifN_ref (k : Nat) (a b : zRes) : ifN (.ref k) a b = b := rfl
theorem ifN_rf (x : Option Nat) (a b : zRes) : ifN (va_rf x) a b = match x with
  | none => a
  | some _ => b := by cases x <;> rfl
theorem r_ifnull {v : Value} (hd : zdec M pc = some (.ifnull off, n)) (ht : (pc : Int) + off = (t : Int)) (hq : pc + 3 = q) : rn M pc L (v :: S) h = ifN v (rn M t L S h) (rn M q L S h) := by
  rw [rn_at hd, ← hq]; cases v <;> simp only [zins, ifN] <;> first | rw [z_tg ht]; rfl | rfl
theorem r_ifnonnull {v : Value} (hd : zdec M pc = some (.ifnonnull off, n)) (ht : (pc : Int) + off = (t : Int)) (hq : pc + 3 = q) : rn M pc L (v :: S) h = ifN v (rn M q L S h) (rn M t L S h) := by
  rw [rn_at hd, ← hq]; cases v <;> simp only [zins, ifN] <;> first | rw [z_tg ht]; rfl | rfl
end
section
variable {i ci k : Nat} {a : Nat}
theorem r_getfield (hd : zdec M pc = some (.getfield i, n)) (hf : zft.lookup (M * zKEY + i) = some (ci, k)) (hq : pc + 3 = q) : rn M pc L (.ref a :: S) h = zgf h a ci k fun v => rn M q L (v :: S) h := by
  rw [rn_at hd, ← hq]; simp only [zins, hf]; exact zrun_gf h a ci k _
theorem r_putfield {v : Value} (hd : zdec M pc = some (.putfield i, n)) (hf : zft.lookup (M * zKEY + i) = some (ci, k)) (hok : zpok M ci k = true) (hq : pc + 3 = q) : rn M pc L (v :: .ref a :: S) h = zpf h a ci k v fun h => rn M q L S h := by
  rw [rn_at hd, ← hq]; simp only [zins, hf, hok, if_true]; exact zrun_pf h a ci k v _
theorem r_getstatic {j : Nat} {c1 c2 c3 : String} {v : Value} (hd : zdec M pc = some (.getstatic i, n)) (hf : zgt.lookup (M * zKEY + i) = some j) (hz : zsl[j]? = some (c1, c2, c3, v)) (hq : pc + 3 = q) : rn M pc L S h = rn M q L (v :: S) h := by
  rw [rn_at hd, ← hq]; simp only [zins, hf, hz]; rfl
theorem r_alen (hd : zdec M pc = some (.arraylength, n)) (hq : pc + 1 = q) : rn M pc L (.ref a :: S) h = zal h a fun x => rn M q L (.int x :: S) h := by rw [rn_at hd, ← hq]; simp only [zins, zR1]; exact zrun_al _ _ _
theorem r_iald {j : Int32} (hd : zdec M pc = some (.iaload, n)) (hq : pc + 1 = q) : rn M pc L (.int j :: .ref a :: S) h = zli h a 0 j fun x => rn M q L (.int x :: S) h := by rw [rn_at hd, ← hq]; simp only [zins, zRI]; exact zrun_li _ _ _ _ _
theorem r_cald {j : Int32} (hd : zdec M pc = some (.caload, n)) (hq : pc + 1 = q) : rn M pc L (.int j :: .ref a :: S) h = zli h a 2 j fun x => rn M q L (.int x :: S) h := by rw [rn_at hd, ← hq]; simp only [zins, zRI]; exact zrun_li _ _ _ _ _
theorem r_bald {j : Int32} (hd : zdec M pc = some (.baload, n)) (hq : pc + 1 = q) : rn M pc L (.int j :: .ref a :: S) h = zli h a 3 j fun x => rn M q L (.int x :: S) h := by rw [rn_at hd, ← hq]; simp only [zins, zRI]; exact zrun_li _ _ _ _ _
theorem r_lald {j : Int32} (hd : zdec M pc = some (.laload, n)) (hq : pc + 1 = q) : rn M pc L (.int j :: .ref a :: S) h = zlj h a j fun x => rn M q L (.long x :: S) h := by rw [rn_at hd, ← hq]; simp only [zins, zRI]; exact zrun_lj _ _ _ _
theorem r_aald {j : Int32} (hd : zdec M pc = some (.aaload, n)) (hq : pc + 1 = q) : rn M pc L (.int j :: .ref a :: S) h = zlq h a j fun x => rn M q L (va_rf x :: S) h := by rw [rn_at hd, ← hq]; simp only [zins, zRI]; exact zrun_lq _ _ _ _
theorem r_iast {j x : Int32} (hd : zdec M pc = some (.iastore, n)) (hq : pc + 1 = q) : rn M pc L (.int x :: .int j :: .ref a :: S) h = zsi h a 0 j x fun h => rn M q L S h := by rw [rn_at hd, ← hq]; simp only [zins, zI1, zRI]; exact zrun_si _ _ _ _ _ _
theorem r_cast {j x : Int32} (hd : zdec M pc = some (.castore, n)) (hq : pc + 1 = q) : rn M pc L (.int x :: .int j :: .ref a :: S) h = zsi h a 2 j (vp_nar .char x) fun h => rn M q L S h := by rw [rn_at hd, ← hq]; simp only [zins, zI1, zRI]; exact zrun_si _ _ _ _ _ _
theorem r_bast {j x : Int32} (hd : zdec M pc = some (.bastore, n)) (hq : pc + 1 = q) : rn M pc L (.int x :: .int j :: .ref a :: S) h = zsi h a 3 j (vp_nar .byte x) fun h => rn M q L S h := by rw [rn_at hd, ← hq]; simp only [zins, zI1, zRI]; exact zrun_si _ _ _ _ _ _
theorem r_last {j : Int32} {x : Int64} (hd : zdec M pc = some (.lastore, n)) (hq : pc + 1 = q) : rn M pc L (.long x :: .int j :: .ref a :: S) h = zsj h a j x fun h => rn M q L S h := by rw [rn_at hd, ← hq]; simp only [zins, zJ1, zRI]; exact zrun_sj _ _ _ _ _
theorem r_aast {j : Int32} {v : Value} (hd : zdec M pc = some (.aastore, n)) (hq : pc + 1 = q) : rn M pc L (v :: .int j :: .ref a :: S) h = zsq h a j v fun h => rn M q L S h := by rw [rn_at hd, ← hq]; simp only [zins, zRI]; exact zrun_sq _ _ _ _ _
theorem r_new (hd : zdec M pc = some (.new i, n)) (hf : znt.lookup (M * zKEY + i) = some ci) {fs : List Value} (hfs : zdef ci = fs) {m : Nat} (hm : fs.length = m) (hq : pc + 3 = q) : rn M pc L S h = rn M q L (.ref (100 + h.1) :: S) (znew h (.inr (ci, fs)) m) := by
  rw [rn_at hd, ← hq, ← hm, ← hfs]; simp only [zins, hf]; rfl
/-- an array of n cells is made -/
def mkA (n : Int32) (r : zRes) : zRes := if ¬ n < 0 ∧ n.toNatClampNeg ≤ 67108864 then r else none
theorem r_newa {ty : ArrayType} {t : Nat} {x : Int32} (hd : zdec M pc = some (.newarray ty, n)) (ht : zaty ty = some t) (hq : pc + 2 = q) : rn M pc L (.int x :: S) h = mkA x (rn M q L (.ref (100 + h.1) :: S) (znew h (.inl (t, x.toNatClampNeg, zz0 t)) x.toNatClampNeg)) := by
  rw [rn_at hd, ← hq]; simp only [zins, ht, zI1, zrun_ite]; rfl
theorem r_anewa {t : Nat} {x : Int32} (hd : zdec M pc = some (.anewarray i, n)) (hf : zat.lookup (M * zKEY + i) = some t) (hq : pc + 3 = q) : rn M pc L (.int x :: S) h = mkA x (rn M q L (.ref (100 + h.1) :: S) (znew h (.inl (t, x.toNatClampNeg, .inr (.inr (.inr (.inr fun _ => none))))) x.toNatClampNeg)) := by
  rw [rn_at hd, ← hq]; simp only [zins, hf, zI1, zrun_ite]; rfl
theorem r_ldcI {v : Int32} (hd : zdec M pc = some (.ldc i, n)) (hf : zkt.lookup (M * zKEY + i) = some v) (hq : pc + 2 = q) : rn M pc L S h = rn M q L (.int v :: S) h := by rw [rn_at hd, ← hq]; simp only [zins, hf]; rfl
theorem r_ldcS {j b : Nat} (hd : zdec M pc = some (.ldc i, n)) (hf : zkt.lookup (M * zKEY + i) = none) (hg : zut.lookup (M * zKEY + i) = some j) (hb : 10 + 2 * j = b) (hq : pc + 2 = q) : rn M pc L S h = rn M q L (.ref b :: S) h := by rw [rn_at hd, ← hq, ← hb]; simp only [zins, hf, hg]; rfl
theorem r_ldcw {v : Int32} (hd : zdec M pc = some (.ldc_w i, n)) (hf : zkt.lookup (M * zKEY + i) = some v) (hq : pc + 3 = q) : rn M pc L S h = rn M q L (.int v :: S) h := by rw [rn_at hd, ← hq]; simp only [zins, hf]; rfl
theorem r_ldcwS {j b : Nat} (hd : zdec M pc = some (.ldc_w i, n)) (hf : zkt.lookup (M * zKEY + i) = none) (hg : zut.lookup (M * zKEY + i) = some j) (hb : 10 + 2 * j = b) (hq : pc + 3 = q) : rn M pc L S h = rn M q L (.ref b :: S) h := by rw [rn_at hd, ← hq, ← hb]; simp only [zins, hf, hg]; rfl
theorem r_ldc2 {v : Int64} (hd : zdec M pc = some (.ldc2_w i, n)) (hf : zlt.lookup (M * zKEY + i) = some v) (hq : pc + 3 = q) : rn M pc L S h = rn M q L (.long v :: S) h := by rw [rn_at hd, ← hq]; simp only [zins, hf]; rfl
end
section
variable {i k y m rc : Nat}
theorem zrun_cal {args : List Value} {pc2 : Nat} {L2 r : List Value} : zrun M (zcal y args pc2 L2 r h) = if zsum r ≤ 8 then zcall (ev y args h) (fun v h => rn M pc2 L2 (zpush v r) h) else none := by
  unfold zcal; rw [zrun_ite]; rfl
theorem z_takeR (A : List Value) (S : List Value) {m : Nat} (hm : A.length = m) : ((A.reverse ++ S).take m).reverse = A ∧ (A.reverse ++ S).drop m = S ∧ m ≤ (A.reverse ++ S).length := by
  subst hm
  refine ⟨?_, ?_, ?_⟩
  · rw [List.take_append_of_le_length (by simp)]; simp [List.take_of_length_le]
  · rw [List.drop_append_of_le_length (by simp)]; simp [List.drop_of_length_le]
  · simp
theorem r_cS (A : List Value) (hm : A.length = m) (hd : zdec M pc = some (.invokestatic i, n)) (hs : zst.lookup (M * zKEY + i) = some (k, y, m, rc)) (hk : k = 0 ∨ k = 3) (hq : pc + 3 = q) : rn M pc L (A.reverse ++ S) h = if zsum S ≤ 8 then zcall (ev y A h) (fun v h => rn M q L (zpush v S) h) else none := by
  rw [rn_at hd, ← hq]
  obtain ⟨e1, e2, e3⟩ := z_takeR A S hm
  rcases hk with rfl | rfl <;> (simp only [zins, zinv, hs, e1, e2, e3]; exact zrun_cal)
theorem r_cI (A : List Value) (hm : A.length = m) {o : Nat} (hd : zdec M pc = some (.invokespecial i, n)) (hs : zst.lookup (M * zKEY + i) = some (k, y, m, rc)) (hk : k = 2 ∨ k = 4) (hq : pc + 3 = q) : rn M pc L (A.reverse ++ .ref o :: S) h = if zsum S ≤ 8 then zcall (ev y (.ref o :: A) h) (fun v h => rn M q L (zpush v S) h) else none := by
  rw [rn_at hd, ← hq]
  obtain ⟨e1, e2, e3⟩ := z_takeR A (.ref o :: S) hm
  rcases hk with rfl | rfl <;> (simp only [zins, zinv, hs, e1, e2, e3]; exact zrun_cal)
theorem r_cU (A : List Value) (hm : A.length = m) {o : Nat} (hd : zdec M pc = some (.invokespecial i, n)) (hs : zst.lookup (M * zKEY + i) = some (6, y, m, rc)) (hq : pc + 3 = q) : rn M pc L (A.reverse ++ .ref o :: S) h = if zkd h o = rc ∧ zsum S ≤ 8 then zcall (ev y (.ref o :: A) h) (fun v h => rn M q L (zpush v S) h) else none := by
  rw [rn_at hd, ← hq]
  obtain ⟨e1, e2, e3⟩ := z_takeR A (.ref o :: S) hm
  simp only [zins, zinv, hs]
  rw [if_pos e3, if_neg (by decide), e2]
  dsimp only
  rw [if_neg (by decide), e1]
  by_cases hr : zkd h o = rc
  · rw [if_pos ⟨Or.inr ⟨trivial, trivial⟩, hr⟩, zrun_cal]
    by_cases h8 : zsum S ≤ 8
    · rw [if_pos h8, if_pos ⟨hr, h8⟩]
    · rw [if_neg h8, if_neg (fun z => h8 z.2)]
  · rw [if_neg (fun z => hr z.2), if_neg (fun z => hr z.1)]; rfl
theorem r_cV (A : List Value) (hm : A.length = m) {o : Nat} (hd : zdec M pc = some (.invokevirtual i, n)) (hs : zst.lookup (M * zKEY + i) = some (k, y, m, rc)) (hk : k = 1 ∨ k = 5) (hq : pc + 3 = q) : rn M pc L (A.reverse ++ .ref o :: S) h = if zkd h o = rc ∧ zsum S ≤ 8 then zcall (ev y (.ref o :: A) h) (fun v h => rn M q L (zpush v S) h) else none := by
  rw [rn_at hd, ← hq]
  obtain ⟨e1, e2, e3⟩ := z_takeR A (.ref o :: S) hm
  rcases hk with rfl | rfl
  all_goals
    simp only [zins, zinv, hs]
    rw [if_pos e3, if_neg (by decide), e2]
    dsimp only
    rw [if_neg (by decide), e1]
    by_cases hr : zkd h o = rc
    · rw [if_pos ⟨Or.inl ⟨by decide, trivial⟩, hr⟩, zrun_cal]
      by_cases h8 : zsum S ≤ 8
      · rw [if_pos h8, if_pos ⟨hr, h8⟩]
      · rw [if_neg h8, if_neg (fun z => h8 z.2)]
    · rw [if_neg (fun z => hr z.2), if_neg (fun z => hr z.1)]; rfl
theorem r_cO {o : Nat} (hd : zdec M pc = some (.invokespecial i, n)) (hs : zst.lookup (M * zKEY + i) = some (7, y, m, rc)) (hq : pc + 3 = q) : rn M pc L (.ref o :: S) h = if zsum S ≤ 8 then rn M q L S h else none := by
  rw [rn_at hd, ← hq]; simp only [zins, zinv, hs, if_true, zrun_ite]; rfl
theorem r_cA {s d : Nat} {sp dp x : Int32} (hd : zdec M pc = some (.invokestatic i, n)) (hs : zst.lookup (M * zKEY + i) = some (8, y, m, rc)) (hq : pc + 3 = q) : rn M pc L (.int x :: .int dp :: .ref d :: .int sp :: .ref s :: S) h = if zsum S ≤ 8 then zcpI h s sp d dp x (fun h => rn M q L S h) else none := by
  rw [rn_at hd, ← hq]; simp only [zins, zinv, hs, if_true, zrun_ite, zrun_cp]; rfl
end
theorem zrun_rt0 : True := trivial
theorem r_cM0 {i y m : Nat} {x z : Int32} (hd : zdec M pc = some (.invokestatic i, n)) (hs : zst.lookup (M * zKEY + i) = some (9, y, m, 0)) (hq : pc + 3 = q) : rn M pc L (.int z :: .int x :: S) h = if zsum S ≤ 8 then rn M q L (.int (if x < z then z else x) :: S) h else none := by
  rw [rn_at hd, ← hq]; simp only [zins, zinv, hs, if_true, zmath, zI2]; exact zrun_ite _ _
theorem r_cM1 {i y m : Nat} {x z : Int32} (hd : zdec M pc = some (.invokestatic i, n)) (hs : zst.lookup (M * zKEY + i) = some (9, y, m, 1)) (hq : pc + 3 = q) : rn M pc L (.int z :: .int x :: S) h = if zsum S ≤ 8 then rn M q L (.int (if z < x then z else x) :: S) h else none := by
  rw [rn_at hd, ← hq]; simp only [zins, zinv, hs, if_true, zmath, zI2]; exact zrun_ite _ _
theorem r_cM2 {i y m : Nat} {x z : Int64} (hd : zdec M pc = some (.invokestatic i, n)) (hs : zst.lookup (M * zKEY + i) = some (9, y, m, 2)) (hq : pc + 3 = q) : rn M pc L (.long z :: .long x :: S) h = if zsum S ≤ 8 then rn M q L (.long (if z < x then x else z) :: S) h else none := by
  rw [rn_at hd, ← hq]; simp only [zins, zinv, hs, if_true, zmath, zJ2]; exact zrun_ite _ _
theorem r_cM3 {i y m : Nat} {x z : Int64} (hd : zdec M pc = some (.invokestatic i, n)) (hs : zst.lookup (M * zKEY + i) = some (9, y, m, 3)) (hq : pc + 3 = q) : rn M pc L (.long z :: .long x :: S) h = if zsum S ≤ 8 then rn M q L (.long (if z < x then z else x) :: S) h else none := by
  rw [rn_at hd, ← hq]; simp only [zins, zinv, hs, if_true, zmath, zJ2]; exact zrun_ite _ _
theorem r_cM4 {i y m : Nat} {x : Int64} (hd : zdec M pc = some (.invokestatic i, n)) (hs : zst.lookup (M * zKEY + i) = some (9, y, m, 4)) (hq : pc + 3 = q) : rn M pc L (.long x :: S) h = if zsum S ≤ 8 then rn M q L (.long (if 0 < x then x else -x) :: S) h else none := by
  rw [rn_at hd, ← hq]; simp only [zins, zinv, hs, if_true, zmath, zJ1]; exact zrun_ite _ _
theorem zrun_rt {v : Option Value} : zrun M (zrt M v h) = if zrok M v = true then some (v, h) else none := by unfold zrt; exact zrun_ite _ _
theorem r_ireti {x : Int32} (hd : zdec M pc = some (.ireturn, n)) (hr : zmr M = some .int) : rn M pc L [.int x] h = some (some (.int x), h) := by rw [rn_at hd]; simp only [zins, zrun_rt, zrok, hr, if_true]
theorem r_iretb {x : Int32} (hd : zdec M pc = some (.ireturn, n)) (hr : zmr M = some .boolean) : rn M pc L [.int x] h = if x = nI 0 ∨ x = nI 1 then some (some (.int x), h) else none := by rw [rn_at hd]; simp only [zins, zrun_rt, zrok, hr, Bool.or_eq_true, beq_iff_eq]; rfl
theorem r_iretB {x : Int32} (hd : zdec M pc = some (.ireturn, n)) (hr : zmr M = some .byte) : rn M pc L [.int x] h = if x = nI 0 then some (some (.int x), h) else none := by rw [rn_at hd]; simp only [zins, zrun_rt, zrok, hr, beq_iff_eq]; rfl
theorem r_iretc {x : Int32} (hd : zdec M pc = some (.ireturn, n)) (hr : zmr M = some .char) : rn M pc L [.int x] h = if decide (narrow .char (.int x) = .int x) = true then some (some (.int x), h) else none := by rw [rn_at hd]; simp only [zins, zrun_rt, zrok, hr]
theorem r_lret {x : Int64} (hd : zdec M pc = some (.lreturn, n)) (hr : zmr M = some .long) : rn M pc L [.long x] h = some (some (.long x), h) := by rw [rn_at hd]; simp only [zins, zrun_rt, zrok, hr, if_true]
theorem r_vret (hd : zdec M pc = some (.return_, n)) (hr : zmr M = none) : rn M pc L [] h = some (none, h) := by rw [rn_at hd]; simp only [zins, zrun_rt, zrok, hr, if_true]
theorem r_areto {a : Nat} {C : String} (hd : zdec M pc = some (.areturn, n)) (hr : zmr M = some (.object C)) : rn M pc L [.ref a] h = some (some (.ref a), h) := by rw [rn_at hd]; simp only [zins, zrun_rt, zrok, hr, zisA, if_true]
theorem r_areta {a : Nat} {C : FieldType} (hd : zdec M pc = some (.areturn, n)) (hr : zmr M = some (.array C)) : rn M pc L [.ref a] h = some (some (.ref a), h) := by rw [rn_at hd]; simp only [zins, zrun_rt, zrok, hr, zisA, if_true]
end
