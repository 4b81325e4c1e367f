/-! THE TABLES HOLD, printed by emit_tbl.py: each row of them against the tables of the Statement -/
def zown (M : Nat) : String := (zmy M).cls
def zAll {α : Type} (P : α → Prop) : List α → Prop
  | [] => True
  | a :: l => P a ∧ zAll P l
theorem zAll_app {α : Type} {P : α → Prop} : ∀ {l k : List α}, zAll P l → zAll P k → zAll P (l ++ k)
  | [], _, _, h => h
  | _ :: _, _, h, h2 => ⟨h.1, zAll_app h.2 h2⟩
theorem zAll_lk {α : Type} {P : Nat × α → Prop} : ∀ {l : List (Nat × α)}, zAll P l → ∀ {k : Nat} {v : α}, l.lookup k = some v → P (k, v)
  | [], _, k, v, hk => by cases hk
  | (a1, a2) :: l, h, k, v, hk => by
    rw [List.lookup_cons] at hk
    split at hk
    · rename_i e
      cases hk
      rw [beq_iff_eq] at e
      rw [e]
      exact h.1
    · exact zAll_lk h.2 hk
def zmeth (y n : Nat) : Prop := Cond.code (zmy y) (zmb y) (zml y) (zmr y) ∈ zW0 ∧ plainName (zmy y).cls = true ∧ ((zmy y).cls ≠ "java/lang/invoke/MethodHandle" ∧ (zmy y).cls ≠ "java/lang/invoke/VarHandle") ∧ (parseMethodDescriptor (zmy y).desc).map (fun d => d.parameters.length) = some n
def zmath1 (rc : Nat) : Option (MethodName × ByteArray × Nat × Option FieldType) := match rc with
  | 0 => some (Lib.Math.max.name, Lib.Math.max.code, 2, some .int)
  | 1 => some (Lib.Math.min.name, Lib.Math.min.code, 2, some .int)
  | 2 => some (Lib.MathLoose.max_long.x, Lib.MathLoose.max_long.code, 4, some .long)
  | 3 => some (Lib.MathLoose.min_long.x, Lib.MathLoose.min_long.code, 4, some .long)
  | 4 => some (Lib.MathLoose.abs_long.x, Lib.MathLoose.abs_long.code, 2, some .long)
  | _ => none
def zroom (M y : Nat) : Prop := zmf y + 1 ≤ zmf M ∧ 8 + (zml y + 11) + zmo y ≤ zmo M
def zcln (ci : Nat) : String := if ci = 13 then "java/lang/String" else (zcl.getD ci ("", zT0, 0)).1
/-- what a call's row says: key, kind, the method called, its arguments, the receiver's class -/
def zsP (e : Nat × Nat × Nat × Nat × Nat) : Prop := match e with
  | (key, k, y, n, rc) => match k with
    | 7 => Cond.methodLink (zown (key / zKEY)) (key % zKEY) objectInit ∈ zW0 ∧ Cond.instanceMethod objectInit ∈ zW0 ∧ Cond.code objectInit ⟨#[0xb1]⟩ 1 none ∈ zW0 ∧ 1 ≤ zmf (key / zKEY) ∧ 20 ≤ zmo (key / zKEY)
    | 8 => Cond.methodLink (zown (key / zKEY)) (key % zKEY) arraycopyName ∈ zW0 ∧ Cond.native arraycopyName ∈ zW0 ∧ Cond.static arraycopyName ∈ zW0 ∧ Cond.initialized "java/lang/System" ∈ zW0 ∧ 1 ≤ zmf (key / zKEY) ∧ 8 + (nativeFrameWords "java/lang/System" "arraycopy" 5 + 11) ≤ zmo (key / zKEY)
    | 9 => (∃ (y : MethodName) (b : ByteArray) (ml : Nat) (rt : Option FieldType), zmath1 rc = some (y, b, ml, rt) ∧ Cond.methodLink (zown (key / zKEY)) (key % zKEY) y ∈ zW0 ∧ Cond.static y ∈ zW0 ∧ Cond.code y b ml rt ∈ zW0) ∧ Cond.initialized "java/lang/Math" ∈ zW0 ∧ 1 ≤ zmf (key / zKEY) ∧ 23 ≤ zmo (key / zKEY)
    | 0 => (Cond.methodLink (zown (key / zKEY)) (key % zKEY) (zmy y) ∈ zW0 ∧ Cond.static (zmy y) ∈ zW0 ∧ Cond.initialized (zmy y).cls ∈ zW0) ∧ zmeth y n ∧ zroom (key / zKEY) y
    | 3 => ((∃ (j : Nat) (host : String), znl[j]? = some (zown (key / zKEY), key % zKEY, zmy y, (host : String))) ∧ Cond.static (zmy y) ∈ zW0 ∧ Cond.initialized (zmy y).cls ∈ zW0) ∧ zmeth y n ∧ zroom (key / zKEY) y
    | 2 => (Cond.methodLink (zown (key / zKEY)) (key % zKEY) (zmy y) ∈ zW0 ∧ Cond.instanceMethod (zmy y) ∈ zW0 ∧ Cond.initialized (zmy y).cls ∈ zW0) ∧ zmeth y n ∧ zroom (key / zKEY) y ∧ (zmy y).name = "<init>" ∧ zmr y = none
    | 4 => ((∃ (j : Nat) (host : String), znl[j]? = some (zown (key / zKEY), key % zKEY, zmy y, (host : String))) ∧ Cond.instanceMethod (zmy y) ∈ zW0 ∧ Cond.initialized (zmy y).cls ∈ zW0) ∧ zmeth y n ∧ zroom (key / zKEY) y ∧ (zmy y).name = "<init>" ∧ zmr y = none
    | 1 => (Cond.methodLink (zown (key / zKEY)) (key % zKEY) (zmy y) ∈ zW0 ∧ Cond.instanceMethod (zmy y) ∈ zW0 ∧ Cond.selects (zmy y).cls (zmy y) (zmy y) ∈ zW0 ∧ Cond.initialized (zmy y).cls ∈ zW0) ∧ zmeth y n ∧ zroom (key / zKEY) y ∧ (zmy y).cls = zcln rc ∧ rc < 14
    | 5 => (Cond.methodLink (zown (key / zKEY)) (key % zKEY) (zmy y) ∈ zW0 ∧ Cond.sameMethod (zmy y).cls (zmy y).cls (zmy y).name (zmy y).desc ∈ zW0 ∧ Cond.selects (zcln rc) (zmy y) (zmy y) ∈ zW0 ∧ Cond.instanceMethod (zmy y) ∈ zW0 ∧ Cond.initialized (zmy y).cls ∈ zW0) ∧ zmeth y n ∧ zroom (key / zKEY) y ∧ rc < 13
    | 6 => (Cond.methodLink (zown (key / zKEY)) (key % zKEY) (zmy y) ∈ zW0 ∧ Cond.sameMethod (zmy y).cls (zmy y).cls (zmy y).name (zmy y).desc ∈ zW0 ∧ Cond.superclass (zown (key / zKEY)) (zmy y).cls ∈ zW0 ∧ Cond.instanceMethod (zmy y) ∈ zW0 ∧ Cond.initialized (zmy y).cls ∈ zW0) ∧ zmeth y n ∧ zroom (key / zKEY) y ∧ (zmy y).name ≠ "<init>" ∧ rc < 13
    | _ => False
def zfP (e : Nat × Nat × Nat) : Prop := (e.2.1 = 13 ∧ ((e.2.2 = 0 ∧ Cond.fieldLink (zown (e.1 / zKEY)) (e.1 % zKEY) "java/lang/String" "value" "[B" ∈ zW0) ∨ (e.2.2 = 1 ∧ Cond.fieldLink (zown (e.1 / zKEY)) (e.1 % zKEY) "java/lang/String" "coder" "B" ∈ zW0))) ∨ ∃ q, zcl[e.2.1]? = some q ∧ e.2.2 < q.2.2 ∧ Cond.fieldLink (zown (e.1 / zKEY)) (e.1 % zKEY) (q.2.1 e.2.2).1 (q.2.1 e.2.2).2.1 (q.2.1 e.2.2).2.2.1 ∈ zW0
def znP (e : Nat × Nat) : Prop := ∃ q, zcl[e.2]? = some q ∧ Cond.classLink (zown (e.1 / zKEY)) (e.1 % zKEY) q.1 ∈ zW0 ∧ Cond.instantiable q.1 q.2.2 ∈ zW0 ∧ Cond.initialized q.1 ∈ zW0
def zaP (e : Nat × Nat) : Prop := ∃ C, ztag[e.2]? = some (.object C) ∧ Cond.classLink (zown (e.1 / zKEY)) (e.1 % zKEY) C ∈ zW0 ∧ C ∈ zao
def zkP (e : Nat × Int32) : Prop := Cond.constant (zown (e.1 / zKEY)) (e.1 % zKEY) e.2 ∈ zW0
def zlP (e : Nat × Int64) : Prop := Cond.constantLong (zown (e.1 / zKEY)) (e.1 % zKEY) e.2 ∈ zW0
def zuP (e : Nat × Nat) : Prop := ∃ tx bs, zsx[e.2]? = some (zown (e.1 / zKEY), e.1 % zKEY, tx, bs)
def zgP (e : Nat × Nat) : Prop := ∃ q, zsl[e.2]? = some q ∧ Cond.fieldLink (zown (e.1 / zKEY)) (e.1 % zKEY) q.1 q.2.1 q.2.2.1 ∈ zW0
theorem zc_in0 : ∀ c ∈ u_ws "java/lang/StringBuilder" zT0 4, c ∈ zW0 := by
  intro c hc
  obtain ⟨k, hk, rfl⟩ := List.mem_map.mp hc
  rw [List.mem_range] at hk
  rcases (show k = 0 ∨ k = 1 ∨ k = 2 ∨ k = 3 by omega) with rfl | rfl | rfl | rfl
  · exact (zw2 57 rfl rfl)
  · exact (zw2 59 rfl rfl)
  · exact (zw2 61 rfl rfl)
  · exact (zw2 63 rfl rfl)
theorem zc_in1 : ∀ c ∈ u_ws "PayrollRun$Books" zT1 5, c ∈ zW0 := by
  intro c hc
  obtain ⟨k, hk, rfl⟩ := List.mem_map.mp hc
  rw [List.mem_range] at hk
  rcases (show k = 0 ∨ k = 1 ∨ k = 2 ∨ k = 3 ∨ k = 4 by omega) with rfl | rfl | rfl | rfl | rfl
  · exact (zw1 155 rfl rfl)
  · exact (zw1 157 rfl rfl)
  · exact (zw1 159 rfl rfl)
  · exact (zw1 161 rfl rfl)
  · exact (zw1 163 rfl rfl)
theorem zc_in2 : ∀ c ∈ u_ws "PayrollRun$Closing" zT2 1, c ∈ zW0 := by
  intro c hc
  obtain ⟨k, hk, rfl⟩ := List.mem_map.mp hc
  rw [List.mem_range] at hk
  rcases (show k = 0 by omega) with rfl
  · exact (zw1 220 rfl rfl)
theorem zc_in3 : ∀ c ∈ u_ws "PayrollRun$CommandText" zT3 6, c ∈ zW0 := by
  intro c hc
  obtain ⟨k, hk, rfl⟩ := List.mem_map.mp hc
  rw [List.mem_range] at hk
  rcases (show k = 0 ∨ k = 1 ∨ k = 2 ∨ k = 3 ∨ k = 4 ∨ k = 5 by omega) with rfl | rfl | rfl | rfl | rfl | rfl
  · exact (zw1 198 rfl rfl)
  · exact (zw1 200 rfl rfl)
  · exact (zw1 202 rfl rfl)
  · exact (zw1 204 rfl rfl)
  · exact (zw1 206 rfl rfl)
  · exact (zw1 208 rfl rfl)
theorem zc_in4 : ∀ c ∈ u_ws "PayrollRun$Garnishments" zT4 5, c ∈ zW0 := by
  intro c hc
  obtain ⟨k, hk, rfl⟩ := List.mem_map.mp hc
  rw [List.mem_range] at hk
  rcases (show k = 0 ∨ k = 1 ∨ k = 2 ∨ k = 3 ∨ k = 4 by omega) with rfl | rfl | rfl | rfl | rfl
  · exact (zw1 94 rfl rfl)
  · exact (zw1 96 rfl rfl)
  · exact (zw1 98 rfl rfl)
  · exact (zw1 100 rfl rfl)
  · exact (zw1 102 rfl rfl)
theorem zc_in5 : ∀ c ∈ u_ws "PayrollRun$History" zT5 3, c ∈ zW0 := by
  intro c hc
  obtain ⟨k, hk, rfl⟩ := List.mem_map.mp hc
  rw [List.mem_range] at hk
  rcases (show k = 0 ∨ k = 1 ∨ k = 2 by omega) with rfl | rfl | rfl
  · exact (zw1 178 rfl rfl)
  · exact (zw1 180 rfl rfl)
  · exact (zw1 182 rfl rfl)
theorem zc_in6 : ∀ c ∈ u_ws "PayrollRun$Rules" zT6 5, c ∈ zW0 := by
  intro c hc
  obtain ⟨k, hk, rfl⟩ := List.mem_map.mp hc
  rw [List.mem_range] at hk
  rcases (show k = 0 ∨ k = 1 ∨ k = 2 ∨ k = 3 ∨ k = 4 by omega) with rfl | rfl | rfl | rfl | rfl
  · exact (zw1 56 rfl rfl)
  · exact (zw1 58 rfl rfl)
  · exact (zw1 60 rfl rfl)
  · exact (zw1 62 rfl rfl)
  · exact (zw1 64 rfl rfl)
theorem zc_in7 : ∀ c ∈ u_ws "PayrollRun$Slip" zT7 4, c ∈ zW0 := by
  intro c hc
  obtain ⟨k, hk, rfl⟩ := List.mem_map.mp hc
  rw [List.mem_range] at hk
  rcases (show k = 0 ∨ k = 1 ∨ k = 2 ∨ k = 3 by omega) with rfl | rfl | rfl | rfl
  · exact (zw2 10 rfl rfl)
  · exact (zw2 12 rfl rfl)
  · exact (zw2 14 rfl rfl)
  · exact (zw2 16 rfl rfl)
theorem zc_in8 : ∀ c ∈ u_ws "PayrollRun$SlipText" zT8 2, c ∈ zW0 := by
  intro c hc
  obtain ⟨k, hk, rfl⟩ := List.mem_map.mp hc
  rw [List.mem_range] at hk
  rcases (show k = 0 ∨ k = 1 by omega) with rfl | rfl
  · exact (zw2 69 rfl rfl)
  · exact (zw2 71 rfl rfl)
theorem zc_in9 : ∀ c ∈ u_ws "PayrollRun$Trial" zT9 3, c ∈ zW0 := by
  intro c hc
  obtain ⟨k, hk, rfl⟩ := List.mem_map.mp hc
  rw [List.mem_range] at hk
  rcases (show k = 0 ∨ k = 1 ∨ k = 2 by omega) with rfl | rfl | rfl
  · exact (zw2 22 rfl rfl)
  · exact (zw2 24 rfl rfl)
  · exact (zw2 26 rfl rfl)
theorem zc_in10 : ∀ c ∈ u_ws "PayrollRun$Worker" zT10 7, c ∈ zW0 := by
  intro c hc
  obtain ⟨k, hk, rfl⟩ := List.mem_map.mp hc
  rw [List.mem_range] at hk
  rcases (show k = 0 ∨ k = 1 ∨ k = 2 ∨ k = 3 ∨ k = 4 ∨ k = 5 ∨ k = 6 by omega) with rfl | rfl | rfl | rfl | rfl | rfl | rfl
  · exact (zw1 128 rfl rfl)
  · exact (zw1 130 rfl rfl)
  · exact (zw1 132 rfl rfl)
  · exact (zw1 134 rfl rfl)
  · exact (zw1 136 rfl rfl)
  · exact (zw1 138 rfl rfl)
  · exact (zw1 140 rfl rfl)
theorem zc_in11 : ∀ c ∈ u_ws "PayrollRun" zT11 8, c ∈ zW0 := by
  intro c hc
  obtain ⟨k, hk, rfl⟩ := List.mem_map.mp hc
  rw [List.mem_range] at hk
  rcases (show k = 0 ∨ k = 1 ∨ k = 2 ∨ k = 3 ∨ k = 4 ∨ k = 5 ∨ k = 6 ∨ k = 7 by omega) with rfl | rfl | rfl | rfl | rfl | rfl | rfl | rfl
  · exact (zw2 82 rfl rfl)
  · exact (zw2 84 rfl rfl)
  · exact (zw2 86 rfl rfl)
  · exact (zw2 88 rfl rfl)
  · exact (zw2 90 rfl rfl)
  · exact (zw2 92 rfl rfl)
  · exact (zw2 94 rfl rfl)
  · exact (zw2 96 rfl rfl)
theorem zc_in12 : ∀ c ∈ u_ws "PayrollRunModel" zT12 15, c ∈ zW0 := by
  intro c hc
  obtain ⟨k, hk, rfl⟩ := List.mem_map.mp hc
  rw [List.mem_range] at hk
  rcases (show k = 0 ∨ k = 1 ∨ k = 2 ∨ k = 3 ∨ k = 4 ∨ k = 5 ∨ k = 6 ∨ k = 7 ∨ k = 8 ∨ k = 9 ∨ k = 10 ∨ k = 11 ∨ k = 12 ∨ k = 13 ∨ k = 14 by omega) with rfl | rfl | rfl | rfl | rfl | rfl | rfl | rfl | rfl | rfl | rfl | rfl | rfl | rfl | rfl
  · exact (zw5 206 rfl rfl)
  · exact (zw5 208 rfl rfl)
  · exact (zw5 210 rfl rfl)
  · exact (zw5 212 rfl rfl)
  · exact (zw5 214 rfl rfl)
  · exact (zw5 216 rfl rfl)
  · exact (zw5 218 rfl rfl)
  · exact (zw5 220 rfl rfl)
  · exact (zw5 222 rfl rfl)
  · exact (zw5 224 rfl rfl)
  · exact (zw5 226 rfl rfl)
  · exact (zw5 228 rfl rfl)
  · exact (zw5 230 rfl rfl)
  · exact (zw5 232 rfl rfl)
  · exact (zw5 234 rfl rfl)
theorem zme_0 : zmeth 0 0 := ⟨(zw1 27 rfl rfl), by decide +kernel, ⟨by decide +kernel, by decide +kernel⟩, by decide +kernel⟩
theorem zme_2 : zmeth 2 0 := ⟨(zw1 35 rfl rfl), by decide +kernel, ⟨by decide +kernel, by decide +kernel⟩, by decide +kernel⟩
theorem zme_3 : zmeth 3 0 := ⟨(zw1 43 rfl rfl), by decide +kernel, ⟨by decide +kernel, by decide +kernel⟩, by decide +kernel⟩
theorem zme_4 : zmeth 4 0 := ⟨(zw1 71 rfl rfl), by decide +kernel, ⟨by decide +kernel, by decide +kernel⟩, by decide +kernel⟩
theorem zme_5 : zmeth 5 0 := ⟨(zw1 79 rfl rfl), by decide +kernel, ⟨by decide +kernel, by decide +kernel⟩, by decide +kernel⟩
theorem zme_6 : zmeth 6 0 := ⟨(zw1 170 rfl rfl), by decide +kernel, ⟨by decide +kernel, by decide +kernel⟩, by decide +kernel⟩
theorem zme_7 : zmeth 7 0 := ⟨(zw1 189 rfl rfl), by decide +kernel, ⟨by decide +kernel, by decide +kernel⟩, by decide +kernel⟩
theorem zme_8 : zmeth 8 0 := ⟨(zw1 216 rfl rfl), by decide +kernel, ⟨by decide +kernel, by decide +kernel⟩, by decide +kernel⟩
theorem zme_9 : zmeth 9 0 := ⟨(zw1 227 rfl rfl), by decide +kernel, ⟨by decide +kernel, by decide +kernel⟩, by decide +kernel⟩
theorem zme_10 : zmeth 10 0 := ⟨(zw1 237 rfl rfl), by decide +kernel, ⟨by decide +kernel, by decide +kernel⟩, by decide +kernel⟩
theorem zme_11 : zmeth 11 0 := ⟨(zw2 33 rfl rfl), by decide +kernel, ⟨by decide +kernel, by decide +kernel⟩, by decide +kernel⟩
theorem zme_12 : zmeth 12 0 := ⟨(zw2 39 rfl rfl), by decide +kernel, ⟨by decide +kernel, by decide +kernel⟩, by decide +kernel⟩
theorem zme_13 : zmeth 13 1 := ⟨(zw2 42 rfl rfl), by decide +kernel, ⟨by decide +kernel, by decide +kernel⟩, by decide +kernel⟩
theorem zme_14 : zmeth 14 1 := ⟨(zw2 48 rfl rfl), by decide +kernel, ⟨by decide +kernel, by decide +kernel⟩, by decide +kernel⟩
theorem zme_15 : zmeth 15 1 := ⟨(zw2 51 rfl rfl), by decide +kernel, ⟨by decide +kernel, by decide +kernel⟩, by decide +kernel⟩
theorem zme_16 : zmeth 16 3 := ⟨(zw2 102 rfl rfl), by decide +kernel, ⟨by decide +kernel, by decide +kernel⟩, by decide +kernel⟩
theorem zme_17 : zmeth 17 1 := ⟨(zw2 106 rfl rfl), by decide +kernel, ⟨by decide +kernel, by decide +kernel⟩, by decide +kernel⟩
theorem zme_18 : zmeth 18 1 := ⟨(zw2 110 rfl rfl), by decide +kernel, ⟨by decide +kernel, by decide +kernel⟩, by decide +kernel⟩
theorem zme_19 : zmeth 19 1 := ⟨(zw2 114 rfl rfl), by decide +kernel, ⟨by decide +kernel, by decide +kernel⟩, by decide +kernel⟩
theorem zme_20 : zmeth 20 1 := ⟨(zw2 121 rfl rfl), by decide +kernel, ⟨by decide +kernel, by decide +kernel⟩, by decide +kernel⟩
theorem zme_21 : zmeth 21 1 := ⟨(zw2 126 rfl rfl), by decide +kernel, ⟨by decide +kernel, by decide +kernel⟩, by decide +kernel⟩
theorem zme_22 : zmeth 22 3 := ⟨(zw2 131 rfl rfl), by decide +kernel, ⟨by decide +kernel, by decide +kernel⟩, by decide +kernel⟩
theorem zme_23 : zmeth 23 1 := ⟨(zw2 134 rfl rfl), by decide +kernel, ⟨by decide +kernel, by decide +kernel⟩, by decide +kernel⟩
theorem zme_24 : zmeth 24 3 := ⟨(zw2 137 rfl rfl), by decide +kernel, ⟨by decide +kernel, by decide +kernel⟩, by decide +kernel⟩
theorem zme_25 : zmeth 25 1 := ⟨(zw2 140 rfl rfl), by decide +kernel, ⟨by decide +kernel, by decide +kernel⟩, by decide +kernel⟩
theorem zme_26 : zmeth 26 1 := ⟨(zw2 145 rfl rfl), by decide +kernel, ⟨by decide +kernel, by decide +kernel⟩, by decide +kernel⟩
theorem zme_27 : zmeth 27 0 := ⟨(zw2 149 rfl rfl), by decide +kernel, ⟨by decide +kernel, by decide +kernel⟩, by decide +kernel⟩
theorem zme_29 : zmeth 29 3 := ⟨(zw2 156 rfl rfl), by decide +kernel, ⟨by decide +kernel, by decide +kernel⟩, by decide +kernel⟩
theorem zme_30 : zmeth 30 3 := ⟨(zw2 160 rfl rfl), by decide +kernel, ⟨by decide +kernel, by decide +kernel⟩, by decide +kernel⟩
theorem zme_31 : zmeth 31 3 := ⟨(zw2 164 rfl rfl), by decide +kernel, ⟨by decide +kernel, by decide +kernel⟩, by decide +kernel⟩
theorem zme_32 : zmeth 32 3 := ⟨(zw2 168 rfl rfl), by decide +kernel, ⟨by decide +kernel, by decide +kernel⟩, by decide +kernel⟩
theorem zme_33 : zmeth 33 2 := ⟨(zw2 172 rfl rfl), by decide +kernel, ⟨by decide +kernel, by decide +kernel⟩, by decide +kernel⟩
theorem zme_34 : zmeth 34 2 := ⟨(zw2 176 rfl rfl), by decide +kernel, ⟨by decide +kernel, by decide +kernel⟩, by decide +kernel⟩
theorem zme_35 : zmeth 35 2 := ⟨(zw2 180 rfl rfl), by decide +kernel, ⟨by decide +kernel, by decide +kernel⟩, by decide +kernel⟩
theorem zme_36 : zmeth 36 2 := ⟨(zw2 184 rfl rfl), by decide +kernel, ⟨by decide +kernel, by decide +kernel⟩, by decide +kernel⟩
theorem zme_37 : zmeth 37 2 := ⟨(zw2 188 rfl rfl), by decide +kernel, ⟨by decide +kernel, by decide +kernel⟩, by decide +kernel⟩
theorem zme_38 : zmeth 38 2 := ⟨(zw2 192 rfl rfl), by decide +kernel, ⟨by decide +kernel, by decide +kernel⟩, by decide +kernel⟩
theorem zme_39 : zmeth 39 2 := ⟨(zw2 197 rfl rfl), by decide +kernel, ⟨by decide +kernel, by decide +kernel⟩, by decide +kernel⟩
theorem zme_40 : zmeth 40 2 := ⟨(zw2 201 rfl rfl), by decide +kernel, ⟨by decide +kernel, by decide +kernel⟩, by decide +kernel⟩
theorem zme_41 : zmeth 41 0 := ⟨(zw2 205 rfl rfl), by decide +kernel, ⟨by decide +kernel, by decide +kernel⟩, by decide +kernel⟩
theorem zme_42 : zmeth 42 0 := ⟨(zw2 210 rfl rfl), by decide +kernel, ⟨by decide +kernel, by decide +kernel⟩, by decide +kernel⟩
theorem zme_43 : zmeth 43 0 := ⟨(zw2 214 rfl rfl), by decide +kernel, ⟨by decide +kernel, by decide +kernel⟩, by decide +kernel⟩
theorem zme_44 : zmeth 44 3 := ⟨(zw2 218 rfl rfl), by decide +kernel, ⟨by decide +kernel, by decide +kernel⟩, by decide +kernel⟩
theorem zme_45 : zmeth 45 3 := ⟨(zw2 222 rfl rfl), by decide +kernel, ⟨by decide +kernel, by decide +kernel⟩, by decide +kernel⟩
theorem zme_46 : zmeth 46 3 := ⟨(zw2 226 rfl rfl), by decide +kernel, ⟨by decide +kernel, by decide +kernel⟩, by decide +kernel⟩
theorem zme_47 : zmeth 47 3 := ⟨(zw2 231 rfl rfl), by decide +kernel, ⟨by decide +kernel, by decide +kernel⟩, by decide +kernel⟩
theorem zme_48 : zmeth 48 3 := ⟨(zw2 235 rfl rfl), by decide +kernel, ⟨by decide +kernel, by decide +kernel⟩, by decide +kernel⟩
theorem zme_49 : zmeth 49 2 := ⟨(zw2 239 rfl rfl), by decide +kernel, ⟨by decide +kernel, by decide +kernel⟩, by decide +kernel⟩
theorem zme_50 : zmeth 50 2 := ⟨(zw3 3 rfl rfl), by decide +kernel, ⟨by decide +kernel, by decide +kernel⟩, by decide +kernel⟩
theorem zme_51 : zmeth 51 1 := ⟨(zw3 7 rfl rfl), by decide +kernel, ⟨by decide +kernel, by decide +kernel⟩, by decide +kernel⟩
theorem zme_52 : zmeth 52 1 := ⟨(zw3 11 rfl rfl), by decide +kernel, ⟨by decide +kernel, by decide +kernel⟩, by decide +kernel⟩
theorem zme_53 : zmeth 53 2 := ⟨(zw3 15 rfl rfl), by decide +kernel, ⟨by decide +kernel, by decide +kernel⟩, by decide +kernel⟩
theorem zme_54 : zmeth 54 2 := ⟨(zw3 19 rfl rfl), by decide +kernel, ⟨by decide +kernel, by decide +kernel⟩, by decide +kernel⟩
theorem zme_55 : zmeth 55 3 := ⟨(zw3 24 rfl rfl), by decide +kernel, ⟨by decide +kernel, by decide +kernel⟩, by decide +kernel⟩
theorem zme_56 : zmeth 56 3 := ⟨(zw3 28 rfl rfl), by decide +kernel, ⟨by decide +kernel, by decide +kernel⟩, by decide +kernel⟩
theorem zme_57 : zmeth 57 0 := ⟨(zw3 33 rfl rfl), by decide +kernel, ⟨by decide +kernel, by decide +kernel⟩, by decide +kernel⟩
theorem zme_58 : zmeth 58 1 := ⟨(zw3 37 rfl rfl), by decide +kernel, ⟨by decide +kernel, by decide +kernel⟩, by decide +kernel⟩
theorem zme_59 : zmeth 59 5 := ⟨(zw3 43 rfl rfl), by decide +kernel, ⟨by decide +kernel, by decide +kernel⟩, by decide +kernel⟩
theorem zme_60 : zmeth 60 2 := ⟨(zw3 48 rfl rfl), by decide +kernel, ⟨by decide +kernel, by decide +kernel⟩, by decide +kernel⟩
theorem zme_61 : zmeth 61 1 := ⟨(zw3 52 rfl rfl), by decide +kernel, ⟨by decide +kernel, by decide +kernel⟩, by decide +kernel⟩
theorem zme_62 : zmeth 62 3 := ⟨(zw3 55 rfl rfl), by decide +kernel, ⟨by decide +kernel, by decide +kernel⟩, by decide +kernel⟩
theorem zme_63 : zmeth 63 2 := ⟨(zw3 59 rfl rfl), by decide +kernel, ⟨by decide +kernel, by decide +kernel⟩, by decide +kernel⟩
theorem zme_64 : zmeth 64 2 := ⟨(zw3 64 rfl rfl), by decide +kernel, ⟨by decide +kernel, by decide +kernel⟩, by decide +kernel⟩
theorem zme_65 : zmeth 65 1 := ⟨(zw3 69 rfl rfl), by decide +kernel, ⟨by decide +kernel, by decide +kernel⟩, by decide +kernel⟩
theorem zme_66 : zmeth 66 2 := ⟨(zw3 73 rfl rfl), by decide +kernel, ⟨by decide +kernel, by decide +kernel⟩, by decide +kernel⟩
theorem zme_67 : zmeth 67 2 := ⟨(zw3 76 rfl rfl), by decide +kernel, ⟨by decide +kernel, by decide +kernel⟩, by decide +kernel⟩
theorem zme_68 : zmeth 68 4 := ⟨(zw3 80 rfl rfl), by decide +kernel, ⟨by decide +kernel, by decide +kernel⟩, by decide +kernel⟩
theorem zme_69 : zmeth 69 4 := ⟨(zw3 84 rfl rfl), by decide +kernel, ⟨by decide +kernel, by decide +kernel⟩, by decide +kernel⟩
theorem zme_70 : zmeth 70 2 := ⟨(zw3 88 rfl rfl), by decide +kernel, ⟨by decide +kernel, by decide +kernel⟩, by decide +kernel⟩
theorem zme_71 : zmeth 71 2 := ⟨(zw3 92 rfl rfl), by decide +kernel, ⟨by decide +kernel, by decide +kernel⟩, by decide +kernel⟩
theorem zme_74 : zmeth 74 3 := ⟨(zw3 103 rfl rfl), by decide +kernel, ⟨by decide +kernel, by decide +kernel⟩, by decide +kernel⟩
theorem zme_75 : zmeth 75 2 := ⟨(zw3 107 rfl rfl), by decide +kernel, ⟨by decide +kernel, by decide +kernel⟩, by decide +kernel⟩
theorem zme_76 : zmeth 76 3 := ⟨(zw3 112 rfl rfl), by decide +kernel, ⟨by decide +kernel, by decide +kernel⟩, by decide +kernel⟩
theorem zme_77 : zmeth 77 0 := ⟨(zw3 116 rfl rfl), by decide +kernel, ⟨by decide +kernel, by decide +kernel⟩, by decide +kernel⟩
theorem zme_78 : zmeth 78 0 := ⟨(zw3 120 rfl rfl), by decide +kernel, ⟨by decide +kernel, by decide +kernel⟩, by decide +kernel⟩
theorem zme_79 : zmeth 79 0 := ⟨(zw3 124 rfl rfl), by decide +kernel, ⟨by decide +kernel, by decide +kernel⟩, by decide +kernel⟩
theorem zme_80 : zmeth 80 0 := ⟨(zw3 128 rfl rfl), by decide +kernel, ⟨by decide +kernel, by decide +kernel⟩, by decide +kernel⟩
theorem zme_81 : zmeth 81 0 := ⟨(zw3 132 rfl rfl), by decide +kernel, ⟨by decide +kernel, by decide +kernel⟩, by decide +kernel⟩
theorem zme_82 : zmeth 82 3 := ⟨(zw3 136 rfl rfl), by decide +kernel, ⟨by decide +kernel, by decide +kernel⟩, by decide +kernel⟩
theorem zme_83 : zmeth 83 2 := ⟨(zw3 142 rfl rfl), by decide +kernel, ⟨by decide +kernel, by decide +kernel⟩, by decide +kernel⟩
theorem zme_84 : zmeth 84 2 := ⟨(zw3 146 rfl rfl), by decide +kernel, ⟨by decide +kernel, by decide +kernel⟩, by decide +kernel⟩
theorem zme_85 : zmeth 85 3 := ⟨(zw3 150 rfl rfl), by decide +kernel, ⟨by decide +kernel, by decide +kernel⟩, by decide +kernel⟩
theorem zme_86 : zmeth 86 2 := ⟨(zw3 155 rfl rfl), by decide +kernel, ⟨by decide +kernel, by decide +kernel⟩, by decide +kernel⟩
theorem zme_87 : zmeth 87 3 := ⟨(zw3 160 rfl rfl), by decide +kernel, ⟨by decide +kernel, by decide +kernel⟩, by decide +kernel⟩
theorem zme_88 : zmeth 88 3 := ⟨(zw3 165 rfl rfl), by decide +kernel, ⟨by decide +kernel, by decide +kernel⟩, by decide +kernel⟩
theorem zme_89 : zmeth 89 1 := ⟨(zw3 170 rfl rfl), by decide +kernel, ⟨by decide +kernel, by decide +kernel⟩, by decide +kernel⟩
theorem zme_90 : zmeth 90 1 := ⟨(zw3 175 rfl rfl), by decide +kernel, ⟨by decide +kernel, by decide +kernel⟩, by decide +kernel⟩
theorem zme_91 : zmeth 91 2 := ⟨(zw3 179 rfl rfl), by decide +kernel, ⟨by decide +kernel, by decide +kernel⟩, by decide +kernel⟩
theorem zme_92 : zmeth 92 4 := ⟨(zw3 183 rfl rfl), by decide +kernel, ⟨by decide +kernel, by decide +kernel⟩, by decide +kernel⟩
theorem zme_93 : zmeth 93 1 := ⟨(zw3 187 rfl rfl), by decide +kernel, ⟨by decide +kernel, by decide +kernel⟩, by decide +kernel⟩
theorem zme_94 : zmeth 94 3 := ⟨(zw3 192 rfl rfl), by decide +kernel, ⟨by decide +kernel, by decide +kernel⟩, by decide +kernel⟩
theorem zme_95 : zmeth 95 3 := ⟨(zw3 196 rfl rfl), by decide +kernel, ⟨by decide +kernel, by decide +kernel⟩, by decide +kernel⟩
theorem zme_96 : zmeth 96 1 := ⟨(zw3 200 rfl rfl), by decide +kernel, ⟨by decide +kernel, by decide +kernel⟩, by decide +kernel⟩
theorem zme_97 : zmeth 97 0 := ⟨(zw3 204 rfl rfl), by decide +kernel, ⟨by decide +kernel, by decide +kernel⟩, by decide +kernel⟩
theorem zme_98 : zmeth 98 1 := ⟨(zw3 208 rfl rfl), by decide +kernel, ⟨by decide +kernel, by decide +kernel⟩, by decide +kernel⟩
theorem zme_99 : zmeth 99 1 := ⟨(zw3 211 rfl rfl), by decide +kernel, ⟨by decide +kernel, by decide +kernel⟩, by decide +kernel⟩
theorem zme_100 : zmeth 100 1 := ⟨(zw3 215 rfl rfl), by decide +kernel, ⟨by decide +kernel, by decide +kernel⟩, by decide +kernel⟩
theorem zme_101 : zmeth 101 1 := ⟨(zw3 219 rfl rfl), by decide +kernel, ⟨by decide +kernel, by decide +kernel⟩, by decide +kernel⟩
theorem zme_102 : zmeth 102 3 := ⟨(zw3 222 rfl rfl), by decide +kernel, ⟨by decide +kernel, by decide +kernel⟩, by decide +kernel⟩
theorem zme_104 : zmeth 104 2 := ⟨(zw3 229 rfl rfl), by decide +kernel, ⟨by decide +kernel, by decide +kernel⟩, by decide +kernel⟩
theorem zme_105 : zmeth 105 2 := ⟨(zw3 233 rfl rfl), by decide +kernel, ⟨by decide +kernel, by decide +kernel⟩, by decide +kernel⟩
theorem zme_106 : zmeth 106 0 := ⟨(zw4 7 rfl rfl), by decide +kernel, ⟨by decide +kernel, by decide +kernel⟩, by decide +kernel⟩
theorem zme_107 : zmeth 107 3 := ⟨(zw4 10 rfl rfl), by decide +kernel, ⟨by decide +kernel, by decide +kernel⟩, by decide +kernel⟩
theorem zme_108 : zmeth 108 4 := ⟨(zw4 13 rfl rfl), by decide +kernel, ⟨by decide +kernel, by decide +kernel⟩, by decide +kernel⟩
theorem zme_109 : zmeth 109 3 := ⟨(zw4 16 rfl rfl), by decide +kernel, ⟨by decide +kernel, by decide +kernel⟩, by decide +kernel⟩
theorem zme_110 : zmeth 110 3 := ⟨(zw4 19 rfl rfl), by decide +kernel, ⟨by decide +kernel, by decide +kernel⟩, by decide +kernel⟩
theorem zme_111 : zmeth 111 4 := ⟨(zw4 24 rfl rfl), by decide +kernel, ⟨by decide +kernel, by decide +kernel⟩, by decide +kernel⟩
theorem zme_112 : zmeth 112 1 := ⟨(zw4 27 rfl rfl), by decide +kernel, ⟨by decide +kernel, by decide +kernel⟩, by decide +kernel⟩
theorem zme_113 : zmeth 113 1 := ⟨(zw4 39 rfl rfl), by decide +kernel, ⟨by decide +kernel, by decide +kernel⟩, by decide +kernel⟩
theorem zme_114 : zmeth 114 1 := ⟨(zw4 42 rfl rfl), by decide +kernel, ⟨by decide +kernel, by decide +kernel⟩, by decide +kernel⟩
theorem zme_115 : zmeth 115 0 := ⟨(zw4 46 rfl rfl), by decide +kernel, ⟨by decide +kernel, by decide +kernel⟩, by decide +kernel⟩
theorem zme_116 : zmeth 116 6 := ⟨(zw4 49 rfl rfl), by decide +kernel, ⟨by decide +kernel, by decide +kernel⟩, by decide +kernel⟩
theorem zme_117 : zmeth 117 3 := ⟨(zw4 52 rfl rfl), by decide +kernel, ⟨by decide +kernel, by decide +kernel⟩, by decide +kernel⟩
theorem zme_118 : zmeth 118 1 := ⟨(zw4 55 rfl rfl), by decide +kernel, ⟨by decide +kernel, by decide +kernel⟩, by decide +kernel⟩
theorem zme_119 : zmeth 119 3 := ⟨(zw4 58 rfl rfl), by decide +kernel, ⟨by decide +kernel, by decide +kernel⟩, by decide +kernel⟩
theorem zme_120 : zmeth 120 4 := ⟨(zw4 63 rfl rfl), by decide +kernel, ⟨by decide +kernel, by decide +kernel⟩, by decide +kernel⟩
theorem zme_121 : zmeth 121 3 := ⟨(zw4 66 rfl rfl), by decide +kernel, ⟨by decide +kernel, by decide +kernel⟩, by decide +kernel⟩
theorem zme_122 : zmeth 122 0 := ⟨(zw4 76 rfl rfl), by decide +kernel, ⟨by decide +kernel, by decide +kernel⟩, by decide +kernel⟩
theorem zme_123 : zmeth 123 0 := ⟨(zw4 80 rfl rfl), by decide +kernel, ⟨by decide +kernel, by decide +kernel⟩, by decide +kernel⟩
theorem zme_124 : zmeth 124 2 := ⟨(zw4 85 rfl rfl), by decide +kernel, ⟨by decide +kernel, by decide +kernel⟩, by decide +kernel⟩
theorem zme_125 : zmeth 125 1 := ⟨(zw4 89 rfl rfl), by decide +kernel, ⟨by decide +kernel, by decide +kernel⟩, by decide +kernel⟩
theorem zme_126 : zmeth 126 0 := ⟨(zw4 94 rfl rfl), by decide +kernel, ⟨by decide +kernel, by decide +kernel⟩, by decide +kernel⟩
theorem zme_127 : zmeth 127 5 := ⟨(zw4 97 rfl rfl), by decide +kernel, ⟨by decide +kernel, by decide +kernel⟩, by decide +kernel⟩
theorem zme_128 : zmeth 128 5 := ⟨(zw4 100 rfl rfl), by decide +kernel, ⟨by decide +kernel, by decide +kernel⟩, by decide +kernel⟩
theorem zme_129 : zmeth 129 3 := ⟨(zw4 103 rfl rfl), by decide +kernel, ⟨by decide +kernel, by decide +kernel⟩, by decide +kernel⟩
theorem zme_130 : zmeth 130 3 := ⟨(zw4 106 rfl rfl), by decide +kernel, ⟨by decide +kernel, by decide +kernel⟩, by decide +kernel⟩
theorem zme_131 : zmeth 131 4 := ⟨(zw4 109 rfl rfl), by decide +kernel, ⟨by decide +kernel, by decide +kernel⟩, by decide +kernel⟩
theorem zme_132 : zmeth 132 3 := ⟨(zw4 113 rfl rfl), by decide +kernel, ⟨by decide +kernel, by decide +kernel⟩, by decide +kernel⟩
theorem zme_133 : zmeth 133 1 := ⟨(zw4 119 rfl rfl), by decide +kernel, ⟨by decide +kernel, by decide +kernel⟩, by decide +kernel⟩
theorem zme_134 : zmeth 134 1 := ⟨(zw4 122 rfl rfl), by decide +kernel, ⟨by decide +kernel, by decide +kernel⟩, by decide +kernel⟩
theorem zme_135 : zmeth 135 1 := ⟨(zw4 125 rfl rfl), by decide +kernel, ⟨by decide +kernel, by decide +kernel⟩, by decide +kernel⟩
theorem zme_136 : zmeth 136 3 := ⟨(zw4 128 rfl rfl), by decide +kernel, ⟨by decide +kernel, by decide +kernel⟩, by decide +kernel⟩
theorem zme_137 : zmeth 137 2 := ⟨(zw4 131 rfl rfl), by decide +kernel, ⟨by decide +kernel, by decide +kernel⟩, by decide +kernel⟩
theorem zme_138 : zmeth 138 2 := ⟨(zw4 134 rfl rfl), by decide +kernel, ⟨by decide +kernel, by decide +kernel⟩, by decide +kernel⟩
theorem zme_139 : zmeth 139 3 := ⟨(zw4 137 rfl rfl), by decide +kernel, ⟨by decide +kernel, by decide +kernel⟩, by decide +kernel⟩
theorem zme_140 : zmeth 140 1 := ⟨(zw4 141 rfl rfl), by decide +kernel, ⟨by decide +kernel, by decide +kernel⟩, by decide +kernel⟩
theorem zme_142 : zmeth 142 1 := ⟨(zw4 150 rfl rfl), by decide +kernel, ⟨by decide +kernel, by decide +kernel⟩, by decide +kernel⟩
theorem zme_143 : zmeth 143 0 := ⟨(zw4 154 rfl rfl), by decide +kernel, ⟨by decide +kernel, by decide +kernel⟩, by decide +kernel⟩
theorem zme_144 : zmeth 144 0 := ⟨(zw4 157 rfl rfl), by decide +kernel, ⟨by decide +kernel, by decide +kernel⟩, by decide +kernel⟩
theorem zme_145 : zmeth 145 1 := ⟨(zw4 162 rfl rfl), by decide +kernel, ⟨by decide +kernel, by decide +kernel⟩, by decide +kernel⟩
theorem zme_146 : zmeth 146 1 := ⟨(zw4 165 rfl rfl), by decide +kernel, ⟨by decide +kernel, by decide +kernel⟩, by decide +kernel⟩
theorem zme_147 : zmeth 147 2 := ⟨(zw4 170 rfl rfl), by decide +kernel, ⟨by decide +kernel, by decide +kernel⟩, by decide +kernel⟩
theorem zme_148 : zmeth 148 2 := ⟨(zw4 174 rfl rfl), by decide +kernel, ⟨by decide +kernel, by decide +kernel⟩, by decide +kernel⟩
theorem zme_149 : zmeth 149 0 := ⟨(zw4 178 rfl rfl), by decide +kernel, ⟨by decide +kernel, by decide +kernel⟩, by decide +kernel⟩
theorem zme_150 : zmeth 150 1 := ⟨(zw4 183 rfl rfl), by decide +kernel, ⟨by decide +kernel, by decide +kernel⟩, by decide +kernel⟩
theorem zme_151 : zmeth 151 3 := ⟨(zw4 187 rfl rfl), by decide +kernel, ⟨by decide +kernel, by decide +kernel⟩, by decide +kernel⟩
theorem zme_152 : zmeth 152 2 := ⟨(zw4 194 rfl rfl), by decide +kernel, ⟨by decide +kernel, by decide +kernel⟩, by decide +kernel⟩
theorem zme_153 : zmeth 153 0 := ⟨(zw4 198 rfl rfl), by decide +kernel, ⟨by decide +kernel, by decide +kernel⟩, by decide +kernel⟩
theorem zme_154 : zmeth 154 1 := ⟨(zw4 204 rfl rfl), by decide +kernel, ⟨by decide +kernel, by decide +kernel⟩, by decide +kernel⟩
theorem zme_155 : zmeth 155 2 := ⟨(zw4 208 rfl rfl), by decide +kernel, ⟨by decide +kernel, by decide +kernel⟩, by decide +kernel⟩
theorem zme_156 : zmeth 156 3 := ⟨(zw4 214 rfl rfl), by decide +kernel, ⟨by decide +kernel, by decide +kernel⟩, by decide +kernel⟩
theorem zme_157 : zmeth 157 1 := ⟨(zw4 218 rfl rfl), by decide +kernel, ⟨by decide +kernel, by decide +kernel⟩, by decide +kernel⟩
theorem zme_158 : zmeth 158 1 := ⟨(zw4 225 rfl rfl), by decide +kernel, ⟨by decide +kernel, by decide +kernel⟩, by decide +kernel⟩
theorem zme_159 : zmeth 159 1 := ⟨(zw4 229 rfl rfl), by decide +kernel, ⟨by decide +kernel, by decide +kernel⟩, by decide +kernel⟩
theorem zme_160 : zmeth 160 1 := ⟨(zw4 233 rfl rfl), by decide +kernel, ⟨by decide +kernel, by decide +kernel⟩, by decide +kernel⟩
theorem zme_161 : zmeth 161 1 := ⟨(zw4 237 rfl rfl), by decide +kernel, ⟨by decide +kernel, by decide +kernel⟩, by decide +kernel⟩
theorem zme_162 : zmeth 162 2 := ⟨(zw5 1 rfl rfl), by decide +kernel, ⟨by decide +kernel, by decide +kernel⟩, by decide +kernel⟩
theorem zme_163 : zmeth 163 2 := ⟨(zw5 5 rfl rfl), by decide +kernel, ⟨by decide +kernel, by decide +kernel⟩, by decide +kernel⟩
theorem zme_164 : zmeth 164 2 := ⟨(zw5 9 rfl rfl), by decide +kernel, ⟨by decide +kernel, by decide +kernel⟩, by decide +kernel⟩
theorem zme_165 : zmeth 165 2 := ⟨(zw5 13 rfl rfl), by decide +kernel, ⟨by decide +kernel, by decide +kernel⟩, by decide +kernel⟩
theorem zme_166 : zmeth 166 2 := ⟨(zw5 19 rfl rfl), by decide +kernel, ⟨by decide +kernel, by decide +kernel⟩, by decide +kernel⟩
theorem zme_167 : zmeth 167 2 := ⟨(zw5 25 rfl rfl), by decide +kernel, ⟨by decide +kernel, by decide +kernel⟩, by decide +kernel⟩
theorem zme_168 : zmeth 168 2 := ⟨(zw5 30 rfl rfl), by decide +kernel, ⟨by decide +kernel, by decide +kernel⟩, by decide +kernel⟩
theorem zme_169 : zmeth 169 1 := ⟨(zw5 40 rfl rfl), by decide +kernel, ⟨by decide +kernel, by decide +kernel⟩, by decide +kernel⟩
theorem zme_170 : zmeth 170 0 := ⟨(zw5 44 rfl rfl), by decide +kernel, ⟨by decide +kernel, by decide +kernel⟩, by decide +kernel⟩
theorem zme_171 : zmeth 171 2 := ⟨(zw5 49 rfl rfl), by decide +kernel, ⟨by decide +kernel, by decide +kernel⟩, by decide +kernel⟩
theorem zme_172 : zmeth 172 1 := ⟨(zw5 53 rfl rfl), by decide +kernel, ⟨by decide +kernel, by decide +kernel⟩, by decide +kernel⟩
theorem zme_173 : zmeth 173 1 := ⟨(zw5 57 rfl rfl), by decide +kernel, ⟨by decide +kernel, by decide +kernel⟩, by decide +kernel⟩
theorem zme_174 : zmeth 174 1 := ⟨(zw5 61 rfl rfl), by decide +kernel, ⟨by decide +kernel, by decide +kernel⟩, by decide +kernel⟩
theorem zme_175 : zmeth 175 0 := ⟨(zw5 66 rfl rfl), by decide +kernel, ⟨by decide +kernel, by decide +kernel⟩, by decide +kernel⟩
theorem zme_176 : zmeth 176 0 := ⟨(zw5 70 rfl rfl), by decide +kernel, ⟨by decide +kernel, by decide +kernel⟩, by decide +kernel⟩
theorem zme_177 : zmeth 177 1 := ⟨(zw5 74 rfl rfl), by decide +kernel, ⟨by decide +kernel, by decide +kernel⟩, by decide +kernel⟩
theorem zme_178 : zmeth 178 1 := ⟨(zw5 78 rfl rfl), by decide +kernel, ⟨by decide +kernel, by decide +kernel⟩, by decide +kernel⟩
theorem zme_179 : zmeth 179 3 := ⟨(zw5 82 rfl rfl), by decide +kernel, ⟨by decide +kernel, by decide +kernel⟩, by decide +kernel⟩
theorem zme_180 : zmeth 180 2 := ⟨(zw5 86 rfl rfl), by decide +kernel, ⟨by decide +kernel, by decide +kernel⟩, by decide +kernel⟩
theorem zme_181 : zmeth 181 1 := ⟨(zw5 89 rfl rfl), by decide +kernel, ⟨by decide +kernel, by decide +kernel⟩, by decide +kernel⟩
theorem zme_182 : zmeth 182 3 := ⟨(zw5 105 rfl rfl), by decide +kernel, ⟨by decide +kernel, by decide +kernel⟩, by decide +kernel⟩
theorem zme_183 : zmeth 183 1 := ⟨(zw5 110 rfl rfl), by decide +kernel, ⟨by decide +kernel, by decide +kernel⟩, by decide +kernel⟩
theorem zme_184 : zmeth 184 0 := ⟨(zw5 114 rfl rfl), by decide +kernel, ⟨by decide +kernel, by decide +kernel⟩, by decide +kernel⟩
theorem zme_185 : zmeth 185 2 := ⟨(zw5 117 rfl rfl), by decide +kernel, ⟨by decide +kernel, by decide +kernel⟩, by decide +kernel⟩
theorem zme_186 : zmeth 186 2 := ⟨(zw5 121 rfl rfl), by decide +kernel, ⟨by decide +kernel, by decide +kernel⟩, by decide +kernel⟩
theorem zme_187 : zmeth 187 1 := ⟨(zw5 125 rfl rfl), by decide +kernel, ⟨by decide +kernel, by decide +kernel⟩, by decide +kernel⟩
theorem zme_188 : zmeth 188 2 := ⟨(zw5 131 rfl rfl), by decide +kernel, ⟨by decide +kernel, by decide +kernel⟩, by decide +kernel⟩
theorem zme_189 : zmeth 189 1 := ⟨(zw5 134 rfl rfl), by decide +kernel, ⟨by decide +kernel, by decide +kernel⟩, by decide +kernel⟩
theorem zme_190 : zmeth 190 1 := ⟨(zw5 137 rfl rfl), by decide +kernel, ⟨by decide +kernel, by decide +kernel⟩, by decide +kernel⟩
theorem zme_191 : zmeth 191 0 := ⟨(zw5 141 rfl rfl), by decide +kernel, ⟨by decide +kernel, by decide +kernel⟩, by decide +kernel⟩
theorem zme_192 : zmeth 192 1 := ⟨(zw5 145 rfl rfl), by decide +kernel, ⟨by decide +kernel, by decide +kernel⟩, by decide +kernel⟩
theorem zme_193 : zmeth 193 2 := ⟨(zw5 149 rfl rfl), by decide +kernel, ⟨by decide +kernel, by decide +kernel⟩, by decide +kernel⟩
theorem zme_194 : zmeth 194 1 := ⟨(zw5 153 rfl rfl), by decide +kernel, ⟨by decide +kernel, by decide +kernel⟩, by decide +kernel⟩
theorem zme_195 : zmeth 195 1 := ⟨(zw5 157 rfl rfl), by decide +kernel, ⟨by decide +kernel, by decide +kernel⟩, by decide +kernel⟩
theorem zme_196 : zmeth 196 1 := ⟨(zw5 161 rfl rfl), by decide +kernel, ⟨by decide +kernel, by decide +kernel⟩, by decide +kernel⟩
theorem zme_197 : zmeth 197 0 := ⟨(zw5 165 rfl rfl), by decide +kernel, ⟨by decide +kernel, by decide +kernel⟩, by decide +kernel⟩
theorem zme_198 : zmeth 198 0 := ⟨(zw5 170 rfl rfl), by decide +kernel, ⟨by decide +kernel, by decide +kernel⟩, by decide +kernel⟩
theorem zme_199 : zmeth 199 0 := ⟨(zw5 174 rfl rfl), by decide +kernel, ⟨by decide +kernel, by decide +kernel⟩, by decide +kernel⟩
theorem zme_200 : zmeth 200 1 := ⟨(zw5 178 rfl rfl), by decide +kernel, ⟨by decide +kernel, by decide +kernel⟩, by decide +kernel⟩
theorem zme_201 : zmeth 201 0 := ⟨(zw5 183 rfl rfl), by decide +kernel, ⟨by decide +kernel, by decide +kernel⟩, by decide +kernel⟩
theorem zme_202 : zmeth 202 2 := ⟨(zw5 189 rfl rfl), by decide +kernel, ⟨by decide +kernel, by decide +kernel⟩, by decide +kernel⟩
theorem zme_203 : zmeth 203 3 := ⟨(zw6 0 rfl rfl), by decide +kernel, ⟨by decide +kernel, by decide +kernel⟩, by decide +kernel⟩
theorem zme_204 : zmeth 204 1 := ⟨(zw6 3 rfl rfl), by decide +kernel, ⟨by decide +kernel, by decide +kernel⟩, by decide +kernel⟩
theorem zme_205 : zmeth 205 3 := ⟨(zw6 6 rfl rfl), by decide +kernel, ⟨by decide +kernel, by decide +kernel⟩, by decide +kernel⟩
theorem zme_206 : zmeth 206 1 := ⟨(zw6 9 rfl rfl), by decide +kernel, ⟨by decide +kernel, by decide +kernel⟩, by decide +kernel⟩
theorem zme_207 : zmeth 207 2 := ⟨(zw6 13 rfl rfl), by decide +kernel, ⟨by decide +kernel, by decide +kernel⟩, by decide +kernel⟩
theorem zme_208 : zmeth 208 0 := ⟨(zw6 17 rfl rfl), by decide +kernel, ⟨by decide +kernel, by decide +kernel⟩, by decide +kernel⟩
theorem zme_209 : zmeth 209 1 := ⟨(zw6 21 rfl rfl), by decide +kernel, ⟨by decide +kernel, by decide +kernel⟩, by decide +kernel⟩
theorem zme_210 : zmeth 210 3 := ⟨(zw6 27 rfl rfl), by decide +kernel, ⟨by decide +kernel, by decide +kernel⟩, by decide +kernel⟩
theorem zme_211 : zmeth 211 3 := ⟨(zw6 31 rfl rfl), by decide +kernel, ⟨by decide +kernel, by decide +kernel⟩, by decide +kernel⟩
theorem zme_212 : zmeth 212 2 := ⟨(zw6 35 rfl rfl), by decide +kernel, ⟨by decide +kernel, by decide +kernel⟩, by decide +kernel⟩
theorem zme_213 : zmeth 213 2 := ⟨(zw6 39 rfl rfl), by decide +kernel, ⟨by decide +kernel, by decide +kernel⟩, by decide +kernel⟩
theorem zme_214 : zmeth 214 2 := ⟨(zw6 43 rfl rfl), by decide +kernel, ⟨by decide +kernel, by decide +kernel⟩, by decide +kernel⟩
theorem zme_215 : zmeth 215 2 := ⟨(zw6 47 rfl rfl), by decide +kernel, ⟨by decide +kernel, by decide +kernel⟩, by decide +kernel⟩
theorem zme_216 : zmeth 216 2 := ⟨(zw6 52 rfl rfl), by decide +kernel, ⟨by decide +kernel, by decide +kernel⟩, by decide +kernel⟩
theorem zme_217 : zmeth 217 0 := ⟨(zw6 56 rfl rfl), by decide +kernel, ⟨by decide +kernel, by decide +kernel⟩, by decide +kernel⟩
theorem zme_218 : zmeth 218 3 := ⟨(zw6 60 rfl rfl), by decide +kernel, ⟨by decide +kernel, by decide +kernel⟩, by decide +kernel⟩
theorem zme_219 : zmeth 219 4 := ⟨(zw6 64 rfl rfl), by decide +kernel, ⟨by decide +kernel, by decide +kernel⟩, by decide +kernel⟩
theorem zme_220 : zmeth 220 2 := ⟨(zw6 68 rfl rfl), by decide +kernel, ⟨by decide +kernel, by decide +kernel⟩, by decide +kernel⟩
theorem zme_221 : zmeth 221 3 := ⟨(zw6 73 rfl rfl), by decide +kernel, ⟨by decide +kernel, by decide +kernel⟩, by decide +kernel⟩
theorem zme_222 : zmeth 222 2 := ⟨(zw6 77 rfl rfl), by decide +kernel, ⟨by decide +kernel, by decide +kernel⟩, by decide +kernel⟩
theorem zme_223 : zmeth 223 2 := ⟨(zw6 81 rfl rfl), by decide +kernel, ⟨by decide +kernel, by decide +kernel⟩, by decide +kernel⟩
theorem zme_224 : zmeth 224 3 := ⟨(zw6 85 rfl rfl), by decide +kernel, ⟨by decide +kernel, by decide +kernel⟩, by decide +kernel⟩
theorem zme_225 : zmeth 225 3 := ⟨(zw6 89 rfl rfl), by decide +kernel, ⟨by decide +kernel, by decide +kernel⟩, by decide +kernel⟩
theorem zme_226 : zmeth 226 0 := ⟨(zw6 93 rfl rfl), by decide +kernel, ⟨by decide +kernel, by decide +kernel⟩, by decide +kernel⟩
theorem zme_227 : zmeth 227 0 := ⟨(zw6 97 rfl rfl), by decide +kernel, ⟨by decide +kernel, by decide +kernel⟩, by decide +kernel⟩
theorem zme_228 : zmeth 228 0 := ⟨(zw6 101 rfl rfl), by decide +kernel, ⟨by decide +kernel, by decide +kernel⟩, by decide +kernel⟩
theorem zme_229 : zmeth 229 2 := ⟨(zw6 105 rfl rfl), by decide +kernel, ⟨by decide +kernel, by decide +kernel⟩, by decide +kernel⟩
theorem zme_230 : zmeth 230 2 := ⟨(zw6 109 rfl rfl), by decide +kernel, ⟨by decide +kernel, by decide +kernel⟩, by decide +kernel⟩
theorem zme_231 : zmeth 231 3 := ⟨(zw6 113 rfl rfl), by decide +kernel, ⟨by decide +kernel, by decide +kernel⟩, by decide +kernel⟩
theorem zme_232 : zmeth 232 2 := ⟨(zw6 117 rfl rfl), by decide +kernel, ⟨by decide +kernel, by decide +kernel⟩, by decide +kernel⟩
theorem zme_233 : zmeth 233 2 := ⟨(zw6 121 rfl rfl), by decide +kernel, ⟨by decide +kernel, by decide +kernel⟩, by decide +kernel⟩
theorem zme_234 : zmeth 234 2 := ⟨(zw6 125 rfl rfl), by decide +kernel, ⟨by decide +kernel, by decide +kernel⟩, by decide +kernel⟩
theorem zme_235 : zmeth 235 2 := ⟨(zw6 129 rfl rfl), by decide +kernel, ⟨by decide +kernel, by decide +kernel⟩, by decide +kernel⟩
theorem zme_236 : zmeth 236 1 := ⟨(zw6 135 rfl rfl), by decide +kernel, ⟨by decide +kernel, by decide +kernel⟩, by decide +kernel⟩
theorem zme_237 : zmeth 237 6 := ⟨(zw6 140 rfl rfl), by decide +kernel, ⟨by decide +kernel, by decide +kernel⟩, by decide +kernel⟩
theorem zme_238 : zmeth 238 3 := ⟨(zw6 143 rfl rfl), by decide +kernel, ⟨by decide +kernel, by decide +kernel⟩, by decide +kernel⟩
theorem zme_239 : zmeth 239 3 := ⟨(zw6 147 rfl rfl), by decide +kernel, ⟨by decide +kernel, by decide +kernel⟩, by decide +kernel⟩
theorem zme_240 : zmeth 240 2 := ⟨(zw6 151 rfl rfl), by decide +kernel, ⟨by decide +kernel, by decide +kernel⟩, by decide +kernel⟩
theorem zme_241 : zmeth 241 2 := ⟨(zw6 155 rfl rfl), by decide +kernel, ⟨by decide +kernel, by decide +kernel⟩, by decide +kernel⟩
theorem zme_242 : zmeth 242 2 := ⟨(zw6 159 rfl rfl), by decide +kernel, ⟨by decide +kernel, by decide +kernel⟩, by decide +kernel⟩
theorem zme_243 : zmeth 243 3 := ⟨(zw6 163 rfl rfl), by decide +kernel, ⟨by decide +kernel, by decide +kernel⟩, by decide +kernel⟩
theorem zme_244 : zmeth 244 0 := ⟨(zw6 167 rfl rfl), by decide +kernel, ⟨by decide +kernel, by decide +kernel⟩, by decide +kernel⟩
theorem zme_245 : zmeth 245 0 := ⟨(zw6 171 rfl rfl), by decide +kernel, ⟨by decide +kernel, by decide +kernel⟩, by decide +kernel⟩
theorem zme_246 : zmeth 246 3 := ⟨(zw6 175 rfl rfl), by decide +kernel, ⟨by decide +kernel, by decide +kernel⟩, by decide +kernel⟩
theorem zme_247 : zmeth 247 2 := ⟨(zw6 179 rfl rfl), by decide +kernel, ⟨by decide +kernel, by decide +kernel⟩, by decide +kernel⟩
theorem zme_248 : zmeth 248 3 := ⟨(zw6 183 rfl rfl), by decide +kernel, ⟨by decide +kernel, by decide +kernel⟩, by decide +kernel⟩
theorem zme_249 : zmeth 249 2 := ⟨(zw6 187 rfl rfl), by decide +kernel, ⟨by decide +kernel, by decide +kernel⟩, by decide +kernel⟩
theorem zme_250 : zmeth 250 3 := ⟨(zw6 192 rfl rfl), by decide +kernel, ⟨by decide +kernel, by decide +kernel⟩, by decide +kernel⟩
theorem zme_251 : zmeth 251 3 := ⟨(zw6 196 rfl rfl), by decide +kernel, ⟨by decide +kernel, by decide +kernel⟩, by decide +kernel⟩
theorem zme_252 : zmeth 252 2 := ⟨(zw6 200 rfl rfl), by decide +kernel, ⟨by decide +kernel, by decide +kernel⟩, by decide +kernel⟩
theorem zme_253 : zmeth 253 1 := ⟨(zw6 204 rfl rfl), by decide +kernel, ⟨by decide +kernel, by decide +kernel⟩, by decide +kernel⟩
theorem zme_254 : zmeth 254 1 := ⟨(zw6 209 rfl rfl), by decide +kernel, ⟨by decide +kernel, by decide +kernel⟩, by decide +kernel⟩
theorem zme_255 : zmeth 255 2 := ⟨(zw6 213 rfl rfl), by decide +kernel, ⟨by decide +kernel, by decide +kernel⟩, by decide +kernel⟩
theorem zme_256 : zmeth 256 4 := ⟨(zw6 217 rfl rfl), by decide +kernel, ⟨by decide +kernel, by decide +kernel⟩, by decide +kernel⟩
theorem zme_257 : zmeth 257 3 := ⟨(zw6 221 rfl rfl), by decide +kernel, ⟨by decide +kernel, by decide +kernel⟩, by decide +kernel⟩
theorem zme_258 : zmeth 258 3 := ⟨(zw6 225 rfl rfl), by decide +kernel, ⟨by decide +kernel, by decide +kernel⟩, by decide +kernel⟩
theorem zme_259 : zmeth 259 3 := ⟨(zw6 229 rfl rfl), by decide +kernel, ⟨by decide +kernel, by decide +kernel⟩, by decide +kernel⟩
theorem zme_260 : zmeth 260 4 := ⟨(zw6 233 rfl rfl), by decide +kernel, ⟨by decide +kernel, by decide +kernel⟩, by decide +kernel⟩
theorem zme_261 : zmeth 261 1 := ⟨(zw6 237 rfl rfl), by decide +kernel, ⟨by decide +kernel, by decide +kernel⟩, by decide +kernel⟩
theorem zme_262 : zmeth 262 1 := ⟨(zw7 11 rfl rfl), by decide +kernel, ⟨by decide +kernel, by decide +kernel⟩, by decide +kernel⟩
theorem zme_263 : zmeth 263 1 := ⟨(zw7 15 rfl rfl), by decide +kernel, ⟨by decide +kernel, by decide +kernel⟩, by decide +kernel⟩
theorem zme_264 : zmeth 264 1 := ⟨(zw7 22 rfl rfl), by decide +kernel, ⟨by decide +kernel, by decide +kernel⟩, by decide +kernel⟩
theorem zme_265 : zmeth 265 2 := ⟨(zw7 26 rfl rfl), by decide +kernel, ⟨by decide +kernel, by decide +kernel⟩, by decide +kernel⟩
theorem zme_266 : zmeth 266 2 := ⟨(zw7 30 rfl rfl), by decide +kernel, ⟨by decide +kernel, by decide +kernel⟩, by decide +kernel⟩
theorem zme_267 : zmeth 267 1 := ⟨(zw7 34 rfl rfl), by decide +kernel, ⟨by decide +kernel, by decide +kernel⟩, by decide +kernel⟩
theorem zme_268 : zmeth 268 2 := ⟨(zw7 39 rfl rfl), by decide +kernel, ⟨by decide +kernel, by decide +kernel⟩, by decide +kernel⟩
theorem zme_269 : zmeth 269 0 := ⟨(zw7 43 rfl rfl), by decide +kernel, ⟨by decide +kernel, by decide +kernel⟩, by decide +kernel⟩
theorem zme_270 : zmeth 270 0 := ⟨(zw7 47 rfl rfl), by decide +kernel, ⟨by decide +kernel, by decide +kernel⟩, by decide +kernel⟩
theorem zme_271 : zmeth 271 1 := ⟨(zw7 51 rfl rfl), by decide +kernel, ⟨by decide +kernel, by decide +kernel⟩, by decide +kernel⟩
theorem zme_272 : zmeth 272 2 := ⟨(zw7 55 rfl rfl), by decide +kernel, ⟨by decide +kernel, by decide +kernel⟩, by decide +kernel⟩
theorem zme_273 : zmeth 273 1 := ⟨(zw7 59 rfl rfl), by decide +kernel, ⟨by decide +kernel, by decide +kernel⟩, by decide +kernel⟩
theorem zme_274 : zmeth 274 1 := ⟨(zw7 63 rfl rfl), by decide +kernel, ⟨by decide +kernel, by decide +kernel⟩, by decide +kernel⟩
theorem zme_275 : zmeth 275 2 := ⟨(zw7 67 rfl rfl), by decide +kernel, ⟨by decide +kernel, by decide +kernel⟩, by decide +kernel⟩
theorem zme_276 : zmeth 276 2 := ⟨(zw7 71 rfl rfl), by decide +kernel, ⟨by decide +kernel, by decide +kernel⟩, by decide +kernel⟩
theorem zme_277 : zmeth 277 3 := ⟨(zw7 75 rfl rfl), by decide +kernel, ⟨by decide +kernel, by decide +kernel⟩, by decide +kernel⟩
theorem zme_278 : zmeth 278 2 := ⟨(zw7 79 rfl rfl), by decide +kernel, ⟨by decide +kernel, by decide +kernel⟩, by decide +kernel⟩
theorem zme_279 : zmeth 279 2 := ⟨(zw7 83 rfl rfl), by decide +kernel, ⟨by decide +kernel, by decide +kernel⟩, by decide +kernel⟩
theorem zme_280 : zmeth 280 2 := ⟨(zw7 87 rfl rfl), by decide +kernel, ⟨by decide +kernel, by decide +kernel⟩, by decide +kernel⟩
theorem zme_281 : zmeth 281 1 := ⟨(zw7 91 rfl rfl), by decide +kernel, ⟨by decide +kernel, by decide +kernel⟩, by decide +kernel⟩
theorem zme_282 : zmeth 282 2 := ⟨(zw7 95 rfl rfl), by decide +kernel, ⟨by decide +kernel, by decide +kernel⟩, by decide +kernel⟩
theorem zme_283 : zmeth 283 1 := ⟨(zw7 100 rfl rfl), by decide +kernel, ⟨by decide +kernel, by decide +kernel⟩, by decide +kernel⟩
theorem zme_284 : zmeth 284 0 := ⟨(zw7 104 rfl rfl), by decide +kernel, ⟨by decide +kernel, by decide +kernel⟩, by decide +kernel⟩
theorem zme_285 : zmeth 285 1 := ⟨(zw7 108 rfl rfl), by decide +kernel, ⟨by decide +kernel, by decide +kernel⟩, by decide +kernel⟩
theorem zme_286 : zmeth 286 0 := ⟨(zw7 112 rfl rfl), by decide +kernel, ⟨by decide +kernel, by decide +kernel⟩, by decide +kernel⟩
theorem zme_287 : zmeth 287 1 := ⟨(zw7 116 rfl rfl), by decide +kernel, ⟨by decide +kernel, by decide +kernel⟩, by decide +kernel⟩
theorem zme_288 : zmeth 288 2 := ⟨(zw7 134 rfl rfl), by decide +kernel, ⟨by decide +kernel, by decide +kernel⟩, by decide +kernel⟩
theorem zme_289 : zmeth 289 1 := ⟨(zw7 138 rfl rfl), by decide +kernel, ⟨by decide +kernel, by decide +kernel⟩, by decide +kernel⟩
theorem zme_290 : zmeth 290 1 := ⟨(zw7 142 rfl rfl), by decide +kernel, ⟨by decide +kernel, by decide +kernel⟩, by decide +kernel⟩
theorem zme_291 : zmeth 291 0 := ⟨(zw7 158 rfl rfl), by decide +kernel, ⟨by decide +kernel, by decide +kernel⟩, by decide +kernel⟩
theorem zme_292 : zmeth 292 0 := ⟨(zw7 162 rfl rfl), by decide +kernel, ⟨by decide +kernel, by decide +kernel⟩, by decide +kernel⟩
theorem zme_293 : zmeth 293 0 := ⟨(zw7 166 rfl rfl), by decide +kernel, ⟨by decide +kernel, by decide +kernel⟩, by decide +kernel⟩
theorem zst_ok0 : zAll zsP zst_0 := ⟨⟨(zw1 28 rfl rfl), (zw1 29 rfl rfl), (zw1 30 rfl rfl), by decide +kernel, by decide +kernel⟩,
  ⟨⟨(zw1 33 rfl rfl), (zw1 34 rfl rfl), (zw1 2 rfl rfl)⟩, zme_2, ⟨by decide +kernel, by decide +kernel⟩, by decide +kernel, by decide +kernel⟩,
  ⟨⟨(zw1 168 rfl rfl), (zw1 169 rfl rfl), (zw1 6 rfl rfl)⟩, zme_6, ⟨by decide +kernel, by decide +kernel⟩, by decide +kernel, by decide +kernel⟩,
  ⟨⟨⟨0, _, rfl⟩, (zw1 188 rfl rfl), (zw1 7 rfl rfl)⟩, zme_7, ⟨by decide +kernel, by decide +kernel⟩, by decide +kernel, by decide +kernel⟩,
  ⟨⟨⟨1, _, rfl⟩, (zw1 215 rfl rfl), (zw1 8 rfl rfl)⟩, zme_8, ⟨by decide +kernel, by decide +kernel⟩, by decide +kernel, by decide +kernel⟩,
  ⟨⟨⟨2, _, rfl⟩, (zw1 226 rfl rfl), (zw1 9 rfl rfl)⟩, zme_9, ⟨by decide +kernel, by decide +kernel⟩, by decide +kernel, by decide +kernel⟩,
  ⟨⟨⟨3, _, rfl⟩, (zw2 32 rfl rfl), (zw1 11 rfl rfl)⟩, zme_11, ⟨by decide +kernel, by decide +kernel⟩, by decide +kernel, by decide +kernel⟩,
  ⟨(zw1 36 rfl rfl), (zw1 29 rfl rfl), (zw1 30 rfl rfl), by decide +kernel, by decide +kernel⟩,
  ⟨⟨⟨4, _, rfl⟩, (zw1 42 rfl rfl), (zw1 3 rfl rfl)⟩, zme_3, ⟨by decide +kernel, by decide +kernel⟩, by decide +kernel, by decide +kernel⟩,
  ⟨⟨(zw1 69 rfl rfl), (zw1 70 rfl rfl), (zw1 4 rfl rfl)⟩, zme_4, ⟨by decide +kernel, by decide +kernel⟩, by decide +kernel, by decide +kernel⟩,
  ⟨(zw1 44 rfl rfl), (zw1 29 rfl rfl), (zw1 30 rfl rfl), by decide +kernel, by decide +kernel⟩,
  ⟨(zw1 72 rfl rfl), (zw1 29 rfl rfl), (zw1 30 rfl rfl), by decide +kernel, by decide +kernel⟩,
  ⟨⟨⟨18, _, rfl⟩, (zw1 78 rfl rfl), (zw1 5 rfl rfl)⟩, zme_5, ⟨by decide +kernel, by decide +kernel⟩, by decide +kernel, by decide +kernel⟩,
  ⟨(zw1 80 rfl rfl), (zw1 29 rfl rfl), (zw1 30 rfl rfl), by decide +kernel, by decide +kernel⟩,
  ⟨(zw1 171 rfl rfl), (zw1 29 rfl rfl), (zw1 30 rfl rfl), by decide +kernel, by decide +kernel⟩,
  ⟨⟨(zw1 174 rfl rfl), (zw1 34 rfl rfl), (zw1 2 rfl rfl)⟩, zme_2, ⟨by decide +kernel, by decide +kernel⟩, by decide +kernel, by decide +kernel⟩,
  ⟨(zw1 190 rfl rfl), (zw1 29 rfl rfl), (zw1 30 rfl rfl), by decide +kernel, by decide +kernel⟩,
  ⟨(zw1 217 rfl rfl), (zw1 29 rfl rfl), (zw1 30 rfl rfl), by decide +kernel, by decide +kernel⟩,
  ⟨(zw1 228 rfl rfl), (zw1 29 rfl rfl), (zw1 30 rfl rfl), by decide +kernel, by decide +kernel⟩,
  ⟨⟨⟨14, _, rfl⟩, (zw1 215 rfl rfl), (zw1 8 rfl rfl)⟩, zme_8, ⟨by decide +kernel, by decide +kernel⟩, by decide +kernel, by decide +kernel⟩,
  ⟨⟨(zw1 232 rfl rfl), (zw1 70 rfl rfl), (zw1 4 rfl rfl)⟩, zme_4, ⟨by decide +kernel, by decide +kernel⟩, by decide +kernel, by decide +kernel⟩,
  ⟨⟨⟨15, _, rfl⟩, (zw1 236 rfl rfl), (zw1 10 rfl rfl)⟩, zme_10, ⟨by decide +kernel, by decide +kernel⟩, by decide +kernel, by decide +kernel⟩,
  ⟨(zw1 238 rfl rfl), (zw1 29 rfl rfl), (zw1 30 rfl rfl), by decide +kernel, by decide +kernel⟩,
  ⟨(zw2 34 rfl rfl), (zw1 29 rfl rfl), (zw1 30 rfl rfl), by decide +kernel, by decide +kernel⟩,
  ⟨⟨(zw2 37 rfl rfl), (zw2 38 rfl rfl), (zw1 13 rfl rfl)⟩, zme_12, ⟨by decide +kernel, by decide +kernel⟩, by decide +kernel, by decide +kernel⟩,
  ⟨⟨(zw2 40 rfl rfl), (zw2 41 rfl rfl), (zw1 12 rfl rfl)⟩, zme_13, ⟨by decide +kernel, by decide +kernel⟩, by decide +kernel, by decide +kernel⟩,
  ⟨(zw2 43 rfl rfl), (zw1 29 rfl rfl), (zw1 30 rfl rfl), by decide +kernel, by decide +kernel⟩,
  ⟨⟨(zw2 46 rfl rfl), (zw2 47 rfl rfl), (zw1 15 rfl rfl)⟩, zme_14, ⟨by decide +kernel, by decide +kernel⟩⟩,
  ⟨⟨(zw2 49 rfl rfl), (zw2 50 rfl rfl), (zw1 15 rfl rfl)⟩, zme_15, ⟨by decide +kernel, by decide +kernel⟩⟩,
  ⟨⟨(zw2 103 rfl rfl), (zw2 104 rfl rfl), (zw2 105 rfl rfl), (zw1 6 rfl rfl)⟩, zme_17, ⟨by decide +kernel, by decide +kernel⟩, by decide +kernel, by decide +kernel⟩,
  ⟨⟨(zw2 128 rfl rfl), (zw2 129 rfl rfl), (zw2 130 rfl rfl), (zw1 2 rfl rfl)⟩, zme_22, ⟨by decide +kernel, by decide +kernel⟩, by decide +kernel, by decide +kernel⟩,
  ⟨⟨(zw2 142 rfl rfl), (zw2 144 rfl rfl), (zwp1 0 rfl), (zw1 1 rfl rfl)⟩, zme_26, ⟨by decide +kernel, by decide +kernel⟩, by decide +kernel, by decide +kernel⟩,
  ⟨⟨(zw2 107 rfl rfl), (zw2 108 rfl rfl), (zw2 109 rfl rfl), (zw1 2 rfl rfl)⟩, zme_18, ⟨by decide +kernel, by decide +kernel⟩, by decide +kernel, by decide +kernel⟩,
  ⟨⟨(zw2 111 rfl rfl), (zw2 112 rfl rfl), (zw2 113 rfl rfl), (zw1 4 rfl rfl)⟩, zme_19, ⟨by decide +kernel, by decide +kernel⟩, by decide +kernel, by decide +kernel⟩,
  ⟨⟨(zw2 123 rfl rfl), (zw2 124 rfl rfl), (zw2 125 rfl rfl), (zw1 3 rfl rfl)⟩, zme_21, ⟨by decide +kernel, by decide +kernel⟩, by decide +kernel, by decide +kernel⟩,
  ⟨(zw2 115 rfl rfl), (zw2 117 rfl rfl), (zw2 116 rfl rfl), (zw1 17 rfl rfl), by decide +kernel, by decide +kernel⟩,
  ⟨⟨(zw2 118 rfl rfl), (zw2 119 rfl rfl), (zw2 120 rfl rfl), (zw1 5 rfl rfl)⟩, zme_20, ⟨by decide +kernel, by decide +kernel⟩, by decide +kernel, by decide +kernel⟩,
  ⟨(zw2 122 rfl rfl), (zw2 117 rfl rfl), (zw2 116 rfl rfl), (zw1 17 rfl rfl), by decide +kernel, by decide +kernel⟩,
  ⟨(zw2 127 rfl rfl), (zw2 117 rfl rfl), (zw2 116 rfl rfl), (zw1 17 rfl rfl), by decide +kernel, by decide +kernel⟩,
  ⟨⟨⟨5, _, rfl⟩, (zw2 133 rfl rfl), (zw1 1 rfl rfl)⟩, zme_23, ⟨by decide +kernel, by decide +kernel⟩⟩,
  ⟨⟨⟨6, _, rfl⟩, (zw2 139 rfl rfl), (zw1 1 rfl rfl)⟩, zme_25, ⟨by decide +kernel, by decide +kernel⟩⟩,
  ⟨⟨⟨7, _, rfl⟩, (zw2 136 rfl rfl), (zw1 1 rfl rfl)⟩, zme_24, ⟨by decide +kernel, by decide +kernel⟩⟩,
  ⟨⟨(zw2 135 rfl rfl), (zw2 136 rfl rfl), (zw1 1 rfl rfl)⟩, zme_24, ⟨by decide +kernel, by decide +kernel⟩⟩,
  ⟨⟨(zw2 135 rfl rfl), (zw2 136 rfl rfl), (zw1 1 rfl rfl)⟩, zme_24, ⟨by decide +kernel, by decide +kernel⟩⟩,
  ⟨⟨(zw2 146 rfl rfl), (zw2 147 rfl rfl), (zw2 148 rfl rfl), (zw1 6 rfl rfl)⟩, zme_27, ⟨by decide +kernel, by decide +kernel⟩, by decide +kernel, by decide +kernel⟩,
  ⟨⟨_, _, _, _, rfl, (zw2 150 rfl rfl), (zw2 151 rfl rfl), (zw2 152 rfl rfl)⟩, (zw1 18 rfl rfl), by decide +kernel, by decide +kernel⟩,
  ⟨⟨(zw2 103 rfl rfl), (zw2 104 rfl rfl), (zw2 105 rfl rfl), (zw1 6 rfl rfl)⟩, zme_17, ⟨by decide +kernel, by decide +kernel⟩, by decide +kernel, by decide +kernel⟩,
  ⟨⟨(zw2 142 rfl rfl), (zw2 144 rfl rfl), (zwp1 0 rfl), (zw1 1 rfl rfl)⟩, zme_26, ⟨by decide +kernel, by decide +kernel⟩, by decide +kernel, by decide +kernel⟩,
  ⟨⟨(zw2 157 rfl rfl), (zw2 158 rfl rfl), (zw2 159 rfl rfl), (zw1 2 rfl rfl)⟩, zme_30, ⟨by decide +kernel, by decide +kernel⟩, by decide +kernel, by decide +kernel⟩,
  ⟨⟨⟨5, _, rfl⟩, (zw2 133 rfl rfl), (zw1 1 rfl rfl)⟩, zme_23, ⟨by decide +kernel, by decide +kernel⟩⟩,
  ⟨⟨⟨6, _, rfl⟩, (zw2 139 rfl rfl), (zw1 1 rfl rfl)⟩, zme_25, ⟨by decide +kernel, by decide +kernel⟩⟩,
  ⟨⟨⟨7, _, rfl⟩, (zw2 136 rfl rfl), (zw1 1 rfl rfl)⟩, zme_24, ⟨by decide +kernel, by decide +kernel⟩⟩,
  ⟨⟨(zw2 103 rfl rfl), (zw2 104 rfl rfl), (zw2 105 rfl rfl), (zw1 6 rfl rfl)⟩, zme_17, ⟨by decide +kernel, by decide +kernel⟩, by decide +kernel, by decide +kernel⟩,
  ⟨⟨(zw2 142 rfl rfl), (zw2 144 rfl rfl), (zwp1 0 rfl), (zw1 1 rfl rfl)⟩, zme_26, ⟨by decide +kernel, by decide +kernel⟩, by decide +kernel, by decide +kernel⟩,
  ⟨⟨(zw2 165 rfl rfl), (zw2 166 rfl rfl), (zw2 167 rfl rfl), (zw1 2 rfl rfl)⟩, zme_32, ⟨by decide +kernel, by decide +kernel⟩, by decide +kernel, by decide +kernel⟩,
  ⟨⟨⟨5, _, rfl⟩, (zw2 133 rfl rfl), (zw1 1 rfl rfl)⟩, zme_23, ⟨by decide +kernel, by decide +kernel⟩⟩,
  ⟨⟨⟨6, _, rfl⟩, (zw2 139 rfl rfl), (zw1 1 rfl rfl)⟩, zme_25, ⟨by decide +kernel, by decide +kernel⟩⟩,
  ⟨⟨⟨7, _, rfl⟩, (zw2 136 rfl rfl), (zw1 1 rfl rfl)⟩, zme_24, ⟨by decide +kernel, by decide +kernel⟩⟩,
  ⟨⟨(zw2 103 rfl rfl), (zw2 104 rfl rfl), (zw2 105 rfl rfl), (zw1 6 rfl rfl)⟩, zme_17, ⟨by decide +kernel, by decide +kernel⟩, by decide +kernel, by decide +kernel⟩,
  ⟨⟨(zw2 142 rfl rfl), (zw2 144 rfl rfl), (zwp1 0 rfl), (zw1 1 rfl rfl)⟩, zme_26, ⟨by decide +kernel, by decide +kernel⟩, by decide +kernel, by decide +kernel⟩,
  ⟨⟨(zw2 173 rfl rfl), (zw2 174 rfl rfl), (zw2 175 rfl rfl), (zw1 2 rfl rfl)⟩, zme_34, ⟨by decide +kernel, by decide +kernel⟩, by decide +kernel, by decide +kernel⟩,
  ⟨⟨⟨5, _, rfl⟩, (zw2 133 rfl rfl), (zw1 1 rfl rfl)⟩, zme_23, ⟨by decide +kernel, by decide +kernel⟩⟩,
  ⟨⟨⟨7, _, rfl⟩, (zw2 136 rfl rfl), (zw1 1 rfl rfl)⟩, zme_24, ⟨by decide +kernel, by decide +kernel⟩⟩,
  ⟨⟨(zw2 103 rfl rfl), (zw2 104 rfl rfl), (zw2 105 rfl rfl), (zw1 6 rfl rfl)⟩, zme_17, ⟨by decide +kernel, by decide +kernel⟩, by decide +kernel, by decide +kernel⟩,
  ⟨⟨(zw2 142 rfl rfl), (zw2 144 rfl rfl), (zwp1 0 rfl), (zw1 1 rfl rfl)⟩, zme_26, ⟨by decide +kernel, by decide +kernel⟩, by decide +kernel, by decide +kernel⟩,
  ⟨⟨(zw2 181 rfl rfl), (zw2 182 rfl rfl), (zw2 183 rfl rfl), (zw1 2 rfl rfl)⟩, zme_36, ⟨by decide +kernel, by decide +kernel⟩, by decide +kernel, by decide +kernel⟩,
  ⟨⟨⟨7, _, rfl⟩, (zw2 136 rfl rfl), (zw1 1 rfl rfl)⟩, zme_24, ⟨by decide +kernel, by decide +kernel⟩⟩,
  ⟨⟨(zw2 103 rfl rfl), (zw2 104 rfl rfl), (zw2 105 rfl rfl), (zw1 6 rfl rfl)⟩, zme_17, ⟨by decide +kernel, by decide +kernel⟩, by decide +kernel, by decide +kernel⟩,
  ⟨⟨(zw2 142 rfl rfl), (zw2 144 rfl rfl), (zwp1 0 rfl), (zw1 1 rfl rfl)⟩, zme_26, ⟨by decide +kernel, by decide +kernel⟩, by decide +kernel, by decide +kernel⟩,
  ⟨⟨(zw2 189 rfl rfl), (zw2 190 rfl rfl), (zw2 191 rfl rfl), (zw1 2 rfl rfl)⟩, zme_38, ⟨by decide +kernel, by decide +kernel⟩, by decide +kernel, by decide +kernel⟩,
  ⟨⟨⟨7, _, rfl⟩, (zw2 136 rfl rfl), (zw1 1 rfl rfl)⟩, zme_24, ⟨by decide +kernel, by decide +kernel⟩⟩,
  ⟨⟨(zw2 103 rfl rfl), (zw2 104 rfl rfl), (zw2 105 rfl rfl), (zw1 6 rfl rfl)⟩, zme_17, ⟨by decide +kernel, by decide +kernel⟩, by decide +kernel, by decide +kernel⟩,
  ⟨⟨(zw2 142 rfl rfl), (zw2 144 rfl rfl), (zwp1 0 rfl), (zw1 1 rfl rfl)⟩, zme_26, ⟨by decide +kernel, by decide +kernel⟩, by decide +kernel, by decide +kernel⟩,
  ⟨⟨(zw2 198 rfl rfl), (zw2 199 rfl rfl), (zw2 200 rfl rfl), (zw1 2 rfl rfl)⟩, zme_40, ⟨by decide +kernel, by decide +kernel⟩, by decide +kernel, by decide +kernel⟩,
  ⟨⟨⟨7, _, rfl⟩, (zw2 136 rfl rfl), (zw1 1 rfl rfl)⟩, zme_24, ⟨by decide +kernel, by decide +kernel⟩⟩,
  ⟨⟨(zw2 202 rfl rfl), (zw2 203 rfl rfl), (zw2 204 rfl rfl), (zw1 3 rfl rfl)⟩, zme_41, ⟨by decide +kernel, by decide +kernel⟩, by decide +kernel, by decide +kernel⟩,
  ⟨⟨⟨11, _, rfl⟩, (zw2 136 rfl rfl), (zw1 1 rfl rfl)⟩, zme_24, ⟨by decide +kernel, by decide +kernel⟩⟩,
  ⟨⟨(zw2 103 rfl rfl), (zw2 104 rfl rfl), (zw2 105 rfl rfl), (zw1 6 rfl rfl)⟩, zme_17, ⟨by decide +kernel, by decide +kernel⟩, by decide +kernel, by decide +kernel⟩,
  ⟨⟨(zw2 142 rfl rfl), (zw2 144 rfl rfl), (zwp1 0 rfl), (zw1 1 rfl rfl)⟩, zme_26, ⟨by decide +kernel, by decide +kernel⟩, by decide +kernel, by decide +kernel⟩,
  ⟨⟨(zw2 211 rfl rfl), (zw2 212 rfl rfl), (zw2 213 rfl rfl), (zw1 2 rfl rfl)⟩, zme_43, ⟨by decide +kernel, by decide +kernel⟩, by decide +kernel, by decide +kernel⟩,
  ⟨⟨(zw2 103 rfl rfl), (zw2 104 rfl rfl), (zw2 105 rfl rfl), (zw1 6 rfl rfl)⟩, zme_17, ⟨by decide +kernel, by decide +kernel⟩, by decide +kernel, by decide +kernel⟩,
  ⟨⟨(zw2 142 rfl rfl), (zw2 144 rfl rfl), (zwp1 0 rfl), (zw1 1 rfl rfl)⟩, zme_26, ⟨by decide +kernel, by decide +kernel⟩, by decide +kernel, by decide +kernel⟩,
  ⟨⟨(zw2 219 rfl rfl), (zw2 220 rfl rfl), (zw2 221 rfl rfl), (zw1 2 rfl rfl)⟩, zme_45, ⟨by decide +kernel, by decide +kernel⟩, by decide +kernel, by decide +kernel⟩,
  ⟨⟨⟨5, _, rfl⟩, (zw2 133 rfl rfl), (zw1 1 rfl rfl)⟩, zme_23, ⟨by decide +kernel, by decide +kernel⟩⟩,
  ⟨⟨⟨7, _, rfl⟩, (zw2 136 rfl rfl), (zw1 1 rfl rfl)⟩, zme_24, ⟨by decide +kernel, by decide +kernel⟩⟩,
  ⟨⟨(zw2 223 rfl rfl), (zw2 224 rfl rfl), (zw2 225 rfl rfl), (zw1 5 rfl rfl)⟩, zme_46, ⟨by decide +kernel, by decide +kernel⟩, by decide +kernel, by decide +kernel⟩,
  ⟨⟨(zw2 103 rfl rfl), (zw2 104 rfl rfl), (zw2 105 rfl rfl), (zw1 6 rfl rfl)⟩, zme_17, ⟨by decide +kernel, by decide +kernel⟩, by decide +kernel, by decide +kernel⟩,
  ⟨⟨(zw2 142 rfl rfl), (zw2 144 rfl rfl), (zwp1 0 rfl), (zw1 1 rfl rfl)⟩, zme_26, ⟨by decide +kernel, by decide +kernel⟩, by decide +kernel, by decide +kernel⟩,
  ⟨⟨(zw2 232 rfl rfl), (zw2 233 rfl rfl), (zw2 234 rfl rfl), (zw1 2 rfl rfl)⟩, zme_48, ⟨by decide +kernel, by decide +kernel⟩, by decide +kernel, by decide +kernel⟩,
  ⟨⟨⟨5, _, rfl⟩, (zw2 133 rfl rfl), (zw1 1 rfl rfl)⟩, zme_23, ⟨by decide +kernel, by decide +kernel⟩⟩,
  ⟨⟨⟨7, _, rfl⟩, (zw2 136 rfl rfl), (zw1 1 rfl rfl)⟩, zme_24, ⟨by decide +kernel, by decide +kernel⟩⟩,
  ⟨⟨(zw2 223 rfl rfl), (zw2 224 rfl rfl), (zw2 225 rfl rfl), (zw1 5 rfl rfl)⟩, zme_46, ⟨by decide +kernel, by decide +kernel⟩, by decide +kernel, by decide +kernel⟩,
  ⟨⟨(zw2 103 rfl rfl), (zw2 104 rfl rfl), (zw2 105 rfl rfl), (zw1 6 rfl rfl)⟩, zme_17, ⟨by decide +kernel, by decide +kernel⟩, by decide +kernel, by decide +kernel⟩,
  ⟨⟨(zw2 142 rfl rfl), (zw2 144 rfl rfl), (zwp1 0 rfl), (zw1 1 rfl rfl)⟩, zme_26, ⟨by decide +kernel, by decide +kernel⟩, by decide +kernel, by decide +kernel⟩,
  ⟨⟨(zw3 0 rfl rfl), (zw3 1 rfl rfl), (zw3 2 rfl rfl), (zw1 2 rfl rfl)⟩, zme_50, ⟨by decide +kernel, by decide +kernel⟩, by decide +kernel, by decide +kernel⟩,
  ⟨⟨⟨5, _, rfl⟩, (zw2 133 rfl rfl), (zw1 1 rfl rfl)⟩, zme_23, ⟨by decide +kernel, by decide +kernel⟩⟩,
  ⟨⟨(zw3 4 rfl rfl), (zw3 5 rfl rfl), (zw3 6 rfl rfl), (zw1 5 rfl rfl)⟩, zme_51, ⟨by decide +kernel, by decide +kernel⟩, by decide +kernel, by decide +kernel⟩,
  ⟨⟨(zw3 8 rfl rfl), (zw3 9 rfl rfl), (zw3 10 rfl rfl), (zw1 5 rfl rfl)⟩, zme_52, ⟨by decide +kernel, by decide +kernel⟩, by decide +kernel, by decide +kernel⟩,
  ⟨⟨(zw3 12 rfl rfl), (zw3 13 rfl rfl), (zw3 14 rfl rfl), (zw1 5 rfl rfl)⟩, zme_53, ⟨by decide +kernel, by decide +kernel⟩, by decide +kernel, by decide +kernel⟩,
  ⟨⟨(zw3 16 rfl rfl), (zw3 18 rfl rfl), (zwp1 1 rfl), (zw1 5 rfl rfl)⟩, zme_54, ⟨by decide +kernel, by decide +kernel⟩, by decide +kernel, by decide +kernel⟩, trivial⟩
theorem zst_ok1 : zAll zsP zst_1 := ⟨⟨⟨(zw3 20 rfl rfl), (zw3 5 rfl rfl), (zw3 6 rfl rfl), (zw1 5 rfl rfl)⟩, zme_51, ⟨by decide +kernel, by decide +kernel⟩, by decide +kernel, by decide +kernel⟩,
  ⟨⟨(zw2 103 rfl rfl), (zw2 104 rfl rfl), (zw2 105 rfl rfl), (zw1 6 rfl rfl)⟩, zme_17, ⟨by decide +kernel, by decide +kernel⟩, by decide +kernel, by decide +kernel⟩,
  ⟨⟨(zw2 142 rfl rfl), (zw2 144 rfl rfl), (zwp1 0 rfl), (zw1 1 rfl rfl)⟩, zme_26, ⟨by decide +kernel, by decide +kernel⟩, by decide +kernel, by decide +kernel⟩,
  ⟨⟨(zw3 25 rfl rfl), (zw3 26 rfl rfl), (zw3 27 rfl rfl), (zw1 2 rfl rfl)⟩, zme_56, ⟨by decide +kernel, by decide +kernel⟩, by decide +kernel, by decide +kernel⟩,
  ⟨⟨⟨5, _, rfl⟩, (zw2 133 rfl rfl), (zw1 1 rfl rfl)⟩, zme_23, ⟨by decide +kernel, by decide +kernel⟩⟩,
  ⟨⟨(zw3 4 rfl rfl), (zw3 5 rfl rfl), (zw3 6 rfl rfl), (zw1 5 rfl rfl)⟩, zme_51, ⟨by decide +kernel, by decide +kernel⟩, by decide +kernel, by decide +kernel⟩,
  ⟨⟨(zw3 29 rfl rfl), (zw3 13 rfl rfl), (zw3 14 rfl rfl), (zw1 5 rfl rfl)⟩, zme_53, ⟨by decide +kernel, by decide +kernel⟩, by decide +kernel, by decide +kernel⟩,
  ⟨⟨(zw2 103 rfl rfl), (zw2 104 rfl rfl), (zw2 105 rfl rfl), (zw1 6 rfl rfl)⟩, zme_17, ⟨by decide +kernel, by decide +kernel⟩, by decide +kernel, by decide +kernel⟩,
  ⟨⟨(zw2 142 rfl rfl), (zw2 144 rfl rfl), (zwp1 0 rfl), (zw1 1 rfl rfl)⟩, zme_26, ⟨by decide +kernel, by decide +kernel⟩, by decide +kernel, by decide +kernel⟩,
  ⟨⟨(zw3 34 rfl rfl), (zw3 35 rfl rfl), (zw3 36 rfl rfl), (zw1 2 rfl rfl)⟩, zme_58, ⟨by decide +kernel, by decide +kernel⟩, by decide +kernel, by decide +kernel⟩,
  ⟨⟨⟨6, _, rfl⟩, (zw2 139 rfl rfl), (zw1 1 rfl rfl)⟩, zme_25, ⟨by decide +kernel, by decide +kernel⟩⟩,
  ⟨⟨⟨8, _, rfl⟩, (zw1 236 rfl rfl), (zw1 10 rfl rfl)⟩, zme_10, ⟨by decide +kernel, by decide +kernel⟩, by decide +kernel, by decide +kernel⟩,
  ⟨⟨(zw3 40 rfl rfl), (zw3 41 rfl rfl), (zw3 42 rfl rfl), (zw1 8 rfl rfl)⟩, zme_59, ⟨by decide +kernel, by decide +kernel⟩, by decide +kernel, by decide +kernel⟩,
  ⟨⟨⟨9, _, rfl⟩, (zw2 139 rfl rfl), (zw1 1 rfl rfl)⟩, zme_25, ⟨by decide +kernel, by decide +kernel⟩⟩,
  ⟨⟨(zw3 45 rfl rfl), (zw3 46 rfl rfl), (zw3 47 rfl rfl), (zw1 3 rfl rfl)⟩, zme_60, ⟨by decide +kernel, by decide +kernel⟩, by decide +kernel, by decide +kernel⟩,
  ⟨⟨(zw3 70 rfl rfl), (zw3 72 rfl rfl), (zwp1 4 rfl), (zw1 8 rfl rfl)⟩, zme_66, ⟨by decide +kernel, by decide +kernel⟩, by decide +kernel, by decide +kernel⟩,
  ⟨⟨(zw3 81 rfl rfl), (zw3 83 rfl rfl), (zwp1 5 rfl), (zw1 8 rfl rfl)⟩, zme_69, ⟨by decide +kernel, by decide +kernel⟩, by decide +kernel, by decide +kernel⟩,
  ⟨⟨(zw3 89 rfl rfl), (zw3 90 rfl rfl), (zw3 91 rfl rfl), (zw1 4 rfl rfl)⟩, zme_71, ⟨by decide +kernel, by decide +kernel⟩, by decide +kernel, by decide +kernel⟩,
  ⟨⟨(zw3 77 rfl rfl), (zw3 78 rfl rfl), (zw3 79 rfl rfl), (zw1 10 rfl rfl)⟩, zme_68, ⟨by decide +kernel, by decide +kernel⟩, by decide +kernel, by decide +kernel⟩,
  ⟨⟨_, _, _, _, rfl, (zw3 94 rfl rfl), (zw3 95 rfl rfl), (zw3 96 rfl rfl)⟩, (zw1 18 rfl rfl), by decide +kernel, by decide +kernel⟩,
  ⟨⟨_, _, _, _, rfl, (zw3 97 rfl rfl), (zw3 98 rfl rfl), (zw3 99 rfl rfl)⟩, (zw1 18 rfl rfl), by decide +kernel, by decide +kernel⟩,
  ⟨⟨(zw3 100 rfl rfl), (zw3 102 rfl rfl), (zwp1 6 rfl), (zw1 8 rfl rfl)⟩, zme_74, ⟨by decide +kernel, by decide +kernel⟩, by decide +kernel, by decide +kernel⟩,
  ⟨⟨(zw3 49 rfl rfl), (zw3 50 rfl rfl), (zw3 51 rfl rfl), (zw1 4 rfl rfl)⟩, zme_61, ⟨by decide +kernel, by decide +kernel⟩, by decide +kernel, by decide +kernel⟩,
  ⟨⟨(zw3 56 rfl rfl), (zw3 57 rfl rfl), (zw3 58 rfl rfl), (zw1 3 rfl rfl)⟩, zme_63, ⟨by decide +kernel, by decide +kernel⟩, by decide +kernel, by decide +kernel⟩,
  ⟨⟨⟨19, _, rfl⟩, (zw3 54 rfl rfl), (zw1 1 rfl rfl)⟩, zme_62, ⟨by decide +kernel, by decide +kernel⟩⟩,
  ⟨⟨(zw3 61 rfl rfl), (zw3 63 rfl rfl), (zwp1 2 rfl), (zw1 3 rfl rfl)⟩, zme_64, ⟨by decide +kernel, by decide +kernel⟩, by decide +kernel, by decide +kernel⟩,
  ⟨⟨(zw3 66 rfl rfl), (zw3 68 rfl rfl), (zwp1 3 rfl), (zw1 3 rfl rfl)⟩, zme_65, ⟨by decide +kernel, by decide +kernel⟩, by decide +kernel, by decide +kernel⟩,
  ⟨⟨(zw3 77 rfl rfl), (zw3 78 rfl rfl), (zw3 79 rfl rfl), (zw1 10 rfl rfl)⟩, zme_68, ⟨by decide +kernel, by decide +kernel⟩, by decide +kernel, by decide +kernel⟩,
  ⟨⟨(zw3 74 rfl rfl), (zw3 75 rfl rfl), (zw1 8 rfl rfl)⟩, zme_67, ⟨by decide +kernel, by decide +kernel⟩⟩,
  ⟨⟨(zw3 77 rfl rfl), (zw3 78 rfl rfl), (zw3 79 rfl rfl), (zw1 10 rfl rfl)⟩, zme_68, ⟨by decide +kernel, by decide +kernel⟩, by decide +kernel, by decide +kernel⟩,
  ⟨⟨(zw3 74 rfl rfl), (zw3 75 rfl rfl), (zw1 8 rfl rfl)⟩, zme_67, ⟨by decide +kernel, by decide +kernel⟩⟩,
  ⟨⟨(zw3 85 rfl rfl), (zw3 86 rfl rfl), (zw3 87 rfl rfl), (zw1 4 rfl rfl)⟩, zme_70, ⟨by decide +kernel, by decide +kernel⟩, by decide +kernel, by decide +kernel⟩,
  ⟨⟨(zw3 77 rfl rfl), (zw3 78 rfl rfl), (zw3 79 rfl rfl), (zw1 10 rfl rfl)⟩, zme_68, ⟨by decide +kernel, by decide +kernel⟩, by decide +kernel, by decide +kernel⟩,
  ⟨⟨_, _, _, _, rfl, (zw3 94 rfl rfl), (zw3 95 rfl rfl), (zw3 96 rfl rfl)⟩, (zw1 18 rfl rfl), by decide +kernel, by decide +kernel⟩,
  ⟨⟨(zw3 104 rfl rfl), (zw3 105 rfl rfl), (zw3 106 rfl rfl), (zw1 5 rfl rfl)⟩, zme_75, ⟨by decide +kernel, by decide +kernel⟩, by decide +kernel, by decide +kernel⟩,
  ⟨⟨(zw3 110 rfl rfl), (zw3 111 rfl rfl), (zw1 8 rfl rfl)⟩, zme_76, ⟨by decide +kernel, by decide +kernel⟩⟩,
  ⟨⟨_, _, _, _, rfl, (zw3 109 rfl rfl), (zw3 95 rfl rfl), (zw3 96 rfl rfl)⟩, (zw1 18 rfl rfl), by decide +kernel, by decide +kernel⟩,
  ⟨⟨(zw2 103 rfl rfl), (zw2 104 rfl rfl), (zw2 105 rfl rfl), (zw1 6 rfl rfl)⟩, zme_17, ⟨by decide +kernel, by decide +kernel⟩, by decide +kernel, by decide +kernel⟩,
  ⟨⟨(zw2 142 rfl rfl), (zw2 144 rfl rfl), (zwp1 0 rfl), (zw1 1 rfl rfl)⟩, zme_26, ⟨by decide +kernel, by decide +kernel⟩, by decide +kernel, by decide +kernel⟩,
  ⟨⟨(zw3 117 rfl rfl), (zw3 118 rfl rfl), (zw3 119 rfl rfl), (zw1 2 rfl rfl)⟩, zme_78, ⟨by decide +kernel, by decide +kernel⟩, by decide +kernel, by decide +kernel⟩,
  ⟨⟨(zw3 121 rfl rfl), (zw3 122 rfl rfl), (zw3 123 rfl rfl), (zw1 4 rfl rfl)⟩, zme_79, ⟨by decide +kernel, by decide +kernel⟩, by decide +kernel, by decide +kernel⟩,
  ⟨⟨(zw3 125 rfl rfl), (zw3 126 rfl rfl), (zw3 127 rfl rfl), (zw1 5 rfl rfl)⟩, zme_80, ⟨by decide +kernel, by decide +kernel⟩, by decide +kernel, by decide +kernel⟩,
  ⟨⟨(zw3 16 rfl rfl), (zw3 18 rfl rfl), (zwp1 1 rfl), (zw1 5 rfl rfl)⟩, zme_54, ⟨by decide +kernel, by decide +kernel⟩, by decide +kernel, by decide +kernel⟩,
  ⟨⟨(zw3 137 rfl rfl), (zw2 133 rfl rfl), (zw1 1 rfl rfl)⟩, zme_23, ⟨by decide +kernel, by decide +kernel⟩⟩,
  ⟨⟨(zw3 138 rfl rfl), (zw2 139 rfl rfl), (zw1 1 rfl rfl)⟩, zme_25, ⟨by decide +kernel, by decide +kernel⟩⟩,
  ⟨⟨(zw2 135 rfl rfl), (zw2 136 rfl rfl), (zw1 1 rfl rfl)⟩, zme_24, ⟨by decide +kernel, by decide +kernel⟩⟩,
  ⟨⟨(zw3 137 rfl rfl), (zw2 133 rfl rfl), (zw1 1 rfl rfl)⟩, zme_23, ⟨by decide +kernel, by decide +kernel⟩⟩,
  ⟨⟨(zw3 143 rfl rfl), (zw3 144 rfl rfl), (zw3 145 rfl rfl), (zw1 3 rfl rfl)⟩, zme_84, ⟨by decide +kernel, by decide +kernel⟩, by decide +kernel, by decide +kernel⟩,
  ⟨⟨⟨11, _, rfl⟩, (zw2 136 rfl rfl), (zw1 1 rfl rfl)⟩, zme_24, ⟨by decide +kernel, by decide +kernel⟩⟩,
  ⟨⟨(zw3 137 rfl rfl), (zw2 133 rfl rfl), (zw1 1 rfl rfl)⟩, zme_23, ⟨by decide +kernel, by decide +kernel⟩⟩,
  ⟨⟨(zw3 151 rfl rfl), (zw3 5 rfl rfl), (zw3 6 rfl rfl), (zw1 5 rfl rfl)⟩, zme_51, ⟨by decide +kernel, by decide +kernel⟩, by decide +kernel, by decide +kernel⟩,
  ⟨⟨(zw3 137 rfl rfl), (zw2 133 rfl rfl), (zw1 1 rfl rfl)⟩, zme_23, ⟨by decide +kernel, by decide +kernel⟩⟩,
  ⟨⟨(zw3 151 rfl rfl), (zw3 5 rfl rfl), (zw3 6 rfl rfl), (zw1 5 rfl rfl)⟩, zme_51, ⟨by decide +kernel, by decide +kernel⟩, by decide +kernel, by decide +kernel⟩,
  ⟨⟨(zw3 137 rfl rfl), (zw2 133 rfl rfl), (zw1 1 rfl rfl)⟩, zme_23, ⟨by decide +kernel, by decide +kernel⟩⟩,
  ⟨⟨(zw3 138 rfl rfl), (zw2 139 rfl rfl), (zw1 1 rfl rfl)⟩, zme_25, ⟨by decide +kernel, by decide +kernel⟩⟩,
  ⟨⟨(zw2 135 rfl rfl), (zw2 136 rfl rfl), (zw1 1 rfl rfl)⟩, zme_24, ⟨by decide +kernel, by decide +kernel⟩⟩,
  ⟨⟨(zw3 161 rfl rfl), (zw3 46 rfl rfl), (zw3 47 rfl rfl), (zw1 3 rfl rfl)⟩, zme_60, ⟨by decide +kernel, by decide +kernel⟩, by decide +kernel, by decide +kernel⟩,
  ⟨⟨(zw3 137 rfl rfl), (zw2 133 rfl rfl), (zw1 1 rfl rfl)⟩, zme_23, ⟨by decide +kernel, by decide +kernel⟩⟩,
  ⟨⟨(zw3 138 rfl rfl), (zw2 139 rfl rfl), (zw1 1 rfl rfl)⟩, zme_25, ⟨by decide +kernel, by decide +kernel⟩⟩,
  ⟨⟨(zw2 135 rfl rfl), (zw2 136 rfl rfl), (zw1 1 rfl rfl)⟩, zme_24, ⟨by decide +kernel, by decide +kernel⟩⟩,
  ⟨⟨(zw3 137 rfl rfl), (zw2 133 rfl rfl), (zw1 1 rfl rfl)⟩, zme_23, ⟨by decide +kernel, by decide +kernel⟩⟩,
  ⟨⟨(zw3 161 rfl rfl), (zw3 46 rfl rfl), (zw3 47 rfl rfl), (zw1 3 rfl rfl)⟩, zme_60, ⟨by decide +kernel, by decide +kernel⟩, by decide +kernel, by decide +kernel⟩,
  ⟨⟨(zw3 137 rfl rfl), (zw2 133 rfl rfl), (zw1 1 rfl rfl)⟩, zme_23, ⟨by decide +kernel, by decide +kernel⟩⟩,
  ⟨⟨(zw3 137 rfl rfl), (zw2 133 rfl rfl), (zw1 1 rfl rfl)⟩, zme_23, ⟨by decide +kernel, by decide +kernel⟩⟩,
  ⟨⟨(zw3 138 rfl rfl), (zw2 139 rfl rfl), (zw1 1 rfl rfl)⟩, zme_25, ⟨by decide +kernel, by decide +kernel⟩⟩,
  ⟨⟨(zw3 137 rfl rfl), (zw2 133 rfl rfl), (zw1 1 rfl rfl)⟩, zme_23, ⟨by decide +kernel, by decide +kernel⟩⟩,
  ⟨⟨(zw3 138 rfl rfl), (zw2 139 rfl rfl), (zw1 1 rfl rfl)⟩, zme_25, ⟨by decide +kernel, by decide +kernel⟩⟩,
  ⟨⟨(zw2 135 rfl rfl), (zw2 136 rfl rfl), (zw1 1 rfl rfl)⟩, zme_24, ⟨by decide +kernel, by decide +kernel⟩⟩,
  ⟨⟨(zw3 184 rfl rfl), (zw3 185 rfl rfl), (zw3 186 rfl rfl), (zw1 10 rfl rfl)⟩, zme_93, ⟨by decide +kernel, by decide +kernel⟩, by decide +kernel, by decide +kernel⟩,
  ⟨⟨⟨12, _, rfl⟩, (zw2 136 rfl rfl), (zw1 1 rfl rfl)⟩, zme_24, ⟨by decide +kernel, by decide +kernel⟩⟩,
  ⟨⟨(zw3 137 rfl rfl), (zw2 133 rfl rfl), (zw1 1 rfl rfl)⟩, zme_23, ⟨by decide +kernel, by decide +kernel⟩⟩,
  ⟨⟨(zw3 138 rfl rfl), (zw2 139 rfl rfl), (zw1 1 rfl rfl)⟩, zme_25, ⟨by decide +kernel, by decide +kernel⟩⟩,
  ⟨⟨(zw3 184 rfl rfl), (zw3 185 rfl rfl), (zw3 186 rfl rfl), (zw1 10 rfl rfl)⟩, zme_93, ⟨by decide +kernel, by decide +kernel⟩, by decide +kernel, by decide +kernel⟩,
  ⟨⟨(zw3 137 rfl rfl), (zw2 133 rfl rfl), (zw1 1 rfl rfl)⟩, zme_23, ⟨by decide +kernel, by decide +kernel⟩⟩,
  ⟨⟨(zw3 138 rfl rfl), (zw2 139 rfl rfl), (zw1 1 rfl rfl)⟩, zme_25, ⟨by decide +kernel, by decide +kernel⟩⟩,
  ⟨⟨(zw3 197 rfl rfl), (zw3 198 rfl rfl), (zw3 199 rfl rfl), (zw1 11 rfl rfl)⟩, zme_96, ⟨by decide +kernel, by decide +kernel⟩, by decide +kernel, by decide +kernel⟩,
  ⟨⟨(zw4 147 rfl rfl), (zw4 148 rfl rfl), (zw4 149 rfl rfl), (zw1 11 rfl rfl)⟩, zme_142, ⟨by decide +kernel, by decide +kernel⟩, by decide +kernel, by decide +kernel⟩,
  ⟨⟨(zw3 201 rfl rfl), (zw3 202 rfl rfl), (zw3 203 rfl rfl), (zw1 11 rfl rfl)⟩, zme_97, ⟨by decide +kernel, by decide +kernel⟩, by decide +kernel, by decide +kernel⟩,
  ⟨⟨(zw4 21 rfl rfl), (zw4 22 rfl rfl), (zw4 23 rfl rfl), (zw1 11 rfl rfl)⟩, zme_111, ⟨by decide +kernel, by decide +kernel⟩, by decide +kernel, by decide +kernel⟩,
  ⟨⟨(zw3 205 rfl rfl), (zw3 206 rfl rfl), (zw3 207 rfl rfl), (zw1 13 rfl rfl)⟩, zme_98, ⟨by decide +kernel, by decide +kernel⟩, by decide +kernel, by decide +kernel⟩,
  ⟨⟨(zw3 209 rfl rfl), (zw7 167 rfl rfl), (zw2 65 rfl rfl), (zw3 210 rfl rfl), (zw1 12 rfl rfl)⟩, zme_99, ⟨by decide +kernel, by decide +kernel⟩, by decide +kernel, by decide +kernel⟩,
  ⟨⟨(zw4 3 rfl rfl), (zw4 5 rfl rfl), (zw4 6 rfl rfl), (zw4 4 rfl rfl), (zw1 12 rfl rfl)⟩, zme_106, ⟨by decide +kernel, by decide +kernel⟩, by decide +kernel⟩,
  ⟨⟨(zw3 212 rfl rfl), (zw7 168 rfl rfl), (zwb 0 rfl), (zw3 214 rfl rfl), (zw1 12 rfl rfl)⟩, zme_100, ⟨by decide +kernel, by decide +kernel⟩, by decide +kernel⟩,
  ⟨⟨(zw4 8 rfl rfl), (zw4 9 rfl rfl), (zw1 21 rfl rfl)⟩, zme_107, ⟨by decide +kernel, by decide +kernel⟩⟩,
  ⟨⟨(zw4 17 rfl rfl), (zw4 18 rfl rfl), (zw1 15 rfl rfl)⟩, zme_110, ⟨by decide +kernel, by decide +kernel⟩⟩,
  ⟨⟨(zw3 216 rfl rfl), (zw7 169 rfl rfl), (zwb 1 rfl), (zw3 218 rfl rfl), (zw1 12 rfl rfl)⟩, zme_101, ⟨by decide +kernel, by decide +kernel⟩, by decide +kernel⟩,
  ⟨⟨(zw3 231 rfl rfl), (zw3 232 rfl rfl), (zw1 20 rfl rfl)⟩, zme_105, ⟨by decide +kernel, by decide +kernel⟩⟩,
  ⟨⟨(zw3 220 rfl rfl), (zw3 221 rfl rfl), (zw1 19 rfl rfl)⟩, zme_102, ⟨by decide +kernel, by decide +kernel⟩⟩,
  ⟨⟨_, _, _, _, rfl, (zw3 223 rfl rfl), (zw3 224 rfl rfl), (zw3 225 rfl rfl)⟩, (zw1 18 rfl rfl), by decide +kernel, by decide +kernel⟩,
  ⟨⟨(zw3 227 rfl rfl), (zw3 228 rfl rfl), (zw1 19 rfl rfl)⟩, zme_104, ⟨by decide +kernel, by decide +kernel⟩⟩,
  ⟨(zw4 2 rfl rfl), (zw2 117 rfl rfl), (zw2 116 rfl rfl), (zw1 17 rfl rfl), by decide +kernel, by decide +kernel⟩,
  ⟨⟨_, _, _, _, rfl, (zw4 1 rfl rfl), (zw2 151 rfl rfl), (zw2 152 rfl rfl)⟩, (zw1 18 rfl rfl), by decide +kernel, by decide +kernel⟩,
  ⟨⟨(zw4 11 rfl rfl), (zw4 12 rfl rfl), (zw1 20 rfl rfl)⟩, zme_108, ⟨by decide +kernel, by decide +kernel⟩⟩,
  ⟨⟨(zw4 14 rfl rfl), (zw4 15 rfl rfl), (zw1 20 rfl rfl)⟩, zme_109, ⟨by decide +kernel, by decide +kernel⟩⟩,
  ⟨⟨(zw4 20 rfl rfl), (zw4 12 rfl rfl), (zw1 20 rfl rfl)⟩, zme_108, ⟨by decide +kernel, by decide +kernel⟩⟩,
  ⟨⟨(zw4 25 rfl rfl), (zw4 26 rfl rfl), (zw1 11 rfl rfl)⟩, zme_112, ⟨by decide +kernel, by decide +kernel⟩⟩,
  ⟨⟨(zw4 36 rfl rfl), (zw4 37 rfl rfl), (zw4 38 rfl rfl), (zw1 13 rfl rfl)⟩, zme_113, ⟨by decide +kernel, by decide +kernel⟩, by decide +kernel, by decide +kernel⟩,
  ⟨⟨(zw4 116 rfl rfl), (zw4 117 rfl rfl), (zw4 118 rfl rfl), (zw1 13 rfl rfl)⟩, zme_133, ⟨by decide +kernel, by decide +kernel⟩, by decide +kernel, by decide +kernel⟩,
  ⟨⟨(zw4 138 rfl rfl), (zw4 140 rfl rfl), (zwp1 7 rfl), (zw1 11 rfl rfl)⟩, zme_140, ⟨by decide +kernel, by decide +kernel⟩, by decide +kernel, by decide +kernel⟩,
  ⟨⟨(zw4 40 rfl rfl), (zw7 170 rfl rfl), (zw2 65 rfl rfl), (zw4 41 rfl rfl), (zw1 12 rfl rfl)⟩, zme_114, ⟨by decide +kernel, by decide +kernel⟩, by decide +kernel, by decide +kernel⟩, trivial⟩
theorem zst_ok2 : zAll zsP zst_2 := ⟨⟨⟨(zw4 73 rfl rfl), (zw4 74 rfl rfl), (zw4 75 rfl rfl), (zw1 14 rfl rfl)⟩, zme_122, ⟨by decide +kernel, by decide +kernel⟩, by decide +kernel, by decide +kernel⟩,
  ⟨⟨(zw3 212 rfl rfl), (zw7 168 rfl rfl), (zwb 0 rfl), (zw3 214 rfl rfl), (zw1 12 rfl rfl)⟩, zme_100, ⟨by decide +kernel, by decide +kernel⟩, by decide +kernel⟩,
  ⟨⟨(zw4 43 rfl rfl), (zw7 171 rfl rfl), (zwb 2 rfl), (zw4 45 rfl rfl), (zw1 12 rfl rfl)⟩, zme_115, ⟨by decide +kernel, by decide +kernel⟩, by decide +kernel⟩,
  ⟨⟨(zw4 82 rfl rfl), (zw7 172 rfl rfl), (zwb 3 rfl), (zw4 84 rfl rfl), (zw1 12 rfl rfl)⟩, zme_124, ⟨by decide +kernel, by decide +kernel⟩, by decide +kernel⟩,
  ⟨⟨(zw4 3 rfl rfl), (zw4 5 rfl rfl), (zw4 6 rfl rfl), (zw4 4 rfl rfl), (zw1 12 rfl rfl)⟩, zme_106, ⟨by decide +kernel, by decide +kernel⟩, by decide +kernel⟩,
  ⟨⟨(zw3 212 rfl rfl), (zw7 168 rfl rfl), (zwb 0 rfl), (zw3 214 rfl rfl), (zw1 12 rfl rfl)⟩, zme_100, ⟨by decide +kernel, by decide +kernel⟩, by decide +kernel⟩,
  ⟨⟨(zw4 47 rfl rfl), (zw4 48 rfl rfl), (zw1 15 rfl rfl)⟩, zme_116, ⟨by decide +kernel, by decide +kernel⟩⟩,
  ⟨⟨(zw4 50 rfl rfl), (zw4 51 rfl rfl), (zw1 15 rfl rfl)⟩, zme_117, ⟨by decide +kernel, by decide +kernel⟩⟩,
  ⟨⟨(zw4 64 rfl rfl), (zw4 65 rfl rfl), (zw1 15 rfl rfl)⟩, zme_121, ⟨by decide +kernel, by decide +kernel⟩⟩,
  ⟨⟨(zw4 53 rfl rfl), (zw4 54 rfl rfl), (zw1 15 rfl rfl)⟩, zme_118, ⟨by decide +kernel, by decide +kernel⟩⟩,
  ⟨⟨(zw4 56 rfl rfl), (zw4 57 rfl rfl), (zw1 14 rfl rfl)⟩, zme_119, ⟨by decide +kernel, by decide +kernel⟩⟩,
  ⟨⟨(zw4 61 rfl rfl), (zw4 62 rfl rfl), (zw1 22 rfl rfl)⟩, zme_120, ⟨by decide +kernel, by decide +kernel⟩⟩,
  ⟨⟨(zw4 53 rfl rfl), (zw4 54 rfl rfl), (zw1 15 rfl rfl)⟩, zme_118, ⟨by decide +kernel, by decide +kernel⟩⟩,
  ⟨⟨(zw4 77 rfl rfl), (zw4 78 rfl rfl), (zw4 79 rfl rfl), (zw1 14 rfl rfl)⟩, zme_123, ⟨by decide +kernel, by decide +kernel⟩, by decide +kernel, by decide +kernel⟩,
  ⟨⟨(zw4 86 rfl rfl), (zw7 173 rfl rfl), (zwb 4 rfl), (zw4 88 rfl rfl), (zw1 12 rfl rfl)⟩, zme_125, ⟨by decide +kernel, by decide +kernel⟩, by decide +kernel⟩,
  ⟨⟨(zw4 110 rfl rfl), (zw4 111 rfl rfl), (zw4 112 rfl rfl), (zw1 14 rfl rfl)⟩, zme_132, ⟨by decide +kernel, by decide +kernel⟩, by decide +kernel, by decide +kernel⟩,
  ⟨⟨(zw4 90 rfl rfl), (zw4 78 rfl rfl), (zw4 79 rfl rfl), (zw1 14 rfl rfl)⟩, zme_123, ⟨by decide +kernel, by decide +kernel⟩, by decide +kernel, by decide +kernel⟩,
  ⟨⟨(zw4 91 rfl rfl), (zw7 174 rfl rfl), (zwb 5 rfl), (zw4 93 rfl rfl), (zw1 12 rfl rfl)⟩, zme_126, ⟨by decide +kernel, by decide +kernel⟩, by decide +kernel⟩,
  ⟨⟨(zw2 46 rfl rfl), (zw2 47 rfl rfl), (zw1 15 rfl rfl)⟩, zme_14, ⟨by decide +kernel, by decide +kernel⟩⟩,
  ⟨⟨(zw4 3 rfl rfl), (zw4 5 rfl rfl), (zw4 6 rfl rfl), (zw4 4 rfl rfl), (zw1 12 rfl rfl)⟩, zme_106, ⟨by decide +kernel, by decide +kernel⟩, by decide +kernel⟩,
  ⟨⟨(zw4 95 rfl rfl), (zw4 96 rfl rfl), (zw1 21 rfl rfl)⟩, zme_127, ⟨by decide +kernel, by decide +kernel⟩⟩,
  ⟨⟨(zw4 98 rfl rfl), (zw4 99 rfl rfl), (zw1 15 rfl rfl)⟩, zme_128, ⟨by decide +kernel, by decide +kernel⟩⟩,
  ⟨⟨(zw4 64 rfl rfl), (zw4 65 rfl rfl), (zw1 15 rfl rfl)⟩, zme_121, ⟨by decide +kernel, by decide +kernel⟩⟩,
  ⟨⟨(zw4 101 rfl rfl), (zw4 102 rfl rfl), (zw1 15 rfl rfl)⟩, zme_129, ⟨by decide +kernel, by decide +kernel⟩⟩,
  ⟨⟨(zw4 53 rfl rfl), (zw4 54 rfl rfl), (zw1 15 rfl rfl)⟩, zme_118, ⟨by decide +kernel, by decide +kernel⟩⟩,
  ⟨⟨(zw4 104 rfl rfl), (zw4 105 rfl rfl), (zw1 14 rfl rfl)⟩, zme_130, ⟨by decide +kernel, by decide +kernel⟩⟩,
  ⟨⟨(zw4 107 rfl rfl), (zw4 108 rfl rfl), (zw1 22 rfl rfl)⟩, zme_131, ⟨by decide +kernel, by decide +kernel⟩⟩,
  ⟨⟨(zw4 115 rfl rfl), (zw4 96 rfl rfl), (zw1 21 rfl rfl)⟩, zme_127, ⟨by decide +kernel, by decide +kernel⟩⟩,
  ⟨(zw4 114 rfl rfl), (zw2 117 rfl rfl), (zw2 116 rfl rfl), (zw1 17 rfl rfl), by decide +kernel, by decide +kernel⟩,
  ⟨⟨(zw4 77 rfl rfl), (zw4 78 rfl rfl), (zw4 79 rfl rfl), (zw1 14 rfl rfl)⟩, zme_123, ⟨by decide +kernel, by decide +kernel⟩, by decide +kernel, by decide +kernel⟩,
  ⟨⟨(zw4 120 rfl rfl), (zw7 175 rfl rfl), (zw2 65 rfl rfl), (zw4 121 rfl rfl), (zw1 12 rfl rfl)⟩, zme_134, ⟨by decide +kernel, by decide +kernel⟩, by decide +kernel, by decide +kernel⟩,
  ⟨⟨(zw4 3 rfl rfl), (zw4 5 rfl rfl), (zw4 6 rfl rfl), (zw4 4 rfl rfl), (zw1 12 rfl rfl)⟩, zme_106, ⟨by decide +kernel, by decide +kernel⟩, by decide +kernel⟩,
  ⟨⟨(zw3 212 rfl rfl), (zw7 168 rfl rfl), (zwb 0 rfl), (zw3 214 rfl rfl), (zw1 12 rfl rfl)⟩, zme_100, ⟨by decide +kernel, by decide +kernel⟩, by decide +kernel⟩,
  ⟨⟨(zw4 123 rfl rfl), (zw4 124 rfl rfl), (zw1 21 rfl rfl)⟩, zme_135, ⟨by decide +kernel, by decide +kernel⟩⟩,
  ⟨⟨(zw4 91 rfl rfl), (zw7 174 rfl rfl), (zwb 5 rfl), (zw4 93 rfl rfl), (zw1 12 rfl rfl)⟩, zme_126, ⟨by decide +kernel, by decide +kernel⟩, by decide +kernel⟩,
  ⟨⟨(zw4 126 rfl rfl), (zw4 127 rfl rfl), (zw1 15 rfl rfl)⟩, zme_136, ⟨by decide +kernel, by decide +kernel⟩⟩,
  ⟨⟨(zw4 129 rfl rfl), (zw4 130 rfl rfl), (zw1 15 rfl rfl)⟩, zme_137, ⟨by decide +kernel, by decide +kernel⟩⟩,
  ⟨⟨(zw4 64 rfl rfl), (zw4 65 rfl rfl), (zw1 15 rfl rfl)⟩, zme_121, ⟨by decide +kernel, by decide +kernel⟩⟩,
  ⟨⟨(zw4 53 rfl rfl), (zw4 54 rfl rfl), (zw1 15 rfl rfl)⟩, zme_118, ⟨by decide +kernel, by decide +kernel⟩⟩,
  ⟨⟨(zw4 132 rfl rfl), (zw4 133 rfl rfl), (zw1 14 rfl rfl)⟩, zme_138, ⟨by decide +kernel, by decide +kernel⟩⟩,
  ⟨⟨(zw4 135 rfl rfl), (zw4 136 rfl rfl), (zw1 22 rfl rfl)⟩, zme_139, ⟨by decide +kernel, by decide +kernel⟩⟩,
  ⟨⟨(zw4 116 rfl rfl), (zw4 117 rfl rfl), (zw4 118 rfl rfl), (zw1 13 rfl rfl)⟩, zme_133, ⟨by decide +kernel, by decide +kernel⟩, by decide +kernel, by decide +kernel⟩,
  ⟨⟨_, _, _, _, rfl, (zw4 142 rfl rfl), (zw4 143 rfl rfl), (zw4 144 rfl rfl)⟩, (zw1 18 rfl rfl), by decide +kernel, by decide +kernel⟩,
  ⟨⟨(zw4 151 rfl rfl), (zw4 152 rfl rfl), (zw4 153 rfl rfl), (zw1 13 rfl rfl)⟩, zme_143, ⟨by decide +kernel, by decide +kernel⟩, by decide +kernel, by decide +kernel⟩,
  ⟨⟨⟨13, _, rfl⟩, (zw2 136 rfl rfl), (zw1 1 rfl rfl)⟩, zme_24, ⟨by decide +kernel, by decide +kernel⟩⟩,
  ⟨⟨(zw4 159 rfl rfl), (zw4 160 rfl rfl), (zw4 161 rfl rfl), (zw1 13 rfl rfl)⟩, zme_145, ⟨by decide +kernel, by decide +kernel⟩, by decide +kernel, by decide +kernel⟩,
  ⟨⟨(zw4 155 rfl rfl), (zw7 176 rfl rfl), (zw2 65 rfl rfl), (zw4 156 rfl rfl), (zw1 12 rfl rfl)⟩, zme_144, ⟨by decide +kernel, by decide +kernel⟩, by decide +kernel, by decide +kernel⟩,
  ⟨⟨(zw4 163 rfl rfl), (zw7 177 rfl rfl), (zw2 65 rfl rfl), (zw4 164 rfl rfl), (zw1 12 rfl rfl)⟩, zme_146, ⟨by decide +kernel, by decide +kernel⟩, by decide +kernel, by decide +kernel⟩,
  ⟨⟨_, _, _, _, rfl, (zw4 166 rfl rfl), (zw2 151 rfl rfl), (zw2 152 rfl rfl)⟩, (zw1 18 rfl rfl), by decide +kernel, by decide +kernel⟩,
  ⟨⟨(zw4 167 rfl rfl), (zw4 133 rfl rfl), (zw1 14 rfl rfl)⟩, zme_138, ⟨by decide +kernel, by decide +kernel⟩⟩,
  ⟨⟨(zw4 168 rfl rfl), (zw4 169 rfl rfl), (zw1 15 rfl rfl)⟩, zme_147, ⟨by decide +kernel, by decide +kernel⟩⟩,
  ⟨⟨(zw4 53 rfl rfl), (zw4 54 rfl rfl), (zw1 15 rfl rfl)⟩, zme_118, ⟨by decide +kernel, by decide +kernel⟩⟩,
  ⟨⟨(zw3 137 rfl rfl), (zw2 133 rfl rfl), (zw1 1 rfl rfl)⟩, zme_23, ⟨by decide +kernel, by decide +kernel⟩⟩,
  ⟨⟨(zw3 138 rfl rfl), (zw2 139 rfl rfl), (zw1 1 rfl rfl)⟩, zme_25, ⟨by decide +kernel, by decide +kernel⟩⟩,
  ⟨⟨(zw4 175 rfl rfl), (zw4 176 rfl rfl), (zw4 177 rfl rfl), (zw1 10 rfl rfl)⟩, zme_149, ⟨by decide +kernel, by decide +kernel⟩, by decide +kernel, by decide +kernel⟩,
  ⟨⟨(zw4 179 rfl rfl), (zw3 185 rfl rfl), (zw3 186 rfl rfl), (zw1 10 rfl rfl)⟩, zme_93, ⟨by decide +kernel, by decide +kernel⟩, by decide +kernel, by decide +kernel⟩,
  ⟨⟨(zw3 137 rfl rfl), (zw2 133 rfl rfl), (zw1 1 rfl rfl)⟩, zme_23, ⟨by decide +kernel, by decide +kernel⟩⟩,
  ⟨⟨(zw4 184 rfl rfl), (zw4 185 rfl rfl), (zw4 186 rfl rfl), (zw1 9 rfl rfl)⟩, zme_151, ⟨by decide +kernel, by decide +kernel⟩, by decide +kernel, by decide +kernel⟩,
  ⟨⟨⟨16, _, rfl⟩, (zw2 139 rfl rfl), (zw1 1 rfl rfl)⟩, zme_25, ⟨by decide +kernel, by decide +kernel⟩⟩,
  ⟨⟨(zw4 190 rfl rfl), (zw2 112 rfl rfl), (zw2 113 rfl rfl), (zw1 4 rfl rfl)⟩, zme_19, ⟨by decide +kernel, by decide +kernel⟩, by decide +kernel, by decide +kernel⟩,
  ⟨⟨(zw4 191 rfl rfl), (zw4 193 rfl rfl), (zwp1 8 rfl), (zw1 9 rfl rfl)⟩, zme_152, ⟨by decide +kernel, by decide +kernel⟩, by decide +kernel, by decide +kernel⟩,
  ⟨⟨(zw4 195 rfl rfl), (zw4 196 rfl rfl), (zw4 197 rfl rfl), (zw1 10 rfl rfl)⟩, zme_153, ⟨by decide +kernel, by decide +kernel⟩, by decide +kernel, by decide +kernel⟩,
  ⟨⟨(zw4 199 rfl rfl), (zw3 41 rfl rfl), (zw3 42 rfl rfl), (zw1 8 rfl rfl)⟩, zme_59, ⟨by decide +kernel, by decide +kernel⟩, by decide +kernel, by decide +kernel⟩,
  ⟨⟨(zw4 200 rfl rfl), (zw4 176 rfl rfl), (zw4 177 rfl rfl), (zw1 10 rfl rfl)⟩, zme_149, ⟨by decide +kernel, by decide +kernel⟩, by decide +kernel, by decide +kernel⟩,
  ⟨⟨(zw3 137 rfl rfl), (zw2 133 rfl rfl), (zw1 1 rfl rfl)⟩, zme_23, ⟨by decide +kernel, by decide +kernel⟩⟩,
  ⟨⟨(zw4 184 rfl rfl), (zw4 185 rfl rfl), (zw4 186 rfl rfl), (zw1 9 rfl rfl)⟩, zme_151, ⟨by decide +kernel, by decide +kernel⟩, by decide +kernel, by decide +kernel⟩,
  ⟨⟨(zw3 137 rfl rfl), (zw2 133 rfl rfl), (zw1 1 rfl rfl)⟩, zme_23, ⟨by decide +kernel, by decide +kernel⟩⟩,
  ⟨⟨(zw2 135 rfl rfl), (zw2 136 rfl rfl), (zw1 1 rfl rfl)⟩, zme_24, ⟨by decide +kernel, by decide +kernel⟩⟩,
  ⟨⟨(zw4 211 rfl rfl), (zw4 212 rfl rfl), (zw4 213 rfl rfl), (zw1 9 rfl rfl)⟩, zme_156, ⟨by decide +kernel, by decide +kernel⟩, by decide +kernel, by decide +kernel⟩,
  ⟨⟨⟨16, _, rfl⟩, (zw2 139 rfl rfl), (zw1 1 rfl rfl)⟩, zme_25, ⟨by decide +kernel, by decide +kernel⟩⟩,
  ⟨⟨(zw4 215 rfl rfl), (zw4 216 rfl rfl), (zw4 217 rfl rfl), (zw1 4 rfl rfl)⟩, zme_157, ⟨by decide +kernel, by decide +kernel⟩, by decide +kernel, by decide +kernel⟩,
  ⟨⟨(zw4 220 rfl rfl), (zw3 57 rfl rfl), (zw3 58 rfl rfl), (zw1 3 rfl rfl)⟩, zme_63, ⟨by decide +kernel, by decide +kernel⟩, by decide +kernel, by decide +kernel⟩,
  ⟨⟨⟨17, _, rfl⟩, (zw3 54 rfl rfl), (zw1 1 rfl rfl)⟩, zme_62, ⟨by decide +kernel, by decide +kernel⟩⟩,
  ⟨⟨(zw4 219 rfl rfl), (zw3 50 rfl rfl), (zw3 51 rfl rfl), (zw1 4 rfl rfl)⟩, zme_61, ⟨by decide +kernel, by decide +kernel⟩, by decide +kernel, by decide +kernel⟩,
  ⟨⟨(zw3 137 rfl rfl), (zw2 133 rfl rfl), (zw1 1 rfl rfl)⟩, zme_23, ⟨by decide +kernel, by decide +kernel⟩⟩,
  ⟨⟨(zw4 226 rfl rfl), (zw4 227 rfl rfl), (zw4 228 rfl rfl), (zw1 4 rfl rfl)⟩, zme_159, ⟨by decide +kernel, by decide +kernel⟩, by decide +kernel, by decide +kernel⟩,
  ⟨⟨(zw4 238 rfl rfl), (zw4 239 rfl rfl), (zw5 0 rfl rfl), (zw1 9 rfl rfl)⟩, zme_162, ⟨by decide +kernel, by decide +kernel⟩, by decide +kernel, by decide +kernel⟩,
  ⟨⟨(zw4 230 rfl rfl), (zw4 232 rfl rfl), (zwp1 9 rfl), (zw1 4 rfl rfl)⟩, zme_160, ⟨by decide +kernel, by decide +kernel⟩, by decide +kernel, by decide +kernel⟩,
  ⟨⟨(zw4 234 rfl rfl), (zw4 235 rfl rfl), (zw4 236 rfl rfl), (zw1 10 rfl rfl)⟩, zme_161, ⟨by decide +kernel, by decide +kernel⟩, by decide +kernel, by decide +kernel⟩,
  ⟨⟨(zw4 190 rfl rfl), (zw2 112 rfl rfl), (zw2 113 rfl rfl), (zw1 4 rfl rfl)⟩, zme_19, ⟨by decide +kernel, by decide +kernel⟩, by decide +kernel, by decide +kernel⟩,
  ⟨⟨(zw4 191 rfl rfl), (zw4 193 rfl rfl), (zwp1 8 rfl), (zw1 9 rfl rfl)⟩, zme_152, ⟨by decide +kernel, by decide +kernel⟩, by decide +kernel, by decide +kernel⟩,
  ⟨⟨(zw3 137 rfl rfl), (zw2 133 rfl rfl), (zw1 1 rfl rfl)⟩, zme_23, ⟨by decide +kernel, by decide +kernel⟩⟩,
  ⟨⟨(zw2 135 rfl rfl), (zw2 136 rfl rfl), (zw1 1 rfl rfl)⟩, zme_24, ⟨by decide +kernel, by decide +kernel⟩⟩,
  ⟨⟨(zw4 226 rfl rfl), (zw4 227 rfl rfl), (zw4 228 rfl rfl), (zw1 4 rfl rfl)⟩, zme_159, ⟨by decide +kernel, by decide +kernel⟩, by decide +kernel, by decide +kernel⟩,
  ⟨⟨(zw3 137 rfl rfl), (zw2 133 rfl rfl), (zw1 1 rfl rfl)⟩, zme_23, ⟨by decide +kernel, by decide +kernel⟩⟩,
  ⟨⟨(zw2 135 rfl rfl), (zw2 136 rfl rfl), (zw1 1 rfl rfl)⟩, zme_24, ⟨by decide +kernel, by decide +kernel⟩⟩,
  ⟨⟨(zw5 10 rfl rfl), (zw5 11 rfl rfl), (zw5 12 rfl rfl), (zw1 2 rfl rfl)⟩, zme_165, ⟨by decide +kernel, by decide +kernel⟩, by decide +kernel, by decide +kernel⟩,
  ⟨⟨(zw5 14 rfl rfl), (zw4 216 rfl rfl), (zw4 217 rfl rfl), (zw1 4 rfl rfl)⟩, zme_157, ⟨by decide +kernel, by decide +kernel⟩, by decide +kernel, by decide +kernel⟩,
  ⟨⟨(zw5 15 rfl rfl), (zw3 57 rfl rfl), (zw3 58 rfl rfl), (zw1 3 rfl rfl)⟩, zme_63, ⟨by decide +kernel, by decide +kernel⟩, by decide +kernel, by decide +kernel⟩,
  ⟨⟨(zw3 138 rfl rfl), (zw2 139 rfl rfl), (zw1 1 rfl rfl)⟩, zme_25, ⟨by decide +kernel, by decide +kernel⟩⟩,
  ⟨⟨(zw2 135 rfl rfl), (zw2 136 rfl rfl), (zw1 1 rfl rfl)⟩, zme_24, ⟨by decide +kernel, by decide +kernel⟩⟩,
  ⟨⟨(zw5 22 rfl rfl), (zw5 23 rfl rfl), (zw5 24 rfl rfl), (zw1 2 rfl rfl)⟩, zme_167, ⟨by decide +kernel, by decide +kernel⟩, by decide +kernel, by decide +kernel⟩,
  ⟨⟨(zw5 26 rfl rfl), (zw4 235 rfl rfl), (zw4 236 rfl rfl), (zw1 10 rfl rfl)⟩, zme_161, ⟨by decide +kernel, by decide +kernel⟩, by decide +kernel, by decide +kernel⟩,
  ⟨⟨(zw3 137 rfl rfl), (zw2 133 rfl rfl), (zw1 1 rfl rfl)⟩, zme_23, ⟨by decide +kernel, by decide +kernel⟩⟩,
  ⟨⟨(zw4 147 rfl rfl), (zw4 148 rfl rfl), (zw4 149 rfl rfl), (zw1 11 rfl rfl)⟩, zme_142, ⟨by decide +kernel, by decide +kernel⟩, by decide +kernel, by decide +kernel⟩,
  ⟨⟨(zw4 226 rfl rfl), (zw4 227 rfl rfl), (zw4 228 rfl rfl), (zw1 4 rfl rfl)⟩, zme_159, ⟨by decide +kernel, by decide +kernel⟩, by decide +kernel, by decide +kernel⟩,
  ⟨⟨(zw5 10 rfl rfl), (zw5 11 rfl rfl), (zw5 12 rfl rfl), (zw1 2 rfl rfl)⟩, zme_165, ⟨by decide +kernel, by decide +kernel⟩, by decide +kernel, by decide +kernel⟩,
  ⟨⟨(zw5 31 rfl rfl), (zw3 202 rfl rfl), (zw3 203 rfl rfl), (zw1 11 rfl rfl)⟩, zme_97, ⟨by decide +kernel, by decide +kernel⟩, by decide +kernel, by decide +kernel⟩,
  ⟨⟨(zw5 36 rfl rfl), (zw4 22 rfl rfl), (zw4 23 rfl rfl), (zw1 11 rfl rfl)⟩, zme_111, ⟨by decide +kernel, by decide +kernel⟩, by decide +kernel, by decide +kernel⟩,
  ⟨⟨(zw3 137 rfl rfl), (zw2 133 rfl rfl), (zw1 1 rfl rfl)⟩, zme_23, ⟨by decide +kernel, by decide +kernel⟩⟩, trivial⟩
theorem zst_ok3 : zAll zsP zst_3 := ⟨⟨⟨(zw5 41 rfl rfl), (zw5 42 rfl rfl), (zw5 43 rfl rfl), (zw1 4 rfl rfl)⟩, zme_170, ⟨by decide +kernel, by decide +kernel⟩, by decide +kernel, by decide +kernel⟩,
  ⟨⟨(zw5 45 rfl rfl), (zw4 176 rfl rfl), (zw4 177 rfl rfl), (zw1 10 rfl rfl)⟩, zme_149, ⟨by decide +kernel, by decide +kernel⟩, by decide +kernel, by decide +kernel⟩,
  ⟨⟨(zw3 137 rfl rfl), (zw2 133 rfl rfl), (zw1 1 rfl rfl)⟩, zme_23, ⟨by decide +kernel, by decide +kernel⟩⟩,
  ⟨⟨(zw3 138 rfl rfl), (zw2 139 rfl rfl), (zw1 1 rfl rfl)⟩, zme_25, ⟨by decide +kernel, by decide +kernel⟩⟩,
  ⟨⟨(zw5 50 rfl rfl), (zw5 51 rfl rfl), (zw5 52 rfl rfl), (zw1 10 rfl rfl)⟩, zme_172, ⟨by decide +kernel, by decide +kernel⟩, by decide +kernel, by decide +kernel⟩,
  ⟨⟨(zw5 58 rfl rfl), (zw5 59 rfl rfl), (zw5 60 rfl rfl), (zw1 7 rfl rfl)⟩, zme_174, ⟨by decide +kernel, by decide +kernel⟩, by decide +kernel, by decide +kernel⟩,
  ⟨⟨⟨10, _, rfl⟩, (zw2 136 rfl rfl), (zw1 1 rfl rfl)⟩, zme_24, ⟨by decide +kernel, by decide +kernel⟩⟩,
  ⟨⟨(zw2 103 rfl rfl), (zw2 104 rfl rfl), (zw2 105 rfl rfl), (zw1 6 rfl rfl)⟩, zme_17, ⟨by decide +kernel, by decide +kernel⟩, by decide +kernel, by decide +kernel⟩,
  ⟨⟨(zw2 142 rfl rfl), (zw2 144 rfl rfl), (zwp1 0 rfl), (zw1 1 rfl rfl)⟩, zme_26, ⟨by decide +kernel, by decide +kernel⟩, by decide +kernel, by decide +kernel⟩,
  ⟨⟨(zw5 67 rfl rfl), (zw5 68 rfl rfl), (zw5 69 rfl rfl), (zw1 7 rfl rfl)⟩, zme_176, ⟨by decide +kernel, by decide +kernel⟩, by decide +kernel, by decide +kernel⟩,
  ⟨⟨(zw5 138 rfl rfl), (zw5 139 rfl rfl), (zw5 140 rfl rfl), (zw1 7 rfl rfl)⟩, zme_191, ⟨by decide +kernel, by decide +kernel⟩, by decide +kernel, by decide +kernel⟩,
  ⟨⟨(zw5 142 rfl rfl), (zw5 144 rfl rfl), (zwp2 0 rfl), (zw1 1 rfl rfl)⟩, zme_192, ⟨by decide +kernel, by decide +kernel⟩, by decide +kernel, by decide +kernel⟩,
  ⟨⟨(zw5 154 rfl rfl), (zw5 155 rfl rfl), (zw5 156 rfl rfl), (zw1 6 rfl rfl)⟩, zme_195, ⟨by decide +kernel, by decide +kernel⟩, by decide +kernel, by decide +kernel⟩,
  ⟨⟨(zw5 158 rfl rfl), (zw5 159 rfl rfl), (zw5 160 rfl rfl), (zw1 7 rfl rfl)⟩, zme_196, ⟨by decide +kernel, by decide +kernel⟩, by decide +kernel, by decide +kernel⟩,
  ⟨⟨(zw5 71 rfl rfl), (zw5 73 rfl rfl), (zwp1 10 rfl), (zw1 7 rfl rfl)⟩, zme_177, ⟨by decide +kernel, by decide +kernel⟩, by decide +kernel, by decide +kernel⟩,
  ⟨⟨(zw5 132 rfl rfl), (zw5 133 rfl rfl), (zw1 7 rfl rfl)⟩, zme_189, ⟨by decide +kernel, by decide +kernel⟩⟩,
  ⟨⟨(zw5 135 rfl rfl), (zw5 136 rfl rfl), (zw1 7 rfl rfl)⟩, zme_190, ⟨by decide +kernel, by decide +kernel⟩⟩,
  ⟨⟨(zw5 132 rfl rfl), (zw5 133 rfl rfl), (zw1 7 rfl rfl)⟩, zme_189, ⟨by decide +kernel, by decide +kernel⟩⟩,
  ⟨⟨(zw5 75 rfl rfl), (zw5 77 rfl rfl), (zwp1 11 rfl), (zw1 7 rfl rfl)⟩, zme_178, ⟨by decide +kernel, by decide +kernel⟩, by decide +kernel, by decide +kernel⟩,
  ⟨⟨(zw5 83 rfl rfl), (zw5 85 rfl rfl), (zwp1 13 rfl), (zw1 7 rfl rfl)⟩, zme_180, ⟨by decide +kernel, by decide +kernel⟩, by decide +kernel, by decide +kernel⟩,
  ⟨⟨(zw5 123 rfl rfl), (zw5 124 rfl rfl), (zw1 7 rfl rfl)⟩, zme_187, ⟨by decide +kernel, by decide +kernel⟩⟩,
  ⟨⟨(zw5 128 rfl rfl), (zw5 130 rfl rfl), (zwp1 15 rfl), (zw1 7 rfl rfl)⟩, zme_188, ⟨by decide +kernel, by decide +kernel⟩, by decide +kernel, by decide +kernel⟩,
  ⟨⟨(zw5 79 rfl rfl), (zw5 81 rfl rfl), (zwp1 12 rfl), (zw1 7 rfl rfl)⟩, zme_179, ⟨by decide +kernel, by decide +kernel⟩, by decide +kernel, by decide +kernel⟩,
  ⟨⟨⟨10, _, rfl⟩, (zw2 136 rfl rfl), (zw1 1 rfl rfl)⟩, zme_24, ⟨by decide +kernel, by decide +kernel⟩⟩,
  ⟨⟨(zw5 87 rfl rfl), (zw5 88 rfl rfl), (zw1 7 rfl rfl)⟩, zme_181, ⟨by decide +kernel, by decide +kernel⟩⟩,
  ⟨⟨(zw5 102 rfl rfl), (zw5 104 rfl rfl), (zwp1 14 rfl), (zw1 7 rfl rfl)⟩, zme_182, ⟨by decide +kernel, by decide +kernel⟩, by decide +kernel, by decide +kernel⟩,
  ⟨⟨(zw5 106 rfl rfl), (zw4 74 rfl rfl), (zw4 75 rfl rfl), (zw1 14 rfl rfl)⟩, zme_122, ⟨by decide +kernel, by decide +kernel⟩, by decide +kernel, by decide +kernel⟩,
  ⟨⟨(zw5 107 rfl rfl), (zw5 108 rfl rfl), (zw5 109 rfl rfl), (zw1 14 rfl rfl)⟩, zme_183, ⟨by decide +kernel, by decide +kernel⟩, by decide +kernel, by decide +kernel⟩,
  ⟨⟨(zw5 111 rfl rfl), (zw5 112 rfl rfl), (zw5 113 rfl rfl), (zw1 14 rfl rfl)⟩, zme_184, ⟨by decide +kernel, by decide +kernel⟩, by decide +kernel, by decide +kernel⟩,
  ⟨⟨(zw5 115 rfl rfl), (zw5 116 rfl rfl), (zw1 21 rfl rfl)⟩, zme_185, ⟨by decide +kernel, by decide +kernel⟩⟩,
  ⟨⟨(zw5 119 rfl rfl), (zw5 120 rfl rfl), (zw1 15 rfl rfl)⟩, zme_186, ⟨by decide +kernel, by decide +kernel⟩⟩,
  ⟨⟨(zw5 118 rfl rfl), (zw4 133 rfl rfl), (zw1 14 rfl rfl)⟩, zme_138, ⟨by decide +kernel, by decide +kernel⟩⟩,
  ⟨⟨(zw4 129 rfl rfl), (zw4 130 rfl rfl), (zw1 15 rfl rfl)⟩, zme_137, ⟨by decide +kernel, by decide +kernel⟩⟩,
  ⟨⟨(zw5 122 rfl rfl), (zw4 169 rfl rfl), (zw1 15 rfl rfl)⟩, zme_147, ⟨by decide +kernel, by decide +kernel⟩⟩,
  ⟨⟨(zw5 123 rfl rfl), (zw5 124 rfl rfl), (zw1 7 rfl rfl)⟩, zme_187, ⟨by decide +kernel, by decide +kernel⟩⟩,
  ⟨⟨(zw5 79 rfl rfl), (zw5 81 rfl rfl), (zwp1 12 rfl), (zw1 7 rfl rfl)⟩, zme_179, ⟨by decide +kernel, by decide +kernel⟩, by decide +kernel, by decide +kernel⟩,
  ⟨⟨(zw2 128 rfl rfl), (zw2 129 rfl rfl), (zw2 130 rfl rfl), (zw1 2 rfl rfl)⟩, zme_22, ⟨by decide +kernel, by decide +kernel⟩, by decide +kernel, by decide +kernel⟩,
  ⟨⟨(zw2 157 rfl rfl), (zw2 158 rfl rfl), (zw2 159 rfl rfl), (zw1 2 rfl rfl)⟩, zme_30, ⟨by decide +kernel, by decide +kernel⟩, by decide +kernel, by decide +kernel⟩,
  ⟨⟨(zw2 165 rfl rfl), (zw2 166 rfl rfl), (zw2 167 rfl rfl), (zw1 2 rfl rfl)⟩, zme_32, ⟨by decide +kernel, by decide +kernel⟩, by decide +kernel, by decide +kernel⟩,
  ⟨⟨(zw2 173 rfl rfl), (zw2 174 rfl rfl), (zw2 175 rfl rfl), (zw1 2 rfl rfl)⟩, zme_34, ⟨by decide +kernel, by decide +kernel⟩, by decide +kernel, by decide +kernel⟩,
  ⟨⟨(zw2 181 rfl rfl), (zw2 182 rfl rfl), (zw2 183 rfl rfl), (zw1 2 rfl rfl)⟩, zme_36, ⟨by decide +kernel, by decide +kernel⟩, by decide +kernel, by decide +kernel⟩,
  ⟨⟨(zw2 189 rfl rfl), (zw2 190 rfl rfl), (zw2 191 rfl rfl), (zw1 2 rfl rfl)⟩, zme_38, ⟨by decide +kernel, by decide +kernel⟩, by decide +kernel, by decide +kernel⟩,
  ⟨⟨(zw2 198 rfl rfl), (zw2 199 rfl rfl), (zw2 200 rfl rfl), (zw1 2 rfl rfl)⟩, zme_40, ⟨by decide +kernel, by decide +kernel⟩, by decide +kernel, by decide +kernel⟩,
  ⟨⟨(zw2 219 rfl rfl), (zw2 220 rfl rfl), (zw2 221 rfl rfl), (zw1 2 rfl rfl)⟩, zme_45, ⟨by decide +kernel, by decide +kernel⟩, by decide +kernel, by decide +kernel⟩,
  ⟨⟨(zw2 232 rfl rfl), (zw2 233 rfl rfl), (zw2 234 rfl rfl), (zw1 2 rfl rfl)⟩, zme_48, ⟨by decide +kernel, by decide +kernel⟩, by decide +kernel, by decide +kernel⟩,
  ⟨⟨(zw3 0 rfl rfl), (zw3 1 rfl rfl), (zw3 2 rfl rfl), (zw1 2 rfl rfl)⟩, zme_50, ⟨by decide +kernel, by decide +kernel⟩, by decide +kernel, by decide +kernel⟩,
  ⟨⟨(zw3 25 rfl rfl), (zw3 26 rfl rfl), (zw3 27 rfl rfl), (zw1 2 rfl rfl)⟩, zme_56, ⟨by decide +kernel, by decide +kernel⟩, by decide +kernel, by decide +kernel⟩,
  ⟨⟨(zw3 34 rfl rfl), (zw3 35 rfl rfl), (zw3 36 rfl rfl), (zw1 2 rfl rfl)⟩, zme_58, ⟨by decide +kernel, by decide +kernel⟩, by decide +kernel, by decide +kernel⟩,
  ⟨⟨(zw5 146 rfl rfl), (zw5 147 rfl rfl), (zw5 148 rfl rfl), (zw1 7 rfl rfl)⟩, zme_193, ⟨by decide +kernel, by decide +kernel⟩, by decide +kernel, by decide +kernel⟩,
  ⟨⟨(zw5 150 rfl rfl), (zw5 151 rfl rfl), (zw5 152 rfl rfl), (zw1 7 rfl rfl)⟩, zme_194, ⟨by decide +kernel, by decide +kernel⟩, by decide +kernel, by decide +kernel⟩,
  ⟨⟨⟨10, _, rfl⟩, (zw2 136 rfl rfl), (zw1 1 rfl rfl)⟩, zme_24, ⟨by decide +kernel, by decide +kernel⟩⟩,
  ⟨⟨⟨10, _, rfl⟩, (zw2 136 rfl rfl), (zw1 1 rfl rfl)⟩, zme_24, ⟨by decide +kernel, by decide +kernel⟩⟩,
  ⟨⟨(zw2 107 rfl rfl), (zw2 108 rfl rfl), (zw2 109 rfl rfl), (zw1 2 rfl rfl)⟩, zme_18, ⟨by decide +kernel, by decide +kernel⟩, by decide +kernel, by decide +kernel⟩,
  ⟨⟨⟨10, _, rfl⟩, (zw2 136 rfl rfl), (zw1 1 rfl rfl)⟩, zme_24, ⟨by decide +kernel, by decide +kernel⟩⟩,
  ⟨⟨(zw5 166 rfl rfl), (zw2 108 rfl rfl), (zw2 109 rfl rfl), (zw1 2 rfl rfl)⟩, zme_18, ⟨by decide +kernel, by decide +kernel⟩, by decide +kernel, by decide +kernel⟩,
  ⟨⟨(zw2 103 rfl rfl), (zw2 104 rfl rfl), (zw2 105 rfl rfl), (zw1 6 rfl rfl)⟩, zme_17, ⟨by decide +kernel, by decide +kernel⟩, by decide +kernel, by decide +kernel⟩,
  ⟨⟨(zw2 142 rfl rfl), (zw2 144 rfl rfl), (zwp1 0 rfl), (zw1 1 rfl rfl)⟩, zme_26, ⟨by decide +kernel, by decide +kernel⟩, by decide +kernel, by decide +kernel⟩,
  ⟨⟨(zw5 166 rfl rfl), (zw2 108 rfl rfl), (zw2 109 rfl rfl), (zw1 2 rfl rfl)⟩, zme_18, ⟨by decide +kernel, by decide +kernel⟩, by decide +kernel, by decide +kernel⟩,
  ⟨⟨(zw5 175 rfl rfl), (zw5 176 rfl rfl), (zw5 177 rfl rfl), (zw1 6 rfl rfl)⟩, zme_200, ⟨by decide +kernel, by decide +kernel⟩, by decide +kernel, by decide +kernel⟩,
  ⟨⟨(zw2 107 rfl rfl), (zw2 108 rfl rfl), (zw2 109 rfl rfl), (zw1 2 rfl rfl)⟩, zme_18, ⟨by decide +kernel, by decide +kernel⟩, by decide +kernel, by decide +kernel⟩,
  ⟨(zw5 184 rfl rfl), (zw1 29 rfl rfl), (zw1 30 rfl rfl), by decide +kernel, by decide +kernel⟩,
  ⟨⟨(zw5 187 rfl rfl), (zw5 188 rfl rfl), (zw1 16 rfl rfl)⟩, zme_202, ⟨by decide +kernel, by decide +kernel⟩⟩,
  ⟨⟨(zw5 187 rfl rfl), (zw5 188 rfl rfl), (zw1 16 rfl rfl)⟩, zme_202, ⟨by decide +kernel, by decide +kernel⟩⟩,
  ⟨⟨(zw6 4 rfl rfl), (zw6 5 rfl rfl), (zw1 16 rfl rfl)⟩, zme_205, ⟨by decide +kernel, by decide +kernel⟩⟩,
  ⟨⟨(zw6 1 rfl rfl), (zw6 2 rfl rfl), (zw1 16 rfl rfl)⟩, zme_204, ⟨by decide +kernel, by decide +kernel⟩⟩,
  ⟨⟨(zw6 7 rfl rfl), (zw6 8 rfl rfl), (zw1 16 rfl rfl)⟩, zme_206, ⟨by decide +kernel, by decide +kernel⟩⟩,
  ⟨⟨(zw6 10 rfl rfl), (zw6 12 rfl rfl), (zwp2 1 rfl), (zw1 16 rfl rfl)⟩, zme_207, ⟨by decide +kernel, by decide +kernel⟩, by decide +kernel, by decide +kernel⟩,
  ⟨⟨(zw6 4 rfl rfl), (zw6 5 rfl rfl), (zw1 16 rfl rfl)⟩, zme_205, ⟨by decide +kernel, by decide +kernel⟩⟩,
  ⟨⟨(zw6 4 rfl rfl), (zw6 5 rfl rfl), (zw1 16 rfl rfl)⟩, zme_205, ⟨by decide +kernel, by decide +kernel⟩⟩,
  ⟨⟨(zw6 14 rfl rfl), (zw6 16 rfl rfl), (zwp2 2 rfl), (zw1 16 rfl rfl)⟩, zme_208, ⟨by decide +kernel, by decide +kernel⟩, by decide +kernel, by decide +kernel⟩,
  ⟨⟨(zw6 18 rfl rfl), (zw6 20 rfl rfl), (zwp2 3 rfl), (zw1 16 rfl rfl)⟩, zme_209, ⟨by decide +kernel, by decide +kernel⟩, by decide +kernel, by decide +kernel⟩,
  ⟨(zw6 23 rfl rfl), (zw2 117 rfl rfl), (zw2 116 rfl rfl), (zw1 17 rfl rfl), by decide +kernel, by decide +kernel⟩,
  ⟨⟨(zw5 187 rfl rfl), (zw5 188 rfl rfl), (zw1 16 rfl rfl)⟩, zme_202, ⟨by decide +kernel, by decide +kernel⟩⟩,
  ⟨⟨(zw6 4 rfl rfl), (zw6 5 rfl rfl), (zw1 16 rfl rfl)⟩, zme_205, ⟨by decide +kernel, by decide +kernel⟩⟩,
  ⟨⟨(zw6 1 rfl rfl), (zw6 2 rfl rfl), (zw1 16 rfl rfl)⟩, zme_204, ⟨by decide +kernel, by decide +kernel⟩⟩,
  ⟨⟨(zw6 7 rfl rfl), (zw6 8 rfl rfl), (zw1 16 rfl rfl)⟩, zme_206, ⟨by decide +kernel, by decide +kernel⟩⟩,
  ⟨⟨(zw6 10 rfl rfl), (zw6 12 rfl rfl), (zwp2 1 rfl), (zw1 16 rfl rfl)⟩, zme_207, ⟨by decide +kernel, by decide +kernel⟩, by decide +kernel, by decide +kernel⟩,
  ⟨⟨(zw5 187 rfl rfl), (zw5 188 rfl rfl), (zw1 16 rfl rfl)⟩, zme_202, ⟨by decide +kernel, by decide +kernel⟩⟩,
  ⟨⟨(zw6 4 rfl rfl), (zw6 5 rfl rfl), (zw1 16 rfl rfl)⟩, zme_205, ⟨by decide +kernel, by decide +kernel⟩⟩,
  ⟨⟨(zw6 1 rfl rfl), (zw6 2 rfl rfl), (zw1 16 rfl rfl)⟩, zme_204, ⟨by decide +kernel, by decide +kernel⟩⟩,
  ⟨⟨(zw6 7 rfl rfl), (zw6 8 rfl rfl), (zw1 16 rfl rfl)⟩, zme_206, ⟨by decide +kernel, by decide +kernel⟩⟩,
  ⟨⟨(zw6 10 rfl rfl), (zw6 12 rfl rfl), (zwp2 1 rfl), (zw1 16 rfl rfl)⟩, zme_207, ⟨by decide +kernel, by decide +kernel⟩, by decide +kernel, by decide +kernel⟩,
  ⟨⟨(zw5 187 rfl rfl), (zw5 188 rfl rfl), (zw1 16 rfl rfl)⟩, zme_202, ⟨by decide +kernel, by decide +kernel⟩⟩,
  ⟨⟨(zw6 4 rfl rfl), (zw6 5 rfl rfl), (zw1 16 rfl rfl)⟩, zme_205, ⟨by decide +kernel, by decide +kernel⟩⟩,
  ⟨⟨(zw6 1 rfl rfl), (zw6 2 rfl rfl), (zw1 16 rfl rfl)⟩, zme_204, ⟨by decide +kernel, by decide +kernel⟩⟩,
  ⟨⟨(zw6 10 rfl rfl), (zw6 12 rfl rfl), (zwp2 1 rfl), (zw1 16 rfl rfl)⟩, zme_207, ⟨by decide +kernel, by decide +kernel⟩, by decide +kernel, by decide +kernel⟩,
  ⟨⟨(zw6 4 rfl rfl), (zw6 5 rfl rfl), (zw1 16 rfl rfl)⟩, zme_205, ⟨by decide +kernel, by decide +kernel⟩⟩,
  ⟨⟨(zw6 40 rfl rfl), (zw6 42 rfl rfl), (zwp2 4 rfl), (zw1 16 rfl rfl)⟩, zme_214, ⟨by decide +kernel, by decide +kernel⟩, by decide +kernel, by decide +kernel⟩,
  ⟨⟨(zw6 10 rfl rfl), (zw6 12 rfl rfl), (zwp2 1 rfl), (zw1 16 rfl rfl)⟩, zme_207, ⟨by decide +kernel, by decide +kernel⟩, by decide +kernel, by decide +kernel⟩,
  ⟨⟨(zw6 4 rfl rfl), (zw6 5 rfl rfl), (zw1 16 rfl rfl)⟩, zme_205, ⟨by decide +kernel, by decide +kernel⟩⟩,
  ⟨⟨(zw6 40 rfl rfl), (zw6 42 rfl rfl), (zwp2 4 rfl), (zw1 16 rfl rfl)⟩, zme_214, ⟨by decide +kernel, by decide +kernel⟩, by decide +kernel, by decide +kernel⟩,
  ⟨⟨(zw6 4 rfl rfl), (zw6 5 rfl rfl), (zw1 16 rfl rfl)⟩, zme_205, ⟨by decide +kernel, by decide +kernel⟩⟩,
  ⟨⟨(zw6 40 rfl rfl), (zw6 42 rfl rfl), (zwp2 4 rfl), (zw1 16 rfl rfl)⟩, zme_214, ⟨by decide +kernel, by decide +kernel⟩, by decide +kernel, by decide +kernel⟩,
  ⟨⟨(zw6 40 rfl rfl), (zw6 42 rfl rfl), (zwp2 4 rfl), (zw1 16 rfl rfl)⟩, zme_214, ⟨by decide +kernel, by decide +kernel⟩, by decide +kernel, by decide +kernel⟩,
  ⟨⟨(zw6 4 rfl rfl), (zw6 5 rfl rfl), (zw1 16 rfl rfl)⟩, zme_205, ⟨by decide +kernel, by decide +kernel⟩⟩,
  ⟨⟨(zw6 1 rfl rfl), (zw6 2 rfl rfl), (zw1 16 rfl rfl)⟩, zme_204, ⟨by decide +kernel, by decide +kernel⟩⟩,
  ⟨⟨(zw6 61 rfl rfl), (zw6 63 rfl rfl), (zwp2 5 rfl), (zw1 16 rfl rfl)⟩, zme_219, ⟨by decide +kernel, by decide +kernel⟩, by decide +kernel, by decide +kernel⟩,
  ⟨⟨(zw5 187 rfl rfl), (zw5 188 rfl rfl), (zw1 16 rfl rfl)⟩, zme_202, ⟨by decide +kernel, by decide +kernel⟩⟩,
  ⟨⟨(zw6 10 rfl rfl), (zw6 12 rfl rfl), (zwp2 1 rfl), (zw1 16 rfl rfl)⟩, zme_207, ⟨by decide +kernel, by decide +kernel⟩, by decide +kernel, by decide +kernel⟩,
  ⟨⟨(zw6 65 rfl rfl), (zw6 67 rfl rfl), (zwp2 6 rfl), (zw1 16 rfl rfl)⟩, zme_220, ⟨by decide +kernel, by decide +kernel⟩, by decide +kernel, by decide +kernel⟩, trivial⟩
theorem zst_ok4 : zAll zsP zst_4 := ⟨⟨⟨(zw5 187 rfl rfl), (zw5 188 rfl rfl), (zw1 16 rfl rfl)⟩, zme_202, ⟨by decide +kernel, by decide +kernel⟩⟩,
  ⟨⟨(zw6 4 rfl rfl), (zw6 5 rfl rfl), (zw1 16 rfl rfl)⟩, zme_205, ⟨by decide +kernel, by decide +kernel⟩⟩,
  ⟨⟨(zw6 1 rfl rfl), (zw6 2 rfl rfl), (zw1 16 rfl rfl)⟩, zme_204, ⟨by decide +kernel, by decide +kernel⟩⟩,
  ⟨⟨(zw6 61 rfl rfl), (zw6 63 rfl rfl), (zwp2 5 rfl), (zw1 16 rfl rfl)⟩, zme_219, ⟨by decide +kernel, by decide +kernel⟩, by decide +kernel, by decide +kernel⟩,
  ⟨⟨(zw5 187 rfl rfl), (zw5 188 rfl rfl), (zw1 16 rfl rfl)⟩, zme_202, ⟨by decide +kernel, by decide +kernel⟩⟩,
  ⟨⟨(zw6 10 rfl rfl), (zw6 12 rfl rfl), (zwp2 1 rfl), (zw1 16 rfl rfl)⟩, zme_207, ⟨by decide +kernel, by decide +kernel⟩, by decide +kernel, by decide +kernel⟩,
  ⟨⟨(zw6 65 rfl rfl), (zw6 67 rfl rfl), (zwp2 6 rfl), (zw1 16 rfl rfl)⟩, zme_220, ⟨by decide +kernel, by decide +kernel⟩, by decide +kernel, by decide +kernel⟩,
  ⟨⟨(zw6 78 rfl rfl), (zw6 80 rfl rfl), (zwp2 7 rfl), (zw1 16 rfl rfl)⟩, zme_223, ⟨by decide +kernel, by decide +kernel⟩, by decide +kernel, by decide +kernel⟩,
  ⟨⟨(zw6 82 rfl rfl), (zw6 84 rfl rfl), (zwp2 8 rfl), (zw1 16 rfl rfl)⟩, zme_224, ⟨by decide +kernel, by decide +kernel⟩, by decide +kernel, by decide +kernel⟩,
  ⟨⟨(zw6 1 rfl rfl), (zw6 2 rfl rfl), (zw1 16 rfl rfl)⟩, zme_204, ⟨by decide +kernel, by decide +kernel⟩⟩,
  ⟨⟨(zw6 65 rfl rfl), (zw6 67 rfl rfl), (zwp2 6 rfl), (zw1 16 rfl rfl)⟩, zme_220, ⟨by decide +kernel, by decide +kernel⟩, by decide +kernel, by decide +kernel⟩,
  ⟨⟨(zw5 187 rfl rfl), (zw5 188 rfl rfl), (zw1 16 rfl rfl)⟩, zme_202, ⟨by decide +kernel, by decide +kernel⟩⟩,
  ⟨⟨(zw6 14 rfl rfl), (zw6 16 rfl rfl), (zwp2 2 rfl), (zw1 16 rfl rfl)⟩, zme_208, ⟨by decide +kernel, by decide +kernel⟩, by decide +kernel, by decide +kernel⟩,
  ⟨⟨(zw6 65 rfl rfl), (zw6 67 rfl rfl), (zwp2 6 rfl), (zw1 16 rfl rfl)⟩, zme_220, ⟨by decide +kernel, by decide +kernel⟩, by decide +kernel, by decide +kernel⟩,
  ⟨⟨(zw6 78 rfl rfl), (zw6 80 rfl rfl), (zwp2 7 rfl), (zw1 16 rfl rfl)⟩, zme_223, ⟨by decide +kernel, by decide +kernel⟩, by decide +kernel, by decide +kernel⟩,
  ⟨⟨(zw6 82 rfl rfl), (zw6 84 rfl rfl), (zwp2 8 rfl), (zw1 16 rfl rfl)⟩, zme_224, ⟨by decide +kernel, by decide +kernel⟩, by decide +kernel, by decide +kernel⟩,
  ⟨⟨(zw6 14 rfl rfl), (zw6 16 rfl rfl), (zwp2 2 rfl), (zw1 16 rfl rfl)⟩, zme_208, ⟨by decide +kernel, by decide +kernel⟩, by decide +kernel, by decide +kernel⟩,
  ⟨⟨(zw6 94 rfl rfl), (zw6 96 rfl rfl), (zwp2 9 rfl), (zw1 16 rfl rfl)⟩, zme_227, ⟨by decide +kernel, by decide +kernel⟩, by decide +kernel, by decide +kernel⟩,
  ⟨⟨(zw6 98 rfl rfl), (zw6 100 rfl rfl), (zwp2 10 rfl), (zw1 16 rfl rfl)⟩, zme_228, ⟨by decide +kernel, by decide +kernel⟩, by decide +kernel, by decide +kernel⟩,
  ⟨⟨(zw6 94 rfl rfl), (zw6 96 rfl rfl), (zwp2 9 rfl), (zw1 16 rfl rfl)⟩, zme_227, ⟨by decide +kernel, by decide +kernel⟩, by decide +kernel, by decide +kernel⟩,
  ⟨⟨(zw6 102 rfl rfl), (zw6 104 rfl rfl), (zwp2 11 rfl), (zw1 16 rfl rfl)⟩, zme_229, ⟨by decide +kernel, by decide +kernel⟩, by decide +kernel, by decide +kernel⟩,
  ⟨⟨(zw5 187 rfl rfl), (zw5 188 rfl rfl), (zw1 16 rfl rfl)⟩, zme_202, ⟨by decide +kernel, by decide +kernel⟩⟩,
  ⟨⟨(zw6 65 rfl rfl), (zw6 67 rfl rfl), (zwp2 6 rfl), (zw1 16 rfl rfl)⟩, zme_220, ⟨by decide +kernel, by decide +kernel⟩, by decide +kernel, by decide +kernel⟩,
  ⟨⟨_, _, _, _, rfl, (zw6 130 rfl rfl), (zw3 95 rfl rfl), (zw3 96 rfl rfl)⟩, (zw1 18 rfl rfl), by decide +kernel, by decide +kernel⟩,
  ⟨⟨_, _, _, _, rfl, (zw6 136 rfl rfl), (zw3 98 rfl rfl), (zw3 99 rfl rfl)⟩, (zw1 18 rfl rfl), by decide +kernel, by decide +kernel⟩,
  ⟨⟨(zw6 110 rfl rfl), (zw6 112 rfl rfl), (zwp2 13 rfl), (zw1 16 rfl rfl)⟩, zme_231, ⟨by decide +kernel, by decide +kernel⟩, by decide +kernel, by decide +kernel⟩,
  ⟨⟨(zw6 137 rfl rfl), (zw6 139 rfl rfl), (zwp3 3 rfl), (zw1 16 rfl rfl)⟩, zme_237, ⟨by decide +kernel, by decide +kernel⟩, by decide +kernel, by decide +kernel⟩,
  ⟨⟨(zw6 106 rfl rfl), (zw6 108 rfl rfl), (zwp2 12 rfl), (zw1 16 rfl rfl)⟩, zme_230, ⟨by decide +kernel, by decide +kernel⟩, by decide +kernel, by decide +kernel⟩,
  ⟨⟨(zw6 156 rfl rfl), (zw6 158 rfl rfl), (zwp3 7 rfl), (zw1 16 rfl rfl)⟩, zme_242, ⟨by decide +kernel, by decide +kernel⟩, by decide +kernel, by decide +kernel⟩,
  ⟨⟨(zw6 160 rfl rfl), (zw6 162 rfl rfl), (zwp3 8 rfl), (zw1 16 rfl rfl)⟩, zme_243, ⟨by decide +kernel, by decide +kernel⟩, by decide +kernel, by decide +kernel⟩,
  ⟨⟨(zw6 110 rfl rfl), (zw6 112 rfl rfl), (zwp2 13 rfl), (zw1 16 rfl rfl)⟩, zme_231, ⟨by decide +kernel, by decide +kernel⟩, by decide +kernel, by decide +kernel⟩,
  ⟨⟨(zw6 137 rfl rfl), (zw6 139 rfl rfl), (zwp3 3 rfl), (zw1 16 rfl rfl)⟩, zme_237, ⟨by decide +kernel, by decide +kernel⟩, by decide +kernel, by decide +kernel⟩,
  ⟨⟨(zw6 144 rfl rfl), (zw6 146 rfl rfl), (zwp3 4 rfl), (zw1 16 rfl rfl)⟩, zme_239, ⟨by decide +kernel, by decide +kernel⟩, by decide +kernel, by decide +kernel⟩,
  ⟨⟨(zw6 148 rfl rfl), (zw6 150 rfl rfl), (zwp3 5 rfl), (zw1 16 rfl rfl)⟩, zme_240, ⟨by decide +kernel, by decide +kernel⟩, by decide +kernel, by decide +kernel⟩,
  ⟨⟨(zw6 152 rfl rfl), (zw6 154 rfl rfl), (zwp3 6 rfl), (zw1 16 rfl rfl)⟩, zme_241, ⟨by decide +kernel, by decide +kernel⟩, by decide +kernel, by decide +kernel⟩,
  ⟨⟨(zw6 114 rfl rfl), (zw6 116 rfl rfl), (zwp2 14 rfl), (zw1 16 rfl rfl)⟩, zme_232, ⟨by decide +kernel, by decide +kernel⟩, by decide +kernel, by decide +kernel⟩,
  ⟨⟨(zw6 122 rfl rfl), (zw6 124 rfl rfl), (zwp3 0 rfl), (zw1 16 rfl rfl)⟩, zme_234, ⟨by decide +kernel, by decide +kernel⟩, by decide +kernel, by decide +kernel⟩,
  ⟨⟨(zw6 118 rfl rfl), (zw6 120 rfl rfl), (zwp2 15 rfl), (zw1 16 rfl rfl)⟩, zme_233, ⟨by decide +kernel, by decide +kernel⟩, by decide +kernel, by decide +kernel⟩,
  ⟨⟨(zw6 65 rfl rfl), (zw6 67 rfl rfl), (zwp2 6 rfl), (zw1 16 rfl rfl)⟩, zme_220, ⟨by decide +kernel, by decide +kernel⟩, by decide +kernel, by decide +kernel⟩,
  ⟨⟨(zw6 126 rfl rfl), (zw6 128 rfl rfl), (zwp3 1 rfl), (zw1 16 rfl rfl)⟩, zme_235, ⟨by decide +kernel, by decide +kernel⟩, by decide +kernel, by decide +kernel⟩,
  ⟨⟨(zw6 132 rfl rfl), (zw6 134 rfl rfl), (zwp3 2 rfl), (zw1 16 rfl rfl)⟩, zme_236, ⟨by decide +kernel, by decide +kernel⟩, by decide +kernel, by decide +kernel⟩,
  ⟨⟨_, _, _, _, rfl, (zw6 130 rfl rfl), (zw3 95 rfl rfl), (zw3 96 rfl rfl)⟩, (zw1 18 rfl rfl), by decide +kernel, by decide +kernel⟩,
  ⟨⟨_, _, _, _, rfl, (zw6 130 rfl rfl), (zw3 95 rfl rfl), (zw3 96 rfl rfl)⟩, (zw1 18 rfl rfl), by decide +kernel, by decide +kernel⟩,
  ⟨⟨(zw6 126 rfl rfl), (zw6 128 rfl rfl), (zwp3 1 rfl), (zw1 16 rfl rfl)⟩, zme_235, ⟨by decide +kernel, by decide +kernel⟩, by decide +kernel, by decide +kernel⟩,
  ⟨⟨_, _, _, _, rfl, (zw6 136 rfl rfl), (zw3 98 rfl rfl), (zw3 99 rfl rfl)⟩, (zw1 18 rfl rfl), by decide +kernel, by decide +kernel⟩,
  ⟨⟨(zw5 187 rfl rfl), (zw5 188 rfl rfl), (zw1 16 rfl rfl)⟩, zme_202, ⟨by decide +kernel, by decide +kernel⟩⟩,
  ⟨⟨(zw6 65 rfl rfl), (zw6 67 rfl rfl), (zwp2 6 rfl), (zw1 16 rfl rfl)⟩, zme_220, ⟨by decide +kernel, by decide +kernel⟩, by decide +kernel, by decide +kernel⟩,
  ⟨⟨(zw6 141 rfl rfl), (zw6 142 rfl rfl), (zw1 16 rfl rfl)⟩, zme_238, ⟨by decide +kernel, by decide +kernel⟩⟩,
  ⟨⟨(zw5 187 rfl rfl), (zw5 188 rfl rfl), (zw1 16 rfl rfl)⟩, zme_202, ⟨by decide +kernel, by decide +kernel⟩⟩,
  ⟨⟨(zw5 187 rfl rfl), (zw5 188 rfl rfl), (zw1 16 rfl rfl)⟩, zme_202, ⟨by decide +kernel, by decide +kernel⟩⟩,
  ⟨⟨(zw6 65 rfl rfl), (zw6 67 rfl rfl), (zwp2 6 rfl), (zw1 16 rfl rfl)⟩, zme_220, ⟨by decide +kernel, by decide +kernel⟩, by decide +kernel, by decide +kernel⟩,
  ⟨⟨(zw5 187 rfl rfl), (zw5 188 rfl rfl), (zw1 16 rfl rfl)⟩, zme_202, ⟨by decide +kernel, by decide +kernel⟩⟩,
  ⟨⟨(zw6 65 rfl rfl), (zw6 67 rfl rfl), (zwp2 6 rfl), (zw1 16 rfl rfl)⟩, zme_220, ⟨by decide +kernel, by decide +kernel⟩, by decide +kernel, by decide +kernel⟩,
  ⟨⟨(zw6 110 rfl rfl), (zw6 112 rfl rfl), (zwp2 13 rfl), (zw1 16 rfl rfl)⟩, zme_231, ⟨by decide +kernel, by decide +kernel⟩, by decide +kernel, by decide +kernel⟩,
  ⟨⟨(zw6 65 rfl rfl), (zw6 67 rfl rfl), (zwp2 6 rfl), (zw1 16 rfl rfl)⟩, zme_220, ⟨by decide +kernel, by decide +kernel⟩, by decide +kernel, by decide +kernel⟩,
  ⟨⟨(zw6 141 rfl rfl), (zw6 142 rfl rfl), (zw1 16 rfl rfl)⟩, zme_238, ⟨by decide +kernel, by decide +kernel⟩⟩,
  ⟨⟨(zw5 187 rfl rfl), (zw5 188 rfl rfl), (zw1 16 rfl rfl)⟩, zme_202, ⟨by decide +kernel, by decide +kernel⟩⟩,
  ⟨⟨(zw6 65 rfl rfl), (zw6 67 rfl rfl), (zwp2 6 rfl), (zw1 16 rfl rfl)⟩, zme_220, ⟨by decide +kernel, by decide +kernel⟩, by decide +kernel, by decide +kernel⟩,
  ⟨⟨_, _, _, _, rfl, (zw6 130 rfl rfl), (zw3 95 rfl rfl), (zw3 96 rfl rfl)⟩, (zw1 18 rfl rfl), by decide +kernel, by decide +kernel⟩,
  ⟨⟨(zw6 137 rfl rfl), (zw6 139 rfl rfl), (zwp3 3 rfl), (zw1 16 rfl rfl)⟩, zme_237, ⟨by decide +kernel, by decide +kernel⟩, by decide +kernel, by decide +kernel⟩,
  ⟨⟨(zw5 187 rfl rfl), (zw5 188 rfl rfl), (zw1 16 rfl rfl)⟩, zme_202, ⟨by decide +kernel, by decide +kernel⟩⟩,
  ⟨⟨(zw6 14 rfl rfl), (zw6 16 rfl rfl), (zwp2 2 rfl), (zw1 16 rfl rfl)⟩, zme_208, ⟨by decide +kernel, by decide +kernel⟩, by decide +kernel, by decide +kernel⟩,
  ⟨⟨(zw6 65 rfl rfl), (zw6 67 rfl rfl), (zwp2 6 rfl), (zw1 16 rfl rfl)⟩, zme_220, ⟨by decide +kernel, by decide +kernel⟩, by decide +kernel, by decide +kernel⟩,
  ⟨⟨(zw6 82 rfl rfl), (zw6 84 rfl rfl), (zwp2 8 rfl), (zw1 16 rfl rfl)⟩, zme_224, ⟨by decide +kernel, by decide +kernel⟩, by decide +kernel, by decide +kernel⟩,
  ⟨⟨(zw6 94 rfl rfl), (zw6 96 rfl rfl), (zwp2 9 rfl), (zw1 16 rfl rfl)⟩, zme_227, ⟨by decide +kernel, by decide +kernel⟩, by decide +kernel, by decide +kernel⟩,
  ⟨⟨(zw6 94 rfl rfl), (zw6 96 rfl rfl), (zwp2 9 rfl), (zw1 16 rfl rfl)⟩, zme_227, ⟨by decide +kernel, by decide +kernel⟩, by decide +kernel, by decide +kernel⟩,
  ⟨⟨(zw6 4 rfl rfl), (zw6 5 rfl rfl), (zw1 16 rfl rfl)⟩, zme_205, ⟨by decide +kernel, by decide +kernel⟩⟩,
  ⟨⟨(zw6 1 rfl rfl), (zw6 2 rfl rfl), (zw1 16 rfl rfl)⟩, zme_204, ⟨by decide +kernel, by decide +kernel⟩⟩,
  ⟨⟨(zw6 7 rfl rfl), (zw6 8 rfl rfl), (zw1 16 rfl rfl)⟩, zme_206, ⟨by decide +kernel, by decide +kernel⟩⟩,
  ⟨⟨(zw6 65 rfl rfl), (zw6 67 rfl rfl), (zwp2 6 rfl), (zw1 16 rfl rfl)⟩, zme_220, ⟨by decide +kernel, by decide +kernel⟩, by decide +kernel, by decide +kernel⟩,
  ⟨⟨(zw6 4 rfl rfl), (zw6 5 rfl rfl), (zw1 16 rfl rfl)⟩, zme_205, ⟨by decide +kernel, by decide +kernel⟩⟩,
  ⟨⟨(zw6 65 rfl rfl), (zw6 67 rfl rfl), (zwp2 6 rfl), (zw1 16 rfl rfl)⟩, zme_220, ⟨by decide +kernel, by decide +kernel⟩, by decide +kernel, by decide +kernel⟩,
  ⟨⟨(zw6 4 rfl rfl), (zw6 5 rfl rfl), (zw1 16 rfl rfl)⟩, zme_205, ⟨by decide +kernel, by decide +kernel⟩⟩,
  ⟨⟨(zw6 1 rfl rfl), (zw6 2 rfl rfl), (zw1 16 rfl rfl)⟩, zme_204, ⟨by decide +kernel, by decide +kernel⟩⟩,
  ⟨⟨(zw6 65 rfl rfl), (zw6 67 rfl rfl), (zwp2 6 rfl), (zw1 16 rfl rfl)⟩, zme_220, ⟨by decide +kernel, by decide +kernel⟩, by decide +kernel, by decide +kernel⟩,
  ⟨⟨(zw6 78 rfl rfl), (zw6 80 rfl rfl), (zwp2 7 rfl), (zw1 16 rfl rfl)⟩, zme_223, ⟨by decide +kernel, by decide +kernel⟩, by decide +kernel, by decide +kernel⟩,
  ⟨⟨(zw6 65 rfl rfl), (zw6 67 rfl rfl), (zwp2 6 rfl), (zw1 16 rfl rfl)⟩, zme_220, ⟨by decide +kernel, by decide +kernel⟩, by decide +kernel, by decide +kernel⟩,
  ⟨⟨(zw6 78 rfl rfl), (zw6 80 rfl rfl), (zwp2 7 rfl), (zw1 16 rfl rfl)⟩, zme_223, ⟨by decide +kernel, by decide +kernel⟩, by decide +kernel, by decide +kernel⟩,
  ⟨⟨(zw6 4 rfl rfl), (zw6 5 rfl rfl), (zw1 16 rfl rfl)⟩, zme_205, ⟨by decide +kernel, by decide +kernel⟩⟩,
  ⟨⟨(zw6 1 rfl rfl), (zw6 2 rfl rfl), (zw1 16 rfl rfl)⟩, zme_204, ⟨by decide +kernel, by decide +kernel⟩⟩,
  ⟨⟨(zw6 7 rfl rfl), (zw6 8 rfl rfl), (zw1 16 rfl rfl)⟩, zme_206, ⟨by decide +kernel, by decide +kernel⟩⟩,
  ⟨⟨(zw6 110 rfl rfl), (zw6 112 rfl rfl), (zwp2 13 rfl), (zw1 16 rfl rfl)⟩, zme_231, ⟨by decide +kernel, by decide +kernel⟩, by decide +kernel, by decide +kernel⟩,
  ⟨⟨(zw6 4 rfl rfl), (zw6 5 rfl rfl), (zw1 16 rfl rfl)⟩, zme_205, ⟨by decide +kernel, by decide +kernel⟩⟩,
  ⟨⟨(zw6 144 rfl rfl), (zw6 146 rfl rfl), (zwp3 4 rfl), (zw1 16 rfl rfl)⟩, zme_239, ⟨by decide +kernel, by decide +kernel⟩, by decide +kernel, by decide +kernel⟩,
  ⟨⟨(zw6 197 rfl rfl), (zw6 199 rfl rfl), (zwp3 9 rfl), (zw1 16 rfl rfl)⟩, zme_252, ⟨by decide +kernel, by decide +kernel⟩, by decide +kernel, by decide +kernel⟩,
  ⟨⟨(zw6 1 rfl rfl), (zw6 2 rfl rfl), (zw1 16 rfl rfl)⟩, zme_204, ⟨by decide +kernel, by decide +kernel⟩⟩,
  ⟨⟨(zw6 7 rfl rfl), (zw6 8 rfl rfl), (zw1 16 rfl rfl)⟩, zme_206, ⟨by decide +kernel, by decide +kernel⟩⟩,
  ⟨⟨(zw6 94 rfl rfl), (zw6 96 rfl rfl), (zwp2 9 rfl), (zw1 16 rfl rfl)⟩, zme_227, ⟨by decide +kernel, by decide +kernel⟩, by decide +kernel, by decide +kernel⟩,
  ⟨⟨(zw6 1 rfl rfl), (zw6 2 rfl rfl), (zw1 16 rfl rfl)⟩, zme_204, ⟨by decide +kernel, by decide +kernel⟩⟩,
  ⟨⟨(zw6 110 rfl rfl), (zw6 112 rfl rfl), (zwp2 13 rfl), (zw1 16 rfl rfl)⟩, zme_231, ⟨by decide +kernel, by decide +kernel⟩, by decide +kernel, by decide +kernel⟩,
  ⟨⟨(zw6 144 rfl rfl), (zw6 146 rfl rfl), (zwp3 4 rfl), (zw1 16 rfl rfl)⟩, zme_239, ⟨by decide +kernel, by decide +kernel⟩, by decide +kernel, by decide +kernel⟩,
  ⟨⟨(zw6 94 rfl rfl), (zw6 96 rfl rfl), (zwp2 9 rfl), (zw1 16 rfl rfl)⟩, zme_227, ⟨by decide +kernel, by decide +kernel⟩, by decide +kernel, by decide +kernel⟩,
  ⟨⟨(zw6 1 rfl rfl), (zw6 2 rfl rfl), (zw1 16 rfl rfl)⟩, zme_204, ⟨by decide +kernel, by decide +kernel⟩⟩,
  ⟨⟨(zw6 65 rfl rfl), (zw6 67 rfl rfl), (zwp2 6 rfl), (zw1 16 rfl rfl)⟩, zme_220, ⟨by decide +kernel, by decide +kernel⟩, by decide +kernel, by decide +kernel⟩,
  ⟨⟨(zw6 65 rfl rfl), (zw6 67 rfl rfl), (zwp2 6 rfl), (zw1 16 rfl rfl)⟩, zme_220, ⟨by decide +kernel, by decide +kernel⟩, by decide +kernel, by decide +kernel⟩,
  ⟨⟨(zw6 197 rfl rfl), (zw6 199 rfl rfl), (zwp3 9 rfl), (zw1 16 rfl rfl)⟩, zme_252, ⟨by decide +kernel, by decide +kernel⟩, by decide +kernel, by decide +kernel⟩,
  ⟨⟨(zw6 4 rfl rfl), (zw6 5 rfl rfl), (zw1 16 rfl rfl)⟩, zme_205, ⟨by decide +kernel, by decide +kernel⟩⟩,
  ⟨⟨(zw6 141 rfl rfl), (zw6 142 rfl rfl), (zw1 16 rfl rfl)⟩, zme_238, ⟨by decide +kernel, by decide +kernel⟩⟩,
  ⟨⟨(zw6 197 rfl rfl), (zw6 199 rfl rfl), (zwp3 9 rfl), (zw1 16 rfl rfl)⟩, zme_252, ⟨by decide +kernel, by decide +kernel⟩, by decide +kernel, by decide +kernel⟩,
  ⟨⟨(zw6 218 rfl rfl), (zw6 220 rfl rfl), (zwp3 10 rfl), (zw1 16 rfl rfl)⟩, zme_257, ⟨by decide +kernel, by decide +kernel⟩, by decide +kernel, by decide +kernel⟩, trivial⟩
theorem zst_ok5 : zAll zsP zst_5 := ⟨⟨⟨(zw6 65 rfl rfl), (zw6 67 rfl rfl), (zwp2 6 rfl), (zw1 16 rfl rfl)⟩, zme_220, ⟨by decide +kernel, by decide +kernel⟩, by decide +kernel, by decide +kernel⟩,
  ⟨⟨(zw6 141 rfl rfl), (zw6 142 rfl rfl), (zw1 16 rfl rfl)⟩, zme_238, ⟨by decide +kernel, by decide +kernel⟩⟩,
  ⟨⟨(zw6 197 rfl rfl), (zw6 199 rfl rfl), (zwp3 9 rfl), (zw1 16 rfl rfl)⟩, zme_252, ⟨by decide +kernel, by decide +kernel⟩, by decide +kernel, by decide +kernel⟩,
  ⟨⟨(zw6 218 rfl rfl), (zw6 220 rfl rfl), (zwp3 10 rfl), (zw1 16 rfl rfl)⟩, zme_257, ⟨by decide +kernel, by decide +kernel⟩, by decide +kernel, by decide +kernel⟩,
  ⟨⟨(zw6 65 rfl rfl), (zw6 67 rfl rfl), (zwp2 6 rfl), (zw1 16 rfl rfl)⟩, zme_220, ⟨by decide +kernel, by decide +kernel⟩, by decide +kernel, by decide +kernel⟩,
  ⟨⟨(zw6 141 rfl rfl), (zw6 142 rfl rfl), (zw1 16 rfl rfl)⟩, zme_238, ⟨by decide +kernel, by decide +kernel⟩⟩,
  ⟨⟨(zw6 197 rfl rfl), (zw6 199 rfl rfl), (zwp3 9 rfl), (zw1 16 rfl rfl)⟩, zme_252, ⟨by decide +kernel, by decide +kernel⟩, by decide +kernel, by decide +kernel⟩,
  ⟨⟨(zw6 230 rfl rfl), (zw6 232 rfl rfl), (zwp3 11 rfl), (zw1 16 rfl rfl)⟩, zme_260, ⟨by decide +kernel, by decide +kernel⟩, by decide +kernel, by decide +kernel⟩,
  ⟨⟨(zw7 19 rfl rfl), (zw7 21 rfl rfl), (zwp3 15 rfl), (zw1 16 rfl rfl)⟩, zme_264, ⟨by decide +kernel, by decide +kernel⟩, by decide +kernel, by decide +kernel⟩,
  ⟨⟨(zw7 8 rfl rfl), (zw7 10 rfl rfl), (zwp3 13 rfl), (zw1 16 rfl rfl)⟩, zme_262, ⟨by decide +kernel, by decide +kernel⟩, by decide +kernel, by decide +kernel⟩,
  ⟨⟨(zw6 234 rfl rfl), (zw6 236 rfl rfl), (zwp3 12 rfl), (zw1 16 rfl rfl)⟩, zme_261, ⟨by decide +kernel, by decide +kernel⟩, by decide +kernel, by decide +kernel⟩,
  ⟨⟨(zw7 12 rfl rfl), (zw7 14 rfl rfl), (zwp3 14 rfl), (zw1 16 rfl rfl)⟩, zme_263, ⟨by decide +kernel, by decide +kernel⟩, by decide +kernel, by decide +kernel⟩,
  ⟨⟨(zw7 6 rfl rfl), (zw4 74 rfl rfl), (zw4 75 rfl rfl), (zw1 14 rfl rfl)⟩, zme_122, ⟨by decide +kernel, by decide +kernel⟩, by decide +kernel, by decide +kernel⟩,
  ⟨⟨(zw7 7 rfl rfl), (zw5 108 rfl rfl), (zw5 109 rfl rfl), (zw1 14 rfl rfl)⟩, zme_183, ⟨by decide +kernel, by decide +kernel⟩, by decide +kernel, by decide +kernel⟩,
  ⟨⟨(zw7 8 rfl rfl), (zw7 10 rfl rfl), (zwp3 13 rfl), (zw1 16 rfl rfl)⟩, zme_262, ⟨by decide +kernel, by decide +kernel⟩, by decide +kernel, by decide +kernel⟩,
  ⟨⟨(zw7 8 rfl rfl), (zw7 10 rfl rfl), (zwp3 13 rfl), (zw1 16 rfl rfl)⟩, zme_262, ⟨by decide +kernel, by decide +kernel⟩, by decide +kernel, by decide +kernel⟩,
  ⟨⟨(zw6 4 rfl rfl), (zw6 5 rfl rfl), (zw1 16 rfl rfl)⟩, zme_205, ⟨by decide +kernel, by decide +kernel⟩⟩,
  ⟨⟨(zw6 197 rfl rfl), (zw6 199 rfl rfl), (zwp3 9 rfl), (zw1 16 rfl rfl)⟩, zme_252, ⟨by decide +kernel, by decide +kernel⟩, by decide +kernel, by decide +kernel⟩,
  ⟨⟨(zw7 27 rfl rfl), (zw7 29 rfl rfl), (zwp4 0 rfl), (zw1 16 rfl rfl)⟩, zme_266, ⟨by decide +kernel, by decide +kernel⟩, by decide +kernel, by decide +kernel⟩,
  ⟨⟨(zw6 65 rfl rfl), (zw6 67 rfl rfl), (zwp2 6 rfl), (zw1 16 rfl rfl)⟩, zme_220, ⟨by decide +kernel, by decide +kernel⟩, by decide +kernel, by decide +kernel⟩,
  ⟨⟨(zw6 141 rfl rfl), (zw6 142 rfl rfl), (zw1 16 rfl rfl)⟩, zme_238, ⟨by decide +kernel, by decide +kernel⟩⟩,
  ⟨⟨(zw6 1 rfl rfl), (zw6 2 rfl rfl), (zw1 16 rfl rfl)⟩, zme_204, ⟨by decide +kernel, by decide +kernel⟩⟩,
  ⟨⟨(zw6 94 rfl rfl), (zw6 96 rfl rfl), (zwp2 9 rfl), (zw1 16 rfl rfl)⟩, zme_227, ⟨by decide +kernel, by decide +kernel⟩, by decide +kernel, by decide +kernel⟩,
  ⟨⟨(zw7 36 rfl rfl), (zw7 38 rfl rfl), (zwp4 1 rfl), (zw1 16 rfl rfl)⟩, zme_268, ⟨by decide +kernel, by decide +kernel⟩, by decide +kernel, by decide +kernel⟩,
  ⟨⟨(zw5 187 rfl rfl), (zw5 188 rfl rfl), (zw1 16 rfl rfl)⟩, zme_202, ⟨by decide +kernel, by decide +kernel⟩⟩,
  ⟨⟨(zw6 94 rfl rfl), (zw6 96 rfl rfl), (zwp2 9 rfl), (zw1 16 rfl rfl)⟩, zme_227, ⟨by decide +kernel, by decide +kernel⟩, by decide +kernel, by decide +kernel⟩,
  ⟨⟨(zw6 98 rfl rfl), (zw6 100 rfl rfl), (zwp2 10 rfl), (zw1 16 rfl rfl)⟩, zme_228, ⟨by decide +kernel, by decide +kernel⟩, by decide +kernel, by decide +kernel⟩,
  ⟨⟨(zw7 27 rfl rfl), (zw7 29 rfl rfl), (zwp4 0 rfl), (zw1 16 rfl rfl)⟩, zme_266, ⟨by decide +kernel, by decide +kernel⟩, by decide +kernel, by decide +kernel⟩,
  ⟨⟨(zw7 40 rfl rfl), (zw7 42 rfl rfl), (zwp4 2 rfl), (zw1 16 rfl rfl)⟩, zme_269, ⟨by decide +kernel, by decide +kernel⟩, by decide +kernel, by decide +kernel⟩,
  ⟨⟨(zw7 44 rfl rfl), (zw7 46 rfl rfl), (zwp4 3 rfl), (zw1 16 rfl rfl)⟩, zme_270, ⟨by decide +kernel, by decide +kernel⟩, by decide +kernel, by decide +kernel⟩,
  ⟨(zw6 23 rfl rfl), (zw2 117 rfl rfl), (zw2 116 rfl rfl), (zw1 17 rfl rfl), by decide +kernel, by decide +kernel⟩,
  ⟨(zw6 23 rfl rfl), (zw2 117 rfl rfl), (zw2 116 rfl rfl), (zw1 17 rfl rfl), by decide +kernel, by decide +kernel⟩,
  ⟨⟨(zw6 1 rfl rfl), (zw6 2 rfl rfl), (zw1 16 rfl rfl)⟩, zme_204, ⟨by decide +kernel, by decide +kernel⟩⟩,
  ⟨⟨(zw6 94 rfl rfl), (zw6 96 rfl rfl), (zwp2 9 rfl), (zw1 16 rfl rfl)⟩, zme_227, ⟨by decide +kernel, by decide +kernel⟩, by decide +kernel, by decide +kernel⟩,
  ⟨⟨(zw7 36 rfl rfl), (zw7 38 rfl rfl), (zwp4 1 rfl), (zw1 16 rfl rfl)⟩, zme_268, ⟨by decide +kernel, by decide +kernel⟩, by decide +kernel, by decide +kernel⟩,
  ⟨⟨(zw6 4 rfl rfl), (zw6 5 rfl rfl), (zw1 16 rfl rfl)⟩, zme_205, ⟨by decide +kernel, by decide +kernel⟩⟩,
  ⟨⟨(zw6 1 rfl rfl), (zw6 2 rfl rfl), (zw1 16 rfl rfl)⟩, zme_204, ⟨by decide +kernel, by decide +kernel⟩⟩,
  ⟨⟨(zw6 65 rfl rfl), (zw6 67 rfl rfl), (zwp2 6 rfl), (zw1 16 rfl rfl)⟩, zme_220, ⟨by decide +kernel, by decide +kernel⟩, by decide +kernel, by decide +kernel⟩,
  ⟨⟨(zw6 114 rfl rfl), (zw6 116 rfl rfl), (zwp2 14 rfl), (zw1 16 rfl rfl)⟩, zme_232, ⟨by decide +kernel, by decide +kernel⟩, by decide +kernel, by decide +kernel⟩,
  ⟨⟨(zw6 122 rfl rfl), (zw6 124 rfl rfl), (zwp3 0 rfl), (zw1 16 rfl rfl)⟩, zme_234, ⟨by decide +kernel, by decide +kernel⟩, by decide +kernel, by decide +kernel⟩,
  ⟨⟨(zw6 94 rfl rfl), (zw6 96 rfl rfl), (zwp2 9 rfl), (zw1 16 rfl rfl)⟩, zme_227, ⟨by decide +kernel, by decide +kernel⟩, by decide +kernel, by decide +kernel⟩,
  ⟨⟨(zw6 1 rfl rfl), (zw6 2 rfl rfl), (zw1 16 rfl rfl)⟩, zme_204, ⟨by decide +kernel, by decide +kernel⟩⟩,
  ⟨⟨(zw6 94 rfl rfl), (zw6 96 rfl rfl), (zwp2 9 rfl), (zw1 16 rfl rfl)⟩, zme_227, ⟨by decide +kernel, by decide +kernel⟩, by decide +kernel, by decide +kernel⟩,
  ⟨⟨(zw6 98 rfl rfl), (zw6 100 rfl rfl), (zwp2 10 rfl), (zw1 16 rfl rfl)⟩, zme_228, ⟨by decide +kernel, by decide +kernel⟩, by decide +kernel, by decide +kernel⟩,
  ⟨⟨(zw7 40 rfl rfl), (zw7 42 rfl rfl), (zwp4 2 rfl), (zw1 16 rfl rfl)⟩, zme_269, ⟨by decide +kernel, by decide +kernel⟩, by decide +kernel, by decide +kernel⟩,
  ⟨⟨(zw7 44 rfl rfl), (zw7 46 rfl rfl), (zwp4 3 rfl), (zw1 16 rfl rfl)⟩, zme_270, ⟨by decide +kernel, by decide +kernel⟩, by decide +kernel, by decide +kernel⟩,
  ⟨⟨(zw7 60 rfl rfl), (zw7 62 rfl rfl), (zwp4 4 rfl), (zw1 16 rfl rfl)⟩, zme_274, ⟨by decide +kernel, by decide +kernel⟩, by decide +kernel, by decide +kernel⟩,
  ⟨⟨(zw6 94 rfl rfl), (zw6 96 rfl rfl), (zwp2 9 rfl), (zw1 16 rfl rfl)⟩, zme_227, ⟨by decide +kernel, by decide +kernel⟩, by decide +kernel, by decide +kernel⟩,
  ⟨⟨(zw7 27 rfl rfl), (zw7 29 rfl rfl), (zwp4 0 rfl), (zw1 16 rfl rfl)⟩, zme_266, ⟨by decide +kernel, by decide +kernel⟩, by decide +kernel, by decide +kernel⟩,
  ⟨⟨(zw6 4 rfl rfl), (zw6 5 rfl rfl), (zw1 16 rfl rfl)⟩, zme_205, ⟨by decide +kernel, by decide +kernel⟩⟩,
  ⟨⟨(zw6 1 rfl rfl), (zw6 2 rfl rfl), (zw1 16 rfl rfl)⟩, zme_204, ⟨by decide +kernel, by decide +kernel⟩⟩,
  ⟨⟨(zw7 68 rfl rfl), (zw7 70 rfl rfl), (zwp4 5 rfl), (zw1 16 rfl rfl)⟩, zme_276, ⟨by decide +kernel, by decide +kernel⟩, by decide +kernel, by decide +kernel⟩,
  ⟨⟨(zw6 4 rfl rfl), (zw6 5 rfl rfl), (zw1 16 rfl rfl)⟩, zme_205, ⟨by decide +kernel, by decide +kernel⟩⟩,
  ⟨⟨(zw6 94 rfl rfl), (zw6 96 rfl rfl), (zwp2 9 rfl), (zw1 16 rfl rfl)⟩, zme_227, ⟨by decide +kernel, by decide +kernel⟩, by decide +kernel, by decide +kernel⟩,
  ⟨⟨(zw7 72 rfl rfl), (zw7 74 rfl rfl), (zwp4 6 rfl), (zw1 16 rfl rfl)⟩, zme_277, ⟨by decide +kernel, by decide +kernel⟩, by decide +kernel, by decide +kernel⟩,
  ⟨⟨(zw6 65 rfl rfl), (zw6 67 rfl rfl), (zwp2 6 rfl), (zw1 16 rfl rfl)⟩, zme_220, ⟨by decide +kernel, by decide +kernel⟩, by decide +kernel, by decide +kernel⟩,
  ⟨⟨(zw6 141 rfl rfl), (zw6 142 rfl rfl), (zw1 16 rfl rfl)⟩, zme_238, ⟨by decide +kernel, by decide +kernel⟩⟩,
  ⟨⟨(zw6 4 rfl rfl), (zw6 5 rfl rfl), (zw1 16 rfl rfl)⟩, zme_205, ⟨by decide +kernel, by decide +kernel⟩⟩,
  ⟨⟨(zw6 1 rfl rfl), (zw6 2 rfl rfl), (zw1 16 rfl rfl)⟩, zme_204, ⟨by decide +kernel, by decide +kernel⟩⟩,
  ⟨⟨(zw6 114 rfl rfl), (zw6 116 rfl rfl), (zwp2 14 rfl), (zw1 16 rfl rfl)⟩, zme_232, ⟨by decide +kernel, by decide +kernel⟩, by decide +kernel, by decide +kernel⟩,
  ⟨⟨(zw6 122 rfl rfl), (zw6 124 rfl rfl), (zwp3 0 rfl), (zw1 16 rfl rfl)⟩, zme_234, ⟨by decide +kernel, by decide +kernel⟩, by decide +kernel, by decide +kernel⟩,
  ⟨⟨(zw6 94 rfl rfl), (zw6 96 rfl rfl), (zwp2 9 rfl), (zw1 16 rfl rfl)⟩, zme_227, ⟨by decide +kernel, by decide +kernel⟩, by decide +kernel, by decide +kernel⟩,
  ⟨⟨(zw6 4 rfl rfl), (zw6 5 rfl rfl), (zw1 16 rfl rfl)⟩, zme_205, ⟨by decide +kernel, by decide +kernel⟩⟩,
  ⟨⟨(zw6 7 rfl rfl), (zw6 8 rfl rfl), (zw1 16 rfl rfl)⟩, zme_206, ⟨by decide +kernel, by decide +kernel⟩⟩,
  ⟨⟨(zw6 94 rfl rfl), (zw6 96 rfl rfl), (zwp2 9 rfl), (zw1 16 rfl rfl)⟩, zme_227, ⟨by decide +kernel, by decide +kernel⟩, by decide +kernel, by decide +kernel⟩,
  ⟨⟨(zw7 72 rfl rfl), (zw7 74 rfl rfl), (zwp4 6 rfl), (zw1 16 rfl rfl)⟩, zme_277, ⟨by decide +kernel, by decide +kernel⟩, by decide +kernel, by decide +kernel⟩,
  ⟨⟨(zw6 1 rfl rfl), (zw6 2 rfl rfl), (zw1 16 rfl rfl)⟩, zme_204, ⟨by decide +kernel, by decide +kernel⟩⟩,
  ⟨⟨(zw6 114 rfl rfl), (zw6 116 rfl rfl), (zwp2 14 rfl), (zw1 16 rfl rfl)⟩, zme_232, ⟨by decide +kernel, by decide +kernel⟩, by decide +kernel, by decide +kernel⟩,
  ⟨⟨(zw6 122 rfl rfl), (zw6 124 rfl rfl), (zwp3 0 rfl), (zw1 16 rfl rfl)⟩, zme_234, ⟨by decide +kernel, by decide +kernel⟩, by decide +kernel, by decide +kernel⟩,
  ⟨⟨(zw6 94 rfl rfl), (zw6 96 rfl rfl), (zwp2 9 rfl), (zw1 16 rfl rfl)⟩, zme_227, ⟨by decide +kernel, by decide +kernel⟩, by decide +kernel, by decide +kernel⟩,
  ⟨⟨(zw6 230 rfl rfl), (zw6 232 rfl rfl), (zwp3 11 rfl), (zw1 16 rfl rfl)⟩, zme_260, ⟨by decide +kernel, by decide +kernel⟩, by decide +kernel, by decide +kernel⟩,
  ⟨⟨(zw7 19 rfl rfl), (zw7 21 rfl rfl), (zwp3 15 rfl), (zw1 16 rfl rfl)⟩, zme_264, ⟨by decide +kernel, by decide +kernel⟩, by decide +kernel, by decide +kernel⟩,
  ⟨⟨(zw7 68 rfl rfl), (zw7 70 rfl rfl), (zwp4 5 rfl), (zw1 16 rfl rfl)⟩, zme_276, ⟨by decide +kernel, by decide +kernel⟩, by decide +kernel, by decide +kernel⟩,
  ⟨⟨(zw6 1 rfl rfl), (zw6 2 rfl rfl), (zw1 16 rfl rfl)⟩, zme_204, ⟨by decide +kernel, by decide +kernel⟩⟩,
  ⟨⟨(zw6 94 rfl rfl), (zw6 96 rfl rfl), (zwp2 9 rfl), (zw1 16 rfl rfl)⟩, zme_227, ⟨by decide +kernel, by decide +kernel⟩, by decide +kernel, by decide +kernel⟩,
  ⟨⟨(zw7 27 rfl rfl), (zw7 29 rfl rfl), (zwp4 0 rfl), (zw1 16 rfl rfl)⟩, zme_266, ⟨by decide +kernel, by decide +kernel⟩, by decide +kernel, by decide +kernel⟩,
  ⟨⟨(zw6 65 rfl rfl), (zw6 67 rfl rfl), (zwp2 6 rfl), (zw1 16 rfl rfl)⟩, zme_220, ⟨by decide +kernel, by decide +kernel⟩, by decide +kernel, by decide +kernel⟩,
  ⟨⟨(zw6 141 rfl rfl), (zw6 142 rfl rfl), (zw1 16 rfl rfl)⟩, zme_238, ⟨by decide +kernel, by decide +kernel⟩⟩,
  ⟨⟨(zw6 197 rfl rfl), (zw6 199 rfl rfl), (zwp3 9 rfl), (zw1 16 rfl rfl)⟩, zme_252, ⟨by decide +kernel, by decide +kernel⟩, by decide +kernel, by decide +kernel⟩,
  ⟨⟨(zw6 4 rfl rfl), (zw6 5 rfl rfl), (zw1 16 rfl rfl)⟩, zme_205, ⟨by decide +kernel, by decide +kernel⟩⟩,
  ⟨⟨(zw6 18 rfl rfl), (zw6 20 rfl rfl), (zwp2 3 rfl), (zw1 16 rfl rfl)⟩, zme_209, ⟨by decide +kernel, by decide +kernel⟩, by decide +kernel, by decide +kernel⟩,
  ⟨(zw6 23 rfl rfl), (zw2 117 rfl rfl), (zw2 116 rfl rfl), (zw1 17 rfl rfl), by decide +kernel, by decide +kernel⟩,
  ⟨⟨(zw7 109 rfl rfl), (zw7 111 rfl rfl), (zwp4 8 rfl), (zw1 16 rfl rfl)⟩, zme_286, ⟨by decide +kernel, by decide +kernel⟩, by decide +kernel, by decide +kernel⟩,
  ⟨⟨(zw7 105 rfl rfl), (zw7 107 rfl rfl), (zwp4 7 rfl), (zw1 16 rfl rfl)⟩, zme_285, ⟨by decide +kernel, by decide +kernel⟩, by decide +kernel, by decide +kernel⟩,
  ⟨⟨(zw6 4 rfl rfl), (zw6 5 rfl rfl), (zw1 16 rfl rfl)⟩, zme_205, ⟨by decide +kernel, by decide +kernel⟩⟩,
  ⟨⟨(zw7 109 rfl rfl), (zw7 111 rfl rfl), (zwp4 8 rfl), (zw1 16 rfl rfl)⟩, zme_286, ⟨by decide +kernel, by decide +kernel⟩, by decide +kernel, by decide +kernel⟩,
  ⟨⟨(zw7 113 rfl rfl), (zw7 115 rfl rfl), (zwp4 9 rfl), (zw1 16 rfl rfl)⟩, zme_287, ⟨by decide +kernel, by decide +kernel⟩, by decide +kernel, by decide +kernel⟩,
  ⟨⟨(zw7 135 rfl rfl), (zw7 137 rfl rfl), (zwp4 11 rfl), (zw1 16 rfl rfl)⟩, zme_289, ⟨by decide +kernel, by decide +kernel⟩, by decide +kernel, by decide +kernel⟩,
  ⟨⟨(zw7 139 rfl rfl), (zw7 141 rfl rfl), (zwp4 12 rfl), (zw1 16 rfl rfl)⟩, zme_290, ⟨by decide +kernel, by decide +kernel⟩, by decide +kernel, by decide +kernel⟩,
  ⟨⟨(zw7 131 rfl rfl), (zw7 133 rfl rfl), (zwp4 10 rfl), (zw1 16 rfl rfl)⟩, zme_288, ⟨by decide +kernel, by decide +kernel⟩, by decide +kernel, by decide +kernel⟩,
  ⟨⟨(zw7 6 rfl rfl), (zw4 74 rfl rfl), (zw4 75 rfl rfl), (zw1 14 rfl rfl)⟩, zme_122, ⟨by decide +kernel, by decide +kernel⟩, by decide +kernel, by decide +kernel⟩,
  ⟨⟨(zw7 7 rfl rfl), (zw5 108 rfl rfl), (zw5 109 rfl rfl), (zw1 14 rfl rfl)⟩, zme_183, ⟨by decide +kernel, by decide +kernel⟩, by decide +kernel, by decide +kernel⟩,
  ⟨⟨(zw6 4 rfl rfl), (zw6 5 rfl rfl), (zw1 16 rfl rfl)⟩, zme_205, ⟨by decide +kernel, by decide +kernel⟩⟩,
  ⟨⟨(zw7 109 rfl rfl), (zw7 111 rfl rfl), (zwp4 8 rfl), (zw1 16 rfl rfl)⟩, zme_286, ⟨by decide +kernel, by decide +kernel⟩, by decide +kernel, by decide +kernel⟩,
  ⟨⟨(zw7 143 rfl rfl), (zw5 238 rfl rfl), (zw5 239 rfl rfl), (zw1 16 rfl rfl)⟩, zme_203, ⟨by decide +kernel, by decide +kernel⟩, by decide +kernel, by decide +kernel⟩,
  ⟨⟨(zw7 144 rfl rfl), (zw6 25 rfl rfl), (zw6 26 rfl rfl), (zw1 16 rfl rfl)⟩, zme_210, ⟨by decide +kernel, by decide +kernel⟩, by decide +kernel, by decide +kernel⟩,
  ⟨⟨(zw7 145 rfl rfl), (zw6 29 rfl rfl), (zw6 30 rfl rfl), (zw1 16 rfl rfl)⟩, zme_211, ⟨by decide +kernel, by decide +kernel⟩, by decide +kernel, by decide +kernel⟩,
  ⟨⟨(zw7 146 rfl rfl), (zw6 58 rfl rfl), (zw6 59 rfl rfl), (zw1 16 rfl rfl)⟩, zme_218, ⟨by decide +kernel, by decide +kernel⟩, by decide +kernel, by decide +kernel⟩,
  ⟨⟨(zw7 147 rfl rfl), (zw6 71 rfl rfl), (zw6 72 rfl rfl), (zw1 16 rfl rfl)⟩, zme_221, ⟨by decide +kernel, by decide +kernel⟩, by decide +kernel, by decide +kernel⟩,
  ⟨⟨(zw7 148 rfl rfl), (zw6 87 rfl rfl), (zw6 88 rfl rfl), (zw1 16 rfl rfl)⟩, zme_225, ⟨by decide +kernel, by decide +kernel⟩, by decide +kernel, by decide +kernel⟩, trivial⟩
theorem zst_ok6 : zAll zsP zst_6 := ⟨⟨⟨(zw7 149 rfl rfl), (zw6 33 rfl rfl), (zw6 34 rfl rfl), (zw1 16 rfl rfl)⟩, zme_212, ⟨by decide +kernel, by decide +kernel⟩, by decide +kernel, by decide +kernel⟩,
  ⟨⟨(zw7 150 rfl rfl), (zw6 37 rfl rfl), (zw6 38 rfl rfl), (zw1 16 rfl rfl)⟩, zme_213, ⟨by decide +kernel, by decide +kernel⟩, by decide +kernel, by decide +kernel⟩,
  ⟨⟨(zw7 151 rfl rfl), (zw6 45 rfl rfl), (zw6 46 rfl rfl), (zw1 16 rfl rfl)⟩, zme_215, ⟨by decide +kernel, by decide +kernel⟩, by decide +kernel, by decide +kernel⟩,
  ⟨⟨(zw7 152 rfl rfl), (zw6 50 rfl rfl), (zw6 51 rfl rfl), (zw1 16 rfl rfl)⟩, zme_216, ⟨by decide +kernel, by decide +kernel⟩, by decide +kernel, by decide +kernel⟩,
  ⟨⟨(zw7 153 rfl rfl), (zw6 75 rfl rfl), (zw6 76 rfl rfl), (zw1 16 rfl rfl)⟩, zme_222, ⟨by decide +kernel, by decide +kernel⟩, by decide +kernel, by decide +kernel⟩,
  ⟨⟨(zw7 154 rfl rfl), (zw6 91 rfl rfl), (zw6 92 rfl rfl), (zw1 16 rfl rfl)⟩, zme_226, ⟨by decide +kernel, by decide +kernel⟩, by decide +kernel, by decide +kernel⟩,
  ⟨(zw6 23 rfl rfl), (zw2 117 rfl rfl), (zw2 116 rfl rfl), (zw1 17 rfl rfl), by decide +kernel, by decide +kernel⟩,
  ⟨⟨(zw6 94 rfl rfl), (zw6 96 rfl rfl), (zwp2 9 rfl), (zw1 16 rfl rfl)⟩, zme_227, ⟨by decide +kernel, by decide +kernel⟩, by decide +kernel, by decide +kernel⟩,
  ⟨(zw6 23 rfl rfl), (zw2 117 rfl rfl), (zw2 116 rfl rfl), (zw1 17 rfl rfl), by decide +kernel, by decide +kernel⟩,
  ⟨⟨(zw6 14 rfl rfl), (zw6 16 rfl rfl), (zwp2 2 rfl), (zw1 16 rfl rfl)⟩, zme_208, ⟨by decide +kernel, by decide +kernel⟩, by decide +kernel, by decide +kernel⟩,
  ⟨⟨(zw6 94 rfl rfl), (zw6 96 rfl rfl), (zwp2 9 rfl), (zw1 16 rfl rfl)⟩, zme_227, ⟨by decide +kernel, by decide +kernel⟩, by decide +kernel, by decide +kernel⟩,
  ⟨(zw6 23 rfl rfl), (zw2 117 rfl rfl), (zw2 116 rfl rfl), (zw1 17 rfl rfl), by decide +kernel, by decide +kernel⟩,
  ⟨⟨(zw1 25 rfl rfl), (zw1 26 rfl rfl), (zw1 1 rfl rfl)⟩, zme_0, ⟨by decide +kernel, by decide +kernel⟩, by decide +kernel, by decide +kernel⟩,
  ⟨⟨(zw5 181 rfl rfl), (zw5 182 rfl rfl), (zw1 16 rfl rfl)⟩, zme_201, ⟨by decide +kernel, by decide +kernel⟩, by decide +kernel, by decide +kernel⟩,
  ⟨⟨(zw2 99 rfl rfl), (zw2 100 rfl rfl), (zw2 101 rfl rfl), (zw1 1 rfl rfl)⟩, zme_16, ⟨by decide +kernel, by decide +kernel⟩, by decide +kernel, by decide +kernel⟩,
  ⟨⟨(zw5 237 rfl rfl), (zw5 238 rfl rfl), (zw5 239 rfl rfl), (zw1 16 rfl rfl)⟩, zme_203, ⟨by decide +kernel, by decide +kernel⟩, by decide +kernel, by decide +kernel⟩,
  ⟨⟨(zw2 153 rfl rfl), (zw2 154 rfl rfl), (zw2 155 rfl rfl), (zw1 1 rfl rfl)⟩, zme_29, ⟨by decide +kernel, by decide +kernel⟩, by decide +kernel, by decide +kernel⟩,
  ⟨⟨(zw6 24 rfl rfl), (zw6 25 rfl rfl), (zw6 26 rfl rfl), (zw1 16 rfl rfl)⟩, zme_210, ⟨by decide +kernel, by decide +kernel⟩, by decide +kernel, by decide +kernel⟩,
  ⟨⟨(zw2 161 rfl rfl), (zw2 162 rfl rfl), (zw2 163 rfl rfl), (zw1 1 rfl rfl)⟩, zme_31, ⟨by decide +kernel, by decide +kernel⟩, by decide +kernel, by decide +kernel⟩,
  ⟨⟨(zw6 28 rfl rfl), (zw6 29 rfl rfl), (zw6 30 rfl rfl), (zw1 16 rfl rfl)⟩, zme_211, ⟨by decide +kernel, by decide +kernel⟩, by decide +kernel, by decide +kernel⟩,
  ⟨⟨(zw2 169 rfl rfl), (zw2 170 rfl rfl), (zw2 171 rfl rfl), (zw1 1 rfl rfl)⟩, zme_33, ⟨by decide +kernel, by decide +kernel⟩, by decide +kernel, by decide +kernel⟩,
  ⟨⟨(zw6 32 rfl rfl), (zw6 33 rfl rfl), (zw6 34 rfl rfl), (zw1 16 rfl rfl)⟩, zme_212, ⟨by decide +kernel, by decide +kernel⟩, by decide +kernel, by decide +kernel⟩,
  ⟨⟨(zw2 177 rfl rfl), (zw2 178 rfl rfl), (zw2 179 rfl rfl), (zw1 1 rfl rfl)⟩, zme_35, ⟨by decide +kernel, by decide +kernel⟩, by decide +kernel, by decide +kernel⟩,
  ⟨⟨(zw6 36 rfl rfl), (zw6 37 rfl rfl), (zw6 38 rfl rfl), (zw1 16 rfl rfl)⟩, zme_213, ⟨by decide +kernel, by decide +kernel⟩, by decide +kernel, by decide +kernel⟩,
  ⟨⟨(zw2 185 rfl rfl), (zw2 186 rfl rfl), (zw2 187 rfl rfl), (zw1 1 rfl rfl)⟩, zme_37, ⟨by decide +kernel, by decide +kernel⟩, by decide +kernel, by decide +kernel⟩,
  ⟨⟨(zw6 44 rfl rfl), (zw6 45 rfl rfl), (zw6 46 rfl rfl), (zw1 16 rfl rfl)⟩, zme_215, ⟨by decide +kernel, by decide +kernel⟩, by decide +kernel, by decide +kernel⟩,
  ⟨⟨(zw2 194 rfl rfl), (zw2 195 rfl rfl), (zw2 196 rfl rfl), (zw1 1 rfl rfl)⟩, zme_39, ⟨by decide +kernel, by decide +kernel⟩, by decide +kernel, by decide +kernel⟩,
  ⟨⟨(zw6 49 rfl rfl), (zw6 50 rfl rfl), (zw6 51 rfl rfl), (zw1 16 rfl rfl)⟩, zme_216, ⟨by decide +kernel, by decide +kernel⟩, by decide +kernel, by decide +kernel⟩,
  ⟨⟨(zw2 207 rfl rfl), (zw2 208 rfl rfl), (zw2 209 rfl rfl), (zw1 1 rfl rfl)⟩, zme_42, ⟨by decide +kernel, by decide +kernel⟩, by decide +kernel, by decide +kernel⟩,
  ⟨⟨(zw6 53 rfl rfl), (zw6 54 rfl rfl), (zw6 55 rfl rfl), (zw1 16 rfl rfl)⟩, zme_217, ⟨by decide +kernel, by decide +kernel⟩, by decide +kernel, by decide +kernel⟩,
  ⟨⟨(zw2 215 rfl rfl), (zw2 216 rfl rfl), (zw2 217 rfl rfl), (zw1 1 rfl rfl)⟩, zme_44, ⟨by decide +kernel, by decide +kernel⟩, by decide +kernel, by decide +kernel⟩,
  ⟨⟨(zw6 57 rfl rfl), (zw6 58 rfl rfl), (zw6 59 rfl rfl), (zw1 16 rfl rfl)⟩, zme_218, ⟨by decide +kernel, by decide +kernel⟩, by decide +kernel, by decide +kernel⟩,
  ⟨⟨(zw2 228 rfl rfl), (zw2 229 rfl rfl), (zw2 230 rfl rfl), (zw1 1 rfl rfl)⟩, zme_47, ⟨by decide +kernel, by decide +kernel⟩, by decide +kernel, by decide +kernel⟩,
  ⟨⟨(zw6 70 rfl rfl), (zw6 71 rfl rfl), (zw6 72 rfl rfl), (zw1 16 rfl rfl)⟩, zme_221, ⟨by decide +kernel, by decide +kernel⟩, by decide +kernel, by decide +kernel⟩,
  ⟨⟨(zw2 236 rfl rfl), (zw2 237 rfl rfl), (zw2 238 rfl rfl), (zw1 1 rfl rfl)⟩, zme_49, ⟨by decide +kernel, by decide +kernel⟩, by decide +kernel, by decide +kernel⟩,
  ⟨⟨(zw6 74 rfl rfl), (zw6 75 rfl rfl), (zw6 76 rfl rfl), (zw1 16 rfl rfl)⟩, zme_222, ⟨by decide +kernel, by decide +kernel⟩, by decide +kernel, by decide +kernel⟩,
  ⟨⟨(zw3 21 rfl rfl), (zw3 22 rfl rfl), (zw3 23 rfl rfl), (zw1 1 rfl rfl)⟩, zme_55, ⟨by decide +kernel, by decide +kernel⟩, by decide +kernel, by decide +kernel⟩,
  ⟨⟨(zw6 86 rfl rfl), (zw6 87 rfl rfl), (zw6 88 rfl rfl), (zw1 16 rfl rfl)⟩, zme_225, ⟨by decide +kernel, by decide +kernel⟩, by decide +kernel, by decide +kernel⟩,
  ⟨⟨(zw3 30 rfl rfl), (zw3 31 rfl rfl), (zw3 32 rfl rfl), (zw1 1 rfl rfl)⟩, zme_57, ⟨by decide +kernel, by decide +kernel⟩, by decide +kernel, by decide +kernel⟩,
  ⟨⟨(zw6 90 rfl rfl), (zw6 91 rfl rfl), (zw6 92 rfl rfl), (zw1 16 rfl rfl)⟩, zme_226, ⟨by decide +kernel, by decide +kernel⟩, by decide +kernel, by decide +kernel⟩,
  ⟨⟨(zw3 113 rfl rfl), (zw3 114 rfl rfl), (zw3 115 rfl rfl), (zw1 1 rfl rfl)⟩, zme_77, ⟨by decide +kernel, by decide +kernel⟩, by decide +kernel, by decide +kernel⟩,
  ⟨⟨(zw6 164 rfl rfl), (zw6 165 rfl rfl), (zw6 166 rfl rfl), (zw1 16 rfl rfl)⟩, zme_244, ⟨by decide +kernel, by decide +kernel⟩, by decide +kernel, by decide +kernel⟩,
  ⟨⟨(zw3 129 rfl rfl), (zw3 130 rfl rfl), (zw3 131 rfl rfl), (zw1 1 rfl rfl)⟩, zme_81, ⟨by decide +kernel, by decide +kernel⟩, by decide +kernel, by decide +kernel⟩,
  ⟨⟨(zw6 168 rfl rfl), (zw6 169 rfl rfl), (zw6 170 rfl rfl), (zw1 16 rfl rfl)⟩, zme_245, ⟨by decide +kernel, by decide +kernel⟩, by decide +kernel, by decide +kernel⟩,
  ⟨⟨(zw3 133 rfl rfl), (zw3 134 rfl rfl), (zw3 135 rfl rfl), (zw1 1 rfl rfl)⟩, zme_82, ⟨by decide +kernel, by decide +kernel⟩, by decide +kernel, by decide +kernel⟩,
  ⟨⟨(zw6 172 rfl rfl), (zw6 173 rfl rfl), (zw6 174 rfl rfl), (zw1 16 rfl rfl)⟩, zme_246, ⟨by decide +kernel, by decide +kernel⟩, by decide +kernel, by decide +kernel⟩,
  ⟨⟨(zw3 139 rfl rfl), (zw3 140 rfl rfl), (zw3 141 rfl rfl), (zw1 1 rfl rfl)⟩, zme_83, ⟨by decide +kernel, by decide +kernel⟩, by decide +kernel, by decide +kernel⟩,
  ⟨⟨(zw6 176 rfl rfl), (zw6 177 rfl rfl), (zw6 178 rfl rfl), (zw1 16 rfl rfl)⟩, zme_247, ⟨by decide +kernel, by decide +kernel⟩, by decide +kernel, by decide +kernel⟩,
  ⟨⟨(zw3 147 rfl rfl), (zw3 148 rfl rfl), (zw3 149 rfl rfl), (zw1 1 rfl rfl)⟩, zme_85, ⟨by decide +kernel, by decide +kernel⟩, by decide +kernel, by decide +kernel⟩,
  ⟨⟨(zw6 180 rfl rfl), (zw6 181 rfl rfl), (zw6 182 rfl rfl), (zw1 16 rfl rfl)⟩, zme_248, ⟨by decide +kernel, by decide +kernel⟩, by decide +kernel, by decide +kernel⟩,
  ⟨⟨(zw3 152 rfl rfl), (zw3 153 rfl rfl), (zw3 154 rfl rfl), (zw1 1 rfl rfl)⟩, zme_86, ⟨by decide +kernel, by decide +kernel⟩, by decide +kernel, by decide +kernel⟩,
  ⟨⟨(zw6 184 rfl rfl), (zw6 185 rfl rfl), (zw6 186 rfl rfl), (zw1 16 rfl rfl)⟩, zme_249, ⟨by decide +kernel, by decide +kernel⟩, by decide +kernel, by decide +kernel⟩,
  ⟨⟨(zw3 157 rfl rfl), (zw3 158 rfl rfl), (zw3 159 rfl rfl), (zw1 1 rfl rfl)⟩, zme_87, ⟨by decide +kernel, by decide +kernel⟩, by decide +kernel, by decide +kernel⟩,
  ⟨⟨(zw6 189 rfl rfl), (zw6 190 rfl rfl), (zw6 191 rfl rfl), (zw1 16 rfl rfl)⟩, zme_250, ⟨by decide +kernel, by decide +kernel⟩, by decide +kernel, by decide +kernel⟩,
  ⟨⟨(zw3 162 rfl rfl), (zw3 163 rfl rfl), (zw3 164 rfl rfl), (zw1 1 rfl rfl)⟩, zme_88, ⟨by decide +kernel, by decide +kernel⟩, by decide +kernel, by decide +kernel⟩,
  ⟨⟨(zw6 193 rfl rfl), (zw6 194 rfl rfl), (zw6 195 rfl rfl), (zw1 16 rfl rfl)⟩, zme_251, ⟨by decide +kernel, by decide +kernel⟩, by decide +kernel, by decide +kernel⟩,
  ⟨⟨(zw3 167 rfl rfl), (zw3 168 rfl rfl), (zw3 169 rfl rfl), (zw1 1 rfl rfl)⟩, zme_89, ⟨by decide +kernel, by decide +kernel⟩, by decide +kernel, by decide +kernel⟩,
  ⟨⟨(zw6 201 rfl rfl), (zw6 202 rfl rfl), (zw6 203 rfl rfl), (zw1 16 rfl rfl)⟩, zme_253, ⟨by decide +kernel, by decide +kernel⟩, by decide +kernel, by decide +kernel⟩,
  ⟨⟨(zw3 172 rfl rfl), (zw3 173 rfl rfl), (zw3 174 rfl rfl), (zw1 1 rfl rfl)⟩, zme_90, ⟨by decide +kernel, by decide +kernel⟩, by decide +kernel, by decide +kernel⟩,
  ⟨⟨(zw6 206 rfl rfl), (zw6 207 rfl rfl), (zw6 208 rfl rfl), (zw1 16 rfl rfl)⟩, zme_254, ⟨by decide +kernel, by decide +kernel⟩, by decide +kernel, by decide +kernel⟩,
  ⟨⟨(zw3 176 rfl rfl), (zw3 177 rfl rfl), (zw3 178 rfl rfl), (zw1 1 rfl rfl)⟩, zme_91, ⟨by decide +kernel, by decide +kernel⟩, by decide +kernel, by decide +kernel⟩,
  ⟨⟨(zw6 210 rfl rfl), (zw6 211 rfl rfl), (zw6 212 rfl rfl), (zw1 16 rfl rfl)⟩, zme_255, ⟨by decide +kernel, by decide +kernel⟩, by decide +kernel, by decide +kernel⟩,
  ⟨⟨(zw3 180 rfl rfl), (zw3 181 rfl rfl), (zw3 182 rfl rfl), (zw1 1 rfl rfl)⟩, zme_92, ⟨by decide +kernel, by decide +kernel⟩, by decide +kernel, by decide +kernel⟩,
  ⟨⟨(zw6 214 rfl rfl), (zw6 215 rfl rfl), (zw6 216 rfl rfl), (zw1 16 rfl rfl)⟩, zme_256, ⟨by decide +kernel, by decide +kernel⟩, by decide +kernel, by decide +kernel⟩,
  ⟨⟨(zw3 189 rfl rfl), (zw3 190 rfl rfl), (zw3 191 rfl rfl), (zw1 1 rfl rfl)⟩, zme_94, ⟨by decide +kernel, by decide +kernel⟩, by decide +kernel, by decide +kernel⟩,
  ⟨⟨(zw6 222 rfl rfl), (zw6 223 rfl rfl), (zw6 224 rfl rfl), (zw1 16 rfl rfl)⟩, zme_258, ⟨by decide +kernel, by decide +kernel⟩, by decide +kernel, by decide +kernel⟩,
  ⟨⟨(zw3 193 rfl rfl), (zw3 194 rfl rfl), (zw3 195 rfl rfl), (zw1 1 rfl rfl)⟩, zme_95, ⟨by decide +kernel, by decide +kernel⟩, by decide +kernel, by decide +kernel⟩,
  ⟨⟨(zw6 226 rfl rfl), (zw6 227 rfl rfl), (zw6 228 rfl rfl), (zw1 16 rfl rfl)⟩, zme_259, ⟨by decide +kernel, by decide +kernel⟩, by decide +kernel, by decide +kernel⟩,
  ⟨⟨(zw4 171 rfl rfl), (zw4 172 rfl rfl), (zw4 173 rfl rfl), (zw1 1 rfl rfl)⟩, zme_148, ⟨by decide +kernel, by decide +kernel⟩, by decide +kernel, by decide +kernel⟩,
  ⟨⟨(zw7 23 rfl rfl), (zw7 24 rfl rfl), (zw7 25 rfl rfl), (zw1 16 rfl rfl)⟩, zme_265, ⟨by decide +kernel, by decide +kernel⟩, by decide +kernel, by decide +kernel⟩,
  ⟨⟨(zw4 180 rfl rfl), (zw4 181 rfl rfl), (zw4 182 rfl rfl), (zw1 1 rfl rfl)⟩, zme_150, ⟨by decide +kernel, by decide +kernel⟩, by decide +kernel, by decide +kernel⟩,
  ⟨⟨(zw7 31 rfl rfl), (zw7 32 rfl rfl), (zw7 33 rfl rfl), (zw1 16 rfl rfl)⟩, zme_267, ⟨by decide +kernel, by decide +kernel⟩, by decide +kernel, by decide +kernel⟩,
  ⟨⟨(zw4 201 rfl rfl), (zw4 202 rfl rfl), (zw4 203 rfl rfl), (zw1 1 rfl rfl)⟩, zme_154, ⟨by decide +kernel, by decide +kernel⟩, by decide +kernel, by decide +kernel⟩,
  ⟨⟨(zw7 48 rfl rfl), (zw7 49 rfl rfl), (zw7 50 rfl rfl), (zw1 16 rfl rfl)⟩, zme_271, ⟨by decide +kernel, by decide +kernel⟩, by decide +kernel, by decide +kernel⟩,
  ⟨⟨(zw4 205 rfl rfl), (zw4 206 rfl rfl), (zw4 207 rfl rfl), (zw1 1 rfl rfl)⟩, zme_155, ⟨by decide +kernel, by decide +kernel⟩, by decide +kernel, by decide +kernel⟩,
  ⟨⟨(zw7 52 rfl rfl), (zw7 53 rfl rfl), (zw7 54 rfl rfl), (zw1 16 rfl rfl)⟩, zme_272, ⟨by decide +kernel, by decide +kernel⟩, by decide +kernel, by decide +kernel⟩,
  ⟨⟨(zw4 222 rfl rfl), (zw4 223 rfl rfl), (zw4 224 rfl rfl), (zw1 1 rfl rfl)⟩, zme_158, ⟨by decide +kernel, by decide +kernel⟩, by decide +kernel, by decide +kernel⟩,
  ⟨⟨(zw7 56 rfl rfl), (zw7 57 rfl rfl), (zw7 58 rfl rfl), (zw1 16 rfl rfl)⟩, zme_273, ⟨by decide +kernel, by decide +kernel⟩, by decide +kernel, by decide +kernel⟩,
  ⟨⟨(zw5 2 rfl rfl), (zw5 3 rfl rfl), (zw5 4 rfl rfl), (zw1 1 rfl rfl)⟩, zme_163, ⟨by decide +kernel, by decide +kernel⟩, by decide +kernel, by decide +kernel⟩,
  ⟨⟨(zw7 64 rfl rfl), (zw7 65 rfl rfl), (zw7 66 rfl rfl), (zw1 16 rfl rfl)⟩, zme_275, ⟨by decide +kernel, by decide +kernel⟩, by decide +kernel, by decide +kernel⟩,
  ⟨⟨(zw5 6 rfl rfl), (zw5 7 rfl rfl), (zw5 8 rfl rfl), (zw1 1 rfl rfl)⟩, zme_164, ⟨by decide +kernel, by decide +kernel⟩, by decide +kernel, by decide +kernel⟩,
  ⟨⟨(zw7 76 rfl rfl), (zw7 77 rfl rfl), (zw7 78 rfl rfl), (zw1 16 rfl rfl)⟩, zme_278, ⟨by decide +kernel, by decide +kernel⟩, by decide +kernel, by decide +kernel⟩,
  ⟨⟨(zw5 16 rfl rfl), (zw5 17 rfl rfl), (zw5 18 rfl rfl), (zw1 1 rfl rfl)⟩, zme_166, ⟨by decide +kernel, by decide +kernel⟩, by decide +kernel, by decide +kernel⟩,
  ⟨⟨(zw7 80 rfl rfl), (zw7 81 rfl rfl), (zw7 82 rfl rfl), (zw1 16 rfl rfl)⟩, zme_279, ⟨by decide +kernel, by decide +kernel⟩, by decide +kernel, by decide +kernel⟩,
  ⟨⟨(zw5 27 rfl rfl), (zw5 28 rfl rfl), (zw5 29 rfl rfl), (zw1 1 rfl rfl)⟩, zme_168, ⟨by decide +kernel, by decide +kernel⟩, by decide +kernel, by decide +kernel⟩,
  ⟨⟨(zw7 84 rfl rfl), (zw7 85 rfl rfl), (zw7 86 rfl rfl), (zw1 16 rfl rfl)⟩, zme_280, ⟨by decide +kernel, by decide +kernel⟩, by decide +kernel, by decide +kernel⟩,
  ⟨⟨(zw5 37 rfl rfl), (zw5 38 rfl rfl), (zw5 39 rfl rfl), (zw1 1 rfl rfl)⟩, zme_169, ⟨by decide +kernel, by decide +kernel⟩, by decide +kernel, by decide +kernel⟩,
  ⟨⟨(zw7 88 rfl rfl), (zw7 89 rfl rfl), (zw7 90 rfl rfl), (zw1 16 rfl rfl)⟩, zme_281, ⟨by decide +kernel, by decide +kernel⟩, by decide +kernel, by decide +kernel⟩,
  ⟨⟨(zw5 46 rfl rfl), (zw5 47 rfl rfl), (zw5 48 rfl rfl), (zw1 1 rfl rfl)⟩, zme_171, ⟨by decide +kernel, by decide +kernel⟩, by decide +kernel, by decide +kernel⟩,
  ⟨⟨(zw7 92 rfl rfl), (zw7 93 rfl rfl), (zw7 94 rfl rfl), (zw1 16 rfl rfl)⟩, zme_282, ⟨by decide +kernel, by decide +kernel⟩, by decide +kernel, by decide +kernel⟩,
  ⟨⟨(zw5 54 rfl rfl), (zw5 55 rfl rfl), (zw5 56 rfl rfl), (zw1 1 rfl rfl)⟩, zme_173, ⟨by decide +kernel, by decide +kernel⟩, by decide +kernel, by decide +kernel⟩,
  ⟨⟨(zw7 97 rfl rfl), (zw7 98 rfl rfl), (zw7 99 rfl rfl), (zw1 16 rfl rfl)⟩, zme_283, ⟨by decide +kernel, by decide +kernel⟩, by decide +kernel, by decide +kernel⟩,
  ⟨⟨(zw5 63 rfl rfl), (zw5 64 rfl rfl), (zw5 65 rfl rfl), (zw1 1 rfl rfl)⟩, zme_175, ⟨by decide +kernel, by decide +kernel⟩, by decide +kernel, by decide +kernel⟩,
  ⟨⟨(zw7 101 rfl rfl), (zw7 102 rfl rfl), (zw7 103 rfl rfl), (zw1 16 rfl rfl)⟩, zme_284, ⟨by decide +kernel, by decide +kernel⟩, by decide +kernel, by decide +kernel⟩,
  ⟨⟨(zw5 162 rfl rfl), (zw5 163 rfl rfl), (zw5 164 rfl rfl), (zw1 1 rfl rfl)⟩, zme_197, ⟨by decide +kernel, by decide +kernel⟩, by decide +kernel, by decide +kernel⟩,
  ⟨⟨(zw7 155 rfl rfl), (zw7 156 rfl rfl), (zw7 157 rfl rfl), (zw1 16 rfl rfl)⟩, zme_291, ⟨by decide +kernel, by decide +kernel⟩, by decide +kernel, by decide +kernel⟩,
  ⟨⟨(zw5 167 rfl rfl), (zw5 168 rfl rfl), (zw5 169 rfl rfl), (zw1 1 rfl rfl)⟩, zme_198, ⟨by decide +kernel, by decide +kernel⟩, by decide +kernel, by decide +kernel⟩,
  ⟨⟨(zw7 159 rfl rfl), (zw7 160 rfl rfl), (zw7 161 rfl rfl), (zw1 16 rfl rfl)⟩, zme_292, ⟨by decide +kernel, by decide +kernel⟩, by decide +kernel, by decide +kernel⟩,
  ⟨⟨(zw5 171 rfl rfl), (zw5 172 rfl rfl), (zw5 173 rfl rfl), (zw1 1 rfl rfl)⟩, zme_199, ⟨by decide +kernel, by decide +kernel⟩, by decide +kernel, by decide +kernel⟩,
  ⟨⟨(zw7 163 rfl rfl), (zw7 164 rfl rfl), (zw7 165 rfl rfl), (zw1 16 rfl rfl)⟩, zme_293, ⟨by decide +kernel, by decide +kernel⟩, by decide +kernel, by decide +kernel⟩, trivial⟩
theorem zst_ok : zAll zsP zst := zAll_app zst_ok0 (zAll_app zst_ok1 (zAll_app zst_ok2 (zAll_app zst_ok3 (zAll_app zst_ok4 (zAll_app zst_ok5 (zst_ok6))))))
theorem zft_ok0 : zAll zfP zft_0 := ⟨.inr ⟨_, rfl, by decide, (zw2 74 rfl rfl)⟩,
  .inr ⟨_, rfl, by decide, (zw2 75 rfl rfl)⟩,
  .inr ⟨_, rfl, by decide, (zw2 76 rfl rfl)⟩,
  .inr ⟨_, rfl, by decide, (zw2 77 rfl rfl)⟩,
  .inr ⟨_, rfl, by decide, (zw2 78 rfl rfl)⟩,
  .inr ⟨_, rfl, by decide, (zw2 79 rfl rfl)⟩,
  .inr ⟨_, rfl, by decide, (zw2 80 rfl rfl)⟩,
  .inr ⟨_, rfl, by decide, (zw2 81 rfl rfl)⟩,
  .inr ⟨_, rfl, by decide, (zw1 143 rfl rfl)⟩,
  .inr ⟨_, rfl, by decide, (zw1 146 rfl rfl)⟩,
  .inr ⟨_, rfl, by decide, (zw1 149 rfl rfl)⟩,
  .inr ⟨_, rfl, by decide, (zw1 152 rfl rfl)⟩,
  .inr ⟨_, rfl, by decide, (zw1 153 rfl rfl)⟩,
  .inr ⟨_, rfl, by decide, (zw1 46 rfl rfl)⟩,
  .inr ⟨_, rfl, by decide, (zw1 48 rfl rfl)⟩,
  .inr ⟨_, rfl, by decide, (zw1 50 rfl rfl)⟩,
  .inr ⟨_, rfl, by decide, (zw1 52 rfl rfl)⟩,
  .inr ⟨_, rfl, by decide, (zw1 54 rfl rfl)⟩,
  .inr ⟨_, rfl, by decide, (zw1 106 rfl rfl)⟩,
  .inr ⟨_, rfl, by decide, (zw1 110 rfl rfl)⟩,
  .inr ⟨_, rfl, by decide, (zw1 111 rfl rfl)⟩,
  .inr ⟨_, rfl, by decide, (zw1 114 rfl rfl)⟩,
  .inr ⟨_, rfl, by decide, (zw1 117 rfl rfl)⟩,
  .inr ⟨_, rfl, by decide, (zw1 121 rfl rfl)⟩,
  .inr ⟨_, rfl, by decide, (zw1 125 rfl rfl)⟩,
  .inr ⟨_, rfl, by decide, (zw1 81 rfl rfl)⟩,
  .inr ⟨_, rfl, by decide, (zw1 84 rfl rfl)⟩,
  .inr ⟨_, rfl, by decide, (zw1 86 rfl rfl)⟩,
  .inr ⟨_, rfl, by decide, (zw1 88 rfl rfl)⟩,
  .inr ⟨_, rfl, by decide, (zw1 91 rfl rfl)⟩,
  .inr ⟨_, rfl, by decide, (zw1 175 rfl rfl)⟩,
  .inr ⟨_, rfl, by decide, (zw1 176 rfl rfl)⟩,
  .inr ⟨_, rfl, by decide, (zw1 177 rfl rfl)⟩,
  .inr ⟨_, rfl, by decide, (zw1 191 rfl rfl)⟩,
  .inr ⟨_, rfl, by decide, (zw1 192 rfl rfl)⟩,
  .inr ⟨_, rfl, by decide, (zw1 193 rfl rfl)⟩,
  .inr ⟨_, rfl, by decide, (zw1 195 rfl rfl)⟩,
  .inr ⟨_, rfl, by decide, (zw1 196 rfl rfl)⟩,
  .inr ⟨_, rfl, by decide, (zw1 197 rfl rfl)⟩,
  .inr ⟨_, rfl, by decide, (zw1 218 rfl rfl)⟩,
  .inr ⟨_, rfl, by decide, (zw2 19 rfl rfl)⟩,
  .inr ⟨_, rfl, by decide, (zw2 20 rfl rfl)⟩,
  .inr ⟨_, rfl, by decide, (zw2 21 rfl rfl)⟩,
  .inr ⟨_, rfl, by decide, (zw1 239 rfl rfl)⟩,
  .inr ⟨_, rfl, by decide, (zw2 2 rfl rfl)⟩,
  .inr ⟨_, rfl, by decide, (zw2 5 rfl rfl)⟩,
  .inr ⟨_, rfl, by decide, (zw2 8 rfl rfl)⟩,
  .inr ⟨_, rfl, by decide, (zw2 67 rfl rfl)⟩,
  .inr ⟨_, rfl, by decide, (zw2 68 rfl rfl)⟩,
  .inr ⟨_, rfl, by decide, (zw2 53 rfl rfl)⟩,
  .inr ⟨_, rfl, by decide, (zw2 54 rfl rfl)⟩,
  .inr ⟨_, rfl, by decide, (zw2 74 rfl rfl)⟩,
  .inr ⟨_, rfl, by decide, (zw2 75 rfl rfl)⟩,
  .inr ⟨_, rfl, by decide, (zw1 175 rfl rfl)⟩,
  .inr ⟨_, rfl, by decide, (zw1 176 rfl rfl)⟩,
  .inr ⟨_, rfl, by decide, (zw1 143 rfl rfl)⟩,
  .inr ⟨_, rfl, by decide, (zw1 146 rfl rfl)⟩,
  .inr ⟨_, rfl, by decide, (zw1 149 rfl rfl)⟩,
  .inr ⟨_, rfl, by decide, (zw1 152 rfl rfl)⟩,
  .inr ⟨_, rfl, by decide, (zw1 153 rfl rfl)⟩,
  .inr ⟨_, rfl, by decide, (zw1 106 rfl rfl)⟩,
  .inr ⟨_, rfl, by decide, (zw1 110 rfl rfl)⟩,
  .inr ⟨_, rfl, by decide, (zw1 111 rfl rfl)⟩,
  .inr ⟨_, rfl, by decide, (zw1 114 rfl rfl)⟩,
  .inr ⟨_, rfl, by decide, (zw1 117 rfl rfl)⟩,
  .inr ⟨_, rfl, by decide, (zw1 121 rfl rfl)⟩,
  .inr ⟨_, rfl, by decide, (zw1 125 rfl rfl)⟩,
  .inr ⟨_, rfl, by decide, (zw1 81 rfl rfl)⟩,
  .inr ⟨_, rfl, by decide, (zw1 84 rfl rfl)⟩,
  .inr ⟨_, rfl, by decide, (zw1 86 rfl rfl)⟩,
  .inr ⟨_, rfl, by decide, (zw1 88 rfl rfl)⟩,
  .inr ⟨_, rfl, by decide, (zw1 91 rfl rfl)⟩,
  .inr ⟨_, rfl, by decide, (zw1 46 rfl rfl)⟩,
  .inr ⟨_, rfl, by decide, (zw1 48 rfl rfl)⟩,
  .inr ⟨_, rfl, by decide, (zw1 50 rfl rfl)⟩,
  .inr ⟨_, rfl, by decide, (zw1 52 rfl rfl)⟩,
  .inr ⟨_, rfl, by decide, (zw1 54 rfl rfl)⟩,
  .inr ⟨_, rfl, by decide, (zw1 143 rfl rfl)⟩,
  .inr ⟨_, rfl, by decide, (zw1 108 rfl rfl)⟩,
  .inr ⟨_, rfl, by decide, (zw2 75 rfl rfl)⟩,
  .inr ⟨_, rfl, by decide, (zw1 176 rfl rfl)⟩,
  .inr ⟨_, rfl, by decide, (zw1 177 rfl rfl)⟩,
  .inr ⟨_, rfl, by decide, (zw2 74 rfl rfl)⟩,
  .inr ⟨_, rfl, by decide, (zw2 75 rfl rfl)⟩,
  .inr ⟨_, rfl, by decide, (zw1 143 rfl rfl)⟩,
  .inr ⟨_, rfl, by decide, (zw1 108 rfl rfl)⟩,
  .inr ⟨_, rfl, by decide, (zw2 74 rfl rfl)⟩,
  .inr ⟨_, rfl, by decide, (zw2 75 rfl rfl)⟩,
  .inr ⟨_, rfl, by decide, (zw1 143 rfl rfl)⟩,
  .inr ⟨_, rfl, by decide, (zw1 108 rfl rfl)⟩,
  .inr ⟨_, rfl, by decide, (zw2 74 rfl rfl)⟩,
  .inr ⟨_, rfl, by decide, (zw2 75 rfl rfl)⟩,
  .inr ⟨_, rfl, by decide, (zw1 143 rfl rfl)⟩,
  .inr ⟨_, rfl, by decide, (zw1 123 rfl rfl)⟩,
  .inr ⟨_, rfl, by decide, (zw2 74 rfl rfl)⟩,
  .inr ⟨_, rfl, by decide, (zw2 75 rfl rfl)⟩,
  .inr ⟨_, rfl, by decide, (zw1 146 rfl rfl)⟩,
  .inr ⟨_, rfl, by decide, (zw1 153 rfl rfl)⟩,
  .inr ⟨_, rfl, by decide, (zw1 47 rfl rfl)⟩,
  .inr ⟨_, rfl, by decide, (zw2 74 rfl rfl)⟩, trivial⟩
theorem zft_ok1 : zAll zfP zft_1 := ⟨.inr ⟨_, rfl, by decide, (zw2 75 rfl rfl)⟩,
  .inr ⟨_, rfl, by decide, (zw1 146 rfl rfl)⟩,
  .inr ⟨_, rfl, by decide, (zw1 153 rfl rfl)⟩,
  .inr ⟨_, rfl, by decide, (zw1 49 rfl rfl)⟩,
  .inr ⟨_, rfl, by decide, (zw2 74 rfl rfl)⟩,
  .inr ⟨_, rfl, by decide, (zw2 75 rfl rfl)⟩,
  .inr ⟨_, rfl, by decide, (zw1 146 rfl rfl)⟩,
  .inr ⟨_, rfl, by decide, (zw1 153 rfl rfl)⟩,
  .inr ⟨_, rfl, by decide, (zw1 55 rfl rfl)⟩,
  .inr ⟨_, rfl, by decide, (zw1 51 rfl rfl)⟩,
  .inr ⟨_, rfl, by decide, (zw1 53 rfl rfl)⟩,
  .inr ⟨_, rfl, by decide, (zw1 50 rfl rfl)⟩,
  .inr ⟨_, rfl, by decide, (zw1 54 rfl rfl)⟩,
  .inr ⟨_, rfl, by decide, (zw2 74 rfl rfl)⟩,
  .inr ⟨_, rfl, by decide, (zw2 75 rfl rfl)⟩,
  .inr ⟨_, rfl, by decide, (zw1 146 rfl rfl)⟩,
  .inr ⟨_, rfl, by decide, (zw1 153 rfl rfl)⟩,
  .inr ⟨_, rfl, by decide, (zw1 55 rfl rfl)⟩,
  .inr ⟨_, rfl, by decide, (zw2 74 rfl rfl)⟩,
  .inr ⟨_, rfl, by decide, (zw2 75 rfl rfl)⟩,
  .inr ⟨_, rfl, by decide, (zw1 143 rfl rfl)⟩,
  .inr ⟨_, rfl, by decide, (zw1 119 rfl rfl)⟩,
  .inr ⟨_, rfl, by decide, (zw1 81 rfl rfl)⟩,
  .inr ⟨_, rfl, by decide, (zw1 84 rfl rfl)⟩,
  .inr ⟨_, rfl, by decide, (zw1 86 rfl rfl)⟩,
  .inr ⟨_, rfl, by decide, (zw1 88 rfl rfl)⟩,
  .inr ⟨_, rfl, by decide, (zw1 91 rfl rfl)⟩,
  .inr ⟨_, rfl, by decide, (zw2 74 rfl rfl)⟩,
  .inr ⟨_, rfl, by decide, (zw2 75 rfl rfl)⟩,
  .inr ⟨_, rfl, by decide, (zw1 143 rfl rfl)⟩,
  .inr ⟨_, rfl, by decide, (zw1 119 rfl rfl)⟩,
  .inr ⟨_, rfl, by decide, (zw2 74 rfl rfl)⟩,
  .inr ⟨_, rfl, by decide, (zw2 75 rfl rfl)⟩,
  .inr ⟨_, rfl, by decide, (zw1 143 rfl rfl)⟩,
  .inr ⟨_, rfl, by decide, (zw1 119 rfl rfl)⟩,
  .inr ⟨_, rfl, by decide, (zw1 91 rfl rfl)⟩,
  .inr ⟨_, rfl, by decide, (zw1 91 rfl rfl)⟩,
  .inr ⟨_, rfl, by decide, (zw1 81 rfl rfl)⟩,
  .inr ⟨_, rfl, by decide, (zw1 84 rfl rfl)⟩,
  .inr ⟨_, rfl, by decide, (zw1 86 rfl rfl)⟩,
  .inr ⟨_, rfl, by decide, (zw1 88 rfl rfl)⟩,
  .inr ⟨_, rfl, by decide, (zw2 74 rfl rfl)⟩,
  .inr ⟨_, rfl, by decide, (zw2 75 rfl rfl)⟩,
  .inr ⟨_, rfl, by decide, (zw1 143 rfl rfl)⟩,
  .inr ⟨_, rfl, by decide, (zw1 119 rfl rfl)⟩,
  .inr ⟨_, rfl, by decide, (zw1 82 rfl rfl)⟩,
  .inr ⟨_, rfl, by decide, (zw2 74 rfl rfl)⟩,
  .inr ⟨_, rfl, by decide, (zw2 75 rfl rfl)⟩,
  .inr ⟨_, rfl, by decide, (zw2 79 rfl rfl)⟩,
  .inr ⟨_, rfl, by decide, (zw1 143 rfl rfl)⟩,
  .inr ⟨_, rfl, by decide, (zw1 146 rfl rfl)⟩,
  .inr ⟨_, rfl, by decide, (zw1 149 rfl rfl)⟩,
  .inr ⟨_, rfl, by decide, (zw1 153 rfl rfl)⟩,
  .inr ⟨_, rfl, by decide, (zw1 115 rfl rfl)⟩,
  .inr ⟨_, rfl, by decide, (zw1 218 rfl rfl)⟩,
  .inr ⟨_, rfl, by decide, (zw1 126 rfl rfl)⟩,
  .inr ⟨_, rfl, by decide, (zw2 9 rfl rfl)⟩,
  .inr ⟨_, rfl, by decide, (zw1 122 rfl rfl)⟩,
  .inr ⟨_, rfl, by decide, (zw1 118 rfl rfl)⟩,
  .inr ⟨_, rfl, by decide, (zw1 106 rfl rfl)⟩,
  .inr ⟨_, rfl, by decide, (zw1 46 rfl rfl)⟩,
  .inr ⟨_, rfl, by decide, (zw1 48 rfl rfl)⟩,
  .inr ⟨_, rfl, by decide, (zw1 50 rfl rfl)⟩,
  .inr ⟨_, rfl, by decide, (zw1 52 rfl rfl)⟩,
  .inr ⟨_, rfl, by decide, (zw1 54 rfl rfl)⟩,
  .inr ⟨_, rfl, by decide, (zw1 218 rfl rfl)⟩,
  .inr ⟨_, rfl, by decide, (zw1 239 rfl rfl)⟩,
  .inr ⟨_, rfl, by decide, (zw2 2 rfl rfl)⟩,
  .inr ⟨_, rfl, by decide, (zw2 5 rfl rfl)⟩,
  .inr ⟨_, rfl, by decide, (zw2 8 rfl rfl)⟩,
  .inr ⟨_, rfl, by decide, (zw1 218 rfl rfl)⟩,
  .inr ⟨_, rfl, by decide, (zw1 112 rfl rfl)⟩,
  .inr ⟨_, rfl, by decide, (zw1 106 rfl rfl)⟩,
  .inr ⟨_, rfl, by decide, (zw1 110 rfl rfl)⟩,
  .inr ⟨_, rfl, by decide, (zw1 106 rfl rfl)⟩,
  .inr ⟨_, rfl, by decide, (zw1 110 rfl rfl)⟩,
  .inr ⟨_, rfl, by decide, (zw1 111 rfl rfl)⟩,
  .inr ⟨_, rfl, by decide, (zw1 92 rfl rfl)⟩,
  .inr ⟨_, rfl, by decide, (zw1 89 rfl rfl)⟩,
  .inr ⟨_, rfl, by decide, (zw1 81 rfl rfl)⟩,
  .inr ⟨_, rfl, by decide, (zw1 84 rfl rfl)⟩,
  .inr ⟨_, rfl, by decide, (zw1 88 rfl rfl)⟩,
  .inr ⟨_, rfl, by decide, (zw2 74 rfl rfl)⟩,
  .inr ⟨_, rfl, by decide, (zw2 75 rfl rfl)⟩,
  .inr ⟨_, rfl, by decide, (zw1 143 rfl rfl)⟩,
  .inr ⟨_, rfl, by decide, (zw1 149 rfl rfl)⟩,
  .inr ⟨_, rfl, by decide, (zw1 152 rfl rfl)⟩,
  .inr ⟨_, rfl, by decide, (zw1 106 rfl rfl)⟩,
  .inr ⟨_, rfl, by decide, (zw1 114 rfl rfl)⟩,
  .inr ⟨_, rfl, by decide, (zw1 117 rfl rfl)⟩,
  .inr ⟨_, rfl, by decide, (zw1 88 rfl rfl)⟩,
  .inr ⟨_, rfl, by decide, (zw1 91 rfl rfl)⟩,
  .inr ⟨_, rfl, by decide, (zw2 74 rfl rfl)⟩,
  .inr ⟨_, rfl, by decide, (zw1 151 rfl rfl)⟩,
  .inr ⟨_, rfl, by decide, (zw2 74 rfl rfl)⟩,
  .inr ⟨_, rfl, by decide, (zw1 145 rfl rfl)⟩,
  .inr ⟨_, rfl, by decide, (zw1 109 rfl rfl)⟩,
  .inr ⟨_, rfl, by decide, (zw2 74 rfl rfl)⟩,
  .inr ⟨_, rfl, by decide, (zw1 145 rfl rfl)⟩,
  .inr ⟨_, rfl, by decide, (zw1 124 rfl rfl)⟩, trivial⟩
theorem zft_ok2 : zAll zfP zft_2 := ⟨.inr ⟨_, rfl, by decide, (zw1 148 rfl rfl)⟩,
  .inr ⟨_, rfl, by decide, (zw1 46 rfl rfl)⟩,
  .inr ⟨_, rfl, by decide, (zw1 48 rfl rfl)⟩,
  .inr ⟨_, rfl, by decide, (zw1 50 rfl rfl)⟩,
  .inr ⟨_, rfl, by decide, (zw1 52 rfl rfl)⟩,
  .inr ⟨_, rfl, by decide, (zw1 54 rfl rfl)⟩,
  .inr ⟨_, rfl, by decide, (zw2 74 rfl rfl)⟩,
  .inr ⟨_, rfl, by decide, (zw1 145 rfl rfl)⟩,
  .inr ⟨_, rfl, by decide, (zw1 120 rfl rfl)⟩,
  .inr ⟨_, rfl, by decide, (zw1 93 rfl rfl)⟩,
  .inr ⟨_, rfl, by decide, (zw1 83 rfl rfl)⟩,
  .inr ⟨_, rfl, by decide, (zw1 85 rfl rfl)⟩,
  .inr ⟨_, rfl, by decide, (zw1 87 rfl rfl)⟩,
  .inr ⟨_, rfl, by decide, (zw2 74 rfl rfl)⟩,
  .inr ⟨_, rfl, by decide, (zw1 145 rfl rfl)⟩,
  .inr ⟨_, rfl, by decide, (zw1 120 rfl rfl)⟩,
  .inr ⟨_, rfl, by decide, (zw1 90 rfl rfl)⟩,
  .inr ⟨_, rfl, by decide, (zw2 74 rfl rfl)⟩,
  .inr ⟨_, rfl, by decide, (zw2 79 rfl rfl)⟩,
  .inr ⟨_, rfl, by decide, (zw1 145 rfl rfl)⟩,
  .inr ⟨_, rfl, by decide, (zw1 148 rfl rfl)⟩,
  .inr ⟨_, rfl, by decide, (zw1 219 rfl rfl)⟩,
  .inr ⟨_, rfl, by decide, (zw2 74 rfl rfl)⟩,
  .inr ⟨_, rfl, by decide, (zw1 151 rfl rfl)⟩,
  .inr ⟨_, rfl, by decide, (zw1 145 rfl rfl)⟩,
  .inr ⟨_, rfl, by decide, (zw1 113 rfl rfl)⟩,
  .inr ⟨_, rfl, by decide, (zw2 74 rfl rfl)⟩,
  .inr ⟨_, rfl, by decide, (zw2 79 rfl rfl)⟩,
  .inr ⟨_, rfl, by decide, (zw1 151 rfl rfl)⟩,
  .inr ⟨_, rfl, by decide, (zw1 145 rfl rfl)⟩,
  .inr ⟨_, rfl, by decide, (zw1 148 rfl rfl)⟩,
  .inr ⟨_, rfl, by decide, (zw1 219 rfl rfl)⟩,
  .inr ⟨_, rfl, by decide, (zw1 113 rfl rfl)⟩,
  .inr ⟨_, rfl, by decide, (zw2 74 rfl rfl)⟩,
  .inr ⟨_, rfl, by decide, (zw1 145 rfl rfl)⟩,
  .inr ⟨_, rfl, by decide, (zw1 127 rfl rfl)⟩,
  .inr ⟨_, rfl, by decide, (zw2 74 rfl rfl)⟩,
  .inr ⟨_, rfl, by decide, (zw1 145 rfl rfl)⟩,
  .inr ⟨_, rfl, by decide, (zw1 116 rfl rfl)⟩,
  .inr ⟨_, rfl, by decide, (zw2 7 rfl rfl)⟩,
  .inr ⟨_, rfl, by decide, (zw2 74 rfl rfl)⟩,
  .inr ⟨_, rfl, by decide, (zw1 145 rfl rfl)⟩,
  .inr ⟨_, rfl, by decide, (zw1 116 rfl rfl)⟩,
  .inr ⟨_, rfl, by decide, (zw2 1 rfl rfl)⟩,
  .inr ⟨_, rfl, by decide, (zw2 5 rfl rfl)⟩,
  .inr ⟨_, rfl, by decide, (zw2 74 rfl rfl)⟩,
  .inr ⟨_, rfl, by decide, (zw1 145 rfl rfl)⟩,
  .inr ⟨_, rfl, by decide, (zw1 116 rfl rfl)⟩,
  .inr ⟨_, rfl, by decide, (zw2 4 rfl rfl)⟩,
  .inr ⟨_, rfl, by decide, (zw2 74 rfl rfl)⟩,
  .inr ⟨_, rfl, by decide, (zw2 81 rfl rfl)⟩,
  .inr ⟨_, rfl, by decide, (zw1 145 rfl rfl)⟩,
  .inr ⟨_, rfl, by decide, (zw1 116 rfl rfl)⟩,
  .inr ⟨_, rfl, by decide, (zw2 6 rfl rfl)⟩,
  .inr ⟨_, rfl, by decide, (zw2 0 rfl rfl)⟩,
  .inr ⟨_, rfl, by decide, (zw2 3 rfl rfl)⟩,
  .inr ⟨_, rfl, by decide, (zw2 67 rfl rfl)⟩,
  .inr ⟨_, rfl, by decide, (zw2 53 rfl rfl)⟩,
  .inr ⟨_, rfl, by decide, (zw2 55 rfl rfl)⟩,
  .inr ⟨_, rfl, by decide, (zw2 56 rfl rfl)⟩,
  .inr ⟨_, rfl, by decide, (zw2 53 rfl rfl)⟩,
  .inr ⟨_, rfl, by decide, (zw2 54 rfl rfl)⟩,
  .inr ⟨_, rfl, by decide, (zw2 53 rfl rfl)⟩,
  .inr ⟨_, rfl, by decide, (zw2 54 rfl rfl)⟩,
  .inr ⟨_, rfl, by decide, (zw2 54 rfl rfl)⟩,
  .inr ⟨_, rfl, by decide, (zw2 67 rfl rfl)⟩,
  .inr ⟨_, rfl, by decide, (zw2 56 rfl rfl)⟩,
  .inr ⟨_, rfl, by decide, (zw2 53 rfl rfl)⟩,
  .inr ⟨_, rfl, by decide, (zw2 56 rfl rfl)⟩,
  .inl ⟨rfl, .inl ⟨rfl, (zw7 178 rfl rfl)⟩⟩,
  .inl ⟨rfl, .inr ⟨rfl, (zw7 179 rfl rfl)⟩⟩,
  .inr ⟨_, rfl, by decide, (zw2 53 rfl rfl)⟩,
  .inr ⟨_, rfl, by decide, (zw2 54 rfl rfl)⟩,
  .inr ⟨_, rfl, by decide, (zw2 54 rfl rfl)⟩,
  .inr ⟨_, rfl, by decide, (zw2 53 rfl rfl)⟩,
  .inr ⟨_, rfl, by decide, (zw2 54 rfl rfl)⟩,
  .inr ⟨_, rfl, by decide, (zw2 56 rfl rfl)⟩,
  .inl ⟨rfl, .inl ⟨rfl, (zw7 178 rfl rfl)⟩⟩,
  .inr ⟨_, rfl, by decide, (zw2 53 rfl rfl)⟩,
  .inr ⟨_, rfl, by decide, (zw2 56 rfl rfl)⟩,
  .inr ⟨_, rfl, by decide, (zw2 67 rfl rfl)⟩,
  .inr ⟨_, rfl, by decide, (zw2 68 rfl rfl)⟩,
  .inr ⟨_, rfl, by decide, (zw2 67 rfl rfl)⟩,
  .inr ⟨_, rfl, by decide, (zw2 56 rfl rfl)⟩,
  .inr ⟨_, rfl, by decide, (zw2 53 rfl rfl)⟩,
  .inr ⟨_, rfl, by decide, (zw2 54 rfl rfl)⟩,
  .inr ⟨_, rfl, by decide, (zw2 56 rfl rfl)⟩,
  .inr ⟨_, rfl, by decide, (zw2 74 rfl rfl)⟩,
  .inr ⟨_, rfl, by decide, (zw1 145 rfl rfl)⟩,
  .inr ⟨_, rfl, by decide, (zw1 116 rfl rfl)⟩,
  .inr ⟨_, rfl, by decide, (zw2 2 rfl rfl)⟩,
  .inr ⟨_, rfl, by decide, (zw2 5 rfl rfl)⟩,
  .inr ⟨_, rfl, by decide, (zw2 74 rfl rfl)⟩,
  .inr ⟨_, rfl, by decide, (zw2 80 rfl rfl)⟩,
  .inr ⟨_, rfl, by decide, (zw1 151 rfl rfl)⟩,
  .inr ⟨_, rfl, by decide, (zw2 20 rfl rfl)⟩,
  .inr ⟨_, rfl, by decide, (zw1 150 rfl rfl)⟩,
  .inr ⟨_, rfl, by decide, (zw1 144 rfl rfl)⟩,
  .inr ⟨_, rfl, by decide, (zw1 107 rfl rfl)⟩,
  .inr ⟨_, rfl, by decide, (zw2 19 rfl rfl)⟩, trivial⟩
theorem zft_ok3 : zAll zfP zft_3 := ⟨.inr ⟨_, rfl, by decide, (zw2 20 rfl rfl)⟩,
  .inr ⟨_, rfl, by decide, (zw2 21 rfl rfl)⟩,
  .inr ⟨_, rfl, by decide, (zw1 147 rfl rfl)⟩,
  .inr ⟨_, rfl, by decide, (zw1 154 rfl rfl)⟩,
  .inr ⟨_, rfl, by decide, (zw2 5 rfl rfl)⟩,
  .inr ⟨_, rfl, by decide, (zw2 8 rfl rfl)⟩,
  .inr ⟨_, rfl, by decide, (zw2 74 rfl rfl)⟩,
  .inr ⟨_, rfl, by decide, (zw2 80 rfl rfl)⟩,
  .inr ⟨_, rfl, by decide, (zw1 151 rfl rfl)⟩,
  .inr ⟨_, rfl, by decide, (zw2 74 rfl rfl)⟩,
  .inr ⟨_, rfl, by decide, (zw2 80 rfl rfl)⟩,
  .inr ⟨_, rfl, by decide, (zw1 151 rfl rfl)⟩,
  .inr ⟨_, rfl, by decide, (zw1 150 rfl rfl)⟩,
  .inr ⟨_, rfl, by decide, (zw1 144 rfl rfl)⟩,
  .inr ⟨_, rfl, by decide, (zw1 107 rfl rfl)⟩,
  .inr ⟨_, rfl, by decide, (zw1 147 rfl rfl)⟩,
  .inr ⟨_, rfl, by decide, (zw2 74 rfl rfl)⟩,
  .inr ⟨_, rfl, by decide, (zw2 80 rfl rfl)⟩,
  .inr ⟨_, rfl, by decide, (zw1 145 rfl rfl)⟩,
  .inr ⟨_, rfl, by decide, (zw1 114 rfl rfl)⟩,
  .inr ⟨_, rfl, by decide, (zw1 239 rfl rfl)⟩,
  .inr ⟨_, rfl, by decide, (zw2 2 rfl rfl)⟩,
  .inr ⟨_, rfl, by decide, (zw2 5 rfl rfl)⟩,
  .inr ⟨_, rfl, by decide, (zw2 20 rfl rfl)⟩,
  .inr ⟨_, rfl, by decide, (zw1 150 rfl rfl)⟩,
  .inr ⟨_, rfl, by decide, (zw1 144 rfl rfl)⟩,
  .inr ⟨_, rfl, by decide, (zw2 74 rfl rfl)⟩,
  .inr ⟨_, rfl, by decide, (zw1 145 rfl rfl)⟩,
  .inr ⟨_, rfl, by decide, (zw2 74 rfl rfl)⟩,
  .inr ⟨_, rfl, by decide, (zw1 143 rfl rfl)⟩,
  .inr ⟨_, rfl, by decide, (zw1 146 rfl rfl)⟩,
  .inr ⟨_, rfl, by decide, (zw1 149 rfl rfl)⟩,
  .inr ⟨_, rfl, by decide, (zw2 74 rfl rfl)⟩,
  .inr ⟨_, rfl, by decide, (zw1 151 rfl rfl)⟩,
  .inr ⟨_, rfl, by decide, (zw1 143 rfl rfl)⟩,
  .inr ⟨_, rfl, by decide, (zw1 115 rfl rfl)⟩,
  .inr ⟨_, rfl, by decide, (zw2 74 rfl rfl)⟩,
  .inr ⟨_, rfl, by decide, (zw2 81 rfl rfl)⟩,
  .inr ⟨_, rfl, by decide, (zw1 151 rfl rfl)⟩,
  .inr ⟨_, rfl, by decide, (zw1 145 rfl rfl)⟩,
  .inr ⟨_, rfl, by decide, (zw2 74 rfl rfl)⟩,
  .inr ⟨_, rfl, by decide, (zw1 145 rfl rfl)⟩,
  .inr ⟨_, rfl, by decide, (zw1 114 rfl rfl)⟩,
  .inr ⟨_, rfl, by decide, (zw2 74 rfl rfl)⟩,
  .inr ⟨_, rfl, by decide, (zw1 145 rfl rfl)⟩,
  .inr ⟨_, rfl, by decide, (zw1 116 rfl rfl)⟩,
  .inr ⟨_, rfl, by decide, (zw1 239 rfl rfl)⟩,
  .inr ⟨_, rfl, by decide, (zw2 5 rfl rfl)⟩,
  .inr ⟨_, rfl, by decide, (zw2 78 rfl rfl)⟩,
  .inr ⟨_, rfl, by decide, (zw1 191 rfl rfl)⟩,
  .inr ⟨_, rfl, by decide, (zw1 192 rfl rfl)⟩,
  .inr ⟨_, rfl, by decide, (zw2 74 rfl rfl)⟩,
  .inr ⟨_, rfl, by decide, (zw2 75 rfl rfl)⟩,
  .inr ⟨_, rfl, by decide, (zw2 78 rfl rfl)⟩,
  .inr ⟨_, rfl, by decide, (zw1 194 rfl rfl)⟩,
  .inr ⟨_, rfl, by decide, (zw1 192 rfl rfl)⟩,
  .inr ⟨_, rfl, by decide, (zw1 193 rfl rfl)⟩,
  .inr ⟨_, rfl, by decide, (zw1 191 rfl rfl)⟩,
  .inr ⟨_, rfl, by decide, (zw1 192 rfl rfl)⟩,
  .inr ⟨_, rfl, by decide, (zw1 193 rfl rfl)⟩,
  .inr ⟨_, rfl, by decide, (zw1 195 rfl rfl)⟩,
  .inr ⟨_, rfl, by decide, (zw1 196 rfl rfl)⟩,
  .inr ⟨_, rfl, by decide, (zw1 192 rfl rfl)⟩,
  .inr ⟨_, rfl, by decide, (zw1 191 rfl rfl)⟩,
  .inr ⟨_, rfl, by decide, (zw1 192 rfl rfl)⟩,
  .inr ⟨_, rfl, by decide, (zw1 191 rfl rfl)⟩,
  .inl ⟨rfl, .inl ⟨rfl, (zw7 178 rfl rfl)⟩⟩,
  .inl ⟨rfl, .inr ⟨rfl, (zw7 179 rfl rfl)⟩⟩,
  .inr ⟨_, rfl, by decide, (zw1 191 rfl rfl)⟩,
  .inr ⟨_, rfl, by decide, (zw1 193 rfl rfl)⟩,
  .inr ⟨_, rfl, by decide, (zw1 197 rfl rfl)⟩,
  .inr ⟨_, rfl, by decide, (zw1 192 rfl rfl)⟩,
  .inr ⟨_, rfl, by decide, (zw2 74 rfl rfl)⟩,
  .inr ⟨_, rfl, by decide, (zw2 78 rfl rfl)⟩,
  .inr ⟨_, rfl, by decide, (zw2 79 rfl rfl)⟩,
  .inr ⟨_, rfl, by decide, (zw1 193 rfl rfl)⟩,
  .inr ⟨_, rfl, by decide, (zw1 197 rfl rfl)⟩,
  .inr ⟨_, rfl, by decide, (zw1 193 rfl rfl)⟩,
  .inr ⟨_, rfl, by decide, (zw1 195 rfl rfl)⟩,
  .inr ⟨_, rfl, by decide, (zw1 175 rfl rfl)⟩,
  .inr ⟨_, rfl, by decide, (zw1 176 rfl rfl)⟩,
  .inr ⟨_, rfl, by decide, (zw1 193 rfl rfl)⟩,
  .inr ⟨_, rfl, by decide, (zw1 196 rfl rfl)⟩,
  .inr ⟨_, rfl, by decide, (zw2 74 rfl rfl)⟩,
  .inr ⟨_, rfl, by decide, (zw2 76 rfl rfl)⟩,
  .inr ⟨_, rfl, by decide, (zw2 77 rfl rfl)⟩,
  .inr ⟨_, rfl, by decide, (zw1 151 rfl rfl)⟩,
  .inr ⟨_, rfl, by decide, (zw2 74 rfl rfl)⟩,
  .inr ⟨_, rfl, by decide, (zw2 75 rfl rfl)⟩,
  .inr ⟨_, rfl, by decide, (zw2 76 rfl rfl)⟩,
  .inr ⟨_, rfl, by decide, (zw2 77 rfl rfl)⟩,
  .inr ⟨_, rfl, by decide, (zw1 151 rfl rfl)⟩,
  .inr ⟨_, rfl, by decide, (zw2 74 rfl rfl)⟩,
  .inr ⟨_, rfl, by decide, (zw2 75 rfl rfl)⟩,
  .inr ⟨_, rfl, by decide, (zw1 175 rfl rfl)⟩,
  .inr ⟨_, rfl, by decide, (zw1 176 rfl rfl)⟩,
  .inr ⟨_, rfl, by decide, (zw1 177 rfl rfl)⟩,
  .inr ⟨_, rfl, by decide, (zw5 191 rfl rfl)⟩,
  .inr ⟨_, rfl, by decide, (zw5 192 rfl rfl)⟩,
  .inr ⟨_, rfl, by decide, (zw5 194 rfl rfl)⟩, trivial⟩
theorem zft_ok4 : zAll zfP zft_4 := ⟨.inr ⟨_, rfl, by decide, (zw5 196 rfl rfl)⟩,
  .inr ⟨_, rfl, by decide, (zw5 197 rfl rfl)⟩,
  .inr ⟨_, rfl, by decide, (zw5 199 rfl rfl)⟩,
  .inr ⟨_, rfl, by decide, (zw5 201 rfl rfl)⟩,
  .inr ⟨_, rfl, by decide, (zw5 205 rfl rfl)⟩,
  .inr ⟨_, rfl, by decide, (zw5 191 rfl rfl)⟩,
  .inr ⟨_, rfl, by decide, (zw5 191 rfl rfl)⟩,
  .inr ⟨_, rfl, by decide, (zw5 191 rfl rfl)⟩,
  .inr ⟨_, rfl, by decide, (zw5 198 rfl rfl)⟩,
  .inr ⟨_, rfl, by decide, (zw5 194 rfl rfl)⟩,
  .inr ⟨_, rfl, by decide, (zw5 195 rfl rfl)⟩,
  .inr ⟨_, rfl, by decide, (zw5 191 rfl rfl)⟩,
  .inr ⟨_, rfl, by decide, (zw5 191 rfl rfl)⟩,
  .inr ⟨_, rfl, by decide, (zw5 191 rfl rfl)⟩,
  .inr ⟨_, rfl, by decide, (zw5 191 rfl rfl)⟩,
  .inr ⟨_, rfl, by decide, (zw5 191 rfl rfl)⟩,
  .inr ⟨_, rfl, by decide, (zw5 191 rfl rfl)⟩,
  .inr ⟨_, rfl, by decide, (zw5 191 rfl rfl)⟩,
  .inr ⟨_, rfl, by decide, (zw5 191 rfl rfl)⟩,
  .inr ⟨_, rfl, by decide, (zw5 191 rfl rfl)⟩,
  .inr ⟨_, rfl, by decide, (zw5 191 rfl rfl)⟩,
  .inr ⟨_, rfl, by decide, (zw5 191 rfl rfl)⟩,
  .inr ⟨_, rfl, by decide, (zw5 191 rfl rfl)⟩,
  .inr ⟨_, rfl, by decide, (zw5 191 rfl rfl)⟩,
  .inr ⟨_, rfl, by decide, (zw5 191 rfl rfl)⟩,
  .inr ⟨_, rfl, by decide, (zw5 191 rfl rfl)⟩,
  .inr ⟨_, rfl, by decide, (zw5 191 rfl rfl)⟩,
  .inr ⟨_, rfl, by decide, (zw5 191 rfl rfl)⟩,
  .inr ⟨_, rfl, by decide, (zw5 191 rfl rfl)⟩,
  .inr ⟨_, rfl, by decide, (zw5 191 rfl rfl)⟩,
  .inr ⟨_, rfl, by decide, (zw5 191 rfl rfl)⟩,
  .inr ⟨_, rfl, by decide, (zw5 191 rfl rfl)⟩,
  .inr ⟨_, rfl, by decide, (zw5 191 rfl rfl)⟩,
  .inr ⟨_, rfl, by decide, (zw5 200 rfl rfl)⟩,
  .inr ⟨_, rfl, by decide, (zw5 199 rfl rfl)⟩,
  .inr ⟨_, rfl, by decide, (zw5 200 rfl rfl)⟩,
  .inr ⟨_, rfl, by decide, (zw5 199 rfl rfl)⟩,
  .inr ⟨_, rfl, by decide, (zw5 200 rfl rfl)⟩,
  .inr ⟨_, rfl, by decide, (zw5 191 rfl rfl)⟩,
  .inr ⟨_, rfl, by decide, (zw5 191 rfl rfl)⟩,
  .inr ⟨_, rfl, by decide, (zw5 191 rfl rfl)⟩,
  .inr ⟨_, rfl, by decide, (zw5 196 rfl rfl)⟩,
  .inr ⟨_, rfl, by decide, (zw5 191 rfl rfl)⟩,
  .inr ⟨_, rfl, by decide, (zw5 196 rfl rfl)⟩,
  .inr ⟨_, rfl, by decide, (zw5 191 rfl rfl)⟩,
  .inr ⟨_, rfl, by decide, (zw5 191 rfl rfl)⟩,
  .inr ⟨_, rfl, by decide, (zw5 200 rfl rfl)⟩,
  .inr ⟨_, rfl, by decide, (zw5 191 rfl rfl)⟩,
  .inr ⟨_, rfl, by decide, (zw5 201 rfl rfl)⟩,
  .inr ⟨_, rfl, by decide, (zw5 202 rfl rfl)⟩,
  .inr ⟨_, rfl, by decide, (zw5 191 rfl rfl)⟩,
  .inr ⟨_, rfl, by decide, (zw5 197 rfl rfl)⟩,
  .inr ⟨_, rfl, by decide, (zw5 198 rfl rfl)⟩,
  .inr ⟨_, rfl, by decide, (zw5 202 rfl rfl)⟩,
  .inr ⟨_, rfl, by decide, (zw5 203 rfl rfl)⟩,
  .inr ⟨_, rfl, by decide, (zw5 204 rfl rfl)⟩,
  .inr ⟨_, rfl, by decide, (zw5 203 rfl rfl)⟩,
  .inr ⟨_, rfl, by decide, (zw5 204 rfl rfl)⟩,
  .inr ⟨_, rfl, by decide, (zw5 201 rfl rfl)⟩,
  .inr ⟨_, rfl, by decide, (zw5 202 rfl rfl)⟩,
  .inr ⟨_, rfl, by decide, (zw5 203 rfl rfl)⟩,
  .inr ⟨_, rfl, by decide, (zw5 201 rfl rfl)⟩,
  .inr ⟨_, rfl, by decide, (zw5 203 rfl rfl)⟩,
  .inr ⟨_, rfl, by decide, (zw5 205 rfl rfl)⟩,
  .inr ⟨_, rfl, by decide, (zw5 203 rfl rfl)⟩,
  .inr ⟨_, rfl, by decide, (zw5 204 rfl rfl)⟩,
  .inr ⟨_, rfl, by decide, (zw5 205 rfl rfl)⟩,
  .inr ⟨_, rfl, by decide, (zw5 191 rfl rfl)⟩,
  .inr ⟨_, rfl, by decide, (zw5 192 rfl rfl)⟩,
  .inr ⟨_, rfl, by decide, (zw5 193 rfl rfl)⟩,
  .inr ⟨_, rfl, by decide, (zw5 191 rfl rfl)⟩,
  .inr ⟨_, rfl, by decide, (zw5 192 rfl rfl)⟩,
  .inr ⟨_, rfl, by decide, (zw5 193 rfl rfl)⟩,
  .inr ⟨_, rfl, by decide, (zw5 191 rfl rfl)⟩,
  .inr ⟨_, rfl, by decide, (zw5 194 rfl rfl)⟩,
  .inr ⟨_, rfl, by decide, (zw5 195 rfl rfl)⟩, trivial⟩
theorem zft_ok : zAll zfP zft := zAll_app zft_ok0 (zAll_app zft_ok1 (zAll_app zft_ok2 (zAll_app zft_ok3 (zft_ok4))))
theorem znt_ok0 : zAll znP znt_0 := ⟨⟨_, rfl, (zw1 31 rfl rfl), (zw1 32 rfl rfl), (zw1 2 rfl rfl)⟩,
  ⟨_, rfl, (zw1 166 rfl rfl), (zw1 167 rfl rfl), (zw1 6 rfl rfl)⟩,
  ⟨_, rfl, (zw1 185 rfl rfl), (zw1 186 rfl rfl), (zw1 7 rfl rfl)⟩,
  ⟨_, rfl, (zw1 212 rfl rfl), (zw1 213 rfl rfl), (zw1 8 rfl rfl)⟩,
  ⟨_, rfl, (zw1 223 rfl rfl), (zw1 224 rfl rfl), (zw1 9 rfl rfl)⟩,
  ⟨_, rfl, (zw2 29 rfl rfl), (zw2 30 rfl rfl), (zw1 11 rfl rfl)⟩,
  ⟨_, rfl, (zw1 37 rfl rfl), (zw1 68 rfl rfl), (zw1 4 rfl rfl)⟩,
  ⟨_, rfl, (zw1 39 rfl rfl), (zw1 40 rfl rfl), (zw1 3 rfl rfl)⟩,
  ⟨_, rfl, (zw1 75 rfl rfl), (zw1 76 rfl rfl), (zw1 5 rfl rfl)⟩,
  ⟨_, rfl, (zw1 172 rfl rfl), (zw1 32 rfl rfl), (zw1 2 rfl rfl)⟩,
  ⟨_, rfl, (zw1 229 rfl rfl), (zw1 213 rfl rfl), (zw1 8 rfl rfl)⟩,
  ⟨_, rfl, (zw1 231 rfl rfl), (zw1 68 rfl rfl), (zw1 4 rfl rfl)⟩,
  ⟨_, rfl, (zw1 233 rfl rfl), (zw1 234 rfl rfl), (zw1 10 rfl rfl)⟩,
  ⟨_, rfl, (zw2 35 rfl rfl), (zw2 36 rfl rfl), (zw1 13 rfl rfl)⟩,
  ⟨_, rfl, (zw3 38 rfl rfl), (zw1 234 rfl rfl), (zw1 10 rfl rfl)⟩,
  ⟨_, rfl, (zw1 23 rfl rfl), (zw1 24 rfl rfl), (zw1 1 rfl rfl)⟩,
  ⟨_, rfl, (zw5 179 rfl rfl), (zw5 180 rfl rfl), (zw1 16 rfl rfl)⟩, trivial⟩
theorem znt_ok : zAll znP znt := znt_ok0
theorem zat_ok0 : zAll zaP zat_0 := ⟨⟨_, rfl, (zw1 37 rfl rfl), by decide +kernel⟩,
  ⟨_, rfl, (zw1 73 rfl rfl), by decide +kernel⟩,
  ⟨_, rfl, (zw1 172 rfl rfl), by decide +kernel⟩,
  ⟨_, rfl, (zw7 117 rfl rfl), by decide +kernel⟩, trivial⟩
theorem zat_ok : zAll zaP zat := zat_ok0
theorem zkt_ok0 : zAll zkP zkt_0 := ⟨(zw1 45 rfl rfl),
  (zw2 52 rfl rfl),
  (zw2 193 rfl rfl),
  (zw2 193 rfl rfl),
  (zw2 193 rfl rfl),
  (zw2 193 rfl rfl),
  (zw3 230 rfl rfl),
  (zw3 226 rfl rfl),
  (zw3 226 rfl rfl),
  (zw4 209 rfl rfl),
  (zw5 185 rfl rfl),
  (zw6 22 rfl rfl),
  (zw6 48 rfl rfl),
  (zw6 48 rfl rfl),
  (zw6 48 rfl rfl),
  (zw6 48 rfl rfl),
  (zw6 48 rfl rfl), trivial⟩
theorem zkt_ok : zAll zkP zkt := zkt_ok0
theorem zlt_ok0 : zAll zlP zlt_0 := ⟨(zw2 227 rfl rfl),
  (zw3 93 rfl rfl),
  (zw3 60 rfl rfl),
  (zw3 65 rfl rfl),
  (zw3 60 rfl rfl),
  (zw3 65 rfl rfl),
  (zw2 227 rfl rfl),
  (zw3 108 rfl rfl),
  (zw3 156 rfl rfl),
  (zw3 156 rfl rfl),
  (zw3 156 rfl rfl),
  (zw3 166 rfl rfl),
  (zw3 171 rfl rfl),
  (zw3 156 rfl rfl),
  (zw3 171 rfl rfl),
  (zw4 145 rfl rfl),
  (zw4 146 rfl rfl),
  (zw3 156 rfl rfl),
  (zw3 166 rfl rfl),
  (zw3 156 rfl rfl),
  (zw3 166 rfl rfl),
  (zw4 189 rfl rfl),
  (zw3 156 rfl rfl),
  (zw3 166 rfl rfl),
  (zw4 210 rfl rfl),
  (zw3 156 rfl rfl),
  (zw3 156 rfl rfl),
  (zw3 156 rfl rfl),
  (zw3 156 rfl rfl),
  (zw3 166 rfl rfl),
  (zw5 186 rfl rfl),
  (zw5 190 rfl rfl),
  (zw6 69 rfl rfl),
  (zw6 69 rfl rfl),
  (zw5 190 rfl rfl),
  (zw6 69 rfl rfl),
  (zw6 131 rfl rfl),
  (zw6 131 rfl rfl),
  (zw6 69 rfl rfl),
  (zw6 131 rfl rfl),
  (zw5 190 rfl rfl),
  (zw6 188 rfl rfl),
  (zw6 188 rfl rfl),
  (zw6 205 rfl rfl),
  (zw6 188 rfl rfl),
  (zw6 205 rfl rfl),
  (zw7 16 rfl rfl),
  (zw7 17 rfl rfl),
  (zw7 18 rfl rfl),
  (zw6 188 rfl rfl),
  (zw7 35 rfl rfl),
  (zw6 188 rfl rfl),
  (zw7 35 rfl rfl),
  (zw5 190 rfl rfl),
  (zw6 69 rfl rfl),
  (zw6 188 rfl rfl),
  (zw6 188 rfl rfl),
  (zw6 188 rfl rfl),
  (zw6 188 rfl rfl),
  (zw7 35 rfl rfl),
  (zw7 96 rfl rfl), trivial⟩
theorem zlt_ok : zAll zlP zlt := zlt_ok0
theorem zut_ok0 : zAll zuP zut_0 := ⟨⟨_, _, rfl⟩,
  ⟨_, _, rfl⟩,
  ⟨_, _, rfl⟩,
  ⟨_, _, rfl⟩,
  ⟨_, _, rfl⟩,
  ⟨_, _, rfl⟩,
  ⟨_, _, rfl⟩,
  ⟨_, _, rfl⟩,
  ⟨_, _, rfl⟩,
  ⟨_, _, rfl⟩,
  ⟨_, _, rfl⟩,
  ⟨_, _, rfl⟩,
  ⟨_, _, rfl⟩,
  ⟨_, _, rfl⟩,
  ⟨_, _, rfl⟩,
  ⟨_, _, rfl⟩,
  ⟨_, _, rfl⟩,
  ⟨_, _, rfl⟩,
  ⟨_, _, rfl⟩,
  ⟨_, _, rfl⟩,
  ⟨_, _, rfl⟩,
  ⟨_, _, rfl⟩,
  ⟨_, _, rfl⟩,
  ⟨_, _, rfl⟩,
  ⟨_, _, rfl⟩,
  ⟨_, _, rfl⟩,
  ⟨_, _, rfl⟩,
  ⟨_, _, rfl⟩,
  ⟨_, _, rfl⟩,
  ⟨_, _, rfl⟩,
  ⟨_, _, rfl⟩,
  ⟨_, _, rfl⟩,
  ⟨_, _, rfl⟩,
  ⟨_, _, rfl⟩,
  ⟨_, _, rfl⟩,
  ⟨_, _, rfl⟩,
  ⟨_, _, rfl⟩,
  ⟨_, _, rfl⟩,
  ⟨_, _, rfl⟩,
  ⟨_, _, rfl⟩, trivial⟩
theorem zut_ok : zAll zuP zut := zut_ok0
theorem zgt_ok0 : zAll zgP zgt_0 := ⟨⟨_, rfl, (zw2 44 rfl rfl)⟩,
  ⟨_, rfl, (zw2 44 rfl rfl)⟩,
  ⟨_, rfl, (zw4 67 rfl rfl)⟩,
  ⟨_, rfl, (zw4 59 rfl rfl)⟩,
  ⟨_, rfl, (zw4 67 rfl rfl)⟩,
  ⟨_, rfl, (zw4 69 rfl rfl)⟩,
  ⟨_, rfl, (zw4 71 rfl rfl)⟩,
  ⟨_, rfl, (zw4 81 rfl rfl)⟩,
  ⟨_, rfl, (zw2 44 rfl rfl)⟩,
  ⟨_, rfl, (zw4 59 rfl rfl)⟩,
  ⟨_, rfl, (zw4 59 rfl rfl)⟩,
  ⟨_, rfl, (zw4 67 rfl rfl)⟩,
  ⟨_, rfl, (zw4 69 rfl rfl)⟩,
  ⟨_, rfl, (zw4 71 rfl rfl)⟩,
  ⟨_, rfl, (zw5 20 rfl rfl)⟩,
  ⟨_, rfl, (zw5 32 rfl rfl)⟩,
  ⟨_, rfl, (zw5 34 rfl rfl)⟩,
  ⟨_, rfl, (zw5 126 rfl rfl)⟩,
  ⟨_, rfl, (zw4 81 rfl rfl)⟩, trivial⟩
theorem zgt_ok : zAll zgP zgt := zgt_ok0
theorem zar_int : Cond.arrayClass .int ∈ zW0 := (zw1 67 rfl rfl)
theorem zar_long : Cond.arrayClass .long ∈ zW0 := (zw1 105 rfl rfl)
theorem zar_char : Cond.arrayClass .char ∈ zW0 := (zw1 211 rfl rfl)
theorem zar_byte : Cond.arrayClass .byte ∈ zW0 := (zw2 66 rfl rfl)
