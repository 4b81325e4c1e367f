/-! THE TABLES HOLD, printed by emit_tbl.py: each row of them against the tables of the Statement -/
def zown (M : Nat) : String := (zmy M).cls
def zAll {α : Type} (P : α → Prop) : List α → Prop
  | [] => True
  | a :: l => P a ∧ zAll P l
theorem zAll_app {α : Type} {P : α → Prop} : ∀ {l k : List α}, zAll P l → zAll P k → zAll P (l ++ k)
  | [], _, _, h => h
  | _ :: _, _, h, h2 => ⟨h.1, zAll_app h.2 h2⟩
theorem zAll_lk {α : Type} {P : Nat × α → Prop} : ∀ {l : List (Nat × α)}, zAll P l → ∀ {k : Nat} {v : α}, l.lookup k = some v → P (k, v)
  | [], _, k, v, hk => by cases hk
  | (a1, a2) :: l, h, k, v, hk => by
    rw [List.lookup_cons] at hk
    split at hk
    · rename_i e
      cases hk
      rw [beq_iff_eq] at e
      rw [e]
      exact h.1
    · exact zAll_lk h.2 hk
def zmeth (y n : Nat) : Prop := Cond.code (zmy y) (zmb y) (zml y) (zmr y) ∈ zW0 ∧ plainName (zmy y).cls = true ∧ ((zmy y).cls ≠ "java/lang/invoke/MethodHandle" ∧ (zmy y).cls ≠ "java/lang/invoke/VarHandle") ∧ (parseMethodDescriptor (zmy y).desc).map (fun d => d.parameters.length) = some n
def zmath1 (rc : Nat) : Option (MethodName × ByteArray × Nat × Option FieldType) := match rc with
  | 0 => some (Lib.Math.max.name, Lib.Math.max.code, 2, some .int)
  | 1 => some (Lib.Math.min.name, Lib.Math.min.code, 2, some .int)
  | 2 => some (Lib.MathLoose.max_long.x, Lib.MathLoose.max_long.code, 4, some .long)
  | 3 => some (Lib.MathLoose.min_long.x, Lib.MathLoose.min_long.code, 4, some .long)
  | 4 => some (Lib.MathLoose.abs_long.x, Lib.MathLoose.abs_long.code, 2, some .long)
  | _ => none
def zroom (M y : Nat) : Prop := zmf y + 1 ≤ zmf M ∧ 8 + (zml y + 11) + zmo y ≤ zmo M
def zcln (ci : Nat) : String := if ci = 13 then "java/lang/String" else (zcl.getD ci ("", zT0, 0)).1
/-- what a call's row says: key, kind, the method called, its arguments, the receiver's class -/
def zsP (e : Nat × Nat × Nat × Nat × Nat) : Prop := match e with
  | (key, k, y, n, rc) => match k with
    | 7 => Cond.methodLink (zown (key / zKEY)) (key % zKEY) objectInit ∈ zW0 ∧ Cond.instanceMethod objectInit ∈ zW0 ∧ Cond.code objectInit ⟨#[0xb1]⟩ 1 none ∈ zW0 ∧ 1 ≤ zmf (key / zKEY) ∧ 20 ≤ zmo (key / zKEY)
    | 8 => Cond.methodLink (zown (key / zKEY)) (key % zKEY) arraycopyName ∈ zW0 ∧ Cond.native arraycopyName ∈ zW0 ∧ Cond.static arraycopyName ∈ zW0 ∧ Cond.initialized "java/lang/System" ∈ zW0 ∧ 1 ≤ zmf (key / zKEY) ∧ 8 + (nativeFrameWords "java/lang/System" "arraycopy" 5 + 11) ≤ zmo (key / zKEY)
    | 9 => (∃ (y : MethodName) (b : ByteArray) (ml : Nat) (rt : Option FieldType), zmath1 rc = some (y, b, ml, rt) ∧ Cond.methodLink (zown (key / zKEY)) (key % zKEY) y ∈ zW0 ∧ Cond.static y ∈ zW0 ∧ Cond.code y b ml rt ∈ zW0) ∧ Cond.initialized "java/lang/Math" ∈ zW0 ∧ 1 ≤ zmf (key / zKEY) ∧ 23 ≤ zmo (key / zKEY)
    | 0 => (Cond.methodLink (zown (key / zKEY)) (key % zKEY) (zmy y) ∈ zW0 ∧ Cond.static (zmy y) ∈ zW0 ∧ Cond.initialized (zmy y).cls ∈ zW0) ∧ zmeth y n ∧ zroom (key / zKEY) y
    | 3 => ((∃ (j : Nat) (host : String), znl[j]? = some (zown (key / zKEY), key % zKEY, zmy y, (host : String))) ∧ Cond.static (zmy y) ∈ zW0 ∧ Cond.initialized (zmy y).cls ∈ zW0) ∧ zmeth y n ∧ zroom (key / zKEY) y
    | 2 => (Cond.methodLink (zown (key / zKEY)) (key % zKEY) (zmy y) ∈ zW0 ∧ Cond.instanceMethod (zmy y) ∈ zW0 ∧ Cond.initialized (zmy y).cls ∈ zW0) ∧ zmeth y n ∧ zroom (key / zKEY) y ∧ (zmy y).name = "<init>" ∧ zmr y = none
    | 4 => ((∃ (j : Nat) (host : String), znl[j]? = some (zown (key / zKEY), key % zKEY, zmy y, (host : String))) ∧ Cond.instanceMethod (zmy y) ∈ zW0 ∧ Cond.initialized (zmy y).cls ∈ zW0) ∧ zmeth y n ∧ zroom (key / zKEY) y ∧ (zmy y).name = "<init>" ∧ zmr y = none
    | 1 => (Cond.methodLink (zown (key / zKEY)) (key % zKEY) (zmy y) ∈ zW0 ∧ Cond.instanceMethod (zmy y) ∈ zW0 ∧ Cond.selects (zmy y).cls (zmy y) (zmy y) ∈ zW0 ∧ Cond.initialized (zmy y).cls ∈ zW0) ∧ zmeth y n ∧ zroom (key / zKEY) y ∧ (zmy y).cls = zcln rc ∧ rc < 14
    | 5 => (Cond.methodLink (zown (key / zKEY)) (key % zKEY) (zmy y) ∈ zW0 ∧ Cond.sameMethod (zmy y).cls (zmy y).cls (zmy y).name (zmy y).desc ∈ zW0 ∧ Cond.selects (zcln rc) (zmy y) (zmy y) ∈ zW0 ∧ Cond.instanceMethod (zmy y) ∈ zW0 ∧ Cond.initialized (zmy y).cls ∈ zW0) ∧ zmeth y n ∧ zroom (key / zKEY) y ∧ rc < 13
    | 6 => (Cond.methodLink (zown (key / zKEY)) (key % zKEY) (zmy y) ∈ zW0 ∧ Cond.sameMethod (zmy y).cls (zmy y).cls (zmy y).name (zmy y).desc ∈ zW0 ∧ Cond.superclass (zown (key / zKEY)) (zmy y).cls ∈ zW0 ∧ Cond.instanceMethod (zmy y) ∈ zW0 ∧ Cond.initialized (zmy y).cls ∈ zW0) ∧ zmeth y n ∧ zroom (key / zKEY) y ∧ (zmy y).name ≠ "<init>" ∧ rc < 13
    | _ => False
def zfP (e : Nat × Nat × Nat) : Prop := (e.2.1 = 13 ∧ ((e.2.2 = 0 ∧ Cond.fieldLink (zown (e.1 / zKEY)) (e.1 % zKEY) "java/lang/String" "value" "[B" ∈ zW0) ∨ (e.2.2 = 1 ∧ Cond.fieldLink (zown (e.1 / zKEY)) (e.1 % zKEY) "java/lang/String" "coder" "B" ∈ zW0))) ∨ ∃ q, zcl[e.2.1]? = some q ∧ e.2.2 < q.2.2 ∧ Cond.fieldLink (zown (e.1 / zKEY)) (e.1 % zKEY) (q.2.1 e.2.2).1 (q.2.1 e.2.2).2.1 (q.2.1 e.2.2).2.2.1 ∈ zW0
def znP (e : Nat × Nat) : Prop := ∃ q, zcl[e.2]? = some q ∧ Cond.classLink (zown (e.1 / zKEY)) (e.1 % zKEY) q.1 ∈ zW0 ∧ Cond.instantiable q.1 q.2.2 ∈ zW0 ∧ Cond.initialized q.1 ∈ zW0
def zaP (e : Nat × Nat) : Prop := ∃ C, ztag[e.2]? = some (.object C) ∧ Cond.classLink (zown (e.1 / zKEY)) (e.1 % zKEY) C ∈ zW0 ∧ C ∈ zao
def zkP (e : Nat × Int32) : Prop := Cond.constant (zown (e.1 / zKEY)) (e.1 % zKEY) e.2 ∈ zW0
def zlP (e : Nat × Int64) : Prop := Cond.constantLong (zown (e.1 / zKEY)) (e.1 % zKEY) e.2 ∈ zW0
def zuP (e : Nat × Nat) : Prop := ∃ tx bs, zsx[e.2]? = some (zown (e.1 / zKEY), e.1 % zKEY, tx, bs)
def zgP (e : Nat × Nat) : Prop := ∃ q, zsl[e.2]? = some q ∧ Cond.fieldLink (zown (e.1 / zKEY)) (e.1 % zKEY) q.1 q.2.1 q.2.2.1 ∈ zW0
theorem zc_in0 : ∀ c ∈ u_ws "java/lang/StringBuilder" zT0 4, c ∈ zW0 := by
  intro c hc
  obtain ⟨k, hk, rfl⟩ := List.mem_map.mp hc
  rw [List.mem_range] at hk
  rcases (show k = 0 ∨ k = 1 ∨ k = 2 ∨ k = 3 by omega) with rfl | rfl | rfl | rfl
  · exact (zw2 58 rfl rfl)
  · exact (zw2 60 rfl rfl)
  · exact (zw2 62 rfl rfl)
  · exact (zw2 64 rfl rfl)
theorem zc_in1 : ∀ c ∈ u_ws "PayrollRun$Books" zT1 5, c ∈ zW0 := by
  intro c hc
  obtain ⟨k, hk, rfl⟩ := List.mem_map.mp hc
  rw [List.mem_range] at hk
  rcases (show k = 0 ∨ k = 1 ∨ k = 2 ∨ k = 3 ∨ k = 4 by omega) with rfl | rfl | rfl | rfl | rfl
  · exact (zw1 156 rfl rfl)
  · exact (zw1 158 rfl rfl)
  · exact (zw1 160 rfl rfl)
  · exact (zw1 162 rfl rfl)
  · exact (zw1 164 rfl rfl)
theorem zc_in2 : ∀ c ∈ u_ws "PayrollRun$Closing" zT2 1, c ∈ zW0 := by
  intro c hc
  obtain ⟨k, hk, rfl⟩ := List.mem_map.mp hc
  rw [List.mem_range] at hk
  rcases (show k = 0 by omega) with rfl
  · exact (zw1 221 rfl rfl)
theorem zc_in3 : ∀ c ∈ u_ws "PayrollRun$CommandText" zT3 6, c ∈ zW0 := by
  intro c hc
  obtain ⟨k, hk, rfl⟩ := List.mem_map.mp hc
  rw [List.mem_range] at hk
  rcases (show k = 0 ∨ k = 1 ∨ k = 2 ∨ k = 3 ∨ k = 4 ∨ k = 5 by omega) with rfl | rfl | rfl | rfl | rfl | rfl
  · exact (zw1 199 rfl rfl)
  · exact (zw1 201 rfl rfl)
  · exact (zw1 203 rfl rfl)
  · exact (zw1 205 rfl rfl)
  · exact (zw1 207 rfl rfl)
  · exact (zw1 209 rfl rfl)
theorem zc_in4 : ∀ c ∈ u_ws "PayrollRun$Garnishments" zT4 5, c ∈ zW0 := by
  intro c hc
  obtain ⟨k, hk, rfl⟩ := List.mem_map.mp hc
  rw [List.mem_range] at hk
  rcases (show k = 0 ∨ k = 1 ∨ k = 2 ∨ k = 3 ∨ k = 4 by omega) with rfl | rfl | rfl | rfl | rfl
  · exact (zw1 95 rfl rfl)
  · exact (zw1 97 rfl rfl)
  · exact (zw1 99 rfl rfl)
  · exact (zw1 101 rfl rfl)
  · exact (zw1 103 rfl rfl)
theorem zc_in5 : ∀ c ∈ u_ws "PayrollRun$History" zT5 3, c ∈ zW0 := by
  intro c hc
  obtain ⟨k, hk, rfl⟩ := List.mem_map.mp hc
  rw [List.mem_range] at hk
  rcases (show k = 0 ∨ k = 1 ∨ k = 2 by omega) with rfl | rfl | rfl
  · exact (zw1 179 rfl rfl)
  · exact (zw1 181 rfl rfl)
  · exact (zw1 183 rfl rfl)
theorem zc_in6 : ∀ c ∈ u_ws "PayrollRun$Rules" zT6 5, c ∈ zW0 := by
  intro c hc
  obtain ⟨k, hk, rfl⟩ := List.mem_map.mp hc
  rw [List.mem_range] at hk
  rcases (show k = 0 ∨ k = 1 ∨ k = 2 ∨ k = 3 ∨ k = 4 by omega) with rfl | rfl | rfl | rfl | rfl
  · exact (zw1 57 rfl rfl)
  · exact (zw1 59 rfl rfl)
  · exact (zw1 61 rfl rfl)
  · exact (zw1 63 rfl rfl)
  · exact (zw1 65 rfl rfl)
theorem zc_in7 : ∀ c ∈ u_ws "PayrollRun$Slip" zT7 4, c ∈ zW0 := by
  intro c hc
  obtain ⟨k, hk, rfl⟩ := List.mem_map.mp hc
  rw [List.mem_range] at hk
  rcases (show k = 0 ∨ k = 1 ∨ k = 2 ∨ k = 3 by omega) with rfl | rfl | rfl | rfl
  · exact (zw2 11 rfl rfl)
  · exact (zw2 13 rfl rfl)
  · exact (zw2 15 rfl rfl)
  · exact (zw2 17 rfl rfl)
theorem zc_in8 : ∀ c ∈ u_ws "PayrollRun$SlipText" zT8 2, c ∈ zW0 := by
  intro c hc
  obtain ⟨k, hk, rfl⟩ := List.mem_map.mp hc
  rw [List.mem_range] at hk
  rcases (show k = 0 ∨ k = 1 by omega) with rfl | rfl
  · exact (zw2 70 rfl rfl)
  · exact (zw2 72 rfl rfl)
theorem zc_in9 : ∀ c ∈ u_ws "PayrollRun$Trial" zT9 3, c ∈ zW0 := by
  intro c hc
  obtain ⟨k, hk, rfl⟩ := List.mem_map.mp hc
  rw [List.mem_range] at hk
  rcases (show k = 0 ∨ k = 1 ∨ k = 2 by omega) with rfl | rfl | rfl
  · exact (zw2 23 rfl rfl)
  · exact (zw2 25 rfl rfl)
  · exact (zw2 27 rfl rfl)
theorem zc_in10 : ∀ c ∈ u_ws "PayrollRun$Worker" zT10 7, c ∈ zW0 := by
  intro c hc
  obtain ⟨k, hk, rfl⟩ := List.mem_map.mp hc
  rw [List.mem_range] at hk
  rcases (show k = 0 ∨ k = 1 ∨ k = 2 ∨ k = 3 ∨ k = 4 ∨ k = 5 ∨ k = 6 by omega) with rfl | rfl | rfl | rfl | rfl | rfl | rfl
  · exact (zw1 129 rfl rfl)
  · exact (zw1 131 rfl rfl)
  · exact (zw1 133 rfl rfl)
  · exact (zw1 135 rfl rfl)
  · exact (zw1 137 rfl rfl)
  · exact (zw1 139 rfl rfl)
  · exact (zw1 141 rfl rfl)
theorem zc_in11 : ∀ c ∈ u_ws "PayrollRun" zT11 8, c ∈ zW0 := by
  intro c hc
  obtain ⟨k, hk, rfl⟩ := List.mem_map.mp hc
  rw [List.mem_range] at hk
  rcases (show k = 0 ∨ k = 1 ∨ k = 2 ∨ k = 3 ∨ k = 4 ∨ k = 5 ∨ k = 6 ∨ k = 7 by omega) with rfl | rfl | rfl | rfl | rfl | rfl | rfl | rfl
  · exact (zw2 83 rfl rfl)
  · exact (zw2 85 rfl rfl)
  · exact (zw2 87 rfl rfl)
  · exact (zw2 89 rfl rfl)
  · exact (zw2 91 rfl rfl)
  · exact (zw2 93 rfl rfl)
  · exact (zw2 95 rfl rfl)
  · exact (zw2 97 rfl rfl)
theorem zc_in12 : ∀ c ∈ u_ws "PayrollRunModel" zT12 15, c ∈ zW0 := by
  intro c hc
  obtain ⟨k, hk, rfl⟩ := List.mem_map.mp hc
  rw [List.mem_range] at hk
  rcases (show k = 0 ∨ k = 1 ∨ k = 2 ∨ k = 3 ∨ k = 4 ∨ k = 5 ∨ k = 6 ∨ k = 7 ∨ k = 8 ∨ k = 9 ∨ k = 10 ∨ k = 11 ∨ k = 12 ∨ k = 13 ∨ k = 14 by omega) with rfl | rfl | rfl | rfl | rfl | rfl | rfl | rfl | rfl | rfl | rfl | rfl | rfl | rfl | rfl
  · exact (zw5 233 rfl rfl)
  · exact (zw5 235 rfl rfl)
  · exact (zw5 237 rfl rfl)
  · exact (zw5 239 rfl rfl)
  · exact (zw6 1 rfl rfl)
  · exact (zw6 3 rfl rfl)
  · exact (zw6 5 rfl rfl)
  · exact (zw6 7 rfl rfl)
  · exact (zw6 9 rfl rfl)
  · exact (zw6 11 rfl rfl)
  · exact (zw6 13 rfl rfl)
  · exact (zw6 15 rfl rfl)
  · exact (zw6 17 rfl rfl)
  · exact (zw6 19 rfl rfl)
  · exact (zw6 21 rfl rfl)
theorem zme_0 : zmeth 0 0 := ⟨(zw1 28 rfl rfl), by decide +kernel, ⟨by decide +kernel, by decide +kernel⟩, by decide +kernel⟩
theorem zme_2 : zmeth 2 0 := ⟨(zw1 36 rfl rfl), by decide +kernel, ⟨by decide +kernel, by decide +kernel⟩, by decide +kernel⟩
theorem zme_3 : zmeth 3 0 := ⟨(zw1 44 rfl rfl), by decide +kernel, ⟨by decide +kernel, by decide +kernel⟩, by decide +kernel⟩
theorem zme_4 : zmeth 4 0 := ⟨(zw1 72 rfl rfl), by decide +kernel, ⟨by decide +kernel, by decide +kernel⟩, by decide +kernel⟩
theorem zme_5 : zmeth 5 0 := ⟨(zw1 80 rfl rfl), by decide +kernel, ⟨by decide +kernel, by decide +kernel⟩, by decide +kernel⟩
theorem zme_6 : zmeth 6 0 := ⟨(zw1 171 rfl rfl), by decide +kernel, ⟨by decide +kernel, by decide +kernel⟩, by decide +kernel⟩
theorem zme_7 : zmeth 7 0 := ⟨(zw1 190 rfl rfl), by decide +kernel, ⟨by decide +kernel, by decide +kernel⟩, by decide +kernel⟩
theorem zme_8 : zmeth 8 0 := ⟨(zw1 217 rfl rfl), by decide +kernel, ⟨by decide +kernel, by decide +kernel⟩, by decide +kernel⟩
theorem zme_9 : zmeth 9 0 := ⟨(zw1 228 rfl rfl), by decide +kernel, ⟨by decide +kernel, by decide +kernel⟩, by decide +kernel⟩
theorem zme_10 : zmeth 10 0 := ⟨(zw1 238 rfl rfl), by decide +kernel, ⟨by decide +kernel, by decide +kernel⟩, by decide +kernel⟩
theorem zme_11 : zmeth 11 0 := ⟨(zw2 34 rfl rfl), by decide +kernel, ⟨by decide +kernel, by decide +kernel⟩, by decide +kernel⟩
theorem zme_12 : zmeth 12 0 := ⟨(zw2 40 rfl rfl), by decide +kernel, ⟨by decide +kernel, by decide +kernel⟩, by decide +kernel⟩
theorem zme_13 : zmeth 13 1 := ⟨(zw2 43 rfl rfl), by decide +kernel, ⟨by decide +kernel, by decide +kernel⟩, by decide +kernel⟩
theorem zme_14 : zmeth 14 1 := ⟨(zw2 49 rfl rfl), by decide +kernel, ⟨by decide +kernel, by decide +kernel⟩, by decide +kernel⟩
theorem zme_15 : zmeth 15 1 := ⟨(zw2 52 rfl rfl), by decide +kernel, ⟨by decide +kernel, by decide +kernel⟩, by decide +kernel⟩
theorem zme_16 : zmeth 16 3 := ⟨(zw2 103 rfl rfl), by decide +kernel, ⟨by decide +kernel, by decide +kernel⟩, by decide +kernel⟩
theorem zme_17 : zmeth 17 1 := ⟨(zw2 107 rfl rfl), by decide +kernel, ⟨by decide +kernel, by decide +kernel⟩, by decide +kernel⟩
theorem zme_18 : zmeth 18 1 := ⟨(zw2 111 rfl rfl), by decide +kernel, ⟨by decide +kernel, by decide +kernel⟩, by decide +kernel⟩
theorem zme_19 : zmeth 19 1 := ⟨(zw2 115 rfl rfl), by decide +kernel, ⟨by decide +kernel, by decide +kernel⟩, by decide +kernel⟩
theorem zme_20 : zmeth 20 1 := ⟨(zw2 122 rfl rfl), by decide +kernel, ⟨by decide +kernel, by decide +kernel⟩, by decide +kernel⟩
theorem zme_21 : zmeth 21 1 := ⟨(zw2 127 rfl rfl), by decide +kernel, ⟨by decide +kernel, by decide +kernel⟩, by decide +kernel⟩
theorem zme_22 : zmeth 22 3 := ⟨(zw2 132 rfl rfl), by decide +kernel, ⟨by decide +kernel, by decide +kernel⟩, by decide +kernel⟩
theorem zme_23 : zmeth 23 1 := ⟨(zw2 135 rfl rfl), by decide +kernel, ⟨by decide +kernel, by decide +kernel⟩, by decide +kernel⟩
theorem zme_24 : zmeth 24 3 := ⟨(zw2 138 rfl rfl), by decide +kernel, ⟨by decide +kernel, by decide +kernel⟩, by decide +kernel⟩
theorem zme_25 : zmeth 25 1 := ⟨(zw2 141 rfl rfl), by decide +kernel, ⟨by decide +kernel, by decide +kernel⟩, by decide +kernel⟩
theorem zme_26 : zmeth 26 1 := ⟨(zw2 146 rfl rfl), by decide +kernel, ⟨by decide +kernel, by decide +kernel⟩, by decide +kernel⟩
theorem zme_27 : zmeth 27 0 := ⟨(zw2 150 rfl rfl), by decide +kernel, ⟨by decide +kernel, by decide +kernel⟩, by decide +kernel⟩
theorem zme_29 : zmeth 29 3 := ⟨(zw2 157 rfl rfl), by decide +kernel, ⟨by decide +kernel, by decide +kernel⟩, by decide +kernel⟩
theorem zme_30 : zmeth 30 3 := ⟨(zw2 161 rfl rfl), by decide +kernel, ⟨by decide +kernel, by decide +kernel⟩, by decide +kernel⟩
theorem zme_31 : zmeth 31 3 := ⟨(zw2 165 rfl rfl), by decide +kernel, ⟨by decide +kernel, by decide +kernel⟩, by decide +kernel⟩
theorem zme_32 : zmeth 32 3 := ⟨(zw2 169 rfl rfl), by decide +kernel, ⟨by decide +kernel, by decide +kernel⟩, by decide +kernel⟩
theorem zme_33 : zmeth 33 2 := ⟨(zw2 173 rfl rfl), by decide +kernel, ⟨by decide +kernel, by decide +kernel⟩, by decide +kernel⟩
theorem zme_34 : zmeth 34 2 := ⟨(zw2 177 rfl rfl), by decide +kernel, ⟨by decide +kernel, by decide +kernel⟩, by decide +kernel⟩
theorem zme_35 : zmeth 35 2 := ⟨(zw2 181 rfl rfl), by decide +kernel, ⟨by decide +kernel, by decide +kernel⟩, by decide +kernel⟩
theorem zme_36 : zmeth 36 2 := ⟨(zw2 185 rfl rfl), by decide +kernel, ⟨by decide +kernel, by decide +kernel⟩, by decide +kernel⟩
theorem zme_37 : zmeth 37 2 := ⟨(zw2 189 rfl rfl), by decide +kernel, ⟨by decide +kernel, by decide +kernel⟩, by decide +kernel⟩
theorem zme_38 : zmeth 38 2 := ⟨(zw2 193 rfl rfl), by decide +kernel, ⟨by decide +kernel, by decide +kernel⟩, by decide +kernel⟩
theorem zme_39 : zmeth 39 2 := ⟨(zw2 198 rfl rfl), by decide +kernel, ⟨by decide +kernel, by decide +kernel⟩, by decide +kernel⟩
theorem zme_40 : zmeth 40 2 := ⟨(zw2 202 rfl rfl), by decide +kernel, ⟨by decide +kernel, by decide +kernel⟩, by decide +kernel⟩
theorem zme_41 : zmeth 41 0 := ⟨(zw2 206 rfl rfl), by decide +kernel, ⟨by decide +kernel, by decide +kernel⟩, by decide +kernel⟩
theorem zme_42 : zmeth 42 0 := ⟨(zw2 211 rfl rfl), by decide +kernel, ⟨by decide +kernel, by decide +kernel⟩, by decide +kernel⟩
theorem zme_43 : zmeth 43 0 := ⟨(zw2 215 rfl rfl), by decide +kernel, ⟨by decide +kernel, by decide +kernel⟩, by decide +kernel⟩
theorem zme_44 : zmeth 44 3 := ⟨(zw2 219 rfl rfl), by decide +kernel, ⟨by decide +kernel, by decide +kernel⟩, by decide +kernel⟩
theorem zme_45 : zmeth 45 3 := ⟨(zw2 223 rfl rfl), by decide +kernel, ⟨by decide +kernel, by decide +kernel⟩, by decide +kernel⟩
theorem zme_46 : zmeth 46 3 := ⟨(zw2 227 rfl rfl), by decide +kernel, ⟨by decide +kernel, by decide +kernel⟩, by decide +kernel⟩
theorem zme_47 : zmeth 47 3 := ⟨(zw2 232 rfl rfl), by decide +kernel, ⟨by decide +kernel, by decide +kernel⟩, by decide +kernel⟩
theorem zme_48 : zmeth 48 3 := ⟨(zw2 236 rfl rfl), by decide +kernel, ⟨by decide +kernel, by decide +kernel⟩, by decide +kernel⟩
theorem zme_49 : zmeth 49 2 := ⟨(zw3 0 rfl rfl), by decide +kernel, ⟨by decide +kernel, by decide +kernel⟩, by decide +kernel⟩
theorem zme_50 : zmeth 50 2 := ⟨(zw3 4 rfl rfl), by decide +kernel, ⟨by decide +kernel, by decide +kernel⟩, by decide +kernel⟩
theorem zme_51 : zmeth 51 1 := ⟨(zw3 8 rfl rfl), by decide +kernel, ⟨by decide +kernel, by decide +kernel⟩, by decide +kernel⟩
theorem zme_52 : zmeth 52 1 := ⟨(zw3 13 rfl rfl), by decide +kernel, ⟨by decide +kernel, by decide +kernel⟩, by decide +kernel⟩
theorem zme_53 : zmeth 53 2 := ⟨(zw3 17 rfl rfl), by decide +kernel, ⟨by decide +kernel, by decide +kernel⟩, by decide +kernel⟩
theorem zme_54 : zmeth 54 2 := ⟨(zw3 21 rfl rfl), by decide +kernel, ⟨by decide +kernel, by decide +kernel⟩, by decide +kernel⟩
theorem zme_55 : zmeth 55 3 := ⟨(zw3 26 rfl rfl), by decide +kernel, ⟨by decide +kernel, by decide +kernel⟩, by decide +kernel⟩
theorem zme_56 : zmeth 56 3 := ⟨(zw3 30 rfl rfl), by decide +kernel, ⟨by decide +kernel, by decide +kernel⟩, by decide +kernel⟩
theorem zme_57 : zmeth 57 0 := ⟨(zw3 35 rfl rfl), by decide +kernel, ⟨by decide +kernel, by decide +kernel⟩, by decide +kernel⟩
theorem zme_58 : zmeth 58 1 := ⟨(zw3 39 rfl rfl), by decide +kernel, ⟨by decide +kernel, by decide +kernel⟩, by decide +kernel⟩
theorem zme_59 : zmeth 59 5 := ⟨(zw3 45 rfl rfl), by decide +kernel, ⟨by decide +kernel, by decide +kernel⟩, by decide +kernel⟩
theorem zme_60 : zmeth 60 2 := ⟨(zw3 50 rfl rfl), by decide +kernel, ⟨by decide +kernel, by decide +kernel⟩, by decide +kernel⟩
theorem zme_61 : zmeth 61 1 := ⟨(zw3 54 rfl rfl), by decide +kernel, ⟨by decide +kernel, by decide +kernel⟩, by decide +kernel⟩
theorem zme_62 : zmeth 62 3 := ⟨(zw3 57 rfl rfl), by decide +kernel, ⟨by decide +kernel, by decide +kernel⟩, by decide +kernel⟩
theorem zme_63 : zmeth 63 2 := ⟨(zw3 61 rfl rfl), by decide +kernel, ⟨by decide +kernel, by decide +kernel⟩, by decide +kernel⟩
theorem zme_64 : zmeth 64 2 := ⟨(zw3 66 rfl rfl), by decide +kernel, ⟨by decide +kernel, by decide +kernel⟩, by decide +kernel⟩
theorem zme_65 : zmeth 65 1 := ⟨(zw3 71 rfl rfl), by decide +kernel, ⟨by decide +kernel, by decide +kernel⟩, by decide +kernel⟩
theorem zme_66 : zmeth 66 2 := ⟨(zw3 75 rfl rfl), by decide +kernel, ⟨by decide +kernel, by decide +kernel⟩, by decide +kernel⟩
theorem zme_67 : zmeth 67 2 := ⟨(zw3 78 rfl rfl), by decide +kernel, ⟨by decide +kernel, by decide +kernel⟩, by decide +kernel⟩
theorem zme_68 : zmeth 68 4 := ⟨(zw3 82 rfl rfl), by decide +kernel, ⟨by decide +kernel, by decide +kernel⟩, by decide +kernel⟩
theorem zme_69 : zmeth 69 4 := ⟨(zw3 86 rfl rfl), by decide +kernel, ⟨by decide +kernel, by decide +kernel⟩, by decide +kernel⟩
theorem zme_70 : zmeth 70 2 := ⟨(zw3 90 rfl rfl), by decide +kernel, ⟨by decide +kernel, by decide +kernel⟩, by decide +kernel⟩
theorem zme_71 : zmeth 71 2 := ⟨(zw3 94 rfl rfl), by decide +kernel, ⟨by decide +kernel, by decide +kernel⟩, by decide +kernel⟩
theorem zme_74 : zmeth 74 3 := ⟨(zw3 105 rfl rfl), by decide +kernel, ⟨by decide +kernel, by decide +kernel⟩, by decide +kernel⟩
theorem zme_75 : zmeth 75 2 := ⟨(zw3 109 rfl rfl), by decide +kernel, ⟨by decide +kernel, by decide +kernel⟩, by decide +kernel⟩
theorem zme_76 : zmeth 76 3 := ⟨(zw3 114 rfl rfl), by decide +kernel, ⟨by decide +kernel, by decide +kernel⟩, by decide +kernel⟩
theorem zme_77 : zmeth 77 0 := ⟨(zw3 118 rfl rfl), by decide +kernel, ⟨by decide +kernel, by decide +kernel⟩, by decide +kernel⟩
theorem zme_78 : zmeth 78 0 := ⟨(zw3 122 rfl rfl), by decide +kernel, ⟨by decide +kernel, by decide +kernel⟩, by decide +kernel⟩
theorem zme_79 : zmeth 79 0 := ⟨(zw3 126 rfl rfl), by decide +kernel, ⟨by decide +kernel, by decide +kernel⟩, by decide +kernel⟩
theorem zme_80 : zmeth 80 0 := ⟨(zw3 130 rfl rfl), by decide +kernel, ⟨by decide +kernel, by decide +kernel⟩, by decide +kernel⟩
theorem zme_81 : zmeth 81 0 := ⟨(zw3 134 rfl rfl), by decide +kernel, ⟨by decide +kernel, by decide +kernel⟩, by decide +kernel⟩
theorem zme_82 : zmeth 82 3 := ⟨(zw3 138 rfl rfl), by decide +kernel, ⟨by decide +kernel, by decide +kernel⟩, by decide +kernel⟩
theorem zme_83 : zmeth 83 2 := ⟨(zw3 144 rfl rfl), by decide +kernel, ⟨by decide +kernel, by decide +kernel⟩, by decide +kernel⟩
theorem zme_84 : zmeth 84 2 := ⟨(zw3 148 rfl rfl), by decide +kernel, ⟨by decide +kernel, by decide +kernel⟩, by decide +kernel⟩
theorem zme_85 : zmeth 85 3 := ⟨(zw3 152 rfl rfl), by decide +kernel, ⟨by decide +kernel, by decide +kernel⟩, by decide +kernel⟩
theorem zme_86 : zmeth 86 2 := ⟨(zw3 157 rfl rfl), by decide +kernel, ⟨by decide +kernel, by decide +kernel⟩, by decide +kernel⟩
theorem zme_87 : zmeth 87 3 := ⟨(zw3 162 rfl rfl), by decide +kernel, ⟨by decide +kernel, by decide +kernel⟩, by decide +kernel⟩
theorem zme_88 : zmeth 88 3 := ⟨(zw3 167 rfl rfl), by decide +kernel, ⟨by decide +kernel, by decide +kernel⟩, by decide +kernel⟩
theorem zme_89 : zmeth 89 1 := ⟨(zw3 172 rfl rfl), by decide +kernel, ⟨by decide +kernel, by decide +kernel⟩, by decide +kernel⟩
theorem zme_90 : zmeth 90 1 := ⟨(zw3 177 rfl rfl), by decide +kernel, ⟨by decide +kernel, by decide +kernel⟩, by decide +kernel⟩
theorem zme_91 : zmeth 91 2 := ⟨(zw3 181 rfl rfl), by decide +kernel, ⟨by decide +kernel, by decide +kernel⟩, by decide +kernel⟩
theorem zme_92 : zmeth 92 4 := ⟨(zw3 185 rfl rfl), by decide +kernel, ⟨by decide +kernel, by decide +kernel⟩, by decide +kernel⟩
theorem zme_93 : zmeth 93 1 := ⟨(zw3 189 rfl rfl), by decide +kernel, ⟨by decide +kernel, by decide +kernel⟩, by decide +kernel⟩
theorem zme_94 : zmeth 94 3 := ⟨(zw3 194 rfl rfl), by decide +kernel, ⟨by decide +kernel, by decide +kernel⟩, by decide +kernel⟩
theorem zme_95 : zmeth 95 3 := ⟨(zw3 198 rfl rfl), by decide +kernel, ⟨by decide +kernel, by decide +kernel⟩, by decide +kernel⟩
theorem zme_96 : zmeth 96 1 := ⟨(zw3 202 rfl rfl), by decide +kernel, ⟨by decide +kernel, by decide +kernel⟩, by decide +kernel⟩
theorem zme_97 : zmeth 97 0 := ⟨(zw3 206 rfl rfl), by decide +kernel, ⟨by decide +kernel, by decide +kernel⟩, by decide +kernel⟩
theorem zme_98 : zmeth 98 1 := ⟨(zw3 210 rfl rfl), by decide +kernel, ⟨by decide +kernel, by decide +kernel⟩, by decide +kernel⟩
theorem zme_99 : zmeth 99 1 := ⟨(zw3 213 rfl rfl), by decide +kernel, ⟨by decide +kernel, by decide +kernel⟩, by decide +kernel⟩
theorem zme_100 : zmeth 100 1 := ⟨(zw3 217 rfl rfl), by decide +kernel, ⟨by decide +kernel, by decide +kernel⟩, by decide +kernel⟩
theorem zme_101 : zmeth 101 1 := ⟨(zw3 221 rfl rfl), by decide +kernel, ⟨by decide +kernel, by decide +kernel⟩, by decide +kernel⟩
theorem zme_102 : zmeth 102 3 := ⟨(zw3 224 rfl rfl), by decide +kernel, ⟨by decide +kernel, by decide +kernel⟩, by decide +kernel⟩
theorem zme_104 : zmeth 104 2 := ⟨(zw3 231 rfl rfl), by decide +kernel, ⟨by decide +kernel, by decide +kernel⟩, by decide +kernel⟩
theorem zme_105 : zmeth 105 2 := ⟨(zw3 235 rfl rfl), by decide +kernel, ⟨by decide +kernel, by decide +kernel⟩, by decide +kernel⟩
theorem zme_106 : zmeth 106 0 := ⟨(zw4 9 rfl rfl), by decide +kernel, ⟨by decide +kernel, by decide +kernel⟩, by decide +kernel⟩
theorem zme_107 : zmeth 107 3 := ⟨(zw4 12 rfl rfl), by decide +kernel, ⟨by decide +kernel, by decide +kernel⟩, by decide +kernel⟩
theorem zme_108 : zmeth 108 4 := ⟨(zw4 15 rfl rfl), by decide +kernel, ⟨by decide +kernel, by decide +kernel⟩, by decide +kernel⟩
theorem zme_109 : zmeth 109 3 := ⟨(zw4 18 rfl rfl), by decide +kernel, ⟨by decide +kernel, by decide +kernel⟩, by decide +kernel⟩
theorem zme_110 : zmeth 110 3 := ⟨(zw4 21 rfl rfl), by decide +kernel, ⟨by decide +kernel, by decide +kernel⟩, by decide +kernel⟩
theorem zme_111 : zmeth 111 4 := ⟨(zw4 26 rfl rfl), by decide +kernel, ⟨by decide +kernel, by decide +kernel⟩, by decide +kernel⟩
theorem zme_112 : zmeth 112 1 := ⟨(zw4 29 rfl rfl), by decide +kernel, ⟨by decide +kernel, by decide +kernel⟩, by decide +kernel⟩
theorem zme_113 : zmeth 113 1 := ⟨(zw4 41 rfl rfl), by decide +kernel, ⟨by decide +kernel, by decide +kernel⟩, by decide +kernel⟩
theorem zme_114 : zmeth 114 1 := ⟨(zw4 44 rfl rfl), by decide +kernel, ⟨by decide +kernel, by decide +kernel⟩, by decide +kernel⟩
theorem zme_115 : zmeth 115 0 := ⟨(zw4 48 rfl rfl), by decide +kernel, ⟨by decide +kernel, by decide +kernel⟩, by decide +kernel⟩
theorem zme_116 : zmeth 116 6 := ⟨(zw4 51 rfl rfl), by decide +kernel, ⟨by decide +kernel, by decide +kernel⟩, by decide +kernel⟩
theorem zme_117 : zmeth 117 3 := ⟨(zw4 54 rfl rfl), by decide +kernel, ⟨by decide +kernel, by decide +kernel⟩, by decide +kernel⟩
theorem zme_118 : zmeth 118 1 := ⟨(zw4 57 rfl rfl), by decide +kernel, ⟨by decide +kernel, by decide +kernel⟩, by decide +kernel⟩
theorem zme_119 : zmeth 119 3 := ⟨(zw4 60 rfl rfl), by decide +kernel, ⟨by decide +kernel, by decide +kernel⟩, by decide +kernel⟩
theorem zme_120 : zmeth 120 4 := ⟨(zw4 65 rfl rfl), by decide +kernel, ⟨by decide +kernel, by decide +kernel⟩, by decide +kernel⟩
theorem zme_121 : zmeth 121 3 := ⟨(zw4 68 rfl rfl), by decide +kernel, ⟨by decide +kernel, by decide +kernel⟩, by decide +kernel⟩
theorem zme_122 : zmeth 122 0 := ⟨(zw4 78 rfl rfl), by decide +kernel, ⟨by decide +kernel, by decide +kernel⟩, by decide +kernel⟩
theorem zme_123 : zmeth 123 0 := ⟨(zw4 82 rfl rfl), by decide +kernel, ⟨by decide +kernel, by decide +kernel⟩, by decide +kernel⟩
theorem zme_124 : zmeth 124 2 := ⟨(zw4 87 rfl rfl), by decide +kernel, ⟨by decide +kernel, by decide +kernel⟩, by decide +kernel⟩
theorem zme_125 : zmeth 125 1 := ⟨(zw4 91 rfl rfl), by decide +kernel, ⟨by decide +kernel, by decide +kernel⟩, by decide +kernel⟩
theorem zme_126 : zmeth 126 0 := ⟨(zw4 96 rfl rfl), by decide +kernel, ⟨by decide +kernel, by decide +kernel⟩, by decide +kernel⟩
theorem zme_127 : zmeth 127 5 := ⟨(zw4 99 rfl rfl), by decide +kernel, ⟨by decide +kernel, by decide +kernel⟩, by decide +kernel⟩
theorem zme_128 : zmeth 128 5 := ⟨(zw4 102 rfl rfl), by decide +kernel, ⟨by decide +kernel, by decide +kernel⟩, by decide +kernel⟩
theorem zme_129 : zmeth 129 3 := ⟨(zw4 105 rfl rfl), by decide +kernel, ⟨by decide +kernel, by decide +kernel⟩, by decide +kernel⟩
theorem zme_130 : zmeth 130 3 := ⟨(zw4 108 rfl rfl), by decide +kernel, ⟨by decide +kernel, by decide +kernel⟩, by decide +kernel⟩
theorem zme_131 : zmeth 131 4 := ⟨(zw4 111 rfl rfl), by decide +kernel, ⟨by decide +kernel, by decide +kernel⟩, by decide +kernel⟩
theorem zme_132 : zmeth 132 3 := ⟨(zw4 115 rfl rfl), by decide +kernel, ⟨by decide +kernel, by decide +kernel⟩, by decide +kernel⟩
theorem zme_133 : zmeth 133 1 := ⟨(zw4 121 rfl rfl), by decide +kernel, ⟨by decide +kernel, by decide +kernel⟩, by decide +kernel⟩
theorem zme_134 : zmeth 134 1 := ⟨(zw4 124 rfl rfl), by decide +kernel, ⟨by decide +kernel, by decide +kernel⟩, by decide +kernel⟩
theorem zme_135 : zmeth 135 1 := ⟨(zw4 127 rfl rfl), by decide +kernel, ⟨by decide +kernel, by decide +kernel⟩, by decide +kernel⟩
theorem zme_136 : zmeth 136 3 := ⟨(zw4 130 rfl rfl), by decide +kernel, ⟨by decide +kernel, by decide +kernel⟩, by decide +kernel⟩
theorem zme_137 : zmeth 137 2 := ⟨(zw4 133 rfl rfl), by decide +kernel, ⟨by decide +kernel, by decide +kernel⟩, by decide +kernel⟩
theorem zme_138 : zmeth 138 2 := ⟨(zw4 136 rfl rfl), by decide +kernel, ⟨by decide +kernel, by decide +kernel⟩, by decide +kernel⟩
theorem zme_139 : zmeth 139 3 := ⟨(zw4 139 rfl rfl), by decide +kernel, ⟨by decide +kernel, by decide +kernel⟩, by decide +kernel⟩
theorem zme_140 : zmeth 140 1 := ⟨(zw4 143 rfl rfl), by decide +kernel, ⟨by decide +kernel, by decide +kernel⟩, by decide +kernel⟩
theorem zme_141 : zmeth 141 1 := ⟨(zw4 146 rfl rfl), by decide +kernel, ⟨by decide +kernel, by decide +kernel⟩, by decide +kernel⟩
theorem zme_142 : zmeth 142 1 := ⟨(zw4 149 rfl rfl), by decide +kernel, ⟨by decide +kernel, by decide +kernel⟩, by decide +kernel⟩
theorem zme_143 : zmeth 143 3 := ⟨(zw4 152 rfl rfl), by decide +kernel, ⟨by decide +kernel, by decide +kernel⟩, by decide +kernel⟩
theorem zme_144 : zmeth 144 4 := ⟨(zw4 159 rfl rfl), by decide +kernel, ⟨by decide +kernel, by decide +kernel⟩, by decide +kernel⟩
theorem zme_145 : zmeth 145 3 := ⟨(zw4 162 rfl rfl), by decide +kernel, ⟨by decide +kernel, by decide +kernel⟩, by decide +kernel⟩
theorem zme_146 : zmeth 146 1 := ⟨(zw4 168 rfl rfl), by decide +kernel, ⟨by decide +kernel, by decide +kernel⟩, by decide +kernel⟩
theorem zme_148 : zmeth 148 1 := ⟨(zw4 177 rfl rfl), by decide +kernel, ⟨by decide +kernel, by decide +kernel⟩, by decide +kernel⟩
theorem zme_149 : zmeth 149 0 := ⟨(zw4 181 rfl rfl), by decide +kernel, ⟨by decide +kernel, by decide +kernel⟩, by decide +kernel⟩
theorem zme_150 : zmeth 150 0 := ⟨(zw4 184 rfl rfl), by decide +kernel, ⟨by decide +kernel, by decide +kernel⟩, by decide +kernel⟩
theorem zme_151 : zmeth 151 1 := ⟨(zw4 189 rfl rfl), by decide +kernel, ⟨by decide +kernel, by decide +kernel⟩, by decide +kernel⟩
theorem zme_152 : zmeth 152 1 := ⟨(zw4 192 rfl rfl), by decide +kernel, ⟨by decide +kernel, by decide +kernel⟩, by decide +kernel⟩
theorem zme_153 : zmeth 153 2 := ⟨(zw4 197 rfl rfl), by decide +kernel, ⟨by decide +kernel, by decide +kernel⟩, by decide +kernel⟩
theorem zme_154 : zmeth 154 2 := ⟨(zw4 201 rfl rfl), by decide +kernel, ⟨by decide +kernel, by decide +kernel⟩, by decide +kernel⟩
theorem zme_155 : zmeth 155 0 := ⟨(zw4 205 rfl rfl), by decide +kernel, ⟨by decide +kernel, by decide +kernel⟩, by decide +kernel⟩
theorem zme_156 : zmeth 156 1 := ⟨(zw4 210 rfl rfl), by decide +kernel, ⟨by decide +kernel, by decide +kernel⟩, by decide +kernel⟩
theorem zme_157 : zmeth 157 3 := ⟨(zw4 214 rfl rfl), by decide +kernel, ⟨by decide +kernel, by decide +kernel⟩, by decide +kernel⟩
theorem zme_158 : zmeth 158 2 := ⟨(zw4 221 rfl rfl), by decide +kernel, ⟨by decide +kernel, by decide +kernel⟩, by decide +kernel⟩
theorem zme_159 : zmeth 159 0 := ⟨(zw4 225 rfl rfl), by decide +kernel, ⟨by decide +kernel, by decide +kernel⟩, by decide +kernel⟩
theorem zme_160 : zmeth 160 1 := ⟨(zw4 231 rfl rfl), by decide +kernel, ⟨by decide +kernel, by decide +kernel⟩, by decide +kernel⟩
theorem zme_161 : zmeth 161 2 := ⟨(zw4 235 rfl rfl), by decide +kernel, ⟨by decide +kernel, by decide +kernel⟩, by decide +kernel⟩
theorem zme_162 : zmeth 162 3 := ⟨(zw5 1 rfl rfl), by decide +kernel, ⟨by decide +kernel, by decide +kernel⟩, by decide +kernel⟩
theorem zme_163 : zmeth 163 1 := ⟨(zw5 5 rfl rfl), by decide +kernel, ⟨by decide +kernel, by decide +kernel⟩, by decide +kernel⟩
theorem zme_164 : zmeth 164 1 := ⟨(zw5 12 rfl rfl), by decide +kernel, ⟨by decide +kernel, by decide +kernel⟩, by decide +kernel⟩
theorem zme_165 : zmeth 165 1 := ⟨(zw5 16 rfl rfl), by decide +kernel, ⟨by decide +kernel, by decide +kernel⟩, by decide +kernel⟩
theorem zme_166 : zmeth 166 1 := ⟨(zw5 20 rfl rfl), by decide +kernel, ⟨by decide +kernel, by decide +kernel⟩, by decide +kernel⟩
theorem zme_167 : zmeth 167 1 := ⟨(zw5 24 rfl rfl), by decide +kernel, ⟨by decide +kernel, by decide +kernel⟩, by decide +kernel⟩
theorem zme_168 : zmeth 168 2 := ⟨(zw5 28 rfl rfl), by decide +kernel, ⟨by decide +kernel, by decide +kernel⟩, by decide +kernel⟩
theorem zme_169 : zmeth 169 2 := ⟨(zw5 32 rfl rfl), by decide +kernel, ⟨by decide +kernel, by decide +kernel⟩, by decide +kernel⟩
theorem zme_170 : zmeth 170 2 := ⟨(zw5 36 rfl rfl), by decide +kernel, ⟨by decide +kernel, by decide +kernel⟩, by decide +kernel⟩
theorem zme_171 : zmeth 171 2 := ⟨(zw5 40 rfl rfl), by decide +kernel, ⟨by decide +kernel, by decide +kernel⟩, by decide +kernel⟩
theorem zme_172 : zmeth 172 2 := ⟨(zw5 46 rfl rfl), by decide +kernel, ⟨by decide +kernel, by decide +kernel⟩, by decide +kernel⟩
theorem zme_173 : zmeth 173 2 := ⟨(zw5 52 rfl rfl), by decide +kernel, ⟨by decide +kernel, by decide +kernel⟩, by decide +kernel⟩
theorem zme_174 : zmeth 174 2 := ⟨(zw5 57 rfl rfl), by decide +kernel, ⟨by decide +kernel, by decide +kernel⟩, by decide +kernel⟩
theorem zme_175 : zmeth 175 1 := ⟨(zw5 67 rfl rfl), by decide +kernel, ⟨by decide +kernel, by decide +kernel⟩, by decide +kernel⟩
theorem zme_176 : zmeth 176 0 := ⟨(zw5 71 rfl rfl), by decide +kernel, ⟨by decide +kernel, by decide +kernel⟩, by decide +kernel⟩
theorem zme_177 : zmeth 177 2 := ⟨(zw5 76 rfl rfl), by decide +kernel, ⟨by decide +kernel, by decide +kernel⟩, by decide +kernel⟩
theorem zme_178 : zmeth 178 1 := ⟨(zw5 80 rfl rfl), by decide +kernel, ⟨by decide +kernel, by decide +kernel⟩, by decide +kernel⟩
theorem zme_179 : zmeth 179 1 := ⟨(zw5 84 rfl rfl), by decide +kernel, ⟨by decide +kernel, by decide +kernel⟩, by decide +kernel⟩
theorem zme_180 : zmeth 180 1 := ⟨(zw5 88 rfl rfl), by decide +kernel, ⟨by decide +kernel, by decide +kernel⟩, by decide +kernel⟩
theorem zme_181 : zmeth 181 0 := ⟨(zw5 93 rfl rfl), by decide +kernel, ⟨by decide +kernel, by decide +kernel⟩, by decide +kernel⟩
theorem zme_182 : zmeth 182 0 := ⟨(zw5 97 rfl rfl), by decide +kernel, ⟨by decide +kernel, by decide +kernel⟩, by decide +kernel⟩
theorem zme_183 : zmeth 183 1 := ⟨(zw5 101 rfl rfl), by decide +kernel, ⟨by decide +kernel, by decide +kernel⟩, by decide +kernel⟩
theorem zme_184 : zmeth 184 1 := ⟨(zw5 105 rfl rfl), by decide +kernel, ⟨by decide +kernel, by decide +kernel⟩, by decide +kernel⟩
theorem zme_185 : zmeth 185 3 := ⟨(zw5 109 rfl rfl), by decide +kernel, ⟨by decide +kernel, by decide +kernel⟩, by decide +kernel⟩
theorem zme_186 : zmeth 186 2 := ⟨(zw5 113 rfl rfl), by decide +kernel, ⟨by decide +kernel, by decide +kernel⟩, by decide +kernel⟩
theorem zme_187 : zmeth 187 1 := ⟨(zw5 116 rfl rfl), by decide +kernel, ⟨by decide +kernel, by decide +kernel⟩, by decide +kernel⟩
theorem zme_188 : zmeth 188 3 := ⟨(zw5 132 rfl rfl), by decide +kernel, ⟨by decide +kernel, by decide +kernel⟩, by decide +kernel⟩
theorem zme_189 : zmeth 189 1 := ⟨(zw5 137 rfl rfl), by decide +kernel, ⟨by decide +kernel, by decide +kernel⟩, by decide +kernel⟩
theorem zme_190 : zmeth 190 0 := ⟨(zw5 141 rfl rfl), by decide +kernel, ⟨by decide +kernel, by decide +kernel⟩, by decide +kernel⟩
theorem zme_191 : zmeth 191 2 := ⟨(zw5 144 rfl rfl), by decide +kernel, ⟨by decide +kernel, by decide +kernel⟩, by decide +kernel⟩
theorem zme_192 : zmeth 192 2 := ⟨(zw5 148 rfl rfl), by decide +kernel, ⟨by decide +kernel, by decide +kernel⟩, by decide +kernel⟩
theorem zme_193 : zmeth 193 1 := ⟨(zw5 152 rfl rfl), by decide +kernel, ⟨by decide +kernel, by decide +kernel⟩, by decide +kernel⟩
theorem zme_194 : zmeth 194 2 := ⟨(zw5 158 rfl rfl), by decide +kernel, ⟨by decide +kernel, by decide +kernel⟩, by decide +kernel⟩
theorem zme_195 : zmeth 195 1 := ⟨(zw5 161 rfl rfl), by decide +kernel, ⟨by decide +kernel, by decide +kernel⟩, by decide +kernel⟩
theorem zme_196 : zmeth 196 1 := ⟨(zw5 164 rfl rfl), by decide +kernel, ⟨by decide +kernel, by decide +kernel⟩, by decide +kernel⟩
theorem zme_197 : zmeth 197 0 := ⟨(zw5 168 rfl rfl), by decide +kernel, ⟨by decide +kernel, by decide +kernel⟩, by decide +kernel⟩
theorem zme_198 : zmeth 198 1 := ⟨(zw5 172 rfl rfl), by decide +kernel, ⟨by decide +kernel, by decide +kernel⟩, by decide +kernel⟩
theorem zme_199 : zmeth 199 2 := ⟨(zw5 176 rfl rfl), by decide +kernel, ⟨by decide +kernel, by decide +kernel⟩, by decide +kernel⟩
theorem zme_200 : zmeth 200 1 := ⟨(zw5 180 rfl rfl), by decide +kernel, ⟨by decide +kernel, by decide +kernel⟩, by decide +kernel⟩
theorem zme_201 : zmeth 201 1 := ⟨(zw5 184 rfl rfl), by decide +kernel, ⟨by decide +kernel, by decide +kernel⟩, by decide +kernel⟩
theorem zme_202 : zmeth 202 1 := ⟨(zw5 188 rfl rfl), by decide +kernel, ⟨by decide +kernel, by decide +kernel⟩, by decide +kernel⟩
theorem zme_203 : zmeth 203 0 := ⟨(zw5 192 rfl rfl), by decide +kernel, ⟨by decide +kernel, by decide +kernel⟩, by decide +kernel⟩
theorem zme_204 : zmeth 204 0 := ⟨(zw5 197 rfl rfl), by decide +kernel, ⟨by decide +kernel, by decide +kernel⟩, by decide +kernel⟩
theorem zme_205 : zmeth 205 0 := ⟨(zw5 201 rfl rfl), by decide +kernel, ⟨by decide +kernel, by decide +kernel⟩, by decide +kernel⟩
theorem zme_206 : zmeth 206 1 := ⟨(zw5 205 rfl rfl), by decide +kernel, ⟨by decide +kernel, by decide +kernel⟩, by decide +kernel⟩
theorem zme_207 : zmeth 207 0 := ⟨(zw5 210 rfl rfl), by decide +kernel, ⟨by decide +kernel, by decide +kernel⟩, by decide +kernel⟩
theorem zme_208 : zmeth 208 2 := ⟨(zw5 216 rfl rfl), by decide +kernel, ⟨by decide +kernel, by decide +kernel⟩, by decide +kernel⟩
theorem zme_209 : zmeth 209 3 := ⟨(zw6 27 rfl rfl), by decide +kernel, ⟨by decide +kernel, by decide +kernel⟩, by decide +kernel⟩
theorem zme_210 : zmeth 210 1 := ⟨(zw6 30 rfl rfl), by decide +kernel, ⟨by decide +kernel, by decide +kernel⟩, by decide +kernel⟩
theorem zme_211 : zmeth 211 3 := ⟨(zw6 33 rfl rfl), by decide +kernel, ⟨by decide +kernel, by decide +kernel⟩, by decide +kernel⟩
theorem zme_212 : zmeth 212 1 := ⟨(zw6 36 rfl rfl), by decide +kernel, ⟨by decide +kernel, by decide +kernel⟩, by decide +kernel⟩
theorem zme_213 : zmeth 213 2 := ⟨(zw6 40 rfl rfl), by decide +kernel, ⟨by decide +kernel, by decide +kernel⟩, by decide +kernel⟩
theorem zme_214 : zmeth 214 0 := ⟨(zw6 44 rfl rfl), by decide +kernel, ⟨by decide +kernel, by decide +kernel⟩, by decide +kernel⟩
theorem zme_215 : zmeth 215 1 := ⟨(zw6 48 rfl rfl), by decide +kernel, ⟨by decide +kernel, by decide +kernel⟩, by decide +kernel⟩
theorem zme_216 : zmeth 216 3 := ⟨(zw6 54 rfl rfl), by decide +kernel, ⟨by decide +kernel, by decide +kernel⟩, by decide +kernel⟩
theorem zme_217 : zmeth 217 3 := ⟨(zw6 58 rfl rfl), by decide +kernel, ⟨by decide +kernel, by decide +kernel⟩, by decide +kernel⟩
theorem zme_218 : zmeth 218 2 := ⟨(zw6 62 rfl rfl), by decide +kernel, ⟨by decide +kernel, by decide +kernel⟩, by decide +kernel⟩
theorem zme_219 : zmeth 219 2 := ⟨(zw6 66 rfl rfl), by decide +kernel, ⟨by decide +kernel, by decide +kernel⟩, by decide +kernel⟩
theorem zme_220 : zmeth 220 2 := ⟨(zw6 70 rfl rfl), by decide +kernel, ⟨by decide +kernel, by decide +kernel⟩, by decide +kernel⟩
theorem zme_221 : zmeth 221 2 := ⟨(zw6 74 rfl rfl), by decide +kernel, ⟨by decide +kernel, by decide +kernel⟩, by decide +kernel⟩
theorem zme_222 : zmeth 222 2 := ⟨(zw6 79 rfl rfl), by decide +kernel, ⟨by decide +kernel, by decide +kernel⟩, by decide +kernel⟩
theorem zme_223 : zmeth 223 0 := ⟨(zw6 83 rfl rfl), by decide +kernel, ⟨by decide +kernel, by decide +kernel⟩, by decide +kernel⟩
theorem zme_224 : zmeth 224 3 := ⟨(zw6 87 rfl rfl), by decide +kernel, ⟨by decide +kernel, by decide +kernel⟩, by decide +kernel⟩
theorem zme_225 : zmeth 225 4 := ⟨(zw6 91 rfl rfl), by decide +kernel, ⟨by decide +kernel, by decide +kernel⟩, by decide +kernel⟩
theorem zme_226 : zmeth 226 2 := ⟨(zw6 95 rfl rfl), by decide +kernel, ⟨by decide +kernel, by decide +kernel⟩, by decide +kernel⟩
theorem zme_227 : zmeth 227 3 := ⟨(zw6 100 rfl rfl), by decide +kernel, ⟨by decide +kernel, by decide +kernel⟩, by decide +kernel⟩
theorem zme_228 : zmeth 228 2 := ⟨(zw6 104 rfl rfl), by decide +kernel, ⟨by decide +kernel, by decide +kernel⟩, by decide +kernel⟩
theorem zme_229 : zmeth 229 2 := ⟨(zw6 108 rfl rfl), by decide +kernel, ⟨by decide +kernel, by decide +kernel⟩, by decide +kernel⟩
theorem zme_230 : zmeth 230 3 := ⟨(zw6 112 rfl rfl), by decide +kernel, ⟨by decide +kernel, by decide +kernel⟩, by decide +kernel⟩
theorem zme_231 : zmeth 231 3 := ⟨(zw6 116 rfl rfl), by decide +kernel, ⟨by decide +kernel, by decide +kernel⟩, by decide +kernel⟩
theorem zme_232 : zmeth 232 0 := ⟨(zw6 120 rfl rfl), by decide +kernel, ⟨by decide +kernel, by decide +kernel⟩, by decide +kernel⟩
theorem zme_233 : zmeth 233 0 := ⟨(zw6 124 rfl rfl), by decide +kernel, ⟨by decide +kernel, by decide +kernel⟩, by decide +kernel⟩
theorem zme_234 : zmeth 234 0 := ⟨(zw6 128 rfl rfl), by decide +kernel, ⟨by decide +kernel, by decide +kernel⟩, by decide +kernel⟩
theorem zme_235 : zmeth 235 2 := ⟨(zw6 132 rfl rfl), by decide +kernel, ⟨by decide +kernel, by decide +kernel⟩, by decide +kernel⟩
theorem zme_236 : zmeth 236 2 := ⟨(zw6 136 rfl rfl), by decide +kernel, ⟨by decide +kernel, by decide +kernel⟩, by decide +kernel⟩
theorem zme_237 : zmeth 237 3 := ⟨(zw6 140 rfl rfl), by decide +kernel, ⟨by decide +kernel, by decide +kernel⟩, by decide +kernel⟩
theorem zme_238 : zmeth 238 2 := ⟨(zw6 144 rfl rfl), by decide +kernel, ⟨by decide +kernel, by decide +kernel⟩, by decide +kernel⟩
theorem zme_239 : zmeth 239 2 := ⟨(zw6 148 rfl rfl), by decide +kernel, ⟨by decide +kernel, by decide +kernel⟩, by decide +kernel⟩
theorem zme_240 : zmeth 240 2 := ⟨(zw6 152 rfl rfl), by decide +kernel, ⟨by decide +kernel, by decide +kernel⟩, by decide +kernel⟩
theorem zme_241 : zmeth 241 2 := ⟨(zw6 156 rfl rfl), by decide +kernel, ⟨by decide +kernel, by decide +kernel⟩, by decide +kernel⟩
theorem zme_242 : zmeth 242 1 := ⟨(zw6 162 rfl rfl), by decide +kernel, ⟨by decide +kernel, by decide +kernel⟩, by decide +kernel⟩
theorem zme_243 : zmeth 243 6 := ⟨(zw6 167 rfl rfl), by decide +kernel, ⟨by decide +kernel, by decide +kernel⟩, by decide +kernel⟩
theorem zme_244 : zmeth 244 3 := ⟨(zw6 170 rfl rfl), by decide +kernel, ⟨by decide +kernel, by decide +kernel⟩, by decide +kernel⟩
theorem zme_245 : zmeth 245 3 := ⟨(zw6 174 rfl rfl), by decide +kernel, ⟨by decide +kernel, by decide +kernel⟩, by decide +kernel⟩
theorem zme_246 : zmeth 246 2 := ⟨(zw6 178 rfl rfl), by decide +kernel, ⟨by decide +kernel, by decide +kernel⟩, by decide +kernel⟩
theorem zme_247 : zmeth 247 2 := ⟨(zw6 182 rfl rfl), by decide +kernel, ⟨by decide +kernel, by decide +kernel⟩, by decide +kernel⟩
theorem zme_248 : zmeth 248 2 := ⟨(zw6 186 rfl rfl), by decide +kernel, ⟨by decide +kernel, by decide +kernel⟩, by decide +kernel⟩
theorem zme_249 : zmeth 249 3 := ⟨(zw6 190 rfl rfl), by decide +kernel, ⟨by decide +kernel, by decide +kernel⟩, by decide +kernel⟩
theorem zme_250 : zmeth 250 0 := ⟨(zw6 194 rfl rfl), by decide +kernel, ⟨by decide +kernel, by decide +kernel⟩, by decide +kernel⟩
theorem zme_251 : zmeth 251 0 := ⟨(zw6 198 rfl rfl), by decide +kernel, ⟨by decide +kernel, by decide +kernel⟩, by decide +kernel⟩
theorem zme_252 : zmeth 252 3 := ⟨(zw6 202 rfl rfl), by decide +kernel, ⟨by decide +kernel, by decide +kernel⟩, by decide +kernel⟩
theorem zme_253 : zmeth 253 2 := ⟨(zw6 206 rfl rfl), by decide +kernel, ⟨by decide +kernel, by decide +kernel⟩, by decide +kernel⟩
theorem zme_254 : zmeth 254 3 := ⟨(zw6 210 rfl rfl), by decide +kernel, ⟨by decide +kernel, by decide +kernel⟩, by decide +kernel⟩
theorem zme_255 : zmeth 255 2 := ⟨(zw6 214 rfl rfl), by decide +kernel, ⟨by decide +kernel, by decide +kernel⟩, by decide +kernel⟩
theorem zme_256 : zmeth 256 3 := ⟨(zw6 219 rfl rfl), by decide +kernel, ⟨by decide +kernel, by decide +kernel⟩, by decide +kernel⟩
theorem zme_257 : zmeth 257 3 := ⟨(zw6 223 rfl rfl), by decide +kernel, ⟨by decide +kernel, by decide +kernel⟩, by decide +kernel⟩
theorem zme_258 : zmeth 258 2 := ⟨(zw6 227 rfl rfl), by decide +kernel, ⟨by decide +kernel, by decide +kernel⟩, by decide +kernel⟩
theorem zme_259 : zmeth 259 1 := ⟨(zw6 231 rfl rfl), by decide +kernel, ⟨by decide +kernel, by decide +kernel⟩, by decide +kernel⟩
theorem zme_260 : zmeth 260 1 := ⟨(zw6 236 rfl rfl), by decide +kernel, ⟨by decide +kernel, by decide +kernel⟩, by decide +kernel⟩
theorem zme_261 : zmeth 261 2 := ⟨(zw7 0 rfl rfl), by decide +kernel, ⟨by decide +kernel, by decide +kernel⟩, by decide +kernel⟩
theorem zme_262 : zmeth 262 4 := ⟨(zw7 4 rfl rfl), by decide +kernel, ⟨by decide +kernel, by decide +kernel⟩, by decide +kernel⟩
theorem zme_263 : zmeth 263 3 := ⟨(zw7 8 rfl rfl), by decide +kernel, ⟨by decide +kernel, by decide +kernel⟩, by decide +kernel⟩
theorem zme_264 : zmeth 264 3 := ⟨(zw7 12 rfl rfl), by decide +kernel, ⟨by decide +kernel, by decide +kernel⟩, by decide +kernel⟩
theorem zme_265 : zmeth 265 3 := ⟨(zw7 16 rfl rfl), by decide +kernel, ⟨by decide +kernel, by decide +kernel⟩, by decide +kernel⟩
theorem zme_266 : zmeth 266 4 := ⟨(zw7 20 rfl rfl), by decide +kernel, ⟨by decide +kernel, by decide +kernel⟩, by decide +kernel⟩
theorem zme_267 : zmeth 267 1 := ⟨(zw7 24 rfl rfl), by decide +kernel, ⟨by decide +kernel, by decide +kernel⟩, by decide +kernel⟩
theorem zme_268 : zmeth 268 1 := ⟨(zw7 38 rfl rfl), by decide +kernel, ⟨by decide +kernel, by decide +kernel⟩, by decide +kernel⟩
theorem zme_269 : zmeth 269 1 := ⟨(zw7 42 rfl rfl), by decide +kernel, ⟨by decide +kernel, by decide +kernel⟩, by decide +kernel⟩
theorem zme_270 : zmeth 270 1 := ⟨(zw7 49 rfl rfl), by decide +kernel, ⟨by decide +kernel, by decide +kernel⟩, by decide +kernel⟩
theorem zme_271 : zmeth 271 2 := ⟨(zw7 53 rfl rfl), by decide +kernel, ⟨by decide +kernel, by decide +kernel⟩, by decide +kernel⟩
theorem zme_272 : zmeth 272 2 := ⟨(zw7 57 rfl rfl), by decide +kernel, ⟨by decide +kernel, by decide +kernel⟩, by decide +kernel⟩
theorem zme_273 : zmeth 273 1 := ⟨(zw7 61 rfl rfl), by decide +kernel, ⟨by decide +kernel, by decide +kernel⟩, by decide +kernel⟩
theorem zme_274 : zmeth 274 2 := ⟨(zw7 66 rfl rfl), by decide +kernel, ⟨by decide +kernel, by decide +kernel⟩, by decide +kernel⟩
theorem zme_275 : zmeth 275 0 := ⟨(zw7 70 rfl rfl), by decide +kernel, ⟨by decide +kernel, by decide +kernel⟩, by decide +kernel⟩
theorem zme_276 : zmeth 276 0 := ⟨(zw7 74 rfl rfl), by decide +kernel, ⟨by decide +kernel, by decide +kernel⟩, by decide +kernel⟩
theorem zme_277 : zmeth 277 1 := ⟨(zw7 78 rfl rfl), by decide +kernel, ⟨by decide +kernel, by decide +kernel⟩, by decide +kernel⟩
theorem zme_278 : zmeth 278 2 := ⟨(zw7 82 rfl rfl), by decide +kernel, ⟨by decide +kernel, by decide +kernel⟩, by decide +kernel⟩
theorem zme_279 : zmeth 279 1 := ⟨(zw7 86 rfl rfl), by decide +kernel, ⟨by decide +kernel, by decide +kernel⟩, by decide +kernel⟩
theorem zme_280 : zmeth 280 1 := ⟨(zw7 90 rfl rfl), by decide +kernel, ⟨by decide +kernel, by decide +kernel⟩, by decide +kernel⟩
theorem zme_281 : zmeth 281 2 := ⟨(zw7 94 rfl rfl), by decide +kernel, ⟨by decide +kernel, by decide +kernel⟩, by decide +kernel⟩
theorem zme_282 : zmeth 282 2 := ⟨(zw7 98 rfl rfl), by decide +kernel, ⟨by decide +kernel, by decide +kernel⟩, by decide +kernel⟩
theorem zme_283 : zmeth 283 3 := ⟨(zw7 102 rfl rfl), by decide +kernel, ⟨by decide +kernel, by decide +kernel⟩, by decide +kernel⟩
theorem zme_284 : zmeth 284 2 := ⟨(zw7 106 rfl rfl), by decide +kernel, ⟨by decide +kernel, by decide +kernel⟩, by decide +kernel⟩
theorem zme_285 : zmeth 285 2 := ⟨(zw7 110 rfl rfl), by decide +kernel, ⟨by decide +kernel, by decide +kernel⟩, by decide +kernel⟩
theorem zme_286 : zmeth 286 2 := ⟨(zw7 114 rfl rfl), by decide +kernel, ⟨by decide +kernel, by decide +kernel⟩, by decide +kernel⟩
theorem zme_287 : zmeth 287 1 := ⟨(zw7 118 rfl rfl), by decide +kernel, ⟨by decide +kernel, by decide +kernel⟩, by decide +kernel⟩
theorem zme_288 : zmeth 288 2 := ⟨(zw7 122 rfl rfl), by decide +kernel, ⟨by decide +kernel, by decide +kernel⟩, by decide +kernel⟩
theorem zme_289 : zmeth 289 1 := ⟨(zw7 127 rfl rfl), by decide +kernel, ⟨by decide +kernel, by decide +kernel⟩, by decide +kernel⟩
theorem zme_290 : zmeth 290 0 := ⟨(zw7 131 rfl rfl), by decide +kernel, ⟨by decide +kernel, by decide +kernel⟩, by decide +kernel⟩
theorem zme_291 : zmeth 291 1 := ⟨(zw7 135 rfl rfl), by decide +kernel, ⟨by decide +kernel, by decide +kernel⟩, by decide +kernel⟩
theorem zme_292 : zmeth 292 0 := ⟨(zw7 139 rfl rfl), by decide +kernel, ⟨by decide +kernel, by decide +kernel⟩, by decide +kernel⟩
theorem zme_293 : zmeth 293 1 := ⟨(zw7 143 rfl rfl), by decide +kernel, ⟨by decide +kernel, by decide +kernel⟩, by decide +kernel⟩
theorem zme_294 : zmeth 294 2 := ⟨(zw7 161 rfl rfl), by decide +kernel, ⟨by decide +kernel, by decide +kernel⟩, by decide +kernel⟩
theorem zme_295 : zmeth 295 1 := ⟨(zw7 165 rfl rfl), by decide +kernel, ⟨by decide +kernel, by decide +kernel⟩, by decide +kernel⟩
theorem zme_296 : zmeth 296 1 := ⟨(zw7 169 rfl rfl), by decide +kernel, ⟨by decide +kernel, by decide +kernel⟩, by decide +kernel⟩
theorem zme_297 : zmeth 297 0 := ⟨(zw7 185 rfl rfl), by decide +kernel, ⟨by decide +kernel, by decide +kernel⟩, by decide +kernel⟩
theorem zme_298 : zmeth 298 0 := ⟨(zw7 189 rfl rfl), by decide +kernel, ⟨by decide +kernel, by decide +kernel⟩, by decide +kernel⟩
theorem zme_299 : zmeth 299 0 := ⟨(zw7 193 rfl rfl), by decide +kernel, ⟨by decide +kernel, by decide +kernel⟩, by decide +kernel⟩
theorem zst_ok0 : zAll zsP zst_0 := ⟨⟨(zw1 29 rfl rfl), (zw1 30 rfl rfl), (zw1 31 rfl rfl), by decide +kernel, by decide +kernel⟩,
  ⟨⟨(zw1 34 rfl rfl), (zw1 35 rfl rfl), (zw1 2 rfl rfl)⟩, zme_2, ⟨by decide +kernel, by decide +kernel⟩, by decide +kernel, by decide +kernel⟩,
  ⟨⟨(zw1 169 rfl rfl), (zw1 170 rfl rfl), (zw1 6 rfl rfl)⟩, zme_6, ⟨by decide +kernel, by decide +kernel⟩, by decide +kernel, by decide +kernel⟩,
  ⟨⟨⟨0, _, rfl⟩, (zw1 189 rfl rfl), (zw1 7 rfl rfl)⟩, zme_7, ⟨by decide +kernel, by decide +kernel⟩, by decide +kernel, by decide +kernel⟩,
  ⟨⟨⟨1, _, rfl⟩, (zw1 216 rfl rfl), (zw1 8 rfl rfl)⟩, zme_8, ⟨by decide +kernel, by decide +kernel⟩, by decide +kernel, by decide +kernel⟩,
  ⟨⟨⟨2, _, rfl⟩, (zw1 227 rfl rfl), (zw1 9 rfl rfl)⟩, zme_9, ⟨by decide +kernel, by decide +kernel⟩, by decide +kernel, by decide +kernel⟩,
  ⟨⟨⟨3, _, rfl⟩, (zw2 33 rfl rfl), (zw1 11 rfl rfl)⟩, zme_11, ⟨by decide +kernel, by decide +kernel⟩, by decide +kernel, by decide +kernel⟩,
  ⟨(zw1 37 rfl rfl), (zw1 30 rfl rfl), (zw1 31 rfl rfl), by decide +kernel, by decide +kernel⟩,
  ⟨⟨⟨4, _, rfl⟩, (zw1 43 rfl rfl), (zw1 3 rfl rfl)⟩, zme_3, ⟨by decide +kernel, by decide +kernel⟩, by decide +kernel, by decide +kernel⟩,
  ⟨⟨(zw1 70 rfl rfl), (zw1 71 rfl rfl), (zw1 4 rfl rfl)⟩, zme_4, ⟨by decide +kernel, by decide +kernel⟩, by decide +kernel, by decide +kernel⟩,
  ⟨(zw1 45 rfl rfl), (zw1 30 rfl rfl), (zw1 31 rfl rfl), by decide +kernel, by decide +kernel⟩,
  ⟨(zw1 73 rfl rfl), (zw1 30 rfl rfl), (zw1 31 rfl rfl), by decide +kernel, by decide +kernel⟩,
  ⟨⟨⟨19, _, rfl⟩, (zw1 79 rfl rfl), (zw1 5 rfl rfl)⟩, zme_5, ⟨by decide +kernel, by decide +kernel⟩, by decide +kernel, by decide +kernel⟩,
  ⟨(zw1 81 rfl rfl), (zw1 30 rfl rfl), (zw1 31 rfl rfl), by decide +kernel, by decide +kernel⟩,
  ⟨(zw1 172 rfl rfl), (zw1 30 rfl rfl), (zw1 31 rfl rfl), by decide +kernel, by decide +kernel⟩,
  ⟨⟨(zw1 175 rfl rfl), (zw1 35 rfl rfl), (zw1 2 rfl rfl)⟩, zme_2, ⟨by decide +kernel, by decide +kernel⟩, by decide +kernel, by decide +kernel⟩,
  ⟨(zw1 191 rfl rfl), (zw1 30 rfl rfl), (zw1 31 rfl rfl), by decide +kernel, by decide +kernel⟩,
  ⟨(zw1 218 rfl rfl), (zw1 30 rfl rfl), (zw1 31 rfl rfl), by decide +kernel, by decide +kernel⟩,
  ⟨(zw1 229 rfl rfl), (zw1 30 rfl rfl), (zw1 31 rfl rfl), by decide +kernel, by decide +kernel⟩,
  ⟨⟨⟨15, _, rfl⟩, (zw1 216 rfl rfl), (zw1 8 rfl rfl)⟩, zme_8, ⟨by decide +kernel, by decide +kernel⟩, by decide +kernel, by decide +kernel⟩,
  ⟨⟨(zw1 233 rfl rfl), (zw1 71 rfl rfl), (zw1 4 rfl rfl)⟩, zme_4, ⟨by decide +kernel, by decide +kernel⟩, by decide +kernel, by decide +kernel⟩,
  ⟨⟨⟨16, _, rfl⟩, (zw1 237 rfl rfl), (zw1 10 rfl rfl)⟩, zme_10, ⟨by decide +kernel, by decide +kernel⟩, by decide +kernel, by decide +kernel⟩,
  ⟨(zw1 239 rfl rfl), (zw1 30 rfl rfl), (zw1 31 rfl rfl), by decide +kernel, by decide +kernel⟩,
  ⟨(zw2 35 rfl rfl), (zw1 30 rfl rfl), (zw1 31 rfl rfl), by decide +kernel, by decide +kernel⟩,
  ⟨⟨(zw2 38 rfl rfl), (zw2 39 rfl rfl), (zw1 13 rfl rfl)⟩, zme_12, ⟨by decide +kernel, by decide +kernel⟩, by decide +kernel, by decide +kernel⟩,
  ⟨⟨(zw2 41 rfl rfl), (zw2 42 rfl rfl), (zw1 12 rfl rfl)⟩, zme_13, ⟨by decide +kernel, by decide +kernel⟩, by decide +kernel, by decide +kernel⟩,
  ⟨(zw2 44 rfl rfl), (zw1 30 rfl rfl), (zw1 31 rfl rfl), by decide +kernel, by decide +kernel⟩,
  ⟨⟨(zw2 47 rfl rfl), (zw2 48 rfl rfl), (zw1 15 rfl rfl)⟩, zme_14, ⟨by decide +kernel, by decide +kernel⟩⟩,
  ⟨⟨(zw2 50 rfl rfl), (zw2 51 rfl rfl), (zw1 15 rfl rfl)⟩, zme_15, ⟨by decide +kernel, by decide +kernel⟩⟩,
  ⟨⟨(zw2 104 rfl rfl), (zw2 105 rfl rfl), (zw2 106 rfl rfl), (zw1 6 rfl rfl)⟩, zme_17, ⟨by decide +kernel, by decide +kernel⟩, by decide +kernel, by decide +kernel⟩,
  ⟨⟨(zw2 129 rfl rfl), (zw2 130 rfl rfl), (zw2 131 rfl rfl), (zw1 2 rfl rfl)⟩, zme_22, ⟨by decide +kernel, by decide +kernel⟩, by decide +kernel, by decide +kernel⟩,
  ⟨⟨(zw2 143 rfl rfl), (zw2 145 rfl rfl), (zwp1 0 rfl), (zw1 1 rfl rfl)⟩, zme_26, ⟨by decide +kernel, by decide +kernel⟩, by decide +kernel, by decide +kernel⟩,
  ⟨⟨(zw2 108 rfl rfl), (zw2 109 rfl rfl), (zw2 110 rfl rfl), (zw1 2 rfl rfl)⟩, zme_18, ⟨by decide +kernel, by decide +kernel⟩, by decide +kernel, by decide +kernel⟩,
  ⟨⟨(zw2 112 rfl rfl), (zw2 113 rfl rfl), (zw2 114 rfl rfl), (zw1 4 rfl rfl)⟩, zme_19, ⟨by decide +kernel, by decide +kernel⟩, by decide +kernel, by decide +kernel⟩,
  ⟨⟨(zw2 124 rfl rfl), (zw2 125 rfl rfl), (zw2 126 rfl rfl), (zw1 3 rfl rfl)⟩, zme_21, ⟨by decide +kernel, by decide +kernel⟩, by decide +kernel, by decide +kernel⟩,
  ⟨(zw2 116 rfl rfl), (zw2 118 rfl rfl), (zw2 117 rfl rfl), (zw1 17 rfl rfl), by decide +kernel, by decide +kernel⟩,
  ⟨⟨(zw2 119 rfl rfl), (zw2 120 rfl rfl), (zw2 121 rfl rfl), (zw1 5 rfl rfl)⟩, zme_20, ⟨by decide +kernel, by decide +kernel⟩, by decide +kernel, by decide +kernel⟩,
  ⟨(zw2 123 rfl rfl), (zw2 118 rfl rfl), (zw2 117 rfl rfl), (zw1 17 rfl rfl), by decide +kernel, by decide +kernel⟩,
  ⟨(zw2 128 rfl rfl), (zw2 118 rfl rfl), (zw2 117 rfl rfl), (zw1 17 rfl rfl), by decide +kernel, by decide +kernel⟩,
  ⟨⟨⟨5, _, rfl⟩, (zw2 134 rfl rfl), (zw1 1 rfl rfl)⟩, zme_23, ⟨by decide +kernel, by decide +kernel⟩⟩,
  ⟨⟨⟨6, _, rfl⟩, (zw2 140 rfl rfl), (zw1 1 rfl rfl)⟩, zme_25, ⟨by decide +kernel, by decide +kernel⟩⟩,
  ⟨⟨⟨7, _, rfl⟩, (zw2 137 rfl rfl), (zw1 1 rfl rfl)⟩, zme_24, ⟨by decide +kernel, by decide +kernel⟩⟩,
  ⟨⟨(zw2 136 rfl rfl), (zw2 137 rfl rfl), (zw1 1 rfl rfl)⟩, zme_24, ⟨by decide +kernel, by decide +kernel⟩⟩,
  ⟨⟨(zw2 136 rfl rfl), (zw2 137 rfl rfl), (zw1 1 rfl rfl)⟩, zme_24, ⟨by decide +kernel, by decide +kernel⟩⟩,
  ⟨⟨(zw2 147 rfl rfl), (zw2 148 rfl rfl), (zw2 149 rfl rfl), (zw1 6 rfl rfl)⟩, zme_27, ⟨by decide +kernel, by decide +kernel⟩, by decide +kernel, by decide +kernel⟩,
  ⟨⟨_, _, _, _, rfl, (zw2 151 rfl rfl), (zw2 152 rfl rfl), (zw2 153 rfl rfl)⟩, (zw1 18 rfl rfl), by decide +kernel, by decide +kernel⟩,
  ⟨⟨(zw2 104 rfl rfl), (zw2 105 rfl rfl), (zw2 106 rfl rfl), (zw1 6 rfl rfl)⟩, zme_17, ⟨by decide +kernel, by decide +kernel⟩, by decide +kernel, by decide +kernel⟩,
  ⟨⟨(zw2 143 rfl rfl), (zw2 145 rfl rfl), (zwp1 0 rfl), (zw1 1 rfl rfl)⟩, zme_26, ⟨by decide +kernel, by decide +kernel⟩, by decide +kernel, by decide +kernel⟩,
  ⟨⟨(zw2 158 rfl rfl), (zw2 159 rfl rfl), (zw2 160 rfl rfl), (zw1 2 rfl rfl)⟩, zme_30, ⟨by decide +kernel, by decide +kernel⟩, by decide +kernel, by decide +kernel⟩,
  ⟨⟨⟨5, _, rfl⟩, (zw2 134 rfl rfl), (zw1 1 rfl rfl)⟩, zme_23, ⟨by decide +kernel, by decide +kernel⟩⟩,
  ⟨⟨⟨6, _, rfl⟩, (zw2 140 rfl rfl), (zw1 1 rfl rfl)⟩, zme_25, ⟨by decide +kernel, by decide +kernel⟩⟩,
  ⟨⟨⟨7, _, rfl⟩, (zw2 137 rfl rfl), (zw1 1 rfl rfl)⟩, zme_24, ⟨by decide +kernel, by decide +kernel⟩⟩,
  ⟨⟨(zw2 104 rfl rfl), (zw2 105 rfl rfl), (zw2 106 rfl rfl), (zw1 6 rfl rfl)⟩, zme_17, ⟨by decide +kernel, by decide +kernel⟩, by decide +kernel, by decide +kernel⟩,
  ⟨⟨(zw2 143 rfl rfl), (zw2 145 rfl rfl), (zwp1 0 rfl), (zw1 1 rfl rfl)⟩, zme_26, ⟨by decide +kernel, by decide +kernel⟩, by decide +kernel, by decide +kernel⟩,
  ⟨⟨(zw2 166 rfl rfl), (zw2 167 rfl rfl), (zw2 168 rfl rfl), (zw1 2 rfl rfl)⟩, zme_32, ⟨by decide +kernel, by decide +kernel⟩, by decide +kernel, by decide +kernel⟩,
  ⟨⟨⟨5, _, rfl⟩, (zw2 134 rfl rfl), (zw1 1 rfl rfl)⟩, zme_23, ⟨by decide +kernel, by decide +kernel⟩⟩,
  ⟨⟨⟨6, _, rfl⟩, (zw2 140 rfl rfl), (zw1 1 rfl rfl)⟩, zme_25, ⟨by decide +kernel, by decide +kernel⟩⟩,
  ⟨⟨⟨7, _, rfl⟩, (zw2 137 rfl rfl), (zw1 1 rfl rfl)⟩, zme_24, ⟨by decide +kernel, by decide +kernel⟩⟩,
  ⟨⟨(zw2 104 rfl rfl), (zw2 105 rfl rfl), (zw2 106 rfl rfl), (zw1 6 rfl rfl)⟩, zme_17, ⟨by decide +kernel, by decide +kernel⟩, by decide +kernel, by decide +kernel⟩,
  ⟨⟨(zw2 143 rfl rfl), (zw2 145 rfl rfl), (zwp1 0 rfl), (zw1 1 rfl rfl)⟩, zme_26, ⟨by decide +kernel, by decide +kernel⟩, by decide +kernel, by decide +kernel⟩,
  ⟨⟨(zw2 174 rfl rfl), (zw2 175 rfl rfl), (zw2 176 rfl rfl), (zw1 2 rfl rfl)⟩, zme_34, ⟨by decide +kernel, by decide +kernel⟩, by decide +kernel, by decide +kernel⟩,
  ⟨⟨⟨5, _, rfl⟩, (zw2 134 rfl rfl), (zw1 1 rfl rfl)⟩, zme_23, ⟨by decide +kernel, by decide +kernel⟩⟩,
  ⟨⟨⟨7, _, rfl⟩, (zw2 137 rfl rfl), (zw1 1 rfl rfl)⟩, zme_24, ⟨by decide +kernel, by decide +kernel⟩⟩,
  ⟨⟨(zw2 104 rfl rfl), (zw2 105 rfl rfl), (zw2 106 rfl rfl), (zw1 6 rfl rfl)⟩, zme_17, ⟨by decide +kernel, by decide +kernel⟩, by decide +kernel, by decide +kernel⟩,
  ⟨⟨(zw2 143 rfl rfl), (zw2 145 rfl rfl), (zwp1 0 rfl), (zw1 1 rfl rfl)⟩, zme_26, ⟨by decide +kernel, by decide +kernel⟩, by decide +kernel, by decide +kernel⟩,
  ⟨⟨(zw2 182 rfl rfl), (zw2 183 rfl rfl), (zw2 184 rfl rfl), (zw1 2 rfl rfl)⟩, zme_36, ⟨by decide +kernel, by decide +kernel⟩, by decide +kernel, by decide +kernel⟩,
  ⟨⟨⟨7, _, rfl⟩, (zw2 137 rfl rfl), (zw1 1 rfl rfl)⟩, zme_24, ⟨by decide +kernel, by decide +kernel⟩⟩,
  ⟨⟨(zw2 104 rfl rfl), (zw2 105 rfl rfl), (zw2 106 rfl rfl), (zw1 6 rfl rfl)⟩, zme_17, ⟨by decide +kernel, by decide +kernel⟩, by decide +kernel, by decide +kernel⟩,
  ⟨⟨(zw2 143 rfl rfl), (zw2 145 rfl rfl), (zwp1 0 rfl), (zw1 1 rfl rfl)⟩, zme_26, ⟨by decide +kernel, by decide +kernel⟩, by decide +kernel, by decide +kernel⟩,
  ⟨⟨(zw2 190 rfl rfl), (zw2 191 rfl rfl), (zw2 192 rfl rfl), (zw1 2 rfl rfl)⟩, zme_38, ⟨by decide +kernel, by decide +kernel⟩, by decide +kernel, by decide +kernel⟩,
  ⟨⟨⟨7, _, rfl⟩, (zw2 137 rfl rfl), (zw1 1 rfl rfl)⟩, zme_24, ⟨by decide +kernel, by decide +kernel⟩⟩,
  ⟨⟨(zw2 104 rfl rfl), (zw2 105 rfl rfl), (zw2 106 rfl rfl), (zw1 6 rfl rfl)⟩, zme_17, ⟨by decide +kernel, by decide +kernel⟩, by decide +kernel, by decide +kernel⟩,
  ⟨⟨(zw2 143 rfl rfl), (zw2 145 rfl rfl), (zwp1 0 rfl), (zw1 1 rfl rfl)⟩, zme_26, ⟨by decide +kernel, by decide +kernel⟩, by decide +kernel, by decide +kernel⟩,
  ⟨⟨(zw2 199 rfl rfl), (zw2 200 rfl rfl), (zw2 201 rfl rfl), (zw1 2 rfl rfl)⟩, zme_40, ⟨by decide +kernel, by decide +kernel⟩, by decide +kernel, by decide +kernel⟩,
  ⟨⟨⟨7, _, rfl⟩, (zw2 137 rfl rfl), (zw1 1 rfl rfl)⟩, zme_24, ⟨by decide +kernel, by decide +kernel⟩⟩,
  ⟨⟨(zw2 203 rfl rfl), (zw2 204 rfl rfl), (zw2 205 rfl rfl), (zw1 3 rfl rfl)⟩, zme_41, ⟨by decide +kernel, by decide +kernel⟩, by decide +kernel, by decide +kernel⟩,
  ⟨⟨⟨12, _, rfl⟩, (zw2 137 rfl rfl), (zw1 1 rfl rfl)⟩, zme_24, ⟨by decide +kernel, by decide +kernel⟩⟩,
  ⟨⟨(zw2 104 rfl rfl), (zw2 105 rfl rfl), (zw2 106 rfl rfl), (zw1 6 rfl rfl)⟩, zme_17, ⟨by decide +kernel, by decide +kernel⟩, by decide +kernel, by decide +kernel⟩,
  ⟨⟨(zw2 143 rfl rfl), (zw2 145 rfl rfl), (zwp1 0 rfl), (zw1 1 rfl rfl)⟩, zme_26, ⟨by decide +kernel, by decide +kernel⟩, by decide +kernel, by decide +kernel⟩,
  ⟨⟨(zw2 212 rfl rfl), (zw2 213 rfl rfl), (zw2 214 rfl rfl), (zw1 2 rfl rfl)⟩, zme_43, ⟨by decide +kernel, by decide +kernel⟩, by decide +kernel, by decide +kernel⟩,
  ⟨⟨(zw2 104 rfl rfl), (zw2 105 rfl rfl), (zw2 106 rfl rfl), (zw1 6 rfl rfl)⟩, zme_17, ⟨by decide +kernel, by decide +kernel⟩, by decide +kernel, by decide +kernel⟩,
  ⟨⟨(zw2 143 rfl rfl), (zw2 145 rfl rfl), (zwp1 0 rfl), (zw1 1 rfl rfl)⟩, zme_26, ⟨by decide +kernel, by decide +kernel⟩, by decide +kernel, by decide +kernel⟩,
  ⟨⟨(zw2 220 rfl rfl), (zw2 221 rfl rfl), (zw2 222 rfl rfl), (zw1 2 rfl rfl)⟩, zme_45, ⟨by decide +kernel, by decide +kernel⟩, by decide +kernel, by decide +kernel⟩,
  ⟨⟨⟨5, _, rfl⟩, (zw2 134 rfl rfl), (zw1 1 rfl rfl)⟩, zme_23, ⟨by decide +kernel, by decide +kernel⟩⟩,
  ⟨⟨⟨7, _, rfl⟩, (zw2 137 rfl rfl), (zw1 1 rfl rfl)⟩, zme_24, ⟨by decide +kernel, by decide +kernel⟩⟩,
  ⟨⟨(zw2 224 rfl rfl), (zw2 225 rfl rfl), (zw2 226 rfl rfl), (zw1 5 rfl rfl)⟩, zme_46, ⟨by decide +kernel, by decide +kernel⟩, by decide +kernel, by decide +kernel⟩,
  ⟨⟨(zw2 104 rfl rfl), (zw2 105 rfl rfl), (zw2 106 rfl rfl), (zw1 6 rfl rfl)⟩, zme_17, ⟨by decide +kernel, by decide +kernel⟩, by decide +kernel, by decide +kernel⟩,
  ⟨⟨(zw2 143 rfl rfl), (zw2 145 rfl rfl), (zwp1 0 rfl), (zw1 1 rfl rfl)⟩, zme_26, ⟨by decide +kernel, by decide +kernel⟩, by decide +kernel, by decide +kernel⟩,
  ⟨⟨(zw2 233 rfl rfl), (zw2 234 rfl rfl), (zw2 235 rfl rfl), (zw1 2 rfl rfl)⟩, zme_48, ⟨by decide +kernel, by decide +kernel⟩, by decide +kernel, by decide +kernel⟩,
  ⟨⟨⟨5, _, rfl⟩, (zw2 134 rfl rfl), (zw1 1 rfl rfl)⟩, zme_23, ⟨by decide +kernel, by decide +kernel⟩⟩,
  ⟨⟨⟨7, _, rfl⟩, (zw2 137 rfl rfl), (zw1 1 rfl rfl)⟩, zme_24, ⟨by decide +kernel, by decide +kernel⟩⟩,
  ⟨⟨(zw2 224 rfl rfl), (zw2 225 rfl rfl), (zw2 226 rfl rfl), (zw1 5 rfl rfl)⟩, zme_46, ⟨by decide +kernel, by decide +kernel⟩, by decide +kernel, by decide +kernel⟩,
  ⟨⟨(zw2 104 rfl rfl), (zw2 105 rfl rfl), (zw2 106 rfl rfl), (zw1 6 rfl rfl)⟩, zme_17, ⟨by decide +kernel, by decide +kernel⟩, by decide +kernel, by decide +kernel⟩,
  ⟨⟨(zw2 143 rfl rfl), (zw2 145 rfl rfl), (zwp1 0 rfl), (zw1 1 rfl rfl)⟩, zme_26, ⟨by decide +kernel, by decide +kernel⟩, by decide +kernel, by decide +kernel⟩,
  ⟨⟨(zw3 1 rfl rfl), (zw3 2 rfl rfl), (zw3 3 rfl rfl), (zw1 2 rfl rfl)⟩, zme_50, ⟨by decide +kernel, by decide +kernel⟩, by decide +kernel, by decide +kernel⟩,
  ⟨⟨⟨5, _, rfl⟩, (zw2 134 rfl rfl), (zw1 1 rfl rfl)⟩, zme_23, ⟨by decide +kernel, by decide +kernel⟩⟩,
  ⟨⟨(zw3 5 rfl rfl), (zw3 6 rfl rfl), (zw3 7 rfl rfl), (zw1 5 rfl rfl)⟩, zme_51, ⟨by decide +kernel, by decide +kernel⟩, by decide +kernel, by decide +kernel⟩,
  ⟨⟨(zw3 10 rfl rfl), (zw3 11 rfl rfl), (zw3 12 rfl rfl), (zw1 5 rfl rfl)⟩, zme_52, ⟨by decide +kernel, by decide +kernel⟩, by decide +kernel, by decide +kernel⟩,
  ⟨⟨⟨11, _, rfl⟩, (zw2 137 rfl rfl), (zw1 1 rfl rfl)⟩, zme_24, ⟨by decide +kernel, by decide +kernel⟩⟩,
  ⟨⟨(zw3 14 rfl rfl), (zw3 15 rfl rfl), (zw3 16 rfl rfl), (zw1 5 rfl rfl)⟩, zme_53, ⟨by decide +kernel, by decide +kernel⟩, by decide +kernel, by decide +kernel⟩, trivial⟩
theorem zst_ok1 : zAll zsP zst_1 := ⟨⟨⟨(zw3 18 rfl rfl), (zw3 20 rfl rfl), (zwp1 1 rfl), (zw1 5 rfl rfl)⟩, zme_54, ⟨by decide +kernel, by decide +kernel⟩, by decide +kernel, by decide +kernel⟩,
  ⟨⟨(zw3 22 rfl rfl), (zw3 6 rfl rfl), (zw3 7 rfl rfl), (zw1 5 rfl rfl)⟩, zme_51, ⟨by decide +kernel, by decide +kernel⟩, by decide +kernel, by decide +kernel⟩,
  ⟨⟨(zw2 104 rfl rfl), (zw2 105 rfl rfl), (zw2 106 rfl rfl), (zw1 6 rfl rfl)⟩, zme_17, ⟨by decide +kernel, by decide +kernel⟩, by decide +kernel, by decide +kernel⟩,
  ⟨⟨(zw2 143 rfl rfl), (zw2 145 rfl rfl), (zwp1 0 rfl), (zw1 1 rfl rfl)⟩, zme_26, ⟨by decide +kernel, by decide +kernel⟩, by decide +kernel, by decide +kernel⟩,
  ⟨⟨(zw3 27 rfl rfl), (zw3 28 rfl rfl), (zw3 29 rfl rfl), (zw1 2 rfl rfl)⟩, zme_56, ⟨by decide +kernel, by decide +kernel⟩, by decide +kernel, by decide +kernel⟩,
  ⟨⟨⟨5, _, rfl⟩, (zw2 134 rfl rfl), (zw1 1 rfl rfl)⟩, zme_23, ⟨by decide +kernel, by decide +kernel⟩⟩,
  ⟨⟨(zw3 5 rfl rfl), (zw3 6 rfl rfl), (zw3 7 rfl rfl), (zw1 5 rfl rfl)⟩, zme_51, ⟨by decide +kernel, by decide +kernel⟩, by decide +kernel, by decide +kernel⟩,
  ⟨⟨(zw3 31 rfl rfl), (zw3 15 rfl rfl), (zw3 16 rfl rfl), (zw1 5 rfl rfl)⟩, zme_53, ⟨by decide +kernel, by decide +kernel⟩, by decide +kernel, by decide +kernel⟩,
  ⟨⟨(zw2 104 rfl rfl), (zw2 105 rfl rfl), (zw2 106 rfl rfl), (zw1 6 rfl rfl)⟩, zme_17, ⟨by decide +kernel, by decide +kernel⟩, by decide +kernel, by decide +kernel⟩,
  ⟨⟨(zw2 143 rfl rfl), (zw2 145 rfl rfl), (zwp1 0 rfl), (zw1 1 rfl rfl)⟩, zme_26, ⟨by decide +kernel, by decide +kernel⟩, by decide +kernel, by decide +kernel⟩,
  ⟨⟨(zw3 36 rfl rfl), (zw3 37 rfl rfl), (zw3 38 rfl rfl), (zw1 2 rfl rfl)⟩, zme_58, ⟨by decide +kernel, by decide +kernel⟩, by decide +kernel, by decide +kernel⟩,
  ⟨⟨⟨6, _, rfl⟩, (zw2 140 rfl rfl), (zw1 1 rfl rfl)⟩, zme_25, ⟨by decide +kernel, by decide +kernel⟩⟩,
  ⟨⟨⟨8, _, rfl⟩, (zw1 237 rfl rfl), (zw1 10 rfl rfl)⟩, zme_10, ⟨by decide +kernel, by decide +kernel⟩, by decide +kernel, by decide +kernel⟩,
  ⟨⟨(zw3 42 rfl rfl), (zw3 43 rfl rfl), (zw3 44 rfl rfl), (zw1 8 rfl rfl)⟩, zme_59, ⟨by decide +kernel, by decide +kernel⟩, by decide +kernel, by decide +kernel⟩,
  ⟨⟨⟨9, _, rfl⟩, (zw2 140 rfl rfl), (zw1 1 rfl rfl)⟩, zme_25, ⟨by decide +kernel, by decide +kernel⟩⟩,
  ⟨⟨(zw3 47 rfl rfl), (zw3 48 rfl rfl), (zw3 49 rfl rfl), (zw1 3 rfl rfl)⟩, zme_60, ⟨by decide +kernel, by decide +kernel⟩, by decide +kernel, by decide +kernel⟩,
  ⟨⟨(zw3 72 rfl rfl), (zw3 74 rfl rfl), (zwp1 4 rfl), (zw1 8 rfl rfl)⟩, zme_66, ⟨by decide +kernel, by decide +kernel⟩, by decide +kernel, by decide +kernel⟩,
  ⟨⟨(zw3 83 rfl rfl), (zw3 85 rfl rfl), (zwp1 5 rfl), (zw1 8 rfl rfl)⟩, zme_69, ⟨by decide +kernel, by decide +kernel⟩, by decide +kernel, by decide +kernel⟩,
  ⟨⟨(zw3 91 rfl rfl), (zw3 92 rfl rfl), (zw3 93 rfl rfl), (zw1 4 rfl rfl)⟩, zme_71, ⟨by decide +kernel, by decide +kernel⟩, by decide +kernel, by decide +kernel⟩,
  ⟨⟨(zw3 79 rfl rfl), (zw3 80 rfl rfl), (zw3 81 rfl rfl), (zw1 10 rfl rfl)⟩, zme_68, ⟨by decide +kernel, by decide +kernel⟩, by decide +kernel, by decide +kernel⟩,
  ⟨⟨_, _, _, _, rfl, (zw3 96 rfl rfl), (zw3 97 rfl rfl), (zw3 98 rfl rfl)⟩, (zw1 18 rfl rfl), by decide +kernel, by decide +kernel⟩,
  ⟨⟨_, _, _, _, rfl, (zw3 99 rfl rfl), (zw3 100 rfl rfl), (zw3 101 rfl rfl)⟩, (zw1 18 rfl rfl), by decide +kernel, by decide +kernel⟩,
  ⟨⟨(zw3 102 rfl rfl), (zw3 104 rfl rfl), (zwp1 6 rfl), (zw1 8 rfl rfl)⟩, zme_74, ⟨by decide +kernel, by decide +kernel⟩, by decide +kernel, by decide +kernel⟩,
  ⟨⟨(zw3 51 rfl rfl), (zw3 52 rfl rfl), (zw3 53 rfl rfl), (zw1 4 rfl rfl)⟩, zme_61, ⟨by decide +kernel, by decide +kernel⟩, by decide +kernel, by decide +kernel⟩,
  ⟨⟨(zw3 58 rfl rfl), (zw3 59 rfl rfl), (zw3 60 rfl rfl), (zw1 3 rfl rfl)⟩, zme_63, ⟨by decide +kernel, by decide +kernel⟩, by decide +kernel, by decide +kernel⟩,
  ⟨⟨⟨20, _, rfl⟩, (zw3 56 rfl rfl), (zw1 1 rfl rfl)⟩, zme_62, ⟨by decide +kernel, by decide +kernel⟩⟩,
  ⟨⟨(zw3 63 rfl rfl), (zw3 65 rfl rfl), (zwp1 2 rfl), (zw1 3 rfl rfl)⟩, zme_64, ⟨by decide +kernel, by decide +kernel⟩, by decide +kernel, by decide +kernel⟩,
  ⟨⟨(zw3 68 rfl rfl), (zw3 70 rfl rfl), (zwp1 3 rfl), (zw1 3 rfl rfl)⟩, zme_65, ⟨by decide +kernel, by decide +kernel⟩, by decide +kernel, by decide +kernel⟩,
  ⟨⟨(zw3 79 rfl rfl), (zw3 80 rfl rfl), (zw3 81 rfl rfl), (zw1 10 rfl rfl)⟩, zme_68, ⟨by decide +kernel, by decide +kernel⟩, by decide +kernel, by decide +kernel⟩,
  ⟨⟨(zw3 76 rfl rfl), (zw3 77 rfl rfl), (zw1 8 rfl rfl)⟩, zme_67, ⟨by decide +kernel, by decide +kernel⟩⟩,
  ⟨⟨(zw3 79 rfl rfl), (zw3 80 rfl rfl), (zw3 81 rfl rfl), (zw1 10 rfl rfl)⟩, zme_68, ⟨by decide +kernel, by decide +kernel⟩, by decide +kernel, by decide +kernel⟩,
  ⟨⟨(zw3 76 rfl rfl), (zw3 77 rfl rfl), (zw1 8 rfl rfl)⟩, zme_67, ⟨by decide +kernel, by decide +kernel⟩⟩,
  ⟨⟨(zw3 87 rfl rfl), (zw3 88 rfl rfl), (zw3 89 rfl rfl), (zw1 4 rfl rfl)⟩, zme_70, ⟨by decide +kernel, by decide +kernel⟩, by decide +kernel, by decide +kernel⟩,
  ⟨⟨(zw3 79 rfl rfl), (zw3 80 rfl rfl), (zw3 81 rfl rfl), (zw1 10 rfl rfl)⟩, zme_68, ⟨by decide +kernel, by decide +kernel⟩, by decide +kernel, by decide +kernel⟩,
  ⟨⟨_, _, _, _, rfl, (zw3 96 rfl rfl), (zw3 97 rfl rfl), (zw3 98 rfl rfl)⟩, (zw1 18 rfl rfl), by decide +kernel, by decide +kernel⟩,
  ⟨⟨(zw3 106 rfl rfl), (zw3 107 rfl rfl), (zw3 108 rfl rfl), (zw1 5 rfl rfl)⟩, zme_75, ⟨by decide +kernel, by decide +kernel⟩, by decide +kernel, by decide +kernel⟩,
  ⟨⟨(zw3 112 rfl rfl), (zw3 113 rfl rfl), (zw1 8 rfl rfl)⟩, zme_76, ⟨by decide +kernel, by decide +kernel⟩⟩,
  ⟨⟨_, _, _, _, rfl, (zw3 111 rfl rfl), (zw3 97 rfl rfl), (zw3 98 rfl rfl)⟩, (zw1 18 rfl rfl), by decide +kernel, by decide +kernel⟩,
  ⟨⟨(zw2 104 rfl rfl), (zw2 105 rfl rfl), (zw2 106 rfl rfl), (zw1 6 rfl rfl)⟩, zme_17, ⟨by decide +kernel, by decide +kernel⟩, by decide +kernel, by decide +kernel⟩,
  ⟨⟨(zw2 143 rfl rfl), (zw2 145 rfl rfl), (zwp1 0 rfl), (zw1 1 rfl rfl)⟩, zme_26, ⟨by decide +kernel, by decide +kernel⟩, by decide +kernel, by decide +kernel⟩,
  ⟨⟨(zw3 119 rfl rfl), (zw3 120 rfl rfl), (zw3 121 rfl rfl), (zw1 2 rfl rfl)⟩, zme_78, ⟨by decide +kernel, by decide +kernel⟩, by decide +kernel, by decide +kernel⟩,
  ⟨⟨(zw3 123 rfl rfl), (zw3 124 rfl rfl), (zw3 125 rfl rfl), (zw1 4 rfl rfl)⟩, zme_79, ⟨by decide +kernel, by decide +kernel⟩, by decide +kernel, by decide +kernel⟩,
  ⟨⟨(zw3 127 rfl rfl), (zw3 128 rfl rfl), (zw3 129 rfl rfl), (zw1 5 rfl rfl)⟩, zme_80, ⟨by decide +kernel, by decide +kernel⟩, by decide +kernel, by decide +kernel⟩,
  ⟨⟨(zw3 18 rfl rfl), (zw3 20 rfl rfl), (zwp1 1 rfl), (zw1 5 rfl rfl)⟩, zme_54, ⟨by decide +kernel, by decide +kernel⟩, by decide +kernel, by decide +kernel⟩,
  ⟨⟨(zw3 139 rfl rfl), (zw2 134 rfl rfl), (zw1 1 rfl rfl)⟩, zme_23, ⟨by decide +kernel, by decide +kernel⟩⟩,
  ⟨⟨(zw3 140 rfl rfl), (zw2 140 rfl rfl), (zw1 1 rfl rfl)⟩, zme_25, ⟨by decide +kernel, by decide +kernel⟩⟩,
  ⟨⟨(zw2 136 rfl rfl), (zw2 137 rfl rfl), (zw1 1 rfl rfl)⟩, zme_24, ⟨by decide +kernel, by decide +kernel⟩⟩,
  ⟨⟨(zw3 139 rfl rfl), (zw2 134 rfl rfl), (zw1 1 rfl rfl)⟩, zme_23, ⟨by decide +kernel, by decide +kernel⟩⟩,
  ⟨⟨(zw3 145 rfl rfl), (zw3 146 rfl rfl), (zw3 147 rfl rfl), (zw1 3 rfl rfl)⟩, zme_84, ⟨by decide +kernel, by decide +kernel⟩, by decide +kernel, by decide +kernel⟩,
  ⟨⟨⟨12, _, rfl⟩, (zw2 137 rfl rfl), (zw1 1 rfl rfl)⟩, zme_24, ⟨by decide +kernel, by decide +kernel⟩⟩,
  ⟨⟨(zw3 139 rfl rfl), (zw2 134 rfl rfl), (zw1 1 rfl rfl)⟩, zme_23, ⟨by decide +kernel, by decide +kernel⟩⟩,
  ⟨⟨(zw3 153 rfl rfl), (zw3 6 rfl rfl), (zw3 7 rfl rfl), (zw1 5 rfl rfl)⟩, zme_51, ⟨by decide +kernel, by decide +kernel⟩, by decide +kernel, by decide +kernel⟩,
  ⟨⟨(zw3 139 rfl rfl), (zw2 134 rfl rfl), (zw1 1 rfl rfl)⟩, zme_23, ⟨by decide +kernel, by decide +kernel⟩⟩,
  ⟨⟨(zw3 153 rfl rfl), (zw3 6 rfl rfl), (zw3 7 rfl rfl), (zw1 5 rfl rfl)⟩, zme_51, ⟨by decide +kernel, by decide +kernel⟩, by decide +kernel, by decide +kernel⟩,
  ⟨⟨(zw3 139 rfl rfl), (zw2 134 rfl rfl), (zw1 1 rfl rfl)⟩, zme_23, ⟨by decide +kernel, by decide +kernel⟩⟩,
  ⟨⟨(zw3 140 rfl rfl), (zw2 140 rfl rfl), (zw1 1 rfl rfl)⟩, zme_25, ⟨by decide +kernel, by decide +kernel⟩⟩,
  ⟨⟨(zw2 136 rfl rfl), (zw2 137 rfl rfl), (zw1 1 rfl rfl)⟩, zme_24, ⟨by decide +kernel, by decide +kernel⟩⟩,
  ⟨⟨(zw3 163 rfl rfl), (zw3 48 rfl rfl), (zw3 49 rfl rfl), (zw1 3 rfl rfl)⟩, zme_60, ⟨by decide +kernel, by decide +kernel⟩, by decide +kernel, by decide +kernel⟩,
  ⟨⟨(zw3 139 rfl rfl), (zw2 134 rfl rfl), (zw1 1 rfl rfl)⟩, zme_23, ⟨by decide +kernel, by decide +kernel⟩⟩,
  ⟨⟨(zw3 140 rfl rfl), (zw2 140 rfl rfl), (zw1 1 rfl rfl)⟩, zme_25, ⟨by decide +kernel, by decide +kernel⟩⟩,
  ⟨⟨(zw2 136 rfl rfl), (zw2 137 rfl rfl), (zw1 1 rfl rfl)⟩, zme_24, ⟨by decide +kernel, by decide +kernel⟩⟩,
  ⟨⟨(zw3 139 rfl rfl), (zw2 134 rfl rfl), (zw1 1 rfl rfl)⟩, zme_23, ⟨by decide +kernel, by decide +kernel⟩⟩,
  ⟨⟨(zw3 163 rfl rfl), (zw3 48 rfl rfl), (zw3 49 rfl rfl), (zw1 3 rfl rfl)⟩, zme_60, ⟨by decide +kernel, by decide +kernel⟩, by decide +kernel, by decide +kernel⟩,
  ⟨⟨(zw3 139 rfl rfl), (zw2 134 rfl rfl), (zw1 1 rfl rfl)⟩, zme_23, ⟨by decide +kernel, by decide +kernel⟩⟩,
  ⟨⟨(zw3 139 rfl rfl), (zw2 134 rfl rfl), (zw1 1 rfl rfl)⟩, zme_23, ⟨by decide +kernel, by decide +kernel⟩⟩,
  ⟨⟨(zw3 140 rfl rfl), (zw2 140 rfl rfl), (zw1 1 rfl rfl)⟩, zme_25, ⟨by decide +kernel, by decide +kernel⟩⟩,
  ⟨⟨(zw3 139 rfl rfl), (zw2 134 rfl rfl), (zw1 1 rfl rfl)⟩, zme_23, ⟨by decide +kernel, by decide +kernel⟩⟩,
  ⟨⟨(zw3 140 rfl rfl), (zw2 140 rfl rfl), (zw1 1 rfl rfl)⟩, zme_25, ⟨by decide +kernel, by decide +kernel⟩⟩,
  ⟨⟨(zw2 136 rfl rfl), (zw2 137 rfl rfl), (zw1 1 rfl rfl)⟩, zme_24, ⟨by decide +kernel, by decide +kernel⟩⟩,
  ⟨⟨(zw3 186 rfl rfl), (zw3 187 rfl rfl), (zw3 188 rfl rfl), (zw1 10 rfl rfl)⟩, zme_93, ⟨by decide +kernel, by decide +kernel⟩, by decide +kernel, by decide +kernel⟩,
  ⟨⟨⟨13, _, rfl⟩, (zw2 137 rfl rfl), (zw1 1 rfl rfl)⟩, zme_24, ⟨by decide +kernel, by decide +kernel⟩⟩,
  ⟨⟨(zw3 139 rfl rfl), (zw2 134 rfl rfl), (zw1 1 rfl rfl)⟩, zme_23, ⟨by decide +kernel, by decide +kernel⟩⟩,
  ⟨⟨(zw3 140 rfl rfl), (zw2 140 rfl rfl), (zw1 1 rfl rfl)⟩, zme_25, ⟨by decide +kernel, by decide +kernel⟩⟩,
  ⟨⟨(zw3 186 rfl rfl), (zw3 187 rfl rfl), (zw3 188 rfl rfl), (zw1 10 rfl rfl)⟩, zme_93, ⟨by decide +kernel, by decide +kernel⟩, by decide +kernel, by decide +kernel⟩,
  ⟨⟨(zw3 139 rfl rfl), (zw2 134 rfl rfl), (zw1 1 rfl rfl)⟩, zme_23, ⟨by decide +kernel, by decide +kernel⟩⟩,
  ⟨⟨(zw3 140 rfl rfl), (zw2 140 rfl rfl), (zw1 1 rfl rfl)⟩, zme_25, ⟨by decide +kernel, by decide +kernel⟩⟩,
  ⟨⟨(zw3 199 rfl rfl), (zw3 200 rfl rfl), (zw3 201 rfl rfl), (zw1 11 rfl rfl)⟩, zme_96, ⟨by decide +kernel, by decide +kernel⟩, by decide +kernel, by decide +kernel⟩,
  ⟨⟨(zw4 174 rfl rfl), (zw4 175 rfl rfl), (zw4 176 rfl rfl), (zw1 11 rfl rfl)⟩, zme_148, ⟨by decide +kernel, by decide +kernel⟩, by decide +kernel, by decide +kernel⟩,
  ⟨⟨(zw3 203 rfl rfl), (zw3 204 rfl rfl), (zw3 205 rfl rfl), (zw1 11 rfl rfl)⟩, zme_97, ⟨by decide +kernel, by decide +kernel⟩, by decide +kernel, by decide +kernel⟩,
  ⟨⟨(zw4 23 rfl rfl), (zw4 24 rfl rfl), (zw4 25 rfl rfl), (zw1 11 rfl rfl)⟩, zme_111, ⟨by decide +kernel, by decide +kernel⟩, by decide +kernel, by decide +kernel⟩,
  ⟨⟨(zw3 207 rfl rfl), (zw3 208 rfl rfl), (zw3 209 rfl rfl), (zw1 13 rfl rfl)⟩, zme_98, ⟨by decide +kernel, by decide +kernel⟩, by decide +kernel, by decide +kernel⟩,
  ⟨⟨(zw3 211 rfl rfl), (zw7 194 rfl rfl), (zw2 66 rfl rfl), (zw3 212 rfl rfl), (zw1 12 rfl rfl)⟩, zme_99, ⟨by decide +kernel, by decide +kernel⟩, by decide +kernel, by decide +kernel⟩,
  ⟨⟨(zw4 5 rfl rfl), (zw4 7 rfl rfl), (zw4 8 rfl rfl), (zw4 6 rfl rfl), (zw1 12 rfl rfl)⟩, zme_106, ⟨by decide +kernel, by decide +kernel⟩, by decide +kernel⟩,
  ⟨⟨(zw3 214 rfl rfl), (zw7 195 rfl rfl), (zwb 0 rfl), (zw3 216 rfl rfl), (zw1 12 rfl rfl)⟩, zme_100, ⟨by decide +kernel, by decide +kernel⟩, by decide +kernel⟩,
  ⟨⟨(zw4 10 rfl rfl), (zw4 11 rfl rfl), (zw1 21 rfl rfl)⟩, zme_107, ⟨by decide +kernel, by decide +kernel⟩⟩,
  ⟨⟨(zw4 19 rfl rfl), (zw4 20 rfl rfl), (zw1 15 rfl rfl)⟩, zme_110, ⟨by decide +kernel, by decide +kernel⟩⟩,
  ⟨⟨(zw3 218 rfl rfl), (zw7 196 rfl rfl), (zwb 1 rfl), (zw3 220 rfl rfl), (zw1 12 rfl rfl)⟩, zme_101, ⟨by decide +kernel, by decide +kernel⟩, by decide +kernel⟩,
  ⟨⟨(zw3 233 rfl rfl), (zw3 234 rfl rfl), (zw1 20 rfl rfl)⟩, zme_105, ⟨by decide +kernel, by decide +kernel⟩⟩,
  ⟨⟨(zw3 222 rfl rfl), (zw3 223 rfl rfl), (zw1 19 rfl rfl)⟩, zme_102, ⟨by decide +kernel, by decide +kernel⟩⟩,
  ⟨⟨_, _, _, _, rfl, (zw3 225 rfl rfl), (zw3 226 rfl rfl), (zw3 227 rfl rfl)⟩, (zw1 18 rfl rfl), by decide +kernel, by decide +kernel⟩,
  ⟨⟨(zw3 229 rfl rfl), (zw3 230 rfl rfl), (zw1 19 rfl rfl)⟩, zme_104, ⟨by decide +kernel, by decide +kernel⟩⟩,
  ⟨(zw4 4 rfl rfl), (zw2 118 rfl rfl), (zw2 117 rfl rfl), (zw1 17 rfl rfl), by decide +kernel, by decide +kernel⟩,
  ⟨⟨_, _, _, _, rfl, (zw4 3 rfl rfl), (zw2 152 rfl rfl), (zw2 153 rfl rfl)⟩, (zw1 18 rfl rfl), by decide +kernel, by decide +kernel⟩,
  ⟨⟨(zw4 13 rfl rfl), (zw4 14 rfl rfl), (zw1 20 rfl rfl)⟩, zme_108, ⟨by decide +kernel, by decide +kernel⟩⟩,
  ⟨⟨(zw4 16 rfl rfl), (zw4 17 rfl rfl), (zw1 20 rfl rfl)⟩, zme_109, ⟨by decide +kernel, by decide +kernel⟩⟩,
  ⟨⟨(zw4 22 rfl rfl), (zw4 14 rfl rfl), (zw1 20 rfl rfl)⟩, zme_108, ⟨by decide +kernel, by decide +kernel⟩⟩,
  ⟨⟨(zw4 27 rfl rfl), (zw4 28 rfl rfl), (zw1 11 rfl rfl)⟩, zme_112, ⟨by decide +kernel, by decide +kernel⟩⟩,
  ⟨⟨(zw4 38 rfl rfl), (zw4 39 rfl rfl), (zw4 40 rfl rfl), (zw1 13 rfl rfl)⟩, zme_113, ⟨by decide +kernel, by decide +kernel⟩, by decide +kernel, by decide +kernel⟩,
  ⟨⟨(zw4 118 rfl rfl), (zw4 119 rfl rfl), (zw4 120 rfl rfl), (zw1 13 rfl rfl)⟩, zme_133, ⟨by decide +kernel, by decide +kernel⟩, by decide +kernel, by decide +kernel⟩,
  ⟨⟨(zw4 140 rfl rfl), (zw4 141 rfl rfl), (zw4 142 rfl rfl), (zw1 13 rfl rfl)⟩, zme_140, ⟨by decide +kernel, by decide +kernel⟩, by decide +kernel, by decide +kernel⟩, trivial⟩
theorem zst_ok2 : zAll zsP zst_2 := ⟨⟨⟨(zw4 165 rfl rfl), (zw4 167 rfl rfl), (zwp1 7 rfl), (zw1 11 rfl rfl)⟩, zme_146, ⟨by decide +kernel, by decide +kernel⟩, by decide +kernel, by decide +kernel⟩,
  ⟨⟨(zw4 42 rfl rfl), (zw7 197 rfl rfl), (zw2 66 rfl rfl), (zw4 43 rfl rfl), (zw1 12 rfl rfl)⟩, zme_114, ⟨by decide +kernel, by decide +kernel⟩, by decide +kernel, by decide +kernel⟩,
  ⟨⟨(zw4 75 rfl rfl), (zw4 76 rfl rfl), (zw4 77 rfl rfl), (zw1 14 rfl rfl)⟩, zme_122, ⟨by decide +kernel, by decide +kernel⟩, by decide +kernel, by decide +kernel⟩,
  ⟨⟨(zw3 214 rfl rfl), (zw7 195 rfl rfl), (zwb 0 rfl), (zw3 216 rfl rfl), (zw1 12 rfl rfl)⟩, zme_100, ⟨by decide +kernel, by decide +kernel⟩, by decide +kernel⟩,
  ⟨⟨(zw4 45 rfl rfl), (zw7 198 rfl rfl), (zwb 2 rfl), (zw4 47 rfl rfl), (zw1 12 rfl rfl)⟩, zme_115, ⟨by decide +kernel, by decide +kernel⟩, by decide +kernel⟩,
  ⟨⟨(zw4 84 rfl rfl), (zw7 199 rfl rfl), (zwb 3 rfl), (zw4 86 rfl rfl), (zw1 12 rfl rfl)⟩, zme_124, ⟨by decide +kernel, by decide +kernel⟩, by decide +kernel⟩,
  ⟨⟨(zw4 5 rfl rfl), (zw4 7 rfl rfl), (zw4 8 rfl rfl), (zw4 6 rfl rfl), (zw1 12 rfl rfl)⟩, zme_106, ⟨by decide +kernel, by decide +kernel⟩, by decide +kernel⟩,
  ⟨⟨(zw3 214 rfl rfl), (zw7 195 rfl rfl), (zwb 0 rfl), (zw3 216 rfl rfl), (zw1 12 rfl rfl)⟩, zme_100, ⟨by decide +kernel, by decide +kernel⟩, by decide +kernel⟩,
  ⟨⟨(zw4 49 rfl rfl), (zw4 50 rfl rfl), (zw1 15 rfl rfl)⟩, zme_116, ⟨by decide +kernel, by decide +kernel⟩⟩,
  ⟨⟨(zw4 52 rfl rfl), (zw4 53 rfl rfl), (zw1 15 rfl rfl)⟩, zme_117, ⟨by decide +kernel, by decide +kernel⟩⟩,
  ⟨⟨(zw4 66 rfl rfl), (zw4 67 rfl rfl), (zw1 15 rfl rfl)⟩, zme_121, ⟨by decide +kernel, by decide +kernel⟩⟩,
  ⟨⟨(zw4 55 rfl rfl), (zw4 56 rfl rfl), (zw1 15 rfl rfl)⟩, zme_118, ⟨by decide +kernel, by decide +kernel⟩⟩,
  ⟨⟨(zw4 58 rfl rfl), (zw4 59 rfl rfl), (zw1 14 rfl rfl)⟩, zme_119, ⟨by decide +kernel, by decide +kernel⟩⟩,
  ⟨⟨(zw4 63 rfl rfl), (zw4 64 rfl rfl), (zw1 22 rfl rfl)⟩, zme_120, ⟨by decide +kernel, by decide +kernel⟩⟩,
  ⟨⟨(zw4 55 rfl rfl), (zw4 56 rfl rfl), (zw1 15 rfl rfl)⟩, zme_118, ⟨by decide +kernel, by decide +kernel⟩⟩,
  ⟨⟨(zw4 79 rfl rfl), (zw4 80 rfl rfl), (zw4 81 rfl rfl), (zw1 14 rfl rfl)⟩, zme_123, ⟨by decide +kernel, by decide +kernel⟩, by decide +kernel, by decide +kernel⟩,
  ⟨⟨(zw4 88 rfl rfl), (zw7 200 rfl rfl), (zwb 4 rfl), (zw4 90 rfl rfl), (zw1 12 rfl rfl)⟩, zme_125, ⟨by decide +kernel, by decide +kernel⟩, by decide +kernel⟩,
  ⟨⟨(zw4 112 rfl rfl), (zw4 113 rfl rfl), (zw4 114 rfl rfl), (zw1 14 rfl rfl)⟩, zme_132, ⟨by decide +kernel, by decide +kernel⟩, by decide +kernel, by decide +kernel⟩,
  ⟨⟨(zw4 92 rfl rfl), (zw4 80 rfl rfl), (zw4 81 rfl rfl), (zw1 14 rfl rfl)⟩, zme_123, ⟨by decide +kernel, by decide +kernel⟩, by decide +kernel, by decide +kernel⟩,
  ⟨⟨(zw4 93 rfl rfl), (zw7 201 rfl rfl), (zwb 5 rfl), (zw4 95 rfl rfl), (zw1 12 rfl rfl)⟩, zme_126, ⟨by decide +kernel, by decide +kernel⟩, by decide +kernel⟩,
  ⟨⟨(zw2 47 rfl rfl), (zw2 48 rfl rfl), (zw1 15 rfl rfl)⟩, zme_14, ⟨by decide +kernel, by decide +kernel⟩⟩,
  ⟨⟨(zw4 5 rfl rfl), (zw4 7 rfl rfl), (zw4 8 rfl rfl), (zw4 6 rfl rfl), (zw1 12 rfl rfl)⟩, zme_106, ⟨by decide +kernel, by decide +kernel⟩, by decide +kernel⟩,
  ⟨⟨(zw4 97 rfl rfl), (zw4 98 rfl rfl), (zw1 21 rfl rfl)⟩, zme_127, ⟨by decide +kernel, by decide +kernel⟩⟩,
  ⟨⟨(zw4 100 rfl rfl), (zw4 101 rfl rfl), (zw1 15 rfl rfl)⟩, zme_128, ⟨by decide +kernel, by decide +kernel⟩⟩,
  ⟨⟨(zw4 66 rfl rfl), (zw4 67 rfl rfl), (zw1 15 rfl rfl)⟩, zme_121, ⟨by decide +kernel, by decide +kernel⟩⟩,
  ⟨⟨(zw4 103 rfl rfl), (zw4 104 rfl rfl), (zw1 15 rfl rfl)⟩, zme_129, ⟨by decide +kernel, by decide +kernel⟩⟩,
  ⟨⟨(zw4 55 rfl rfl), (zw4 56 rfl rfl), (zw1 15 rfl rfl)⟩, zme_118, ⟨by decide +kernel, by decide +kernel⟩⟩,
  ⟨⟨(zw4 106 rfl rfl), (zw4 107 rfl rfl), (zw1 14 rfl rfl)⟩, zme_130, ⟨by decide +kernel, by decide +kernel⟩⟩,
  ⟨⟨(zw4 109 rfl rfl), (zw4 110 rfl rfl), (zw1 22 rfl rfl)⟩, zme_131, ⟨by decide +kernel, by decide +kernel⟩⟩,
  ⟨⟨(zw4 117 rfl rfl), (zw4 98 rfl rfl), (zw1 21 rfl rfl)⟩, zme_127, ⟨by decide +kernel, by decide +kernel⟩⟩,
  ⟨(zw4 116 rfl rfl), (zw2 118 rfl rfl), (zw2 117 rfl rfl), (zw1 17 rfl rfl), by decide +kernel, by decide +kernel⟩,
  ⟨⟨(zw4 79 rfl rfl), (zw4 80 rfl rfl), (zw4 81 rfl rfl), (zw1 14 rfl rfl)⟩, zme_123, ⟨by decide +kernel, by decide +kernel⟩, by decide +kernel, by decide +kernel⟩,
  ⟨⟨(zw4 122 rfl rfl), (zw7 202 rfl rfl), (zw2 66 rfl rfl), (zw4 123 rfl rfl), (zw1 12 rfl rfl)⟩, zme_134, ⟨by decide +kernel, by decide +kernel⟩, by decide +kernel, by decide +kernel⟩,
  ⟨⟨(zw4 5 rfl rfl), (zw4 7 rfl rfl), (zw4 8 rfl rfl), (zw4 6 rfl rfl), (zw1 12 rfl rfl)⟩, zme_106, ⟨by decide +kernel, by decide +kernel⟩, by decide +kernel⟩,
  ⟨⟨(zw3 214 rfl rfl), (zw7 195 rfl rfl), (zwb 0 rfl), (zw3 216 rfl rfl), (zw1 12 rfl rfl)⟩, zme_100, ⟨by decide +kernel, by decide +kernel⟩, by decide +kernel⟩,
  ⟨⟨(zw4 125 rfl rfl), (zw4 126 rfl rfl), (zw1 21 rfl rfl)⟩, zme_135, ⟨by decide +kernel, by decide +kernel⟩⟩,
  ⟨⟨(zw4 93 rfl rfl), (zw7 201 rfl rfl), (zwb 5 rfl), (zw4 95 rfl rfl), (zw1 12 rfl rfl)⟩, zme_126, ⟨by decide +kernel, by decide +kernel⟩, by decide +kernel⟩,
  ⟨⟨(zw4 128 rfl rfl), (zw4 129 rfl rfl), (zw1 15 rfl rfl)⟩, zme_136, ⟨by decide +kernel, by decide +kernel⟩⟩,
  ⟨⟨(zw4 131 rfl rfl), (zw4 132 rfl rfl), (zw1 15 rfl rfl)⟩, zme_137, ⟨by decide +kernel, by decide +kernel⟩⟩,
  ⟨⟨(zw4 66 rfl rfl), (zw4 67 rfl rfl), (zw1 15 rfl rfl)⟩, zme_121, ⟨by decide +kernel, by decide +kernel⟩⟩,
  ⟨⟨(zw4 55 rfl rfl), (zw4 56 rfl rfl), (zw1 15 rfl rfl)⟩, zme_118, ⟨by decide +kernel, by decide +kernel⟩⟩,
  ⟨⟨(zw4 134 rfl rfl), (zw4 135 rfl rfl), (zw1 14 rfl rfl)⟩, zme_138, ⟨by decide +kernel, by decide +kernel⟩⟩,
  ⟨⟨(zw4 137 rfl rfl), (zw4 138 rfl rfl), (zw1 22 rfl rfl)⟩, zme_139, ⟨by decide +kernel, by decide +kernel⟩⟩,
  ⟨⟨(zw4 144 rfl rfl), (zw7 203 rfl rfl), (zw2 66 rfl rfl), (zw4 145 rfl rfl), (zw1 12 rfl rfl)⟩, zme_141, ⟨by decide +kernel, by decide +kernel⟩, by decide +kernel, by decide +kernel⟩,
  ⟨⟨(zw4 5 rfl rfl), (zw4 7 rfl rfl), (zw4 8 rfl rfl), (zw4 6 rfl rfl), (zw1 12 rfl rfl)⟩, zme_106, ⟨by decide +kernel, by decide +kernel⟩, by decide +kernel⟩,
  ⟨⟨(zw3 214 rfl rfl), (zw7 195 rfl rfl), (zwb 0 rfl), (zw3 216 rfl rfl), (zw1 12 rfl rfl)⟩, zme_100, ⟨by decide +kernel, by decide +kernel⟩, by decide +kernel⟩,
  ⟨⟨(zw4 147 rfl rfl), (zw4 148 rfl rfl), (zw1 23 rfl rfl)⟩, zme_142, ⟨by decide +kernel, by decide +kernel⟩⟩,
  ⟨⟨(zw4 150 rfl rfl), (zw4 151 rfl rfl), (zw1 23 rfl rfl)⟩, zme_143, ⟨by decide +kernel, by decide +kernel⟩⟩,
  ⟨⟨(zw4 157 rfl rfl), (zw4 158 rfl rfl), (zw1 15 rfl rfl)⟩, zme_144, ⟨by decide +kernel, by decide +kernel⟩⟩,
  ⟨⟨(zw4 52 rfl rfl), (zw4 53 rfl rfl), (zw1 15 rfl rfl)⟩, zme_117, ⟨by decide +kernel, by decide +kernel⟩⟩,
  ⟨⟨(zw4 160 rfl rfl), (zw4 161 rfl rfl), (zw1 15 rfl rfl)⟩, zme_145, ⟨by decide +kernel, by decide +kernel⟩⟩,
  ⟨⟨(zw4 66 rfl rfl), (zw4 67 rfl rfl), (zw1 15 rfl rfl)⟩, zme_121, ⟨by decide +kernel, by decide +kernel⟩⟩,
  ⟨⟨(zw4 118 rfl rfl), (zw4 119 rfl rfl), (zw4 120 rfl rfl), (zw1 13 rfl rfl)⟩, zme_133, ⟨by decide +kernel, by decide +kernel⟩, by decide +kernel, by decide +kernel⟩,
  ⟨⟨_, _, _, _, rfl, (zw4 169 rfl rfl), (zw4 170 rfl rfl), (zw4 171 rfl rfl)⟩, (zw1 18 rfl rfl), by decide +kernel, by decide +kernel⟩,
  ⟨⟨(zw4 178 rfl rfl), (zw4 179 rfl rfl), (zw4 180 rfl rfl), (zw1 13 rfl rfl)⟩, zme_149, ⟨by decide +kernel, by decide +kernel⟩, by decide +kernel, by decide +kernel⟩,
  ⟨⟨⟨14, _, rfl⟩, (zw2 137 rfl rfl), (zw1 1 rfl rfl)⟩, zme_24, ⟨by decide +kernel, by decide +kernel⟩⟩,
  ⟨⟨(zw4 186 rfl rfl), (zw4 187 rfl rfl), (zw4 188 rfl rfl), (zw1 13 rfl rfl)⟩, zme_151, ⟨by decide +kernel, by decide +kernel⟩, by decide +kernel, by decide +kernel⟩,
  ⟨⟨(zw4 182 rfl rfl), (zw7 204 rfl rfl), (zw2 66 rfl rfl), (zw4 183 rfl rfl), (zw1 12 rfl rfl)⟩, zme_150, ⟨by decide +kernel, by decide +kernel⟩, by decide +kernel, by decide +kernel⟩,
  ⟨⟨(zw4 190 rfl rfl), (zw7 205 rfl rfl), (zw2 66 rfl rfl), (zw4 191 rfl rfl), (zw1 12 rfl rfl)⟩, zme_152, ⟨by decide +kernel, by decide +kernel⟩, by decide +kernel, by decide +kernel⟩,
  ⟨⟨_, _, _, _, rfl, (zw4 193 rfl rfl), (zw2 152 rfl rfl), (zw2 153 rfl rfl)⟩, (zw1 18 rfl rfl), by decide +kernel, by decide +kernel⟩,
  ⟨⟨(zw4 194 rfl rfl), (zw4 135 rfl rfl), (zw1 14 rfl rfl)⟩, zme_138, ⟨by decide +kernel, by decide +kernel⟩⟩,
  ⟨⟨(zw4 195 rfl rfl), (zw4 196 rfl rfl), (zw1 15 rfl rfl)⟩, zme_153, ⟨by decide +kernel, by decide +kernel⟩⟩,
  ⟨⟨(zw4 55 rfl rfl), (zw4 56 rfl rfl), (zw1 15 rfl rfl)⟩, zme_118, ⟨by decide +kernel, by decide +kernel⟩⟩,
  ⟨⟨(zw3 139 rfl rfl), (zw2 134 rfl rfl), (zw1 1 rfl rfl)⟩, zme_23, ⟨by decide +kernel, by decide +kernel⟩⟩,
  ⟨⟨(zw3 140 rfl rfl), (zw2 140 rfl rfl), (zw1 1 rfl rfl)⟩, zme_25, ⟨by decide +kernel, by decide +kernel⟩⟩,
  ⟨⟨(zw4 202 rfl rfl), (zw4 203 rfl rfl), (zw4 204 rfl rfl), (zw1 10 rfl rfl)⟩, zme_155, ⟨by decide +kernel, by decide +kernel⟩, by decide +kernel, by decide +kernel⟩,
  ⟨⟨(zw4 206 rfl rfl), (zw3 187 rfl rfl), (zw3 188 rfl rfl), (zw1 10 rfl rfl)⟩, zme_93, ⟨by decide +kernel, by decide +kernel⟩, by decide +kernel, by decide +kernel⟩,
  ⟨⟨(zw3 139 rfl rfl), (zw2 134 rfl rfl), (zw1 1 rfl rfl)⟩, zme_23, ⟨by decide +kernel, by decide +kernel⟩⟩,
  ⟨⟨(zw4 211 rfl rfl), (zw4 212 rfl rfl), (zw4 213 rfl rfl), (zw1 9 rfl rfl)⟩, zme_157, ⟨by decide +kernel, by decide +kernel⟩, by decide +kernel, by decide +kernel⟩,
  ⟨⟨⟨17, _, rfl⟩, (zw2 140 rfl rfl), (zw1 1 rfl rfl)⟩, zme_25, ⟨by decide +kernel, by decide +kernel⟩⟩,
  ⟨⟨(zw4 217 rfl rfl), (zw2 113 rfl rfl), (zw2 114 rfl rfl), (zw1 4 rfl rfl)⟩, zme_19, ⟨by decide +kernel, by decide +kernel⟩, by decide +kernel, by decide +kernel⟩,
  ⟨⟨(zw4 218 rfl rfl), (zw4 220 rfl rfl), (zwp1 8 rfl), (zw1 9 rfl rfl)⟩, zme_158, ⟨by decide +kernel, by decide +kernel⟩, by decide +kernel, by decide +kernel⟩,
  ⟨⟨(zw4 222 rfl rfl), (zw4 223 rfl rfl), (zw4 224 rfl rfl), (zw1 10 rfl rfl)⟩, zme_159, ⟨by decide +kernel, by decide +kernel⟩, by decide +kernel, by decide +kernel⟩,
  ⟨⟨(zw4 226 rfl rfl), (zw3 43 rfl rfl), (zw3 44 rfl rfl), (zw1 8 rfl rfl)⟩, zme_59, ⟨by decide +kernel, by decide +kernel⟩, by decide +kernel, by decide +kernel⟩,
  ⟨⟨(zw4 227 rfl rfl), (zw4 203 rfl rfl), (zw4 204 rfl rfl), (zw1 10 rfl rfl)⟩, zme_155, ⟨by decide +kernel, by decide +kernel⟩, by decide +kernel, by decide +kernel⟩,
  ⟨⟨(zw3 139 rfl rfl), (zw2 134 rfl rfl), (zw1 1 rfl rfl)⟩, zme_23, ⟨by decide +kernel, by decide +kernel⟩⟩,
  ⟨⟨(zw4 211 rfl rfl), (zw4 212 rfl rfl), (zw4 213 rfl rfl), (zw1 9 rfl rfl)⟩, zme_157, ⟨by decide +kernel, by decide +kernel⟩, by decide +kernel, by decide +kernel⟩,
  ⟨⟨(zw3 139 rfl rfl), (zw2 134 rfl rfl), (zw1 1 rfl rfl)⟩, zme_23, ⟨by decide +kernel, by decide +kernel⟩⟩,
  ⟨⟨(zw2 136 rfl rfl), (zw2 137 rfl rfl), (zw1 1 rfl rfl)⟩, zme_24, ⟨by decide +kernel, by decide +kernel⟩⟩,
  ⟨⟨(zw4 238 rfl rfl), (zw4 239 rfl rfl), (zw5 0 rfl rfl), (zw1 9 rfl rfl)⟩, zme_162, ⟨by decide +kernel, by decide +kernel⟩, by decide +kernel, by decide +kernel⟩,
  ⟨⟨⟨17, _, rfl⟩, (zw2 140 rfl rfl), (zw1 1 rfl rfl)⟩, zme_25, ⟨by decide +kernel, by decide +kernel⟩⟩,
  ⟨⟨(zw5 2 rfl rfl), (zw5 3 rfl rfl), (zw5 4 rfl rfl), (zw1 4 rfl rfl)⟩, zme_163, ⟨by decide +kernel, by decide +kernel⟩, by decide +kernel, by decide +kernel⟩,
  ⟨⟨(zw5 7 rfl rfl), (zw3 59 rfl rfl), (zw3 60 rfl rfl), (zw1 3 rfl rfl)⟩, zme_63, ⟨by decide +kernel, by decide +kernel⟩, by decide +kernel, by decide +kernel⟩,
  ⟨⟨⟨18, _, rfl⟩, (zw3 56 rfl rfl), (zw1 1 rfl rfl)⟩, zme_62, ⟨by decide +kernel, by decide +kernel⟩⟩,
  ⟨⟨(zw5 6 rfl rfl), (zw3 52 rfl rfl), (zw3 53 rfl rfl), (zw1 4 rfl rfl)⟩, zme_61, ⟨by decide +kernel, by decide +kernel⟩, by decide +kernel, by decide +kernel⟩,
  ⟨⟨(zw3 139 rfl rfl), (zw2 134 rfl rfl), (zw1 1 rfl rfl)⟩, zme_23, ⟨by decide +kernel, by decide +kernel⟩⟩,
  ⟨⟨(zw5 13 rfl rfl), (zw5 14 rfl rfl), (zw5 15 rfl rfl), (zw1 4 rfl rfl)⟩, zme_165, ⟨by decide +kernel, by decide +kernel⟩, by decide +kernel, by decide +kernel⟩,
  ⟨⟨(zw5 25 rfl rfl), (zw5 26 rfl rfl), (zw5 27 rfl rfl), (zw1 9 rfl rfl)⟩, zme_168, ⟨by decide +kernel, by decide +kernel⟩, by decide +kernel, by decide +kernel⟩,
  ⟨⟨(zw5 17 rfl rfl), (zw5 19 rfl rfl), (zwp1 9 rfl), (zw1 4 rfl rfl)⟩, zme_166, ⟨by decide +kernel, by decide +kernel⟩, by decide +kernel, by decide +kernel⟩,
  ⟨⟨(zw5 21 rfl rfl), (zw5 22 rfl rfl), (zw5 23 rfl rfl), (zw1 10 rfl rfl)⟩, zme_167, ⟨by decide +kernel, by decide +kernel⟩, by decide +kernel, by decide +kernel⟩,
  ⟨⟨(zw4 217 rfl rfl), (zw2 113 rfl rfl), (zw2 114 rfl rfl), (zw1 4 rfl rfl)⟩, zme_19, ⟨by decide +kernel, by decide +kernel⟩, by decide +kernel, by decide +kernel⟩,
  ⟨⟨(zw4 218 rfl rfl), (zw4 220 rfl rfl), (zwp1 8 rfl), (zw1 9 rfl rfl)⟩, zme_158, ⟨by decide +kernel, by decide +kernel⟩, by decide +kernel, by decide +kernel⟩,
  ⟨⟨(zw3 139 rfl rfl), (zw2 134 rfl rfl), (zw1 1 rfl rfl)⟩, zme_23, ⟨by decide +kernel, by decide +kernel⟩⟩,
  ⟨⟨(zw2 136 rfl rfl), (zw2 137 rfl rfl), (zw1 1 rfl rfl)⟩, zme_24, ⟨by decide +kernel, by decide +kernel⟩⟩,
  ⟨⟨(zw5 13 rfl rfl), (zw5 14 rfl rfl), (zw5 15 rfl rfl), (zw1 4 rfl rfl)⟩, zme_165, ⟨by decide +kernel, by decide +kernel⟩, by decide +kernel, by decide +kernel⟩,
  ⟨⟨(zw3 139 rfl rfl), (zw2 134 rfl rfl), (zw1 1 rfl rfl)⟩, zme_23, ⟨by decide +kernel, by decide +kernel⟩⟩,
  ⟨⟨(zw2 136 rfl rfl), (zw2 137 rfl rfl), (zw1 1 rfl rfl)⟩, zme_24, ⟨by decide +kernel, by decide +kernel⟩⟩,
  ⟨⟨(zw5 37 rfl rfl), (zw5 38 rfl rfl), (zw5 39 rfl rfl), (zw1 2 rfl rfl)⟩, zme_171, ⟨by decide +kernel, by decide +kernel⟩, by decide +kernel, by decide +kernel⟩,
  ⟨⟨(zw5 41 rfl rfl), (zw5 3 rfl rfl), (zw5 4 rfl rfl), (zw1 4 rfl rfl)⟩, zme_163, ⟨by decide +kernel, by decide +kernel⟩, by decide +kernel, by decide +kernel⟩,
  ⟨⟨(zw5 42 rfl rfl), (zw3 59 rfl rfl), (zw3 60 rfl rfl), (zw1 3 rfl rfl)⟩, zme_63, ⟨by decide +kernel, by decide +kernel⟩, by decide +kernel, by decide +kernel⟩, trivial⟩
theorem zst_ok3 : zAll zsP zst_3 := ⟨⟨⟨(zw3 140 rfl rfl), (zw2 140 rfl rfl), (zw1 1 rfl rfl)⟩, zme_25, ⟨by decide +kernel, by decide +kernel⟩⟩,
  ⟨⟨(zw2 136 rfl rfl), (zw2 137 rfl rfl), (zw1 1 rfl rfl)⟩, zme_24, ⟨by decide +kernel, by decide +kernel⟩⟩,
  ⟨⟨(zw5 49 rfl rfl), (zw5 50 rfl rfl), (zw5 51 rfl rfl), (zw1 2 rfl rfl)⟩, zme_173, ⟨by decide +kernel, by decide +kernel⟩, by decide +kernel, by decide +kernel⟩,
  ⟨⟨(zw5 53 rfl rfl), (zw5 22 rfl rfl), (zw5 23 rfl rfl), (zw1 10 rfl rfl)⟩, zme_167, ⟨by decide +kernel, by decide +kernel⟩, by decide +kernel, by decide +kernel⟩,
  ⟨⟨(zw3 139 rfl rfl), (zw2 134 rfl rfl), (zw1 1 rfl rfl)⟩, zme_23, ⟨by decide +kernel, by decide +kernel⟩⟩,
  ⟨⟨(zw4 174 rfl rfl), (zw4 175 rfl rfl), (zw4 176 rfl rfl), (zw1 11 rfl rfl)⟩, zme_148, ⟨by decide +kernel, by decide +kernel⟩, by decide +kernel, by decide +kernel⟩,
  ⟨⟨(zw5 13 rfl rfl), (zw5 14 rfl rfl), (zw5 15 rfl rfl), (zw1 4 rfl rfl)⟩, zme_165, ⟨by decide +kernel, by decide +kernel⟩, by decide +kernel, by decide +kernel⟩,
  ⟨⟨(zw5 37 rfl rfl), (zw5 38 rfl rfl), (zw5 39 rfl rfl), (zw1 2 rfl rfl)⟩, zme_171, ⟨by decide +kernel, by decide +kernel⟩, by decide +kernel, by decide +kernel⟩,
  ⟨⟨(zw5 58 rfl rfl), (zw3 204 rfl rfl), (zw3 205 rfl rfl), (zw1 11 rfl rfl)⟩, zme_97, ⟨by decide +kernel, by decide +kernel⟩, by decide +kernel, by decide +kernel⟩,
  ⟨⟨(zw5 63 rfl rfl), (zw4 24 rfl rfl), (zw4 25 rfl rfl), (zw1 11 rfl rfl)⟩, zme_111, ⟨by decide +kernel, by decide +kernel⟩, by decide +kernel, by decide +kernel⟩,
  ⟨⟨(zw3 139 rfl rfl), (zw2 134 rfl rfl), (zw1 1 rfl rfl)⟩, zme_23, ⟨by decide +kernel, by decide +kernel⟩⟩,
  ⟨⟨(zw5 68 rfl rfl), (zw5 69 rfl rfl), (zw5 70 rfl rfl), (zw1 4 rfl rfl)⟩, zme_176, ⟨by decide +kernel, by decide +kernel⟩, by decide +kernel, by decide +kernel⟩,
  ⟨⟨(zw5 72 rfl rfl), (zw4 203 rfl rfl), (zw4 204 rfl rfl), (zw1 10 rfl rfl)⟩, zme_155, ⟨by decide +kernel, by decide +kernel⟩, by decide +kernel, by decide +kernel⟩,
  ⟨⟨(zw3 139 rfl rfl), (zw2 134 rfl rfl), (zw1 1 rfl rfl)⟩, zme_23, ⟨by decide +kernel, by decide +kernel⟩⟩,
  ⟨⟨(zw3 140 rfl rfl), (zw2 140 rfl rfl), (zw1 1 rfl rfl)⟩, zme_25, ⟨by decide +kernel, by decide +kernel⟩⟩,
  ⟨⟨(zw5 77 rfl rfl), (zw5 78 rfl rfl), (zw5 79 rfl rfl), (zw1 10 rfl rfl)⟩, zme_178, ⟨by decide +kernel, by decide +kernel⟩, by decide +kernel, by decide +kernel⟩,
  ⟨⟨(zw5 85 rfl rfl), (zw5 86 rfl rfl), (zw5 87 rfl rfl), (zw1 7 rfl rfl)⟩, zme_180, ⟨by decide +kernel, by decide +kernel⟩, by decide +kernel, by decide +kernel⟩,
  ⟨⟨⟨10, _, rfl⟩, (zw2 137 rfl rfl), (zw1 1 rfl rfl)⟩, zme_24, ⟨by decide +kernel, by decide +kernel⟩⟩,
  ⟨⟨(zw2 104 rfl rfl), (zw2 105 rfl rfl), (zw2 106 rfl rfl), (zw1 6 rfl rfl)⟩, zme_17, ⟨by decide +kernel, by decide +kernel⟩, by decide +kernel, by decide +kernel⟩,
  ⟨⟨(zw2 143 rfl rfl), (zw2 145 rfl rfl), (zwp1 0 rfl), (zw1 1 rfl rfl)⟩, zme_26, ⟨by decide +kernel, by decide +kernel⟩, by decide +kernel, by decide +kernel⟩,
  ⟨⟨(zw5 94 rfl rfl), (zw5 95 rfl rfl), (zw5 96 rfl rfl), (zw1 7 rfl rfl)⟩, zme_182, ⟨by decide +kernel, by decide +kernel⟩, by decide +kernel, by decide +kernel⟩,
  ⟨⟨(zw5 165 rfl rfl), (zw5 166 rfl rfl), (zw5 167 rfl rfl), (zw1 7 rfl rfl)⟩, zme_197, ⟨by decide +kernel, by decide +kernel⟩, by decide +kernel, by decide +kernel⟩,
  ⟨⟨(zw5 169 rfl rfl), (zw5 171 rfl rfl), (zwp2 0 rfl), (zw1 1 rfl rfl)⟩, zme_198, ⟨by decide +kernel, by decide +kernel⟩, by decide +kernel, by decide +kernel⟩,
  ⟨⟨(zw5 181 rfl rfl), (zw5 182 rfl rfl), (zw5 183 rfl rfl), (zw1 6 rfl rfl)⟩, zme_201, ⟨by decide +kernel, by decide +kernel⟩, by decide +kernel, by decide +kernel⟩,
  ⟨⟨(zw5 185 rfl rfl), (zw5 186 rfl rfl), (zw5 187 rfl rfl), (zw1 7 rfl rfl)⟩, zme_202, ⟨by decide +kernel, by decide +kernel⟩, by decide +kernel, by decide +kernel⟩,
  ⟨⟨(zw5 98 rfl rfl), (zw5 100 rfl rfl), (zwp1 10 rfl), (zw1 7 rfl rfl)⟩, zme_183, ⟨by decide +kernel, by decide +kernel⟩, by decide +kernel, by decide +kernel⟩,
  ⟨⟨(zw5 159 rfl rfl), (zw5 160 rfl rfl), (zw1 7 rfl rfl)⟩, zme_195, ⟨by decide +kernel, by decide +kernel⟩⟩,
  ⟨⟨(zw5 162 rfl rfl), (zw5 163 rfl rfl), (zw1 7 rfl rfl)⟩, zme_196, ⟨by decide +kernel, by decide +kernel⟩⟩,
  ⟨⟨(zw5 159 rfl rfl), (zw5 160 rfl rfl), (zw1 7 rfl rfl)⟩, zme_195, ⟨by decide +kernel, by decide +kernel⟩⟩,
  ⟨⟨(zw5 102 rfl rfl), (zw5 104 rfl rfl), (zwp1 11 rfl), (zw1 7 rfl rfl)⟩, zme_184, ⟨by decide +kernel, by decide +kernel⟩, by decide +kernel, by decide +kernel⟩,
  ⟨⟨(zw5 110 rfl rfl), (zw5 112 rfl rfl), (zwp1 13 rfl), (zw1 7 rfl rfl)⟩, zme_186, ⟨by decide +kernel, by decide +kernel⟩, by decide +kernel, by decide +kernel⟩,
  ⟨⟨(zw5 150 rfl rfl), (zw5 151 rfl rfl), (zw1 7 rfl rfl)⟩, zme_193, ⟨by decide +kernel, by decide +kernel⟩⟩,
  ⟨⟨(zw5 155 rfl rfl), (zw5 157 rfl rfl), (zwp1 15 rfl), (zw1 7 rfl rfl)⟩, zme_194, ⟨by decide +kernel, by decide +kernel⟩, by decide +kernel, by decide +kernel⟩,
  ⟨⟨(zw5 106 rfl rfl), (zw5 108 rfl rfl), (zwp1 12 rfl), (zw1 7 rfl rfl)⟩, zme_185, ⟨by decide +kernel, by decide +kernel⟩, by decide +kernel, by decide +kernel⟩,
  ⟨⟨⟨10, _, rfl⟩, (zw2 137 rfl rfl), (zw1 1 rfl rfl)⟩, zme_24, ⟨by decide +kernel, by decide +kernel⟩⟩,
  ⟨⟨(zw5 114 rfl rfl), (zw5 115 rfl rfl), (zw1 7 rfl rfl)⟩, zme_187, ⟨by decide +kernel, by decide +kernel⟩⟩,
  ⟨⟨(zw5 129 rfl rfl), (zw5 131 rfl rfl), (zwp1 14 rfl), (zw1 7 rfl rfl)⟩, zme_188, ⟨by decide +kernel, by decide +kernel⟩, by decide +kernel, by decide +kernel⟩,
  ⟨⟨(zw5 133 rfl rfl), (zw4 76 rfl rfl), (zw4 77 rfl rfl), (zw1 14 rfl rfl)⟩, zme_122, ⟨by decide +kernel, by decide +kernel⟩, by decide +kernel, by decide +kernel⟩,
  ⟨⟨(zw5 134 rfl rfl), (zw5 135 rfl rfl), (zw5 136 rfl rfl), (zw1 14 rfl rfl)⟩, zme_189, ⟨by decide +kernel, by decide +kernel⟩, by decide +kernel, by decide +kernel⟩,
  ⟨⟨(zw5 138 rfl rfl), (zw5 139 rfl rfl), (zw5 140 rfl rfl), (zw1 14 rfl rfl)⟩, zme_190, ⟨by decide +kernel, by decide +kernel⟩, by decide +kernel, by decide +kernel⟩,
  ⟨⟨(zw5 142 rfl rfl), (zw5 143 rfl rfl), (zw1 21 rfl rfl)⟩, zme_191, ⟨by decide +kernel, by decide +kernel⟩⟩,
  ⟨⟨(zw5 146 rfl rfl), (zw5 147 rfl rfl), (zw1 15 rfl rfl)⟩, zme_192, ⟨by decide +kernel, by decide +kernel⟩⟩,
  ⟨⟨(zw5 145 rfl rfl), (zw4 135 rfl rfl), (zw1 14 rfl rfl)⟩, zme_138, ⟨by decide +kernel, by decide +kernel⟩⟩,
  ⟨⟨(zw4 131 rfl rfl), (zw4 132 rfl rfl), (zw1 15 rfl rfl)⟩, zme_137, ⟨by decide +kernel, by decide +kernel⟩⟩,
  ⟨⟨(zw5 149 rfl rfl), (zw4 196 rfl rfl), (zw1 15 rfl rfl)⟩, zme_153, ⟨by decide +kernel, by decide +kernel⟩⟩,
  ⟨⟨(zw5 150 rfl rfl), (zw5 151 rfl rfl), (zw1 7 rfl rfl)⟩, zme_193, ⟨by decide +kernel, by decide +kernel⟩⟩,
  ⟨⟨(zw5 106 rfl rfl), (zw5 108 rfl rfl), (zwp1 12 rfl), (zw1 7 rfl rfl)⟩, zme_185, ⟨by decide +kernel, by decide +kernel⟩, by decide +kernel, by decide +kernel⟩,
  ⟨⟨(zw2 129 rfl rfl), (zw2 130 rfl rfl), (zw2 131 rfl rfl), (zw1 2 rfl rfl)⟩, zme_22, ⟨by decide +kernel, by decide +kernel⟩, by decide +kernel, by decide +kernel⟩,
  ⟨⟨(zw2 158 rfl rfl), (zw2 159 rfl rfl), (zw2 160 rfl rfl), (zw1 2 rfl rfl)⟩, zme_30, ⟨by decide +kernel, by decide +kernel⟩, by decide +kernel, by decide +kernel⟩,
  ⟨⟨(zw2 166 rfl rfl), (zw2 167 rfl rfl), (zw2 168 rfl rfl), (zw1 2 rfl rfl)⟩, zme_32, ⟨by decide +kernel, by decide +kernel⟩, by decide +kernel, by decide +kernel⟩,
  ⟨⟨(zw2 174 rfl rfl), (zw2 175 rfl rfl), (zw2 176 rfl rfl), (zw1 2 rfl rfl)⟩, zme_34, ⟨by decide +kernel, by decide +kernel⟩, by decide +kernel, by decide +kernel⟩,
  ⟨⟨(zw2 182 rfl rfl), (zw2 183 rfl rfl), (zw2 184 rfl rfl), (zw1 2 rfl rfl)⟩, zme_36, ⟨by decide +kernel, by decide +kernel⟩, by decide +kernel, by decide +kernel⟩,
  ⟨⟨(zw2 190 rfl rfl), (zw2 191 rfl rfl), (zw2 192 rfl rfl), (zw1 2 rfl rfl)⟩, zme_38, ⟨by decide +kernel, by decide +kernel⟩, by decide +kernel, by decide +kernel⟩,
  ⟨⟨(zw2 199 rfl rfl), (zw2 200 rfl rfl), (zw2 201 rfl rfl), (zw1 2 rfl rfl)⟩, zme_40, ⟨by decide +kernel, by decide +kernel⟩, by decide +kernel, by decide +kernel⟩,
  ⟨⟨(zw2 220 rfl rfl), (zw2 221 rfl rfl), (zw2 222 rfl rfl), (zw1 2 rfl rfl)⟩, zme_45, ⟨by decide +kernel, by decide +kernel⟩, by decide +kernel, by decide +kernel⟩,
  ⟨⟨(zw2 233 rfl rfl), (zw2 234 rfl rfl), (zw2 235 rfl rfl), (zw1 2 rfl rfl)⟩, zme_48, ⟨by decide +kernel, by decide +kernel⟩, by decide +kernel, by decide +kernel⟩,
  ⟨⟨(zw3 1 rfl rfl), (zw3 2 rfl rfl), (zw3 3 rfl rfl), (zw1 2 rfl rfl)⟩, zme_50, ⟨by decide +kernel, by decide +kernel⟩, by decide +kernel, by decide +kernel⟩,
  ⟨⟨(zw3 27 rfl rfl), (zw3 28 rfl rfl), (zw3 29 rfl rfl), (zw1 2 rfl rfl)⟩, zme_56, ⟨by decide +kernel, by decide +kernel⟩, by decide +kernel, by decide +kernel⟩,
  ⟨⟨(zw3 36 rfl rfl), (zw3 37 rfl rfl), (zw3 38 rfl rfl), (zw1 2 rfl rfl)⟩, zme_58, ⟨by decide +kernel, by decide +kernel⟩, by decide +kernel, by decide +kernel⟩,
  ⟨⟨(zw5 173 rfl rfl), (zw5 174 rfl rfl), (zw5 175 rfl rfl), (zw1 7 rfl rfl)⟩, zme_199, ⟨by decide +kernel, by decide +kernel⟩, by decide +kernel, by decide +kernel⟩,
  ⟨⟨(zw5 177 rfl rfl), (zw5 178 rfl rfl), (zw5 179 rfl rfl), (zw1 7 rfl rfl)⟩, zme_200, ⟨by decide +kernel, by decide +kernel⟩, by decide +kernel, by decide +kernel⟩,
  ⟨⟨⟨10, _, rfl⟩, (zw2 137 rfl rfl), (zw1 1 rfl rfl)⟩, zme_24, ⟨by decide +kernel, by decide +kernel⟩⟩,
  ⟨⟨⟨10, _, rfl⟩, (zw2 137 rfl rfl), (zw1 1 rfl rfl)⟩, zme_24, ⟨by decide +kernel, by decide +kernel⟩⟩,
  ⟨⟨(zw2 108 rfl rfl), (zw2 109 rfl rfl), (zw2 110 rfl rfl), (zw1 2 rfl rfl)⟩, zme_18, ⟨by decide +kernel, by decide +kernel⟩, by decide +kernel, by decide +kernel⟩,
  ⟨⟨⟨10, _, rfl⟩, (zw2 137 rfl rfl), (zw1 1 rfl rfl)⟩, zme_24, ⟨by decide +kernel, by decide +kernel⟩⟩,
  ⟨⟨(zw5 193 rfl rfl), (zw2 109 rfl rfl), (zw2 110 rfl rfl), (zw1 2 rfl rfl)⟩, zme_18, ⟨by decide +kernel, by decide +kernel⟩, by decide +kernel, by decide +kernel⟩,
  ⟨⟨(zw2 104 rfl rfl), (zw2 105 rfl rfl), (zw2 106 rfl rfl), (zw1 6 rfl rfl)⟩, zme_17, ⟨by decide +kernel, by decide +kernel⟩, by decide +kernel, by decide +kernel⟩,
  ⟨⟨(zw2 143 rfl rfl), (zw2 145 rfl rfl), (zwp1 0 rfl), (zw1 1 rfl rfl)⟩, zme_26, ⟨by decide +kernel, by decide +kernel⟩, by decide +kernel, by decide +kernel⟩,
  ⟨⟨(zw5 193 rfl rfl), (zw2 109 rfl rfl), (zw2 110 rfl rfl), (zw1 2 rfl rfl)⟩, zme_18, ⟨by decide +kernel, by decide +kernel⟩, by decide +kernel, by decide +kernel⟩,
  ⟨⟨(zw5 202 rfl rfl), (zw5 203 rfl rfl), (zw5 204 rfl rfl), (zw1 6 rfl rfl)⟩, zme_206, ⟨by decide +kernel, by decide +kernel⟩, by decide +kernel, by decide +kernel⟩,
  ⟨⟨(zw2 108 rfl rfl), (zw2 109 rfl rfl), (zw2 110 rfl rfl), (zw1 2 rfl rfl)⟩, zme_18, ⟨by decide +kernel, by decide +kernel⟩, by decide +kernel, by decide +kernel⟩,
  ⟨(zw5 211 rfl rfl), (zw1 30 rfl rfl), (zw1 31 rfl rfl), by decide +kernel, by decide +kernel⟩,
  ⟨⟨(zw5 214 rfl rfl), (zw5 215 rfl rfl), (zw1 16 rfl rfl)⟩, zme_208, ⟨by decide +kernel, by decide +kernel⟩⟩,
  ⟨⟨(zw5 214 rfl rfl), (zw5 215 rfl rfl), (zw1 16 rfl rfl)⟩, zme_208, ⟨by decide +kernel, by decide +kernel⟩⟩,
  ⟨⟨(zw6 31 rfl rfl), (zw6 32 rfl rfl), (zw1 16 rfl rfl)⟩, zme_211, ⟨by decide +kernel, by decide +kernel⟩⟩,
  ⟨⟨(zw6 28 rfl rfl), (zw6 29 rfl rfl), (zw1 16 rfl rfl)⟩, zme_210, ⟨by decide +kernel, by decide +kernel⟩⟩,
  ⟨⟨(zw6 34 rfl rfl), (zw6 35 rfl rfl), (zw1 16 rfl rfl)⟩, zme_212, ⟨by decide +kernel, by decide +kernel⟩⟩,
  ⟨⟨(zw6 37 rfl rfl), (zw6 39 rfl rfl), (zwp2 1 rfl), (zw1 16 rfl rfl)⟩, zme_213, ⟨by decide +kernel, by decide +kernel⟩, by decide +kernel, by decide +kernel⟩,
  ⟨⟨(zw6 31 rfl rfl), (zw6 32 rfl rfl), (zw1 16 rfl rfl)⟩, zme_211, ⟨by decide +kernel, by decide +kernel⟩⟩,
  ⟨⟨(zw6 31 rfl rfl), (zw6 32 rfl rfl), (zw1 16 rfl rfl)⟩, zme_211, ⟨by decide +kernel, by decide +kernel⟩⟩,
  ⟨⟨(zw6 41 rfl rfl), (zw6 43 rfl rfl), (zwp2 2 rfl), (zw1 16 rfl rfl)⟩, zme_214, ⟨by decide +kernel, by decide +kernel⟩, by decide +kernel, by decide +kernel⟩,
  ⟨⟨(zw6 45 rfl rfl), (zw6 47 rfl rfl), (zwp2 3 rfl), (zw1 16 rfl rfl)⟩, zme_215, ⟨by decide +kernel, by decide +kernel⟩, by decide +kernel, by decide +kernel⟩,
  ⟨(zw6 50 rfl rfl), (zw2 118 rfl rfl), (zw2 117 rfl rfl), (zw1 17 rfl rfl), by decide +kernel, by decide +kernel⟩,
  ⟨⟨(zw5 214 rfl rfl), (zw5 215 rfl rfl), (zw1 16 rfl rfl)⟩, zme_208, ⟨by decide +kernel, by decide +kernel⟩⟩,
  ⟨⟨(zw6 31 rfl rfl), (zw6 32 rfl rfl), (zw1 16 rfl rfl)⟩, zme_211, ⟨by decide +kernel, by decide +kernel⟩⟩,
  ⟨⟨(zw6 28 rfl rfl), (zw6 29 rfl rfl), (zw1 16 rfl rfl)⟩, zme_210, ⟨by decide +kernel, by decide +kernel⟩⟩,
  ⟨⟨(zw6 34 rfl rfl), (zw6 35 rfl rfl), (zw1 16 rfl rfl)⟩, zme_212, ⟨by decide +kernel, by decide +kernel⟩⟩,
  ⟨⟨(zw6 37 rfl rfl), (zw6 39 rfl rfl), (zwp2 1 rfl), (zw1 16 rfl rfl)⟩, zme_213, ⟨by decide +kernel, by decide +kernel⟩, by decide +kernel, by decide +kernel⟩,
  ⟨⟨(zw5 214 rfl rfl), (zw5 215 rfl rfl), (zw1 16 rfl rfl)⟩, zme_208, ⟨by decide +kernel, by decide +kernel⟩⟩,
  ⟨⟨(zw6 31 rfl rfl), (zw6 32 rfl rfl), (zw1 16 rfl rfl)⟩, zme_211, ⟨by decide +kernel, by decide +kernel⟩⟩,
  ⟨⟨(zw6 28 rfl rfl), (zw6 29 rfl rfl), (zw1 16 rfl rfl)⟩, zme_210, ⟨by decide +kernel, by decide +kernel⟩⟩,
  ⟨⟨(zw6 34 rfl rfl), (zw6 35 rfl rfl), (zw1 16 rfl rfl)⟩, zme_212, ⟨by decide +kernel, by decide +kernel⟩⟩,
  ⟨⟨(zw6 37 rfl rfl), (zw6 39 rfl rfl), (zwp2 1 rfl), (zw1 16 rfl rfl)⟩, zme_213, ⟨by decide +kernel, by decide +kernel⟩, by decide +kernel, by decide +kernel⟩,
  ⟨⟨(zw5 214 rfl rfl), (zw5 215 rfl rfl), (zw1 16 rfl rfl)⟩, zme_208, ⟨by decide +kernel, by decide +kernel⟩⟩,
  ⟨⟨(zw6 31 rfl rfl), (zw6 32 rfl rfl), (zw1 16 rfl rfl)⟩, zme_211, ⟨by decide +kernel, by decide +kernel⟩⟩,
  ⟨⟨(zw6 28 rfl rfl), (zw6 29 rfl rfl), (zw1 16 rfl rfl)⟩, zme_210, ⟨by decide +kernel, by decide +kernel⟩⟩,
  ⟨⟨(zw6 37 rfl rfl), (zw6 39 rfl rfl), (zwp2 1 rfl), (zw1 16 rfl rfl)⟩, zme_213, ⟨by decide +kernel, by decide +kernel⟩, by decide +kernel, by decide +kernel⟩,
  ⟨⟨(zw6 31 rfl rfl), (zw6 32 rfl rfl), (zw1 16 rfl rfl)⟩, zme_211, ⟨by decide +kernel, by decide +kernel⟩⟩,
  ⟨⟨(zw6 67 rfl rfl), (zw6 69 rfl rfl), (zwp2 4 rfl), (zw1 16 rfl rfl)⟩, zme_220, ⟨by decide +kernel, by decide +kernel⟩, by decide +kernel, by decide +kernel⟩,
  ⟨⟨(zw6 37 rfl rfl), (zw6 39 rfl rfl), (zwp2 1 rfl), (zw1 16 rfl rfl)⟩, zme_213, ⟨by decide +kernel, by decide +kernel⟩, by decide +kernel, by decide +kernel⟩, trivial⟩
theorem zst_ok4 : zAll zsP zst_4 := ⟨⟨⟨(zw6 31 rfl rfl), (zw6 32 rfl rfl), (zw1 16 rfl rfl)⟩, zme_211, ⟨by decide +kernel, by decide +kernel⟩⟩,
  ⟨⟨(zw6 67 rfl rfl), (zw6 69 rfl rfl), (zwp2 4 rfl), (zw1 16 rfl rfl)⟩, zme_220, ⟨by decide +kernel, by decide +kernel⟩, by decide +kernel, by decide +kernel⟩,
  ⟨⟨(zw6 31 rfl rfl), (zw6 32 rfl rfl), (zw1 16 rfl rfl)⟩, zme_211, ⟨by decide +kernel, by decide +kernel⟩⟩,
  ⟨⟨(zw6 67 rfl rfl), (zw6 69 rfl rfl), (zwp2 4 rfl), (zw1 16 rfl rfl)⟩, zme_220, ⟨by decide +kernel, by decide +kernel⟩, by decide +kernel, by decide +kernel⟩,
  ⟨⟨(zw6 67 rfl rfl), (zw6 69 rfl rfl), (zwp2 4 rfl), (zw1 16 rfl rfl)⟩, zme_220, ⟨by decide +kernel, by decide +kernel⟩, by decide +kernel, by decide +kernel⟩,
  ⟨⟨(zw6 31 rfl rfl), (zw6 32 rfl rfl), (zw1 16 rfl rfl)⟩, zme_211, ⟨by decide +kernel, by decide +kernel⟩⟩,
  ⟨⟨(zw6 28 rfl rfl), (zw6 29 rfl rfl), (zw1 16 rfl rfl)⟩, zme_210, ⟨by decide +kernel, by decide +kernel⟩⟩,
  ⟨⟨(zw6 88 rfl rfl), (zw6 90 rfl rfl), (zwp2 5 rfl), (zw1 16 rfl rfl)⟩, zme_225, ⟨by decide +kernel, by decide +kernel⟩, by decide +kernel, by decide +kernel⟩,
  ⟨⟨(zw5 214 rfl rfl), (zw5 215 rfl rfl), (zw1 16 rfl rfl)⟩, zme_208, ⟨by decide +kernel, by decide +kernel⟩⟩,
  ⟨⟨(zw6 37 rfl rfl), (zw6 39 rfl rfl), (zwp2 1 rfl), (zw1 16 rfl rfl)⟩, zme_213, ⟨by decide +kernel, by decide +kernel⟩, by decide +kernel, by decide +kernel⟩,
  ⟨⟨(zw6 92 rfl rfl), (zw6 94 rfl rfl), (zwp2 6 rfl), (zw1 16 rfl rfl)⟩, zme_226, ⟨by decide +kernel, by decide +kernel⟩, by decide +kernel, by decide +kernel⟩,
  ⟨⟨(zw5 214 rfl rfl), (zw5 215 rfl rfl), (zw1 16 rfl rfl)⟩, zme_208, ⟨by decide +kernel, by decide +kernel⟩⟩,
  ⟨⟨(zw6 31 rfl rfl), (zw6 32 rfl rfl), (zw1 16 rfl rfl)⟩, zme_211, ⟨by decide +kernel, by decide +kernel⟩⟩,
  ⟨⟨(zw6 28 rfl rfl), (zw6 29 rfl rfl), (zw1 16 rfl rfl)⟩, zme_210, ⟨by decide +kernel, by decide +kernel⟩⟩,
  ⟨⟨(zw6 88 rfl rfl), (zw6 90 rfl rfl), (zwp2 5 rfl), (zw1 16 rfl rfl)⟩, zme_225, ⟨by decide +kernel, by decide +kernel⟩, by decide +kernel, by decide +kernel⟩,
  ⟨⟨(zw5 214 rfl rfl), (zw5 215 rfl rfl), (zw1 16 rfl rfl)⟩, zme_208, ⟨by decide +kernel, by decide +kernel⟩⟩,
  ⟨⟨(zw6 37 rfl rfl), (zw6 39 rfl rfl), (zwp2 1 rfl), (zw1 16 rfl rfl)⟩, zme_213, ⟨by decide +kernel, by decide +kernel⟩, by decide +kernel, by decide +kernel⟩,
  ⟨⟨(zw6 92 rfl rfl), (zw6 94 rfl rfl), (zwp2 6 rfl), (zw1 16 rfl rfl)⟩, zme_226, ⟨by decide +kernel, by decide +kernel⟩, by decide +kernel, by decide +kernel⟩,
  ⟨⟨(zw6 105 rfl rfl), (zw6 107 rfl rfl), (zwp2 7 rfl), (zw1 16 rfl rfl)⟩, zme_229, ⟨by decide +kernel, by decide +kernel⟩, by decide +kernel, by decide +kernel⟩,
  ⟨⟨(zw6 109 rfl rfl), (zw6 111 rfl rfl), (zwp2 8 rfl), (zw1 16 rfl rfl)⟩, zme_230, ⟨by decide +kernel, by decide +kernel⟩, by decide +kernel, by decide +kernel⟩,
  ⟨⟨(zw6 28 rfl rfl), (zw6 29 rfl rfl), (zw1 16 rfl rfl)⟩, zme_210, ⟨by decide +kernel, by decide +kernel⟩⟩,
  ⟨⟨(zw6 92 rfl rfl), (zw6 94 rfl rfl), (zwp2 6 rfl), (zw1 16 rfl rfl)⟩, zme_226, ⟨by decide +kernel, by decide +kernel⟩, by decide +kernel, by decide +kernel⟩,
  ⟨⟨(zw5 214 rfl rfl), (zw5 215 rfl rfl), (zw1 16 rfl rfl)⟩, zme_208, ⟨by decide +kernel, by decide +kernel⟩⟩,
  ⟨⟨(zw6 41 rfl rfl), (zw6 43 rfl rfl), (zwp2 2 rfl), (zw1 16 rfl rfl)⟩, zme_214, ⟨by decide +kernel, by decide +kernel⟩, by decide +kernel, by decide +kernel⟩,
  ⟨⟨(zw6 92 rfl rfl), (zw6 94 rfl rfl), (zwp2 6 rfl), (zw1 16 rfl rfl)⟩, zme_226, ⟨by decide +kernel, by decide +kernel⟩, by decide +kernel, by decide +kernel⟩,
  ⟨⟨(zw6 105 rfl rfl), (zw6 107 rfl rfl), (zwp2 7 rfl), (zw1 16 rfl rfl)⟩, zme_229, ⟨by decide +kernel, by decide +kernel⟩, by decide +kernel, by decide +kernel⟩,
  ⟨⟨(zw6 109 rfl rfl), (zw6 111 rfl rfl), (zwp2 8 rfl), (zw1 16 rfl rfl)⟩, zme_230, ⟨by decide +kernel, by decide +kernel⟩, by decide +kernel, by decide +kernel⟩,
  ⟨⟨(zw6 41 rfl rfl), (zw6 43 rfl rfl), (zwp2 2 rfl), (zw1 16 rfl rfl)⟩, zme_214, ⟨by decide +kernel, by decide +kernel⟩, by decide +kernel, by decide +kernel⟩,
  ⟨⟨(zw6 121 rfl rfl), (zw6 123 rfl rfl), (zwp2 9 rfl), (zw1 16 rfl rfl)⟩, zme_233, ⟨by decide +kernel, by decide +kernel⟩, by decide +kernel, by decide +kernel⟩,
  ⟨⟨(zw6 125 rfl rfl), (zw6 127 rfl rfl), (zwp2 10 rfl), (zw1 16 rfl rfl)⟩, zme_234, ⟨by decide +kernel, by decide +kernel⟩, by decide +kernel, by decide +kernel⟩,
  ⟨⟨(zw6 121 rfl rfl), (zw6 123 rfl rfl), (zwp2 9 rfl), (zw1 16 rfl rfl)⟩, zme_233, ⟨by decide +kernel, by decide +kernel⟩, by decide +kernel, by decide +kernel⟩,
  ⟨⟨(zw6 129 rfl rfl), (zw6 131 rfl rfl), (zwp2 11 rfl), (zw1 16 rfl rfl)⟩, zme_235, ⟨by decide +kernel, by decide +kernel⟩, by decide +kernel, by decide +kernel⟩,
  ⟨⟨(zw5 214 rfl rfl), (zw5 215 rfl rfl), (zw1 16 rfl rfl)⟩, zme_208, ⟨by decide +kernel, by decide +kernel⟩⟩,
  ⟨⟨(zw6 92 rfl rfl), (zw6 94 rfl rfl), (zwp2 6 rfl), (zw1 16 rfl rfl)⟩, zme_226, ⟨by decide +kernel, by decide +kernel⟩, by decide +kernel, by decide +kernel⟩,
  ⟨⟨_, _, _, _, rfl, (zw6 157 rfl rfl), (zw3 97 rfl rfl), (zw3 98 rfl rfl)⟩, (zw1 18 rfl rfl), by decide +kernel, by decide +kernel⟩,
  ⟨⟨_, _, _, _, rfl, (zw6 163 rfl rfl), (zw3 100 rfl rfl), (zw3 101 rfl rfl)⟩, (zw1 18 rfl rfl), by decide +kernel, by decide +kernel⟩,
  ⟨⟨(zw6 137 rfl rfl), (zw6 139 rfl rfl), (zwp2 13 rfl), (zw1 16 rfl rfl)⟩, zme_237, ⟨by decide +kernel, by decide +kernel⟩, by decide +kernel, by decide +kernel⟩,
  ⟨⟨(zw6 164 rfl rfl), (zw6 166 rfl rfl), (zwp3 3 rfl), (zw1 16 rfl rfl)⟩, zme_243, ⟨by decide +kernel, by decide +kernel⟩, by decide +kernel, by decide +kernel⟩,
  ⟨⟨(zw6 133 rfl rfl), (zw6 135 rfl rfl), (zwp2 12 rfl), (zw1 16 rfl rfl)⟩, zme_236, ⟨by decide +kernel, by decide +kernel⟩, by decide +kernel, by decide +kernel⟩,
  ⟨⟨(zw6 183 rfl rfl), (zw6 185 rfl rfl), (zwp3 7 rfl), (zw1 16 rfl rfl)⟩, zme_248, ⟨by decide +kernel, by decide +kernel⟩, by decide +kernel, by decide +kernel⟩,
  ⟨⟨(zw6 187 rfl rfl), (zw6 189 rfl rfl), (zwp3 8 rfl), (zw1 16 rfl rfl)⟩, zme_249, ⟨by decide +kernel, by decide +kernel⟩, by decide +kernel, by decide +kernel⟩,
  ⟨⟨(zw6 137 rfl rfl), (zw6 139 rfl rfl), (zwp2 13 rfl), (zw1 16 rfl rfl)⟩, zme_237, ⟨by decide +kernel, by decide +kernel⟩, by decide +kernel, by decide +kernel⟩,
  ⟨⟨(zw6 164 rfl rfl), (zw6 166 rfl rfl), (zwp3 3 rfl), (zw1 16 rfl rfl)⟩, zme_243, ⟨by decide +kernel, by decide +kernel⟩, by decide +kernel, by decide +kernel⟩,
  ⟨⟨(zw6 171 rfl rfl), (zw6 173 rfl rfl), (zwp3 4 rfl), (zw1 16 rfl rfl)⟩, zme_245, ⟨by decide +kernel, by decide +kernel⟩, by decide +kernel, by decide +kernel⟩,
  ⟨⟨(zw6 175 rfl rfl), (zw6 177 rfl rfl), (zwp3 5 rfl), (zw1 16 rfl rfl)⟩, zme_246, ⟨by decide +kernel, by decide +kernel⟩, by decide +kernel, by decide +kernel⟩,
  ⟨⟨(zw6 179 rfl rfl), (zw6 181 rfl rfl), (zwp3 6 rfl), (zw1 16 rfl rfl)⟩, zme_247, ⟨by decide +kernel, by decide +kernel⟩, by decide +kernel, by decide +kernel⟩,
  ⟨⟨(zw6 141 rfl rfl), (zw6 143 rfl rfl), (zwp2 14 rfl), (zw1 16 rfl rfl)⟩, zme_238, ⟨by decide +kernel, by decide +kernel⟩, by decide +kernel, by decide +kernel⟩,
  ⟨⟨(zw6 149 rfl rfl), (zw6 151 rfl rfl), (zwp3 0 rfl), (zw1 16 rfl rfl)⟩, zme_240, ⟨by decide +kernel, by decide +kernel⟩, by decide +kernel, by decide +kernel⟩,
  ⟨⟨(zw6 145 rfl rfl), (zw6 147 rfl rfl), (zwp2 15 rfl), (zw1 16 rfl rfl)⟩, zme_239, ⟨by decide +kernel, by decide +kernel⟩, by decide +kernel, by decide +kernel⟩,
  ⟨⟨(zw6 92 rfl rfl), (zw6 94 rfl rfl), (zwp2 6 rfl), (zw1 16 rfl rfl)⟩, zme_226, ⟨by decide +kernel, by decide +kernel⟩, by decide +kernel, by decide +kernel⟩,
  ⟨⟨(zw6 153 rfl rfl), (zw6 155 rfl rfl), (zwp3 1 rfl), (zw1 16 rfl rfl)⟩, zme_241, ⟨by decide +kernel, by decide +kernel⟩, by decide +kernel, by decide +kernel⟩,
  ⟨⟨(zw6 159 rfl rfl), (zw6 161 rfl rfl), (zwp3 2 rfl), (zw1 16 rfl rfl)⟩, zme_242, ⟨by decide +kernel, by decide +kernel⟩, by decide +kernel, by decide +kernel⟩,
  ⟨⟨_, _, _, _, rfl, (zw6 157 rfl rfl), (zw3 97 rfl rfl), (zw3 98 rfl rfl)⟩, (zw1 18 rfl rfl), by decide +kernel, by decide +kernel⟩,
  ⟨⟨_, _, _, _, rfl, (zw6 157 rfl rfl), (zw3 97 rfl rfl), (zw3 98 rfl rfl)⟩, (zw1 18 rfl rfl), by decide +kernel, by decide +kernel⟩,
  ⟨⟨(zw6 153 rfl rfl), (zw6 155 rfl rfl), (zwp3 1 rfl), (zw1 16 rfl rfl)⟩, zme_241, ⟨by decide +kernel, by decide +kernel⟩, by decide +kernel, by decide +kernel⟩,
  ⟨⟨_, _, _, _, rfl, (zw6 163 rfl rfl), (zw3 100 rfl rfl), (zw3 101 rfl rfl)⟩, (zw1 18 rfl rfl), by decide +kernel, by decide +kernel⟩,
  ⟨⟨(zw5 214 rfl rfl), (zw5 215 rfl rfl), (zw1 16 rfl rfl)⟩, zme_208, ⟨by decide +kernel, by decide +kernel⟩⟩,
  ⟨⟨(zw6 92 rfl rfl), (zw6 94 rfl rfl), (zwp2 6 rfl), (zw1 16 rfl rfl)⟩, zme_226, ⟨by decide +kernel, by decide +kernel⟩, by decide +kernel, by decide +kernel⟩,
  ⟨⟨(zw6 168 rfl rfl), (zw6 169 rfl rfl), (zw1 16 rfl rfl)⟩, zme_244, ⟨by decide +kernel, by decide +kernel⟩⟩,
  ⟨⟨(zw5 214 rfl rfl), (zw5 215 rfl rfl), (zw1 16 rfl rfl)⟩, zme_208, ⟨by decide +kernel, by decide +kernel⟩⟩,
  ⟨⟨(zw5 214 rfl rfl), (zw5 215 rfl rfl), (zw1 16 rfl rfl)⟩, zme_208, ⟨by decide +kernel, by decide +kernel⟩⟩,
  ⟨⟨(zw6 92 rfl rfl), (zw6 94 rfl rfl), (zwp2 6 rfl), (zw1 16 rfl rfl)⟩, zme_226, ⟨by decide +kernel, by decide +kernel⟩, by decide +kernel, by decide +kernel⟩,
  ⟨⟨(zw5 214 rfl rfl), (zw5 215 rfl rfl), (zw1 16 rfl rfl)⟩, zme_208, ⟨by decide +kernel, by decide +kernel⟩⟩,
  ⟨⟨(zw6 92 rfl rfl), (zw6 94 rfl rfl), (zwp2 6 rfl), (zw1 16 rfl rfl)⟩, zme_226, ⟨by decide +kernel, by decide +kernel⟩, by decide +kernel, by decide +kernel⟩,
  ⟨⟨(zw6 137 rfl rfl), (zw6 139 rfl rfl), (zwp2 13 rfl), (zw1 16 rfl rfl)⟩, zme_237, ⟨by decide +kernel, by decide +kernel⟩, by decide +kernel, by decide +kernel⟩,
  ⟨⟨(zw6 92 rfl rfl), (zw6 94 rfl rfl), (zwp2 6 rfl), (zw1 16 rfl rfl)⟩, zme_226, ⟨by decide +kernel, by decide +kernel⟩, by decide +kernel, by decide +kernel⟩,
  ⟨⟨(zw6 168 rfl rfl), (zw6 169 rfl rfl), (zw1 16 rfl rfl)⟩, zme_244, ⟨by decide +kernel, by decide +kernel⟩⟩,
  ⟨⟨(zw5 214 rfl rfl), (zw5 215 rfl rfl), (zw1 16 rfl rfl)⟩, zme_208, ⟨by decide +kernel, by decide +kernel⟩⟩,
  ⟨⟨(zw6 92 rfl rfl), (zw6 94 rfl rfl), (zwp2 6 rfl), (zw1 16 rfl rfl)⟩, zme_226, ⟨by decide +kernel, by decide +kernel⟩, by decide +kernel, by decide +kernel⟩,
  ⟨⟨_, _, _, _, rfl, (zw6 157 rfl rfl), (zw3 97 rfl rfl), (zw3 98 rfl rfl)⟩, (zw1 18 rfl rfl), by decide +kernel, by decide +kernel⟩,
  ⟨⟨(zw6 164 rfl rfl), (zw6 166 rfl rfl), (zwp3 3 rfl), (zw1 16 rfl rfl)⟩, zme_243, ⟨by decide +kernel, by decide +kernel⟩, by decide +kernel, by decide +kernel⟩,
  ⟨⟨(zw5 214 rfl rfl), (zw5 215 rfl rfl), (zw1 16 rfl rfl)⟩, zme_208, ⟨by decide +kernel, by decide +kernel⟩⟩,
  ⟨⟨(zw6 41 rfl rfl), (zw6 43 rfl rfl), (zwp2 2 rfl), (zw1 16 rfl rfl)⟩, zme_214, ⟨by decide +kernel, by decide +kernel⟩, by decide +kernel, by decide +kernel⟩,
  ⟨⟨(zw6 92 rfl rfl), (zw6 94 rfl rfl), (zwp2 6 rfl), (zw1 16 rfl rfl)⟩, zme_226, ⟨by decide +kernel, by decide +kernel⟩, by decide +kernel, by decide +kernel⟩,
  ⟨⟨(zw6 109 rfl rfl), (zw6 111 rfl rfl), (zwp2 8 rfl), (zw1 16 rfl rfl)⟩, zme_230, ⟨by decide +kernel, by decide +kernel⟩, by decide +kernel, by decide +kernel⟩,
  ⟨⟨(zw6 121 rfl rfl), (zw6 123 rfl rfl), (zwp2 9 rfl), (zw1 16 rfl rfl)⟩, zme_233, ⟨by decide +kernel, by decide +kernel⟩, by decide +kernel, by decide +kernel⟩,
  ⟨⟨(zw6 121 rfl rfl), (zw6 123 rfl rfl), (zwp2 9 rfl), (zw1 16 rfl rfl)⟩, zme_233, ⟨by decide +kernel, by decide +kernel⟩, by decide +kernel, by decide +kernel⟩,
  ⟨⟨(zw6 31 rfl rfl), (zw6 32 rfl rfl), (zw1 16 rfl rfl)⟩, zme_211, ⟨by decide +kernel, by decide +kernel⟩⟩,
  ⟨⟨(zw6 28 rfl rfl), (zw6 29 rfl rfl), (zw1 16 rfl rfl)⟩, zme_210, ⟨by decide +kernel, by decide +kernel⟩⟩,
  ⟨⟨(zw6 34 rfl rfl), (zw6 35 rfl rfl), (zw1 16 rfl rfl)⟩, zme_212, ⟨by decide +kernel, by decide +kernel⟩⟩,
  ⟨⟨(zw6 92 rfl rfl), (zw6 94 rfl rfl), (zwp2 6 rfl), (zw1 16 rfl rfl)⟩, zme_226, ⟨by decide +kernel, by decide +kernel⟩, by decide +kernel, by decide +kernel⟩,
  ⟨⟨(zw6 31 rfl rfl), (zw6 32 rfl rfl), (zw1 16 rfl rfl)⟩, zme_211, ⟨by decide +kernel, by decide +kernel⟩⟩,
  ⟨⟨(zw6 92 rfl rfl), (zw6 94 rfl rfl), (zwp2 6 rfl), (zw1 16 rfl rfl)⟩, zme_226, ⟨by decide +kernel, by decide +kernel⟩, by decide +kernel, by decide +kernel⟩,
  ⟨⟨(zw6 31 rfl rfl), (zw6 32 rfl rfl), (zw1 16 rfl rfl)⟩, zme_211, ⟨by decide +kernel, by decide +kernel⟩⟩,
  ⟨⟨(zw6 28 rfl rfl), (zw6 29 rfl rfl), (zw1 16 rfl rfl)⟩, zme_210, ⟨by decide +kernel, by decide +kernel⟩⟩,
  ⟨⟨(zw6 92 rfl rfl), (zw6 94 rfl rfl), (zwp2 6 rfl), (zw1 16 rfl rfl)⟩, zme_226, ⟨by decide +kernel, by decide +kernel⟩, by decide +kernel, by decide +kernel⟩,
  ⟨⟨(zw6 105 rfl rfl), (zw6 107 rfl rfl), (zwp2 7 rfl), (zw1 16 rfl rfl)⟩, zme_229, ⟨by decide +kernel, by decide +kernel⟩, by decide +kernel, by decide +kernel⟩,
  ⟨⟨(zw6 92 rfl rfl), (zw6 94 rfl rfl), (zwp2 6 rfl), (zw1 16 rfl rfl)⟩, zme_226, ⟨by decide +kernel, by decide +kernel⟩, by decide +kernel, by decide +kernel⟩,
  ⟨⟨(zw6 105 rfl rfl), (zw6 107 rfl rfl), (zwp2 7 rfl), (zw1 16 rfl rfl)⟩, zme_229, ⟨by decide +kernel, by decide +kernel⟩, by decide +kernel, by decide +kernel⟩,
  ⟨⟨(zw6 31 rfl rfl), (zw6 32 rfl rfl), (zw1 16 rfl rfl)⟩, zme_211, ⟨by decide +kernel, by decide +kernel⟩⟩,
  ⟨⟨(zw6 28 rfl rfl), (zw6 29 rfl rfl), (zw1 16 rfl rfl)⟩, zme_210, ⟨by decide +kernel, by decide +kernel⟩⟩,
  ⟨⟨(zw6 34 rfl rfl), (zw6 35 rfl rfl), (zw1 16 rfl rfl)⟩, zme_212, ⟨by decide +kernel, by decide +kernel⟩⟩,
  ⟨⟨(zw6 137 rfl rfl), (zw6 139 rfl rfl), (zwp2 13 rfl), (zw1 16 rfl rfl)⟩, zme_237, ⟨by decide +kernel, by decide +kernel⟩, by decide +kernel, by decide +kernel⟩,
  ⟨⟨(zw6 31 rfl rfl), (zw6 32 rfl rfl), (zw1 16 rfl rfl)⟩, zme_211, ⟨by decide +kernel, by decide +kernel⟩⟩,
  ⟨⟨(zw6 171 rfl rfl), (zw6 173 rfl rfl), (zwp3 4 rfl), (zw1 16 rfl rfl)⟩, zme_245, ⟨by decide +kernel, by decide +kernel⟩, by decide +kernel, by decide +kernel⟩,
  ⟨⟨(zw6 224 rfl rfl), (zw6 226 rfl rfl), (zwp3 9 rfl), (zw1 16 rfl rfl)⟩, zme_258, ⟨by decide +kernel, by decide +kernel⟩, by decide +kernel, by decide +kernel⟩,
  ⟨⟨(zw6 28 rfl rfl), (zw6 29 rfl rfl), (zw1 16 rfl rfl)⟩, zme_210, ⟨by decide +kernel, by decide +kernel⟩⟩,
  ⟨⟨(zw6 34 rfl rfl), (zw6 35 rfl rfl), (zw1 16 rfl rfl)⟩, zme_212, ⟨by decide +kernel, by decide +kernel⟩⟩,
  ⟨⟨(zw6 121 rfl rfl), (zw6 123 rfl rfl), (zwp2 9 rfl), (zw1 16 rfl rfl)⟩, zme_233, ⟨by decide +kernel, by decide +kernel⟩, by decide +kernel, by decide +kernel⟩,
  ⟨⟨(zw6 28 rfl rfl), (zw6 29 rfl rfl), (zw1 16 rfl rfl)⟩, zme_210, ⟨by decide +kernel, by decide +kernel⟩⟩, trivial⟩
theorem zst_ok5 : zAll zsP zst_5 := ⟨⟨⟨(zw6 137 rfl rfl), (zw6 139 rfl rfl), (zwp2 13 rfl), (zw1 16 rfl rfl)⟩, zme_237, ⟨by decide +kernel, by decide +kernel⟩, by decide +kernel, by decide +kernel⟩,
  ⟨⟨(zw6 171 rfl rfl), (zw6 173 rfl rfl), (zwp3 4 rfl), (zw1 16 rfl rfl)⟩, zme_245, ⟨by decide +kernel, by decide +kernel⟩, by decide +kernel, by decide +kernel⟩,
  ⟨⟨(zw6 121 rfl rfl), (zw6 123 rfl rfl), (zwp2 9 rfl), (zw1 16 rfl rfl)⟩, zme_233, ⟨by decide +kernel, by decide +kernel⟩, by decide +kernel, by decide +kernel⟩,
  ⟨⟨(zw6 28 rfl rfl), (zw6 29 rfl rfl), (zw1 16 rfl rfl)⟩, zme_210, ⟨by decide +kernel, by decide +kernel⟩⟩,
  ⟨⟨(zw6 92 rfl rfl), (zw6 94 rfl rfl), (zwp2 6 rfl), (zw1 16 rfl rfl)⟩, zme_226, ⟨by decide +kernel, by decide +kernel⟩, by decide +kernel, by decide +kernel⟩,
  ⟨⟨(zw6 92 rfl rfl), (zw6 94 rfl rfl), (zwp2 6 rfl), (zw1 16 rfl rfl)⟩, zme_226, ⟨by decide +kernel, by decide +kernel⟩, by decide +kernel, by decide +kernel⟩,
  ⟨⟨(zw6 224 rfl rfl), (zw6 226 rfl rfl), (zwp3 9 rfl), (zw1 16 rfl rfl)⟩, zme_258, ⟨by decide +kernel, by decide +kernel⟩, by decide +kernel, by decide +kernel⟩,
  ⟨⟨(zw6 31 rfl rfl), (zw6 32 rfl rfl), (zw1 16 rfl rfl)⟩, zme_211, ⟨by decide +kernel, by decide +kernel⟩⟩,
  ⟨⟨(zw6 168 rfl rfl), (zw6 169 rfl rfl), (zw1 16 rfl rfl)⟩, zme_244, ⟨by decide +kernel, by decide +kernel⟩⟩,
  ⟨⟨(zw6 224 rfl rfl), (zw6 226 rfl rfl), (zwp3 9 rfl), (zw1 16 rfl rfl)⟩, zme_258, ⟨by decide +kernel, by decide +kernel⟩, by decide +kernel, by decide +kernel⟩,
  ⟨⟨(zw7 5 rfl rfl), (zw7 7 rfl rfl), (zwp3 10 rfl), (zw1 16 rfl rfl)⟩, zme_263, ⟨by decide +kernel, by decide +kernel⟩, by decide +kernel, by decide +kernel⟩,
  ⟨⟨(zw6 92 rfl rfl), (zw6 94 rfl rfl), (zwp2 6 rfl), (zw1 16 rfl rfl)⟩, zme_226, ⟨by decide +kernel, by decide +kernel⟩, by decide +kernel, by decide +kernel⟩,
  ⟨⟨(zw6 168 rfl rfl), (zw6 169 rfl rfl), (zw1 16 rfl rfl)⟩, zme_244, ⟨by decide +kernel, by decide +kernel⟩⟩,
  ⟨⟨(zw6 224 rfl rfl), (zw6 226 rfl rfl), (zwp3 9 rfl), (zw1 16 rfl rfl)⟩, zme_258, ⟨by decide +kernel, by decide +kernel⟩, by decide +kernel, by decide +kernel⟩,
  ⟨⟨(zw7 5 rfl rfl), (zw7 7 rfl rfl), (zwp3 10 rfl), (zw1 16 rfl rfl)⟩, zme_263, ⟨by decide +kernel, by decide +kernel⟩, by decide +kernel, by decide +kernel⟩,
  ⟨⟨(zw6 92 rfl rfl), (zw6 94 rfl rfl), (zwp2 6 rfl), (zw1 16 rfl rfl)⟩, zme_226, ⟨by decide +kernel, by decide +kernel⟩, by decide +kernel, by decide +kernel⟩,
  ⟨⟨(zw6 168 rfl rfl), (zw6 169 rfl rfl), (zw1 16 rfl rfl)⟩, zme_244, ⟨by decide +kernel, by decide +kernel⟩⟩,
  ⟨⟨(zw6 224 rfl rfl), (zw6 226 rfl rfl), (zwp3 9 rfl), (zw1 16 rfl rfl)⟩, zme_258, ⟨by decide +kernel, by decide +kernel⟩, by decide +kernel, by decide +kernel⟩,
  ⟨⟨(zw7 17 rfl rfl), (zw7 19 rfl rfl), (zwp3 11 rfl), (zw1 16 rfl rfl)⟩, zme_266, ⟨by decide +kernel, by decide +kernel⟩, by decide +kernel, by decide +kernel⟩,
  ⟨⟨(zw7 46 rfl rfl), (zw7 48 rfl rfl), (zwp3 15 rfl), (zw1 16 rfl rfl)⟩, zme_270, ⟨by decide +kernel, by decide +kernel⟩, by decide +kernel, by decide +kernel⟩,
  ⟨⟨(zw7 35 rfl rfl), (zw7 37 rfl rfl), (zwp3 13 rfl), (zw1 16 rfl rfl)⟩, zme_268, ⟨by decide +kernel, by decide +kernel⟩, by decide +kernel, by decide +kernel⟩,
  ⟨⟨(zw7 21 rfl rfl), (zw7 23 rfl rfl), (zwp3 12 rfl), (zw1 16 rfl rfl)⟩, zme_267, ⟨by decide +kernel, by decide +kernel⟩, by decide +kernel, by decide +kernel⟩,
  ⟨⟨(zw7 39 rfl rfl), (zw7 41 rfl rfl), (zwp3 14 rfl), (zw1 16 rfl rfl)⟩, zme_269, ⟨by decide +kernel, by decide +kernel⟩, by decide +kernel, by decide +kernel⟩,
  ⟨⟨(zw7 33 rfl rfl), (zw4 76 rfl rfl), (zw4 77 rfl rfl), (zw1 14 rfl rfl)⟩, zme_122, ⟨by decide +kernel, by decide +kernel⟩, by decide +kernel, by decide +kernel⟩,
  ⟨⟨(zw7 34 rfl rfl), (zw5 135 rfl rfl), (zw5 136 rfl rfl), (zw1 14 rfl rfl)⟩, zme_189, ⟨by decide +kernel, by decide +kernel⟩, by decide +kernel, by decide +kernel⟩,
  ⟨⟨(zw7 35 rfl rfl), (zw7 37 rfl rfl), (zwp3 13 rfl), (zw1 16 rfl rfl)⟩, zme_268, ⟨by decide +kernel, by decide +kernel⟩, by decide +kernel, by decide +kernel⟩,
  ⟨⟨(zw7 35 rfl rfl), (zw7 37 rfl rfl), (zwp3 13 rfl), (zw1 16 rfl rfl)⟩, zme_268, ⟨by decide +kernel, by decide +kernel⟩, by decide +kernel, by decide +kernel⟩,
  ⟨⟨(zw6 31 rfl rfl), (zw6 32 rfl rfl), (zw1 16 rfl rfl)⟩, zme_211, ⟨by decide +kernel, by decide +kernel⟩⟩,
  ⟨⟨(zw6 224 rfl rfl), (zw6 226 rfl rfl), (zwp3 9 rfl), (zw1 16 rfl rfl)⟩, zme_258, ⟨by decide +kernel, by decide +kernel⟩, by decide +kernel, by decide +kernel⟩,
  ⟨⟨(zw7 54 rfl rfl), (zw7 56 rfl rfl), (zwp4 0 rfl), (zw1 16 rfl rfl)⟩, zme_272, ⟨by decide +kernel, by decide +kernel⟩, by decide +kernel, by decide +kernel⟩,
  ⟨⟨(zw6 92 rfl rfl), (zw6 94 rfl rfl), (zwp2 6 rfl), (zw1 16 rfl rfl)⟩, zme_226, ⟨by decide +kernel, by decide +kernel⟩, by decide +kernel, by decide +kernel⟩,
  ⟨⟨(zw6 168 rfl rfl), (zw6 169 rfl rfl), (zw1 16 rfl rfl)⟩, zme_244, ⟨by decide +kernel, by decide +kernel⟩⟩,
  ⟨⟨(zw6 28 rfl rfl), (zw6 29 rfl rfl), (zw1 16 rfl rfl)⟩, zme_210, ⟨by decide +kernel, by decide +kernel⟩⟩,
  ⟨⟨(zw6 121 rfl rfl), (zw6 123 rfl rfl), (zwp2 9 rfl), (zw1 16 rfl rfl)⟩, zme_233, ⟨by decide +kernel, by decide +kernel⟩, by decide +kernel, by decide +kernel⟩,
  ⟨⟨(zw7 63 rfl rfl), (zw7 65 rfl rfl), (zwp4 1 rfl), (zw1 16 rfl rfl)⟩, zme_274, ⟨by decide +kernel, by decide +kernel⟩, by decide +kernel, by decide +kernel⟩,
  ⟨⟨(zw5 214 rfl rfl), (zw5 215 rfl rfl), (zw1 16 rfl rfl)⟩, zme_208, ⟨by decide +kernel, by decide +kernel⟩⟩,
  ⟨⟨(zw6 121 rfl rfl), (zw6 123 rfl rfl), (zwp2 9 rfl), (zw1 16 rfl rfl)⟩, zme_233, ⟨by decide +kernel, by decide +kernel⟩, by decide +kernel, by decide +kernel⟩,
  ⟨⟨(zw6 125 rfl rfl), (zw6 127 rfl rfl), (zwp2 10 rfl), (zw1 16 rfl rfl)⟩, zme_234, ⟨by decide +kernel, by decide +kernel⟩, by decide +kernel, by decide +kernel⟩,
  ⟨⟨(zw7 54 rfl rfl), (zw7 56 rfl rfl), (zwp4 0 rfl), (zw1 16 rfl rfl)⟩, zme_272, ⟨by decide +kernel, by decide +kernel⟩, by decide +kernel, by decide +kernel⟩,
  ⟨⟨(zw7 67 rfl rfl), (zw7 69 rfl rfl), (zwp4 2 rfl), (zw1 16 rfl rfl)⟩, zme_275, ⟨by decide +kernel, by decide +kernel⟩, by decide +kernel, by decide +kernel⟩,
  ⟨⟨(zw7 71 rfl rfl), (zw7 73 rfl rfl), (zwp4 3 rfl), (zw1 16 rfl rfl)⟩, zme_276, ⟨by decide +kernel, by decide +kernel⟩, by decide +kernel, by decide +kernel⟩,
  ⟨(zw6 50 rfl rfl), (zw2 118 rfl rfl), (zw2 117 rfl rfl), (zw1 17 rfl rfl), by decide +kernel, by decide +kernel⟩,
  ⟨(zw6 50 rfl rfl), (zw2 118 rfl rfl), (zw2 117 rfl rfl), (zw1 17 rfl rfl), by decide +kernel, by decide +kernel⟩,
  ⟨⟨(zw6 28 rfl rfl), (zw6 29 rfl rfl), (zw1 16 rfl rfl)⟩, zme_210, ⟨by decide +kernel, by decide +kernel⟩⟩,
  ⟨⟨(zw6 121 rfl rfl), (zw6 123 rfl rfl), (zwp2 9 rfl), (zw1 16 rfl rfl)⟩, zme_233, ⟨by decide +kernel, by decide +kernel⟩, by decide +kernel, by decide +kernel⟩,
  ⟨⟨(zw7 63 rfl rfl), (zw7 65 rfl rfl), (zwp4 1 rfl), (zw1 16 rfl rfl)⟩, zme_274, ⟨by decide +kernel, by decide +kernel⟩, by decide +kernel, by decide +kernel⟩,
  ⟨⟨(zw6 31 rfl rfl), (zw6 32 rfl rfl), (zw1 16 rfl rfl)⟩, zme_211, ⟨by decide +kernel, by decide +kernel⟩⟩,
  ⟨⟨(zw6 28 rfl rfl), (zw6 29 rfl rfl), (zw1 16 rfl rfl)⟩, zme_210, ⟨by decide +kernel, by decide +kernel⟩⟩,
  ⟨⟨(zw6 92 rfl rfl), (zw6 94 rfl rfl), (zwp2 6 rfl), (zw1 16 rfl rfl)⟩, zme_226, ⟨by decide +kernel, by decide +kernel⟩, by decide +kernel, by decide +kernel⟩,
  ⟨⟨(zw6 141 rfl rfl), (zw6 143 rfl rfl), (zwp2 14 rfl), (zw1 16 rfl rfl)⟩, zme_238, ⟨by decide +kernel, by decide +kernel⟩, by decide +kernel, by decide +kernel⟩,
  ⟨⟨(zw6 149 rfl rfl), (zw6 151 rfl rfl), (zwp3 0 rfl), (zw1 16 rfl rfl)⟩, zme_240, ⟨by decide +kernel, by decide +kernel⟩, by decide +kernel, by decide +kernel⟩,
  ⟨⟨(zw6 121 rfl rfl), (zw6 123 rfl rfl), (zwp2 9 rfl), (zw1 16 rfl rfl)⟩, zme_233, ⟨by decide +kernel, by decide +kernel⟩, by decide +kernel, by decide +kernel⟩,
  ⟨⟨(zw6 28 rfl rfl), (zw6 29 rfl rfl), (zw1 16 rfl rfl)⟩, zme_210, ⟨by decide +kernel, by decide +kernel⟩⟩,
  ⟨⟨(zw6 121 rfl rfl), (zw6 123 rfl rfl), (zwp2 9 rfl), (zw1 16 rfl rfl)⟩, zme_233, ⟨by decide +kernel, by decide +kernel⟩, by decide +kernel, by decide +kernel⟩,
  ⟨⟨(zw6 125 rfl rfl), (zw6 127 rfl rfl), (zwp2 10 rfl), (zw1 16 rfl rfl)⟩, zme_234, ⟨by decide +kernel, by decide +kernel⟩, by decide +kernel, by decide +kernel⟩,
  ⟨⟨(zw7 67 rfl rfl), (zw7 69 rfl rfl), (zwp4 2 rfl), (zw1 16 rfl rfl)⟩, zme_275, ⟨by decide +kernel, by decide +kernel⟩, by decide +kernel, by decide +kernel⟩,
  ⟨⟨(zw7 71 rfl rfl), (zw7 73 rfl rfl), (zwp4 3 rfl), (zw1 16 rfl rfl)⟩, zme_276, ⟨by decide +kernel, by decide +kernel⟩, by decide +kernel, by decide +kernel⟩,
  ⟨⟨(zw7 87 rfl rfl), (zw7 89 rfl rfl), (zwp4 4 rfl), (zw1 16 rfl rfl)⟩, zme_280, ⟨by decide +kernel, by decide +kernel⟩, by decide +kernel, by decide +kernel⟩,
  ⟨⟨(zw6 121 rfl rfl), (zw6 123 rfl rfl), (zwp2 9 rfl), (zw1 16 rfl rfl)⟩, zme_233, ⟨by decide +kernel, by decide +kernel⟩, by decide +kernel, by decide +kernel⟩,
  ⟨⟨(zw7 54 rfl rfl), (zw7 56 rfl rfl), (zwp4 0 rfl), (zw1 16 rfl rfl)⟩, zme_272, ⟨by decide +kernel, by decide +kernel⟩, by decide +kernel, by decide +kernel⟩,
  ⟨⟨(zw6 31 rfl rfl), (zw6 32 rfl rfl), (zw1 16 rfl rfl)⟩, zme_211, ⟨by decide +kernel, by decide +kernel⟩⟩,
  ⟨⟨(zw6 28 rfl rfl), (zw6 29 rfl rfl), (zw1 16 rfl rfl)⟩, zme_210, ⟨by decide +kernel, by decide +kernel⟩⟩,
  ⟨⟨(zw7 95 rfl rfl), (zw7 97 rfl rfl), (zwp4 5 rfl), (zw1 16 rfl rfl)⟩, zme_282, ⟨by decide +kernel, by decide +kernel⟩, by decide +kernel, by decide +kernel⟩,
  ⟨⟨(zw6 31 rfl rfl), (zw6 32 rfl rfl), (zw1 16 rfl rfl)⟩, zme_211, ⟨by decide +kernel, by decide +kernel⟩⟩,
  ⟨⟨(zw6 121 rfl rfl), (zw6 123 rfl rfl), (zwp2 9 rfl), (zw1 16 rfl rfl)⟩, zme_233, ⟨by decide +kernel, by decide +kernel⟩, by decide +kernel, by decide +kernel⟩,
  ⟨⟨(zw7 99 rfl rfl), (zw7 101 rfl rfl), (zwp4 6 rfl), (zw1 16 rfl rfl)⟩, zme_283, ⟨by decide +kernel, by decide +kernel⟩, by decide +kernel, by decide +kernel⟩,
  ⟨⟨(zw6 92 rfl rfl), (zw6 94 rfl rfl), (zwp2 6 rfl), (zw1 16 rfl rfl)⟩, zme_226, ⟨by decide +kernel, by decide +kernel⟩, by decide +kernel, by decide +kernel⟩,
  ⟨⟨(zw6 168 rfl rfl), (zw6 169 rfl rfl), (zw1 16 rfl rfl)⟩, zme_244, ⟨by decide +kernel, by decide +kernel⟩⟩,
  ⟨⟨(zw6 31 rfl rfl), (zw6 32 rfl rfl), (zw1 16 rfl rfl)⟩, zme_211, ⟨by decide +kernel, by decide +kernel⟩⟩,
  ⟨⟨(zw6 28 rfl rfl), (zw6 29 rfl rfl), (zw1 16 rfl rfl)⟩, zme_210, ⟨by decide +kernel, by decide +kernel⟩⟩,
  ⟨⟨(zw6 141 rfl rfl), (zw6 143 rfl rfl), (zwp2 14 rfl), (zw1 16 rfl rfl)⟩, zme_238, ⟨by decide +kernel, by decide +kernel⟩, by decide +kernel, by decide +kernel⟩,
  ⟨⟨(zw6 149 rfl rfl), (zw6 151 rfl rfl), (zwp3 0 rfl), (zw1 16 rfl rfl)⟩, zme_240, ⟨by decide +kernel, by decide +kernel⟩, by decide +kernel, by decide +kernel⟩,
  ⟨⟨(zw6 121 rfl rfl), (zw6 123 rfl rfl), (zwp2 9 rfl), (zw1 16 rfl rfl)⟩, zme_233, ⟨by decide +kernel, by decide +kernel⟩, by decide +kernel, by decide +kernel⟩,
  ⟨⟨(zw6 31 rfl rfl), (zw6 32 rfl rfl), (zw1 16 rfl rfl)⟩, zme_211, ⟨by decide +kernel, by decide +kernel⟩⟩,
  ⟨⟨(zw6 34 rfl rfl), (zw6 35 rfl rfl), (zw1 16 rfl rfl)⟩, zme_212, ⟨by decide +kernel, by decide +kernel⟩⟩,
  ⟨⟨(zw6 121 rfl rfl), (zw6 123 rfl rfl), (zwp2 9 rfl), (zw1 16 rfl rfl)⟩, zme_233, ⟨by decide +kernel, by decide +kernel⟩, by decide +kernel, by decide +kernel⟩,
  ⟨⟨(zw7 99 rfl rfl), (zw7 101 rfl rfl), (zwp4 6 rfl), (zw1 16 rfl rfl)⟩, zme_283, ⟨by decide +kernel, by decide +kernel⟩, by decide +kernel, by decide +kernel⟩,
  ⟨⟨(zw6 28 rfl rfl), (zw6 29 rfl rfl), (zw1 16 rfl rfl)⟩, zme_210, ⟨by decide +kernel, by decide +kernel⟩⟩,
  ⟨⟨(zw6 141 rfl rfl), (zw6 143 rfl rfl), (zwp2 14 rfl), (zw1 16 rfl rfl)⟩, zme_238, ⟨by decide +kernel, by decide +kernel⟩, by decide +kernel, by decide +kernel⟩,
  ⟨⟨(zw6 149 rfl rfl), (zw6 151 rfl rfl), (zwp3 0 rfl), (zw1 16 rfl rfl)⟩, zme_240, ⟨by decide +kernel, by decide +kernel⟩, by decide +kernel, by decide +kernel⟩,
  ⟨⟨(zw6 121 rfl rfl), (zw6 123 rfl rfl), (zwp2 9 rfl), (zw1 16 rfl rfl)⟩, zme_233, ⟨by decide +kernel, by decide +kernel⟩, by decide +kernel, by decide +kernel⟩,
  ⟨⟨(zw7 17 rfl rfl), (zw7 19 rfl rfl), (zwp3 11 rfl), (zw1 16 rfl rfl)⟩, zme_266, ⟨by decide +kernel, by decide +kernel⟩, by decide +kernel, by decide +kernel⟩,
  ⟨⟨(zw7 46 rfl rfl), (zw7 48 rfl rfl), (zwp3 15 rfl), (zw1 16 rfl rfl)⟩, zme_270, ⟨by decide +kernel, by decide +kernel⟩, by decide +kernel, by decide +kernel⟩,
  ⟨⟨(zw7 95 rfl rfl), (zw7 97 rfl rfl), (zwp4 5 rfl), (zw1 16 rfl rfl)⟩, zme_282, ⟨by decide +kernel, by decide +kernel⟩, by decide +kernel, by decide +kernel⟩,
  ⟨⟨(zw6 28 rfl rfl), (zw6 29 rfl rfl), (zw1 16 rfl rfl)⟩, zme_210, ⟨by decide +kernel, by decide +kernel⟩⟩,
  ⟨⟨(zw6 121 rfl rfl), (zw6 123 rfl rfl), (zwp2 9 rfl), (zw1 16 rfl rfl)⟩, zme_233, ⟨by decide +kernel, by decide +kernel⟩, by decide +kernel, by decide +kernel⟩,
  ⟨⟨(zw7 54 rfl rfl), (zw7 56 rfl rfl), (zwp4 0 rfl), (zw1 16 rfl rfl)⟩, zme_272, ⟨by decide +kernel, by decide +kernel⟩, by decide +kernel, by decide +kernel⟩,
  ⟨⟨(zw6 92 rfl rfl), (zw6 94 rfl rfl), (zwp2 6 rfl), (zw1 16 rfl rfl)⟩, zme_226, ⟨by decide +kernel, by decide +kernel⟩, by decide +kernel, by decide +kernel⟩,
  ⟨⟨(zw6 168 rfl rfl), (zw6 169 rfl rfl), (zw1 16 rfl rfl)⟩, zme_244, ⟨by decide +kernel, by decide +kernel⟩⟩,
  ⟨⟨(zw6 224 rfl rfl), (zw6 226 rfl rfl), (zwp3 9 rfl), (zw1 16 rfl rfl)⟩, zme_258, ⟨by decide +kernel, by decide +kernel⟩, by decide +kernel, by decide +kernel⟩,
  ⟨⟨(zw6 31 rfl rfl), (zw6 32 rfl rfl), (zw1 16 rfl rfl)⟩, zme_211, ⟨by decide +kernel, by decide +kernel⟩⟩,
  ⟨⟨(zw6 45 rfl rfl), (zw6 47 rfl rfl), (zwp2 3 rfl), (zw1 16 rfl rfl)⟩, zme_215, ⟨by decide +kernel, by decide +kernel⟩, by decide +kernel, by decide +kernel⟩,
  ⟨(zw6 50 rfl rfl), (zw2 118 rfl rfl), (zw2 117 rfl rfl), (zw1 17 rfl rfl), by decide +kernel, by decide +kernel⟩,
  ⟨⟨(zw7 136 rfl rfl), (zw7 138 rfl rfl), (zwp4 8 rfl), (zw1 16 rfl rfl)⟩, zme_292, ⟨by decide +kernel, by decide +kernel⟩, by decide +kernel, by decide +kernel⟩,
  ⟨⟨(zw7 132 rfl rfl), (zw7 134 rfl rfl), (zwp4 7 rfl), (zw1 16 rfl rfl)⟩, zme_291, ⟨by decide +kernel, by decide +kernel⟩, by decide +kernel, by decide +kernel⟩,
  ⟨⟨(zw6 31 rfl rfl), (zw6 32 rfl rfl), (zw1 16 rfl rfl)⟩, zme_211, ⟨by decide +kernel, by decide +kernel⟩⟩,
  ⟨⟨(zw7 136 rfl rfl), (zw7 138 rfl rfl), (zwp4 8 rfl), (zw1 16 rfl rfl)⟩, zme_292, ⟨by decide +kernel, by decide +kernel⟩, by decide +kernel, by decide +kernel⟩,
  ⟨⟨(zw7 140 rfl rfl), (zw7 142 rfl rfl), (zwp4 9 rfl), (zw1 16 rfl rfl)⟩, zme_293, ⟨by decide +kernel, by decide +kernel⟩, by decide +kernel, by decide +kernel⟩,
  ⟨⟨(zw7 162 rfl rfl), (zw7 164 rfl rfl), (zwp4 11 rfl), (zw1 16 rfl rfl)⟩, zme_295, ⟨by decide +kernel, by decide +kernel⟩, by decide +kernel, by decide +kernel⟩,
  ⟨⟨(zw7 166 rfl rfl), (zw7 168 rfl rfl), (zwp4 12 rfl), (zw1 16 rfl rfl)⟩, zme_296, ⟨by decide +kernel, by decide +kernel⟩, by decide +kernel, by decide +kernel⟩, trivial⟩
theorem zst_ok6 : zAll zsP zst_6 := ⟨⟨⟨(zw7 158 rfl rfl), (zw7 160 rfl rfl), (zwp4 10 rfl), (zw1 16 rfl rfl)⟩, zme_294, ⟨by decide +kernel, by decide +kernel⟩, by decide +kernel, by decide +kernel⟩,
  ⟨⟨(zw7 33 rfl rfl), (zw4 76 rfl rfl), (zw4 77 rfl rfl), (zw1 14 rfl rfl)⟩, zme_122, ⟨by decide +kernel, by decide +kernel⟩, by decide +kernel, by decide +kernel⟩,
  ⟨⟨(zw7 34 rfl rfl), (zw5 135 rfl rfl), (zw5 136 rfl rfl), (zw1 14 rfl rfl)⟩, zme_189, ⟨by decide +kernel, by decide +kernel⟩, by decide +kernel, by decide +kernel⟩,
  ⟨⟨(zw6 31 rfl rfl), (zw6 32 rfl rfl), (zw1 16 rfl rfl)⟩, zme_211, ⟨by decide +kernel, by decide +kernel⟩⟩,
  ⟨⟨(zw7 136 rfl rfl), (zw7 138 rfl rfl), (zwp4 8 rfl), (zw1 16 rfl rfl)⟩, zme_292, ⟨by decide +kernel, by decide +kernel⟩, by decide +kernel, by decide +kernel⟩,
  ⟨⟨(zw7 170 rfl rfl), (zw6 25 rfl rfl), (zw6 26 rfl rfl), (zw1 16 rfl rfl)⟩, zme_209, ⟨by decide +kernel, by decide +kernel⟩, by decide +kernel, by decide +kernel⟩,
  ⟨⟨(zw7 171 rfl rfl), (zw6 52 rfl rfl), (zw6 53 rfl rfl), (zw1 16 rfl rfl)⟩, zme_216, ⟨by decide +kernel, by decide +kernel⟩, by decide +kernel, by decide +kernel⟩,
  ⟨⟨(zw7 172 rfl rfl), (zw6 56 rfl rfl), (zw6 57 rfl rfl), (zw1 16 rfl rfl)⟩, zme_217, ⟨by decide +kernel, by decide +kernel⟩, by decide +kernel, by decide +kernel⟩,
  ⟨⟨(zw7 173 rfl rfl), (zw6 85 rfl rfl), (zw6 86 rfl rfl), (zw1 16 rfl rfl)⟩, zme_224, ⟨by decide +kernel, by decide +kernel⟩, by decide +kernel, by decide +kernel⟩,
  ⟨⟨(zw7 174 rfl rfl), (zw6 98 rfl rfl), (zw6 99 rfl rfl), (zw1 16 rfl rfl)⟩, zme_227, ⟨by decide +kernel, by decide +kernel⟩, by decide +kernel, by decide +kernel⟩,
  ⟨⟨(zw7 175 rfl rfl), (zw6 114 rfl rfl), (zw6 115 rfl rfl), (zw1 16 rfl rfl)⟩, zme_231, ⟨by decide +kernel, by decide +kernel⟩, by decide +kernel, by decide +kernel⟩,
  ⟨⟨(zw7 176 rfl rfl), (zw6 60 rfl rfl), (zw6 61 rfl rfl), (zw1 16 rfl rfl)⟩, zme_218, ⟨by decide +kernel, by decide +kernel⟩, by decide +kernel, by decide +kernel⟩,
  ⟨⟨(zw7 177 rfl rfl), (zw6 64 rfl rfl), (zw6 65 rfl rfl), (zw1 16 rfl rfl)⟩, zme_219, ⟨by decide +kernel, by decide +kernel⟩, by decide +kernel, by decide +kernel⟩,
  ⟨⟨(zw7 178 rfl rfl), (zw6 72 rfl rfl), (zw6 73 rfl rfl), (zw1 16 rfl rfl)⟩, zme_221, ⟨by decide +kernel, by decide +kernel⟩, by decide +kernel, by decide +kernel⟩,
  ⟨⟨(zw7 179 rfl rfl), (zw6 77 rfl rfl), (zw6 78 rfl rfl), (zw1 16 rfl rfl)⟩, zme_222, ⟨by decide +kernel, by decide +kernel⟩, by decide +kernel, by decide +kernel⟩,
  ⟨⟨(zw7 180 rfl rfl), (zw6 102 rfl rfl), (zw6 103 rfl rfl), (zw1 16 rfl rfl)⟩, zme_228, ⟨by decide +kernel, by decide +kernel⟩, by decide +kernel, by decide +kernel⟩,
  ⟨⟨(zw7 181 rfl rfl), (zw6 118 rfl rfl), (zw6 119 rfl rfl), (zw1 16 rfl rfl)⟩, zme_232, ⟨by decide +kernel, by decide +kernel⟩, by decide +kernel, by decide +kernel⟩,
  ⟨(zw6 50 rfl rfl), (zw2 118 rfl rfl), (zw2 117 rfl rfl), (zw1 17 rfl rfl), by decide +kernel, by decide +kernel⟩,
  ⟨⟨(zw6 121 rfl rfl), (zw6 123 rfl rfl), (zwp2 9 rfl), (zw1 16 rfl rfl)⟩, zme_233, ⟨by decide +kernel, by decide +kernel⟩, by decide +kernel, by decide +kernel⟩,
  ⟨(zw6 50 rfl rfl), (zw2 118 rfl rfl), (zw2 117 rfl rfl), (zw1 17 rfl rfl), by decide +kernel, by decide +kernel⟩,
  ⟨⟨(zw6 41 rfl rfl), (zw6 43 rfl rfl), (zwp2 2 rfl), (zw1 16 rfl rfl)⟩, zme_214, ⟨by decide +kernel, by decide +kernel⟩, by decide +kernel, by decide +kernel⟩,
  ⟨⟨(zw6 121 rfl rfl), (zw6 123 rfl rfl), (zwp2 9 rfl), (zw1 16 rfl rfl)⟩, zme_233, ⟨by decide +kernel, by decide +kernel⟩, by decide +kernel, by decide +kernel⟩,
  ⟨(zw6 50 rfl rfl), (zw2 118 rfl rfl), (zw2 117 rfl rfl), (zw1 17 rfl rfl), by decide +kernel, by decide +kernel⟩,
  ⟨⟨(zw1 26 rfl rfl), (zw1 27 rfl rfl), (zw1 1 rfl rfl)⟩, zme_0, ⟨by decide +kernel, by decide +kernel⟩, by decide +kernel, by decide +kernel⟩,
  ⟨⟨(zw5 208 rfl rfl), (zw5 209 rfl rfl), (zw1 16 rfl rfl)⟩, zme_207, ⟨by decide +kernel, by decide +kernel⟩, by decide +kernel, by decide +kernel⟩,
  ⟨⟨(zw2 100 rfl rfl), (zw2 101 rfl rfl), (zw2 102 rfl rfl), (zw1 1 rfl rfl)⟩, zme_16, ⟨by decide +kernel, by decide +kernel⟩, by decide +kernel, by decide +kernel⟩,
  ⟨⟨(zw6 24 rfl rfl), (zw6 25 rfl rfl), (zw6 26 rfl rfl), (zw1 16 rfl rfl)⟩, zme_209, ⟨by decide +kernel, by decide +kernel⟩, by decide +kernel, by decide +kernel⟩,
  ⟨⟨(zw2 154 rfl rfl), (zw2 155 rfl rfl), (zw2 156 rfl rfl), (zw1 1 rfl rfl)⟩, zme_29, ⟨by decide +kernel, by decide +kernel⟩, by decide +kernel, by decide +kernel⟩,
  ⟨⟨(zw6 51 rfl rfl), (zw6 52 rfl rfl), (zw6 53 rfl rfl), (zw1 16 rfl rfl)⟩, zme_216, ⟨by decide +kernel, by decide +kernel⟩, by decide +kernel, by decide +kernel⟩,
  ⟨⟨(zw2 162 rfl rfl), (zw2 163 rfl rfl), (zw2 164 rfl rfl), (zw1 1 rfl rfl)⟩, zme_31, ⟨by decide +kernel, by decide +kernel⟩, by decide +kernel, by decide +kernel⟩,
  ⟨⟨(zw6 55 rfl rfl), (zw6 56 rfl rfl), (zw6 57 rfl rfl), (zw1 16 rfl rfl)⟩, zme_217, ⟨by decide +kernel, by decide +kernel⟩, by decide +kernel, by decide +kernel⟩,
  ⟨⟨(zw2 170 rfl rfl), (zw2 171 rfl rfl), (zw2 172 rfl rfl), (zw1 1 rfl rfl)⟩, zme_33, ⟨by decide +kernel, by decide +kernel⟩, by decide +kernel, by decide +kernel⟩,
  ⟨⟨(zw6 59 rfl rfl), (zw6 60 rfl rfl), (zw6 61 rfl rfl), (zw1 16 rfl rfl)⟩, zme_218, ⟨by decide +kernel, by decide +kernel⟩, by decide +kernel, by decide +kernel⟩,
  ⟨⟨(zw2 178 rfl rfl), (zw2 179 rfl rfl), (zw2 180 rfl rfl), (zw1 1 rfl rfl)⟩, zme_35, ⟨by decide +kernel, by decide +kernel⟩, by decide +kernel, by decide +kernel⟩,
  ⟨⟨(zw6 63 rfl rfl), (zw6 64 rfl rfl), (zw6 65 rfl rfl), (zw1 16 rfl rfl)⟩, zme_219, ⟨by decide +kernel, by decide +kernel⟩, by decide +kernel, by decide +kernel⟩,
  ⟨⟨(zw2 186 rfl rfl), (zw2 187 rfl rfl), (zw2 188 rfl rfl), (zw1 1 rfl rfl)⟩, zme_37, ⟨by decide +kernel, by decide +kernel⟩, by decide +kernel, by decide +kernel⟩,
  ⟨⟨(zw6 71 rfl rfl), (zw6 72 rfl rfl), (zw6 73 rfl rfl), (zw1 16 rfl rfl)⟩, zme_221, ⟨by decide +kernel, by decide +kernel⟩, by decide +kernel, by decide +kernel⟩,
  ⟨⟨(zw2 195 rfl rfl), (zw2 196 rfl rfl), (zw2 197 rfl rfl), (zw1 1 rfl rfl)⟩, zme_39, ⟨by decide +kernel, by decide +kernel⟩, by decide +kernel, by decide +kernel⟩,
  ⟨⟨(zw6 76 rfl rfl), (zw6 77 rfl rfl), (zw6 78 rfl rfl), (zw1 16 rfl rfl)⟩, zme_222, ⟨by decide +kernel, by decide +kernel⟩, by decide +kernel, by decide +kernel⟩,
  ⟨⟨(zw2 208 rfl rfl), (zw2 209 rfl rfl), (zw2 210 rfl rfl), (zw1 1 rfl rfl)⟩, zme_42, ⟨by decide +kernel, by decide +kernel⟩, by decide +kernel, by decide +kernel⟩,
  ⟨⟨(zw6 80 rfl rfl), (zw6 81 rfl rfl), (zw6 82 rfl rfl), (zw1 16 rfl rfl)⟩, zme_223, ⟨by decide +kernel, by decide +kernel⟩, by decide +kernel, by decide +kernel⟩,
  ⟨⟨(zw2 216 rfl rfl), (zw2 217 rfl rfl), (zw2 218 rfl rfl), (zw1 1 rfl rfl)⟩, zme_44, ⟨by decide +kernel, by decide +kernel⟩, by decide +kernel, by decide +kernel⟩,
  ⟨⟨(zw6 84 rfl rfl), (zw6 85 rfl rfl), (zw6 86 rfl rfl), (zw1 16 rfl rfl)⟩, zme_224, ⟨by decide +kernel, by decide +kernel⟩, by decide +kernel, by decide +kernel⟩,
  ⟨⟨(zw2 229 rfl rfl), (zw2 230 rfl rfl), (zw2 231 rfl rfl), (zw1 1 rfl rfl)⟩, zme_47, ⟨by decide +kernel, by decide +kernel⟩, by decide +kernel, by decide +kernel⟩,
  ⟨⟨(zw6 97 rfl rfl), (zw6 98 rfl rfl), (zw6 99 rfl rfl), (zw1 16 rfl rfl)⟩, zme_227, ⟨by decide +kernel, by decide +kernel⟩, by decide +kernel, by decide +kernel⟩,
  ⟨⟨(zw2 237 rfl rfl), (zw2 238 rfl rfl), (zw2 239 rfl rfl), (zw1 1 rfl rfl)⟩, zme_49, ⟨by decide +kernel, by decide +kernel⟩, by decide +kernel, by decide +kernel⟩,
  ⟨⟨(zw6 101 rfl rfl), (zw6 102 rfl rfl), (zw6 103 rfl rfl), (zw1 16 rfl rfl)⟩, zme_228, ⟨by decide +kernel, by decide +kernel⟩, by decide +kernel, by decide +kernel⟩,
  ⟨⟨(zw3 23 rfl rfl), (zw3 24 rfl rfl), (zw3 25 rfl rfl), (zw1 1 rfl rfl)⟩, zme_55, ⟨by decide +kernel, by decide +kernel⟩, by decide +kernel, by decide +kernel⟩,
  ⟨⟨(zw6 113 rfl rfl), (zw6 114 rfl rfl), (zw6 115 rfl rfl), (zw1 16 rfl rfl)⟩, zme_231, ⟨by decide +kernel, by decide +kernel⟩, by decide +kernel, by decide +kernel⟩,
  ⟨⟨(zw3 32 rfl rfl), (zw3 33 rfl rfl), (zw3 34 rfl rfl), (zw1 1 rfl rfl)⟩, zme_57, ⟨by decide +kernel, by decide +kernel⟩, by decide +kernel, by decide +kernel⟩,
  ⟨⟨(zw6 117 rfl rfl), (zw6 118 rfl rfl), (zw6 119 rfl rfl), (zw1 16 rfl rfl)⟩, zme_232, ⟨by decide +kernel, by decide +kernel⟩, by decide +kernel, by decide +kernel⟩,
  ⟨⟨(zw3 115 rfl rfl), (zw3 116 rfl rfl), (zw3 117 rfl rfl), (zw1 1 rfl rfl)⟩, zme_77, ⟨by decide +kernel, by decide +kernel⟩, by decide +kernel, by decide +kernel⟩,
  ⟨⟨(zw6 191 rfl rfl), (zw6 192 rfl rfl), (zw6 193 rfl rfl), (zw1 16 rfl rfl)⟩, zme_250, ⟨by decide +kernel, by decide +kernel⟩, by decide +kernel, by decide +kernel⟩,
  ⟨⟨(zw3 131 rfl rfl), (zw3 132 rfl rfl), (zw3 133 rfl rfl), (zw1 1 rfl rfl)⟩, zme_81, ⟨by decide +kernel, by decide +kernel⟩, by decide +kernel, by decide +kernel⟩,
  ⟨⟨(zw6 195 rfl rfl), (zw6 196 rfl rfl), (zw6 197 rfl rfl), (zw1 16 rfl rfl)⟩, zme_251, ⟨by decide +kernel, by decide +kernel⟩, by decide +kernel, by decide +kernel⟩,
  ⟨⟨(zw3 135 rfl rfl), (zw3 136 rfl rfl), (zw3 137 rfl rfl), (zw1 1 rfl rfl)⟩, zme_82, ⟨by decide +kernel, by decide +kernel⟩, by decide +kernel, by decide +kernel⟩,
  ⟨⟨(zw6 199 rfl rfl), (zw6 200 rfl rfl), (zw6 201 rfl rfl), (zw1 16 rfl rfl)⟩, zme_252, ⟨by decide +kernel, by decide +kernel⟩, by decide +kernel, by decide +kernel⟩,
  ⟨⟨(zw3 141 rfl rfl), (zw3 142 rfl rfl), (zw3 143 rfl rfl), (zw1 1 rfl rfl)⟩, zme_83, ⟨by decide +kernel, by decide +kernel⟩, by decide +kernel, by decide +kernel⟩,
  ⟨⟨(zw6 203 rfl rfl), (zw6 204 rfl rfl), (zw6 205 rfl rfl), (zw1 16 rfl rfl)⟩, zme_253, ⟨by decide +kernel, by decide +kernel⟩, by decide +kernel, by decide +kernel⟩,
  ⟨⟨(zw3 149 rfl rfl), (zw3 150 rfl rfl), (zw3 151 rfl rfl), (zw1 1 rfl rfl)⟩, zme_85, ⟨by decide +kernel, by decide +kernel⟩, by decide +kernel, by decide +kernel⟩,
  ⟨⟨(zw6 207 rfl rfl), (zw6 208 rfl rfl), (zw6 209 rfl rfl), (zw1 16 rfl rfl)⟩, zme_254, ⟨by decide +kernel, by decide +kernel⟩, by decide +kernel, by decide +kernel⟩,
  ⟨⟨(zw3 154 rfl rfl), (zw3 155 rfl rfl), (zw3 156 rfl rfl), (zw1 1 rfl rfl)⟩, zme_86, ⟨by decide +kernel, by decide +kernel⟩, by decide +kernel, by decide +kernel⟩,
  ⟨⟨(zw6 211 rfl rfl), (zw6 212 rfl rfl), (zw6 213 rfl rfl), (zw1 16 rfl rfl)⟩, zme_255, ⟨by decide +kernel, by decide +kernel⟩, by decide +kernel, by decide +kernel⟩,
  ⟨⟨(zw3 159 rfl rfl), (zw3 160 rfl rfl), (zw3 161 rfl rfl), (zw1 1 rfl rfl)⟩, zme_87, ⟨by decide +kernel, by decide +kernel⟩, by decide +kernel, by decide +kernel⟩,
  ⟨⟨(zw6 216 rfl rfl), (zw6 217 rfl rfl), (zw6 218 rfl rfl), (zw1 16 rfl rfl)⟩, zme_256, ⟨by decide +kernel, by decide +kernel⟩, by decide +kernel, by decide +kernel⟩,
  ⟨⟨(zw3 164 rfl rfl), (zw3 165 rfl rfl), (zw3 166 rfl rfl), (zw1 1 rfl rfl)⟩, zme_88, ⟨by decide +kernel, by decide +kernel⟩, by decide +kernel, by decide +kernel⟩,
  ⟨⟨(zw6 220 rfl rfl), (zw6 221 rfl rfl), (zw6 222 rfl rfl), (zw1 16 rfl rfl)⟩, zme_257, ⟨by decide +kernel, by decide +kernel⟩, by decide +kernel, by decide +kernel⟩,
  ⟨⟨(zw3 169 rfl rfl), (zw3 170 rfl rfl), (zw3 171 rfl rfl), (zw1 1 rfl rfl)⟩, zme_89, ⟨by decide +kernel, by decide +kernel⟩, by decide +kernel, by decide +kernel⟩,
  ⟨⟨(zw6 228 rfl rfl), (zw6 229 rfl rfl), (zw6 230 rfl rfl), (zw1 16 rfl rfl)⟩, zme_259, ⟨by decide +kernel, by decide +kernel⟩, by decide +kernel, by decide +kernel⟩,
  ⟨⟨(zw3 174 rfl rfl), (zw3 175 rfl rfl), (zw3 176 rfl rfl), (zw1 1 rfl rfl)⟩, zme_90, ⟨by decide +kernel, by decide +kernel⟩, by decide +kernel, by decide +kernel⟩,
  ⟨⟨(zw6 233 rfl rfl), (zw6 234 rfl rfl), (zw6 235 rfl rfl), (zw1 16 rfl rfl)⟩, zme_260, ⟨by decide +kernel, by decide +kernel⟩, by decide +kernel, by decide +kernel⟩,
  ⟨⟨(zw3 178 rfl rfl), (zw3 179 rfl rfl), (zw3 180 rfl rfl), (zw1 1 rfl rfl)⟩, zme_91, ⟨by decide +kernel, by decide +kernel⟩, by decide +kernel, by decide +kernel⟩,
  ⟨⟨(zw6 237 rfl rfl), (zw6 238 rfl rfl), (zw6 239 rfl rfl), (zw1 16 rfl rfl)⟩, zme_261, ⟨by decide +kernel, by decide +kernel⟩, by decide +kernel, by decide +kernel⟩,
  ⟨⟨(zw3 182 rfl rfl), (zw3 183 rfl rfl), (zw3 184 rfl rfl), (zw1 1 rfl rfl)⟩, zme_92, ⟨by decide +kernel, by decide +kernel⟩, by decide +kernel, by decide +kernel⟩,
  ⟨⟨(zw7 1 rfl rfl), (zw7 2 rfl rfl), (zw7 3 rfl rfl), (zw1 16 rfl rfl)⟩, zme_262, ⟨by decide +kernel, by decide +kernel⟩, by decide +kernel, by decide +kernel⟩,
  ⟨⟨(zw3 191 rfl rfl), (zw3 192 rfl rfl), (zw3 193 rfl rfl), (zw1 1 rfl rfl)⟩, zme_94, ⟨by decide +kernel, by decide +kernel⟩, by decide +kernel, by decide +kernel⟩,
  ⟨⟨(zw7 9 rfl rfl), (zw7 10 rfl rfl), (zw7 11 rfl rfl), (zw1 16 rfl rfl)⟩, zme_264, ⟨by decide +kernel, by decide +kernel⟩, by decide +kernel, by decide +kernel⟩,
  ⟨⟨(zw3 195 rfl rfl), (zw3 196 rfl rfl), (zw3 197 rfl rfl), (zw1 1 rfl rfl)⟩, zme_95, ⟨by decide +kernel, by decide +kernel⟩, by decide +kernel, by decide +kernel⟩,
  ⟨⟨(zw7 13 rfl rfl), (zw7 14 rfl rfl), (zw7 15 rfl rfl), (zw1 16 rfl rfl)⟩, zme_265, ⟨by decide +kernel, by decide +kernel⟩, by decide +kernel, by decide +kernel⟩,
  ⟨⟨(zw4 198 rfl rfl), (zw4 199 rfl rfl), (zw4 200 rfl rfl), (zw1 1 rfl rfl)⟩, zme_154, ⟨by decide +kernel, by decide +kernel⟩, by decide +kernel, by decide +kernel⟩,
  ⟨⟨(zw7 50 rfl rfl), (zw7 51 rfl rfl), (zw7 52 rfl rfl), (zw1 16 rfl rfl)⟩, zme_271, ⟨by decide +kernel, by decide +kernel⟩, by decide +kernel, by decide +kernel⟩,
  ⟨⟨(zw4 207 rfl rfl), (zw4 208 rfl rfl), (zw4 209 rfl rfl), (zw1 1 rfl rfl)⟩, zme_156, ⟨by decide +kernel, by decide +kernel⟩, by decide +kernel, by decide +kernel⟩,
  ⟨⟨(zw7 58 rfl rfl), (zw7 59 rfl rfl), (zw7 60 rfl rfl), (zw1 16 rfl rfl)⟩, zme_273, ⟨by decide +kernel, by decide +kernel⟩, by decide +kernel, by decide +kernel⟩,
  ⟨⟨(zw4 228 rfl rfl), (zw4 229 rfl rfl), (zw4 230 rfl rfl), (zw1 1 rfl rfl)⟩, zme_160, ⟨by decide +kernel, by decide +kernel⟩, by decide +kernel, by decide +kernel⟩,
  ⟨⟨(zw7 75 rfl rfl), (zw7 76 rfl rfl), (zw7 77 rfl rfl), (zw1 16 rfl rfl)⟩, zme_277, ⟨by decide +kernel, by decide +kernel⟩, by decide +kernel, by decide +kernel⟩,
  ⟨⟨(zw4 232 rfl rfl), (zw4 233 rfl rfl), (zw4 234 rfl rfl), (zw1 1 rfl rfl)⟩, zme_161, ⟨by decide +kernel, by decide +kernel⟩, by decide +kernel, by decide +kernel⟩,
  ⟨⟨(zw7 79 rfl rfl), (zw7 80 rfl rfl), (zw7 81 rfl rfl), (zw1 16 rfl rfl)⟩, zme_278, ⟨by decide +kernel, by decide +kernel⟩, by decide +kernel, by decide +kernel⟩,
  ⟨⟨(zw5 9 rfl rfl), (zw5 10 rfl rfl), (zw5 11 rfl rfl), (zw1 1 rfl rfl)⟩, zme_164, ⟨by decide +kernel, by decide +kernel⟩, by decide +kernel, by decide +kernel⟩,
  ⟨⟨(zw7 83 rfl rfl), (zw7 84 rfl rfl), (zw7 85 rfl rfl), (zw1 16 rfl rfl)⟩, zme_279, ⟨by decide +kernel, by decide +kernel⟩, by decide +kernel, by decide +kernel⟩,
  ⟨⟨(zw5 29 rfl rfl), (zw5 30 rfl rfl), (zw5 31 rfl rfl), (zw1 1 rfl rfl)⟩, zme_169, ⟨by decide +kernel, by decide +kernel⟩, by decide +kernel, by decide +kernel⟩,
  ⟨⟨(zw7 91 rfl rfl), (zw7 92 rfl rfl), (zw7 93 rfl rfl), (zw1 16 rfl rfl)⟩, zme_281, ⟨by decide +kernel, by decide +kernel⟩, by decide +kernel, by decide +kernel⟩,
  ⟨⟨(zw5 33 rfl rfl), (zw5 34 rfl rfl), (zw5 35 rfl rfl), (zw1 1 rfl rfl)⟩, zme_170, ⟨by decide +kernel, by decide +kernel⟩, by decide +kernel, by decide +kernel⟩,
  ⟨⟨(zw7 103 rfl rfl), (zw7 104 rfl rfl), (zw7 105 rfl rfl), (zw1 16 rfl rfl)⟩, zme_284, ⟨by decide +kernel, by decide +kernel⟩, by decide +kernel, by decide +kernel⟩,
  ⟨⟨(zw5 43 rfl rfl), (zw5 44 rfl rfl), (zw5 45 rfl rfl), (zw1 1 rfl rfl)⟩, zme_172, ⟨by decide +kernel, by decide +kernel⟩, by decide +kernel, by decide +kernel⟩,
  ⟨⟨(zw7 107 rfl rfl), (zw7 108 rfl rfl), (zw7 109 rfl rfl), (zw1 16 rfl rfl)⟩, zme_285, ⟨by decide +kernel, by decide +kernel⟩, by decide +kernel, by decide +kernel⟩,
  ⟨⟨(zw5 54 rfl rfl), (zw5 55 rfl rfl), (zw5 56 rfl rfl), (zw1 1 rfl rfl)⟩, zme_174, ⟨by decide +kernel, by decide +kernel⟩, by decide +kernel, by decide +kernel⟩,
  ⟨⟨(zw7 111 rfl rfl), (zw7 112 rfl rfl), (zw7 113 rfl rfl), (zw1 16 rfl rfl)⟩, zme_286, ⟨by decide +kernel, by decide +kernel⟩, by decide +kernel, by decide +kernel⟩,
  ⟨⟨(zw5 64 rfl rfl), (zw5 65 rfl rfl), (zw5 66 rfl rfl), (zw1 1 rfl rfl)⟩, zme_175, ⟨by decide +kernel, by decide +kernel⟩, by decide +kernel, by decide +kernel⟩,
  ⟨⟨(zw7 115 rfl rfl), (zw7 116 rfl rfl), (zw7 117 rfl rfl), (zw1 16 rfl rfl)⟩, zme_287, ⟨by decide +kernel, by decide +kernel⟩, by decide +kernel, by decide +kernel⟩,
  ⟨⟨(zw5 73 rfl rfl), (zw5 74 rfl rfl), (zw5 75 rfl rfl), (zw1 1 rfl rfl)⟩, zme_177, ⟨by decide +kernel, by decide +kernel⟩, by decide +kernel, by decide +kernel⟩, trivial⟩
theorem zst_ok7 : zAll zsP zst_7 := ⟨⟨⟨(zw7 119 rfl rfl), (zw7 120 rfl rfl), (zw7 121 rfl rfl), (zw1 16 rfl rfl)⟩, zme_288, ⟨by decide +kernel, by decide +kernel⟩, by decide +kernel, by decide +kernel⟩,
  ⟨⟨(zw5 81 rfl rfl), (zw5 82 rfl rfl), (zw5 83 rfl rfl), (zw1 1 rfl rfl)⟩, zme_179, ⟨by decide +kernel, by decide +kernel⟩, by decide +kernel, by decide +kernel⟩,
  ⟨⟨(zw7 124 rfl rfl), (zw7 125 rfl rfl), (zw7 126 rfl rfl), (zw1 16 rfl rfl)⟩, zme_289, ⟨by decide +kernel, by decide +kernel⟩, by decide +kernel, by decide +kernel⟩,
  ⟨⟨(zw5 90 rfl rfl), (zw5 91 rfl rfl), (zw5 92 rfl rfl), (zw1 1 rfl rfl)⟩, zme_181, ⟨by decide +kernel, by decide +kernel⟩, by decide +kernel, by decide +kernel⟩,
  ⟨⟨(zw7 128 rfl rfl), (zw7 129 rfl rfl), (zw7 130 rfl rfl), (zw1 16 rfl rfl)⟩, zme_290, ⟨by decide +kernel, by decide +kernel⟩, by decide +kernel, by decide +kernel⟩,
  ⟨⟨(zw5 189 rfl rfl), (zw5 190 rfl rfl), (zw5 191 rfl rfl), (zw1 1 rfl rfl)⟩, zme_203, ⟨by decide +kernel, by decide +kernel⟩, by decide +kernel, by decide +kernel⟩,
  ⟨⟨(zw7 182 rfl rfl), (zw7 183 rfl rfl), (zw7 184 rfl rfl), (zw1 16 rfl rfl)⟩, zme_297, ⟨by decide +kernel, by decide +kernel⟩, by decide +kernel, by decide +kernel⟩,
  ⟨⟨(zw5 194 rfl rfl), (zw5 195 rfl rfl), (zw5 196 rfl rfl), (zw1 1 rfl rfl)⟩, zme_204, ⟨by decide +kernel, by decide +kernel⟩, by decide +kernel, by decide +kernel⟩,
  ⟨⟨(zw7 186 rfl rfl), (zw7 187 rfl rfl), (zw7 188 rfl rfl), (zw1 16 rfl rfl)⟩, zme_298, ⟨by decide +kernel, by decide +kernel⟩, by decide +kernel, by decide +kernel⟩,
  ⟨⟨(zw5 198 rfl rfl), (zw5 199 rfl rfl), (zw5 200 rfl rfl), (zw1 1 rfl rfl)⟩, zme_205, ⟨by decide +kernel, by decide +kernel⟩, by decide +kernel, by decide +kernel⟩,
  ⟨⟨(zw7 190 rfl rfl), (zw7 191 rfl rfl), (zw7 192 rfl rfl), (zw1 16 rfl rfl)⟩, zme_299, ⟨by decide +kernel, by decide +kernel⟩, by decide +kernel, by decide +kernel⟩, trivial⟩
theorem zst_ok : zAll zsP zst := zAll_app zst_ok0 (zAll_app zst_ok1 (zAll_app zst_ok2 (zAll_app zst_ok3 (zAll_app zst_ok4 (zAll_app zst_ok5 (zAll_app zst_ok6 (zst_ok7)))))))
theorem zft_ok0 : zAll zfP zft_0 := ⟨.inr ⟨_, rfl, by decide, (zw2 75 rfl rfl)⟩,
  .inr ⟨_, rfl, by decide, (zw2 76 rfl rfl)⟩,
  .inr ⟨_, rfl, by decide, (zw2 77 rfl rfl)⟩,
  .inr ⟨_, rfl, by decide, (zw2 78 rfl rfl)⟩,
  .inr ⟨_, rfl, by decide, (zw2 79 rfl rfl)⟩,
  .inr ⟨_, rfl, by decide, (zw2 80 rfl rfl)⟩,
  .inr ⟨_, rfl, by decide, (zw2 81 rfl rfl)⟩,
  .inr ⟨_, rfl, by decide, (zw2 82 rfl rfl)⟩,
  .inr ⟨_, rfl, by decide, (zw1 144 rfl rfl)⟩,
  .inr ⟨_, rfl, by decide, (zw1 147 rfl rfl)⟩,
  .inr ⟨_, rfl, by decide, (zw1 150 rfl rfl)⟩,
  .inr ⟨_, rfl, by decide, (zw1 153 rfl rfl)⟩,
  .inr ⟨_, rfl, by decide, (zw1 154 rfl rfl)⟩,
  .inr ⟨_, rfl, by decide, (zw1 47 rfl rfl)⟩,
  .inr ⟨_, rfl, by decide, (zw1 49 rfl rfl)⟩,
  .inr ⟨_, rfl, by decide, (zw1 51 rfl rfl)⟩,
  .inr ⟨_, rfl, by decide, (zw1 53 rfl rfl)⟩,
  .inr ⟨_, rfl, by decide, (zw1 55 rfl rfl)⟩,
  .inr ⟨_, rfl, by decide, (zw1 107 rfl rfl)⟩,
  .inr ⟨_, rfl, by decide, (zw1 111 rfl rfl)⟩,
  .inr ⟨_, rfl, by decide, (zw1 112 rfl rfl)⟩,
  .inr ⟨_, rfl, by decide, (zw1 115 rfl rfl)⟩,
  .inr ⟨_, rfl, by decide, (zw1 118 rfl rfl)⟩,
  .inr ⟨_, rfl, by decide, (zw1 122 rfl rfl)⟩,
  .inr ⟨_, rfl, by decide, (zw1 126 rfl rfl)⟩,
  .inr ⟨_, rfl, by decide, (zw1 82 rfl rfl)⟩,
  .inr ⟨_, rfl, by decide, (zw1 85 rfl rfl)⟩,
  .inr ⟨_, rfl, by decide, (zw1 87 rfl rfl)⟩,
  .inr ⟨_, rfl, by decide, (zw1 89 rfl rfl)⟩,
  .inr ⟨_, rfl, by decide, (zw1 92 rfl rfl)⟩,
  .inr ⟨_, rfl, by decide, (zw1 176 rfl rfl)⟩,
  .inr ⟨_, rfl, by decide, (zw1 177 rfl rfl)⟩,
  .inr ⟨_, rfl, by decide, (zw1 178 rfl rfl)⟩,
  .inr ⟨_, rfl, by decide, (zw1 192 rfl rfl)⟩,
  .inr ⟨_, rfl, by decide, (zw1 193 rfl rfl)⟩,
  .inr ⟨_, rfl, by decide, (zw1 194 rfl rfl)⟩,
  .inr ⟨_, rfl, by decide, (zw1 196 rfl rfl)⟩,
  .inr ⟨_, rfl, by decide, (zw1 197 rfl rfl)⟩,
  .inr ⟨_, rfl, by decide, (zw1 198 rfl rfl)⟩,
  .inr ⟨_, rfl, by decide, (zw1 219 rfl rfl)⟩,
  .inr ⟨_, rfl, by decide, (zw2 20 rfl rfl)⟩,
  .inr ⟨_, rfl, by decide, (zw2 21 rfl rfl)⟩,
  .inr ⟨_, rfl, by decide, (zw2 22 rfl rfl)⟩,
  .inr ⟨_, rfl, by decide, (zw2 0 rfl rfl)⟩,
  .inr ⟨_, rfl, by decide, (zw2 3 rfl rfl)⟩,
  .inr ⟨_, rfl, by decide, (zw2 6 rfl rfl)⟩,
  .inr ⟨_, rfl, by decide, (zw2 9 rfl rfl)⟩,
  .inr ⟨_, rfl, by decide, (zw2 68 rfl rfl)⟩,
  .inr ⟨_, rfl, by decide, (zw2 69 rfl rfl)⟩,
  .inr ⟨_, rfl, by decide, (zw2 54 rfl rfl)⟩,
  .inr ⟨_, rfl, by decide, (zw2 55 rfl rfl)⟩,
  .inr ⟨_, rfl, by decide, (zw2 75 rfl rfl)⟩,
  .inr ⟨_, rfl, by decide, (zw2 76 rfl rfl)⟩,
  .inr ⟨_, rfl, by decide, (zw1 176 rfl rfl)⟩,
  .inr ⟨_, rfl, by decide, (zw1 177 rfl rfl)⟩,
  .inr ⟨_, rfl, by decide, (zw1 144 rfl rfl)⟩,
  .inr ⟨_, rfl, by decide, (zw1 147 rfl rfl)⟩,
  .inr ⟨_, rfl, by decide, (zw1 150 rfl rfl)⟩,
  .inr ⟨_, rfl, by decide, (zw1 153 rfl rfl)⟩,
  .inr ⟨_, rfl, by decide, (zw1 154 rfl rfl)⟩,
  .inr ⟨_, rfl, by decide, (zw1 107 rfl rfl)⟩,
  .inr ⟨_, rfl, by decide, (zw1 111 rfl rfl)⟩,
  .inr ⟨_, rfl, by decide, (zw1 112 rfl rfl)⟩,
  .inr ⟨_, rfl, by decide, (zw1 115 rfl rfl)⟩,
  .inr ⟨_, rfl, by decide, (zw1 118 rfl rfl)⟩,
  .inr ⟨_, rfl, by decide, (zw1 122 rfl rfl)⟩,
  .inr ⟨_, rfl, by decide, (zw1 126 rfl rfl)⟩,
  .inr ⟨_, rfl, by decide, (zw1 82 rfl rfl)⟩,
  .inr ⟨_, rfl, by decide, (zw1 85 rfl rfl)⟩,
  .inr ⟨_, rfl, by decide, (zw1 87 rfl rfl)⟩,
  .inr ⟨_, rfl, by decide, (zw1 89 rfl rfl)⟩,
  .inr ⟨_, rfl, by decide, (zw1 92 rfl rfl)⟩,
  .inr ⟨_, rfl, by decide, (zw1 47 rfl rfl)⟩,
  .inr ⟨_, rfl, by decide, (zw1 49 rfl rfl)⟩,
  .inr ⟨_, rfl, by decide, (zw1 51 rfl rfl)⟩,
  .inr ⟨_, rfl, by decide, (zw1 53 rfl rfl)⟩,
  .inr ⟨_, rfl, by decide, (zw1 55 rfl rfl)⟩,
  .inr ⟨_, rfl, by decide, (zw1 144 rfl rfl)⟩,
  .inr ⟨_, rfl, by decide, (zw1 109 rfl rfl)⟩,
  .inr ⟨_, rfl, by decide, (zw2 76 rfl rfl)⟩,
  .inr ⟨_, rfl, by decide, (zw1 177 rfl rfl)⟩,
  .inr ⟨_, rfl, by decide, (zw1 178 rfl rfl)⟩,
  .inr ⟨_, rfl, by decide, (zw2 75 rfl rfl)⟩,
  .inr ⟨_, rfl, by decide, (zw2 76 rfl rfl)⟩,
  .inr ⟨_, rfl, by decide, (zw1 144 rfl rfl)⟩,
  .inr ⟨_, rfl, by decide, (zw1 109 rfl rfl)⟩,
  .inr ⟨_, rfl, by decide, (zw2 75 rfl rfl)⟩,
  .inr ⟨_, rfl, by decide, (zw2 76 rfl rfl)⟩,
  .inr ⟨_, rfl, by decide, (zw1 144 rfl rfl)⟩,
  .inr ⟨_, rfl, by decide, (zw1 109 rfl rfl)⟩,
  .inr ⟨_, rfl, by decide, (zw2 75 rfl rfl)⟩,
  .inr ⟨_, rfl, by decide, (zw2 76 rfl rfl)⟩,
  .inr ⟨_, rfl, by decide, (zw1 144 rfl rfl)⟩,
  .inr ⟨_, rfl, by decide, (zw1 124 rfl rfl)⟩,
  .inr ⟨_, rfl, by decide, (zw2 75 rfl rfl)⟩,
  .inr ⟨_, rfl, by decide, (zw2 76 rfl rfl)⟩,
  .inr ⟨_, rfl, by decide, (zw1 147 rfl rfl)⟩,
  .inr ⟨_, rfl, by decide, (zw1 154 rfl rfl)⟩,
  .inr ⟨_, rfl, by decide, (zw1 48 rfl rfl)⟩,
  .inr ⟨_, rfl, by decide, (zw2 75 rfl rfl)⟩, trivial⟩
theorem zft_ok1 : zAll zfP zft_1 := ⟨.inr ⟨_, rfl, by decide, (zw2 76 rfl rfl)⟩,
  .inr ⟨_, rfl, by decide, (zw1 147 rfl rfl)⟩,
  .inr ⟨_, rfl, by decide, (zw1 154 rfl rfl)⟩,
  .inr ⟨_, rfl, by decide, (zw1 50 rfl rfl)⟩,
  .inr ⟨_, rfl, by decide, (zw2 75 rfl rfl)⟩,
  .inr ⟨_, rfl, by decide, (zw2 76 rfl rfl)⟩,
  .inr ⟨_, rfl, by decide, (zw1 147 rfl rfl)⟩,
  .inr ⟨_, rfl, by decide, (zw1 154 rfl rfl)⟩,
  .inr ⟨_, rfl, by decide, (zw1 56 rfl rfl)⟩,
  .inr ⟨_, rfl, by decide, (zw1 52 rfl rfl)⟩,
  .inr ⟨_, rfl, by decide, (zw1 54 rfl rfl)⟩,
  .inr ⟨_, rfl, by decide, (zw1 51 rfl rfl)⟩,
  .inr ⟨_, rfl, by decide, (zw1 55 rfl rfl)⟩,
  .inr ⟨_, rfl, by decide, (zw2 75 rfl rfl)⟩,
  .inr ⟨_, rfl, by decide, (zw2 76 rfl rfl)⟩,
  .inr ⟨_, rfl, by decide, (zw1 147 rfl rfl)⟩,
  .inr ⟨_, rfl, by decide, (zw1 154 rfl rfl)⟩,
  .inr ⟨_, rfl, by decide, (zw1 56 rfl rfl)⟩,
  .inr ⟨_, rfl, by decide, (zw2 75 rfl rfl)⟩,
  .inr ⟨_, rfl, by decide, (zw2 76 rfl rfl)⟩,
  .inr ⟨_, rfl, by decide, (zw1 144 rfl rfl)⟩,
  .inr ⟨_, rfl, by decide, (zw1 120 rfl rfl)⟩,
  .inr ⟨_, rfl, by decide, (zw1 82 rfl rfl)⟩,
  .inr ⟨_, rfl, by decide, (zw1 85 rfl rfl)⟩,
  .inr ⟨_, rfl, by decide, (zw1 87 rfl rfl)⟩,
  .inr ⟨_, rfl, by decide, (zw1 89 rfl rfl)⟩,
  .inr ⟨_, rfl, by decide, (zw1 92 rfl rfl)⟩,
  .inr ⟨_, rfl, by decide, (zw2 75 rfl rfl)⟩,
  .inr ⟨_, rfl, by decide, (zw2 76 rfl rfl)⟩,
  .inr ⟨_, rfl, by decide, (zw1 144 rfl rfl)⟩,
  .inr ⟨_, rfl, by decide, (zw1 120 rfl rfl)⟩,
  .inr ⟨_, rfl, by decide, (zw2 75 rfl rfl)⟩,
  .inr ⟨_, rfl, by decide, (zw2 76 rfl rfl)⟩,
  .inr ⟨_, rfl, by decide, (zw1 144 rfl rfl)⟩,
  .inr ⟨_, rfl, by decide, (zw1 120 rfl rfl)⟩,
  .inr ⟨_, rfl, by decide, (zw1 92 rfl rfl)⟩,
  .inr ⟨_, rfl, by decide, (zw1 92 rfl rfl)⟩,
  .inr ⟨_, rfl, by decide, (zw1 82 rfl rfl)⟩,
  .inr ⟨_, rfl, by decide, (zw1 85 rfl rfl)⟩,
  .inr ⟨_, rfl, by decide, (zw1 87 rfl rfl)⟩,
  .inr ⟨_, rfl, by decide, (zw1 89 rfl rfl)⟩,
  .inr ⟨_, rfl, by decide, (zw2 75 rfl rfl)⟩,
  .inr ⟨_, rfl, by decide, (zw2 76 rfl rfl)⟩,
  .inr ⟨_, rfl, by decide, (zw1 144 rfl rfl)⟩,
  .inr ⟨_, rfl, by decide, (zw1 120 rfl rfl)⟩,
  .inr ⟨_, rfl, by decide, (zw1 83 rfl rfl)⟩,
  .inr ⟨_, rfl, by decide, (zw2 75 rfl rfl)⟩,
  .inr ⟨_, rfl, by decide, (zw2 76 rfl rfl)⟩,
  .inr ⟨_, rfl, by decide, (zw2 80 rfl rfl)⟩,
  .inr ⟨_, rfl, by decide, (zw1 144 rfl rfl)⟩,
  .inr ⟨_, rfl, by decide, (zw1 147 rfl rfl)⟩,
  .inr ⟨_, rfl, by decide, (zw1 150 rfl rfl)⟩,
  .inr ⟨_, rfl, by decide, (zw1 154 rfl rfl)⟩,
  .inr ⟨_, rfl, by decide, (zw1 116 rfl rfl)⟩,
  .inr ⟨_, rfl, by decide, (zw1 219 rfl rfl)⟩,
  .inr ⟨_, rfl, by decide, (zw1 127 rfl rfl)⟩,
  .inr ⟨_, rfl, by decide, (zw2 10 rfl rfl)⟩,
  .inr ⟨_, rfl, by decide, (zw1 123 rfl rfl)⟩,
  .inr ⟨_, rfl, by decide, (zw1 119 rfl rfl)⟩,
  .inr ⟨_, rfl, by decide, (zw1 107 rfl rfl)⟩,
  .inr ⟨_, rfl, by decide, (zw1 47 rfl rfl)⟩,
  .inr ⟨_, rfl, by decide, (zw1 49 rfl rfl)⟩,
  .inr ⟨_, rfl, by decide, (zw1 51 rfl rfl)⟩,
  .inr ⟨_, rfl, by decide, (zw1 53 rfl rfl)⟩,
  .inr ⟨_, rfl, by decide, (zw1 55 rfl rfl)⟩,
  .inr ⟨_, rfl, by decide, (zw1 219 rfl rfl)⟩,
  .inr ⟨_, rfl, by decide, (zw2 0 rfl rfl)⟩,
  .inr ⟨_, rfl, by decide, (zw2 3 rfl rfl)⟩,
  .inr ⟨_, rfl, by decide, (zw2 6 rfl rfl)⟩,
  .inr ⟨_, rfl, by decide, (zw2 9 rfl rfl)⟩,
  .inr ⟨_, rfl, by decide, (zw1 219 rfl rfl)⟩,
  .inr ⟨_, rfl, by decide, (zw1 113 rfl rfl)⟩,
  .inr ⟨_, rfl, by decide, (zw1 107 rfl rfl)⟩,
  .inr ⟨_, rfl, by decide, (zw1 111 rfl rfl)⟩,
  .inr ⟨_, rfl, by decide, (zw1 107 rfl rfl)⟩,
  .inr ⟨_, rfl, by decide, (zw1 111 rfl rfl)⟩,
  .inr ⟨_, rfl, by decide, (zw1 112 rfl rfl)⟩,
  .inr ⟨_, rfl, by decide, (zw1 93 rfl rfl)⟩,
  .inr ⟨_, rfl, by decide, (zw1 90 rfl rfl)⟩,
  .inr ⟨_, rfl, by decide, (zw1 82 rfl rfl)⟩,
  .inr ⟨_, rfl, by decide, (zw1 85 rfl rfl)⟩,
  .inr ⟨_, rfl, by decide, (zw1 89 rfl rfl)⟩,
  .inr ⟨_, rfl, by decide, (zw2 75 rfl rfl)⟩,
  .inr ⟨_, rfl, by decide, (zw2 76 rfl rfl)⟩,
  .inr ⟨_, rfl, by decide, (zw1 144 rfl rfl)⟩,
  .inr ⟨_, rfl, by decide, (zw1 150 rfl rfl)⟩,
  .inr ⟨_, rfl, by decide, (zw1 153 rfl rfl)⟩,
  .inr ⟨_, rfl, by decide, (zw1 107 rfl rfl)⟩,
  .inr ⟨_, rfl, by decide, (zw1 115 rfl rfl)⟩,
  .inr ⟨_, rfl, by decide, (zw1 118 rfl rfl)⟩,
  .inr ⟨_, rfl, by decide, (zw1 89 rfl rfl)⟩,
  .inr ⟨_, rfl, by decide, (zw1 92 rfl rfl)⟩,
  .inr ⟨_, rfl, by decide, (zw2 75 rfl rfl)⟩,
  .inr ⟨_, rfl, by decide, (zw1 152 rfl rfl)⟩,
  .inr ⟨_, rfl, by decide, (zw2 75 rfl rfl)⟩,
  .inr ⟨_, rfl, by decide, (zw1 146 rfl rfl)⟩,
  .inr ⟨_, rfl, by decide, (zw1 110 rfl rfl)⟩,
  .inr ⟨_, rfl, by decide, (zw2 75 rfl rfl)⟩,
  .inr ⟨_, rfl, by decide, (zw1 146 rfl rfl)⟩,
  .inr ⟨_, rfl, by decide, (zw1 125 rfl rfl)⟩, trivial⟩
theorem zft_ok2 : zAll zfP zft_2 := ⟨.inr ⟨_, rfl, by decide, (zw1 149 rfl rfl)⟩,
  .inr ⟨_, rfl, by decide, (zw1 47 rfl rfl)⟩,
  .inr ⟨_, rfl, by decide, (zw1 49 rfl rfl)⟩,
  .inr ⟨_, rfl, by decide, (zw1 51 rfl rfl)⟩,
  .inr ⟨_, rfl, by decide, (zw1 53 rfl rfl)⟩,
  .inr ⟨_, rfl, by decide, (zw1 55 rfl rfl)⟩,
  .inr ⟨_, rfl, by decide, (zw2 75 rfl rfl)⟩,
  .inr ⟨_, rfl, by decide, (zw1 146 rfl rfl)⟩,
  .inr ⟨_, rfl, by decide, (zw1 121 rfl rfl)⟩,
  .inr ⟨_, rfl, by decide, (zw1 94 rfl rfl)⟩,
  .inr ⟨_, rfl, by decide, (zw1 84 rfl rfl)⟩,
  .inr ⟨_, rfl, by decide, (zw1 86 rfl rfl)⟩,
  .inr ⟨_, rfl, by decide, (zw1 88 rfl rfl)⟩,
  .inr ⟨_, rfl, by decide, (zw2 75 rfl rfl)⟩,
  .inr ⟨_, rfl, by decide, (zw1 146 rfl rfl)⟩,
  .inr ⟨_, rfl, by decide, (zw1 121 rfl rfl)⟩,
  .inr ⟨_, rfl, by decide, (zw1 91 rfl rfl)⟩,
  .inr ⟨_, rfl, by decide, (zw2 75 rfl rfl)⟩,
  .inr ⟨_, rfl, by decide, (zw2 80 rfl rfl)⟩,
  .inr ⟨_, rfl, by decide, (zw1 146 rfl rfl)⟩,
  .inr ⟨_, rfl, by decide, (zw1 149 rfl rfl)⟩,
  .inr ⟨_, rfl, by decide, (zw1 220 rfl rfl)⟩,
  .inr ⟨_, rfl, by decide, (zw2 75 rfl rfl)⟩,
  .inr ⟨_, rfl, by decide, (zw1 152 rfl rfl)⟩,
  .inr ⟨_, rfl, by decide, (zw1 146 rfl rfl)⟩,
  .inr ⟨_, rfl, by decide, (zw1 114 rfl rfl)⟩,
  .inr ⟨_, rfl, by decide, (zw2 75 rfl rfl)⟩,
  .inr ⟨_, rfl, by decide, (zw2 80 rfl rfl)⟩,
  .inr ⟨_, rfl, by decide, (zw1 152 rfl rfl)⟩,
  .inr ⟨_, rfl, by decide, (zw1 146 rfl rfl)⟩,
  .inr ⟨_, rfl, by decide, (zw1 149 rfl rfl)⟩,
  .inr ⟨_, rfl, by decide, (zw1 220 rfl rfl)⟩,
  .inr ⟨_, rfl, by decide, (zw1 114 rfl rfl)⟩,
  .inr ⟨_, rfl, by decide, (zw2 75 rfl rfl)⟩,
  .inr ⟨_, rfl, by decide, (zw1 146 rfl rfl)⟩,
  .inr ⟨_, rfl, by decide, (zw1 128 rfl rfl)⟩,
  .inr ⟨_, rfl, by decide, (zw2 75 rfl rfl)⟩,
  .inr ⟨_, rfl, by decide, (zw1 146 rfl rfl)⟩,
  .inr ⟨_, rfl, by decide, (zw1 117 rfl rfl)⟩,
  .inr ⟨_, rfl, by decide, (zw2 8 rfl rfl)⟩,
  .inr ⟨_, rfl, by decide, (zw2 75 rfl rfl)⟩,
  .inr ⟨_, rfl, by decide, (zw1 146 rfl rfl)⟩,
  .inr ⟨_, rfl, by decide, (zw1 117 rfl rfl)⟩,
  .inr ⟨_, rfl, by decide, (zw2 2 rfl rfl)⟩,
  .inr ⟨_, rfl, by decide, (zw2 6 rfl rfl)⟩,
  .inr ⟨_, rfl, by decide, (zw2 75 rfl rfl)⟩,
  .inr ⟨_, rfl, by decide, (zw1 146 rfl rfl)⟩,
  .inr ⟨_, rfl, by decide, (zw1 117 rfl rfl)⟩,
  .inr ⟨_, rfl, by decide, (zw2 5 rfl rfl)⟩,
  .inr ⟨_, rfl, by decide, (zw2 75 rfl rfl)⟩,
  .inr ⟨_, rfl, by decide, (zw2 82 rfl rfl)⟩,
  .inr ⟨_, rfl, by decide, (zw1 146 rfl rfl)⟩,
  .inr ⟨_, rfl, by decide, (zw1 117 rfl rfl)⟩,
  .inr ⟨_, rfl, by decide, (zw2 7 rfl rfl)⟩,
  .inr ⟨_, rfl, by decide, (zw2 1 rfl rfl)⟩,
  .inr ⟨_, rfl, by decide, (zw2 4 rfl rfl)⟩,
  .inr ⟨_, rfl, by decide, (zw2 68 rfl rfl)⟩,
  .inr ⟨_, rfl, by decide, (zw2 54 rfl rfl)⟩,
  .inr ⟨_, rfl, by decide, (zw2 56 rfl rfl)⟩,
  .inr ⟨_, rfl, by decide, (zw2 57 rfl rfl)⟩,
  .inr ⟨_, rfl, by decide, (zw2 54 rfl rfl)⟩,
  .inr ⟨_, rfl, by decide, (zw2 55 rfl rfl)⟩,
  .inr ⟨_, rfl, by decide, (zw2 54 rfl rfl)⟩,
  .inr ⟨_, rfl, by decide, (zw2 55 rfl rfl)⟩,
  .inr ⟨_, rfl, by decide, (zw2 55 rfl rfl)⟩,
  .inr ⟨_, rfl, by decide, (zw2 68 rfl rfl)⟩,
  .inr ⟨_, rfl, by decide, (zw2 57 rfl rfl)⟩,
  .inr ⟨_, rfl, by decide, (zw2 54 rfl rfl)⟩,
  .inr ⟨_, rfl, by decide, (zw2 57 rfl rfl)⟩,
  .inl ⟨rfl, .inl ⟨rfl, (zw7 206 rfl rfl)⟩⟩,
  .inl ⟨rfl, .inr ⟨rfl, (zw7 207 rfl rfl)⟩⟩,
  .inr ⟨_, rfl, by decide, (zw2 54 rfl rfl)⟩,
  .inr ⟨_, rfl, by decide, (zw2 55 rfl rfl)⟩,
  .inr ⟨_, rfl, by decide, (zw2 55 rfl rfl)⟩,
  .inr ⟨_, rfl, by decide, (zw2 54 rfl rfl)⟩,
  .inr ⟨_, rfl, by decide, (zw2 55 rfl rfl)⟩,
  .inr ⟨_, rfl, by decide, (zw2 57 rfl rfl)⟩,
  .inl ⟨rfl, .inl ⟨rfl, (zw7 206 rfl rfl)⟩⟩,
  .inr ⟨_, rfl, by decide, (zw2 54 rfl rfl)⟩,
  .inr ⟨_, rfl, by decide, (zw2 57 rfl rfl)⟩,
  .inr ⟨_, rfl, by decide, (zw2 54 rfl rfl)⟩,
  .inr ⟨_, rfl, by decide, (zw2 57 rfl rfl)⟩,
  .inr ⟨_, rfl, by decide, (zw2 68 rfl rfl)⟩,
  .inr ⟨_, rfl, by decide, (zw2 69 rfl rfl)⟩,
  .inr ⟨_, rfl, by decide, (zw2 68 rfl rfl)⟩,
  .inr ⟨_, rfl, by decide, (zw2 57 rfl rfl)⟩,
  .inr ⟨_, rfl, by decide, (zw2 54 rfl rfl)⟩,
  .inr ⟨_, rfl, by decide, (zw2 55 rfl rfl)⟩,
  .inr ⟨_, rfl, by decide, (zw2 57 rfl rfl)⟩,
  .inr ⟨_, rfl, by decide, (zw2 75 rfl rfl)⟩,
  .inr ⟨_, rfl, by decide, (zw1 146 rfl rfl)⟩,
  .inr ⟨_, rfl, by decide, (zw1 117 rfl rfl)⟩,
  .inr ⟨_, rfl, by decide, (zw2 3 rfl rfl)⟩,
  .inr ⟨_, rfl, by decide, (zw2 6 rfl rfl)⟩,
  .inr ⟨_, rfl, by decide, (zw2 75 rfl rfl)⟩,
  .inr ⟨_, rfl, by decide, (zw2 81 rfl rfl)⟩,
  .inr ⟨_, rfl, by decide, (zw1 152 rfl rfl)⟩,
  .inr ⟨_, rfl, by decide, (zw2 21 rfl rfl)⟩,
  .inr ⟨_, rfl, by decide, (zw1 151 rfl rfl)⟩,
  .inr ⟨_, rfl, by decide, (zw1 145 rfl rfl)⟩, trivial⟩
theorem zft_ok3 : zAll zfP zft_3 := ⟨.inr ⟨_, rfl, by decide, (zw1 108 rfl rfl)⟩,
  .inr ⟨_, rfl, by decide, (zw2 20 rfl rfl)⟩,
  .inr ⟨_, rfl, by decide, (zw2 21 rfl rfl)⟩,
  .inr ⟨_, rfl, by decide, (zw2 22 rfl rfl)⟩,
  .inr ⟨_, rfl, by decide, (zw1 148 rfl rfl)⟩,
  .inr ⟨_, rfl, by decide, (zw1 155 rfl rfl)⟩,
  .inr ⟨_, rfl, by decide, (zw2 6 rfl rfl)⟩,
  .inr ⟨_, rfl, by decide, (zw2 9 rfl rfl)⟩,
  .inr ⟨_, rfl, by decide, (zw2 75 rfl rfl)⟩,
  .inr ⟨_, rfl, by decide, (zw2 81 rfl rfl)⟩,
  .inr ⟨_, rfl, by decide, (zw1 152 rfl rfl)⟩,
  .inr ⟨_, rfl, by decide, (zw2 75 rfl rfl)⟩,
  .inr ⟨_, rfl, by decide, (zw2 81 rfl rfl)⟩,
  .inr ⟨_, rfl, by decide, (zw1 152 rfl rfl)⟩,
  .inr ⟨_, rfl, by decide, (zw1 151 rfl rfl)⟩,
  .inr ⟨_, rfl, by decide, (zw1 145 rfl rfl)⟩,
  .inr ⟨_, rfl, by decide, (zw1 108 rfl rfl)⟩,
  .inr ⟨_, rfl, by decide, (zw1 148 rfl rfl)⟩,
  .inr ⟨_, rfl, by decide, (zw2 75 rfl rfl)⟩,
  .inr ⟨_, rfl, by decide, (zw2 81 rfl rfl)⟩,
  .inr ⟨_, rfl, by decide, (zw1 146 rfl rfl)⟩,
  .inr ⟨_, rfl, by decide, (zw1 115 rfl rfl)⟩,
  .inr ⟨_, rfl, by decide, (zw2 0 rfl rfl)⟩,
  .inr ⟨_, rfl, by decide, (zw2 3 rfl rfl)⟩,
  .inr ⟨_, rfl, by decide, (zw2 6 rfl rfl)⟩,
  .inr ⟨_, rfl, by decide, (zw2 21 rfl rfl)⟩,
  .inr ⟨_, rfl, by decide, (zw1 151 rfl rfl)⟩,
  .inr ⟨_, rfl, by decide, (zw1 145 rfl rfl)⟩,
  .inr ⟨_, rfl, by decide, (zw2 75 rfl rfl)⟩,
  .inr ⟨_, rfl, by decide, (zw1 146 rfl rfl)⟩,
  .inr ⟨_, rfl, by decide, (zw2 75 rfl rfl)⟩,
  .inr ⟨_, rfl, by decide, (zw1 144 rfl rfl)⟩,
  .inr ⟨_, rfl, by decide, (zw1 147 rfl rfl)⟩,
  .inr ⟨_, rfl, by decide, (zw1 150 rfl rfl)⟩,
  .inr ⟨_, rfl, by decide, (zw2 75 rfl rfl)⟩,
  .inr ⟨_, rfl, by decide, (zw1 152 rfl rfl)⟩,
  .inr ⟨_, rfl, by decide, (zw1 144 rfl rfl)⟩,
  .inr ⟨_, rfl, by decide, (zw1 116 rfl rfl)⟩,
  .inr ⟨_, rfl, by decide, (zw2 75 rfl rfl)⟩,
  .inr ⟨_, rfl, by decide, (zw2 82 rfl rfl)⟩,
  .inr ⟨_, rfl, by decide, (zw1 152 rfl rfl)⟩,
  .inr ⟨_, rfl, by decide, (zw1 146 rfl rfl)⟩,
  .inr ⟨_, rfl, by decide, (zw2 75 rfl rfl)⟩,
  .inr ⟨_, rfl, by decide, (zw1 146 rfl rfl)⟩,
  .inr ⟨_, rfl, by decide, (zw1 115 rfl rfl)⟩,
  .inr ⟨_, rfl, by decide, (zw2 75 rfl rfl)⟩,
  .inr ⟨_, rfl, by decide, (zw1 146 rfl rfl)⟩,
  .inr ⟨_, rfl, by decide, (zw1 117 rfl rfl)⟩,
  .inr ⟨_, rfl, by decide, (zw2 0 rfl rfl)⟩,
  .inr ⟨_, rfl, by decide, (zw2 6 rfl rfl)⟩,
  .inr ⟨_, rfl, by decide, (zw2 79 rfl rfl)⟩,
  .inr ⟨_, rfl, by decide, (zw1 192 rfl rfl)⟩,
  .inr ⟨_, rfl, by decide, (zw1 193 rfl rfl)⟩,
  .inr ⟨_, rfl, by decide, (zw2 75 rfl rfl)⟩,
  .inr ⟨_, rfl, by decide, (zw2 76 rfl rfl)⟩,
  .inr ⟨_, rfl, by decide, (zw2 79 rfl rfl)⟩,
  .inr ⟨_, rfl, by decide, (zw1 195 rfl rfl)⟩,
  .inr ⟨_, rfl, by decide, (zw1 193 rfl rfl)⟩,
  .inr ⟨_, rfl, by decide, (zw1 194 rfl rfl)⟩,
  .inr ⟨_, rfl, by decide, (zw1 192 rfl rfl)⟩,
  .inr ⟨_, rfl, by decide, (zw1 193 rfl rfl)⟩,
  .inr ⟨_, rfl, by decide, (zw1 194 rfl rfl)⟩,
  .inr ⟨_, rfl, by decide, (zw1 196 rfl rfl)⟩,
  .inr ⟨_, rfl, by decide, (zw1 197 rfl rfl)⟩,
  .inr ⟨_, rfl, by decide, (zw1 193 rfl rfl)⟩,
  .inr ⟨_, rfl, by decide, (zw1 192 rfl rfl)⟩,
  .inr ⟨_, rfl, by decide, (zw1 193 rfl rfl)⟩,
  .inr ⟨_, rfl, by decide, (zw1 192 rfl rfl)⟩,
  .inl ⟨rfl, .inl ⟨rfl, (zw7 206 rfl rfl)⟩⟩,
  .inl ⟨rfl, .inr ⟨rfl, (zw7 207 rfl rfl)⟩⟩,
  .inr ⟨_, rfl, by decide, (zw1 192 rfl rfl)⟩,
  .inr ⟨_, rfl, by decide, (zw1 194 rfl rfl)⟩,
  .inr ⟨_, rfl, by decide, (zw1 198 rfl rfl)⟩,
  .inr ⟨_, rfl, by decide, (zw1 193 rfl rfl)⟩,
  .inr ⟨_, rfl, by decide, (zw2 75 rfl rfl)⟩,
  .inr ⟨_, rfl, by decide, (zw2 79 rfl rfl)⟩,
  .inr ⟨_, rfl, by decide, (zw2 80 rfl rfl)⟩,
  .inr ⟨_, rfl, by decide, (zw1 194 rfl rfl)⟩,
  .inr ⟨_, rfl, by decide, (zw1 198 rfl rfl)⟩,
  .inr ⟨_, rfl, by decide, (zw1 194 rfl rfl)⟩,
  .inr ⟨_, rfl, by decide, (zw1 196 rfl rfl)⟩,
  .inr ⟨_, rfl, by decide, (zw1 176 rfl rfl)⟩,
  .inr ⟨_, rfl, by decide, (zw1 177 rfl rfl)⟩,
  .inr ⟨_, rfl, by decide, (zw1 194 rfl rfl)⟩,
  .inr ⟨_, rfl, by decide, (zw1 197 rfl rfl)⟩,
  .inr ⟨_, rfl, by decide, (zw2 75 rfl rfl)⟩,
  .inr ⟨_, rfl, by decide, (zw2 77 rfl rfl)⟩,
  .inr ⟨_, rfl, by decide, (zw2 78 rfl rfl)⟩,
  .inr ⟨_, rfl, by decide, (zw1 152 rfl rfl)⟩,
  .inr ⟨_, rfl, by decide, (zw2 75 rfl rfl)⟩,
  .inr ⟨_, rfl, by decide, (zw2 76 rfl rfl)⟩,
  .inr ⟨_, rfl, by decide, (zw2 77 rfl rfl)⟩,
  .inr ⟨_, rfl, by decide, (zw2 78 rfl rfl)⟩,
  .inr ⟨_, rfl, by decide, (zw1 152 rfl rfl)⟩,
  .inr ⟨_, rfl, by decide, (zw2 75 rfl rfl)⟩,
  .inr ⟨_, rfl, by decide, (zw2 76 rfl rfl)⟩,
  .inr ⟨_, rfl, by decide, (zw1 176 rfl rfl)⟩,
  .inr ⟨_, rfl, by decide, (zw1 177 rfl rfl)⟩,
  .inr ⟨_, rfl, by decide, (zw1 178 rfl rfl)⟩,
  .inr ⟨_, rfl, by decide, (zw5 218 rfl rfl)⟩, trivial⟩
theorem zft_ok4 : zAll zfP zft_4 := ⟨.inr ⟨_, rfl, by decide, (zw5 219 rfl rfl)⟩,
  .inr ⟨_, rfl, by decide, (zw5 221 rfl rfl)⟩,
  .inr ⟨_, rfl, by decide, (zw5 223 rfl rfl)⟩,
  .inr ⟨_, rfl, by decide, (zw5 224 rfl rfl)⟩,
  .inr ⟨_, rfl, by decide, (zw5 226 rfl rfl)⟩,
  .inr ⟨_, rfl, by decide, (zw5 228 rfl rfl)⟩,
  .inr ⟨_, rfl, by decide, (zw5 232 rfl rfl)⟩,
  .inr ⟨_, rfl, by decide, (zw5 218 rfl rfl)⟩,
  .inr ⟨_, rfl, by decide, (zw5 218 rfl rfl)⟩,
  .inr ⟨_, rfl, by decide, (zw5 218 rfl rfl)⟩,
  .inr ⟨_, rfl, by decide, (zw5 225 rfl rfl)⟩,
  .inr ⟨_, rfl, by decide, (zw5 221 rfl rfl)⟩,
  .inr ⟨_, rfl, by decide, (zw5 222 rfl rfl)⟩,
  .inr ⟨_, rfl, by decide, (zw5 218 rfl rfl)⟩,
  .inr ⟨_, rfl, by decide, (zw5 218 rfl rfl)⟩,
  .inr ⟨_, rfl, by decide, (zw5 218 rfl rfl)⟩,
  .inr ⟨_, rfl, by decide, (zw5 218 rfl rfl)⟩,
  .inr ⟨_, rfl, by decide, (zw5 218 rfl rfl)⟩,
  .inr ⟨_, rfl, by decide, (zw5 218 rfl rfl)⟩,
  .inr ⟨_, rfl, by decide, (zw5 218 rfl rfl)⟩,
  .inr ⟨_, rfl, by decide, (zw5 218 rfl rfl)⟩,
  .inr ⟨_, rfl, by decide, (zw5 218 rfl rfl)⟩,
  .inr ⟨_, rfl, by decide, (zw5 218 rfl rfl)⟩,
  .inr ⟨_, rfl, by decide, (zw5 218 rfl rfl)⟩,
  .inr ⟨_, rfl, by decide, (zw5 218 rfl rfl)⟩,
  .inr ⟨_, rfl, by decide, (zw5 218 rfl rfl)⟩,
  .inr ⟨_, rfl, by decide, (zw5 218 rfl rfl)⟩,
  .inr ⟨_, rfl, by decide, (zw5 218 rfl rfl)⟩,
  .inr ⟨_, rfl, by decide, (zw5 218 rfl rfl)⟩,
  .inr ⟨_, rfl, by decide, (zw5 218 rfl rfl)⟩,
  .inr ⟨_, rfl, by decide, (zw5 218 rfl rfl)⟩,
  .inr ⟨_, rfl, by decide, (zw5 218 rfl rfl)⟩,
  .inr ⟨_, rfl, by decide, (zw5 218 rfl rfl)⟩,
  .inr ⟨_, rfl, by decide, (zw5 218 rfl rfl)⟩,
  .inr ⟨_, rfl, by decide, (zw5 218 rfl rfl)⟩,
  .inr ⟨_, rfl, by decide, (zw5 227 rfl rfl)⟩,
  .inr ⟨_, rfl, by decide, (zw5 226 rfl rfl)⟩,
  .inr ⟨_, rfl, by decide, (zw5 227 rfl rfl)⟩,
  .inr ⟨_, rfl, by decide, (zw5 226 rfl rfl)⟩,
  .inr ⟨_, rfl, by decide, (zw5 227 rfl rfl)⟩,
  .inr ⟨_, rfl, by decide, (zw5 218 rfl rfl)⟩,
  .inr ⟨_, rfl, by decide, (zw5 218 rfl rfl)⟩,
  .inr ⟨_, rfl, by decide, (zw5 218 rfl rfl)⟩,
  .inr ⟨_, rfl, by decide, (zw5 223 rfl rfl)⟩,
  .inr ⟨_, rfl, by decide, (zw5 218 rfl rfl)⟩,
  .inr ⟨_, rfl, by decide, (zw5 223 rfl rfl)⟩,
  .inr ⟨_, rfl, by decide, (zw5 218 rfl rfl)⟩,
  .inr ⟨_, rfl, by decide, (zw5 218 rfl rfl)⟩,
  .inr ⟨_, rfl, by decide, (zw5 227 rfl rfl)⟩,
  .inr ⟨_, rfl, by decide, (zw5 218 rfl rfl)⟩,
  .inr ⟨_, rfl, by decide, (zw5 228 rfl rfl)⟩,
  .inr ⟨_, rfl, by decide, (zw5 229 rfl rfl)⟩,
  .inr ⟨_, rfl, by decide, (zw5 218 rfl rfl)⟩,
  .inr ⟨_, rfl, by decide, (zw5 224 rfl rfl)⟩,
  .inr ⟨_, rfl, by decide, (zw5 225 rfl rfl)⟩,
  .inr ⟨_, rfl, by decide, (zw5 229 rfl rfl)⟩,
  .inr ⟨_, rfl, by decide, (zw5 230 rfl rfl)⟩,
  .inr ⟨_, rfl, by decide, (zw5 231 rfl rfl)⟩,
  .inr ⟨_, rfl, by decide, (zw5 230 rfl rfl)⟩,
  .inr ⟨_, rfl, by decide, (zw5 231 rfl rfl)⟩,
  .inr ⟨_, rfl, by decide, (zw5 228 rfl rfl)⟩,
  .inr ⟨_, rfl, by decide, (zw5 229 rfl rfl)⟩,
  .inr ⟨_, rfl, by decide, (zw5 230 rfl rfl)⟩,
  .inr ⟨_, rfl, by decide, (zw5 228 rfl rfl)⟩,
  .inr ⟨_, rfl, by decide, (zw5 230 rfl rfl)⟩,
  .inr ⟨_, rfl, by decide, (zw5 232 rfl rfl)⟩,
  .inr ⟨_, rfl, by decide, (zw5 230 rfl rfl)⟩,
  .inr ⟨_, rfl, by decide, (zw5 231 rfl rfl)⟩,
  .inr ⟨_, rfl, by decide, (zw5 232 rfl rfl)⟩,
  .inr ⟨_, rfl, by decide, (zw5 218 rfl rfl)⟩,
  .inr ⟨_, rfl, by decide, (zw5 219 rfl rfl)⟩,
  .inr ⟨_, rfl, by decide, (zw5 220 rfl rfl)⟩,
  .inr ⟨_, rfl, by decide, (zw5 218 rfl rfl)⟩,
  .inr ⟨_, rfl, by decide, (zw5 219 rfl rfl)⟩,
  .inr ⟨_, rfl, by decide, (zw5 220 rfl rfl)⟩,
  .inr ⟨_, rfl, by decide, (zw5 218 rfl rfl)⟩,
  .inr ⟨_, rfl, by decide, (zw5 221 rfl rfl)⟩,
  .inr ⟨_, rfl, by decide, (zw5 222 rfl rfl)⟩, trivial⟩
theorem zft_ok : zAll zfP zft := zAll_app zft_ok0 (zAll_app zft_ok1 (zAll_app zft_ok2 (zAll_app zft_ok3 (zft_ok4))))
theorem znt_ok0 : zAll znP znt_0 := ⟨⟨_, rfl, (zw1 32 rfl rfl), (zw1 33 rfl rfl), (zw1 2 rfl rfl)⟩,
  ⟨_, rfl, (zw1 167 rfl rfl), (zw1 168 rfl rfl), (zw1 6 rfl rfl)⟩,
  ⟨_, rfl, (zw1 186 rfl rfl), (zw1 187 rfl rfl), (zw1 7 rfl rfl)⟩,
  ⟨_, rfl, (zw1 213 rfl rfl), (zw1 214 rfl rfl), (zw1 8 rfl rfl)⟩,
  ⟨_, rfl, (zw1 224 rfl rfl), (zw1 225 rfl rfl), (zw1 9 rfl rfl)⟩,
  ⟨_, rfl, (zw2 30 rfl rfl), (zw2 31 rfl rfl), (zw1 11 rfl rfl)⟩,
  ⟨_, rfl, (zw1 38 rfl rfl), (zw1 69 rfl rfl), (zw1 4 rfl rfl)⟩,
  ⟨_, rfl, (zw1 40 rfl rfl), (zw1 41 rfl rfl), (zw1 3 rfl rfl)⟩,
  ⟨_, rfl, (zw1 76 rfl rfl), (zw1 77 rfl rfl), (zw1 5 rfl rfl)⟩,
  ⟨_, rfl, (zw1 173 rfl rfl), (zw1 33 rfl rfl), (zw1 2 rfl rfl)⟩,
  ⟨_, rfl, (zw1 230 rfl rfl), (zw1 214 rfl rfl), (zw1 8 rfl rfl)⟩,
  ⟨_, rfl, (zw1 232 rfl rfl), (zw1 69 rfl rfl), (zw1 4 rfl rfl)⟩,
  ⟨_, rfl, (zw1 234 rfl rfl), (zw1 235 rfl rfl), (zw1 10 rfl rfl)⟩,
  ⟨_, rfl, (zw2 36 rfl rfl), (zw2 37 rfl rfl), (zw1 13 rfl rfl)⟩,
  ⟨_, rfl, (zw3 40 rfl rfl), (zw1 235 rfl rfl), (zw1 10 rfl rfl)⟩,
  ⟨_, rfl, (zw1 24 rfl rfl), (zw1 25 rfl rfl), (zw1 1 rfl rfl)⟩,
  ⟨_, rfl, (zw5 206 rfl rfl), (zw5 207 rfl rfl), (zw1 16 rfl rfl)⟩, trivial⟩
theorem znt_ok : zAll znP znt := znt_ok0
theorem zat_ok0 : zAll zaP zat_0 := ⟨⟨_, rfl, (zw1 38 rfl rfl), by decide +kernel⟩,
  ⟨_, rfl, (zw1 74 rfl rfl), by decide +kernel⟩,
  ⟨_, rfl, (zw1 173 rfl rfl), by decide +kernel⟩,
  ⟨_, rfl, (zw7 144 rfl rfl), by decide +kernel⟩, trivial⟩
theorem zat_ok : zAll zaP zat := zat_ok0
theorem zkt_ok0 : zAll zkP zkt_0 := ⟨(zw1 46 rfl rfl),
  (zw2 53 rfl rfl),
  (zw2 194 rfl rfl),
  (zw2 194 rfl rfl),
  (zw2 194 rfl rfl),
  (zw2 194 rfl rfl),
  (zw3 232 rfl rfl),
  (zw3 228 rfl rfl),
  (zw3 228 rfl rfl),
  (zw4 236 rfl rfl),
  (zw5 212 rfl rfl),
  (zw6 49 rfl rfl),
  (zw6 75 rfl rfl),
  (zw6 75 rfl rfl),
  (zw6 75 rfl rfl),
  (zw6 75 rfl rfl),
  (zw6 75 rfl rfl), trivial⟩
theorem zkt_ok : zAll zkP zkt := zkt_ok0
theorem zlt_ok0 : zAll zlP zlt_0 := ⟨(zw2 228 rfl rfl),
  (zw3 95 rfl rfl),
  (zw3 62 rfl rfl),
  (zw3 67 rfl rfl),
  (zw3 62 rfl rfl),
  (zw3 67 rfl rfl),
  (zw2 228 rfl rfl),
  (zw3 110 rfl rfl),
  (zw3 158 rfl rfl),
  (zw3 158 rfl rfl),
  (zw3 158 rfl rfl),
  (zw3 168 rfl rfl),
  (zw3 173 rfl rfl),
  (zw3 158 rfl rfl),
  (zw3 173 rfl rfl),
  (zw4 172 rfl rfl),
  (zw4 173 rfl rfl),
  (zw3 158 rfl rfl),
  (zw3 168 rfl rfl),
  (zw3 158 rfl rfl),
  (zw3 168 rfl rfl),
  (zw4 216 rfl rfl),
  (zw3 158 rfl rfl),
  (zw3 168 rfl rfl),
  (zw4 237 rfl rfl),
  (zw3 158 rfl rfl),
  (zw3 158 rfl rfl),
  (zw3 158 rfl rfl),
  (zw3 158 rfl rfl),
  (zw3 168 rfl rfl),
  (zw5 213 rfl rfl),
  (zw5 217 rfl rfl),
  (zw6 96 rfl rfl),
  (zw6 96 rfl rfl),
  (zw5 217 rfl rfl),
  (zw6 96 rfl rfl),
  (zw6 158 rfl rfl),
  (zw6 158 rfl rfl),
  (zw6 96 rfl rfl),
  (zw6 158 rfl rfl),
  (zw5 217 rfl rfl),
  (zw6 215 rfl rfl),
  (zw6 215 rfl rfl),
  (zw6 232 rfl rfl),
  (zw6 215 rfl rfl),
  (zw6 232 rfl rfl),
  (zw7 43 rfl rfl),
  (zw7 44 rfl rfl),
  (zw7 45 rfl rfl),
  (zw6 215 rfl rfl),
  (zw7 62 rfl rfl),
  (zw6 215 rfl rfl),
  (zw7 62 rfl rfl),
  (zw5 217 rfl rfl),
  (zw6 96 rfl rfl),
  (zw6 215 rfl rfl),
  (zw6 215 rfl rfl),
  (zw6 215 rfl rfl),
  (zw6 215 rfl rfl),
  (zw7 62 rfl rfl),
  (zw7 123 rfl rfl), trivial⟩
theorem zlt_ok : zAll zlP zlt := zlt_ok0
theorem zut_ok0 : zAll zuP zut_0 := ⟨⟨_, _, rfl⟩,
  ⟨_, _, rfl⟩,
  ⟨_, _, rfl⟩,
  ⟨_, _, rfl⟩,
  ⟨_, _, rfl⟩,
  ⟨_, _, rfl⟩,
  ⟨_, _, rfl⟩,
  ⟨_, _, rfl⟩,
  ⟨_, _, rfl⟩,
  ⟨_, _, rfl⟩,
  ⟨_, _, rfl⟩,
  ⟨_, _, rfl⟩,
  ⟨_, _, rfl⟩,
  ⟨_, _, rfl⟩,
  ⟨_, _, rfl⟩,
  ⟨_, _, rfl⟩,
  ⟨_, _, rfl⟩,
  ⟨_, _, rfl⟩,
  ⟨_, _, rfl⟩,
  ⟨_, _, rfl⟩,
  ⟨_, _, rfl⟩,
  ⟨_, _, rfl⟩,
  ⟨_, _, rfl⟩,
  ⟨_, _, rfl⟩,
  ⟨_, _, rfl⟩,
  ⟨_, _, rfl⟩,
  ⟨_, _, rfl⟩,
  ⟨_, _, rfl⟩,
  ⟨_, _, rfl⟩,
  ⟨_, _, rfl⟩,
  ⟨_, _, rfl⟩,
  ⟨_, _, rfl⟩,
  ⟨_, _, rfl⟩,
  ⟨_, _, rfl⟩,
  ⟨_, _, rfl⟩,
  ⟨_, _, rfl⟩,
  ⟨_, _, rfl⟩,
  ⟨_, _, rfl⟩,
  ⟨_, _, rfl⟩,
  ⟨_, _, rfl⟩, trivial⟩
theorem zut_ok : zAll zuP zut := zut_ok0
theorem zgt_ok0 : zAll zgP zgt_0 := ⟨⟨_, rfl, (zw2 45 rfl rfl)⟩,
  ⟨_, rfl, (zw2 45 rfl rfl)⟩,
  ⟨_, rfl, (zw4 69 rfl rfl)⟩,
  ⟨_, rfl, (zw4 61 rfl rfl)⟩,
  ⟨_, rfl, (zw4 69 rfl rfl)⟩,
  ⟨_, rfl, (zw4 71 rfl rfl)⟩,
  ⟨_, rfl, (zw4 73 rfl rfl)⟩,
  ⟨_, rfl, (zw4 83 rfl rfl)⟩,
  ⟨_, rfl, (zw2 45 rfl rfl)⟩,
  ⟨_, rfl, (zw4 61 rfl rfl)⟩,
  ⟨_, rfl, (zw4 61 rfl rfl)⟩,
  ⟨_, rfl, (zw4 153 rfl rfl)⟩,
  ⟨_, rfl, (zw4 155 rfl rfl)⟩,
  ⟨_, rfl, (zw4 69 rfl rfl)⟩,
  ⟨_, rfl, (zw4 163 rfl rfl)⟩,
  ⟨_, rfl, (zw4 164 rfl rfl)⟩,
  ⟨_, rfl, (zw4 69 rfl rfl)⟩,
  ⟨_, rfl, (zw4 71 rfl rfl)⟩,
  ⟨_, rfl, (zw4 73 rfl rfl)⟩,
  ⟨_, rfl, (zw5 47 rfl rfl)⟩,
  ⟨_, rfl, (zw5 59 rfl rfl)⟩,
  ⟨_, rfl, (zw5 61 rfl rfl)⟩,
  ⟨_, rfl, (zw5 153 rfl rfl)⟩,
  ⟨_, rfl, (zw4 83 rfl rfl)⟩, trivial⟩
theorem zgt_ok : zAll zgP zgt := zgt_ok0
theorem zar_int : Cond.arrayClass .int ∈ zW0 := (zw1 68 rfl rfl)
theorem zar_long : Cond.arrayClass .long ∈ zW0 := (zw1 106 rfl rfl)
theorem zar_char : Cond.arrayClass .char ∈ zW0 := (zw1 212 rfl rfl)
theorem zar_byte : Cond.arrayClass .byte ∈ zW0 := (zw2 67 rfl rfl)
