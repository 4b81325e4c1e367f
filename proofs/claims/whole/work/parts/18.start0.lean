/-! THE FACTS OF THE START, printed by emit_start.py: nests, texts, statics against the tables and the premises of the Statement -/
theorem zb1 (j : Nat) {c : Cond} (h : tables_1_1[j]? = some c) : c ∈ lw_tbl := List.mem_append_right _ (List.mem_append_left _ (List.mem_of_getElem? h))
theorem zb2 (j : Nat) {c : Cond} (h : tables_1_2[j]? = some c) : c ∈ lw_tbl := List.mem_append_right _ (List.mem_append_right _ (List.mem_append_left _ (List.mem_of_getElem? h)))
theorem zb3 (j : Nat) {c : Cond} (h : tables_1_3[j]? = some c) : c ∈ lw_tbl := List.mem_append_right _ (List.mem_append_right _ (List.mem_append_right _ (List.mem_append_left _ (List.mem_of_getElem? h))))
theorem zb4 (j : Nat) {c : Cond} (h : tables_1_4[j]? = some c) : c ∈ lw_tbl := List.mem_append_right _ (List.mem_append_right _ (List.mem_append_right _ (List.mem_append_right _ (List.mem_append_left _ (List.mem_of_getElem? h)))))
theorem zb5 (j : Nat) {c : Cond} (h : tables_1_5[j]? = some c) : c ∈ lw_tbl := List.mem_append_right _ (List.mem_append_right _ (List.mem_append_right _ (List.mem_append_right _ (List.mem_append_right _ (List.mem_append_left _ (List.mem_of_getElem? h))))))
theorem zb6 (j : Nat) {c : Cond} (h : tables_1_6[j]? = some c) : c ∈ lw_tbl := List.mem_append_right _ (List.mem_append_right _ (List.mem_append_right _ (List.mem_append_right _ (List.mem_append_right _ (List.mem_append_right _ (List.mem_append_left _ (List.mem_of_getElem? h)))))))
theorem zb7 (j : Nat) {c : Cond} (h : tables_1_7[j]? = some c) : c ∈ lw_tbl := List.mem_append_right _ (List.mem_append_right _ (List.mem_append_right _ (List.mem_append_right _ (List.mem_append_right _ (List.mem_append_right _ (List.mem_append_right _ ((List.mem_of_getElem? h))))))))
theorem zAll_in {α : Type} {P : α → Prop} : ∀ {l : List α}, zAll P l → ∀ {q : α}, q ∈ l → P q
  | [], _, q, hq => by cases hq
  | a :: l, h, q, hq => by
    rcases List.mem_cons.mp hq with rfl | h2
    · exact h.1
    · exact zAll_in h.2 h2
def znlP (q : String × Nat × MethodName × String) : Prop := Cond.methodLinkNest q.1 q.2.1 q.2.2.1 q.2.2.2 ∈ lw_tbl
theorem znl_ok : ∀ q ∈ znl, znlP q := by
  have h : zAll znlP znl := ⟨(zb1 188 rfl),
  (zb1 215 rfl),
  (zb1 226 rfl),
  (zb2 32 rfl),
  (zb1 42 rfl),
  (zb2 133 rfl),
  (zb2 139 rfl),
  (zb2 142 rfl),
  (zb3 41 rfl),
  (zb3 46 rfl),
  (zb5 89 rfl),
  (zb3 9 rfl),
  (zb2 207 rfl),
  (zb3 190 rfl),
  (zb4 185 rfl),
  (zb1 231 rfl),
  (zb1 236 rfl),
  (zb4 215 rfl),
  (zb5 8 rfl),
  (zb1 78 rfl),
  (zb3 55 rfl), trivial⟩
  exact fun q hq => zAll_in h hq
abbrev zFl : List Cond := flatC (Jvm.Cond.and given_1 narrow_1)
def zaf (i : Nat) (c : Cond) : Bool := decide (zFl[i]? = some c)
theorem zaf_in {i : Nat} {c : Cond} (h : zaf i c = true) : c ∈ zFl := List.mem_of_getElem? (of_decide_eq_true h)
def zSt (q : String × Nat × String × List Int32) : Term := .string q.1 q.2.1
def zSv (q : String × Nat × String × List Int32) : Term := .field (zSt q) "java/lang/String" "value" "[B"
def zSb (q : String × Nat × String × List Int32) (p : Nat) : Bool := zaf p (.exactly (zSt q) "java/lang/String") && zaf (p + 1) (.eq (.field (zSt q) "java/lang/String" "coder" "B") (.int 0)) && zaf (p + 2) (.arrayOf (zSv q) .byte) && zaf (p + 3) (.eq (.length (zSv q)) (.int (Int32.ofNat q.2.2.2.length))) && (List.range q.2.2.2.length).all fun i => zaf (p + 4 + i) (.eq (.elem (zSv q) (.int (Int32.ofNat i))) (.int (q.2.2.2.getD i 0)))
def zSpos : List Nat := [368, 378, 386, 395, 404, 412, 419, 430, 439, 448, 456, 464, 297, 306, 316, 326, 333, 341, 352, 361, 473, 483, 494, 505, 513, 522, 534, 544, 552, 563, 572, 582, 592, 602, 611, 621, 630, 638, 650, 659]
def zsr (q : String × Nat × String × List Int32) : Prop := Cond.stringRef q.1 q.2.1 q.2.2.1 ∈ lw_tbl
theorem zsr_ok : ∀ q ∈ zsx, zsr q := by
  have h : zAll zsr zsx := ⟨(zb5 117 rfl),
  (zb5 118 rfl),
  (zb5 119 rfl),
  (zb5 120 rfl),
  (zb5 121 rfl),
  (zb5 122 rfl),
  (zb5 123 rfl),
  (zb5 124 rfl),
  (zb5 125 rfl),
  (zb5 126 rfl),
  (zb5 127 rfl),
  (zb5 128 rfl),
  (zb4 30 rfl),
  (zb4 31 rfl),
  (zb4 32 rfl),
  (zb4 33 rfl),
  (zb4 34 rfl),
  (zb4 35 rfl),
  (zb4 36 rfl),
  (zb4 37 rfl),
  (zb7 25 rfl),
  (zb7 26 rfl),
  (zb7 27 rfl),
  (zb7 28 rfl),
  (zb7 29 rfl),
  (zb7 30 rfl),
  (zb7 31 rfl),
  (zb7 32 rfl),
  (zb7 146 rfl),
  (zb7 147 rfl),
  (zb7 148 rfl),
  (zb7 149 rfl),
  (zb7 150 rfl),
  (zb7 151 rfl),
  (zb7 152 rfl),
  (zb7 153 rfl),
  (zb7 154 rfl),
  (zb7 155 rfl),
  (zb7 156 rfl),
  (zb7 157 rfl), trivial⟩
  exact fun q hq => zAll_in h hq
theorem zSb_ok : ∀ j, j < 40 → zSb (zsx.getD j default) (zSpos.getD j 0) = true := by decide +kernel
def zQt (q : String × String × String × Value) : Term := .static q.1 q.2.1 q.2.2.1
def zQb (q : String × String × String × Value) (r : FieldType × List Int32) (p : Nat) : Bool := zaf p (.isRef (zQt q)) && zaf (p + 1) (.arrayOf (zQt q) r.1) && zaf (p + 2) (.eq (.length (zQt q)) (.int (Int32.ofNat r.2.length))) && (List.range r.2.length).all fun i => zaf (p + 3 + i) (.eq (.elem (zQt q) (.int (Int32.ofNat i))) (.int (r.2.getD i 0)))
theorem zQb_0 : zQb (zsl.getD 0 default) (zsa.getD 0 default) 223 = true := by decide +kernel
theorem zQb_1 : zQb (zsl.getD 1 default) (zsa.getD 1 default) 233 = true := by decide +kernel
theorem zQb_2 : zQb (zsl.getD 2 default) (zsa.getD 2 default) 215 = true := by decide +kernel
theorem zQb_3 : zQb (zsl.getD 3 default) (zsa.getD 3 default) 243 = true := by decide +kernel
theorem zQb_4 : zQb (zsl.getD 4 default) (zsa.getD 4 default) 112 = true := by decide +kernel
theorem zQb_5 : zQb (zsl.getD 5 default) (zsa.getD 5 default) 9 = true := by decide +kernel
theorem zQl_0 : Cond.laysStatic "PayrollRun" "STATEMENT_KINDS" "[I" ∈ lw_tbl ∧ Cond.initialized "PayrollRun" ∈ lw_tbl := ⟨(zb5 60 rfl), (zb1 1 rfl)⟩
theorem zQl_1 : Cond.laysStatic "PayrollRun" "STATEMENT_TOTALS" "[I" ∈ lw_tbl ∧ Cond.initialized "PayrollRun" ∈ lw_tbl := ⟨(zb5 62 rfl), (zb1 1 rfl)⟩
theorem zQl_2 : Cond.laysStatic "PayrollRun" "ACCOUNT_KINDS" "[I" ∈ lw_tbl ∧ Cond.initialized "PayrollRun" ∈ lw_tbl := ⟨(zb5 48 rfl), (zb1 1 rfl)⟩
theorem zQl_3 : Cond.laysStatic "PayrollRun$CommandText" "NUMBERS_AFTER" "[I" ∈ lw_tbl ∧ Cond.initialized "PayrollRun$CommandText" ∈ lw_tbl := ⟨(zb5 154 rfl), (zb1 7 rfl)⟩
theorem zQl_4 : Cond.laysStatic "java/lang/Integer" "DigitTens" "[B" ∈ lw_tbl ∧ Cond.initialized "java/lang/Integer" ∈ lw_tbl := ⟨(zb4 156 rfl), (zb1 23 rfl)⟩
theorem zQl_5 : Cond.laysStatic "java/lang/Integer" "DigitOnes" "[B" ∈ lw_tbl ∧ Cond.initialized "java/lang/Integer" ∈ lw_tbl := ⟨(zb4 154 rfl), (zb1 23 rfl)⟩
theorem zQl_6 : Cond.laysStatic "java/lang/String" "COMPACT_STRINGS" "Z" ∈ lw_tbl ∧ Cond.initialized "java/lang/String" ∈ lw_tbl := ⟨(zb2 46 rfl), (zb1 14 rfl)⟩
theorem zQl_7 : Cond.laysStatic "java/lang/StringUTF16" "$assertionsDisabled" "Z" ∈ lw_tbl ∧ Cond.initialized "java/lang/StringUTF16" ∈ lw_tbl := ⟨(zb4 70 rfl), (zb1 15 rfl)⟩
theorem zQl_8 : Cond.laysStatic "java/lang/StringUTF16" "HI_BYTE_SHIFT" "I" ∈ lw_tbl ∧ Cond.initialized "java/lang/StringUTF16" ∈ lw_tbl := ⟨(zb4 72 rfl), (zb1 15 rfl)⟩
theorem zQl_9 : Cond.laysStatic "java/lang/StringUTF16" "LO_BYTE_SHIFT" "I" ∈ lw_tbl ∧ Cond.initialized "java/lang/StringUTF16" ∈ lw_tbl := ⟨(zb4 74 rfl), (zb1 15 rfl)⟩
theorem zQl_10 : Cond.laysStatic "jdk/internal/util/Preconditions" "SIOOBE_FORMATTER" "Ljava/util/function/BiFunction;" ∈ lw_tbl ∧ Cond.initialized "jdk/internal/util/Preconditions" ∈ lw_tbl := ⟨(zb4 62 rfl), (zb1 22 rfl)⟩
theorem zQv_6 : Cond.eq (.static "java/lang/String" "COMPACT_STRINGS" "Z") (.int 1) ∈ zFl := zaf_in (i := 4) (by decide +kernel)
theorem zQv_7 : Cond.eq (.static "java/lang/StringUTF16" "$assertionsDisabled" "Z") (.int 1) ∈ zFl := zaf_in (i := 6) (by decide +kernel)
theorem zQv_8 : Cond.eq (.static "java/lang/StringUTF16" "HI_BYTE_SHIFT" "I") (.int 0) ∈ zFl := zaf_in (i := 7) (by decide +kernel)
theorem zQv_9 : Cond.eq (.static "java/lang/StringUTF16" "LO_BYTE_SHIFT" "I") (.int 8) ∈ zFl := zaf_in (i := 8) (by decide +kernel)
theorem zQv_10 : Cond.isRef (.static "jdk/internal/util/Preconditions" "SIOOBE_FORMATTER" "Ljava/util/function/BiFunction;") ∈ zFl := zaf_in (i := 5) (by decide +kernel)
theorem zin_0 : Cond.instantiable "java/lang/StringBuilder" 4 ∈ lw_tbl := (zb2 37 rfl)
theorem zin_1 : Cond.instantiable "PayrollRun$Books" 5 ∈ lw_tbl := (zb1 33 rfl)
theorem zin_2 : Cond.instantiable "PayrollRun$Closing" 1 ∈ lw_tbl := (zb1 214 rfl)
theorem zin_3 : Cond.instantiable "PayrollRun$CommandText" 6 ∈ lw_tbl := (zb1 187 rfl)
theorem zin_4 : Cond.instantiable "PayrollRun$Garnishments" 5 ∈ lw_tbl := (zb1 77 rfl)
theorem zin_5 : Cond.instantiable "PayrollRun$History" 3 ∈ lw_tbl := (zb1 168 rfl)
theorem zin_6 : Cond.instantiable "PayrollRun$Rules" 5 ∈ lw_tbl := (zb1 41 rfl)
theorem zin_7 : Cond.instantiable "PayrollRun$Slip" 4 ∈ lw_tbl := (zb1 235 rfl)
theorem zin_8 : Cond.instantiable "PayrollRun$SlipText" 2 ∈ lw_tbl := (zb2 31 rfl)
theorem zin_9 : Cond.instantiable "PayrollRun$Trial" 3 ∈ lw_tbl := (zb1 225 rfl)
theorem zin_10 : Cond.instantiable "PayrollRun$Worker" 7 ∈ lw_tbl := (zb1 69 rfl)
theorem zin_11 : Cond.instantiable "PayrollRun" 8 ∈ lw_tbl := (zb1 25 rfl)
theorem zin_12 : Cond.instantiable "PayrollRunModel" 15 ∈ lw_tbl := (zb5 207 rfl)
theorem zov_Worker : Cond.arrayOver (.object "PayrollRun$Worker") ∈ lw_tbl := (zb1 39 rfl)
theorem zov_Slip : Cond.arrayOver (.object "PayrollRun$Slip") ∈ lw_tbl := (zb1 75 rfl)
theorem zov_Books : Cond.arrayOver (.object "PayrollRun$Books") ∈ lw_tbl := (zb1 174 rfl)
theorem zov_String : Cond.arrayOver (.object "java/lang/String") ∈ lw_tbl := (zb7 145 rfl)
