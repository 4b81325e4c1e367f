/-! THE FACTS OF THE START, printed by emit_start.py: nests, texts, statics against the tables and the premises of the Statement -/
theorem zb1 (j : Nat) {c : Cond} (h : tables_1_1[j]? = some c) : c ∈ lw_tbl := List.mem_append_right _ (List.mem_append_left _ (List.mem_of_getElem? h))
theorem zb2 (j : Nat) {c : Cond} (h : tables_1_2[j]? = some c) : c ∈ lw_tbl := List.mem_append_right _ (List.mem_append_right _ (List.mem_append_left _ (List.mem_of_getElem? h)))
theorem zb3 (j : Nat) {c : Cond} (h : tables_1_3[j]? = some c) : c ∈ lw_tbl := List.mem_append_right _ (List.mem_append_right _ (List.mem_append_right _ (List.mem_append_left _ (List.mem_of_getElem? h))))
theorem zb4 (j : Nat) {c : Cond} (h : tables_1_4[j]? = some c) : c ∈ lw_tbl := List.mem_append_right _ (List.mem_append_right _ (List.mem_append_right _ (List.mem_append_right _ (List.mem_append_left _ (List.mem_of_getElem? h)))))
theorem zb5 (j : Nat) {c : Cond} (h : tables_1_5[j]? = some c) : c ∈ lw_tbl := List.mem_append_right _ (List.mem_append_right _ (List.mem_append_right _ (List.mem_append_right _ (List.mem_append_right _ (List.mem_append_left _ (List.mem_of_getElem? h))))))
theorem zb6 (j : Nat) {c : Cond} (h : tables_1_6[j]? = some c) : c ∈ lw_tbl := List.mem_append_right _ (List.mem_append_right _ (List.mem_append_right _ (List.mem_append_right _ (List.mem_append_right _ (List.mem_append_right _ (List.mem_append_left _ (List.mem_of_getElem? h)))))))
theorem zb7 (j : Nat) {c : Cond} (h : tables_1_7[j]? = some c) : c ∈ lw_tbl := List.mem_append_right _ (List.mem_append_right _ (List.mem_append_right _ (List.mem_append_right _ (List.mem_append_right _ (List.mem_append_right _ (List.mem_append_right _ ((List.mem_of_getElem? h))))))))
theorem zAll_in {α : Type} {P : α → Prop} : ∀ {l : List α}, zAll P l → ∀ {q : α}, q ∈ l → P q
  | [], _, q, hq => by cases hq
  | a :: l, h, q, hq => by
    rcases List.mem_cons.mp hq with rfl | h2
    · exact h.1
    · exact zAll_in h.2 h2
def znlP (q : String × Nat × MethodName × String) : Prop := Cond.methodLinkNest q.1 q.2.1 q.2.2.1 q.2.2.2 ∈ lw_tbl
theorem znl_ok : ∀ q ∈ znl, znlP q := by
  have h : zAll znlP znl := ⟨(zb1 187 rfl),
  (zb1 214 rfl),
  (zb1 225 rfl),
  (zb2 31 rfl),
  (zb1 41 rfl),
  (zb2 132 rfl),
  (zb2 138 rfl),
  (zb2 141 rfl),
  (zb3 39 rfl),
  (zb3 44 rfl),
  (zb5 62 rfl),
  (zb2 206 rfl),
  (zb3 188 rfl),
  (zb4 158 rfl),
  (zb1 230 rfl),
  (zb1 235 rfl),
  (zb4 188 rfl),
  (zb4 221 rfl),
  (zb1 77 rfl),
  (zb3 53 rfl), trivial⟩
  exact fun q hq => zAll_in h hq
abbrev zFl : List Cond := flatC (Jvm.Cond.and given_1 narrow_1)
def zaf (i : Nat) (c : Cond) : Bool := decide (zFl[i]? = some c)
theorem zaf_in {i : Nat} {c : Cond} (h : zaf i c = true) : c ∈ zFl := List.mem_of_getElem? (of_decide_eq_true h)
def zSt (q : String × Nat × String × List Int32) : Term := .string q.1 q.2.1
def zSv (q : String × Nat × String × List Int32) : Term := .field (zSt q) "java/lang/String" "value" "[B"
def zSb (q : String × Nat × String × List Int32) (p : Nat) : Bool := zaf p (.exactly (zSt q) "java/lang/String") && zaf (p + 1) (.eq (.field (zSt q) "java/lang/String" "coder" "B") (.int 0)) && zaf (p + 2) (.arrayOf (zSv q) .byte) && zaf (p + 3) (.eq (.length (zSv q)) (.int (Int32.ofNat q.2.2.2.length))) && (List.range q.2.2.2.length).all fun i => zaf (p + 4 + i) (.eq (.elem (zSv q) (.int (Int32.ofNat i))) (.int (q.2.2.2.getD i 0)))
def zSpos : List Nat := [162, 172, 180, 189, 198, 206, 213, 224, 233, 242, 250, 258, 91, 100, 110, 120, 127, 135, 146, 155, 267, 277, 288, 299, 307, 316, 328, 338, 346, 357, 366, 376, 386, 396, 405, 415, 424, 432, 444, 453]
def zsr (q : String × Nat × String × List Int32) : Prop := Cond.stringRef q.1 q.2.1 q.2.2.1 ∈ lw_tbl
theorem zsr_ok : ∀ q ∈ zsx, zsr q := by
  have h : zAll zsr zsx := ⟨(zb5 90 rfl),
  (zb5 91 rfl),
  (zb5 92 rfl),
  (zb5 93 rfl),
  (zb5 94 rfl),
  (zb5 95 rfl),
  (zb5 96 rfl),
  (zb5 97 rfl),
  (zb5 98 rfl),
  (zb5 99 rfl),
  (zb5 100 rfl),
  (zb5 101 rfl),
  (zb4 28 rfl),
  (zb4 29 rfl),
  (zb4 30 rfl),
  (zb4 31 rfl),
  (zb4 32 rfl),
  (zb4 33 rfl),
  (zb4 34 rfl),
  (zb4 35 rfl),
  (zb6 238 rfl),
  (zb6 239 rfl),
  (zb7 0 rfl),
  (zb7 1 rfl),
  (zb7 2 rfl),
  (zb7 3 rfl),
  (zb7 4 rfl),
  (zb7 5 rfl),
  (zb7 119 rfl),
  (zb7 120 rfl),
  (zb7 121 rfl),
  (zb7 122 rfl),
  (zb7 123 rfl),
  (zb7 124 rfl),
  (zb7 125 rfl),
  (zb7 126 rfl),
  (zb7 127 rfl),
  (zb7 128 rfl),
  (zb7 129 rfl),
  (zb7 130 rfl), trivial⟩
  exact fun q hq => zAll_in h hq
theorem zSb_ok : ∀ j, j < 40 → zSb (zsx.getD j default) (zSpos.getD j 0) = true := by decide +kernel
def zQt (q : String × String × String × Value) : Term := .static q.1 q.2.1 q.2.2.1
def zQb (q : String × String × String × Value) (r : FieldType × List Int32) (p : Nat) : Bool := zaf p (.isRef (zQt q)) && zaf (p + 1) (.arrayOf (zQt q) r.1) && zaf (p + 2) (.eq (.length (zQt q)) (.int (Int32.ofNat r.2.length))) && (List.range r.2.length).all fun i => zaf (p + 3 + i) (.eq (.elem (zQt q) (.int (Int32.ofNat i))) (.int (r.2.getD i 0)))
theorem zQb_0 : zQb (zsl.getD 0 default) (zsa.getD 0 default) 17 = true := by decide +kernel
theorem zQb_1 : zQb (zsl.getD 1 default) (zsa.getD 1 default) 27 = true := by decide +kernel
theorem zQb_2 : zQb (zsl.getD 2 default) (zsa.getD 2 default) 9 = true := by decide +kernel
theorem zQb_3 : zQb (zsl.getD 3 default) (zsa.getD 3 default) 37 = true := by decide +kernel
theorem zQl_0 : Cond.laysStatic "PayrollRun" "STATEMENT_KINDS" "[I" ∈ lw_tbl ∧ Cond.initialized "PayrollRun" ∈ lw_tbl := ⟨(zb5 33 rfl), (zb1 1 rfl)⟩
theorem zQl_1 : Cond.laysStatic "PayrollRun" "STATEMENT_TOTALS" "[I" ∈ lw_tbl ∧ Cond.initialized "PayrollRun" ∈ lw_tbl := ⟨(zb5 35 rfl), (zb1 1 rfl)⟩
theorem zQl_2 : Cond.laysStatic "PayrollRun" "ACCOUNT_KINDS" "[I" ∈ lw_tbl ∧ Cond.initialized "PayrollRun" ∈ lw_tbl := ⟨(zb5 21 rfl), (zb1 1 rfl)⟩
theorem zQl_3 : Cond.laysStatic "PayrollRun$CommandText" "NUMBERS_AFTER" "[I" ∈ lw_tbl ∧ Cond.initialized "PayrollRun$CommandText" ∈ lw_tbl := ⟨(zb5 127 rfl), (zb1 7 rfl)⟩
theorem zQl_4 : Cond.laysStatic "java/lang/String" "COMPACT_STRINGS" "Z" ∈ lw_tbl ∧ Cond.initialized "java/lang/String" ∈ lw_tbl := ⟨(zb2 45 rfl), (zb1 14 rfl)⟩
theorem zQl_5 : Cond.laysStatic "java/lang/StringUTF16" "$assertionsDisabled" "Z" ∈ lw_tbl ∧ Cond.initialized "java/lang/StringUTF16" ∈ lw_tbl := ⟨(zb4 68 rfl), (zb1 15 rfl)⟩
theorem zQl_6 : Cond.laysStatic "java/lang/StringUTF16" "HI_BYTE_SHIFT" "I" ∈ lw_tbl ∧ Cond.initialized "java/lang/StringUTF16" ∈ lw_tbl := ⟨(zb4 70 rfl), (zb1 15 rfl)⟩
theorem zQl_7 : Cond.laysStatic "java/lang/StringUTF16" "LO_BYTE_SHIFT" "I" ∈ lw_tbl ∧ Cond.initialized "java/lang/StringUTF16" ∈ lw_tbl := ⟨(zb4 72 rfl), (zb1 15 rfl)⟩
theorem zQl_8 : Cond.laysStatic "jdk/internal/util/Preconditions" "SIOOBE_FORMATTER" "Ljava/util/function/BiFunction;" ∈ lw_tbl ∧ Cond.initialized "jdk/internal/util/Preconditions" ∈ lw_tbl := ⟨(zb4 60 rfl), (zb1 22 rfl)⟩
theorem zQv_4 : Cond.eq (.static "java/lang/String" "COMPACT_STRINGS" "Z") (.int 1) ∈ zFl := zaf_in (i := 4) (by decide +kernel)
theorem zQv_5 : Cond.eq (.static "java/lang/StringUTF16" "$assertionsDisabled" "Z") (.int 1) ∈ zFl := zaf_in (i := 6) (by decide +kernel)
theorem zQv_6 : Cond.eq (.static "java/lang/StringUTF16" "HI_BYTE_SHIFT" "I") (.int 0) ∈ zFl := zaf_in (i := 7) (by decide +kernel)
theorem zQv_7 : Cond.eq (.static "java/lang/StringUTF16" "LO_BYTE_SHIFT" "I") (.int 8) ∈ zFl := zaf_in (i := 8) (by decide +kernel)
theorem zQv_8 : Cond.isRef (.static "jdk/internal/util/Preconditions" "SIOOBE_FORMATTER" "Ljava/util/function/BiFunction;") ∈ zFl := zaf_in (i := 5) (by decide +kernel)
theorem zin_0 : Cond.instantiable "java/lang/StringBuilder" 4 ∈ lw_tbl := (zb2 36 rfl)
theorem zin_1 : Cond.instantiable "PayrollRun$Books" 5 ∈ lw_tbl := (zb1 32 rfl)
theorem zin_2 : Cond.instantiable "PayrollRun$Closing" 1 ∈ lw_tbl := (zb1 213 rfl)
theorem zin_3 : Cond.instantiable "PayrollRun$CommandText" 6 ∈ lw_tbl := (zb1 186 rfl)
theorem zin_4 : Cond.instantiable "PayrollRun$Garnishments" 5 ∈ lw_tbl := (zb1 76 rfl)
theorem zin_5 : Cond.instantiable "PayrollRun$History" 3 ∈ lw_tbl := (zb1 167 rfl)
theorem zin_6 : Cond.instantiable "PayrollRun$Rules" 5 ∈ lw_tbl := (zb1 40 rfl)
theorem zin_7 : Cond.instantiable "PayrollRun$Slip" 4 ∈ lw_tbl := (zb1 234 rfl)
theorem zin_8 : Cond.instantiable "PayrollRun$SlipText" 2 ∈ lw_tbl := (zb2 30 rfl)
theorem zin_9 : Cond.instantiable "PayrollRun$Trial" 3 ∈ lw_tbl := (zb1 224 rfl)
theorem zin_10 : Cond.instantiable "PayrollRun$Worker" 7 ∈ lw_tbl := (zb1 68 rfl)
theorem zin_11 : Cond.instantiable "PayrollRun" 8 ∈ lw_tbl := (zb1 24 rfl)
theorem zin_12 : Cond.instantiable "PayrollRunModel" 15 ∈ lw_tbl := (zb5 180 rfl)
theorem zov_Worker : Cond.arrayOver (.object "PayrollRun$Worker") ∈ lw_tbl := (zb1 38 rfl)
theorem zov_Slip : Cond.arrayOver (.object "PayrollRun$Slip") ∈ lw_tbl := (zb1 74 rfl)
theorem zov_Books : Cond.arrayOver (.object "PayrollRun$Books") ∈ lw_tbl := (zb1 173 rfl)
theorem zov_String : Cond.arrayOver (.object "java/lang/String") ∈ lw_tbl := (zb7 118 rfl)
