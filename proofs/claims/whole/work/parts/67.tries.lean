/-! ===== 67.tries: the law's methods that try a call (rows laid by wip/whole/gen/make67.py) ===== -/
/-- how a call ends that tells a double, a float -/
def rsD (Xs : List String) (k : Nat) (v : UInt64) : Option Value ⊕ String := if k = 0 then .inl (some (.double v)) else .inr (Xs.getD (k - 1) "")
def rsF (Xs : List String) (k : Nat) (v : UInt32) : Option Value ⊕ String := if k = 0 then .inl (some (.float v)) else .inr (Xs.getD (k - 1) "")
theorem zw0 : (Jvm.Cond.code ({ cls := "TubHire", name := "tub", desc := "(I)I" } : Jvm.MethodName) prog_1_method_2_code (2 : Nat) (Option.some Jvm.ClassFile.FieldType.int)) ∈ xAll := xin2 (List.mem_of_getElem? (i := 109) (by decide +kernel)) (by decide +kernel)
theorem zw1 : (Jvm.Cond.initialized "TubHire") ∈ xAll := xin1 (List.mem_of_getElem? (i := 1) (by decide +kernel)) (by decide +kernel)
theorem zw2 : (Jvm.Cond.methodLink "TubHireLaw" (7 : Nat) ({ cls := "TubHire", name := "tub", desc := "(I)I" } : Jvm.MethodName)) ∈ xAll := xin2 (List.mem_of_getElem? (i := 106) (by decide +kernel)) (by decide +kernel)
theorem zw3 : (Jvm.Cond.instanceMethod ({ cls := "TubHire", name := "tub", desc := "(I)I" } : Jvm.MethodName)) ∈ xAll := xin2 (List.mem_of_getElem? (i := 107) (by decide +kernel)) (by decide +kernel)
theorem zw4 : (Jvm.Cond.selects "TubHire" ({ cls := "TubHire", name := "tub", desc := "(I)I" } : Jvm.MethodName) ({ cls := "TubHire", name := "tub", desc := "(I)I" } : Jvm.MethodName)) ∈ xAll := xin2 (List.mem_of_getElem? (i := 108) (by decide +kernel)) (by decide +kernel)
theorem zw5 : (Jvm.Cond.classLink "TubHireLaw" (13 : Nat) "java/lang/IllegalArgumentException") ∈ xAll := xin2 (List.mem_of_getElem? (i := 104) (by decide +kernel)) (by decide +kernel)
theorem zw6 : (Jvm.Cond.classLink "TubHireLaw" (15 : Nat) "java/lang/UnsupportedOperationException") ∈ xAll := xin2 (List.mem_of_getElem? (i := 105) (by decide +kernel)) (by decide +kernel)
theorem zw7 : (Jvm.Cond.code ({ cls := "TubHire", name := "tubOf", desc := "(II)I" } : Jvm.MethodName) prog_1_method_3_code (4 : Nat) (Option.some Jvm.ClassFile.FieldType.int)) ∈ xAll := xin3 (List.mem_of_getElem? (i := 31) (by decide +kernel)) (by decide +kernel)
theorem zw8 : (Jvm.Cond.methodLink "TubHireLaw" (17 : Nat) ({ cls := "TubHire", name := "tubOf", desc := "(II)I" } : Jvm.MethodName)) ∈ xAll := xin3 (List.mem_of_getElem? (i := 28) (by decide +kernel)) (by decide +kernel)
theorem zw9 : (Jvm.Cond.instanceMethod ({ cls := "TubHire", name := "tubOf", desc := "(II)I" } : Jvm.MethodName)) ∈ xAll := xin3 (List.mem_of_getElem? (i := 29) (by decide +kernel)) (by decide +kernel)
theorem zw10 : (Jvm.Cond.selects "TubHire" ({ cls := "TubHire", name := "tubOf", desc := "(II)I" } : Jvm.MethodName) ({ cls := "TubHire", name := "tubOf", desc := "(II)I" } : Jvm.MethodName)) ∈ xAll := xin3 (List.mem_of_getElem? (i := 30) (by decide +kernel)) (by decide +kernel)
theorem zw11 : (Jvm.Cond.classLink "TubHireLaw" (21 : Nat) "java/lang/IndexOutOfBoundsException") ∈ xAll := xin3 (List.mem_of_getElem? (i := 7) (by decide +kernel)) (by decide +kernel)
theorem zw12 : (Jvm.Cond.code ({ cls := "TubHire", name := "torn", desc := "(II)I" } : Jvm.MethodName) prog_1_method_4_code (5 : Nat) (Option.some Jvm.ClassFile.FieldType.int)) ∈ xAll := xin3 (List.mem_of_getElem? (i := 49) (by decide +kernel)) (by decide +kernel)
theorem zw13 : (Jvm.Cond.methodLink "TubHireLaw" (23 : Nat) ({ cls := "TubHire", name := "torn", desc := "(II)I" } : Jvm.MethodName)) ∈ xAll := xin3 (List.mem_of_getElem? (i := 46) (by decide +kernel)) (by decide +kernel)
theorem zw14 : (Jvm.Cond.instanceMethod ({ cls := "TubHire", name := "torn", desc := "(II)I" } : Jvm.MethodName)) ∈ xAll := xin3 (List.mem_of_getElem? (i := 47) (by decide +kernel)) (by decide +kernel)
theorem zw15 : (Jvm.Cond.selects "TubHire" ({ cls := "TubHire", name := "torn", desc := "(II)I" } : Jvm.MethodName) ({ cls := "TubHire", name := "torn", desc := "(II)I" } : Jvm.MethodName)) ∈ xAll := xin3 (List.mem_of_getElem? (i := 48) (by decide +kernel)) (by decide +kernel)
theorem zw16 : (Jvm.Cond.classLink "TubHireLaw" (26 : Nat) "java/util/NoSuchElementException") ∈ xAll := xin3 (List.mem_of_getElem? (i := 45) (by decide +kernel)) (by decide +kernel)
theorem zw17 : (Jvm.Cond.code ({ cls := "TubHire", name := "tear", desc := "(II)I" } : Jvm.MethodName) prog_1_method_5_code (3 : Nat) (Option.some Jvm.ClassFile.FieldType.int)) ∈ xAll := xin3 (List.mem_of_getElem? (i := 84) (by decide +kernel)) (by decide +kernel)
theorem zw18 : (Jvm.Cond.methodLink "TubHireLaw" (28 : Nat) ({ cls := "TubHire", name := "tear", desc := "(II)I" } : Jvm.MethodName)) ∈ xAll := xin3 (List.mem_of_getElem? (i := 81) (by decide +kernel)) (by decide +kernel)
theorem zw19 : (Jvm.Cond.instanceMethod ({ cls := "TubHire", name := "tear", desc := "(II)I" } : Jvm.MethodName)) ∈ xAll := xin3 (List.mem_of_getElem? (i := 82) (by decide +kernel)) (by decide +kernel)
theorem zw20 : (Jvm.Cond.selects "TubHire" ({ cls := "TubHire", name := "tear", desc := "(II)I" } : Jvm.MethodName) ({ cls := "TubHire", name := "tear", desc := "(II)I" } : Jvm.MethodName)) ∈ xAll := xin3 (List.mem_of_getElem? (i := 83) (by decide +kernel)) (by decide +kernel)
theorem zw21 : (Jvm.Cond.code ({ cls := "TubHire", name := "mend", desc := "(II)I" } : Jvm.MethodName) prog_1_method_6_code (3 : Nat) (Option.some Jvm.ClassFile.FieldType.int)) ∈ xAll := xin3 (List.mem_of_getElem? (i := 107) (by decide +kernel)) (by decide +kernel)
theorem zw22 : (Jvm.Cond.methodLink "TubHireLaw" (31 : Nat) ({ cls := "TubHire", name := "mend", desc := "(II)I" } : Jvm.MethodName)) ∈ xAll := xin3 (List.mem_of_getElem? (i := 104) (by decide +kernel)) (by decide +kernel)
theorem zw23 : (Jvm.Cond.instanceMethod ({ cls := "TubHire", name := "mend", desc := "(II)I" } : Jvm.MethodName)) ∈ xAll := xin3 (List.mem_of_getElem? (i := 105) (by decide +kernel)) (by decide +kernel)
theorem zw24 : (Jvm.Cond.selects "TubHire" ({ cls := "TubHire", name := "mend", desc := "(II)I" } : Jvm.MethodName) ({ cls := "TubHire", name := "mend", desc := "(II)I" } : Jvm.MethodName)) ∈ xAll := xin3 (List.mem_of_getElem? (i := 106) (by decide +kernel)) (by decide +kernel)
theorem zw25 : (Jvm.Cond.code ({ cls := "TubHire", name := "bestTub", desc := "()I" } : Jvm.MethodName) prog_1_method_7_code (2 : Nat) (Option.some Jvm.ClassFile.FieldType.int)) ∈ xAll := xin3 (List.mem_of_getElem? (i := 123) (by decide +kernel)) (by decide +kernel)
theorem zw26 : (Jvm.Cond.methodLink "TubHireLaw" (34 : Nat) ({ cls := "TubHire", name := "bestTub", desc := "()I" } : Jvm.MethodName)) ∈ xAll := xin3 (List.mem_of_getElem? (i := 120) (by decide +kernel)) (by decide +kernel)
theorem zw27 : (Jvm.Cond.instanceMethod ({ cls := "TubHire", name := "bestTub", desc := "()I" } : Jvm.MethodName)) ∈ xAll := xin3 (List.mem_of_getElem? (i := 121) (by decide +kernel)) (by decide +kernel)
theorem zw28 : (Jvm.Cond.selects "TubHire" ({ cls := "TubHire", name := "bestTub", desc := "()I" } : Jvm.MethodName) ({ cls := "TubHire", name := "bestTub", desc := "()I" } : Jvm.MethodName)) ∈ xAll := xin3 (List.mem_of_getElem? (i := 122) (by decide +kernel)) (by decide +kernel)
theorem zw29 : (Jvm.Cond.code ({ cls := "TubHire", name := "out", desc := "(II)I" } : Jvm.MethodName) prog_1_method_8_code (3 : Nat) (Option.some Jvm.ClassFile.FieldType.int)) ∈ xAll := xin3 (List.mem_of_getElem? (i := 138) (by decide +kernel)) (by decide +kernel)
theorem zw30 : (Jvm.Cond.methodLink "TubHireLaw" (38 : Nat) ({ cls := "TubHire", name := "out", desc := "(II)I" } : Jvm.MethodName)) ∈ xAll := xin3 (List.mem_of_getElem? (i := 135) (by decide +kernel)) (by decide +kernel)
theorem zw31 : (Jvm.Cond.instanceMethod ({ cls := "TubHire", name := "out", desc := "(II)I" } : Jvm.MethodName)) ∈ xAll := xin3 (List.mem_of_getElem? (i := 136) (by decide +kernel)) (by decide +kernel)
theorem zw32 : (Jvm.Cond.selects "TubHire" ({ cls := "TubHire", name := "out", desc := "(II)I" } : Jvm.MethodName) ({ cls := "TubHire", name := "out", desc := "(II)I" } : Jvm.MethodName)) ∈ xAll := xin3 (List.mem_of_getElem? (i := 137) (by decide +kernel)) (by decide +kernel)
theorem zw33 : (Jvm.Cond.code ({ cls := "TubHire", name := "back", desc := "(I)I" } : Jvm.MethodName) prog_1_method_9_code (2 : Nat) (Option.some Jvm.ClassFile.FieldType.int)) ∈ xAll := xin3 (List.mem_of_getElem? (i := 154) (by decide +kernel)) (by decide +kernel)
theorem zw34 : (Jvm.Cond.methodLink "TubHireLaw" (41 : Nat) ({ cls := "TubHire", name := "back", desc := "(I)I" } : Jvm.MethodName)) ∈ xAll := xin3 (List.mem_of_getElem? (i := 151) (by decide +kernel)) (by decide +kernel)
theorem zw35 : (Jvm.Cond.instanceMethod ({ cls := "TubHire", name := "back", desc := "(I)I" } : Jvm.MethodName)) ∈ xAll := xin3 (List.mem_of_getElem? (i := 152) (by decide +kernel)) (by decide +kernel)
theorem zw36 : (Jvm.Cond.selects "TubHire" ({ cls := "TubHire", name := "back", desc := "(I)I" } : Jvm.MethodName) ({ cls := "TubHire", name := "back", desc := "(I)I" } : Jvm.MethodName)) ∈ xAll := xin3 (List.mem_of_getElem? (i := 153) (by decide +kernel)) (by decide +kernel)
theorem zw37 : (Jvm.Cond.code ({ cls := "TubHire", name := "tent", desc := "(I)I" } : Jvm.MethodName) prog_1_method_10_code (2 : Nat) (Option.some Jvm.ClassFile.FieldType.int)) ∈ xAll := xin3 (List.mem_of_getElem? (i := 169) (by decide +kernel)) (by decide +kernel)
theorem zw38 : (Jvm.Cond.methodLink "TubHireLaw" (44 : Nat) ({ cls := "TubHire", name := "tent", desc := "(I)I" } : Jvm.MethodName)) ∈ xAll := xin3 (List.mem_of_getElem? (i := 166) (by decide +kernel)) (by decide +kernel)
theorem zw39 : (Jvm.Cond.instanceMethod ({ cls := "TubHire", name := "tent", desc := "(I)I" } : Jvm.MethodName)) ∈ xAll := xin3 (List.mem_of_getElem? (i := 167) (by decide +kernel)) (by decide +kernel)
theorem zw40 : (Jvm.Cond.selects "TubHire" ({ cls := "TubHire", name := "tent", desc := "(I)I" } : Jvm.MethodName) ({ cls := "TubHire", name := "tent", desc := "(I)I" } : Jvm.MethodName)) ∈ xAll := xin3 (List.mem_of_getElem? (i := 168) (by decide +kernel)) (by decide +kernel)
theorem zw41 : (Jvm.Cond.code ({ cls := "TubHire", name := "tentOf", desc := "(II)I" } : Jvm.MethodName) prog_1_method_11_code (4 : Nat) (Option.some Jvm.ClassFile.FieldType.int)) ∈ xAll := xin3 (List.mem_of_getElem? (i := 180) (by decide +kernel)) (by decide +kernel)
theorem zw42 : (Jvm.Cond.methodLink "TubHireLaw" (47 : Nat) ({ cls := "TubHire", name := "tentOf", desc := "(II)I" } : Jvm.MethodName)) ∈ xAll := xin3 (List.mem_of_getElem? (i := 177) (by decide +kernel)) (by decide +kernel)
theorem zw43 : (Jvm.Cond.instanceMethod ({ cls := "TubHire", name := "tentOf", desc := "(II)I" } : Jvm.MethodName)) ∈ xAll := xin3 (List.mem_of_getElem? (i := 178) (by decide +kernel)) (by decide +kernel)
theorem zw44 : (Jvm.Cond.selects "TubHire" ({ cls := "TubHire", name := "tentOf", desc := "(II)I" } : Jvm.MethodName) ({ cls := "TubHire", name := "tentOf", desc := "(II)I" } : Jvm.MethodName)) ∈ xAll := xin3 (List.mem_of_getElem? (i := 179) (by decide +kernel)) (by decide +kernel)
theorem zw45 : (Jvm.Cond.code ({ cls := "TubHire", name := "waiting", desc := "(II)I" } : Jvm.MethodName) prog_1_method_12_code (5 : Nat) (Option.some Jvm.ClassFile.FieldType.int)) ∈ xAll := xin3 (List.mem_of_getElem? (i := 194) (by decide +kernel)) (by decide +kernel)
theorem zw46 : (Jvm.Cond.methodLink "TubHireLaw" (50 : Nat) ({ cls := "TubHire", name := "waiting", desc := "(II)I" } : Jvm.MethodName)) ∈ xAll := xin3 (List.mem_of_getElem? (i := 191) (by decide +kernel)) (by decide +kernel)
theorem zw47 : (Jvm.Cond.instanceMethod ({ cls := "TubHire", name := "waiting", desc := "(II)I" } : Jvm.MethodName)) ∈ xAll := xin3 (List.mem_of_getElem? (i := 192) (by decide +kernel)) (by decide +kernel)
theorem zw48 : (Jvm.Cond.selects "TubHire" ({ cls := "TubHire", name := "waiting", desc := "(II)I" } : Jvm.MethodName) ({ cls := "TubHire", name := "waiting", desc := "(II)I" } : Jvm.MethodName)) ∈ xAll := xin3 (List.mem_of_getElem? (i := 193) (by decide +kernel)) (by decide +kernel)
theorem zw49 : (Jvm.Cond.code ({ cls := "TubHire", name := "join", desc := "(I)I" } : Jvm.MethodName) prog_1_method_13_code (2 : Nat) (Option.some Jvm.ClassFile.FieldType.int)) ∈ xAll := xin3 (List.mem_of_getElem? (i := 206) (by decide +kernel)) (by decide +kernel)
theorem zw50 : (Jvm.Cond.methodLink "TubHireLaw" (53 : Nat) ({ cls := "TubHire", name := "join", desc := "(I)I" } : Jvm.MethodName)) ∈ xAll := xin3 (List.mem_of_getElem? (i := 203) (by decide +kernel)) (by decide +kernel)
theorem zw51 : (Jvm.Cond.instanceMethod ({ cls := "TubHire", name := "join", desc := "(I)I" } : Jvm.MethodName)) ∈ xAll := xin3 (List.mem_of_getElem? (i := 204) (by decide +kernel)) (by decide +kernel)
theorem zw52 : (Jvm.Cond.selects "TubHire" ({ cls := "TubHire", name := "join", desc := "(I)I" } : Jvm.MethodName) ({ cls := "TubHire", name := "join", desc := "(I)I" } : Jvm.MethodName)) ∈ xAll := xin3 (List.mem_of_getElem? (i := 205) (by decide +kernel)) (by decide +kernel)
theorem zw53 : (Jvm.Cond.code ({ cls := "TubHire", name := "heater", desc := "()I" } : Jvm.MethodName) prog_1_method_14_code (1 : Nat) (Option.some Jvm.ClassFile.FieldType.int)) ∈ xAll := xin3 (List.mem_of_getElem? (i := 221) (by decide +kernel)) (by decide +kernel)
theorem zw54 : (Jvm.Cond.methodLink "TubHireLaw" (56 : Nat) ({ cls := "TubHire", name := "heater", desc := "()I" } : Jvm.MethodName)) ∈ xAll := xin3 (List.mem_of_getElem? (i := 218) (by decide +kernel)) (by decide +kernel)
theorem zw55 : (Jvm.Cond.instanceMethod ({ cls := "TubHire", name := "heater", desc := "()I" } : Jvm.MethodName)) ∈ xAll := xin3 (List.mem_of_getElem? (i := 219) (by decide +kernel)) (by decide +kernel)
theorem zw56 : (Jvm.Cond.selects "TubHire" ({ cls := "TubHire", name := "heater", desc := "()I" } : Jvm.MethodName) ({ cls := "TubHire", name := "heater", desc := "()I" } : Jvm.MethodName)) ∈ xAll := xin3 (List.mem_of_getElem? (i := 220) (by decide +kernel)) (by decide +kernel)
theorem zw57 : (Jvm.Cond.code ({ cls := "TubHire", name := "heaterOf", desc := "(IZ)I" } : Jvm.MethodName) prog_1_method_15_code (4 : Nat) (Option.some Jvm.ClassFile.FieldType.int)) ∈ xAll := xin3 (List.mem_of_getElem? (i := 232) (by decide +kernel)) (by decide +kernel)
theorem zw58 : (Jvm.Cond.methodLink "TubHireLaw" (59 : Nat) ({ cls := "TubHire", name := "heaterOf", desc := "(IZ)I" } : Jvm.MethodName)) ∈ xAll := xin3 (List.mem_of_getElem? (i := 229) (by decide +kernel)) (by decide +kernel)
theorem zw59 : (Jvm.Cond.instanceMethod ({ cls := "TubHire", name := "heaterOf", desc := "(IZ)I" } : Jvm.MethodName)) ∈ xAll := xin3 (List.mem_of_getElem? (i := 230) (by decide +kernel)) (by decide +kernel)
theorem zw60 : (Jvm.Cond.selects "TubHire" ({ cls := "TubHire", name := "heaterOf", desc := "(IZ)I" } : Jvm.MethodName) ({ cls := "TubHire", name := "heaterOf", desc := "(IZ)I" } : Jvm.MethodName)) ∈ xAll := xin3 (List.mem_of_getElem? (i := 231) (by decide +kernel)) (by decide +kernel)
theorem zw61 : (Jvm.Cond.code ({ cls := "TubHire", name := "heat", desc := "(II)I" } : Jvm.MethodName) prog_1_method_16_code (3 : Nat) (Option.some Jvm.ClassFile.FieldType.int)) ∈ xAll := xin4 (List.mem_of_getElem? (i := 4) (by decide +kernel)) (by decide +kernel)
theorem zw62 : (Jvm.Cond.methodLink "TubHireLaw" (63 : Nat) ({ cls := "TubHire", name := "heat", desc := "(II)I" } : Jvm.MethodName)) ∈ xAll := xin4 (List.mem_of_getElem? (i := 1) (by decide +kernel)) (by decide +kernel)
theorem zw63 : (Jvm.Cond.instanceMethod ({ cls := "TubHire", name := "heat", desc := "(II)I" } : Jvm.MethodName)) ∈ xAll := xin4 (List.mem_of_getElem? (i := 2) (by decide +kernel)) (by decide +kernel)
theorem zw64 : (Jvm.Cond.selects "TubHire" ({ cls := "TubHire", name := "heat", desc := "(II)I" } : Jvm.MethodName) ({ cls := "TubHire", name := "heat", desc := "(II)I" } : Jvm.MethodName)) ∈ xAll := xin4 (List.mem_of_getElem? (i := 3) (by decide +kernel)) (by decide +kernel)
theorem zw65 : (Jvm.Cond.code ({ cls := "TubHire", name := "cold", desc := "(I)I" } : Jvm.MethodName) prog_1_method_17_code (2 : Nat) (Option.some Jvm.ClassFile.FieldType.int)) ∈ xAll := xin4 (List.mem_of_getElem? (i := 16) (by decide +kernel)) (by decide +kernel)
theorem zw66 : (Jvm.Cond.methodLink "TubHireLaw" (66 : Nat) ({ cls := "TubHire", name := "cold", desc := "(I)I" } : Jvm.MethodName)) ∈ xAll := xin4 (List.mem_of_getElem? (i := 13) (by decide +kernel)) (by decide +kernel)
theorem zw67 : (Jvm.Cond.instanceMethod ({ cls := "TubHire", name := "cold", desc := "(I)I" } : Jvm.MethodName)) ∈ xAll := xin4 (List.mem_of_getElem? (i := 14) (by decide +kernel)) (by decide +kernel)
theorem zw68 : (Jvm.Cond.selects "TubHire" ({ cls := "TubHire", name := "cold", desc := "(I)I" } : Jvm.MethodName) ({ cls := "TubHire", name := "cold", desc := "(I)I" } : Jvm.MethodName)) ∈ xAll := xin4 (List.mem_of_getElem? (i := 15) (by decide +kernel)) (by decide +kernel)
theorem zw69 : (Jvm.Cond.code ({ cls := "TubHire", name := "gas", desc := "(II)I" } : Jvm.MethodName) prog_1_method_18_code (3 : Nat) (Option.some Jvm.ClassFile.FieldType.int)) ∈ xAll := xin4 (List.mem_of_getElem? (i := 27) (by decide +kernel)) (by decide +kernel)
theorem zw70 : (Jvm.Cond.methodLink "TubHireLaw" (69 : Nat) ({ cls := "TubHire", name := "gas", desc := "(II)I" } : Jvm.MethodName)) ∈ xAll := xin4 (List.mem_of_getElem? (i := 24) (by decide +kernel)) (by decide +kernel)
theorem zw71 : (Jvm.Cond.instanceMethod ({ cls := "TubHire", name := "gas", desc := "(II)I" } : Jvm.MethodName)) ∈ xAll := xin4 (List.mem_of_getElem? (i := 25) (by decide +kernel)) (by decide +kernel)
theorem zw72 : (Jvm.Cond.selects "TubHire" ({ cls := "TubHire", name := "gas", desc := "(II)I" } : Jvm.MethodName) ({ cls := "TubHire", name := "gas", desc := "(II)I" } : Jvm.MethodName)) ∈ xAll := xin4 (List.mem_of_getElem? (i := 26) (by decide +kernel)) (by decide +kernel)
theorem zw73 : (Jvm.Cond.code ({ cls := "TubHire", name := "wash", desc := "(I)I" } : Jvm.MethodName) prog_1_method_19_code (2 : Nat) (Option.some Jvm.ClassFile.FieldType.int)) ∈ xAll := xin4 (List.mem_of_getElem? (i := 39) (by decide +kernel)) (by decide +kernel)
theorem zw74 : (Jvm.Cond.methodLink "TubHireLaw" (72 : Nat) ({ cls := "TubHire", name := "wash", desc := "(I)I" } : Jvm.MethodName)) ∈ xAll := xin4 (List.mem_of_getElem? (i := 36) (by decide +kernel)) (by decide +kernel)
theorem zw75 : (Jvm.Cond.instanceMethod ({ cls := "TubHire", name := "wash", desc := "(I)I" } : Jvm.MethodName)) ∈ xAll := xin4 (List.mem_of_getElem? (i := 37) (by decide +kernel)) (by decide +kernel)
theorem zw76 : (Jvm.Cond.selects "TubHire" ({ cls := "TubHire", name := "wash", desc := "(I)I" } : Jvm.MethodName) ({ cls := "TubHire", name := "wash", desc := "(I)I" } : Jvm.MethodName)) ∈ xAll := xin4 (List.mem_of_getElem? (i := 38) (by decide +kernel)) (by decide +kernel)
theorem zw77 : (Jvm.Cond.code ({ cls := "TubHire", name := "soap", desc := "(I)I" } : Jvm.MethodName) prog_1_method_20_code (2 : Nat) (Option.some Jvm.ClassFile.FieldType.int)) ∈ xAll := xin4 (List.mem_of_getElem? (i := 50) (by decide +kernel)) (by decide +kernel)
theorem zw78 : (Jvm.Cond.methodLink "TubHireLaw" (75 : Nat) ({ cls := "TubHire", name := "soap", desc := "(I)I" } : Jvm.MethodName)) ∈ xAll := xin4 (List.mem_of_getElem? (i := 47) (by decide +kernel)) (by decide +kernel)
theorem zw79 : (Jvm.Cond.instanceMethod ({ cls := "TubHire", name := "soap", desc := "(I)I" } : Jvm.MethodName)) ∈ xAll := xin4 (List.mem_of_getElem? (i := 48) (by decide +kernel)) (by decide +kernel)
theorem zw80 : (Jvm.Cond.selects "TubHire" ({ cls := "TubHire", name := "soap", desc := "(I)I" } : Jvm.MethodName) ({ cls := "TubHire", name := "soap", desc := "(I)I" } : Jvm.MethodName)) ∈ xAll := xin4 (List.mem_of_getElem? (i := 49) (by decide +kernel)) (by decide +kernel)
theorem zw81 : (Jvm.Cond.code ({ cls := "TubHire", name := "pass", desc := "(I)I" } : Jvm.MethodName) prog_1_method_21_code (2 : Nat) (Option.some Jvm.ClassFile.FieldType.int)) ∈ xAll := xin4 (List.mem_of_getElem? (i := 61) (by decide +kernel)) (by decide +kernel)
theorem zw82 : (Jvm.Cond.methodLink "TubHireLaw" (78 : Nat) ({ cls := "TubHire", name := "pass", desc := "(I)I" } : Jvm.MethodName)) ∈ xAll := xin4 (List.mem_of_getElem? (i := 58) (by decide +kernel)) (by decide +kernel)
theorem zw83 : (Jvm.Cond.instanceMethod ({ cls := "TubHire", name := "pass", desc := "(I)I" } : Jvm.MethodName)) ∈ xAll := xin4 (List.mem_of_getElem? (i := 59) (by decide +kernel)) (by decide +kernel)
theorem zw84 : (Jvm.Cond.selects "TubHire" ({ cls := "TubHire", name := "pass", desc := "(I)I" } : Jvm.MethodName) ({ cls := "TubHire", name := "pass", desc := "(I)I" } : Jvm.MethodName)) ∈ xAll := xin4 (List.mem_of_getElem? (i := 60) (by decide +kernel)) (by decide +kernel)
theorem zw85 : (Jvm.Cond.code ({ cls := "TubHire", name := "heatsIn", desc := "(II)I" } : Jvm.MethodName) prog_1_method_22_code (5 : Nat) (Option.some Jvm.ClassFile.FieldType.int)) ∈ xAll := xin4 (List.mem_of_getElem? (i := 117) (by decide +kernel)) (by decide +kernel)
theorem zw86 : (Jvm.Cond.methodLink "TubHireLaw" (81 : Nat) ({ cls := "TubHire", name := "heatsIn", desc := "(II)I" } : Jvm.MethodName)) ∈ xAll := xin4 (List.mem_of_getElem? (i := 114) (by decide +kernel)) (by decide +kernel)
theorem zw87 : (Jvm.Cond.instanceMethod ({ cls := "TubHire", name := "heatsIn", desc := "(II)I" } : Jvm.MethodName)) ∈ xAll := xin4 (List.mem_of_getElem? (i := 115) (by decide +kernel)) (by decide +kernel)
theorem zw88 : (Jvm.Cond.selects "TubHire" ({ cls := "TubHire", name := "heatsIn", desc := "(II)I" } : Jvm.MethodName) ({ cls := "TubHire", name := "heatsIn", desc := "(II)I" } : Jvm.MethodName)) ∈ xAll := xin4 (List.mem_of_getElem? (i := 116) (by decide +kernel)) (by decide +kernel)
theorem zw89 : (Jvm.Cond.code ({ cls := "TubHire", name := "heatsAgain", desc := "(II)I" } : Jvm.MethodName) prog_1_method_23_code (5 : Nat) (Option.some Jvm.ClassFile.FieldType.int)) ∈ xAll := xin4 (List.mem_of_getElem? (i := 130) (by decide +kernel)) (by decide +kernel)
theorem zw90 : (Jvm.Cond.methodLink "TubHireLaw" (84 : Nat) ({ cls := "TubHire", name := "heatsAgain", desc := "(II)I" } : Jvm.MethodName)) ∈ xAll := xin4 (List.mem_of_getElem? (i := 127) (by decide +kernel)) (by decide +kernel)
theorem zw91 : (Jvm.Cond.instanceMethod ({ cls := "TubHire", name := "heatsAgain", desc := "(II)I" } : Jvm.MethodName)) ∈ xAll := xin4 (List.mem_of_getElem? (i := 128) (by decide +kernel)) (by decide +kernel)
theorem zw92 : (Jvm.Cond.selects "TubHire" ({ cls := "TubHire", name := "heatsAgain", desc := "(II)I" } : Jvm.MethodName) ({ cls := "TubHire", name := "heatsAgain", desc := "(II)I" } : Jvm.MethodName)) ∈ xAll := xin4 (List.mem_of_getElem? (i := 129) (by decide +kernel)) (by decide +kernel)
theorem zw93 : (Jvm.Cond.code ({ cls := "TubHire", name := "bathesIn", desc := "(I)I" } : Jvm.MethodName) prog_1_method_24_code (3 : Nat) (Option.some Jvm.ClassFile.FieldType.int)) ∈ xAll := xin4 (List.mem_of_getElem? (i := 138) (by decide +kernel)) (by decide +kernel)
theorem zw94 : (Jvm.Cond.methodLink "TubHireLaw" (87 : Nat) ({ cls := "TubHire", name := "bathesIn", desc := "(I)I" } : Jvm.MethodName)) ∈ xAll := xin4 (List.mem_of_getElem? (i := 135) (by decide +kernel)) (by decide +kernel)
theorem zw95 : (Jvm.Cond.instanceMethod ({ cls := "TubHire", name := "bathesIn", desc := "(I)I" } : Jvm.MethodName)) ∈ xAll := xin4 (List.mem_of_getElem? (i := 136) (by decide +kernel)) (by decide +kernel)
theorem zw96 : (Jvm.Cond.selects "TubHire" ({ cls := "TubHire", name := "bathesIn", desc := "(I)I" } : Jvm.MethodName) ({ cls := "TubHire", name := "bathesIn", desc := "(I)I" } : Jvm.MethodName)) ∈ xAll := xin4 (List.mem_of_getElem? (i := 137) (by decide +kernel)) (by decide +kernel)
theorem zw97 : (Jvm.Cond.code ({ cls := "TubHire", name := "line", desc := "(I)I" } : Jvm.MethodName) prog_1_method_25_code (4 : Nat) (Option.some Jvm.ClassFile.FieldType.int)) ∈ xAll := xin4 (List.mem_of_getElem? (i := 159) (by decide +kernel)) (by decide +kernel)
theorem zw98 : (Jvm.Cond.methodLink "TubHireLaw" (90 : Nat) ({ cls := "TubHire", name := "line", desc := "(I)I" } : Jvm.MethodName)) ∈ xAll := xin4 (List.mem_of_getElem? (i := 156) (by decide +kernel)) (by decide +kernel)
theorem zw99 : (Jvm.Cond.instanceMethod ({ cls := "TubHire", name := "line", desc := "(I)I" } : Jvm.MethodName)) ∈ xAll := xin4 (List.mem_of_getElem? (i := 157) (by decide +kernel)) (by decide +kernel)
theorem zw100 : (Jvm.Cond.selects "TubHire" ({ cls := "TubHire", name := "line", desc := "(I)I" } : Jvm.MethodName) ({ cls := "TubHire", name := "line", desc := "(I)I" } : Jvm.MethodName)) ∈ xAll := xin4 (List.mem_of_getElem? (i := 158) (by decide +kernel)) (by decide +kernel)
theorem zw101 : (Jvm.Cond.code ({ cls := "TubHire", name := "character", desc := "(I)C" } : Jvm.MethodName) prog_1_method_26_code (2 : Nat) (Option.some Jvm.ClassFile.FieldType.char)) ∈ xAll := xin5 (List.mem_of_getElem? (i := 212) (by decide +kernel)) (by decide +kernel)
theorem zw102 : (Jvm.Cond.methodLink "TubHireLaw" (93 : Nat) ({ cls := "TubHire", name := "character", desc := "(I)C" } : Jvm.MethodName)) ∈ xAll := xin5 (List.mem_of_getElem? (i := 209) (by decide +kernel)) (by decide +kernel)
theorem zw103 : (Jvm.Cond.instanceMethod ({ cls := "TubHire", name := "character", desc := "(I)C" } : Jvm.MethodName)) ∈ xAll := xin5 (List.mem_of_getElem? (i := 210) (by decide +kernel)) (by decide +kernel)
theorem zw104 : (Jvm.Cond.selects "TubHire" ({ cls := "TubHire", name := "character", desc := "(I)C" } : Jvm.MethodName) ({ cls := "TubHire", name := "character", desc := "(I)C" } : Jvm.MethodName)) ∈ xAll := xin5 (List.mem_of_getElem? (i := 211) (by decide +kernel)) (by decide +kernel)
theorem zw105 : (Jvm.Cond.code ({ cls := "TubHire", name := "number", desc := "(I)I" } : Jvm.MethodName) prog_1_method_27_code (2 : Nat) (Option.some Jvm.ClassFile.FieldType.int)) ∈ xAll := xin5 (List.mem_of_getElem? (i := 230) (by decide +kernel)) (by decide +kernel)
theorem zw106 : (Jvm.Cond.methodLink "TubHireLaw" (97 : Nat) ({ cls := "TubHire", name := "number", desc := "(I)I" } : Jvm.MethodName)) ∈ xAll := xin5 (List.mem_of_getElem? (i := 227) (by decide +kernel)) (by decide +kernel)
theorem zw107 : (Jvm.Cond.instanceMethod ({ cls := "TubHire", name := "number", desc := "(I)I" } : Jvm.MethodName)) ∈ xAll := xin5 (List.mem_of_getElem? (i := 228) (by decide +kernel)) (by decide +kernel)
theorem zw108 : (Jvm.Cond.selects "TubHire" ({ cls := "TubHire", name := "number", desc := "(I)I" } : Jvm.MethodName) ({ cls := "TubHire", name := "number", desc := "(I)I" } : Jvm.MethodName)) ∈ xAll := xin5 (List.mem_of_getElem? (i := 229) (by decide +kernel)) (by decide +kernel)
theorem zw109 : (Jvm.Cond.code ({ cls := "TubHire", name := "meanWarmth", desc := "()D" } : Jvm.MethodName) prog_1_method_29_code (5 : Nat) (Option.some Jvm.ClassFile.FieldType.double)) ∈ xAll := xin6 (List.mem_of_getElem? (i := 27) (by decide +kernel)) (by decide +kernel)
theorem zw110 : (Jvm.Cond.methodLink "TubHireLaw" (100 : Nat) ({ cls := "TubHire", name := "meanWarmth", desc := "()D" } : Jvm.MethodName)) ∈ xAll := xin6 (List.mem_of_getElem? (i := 24) (by decide +kernel)) (by decide +kernel)
theorem zw111 : (Jvm.Cond.instanceMethod ({ cls := "TubHire", name := "meanWarmth", desc := "()D" } : Jvm.MethodName)) ∈ xAll := xin6 (List.mem_of_getElem? (i := 25) (by decide +kernel)) (by decide +kernel)
theorem zw112 : (Jvm.Cond.selects "TubHire" ({ cls := "TubHire", name := "meanWarmth", desc := "()D" } : Jvm.MethodName) ({ cls := "TubHire", name := "meanWarmth", desc := "()D" } : Jvm.MethodName)) ∈ xAll := xin6 (List.mem_of_getElem? (i := 26) (by decide +kernel)) (by decide +kernel)
theorem zw113 : (Jvm.Cond.classLink "TubHireLaw" (104 : Nat) "java/lang/ArithmeticException") ∈ xAll := xin6 (List.mem_of_getElem? (i := 10) (by decide +kernel)) (by decide +kernel)
theorem zw114 : (Jvm.Cond.code ({ cls := "TubHire", name := "bathedShare", desc := "()F" } : Jvm.MethodName) prog_1_method_30_code (1 : Nat) (Option.some Jvm.ClassFile.FieldType.float)) ∈ xAll := xin6 (List.mem_of_getElem? (i := 37) (by decide +kernel)) (by decide +kernel)
theorem zw115 : (Jvm.Cond.methodLink "TubHireLaw" (106 : Nat) ({ cls := "TubHire", name := "bathedShare", desc := "()F" } : Jvm.MethodName)) ∈ xAll := xin6 (List.mem_of_getElem? (i := 34) (by decide +kernel)) (by decide +kernel)
theorem zw116 : (Jvm.Cond.instanceMethod ({ cls := "TubHire", name := "bathedShare", desc := "()F" } : Jvm.MethodName)) ∈ xAll := xin6 (List.mem_of_getElem? (i := 35) (by decide +kernel)) (by decide +kernel)
theorem zw117 : (Jvm.Cond.selects "TubHire" ({ cls := "TubHire", name := "bathedShare", desc := "()F" } : Jvm.MethodName) ({ cls := "TubHire", name := "bathedShare", desc := "()F" } : Jvm.MethodName)) ∈ xAll := xin6 (List.mem_of_getElem? (i := 36) (by decide +kernel)) (by decide +kernel)
theorem zw118 : (Jvm.Cond.code ({ cls := "TubHire", name := "feed", desc := "(C)I" } : Jvm.MethodName) prog_1_method_31_code (2 : Nat) (Option.some Jvm.ClassFile.FieldType.int)) ∈ xAll := xin6 (List.mem_of_getElem? (i := 46) (by decide +kernel)) (by decide +kernel)
theorem zw119 : (Jvm.Cond.methodLink "TubHireLaw" (110 : Nat) ({ cls := "TubHire", name := "feed", desc := "(C)I" } : Jvm.MethodName)) ∈ xAll := xin6 (List.mem_of_getElem? (i := 43) (by decide +kernel)) (by decide +kernel)
theorem zw120 : (Jvm.Cond.instanceMethod ({ cls := "TubHire", name := "feed", desc := "(C)I" } : Jvm.MethodName)) ∈ xAll := xin6 (List.mem_of_getElem? (i := 44) (by decide +kernel)) (by decide +kernel)
theorem zw121 : (Jvm.Cond.selects "TubHire" ({ cls := "TubHire", name := "feed", desc := "(C)I" } : Jvm.MethodName) ({ cls := "TubHire", name := "feed", desc := "(C)I" } : Jvm.MethodName)) ∈ xAll := xin6 (List.mem_of_getElem? (i := 45) (by decide +kernel)) (by decide +kernel)
theorem zw122 : (Jvm.Cond.classLink "TubHireLaw" (114 : Nat) "java/lang/IllegalStateException") ∈ xAll := xin6 (List.mem_of_getElem? (i := 42) (by decide +kernel)) (by decide +kernel)
theorem zw123 : (Jvm.Cond.code ({ cls := "TubHire", name := "read", desc := "()I" } : Jvm.MethodName) prog_1_method_32_code (3 : Nat) (Option.some Jvm.ClassFile.FieldType.int)) ∈ xAll := xin6 (List.mem_of_getElem? (i := 73) (by decide +kernel)) (by decide +kernel)
theorem zw124 : (Jvm.Cond.methodLink "TubHireLaw" (116 : Nat) ({ cls := "TubHire", name := "read", desc := "()I" } : Jvm.MethodName)) ∈ xAll := xin6 (List.mem_of_getElem? (i := 70) (by decide +kernel)) (by decide +kernel)
theorem zw125 : (Jvm.Cond.instanceMethod ({ cls := "TubHire", name := "read", desc := "()I" } : Jvm.MethodName)) ∈ xAll := xin6 (List.mem_of_getElem? (i := 71) (by decide +kernel)) (by decide +kernel)
theorem zw126 : (Jvm.Cond.selects "TubHire" ({ cls := "TubHire", name := "read", desc := "()I" } : Jvm.MethodName) ({ cls := "TubHire", name := "read", desc := "()I" } : Jvm.MethodName)) ∈ xAll := xin6 (List.mem_of_getElem? (i := 72) (by decide +kernel)) (by decide +kernel)
theorem zw127 : (Jvm.Cond.code ({ cls := "TubHire", name := "faultPosition", desc := "()I" } : Jvm.MethodName) prog_1_method_33_code (1 : Nat) (Option.some Jvm.ClassFile.FieldType.int)) ∈ xAll := xin6 (List.mem_of_getElem? (i := 152) (by decide +kernel)) (by decide +kernel)
theorem zw128 : (Jvm.Cond.methodLink "TubHireLaw" (119 : Nat) ({ cls := "TubHire", name := "faultPosition", desc := "()I" } : Jvm.MethodName)) ∈ xAll := xin6 (List.mem_of_getElem? (i := 149) (by decide +kernel)) (by decide +kernel)
theorem zw129 : (Jvm.Cond.instanceMethod ({ cls := "TubHire", name := "faultPosition", desc := "()I" } : Jvm.MethodName)) ∈ xAll := xin6 (List.mem_of_getElem? (i := 150) (by decide +kernel)) (by decide +kernel)
theorem zw130 : (Jvm.Cond.selects "TubHire" ({ cls := "TubHire", name := "faultPosition", desc := "()I" } : Jvm.MethodName) ({ cls := "TubHire", name := "faultPosition", desc := "()I" } : Jvm.MethodName)) ∈ xAll := xin6 (List.mem_of_getElem? (i := 151) (by decide +kernel)) (by decide +kernel)
theorem zw131 : (Jvm.Cond.code ({ cls := "TubHire", name := "refusal", desc := "(Z)I" } : Jvm.MethodName) prog_1_method_34_code (2 : Nat) (Option.some Jvm.ClassFile.FieldType.int)) ∈ xAll := xin6 (List.mem_of_getElem? (i := 160) (by decide +kernel)) (by decide +kernel)
theorem zw132 : (Jvm.Cond.methodLink "TubHireLaw" (122 : Nat) ({ cls := "TubHire", name := "refusal", desc := "(Z)I" } : Jvm.MethodName)) ∈ xAll := xin6 (List.mem_of_getElem? (i := 157) (by decide +kernel)) (by decide +kernel)
theorem zw133 : (Jvm.Cond.instanceMethod ({ cls := "TubHire", name := "refusal", desc := "(Z)I" } : Jvm.MethodName)) ∈ xAll := xin6 (List.mem_of_getElem? (i := 158) (by decide +kernel)) (by decide +kernel)
theorem zw134 : (Jvm.Cond.selects "TubHire" ({ cls := "TubHire", name := "refusal", desc := "(Z)I" } : Jvm.MethodName) ({ cls := "TubHire", name := "refusal", desc := "(Z)I" } : Jvm.MethodName)) ∈ xAll := xin6 (List.mem_of_getElem? (i := 159) (by decide +kernel)) (by decide +kernel)
theorem zw135 : (Jvm.Cond.code ({ cls := "TubHire", name := "undo", desc := "()I" } : Jvm.MethodName) prog_1_method_35_code (1 : Nat) (Option.some Jvm.ClassFile.FieldType.int)) ∈ xAll := xin6 (List.mem_of_getElem? (i := 168) (by decide +kernel)) (by decide +kernel)
theorem zw136 : (Jvm.Cond.methodLink "TubHireLaw" (126 : Nat) ({ cls := "TubHire", name := "undo", desc := "()I" } : Jvm.MethodName)) ∈ xAll := xin6 (List.mem_of_getElem? (i := 165) (by decide +kernel)) (by decide +kernel)
theorem zw137 : (Jvm.Cond.instanceMethod ({ cls := "TubHire", name := "undo", desc := "()I" } : Jvm.MethodName)) ∈ xAll := xin6 (List.mem_of_getElem? (i := 166) (by decide +kernel)) (by decide +kernel)
theorem zw138 : (Jvm.Cond.selects "TubHire" ({ cls := "TubHire", name := "undo", desc := "()I" } : Jvm.MethodName) ({ cls := "TubHire", name := "undo", desc := "()I" } : Jvm.MethodName)) ∈ xAll := xin6 (List.mem_of_getElem? (i := 167) (by decide +kernel)) (by decide +kernel)
theorem zw139 : (Jvm.Cond.code ({ cls := "TubHire", name := "restoreSnapshot", desc := "()I" } : Jvm.MethodName) prog_1_method_37_code (1 : Nat) (Option.some Jvm.ClassFile.FieldType.int)) ∈ xAll := xin6 (List.mem_of_getElem? (i := 181) (by decide +kernel)) (by decide +kernel)
theorem zw140 : (Jvm.Cond.methodLink "TubHireLaw" (129 : Nat) ({ cls := "TubHire", name := "restoreSnapshot", desc := "()I" } : Jvm.MethodName)) ∈ xAll := xin6 (List.mem_of_getElem? (i := 178) (by decide +kernel)) (by decide +kernel)
theorem zw141 : (Jvm.Cond.instanceMethod ({ cls := "TubHire", name := "restoreSnapshot", desc := "()I" } : Jvm.MethodName)) ∈ xAll := xin6 (List.mem_of_getElem? (i := 179) (by decide +kernel)) (by decide +kernel)
theorem zw142 : (Jvm.Cond.selects "TubHire" ({ cls := "TubHire", name := "restoreSnapshot", desc := "()I" } : Jvm.MethodName) ({ cls := "TubHire", name := "restoreSnapshot", desc := "()I" } : Jvm.MethodName)) ∈ xAll := xin6 (List.mem_of_getElem? (i := 180) (by decide +kernel)) (by decide +kernel)
/-- TubHireLaw.tub(LTubHire;I[J)I -/
def M_L_tub : xM := (yL_tub, cL_tub, 4, (some FieldType.int), Cond.codeWith yL_tub cL_tub 4 (some FieldType.int) [(0, 9, 12, 13), (0, 9, 15, 15)] :: xAll, { frames := 10, cells := 1, slots := 6, locals := 202 }, (1, 6), [(0, 9, 12, 13), (0, 9, 15, 15)])
theorem s_L_tub_7 : xSv M_L_tub M_X9_tub 7 1 := fun s args hts => ⟨callB_of 1 hts (xGood zw0) rfl rfl rfl (hts _ (List.mem_cons_of_mem _ (zw1))) (hts _ (List.mem_cons_of_mem _ (zw2))) (by decide +kernel) ⟨Nat.le_of_ble_eq_true rfl, Nat.le_of_ble_eq_true rfl⟩, (hts _ (List.mem_cons_of_mem _ (zw3))), (hts _ (List.mem_cons_of_mem _ (zw4)))⟩
set_option maxRecDepth 100000 in
set_option maxHeartbeats 4000000 in
theorem ct_L_tub {E : xE} {Po : xPo} {w : xW} {x a k : Nat} {p0 : Int32} {v : Int32} {h : xHi} {Qh : xHi → Prop} {f0 : Nat → Int64} (H : HI E w x h) (hA : w.1 a = some (.inl (E.1.2 8, 1, .inr (.inl f0)))) (hax : ¬ HF x h a) (haw : a < w.2) (hk : k ≤ 2) (c1 : ∀ Po : xPo, (∀ u h2, Qh h2 → (h2.2.2.2.2.1 = h.2.2.2.2.1 ∨ w.2 ≤ h2.2.2.2.2.1) → HI E u x h2 → Fr w u x h → Po (rs ["java/lang/IllegalArgumentException", "java/lang/UnsupportedOperationException"] k v) u) → Ct M_X9_tub E (.ref x :: [.int p0]) w Po) (hp : ∀ u h2, Qh h2 → (h2.2.2.2.2.1 = h.2.2.2.2.1 ∨ w.2 ≤ h2.2.2.2.2.1) → HI E u x h2 → Fr w u x h → if k = 0 then Po (.inl (some (.int 0))) (xset u a (.inl (E.1.2 8, 1, .inr (.inl (vp_updL f0 (0 : Int32).toNatClampNeg v.toInt64))))) else Po (.inl (some (.int (nI k)))) u) : Ct M_L_tub E [.ref x, .int p0, .ref a] w Po := by
  refine Ct.ofH (ws2 := xAll) (L := [some (.ref x), some (.int p0), some (.ref a), none]) (by decide +kernel) rfl (List.forall_mem_cons.mpr ⟨rfl, (List.forall_mem_cons.mpr ⟨rfl, (List.forall_mem_cons.mpr ⟨rfl, fun _ h => absurd h List.not_mem_nil⟩)⟩)⟩) (Nat.le_of_ble_eq_true rfl) rfl ?_
  refine r_aload_n (q := 1) dL_tub_0 rfl rfl rfl ?_
  refine r_iconst (q := 2) (v := 0) dL_tub_1 rfl rfl ?_
  refine r_aload_n (q := 3) dL_tub_2 rfl rfl rfl ?_
  refine r_iload_n (q := 4) dL_tub_3 rfl rfl rfl ?_
  refine r_callVH (q := 7) (ci := 11) (As := [_]) dL_tub_4 s_L_tub_7 H.1.1 rfl rfl (Nat.le_of_ble_eq_true rfl) rfl rfl rfl ⟨(Nat.le_of_ble_eq_true rfl), (Nat.le_of_ble_eq_true rfl)⟩ rfl ?_
  refine c1 _ (fun u h2 q1 q2 q3 q4 => ?_)
  have hp9 := hp u h2 q1 q2 q3 q4
  have hu : u.1 a = some (.inl (E.1.2 8, 1, .inr (.inl f0))) := (q4.2 a hax haw).trans hA
  by_cases k0 : k = 0
  · subst k0
    rw [if_pos rfl] at hp9
    show WF _ E Po _ _ _ [.int v, .int 0, .ref a] u _ _
    refine r_i2l (q := 8) dL_tub_7 rfl ?_
    refine r_lastore (q := 9) dL_tub_8 hu (show vp_in 0 1 from vp_in_nI (n := 0) (by decide) (by decide)) rfl ?_
    refine r_goto (q := 18) dL_tub_9 (by decide) ?_
    refine r_iconst (q := 19) (v := 0) dL_tub_18 rfl rfl ?_
    refine r_iret dL_tub_19 rfl (Nat.le_of_ble_eq_true rfl) (Nat.le_of_ble_eq_true rfl) ?_
    exact hp9
  by_cases k1 : k = 1
  · subst k1
    rw [if_neg (by decide)] at hp9
    show ∃ h9, xGet _ _ "java/lang/IllegalArgumentException" h9 ∧ ∀ q9 : Nat, WF _ E Po _ h9 _ [.ref q9] u _ _
    refine ⟨12, ⟨[], (0, 9, 12, 13), [(0, 9, 15, 15)], rfl, fun _ h => absurd h List.not_mem_nil, ⟨by decide, by decide⟩, by decide, List.mem_cons_of_mem _ (zw5), by decide, rfl⟩, fun q9 => ?_⟩
    refine r_astore_n (q := 13) dL_tub_12 rfl (Nat.le_of_ble_eq_true rfl) (xone_of rfl) rfl ?_
    refine r_iconst (q := 14) (v := 1) dL_tub_13 rfl rfl ?_
    refine r_iret dL_tub_14 rfl (Nat.le_of_ble_eq_true rfl) (Nat.le_of_ble_eq_true rfl) ?_
    exact hp9
  by_cases k2 : k = 2
  · subst k2
    rw [if_neg (by decide)] at hp9
    show ∃ h9, xGet _ _ "java/lang/UnsupportedOperationException" h9 ∧ ∀ q9 : Nat, WF _ E Po _ h9 _ [.ref q9] u _ _
    refine ⟨15, ⟨[(0, 9, 12, 13)], (0, 9, 15, 15), [], rfl, List.forall_mem_cons.mpr ⟨⟨by decide, _, List.mem_cons_of_mem _ (zw5), by decide⟩, fun _ h => absurd h List.not_mem_nil⟩, ⟨by decide, by decide⟩, by decide, List.mem_cons_of_mem _ (zw6), by decide, rfl⟩, fun q9 => ?_⟩
    refine r_astore_n (q := 16) dL_tub_15 rfl (Nat.le_of_ble_eq_true rfl) (xone_of rfl) rfl ?_
    refine r_iconst (q := 17) (v := 2) dL_tub_16 rfl rfl ?_
    refine r_iret dL_tub_17 rfl (Nat.le_of_ble_eq_true rfl) (Nat.le_of_ble_eq_true rfl) ?_
    exact hp9
  omega
/-- TubHireLaw.tubOf(LTubHire;II[J)I -/
def M_L_tubOf : xM := (yL_tubOf, cL_tubOf, 5, (some FieldType.int), Cond.codeWith yL_tubOf cL_tubOf 5 (some FieldType.int) [(0, 10, 13, 21), (0, 10, 17, 13)] :: xAll, { frames := 9, cells := 1, slots := 6, locals := 183 }, (1, 6), [(0, 10, 13, 21), (0, 10, 17, 13)])
theorem s_L_tubOf_17 : xSv M_L_tubOf M_X9_tubOf 17 2 := fun s args hts => ⟨callB_of 2 hts (xGood zw7) rfl rfl rfl (hts _ (List.mem_cons_of_mem _ (zw1))) (hts _ (List.mem_cons_of_mem _ (zw8))) (by decide +kernel) ⟨Nat.le_of_ble_eq_true rfl, Nat.le_of_ble_eq_true rfl⟩, (hts _ (List.mem_cons_of_mem _ (zw9))), (hts _ (List.mem_cons_of_mem _ (zw10)))⟩
set_option maxRecDepth 100000 in
set_option maxHeartbeats 4000000 in
theorem ct_L_tubOf {E : xE} {Po : xPo} {w : xW} {x a k : Nat} {p0 p1 : Int32} {v : Int32} {h : xHi} {Qh : xHi → Prop} {f0 : Nat → Int64} (H : HI E w x h) (hA : w.1 a = some (.inl (E.1.2 8, 1, .inr (.inl f0)))) (hax : ¬ HF x h a) (haw : a < w.2) (hk : k ≤ 2) (c1 : ∀ Po : xPo, (∀ u h2, Qh h2 → (h2.2.2.2.2.1 = h.2.2.2.2.1 ∨ w.2 ≤ h2.2.2.2.2.1) → HI E u x h2 → Fr w u x h → Po (rs ["java/lang/IndexOutOfBoundsException", "java/lang/IllegalArgumentException"] k v) u) → Ct M_X9_tubOf E (.ref x :: [.int p0, .int p1]) w Po) (hp : ∀ u h2, Qh h2 → (h2.2.2.2.2.1 = h.2.2.2.2.1 ∨ w.2 ≤ h2.2.2.2.2.1) → HI E u x h2 → Fr w u x h → if k = 0 then Po (.inl (some (.int 0))) (xset u a (.inl (E.1.2 8, 1, .inr (.inl (vp_updL f0 (0 : Int32).toNatClampNeg v.toInt64))))) else Po (.inl (some (.int (nI k)))) u) : Ct M_L_tubOf E [.ref x, .int p0, .int p1, .ref a] w Po := by
  refine Ct.ofH (ws2 := xAll) (L := [some (.ref x), some (.int p0), some (.int p1), some (.ref a), none]) (by decide +kernel) rfl (List.forall_mem_cons.mpr ⟨rfl, (List.forall_mem_cons.mpr ⟨rfl, (List.forall_mem_cons.mpr ⟨rfl, (List.forall_mem_cons.mpr ⟨rfl, fun _ h => absurd h List.not_mem_nil⟩)⟩)⟩)⟩) (Nat.le_of_ble_eq_true rfl) rfl ?_
  refine r_aload_n (q := 1) dL_tubOf_0 rfl rfl rfl ?_
  refine r_iconst (q := 2) (v := 0) dL_tubOf_1 rfl rfl ?_
  refine r_aload_n (q := 3) dL_tubOf_2 rfl rfl rfl ?_
  refine r_iload_n (q := 4) dL_tubOf_3 rfl rfl rfl ?_
  refine r_iload_n (q := 5) dL_tubOf_4 rfl rfl rfl ?_
  refine r_callVH (q := 8) (ci := 11) (As := [_, _]) dL_tubOf_5 s_L_tubOf_17 H.1.1 rfl rfl (Nat.le_of_ble_eq_true rfl) rfl rfl rfl ⟨(Nat.le_of_ble_eq_true rfl), (Nat.le_of_ble_eq_true rfl)⟩ rfl ?_
  refine c1 _ (fun u h2 q1 q2 q3 q4 => ?_)
  have hp9 := hp u h2 q1 q2 q3 q4
  have hu : u.1 a = some (.inl (E.1.2 8, 1, .inr (.inl f0))) := (q4.2 a hax haw).trans hA
  by_cases k0 : k = 0
  · subst k0
    rw [if_pos rfl] at hp9
    show WF _ E Po _ _ _ [.int v, .int 0, .ref a] u _ _
    refine r_i2l (q := 9) dL_tubOf_8 rfl ?_
    refine r_lastore (q := 10) dL_tubOf_9 hu (show vp_in 0 1 from vp_in_nI (n := 0) (by decide) (by decide)) rfl ?_
    refine r_goto (q := 21) dL_tubOf_10 (by decide) ?_
    refine r_iconst (q := 22) (v := 0) dL_tubOf_21 rfl rfl ?_
    refine r_iret dL_tubOf_22 rfl (Nat.le_of_ble_eq_true rfl) (Nat.le_of_ble_eq_true rfl) ?_
    exact hp9
  by_cases k1 : k = 1
  · subst k1
    rw [if_neg (by decide)] at hp9
    show ∃ h9, xGet _ _ "java/lang/IndexOutOfBoundsException" h9 ∧ ∀ q9 : Nat, WF _ E Po _ h9 _ [.ref q9] u _ _
    refine ⟨13, ⟨[], (0, 10, 13, 21), [(0, 10, 17, 13)], rfl, fun _ h => absurd h List.not_mem_nil, ⟨by decide, by decide⟩, by decide, List.mem_cons_of_mem _ (zw11), by decide, rfl⟩, fun q9 => ?_⟩
    refine r_astore (q := 15) dL_tubOf_13 (Nat.le_of_ble_eq_true rfl) (xone_of rfl) rfl ?_
    refine r_iconst (q := 16) (v := 1) dL_tubOf_15 rfl rfl ?_
    refine r_iret dL_tubOf_16 rfl (Nat.le_of_ble_eq_true rfl) (Nat.le_of_ble_eq_true rfl) ?_
    exact hp9
  by_cases k2 : k = 2
  · subst k2
    rw [if_neg (by decide)] at hp9
    show ∃ h9, xGet _ _ "java/lang/IllegalArgumentException" h9 ∧ ∀ q9 : Nat, WF _ E Po _ h9 _ [.ref q9] u _ _
    refine ⟨17, ⟨[(0, 10, 13, 21)], (0, 10, 17, 13), [], rfl, List.forall_mem_cons.mpr ⟨⟨by decide, _, List.mem_cons_of_mem _ (zw11), by decide⟩, fun _ h => absurd h List.not_mem_nil⟩, ⟨by decide, by decide⟩, by decide, List.mem_cons_of_mem _ (zw5), by decide, rfl⟩, fun q9 => ?_⟩
    refine r_astore (q := 19) dL_tubOf_17 (Nat.le_of_ble_eq_true rfl) (xone_of rfl) rfl ?_
    refine r_iconst (q := 20) (v := 2) dL_tubOf_19 rfl rfl ?_
    refine r_iret dL_tubOf_20 rfl (Nat.le_of_ble_eq_true rfl) (Nat.le_of_ble_eq_true rfl) ?_
    exact hp9
  omega
/-- TubHireLaw.torn(LTubHire;II[J)I -/
def M_L_torn : xM := (yL_torn, cL_torn, 5, (some FieldType.int), Cond.codeWith yL_torn cL_torn 5 (some FieldType.int) [(0, 10, 13, 21), (0, 10, 17, 26)] :: xAll, { frames := 9, cells := 1, slots := 6, locals := 184 }, (1, 6), [(0, 10, 13, 21), (0, 10, 17, 26)])
theorem s_L_torn_23 : xSv M_L_torn M_X9_torn 23 2 := fun s args hts => ⟨callB_of 2 hts (xGood zw12) rfl rfl rfl (hts _ (List.mem_cons_of_mem _ (zw1))) (hts _ (List.mem_cons_of_mem _ (zw13))) (by decide +kernel) ⟨Nat.le_of_ble_eq_true rfl, Nat.le_of_ble_eq_true rfl⟩, (hts _ (List.mem_cons_of_mem _ (zw14))), (hts _ (List.mem_cons_of_mem _ (zw15)))⟩
set_option maxRecDepth 100000 in
set_option maxHeartbeats 4000000 in
theorem ct_L_torn {E : xE} {Po : xPo} {w : xW} {x a k : Nat} {p0 p1 : Int32} {v : Int32} {h : xHi} {Qh : xHi → Prop} {f0 : Nat → Int64} (H : HI E w x h) (hA : w.1 a = some (.inl (E.1.2 8, 1, .inr (.inl f0)))) (hax : ¬ HF x h a) (haw : a < w.2) (hk : k ≤ 2) (c1 : ∀ Po : xPo, (∀ u h2, Qh h2 → (h2.2.2.2.2.1 = h.2.2.2.2.1 ∨ w.2 ≤ h2.2.2.2.2.1) → HI E u x h2 → Fr w u x h → Po (rs ["java/lang/IndexOutOfBoundsException", "java/util/NoSuchElementException"] k v) u) → Ct M_X9_torn E (.ref x :: [.int p0, .int p1]) w Po) (hp : ∀ u h2, Qh h2 → (h2.2.2.2.2.1 = h.2.2.2.2.1 ∨ w.2 ≤ h2.2.2.2.2.1) → HI E u x h2 → Fr w u x h → if k = 0 then Po (.inl (some (.int 0))) (xset u a (.inl (E.1.2 8, 1, .inr (.inl (vp_updL f0 (0 : Int32).toNatClampNeg v.toInt64))))) else Po (.inl (some (.int (nI k)))) u) : Ct M_L_torn E [.ref x, .int p0, .int p1, .ref a] w Po := by
  refine Ct.ofH (ws2 := xAll) (L := [some (.ref x), some (.int p0), some (.int p1), some (.ref a), none]) (by decide +kernel) rfl (List.forall_mem_cons.mpr ⟨rfl, (List.forall_mem_cons.mpr ⟨rfl, (List.forall_mem_cons.mpr ⟨rfl, (List.forall_mem_cons.mpr ⟨rfl, fun _ h => absurd h List.not_mem_nil⟩)⟩)⟩)⟩) (Nat.le_of_ble_eq_true rfl) rfl ?_
  refine r_aload_n (q := 1) dL_torn_0 rfl rfl rfl ?_
  refine r_iconst (q := 2) (v := 0) dL_torn_1 rfl rfl ?_
  refine r_aload_n (q := 3) dL_torn_2 rfl rfl rfl ?_
  refine r_iload_n (q := 4) dL_torn_3 rfl rfl rfl ?_
  refine r_iload_n (q := 5) dL_torn_4 rfl rfl rfl ?_
  refine r_callVH (q := 8) (ci := 11) (As := [_, _]) dL_torn_5 s_L_torn_23 H.1.1 rfl rfl (Nat.le_of_ble_eq_true rfl) rfl rfl rfl ⟨(Nat.le_of_ble_eq_true rfl), (Nat.le_of_ble_eq_true rfl)⟩ rfl ?_
  refine c1 _ (fun u h2 q1 q2 q3 q4 => ?_)
  have hp9 := hp u h2 q1 q2 q3 q4
  have hu : u.1 a = some (.inl (E.1.2 8, 1, .inr (.inl f0))) := (q4.2 a hax haw).trans hA
  by_cases k0 : k = 0
  · subst k0
    rw [if_pos rfl] at hp9
    show WF _ E Po _ _ _ [.int v, .int 0, .ref a] u _ _
    refine r_i2l (q := 9) dL_torn_8 rfl ?_
    refine r_lastore (q := 10) dL_torn_9 hu (show vp_in 0 1 from vp_in_nI (n := 0) (by decide) (by decide)) rfl ?_
    refine r_goto (q := 21) dL_torn_10 (by decide) ?_
    refine r_iconst (q := 22) (v := 0) dL_torn_21 rfl rfl ?_
    refine r_iret dL_torn_22 rfl (Nat.le_of_ble_eq_true rfl) (Nat.le_of_ble_eq_true rfl) ?_
    exact hp9
  by_cases k1 : k = 1
  · subst k1
    rw [if_neg (by decide)] at hp9
    show ∃ h9, xGet _ _ "java/lang/IndexOutOfBoundsException" h9 ∧ ∀ q9 : Nat, WF _ E Po _ h9 _ [.ref q9] u _ _
    refine ⟨13, ⟨[], (0, 10, 13, 21), [(0, 10, 17, 26)], rfl, fun _ h => absurd h List.not_mem_nil, ⟨by decide, by decide⟩, by decide, List.mem_cons_of_mem _ (zw11), by decide, rfl⟩, fun q9 => ?_⟩
    refine r_astore (q := 15) dL_torn_13 (Nat.le_of_ble_eq_true rfl) (xone_of rfl) rfl ?_
    refine r_iconst (q := 16) (v := 1) dL_torn_15 rfl rfl ?_
    refine r_iret dL_torn_16 rfl (Nat.le_of_ble_eq_true rfl) (Nat.le_of_ble_eq_true rfl) ?_
    exact hp9
  by_cases k2 : k = 2
  · subst k2
    rw [if_neg (by decide)] at hp9
    show ∃ h9, xGet _ _ "java/util/NoSuchElementException" h9 ∧ ∀ q9 : Nat, WF _ E Po _ h9 _ [.ref q9] u _ _
    refine ⟨17, ⟨[(0, 10, 13, 21)], (0, 10, 17, 26), [], rfl, List.forall_mem_cons.mpr ⟨⟨by decide, _, List.mem_cons_of_mem _ (zw11), by decide⟩, fun _ h => absurd h List.not_mem_nil⟩, ⟨by decide, by decide⟩, by decide, List.mem_cons_of_mem _ (zw16), by decide, rfl⟩, fun q9 => ?_⟩
    refine r_astore (q := 19) dL_torn_17 (Nat.le_of_ble_eq_true rfl) (xone_of rfl) rfl ?_
    refine r_iconst (q := 20) (v := 2) dL_torn_19 rfl rfl ?_
    refine r_iret dL_torn_20 rfl (Nat.le_of_ble_eq_true rfl) (Nat.le_of_ble_eq_true rfl) ?_
    exact hp9
  omega
/-- TubHireLaw.tear(LTubHire;II[J)I -/
def M_L_tear : xM := (yL_tear, cL_tear, 5, (some FieldType.int), Cond.codeWith yL_tear cL_tear 5 (some FieldType.int) [(0, 10, 13, 21)] :: xAll, { frames := 10, cells := 1, slots := 6, locals := 203 }, (1, 6), [(0, 10, 13, 21)])
theorem s_L_tear_28 : xSv M_L_tear M_X9_tear 28 2 := fun s args hts => ⟨callB_of 2 hts (xGood zw17) rfl rfl rfl (hts _ (List.mem_cons_of_mem _ (zw1))) (hts _ (List.mem_cons_of_mem _ (zw18))) (by decide +kernel) ⟨Nat.le_of_ble_eq_true rfl, Nat.le_of_ble_eq_true rfl⟩, (hts _ (List.mem_cons_of_mem _ (zw19))), (hts _ (List.mem_cons_of_mem _ (zw20)))⟩
set_option maxRecDepth 100000 in
set_option maxHeartbeats 4000000 in
theorem ct_L_tear {E : xE} {Po : xPo} {w : xW} {x a k : Nat} {p0 p1 : Int32} {v : Int32} {h : xHi} {Qh : xHi → Prop} {f0 : Nat → Int64} (H : HI E w x h) (hA : w.1 a = some (.inl (E.1.2 8, 1, .inr (.inl f0)))) (hax : ¬ HF x h a) (haw : a < w.2) (hk : k ≤ 1) (c1 : ∀ Po : xPo, (∀ u h2, Qh h2 → (h2.2.2.2.2.1 = h.2.2.2.2.1 ∨ w.2 ≤ h2.2.2.2.2.1) → HI E u x h2 → Fr w u x h → Po (rs ["java/lang/IndexOutOfBoundsException"] k v) u) → Ct M_X9_tear E (.ref x :: [.int p0, .int p1]) w Po) (hp : ∀ u h2, Qh h2 → (h2.2.2.2.2.1 = h.2.2.2.2.1 ∨ w.2 ≤ h2.2.2.2.2.1) → HI E u x h2 → Fr w u x h → if k = 0 then Po (.inl (some (.int 0))) (xset u a (.inl (E.1.2 8, 1, .inr (.inl (vp_updL f0 (0 : Int32).toNatClampNeg v.toInt64))))) else Po (.inl (some (.int (nI k)))) u) : Ct M_L_tear E [.ref x, .int p0, .int p1, .ref a] w Po := by
  refine Ct.ofH (ws2 := xAll) (L := [some (.ref x), some (.int p0), some (.int p1), some (.ref a), none]) (by decide +kernel) rfl (List.forall_mem_cons.mpr ⟨rfl, (List.forall_mem_cons.mpr ⟨rfl, (List.forall_mem_cons.mpr ⟨rfl, (List.forall_mem_cons.mpr ⟨rfl, fun _ h => absurd h List.not_mem_nil⟩)⟩)⟩)⟩) (Nat.le_of_ble_eq_true rfl) rfl ?_
  refine r_aload_n (q := 1) dL_tear_0 rfl rfl rfl ?_
  refine r_iconst (q := 2) (v := 0) dL_tear_1 rfl rfl ?_
  refine r_aload_n (q := 3) dL_tear_2 rfl rfl rfl ?_
  refine r_iload_n (q := 4) dL_tear_3 rfl rfl rfl ?_
  refine r_iload_n (q := 5) dL_tear_4 rfl rfl rfl ?_
  refine r_callVH (q := 8) (ci := 11) (As := [_, _]) dL_tear_5 s_L_tear_28 H.1.1 rfl rfl (Nat.le_of_ble_eq_true rfl) rfl rfl rfl ⟨(Nat.le_of_ble_eq_true rfl), (Nat.le_of_ble_eq_true rfl)⟩ rfl ?_
  refine c1 _ (fun u h2 q1 q2 q3 q4 => ?_)
  have hp9 := hp u h2 q1 q2 q3 q4
  have hu : u.1 a = some (.inl (E.1.2 8, 1, .inr (.inl f0))) := (q4.2 a hax haw).trans hA
  by_cases k0 : k = 0
  · subst k0
    rw [if_pos rfl] at hp9
    show WF _ E Po _ _ _ [.int v, .int 0, .ref a] u _ _
    refine r_i2l (q := 9) dL_tear_8 rfl ?_
    refine r_lastore (q := 10) dL_tear_9 hu (show vp_in 0 1 from vp_in_nI (n := 0) (by decide) (by decide)) rfl ?_
    refine r_goto (q := 17) dL_tear_10 (by decide) ?_
    refine r_iconst (q := 18) (v := 0) dL_tear_17 rfl rfl ?_
    refine r_iret dL_tear_18 rfl (Nat.le_of_ble_eq_true rfl) (Nat.le_of_ble_eq_true rfl) ?_
    exact hp9
  by_cases k1 : k = 1
  · subst k1
    rw [if_neg (by decide)] at hp9
    show ∃ h9, xGet _ _ "java/lang/IndexOutOfBoundsException" h9 ∧ ∀ q9 : Nat, WF _ E Po _ h9 _ [.ref q9] u _ _
    refine ⟨13, ⟨[], (0, 10, 13, 21), [], rfl, fun _ h => absurd h List.not_mem_nil, ⟨by decide, by decide⟩, by decide, List.mem_cons_of_mem _ (zw11), by decide, rfl⟩, fun q9 => ?_⟩
    refine r_astore (q := 15) dL_tear_13 (Nat.le_of_ble_eq_true rfl) (xone_of rfl) rfl ?_
    refine r_iconst (q := 16) (v := 1) dL_tear_15 rfl rfl ?_
    refine r_iret dL_tear_16 rfl (Nat.le_of_ble_eq_true rfl) (Nat.le_of_ble_eq_true rfl) ?_
    exact hp9
  omega
/-- TubHireLaw.mend(LTubHire;II[J)I -/
def M_L_mend : xM := (yL_mend, cL_mend, 5, (some FieldType.int), Cond.codeWith yL_mend cL_mend 5 (some FieldType.int) [(0, 10, 13, 21), (0, 10, 17, 15)] :: xAll, { frames := 10, cells := 1, slots := 6, locals := 203 }, (1, 6), [(0, 10, 13, 21), (0, 10, 17, 15)])
theorem s_L_mend_31 : xSv M_L_mend M_X9_mend 31 2 := fun s args hts => ⟨callB_of 2 hts (xGood zw21) rfl rfl rfl (hts _ (List.mem_cons_of_mem _ (zw1))) (hts _ (List.mem_cons_of_mem _ (zw22))) (by decide +kernel) ⟨Nat.le_of_ble_eq_true rfl, Nat.le_of_ble_eq_true rfl⟩, (hts _ (List.mem_cons_of_mem _ (zw23))), (hts _ (List.mem_cons_of_mem _ (zw24)))⟩
set_option maxRecDepth 100000 in
set_option maxHeartbeats 4000000 in
theorem ct_L_mend {E : xE} {Po : xPo} {w : xW} {x a k : Nat} {p0 p1 : Int32} {v : Int32} {h : xHi} {Qh : xHi → Prop} {f0 : Nat → Int64} (H : HI E w x h) (hA : w.1 a = some (.inl (E.1.2 8, 1, .inr (.inl f0)))) (hax : ¬ HF x h a) (haw : a < w.2) (hk : k ≤ 2) (c1 : ∀ Po : xPo, (∀ u h2, Qh h2 → (h2.2.2.2.2.1 = h.2.2.2.2.1 ∨ w.2 ≤ h2.2.2.2.2.1) → HI E u x h2 → Fr w u x h → Po (rs ["java/lang/IndexOutOfBoundsException", "java/lang/UnsupportedOperationException"] k v) u) → Ct M_X9_mend E (.ref x :: [.int p0, .int p1]) w Po) (hp : ∀ u h2, Qh h2 → (h2.2.2.2.2.1 = h.2.2.2.2.1 ∨ w.2 ≤ h2.2.2.2.2.1) → HI E u x h2 → Fr w u x h → if k = 0 then Po (.inl (some (.int 0))) (xset u a (.inl (E.1.2 8, 1, .inr (.inl (vp_updL f0 (0 : Int32).toNatClampNeg v.toInt64))))) else Po (.inl (some (.int (nI k)))) u) : Ct M_L_mend E [.ref x, .int p0, .int p1, .ref a] w Po := by
  refine Ct.ofH (ws2 := xAll) (L := [some (.ref x), some (.int p0), some (.int p1), some (.ref a), none]) (by decide +kernel) rfl (List.forall_mem_cons.mpr ⟨rfl, (List.forall_mem_cons.mpr ⟨rfl, (List.forall_mem_cons.mpr ⟨rfl, (List.forall_mem_cons.mpr ⟨rfl, fun _ h => absurd h List.not_mem_nil⟩)⟩)⟩)⟩) (Nat.le_of_ble_eq_true rfl) rfl ?_
  refine r_aload_n (q := 1) dL_mend_0 rfl rfl rfl ?_
  refine r_iconst (q := 2) (v := 0) dL_mend_1 rfl rfl ?_
  refine r_aload_n (q := 3) dL_mend_2 rfl rfl rfl ?_
  refine r_iload_n (q := 4) dL_mend_3 rfl rfl rfl ?_
  refine r_iload_n (q := 5) dL_mend_4 rfl rfl rfl ?_
  refine r_callVH (q := 8) (ci := 11) (As := [_, _]) dL_mend_5 s_L_mend_31 H.1.1 rfl rfl (Nat.le_of_ble_eq_true rfl) rfl rfl rfl ⟨(Nat.le_of_ble_eq_true rfl), (Nat.le_of_ble_eq_true rfl)⟩ rfl ?_
  refine c1 _ (fun u h2 q1 q2 q3 q4 => ?_)
  have hp9 := hp u h2 q1 q2 q3 q4
  have hu : u.1 a = some (.inl (E.1.2 8, 1, .inr (.inl f0))) := (q4.2 a hax haw).trans hA
  by_cases k0 : k = 0
  · subst k0
    rw [if_pos rfl] at hp9
    show WF _ E Po _ _ _ [.int v, .int 0, .ref a] u _ _
    refine r_i2l (q := 9) dL_mend_8 rfl ?_
    refine r_lastore (q := 10) dL_mend_9 hu (show vp_in 0 1 from vp_in_nI (n := 0) (by decide) (by decide)) rfl ?_
    refine r_goto (q := 21) dL_mend_10 (by decide) ?_
    refine r_iconst (q := 22) (v := 0) dL_mend_21 rfl rfl ?_
    refine r_iret dL_mend_22 rfl (Nat.le_of_ble_eq_true rfl) (Nat.le_of_ble_eq_true rfl) ?_
    exact hp9
  by_cases k1 : k = 1
  · subst k1
    rw [if_neg (by decide)] at hp9
    show ∃ h9, xGet _ _ "java/lang/IndexOutOfBoundsException" h9 ∧ ∀ q9 : Nat, WF _ E Po _ h9 _ [.ref q9] u _ _
    refine ⟨13, ⟨[], (0, 10, 13, 21), [(0, 10, 17, 15)], rfl, fun _ h => absurd h List.not_mem_nil, ⟨by decide, by decide⟩, by decide, List.mem_cons_of_mem _ (zw11), by decide, rfl⟩, fun q9 => ?_⟩
    refine r_astore (q := 15) dL_mend_13 (Nat.le_of_ble_eq_true rfl) (xone_of rfl) rfl ?_
    refine r_iconst (q := 16) (v := 1) dL_mend_15 rfl rfl ?_
    refine r_iret dL_mend_16 rfl (Nat.le_of_ble_eq_true rfl) (Nat.le_of_ble_eq_true rfl) ?_
    exact hp9
  by_cases k2 : k = 2
  · subst k2
    rw [if_neg (by decide)] at hp9
    show ∃ h9, xGet _ _ "java/lang/UnsupportedOperationException" h9 ∧ ∀ q9 : Nat, WF _ E Po _ h9 _ [.ref q9] u _ _
    refine ⟨17, ⟨[(0, 10, 13, 21)], (0, 10, 17, 15), [], rfl, List.forall_mem_cons.mpr ⟨⟨by decide, _, List.mem_cons_of_mem _ (zw11), by decide⟩, fun _ h => absurd h List.not_mem_nil⟩, ⟨by decide, by decide⟩, by decide, List.mem_cons_of_mem _ (zw6), by decide, rfl⟩, fun q9 => ?_⟩
    refine r_astore (q := 19) dL_mend_17 (Nat.le_of_ble_eq_true rfl) (xone_of rfl) rfl ?_
    refine r_iconst (q := 20) (v := 2) dL_mend_19 rfl rfl ?_
    refine r_iret dL_mend_20 rfl (Nat.le_of_ble_eq_true rfl) (Nat.le_of_ble_eq_true rfl) ?_
    exact hp9
  omega
/-- TubHireLaw.bestTub(LTubHire;[J)I -/
def M_L_bestTub : xM := (yL_bestTub, cL_bestTub, 3, (some FieldType.int), Cond.codeWith yL_bestTub cL_bestTub 3 (some FieldType.int) [(0, 8, 11, 26)] :: xAll, { frames := 9, cells := 1, slots := 6, locals := 181 }, (1, 6), [(0, 8, 11, 26)])
theorem s_L_bestTub_34 : xSv M_L_bestTub M_X9_bestTub 34 0 := fun s args hts => ⟨callB_of 0 hts (xGood zw25) rfl rfl rfl (hts _ (List.mem_cons_of_mem _ (zw1))) (hts _ (List.mem_cons_of_mem _ (zw26))) (by decide +kernel) ⟨Nat.le_of_ble_eq_true rfl, Nat.le_of_ble_eq_true rfl⟩, (hts _ (List.mem_cons_of_mem _ (zw27))), (hts _ (List.mem_cons_of_mem _ (zw28)))⟩
set_option maxRecDepth 100000 in
set_option maxHeartbeats 4000000 in
theorem ct_L_bestTub {E : xE} {Po : xPo} {w : xW} {x a k : Nat} {v : Int32} {h : xHi} {Qh : xHi → Prop} {f0 : Nat → Int64} (H : HI E w x h) (hA : w.1 a = some (.inl (E.1.2 8, 1, .inr (.inl f0)))) (hax : ¬ HF x h a) (haw : a < w.2) (hk : k ≤ 1) (c1 : ∀ Po : xPo, (∀ u h2, Qh h2 → (h2.2.2.2.2.1 = h.2.2.2.2.1 ∨ w.2 ≤ h2.2.2.2.2.1) → HI E u x h2 → Fr w u x h → Po (rs ["java/util/NoSuchElementException"] k v) u) → Ct M_X9_bestTub E (.ref x :: []) w Po) (hp : ∀ u h2, Qh h2 → (h2.2.2.2.2.1 = h.2.2.2.2.1 ∨ w.2 ≤ h2.2.2.2.2.1) → HI E u x h2 → Fr w u x h → if k = 0 then Po (.inl (some (.int 0))) (xset u a (.inl (E.1.2 8, 1, .inr (.inl (vp_updL f0 (0 : Int32).toNatClampNeg v.toInt64))))) else Po (.inl (some (.int (nI k)))) u) : Ct M_L_bestTub E [.ref x, .ref a] w Po := by
  refine Ct.ofH (ws2 := xAll) (L := [some (.ref x), some (.ref a), none]) (by decide +kernel) rfl (List.forall_mem_cons.mpr ⟨rfl, (List.forall_mem_cons.mpr ⟨rfl, fun _ h => absurd h List.not_mem_nil⟩)⟩) (Nat.le_of_ble_eq_true rfl) rfl ?_
  refine r_aload_n (q := 1) dL_bestTub_0 rfl rfl rfl ?_
  refine r_iconst (q := 2) (v := 0) dL_bestTub_1 rfl rfl ?_
  refine r_aload_n (q := 3) dL_bestTub_2 rfl rfl rfl ?_
  refine r_callVH (q := 6) (ci := 11) (As := []) dL_bestTub_3 s_L_bestTub_34 H.1.1 rfl rfl (Nat.le_of_ble_eq_true rfl) rfl rfl rfl ⟨(Nat.le_of_ble_eq_true rfl), (Nat.le_of_ble_eq_true rfl)⟩ rfl ?_
  refine c1 _ (fun u h2 q1 q2 q3 q4 => ?_)
  have hp9 := hp u h2 q1 q2 q3 q4
  have hu : u.1 a = some (.inl (E.1.2 8, 1, .inr (.inl f0))) := (q4.2 a hax haw).trans hA
  by_cases k0 : k = 0
  · subst k0
    rw [if_pos rfl] at hp9
    show WF _ E Po _ _ _ [.int v, .int 0, .ref a] u _ _
    refine r_i2l (q := 7) dL_bestTub_6 rfl ?_
    refine r_lastore (q := 8) dL_bestTub_7 hu (show vp_in 0 1 from vp_in_nI (n := 0) (by decide) (by decide)) rfl ?_
    refine r_goto (q := 14) dL_bestTub_8 (by decide) ?_
    refine r_iconst (q := 15) (v := 0) dL_bestTub_14 rfl rfl ?_
    refine r_iret dL_bestTub_15 rfl (Nat.le_of_ble_eq_true rfl) (Nat.le_of_ble_eq_true rfl) ?_
    exact hp9
  by_cases k1 : k = 1
  · subst k1
    rw [if_neg (by decide)] at hp9
    show ∃ h9, xGet _ _ "java/util/NoSuchElementException" h9 ∧ ∀ q9 : Nat, WF _ E Po _ h9 _ [.ref q9] u _ _
    refine ⟨11, ⟨[], (0, 8, 11, 26), [], rfl, fun _ h => absurd h List.not_mem_nil, ⟨by decide, by decide⟩, by decide, List.mem_cons_of_mem _ (zw16), by decide, rfl⟩, fun q9 => ?_⟩
    refine r_astore_n (q := 12) dL_bestTub_11 rfl (Nat.le_of_ble_eq_true rfl) (xone_of rfl) rfl ?_
    refine r_iconst (q := 13) (v := 1) dL_bestTub_12 rfl rfl ?_
    refine r_iret dL_bestTub_13 rfl (Nat.le_of_ble_eq_true rfl) (Nat.le_of_ble_eq_true rfl) ?_
    exact hp9
  omega
/-- TubHireLaw.out(LTubHire;II[J)I -/
def M_L_out : xM := (yL_out, cL_out, 5, (some FieldType.int), Cond.codeWith yL_out cL_out 5 (some FieldType.int) [(0, 10, 13, 21), (0, 10, 17, 15)] :: xAll, { frames := 10, cells := 1, slots := 6, locals := 203 }, (1, 6), [(0, 10, 13, 21), (0, 10, 17, 15)])
theorem s_L_out_38 : xSv M_L_out M_X9_out 38 2 := fun s args hts => ⟨callB_of 2 hts (xGood zw29) rfl rfl rfl (hts _ (List.mem_cons_of_mem _ (zw1))) (hts _ (List.mem_cons_of_mem _ (zw30))) (by decide +kernel) ⟨Nat.le_of_ble_eq_true rfl, Nat.le_of_ble_eq_true rfl⟩, (hts _ (List.mem_cons_of_mem _ (zw31))), (hts _ (List.mem_cons_of_mem _ (zw32)))⟩
set_option maxRecDepth 100000 in
set_option maxHeartbeats 4000000 in
theorem ct_L_out {E : xE} {Po : xPo} {w : xW} {x a k : Nat} {p0 p1 : Int32} {v : Int32} {h : xHi} {Qh : xHi → Prop} {f0 : Nat → Int64} (H : HI E w x h) (hA : w.1 a = some (.inl (E.1.2 8, 1, .inr (.inl f0)))) (hax : ¬ HF x h a) (haw : a < w.2) (hk : k ≤ 2) (c1 : ∀ Po : xPo, (∀ u h2, Qh h2 → (h2.2.2.2.2.1 = h.2.2.2.2.1 ∨ w.2 ≤ h2.2.2.2.2.1) → HI E u x h2 → Fr w u x h → Po (rs ["java/lang/IndexOutOfBoundsException", "java/lang/UnsupportedOperationException"] k v) u) → Ct M_X9_out E (.ref x :: [.int p0, .int p1]) w Po) (hp : ∀ u h2, Qh h2 → (h2.2.2.2.2.1 = h.2.2.2.2.1 ∨ w.2 ≤ h2.2.2.2.2.1) → HI E u x h2 → Fr w u x h → if k = 0 then Po (.inl (some (.int 0))) (xset u a (.inl (E.1.2 8, 1, .inr (.inl (vp_updL f0 (0 : Int32).toNatClampNeg v.toInt64))))) else Po (.inl (some (.int (nI k)))) u) : Ct M_L_out E [.ref x, .int p0, .int p1, .ref a] w Po := by
  refine Ct.ofH (ws2 := xAll) (L := [some (.ref x), some (.int p0), some (.int p1), some (.ref a), none]) (by decide +kernel) rfl (List.forall_mem_cons.mpr ⟨rfl, (List.forall_mem_cons.mpr ⟨rfl, (List.forall_mem_cons.mpr ⟨rfl, (List.forall_mem_cons.mpr ⟨rfl, fun _ h => absurd h List.not_mem_nil⟩)⟩)⟩)⟩) (Nat.le_of_ble_eq_true rfl) rfl ?_
  refine r_aload_n (q := 1) dL_out_0 rfl rfl rfl ?_
  refine r_iconst (q := 2) (v := 0) dL_out_1 rfl rfl ?_
  refine r_aload_n (q := 3) dL_out_2 rfl rfl rfl ?_
  refine r_iload_n (q := 4) dL_out_3 rfl rfl rfl ?_
  refine r_iload_n (q := 5) dL_out_4 rfl rfl rfl ?_
  refine r_callVH (q := 8) (ci := 11) (As := [_, _]) dL_out_5 s_L_out_38 H.1.1 rfl rfl (Nat.le_of_ble_eq_true rfl) rfl rfl rfl ⟨(Nat.le_of_ble_eq_true rfl), (Nat.le_of_ble_eq_true rfl)⟩ rfl ?_
  refine c1 _ (fun u h2 q1 q2 q3 q4 => ?_)
  have hp9 := hp u h2 q1 q2 q3 q4
  have hu : u.1 a = some (.inl (E.1.2 8, 1, .inr (.inl f0))) := (q4.2 a hax haw).trans hA
  by_cases k0 : k = 0
  · subst k0
    rw [if_pos rfl] at hp9
    show WF _ E Po _ _ _ [.int v, .int 0, .ref a] u _ _
    refine r_i2l (q := 9) dL_out_8 rfl ?_
    refine r_lastore (q := 10) dL_out_9 hu (show vp_in 0 1 from vp_in_nI (n := 0) (by decide) (by decide)) rfl ?_
    refine r_goto (q := 21) dL_out_10 (by decide) ?_
    refine r_iconst (q := 22) (v := 0) dL_out_21 rfl rfl ?_
    refine r_iret dL_out_22 rfl (Nat.le_of_ble_eq_true rfl) (Nat.le_of_ble_eq_true rfl) ?_
    exact hp9
  by_cases k1 : k = 1
  · subst k1
    rw [if_neg (by decide)] at hp9
    show ∃ h9, xGet _ _ "java/lang/IndexOutOfBoundsException" h9 ∧ ∀ q9 : Nat, WF _ E Po _ h9 _ [.ref q9] u _ _
    refine ⟨13, ⟨[], (0, 10, 13, 21), [(0, 10, 17, 15)], rfl, fun _ h => absurd h List.not_mem_nil, ⟨by decide, by decide⟩, by decide, List.mem_cons_of_mem _ (zw11), by decide, rfl⟩, fun q9 => ?_⟩
    refine r_astore (q := 15) dL_out_13 (Nat.le_of_ble_eq_true rfl) (xone_of rfl) rfl ?_
    refine r_iconst (q := 16) (v := 1) dL_out_15 rfl rfl ?_
    refine r_iret dL_out_16 rfl (Nat.le_of_ble_eq_true rfl) (Nat.le_of_ble_eq_true rfl) ?_
    exact hp9
  by_cases k2 : k = 2
  · subst k2
    rw [if_neg (by decide)] at hp9
    show ∃ h9, xGet _ _ "java/lang/UnsupportedOperationException" h9 ∧ ∀ q9 : Nat, WF _ E Po _ h9 _ [.ref q9] u _ _
    refine ⟨17, ⟨[(0, 10, 13, 21)], (0, 10, 17, 15), [], rfl, List.forall_mem_cons.mpr ⟨⟨by decide, _, List.mem_cons_of_mem _ (zw11), by decide⟩, fun _ h => absurd h List.not_mem_nil⟩, ⟨by decide, by decide⟩, by decide, List.mem_cons_of_mem _ (zw6), by decide, rfl⟩, fun q9 => ?_⟩
    refine r_astore (q := 19) dL_out_17 (Nat.le_of_ble_eq_true rfl) (xone_of rfl) rfl ?_
    refine r_iconst (q := 20) (v := 2) dL_out_19 rfl rfl ?_
    refine r_iret dL_out_20 rfl (Nat.le_of_ble_eq_true rfl) (Nat.le_of_ble_eq_true rfl) ?_
    exact hp9
  omega
/-- TubHireLaw.back(LTubHire;I[J)I -/
def M_L_back : xM := (yL_back, cL_back, 4, (some FieldType.int), Cond.codeWith yL_back cL_back 4 (some FieldType.int) [(0, 9, 12, 21), (0, 9, 15, 15)] :: xAll, { frames := 10, cells := 1, slots := 6, locals := 202 }, (1, 6), [(0, 9, 12, 21), (0, 9, 15, 15)])
theorem s_L_back_41 : xSv M_L_back M_X9_back 41 1 := fun s args hts => ⟨callB_of 1 hts (xGood zw33) rfl rfl rfl (hts _ (List.mem_cons_of_mem _ (zw1))) (hts _ (List.mem_cons_of_mem _ (zw34))) (by decide +kernel) ⟨Nat.le_of_ble_eq_true rfl, Nat.le_of_ble_eq_true rfl⟩, (hts _ (List.mem_cons_of_mem _ (zw35))), (hts _ (List.mem_cons_of_mem _ (zw36)))⟩
set_option maxRecDepth 100000 in
set_option maxHeartbeats 4000000 in
theorem ct_L_back {E : xE} {Po : xPo} {w : xW} {x a k : Nat} {p0 : Int32} {v : Int32} {h : xHi} {Qh : xHi → Prop} {f0 : Nat → Int64} (H : HI E w x h) (hA : w.1 a = some (.inl (E.1.2 8, 1, .inr (.inl f0)))) (hax : ¬ HF x h a) (haw : a < w.2) (hk : k ≤ 2) (c1 : ∀ Po : xPo, (∀ u h2, Qh h2 → (h2.2.2.2.2.1 = h.2.2.2.2.1 ∨ w.2 ≤ h2.2.2.2.2.1) → HI E u x h2 → Fr w u x h → Po (rs ["java/lang/IndexOutOfBoundsException", "java/lang/UnsupportedOperationException"] k v) u) → Ct M_X9_back E (.ref x :: [.int p0]) w Po) (hp : ∀ u h2, Qh h2 → (h2.2.2.2.2.1 = h.2.2.2.2.1 ∨ w.2 ≤ h2.2.2.2.2.1) → HI E u x h2 → Fr w u x h → if k = 0 then Po (.inl (some (.int 0))) (xset u a (.inl (E.1.2 8, 1, .inr (.inl (vp_updL f0 (0 : Int32).toNatClampNeg v.toInt64))))) else Po (.inl (some (.int (nI k)))) u) : Ct M_L_back E [.ref x, .int p0, .ref a] w Po := by
  refine Ct.ofH (ws2 := xAll) (L := [some (.ref x), some (.int p0), some (.ref a), none]) (by decide +kernel) rfl (List.forall_mem_cons.mpr ⟨rfl, (List.forall_mem_cons.mpr ⟨rfl, (List.forall_mem_cons.mpr ⟨rfl, fun _ h => absurd h List.not_mem_nil⟩)⟩)⟩) (Nat.le_of_ble_eq_true rfl) rfl ?_
  refine r_aload_n (q := 1) dL_back_0 rfl rfl rfl ?_
  refine r_iconst (q := 2) (v := 0) dL_back_1 rfl rfl ?_
  refine r_aload_n (q := 3) dL_back_2 rfl rfl rfl ?_
  refine r_iload_n (q := 4) dL_back_3 rfl rfl rfl ?_
  refine r_callVH (q := 7) (ci := 11) (As := [_]) dL_back_4 s_L_back_41 H.1.1 rfl rfl (Nat.le_of_ble_eq_true rfl) rfl rfl rfl ⟨(Nat.le_of_ble_eq_true rfl), (Nat.le_of_ble_eq_true rfl)⟩ rfl ?_
  refine c1 _ (fun u h2 q1 q2 q3 q4 => ?_)
  have hp9 := hp u h2 q1 q2 q3 q4
  have hu : u.1 a = some (.inl (E.1.2 8, 1, .inr (.inl f0))) := (q4.2 a hax haw).trans hA
  by_cases k0 : k = 0
  · subst k0
    rw [if_pos rfl] at hp9
    show WF _ E Po _ _ _ [.int v, .int 0, .ref a] u _ _
    refine r_i2l (q := 8) dL_back_7 rfl ?_
    refine r_lastore (q := 9) dL_back_8 hu (show vp_in 0 1 from vp_in_nI (n := 0) (by decide) (by decide)) rfl ?_
    refine r_goto (q := 18) dL_back_9 (by decide) ?_
    refine r_iconst (q := 19) (v := 0) dL_back_18 rfl rfl ?_
    refine r_iret dL_back_19 rfl (Nat.le_of_ble_eq_true rfl) (Nat.le_of_ble_eq_true rfl) ?_
    exact hp9
  by_cases k1 : k = 1
  · subst k1
    rw [if_neg (by decide)] at hp9
    show ∃ h9, xGet _ _ "java/lang/IndexOutOfBoundsException" h9 ∧ ∀ q9 : Nat, WF _ E Po _ h9 _ [.ref q9] u _ _
    refine ⟨12, ⟨[], (0, 9, 12, 21), [(0, 9, 15, 15)], rfl, fun _ h => absurd h List.not_mem_nil, ⟨by decide, by decide⟩, by decide, List.mem_cons_of_mem _ (zw11), by decide, rfl⟩, fun q9 => ?_⟩
    refine r_astore_n (q := 13) dL_back_12 rfl (Nat.le_of_ble_eq_true rfl) (xone_of rfl) rfl ?_
    refine r_iconst (q := 14) (v := 1) dL_back_13 rfl rfl ?_
    refine r_iret dL_back_14 rfl (Nat.le_of_ble_eq_true rfl) (Nat.le_of_ble_eq_true rfl) ?_
    exact hp9
  by_cases k2 : k = 2
  · subst k2
    rw [if_neg (by decide)] at hp9
    show ∃ h9, xGet _ _ "java/lang/UnsupportedOperationException" h9 ∧ ∀ q9 : Nat, WF _ E Po _ h9 _ [.ref q9] u _ _
    refine ⟨15, ⟨[(0, 9, 12, 21)], (0, 9, 15, 15), [], rfl, List.forall_mem_cons.mpr ⟨⟨by decide, _, List.mem_cons_of_mem _ (zw11), by decide⟩, fun _ h => absurd h List.not_mem_nil⟩, ⟨by decide, by decide⟩, by decide, List.mem_cons_of_mem _ (zw6), by decide, rfl⟩, fun q9 => ?_⟩
    refine r_astore_n (q := 16) dL_back_15 rfl (Nat.le_of_ble_eq_true rfl) (xone_of rfl) rfl ?_
    refine r_iconst (q := 17) (v := 2) dL_back_16 rfl rfl ?_
    refine r_iret dL_back_17 rfl (Nat.le_of_ble_eq_true rfl) (Nat.le_of_ble_eq_true rfl) ?_
    exact hp9
  omega
/-- TubHireLaw.tent(LTubHire;I[J)I -/
def M_L_tent : xM := (yL_tent, cL_tent, 4, (some FieldType.int), Cond.codeWith yL_tent cL_tent 4 (some FieldType.int) [(0, 9, 12, 13), (0, 9, 15, 15)] :: xAll, { frames := 10, cells := 1, slots := 6, locals := 202 }, (1, 6), [(0, 9, 12, 13), (0, 9, 15, 15)])
theorem s_L_tent_44 : xSv M_L_tent M_X9_tent 44 1 := fun s args hts => ⟨callB_of 1 hts (xGood zw37) rfl rfl rfl (hts _ (List.mem_cons_of_mem _ (zw1))) (hts _ (List.mem_cons_of_mem _ (zw38))) (by decide +kernel) ⟨Nat.le_of_ble_eq_true rfl, Nat.le_of_ble_eq_true rfl⟩, (hts _ (List.mem_cons_of_mem _ (zw39))), (hts _ (List.mem_cons_of_mem _ (zw40)))⟩
set_option maxRecDepth 100000 in
set_option maxHeartbeats 4000000 in
theorem ct_L_tent {E : xE} {Po : xPo} {w : xW} {x a k : Nat} {p0 : Int32} {v : Int32} {h : xHi} {Qh : xHi → Prop} {f0 : Nat → Int64} (H : HI E w x h) (hA : w.1 a = some (.inl (E.1.2 8, 1, .inr (.inl f0)))) (hax : ¬ HF x h a) (haw : a < w.2) (hk : k ≤ 2) (c1 : ∀ Po : xPo, (∀ u h2, Qh h2 → (h2.2.2.2.2.1 = h.2.2.2.2.1 ∨ w.2 ≤ h2.2.2.2.2.1) → HI E u x h2 → Fr w u x h → Po (rs ["java/lang/IllegalArgumentException", "java/lang/UnsupportedOperationException"] k v) u) → Ct M_X9_tent E (.ref x :: [.int p0]) w Po) (hp : ∀ u h2, Qh h2 → (h2.2.2.2.2.1 = h.2.2.2.2.1 ∨ w.2 ≤ h2.2.2.2.2.1) → HI E u x h2 → Fr w u x h → if k = 0 then Po (.inl (some (.int 0))) (xset u a (.inl (E.1.2 8, 1, .inr (.inl (vp_updL f0 (0 : Int32).toNatClampNeg v.toInt64))))) else Po (.inl (some (.int (nI k)))) u) : Ct M_L_tent E [.ref x, .int p0, .ref a] w Po := by
  refine Ct.ofH (ws2 := xAll) (L := [some (.ref x), some (.int p0), some (.ref a), none]) (by decide +kernel) rfl (List.forall_mem_cons.mpr ⟨rfl, (List.forall_mem_cons.mpr ⟨rfl, (List.forall_mem_cons.mpr ⟨rfl, fun _ h => absurd h List.not_mem_nil⟩)⟩)⟩) (Nat.le_of_ble_eq_true rfl) rfl ?_
  refine r_aload_n (q := 1) dL_tent_0 rfl rfl rfl ?_
  refine r_iconst (q := 2) (v := 0) dL_tent_1 rfl rfl ?_
  refine r_aload_n (q := 3) dL_tent_2 rfl rfl rfl ?_
  refine r_iload_n (q := 4) dL_tent_3 rfl rfl rfl ?_
  refine r_callVH (q := 7) (ci := 11) (As := [_]) dL_tent_4 s_L_tent_44 H.1.1 rfl rfl (Nat.le_of_ble_eq_true rfl) rfl rfl rfl ⟨(Nat.le_of_ble_eq_true rfl), (Nat.le_of_ble_eq_true rfl)⟩ rfl ?_
  refine c1 _ (fun u h2 q1 q2 q3 q4 => ?_)
  have hp9 := hp u h2 q1 q2 q3 q4
  have hu : u.1 a = some (.inl (E.1.2 8, 1, .inr (.inl f0))) := (q4.2 a hax haw).trans hA
  by_cases k0 : k = 0
  · subst k0
    rw [if_pos rfl] at hp9
    show WF _ E Po _ _ _ [.int v, .int 0, .ref a] u _ _
    refine r_i2l (q := 8) dL_tent_7 rfl ?_
    refine r_lastore (q := 9) dL_tent_8 hu (show vp_in 0 1 from vp_in_nI (n := 0) (by decide) (by decide)) rfl ?_
    refine r_goto (q := 18) dL_tent_9 (by decide) ?_
    refine r_iconst (q := 19) (v := 0) dL_tent_18 rfl rfl ?_
    refine r_iret dL_tent_19 rfl (Nat.le_of_ble_eq_true rfl) (Nat.le_of_ble_eq_true rfl) ?_
    exact hp9
  by_cases k1 : k = 1
  · subst k1
    rw [if_neg (by decide)] at hp9
    show ∃ h9, xGet _ _ "java/lang/IllegalArgumentException" h9 ∧ ∀ q9 : Nat, WF _ E Po _ h9 _ [.ref q9] u _ _
    refine ⟨12, ⟨[], (0, 9, 12, 13), [(0, 9, 15, 15)], rfl, fun _ h => absurd h List.not_mem_nil, ⟨by decide, by decide⟩, by decide, List.mem_cons_of_mem _ (zw5), by decide, rfl⟩, fun q9 => ?_⟩
    refine r_astore_n (q := 13) dL_tent_12 rfl (Nat.le_of_ble_eq_true rfl) (xone_of rfl) rfl ?_
    refine r_iconst (q := 14) (v := 1) dL_tent_13 rfl rfl ?_
    refine r_iret dL_tent_14 rfl (Nat.le_of_ble_eq_true rfl) (Nat.le_of_ble_eq_true rfl) ?_
    exact hp9
  by_cases k2 : k = 2
  · subst k2
    rw [if_neg (by decide)] at hp9
    show ∃ h9, xGet _ _ "java/lang/UnsupportedOperationException" h9 ∧ ∀ q9 : Nat, WF _ E Po _ h9 _ [.ref q9] u _ _
    refine ⟨15, ⟨[(0, 9, 12, 13)], (0, 9, 15, 15), [], rfl, List.forall_mem_cons.mpr ⟨⟨by decide, _, List.mem_cons_of_mem _ (zw5), by decide⟩, fun _ h => absurd h List.not_mem_nil⟩, ⟨by decide, by decide⟩, by decide, List.mem_cons_of_mem _ (zw6), by decide, rfl⟩, fun q9 => ?_⟩
    refine r_astore_n (q := 16) dL_tent_15 rfl (Nat.le_of_ble_eq_true rfl) (xone_of rfl) rfl ?_
    refine r_iconst (q := 17) (v := 2) dL_tent_16 rfl rfl ?_
    refine r_iret dL_tent_17 rfl (Nat.le_of_ble_eq_true rfl) (Nat.le_of_ble_eq_true rfl) ?_
    exact hp9
  omega
/-- TubHireLaw.tentOf(LTubHire;II[J)I -/
def M_L_tentOf : xM := (yL_tentOf, cL_tentOf, 5, (some FieldType.int), Cond.codeWith yL_tentOf cL_tentOf 5 (some FieldType.int) [(0, 10, 13, 21), (0, 10, 17, 13)] :: xAll, { frames := 9, cells := 1, slots := 6, locals := 183 }, (1, 6), [(0, 10, 13, 21), (0, 10, 17, 13)])
theorem s_L_tentOf_47 : xSv M_L_tentOf M_X9_tentOf 47 2 := fun s args hts => ⟨callB_of 2 hts (xGood zw41) rfl rfl rfl (hts _ (List.mem_cons_of_mem _ (zw1))) (hts _ (List.mem_cons_of_mem _ (zw42))) (by decide +kernel) ⟨Nat.le_of_ble_eq_true rfl, Nat.le_of_ble_eq_true rfl⟩, (hts _ (List.mem_cons_of_mem _ (zw43))), (hts _ (List.mem_cons_of_mem _ (zw44)))⟩
set_option maxRecDepth 100000 in
set_option maxHeartbeats 4000000 in
theorem ct_L_tentOf {E : xE} {Po : xPo} {w : xW} {x a k : Nat} {p0 p1 : Int32} {v : Int32} {h : xHi} {Qh : xHi → Prop} {f0 : Nat → Int64} (H : HI E w x h) (hA : w.1 a = some (.inl (E.1.2 8, 1, .inr (.inl f0)))) (hax : ¬ HF x h a) (haw : a < w.2) (hk : k ≤ 2) (c1 : ∀ Po : xPo, (∀ u h2, Qh h2 → (h2.2.2.2.2.1 = h.2.2.2.2.1 ∨ w.2 ≤ h2.2.2.2.2.1) → HI E u x h2 → Fr w u x h → Po (rs ["java/lang/IndexOutOfBoundsException", "java/lang/IllegalArgumentException"] k v) u) → Ct M_X9_tentOf E (.ref x :: [.int p0, .int p1]) w Po) (hp : ∀ u h2, Qh h2 → (h2.2.2.2.2.1 = h.2.2.2.2.1 ∨ w.2 ≤ h2.2.2.2.2.1) → HI E u x h2 → Fr w u x h → if k = 0 then Po (.inl (some (.int 0))) (xset u a (.inl (E.1.2 8, 1, .inr (.inl (vp_updL f0 (0 : Int32).toNatClampNeg v.toInt64))))) else Po (.inl (some (.int (nI k)))) u) : Ct M_L_tentOf E [.ref x, .int p0, .int p1, .ref a] w Po := by
  refine Ct.ofH (ws2 := xAll) (L := [some (.ref x), some (.int p0), some (.int p1), some (.ref a), none]) (by decide +kernel) rfl (List.forall_mem_cons.mpr ⟨rfl, (List.forall_mem_cons.mpr ⟨rfl, (List.forall_mem_cons.mpr ⟨rfl, (List.forall_mem_cons.mpr ⟨rfl, fun _ h => absurd h List.not_mem_nil⟩)⟩)⟩)⟩) (Nat.le_of_ble_eq_true rfl) rfl ?_
  refine r_aload_n (q := 1) dL_tentOf_0 rfl rfl rfl ?_
  refine r_iconst (q := 2) (v := 0) dL_tentOf_1 rfl rfl ?_
  refine r_aload_n (q := 3) dL_tentOf_2 rfl rfl rfl ?_
  refine r_iload_n (q := 4) dL_tentOf_3 rfl rfl rfl ?_
  refine r_iload_n (q := 5) dL_tentOf_4 rfl rfl rfl ?_
  refine r_callVH (q := 8) (ci := 11) (As := [_, _]) dL_tentOf_5 s_L_tentOf_47 H.1.1 rfl rfl (Nat.le_of_ble_eq_true rfl) rfl rfl rfl ⟨(Nat.le_of_ble_eq_true rfl), (Nat.le_of_ble_eq_true rfl)⟩ rfl ?_
  refine c1 _ (fun u h2 q1 q2 q3 q4 => ?_)
  have hp9 := hp u h2 q1 q2 q3 q4
  have hu : u.1 a = some (.inl (E.1.2 8, 1, .inr (.inl f0))) := (q4.2 a hax haw).trans hA
  by_cases k0 : k = 0
  · subst k0
    rw [if_pos rfl] at hp9
    show WF _ E Po _ _ _ [.int v, .int 0, .ref a] u _ _
    refine r_i2l (q := 9) dL_tentOf_8 rfl ?_
    refine r_lastore (q := 10) dL_tentOf_9 hu (show vp_in 0 1 from vp_in_nI (n := 0) (by decide) (by decide)) rfl ?_
    refine r_goto (q := 21) dL_tentOf_10 (by decide) ?_
    refine r_iconst (q := 22) (v := 0) dL_tentOf_21 rfl rfl ?_
    refine r_iret dL_tentOf_22 rfl (Nat.le_of_ble_eq_true rfl) (Nat.le_of_ble_eq_true rfl) ?_
    exact hp9
  by_cases k1 : k = 1
  · subst k1
    rw [if_neg (by decide)] at hp9
    show ∃ h9, xGet _ _ "java/lang/IndexOutOfBoundsException" h9 ∧ ∀ q9 : Nat, WF _ E Po _ h9 _ [.ref q9] u _ _
    refine ⟨13, ⟨[], (0, 10, 13, 21), [(0, 10, 17, 13)], rfl, fun _ h => absurd h List.not_mem_nil, ⟨by decide, by decide⟩, by decide, List.mem_cons_of_mem _ (zw11), by decide, rfl⟩, fun q9 => ?_⟩
    refine r_astore (q := 15) dL_tentOf_13 (Nat.le_of_ble_eq_true rfl) (xone_of rfl) rfl ?_
    refine r_iconst (q := 16) (v := 1) dL_tentOf_15 rfl rfl ?_
    refine r_iret dL_tentOf_16 rfl (Nat.le_of_ble_eq_true rfl) (Nat.le_of_ble_eq_true rfl) ?_
    exact hp9
  by_cases k2 : k = 2
  · subst k2
    rw [if_neg (by decide)] at hp9
    show ∃ h9, xGet _ _ "java/lang/IllegalArgumentException" h9 ∧ ∀ q9 : Nat, WF _ E Po _ h9 _ [.ref q9] u _ _
    refine ⟨17, ⟨[(0, 10, 13, 21)], (0, 10, 17, 13), [], rfl, List.forall_mem_cons.mpr ⟨⟨by decide, _, List.mem_cons_of_mem _ (zw11), by decide⟩, fun _ h => absurd h List.not_mem_nil⟩, ⟨by decide, by decide⟩, by decide, List.mem_cons_of_mem _ (zw5), by decide, rfl⟩, fun q9 => ?_⟩
    refine r_astore (q := 19) dL_tentOf_17 (Nat.le_of_ble_eq_true rfl) (xone_of rfl) rfl ?_
    refine r_iconst (q := 20) (v := 2) dL_tentOf_19 rfl rfl ?_
    refine r_iret dL_tentOf_20 rfl (Nat.le_of_ble_eq_true rfl) (Nat.le_of_ble_eq_true rfl) ?_
    exact hp9
  omega
/-- TubHireLaw.waiting(LTubHire;II[J)I -/
def M_L_waiting : xM := (yL_waiting, cL_waiting, 5, (some FieldType.int), Cond.codeWith yL_waiting cL_waiting 5 (some FieldType.int) [(0, 10, 13, 21), (0, 10, 17, 26)] :: xAll, { frames := 9, cells := 1, slots := 6, locals := 184 }, (1, 6), [(0, 10, 13, 21), (0, 10, 17, 26)])
theorem s_L_waiting_50 : xSv M_L_waiting M_X9_waiting 50 2 := fun s args hts => ⟨callB_of 2 hts (xGood zw45) rfl rfl rfl (hts _ (List.mem_cons_of_mem _ (zw1))) (hts _ (List.mem_cons_of_mem _ (zw46))) (by decide +kernel) ⟨Nat.le_of_ble_eq_true rfl, Nat.le_of_ble_eq_true rfl⟩, (hts _ (List.mem_cons_of_mem _ (zw47))), (hts _ (List.mem_cons_of_mem _ (zw48)))⟩
set_option maxRecDepth 100000 in
set_option maxHeartbeats 4000000 in
theorem ct_L_waiting {E : xE} {Po : xPo} {w : xW} {x a k : Nat} {p0 p1 : Int32} {v : Int32} {h : xHi} {Qh : xHi → Prop} {f0 : Nat → Int64} (H : HI E w x h) (hA : w.1 a = some (.inl (E.1.2 8, 1, .inr (.inl f0)))) (hax : ¬ HF x h a) (haw : a < w.2) (hk : k ≤ 2) (c1 : ∀ Po : xPo, (∀ u h2, Qh h2 → (h2.2.2.2.2.1 = h.2.2.2.2.1 ∨ w.2 ≤ h2.2.2.2.2.1) → HI E u x h2 → Fr w u x h → Po (rs ["java/lang/IndexOutOfBoundsException", "java/util/NoSuchElementException"] k v) u) → Ct M_X9_waiting E (.ref x :: [.int p0, .int p1]) w Po) (hp : ∀ u h2, Qh h2 → (h2.2.2.2.2.1 = h.2.2.2.2.1 ∨ w.2 ≤ h2.2.2.2.2.1) → HI E u x h2 → Fr w u x h → if k = 0 then Po (.inl (some (.int 0))) (xset u a (.inl (E.1.2 8, 1, .inr (.inl (vp_updL f0 (0 : Int32).toNatClampNeg v.toInt64))))) else Po (.inl (some (.int (nI k)))) u) : Ct M_L_waiting E [.ref x, .int p0, .int p1, .ref a] w Po := by
  refine Ct.ofH (ws2 := xAll) (L := [some (.ref x), some (.int p0), some (.int p1), some (.ref a), none]) (by decide +kernel) rfl (List.forall_mem_cons.mpr ⟨rfl, (List.forall_mem_cons.mpr ⟨rfl, (List.forall_mem_cons.mpr ⟨rfl, (List.forall_mem_cons.mpr ⟨rfl, fun _ h => absurd h List.not_mem_nil⟩)⟩)⟩)⟩) (Nat.le_of_ble_eq_true rfl) rfl ?_
  refine r_aload_n (q := 1) dL_waiting_0 rfl rfl rfl ?_
  refine r_iconst (q := 2) (v := 0) dL_waiting_1 rfl rfl ?_
  refine r_aload_n (q := 3) dL_waiting_2 rfl rfl rfl ?_
  refine r_iload_n (q := 4) dL_waiting_3 rfl rfl rfl ?_
  refine r_iload_n (q := 5) dL_waiting_4 rfl rfl rfl ?_
  refine r_callVH (q := 8) (ci := 11) (As := [_, _]) dL_waiting_5 s_L_waiting_50 H.1.1 rfl rfl (Nat.le_of_ble_eq_true rfl) rfl rfl rfl ⟨(Nat.le_of_ble_eq_true rfl), (Nat.le_of_ble_eq_true rfl)⟩ rfl ?_
  refine c1 _ (fun u h2 q1 q2 q3 q4 => ?_)
  have hp9 := hp u h2 q1 q2 q3 q4
  have hu : u.1 a = some (.inl (E.1.2 8, 1, .inr (.inl f0))) := (q4.2 a hax haw).trans hA
  by_cases k0 : k = 0
  · subst k0
    rw [if_pos rfl] at hp9
    show WF _ E Po _ _ _ [.int v, .int 0, .ref a] u _ _
    refine r_i2l (q := 9) dL_waiting_8 rfl ?_
    refine r_lastore (q := 10) dL_waiting_9 hu (show vp_in 0 1 from vp_in_nI (n := 0) (by decide) (by decide)) rfl ?_
    refine r_goto (q := 21) dL_waiting_10 (by decide) ?_
    refine r_iconst (q := 22) (v := 0) dL_waiting_21 rfl rfl ?_
    refine r_iret dL_waiting_22 rfl (Nat.le_of_ble_eq_true rfl) (Nat.le_of_ble_eq_true rfl) ?_
    exact hp9
  by_cases k1 : k = 1
  · subst k1
    rw [if_neg (by decide)] at hp9
    show ∃ h9, xGet _ _ "java/lang/IndexOutOfBoundsException" h9 ∧ ∀ q9 : Nat, WF _ E Po _ h9 _ [.ref q9] u _ _
    refine ⟨13, ⟨[], (0, 10, 13, 21), [(0, 10, 17, 26)], rfl, fun _ h => absurd h List.not_mem_nil, ⟨by decide, by decide⟩, by decide, List.mem_cons_of_mem _ (zw11), by decide, rfl⟩, fun q9 => ?_⟩
    refine r_astore (q := 15) dL_waiting_13 (Nat.le_of_ble_eq_true rfl) (xone_of rfl) rfl ?_
    refine r_iconst (q := 16) (v := 1) dL_waiting_15 rfl rfl ?_
    refine r_iret dL_waiting_16 rfl (Nat.le_of_ble_eq_true rfl) (Nat.le_of_ble_eq_true rfl) ?_
    exact hp9
  by_cases k2 : k = 2
  · subst k2
    rw [if_neg (by decide)] at hp9
    show ∃ h9, xGet _ _ "java/util/NoSuchElementException" h9 ∧ ∀ q9 : Nat, WF _ E Po _ h9 _ [.ref q9] u _ _
    refine ⟨17, ⟨[(0, 10, 13, 21)], (0, 10, 17, 26), [], rfl, List.forall_mem_cons.mpr ⟨⟨by decide, _, List.mem_cons_of_mem _ (zw11), by decide⟩, fun _ h => absurd h List.not_mem_nil⟩, ⟨by decide, by decide⟩, by decide, List.mem_cons_of_mem _ (zw16), by decide, rfl⟩, fun q9 => ?_⟩
    refine r_astore (q := 19) dL_waiting_17 (Nat.le_of_ble_eq_true rfl) (xone_of rfl) rfl ?_
    refine r_iconst (q := 20) (v := 2) dL_waiting_19 rfl rfl ?_
    refine r_iret dL_waiting_20 rfl (Nat.le_of_ble_eq_true rfl) (Nat.le_of_ble_eq_true rfl) ?_
    exact hp9
  omega
/-- TubHireLaw.join(LTubHire;I[J)I -/
def M_L_join : xM := (yL_join, cL_join, 4, (some FieldType.int), Cond.codeWith yL_join cL_join 4 (some FieldType.int) [(0, 9, 12, 21), (0, 9, 15, 15)] :: xAll, { frames := 10, cells := 1, slots := 6, locals := 202 }, (1, 6), [(0, 9, 12, 21), (0, 9, 15, 15)])
theorem s_L_join_53 : xSv M_L_join M_X9_join 53 1 := fun s args hts => ⟨callB_of 1 hts (xGood zw49) rfl rfl rfl (hts _ (List.mem_cons_of_mem _ (zw1))) (hts _ (List.mem_cons_of_mem _ (zw50))) (by decide +kernel) ⟨Nat.le_of_ble_eq_true rfl, Nat.le_of_ble_eq_true rfl⟩, (hts _ (List.mem_cons_of_mem _ (zw51))), (hts _ (List.mem_cons_of_mem _ (zw52)))⟩
set_option maxRecDepth 100000 in
set_option maxHeartbeats 4000000 in
theorem ct_L_join {E : xE} {Po : xPo} {w : xW} {x a k : Nat} {p0 : Int32} {v : Int32} {h : xHi} {Qh : xHi → Prop} {f0 : Nat → Int64} (H : HI E w x h) (hA : w.1 a = some (.inl (E.1.2 8, 1, .inr (.inl f0)))) (hax : ¬ HF x h a) (haw : a < w.2) (hk : k ≤ 2) (c1 : ∀ Po : xPo, (∀ u h2, Qh h2 → (h2.2.2.2.2.1 = h.2.2.2.2.1 ∨ w.2 ≤ h2.2.2.2.2.1) → HI E u x h2 → Fr w u x h → Po (rs ["java/lang/IndexOutOfBoundsException", "java/lang/UnsupportedOperationException"] k v) u) → Ct M_X9_join E (.ref x :: [.int p0]) w Po) (hp : ∀ u h2, Qh h2 → (h2.2.2.2.2.1 = h.2.2.2.2.1 ∨ w.2 ≤ h2.2.2.2.2.1) → HI E u x h2 → Fr w u x h → if k = 0 then Po (.inl (some (.int 0))) (xset u a (.inl (E.1.2 8, 1, .inr (.inl (vp_updL f0 (0 : Int32).toNatClampNeg v.toInt64))))) else Po (.inl (some (.int (nI k)))) u) : Ct M_L_join E [.ref x, .int p0, .ref a] w Po := by
  refine Ct.ofH (ws2 := xAll) (L := [some (.ref x), some (.int p0), some (.ref a), none]) (by decide +kernel) rfl (List.forall_mem_cons.mpr ⟨rfl, (List.forall_mem_cons.mpr ⟨rfl, (List.forall_mem_cons.mpr ⟨rfl, fun _ h => absurd h List.not_mem_nil⟩)⟩)⟩) (Nat.le_of_ble_eq_true rfl) rfl ?_
  refine r_aload_n (q := 1) dL_join_0 rfl rfl rfl ?_
  refine r_iconst (q := 2) (v := 0) dL_join_1 rfl rfl ?_
  refine r_aload_n (q := 3) dL_join_2 rfl rfl rfl ?_
  refine r_iload_n (q := 4) dL_join_3 rfl rfl rfl ?_
  refine r_callVH (q := 7) (ci := 11) (As := [_]) dL_join_4 s_L_join_53 H.1.1 rfl rfl (Nat.le_of_ble_eq_true rfl) rfl rfl rfl ⟨(Nat.le_of_ble_eq_true rfl), (Nat.le_of_ble_eq_true rfl)⟩ rfl ?_
  refine c1 _ (fun u h2 q1 q2 q3 q4 => ?_)
  have hp9 := hp u h2 q1 q2 q3 q4
  have hu : u.1 a = some (.inl (E.1.2 8, 1, .inr (.inl f0))) := (q4.2 a hax haw).trans hA
  by_cases k0 : k = 0
  · subst k0
    rw [if_pos rfl] at hp9
    show WF _ E Po _ _ _ [.int v, .int 0, .ref a] u _ _
    refine r_i2l (q := 8) dL_join_7 rfl ?_
    refine r_lastore (q := 9) dL_join_8 hu (show vp_in 0 1 from vp_in_nI (n := 0) (by decide) (by decide)) rfl ?_
    refine r_goto (q := 18) dL_join_9 (by decide) ?_
    refine r_iconst (q := 19) (v := 0) dL_join_18 rfl rfl ?_
    refine r_iret dL_join_19 rfl (Nat.le_of_ble_eq_true rfl) (Nat.le_of_ble_eq_true rfl) ?_
    exact hp9
  by_cases k1 : k = 1
  · subst k1
    rw [if_neg (by decide)] at hp9
    show ∃ h9, xGet _ _ "java/lang/IndexOutOfBoundsException" h9 ∧ ∀ q9 : Nat, WF _ E Po _ h9 _ [.ref q9] u _ _
    refine ⟨12, ⟨[], (0, 9, 12, 21), [(0, 9, 15, 15)], rfl, fun _ h => absurd h List.not_mem_nil, ⟨by decide, by decide⟩, by decide, List.mem_cons_of_mem _ (zw11), by decide, rfl⟩, fun q9 => ?_⟩
    refine r_astore_n (q := 13) dL_join_12 rfl (Nat.le_of_ble_eq_true rfl) (xone_of rfl) rfl ?_
    refine r_iconst (q := 14) (v := 1) dL_join_13 rfl rfl ?_
    refine r_iret dL_join_14 rfl (Nat.le_of_ble_eq_true rfl) (Nat.le_of_ble_eq_true rfl) ?_
    exact hp9
  by_cases k2 : k = 2
  · subst k2
    rw [if_neg (by decide)] at hp9
    show ∃ h9, xGet _ _ "java/lang/UnsupportedOperationException" h9 ∧ ∀ q9 : Nat, WF _ E Po _ h9 _ [.ref q9] u _ _
    refine ⟨15, ⟨[(0, 9, 12, 21)], (0, 9, 15, 15), [], rfl, List.forall_mem_cons.mpr ⟨⟨by decide, _, List.mem_cons_of_mem _ (zw11), by decide⟩, fun _ h => absurd h List.not_mem_nil⟩, ⟨by decide, by decide⟩, by decide, List.mem_cons_of_mem _ (zw6), by decide, rfl⟩, fun q9 => ?_⟩
    refine r_astore_n (q := 16) dL_join_15 rfl (Nat.le_of_ble_eq_true rfl) (xone_of rfl) rfl ?_
    refine r_iconst (q := 17) (v := 2) dL_join_16 rfl rfl ?_
    refine r_iret dL_join_17 rfl (Nat.le_of_ble_eq_true rfl) (Nat.le_of_ble_eq_true rfl) ?_
    exact hp9
  omega
/-- TubHireLaw.heater(LTubHire;[J)I -/
def M_L_heater : xM := (yL_heater, cL_heater, 3, (some FieldType.int), Cond.codeWith yL_heater cL_heater 3 (some FieldType.int) [(0, 8, 11, 15)] :: xAll, { frames := 10, cells := 1, slots := 6, locals := 201 }, (1, 6), [(0, 8, 11, 15)])
theorem s_L_heater_56 : xSv M_L_heater M_X9_heater 56 0 := fun s args hts => ⟨callB_of 0 hts (xGood zw53) rfl rfl rfl (hts _ (List.mem_cons_of_mem _ (zw1))) (hts _ (List.mem_cons_of_mem _ (zw54))) (by decide +kernel) ⟨Nat.le_of_ble_eq_true rfl, Nat.le_of_ble_eq_true rfl⟩, (hts _ (List.mem_cons_of_mem _ (zw55))), (hts _ (List.mem_cons_of_mem _ (zw56)))⟩
set_option maxRecDepth 100000 in
set_option maxHeartbeats 4000000 in
theorem ct_L_heater {E : xE} {Po : xPo} {w : xW} {x a k : Nat} {v : Int32} {h : xHi} {Qh : xHi → Prop} {f0 : Nat → Int64} (H : HI E w x h) (hA : w.1 a = some (.inl (E.1.2 8, 1, .inr (.inl f0)))) (hax : ¬ HF x h a) (haw : a < w.2) (hk : k ≤ 1) (c1 : ∀ Po : xPo, (∀ u h2, Qh h2 → (h2.2.2.2.2.1 = h.2.2.2.2.1 ∨ w.2 ≤ h2.2.2.2.2.1) → HI E u x h2 → Fr w u x h → Po (rs ["java/lang/UnsupportedOperationException"] k v) u) → Ct M_X9_heater E (.ref x :: []) w Po) (hp : ∀ u h2, Qh h2 → (h2.2.2.2.2.1 = h.2.2.2.2.1 ∨ w.2 ≤ h2.2.2.2.2.1) → HI E u x h2 → Fr w u x h → if k = 0 then Po (.inl (some (.int 0))) (xset u a (.inl (E.1.2 8, 1, .inr (.inl (vp_updL f0 (0 : Int32).toNatClampNeg v.toInt64))))) else Po (.inl (some (.int (nI k)))) u) : Ct M_L_heater E [.ref x, .ref a] w Po := by
  refine Ct.ofH (ws2 := xAll) (L := [some (.ref x), some (.ref a), none]) (by decide +kernel) rfl (List.forall_mem_cons.mpr ⟨rfl, (List.forall_mem_cons.mpr ⟨rfl, fun _ h => absurd h List.not_mem_nil⟩)⟩) (Nat.le_of_ble_eq_true rfl) rfl ?_
  refine r_aload_n (q := 1) dL_heater_0 rfl rfl rfl ?_
  refine r_iconst (q := 2) (v := 0) dL_heater_1 rfl rfl ?_
  refine r_aload_n (q := 3) dL_heater_2 rfl rfl rfl ?_
  refine r_callVH (q := 6) (ci := 11) (As := []) dL_heater_3 s_L_heater_56 H.1.1 rfl rfl (Nat.le_of_ble_eq_true rfl) rfl rfl rfl ⟨(Nat.le_of_ble_eq_true rfl), (Nat.le_of_ble_eq_true rfl)⟩ rfl ?_
  refine c1 _ (fun u h2 q1 q2 q3 q4 => ?_)
  have hp9 := hp u h2 q1 q2 q3 q4
  have hu : u.1 a = some (.inl (E.1.2 8, 1, .inr (.inl f0))) := (q4.2 a hax haw).trans hA
  by_cases k0 : k = 0
  · subst k0
    rw [if_pos rfl] at hp9
    show WF _ E Po _ _ _ [.int v, .int 0, .ref a] u _ _
    refine r_i2l (q := 7) dL_heater_6 rfl ?_
    refine r_lastore (q := 8) dL_heater_7 hu (show vp_in 0 1 from vp_in_nI (n := 0) (by decide) (by decide)) rfl ?_
    refine r_goto (q := 14) dL_heater_8 (by decide) ?_
    refine r_iconst (q := 15) (v := 0) dL_heater_14 rfl rfl ?_
    refine r_iret dL_heater_15 rfl (Nat.le_of_ble_eq_true rfl) (Nat.le_of_ble_eq_true rfl) ?_
    exact hp9
  by_cases k1 : k = 1
  · subst k1
    rw [if_neg (by decide)] at hp9
    show ∃ h9, xGet _ _ "java/lang/UnsupportedOperationException" h9 ∧ ∀ q9 : Nat, WF _ E Po _ h9 _ [.ref q9] u _ _
    refine ⟨11, ⟨[], (0, 8, 11, 15), [], rfl, fun _ h => absurd h List.not_mem_nil, ⟨by decide, by decide⟩, by decide, List.mem_cons_of_mem _ (zw6), by decide, rfl⟩, fun q9 => ?_⟩
    refine r_astore_n (q := 12) dL_heater_11 rfl (Nat.le_of_ble_eq_true rfl) (xone_of rfl) rfl ?_
    refine r_iconst (q := 13) (v := 1) dL_heater_12 rfl rfl ?_
    refine r_iret dL_heater_13 rfl (Nat.le_of_ble_eq_true rfl) (Nat.le_of_ble_eq_true rfl) ?_
    exact hp9
  omega
/-- TubHireLaw.heaterOf(LTubHire;IZ[J)I -/
def M_L_heaterOf : xM := (yL_heaterOf, cL_heaterOf, 5, (some FieldType.int), Cond.codeWith yL_heaterOf cL_heaterOf 5 (some FieldType.int) [(0, 10, 13, 21)] :: xAll, { frames := 9, cells := 1, slots := 6, locals := 183 }, (1, 6), [(0, 10, 13, 21)])
theorem s_L_heaterOf_59 : xSv M_L_heaterOf M_X9_heaterOf 59 2 := fun s args hts => ⟨callB_of 2 hts (xGood zw57) rfl rfl rfl (hts _ (List.mem_cons_of_mem _ (zw1))) (hts _ (List.mem_cons_of_mem _ (zw58))) (by decide +kernel) ⟨Nat.le_of_ble_eq_true rfl, Nat.le_of_ble_eq_true rfl⟩, (hts _ (List.mem_cons_of_mem _ (zw59))), (hts _ (List.mem_cons_of_mem _ (zw60)))⟩
set_option maxRecDepth 100000 in
set_option maxHeartbeats 4000000 in
theorem ct_L_heaterOf {E : xE} {Po : xPo} {w : xW} {x a k : Nat} {p0 p1 : Int32} {v : Int32} {h : xHi} {Qh : xHi → Prop} {f0 : Nat → Int64} (H : HI E w x h) (hA : w.1 a = some (.inl (E.1.2 8, 1, .inr (.inl f0)))) (hax : ¬ HF x h a) (haw : a < w.2) (hk : k ≤ 1) (c1 : ∀ Po : xPo, (∀ u h2, Qh h2 → (h2.2.2.2.2.1 = h.2.2.2.2.1 ∨ w.2 ≤ h2.2.2.2.2.1) → HI E u x h2 → Fr w u x h → Po (rs ["java/lang/IndexOutOfBoundsException"] k v) u) → Ct M_X9_heaterOf E (.ref x :: [.int p0, .int p1]) w Po) (hp : ∀ u h2, Qh h2 → (h2.2.2.2.2.1 = h.2.2.2.2.1 ∨ w.2 ≤ h2.2.2.2.2.1) → HI E u x h2 → Fr w u x h → if k = 0 then Po (.inl (some (.int 0))) (xset u a (.inl (E.1.2 8, 1, .inr (.inl (vp_updL f0 (0 : Int32).toNatClampNeg v.toInt64))))) else Po (.inl (some (.int (nI k)))) u) : Ct M_L_heaterOf E [.ref x, .int p0, .int p1, .ref a] w Po := by
  refine Ct.ofH (ws2 := xAll) (L := [some (.ref x), some (.int p0), some (.int p1), some (.ref a), none]) (by decide +kernel) rfl (List.forall_mem_cons.mpr ⟨rfl, (List.forall_mem_cons.mpr ⟨rfl, (List.forall_mem_cons.mpr ⟨rfl, (List.forall_mem_cons.mpr ⟨rfl, fun _ h => absurd h List.not_mem_nil⟩)⟩)⟩)⟩) (Nat.le_of_ble_eq_true rfl) rfl ?_
  refine r_aload_n (q := 1) dL_heaterOf_0 rfl rfl rfl ?_
  refine r_iconst (q := 2) (v := 0) dL_heaterOf_1 rfl rfl ?_
  refine r_aload_n (q := 3) dL_heaterOf_2 rfl rfl rfl ?_
  refine r_iload_n (q := 4) dL_heaterOf_3 rfl rfl rfl ?_
  refine r_iload_n (q := 5) dL_heaterOf_4 rfl rfl rfl ?_
  refine r_callVH (q := 8) (ci := 11) (As := [_, _]) dL_heaterOf_5 s_L_heaterOf_59 H.1.1 rfl rfl (Nat.le_of_ble_eq_true rfl) rfl rfl rfl ⟨(Nat.le_of_ble_eq_true rfl), (Nat.le_of_ble_eq_true rfl)⟩ rfl ?_
  refine c1 _ (fun u h2 q1 q2 q3 q4 => ?_)
  have hp9 := hp u h2 q1 q2 q3 q4
  have hu : u.1 a = some (.inl (E.1.2 8, 1, .inr (.inl f0))) := (q4.2 a hax haw).trans hA
  by_cases k0 : k = 0
  · subst k0
    rw [if_pos rfl] at hp9
    show WF _ E Po _ _ _ [.int v, .int 0, .ref a] u _ _
    refine r_i2l (q := 9) dL_heaterOf_8 rfl ?_
    refine r_lastore (q := 10) dL_heaterOf_9 hu (show vp_in 0 1 from vp_in_nI (n := 0) (by decide) (by decide)) rfl ?_
    refine r_goto (q := 17) dL_heaterOf_10 (by decide) ?_
    refine r_iconst (q := 18) (v := 0) dL_heaterOf_17 rfl rfl ?_
    refine r_iret dL_heaterOf_18 rfl (Nat.le_of_ble_eq_true rfl) (Nat.le_of_ble_eq_true rfl) ?_
    exact hp9
  by_cases k1 : k = 1
  · subst k1
    rw [if_neg (by decide)] at hp9
    show ∃ h9, xGet _ _ "java/lang/IndexOutOfBoundsException" h9 ∧ ∀ q9 : Nat, WF _ E Po _ h9 _ [.ref q9] u _ _
    refine ⟨13, ⟨[], (0, 10, 13, 21), [], rfl, fun _ h => absurd h List.not_mem_nil, ⟨by decide, by decide⟩, by decide, List.mem_cons_of_mem _ (zw11), by decide, rfl⟩, fun q9 => ?_⟩
    refine r_astore (q := 15) dL_heaterOf_13 (Nat.le_of_ble_eq_true rfl) (xone_of rfl) rfl ?_
    refine r_iconst (q := 16) (v := 1) dL_heaterOf_15 rfl rfl ?_
    refine r_iret dL_heaterOf_16 rfl (Nat.le_of_ble_eq_true rfl) (Nat.le_of_ble_eq_true rfl) ?_
    exact hp9
  omega
/-- TubHireLaw.heat(LTubHire;II[J)I -/
def M_L_heat : xM := (yL_heat, cL_heat, 5, (some FieldType.int), Cond.codeWith yL_heat cL_heat 5 (some FieldType.int) [(0, 10, 13, 21), (0, 10, 17, 15)] :: xAll, { frames := 10, cells := 1, slots := 6, locals := 203 }, (1, 6), [(0, 10, 13, 21), (0, 10, 17, 15)])
theorem s_L_heat_63 : xSv M_L_heat M_X9_heat 63 2 := fun s args hts => ⟨callB_of 2 hts (xGood zw61) rfl rfl rfl (hts _ (List.mem_cons_of_mem _ (zw1))) (hts _ (List.mem_cons_of_mem _ (zw62))) (by decide +kernel) ⟨Nat.le_of_ble_eq_true rfl, Nat.le_of_ble_eq_true rfl⟩, (hts _ (List.mem_cons_of_mem _ (zw63))), (hts _ (List.mem_cons_of_mem _ (zw64)))⟩
set_option maxRecDepth 100000 in
set_option maxHeartbeats 4000000 in
theorem ct_L_heat {E : xE} {Po : xPo} {w : xW} {x a k : Nat} {p0 p1 : Int32} {v : Int32} {h : xHi} {Qh : xHi → Prop} {f0 : Nat → Int64} (H : HI E w x h) (hA : w.1 a = some (.inl (E.1.2 8, 1, .inr (.inl f0)))) (hax : ¬ HF x h a) (haw : a < w.2) (hk : k ≤ 2) (c1 : ∀ Po : xPo, (∀ u h2, Qh h2 → (h2.2.2.2.2.1 = h.2.2.2.2.1 ∨ w.2 ≤ h2.2.2.2.2.1) → HI E u x h2 → Fr w u x h → Po (rs ["java/lang/IndexOutOfBoundsException", "java/lang/UnsupportedOperationException"] k v) u) → Ct M_X9_heat E (.ref x :: [.int p0, .int p1]) w Po) (hp : ∀ u h2, Qh h2 → (h2.2.2.2.2.1 = h.2.2.2.2.1 ∨ w.2 ≤ h2.2.2.2.2.1) → HI E u x h2 → Fr w u x h → if k = 0 then Po (.inl (some (.int 0))) (xset u a (.inl (E.1.2 8, 1, .inr (.inl (vp_updL f0 (0 : Int32).toNatClampNeg v.toInt64))))) else Po (.inl (some (.int (nI k)))) u) : Ct M_L_heat E [.ref x, .int p0, .int p1, .ref a] w Po := by
  refine Ct.ofH (ws2 := xAll) (L := [some (.ref x), some (.int p0), some (.int p1), some (.ref a), none]) (by decide +kernel) rfl (List.forall_mem_cons.mpr ⟨rfl, (List.forall_mem_cons.mpr ⟨rfl, (List.forall_mem_cons.mpr ⟨rfl, (List.forall_mem_cons.mpr ⟨rfl, fun _ h => absurd h List.not_mem_nil⟩)⟩)⟩)⟩) (Nat.le_of_ble_eq_true rfl) rfl ?_
  refine r_aload_n (q := 1) dL_heat_0 rfl rfl rfl ?_
  refine r_iconst (q := 2) (v := 0) dL_heat_1 rfl rfl ?_
  refine r_aload_n (q := 3) dL_heat_2 rfl rfl rfl ?_
  refine r_iload_n (q := 4) dL_heat_3 rfl rfl rfl ?_
  refine r_iload_n (q := 5) dL_heat_4 rfl rfl rfl ?_
  refine r_callVH (q := 8) (ci := 11) (As := [_, _]) dL_heat_5 s_L_heat_63 H.1.1 rfl rfl (Nat.le_of_ble_eq_true rfl) rfl rfl rfl ⟨(Nat.le_of_ble_eq_true rfl), (Nat.le_of_ble_eq_true rfl)⟩ rfl ?_
  refine c1 _ (fun u h2 q1 q2 q3 q4 => ?_)
  have hp9 := hp u h2 q1 q2 q3 q4
  have hu : u.1 a = some (.inl (E.1.2 8, 1, .inr (.inl f0))) := (q4.2 a hax haw).trans hA
  by_cases k0 : k = 0
  · subst k0
    rw [if_pos rfl] at hp9
    show WF _ E Po _ _ _ [.int v, .int 0, .ref a] u _ _
    refine r_i2l (q := 9) dL_heat_8 rfl ?_
    refine r_lastore (q := 10) dL_heat_9 hu (show vp_in 0 1 from vp_in_nI (n := 0) (by decide) (by decide)) rfl ?_
    refine r_goto (q := 21) dL_heat_10 (by decide) ?_
    refine r_iconst (q := 22) (v := 0) dL_heat_21 rfl rfl ?_
    refine r_iret dL_heat_22 rfl (Nat.le_of_ble_eq_true rfl) (Nat.le_of_ble_eq_true rfl) ?_
    exact hp9
  by_cases k1 : k = 1
  · subst k1
    rw [if_neg (by decide)] at hp9
    show ∃ h9, xGet _ _ "java/lang/IndexOutOfBoundsException" h9 ∧ ∀ q9 : Nat, WF _ E Po _ h9 _ [.ref q9] u _ _
    refine ⟨13, ⟨[], (0, 10, 13, 21), [(0, 10, 17, 15)], rfl, fun _ h => absurd h List.not_mem_nil, ⟨by decide, by decide⟩, by decide, List.mem_cons_of_mem _ (zw11), by decide, rfl⟩, fun q9 => ?_⟩
    refine r_astore (q := 15) dL_heat_13 (Nat.le_of_ble_eq_true rfl) (xone_of rfl) rfl ?_
    refine r_iconst (q := 16) (v := 1) dL_heat_15 rfl rfl ?_
    refine r_iret dL_heat_16 rfl (Nat.le_of_ble_eq_true rfl) (Nat.le_of_ble_eq_true rfl) ?_
    exact hp9
  by_cases k2 : k = 2
  · subst k2
    rw [if_neg (by decide)] at hp9
    show ∃ h9, xGet _ _ "java/lang/UnsupportedOperationException" h9 ∧ ∀ q9 : Nat, WF _ E Po _ h9 _ [.ref q9] u _ _
    refine ⟨17, ⟨[(0, 10, 13, 21)], (0, 10, 17, 15), [], rfl, List.forall_mem_cons.mpr ⟨⟨by decide, _, List.mem_cons_of_mem _ (zw11), by decide⟩, fun _ h => absurd h List.not_mem_nil⟩, ⟨by decide, by decide⟩, by decide, List.mem_cons_of_mem _ (zw6), by decide, rfl⟩, fun q9 => ?_⟩
    refine r_astore (q := 19) dL_heat_17 (Nat.le_of_ble_eq_true rfl) (xone_of rfl) rfl ?_
    refine r_iconst (q := 20) (v := 2) dL_heat_19 rfl rfl ?_
    refine r_iret dL_heat_20 rfl (Nat.le_of_ble_eq_true rfl) (Nat.le_of_ble_eq_true rfl) ?_
    exact hp9
  omega
/-- TubHireLaw.cold(LTubHire;I[J)I -/
def M_L_cold : xM := (yL_cold, cL_cold, 4, (some FieldType.int), Cond.codeWith yL_cold cL_cold 4 (some FieldType.int) [(0, 9, 12, 21), (0, 9, 15, 15)] :: xAll, { frames := 10, cells := 1, slots := 6, locals := 202 }, (1, 6), [(0, 9, 12, 21), (0, 9, 15, 15)])
theorem s_L_cold_66 : xSv M_L_cold M_X9_cold 66 1 := fun s args hts => ⟨callB_of 1 hts (xGood zw65) rfl rfl rfl (hts _ (List.mem_cons_of_mem _ (zw1))) (hts _ (List.mem_cons_of_mem _ (zw66))) (by decide +kernel) ⟨Nat.le_of_ble_eq_true rfl, Nat.le_of_ble_eq_true rfl⟩, (hts _ (List.mem_cons_of_mem _ (zw67))), (hts _ (List.mem_cons_of_mem _ (zw68)))⟩
set_option maxRecDepth 100000 in
set_option maxHeartbeats 4000000 in
theorem ct_L_cold {E : xE} {Po : xPo} {w : xW} {x a k : Nat} {p0 : Int32} {v : Int32} {h : xHi} {Qh : xHi → Prop} {f0 : Nat → Int64} (H : HI E w x h) (hA : w.1 a = some (.inl (E.1.2 8, 1, .inr (.inl f0)))) (hax : ¬ HF x h a) (haw : a < w.2) (hk : k ≤ 2) (c1 : ∀ Po : xPo, (∀ u h2, Qh h2 → (h2.2.2.2.2.1 = h.2.2.2.2.1 ∨ w.2 ≤ h2.2.2.2.2.1) → HI E u x h2 → Fr w u x h → Po (rs ["java/lang/IndexOutOfBoundsException", "java/lang/UnsupportedOperationException"] k v) u) → Ct M_X9_cold E (.ref x :: [.int p0]) w Po) (hp : ∀ u h2, Qh h2 → (h2.2.2.2.2.1 = h.2.2.2.2.1 ∨ w.2 ≤ h2.2.2.2.2.1) → HI E u x h2 → Fr w u x h → if k = 0 then Po (.inl (some (.int 0))) (xset u a (.inl (E.1.2 8, 1, .inr (.inl (vp_updL f0 (0 : Int32).toNatClampNeg v.toInt64))))) else Po (.inl (some (.int (nI k)))) u) : Ct M_L_cold E [.ref x, .int p0, .ref a] w Po := by
  refine Ct.ofH (ws2 := xAll) (L := [some (.ref x), some (.int p0), some (.ref a), none]) (by decide +kernel) rfl (List.forall_mem_cons.mpr ⟨rfl, (List.forall_mem_cons.mpr ⟨rfl, (List.forall_mem_cons.mpr ⟨rfl, fun _ h => absurd h List.not_mem_nil⟩)⟩)⟩) (Nat.le_of_ble_eq_true rfl) rfl ?_
  refine r_aload_n (q := 1) dL_cold_0 rfl rfl rfl ?_
  refine r_iconst (q := 2) (v := 0) dL_cold_1 rfl rfl ?_
  refine r_aload_n (q := 3) dL_cold_2 rfl rfl rfl ?_
  refine r_iload_n (q := 4) dL_cold_3 rfl rfl rfl ?_
  refine r_callVH (q := 7) (ci := 11) (As := [_]) dL_cold_4 s_L_cold_66 H.1.1 rfl rfl (Nat.le_of_ble_eq_true rfl) rfl rfl rfl ⟨(Nat.le_of_ble_eq_true rfl), (Nat.le_of_ble_eq_true rfl)⟩ rfl ?_
  refine c1 _ (fun u h2 q1 q2 q3 q4 => ?_)
  have hp9 := hp u h2 q1 q2 q3 q4
  have hu : u.1 a = some (.inl (E.1.2 8, 1, .inr (.inl f0))) := (q4.2 a hax haw).trans hA
  by_cases k0 : k = 0
  · subst k0
    rw [if_pos rfl] at hp9
    show WF _ E Po _ _ _ [.int v, .int 0, .ref a] u _ _
    refine r_i2l (q := 8) dL_cold_7 rfl ?_
    refine r_lastore (q := 9) dL_cold_8 hu (show vp_in 0 1 from vp_in_nI (n := 0) (by decide) (by decide)) rfl ?_
    refine r_goto (q := 18) dL_cold_9 (by decide) ?_
    refine r_iconst (q := 19) (v := 0) dL_cold_18 rfl rfl ?_
    refine r_iret dL_cold_19 rfl (Nat.le_of_ble_eq_true rfl) (Nat.le_of_ble_eq_true rfl) ?_
    exact hp9
  by_cases k1 : k = 1
  · subst k1
    rw [if_neg (by decide)] at hp9
    show ∃ h9, xGet _ _ "java/lang/IndexOutOfBoundsException" h9 ∧ ∀ q9 : Nat, WF _ E Po _ h9 _ [.ref q9] u _ _
    refine ⟨12, ⟨[], (0, 9, 12, 21), [(0, 9, 15, 15)], rfl, fun _ h => absurd h List.not_mem_nil, ⟨by decide, by decide⟩, by decide, List.mem_cons_of_mem _ (zw11), by decide, rfl⟩, fun q9 => ?_⟩
    refine r_astore_n (q := 13) dL_cold_12 rfl (Nat.le_of_ble_eq_true rfl) (xone_of rfl) rfl ?_
    refine r_iconst (q := 14) (v := 1) dL_cold_13 rfl rfl ?_
    refine r_iret dL_cold_14 rfl (Nat.le_of_ble_eq_true rfl) (Nat.le_of_ble_eq_true rfl) ?_
    exact hp9
  by_cases k2 : k = 2
  · subst k2
    rw [if_neg (by decide)] at hp9
    show ∃ h9, xGet _ _ "java/lang/UnsupportedOperationException" h9 ∧ ∀ q9 : Nat, WF _ E Po _ h9 _ [.ref q9] u _ _
    refine ⟨15, ⟨[(0, 9, 12, 21)], (0, 9, 15, 15), [], rfl, List.forall_mem_cons.mpr ⟨⟨by decide, _, List.mem_cons_of_mem _ (zw11), by decide⟩, fun _ h => absurd h List.not_mem_nil⟩, ⟨by decide, by decide⟩, by decide, List.mem_cons_of_mem _ (zw6), by decide, rfl⟩, fun q9 => ?_⟩
    refine r_astore_n (q := 16) dL_cold_15 rfl (Nat.le_of_ble_eq_true rfl) (xone_of rfl) rfl ?_
    refine r_iconst (q := 17) (v := 2) dL_cold_16 rfl rfl ?_
    refine r_iret dL_cold_17 rfl (Nat.le_of_ble_eq_true rfl) (Nat.le_of_ble_eq_true rfl) ?_
    exact hp9
  omega
/-- TubHireLaw.gas(LTubHire;II[J)I -/
def M_L_gas : xM := (yL_gas, cL_gas, 5, (some FieldType.int), Cond.codeWith yL_gas cL_gas 5 (some FieldType.int) [(0, 10, 13, 21), (0, 10, 17, 13), (0, 10, 21, 15)] :: xAll, { frames := 10, cells := 1, slots := 6, locals := 203 }, (1, 6), [(0, 10, 13, 21), (0, 10, 17, 13), (0, 10, 21, 15)])
theorem s_L_gas_69 : xSv M_L_gas M_X9_gas 69 2 := fun s args hts => ⟨callB_of 2 hts (xGood zw69) rfl rfl rfl (hts _ (List.mem_cons_of_mem _ (zw1))) (hts _ (List.mem_cons_of_mem _ (zw70))) (by decide +kernel) ⟨Nat.le_of_ble_eq_true rfl, Nat.le_of_ble_eq_true rfl⟩, (hts _ (List.mem_cons_of_mem _ (zw71))), (hts _ (List.mem_cons_of_mem _ (zw72)))⟩
set_option maxRecDepth 100000 in
set_option maxHeartbeats 4000000 in
theorem ct_L_gas {E : xE} {Po : xPo} {w : xW} {x a k : Nat} {p0 p1 : Int32} {v : Int32} {h : xHi} {Qh : xHi → Prop} {f0 : Nat → Int64} (H : HI E w x h) (hA : w.1 a = some (.inl (E.1.2 8, 1, .inr (.inl f0)))) (hax : ¬ HF x h a) (haw : a < w.2) (hk : k ≤ 3) (c1 : ∀ Po : xPo, (∀ u h2, Qh h2 → (h2.2.2.2.2.1 = h.2.2.2.2.1 ∨ w.2 ≤ h2.2.2.2.2.1) → HI E u x h2 → Fr w u x h → Po (rs ["java/lang/IndexOutOfBoundsException", "java/lang/IllegalArgumentException", "java/lang/UnsupportedOperationException"] k v) u) → Ct M_X9_gas E (.ref x :: [.int p0, .int p1]) w Po) (hp : ∀ u h2, Qh h2 → (h2.2.2.2.2.1 = h.2.2.2.2.1 ∨ w.2 ≤ h2.2.2.2.2.1) → HI E u x h2 → Fr w u x h → if k = 0 then Po (.inl (some (.int 0))) (xset u a (.inl (E.1.2 8, 1, .inr (.inl (vp_updL f0 (0 : Int32).toNatClampNeg v.toInt64))))) else Po (.inl (some (.int (nI k)))) u) : Ct M_L_gas E [.ref x, .int p0, .int p1, .ref a] w Po := by
  refine Ct.ofH (ws2 := xAll) (L := [some (.ref x), some (.int p0), some (.int p1), some (.ref a), none]) (by decide +kernel) rfl (List.forall_mem_cons.mpr ⟨rfl, (List.forall_mem_cons.mpr ⟨rfl, (List.forall_mem_cons.mpr ⟨rfl, (List.forall_mem_cons.mpr ⟨rfl, fun _ h => absurd h List.not_mem_nil⟩)⟩)⟩)⟩) (Nat.le_of_ble_eq_true rfl) rfl ?_
  refine r_aload_n (q := 1) dL_gas_0 rfl rfl rfl ?_
  refine r_iconst (q := 2) (v := 0) dL_gas_1 rfl rfl ?_
  refine r_aload_n (q := 3) dL_gas_2 rfl rfl rfl ?_
  refine r_iload_n (q := 4) dL_gas_3 rfl rfl rfl ?_
  refine r_iload_n (q := 5) dL_gas_4 rfl rfl rfl ?_
  refine r_callVH (q := 8) (ci := 11) (As := [_, _]) dL_gas_5 s_L_gas_69 H.1.1 rfl rfl (Nat.le_of_ble_eq_true rfl) rfl rfl rfl ⟨(Nat.le_of_ble_eq_true rfl), (Nat.le_of_ble_eq_true rfl)⟩ rfl ?_
  refine c1 _ (fun u h2 q1 q2 q3 q4 => ?_)
  have hp9 := hp u h2 q1 q2 q3 q4
  have hu : u.1 a = some (.inl (E.1.2 8, 1, .inr (.inl f0))) := (q4.2 a hax haw).trans hA
  by_cases k0 : k = 0
  · subst k0
    rw [if_pos rfl] at hp9
    show WF _ E Po _ _ _ [.int v, .int 0, .ref a] u _ _
    refine r_i2l (q := 9) dL_gas_8 rfl ?_
    refine r_lastore (q := 10) dL_gas_9 hu (show vp_in 0 1 from vp_in_nI (n := 0) (by decide) (by decide)) rfl ?_
    refine r_goto (q := 25) dL_gas_10 (by decide) ?_
    refine r_iconst (q := 26) (v := 0) dL_gas_25 rfl rfl ?_
    refine r_iret dL_gas_26 rfl (Nat.le_of_ble_eq_true rfl) (Nat.le_of_ble_eq_true rfl) ?_
    exact hp9
  by_cases k1 : k = 1
  · subst k1
    rw [if_neg (by decide)] at hp9
    show ∃ h9, xGet _ _ "java/lang/IndexOutOfBoundsException" h9 ∧ ∀ q9 : Nat, WF _ E Po _ h9 _ [.ref q9] u _ _
    refine ⟨13, ⟨[], (0, 10, 13, 21), [(0, 10, 17, 13), (0, 10, 21, 15)], rfl, fun _ h => absurd h List.not_mem_nil, ⟨by decide, by decide⟩, by decide, List.mem_cons_of_mem _ (zw11), by decide, rfl⟩, fun q9 => ?_⟩
    refine r_astore (q := 15) dL_gas_13 (Nat.le_of_ble_eq_true rfl) (xone_of rfl) rfl ?_
    refine r_iconst (q := 16) (v := 1) dL_gas_15 rfl rfl ?_
    refine r_iret dL_gas_16 rfl (Nat.le_of_ble_eq_true rfl) (Nat.le_of_ble_eq_true rfl) ?_
    exact hp9
  by_cases k2 : k = 2
  · subst k2
    rw [if_neg (by decide)] at hp9
    show ∃ h9, xGet _ _ "java/lang/IllegalArgumentException" h9 ∧ ∀ q9 : Nat, WF _ E Po _ h9 _ [.ref q9] u _ _
    refine ⟨17, ⟨[(0, 10, 13, 21)], (0, 10, 17, 13), [(0, 10, 21, 15)], rfl, List.forall_mem_cons.mpr ⟨⟨by decide, _, List.mem_cons_of_mem _ (zw11), by decide⟩, fun _ h => absurd h List.not_mem_nil⟩, ⟨by decide, by decide⟩, by decide, List.mem_cons_of_mem _ (zw5), by decide, rfl⟩, fun q9 => ?_⟩
    refine r_astore (q := 19) dL_gas_17 (Nat.le_of_ble_eq_true rfl) (xone_of rfl) rfl ?_
    refine r_iconst (q := 20) (v := 2) dL_gas_19 rfl rfl ?_
    refine r_iret dL_gas_20 rfl (Nat.le_of_ble_eq_true rfl) (Nat.le_of_ble_eq_true rfl) ?_
    exact hp9
  by_cases k3 : k = 3
  · subst k3
    rw [if_neg (by decide)] at hp9
    show ∃ h9, xGet _ _ "java/lang/UnsupportedOperationException" h9 ∧ ∀ q9 : Nat, WF _ E Po _ h9 _ [.ref q9] u _ _
    refine ⟨21, ⟨[(0, 10, 13, 21), (0, 10, 17, 13)], (0, 10, 21, 15), [], rfl, List.forall_mem_cons.mpr ⟨⟨by decide, _, List.mem_cons_of_mem _ (zw11), by decide⟩, List.forall_mem_cons.mpr ⟨⟨by decide, _, List.mem_cons_of_mem _ (zw5), by decide⟩, fun _ h => absurd h List.not_mem_nil⟩⟩, ⟨by decide, by decide⟩, by decide, List.mem_cons_of_mem _ (zw6), by decide, rfl⟩, fun q9 => ?_⟩
    refine r_astore (q := 23) dL_gas_21 (Nat.le_of_ble_eq_true rfl) (xone_of rfl) rfl ?_
    refine r_iconst (q := 24) (v := 3) dL_gas_23 rfl rfl ?_
    refine r_iret dL_gas_24 rfl (Nat.le_of_ble_eq_true rfl) (Nat.le_of_ble_eq_true rfl) ?_
    exact hp9
  omega
/-- TubHireLaw.wash(LTubHire;I[J)I -/
def M_L_wash : xM := (yL_wash, cL_wash, 4, (some FieldType.int), Cond.codeWith yL_wash cL_wash 4 (some FieldType.int) [(0, 9, 12, 13), (0, 9, 15, 15)] :: xAll, { frames := 10, cells := 1, slots := 6, locals := 202 }, (1, 6), [(0, 9, 12, 13), (0, 9, 15, 15)])
theorem s_L_wash_72 : xSv M_L_wash M_X9_wash 72 1 := fun s args hts => ⟨callB_of 1 hts (xGood zw73) rfl rfl rfl (hts _ (List.mem_cons_of_mem _ (zw1))) (hts _ (List.mem_cons_of_mem _ (zw74))) (by decide +kernel) ⟨Nat.le_of_ble_eq_true rfl, Nat.le_of_ble_eq_true rfl⟩, (hts _ (List.mem_cons_of_mem _ (zw75))), (hts _ (List.mem_cons_of_mem _ (zw76)))⟩
set_option maxRecDepth 100000 in
set_option maxHeartbeats 4000000 in
theorem ct_L_wash {E : xE} {Po : xPo} {w : xW} {x a k : Nat} {p0 : Int32} {v : Int32} {h : xHi} {Qh : xHi → Prop} {f0 : Nat → Int64} (H : HI E w x h) (hA : w.1 a = some (.inl (E.1.2 8, 1, .inr (.inl f0)))) (hax : ¬ HF x h a) (haw : a < w.2) (hk : k ≤ 2) (c1 : ∀ Po : xPo, (∀ u h2, Qh h2 → (h2.2.2.2.2.1 = h.2.2.2.2.1 ∨ w.2 ≤ h2.2.2.2.2.1) → HI E u x h2 → Fr w u x h → Po (rs ["java/lang/IllegalArgumentException", "java/lang/UnsupportedOperationException"] k v) u) → Ct M_X9_wash E (.ref x :: [.int p0]) w Po) (hp : ∀ u h2, Qh h2 → (h2.2.2.2.2.1 = h.2.2.2.2.1 ∨ w.2 ≤ h2.2.2.2.2.1) → HI E u x h2 → Fr w u x h → if k = 0 then Po (.inl (some (.int 0))) (xset u a (.inl (E.1.2 8, 1, .inr (.inl (vp_updL f0 (0 : Int32).toNatClampNeg v.toInt64))))) else Po (.inl (some (.int (nI k)))) u) : Ct M_L_wash E [.ref x, .int p0, .ref a] w Po := by
  refine Ct.ofH (ws2 := xAll) (L := [some (.ref x), some (.int p0), some (.ref a), none]) (by decide +kernel) rfl (List.forall_mem_cons.mpr ⟨rfl, (List.forall_mem_cons.mpr ⟨rfl, (List.forall_mem_cons.mpr ⟨rfl, fun _ h => absurd h List.not_mem_nil⟩)⟩)⟩) (Nat.le_of_ble_eq_true rfl) rfl ?_
  refine r_aload_n (q := 1) dL_wash_0 rfl rfl rfl ?_
  refine r_iconst (q := 2) (v := 0) dL_wash_1 rfl rfl ?_
  refine r_aload_n (q := 3) dL_wash_2 rfl rfl rfl ?_
  refine r_iload_n (q := 4) dL_wash_3 rfl rfl rfl ?_
  refine r_callVH (q := 7) (ci := 11) (As := [_]) dL_wash_4 s_L_wash_72 H.1.1 rfl rfl (Nat.le_of_ble_eq_true rfl) rfl rfl rfl ⟨(Nat.le_of_ble_eq_true rfl), (Nat.le_of_ble_eq_true rfl)⟩ rfl ?_
  refine c1 _ (fun u h2 q1 q2 q3 q4 => ?_)
  have hp9 := hp u h2 q1 q2 q3 q4
  have hu : u.1 a = some (.inl (E.1.2 8, 1, .inr (.inl f0))) := (q4.2 a hax haw).trans hA
  by_cases k0 : k = 0
  · subst k0
    rw [if_pos rfl] at hp9
    show WF _ E Po _ _ _ [.int v, .int 0, .ref a] u _ _
    refine r_i2l (q := 8) dL_wash_7 rfl ?_
    refine r_lastore (q := 9) dL_wash_8 hu (show vp_in 0 1 from vp_in_nI (n := 0) (by decide) (by decide)) rfl ?_
    refine r_goto (q := 18) dL_wash_9 (by decide) ?_
    refine r_iconst (q := 19) (v := 0) dL_wash_18 rfl rfl ?_
    refine r_iret dL_wash_19 rfl (Nat.le_of_ble_eq_true rfl) (Nat.le_of_ble_eq_true rfl) ?_
    exact hp9
  by_cases k1 : k = 1
  · subst k1
    rw [if_neg (by decide)] at hp9
    show ∃ h9, xGet _ _ "java/lang/IllegalArgumentException" h9 ∧ ∀ q9 : Nat, WF _ E Po _ h9 _ [.ref q9] u _ _
    refine ⟨12, ⟨[], (0, 9, 12, 13), [(0, 9, 15, 15)], rfl, fun _ h => absurd h List.not_mem_nil, ⟨by decide, by decide⟩, by decide, List.mem_cons_of_mem _ (zw5), by decide, rfl⟩, fun q9 => ?_⟩
    refine r_astore_n (q := 13) dL_wash_12 rfl (Nat.le_of_ble_eq_true rfl) (xone_of rfl) rfl ?_
    refine r_iconst (q := 14) (v := 1) dL_wash_13 rfl rfl ?_
    refine r_iret dL_wash_14 rfl (Nat.le_of_ble_eq_true rfl) (Nat.le_of_ble_eq_true rfl) ?_
    exact hp9
  by_cases k2 : k = 2
  · subst k2
    rw [if_neg (by decide)] at hp9
    show ∃ h9, xGet _ _ "java/lang/UnsupportedOperationException" h9 ∧ ∀ q9 : Nat, WF _ E Po _ h9 _ [.ref q9] u _ _
    refine ⟨15, ⟨[(0, 9, 12, 13)], (0, 9, 15, 15), [], rfl, List.forall_mem_cons.mpr ⟨⟨by decide, _, List.mem_cons_of_mem _ (zw5), by decide⟩, fun _ h => absurd h List.not_mem_nil⟩, ⟨by decide, by decide⟩, by decide, List.mem_cons_of_mem _ (zw6), by decide, rfl⟩, fun q9 => ?_⟩
    refine r_astore_n (q := 16) dL_wash_15 rfl (Nat.le_of_ble_eq_true rfl) (xone_of rfl) rfl ?_
    refine r_iconst (q := 17) (v := 2) dL_wash_16 rfl rfl ?_
    refine r_iret dL_wash_17 rfl (Nat.le_of_ble_eq_true rfl) (Nat.le_of_ble_eq_true rfl) ?_
    exact hp9
  omega
/-- TubHireLaw.soap(LTubHire;I[J)I -/
def M_L_soap : xM := (yL_soap, cL_soap, 4, (some FieldType.int), Cond.codeWith yL_soap cL_soap 4 (some FieldType.int) [(0, 9, 12, 13), (0, 9, 15, 15)] :: xAll, { frames := 10, cells := 1, slots := 6, locals := 202 }, (1, 6), [(0, 9, 12, 13), (0, 9, 15, 15)])
theorem s_L_soap_75 : xSv M_L_soap M_X9_soap 75 1 := fun s args hts => ⟨callB_of 1 hts (xGood zw77) rfl rfl rfl (hts _ (List.mem_cons_of_mem _ (zw1))) (hts _ (List.mem_cons_of_mem _ (zw78))) (by decide +kernel) ⟨Nat.le_of_ble_eq_true rfl, Nat.le_of_ble_eq_true rfl⟩, (hts _ (List.mem_cons_of_mem _ (zw79))), (hts _ (List.mem_cons_of_mem _ (zw80)))⟩
set_option maxRecDepth 100000 in
set_option maxHeartbeats 4000000 in
theorem ct_L_soap {E : xE} {Po : xPo} {w : xW} {x a k : Nat} {p0 : Int32} {v : Int32} {h : xHi} {Qh : xHi → Prop} {f0 : Nat → Int64} (H : HI E w x h) (hA : w.1 a = some (.inl (E.1.2 8, 1, .inr (.inl f0)))) (hax : ¬ HF x h a) (haw : a < w.2) (hk : k ≤ 2) (c1 : ∀ Po : xPo, (∀ u h2, Qh h2 → (h2.2.2.2.2.1 = h.2.2.2.2.1 ∨ w.2 ≤ h2.2.2.2.2.1) → HI E u x h2 → Fr w u x h → Po (rs ["java/lang/IllegalArgumentException", "java/lang/UnsupportedOperationException"] k v) u) → Ct M_X9_soap E (.ref x :: [.int p0]) w Po) (hp : ∀ u h2, Qh h2 → (h2.2.2.2.2.1 = h.2.2.2.2.1 ∨ w.2 ≤ h2.2.2.2.2.1) → HI E u x h2 → Fr w u x h → if k = 0 then Po (.inl (some (.int 0))) (xset u a (.inl (E.1.2 8, 1, .inr (.inl (vp_updL f0 (0 : Int32).toNatClampNeg v.toInt64))))) else Po (.inl (some (.int (nI k)))) u) : Ct M_L_soap E [.ref x, .int p0, .ref a] w Po := by
  refine Ct.ofH (ws2 := xAll) (L := [some (.ref x), some (.int p0), some (.ref a), none]) (by decide +kernel) rfl (List.forall_mem_cons.mpr ⟨rfl, (List.forall_mem_cons.mpr ⟨rfl, (List.forall_mem_cons.mpr ⟨rfl, fun _ h => absurd h List.not_mem_nil⟩)⟩)⟩) (Nat.le_of_ble_eq_true rfl) rfl ?_
  refine r_aload_n (q := 1) dL_soap_0 rfl rfl rfl ?_
  refine r_iconst (q := 2) (v := 0) dL_soap_1 rfl rfl ?_
  refine r_aload_n (q := 3) dL_soap_2 rfl rfl rfl ?_
  refine r_iload_n (q := 4) dL_soap_3 rfl rfl rfl ?_
  refine r_callVH (q := 7) (ci := 11) (As := [_]) dL_soap_4 s_L_soap_75 H.1.1 rfl rfl (Nat.le_of_ble_eq_true rfl) rfl rfl rfl ⟨(Nat.le_of_ble_eq_true rfl), (Nat.le_of_ble_eq_true rfl)⟩ rfl ?_
  refine c1 _ (fun u h2 q1 q2 q3 q4 => ?_)
  have hp9 := hp u h2 q1 q2 q3 q4
  have hu : u.1 a = some (.inl (E.1.2 8, 1, .inr (.inl f0))) := (q4.2 a hax haw).trans hA
  by_cases k0 : k = 0
  · subst k0
    rw [if_pos rfl] at hp9
    show WF _ E Po _ _ _ [.int v, .int 0, .ref a] u _ _
    refine r_i2l (q := 8) dL_soap_7 rfl ?_
    refine r_lastore (q := 9) dL_soap_8 hu (show vp_in 0 1 from vp_in_nI (n := 0) (by decide) (by decide)) rfl ?_
    refine r_goto (q := 18) dL_soap_9 (by decide) ?_
    refine r_iconst (q := 19) (v := 0) dL_soap_18 rfl rfl ?_
    refine r_iret dL_soap_19 rfl (Nat.le_of_ble_eq_true rfl) (Nat.le_of_ble_eq_true rfl) ?_
    exact hp9
  by_cases k1 : k = 1
  · subst k1
    rw [if_neg (by decide)] at hp9
    show ∃ h9, xGet _ _ "java/lang/IllegalArgumentException" h9 ∧ ∀ q9 : Nat, WF _ E Po _ h9 _ [.ref q9] u _ _
    refine ⟨12, ⟨[], (0, 9, 12, 13), [(0, 9, 15, 15)], rfl, fun _ h => absurd h List.not_mem_nil, ⟨by decide, by decide⟩, by decide, List.mem_cons_of_mem _ (zw5), by decide, rfl⟩, fun q9 => ?_⟩
    refine r_astore_n (q := 13) dL_soap_12 rfl (Nat.le_of_ble_eq_true rfl) (xone_of rfl) rfl ?_
    refine r_iconst (q := 14) (v := 1) dL_soap_13 rfl rfl ?_
    refine r_iret dL_soap_14 rfl (Nat.le_of_ble_eq_true rfl) (Nat.le_of_ble_eq_true rfl) ?_
    exact hp9
  by_cases k2 : k = 2
  · subst k2
    rw [if_neg (by decide)] at hp9
    show ∃ h9, xGet _ _ "java/lang/UnsupportedOperationException" h9 ∧ ∀ q9 : Nat, WF _ E Po _ h9 _ [.ref q9] u _ _
    refine ⟨15, ⟨[(0, 9, 12, 13)], (0, 9, 15, 15), [], rfl, List.forall_mem_cons.mpr ⟨⟨by decide, _, List.mem_cons_of_mem _ (zw5), by decide⟩, fun _ h => absurd h List.not_mem_nil⟩, ⟨by decide, by decide⟩, by decide, List.mem_cons_of_mem _ (zw6), by decide, rfl⟩, fun q9 => ?_⟩
    refine r_astore_n (q := 16) dL_soap_15 rfl (Nat.le_of_ble_eq_true rfl) (xone_of rfl) rfl ?_
    refine r_iconst (q := 17) (v := 2) dL_soap_16 rfl rfl ?_
    refine r_iret dL_soap_17 rfl (Nat.le_of_ble_eq_true rfl) (Nat.le_of_ble_eq_true rfl) ?_
    exact hp9
  omega
/-- TubHireLaw.pass(LTubHire;I[J)I -/
def M_L_pass : xM := (yL_pass, cL_pass, 4, (some FieldType.int), Cond.codeWith yL_pass cL_pass 4 (some FieldType.int) [(0, 9, 12, 13)] :: xAll, { frames := 10, cells := 1, slots := 6, locals := 202 }, (1, 6), [(0, 9, 12, 13)])
theorem s_L_pass_78 : xSv M_L_pass M_X9_pass 78 1 := fun s args hts => ⟨callB_of 1 hts (xGood zw81) rfl rfl rfl (hts _ (List.mem_cons_of_mem _ (zw1))) (hts _ (List.mem_cons_of_mem _ (zw82))) (by decide +kernel) ⟨Nat.le_of_ble_eq_true rfl, Nat.le_of_ble_eq_true rfl⟩, (hts _ (List.mem_cons_of_mem _ (zw83))), (hts _ (List.mem_cons_of_mem _ (zw84)))⟩
set_option maxRecDepth 100000 in
set_option maxHeartbeats 4000000 in
theorem ct_L_pass {E : xE} {Po : xPo} {w : xW} {x a k : Nat} {p0 : Int32} {v : Int32} {h : xHi} {Qh : xHi → Prop} {f0 : Nat → Int64} (H : HI E w x h) (hA : w.1 a = some (.inl (E.1.2 8, 1, .inr (.inl f0)))) (hax : ¬ HF x h a) (haw : a < w.2) (hk : k ≤ 1) (c1 : ∀ Po : xPo, (∀ u h2, Qh h2 → (h2.2.2.2.2.1 = h.2.2.2.2.1 ∨ w.2 ≤ h2.2.2.2.2.1) → HI E u x h2 → Fr w u x h → Po (rs ["java/lang/IllegalArgumentException"] k v) u) → Ct M_X9_pass E (.ref x :: [.int p0]) w Po) (hp : ∀ u h2, Qh h2 → (h2.2.2.2.2.1 = h.2.2.2.2.1 ∨ w.2 ≤ h2.2.2.2.2.1) → HI E u x h2 → Fr w u x h → if k = 0 then Po (.inl (some (.int 0))) (xset u a (.inl (E.1.2 8, 1, .inr (.inl (vp_updL f0 (0 : Int32).toNatClampNeg v.toInt64))))) else Po (.inl (some (.int (nI k)))) u) : Ct M_L_pass E [.ref x, .int p0, .ref a] w Po := by
  refine Ct.ofH (ws2 := xAll) (L := [some (.ref x), some (.int p0), some (.ref a), none]) (by decide +kernel) rfl (List.forall_mem_cons.mpr ⟨rfl, (List.forall_mem_cons.mpr ⟨rfl, (List.forall_mem_cons.mpr ⟨rfl, fun _ h => absurd h List.not_mem_nil⟩)⟩)⟩) (Nat.le_of_ble_eq_true rfl) rfl ?_
  refine r_aload_n (q := 1) dL_pass_0 rfl rfl rfl ?_
  refine r_iconst (q := 2) (v := 0) dL_pass_1 rfl rfl ?_
  refine r_aload_n (q := 3) dL_pass_2 rfl rfl rfl ?_
  refine r_iload_n (q := 4) dL_pass_3 rfl rfl rfl ?_
  refine r_callVH (q := 7) (ci := 11) (As := [_]) dL_pass_4 s_L_pass_78 H.1.1 rfl rfl (Nat.le_of_ble_eq_true rfl) rfl rfl rfl ⟨(Nat.le_of_ble_eq_true rfl), (Nat.le_of_ble_eq_true rfl)⟩ rfl ?_
  refine c1 _ (fun u h2 q1 q2 q3 q4 => ?_)
  have hp9 := hp u h2 q1 q2 q3 q4
  have hu : u.1 a = some (.inl (E.1.2 8, 1, .inr (.inl f0))) := (q4.2 a hax haw).trans hA
  by_cases k0 : k = 0
  · subst k0
    rw [if_pos rfl] at hp9
    show WF _ E Po _ _ _ [.int v, .int 0, .ref a] u _ _
    refine r_i2l (q := 8) dL_pass_7 rfl ?_
    refine r_lastore (q := 9) dL_pass_8 hu (show vp_in 0 1 from vp_in_nI (n := 0) (by decide) (by decide)) rfl ?_
    refine r_goto (q := 15) dL_pass_9 (by decide) ?_
    refine r_iconst (q := 16) (v := 0) dL_pass_15 rfl rfl ?_
    refine r_iret dL_pass_16 rfl (Nat.le_of_ble_eq_true rfl) (Nat.le_of_ble_eq_true rfl) ?_
    exact hp9
  by_cases k1 : k = 1
  · subst k1
    rw [if_neg (by decide)] at hp9
    show ∃ h9, xGet _ _ "java/lang/IllegalArgumentException" h9 ∧ ∀ q9 : Nat, WF _ E Po _ h9 _ [.ref q9] u _ _
    refine ⟨12, ⟨[], (0, 9, 12, 13), [], rfl, fun _ h => absurd h List.not_mem_nil, ⟨by decide, by decide⟩, by decide, List.mem_cons_of_mem _ (zw5), by decide, rfl⟩, fun q9 => ?_⟩
    refine r_astore_n (q := 13) dL_pass_12 rfl (Nat.le_of_ble_eq_true rfl) (xone_of rfl) rfl ?_
    refine r_iconst (q := 14) (v := 1) dL_pass_13 rfl rfl ?_
    refine r_iret dL_pass_14 rfl (Nat.le_of_ble_eq_true rfl) (Nat.le_of_ble_eq_true rfl) ?_
    exact hp9
  omega
/-- TubHireLaw.heatsIn(LTubHire;II[J)I -/
def M_L_heatsIn : xM := (yL_heatsIn, cL_heatsIn, 5, (some FieldType.int), Cond.codeWith yL_heatsIn cL_heatsIn 5 (some FieldType.int) [(0, 10, 13, 13)] :: xAll, { frames := 10, cells := 1, slots := 6, locals := 205 }, (1, 6), [(0, 10, 13, 13)])
theorem s_L_heatsIn_81 : xSv M_L_heatsIn M_X9_heatsIn 81 2 := fun s args hts => ⟨callB_of 2 hts (xGood zw85) rfl rfl rfl (hts _ (List.mem_cons_of_mem _ (zw1))) (hts _ (List.mem_cons_of_mem _ (zw86))) (by decide +kernel) ⟨Nat.le_of_ble_eq_true rfl, Nat.le_of_ble_eq_true rfl⟩, (hts _ (List.mem_cons_of_mem _ (zw87))), (hts _ (List.mem_cons_of_mem _ (zw88)))⟩
set_option maxRecDepth 100000 in
set_option maxHeartbeats 4000000 in
theorem ct_L_heatsIn {E : xE} {Po : xPo} {w : xW} {x a k : Nat} {p0 p1 : Int32} {v : Int32} {h : xHi} {Qh : xHi → Prop} {f0 : Nat → Int64} (H : HI E w x h) (hA : w.1 a = some (.inl (E.1.2 8, 1, .inr (.inl f0)))) (hax : ¬ HF x h a) (haw : a < w.2) (hk : k ≤ 1) (c1 : ∀ Po : xPo, (∀ u h2, Qh h2 → (h2.2.2.2.2.1 = h.2.2.2.2.1 ∨ w.2 ≤ h2.2.2.2.2.1) → HI E u x h2 → Fr w u x h → Po (rs ["java/lang/IllegalArgumentException"] k v) u) → Ct M_X9_heatsIn E (.ref x :: [.int p0, .int p1]) w Po) (hp : ∀ u h2, Qh h2 → (h2.2.2.2.2.1 = h.2.2.2.2.1 ∨ w.2 ≤ h2.2.2.2.2.1) → HI E u x h2 → Fr w u x h → if k = 0 then Po (.inl (some (.int 0))) (xset u a (.inl (E.1.2 8, 1, .inr (.inl (vp_updL f0 (0 : Int32).toNatClampNeg v.toInt64))))) else Po (.inl (some (.int (nI k)))) u) : Ct M_L_heatsIn E [.ref x, .int p0, .int p1, .ref a] w Po := by
  refine Ct.ofH (ws2 := xAll) (L := [some (.ref x), some (.int p0), some (.int p1), some (.ref a), none]) (by decide +kernel) rfl (List.forall_mem_cons.mpr ⟨rfl, (List.forall_mem_cons.mpr ⟨rfl, (List.forall_mem_cons.mpr ⟨rfl, (List.forall_mem_cons.mpr ⟨rfl, fun _ h => absurd h List.not_mem_nil⟩)⟩)⟩)⟩) (Nat.le_of_ble_eq_true rfl) rfl ?_
  refine r_aload_n (q := 1) dL_heatsIn_0 rfl rfl rfl ?_
  refine r_iconst (q := 2) (v := 0) dL_heatsIn_1 rfl rfl ?_
  refine r_aload_n (q := 3) dL_heatsIn_2 rfl rfl rfl ?_
  refine r_iload_n (q := 4) dL_heatsIn_3 rfl rfl rfl ?_
  refine r_iload_n (q := 5) dL_heatsIn_4 rfl rfl rfl ?_
  refine r_callVH (q := 8) (ci := 11) (As := [_, _]) dL_heatsIn_5 s_L_heatsIn_81 H.1.1 rfl rfl (Nat.le_of_ble_eq_true rfl) rfl rfl rfl ⟨(Nat.le_of_ble_eq_true rfl), (Nat.le_of_ble_eq_true rfl)⟩ rfl ?_
  refine c1 _ (fun u h2 q1 q2 q3 q4 => ?_)
  have hp9 := hp u h2 q1 q2 q3 q4
  have hu : u.1 a = some (.inl (E.1.2 8, 1, .inr (.inl f0))) := (q4.2 a hax haw).trans hA
  by_cases k0 : k = 0
  · subst k0
    rw [if_pos rfl] at hp9
    show WF _ E Po _ _ _ [.int v, .int 0, .ref a] u _ _
    refine r_i2l (q := 9) dL_heatsIn_8 rfl ?_
    refine r_lastore (q := 10) dL_heatsIn_9 hu (show vp_in 0 1 from vp_in_nI (n := 0) (by decide) (by decide)) rfl ?_
    refine r_goto (q := 17) dL_heatsIn_10 (by decide) ?_
    refine r_iconst (q := 18) (v := 0) dL_heatsIn_17 rfl rfl ?_
    refine r_iret dL_heatsIn_18 rfl (Nat.le_of_ble_eq_true rfl) (Nat.le_of_ble_eq_true rfl) ?_
    exact hp9
  by_cases k1 : k = 1
  · subst k1
    rw [if_neg (by decide)] at hp9
    show ∃ h9, xGet _ _ "java/lang/IllegalArgumentException" h9 ∧ ∀ q9 : Nat, WF _ E Po _ h9 _ [.ref q9] u _ _
    refine ⟨13, ⟨[], (0, 10, 13, 13), [], rfl, fun _ h => absurd h List.not_mem_nil, ⟨by decide, by decide⟩, by decide, List.mem_cons_of_mem _ (zw5), by decide, rfl⟩, fun q9 => ?_⟩
    refine r_astore (q := 15) dL_heatsIn_13 (Nat.le_of_ble_eq_true rfl) (xone_of rfl) rfl ?_
    refine r_iconst (q := 16) (v := 1) dL_heatsIn_15 rfl rfl ?_
    refine r_iret dL_heatsIn_16 rfl (Nat.le_of_ble_eq_true rfl) (Nat.le_of_ble_eq_true rfl) ?_
    exact hp9
  omega
/-- TubHireLaw.heatsAgain(LTubHire;II[J)I -/
def M_L_heatsAgain : xM := (yL_heatsAgain, cL_heatsAgain, 5, (some FieldType.int), Cond.codeWith yL_heatsAgain cL_heatsAgain 5 (some FieldType.int) [(0, 10, 13, 13)] :: xAll, { frames := 10, cells := 1, slots := 6, locals := 205 }, (1, 6), [(0, 10, 13, 13)])
theorem s_L_heatsAgain_84 : xSv M_L_heatsAgain M_X9_heatsAgain 84 2 := fun s args hts => ⟨callB_of 2 hts (xGood zw89) rfl rfl rfl (hts _ (List.mem_cons_of_mem _ (zw1))) (hts _ (List.mem_cons_of_mem _ (zw90))) (by decide +kernel) ⟨Nat.le_of_ble_eq_true rfl, Nat.le_of_ble_eq_true rfl⟩, (hts _ (List.mem_cons_of_mem _ (zw91))), (hts _ (List.mem_cons_of_mem _ (zw92)))⟩
set_option maxRecDepth 100000 in
set_option maxHeartbeats 4000000 in
theorem ct_L_heatsAgain {E : xE} {Po : xPo} {w : xW} {x a k : Nat} {p0 p1 : Int32} {v : Int32} {h : xHi} {Qh : xHi → Prop} {f0 : Nat → Int64} (H : HI E w x h) (hA : w.1 a = some (.inl (E.1.2 8, 1, .inr (.inl f0)))) (hax : ¬ HF x h a) (haw : a < w.2) (hk : k ≤ 1) (c1 : ∀ Po : xPo, (∀ u h2, Qh h2 → (h2.2.2.2.2.1 = h.2.2.2.2.1 ∨ w.2 ≤ h2.2.2.2.2.1) → HI E u x h2 → Fr w u x h → Po (rs ["java/lang/IllegalArgumentException"] k v) u) → Ct M_X9_heatsAgain E (.ref x :: [.int p0, .int p1]) w Po) (hp : ∀ u h2, Qh h2 → (h2.2.2.2.2.1 = h.2.2.2.2.1 ∨ w.2 ≤ h2.2.2.2.2.1) → HI E u x h2 → Fr w u x h → if k = 0 then Po (.inl (some (.int 0))) (xset u a (.inl (E.1.2 8, 1, .inr (.inl (vp_updL f0 (0 : Int32).toNatClampNeg v.toInt64))))) else Po (.inl (some (.int (nI k)))) u) : Ct M_L_heatsAgain E [.ref x, .int p0, .int p1, .ref a] w Po := by
  refine Ct.ofH (ws2 := xAll) (L := [some (.ref x), some (.int p0), some (.int p1), some (.ref a), none]) (by decide +kernel) rfl (List.forall_mem_cons.mpr ⟨rfl, (List.forall_mem_cons.mpr ⟨rfl, (List.forall_mem_cons.mpr ⟨rfl, (List.forall_mem_cons.mpr ⟨rfl, fun _ h => absurd h List.not_mem_nil⟩)⟩)⟩)⟩) (Nat.le_of_ble_eq_true rfl) rfl ?_
  refine r_aload_n (q := 1) dL_heatsAgain_0 rfl rfl rfl ?_
  refine r_iconst (q := 2) (v := 0) dL_heatsAgain_1 rfl rfl ?_
  refine r_aload_n (q := 3) dL_heatsAgain_2 rfl rfl rfl ?_
  refine r_iload_n (q := 4) dL_heatsAgain_3 rfl rfl rfl ?_
  refine r_iload_n (q := 5) dL_heatsAgain_4 rfl rfl rfl ?_
  refine r_callVH (q := 8) (ci := 11) (As := [_, _]) dL_heatsAgain_5 s_L_heatsAgain_84 H.1.1 rfl rfl (Nat.le_of_ble_eq_true rfl) rfl rfl rfl ⟨(Nat.le_of_ble_eq_true rfl), (Nat.le_of_ble_eq_true rfl)⟩ rfl ?_
  refine c1 _ (fun u h2 q1 q2 q3 q4 => ?_)
  have hp9 := hp u h2 q1 q2 q3 q4
  have hu : u.1 a = some (.inl (E.1.2 8, 1, .inr (.inl f0))) := (q4.2 a hax haw).trans hA
  by_cases k0 : k = 0
  · subst k0
    rw [if_pos rfl] at hp9
    show WF _ E Po _ _ _ [.int v, .int 0, .ref a] u _ _
    refine r_i2l (q := 9) dL_heatsAgain_8 rfl ?_
    refine r_lastore (q := 10) dL_heatsAgain_9 hu (show vp_in 0 1 from vp_in_nI (n := 0) (by decide) (by decide)) rfl ?_
    refine r_goto (q := 17) dL_heatsAgain_10 (by decide) ?_
    refine r_iconst (q := 18) (v := 0) dL_heatsAgain_17 rfl rfl ?_
    refine r_iret dL_heatsAgain_18 rfl (Nat.le_of_ble_eq_true rfl) (Nat.le_of_ble_eq_true rfl) ?_
    exact hp9
  by_cases k1 : k = 1
  · subst k1
    rw [if_neg (by decide)] at hp9
    show ∃ h9, xGet _ _ "java/lang/IllegalArgumentException" h9 ∧ ∀ q9 : Nat, WF _ E Po _ h9 _ [.ref q9] u _ _
    refine ⟨13, ⟨[], (0, 10, 13, 13), [], rfl, fun _ h => absurd h List.not_mem_nil, ⟨by decide, by decide⟩, by decide, List.mem_cons_of_mem _ (zw5), by decide, rfl⟩, fun q9 => ?_⟩
    refine r_astore (q := 15) dL_heatsAgain_13 (Nat.le_of_ble_eq_true rfl) (xone_of rfl) rfl ?_
    refine r_iconst (q := 16) (v := 1) dL_heatsAgain_15 rfl rfl ?_
    refine r_iret dL_heatsAgain_16 rfl (Nat.le_of_ble_eq_true rfl) (Nat.le_of_ble_eq_true rfl) ?_
    exact hp9
  omega
/-- TubHireLaw.bathesIn(LTubHire;I[J)I -/
def M_L_bathesIn : xM := (yL_bathesIn, cL_bathesIn, 4, (some FieldType.int), Cond.codeWith yL_bathesIn cL_bathesIn 4 (some FieldType.int) [(0, 9, 12, 26)] :: xAll, { frames := 10, cells := 1, slots := 6, locals := 192 }, (1, 6), [(0, 9, 12, 26)])
theorem s_L_bathesIn_87 : xSv M_L_bathesIn M_X9_bathesIn 87 1 := fun s args hts => ⟨callB_of 1 hts (xGood zw93) rfl rfl rfl (hts _ (List.mem_cons_of_mem _ (zw1))) (hts _ (List.mem_cons_of_mem _ (zw94))) (by decide +kernel) ⟨Nat.le_of_ble_eq_true rfl, Nat.le_of_ble_eq_true rfl⟩, (hts _ (List.mem_cons_of_mem _ (zw95))), (hts _ (List.mem_cons_of_mem _ (zw96)))⟩
set_option maxRecDepth 100000 in
set_option maxHeartbeats 4000000 in
theorem ct_L_bathesIn {E : xE} {Po : xPo} {w : xW} {x a k : Nat} {p0 : Int32} {v : Int32} {h : xHi} {Qh : xHi → Prop} {f0 : Nat → Int64} (H : HI E w x h) (hA : w.1 a = some (.inl (E.1.2 8, 1, .inr (.inl f0)))) (hax : ¬ HF x h a) (haw : a < w.2) (hk : k ≤ 1) (c1 : ∀ Po : xPo, (∀ u h2, Qh h2 → (h2.2.2.2.2.1 = h.2.2.2.2.1 ∨ w.2 ≤ h2.2.2.2.2.1) → HI E u x h2 → Fr w u x h → Po (rs ["java/util/NoSuchElementException"] k v) u) → Ct M_X9_bathesIn E (.ref x :: [.int p0]) w Po) (hp : ∀ u h2, Qh h2 → (h2.2.2.2.2.1 = h.2.2.2.2.1 ∨ w.2 ≤ h2.2.2.2.2.1) → HI E u x h2 → Fr w u x h → if k = 0 then Po (.inl (some (.int 0))) (xset u a (.inl (E.1.2 8, 1, .inr (.inl (vp_updL f0 (0 : Int32).toNatClampNeg v.toInt64))))) else Po (.inl (some (.int (nI k)))) u) : Ct M_L_bathesIn E [.ref x, .int p0, .ref a] w Po := by
  refine Ct.ofH (ws2 := xAll) (L := [some (.ref x), some (.int p0), some (.ref a), none]) (by decide +kernel) rfl (List.forall_mem_cons.mpr ⟨rfl, (List.forall_mem_cons.mpr ⟨rfl, (List.forall_mem_cons.mpr ⟨rfl, fun _ h => absurd h List.not_mem_nil⟩)⟩)⟩) (Nat.le_of_ble_eq_true rfl) rfl ?_
  refine r_aload_n (q := 1) dL_bathesIn_0 rfl rfl rfl ?_
  refine r_iconst (q := 2) (v := 0) dL_bathesIn_1 rfl rfl ?_
  refine r_aload_n (q := 3) dL_bathesIn_2 rfl rfl rfl ?_
  refine r_iload_n (q := 4) dL_bathesIn_3 rfl rfl rfl ?_
  refine r_callVH (q := 7) (ci := 11) (As := [_]) dL_bathesIn_4 s_L_bathesIn_87 H.1.1 rfl rfl (Nat.le_of_ble_eq_true rfl) rfl rfl rfl ⟨(Nat.le_of_ble_eq_true rfl), (Nat.le_of_ble_eq_true rfl)⟩ rfl ?_
  refine c1 _ (fun u h2 q1 q2 q3 q4 => ?_)
  have hp9 := hp u h2 q1 q2 q3 q4
  have hu : u.1 a = some (.inl (E.1.2 8, 1, .inr (.inl f0))) := (q4.2 a hax haw).trans hA
  by_cases k0 : k = 0
  · subst k0
    rw [if_pos rfl] at hp9
    show WF _ E Po _ _ _ [.int v, .int 0, .ref a] u _ _
    refine r_i2l (q := 8) dL_bathesIn_7 rfl ?_
    refine r_lastore (q := 9) dL_bathesIn_8 hu (show vp_in 0 1 from vp_in_nI (n := 0) (by decide) (by decide)) rfl ?_
    refine r_goto (q := 15) dL_bathesIn_9 (by decide) ?_
    refine r_iconst (q := 16) (v := 0) dL_bathesIn_15 rfl rfl ?_
    refine r_iret dL_bathesIn_16 rfl (Nat.le_of_ble_eq_true rfl) (Nat.le_of_ble_eq_true rfl) ?_
    exact hp9
  by_cases k1 : k = 1
  · subst k1
    rw [if_neg (by decide)] at hp9
    show ∃ h9, xGet _ _ "java/util/NoSuchElementException" h9 ∧ ∀ q9 : Nat, WF _ E Po _ h9 _ [.ref q9] u _ _
    refine ⟨12, ⟨[], (0, 9, 12, 26), [], rfl, fun _ h => absurd h List.not_mem_nil, ⟨by decide, by decide⟩, by decide, List.mem_cons_of_mem _ (zw16), by decide, rfl⟩, fun q9 => ?_⟩
    refine r_astore_n (q := 13) dL_bathesIn_12 rfl (Nat.le_of_ble_eq_true rfl) (xone_of rfl) rfl ?_
    refine r_iconst (q := 14) (v := 1) dL_bathesIn_13 rfl rfl ?_
    refine r_iret dL_bathesIn_14 rfl (Nat.le_of_ble_eq_true rfl) (Nat.le_of_ble_eq_true rfl) ?_
    exact hp9
  omega
/-- TubHireLaw.line(LTubHire;I[J)I -/
def M_L_line : xM := (yL_line, cL_line, 4, (some FieldType.int), Cond.codeWith yL_line cL_line 4 (some FieldType.int) [(0, 9, 12, 21)] :: (xPv ++ xAll), { frames := 31, cells := 40, slots := 4000, locals := 2023 }, (40, 4000), [(0, 9, 12, 21)])
theorem s_L_line_90 : xSv M_L_line M_P9_line 90 1 := fun s args hts => ⟨liftB (callB_of 1 (htsP hts) (xGood zw97) rfl rfl rfl (hts _ (mP (zw1))) (hts _ (mP (zw98))) (by decide +kernel) ⟨Nat.le_of_ble_eq_true rfl, Nat.le_of_ble_eq_true rfl⟩) (htsQ hts), (hts _ (mP (zw99))), (hts _ (mP (zw100)))⟩
set_option maxRecDepth 100000 in
set_option maxHeartbeats 4000000 in
theorem ct_L_line {E : xE} {Po : xPo} {w : xW} {x a k : Nat} {p0 : Int32} {v : Int32} {h : xHi} {Qh : xHi → Prop} {f0 : Nat → Int64} (H : HI E w x h) (hA : w.1 a = some (.inl (E.1.2 8, 1, .inr (.inl f0)))) (hax : ¬ HF x h a) (haw : a < w.2) (hk : k ≤ 1) (c1 : ∀ Po : xPo, (∀ u h2, Qh h2 → (h2.2.2.2.2.1 = h.2.2.2.2.1 ∨ w.2 ≤ h2.2.2.2.2.1) → HI E u x h2 → Fr w u x h → Po (rs ["java/lang/IndexOutOfBoundsException"] k v) u) → Ct M_P9_line E (.ref x :: [.int p0]) w Po) (hp : ∀ u h2, Qh h2 → (h2.2.2.2.2.1 = h.2.2.2.2.1 ∨ w.2 ≤ h2.2.2.2.2.1) → HI E u x h2 → Fr w u x h → if k = 0 then Po (.inl (some (.int 0))) (xset u a (.inl (E.1.2 8, 1, .inr (.inl (vp_updL f0 (0 : Int32).toNatClampNeg v.toInt64))))) else Po (.inl (some (.int (nI k)))) u) : Ct M_L_line E [.ref x, .int p0, .ref a] w Po := by
  refine Ct.ofH (ws2 := xPv ++ xAll) (L := [some (.ref x), some (.int p0), some (.ref a), none]) (by decide +kernel) rfl (List.forall_mem_cons.mpr ⟨rfl, (List.forall_mem_cons.mpr ⟨rfl, (List.forall_mem_cons.mpr ⟨rfl, fun _ h => absurd h List.not_mem_nil⟩)⟩)⟩) (Nat.le_of_ble_eq_true rfl) rfl ?_
  refine r_aload_n (q := 1) dL_line_0 rfl rfl rfl ?_
  refine r_iconst (q := 2) (v := 0) dL_line_1 rfl rfl ?_
  refine r_aload_n (q := 3) dL_line_2 rfl rfl rfl ?_
  refine r_iload_n (q := 4) dL_line_3 rfl rfl rfl ?_
  refine r_callVH (q := 7) (ci := 11) (As := [_]) dL_line_4 s_L_line_90 H.1.1 rfl rfl (Nat.le_of_ble_eq_true rfl) rfl rfl rfl ⟨(Nat.le_of_ble_eq_true rfl), (Nat.le_of_ble_eq_true rfl)⟩ rfl ?_
  refine c1 _ (fun u h2 q1 q2 q3 q4 => ?_)
  have hp9 := hp u h2 q1 q2 q3 q4
  have hu : u.1 a = some (.inl (E.1.2 8, 1, .inr (.inl f0))) := (q4.2 a hax haw).trans hA
  by_cases k0 : k = 0
  · subst k0
    rw [if_pos rfl] at hp9
    show WF _ E Po _ _ _ [.int v, .int 0, .ref a] u _ _
    refine r_i2l (q := 8) dL_line_7 rfl ?_
    refine r_lastore (q := 9) dL_line_8 hu (show vp_in 0 1 from vp_in_nI (n := 0) (by decide) (by decide)) rfl ?_
    refine r_goto (q := 15) dL_line_9 (by decide) ?_
    refine r_iconst (q := 16) (v := 0) dL_line_15 rfl rfl ?_
    refine r_iret dL_line_16 rfl (Nat.le_of_ble_eq_true rfl) (Nat.le_of_ble_eq_true rfl) ?_
    exact hp9
  by_cases k1 : k = 1
  · subst k1
    rw [if_neg (by decide)] at hp9
    show ∃ h9, xGet _ _ "java/lang/IndexOutOfBoundsException" h9 ∧ ∀ q9 : Nat, WF _ E Po _ h9 _ [.ref q9] u _ _
    refine ⟨12, ⟨[], (0, 9, 12, 21), [], rfl, fun _ h => absurd h List.not_mem_nil, ⟨by decide, by decide⟩, by decide, mP (zw11), by decide, rfl⟩, fun q9 => ?_⟩
    refine r_astore_n (q := 13) dL_line_12 rfl (Nat.le_of_ble_eq_true rfl) (xone_of rfl) rfl ?_
    refine r_iconst (q := 14) (v := 1) dL_line_13 rfl rfl ?_
    refine r_iret dL_line_14 rfl (Nat.le_of_ble_eq_true rfl) (Nat.le_of_ble_eq_true rfl) ?_
    exact hp9
  omega
/-- TubHireLaw.character(LTubHire;I[J)I -/
def M_L_character : xM := (yL_character, cL_character, 4, (some FieldType.int), Cond.codeWith yL_character cL_character 4 (some FieldType.int) [(0, 9, 12, 21)] :: xAll, { frames := 31, cells := 1, slots := 6, locals := 2021 }, (1, 6), [(0, 9, 12, 21)])
theorem s_L_character_93 : xSv M_L_character M_P9_character 93 1 := fun s args hts => ⟨callB_of 1 hts (xGood zw101) rfl rfl rfl (hts _ (List.mem_cons_of_mem _ (zw1))) (hts _ (List.mem_cons_of_mem _ (zw102))) (by decide +kernel) ⟨Nat.le_of_ble_eq_true rfl, Nat.le_of_ble_eq_true rfl⟩, (hts _ (List.mem_cons_of_mem _ (zw103))), (hts _ (List.mem_cons_of_mem _ (zw104)))⟩
set_option maxRecDepth 100000 in
set_option maxHeartbeats 4000000 in
theorem ct_L_character {E : xE} {Po : xPo} {w : xW} {x a k : Nat} {p0 : Int32} {v : Int32} {h : xHi} {Qh : xHi → Prop} {f0 : Nat → Int64} (H : HI E w x h) (hA : w.1 a = some (.inl (E.1.2 8, 1, .inr (.inl f0)))) (hax : ¬ HF x h a) (haw : a < w.2) (hk : k ≤ 1) (c1 : ∀ Po : xPo, (∀ u h2, Qh h2 → (h2.2.2.2.2.1 = h.2.2.2.2.1 ∨ w.2 ≤ h2.2.2.2.2.1) → HI E u x h2 → Fr w u x h → Po (rs ["java/lang/IndexOutOfBoundsException"] k v) u) → Ct M_P9_character E (.ref x :: [.int p0]) w Po) (hp : ∀ u h2, Qh h2 → (h2.2.2.2.2.1 = h.2.2.2.2.1 ∨ w.2 ≤ h2.2.2.2.2.1) → HI E u x h2 → Fr w u x h → if k = 0 then Po (.inl (some (.int 0))) (xset u a (.inl (E.1.2 8, 1, .inr (.inl (vp_updL f0 (0 : Int32).toNatClampNeg v.toInt64))))) else Po (.inl (some (.int (nI k)))) u) : Ct M_L_character E [.ref x, .int p0, .ref a] w Po := by
  refine Ct.ofH (ws2 := xAll) (L := [some (.ref x), some (.int p0), some (.ref a), none]) (by decide +kernel) rfl (List.forall_mem_cons.mpr ⟨rfl, (List.forall_mem_cons.mpr ⟨rfl, (List.forall_mem_cons.mpr ⟨rfl, fun _ h => absurd h List.not_mem_nil⟩)⟩)⟩) (Nat.le_of_ble_eq_true rfl) rfl ?_
  refine r_aload_n (q := 1) dL_character_0 rfl rfl rfl ?_
  refine r_iconst (q := 2) (v := 0) dL_character_1 rfl rfl ?_
  refine r_aload_n (q := 3) dL_character_2 rfl rfl rfl ?_
  refine r_iload_n (q := 4) dL_character_3 rfl rfl rfl ?_
  refine r_callVH (q := 7) (ci := 11) (As := [_]) dL_character_4 s_L_character_93 H.1.1 rfl rfl (Nat.le_of_ble_eq_true rfl) rfl rfl rfl ⟨(Nat.le_of_ble_eq_true rfl), (Nat.le_of_ble_eq_true rfl)⟩ rfl ?_
  refine c1 _ (fun u h2 q1 q2 q3 q4 => ?_)
  have hp9 := hp u h2 q1 q2 q3 q4
  have hu : u.1 a = some (.inl (E.1.2 8, 1, .inr (.inl f0))) := (q4.2 a hax haw).trans hA
  by_cases k0 : k = 0
  · subst k0
    rw [if_pos rfl] at hp9
    show WF _ E Po _ _ _ [.int v, .int 0, .ref a] u _ _
    refine r_i2l (q := 8) dL_character_7 rfl ?_
    refine r_lastore (q := 9) dL_character_8 hu (show vp_in 0 1 from vp_in_nI (n := 0) (by decide) (by decide)) rfl ?_
    refine r_goto (q := 15) dL_character_9 (by decide) ?_
    refine r_iconst (q := 16) (v := 0) dL_character_15 rfl rfl ?_
    refine r_iret dL_character_16 rfl (Nat.le_of_ble_eq_true rfl) (Nat.le_of_ble_eq_true rfl) ?_
    exact hp9
  by_cases k1 : k = 1
  · subst k1
    rw [if_neg (by decide)] at hp9
    show ∃ h9, xGet _ _ "java/lang/IndexOutOfBoundsException" h9 ∧ ∀ q9 : Nat, WF _ E Po _ h9 _ [.ref q9] u _ _
    refine ⟨12, ⟨[], (0, 9, 12, 21), [], rfl, fun _ h => absurd h List.not_mem_nil, ⟨by decide, by decide⟩, by decide, List.mem_cons_of_mem _ (zw11), by decide, rfl⟩, fun q9 => ?_⟩
    refine r_astore_n (q := 13) dL_character_12 rfl (Nat.le_of_ble_eq_true rfl) (xone_of rfl) rfl ?_
    refine r_iconst (q := 14) (v := 1) dL_character_13 rfl rfl ?_
    refine r_iret dL_character_14 rfl (Nat.le_of_ble_eq_true rfl) (Nat.le_of_ble_eq_true rfl) ?_
    exact hp9
  omega
/-- TubHireLaw.number(LTubHire;I[J)I -/
def M_L_number : xM := (yL_number, cL_number, 4, (some FieldType.int), Cond.codeWith yL_number cL_number 4 (some FieldType.int) [(0, 9, 12, 13)] :: xAll, { frames := 9, cells := 1, slots := 6, locals := 181 }, (1, 6), [(0, 9, 12, 13)])
theorem s_L_number_97 : xSv M_L_number M_X9_number 97 1 := fun s args hts => ⟨callB_of 1 hts (xGood zw105) rfl rfl rfl (hts _ (List.mem_cons_of_mem _ (zw1))) (hts _ (List.mem_cons_of_mem _ (zw106))) (by decide +kernel) ⟨Nat.le_of_ble_eq_true rfl, Nat.le_of_ble_eq_true rfl⟩, (hts _ (List.mem_cons_of_mem _ (zw107))), (hts _ (List.mem_cons_of_mem _ (zw108)))⟩
set_option maxRecDepth 100000 in
set_option maxHeartbeats 4000000 in
theorem ct_L_number {E : xE} {Po : xPo} {w : xW} {x a k : Nat} {p0 : Int32} {v : Int32} {h : xHi} {Qh : xHi → Prop} {f0 : Nat → Int64} (H : HI E w x h) (hA : w.1 a = some (.inl (E.1.2 8, 1, .inr (.inl f0)))) (hax : ¬ HF x h a) (haw : a < w.2) (hk : k ≤ 1) (c1 : ∀ Po : xPo, (∀ u h2, Qh h2 → (h2.2.2.2.2.1 = h.2.2.2.2.1 ∨ w.2 ≤ h2.2.2.2.2.1) → HI E u x h2 → Fr w u x h → Po (rs ["java/lang/IllegalArgumentException"] k v) u) → Ct M_X9_number E (.ref x :: [.int p0]) w Po) (hp : ∀ u h2, Qh h2 → (h2.2.2.2.2.1 = h.2.2.2.2.1 ∨ w.2 ≤ h2.2.2.2.2.1) → HI E u x h2 → Fr w u x h → if k = 0 then Po (.inl (some (.int 0))) (xset u a (.inl (E.1.2 8, 1, .inr (.inl (vp_updL f0 (0 : Int32).toNatClampNeg v.toInt64))))) else Po (.inl (some (.int (nI k)))) u) : Ct M_L_number E [.ref x, .int p0, .ref a] w Po := by
  refine Ct.ofH (ws2 := xAll) (L := [some (.ref x), some (.int p0), some (.ref a), none]) (by decide +kernel) rfl (List.forall_mem_cons.mpr ⟨rfl, (List.forall_mem_cons.mpr ⟨rfl, (List.forall_mem_cons.mpr ⟨rfl, fun _ h => absurd h List.not_mem_nil⟩)⟩)⟩) (Nat.le_of_ble_eq_true rfl) rfl ?_
  refine r_aload_n (q := 1) dL_number_0 rfl rfl rfl ?_
  refine r_iconst (q := 2) (v := 0) dL_number_1 rfl rfl ?_
  refine r_aload_n (q := 3) dL_number_2 rfl rfl rfl ?_
  refine r_iload_n (q := 4) dL_number_3 rfl rfl rfl ?_
  refine r_callVH (q := 7) (ci := 11) (As := [_]) dL_number_4 s_L_number_97 H.1.1 rfl rfl (Nat.le_of_ble_eq_true rfl) rfl rfl rfl ⟨(Nat.le_of_ble_eq_true rfl), (Nat.le_of_ble_eq_true rfl)⟩ rfl ?_
  refine c1 _ (fun u h2 q1 q2 q3 q4 => ?_)
  have hp9 := hp u h2 q1 q2 q3 q4
  have hu : u.1 a = some (.inl (E.1.2 8, 1, .inr (.inl f0))) := (q4.2 a hax haw).trans hA
  by_cases k0 : k = 0
  · subst k0
    rw [if_pos rfl] at hp9
    show WF _ E Po _ _ _ [.int v, .int 0, .ref a] u _ _
    refine r_i2l (q := 8) dL_number_7 rfl ?_
    refine r_lastore (q := 9) dL_number_8 hu (show vp_in 0 1 from vp_in_nI (n := 0) (by decide) (by decide)) rfl ?_
    refine r_goto (q := 15) dL_number_9 (by decide) ?_
    refine r_iconst (q := 16) (v := 0) dL_number_15 rfl rfl ?_
    refine r_iret dL_number_16 rfl (Nat.le_of_ble_eq_true rfl) (Nat.le_of_ble_eq_true rfl) ?_
    exact hp9
  by_cases k1 : k = 1
  · subst k1
    rw [if_neg (by decide)] at hp9
    show ∃ h9, xGet _ _ "java/lang/IllegalArgumentException" h9 ∧ ∀ q9 : Nat, WF _ E Po _ h9 _ [.ref q9] u _ _
    refine ⟨12, ⟨[], (0, 9, 12, 13), [], rfl, fun _ h => absurd h List.not_mem_nil, ⟨by decide, by decide⟩, by decide, List.mem_cons_of_mem _ (zw5), by decide, rfl⟩, fun q9 => ?_⟩
    refine r_astore_n (q := 13) dL_number_12 rfl (Nat.le_of_ble_eq_true rfl) (xone_of rfl) rfl ?_
    refine r_iconst (q := 14) (v := 1) dL_number_13 rfl rfl ?_
    refine r_iret dL_number_14 rfl (Nat.le_of_ble_eq_true rfl) (Nat.le_of_ble_eq_true rfl) ?_
    exact hp9
  omega
/-- TubHireLaw.meanWarmth(LTubHire;[D)I -/
def M_L_meanWarmth : xM := (yL_meanWarmth, cL_meanWarmth, 3, (some FieldType.int), Cond.codeWith yL_meanWarmth cL_meanWarmth 3 (some FieldType.int) [(0, 7, 10, 104)] :: xAll, { frames := 9, cells := 1, slots := 6, locals := 184 }, (1, 6), [(0, 7, 10, 104)])
theorem s_L_meanWarmth_100 : xSv M_L_meanWarmth M_X9_meanWarmth 100 0 := fun s args hts => ⟨callB_of 0 hts (xGood zw109) rfl rfl rfl (hts _ (List.mem_cons_of_mem _ (zw1))) (hts _ (List.mem_cons_of_mem _ (zw110))) (by decide +kernel) ⟨Nat.le_of_ble_eq_true rfl, Nat.le_of_ble_eq_true rfl⟩, (hts _ (List.mem_cons_of_mem _ (zw111))), (hts _ (List.mem_cons_of_mem _ (zw112)))⟩
set_option maxRecDepth 100000 in
set_option maxHeartbeats 4000000 in
theorem ct_L_meanWarmth {E : xE} {Po : xPo} {w : xW} {x a k : Nat} {v : UInt64} {h : xHi} {Qh : xHi → Prop} {f0 : Nat → UInt64} (H : HI E w x h) (hA : w.1 a = some (.inl (E.1.2 9, 1, .inr (.inr (.inr (.inl f0)))))) (hax : ¬ HF x h a) (haw : a < w.2) (hk : k ≤ 1) (c1 : ∀ Po : xPo, (∀ u h2, Qh h2 → (h2.2.2.2.2.1 = h.2.2.2.2.1 ∨ w.2 ≤ h2.2.2.2.2.1) → HI E u x h2 → Fr w u x h → Po (rsD ["java/lang/ArithmeticException"] k v) u) → Ct M_X9_meanWarmth E (.ref x :: []) w Po) (hp : ∀ u h2, Qh h2 → (h2.2.2.2.2.1 = h.2.2.2.2.1 ∨ w.2 ≤ h2.2.2.2.2.1) → HI E u x h2 → Fr w u x h → if k = 0 then Po (.inl (some (.int 0))) (xset u a (.inl (E.1.2 9, 1, .inr (.inr (.inr (.inl (vf_upd f0 (0 : Int32).toNatClampNeg v))))))) else Po (.inl (some (.int (nI k)))) u) : Ct M_L_meanWarmth E [.ref x, .ref a] w Po := by
  refine Ct.ofH (ws2 := xAll) (L := [some (.ref x), some (.ref a), none]) (by decide +kernel) rfl (List.forall_mem_cons.mpr ⟨rfl, (List.forall_mem_cons.mpr ⟨rfl, fun _ h => absurd h List.not_mem_nil⟩)⟩) (Nat.le_of_ble_eq_true rfl) rfl ?_
  refine r_aload_n (q := 1) dL_meanWarmth_0 rfl rfl rfl ?_
  refine r_iconst (q := 2) (v := 0) dL_meanWarmth_1 rfl rfl ?_
  refine r_aload_n (q := 3) dL_meanWarmth_2 rfl rfl rfl ?_
  refine r_callVH (q := 6) (ci := 11) (As := []) dL_meanWarmth_3 s_L_meanWarmth_100 H.1.1 rfl rfl (Nat.le_of_ble_eq_true rfl) rfl rfl rfl ⟨(Nat.le_of_ble_eq_true rfl), (Nat.le_of_ble_eq_true rfl)⟩ rfl ?_
  refine c1 _ (fun u h2 q1 q2 q3 q4 => ?_)
  have hp9 := hp u h2 q1 q2 q3 q4
  have hu : u.1 a = some (.inl (E.1.2 9, 1, .inr (.inr (.inr (.inl f0))))) := (q4.2 a hax haw).trans hA
  by_cases k0 : k = 0
  · subst k0
    rw [if_pos rfl] at hp9
    show WF _ E Po _ _ _ [.double v, .int 0, .ref a] u _ _
    refine r_dastore (q := 7) dL_meanWarmth_6 hu (show vp_in 0 1 from vp_in_nI (n := 0) (by decide) (by decide)) rfl ?_
    refine r_goto (q := 13) dL_meanWarmth_7 (by decide) ?_
    refine r_iconst (q := 14) (v := 0) dL_meanWarmth_13 rfl rfl ?_
    refine r_iret dL_meanWarmth_14 rfl (Nat.le_of_ble_eq_true rfl) (Nat.le_of_ble_eq_true rfl) ?_
    exact hp9
  by_cases k1 : k = 1
  · subst k1
    rw [if_neg (by decide)] at hp9
    show ∃ h9, xGet _ _ "java/lang/ArithmeticException" h9 ∧ ∀ q9 : Nat, WF _ E Po _ h9 _ [.ref q9] u _ _
    refine ⟨10, ⟨[], (0, 7, 10, 104), [], rfl, fun _ h => absurd h List.not_mem_nil, ⟨by decide, by decide⟩, by decide, List.mem_cons_of_mem _ (zw113), by decide, rfl⟩, fun q9 => ?_⟩
    refine r_astore_n (q := 11) dL_meanWarmth_10 rfl (Nat.le_of_ble_eq_true rfl) (xone_of rfl) rfl ?_
    refine r_iconst (q := 12) (v := 1) dL_meanWarmth_11 rfl rfl ?_
    refine r_iret dL_meanWarmth_12 rfl (Nat.le_of_ble_eq_true rfl) (Nat.le_of_ble_eq_true rfl) ?_
    exact hp9
  omega
/-- TubHireLaw.bathedShare(LTubHire;[D)I -/
def M_L_bathedShare : xM := (yL_bathedShare, cL_bathedShare, 3, (some FieldType.int), Cond.codeWith yL_bathedShare cL_bathedShare 3 (some FieldType.int) [(0, 8, 11, 104)] :: xAll, { frames := 9, cells := 1, slots := 6, locals := 180 }, (1, 6), [(0, 8, 11, 104)])
theorem s_L_bathedShare_106 : xSv M_L_bathedShare M_X9_bathedShare 106 0 := fun s args hts => ⟨callB_of 0 hts (xGood zw114) rfl rfl rfl (hts _ (List.mem_cons_of_mem _ (zw1))) (hts _ (List.mem_cons_of_mem _ (zw115))) (by decide +kernel) ⟨Nat.le_of_ble_eq_true rfl, Nat.le_of_ble_eq_true rfl⟩, (hts _ (List.mem_cons_of_mem _ (zw116))), (hts _ (List.mem_cons_of_mem _ (zw117)))⟩
set_option maxRecDepth 100000 in
set_option maxHeartbeats 4000000 in
theorem ct_L_bathedShare {E : xE} {Po : xPo} {w : xW} {x a k : Nat} {v : UInt32} {h : xHi} {Qh : xHi → Prop} {f0 : Nat → UInt64} (H : HI E w x h) (hA : w.1 a = some (.inl (E.1.2 9, 1, .inr (.inr (.inr (.inl f0)))))) (hax : ¬ HF x h a) (haw : a < w.2) (hk : k ≤ 1) (hne : k = 0 → vf_n64 (FP.f2d v)) (c1 : ∀ Po : xPo, (∀ u h2, Qh h2 → (h2.2.2.2.2.1 = h.2.2.2.2.1 ∨ w.2 ≤ h2.2.2.2.2.1) → HI E u x h2 → Fr w u x h → Po (rsF ["java/lang/ArithmeticException"] k v) u) → Ct M_X9_bathedShare E (.ref x :: []) w Po) (hp : ∀ u h2, Qh h2 → (h2.2.2.2.2.1 = h.2.2.2.2.1 ∨ w.2 ≤ h2.2.2.2.2.1) → HI E u x h2 → Fr w u x h → if k = 0 then Po (.inl (some (.int 0))) (xset u a (.inl (E.1.2 9, 1, .inr (.inr (.inr (.inl (vf_upd f0 (0 : Int32).toNatClampNeg (FP.f2d v)))))))) else Po (.inl (some (.int (nI k)))) u) : Ct M_L_bathedShare E [.ref x, .ref a] w Po := by
  refine Ct.ofH (ws2 := xAll) (L := [some (.ref x), some (.ref a), none]) (by decide +kernel) rfl (List.forall_mem_cons.mpr ⟨rfl, (List.forall_mem_cons.mpr ⟨rfl, fun _ h => absurd h List.not_mem_nil⟩)⟩) (Nat.le_of_ble_eq_true rfl) rfl ?_
  refine r_aload_n (q := 1) dL_bathedShare_0 rfl rfl rfl ?_
  refine r_iconst (q := 2) (v := 0) dL_bathedShare_1 rfl rfl ?_
  refine r_aload_n (q := 3) dL_bathedShare_2 rfl rfl rfl ?_
  refine r_callVH (q := 6) (ci := 11) (As := []) dL_bathedShare_3 s_L_bathedShare_106 H.1.1 rfl rfl (Nat.le_of_ble_eq_true rfl) rfl rfl rfl ⟨(Nat.le_of_ble_eq_true rfl), (Nat.le_of_ble_eq_true rfl)⟩ rfl ?_
  refine c1 _ (fun u h2 q1 q2 q3 q4 => ?_)
  have hp9 := hp u h2 q1 q2 q3 q4
  have hu : u.1 a = some (.inl (E.1.2 9, 1, .inr (.inr (.inr (.inl f0))))) := (q4.2 a hax haw).trans hA
  by_cases k0 : k = 0
  · subst k0
    rw [if_pos rfl] at hp9
    show WF _ E Po _ _ _ [.float v, .int 0, .ref a] u _ _
    refine r_f2d (q := 7) dL_bathedShare_6 (hne rfl) rfl ?_
    refine r_dastore (q := 8) dL_bathedShare_7 hu (show vp_in 0 1 from vp_in_nI (n := 0) (by decide) (by decide)) rfl ?_
    refine r_goto (q := 14) dL_bathedShare_8 (by decide) ?_
    refine r_iconst (q := 15) (v := 0) dL_bathedShare_14 rfl rfl ?_
    refine r_iret dL_bathedShare_15 rfl (Nat.le_of_ble_eq_true rfl) (Nat.le_of_ble_eq_true rfl) ?_
    exact hp9
  by_cases k1 : k = 1
  · subst k1
    rw [if_neg (by decide)] at hp9
    show ∃ h9, xGet _ _ "java/lang/ArithmeticException" h9 ∧ ∀ q9 : Nat, WF _ E Po _ h9 _ [.ref q9] u _ _
    refine ⟨11, ⟨[], (0, 8, 11, 104), [], rfl, fun _ h => absurd h List.not_mem_nil, ⟨by decide, by decide⟩, by decide, List.mem_cons_of_mem _ (zw113), by decide, rfl⟩, fun q9 => ?_⟩
    refine r_astore_n (q := 12) dL_bathedShare_11 rfl (Nat.le_of_ble_eq_true rfl) (xone_of rfl) rfl ?_
    refine r_iconst (q := 13) (v := 1) dL_bathedShare_12 rfl rfl ?_
    refine r_iret dL_bathedShare_13 rfl (Nat.le_of_ble_eq_true rfl) (Nat.le_of_ble_eq_true rfl) ?_
    exact hp9
  omega
/-- TubHireLaw.feed(LTubHire;C[J)I -/
def M_L_feed : xM := (yL_feed, cL_feed, 4, (some FieldType.int), Cond.codeWith yL_feed cL_feed 4 (some FieldType.int) [(0, 9, 12, 114)] :: xAll, { frames := 9, cells := 1, slots := 6, locals := 181 }, (1, 6), [(0, 9, 12, 114)])
theorem s_L_feed_110 : xSv M_L_feed M_X9_feed 110 1 := fun s args hts => ⟨callB_of 1 hts (xGood zw118) rfl rfl rfl (hts _ (List.mem_cons_of_mem _ (zw1))) (hts _ (List.mem_cons_of_mem _ (zw119))) (by decide +kernel) ⟨Nat.le_of_ble_eq_true rfl, Nat.le_of_ble_eq_true rfl⟩, (hts _ (List.mem_cons_of_mem _ (zw120))), (hts _ (List.mem_cons_of_mem _ (zw121)))⟩
set_option maxRecDepth 100000 in
set_option maxHeartbeats 4000000 in
theorem ct_L_feed {E : xE} {Po : xPo} {w : xW} {x a k : Nat} {p0 : Int32} {v : Int32} {h : xHi} {Qh : xHi → Prop} {f0 : Nat → Int64} (H : HI E w x h) (hA : w.1 a = some (.inl (E.1.2 8, 1, .inr (.inl f0)))) (hax : ¬ HF x h a) (haw : a < w.2) (hk : k ≤ 1) (c1 : ∀ Po : xPo, (∀ u h2, Qh h2 → (h2.2.2.2.2.1 = h.2.2.2.2.1 ∨ w.2 ≤ h2.2.2.2.2.1) → HI E u x h2 → Fr w u x h → Po (rs ["java/lang/IllegalStateException"] k v) u) → Ct M_X9_feed E (.ref x :: [.int p0]) w Po) (hp : ∀ u h2, Qh h2 → (h2.2.2.2.2.1 = h.2.2.2.2.1 ∨ w.2 ≤ h2.2.2.2.2.1) → HI E u x h2 → Fr w u x h → if k = 0 then Po (.inl (some (.int 0))) (xset u a (.inl (E.1.2 8, 1, .inr (.inl (vp_updL f0 (0 : Int32).toNatClampNeg v.toInt64))))) else Po (.inl (some (.int (nI k)))) u) : Ct M_L_feed E [.ref x, .int p0, .ref a] w Po := by
  refine Ct.ofH (ws2 := xAll) (L := [some (.ref x), some (.int p0), some (.ref a), none]) (by decide +kernel) rfl (List.forall_mem_cons.mpr ⟨rfl, (List.forall_mem_cons.mpr ⟨rfl, (List.forall_mem_cons.mpr ⟨rfl, fun _ h => absurd h List.not_mem_nil⟩)⟩)⟩) (Nat.le_of_ble_eq_true rfl) rfl ?_
  refine r_aload_n (q := 1) dL_feed_0 rfl rfl rfl ?_
  refine r_iconst (q := 2) (v := 0) dL_feed_1 rfl rfl ?_
  refine r_aload_n (q := 3) dL_feed_2 rfl rfl rfl ?_
  refine r_iload_n (q := 4) dL_feed_3 rfl rfl rfl ?_
  refine r_callVH (q := 7) (ci := 11) (As := [_]) dL_feed_4 s_L_feed_110 H.1.1 rfl rfl (Nat.le_of_ble_eq_true rfl) rfl rfl rfl ⟨(Nat.le_of_ble_eq_true rfl), (Nat.le_of_ble_eq_true rfl)⟩ rfl ?_
  refine c1 _ (fun u h2 q1 q2 q3 q4 => ?_)
  have hp9 := hp u h2 q1 q2 q3 q4
  have hu : u.1 a = some (.inl (E.1.2 8, 1, .inr (.inl f0))) := (q4.2 a hax haw).trans hA
  by_cases k0 : k = 0
  · subst k0
    rw [if_pos rfl] at hp9
    show WF _ E Po _ _ _ [.int v, .int 0, .ref a] u _ _
    refine r_i2l (q := 8) dL_feed_7 rfl ?_
    refine r_lastore (q := 9) dL_feed_8 hu (show vp_in 0 1 from vp_in_nI (n := 0) (by decide) (by decide)) rfl ?_
    refine r_goto (q := 15) dL_feed_9 (by decide) ?_
    refine r_iconst (q := 16) (v := 0) dL_feed_15 rfl rfl ?_
    refine r_iret dL_feed_16 rfl (Nat.le_of_ble_eq_true rfl) (Nat.le_of_ble_eq_true rfl) ?_
    exact hp9
  by_cases k1 : k = 1
  · subst k1
    rw [if_neg (by decide)] at hp9
    show ∃ h9, xGet _ _ "java/lang/IllegalStateException" h9 ∧ ∀ q9 : Nat, WF _ E Po _ h9 _ [.ref q9] u _ _
    refine ⟨12, ⟨[], (0, 9, 12, 114), [], rfl, fun _ h => absurd h List.not_mem_nil, ⟨by decide, by decide⟩, by decide, List.mem_cons_of_mem _ (zw122), by decide, rfl⟩, fun q9 => ?_⟩
    refine r_astore_n (q := 13) dL_feed_12 rfl (Nat.le_of_ble_eq_true rfl) (xone_of rfl) rfl ?_
    refine r_iconst (q := 14) (v := 1) dL_feed_13 rfl rfl ?_
    refine r_iret dL_feed_14 rfl (Nat.le_of_ble_eq_true rfl) (Nat.le_of_ble_eq_true rfl) ?_
    exact hp9
  omega
/-- TubHireLaw.read(LTubHire;[J)I -/
def M_L_read : xM := (yL_read, cL_read, 3, (some FieldType.int), Cond.codeWith yL_read cL_read 3 (some FieldType.int) [(0, 8, 11, 13), (0, 8, 14, 15)] :: xAll, { frames := 11, cells := 1, slots := 6, locals := 221 }, (1, 6), [(0, 8, 11, 13), (0, 8, 14, 15)])
theorem s_L_read_116 : xSv M_L_read M_X9_read 116 0 := fun s args hts => ⟨callB_of 0 hts (xGood zw123) rfl rfl rfl (hts _ (List.mem_cons_of_mem _ (zw1))) (hts _ (List.mem_cons_of_mem _ (zw124))) (by decide +kernel) ⟨Nat.le_of_ble_eq_true rfl, Nat.le_of_ble_eq_true rfl⟩, (hts _ (List.mem_cons_of_mem _ (zw125))), (hts _ (List.mem_cons_of_mem _ (zw126)))⟩
set_option maxRecDepth 100000 in
set_option maxHeartbeats 4000000 in
theorem ct_L_read {E : xE} {Po : xPo} {w : xW} {x a k : Nat} {v : Int32} {h : xHi} {Qh : xHi → Prop} {f0 : Nat → Int64} (H : HI E w x h) (hA : w.1 a = some (.inl (E.1.2 8, 1, .inr (.inl f0)))) (hax : ¬ HF x h a) (haw : a < w.2) (hk : k ≤ 2) (c1 : ∀ Po : xPo, (∀ u h2, Qh h2 → (h2.2.2.2.2.1 = h.2.2.2.2.1 ∨ w.2 ≤ h2.2.2.2.2.1) → HI E u x h2 → Fr w u x h → Po (rs ["java/lang/IllegalArgumentException", "java/lang/UnsupportedOperationException"] k v) u) → Ct M_X9_read E (.ref x :: []) w Po) (hp : ∀ u h2, Qh h2 → (h2.2.2.2.2.1 = h.2.2.2.2.1 ∨ w.2 ≤ h2.2.2.2.2.1) → HI E u x h2 → Fr w u x h → if k = 0 then Po (.inl (some (.int 0))) (xset u a (.inl (E.1.2 8, 1, .inr (.inl (vp_updL f0 (0 : Int32).toNatClampNeg v.toInt64))))) else Po (.inl (some (.int (nI k)))) u) : Ct M_L_read E [.ref x, .ref a] w Po := by
  refine Ct.ofH (ws2 := xAll) (L := [some (.ref x), some (.ref a), none]) (by decide +kernel) rfl (List.forall_mem_cons.mpr ⟨rfl, (List.forall_mem_cons.mpr ⟨rfl, fun _ h => absurd h List.not_mem_nil⟩)⟩) (Nat.le_of_ble_eq_true rfl) rfl ?_
  refine r_aload_n (q := 1) dL_read_0 rfl rfl rfl ?_
  refine r_iconst (q := 2) (v := 0) dL_read_1 rfl rfl ?_
  refine r_aload_n (q := 3) dL_read_2 rfl rfl rfl ?_
  refine r_callVH (q := 6) (ci := 11) (As := []) dL_read_3 s_L_read_116 H.1.1 rfl rfl (Nat.le_of_ble_eq_true rfl) rfl rfl rfl ⟨(Nat.le_of_ble_eq_true rfl), (Nat.le_of_ble_eq_true rfl)⟩ rfl ?_
  refine c1 _ (fun u h2 q1 q2 q3 q4 => ?_)
  have hp9 := hp u h2 q1 q2 q3 q4
  have hu : u.1 a = some (.inl (E.1.2 8, 1, .inr (.inl f0))) := (q4.2 a hax haw).trans hA
  by_cases k0 : k = 0
  · subst k0
    rw [if_pos rfl] at hp9
    show WF _ E Po _ _ _ [.int v, .int 0, .ref a] u _ _
    refine r_i2l (q := 7) dL_read_6 rfl ?_
    refine r_lastore (q := 8) dL_read_7 hu (show vp_in 0 1 from vp_in_nI (n := 0) (by decide) (by decide)) rfl ?_
    refine r_goto (q := 17) dL_read_8 (by decide) ?_
    refine r_iconst (q := 18) (v := 0) dL_read_17 rfl rfl ?_
    refine r_iret dL_read_18 rfl (Nat.le_of_ble_eq_true rfl) (Nat.le_of_ble_eq_true rfl) ?_
    exact hp9
  by_cases k1 : k = 1
  · subst k1
    rw [if_neg (by decide)] at hp9
    show ∃ h9, xGet _ _ "java/lang/IllegalArgumentException" h9 ∧ ∀ q9 : Nat, WF _ E Po _ h9 _ [.ref q9] u _ _
    refine ⟨11, ⟨[], (0, 8, 11, 13), [(0, 8, 14, 15)], rfl, fun _ h => absurd h List.not_mem_nil, ⟨by decide, by decide⟩, by decide, List.mem_cons_of_mem _ (zw5), by decide, rfl⟩, fun q9 => ?_⟩
    refine r_astore_n (q := 12) dL_read_11 rfl (Nat.le_of_ble_eq_true rfl) (xone_of rfl) rfl ?_
    refine r_iconst (q := 13) (v := 1) dL_read_12 rfl rfl ?_
    refine r_iret dL_read_13 rfl (Nat.le_of_ble_eq_true rfl) (Nat.le_of_ble_eq_true rfl) ?_
    exact hp9
  by_cases k2 : k = 2
  · subst k2
    rw [if_neg (by decide)] at hp9
    show ∃ h9, xGet _ _ "java/lang/UnsupportedOperationException" h9 ∧ ∀ q9 : Nat, WF _ E Po _ h9 _ [.ref q9] u _ _
    refine ⟨14, ⟨[(0, 8, 11, 13)], (0, 8, 14, 15), [], rfl, List.forall_mem_cons.mpr ⟨⟨by decide, _, List.mem_cons_of_mem _ (zw5), by decide⟩, fun _ h => absurd h List.not_mem_nil⟩, ⟨by decide, by decide⟩, by decide, List.mem_cons_of_mem _ (zw6), by decide, rfl⟩, fun q9 => ?_⟩
    refine r_astore_n (q := 15) dL_read_14 rfl (Nat.le_of_ble_eq_true rfl) (xone_of rfl) rfl ?_
    refine r_iconst (q := 16) (v := 2) dL_read_15 rfl rfl ?_
    refine r_iret dL_read_16 rfl (Nat.le_of_ble_eq_true rfl) (Nat.le_of_ble_eq_true rfl) ?_
    exact hp9
  omega
/-- TubHireLaw.faultPosition(LTubHire;[J)I -/
def M_L_faultPosition : xM := (yL_faultPosition, cL_faultPosition, 3, (some FieldType.int), Cond.codeWith yL_faultPosition cL_faultPosition 3 (some FieldType.int) [(0, 8, 11, 26)] :: xAll, { frames := 9, cells := 1, slots := 6, locals := 180 }, (1, 6), [(0, 8, 11, 26)])
theorem s_L_faultPosition_119 : xSv M_L_faultPosition M_X9_faultPosition 119 0 := fun s args hts => ⟨callB_of 0 hts (xGood zw127) rfl rfl rfl (hts _ (List.mem_cons_of_mem _ (zw1))) (hts _ (List.mem_cons_of_mem _ (zw128))) (by decide +kernel) ⟨Nat.le_of_ble_eq_true rfl, Nat.le_of_ble_eq_true rfl⟩, (hts _ (List.mem_cons_of_mem _ (zw129))), (hts _ (List.mem_cons_of_mem _ (zw130)))⟩
set_option maxRecDepth 100000 in
set_option maxHeartbeats 4000000 in
theorem ct_L_faultPosition {E : xE} {Po : xPo} {w : xW} {x a k : Nat} {v : Int32} {h : xHi} {Qh : xHi → Prop} {f0 : Nat → Int64} (H : HI E w x h) (hA : w.1 a = some (.inl (E.1.2 8, 1, .inr (.inl f0)))) (hax : ¬ HF x h a) (haw : a < w.2) (hk : k ≤ 1) (c1 : ∀ Po : xPo, (∀ u h2, Qh h2 → (h2.2.2.2.2.1 = h.2.2.2.2.1 ∨ w.2 ≤ h2.2.2.2.2.1) → HI E u x h2 → Fr w u x h → Po (rs ["java/util/NoSuchElementException"] k v) u) → Ct M_X9_faultPosition E (.ref x :: []) w Po) (hp : ∀ u h2, Qh h2 → (h2.2.2.2.2.1 = h.2.2.2.2.1 ∨ w.2 ≤ h2.2.2.2.2.1) → HI E u x h2 → Fr w u x h → if k = 0 then Po (.inl (some (.int 0))) (xset u a (.inl (E.1.2 8, 1, .inr (.inl (vp_updL f0 (0 : Int32).toNatClampNeg v.toInt64))))) else Po (.inl (some (.int (nI k)))) u) : Ct M_L_faultPosition E [.ref x, .ref a] w Po := by
  refine Ct.ofH (ws2 := xAll) (L := [some (.ref x), some (.ref a), none]) (by decide +kernel) rfl (List.forall_mem_cons.mpr ⟨rfl, (List.forall_mem_cons.mpr ⟨rfl, fun _ h => absurd h List.not_mem_nil⟩)⟩) (Nat.le_of_ble_eq_true rfl) rfl ?_
  refine r_aload_n (q := 1) dL_faultPosition_0 rfl rfl rfl ?_
  refine r_iconst (q := 2) (v := 0) dL_faultPosition_1 rfl rfl ?_
  refine r_aload_n (q := 3) dL_faultPosition_2 rfl rfl rfl ?_
  refine r_callVH (q := 6) (ci := 11) (As := []) dL_faultPosition_3 s_L_faultPosition_119 H.1.1 rfl rfl (Nat.le_of_ble_eq_true rfl) rfl rfl rfl ⟨(Nat.le_of_ble_eq_true rfl), (Nat.le_of_ble_eq_true rfl)⟩ rfl ?_
  refine c1 _ (fun u h2 q1 q2 q3 q4 => ?_)
  have hp9 := hp u h2 q1 q2 q3 q4
  have hu : u.1 a = some (.inl (E.1.2 8, 1, .inr (.inl f0))) := (q4.2 a hax haw).trans hA
  by_cases k0 : k = 0
  · subst k0
    rw [if_pos rfl] at hp9
    show WF _ E Po _ _ _ [.int v, .int 0, .ref a] u _ _
    refine r_i2l (q := 7) dL_faultPosition_6 rfl ?_
    refine r_lastore (q := 8) dL_faultPosition_7 hu (show vp_in 0 1 from vp_in_nI (n := 0) (by decide) (by decide)) rfl ?_
    refine r_goto (q := 14) dL_faultPosition_8 (by decide) ?_
    refine r_iconst (q := 15) (v := 0) dL_faultPosition_14 rfl rfl ?_
    refine r_iret dL_faultPosition_15 rfl (Nat.le_of_ble_eq_true rfl) (Nat.le_of_ble_eq_true rfl) ?_
    exact hp9
  by_cases k1 : k = 1
  · subst k1
    rw [if_neg (by decide)] at hp9
    show ∃ h9, xGet _ _ "java/util/NoSuchElementException" h9 ∧ ∀ q9 : Nat, WF _ E Po _ h9 _ [.ref q9] u _ _
    refine ⟨11, ⟨[], (0, 8, 11, 26), [], rfl, fun _ h => absurd h List.not_mem_nil, ⟨by decide, by decide⟩, by decide, List.mem_cons_of_mem _ (zw16), by decide, rfl⟩, fun q9 => ?_⟩
    refine r_astore_n (q := 12) dL_faultPosition_11 rfl (Nat.le_of_ble_eq_true rfl) (xone_of rfl) rfl ?_
    refine r_iconst (q := 13) (v := 1) dL_faultPosition_12 rfl rfl ?_
    refine r_iret dL_faultPosition_13 rfl (Nat.le_of_ble_eq_true rfl) (Nat.le_of_ble_eq_true rfl) ?_
    exact hp9
  omega
/-- TubHireLaw.refusal(LTubHire;Z[J)I -/
def M_L_refusal : xM := (yL_refusal, cL_refusal, 4, (some FieldType.int), Cond.codeWith yL_refusal cL_refusal 4 (some FieldType.int) [(0, 9, 12, 26)] :: xAll, { frames := 9, cells := 1, slots := 6, locals := 181 }, (1, 6), [(0, 9, 12, 26)])
theorem s_L_refusal_122 : xSv M_L_refusal M_X9_refusal 122 1 := fun s args hts => ⟨callB_of 1 hts (xGood zw131) rfl rfl rfl (hts _ (List.mem_cons_of_mem _ (zw1))) (hts _ (List.mem_cons_of_mem _ (zw132))) (by decide +kernel) ⟨Nat.le_of_ble_eq_true rfl, Nat.le_of_ble_eq_true rfl⟩, (hts _ (List.mem_cons_of_mem _ (zw133))), (hts _ (List.mem_cons_of_mem _ (zw134)))⟩
set_option maxRecDepth 100000 in
set_option maxHeartbeats 4000000 in
theorem ct_L_refusal {E : xE} {Po : xPo} {w : xW} {x a k : Nat} {p0 : Int32} {v : Int32} {h : xHi} {Qh : xHi → Prop} {f0 : Nat → Int64} (H : HI E w x h) (hA : w.1 a = some (.inl (E.1.2 8, 1, .inr (.inl f0)))) (hax : ¬ HF x h a) (haw : a < w.2) (hk : k ≤ 1) (c1 : ∀ Po : xPo, (∀ u h2, Qh h2 → (h2.2.2.2.2.1 = h.2.2.2.2.1 ∨ w.2 ≤ h2.2.2.2.2.1) → HI E u x h2 → Fr w u x h → Po (rs ["java/util/NoSuchElementException"] k v) u) → Ct M_X9_refusal E (.ref x :: [.int p0]) w Po) (hp : ∀ u h2, Qh h2 → (h2.2.2.2.2.1 = h.2.2.2.2.1 ∨ w.2 ≤ h2.2.2.2.2.1) → HI E u x h2 → Fr w u x h → if k = 0 then Po (.inl (some (.int 0))) (xset u a (.inl (E.1.2 8, 1, .inr (.inl (vp_updL f0 (0 : Int32).toNatClampNeg v.toInt64))))) else Po (.inl (some (.int (nI k)))) u) : Ct M_L_refusal E [.ref x, .int p0, .ref a] w Po := by
  refine Ct.ofH (ws2 := xAll) (L := [some (.ref x), some (.int p0), some (.ref a), none]) (by decide +kernel) rfl (List.forall_mem_cons.mpr ⟨rfl, (List.forall_mem_cons.mpr ⟨rfl, (List.forall_mem_cons.mpr ⟨rfl, fun _ h => absurd h List.not_mem_nil⟩)⟩)⟩) (Nat.le_of_ble_eq_true rfl) rfl ?_
  refine r_aload_n (q := 1) dL_refusal_0 rfl rfl rfl ?_
  refine r_iconst (q := 2) (v := 0) dL_refusal_1 rfl rfl ?_
  refine r_aload_n (q := 3) dL_refusal_2 rfl rfl rfl ?_
  refine r_iload_n (q := 4) dL_refusal_3 rfl rfl rfl ?_
  refine r_callVH (q := 7) (ci := 11) (As := [_]) dL_refusal_4 s_L_refusal_122 H.1.1 rfl rfl (Nat.le_of_ble_eq_true rfl) rfl rfl rfl ⟨(Nat.le_of_ble_eq_true rfl), (Nat.le_of_ble_eq_true rfl)⟩ rfl ?_
  refine c1 _ (fun u h2 q1 q2 q3 q4 => ?_)
  have hp9 := hp u h2 q1 q2 q3 q4
  have hu : u.1 a = some (.inl (E.1.2 8, 1, .inr (.inl f0))) := (q4.2 a hax haw).trans hA
  by_cases k0 : k = 0
  · subst k0
    rw [if_pos rfl] at hp9
    show WF _ E Po _ _ _ [.int v, .int 0, .ref a] u _ _
    refine r_i2l (q := 8) dL_refusal_7 rfl ?_
    refine r_lastore (q := 9) dL_refusal_8 hu (show vp_in 0 1 from vp_in_nI (n := 0) (by decide) (by decide)) rfl ?_
    refine r_goto (q := 15) dL_refusal_9 (by decide) ?_
    refine r_iconst (q := 16) (v := 0) dL_refusal_15 rfl rfl ?_
    refine r_iret dL_refusal_16 rfl (Nat.le_of_ble_eq_true rfl) (Nat.le_of_ble_eq_true rfl) ?_
    exact hp9
  by_cases k1 : k = 1
  · subst k1
    rw [if_neg (by decide)] at hp9
    show ∃ h9, xGet _ _ "java/util/NoSuchElementException" h9 ∧ ∀ q9 : Nat, WF _ E Po _ h9 _ [.ref q9] u _ _
    refine ⟨12, ⟨[], (0, 9, 12, 26), [], rfl, fun _ h => absurd h List.not_mem_nil, ⟨by decide, by decide⟩, by decide, List.mem_cons_of_mem _ (zw16), by decide, rfl⟩, fun q9 => ?_⟩
    refine r_astore_n (q := 13) dL_refusal_12 rfl (Nat.le_of_ble_eq_true rfl) (xone_of rfl) rfl ?_
    refine r_iconst (q := 14) (v := 1) dL_refusal_13 rfl rfl ?_
    refine r_iret dL_refusal_14 rfl (Nat.le_of_ble_eq_true rfl) (Nat.le_of_ble_eq_true rfl) ?_
    exact hp9
  omega
/-- TubHireLaw.undo(LTubHire;[J)I -/
def M_L_undo : xM := (yL_undo, cL_undo, 3, (some FieldType.int), Cond.codeWith yL_undo cL_undo 3 (some FieldType.int) [(0, 8, 11, 114)] :: xAll, { frames := 9, cells := 1, slots := 6, locals := 180 }, (1, 6), [(0, 8, 11, 114)])
theorem s_L_undo_126 : xSv M_L_undo M_X9_undo 126 0 := fun s args hts => ⟨callB_of 0 hts (xGood zw135) rfl rfl rfl (hts _ (List.mem_cons_of_mem _ (zw1))) (hts _ (List.mem_cons_of_mem _ (zw136))) (by decide +kernel) ⟨Nat.le_of_ble_eq_true rfl, Nat.le_of_ble_eq_true rfl⟩, (hts _ (List.mem_cons_of_mem _ (zw137))), (hts _ (List.mem_cons_of_mem _ (zw138)))⟩
set_option maxRecDepth 100000 in
set_option maxHeartbeats 4000000 in
theorem ct_L_undo {E : xE} {Po : xPo} {w : xW} {x a k : Nat} {v : Int32} {h : xHi} {Qh : xHi → Prop} {f0 : Nat → Int64} (H : HI E w x h) (hA : w.1 a = some (.inl (E.1.2 8, 1, .inr (.inl f0)))) (hax : ¬ HF x h a) (haw : a < w.2) (hk : k ≤ 1) (c1 : ∀ Po : xPo, (∀ u h2, Qh h2 → (h2.2.2.2.2.1 = h.2.2.2.2.1 ∨ w.2 ≤ h2.2.2.2.2.1) → HI E u x h2 → Fr w u x h → Po (rs ["java/lang/IllegalStateException"] k v) u) → Ct M_X9_undo E (.ref x :: []) w Po) (hp : ∀ u h2, Qh h2 → (h2.2.2.2.2.1 = h.2.2.2.2.1 ∨ w.2 ≤ h2.2.2.2.2.1) → HI E u x h2 → Fr w u x h → if k = 0 then Po (.inl (some (.int 0))) (xset u a (.inl (E.1.2 8, 1, .inr (.inl (vp_updL f0 (0 : Int32).toNatClampNeg v.toInt64))))) else Po (.inl (some (.int (nI k)))) u) : Ct M_L_undo E [.ref x, .ref a] w Po := by
  refine Ct.ofH (ws2 := xAll) (L := [some (.ref x), some (.ref a), none]) (by decide +kernel) rfl (List.forall_mem_cons.mpr ⟨rfl, (List.forall_mem_cons.mpr ⟨rfl, fun _ h => absurd h List.not_mem_nil⟩)⟩) (Nat.le_of_ble_eq_true rfl) rfl ?_
  refine r_aload_n (q := 1) dL_undo_0 rfl rfl rfl ?_
  refine r_iconst (q := 2) (v := 0) dL_undo_1 rfl rfl ?_
  refine r_aload_n (q := 3) dL_undo_2 rfl rfl rfl ?_
  refine r_callVH (q := 6) (ci := 11) (As := []) dL_undo_3 s_L_undo_126 H.1.1 rfl rfl (Nat.le_of_ble_eq_true rfl) rfl rfl rfl ⟨(Nat.le_of_ble_eq_true rfl), (Nat.le_of_ble_eq_true rfl)⟩ rfl ?_
  refine c1 _ (fun u h2 q1 q2 q3 q4 => ?_)
  have hp9 := hp u h2 q1 q2 q3 q4
  have hu : u.1 a = some (.inl (E.1.2 8, 1, .inr (.inl f0))) := (q4.2 a hax haw).trans hA
  by_cases k0 : k = 0
  · subst k0
    rw [if_pos rfl] at hp9
    show WF _ E Po _ _ _ [.int v, .int 0, .ref a] u _ _
    refine r_i2l (q := 7) dL_undo_6 rfl ?_
    refine r_lastore (q := 8) dL_undo_7 hu (show vp_in 0 1 from vp_in_nI (n := 0) (by decide) (by decide)) rfl ?_
    refine r_goto (q := 14) dL_undo_8 (by decide) ?_
    refine r_iconst (q := 15) (v := 0) dL_undo_14 rfl rfl ?_
    refine r_iret dL_undo_15 rfl (Nat.le_of_ble_eq_true rfl) (Nat.le_of_ble_eq_true rfl) ?_
    exact hp9
  by_cases k1 : k = 1
  · subst k1
    rw [if_neg (by decide)] at hp9
    show ∃ h9, xGet _ _ "java/lang/IllegalStateException" h9 ∧ ∀ q9 : Nat, WF _ E Po _ h9 _ [.ref q9] u _ _
    refine ⟨11, ⟨[], (0, 8, 11, 114), [], rfl, fun _ h => absurd h List.not_mem_nil, ⟨by decide, by decide⟩, by decide, List.mem_cons_of_mem _ (zw122), by decide, rfl⟩, fun q9 => ?_⟩
    refine r_astore_n (q := 12) dL_undo_11 rfl (Nat.le_of_ble_eq_true rfl) (xone_of rfl) rfl ?_
    refine r_iconst (q := 13) (v := 1) dL_undo_12 rfl rfl ?_
    refine r_iret dL_undo_13 rfl (Nat.le_of_ble_eq_true rfl) (Nat.le_of_ble_eq_true rfl) ?_
    exact hp9
  omega
/-- TubHireLaw.restoreSnapshot(LTubHire;[J)I -/
def M_L_restoreSnapshot : xM := (yL_restoreSnapshot, cL_restoreSnapshot, 3, (some FieldType.int), Cond.codeWith yL_restoreSnapshot cL_restoreSnapshot 3 (some FieldType.int) [(0, 8, 11, 114)] :: xAll, { frames := 9, cells := 1, slots := 6, locals := 180 }, (1, 6), [(0, 8, 11, 114)])
theorem s_L_restoreSnapshot_129 : xSv M_L_restoreSnapshot M_X9_restoreSnapshot 129 0 := fun s args hts => ⟨callB_of 0 hts (xGood zw139) rfl rfl rfl (hts _ (List.mem_cons_of_mem _ (zw1))) (hts _ (List.mem_cons_of_mem _ (zw140))) (by decide +kernel) ⟨Nat.le_of_ble_eq_true rfl, Nat.le_of_ble_eq_true rfl⟩, (hts _ (List.mem_cons_of_mem _ (zw141))), (hts _ (List.mem_cons_of_mem _ (zw142)))⟩
set_option maxRecDepth 100000 in
set_option maxHeartbeats 4000000 in
theorem ct_L_restoreSnapshot {E : xE} {Po : xPo} {w : xW} {x a k : Nat} {v : Int32} {h : xHi} {Qh : xHi → Prop} {f0 : Nat → Int64} (H : HI E w x h) (hA : w.1 a = some (.inl (E.1.2 8, 1, .inr (.inl f0)))) (hax : ¬ HF x h a) (haw : a < w.2) (hk : k ≤ 1) (c1 : ∀ Po : xPo, (∀ u h2, Qh h2 → (h2.2.2.2.2.1 = h.2.2.2.2.1 ∨ w.2 ≤ h2.2.2.2.2.1) → HI E u x h2 → Fr w u x h → Po (rs ["java/lang/IllegalStateException"] k v) u) → Ct M_X9_restoreSnapshot E (.ref x :: []) w Po) (hp : ∀ u h2, Qh h2 → (h2.2.2.2.2.1 = h.2.2.2.2.1 ∨ w.2 ≤ h2.2.2.2.2.1) → HI E u x h2 → Fr w u x h → if k = 0 then Po (.inl (some (.int 0))) (xset u a (.inl (E.1.2 8, 1, .inr (.inl (vp_updL f0 (0 : Int32).toNatClampNeg v.toInt64))))) else Po (.inl (some (.int (nI k)))) u) : Ct M_L_restoreSnapshot E [.ref x, .ref a] w Po := by
  refine Ct.ofH (ws2 := xAll) (L := [some (.ref x), some (.ref a), none]) (by decide +kernel) rfl (List.forall_mem_cons.mpr ⟨rfl, (List.forall_mem_cons.mpr ⟨rfl, fun _ h => absurd h List.not_mem_nil⟩)⟩) (Nat.le_of_ble_eq_true rfl) rfl ?_
  refine r_aload_n (q := 1) dL_restoreSnapshot_0 rfl rfl rfl ?_
  refine r_iconst (q := 2) (v := 0) dL_restoreSnapshot_1 rfl rfl ?_
  refine r_aload_n (q := 3) dL_restoreSnapshot_2 rfl rfl rfl ?_
  refine r_callVH (q := 6) (ci := 11) (As := []) dL_restoreSnapshot_3 s_L_restoreSnapshot_129 H.1.1 rfl rfl (Nat.le_of_ble_eq_true rfl) rfl rfl rfl ⟨(Nat.le_of_ble_eq_true rfl), (Nat.le_of_ble_eq_true rfl)⟩ rfl ?_
  refine c1 _ (fun u h2 q1 q2 q3 q4 => ?_)
  have hp9 := hp u h2 q1 q2 q3 q4
  have hu : u.1 a = some (.inl (E.1.2 8, 1, .inr (.inl f0))) := (q4.2 a hax haw).trans hA
  by_cases k0 : k = 0
  · subst k0
    rw [if_pos rfl] at hp9
    show WF _ E Po _ _ _ [.int v, .int 0, .ref a] u _ _
    refine r_i2l (q := 7) dL_restoreSnapshot_6 rfl ?_
    refine r_lastore (q := 8) dL_restoreSnapshot_7 hu (show vp_in 0 1 from vp_in_nI (n := 0) (by decide) (by decide)) rfl ?_
    refine r_goto (q := 14) dL_restoreSnapshot_8 (by decide) ?_
    refine r_iconst (q := 15) (v := 0) dL_restoreSnapshot_14 rfl rfl ?_
    refine r_iret dL_restoreSnapshot_15 rfl (Nat.le_of_ble_eq_true rfl) (Nat.le_of_ble_eq_true rfl) ?_
    exact hp9
  by_cases k1 : k = 1
  · subst k1
    rw [if_neg (by decide)] at hp9
    show ∃ h9, xGet _ _ "java/lang/IllegalStateException" h9 ∧ ∀ q9 : Nat, WF _ E Po _ h9 _ [.ref q9] u _ _
    refine ⟨11, ⟨[], (0, 8, 11, 114), [], rfl, fun _ h => absurd h List.not_mem_nil, ⟨by decide, by decide⟩, by decide, List.mem_cons_of_mem _ (zw122), by decide, rfl⟩, fun q9 => ?_⟩
    refine r_astore_n (q := 12) dL_restoreSnapshot_11 rfl (Nat.le_of_ble_eq_true rfl) (xone_of rfl) rfl ?_
    refine r_iconst (q := 13) (v := 1) dL_restoreSnapshot_12 rfl rfl ?_
    refine r_iret dL_restoreSnapshot_13 rfl (Nat.le_of_ble_eq_true rfl) (Nat.le_of_ble_eq_true rfl) ?_
    exact hp9
  omega
