/-! ===== 58.tries: the law's methods that try a call (rows laid by wip/p39/gen/make58.py) ===== -/
/-- how a call ends: it answers, or throws one of its classes -/
def rs (Xs : List String) (k : Nat) (v : Int32) : Option Value ⊕ String := if k = 0 then .inl (some (.int v)) else .inr (Xs.getD (k - 1) "")
/-- what a call leaves alone: all that is not the hire's stays, and stays not the hire's -/
def FX (w u : xW) (x : Nat) (h h2 : xHi) : Prop := Fr w u x h ∧ (h2.2.2.2.2.1 = h.2.2.2.2.1 ∨ w.2 ≤ h2.2.2.2.2.1)
theorem FX.id {w : xW} {x : Nat} {h : xHi} : FX w w x h h := ⟨Fr.id, Or.inl rfl⟩
theorem FX.tr {w u v : xW} {x : Nat} {h h2 h3 : xHi} (a : FX w u x h h2) (b : FX u v x h2 h3) : FX w v x h h3 := by
  obtain ⟨⟨a1, a2⟩, a3⟩ := a
  obtain ⟨⟨b1, b2⟩, b3⟩ := b
  refine ⟨⟨Nat.le_trans a1 b1, fun q hq hl => (b2 q (fun z => ?_) (Nat.lt_of_lt_of_le hl a1)).trans (a2 q hq hl)⟩, ?_⟩
  · rcases z with z | z
    · exact hq (Or.inl z)
    · rcases a3 with e | e
      · exact hq (Or.inr (z.trans e))
      · omega
  · rcases b3 with e | e
    · rcases a3 with e2 | e2
      · exact Or.inl (e.trans e2)
      · exact Or.inr (by rw [e]; exact e2)
    · exact Or.inr (Nat.le_trans a1 e)
/-- an object that is not the hire's -/
def FO (w : xW) (x : Nat) (h : xHi) (a : Nat) (e : va_E) : Prop := w.1 a = some e ∧ ¬ HF x h a ∧ a < w.2
theorem FO.fx {w u : xW} {x a : Nat} {h h2 : xHi} {e : va_E} (o : FO w x h a e) (f : FX w u x h h2) : FO u x h2 a e := by
  obtain ⟨o1, o2, o3⟩ := o
  obtain ⟨⟨a1, a2⟩, a3⟩ := f
  refine ⟨(a2 a o2 o3).trans o1, fun z => ?_, Nat.lt_of_lt_of_le o3 a1⟩
  rcases z with z | z
  · exact o2 (Or.inl z)
  · rcases a3 with e9 | e9
    · exact o2 (Or.inr (z.trans e9))
    · omega
theorem zw0 : (Jvm.Cond.code ({ cls := "TubHire", name := "tub", desc := "(I)I" } : Jvm.MethodName) prog_1_method_2_code (2 : Nat) (Option.some Jvm.ClassFile.FieldType.int)) ∈ xAll := xin2 (List.mem_of_getElem? (i := 91) (by decide +kernel)) (by decide +kernel)
theorem zw1 : (Jvm.Cond.initialized "TubHire") ∈ xAll := xin1 (List.mem_of_getElem? (i := 1) (by decide +kernel)) (by decide +kernel)
theorem zw2 : (Jvm.Cond.methodLink "TubHireLaw" (8 : Nat) ({ cls := "TubHire", name := "tub", desc := "(I)I" } : Jvm.MethodName)) ∈ xAll := xin2 (List.mem_of_getElem? (i := 88) (by decide +kernel)) (by decide +kernel)
theorem zw3 : (Jvm.Cond.instanceMethod ({ cls := "TubHire", name := "tub", desc := "(I)I" } : Jvm.MethodName)) ∈ xAll := xin2 (List.mem_of_getElem? (i := 89) (by decide +kernel)) (by decide +kernel)
theorem zw4 : (Jvm.Cond.selects "TubHire" ({ cls := "TubHire", name := "tub", desc := "(I)I" } : Jvm.MethodName) ({ cls := "TubHire", name := "tub", desc := "(I)I" } : Jvm.MethodName)) ∈ xAll := xin2 (List.mem_of_getElem? (i := 90) (by decide +kernel)) (by decide +kernel)
theorem zw5 : (Jvm.Cond.classLink "TubHireLaw" (14 : Nat) "java/lang/IllegalArgumentException") ∈ xAll := xin2 (List.mem_of_getElem? (i := 86) (by decide +kernel)) (by decide +kernel)
theorem zw6 : (Jvm.Cond.classLink "TubHireLaw" (16 : Nat) "java/lang/UnsupportedOperationException") ∈ xAll := xin2 (List.mem_of_getElem? (i := 87) (by decide +kernel)) (by decide +kernel)
theorem zw7 : (Jvm.Cond.code ({ cls := "TubHire", name := "tubOf", desc := "(II)I" } : Jvm.MethodName) prog_1_method_3_code (4 : Nat) (Option.some Jvm.ClassFile.FieldType.int)) ∈ xAll := xin4 (List.mem_of_getElem? (i := 70) (by decide +kernel)) (by decide +kernel)
theorem zw8 : (Jvm.Cond.methodLink "TubHireLaw" (18 : Nat) ({ cls := "TubHire", name := "tubOf", desc := "(II)I" } : Jvm.MethodName)) ∈ xAll := xin4 (List.mem_of_getElem? (i := 67) (by decide +kernel)) (by decide +kernel)
theorem zw9 : (Jvm.Cond.instanceMethod ({ cls := "TubHire", name := "tubOf", desc := "(II)I" } : Jvm.MethodName)) ∈ xAll := xin4 (List.mem_of_getElem? (i := 68) (by decide +kernel)) (by decide +kernel)
theorem zw10 : (Jvm.Cond.selects "TubHire" ({ cls := "TubHire", name := "tubOf", desc := "(II)I" } : Jvm.MethodName) ({ cls := "TubHire", name := "tubOf", desc := "(II)I" } : Jvm.MethodName)) ∈ xAll := xin4 (List.mem_of_getElem? (i := 69) (by decide +kernel)) (by decide +kernel)
theorem zw11 : (Jvm.Cond.classLink "TubHireLaw" (22 : Nat) "java/lang/IndexOutOfBoundsException") ∈ xAll := xin3 (List.mem_of_getElem? (i := 26) (by decide +kernel)) (by decide +kernel)
theorem zw12 : (Jvm.Cond.code ({ cls := "TubHire", name := "torn", desc := "(II)I" } : Jvm.MethodName) prog_1_method_4_code (5 : Nat) (Option.some Jvm.ClassFile.FieldType.int)) ∈ xAll := xin5 (List.mem_of_getElem? (i := 234) (by decide +kernel)) (by decide +kernel)
theorem zw13 : (Jvm.Cond.methodLink "TubHireLaw" (24 : Nat) ({ cls := "TubHire", name := "torn", desc := "(II)I" } : Jvm.MethodName)) ∈ xAll := xin5 (List.mem_of_getElem? (i := 231) (by decide +kernel)) (by decide +kernel)
theorem zw14 : (Jvm.Cond.instanceMethod ({ cls := "TubHire", name := "torn", desc := "(II)I" } : Jvm.MethodName)) ∈ xAll := xin5 (List.mem_of_getElem? (i := 232) (by decide +kernel)) (by decide +kernel)
theorem zw15 : (Jvm.Cond.selects "TubHire" ({ cls := "TubHire", name := "torn", desc := "(II)I" } : Jvm.MethodName) ({ cls := "TubHire", name := "torn", desc := "(II)I" } : Jvm.MethodName)) ∈ xAll := xin5 (List.mem_of_getElem? (i := 233) (by decide +kernel)) (by decide +kernel)
theorem zw16 : (Jvm.Cond.classLink "TubHireLaw" (27 : Nat) "java/util/NoSuchElementException") ∈ xAll := xin4 (List.mem_of_getElem? (i := 20) (by decide +kernel)) (by decide +kernel)
theorem zw17 : (Jvm.Cond.code ({ cls := "TubHire", name := "tear", desc := "(II)I" } : Jvm.MethodName) prog_1_method_5_code (3 : Nat) (Option.some Jvm.ClassFile.FieldType.int)) ∈ xAll := xin3 (List.mem_of_getElem? (i := 118) (by decide +kernel)) (by decide +kernel)
theorem zw18 : (Jvm.Cond.methodLink "TubHireLaw" (29 : Nat) ({ cls := "TubHire", name := "tear", desc := "(II)I" } : Jvm.MethodName)) ∈ xAll := xin3 (List.mem_of_getElem? (i := 115) (by decide +kernel)) (by decide +kernel)
theorem zw19 : (Jvm.Cond.instanceMethod ({ cls := "TubHire", name := "tear", desc := "(II)I" } : Jvm.MethodName)) ∈ xAll := xin3 (List.mem_of_getElem? (i := 116) (by decide +kernel)) (by decide +kernel)
theorem zw20 : (Jvm.Cond.selects "TubHire" ({ cls := "TubHire", name := "tear", desc := "(II)I" } : Jvm.MethodName) ({ cls := "TubHire", name := "tear", desc := "(II)I" } : Jvm.MethodName)) ∈ xAll := xin3 (List.mem_of_getElem? (i := 117) (by decide +kernel)) (by decide +kernel)
theorem zw21 : (Jvm.Cond.code ({ cls := "TubHire", name := "mend", desc := "(II)I" } : Jvm.MethodName) prog_1_method_6_code (3 : Nat) (Option.some Jvm.ClassFile.FieldType.int)) ∈ xAll := xin3 (List.mem_of_getElem? (i := 157) (by decide +kernel)) (by decide +kernel)
theorem zw22 : (Jvm.Cond.methodLink "TubHireLaw" (32 : Nat) ({ cls := "TubHire", name := "mend", desc := "(II)I" } : Jvm.MethodName)) ∈ xAll := xin3 (List.mem_of_getElem? (i := 154) (by decide +kernel)) (by decide +kernel)
theorem zw23 : (Jvm.Cond.instanceMethod ({ cls := "TubHire", name := "mend", desc := "(II)I" } : Jvm.MethodName)) ∈ xAll := xin3 (List.mem_of_getElem? (i := 155) (by decide +kernel)) (by decide +kernel)
theorem zw24 : (Jvm.Cond.selects "TubHire" ({ cls := "TubHire", name := "mend", desc := "(II)I" } : Jvm.MethodName) ({ cls := "TubHire", name := "mend", desc := "(II)I" } : Jvm.MethodName)) ∈ xAll := xin3 (List.mem_of_getElem? (i := 156) (by decide +kernel)) (by decide +kernel)
theorem zw25 : (Jvm.Cond.code ({ cls := "TubHire", name := "bestTub", desc := "()I" } : Jvm.MethodName) prog_1_method_7_code (2 : Nat) (Option.some Jvm.ClassFile.FieldType.int)) ∈ xAll := xin6 (List.mem_of_getElem? (i := 26) (by decide +kernel)) (by decide +kernel)
theorem zw26 : (Jvm.Cond.methodLink "TubHireLaw" (35 : Nat) ({ cls := "TubHire", name := "bestTub", desc := "()I" } : Jvm.MethodName)) ∈ xAll := xin6 (List.mem_of_getElem? (i := 23) (by decide +kernel)) (by decide +kernel)
theorem zw27 : (Jvm.Cond.instanceMethod ({ cls := "TubHire", name := "bestTub", desc := "()I" } : Jvm.MethodName)) ∈ xAll := xin6 (List.mem_of_getElem? (i := 24) (by decide +kernel)) (by decide +kernel)
theorem zw28 : (Jvm.Cond.selects "TubHire" ({ cls := "TubHire", name := "bestTub", desc := "()I" } : Jvm.MethodName) ({ cls := "TubHire", name := "bestTub", desc := "()I" } : Jvm.MethodName)) ∈ xAll := xin6 (List.mem_of_getElem? (i := 25) (by decide +kernel)) (by decide +kernel)
theorem zw29 : (Jvm.Cond.code ({ cls := "TubHire", name := "out", desc := "(II)I" } : Jvm.MethodName) prog_1_method_8_code (3 : Nat) (Option.some Jvm.ClassFile.FieldType.int)) ∈ xAll := xin3 (List.mem_of_getElem? (i := 50) (by decide +kernel)) (by decide +kernel)
theorem zw30 : (Jvm.Cond.methodLink "TubHireLaw" (39 : Nat) ({ cls := "TubHire", name := "out", desc := "(II)I" } : Jvm.MethodName)) ∈ xAll := xin3 (List.mem_of_getElem? (i := 47) (by decide +kernel)) (by decide +kernel)
theorem zw31 : (Jvm.Cond.instanceMethod ({ cls := "TubHire", name := "out", desc := "(II)I" } : Jvm.MethodName)) ∈ xAll := xin3 (List.mem_of_getElem? (i := 48) (by decide +kernel)) (by decide +kernel)
theorem zw32 : (Jvm.Cond.selects "TubHire" ({ cls := "TubHire", name := "out", desc := "(II)I" } : Jvm.MethodName) ({ cls := "TubHire", name := "out", desc := "(II)I" } : Jvm.MethodName)) ∈ xAll := xin3 (List.mem_of_getElem? (i := 49) (by decide +kernel)) (by decide +kernel)
theorem zw33 : (Jvm.Cond.code ({ cls := "TubHire", name := "back", desc := "(I)I" } : Jvm.MethodName) prog_1_method_9_code (2 : Nat) (Option.some Jvm.ClassFile.FieldType.int)) ∈ xAll := xin3 (List.mem_of_getElem? (i := 77) (by decide +kernel)) (by decide +kernel)
theorem zw34 : (Jvm.Cond.methodLink "TubHireLaw" (42 : Nat) ({ cls := "TubHire", name := "back", desc := "(I)I" } : Jvm.MethodName)) ∈ xAll := xin3 (List.mem_of_getElem? (i := 74) (by decide +kernel)) (by decide +kernel)
theorem zw35 : (Jvm.Cond.instanceMethod ({ cls := "TubHire", name := "back", desc := "(I)I" } : Jvm.MethodName)) ∈ xAll := xin3 (List.mem_of_getElem? (i := 75) (by decide +kernel)) (by decide +kernel)
theorem zw36 : (Jvm.Cond.selects "TubHire" ({ cls := "TubHire", name := "back", desc := "(I)I" } : Jvm.MethodName) ({ cls := "TubHire", name := "back", desc := "(I)I" } : Jvm.MethodName)) ∈ xAll := xin3 (List.mem_of_getElem? (i := 76) (by decide +kernel)) (by decide +kernel)
theorem zw37 : (Jvm.Cond.code ({ cls := "TubHire", name := "tent", desc := "(I)I" } : Jvm.MethodName) prog_1_method_10_code (2 : Nat) (Option.some Jvm.ClassFile.FieldType.int)) ∈ xAll := xin3 (List.mem_of_getElem? (i := 7) (by decide +kernel)) (by decide +kernel)
theorem zw38 : (Jvm.Cond.methodLink "TubHireLaw" (45 : Nat) ({ cls := "TubHire", name := "tent", desc := "(I)I" } : Jvm.MethodName)) ∈ xAll := xin3 (List.mem_of_getElem? (i := 4) (by decide +kernel)) (by decide +kernel)
theorem zw39 : (Jvm.Cond.instanceMethod ({ cls := "TubHire", name := "tent", desc := "(I)I" } : Jvm.MethodName)) ∈ xAll := xin3 (List.mem_of_getElem? (i := 5) (by decide +kernel)) (by decide +kernel)
theorem zw40 : (Jvm.Cond.selects "TubHire" ({ cls := "TubHire", name := "tent", desc := "(I)I" } : Jvm.MethodName) ({ cls := "TubHire", name := "tent", desc := "(I)I" } : Jvm.MethodName)) ∈ xAll := xin3 (List.mem_of_getElem? (i := 6) (by decide +kernel)) (by decide +kernel)
theorem zw41 : (Jvm.Cond.code ({ cls := "TubHire", name := "tentOf", desc := "(II)I" } : Jvm.MethodName) prog_1_method_11_code (4 : Nat) (Option.some Jvm.ClassFile.FieldType.int)) ∈ xAll := xin4 (List.mem_of_getElem? (i := 84) (by decide +kernel)) (by decide +kernel)
theorem zw42 : (Jvm.Cond.methodLink "TubHireLaw" (48 : Nat) ({ cls := "TubHire", name := "tentOf", desc := "(II)I" } : Jvm.MethodName)) ∈ xAll := xin4 (List.mem_of_getElem? (i := 81) (by decide +kernel)) (by decide +kernel)
theorem zw43 : (Jvm.Cond.instanceMethod ({ cls := "TubHire", name := "tentOf", desc := "(II)I" } : Jvm.MethodName)) ∈ xAll := xin4 (List.mem_of_getElem? (i := 82) (by decide +kernel)) (by decide +kernel)
theorem zw44 : (Jvm.Cond.selects "TubHire" ({ cls := "TubHire", name := "tentOf", desc := "(II)I" } : Jvm.MethodName) ({ cls := "TubHire", name := "tentOf", desc := "(II)I" } : Jvm.MethodName)) ∈ xAll := xin4 (List.mem_of_getElem? (i := 83) (by decide +kernel)) (by decide +kernel)
theorem zw45 : (Jvm.Cond.code ({ cls := "TubHire", name := "waiting", desc := "(II)I" } : Jvm.MethodName) prog_1_method_12_code (5 : Nat) (Option.some Jvm.ClassFile.FieldType.int)) ∈ xAll := xin4 (List.mem_of_getElem? (i := 139) (by decide +kernel)) (by decide +kernel)
theorem zw46 : (Jvm.Cond.methodLink "TubHireLaw" (51 : Nat) ({ cls := "TubHire", name := "waiting", desc := "(II)I" } : Jvm.MethodName)) ∈ xAll := xin4 (List.mem_of_getElem? (i := 136) (by decide +kernel)) (by decide +kernel)
theorem zw47 : (Jvm.Cond.instanceMethod ({ cls := "TubHire", name := "waiting", desc := "(II)I" } : Jvm.MethodName)) ∈ xAll := xin4 (List.mem_of_getElem? (i := 137) (by decide +kernel)) (by decide +kernel)
theorem zw48 : (Jvm.Cond.selects "TubHire" ({ cls := "TubHire", name := "waiting", desc := "(II)I" } : Jvm.MethodName) ({ cls := "TubHire", name := "waiting", desc := "(II)I" } : Jvm.MethodName)) ∈ xAll := xin4 (List.mem_of_getElem? (i := 138) (by decide +kernel)) (by decide +kernel)
theorem zw49 : (Jvm.Cond.code ({ cls := "TubHire", name := "join", desc := "(I)I" } : Jvm.MethodName) prog_1_method_13_code (2 : Nat) (Option.some Jvm.ClassFile.FieldType.int)) ∈ xAll := xin3 (List.mem_of_getElem? (i := 142) (by decide +kernel)) (by decide +kernel)
theorem zw50 : (Jvm.Cond.methodLink "TubHireLaw" (54 : Nat) ({ cls := "TubHire", name := "join", desc := "(I)I" } : Jvm.MethodName)) ∈ xAll := xin3 (List.mem_of_getElem? (i := 139) (by decide +kernel)) (by decide +kernel)
theorem zw51 : (Jvm.Cond.instanceMethod ({ cls := "TubHire", name := "join", desc := "(I)I" } : Jvm.MethodName)) ∈ xAll := xin3 (List.mem_of_getElem? (i := 140) (by decide +kernel)) (by decide +kernel)
theorem zw52 : (Jvm.Cond.selects "TubHire" ({ cls := "TubHire", name := "join", desc := "(I)I" } : Jvm.MethodName) ({ cls := "TubHire", name := "join", desc := "(I)I" } : Jvm.MethodName)) ∈ xAll := xin3 (List.mem_of_getElem? (i := 141) (by decide +kernel)) (by decide +kernel)
theorem zw53 : (Jvm.Cond.code ({ cls := "TubHire", name := "heater", desc := "()I" } : Jvm.MethodName) prog_1_method_14_code (1 : Nat) (Option.some Jvm.ClassFile.FieldType.int)) ∈ xAll := xin3 (List.mem_of_getElem? (i := 18) (by decide +kernel)) (by decide +kernel)
theorem zw54 : (Jvm.Cond.methodLink "TubHireLaw" (57 : Nat) ({ cls := "TubHire", name := "heater", desc := "()I" } : Jvm.MethodName)) ∈ xAll := xin3 (List.mem_of_getElem? (i := 15) (by decide +kernel)) (by decide +kernel)
theorem zw55 : (Jvm.Cond.instanceMethod ({ cls := "TubHire", name := "heater", desc := "()I" } : Jvm.MethodName)) ∈ xAll := xin3 (List.mem_of_getElem? (i := 16) (by decide +kernel)) (by decide +kernel)
theorem zw56 : (Jvm.Cond.selects "TubHire" ({ cls := "TubHire", name := "heater", desc := "()I" } : Jvm.MethodName) ({ cls := "TubHire", name := "heater", desc := "()I" } : Jvm.MethodName)) ∈ xAll := xin3 (List.mem_of_getElem? (i := 17) (by decide +kernel)) (by decide +kernel)
theorem zw57 : (Jvm.Cond.code ({ cls := "TubHire", name := "heaterOf", desc := "(IZ)I" } : Jvm.MethodName) prog_1_method_15_code (4 : Nat) (Option.some Jvm.ClassFile.FieldType.int)) ∈ xAll := xin4 (List.mem_of_getElem? (i := 98) (by decide +kernel)) (by decide +kernel)
theorem zw58 : (Jvm.Cond.methodLink "TubHireLaw" (60 : Nat) ({ cls := "TubHire", name := "heaterOf", desc := "(IZ)I" } : Jvm.MethodName)) ∈ xAll := xin4 (List.mem_of_getElem? (i := 95) (by decide +kernel)) (by decide +kernel)
theorem zw59 : (Jvm.Cond.instanceMethod ({ cls := "TubHire", name := "heaterOf", desc := "(IZ)I" } : Jvm.MethodName)) ∈ xAll := xin4 (List.mem_of_getElem? (i := 96) (by decide +kernel)) (by decide +kernel)
theorem zw60 : (Jvm.Cond.selects "TubHire" ({ cls := "TubHire", name := "heaterOf", desc := "(IZ)I" } : Jvm.MethodName) ({ cls := "TubHire", name := "heaterOf", desc := "(IZ)I" } : Jvm.MethodName)) ∈ xAll := xin4 (List.mem_of_getElem? (i := 97) (by decide +kernel)) (by decide +kernel)
theorem zw61 : (Jvm.Cond.code ({ cls := "TubHire", name := "heat", desc := "(II)I" } : Jvm.MethodName) prog_1_method_16_code (3 : Nat) (Option.some Jvm.ClassFile.FieldType.int)) ∈ xAll := xin3 (List.mem_of_getElem? (i := 92) (by decide +kernel)) (by decide +kernel)
theorem zw62 : (Jvm.Cond.methodLink "TubHireLaw" (64 : Nat) ({ cls := "TubHire", name := "heat", desc := "(II)I" } : Jvm.MethodName)) ∈ xAll := xin3 (List.mem_of_getElem? (i := 89) (by decide +kernel)) (by decide +kernel)
theorem zw63 : (Jvm.Cond.instanceMethod ({ cls := "TubHire", name := "heat", desc := "(II)I" } : Jvm.MethodName)) ∈ xAll := xin3 (List.mem_of_getElem? (i := 90) (by decide +kernel)) (by decide +kernel)
theorem zw64 : (Jvm.Cond.selects "TubHire" ({ cls := "TubHire", name := "heat", desc := "(II)I" } : Jvm.MethodName) ({ cls := "TubHire", name := "heat", desc := "(II)I" } : Jvm.MethodName)) ∈ xAll := xin3 (List.mem_of_getElem? (i := 91) (by decide +kernel)) (by decide +kernel)
theorem zw65 : (Jvm.Cond.code ({ cls := "TubHire", name := "cold", desc := "(I)I" } : Jvm.MethodName) prog_1_method_17_code (2 : Nat) (Option.some Jvm.ClassFile.FieldType.int)) ∈ xAll := xin3 (List.mem_of_getElem? (i := 107) (by decide +kernel)) (by decide +kernel)
theorem zw66 : (Jvm.Cond.methodLink "TubHireLaw" (67 : Nat) ({ cls := "TubHire", name := "cold", desc := "(I)I" } : Jvm.MethodName)) ∈ xAll := xin3 (List.mem_of_getElem? (i := 104) (by decide +kernel)) (by decide +kernel)
theorem zw67 : (Jvm.Cond.instanceMethod ({ cls := "TubHire", name := "cold", desc := "(I)I" } : Jvm.MethodName)) ∈ xAll := xin3 (List.mem_of_getElem? (i := 105) (by decide +kernel)) (by decide +kernel)
theorem zw68 : (Jvm.Cond.selects "TubHire" ({ cls := "TubHire", name := "cold", desc := "(I)I" } : Jvm.MethodName) ({ cls := "TubHire", name := "cold", desc := "(I)I" } : Jvm.MethodName)) ∈ xAll := xin3 (List.mem_of_getElem? (i := 106) (by decide +kernel)) (by decide +kernel)
theorem zw69 : (Jvm.Cond.code ({ cls := "TubHire", name := "gas", desc := "(II)I" } : Jvm.MethodName) prog_1_method_18_code (3 : Nat) (Option.some Jvm.ClassFile.FieldType.int)) ∈ xAll := xin3 (List.mem_of_getElem? (i := 196) (by decide +kernel)) (by decide +kernel)
theorem zw70 : (Jvm.Cond.methodLink "TubHireLaw" (70 : Nat) ({ cls := "TubHire", name := "gas", desc := "(II)I" } : Jvm.MethodName)) ∈ xAll := xin3 (List.mem_of_getElem? (i := 193) (by decide +kernel)) (by decide +kernel)
theorem zw71 : (Jvm.Cond.instanceMethod ({ cls := "TubHire", name := "gas", desc := "(II)I" } : Jvm.MethodName)) ∈ xAll := xin3 (List.mem_of_getElem? (i := 194) (by decide +kernel)) (by decide +kernel)
theorem zw72 : (Jvm.Cond.selects "TubHire" ({ cls := "TubHire", name := "gas", desc := "(II)I" } : Jvm.MethodName) ({ cls := "TubHire", name := "gas", desc := "(II)I" } : Jvm.MethodName)) ∈ xAll := xin3 (List.mem_of_getElem? (i := 195) (by decide +kernel)) (by decide +kernel)
theorem zw73 : (Jvm.Cond.code ({ cls := "TubHire", name := "wash", desc := "(I)I" } : Jvm.MethodName) prog_1_method_19_code (2 : Nat) (Option.some Jvm.ClassFile.FieldType.int)) ∈ xAll := xin3 (List.mem_of_getElem? (i := 173) (by decide +kernel)) (by decide +kernel)
theorem zw74 : (Jvm.Cond.methodLink "TubHireLaw" (73 : Nat) ({ cls := "TubHire", name := "wash", desc := "(I)I" } : Jvm.MethodName)) ∈ xAll := xin3 (List.mem_of_getElem? (i := 170) (by decide +kernel)) (by decide +kernel)
theorem zw75 : (Jvm.Cond.instanceMethod ({ cls := "TubHire", name := "wash", desc := "(I)I" } : Jvm.MethodName)) ∈ xAll := xin3 (List.mem_of_getElem? (i := 171) (by decide +kernel)) (by decide +kernel)
theorem zw76 : (Jvm.Cond.selects "TubHire" ({ cls := "TubHire", name := "wash", desc := "(I)I" } : Jvm.MethodName) ({ cls := "TubHire", name := "wash", desc := "(I)I" } : Jvm.MethodName)) ∈ xAll := xin3 (List.mem_of_getElem? (i := 172) (by decide +kernel)) (by decide +kernel)
theorem zw77 : (Jvm.Cond.code ({ cls := "TubHire", name := "soap", desc := "(I)I" } : Jvm.MethodName) prog_1_method_20_code (2 : Nat) (Option.some Jvm.ClassFile.FieldType.int)) ∈ xAll := xin3 (List.mem_of_getElem? (i := 185) (by decide +kernel)) (by decide +kernel)
theorem zw78 : (Jvm.Cond.methodLink "TubHireLaw" (76 : Nat) ({ cls := "TubHire", name := "soap", desc := "(I)I" } : Jvm.MethodName)) ∈ xAll := xin3 (List.mem_of_getElem? (i := 182) (by decide +kernel)) (by decide +kernel)
theorem zw79 : (Jvm.Cond.instanceMethod ({ cls := "TubHire", name := "soap", desc := "(I)I" } : Jvm.MethodName)) ∈ xAll := xin3 (List.mem_of_getElem? (i := 183) (by decide +kernel)) (by decide +kernel)
theorem zw80 : (Jvm.Cond.selects "TubHire" ({ cls := "TubHire", name := "soap", desc := "(I)I" } : Jvm.MethodName) ({ cls := "TubHire", name := "soap", desc := "(I)I" } : Jvm.MethodName)) ∈ xAll := xin3 (List.mem_of_getElem? (i := 184) (by decide +kernel)) (by decide +kernel)
theorem zw81 : (Jvm.Cond.code ({ cls := "TubHire", name := "pass", desc := "(I)I" } : Jvm.MethodName) prog_1_method_21_code (2 : Nat) (Option.some Jvm.ClassFile.FieldType.int)) ∈ xAll := xin3 (List.mem_of_getElem? (i := 207) (by decide +kernel)) (by decide +kernel)
theorem zw82 : (Jvm.Cond.methodLink "TubHireLaw" (79 : Nat) ({ cls := "TubHire", name := "pass", desc := "(I)I" } : Jvm.MethodName)) ∈ xAll := xin3 (List.mem_of_getElem? (i := 204) (by decide +kernel)) (by decide +kernel)
theorem zw83 : (Jvm.Cond.instanceMethod ({ cls := "TubHire", name := "pass", desc := "(I)I" } : Jvm.MethodName)) ∈ xAll := xin3 (List.mem_of_getElem? (i := 205) (by decide +kernel)) (by decide +kernel)
theorem zw84 : (Jvm.Cond.selects "TubHire" ({ cls := "TubHire", name := "pass", desc := "(I)I" } : Jvm.MethodName) ({ cls := "TubHire", name := "pass", desc := "(I)I" } : Jvm.MethodName)) ∈ xAll := xin3 (List.mem_of_getElem? (i := 206) (by decide +kernel)) (by decide +kernel)
theorem zw85 : (Jvm.Cond.code ({ cls := "TubHire", name := "heatsIn", desc := "(II)I" } : Jvm.MethodName) prog_1_method_22_code (5 : Nat) (Option.some Jvm.ClassFile.FieldType.int)) ∈ xAll := xin6 (List.mem_of_getElem? (i := 5) (by decide +kernel)) (by decide +kernel)
theorem zw86 : (Jvm.Cond.methodLink "TubHireLaw" (82 : Nat) ({ cls := "TubHire", name := "heatsIn", desc := "(II)I" } : Jvm.MethodName)) ∈ xAll := xin6 (List.mem_of_getElem? (i := 2) (by decide +kernel)) (by decide +kernel)
theorem zw87 : (Jvm.Cond.instanceMethod ({ cls := "TubHire", name := "heatsIn", desc := "(II)I" } : Jvm.MethodName)) ∈ xAll := xin6 (List.mem_of_getElem? (i := 3) (by decide +kernel)) (by decide +kernel)
theorem zw88 : (Jvm.Cond.selects "TubHire" ({ cls := "TubHire", name := "heatsIn", desc := "(II)I" } : Jvm.MethodName) ({ cls := "TubHire", name := "heatsIn", desc := "(II)I" } : Jvm.MethodName)) ∈ xAll := xin6 (List.mem_of_getElem? (i := 4) (by decide +kernel)) (by decide +kernel)
theorem zw89 : (Jvm.Cond.code ({ cls := "TubHire", name := "heatsAgain", desc := "(II)I" } : Jvm.MethodName) prog_1_method_23_code (5 : Nat) (Option.some Jvm.ClassFile.FieldType.int)) ∈ xAll := xin6 (List.mem_of_getElem? (i := 18) (by decide +kernel)) (by decide +kernel)
theorem zw90 : (Jvm.Cond.methodLink "TubHireLaw" (85 : Nat) ({ cls := "TubHire", name := "heatsAgain", desc := "(II)I" } : Jvm.MethodName)) ∈ xAll := xin6 (List.mem_of_getElem? (i := 15) (by decide +kernel)) (by decide +kernel)
theorem zw91 : (Jvm.Cond.instanceMethod ({ cls := "TubHire", name := "heatsAgain", desc := "(II)I" } : Jvm.MethodName)) ∈ xAll := xin6 (List.mem_of_getElem? (i := 16) (by decide +kernel)) (by decide +kernel)
theorem zw92 : (Jvm.Cond.selects "TubHire" ({ cls := "TubHire", name := "heatsAgain", desc := "(II)I" } : Jvm.MethodName) ({ cls := "TubHire", name := "heatsAgain", desc := "(II)I" } : Jvm.MethodName)) ∈ xAll := xin6 (List.mem_of_getElem? (i := 17) (by decide +kernel)) (by decide +kernel)
theorem zw93 : (Jvm.Cond.code ({ cls := "TubHire", name := "bathesIn", desc := "(I)I" } : Jvm.MethodName) prog_1_method_24_code (3 : Nat) (Option.some Jvm.ClassFile.FieldType.int)) ∈ xAll := xin6 (List.mem_of_getElem? (i := 44) (by decide +kernel)) (by decide +kernel)
theorem zw94 : (Jvm.Cond.methodLink "TubHireLaw" (88 : Nat) ({ cls := "TubHire", name := "bathesIn", desc := "(I)I" } : Jvm.MethodName)) ∈ xAll := xin6 (List.mem_of_getElem? (i := 41) (by decide +kernel)) (by decide +kernel)
theorem zw95 : (Jvm.Cond.instanceMethod ({ cls := "TubHire", name := "bathesIn", desc := "(I)I" } : Jvm.MethodName)) ∈ xAll := xin6 (List.mem_of_getElem? (i := 42) (by decide +kernel)) (by decide +kernel)
theorem zw96 : (Jvm.Cond.selects "TubHire" ({ cls := "TubHire", name := "bathesIn", desc := "(I)I" } : Jvm.MethodName) ({ cls := "TubHire", name := "bathesIn", desc := "(I)I" } : Jvm.MethodName)) ∈ xAll := xin6 (List.mem_of_getElem? (i := 43) (by decide +kernel)) (by decide +kernel)
theorem zw97 : (Jvm.Cond.code ({ cls := "TubHire", name := "feed", desc := "(C)I" } : Jvm.MethodName) prog_1_method_31_code (2 : Nat) (Option.some Jvm.ClassFile.FieldType.int)) ∈ xAll := xin6 (List.mem_of_getElem? (i := 133) (by decide +kernel)) (by decide +kernel)
theorem zw98 : (Jvm.Cond.methodLink "TubHireLaw" (91 : Nat) ({ cls := "TubHire", name := "feed", desc := "(C)I" } : Jvm.MethodName)) ∈ xAll := xin6 (List.mem_of_getElem? (i := 130) (by decide +kernel)) (by decide +kernel)
theorem zw99 : (Jvm.Cond.instanceMethod ({ cls := "TubHire", name := "feed", desc := "(C)I" } : Jvm.MethodName)) ∈ xAll := xin6 (List.mem_of_getElem? (i := 131) (by decide +kernel)) (by decide +kernel)
theorem zw100 : (Jvm.Cond.selects "TubHire" ({ cls := "TubHire", name := "feed", desc := "(C)I" } : Jvm.MethodName) ({ cls := "TubHire", name := "feed", desc := "(C)I" } : Jvm.MethodName)) ∈ xAll := xin6 (List.mem_of_getElem? (i := 132) (by decide +kernel)) (by decide +kernel)
theorem zw101 : (Jvm.Cond.classLink "TubHireLaw" (95 : Nat) "java/lang/IllegalStateException") ∈ xAll := xin6 (List.mem_of_getElem? (i := 63) (by decide +kernel)) (by decide +kernel)
theorem zw102 : (Jvm.Cond.code ({ cls := "TubHire", name := "read", desc := "()I" } : Jvm.MethodName) prog_1_method_32_code (3 : Nat) (Option.some Jvm.ClassFile.FieldType.int)) ∈ xAll := xin6 (List.mem_of_getElem? (i := 145) (by decide +kernel)) (by decide +kernel)
theorem zw103 : (Jvm.Cond.methodLink "TubHireLaw" (97 : Nat) ({ cls := "TubHire", name := "read", desc := "()I" } : Jvm.MethodName)) ∈ xAll := xin6 (List.mem_of_getElem? (i := 142) (by decide +kernel)) (by decide +kernel)
theorem zw104 : (Jvm.Cond.instanceMethod ({ cls := "TubHire", name := "read", desc := "()I" } : Jvm.MethodName)) ∈ xAll := xin6 (List.mem_of_getElem? (i := 143) (by decide +kernel)) (by decide +kernel)
theorem zw105 : (Jvm.Cond.selects "TubHire" ({ cls := "TubHire", name := "read", desc := "()I" } : Jvm.MethodName) ({ cls := "TubHire", name := "read", desc := "()I" } : Jvm.MethodName)) ∈ xAll := xin6 (List.mem_of_getElem? (i := 144) (by decide +kernel)) (by decide +kernel)
theorem zw106 : (Jvm.Cond.code ({ cls := "TubHire", name := "refusal", desc := "(Z)I" } : Jvm.MethodName) prog_1_method_34_code (2 : Nat) (Option.some Jvm.ClassFile.FieldType.int)) ∈ xAll := xin4 (List.mem_of_getElem? (i := 24) (by decide +kernel)) (by decide +kernel)
theorem zw107 : (Jvm.Cond.methodLink "TubHireLaw" (118 : Nat) ({ cls := "TubHire", name := "refusal", desc := "(Z)I" } : Jvm.MethodName)) ∈ xAll := xin4 (List.mem_of_getElem? (i := 21) (by decide +kernel)) (by decide +kernel)
theorem zw108 : (Jvm.Cond.instanceMethod ({ cls := "TubHire", name := "refusal", desc := "(Z)I" } : Jvm.MethodName)) ∈ xAll := xin4 (List.mem_of_getElem? (i := 22) (by decide +kernel)) (by decide +kernel)
theorem zw109 : (Jvm.Cond.selects "TubHire" ({ cls := "TubHire", name := "refusal", desc := "(Z)I" } : Jvm.MethodName) ({ cls := "TubHire", name := "refusal", desc := "(Z)I" } : Jvm.MethodName)) ∈ xAll := xin4 (List.mem_of_getElem? (i := 23) (by decide +kernel)) (by decide +kernel)
theorem zw110 : (Jvm.Cond.code ({ cls := "TubHire", name := "undo", desc := "()I" } : Jvm.MethodName) prog_1_method_35_code (1 : Nat) (Option.some Jvm.ClassFile.FieldType.int)) ∈ xAll := xin6 (List.mem_of_getElem? (i := 67) (by decide +kernel)) (by decide +kernel)
theorem zw111 : (Jvm.Cond.methodLink "TubHireLaw" (122 : Nat) ({ cls := "TubHire", name := "undo", desc := "()I" } : Jvm.MethodName)) ∈ xAll := xin6 (List.mem_of_getElem? (i := 64) (by decide +kernel)) (by decide +kernel)
theorem zw112 : (Jvm.Cond.instanceMethod ({ cls := "TubHire", name := "undo", desc := "()I" } : Jvm.MethodName)) ∈ xAll := xin6 (List.mem_of_getElem? (i := 65) (by decide +kernel)) (by decide +kernel)
theorem zw113 : (Jvm.Cond.selects "TubHire" ({ cls := "TubHire", name := "undo", desc := "()I" } : Jvm.MethodName) ({ cls := "TubHire", name := "undo", desc := "()I" } : Jvm.MethodName)) ∈ xAll := xin6 (List.mem_of_getElem? (i := 66) (by decide +kernel)) (by decide +kernel)
/-- TubHireLaw.tub(LTubHire;I)I -/
def M_L_tub : xM := (yL_tub, cL_tub, 3, (some FieldType.int), Cond.codeWith yL_tub cL_tub 3 (some FieldType.int) [(0, 5, 6, 14), (0, 5, 9, 16)] :: xAll, { frames := 10, cells := 1, slots := 6, locals := 202 }, (1, 6), [(0, 5, 6, 14), (0, 5, 9, 16)])
theorem s_L_tub_8 : xSv M_L_tub M_X9_tub 8 1 := fun s args hts => ⟨callB_of 1 hts (xGood zw0) rfl rfl rfl (hts _ (List.mem_cons_of_mem _ (zw1))) (hts _ (List.mem_cons_of_mem _ (zw2))) (by decide +kernel) ⟨Nat.le_of_ble_eq_true rfl, Nat.le_of_ble_eq_true rfl⟩, (hts _ (List.mem_cons_of_mem _ (zw3))), (hts _ (List.mem_cons_of_mem _ (zw4)))⟩
set_option maxRecDepth 100000 in
set_option maxHeartbeats 4000000 in
theorem ct_L_tub {E : xE} {Po : xPo} {w : xW} {x : Nat} (k : Nat) (v : Int32) {p0 : Int32} {h : xHi} (Qh : xHi → Prop) (H : HI E w x h) (hk : k ≤ 2) (hq : ∀ h2, Qh h2 → h2.2.2.2.2.1 = h.2.2.2.2.1) (c1 : ∀ Po : xPo, (∀ u h2, Qh h2 → HI E u x h2 → Fr w u x h → Po (rs ["java/lang/IllegalArgumentException", "java/lang/UnsupportedOperationException"] k v) u) → Ct M_X9_tub E (.ref x :: [.int p0]) w Po) (hp : ∀ u h2, Qh h2 → HI E u x h2 → FX w u x h h2 → Po (.inl (some (.int (if k = 0 then v else if k = 1 then (-1) else (-2))))) u) : Ct M_L_tub E [.ref x, .int p0] w Po := by
  refine Ct.ofH (ws2 := xAll) (L := [some (.ref x), some (.int p0), none]) (by decide +kernel) rfl (List.forall_mem_cons.mpr ⟨rfl, (List.forall_mem_cons.mpr ⟨rfl, fun _ h => absurd h List.not_mem_nil⟩)⟩) (Nat.le_of_ble_eq_true rfl) rfl ?_
  refine r_aload_n (q := 1) dL_tub_0 rfl rfl rfl ?_
  refine r_iload_n (q := 2) dL_tub_1 rfl rfl rfl ?_
  refine r_callVH (q := 5) (ci := 11) (As := [_]) dL_tub_2 s_L_tub_8 H.1.1 rfl rfl (Nat.le_of_ble_eq_true rfl) rfl rfl rfl ⟨(Nat.le_of_ble_eq_true rfl), (Nat.le_of_ble_eq_true rfl)⟩ rfl ?_
  refine c1 _ (fun u h2 q1 q3 q4 => ?_)
  have hp9 := hp u h2 q1 q3 ⟨q4, Or.inl (hq h2 q1)⟩
  by_cases k0 : k = 0
  · subst k0
    rw [if_pos rfl] at hp9
    show WF _ E Po _ _ _ [.int v] u _ _
    refine r_iret dL_tub_5 rfl (Nat.le_of_ble_eq_true rfl) (Nat.le_of_ble_eq_true rfl) ?_
    exact hp9
  by_cases k1 : k = 1
  · subst k1
    rw [if_neg (by decide), if_pos rfl] at hp9
    show ∃ h9, xGet _ _ "java/lang/IllegalArgumentException" h9 ∧ ∀ q9 : Nat, WF _ E Po _ h9 _ [.ref q9] u _ _
    refine ⟨6, ⟨[], (0, 5, 6, 14), [(0, 5, 9, 16)], rfl, fun _ h => absurd h List.not_mem_nil, ⟨by decide, by decide⟩, by decide, List.mem_cons_of_mem _ (zw5), by decide, rfl⟩, fun q9 => ?_⟩
    refine r_astore_n (q := 7) dL_tub_6 rfl (Nat.le_of_ble_eq_true rfl) (xone_of rfl) rfl ?_
    refine r_iconst (q := 8) (v := (-1)) dL_tub_7 rfl rfl ?_
    refine r_iret dL_tub_8 rfl (Nat.le_of_ble_eq_true rfl) (Nat.le_of_ble_eq_true rfl) ?_
    exact hp9
  by_cases k2 : k = 2
  · subst k2
    rw [if_neg (by decide), if_neg (by decide)] at hp9
    show ∃ h9, xGet _ _ "java/lang/UnsupportedOperationException" h9 ∧ ∀ q9 : Nat, WF _ E Po _ h9 _ [.ref q9] u _ _
    refine ⟨9, ⟨[(0, 5, 6, 14)], (0, 5, 9, 16), [], rfl, List.forall_mem_cons.mpr ⟨⟨by decide, _, List.mem_cons_of_mem _ (zw5), by decide⟩, fun _ h => absurd h List.not_mem_nil⟩, ⟨by decide, by decide⟩, by decide, List.mem_cons_of_mem _ (zw6), by decide, rfl⟩, fun q9 => ?_⟩
    refine r_astore_n (q := 10) dL_tub_9 rfl (Nat.le_of_ble_eq_true rfl) (xone_of rfl) rfl ?_
    refine r_bipush (q := 12) (v := (-2)) dL_tub_10 (by decide) rfl ?_
    refine r_iret dL_tub_12 rfl (Nat.le_of_ble_eq_true rfl) (Nat.le_of_ble_eq_true rfl) ?_
    exact hp9
  omega
/-- TubHireLaw.tubOf(LTubHire;II)I -/
def M_L_tubOf : xM := (yL_tubOf, cL_tubOf, 4, (some FieldType.int), Cond.codeWith yL_tubOf cL_tubOf 4 (some FieldType.int) [(0, 6, 7, 22), (0, 6, 11, 14)] :: xAll, { frames := 9, cells := 1, slots := 6, locals := 183 }, (1, 6), [(0, 6, 7, 22), (0, 6, 11, 14)])
theorem s_L_tubOf_18 : xSv M_L_tubOf M_X9_tubOf 18 2 := fun s args hts => ⟨callB_of 2 hts (xGood zw7) rfl rfl rfl (hts _ (List.mem_cons_of_mem _ (zw1))) (hts _ (List.mem_cons_of_mem _ (zw8))) (by decide +kernel) ⟨Nat.le_of_ble_eq_true rfl, Nat.le_of_ble_eq_true rfl⟩, (hts _ (List.mem_cons_of_mem _ (zw9))), (hts _ (List.mem_cons_of_mem _ (zw10)))⟩
set_option maxRecDepth 100000 in
set_option maxHeartbeats 4000000 in
theorem ct_L_tubOf {E : xE} {Po : xPo} {w : xW} {x : Nat} (k : Nat) (v : Int32) {p0 p1 : Int32} {h : xHi} (Qh : xHi → Prop) (H : HI E w x h) (hk : k ≤ 2) (hq : ∀ h2, Qh h2 → h2.2.2.2.2.1 = h.2.2.2.2.1) (c1 : ∀ Po : xPo, (∀ u h2, Qh h2 → HI E u x h2 → Fr w u x h → Po (rs ["java/lang/IndexOutOfBoundsException", "java/lang/IllegalArgumentException"] k v) u) → Ct M_X9_tubOf E (.ref x :: [.int p0, .int p1]) w Po) (hp : ∀ u h2, Qh h2 → HI E u x h2 → FX w u x h h2 → Po (.inl (some (.int (if k = 0 then v else if k = 1 then (-11) else (-12))))) u) : Ct M_L_tubOf E [.ref x, .int p0, .int p1] w Po := by
  refine Ct.ofH (ws2 := xAll) (L := [some (.ref x), some (.int p0), some (.int p1), none]) (by decide +kernel) rfl (List.forall_mem_cons.mpr ⟨rfl, (List.forall_mem_cons.mpr ⟨rfl, (List.forall_mem_cons.mpr ⟨rfl, fun _ h => absurd h List.not_mem_nil⟩)⟩)⟩) (Nat.le_of_ble_eq_true rfl) rfl ?_
  refine r_aload_n (q := 1) dL_tubOf_0 rfl rfl rfl ?_
  refine r_iload_n (q := 2) dL_tubOf_1 rfl rfl rfl ?_
  refine r_iload_n (q := 3) dL_tubOf_2 rfl rfl rfl ?_
  refine r_callVH (q := 6) (ci := 11) (As := [_, _]) dL_tubOf_3 s_L_tubOf_18 H.1.1 rfl rfl (Nat.le_of_ble_eq_true rfl) rfl rfl rfl ⟨(Nat.le_of_ble_eq_true rfl), (Nat.le_of_ble_eq_true rfl)⟩ rfl ?_
  refine c1 _ (fun u h2 q1 q3 q4 => ?_)
  have hp9 := hp u h2 q1 q3 ⟨q4, Or.inl (hq h2 q1)⟩
  by_cases k0 : k = 0
  · subst k0
    rw [if_pos rfl] at hp9
    show WF _ E Po _ _ _ [.int v] u _ _
    refine r_iret dL_tubOf_6 rfl (Nat.le_of_ble_eq_true rfl) (Nat.le_of_ble_eq_true rfl) ?_
    exact hp9
  by_cases k1 : k = 1
  · subst k1
    rw [if_neg (by decide), if_pos rfl] at hp9
    show ∃ h9, xGet _ _ "java/lang/IndexOutOfBoundsException" h9 ∧ ∀ q9 : Nat, WF _ E Po _ h9 _ [.ref q9] u _ _
    refine ⟨7, ⟨[], (0, 6, 7, 22), [(0, 6, 11, 14)], rfl, fun _ h => absurd h List.not_mem_nil, ⟨by decide, by decide⟩, by decide, List.mem_cons_of_mem _ (zw11), by decide, rfl⟩, fun q9 => ?_⟩
    refine r_astore_n (q := 8) dL_tubOf_7 rfl (Nat.le_of_ble_eq_true rfl) (xone_of rfl) rfl ?_
    refine r_bipush (q := 10) (v := (-11)) dL_tubOf_8 (by decide) rfl ?_
    refine r_iret dL_tubOf_10 rfl (Nat.le_of_ble_eq_true rfl) (Nat.le_of_ble_eq_true rfl) ?_
    exact hp9
  by_cases k2 : k = 2
  · subst k2
    rw [if_neg (by decide), if_neg (by decide)] at hp9
    show ∃ h9, xGet _ _ "java/lang/IllegalArgumentException" h9 ∧ ∀ q9 : Nat, WF _ E Po _ h9 _ [.ref q9] u _ _
    refine ⟨11, ⟨[(0, 6, 7, 22)], (0, 6, 11, 14), [], rfl, List.forall_mem_cons.mpr ⟨⟨by decide, _, List.mem_cons_of_mem _ (zw11), by decide⟩, fun _ h => absurd h List.not_mem_nil⟩, ⟨by decide, by decide⟩, by decide, List.mem_cons_of_mem _ (zw5), by decide, rfl⟩, fun q9 => ?_⟩
    refine r_astore_n (q := 12) dL_tubOf_11 rfl (Nat.le_of_ble_eq_true rfl) (xone_of rfl) rfl ?_
    refine r_bipush (q := 14) (v := (-12)) dL_tubOf_12 (by decide) rfl ?_
    refine r_iret dL_tubOf_14 rfl (Nat.le_of_ble_eq_true rfl) (Nat.le_of_ble_eq_true rfl) ?_
    exact hp9
  omega
/-- TubHireLaw.torn(LTubHire;II)I -/
def M_L_torn : xM := (yL_torn, cL_torn, 4, (some FieldType.int), Cond.codeWith yL_torn cL_torn 4 (some FieldType.int) [(0, 6, 7, 22), (0, 6, 11, 27)] :: xAll, { frames := 9, cells := 1, slots := 6, locals := 184 }, (1, 6), [(0, 6, 7, 22), (0, 6, 11, 27)])
theorem s_L_torn_24 : xSv M_L_torn M_X9_torn 24 2 := fun s args hts => ⟨callB_of 2 hts (xGood zw12) rfl rfl rfl (hts _ (List.mem_cons_of_mem _ (zw1))) (hts _ (List.mem_cons_of_mem _ (zw13))) (by decide +kernel) ⟨Nat.le_of_ble_eq_true rfl, Nat.le_of_ble_eq_true rfl⟩, (hts _ (List.mem_cons_of_mem _ (zw14))), (hts _ (List.mem_cons_of_mem _ (zw15)))⟩
set_option maxRecDepth 100000 in
set_option maxHeartbeats 4000000 in
theorem ct_L_torn {E : xE} {Po : xPo} {w : xW} {x : Nat} (k : Nat) (v : Int32) {p0 p1 : Int32} {h : xHi} (Qh : xHi → Prop) (H : HI E w x h) (hk : k ≤ 2) (hq : ∀ h2, Qh h2 → h2.2.2.2.2.1 = h.2.2.2.2.1) (c1 : ∀ Po : xPo, (∀ u h2, Qh h2 → HI E u x h2 → Fr w u x h → Po (rs ["java/lang/IndexOutOfBoundsException", "java/util/NoSuchElementException"] k v) u) → Ct M_X9_torn E (.ref x :: [.int p0, .int p1]) w Po) (hp : ∀ u h2, Qh h2 → HI E u x h2 → FX w u x h h2 → Po (.inl (some (.int (if k = 0 then v else if k = 1 then (-11) else (-13))))) u) : Ct M_L_torn E [.ref x, .int p0, .int p1] w Po := by
  refine Ct.ofH (ws2 := xAll) (L := [some (.ref x), some (.int p0), some (.int p1), none]) (by decide +kernel) rfl (List.forall_mem_cons.mpr ⟨rfl, (List.forall_mem_cons.mpr ⟨rfl, (List.forall_mem_cons.mpr ⟨rfl, fun _ h => absurd h List.not_mem_nil⟩)⟩)⟩) (Nat.le_of_ble_eq_true rfl) rfl ?_
  refine r_aload_n (q := 1) dL_torn_0 rfl rfl rfl ?_
  refine r_iload_n (q := 2) dL_torn_1 rfl rfl rfl ?_
  refine r_iload_n (q := 3) dL_torn_2 rfl rfl rfl ?_
  refine r_callVH (q := 6) (ci := 11) (As := [_, _]) dL_torn_3 s_L_torn_24 H.1.1 rfl rfl (Nat.le_of_ble_eq_true rfl) rfl rfl rfl ⟨(Nat.le_of_ble_eq_true rfl), (Nat.le_of_ble_eq_true rfl)⟩ rfl ?_
  refine c1 _ (fun u h2 q1 q3 q4 => ?_)
  have hp9 := hp u h2 q1 q3 ⟨q4, Or.inl (hq h2 q1)⟩
  by_cases k0 : k = 0
  · subst k0
    rw [if_pos rfl] at hp9
    show WF _ E Po _ _ _ [.int v] u _ _
    refine r_iret dL_torn_6 rfl (Nat.le_of_ble_eq_true rfl) (Nat.le_of_ble_eq_true rfl) ?_
    exact hp9
  by_cases k1 : k = 1
  · subst k1
    rw [if_neg (by decide), if_pos rfl] at hp9
    show ∃ h9, xGet _ _ "java/lang/IndexOutOfBoundsException" h9 ∧ ∀ q9 : Nat, WF _ E Po _ h9 _ [.ref q9] u _ _
    refine ⟨7, ⟨[], (0, 6, 7, 22), [(0, 6, 11, 27)], rfl, fun _ h => absurd h List.not_mem_nil, ⟨by decide, by decide⟩, by decide, List.mem_cons_of_mem _ (zw11), by decide, rfl⟩, fun q9 => ?_⟩
    refine r_astore_n (q := 8) dL_torn_7 rfl (Nat.le_of_ble_eq_true rfl) (xone_of rfl) rfl ?_
    refine r_bipush (q := 10) (v := (-11)) dL_torn_8 (by decide) rfl ?_
    refine r_iret dL_torn_10 rfl (Nat.le_of_ble_eq_true rfl) (Nat.le_of_ble_eq_true rfl) ?_
    exact hp9
  by_cases k2 : k = 2
  · subst k2
    rw [if_neg (by decide), if_neg (by decide)] at hp9
    show ∃ h9, xGet _ _ "java/util/NoSuchElementException" h9 ∧ ∀ q9 : Nat, WF _ E Po _ h9 _ [.ref q9] u _ _
    refine ⟨11, ⟨[(0, 6, 7, 22)], (0, 6, 11, 27), [], rfl, List.forall_mem_cons.mpr ⟨⟨by decide, _, List.mem_cons_of_mem _ (zw11), by decide⟩, fun _ h => absurd h List.not_mem_nil⟩, ⟨by decide, by decide⟩, by decide, List.mem_cons_of_mem _ (zw16), by decide, rfl⟩, fun q9 => ?_⟩
    refine r_astore_n (q := 12) dL_torn_11 rfl (Nat.le_of_ble_eq_true rfl) (xone_of rfl) rfl ?_
    refine r_bipush (q := 14) (v := (-13)) dL_torn_12 (by decide) rfl ?_
    refine r_iret dL_torn_14 rfl (Nat.le_of_ble_eq_true rfl) (Nat.le_of_ble_eq_true rfl) ?_
    exact hp9
  omega
/-- TubHireLaw.tear(LTubHire;II)I -/
def M_L_tear : xM := (yL_tear, cL_tear, 4, (some FieldType.int), Cond.codeWith yL_tear cL_tear 4 (some FieldType.int) [(0, 6, 7, 22)] :: xAll, { frames := 10, cells := 1, slots := 6, locals := 203 }, (1, 6), [(0, 6, 7, 22)])
theorem s_L_tear_29 : xSv M_L_tear M_X9_tear 29 2 := fun s args hts => ⟨callB_of 2 hts (xGood zw17) rfl rfl rfl (hts _ (List.mem_cons_of_mem _ (zw1))) (hts _ (List.mem_cons_of_mem _ (zw18))) (by decide +kernel) ⟨Nat.le_of_ble_eq_true rfl, Nat.le_of_ble_eq_true rfl⟩, (hts _ (List.mem_cons_of_mem _ (zw19))), (hts _ (List.mem_cons_of_mem _ (zw20)))⟩
set_option maxRecDepth 100000 in
set_option maxHeartbeats 4000000 in
theorem ct_L_tear {E : xE} {Po : xPo} {w : xW} {x : Nat} (k : Nat) (v : Int32) {p0 p1 : Int32} {h : xHi} (Qh : xHi → Prop) (H : HI E w x h) (hk : k ≤ 1) (hq : ∀ h2, Qh h2 → h2.2.2.2.2.1 = h.2.2.2.2.1) (c1 : ∀ Po : xPo, (∀ u h2, Qh h2 → HI E u x h2 → Fr w u x h → Po (rs ["java/lang/IndexOutOfBoundsException"] k v) u) → Ct M_X9_tear E (.ref x :: [.int p0, .int p1]) w Po) (hp : ∀ u h2, Qh h2 → HI E u x h2 → FX w u x h h2 → Po (.inl (some (.int (if k = 0 then v else (-1))))) u) : Ct M_L_tear E [.ref x, .int p0, .int p1] w Po := by
  refine Ct.ofH (ws2 := xAll) (L := [some (.ref x), some (.int p0), some (.int p1), none]) (by decide +kernel) rfl (List.forall_mem_cons.mpr ⟨rfl, (List.forall_mem_cons.mpr ⟨rfl, (List.forall_mem_cons.mpr ⟨rfl, fun _ h => absurd h List.not_mem_nil⟩)⟩)⟩) (Nat.le_of_ble_eq_true rfl) rfl ?_
  refine r_aload_n (q := 1) dL_tear_0 rfl rfl rfl ?_
  refine r_iload_n (q := 2) dL_tear_1 rfl rfl rfl ?_
  refine r_iload_n (q := 3) dL_tear_2 rfl rfl rfl ?_
  refine r_callVH (q := 6) (ci := 11) (As := [_, _]) dL_tear_3 s_L_tear_29 H.1.1 rfl rfl (Nat.le_of_ble_eq_true rfl) rfl rfl rfl ⟨(Nat.le_of_ble_eq_true rfl), (Nat.le_of_ble_eq_true rfl)⟩ rfl ?_
  refine c1 _ (fun u h2 q1 q3 q4 => ?_)
  have hp9 := hp u h2 q1 q3 ⟨q4, Or.inl (hq h2 q1)⟩
  by_cases k0 : k = 0
  · subst k0
    rw [if_pos rfl] at hp9
    show WF _ E Po _ _ _ [.int v] u _ _
    refine r_iret dL_tear_6 rfl (Nat.le_of_ble_eq_true rfl) (Nat.le_of_ble_eq_true rfl) ?_
    exact hp9
  by_cases k1 : k = 1
  · subst k1
    rw [if_neg (by decide)] at hp9
    show ∃ h9, xGet _ _ "java/lang/IndexOutOfBoundsException" h9 ∧ ∀ q9 : Nat, WF _ E Po _ h9 _ [.ref q9] u _ _
    refine ⟨7, ⟨[], (0, 6, 7, 22), [], rfl, fun _ h => absurd h List.not_mem_nil, ⟨by decide, by decide⟩, by decide, List.mem_cons_of_mem _ (zw11), by decide, rfl⟩, fun q9 => ?_⟩
    refine r_astore_n (q := 8) dL_tear_7 rfl (Nat.le_of_ble_eq_true rfl) (xone_of rfl) rfl ?_
    refine r_iconst (q := 9) (v := (-1)) dL_tear_8 rfl rfl ?_
    refine r_iret dL_tear_9 rfl (Nat.le_of_ble_eq_true rfl) (Nat.le_of_ble_eq_true rfl) ?_
    exact hp9
  omega
/-- TubHireLaw.mend(LTubHire;II)I -/
def M_L_mend : xM := (yL_mend, cL_mend, 4, (some FieldType.int), Cond.codeWith yL_mend cL_mend 4 (some FieldType.int) [(0, 6, 7, 22), (0, 6, 10, 16)] :: xAll, { frames := 10, cells := 1, slots := 6, locals := 203 }, (1, 6), [(0, 6, 7, 22), (0, 6, 10, 16)])
theorem s_L_mend_32 : xSv M_L_mend M_X9_mend 32 2 := fun s args hts => ⟨callB_of 2 hts (xGood zw21) rfl rfl rfl (hts _ (List.mem_cons_of_mem _ (zw1))) (hts _ (List.mem_cons_of_mem _ (zw22))) (by decide +kernel) ⟨Nat.le_of_ble_eq_true rfl, Nat.le_of_ble_eq_true rfl⟩, (hts _ (List.mem_cons_of_mem _ (zw23))), (hts _ (List.mem_cons_of_mem _ (zw24)))⟩
set_option maxRecDepth 100000 in
set_option maxHeartbeats 4000000 in
theorem ct_L_mend {E : xE} {Po : xPo} {w : xW} {x : Nat} (k : Nat) (v : Int32) {p0 p1 : Int32} {h : xHi} (Qh : xHi → Prop) (H : HI E w x h) (hk : k ≤ 2) (hq : ∀ h2, Qh h2 → h2.2.2.2.2.1 = h.2.2.2.2.1) (c1 : ∀ Po : xPo, (∀ u h2, Qh h2 → HI E u x h2 → Fr w u x h → Po (rs ["java/lang/IndexOutOfBoundsException", "java/lang/UnsupportedOperationException"] k v) u) → Ct M_X9_mend E (.ref x :: [.int p0, .int p1]) w Po) (hp : ∀ u h2, Qh h2 → HI E u x h2 → FX w u x h h2 → Po (.inl (some (.int (if k = 0 then v else if k = 1 then (-1) else (-2))))) u) : Ct M_L_mend E [.ref x, .int p0, .int p1] w Po := by
  refine Ct.ofH (ws2 := xAll) (L := [some (.ref x), some (.int p0), some (.int p1), none]) (by decide +kernel) rfl (List.forall_mem_cons.mpr ⟨rfl, (List.forall_mem_cons.mpr ⟨rfl, (List.forall_mem_cons.mpr ⟨rfl, fun _ h => absurd h List.not_mem_nil⟩)⟩)⟩) (Nat.le_of_ble_eq_true rfl) rfl ?_
  refine r_aload_n (q := 1) dL_mend_0 rfl rfl rfl ?_
  refine r_iload_n (q := 2) dL_mend_1 rfl rfl rfl ?_
  refine r_iload_n (q := 3) dL_mend_2 rfl rfl rfl ?_
  refine r_callVH (q := 6) (ci := 11) (As := [_, _]) dL_mend_3 s_L_mend_32 H.1.1 rfl rfl (Nat.le_of_ble_eq_true rfl) rfl rfl rfl ⟨(Nat.le_of_ble_eq_true rfl), (Nat.le_of_ble_eq_true rfl)⟩ rfl ?_
  refine c1 _ (fun u h2 q1 q3 q4 => ?_)
  have hp9 := hp u h2 q1 q3 ⟨q4, Or.inl (hq h2 q1)⟩
  by_cases k0 : k = 0
  · subst k0
    rw [if_pos rfl] at hp9
    show WF _ E Po _ _ _ [.int v] u _ _
    refine r_iret dL_mend_6 rfl (Nat.le_of_ble_eq_true rfl) (Nat.le_of_ble_eq_true rfl) ?_
    exact hp9
  by_cases k1 : k = 1
  · subst k1
    rw [if_neg (by decide), if_pos rfl] at hp9
    show ∃ h9, xGet _ _ "java/lang/IndexOutOfBoundsException" h9 ∧ ∀ q9 : Nat, WF _ E Po _ h9 _ [.ref q9] u _ _
    refine ⟨7, ⟨[], (0, 6, 7, 22), [(0, 6, 10, 16)], rfl, fun _ h => absurd h List.not_mem_nil, ⟨by decide, by decide⟩, by decide, List.mem_cons_of_mem _ (zw11), by decide, rfl⟩, fun q9 => ?_⟩
    refine r_astore_n (q := 8) dL_mend_7 rfl (Nat.le_of_ble_eq_true rfl) (xone_of rfl) rfl ?_
    refine r_iconst (q := 9) (v := (-1)) dL_mend_8 rfl rfl ?_
    refine r_iret dL_mend_9 rfl (Nat.le_of_ble_eq_true rfl) (Nat.le_of_ble_eq_true rfl) ?_
    exact hp9
  by_cases k2 : k = 2
  · subst k2
    rw [if_neg (by decide), if_neg (by decide)] at hp9
    show ∃ h9, xGet _ _ "java/lang/UnsupportedOperationException" h9 ∧ ∀ q9 : Nat, WF _ E Po _ h9 _ [.ref q9] u _ _
    refine ⟨10, ⟨[(0, 6, 7, 22)], (0, 6, 10, 16), [], rfl, List.forall_mem_cons.mpr ⟨⟨by decide, _, List.mem_cons_of_mem _ (zw11), by decide⟩, fun _ h => absurd h List.not_mem_nil⟩, ⟨by decide, by decide⟩, by decide, List.mem_cons_of_mem _ (zw6), by decide, rfl⟩, fun q9 => ?_⟩
    refine r_astore_n (q := 11) dL_mend_10 rfl (Nat.le_of_ble_eq_true rfl) (xone_of rfl) rfl ?_
    refine r_bipush (q := 13) (v := (-2)) dL_mend_11 (by decide) rfl ?_
    refine r_iret dL_mend_13 rfl (Nat.le_of_ble_eq_true rfl) (Nat.le_of_ble_eq_true rfl) ?_
    exact hp9
  omega
/-- TubHireLaw.bestTub(LTubHire;)I -/
def M_L_bestTub : xM := (yL_bestTub, cL_bestTub, 2, (some FieldType.int), Cond.codeWith yL_bestTub cL_bestTub 2 (some FieldType.int) [(0, 4, 5, 27)] :: xAll, { frames := 9, cells := 1, slots := 6, locals := 181 }, (1, 6), [(0, 4, 5, 27)])
theorem s_L_bestTub_35 : xSv M_L_bestTub M_X9_bestTub 35 0 := fun s args hts => ⟨callB_of 0 hts (xGood zw25) rfl rfl rfl (hts _ (List.mem_cons_of_mem _ (zw1))) (hts _ (List.mem_cons_of_mem _ (zw26))) (by decide +kernel) ⟨Nat.le_of_ble_eq_true rfl, Nat.le_of_ble_eq_true rfl⟩, (hts _ (List.mem_cons_of_mem _ (zw27))), (hts _ (List.mem_cons_of_mem _ (zw28)))⟩
set_option maxRecDepth 100000 in
set_option maxHeartbeats 4000000 in
theorem ct_L_bestTub {E : xE} {Po : xPo} {w : xW} {x : Nat} (k : Nat) (v : Int32) {h : xHi} (Qh : xHi → Prop) (H : HI E w x h) (hk : k ≤ 1) (hq : ∀ h2, Qh h2 → h2.2.2.2.2.1 = h.2.2.2.2.1) (c1 : ∀ Po : xPo, (∀ u h2, Qh h2 → HI E u x h2 → Fr w u x h → Po (rs ["java/util/NoSuchElementException"] k v) u) → Ct M_X9_bestTub E (.ref x :: []) w Po) (hp : ∀ u h2, Qh h2 → HI E u x h2 → FX w u x h h2 → Po (.inl (some (.int (if k = 0 then v else (-13))))) u) : Ct M_L_bestTub E [.ref x] w Po := by
  refine Ct.ofH (ws2 := xAll) (L := [some (.ref x), none]) (by decide +kernel) rfl (List.forall_mem_cons.mpr ⟨rfl, fun _ h => absurd h List.not_mem_nil⟩) (Nat.le_of_ble_eq_true rfl) rfl ?_
  refine r_aload_n (q := 1) dL_bestTub_0 rfl rfl rfl ?_
  refine r_callVH (q := 4) (ci := 11) (As := []) dL_bestTub_1 s_L_bestTub_35 H.1.1 rfl rfl (Nat.le_of_ble_eq_true rfl) rfl rfl rfl ⟨(Nat.le_of_ble_eq_true rfl), (Nat.le_of_ble_eq_true rfl)⟩ rfl ?_
  refine c1 _ (fun u h2 q1 q3 q4 => ?_)
  have hp9 := hp u h2 q1 q3 ⟨q4, Or.inl (hq h2 q1)⟩
  by_cases k0 : k = 0
  · subst k0
    rw [if_pos rfl] at hp9
    show WF _ E Po _ _ _ [.int v] u _ _
    refine r_iret dL_bestTub_4 rfl (Nat.le_of_ble_eq_true rfl) (Nat.le_of_ble_eq_true rfl) ?_
    exact hp9
  by_cases k1 : k = 1
  · subst k1
    rw [if_neg (by decide)] at hp9
    show ∃ h9, xGet _ _ "java/util/NoSuchElementException" h9 ∧ ∀ q9 : Nat, WF _ E Po _ h9 _ [.ref q9] u _ _
    refine ⟨5, ⟨[], (0, 4, 5, 27), [], rfl, fun _ h => absurd h List.not_mem_nil, ⟨by decide, by decide⟩, by decide, List.mem_cons_of_mem _ (zw16), by decide, rfl⟩, fun q9 => ?_⟩
    refine r_astore_n (q := 6) dL_bestTub_5 rfl (Nat.le_of_ble_eq_true rfl) (xone_of rfl) rfl ?_
    refine r_bipush (q := 8) (v := (-13)) dL_bestTub_6 (by decide) rfl ?_
    refine r_iret dL_bestTub_8 rfl (Nat.le_of_ble_eq_true rfl) (Nat.le_of_ble_eq_true rfl) ?_
    exact hp9
  omega
/-- TubHireLaw.out(LTubHire;II)I -/
def M_L_out : xM := (yL_out, cL_out, 4, (some FieldType.int), Cond.codeWith yL_out cL_out 4 (some FieldType.int) [(0, 6, 7, 22), (0, 6, 10, 16)] :: xAll, { frames := 10, cells := 1, slots := 6, locals := 203 }, (1, 6), [(0, 6, 7, 22), (0, 6, 10, 16)])
theorem s_L_out_39 : xSv M_L_out M_X9_out 39 2 := fun s args hts => ⟨callB_of 2 hts (xGood zw29) rfl rfl rfl (hts _ (List.mem_cons_of_mem _ (zw1))) (hts _ (List.mem_cons_of_mem _ (zw30))) (by decide +kernel) ⟨Nat.le_of_ble_eq_true rfl, Nat.le_of_ble_eq_true rfl⟩, (hts _ (List.mem_cons_of_mem _ (zw31))), (hts _ (List.mem_cons_of_mem _ (zw32)))⟩
set_option maxRecDepth 100000 in
set_option maxHeartbeats 4000000 in
theorem ct_L_out {E : xE} {Po : xPo} {w : xW} {x : Nat} (k : Nat) (v : Int32) {p0 p1 : Int32} {h : xHi} (Qh : xHi → Prop) (H : HI E w x h) (hk : k ≤ 2) (hq : ∀ h2, Qh h2 → h2.2.2.2.2.1 = h.2.2.2.2.1) (c1 : ∀ Po : xPo, (∀ u h2, Qh h2 → HI E u x h2 → Fr w u x h → Po (rs ["java/lang/IndexOutOfBoundsException", "java/lang/UnsupportedOperationException"] k v) u) → Ct M_X9_out E (.ref x :: [.int p0, .int p1]) w Po) (hp : ∀ u h2, Qh h2 → HI E u x h2 → FX w u x h h2 → Po (.inl (some (.int (if k = 0 then v else if k = 1 then (-1) else (-2))))) u) : Ct M_L_out E [.ref x, .int p0, .int p1] w Po := by
  refine Ct.ofH (ws2 := xAll) (L := [some (.ref x), some (.int p0), some (.int p1), none]) (by decide +kernel) rfl (List.forall_mem_cons.mpr ⟨rfl, (List.forall_mem_cons.mpr ⟨rfl, (List.forall_mem_cons.mpr ⟨rfl, fun _ h => absurd h List.not_mem_nil⟩)⟩)⟩) (Nat.le_of_ble_eq_true rfl) rfl ?_
  refine r_aload_n (q := 1) dL_out_0 rfl rfl rfl ?_
  refine r_iload_n (q := 2) dL_out_1 rfl rfl rfl ?_
  refine r_iload_n (q := 3) dL_out_2 rfl rfl rfl ?_
  refine r_callVH (q := 6) (ci := 11) (As := [_, _]) dL_out_3 s_L_out_39 H.1.1 rfl rfl (Nat.le_of_ble_eq_true rfl) rfl rfl rfl ⟨(Nat.le_of_ble_eq_true rfl), (Nat.le_of_ble_eq_true rfl)⟩ rfl ?_
  refine c1 _ (fun u h2 q1 q3 q4 => ?_)
  have hp9 := hp u h2 q1 q3 ⟨q4, Or.inl (hq h2 q1)⟩
  by_cases k0 : k = 0
  · subst k0
    rw [if_pos rfl] at hp9
    show WF _ E Po _ _ _ [.int v] u _ _
    refine r_iret dL_out_6 rfl (Nat.le_of_ble_eq_true rfl) (Nat.le_of_ble_eq_true rfl) ?_
    exact hp9
  by_cases k1 : k = 1
  · subst k1
    rw [if_neg (by decide), if_pos rfl] at hp9
    show ∃ h9, xGet _ _ "java/lang/IndexOutOfBoundsException" h9 ∧ ∀ q9 : Nat, WF _ E Po _ h9 _ [.ref q9] u _ _
    refine ⟨7, ⟨[], (0, 6, 7, 22), [(0, 6, 10, 16)], rfl, fun _ h => absurd h List.not_mem_nil, ⟨by decide, by decide⟩, by decide, List.mem_cons_of_mem _ (zw11), by decide, rfl⟩, fun q9 => ?_⟩
    refine r_astore_n (q := 8) dL_out_7 rfl (Nat.le_of_ble_eq_true rfl) (xone_of rfl) rfl ?_
    refine r_iconst (q := 9) (v := (-1)) dL_out_8 rfl rfl ?_
    refine r_iret dL_out_9 rfl (Nat.le_of_ble_eq_true rfl) (Nat.le_of_ble_eq_true rfl) ?_
    exact hp9
  by_cases k2 : k = 2
  · subst k2
    rw [if_neg (by decide), if_neg (by decide)] at hp9
    show ∃ h9, xGet _ _ "java/lang/UnsupportedOperationException" h9 ∧ ∀ q9 : Nat, WF _ E Po _ h9 _ [.ref q9] u _ _
    refine ⟨10, ⟨[(0, 6, 7, 22)], (0, 6, 10, 16), [], rfl, List.forall_mem_cons.mpr ⟨⟨by decide, _, List.mem_cons_of_mem _ (zw11), by decide⟩, fun _ h => absurd h List.not_mem_nil⟩, ⟨by decide, by decide⟩, by decide, List.mem_cons_of_mem _ (zw6), by decide, rfl⟩, fun q9 => ?_⟩
    refine r_astore_n (q := 11) dL_out_10 rfl (Nat.le_of_ble_eq_true rfl) (xone_of rfl) rfl ?_
    refine r_bipush (q := 13) (v := (-2)) dL_out_11 (by decide) rfl ?_
    refine r_iret dL_out_13 rfl (Nat.le_of_ble_eq_true rfl) (Nat.le_of_ble_eq_true rfl) ?_
    exact hp9
  omega
/-- TubHireLaw.back(LTubHire;I)I -/
def M_L_back : xM := (yL_back, cL_back, 3, (some FieldType.int), Cond.codeWith yL_back cL_back 3 (some FieldType.int) [(0, 5, 6, 22), (0, 5, 9, 16)] :: xAll, { frames := 10, cells := 1, slots := 6, locals := 202 }, (1, 6), [(0, 5, 6, 22), (0, 5, 9, 16)])
theorem s_L_back_42 : xSv M_L_back M_X9_back 42 1 := fun s args hts => ⟨callB_of 1 hts (xGood zw33) rfl rfl rfl (hts _ (List.mem_cons_of_mem _ (zw1))) (hts _ (List.mem_cons_of_mem _ (zw34))) (by decide +kernel) ⟨Nat.le_of_ble_eq_true rfl, Nat.le_of_ble_eq_true rfl⟩, (hts _ (List.mem_cons_of_mem _ (zw35))), (hts _ (List.mem_cons_of_mem _ (zw36)))⟩
set_option maxRecDepth 100000 in
set_option maxHeartbeats 4000000 in
theorem ct_L_back {E : xE} {Po : xPo} {w : xW} {x : Nat} (k : Nat) (v : Int32) {p0 : Int32} {h : xHi} (Qh : xHi → Prop) (H : HI E w x h) (hk : k ≤ 2) (hq : ∀ h2, Qh h2 → h2.2.2.2.2.1 = h.2.2.2.2.1) (c1 : ∀ Po : xPo, (∀ u h2, Qh h2 → HI E u x h2 → Fr w u x h → Po (rs ["java/lang/IndexOutOfBoundsException", "java/lang/UnsupportedOperationException"] k v) u) → Ct M_X9_back E (.ref x :: [.int p0]) w Po) (hp : ∀ u h2, Qh h2 → HI E u x h2 → FX w u x h h2 → Po (.inl (some (.int (if k = 0 then v else if k = 1 then (-1) else (-2))))) u) : Ct M_L_back E [.ref x, .int p0] w Po := by
  refine Ct.ofH (ws2 := xAll) (L := [some (.ref x), some (.int p0), none]) (by decide +kernel) rfl (List.forall_mem_cons.mpr ⟨rfl, (List.forall_mem_cons.mpr ⟨rfl, fun _ h => absurd h List.not_mem_nil⟩)⟩) (Nat.le_of_ble_eq_true rfl) rfl ?_
  refine r_aload_n (q := 1) dL_back_0 rfl rfl rfl ?_
  refine r_iload_n (q := 2) dL_back_1 rfl rfl rfl ?_
  refine r_callVH (q := 5) (ci := 11) (As := [_]) dL_back_2 s_L_back_42 H.1.1 rfl rfl (Nat.le_of_ble_eq_true rfl) rfl rfl rfl ⟨(Nat.le_of_ble_eq_true rfl), (Nat.le_of_ble_eq_true rfl)⟩ rfl ?_
  refine c1 _ (fun u h2 q1 q3 q4 => ?_)
  have hp9 := hp u h2 q1 q3 ⟨q4, Or.inl (hq h2 q1)⟩
  by_cases k0 : k = 0
  · subst k0
    rw [if_pos rfl] at hp9
    show WF _ E Po _ _ _ [.int v] u _ _
    refine r_iret dL_back_5 rfl (Nat.le_of_ble_eq_true rfl) (Nat.le_of_ble_eq_true rfl) ?_
    exact hp9
  by_cases k1 : k = 1
  · subst k1
    rw [if_neg (by decide), if_pos rfl] at hp9
    show ∃ h9, xGet _ _ "java/lang/IndexOutOfBoundsException" h9 ∧ ∀ q9 : Nat, WF _ E Po _ h9 _ [.ref q9] u _ _
    refine ⟨6, ⟨[], (0, 5, 6, 22), [(0, 5, 9, 16)], rfl, fun _ h => absurd h List.not_mem_nil, ⟨by decide, by decide⟩, by decide, List.mem_cons_of_mem _ (zw11), by decide, rfl⟩, fun q9 => ?_⟩
    refine r_astore_n (q := 7) dL_back_6 rfl (Nat.le_of_ble_eq_true rfl) (xone_of rfl) rfl ?_
    refine r_iconst (q := 8) (v := (-1)) dL_back_7 rfl rfl ?_
    refine r_iret dL_back_8 rfl (Nat.le_of_ble_eq_true rfl) (Nat.le_of_ble_eq_true rfl) ?_
    exact hp9
  by_cases k2 : k = 2
  · subst k2
    rw [if_neg (by decide), if_neg (by decide)] at hp9
    show ∃ h9, xGet _ _ "java/lang/UnsupportedOperationException" h9 ∧ ∀ q9 : Nat, WF _ E Po _ h9 _ [.ref q9] u _ _
    refine ⟨9, ⟨[(0, 5, 6, 22)], (0, 5, 9, 16), [], rfl, List.forall_mem_cons.mpr ⟨⟨by decide, _, List.mem_cons_of_mem _ (zw11), by decide⟩, fun _ h => absurd h List.not_mem_nil⟩, ⟨by decide, by decide⟩, by decide, List.mem_cons_of_mem _ (zw6), by decide, rfl⟩, fun q9 => ?_⟩
    refine r_astore_n (q := 10) dL_back_9 rfl (Nat.le_of_ble_eq_true rfl) (xone_of rfl) rfl ?_
    refine r_bipush (q := 12) (v := (-2)) dL_back_10 (by decide) rfl ?_
    refine r_iret dL_back_12 rfl (Nat.le_of_ble_eq_true rfl) (Nat.le_of_ble_eq_true rfl) ?_
    exact hp9
  omega
/-- TubHireLaw.tent(LTubHire;I)I -/
def M_L_tent : xM := (yL_tent, cL_tent, 3, (some FieldType.int), Cond.codeWith yL_tent cL_tent 3 (some FieldType.int) [(0, 5, 6, 14), (0, 5, 9, 16)] :: xAll, { frames := 10, cells := 1, slots := 6, locals := 202 }, (1, 6), [(0, 5, 6, 14), (0, 5, 9, 16)])
theorem s_L_tent_45 : xSv M_L_tent M_X9_tent 45 1 := fun s args hts => ⟨callB_of 1 hts (xGood zw37) rfl rfl rfl (hts _ (List.mem_cons_of_mem _ (zw1))) (hts _ (List.mem_cons_of_mem _ (zw38))) (by decide +kernel) ⟨Nat.le_of_ble_eq_true rfl, Nat.le_of_ble_eq_true rfl⟩, (hts _ (List.mem_cons_of_mem _ (zw39))), (hts _ (List.mem_cons_of_mem _ (zw40)))⟩
set_option maxRecDepth 100000 in
set_option maxHeartbeats 4000000 in
theorem ct_L_tent {E : xE} {Po : xPo} {w : xW} {x : Nat} (k : Nat) (v : Int32) {p0 : Int32} {h : xHi} (Qh : xHi → Prop) (H : HI E w x h) (hk : k ≤ 2) (hq : ∀ h2, Qh h2 → h2.2.2.2.2.1 = h.2.2.2.2.1) (c1 : ∀ Po : xPo, (∀ u h2, Qh h2 → HI E u x h2 → Fr w u x h → Po (rs ["java/lang/IllegalArgumentException", "java/lang/UnsupportedOperationException"] k v) u) → Ct M_X9_tent E (.ref x :: [.int p0]) w Po) (hp : ∀ u h2, Qh h2 → HI E u x h2 → FX w u x h h2 → Po (.inl (some (.int (if k = 0 then v else if k = 1 then (-1) else (-2))))) u) : Ct M_L_tent E [.ref x, .int p0] w Po := by
  refine Ct.ofH (ws2 := xAll) (L := [some (.ref x), some (.int p0), none]) (by decide +kernel) rfl (List.forall_mem_cons.mpr ⟨rfl, (List.forall_mem_cons.mpr ⟨rfl, fun _ h => absurd h List.not_mem_nil⟩)⟩) (Nat.le_of_ble_eq_true rfl) rfl ?_
  refine r_aload_n (q := 1) dL_tent_0 rfl rfl rfl ?_
  refine r_iload_n (q := 2) dL_tent_1 rfl rfl rfl ?_
  refine r_callVH (q := 5) (ci := 11) (As := [_]) dL_tent_2 s_L_tent_45 H.1.1 rfl rfl (Nat.le_of_ble_eq_true rfl) rfl rfl rfl ⟨(Nat.le_of_ble_eq_true rfl), (Nat.le_of_ble_eq_true rfl)⟩ rfl ?_
  refine c1 _ (fun u h2 q1 q3 q4 => ?_)
  have hp9 := hp u h2 q1 q3 ⟨q4, Or.inl (hq h2 q1)⟩
  by_cases k0 : k = 0
  · subst k0
    rw [if_pos rfl] at hp9
    show WF _ E Po _ _ _ [.int v] u _ _
    refine r_iret dL_tent_5 rfl (Nat.le_of_ble_eq_true rfl) (Nat.le_of_ble_eq_true rfl) ?_
    exact hp9
  by_cases k1 : k = 1
  · subst k1
    rw [if_neg (by decide), if_pos rfl] at hp9
    show ∃ h9, xGet _ _ "java/lang/IllegalArgumentException" h9 ∧ ∀ q9 : Nat, WF _ E Po _ h9 _ [.ref q9] u _ _
    refine ⟨6, ⟨[], (0, 5, 6, 14), [(0, 5, 9, 16)], rfl, fun _ h => absurd h List.not_mem_nil, ⟨by decide, by decide⟩, by decide, List.mem_cons_of_mem _ (zw5), by decide, rfl⟩, fun q9 => ?_⟩
    refine r_astore_n (q := 7) dL_tent_6 rfl (Nat.le_of_ble_eq_true rfl) (xone_of rfl) rfl ?_
    refine r_iconst (q := 8) (v := (-1)) dL_tent_7 rfl rfl ?_
    refine r_iret dL_tent_8 rfl (Nat.le_of_ble_eq_true rfl) (Nat.le_of_ble_eq_true rfl) ?_
    exact hp9
  by_cases k2 : k = 2
  · subst k2
    rw [if_neg (by decide), if_neg (by decide)] at hp9
    show ∃ h9, xGet _ _ "java/lang/UnsupportedOperationException" h9 ∧ ∀ q9 : Nat, WF _ E Po _ h9 _ [.ref q9] u _ _
    refine ⟨9, ⟨[(0, 5, 6, 14)], (0, 5, 9, 16), [], rfl, List.forall_mem_cons.mpr ⟨⟨by decide, _, List.mem_cons_of_mem _ (zw5), by decide⟩, fun _ h => absurd h List.not_mem_nil⟩, ⟨by decide, by decide⟩, by decide, List.mem_cons_of_mem _ (zw6), by decide, rfl⟩, fun q9 => ?_⟩
    refine r_astore_n (q := 10) dL_tent_9 rfl (Nat.le_of_ble_eq_true rfl) (xone_of rfl) rfl ?_
    refine r_bipush (q := 12) (v := (-2)) dL_tent_10 (by decide) rfl ?_
    refine r_iret dL_tent_12 rfl (Nat.le_of_ble_eq_true rfl) (Nat.le_of_ble_eq_true rfl) ?_
    exact hp9
  omega
/-- TubHireLaw.tentOf(LTubHire;II)I -/
def M_L_tentOf : xM := (yL_tentOf, cL_tentOf, 4, (some FieldType.int), Cond.codeWith yL_tentOf cL_tentOf 4 (some FieldType.int) [(0, 6, 7, 22), (0, 6, 11, 14)] :: xAll, { frames := 9, cells := 1, slots := 6, locals := 183 }, (1, 6), [(0, 6, 7, 22), (0, 6, 11, 14)])
theorem s_L_tentOf_48 : xSv M_L_tentOf M_X9_tentOf 48 2 := fun s args hts => ⟨callB_of 2 hts (xGood zw41) rfl rfl rfl (hts _ (List.mem_cons_of_mem _ (zw1))) (hts _ (List.mem_cons_of_mem _ (zw42))) (by decide +kernel) ⟨Nat.le_of_ble_eq_true rfl, Nat.le_of_ble_eq_true rfl⟩, (hts _ (List.mem_cons_of_mem _ (zw43))), (hts _ (List.mem_cons_of_mem _ (zw44)))⟩
set_option maxRecDepth 100000 in
set_option maxHeartbeats 4000000 in
theorem ct_L_tentOf {E : xE} {Po : xPo} {w : xW} {x : Nat} (k : Nat) (v : Int32) {p0 p1 : Int32} {h : xHi} (Qh : xHi → Prop) (H : HI E w x h) (hk : k ≤ 2) (hq : ∀ h2, Qh h2 → h2.2.2.2.2.1 = h.2.2.2.2.1) (c1 : ∀ Po : xPo, (∀ u h2, Qh h2 → HI E u x h2 → Fr w u x h → Po (rs ["java/lang/IndexOutOfBoundsException", "java/lang/IllegalArgumentException"] k v) u) → Ct M_X9_tentOf E (.ref x :: [.int p0, .int p1]) w Po) (hp : ∀ u h2, Qh h2 → HI E u x h2 → FX w u x h h2 → Po (.inl (some (.int (if k = 0 then v else if k = 1 then (-11) else (-12))))) u) : Ct M_L_tentOf E [.ref x, .int p0, .int p1] w Po := by
  refine Ct.ofH (ws2 := xAll) (L := [some (.ref x), some (.int p0), some (.int p1), none]) (by decide +kernel) rfl (List.forall_mem_cons.mpr ⟨rfl, (List.forall_mem_cons.mpr ⟨rfl, (List.forall_mem_cons.mpr ⟨rfl, fun _ h => absurd h List.not_mem_nil⟩)⟩)⟩) (Nat.le_of_ble_eq_true rfl) rfl ?_
  refine r_aload_n (q := 1) dL_tentOf_0 rfl rfl rfl ?_
  refine r_iload_n (q := 2) dL_tentOf_1 rfl rfl rfl ?_
  refine r_iload_n (q := 3) dL_tentOf_2 rfl rfl rfl ?_
  refine r_callVH (q := 6) (ci := 11) (As := [_, _]) dL_tentOf_3 s_L_tentOf_48 H.1.1 rfl rfl (Nat.le_of_ble_eq_true rfl) rfl rfl rfl ⟨(Nat.le_of_ble_eq_true rfl), (Nat.le_of_ble_eq_true rfl)⟩ rfl ?_
  refine c1 _ (fun u h2 q1 q3 q4 => ?_)
  have hp9 := hp u h2 q1 q3 ⟨q4, Or.inl (hq h2 q1)⟩
  by_cases k0 : k = 0
  · subst k0
    rw [if_pos rfl] at hp9
    show WF _ E Po _ _ _ [.int v] u _ _
    refine r_iret dL_tentOf_6 rfl (Nat.le_of_ble_eq_true rfl) (Nat.le_of_ble_eq_true rfl) ?_
    exact hp9
  by_cases k1 : k = 1
  · subst k1
    rw [if_neg (by decide), if_pos rfl] at hp9
    show ∃ h9, xGet _ _ "java/lang/IndexOutOfBoundsException" h9 ∧ ∀ q9 : Nat, WF _ E Po _ h9 _ [.ref q9] u _ _
    refine ⟨7, ⟨[], (0, 6, 7, 22), [(0, 6, 11, 14)], rfl, fun _ h => absurd h List.not_mem_nil, ⟨by decide, by decide⟩, by decide, List.mem_cons_of_mem _ (zw11), by decide, rfl⟩, fun q9 => ?_⟩
    refine r_astore_n (q := 8) dL_tentOf_7 rfl (Nat.le_of_ble_eq_true rfl) (xone_of rfl) rfl ?_
    refine r_bipush (q := 10) (v := (-11)) dL_tentOf_8 (by decide) rfl ?_
    refine r_iret dL_tentOf_10 rfl (Nat.le_of_ble_eq_true rfl) (Nat.le_of_ble_eq_true rfl) ?_
    exact hp9
  by_cases k2 : k = 2
  · subst k2
    rw [if_neg (by decide), if_neg (by decide)] at hp9
    show ∃ h9, xGet _ _ "java/lang/IllegalArgumentException" h9 ∧ ∀ q9 : Nat, WF _ E Po _ h9 _ [.ref q9] u _ _
    refine ⟨11, ⟨[(0, 6, 7, 22)], (0, 6, 11, 14), [], rfl, List.forall_mem_cons.mpr ⟨⟨by decide, _, List.mem_cons_of_mem _ (zw11), by decide⟩, fun _ h => absurd h List.not_mem_nil⟩, ⟨by decide, by decide⟩, by decide, List.mem_cons_of_mem _ (zw5), by decide, rfl⟩, fun q9 => ?_⟩
    refine r_astore_n (q := 12) dL_tentOf_11 rfl (Nat.le_of_ble_eq_true rfl) (xone_of rfl) rfl ?_
    refine r_bipush (q := 14) (v := (-12)) dL_tentOf_12 (by decide) rfl ?_
    refine r_iret dL_tentOf_14 rfl (Nat.le_of_ble_eq_true rfl) (Nat.le_of_ble_eq_true rfl) ?_
    exact hp9
  omega
/-- TubHireLaw.waiting(LTubHire;II)I -/
def M_L_waiting : xM := (yL_waiting, cL_waiting, 4, (some FieldType.int), Cond.codeWith yL_waiting cL_waiting 4 (some FieldType.int) [(0, 6, 7, 22), (0, 6, 11, 27)] :: xAll, { frames := 9, cells := 1, slots := 6, locals := 184 }, (1, 6), [(0, 6, 7, 22), (0, 6, 11, 27)])
theorem s_L_waiting_51 : xSv M_L_waiting M_X9_waiting 51 2 := fun s args hts => ⟨callB_of 2 hts (xGood zw45) rfl rfl rfl (hts _ (List.mem_cons_of_mem _ (zw1))) (hts _ (List.mem_cons_of_mem _ (zw46))) (by decide +kernel) ⟨Nat.le_of_ble_eq_true rfl, Nat.le_of_ble_eq_true rfl⟩, (hts _ (List.mem_cons_of_mem _ (zw47))), (hts _ (List.mem_cons_of_mem _ (zw48)))⟩
set_option maxRecDepth 100000 in
set_option maxHeartbeats 4000000 in
theorem ct_L_waiting {E : xE} {Po : xPo} {w : xW} {x : Nat} (k : Nat) (v : Int32) {p0 p1 : Int32} {h : xHi} (Qh : xHi → Prop) (H : HI E w x h) (hk : k ≤ 2) (hq : ∀ h2, Qh h2 → h2.2.2.2.2.1 = h.2.2.2.2.1) (c1 : ∀ Po : xPo, (∀ u h2, Qh h2 → HI E u x h2 → Fr w u x h → Po (rs ["java/lang/IndexOutOfBoundsException", "java/util/NoSuchElementException"] k v) u) → Ct M_X9_waiting E (.ref x :: [.int p0, .int p1]) w Po) (hp : ∀ u h2, Qh h2 → HI E u x h2 → FX w u x h h2 → Po (.inl (some (.int (if k = 0 then v else if k = 1 then (-11) else (-13))))) u) : Ct M_L_waiting E [.ref x, .int p0, .int p1] w Po := by
  refine Ct.ofH (ws2 := xAll) (L := [some (.ref x), some (.int p0), some (.int p1), none]) (by decide +kernel) rfl (List.forall_mem_cons.mpr ⟨rfl, (List.forall_mem_cons.mpr ⟨rfl, (List.forall_mem_cons.mpr ⟨rfl, fun _ h => absurd h List.not_mem_nil⟩)⟩)⟩) (Nat.le_of_ble_eq_true rfl) rfl ?_
  refine r_aload_n (q := 1) dL_waiting_0 rfl rfl rfl ?_
  refine r_iload_n (q := 2) dL_waiting_1 rfl rfl rfl ?_
  refine r_iload_n (q := 3) dL_waiting_2 rfl rfl rfl ?_
  refine r_callVH (q := 6) (ci := 11) (As := [_, _]) dL_waiting_3 s_L_waiting_51 H.1.1 rfl rfl (Nat.le_of_ble_eq_true rfl) rfl rfl rfl ⟨(Nat.le_of_ble_eq_true rfl), (Nat.le_of_ble_eq_true rfl)⟩ rfl ?_
  refine c1 _ (fun u h2 q1 q3 q4 => ?_)
  have hp9 := hp u h2 q1 q3 ⟨q4, Or.inl (hq h2 q1)⟩
  by_cases k0 : k = 0
  · subst k0
    rw [if_pos rfl] at hp9
    show WF _ E Po _ _ _ [.int v] u _ _
    refine r_iret dL_waiting_6 rfl (Nat.le_of_ble_eq_true rfl) (Nat.le_of_ble_eq_true rfl) ?_
    exact hp9
  by_cases k1 : k = 1
  · subst k1
    rw [if_neg (by decide), if_pos rfl] at hp9
    show ∃ h9, xGet _ _ "java/lang/IndexOutOfBoundsException" h9 ∧ ∀ q9 : Nat, WF _ E Po _ h9 _ [.ref q9] u _ _
    refine ⟨7, ⟨[], (0, 6, 7, 22), [(0, 6, 11, 27)], rfl, fun _ h => absurd h List.not_mem_nil, ⟨by decide, by decide⟩, by decide, List.mem_cons_of_mem _ (zw11), by decide, rfl⟩, fun q9 => ?_⟩
    refine r_astore_n (q := 8) dL_waiting_7 rfl (Nat.le_of_ble_eq_true rfl) (xone_of rfl) rfl ?_
    refine r_bipush (q := 10) (v := (-11)) dL_waiting_8 (by decide) rfl ?_
    refine r_iret dL_waiting_10 rfl (Nat.le_of_ble_eq_true rfl) (Nat.le_of_ble_eq_true rfl) ?_
    exact hp9
  by_cases k2 : k = 2
  · subst k2
    rw [if_neg (by decide), if_neg (by decide)] at hp9
    show ∃ h9, xGet _ _ "java/util/NoSuchElementException" h9 ∧ ∀ q9 : Nat, WF _ E Po _ h9 _ [.ref q9] u _ _
    refine ⟨11, ⟨[(0, 6, 7, 22)], (0, 6, 11, 27), [], rfl, List.forall_mem_cons.mpr ⟨⟨by decide, _, List.mem_cons_of_mem _ (zw11), by decide⟩, fun _ h => absurd h List.not_mem_nil⟩, ⟨by decide, by decide⟩, by decide, List.mem_cons_of_mem _ (zw16), by decide, rfl⟩, fun q9 => ?_⟩
    refine r_astore_n (q := 12) dL_waiting_11 rfl (Nat.le_of_ble_eq_true rfl) (xone_of rfl) rfl ?_
    refine r_bipush (q := 14) (v := (-13)) dL_waiting_12 (by decide) rfl ?_
    refine r_iret dL_waiting_14 rfl (Nat.le_of_ble_eq_true rfl) (Nat.le_of_ble_eq_true rfl) ?_
    exact hp9
  omega
/-- TubHireLaw.join(LTubHire;I)I -/
def M_L_join : xM := (yL_join, cL_join, 3, (some FieldType.int), Cond.codeWith yL_join cL_join 3 (some FieldType.int) [(0, 5, 6, 22), (0, 5, 9, 16)] :: xAll, { frames := 10, cells := 1, slots := 6, locals := 202 }, (1, 6), [(0, 5, 6, 22), (0, 5, 9, 16)])
theorem s_L_join_54 : xSv M_L_join M_X9_join 54 1 := fun s args hts => ⟨callB_of 1 hts (xGood zw49) rfl rfl rfl (hts _ (List.mem_cons_of_mem _ (zw1))) (hts _ (List.mem_cons_of_mem _ (zw50))) (by decide +kernel) ⟨Nat.le_of_ble_eq_true rfl, Nat.le_of_ble_eq_true rfl⟩, (hts _ (List.mem_cons_of_mem _ (zw51))), (hts _ (List.mem_cons_of_mem _ (zw52)))⟩
set_option maxRecDepth 100000 in
set_option maxHeartbeats 4000000 in
theorem ct_L_join {E : xE} {Po : xPo} {w : xW} {x : Nat} (k : Nat) (v : Int32) {p0 : Int32} {h : xHi} (Qh : xHi → Prop) (H : HI E w x h) (hk : k ≤ 2) (hq : ∀ h2, Qh h2 → h2.2.2.2.2.1 = h.2.2.2.2.1) (c1 : ∀ Po : xPo, (∀ u h2, Qh h2 → HI E u x h2 → Fr w u x h → Po (rs ["java/lang/IndexOutOfBoundsException", "java/lang/UnsupportedOperationException"] k v) u) → Ct M_X9_join E (.ref x :: [.int p0]) w Po) (hp : ∀ u h2, Qh h2 → HI E u x h2 → FX w u x h h2 → Po (.inl (some (.int (if k = 0 then v else if k = 1 then (-1) else (-2))))) u) : Ct M_L_join E [.ref x, .int p0] w Po := by
  refine Ct.ofH (ws2 := xAll) (L := [some (.ref x), some (.int p0), none]) (by decide +kernel) rfl (List.forall_mem_cons.mpr ⟨rfl, (List.forall_mem_cons.mpr ⟨rfl, fun _ h => absurd h List.not_mem_nil⟩)⟩) (Nat.le_of_ble_eq_true rfl) rfl ?_
  refine r_aload_n (q := 1) dL_join_0 rfl rfl rfl ?_
  refine r_iload_n (q := 2) dL_join_1 rfl rfl rfl ?_
  refine r_callVH (q := 5) (ci := 11) (As := [_]) dL_join_2 s_L_join_54 H.1.1 rfl rfl (Nat.le_of_ble_eq_true rfl) rfl rfl rfl ⟨(Nat.le_of_ble_eq_true rfl), (Nat.le_of_ble_eq_true rfl)⟩ rfl ?_
  refine c1 _ (fun u h2 q1 q3 q4 => ?_)
  have hp9 := hp u h2 q1 q3 ⟨q4, Or.inl (hq h2 q1)⟩
  by_cases k0 : k = 0
  · subst k0
    rw [if_pos rfl] at hp9
    show WF _ E Po _ _ _ [.int v] u _ _
    refine r_iret dL_join_5 rfl (Nat.le_of_ble_eq_true rfl) (Nat.le_of_ble_eq_true rfl) ?_
    exact hp9
  by_cases k1 : k = 1
  · subst k1
    rw [if_neg (by decide), if_pos rfl] at hp9
    show ∃ h9, xGet _ _ "java/lang/IndexOutOfBoundsException" h9 ∧ ∀ q9 : Nat, WF _ E Po _ h9 _ [.ref q9] u _ _
    refine ⟨6, ⟨[], (0, 5, 6, 22), [(0, 5, 9, 16)], rfl, fun _ h => absurd h List.not_mem_nil, ⟨by decide, by decide⟩, by decide, List.mem_cons_of_mem _ (zw11), by decide, rfl⟩, fun q9 => ?_⟩
    refine r_astore_n (q := 7) dL_join_6 rfl (Nat.le_of_ble_eq_true rfl) (xone_of rfl) rfl ?_
    refine r_iconst (q := 8) (v := (-1)) dL_join_7 rfl rfl ?_
    refine r_iret dL_join_8 rfl (Nat.le_of_ble_eq_true rfl) (Nat.le_of_ble_eq_true rfl) ?_
    exact hp9
  by_cases k2 : k = 2
  · subst k2
    rw [if_neg (by decide), if_neg (by decide)] at hp9
    show ∃ h9, xGet _ _ "java/lang/UnsupportedOperationException" h9 ∧ ∀ q9 : Nat, WF _ E Po _ h9 _ [.ref q9] u _ _
    refine ⟨9, ⟨[(0, 5, 6, 22)], (0, 5, 9, 16), [], rfl, List.forall_mem_cons.mpr ⟨⟨by decide, _, List.mem_cons_of_mem _ (zw11), by decide⟩, fun _ h => absurd h List.not_mem_nil⟩, ⟨by decide, by decide⟩, by decide, List.mem_cons_of_mem _ (zw6), by decide, rfl⟩, fun q9 => ?_⟩
    refine r_astore_n (q := 10) dL_join_9 rfl (Nat.le_of_ble_eq_true rfl) (xone_of rfl) rfl ?_
    refine r_bipush (q := 12) (v := (-2)) dL_join_10 (by decide) rfl ?_
    refine r_iret dL_join_12 rfl (Nat.le_of_ble_eq_true rfl) (Nat.le_of_ble_eq_true rfl) ?_
    exact hp9
  omega
/-- TubHireLaw.heater(LTubHire;)I -/
def M_L_heater : xM := (yL_heater, cL_heater, 2, (some FieldType.int), Cond.codeWith yL_heater cL_heater 2 (some FieldType.int) [(0, 4, 5, 16)] :: xAll, { frames := 10, cells := 1, slots := 6, locals := 201 }, (1, 6), [(0, 4, 5, 16)])
theorem s_L_heater_57 : xSv M_L_heater M_X9_heater 57 0 := fun s args hts => ⟨callB_of 0 hts (xGood zw53) rfl rfl rfl (hts _ (List.mem_cons_of_mem _ (zw1))) (hts _ (List.mem_cons_of_mem _ (zw54))) (by decide +kernel) ⟨Nat.le_of_ble_eq_true rfl, Nat.le_of_ble_eq_true rfl⟩, (hts _ (List.mem_cons_of_mem _ (zw55))), (hts _ (List.mem_cons_of_mem _ (zw56)))⟩
set_option maxRecDepth 100000 in
set_option maxHeartbeats 4000000 in
theorem ct_L_heater {E : xE} {Po : xPo} {w : xW} {x : Nat} (k : Nat) (v : Int32) {h : xHi} (Qh : xHi → Prop) (H : HI E w x h) (hk : k ≤ 1) (hq : ∀ h2, Qh h2 → h2.2.2.2.2.1 = h.2.2.2.2.1) (c1 : ∀ Po : xPo, (∀ u h2, Qh h2 → HI E u x h2 → Fr w u x h → Po (rs ["java/lang/UnsupportedOperationException"] k v) u) → Ct M_X9_heater E (.ref x :: []) w Po) (hp : ∀ u h2, Qh h2 → HI E u x h2 → FX w u x h h2 → Po (.inl (some (.int (if k = 0 then v else (-2))))) u) : Ct M_L_heater E [.ref x] w Po := by
  refine Ct.ofH (ws2 := xAll) (L := [some (.ref x), none]) (by decide +kernel) rfl (List.forall_mem_cons.mpr ⟨rfl, fun _ h => absurd h List.not_mem_nil⟩) (Nat.le_of_ble_eq_true rfl) rfl ?_
  refine r_aload_n (q := 1) dL_heater_0 rfl rfl rfl ?_
  refine r_callVH (q := 4) (ci := 11) (As := []) dL_heater_1 s_L_heater_57 H.1.1 rfl rfl (Nat.le_of_ble_eq_true rfl) rfl rfl rfl ⟨(Nat.le_of_ble_eq_true rfl), (Nat.le_of_ble_eq_true rfl)⟩ rfl ?_
  refine c1 _ (fun u h2 q1 q3 q4 => ?_)
  have hp9 := hp u h2 q1 q3 ⟨q4, Or.inl (hq h2 q1)⟩
  by_cases k0 : k = 0
  · subst k0
    rw [if_pos rfl] at hp9
    show WF _ E Po _ _ _ [.int v] u _ _
    refine r_iret dL_heater_4 rfl (Nat.le_of_ble_eq_true rfl) (Nat.le_of_ble_eq_true rfl) ?_
    exact hp9
  by_cases k1 : k = 1
  · subst k1
    rw [if_neg (by decide)] at hp9
    show ∃ h9, xGet _ _ "java/lang/UnsupportedOperationException" h9 ∧ ∀ q9 : Nat, WF _ E Po _ h9 _ [.ref q9] u _ _
    refine ⟨5, ⟨[], (0, 4, 5, 16), [], rfl, fun _ h => absurd h List.not_mem_nil, ⟨by decide, by decide⟩, by decide, List.mem_cons_of_mem _ (zw6), by decide, rfl⟩, fun q9 => ?_⟩
    refine r_astore_n (q := 6) dL_heater_5 rfl (Nat.le_of_ble_eq_true rfl) (xone_of rfl) rfl ?_
    refine r_bipush (q := 8) (v := (-2)) dL_heater_6 (by decide) rfl ?_
    refine r_iret dL_heater_8 rfl (Nat.le_of_ble_eq_true rfl) (Nat.le_of_ble_eq_true rfl) ?_
    exact hp9
  omega
/-- TubHireLaw.heaterOf(LTubHire;IZ)I -/
def M_L_heaterOf : xM := (yL_heaterOf, cL_heaterOf, 4, (some FieldType.int), Cond.codeWith yL_heaterOf cL_heaterOf 4 (some FieldType.int) [(0, 6, 7, 22)] :: xAll, { frames := 9, cells := 1, slots := 6, locals := 183 }, (1, 6), [(0, 6, 7, 22)])
theorem s_L_heaterOf_60 : xSv M_L_heaterOf M_X9_heaterOf 60 2 := fun s args hts => ⟨callB_of 2 hts (xGood zw57) rfl rfl rfl (hts _ (List.mem_cons_of_mem _ (zw1))) (hts _ (List.mem_cons_of_mem _ (zw58))) (by decide +kernel) ⟨Nat.le_of_ble_eq_true rfl, Nat.le_of_ble_eq_true rfl⟩, (hts _ (List.mem_cons_of_mem _ (zw59))), (hts _ (List.mem_cons_of_mem _ (zw60)))⟩
set_option maxRecDepth 100000 in
set_option maxHeartbeats 4000000 in
theorem ct_L_heaterOf {E : xE} {Po : xPo} {w : xW} {x : Nat} (k : Nat) (v : Int32) {p0 p1 : Int32} {h : xHi} (Qh : xHi → Prop) (H : HI E w x h) (hk : k ≤ 1) (hq : ∀ h2, Qh h2 → h2.2.2.2.2.1 = h.2.2.2.2.1) (c1 : ∀ Po : xPo, (∀ u h2, Qh h2 → HI E u x h2 → Fr w u x h → Po (rs ["java/lang/IndexOutOfBoundsException"] k v) u) → Ct M_X9_heaterOf E (.ref x :: [.int p0, .int p1]) w Po) (hp : ∀ u h2, Qh h2 → HI E u x h2 → FX w u x h h2 → Po (.inl (some (.int (if k = 0 then v else (-11))))) u) : Ct M_L_heaterOf E [.ref x, .int p0, .int p1] w Po := by
  refine Ct.ofH (ws2 := xAll) (L := [some (.ref x), some (.int p0), some (.int p1), none]) (by decide +kernel) rfl (List.forall_mem_cons.mpr ⟨rfl, (List.forall_mem_cons.mpr ⟨rfl, (List.forall_mem_cons.mpr ⟨rfl, fun _ h => absurd h List.not_mem_nil⟩)⟩)⟩) (Nat.le_of_ble_eq_true rfl) rfl ?_
  refine r_aload_n (q := 1) dL_heaterOf_0 rfl rfl rfl ?_
  refine r_iload_n (q := 2) dL_heaterOf_1 rfl rfl rfl ?_
  refine r_iload_n (q := 3) dL_heaterOf_2 rfl rfl rfl ?_
  refine r_callVH (q := 6) (ci := 11) (As := [_, _]) dL_heaterOf_3 s_L_heaterOf_60 H.1.1 rfl rfl (Nat.le_of_ble_eq_true rfl) rfl rfl rfl ⟨(Nat.le_of_ble_eq_true rfl), (Nat.le_of_ble_eq_true rfl)⟩ rfl ?_
  refine c1 _ (fun u h2 q1 q3 q4 => ?_)
  have hp9 := hp u h2 q1 q3 ⟨q4, Or.inl (hq h2 q1)⟩
  by_cases k0 : k = 0
  · subst k0
    rw [if_pos rfl] at hp9
    show WF _ E Po _ _ _ [.int v] u _ _
    refine r_iret dL_heaterOf_6 rfl (Nat.le_of_ble_eq_true rfl) (Nat.le_of_ble_eq_true rfl) ?_
    exact hp9
  by_cases k1 : k = 1
  · subst k1
    rw [if_neg (by decide)] at hp9
    show ∃ h9, xGet _ _ "java/lang/IndexOutOfBoundsException" h9 ∧ ∀ q9 : Nat, WF _ E Po _ h9 _ [.ref q9] u _ _
    refine ⟨7, ⟨[], (0, 6, 7, 22), [], rfl, fun _ h => absurd h List.not_mem_nil, ⟨by decide, by decide⟩, by decide, List.mem_cons_of_mem _ (zw11), by decide, rfl⟩, fun q9 => ?_⟩
    refine r_astore_n (q := 8) dL_heaterOf_7 rfl (Nat.le_of_ble_eq_true rfl) (xone_of rfl) rfl ?_
    refine r_bipush (q := 10) (v := (-11)) dL_heaterOf_8 (by decide) rfl ?_
    refine r_iret dL_heaterOf_10 rfl (Nat.le_of_ble_eq_true rfl) (Nat.le_of_ble_eq_true rfl) ?_
    exact hp9
  omega
/-- TubHireLaw.heat(LTubHire;II)I -/
def M_L_heat : xM := (yL_heat, cL_heat, 4, (some FieldType.int), Cond.codeWith yL_heat cL_heat 4 (some FieldType.int) [(0, 6, 7, 22), (0, 6, 10, 16)] :: xAll, { frames := 10, cells := 1, slots := 6, locals := 203 }, (1, 6), [(0, 6, 7, 22), (0, 6, 10, 16)])
theorem s_L_heat_64 : xSv M_L_heat M_X9_heat 64 2 := fun s args hts => ⟨callB_of 2 hts (xGood zw61) rfl rfl rfl (hts _ (List.mem_cons_of_mem _ (zw1))) (hts _ (List.mem_cons_of_mem _ (zw62))) (by decide +kernel) ⟨Nat.le_of_ble_eq_true rfl, Nat.le_of_ble_eq_true rfl⟩, (hts _ (List.mem_cons_of_mem _ (zw63))), (hts _ (List.mem_cons_of_mem _ (zw64)))⟩
set_option maxRecDepth 100000 in
set_option maxHeartbeats 4000000 in
theorem ct_L_heat {E : xE} {Po : xPo} {w : xW} {x : Nat} (k : Nat) (v : Int32) {p0 p1 : Int32} {h : xHi} (Qh : xHi → Prop) (H : HI E w x h) (hk : k ≤ 2) (hq : ∀ h2, Qh h2 → h2.2.2.2.2.1 = h.2.2.2.2.1) (c1 : ∀ Po : xPo, (∀ u h2, Qh h2 → HI E u x h2 → Fr w u x h → Po (rs ["java/lang/IndexOutOfBoundsException", "java/lang/UnsupportedOperationException"] k v) u) → Ct M_X9_heat E (.ref x :: [.int p0, .int p1]) w Po) (hp : ∀ u h2, Qh h2 → HI E u x h2 → FX w u x h h2 → Po (.inl (some (.int (if k = 0 then v else if k = 1 then (-1) else (-2))))) u) : Ct M_L_heat E [.ref x, .int p0, .int p1] w Po := by
  refine Ct.ofH (ws2 := xAll) (L := [some (.ref x), some (.int p0), some (.int p1), none]) (by decide +kernel) rfl (List.forall_mem_cons.mpr ⟨rfl, (List.forall_mem_cons.mpr ⟨rfl, (List.forall_mem_cons.mpr ⟨rfl, fun _ h => absurd h List.not_mem_nil⟩)⟩)⟩) (Nat.le_of_ble_eq_true rfl) rfl ?_
  refine r_aload_n (q := 1) dL_heat_0 rfl rfl rfl ?_
  refine r_iload_n (q := 2) dL_heat_1 rfl rfl rfl ?_
  refine r_iload_n (q := 3) dL_heat_2 rfl rfl rfl ?_
  refine r_callVH (q := 6) (ci := 11) (As := [_, _]) dL_heat_3 s_L_heat_64 H.1.1 rfl rfl (Nat.le_of_ble_eq_true rfl) rfl rfl rfl ⟨(Nat.le_of_ble_eq_true rfl), (Nat.le_of_ble_eq_true rfl)⟩ rfl ?_
  refine c1 _ (fun u h2 q1 q3 q4 => ?_)
  have hp9 := hp u h2 q1 q3 ⟨q4, Or.inl (hq h2 q1)⟩
  by_cases k0 : k = 0
  · subst k0
    rw [if_pos rfl] at hp9
    show WF _ E Po _ _ _ [.int v] u _ _
    refine r_iret dL_heat_6 rfl (Nat.le_of_ble_eq_true rfl) (Nat.le_of_ble_eq_true rfl) ?_
    exact hp9
  by_cases k1 : k = 1
  · subst k1
    rw [if_neg (by decide), if_pos rfl] at hp9
    show ∃ h9, xGet _ _ "java/lang/IndexOutOfBoundsException" h9 ∧ ∀ q9 : Nat, WF _ E Po _ h9 _ [.ref q9] u _ _
    refine ⟨7, ⟨[], (0, 6, 7, 22), [(0, 6, 10, 16)], rfl, fun _ h => absurd h List.not_mem_nil, ⟨by decide, by decide⟩, by decide, List.mem_cons_of_mem _ (zw11), by decide, rfl⟩, fun q9 => ?_⟩
    refine r_astore_n (q := 8) dL_heat_7 rfl (Nat.le_of_ble_eq_true rfl) (xone_of rfl) rfl ?_
    refine r_iconst (q := 9) (v := (-1)) dL_heat_8 rfl rfl ?_
    refine r_iret dL_heat_9 rfl (Nat.le_of_ble_eq_true rfl) (Nat.le_of_ble_eq_true rfl) ?_
    exact hp9
  by_cases k2 : k = 2
  · subst k2
    rw [if_neg (by decide), if_neg (by decide)] at hp9
    show ∃ h9, xGet _ _ "java/lang/UnsupportedOperationException" h9 ∧ ∀ q9 : Nat, WF _ E Po _ h9 _ [.ref q9] u _ _
    refine ⟨10, ⟨[(0, 6, 7, 22)], (0, 6, 10, 16), [], rfl, List.forall_mem_cons.mpr ⟨⟨by decide, _, List.mem_cons_of_mem _ (zw11), by decide⟩, fun _ h => absurd h List.not_mem_nil⟩, ⟨by decide, by decide⟩, by decide, List.mem_cons_of_mem _ (zw6), by decide, rfl⟩, fun q9 => ?_⟩
    refine r_astore_n (q := 11) dL_heat_10 rfl (Nat.le_of_ble_eq_true rfl) (xone_of rfl) rfl ?_
    refine r_bipush (q := 13) (v := (-2)) dL_heat_11 (by decide) rfl ?_
    refine r_iret dL_heat_13 rfl (Nat.le_of_ble_eq_true rfl) (Nat.le_of_ble_eq_true rfl) ?_
    exact hp9
  omega
/-- TubHireLaw.cold(LTubHire;I)I -/
def M_L_cold : xM := (yL_cold, cL_cold, 3, (some FieldType.int), Cond.codeWith yL_cold cL_cold 3 (some FieldType.int) [(0, 5, 6, 22), (0, 5, 9, 16)] :: xAll, { frames := 10, cells := 1, slots := 6, locals := 202 }, (1, 6), [(0, 5, 6, 22), (0, 5, 9, 16)])
theorem s_L_cold_67 : xSv M_L_cold M_X9_cold 67 1 := fun s args hts => ⟨callB_of 1 hts (xGood zw65) rfl rfl rfl (hts _ (List.mem_cons_of_mem _ (zw1))) (hts _ (List.mem_cons_of_mem _ (zw66))) (by decide +kernel) ⟨Nat.le_of_ble_eq_true rfl, Nat.le_of_ble_eq_true rfl⟩, (hts _ (List.mem_cons_of_mem _ (zw67))), (hts _ (List.mem_cons_of_mem _ (zw68)))⟩
set_option maxRecDepth 100000 in
set_option maxHeartbeats 4000000 in
theorem ct_L_cold {E : xE} {Po : xPo} {w : xW} {x : Nat} (k : Nat) (v : Int32) {p0 : Int32} {h : xHi} (Qh : xHi → Prop) (H : HI E w x h) (hk : k ≤ 2) (hq : ∀ h2, Qh h2 → h2.2.2.2.2.1 = h.2.2.2.2.1) (c1 : ∀ Po : xPo, (∀ u h2, Qh h2 → HI E u x h2 → Fr w u x h → Po (rs ["java/lang/IndexOutOfBoundsException", "java/lang/UnsupportedOperationException"] k v) u) → Ct M_X9_cold E (.ref x :: [.int p0]) w Po) (hp : ∀ u h2, Qh h2 → HI E u x h2 → FX w u x h h2 → Po (.inl (some (.int (if k = 0 then v else if k = 1 then (-1) else (-2))))) u) : Ct M_L_cold E [.ref x, .int p0] w Po := by
  refine Ct.ofH (ws2 := xAll) (L := [some (.ref x), some (.int p0), none]) (by decide +kernel) rfl (List.forall_mem_cons.mpr ⟨rfl, (List.forall_mem_cons.mpr ⟨rfl, fun _ h => absurd h List.not_mem_nil⟩)⟩) (Nat.le_of_ble_eq_true rfl) rfl ?_
  refine r_aload_n (q := 1) dL_cold_0 rfl rfl rfl ?_
  refine r_iload_n (q := 2) dL_cold_1 rfl rfl rfl ?_
  refine r_callVH (q := 5) (ci := 11) (As := [_]) dL_cold_2 s_L_cold_67 H.1.1 rfl rfl (Nat.le_of_ble_eq_true rfl) rfl rfl rfl ⟨(Nat.le_of_ble_eq_true rfl), (Nat.le_of_ble_eq_true rfl)⟩ rfl ?_
  refine c1 _ (fun u h2 q1 q3 q4 => ?_)
  have hp9 := hp u h2 q1 q3 ⟨q4, Or.inl (hq h2 q1)⟩
  by_cases k0 : k = 0
  · subst k0
    rw [if_pos rfl] at hp9
    show WF _ E Po _ _ _ [.int v] u _ _
    refine r_iret dL_cold_5 rfl (Nat.le_of_ble_eq_true rfl) (Nat.le_of_ble_eq_true rfl) ?_
    exact hp9
  by_cases k1 : k = 1
  · subst k1
    rw [if_neg (by decide), if_pos rfl] at hp9
    show ∃ h9, xGet _ _ "java/lang/IndexOutOfBoundsException" h9 ∧ ∀ q9 : Nat, WF _ E Po _ h9 _ [.ref q9] u _ _
    refine ⟨6, ⟨[], (0, 5, 6, 22), [(0, 5, 9, 16)], rfl, fun _ h => absurd h List.not_mem_nil, ⟨by decide, by decide⟩, by decide, List.mem_cons_of_mem _ (zw11), by decide, rfl⟩, fun q9 => ?_⟩
    refine r_astore_n (q := 7) dL_cold_6 rfl (Nat.le_of_ble_eq_true rfl) (xone_of rfl) rfl ?_
    refine r_iconst (q := 8) (v := (-1)) dL_cold_7 rfl rfl ?_
    refine r_iret dL_cold_8 rfl (Nat.le_of_ble_eq_true rfl) (Nat.le_of_ble_eq_true rfl) ?_
    exact hp9
  by_cases k2 : k = 2
  · subst k2
    rw [if_neg (by decide), if_neg (by decide)] at hp9
    show ∃ h9, xGet _ _ "java/lang/UnsupportedOperationException" h9 ∧ ∀ q9 : Nat, WF _ E Po _ h9 _ [.ref q9] u _ _
    refine ⟨9, ⟨[(0, 5, 6, 22)], (0, 5, 9, 16), [], rfl, List.forall_mem_cons.mpr ⟨⟨by decide, _, List.mem_cons_of_mem _ (zw11), by decide⟩, fun _ h => absurd h List.not_mem_nil⟩, ⟨by decide, by decide⟩, by decide, List.mem_cons_of_mem _ (zw6), by decide, rfl⟩, fun q9 => ?_⟩
    refine r_astore_n (q := 10) dL_cold_9 rfl (Nat.le_of_ble_eq_true rfl) (xone_of rfl) rfl ?_
    refine r_bipush (q := 12) (v := (-2)) dL_cold_10 (by decide) rfl ?_
    refine r_iret dL_cold_12 rfl (Nat.le_of_ble_eq_true rfl) (Nat.le_of_ble_eq_true rfl) ?_
    exact hp9
  omega
/-- TubHireLaw.gas(LTubHire;II)I -/
def M_L_gas : xM := (yL_gas, cL_gas, 4, (some FieldType.int), Cond.codeWith yL_gas cL_gas 4 (some FieldType.int) [(0, 6, 7, 22), (0, 6, 10, 14), (0, 6, 14, 16)] :: xAll, { frames := 10, cells := 1, slots := 6, locals := 203 }, (1, 6), [(0, 6, 7, 22), (0, 6, 10, 14), (0, 6, 14, 16)])
theorem s_L_gas_70 : xSv M_L_gas M_X9_gas 70 2 := fun s args hts => ⟨callB_of 2 hts (xGood zw69) rfl rfl rfl (hts _ (List.mem_cons_of_mem _ (zw1))) (hts _ (List.mem_cons_of_mem _ (zw70))) (by decide +kernel) ⟨Nat.le_of_ble_eq_true rfl, Nat.le_of_ble_eq_true rfl⟩, (hts _ (List.mem_cons_of_mem _ (zw71))), (hts _ (List.mem_cons_of_mem _ (zw72)))⟩
set_option maxRecDepth 100000 in
set_option maxHeartbeats 4000000 in
theorem ct_L_gas {E : xE} {Po : xPo} {w : xW} {x : Nat} (k : Nat) (v : Int32) {p0 p1 : Int32} {h : xHi} (Qh : xHi → Prop) (H : HI E w x h) (hk : k ≤ 3) (hq : ∀ h2, Qh h2 → h2.2.2.2.2.1 = h.2.2.2.2.1) (c1 : ∀ Po : xPo, (∀ u h2, Qh h2 → HI E u x h2 → Fr w u x h → Po (rs ["java/lang/IndexOutOfBoundsException", "java/lang/IllegalArgumentException", "java/lang/UnsupportedOperationException"] k v) u) → Ct M_X9_gas E (.ref x :: [.int p0, .int p1]) w Po) (hp : ∀ u h2, Qh h2 → HI E u x h2 → FX w u x h h2 → Po (.inl (some (.int (if k = 0 then v else if k = 1 then (-1) else if k = 2 then (-2) else (-3))))) u) : Ct M_L_gas E [.ref x, .int p0, .int p1] w Po := by
  refine Ct.ofH (ws2 := xAll) (L := [some (.ref x), some (.int p0), some (.int p1), none]) (by decide +kernel) rfl (List.forall_mem_cons.mpr ⟨rfl, (List.forall_mem_cons.mpr ⟨rfl, (List.forall_mem_cons.mpr ⟨rfl, fun _ h => absurd h List.not_mem_nil⟩)⟩)⟩) (Nat.le_of_ble_eq_true rfl) rfl ?_
  refine r_aload_n (q := 1) dL_gas_0 rfl rfl rfl ?_
  refine r_iload_n (q := 2) dL_gas_1 rfl rfl rfl ?_
  refine r_iload_n (q := 3) dL_gas_2 rfl rfl rfl ?_
  refine r_callVH (q := 6) (ci := 11) (As := [_, _]) dL_gas_3 s_L_gas_70 H.1.1 rfl rfl (Nat.le_of_ble_eq_true rfl) rfl rfl rfl ⟨(Nat.le_of_ble_eq_true rfl), (Nat.le_of_ble_eq_true rfl)⟩ rfl ?_
  refine c1 _ (fun u h2 q1 q3 q4 => ?_)
  have hp9 := hp u h2 q1 q3 ⟨q4, Or.inl (hq h2 q1)⟩
  by_cases k0 : k = 0
  · subst k0
    rw [if_pos rfl] at hp9
    show WF _ E Po _ _ _ [.int v] u _ _
    refine r_iret dL_gas_6 rfl (Nat.le_of_ble_eq_true rfl) (Nat.le_of_ble_eq_true rfl) ?_
    exact hp9
  by_cases k1 : k = 1
  · subst k1
    rw [if_neg (by decide), if_pos rfl] at hp9
    show ∃ h9, xGet _ _ "java/lang/IndexOutOfBoundsException" h9 ∧ ∀ q9 : Nat, WF _ E Po _ h9 _ [.ref q9] u _ _
    refine ⟨7, ⟨[], (0, 6, 7, 22), [(0, 6, 10, 14), (0, 6, 14, 16)], rfl, fun _ h => absurd h List.not_mem_nil, ⟨by decide, by decide⟩, by decide, List.mem_cons_of_mem _ (zw11), by decide, rfl⟩, fun q9 => ?_⟩
    refine r_astore_n (q := 8) dL_gas_7 rfl (Nat.le_of_ble_eq_true rfl) (xone_of rfl) rfl ?_
    refine r_iconst (q := 9) (v := (-1)) dL_gas_8 rfl rfl ?_
    refine r_iret dL_gas_9 rfl (Nat.le_of_ble_eq_true rfl) (Nat.le_of_ble_eq_true rfl) ?_
    exact hp9
  by_cases k2 : k = 2
  · subst k2
    rw [if_neg (by decide), if_neg (by decide), if_pos rfl] at hp9
    show ∃ h9, xGet _ _ "java/lang/IllegalArgumentException" h9 ∧ ∀ q9 : Nat, WF _ E Po _ h9 _ [.ref q9] u _ _
    refine ⟨10, ⟨[(0, 6, 7, 22)], (0, 6, 10, 14), [(0, 6, 14, 16)], rfl, List.forall_mem_cons.mpr ⟨⟨by decide, _, List.mem_cons_of_mem _ (zw11), by decide⟩, fun _ h => absurd h List.not_mem_nil⟩, ⟨by decide, by decide⟩, by decide, List.mem_cons_of_mem _ (zw5), by decide, rfl⟩, fun q9 => ?_⟩
    refine r_astore_n (q := 11) dL_gas_10 rfl (Nat.le_of_ble_eq_true rfl) (xone_of rfl) rfl ?_
    refine r_bipush (q := 13) (v := (-2)) dL_gas_11 (by decide) rfl ?_
    refine r_iret dL_gas_13 rfl (Nat.le_of_ble_eq_true rfl) (Nat.le_of_ble_eq_true rfl) ?_
    exact hp9
  by_cases k3 : k = 3
  · subst k3
    rw [if_neg (by decide), if_neg (by decide), if_neg (by decide)] at hp9
    show ∃ h9, xGet _ _ "java/lang/UnsupportedOperationException" h9 ∧ ∀ q9 : Nat, WF _ E Po _ h9 _ [.ref q9] u _ _
    refine ⟨14, ⟨[(0, 6, 7, 22), (0, 6, 10, 14)], (0, 6, 14, 16), [], rfl, List.forall_mem_cons.mpr ⟨⟨by decide, _, List.mem_cons_of_mem _ (zw11), by decide⟩, List.forall_mem_cons.mpr ⟨⟨by decide, _, List.mem_cons_of_mem _ (zw5), by decide⟩, fun _ h => absurd h List.not_mem_nil⟩⟩, ⟨by decide, by decide⟩, by decide, List.mem_cons_of_mem _ (zw6), by decide, rfl⟩, fun q9 => ?_⟩
    refine r_astore_n (q := 15) dL_gas_14 rfl (Nat.le_of_ble_eq_true rfl) (xone_of rfl) rfl ?_
    refine r_bipush (q := 17) (v := (-3)) dL_gas_15 (by decide) rfl ?_
    refine r_iret dL_gas_17 rfl (Nat.le_of_ble_eq_true rfl) (Nat.le_of_ble_eq_true rfl) ?_
    exact hp9
  omega
/-- TubHireLaw.wash(LTubHire;I)I -/
def M_L_wash : xM := (yL_wash, cL_wash, 3, (some FieldType.int), Cond.codeWith yL_wash cL_wash 3 (some FieldType.int) [(0, 5, 6, 14), (0, 5, 9, 16)] :: xAll, { frames := 10, cells := 1, slots := 6, locals := 202 }, (1, 6), [(0, 5, 6, 14), (0, 5, 9, 16)])
theorem s_L_wash_73 : xSv M_L_wash M_X9_wash 73 1 := fun s args hts => ⟨callB_of 1 hts (xGood zw73) rfl rfl rfl (hts _ (List.mem_cons_of_mem _ (zw1))) (hts _ (List.mem_cons_of_mem _ (zw74))) (by decide +kernel) ⟨Nat.le_of_ble_eq_true rfl, Nat.le_of_ble_eq_true rfl⟩, (hts _ (List.mem_cons_of_mem _ (zw75))), (hts _ (List.mem_cons_of_mem _ (zw76)))⟩
set_option maxRecDepth 100000 in
set_option maxHeartbeats 4000000 in
theorem ct_L_wash {E : xE} {Po : xPo} {w : xW} {x : Nat} (k : Nat) (v : Int32) {p0 : Int32} {h : xHi} (Qh : xHi → Prop) (H : HI E w x h) (hk : k ≤ 2) (hq : ∀ h2, Qh h2 → h2.2.2.2.2.1 = h.2.2.2.2.1) (c1 : ∀ Po : xPo, (∀ u h2, Qh h2 → HI E u x h2 → Fr w u x h → Po (rs ["java/lang/IllegalArgumentException", "java/lang/UnsupportedOperationException"] k v) u) → Ct M_X9_wash E (.ref x :: [.int p0]) w Po) (hp : ∀ u h2, Qh h2 → HI E u x h2 → FX w u x h h2 → Po (.inl (some (.int (if k = 0 then v else if k = 1 then (-1) else (-2))))) u) : Ct M_L_wash E [.ref x, .int p0] w Po := by
  refine Ct.ofH (ws2 := xAll) (L := [some (.ref x), some (.int p0), none]) (by decide +kernel) rfl (List.forall_mem_cons.mpr ⟨rfl, (List.forall_mem_cons.mpr ⟨rfl, fun _ h => absurd h List.not_mem_nil⟩)⟩) (Nat.le_of_ble_eq_true rfl) rfl ?_
  refine r_aload_n (q := 1) dL_wash_0 rfl rfl rfl ?_
  refine r_iload_n (q := 2) dL_wash_1 rfl rfl rfl ?_
  refine r_callVH (q := 5) (ci := 11) (As := [_]) dL_wash_2 s_L_wash_73 H.1.1 rfl rfl (Nat.le_of_ble_eq_true rfl) rfl rfl rfl ⟨(Nat.le_of_ble_eq_true rfl), (Nat.le_of_ble_eq_true rfl)⟩ rfl ?_
  refine c1 _ (fun u h2 q1 q3 q4 => ?_)
  have hp9 := hp u h2 q1 q3 ⟨q4, Or.inl (hq h2 q1)⟩
  by_cases k0 : k = 0
  · subst k0
    rw [if_pos rfl] at hp9
    show WF _ E Po _ _ _ [.int v] u _ _
    refine r_iret dL_wash_5 rfl (Nat.le_of_ble_eq_true rfl) (Nat.le_of_ble_eq_true rfl) ?_
    exact hp9
  by_cases k1 : k = 1
  · subst k1
    rw [if_neg (by decide), if_pos rfl] at hp9
    show ∃ h9, xGet _ _ "java/lang/IllegalArgumentException" h9 ∧ ∀ q9 : Nat, WF _ E Po _ h9 _ [.ref q9] u _ _
    refine ⟨6, ⟨[], (0, 5, 6, 14), [(0, 5, 9, 16)], rfl, fun _ h => absurd h List.not_mem_nil, ⟨by decide, by decide⟩, by decide, List.mem_cons_of_mem _ (zw5), by decide, rfl⟩, fun q9 => ?_⟩
    refine r_astore_n (q := 7) dL_wash_6 rfl (Nat.le_of_ble_eq_true rfl) (xone_of rfl) rfl ?_
    refine r_iconst (q := 8) (v := (-1)) dL_wash_7 rfl rfl ?_
    refine r_iret dL_wash_8 rfl (Nat.le_of_ble_eq_true rfl) (Nat.le_of_ble_eq_true rfl) ?_
    exact hp9
  by_cases k2 : k = 2
  · subst k2
    rw [if_neg (by decide), if_neg (by decide)] at hp9
    show ∃ h9, xGet _ _ "java/lang/UnsupportedOperationException" h9 ∧ ∀ q9 : Nat, WF _ E Po _ h9 _ [.ref q9] u _ _
    refine ⟨9, ⟨[(0, 5, 6, 14)], (0, 5, 9, 16), [], rfl, List.forall_mem_cons.mpr ⟨⟨by decide, _, List.mem_cons_of_mem _ (zw5), by decide⟩, fun _ h => absurd h List.not_mem_nil⟩, ⟨by decide, by decide⟩, by decide, List.mem_cons_of_mem _ (zw6), by decide, rfl⟩, fun q9 => ?_⟩
    refine r_astore_n (q := 10) dL_wash_9 rfl (Nat.le_of_ble_eq_true rfl) (xone_of rfl) rfl ?_
    refine r_bipush (q := 12) (v := (-2)) dL_wash_10 (by decide) rfl ?_
    refine r_iret dL_wash_12 rfl (Nat.le_of_ble_eq_true rfl) (Nat.le_of_ble_eq_true rfl) ?_
    exact hp9
  omega
/-- TubHireLaw.soap(LTubHire;I)I -/
def M_L_soap : xM := (yL_soap, cL_soap, 3, (some FieldType.int), Cond.codeWith yL_soap cL_soap 3 (some FieldType.int) [(0, 5, 6, 14), (0, 5, 9, 16)] :: xAll, { frames := 10, cells := 1, slots := 6, locals := 202 }, (1, 6), [(0, 5, 6, 14), (0, 5, 9, 16)])
theorem s_L_soap_76 : xSv M_L_soap M_X9_soap 76 1 := fun s args hts => ⟨callB_of 1 hts (xGood zw77) rfl rfl rfl (hts _ (List.mem_cons_of_mem _ (zw1))) (hts _ (List.mem_cons_of_mem _ (zw78))) (by decide +kernel) ⟨Nat.le_of_ble_eq_true rfl, Nat.le_of_ble_eq_true rfl⟩, (hts _ (List.mem_cons_of_mem _ (zw79))), (hts _ (List.mem_cons_of_mem _ (zw80)))⟩
set_option maxRecDepth 100000 in
set_option maxHeartbeats 4000000 in
theorem ct_L_soap {E : xE} {Po : xPo} {w : xW} {x : Nat} (k : Nat) (v : Int32) {p0 : Int32} {h : xHi} (Qh : xHi → Prop) (H : HI E w x h) (hk : k ≤ 2) (hq : ∀ h2, Qh h2 → h2.2.2.2.2.1 = h.2.2.2.2.1) (c1 : ∀ Po : xPo, (∀ u h2, Qh h2 → HI E u x h2 → Fr w u x h → Po (rs ["java/lang/IllegalArgumentException", "java/lang/UnsupportedOperationException"] k v) u) → Ct M_X9_soap E (.ref x :: [.int p0]) w Po) (hp : ∀ u h2, Qh h2 → HI E u x h2 → FX w u x h h2 → Po (.inl (some (.int (if k = 0 then v else if k = 1 then (-1) else (-2))))) u) : Ct M_L_soap E [.ref x, .int p0] w Po := by
  refine Ct.ofH (ws2 := xAll) (L := [some (.ref x), some (.int p0), none]) (by decide +kernel) rfl (List.forall_mem_cons.mpr ⟨rfl, (List.forall_mem_cons.mpr ⟨rfl, fun _ h => absurd h List.not_mem_nil⟩)⟩) (Nat.le_of_ble_eq_true rfl) rfl ?_
  refine r_aload_n (q := 1) dL_soap_0 rfl rfl rfl ?_
  refine r_iload_n (q := 2) dL_soap_1 rfl rfl rfl ?_
  refine r_callVH (q := 5) (ci := 11) (As := [_]) dL_soap_2 s_L_soap_76 H.1.1 rfl rfl (Nat.le_of_ble_eq_true rfl) rfl rfl rfl ⟨(Nat.le_of_ble_eq_true rfl), (Nat.le_of_ble_eq_true rfl)⟩ rfl ?_
  refine c1 _ (fun u h2 q1 q3 q4 => ?_)
  have hp9 := hp u h2 q1 q3 ⟨q4, Or.inl (hq h2 q1)⟩
  by_cases k0 : k = 0
  · subst k0
    rw [if_pos rfl] at hp9
    show WF _ E Po _ _ _ [.int v] u _ _
    refine r_iret dL_soap_5 rfl (Nat.le_of_ble_eq_true rfl) (Nat.le_of_ble_eq_true rfl) ?_
    exact hp9
  by_cases k1 : k = 1
  · subst k1
    rw [if_neg (by decide), if_pos rfl] at hp9
    show ∃ h9, xGet _ _ "java/lang/IllegalArgumentException" h9 ∧ ∀ q9 : Nat, WF _ E Po _ h9 _ [.ref q9] u _ _
    refine ⟨6, ⟨[], (0, 5, 6, 14), [(0, 5, 9, 16)], rfl, fun _ h => absurd h List.not_mem_nil, ⟨by decide, by decide⟩, by decide, List.mem_cons_of_mem _ (zw5), by decide, rfl⟩, fun q9 => ?_⟩
    refine r_astore_n (q := 7) dL_soap_6 rfl (Nat.le_of_ble_eq_true rfl) (xone_of rfl) rfl ?_
    refine r_iconst (q := 8) (v := (-1)) dL_soap_7 rfl rfl ?_
    refine r_iret dL_soap_8 rfl (Nat.le_of_ble_eq_true rfl) (Nat.le_of_ble_eq_true rfl) ?_
    exact hp9
  by_cases k2 : k = 2
  · subst k2
    rw [if_neg (by decide), if_neg (by decide)] at hp9
    show ∃ h9, xGet _ _ "java/lang/UnsupportedOperationException" h9 ∧ ∀ q9 : Nat, WF _ E Po _ h9 _ [.ref q9] u _ _
    refine ⟨9, ⟨[(0, 5, 6, 14)], (0, 5, 9, 16), [], rfl, List.forall_mem_cons.mpr ⟨⟨by decide, _, List.mem_cons_of_mem _ (zw5), by decide⟩, fun _ h => absurd h List.not_mem_nil⟩, ⟨by decide, by decide⟩, by decide, List.mem_cons_of_mem _ (zw6), by decide, rfl⟩, fun q9 => ?_⟩
    refine r_astore_n (q := 10) dL_soap_9 rfl (Nat.le_of_ble_eq_true rfl) (xone_of rfl) rfl ?_
    refine r_bipush (q := 12) (v := (-2)) dL_soap_10 (by decide) rfl ?_
    refine r_iret dL_soap_12 rfl (Nat.le_of_ble_eq_true rfl) (Nat.le_of_ble_eq_true rfl) ?_
    exact hp9
  omega
/-- TubHireLaw.pass(LTubHire;I)I -/
def M_L_pass : xM := (yL_pass, cL_pass, 3, (some FieldType.int), Cond.codeWith yL_pass cL_pass 3 (some FieldType.int) [(0, 5, 6, 14)] :: xAll, { frames := 10, cells := 1, slots := 6, locals := 202 }, (1, 6), [(0, 5, 6, 14)])
theorem s_L_pass_79 : xSv M_L_pass M_X9_pass 79 1 := fun s args hts => ⟨callB_of 1 hts (xGood zw81) rfl rfl rfl (hts _ (List.mem_cons_of_mem _ (zw1))) (hts _ (List.mem_cons_of_mem _ (zw82))) (by decide +kernel) ⟨Nat.le_of_ble_eq_true rfl, Nat.le_of_ble_eq_true rfl⟩, (hts _ (List.mem_cons_of_mem _ (zw83))), (hts _ (List.mem_cons_of_mem _ (zw84)))⟩
set_option maxRecDepth 100000 in
set_option maxHeartbeats 4000000 in
theorem ct_L_pass {E : xE} {Po : xPo} {w : xW} {x : Nat} (k : Nat) (v : Int32) {p0 : Int32} {h : xHi} (Qh : xHi → Prop) (H : HI E w x h) (hk : k ≤ 1) (hq : ∀ h2, Qh h2 → h2.2.2.2.2.1 = h.2.2.2.2.1) (c1 : ∀ Po : xPo, (∀ u h2, Qh h2 → HI E u x h2 → Fr w u x h → Po (rs ["java/lang/IllegalArgumentException"] k v) u) → Ct M_X9_pass E (.ref x :: [.int p0]) w Po) (hp : ∀ u h2, Qh h2 → HI E u x h2 → FX w u x h h2 → Po (.inl (some (.int (if k = 0 then v else (-1))))) u) : Ct M_L_pass E [.ref x, .int p0] w Po := by
  refine Ct.ofH (ws2 := xAll) (L := [some (.ref x), some (.int p0), none]) (by decide +kernel) rfl (List.forall_mem_cons.mpr ⟨rfl, (List.forall_mem_cons.mpr ⟨rfl, fun _ h => absurd h List.not_mem_nil⟩)⟩) (Nat.le_of_ble_eq_true rfl) rfl ?_
  refine r_aload_n (q := 1) dL_pass_0 rfl rfl rfl ?_
  refine r_iload_n (q := 2) dL_pass_1 rfl rfl rfl ?_
  refine r_callVH (q := 5) (ci := 11) (As := [_]) dL_pass_2 s_L_pass_79 H.1.1 rfl rfl (Nat.le_of_ble_eq_true rfl) rfl rfl rfl ⟨(Nat.le_of_ble_eq_true rfl), (Nat.le_of_ble_eq_true rfl)⟩ rfl ?_
  refine c1 _ (fun u h2 q1 q3 q4 => ?_)
  have hp9 := hp u h2 q1 q3 ⟨q4, Or.inl (hq h2 q1)⟩
  by_cases k0 : k = 0
  · subst k0
    rw [if_pos rfl] at hp9
    show WF _ E Po _ _ _ [.int v] u _ _
    refine r_iret dL_pass_5 rfl (Nat.le_of_ble_eq_true rfl) (Nat.le_of_ble_eq_true rfl) ?_
    exact hp9
  by_cases k1 : k = 1
  · subst k1
    rw [if_neg (by decide)] at hp9
    show ∃ h9, xGet _ _ "java/lang/IllegalArgumentException" h9 ∧ ∀ q9 : Nat, WF _ E Po _ h9 _ [.ref q9] u _ _
    refine ⟨6, ⟨[], (0, 5, 6, 14), [], rfl, fun _ h => absurd h List.not_mem_nil, ⟨by decide, by decide⟩, by decide, List.mem_cons_of_mem _ (zw5), by decide, rfl⟩, fun q9 => ?_⟩
    refine r_astore_n (q := 7) dL_pass_6 rfl (Nat.le_of_ble_eq_true rfl) (xone_of rfl) rfl ?_
    refine r_iconst (q := 8) (v := (-1)) dL_pass_7 rfl rfl ?_
    refine r_iret dL_pass_8 rfl (Nat.le_of_ble_eq_true rfl) (Nat.le_of_ble_eq_true rfl) ?_
    exact hp9
  omega
/-- TubHireLaw.heatsIn(LTubHire;II)I -/
def M_L_heatsIn : xM := (yL_heatsIn, cL_heatsIn, 4, (some FieldType.int), Cond.codeWith yL_heatsIn cL_heatsIn 4 (some FieldType.int) [(0, 6, 7, 14)] :: xAll, { frames := 10, cells := 1, slots := 6, locals := 205 }, (1, 6), [(0, 6, 7, 14)])
theorem s_L_heatsIn_82 : xSv M_L_heatsIn M_X9_heatsIn 82 2 := fun s args hts => ⟨callB_of 2 hts (xGood zw85) rfl rfl rfl (hts _ (List.mem_cons_of_mem _ (zw1))) (hts _ (List.mem_cons_of_mem _ (zw86))) (by decide +kernel) ⟨Nat.le_of_ble_eq_true rfl, Nat.le_of_ble_eq_true rfl⟩, (hts _ (List.mem_cons_of_mem _ (zw87))), (hts _ (List.mem_cons_of_mem _ (zw88)))⟩
set_option maxRecDepth 100000 in
set_option maxHeartbeats 4000000 in
theorem ct_L_heatsIn {E : xE} {Po : xPo} {w : xW} {x : Nat} (k : Nat) (v : Int32) {p0 p1 : Int32} {h : xHi} (Qh : xHi → Prop) (H : HI E w x h) (hk : k ≤ 1) (hq : ∀ h2, Qh h2 → h2.2.2.2.2.1 = h.2.2.2.2.1) (c1 : ∀ Po : xPo, (∀ u h2, Qh h2 → HI E u x h2 → Fr w u x h → Po (rs ["java/lang/IllegalArgumentException"] k v) u) → Ct M_X9_heatsIn E (.ref x :: [.int p0, .int p1]) w Po) (hp : ∀ u h2, Qh h2 → HI E u x h2 → FX w u x h h2 → Po (.inl (some (.int (if k = 0 then v else (-12))))) u) : Ct M_L_heatsIn E [.ref x, .int p0, .int p1] w Po := by
  refine Ct.ofH (ws2 := xAll) (L := [some (.ref x), some (.int p0), some (.int p1), none]) (by decide +kernel) rfl (List.forall_mem_cons.mpr ⟨rfl, (List.forall_mem_cons.mpr ⟨rfl, (List.forall_mem_cons.mpr ⟨rfl, fun _ h => absurd h List.not_mem_nil⟩)⟩)⟩) (Nat.le_of_ble_eq_true rfl) rfl ?_
  refine r_aload_n (q := 1) dL_heatsIn_0 rfl rfl rfl ?_
  refine r_iload_n (q := 2) dL_heatsIn_1 rfl rfl rfl ?_
  refine r_iload_n (q := 3) dL_heatsIn_2 rfl rfl rfl ?_
  refine r_callVH (q := 6) (ci := 11) (As := [_, _]) dL_heatsIn_3 s_L_heatsIn_82 H.1.1 rfl rfl (Nat.le_of_ble_eq_true rfl) rfl rfl rfl ⟨(Nat.le_of_ble_eq_true rfl), (Nat.le_of_ble_eq_true rfl)⟩ rfl ?_
  refine c1 _ (fun u h2 q1 q3 q4 => ?_)
  have hp9 := hp u h2 q1 q3 ⟨q4, Or.inl (hq h2 q1)⟩
  by_cases k0 : k = 0
  · subst k0
    rw [if_pos rfl] at hp9
    show WF _ E Po _ _ _ [.int v] u _ _
    refine r_iret dL_heatsIn_6 rfl (Nat.le_of_ble_eq_true rfl) (Nat.le_of_ble_eq_true rfl) ?_
    exact hp9
  by_cases k1 : k = 1
  · subst k1
    rw [if_neg (by decide)] at hp9
    show ∃ h9, xGet _ _ "java/lang/IllegalArgumentException" h9 ∧ ∀ q9 : Nat, WF _ E Po _ h9 _ [.ref q9] u _ _
    refine ⟨7, ⟨[], (0, 6, 7, 14), [], rfl, fun _ h => absurd h List.not_mem_nil, ⟨by decide, by decide⟩, by decide, List.mem_cons_of_mem _ (zw5), by decide, rfl⟩, fun q9 => ?_⟩
    refine r_astore_n (q := 8) dL_heatsIn_7 rfl (Nat.le_of_ble_eq_true rfl) (xone_of rfl) rfl ?_
    refine r_bipush (q := 10) (v := (-12)) dL_heatsIn_8 (by decide) rfl ?_
    refine r_iret dL_heatsIn_10 rfl (Nat.le_of_ble_eq_true rfl) (Nat.le_of_ble_eq_true rfl) ?_
    exact hp9
  omega
/-- TubHireLaw.heatsAgain(LTubHire;II)I -/
def M_L_heatsAgain : xM := (yL_heatsAgain, cL_heatsAgain, 4, (some FieldType.int), Cond.codeWith yL_heatsAgain cL_heatsAgain 4 (some FieldType.int) [(0, 6, 7, 14)] :: xAll, { frames := 10, cells := 1, slots := 6, locals := 205 }, (1, 6), [(0, 6, 7, 14)])
theorem s_L_heatsAgain_85 : xSv M_L_heatsAgain M_X9_heatsAgain 85 2 := fun s args hts => ⟨callB_of 2 hts (xGood zw89) rfl rfl rfl (hts _ (List.mem_cons_of_mem _ (zw1))) (hts _ (List.mem_cons_of_mem _ (zw90))) (by decide +kernel) ⟨Nat.le_of_ble_eq_true rfl, Nat.le_of_ble_eq_true rfl⟩, (hts _ (List.mem_cons_of_mem _ (zw91))), (hts _ (List.mem_cons_of_mem _ (zw92)))⟩
set_option maxRecDepth 100000 in
set_option maxHeartbeats 4000000 in
theorem ct_L_heatsAgain {E : xE} {Po : xPo} {w : xW} {x : Nat} (k : Nat) (v : Int32) {p0 p1 : Int32} {h : xHi} (Qh : xHi → Prop) (H : HI E w x h) (hk : k ≤ 1) (hq : ∀ h2, Qh h2 → h2.2.2.2.2.1 = h.2.2.2.2.1) (c1 : ∀ Po : xPo, (∀ u h2, Qh h2 → HI E u x h2 → Fr w u x h → Po (rs ["java/lang/IllegalArgumentException"] k v) u) → Ct M_X9_heatsAgain E (.ref x :: [.int p0, .int p1]) w Po) (hp : ∀ u h2, Qh h2 → HI E u x h2 → FX w u x h h2 → Po (.inl (some (.int (if k = 0 then v else (-12))))) u) : Ct M_L_heatsAgain E [.ref x, .int p0, .int p1] w Po := by
  refine Ct.ofH (ws2 := xAll) (L := [some (.ref x), some (.int p0), some (.int p1), none]) (by decide +kernel) rfl (List.forall_mem_cons.mpr ⟨rfl, (List.forall_mem_cons.mpr ⟨rfl, (List.forall_mem_cons.mpr ⟨rfl, fun _ h => absurd h List.not_mem_nil⟩)⟩)⟩) (Nat.le_of_ble_eq_true rfl) rfl ?_
  refine r_aload_n (q := 1) dL_heatsAgain_0 rfl rfl rfl ?_
  refine r_iload_n (q := 2) dL_heatsAgain_1 rfl rfl rfl ?_
  refine r_iload_n (q := 3) dL_heatsAgain_2 rfl rfl rfl ?_
  refine r_callVH (q := 6) (ci := 11) (As := [_, _]) dL_heatsAgain_3 s_L_heatsAgain_85 H.1.1 rfl rfl (Nat.le_of_ble_eq_true rfl) rfl rfl rfl ⟨(Nat.le_of_ble_eq_true rfl), (Nat.le_of_ble_eq_true rfl)⟩ rfl ?_
  refine c1 _ (fun u h2 q1 q3 q4 => ?_)
  have hp9 := hp u h2 q1 q3 ⟨q4, Or.inl (hq h2 q1)⟩
  by_cases k0 : k = 0
  · subst k0
    rw [if_pos rfl] at hp9
    show WF _ E Po _ _ _ [.int v] u _ _
    refine r_iret dL_heatsAgain_6 rfl (Nat.le_of_ble_eq_true rfl) (Nat.le_of_ble_eq_true rfl) ?_
    exact hp9
  by_cases k1 : k = 1
  · subst k1
    rw [if_neg (by decide)] at hp9
    show ∃ h9, xGet _ _ "java/lang/IllegalArgumentException" h9 ∧ ∀ q9 : Nat, WF _ E Po _ h9 _ [.ref q9] u _ _
    refine ⟨7, ⟨[], (0, 6, 7, 14), [], rfl, fun _ h => absurd h List.not_mem_nil, ⟨by decide, by decide⟩, by decide, List.mem_cons_of_mem _ (zw5), by decide, rfl⟩, fun q9 => ?_⟩
    refine r_astore_n (q := 8) dL_heatsAgain_7 rfl (Nat.le_of_ble_eq_true rfl) (xone_of rfl) rfl ?_
    refine r_bipush (q := 10) (v := (-12)) dL_heatsAgain_8 (by decide) rfl ?_
    refine r_iret dL_heatsAgain_10 rfl (Nat.le_of_ble_eq_true rfl) (Nat.le_of_ble_eq_true rfl) ?_
    exact hp9
  omega
/-- TubHireLaw.bathesIn(LTubHire;I)I -/
def M_L_bathesIn : xM := (yL_bathesIn, cL_bathesIn, 3, (some FieldType.int), Cond.codeWith yL_bathesIn cL_bathesIn 3 (some FieldType.int) [(0, 5, 6, 27)] :: xAll, { frames := 10, cells := 1, slots := 6, locals := 192 }, (1, 6), [(0, 5, 6, 27)])
theorem s_L_bathesIn_88 : xSv M_L_bathesIn M_X9_bathesIn 88 1 := fun s args hts => ⟨callB_of 1 hts (xGood zw93) rfl rfl rfl (hts _ (List.mem_cons_of_mem _ (zw1))) (hts _ (List.mem_cons_of_mem _ (zw94))) (by decide +kernel) ⟨Nat.le_of_ble_eq_true rfl, Nat.le_of_ble_eq_true rfl⟩, (hts _ (List.mem_cons_of_mem _ (zw95))), (hts _ (List.mem_cons_of_mem _ (zw96)))⟩
set_option maxRecDepth 100000 in
set_option maxHeartbeats 4000000 in
theorem ct_L_bathesIn {E : xE} {Po : xPo} {w : xW} {x : Nat} (k : Nat) (v : Int32) {p0 : Int32} {h : xHi} (Qh : xHi → Prop) (H : HI E w x h) (hk : k ≤ 1) (hq : ∀ h2, Qh h2 → h2.2.2.2.2.1 = h.2.2.2.2.1) (c1 : ∀ Po : xPo, (∀ u h2, Qh h2 → HI E u x h2 → Fr w u x h → Po (rs ["java/util/NoSuchElementException"] k v) u) → Ct M_X9_bathesIn E (.ref x :: [.int p0]) w Po) (hp : ∀ u h2, Qh h2 → HI E u x h2 → FX w u x h h2 → Po (.inl (some (.int (if k = 0 then v else (-13))))) u) : Ct M_L_bathesIn E [.ref x, .int p0] w Po := by
  refine Ct.ofH (ws2 := xAll) (L := [some (.ref x), some (.int p0), none]) (by decide +kernel) rfl (List.forall_mem_cons.mpr ⟨rfl, (List.forall_mem_cons.mpr ⟨rfl, fun _ h => absurd h List.not_mem_nil⟩)⟩) (Nat.le_of_ble_eq_true rfl) rfl ?_
  refine r_aload_n (q := 1) dL_bathesIn_0 rfl rfl rfl ?_
  refine r_iload_n (q := 2) dL_bathesIn_1 rfl rfl rfl ?_
  refine r_callVH (q := 5) (ci := 11) (As := [_]) dL_bathesIn_2 s_L_bathesIn_88 H.1.1 rfl rfl (Nat.le_of_ble_eq_true rfl) rfl rfl rfl ⟨(Nat.le_of_ble_eq_true rfl), (Nat.le_of_ble_eq_true rfl)⟩ rfl ?_
  refine c1 _ (fun u h2 q1 q3 q4 => ?_)
  have hp9 := hp u h2 q1 q3 ⟨q4, Or.inl (hq h2 q1)⟩
  by_cases k0 : k = 0
  · subst k0
    rw [if_pos rfl] at hp9
    show WF _ E Po _ _ _ [.int v] u _ _
    refine r_iret dL_bathesIn_5 rfl (Nat.le_of_ble_eq_true rfl) (Nat.le_of_ble_eq_true rfl) ?_
    exact hp9
  by_cases k1 : k = 1
  · subst k1
    rw [if_neg (by decide)] at hp9
    show ∃ h9, xGet _ _ "java/util/NoSuchElementException" h9 ∧ ∀ q9 : Nat, WF _ E Po _ h9 _ [.ref q9] u _ _
    refine ⟨6, ⟨[], (0, 5, 6, 27), [], rfl, fun _ h => absurd h List.not_mem_nil, ⟨by decide, by decide⟩, by decide, List.mem_cons_of_mem _ (zw16), by decide, rfl⟩, fun q9 => ?_⟩
    refine r_astore_n (q := 7) dL_bathesIn_6 rfl (Nat.le_of_ble_eq_true rfl) (xone_of rfl) rfl ?_
    refine r_bipush (q := 9) (v := (-13)) dL_bathesIn_7 (by decide) rfl ?_
    refine r_iret dL_bathesIn_9 rfl (Nat.le_of_ble_eq_true rfl) (Nat.le_of_ble_eq_true rfl) ?_
    exact hp9
  omega
/-- TubHireLaw.feed(LTubHire;C)I -/
def M_L_feed : xM := (yL_feed, cL_feed, 3, (some FieldType.int), Cond.codeWith yL_feed cL_feed 3 (some FieldType.int) [(0, 5, 6, 95)] :: xAll, { frames := 9, cells := 1, slots := 6, locals := 181 }, (1, 6), [(0, 5, 6, 95)])
theorem s_L_feed_91 : xSv M_L_feed M_X9_feed 91 1 := fun s args hts => ⟨callB_of 1 hts (xGood zw97) rfl rfl rfl (hts _ (List.mem_cons_of_mem _ (zw1))) (hts _ (List.mem_cons_of_mem _ (zw98))) (by decide +kernel) ⟨Nat.le_of_ble_eq_true rfl, Nat.le_of_ble_eq_true rfl⟩, (hts _ (List.mem_cons_of_mem _ (zw99))), (hts _ (List.mem_cons_of_mem _ (zw100)))⟩
set_option maxRecDepth 100000 in
set_option maxHeartbeats 4000000 in
theorem ct_L_feed {E : xE} {Po : xPo} {w : xW} {x : Nat} (k : Nat) (v : Int32) {p0 : Int32} {h : xHi} (Qh : xHi → Prop) (H : HI E w x h) (hk : k ≤ 1) (hq : ∀ h2, Qh h2 → h2.2.2.2.2.1 = h.2.2.2.2.1) (c1 : ∀ Po : xPo, (∀ u h2, Qh h2 → HI E u x h2 → Fr w u x h → Po (rs ["java/lang/IllegalStateException"] k v) u) → Ct M_X9_feed E (.ref x :: [.int p0]) w Po) (hp : ∀ u h2, Qh h2 → HI E u x h2 → FX w u x h h2 → Po (.inl (some (.int (if k = 0 then v else (-1))))) u) : Ct M_L_feed E [.ref x, .int p0] w Po := by
  refine Ct.ofH (ws2 := xAll) (L := [some (.ref x), some (.int p0), none]) (by decide +kernel) rfl (List.forall_mem_cons.mpr ⟨rfl, (List.forall_mem_cons.mpr ⟨rfl, fun _ h => absurd h List.not_mem_nil⟩)⟩) (Nat.le_of_ble_eq_true rfl) rfl ?_
  refine r_aload_n (q := 1) dL_feed_0 rfl rfl rfl ?_
  refine r_iload_n (q := 2) dL_feed_1 rfl rfl rfl ?_
  refine r_callVH (q := 5) (ci := 11) (As := [_]) dL_feed_2 s_L_feed_91 H.1.1 rfl rfl (Nat.le_of_ble_eq_true rfl) rfl rfl rfl ⟨(Nat.le_of_ble_eq_true rfl), (Nat.le_of_ble_eq_true rfl)⟩ rfl ?_
  refine c1 _ (fun u h2 q1 q3 q4 => ?_)
  have hp9 := hp u h2 q1 q3 ⟨q4, Or.inl (hq h2 q1)⟩
  by_cases k0 : k = 0
  · subst k0
    rw [if_pos rfl] at hp9
    show WF _ E Po _ _ _ [.int v] u _ _
    refine r_iret dL_feed_5 rfl (Nat.le_of_ble_eq_true rfl) (Nat.le_of_ble_eq_true rfl) ?_
    exact hp9
  by_cases k1 : k = 1
  · subst k1
    rw [if_neg (by decide)] at hp9
    show ∃ h9, xGet _ _ "java/lang/IllegalStateException" h9 ∧ ∀ q9 : Nat, WF _ E Po _ h9 _ [.ref q9] u _ _
    refine ⟨6, ⟨[], (0, 5, 6, 95), [], rfl, fun _ h => absurd h List.not_mem_nil, ⟨by decide, by decide⟩, by decide, List.mem_cons_of_mem _ (zw101), by decide, rfl⟩, fun q9 => ?_⟩
    refine r_astore_n (q := 7) dL_feed_6 rfl (Nat.le_of_ble_eq_true rfl) (xone_of rfl) rfl ?_
    refine r_iconst (q := 8) (v := (-1)) dL_feed_7 rfl rfl ?_
    refine r_iret dL_feed_8 rfl (Nat.le_of_ble_eq_true rfl) (Nat.le_of_ble_eq_true rfl) ?_
    exact hp9
  omega
/-- TubHireLaw.reads(LTubHire;)I -/
def M_L_reads : xM := (yL_reads, cL_reads, 2, (some FieldType.int), Cond.codeWith yL_reads cL_reads 2 (some FieldType.int) [(0, 4, 5, 14), (0, 4, 8, 16)] :: xAll, { frames := 11, cells := 1, slots := 6, locals := 221 }, (1, 6), [(0, 4, 5, 14), (0, 4, 8, 16)])
theorem s_L_reads_97 : xSv M_L_reads M_X9_read 97 0 := fun s args hts => ⟨callB_of 0 hts (xGood zw102) rfl rfl rfl (hts _ (List.mem_cons_of_mem _ (zw1))) (hts _ (List.mem_cons_of_mem _ (zw103))) (by decide +kernel) ⟨Nat.le_of_ble_eq_true rfl, Nat.le_of_ble_eq_true rfl⟩, (hts _ (List.mem_cons_of_mem _ (zw104))), (hts _ (List.mem_cons_of_mem _ (zw105)))⟩
set_option maxRecDepth 100000 in
set_option maxHeartbeats 4000000 in
theorem ct_L_reads {E : xE} {Po : xPo} {w : xW} {x : Nat} (k : Nat) (v : Int32) {h : xHi} (Qh : xHi → Prop) (H : HI E w x h) (hk : k ≤ 2) (hq : ∀ h2, Qh h2 → h2.2.2.2.2.1 = h.2.2.2.2.1) (c1 : ∀ Po : xPo, (∀ u h2, Qh h2 → HI E u x h2 → Fr w u x h → Po (rs ["java/lang/IllegalArgumentException", "java/lang/UnsupportedOperationException"] k v) u) → Ct M_X9_read E (.ref x :: []) w Po) (hp : ∀ u h2, Qh h2 → HI E u x h2 → FX w u x h h2 → Po (.inl (some (.int (if k = 0 then v else if k = 1 then (-1) else (-2))))) u) : Ct M_L_reads E [.ref x] w Po := by
  refine Ct.ofH (ws2 := xAll) (L := [some (.ref x), none]) (by decide +kernel) rfl (List.forall_mem_cons.mpr ⟨rfl, fun _ h => absurd h List.not_mem_nil⟩) (Nat.le_of_ble_eq_true rfl) rfl ?_
  refine r_aload_n (q := 1) dL_reads_0 rfl rfl rfl ?_
  refine r_callVH (q := 4) (ci := 11) (As := []) dL_reads_1 s_L_reads_97 H.1.1 rfl rfl (Nat.le_of_ble_eq_true rfl) rfl rfl rfl ⟨(Nat.le_of_ble_eq_true rfl), (Nat.le_of_ble_eq_true rfl)⟩ rfl ?_
  refine c1 _ (fun u h2 q1 q3 q4 => ?_)
  have hp9 := hp u h2 q1 q3 ⟨q4, Or.inl (hq h2 q1)⟩
  by_cases k0 : k = 0
  · subst k0
    rw [if_pos rfl] at hp9
    show WF _ E Po _ _ _ [.int v] u _ _
    refine r_iret dL_reads_4 rfl (Nat.le_of_ble_eq_true rfl) (Nat.le_of_ble_eq_true rfl) ?_
    exact hp9
  by_cases k1 : k = 1
  · subst k1
    rw [if_neg (by decide), if_pos rfl] at hp9
    show ∃ h9, xGet _ _ "java/lang/IllegalArgumentException" h9 ∧ ∀ q9 : Nat, WF _ E Po _ h9 _ [.ref q9] u _ _
    refine ⟨5, ⟨[], (0, 4, 5, 14), [(0, 4, 8, 16)], rfl, fun _ h => absurd h List.not_mem_nil, ⟨by decide, by decide⟩, by decide, List.mem_cons_of_mem _ (zw5), by decide, rfl⟩, fun q9 => ?_⟩
    refine r_astore_n (q := 6) dL_reads_5 rfl (Nat.le_of_ble_eq_true rfl) (xone_of rfl) rfl ?_
    refine r_iconst (q := 7) (v := (-1)) dL_reads_6 rfl rfl ?_
    refine r_iret dL_reads_7 rfl (Nat.le_of_ble_eq_true rfl) (Nat.le_of_ble_eq_true rfl) ?_
    exact hp9
  by_cases k2 : k = 2
  · subst k2
    rw [if_neg (by decide), if_neg (by decide)] at hp9
    show ∃ h9, xGet _ _ "java/lang/UnsupportedOperationException" h9 ∧ ∀ q9 : Nat, WF _ E Po _ h9 _ [.ref q9] u _ _
    refine ⟨8, ⟨[(0, 4, 5, 14)], (0, 4, 8, 16), [], rfl, List.forall_mem_cons.mpr ⟨⟨by decide, _, List.mem_cons_of_mem _ (zw5), by decide⟩, fun _ h => absurd h List.not_mem_nil⟩, ⟨by decide, by decide⟩, by decide, List.mem_cons_of_mem _ (zw6), by decide, rfl⟩, fun q9 => ?_⟩
    refine r_astore_n (q := 9) dL_reads_8 rfl (Nat.le_of_ble_eq_true rfl) (xone_of rfl) rfl ?_
    refine r_bipush (q := 11) (v := (-2)) dL_reads_9 (by decide) rfl ?_
    refine r_iret dL_reads_11 rfl (Nat.le_of_ble_eq_true rfl) (Nat.le_of_ble_eq_true rfl) ?_
    exact hp9
  omega
/-- TubHireLaw.refusal(LTubHire;Z)I -/
def M_L_refusal : xM := (yL_refusal, cL_refusal, 3, (some FieldType.int), Cond.codeWith yL_refusal cL_refusal 3 (some FieldType.int) [(0, 5, 6, 27)] :: xAll, { frames := 9, cells := 1, slots := 6, locals := 181 }, (1, 6), [(0, 5, 6, 27)])
theorem s_L_refusal_118 : xSv M_L_refusal M_X9_refusal 118 1 := fun s args hts => ⟨callB_of 1 hts (xGood zw106) rfl rfl rfl (hts _ (List.mem_cons_of_mem _ (zw1))) (hts _ (List.mem_cons_of_mem _ (zw107))) (by decide +kernel) ⟨Nat.le_of_ble_eq_true rfl, Nat.le_of_ble_eq_true rfl⟩, (hts _ (List.mem_cons_of_mem _ (zw108))), (hts _ (List.mem_cons_of_mem _ (zw109)))⟩
set_option maxRecDepth 100000 in
set_option maxHeartbeats 4000000 in
theorem ct_L_refusal {E : xE} {Po : xPo} {w : xW} {x : Nat} (k : Nat) (v : Int32) {p0 : Int32} {h : xHi} (Qh : xHi → Prop) (H : HI E w x h) (hk : k ≤ 1) (hq : ∀ h2, Qh h2 → h2.2.2.2.2.1 = h.2.2.2.2.1) (c1 : ∀ Po : xPo, (∀ u h2, Qh h2 → HI E u x h2 → Fr w u x h → Po (rs ["java/util/NoSuchElementException"] k v) u) → Ct M_X9_refusal E (.ref x :: [.int p0]) w Po) (hp : ∀ u h2, Qh h2 → HI E u x h2 → FX w u x h h2 → Po (.inl (some (.int (if k = 0 then v else (-101))))) u) : Ct M_L_refusal E [.ref x, .int p0] w Po := by
  refine Ct.ofH (ws2 := xAll) (L := [some (.ref x), some (.int p0), none]) (by decide +kernel) rfl (List.forall_mem_cons.mpr ⟨rfl, (List.forall_mem_cons.mpr ⟨rfl, fun _ h => absurd h List.not_mem_nil⟩)⟩) (Nat.le_of_ble_eq_true rfl) rfl ?_
  refine r_aload_n (q := 1) dL_refusal_0 rfl rfl rfl ?_
  refine r_iload_n (q := 2) dL_refusal_1 rfl rfl rfl ?_
  refine r_callVH (q := 5) (ci := 11) (As := [_]) dL_refusal_2 s_L_refusal_118 H.1.1 rfl rfl (Nat.le_of_ble_eq_true rfl) rfl rfl rfl ⟨(Nat.le_of_ble_eq_true rfl), (Nat.le_of_ble_eq_true rfl)⟩ rfl ?_
  refine c1 _ (fun u h2 q1 q3 q4 => ?_)
  have hp9 := hp u h2 q1 q3 ⟨q4, Or.inl (hq h2 q1)⟩
  by_cases k0 : k = 0
  · subst k0
    rw [if_pos rfl] at hp9
    show WF _ E Po _ _ _ [.int v] u _ _
    refine r_iret dL_refusal_5 rfl (Nat.le_of_ble_eq_true rfl) (Nat.le_of_ble_eq_true rfl) ?_
    exact hp9
  by_cases k1 : k = 1
  · subst k1
    rw [if_neg (by decide)] at hp9
    show ∃ h9, xGet _ _ "java/util/NoSuchElementException" h9 ∧ ∀ q9 : Nat, WF _ E Po _ h9 _ [.ref q9] u _ _
    refine ⟨6, ⟨[], (0, 5, 6, 27), [], rfl, fun _ h => absurd h List.not_mem_nil, ⟨by decide, by decide⟩, by decide, List.mem_cons_of_mem _ (zw16), by decide, rfl⟩, fun q9 => ?_⟩
    refine r_astore_n (q := 7) dL_refusal_6 rfl (Nat.le_of_ble_eq_true rfl) (xone_of rfl) rfl ?_
    refine r_bipush (q := 9) (v := (-101)) dL_refusal_7 (by decide) rfl ?_
    refine r_iret dL_refusal_9 rfl (Nat.le_of_ble_eq_true rfl) (Nat.le_of_ble_eq_true rfl) ?_
    exact hp9
  omega
/-- TubHireLaw.undo(LTubHire;)I -/
def M_L_undo : xM := (yL_undo, cL_undo, 2, (some FieldType.int), Cond.codeWith yL_undo cL_undo 2 (some FieldType.int) [(0, 4, 5, 95)] :: xAll, { frames := 9, cells := 1, slots := 6, locals := 180 }, (1, 6), [(0, 4, 5, 95)])
theorem s_L_undo_122 : xSv M_L_undo M_X9_undo 122 0 := fun s args hts => ⟨callB_of 0 hts (xGood zw110) rfl rfl rfl (hts _ (List.mem_cons_of_mem _ (zw1))) (hts _ (List.mem_cons_of_mem _ (zw111))) (by decide +kernel) ⟨Nat.le_of_ble_eq_true rfl, Nat.le_of_ble_eq_true rfl⟩, (hts _ (List.mem_cons_of_mem _ (zw112))), (hts _ (List.mem_cons_of_mem _ (zw113)))⟩
set_option maxRecDepth 100000 in
set_option maxHeartbeats 4000000 in
theorem ct_L_undo {E : xE} {Po : xPo} {w : xW} {x : Nat} (k : Nat) (v : Int32) {h : xHi} (Qh : xHi → Prop) (H : HI E w x h) (hk : k ≤ 1) (hq : ∀ h2, Qh h2 → h2.2.2.2.2.1 = h.2.2.2.2.1) (c1 : ∀ Po : xPo, (∀ u h2, Qh h2 → HI E u x h2 → Fr w u x h → Po (rs ["java/lang/IllegalStateException"] k v) u) → Ct M_X9_undo E (.ref x :: []) w Po) (hp : ∀ u h2, Qh h2 → HI E u x h2 → FX w u x h h2 → Po (.inl (some (.int (if k = 0 then v else (-1))))) u) : Ct M_L_undo E [.ref x] w Po := by
  refine Ct.ofH (ws2 := xAll) (L := [some (.ref x), none]) (by decide +kernel) rfl (List.forall_mem_cons.mpr ⟨rfl, fun _ h => absurd h List.not_mem_nil⟩) (Nat.le_of_ble_eq_true rfl) rfl ?_
  refine r_aload_n (q := 1) dL_undo_0 rfl rfl rfl ?_
  refine r_callVH (q := 4) (ci := 11) (As := []) dL_undo_1 s_L_undo_122 H.1.1 rfl rfl (Nat.le_of_ble_eq_true rfl) rfl rfl rfl ⟨(Nat.le_of_ble_eq_true rfl), (Nat.le_of_ble_eq_true rfl)⟩ rfl ?_
  refine c1 _ (fun u h2 q1 q3 q4 => ?_)
  have hp9 := hp u h2 q1 q3 ⟨q4, Or.inl (hq h2 q1)⟩
  by_cases k0 : k = 0
  · subst k0
    rw [if_pos rfl] at hp9
    show WF _ E Po _ _ _ [.int v] u _ _
    refine r_iret dL_undo_4 rfl (Nat.le_of_ble_eq_true rfl) (Nat.le_of_ble_eq_true rfl) ?_
    exact hp9
  by_cases k1 : k = 1
  · subst k1
    rw [if_neg (by decide)] at hp9
    show ∃ h9, xGet _ _ "java/lang/IllegalStateException" h9 ∧ ∀ q9 : Nat, WF _ E Po _ h9 _ [.ref q9] u _ _
    refine ⟨5, ⟨[], (0, 4, 5, 95), [], rfl, fun _ h => absurd h List.not_mem_nil, ⟨by decide, by decide⟩, by decide, List.mem_cons_of_mem _ (zw101), by decide, rfl⟩, fun q9 => ?_⟩
    refine r_astore_n (q := 6) dL_undo_5 rfl (Nat.le_of_ble_eq_true rfl) (xone_of rfl) rfl ?_
    refine r_iconst (q := 7) (v := (-1)) dL_undo_6 rfl rfl ?_
    refine r_iret dL_undo_7 rfl (Nat.le_of_ble_eq_true rfl) (Nat.le_of_ble_eq_true rfl) ?_
    exact hp9
  omega
