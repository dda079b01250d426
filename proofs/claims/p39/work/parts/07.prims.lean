/-! ===== 07.prims: calls of the library's members as rows, throws ===== -/
def xone (L : List (Option Value)) (i : Nat) : Bool := match L[i - 1]? with
  | some (some v) => v.category == 1
  | _ => true
theorem xone_of {L : List (Option Value)} {i : Nat} (h : xone L i = true) : xOne L i := by
  intro v h1 hv
  unfold xone at h
  rw [hv] at h
  simpa using h
theorem xset_xset {w : xW} {a : Nat} {e e2 : va_E} : xset (xset w a e) a e2 = xset w a e2 := by
  unfold xset
  refine Prod.ext ?_ rfl
  funext q
  by_cases h : q = a <;> simp [h]
theorem xset_id {w : xW} {a : Nat} {e : va_E} (h : w.1 a = some e) : xset w a e = w := by
  unfold xset
  refine Prod.ext ?_ rfl
  funext q
  by_cases hq : q = a
  · subst hq; simp [h]
  · simp [hq]
theorem xset_comm {w : xW} {a b : Nat} {e e2 : va_E} (h : a ≠ b) : xset (xset w a e) b e2 = xset (xset w b e2) a e := by
  unfold xset
  refine Prod.ext ?_ rfl
  funext q
  by_cases h1 : q = a
  · subst h1; simp [h]
  · by_cases h2 : q = b <;> simp [h1, h2, Ne.symm h]
def xMm (M : xM) (idx : Nat) : Prop := Cond.methodLink (mY M).cls idx Lib.Math.min.name ∈ mW M ∧ Cond.static Lib.Math.min.name ∈ mW M ∧ Cond.initialized "java/lang/Math" ∈ mW M ∧ Cond.code Lib.Math.min.name Lib.Math.min.code 2 (some .int) ∈ mW M ∧ 1 ≤ (mR M).frames ∧ 21 ≤ (mR M).locals ∧ (mR M).cells = mK M ∧ (mR M).slots = mN M
def xMx (M : xM) (idx : Nat) : Prop := Cond.methodLink (mY M).cls idx Lib.Math.max.name ∈ mW M ∧ Cond.static Lib.Math.max.name ∈ mW M ∧ Cond.initialized "java/lang/Math" ∈ mW M ∧ Cond.code Lib.Math.max.name Lib.Math.max.code 2 (some .int) ∈ mW M ∧ 1 ≤ (mR M).frames ∧ 21 ≤ (mR M).locals ∧ (mR M).cells = mK M ∧ (mR M).slots = mN M
section XPRIMS
variable {M M2 : xM} {E : xE} {Po : xPo} {w0 w : xW} {pc q : Nat} {L : List (Option Value)} {st : List Value} {k n : Nat}
theorem r_mmin {idx : Nat} {x y : Int32} (hd : decode (mC M) pc = .ok (.invokestatic idx, 3)) (P : xMm M idx) (hrm : (st.map fun v => v.category).sum ≤ 8) (hq : pc + 3 = q) (hk : k ≤ mK M) (hn : n ≤ mN M)
    (kk : WF M E Po w0 q L (.int (if y < x then y else x) :: st) w k n) : WF M E Po w0 pc L (.int y :: .int x :: st) w k n := by
  subst hq
  intro p l e s m args below meth c H locs ls C hP hs hS hl
  obtain ⟨c1, c2, c3, c4, c5, c6, c7⟩ := id C
  obtain ⟨p1, p2, p3, p4, p5, p6, p7, p8⟩ := P
  exact va_mmin c1 c2 (c4.trans hl.1.symm) c6 (c5 _ p1) (c5 _ p2) (c5 _ p3) (c5 _ p4) p5 (by omega) (by omega) (by omega) hd (kk p l e s m args below meth c H locs ls C hP hs hS hl)
theorem r_mmax {idx : Nat} {x y : Int32} (hd : decode (mC M) pc = .ok (.invokestatic idx, 3)) (P : xMx M idx) (hrm : (st.map fun v => v.category).sum ≤ 8) (hq : pc + 3 = q) (hk : k ≤ mK M) (hn : n ≤ mN M)
    (kk : WF M E Po w0 q L (.int (if x < y then y else x) :: st) w k n) : WF M E Po w0 pc L (.int y :: .int x :: st) w k n := by
  subst hq
  intro p l e s m args below meth c H locs ls C hP hs hS hl
  obtain ⟨c1, c2, c3, c4, c5, c6, c7⟩ := id C
  obtain ⟨p1, p2, p3, p4, p5, p6, p7, p8⟩ := P
  exact va_mmax c1 c2 (c4.trans hl.1.symm) c6 (c5 _ p1) (c5 _ p2) (c5 _ p3) (c5 _ p4) p5 (by omega) (by omega) (by omega) hd (kk p l e s m args below meth c H locs ls C hP hs hS hl)
end XPRIMS
theorem u0 : (Jvm.Cond.methodLink "TubHire$Past" (33 : Nat) ({ cls := "java/lang/Math", name := "min", desc := "(II)I" } : Jvm.MethodName)) ∈ xAll := xin2 (List.mem_of_getElem? (i := 238) (by decide +kernel)) (by decide +kernel)
theorem u1 : (Jvm.Cond.static ({ cls := "java/lang/Math", name := "min", desc := "(II)I" } : Jvm.MethodName)) ∈ xAll := xin2 (List.mem_of_getElem? (i := 239) (by decide +kernel)) (by decide +kernel)
theorem u2 : (Jvm.Cond.initialized "java/lang/Math") ∈ xAll := xin1 (List.mem_of_getElem? (i := 15) (by decide +kernel)) (by decide +kernel)
theorem u3 : (Jvm.Cond.code ({ cls := "java/lang/Math", name := "min", desc := "(II)I" } : Jvm.MethodName) prog_27_method_69_code (2 : Nat) (Option.some Jvm.ClassFile.FieldType.int)) ∈ xAll := xin3 (List.mem_of_getElem? (i := 0) (by decide +kernel)) (by decide +kernel)
theorem p_X3_keep_33 : xMm M_X3_keep 33 := ⟨List.mem_cons_of_mem _ u0, List.mem_cons_of_mem _ u1, List.mem_cons_of_mem _ u2, List.mem_cons_of_mem _ u3, Nat.le_of_ble_eq_true rfl, Nat.le_of_ble_eq_true rfl, rfl, rfl⟩
theorem u4 : (Jvm.Cond.methodLink "TubHire$Store" (160 : Nat) ({ cls := "java/lang/Math", name := "min", desc := "(II)I" } : Jvm.MethodName)) ∈ xAll := xin3 (List.mem_of_getElem? (i := 178) (by decide +kernel)) (by decide +kernel)
theorem p_X5_buyGas_160 : xMm M_X5_buyGas 160 := ⟨List.mem_cons_of_mem _ u4, List.mem_cons_of_mem _ u1, List.mem_cons_of_mem _ u2, List.mem_cons_of_mem _ u3, Nat.le_of_ble_eq_true rfl, Nat.le_of_ble_eq_true rfl, rfl, rfl⟩
theorem p_X5_washTowels_160 : xMm M_X5_washTowels 160 := ⟨List.mem_cons_of_mem _ u4, List.mem_cons_of_mem _ u1, List.mem_cons_of_mem _ u2, List.mem_cons_of_mem _ u3, Nat.le_of_ble_eq_true rfl, Nat.le_of_ble_eq_true rfl, rfl, rfl⟩
theorem p_X5_buySoap_160 : xMm M_X5_buySoap 160 := ⟨List.mem_cons_of_mem _ u4, List.mem_cons_of_mem _ u1, List.mem_cons_of_mem _ u2, List.mem_cons_of_mem _ u3, Nat.le_of_ble_eq_true rfl, Nat.le_of_ble_eq_true rfl, rfl, rfl⟩
theorem u5 : (Jvm.Cond.methodLink "TubHire$Store" (197 : Nat) ({ cls := "java/lang/Math", name := "max", desc := "(II)I" } : Jvm.MethodName)) ∈ xAll := xin4 (List.mem_of_getElem? (i := 16) (by decide +kernel)) (by decide +kernel)
theorem u6 : (Jvm.Cond.static ({ cls := "java/lang/Math", name := "max", desc := "(II)I" } : Jvm.MethodName)) ∈ xAll := xin3 (List.mem_of_getElem? (i := 221) (by decide +kernel)) (by decide +kernel)
theorem u7 : (Jvm.Cond.code ({ cls := "java/lang/Math", name := "max", desc := "(II)I" } : Jvm.MethodName) prog_27_method_65_code (2 : Nat) (Option.some Jvm.ClassFile.FieldType.int)) ∈ xAll := xin3 (List.mem_of_getElem? (i := 222) (by decide +kernel)) (by decide +kernel)
theorem p_X5_letHourGoIn_197 : xMx M_X5_letHourGoIn 197 := ⟨List.mem_cons_of_mem _ u5, List.mem_cons_of_mem _ u6, List.mem_cons_of_mem _ u2, List.mem_cons_of_mem _ u7, Nat.le_of_ble_eq_true rfl, Nat.le_of_ble_eq_true rfl, rfl, rfl⟩
theorem u8 : (Jvm.Cond.methodLink "TubHire$Text" (65 : Nat) ({ cls := "java/lang/Math", name := "max", desc := "(II)I" } : Jvm.MethodName)) ∈ xAll := xin6 (List.mem_of_getElem? (i := 170) (by decide +kernel)) (by decide +kernel)
theorem p_X7_readsWord_65 : xMx M_X7_readsWord 65 := ⟨List.mem_cons_of_mem _ u8, List.mem_cons_of_mem _ u6, List.mem_cons_of_mem _ u2, List.mem_cons_of_mem _ u7, Nat.le_of_ble_eq_true rfl, Nat.le_of_ble_eq_true rfl, rfl, rfl⟩
theorem u9 : (Jvm.Cond.methodLink "TubHire$Tub" (36 : Nat) ({ cls := "java/lang/Math", name := "min", desc := "(II)I" } : Jvm.MethodName)) ∈ xAll := xin4 (List.mem_of_getElem? (i := 15) (by decide +kernel)) (by decide +kernel)
theorem p_X8_heated_36 : xMm M_X8_heated 36 := ⟨List.mem_cons_of_mem _ u9, List.mem_cons_of_mem _ u1, List.mem_cons_of_mem _ u2, List.mem_cons_of_mem _ u3, Nat.le_of_ble_eq_true rfl, Nat.le_of_ble_eq_true rfl, rfl, rfl⟩
theorem u10 : (Jvm.Cond.methodLink "TubHire$Tub" (51 : Nat) ({ cls := "java/lang/Math", name := "max", desc := "(II)I" } : Jvm.MethodName)) ∈ xAll := xin3 (List.mem_of_getElem? (i := 220) (by decide +kernel)) (by decide +kernel)
theorem p_X8_lose_51 : xMx M_X8_lose 51 := ⟨List.mem_cons_of_mem _ u10, List.mem_cons_of_mem _ u6, List.mem_cons_of_mem _ u2, List.mem_cons_of_mem _ u7, Nat.le_of_ble_eq_true rfl, Nat.le_of_ble_eq_true rfl, rfl, rfl⟩
theorem p_X8_fill_51 : xMx M_X8_fill 51 := ⟨List.mem_cons_of_mem _ u10, List.mem_cons_of_mem _ u6, List.mem_cons_of_mem _ u2, List.mem_cons_of_mem _ u7, Nat.le_of_ble_eq_true rfl, Nat.le_of_ble_eq_true rfl, rfl, rfl⟩
