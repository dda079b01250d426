/-! ===== 35.pre: arraycopy's words, digits, texts (out of the whole's 35 and 41; printed by wip/p39/gen/make35p.py) ===== -/
def xAc (M : xM) (idx : Nat) : Prop := Cond.methodLink (mY M).cls idx arraycopyName ∈ mW M ∧ Cond.native arraycopyName ∈ mW M ∧ Cond.static arraycopyName ∈ mW M ∧ Cond.initialized "java/lang/System" ∈ mW M ∧ 1 ≤ (mR M).frames ∧ nativeFrameWords "java/lang/System" "arraycopy" 5 + 19 ≤ (mR M).locals
theorem v171 : (Jvm.Cond.native ({ cls := "java/lang/System", name := "arraycopy", desc := "(Ljava/lang/Object;ILjava/lang/Object;II)V" } : Jvm.MethodName)) ∈ xAll := xin4 (List.mem_of_getElem? (i := 187) (by decide +kernel)) (by decide +kernel)
theorem v172 : (Jvm.Cond.static ({ cls := "java/lang/System", name := "arraycopy", desc := "(Ljava/lang/Object;ILjava/lang/Object;II)V" } : Jvm.MethodName)) ∈ xAll := xin4 (List.mem_of_getElem? (i := 186) (by decide +kernel)) (by decide +kernel)
theorem v173 : (Jvm.Cond.initialized "java/lang/System") ∈ xAll := xin1 (List.mem_of_getElem? (i := 29) (by decide +kernel)) (by decide +kernel)
theorem nI_int {z : Int32} {a : Nat} (h : z = nI a) (ha : a < 2147483648) : ¬ z < 0 ∧ z.toNatClampNeg = a ∧ z.toInt = (a : Int) := by
  subst h
  exact ⟨nI_pos ha, nI_cl ha, nI_toInt ha⟩
def digs (a : Nat) : List Int32 := if a ≤ 9 then [nI (48 + a % 10)] else if a ≤ 99 then [nI (48 + a / 10 % 10), nI (48 + a % 10)] else [nI (48 + a / 100 % 10), nI (48 + a / 10 % 10), nI (48 + a % 10)]
theorem digs_s {a : Nat} (h : 9 < a) (h2 : a < 1000) : digs a = digs (a / 10) ++ [nI (48 + a % 10)] := by
  unfold digs
  rw [if_neg (by omega)]
  by_cases h3 : a ≤ 99
  · rw [if_pos h3, if_pos (by omega)]; rfl
  · rw [if_neg h3, if_neg (by omega), if_pos (by omega), show a / 10 / 10 % 10 = a / 100 % 10 by omega]; rfl
theorem digs_len {a : Nat} : (digs a).length ≤ 3 := by
  unfold digs
  split
  · simp
  · split <;> simp
abbrev byts (i : Nat) : List Int32 := xByt.getD i []
theorem byt_len {i : Nat} (h : i < 54) : xLen.getD i 0 = (byts i).length := (k_len i h).1
theorem digs_pos {a : Nat} : 1 ≤ (digs a).length := by
  unfold digs
  split
  · simp
  · split <;> simp
