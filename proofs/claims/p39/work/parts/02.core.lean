/-! ===== 02.core: worlds as functions from addresses; one judgement WF a method, a rule an instruction ===== -/
/-- the words that every method is given: what the tables say, where it stays true -/
def xAll : List Cond := lw_tbl.filter goodWord
theorem xin {w : Cond} (h : w ∈ lw_tbl) (g : goodWord w = true) : w ∈ xAll := List.mem_filter.mpr ⟨h, g⟩
theorem xin0 {w : Cond} (h : w ∈ k2_sels lw_privs) (g : goodWord w = true) : w ∈ xAll := xin (List.mem_append_left _ h) g
theorem xinT {w : Cond} (h : w ∈ tables_1) (g : goodWord w = true) : w ∈ xAll := xin (List.mem_append_right _ h) g
theorem xin1 {w : Cond} (h : w ∈ tables_1_1) (g : goodWord w = true) : w ∈ xAll := xinT (List.mem_append_left _ h) g
theorem xin2 {w : Cond} (h : w ∈ tables_1_2) (g : goodWord w = true) : w ∈ xAll := xinT (List.mem_append_right _ (List.mem_append_left _ h)) g
theorem xin3 {w : Cond} (h : w ∈ tables_1_3) (g : goodWord w = true) : w ∈ xAll := xinT (List.mem_append_right _ (List.mem_append_right _ (List.mem_append_left _ h))) g
theorem xin4 {w : Cond} (h : w ∈ tables_1_4) (g : goodWord w = true) : w ∈ xAll := xinT (List.mem_append_right _ (List.mem_append_right _ (List.mem_append_right _ (List.mem_append_left _ h)))) g
theorem xin5 {w : Cond} (h : w ∈ tables_1_5) (g : goodWord w = true) : w ∈ xAll := xinT (List.mem_append_right _ (List.mem_append_right _ (List.mem_append_right _ (List.mem_append_right _ (List.mem_append_left _ h))))) g
theorem xin6 {w : Cond} (h : w ∈ tables_1_6) (g : goodWord w = true) : w ∈ xAll := xinT (List.mem_append_right _ (List.mem_append_right _ (List.mem_append_right _ (List.mem_append_right _ (List.mem_append_right _ (List.mem_append_left _ h)))))) g
theorem xin7 {w : Cond} (h : w ∈ tables_1_7) (g : goodWord w = true) : w ∈ xAll := xinT (List.mem_append_right _ (List.mem_append_right _ (List.mem_append_right _ (List.mem_append_right _ (List.mem_append_right _ (List.mem_append_right _ h)))))) g
theorem xgood {w : Cond} (h : w ∈ xAll) : goodWord w = true := (List.mem_filter.mp h).2
theorem xGood {a b : Cond} (h : b ∈ xAll) : GoodIn (a :: xAll) (b :: xAll) := fun w hw => (List.mem_cons.mp hw).elim (fun e => by subst e; exact ⟨List.mem_cons_of_mem _ h, good_of_word (xgood h)⟩) (fun hm => ⟨List.mem_cons_of_mem _ hm, good_of_word (xgood hm)⟩)
theorem xGoodL {a : Cond} {l : List Cond} (h : ∀ w ∈ l, w ∈ xAll) : GoodIn (a :: xAll) l := fun w hw => ⟨List.mem_cons_of_mem _ (h w hw), good_of_word (xgood (h w hw))⟩
theorem xGV {own C : String} {idx : Nat} {y : MethodName} {a b : Cond} (h1 : Cond.methodLink own idx y ∈ xAll) (h2 : Cond.instanceMethod y ∈ xAll) (h3 : Cond.selects C y y ∈ xAll) (h4 : Cond.initialized C ∈ xAll) (h5 : b ∈ xAll) : GoodIn (a :: xAll) (wsV own idx C y (b :: xAll)) :=
  goodIn_app (xGoodL (fun w hw => by
    simp only [List.mem_cons, List.not_mem_nil, or_false] at hw
    rcases hw with rfl | rfl | rfl | rfl <;> assumption)) (xGood h5)
theorem xGS {own : String} {idx : Nat} {y : MethodName} {a b : Cond} (h1 : Cond.methodLink own idx y ∈ xAll) (h2 : Cond.static y ∈ xAll) (h4 : Cond.initialized y.cls ∈ xAll) (h5 : b ∈ xAll) : GoodIn (a :: xAll) (va_wsS own idx y (b :: xAll)) :=
  goodIn_app (xGoodL (fun w hw => by
    simp only [List.mem_cons, List.not_mem_nil, or_false] at hw
    rcases hw with rfl | rfl | rfl <;> assumption)) (xGood h5)
/-- the String constants of our classes: class, place, text; their lengths and signs -/
def xStr : List (String × Nat × String) := [("TubHire", 230, "no such number"), ("TubHire", 320, "out of range"), ("TubHire", 322, "refused"), ("TubHire", 68, "no such tub"), ("TubHire", 75, "a tub has no such number"), ("TubHire", 87, "no such tub or seam"), ("TubHire", 94, "no torn seam from there on"), ("TubHire", 108, "no tub in the store holds its water"), ("TubHire", 123, "no such tent"), ("TubHire", 125, "a tent has no such number"), ("TubHire", 133, "nobody waits at this place"), ("TubHire", 145, "no such heater"), ("TubHire", 327, "no such size or warmth"), ("TubHire", 189, "no such guest bathes soon"), ("TubHire", 329, " no tub"), ("TubHire", 334, " dirty"), ("TubHire", 211, " h"), ("TubHire", 219, " +"), ("TubHire", 224, "no such character"), ("TubHire", 261, "no tub has water"), ("TubHire", 264, "nobody came"), ("TubHire", 272, "the input is full"), ("TubHire", 278, "the input is no text"), ("TubHire", 288, "a command is refused"), ("TubHireLaw", 217, " no tub"), ("TubHire", 305, "nothing was refused"), ("TubHire", 310, "nothing can be undone"), ("TubHireLaw", 226, " dirty"), ("TubHireLaw", 222, " "), ("TubHireLaw", 224, "c"), ("TubHireLaw", 228, ""), ("TubHireLaw", 234, " h"), ("TubHireLaw", 236, " +"), ("TubHireLaw", 274, "hours "), ("TubHireLaw", 276, ";join "), ("TubHireLaw", 278, ";back "), ("TubHireLaw", 280, ";soap 2;cold "), ("TubHireLaw", 222, " "), ("TubHireLaw", 222, " "), ("TubHireLaw", 222, " "), ("TubHireLaw", 222, " "), ("TubHireLaw", 222, " "), ("TubHireLaw", 222, " "), ("TubHireLaw", 222, " "), ("TubHireLaw", 222, " "), ("TubHire$Command", 59, "out "), ("TubHire$Command", 65, "back "), ("TubHire$Command", 68, "heat "), ("TubHire$Command", 71, "cold "), ("TubHire$Command", 74, "join "), ("TubHire$Command", 77, "mend "), ("TubHire$Command", 80, "wash "), ("TubHire$Command", 83, "soap "), ("TubHire$Command", 86, "hours ")]
def xLen : List Nat := [14, 12, 7, 11, 24, 19, 26, 35, 12, 25, 26, 14, 22, 25, 7, 6, 2, 2, 17, 16, 11, 17, 20, 20, 7, 19, 21, 6, 1, 1, 0, 2, 2, 6, 6, 6, 13, 1, 1, 1, 1, 1, 1, 1, 1, 4, 5, 5, 5, 5, 5, 5, 5, 6]
def xByt : List (List Int32) := [[110, 111, 32, 115, 117, 99, 104, 32, 110, 117, 109, 98, 101, 114], [111, 117, 116, 32, 111, 102, 32, 114, 97, 110, 103, 101], [114, 101, 102, 117, 115, 101, 100], [110, 111, 32, 115, 117, 99, 104, 32, 116, 117, 98], [97, 32, 116, 117, 98, 32, 104, 97, 115, 32, 110, 111, 32, 115, 117, 99, 104, 32, 110, 117, 109, 98, 101, 114], [110, 111, 32, 115, 117, 99, 104, 32, 116, 117, 98, 32, 111, 114, 32, 115, 101, 97, 109], [110, 111, 32, 116, 111, 114, 110, 32, 115, 101, 97, 109, 32, 102, 114, 111, 109, 32, 116, 104, 101, 114, 101, 32, 111, 110], [110, 111, 32, 116, 117, 98, 32, 105, 110, 32, 116, 104, 101, 32, 115, 116, 111, 114, 101, 32, 104, 111, 108, 100, 115, 32, 105, 116, 115, 32, 119, 97, 116, 101, 114], [110, 111, 32, 115, 117, 99, 104, 32, 116, 101, 110, 116], [97, 32, 116, 101, 110, 116, 32, 104, 97, 115, 32, 110, 111, 32, 115, 117, 99, 104, 32, 110, 117, 109, 98, 101, 114], [110, 111, 98, 111, 100, 121, 32, 119, 97, 105, 116, 115, 32, 97, 116, 32, 116, 104, 105, 115, 32, 112, 108, 97, 99, 101], [110, 111, 32, 115, 117, 99, 104, 32, 104, 101, 97, 116, 101, 114], [110, 111, 32, 115, 117, 99, 104, 32, 115, 105, 122, 101, 32, 111, 114, 32, 119, 97, 114, 109, 116, 104], [110, 111, 32, 115, 117, 99, 104, 32, 103, 117, 101, 115, 116, 32, 98, 97, 116, 104, 101, 115, 32, 115, 111, 111, 110], [32, 110, 111, 32, 116, 117, 98], [32, 100, 105, 114, 116, 121], [32, 104], [32, 43], [110, 111, 32, 115, 117, 99, 104, 32, 99, 104, 97, 114, 97, 99, 116, 101, 114], [110, 111, 32, 116, 117, 98, 32, 104, 97, 115, 32, 119, 97, 116, 101, 114], [110, 111, 98, 111, 100, 121, 32, 99, 97, 109, 101], [116, 104, 101, 32, 105, 110, 112, 117, 116, 32, 105, 115, 32, 102, 117, 108, 108], [116, 104, 101, 32, 105, 110, 112, 117, 116, 32, 105, 115, 32, 110, 111, 32, 116, 101, 120, 116], [97, 32, 99, 111, 109, 109, 97, 110, 100, 32, 105, 115, 32, 114, 101, 102, 117, 115, 101, 100], [32, 110, 111, 32, 116, 117, 98], [110, 111, 116, 104, 105, 110, 103, 32, 119, 97, 115, 32, 114, 101, 102, 117, 115, 101, 100], [110, 111, 116, 104, 105, 110, 103, 32, 99, 97, 110, 32, 98, 101, 32, 117, 110, 100, 111, 110, 101], [32, 100, 105, 114, 116, 121], [32], [99], [], [32, 104], [32, 43], [104, 111, 117, 114, 115, 32], [59, 106, 111, 105, 110, 32], [59, 98, 97, 99, 107, 32], [59, 115, 111, 97, 112, 32, 50, 59, 99, 111, 108, 100, 32], [32], [32], [32], [32], [32], [32], [32], [32], [111, 117, 116, 32], [98, 97, 99, 107, 32], [104, 101, 97, 116, 32], [99, 111, 108, 100, 32], [106, 111, 105, 110, 32], [109, 101, 110, 100, 32], [119, 97, 115, 104, 32], [115, 111, 97, 112, 32], [104, 111, 117, 114, 115, 32]]
/-- the constants of Command, and their int fields -/
def xCmd : List String := ["OUT", "BACK", "HEAT", "COLD", "JOIN", "MEND", "WASH", "SOAP", "HOURS"]
def xCmF : List (String × String × String × List Int32) := [("java/lang/Enum", "ordinal", "I", [0, 1, 2, 3, 4, 5, 6, 7, 8]), ("TubHire$Command", "digits", "I", [2, 1, 2, 1, 1, 2, 0, 0, 0])]
/-- where the word of a command stands among the texts -/
def xWrd : List Nat := [45, 46, 47, 48, 49, 50, 51, 52, 53]
/-- $SwitchMap: which case a command is -/
def xSwt : List Int32 := [1, 2, 3, 4, 5, 6, 7, 8, 0]
abbrev xW : Type := (Nat → Option va_E) × Nat
abbrev xE : Type := (va_G × (Nat → ClassId)) × ((Nat → Nat) × (Nat → Nat) × (Nat → Nat)) × (Nat × Nat × (Nat → Int32))
abbrev xM : Type := MethodName × ByteArray × Nat × Option FieldType × List Cond × Room × (Nat × Nat) × List (Nat × Nat × Nat × Nat)
abbrev xPo : Type := (Option Value ⊕ String) → xW → Prop
abbrev mY (M : xM) : MethodName := M.1
abbrev mC (M : xM) : ByteArray := M.2.1
abbrev mL (M : xM) : Nat := M.2.2.1
abbrev mT (M : xM) : Option FieldType := M.2.2.2.1
abbrev mW (M : xM) : List Cond := M.2.2.2.2.1
abbrev mR (M : xM) : Room := M.2.2.2.2.2.1
abbrev mK (M : xM) : Nat := M.2.2.2.2.2.2.1.1
abbrev mN (M : xM) : Nat := M.2.2.2.2.2.2.1.2
abbrev mH (M : xM) : List (Nat × Nat × Nat × Nat) := M.2.2.2.2.2.2.2
/-- the kinds of arrays, by their numbers -/
abbrev xTys (E : xE) : List (ClassId × FieldType) := [(E.1.2 0, .int), (E.1.2 1, .char), (E.1.2 2, .object "TubHire$Tub"), (E.1.2 3, .object "TubHire$Tent"), (E.1.2 4, .object "TubHire$Heater"), (E.1.2 5, .object "TubHire$Store"), (E.1.2 6, .int), (E.1.2 7, .byte), (E.1.2 8, .long)]
def xP (E : xE) (w : xW) (H : Heap) : Prop := (∀ (a : Nat) (e : va_E), w.1 a = some e → va_at E.1.1 vwCl (a, e) H) ∧ H.size = w.2
def xA (w : xW) : Nat → Prop := fun q => w.1 q ≠ none ∨ w.2 ≤ q
def xSub (u : xW) (A : Nat → Prop) : Prop := ∀ a, u.1 a ≠ none → A a
/-- links of nest mates, arrays over classes, what an exception is and is not: told by the tables alone -/
def xNM : List (String × Nat × MethodName × String) := [("TubHire$Store", 9, ⟨"TubHire$Refusal", "<init>", "()V"⟩, "TubHire"), ("TubHire$Store", 65, ⟨"TubHire$Tub", "<init>", "()V"⟩, "TubHire"), ("TubHire$Store", 66, ⟨"TubHire$Tent", "<init>", "()V"⟩, "TubHire"), ("TubHire$Store", 67, ⟨"TubHire$Heater", "<init>", "()V"⟩, "TubHire"), ("TubHire", 31, ⟨"TubHire$Text", "<init>", "()V"⟩, "TubHire")]
def xAO : List String := ["TubHire$Tub", "TubHire$Tent", "TubHire$Heater", "TubHire$Store"]
def xCa : List String := ["java/lang/IndexOutOfBoundsException", "java/lang/IllegalArgumentException", "java/lang/UnsupportedOperationException", "java/lang/IllegalStateException", "java/lang/ArithmeticException", "java/util/NoSuchElementException"]
def xNo : List (String × String) := [("java/lang/IndexOutOfBoundsException", "java/lang/IllegalArgumentException"), ("java/lang/UnsupportedOperationException", "java/lang/IllegalArgumentException"), ("java/util/NoSuchElementException", "java/lang/IllegalArgumentException"), ("java/lang/ArithmeticException", "java/lang/IllegalArgumentException"), ("java/lang/IllegalStateException", "java/lang/IllegalArgumentException"), ("java/lang/IndexOutOfBoundsException", "java/lang/UnsupportedOperationException"), ("java/lang/IllegalArgumentException", "java/lang/UnsupportedOperationException"), ("java/util/NoSuchElementException", "java/lang/UnsupportedOperationException"), ("java/lang/ArithmeticException", "java/lang/UnsupportedOperationException"), ("java/lang/IllegalStateException", "java/lang/UnsupportedOperationException"), ("java/lang/IllegalArgumentException", "java/lang/IndexOutOfBoundsException"), ("java/lang/UnsupportedOperationException", "java/lang/IndexOutOfBoundsException"), ("java/util/NoSuchElementException", "java/lang/IndexOutOfBoundsException"), ("java/lang/ArithmeticException", "java/lang/IndexOutOfBoundsException"), ("java/lang/IllegalStateException", "java/lang/IndexOutOfBoundsException"), ("java/lang/IndexOutOfBoundsException", "java/util/NoSuchElementException"), ("java/lang/IllegalArgumentException", "java/util/NoSuchElementException"), ("java/lang/UnsupportedOperationException", "java/util/NoSuchElementException"), ("java/lang/ArithmeticException", "java/util/NoSuchElementException"), ("java/lang/IllegalStateException", "java/util/NoSuchElementException"), ("java/lang/IndexOutOfBoundsException", "java/lang/IllegalStateException"), ("java/lang/IllegalArgumentException", "java/lang/IllegalStateException"), ("java/lang/UnsupportedOperationException", "java/lang/IllegalStateException"), ("java/util/NoSuchElementException", "java/lang/IllegalStateException"), ("java/lang/ArithmeticException", "java/lang/IllegalStateException")]
def xDe : List String := ["java/lang/RuntimeException", "java/lang/Exception", "java/lang/Throwable"]
def xU (U : State) : Prop :=
  (∀ q ∈ xNM, va_Nw (.methodLinkNest q.1 q.2.1 q.2.2.1 q.2.2.2) U) ∧ va_Nw (.fieldLinkNest "TubHire$Text" 53 "TubHire$Command" "ALL" "[LTubHire$Command;" "TubHire") U ∧ (∀ q ∈ xAO, va_AO q U) ∧ (∀ q ∈ xCa, va_Nw (.castable q q) U) ∧ (∀ q ∈ xNo, va_Nc q.1 q.2 U) ∧ (∀ q ∈ xDe, va_Nw (.declares (Bundle.initS q)) U)
theorem xU.at {u U : State} (hvm : u.WarmedH U.vm) (h : xU u) : xU U :=
  ⟨fun q hq => (h.1 q hq).warmM hvm, h.2.1.warmF hvm, fun q hq => (h.2.2.1 q hq).moved hvm.alike, fun q hq => (h.2.2.2.1 q hq).warmC hvm, fun q hq => (h.2.2.2.2.1 q hq).moved hvm.alike, fun q hq => (h.2.2.2.2.2 q hq).warmD hvm⟩
/-- the JDK's statics that are read -/
def xJ (ad : Nat → Nat) (A : Nat → Prop) (U : State) (H : Heap) : Prop :=
  va_Z "java/lang/String" "COMPACT_STRINGS" "Z" (.int 1) A U H ∧ (va_Z "java/lang/Integer" "DigitTens" "[B" (.ref (ad 102)) A U H ∧ va_T .byte (ad 102) 100 (fun k => .int (nI (48 + k / 10))) A U H) ∧ (va_Z "java/lang/Integer" "DigitOnes" "[B" (.ref (ad 103)) A U H ∧ va_T .byte (ad 103) 100 (fun k => .int (nI (48 + k % 10))) A U H) ∧ va_Zq "jdk/internal/util/Preconditions" "SIOOBE_FORMATTER" "Ljava/util/function/BiFunction;" A U H
theorem xJ.at {ad : Nat → Nat} {A B : Nat → Prop} {u U : State} {H H1 : Heap} (hvm : u.vm.Alike U.vm) (h : xJ ad A u H) (hq : ∀ a : Nat, a < H.size → ¬ A a → H1[a]? = H[a]?) (hAB : ∀ q, B q → A q) : xJ ad B U H1 :=
  ⟨((va_Z.moved hvm h.1).kept hq).narrow hAB, ⟨((va_Z.moved hvm h.2.1.1).kept hq).narrow hAB, ((va_T.moved hvm h.2.1.2).kept hq).narrow hAB⟩, ⟨((va_Z.moved hvm h.2.2.1.1).kept hq).narrow hAB, ((va_T.moved hvm h.2.2.1.2).kept hq).narrow hAB⟩, ((va_Zq.moved hvm h.2.2.2).kept hq).narrow hAB⟩
/-- the String constants: their objects, their signs (some are one object) -/
abbrev xkS (adK adV : Nat → Nat) (A : Nat → Prop) (U : State) (H : Heap) : Prop := ∀ i : Nat, i < xStr.length → va_O "java/lang/String" (adK i) A U H ∧ va_OF "java/lang/String" "coder" "B" (.int 0) (adK i) A U H ∧ va_OF "java/lang/String" "value" "[B" (.ref (adV i)) (adK i) A U H ∧ va_T .byte (adV i) (xLen.getD i 0) (fun j => .int ((xByt.getD i []).getD j 0)) A U H
/-- what is given of the constants, and of the script: none of them is ever written -/
def xC (E : xE) (A : Nat → Prop) (U : State) (H : Heap) : Prop :=
  (vx_Zq Bundle.tN "UNASSIGNED_STACK" Bundle.steD A U H ∧ vx_Zq Bundle.tN "SUPPRESSED_SENTINEL" Bundle.listD A U H) ∧
  (∀ (i : Nat) (q : String × Nat × String), xStr[i]? = some q → vk_R q.1 q.2.1 q.2.2 (E.2.1.1 i) U) ∧
  (xkS E.2.1.1 E.2.1.2.1 A U H ∧ True) ∧
  (va_En "TubHire$Command" "LTubHire$Command;" xCmd xCmF E.2.1.2.2 A U H ∧ ∀ i, i < 9 → va_OF "TubHire$Command" "word" "Ljava/lang/String;" (.ref (E.2.1.1 (xWrd.getD i 0))) (E.2.1.2.2 i) A U H) ∧
  (va_Z "TubHire$Command" "ALL" "[LTubHire$Command;" (.ref (E.2.1.2.2 100)) A U H ∧ va_T (.object "TubHire$Command") (E.2.1.2.2 100) 9 (fun k => .ref (E.2.1.2.2 k)) A U H) ∧
  (va_Z "TubHire$1" "$SwitchMap$TubHire$Command" "[I" (.ref (E.2.1.2.2 101)) A U H ∧ va_T .int (E.2.1.2.2 101) 9 (fun k => .int (xSwt.getD k 0)) A U H) ∧
  (va_X E.2.2.1 E.2.2.2.1 E.2.2.2.2 U H ∧ ¬ A E.2.2.1) ∧ xU U ∧ xJ E.2.1.2.2 A U H
theorem xC.at {E : xE} {A B : Nat → Prop} {u U : State} {H H1 : Heap} (hvm : u.WarmedH U.vm) (h : xC E A u H) (hq : ∀ a : Nat, a < H.size → ¬ A a → H1[a]? = H[a]?) (hAB : ∀ q, B q → A q) : xC E B U H1 := by
  obtain ⟨⟨a1, a2⟩, a3, a4, ⟨a5, a6⟩, ⟨a7, a8⟩, ⟨a9, a10⟩, ⟨a11, a12⟩, a13, a14⟩ := h
  refine ⟨⟨((vx_Zq.moved hvm.alike a1).kept hq).narrow hAB, ((vx_Zq.moved hvm.alike a2).kept hq).narrow hAB⟩, fun i q hi => (a3 i q hi).warm hvm, ⟨fun i hi => ⟨((va_O.moved hvm.alike (a4.1 i hi).1).kept hq).narrow hAB, ((va_OF.moved hvm.alike (a4.1 i hi).2.1).kept hq).narrow hAB, ((va_OF.moved hvm.alike (a4.1 i hi).2.2.1).kept hq).narrow hAB, ((va_T.moved hvm.alike (a4.1 i hi).2.2.2).kept hq).narrow hAB⟩, trivial⟩,
    ⟨((va_En.moved hvm.alike a5).kept hq).narrow hAB, fun i hi => ((va_OF.moved hvm.alike (a6 i hi)).kept hq).narrow hAB⟩,
    ⟨((va_Z.moved hvm.alike a7).kept hq).narrow hAB, ((va_T.moved hvm.alike a8).kept hq).narrow hAB⟩,
    ⟨((va_Z.moved hvm.alike a9).kept hq).narrow hAB, ((va_T.moved hvm.alike a10).kept hq).narrow hAB⟩,
    ⟨(va_X.moved hvm.alike a11).kept (hq _ ?_ a12), fun hb => a12 (hAB _ hb)⟩, a13.at hvm, a14.at hvm.alike hq hAB⟩
  obtain ⟨scr, h1, -⟩ := a11
  exact (Array.getElem?_eq_some_iff.mp h1).1
def xEnv (E : xE) (A : Nat → Prop) (U : State) : Prop := va_K E.1.1 vwCl (xTys E) U ∧ xC E A U U.heap
/-- a method's end: it returns, or throws a class -/
def xQ (E : xE) (Po : xPo) (A : Nat → Prop) : Array Value → State → Outcome → State → Prop := fun _ st oc t =>
  (∃ (v : Option Value) (u : xW), oc = .returned v ∧ Po (.inl v) u ∧ xP E u t.heap ∧ xSub u A) ∧ va_F A st t
def xX (E : xE) (Po : xPo) (A : Nat → Prop) : String → State → State → Prop := fun X st t =>
  (∃ u : xW, Po (.inr X) u ∧ xP E u t.heap ∧ xSub u A) ∧ va_F A st t
def xPc (E : xE) (as : List Value) (w : xW) : Array Value → State → Prop := va_Pc as (fun U => xP E w U.heap ∧ xEnv E (xA w) U)
/-- THE CONTRACT of a method at these arguments, in this world -/
def Ct (M : xM) (E : xE) (as : List Value) (w : xW) (Po : xPo) : Prop :=
  ∀ l : Launch, l.stackTraces = false → vx_Met l (mY M) (mW M) (mR M) (xPc E as w) (xQ E Po (xA w)) (xX E Po (xA w)) (mK M) (mN M) (xA w)
/-- the locals that are known -/
def xL (ls : Array Slot) (nL : Nat) (L : List (Option Value)) : Prop := ls.size = nL ∧ lv_wf ls ∧ ∀ (i : Nat) (v : Value), L[i]? = some (some v) → ls[i]? = some (.val v)
def xCtx (M : xM) (E : xE) (w0 : xW) (p : Program) (l : Launch) (s : State) (m : MethodId) (args : Array Value) (meth : Method) (c : Code) : Prop :=
  p.tables.exec = Jvm.exec ∧ c.code = mC M ∧ meth.sig.returnType = mT M ∧ c.maxLocals = mL M ∧ (∀ w ∈ mW M, w.before args s = true) ∧ s.vm.findClass (mY M).cls = some m.cls ∧ meth.locks = false ∧ l.stackTraces = false ∧ c.exceptionTable.toList = tableOf (mH M) ∧ meth.name = (mY M).name ∧ xEnv E (xA w0) s ∧ s.heap.size = w0.2
/-- THE JUDGEMENT: method M, begun in world w0, at pc with these locals and stack in world w, having made k cells of n slots, comes to an end that Po allows -/
def WF (M : xM) (E : xE) (Po : xPo) (w0 : xW) (pc : Nat) (L : List (Option Value)) (st : List Value) (w : xW) (k n : Nat) : Prop :=
  ∀ (p : Program) (l : Launch) (e : Env) (s : State) (m : MethodId) (args : Array Value) (below : List Frame) (meth : Method) (c : Code) (H : Heap) (locs : List Loc) (ls : Array Slot),
    xCtx M E w0 p l s m args meth c → xP E w H → xSub w (xA w0) → va_S (xA w0) s.heap H locs → xL ls (mL M) L →
    W p l e (mR M) s m args below meth c H locs k n (vx_MQ below (xQ E Po (xA w0)) (xX E Po (xA w0)) args s (mK M) (mN M) (xA w0)) (F0 m pc ls st)
def xset (w : xW) (a : Nat) (e : va_E) : xW := (fun q => if q = a then some e else w.1 q, w.2)
theorem xset_s {w : xW} {a : Nat} {e : va_E} : (xset w a e).1 a = some e := if_pos rfl
theorem xset_o {w : xW} {a q : Nat} {e : va_E} (h : q ≠ a) : (xset w a e).1 q = w.1 q := if_neg h
theorem xset_n {w : xW} {a : Nat} {e : va_E} : (xset w a e).2 = w.2 := rfl
theorem xP.put {E : xE} {w : xW} {H H1 : Heap} {a : Nat} {e : va_E} (h : xP E w H) (he : va_at E.1.1 vwCl (a, e) H1) (oq : ∀ q : Nat, q ≠ a → H1[q]? = H[q]?) (hz : H1.size = H.size) : xP E (xset w a e) H1 := by
  refine ⟨fun q x hq => ?_, hz.trans h.2⟩
  by_cases hqa : q = a
  · subst hqa
    rw [xset_s] at hq
    cases hq
    exact he
  · rw [xset_o hqa] at hq
    exact (h.1 q x hq).kept (oq q hqa)
theorem xSub.put {w : xW} {A : Nat → Prop} {a : Nat} {e : va_E} (h : xSub w A) (ha : A a) : xSub (xset w a e) A := by
  intro q hq
  by_cases hqa : q = a
  · subst hqa; exact ha
  · rw [xset_o hqa] at hq; exact h q hq
theorem xL.get {ls : Array Slot} {nL : Nat} {L : List (Option Value)} (h : xL ls nL L) {i : Nat} {v : Value} (hi : L[i]? = some (some v)) : ls[i]? = some (.val v) := h.2.2 i v hi
theorem xL.has {ls : Array Slot} {nL : Nat} {L : List (Option Value)} (h : xL ls nL L) : lv_has ls nL (L.zipIdx.filterMap (fun q => q.1.map (fun v => (q.2, v)))) := by
  refine ⟨h.1, h.2.1, fun q hq => ?_⟩
  obtain ⟨⟨o, j⟩, hm, he⟩ := List.mem_filterMap.mp hq
  cases o with
  | none => simp at he
  | some v =>
    simp at he
    subst he
    have h1 := List.mem_zipIdx hm
    obtain ⟨h2, h3, h4⟩ := h1
    refine h.2.2 j v ?_
    have h5 : j < L.length := by omega
    rw [List.getElem?_eq_getElem h5]
    simp at h4
    rw [← h4]
theorem xL.mem {L : List (Option Value)} {i : Nat} {v : Value} (hi : L[i]? = some (some v)) : (i, v) ∈ L.zipIdx.filterMap (fun q => q.1.map (fun v => (q.2, v))) := by
  refine List.mem_filterMap.mpr ⟨(some v, i), ?_, rfl⟩
  exact List.mem_zipIdx_iff_getElem?.mpr hi
/-- what may stand below a stored place: nothing of two words -/
def xOne (L : List (Option Value)) (i : Nat) : Prop := ∀ v : Value, 1 ≤ i → L[i - 1]? = some (some v) → v.category = 1
theorem xL.of {ls : Array Slot} {nL : Nat} {L : List (Option Value)} {i : Nat} {v : Value} (h1 : xOne L i)
    (h : lv_has ls nL ((i, v) :: (L.zipIdx.filterMap (fun q => q.1.map (fun v => (q.2, v)))).filter (fun q => !(q.1 == i) && !(q.1 + 1 == i && q.2.category == 2)))) : xL ls nL (L.set i (some v)) := by
  refine ⟨h.1, h.2.1, fun j u hj => ?_⟩
  by_cases hij : j = i
  · subst hij
    have hl : j < L.length := by
      have := (List.getElem?_eq_some_iff.mp hj).1
      simpa using this
    rw [List.getElem?_set_self hl] at hj
    have e9 : v = u := Option.some.inj (Option.some.inj hj)
    subst e9
    exact h.2.2 (_, _) List.mem_cons_self
  · rw [List.getElem?_set_ne (Ne.symm hij)] at hj
    refine h.2.2 (j, u) (List.mem_cons_of_mem _ (List.mem_filter.mpr ⟨xL.mem hj, ?_⟩))
    have hc : ¬ (j + 1 = i ∧ u.category = 2) := by
      rintro ⟨e1, e2⟩
      have h3 := h1 u (by omega) (by rw [show i - 1 = j by omega]; exact hj)
      omega
    simp only [Bool.and_eq_true, Bool.not_eq_true', beq_eq_false_iff_ne, ne_eq, Bool.and_eq_false_iff]
    refine ⟨hij, ?_⟩
    by_cases e1 : j + 1 = i
    · right
      exact fun e2 => hc ⟨e1, e2⟩
    · left; exact e1
theorem xL.weak {ls : Array Slot} {nL : Nat} {L L' : List (Option Value)} (h : xL ls nL L) (hL : ∀ (i : Nat) (v : Value), L'[i]? = some (some v) → L[i]? = some (some v)) : xL ls nL L' := ⟨h.1, h.2.1, fun i v hi => h.2.2 i v (hL i v hi)⟩
