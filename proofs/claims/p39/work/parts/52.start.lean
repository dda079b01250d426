/-! ===== 72.start: what the Statement gives of the start (rows laid by wip/p39/gen/make72.py) ===== -/
def NR : List Cond := (flatC narrow_1_1 ++ flatC narrow_1_2) ++ (flatC narrow_1_3 ++ flatC narrow_1_4)
theorem nr_all {args : Array Value} {s : State} (h : (Jvm.Cond.and given_1 narrow_1).before args s = true) : ∀ w ∈ NR, w.before args s = true := by
  intro w hw
  refine flat_of_before _ h w ?_
  have e : flatC (Jvm.Cond.and given_1 narrow_1) = flatC given_1 ++ ((flatC narrow_1_1 ++ flatC narrow_1_2) ++ (flatC narrow_1_3 ++ flatC narrow_1_4)) := rfl
  rw [e]
  exact List.mem_append_right _ hw
section START
variable {args : Array Value} {s : State}
theorem nr_at (N : ∀ w ∈ NR, w.before args s = true) {i : Nat} {c : Cond} (h : NR[i]? = some c) : c.before args s = true := N _ (List.mem_of_getElem? h)
theorem tb_at (T : ∀ w ∈ tables_1, w.before args s = true) {i : Nat} {c : Cond} (h : tables_1[i]? = some c) : c.before args s = true := T _ (List.mem_of_getElem? h)
def stT (i : Nat) : Term := match xStr[i]? with
  | some q => .string q.1 q.2.1
  | none => .string "" 0
def stR (i : Nat) : Cond := match xStr[i]? with
  | some q => .stringRef q.1 q.2.1 q.2.2
  | none => .tt
def sIx : List Nat := [477, 495, 511, 545, 560, 924, 947, 1003, 588, 604, 686, 633, 977, 1042, 866, 878, 889, 896, 903, 651, 671, 1143, 1164, 1188, 716, 522, 1071, 737, 727, 732, 747, 758, 764, 1096, 1106, 1116, 1126, 727, 727, 727, 727, 727, 727, 727, 727, 1212, 1220, 1229, 1238, 1247, 1256, 1265, 1274, 1283]
def rIx : List Nat := [416, 451, 467, 792, 793, 1196, 1198, 1234, 806, 807, 864, 820, 1210, 1259, 1162, 1164, 1165, 1166, 1173, 834, 845, 1338, 1379, 1400, 992, 754, 1277, 1033, 1031, 1032, 1034, 1098, 1099, 1304, 1305, 1306, 1307, 1031, 1031, 1031, 1031, 1031, 1031, 1031, 1031, 1440, 1449, 1450, 1451, 1452, 1453, 1454, 1455, 1456]
def cIx : List Nat := [2, 245, 250, 256, 263, 271, 280, 290, 301]
def lIx : List Nat := [235, 1441, 1442, 1443, 1444, 1445, 1446, 1447, 1448]
def nIx : List Nat := [323, 324, 326, 327, 330, 341, 342, 344, 345, 348, 359, 360, 361, 362, 364, 375, 376, 377, 379, 382, 393, 394, 395, 397, 398]
def kIx : List Nat := [372, 444, 460, 1270, 827, 747]
def eIx : List Nat := [374, 376, 378]
def oIx : List Nat := [68, 70, 72, 215]
def mIx : List Nat := [54, 74, 111, 144, 230]
def iIx : List Nat := [522, 262, 507, 1112, 143, 209, 53, 47, 110, 229, 73, 39]
def dIx : List (List Nat) := [[0, 249, 254, 260, 267, 275, 284, 294, 305], [0, 0, 255, 261, 268, 276, 285, 295, 306], [0, 0, 0, 262, 269, 277, 286, 296, 307], [0, 0, 0, 0, 270, 278, 287, 297, 308], [0, 0, 0, 0, 0, 279, 288, 298, 309], [0, 0, 0, 0, 0, 0, 289, 299, 310], [0, 0, 0, 0, 0, 0, 0, 300, 311], [0, 0, 0, 0, 0, 0, 0, 0, 312], [0, 0, 0, 0, 0, 0, 0, 0, 0]]
theorem st_ex : ∀ i, i < 54 → NR[sIx.getD i 0]? = some (.exactly (stT i) "java/lang/String") := by decide +kernel
theorem st_co : ∀ i, i < 54 → NR[sIx.getD i 0 + 1]? = some (.eq (.field (stT i) "java/lang/String" "coder" "B") (.int 0)) := by decide +kernel
theorem st_ar : ∀ i, i < 54 → NR[sIx.getD i 0 + 2]? = some (.arrayOf (.field (stT i) "java/lang/String" "value" "[B") .byte) := by decide +kernel
theorem st_le : ∀ i, i < 54 → NR[sIx.getD i 0 + 3]? = some (.eq (.length (.field (stT i) "java/lang/String" "value" "[B")) (.int (Int32.ofNat (xLen.getD i 0)))) := by decide +kernel
theorem st_el : ∀ i, i < 54 → ∀ j, j < xLen.getD i 0 → NR[sIx.getD i 0 + 4 + j]? = some (.eq (.elem (.field (stT i) "java/lang/String" "value" "[B") (.int (Int32.ofNat j))) (.int ((xByt.getD i []).getD j 0))) := by decide +kernel
theorem st_rf : ∀ i, i < 54 → tables_1[rIx.getD i 0]? = some (stR i) := by decide +kernel
theorem st_ln : ∀ i, i < 54 → xLen.getD i 0 < 2 ^ 31 := by decide +kernel
theorem xk_of {A : Nat → Prop} (N : ∀ w ∈ NR, w.before args s = true) (hA : ∀ a : Nat, a < s.heap.size → ¬ A a) : ∃ adK adV : Nat → Nat, xkS adK adV A s s.heap ∧ ∀ i, i < 54 → (stT i).eval args s none [] s = some (.ref (adK i)) := by
  have h0 : ∀ i : Nat, ∃ q : Nat × Nat, i < 54 → (stT i).eval args s none [] s = some (.ref q.1) ∧ va_O "java/lang/String" q.1 A s s.heap ∧ va_OF "java/lang/String" "coder" "B" (.int 0) q.1 A s s.heap ∧ va_OF "java/lang/String" "value" "[B" (.ref q.2) q.1 A s s.heap ∧ va_T .byte q.2 (xLen.getD i 0) (fun j => .int ((xByt.getD i []).getD j 0)) A s s.heap := by
    intro i
    by_cases hi : i < 54
    · obtain ⟨a, c, cA, kA, q1, q2, q3, q4, q5, q6, -⟩ := Cond.exactly_spec (args := args) (first := s) (o := none) (s := s) (idx := []) (nr_at N (st_ex i hi))
      obtain ⟨t, ht, hT⟩ := va_Tof (f := fun j => .int ((xByt.getD i []).getD j 0)) (A := A) (st_ln i hi) (nr_at N (st_ar i hi)) (va_eqt (nr_at N (st_le i hi))) (fun j hj => va_eqt (nr_at N (st_el i hi j hj))) hA
      exact ⟨(a, t), fun _ => ⟨q1, ⟨cA, q3, q5, by rw [q6]; exact q2, hA a (Array.getElem?_eq_some_iff.mp q3).1⟩, vk_OFof q1 (va_eqt (nr_at N (st_co i hi))) hA, vk_OFof q1 ht hA, hT⟩⟩
    · exact ⟨(0, 0), fun h => absurd h hi⟩
  obtain ⟨ad, had⟩ := Classical.axiomOfChoice h0
  exact ⟨fun i => (ad i).1, fun i => (ad i).2, fun i hi => (had i hi).2, fun i hi => (had i hi).1⟩
theorem xr_of {adK : Nat → Nat} (T : ∀ w ∈ tables_1, w.before args s = true) (hK : ∀ i, i < 54 → (stT i).eval args s none [] s = some (.ref (adK i))) : ∀ (i : Nat) (q : String × Nat × String), xStr[i]? = some q → vk_R q.1 q.2.1 q.2.2 (adK i) s := by
  intro i q hq
  have hi : i < 54 := (List.getElem?_eq_some_iff.mp hq).1
  have h1 := tb_at T (st_rf i hi)
  have h2 := hK i hi
  unfold stR at h1
  unfold stT at h2
  rw [hq] at h1 h2
  exact vk_R.of h1 h2
theorem cm_ls : ∀ i, i < 9 → tables_1[lIx.getD i 0]? = some (.laysStatic "TubHire$Command" (xCmd.getD i "") "LTubHire$Command;") := by decide +kernel
theorem cm_in : tables_1[10]? = some (.initialized "TubHire$Command") := by decide +kernel
theorem cm_ex : ∀ i, i < 9 → NR[cIx.getD i 0]? = some (.exactly (.static "TubHire$Command" (xCmd.getD i "") "LTubHire$Command;") "TubHire$Command") := by decide +kernel
theorem cm_or : ∀ i, i < 9 → NR[cIx.getD i 0 + 1]? = some (.eq (.field (.static "TubHire$Command" (xCmd.getD i "") "LTubHire$Command;") "java/lang/Enum" "ordinal" "I") (.int (([0, 1, 2, 3, 4, 5, 6, 7, 8] : List Int32).getD i 0))) := by decide +kernel
theorem cm_wd : ∀ i, i < 9 → NR[cIx.getD i 0 + 2]? = some (.eq (.field (.static "TubHire$Command" (xCmd.getD i "") "LTubHire$Command;") "TubHire$Command" "word" "Ljava/lang/String;") (stT (xWrd.getD i 0))) := by decide +kernel
theorem cm_dg : ∀ i, i < 9 → NR[cIx.getD i 0 + 3]? = some (.eq (.field (.static "TubHire$Command" (xCmd.getD i "") "LTubHire$Command;") "TubHire$Command" "digits" "I") (.int (([2, 1, 2, 1, 1, 2, 0, 0, 0] : List Int32).getD i 0))) := by decide +kernel
theorem cm_ne : ∀ i, i < 9 → ∀ j, j < 9 → i < j → NR[(dIx.getD i []).getD j 0]? = some (.not (.eq (.static "TubHire$Command" (xCmd.getD i "") "LTubHire$Command;") (.static "TubHire$Command" (xCmd.getD j "") "LTubHire$Command;"))) := by decide +kernel
theorem cm_w54 : ∀ i, i < 9 → xWrd.getD i 0 < 54 := by decide
theorem xe_of {A : Nat → Prop} {adK : Nat → Nat} (N : ∀ w ∈ NR, w.before args s = true) (T : ∀ w ∈ tables_1, w.before args s = true) (hK : ∀ i, i < 54 → (stT i).eval args s none [] s = some (.ref (adK i))) (hA : ∀ a : Nat, a < s.heap.size → ¬ A a) :
    ∃ ad : Nat → Nat, va_En "TubHire$Command" "LTubHire$Command;" xCmd xCmF ad A s s.heap ∧ (∀ i, i < 9 → va_OF "TubHire$Command" "word" "Ljava/lang/String;" (.ref (adK (xWrd.getD i 0))) (ad i) A s s.heap) ∧ ∀ i, i < 9 → (Term.static "TubHire$Command" (xCmd.getD i "") "LTubHire$Command;").eval args s none [] s = some (.ref (ad i)) := by
  obtain ⟨ad, h1, h2⟩ := va_Enof2 (E := "TubHire$Command") (d := "LTubHire$Command;") (nm := xCmd) (F := xCmF) (A := A) (args := args) (s := s) (fun i hi => tb_at T (cm_ls i hi)) (tb_at T cm_in) (fun i hi => nr_at N (cm_ex i hi)) (fun q hq i hi => by
      have hq2 : q = ("java/lang/Enum", "ordinal", "I", [0, 1, 2, 3, 4, 5, 6, 7, 8]) ∨ q = ("TubHire$Command", "digits", "I", [2, 1, 2, 1, 1, 2, 0, 0, 0]) := by
        rcases List.mem_cons.mp hq with e | hq
        · exact Or.inl e
        · exact Or.inr (List.mem_singleton.mp hq)
      rcases hq2 with rfl | rfl
      · exact nr_at N (cm_or i hi)
      · exact nr_at N (cm_dg i hi)) (fun i j hi hj hij => by
      rcases Nat.lt_or_ge i j with h | h
      · exact Or.inl (nr_at N (cm_ne i hi j hj h))
      · exact Or.inr (nr_at N (cm_ne j hj i hi (by omega)))) hA
  exact ⟨ad, h1, va_Efof (N := 9) (v := fun i => .ref (adK (xWrd.getD i 0))) (tm := fun i => stT (xWrd.getD i 0)) (fun i hi => h2 i hi) (fun i hi => nr_at N (cm_wd i hi)) (fun i hi => hK _ (cm_w54 i hi)) hA, fun i hi => h2 i hi⟩
theorem al_ls : tables_1[1359]? = some (.laysStatic "TubHire$Command" "ALL" "[LTubHire$Command;") := by decide +kernel
theorem al_in : tables_1[10]? = some (.initialized "TubHire$Command") := by decide +kernel
theorem al_ar : NR[221]? = some (.arrayOf (.static "TubHire$Command" "ALL" "[LTubHire$Command;") (FieldType.object "TubHire$Command")) := by decide +kernel
theorem al_le : NR[222]? = some (.eq (.length (.static "TubHire$Command" "ALL" "[LTubHire$Command;")) (.int (Int32.ofNat 9))) := by decide +kernel
theorem al_el : ∀ j, j < 9 → NR[224 + j]? = some (.eq (.elem (.static "TubHire$Command" "ALL" "[LTubHire$Command;") (.int (Int32.ofNat j))) (.static "TubHire$Command" (xCmd.getD j "") "LTubHire$Command;")) := by decide +kernel
theorem sw_ls : tables_1[1390]? = some (.laysStatic "TubHire$1" "$SwitchMap$TubHire$Command" "[I") := by decide +kernel
theorem sw_in : tables_1[34]? = some (.initialized "TubHire$1") := by decide +kernel
theorem sw_ar : NR[234]? = some (.arrayOf (.static "TubHire$1" "$SwitchMap$TubHire$Command" "[I") FieldType.int) := by decide +kernel
theorem sw_le : NR[235]? = some (.eq (.length (.static "TubHire$1" "$SwitchMap$TubHire$Command" "[I")) (.int (Int32.ofNat 9))) := by decide +kernel
theorem sw_el : ∀ j, j < 9 → NR[236 + j]? = some (.eq (.elem (.static "TubHire$1" "$SwitchMap$TubHire$Command" "[I") (.int (Int32.ofNat j))) (.int (xSwt.getD j 0))) := by decide +kernel
theorem dt_ls : tables_1[919]? = some (.laysStatic "java/lang/Integer" "DigitTens" "[B") := by decide +kernel
theorem dt_in : tables_1[24]? = some (.initialized "java/lang/Integer") := by decide +kernel
theorem dt_ar : NR[113]? = some (.arrayOf (.static "java/lang/Integer" "DigitTens" "[B") FieldType.byte) := by decide +kernel
theorem dt_le : NR[114]? = some (.eq (.length (.static "java/lang/Integer" "DigitTens" "[B")) (.int (Int32.ofNat 100))) := by decide +kernel
theorem dt_el : ∀ j, j < 100 → NR[115 + j]? = some (.eq (.elem (.static "java/lang/Integer" "DigitTens" "[B") (.int (Int32.ofNat j))) (.int (nI (48 + j / 10)))) := by decide +kernel
theorem dn_ls : tables_1[917]? = some (.laysStatic "java/lang/Integer" "DigitOnes" "[B") := by decide +kernel
theorem dn_in : tables_1[24]? = some (.initialized "java/lang/Integer") := by decide +kernel
theorem dn_ar : NR[10]? = some (.arrayOf (.static "java/lang/Integer" "DigitOnes" "[B") FieldType.byte) := by decide +kernel
theorem dn_le : NR[11]? = some (.eq (.length (.static "java/lang/Integer" "DigitOnes" "[B")) (.int (Int32.ofNat 100))) := by decide +kernel
theorem dn_el : ∀ j, j < 100 → NR[12 + j]? = some (.eq (.elem (.static "java/lang/Integer" "DigitOnes" "[B") (.int (Int32.ofNat j))) (.int (nI (48 + j % 10)))) := by decide +kernel
theorem cs_ls : tables_1[271]? = some (.laysStatic "java/lang/String" "COMPACT_STRINGS" "Z") := by decide +kernel
theorem cs_in : tables_1[13]? = some (.initialized "java/lang/String") := by decide +kernel
theorem cs_eq : NR[6]? = some (.eq (.static "java/lang/String" "COMPACT_STRINGS" "Z") (.int 1)) := by decide +kernel
theorem us9_ls : tables_1[397]? = some (.laysStatic Bundle.tN "UNASSIGNED_STACK" Bundle.steD) := by decide +kernel
theorem us9_in : tables_1[16]? = some (.initialized Bundle.tN) := by decide +kernel
theorem us9_rf : NR[7]? = some (.isRef (.static Bundle.tN "UNASSIGNED_STACK" Bundle.steD)) := by decide +kernel
theorem ss9_ls : tables_1[399]? = some (.laysStatic Bundle.tN "SUPPRESSED_SENTINEL" Bundle.listD) := by decide +kernel
theorem ss9_in : tables_1[16]? = some (.initialized Bundle.tN) := by decide +kernel
theorem ss9_rf : NR[8]? = some (.isRef (.static Bundle.tN "SUPPRESSED_SENTINEL" Bundle.listD)) := by decide +kernel
theorem sf9_ls : tables_1[933]? = some (.laysStatic "jdk/internal/util/Preconditions" "SIOOBE_FORMATTER" "Ljava/util/function/BiFunction;") := by decide +kernel
theorem sf9_in : tables_1[30]? = some (.initialized "jdk/internal/util/Preconditions") := by decide +kernel
theorem sf9_rf : NR[215]? = some (.isRef (.static "jdk/internal/util/Preconditions" "SIOOBE_FORMATTER" "Ljava/util/function/BiFunction;")) := by decide +kernel
theorem xno_i : ∀ i, i < 25 → ∀ q, xNo[i]? = some q → NR[nIx.getD i 0]? = some (.not (.castable q.1 q.2)) := by
  have h : ∀ i, i < 25 → NR[nIx.getD i 0]? = some (.not (.castable (xNo.getD i ("", "")).1 (xNo.getD i ("", "")).2)) := by decide +kernel
  intro i hi q hq
  rw [h i hi, List.getD_eq_getElem?_getD, hq]
  rfl
theorem xca_i : ∀ i, i < 6 → tables_1[kIx.getD i 0]? = some (.castable (xCa.getD i "") (xCa.getD i "")) := by decide +kernel
theorem xde_i : ∀ i, i < 3 → tables_1[eIx.getD i 0]? = some (.declares (Bundle.initS (xDe.getD i ""))) := by decide +kernel
theorem xao_i : ∀ i, i < 4 → tables_1[oIx.getD i 0]? = some (.arrayOver (.object (xAO.getD i ""))) := by decide +kernel
theorem xnm_i : ∀ i, i < 5 → tables_1[mIx.getD i 0]? = some (.methodLinkNest (xNM.getD i ("", 0, ⟨"", "", ""⟩, "")).1 (xNM.getD i ("", 0, ⟨"", "", ""⟩, "")).2.1 (xNM.getD i ("", 0, ⟨"", "", ""⟩, "")).2.2.1 (xNM.getD i ("", 0, ⟨"", "", ""⟩, "")).2.2.2) := by decide +kernel
theorem xfl_i : tables_1[1358]? = some (.fieldLinkNest "TubHire$Text" 53 "TubHire$Command" "ALL" "[LTubHire$Command;" "TubHire") := by decide +kernel
theorem mem_i {α : Type} {l : List α} {q : α} (h : q ∈ l) : ∃ i, i < l.length ∧ l[i]? = some q := by
  obtain ⟨i, hi, e⟩ := List.getElem_of_mem h
  exact ⟨i, hi, by rw [List.getElem?_eq_getElem hi, e]⟩
theorem xu_of (N : ∀ w ∈ NR, w.before args s = true) (T : ∀ w ∈ tables_1, w.before args s = true) : xU s := by
  refine ⟨fun q hq => ?_, va_Nw.of rfl (tb_at T xfl_i), fun q hq => ?_, fun q hq => ?_, fun q hq => ?_, fun q hq => ?_⟩
  · obtain ⟨i, hi, e⟩ := mem_i hq
    have h := tb_at T (xnm_i i hi)
    rw [List.getD_eq_getElem?_getD, e] at h
    exact va_Nw.of rfl h
  · obtain ⟨i, hi, e⟩ := mem_i hq
    have h := tb_at T (xao_i i hi)
    rw [List.getD_eq_getElem?_getD, e] at h
    exact va_AO.of h
  · obtain ⟨i, hi, e⟩ := mem_i hq
    have h := tb_at T (xca_i i hi)
    rw [List.getD_eq_getElem?_getD, e] at h
    exact va_Nw.of rfl h
  · obtain ⟨i, hi, e⟩ := mem_i hq
    exact va_Nc.of (nr_at N (xno_i i hi q e))
  · obtain ⟨i, hi, e⟩ := mem_i hq
    have h := tb_at T (xde_i i hi)
    rw [List.getD_eq_getElem?_getD, e] at h
    exact va_Nw.of rfl h
theorem xk_arr {ty : FieldType} (hp : (match ty with | .object _ => False | _ => True)) (h : (Cond.arrayClass ty).before args s = true) : ∃ cA, ArrOfT s cA ty ∧ va_RA s cA ty := by
  obtain ⟨c, k, comp, h1, h2, h3⟩ := Cond.arrayClass_spec h
  refine ⟨c, fun n z => ⟨(fun k h => by cases h), k, h2, comp, h3⟩, ?_⟩
  cases ty <;> first | exact h1 | exact absurd hp id
theorem xk_obj {C : String} (h : (Cond.arrayOver (.object C)).before args s = true) : ∃ cA, ArrOfT s cA (.object C) ∧ va_RA s cA (.object C) := by
  obtain ⟨comp, c, k, h1, h2, h3, h4, h5⟩ := Cond.arrayOver_spec h
  exact ⟨c, fun n z => ⟨(fun k h => by cases h), k, h3, comp, h4⟩, k, comp, h3, h4, h1, h5⟩
theorem xin_i : ∀ i, i < 12 → tables_1[iIx.getD i 0]? = some (.instantiable (vwCl.getD i ("", TJ0, 0)).1 (vwCl.getD i ("", TJ0, 0)).2.2) := by decide +kernel
theorem xkc_of (hts : ∀ w ∈ xAll, w.before args s = true) (T : ∀ w ∈ tables_1, w.before args s = true) : ∃ D : va_G, ∀ (c : Nat) (q : vw_C), vwCl[c]? = some q → u_Kn s q.1 q.2.1 q.2.2 (D.1 c) (D.2 c) := by
  have h : ∀ c : Nat, ∃ z : ClassId × (Nat → Nat), ∀ q : vw_C, vwCl[c]? = some q → u_Kn s q.1 q.2.1 q.2.2 z.1 z.2 := by
    intro c
    match c with
    | 0 =>
      obtain ⟨a, b, h⟩ := u_known (C := RJ0) (T := TJ0) (N := 4) (n := 4) hts inJ0 (tb_at T (xin_i 0 (by decide)))
      exact ⟨(a, b), fun q hq => by cases hq; exact h⟩
    | 1 =>
      obtain ⟨a, b, h⟩ := u_known (C := RJ4) (T := TJ4) (N := 4) (n := 4) hts inJ4 (tb_at T (xin_i 1 (by decide)))
      exact ⟨(a, b), fun q hq => by cases hq; exact h⟩
    | 2 =>
      obtain ⟨a, b, h⟩ := u_known (C := RJx00060) (T := TJx00060) (N := 6) (n := 6) hts inJx00060 (tb_at T (xin_i 2 (by decide)))
      exact ⟨(a, b), fun q hq => by cases hq; exact h⟩
    | 3 =>
      obtain ⟨a, b, h⟩ := u_known (C := RJx7c733) (T := TJx7c733) (N := 6) (n := 6) hts inJx7c733 (tb_at T (xin_i 3 (by decide)))
      exact ⟨(a, b), fun q hq => by cases hq; exact h⟩
    | 4 =>
      obtain ⟨a, b, h⟩ := u_known (C := RX2) (T := TX2) (N := 2) (n := 2) hts inX2 (tb_at T (xin_i 4 (by decide)))
      exact ⟨(a, b), fun q hq => by cases hq; exact h⟩
    | 5 =>
      obtain ⟨a, b, h⟩ := u_known (C := RX3) (T := TX3) (N := 3) (n := 3) hts inX3 (tb_at T (xin_i 5 (by decide)))
      exact ⟨(a, b), fun q hq => by cases hq; exact h⟩
    | 6 =>
      obtain ⟨a, b, h⟩ := u_known (C := RX4) (T := TX4) (N := 2) (n := 2) hts inX4 (tb_at T (xin_i 6 (by decide)))
      exact ⟨(a, b), fun q hq => by cases hq; exact h⟩
    | 7 =>
      obtain ⟨a, b, h⟩ := u_known (C := RX5) (T := TX5) (N := 14) (n := 14) hts inX5 (tb_at T (xin_i 7 (by decide)))
      exact ⟨(a, b), fun q hq => by cases hq; exact h⟩
    | 8 =>
      obtain ⟨a, b, h⟩ := u_known (C := RX6) (T := TX6) (N := 6) (n := 6) hts inX6 (tb_at T (xin_i 8 (by decide)))
      exact ⟨(a, b), fun q hq => by cases hq; exact h⟩
    | 9 =>
      obtain ⟨a, b, h⟩ := u_known (C := RX7) (T := TX7) (N := 6) (n := 6) hts inX7 (tb_at T (xin_i 9 (by decide)))
      exact ⟨(a, b), fun q hq => by cases hq; exact h⟩
    | 10 =>
      obtain ⟨a, b, h⟩ := u_known (C := RX8) (T := TX8) (N := 7) (n := 7) hts inX8 (tb_at T (xin_i 10 (by decide)))
      exact ⟨(a, b), fun q hq => by cases hq; exact h⟩
    | 11 =>
      obtain ⟨a, b, h⟩ := u_known (C := RX9) (T := TX9) (N := 8) (n := 8) hts inX9 (tb_at T (xin_i 11 (by decide)))
      exact ⟨(a, b), fun q hq => by cases hq; exact h⟩
    | c + 12 => exact ⟨(0, fun _ => 0), fun q hq => by simp [vwCl] at hq⟩
  obtain ⟨z, hz⟩ := Classical.axiomOfChoice h
  exact ⟨(fun c => (z c).1, fun c => (z c).2), fun c q hq => hz c q hq⟩
theorem ac_int : tables_1[142]? = some (.arrayClass .int) := by decide +kernel
theorem ac_char : tables_1[260]? = some (.arrayClass .char) := by decide +kernel
theorem ac_byte : tables_1[293]? = some (.arrayClass .byte) := by decide +kernel
theorem ac_long : tables_1[1401]? = some (.arrayClass .long) := by decide +kernel
theorem xkt_of (T : ∀ w ∈ tables_1, w.before args s = true) : ∃ ca : Nat → ClassId, ∀ (G : va_G) (E2 : ((Nat → Nat) × (Nat → Nat) × (Nat → Nat)) × (Nat × Nat × (Nat → Int32))) (k : Nat) (q : ClassId × FieldType), (xTys ((G, ca), E2))[k]? = some q → ArrOfT s q.1 q.2 ∧ va_RA s q.1 q.2 := by
  obtain ⟨c0, h0⟩ := xk_arr (ty := .int) trivial (tb_at T ac_int)
  obtain ⟨c1, h1⟩ := xk_arr (ty := .char) trivial (tb_at T ac_char)
  obtain ⟨c2, h2⟩ := xk_obj (C := "TubHire$Tub") (tb_at T (xao_i 0 (by decide)))
  obtain ⟨c3, h3⟩ := xk_obj (C := "TubHire$Tent") (tb_at T (xao_i 1 (by decide)))
  obtain ⟨c4, h4⟩ := xk_obj (C := "TubHire$Heater") (tb_at T (xao_i 2 (by decide)))
  obtain ⟨c5, h5⟩ := xk_obj (C := "TubHire$Store") (tb_at T (xao_i 3 (by decide)))
  obtain ⟨c7, h7⟩ := xk_arr (ty := .byte) trivial (tb_at T ac_byte)
  obtain ⟨c8, h8⟩ := xk_arr (ty := .long) trivial (tb_at T ac_long)
  refine ⟨fun k => match k with | 0 => c0 | 1 => c1 | 2 => c2 | 3 => c3 | 4 => c4 | 5 => c5 | 6 => c0 | 7 => c7 | _ => c8, fun G E2 k q hq => ?_⟩
  match k, hq with
  | 0, hq => cases hq; exact h0
  | 1, hq => cases hq; exact h1
  | 2, hq => cases hq; exact h2
  | 3, hq => cases hq; exact h3
  | 4, hq => cases hq; exact h4
  | 5, hq => cases hq; exact h5
  | 6, hq => cases hq; exact h0
  | 7, hq => cases hq; exact h7
  | 8, hq => cases hq; exact h8
  | k + 9, hq => simp at hq
/-- THE START: what every word of it is -/
theorem xenv_of {b L : Nat} {xs : Nat → Int32} (N : ∀ w ∈ NR, w.before args s = true) (T : ∀ w ∈ tables_1, w.before args s = true) (hts : ∀ w ∈ xAll, w.before args s = true) (hX : va_X b L xs s s.heap) (hb : b < s.heap.size) : ∃ E : xE, E.2.2 = (b, L, xs) ∧ xEnv E (xA (fun _ => none, s.heap.size)) s := by
  have hA : ∀ a : Nat, a < s.heap.size → ¬ xA (fun _ => none, s.heap.size) a := fun a ha z => z.elim (fun z => z rfl) (fun z => Nat.not_le.mpr ha z)
  obtain ⟨adK, adV, hS, hK⟩ := xk_of N hA
  obtain ⟨ad, hE, hW, hD⟩ := xe_of N T hK hA
  obtain ⟨tA, eA, -⟩ := va_Tof (tm := .static "TubHire$Command" "ALL" "[LTubHire$Command;") (ty := .object "TubHire$Command") (N := 9) (f := fun k => .ref (ad k)) (by decide) (nr_at N al_ar) (va_eqt (nr_at N al_le)) (fun j hj => va_eqv (nr_at N (al_el j hj)) (hD j hj)) hA
  obtain ⟨tS, eS, vS⟩ := va_Tof (tm := .static "TubHire$1" "$SwitchMap$TubHire$Command" "[I") (ty := .int) (N := 9) (f := fun k => .int (xSwt.getD k 0)) (by decide) (nr_at N sw_ar) (va_eqt (nr_at N sw_le)) (fun j hj => va_eqt (nr_at N (sw_el j hj))) hA
  obtain ⟨tT, eT, vT⟩ := va_Tof (tm := .static "java/lang/Integer" "DigitTens" "[B") (ty := .byte) (N := 100) (f := fun k => .int (nI (48 + k / 10))) (by decide) (nr_at N dt_ar) (va_eqt (nr_at N dt_le)) (fun j hj => va_eqt (nr_at N (dt_el j hj))) hA
  obtain ⟨tO, eO, vO⟩ := va_Tof (tm := .static "java/lang/Integer" "DigitOnes" "[B") (ty := .byte) (N := 100) (f := fun k => .int (nI (48 + k % 10))) (by decide) (nr_at N dn_ar) (va_eqt (nr_at N dn_le)) (fun j hj => va_eqt (nr_at N (dn_el j hj))) hA
  obtain ⟨ad2, p0, p1, p2, p3, p4⟩ : ∃ ad2 : Nat → Nat, (∀ i, i < 9 → ad2 i = ad i) ∧ ad2 100 = tA ∧ ad2 101 = tS ∧ ad2 102 = tT ∧ ad2 103 = tO := ⟨fun k => if k < 9 then ad k else if k = 100 then tA else if k = 101 then tS else if k = 102 then tT else tO, fun i hi => if_pos hi, rfl, rfl, rfl, rfl⟩
  obtain ⟨tA2, eA2, vA⟩ := va_Tof (tm := .static "TubHire$Command" "ALL" "[LTubHire$Command;") (ty := .object "TubHire$Command") (N := 9) (f := fun k => .ref (ad2 k)) (by decide) (nr_at N al_ar) (va_eqt (nr_at N al_le)) (fun j hj => va_eqv (nr_at N (al_el j hj)) (by rw [p0 j hj]; exact hD j hj)) hA
  have eq9 : tA2 = tA := by
    have := eA2.symm.trans eA
    injection this with this
    injection this
  subst eq9
  obtain ⟨G, hG⟩ := xkc_of hts T
  obtain ⟨ca, hc⟩ := xkt_of T
  refine ⟨((G, ca), (adK, adV, ad2), (b, L, xs)), rfl, ⟨hG, fun k q hq => hc G _ k q hq⟩, ⟨vx_Zqof (tb_at T us9_ls) (tb_at T us9_in) (nr_at N us9_rf) hA, vx_Zqof (tb_at T ss9_ls) (tb_at T ss9_in) (nr_at N ss9_rf) hA⟩, xr_of T hK, ⟨hS, trivial⟩, ⟨⟨fun i hi => ?_, fun i j hi hj e => ?_⟩, fun i hi => ?_⟩, ⟨?_, ?_⟩, ⟨?_, ?_⟩, ⟨hX, hA b hb⟩, xu_of N T, ?_, ⟨?_, ?_⟩, ⟨?_, ?_⟩, ?_⟩
  · have h9 := hE.1 i hi
    rw [← p0 i hi] at h9
    exact h9
  · refine hE.2 i j hi hj ?_
    rw [← p0 i hi, ← p0 j hj]; exact e
  · show va_OF _ _ _ _ (ad2 i) _ _ _
    rw [p0 i hi]; exact hW i hi
  · show va_Z _ _ _ (.ref (ad2 100)) _ _ _
    rw [p1]; exact va_Zref (tb_at T al_ls) (tb_at T al_in) eA2 hA
  · show va_T _ (ad2 100) _ _ _ _ _
    rw [p1]; exact vA
  · show va_Z _ _ _ (.ref (ad2 101)) _ _ _
    rw [p2]; exact va_Zref (tb_at T sw_ls) (tb_at T sw_in) eS hA
  · show va_T _ (ad2 101) _ _ _ _ _
    rw [p2]; exact vS
  · exact va_Zof (tb_at T cs_ls) (tb_at T cs_in) (va_eqt (nr_at N cs_eq)) hA
  · show va_Z _ _ _ (.ref (ad2 102)) _ _ _
    rw [p3]; exact va_Zref (tb_at T dt_ls) (tb_at T dt_in) eT hA
  · show va_T _ (ad2 102) _ _ _ _ _
    rw [p3]; exact vT
  · show va_Z _ _ _ (.ref (ad2 103)) _ _ _
    rw [p4]; exact va_Zref (tb_at T dn_ls) (tb_at T dn_in) eO hA
  · show va_T _ (ad2 103) _ _ _ _ _
    rw [p4]; exact vO
  · exact va_Zqof (tb_at T sf9_ls) (tb_at T sf9_in) (nr_at N sf9_rf) hA
end START
